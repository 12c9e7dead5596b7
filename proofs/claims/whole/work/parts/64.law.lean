section LAW
variable {G : List AT} {m : Nat → Nat → Int32} {ml : Nat → Nat → Int64} {i L : Nat} {Q : Option Value → Mm → Prop}
theorem lw_0 (hW : GW G) (hM : GM G) (h : INV m ml) (hs : atg G 0 = 5) (hL : i + 8 ≤ aln G 0) (h2 : aln G 0 < 1000000) (kk : ∀ m' ml', INV m' ml' → m' 0 = m 0 → Wp mL_law 18 [some (.ref 0), some (.ref 2), some (.ref 158), some (.int (nI (i + 8)))] [] (G, m', ml') Q) : Wp mL_law 184 [some (.ref 0), some (.ref 2), some (.ref 158), some (.int (nI i))] [] (G, m, ml) Q := by
  obtain ⟨v, m1, ml1, m2, ml2, e1, e2, I2, z1, z2⟩ := op_teller (u := m 0 (i + 1)) (v := m 0 (i + 2)) hW hM h
  have g0 := hW.1.1
  have g1 := hM.1.1
  simp (maxSteps := 1000000) (decide := true) (disch := (first | assumption | omega | exact Nat.div_mul_le_self _ _ | exact ni_nz (by omega) (by omega) | exact rfl | exact retOk_bI _ | exact retOk_0 | exact retOk_1)) only [eL_law_184, eL_law_185, eL_law_186, eL_law_187, eL_law_188, eL_law_189, eL_law_190, eL_law_191, eL_law_192, eL_law_193, eL_law_194, eL_law_195, eL_law_198, eL_law_199, eL_law_200, eL_law_201, eL_law_202, eL_law_203, eL_law_204, eL_law_205, eL_law_206, eL_law_207, eL_law_208, eL_law_209, eL_law_212, eL_law_215, eL_law_216, eL_law_1300, eL_law_1303, z1, e1, e2, WpR_some, Option.toList_some, Option.toList_none, List.cons_append, List.nil_append, List.append_nil, clr_n, clr_i, clr_a, ni_add, ni_mul, ni_sub, ni_lt, ni_le, ni_eq, ni_div, nat_mod_eq, ni_rem, iMax_nn, iMin_nn, iMax_sub, Nat.zero_max, bI_0, bI_1, bI_n0, up2_s, up2_n, up2_k, va_up_self, va_up_ne, ni_l, lN_mul, lN_add, ln_mask, lN_i, ↓reduceIte, if_true, if_false, not_true_eq_false, not_false_eq_true, ite_self, Nat.add_zero, Nat.zero_add, ent_def]
  exact kk m2 ml2 I2 z2
theorem lw_1 (hW : GW G) (hM : GM G) (h : INV m ml) (hs : atg G 0 = 5) (hL : i + 8 ≤ aln G 0) (h2 : aln G 0 < 1000000) (kk : ∀ m' ml', INV m' ml' → m' 0 = m 0 → Wp mL_law 18 [some (.ref 0), some (.ref 2), some (.ref 158), some (.int (nI (i + 8)))] [] (G, m', ml') Q) : Wp mL_law 217 [some (.ref 0), some (.ref 2), some (.ref 158), some (.int (nI i))] [] (G, m, ml) Q := by
  obtain ⟨v, m1, ml1, m2, ml2, e1, e2, I2, z1, z2⟩ := op_hearer (u := m 0 (i + 1)) hW hM h
  have g0 := hW.1.1
  have g1 := hM.1.1
  simp (maxSteps := 1000000) (decide := true) (disch := (first | assumption | omega | exact Nat.div_mul_le_self _ _ | exact ni_nz (by omega) (by omega) | exact rfl | exact retOk_bI _ | exact retOk_0 | exact retOk_1)) only [eL_law_217, eL_law_218, eL_law_219, eL_law_220, eL_law_221, eL_law_222, eL_law_223, eL_law_226, eL_law_227, eL_law_228, eL_law_229, eL_law_230, eL_law_231, eL_law_232, eL_law_235, eL_law_238, eL_law_239, eL_law_1300, eL_law_1303, z1, e1, e2, WpR_some, Option.toList_some, Option.toList_none, List.cons_append, List.nil_append, List.append_nil, clr_n, clr_i, clr_a, ni_add, ni_mul, ni_sub, ni_lt, ni_le, ni_eq, ni_div, nat_mod_eq, ni_rem, iMax_nn, iMin_nn, iMax_sub, Nat.zero_max, bI_0, bI_1, bI_n0, up2_s, up2_n, up2_k, va_up_self, va_up_ne, ni_l, lN_mul, lN_add, ln_mask, lN_i, ↓reduceIte, if_true, if_false, not_true_eq_false, not_false_eq_true, ite_self, Nat.add_zero, Nat.zero_add, ent_def]
  exact kk m2 ml2 I2 z2
theorem lw_2 (hW : GW G) (hM : GM G) (h : INV m ml) (hs : atg G 0 = 5) (hL : i + 8 ≤ aln G 0) (h2 : aln G 0 < 1000000) (kk : ∀ m' ml', INV m' ml' → m' 0 = m 0 → Wp mL_law 18 [some (.ref 0), some (.ref 2), some (.ref 158), some (.int (nI (i + 8)))] [] (G, m', ml') Q) : Wp mL_law 240 [some (.ref 0), some (.ref 2), some (.ref 158), some (.int (nI i))] [] (G, m, ml) Q := by
  obtain ⟨v, m1, ml1, m2, ml2, e1, e2, I2, z1, z2⟩ := op_of (u := m 0 (i + 1)) (v := m 0 (i + 2)) hW hM h
  have g0 := hW.1.1
  have g1 := hM.1.1
  simp (maxSteps := 1000000) (decide := true) (disch := (first | assumption | omega | exact Nat.div_mul_le_self _ _ | exact ni_nz (by omega) (by omega) | exact rfl | exact retOk_bI _ | exact retOk_0 | exact retOk_1)) only [eL_law_240, eL_law_241, eL_law_242, eL_law_243, eL_law_244, eL_law_245, eL_law_246, eL_law_247, eL_law_248, eL_law_249, eL_law_250, eL_law_251, eL_law_254, eL_law_255, eL_law_256, eL_law_257, eL_law_258, eL_law_259, eL_law_260, eL_law_261, eL_law_262, eL_law_263, eL_law_264, eL_law_265, eL_law_268, eL_law_271, eL_law_272, eL_law_1300, eL_law_1303, z1, e1, e2, WpR_some, Option.toList_some, Option.toList_none, List.cons_append, List.nil_append, List.append_nil, clr_n, clr_i, clr_a, ni_add, ni_mul, ni_sub, ni_lt, ni_le, ni_eq, ni_div, nat_mod_eq, ni_rem, iMax_nn, iMin_nn, iMax_sub, Nat.zero_max, bI_0, bI_1, bI_n0, up2_s, up2_n, up2_k, va_up_self, va_up_ne, ni_l, lN_mul, lN_add, ln_mask, lN_i, ↓reduceIte, if_true, if_false, not_true_eq_false, not_false_eq_true, ite_self, Nat.add_zero, Nat.zero_add, ent_def]
  exact kk m2 ml2 I2 z2
theorem lw_3 (hW : GW G) (hM : GM G) (h : INV m ml) (hs : atg G 0 = 5) (hL : i + 8 ≤ aln G 0) (h2 : aln G 0 < 1000000) (kk : ∀ m' ml', INV m' ml' → m' 0 = m 0 → Wp mL_law 18 [some (.ref 0), some (.ref 2), some (.ref 158), some (.int (nI (i + 8)))] [] (G, m', ml') Q) : Wp mL_law 273 [some (.ref 0), some (.ref 2), some (.ref 158), some (.int (nI i))] [] (G, m, ml) Q := by
  obtain ⟨v, m1, ml1, m2, ml2, e1, e2, I2, z1, z2⟩ := op_at (u := m 0 (i + 1)) (v := m 0 (i + 2)) hW hM h
  have g0 := hW.1.1
  have g1 := hM.1.1
  simp (maxSteps := 1000000) (decide := true) (disch := (first | assumption | omega | exact Nat.div_mul_le_self _ _ | exact ni_nz (by omega) (by omega) | exact rfl | exact retOk_bI _ | exact retOk_0 | exact retOk_1)) only [eL_law_273, eL_law_274, eL_law_275, eL_law_276, eL_law_277, eL_law_278, eL_law_279, eL_law_280, eL_law_281, eL_law_282, eL_law_283, eL_law_284, eL_law_287, eL_law_288, eL_law_289, eL_law_290, eL_law_291, eL_law_292, eL_law_293, eL_law_294, eL_law_295, eL_law_296, eL_law_297, eL_law_298, eL_law_301, eL_law_304, eL_law_305, eL_law_1300, eL_law_1303, z1, e1, e2, WpR_some, Option.toList_some, Option.toList_none, List.cons_append, List.nil_append, List.append_nil, clr_n, clr_i, clr_a, ni_add, ni_mul, ni_sub, ni_lt, ni_le, ni_eq, ni_div, nat_mod_eq, ni_rem, iMax_nn, iMin_nn, iMax_sub, Nat.zero_max, bI_0, bI_1, bI_n0, up2_s, up2_n, up2_k, va_up_self, va_up_ne, ni_l, lN_mul, lN_add, ln_mask, lN_i, ↓reduceIte, if_true, if_false, not_true_eq_false, not_false_eq_true, ite_self, Nat.add_zero, Nat.zero_add, ent_def]
  exact kk m2 ml2 I2 z2
theorem lw_4 (hW : GW G) (hM : GM G) (h : INV m ml) (hs : atg G 0 = 5) (hL : i + 8 ≤ aln G 0) (h2 : aln G 0 < 1000000) (kk : ∀ m' ml', INV m' ml' → m' 0 = m 0 → Wp mL_law 18 [some (.ref 0), some (.ref 2), some (.ref 158), some (.int (nI (i + 8)))] [] (G, m', ml') Q) : Wp mL_law 306 [some (.ref 0), some (.ref 2), some (.ref 158), some (.int (nI i))] [] (G, m, ml) Q := by
  obtain ⟨v, m1, ml1, m2, ml2, e1, e2, I2, z1, z2⟩ := op_heard (u := m 0 (i + 1)) (v := m 0 (i + 2)) hW hM h
  have g0 := hW.1.1
  have g1 := hM.1.1
  simp (maxSteps := 1000000) (decide := true) (disch := (first | assumption | omega | exact Nat.div_mul_le_self _ _ | exact ni_nz (by omega) (by omega) | exact rfl | exact retOk_bI _ | exact retOk_0 | exact retOk_1)) only [eL_law_306, eL_law_307, eL_law_308, eL_law_309, eL_law_310, eL_law_311, eL_law_312, eL_law_313, eL_law_314, eL_law_315, eL_law_316, eL_law_317, eL_law_320, eL_law_321, eL_law_322, eL_law_323, eL_law_324, eL_law_325, eL_law_326, eL_law_327, eL_law_328, eL_law_329, eL_law_330, eL_law_331, eL_law_334, eL_law_337, eL_law_338, eL_law_1300, eL_law_1303, z1, e1, e2, WpR_some, Option.toList_some, Option.toList_none, List.cons_append, List.nil_append, List.append_nil, clr_n, clr_i, clr_a, ni_add, ni_mul, ni_sub, ni_lt, ni_le, ni_eq, ni_div, nat_mod_eq, ni_rem, iMax_nn, iMin_nn, iMax_sub, Nat.zero_max, bI_0, bI_1, bI_n0, up2_s, up2_n, up2_k, va_up_self, va_up_ne, ni_l, lN_mul, lN_add, ln_mask, lN_i, ↓reduceIte, if_true, if_false, not_true_eq_false, not_false_eq_true, ite_self, Nat.add_zero, Nat.zero_add, ent_def]
  exact kk m2 ml2 I2 z2
theorem lw_5 (hW : GW G) (hM : GM G) (h : INV m ml) (hs : atg G 0 = 5) (hL : i + 8 ≤ aln G 0) (h2 : aln G 0 < 1000000) (kk : ∀ m' ml', INV m' ml' → m' 0 = m 0 → Wp mL_law 18 [some (.ref 0), some (.ref 2), some (.ref 158), some (.int (nI (i + 8)))] [] (G, m', ml') Q) : Wp mL_law 339 [some (.ref 0), some (.ref 2), some (.ref 158), some (.int (nI i))] [] (G, m, ml) Q := by
  obtain ⟨v, m1, ml1, m2, ml2, e1, e2, I2, z1, z2⟩ := op_type (u := m 0 (i + 1)) hW hM h
  have g0 := hW.1.1
  have g1 := hM.1.1
  simp (maxSteps := 1000000) (decide := true) (disch := (first | assumption | omega | exact Nat.div_mul_le_self _ _ | exact ni_nz (by omega) (by omega) | exact rfl | exact retOk_bI _ | exact retOk_0 | exact retOk_1)) only [eL_law_339, eL_law_340, eL_law_341, eL_law_342, eL_law_343, eL_law_344, eL_law_345, eL_law_348, eL_law_349, eL_law_350, eL_law_351, eL_law_352, eL_law_353, eL_law_354, eL_law_357, eL_law_360, eL_law_361, eL_law_1300, eL_law_1303, z1, e1, e2, WpR_some, Option.toList_some, Option.toList_none, List.cons_append, List.nil_append, List.append_nil, clr_n, clr_i, clr_a, ni_add, ni_mul, ni_sub, ni_lt, ni_le, ni_eq, ni_div, nat_mod_eq, ni_rem, iMax_nn, iMin_nn, iMax_sub, Nat.zero_max, bI_0, bI_1, bI_n0, up2_s, up2_n, up2_k, va_up_self, va_up_ne, ni_l, lN_mul, lN_add, ln_mask, lN_i, ↓reduceIte, if_true, if_false, not_true_eq_false, not_false_eq_true, ite_self, Nat.add_zero, Nat.zero_add, ent_def]
  exact kk m2 ml2 I2 z2
theorem lw_6 (hW : GW G) (hM : GM G) (h : INV m ml) (hs : atg G 0 = 5) (hL : i + 8 ≤ aln G 0) (h2 : aln G 0 < 1000000) (kk : ∀ m' ml', INV m' ml' → m' 0 = m 0 → Wp mL_law 18 [some (.ref 0), some (.ref 2), some (.ref 158), some (.int (nI (i + 8)))] [] (G, m', ml') Q) : Wp mL_law 362 [some (.ref 0), some (.ref 2), some (.ref 158), some (.int (nI i))] [] (G, m, ml) Q := by
  obtain ⟨v, m1, ml1, m2, ml2, e1, e2, I2, z1, z2⟩ := op_list  hW hM h
  have g0 := hW.1.1
  have g1 := hM.1.1
  simp (maxSteps := 1000000) (decide := true) (disch := (first | assumption | omega | exact Nat.div_mul_le_self _ _ | exact ni_nz (by omega) (by omega) | exact rfl | exact retOk_bI _ | exact retOk_0 | exact retOk_1)) only [eL_law_362, eL_law_363, eL_law_366, eL_law_367, eL_law_370, eL_law_373, eL_law_374, eL_law_1300, eL_law_1303, z1, e1, e2, WpR_some, Option.toList_some, Option.toList_none, List.cons_append, List.nil_append, List.append_nil, clr_n, clr_i, clr_a, ni_add, ni_mul, ni_sub, ni_lt, ni_le, ni_eq, ni_div, nat_mod_eq, ni_rem, iMax_nn, iMin_nn, iMax_sub, Nat.zero_max, bI_0, bI_1, bI_n0, up2_s, up2_n, up2_k, va_up_self, va_up_ne, ni_l, lN_mul, lN_add, ln_mask, lN_i, ↓reduceIte, if_true, if_false, not_true_eq_false, not_false_eq_true, ite_self, Nat.add_zero, Nat.zero_add, ent_def]
  exact kk m2 ml2 I2 z2
theorem lw_7 (hW : GW G) (hM : GM G) (h : INV m ml) (hs : atg G 0 = 5) (hL : i + 8 ≤ aln G 0) (h2 : aln G 0 < 1000000) (kk : ∀ m' ml', INV m' ml' → m' 0 = m 0 → Wp mL_law 18 [some (.ref 0), some (.ref 2), some (.ref 158), some (.int (nI (i + 8)))] [] (G, m', ml') Q) : Wp mL_law 375 [some (.ref 0), some (.ref 2), some (.ref 158), some (.int (nI i))] [] (G, m, ml) Q := by
  obtain ⟨v, m1, ml1, m2, ml2, e1, e2, I2, z1, z2⟩ := op_count (u := m 0 (i + 1)) hW hM h
  have g0 := hW.1.1
  have g1 := hM.1.1
  simp (maxSteps := 1000000) (decide := true) (disch := (first | assumption | omega | exact Nat.div_mul_le_self _ _ | exact ni_nz (by omega) (by omega) | exact rfl | exact retOk_bI _ | exact retOk_0 | exact retOk_1)) only [eL_law_375, eL_law_376, eL_law_377, eL_law_378, eL_law_379, eL_law_380, eL_law_381, eL_law_384, eL_law_385, eL_law_386, eL_law_387, eL_law_388, eL_law_389, eL_law_390, eL_law_393, eL_law_396, eL_law_397, eL_law_1300, eL_law_1303, z1, e1, e2, WpR_some, Option.toList_some, Option.toList_none, List.cons_append, List.nil_append, List.append_nil, clr_n, clr_i, clr_a, ni_add, ni_mul, ni_sub, ni_lt, ni_le, ni_eq, ni_div, nat_mod_eq, ni_rem, iMax_nn, iMin_nn, iMax_sub, Nat.zero_max, bI_0, bI_1, bI_n0, up2_s, up2_n, up2_k, va_up_self, va_up_ne, ni_l, lN_mul, lN_add, ln_mask, lN_i, ↓reduceIte, if_true, if_false, not_true_eq_false, not_false_eq_true, ite_self, Nat.add_zero, Nat.zero_add, ent_def]
  exact kk m2 ml2 I2 z2
theorem lw_8 (hW : GW G) (hM : GM G) (h : INV m ml) (hs : atg G 0 = 5) (hL : i + 8 ≤ aln G 0) (h2 : aln G 0 < 1000000) (kk : ∀ m' ml', INV m' ml' → m' 0 = m 0 → Wp mL_law 18 [some (.ref 0), some (.ref 2), some (.ref 158), some (.int (nI (i + 8)))] [] (G, m', ml') Q) : Wp mL_law 398 [some (.ref 0), some (.ref 2), some (.ref 158), some (.int (nI i))] [] (G, m, ml) Q := by
  obtain ⟨v, m1, ml1, m2, ml2, e1, e2, I2, z1, z2⟩ := op_evenings (u := m 0 (i + 1)) hW hM h
  have g0 := hW.1.1
  have g1 := hM.1.1
  simp (maxSteps := 1000000) (decide := true) (disch := (first | assumption | omega | exact Nat.div_mul_le_self _ _ | exact ni_nz (by omega) (by omega) | exact rfl | exact retOk_bI _ | exact retOk_0 | exact retOk_1)) only [eL_law_398, eL_law_399, eL_law_400, eL_law_401, eL_law_402, eL_law_403, eL_law_404, eL_law_407, eL_law_408, eL_law_409, eL_law_410, eL_law_411, eL_law_412, eL_law_413, eL_law_416, eL_law_419, eL_law_420, eL_law_1300, eL_law_1303, z1, e1, e2, WpR_some, Option.toList_some, Option.toList_none, List.cons_append, List.nil_append, List.append_nil, clr_n, clr_i, clr_a, ni_add, ni_mul, ni_sub, ni_lt, ni_le, ni_eq, ni_div, nat_mod_eq, ni_rem, iMax_nn, iMin_nn, iMax_sub, Nat.zero_max, bI_0, bI_1, bI_n0, up2_s, up2_n, up2_k, va_up_self, va_up_ne, ni_l, lN_mul, lN_add, ln_mask, lN_i, ↓reduceIte, if_true, if_false, not_true_eq_false, not_false_eq_true, ite_self, Nat.add_zero, Nat.zero_add, ent_def]
  exact kk m2 ml2 I2 z2
theorem lw_9 (hW : GW G) (hM : GM G) (h : INV m ml) (hs : atg G 0 = 5) (hL : i + 8 ≤ aln G 0) (h2 : aln G 0 < 1000000) (kk : ∀ m' ml', INV m' ml' → m' 0 = m 0 → Wp mL_law 18 [some (.ref 0), some (.ref 2), some (.ref 158), some (.int (nI (i + 8)))] [] (G, m', ml') Q) : Wp mL_law 421 [some (.ref 0), some (.ref 2), some (.ref 158), some (.int (nI i))] [] (G, m, ml) Q := by
  obtain ⟨v, m1, ml1, m2, ml2, e1, e2, I2, z1, z2⟩ := op_rest (u := m 0 (i + 1)) (v := m 0 (i + 2)) hW hM h
  have g0 := hW.1.1
  have g1 := hM.1.1
  simp (maxSteps := 1000000) (decide := true) (disch := (first | assumption | omega | exact Nat.div_mul_le_self _ _ | exact ni_nz (by omega) (by omega) | exact rfl | exact retOk_bI _ | exact retOk_0 | exact retOk_1)) only [eL_law_421, eL_law_422, eL_law_423, eL_law_424, eL_law_425, eL_law_426, eL_law_427, eL_law_428, eL_law_429, eL_law_430, eL_law_431, eL_law_432, eL_law_435, eL_law_436, eL_law_437, eL_law_438, eL_law_439, eL_law_440, eL_law_441, eL_law_442, eL_law_443, eL_law_444, eL_law_445, eL_law_446, eL_law_449, eL_law_452, eL_law_453, eL_law_1300, eL_law_1303, z1, e1, e2, WpR_some, Option.toList_some, Option.toList_none, List.cons_append, List.nil_append, List.append_nil, clr_n, clr_i, clr_a, ni_add, ni_mul, ni_sub, ni_lt, ni_le, ni_eq, ni_div, nat_mod_eq, ni_rem, iMax_nn, iMin_nn, iMax_sub, Nat.zero_max, bI_0, bI_1, bI_n0, up2_s, up2_n, up2_k, va_up_self, va_up_ne, ni_l, lN_mul, lN_add, ln_mask, lN_i, ↓reduceIte, if_true, if_false, not_true_eq_false, not_false_eq_true, ite_self, Nat.add_zero, Nat.zero_add, ent_def]
  exact kk m2 ml2 I2 z2
theorem lw_10 (hW : GW G) (hM : GM G) (h : INV m ml) (hs : atg G 0 = 5) (hL : i + 8 ≤ aln G 0) (h2 : aln G 0 < 1000000) (kk : ∀ m' ml', INV m' ml' → m' 0 = m 0 → Wp mL_law 18 [some (.ref 0), some (.ref 2), some (.ref 158), some (.int (nI (i + 8)))] [] (G, m', ml') Q) : Wp mL_law 454 [some (.ref 0), some (.ref 2), some (.ref 158), some (.int (nI i))] [] (G, m, ml) Q := by
  obtain ⟨v, m1, ml1, m2, ml2, e1, e2, I2, z1, z2⟩ := op_spin (u := m 0 (i + 1)) (v := m 0 (i + 2)) hW hM h
  have g0 := hW.1.1
  have g1 := hM.1.1
  simp (maxSteps := 1000000) (decide := true) (disch := (first | assumption | omega | exact Nat.div_mul_le_self _ _ | exact ni_nz (by omega) (by omega) | exact rfl | exact retOk_bI _ | exact retOk_0 | exact retOk_1)) only [eL_law_454, eL_law_455, eL_law_456, eL_law_457, eL_law_458, eL_law_459, eL_law_460, eL_law_461, eL_law_462, eL_law_463, eL_law_464, eL_law_465, eL_law_468, eL_law_469, eL_law_470, eL_law_471, eL_law_472, eL_law_473, eL_law_474, eL_law_475, eL_law_476, eL_law_477, eL_law_478, eL_law_479, eL_law_482, eL_law_485, eL_law_486, eL_law_1300, eL_law_1303, z1, e1, e2, WpR_some, Option.toList_some, Option.toList_none, List.cons_append, List.nil_append, List.append_nil, clr_n, clr_i, clr_a, ni_add, ni_mul, ni_sub, ni_lt, ni_le, ni_eq, ni_div, nat_mod_eq, ni_rem, iMax_nn, iMin_nn, iMax_sub, Nat.zero_max, bI_0, bI_1, bI_n0, up2_s, up2_n, up2_k, va_up_self, va_up_ne, ni_l, lN_mul, lN_add, ln_mask, lN_i, ↓reduceIte, if_true, if_false, not_true_eq_false, not_false_eq_true, ite_self, Nat.add_zero, Nat.zero_add, ent_def]
  exact kk m2 ml2 I2 z2
theorem lw_11 (hW : GW G) (hM : GM G) (h : INV m ml) (hs : atg G 0 = 5) (hL : i + 8 ≤ aln G 0) (h2 : aln G 0 < 1000000) (kk : ∀ m' ml', INV m' ml' → m' 0 = m 0 → Wp mL_law 18 [some (.ref 0), some (.ref 2), some (.ref 158), some (.int (nI (i + 8)))] [] (G, m', ml') Q) : Wp mL_law 487 [some (.ref 0), some (.ref 2), some (.ref 158), some (.int (nI i))] [] (G, m, ml) Q := by
  obtain ⟨v, m1, ml1, m2, ml2, e1, e2, I2, z1, z2⟩ := op_step (u := m 0 (i + 1)) hW hM h
  have g0 := hW.1.1
  have g1 := hM.1.1
  simp (maxSteps := 1000000) (decide := true) (disch := (first | assumption | omega | exact Nat.div_mul_le_self _ _ | exact ni_nz (by omega) (by omega) | exact rfl | exact retOk_bI _ | exact retOk_0 | exact retOk_1)) only [eL_law_487, eL_law_488, eL_law_489, eL_law_490, eL_law_491, eL_law_492, eL_law_493, eL_law_496, eL_law_497, eL_law_498, eL_law_499, eL_law_500, eL_law_501, eL_law_502, eL_law_505, eL_law_508, eL_law_509, eL_law_1300, eL_law_1303, z1, e1, e2, WpR_some, Option.toList_some, Option.toList_none, List.cons_append, List.nil_append, List.append_nil, clr_n, clr_i, clr_a, ni_add, ni_mul, ni_sub, ni_lt, ni_le, ni_eq, ni_div, nat_mod_eq, ni_rem, iMax_nn, iMin_nn, iMax_sub, Nat.zero_max, bI_0, bI_1, bI_n0, up2_s, up2_n, up2_k, va_up_self, va_up_ne, ni_l, lN_mul, lN_add, ln_mask, lN_i, ↓reduceIte, if_true, if_false, not_true_eq_false, not_false_eq_true, ite_self, Nat.add_zero, Nat.zero_add, ent_def]
  exact kk m2 ml2 I2 z2
theorem lw_12 (hW : GW G) (hM : GM G) (h : INV m ml) (hs : atg G 0 = 5) (hL : i + 8 ≤ aln G 0) (h2 : aln G 0 < 1000000) (kk : ∀ m' ml', INV m' ml' → m' 0 = m 0 → Wp mL_law 18 [some (.ref 0), some (.ref 2), some (.ref 158), some (.int (nI (i + 8)))] [] (G, m', ml') Q) : Wp mL_law 510 [some (.ref 0), some (.ref 2), some (.ref 158), some (.int (nI i))] [] (G, m, ml) Q := by
  obtain ⟨v, m1, ml1, m2, ml2, e1, e2, I2, z1, z2⟩ := op_turn (u := m 0 (i + 1)) hW hM h
  have g0 := hW.1.1
  have g1 := hM.1.1
  simp (maxSteps := 1000000) (decide := true) (disch := (first | assumption | omega | exact Nat.div_mul_le_self _ _ | exact ni_nz (by omega) (by omega) | exact rfl | exact retOk_bI _ | exact retOk_0 | exact retOk_1)) only [eL_law_510, eL_law_511, eL_law_512, eL_law_513, eL_law_514, eL_law_515, eL_law_516, eL_law_519, eL_law_520, eL_law_521, eL_law_522, eL_law_523, eL_law_524, eL_law_525, eL_law_528, eL_law_531, eL_law_532, eL_law_1300, eL_law_1303, z1, e1, e2, WpR_some, Option.toList_some, Option.toList_none, List.cons_append, List.nil_append, List.append_nil, clr_n, clr_i, clr_a, ni_add, ni_mul, ni_sub, ni_lt, ni_le, ni_eq, ni_div, nat_mod_eq, ni_rem, iMax_nn, iMin_nn, iMax_sub, Nat.zero_max, bI_0, bI_1, bI_n0, up2_s, up2_n, up2_k, va_up_self, va_up_ne, ni_l, lN_mul, lN_add, ln_mask, lN_i, ↓reduceIte, if_true, if_false, not_true_eq_false, not_false_eq_true, ite_self, Nat.add_zero, Nat.zero_add, ent_def]
  exact kk m2 ml2 I2 z2
theorem lw_13 (hW : GW G) (hM : GM G) (h : INV m ml) (hs : atg G 0 = 5) (hL : i + 8 ≤ aln G 0) (h2 : aln G 0 < 1000000) (kk : ∀ m' ml', INV m' ml' → m' 0 = m 0 → Wp mL_law 18 [some (.ref 0), some (.ref 2), some (.ref 158), some (.int (nI (i + 8)))] [] (G, m', ml') Q) : Wp mL_law 533 [some (.ref 0), some (.ref 2), some (.ref 158), some (.int (nI i))] [] (G, m, ml) Q := by
  obtain ⟨v, m1, ml1, m2, ml2, e1, e2, I2, z1, z2⟩ := op_drift (u := m 0 (i + 1)) hW hM h
  have g0 := hW.1.1
  have g1 := hM.1.1
  simp (maxSteps := 1000000) (decide := true) (disch := (first | assumption | omega | exact Nat.div_mul_le_self _ _ | exact ni_nz (by omega) (by omega) | exact rfl | exact retOk_bI _ | exact retOk_0 | exact retOk_1)) only [eL_law_533, eL_law_534, eL_law_535, eL_law_536, eL_law_537, eL_law_538, eL_law_539, eL_law_542, eL_law_543, eL_law_544, eL_law_545, eL_law_546, eL_law_547, eL_law_548, eL_law_551, eL_law_554, eL_law_555, eL_law_1300, eL_law_1303, z1, e1, e2, WpR_some, Option.toList_some, Option.toList_none, List.cons_append, List.nil_append, List.append_nil, clr_n, clr_i, clr_a, ni_add, ni_mul, ni_sub, ni_lt, ni_le, ni_eq, ni_div, nat_mod_eq, ni_rem, iMax_nn, iMin_nn, iMax_sub, Nat.zero_max, bI_0, bI_1, bI_n0, up2_s, up2_n, up2_k, va_up_self, va_up_ne, ni_l, lN_mul, lN_add, ln_mask, lN_i, ↓reduceIte, if_true, if_false, not_true_eq_false, not_false_eq_true, ite_self, Nat.add_zero, Nat.zero_add, ent_def]
  exact kk m2 ml2 I2 z2
theorem lw_14 (hW : GW G) (hM : GM G) (h : INV m ml) (hs : atg G 0 = 5) (hL : i + 8 ≤ aln G 0) (h2 : aln G 0 < 1000000) (kk : ∀ m' ml', INV m' ml' → m' 0 = m 0 → Wp mL_law 18 [some (.ref 0), some (.ref 2), some (.ref 158), some (.int (nI (i + 8)))] [] (G, m', ml') Q) : Wp mL_law 556 [some (.ref 0), some (.ref 2), some (.ref 158), some (.int (nI i))] [] (G, m, ml) Q := by
  obtain ⟨v, m1, ml1, m2, ml2, e1, e2, I2, z1, z2⟩ := op_undo  hW hM h
  have g0 := hW.1.1
  have g1 := hM.1.1
  simp (maxSteps := 1000000) (decide := true) (disch := (first | assumption | omega | exact Nat.div_mul_le_self _ _ | exact ni_nz (by omega) (by omega) | exact rfl | exact retOk_bI _ | exact retOk_0 | exact retOk_1)) only [eL_law_556, eL_law_557, eL_law_560, eL_law_561, eL_law_564, eL_law_567, eL_law_568, eL_law_1300, eL_law_1303, z1, e1, e2, WpR_some, Option.toList_some, Option.toList_none, List.cons_append, List.nil_append, List.append_nil, clr_n, clr_i, clr_a, ni_add, ni_mul, ni_sub, ni_lt, ni_le, ni_eq, ni_div, nat_mod_eq, ni_rem, iMax_nn, iMin_nn, iMax_sub, Nat.zero_max, bI_0, bI_1, bI_n0, up2_s, up2_n, up2_k, va_up_self, va_up_ne, ni_l, lN_mul, lN_add, ln_mask, lN_i, ↓reduceIte, if_true, if_false, not_true_eq_false, not_false_eq_true, ite_self, Nat.add_zero, Nat.zero_add, ent_def]
  exact kk m2 ml2 I2 z2
theorem lw_15 (hW : GW G) (hM : GM G) (h : INV m ml) (hs : atg G 0 = 5) (hL : i + 8 ≤ aln G 0) (h2 : aln G 0 < 1000000) (kk : ∀ m' ml', INV m' ml' → m' 0 = m 0 → Wp mL_law 18 [some (.ref 0), some (.ref 2), some (.ref 158), some (.int (nI (i + 8)))] [] (G, m', ml') Q) : Wp mL_law 569 [some (.ref 0), some (.ref 2), some (.ref 158), some (.int (nI i))] [] (G, m, ml) Q := by
  obtain ⟨v, m1, ml1, m2, ml2, e1, e2, I2, z1, z2⟩ := op_seed (u := m 0 (i + 1)) hW hM h
  have g0 := hW.1.1
  have g1 := hM.1.1
  simp (maxSteps := 1000000) (decide := true) (disch := (first | assumption | omega | exact Nat.div_mul_le_self _ _ | exact ni_nz (by omega) (by omega) | exact rfl | exact retOk_bI _ | exact retOk_0 | exact retOk_1)) only [eL_law_569, eL_law_570, eL_law_571, eL_law_572, eL_law_573, eL_law_574, eL_law_575, eL_law_578, eL_law_579, eL_law_580, eL_law_581, eL_law_582, eL_law_583, eL_law_584, eL_law_587, eL_law_590, eL_law_591, eL_law_1300, eL_law_1303, z1, e1, e2, WpR_some, Option.toList_some, Option.toList_none, List.cons_append, List.nil_append, List.append_nil, clr_n, clr_i, clr_a, ni_add, ni_mul, ni_sub, ni_lt, ni_le, ni_eq, ni_div, nat_mod_eq, ni_rem, iMax_nn, iMin_nn, iMax_sub, Nat.zero_max, bI_0, bI_1, bI_n0, up2_s, up2_n, up2_k, va_up_self, va_up_ne, ni_l, lN_mul, lN_add, ln_mask, lN_i, ↓reduceIte, if_true, if_false, not_true_eq_false, not_false_eq_true, ite_self, Nat.add_zero, Nat.zero_add, ent_def]
  exact kk m2 ml2 I2 z2
theorem lw_16 (hW : GW G) (hM : GM G) (h : INV m ml) (hs : atg G 0 = 5) (hL : i + 8 ≤ aln G 0) (h2 : aln G 0 < 1000000) (kk : ∀ m' ml', INV m' ml' → m' 0 = m 0 → Wp mL_law 18 [some (.ref 0), some (.ref 2), some (.ref 158), some (.int (nI (i + 8)))] [] (G, m', ml') Q) : Wp mL_law 592 [some (.ref 0), some (.ref 2), some (.ref 158), some (.int (nI i))] [] (G, m, ml) Q := by
  obtain ⟨v, m1, ml1, m2, ml2, e1, e2, I2, z1, z2⟩ := op_ahead (u := m 0 (i + 1)) (v := m 0 (i + 2)) (w := m 0 (i + 3)) hW hM h
  have g0 := hW.1.1
  have g1 := hM.1.1
  simp (maxSteps := 1000000) (decide := true) (disch := (first | assumption | omega | exact Nat.div_mul_le_self _ _ | exact ni_nz (by omega) (by omega) | exact rfl | exact retOk_bI _ | exact retOk_0 | exact retOk_1)) only [eL_law_592, eL_law_593, eL_law_594, eL_law_595, eL_law_596, eL_law_597, eL_law_598, eL_law_599, eL_law_600, eL_law_601, eL_law_602, eL_law_603, eL_law_604, eL_law_605, eL_law_606, eL_law_607, eL_law_608, eL_law_611, eL_law_612, eL_law_613, eL_law_614, eL_law_615, eL_law_616, eL_law_617, eL_law_618, eL_law_619, eL_law_620, eL_law_621, eL_law_622, eL_law_623, eL_law_624, eL_law_625, eL_law_626, eL_law_627, eL_law_630, eL_law_633, eL_law_634, eL_law_1300, eL_law_1303, z1, e1, e2, WpR_some, Option.toList_some, Option.toList_none, List.cons_append, List.nil_append, List.append_nil, clr_n, clr_i, clr_a, ni_add, ni_mul, ni_sub, ni_lt, ni_le, ni_eq, ni_div, nat_mod_eq, ni_rem, iMax_nn, iMin_nn, iMax_sub, Nat.zero_max, bI_0, bI_1, bI_n0, up2_s, up2_n, up2_k, va_up_self, va_up_ne, ni_l, lN_mul, lN_add, ln_mask, lN_i, ↓reduceIte, if_true, if_false, not_true_eq_false, not_false_eq_true, ite_self, Nat.add_zero, Nat.zero_add, ent_def]
  exact kk m2 ml2 I2 z2
theorem lw_17 (hW : GW G) (hM : GM G) (h : INV m ml) (hs : atg G 0 = 5) (hL : i + 8 ≤ aln G 0) (h2 : aln G 0 < 1000000) (kk : ∀ m' ml', INV m' ml' → m' 0 = m 0 → Wp mL_law 18 [some (.ref 0), some (.ref 2), some (.ref 158), some (.int (nI (i + 8)))] [] (G, m', ml') Q) : Wp mL_law 635 [some (.ref 0), some (.ref 2), some (.ref 158), some (.int (nI i))] [] (G, m, ml) Q := by
  obtain ⟨v, m1, ml1, m2, ml2, e1, e2, I2, z1, z2⟩ := op_then (u := m 0 (i + 1)) (v := m 0 (i + 2)) (w := m 0 (i + 3)) hW hM h
  have g0 := hW.1.1
  have g1 := hM.1.1
  simp (maxSteps := 1000000) (decide := true) (disch := (first | assumption | omega | exact Nat.div_mul_le_self _ _ | exact ni_nz (by omega) (by omega) | exact rfl | exact retOk_bI _ | exact retOk_0 | exact retOk_1)) only [eL_law_635, eL_law_636, eL_law_637, eL_law_638, eL_law_639, eL_law_640, eL_law_641, eL_law_642, eL_law_643, eL_law_644, eL_law_645, eL_law_646, eL_law_647, eL_law_648, eL_law_649, eL_law_650, eL_law_651, eL_law_654, eL_law_655, eL_law_656, eL_law_657, eL_law_658, eL_law_659, eL_law_660, eL_law_661, eL_law_662, eL_law_663, eL_law_664, eL_law_665, eL_law_666, eL_law_667, eL_law_668, eL_law_669, eL_law_670, eL_law_673, eL_law_676, eL_law_677, eL_law_1300, eL_law_1303, z1, e1, e2, WpR_some, Option.toList_some, Option.toList_none, List.cons_append, List.nil_append, List.append_nil, clr_n, clr_i, clr_a, ni_add, ni_mul, ni_sub, ni_lt, ni_le, ni_eq, ni_div, nat_mod_eq, ni_rem, iMax_nn, iMin_nn, iMax_sub, Nat.zero_max, bI_0, bI_1, bI_n0, up2_s, up2_n, up2_k, va_up_self, va_up_ne, ni_l, lN_mul, lN_add, ln_mask, lN_i, ↓reduceIte, if_true, if_false, not_true_eq_false, not_false_eq_true, ite_self, Nat.add_zero, Nat.zero_add, ent_def]
  exact kk m2 ml2 I2 z2
theorem lw_18 (hW : GW G) (hM : GM G) (h : INV m ml) (hs : atg G 0 = 5) (hL : i + 8 ≤ aln G 0) (h2 : aln G 0 < 1000000) (kk : ∀ m' ml', INV m' ml' → m' 0 = m 0 → Wp mL_law 18 [some (.ref 0), some (.ref 2), some (.ref 158), some (.int (nI (i + 8)))] [] (G, m', ml') Q) : Wp mL_law 678 [some (.ref 0), some (.ref 2), some (.ref 158), some (.int (nI i))] [] (G, m, ml) Q := by
  obtain ⟨v, m1, ml1, m2, ml2, e1, e2, I2, z1, z2⟩ := op_first (u := m 0 (i + 1)) hW hM h
  have g0 := hW.1.1
  have g1 := hM.1.1
  simp (maxSteps := 1000000) (decide := true) (disch := (first | assumption | omega | exact Nat.div_mul_le_self _ _ | exact ni_nz (by omega) (by omega) | exact rfl | exact retOk_bI _ | exact retOk_0 | exact retOk_1)) only [eL_law_678, eL_law_679, eL_law_680, eL_law_681, eL_law_682, eL_law_683, eL_law_684, eL_law_687, eL_law_688, eL_law_689, eL_law_690, eL_law_691, eL_law_692, eL_law_693, eL_law_696, eL_law_699, eL_law_700, eL_law_1300, eL_law_1303, z1, e1, e2, WpR_some, Option.toList_some, Option.toList_none, List.cons_append, List.nil_append, List.append_nil, clr_n, clr_i, clr_a, ni_add, ni_mul, ni_sub, ni_lt, ni_le, ni_eq, ni_div, nat_mod_eq, ni_rem, iMax_nn, iMin_nn, iMax_sub, Nat.zero_max, bI_0, bI_1, bI_n0, up2_s, up2_n, up2_k, va_up_self, va_up_ne, ni_l, lN_mul, lN_add, ln_mask, lN_i, ↓reduceIte, if_true, if_false, not_true_eq_false, not_false_eq_true, ite_self, Nat.add_zero, Nat.zero_add, ent_def]
  exact kk m2 ml2 I2 z2
theorem lw_19 (hW : GW G) (hM : GM G) (h : INV m ml) (hs : atg G 0 = 5) (hL : i + 8 ≤ aln G 0) (h2 : aln G 0 < 1000000) (kk : ∀ m' ml', INV m' ml' → m' 0 = m 0 → Wp mL_law 18 [some (.ref 0), some (.ref 2), some (.ref 158), some (.int (nI (i + 8)))] [] (G, m', ml') Q) : Wp mL_law 701 [some (.ref 0), some (.ref 2), some (.ref 158), some (.int (nI i))] [] (G, m, ml) Q := by
  obtain ⟨v, m1, ml1, m2, ml2, e1, e2, I2, z1, z2⟩ := op_all  hW hM h
  have g0 := hW.1.1
  have g1 := hM.1.1
  simp (maxSteps := 1000000) (decide := true) (disch := (first | assumption | omega | exact Nat.div_mul_le_self _ _ | exact ni_nz (by omega) (by omega) | exact rfl | exact retOk_bI _ | exact retOk_0 | exact retOk_1)) only [eL_law_701, eL_law_702, eL_law_705, eL_law_706, eL_law_709, eL_law_712, eL_law_713, eL_law_1300, eL_law_1303, z1, e1, e2, WpR_some, Option.toList_some, Option.toList_none, List.cons_append, List.nil_append, List.append_nil, clr_n, clr_i, clr_a, ni_add, ni_mul, ni_sub, ni_lt, ni_le, ni_eq, ni_div, nat_mod_eq, ni_rem, iMax_nn, iMin_nn, iMax_sub, Nat.zero_max, bI_0, bI_1, bI_n0, up2_s, up2_n, up2_k, va_up_self, va_up_ne, ni_l, lN_mul, lN_add, ln_mask, lN_i, ↓reduceIte, if_true, if_false, not_true_eq_false, not_false_eq_true, ite_self, Nat.add_zero, Nat.zero_add, ent_def]
  exact kk m2 ml2 I2 z2
theorem lw_20 (hW : GW G) (hM : GM G) (h : INV m ml) (hs : atg G 0 = 5) (hL : i + 8 ≤ aln G 0) (h2 : aln G 0 < 1000000) (kk : ∀ m' ml', INV m' ml' → m' 0 = m 0 → Wp mL_law 18 [some (.ref 0), some (.ref 2), some (.ref 158), some (.int (nI (i + 8)))] [] (G, m', ml') Q) : Wp mL_law 714 [some (.ref 0), some (.ref 2), some (.ref 158), some (.int (nI i))] [] (G, m, ml) Q := by
  obtain ⟨v, m1, ml1, m2, ml2, e1, e2, I2, z1, z2⟩ := op_left (u := m 0 (i + 1)) (v := m 0 (i + 2)) hW hM h
  have g0 := hW.1.1
  have g1 := hM.1.1
  simp (maxSteps := 1000000) (decide := true) (disch := (first | assumption | omega | exact Nat.div_mul_le_self _ _ | exact ni_nz (by omega) (by omega) | exact rfl | exact retOk_bI _ | exact retOk_0 | exact retOk_1)) only [eL_law_714, eL_law_715, eL_law_716, eL_law_717, eL_law_718, eL_law_719, eL_law_720, eL_law_721, eL_law_722, eL_law_723, eL_law_724, eL_law_725, eL_law_728, eL_law_729, eL_law_730, eL_law_731, eL_law_732, eL_law_733, eL_law_734, eL_law_735, eL_law_736, eL_law_737, eL_law_738, eL_law_739, eL_law_742, eL_law_745, eL_law_746, eL_law_1300, eL_law_1303, z1, e1, e2, WpR_some, Option.toList_some, Option.toList_none, List.cons_append, List.nil_append, List.append_nil, clr_n, clr_i, clr_a, ni_add, ni_mul, ni_sub, ni_lt, ni_le, ni_eq, ni_div, nat_mod_eq, ni_rem, iMax_nn, iMin_nn, iMax_sub, Nat.zero_max, bI_0, bI_1, bI_n0, up2_s, up2_n, up2_k, va_up_self, va_up_ne, ni_l, lN_mul, lN_add, ln_mask, lN_i, ↓reduceIte, if_true, if_false, not_true_eq_false, not_false_eq_true, ite_self, Nat.add_zero, Nat.zero_add, ent_def]
  exact kk m2 ml2 I2 z2
theorem lw_21 (hW : GW G) (hM : GM G) (h : INV m ml) (hs : atg G 0 = 5) (hL : i + 8 ≤ aln G 0) (h2 : aln G 0 < 1000000) (kk : ∀ m' ml', INV m' ml' → m' 0 = m 0 → Wp mL_law 18 [some (.ref 0), some (.ref 2), some (.ref 158), some (.int (nI (i + 8)))] [] (G, m', ml') Q) : Wp mL_law 747 [some (.ref 0), some (.ref 2), some (.ref 158), some (.int (nI i))] [] (G, m, ml) Q := by
  obtain ⟨v, m1, ml1, m2, ml2, e1, e2, I2, z1, z2⟩ := op_pace (u := m 0 (i + 1)) (v := m 0 (i + 2)) hW hM h
  have g0 := hW.1.1
  have g1 := hM.1.1
  simp (maxSteps := 1000000) (decide := true) (disch := (first | assumption | omega | exact Nat.div_mul_le_self _ _ | exact ni_nz (by omega) (by omega) | exact rfl | exact retOk_bI _ | exact retOk_0 | exact retOk_1)) only [eL_law_747, eL_law_748, eL_law_749, eL_law_750, eL_law_751, eL_law_752, eL_law_753, eL_law_754, eL_law_755, eL_law_756, eL_law_757, eL_law_758, eL_law_761, eL_law_762, eL_law_763, eL_law_764, eL_law_765, eL_law_766, eL_law_767, eL_law_768, eL_law_769, eL_law_770, eL_law_771, eL_law_772, eL_law_775, eL_law_778, eL_law_779, eL_law_1300, eL_law_1303, z1, e1, e2, WpR_some, Option.toList_some, Option.toList_none, List.cons_append, List.nil_append, List.append_nil, clr_n, clr_i, clr_a, ni_add, ni_mul, ni_sub, ni_lt, ni_le, ni_eq, ni_div, nat_mod_eq, ni_rem, iMax_nn, iMin_nn, iMax_sub, Nat.zero_max, bI_0, bI_1, bI_n0, up2_s, up2_n, up2_k, va_up_self, va_up_ne, ni_l, lN_mul, lN_add, ln_mask, lN_i, ↓reduceIte, if_true, if_false, not_true_eq_false, not_false_eq_true, ite_self, Nat.add_zero, Nat.zero_add, ent_def]
  exact kk m2 ml2 I2 z2
theorem lw_22 (hW : GW G) (hM : GM G) (h : INV m ml) (hs : atg G 0 = 5) (hL : i + 8 ≤ aln G 0) (h2 : aln G 0 < 1000000) (kk : ∀ m' ml', INV m' ml' → m' 0 = m 0 → Wp mL_law 18 [some (.ref 0), some (.ref 2), some (.ref 158), some (.int (nI (i + 8)))] [] (G, m', ml') Q) : Wp mL_law 780 [some (.ref 0), some (.ref 2), some (.ref 158), some (.int (nI i))] [] (G, m, ml) Q := by
  obtain ⟨v, m1, ml1, m2, ml2, e1, e2, I2, z1, z2⟩ := op_seating (u := m 0 (i + 1)) (v := m 0 (i + 2)) hW hM h
  have g0 := hW.1.1
  have g1 := hM.1.1
  simp (maxSteps := 1000000) (decide := true) (disch := (first | assumption | omega | exact Nat.div_mul_le_self _ _ | exact ni_nz (by omega) (by omega) | exact rfl | exact retOk_bI _ | exact retOk_0 | exact retOk_1)) only [eL_law_780, eL_law_781, eL_law_782, eL_law_783, eL_law_784, eL_law_785, eL_law_786, eL_law_787, eL_law_788, eL_law_789, eL_law_790, eL_law_791, eL_law_794, eL_law_795, eL_law_796, eL_law_797, eL_law_798, eL_law_799, eL_law_800, eL_law_801, eL_law_802, eL_law_803, eL_law_804, eL_law_805, eL_law_808, eL_law_811, eL_law_812, eL_law_1300, eL_law_1303, z1, e1, e2, WpR_some, Option.toList_some, Option.toList_none, List.cons_append, List.nil_append, List.append_nil, clr_n, clr_i, clr_a, ni_add, ni_mul, ni_sub, ni_lt, ni_le, ni_eq, ni_div, nat_mod_eq, ni_rem, iMax_nn, iMin_nn, iMax_sub, Nat.zero_max, bI_0, bI_1, bI_n0, up2_s, up2_n, up2_k, va_up_self, va_up_ne, ni_l, lN_mul, lN_add, ln_mask, lN_i, ↓reduceIte, if_true, if_false, not_true_eq_false, not_false_eq_true, ite_self, Nat.add_zero, Nat.zero_add, ent_def]
  exact kk m2 ml2 I2 z2
theorem lw_23 (hW : GW G) (hM : GM G) (h : INV m ml) (hs : atg G 0 = 5) (hL : i + 8 ≤ aln G 0) (h2 : aln G 0 < 1000000) (kk : ∀ m' ml', INV m' ml' → m' 0 = m 0 → Wp mL_law 18 [some (.ref 0), some (.ref 2), some (.ref 158), some (.int (nI (i + 8)))] [] (G, m', ml') Q) : Wp mL_law 813 [some (.ref 0), some (.ref 2), some (.ref 158), some (.int (nI i))] [] (G, m, ml) Q := by
  obtain ⟨v, m1, ml1, m2, ml2, e1, e2, I2, z1, z2⟩ := op_needs (u := m 0 (i + 1)) (v := m 0 (i + 2)) hW hM h
  have g0 := hW.1.1
  have g1 := hM.1.1
  simp (maxSteps := 1000000) (decide := true) (disch := (first | assumption | omega | exact Nat.div_mul_le_self _ _ | exact ni_nz (by omega) (by omega) | exact rfl | exact retOk_bI _ | exact retOk_0 | exact retOk_1)) only [eL_law_813, eL_law_814, eL_law_815, eL_law_816, eL_law_817, eL_law_818, eL_law_819, eL_law_820, eL_law_821, eL_law_822, eL_law_823, eL_law_824, eL_law_827, eL_law_828, eL_law_829, eL_law_830, eL_law_831, eL_law_832, eL_law_833, eL_law_834, eL_law_835, eL_law_836, eL_law_837, eL_law_838, eL_law_841, eL_law_844, eL_law_845, eL_law_1300, eL_law_1303, z1, e1, e2, WpR_some, Option.toList_some, Option.toList_none, List.cons_append, List.nil_append, List.append_nil, clr_n, clr_i, clr_a, ni_add, ni_mul, ni_sub, ni_lt, ni_le, ni_eq, ni_div, nat_mod_eq, ni_rem, iMax_nn, iMin_nn, iMax_sub, Nat.zero_max, bI_0, bI_1, bI_n0, up2_s, up2_n, up2_k, va_up_self, va_up_ne, ni_l, lN_mul, lN_add, ln_mask, lN_i, ↓reduceIte, if_true, if_false, not_true_eq_false, not_false_eq_true, ite_self, Nat.add_zero, Nat.zero_add, ent_def]
  exact kk m2 ml2 I2 z2
theorem lw_24 (hW : GW G) (hM : GM G) (h : INV m ml) (hs : atg G 0 = 5) (hL : i + 8 ≤ aln G 0) (h2 : aln G 0 < 1000000) (kk : ∀ m' ml', INV m' ml' → m' 0 = m 0 → Wp mL_law 18 [some (.ref 0), some (.ref 2), some (.ref 158), some (.int (nI (i + 8)))] [] (G, m', ml') Q) : Wp mL_law 846 [some (.ref 0), some (.ref 2), some (.ref 158), some (.int (nI i))] [] (G, m, ml) Q := by
  obtain ⟨v, m1, ml1, m2, ml2, e1, e2, I2, z1, z2⟩ := op_spare (u := m 0 (i + 1)) hW hM h
  have g0 := hW.1.1
  have g1 := hM.1.1
  simp (maxSteps := 1000000) (decide := true) (disch := (first | assumption | omega | exact Nat.div_mul_le_self _ _ | exact ni_nz (by omega) (by omega) | exact rfl | exact retOk_bI _ | exact retOk_0 | exact retOk_1)) only [eL_law_846, eL_law_847, eL_law_848, eL_law_849, eL_law_850, eL_law_851, eL_law_852, eL_law_855, eL_law_856, eL_law_857, eL_law_858, eL_law_859, eL_law_860, eL_law_861, eL_law_864, eL_law_867, eL_law_868, eL_law_1300, eL_law_1303, z1, e1, e2, WpR_some, Option.toList_some, Option.toList_none, List.cons_append, List.nil_append, List.append_nil, clr_n, clr_i, clr_a, ni_add, ni_mul, ni_sub, ni_lt, ni_le, ni_eq, ni_div, nat_mod_eq, ni_rem, iMax_nn, iMin_nn, iMax_sub, Nat.zero_max, bI_0, bI_1, bI_n0, up2_s, up2_n, up2_k, va_up_self, va_up_ne, ni_l, lN_mul, lN_add, ln_mask, lN_i, ↓reduceIte, if_true, if_false, not_true_eq_false, not_false_eq_true, ite_self, Nat.add_zero, Nat.zero_add, ent_def]
  exact kk m2 ml2 I2 z2
theorem lw_25 (hW : GW G) (hM : GM G) (h : INV m ml) (hs : atg G 0 = 5) (hL : i + 8 ≤ aln G 0) (h2 : aln G 0 < 1000000) (kk : ∀ m' ml', INV m' ml' → m' 0 = m 0 → Wp mL_law 18 [some (.ref 0), some (.ref 2), some (.ref 158), some (.int (nI (i + 8)))] [] (G, m', ml') Q) : Wp mL_law 869 [some (.ref 0), some (.ref 2), some (.ref 158), some (.int (nI i))] [] (G, m, ml) Q := by
  obtain ⟨v, m1, ml1, m2, ml2, e1, e2, I2, z1, z2⟩ := op_doze (u := m 0 (i + 1)) (v := m 0 (i + 2)) (w := m 0 (i + 3)) hW hM h
  have g0 := hW.1.1
  have g1 := hM.1.1
  simp (maxSteps := 1000000) (decide := true) (disch := (first | assumption | omega | exact Nat.div_mul_le_self _ _ | exact ni_nz (by omega) (by omega) | exact rfl | exact retOk_bI _ | exact retOk_0 | exact retOk_1)) only [eL_law_869, eL_law_870, eL_law_871, eL_law_872, eL_law_873, eL_law_874, eL_law_875, eL_law_876, eL_law_877, eL_law_878, eL_law_879, eL_law_880, eL_law_881, eL_law_882, eL_law_883, eL_law_884, eL_law_885, eL_law_888, eL_law_889, eL_law_890, eL_law_891, eL_law_892, eL_law_893, eL_law_894, eL_law_895, eL_law_896, eL_law_897, eL_law_898, eL_law_899, eL_law_900, eL_law_901, eL_law_902, eL_law_903, eL_law_904, eL_law_907, eL_law_910, eL_law_911, eL_law_1300, eL_law_1303, z1, e1, e2, WpR_some, Option.toList_some, Option.toList_none, List.cons_append, List.nil_append, List.append_nil, clr_n, clr_i, clr_a, ni_add, ni_mul, ni_sub, ni_lt, ni_le, ni_eq, ni_div, nat_mod_eq, ni_rem, iMax_nn, iMin_nn, iMax_sub, Nat.zero_max, bI_0, bI_1, bI_n0, up2_s, up2_n, up2_k, va_up_self, va_up_ne, ni_l, lN_mul, lN_add, ln_mask, lN_i, ↓reduceIte, if_true, if_false, not_true_eq_false, not_false_eq_true, ite_self, Nat.add_zero, Nat.zero_add, ent_def]
  exact kk m2 ml2 I2 z2
theorem lw_26 (hW : GW G) (hM : GM G) (h : INV m ml) (hs : atg G 0 = 5) (hL : i + 8 ≤ aln G 0) (h2 : aln G 0 < 1000000) (kk : ∀ m' ml', INV m' ml' → m' 0 = m 0 → Wp mL_law 18 [some (.ref 0), some (.ref 2), some (.ref 158), some (.int (nI (i + 8)))] [] (G, m', ml') Q) : Wp mL_law 912 [some (.ref 0), some (.ref 2), some (.ref 158), some (.int (nI i))] [] (G, m, ml) Q := by
  obtain ⟨v, m1, ml1, m2, ml2, e1, e2, I2, z1, z2⟩ := op_image  hW hM h
  have g0 := hW.1.1
  have g1 := hM.1.1
  simp (maxSteps := 1000000) (decide := true) (disch := (first | assumption | omega | exact Nat.div_mul_le_self _ _ | exact ni_nz (by omega) (by omega) | exact rfl | exact retOk_bI _ | exact retOk_0 | exact retOk_1)) only [eL_law_912, eL_law_913, eL_law_916, eL_law_917, eL_law_920, eL_law_923, eL_law_924, eL_law_1300, eL_law_1303, z1, e1, e2, WpR_some, Option.toList_some, Option.toList_none, List.cons_append, List.nil_append, List.append_nil, clr_n, clr_i, clr_a, ni_add, ni_mul, ni_sub, ni_lt, ni_le, ni_eq, ni_div, nat_mod_eq, ni_rem, iMax_nn, iMin_nn, iMax_sub, Nat.zero_max, bI_0, bI_1, bI_n0, up2_s, up2_n, up2_k, va_up_self, va_up_ne, ni_l, lN_mul, lN_add, ln_mask, lN_i, ↓reduceIte, if_true, if_false, not_true_eq_false, not_false_eq_true, ite_self, Nat.add_zero, Nat.zero_add, ent_def]
  exact kk m2 ml2 I2 z2
theorem lw_27 (hW : GW G) (hM : GM G) (h : INV m ml) (hs : atg G 0 = 5) (hL : i + 8 ≤ aln G 0) (h2 : aln G 0 < 1000000) (kk : ∀ m' ml', INV m' ml' → m' 0 = m 0 → Wp mL_law 18 [some (.ref 0), some (.ref 2), some (.ref 158), some (.int (nI (i + 8)))] [] (G, m', ml') Q) : Wp mL_law 925 [some (.ref 0), some (.ref 2), some (.ref 158), some (.int (nI i))] [] (G, m, ml) Q := by
  obtain ⟨v, m1, ml1, m2, ml2, e1, e2, I2, z1, z2⟩ := op_restore  hW hM h
  have g0 := hW.1.1
  have g1 := hM.1.1
  simp (maxSteps := 1000000) (decide := true) (disch := (first | assumption | omega | exact Nat.div_mul_le_self _ _ | exact ni_nz (by omega) (by omega) | exact rfl | exact retOk_bI _ | exact retOk_0 | exact retOk_1)) only [eL_law_925, eL_law_926, eL_law_929, eL_law_930, eL_law_933, eL_law_936, eL_law_937, eL_law_1300, eL_law_1303, z1, e1, e2, WpR_some, Option.toList_some, Option.toList_none, List.cons_append, List.nil_append, List.append_nil, clr_n, clr_i, clr_a, ni_add, ni_mul, ni_sub, ni_lt, ni_le, ni_eq, ni_div, nat_mod_eq, ni_rem, iMax_nn, iMin_nn, iMax_sub, Nat.zero_max, bI_0, bI_1, bI_n0, up2_s, up2_n, up2_k, va_up_self, va_up_ne, ni_l, lN_mul, lN_add, ln_mask, lN_i, ↓reduceIte, if_true, if_false, not_true_eq_false, not_false_eq_true, ite_self, Nat.add_zero, Nat.zero_add, ent_def]
  exact kk m2 ml2 I2 z2
theorem lw_28 (hW : GW G) (hM : GM G) (h : INV m ml) (hs : atg G 0 = 5) (hL : i + 8 ≤ aln G 0) (h2 : aln G 0 < 1000000) (kk : ∀ m' ml', INV m' ml' → m' 0 = m 0 → Wp mL_law 18 [some (.ref 0), some (.ref 2), some (.ref 158), some (.int (nI (i + 8)))] [] (G, m', ml') Q) : Wp mL_law 938 [some (.ref 0), some (.ref 2), some (.ref 158), some (.int (nI i))] [] (G, m, ml) Q := by
  obtain ⟨v, m1, ml1, m2, ml2, e1, e2, I2, z1, z2⟩ := op_borne (u := m 0 (i + 1)) (v := m 0 (i + 2)) (w := m 0 (i + 3)) (c := m 0 (i + 4)) (i := m 0 (i + 5)) (d := m 0 (i + 6)) (e := m 0 (i + 7)) hW hM h
  have g0 := hW.1.1
  have g1 := hM.1.1
  simp (maxSteps := 1000000) (decide := true) (disch := (first | assumption | omega | exact Nat.div_mul_le_self _ _ | exact ni_nz (by omega) (by omega) | exact rfl | exact retOk_bI _ | exact retOk_0 | exact retOk_1)) only [eL_law_938, eL_law_939, eL_law_940, eL_law_941, eL_law_942, eL_law_943, eL_law_944, eL_law_945, eL_law_946, eL_law_947, eL_law_948, eL_law_949, eL_law_950, eL_law_951, eL_law_952, eL_law_953, eL_law_954, eL_law_955, eL_law_956, eL_law_957, eL_law_958, eL_law_959, eL_law_960, eL_law_961, eL_law_962, eL_law_963, eL_law_964, eL_law_965, eL_law_966, eL_law_968, eL_law_969, eL_law_970, eL_law_971, eL_law_972, eL_law_974, eL_law_975, eL_law_976, eL_law_979, eL_law_980, eL_law_981, eL_law_982, eL_law_983, eL_law_984, eL_law_985, eL_law_986, eL_law_987, eL_law_988, eL_law_989, eL_law_990, eL_law_991, eL_law_992, eL_law_993, eL_law_994, eL_law_995, eL_law_996, eL_law_997, eL_law_998, eL_law_999, eL_law_1000, eL_law_1001, eL_law_1002, eL_law_1003, eL_law_1004, eL_law_1005, eL_law_1006, eL_law_1007, eL_law_1009, eL_law_1010, eL_law_1011, eL_law_1012, eL_law_1013, eL_law_1015, eL_law_1016, eL_law_1017, eL_law_1020, eL_law_1023, eL_law_1024, eL_law_1300, eL_law_1303, z1, e1, e2, WpR_some, Option.toList_some, Option.toList_none, List.cons_append, List.nil_append, List.append_nil, clr_n, clr_i, clr_a, ni_add, ni_mul, ni_sub, ni_lt, ni_le, ni_eq, ni_div, nat_mod_eq, ni_rem, iMax_nn, iMin_nn, iMax_sub, Nat.zero_max, bI_0, bI_1, bI_n0, up2_s, up2_n, up2_k, va_up_self, va_up_ne, ni_l, lN_mul, lN_add, ln_mask, lN_i, ↓reduceIte, if_true, if_false, not_true_eq_false, not_false_eq_true, ite_self, Nat.add_zero, Nat.zero_add, ent_def]
  exact kk m2 ml2 I2 z2
theorem lw_29 (hW : GW G) (hM : GM G) (h : INV m ml) (hs : atg G 0 = 5) (hL : i + 8 ≤ aln G 0) (h2 : aln G 0 < 1000000) (kk : ∀ m' ml', INV m' ml' → m' 0 = m 0 → Wp mL_law 18 [some (.ref 0), some (.ref 2), some (.ref 158), some (.int (nI (i + 8)))] [] (G, m', ml') Q) : Wp mL_law 1025 [some (.ref 0), some (.ref 2), some (.ref 158), some (.int (nI i))] [] (G, m, ml) Q := by
  obtain ⟨v, m1, ml1, m2, ml2, e1, e2, I2, z1, z2⟩ := op_film (u := m 0 (i + 1)) (v := m 0 (i + 2)) (w := m 0 (i + 3)) (c := m 0 (i + 4)) (i := m 0 (i + 5)) hW hM h
  have g0 := hW.1.1
  have g1 := hM.1.1
  simp (maxSteps := 1000000) (decide := true) (disch := (first | assumption | omega | exact Nat.div_mul_le_self _ _ | exact ni_nz (by omega) (by omega) | exact rfl | exact retOk_bI _ | exact retOk_0 | exact retOk_1)) only [eL_law_1025, eL_law_1026, eL_law_1027, eL_law_1028, eL_law_1029, eL_law_1030, eL_law_1031, eL_law_1032, eL_law_1033, eL_law_1034, eL_law_1035, eL_law_1036, eL_law_1037, eL_law_1038, eL_law_1039, eL_law_1040, eL_law_1041, eL_law_1042, eL_law_1043, eL_law_1044, eL_law_1045, eL_law_1046, eL_law_1047, eL_law_1048, eL_law_1049, eL_law_1050, eL_law_1051, eL_law_1054, eL_law_1055, eL_law_1056, eL_law_1057, eL_law_1058, eL_law_1059, eL_law_1060, eL_law_1061, eL_law_1062, eL_law_1063, eL_law_1064, eL_law_1065, eL_law_1066, eL_law_1067, eL_law_1068, eL_law_1069, eL_law_1070, eL_law_1071, eL_law_1072, eL_law_1073, eL_law_1074, eL_law_1075, eL_law_1076, eL_law_1077, eL_law_1078, eL_law_1079, eL_law_1080, eL_law_1083, eL_law_1086, eL_law_1087, eL_law_1300, eL_law_1303, z1, e1, e2, WpR_some, Option.toList_some, Option.toList_none, List.cons_append, List.nil_append, List.append_nil, clr_n, clr_i, clr_a, ni_add, ni_mul, ni_sub, ni_lt, ni_le, ni_eq, ni_div, nat_mod_eq, ni_rem, iMax_nn, iMin_nn, iMax_sub, Nat.zero_max, bI_0, bI_1, bI_n0, up2_s, up2_n, up2_k, va_up_self, va_up_ne, ni_l, lN_mul, lN_add, ln_mask, lN_i, ↓reduceIte, if_true, if_false, not_true_eq_false, not_false_eq_true, ite_self, Nat.add_zero, Nat.zero_add, ent_def]
  exact kk m2 ml2 I2 z2
theorem lw_30 (hW : GW G) (hM : GM G) (h : INV m ml) (hs : atg G 0 = 5) (hL : i + 8 ≤ aln G 0) (h2 : aln G 0 < 1000000) (kk : ∀ m' ml', INV m' ml' → m' 0 = m 0 → Wp mL_law 18 [some (.ref 0), some (.ref 2), some (.ref 158), some (.int (nI (i + 8)))] [] (G, m', ml') Q) : Wp mL_law 1088 [some (.ref 0), some (.ref 2), some (.ref 158), some (.int (nI i))] [] (G, m, ml) Q := by
  obtain ⟨v, m1, ml1, m2, ml2, e1, e2, I2, z1, z2⟩ := op_sheet (u := m 0 (i + 1)) (v := m 0 (i + 2)) (w := m 0 (i + 3)) hW hM h
  have g0 := hW.1.1
  have g1 := hM.1.1
  simp (maxSteps := 1000000) (decide := true) (disch := (first | assumption | omega | exact Nat.div_mul_le_self _ _ | exact ni_nz (by omega) (by omega) | exact rfl | exact retOk_bI _ | exact retOk_0 | exact retOk_1)) only [eL_law_1088, eL_law_1089, eL_law_1090, eL_law_1091, eL_law_1092, eL_law_1093, eL_law_1094, eL_law_1095, eL_law_1096, eL_law_1097, eL_law_1098, eL_law_1099, eL_law_1100, eL_law_1101, eL_law_1102, eL_law_1103, eL_law_1104, eL_law_1107, eL_law_1108, eL_law_1109, eL_law_1110, eL_law_1111, eL_law_1112, eL_law_1113, eL_law_1114, eL_law_1115, eL_law_1116, eL_law_1117, eL_law_1118, eL_law_1119, eL_law_1120, eL_law_1121, eL_law_1122, eL_law_1123, eL_law_1126, eL_law_1129, eL_law_1130, eL_law_1300, eL_law_1303, z1, e1, e2, WpR_some, Option.toList_some, Option.toList_none, List.cons_append, List.nil_append, List.append_nil, clr_n, clr_i, clr_a, ni_add, ni_mul, ni_sub, ni_lt, ni_le, ni_eq, ni_div, nat_mod_eq, ni_rem, iMax_nn, iMin_nn, iMax_sub, Nat.zero_max, bI_0, bI_1, bI_n0, up2_s, up2_n, up2_k, va_up_self, va_up_ne, ni_l, lN_mul, lN_add, ln_mask, lN_i, ↓reduceIte, if_true, if_false, not_true_eq_false, not_false_eq_true, ite_self, Nat.add_zero, Nat.zero_add, ent_def]
  exact kk m2 ml2 I2 z2
theorem lw_31 (hW : GW G) (hM : GM G) (h : INV m ml) (hs : atg G 0 = 5) (hL : i + 8 ≤ aln G 0) (h2 : aln G 0 < 1000000) (kk : ∀ m' ml', INV m' ml' → m' 0 = m 0 → Wp mL_law 18 [some (.ref 0), some (.ref 2), some (.ref 158), some (.int (nI (i + 8)))] [] (G, m', ml') Q) : Wp mL_law 1131 [some (.ref 0), some (.ref 2), some (.ref 158), some (.int (nI i))] [] (G, m, ml) Q := by
  obtain ⟨v, m1, ml1, m2, ml2, e1, e2, I2, z1, z2⟩ := op_drop (u := m 0 (i + 1)) hW hM h
  have g0 := hW.1.1
  have g1 := hM.1.1
  simp (maxSteps := 1000000) (decide := true) (disch := (first | assumption | omega | exact Nat.div_mul_le_self _ _ | exact ni_nz (by omega) (by omega) | exact rfl | exact retOk_bI _ | exact retOk_0 | exact retOk_1)) only [eL_law_1131, eL_law_1132, eL_law_1133, eL_law_1134, eL_law_1135, eL_law_1136, eL_law_1137, eL_law_1140, eL_law_1141, eL_law_1142, eL_law_1143, eL_law_1144, eL_law_1145, eL_law_1146, eL_law_1149, eL_law_1152, eL_law_1153, eL_law_1300, eL_law_1303, z1, e1, e2, WpR_some, Option.toList_some, Option.toList_none, List.cons_append, List.nil_append, List.append_nil, clr_n, clr_i, clr_a, ni_add, ni_mul, ni_sub, ni_lt, ni_le, ni_eq, ni_div, nat_mod_eq, ni_rem, iMax_nn, iMin_nn, iMax_sub, Nat.zero_max, bI_0, bI_1, bI_n0, up2_s, up2_n, up2_k, va_up_self, va_up_ne, ni_l, lN_mul, lN_add, ln_mask, lN_i, ↓reduceIte, if_true, if_false, not_true_eq_false, not_false_eq_true, ite_self, Nat.add_zero, Nat.zero_add, ent_def]
  exact kk m2 ml2 I2 z2
theorem lw_32 (hW : GW G) (hM : GM G) (h : INV m ml) (hs : atg G 0 = 5) (hL : i + 8 ≤ aln G 0) (h2 : aln G 0 < 1000000) (kk : ∀ m' ml', INV m' ml' → m' 0 = m 0 → Wp mL_law 18 [some (.ref 0), some (.ref 2), some (.ref 158), some (.int (nI (i + 8)))] [] (G, m', ml') Q) : Wp mL_law 1154 [some (.ref 0), some (.ref 2), some (.ref 158), some (.int (nI i))] [] (G, m, ml) Q := by
  obtain ⟨v, m1, ml1, m2, ml2, e1, e2, I2, z1, z2⟩ := op_item (u := m 0 (i + 1)) (v := m 0 (i + 2)) (i := m 0 (i + 3)) (z := ((m 0 (i + 4)).toInt64 <<< (lN 32 &&& 63)) ||| ((m 0 (i + 5)).toInt64 &&& lN 4294967295)) hW hM h
  have g0 := hW.1.1
  have g1 := hM.1.1
  simp (maxSteps := 1000000) (decide := true) (disch := (first | assumption | omega | exact Nat.div_mul_le_self _ _ | exact ni_nz (by omega) (by omega) | exact rfl | exact retOk_bI _ | exact retOk_0 | exact retOk_1)) only [eL_law_1154, eL_law_1155, eL_law_1156, eL_law_1157, eL_law_1158, eL_law_1159, eL_law_1160, eL_law_1161, eL_law_1162, eL_law_1163, eL_law_1164, eL_law_1165, eL_law_1166, eL_law_1167, eL_law_1168, eL_law_1169, eL_law_1170, eL_law_1171, eL_law_1172, eL_law_1173, eL_law_1174, eL_law_1175, eL_law_1176, eL_law_1178, eL_law_1179, eL_law_1180, eL_law_1181, eL_law_1182, eL_law_1183, eL_law_1184, eL_law_1185, eL_law_1188, eL_law_1189, eL_law_1190, eL_law_1193, eL_law_1194, eL_law_1195, eL_law_1196, eL_law_1197, eL_law_1198, eL_law_1199, eL_law_1200, eL_law_1201, eL_law_1202, eL_law_1203, eL_law_1204, eL_law_1205, eL_law_1206, eL_law_1207, eL_law_1208, eL_law_1209, eL_law_1210, eL_law_1211, eL_law_1212, eL_law_1213, eL_law_1214, eL_law_1215, eL_law_1217, eL_law_1218, eL_law_1219, eL_law_1220, eL_law_1221, eL_law_1222, eL_law_1223, eL_law_1224, eL_law_1227, eL_law_1228, eL_law_1229, eL_law_1232, eL_law_1235, eL_law_1236, eL_law_1300, eL_law_1303, z1, e1, e2, WpR_some, Option.toList_some, Option.toList_none, List.cons_append, List.nil_append, List.append_nil, clr_n, clr_i, clr_a, ni_add, ni_mul, ni_sub, ni_lt, ni_le, ni_eq, ni_div, nat_mod_eq, ni_rem, iMax_nn, iMin_nn, iMax_sub, Nat.zero_max, bI_0, bI_1, bI_n0, up2_s, up2_n, up2_k, va_up_self, va_up_ne, ni_l, lN_mul, lN_add, ln_mask, lN_i, ↓reduceIte, if_true, if_false, not_true_eq_false, not_false_eq_true, ite_self, Nat.add_zero, Nat.zero_add, ent_def]
  exact kk m2 ml2 I2 z2
theorem lw_33 (hW : GW G) (hM : GM G) (h : INV m ml) (hs : atg G 0 = 5) (hL : i + 8 ≤ aln G 0) (h2 : aln G 0 < 1000000) (kk : ∀ m' ml', INV m' ml' → m' 0 = m 0 → Wp mL_law 18 [some (.ref 0), some (.ref 2), some (.ref 158), some (.int (nI (i + 8)))] [] (G, m', ml') Q) : Wp mL_law 1237 [some (.ref 0), some (.ref 2), some (.ref 158), some (.int (nI i))] [] (G, m, ml) Q := by
  obtain ⟨v, m1, ml1, m2, ml2, e1, e2, I2, z1, z2⟩ := op_copy (u := m 0 (i + 1)) (i := m 0 (i + 2)) (v := m 0 (i + 3)) (j := m 0 (i + 4)) (c := m 0 (i + 5)) hW hM h
  have g0 := hW.1.1
  have g1 := hM.1.1
  simp (maxSteps := 1000000) (decide := true) (disch := (first | assumption | omega | exact Nat.div_mul_le_self _ _ | exact ni_nz (by omega) (by omega) | exact rfl | exact retOk_bI _ | exact retOk_0 | exact retOk_1)) only [eL_law_1237, eL_law_1238, eL_law_1239, eL_law_1240, eL_law_1241, eL_law_1242, eL_law_1243, eL_law_1244, eL_law_1245, eL_law_1246, eL_law_1247, eL_law_1248, eL_law_1249, eL_law_1250, eL_law_1251, eL_law_1252, eL_law_1253, eL_law_1254, eL_law_1255, eL_law_1256, eL_law_1257, eL_law_1258, eL_law_1259, eL_law_1260, eL_law_1261, eL_law_1262, eL_law_1263, eL_law_1266, eL_law_1267, eL_law_1268, eL_law_1269, eL_law_1270, eL_law_1271, eL_law_1272, eL_law_1273, eL_law_1274, eL_law_1275, eL_law_1276, eL_law_1277, eL_law_1278, eL_law_1279, eL_law_1280, eL_law_1281, eL_law_1282, eL_law_1283, eL_law_1284, eL_law_1285, eL_law_1286, eL_law_1287, eL_law_1288, eL_law_1289, eL_law_1290, eL_law_1291, eL_law_1292, eL_law_1295, eL_law_1298, eL_law_1299, eL_law_1300, eL_law_1303, z1, e1, e2, WpR_some, Option.toList_some, Option.toList_none, List.cons_append, List.nil_append, List.append_nil, clr_n, clr_i, clr_a, ni_add, ni_mul, ni_sub, ni_lt, ni_le, ni_eq, ni_div, nat_mod_eq, ni_rem, iMax_nn, iMin_nn, iMax_sub, Nat.zero_max, bI_0, bI_1, bI_n0, up2_s, up2_n, up2_k, va_up_self, va_up_ne, ni_l, lN_mul, lN_add, ln_mask, lN_i, ↓reduceIte, if_true, if_false, not_true_eq_false, not_false_eq_true, ite_self, Nat.add_zero, Nat.zero_add, ent_def]
  exact kk m2 ml2 I2 z2
theorem law_c (h1 : L < 1000000) (h2 : i < 1000000) : (nI L - nI 8 < nI i) = (L < i + 8) := by
  by_cases h : 8 ≤ L
  · rw [ni_sub h, ni_lt (by omega) (by omega)]
    exact propext (by omega)
  · have h0 : nI L - nI 8 < nI 0 := by
      have : L = 0 ∨ L = 1 ∨ L = 2 ∨ L = 3 ∨ L = 4 ∨ L = 5 ∨ L = 6 ∨ L = 7 := by omega
      rcases this with rfl | rfl | rfl | rfl | rfl | rfl | rfl | rfl <;> decide
    have h3 : nI 0 ≤ nI i := by rw [ni_le (by omega) (by omega)]; omega
    exact propext ⟨fun _ => by omega, fun _ => Int32.lt_of_lt_of_le h0 h3⟩
theorem lw_sw {v : Int32} (hW : GW G) (hM : GM G) (h : INV m ml) (hs : atg G 0 = 5) (hL : i + 8 ≤ aln G 0) (h2 : aln G 0 < 1000000) (kk : ∀ m' ml', INV m' ml' → m' 0 = m 0 → Wp mL_law 18 [some (.ref 0), some (.ref 2), some (.ref 158), some (.int (nI (i + 8)))] [] (G, m', ml') Q) : Wp mL_law 33 [some (.ref 0), some (.ref 2), some (.ref 158), some (.int (nI i))] [.int v] (G, m, ml) Q := by
  rw [eL_law_33]
  by_cases h10 : v = nI 0
  · rw [if_pos h10]; exact lw_0 hW hM h hs hL h2 kk
  rw [if_neg h10]
  by_cases h11 : v = nI 1
  · rw [if_pos h11]; exact lw_1 hW hM h hs hL h2 kk
  rw [if_neg h11]
  by_cases h12 : v = nI 2
  · rw [if_pos h12]; exact lw_2 hW hM h hs hL h2 kk
  rw [if_neg h12]
  by_cases h13 : v = nI 3
  · rw [if_pos h13]; exact lw_3 hW hM h hs hL h2 kk
  rw [if_neg h13]
  by_cases h14 : v = nI 4
  · rw [if_pos h14]; exact lw_4 hW hM h hs hL h2 kk
  rw [if_neg h14]
  by_cases h15 : v = nI 5
  · rw [if_pos h15]; exact lw_5 hW hM h hs hL h2 kk
  rw [if_neg h15]
  by_cases h16 : v = nI 6
  · rw [if_pos h16]; exact lw_6 hW hM h hs hL h2 kk
  rw [if_neg h16]
  by_cases h17 : v = nI 7
  · rw [if_pos h17]; exact lw_7 hW hM h hs hL h2 kk
  rw [if_neg h17]
  by_cases h18 : v = nI 8
  · rw [if_pos h18]; exact lw_8 hW hM h hs hL h2 kk
  rw [if_neg h18]
  by_cases h19 : v = nI 9
  · rw [if_pos h19]; exact lw_9 hW hM h hs hL h2 kk
  rw [if_neg h19]
  by_cases h20 : v = nI 10
  · rw [if_pos h20]; exact lw_10 hW hM h hs hL h2 kk
  rw [if_neg h20]
  by_cases h21 : v = nI 11
  · rw [if_pos h21]; exact lw_11 hW hM h hs hL h2 kk
  rw [if_neg h21]
  by_cases h22 : v = nI 12
  · rw [if_pos h22]; exact lw_12 hW hM h hs hL h2 kk
  rw [if_neg h22]
  by_cases h23 : v = nI 13
  · rw [if_pos h23]; exact lw_13 hW hM h hs hL h2 kk
  rw [if_neg h23]
  by_cases h24 : v = nI 14
  · rw [if_pos h24]; exact lw_14 hW hM h hs hL h2 kk
  rw [if_neg h24]
  by_cases h25 : v = nI 15
  · rw [if_pos h25]; exact lw_15 hW hM h hs hL h2 kk
  rw [if_neg h25]
  by_cases h26 : v = nI 16
  · rw [if_pos h26]; exact lw_16 hW hM h hs hL h2 kk
  rw [if_neg h26]
  by_cases h27 : v = nI 17
  · rw [if_pos h27]; exact lw_17 hW hM h hs hL h2 kk
  rw [if_neg h27]
  by_cases h28 : v = nI 18
  · rw [if_pos h28]; exact lw_18 hW hM h hs hL h2 kk
  rw [if_neg h28]
  by_cases h29 : v = nI 19
  · rw [if_pos h29]; exact lw_19 hW hM h hs hL h2 kk
  rw [if_neg h29]
  by_cases h30 : v = nI 20
  · rw [if_pos h30]; exact lw_20 hW hM h hs hL h2 kk
  rw [if_neg h30]
  by_cases h31 : v = nI 21
  · rw [if_pos h31]; exact lw_21 hW hM h hs hL h2 kk
  rw [if_neg h31]
  by_cases h32 : v = nI 22
  · rw [if_pos h32]; exact lw_22 hW hM h hs hL h2 kk
  rw [if_neg h32]
  by_cases h33 : v = nI 23
  · rw [if_pos h33]; exact lw_23 hW hM h hs hL h2 kk
  rw [if_neg h33]
  by_cases h34 : v = nI 24
  · rw [if_pos h34]; exact lw_24 hW hM h hs hL h2 kk
  rw [if_neg h34]
  by_cases h35 : v = nI 25
  · rw [if_pos h35]; exact lw_25 hW hM h hs hL h2 kk
  rw [if_neg h35]
  by_cases h36 : v = nI 26
  · rw [if_pos h36]; exact lw_26 hW hM h hs hL h2 kk
  rw [if_neg h36]
  by_cases h37 : v = nI 27
  · rw [if_pos h37]; exact lw_27 hW hM h hs hL h2 kk
  rw [if_neg h37]
  by_cases h38 : v = nI 28
  · rw [if_pos h38]; exact lw_28 hW hM h hs hL h2 kk
  rw [if_neg h38]
  by_cases h39 : v = nI 29
  · rw [if_pos h39]; exact lw_29 hW hM h hs hL h2 kk
  rw [if_neg h39]
  by_cases h40 : v = nI 30
  · rw [if_pos h40]; exact lw_30 hW hM h hs hL h2 kk
  rw [if_neg h40]
  by_cases h41 : v = nI 31
  · rw [if_pos h41]; exact lw_31 hW hM h hs hL h2 kk
  rw [if_neg h41]
  by_cases h42 : v = nI 32
  · rw [if_pos h42]; exact lw_32 hW hM h hs hL h2 kk
  rw [if_neg h42]
  by_cases h43 : v = nI 33
  · rw [if_pos h43]; exact lw_33 hW hM h hs hL h2 kk
  rw [if_neg h43]
  simp (maxSteps := 1000000) (decide := true) (disch := (first | assumption | omega | exact Nat.div_mul_le_self _ _ | exact ni_nz (by omega) (by omega) | exact rfl | exact retOk_bI _ | exact retOk_0 | exact retOk_1)) only [eL_law_1300, eL_law_1303, WpR_some, Option.toList_some, Option.toList_none, List.cons_append, List.nil_append, List.append_nil, clr_n, clr_i, clr_a, ni_add, ni_mul, ni_sub, ni_lt, ni_le, ni_eq, ni_div, nat_mod_eq, ni_rem, iMax_nn, iMin_nn, iMax_sub, Nat.zero_max, bI_0, bI_1, bI_n0, up2_s, up2_n, up2_k, va_up_self, va_up_ne, ni_l, lN_mul, lN_add, ln_mask, lN_i, ↓reduceIte, if_true, if_false, not_true_eq_false, not_false_eq_true, ite_self, Nat.add_zero, Nat.zero_add, ent_def]
  exact kk m ml h rfl
/-- THE LAW's loop: every call is answered alike, to the end -/
theorem lw_loop {n : Nat} (hW : GW G) (hM : GM G) (h : INV m ml) (hs : atg G 0 = 5) (h2 : aln G 0 < 1000000) (hi : i ≤ aln G 0) (hn : aln G 0 < i + n) (kk : ∀ m' ml', Q (some (.int (nI 1))) (G, m', ml')) : Wp mL_law 18 [some (.ref 0), some (.ref 2), some (.ref 158), some (.int (nI i))] [] (G, m, ml) Q := by
  induction n generalizing m ml i with
  | zero => omega
  | succ n ih =>
    have hc := law_c (L := aln G 0) (i := i) h2 (by omega)
    rw [eL_law_18]
    by_cases hq : aln G 0 < i + 8
    · simp (maxSteps := 1000000) (decide := true) (disch := (first | assumption | omega | exact Nat.div_mul_le_self _ _ | exact ni_nz (by omega) (by omega) | exact rfl | exact retOk_bI _ | exact retOk_0 | exact retOk_1)) only [eL_law_19, eL_law_20, eL_law_21, eL_law_23, eL_law_24, eL_law_27, eL_law_1306, eL_law_1307, hc, hq, WpR_some, Option.toList_some, Option.toList_none, List.cons_append, List.nil_append, List.append_nil, clr_n, clr_i, clr_a, ni_add, ni_mul, ni_sub, ni_lt, ni_le, ni_eq, ni_div, nat_mod_eq, ni_rem, iMax_nn, iMin_nn, iMax_sub, Nat.zero_max, bI_0, bI_1, bI_n0, up2_s, up2_n, up2_k, va_up_self, va_up_ne, ni_l, lN_mul, lN_add, ln_mask, lN_i, ↓reduceIte, if_true, if_false, not_true_eq_false, not_false_eq_true, ite_self, Nat.add_zero, Nat.zero_add, ent_def]
      exact kk _ _
    · have hq2 : ¬ aln G 0 - 8 < i := by omega
      simp (maxSteps := 1000000) (decide := true) (disch := (first | assumption | omega | exact Nat.div_mul_le_self _ _ | exact ni_nz (by omega) (by omega) | exact rfl | exact retOk_bI _ | exact retOk_0 | exact retOk_1)) only [eL_law_19, eL_law_20, eL_law_21, eL_law_23, eL_law_24, eL_law_27, eL_law_28, eL_law_29, eL_law_30, eL_law_32, hc, hq, hq2, WpR_some, Option.toList_some, Option.toList_none, List.cons_append, List.nil_append, List.append_nil, clr_n, clr_i, clr_a, ni_add, ni_mul, ni_sub, ni_lt, ni_le, ni_eq, ni_div, nat_mod_eq, ni_rem, iMax_nn, iMin_nn, iMax_sub, Nat.zero_max, bI_0, bI_1, bI_n0, up2_s, up2_n, up2_k, va_up_self, va_up_ne, ni_l, lN_mul, lN_add, ln_mask, lN_i, ↓reduceIte, if_true, if_false, not_true_eq_false, not_false_eq_true, ite_self, Nat.add_zero, Nat.zero_add, ent_def]
      exact lw_sw (i := i) hW hM h hs (by omega) h2 (fun m' ml' I' z => ih I' (by omega) (by omega))
end LAW
