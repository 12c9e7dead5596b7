/-- the class's state and what may be undone; what is known of them -/
def CA (m : Nat → Nat → Int32) (σ : Nat → Nat) (k : Nat) (f : Nat → Nat → Nat) : Prop := ShV m 3 σ ∧ PaV m 10 k f
def Ok (σ : Nat → Nat) : Prop := Bd σ ∧ σ 42 ≤ 9999 ∧ (∀ j, j < 5 → σ (35 + j) ≤ σ 42) ∧ ∀ j, j < 5 → σ 45 ≤ j → σ (35 + j) = 0
def IA (σ : Nat → Nat) (k : Nat) (f : Nat → Nat → Nat) : Prop := Ok σ ∧ ∀ i, i < k → Ok (f i) ∧ ∀ j, 44 ≤ j → j < 56 → f i j = σ j
/-- the class's cells that hold the image, the tape, the sheets, and all of the reference, stay -/
def FC (m m' : Nat → Nat → Int32) : Prop := ∀ b, (68 ≤ b ∧ b < 144) ∨ 158 ≤ b ∨ b < 3 → m' b = m b
theorem FC.rf {m : Nat → Nat → Int32} : FC m m := fun _ _ => rfl
theorem FC.tr {m m1 m2 : Nat → Nat → Int32} (h1 : FC m m1) (h2 : FC m1 m2) : FC m m2 := fun b hb => by rw [h2 b hb, h1 b hb]
theorem CA_fr {m m' : Nat → Nat → Int32} {σ : Nat → Nat} {k : Nat} {f : Nat → Nat → Nat} (h : CA m σ k f) (hf : ∀ b, 3 ≤ b → b < 68 → m' b = m b) : CA m' σ k f := ⟨ShV_fr h.1 (fun b h1 h2 => hf b h1 (by omega)), PaV_fr h.2 (fun b h1 h2 => hf b (by omega) (by omega))⟩
section PU1
variable {G : List AT} {m : Nat → Nat → Int32} {ml : Nat → Nat → Int64} {a n s h t ke kl x y o k : Nat} {σ τ : Nat → Nat} {u v w : Int32} {f : Nat → Nat → Nat}
theorem r_X6_isTeller (hG : GW G) (hV : ShV m 3 σ) : res mX6_isTeller [.ref 2, .int v] (G, m, ml) = some (some (.int (bI (isN v (σ 44)))), (G, m, ml)) := by
  obtain ⟨⟨g0, g1, -⟩, ⟨g2, -⟩, -⟩ := hG
  have s0 := g2.1
  obtain ⟨⟨v0, v1, -⟩, -⟩ := ShV_old hV
  apply res_of
  show Wp mX6_isTeller 0 [some (.ref 2), some (.int v)] [] (G, m, ml) _
  unfold isN
  by_cases c1 : nI 0 ≤ v <;> by_cases c2 : v < nI (σ 44) <;> simp (maxSteps := 1000000) (decide := true) (disch := (first | assumption | omega | exact Nat.div_mul_le_self _ _ | exact ni_nz (by omega) (by omega) | exact rfl | exact retOk_bI _ | exact retOk_0 | exact retOk_1)) only [eX6_isTeller_0, eX6_isTeller_1, eX6_isTeller_4, eX6_isTeller_5, eX6_isTeller_6, eX6_isTeller_9, eX6_isTeller_12, eX6_isTeller_15, eX6_isTeller_16, eX6_isTeller_19, eX6_isTeller_20, g1, v0, i_lt, WpR_some, Option.toList_some, Option.toList_none, List.cons_append, List.nil_append, List.append_nil, clr_n, clr_i, clr_a, ni_add, ni_mul, ni_sub, ni_lt, ni_le, ni_eq, ni_div, nat_mod_eq, ni_rem, iMax_nn, iMin_nn, iMax_sub, Nat.zero_max, bI_0, bI_1, bI_n0, up2_s, up2_n, up2_k, va_up_self, va_up_ne, ni_l, lN_mul, lN_add, ln_mask, lN_i, ↓reduceIte, if_true, if_false, not_true_eq_false, not_false_eq_true, ite_self, Nat.add_zero, Nat.zero_add, ent_def] <;> simp only [i_lt] at c2 <;> simp [c1, c2, bI, i_lt]
theorem r_X6_isHearer (hG : GW G) (hV : ShV m 3 σ) : res mX6_isHearer [.ref 2, .int v] (G, m, ml) = some (some (.int (bI (isN v (σ 45)))), (G, m, ml)) := by
  obtain ⟨⟨g0, g1, -⟩, ⟨g2, -⟩, -⟩ := hG
  have s0 := g2.1
  obtain ⟨⟨v0, v1, -⟩, -⟩ := ShV_old hV
  apply res_of
  show Wp mX6_isHearer 0 [some (.ref 2), some (.int v)] [] (G, m, ml) _
  unfold isN
  by_cases c1 : nI 0 ≤ v <;> by_cases c2 : v < nI (σ 45) <;> simp (maxSteps := 1000000) (decide := true) (disch := (first | assumption | omega | exact Nat.div_mul_le_self _ _ | exact ni_nz (by omega) (by omega) | exact rfl | exact retOk_bI _ | exact retOk_0 | exact retOk_1)) only [eX6_isHearer_0, eX6_isHearer_1, eX6_isHearer_4, eX6_isHearer_5, eX6_isHearer_6, eX6_isHearer_9, eX6_isHearer_12, eX6_isHearer_15, eX6_isHearer_16, eX6_isHearer_19, eX6_isHearer_20, g1, v1, i_lt, WpR_some, Option.toList_some, Option.toList_none, List.cons_append, List.nil_append, List.append_nil, clr_n, clr_i, clr_a, ni_add, ni_mul, ni_sub, ni_lt, ni_le, ni_eq, ni_div, nat_mod_eq, ni_rem, iMax_nn, iMin_nn, iMax_sub, Nat.zero_max, bI_0, bI_1, bI_n0, up2_s, up2_n, up2_k, va_up_self, va_up_ne, ni_l, lN_mul, lN_add, ln_mask, lN_i, ↓reduceIte, if_true, if_false, not_true_eq_false, not_false_eq_true, ite_self, Nat.add_zero, Nat.zero_add, ent_def] <;> simp only [i_lt] at c2 <;> simp [c1, c2, bI, i_lt]
theorem r_X6_isSheet {μ : Mm} : res mX6_isSheet [.int v] μ = some (some (.int (bI (isN v 4))), μ) := by
  apply res_of
  show Wp mX6_isSheet 0 [some (.int v)] [] μ _
  unfold isN
  by_cases c1 : nI 0 ≤ v <;> by_cases c2 : v < nI 4 <;> simp (maxSteps := 1000000) (decide := true) (disch := (first | assumption | omega | exact Nat.div_mul_le_self _ _ | exact ni_nz (by omega) (by omega) | exact rfl | exact retOk_bI _ | exact retOk_0 | exact retOk_1)) only [eX6_isSheet_0, eX6_isSheet_1, eX6_isSheet_4, eX6_isSheet_5, eX6_isSheet_6, eX6_isSheet_9, eX6_isSheet_10, eX6_isSheet_13, eX6_isSheet_14, i_lt, WpR_some, Option.toList_some, Option.toList_none, List.cons_append, List.nil_append, List.append_nil, clr_n, clr_i, clr_a, ni_add, ni_mul, ni_sub, ni_lt, ni_le, ni_eq, ni_div, nat_mod_eq, ni_rem, iMax_nn, iMin_nn, iMax_sub, Nat.zero_max, bI_0, bI_1, bI_n0, up2_s, up2_n, up2_k, va_up_self, va_up_ne, ni_l, lN_mul, lN_add, ln_mask, lN_i, ↓reduceIte, if_true, if_false, not_true_eq_false, not_false_eq_true, ite_self, Nat.add_zero, Nat.zero_add, ent_def] <;> simp only [i_lt] at c2 <;> simp [c1, c2, bI, i_lt]
theorem r_X6_isLane {μ : Mm} : res mX6_isLane [.int v] μ = some (some (.int (bI (isN v 4))), μ) := by
  apply res_of
  show Wp mX6_isLane 0 [some (.int v)] [] μ _
  unfold isN
  by_cases c1 : nI 0 ≤ v <;> by_cases c2 : v < nI 4 <;> simp (maxSteps := 1000000) (decide := true) (disch := (first | assumption | omega | exact Nat.div_mul_le_self _ _ | exact ni_nz (by omega) (by omega) | exact rfl | exact retOk_bI _ | exact retOk_0 | exact retOk_1)) only [eX6_isLane_0, eX6_isLane_1, eX6_isLane_4, eX6_isLane_5, eX6_isLane_6, eX6_isLane_9, eX6_isLane_10, eX6_isLane_13, eX6_isLane_14, i_lt, WpR_some, Option.toList_some, Option.toList_none, List.cons_append, List.nil_append, List.append_nil, clr_n, clr_i, clr_a, ni_add, ni_mul, ni_sub, ni_lt, ni_le, ni_eq, ni_div, nat_mod_eq, ni_rem, iMax_nn, iMin_nn, iMax_sub, Nat.zero_max, bI_0, bI_1, bI_n0, up2_s, up2_n, up2_k, va_up_self, va_up_ne, ni_l, lN_mul, lN_add, ln_mask, lN_i, ↓reduceIte, if_true, if_false, not_true_eq_false, not_false_eq_true, ite_self, Nat.add_zero, Nat.zero_add, ent_def] <;> simp only [i_lt] at c2 <;> simp [c1, c2, bI, i_lt]
theorem r_X6_wi {lo hi : Nat} {μ : Mm} : res mX6_within [.int v, .int (nI lo), .int (nI hi)] μ = some (some (.int (bI (rg v lo hi))), μ) := r_X6_within
/-- teller -/
theorem c_teller_bad (h : (rg u 0 4 && rg v 1 20) = false) : res mX6_teller [.ref 2, .int u, .int v] (G, m, ml) = some (some (.int (-1)), (G, m, ml)) := by
  apply res_of
  show Wp mX6_teller 0 [some (.ref 2), some (.int u), some (.int v)] [] (G, m, ml) _
  cases h1 : rg u 0 4
  · simp (maxSteps := 1000000) (decide := true) (disch := (first | assumption | omega | exact Nat.div_mul_le_self _ _ | exact ni_nz (by omega) (by omega) | exact rfl | exact retOk_bI _ | exact retOk_0 | exact retOk_1)) only [eX6_teller_0, eX6_teller_1, eX6_teller_2, eX6_teller_3, eX6_teller_6, eX6_teller_9, eX6_teller_10, eX6_teller_11, eX6_teller_13, eX6_teller_16, eX6_teller_19, eX6_teller_20, eX6_teller_21, eX6_teller_22, eX6_teller_25, eX6_teller_28, eX6_teller_29, eX6_teller_32, eX6_teller_34, eX6_teller_35, eX6_teller_36, eX6_teller_39, eX6_teller_42, eX6_teller_43, eX6_teller_46, eX6_teller_47, eX6_teller_48, eX6_teller_51, r_X6_wi, h1, WpR_some, Option.toList_some, Option.toList_none, List.cons_append, List.nil_append, List.append_nil, clr_n, clr_i, clr_a, ni_add, ni_mul, ni_sub, ni_lt, ni_le, ni_eq, ni_div, nat_mod_eq, ni_rem, iMax_nn, iMin_nn, iMax_sub, Nat.zero_max, bI_0, bI_1, bI_n0, up2_s, up2_n, up2_k, va_up_self, va_up_ne, ni_l, lN_mul, lN_add, ln_mask, lN_i, ↓reduceIte, if_true, if_false, not_true_eq_false, not_false_eq_true, ite_self, Nat.add_zero, Nat.zero_add, ent_def]
  · rw [h1, Bool.true_and] at h
    simp (maxSteps := 1000000) (decide := true) (disch := (first | assumption | omega | exact Nat.div_mul_le_self _ _ | exact ni_nz (by omega) (by omega) | exact rfl | exact retOk_bI _ | exact retOk_0 | exact retOk_1)) only [eX6_teller_0, eX6_teller_1, eX6_teller_2, eX6_teller_3, eX6_teller_6, eX6_teller_9, eX6_teller_10, eX6_teller_11, eX6_teller_13, eX6_teller_16, eX6_teller_19, eX6_teller_20, eX6_teller_21, eX6_teller_22, eX6_teller_25, eX6_teller_28, eX6_teller_29, eX6_teller_32, eX6_teller_34, eX6_teller_35, eX6_teller_36, eX6_teller_39, eX6_teller_42, eX6_teller_43, eX6_teller_46, eX6_teller_47, eX6_teller_48, eX6_teller_51, r_X6_wi, h1, h, WpR_some, Option.toList_some, Option.toList_none, List.cons_append, List.nil_append, List.append_nil, clr_n, clr_i, clr_a, ni_add, ni_mul, ni_sub, ni_lt, ni_le, ni_eq, ni_div, nat_mod_eq, ni_rem, iMax_nn, iMin_nn, iMax_sub, Nat.zero_max, bI_0, bI_1, bI_n0, up2_s, up2_n, up2_k, va_up_self, va_up_ne, ni_l, lN_mul, lN_add, ln_mask, lN_i, ↓reduceIte, if_true, if_false, not_true_eq_false, not_false_eq_true, ite_self, Nat.add_zero, Nat.zero_add, ent_def]
theorem c_teller_full (hG : GW G) (hC : CA m σ k f) (h1 : rg u 0 4 = true) (h2 : rg v 1 20 = true) (h5 : σ 44 = 5) : res mX6_teller [.ref 2, .int u, .int v] (G, m, ml) = some (some (.int (-3)), (G, m, ml)) := by
  obtain ⟨⟨g0, g1, g2, -⟩, ⟨s3, -⟩, -⟩ := hG
  have s0 := s3.1
  obtain ⟨⟨v0, v1, -⟩, -⟩ := ShV_old hC.1
  rw [h5] at v0
  apply res_of
  show Wp mX6_teller 0 [some (.ref 2), some (.int u), some (.int v)] [] (G, m, ml) _
  simp (maxSteps := 1000000) (decide := true) (disch := (first | assumption | omega | exact Nat.div_mul_le_self _ _ | exact ni_nz (by omega) (by omega) | exact rfl | exact retOk_bI _ | exact retOk_0 | exact retOk_1)) only [eX6_teller_0, eX6_teller_1, eX6_teller_2, eX6_teller_3, eX6_teller_6, eX6_teller_9, eX6_teller_10, eX6_teller_11, eX6_teller_13, eX6_teller_16, eX6_teller_19, eX6_teller_20, eX6_teller_21, eX6_teller_22, eX6_teller_25, eX6_teller_28, eX6_teller_29, eX6_teller_32, eX6_teller_34, eX6_teller_35, eX6_teller_36, eX6_teller_39, eX6_teller_42, eX6_teller_43, eX6_teller_46, eX6_teller_47, eX6_teller_48, eX6_teller_51, r_X6_wi, h1, h2, g1, v0, WpR_some, Option.toList_some, Option.toList_none, List.cons_append, List.nil_append, List.append_nil, clr_n, clr_i, clr_a, ni_add, ni_mul, ni_sub, ni_lt, ni_le, ni_eq, ni_div, nat_mod_eq, ni_rem, iMax_nn, iMin_nn, iMax_sub, Nat.zero_max, bI_0, bI_1, bI_n0, up2_s, up2_n, up2_k, va_up_self, va_up_ne, ni_l, lN_mul, lN_add, ln_mask, lN_i, ↓reduceIte, if_true, if_false, not_true_eq_false, not_false_eq_true, ite_self, Nat.add_zero, Nat.zero_add, ent_def]
theorem c_teller (hG : GW G) (hC : CA m σ k f) (h1 : rg (nI x) 0 4 = true) (h2 : rg (nI y) 1 20 = true) (h5 : σ 44 < 5) (hx : x < 1000) (hy : y < 1000) : ∃ m', res mX6_teller [.ref 2, .int (nI x), .int (nI y)] (G, m, ml) = some (some (.int (nI (σ 44))), (G, m', ml)) ∧ CA m' (addT σ x y) 0 f ∧ FC m m' := by
  obtain ⟨⟨g0, g1, g2, -⟩, ⟨s3, p10, -⟩, -⟩ := hG
  have s0 := s3.1
  have p0 := p10.1
  obtain ⟨⟨v0, v1, -⟩, -⟩ := ShV_old hC.1
  have e1 := r_X1_forget (G := G) (m := m) (ml := ml) p0
  have V1 : ShV (up2 m 10 2 (nI 0)) 3 σ := ShV_fr hC.1 (fun b b1 b2 => up2_n (by omega))
  obtain ⟨m2, e2, V2, F2⟩ := r_X3_addTeller (ml := ml) s3 V1 h5 hx hy
  refine ⟨m2, ?_, ⟨V2, PaV_fr (PaV_forget hC.2) (fun b b1 b2 => F2 b (by omega))⟩, fun b hb => by rw [F2 b (by omega), up2_n (by omega)]⟩
  apply res_of
  show Wp mX6_teller 0 [some (.ref 2), some (.int (nI x)), some (.int (nI y))] [] (G, m, ml) _
  simp (maxSteps := 1000000) (decide := true) (disch := (first | assumption | omega | exact Nat.div_mul_le_self _ _ | exact ni_nz (by omega) (by omega) | exact rfl | exact retOk_bI _ | exact retOk_0 | exact retOk_1)) only [eX6_teller_0, eX6_teller_1, eX6_teller_2, eX6_teller_3, eX6_teller_6, eX6_teller_9, eX6_teller_10, eX6_teller_11, eX6_teller_13, eX6_teller_16, eX6_teller_19, eX6_teller_20, eX6_teller_21, eX6_teller_22, eX6_teller_25, eX6_teller_28, eX6_teller_29, eX6_teller_32, eX6_teller_34, eX6_teller_35, eX6_teller_36, eX6_teller_39, eX6_teller_42, eX6_teller_43, eX6_teller_46, eX6_teller_47, eX6_teller_48, eX6_teller_51, r_X6_wi, h1, h2, g1, g2, v0, h5, e1, e2, WpR_some, Option.toList_some, Option.toList_none, List.cons_append, List.nil_append, List.append_nil, clr_n, clr_i, clr_a, ni_add, ni_mul, ni_sub, ni_lt, ni_le, ni_eq, ni_div, nat_mod_eq, ni_rem, iMax_nn, iMin_nn, iMax_sub, Nat.zero_max, bI_0, bI_1, bI_n0, up2_s, up2_n, up2_k, va_up_self, va_up_ne, ni_l, lN_mul, lN_add, ln_mask, lN_i, ↓reduceIte, if_true, if_false, not_true_eq_false, not_false_eq_true, ite_self, Nat.add_zero, Nat.zero_add, ent_def]
theorem c_hearer_bad (h : rg u 1 60 = false) : res mX6_hearer [.ref 2, .int u] (G, m, ml) = some (some (.int (-1)), (G, m, ml)) := by
  apply res_of
  show Wp mX6_hearer 0 [some (.ref 2), some (.int u)] [] (G, m, ml) _
  simp (maxSteps := 1000000) (decide := true) (disch := (first | assumption | omega | exact Nat.div_mul_le_self _ _ | exact ni_nz (by omega) (by omega) | exact rfl | exact retOk_bI _ | exact retOk_0 | exact retOk_1)) only [eX6_hearer_0, eX6_hearer_1, eX6_hearer_2, eX6_hearer_4, eX6_hearer_7, eX6_hearer_10, eX6_hearer_11, eX6_hearer_12, eX6_hearer_13, eX6_hearer_16, eX6_hearer_19, eX6_hearer_20, eX6_hearer_23, eX6_hearer_25, eX6_hearer_26, eX6_hearer_27, eX6_hearer_30, eX6_hearer_33, eX6_hearer_34, eX6_hearer_37, eX6_hearer_38, eX6_hearer_41, r_X6_wi, h, WpR_some, Option.toList_some, Option.toList_none, List.cons_append, List.nil_append, List.append_nil, clr_n, clr_i, clr_a, ni_add, ni_mul, ni_sub, ni_lt, ni_le, ni_eq, ni_div, nat_mod_eq, ni_rem, iMax_nn, iMin_nn, iMax_sub, Nat.zero_max, bI_0, bI_1, bI_n0, up2_s, up2_n, up2_k, va_up_self, va_up_ne, ni_l, lN_mul, lN_add, ln_mask, lN_i, ↓reduceIte, if_true, if_false, not_true_eq_false, not_false_eq_true, ite_self, Nat.add_zero, Nat.zero_add, ent_def]
theorem c_hearer_full (hG : GW G) (hC : CA m σ k f) (h1 : rg u 1 60 = true) (h5 : σ 45 = 5) : res mX6_hearer [.ref 2, .int u] (G, m, ml) = some (some (.int (-3)), (G, m, ml)) := by
  obtain ⟨⟨g0, g1, g2, -⟩, ⟨s3, -⟩, -⟩ := hG
  have s0 := s3.1
  obtain ⟨⟨v0, v1, -⟩, -⟩ := ShV_old hC.1
  rw [h5] at v1
  apply res_of
  show Wp mX6_hearer 0 [some (.ref 2), some (.int u)] [] (G, m, ml) _
  simp (maxSteps := 1000000) (decide := true) (disch := (first | assumption | omega | exact Nat.div_mul_le_self _ _ | exact ni_nz (by omega) (by omega) | exact rfl | exact retOk_bI _ | exact retOk_0 | exact retOk_1)) only [eX6_hearer_0, eX6_hearer_1, eX6_hearer_2, eX6_hearer_4, eX6_hearer_7, eX6_hearer_10, eX6_hearer_11, eX6_hearer_12, eX6_hearer_13, eX6_hearer_16, eX6_hearer_19, eX6_hearer_20, eX6_hearer_23, eX6_hearer_25, eX6_hearer_26, eX6_hearer_27, eX6_hearer_30, eX6_hearer_33, eX6_hearer_34, eX6_hearer_37, eX6_hearer_38, eX6_hearer_41, r_X6_wi, h1, g1, v1, WpR_some, Option.toList_some, Option.toList_none, List.cons_append, List.nil_append, List.append_nil, clr_n, clr_i, clr_a, ni_add, ni_mul, ni_sub, ni_lt, ni_le, ni_eq, ni_div, nat_mod_eq, ni_rem, iMax_nn, iMin_nn, iMax_sub, Nat.zero_max, bI_0, bI_1, bI_n0, up2_s, up2_n, up2_k, va_up_self, va_up_ne, ni_l, lN_mul, lN_add, ln_mask, lN_i, ↓reduceIte, if_true, if_false, not_true_eq_false, not_false_eq_true, ite_self, Nat.add_zero, Nat.zero_add, ent_def]
theorem c_hearer (hG : GW G) (hC : CA m σ k f) (h1 : rg (nI x) 1 60 = true) (h5 : σ 45 < 5) (hx : x < 1000) : ∃ m', res mX6_hearer [.ref 2, .int (nI x)] (G, m, ml) = some (some (.int (nI (σ 45))), (G, m', ml)) ∧ CA m' (addH σ x) 0 f ∧ FC m m' := by
  obtain ⟨⟨g0, g1, g2, -⟩, ⟨s3, p10, -⟩, -⟩ := hG
  have s0 := s3.1
  have p0 := p10.1
  obtain ⟨⟨v0, v1, -⟩, -⟩ := ShV_old hC.1
  have e1 := r_X1_forget (G := G) (m := m) (ml := ml) p0
  have V1 : ShV (up2 m 10 2 (nI 0)) 3 σ := ShV_fr hC.1 (fun b b1 b2 => up2_n (by omega))
  obtain ⟨m2, e2, V2, F2⟩ := r_X3_addHearer (ml := ml) s3 V1 h5 hx
  refine ⟨m2, ?_, ⟨V2, PaV_fr (PaV_forget hC.2) (fun b b1 b2 => F2 b (by omega))⟩, fun b hb => by rw [F2 b (by omega), up2_n (by omega)]⟩
  apply res_of
  show Wp mX6_hearer 0 [some (.ref 2), some (.int (nI x))] [] (G, m, ml) _
  simp (maxSteps := 1000000) (decide := true) (disch := (first | assumption | omega | exact Nat.div_mul_le_self _ _ | exact ni_nz (by omega) (by omega) | exact rfl | exact retOk_bI _ | exact retOk_0 | exact retOk_1)) only [eX6_hearer_0, eX6_hearer_1, eX6_hearer_2, eX6_hearer_4, eX6_hearer_7, eX6_hearer_10, eX6_hearer_11, eX6_hearer_12, eX6_hearer_13, eX6_hearer_16, eX6_hearer_19, eX6_hearer_20, eX6_hearer_23, eX6_hearer_25, eX6_hearer_26, eX6_hearer_27, eX6_hearer_30, eX6_hearer_33, eX6_hearer_34, eX6_hearer_37, eX6_hearer_38, eX6_hearer_41, r_X6_wi, h1, g1, g2, v1, h5, e1, e2, WpR_some, Option.toList_some, Option.toList_none, List.cons_append, List.nil_append, List.append_nil, clr_n, clr_i, clr_a, ni_add, ni_mul, ni_sub, ni_lt, ni_le, ni_eq, ni_div, nat_mod_eq, ni_rem, iMax_nn, iMin_nn, iMax_sub, Nat.zero_max, bI_0, bI_1, bI_n0, up2_s, up2_n, up2_k, va_up_self, va_up_ne, ni_l, lN_mul, lN_add, ln_mask, lN_i, ↓reduceIte, if_true, if_false, not_true_eq_false, not_false_eq_true, ite_self, Nat.add_zero, Nat.zero_add, ent_def]
end PU1
