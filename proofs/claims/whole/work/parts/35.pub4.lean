/-- the image: none (im false), or a state with what may be undone -/
def CB (m : Nat → Nat → Int32) (im : Bool) (σ : Nat → Nat) (k : Nat) (f : Nat → Nat → Nat) : Prop := m 2 4 = bI im ∧ (im = true → ShV m 68 σ ∧ PaV m 75 k f)
def CT (m : Nat → Nat → Int32) (tl : Nat) (tc : Nat → Nat) : Prop := m 133 1 = nI tl ∧ tl ≤ 70 ∧ ∀ j, j < tl → m 134 j = nI (tc j) ∧ 32 ≤ tc j ∧ tc j ≤ 126
section PU4
variable {G : List AT} {m : Nat → Nat → Int32} {ml : Nat → Nat → Int64} {a n s h t ke kl x y o k ki : Nat} {σ τ σi : Nat → Nat} {u v w : Int32} {f fi : Nat → Nat → Nat} {d im : Bool}
theorem le_m1 {v : Int32} {k : Nat} (hk : k < 1000) : (v ≤ nI k - nI 1) = (v < nI k) := by
  apply propext
  rw [Int32.le_iff_toInt_le, Int32.lt_iff_toInt_lt, pk_sub_toInt (by omega) (by decide), nI_toInt (by omega)]
  omega
theorem c_turn_bad (hG : GW G) (hC : CA m σ k f) (hB : Bd σ) (h : isN v (seats σ) = false) : res mX6_turn [.ref 2, .int v] (G, m, ml) = some (some (.int (-1)), (G, m, ml)) := by
  have hs5 := seats_le hB
  obtain ⟨⟨g0, g1, g2, -⟩, ⟨s3, p10, -⟩, -⟩ := hG
  have s0 := s3.1
  obtain ⟨⟨v0, v1, v2, v3, v4, v5, v6⟩, -⟩ := ShV_old hC.1
  have e : ∀ z : Int32, z = nI (seats σ) - nI 1 → res mX6_within [.int v, .int (nI 0), .int z] (G, m, ml) = some (some (.int (nI 0)), (G, m, ml)) := by
    rintro z rfl
    have := r_X6_within (u := v) (v := nI 0) (w := nI (seats σ) - nI 1) (μ := (G, m, ml))
    rw [this]
    simp only [le_m1 (v := v) (k := seats σ) (by omega)]
    have h' : (decide (nI 0 ≤ v) && decide (v < nI (seats σ))) = false := h
    rw [h']
    rfl
  apply res_of
  show Wp mX6_turn 0 [some (.ref 2), some (.int v), none] [] (G, m, ml) _
  by_cases hz : 1 ≤ seats σ
  · have e1 := e (nI (seats σ - 1)) (by rw [ni_sub hz])
    simp (maxSteps := 1000000) (decide := true) (disch := (first | assumption | omega | exact Nat.div_mul_le_self _ _ | exact ni_nz (by omega) (by omega) | exact rfl | exact retOk_bI _ | exact retOk_0 | exact retOk_1)) only [eX6_turn_0, eX6_turn_1, eX6_turn_2, eX6_turn_3, eX6_turn_6, eX6_turn_9, eX6_turn_10, eX6_turn_11, eX6_turn_14, eX6_turn_17, eX6_turn_18, eX6_turn_19, eX6_turn_20, eX6_turn_23, eX6_turn_26, eX6_turn_27, eX6_turn_28, eX6_turn_29, eX6_turn_32, eX6_turn_34, eX6_turn_35, eX6_turn_36, eX6_turn_39, eX6_turn_40, eX6_turn_43, eX6_turn_46, eX6_turn_47, eX6_turn_50, eX6_turn_51, eX6_turn_54, eX6_turn_55, g1, v2, e1, WpR_some, Option.toList_some, Option.toList_none, List.cons_append, List.nil_append, List.append_nil, clr_n, clr_i, clr_a, ni_add, ni_mul, ni_sub, ni_lt, ni_le, ni_eq, ni_div, nat_mod_eq, ni_rem, iMax_nn, iMin_nn, iMax_sub, Nat.zero_max, bI_0, bI_1, bI_n0, up2_s, up2_n, up2_k, va_up_self, va_up_ne, ni_l, lN_mul, lN_add, ln_mask, lN_i, ↓reduceIte, if_true, if_false, not_true_eq_false, not_false_eq_true, ite_self, Nat.add_zero, Nat.zero_add, ent_def]
  · have e1 := e _ rfl
    simp (maxSteps := 1000000) (decide := true) (disch := (first | assumption | omega | exact Nat.div_mul_le_self _ _ | exact ni_nz (by omega) (by omega) | exact rfl | exact retOk_bI _ | exact retOk_0 | exact retOk_1)) only [eX6_turn_0, eX6_turn_1, eX6_turn_2, eX6_turn_3, eX6_turn_6, eX6_turn_9, eX6_turn_10, eX6_turn_11, eX6_turn_14, eX6_turn_17, eX6_turn_18, eX6_turn_19, eX6_turn_20, eX6_turn_23, eX6_turn_26, eX6_turn_27, eX6_turn_28, eX6_turn_29, eX6_turn_32, eX6_turn_34, eX6_turn_35, eX6_turn_36, eX6_turn_39, eX6_turn_40, eX6_turn_43, eX6_turn_46, eX6_turn_47, eX6_turn_50, eX6_turn_51, eX6_turn_54, eX6_turn_55, g1, v2, e1, WpR_some, Option.toList_some, Option.toList_none, List.cons_append, List.nil_append, List.append_nil, clr_n, clr_i, clr_a, ni_add, ni_mul, ni_sub, ni_lt, ni_le, ni_eq, ni_div, nat_mod_eq, ni_rem, iMax_nn, iMin_nn, iMax_sub, Nat.zero_max, bI_0, bI_1, bI_n0, up2_s, up2_n, up2_k, va_up_self, va_up_ne, ni_l, lN_mul, lN_add, ln_mask, lN_i, ↓reduceIte, if_true, if_false, not_true_eq_false, not_false_eq_true, ite_self, Nat.add_zero, Nat.zero_add, ent_def]
theorem c_turn (hG : GW G) (hC : CA m σ k f) (hB : Bd σ) (h2 : n < seats σ) : ∃ m', res mX6_turn [.ref 2, .int (nI n)] (G, m, ml) = some (some (.int (if n = σ 40 then -2 else nI (σ 40))), (G, m', ml)) ∧ (if n = σ 40 then CA m' σ k f else CA m' (upN σ 40 n) (min 8 (k + 1)) (pushF σ f)) ∧ FC m m' := by
  have hs5 := seats_le hB
  have b4 := hB.2.2.2.1
  have hr := rg_t (j := n) (lo := 0) (hi := seats σ - 1) (Nat.zero_le _) (by omega) (by omega)
  obtain ⟨⟨g0, g1, g2, -⟩, ⟨s3, p10, -⟩, -⟩ := hG
  have p0 := p10.1
  have s0 := s3.1
  obtain ⟨⟨v0, v1, v2, v3, v4, v5, v6⟩, -⟩ := ShV_old hC.1
  by_cases hc : n = σ 40
  · refine ⟨m, ?_, by rw [if_pos hc]; exact hC, FC.rf⟩
    rw [if_pos hc]
    apply res_of
    show Wp mX6_turn 0 [some (.ref 2), some (.int (nI n)), none] [] (G, m, ml) _
    have hc' : (nI n = nI (σ 40)) = True := by rw [hc]; simp
    have hb1 : 1 ≤ seats σ := by omega
    simp (maxSteps := 1000000) (decide := true) (disch := (first | assumption | omega | exact Nat.div_mul_le_self _ _ | exact ni_nz (by omega) (by omega) | exact rfl | exact retOk_bI _ | exact retOk_0 | exact retOk_1)) only [eX6_turn_0, eX6_turn_1, eX6_turn_2, eX6_turn_3, eX6_turn_6, eX6_turn_9, eX6_turn_10, eX6_turn_11, eX6_turn_14, eX6_turn_17, eX6_turn_18, eX6_turn_19, eX6_turn_20, eX6_turn_23, eX6_turn_26, eX6_turn_27, eX6_turn_28, eX6_turn_29, eX6_turn_32, eX6_turn_34, eX6_turn_35, eX6_turn_36, eX6_turn_39, eX6_turn_40, eX6_turn_43, eX6_turn_46, eX6_turn_47, eX6_turn_50, eX6_turn_51, eX6_turn_54, eX6_turn_55, g1, v2, v3, r_X6_wi, hr, hc', ni_sub hb1, WpR_some, Option.toList_some, List.cons_append, List.nil_append, clr_n, clr_i, clr_a, bI_0, bI_n0, ↓reduceIte, not_true_eq_false, not_false_eq_true]
  · obtain ⟨m2, e2, P2, F2⟩ := r_X1_note (ml := ml) p10 s3 (by omega) hC.2 hC.1
    have V2 : ShV m2 3 σ := ShV_fr hC.1 (fun b b1 b2 => F2 b (by omega))
    refine ⟨up2 m2 3 3 (nI n), ?_, ?_, ?_⟩
    · rw [if_neg hc]
      apply res_of
      show Wp mX6_turn 0 [some (.ref 2), some (.int (nI n)), none] [] (G, m, ml) _
      simp (maxSteps := 1000000) (decide := true) (disch := (first | assumption | omega | exact Nat.div_mul_le_self _ _ | exact ni_nz (by omega) (by omega) | exact rfl | exact retOk_bI _ | exact retOk_0 | exact retOk_1)) only [eX6_turn_0, eX6_turn_1, eX6_turn_2, eX6_turn_3, eX6_turn_6, eX6_turn_9, eX6_turn_10, eX6_turn_11, eX6_turn_14, eX6_turn_17, eX6_turn_18, eX6_turn_19, eX6_turn_20, eX6_turn_23, eX6_turn_26, eX6_turn_27, eX6_turn_28, eX6_turn_29, eX6_turn_32, eX6_turn_34, eX6_turn_35, eX6_turn_36, eX6_turn_39, eX6_turn_40, eX6_turn_43, eX6_turn_46, eX6_turn_47, eX6_turn_50, eX6_turn_51, eX6_turn_54, eX6_turn_55, g1, g2, v2, v3, r_X6_wi, hr, hc, e2, WpR_some, Option.toList_some, Option.toList_none, List.cons_append, List.nil_append, List.append_nil, clr_n, clr_i, clr_a, ni_add, ni_mul, ni_sub, ni_lt, ni_le, ni_eq, ni_div, nat_mod_eq, ni_rem, iMax_nn, iMin_nn, iMax_sub, Nat.zero_max, bI_0, bI_1, bI_n0, up2_s, up2_n, up2_k, va_up_self, va_up_ne, ni_l, lN_mul, lN_add, ln_mask, lN_i, ↓reduceIte, if_true, if_false, not_true_eq_false, not_false_eq_true, ite_self, Nat.add_zero, Nat.zero_add, ent_def]
    · rw [if_neg hc]
      exact ⟨ShV_up (i := 40) (v := n) V2 (by decide) (by decide) (by decide) (by decide) (by decide), PaV_fr P2 (fun b b1 b2 => by rw [up2_n (by omega)])⟩
    · intro b hb; rw [up2_n (by omega), F2 b (by omega)]
theorem c_seed_bad (h : v < nI 0) : res mX6_seed [.ref 2, .int v] (G, m, ml) = some (some (.int (-1)), (G, m, ml)) := by
  have h' : ¬ nI 0 ≤ v := by rw [i_lt] at h; exact h
  apply res_of
  show Wp mX6_seed 0 [some (.ref 2), some (.int v), none] [] (G, m, ml) _
  simp (maxSteps := 1000000) (decide := true) (disch := (first | assumption | omega | exact Nat.div_mul_le_self _ _ | exact ni_nz (by omega) (by omega) | exact rfl | exact retOk_bI _ | exact retOk_0 | exact retOk_1)) only [eX6_seed_0, eX6_seed_1, eX6_seed_4, eX6_seed_5, eX6_seed_6, eX6_seed_7, eX6_seed_10, eX6_seed_13, eX6_seed_14, eX6_seed_15, eX6_seed_18, eX6_seed_19, eX6_seed_22, eX6_seed_23, h', WpR_some, Option.toList_some, Option.toList_none, List.cons_append, List.nil_append, List.append_nil, clr_n, clr_i, clr_a, ni_add, ni_mul, ni_sub, ni_lt, ni_le, ni_eq, ni_div, nat_mod_eq, ni_rem, iMax_nn, iMin_nn, iMax_sub, Nat.zero_max, bI_0, bI_1, bI_n0, up2_s, up2_n, up2_k, va_up_self, va_up_ne, ni_l, lN_mul, lN_add, ln_mask, lN_i, ↓reduceIte, if_true, if_false, not_true_eq_false, not_false_eq_true, ite_self, Nat.add_zero, Nat.zero_add, ent_def]
theorem c_seed (hG : GW G) (hC : CA m σ k f) (h : x < 2147483648) : ∃ m', res mX6_seed [.ref 2, .int (nI x)] (G, m, ml) = some (some (.int (nI (σ 43))), (G, m', ml)) ∧ CA m' (upN σ 43 x) k f ∧ FC m m' := by
  obtain ⟨⟨g0, g1, g2, -⟩, ⟨s3, p10, -⟩, -⟩ := hG
  have s0 := s3.1
  obtain ⟨⟨v0, v1, v2, v3, v4, v5, v6⟩, -⟩ := ShV_old hC.1
  refine ⟨up2 m 3 6 (nI x), ?_, ⟨ShV_up (i := 43) (v := x) hC.1 (by decide) (by decide) (by decide) (by decide) (by decide), PaV_fr hC.2 (fun b b1 b2 => by rw [up2_n (by omega)])⟩, fun b hb => by rw [up2_n (by omega)]⟩
  apply res_of
  show Wp mX6_seed 0 [some (.ref 2), some (.int (nI x)), none] [] (G, m, ml) _
  simp (maxSteps := 1000000) (decide := true) (disch := (first | assumption | omega | exact Nat.div_mul_le_self _ _ | exact ni_nz (by omega) (by omega) | exact rfl | exact retOk_bI _ | exact retOk_0 | exact retOk_1)) only [eX6_seed_0, eX6_seed_1, eX6_seed_4, eX6_seed_5, eX6_seed_6, eX6_seed_7, eX6_seed_10, eX6_seed_13, eX6_seed_14, eX6_seed_15, eX6_seed_18, eX6_seed_19, eX6_seed_22, eX6_seed_23, g1, v6, Nat.zero_le, WpR_some, Option.toList_some, Option.toList_none, List.cons_append, List.nil_append, List.append_nil, clr_n, clr_i, clr_a, ni_add, ni_mul, ni_sub, ni_lt, ni_le, ni_eq, ni_div, nat_mod_eq, ni_rem, iMax_nn, iMin_nn, iMax_sub, Nat.zero_max, bI_0, bI_1, bI_n0, up2_s, up2_n, up2_k, va_up_self, va_up_ne, ni_l, lN_mul, lN_add, ln_mask, lN_i, ↓reduceIte, if_true, if_false, not_true_eq_false, not_false_eq_true, ite_self, Nat.add_zero, Nat.zero_add, ent_def]
theorem c_image (hG : GW G) (hC : CA m σ k f) : ∃ m', res mX6_image [.ref 2] (G, m, ml) = some (some (.int (nI 1)), (G, m', ml)) ∧ CA m' σ k f ∧ CB m' true σ k f ∧ (∀ b, 133 ≤ b → m' b = m b) := by
  obtain ⟨⟨g0, g1, g2, g3, g4, -⟩, ⟨s3, p10, s68, p75, -⟩, -⟩ := hG
  have s0 := s68.1
  have p0 := p75.1
  obtain ⟨m1, e1, V1, F1⟩ := r_X3_become (m := m) (ml := ml) s68 s3 (by omega)
  have P1 : PaV m1 10 k f := PaV_fr hC.2 (fun b b1 b2 => F1 b (by omega))
  obtain ⟨m2, e2, P2, F2⟩ := r_X1_become (ml := ml) p75 p10 (by omega) P1
  refine ⟨up2 m2 2 4 (nI 1), ?_, ?_, ⟨by rw [up2_s]; rfl, fun _ => ⟨?_, ?_⟩⟩, ?_⟩
  · apply res_of
    show Wp mX6_image 0 [some (.ref 2)] [] (G, m, ml) _
    have h1 : nI 1 = 0 ∨ nI 1 = 1 := Or.inr rfl
    simp (maxSteps := 1000000) (decide := true) (disch := (first | assumption | omega | exact Nat.div_mul_le_self _ _ | exact ni_nz (by omega) (by omega) | exact rfl | exact retOk_bI _ | exact retOk_0 | exact retOk_1)) only [eX6_image_0, eX6_image_1, eX6_image_4, eX6_image_5, eX6_image_8, eX6_image_11, eX6_image_12, eX6_image_15, eX6_image_16, eX6_image_19, eX6_image_22, eX6_image_23, eX6_image_24, eX6_image_27, eX6_image_28, g1, g2, g3, g4, e1, e2, WpR_some, Option.toList_some, Option.toList_none, List.cons_append, List.nil_append, List.append_nil, clr_n, clr_i, clr_a, ni_add, ni_mul, ni_sub, ni_lt, ni_le, ni_eq, ni_div, nat_mod_eq, ni_rem, iMax_nn, iMin_nn, iMax_sub, Nat.zero_max, bI_0, bI_1, bI_n0, up2_s, up2_n, up2_k, va_up_self, va_up_ne, ni_l, lN_mul, lN_add, ln_mask, lN_i, ↓reduceIte, if_true, if_false, not_true_eq_false, not_false_eq_true, ite_self, Nat.add_zero, Nat.zero_add, ent_def]
  · exact CA_fr hC (fun b b1 b2 => by rw [up2_n (by omega), F2 b (by omega), F1 b (by omega)])
  · exact ShV_fr (V1 σ hC.1) (fun b b1 b2 => by rw [up2_n (by omega), F2 b (by omega)])
  · exact PaV_fr P2 (fun b b1 b2 => by rw [up2_n (by omega)])
  · intro b hb; rw [up2_n (by omega), F2 b (by omega), F1 b (by omega)]
theorem c_restore0 (hG : GW G) (hI : CB m false σi ki fi) : res mX6_restore [.ref 2] (G, m, ml) = some (some (.int (-4)), (G, m, ml)) := by
  obtain ⟨⟨g0, g1, g2, g3, g4, -⟩, -⟩ := hG
  have x4 := hI.1
  apply res_of
  show Wp mX6_restore 0 [some (.ref 2)] [] (G, m, ml) _
  simp (maxSteps := 1000000) (decide := true) (disch := (first | assumption | omega | exact Nat.div_mul_le_self _ _ | exact ni_nz (by omega) (by omega) | exact rfl | exact retOk_bI _ | exact retOk_0 | exact retOk_1)) only [eX6_restore_0, eX6_restore_1, eX6_restore_4, eX6_restore_7, eX6_restore_9, eX6_restore_10, eX6_restore_11, eX6_restore_14, eX6_restore_15, eX6_restore_18, eX6_restore_21, eX6_restore_22, eX6_restore_25, eX6_restore_26, eX6_restore_29, eX6_restore_32, eX6_restore_33, x4, WpR_some, Option.toList_some, Option.toList_none, List.cons_append, List.nil_append, List.append_nil, clr_n, clr_i, clr_a, ni_add, ni_mul, ni_sub, ni_lt, ni_le, ni_eq, ni_div, nat_mod_eq, ni_rem, iMax_nn, iMin_nn, iMax_sub, Nat.zero_max, bI_0, bI_1, bI_n0, up2_s, up2_n, up2_k, va_up_self, va_up_ne, ni_l, lN_mul, lN_add, ln_mask, lN_i, ↓reduceIte, if_true, if_false, not_true_eq_false, not_false_eq_true, ite_self, Nat.add_zero, Nat.zero_add, ent_def]
theorem c_restore (hG : GW G) (hC : CA m σ k f) (hI : CB m true σi ki fi) : ∃ m', res mX6_restore [.ref 2] (G, m, ml) = some (some (.int (nI 1)), (G, m', ml)) ∧ CA m' σi ki fi ∧ FC m m' := by
  obtain ⟨⟨g0, g1, g2, g3, g4, -⟩, ⟨s3, p10, s68, p75, -⟩, -⟩ := hG
  have s0 := s3.1
  have p0 := p10.1
  have x4 := hI.1
  obtain ⟨VI, PI⟩ := hI.2 rfl
  obtain ⟨m1, e1, V1, F1⟩ := r_X3_become (m := m) (ml := ml) s3 s68 (by omega)
  have P1 : PaV m1 75 ki fi := PaV_fr PI (fun b b1 b2 => F1 b (by omega))
  obtain ⟨m2, e2, P2, F2⟩ := r_X1_become (ml := ml) p10 p75 (by omega) P1
  refine ⟨m2, ?_, ⟨ShV_fr (V1 σi VI) (fun b b1 b2 => F2 b (by omega)), P2⟩, fun b hb => by rw [F2 b (by omega), F1 b (by omega)]⟩
  apply res_of
  show Wp mX6_restore 0 [some (.ref 2)] [] (G, m, ml) _
  simp (maxSteps := 1000000) (decide := true) (disch := (first | assumption | omega | exact Nat.div_mul_le_self _ _ | exact ni_nz (by omega) (by omega) | exact rfl | exact retOk_bI _ | exact retOk_0 | exact retOk_1)) only [eX6_restore_0, eX6_restore_1, eX6_restore_4, eX6_restore_7, eX6_restore_9, eX6_restore_10, eX6_restore_11, eX6_restore_14, eX6_restore_15, eX6_restore_18, eX6_restore_21, eX6_restore_22, eX6_restore_25, eX6_restore_26, eX6_restore_29, eX6_restore_32, eX6_restore_33, g1, g2, g3, g4, x4, e1, e2, WpR_some, Option.toList_some, Option.toList_none, List.cons_append, List.nil_append, List.append_nil, clr_n, clr_i, clr_a, ni_add, ni_mul, ni_sub, ni_lt, ni_le, ni_eq, ni_div, nat_mod_eq, ni_rem, iMax_nn, iMin_nn, iMax_sub, Nat.zero_max, bI_0, bI_1, bI_n0, up2_s, up2_n, up2_k, va_up_self, va_up_ne, ni_l, lN_mul, lN_add, ln_mask, lN_i, ↓reduceIte, if_true, if_false, not_true_eq_false, not_false_eq_true, ite_self, Nat.add_zero, Nat.zero_add, ent_def]
theorem i2c_n (hx : x < 65536) : ((nI x).toUInt32 % 65536).toInt32 = nI x := by rw [pk_char, pk_tn (by omega), Nat.mod_eq_of_lt hx]
theorem c_type_bad (h : rg v 32 126 = false) : res mX6_type [.ref 2, .int v] (G, m, ml) = some (some (.int (-1)), (G, m, ml)) := by
  apply res_of
  show Wp mX6_type 0 [some (.ref 2), some (.int v)] [] (G, m, ml) _
  simp (maxSteps := 1000000) (decide := true) (disch := (first | assumption | omega | exact Nat.div_mul_le_self _ _ | exact ni_nz (by omega) (by omega) | exact rfl | exact retOk_bI _ | exact retOk_0 | exact retOk_1)) only [eX6_type_0, eX6_type_1, eX6_type_3, eX6_type_5, eX6_type_8, eX6_type_11, eX6_type_12, eX6_type_13, eX6_type_14, eX6_type_17, eX6_type_18, eX6_type_19, eX6_type_22, r_X6_wi, h, WpR_some, Option.toList_some, Option.toList_none, List.cons_append, List.nil_append, List.append_nil, clr_n, clr_i, clr_a, ni_add, ni_mul, ni_sub, ni_lt, ni_le, ni_eq, ni_div, nat_mod_eq, ni_rem, iMax_nn, iMin_nn, iMax_sub, Nat.zero_max, bI_0, bI_1, bI_n0, up2_s, up2_n, up2_k, va_up_self, va_up_ne, ni_l, lN_mul, lN_add, ln_mask, lN_i, ↓reduceIte, if_true, if_false, not_true_eq_false, not_false_eq_true, ite_self, Nat.add_zero, Nat.zero_add, ent_def]
theorem c_type {tl : Nat} {tc : Nat → Nat} (hG : GW G) (hT : CT m tl tc) (h1 : 32 ≤ x) (h2 : x ≤ 126) : ∃ m', res mX6_type [.ref 2, .int (nI x)] (G, m, ml) = some (some (.int (if tl = 70 then -3 else nI (tl + 1))), (G, m', ml)) ∧ (if tl = 70 then CT m' tl tc else CT m' (tl + 1) (upN tc tl x)) ∧ (∀ b, b ≠ 133 → b ≠ 134 → m' b = m b) := by
  obtain ⟨⟨g0, g1, g2, g3, g4, g5, -⟩, -, ⟨t0, t1, t2, t3⟩, -⟩ := hG
  obtain ⟨c1, c2, c3⟩ := hT
  have hr := rg_t (j := x) h1 h2 (by decide)
  have hx := i2c_n (x := x) (by omega)
  by_cases hc : tl = 70
  · refine ⟨m, ?_, by rw [if_pos hc]; exact ⟨c1, c2, c3⟩, fun _ _ _ => rfl⟩
    rw [if_pos hc]
    rw [hc] at c1
    have e : res mX5_append [.ref 133, .int (nI x)] (G, m, ml) = some (some (.int (-3)), (G, m, ml)) := by
      apply res_of
      show Wp mX5_append 0 [some (.ref 133), some (.int (nI x))] [] (G, m, ml) _
      simp (maxSteps := 1000000) (decide := true) (disch := (first | assumption | omega | exact Nat.div_mul_le_self _ _ | exact ni_nz (by omega) (by omega) | exact rfl | exact retOk_bI _ | exact retOk_0 | exact retOk_1)) only [eX5_append_0, eX5_append_1, eX5_append_4, eX5_append_6, eX5_append_9, eX5_append_11, eX5_append_12, eX5_append_13, eX5_append_16, eX5_append_17, eX5_append_20, eX5_append_21, eX5_append_22, eX5_append_23, eX5_append_24, eX5_append_27, eX5_append_28, eX5_append_29, eX5_append_32, eX5_append_33, eX5_append_36, c1, WpR_some, Option.toList_some, Option.toList_none, List.cons_append, List.nil_append, List.append_nil, clr_n, clr_i, clr_a, ni_add, ni_mul, ni_sub, ni_lt, ni_le, ni_eq, ni_div, nat_mod_eq, ni_rem, iMax_nn, iMin_nn, iMax_sub, Nat.zero_max, bI_0, bI_1, bI_n0, up2_s, up2_n, up2_k, va_up_self, va_up_ne, ni_l, lN_mul, lN_add, ln_mask, lN_i, ↓reduceIte, if_true, if_false, not_true_eq_false, not_false_eq_true, ite_self, Nat.add_zero, Nat.zero_add, ent_def]
    apply res_of
    show Wp mX6_type 0 [some (.ref 2), some (.int (nI x))] [] (G, m, ml) _
    simp (maxSteps := 1000000) (decide := true) (disch := (first | assumption | omega | exact Nat.div_mul_le_self _ _ | exact ni_nz (by omega) (by omega) | exact rfl | exact retOk_bI _ | exact retOk_0 | exact retOk_1)) only [eX6_type_0, eX6_type_1, eX6_type_3, eX6_type_5, eX6_type_8, eX6_type_11, eX6_type_12, eX6_type_13, eX6_type_14, eX6_type_17, eX6_type_18, eX6_type_19, eX6_type_22, r_X6_wi, hr, g5, hx, e, WpR_some, Option.toList_some, Option.toList_none, List.cons_append, List.nil_append, List.append_nil, clr_n, clr_i, clr_a, ni_add, ni_mul, ni_sub, ni_lt, ni_le, ni_eq, ni_div, nat_mod_eq, ni_rem, iMax_nn, iMin_nn, iMax_sub, Nat.zero_max, bI_0, bI_1, bI_n0, up2_s, up2_n, up2_k, va_up_self, va_up_ne, ni_l, lN_mul, lN_add, ln_mask, lN_i, ↓reduceIte, if_true, if_false, not_true_eq_false, not_false_eq_true, ite_self, Nat.add_zero, Nat.zero_add, ent_def]
  · have e : res mX5_append [.ref 133, .int (nI x)] (G, m, ml) = some (some (.int (nI (tl + 1))), (G, up2 (up2 m 134 tl (nI x)) 133 1 (nI (tl + 1)), ml)) := by
      apply res_of
      show Wp mX5_append 0 [some (.ref 133), some (.int (nI x))] [] (G, m, ml) _
      have hlt : tl < 70 := by omega
      simp (maxSteps := 1000000) (decide := true) (disch := (first | assumption | omega | exact Nat.div_mul_le_self _ _ | exact ni_nz (by omega) (by omega) | exact rfl | exact retOk_bI _ | exact retOk_0 | exact retOk_1)) only [eX5_append_0, eX5_append_1, eX5_append_4, eX5_append_6, eX5_append_9, eX5_append_11, eX5_append_12, eX5_append_13, eX5_append_16, eX5_append_17, eX5_append_20, eX5_append_21, eX5_append_22, eX5_append_23, eX5_append_24, eX5_append_27, eX5_append_28, eX5_append_29, eX5_append_32, eX5_append_33, eX5_append_36, t1, c1, hlt, WpR_some, Option.toList_some, Option.toList_none, List.cons_append, List.nil_append, List.append_nil, clr_n, clr_i, clr_a, ni_add, ni_mul, ni_sub, ni_lt, ni_le, ni_eq, ni_div, nat_mod_eq, ni_rem, iMax_nn, iMin_nn, iMax_sub, Nat.zero_max, bI_0, bI_1, bI_n0, up2_s, up2_n, up2_k, va_up_self, va_up_ne, ni_l, lN_mul, lN_add, ln_mask, lN_i, ↓reduceIte, if_true, if_false, not_true_eq_false, not_false_eq_true, ite_self, Nat.add_zero, Nat.zero_add, ent_def]
    refine ⟨up2 (up2 m 134 tl (nI x)) 133 1 (nI (tl + 1)), ?_, ?_, ?_⟩
    · rw [if_neg hc]
      apply res_of
      show Wp mX6_type 0 [some (.ref 2), some (.int (nI x))] [] (G, m, ml) _
      simp (maxSteps := 1000000) (decide := true) (disch := (first | assumption | omega | exact Nat.div_mul_le_self _ _ | exact ni_nz (by omega) (by omega) | exact rfl | exact retOk_bI _ | exact retOk_0 | exact retOk_1)) only [eX6_type_0, eX6_type_1, eX6_type_3, eX6_type_5, eX6_type_8, eX6_type_11, eX6_type_12, eX6_type_13, eX6_type_14, eX6_type_17, eX6_type_18, eX6_type_19, eX6_type_22, r_X6_wi, hr, g5, hx, e, WpR_some, Option.toList_some, Option.toList_none, List.cons_append, List.nil_append, List.append_nil, clr_n, clr_i, clr_a, ni_add, ni_mul, ni_sub, ni_lt, ni_le, ni_eq, ni_div, nat_mod_eq, ni_rem, iMax_nn, iMin_nn, iMax_sub, Nat.zero_max, bI_0, bI_1, bI_n0, up2_s, up2_n, up2_k, va_up_self, va_up_ne, ni_l, lN_mul, lN_add, ln_mask, lN_i, ↓reduceIte, if_true, if_false, not_true_eq_false, not_false_eq_true, ite_self, Nat.add_zero, Nat.zero_add, ent_def]
    · rw [if_neg hc]
      refine ⟨by rw [up2_s], by omega, fun j hj => ?_⟩
      rw [up2_n (by decide)]
      by_cases hq : j = tl
      · subst hq; rw [up2_s, upN_s]; exact ⟨rfl, h1, h2⟩
      · rw [up2_k hq, upN_n hq]; exact c3 j (by omega)
    · intro b h1 h2; rw [up2_n h1, up2_n h2]
end PU4
