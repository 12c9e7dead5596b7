section XLS
variable {G : List AT} {m m1 m2 m' : Nat → Nat → Int32} {ml : Nat → Nat → Int64} {tl n p q c e d f j i lo hi x y k A : Nat} {tc τ σ τ' : Nat → Nat} {u v w : Int32} {μ : Mm} {F : Nat → Nat → Nat}
theorem RT_fr (h : RT m tl tc) (h1 : m' 158 3 = m 158 3) (h2 : m' 160 = m 160) : RT m' tl tc := ⟨by rw [h1]; exact h.1, h.2.1, fun j hj => by rw [h2]; exact h.2.2 j hj⟩
theorem RT_p (h : RT m tl tc) : RT (up2 m 158 10 v) tl tc := RT_fr h (by rw [up2_k (by decide)]) (up2_n (by decide))
theorem nl_lx (hT : RT m tl tc) (p : Nat) : nl tl tc p ≤ 126 := by
  unfold nl
  by_cases h : sk tl tc p < tl
  · rw [if_pos h]; exact (hT.2.2 _ h).2.2
  · rw [if_neg h]; omega
theorem w_ps {Q : Option Value → Mm → Prop} (hG : GM G) (hT : RT m tl tc) (hp : m 158 10 = nI p) (hl : p ≤ 200) (k : Q none (G, up2 m 158 10 (nI (sk tl tc p)), ml)) : Wp mX7_pass 0 [some (.ref 158)] [] (G, m, ml) Q := by
  generalize hn : tl - p = n
  have hG0 := hG
  obtain ⟨⟨g0, g1, g2, -⟩, ⟨a0, a1, -⟩, ⟨l0, l1, -⟩⟩ := hG
  induction n generalizing p m with
  | zero =>
    obtain ⟨c1, c2, c3⟩ := hT
    have h1 : tl ≤ p := by omega
    have h2 : sk tl tc p = p := sk_n (by omega)
    rw [h2, up2_id hp] at k
    rw [eX7_pass_0]
    simp (maxSteps := 1000000) (decide := true) (disch := (first | assumption | omega | exact Nat.div_mul_le_self _ _ | exact ni_nz (by omega) (by omega) | exact rfl | exact retOk_bI _ | exact retOk_0 | exact retOk_1)) only [eX7_pass_1, eX7_pass_4, eX7_pass_5, eX7_pass_8, eX7_pass_11, eX7_pass_12, eX7_pass_15, eX7_pass_16, eX7_pass_19, eX7_pass_20, eX7_pass_22, eX7_pass_25, eX7_pass_26, eX7_pass_27, eX7_pass_30, eX7_pass_31, eX7_pass_32, eX7_pass_35, eX7_pass_38, c1, hp, h1, WpR_some, Option.toList_some, Option.toList_none, List.cons_append, List.nil_append, List.append_nil, clr_n, clr_i, clr_a, ni_add, ni_mul, ni_sub, ni_lt, ni_le, ni_eq, ni_div, nat_mod_eq, ni_rem, iMax_nn, iMin_nn, iMax_sub, Nat.zero_max, bI_0, bI_1, bI_n0, up2_s, up2_n, up2_k, va_up_self, va_up_ne, ni_l, lN_mul, lN_add, ln_mask, lN_i, ↓reduceIte, if_true, if_false, not_true_eq_false, not_false_eq_true, ite_self, Nat.add_zero, Nat.zero_add, ent_def]
    exact k
  | succ n ih =>
    have hT0 := hT
    obtain ⟨c1, c2, c3⟩ := hT
    have hlt : ¬ tl ≤ p := by omega
    have hlt' : p < tl := by omega
    obtain ⟨d1, d2, d3⟩ := c3 p hlt'
    rw [eX7_pass_0]
    by_cases hb : tc p = 32
    · rw [hb] at d1
      simp (maxSteps := 1000000) (decide := true) (disch := (first | assumption | omega | exact Nat.div_mul_le_self _ _ | exact ni_nz (by omega) (by omega) | exact rfl | exact retOk_bI _ | exact retOk_0 | exact retOk_1)) only [eX7_pass_1, eX7_pass_4, eX7_pass_5, eX7_pass_8, eX7_pass_11, eX7_pass_12, eX7_pass_15, eX7_pass_16, eX7_pass_19, eX7_pass_20, eX7_pass_22, eX7_pass_25, eX7_pass_26, eX7_pass_27, eX7_pass_30, eX7_pass_31, eX7_pass_32, eX7_pass_35, eX7_pass_38, c1, hp, g2, hlt, d1, WpR_some, Option.toList_some, Option.toList_none, List.cons_append, List.nil_append, List.append_nil, clr_n, clr_i, clr_a, ni_add, ni_mul, ni_sub, ni_lt, ni_le, ni_eq, ni_div, nat_mod_eq, ni_rem, iMax_nn, iMin_nn, iMax_sub, Nat.zero_max, bI_0, bI_1, bI_n0, up2_s, up2_n, up2_k, va_up_self, va_up_ne, ni_l, lN_mul, lN_add, ln_mask, lN_i, ↓reduceIte, if_true, if_false, not_true_eq_false, not_false_eq_true, ite_self, Nat.add_zero, Nat.zero_add, ent_def]
      refine ih (m := up2 m 158 10 (nI (p + 1))) (RT_p hT0) (by rw [up2_s]) (by omega) ?_ (by omega)
      rw [up2_2, ← sk_y hlt' hb]
      exact k
    · have h2 : sk tl tc p = p := sk_n (fun z => hb z.2)
      rw [h2, up2_id hp] at k
      simp (maxSteps := 1000000) (decide := true) (disch := (first | assumption | omega | exact Nat.div_mul_le_self _ _ | exact ni_nz (by omega) (by omega) | exact rfl | exact retOk_bI _ | exact retOk_0 | exact retOk_1)) only [eX7_pass_1, eX7_pass_4, eX7_pass_5, eX7_pass_8, eX7_pass_11, eX7_pass_12, eX7_pass_15, eX7_pass_16, eX7_pass_19, eX7_pass_20, eX7_pass_22, eX7_pass_25, eX7_pass_26, eX7_pass_27, eX7_pass_30, eX7_pass_31, eX7_pass_32, eX7_pass_35, eX7_pass_38, c1, hp, g2, hlt, d1, hb, WpR_some, Option.toList_some, Option.toList_none, List.cons_append, List.nil_append, List.append_nil, clr_n, clr_i, clr_a, ni_add, ni_mul, ni_sub, ni_lt, ni_le, ni_eq, ni_div, nat_mod_eq, ni_rem, iMax_nn, iMin_nn, iMax_sub, Nat.zero_max, bI_0, bI_1, bI_n0, up2_s, up2_n, up2_k, va_up_self, va_up_ne, ni_l, lN_mul, lN_add, ln_mask, lN_i, ↓reduceIte, if_true, if_false, not_true_eq_false, not_false_eq_true, ite_self, Nat.add_zero, Nat.zero_add, ent_def]
      exact k
theorem x_pass (hG : GM G) (hT : RT m tl tc) (hp : m 158 10 = nI p) (hl : p ≤ 200) : res mX7_pass [.ref 158] (G, m, ml) = some (none, (G, up2 m 158 10 (nI (sk tl tc p)), ml)) := by
  apply res_of
  show Wp mX7_pass 0 [some (.ref 158)] [] (G, m, ml) _
  exact w_ps hG hT hp hl rfl
theorem x_here (hG : GM G) (hT : RT m tl tc) (hp : m 158 10 = nI p) (hf : m 158 11 = -4) (hl : p ≤ 200) (h1 : 1 ≤ c) (hc : c ≤ 126) : res mX7_isHere [.ref 158, .int (nI c)] (G, m, ml) = some (some (.int (bI (decide (nl tl tc p = c)))), (G, up2 m 158 10 (nI (sk tl tc p)), ml)) := by
  have e := x_pass (ml := ml) hG hT hp hl
  obtain ⟨⟨g0, g1, g2, -⟩, ⟨a0, a1, -⟩, ⟨l0, l1, -⟩⟩ := hG
  obtain ⟨c1, c2, c3⟩ := hT
  have hs := sk_mx (tl := tl) (tc := tc) p
  apply res_of
  show Wp mX7_isHere 0 [some (.ref 158), some (.int (nI c))] [] (G, m, ml) _
  by_cases h : sk tl tc p < tl
  · have hnl : nl tl tc p = tc (sk tl tc p) := by unfold nl; rw [if_pos h]
    have hlt : ¬ tl ≤ sk tl tc p := by omega
    obtain ⟨d1, d2, d3⟩ := c3 _ h
    rw [hnl]
    by_cases hq : tc (sk tl tc p) = c
    · simp only [hq, decide_true]
      rw [hq] at d1
      simp (maxSteps := 1000000) (decide := true) (disch := (first | assumption | omega | exact Nat.div_mul_le_self _ _ | exact ni_nz (by omega) (by omega) | exact rfl | exact retOk_bI _ | exact retOk_0 | exact retOk_1)) only [eX7_isHere_0, eX7_isHere_1, eX7_isHere_4, eX7_isHere_5, eX7_isHere_8, eX7_isHere_10, eX7_isHere_13, eX7_isHere_14, eX7_isHere_17, eX7_isHere_18, eX7_isHere_21, eX7_isHere_24, eX7_isHere_25, eX7_isHere_28, eX7_isHere_29, eX7_isHere_32, eX7_isHere_33, eX7_isHere_34, eX7_isHere_37, eX7_isHere_38, eX7_isHere_41, eX7_isHere_42, e, hf, c1, hlt, g2, d1, WpR_some, Option.toList_some, Option.toList_none, List.cons_append, List.nil_append, List.append_nil, clr_n, clr_i, clr_a, ni_add, ni_mul, ni_sub, ni_lt, ni_le, ni_eq, ni_div, nat_mod_eq, ni_rem, iMax_nn, iMin_nn, iMax_sub, Nat.zero_max, bI_0, bI_1, bI_n0, up2_s, up2_n, up2_k, va_up_self, va_up_ne, ni_l, lN_mul, lN_add, ln_mask, lN_i, ↓reduceIte, if_true, if_false, not_true_eq_false, not_false_eq_true, ite_self, Nat.add_zero, Nat.zero_add, ent_def]
      rfl
    · simp only [hq, decide_false]
      simp (maxSteps := 1000000) (decide := true) (disch := (first | assumption | omega | exact Nat.div_mul_le_self _ _ | exact ni_nz (by omega) (by omega) | exact rfl | exact retOk_bI _ | exact retOk_0 | exact retOk_1)) only [eX7_isHere_0, eX7_isHere_1, eX7_isHere_4, eX7_isHere_5, eX7_isHere_8, eX7_isHere_10, eX7_isHere_13, eX7_isHere_14, eX7_isHere_17, eX7_isHere_18, eX7_isHere_21, eX7_isHere_24, eX7_isHere_25, eX7_isHere_28, eX7_isHere_29, eX7_isHere_32, eX7_isHere_33, eX7_isHere_34, eX7_isHere_37, eX7_isHere_38, eX7_isHere_41, eX7_isHere_42, e, hf, c1, hlt, g2, d1, hq, WpR_some, Option.toList_some, Option.toList_none, List.cons_append, List.nil_append, List.append_nil, clr_n, clr_i, clr_a, ni_add, ni_mul, ni_sub, ni_lt, ni_le, ni_eq, ni_div, nat_mod_eq, ni_rem, iMax_nn, iMin_nn, iMax_sub, Nat.zero_max, bI_0, bI_1, bI_n0, up2_s, up2_n, up2_k, va_up_self, va_up_ne, ni_l, lN_mul, lN_add, ln_mask, lN_i, ↓reduceIte, if_true, if_false, not_true_eq_false, not_false_eq_true, ite_self, Nat.add_zero, Nat.zero_add, ent_def]
      rfl
  · have hnl : nl tl tc p = 0 := by unfold nl; rw [if_neg h]
    have hlt : tl ≤ sk tl tc p := by omega
    have h0 : ¬ 0 = c := by omega
    simp only [hnl, h0, decide_false]
    simp (maxSteps := 1000000) (decide := true) (disch := (first | assumption | omega | exact Nat.div_mul_le_self _ _ | exact ni_nz (by omega) (by omega) | exact rfl | exact retOk_bI _ | exact retOk_0 | exact retOk_1)) only [eX7_isHere_0, eX7_isHere_1, eX7_isHere_4, eX7_isHere_5, eX7_isHere_8, eX7_isHere_10, eX7_isHere_13, eX7_isHere_14, eX7_isHere_17, eX7_isHere_18, eX7_isHere_21, eX7_isHere_24, eX7_isHere_25, eX7_isHere_28, eX7_isHere_29, eX7_isHere_32, eX7_isHere_33, eX7_isHere_34, eX7_isHere_37, eX7_isHere_38, eX7_isHere_41, eX7_isHere_42, e, hf, c1, hlt, WpR_some, Option.toList_some, Option.toList_none, List.cons_append, List.nil_append, List.append_nil, clr_n, clr_i, clr_a, ni_add, ni_mul, ni_sub, ni_lt, ni_le, ni_eq, ni_div, nat_mod_eq, ni_rem, iMax_nn, iMin_nn, iMax_sub, Nat.zero_max, bI_0, bI_1, bI_n0, up2_s, up2_n, up2_k, va_up_self, va_up_ne, ni_l, lN_mul, lN_add, ln_mask, lN_i, ↓reduceIte, if_true, if_false, not_true_eq_false, not_false_eq_true, ite_self, Nat.add_zero, Nat.zero_add, ent_def]
    rfl
theorem nf4 (h : x ≤ 99) : ¬ nI x = -4 := n4 h
theorem x_here_f (hG : GM G) (hT : RT m tl tc) (hp : m 158 10 = nI p) (hf : m 158 11 = nI f) (hf2 : f ≤ 99) (hl : p ≤ 200) : res mX7_isHere [.ref 158, .int v] (G, m, ml) = some (some (.int (bI false)), (G, up2 m 158 10 (nI (sk tl tc p)), ml)) := by
  have e := x_pass (ml := ml) hG hT hp hl
  have h4 := n4 hf2
  obtain ⟨⟨g0, g1, g2, -⟩, -⟩ := hG
  apply res_of
  show Wp mX7_isHere 0 [some (.ref 158), some (.int v)] [] (G, m, ml) _
  simp (maxSteps := 1000000) (decide := true) (disch := (first | assumption | omega | exact Nat.div_mul_le_self _ _ | exact ni_nz (by omega) (by omega) | exact rfl | exact retOk_bI _ | exact retOk_0 | exact retOk_1)) only [eX7_isHere_0, eX7_isHere_1, eX7_isHere_4, eX7_isHere_5, eX7_isHere_8, eX7_isHere_10, eX7_isHere_13, eX7_isHere_14, eX7_isHere_17, eX7_isHere_18, eX7_isHere_21, eX7_isHere_24, eX7_isHere_25, eX7_isHere_28, eX7_isHere_29, eX7_isHere_32, eX7_isHere_33, eX7_isHere_34, eX7_isHere_37, eX7_isHere_38, eX7_isHere_41, eX7_isHere_42, e, hf, h4, WpR_some, Option.toList_some, Option.toList_none, List.cons_append, List.nil_append, List.append_nil, clr_n, clr_i, clr_a, ni_add, ni_mul, ni_sub, ni_lt, ni_le, ni_eq, ni_div, nat_mod_eq, ni_rem, iMax_nn, iMin_nn, iMax_sub, Nat.zero_max, bI_0, bI_1, bI_n0, up2_s, up2_n, up2_k, va_up_self, va_up_ne, ni_l, lN_mul, lN_add, ln_mask, lN_i, ↓reduceIte, if_true, if_false, not_true_eq_false, not_false_eq_true, ite_self, Nat.add_zero, Nat.zero_add, ent_def]
  rfl
theorem r_inN {lo hi : Nat} (h1 : lo < 1000) (h2 : hi < 1000) (h3 : x < 1000) : res mX7_in [.long (lN x), .long (lN lo), .long (lN hi)] μ = some (some (.int (bI (decide (lo ≤ x ∧ x ≤ hi)))), μ) := by
  have := r_in (v := nI x) (lo := lo) (hi := hi) (μ := μ) (by omega) (by omega)
  rw [ni_l (by omega)] at this
  rw [this]
  simp only [rg, ni_le (show lo < 2147483648 by omega) (show x < 2147483648 by omega), ni_le (show x < 2147483648 by omega) (show hi < 2147483648 by omega), Bool.decide_and]
theorem x_dig (hG : GM G) (hT : RT m tl tc) (hp : m 158 10 = nI p) (hl : p ≤ 200) : res mX7_isDigitHere [.ref 158] (G, m, ml) = some (some (.int (bI (dgt tl tc p))), (G, m, ml)) := by
  obtain ⟨⟨g0, g1, g2, -⟩, ⟨a0, a1, -⟩, ⟨l0, l1, -⟩⟩ := hG
  obtain ⟨c1, c2, c3⟩ := hT
  apply res_of
  show Wp mX7_isDigitHere 0 [some (.ref 158)] [] (G, m, ml) _
  by_cases h : tl ≤ p
  · have hd : dgt tl tc p = false := decide_eq_false (by omega)
    rw [hd]
    simp (maxSteps := 1000000) (decide := true) (disch := (first | assumption | omega | exact Nat.div_mul_le_self _ _ | exact ni_nz (by omega) (by omega) | exact rfl | exact retOk_bI _ | exact retOk_0 | exact retOk_1)) only [eX7_isDigitHere_0, eX7_isDigitHere_1, eX7_isDigitHere_4, eX7_isDigitHere_5, eX7_isDigitHere_8, eX7_isDigitHere_11, eX7_isDigitHere_12, eX7_isDigitHere_15, eX7_isDigitHere_16, eX7_isDigitHere_19, eX7_isDigitHere_20, eX7_isDigitHere_21, eX7_isDigitHere_24, eX7_isDigitHere_27, eX7_isDigitHere_30, eX7_isDigitHere_33, eX7_isDigitHere_34, eX7_isDigitHere_37, eX7_isDigitHere_38, hp, c1, h, WpR_some, Option.toList_some, Option.toList_none, List.cons_append, List.nil_append, List.append_nil, clr_n, clr_i, clr_a, ni_add, ni_mul, ni_sub, ni_lt, ni_le, ni_eq, ni_div, nat_mod_eq, ni_rem, iMax_nn, iMin_nn, iMax_sub, Nat.zero_max, bI_0, bI_1, bI_n0, up2_s, up2_n, up2_k, va_up_self, va_up_ne, ni_l, lN_mul, lN_add, ln_mask, lN_i, ↓reduceIte, if_true, if_false, not_true_eq_false, not_false_eq_true, ite_self, Nat.add_zero, Nat.zero_add, ent_def]
    rfl
  · obtain ⟨d1, d2, d3⟩ := c3 p (by omega)
    have e := fun μ => r_inN (x := tc p) (lo := 48) (hi := 57) (μ := μ) (by decide) (by decide) (by omega)
    by_cases hq : 48 ≤ tc p ∧ tc p ≤ 57
    · have hd : dgt tl tc p = true := decide_eq_true ⟨by omega, hq⟩
      rw [hd]
      simp only [hq, decide_true, and_self] at e
      simp (maxSteps := 1000000) (decide := true) (disch := (first | assumption | omega | exact Nat.div_mul_le_self _ _ | exact ni_nz (by omega) (by omega) | exact rfl | exact retOk_bI _ | exact retOk_0 | exact retOk_1)) only [eX7_isDigitHere_0, eX7_isDigitHere_1, eX7_isDigitHere_4, eX7_isDigitHere_5, eX7_isDigitHere_8, eX7_isDigitHere_11, eX7_isDigitHere_12, eX7_isDigitHere_15, eX7_isDigitHere_16, eX7_isDigitHere_19, eX7_isDigitHere_20, eX7_isDigitHere_21, eX7_isDigitHere_24, eX7_isDigitHere_27, eX7_isDigitHere_30, eX7_isDigitHere_33, eX7_isDigitHere_34, eX7_isDigitHere_37, eX7_isDigitHere_38, hp, c1, h, g2, d1, e, WpR_some, Option.toList_some, Option.toList_none, List.cons_append, List.nil_append, List.append_nil, clr_n, clr_i, clr_a, ni_add, ni_mul, ni_sub, ni_lt, ni_le, ni_eq, ni_div, nat_mod_eq, ni_rem, iMax_nn, iMin_nn, iMax_sub, Nat.zero_max, bI_0, bI_1, bI_n0, up2_s, up2_n, up2_k, va_up_self, va_up_ne, ni_l, lN_mul, lN_add, ln_mask, lN_i, ↓reduceIte, if_true, if_false, not_true_eq_false, not_false_eq_true, ite_self, Nat.add_zero, Nat.zero_add, ent_def]
      rfl
    · have hd : dgt tl tc p = false := decide_eq_false (fun z => hq z.2)
      rw [hd]
      simp only [hq, decide_false] at e
      simp (maxSteps := 1000000) (decide := true) (disch := (first | assumption | omega | exact Nat.div_mul_le_self _ _ | exact ni_nz (by omega) (by omega) | exact rfl | exact retOk_bI _ | exact retOk_0 | exact retOk_1)) only [eX7_isDigitHere_0, eX7_isDigitHere_1, eX7_isDigitHere_4, eX7_isDigitHere_5, eX7_isDigitHere_8, eX7_isDigitHere_11, eX7_isDigitHere_12, eX7_isDigitHere_15, eX7_isDigitHere_16, eX7_isDigitHere_19, eX7_isDigitHere_20, eX7_isDigitHere_21, eX7_isDigitHere_24, eX7_isDigitHere_27, eX7_isDigitHere_30, eX7_isDigitHere_33, eX7_isDigitHere_34, eX7_isDigitHere_37, eX7_isDigitHere_38, hp, c1, h, g2, d1, e, WpR_some, Option.toList_some, Option.toList_none, List.cons_append, List.nil_append, List.append_nil, clr_n, clr_i, clr_a, ni_add, ni_mul, ni_sub, ni_lt, ni_le, ni_eq, ni_div, nat_mod_eq, ni_rem, iMax_nn, iMin_nn, iMax_sub, Nat.zero_max, bI_0, bI_1, bI_n0, up2_s, up2_n, up2_k, va_up_self, va_up_ne, ni_l, lN_mul, lN_add, ln_mask, lN_i, ↓reduceIte, if_true, if_false, not_true_eq_false, not_false_eq_true, ite_self, Nat.add_zero, Nat.zero_add, ent_def]
      rfl
theorem x_num_f (hG : GM G) (hT : RT m tl tc) (hp : m 158 10 = nI p) (hf : m 158 11 = nI f) (hf2 : f ≤ 99) (hl : p ≤ 200) : res mX7_number [.ref 158, .int u, .int v] (G, m, ml) = some (some (.int (nI 0)), (G, up2 m 158 10 (nI (sk tl tc p)), ml)) := by
  have e := x_pass (ml := ml) hG hT hp hl
  have h4 := n4 hf2
  obtain ⟨⟨g0, g1, g2, -⟩, -⟩ := hG
  apply res_of
  show Wp mX7_number 0 [some (.ref 158), some (.int u), some (.int v), none, none] [] (G, m, ml) _
  simp (maxSteps := 1000000) (decide := true) (disch := (first | assumption | omega | exact Nat.div_mul_le_self _ _ | exact ni_nz (by omega) (by omega) | exact rfl | exact retOk_bI _ | exact retOk_0 | exact retOk_1)) only [eX7_number_0, eX7_number_1, eX7_number_4, eX7_number_5, eX7_number_8, eX7_number_9, eX7_number_10, eX7_number_12, eX7_number_13, eX7_number_16, eX7_number_18, eX7_number_21, eX7_number_22, eX7_number_23, eX7_number_24, eX7_number_27, eX7_number_30, eX7_number_31, eX7_number_32, eX7_number_35, eX7_number_38, eX7_number_39, eX7_number_41, eX7_number_44, eX7_number_47, eX7_number_48, eX7_number_51, eX7_number_52, eX7_number_53, eX7_number_54, eX7_number_57, eX7_number_59, eX7_number_61, eX7_number_62, eX7_number_63, eX7_number_66, eX7_number_67, eX7_number_70, eX7_number_71, eX7_number_72, eX7_number_74, eX7_number_75, eX7_number_77, eX7_number_78, eX7_number_79, eX7_number_82, eX7_number_83, eX7_number_84, eX7_number_87, eX7_number_90, eX7_number_92, eX7_number_93, eX7_number_94, eX7_number_95, eX7_number_96, eX7_number_97, eX7_number_100, eX7_number_103, eX7_number_104, eX7_number_105, eX7_number_108, eX7_number_111, eX7_number_112, eX7_number_115, eX7_number_118, eX7_number_119, eX7_number_120, eX7_number_123, eX7_number_126, eX7_number_128, e, hf, h4, WpR_some, Option.toList_some, Option.toList_none, List.cons_append, List.nil_append, List.append_nil, clr_n, clr_i, clr_a, ni_add, ni_mul, ni_sub, ni_lt, ni_le, ni_eq, ni_div, nat_mod_eq, ni_rem, iMax_nn, iMin_nn, iMax_sub, Nat.zero_max, bI_0, bI_1, bI_n0, up2_s, up2_n, up2_k, va_up_self, va_up_ne, ni_l, lN_mul, lN_add, ln_mask, lN_i, ↓reduceIte, if_true, if_false, not_true_eq_false, not_false_eq_true, ite_self, Nat.add_zero, Nat.zero_add, ent_def]
theorem x_num0 (hG : GM G) (hT : RT m tl tc) (hp : m 158 10 = nI p) (hf : m 158 11 = -4) (hl : p ≤ tl) (hd : dgt tl tc (sk tl tc p) = false) : res mX7_number [.ref 158, .int u, .int v] (G, m, ml) = some (some (.int (nI 0)), (G, up2 (up2 m 158 10 (nI (sk tl tc p))) 158 11 (nI (sk tl tc p)), ml)) := by
  have h70 := hT.2.1
  have e := x_pass (ml := ml) hG hT hp (by omega)
  have hs := sk_le (tc := tc) hl
  have e2 := x_dig (ml := ml) (p := sk tl tc p) (m := up2 m 158 10 (nI (sk tl tc p))) hG (RT_p hT) (by rw [up2_s]) (by omega)
  rw [hd] at e2
  obtain ⟨⟨g0, g1, g2, -⟩, -⟩ := hG
  apply res_of
  show Wp mX7_number 0 [some (.ref 158), some (.int u), some (.int v), none, none] [] (G, m, ml) _
  simp (maxSteps := 1000000) (decide := true) (disch := (first | assumption | omega | exact Nat.div_mul_le_self _ _ | exact ni_nz (by omega) (by omega) | exact rfl | exact retOk_bI _ | exact retOk_0 | exact retOk_1)) only [eX7_number_0, eX7_number_1, eX7_number_4, eX7_number_5, eX7_number_8, eX7_number_9, eX7_number_10, eX7_number_12, eX7_number_13, eX7_number_16, eX7_number_18, eX7_number_21, eX7_number_22, eX7_number_23, eX7_number_24, eX7_number_27, eX7_number_30, eX7_number_31, eX7_number_32, eX7_number_35, eX7_number_38, eX7_number_39, eX7_number_41, eX7_number_44, eX7_number_47, eX7_number_48, eX7_number_51, eX7_number_52, eX7_number_53, eX7_number_54, eX7_number_57, eX7_number_59, eX7_number_61, eX7_number_62, eX7_number_63, eX7_number_66, eX7_number_67, eX7_number_70, eX7_number_71, eX7_number_72, eX7_number_74, eX7_number_75, eX7_number_77, eX7_number_78, eX7_number_79, eX7_number_82, eX7_number_83, eX7_number_84, eX7_number_87, eX7_number_90, eX7_number_92, eX7_number_93, eX7_number_94, eX7_number_95, eX7_number_96, eX7_number_97, eX7_number_100, eX7_number_103, eX7_number_104, eX7_number_105, eX7_number_108, eX7_number_111, eX7_number_112, eX7_number_115, eX7_number_118, eX7_number_119, eX7_number_120, eX7_number_123, eX7_number_126, eX7_number_128, e, hf, e2, WpR_some, Option.toList_some, Option.toList_none, List.cons_append, List.nil_append, List.append_nil, clr_n, clr_i, clr_a, ni_add, ni_mul, ni_sub, ni_lt, ni_le, ni_eq, ni_div, nat_mod_eq, ni_rem, iMax_nn, iMin_nn, iMax_sub, Nat.zero_max, bI_0, bI_1, bI_n0, up2_s, up2_n, up2_k, va_up_self, va_up_ne, ni_l, lN_mul, lN_add, ln_mask, lN_i, ↓reduceIte, if_true, if_false, not_true_eq_false, not_false_eq_true, ite_self, Nat.add_zero, Nat.zero_add, ent_def]
theorem x_num1 (hG : GM G) (hT : RT m tl tc) (hp : m 158 10 = nI p) (hf : m 158 11 = -4) (hl : p ≤ tl) (hd : dgt tl tc (sk tl tc p) = true) (hlo : lo < 1000) (hhi : hi < 1000) : res mX7_number [.ref 158, .int (nI lo), .int (nI hi)] (G, m, ml) = some (some (.int (nI (nv tl tc (sk tl tc p)))), (G, (if lo ≤ nv tl tc (sk tl tc p) ∧ nv tl tc (sk tl tc p) ≤ hi then (if dgt tl tc (ne' tl tc (sk tl tc p)) = true then up2 (up2 m 158 10 (nI (ne' tl tc (sk tl tc p)))) 158 11 (nI (ne' tl tc (sk tl tc p))) else up2 m 158 10 (nI (ne' tl tc (sk tl tc p)))) else up2 (up2 m 158 10 (nI (ne' tl tc (sk tl tc p)))) 158 11 (nI (sk tl tc p))), ml)) := by
  have h70 := hT.2.1
  have e := x_pass (ml := ml) hG hT hp (by omega)
  have hs := sk_le (tc := tc) hl
  have dd : ∀ q, q ≤ 200 → res mX7_isDigitHere [.ref 158] (G, up2 m 158 10 (nI q), ml) = some (some (.int (bI (dgt tl tc q))), (G, up2 m 158 10 (nI q), ml)) := fun q hq => x_dig (ml := ml) (p := q) (m := up2 m 158 10 (nI q)) hG (RT_p hT) (by rw [up2_s]) hq
  have hv := nv_le hd
  have hn := ne_le hd
  have hd' := dgt_t hd
  obtain ⟨⟨g0, g1, g2, -⟩, ⟨a0, a1, -⟩, ⟨l0, l1, -⟩⟩ := hG
  obtain ⟨c1, c2, c3⟩ := hT
  generalize hs : sk tl tc p = s at *
  obtain ⟨d1, -, -⟩ := c3 s hd'.1
  have d0 := dd s (by omega)
  rw [hd] at d0
  have h1 : ¬ s + 2 ≤ s := by omega
  have h2 : ¬ s + 2 ≤ s + 1 := by omega
  have h3 : s + 2 ≤ s + 1 + 1 := by omega
  have h48 : 48 ≤ 10 * 0 + tc s := by omega
  apply res_of
  show Wp mX7_number 0 [some (.ref 158), some (.int (nI lo)), some (.int (nI hi)), none, none] [] (G, m, ml) _
  by_cases hq : dgt tl tc (s + 1) = true
  · have hq' := dgt_t hq
    obtain ⟨y1, -, -⟩ := c3 (s + 1) hq'.1
    have dq := dd (s + 1) (by omega)
    rw [hq] at dq
    have d2 := dd (s + 1 + 1) (by omega)
    have hnv : nv tl tc s = 10 * (10 * 0 + tc s - 48) + tc (s + 1) - 48 := by unfold nv; rw [if_pos hq]; omega
    have hne : ne' tl tc s = s + 1 + 1 := by unfold ne'; rw [if_pos hq]
    have h48' : 48 ≤ 10 * (10 * 0 + tc s - 48) + tc (s + 1) := by omega
    rw [hnv, hne]
    rw [hnv] at hv
    have w1 := fun μ => r_inN (x := 10 * (10 * 0 + tc s - 48) + tc (s + 1) - 48) (lo := lo) (hi := hi) (μ := μ) hlo hhi (by omega)
    by_cases hr : lo ≤ 10 * (10 * 0 + tc s - 48) + tc (s + 1) - 48 ∧ 10 * (10 * 0 + tc s - 48) + tc (s + 1) - 48 ≤ hi
    · rw [if_pos hr]
      simp only [hr, decide_true, and_self] at w1
      by_cases hz : dgt tl tc (s + 1 + 1) = true
      · rw [if_pos hz]
        rw [hz] at d2
        simp (maxSteps := 1000000) (decide := true) (disch := (first | assumption | omega | exact Nat.div_mul_le_self _ _ | exact ni_nz (by omega) (by omega) | exact rfl | exact retOk_bI _ | exact retOk_0 | exact retOk_1)) only [eX7_number_0, eX7_number_1, eX7_number_4, eX7_number_5, eX7_number_8, eX7_number_9, eX7_number_10, eX7_number_12, eX7_number_13, eX7_number_16, eX7_number_18, eX7_number_21, eX7_number_22, eX7_number_23, eX7_number_24, eX7_number_27, eX7_number_30, eX7_number_31, eX7_number_32, eX7_number_35, eX7_number_38, eX7_number_39, eX7_number_40, eX7_number_41, eX7_number_44, eX7_number_47, eX7_number_48, eX7_number_51, eX7_number_52, eX7_number_53, eX7_number_54, eX7_number_57, eX7_number_59, eX7_number_61, eX7_number_62, eX7_number_63, eX7_number_66, eX7_number_67, eX7_number_70, eX7_number_71, eX7_number_72, eX7_number_74, eX7_number_75, eX7_number_77, eX7_number_78, eX7_number_79, eX7_number_82, eX7_number_83, eX7_number_84, eX7_number_87, eX7_number_90, eX7_number_92, eX7_number_93, eX7_number_94, eX7_number_95, eX7_number_96, eX7_number_97, eX7_number_100, eX7_number_103, eX7_number_104, eX7_number_105, eX7_number_108, eX7_number_111, eX7_number_112, eX7_number_115, eX7_number_118, eX7_number_119, eX7_number_120, eX7_number_123, eX7_number_126, eX7_number_128, e, hf, g2, c1, d0, d1, h1, dq, y1, h2, d2, h3, w1, up2_2, WpR_some, Option.toList_some, Option.toList_none, List.cons_append, List.nil_append, List.append_nil, clr_n, clr_i, clr_a, ni_add, ni_mul, ni_sub, ni_lt, ni_le, ni_eq, ni_div, nat_mod_eq, ni_rem, iMax_nn, iMin_nn, iMax_sub, Nat.zero_max, bI_0, bI_1, bI_n0, up2_s, up2_n, up2_k, va_up_self, va_up_ne, ni_l, lN_mul, lN_add, ln_mask, lN_i, ↓reduceIte, if_true, if_false, not_true_eq_false, not_false_eq_true, ite_self, Nat.add_zero, Nat.zero_add, ent_def]
      · rw [if_neg hz]
        have hz : dgt tl tc (s + 1 + 1) = false := by
          cases hzz : dgt tl tc (s + 1 + 1)
          · rfl
          · exact absurd hzz hz
        rw [hz] at d2
        simp (maxSteps := 1000000) (decide := true) (disch := (first | assumption | omega | exact Nat.div_mul_le_self _ _ | exact ni_nz (by omega) (by omega) | exact rfl | exact retOk_bI _ | exact retOk_0 | exact retOk_1)) only [eX7_number_0, eX7_number_1, eX7_number_4, eX7_number_5, eX7_number_8, eX7_number_9, eX7_number_10, eX7_number_12, eX7_number_13, eX7_number_16, eX7_number_18, eX7_number_21, eX7_number_22, eX7_number_23, eX7_number_24, eX7_number_27, eX7_number_30, eX7_number_31, eX7_number_32, eX7_number_35, eX7_number_38, eX7_number_39, eX7_number_40, eX7_number_41, eX7_number_44, eX7_number_47, eX7_number_48, eX7_number_51, eX7_number_52, eX7_number_53, eX7_number_54, eX7_number_57, eX7_number_59, eX7_number_61, eX7_number_62, eX7_number_63, eX7_number_66, eX7_number_67, eX7_number_70, eX7_number_71, eX7_number_72, eX7_number_74, eX7_number_75, eX7_number_77, eX7_number_78, eX7_number_79, eX7_number_82, eX7_number_83, eX7_number_84, eX7_number_87, eX7_number_90, eX7_number_92, eX7_number_93, eX7_number_94, eX7_number_95, eX7_number_96, eX7_number_97, eX7_number_100, eX7_number_103, eX7_number_104, eX7_number_105, eX7_number_108, eX7_number_111, eX7_number_112, eX7_number_115, eX7_number_118, eX7_number_119, eX7_number_120, eX7_number_123, eX7_number_126, eX7_number_128, e, hf, g2, c1, d0, d1, h1, dq, y1, h2, d2, h3, w1, up2_2, WpR_some, Option.toList_some, Option.toList_none, List.cons_append, List.nil_append, List.append_nil, clr_n, clr_i, clr_a, ni_add, ni_mul, ni_sub, ni_lt, ni_le, ni_eq, ni_div, nat_mod_eq, ni_rem, iMax_nn, iMin_nn, iMax_sub, Nat.zero_max, bI_0, bI_1, bI_n0, up2_s, up2_n, up2_k, va_up_self, va_up_ne, ni_l, lN_mul, lN_add, ln_mask, lN_i, ↓reduceIte, if_true, if_false, not_true_eq_false, not_false_eq_true, ite_self, Nat.add_zero, Nat.zero_add, ent_def]
    · rw [if_neg hr]
      simp only [hr, decide_false] at w1
      cases hz : dgt tl tc (s + 1 + 1)
      · rw [hz] at d2
        simp (maxSteps := 1000000) (decide := true) (disch := (first | assumption | omega | exact Nat.div_mul_le_self _ _ | exact ni_nz (by omega) (by omega) | exact rfl | exact retOk_bI _ | exact retOk_0 | exact retOk_1)) only [eX7_number_0, eX7_number_1, eX7_number_4, eX7_number_5, eX7_number_8, eX7_number_9, eX7_number_10, eX7_number_12, eX7_number_13, eX7_number_16, eX7_number_18, eX7_number_21, eX7_number_22, eX7_number_23, eX7_number_24, eX7_number_27, eX7_number_30, eX7_number_31, eX7_number_32, eX7_number_35, eX7_number_38, eX7_number_39, eX7_number_40, eX7_number_41, eX7_number_44, eX7_number_47, eX7_number_48, eX7_number_51, eX7_number_52, eX7_number_53, eX7_number_54, eX7_number_57, eX7_number_59, eX7_number_61, eX7_number_62, eX7_number_63, eX7_number_66, eX7_number_67, eX7_number_70, eX7_number_71, eX7_number_72, eX7_number_74, eX7_number_75, eX7_number_77, eX7_number_78, eX7_number_79, eX7_number_82, eX7_number_83, eX7_number_84, eX7_number_87, eX7_number_90, eX7_number_92, eX7_number_93, eX7_number_94, eX7_number_95, eX7_number_96, eX7_number_97, eX7_number_100, eX7_number_103, eX7_number_104, eX7_number_105, eX7_number_108, eX7_number_111, eX7_number_112, eX7_number_115, eX7_number_118, eX7_number_119, eX7_number_120, eX7_number_123, eX7_number_126, eX7_number_128, e, hf, g2, c1, d0, d1, h1, dq, y1, h2, d2, h3, w1, up2_2, WpR_some, Option.toList_some, Option.toList_none, List.cons_append, List.nil_append, List.append_nil, clr_n, clr_i, clr_a, ni_add, ni_mul, ni_sub, ni_lt, ni_le, ni_eq, ni_div, nat_mod_eq, ni_rem, iMax_nn, iMin_nn, iMax_sub, Nat.zero_max, bI_0, bI_1, bI_n0, up2_s, up2_n, up2_k, va_up_self, va_up_ne, ni_l, lN_mul, lN_add, ln_mask, lN_i, ↓reduceIte, if_true, if_false, not_true_eq_false, not_false_eq_true, ite_self, Nat.add_zero, Nat.zero_add, ent_def]
      · rw [hz] at d2
        simp (maxSteps := 1000000) (decide := true) (disch := (first | assumption | omega | exact Nat.div_mul_le_self _ _ | exact ni_nz (by omega) (by omega) | exact rfl | exact retOk_bI _ | exact retOk_0 | exact retOk_1)) only [eX7_number_0, eX7_number_1, eX7_number_4, eX7_number_5, eX7_number_8, eX7_number_9, eX7_number_10, eX7_number_12, eX7_number_13, eX7_number_16, eX7_number_18, eX7_number_21, eX7_number_22, eX7_number_23, eX7_number_24, eX7_number_27, eX7_number_30, eX7_number_31, eX7_number_32, eX7_number_35, eX7_number_38, eX7_number_39, eX7_number_40, eX7_number_41, eX7_number_44, eX7_number_47, eX7_number_48, eX7_number_51, eX7_number_52, eX7_number_53, eX7_number_54, eX7_number_57, eX7_number_59, eX7_number_61, eX7_number_62, eX7_number_63, eX7_number_66, eX7_number_67, eX7_number_70, eX7_number_71, eX7_number_72, eX7_number_74, eX7_number_75, eX7_number_77, eX7_number_78, eX7_number_79, eX7_number_82, eX7_number_83, eX7_number_84, eX7_number_87, eX7_number_90, eX7_number_92, eX7_number_93, eX7_number_94, eX7_number_95, eX7_number_96, eX7_number_97, eX7_number_100, eX7_number_103, eX7_number_104, eX7_number_105, eX7_number_108, eX7_number_111, eX7_number_112, eX7_number_115, eX7_number_118, eX7_number_119, eX7_number_120, eX7_number_123, eX7_number_126, eX7_number_128, e, hf, g2, c1, d0, d1, h1, dq, y1, h2, d2, h3, w1, up2_2, WpR_some, Option.toList_some, Option.toList_none, List.cons_append, List.nil_append, List.append_nil, clr_n, clr_i, clr_a, ni_add, ni_mul, ni_sub, ni_lt, ni_le, ni_eq, ni_div, nat_mod_eq, ni_rem, iMax_nn, iMin_nn, iMax_sub, Nat.zero_max, bI_0, bI_1, bI_n0, up2_s, up2_n, up2_k, va_up_self, va_up_ne, ni_l, lN_mul, lN_add, ln_mask, lN_i, ↓reduceIte, if_true, if_false, not_true_eq_false, not_false_eq_true, ite_self, Nat.add_zero, Nat.zero_add, ent_def]
  · have hq0 : dgt tl tc (s + 1) = false := by
      cases hz : dgt tl tc (s + 1)
      · rfl
      · exact absurd hz hq
    have dq := dd (s + 1) (by omega)
    rw [hq0] at dq
    have hnv : nv tl tc s = 10 * 0 + tc s - 48 := by unfold nv; rw [if_neg hq]; omega
    have hne : ne' tl tc s = s + 1 := by unfold ne'; rw [if_neg hq]
    rw [hnv, hne, if_neg hq]
    rw [hnv] at hv
    have w1 := fun μ => r_inN (x := 10 * 0 + tc s - 48) (lo := lo) (hi := hi) (μ := μ) hlo hhi (by omega)
    by_cases hr : lo ≤ 10 * 0 + tc s - 48 ∧ 10 * 0 + tc s - 48 ≤ hi
    · rw [if_pos hr]
      simp only [hr, decide_true, and_self] at w1
      simp (maxSteps := 1000000) (decide := true) (disch := (first | assumption | omega | exact Nat.div_mul_le_self _ _ | exact ni_nz (by omega) (by omega) | exact rfl | exact retOk_bI _ | exact retOk_0 | exact retOk_1)) only [eX7_number_0, eX7_number_1, eX7_number_4, eX7_number_5, eX7_number_8, eX7_number_9, eX7_number_10, eX7_number_12, eX7_number_13, eX7_number_16, eX7_number_18, eX7_number_21, eX7_number_22, eX7_number_23, eX7_number_24, eX7_number_27, eX7_number_30, eX7_number_31, eX7_number_32, eX7_number_35, eX7_number_38, eX7_number_39, eX7_number_40, eX7_number_41, eX7_number_44, eX7_number_47, eX7_number_48, eX7_number_51, eX7_number_52, eX7_number_53, eX7_number_54, eX7_number_57, eX7_number_59, eX7_number_61, eX7_number_62, eX7_number_63, eX7_number_66, eX7_number_67, eX7_number_70, eX7_number_71, eX7_number_72, eX7_number_74, eX7_number_75, eX7_number_77, eX7_number_78, eX7_number_79, eX7_number_82, eX7_number_83, eX7_number_84, eX7_number_87, eX7_number_90, eX7_number_92, eX7_number_93, eX7_number_94, eX7_number_95, eX7_number_96, eX7_number_97, eX7_number_100, eX7_number_103, eX7_number_104, eX7_number_105, eX7_number_108, eX7_number_111, eX7_number_112, eX7_number_115, eX7_number_118, eX7_number_119, eX7_number_120, eX7_number_123, eX7_number_126, eX7_number_128, e, hf, g2, c1, d0, d1, h1, dq, w1, up2_2, WpR_some, Option.toList_some, Option.toList_none, List.cons_append, List.nil_append, List.append_nil, clr_n, clr_i, clr_a, ni_add, ni_mul, ni_sub, ni_lt, ni_le, ni_eq, ni_div, nat_mod_eq, ni_rem, iMax_nn, iMin_nn, iMax_sub, Nat.zero_max, bI_0, bI_1, bI_n0, up2_s, up2_n, up2_k, va_up_self, va_up_ne, ni_l, lN_mul, lN_add, ln_mask, lN_i, ↓reduceIte, if_true, if_false, not_true_eq_false, not_false_eq_true, ite_self, Nat.add_zero, Nat.zero_add, ent_def]
    · rw [if_neg hr]
      simp only [hr, decide_false] at w1
      simp (maxSteps := 1000000) (decide := true) (disch := (first | assumption | omega | exact Nat.div_mul_le_self _ _ | exact ni_nz (by omega) (by omega) | exact rfl | exact retOk_bI _ | exact retOk_0 | exact retOk_1)) only [eX7_number_0, eX7_number_1, eX7_number_4, eX7_number_5, eX7_number_8, eX7_number_9, eX7_number_10, eX7_number_12, eX7_number_13, eX7_number_16, eX7_number_18, eX7_number_21, eX7_number_22, eX7_number_23, eX7_number_24, eX7_number_27, eX7_number_30, eX7_number_31, eX7_number_32, eX7_number_35, eX7_number_38, eX7_number_39, eX7_number_40, eX7_number_41, eX7_number_44, eX7_number_47, eX7_number_48, eX7_number_51, eX7_number_52, eX7_number_53, eX7_number_54, eX7_number_57, eX7_number_59, eX7_number_61, eX7_number_62, eX7_number_63, eX7_number_66, eX7_number_67, eX7_number_70, eX7_number_71, eX7_number_72, eX7_number_74, eX7_number_75, eX7_number_77, eX7_number_78, eX7_number_79, eX7_number_82, eX7_number_83, eX7_number_84, eX7_number_87, eX7_number_90, eX7_number_92, eX7_number_93, eX7_number_94, eX7_number_95, eX7_number_96, eX7_number_97, eX7_number_100, eX7_number_103, eX7_number_104, eX7_number_105, eX7_number_108, eX7_number_111, eX7_number_112, eX7_number_115, eX7_number_118, eX7_number_119, eX7_number_120, eX7_number_123, eX7_number_126, eX7_number_128, e, hf, g2, c1, d0, d1, h1, dq, w1, up2_2, WpR_some, Option.toList_some, Option.toList_none, List.cons_append, List.nil_append, List.append_nil, clr_n, clr_i, clr_a, ni_add, ni_mul, ni_sub, ni_lt, ni_le, ni_eq, ni_div, nat_mod_eq, ni_rem, iMax_nn, iMin_nn, iMax_sub, Nat.zero_max, bI_0, bI_1, bI_n0, up2_s, up2_n, up2_k, va_up_self, va_up_ne, ni_l, lN_mul, lN_add, ln_mask, lN_i, ↓reduceIte, if_true, if_false, not_true_eq_false, not_false_eq_true, ite_self, Nat.add_zero, Nat.zero_add, ent_def]
end XLS
