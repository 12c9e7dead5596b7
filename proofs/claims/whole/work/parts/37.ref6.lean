def RT (m : Nat → Nat → Int32) (tl : Nat) (tc : Nat → Nat) : Prop := m 158 3 = nI tl ∧ tl ≤ 70 ∧ ∀ j, j < tl → m 160 j = nI (tc j) ∧ 32 ≤ tc j ∧ tc j ≤ 126
def RI (m : Nat → Nat → Int32) (im : Bool) (σ : Nat → Nat) (k : Nat) (f : Nat → Nat → Nat) : Prop := m 158 1 = bI im ∧ (im = true → RA m 409 σ k f)
section RF6
variable {G : List AT} {m : Nat → Nat → Int32} {ml : Nat → Nat → Int64} {q n s h t ke kl x y o k ki : Nat} {σ τ σi : Nat → Nat} {π : Nat → Nat} {u v w : Int32} {f fi : Nat → Nat → Nat} {μ : Mm} {d im : Bool}
theorem x_type_bad (hG : GM G) (h : rg v 32 126 = false) : res mX7_type [.ref 158, .int v] (G, m, ml) = some (some (.int (-1)), (G, m, ml)) := by
  obtain ⟨⟨g0, g1, -⟩, -⟩ := hG
  apply res_of
  show Wp mX7_type 0 [some (.ref 158), some (.int v)] [] (G, m, ml) _
  simp (maxSteps := 1000000) (decide := true) (disch := (first | assumption | omega | exact Nat.div_mul_le_self _ _ | exact ni_nz (by omega) (by omega) | exact rfl | exact retOk_bI _ | exact retOk_0 | exact retOk_1)) only [eX7_type_0, eX7_type_1, eX7_type_2, eX7_type_5, eX7_type_8, eX7_type_11, eX7_type_14, eX7_type_15, eX7_type_16, eX7_type_17, eX7_type_20, eX7_type_22, eX7_type_25, eX7_type_27, eX7_type_28, eX7_type_29, eX7_type_32, eX7_type_33, eX7_type_36, eX7_type_37, eX7_type_38, eX7_type_39, eX7_type_40, eX7_type_43, eX7_type_44, eX7_type_45, eX7_type_48, eX7_type_49, eX7_type_52, r_in, h, WpR_some, Option.toList_some, Option.toList_none, List.cons_append, List.nil_append, List.append_nil, clr_n, clr_i, clr_a, ni_add, ni_mul, ni_sub, ni_lt, ni_le, ni_eq, ni_div, nat_mod_eq, ni_rem, iMax_nn, iMin_nn, iMax_sub, Nat.zero_max, bI_0, bI_1, bI_n0, up2_s, up2_n, up2_k, va_up_self, va_up_ne, ni_l, lN_mul, lN_add, ln_mask, lN_i, ↓reduceIte, if_true, if_false, not_true_eq_false, not_false_eq_true, ite_self, Nat.add_zero, Nat.zero_add, ent_def]
theorem x_type {tl : Nat} {tc : Nat → Nat} (hG : GM G) (hT : RT m tl tc) (h1 : 32 ≤ x) (h2 : x ≤ 126) : ∃ m', res mX7_type [.ref 158, .int (nI x)] (G, m, ml) = some (some (.int (if tl = 70 then -3 else nI (tl + 1))), (G, m', ml)) ∧ (if tl = 70 then RT m' tl tc else RT m' (tl + 1) (upN tc tl x)) ∧ (∀ b, b ≠ 158 → b ≠ 160 → m' b = m b) ∧ (∀ k, k ≠ 3 → m' 158 k = m 158 k) := by
  obtain ⟨⟨g0, g1, g2, -⟩, ⟨a0, a1, -⟩, ⟨l0, l1, -⟩⟩ := hG
  obtain ⟨c1, c2, c3⟩ := hT
  have i1 := fun μ => r_inT (x := x) (lo := 32) (hi := 126) (μ := μ) h1 h2 (by decide)
  by_cases hc : tl = 70
  · refine ⟨m, ?_, by rw [if_pos hc]; exact ⟨c1, c2, c3⟩, fun _ _ _ => rfl, fun _ _ => rfl⟩
    rw [if_pos hc]
    rw [hc] at c1
    apply res_of
    show Wp mX7_type 0 [some (.ref 158), some (.int (nI x))] [] (G, m, ml) _
    simp (maxSteps := 1000000) (decide := true) (disch := (first | assumption | omega | exact Nat.div_mul_le_self _ _ | exact ni_nz (by omega) (by omega) | exact rfl | exact retOk_bI _ | exact retOk_0 | exact retOk_1)) only [eX7_type_0, eX7_type_1, eX7_type_2, eX7_type_5, eX7_type_8, eX7_type_11, eX7_type_14, eX7_type_15, eX7_type_16, eX7_type_17, eX7_type_20, eX7_type_22, eX7_type_25, eX7_type_27, eX7_type_28, eX7_type_29, eX7_type_32, eX7_type_33, eX7_type_36, eX7_type_37, eX7_type_38, eX7_type_39, eX7_type_40, eX7_type_43, eX7_type_44, eX7_type_45, eX7_type_48, eX7_type_49, eX7_type_52, i1, c1, WpR_some, Option.toList_some, Option.toList_none, List.cons_append, List.nil_append, List.append_nil, clr_n, clr_i, clr_a, ni_add, ni_mul, ni_sub, ni_lt, ni_le, ni_eq, ni_div, nat_mod_eq, ni_rem, iMax_nn, iMin_nn, iMax_sub, Nat.zero_max, bI_0, bI_1, bI_n0, up2_s, up2_n, up2_k, va_up_self, va_up_ne, ni_l, lN_mul, lN_add, ln_mask, lN_i, ↓reduceIte, if_true, if_false, not_true_eq_false, not_false_eq_true, ite_self, Nat.add_zero, Nat.zero_add, ent_def]
  · refine ⟨up2 (up2 m 160 tl (nI x)) 158 3 (nI (tl + 1)), ?_, ?_, ?_, ?_⟩
    · rw [if_neg hc]
      apply res_of
      show Wp mX7_type 0 [some (.ref 158), some (.int (nI x))] [] (G, m, ml) _
      have hlt : tl < 70 := by omega
      simp (maxSteps := 1000000) (decide := true) (disch := (first | assumption | omega | exact Nat.div_mul_le_self _ _ | exact ni_nz (by omega) (by omega) | exact rfl | exact retOk_bI _ | exact retOk_0 | exact retOk_1)) only [eX7_type_0, eX7_type_1, eX7_type_2, eX7_type_5, eX7_type_8, eX7_type_11, eX7_type_14, eX7_type_15, eX7_type_16, eX7_type_17, eX7_type_20, eX7_type_22, eX7_type_25, eX7_type_27, eX7_type_28, eX7_type_29, eX7_type_32, eX7_type_33, eX7_type_36, eX7_type_37, eX7_type_38, eX7_type_39, eX7_type_40, eX7_type_43, eX7_type_44, eX7_type_45, eX7_type_48, eX7_type_49, eX7_type_52, i1, g2, c1, hc, WpR_some, Option.toList_some, Option.toList_none, List.cons_append, List.nil_append, List.append_nil, clr_n, clr_i, clr_a, ni_add, ni_mul, ni_sub, ni_lt, ni_le, ni_eq, ni_div, nat_mod_eq, ni_rem, iMax_nn, iMin_nn, iMax_sub, Nat.zero_max, bI_0, bI_1, bI_n0, up2_s, up2_n, up2_k, va_up_self, va_up_ne, ni_l, lN_mul, lN_add, ln_mask, lN_i, ↓reduceIte, if_true, if_false, not_true_eq_false, not_false_eq_true, ite_self, Nat.add_zero, Nat.zero_add, ent_def]
    · rw [if_neg hc]
      refine ⟨by rw [up2_s], by omega, fun j hj => ?_⟩
      rw [up2_n (by decide)]
      by_cases hq : j = tl
      · subst hq; rw [up2_s, upN_s]; exact ⟨rfl, h1, h2⟩
      · rw [up2_k hq, upN_n hq]; exact c3 j (by omega)
    · intro b h1 h2; rw [up2_n h1, up2_n h2]
    · intro k hk; rw [up2_k hk, up2_n (by decide)]
theorem RA_fr {m' : Nat → Nat → Int32} (h : RA m q σ k f) (hf : ∀ j, q ≤ j → j < q + 409 → m' 159 j = m 159 j) : RA m' q σ k f := ⟨RwV_fr h.1 (fun k h1 h2 => hf k h1 (by omega)), by rw [hf _ (by omega) (by omega)]; exact h.2.1, h.2.2.1, fun i hi j hj => by
  have := h.2.2.1
  rw [hf _ (by omega) (by omega)]; exact h.2.2.2 i hi j hj⟩
theorem RA_ev {m' : Nat → Nat → Int32} (h : RA m 0 σ k f) (hR : RwV m' 0 τ) (hf : ∀ j, 44 ≤ j → m' 159 j = m 159 j) : RA m' 0 τ k f := ⟨hR, by rw [hf _ (by omega)]; exact h.2.1, h.2.2.1, fun i hi j hj => by rw [hf _ (by omega)]; exact h.2.2.2 i hi j hj⟩
theorem r_X7_drifts (hG : GM G) (hA : RA m 0 σ k f) (hB : Bd σ) : ∃ m', res mX7_drifts [.ref 158] (G, m, ml) = some (none, (G, m', ml)) ∧ RA m' 0 (drw σ) k f ∧ (∀ b, b ≠ 159 → m' b = m b) ∧ (∀ j, 44 ≤ j → m' 159 j = m 159 j) := by
  have hb := hB
  obtain ⟨b1, b2, b3, b4, b5, b6, b7, b8, b9, b10, b11, b12⟩ := hb
  have hG0 := hG
  obtain ⟨⟨g0, g1, -⟩, ⟨a0, -⟩, ⟨l0, -⟩⟩ := hG
  have v6 := RA_at hA (j := 43) (by decide)
  have v1 := RA_at hA (j := 45) (by decide)
  have hn : nxt (σ 43) < 2147483648 := Nat.mod_lt _ (by decide)
  have A1 := RA_up (i := 43) (v := nxt (σ 43)) hA (by decide)
  have B1 : Bd (upN σ 43 (nxt (σ 43))) := Bd_up hB (by decide) ⟨by omega, by omega, by omega, by omega, by omega, by omega, by omega, by omega, by omega, by omega, by omega, by omega⟩
  have e45 : upN σ 43 (nxt (σ 43)) 45 = σ 45 := upN_n (by decide)
  have hnx : (σ 43 * 1103515245 + 12345) % 2147483648 = nxt (σ 43) := rfl
  by_cases h0 : σ 45 = 0
  · refine ⟨up2 m 159 43 (nI (nxt (σ 43))), ?_, ?_, ?_, ?_⟩
    · apply res_of
      show Wp mX7_drifts 0 [some (.ref 158)] [] (G, m, ml) _
      rw [h0] at v1
      simp (maxSteps := 1000000) (decide := true) (disch := (first | assumption | omega | exact Nat.div_mul_le_self _ _ | exact ni_nz (by omega) (by omega) | exact rfl | exact retOk_bI _ | exact retOk_0 | exact retOk_1)) only [eX7_drifts_0, eX7_drifts_1, eX7_drifts_4, eX7_drifts_6, eX7_drifts_7, eX7_drifts_10, eX7_drifts_12, eX7_drifts_13, eX7_drifts_14, eX7_drifts_17, eX7_drifts_18, eX7_drifts_21, eX7_drifts_22, eX7_drifts_25, eX7_drifts_26, eX7_drifts_27, eX7_drifts_28, eX7_drifts_29, eX7_drifts_32, eX7_drifts_34, eX7_drifts_35, eX7_drifts_38, eX7_drifts_39, eX7_drifts_40, eX7_drifts_41, eX7_drifts_44, eX7_drifts_46, eX7_drifts_47, eX7_drifts_49, eX7_drifts_50, eX7_drifts_51, eX7_drifts_54, eX7_drifts_56, eX7_drifts_57, eX7_drifts_58, eX7_drifts_59, eX7_drifts_62, eX7_drifts_64, eX7_drifts_65, eX7_drifts_68, eX7_drifts_69, eX7_drifts_71, eX7_drifts_72, eX7_drifts_75, g1, v1, v6, hnx, WpR_some, Option.toList_some, Option.toList_none, List.cons_append, List.nil_append, List.append_nil, clr_n, clr_i, clr_a, ni_add, ni_mul, ni_sub, ni_lt, ni_le, ni_eq, ni_div, nat_mod_eq, ni_rem, iMax_nn, iMin_nn, iMax_sub, Nat.zero_max, bI_0, bI_1, bI_n0, up2_s, up2_n, up2_k, va_up_self, va_up_ne, ni_l, lN_mul, lN_add, ln_mask, lN_i, ↓reduceIte, if_true, if_false, not_true_eq_false, not_false_eq_true, ite_self, Nat.add_zero, Nat.zero_add, ent_def]
    · unfold drw; rw [if_pos h0]; exact A1
    · intro b hb; rw [up2_n hb]
    · intro j hj; rw [up2_k (by omega)]
  · have hm : nxt (σ 43) / 65536 % σ 45 < σ 45 := Nat.mod_lt _ (by omega)
    have hd : nxt (σ 43) / 65536 < 32768 := by omega
    have hd2 : nxt (σ 43) / 128 < 16777216 := by omega
    have hm6 : nxt (σ 43) / 128 % 6 < 6 := Nat.mod_lt _ (by decide)
    have e := r_X7_rests (ml := ml) (q := 0) (h := nxt (σ 43) / 65536 % σ 45) (n := nxt (σ 43) / 128 % 6) hG0 A1.1 B1 (by omega) (by omega) (by omega)
    rw [upN_n (by omega), upN_n (by omega), Nat.zero_add] at e
    have hlt : ¬ σ 45 ≤ 0 := by omega
    have hpos : 0 < σ 45 := by omega
    refine ⟨up2 (up2 m 159 43 (nI (nxt (σ 43)))) 159 (nxt (σ 43) / 65536 % σ 45) (nI (min (σ (51 + nxt (σ 43) / 65536 % σ 45)) (σ (nxt (σ 43) / 65536 % σ 45) + nxt (σ 43) / 128 % 6))), ?_, ?_, ?_, ?_⟩
    · apply res_of
      show Wp mX7_drifts 0 [some (.ref 158)] [] (G, m, ml) _
      simp (maxSteps := 1000000) (decide := true) (disch := (first | assumption | omega | exact Nat.div_mul_le_self _ _ | exact ni_nz (by omega) (by omega) | exact rfl | exact retOk_bI _ | exact retOk_0 | exact retOk_1)) only [eX7_drifts_0, eX7_drifts_1, eX7_drifts_4, eX7_drifts_6, eX7_drifts_7, eX7_drifts_10, eX7_drifts_12, eX7_drifts_13, eX7_drifts_14, eX7_drifts_17, eX7_drifts_18, eX7_drifts_21, eX7_drifts_22, eX7_drifts_25, eX7_drifts_26, eX7_drifts_27, eX7_drifts_28, eX7_drifts_29, eX7_drifts_32, eX7_drifts_34, eX7_drifts_35, eX7_drifts_38, eX7_drifts_39, eX7_drifts_40, eX7_drifts_41, eX7_drifts_44, eX7_drifts_46, eX7_drifts_47, eX7_drifts_49, eX7_drifts_50, eX7_drifts_51, eX7_drifts_54, eX7_drifts_56, eX7_drifts_57, eX7_drifts_58, eX7_drifts_59, eX7_drifts_62, eX7_drifts_64, eX7_drifts_65, eX7_drifts_68, eX7_drifts_69, eX7_drifts_71, eX7_drifts_72, eX7_drifts_75, g1, v1, v6, hnx, e, hlt, WpR_some, Option.toList_some, Option.toList_none, List.cons_append, List.nil_append, List.append_nil, clr_n, clr_i, clr_a, ni_add, ni_mul, ni_sub, ni_lt, ni_le, ni_eq, ni_div, nat_mod_eq, ni_rem, iMax_nn, iMin_nn, iMax_sub, Nat.zero_max, bI_0, bI_1, bI_n0, up2_s, up2_n, up2_k, va_up_self, va_up_ne, ni_l, lN_mul, lN_add, ln_mask, lN_i, ↓reduceIte, if_true, if_false, not_true_eq_false, not_false_eq_true, ite_self, Nat.add_zero, Nat.zero_add, ent_def]
    · unfold drw; rw [if_neg h0]
      exact RA_up A1 (by omega)
    · intro b hb; rw [up2_n hb, up2_n hb]
    · intro j hj; rw [up2_k (by omega), up2_k (by omega)]
theorem r_X7_goOn_bad (hG : GM G) (h : rg v 1 40 = false) : res mX7_goOn [.ref 158, .int v, .int (bI d)] (G, m, ml) = some (some (.int (-1)), (G, m, ml)) := by
  obtain ⟨⟨g0, g1, -⟩, -⟩ := hG
  apply res_of
  show Wp mX7_goOn 0 [some (.ref 158), some (.int v), some (.int (bI d)), none] [] (G, m, ml) _
  simp (maxSteps := 1000000) (decide := true) (disch := (first | assumption | omega | exact Nat.div_mul_le_self _ _ | exact ni_nz (by omega) (by omega) | exact rfl | exact retOk_bI _ | exact retOk_0 | exact retOk_1)) only [eX7_goOn_0, eX7_goOn_1, eX7_goOn_2, eX7_goOn_3, eX7_goOn_6, eX7_goOn_9, eX7_goOn_12, eX7_goOn_13, eX7_goOn_14, eX7_goOn_15, eX7_goOn_18, eX7_goOn_20, eX7_goOn_21, eX7_goOn_22, eX7_goOn_23, eX7_goOn_26, eX7_goOn_29, eX7_goOn_31, eX7_goOn_32, eX7_goOn_33, eX7_goOn_34, eX7_goOn_37, eX7_goOn_38, eX7_goOn_40, eX7_goOn_41, eX7_goOn_44, eX7_goOn_45, eX7_goOn_48, eX7_goOn_49, eX7_goOn_52, eX7_goOn_53, eX7_goOn_56, eX7_goOn_57, eX7_goOn_58, eX7_goOn_61, eX7_goOn_64, eX7_goOn_67, eX7_goOn_68, eX7_goOn_71, r_in, h, WpR_some, Option.toList_some, Option.toList_none, List.cons_append, List.nil_append, List.append_nil, clr_n, clr_i, clr_a, ni_add, ni_mul, ni_sub, ni_lt, ni_le, ni_eq, ni_div, nat_mod_eq, ni_rem, iMax_nn, iMin_nn, iMax_sub, Nat.zero_max, bI_0, bI_1, bI_n0, up2_s, up2_n, up2_k, va_up_self, va_up_ne, ni_l, lN_mul, lN_add, ln_mask, lN_i, ↓reduceIte, if_true, if_false, not_true_eq_false, not_false_eq_true, ite_self, Nat.add_zero, Nat.zero_add, ent_def]
theorem r_X7_goOn_full (hG : GM G) (hA : RA m 0 σ k f) (hB : Bd σ) (h1 : 1 ≤ n) (h2 : n ≤ 40) (h3 : 9999 < σ 42 + n) : res mX7_goOn [.ref 158, .int (nI n), .int (bI d)] (G, m, ml) = some (some (.int (-3)), (G, m, ml)) := by
  have b5 := hB.2.2.2.2.1
  obtain ⟨⟨g0, g1, -⟩, ⟨a0, -⟩, ⟨l0, -⟩⟩ := hG
  have i1 := fun μ => r_inT (x := n) (lo := 1) (hi := 40) (μ := μ) h1 h2 (by decide)
  have v2 := RA_at hA (j := 42) (by decide)
  have h3' : ¬ σ 42 + n ≤ 9999 := by omega
  apply res_of
  show Wp mX7_goOn 0 [some (.ref 158), some (.int (nI n)), some (.int (bI d)), none] [] (G, m, ml) _
  simp (maxSteps := 1000000) (decide := true) (disch := (first | assumption | omega | exact Nat.div_mul_le_self _ _ | exact ni_nz (by omega) (by omega) | exact rfl | exact retOk_bI _ | exact retOk_0 | exact retOk_1)) only [eX7_goOn_0, eX7_goOn_1, eX7_goOn_2, eX7_goOn_3, eX7_goOn_6, eX7_goOn_9, eX7_goOn_12, eX7_goOn_13, eX7_goOn_14, eX7_goOn_15, eX7_goOn_18, eX7_goOn_20, eX7_goOn_21, eX7_goOn_22, eX7_goOn_23, eX7_goOn_26, eX7_goOn_29, eX7_goOn_31, eX7_goOn_32, eX7_goOn_33, eX7_goOn_34, eX7_goOn_37, eX7_goOn_38, eX7_goOn_40, eX7_goOn_41, eX7_goOn_44, eX7_goOn_45, eX7_goOn_48, eX7_goOn_49, eX7_goOn_52, eX7_goOn_53, eX7_goOn_56, eX7_goOn_57, eX7_goOn_58, eX7_goOn_61, eX7_goOn_64, eX7_goOn_67, eX7_goOn_68, eX7_goOn_71, i1, g1, v2, h3', WpR_some, Option.toList_some, Option.toList_none, List.cons_append, List.nil_append, List.append_nil, clr_n, clr_i, clr_a, ni_add, ni_mul, ni_sub, ni_lt, ni_le, ni_eq, ni_div, nat_mod_eq, ni_rem, iMax_nn, iMin_nn, iMax_sub, Nat.zero_max, bI_0, bI_1, bI_n0, up2_s, up2_n, up2_k, va_up_self, va_up_ne, ni_l, lN_mul, lN_add, ln_mask, lN_i, ↓reduceIte, if_true, if_false, not_true_eq_false, not_false_eq_true, ite_self, Nat.add_zero, Nat.zero_add, ent_def]
theorem r_X7_goOn (hG : GM G) (hA : RA m 0 σ k f) (hX : RX m) (hB : Ok σ) (h1 : 1 ≤ n) (h2 : n ≤ 40) (h3 : ¬ 9999 < σ 42 + n) : ∃ m', res mX7_goOn [.ref 158, .int (nI n), .int (bI d)] (G, m, ml) = some (some (.int (nI (itL d σ n))), (G, m', ml)) ∧ RA m' 0 (itS d σ n) (min 8 (k + n)) (itF d σ f n) ∧ FX 0 409 m m' ∧ RX m' := by
  have b5 := hB.1.2.2.2.2.1
  have hG0 := hG
  obtain ⟨⟨g0, g1, -⟩, ⟨a0, -⟩, ⟨l0, -⟩⟩ := hG
  have i1 := fun μ => r_inT (x := n) (lo := 1) (hi := 40) (μ := μ) h1 h2 (by decide)
  have v2 := RA_at hA (j := 42) (by decide)
  have h3' : σ 42 + n ≤ 9999 := by omega
  obtain ⟨cx, cy, hC⟩ := hX.2.2.2
  have key : Wp mX7_goOn 0 (ent [.ref 158, .int (nI n), .int (bI d)] 4) [] (G, m, ml) (fun r μ' => ∃ m', r = some (.int (nI (itL d σ n))) ∧ μ' = (G, m', ml) ∧ RA m' 0 (itS d σ n) (min 8 (k + n)) (itF d σ f n) ∧ FX 0 409 m m' ∧ RX m') := by
    show Wp mX7_goOn 0 [some (.ref 158), some (.int (nI n)), some (.int (bI d)), none] [] (G, m, ml) _
    generalize hQ : (fun (r : Option Value) (μ' : Mm) => ∃ m', r = some (.int (nI (itL d σ n))) ∧ μ' = (G, m', ml) ∧ RA m' 0 (itS d σ n) (min 8 (k + n)) (itF d σ f n) ∧ FX 0 409 m m' ∧ RX m') = Q
    simp (maxSteps := 1000000) (decide := true) (disch := (first | assumption | omega | exact Nat.div_mul_le_self _ _ | exact ni_nz (by omega) (by omega) | exact rfl | exact retOk_bI _ | exact retOk_0 | exact retOk_1)) only [eX7_goOn_0, eX7_goOn_1, eX7_goOn_2, eX7_goOn_3, eX7_goOn_6, eX7_goOn_9, eX7_goOn_12, eX7_goOn_13, eX7_goOn_14, eX7_goOn_15, eX7_goOn_18, eX7_goOn_20, eX7_goOn_21, eX7_goOn_22, eX7_goOn_23, eX7_goOn_26, eX7_goOn_29, eX7_goOn_31, eX7_goOn_32, eX7_goOn_33, eX7_goOn_34, eX7_goOn_37, eX7_goOn_38, eX7_goOn_40, eX7_goOn_41, eX7_goOn_44, eX7_goOn_45, eX7_goOn_48, eX7_goOn_49, eX7_goOn_52, eX7_goOn_53, eX7_goOn_56, eX7_goOn_57, eX7_goOn_58, eX7_goOn_61, eX7_goOn_64, eX7_goOn_67, eX7_goOn_68, eX7_goOn_71, i1, g1, v2, h3', WpR_some, Option.toList_some, Option.toList_none, List.cons_append, List.nil_append, List.append_nil, clr_n, clr_i, clr_a, ni_add, ni_mul, ni_sub, ni_lt, ni_le, ni_eq, ni_div, nat_mod_eq, ni_rem, iMax_nn, iMin_nn, iMax_sub, Nat.zero_max, bI_0, bI_1, bI_n0, up2_s, up2_n, up2_k, va_up_self, va_up_ne, ni_l, lN_mul, lN_add, ln_mask, lN_i, ↓reduceIte, if_true, if_false, not_true_eq_false, not_false_eq_true, ite_self, Nat.add_zero, Nat.zero_add, ent_def]
    refine wp_for (X := Unit) (fun i _ => [some (.ref 158), some (.int (nI n)), some (.int (bI d)), some (.int (nI i))]) (fun i _ μ => ∃ m1, μ = (G, m1, ml) ∧ RA m1 0 (itS d σ i) (min 8 (k + i)) (itF d σ f i) ∧ CnV m1 (cx + itH d σ i) (itL d σ i) ∧ FX 0 409 m m1) n ?_ ?_ 0 () _ (Nat.zero_le _) ⟨_, rfl, ?_, ⟨by rw [up2_k (by decide)]; exact hC.1, by rw [up2_s]; rfl⟩, FX.rf.upc (by omega)⟩
    · rintro i - μ hi ⟨m1, rfl, A1, C1, F1⟩ kk
      have hBk : Bk 1 5 (itS d σ i) := Bk_itS (Bk_mono (Ok_Bk hB) (by omega) (by omega))
      have hBk2 : Bk 1 5 (stp d (itS d σ i)) := Bk_stp hBk
      obtain ⟨m2, e2, A2, F2, F2'⟩ := r_X7_keepPast (ml := ml) hG0 A1
      have hX2 : RX m2 := by
        refine RX_159 (m := m1) ?_ F2
        exact RX_fx hX F1 ⟨_, _, C1⟩
      have C2 : CnV m2 (cx + itH d σ i) (itL d σ i) := ⟨by rw [F2 158 (by decide)]; exact C1.1, by rw [F2 158 (by decide)]; exact C1.2⟩
      have hlt : ¬ n ≤ i := by omega
      have fin : ∀ m3 : Nat → Nat → Int32, RA m3 0 (stp d (itS d σ i)) (min 8 (min 8 (k + i) + 1)) (pushF (itS d σ i) (itF d σ f i)) → (∀ b, b ≠ 159 → m3 b = m2 b) → (∀ j, 409 ≤ j → m3 159 j = m2 159 j) → ∃ m4, res mX7_passes [.ref 158, .int (nI 0)] (G, m3, ml) = some (none, (G, m4, ml)) ∧ RA m4 0 (itS d σ (i + 1)) (min 8 (k + (i + 1))) (itF d σ f (i + 1)) ∧ CnV m4 (cx + itH d σ (i + 1)) (itL d σ (i + 1)) ∧ FX 0 409 m m4 := by
        intro m3 A3 F3 F3'
        have hX3 := RX_159 hX2 F3
        have C3 : CnV m3 (cx + itH d σ i) (itL d σ i) := ⟨by rw [F3 158 (by decide)]; exact C2.1, by rw [F3 158 (by decide)]; exact C2.2⟩
        obtain ⟨m4, e4, R4, C4, F4⟩ := r_X7_passes (ml := ml) (q := 0) (x := 9) (ab := -4) hG0 (RA_at A3 (j := 44) (by decide)) (RA_at A3 (j := 45) (by decide)) A3.1 hX3.1 hX3.2.2.1 hX3.2.1 C3 (ke := 0) (kl := 0) hBk2 (Or.inl rfl) hab9
        refine ⟨m4, e4, ?_, ?_, ?_⟩
        · have := RA_ev A3 R4 (fun j hj => F4.2.2 j (by omega))
          rw [show min 8 (min 8 (k + i) + 1) = min 8 (k + (i + 1)) by omega] at this
          exact this
        · rw [Nat.add_assoc] at C4
          exact C4
        · exact F1.tr ((FX.k (k := 0) F2 (fun j hj => F2' j (by omega))).tr ((FX.k (k := 0) F3 (fun j hj => F3' j (by omega))).tr (FX.of F4 (by omega) (by omega))))
      rw [eX7_goOn_39]
      cases hd : d
      · subst hd
        obtain ⟨m4, e4, r4⟩ := fin m2 A2 (fun _ _ => rfl) (fun _ _ => rfl)
        simp (maxSteps := 1000000) (decide := true) (disch := (first | assumption | omega | exact Nat.div_mul_le_self _ _ | exact ni_nz (by omega) (by omega) | exact rfl | exact retOk_bI _ | exact retOk_0 | exact retOk_1)) only [eX7_goOn_0, eX7_goOn_1, eX7_goOn_2, eX7_goOn_3, eX7_goOn_6, eX7_goOn_9, eX7_goOn_12, eX7_goOn_13, eX7_goOn_14, eX7_goOn_15, eX7_goOn_18, eX7_goOn_20, eX7_goOn_21, eX7_goOn_22, eX7_goOn_23, eX7_goOn_26, eX7_goOn_29, eX7_goOn_31, eX7_goOn_32, eX7_goOn_33, eX7_goOn_34, eX7_goOn_37, eX7_goOn_38, eX7_goOn_40, eX7_goOn_41, eX7_goOn_44, eX7_goOn_45, eX7_goOn_48, eX7_goOn_49, eX7_goOn_52, eX7_goOn_53, eX7_goOn_56, eX7_goOn_57, eX7_goOn_58, eX7_goOn_61, eX7_goOn_64, eX7_goOn_67, eX7_goOn_68, eX7_goOn_71, e2, e4, hlt, WpR_some, Option.toList_some, Option.toList_none, List.cons_append, List.nil_append, List.append_nil, clr_n, clr_i, clr_a, ni_add, ni_mul, ni_sub, ni_lt, ni_le, ni_eq, ni_div, nat_mod_eq, ni_rem, iMax_nn, iMin_nn, iMax_sub, Nat.zero_max, bI_0, bI_1, bI_n0, up2_s, up2_n, up2_k, va_up_self, va_up_ne, ni_l, lN_mul, lN_add, ln_mask, lN_i, ↓reduceIte, if_true, if_false, not_true_eq_false, not_false_eq_true, ite_self, Nat.add_zero, Nat.zero_add, ent_def]
        exact kk () _ ⟨m4, rfl, r4⟩
      · subst hd
        obtain ⟨m3, e3, A3, F3, F3'⟩ := r_X7_drifts (ml := ml) hG0 A2 hBk.1
        obtain ⟨m4, e4, r4⟩ := fin m3 A3 F3 (fun j hj => F3' j (by omega))
        simp (maxSteps := 1000000) (decide := true) (disch := (first | assumption | omega | exact Nat.div_mul_le_self _ _ | exact ni_nz (by omega) (by omega) | exact rfl | exact retOk_bI _ | exact retOk_0 | exact retOk_1)) only [eX7_goOn_0, eX7_goOn_1, eX7_goOn_2, eX7_goOn_3, eX7_goOn_6, eX7_goOn_9, eX7_goOn_12, eX7_goOn_13, eX7_goOn_14, eX7_goOn_15, eX7_goOn_18, eX7_goOn_20, eX7_goOn_21, eX7_goOn_22, eX7_goOn_23, eX7_goOn_26, eX7_goOn_29, eX7_goOn_31, eX7_goOn_32, eX7_goOn_33, eX7_goOn_34, eX7_goOn_37, eX7_goOn_38, eX7_goOn_40, eX7_goOn_41, eX7_goOn_44, eX7_goOn_45, eX7_goOn_48, eX7_goOn_49, eX7_goOn_52, eX7_goOn_53, eX7_goOn_56, eX7_goOn_57, eX7_goOn_58, eX7_goOn_61, eX7_goOn_64, eX7_goOn_67, eX7_goOn_68, eX7_goOn_71, e2, e3, e4, hlt, WpR_some, Option.toList_some, Option.toList_none, List.cons_append, List.nil_append, List.append_nil, clr_n, clr_i, clr_a, ni_add, ni_mul, ni_sub, ni_lt, ni_le, ni_eq, ni_div, nat_mod_eq, ni_rem, iMax_nn, iMin_nn, iMax_sub, Nat.zero_max, bI_0, bI_1, bI_n0, up2_s, up2_n, up2_k, va_up_self, va_up_ne, ni_l, lN_mul, lN_add, ln_mask, lN_i, ↓reduceIte, if_true, if_false, not_true_eq_false, not_false_eq_true, ite_self, Nat.add_zero, Nat.zero_add, ent_def]
        exact kk () _ ⟨m4, rfl, r4⟩
    · rintro - μ ⟨m1, rfl, A1, C1, F1⟩
      have c2 := C1.2
      rw [eX7_goOn_39]
      simp (maxSteps := 1000000) (decide := true) (disch := (first | assumption | omega | exact Nat.div_mul_le_self _ _ | exact ni_nz (by omega) (by omega) | exact rfl | exact retOk_bI _ | exact retOk_0 | exact retOk_1)) only [eX7_goOn_0, eX7_goOn_1, eX7_goOn_2, eX7_goOn_3, eX7_goOn_6, eX7_goOn_9, eX7_goOn_12, eX7_goOn_13, eX7_goOn_14, eX7_goOn_15, eX7_goOn_18, eX7_goOn_20, eX7_goOn_21, eX7_goOn_22, eX7_goOn_23, eX7_goOn_26, eX7_goOn_29, eX7_goOn_31, eX7_goOn_32, eX7_goOn_33, eX7_goOn_34, eX7_goOn_37, eX7_goOn_38, eX7_goOn_40, eX7_goOn_41, eX7_goOn_44, eX7_goOn_45, eX7_goOn_48, eX7_goOn_49, eX7_goOn_52, eX7_goOn_53, eX7_goOn_56, eX7_goOn_57, eX7_goOn_58, eX7_goOn_61, eX7_goOn_64, eX7_goOn_67, eX7_goOn_68, eX7_goOn_71, c2, Nat.le_refl, WpR_some, Option.toList_some, Option.toList_none, List.cons_append, List.nil_append, List.append_nil, clr_n, clr_i, clr_a, ni_add, ni_mul, ni_sub, ni_lt, ni_le, ni_eq, ni_div, nat_mod_eq, ni_rem, iMax_nn, iMin_nn, iMax_sub, Nat.zero_max, bI_0, bI_1, bI_n0, up2_s, up2_n, up2_k, va_up_self, va_up_ne, ni_l, lN_mul, lN_add, ln_mask, lN_i, ↓reduceIte, if_true, if_false, not_true_eq_false, not_false_eq_true, ite_self, Nat.add_zero, Nat.zero_add, ent_def]
      rw [← hQ]
      exact ⟨m1, rfl, rfl, A1, F1, RX_fx hX F1 ⟨_, _, C1⟩⟩
    · have hk8 : k ≤ 8 := hA.2.2.1
      rw [show min 8 (k + 0) = k by omega]
      exact RA_fr hA (fun j _ _ => by rw [up2_n (by decide)])
  obtain ⟨r, μ', e1, m', rfl, rfl, h2⟩ := res_ex key
  exact ⟨m', e1, h2⟩
theorem x_evenings {r : Int32} {μ' : Mm} (hG : GM G) (e : res mX7_goOn [.ref 158, .int v, .int (bI false)] (G, m, ml) = some (some (.int r), μ')) : res mX7_evenings [.ref 158, .int v] (G, m, ml) = some (some (.int r), μ') := by
  obtain ⟨⟨g0, g1, -⟩, -⟩ := hG
  have e' : res mX7_goOn [.ref 158, .int v, .int (nI 0)] (G, m, ml) = some (some (.int r), μ') := e
  apply res_of
  show Wp mX7_evenings 0 [some (.ref 158), some (.int v)] [] (G, m, ml) _
  simp (maxSteps := 1000000) (decide := true) (disch := (first | assumption | omega | exact Nat.div_mul_le_self _ _ | exact ni_nz (by omega) (by omega) | exact rfl | exact retOk_bI _ | exact retOk_0 | exact retOk_1)) only [eX7_evenings_0, eX7_evenings_1, eX7_evenings_2, eX7_evenings_3, eX7_evenings_6, e', WpR_some, Option.toList_some, Option.toList_none, List.cons_append, List.nil_append, List.append_nil, clr_n, clr_i, clr_a, ni_add, ni_mul, ni_sub, ni_lt, ni_le, ni_eq, ni_div, nat_mod_eq, ni_rem, iMax_nn, iMin_nn, iMax_sub, Nat.zero_max, bI_0, bI_1, bI_n0, up2_s, up2_n, up2_k, va_up_self, va_up_ne, ni_l, lN_mul, lN_add, ln_mask, lN_i, ↓reduceIte, if_true, if_false, not_true_eq_false, not_false_eq_true, ite_self, Nat.add_zero, Nat.zero_add, ent_def]
theorem x_drift {r : Int32} {μ' : Mm} (hG : GM G) (e : res mX7_goOn [.ref 158, .int v, .int (bI true)] (G, m, ml) = some (some (.int r), μ')) : res mX7_drift [.ref 158, .int v] (G, m, ml) = some (some (.int r), μ') := by
  obtain ⟨⟨g0, g1, -⟩, -⟩ := hG
  have e' : res mX7_goOn [.ref 158, .int v, .int (nI 1)] (G, m, ml) = some (some (.int r), μ') := e
  apply res_of
  show Wp mX7_drift 0 [some (.ref 158), some (.int v)] [] (G, m, ml) _
  simp (maxSteps := 1000000) (decide := true) (disch := (first | assumption | omega | exact Nat.div_mul_le_self _ _ | exact ni_nz (by omega) (by omega) | exact rfl | exact retOk_bI _ | exact retOk_0 | exact retOk_1)) only [eX7_drift_0, eX7_drift_1, eX7_drift_2, eX7_drift_3, eX7_drift_6, e', WpR_some, Option.toList_some, Option.toList_none, List.cons_append, List.nil_append, List.append_nil, clr_n, clr_i, clr_a, ni_add, ni_mul, ni_sub, ni_lt, ni_le, ni_eq, ni_div, nat_mod_eq, ni_rem, iMax_nn, iMin_nn, iMax_sub, Nat.zero_max, bI_0, bI_1, bI_n0, up2_s, up2_n, up2_k, va_up_self, va_up_ne, ni_l, lN_mul, lN_add, ln_mask, lN_i, ↓reduceIte, if_true, if_false, not_true_eq_false, not_false_eq_true, ite_self, Nat.add_zero, Nat.zero_add, ent_def]
theorem x_rest_bad (hG : GM G) (hA : RA m 0 σ k f) (hB : Bd σ) (h : (isN u (σ 45) && rg v 1 60) = false) : res mX7_rest [.ref 158, .int u, .int v] (G, m, ml) = some (some (.int (-1)), (G, m, ml)) := by
  have e := r_X7_isHearer (ml := ml) (v := u) hG (RA_at hA (j := 45) (by decide)) hB.2.1
  obtain ⟨⟨g0, g1, -⟩, -⟩ := hG
  apply res_of
  show Wp mX7_rest 0 [some (.ref 158), some (.int u), some (.int v)] [] (G, m, ml) _
  cases h1 : isN u (σ 45)
  · rw [h1] at e
    simp (maxSteps := 1000000) (decide := true) (disch := (first | assumption | omega | exact Nat.div_mul_le_self _ _ | exact ni_nz (by omega) (by omega) | exact rfl | exact retOk_bI _ | exact retOk_0 | exact retOk_1)) only [eX7_rest_0, eX7_rest_1, eX7_rest_2, eX7_rest_5, eX7_rest_8, eX7_rest_9, eX7_rest_10, eX7_rest_11, eX7_rest_14, eX7_rest_17, eX7_rest_20, eX7_rest_21, eX7_rest_22, eX7_rest_23, eX7_rest_26, eX7_rest_27, eX7_rest_28, eX7_rest_29, eX7_rest_30, eX7_rest_31, eX7_rest_34, eX7_rest_36, eX7_rest_37, eX7_rest_38, eX7_rest_39, eX7_rest_42, eX7_rest_44, eX7_rest_45, eX7_rest_46, eX7_rest_49, eX7_rest_50, eX7_rest_51, eX7_rest_52, eX7_rest_53, eX7_rest_56, eX7_rest_57, eX7_rest_60, eX7_rest_61, eX7_rest_62, eX7_rest_63, eX7_rest_64, e, WpR_some, Option.toList_some, Option.toList_none, List.cons_append, List.nil_append, List.append_nil, clr_n, clr_i, clr_a, ni_add, ni_mul, ni_sub, ni_lt, ni_le, ni_eq, ni_div, nat_mod_eq, ni_rem, iMax_nn, iMin_nn, iMax_sub, Nat.zero_max, bI_0, bI_1, bI_n0, up2_s, up2_n, up2_k, va_up_self, va_up_ne, ni_l, lN_mul, lN_add, ln_mask, lN_i, ↓reduceIte, if_true, if_false, not_true_eq_false, not_false_eq_true, ite_self, Nat.add_zero, Nat.zero_add, ent_def]
  · rw [h1] at e
    rw [h1, Bool.true_and] at h
    simp (maxSteps := 1000000) (decide := true) (disch := (first | assumption | omega | exact Nat.div_mul_le_self _ _ | exact ni_nz (by omega) (by omega) | exact rfl | exact retOk_bI _ | exact retOk_0 | exact retOk_1)) only [eX7_rest_0, eX7_rest_1, eX7_rest_2, eX7_rest_5, eX7_rest_8, eX7_rest_9, eX7_rest_10, eX7_rest_11, eX7_rest_14, eX7_rest_17, eX7_rest_20, eX7_rest_21, eX7_rest_22, eX7_rest_23, eX7_rest_26, eX7_rest_27, eX7_rest_28, eX7_rest_29, eX7_rest_30, eX7_rest_31, eX7_rest_34, eX7_rest_36, eX7_rest_37, eX7_rest_38, eX7_rest_39, eX7_rest_42, eX7_rest_44, eX7_rest_45, eX7_rest_46, eX7_rest_49, eX7_rest_50, eX7_rest_51, eX7_rest_52, eX7_rest_53, eX7_rest_56, eX7_rest_57, eX7_rest_60, eX7_rest_61, eX7_rest_62, eX7_rest_63, eX7_rest_64, e, r_in, h, WpR_some, Option.toList_some, Option.toList_none, List.cons_append, List.nil_append, List.append_nil, clr_n, clr_i, clr_a, ni_add, ni_mul, ni_sub, ni_lt, ni_le, ni_eq, ni_div, nat_mod_eq, ni_rem, iMax_nn, iMin_nn, iMax_sub, Nat.zero_max, bI_0, bI_1, bI_n0, up2_s, up2_n, up2_k, va_up_self, va_up_ne, ni_l, lN_mul, lN_add, ln_mask, lN_i, ↓reduceIte, if_true, if_false, not_true_eq_false, not_false_eq_true, ite_self, Nat.add_zero, Nat.zero_add, ent_def]
theorem x_rest (hG : GM G) (hA : RA m 0 σ k f) (hB : Bd σ) (hh : h < σ 45) (h1 : 1 ≤ n) (h2 : n ≤ 60) : ∃ m', res mX7_rest [.ref 158, .int (nI h), .int (nI n)] (G, m, ml) = some (some (.int (if σ h = σ (51 + h) then -2 else nI (min (σ (51 + h)) (σ h + n)))), (G, m', ml)) ∧ (if σ h = σ (51 + h) then RA m' 0 σ k f else RA m' 0 (upN σ h (min (σ (51 + h)) (σ h + n))) (min 8 (k + 1)) (pushF σ f)) ∧ FX 0 409 m m' ∧ (∀ b, b ≠ 159 → m' b = m b) := by
  have b2 := hB.2.1
  have y9 := hB.2.2.2.2.2.2.2.2.1 h (by omega)
  have y10 := hB.2.2.2.2.2.2.2.2.2.1 h (by omega)
  have hG0 := hG
  have e := r_X7_isHearer (ml := ml) (v := nI h) hG (RA_at hA (j := 45) (by decide)) hB.2.1
  rw [isN_t hh (by omega)] at e
  have i1 := fun μ => r_inT (x := n) (lo := 1) (hi := 60) (μ := μ) h1 h2 (by decide)
  obtain ⟨⟨g0, g1, -⟩, ⟨a0, -⟩, ⟨l0, -⟩⟩ := hG
  have x3 := RA_at hA (j := 51 + h) (by omega)
  have x4 := RA_at hA (j := h) (by omega)
  by_cases hc : σ h = σ (51 + h)
  · refine ⟨m, ?_, by rw [if_pos hc]; exact hA, FX.rf, fun _ _ => rfl⟩
    rw [if_pos hc]
    apply res_of
    show Wp mX7_rest 0 [some (.ref 158), some (.int (nI h)), some (.int (nI n))] [] (G, m, ml) _
    rw [hc] at x4
    simp (maxSteps := 1000000) (decide := true) (disch := (first | assumption | omega | exact Nat.div_mul_le_self _ _ | exact ni_nz (by omega) (by omega) | exact rfl | exact retOk_bI _ | exact retOk_0 | exact retOk_1)) only [eX7_rest_0, eX7_rest_1, eX7_rest_2, eX7_rest_5, eX7_rest_8, eX7_rest_9, eX7_rest_10, eX7_rest_11, eX7_rest_14, eX7_rest_17, eX7_rest_20, eX7_rest_21, eX7_rest_22, eX7_rest_23, eX7_rest_26, eX7_rest_27, eX7_rest_28, eX7_rest_29, eX7_rest_30, eX7_rest_31, eX7_rest_34, eX7_rest_36, eX7_rest_37, eX7_rest_38, eX7_rest_39, eX7_rest_42, eX7_rest_44, eX7_rest_45, eX7_rest_46, eX7_rest_49, eX7_rest_50, eX7_rest_51, eX7_rest_52, eX7_rest_53, eX7_rest_56, eX7_rest_57, eX7_rest_60, eX7_rest_61, eX7_rest_62, eX7_rest_63, eX7_rest_64, e, i1, g1, x3, x4, WpR_some, Option.toList_some, Option.toList_none, List.cons_append, List.nil_append, List.append_nil, clr_n, clr_i, clr_a, ni_add, ni_mul, ni_sub, ni_lt, ni_le, ni_eq, ni_div, nat_mod_eq, ni_rem, iMax_nn, iMin_nn, iMax_sub, Nat.zero_max, bI_0, bI_1, bI_n0, up2_s, up2_n, up2_k, va_up_self, va_up_ne, ni_l, lN_mul, lN_add, ln_mask, lN_i, ↓reduceIte, if_true, if_false, not_true_eq_false, not_false_eq_true, ite_self, Nat.add_zero, Nat.zero_add, ent_def]
  · obtain ⟨m2, e2, A2, F2, F2'⟩ := r_X7_keepPast (ml := ml) hG0 hA
    have e3 := r_X7_rests (ml := ml) (q := 0) (h := h) (n := n) hG0 A2.1 hB (by omega) (by omega) (by omega)
    rw [Nat.zero_add] at e3
    refine ⟨up2 m2 159 h (nI (min (σ (51 + h)) (σ h + n))), ?_, ?_, (FX.k (k := 0) F2 (fun j hj => F2' j (by omega))).up (by omega) (by omega), fun b hb => by rw [up2_n hb]; exact F2 b hb⟩
    · rw [if_neg hc]
      apply res_of
      show Wp mX7_rest 0 [some (.ref 158), some (.int (nI h)), some (.int (nI n))] [] (G, m, ml) _
      simp (maxSteps := 1000000) (decide := true) (disch := (first | assumption | omega | exact Nat.div_mul_le_self _ _ | exact ni_nz (by omega) (by omega) | exact rfl | exact retOk_bI _ | exact retOk_0 | exact retOk_1)) only [eX7_rest_0, eX7_rest_1, eX7_rest_2, eX7_rest_5, eX7_rest_8, eX7_rest_9, eX7_rest_10, eX7_rest_11, eX7_rest_14, eX7_rest_17, eX7_rest_20, eX7_rest_21, eX7_rest_22, eX7_rest_23, eX7_rest_26, eX7_rest_27, eX7_rest_28, eX7_rest_29, eX7_rest_30, eX7_rest_31, eX7_rest_34, eX7_rest_36, eX7_rest_37, eX7_rest_38, eX7_rest_39, eX7_rest_42, eX7_rest_44, eX7_rest_45, eX7_rest_46, eX7_rest_49, eX7_rest_50, eX7_rest_51, eX7_rest_52, eX7_rest_53, eX7_rest_56, eX7_rest_57, eX7_rest_60, eX7_rest_61, eX7_rest_62, eX7_rest_63, eX7_rest_64, e, i1, g1, x3, x4, hc, e2, e3, WpR_some, Option.toList_some, Option.toList_none, List.cons_append, List.nil_append, List.append_nil, clr_n, clr_i, clr_a, ni_add, ni_mul, ni_sub, ni_lt, ni_le, ni_eq, ni_div, nat_mod_eq, ni_rem, iMax_nn, iMin_nn, iMax_sub, Nat.zero_max, bI_0, bI_1, bI_n0, up2_s, up2_n, up2_k, va_up_self, va_up_ne, ni_l, lN_mul, lN_add, ln_mask, lN_i, ↓reduceIte, if_true, if_false, not_true_eq_false, not_false_eq_true, ite_self, Nat.add_zero, Nat.zero_add, ent_def]
    · rw [if_neg hc]; exact RA_up A2 (by omega)
theorem x_spin_bad (hG : GM G) (hA : RA m 0 σ k f) (hB : Bd σ) (h : (isN u (σ 44) && rg v 1 20) = false) : res mX7_spin [.ref 158, .int u, .int v] (G, m, ml) = some (some (.int (-1)), (G, m, ml)) := by
  have e := r_X7_isTeller (ml := ml) (v := u) hG (RA_at hA (j := 44) (by decide)) hB.1
  obtain ⟨⟨g0, g1, -⟩, -⟩ := hG
  apply res_of
  show Wp mX7_spin 0 [some (.ref 158), some (.int u), some (.int v)] [] (G, m, ml) _
  cases h1 : isN u (σ 44)
  · rw [h1] at e
    simp (maxSteps := 1000000) (decide := true) (disch := (first | assumption | omega | exact Nat.div_mul_le_self _ _ | exact ni_nz (by omega) (by omega) | exact rfl | exact retOk_bI _ | exact retOk_0 | exact retOk_1)) only [eX7_spin_0, eX7_spin_1, eX7_spin_2, eX7_spin_5, eX7_spin_8, eX7_spin_9, eX7_spin_10, eX7_spin_11, eX7_spin_14, eX7_spin_17, eX7_spin_20, eX7_spin_21, eX7_spin_22, eX7_spin_23, eX7_spin_26, eX7_spin_27, eX7_spin_28, eX7_spin_29, eX7_spin_30, eX7_spin_32, eX7_spin_35, eX7_spin_37, eX7_spin_38, eX7_spin_39, eX7_spin_42, eX7_spin_43, eX7_spin_46, eX7_spin_47, eX7_spin_48, eX7_spin_49, eX7_spin_50, eX7_spin_53, eX7_spin_54, eX7_spin_55, eX7_spin_56, eX7_spin_57, eX7_spin_58, eX7_spin_59, eX7_spin_61, eX7_spin_64, eX7_spin_66, eX7_spin_69, eX7_spin_70, eX7_spin_73, eX7_spin_74, eX7_spin_75, eX7_spin_76, eX7_spin_77, eX7_spin_78, eX7_spin_79, eX7_spin_80, eX7_spin_81, eX7_spin_84, eX7_spin_85, eX7_spin_86, eX7_spin_87, eX7_spin_88, e, WpR_some, Option.toList_some, Option.toList_none, List.cons_append, List.nil_append, List.append_nil, clr_n, clr_i, clr_a, ni_add, ni_mul, ni_sub, ni_lt, ni_le, ni_eq, ni_div, nat_mod_eq, ni_rem, iMax_nn, iMin_nn, iMax_sub, Nat.zero_max, bI_0, bI_1, bI_n0, up2_s, up2_n, up2_k, va_up_self, va_up_ne, ni_l, lN_mul, lN_add, ln_mask, lN_i, ↓reduceIte, if_true, if_false, not_true_eq_false, not_false_eq_true, ite_self, Nat.add_zero, Nat.zero_add, ent_def]
  · rw [h1] at e
    rw [h1, Bool.true_and] at h
    simp (maxSteps := 1000000) (decide := true) (disch := (first | assumption | omega | exact Nat.div_mul_le_self _ _ | exact ni_nz (by omega) (by omega) | exact rfl | exact retOk_bI _ | exact retOk_0 | exact retOk_1)) only [eX7_spin_0, eX7_spin_1, eX7_spin_2, eX7_spin_5, eX7_spin_8, eX7_spin_9, eX7_spin_10, eX7_spin_11, eX7_spin_14, eX7_spin_17, eX7_spin_20, eX7_spin_21, eX7_spin_22, eX7_spin_23, eX7_spin_26, eX7_spin_27, eX7_spin_28, eX7_spin_29, eX7_spin_30, eX7_spin_32, eX7_spin_35, eX7_spin_37, eX7_spin_38, eX7_spin_39, eX7_spin_42, eX7_spin_43, eX7_spin_46, eX7_spin_47, eX7_spin_48, eX7_spin_49, eX7_spin_50, eX7_spin_53, eX7_spin_54, eX7_spin_55, eX7_spin_56, eX7_spin_57, eX7_spin_58, eX7_spin_59, eX7_spin_61, eX7_spin_64, eX7_spin_66, eX7_spin_69, eX7_spin_70, eX7_spin_73, eX7_spin_74, eX7_spin_75, eX7_spin_76, eX7_spin_77, eX7_spin_78, eX7_spin_79, eX7_spin_80, eX7_spin_81, eX7_spin_84, eX7_spin_85, eX7_spin_86, eX7_spin_87, eX7_spin_88, e, r_in, h, WpR_some, Option.toList_some, Option.toList_none, List.cons_append, List.nil_append, List.append_nil, clr_n, clr_i, clr_a, ni_add, ni_mul, ni_sub, ni_lt, ni_le, ni_eq, ni_div, nat_mod_eq, ni_rem, iMax_nn, iMin_nn, iMax_sub, Nat.zero_max, bI_0, bI_1, bI_n0, up2_s, up2_n, up2_k, va_up_self, va_up_ne, ni_l, lN_mul, lN_add, ln_mask, lN_i, ↓reduceIte, if_true, if_false, not_true_eq_false, not_false_eq_true, ite_self, Nat.add_zero, Nat.zero_add, ent_def]
theorem x_spin (hG : GM G) (hA : RA m 0 σ k f) (hB : Bd σ) (ht : t < σ 44) (h1 : 1 ≤ n) (h2 : n ≤ 20) : ∃ m', res mX7_spin [.ref 158, .int (nI t), .int (nI n)] (G, m, ml) = some (some (.int (if σ (5 + t) = 20 then -2 else nI (min 20 (σ (5 + t) + n)))), (G, m', ml)) ∧ (if σ (5 + t) = 20 then RA m' 0 σ k f else RA m' 0 (upN σ (5 + t) (min 20 (σ (5 + t) + n))) (min 8 (k + 1)) (pushF σ f)) ∧ FX 0 409 m m' ∧ (∀ b, b ≠ 159 → m' b = m b) := by
  have b1 := hB.1
  have y8 := hB.2.2.2.2.2.2.2.1 t (by omega)
  have hG0 := hG
  have e := r_X7_isTeller (ml := ml) (v := nI t) hG (RA_at hA (j := 44) (by decide)) hB.1
  rw [isN_t ht (by omega)] at e
  have i1 := fun μ => r_inT (x := n) (lo := 1) (hi := 20) (μ := μ) h1 h2 (by decide)
  obtain ⟨⟨g0, g1, -⟩, ⟨a0, -⟩, ⟨l0, -⟩⟩ := hG
  have x2 := RA_at hA (j := 5 + t) (by omega)
  by_cases hc : σ (5 + t) = 20
  · refine ⟨m, ?_, by rw [if_pos hc]; exact hA, FX.rf, fun _ _ => rfl⟩
    rw [if_pos hc]
    rw [hc] at x2
    apply res_of
    show Wp mX7_spin 0 [some (.ref 158), some (.int (nI t)), some (.int (nI n))] [] (G, m, ml) _
    simp (maxSteps := 1000000) (decide := true) (disch := (first | assumption | omega | exact Nat.div_mul_le_self _ _ | exact ni_nz (by omega) (by omega) | exact rfl | exact retOk_bI _ | exact retOk_0 | exact retOk_1)) only [eX7_spin_0, eX7_spin_1, eX7_spin_2, eX7_spin_5, eX7_spin_8, eX7_spin_9, eX7_spin_10, eX7_spin_11, eX7_spin_14, eX7_spin_17, eX7_spin_20, eX7_spin_21, eX7_spin_22, eX7_spin_23, eX7_spin_26, eX7_spin_27, eX7_spin_28, eX7_spin_29, eX7_spin_30, eX7_spin_32, eX7_spin_35, eX7_spin_37, eX7_spin_38, eX7_spin_39, eX7_spin_42, eX7_spin_43, eX7_spin_46, eX7_spin_47, eX7_spin_48, eX7_spin_49, eX7_spin_50, eX7_spin_53, eX7_spin_54, eX7_spin_55, eX7_spin_56, eX7_spin_57, eX7_spin_58, eX7_spin_59, eX7_spin_61, eX7_spin_64, eX7_spin_66, eX7_spin_69, eX7_spin_70, eX7_spin_73, eX7_spin_74, eX7_spin_75, eX7_spin_76, eX7_spin_77, eX7_spin_78, eX7_spin_79, eX7_spin_80, eX7_spin_81, eX7_spin_84, eX7_spin_85, eX7_spin_86, eX7_spin_87, eX7_spin_88, e, i1, g1, x2, WpR_some, Option.toList_some, Option.toList_none, List.cons_append, List.nil_append, List.append_nil, clr_n, clr_i, clr_a, ni_add, ni_mul, ni_sub, ni_lt, ni_le, ni_eq, ni_div, nat_mod_eq, ni_rem, iMax_nn, iMin_nn, iMax_sub, Nat.zero_max, bI_0, bI_1, bI_n0, up2_s, up2_n, up2_k, va_up_self, va_up_ne, ni_l, lN_mul, lN_add, ln_mask, lN_i, ↓reduceIte, if_true, if_false, not_true_eq_false, not_false_eq_true, ite_self, Nat.add_zero, Nat.zero_add, ent_def]
  · obtain ⟨m2, e2, A2, F2, F2'⟩ := r_X7_keepPast (ml := ml) hG0 hA
    have x2' := RA_at A2 (j := 5 + t) (by omega)
    refine ⟨up2 m2 159 (5 + t) (nI (min 20 (σ (5 + t) + n))), ?_, ?_, (FX.k (k := 0) F2 (fun j hj => F2' j (by omega))).up (by omega) (by omega), fun b hb => by rw [up2_n hb]; exact F2 b hb⟩
    · rw [if_neg hc]
      apply res_of
      show Wp mX7_spin 0 [some (.ref 158), some (.int (nI t)), some (.int (nI n))] [] (G, m, ml) _
      by_cases h20 : σ (5 + t) + n ≤ 20
      · rw [Nat.min_eq_right h20]
        simp (maxSteps := 1000000) (decide := true) (disch := (first | assumption | omega | exact Nat.div_mul_le_self _ _ | exact ni_nz (by omega) (by omega) | exact rfl | exact retOk_bI _ | exact retOk_0 | exact retOk_1)) only [eX7_spin_0, eX7_spin_1, eX7_spin_2, eX7_spin_5, eX7_spin_8, eX7_spin_9, eX7_spin_10, eX7_spin_11, eX7_spin_14, eX7_spin_17, eX7_spin_20, eX7_spin_21, eX7_spin_22, eX7_spin_23, eX7_spin_26, eX7_spin_27, eX7_spin_28, eX7_spin_29, eX7_spin_30, eX7_spin_32, eX7_spin_35, eX7_spin_37, eX7_spin_38, eX7_spin_39, eX7_spin_42, eX7_spin_43, eX7_spin_46, eX7_spin_47, eX7_spin_48, eX7_spin_49, eX7_spin_50, eX7_spin_53, eX7_spin_54, eX7_spin_55, eX7_spin_56, eX7_spin_57, eX7_spin_58, eX7_spin_59, eX7_spin_61, eX7_spin_64, eX7_spin_66, eX7_spin_69, eX7_spin_70, eX7_spin_73, eX7_spin_74, eX7_spin_75, eX7_spin_76, eX7_spin_77, eX7_spin_78, eX7_spin_79, eX7_spin_80, eX7_spin_81, eX7_spin_84, eX7_spin_85, eX7_spin_86, eX7_spin_87, eX7_spin_88, e, i1, g1, x2, hc, e2, x2', h20, WpR_some, Option.toList_some, Option.toList_none, List.cons_append, List.nil_append, List.append_nil, clr_n, clr_i, clr_a, ni_add, ni_mul, ni_sub, ni_lt, ni_le, ni_eq, ni_div, nat_mod_eq, ni_rem, iMax_nn, iMin_nn, iMax_sub, Nat.zero_max, bI_0, bI_1, bI_n0, up2_s, up2_n, up2_k, va_up_self, va_up_ne, ni_l, lN_mul, lN_add, ln_mask, lN_i, ↓reduceIte, if_true, if_false, not_true_eq_false, not_false_eq_true, ite_self, Nat.add_zero, Nat.zero_add, ent_def]
      · rw [Nat.min_eq_left (by omega)]
        simp (maxSteps := 1000000) (decide := true) (disch := (first | assumption | omega | exact Nat.div_mul_le_self _ _ | exact ni_nz (by omega) (by omega) | exact rfl | exact retOk_bI _ | exact retOk_0 | exact retOk_1)) only [eX7_spin_0, eX7_spin_1, eX7_spin_2, eX7_spin_5, eX7_spin_8, eX7_spin_9, eX7_spin_10, eX7_spin_11, eX7_spin_14, eX7_spin_17, eX7_spin_20, eX7_spin_21, eX7_spin_22, eX7_spin_23, eX7_spin_26, eX7_spin_27, eX7_spin_28, eX7_spin_29, eX7_spin_30, eX7_spin_32, eX7_spin_35, eX7_spin_37, eX7_spin_38, eX7_spin_39, eX7_spin_42, eX7_spin_43, eX7_spin_46, eX7_spin_47, eX7_spin_48, eX7_spin_49, eX7_spin_50, eX7_spin_53, eX7_spin_54, eX7_spin_55, eX7_spin_56, eX7_spin_57, eX7_spin_58, eX7_spin_59, eX7_spin_61, eX7_spin_64, eX7_spin_66, eX7_spin_69, eX7_spin_70, eX7_spin_73, eX7_spin_74, eX7_spin_75, eX7_spin_76, eX7_spin_77, eX7_spin_78, eX7_spin_79, eX7_spin_80, eX7_spin_81, eX7_spin_84, eX7_spin_85, eX7_spin_86, eX7_spin_87, eX7_spin_88, e, i1, g1, x2, hc, e2, x2', h20, WpR_some, Option.toList_some, Option.toList_none, List.cons_append, List.nil_append, List.append_nil, clr_n, clr_i, clr_a, ni_add, ni_mul, ni_sub, ni_lt, ni_le, ni_eq, ni_div, nat_mod_eq, ni_rem, iMax_nn, iMin_nn, iMax_sub, Nat.zero_max, bI_0, bI_1, bI_n0, up2_s, up2_n, up2_k, va_up_self, va_up_ne, ni_l, lN_mul, lN_add, ln_mask, lN_i, ↓reduceIte, if_true, if_false, not_true_eq_false, not_false_eq_true, ite_self, Nat.add_zero, Nat.zero_add, ent_def]
    · rw [if_neg hc]; exact RA_up A2 (by omega)
theorem r_X7_become {p : Nat} (hG : GM G) (hA : RA m 0 σ k f) (hp : p = 40 ∨ p = 41) (hv : n < 1000) (hs : σ p < 1000) : ∃ m', res mX7_become [.ref 158, .int (nI p), .int (nI n)] (G, m, ml) = some (some (.int (if n = σ p then -2 else nI (σ p))), (G, m', ml)) ∧ (if n = σ p then RA m' 0 σ k f else RA m' 0 (upN σ p n) (min 8 (k + 1)) (pushF σ f)) ∧ FX 0 409 m m' ∧ (∀ b, b ≠ 159 → m' b = m b) := by
  have hG0 := hG
  obtain ⟨⟨g0, g1, -⟩, ⟨a0, -⟩, ⟨l0, -⟩⟩ := hG
  have x2 := RA_at hA (j := p) (by omega)
  by_cases hc : n = σ p
  · refine ⟨m, ?_, by rw [if_pos hc]; exact hA, FX.rf, fun _ _ => rfl⟩
    rw [if_pos hc]
    have hc' : σ p = n := hc.symm
    rw [hc'] at x2
    apply res_of
    show Wp mX7_become 0 [some (.ref 158), some (.int (nI p)), some (.int (nI n)), none] [] (G, m, ml) _
    simp (maxSteps := 1000000) (decide := true) (disch := (first | assumption | omega | exact Nat.div_mul_le_self _ _ | exact ni_nz (by omega) (by omega) | exact rfl | exact retOk_bI _ | exact retOk_0 | exact retOk_1)) only [eX7_become_0, eX7_become_1, eX7_become_4, eX7_become_5, eX7_become_6, eX7_become_7, eX7_become_8, eX7_become_9, eX7_become_12, eX7_become_14, eX7_become_15, eX7_become_16, eX7_become_19, eX7_become_20, eX7_become_23, eX7_become_24, eX7_become_25, eX7_become_26, eX7_become_27, g1, x2, WpR_some, Option.toList_some, Option.toList_none, List.cons_append, List.nil_append, List.append_nil, clr_n, clr_i, clr_a, ni_add, ni_mul, ni_sub, ni_lt, ni_le, ni_eq, ni_div, nat_mod_eq, ni_rem, iMax_nn, iMin_nn, iMax_sub, Nat.zero_max, bI_0, bI_1, bI_n0, up2_s, up2_n, up2_k, va_up_self, va_up_ne, ni_l, lN_mul, lN_add, ln_mask, lN_i, ↓reduceIte, if_true, if_false, not_true_eq_false, not_false_eq_true, ite_self, Nat.add_zero, Nat.zero_add, ent_def]
  · obtain ⟨m2, e2, A2, F2, F2'⟩ := r_X7_keepPast (ml := ml) hG0 hA
    have hc' : ¬ σ p = n := fun q => hc q.symm
    refine ⟨up2 m2 159 p (nI n), ?_, ?_, (FX.k (k := 0) F2 (fun j hj => F2' j (by omega))).up (by omega) (by omega), fun b hb => by rw [up2_n hb]; exact F2 b hb⟩
    · rw [if_neg hc]
      apply res_of
      show Wp mX7_become 0 [some (.ref 158), some (.int (nI p)), some (.int (nI n)), none] [] (G, m, ml) _
      simp (maxSteps := 1000000) (decide := true) (disch := (first | assumption | omega | exact Nat.div_mul_le_self _ _ | exact ni_nz (by omega) (by omega) | exact rfl | exact retOk_bI _ | exact retOk_0 | exact retOk_1)) only [eX7_become_0, eX7_become_1, eX7_become_4, eX7_become_5, eX7_become_6, eX7_become_7, eX7_become_8, eX7_become_9, eX7_become_12, eX7_become_14, eX7_become_15, eX7_become_16, eX7_become_19, eX7_become_20, eX7_become_23, eX7_become_24, eX7_become_25, eX7_become_26, eX7_become_27, g1, x2, hc', e2, WpR_some, Option.toList_some, Option.toList_none, List.cons_append, List.nil_append, List.append_nil, clr_n, clr_i, clr_a, ni_add, ni_mul, ni_sub, ni_lt, ni_le, ni_eq, ni_div, nat_mod_eq, ni_rem, iMax_nn, iMin_nn, iMax_sub, Nat.zero_max, bI_0, bI_1, bI_n0, up2_s, up2_n, up2_k, va_up_self, va_up_ne, ni_l, lN_mul, lN_add, ln_mask, lN_i, ↓reduceIte, if_true, if_false, not_true_eq_false, not_false_eq_true, ite_self, Nat.add_zero, Nat.zero_add, ent_def]
    · rw [if_neg hc]; exact RA_up A2 (by omega)
theorem x_step_bad (hG : GM G) (h : rg v 0 4 = false) : res mX7_step [.ref 158, .int v] (G, m, ml) = some (some (.int (-1)), (G, m, ml)) := by
  obtain ⟨⟨g0, g1, -⟩, -⟩ := hG
  apply res_of
  show Wp mX7_step 0 [some (.ref 158), some (.int v)] [] (G, m, ml) _
  simp (maxSteps := 1000000) (decide := true) (disch := (first | assumption | omega | exact Nat.div_mul_le_self _ _ | exact ni_nz (by omega) (by omega) | exact rfl | exact retOk_bI _ | exact retOk_0 | exact retOk_1)) only [eX7_step_0, eX7_step_1, eX7_step_2, eX7_step_3, eX7_step_6, eX7_step_9, eX7_step_12, eX7_step_13, eX7_step_15, eX7_step_16, eX7_step_19, eX7_step_22, eX7_step_23, r_in, h, WpR_some, Option.toList_some, Option.toList_none, List.cons_append, List.nil_append, List.append_nil, clr_n, clr_i, clr_a, ni_add, ni_mul, ni_sub, ni_lt, ni_le, ni_eq, ni_div, nat_mod_eq, ni_rem, iMax_nn, iMin_nn, iMax_sub, Nat.zero_max, bI_0, bI_1, bI_n0, up2_s, up2_n, up2_k, va_up_self, va_up_ne, ni_l, lN_mul, lN_add, ln_mask, lN_i, ↓reduceIte, if_true, if_false, not_true_eq_false, not_false_eq_true, ite_self, Nat.add_zero, Nat.zero_add, ent_def]
theorem x_step (hG : GM G) (hA : RA m 0 σ k f) (hB : Bd σ) (h2 : n ≤ 4) : ∃ m', res mX7_step [.ref 158, .int (nI n)] (G, m, ml) = some (some (.int (if n = σ 41 then -2 else nI (σ 41))), (G, m', ml)) ∧ (if n = σ 41 then RA m' 0 σ k f else RA m' 0 (upN σ 41 n) (min 8 (k + 1)) (pushF σ f)) ∧ FX 0 409 m m' ∧ (∀ b, b ≠ 159 → m' b = m b) := by
  have b3 := hB.2.2.1
  obtain ⟨m', e, h⟩ := r_X7_become (ml := ml) (p := 41) (n := n) hG hA (Or.inr rfl) (by omega) (by omega)
  refine ⟨m', ?_, h⟩
  have i1 := fun μ => r_inT (x := n) (lo := 0) (hi := 4) (μ := μ) (by omega) h2 (by decide)
  obtain ⟨⟨g0, g1, -⟩, -⟩ := hG
  apply res_of
  show Wp mX7_step 0 [some (.ref 158), some (.int (nI n))] [] (G, m, ml) _
  simp (maxSteps := 1000000) (decide := true) (disch := (first | assumption | omega | exact Nat.div_mul_le_self _ _ | exact ni_nz (by omega) (by omega) | exact rfl | exact retOk_bI _ | exact retOk_0 | exact retOk_1)) only [eX7_step_0, eX7_step_1, eX7_step_2, eX7_step_3, eX7_step_6, eX7_step_9, eX7_step_12, eX7_step_13, eX7_step_15, eX7_step_16, eX7_step_19, eX7_step_22, eX7_step_23, i1, e, WpR_some, Option.toList_some, Option.toList_none, List.cons_append, List.nil_append, List.append_nil, clr_n, clr_i, clr_a, ni_add, ni_mul, ni_sub, ni_lt, ni_le, ni_eq, ni_div, nat_mod_eq, ni_rem, iMax_nn, iMin_nn, iMax_sub, Nat.zero_max, bI_0, bI_1, bI_n0, up2_s, up2_n, up2_k, va_up_self, va_up_ne, ni_l, lN_mul, lN_add, ln_mask, lN_i, ↓reduceIte, if_true, if_false, not_true_eq_false, not_false_eq_true, ite_self, Nat.add_zero, Nat.zero_add, ent_def]
theorem x_turn_bad (hG : GM G) (hA : RA m 0 σ k f) (hB : Bd σ) (h : isN v (seats σ) = false) : res mX7_turn [.ref 158, .int v] (G, m, ml) = some (some (.int (-1)), (G, m, ml)) := by
  have hs5 := seats_le hB
  have es := r_X7_seats (ml := ml) hG (RA_at hA (j := 44) (by decide)) (RA_at hA (j := 45) (by decide)) hB.1 hB.2.1
  have e0 := le_l (v := v) (k := 0) (by decide)
  have e2 := lt_l1 (v := v) (k := seats σ) (by omega)
  have h' : (decide (nI 0 ≤ v) && decide (v < nI (seats σ))) = false := h
  obtain ⟨⟨g0, g1, -⟩, -⟩ := hG
  apply res_of
  show Wp mX7_turn 0 [some (.ref 158), some (.int v)] [] (G, m, ml) _
  by_cases hz : 1 ≤ seats σ
  · have e2' : (v.toInt64 ≤ lN (seats σ - 1)) = (v < nI (seats σ)) := by rw [← e2, ni_sub hz, ni_l (by omega)]
    simp (maxSteps := 1000000) (decide := true) (disch := (first | assumption | omega | exact Nat.div_mul_le_self _ _ | exact ni_nz (by omega) (by omega) | exact rfl | exact retOk_bI _ | exact retOk_0 | exact retOk_1)) only [eX7_turn_0, eX7_turn_1, eX7_turn_2, eX7_turn_3, eX7_turn_4, eX7_turn_7, eX7_turn_8, eX7_turn_9, eX7_turn_10, eX7_turn_13, eX7_turn_16, eX7_turn_17, eX7_turn_19, eX7_turn_20, eX7_turn_23, eX7_turn_26, eX7_turn_27, es, r_X7_in, e0, e2', h', WpR_some, Option.toList_some, Option.toList_none, List.cons_append, List.nil_append, List.append_nil, clr_n, clr_i, clr_a, ni_add, ni_mul, ni_sub, ni_lt, ni_le, ni_eq, ni_div, nat_mod_eq, ni_rem, iMax_nn, iMin_nn, iMax_sub, Nat.zero_max, bI_0, bI_1, bI_n0, up2_s, up2_n, up2_k, va_up_self, va_up_ne, ni_l, lN_mul, lN_add, ln_mask, lN_i, ↓reduceIte, if_true, if_false, not_true_eq_false, not_false_eq_true, ite_self, Nat.add_zero, Nat.zero_add, ent_def]
  · simp (maxSteps := 1000000) (decide := true) (disch := (first | assumption | omega | exact Nat.div_mul_le_self _ _ | exact ni_nz (by omega) (by omega) | exact rfl | exact retOk_bI _ | exact retOk_0 | exact retOk_1)) only [eX7_turn_0, eX7_turn_1, eX7_turn_2, eX7_turn_3, eX7_turn_4, eX7_turn_7, eX7_turn_8, eX7_turn_9, eX7_turn_10, eX7_turn_13, eX7_turn_16, eX7_turn_17, eX7_turn_19, eX7_turn_20, eX7_turn_23, eX7_turn_26, eX7_turn_27, es, r_X7_in, e0, e2, h', WpR_some, Option.toList_some, Option.toList_none, List.cons_append, List.nil_append, List.append_nil, clr_n, clr_i, clr_a, ni_add, ni_mul, ni_sub, ni_lt, ni_le, ni_eq, ni_div, nat_mod_eq, ni_rem, iMax_nn, iMin_nn, iMax_sub, Nat.zero_max, bI_0, bI_1, bI_n0, up2_s, up2_n, up2_k, va_up_self, va_up_ne, ni_l, lN_mul, lN_add, ln_mask, lN_i, ↓reduceIte, if_true, if_false, not_true_eq_false, not_false_eq_true, ite_self, Nat.add_zero, Nat.zero_add, ent_def]
theorem x_turn (hG : GM G) (hA : RA m 0 σ k f) (hB : Bd σ) (h2 : n < seats σ) : ∃ m', res mX7_turn [.ref 158, .int (nI n)] (G, m, ml) = some (some (.int (if n = σ 40 then -2 else nI (σ 40))), (G, m', ml)) ∧ (if n = σ 40 then RA m' 0 σ k f else RA m' 0 (upN σ 40 n) (min 8 (k + 1)) (pushF σ f)) ∧ FX 0 409 m m' ∧ (∀ b, b ≠ 159 → m' b = m b) := by
  have hs5 := seats_le hB
  have b4 := hB.2.2.2.1
  have es := r_X7_seats (ml := ml) hG (RA_at hA (j := 44) (by decide)) (RA_at hA (j := 45) (by decide)) hB.1 hB.2.1
  obtain ⟨m', e, h⟩ := r_X7_become (ml := ml) (p := 40) (n := n) hG hA (Or.inl rfl) (by omega) (by omega)
  refine ⟨m', ?_, h⟩
  have i1 := fun μ => r_inT (x := n) (lo := 0) (hi := seats σ - 1) (μ := μ) (by omega) (by omega) (by omega)
  obtain ⟨⟨g0, g1, -⟩, -⟩ := hG
  apply res_of
  show Wp mX7_turn 0 [some (.ref 158), some (.int (nI n))] [] (G, m, ml) _
  have hz : 1 ≤ seats σ := by omega
  simp (maxSteps := 1000000) (decide := true) (disch := (first | assumption | omega | exact Nat.div_mul_le_self _ _ | exact ni_nz (by omega) (by omega) | exact rfl | exact retOk_bI _ | exact retOk_0 | exact retOk_1)) only [eX7_turn_0, eX7_turn_1, eX7_turn_2, eX7_turn_3, eX7_turn_4, eX7_turn_7, eX7_turn_8, eX7_turn_9, eX7_turn_10, eX7_turn_13, eX7_turn_16, eX7_turn_17, eX7_turn_19, eX7_turn_20, eX7_turn_23, eX7_turn_26, eX7_turn_27, i1, es, e, WpR_some, Option.toList_some, Option.toList_none, List.cons_append, List.nil_append, List.append_nil, clr_n, clr_i, clr_a, ni_add, ni_mul, ni_sub, ni_lt, ni_le, ni_eq, ni_div, nat_mod_eq, ni_rem, iMax_nn, iMin_nn, iMax_sub, Nat.zero_max, bI_0, bI_1, bI_n0, up2_s, up2_n, up2_k, va_up_self, va_up_ne, ni_l, lN_mul, lN_add, ln_mask, lN_i, ↓reduceIte, if_true, if_false, not_true_eq_false, not_false_eq_true, ite_self, Nat.add_zero, Nat.zero_add, ent_def]
theorem x_undo0 (hG : GM G) (hA : RA m 0 σ 0 f) : res mX7_undo [.ref 158] (G, m, ml) = some (some (.int (-4)), (G, m, ml)) := by
  obtain ⟨⟨g0, g1, -⟩, ⟨a0, -⟩, ⟨l0, -⟩⟩ := hG
  have v8 := RA_56 hA
  apply res_of
  show Wp mX7_undo 0 [some (.ref 158), none] [] (G, m, ml) _
  simp (maxSteps := 1000000) (decide := true) (disch := (first | assumption | omega | exact Nat.div_mul_le_self _ _ | exact ni_nz (by omega) (by omega) | exact rfl | exact retOk_bI _ | exact retOk_0 | exact retOk_1)) only [eX7_undo_0, eX7_undo_1, eX7_undo_4, eX7_undo_6, eX7_undo_7, eX7_undo_10, eX7_undo_12, eX7_undo_13, eX7_undo_14, eX7_undo_17, eX7_undo_19, eX7_undo_20, eX7_undo_21, eX7_undo_22, eX7_undo_23, eX7_undo_24, eX7_undo_25, eX7_undo_27, eX7_undo_29, eX7_undo_32, eX7_undo_33, eX7_undo_36, eX7_undo_37, eX7_undo_38, eX7_undo_41, eX7_undo_43, eX7_undo_45, eX7_undo_46, eX7_undo_49, eX7_undo_51, eX7_undo_52, eX7_undo_53, eX7_undo_54, eX7_undo_55, eX7_undo_56, eX7_undo_57, eX7_undo_58, eX7_undo_61, eX7_undo_64, eX7_undo_65, eX7_undo_68, eX7_undo_70, eX7_undo_71, g1, v8, WpR_some, Option.toList_some, Option.toList_none, List.cons_append, List.nil_append, List.append_nil, clr_n, clr_i, clr_a, ni_add, ni_mul, ni_sub, ni_lt, ni_le, ni_eq, ni_div, nat_mod_eq, ni_rem, iMax_nn, iMin_nn, iMax_sub, Nat.zero_max, bI_0, bI_1, bI_n0, up2_s, up2_n, up2_k, va_up_self, va_up_ne, ni_l, lN_mul, lN_add, ln_mask, lN_i, ↓reduceIte, if_true, if_false, not_true_eq_false, not_false_eq_true, ite_self, Nat.add_zero, Nat.zero_add, ent_def]
theorem x_undo (hG : GM G) (hA : RA m 0 σ (k + 1) f) (hf : ∀ j, 44 ≤ j → j < 56 → f 0 j = σ j) : ∃ m', res mX7_undo [.ref 158] (G, m, ml) = some (some (.int (nI k)), (G, m', ml)) ∧ RA m' 0 (f 0) k (fun i => f (i + 1)) ∧ FX 0 409 m m' ∧ (∀ b, b ≠ 159 → m' b = m b) := by
  obtain ⟨⟨g0, g1, -⟩, ⟨a0, -⟩, ⟨l0, -⟩⟩ := hG
  have v8 := RA_56 hA
  have hk8 := hA.2.2.1
  have hP : ∀ i, i < k + 1 → ∀ j, j < 44 → m 159 (57 + 44 * (k - i) + j) = nI (f i j) := fun i hi j hj => by
    have := hA.2.2.2 i hi j hj
    rw [show 0 + 57 + 44 * (k + 1 - 1 - i) + j = 57 + 44 * (k - i) + j by omega] at this
    exact this
  have hk1 : ¬ k + 1 = 0 := by omega
  have key : Wp mX7_undo 0 (ent [.ref 158] 2) [] (G, m, ml) (fun r μ' => ∃ m', r = some (.int (nI k)) ∧ μ' = (G, m', ml) ∧ RA m' 0 (f 0) k (fun i => f (i + 1)) ∧ FX 0 409 m m' ∧ (∀ b, b ≠ 159 → m' b = m b)) := by
    show Wp mX7_undo 0 [some (.ref 158), none] [] (G, m, ml) _
    generalize hQ : (fun (r : Option Value) (μ' : Mm) => ∃ m', r = some (.int (nI k)) ∧ μ' = (G, m', ml) ∧ RA m' 0 (f 0) k (fun i => f (i + 1)) ∧ FX 0 409 m m' ∧ (∀ b, b ≠ 159 → m' b = m b)) = Q
    simp (maxSteps := 1000000) (decide := true) (disch := (first | assumption | omega | exact Nat.div_mul_le_self _ _ | exact ni_nz (by omega) (by omega) | exact rfl | exact retOk_bI _ | exact retOk_0 | exact retOk_1)) only [eX7_undo_0, eX7_undo_1, eX7_undo_4, eX7_undo_6, eX7_undo_7, eX7_undo_10, eX7_undo_12, eX7_undo_13, eX7_undo_14, eX7_undo_17, eX7_undo_19, eX7_undo_20, eX7_undo_21, eX7_undo_22, eX7_undo_23, eX7_undo_24, eX7_undo_25, eX7_undo_27, eX7_undo_29, eX7_undo_32, eX7_undo_33, eX7_undo_36, eX7_undo_37, eX7_undo_38, eX7_undo_41, eX7_undo_43, eX7_undo_45, eX7_undo_46, eX7_undo_49, eX7_undo_51, eX7_undo_52, eX7_undo_53, eX7_undo_54, eX7_undo_55, eX7_undo_56, eX7_undo_57, eX7_undo_58, eX7_undo_61, eX7_undo_64, eX7_undo_65, eX7_undo_68, eX7_undo_70, eX7_undo_71, g1, v8, hk1, Nat.add_sub_cancel, WpR_some, Option.toList_some, Option.toList_none, List.cons_append, List.nil_append, List.append_nil, clr_n, clr_i, clr_a, ni_add, ni_mul, ni_sub, ni_lt, ni_le, ni_eq, ni_div, nat_mod_eq, ni_rem, iMax_nn, iMin_nn, iMax_sub, Nat.zero_max, bI_0, bI_1, bI_n0, up2_s, up2_n, up2_k, va_up_self, va_up_ne, ni_l, lN_mul, lN_add, ln_mask, lN_i, ↓reduceIte, if_true, if_false, not_true_eq_false, not_false_eq_true, ite_self, Nat.add_zero, Nat.zero_add, ent_def]
    refine wp_for (X := Unit) (fun i _ => [some (.ref 158), some (.int (nI i))]) (fun i _ μ => ∃ m1, μ = (G, m1, ml) ∧ m1 159 56 = nI k ∧ (∀ j, j < i → m1 159 j = nI (f 0 j)) ∧ (∀ j, 44 ≤ j → j ≠ 56 → m1 159 j = m 159 j) ∧ (∀ b, b ≠ 159 → m1 b = m b)) 44 ?_ ?_ 0 () _ (Nat.zero_le _) ⟨_, rfl, by rw [up2_s], fun j hj => absurd hj (Nat.not_lt_zero _), fun j _ hj => by rw [up2_k hj], fun b hb => by rw [up2_n hb]⟩
    · rintro i - μ hi ⟨m1, rfl, c1, c2, c3, c4⟩ kk
      have hlt : ¬ 44 ≤ i := by omega
      have xi : m1 159 (57 + 44 * k + i) = nI (f 0 i) := by rw [c3 _ (by omega) (by omega)]; exact hP 0 (by omega) i hi
      rw [eX7_undo_26]
      simp (maxSteps := 1000000) (decide := true) (disch := (first | assumption | omega | exact Nat.div_mul_le_self _ _ | exact ni_nz (by omega) (by omega) | exact rfl | exact retOk_bI _ | exact retOk_0 | exact retOk_1)) only [eX7_undo_0, eX7_undo_1, eX7_undo_4, eX7_undo_6, eX7_undo_7, eX7_undo_10, eX7_undo_12, eX7_undo_13, eX7_undo_14, eX7_undo_17, eX7_undo_19, eX7_undo_20, eX7_undo_21, eX7_undo_22, eX7_undo_23, eX7_undo_24, eX7_undo_25, eX7_undo_27, eX7_undo_29, eX7_undo_32, eX7_undo_33, eX7_undo_36, eX7_undo_37, eX7_undo_38, eX7_undo_41, eX7_undo_43, eX7_undo_45, eX7_undo_46, eX7_undo_49, eX7_undo_51, eX7_undo_52, eX7_undo_53, eX7_undo_54, eX7_undo_55, eX7_undo_56, eX7_undo_57, eX7_undo_58, eX7_undo_61, eX7_undo_64, eX7_undo_65, eX7_undo_68, eX7_undo_70, eX7_undo_71, g1, c1, xi, hlt, WpR_some, Option.toList_some, Option.toList_none, List.cons_append, List.nil_append, List.append_nil, clr_n, clr_i, clr_a, ni_add, ni_mul, ni_sub, ni_lt, ni_le, ni_eq, ni_div, nat_mod_eq, ni_rem, iMax_nn, iMin_nn, iMax_sub, Nat.zero_max, bI_0, bI_1, bI_n0, up2_s, up2_n, up2_k, va_up_self, va_up_ne, ni_l, lN_mul, lN_add, ln_mask, lN_i, ↓reduceIte, if_true, if_false, not_true_eq_false, not_false_eq_true, ite_self, Nat.add_zero, Nat.zero_add, ent_def]
      refine kk () _ ⟨_, rfl, ?_, ?_, ?_, ?_⟩
      · rw [up2_k (by omega)]; exact c1
      · intro j hj
        by_cases hji : j = i
        · subst hji; rw [up2_s]
        · rw [up2_k hji]; exact c2 j (by omega)
      · intro j h1 h2; rw [up2_k (by omega)]; exact c3 j h1 h2
      · intro b hb; rw [up2_n hb]; exact c4 b hb
    · rintro - μ ⟨m1, rfl, c1, c2, c3, c4⟩
      rw [eX7_undo_26]
      simp (maxSteps := 1000000) (decide := true) (disch := (first | assumption | omega | exact Nat.div_mul_le_self _ _ | exact ni_nz (by omega) (by omega) | exact rfl | exact retOk_bI _ | exact retOk_0 | exact retOk_1)) only [eX7_undo_0, eX7_undo_1, eX7_undo_4, eX7_undo_6, eX7_undo_7, eX7_undo_10, eX7_undo_12, eX7_undo_13, eX7_undo_14, eX7_undo_17, eX7_undo_19, eX7_undo_20, eX7_undo_21, eX7_undo_22, eX7_undo_23, eX7_undo_24, eX7_undo_25, eX7_undo_27, eX7_undo_29, eX7_undo_32, eX7_undo_33, eX7_undo_36, eX7_undo_37, eX7_undo_38, eX7_undo_41, eX7_undo_43, eX7_undo_45, eX7_undo_46, eX7_undo_49, eX7_undo_51, eX7_undo_52, eX7_undo_53, eX7_undo_54, eX7_undo_55, eX7_undo_56, eX7_undo_57, eX7_undo_58, eX7_undo_61, eX7_undo_64, eX7_undo_65, eX7_undo_68, eX7_undo_70, eX7_undo_71, g1, c1, Nat.le_refl, WpR_some, Option.toList_some, Option.toList_none, List.cons_append, List.nil_append, List.append_nil, clr_n, clr_i, clr_a, ni_add, ni_mul, ni_sub, ni_lt, ni_le, ni_eq, ni_div, nat_mod_eq, ni_rem, iMax_nn, iMin_nn, iMax_sub, Nat.zero_max, bI_0, bI_1, bI_n0, up2_s, up2_n, up2_k, va_up_self, va_up_ne, ni_l, lN_mul, lN_add, ln_mask, lN_i, ↓reduceIte, if_true, if_false, not_true_eq_false, not_false_eq_true, ite_self, Nat.add_zero, Nat.zero_add, ent_def]
      rw [← hQ]
      refine ⟨m1, rfl, rfl, ⟨?_, by rw [Nat.zero_add]; exact c1, by omega, ?_⟩, FX.k (k := 0) c4 (fun j hj => c3 j (by omega) (by omega)), c4⟩
      · intro j hj
        rw [Nat.zero_add]
        by_cases h44 : j < 44
        · exact c2 j h44
        · rw [c3 j (by omega) (by omega), hf j (by omega) hj]
          exact RA_at hA hj
      · intro i hi j hj
        rw [show 0 + 57 + 44 * (k - 1 - i) + j = 57 + 44 * (k - (i + 1)) + j by omega, c3 _ (by omega) (by omega)]
        exact hP (i + 1) (by omega) j hj
  obtain ⟨r, μ', e1, m', rfl, rfl, h2⟩ := res_ex key
  exact ⟨m', e1, h2⟩
theorem x_seed_bad (hG : GM G) (h : v < nI 0) : res mX7_seed [.ref 158, .int v] (G, m, ml) = some (some (.int (-1)), (G, m, ml)) := by
  obtain ⟨⟨g0, g1, -⟩, -⟩ := hG
  have h' : ¬ nI 0 ≤ v := by rw [i_lt] at h; exact h
  apply res_of
  show Wp mX7_seed 0 [some (.ref 158), some (.int v), none] [] (G, m, ml) _
  simp (maxSteps := 1000000) (decide := true) (disch := (first | assumption | omega | exact Nat.div_mul_le_self _ _ | exact ni_nz (by omega) (by omega) | exact rfl | exact retOk_bI _ | exact retOk_0 | exact retOk_1)) only [eX7_seed_0, eX7_seed_1, eX7_seed_4, eX7_seed_5, eX7_seed_6, eX7_seed_7, eX7_seed_10, eX7_seed_12, eX7_seed_13, eX7_seed_14, eX7_seed_15, eX7_seed_18, eX7_seed_20, eX7_seed_21, eX7_seed_22, eX7_seed_23, h', WpR_some, Option.toList_some, Option.toList_none, List.cons_append, List.nil_append, List.append_nil, clr_n, clr_i, clr_a, ni_add, ni_mul, ni_sub, ni_lt, ni_le, ni_eq, ni_div, nat_mod_eq, ni_rem, iMax_nn, iMin_nn, iMax_sub, Nat.zero_max, bI_0, bI_1, bI_n0, up2_s, up2_n, up2_k, va_up_self, va_up_ne, ni_l, lN_mul, lN_add, ln_mask, lN_i, ↓reduceIte, if_true, if_false, not_true_eq_false, not_false_eq_true, ite_self, Nat.add_zero, Nat.zero_add, ent_def]
theorem x_seed (hG : GM G) (hA : RA m 0 σ k f) (h : x < 2147483648) : ∃ m', res mX7_seed [.ref 158, .int (nI x)] (G, m, ml) = some (some (.int (nI (σ 43))), (G, m', ml)) ∧ RA m' 0 (upN σ 43 x) k f ∧ FX 0 409 m m' ∧ (∀ b, b ≠ 159 → m' b = m b) := by
  obtain ⟨⟨g0, g1, -⟩, ⟨a0, -⟩, ⟨l0, -⟩⟩ := hG
  have v6 := RA_at hA (j := 43) (by decide)
  refine ⟨up2 m 159 43 (nI x), ?_, RA_up hA (by decide), FX.rf.up (by omega) (by omega), fun b hb => by rw [up2_n hb]⟩
  apply res_of
  show Wp mX7_seed 0 [some (.ref 158), some (.int (nI x)), none] [] (G, m, ml) _
  simp (maxSteps := 1000000) (decide := true) (disch := (first | assumption | omega | exact Nat.div_mul_le_self _ _ | exact ni_nz (by omega) (by omega) | exact rfl | exact retOk_bI _ | exact retOk_0 | exact retOk_1)) only [eX7_seed_0, eX7_seed_1, eX7_seed_4, eX7_seed_5, eX7_seed_6, eX7_seed_7, eX7_seed_10, eX7_seed_12, eX7_seed_13, eX7_seed_14, eX7_seed_15, eX7_seed_18, eX7_seed_20, eX7_seed_21, eX7_seed_22, eX7_seed_23, g1, v6, Nat.zero_le, WpR_some, Option.toList_some, Option.toList_none, List.cons_append, List.nil_append, List.append_nil, clr_n, clr_i, clr_a, ni_add, ni_mul, ni_sub, ni_lt, ni_le, ni_eq, ni_div, nat_mod_eq, ni_rem, iMax_nn, iMin_nn, iMax_sub, Nat.zero_max, bI_0, bI_1, bI_n0, up2_s, up2_n, up2_k, va_up_self, va_up_ne, ni_l, lN_mul, lN_add, ln_mask, lN_i, ↓reduceIte, if_true, if_false, not_true_eq_false, not_false_eq_true, ite_self, Nat.add_zero, Nat.zero_add, ent_def]
theorem RA_cp {m' : Nat → Nat → Int32} {p : Nat} (h : RA m q σ k f) (hc : ∀ j, j < 409 → m' 159 (p + j) = m 159 (q + j)) : RA m' p σ k f := ⟨fun j hj => by rw [hc j (by omega)]; exact h.1 j hj, by rw [hc 56 (by decide)]; exact h.2.1, h.2.2.1, fun i hi j hj => by
  have := h.2.2.1
  rw [show p + 57 + 44 * (k - 1 - i) + j = p + (57 + 44 * (k - 1 - i) + j) by omega, hc _ (by omega), show q + (57 + 44 * (k - 1 - i) + j) = q + 57 + 44 * (k - 1 - i) + j by omega]
  exact h.2.2.2 i hi j hj⟩
theorem x_image (hG : GM G) (hA : RA m 0 σ k f) : ∃ m', res mX7_image [.ref 158] (G, m, ml) = some (some (.int (nI 1)), (G, m', ml)) ∧ RA m' 0 σ k f ∧ RI m' true σ k f ∧ (∀ b, b ≠ 158 → b ≠ 159 → m' b = m b) ∧ (∀ j, j ≠ 1 → m' 158 j = m 158 j) ∧ (∀ j, j < 409 ∨ 818 ≤ j → m' 159 j = m 159 j) := by
  obtain ⟨⟨g0, g1, -⟩, ⟨a0, -⟩, ⟨l0, -⟩⟩ := hG
  have key : Wp mX7_image 0 (ent [.ref 158] 2) [] (G, m, ml) (fun r μ' => ∃ m', r = some (.int (nI 1)) ∧ μ' = (G, m', ml) ∧ RA m' 0 σ k f ∧ RI m' true σ k f ∧ (∀ b, b ≠ 158 → b ≠ 159 → m' b = m b) ∧ (∀ j, j ≠ 1 → m' 158 j = m 158 j) ∧ (∀ j, j < 409 ∨ 818 ≤ j → m' 159 j = m 159 j)) := by
    show Wp mX7_image 0 [some (.ref 158), none] [] (G, m, ml) _
    generalize hQ : (fun (r : Option Value) (μ' : Mm) => ∃ m', r = some (.int (nI 1)) ∧ μ' = (G, m', ml) ∧ RA m' 0 σ k f ∧ RI m' true σ k f ∧ (∀ b, b ≠ 158 → b ≠ 159 → m' b = m b) ∧ (∀ j, j ≠ 1 → m' 158 j = m 158 j) ∧ (∀ j, j < 409 ∨ 818 ≤ j → m' 159 j = m 159 j)) = Q
    simp (maxSteps := 1000000) (decide := true) (disch := (first | assumption | omega | exact Nat.div_mul_le_self _ _ | exact ni_nz (by omega) (by omega) | exact rfl | exact retOk_bI _ | exact retOk_0 | exact retOk_1)) only [eX7_image_0, eX7_image_1, eX7_image_3, eX7_image_6, eX7_image_9, eX7_image_10, eX7_image_13, eX7_image_16, eX7_image_17, eX7_image_18, eX7_image_19, eX7_image_22, eX7_image_23, eX7_image_24, eX7_image_25, eX7_image_28, eX7_image_31, eX7_image_32, eX7_image_33, eX7_image_36, eX7_image_37, WpR_some, Option.toList_some, Option.toList_none, List.cons_append, List.nil_append, List.append_nil, clr_n, clr_i, clr_a, ni_add, ni_mul, ni_sub, ni_lt, ni_le, ni_eq, ni_div, nat_mod_eq, ni_rem, iMax_nn, iMin_nn, iMax_sub, Nat.zero_max, bI_0, bI_1, bI_n0, up2_s, up2_n, up2_k, va_up_self, va_up_ne, ni_l, lN_mul, lN_add, ln_mask, lN_i, ↓reduceIte, if_true, if_false, not_true_eq_false, not_false_eq_true, ite_self, Nat.add_zero, Nat.zero_add, ent_def]
    refine wp_for (X := Unit) (fun i _ => [some (.ref 158), some (.int (nI i))]) (fun i _ μ => ∃ m1, μ = (G, m1, ml) ∧ (∀ j, j < i → m1 159 (409 + j) = m 159 j) ∧ (∀ j, j < 409 ∨ 818 ≤ j → m1 159 j = m 159 j) ∧ (∀ b, b ≠ 159 → m1 b = m b)) 409 ?_ ?_ 0 () _ (Nat.zero_le _) ⟨m, rfl, fun j hj => absurd hj (Nat.not_lt_zero _), fun _ _ => rfl, fun _ _ => rfl⟩
    · rintro i - μ hi ⟨m1, rfl, c2, c3, c4⟩ kk
      have hlt : ¬ 409 ≤ i := by omega
      have xi : m1 159 i = m 159 i := c3 i (by omega)
      rw [eX7_image_2]
      simp (maxSteps := 1000000) (decide := true) (disch := (first | assumption | omega | exact Nat.div_mul_le_self _ _ | exact ni_nz (by omega) (by omega) | exact rfl | exact retOk_bI _ | exact retOk_0 | exact retOk_1)) only [eX7_image_0, eX7_image_1, eX7_image_3, eX7_image_6, eX7_image_9, eX7_image_10, eX7_image_13, eX7_image_16, eX7_image_17, eX7_image_18, eX7_image_19, eX7_image_22, eX7_image_23, eX7_image_24, eX7_image_25, eX7_image_28, eX7_image_31, eX7_image_32, eX7_image_33, eX7_image_36, eX7_image_37, g1, xi, hlt, WpR_some, Option.toList_some, Option.toList_none, List.cons_append, List.nil_append, List.append_nil, clr_n, clr_i, clr_a, ni_add, ni_mul, ni_sub, ni_lt, ni_le, ni_eq, ni_div, nat_mod_eq, ni_rem, iMax_nn, iMin_nn, iMax_sub, Nat.zero_max, bI_0, bI_1, bI_n0, up2_s, up2_n, up2_k, va_up_self, va_up_ne, ni_l, lN_mul, lN_add, ln_mask, lN_i, ↓reduceIte, if_true, if_false, not_true_eq_false, not_false_eq_true, ite_self, Nat.add_zero, Nat.zero_add, ent_def]
      refine kk () _ ⟨_, rfl, ?_, ?_, ?_⟩
      · intro j hj
        by_cases hji : j = i
        · subst hji; rw [up2_s]
        · rw [up2_k (by omega)]; exact c2 j (by omega)
      · intro j h1; rw [up2_k (by omega)]; exact c3 j h1
      · intro b hb; rw [up2_n hb]; exact c4 b hb
    · rintro - μ ⟨m1, rfl, c2, c3, c4⟩
      rw [eX7_image_2]
      have h1 : nI 1 = 0 ∨ nI 1 = 1 := Or.inr rfl
      simp (maxSteps := 1000000) (decide := true) (disch := (first | assumption | omega | exact Nat.div_mul_le_self _ _ | exact ni_nz (by omega) (by omega) | exact rfl | exact retOk_bI _ | exact retOk_0 | exact retOk_1)) only [eX7_image_0, eX7_image_1, eX7_image_3, eX7_image_6, eX7_image_9, eX7_image_10, eX7_image_13, eX7_image_16, eX7_image_17, eX7_image_18, eX7_image_19, eX7_image_22, eX7_image_23, eX7_image_24, eX7_image_25, eX7_image_28, eX7_image_31, eX7_image_32, eX7_image_33, eX7_image_36, eX7_image_37, Nat.le_refl, WpR_some, Option.toList_some, Option.toList_none, List.cons_append, List.nil_append, List.append_nil, clr_n, clr_i, clr_a, ni_add, ni_mul, ni_sub, ni_lt, ni_le, ni_eq, ni_div, nat_mod_eq, ni_rem, iMax_nn, iMin_nn, iMax_sub, Nat.zero_max, bI_0, bI_1, bI_n0, up2_s, up2_n, up2_k, va_up_self, va_up_ne, ni_l, lN_mul, lN_add, ln_mask, lN_i, ↓reduceIte, if_true, if_false, not_true_eq_false, not_false_eq_true, ite_self, Nat.add_zero, Nat.zero_add, ent_def]
      rw [← hQ]
      refine ⟨up2 m1 158 1 (nI 1), rfl, rfl, RA_fr hA (fun j _ hj => by rw [up2_n (by decide)]; exact c3 j (by omega)), ⟨by rw [up2_s]; rfl, fun _ => RA_cp hA (fun j hj => by rw [up2_n (by decide), c2 j hj, Nat.zero_add])⟩, ?_, ?_, ?_⟩
      · intro b h1 h2; rw [up2_n h1]; exact c4 b h2
      · intro j hj; rw [up2_k hj, c4 158 (by decide)]
      · intro j hj; rw [up2_n (by decide)]; exact c3 j hj
  obtain ⟨r, μ', e1, m', rfl, rfl, h2⟩ := res_ex key
  exact ⟨m', e1, h2⟩
theorem x_restore0 (hG : GM G) (hI : RI m false σi ki fi) : res mX7_restore [.ref 158] (G, m, ml) = some (some (.int (-4)), (G, m, ml)) := by
  obtain ⟨⟨g0, g1, -⟩, -⟩ := hG
  have x4 := hI.1
  apply res_of
  show Wp mX7_restore 0 [some (.ref 158), none] [] (G, m, ml) _
  simp (maxSteps := 1000000) (decide := true) (disch := (first | assumption | omega | exact Nat.div_mul_le_self _ _ | exact ni_nz (by omega) (by omega) | exact rfl | exact retOk_bI _ | exact retOk_0 | exact retOk_1)) only [eX7_restore_0, eX7_restore_1, eX7_restore_4, eX7_restore_7, eX7_restore_9, eX7_restore_10, eX7_restore_11, eX7_restore_13, eX7_restore_16, eX7_restore_19, eX7_restore_20, eX7_restore_23, eX7_restore_24, eX7_restore_25, eX7_restore_28, eX7_restore_31, eX7_restore_32, eX7_restore_33, eX7_restore_34, eX7_restore_35, eX7_restore_38, eX7_restore_41, eX7_restore_42, x4, WpR_some, Option.toList_some, Option.toList_none, List.cons_append, List.nil_append, List.append_nil, clr_n, clr_i, clr_a, ni_add, ni_mul, ni_sub, ni_lt, ni_le, ni_eq, ni_div, nat_mod_eq, ni_rem, iMax_nn, iMin_nn, iMax_sub, Nat.zero_max, bI_0, bI_1, bI_n0, up2_s, up2_n, up2_k, va_up_self, va_up_ne, ni_l, lN_mul, lN_add, ln_mask, lN_i, ↓reduceIte, if_true, if_false, not_true_eq_false, not_false_eq_true, ite_self, Nat.add_zero, Nat.zero_add, ent_def]
theorem x_restore (hG : GM G) (hI : RI m true σi ki fi) : ∃ m', res mX7_restore [.ref 158] (G, m, ml) = some (some (.int (nI 1)), (G, m', ml)) ∧ RA m' 0 σi ki fi ∧ FX 0 409 m m' ∧ (∀ b, b ≠ 159 → m' b = m b) := by
  obtain ⟨⟨g0, g1, -⟩, ⟨a0, -⟩, ⟨l0, -⟩⟩ := hG
  have x4 := hI.1
  have hA := hI.2 rfl
  have key : Wp mX7_restore 0 (ent [.ref 158] 2) [] (G, m, ml) (fun r μ' => ∃ m', r = some (.int (nI 1)) ∧ μ' = (G, m', ml) ∧ RA m' 0 σi ki fi ∧ FX 0 409 m m' ∧ (∀ b, b ≠ 159 → m' b = m b)) := by
    show Wp mX7_restore 0 [some (.ref 158), none] [] (G, m, ml) _
    generalize hQ : (fun (r : Option Value) (μ' : Mm) => ∃ m', r = some (.int (nI 1)) ∧ μ' = (G, m', ml) ∧ RA m' 0 σi ki fi ∧ FX 0 409 m m' ∧ (∀ b, b ≠ 159 → m' b = m b)) = Q
    simp (maxSteps := 1000000) (decide := true) (disch := (first | assumption | omega | exact Nat.div_mul_le_self _ _ | exact ni_nz (by omega) (by omega) | exact rfl | exact retOk_bI _ | exact retOk_0 | exact retOk_1)) only [eX7_restore_0, eX7_restore_1, eX7_restore_4, eX7_restore_7, eX7_restore_9, eX7_restore_10, eX7_restore_11, eX7_restore_13, eX7_restore_16, eX7_restore_19, eX7_restore_20, eX7_restore_23, eX7_restore_24, eX7_restore_25, eX7_restore_28, eX7_restore_31, eX7_restore_32, eX7_restore_33, eX7_restore_34, eX7_restore_35, eX7_restore_38, eX7_restore_41, eX7_restore_42, x4, WpR_some, Option.toList_some, Option.toList_none, List.cons_append, List.nil_append, List.append_nil, clr_n, clr_i, clr_a, ni_add, ni_mul, ni_sub, ni_lt, ni_le, ni_eq, ni_div, nat_mod_eq, ni_rem, iMax_nn, iMin_nn, iMax_sub, Nat.zero_max, bI_0, bI_1, bI_n0, up2_s, up2_n, up2_k, va_up_self, va_up_ne, ni_l, lN_mul, lN_add, ln_mask, lN_i, ↓reduceIte, if_true, if_false, not_true_eq_false, not_false_eq_true, ite_self, Nat.add_zero, Nat.zero_add, ent_def]
    refine wp_for (X := Unit) (fun i _ => [some (.ref 158), some (.int (nI i))]) (fun i _ μ => ∃ m1, μ = (G, m1, ml) ∧ (∀ j, j < i → m1 159 j = m 159 (409 + j)) ∧ (∀ j, 409 ≤ j → m1 159 j = m 159 j) ∧ (∀ b, b ≠ 159 → m1 b = m b)) 409 ?_ ?_ 0 () _ (Nat.zero_le _) ⟨m, rfl, fun j hj => absurd hj (Nat.not_lt_zero _), fun _ _ => rfl, fun _ _ => rfl⟩
    · rintro i - μ hi ⟨m1, rfl, c2, c3, c4⟩ kk
      have hlt : ¬ 409 ≤ i := by omega
      have xi : m1 159 (409 + i) = m 159 (409 + i) := c3 _ (by omega)
      rw [eX7_restore_12]
      simp (maxSteps := 1000000) (decide := true) (disch := (first | assumption | omega | exact Nat.div_mul_le_self _ _ | exact ni_nz (by omega) (by omega) | exact rfl | exact retOk_bI _ | exact retOk_0 | exact retOk_1)) only [eX7_restore_0, eX7_restore_1, eX7_restore_4, eX7_restore_7, eX7_restore_9, eX7_restore_10, eX7_restore_11, eX7_restore_13, eX7_restore_16, eX7_restore_19, eX7_restore_20, eX7_restore_23, eX7_restore_24, eX7_restore_25, eX7_restore_28, eX7_restore_31, eX7_restore_32, eX7_restore_33, eX7_restore_34, eX7_restore_35, eX7_restore_38, eX7_restore_41, eX7_restore_42, g1, xi, hlt, WpR_some, Option.toList_some, Option.toList_none, List.cons_append, List.nil_append, List.append_nil, clr_n, clr_i, clr_a, ni_add, ni_mul, ni_sub, ni_lt, ni_le, ni_eq, ni_div, nat_mod_eq, ni_rem, iMax_nn, iMin_nn, iMax_sub, Nat.zero_max, bI_0, bI_1, bI_n0, up2_s, up2_n, up2_k, va_up_self, va_up_ne, ni_l, lN_mul, lN_add, ln_mask, lN_i, ↓reduceIte, if_true, if_false, not_true_eq_false, not_false_eq_true, ite_self, Nat.add_zero, Nat.zero_add, ent_def]
      refine kk () _ ⟨_, rfl, ?_, ?_, ?_⟩
      · intro j hj
        by_cases hji : j = i
        · subst hji; rw [up2_s]
        · rw [up2_k (by omega)]; exact c2 j (by omega)
      · intro j h1; rw [up2_k (by omega)]; exact c3 j h1
      · intro b hb; rw [up2_n hb]; exact c4 b hb
    · rintro - μ ⟨m1, rfl, c2, c3, c4⟩
      rw [eX7_restore_12]
      simp (maxSteps := 1000000) (decide := true) (disch := (first | assumption | omega | exact Nat.div_mul_le_self _ _ | exact ni_nz (by omega) (by omega) | exact rfl | exact retOk_bI _ | exact retOk_0 | exact retOk_1)) only [eX7_restore_0, eX7_restore_1, eX7_restore_4, eX7_restore_7, eX7_restore_9, eX7_restore_10, eX7_restore_11, eX7_restore_13, eX7_restore_16, eX7_restore_19, eX7_restore_20, eX7_restore_23, eX7_restore_24, eX7_restore_25, eX7_restore_28, eX7_restore_31, eX7_restore_32, eX7_restore_33, eX7_restore_34, eX7_restore_35, eX7_restore_38, eX7_restore_41, eX7_restore_42, Nat.le_refl, WpR_some, Option.toList_some, Option.toList_none, List.cons_append, List.nil_append, List.append_nil, clr_n, clr_i, clr_a, ni_add, ni_mul, ni_sub, ni_lt, ni_le, ni_eq, ni_div, nat_mod_eq, ni_rem, iMax_nn, iMin_nn, iMax_sub, Nat.zero_max, bI_0, bI_1, bI_n0, up2_s, up2_n, up2_k, va_up_self, va_up_ne, ni_l, lN_mul, lN_add, ln_mask, lN_i, ↓reduceIte, if_true, if_false, not_true_eq_false, not_false_eq_true, ite_self, Nat.add_zero, Nat.zero_add, ent_def]
      rw [← hQ]
      exact ⟨m1, rfl, rfl, RA_cp hA (fun j hj => by rw [Nat.zero_add]; exact c2 j hj), FX.k (k := 0) c4 (fun j hj => c3 j (by omega)), c4⟩
  obtain ⟨r, μ', e1, m', rfl, rfl, h2⟩ := res_ex key
  exact ⟨m', e1, h2⟩
end RF6
