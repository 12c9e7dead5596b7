section XL3
variable {G : List AT} {m m1 m2 m' : Nat → Nat → Int32} {ml : Nat → Nat → Int64} {tl n p q c e d f j i lo hi x y k A : Nat} {tc τ σ τ' : Nat → Nat} {u v w : Int32} {μ : Mm} {F : Nat → Nat → Nat}
def kiv (c : Nat) : Int32 := if kdN c = 9 then -4 else nI (kdN c)
theorem w_kd {Q : Option Value → Mm → Prop} (hc : c ≤ 126) (k : Wp mX7_readsTeller 82 [some (.ref 158), some (.int (nI c)), some (.int (kiv c))] [] μ Q) : Wp mX7_readsTeller 29 [some (.ref 158), some (.int (nI c)), none] [] μ Q := by
  by_cases h1 : c = 112
  · subst h1
    simp (maxSteps := 1000000) (decide := true) (disch := (first | assumption | omega | exact Nat.div_mul_le_self _ _ | exact ni_nz (by omega) (by omega) | exact rfl | exact retOk_bI _ | exact retOk_0 | exact retOk_1)) only [eX7_readsTeller_29, eX7_readsTeller_30, eX7_readsTeller_32, eX7_readsTeller_35, eX7_readsTeller_36, eX7_readsTeller_39, eX7_readsTeller_40, eX7_readsTeller_42, eX7_readsTeller_45, eX7_readsTeller_46, eX7_readsTeller_49, eX7_readsTeller_50, eX7_readsTeller_52, eX7_readsTeller_55, eX7_readsTeller_56, eX7_readsTeller_59, eX7_readsTeller_60, eX7_readsTeller_62, eX7_readsTeller_65, eX7_readsTeller_66, eX7_readsTeller_69, eX7_readsTeller_70, eX7_readsTeller_72, eX7_readsTeller_75, eX7_readsTeller_76, eX7_readsTeller_79, eX7_readsTeller_81, WpR_some, Option.toList_some, Option.toList_none, List.cons_append, List.nil_append, List.append_nil, clr_n, clr_i, clr_a, ni_add, ni_mul, ni_sub, ni_lt, ni_le, ni_eq, ni_div, nat_mod_eq, ni_rem, iMax_nn, iMin_nn, iMax_sub, Nat.zero_max, bI_0, bI_1, bI_n0, up2_s, up2_n, up2_k, va_up_self, va_up_ne, ni_l, lN_mul, lN_add, ln_mask, lN_i, ↓reduceIte, if_true, if_false, not_true_eq_false, not_false_eq_true, ite_self, Nat.add_zero, Nat.zero_add, ent_def]
    exact k
  by_cases h2 : c = 100
  · subst h2
    simp (maxSteps := 1000000) (decide := true) (disch := (first | assumption | omega | exact Nat.div_mul_le_self _ _ | exact ni_nz (by omega) (by omega) | exact rfl | exact retOk_bI _ | exact retOk_0 | exact retOk_1)) only [eX7_readsTeller_29, eX7_readsTeller_30, eX7_readsTeller_32, eX7_readsTeller_35, eX7_readsTeller_36, eX7_readsTeller_39, eX7_readsTeller_40, eX7_readsTeller_42, eX7_readsTeller_45, eX7_readsTeller_46, eX7_readsTeller_49, eX7_readsTeller_50, eX7_readsTeller_52, eX7_readsTeller_55, eX7_readsTeller_56, eX7_readsTeller_59, eX7_readsTeller_60, eX7_readsTeller_62, eX7_readsTeller_65, eX7_readsTeller_66, eX7_readsTeller_69, eX7_readsTeller_70, eX7_readsTeller_72, eX7_readsTeller_75, eX7_readsTeller_76, eX7_readsTeller_79, eX7_readsTeller_81, WpR_some, Option.toList_some, Option.toList_none, List.cons_append, List.nil_append, List.append_nil, clr_n, clr_i, clr_a, ni_add, ni_mul, ni_sub, ni_lt, ni_le, ni_eq, ni_div, nat_mod_eq, ni_rem, iMax_nn, iMin_nn, iMax_sub, Nat.zero_max, bI_0, bI_1, bI_n0, up2_s, up2_n, up2_k, va_up_self, va_up_ne, ni_l, lN_mul, lN_add, ln_mask, lN_i, ↓reduceIte, if_true, if_false, not_true_eq_false, not_false_eq_true, ite_self, Nat.add_zero, Nat.zero_add, ent_def]
    exact k
  by_cases h3 : c = 116
  · subst h3
    simp (maxSteps := 1000000) (decide := true) (disch := (first | assumption | omega | exact Nat.div_mul_le_self _ _ | exact ni_nz (by omega) (by omega) | exact rfl | exact retOk_bI _ | exact retOk_0 | exact retOk_1)) only [eX7_readsTeller_29, eX7_readsTeller_30, eX7_readsTeller_32, eX7_readsTeller_35, eX7_readsTeller_36, eX7_readsTeller_39, eX7_readsTeller_40, eX7_readsTeller_42, eX7_readsTeller_45, eX7_readsTeller_46, eX7_readsTeller_49, eX7_readsTeller_50, eX7_readsTeller_52, eX7_readsTeller_55, eX7_readsTeller_56, eX7_readsTeller_59, eX7_readsTeller_60, eX7_readsTeller_62, eX7_readsTeller_65, eX7_readsTeller_66, eX7_readsTeller_69, eX7_readsTeller_70, eX7_readsTeller_72, eX7_readsTeller_75, eX7_readsTeller_76, eX7_readsTeller_79, eX7_readsTeller_81, WpR_some, Option.toList_some, Option.toList_none, List.cons_append, List.nil_append, List.append_nil, clr_n, clr_i, clr_a, ni_add, ni_mul, ni_sub, ni_lt, ni_le, ni_eq, ni_div, nat_mod_eq, ni_rem, iMax_nn, iMin_nn, iMax_sub, Nat.zero_max, bI_0, bI_1, bI_n0, up2_s, up2_n, up2_k, va_up_self, va_up_ne, ni_l, lN_mul, lN_add, ln_mask, lN_i, ↓reduceIte, if_true, if_false, not_true_eq_false, not_false_eq_true, ite_self, Nat.add_zero, Nat.zero_add, ent_def]
    exact k
  by_cases h4 : c = 119
  · subst h4
    simp (maxSteps := 1000000) (decide := true) (disch := (first | assumption | omega | exact Nat.div_mul_le_self _ _ | exact ni_nz (by omega) (by omega) | exact rfl | exact retOk_bI _ | exact retOk_0 | exact retOk_1)) only [eX7_readsTeller_29, eX7_readsTeller_30, eX7_readsTeller_32, eX7_readsTeller_35, eX7_readsTeller_36, eX7_readsTeller_39, eX7_readsTeller_40, eX7_readsTeller_42, eX7_readsTeller_45, eX7_readsTeller_46, eX7_readsTeller_49, eX7_readsTeller_50, eX7_readsTeller_52, eX7_readsTeller_55, eX7_readsTeller_56, eX7_readsTeller_59, eX7_readsTeller_60, eX7_readsTeller_62, eX7_readsTeller_65, eX7_readsTeller_66, eX7_readsTeller_69, eX7_readsTeller_70, eX7_readsTeller_72, eX7_readsTeller_75, eX7_readsTeller_76, eX7_readsTeller_79, eX7_readsTeller_81, WpR_some, Option.toList_some, Option.toList_none, List.cons_append, List.nil_append, List.append_nil, clr_n, clr_i, clr_a, ni_add, ni_mul, ni_sub, ni_lt, ni_le, ni_eq, ni_div, nat_mod_eq, ni_rem, iMax_nn, iMin_nn, iMax_sub, Nat.zero_max, bI_0, bI_1, bI_n0, up2_s, up2_n, up2_k, va_up_self, va_up_ne, ni_l, lN_mul, lN_add, ln_mask, lN_i, ↓reduceIte, if_true, if_false, not_true_eq_false, not_false_eq_true, ite_self, Nat.add_zero, Nat.zero_add, ent_def]
    exact k
  by_cases h5 : c = 117
  · subst h5
    simp (maxSteps := 1000000) (decide := true) (disch := (first | assumption | omega | exact Nat.div_mul_le_self _ _ | exact ni_nz (by omega) (by omega) | exact rfl | exact retOk_bI _ | exact retOk_0 | exact retOk_1)) only [eX7_readsTeller_29, eX7_readsTeller_30, eX7_readsTeller_32, eX7_readsTeller_35, eX7_readsTeller_36, eX7_readsTeller_39, eX7_readsTeller_40, eX7_readsTeller_42, eX7_readsTeller_45, eX7_readsTeller_46, eX7_readsTeller_49, eX7_readsTeller_50, eX7_readsTeller_52, eX7_readsTeller_55, eX7_readsTeller_56, eX7_readsTeller_59, eX7_readsTeller_60, eX7_readsTeller_62, eX7_readsTeller_65, eX7_readsTeller_66, eX7_readsTeller_69, eX7_readsTeller_70, eX7_readsTeller_72, eX7_readsTeller_75, eX7_readsTeller_76, eX7_readsTeller_79, eX7_readsTeller_81, WpR_some, Option.toList_some, Option.toList_none, List.cons_append, List.nil_append, List.append_nil, clr_n, clr_i, clr_a, ni_add, ni_mul, ni_sub, ni_lt, ni_le, ni_eq, ni_div, nat_mod_eq, ni_rem, iMax_nn, iMin_nn, iMax_sub, Nat.zero_max, bI_0, bI_1, bI_n0, up2_s, up2_n, up2_k, va_up_self, va_up_ne, ni_l, lN_mul, lN_add, ln_mask, lN_i, ↓reduceIte, if_true, if_false, not_true_eq_false, not_false_eq_true, ite_self, Nat.add_zero, Nat.zero_add, ent_def]
    exact k
  have hk : kiv c = -4 := by unfold kiv kdN; rw [if_neg h1, if_neg h2, if_neg h3, if_neg h4, if_neg h5, if_pos rfl]
  rw [hk] at k
  simp (maxSteps := 1000000) (decide := true) (disch := (first | assumption | omega | exact Nat.div_mul_le_self _ _ | exact ni_nz (by omega) (by omega) | exact rfl | exact retOk_bI _ | exact retOk_0 | exact retOk_1)) only [eX7_readsTeller_29, eX7_readsTeller_30, eX7_readsTeller_32, eX7_readsTeller_35, eX7_readsTeller_36, eX7_readsTeller_39, eX7_readsTeller_40, eX7_readsTeller_42, eX7_readsTeller_45, eX7_readsTeller_46, eX7_readsTeller_49, eX7_readsTeller_50, eX7_readsTeller_52, eX7_readsTeller_55, eX7_readsTeller_56, eX7_readsTeller_59, eX7_readsTeller_60, eX7_readsTeller_62, eX7_readsTeller_65, eX7_readsTeller_66, eX7_readsTeller_69, eX7_readsTeller_70, eX7_readsTeller_72, eX7_readsTeller_75, eX7_readsTeller_76, eX7_readsTeller_79, eX7_readsTeller_81, h1, h2, h3, h4, h5, WpR_some, Option.toList_some, Option.toList_none, List.cons_append, List.nil_append, List.append_nil, clr_n, clr_i, clr_a, ni_add, ni_mul, ni_sub, ni_lt, ni_le, ni_eq, ni_div, nat_mod_eq, ni_rem, iMax_nn, iMin_nn, iMax_sub, Nat.zero_max, bI_0, bI_1, bI_n0, up2_s, up2_n, up2_k, va_up_self, va_up_ne, ni_l, lN_mul, lN_add, ln_mask, lN_i, ↓reduceIte, if_true, if_false, not_true_eq_false, not_false_eq_true, ite_self, Nat.add_zero, Nat.zero_add, ent_def]
  exact k
theorem w_ltr {Q : Option Value → Mm → Prop} (hG : GM G) (hT : RT m tl tc) (hp : m 158 10 = nI p) (hl : p ≤ 200) (k : Wp mX7_readsTeller 29 [some (.ref 158), some (.int (nI (nl tl tc p))), none] [] (G, up2 m 158 10 (nI (sk tl tc p)), ml) Q) : Wp mX7_readsTeller 0 [some (.ref 158), none, none] [] (G, m, ml) Q := by
  have e := x_pass (ml := ml) hG hT hp hl
  have hs := sk_mx (tl := tl) (tc := tc) p
  obtain ⟨⟨g0, g1, g2, -⟩, ⟨a0, a1, -⟩, ⟨l0, l1, -⟩⟩ := hG
  obtain ⟨c1, c2, c3⟩ := hT
  by_cases h : sk tl tc p < tl
  · have hnl : nl tl tc p = tc (sk tl tc p) := by unfold nl; rw [if_pos h]
    have hlt : ¬ tl ≤ sk tl tc p := by omega
    obtain ⟨d1, d2, d3⟩ := c3 _ h
    rw [hnl] at k
    simp (maxSteps := 1000000) (decide := true) (disch := (first | assumption | omega | exact Nat.div_mul_le_self _ _ | exact ni_nz (by omega) (by omega) | exact rfl | exact retOk_bI _ | exact retOk_0 | exact retOk_1)) only [eX7_readsTeller_0, eX7_readsTeller_1, eX7_readsTeller_4, eX7_readsTeller_5, eX7_readsTeller_8, eX7_readsTeller_9, eX7_readsTeller_12, eX7_readsTeller_15, eX7_readsTeller_16, eX7_readsTeller_19, eX7_readsTeller_20, eX7_readsTeller_23, eX7_readsTeller_24, eX7_readsTeller_27, eX7_readsTeller_28, e, c1, hlt, g2, d1, WpR_some, Option.toList_some, Option.toList_none, List.cons_append, List.nil_append, List.append_nil, clr_n, clr_i, clr_a, ni_add, ni_mul, ni_sub, ni_lt, ni_le, ni_eq, ni_div, nat_mod_eq, ni_rem, iMax_nn, iMin_nn, iMax_sub, Nat.zero_max, bI_0, bI_1, bI_n0, up2_s, up2_n, up2_k, va_up_self, va_up_ne, ni_l, lN_mul, lN_add, ln_mask, lN_i, ↓reduceIte, if_true, if_false, not_true_eq_false, not_false_eq_true, ite_self, Nat.add_zero, Nat.zero_add, ent_def]
    exact k
  · have hnl : nl tl tc p = 0 := by unfold nl; rw [if_neg h]
    have hlt : tl ≤ sk tl tc p := by omega
    rw [hnl] at k
    simp (maxSteps := 1000000) (decide := true) (disch := (first | assumption | omega | exact Nat.div_mul_le_self _ _ | exact ni_nz (by omega) (by omega) | exact rfl | exact retOk_bI _ | exact retOk_0 | exact retOk_1)) only [eX7_readsTeller_0, eX7_readsTeller_1, eX7_readsTeller_4, eX7_readsTeller_5, eX7_readsTeller_8, eX7_readsTeller_9, eX7_readsTeller_12, eX7_readsTeller_15, eX7_readsTeller_16, eX7_readsTeller_19, eX7_readsTeller_20, eX7_readsTeller_23, eX7_readsTeller_24, eX7_readsTeller_27, eX7_readsTeller_28, e, c1, hlt, WpR_some, Option.toList_some, Option.toList_none, List.cons_append, List.nil_append, List.append_nil, clr_n, clr_i, clr_a, ni_add, ni_mul, ni_sub, ni_lt, ni_le, ni_eq, ni_div, nat_mod_eq, ni_rem, iMax_nn, iMin_nn, iMax_sub, Nat.zero_max, bI_0, bI_1, bI_n0, up2_s, up2_n, up2_k, va_up_self, va_up_ne, ni_l, lN_mul, lN_add, ln_mask, lN_i, ↓reduceIte, if_true, if_false, not_true_eq_false, not_false_eq_true, ite_self, Nat.add_zero, Nat.zero_add, ent_def]
    exact k
theorem x_rt (hG : GM G) (hP : RP m tl tc p τ) (h5 : τ 44 < 5) (h4 : τ 45 ≤ 5) : ∃ m', res mX7_readsTeller [.ref 158] (G, m, ml) = some (none, (G, m', ml)) ∧ FPX m m' ∧ (∀ f, tlR tl tc p τ = .inl f → RF m' tl tc 71 f) ∧ ∀ e τ', tlR tl tc p τ = .inr (e, τ') → RP m' tl tc e τ' := by
  have hG0 := hG
  obtain ⟨p1, p2, p3, p4, r1, r2, r3, r4⟩ := hP
  have h70 := p3.2.1
  have hnl := nl_lx p3 p
  have hs := sk_le (tc := tc) p4
  obtain ⟨⟨g0, g1, g2, g3, g4, g5, g6, g7, g8, g9, g10, -⟩, ⟨a0, a1, a2, a3, a4, a5, a6, a7, a8, a9, -⟩, ⟨l0, l1, l2, l3, l4, l5, l6, l7, l8, l9, -⟩⟩ := hG
  obtain hk | ⟨k4, k0⟩ := kdN_le (c := nl tl tc p)
  · have hR : tlR tl tc p τ = .inl (sk tl tc p) := by unfold tlR; rw [if_pos hk]
    have hv : kiv (nl tl tc p) = -4 := by unfold kiv; rw [if_pos hk]
    generalize hM : up2 (up2 (up2 (up2 m 158 10 (nI (sk tl tc p))) 158 11 (nI (sk tl tc p))) 158 10 (nI (sk tl tc p + 1))) 167 (τ 44) (-4) = M
    have M10 : M 158 10 = nI (sk tl tc p + 1) := by rw [← hM, up2_n (by decide), up2_s]
    have M11 : M 158 11 = nI (sk tl tc p) := by rw [← hM, up2_n (by decide), up2_k (by decide), up2_s]
    have M12 : M 158 12 = nI (τ 45) := by rw [← hM, up2_n (by decide), up2_k (by decide), up2_k (by decide), up2_k (by decide)]; exact r1
    have M13 : M 158 13 = nI (τ 44) := by rw [← hM, up2_n (by decide), up2_k (by decide), up2_k (by decide), up2_k (by decide)]; exact r2
    have MT : RT M tl tc := by rw [← hM]; exact RT_a (RT_u (RT_u (RT_u p3 (by decide)) (by decide)) (by decide)) (by decide)
    have MF : FPX m M := by rw [← hM]; exact (((FPX.rf.uu (by decide)).uu (by decide)).uu (by decide)).aa (by decide)
    have e2 := x_num_f (ml := ml) (u := nI 1) (v := nI 20) hG0 MT M10 M11 (by omega) (by omega)
    have hq := sk_mx (tl := tl) (tc := tc) (sk tl tc p + 1)
    refine ⟨up2 (up2 (up2 M 158 10 (nI (sk tl tc (sk tl tc p + 1)))) 168 (τ 44) (nI 0)) 158 13 (nI (τ 44 + 1)), ?_, FPX.tr MF (((FPX.rf.uu (by decide)).aa (by decide)).uu (by decide)), fun f' z => ?_, fun e τ' z => by rw [hR] at z; cases z⟩
    · apply res_of
      show Wp mX7_readsTeller 0 [some (.ref 158), none, none] [] (G, m, ml) _
      refine w_ltr hG0 p3 p1 (by omega) (w_kd hnl ?_)
      rw [hv]
      simp (maxSteps := 1000000) (decide := true) (disch := (first | assumption | omega | exact Nat.div_mul_le_self _ _ | exact ni_nz (by omega) (by omega) | exact rfl | exact retOk_bI _ | exact retOk_0 | exact retOk_1)) only [eX7_readsTeller_82, eX7_readsTeller_83, eX7_readsTeller_85, eX7_readsTeller_88, eX7_readsTeller_89, eX7_readsTeller_92, eX7_readsTeller_94, eX7_readsTeller_97, eX7_readsTeller_98, eX7_readsTeller_99, eX7_readsTeller_102, eX7_readsTeller_105, eX7_readsTeller_106, eX7_readsTeller_107, eX7_readsTeller_110, eX7_readsTeller_111, eX7_readsTeller_112, eX7_readsTeller_115, eX7_readsTeller_116, eX7_readsTeller_119, eX7_readsTeller_120, eX7_readsTeller_123, eX7_readsTeller_124, eX7_readsTeller_125, eX7_readsTeller_126, eX7_readsTeller_129, eX7_readsTeller_130, eX7_readsTeller_133, eX7_readsTeller_134, eX7_readsTeller_135, eX7_readsTeller_137, eX7_readsTeller_140, eX7_readsTeller_141, eX7_readsTeller_142, eX7_readsTeller_143, eX7_readsTeller_146, eX7_readsTeller_147, eX7_readsTeller_148, eX7_readsTeller_151, p2, g9, g10, r2, hM, M13, e2, WpR_some, Option.toList_some, Option.toList_none, List.cons_append, List.nil_append, List.append_nil, clr_n, clr_i, clr_a, ni_add, ni_mul, ni_sub, ni_lt, ni_le, ni_eq, ni_div, nat_mod_eq, ni_rem, iMax_nn, iMin_nn, iMax_sub, Nat.zero_max, bI_0, bI_1, bI_n0, up2_s, up2_n, up2_k, va_up_self, va_up_ne, ni_l, lN_mul, lN_add, ln_mask, lN_i, ↓reduceIte, if_true, if_false, not_true_eq_false, not_false_eq_true, ite_self, Nat.add_zero, Nat.zero_add, ent_def]
    · rw [hR] at z; cases z
      exact ⟨⟨sk tl tc (sk tl tc p + 1), by rw [up2_k (by decide), up2_n (by decide), up2_s], by omega⟩, by rw [up2_k (by decide), up2_n (by decide), up2_k (by decide)]; exact M11, hs, RT_u (RT_a (RT_u MT (by decide)) (by decide)) (by decide), ⟨τ 45, by rw [up2_k (by decide), up2_n (by decide), up2_k (by decide)]; exact M12, h4⟩, τ 44 + 1, by rw [up2_s], by omega⟩
  · have hd : ¬ kdN (nl tl tc p) = 9 := by omega
    have hlt := nl_lt (tl := tl) (tc := tc) (p := p) k0
    have hv : kiv (nl tl tc p) = nI (kdN (nl tl tc p)) := by unfold kiv; rw [if_neg hd]
    have hv4 := n4 (x := kdN (nl tl tc p)) (by omega)
    generalize hkd : kdN (nl tl tc p) = kd at *
    generalize hM : up2 (up2 m 158 10 (nI (sk tl tc p + 1))) 167 (τ 44) (nI kd) = M
    have M10 : M 158 10 = nI (sk tl tc p + 1) := by rw [← hM, up2_n (by decide), up2_s]
    have M11 : M 158 11 = -4 := by rw [← hM, up2_n (by decide), up2_k (by decide)]; exact p2
    have M12 : M 158 12 = nI (τ 45) := by rw [← hM, up2_n (by decide), up2_k (by decide)]; exact r1
    have M13 : M 158 13 = nI (τ 44) := by rw [← hM, up2_n (by decide), up2_k (by decide)]; exact r2
    have MT : RT M tl tc := by rw [← hM]; exact RT_a (RT_u p3 (by decide)) (by decide)
    have MF : FPX m M := by rw [← hM]; exact (FPX.rf.uu (by decide)).aa (by decide)
    have M165 : M 165 = m 165 := by rw [← hM, up2_n (by decide), up2_n (by decide)]
    have M166 : M 166 = m 166 := by rw [← hM, up2_n (by decide), up2_n (by decide)]
    have M167 : M 167 (τ 44) = nI kd := by rw [← hM, up2_s]
    have M167' : ∀ k, k ≠ τ 44 → M 167 k = m 167 k := fun k hk => by rw [← hM, up2_k hk, up2_n (by decide)]
    have M168 : M 168 = m 168 := by rw [← hM, up2_n (by decide), up2_n (by decide)]
    cases hn : numR tl tc 1 20 (sk tl tc p + 1) with
    | inl f =>
      have hR : tlR tl tc p τ = .inl f := by unfold tlR; rw [hkd, if_neg hd, hn]
      obtain ⟨x, a, e3, hx, ha, hf⟩ := x_num_fl (ml := ml) hG0 MT M10 M11 (by omega) (by decide) (by decide) hn
      refine ⟨up2 (up2 (up2 (up2 M 158 10 (nI a)) 158 11 (nI f)) 168 (τ 44) (nI x)) 158 13 (nI (τ 44 + 1)), ?_, FPX.tr MF ((((FPX.rf.uu (by decide)).uu (by decide)).aa (by decide)).uu (by decide)), fun f' z => ?_, fun e τ' z => by rw [hR] at z; cases z⟩
      · apply res_of
        show Wp mX7_readsTeller 0 [some (.ref 158), none, none] [] (G, m, ml) _
        refine w_ltr hG0 p3 p1 (by omega) (w_kd hnl ?_)
        rw [hv]
        simp (maxSteps := 1000000) (decide := true) (disch := (first | assumption | omega | exact Nat.div_mul_le_self _ _ | exact ni_nz (by omega) (by omega) | exact rfl | exact retOk_bI _ | exact retOk_0 | exact retOk_1)) only [eX7_readsTeller_82, eX7_readsTeller_83, eX7_readsTeller_85, eX7_readsTeller_88, eX7_readsTeller_89, eX7_readsTeller_92, eX7_readsTeller_94, eX7_readsTeller_97, eX7_readsTeller_98, eX7_readsTeller_99, eX7_readsTeller_102, eX7_readsTeller_105, eX7_readsTeller_106, eX7_readsTeller_107, eX7_readsTeller_110, eX7_readsTeller_111, eX7_readsTeller_112, eX7_readsTeller_115, eX7_readsTeller_116, eX7_readsTeller_119, eX7_readsTeller_120, eX7_readsTeller_123, eX7_readsTeller_124, eX7_readsTeller_125, eX7_readsTeller_126, eX7_readsTeller_129, eX7_readsTeller_130, eX7_readsTeller_133, eX7_readsTeller_134, eX7_readsTeller_135, eX7_readsTeller_137, eX7_readsTeller_140, eX7_readsTeller_141, eX7_readsTeller_142, eX7_readsTeller_143, eX7_readsTeller_146, eX7_readsTeller_147, eX7_readsTeller_148, eX7_readsTeller_151, hv4, g9, g10, r2, up2_2, hM, M13, e3, WpR_some, Option.toList_some, Option.toList_none, List.cons_append, List.nil_append, List.append_nil, clr_n, clr_i, clr_a, ni_add, ni_mul, ni_sub, ni_lt, ni_le, ni_eq, ni_div, nat_mod_eq, ni_rem, iMax_nn, iMin_nn, iMax_sub, Nat.zero_max, bI_0, bI_1, bI_n0, up2_s, up2_n, up2_k, va_up_self, va_up_ne, ni_l, lN_mul, lN_add, ln_mask, lN_i, ↓reduceIte, if_true, if_false, not_true_eq_false, not_false_eq_true, ite_self, Nat.add_zero, Nat.zero_add, ent_def]
      · rw [hR] at z; cases z
        exact ⟨⟨a, by rw [up2_k (by decide), up2_n (by decide), up2_k (by decide), up2_s], by omega⟩, by rw [up2_k (by decide), up2_n (by decide), up2_s], hf, RT_u (RT_a (RT_u (RT_u MT (by decide)) (by decide)) (by decide)) (by decide), ⟨τ 45, by rw [up2_k (by decide), up2_n (by decide), up2_k (by decide), up2_k (by decide)]; exact M12, h4⟩, τ 44 + 1, by rw [up2_s], by omega⟩
    | inr a =>
      obtain ⟨x, e⟩ := a
      have hR : tlR tl tc p τ = .inr (e, addT τ kd x) := by unfold tlR; rw [hkd, if_neg hd, hn]
      obtain ⟨e3, hx, hx2, he⟩ := x_num_ok (ml := ml) hG0 MT M10 M11 (by omega) (by decide) (by decide) hn
      refine ⟨up2 (up2 (up2 M 158 10 (nI e)) 168 (τ 44) (nI x)) 158 13 (nI (τ 44 + 1)), ?_, FPX.tr MF (((FPX.rf.uu (by decide)).aa (by decide)).uu (by decide)), fun f' z => (by rw [hR] at z; cases z), fun e τ' z => ?_⟩
      · apply res_of
        show Wp mX7_readsTeller 0 [some (.ref 158), none, none] [] (G, m, ml) _
        refine w_ltr hG0 p3 p1 (by omega) (w_kd hnl ?_)
        rw [hv]
        simp (maxSteps := 1000000) (decide := true) (disch := (first | assumption | omega | exact Nat.div_mul_le_self _ _ | exact ni_nz (by omega) (by omega) | exact rfl | exact retOk_bI _ | exact retOk_0 | exact retOk_1)) only [eX7_readsTeller_82, eX7_readsTeller_83, eX7_readsTeller_85, eX7_readsTeller_88, eX7_readsTeller_89, eX7_readsTeller_92, eX7_readsTeller_94, eX7_readsTeller_97, eX7_readsTeller_98, eX7_readsTeller_99, eX7_readsTeller_102, eX7_readsTeller_105, eX7_readsTeller_106, eX7_readsTeller_107, eX7_readsTeller_110, eX7_readsTeller_111, eX7_readsTeller_112, eX7_readsTeller_115, eX7_readsTeller_116, eX7_readsTeller_119, eX7_readsTeller_120, eX7_readsTeller_123, eX7_readsTeller_124, eX7_readsTeller_125, eX7_readsTeller_126, eX7_readsTeller_129, eX7_readsTeller_130, eX7_readsTeller_133, eX7_readsTeller_134, eX7_readsTeller_135, eX7_readsTeller_137, eX7_readsTeller_140, eX7_readsTeller_141, eX7_readsTeller_142, eX7_readsTeller_143, eX7_readsTeller_146, eX7_readsTeller_147, eX7_readsTeller_148, eX7_readsTeller_151, hv4, g9, g10, r2, up2_2, hM, M13, e3, WpR_some, Option.toList_some, Option.toList_none, List.cons_append, List.nil_append, List.append_nil, clr_n, clr_i, clr_a, ni_add, ni_mul, ni_sub, ni_lt, ni_le, ni_eq, ni_div, nat_mod_eq, ni_rem, iMax_nn, iMin_nn, iMax_sub, Nat.zero_max, bI_0, bI_1, bI_n0, up2_s, up2_n, up2_k, va_up_self, va_up_ne, ni_l, lN_mul, lN_add, ln_mask, lN_i, ↓reduceIte, if_true, if_false, not_true_eq_false, not_false_eq_true, ite_self, Nat.add_zero, Nat.zero_add, ent_def]
      · rw [hR] at z; cases z
        have e45 : addT τ kd x 45 = τ 45 := adT_n h5 (by omega) (by omega) (by omega) (by omega)
        refine ⟨by rw [up2_k (by decide), up2_n (by decide), up2_s], by rw [up2_k (by decide), up2_n (by decide), up2_k (by decide)]; exact M11, RT_u (RT_a (RT_u MT (by decide)) (by decide)) (by decide), he, by rw [up2_k (by decide), up2_n (by decide), up2_k (by decide), e45]; exact M12, by rw [up2_s, addT_44], ?_, ?_⟩
        · intro k hk
          rw [e45] at hk
          rw [up2_n (by decide), up2_n (by decide), up2_n (by decide), up2_n (by decide), up2_n (by decide), up2_n (by decide), M165, M166, adT_n h5 (by omega) (by omega) (by omega) (by omega), adT_n h5 (by omega) (by omega) (by omega) (by omega)]
          exact r3 k hk
        · intro k hk
          rw [addT_44] at hk
          rw [up2_n (by decide), up2_n (by decide), up2_n (by decide), up2_n (by decide)]
          by_cases hq : k = τ 44
          · subst hq
            have e1 : addT τ kd x (46 + τ 44) = kd := by unfold addT; rw [upN_n (by omega), upN_n (by omega), upN_n (by omega), upN_s]
            have e2 : addT τ kd x (5 + τ 44) = x := by unfold addT; rw [upN_n (by omega), upN_n (by omega), upN_s]
            rw [e1, e2, up2_s]
            exact ⟨M167, rfl⟩
          · rw [adT_n h5 (by omega) (by omega) (by omega) (by omega), adT_n h5 (by omega) (by omega) (by omega) (by omega), up2_k hq, up2_n (by decide), M168, M167' k hq]
            exact r4 k (by omega)
theorem RF.at (h : RF m tl tc A f) (hq : q ≤ A) : RF (up2 m 158 10 (nI q)) tl tc A f := by
  obtain ⟨-, h2, h3, h4, ⟨x, h5, h6⟩, y, h7, h8⟩ := h
  exact ⟨⟨q, by rw [up2_s], hq⟩, by rw [up2_k (by decide)]; exact h2, h3, RT_u h4 (by decide), ⟨x, by rw [up2_k (by decide)]; exact h5, h6⟩, y, by rw [up2_k (by decide)]; exact h7, h8⟩
theorem RF.mn {B : Nat} (h : RF m tl tc A f) (hB : A ≤ B) : RF m tl tc B f := by
  obtain ⟨⟨a, h0, h1⟩, h2⟩ := h
  exact ⟨⟨a, h0, by omega⟩, h2⟩
theorem x_sg (hG : GM G) (hP : RP m tl tc p τ) (h4 : τ 44 ≤ 5) (h5 : τ 45 ≤ 5) : ∃ m', res mX7_sign [.ref 158, .int (nI 59)] (G, m, ml) = some (none, (G, m', ml)) ∧ FPX m m' ∧ (∀ f, sgR tl tc p τ = .inl f → RF m' tl tc 71 f) ∧ ∀ e τ', sgR tl tc p τ = .inr (e, τ') → RP m' tl tc e τ' := by
  have h70 := hP.2.2.1.2.1
  have e := x_here (ml := ml) (c := 59) hG hP.2.2.1 hP.1 hP.2.1 (by have := hP.2.2.2.1; omega) (by decide) (by decide)
  have hs := sk_le (tc := tc) hP.2.2.2.1
  have p2 := hP.2.1
  obtain ⟨⟨g0, -⟩, -⟩ := hG
  by_cases h : nl tl tc p = 59
  · have hR : sgR tl tc p τ = .inr (sk tl tc p + 1, τ) := by unfold sgR; rw [if_pos h]
    have hlt := nl_lt (tl := tl) (tc := tc) (p := p) (by omega)
    simp only [h, decide_true] at e
    refine ⟨up2 m 158 10 (nI (sk tl tc p + 1)), ?_, FPX.rf.uu (by decide), fun f z => (by rw [hR] at z; cases z), fun e τ' z => by rw [hR] at z; cases z; exact hP.at (by omega)⟩
    apply res_of
    show Wp mX7_sign 0 [some (.ref 158), some (.int (nI 59))] [] (G, m, ml) _
    simp (maxSteps := 1000000) (decide := true) (disch := (first | assumption | omega | exact Nat.div_mul_le_self _ _ | exact ni_nz (by omega) (by omega) | exact rfl | exact retOk_bI _ | exact retOk_0 | exact retOk_1)) only [eX7_sign_0, eX7_sign_1, eX7_sign_4, eX7_sign_6, eX7_sign_9, eX7_sign_10, eX7_sign_11, eX7_sign_14, eX7_sign_17, eX7_sign_18, eX7_sign_19, eX7_sign_22, eX7_sign_25, eX7_sign_26, eX7_sign_27, eX7_sign_30, eX7_sign_31, eX7_sign_32, eX7_sign_35, p2, e, up2_2, WpR_some, Option.toList_some, Option.toList_none, List.cons_append, List.nil_append, List.append_nil, clr_n, clr_i, clr_a, ni_add, ni_mul, ni_sub, ni_lt, ni_le, ni_eq, ni_div, nat_mod_eq, ni_rem, iMax_nn, iMin_nn, iMax_sub, Nat.zero_max, bI_0, bI_1, bI_n0, up2_s, up2_n, up2_k, va_up_self, va_up_ne, ni_l, lN_mul, lN_add, ln_mask, lN_i, ↓reduceIte, if_true, if_false, not_true_eq_false, not_false_eq_true, ite_self, Nat.add_zero, Nat.zero_add, ent_def]
  · have hR : sgR tl tc p τ = .inl (sk tl tc p) := by unfold sgR; rw [if_neg h]
    simp only [h, decide_false] at e
    refine ⟨up2 (up2 (up2 m 158 10 (nI (sk tl tc p))) 158 11 (nI (sk tl tc p))) 158 10 (nI (sk tl tc p + 1)), ?_, ((FPX.rf.uu (by decide)).uu (by decide)).uu (by decide), fun f z => ?_, fun e τ' z => by rw [hR] at z; cases z⟩
    · apply res_of
      show Wp mX7_sign 0 [some (.ref 158), some (.int (nI 59))] [] (G, m, ml) _
      simp (maxSteps := 1000000) (decide := true) (disch := (first | assumption | omega | exact Nat.div_mul_le_self _ _ | exact ni_nz (by omega) (by omega) | exact rfl | exact retOk_bI _ | exact retOk_0 | exact retOk_1)) only [eX7_sign_0, eX7_sign_1, eX7_sign_4, eX7_sign_6, eX7_sign_9, eX7_sign_10, eX7_sign_11, eX7_sign_14, eX7_sign_17, eX7_sign_18, eX7_sign_19, eX7_sign_22, eX7_sign_25, eX7_sign_26, eX7_sign_27, eX7_sign_30, eX7_sign_31, eX7_sign_32, eX7_sign_35, p2, e, WpR_some, Option.toList_some, Option.toList_none, List.cons_append, List.nil_append, List.append_nil, clr_n, clr_i, clr_a, ni_add, ni_mul, ni_sub, ni_lt, ni_le, ni_eq, ni_div, nat_mod_eq, ni_rem, iMax_nn, iMin_nn, iMax_sub, Nat.zero_max, bI_0, bI_1, bI_n0, up2_s, up2_n, up2_k, va_up_self, va_up_ne, ni_l, lN_mul, lN_add, ln_mask, lN_i, ↓reduceIte, if_true, if_false, not_true_eq_false, not_false_eq_true, ite_self, Nat.add_zero, Nat.zero_add, ent_def]
    · rw [hR] at z; cases z
      exact ⟨⟨sk tl tc p + 1, by rw [up2_s], by omega⟩, by rw [up2_k (by decide), up2_s], hs, RT_u (RT_u (RT_u hP.2.2.1 (by decide)) (by decide)) (by decide), ⟨τ 45, by rw [up2_k (by decide), up2_k (by decide), up2_k (by decide)]; exact hP.2.2.2.2.1, h5⟩, τ 44, by rw [up2_k (by decide), up2_k (by decide), up2_k (by decide)]; exact hP.2.2.2.2.2.1, h4⟩
theorem x_sg_f (hG : GM G) (hF : RF m tl tc A f) (hA : A ≤ 190) : ∃ m', res mX7_sign [.ref 158, .int v] (G, m, ml) = some (none, (G, m', ml)) ∧ FPX m m' ∧ RF m' tl tc (A + 1) f := by
  have hF0 := hF
  obtain ⟨⟨a, h0, h1⟩, h2, h3, h4, -⟩ := hF
  have h70 := h4.2.1
  have n := n4 (x := f) (by omega)
  obtain ⟨⟨g0, -⟩, -⟩ := hG
  refine ⟨up2 m 158 10 (nI (a + 1)), ?_, FPX.rf.uu (by decide), (hF0.mn (by omega)).at (by omega)⟩
  apply res_of
  show Wp mX7_sign 0 [some (.ref 158), some (.int v)] [] (G, m, ml) _
  simp (maxSteps := 1000000) (decide := true) (disch := (first | assumption | omega | exact Nat.div_mul_le_self _ _ | exact ni_nz (by omega) (by omega) | exact rfl | exact retOk_bI _ | exact retOk_0 | exact retOk_1)) only [eX7_sign_0, eX7_sign_1, eX7_sign_4, eX7_sign_6, eX7_sign_9, eX7_sign_10, eX7_sign_11, eX7_sign_14, eX7_sign_17, eX7_sign_18, eX7_sign_19, eX7_sign_22, eX7_sign_25, eX7_sign_26, eX7_sign_27, eX7_sign_30, eX7_sign_31, eX7_sign_32, eX7_sign_35, h2, n, h0, WpR_some, Option.toList_some, Option.toList_none, List.cons_append, List.nil_append, List.append_nil, clr_n, clr_i, clr_a, ni_add, ni_mul, ni_sub, ni_lt, ni_le, ni_eq, ni_div, nat_mod_eq, ni_rem, iMax_nn, iMin_nn, iMax_sub, Nat.zero_max, bI_0, bI_1, bI_n0, up2_s, up2_n, up2_k, va_up_self, va_up_ne, ni_l, lN_mul, lN_add, ln_mask, lN_i, ↓reduceIte, if_true, if_false, not_true_eq_false, not_false_eq_true, ite_self, Nat.add_zero, Nat.zero_add, ent_def]
theorem x_hf (hG : GM G) (hF : RF m tl tc A f) (hA : A ≤ 200) (hA2 : 70 ≤ A) : ∃ m', res mX7_isHere [.ref 158, .int v] (G, m, ml) = some (some (.int (bI false)), (G, m', ml)) ∧ FPX m m' ∧ RF m' tl tc A f := by
  have hF0 := hF
  obtain ⟨⟨a, h0, h1⟩, h2, h3, h4, -⟩ := hF
  have h70 := h4.2.1
  have hs := sk_mx (tl := tl) (tc := tc) a
  exact ⟨_, x_here_f hG h4 h0 h2 (by omega) (by omega), FPX.rf.uu (by decide), hF0.at (by omega)⟩
theorem x_st_f (hG : GM G) (hF : RF m tl tc A f) (hA : A ≤ 200) (hA2 : 70 ≤ A) : ∃ m', res mX7_readsStep [.ref 158] (G, m, ml) = some (none, (G, m', ml)) ∧ FPX m m' ∧ RF m' tl tc A f := by
  have F1 : RF (up2 m 158 14 (nI 1)) tl tc A f := by
    obtain ⟨⟨a, h0, h1⟩, h2, h3, h4, ⟨x, h5, h6⟩, y, h7, h8⟩ := hF
    exact ⟨⟨a, by rw [up2_k (by decide)]; exact h0, h1⟩, by rw [up2_k (by decide)]; exact h2, h3, RT_u h4 (by decide), ⟨x, by rw [up2_k (by decide)]; exact h5, h6⟩, y, by rw [up2_k (by decide)]; exact h7, h8⟩
  obtain ⟨m', e, F2, F3⟩ := x_hf (ml := ml) (v := nI 33) hG F1 hA hA2
  obtain ⟨⟨g0, -⟩, -⟩ := hG
  refine ⟨m', ?_, FPX.tr (FPX.rf.uu (by decide)) F2, F3⟩
  apply res_of
  show Wp mX7_readsStep 0 [some (.ref 158)] [] (G, m, ml) _
  simp (maxSteps := 1000000) (decide := true) (disch := (first | assumption | omega | exact Nat.div_mul_le_self _ _ | exact ni_nz (by omega) (by omega) | exact rfl | exact retOk_bI _ | exact retOk_0 | exact retOk_1)) only [eX7_readsStep_0, eX7_readsStep_1, eX7_readsStep_2, eX7_readsStep_5, eX7_readsStep_6, eX7_readsStep_8, eX7_readsStep_11, eX7_readsStep_14, eX7_readsStep_15, eX7_readsStep_16, eX7_readsStep_19, eX7_readsStep_20, eX7_readsStep_21, eX7_readsStep_24, eX7_readsStep_25, eX7_readsStep_28, eX7_readsStep_29, eX7_readsStep_32, eX7_readsStep_33, eX7_readsStep_36, eX7_readsStep_39, eX7_readsStep_40, eX7_readsStep_43, eX7_readsStep_44, eX7_readsStep_47, eX7_readsStep_48, eX7_readsStep_49, eX7_readsStep_52, eX7_readsStep_55, eX7_readsStep_58, eX7_readsStep_61, eX7_readsStep_62, eX7_readsStep_63, eX7_readsStep_66, eX7_readsStep_67, eX7_readsStep_70, eX7_readsStep_71, eX7_readsStep_73, eX7_readsStep_74, eX7_readsStep_77, eX7_readsStep_80, eX7_readsStep_81, eX7_readsStep_82, eX7_readsStep_85, eX7_readsStep_88, eX7_readsStep_89, eX7_readsStep_90, eX7_readsStep_93, eX7_readsStep_94, eX7_readsStep_95, eX7_readsStep_98, e, WpR_some, Option.toList_some, Option.toList_none, List.cons_append, List.nil_append, List.append_nil, clr_n, clr_i, clr_a, ni_add, ni_mul, ni_sub, ni_lt, ni_le, ni_eq, ni_div, nat_mod_eq, ni_rem, iMax_nn, iMin_nn, iMax_sub, Nat.zero_max, bI_0, bI_1, bI_n0, up2_s, up2_n, up2_k, va_up_self, va_up_ne, ni_l, lN_mul, lN_add, ln_mask, lN_i, ↓reduceIte, if_true, if_false, not_true_eq_false, not_false_eq_true, ite_self, Nat.add_zero, Nat.zero_add, ent_def]
theorem x_st (hG : GM G) (hP : RP m tl tc p τ) (h4 : τ 44 ≤ 5) (h5 : τ 45 ≤ 5) (h1 : τ 41 = 1) : ∃ m', res mX7_readsStep [.ref 158] (G, m, ml) = some (none, (G, m', ml)) ∧ FPX m m' ∧ (∀ f, stR tl tc p τ = .inl f → RF m' tl tc 71 f) ∧ ∀ e τ', stR tl tc p τ = .inr (e, τ') → RP m' tl tc e τ' ∧ m' 158 14 = nI (τ' 41) := by
  obtain ⟨p1, p2, p3, p4, p5⟩ := hP
  have h70 := p3.2.1
  have hG0 := hG
  have e := x_here (ml := ml) (c := 33) (m := up2 m 158 14 (nI 1)) (p := p) hG (RT_u p3 (by decide)) (by rw [up2_k (by decide)]; exact p1) (by rw [up2_k (by decide)]; exact p2) (by omega) (by decide) (by decide)
  have hs := sk_le (tc := tc) p4
  obtain ⟨⟨g0, g1, g2, -⟩, ⟨a0, a1, -⟩, ⟨l0, l1, -⟩⟩ := hG
  by_cases h : nl tl tc p = 33
  · have hlt := nl_lt (tl := tl) (tc := tc) (p := p) (by omega)
    simp only [h, decide_true] at e
    have T2 : RT (up2 (up2 m 158 14 (nI 1)) 158 10 (nI (sk tl tc p + 1))) tl tc := RT_u (RT_u p3 (by decide)) (by decide)
    have e2 := x_pass (ml := ml) (p := sk tl tc p + 1) hG0 T2 (by rw [up2_s]) (by omega)
    rw [up2_2] at e2
    have hs2 := sk_le (tl := tl) (tc := tc) (p := sk tl tc p + 1) (by omega)
    generalize hq : sk tl tc (sk tl tc p + 1) = q at *
    by_cases hr : 48 ≤ nl tl tc (sk tl tc p + 1) ∧ nl tl tc (sk tl tc p + 1) ≤ 52
    · have hlt2 := nl_lt (tl := tl) (tc := tc) (p := sk tl tc p + 1) (by omega)
      have hnl : nl tl tc (sk tl tc p + 1) = tc q := by unfold nl; rw [if_pos hlt2, hq]
      have hR : stR tl tc p τ = .inr (q + 1, upN τ 41 (tc q - 48)) := by unfold stR; rw [if_pos h, if_pos hr, hnl, hq]
      rw [hq] at hlt2
      rw [hnl] at hr
      obtain ⟨d1, -, -⟩ := p3.2.2 q hlt2
      have hlt3 : ¬ tl ≤ q := by omega
      have w1 := fun μ => r_inN (x := tc q) (lo := 48) (hi := 52) (μ := μ) (by decide) (by decide) (by omega)
      simp only [hr, decide_true, and_self] at w1
      have h48 := hr.1
      have c1 := p3.1
      refine ⟨up2 (up2 (up2 (up2 m 158 14 (nI 1)) 158 10 (nI q)) 158 14 (nI (tc q - 48))) 158 10 (nI (q + 1)), ?_, (((FPX.rf.uu (by decide)).uu (by decide)).uu (by decide)).uu (by decide), fun f z => (by rw [hR] at z; cases z), fun e τ' z => ?_⟩
      · apply res_of
        show Wp mX7_readsStep 0 [some (.ref 158)] [] (G, m, ml) _
        simp (maxSteps := 1000000) (decide := true) (disch := (first | assumption | omega | exact Nat.div_mul_le_self _ _ | exact ni_nz (by omega) (by omega) | exact rfl | exact retOk_bI _ | exact retOk_0 | exact retOk_1)) only [eX7_readsStep_0, eX7_readsStep_1, eX7_readsStep_2, eX7_readsStep_5, eX7_readsStep_6, eX7_readsStep_8, eX7_readsStep_11, eX7_readsStep_14, eX7_readsStep_15, eX7_readsStep_16, eX7_readsStep_19, eX7_readsStep_20, eX7_readsStep_21, eX7_readsStep_24, eX7_readsStep_25, eX7_readsStep_28, eX7_readsStep_29, eX7_readsStep_32, eX7_readsStep_33, eX7_readsStep_36, eX7_readsStep_39, eX7_readsStep_40, eX7_readsStep_43, eX7_readsStep_44, eX7_readsStep_47, eX7_readsStep_48, eX7_readsStep_49, eX7_readsStep_52, eX7_readsStep_55, eX7_readsStep_58, eX7_readsStep_61, eX7_readsStep_62, eX7_readsStep_63, eX7_readsStep_66, eX7_readsStep_67, eX7_readsStep_70, eX7_readsStep_71, eX7_readsStep_73, eX7_readsStep_74, eX7_readsStep_77, eX7_readsStep_80, eX7_readsStep_81, eX7_readsStep_82, eX7_readsStep_85, eX7_readsStep_88, eX7_readsStep_89, eX7_readsStep_90, eX7_readsStep_93, eX7_readsStep_94, eX7_readsStep_95, eX7_readsStep_98, e, e2, up2_2, c1, hlt3, g2, d1, w1, WpR_some, Option.toList_some, Option.toList_none, List.cons_append, List.nil_append, List.append_nil, clr_n, clr_i, clr_a, ni_add, ni_mul, ni_sub, ni_lt, ni_le, ni_eq, ni_div, nat_mod_eq, ni_rem, iMax_nn, iMin_nn, iMax_sub, Nat.zero_max, bI_0, bI_1, bI_n0, up2_s, up2_n, up2_k, va_up_self, va_up_ne, ni_l, lN_mul, lN_add, ln_mask, lN_i, ↓reduceIte, if_true, if_false, not_true_eq_false, not_false_eq_true, ite_self, Nat.add_zero, Nat.zero_add, ent_def]
      · rw [hR] at z; cases z
        refine ⟨⟨by rw [up2_s], by rw [up2_k (by decide), up2_k (by decide), up2_k (by decide), up2_k (by decide)]; exact p2, RT_u (RT_u (RT_u (RT_u p3 (by decide)) (by decide)) (by decide)) (by decide), by omega, ?_⟩, by rw [up2_k (by decide), up2_s, upN_s]⟩
        obtain ⟨z1, z2, z3, z4⟩ := RLd_u (v := nI (q + 1)) (k := 10) (RLd_u (v := nI (tc q - 48)) (k := 14) (RLd_u (v := nI q) (k := 10) (RLd_u (v := nI 1) (k := 14) p5 (by decide)) (by decide)) (by decide)) (by decide)
        exact ⟨by rw [upN_n (by decide)]; exact z1, by rw [upN_n (by decide)]; exact z2, fun k hk => by rw [upN_n (by decide)] at hk; rw [upN_n (by omega), upN_n (by omega)]; exact z3 k hk, fun k hk => by rw [upN_n (by decide)] at hk; rw [upN_n (by omega), upN_n (by omega)]; exact z4 k hk⟩
    · have hR : stR tl tc p τ = .inl q := by unfold stR; rw [if_pos h, if_neg hr, hq]
      have c1 := p3.1
      refine ⟨up2 (up2 (up2 (up2 m 158 14 (nI 1)) 158 10 (nI q)) 158 11 (nI q)) 158 10 (nI (q + 1)), ?_, (((FPX.rf.uu (by decide)).uu (by decide)).uu (by decide)).uu (by decide), fun f z => ?_, fun e τ' z => by rw [hR] at z; cases z⟩
      · apply res_of
        show Wp mX7_readsStep 0 [some (.ref 158)] [] (G, m, ml) _
        by_cases hlt3 : tl ≤ q
        · simp (maxSteps := 1000000) (decide := true) (disch := (first | assumption | omega | exact Nat.div_mul_le_self _ _ | exact ni_nz (by omega) (by omega) | exact rfl | exact retOk_bI _ | exact retOk_0 | exact retOk_1)) only [eX7_readsStep_0, eX7_readsStep_1, eX7_readsStep_2, eX7_readsStep_5, eX7_readsStep_6, eX7_readsStep_8, eX7_readsStep_11, eX7_readsStep_14, eX7_readsStep_15, eX7_readsStep_16, eX7_readsStep_19, eX7_readsStep_20, eX7_readsStep_21, eX7_readsStep_24, eX7_readsStep_25, eX7_readsStep_28, eX7_readsStep_29, eX7_readsStep_32, eX7_readsStep_33, eX7_readsStep_36, eX7_readsStep_39, eX7_readsStep_40, eX7_readsStep_43, eX7_readsStep_44, eX7_readsStep_47, eX7_readsStep_48, eX7_readsStep_49, eX7_readsStep_52, eX7_readsStep_55, eX7_readsStep_58, eX7_readsStep_61, eX7_readsStep_62, eX7_readsStep_63, eX7_readsStep_66, eX7_readsStep_67, eX7_readsStep_70, eX7_readsStep_71, eX7_readsStep_73, eX7_readsStep_74, eX7_readsStep_77, eX7_readsStep_80, eX7_readsStep_81, eX7_readsStep_82, eX7_readsStep_85, eX7_readsStep_88, eX7_readsStep_89, eX7_readsStep_90, eX7_readsStep_93, eX7_readsStep_94, eX7_readsStep_95, eX7_readsStep_98, e, e2, up2_2, c1, hlt3, WpR_some, Option.toList_some, Option.toList_none, List.cons_append, List.nil_append, List.append_nil, clr_n, clr_i, clr_a, ni_add, ni_mul, ni_sub, ni_lt, ni_le, ni_eq, ni_div, nat_mod_eq, ni_rem, iMax_nn, iMin_nn, iMax_sub, Nat.zero_max, bI_0, bI_1, bI_n0, up2_s, up2_n, up2_k, va_up_self, va_up_ne, ni_l, lN_mul, lN_add, ln_mask, lN_i, ↓reduceIte, if_true, if_false, not_true_eq_false, not_false_eq_true, ite_self, Nat.add_zero, Nat.zero_add, ent_def]
        · have hnl : nl tl tc (sk tl tc p + 1) = tc q := by unfold nl; rw [hq, if_pos (by omega)]
          rw [hnl] at hr
          obtain ⟨d1, d2, d3⟩ := p3.2.2 q (by omega)
          have w1 := fun μ => r_inN (x := tc q) (lo := 48) (hi := 52) (μ := μ) (by decide) (by decide) (by omega)
          simp only [hr, decide_false] at w1
          simp (maxSteps := 1000000) (decide := true) (disch := (first | assumption | omega | exact Nat.div_mul_le_self _ _ | exact ni_nz (by omega) (by omega) | exact rfl | exact retOk_bI _ | exact retOk_0 | exact retOk_1)) only [eX7_readsStep_0, eX7_readsStep_1, eX7_readsStep_2, eX7_readsStep_5, eX7_readsStep_6, eX7_readsStep_8, eX7_readsStep_11, eX7_readsStep_14, eX7_readsStep_15, eX7_readsStep_16, eX7_readsStep_19, eX7_readsStep_20, eX7_readsStep_21, eX7_readsStep_24, eX7_readsStep_25, eX7_readsStep_28, eX7_readsStep_29, eX7_readsStep_32, eX7_readsStep_33, eX7_readsStep_36, eX7_readsStep_39, eX7_readsStep_40, eX7_readsStep_43, eX7_readsStep_44, eX7_readsStep_47, eX7_readsStep_48, eX7_readsStep_49, eX7_readsStep_52, eX7_readsStep_55, eX7_readsStep_58, eX7_readsStep_61, eX7_readsStep_62, eX7_readsStep_63, eX7_readsStep_66, eX7_readsStep_67, eX7_readsStep_70, eX7_readsStep_71, eX7_readsStep_73, eX7_readsStep_74, eX7_readsStep_77, eX7_readsStep_80, eX7_readsStep_81, eX7_readsStep_82, eX7_readsStep_85, eX7_readsStep_88, eX7_readsStep_89, eX7_readsStep_90, eX7_readsStep_93, eX7_readsStep_94, eX7_readsStep_95, eX7_readsStep_98, e, e2, up2_2, c1, hlt3, g2, d1, w1, WpR_some, Option.toList_some, Option.toList_none, List.cons_append, List.nil_append, List.append_nil, clr_n, clr_i, clr_a, ni_add, ni_mul, ni_sub, ni_lt, ni_le, ni_eq, ni_div, nat_mod_eq, ni_rem, iMax_nn, iMin_nn, iMax_sub, Nat.zero_max, bI_0, bI_1, bI_n0, up2_s, up2_n, up2_k, va_up_self, va_up_ne, ni_l, lN_mul, lN_add, ln_mask, lN_i, ↓reduceIte, if_true, if_false, not_true_eq_false, not_false_eq_true, ite_self, Nat.add_zero, Nat.zero_add, ent_def]
      · rw [hR] at z; cases z
        exact ⟨⟨_, by rw [up2_s], by omega⟩, by rw [up2_k (by decide), up2_s], hs2, RT_u (RT_u (RT_u (RT_u p3 (by decide)) (by decide)) (by decide)) (by decide), ⟨τ 45, by rw [up2_k (by decide), up2_k (by decide), up2_k (by decide), up2_k (by decide)]; exact p5.1, h5⟩, τ 44, by rw [up2_k (by decide), up2_k (by decide), up2_k (by decide), up2_k (by decide)]; exact p5.2.1, h4⟩
  · have hR : stR tl tc p τ = .inr (sk tl tc p, τ) := by unfold stR; rw [if_neg h]
    simp only [h, decide_false] at e
    refine ⟨up2 (up2 m 158 14 (nI 1)) 158 10 (nI (sk tl tc p)), ?_, (FPX.rf.uu (by decide)).uu (by decide), fun f z => (by rw [hR] at z; cases z), fun e τ' z => ?_⟩
    · apply res_of
      show Wp mX7_readsStep 0 [some (.ref 158)] [] (G, m, ml) _
      simp (maxSteps := 1000000) (decide := true) (disch := (first | assumption | omega | exact Nat.div_mul_le_self _ _ | exact ni_nz (by omega) (by omega) | exact rfl | exact retOk_bI _ | exact retOk_0 | exact retOk_1)) only [eX7_readsStep_0, eX7_readsStep_1, eX7_readsStep_2, eX7_readsStep_5, eX7_readsStep_6, eX7_readsStep_8, eX7_readsStep_11, eX7_readsStep_14, eX7_readsStep_15, eX7_readsStep_16, eX7_readsStep_19, eX7_readsStep_20, eX7_readsStep_21, eX7_readsStep_24, eX7_readsStep_25, eX7_readsStep_28, eX7_readsStep_29, eX7_readsStep_32, eX7_readsStep_33, eX7_readsStep_36, eX7_readsStep_39, eX7_readsStep_40, eX7_readsStep_43, eX7_readsStep_44, eX7_readsStep_47, eX7_readsStep_48, eX7_readsStep_49, eX7_readsStep_52, eX7_readsStep_55, eX7_readsStep_58, eX7_readsStep_61, eX7_readsStep_62, eX7_readsStep_63, eX7_readsStep_66, eX7_readsStep_67, eX7_readsStep_70, eX7_readsStep_71, eX7_readsStep_73, eX7_readsStep_74, eX7_readsStep_77, eX7_readsStep_80, eX7_readsStep_81, eX7_readsStep_82, eX7_readsStep_85, eX7_readsStep_88, eX7_readsStep_89, eX7_readsStep_90, eX7_readsStep_93, eX7_readsStep_94, eX7_readsStep_95, eX7_readsStep_98, e, WpR_some, Option.toList_some, Option.toList_none, List.cons_append, List.nil_append, List.append_nil, clr_n, clr_i, clr_a, ni_add, ni_mul, ni_sub, ni_lt, ni_le, ni_eq, ni_div, nat_mod_eq, ni_rem, iMax_nn, iMin_nn, iMax_sub, Nat.zero_max, bI_0, bI_1, bI_n0, up2_s, up2_n, up2_k, va_up_self, va_up_ne, ni_l, lN_mul, lN_add, ln_mask, lN_i, ↓reduceIte, if_true, if_false, not_true_eq_false, not_false_eq_true, ite_self, Nat.add_zero, Nat.zero_add, ent_def]
    · rw [hR] at z; cases z
      exact ⟨⟨by rw [up2_s], by rw [up2_k (by decide), up2_k (by decide)]; exact p2, RT_u (RT_u p3 (by decide)) (by decide), hs, RLd_u (RLd_u p5 (by decide)) (by decide)⟩, by rw [up2_k (by decide), up2_s, h1]⟩
end XL3
