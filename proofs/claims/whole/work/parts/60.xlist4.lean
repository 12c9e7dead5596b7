section XL4
variable {G : List AT} {m m1 m2 m' : Nat → Nat → Int32} {ml : Nat → Nat → Int64} {tl n p q c e d f j i lo hi x y k A : Nat} {tc τ σ τ' : Nat → Nat} {u v w : Int32} {μ : Mm} {F : Nat → Nat → Nat}
theorem w_112 {Q : Option Value → Mm → Prop} (hG : GM G) (hF : RF m tl tc A f) (hA : A ≤ 190) (hA2 : 70 ≤ A) (k : ∀ m', FPX m m' → RF m' tl tc A f → Q none (G, m', ml)) : Wp mX7_readsAll 112 [some (.ref 158)] [] (G, m, ml) Q := by
  obtain ⟨m1, e1, F1, H1⟩ := x_st_f (ml := ml) hG hF (by omega) hA2
  have H10 := H1
  obtain ⟨⟨a, h0, h1⟩, h2, h3, h4, -⟩ := H1
  have h70 := h4.2.1
  have e2 := x_pass (ml := ml) hG h4 h0 (by omega)
  have hs := sk_mx (tl := tl) (tc := tc) a
  have n := n4 (x := f) (by omega)
  obtain ⟨⟨g0, -⟩, -⟩ := hG
  simp (maxSteps := 1000000) (decide := true) (disch := (first | assumption | omega | exact Nat.div_mul_le_self _ _ | exact ni_nz (by omega) (by omega) | exact rfl | exact retOk_bI _ | exact retOk_0 | exact retOk_1)) only [eX7_readsAll_112, eX7_readsAll_113, eX7_readsAll_116, eX7_readsAll_117, eX7_readsAll_120, eX7_readsAll_121, eX7_readsAll_124, eX7_readsAll_126, eX7_readsAll_129, eX7_readsAll_130, eX7_readsAll_133, eX7_readsAll_134, eX7_readsAll_137, eX7_readsAll_140, eX7_readsAll_141, eX7_readsAll_142, eX7_readsAll_145, eX7_readsAll_148, e1, e2, h2, n, WpR_some, Option.toList_some, Option.toList_none, List.cons_append, List.nil_append, List.append_nil, clr_n, clr_i, clr_a, ni_add, ni_mul, ni_sub, ni_lt, ni_le, ni_eq, ni_div, nat_mod_eq, ni_rem, iMax_nn, iMin_nn, iMax_sub, Nat.zero_max, bI_0, bI_1, bI_n0, up2_s, up2_n, up2_k, va_up_self, va_up_ne, ni_l, lN_mul, lN_add, ln_mask, lN_i, ↓reduceIte, if_true, if_false, not_true_eq_false, not_false_eq_true, ite_self, Nat.add_zero, Nat.zero_add, ent_def]
  exact k _ (FPX.tr F1 (FPX.rf.uu (by decide))) (H10.at (by omega))
theorem w_78 {Q : Option Value → Mm → Prop} (hG : GM G) (hF : RF m tl tc A f) (hA : A ≤ 190) (hA2 : 70 ≤ A) (k : ∀ m', FPX m m' → RF m' tl tc A f → Q none (G, m', ml)) : Wp mX7_readsAll 78 [some (.ref 158)] [] (G, m, ml) Q := by
  have hG0 := hG
  obtain ⟨y, hy, hy5⟩ := hF.2.2.2.2.2
  obtain ⟨m1, e1, F1, H1⟩ := x_hf (ml := ml) (v := nI 44) hG hF (by omega) hA2
  obtain ⟨⟨g0, -⟩, -⟩ := hG
  rw [eX7_readsAll_78]
  by_cases h : 5 ≤ y
  · simp (maxSteps := 1000000) (decide := true) (disch := (first | assumption | omega | exact Nat.div_mul_le_self _ _ | exact ni_nz (by omega) (by omega) | exact rfl | exact retOk_bI _ | exact retOk_0 | exact retOk_1)) only [eX7_readsAll_79, eX7_readsAll_82, eX7_readsAll_83, eX7_readsAll_86, eX7_readsAll_87, eX7_readsAll_89, eX7_readsAll_92, eX7_readsAll_95, eX7_readsAll_96, eX7_readsAll_97, eX7_readsAll_100, eX7_readsAll_101, eX7_readsAll_102, eX7_readsAll_105, eX7_readsAll_106, eX7_readsAll_109, hy, h, WpR_some, Option.toList_some, Option.toList_none, List.cons_append, List.nil_append, List.append_nil, clr_n, clr_i, clr_a, ni_add, ni_mul, ni_sub, ni_lt, ni_le, ni_eq, ni_div, nat_mod_eq, ni_rem, iMax_nn, iMin_nn, iMax_sub, Nat.zero_max, bI_0, bI_1, bI_n0, up2_s, up2_n, up2_k, va_up_self, va_up_ne, ni_l, lN_mul, lN_add, ln_mask, lN_i, ↓reduceIte, if_true, if_false, not_true_eq_false, not_false_eq_true, ite_self, Nat.add_zero, Nat.zero_add, ent_def]
    exact w_112 hG0 hF hA hA2 k
  · simp (maxSteps := 1000000) (decide := true) (disch := (first | assumption | omega | exact Nat.div_mul_le_self _ _ | exact ni_nz (by omega) (by omega) | exact rfl | exact retOk_bI _ | exact retOk_0 | exact retOk_1)) only [eX7_readsAll_79, eX7_readsAll_82, eX7_readsAll_83, eX7_readsAll_86, eX7_readsAll_87, eX7_readsAll_89, eX7_readsAll_92, eX7_readsAll_95, eX7_readsAll_96, eX7_readsAll_97, eX7_readsAll_100, eX7_readsAll_101, eX7_readsAll_102, eX7_readsAll_105, eX7_readsAll_106, eX7_readsAll_109, hy, h, e1, WpR_some, Option.toList_some, Option.toList_none, List.cons_append, List.nil_append, List.append_nil, clr_n, clr_i, clr_a, ni_add, ni_mul, ni_sub, ni_lt, ni_le, ni_eq, ni_div, nat_mod_eq, ni_rem, iMax_nn, iMin_nn, iMax_sub, Nat.zero_max, bI_0, bI_1, bI_n0, up2_s, up2_n, up2_k, va_up_self, va_up_ne, ni_l, lN_mul, lN_add, ln_mask, lN_i, ↓reduceIte, if_true, if_false, not_true_eq_false, not_false_eq_true, ite_self, Nat.add_zero, Nat.zero_add, ent_def]
    exact w_112 hG0 H1 hA hA2 (fun m' F' => k m' (FPX.tr F1 F'))
theorem w_59 {Q : Option Value → Mm → Prop} (hG : GM G) (hF : RF m tl tc A f) (hA : A ≤ 180) (hA2 : 70 ≤ A) (k : ∀ m', FPX m m' → RF m' tl tc (A + 1) f → Q none (G, m', ml)) : Wp mX7_readsAll 59 [some (.ref 158)] [] (G, m, ml) Q := by
  have hG0 := hG
  obtain ⟨m1, e1, F1, H1⟩ := x_sg_f (ml := ml) (v := nI 59) hG hF (by omega)
  have h2 := H1.2.1
  have h70 := H1.2.2.2.1.2.1
  have h3 := H1.2.2.1
  have n := n4 (x := f) (by omega)
  obtain ⟨⟨g0, -⟩, -⟩ := hG
  simp (maxSteps := 1000000) (decide := true) (disch := (first | assumption | omega | exact Nat.div_mul_le_self _ _ | exact ni_nz (by omega) (by omega) | exact rfl | exact retOk_bI _ | exact retOk_0 | exact retOk_1)) only [eX7_readsAll_59, eX7_readsAll_60, eX7_readsAll_62, eX7_readsAll_65, eX7_readsAll_66, eX7_readsAll_69, eX7_readsAll_71, eX7_readsAll_74, eX7_readsAll_75, e1, h2, n, WpR_some, Option.toList_some, Option.toList_none, List.cons_append, List.nil_append, List.append_nil, clr_n, clr_i, clr_a, ni_add, ni_mul, ni_sub, ni_lt, ni_le, ni_eq, ni_div, nat_mod_eq, ni_rem, iMax_nn, iMin_nn, iMax_sub, Nat.zero_max, bI_0, bI_1, bI_n0, up2_s, up2_n, up2_k, va_up_self, va_up_ne, ni_l, lN_mul, lN_add, ln_mask, lN_i, ↓reduceIte, if_true, if_false, not_true_eq_false, not_false_eq_true, ite_self, Nat.add_zero, Nat.zero_add, ent_def]
  exact w_78 hG0 H1 (by omega) (by omega) (fun m' F' => k m' (FPX.tr F1 F'))
theorem w_25 {Q : Option Value → Mm → Prop} (hG : GM G) (hF : RF m tl tc A f) (hA : A ≤ 180) (hA2 : 70 ≤ A) (k : ∀ m', FPX m m' → RF m' tl tc (A + 1) f → Q none (G, m', ml)) : Wp mX7_readsAll 25 [some (.ref 158)] [] (G, m, ml) Q := by
  have hG0 := hG
  obtain ⟨y, hy, hy5⟩ := hF.2.2.2.2.1
  obtain ⟨m1, e1, F1, H1⟩ := x_hf (ml := ml) (v := nI 44) hG hF (by omega) hA2
  obtain ⟨⟨g0, -⟩, -⟩ := hG
  rw [eX7_readsAll_25]
  by_cases h : 5 ≤ y
  · simp (maxSteps := 1000000) (decide := true) (disch := (first | assumption | omega | exact Nat.div_mul_le_self _ _ | exact ni_nz (by omega) (by omega) | exact rfl | exact retOk_bI _ | exact retOk_0 | exact retOk_1)) only [eX7_readsAll_26, eX7_readsAll_29, eX7_readsAll_30, eX7_readsAll_33, eX7_readsAll_34, eX7_readsAll_36, eX7_readsAll_39, eX7_readsAll_42, eX7_readsAll_43, eX7_readsAll_44, eX7_readsAll_47, eX7_readsAll_48, eX7_readsAll_49, eX7_readsAll_52, eX7_readsAll_53, eX7_readsAll_56, hy, h, WpR_some, Option.toList_some, Option.toList_none, List.cons_append, List.nil_append, List.append_nil, clr_n, clr_i, clr_a, ni_add, ni_mul, ni_sub, ni_lt, ni_le, ni_eq, ni_div, nat_mod_eq, ni_rem, iMax_nn, iMin_nn, iMax_sub, Nat.zero_max, bI_0, bI_1, bI_n0, up2_s, up2_n, up2_k, va_up_self, va_up_ne, ni_l, lN_mul, lN_add, ln_mask, lN_i, ↓reduceIte, if_true, if_false, not_true_eq_false, not_false_eq_true, ite_self, Nat.add_zero, Nat.zero_add, ent_def]
    exact w_59 hG0 hF hA hA2 k
  · simp (maxSteps := 1000000) (decide := true) (disch := (first | assumption | omega | exact Nat.div_mul_le_self _ _ | exact ni_nz (by omega) (by omega) | exact rfl | exact retOk_bI _ | exact retOk_0 | exact retOk_1)) only [eX7_readsAll_26, eX7_readsAll_29, eX7_readsAll_30, eX7_readsAll_33, eX7_readsAll_34, eX7_readsAll_36, eX7_readsAll_39, eX7_readsAll_42, eX7_readsAll_43, eX7_readsAll_44, eX7_readsAll_47, eX7_readsAll_48, eX7_readsAll_49, eX7_readsAll_52, eX7_readsAll_53, eX7_readsAll_56, hy, h, e1, WpR_some, Option.toList_some, Option.toList_none, List.cons_append, List.nil_append, List.append_nil, clr_n, clr_i, clr_a, ni_add, ni_mul, ni_sub, ni_lt, ni_le, ni_eq, ni_div, nat_mod_eq, ni_rem, iMax_nn, iMin_nn, iMax_sub, Nat.zero_max, bI_0, bI_1, bI_n0, up2_s, up2_n, up2_k, va_up_self, va_up_ne, ni_l, lN_mul, lN_add, ln_mask, lN_i, ↓reduceIte, if_true, if_false, not_true_eq_false, not_false_eq_true, ite_self, Nat.add_zero, Nat.zero_add, ent_def]
    exact w_59 hG0 H1 hA hA2 (fun m' F' => k m' (FPX.tr F1 F'))
/-- how the reading ends -/
def OutX (m : Nat → Nat → Int32) (tl : Nat) (tc : Nat → Nat) (R : Nat ⊕ (Nat × (Nat → Nat))) : Prop := (∀ f, R = .inl f → RF m tl tc 73 f) ∧ ∀ e τ, R = .inr (e, τ) → RP m tl tc e τ ∧ m 158 14 = nI (τ 41)
theorem v_112 {Q : Option Value → Mm → Prop} (hG : GM G) (hP : RP m tl tc p τ) (hz : ZH d τ) (ht : ZT τ) (k : ∀ m', FPX m m' → OutX m' tl tc (bndR (stR tl tc p τ) fun p τ => enR tl tc p τ) → Q none (G, m', ml)) : Wp mX7_readsAll 112 [some (.ref 158)] [] (G, m, ml) Q := by
  have hG0 := hG
  obtain ⟨m1, e1, F1, H1, H2⟩ := x_st (ml := ml) hG hP ht.1 hz.1 hz.2.2.1
  obtain ⟨⟨g0, -⟩, -⟩ := hG
  cases h3 : stR tl tc p τ with
  | inl f =>
    rw [h3, bnd_l] at k
    have K1 := H1 f h3
    have K10 := K1
    obtain ⟨⟨a, h0, h1⟩, h2, h3, h4, -⟩ := K1
    have h70 := h4.2.1
    have e2 := x_pass (ml := ml) hG0 h4 h0 (by omega)
    have hs := sk_mx (tl := tl) (tc := tc) a
    have n := n4 (x := f) (by omega)
    simp (maxSteps := 1000000) (decide := true) (disch := (first | assumption | omega | exact Nat.div_mul_le_self _ _ | exact ni_nz (by omega) (by omega) | exact rfl | exact retOk_bI _ | exact retOk_0 | exact retOk_1)) only [eX7_readsAll_112, eX7_readsAll_113, eX7_readsAll_116, eX7_readsAll_117, eX7_readsAll_120, eX7_readsAll_121, eX7_readsAll_124, eX7_readsAll_126, eX7_readsAll_129, eX7_readsAll_130, eX7_readsAll_133, eX7_readsAll_134, eX7_readsAll_137, eX7_readsAll_140, eX7_readsAll_141, eX7_readsAll_142, eX7_readsAll_145, eX7_readsAll_148, e1, e2, h2, n, WpR_some, Option.toList_some, Option.toList_none, List.cons_append, List.nil_append, List.append_nil, clr_n, clr_i, clr_a, ni_add, ni_mul, ni_sub, ni_lt, ni_le, ni_eq, ni_div, nat_mod_eq, ni_rem, iMax_nn, iMin_nn, iMax_sub, Nat.zero_max, bI_0, bI_1, bI_n0, up2_s, up2_n, up2_k, va_up_self, va_up_ne, ni_l, lN_mul, lN_add, ln_mask, lN_i, ↓reduceIte, if_true, if_false, not_true_eq_false, not_false_eq_true, ite_self, Nat.add_zero, Nat.zero_add, ent_def]
    exact k _ (FPX.tr F1 (FPX.rf.uu (by decide))) ⟨fun f' z => by cases z; exact (K10.mn (by omega)).at (by omega), fun e τ' z => by cases z⟩
  | inr a =>
    obtain ⟨e, τ'⟩ := a
    rw [h3, bnd_r] at k
    obtain ⟨K1, K2⟩ := H2 _ _ h3
    have K10 := K1
    obtain ⟨p1, p2, p3, p4, p5⟩ := K1
    have h70 := p3.2.1
    have e2 := x_pass (ml := ml) hG0 p3 p1 (by omega)
    have hs := sk_le (tc := tc) p4
    have c1 := p3.1
    have hZ := stR_z hz ht h3
    by_cases hlt : sk tl tc e < tl
    · have hlt' : ¬ tl ≤ sk tl tc e := by omega
      have hR : enR tl tc e τ' = .inl (sk tl tc e) := by unfold enR; rw [if_pos hlt]
      rw [hR] at k
      simp (maxSteps := 1000000) (decide := true) (disch := (first | assumption | omega | exact Nat.div_mul_le_self _ _ | exact ni_nz (by omega) (by omega) | exact rfl | exact retOk_bI _ | exact retOk_0 | exact retOk_1)) only [eX7_readsAll_112, eX7_readsAll_113, eX7_readsAll_116, eX7_readsAll_117, eX7_readsAll_120, eX7_readsAll_121, eX7_readsAll_124, eX7_readsAll_126, eX7_readsAll_129, eX7_readsAll_130, eX7_readsAll_133, eX7_readsAll_134, eX7_readsAll_137, eX7_readsAll_140, eX7_readsAll_141, eX7_readsAll_142, eX7_readsAll_145, eX7_readsAll_148, e1, e2, p2, c1, hlt', WpR_some, Option.toList_some, Option.toList_none, List.cons_append, List.nil_append, List.append_nil, clr_n, clr_i, clr_a, ni_add, ni_mul, ni_sub, ni_lt, ni_le, ni_eq, ni_div, nat_mod_eq, ni_rem, iMax_nn, iMin_nn, iMax_sub, Nat.zero_max, bI_0, bI_1, bI_n0, up2_s, up2_n, up2_k, va_up_self, va_up_ne, ni_l, lN_mul, lN_add, ln_mask, lN_i, ↓reduceIte, if_true, if_false, not_true_eq_false, not_false_eq_true, ite_self, Nat.add_zero, Nat.zero_add, ent_def]
      refine k _ (FPX.tr F1 ((FPX.rf.uu (by decide)).uu (by decide))) ⟨fun f' z => ?_, fun e τ' z => by cases z⟩
      cases z
      exact ⟨⟨_, by rw [up2_k (by decide), up2_s], by omega⟩, by rw [up2_s], hs, RT_u (RT_u p3 (by decide)) (by decide), ⟨_, by rw [up2_k (by decide), up2_k (by decide)]; exact p5.1, hZ.2.1⟩, _, by rw [up2_k (by decide), up2_k (by decide)]; exact p5.2.1, hZ.1.1⟩
    · have hlt' : tl ≤ sk tl tc e := by omega
      have hR : enR tl tc e τ' = .inr (sk tl tc e, τ') := by unfold enR; rw [if_neg hlt]
      rw [hR] at k
      simp (maxSteps := 1000000) (decide := true) (disch := (first | assumption | omega | exact Nat.div_mul_le_self _ _ | exact ni_nz (by omega) (by omega) | exact rfl | exact retOk_bI _ | exact retOk_0 | exact retOk_1)) only [eX7_readsAll_112, eX7_readsAll_113, eX7_readsAll_116, eX7_readsAll_117, eX7_readsAll_120, eX7_readsAll_121, eX7_readsAll_124, eX7_readsAll_126, eX7_readsAll_129, eX7_readsAll_130, eX7_readsAll_133, eX7_readsAll_134, eX7_readsAll_137, eX7_readsAll_140, eX7_readsAll_141, eX7_readsAll_142, eX7_readsAll_145, eX7_readsAll_148, e1, e2, p2, c1, hlt', WpR_some, Option.toList_some, Option.toList_none, List.cons_append, List.nil_append, List.append_nil, clr_n, clr_i, clr_a, ni_add, ni_mul, ni_sub, ni_lt, ni_le, ni_eq, ni_div, nat_mod_eq, ni_rem, iMax_nn, iMin_nn, iMax_sub, Nat.zero_max, bI_0, bI_1, bI_n0, up2_s, up2_n, up2_k, va_up_self, va_up_ne, ni_l, lN_mul, lN_add, ln_mask, lN_i, ↓reduceIte, if_true, if_false, not_true_eq_false, not_false_eq_true, ite_self, Nat.add_zero, Nat.zero_add, ent_def]
      refine k _ (FPX.tr F1 (FPX.rf.uu (by decide))) ⟨fun f' z => (by cases z), fun e τ' z => ?_⟩
      cases z
      exact ⟨K10.at hs, by rw [up2_k (by decide)]; exact K2⟩
theorem v_78 {Q : Option Value → Mm → Prop} (hG : GM G) (hP : RP m tl tc p τ) (hz : ZH d τ) (ht : ZT τ) (hj : τ 44 + j = 5) (k : ∀ m', FPX m m' → OutX m' tl tc (bndR (tsR tl tc j p τ) fun p τ => bndR (stR tl tc p τ) fun p τ => enR tl tc p τ) → Q none (G, m', ml)) : Wp mX7_readsAll 78 [some (.ref 158)] [] (G, m, ml) Q := by
  have hG0 := hG
  obtain ⟨⟨g0, -⟩, -⟩ := hG
  induction j generalizing m p τ with
  | zero =>
    have h : 5 ≤ τ 44 := by omega
    have h' : τ 44 < 2147483648 := by omega
    have y := hP.2.2.2.2.2.1
    rw [eX7_readsAll_78]
    simp (maxSteps := 1000000) (decide := true) (disch := (first | assumption | omega | exact Nat.div_mul_le_self _ _ | exact ni_nz (by omega) (by omega) | exact rfl | exact retOk_bI _ | exact retOk_0 | exact retOk_1)) only [eX7_readsAll_79, eX7_readsAll_82, eX7_readsAll_83, eX7_readsAll_86, eX7_readsAll_87, eX7_readsAll_89, eX7_readsAll_92, eX7_readsAll_95, eX7_readsAll_96, eX7_readsAll_97, eX7_readsAll_100, eX7_readsAll_101, eX7_readsAll_102, eX7_readsAll_105, eX7_readsAll_106, eX7_readsAll_109, y, h, WpR_some, Option.toList_some, Option.toList_none, List.cons_append, List.nil_append, List.append_nil, clr_n, clr_i, clr_a, ni_add, ni_mul, ni_sub, ni_lt, ni_le, ni_eq, ni_div, nat_mod_eq, ni_rem, iMax_nn, iMin_nn, iMax_sub, Nat.zero_max, bI_0, bI_1, bI_n0, up2_s, up2_n, up2_k, va_up_self, va_up_ne, ni_l, lN_mul, lN_add, ln_mask, lN_i, ↓reduceIte, if_true, if_false, not_true_eq_false, not_false_eq_true, ite_self, Nat.add_zero, Nat.zero_add, ent_def]
    exact v_112 hG0 hP hz ht k
  | succ j ih =>
    have h : ¬ 5 ≤ τ 44 := by omega
    have y := hP.2.2.2.2.2.1
    have h70 := hP.2.2.1.2.1
    have hs := sk_le (tc := tc) hP.2.2.2.1
    have e := x_here (ml := ml) (c := 44) hG0 hP.2.2.1 hP.1 hP.2.1 (by have := hP.2.2.2.1; omega) (by decide) (by decide)
    rw [eX7_readsAll_78]
    by_cases hnl : nl tl tc p = 44
    · have hlt := nl_lt (tl := tl) (tc := tc) (p := p) (by omega)
      simp only [hnl, decide_true] at e
      have P2 := hP.at (q := sk tl tc p + 1) (by omega)
      obtain ⟨m1, e1, F1, H1, H2⟩ := x_rt (ml := ml) hG0 P2 (by omega) hz.1
      simp (maxSteps := 1000000) (decide := true) (disch := (first | assumption | omega | exact Nat.div_mul_le_self _ _ | exact ni_nz (by omega) (by omega) | exact rfl | exact retOk_bI _ | exact retOk_0 | exact retOk_1)) only [eX7_readsAll_79, eX7_readsAll_82, eX7_readsAll_83, eX7_readsAll_86, eX7_readsAll_87, eX7_readsAll_89, eX7_readsAll_92, eX7_readsAll_95, eX7_readsAll_96, eX7_readsAll_97, eX7_readsAll_100, eX7_readsAll_101, eX7_readsAll_102, eX7_readsAll_105, eX7_readsAll_106, eX7_readsAll_109, y, h, e, up2_2, e1, WpR_some, Option.toList_some, Option.toList_none, List.cons_append, List.nil_append, List.append_nil, clr_n, clr_i, clr_a, ni_add, ni_mul, ni_sub, ni_lt, ni_le, ni_eq, ni_div, nat_mod_eq, ni_rem, iMax_nn, iMin_nn, iMax_sub, Nat.zero_max, bI_0, bI_1, bI_n0, up2_s, up2_n, up2_k, va_up_self, va_up_ne, ni_l, lN_mul, lN_add, ln_mask, lN_i, ↓reduceIte, if_true, if_false, not_true_eq_false, not_false_eq_true, ite_self, Nat.add_zero, Nat.zero_add, ent_def]
      cases hn : tlR tl tc (sk tl tc p + 1) τ with
      | inl f =>
        have hR : tsR tl tc (j + 1) p τ = .inl f := by
          show (if nl tl tc p = 44 then _ else _) = _
          rw [if_pos hnl, hn]
        rw [hR, bnd_l] at k
        exact w_78 hG0 (H1 f hn) (by omega) (by omega) (fun m' F' R' => k m' (FPX.tr (FPX.rf.uu (by decide)) (FPX.tr F1 F')) ⟨fun f' z => by cases z; exact R'.mn (by omega), fun e τ' z => by cases z⟩)
      | inr a =>
        obtain ⟨e3, τ1⟩ := a
        have hR : tsR tl tc (j + 1) p τ = tsR tl tc j e3 τ1 := by
          show (if nl tl tc p = 44 then _ else _) = _
          rw [if_pos hnl, hn]
        rw [hR] at k
        obtain ⟨x, y, h1, h2, h3, zz⟩ := tlR_44 hn
        have P3 := H2 _ _ hn
        subst zz
        exact ih P3 (ZH_t hz (by omega)) (ZT_t ht (by omega) h1 h2 h3) (by rw [addT_44]; omega) (fun m' F' => k m' (FPX.tr (FPX.rf.uu (by decide)) (FPX.tr F1 F')))
    · have hR : tsR tl tc (j + 1) p τ = .inr (sk tl tc p, τ) := by
        show (if nl tl tc p = 44 then _ else _) = _
        rw [if_neg hnl]
      rw [hR, bnd_r] at k
      simp only [hnl, decide_false] at e
      simp (maxSteps := 1000000) (decide := true) (disch := (first | assumption | omega | exact Nat.div_mul_le_self _ _ | exact ni_nz (by omega) (by omega) | exact rfl | exact retOk_bI _ | exact retOk_0 | exact retOk_1)) only [eX7_readsAll_79, eX7_readsAll_82, eX7_readsAll_83, eX7_readsAll_86, eX7_readsAll_87, eX7_readsAll_89, eX7_readsAll_92, eX7_readsAll_95, eX7_readsAll_96, eX7_readsAll_97, eX7_readsAll_100, eX7_readsAll_101, eX7_readsAll_102, eX7_readsAll_105, eX7_readsAll_106, eX7_readsAll_109, y, h, e, WpR_some, Option.toList_some, Option.toList_none, List.cons_append, List.nil_append, List.append_nil, clr_n, clr_i, clr_a, ni_add, ni_mul, ni_sub, ni_lt, ni_le, ni_eq, ni_div, nat_mod_eq, ni_rem, iMax_nn, iMin_nn, iMax_sub, Nat.zero_max, bI_0, bI_1, bI_n0, up2_s, up2_n, up2_k, va_up_self, va_up_ne, ni_l, lN_mul, lN_add, ln_mask, lN_i, ↓reduceIte, if_true, if_false, not_true_eq_false, not_false_eq_true, ite_self, Nat.add_zero, Nat.zero_add, ent_def]
      exact v_112 hG0 (hP.at hs) hz ht (fun m' F' => k m' (FPX.tr (FPX.rf.uu (by decide)) F'))
def tailR (tl : Nat) (tc : Nat → Nat) (p : Nat) (τ : Nat → Nat) : Nat ⊕ (Nat × (Nat → Nat)) := bndR (taR tl tc p τ) fun p τ => bndR (stR tl tc p τ) fun p τ => enR tl tc p τ
theorem v_59 {Q : Option Value → Mm → Prop} (hG : GM G) (hP : RP m tl tc p τ) (hz : ZH d τ) (ht : ZT τ) (h44 : τ 44 = 0) (k : ∀ m', FPX m m' → OutX m' tl tc (bndR (sgR tl tc p τ) (tailR tl tc)) → Q none (G, m', ml)) : Wp mX7_readsAll 59 [some (.ref 158)] [] (G, m, ml) Q := by
  have hG0 := hG
  obtain ⟨m1, e1, F1, H1, H2⟩ := x_sg (ml := ml) hG hP ht.1 hz.1
  obtain ⟨⟨g0, -⟩, -⟩ := hG
  cases h3 : sgR tl tc p τ with
  | inl f =>
    rw [h3, bnd_l] at k
    have K1 := H1 f h3
    have h2 := K1.2.1
    have h70 := K1.2.2.2.1.2.1
    have h3 := K1.2.2.1
    have n := n4 (x := f) (by omega)
    simp (maxSteps := 1000000) (decide := true) (disch := (first | assumption | omega | exact Nat.div_mul_le_self _ _ | exact ni_nz (by omega) (by omega) | exact rfl | exact retOk_bI _ | exact retOk_0 | exact retOk_1)) only [eX7_readsAll_59, eX7_readsAll_60, eX7_readsAll_62, eX7_readsAll_65, eX7_readsAll_66, eX7_readsAll_69, eX7_readsAll_71, eX7_readsAll_74, eX7_readsAll_75, e1, h2, n, WpR_some, Option.toList_some, Option.toList_none, List.cons_append, List.nil_append, List.append_nil, clr_n, clr_i, clr_a, ni_add, ni_mul, ni_sub, ni_lt, ni_le, ni_eq, ni_div, nat_mod_eq, ni_rem, iMax_nn, iMin_nn, iMax_sub, Nat.zero_max, bI_0, bI_1, bI_n0, up2_s, up2_n, up2_k, va_up_self, va_up_ne, ni_l, lN_mul, lN_add, ln_mask, lN_i, ↓reduceIte, if_true, if_false, not_true_eq_false, not_false_eq_true, ite_self, Nat.add_zero, Nat.zero_add, ent_def]
    exact w_78 hG0 K1 (by omega) (by omega) (fun m' F' R' => k m' (FPX.tr F1 F') ⟨fun f' z => by cases z; exact R'.mn (by omega), fun e τ' z => by cases z⟩)
  | inr a =>
    obtain ⟨e, τ'⟩ := a
    rw [h3, bnd_r] at k
    have K1 := H2 _ _ h3
    have := sgR_r h3
    subst this
    have p2 := K1.2.1
    obtain ⟨m2, e2, F2, L1, L2⟩ := x_rt (ml := ml) hG0 K1 (by omega) hz.1
    simp (maxSteps := 1000000) (decide := true) (disch := (first | assumption | omega | exact Nat.div_mul_le_self _ _ | exact ni_nz (by omega) (by omega) | exact rfl | exact retOk_bI _ | exact retOk_0 | exact retOk_1)) only [eX7_readsAll_59, eX7_readsAll_60, eX7_readsAll_62, eX7_readsAll_65, eX7_readsAll_66, eX7_readsAll_69, eX7_readsAll_71, eX7_readsAll_74, eX7_readsAll_75, e1, p2, e2, WpR_some, Option.toList_some, Option.toList_none, List.cons_append, List.nil_append, List.append_nil, clr_n, clr_i, clr_a, ni_add, ni_mul, ni_sub, ni_lt, ni_le, ni_eq, ni_div, nat_mod_eq, ni_rem, iMax_nn, iMin_nn, iMax_sub, Nat.zero_max, bI_0, bI_1, bI_n0, up2_s, up2_n, up2_k, va_up_self, va_up_ne, ni_l, lN_mul, lN_add, ln_mask, lN_i, ↓reduceIte, if_true, if_false, not_true_eq_false, not_false_eq_true, ite_self, Nat.add_zero, Nat.zero_add, ent_def]
    cases hn : tlR tl tc e τ' with
    | inl f =>
      have hR : tailR tl tc e τ' = .inl f := by unfold tailR taR; rw [hn]; rfl
      rw [hR] at k
      exact w_78 hG0 (L1 f hn) (by omega) (by omega) (fun m' F' R' => k m' (FPX.tr F1 (FPX.tr F2 F')) ⟨fun f' z => by cases z; exact R'.mn (by omega), fun e τ' z => by cases z⟩)
    | inr a =>
      obtain ⟨e3, τ1⟩ := a
      have hR : tailR tl tc e τ' = bndR (tsR tl tc 4 e3 τ1) fun p τ => bndR (stR tl tc p τ) fun p τ => enR tl tc p τ := by unfold tailR taR; rw [hn]
      rw [hR] at k
      obtain ⟨x, y, h1, h2, h3, zz⟩ := tlR_44 hn
      have P3 := L2 _ _ hn
      subst zz
      exact v_78 hG0 P3 (ZH_t hz (by omega)) (ZT_t ht (by omega) h1 h2 h3) (by rw [addT_44]; omega) (fun m' F' => k m' (FPX.tr F1 (FPX.tr F2 F')))
theorem v_25 {Q : Option Value → Mm → Prop} (hG : GM G) (hP : RP m tl tc p τ) (hz : ZH d τ) (ht : ZT τ) (h44 : τ 44 = 0) (hj : τ 45 + j = 5) (k : ∀ m', FPX m m' → OutX m' tl tc (bndR (hsR tl tc j p τ) (tailR tl tc)) → Q none (G, m', ml)) : Wp mX7_readsAll 25 [some (.ref 158)] [] (G, m, ml) Q := by
  have hG0 := hG
  obtain ⟨⟨g0, -⟩, -⟩ := hG
  induction j generalizing m p τ with
  | zero =>
    have h : 5 ≤ τ 45 := by omega
    have h' : τ 45 < 2147483648 := by omega
    have y := hP.2.2.2.2.1
    rw [eX7_readsAll_25]
    simp (maxSteps := 1000000) (decide := true) (disch := (first | assumption | omega | exact Nat.div_mul_le_self _ _ | exact ni_nz (by omega) (by omega) | exact rfl | exact retOk_bI _ | exact retOk_0 | exact retOk_1)) only [eX7_readsAll_26, eX7_readsAll_29, eX7_readsAll_30, eX7_readsAll_33, eX7_readsAll_34, eX7_readsAll_36, eX7_readsAll_39, eX7_readsAll_42, eX7_readsAll_43, eX7_readsAll_44, eX7_readsAll_47, eX7_readsAll_48, eX7_readsAll_49, eX7_readsAll_52, eX7_readsAll_53, eX7_readsAll_56, y, h, WpR_some, Option.toList_some, Option.toList_none, List.cons_append, List.nil_append, List.append_nil, clr_n, clr_i, clr_a, ni_add, ni_mul, ni_sub, ni_lt, ni_le, ni_eq, ni_div, nat_mod_eq, ni_rem, iMax_nn, iMin_nn, iMax_sub, Nat.zero_max, bI_0, bI_1, bI_n0, up2_s, up2_n, up2_k, va_up_self, va_up_ne, ni_l, lN_mul, lN_add, ln_mask, lN_i, ↓reduceIte, if_true, if_false, not_true_eq_false, not_false_eq_true, ite_self, Nat.add_zero, Nat.zero_add, ent_def]
    exact v_59 hG0 hP hz ht h44 k
  | succ j ih =>
    have h : ¬ 5 ≤ τ 45 := by omega
    have y := hP.2.2.2.2.1
    have h70 := hP.2.2.1.2.1
    have hs := sk_le (tc := tc) hP.2.2.2.1
    have e := x_here (ml := ml) (c := 44) hG0 hP.2.2.1 hP.1 hP.2.1 (by have := hP.2.2.2.1; omega) (by decide) (by decide)
    rw [eX7_readsAll_25]
    by_cases hnl : nl tl tc p = 44
    · have hlt := nl_lt (tl := tl) (tc := tc) (p := p) (by omega)
      simp only [hnl, decide_true] at e
      have P2 := hP.at (q := sk tl tc p + 1) (by omega)
      obtain ⟨m1, e1, F1, H1, H2⟩ := x_rh (ml := ml) hG0 P2 (by omega) ht.1
      simp (maxSteps := 1000000) (decide := true) (disch := (first | assumption | omega | exact Nat.div_mul_le_self _ _ | exact ni_nz (by omega) (by omega) | exact rfl | exact retOk_bI _ | exact retOk_0 | exact retOk_1)) only [eX7_readsAll_26, eX7_readsAll_29, eX7_readsAll_30, eX7_readsAll_33, eX7_readsAll_34, eX7_readsAll_36, eX7_readsAll_39, eX7_readsAll_42, eX7_readsAll_43, eX7_readsAll_44, eX7_readsAll_47, eX7_readsAll_48, eX7_readsAll_49, eX7_readsAll_52, eX7_readsAll_53, eX7_readsAll_56, y, h, e, up2_2, e1, WpR_some, Option.toList_some, Option.toList_none, List.cons_append, List.nil_append, List.append_nil, clr_n, clr_i, clr_a, ni_add, ni_mul, ni_sub, ni_lt, ni_le, ni_eq, ni_div, nat_mod_eq, ni_rem, iMax_nn, iMin_nn, iMax_sub, Nat.zero_max, bI_0, bI_1, bI_n0, up2_s, up2_n, up2_k, va_up_self, va_up_ne, ni_l, lN_mul, lN_add, ln_mask, lN_i, ↓reduceIte, if_true, if_false, not_true_eq_false, not_false_eq_true, ite_self, Nat.add_zero, Nat.zero_add, ent_def]
      cases hn : hrR tl tc (sk tl tc p + 1) τ with
      | inl f =>
        have hR : hsR tl tc (j + 1) p τ = .inl f := by
          show (if nl tl tc p = 44 then _ else _) = _
          rw [if_pos hnl, hn]
        rw [hR, bnd_l] at k
        exact w_25 hG0 (H1 f hn) (by omega) (by omega) (fun m' F' R' => k m' (FPX.tr (FPX.rf.uu (by decide)) (FPX.tr F1 F')) ⟨fun f' z => by cases z; exact R'.mn (by omega), fun e τ' z => by cases z⟩)
      | inr a =>
        obtain ⟨e3, τ1⟩ := a
        have hR : hsR tl tc (j + 1) p τ = hsR tl tc j e3 τ1 := by
          show (if nl tl tc p = 44 then _ else _) = _
          rw [if_pos hnl, hn]
        rw [hR] at k
        obtain ⟨x, y, h1, h2, h3, zz⟩ := hrR_45 (by omega) hn
        have P3 := H2 _ _ hn
        subst zz
        exact ih P3 (ZH_h hz (by omega) h2 h3 h1) (ZT_h ht (by omega)) (by rw [adH_44 (by omega)]; exact h44) (by rw [adH_45 (by omega)]; omega) (fun m' F' => k m' (FPX.tr (FPX.rf.uu (by decide)) (FPX.tr F1 F')))
    · have hR : hsR tl tc (j + 1) p τ = sgR tl tc (sk tl tc p) τ := by
        show (if nl tl tc p = 44 then _ else _) = _
        rw [if_neg hnl]
        unfold sgR
        rw [nl_sk, sk_2]
      rw [hR] at k
      simp only [hnl, decide_false] at e
      simp (maxSteps := 1000000) (decide := true) (disch := (first | assumption | omega | exact Nat.div_mul_le_self _ _ | exact ni_nz (by omega) (by omega) | exact rfl | exact retOk_bI _ | exact retOk_0 | exact retOk_1)) only [eX7_readsAll_26, eX7_readsAll_29, eX7_readsAll_30, eX7_readsAll_33, eX7_readsAll_34, eX7_readsAll_36, eX7_readsAll_39, eX7_readsAll_42, eX7_readsAll_43, eX7_readsAll_44, eX7_readsAll_47, eX7_readsAll_48, eX7_readsAll_49, eX7_readsAll_52, eX7_readsAll_53, eX7_readsAll_56, y, h, e, WpR_some, Option.toList_some, Option.toList_none, List.cons_append, List.nil_append, List.append_nil, clr_n, clr_i, clr_a, ni_add, ni_mul, ni_sub, ni_lt, ni_le, ni_eq, ni_div, nat_mod_eq, ni_rem, iMax_nn, iMin_nn, iMax_sub, Nat.zero_max, bI_0, bI_1, bI_n0, up2_s, up2_n, up2_k, va_up_self, va_up_ne, ni_l, lN_mul, lN_add, ln_mask, lN_i, ↓reduceIte, if_true, if_false, not_true_eq_false, not_false_eq_true, ite_self, Nat.add_zero, Nat.zero_add, ent_def]
      exact v_59 hG0 (hP.at hs) hz ht h44 (fun m' F' => k m' (FPX.tr (FPX.rf.uu (by decide)) F'))
theorem x_ra (hG : GM G) (hT : RT m tl tc) : ∃ m', res mX7_readsAll [.ref 158] (G, m, ml) = some (none, (G, m', ml)) ∧ FPX m m' ∧ OutX m' tl tc (prR tl tc d) := by
  have key : Wp mX7_readsAll 0 (ent [.ref 158] 1) [] (G, m, ml) (fun r μ' => ∃ m', r = none ∧ μ' = (G, m', ml) ∧ FPX m m' ∧ OutX m' tl tc (prR tl tc d)) := by
    show Wp mX7_readsAll 0 [some (.ref 158)] [] (G, m, ml) _
    generalize hQ : (fun (r : Option Value) (μ' : Mm) => ∃ m', r = none ∧ μ' = (G, m', ml) ∧ FPX m m' ∧ OutX m' tl tc (prR tl tc d)) = Q
    have hG0 := hG
    have z45 : ls0 d 45 < 5 := show 0 < 5 by decide
    have z44 : ls0 d 44 ≤ 5 := show 0 ≤ 5 by decide
    obtain ⟨⟨g0, -⟩, -⟩ := hG
    generalize hM : up2 (up2 (up2 (up2 m 158 10 (nI 0)) 158 11 (-4)) 158 12 (nI 0)) 158 13 (nI 0) = M
    have P0 : RP M tl tc 0 (ls0 d) := by
      rw [← hM]
      refine ⟨by rw [up2_k (by decide), up2_k (by decide), up2_k (by decide), up2_s], by rw [up2_k (by decide), up2_k (by decide), up2_s], RT_u (RT_u (RT_u (RT_u hT (by decide)) (by decide)) (by decide)) (by decide), Nat.zero_le _, by rw [up2_k (by decide), up2_s]; rfl, by rw [up2_s]; rfl, fun k hk => absurd hk (Nat.not_lt_zero _), fun k hk => absurd hk (Nat.not_lt_zero _)⟩
    have FM : FPX m M := by rw [← hM]; exact (((FPX.rf.uu (by decide)).uu (by decide)).uu (by decide)).uu (by decide)
    obtain ⟨m1, e1, F1, H1, H2⟩ := x_rh (ml := ml) hG0 P0 z45 z44
    simp (maxSteps := 1000000) (decide := true) (disch := (first | assumption | omega | exact Nat.div_mul_le_self _ _ | exact ni_nz (by omega) (by omega) | exact rfl | exact retOk_bI _ | exact retOk_0 | exact retOk_1)) only [eX7_readsAll_0, eX7_readsAll_1, eX7_readsAll_2, eX7_readsAll_5, eX7_readsAll_6, eX7_readsAll_8, eX7_readsAll_11, eX7_readsAll_12, eX7_readsAll_13, eX7_readsAll_16, eX7_readsAll_17, eX7_readsAll_18, eX7_readsAll_21, eX7_readsAll_22, hM, e1, WpR_some, Option.toList_some, Option.toList_none, List.cons_append, List.nil_append, List.append_nil, clr_n, clr_i, clr_a, ni_add, ni_mul, ni_sub, ni_lt, ni_le, ni_eq, ni_div, nat_mod_eq, ni_rem, iMax_nn, iMin_nn, iMax_sub, Nat.zero_max, bI_0, bI_1, bI_n0, up2_s, up2_n, up2_k, va_up_self, va_up_ne, ni_l, lN_mul, lN_add, ln_mask, lN_i, ↓reduceIte, if_true, if_false, not_true_eq_false, not_false_eq_true, ite_self, Nat.add_zero, Nat.zero_add, ent_def]
    have hpr : prR tl tc d = bndR (haR tl tc 0 (ls0 d)) (tailR tl tc) := rfl
    cases hn : hrR tl tc 0 (ls0 d) with
    | inl f =>
      have hR : prR tl tc d = .inl f := by rw [hpr]; unfold haR; rw [hn]; rfl
      refine w_25 hG0 (H1 f hn) (by omega) (by omega) (fun m' F' R' => ?_)
      rw [← hQ]
      exact ⟨m', rfl, rfl, FPX.tr FM (FPX.tr F1 F'), fun f' z => by rw [hR] at z; cases z; exact R'.mn (by omega), fun e τ' z => by rw [hR] at z; cases z⟩
    | inr a =>
      obtain ⟨e3, τ1⟩ := a
      have hR : prR tl tc d = bndR (hsR tl tc 4 e3 τ1) (tailR tl tc) := by rw [hpr]; unfold haR; rw [hn]
      obtain ⟨x, y, h1, h2, h3, zz⟩ := hrR_45 z45 hn
      have P3 := H2 _ _ hn
      subst zz
      refine v_25 (j := 4) hG0 P3 (ZH_h ZH_0 z45 h2 h3 h1) (ZT_h ZT_0 z45) (by rw [adH_44 z45]; rfl) (by rw [adH_45 z45]; rfl) (fun m' F' O' => ?_)
      rw [← hQ]
      exact ⟨m', rfl, rfl, FPX.tr FM (FPX.tr F1 F'), by rw [hR]; exact O'⟩
  obtain ⟨r, μ', e1, m', rfl, rfl, h2⟩ := res_ex key
  exact ⟨m', e1, h2⟩
/-! the row of a new list -/
def hw (τ ρ : Nat → Nat) (n : Nat) : Nat → Nat := fun k => if k < n ∨ (51 ≤ k ∧ k < 51 + n) then τ k else ρ k
def tw (τ ρ : Nat → Nat) (n : Nat) : Nat → Nat := fun k => if (46 ≤ k ∧ k < 46 + n) ∨ (5 ≤ k ∧ k < 5 + n) then τ k else ρ k
theorem hw_0 {ρ : Nat → Nat} : hw τ ρ 0 = ρ := by
  funext k; unfold hw; rw [if_neg (by omega)]
theorem tw_0 {ρ : Nat → Nat} : tw τ ρ 0 = ρ := by
  funext k; unfold tw; rw [if_neg (by omega)]
theorem hw_s {ρ : Nat → Nat} : upN (upN (hw τ ρ n) (51 + n) (τ (51 + n))) n (τ n) = hw τ ρ (n + 1) := by
  funext k
  by_cases h1 : k = n
  · subst h1; rw [upN_s]; unfold hw; rw [if_pos (by omega)]
  · rw [upN_n h1]
    by_cases h2 : k = 51 + n
    · subst h2; rw [upN_s]; unfold hw; rw [if_pos (by omega)]
    · rw [upN_n h2]; unfold hw
      by_cases h3 : k < n ∨ (51 ≤ k ∧ k < 51 + n)
      · rw [if_pos h3, if_pos (by omega)]
      · rw [if_neg h3, if_neg (by omega)]
theorem tw_s {ρ : Nat → Nat} : upN (upN (tw τ ρ n) (46 + n) (τ (46 + n))) (5 + n) (τ (5 + n)) = tw τ ρ (n + 1) := by
  funext k
  by_cases h1 : k = 5 + n
  · subst h1; rw [upN_s]; unfold tw; rw [if_pos (by omega)]
  · rw [upN_n h1]
    by_cases h2 : k = 46 + n
    · subst h2; rw [upN_s]; unfold tw; rw [if_pos (by omega)]
    · rw [upN_n h2]; unfold tw
      by_cases h3 : (46 ≤ k ∧ k < 46 + n) ∨ (5 ≤ k ∧ k < 5 + n)
      · rw [if_pos h3, if_pos (by omega)]
      · rw [if_neg h3, if_neg (by omega)]
def w1 (τ : Nat → Nat) : Nat → Nat := fun k => if k = 43 ∨ k = 41 ∨ k = 45 ∨ k = 44 then τ k else 0
theorem row_eq (h : ZA d τ) (hk : k < 56) : tw τ (hw τ (w1 τ) (τ 45)) (τ 44) k = τ k := by
  obtain ⟨⟨b1, b2, b3⟩, a1, a2, a3, a4, a5, a6, a7, a8⟩ := h
  unfold tw
  by_cases h1 : (46 ≤ k ∧ k < 46 + τ 44) ∨ (5 ≤ k ∧ k < 5 + τ 44)
  · rw [if_pos h1]
  · rw [if_neg h1]
    unfold hw
    by_cases h2 : k < τ 45 ∨ (51 ≤ k ∧ k < 51 + τ 45)
    · rw [if_pos h2]
    · rw [if_neg h2]
      unfold w1
      by_cases h3 : k = 43 ∨ k = 41 ∨ k = 45 ∨ k = 44
      · rw [if_pos h3]
      · rw [if_neg h3]
        by_cases c1 : k < 5
        · exact (a7 k c1 (by omega)).1.symm
        by_cases c2 : k < 10
        · have := (b3 (k - 5) (by omega) (by omega)).2
          rw [show 5 + (k - 5) = k by omega] at this
          exact this.symm
        by_cases c3 : k < 40
        · exact (a8 k (by omega) c3).symm
        by_cases c4 : k < 46
        · have : k = 40 ∨ k = 42 := by omega
          rcases this with rfl | rfl
          · exact a2.symm
          · exact a4.symm
        by_cases c5 : k < 51
        · have := (b3 (k - 46) (by omega) (by omega)).1
          rw [show 46 + (k - 46) = k by omega] at this
          exact this.symm
        · have := (a7 (k - 51) (by omega) (by omega)).2
          rw [show 51 + (k - 51) = k by omega] at this
          exact this.symm
def FLX (m m' : Nat → Nat → Int32) : Prop := (∀ b, b ≠ 158 → b ≠ 159 → b ≠ 165 → b ≠ 166 → b ≠ 167 → b ≠ 168 → m' b = m b) ∧ (∀ k, k ≠ 3 → k < 10 ∨ 14 < k → m' 158 k = m 158 k) ∧ ∀ k, 409 ≤ k → m' 159 k = m 159 k
theorem x_list (hG : GM G) (hA : RA m 0 σ k F) (hT : RT m tl tc) : ∃ m' r, res mX7_list [.ref 158] (G, m, ml) = some (some (.int r), (G, m', ml)) ∧ FLX m m' ∧ RT m' 0 tc ∧ (∀ f, prR tl tc (σ 43) = .inl f → r = -20 - nI f ∧ RA m' 0 σ k F) ∧ (∀ e τ, prR tl tc (σ 43) = .inr (e, τ) → r = nI (τ 45) ∧ RA m' 0 τ 0 F) := by
  obtain ⟨m1, e1, F1, O1, O2⟩ := x_ra (ml := ml) (d := σ 43) hG hT
  have h43 := RA_at hA (j := 43) (by decide)
  have hG0 := hG
  obtain ⟨⟨g0, g1, g2, g3, g4, g5, g6, g7, g8, g9, g10, -⟩, ⟨a0, a1, a2, a3, a4, a5, a6, a7, a8, a9, -⟩, ⟨l0, l1, l2, l3, l4, l5, l6, l7, l8, l9, -⟩⟩ := hG
  have f159 : m1 159 = m 159 := F1.1 159 (by decide) (by decide) (by decide) (by decide) (by decide)
  cases hp : prR tl tc (σ 43) with
  | inl f =>
    have R := O1 f hp
    have h11 := R.2.1
    have h70 := R.2.2.2.1.2.1
    have hf := R.2.2.1
    have n := n4 (x := f) (by omega)
    refine ⟨up2 m1 158 3 (nI 0), -20 - nI f, ?_, ⟨fun b z1 z2 z3 z4 z5 z6 => by rw [up2_n z1]; exact F1.1 b z1 z3 z4 z5 z6, fun k z1 z2 => by rw [up2_k z1]; exact F1.2 k z2, fun k hk => by rw [up2_n (by decide), f159]⟩, ⟨by rw [up2_s], Nat.zero_le _, fun j hj => absurd hj (Nat.not_lt_zero _)⟩, fun f' z => by cases z; exact ⟨rfl, RA_fr hA (fun j _ _ => by rw [up2_n (by decide), f159])⟩, fun e τ z => by cases z⟩
    apply res_of
    show Wp mX7_list 0 [some (.ref 158), none, none] [] (G, m, ml) _
    simp (maxSteps := 1000000) (decide := true) (disch := (first | assumption | omega | exact Nat.div_mul_le_self _ _ | exact ni_nz (by omega) (by omega) | exact rfl | exact retOk_bI _ | exact retOk_0 | exact retOk_1)) only [eX7_list_0, eX7_list_1, eX7_list_4, eX7_list_5, eX7_list_6, eX7_list_9, eX7_list_10, eX7_list_13, eX7_list_15, eX7_list_18, eX7_list_20, eX7_list_21, eX7_list_24, eX7_list_25, eX7_list_26, eX7_list_27, eX7_list_30, eX7_list_32, eX7_list_33, eX7_list_34, eX7_list_35, eX7_list_37, eX7_list_40, eX7_list_43, eX7_list_44, eX7_list_47, eX7_list_48, eX7_list_49, eX7_list_50, eX7_list_53, eX7_list_56, eX7_list_57, eX7_list_60, eX7_list_62, eX7_list_63, eX7_list_64, eX7_list_65, eX7_list_68, eX7_list_70, eX7_list_71, eX7_list_74, eX7_list_75, eX7_list_76, eX7_list_79, eX7_list_81, eX7_list_82, eX7_list_85, eX7_list_86, eX7_list_87, eX7_list_90, eX7_list_92, eX7_list_93, eX7_list_96, eX7_list_97, eX7_list_98, eX7_list_100, eX7_list_101, eX7_list_104, eX7_list_107, eX7_list_108, eX7_list_111, eX7_list_113, eX7_list_114, eX7_list_115, eX7_list_116, eX7_list_119, eX7_list_120, eX7_list_121, eX7_list_122, eX7_list_123, eX7_list_126, eX7_list_127, eX7_list_128, eX7_list_129, eX7_list_130, eX7_list_133, eX7_list_134, eX7_list_135, eX7_list_136, eX7_list_139, eX7_list_140, eX7_list_141, eX7_list_142, eX7_list_143, eX7_list_146, eX7_list_149, eX7_list_150, eX7_list_152, eX7_list_153, eX7_list_156, eX7_list_159, eX7_list_160, eX7_list_163, eX7_list_165, eX7_list_166, eX7_list_167, eX7_list_168, eX7_list_171, eX7_list_172, eX7_list_173, eX7_list_174, eX7_list_175, eX7_list_178, eX7_list_179, eX7_list_180, eX7_list_181, eX7_list_182, eX7_list_185, eX7_list_186, eX7_list_187, eX7_list_188, eX7_list_191, eX7_list_194, eX7_list_195, eX7_list_198, e1, h11, n, WpR_some, Option.toList_some, Option.toList_none, List.cons_append, List.nil_append, List.append_nil, clr_n, clr_i, clr_a, ni_add, ni_mul, ni_sub, ni_lt, ni_le, ni_eq, ni_div, nat_mod_eq, ni_rem, iMax_nn, iMin_nn, iMax_sub, Nat.zero_max, bI_0, bI_1, bI_n0, up2_s, up2_n, up2_k, va_up_self, va_up_ne, ni_l, lN_mul, lN_add, ln_mask, lN_i, ↓reduceIte, if_true, if_false, not_true_eq_false, not_false_eq_true, ite_self, Nat.add_zero, Nat.zero_add, ent_def]
  | inr a =>
    obtain ⟨e, τ⟩ := a
    obtain ⟨R, h14⟩ := O2 _ _ hp
    have hZ := prR_z hp
    obtain ⟨p1, p2, p3, p4, r1, r2, r3, r4⟩ := R
    have b45 := hZ.2.1
    have b44 := hZ.1.1
    have d43 : τ 43 = σ 43 := hZ.2.2.2.2.2.1
    have key : Wp mX7_list 0 (ent [.ref 158] 3) [] (G, m, ml) (fun r μ' => ∃ m', r = some (.int (nI (τ 45))) ∧ μ' = (G, m', ml) ∧ (∀ b, b ≠ 158 → b ≠ 159 → m' b = m1 b) ∧ (∀ k, k ≠ 3 → m' 158 k = m1 158 k) ∧ m' 158 3 = nI 0 ∧ (∀ k, 409 ≤ k → m' 159 k = m1 159 k) ∧ m' 159 56 = nI 0 ∧ RwV m' 0 (tw τ (hw τ (w1 τ) (τ 45)) (τ 44))) := by
      show Wp mX7_list 0 [some (.ref 158), none, none] [] (G, m, ml) _
      generalize hQ : (fun (r : Option Value) (μ' : Mm) => ∃ m', r = some (.int (nI (τ 45))) ∧ μ' = (G, m', ml) ∧ (∀ b, b ≠ 158 → b ≠ 159 → m' b = m1 b) ∧ (∀ k, k ≠ 3 → m' 158 k = m1 158 k) ∧ m' 158 3 = nI 0 ∧ (∀ k, 409 ≤ k → m' 159 k = m1 159 k) ∧ m' 159 56 = nI 0 ∧ RwV m' 0 (tw τ (hw τ (w1 τ) (τ 45)) (τ 44))) = Q
      have h43' : m1 159 43 = nI (σ 43) := by rw [f159]; exact h43
      simp (maxSteps := 1000000) (decide := true) (disch := (first | assumption | omega | exact Nat.div_mul_le_self _ _ | exact ni_nz (by omega) (by omega) | exact rfl | exact retOk_bI _ | exact retOk_0 | exact retOk_1)) only [eX7_list_0, eX7_list_1, eX7_list_4, eX7_list_5, eX7_list_6, eX7_list_9, eX7_list_10, eX7_list_13, eX7_list_15, eX7_list_18, eX7_list_20, eX7_list_21, eX7_list_24, eX7_list_25, eX7_list_26, eX7_list_27, eX7_list_30, eX7_list_32, eX7_list_33, eX7_list_34, eX7_list_35, e1, p2, g1, h43', WpR_some, Option.toList_some, Option.toList_none, List.cons_append, List.nil_append, List.append_nil, clr_n, clr_i, clr_a, ni_add, ni_mul, ni_sub, ni_lt, ni_le, ni_eq, ni_div, nat_mod_eq, ni_rem, iMax_nn, iMin_nn, iMax_sub, Nat.zero_max, bI_0, bI_1, bI_n0, up2_s, up2_n, up2_k, va_up_self, va_up_ne, ni_l, lN_mul, lN_add, ln_mask, lN_i, ↓reduceIte, if_true, if_false, not_true_eq_false, not_false_eq_true, ite_self, Nat.add_zero, Nat.zero_add, ent_def]
      refine wp_for (X := Unit) (fun i _ => [some (.ref 158), some (.int (nI (σ 43))), some (.int (nI i))]) (fun i _ μ => ∃ m2, μ = (G, m2, ml) ∧ (∀ b, b ≠ 158 → b ≠ 159 → m2 b = m1 b) ∧ (∀ k, k ≠ 3 → m2 158 k = m1 158 k) ∧ m2 158 3 = nI 0 ∧ (∀ k, 409 ≤ k → m2 159 k = m1 159 k) ∧ ∀ k, k < i → m2 159 k = nI 0) 409 ?_ ?_ 0 () _ (Nat.zero_le _) ⟨up2 m1 158 3 (nI 0), rfl, fun b z1 z2 => up2_n z1, fun k z => up2_k z, by rw [up2_s], fun k _ => by rw [up2_n (by decide)], fun k hk => absurd hk (Nat.not_lt_zero _)⟩
      · rintro i - μ hi ⟨m2, rfl, y1, y2, y3, y4, y5⟩ kk
        have hlt : ¬ 409 ≤ i := by omega
        rw [eX7_list_36]
        simp (maxSteps := 1000000) (decide := true) (disch := (first | assumption | omega | exact Nat.div_mul_le_self _ _ | exact ni_nz (by omega) (by omega) | exact rfl | exact retOk_bI _ | exact retOk_0 | exact retOk_1)) only [eX7_list_37, eX7_list_40, eX7_list_43, eX7_list_44, eX7_list_47, eX7_list_48, eX7_list_49, eX7_list_50, eX7_list_53, g1, hlt, WpR_some, Option.toList_some, Option.toList_none, List.cons_append, List.nil_append, List.append_nil, clr_n, clr_i, clr_a, ni_add, ni_mul, ni_sub, ni_lt, ni_le, ni_eq, ni_div, nat_mod_eq, ni_rem, iMax_nn, iMin_nn, iMax_sub, Nat.zero_max, bI_0, bI_1, bI_n0, up2_s, up2_n, up2_k, va_up_self, va_up_ne, ni_l, lN_mul, lN_add, ln_mask, lN_i, ↓reduceIte, if_true, if_false, not_true_eq_false, not_false_eq_true, ite_self, Nat.add_zero, Nat.zero_add, ent_def]
        exact kk () _ ⟨_, rfl, fun b z1 z2 => by rw [up2_n z2]; exact y1 b z1 z2, fun k z => by rw [up2_n (by decide)]; exact y2 k z, by rw [up2_n (by decide)]; exact y3, fun k hk => by rw [up2_k (by omega)]; exact y4 k hk, fun k hk => by
          by_cases hq : k = i
          · rw [hq, up2_s]
          · rw [up2_k hq]; exact y5 k (by omega)⟩
      · rintro - μ ⟨m2, rfl, y1, y2, y3, y4, y5⟩
        have q14 : m2 158 14 = nI (τ 41) := by rw [y2 14 (by decide)]; exact h14
        have q12 : m2 158 12 = nI (τ 45) := by rw [y2 12 (by decide)]; exact r1
        have q13 : m2 158 13 = nI (τ 44) := by rw [y2 13 (by decide)]; exact r2
        rw [eX7_list_36]
        simp (maxSteps := 1000000) (decide := true) (disch := (first | assumption | omega | exact Nat.div_mul_le_self _ _ | exact ni_nz (by omega) (by omega) | exact rfl | exact retOk_bI _ | exact retOk_0 | exact retOk_1)) only [eX7_list_37, eX7_list_40, eX7_list_43, eX7_list_44, eX7_list_47, eX7_list_48, eX7_list_49, eX7_list_50, eX7_list_53, eX7_list_56, eX7_list_57, eX7_list_60, eX7_list_62, eX7_list_63, eX7_list_64, eX7_list_65, eX7_list_68, eX7_list_70, eX7_list_71, eX7_list_74, eX7_list_75, eX7_list_76, eX7_list_79, eX7_list_81, eX7_list_82, eX7_list_85, eX7_list_86, eX7_list_87, eX7_list_90, eX7_list_92, eX7_list_93, eX7_list_96, eX7_list_97, eX7_list_98, g1, Nat.le_refl, q14, q12, q13, WpR_some, Option.toList_some, Option.toList_none, List.cons_append, List.nil_append, List.append_nil, clr_n, clr_i, clr_a, ni_add, ni_mul, ni_sub, ni_lt, ni_le, ni_eq, ni_div, nat_mod_eq, ni_rem, iMax_nn, iMin_nn, iMax_sub, Nat.zero_max, bI_0, bI_1, bI_n0, up2_s, up2_n, up2_k, va_up_self, va_up_ne, ni_l, lN_mul, lN_add, ln_mask, lN_i, ↓reduceIte, if_true, if_false, not_true_eq_false, not_false_eq_true, ite_self, Nat.add_zero, Nat.zero_add, ent_def]
        generalize hM : up2 (up2 (up2 (up2 m2 159 43 (nI (σ 43))) 159 41 (nI (τ 41))) 159 45 (nI (τ 45))) 159 44 (nI (τ 44)) = M
        have M0 : RwV M 0 (w1 τ) := by
          intro k hk
          rw [Nat.zero_add, ← hM]
          unfold w1
          by_cases k1 : k = 44
          · subst k1; rw [up2_s, if_pos (by omega)]
          rw [up2_k k1]
          by_cases k2 : k = 45
          · subst k2; rw [up2_s, if_pos (by omega)]
          rw [up2_k k2]
          by_cases k3 : k = 41
          · subst k3; rw [up2_s, if_pos (by omega)]
          rw [up2_k k3]
          by_cases k4 : k = 43
          · subst k4; rw [up2_s, if_pos (by omega), d43]
          rw [up2_k k4, if_neg (by omega)]
          exact y5 k (by omega)
        have Mb : ∀ b, b ≠ 159 → M b = m2 b := fun b hb => by rw [← hM, up2_n hb, up2_n hb, up2_n hb, up2_n hb]
        have Mk : ∀ k, 56 ≤ k → M 159 k = m2 159 k := fun k hk => by rw [← hM, up2_k (by omega), up2_k (by omega), up2_k (by omega), up2_k (by omega)]
        have r3' : ∀ k, k < τ 45 → m2 165 k = nI (τ (51 + k)) ∧ m2 166 k = nI (τ (51 + k) - τ k) := fun k hk => by rw [y1 165 (by decide) (by decide), y1 166 (by decide) (by decide)]; exact r3 k hk
        have r4' : ∀ k, k < τ 44 → m2 167 k = nI (τ (46 + k)) ∧ m2 168 k = nI (τ (5 + k)) := fun k hk => by rw [y1 167 (by decide) (by decide), y1 168 (by decide) (by decide)]; exact r4 k hk
        refine wp_for (X := Unit) (fun i _ => [some (.ref 158), some (.int (nI (σ 43))), some (.int (nI i))]) (fun i _ μ => ∃ m3, μ = (G, m3, ml) ∧ (∀ b, b ≠ 159 → m3 b = m2 b) ∧ (∀ k, 56 ≤ k → m3 159 k = m2 159 k) ∧ RwV m3 0 (hw τ (w1 τ) i)) (τ 45) ?_ ?_ 0 () _ (Nat.zero_le _) ⟨M, rfl, Mb, Mk, by rw [hw_0]; exact M0⟩
        · rintro i - μ hi ⟨m3, rfl, x1, x2, x3⟩ kk
          have hlt : ¬ τ 45 ≤ i := by omega
          have s12 : m3 158 12 = nI (τ 45) := by rw [x1 158 (by decide)]; exact q12
          have s165 : m3 165 i = nI (τ (51 + i)) := by rw [x1 165 (by decide)]; exact (r3' i hi).1
          have s166 : m3 166 i = nI (τ (51 + i) - τ i) := by rw [x1 166 (by decide)]; exact (r3' i hi).2
          have hle := (hZ.2.2.2.2.2.2.1 i (by omega) hi).2.2
          have hsub : τ (51 + i) - (τ (51 + i) - τ i) = τ i := by omega
          rw [eX7_list_99]
          simp (maxSteps := 1000000) (decide := true) (disch := (first | assumption | omega | exact Nat.div_mul_le_self _ _ | exact ni_nz (by omega) (by omega) | exact rfl | exact retOk_bI _ | exact retOk_0 | exact retOk_1)) only [eX7_list_100, eX7_list_101, eX7_list_104, eX7_list_107, eX7_list_108, eX7_list_111, eX7_list_113, eX7_list_114, eX7_list_115, eX7_list_116, eX7_list_119, eX7_list_120, eX7_list_121, eX7_list_122, eX7_list_123, eX7_list_126, eX7_list_127, eX7_list_128, eX7_list_129, eX7_list_130, eX7_list_133, eX7_list_134, eX7_list_135, eX7_list_136, eX7_list_139, eX7_list_140, eX7_list_141, eX7_list_142, eX7_list_143, eX7_list_146, g1, g7, g8, s12, s165, s166, hlt, hsub, WpR_some, Option.toList_some, Option.toList_none, List.cons_append, List.nil_append, List.append_nil, clr_n, clr_i, clr_a, ni_add, ni_mul, ni_sub, ni_lt, ni_le, ni_eq, ni_div, nat_mod_eq, ni_rem, iMax_nn, iMin_nn, iMax_sub, Nat.zero_max, bI_0, bI_1, bI_n0, up2_s, up2_n, up2_k, va_up_self, va_up_ne, ni_l, lN_mul, lN_add, ln_mask, lN_i, ↓reduceIte, if_true, if_false, not_true_eq_false, not_false_eq_true, ite_self, Nat.add_zero, Nat.zero_add, ent_def]
          refine kk () _ ⟨_, rfl, fun b hb => by rw [up2_n hb, up2_n hb]; exact x1 b hb, fun k hk => by rw [up2_k (by omega), up2_k (by omega)]; exact x2 k hk, ?_⟩
          rw [← hw_s]
          exact RwV_up (RwV_up x3 (by omega) (Nat.zero_add _)) (by omega) (Nat.zero_add _)
        · rintro - μ ⟨m3, rfl, x1, x2, x3⟩
          have s12 : m3 158 12 = nI (τ 45) := by rw [x1 158 (by decide)]; exact q12
          have hle := Nat.le_refl (τ 45)
          rw [eX7_list_99]
          simp (maxSteps := 1000000) (decide := true) (disch := (first | assumption | omega | exact Nat.div_mul_le_self _ _ | exact ni_nz (by omega) (by omega) | exact rfl | exact retOk_bI _ | exact retOk_0 | exact retOk_1)) only [eX7_list_100, eX7_list_101, eX7_list_104, eX7_list_107, eX7_list_108, eX7_list_111, eX7_list_113, eX7_list_114, eX7_list_115, eX7_list_116, eX7_list_119, eX7_list_120, eX7_list_121, eX7_list_122, eX7_list_123, eX7_list_126, eX7_list_127, eX7_list_128, eX7_list_129, eX7_list_130, eX7_list_133, eX7_list_134, eX7_list_135, eX7_list_136, eX7_list_139, eX7_list_140, eX7_list_141, eX7_list_142, eX7_list_143, eX7_list_146, eX7_list_149, eX7_list_150, s12, hle, WpR_some, Option.toList_some, Option.toList_none, List.cons_append, List.nil_append, List.append_nil, clr_n, clr_i, clr_a, ni_add, ni_mul, ni_sub, ni_lt, ni_le, ni_eq, ni_div, nat_mod_eq, ni_rem, iMax_nn, iMin_nn, iMax_sub, Nat.zero_max, bI_0, bI_1, bI_n0, up2_s, up2_n, up2_k, va_up_self, va_up_ne, ni_l, lN_mul, lN_add, ln_mask, lN_i, ↓reduceIte, if_true, if_false, not_true_eq_false, not_false_eq_true, ite_self, Nat.add_zero, Nat.zero_add, ent_def]
          refine wp_for (X := Unit) (fun i _ => [some (.ref 158), some (.int (nI (σ 43))), some (.int (nI i))]) (fun i _ μ => ∃ m4, μ = (G, m4, ml) ∧ (∀ b, b ≠ 159 → m4 b = m2 b) ∧ (∀ k, 56 ≤ k → m4 159 k = m2 159 k) ∧ RwV m4 0 (tw τ (hw τ (w1 τ) (τ 45)) i)) (τ 44) ?_ ?_ 0 () _ (Nat.zero_le _) ⟨m3, rfl, x1, x2, by rw [tw_0]; exact x3⟩
          · rintro i - μ hi ⟨m4, rfl, v1, v2, v3⟩ kk
            have hlt : ¬ τ 44 ≤ i := by omega
            have s13 : m4 158 13 = nI (τ 44) := by rw [v1 158 (by decide)]; exact q13
            have s167 : m4 167 i = nI (τ (46 + i)) := by rw [v1 167 (by decide)]; exact (r4' i hi).1
            have s168 : m4 168 i = nI (τ (5 + i)) := by rw [v1 168 (by decide)]; exact (r4' i hi).2
            rw [eX7_list_151]
            simp (maxSteps := 1000000) (decide := true) (disch := (first | assumption | omega | exact Nat.div_mul_le_self _ _ | exact ni_nz (by omega) (by omega) | exact rfl | exact retOk_bI _ | exact retOk_0 | exact retOk_1)) only [eX7_list_152, eX7_list_153, eX7_list_156, eX7_list_159, eX7_list_160, eX7_list_163, eX7_list_165, eX7_list_166, eX7_list_167, eX7_list_168, eX7_list_171, eX7_list_172, eX7_list_173, eX7_list_174, eX7_list_175, eX7_list_178, eX7_list_179, eX7_list_180, eX7_list_181, eX7_list_182, eX7_list_185, eX7_list_186, eX7_list_187, eX7_list_188, eX7_list_191, g1, g9, g10, s13, s167, s168, hlt, WpR_some, Option.toList_some, Option.toList_none, List.cons_append, List.nil_append, List.append_nil, clr_n, clr_i, clr_a, ni_add, ni_mul, ni_sub, ni_lt, ni_le, ni_eq, ni_div, nat_mod_eq, ni_rem, iMax_nn, iMin_nn, iMax_sub, Nat.zero_max, bI_0, bI_1, bI_n0, up2_s, up2_n, up2_k, va_up_self, va_up_ne, ni_l, lN_mul, lN_add, ln_mask, lN_i, ↓reduceIte, if_true, if_false, not_true_eq_false, not_false_eq_true, ite_self, Nat.add_zero, Nat.zero_add, ent_def]
            refine kk () _ ⟨_, rfl, fun b hb => by rw [up2_n hb, up2_n hb]; exact v1 b hb, fun k hk => by rw [up2_k (by omega), up2_k (by omega)]; exact v2 k hk, ?_⟩
            rw [← tw_s]
            exact RwV_up (RwV_up v3 (by omega) (Nat.zero_add _)) (by omega) (Nat.zero_add _)
          · rintro - μ ⟨m4, rfl, v1, v2, v3⟩
            have s13 : m4 158 13 = nI (τ 44) := by rw [v1 158 (by decide)]; exact q13
            have s12' : m4 158 12 = nI (τ 45) := by rw [v1 158 (by decide)]; exact q12
            have hle := Nat.le_refl (τ 44)
            rw [eX7_list_151]
            simp (maxSteps := 1000000) (decide := true) (disch := (first | assumption | omega | exact Nat.div_mul_le_self _ _ | exact ni_nz (by omega) (by omega) | exact rfl | exact retOk_bI _ | exact retOk_0 | exact retOk_1)) only [eX7_list_152, eX7_list_153, eX7_list_156, eX7_list_159, eX7_list_160, eX7_list_163, eX7_list_165, eX7_list_166, eX7_list_167, eX7_list_168, eX7_list_171, eX7_list_172, eX7_list_173, eX7_list_174, eX7_list_175, eX7_list_178, eX7_list_179, eX7_list_180, eX7_list_181, eX7_list_182, eX7_list_185, eX7_list_186, eX7_list_187, eX7_list_188, eX7_list_191, eX7_list_194, eX7_list_195, eX7_list_198, s13, hle, s12', WpR_some, Option.toList_some, Option.toList_none, List.cons_append, List.nil_append, List.append_nil, clr_n, clr_i, clr_a, ni_add, ni_mul, ni_sub, ni_lt, ni_le, ni_eq, ni_div, nat_mod_eq, ni_rem, iMax_nn, iMin_nn, iMax_sub, Nat.zero_max, bI_0, bI_1, bI_n0, up2_s, up2_n, up2_k, va_up_self, va_up_ne, ni_l, lN_mul, lN_add, ln_mask, lN_i, ↓reduceIte, if_true, if_false, not_true_eq_false, not_false_eq_true, ite_self, Nat.add_zero, Nat.zero_add, ent_def]
            rw [← hQ]
            exact ⟨m4, rfl, rfl, fun b z1 z2 => by rw [v1 b z2]; exact y1 b z1 z2, fun k hk => by rw [v1 158 (by decide)]; exact y2 k hk, by rw [v1 158 (by decide)]; exact y3, fun k hk => by rw [v2 k (by omega)]; exact y4 k hk, by rw [v2 56 (by decide)]; exact y5 56 (by decide), v3⟩
    obtain ⟨r, μ', z1, m', rfl, rfl, z2, z3, z4, z5, z6, z7⟩ := res_ex key
    refine ⟨m', nI (τ 45), z1, ⟨fun b q1 q2 q3 q4 q5 q6 => by rw [z2 b q1 q2]; exact F1.1 b q1 q3 q4 q5 q6, fun k q1 q2 => by rw [z3 k q1]; exact F1.2 k q2, fun k hk => by rw [z5 k hk, f159]⟩, ⟨z4, Nat.zero_le _, fun j hj => absurd hj (Nat.not_lt_zero _)⟩, fun f' z => (by cases z), fun e' τ'' z => ?_⟩
    cases z
    refine ⟨rfl, RA_k0 (fun k hk => ?_) z6⟩
    rw [z7 k hk, row_eq hZ hk]
end XL4
