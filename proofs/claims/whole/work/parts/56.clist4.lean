section CL4
variable {G : List AT} {m m1 m2 : Nat → Nat → Int32} {ml : Nat → Nat → Int64} {tl n p q c e d f j i lo hi x y k : Nat} {tc τ σ τ' : Nat → Nat} {u v w : Int32} {μ : Mm} {F : Nat → Nat → Nat}
theorem haR_44 (h : haR tl tc 0 (ls0 d) = .inr (e, τ')) : τ' 44 = 0 := (haR_z rfl ZH_0 ZT_0 h).2.2
theorem r_rl (hG : GW G) (C0 : CP (up2 m 133 2 (nI 0)) tl tc 0 (ls0 d)) : ∃ m' b, res mX5_readList [.ref 133, .ref 144] (G, m, ml) = some (some (.int (bI b)), (G, m', ml)) ∧ FP m m' ∧ OutC m' tl tc (prR tl tc d) b ∧ (b = true → ∃ e, prR tl tc d = .inr e) := by
  have t0 := hG.2.2.1.1
  obtain ⟨m1, b1, e1, F1, O1, B1⟩ := r_rhs (ml := ml) hG C0 rfl
  cases h1 : haR tl tc 0 (ls0 d) with
  | inl f =>
    have hR : prR tl tc d = .inl f := by unfold prR; rw [h1, bnd_l]
    cases b1 with
    | true => obtain ⟨e, z⟩ := B1 rfl; rw [h1] at z; cases z
    | false =>
      refine ⟨m1, false, ?_, FP.tr FP.rf.pp F1, by rw [hR, ← h1]; exact O1, fun z => by cases z⟩
      apply res_of
      show Wp mX5_readList 0 [some (.ref 133), some (.ref 144)] [] (G, m, ml) _
      simp (maxSteps := 1000000) (decide := true) (disch := (first | assumption | omega | exact Nat.div_mul_le_self _ _ | exact ni_nz (by omega) (by omega) | exact rfl | exact retOk_bI _ | exact retOk_0 | exact retOk_1)) only [eX5_readList_0, eX5_readList_1, eX5_readList_2, eX5_readList_5, eX5_readList_6, eX5_readList_7, eX5_readList_10, eX5_readList_13, eX5_readList_14, eX5_readList_15, eX5_readList_18, eX5_readList_21, eX5_readList_22, eX5_readList_23, eX5_readList_26, eX5_readList_29, eX5_readList_30, eX5_readList_33, eX5_readList_36, eX5_readList_37, eX5_readList_40, eX5_readList_41, e1, WpR_some, Option.toList_some, Option.toList_none, List.cons_append, List.nil_append, List.append_nil, clr_n, clr_i, clr_a, ni_add, ni_mul, ni_sub, ni_lt, ni_le, ni_eq, ni_div, nat_mod_eq, ni_rem, iMax_nn, iMin_nn, iMax_sub, Nat.zero_max, bI_0, bI_1, bI_n0, up2_s, up2_n, up2_k, va_up_self, va_up_ne, ni_l, lN_mul, lN_add, ln_mask, lN_i, ↓reduceIte, if_true, if_false, not_true_eq_false, not_false_eq_true, ite_self, Nat.add_zero, Nat.zero_add, ent_def]
      rfl
  | inr a =>
    obtain ⟨p1, τ1⟩ := a
    obtain ⟨z1, C1⟩ := O1.2 _ _ h1
    subst z1
    obtain ⟨m2, b2, e2, F2, O2⟩ := r_rts (ml := ml) hG C1 (haR_44 h1)
    -- from a place at a digit nothing more is read
    have dig : ∀ f τ, CP m2 tl tc f τ → dgt tl tc f = true → b2 = true → ∃ m', res mX5_readList [.ref 133, .ref 144] (G, m, ml) = some (some (.int (bI false)), (G, m', ml)) ∧ FP m m' ∧ ∃ τ', CP m' tl tc f τ' := by
      intro f τ C2 hd hb
      subst hb
      obtain ⟨m3, b3, e3, F3, O3, B3⟩ := r_rs (ml := ml) hG C2
      have hS : stR tl tc f τ = .inr (f, τ) := by
        unfold stR
        have h : ¬ nl tl tc f = 33 := by rw [dgt_nl hd]; have := dgt_t hd; omega
        rw [if_neg h, dgt_sk hd]
      obtain ⟨z3, C3⟩ := O3.2 _ _ hS
      subst z3
      have e4 := r_nl (ml := ml) hG C3.2.1 C3.1 C3.2.2.2
      rw [dgt_nl hd, dgt_sk hd] at e4
      have hne : ¬ tc f = 0 := by have := dgt_t hd; omega
      have hd' := dgt_t hd
      refine ⟨_, ?_, FP.tr (FP.tr FP.rf.pp F1) (FP.tr F2 (FP.tr F3 FP.rf.pp)), τ, C3.pp C3.2.2.2⟩
      apply res_of
      show Wp mX5_readList 0 [some (.ref 133), some (.ref 144)] [] (G, m, ml) _
      simp (maxSteps := 1000000) (decide := true) (disch := (first | assumption | omega | exact Nat.div_mul_le_self _ _ | exact ni_nz (by omega) (by omega) | exact rfl | exact retOk_bI _ | exact retOk_0 | exact retOk_1)) only [eX5_readList_0, eX5_readList_1, eX5_readList_2, eX5_readList_5, eX5_readList_6, eX5_readList_7, eX5_readList_10, eX5_readList_13, eX5_readList_14, eX5_readList_15, eX5_readList_18, eX5_readList_21, eX5_readList_22, eX5_readList_23, eX5_readList_26, eX5_readList_29, eX5_readList_30, eX5_readList_33, eX5_readList_36, eX5_readList_37, eX5_readList_40, eX5_readList_41, e1, e2, e3, e4, hne, WpR_some, Option.toList_some, Option.toList_none, List.cons_append, List.nil_append, List.append_nil, clr_n, clr_i, clr_a, ni_add, ni_mul, ni_sub, ni_lt, ni_le, ni_eq, ni_div, nat_mod_eq, ni_rem, iMax_nn, iMin_nn, iMax_sub, Nat.zero_max, bI_0, bI_1, bI_n0, up2_s, up2_n, up2_k, va_up_self, va_up_ne, ni_l, lN_mul, lN_add, ln_mask, lN_i, ↓reduceIte, if_true, if_false, not_true_eq_false, not_false_eq_true, ite_self, Nat.add_zero, Nat.zero_add, ent_def]
      rfl
    cases h2 : taR tl tc p1 τ1 with
    | inl f =>
      have hR : prR tl tc d = .inl f := by unfold prR; simp only [h1, bnd_r, h2, bnd_l]
      obtain ⟨z2, τ', C2⟩ := O2.1 f h2
      cases b2 with
      | false =>
        refine ⟨m2, false, ?_, FP.tr (FP.tr FP.rf.pp F1) F2, ⟨fun f' z => by rw [hR] at z; cases z; exact ⟨fun z => (by cases z), τ', C2⟩, fun e τ' z => by rw [hR] at z; cases z⟩, fun z => by cases z⟩
        apply res_of
        show Wp mX5_readList 0 [some (.ref 133), some (.ref 144)] [] (G, m, ml) _
        simp (maxSteps := 1000000) (decide := true) (disch := (first | assumption | omega | exact Nat.div_mul_le_self _ _ | exact ni_nz (by omega) (by omega) | exact rfl | exact retOk_bI _ | exact retOk_0 | exact retOk_1)) only [eX5_readList_0, eX5_readList_1, eX5_readList_2, eX5_readList_5, eX5_readList_6, eX5_readList_7, eX5_readList_10, eX5_readList_13, eX5_readList_14, eX5_readList_15, eX5_readList_18, eX5_readList_21, eX5_readList_22, eX5_readList_23, eX5_readList_26, eX5_readList_29, eX5_readList_30, eX5_readList_33, eX5_readList_36, eX5_readList_37, eX5_readList_40, eX5_readList_41, e1, e2, WpR_some, Option.toList_some, Option.toList_none, List.cons_append, List.nil_append, List.append_nil, clr_n, clr_i, clr_a, ni_add, ni_mul, ni_sub, ni_lt, ni_le, ni_eq, ni_div, nat_mod_eq, ni_rem, iMax_nn, iMin_nn, iMax_sub, Nat.zero_max, bI_0, bI_1, bI_n0, up2_s, up2_n, up2_k, va_up_self, va_up_ne, ni_l, lN_mul, lN_add, ln_mask, lN_i, ↓reduceIte, if_true, if_false, not_true_eq_false, not_false_eq_true, ite_self, Nat.add_zero, Nat.zero_add, ent_def]
        rfl
      | true =>
        obtain ⟨m', r1, r2, r3⟩ := dig f τ' C2 (z2 rfl) rfl
        exact ⟨m', false, r1, r2, ⟨fun f' z => by rw [hR] at z; cases z; exact ⟨fun z => (by cases z), r3⟩, fun e τ' z => by rw [hR] at z; cases z⟩, fun z => by cases z⟩
    | inr a =>
      obtain ⟨p2, τ2⟩ := a
      obtain ⟨z2, C2⟩ := O2.2 _ _ h2
      subst z2
      obtain ⟨m3, b3, e3, F3, O3, B3⟩ := r_rs (ml := ml) hG C2
      cases h3 : stR tl tc p2 τ2 with
      | inl f =>
        have hR : prR tl tc d = .inl f := by unfold prR; simp only [h1, bnd_r, h2, h3, bnd_l]
        obtain ⟨z3, τ', C3⟩ := O3.1 f h3
        cases b3 with
        | true => obtain ⟨e, z⟩ := B3 rfl; rw [h3] at z; cases z
        | false =>
          refine ⟨m3, false, ?_, FP.tr (FP.tr FP.rf.pp F1) (FP.tr F2 F3), ⟨fun f' z => by rw [hR] at z; cases z; exact ⟨fun z => (by cases z), τ', C3⟩, fun e τ' z => by rw [hR] at z; cases z⟩, fun z => by cases z⟩
          apply res_of
          show Wp mX5_readList 0 [some (.ref 133), some (.ref 144)] [] (G, m, ml) _
          simp (maxSteps := 1000000) (decide := true) (disch := (first | assumption | omega | exact Nat.div_mul_le_self _ _ | exact ni_nz (by omega) (by omega) | exact rfl | exact retOk_bI _ | exact retOk_0 | exact retOk_1)) only [eX5_readList_0, eX5_readList_1, eX5_readList_2, eX5_readList_5, eX5_readList_6, eX5_readList_7, eX5_readList_10, eX5_readList_13, eX5_readList_14, eX5_readList_15, eX5_readList_18, eX5_readList_21, eX5_readList_22, eX5_readList_23, eX5_readList_26, eX5_readList_29, eX5_readList_30, eX5_readList_33, eX5_readList_36, eX5_readList_37, eX5_readList_40, eX5_readList_41, e1, e2, e3, WpR_some, Option.toList_some, Option.toList_none, List.cons_append, List.nil_append, List.append_nil, clr_n, clr_i, clr_a, ni_add, ni_mul, ni_sub, ni_lt, ni_le, ni_eq, ni_div, nat_mod_eq, ni_rem, iMax_nn, iMin_nn, iMax_sub, Nat.zero_max, bI_0, bI_1, bI_n0, up2_s, up2_n, up2_k, va_up_self, va_up_ne, ni_l, lN_mul, lN_add, ln_mask, lN_i, ↓reduceIte, if_true, if_false, not_true_eq_false, not_false_eq_true, ite_self, Nat.add_zero, Nat.zero_add, ent_def]
          rfl
      | inr a =>
        obtain ⟨p3, τ3⟩ := a
        obtain ⟨z3, C3⟩ := O3.2 _ _ h3
        subst z3
        have e4 := r_nl (ml := ml) hG C3.2.1 C3.1 C3.2.2.2
        by_cases hlt : sk tl tc p3 < tl
        · have hR : prR tl tc d = .inl (sk tl tc p3) := by unfold prR; simp only [h1, bnd_r, h2, h3]; unfold enR; rw [if_pos hlt]
          have hn := C3.2.1.2.2 _ hlt
          have hnl : nl tl tc p3 = tc (sk tl tc p3) := by unfold nl; rw [if_pos hlt]
          rw [hnl] at e4
          have hne : ¬ tc (sk tl tc p3) = 0 := by omega
          have h126 : tc (sk tl tc p3) ≤ 126 := hn.2.2
          refine ⟨_, false, ?_, FP.tr (FP.tr FP.rf.pp F1) (FP.tr F2 (FP.tr F3 FP.rf.pp)), ⟨fun f' z => by rw [hR] at z; cases z; exact ⟨fun z => (by cases z), τ3, C3.pp (sk_le C3.2.2.2)⟩, fun e τ' z => by rw [hR] at z; cases z⟩, fun z => by cases z⟩
          apply res_of
          show Wp mX5_readList 0 [some (.ref 133), some (.ref 144)] [] (G, m, ml) _
          simp (maxSteps := 1000000) (decide := true) (disch := (first | assumption | omega | exact Nat.div_mul_le_self _ _ | exact ni_nz (by omega) (by omega) | exact rfl | exact retOk_bI _ | exact retOk_0 | exact retOk_1)) only [eX5_readList_0, eX5_readList_1, eX5_readList_2, eX5_readList_5, eX5_readList_6, eX5_readList_7, eX5_readList_10, eX5_readList_13, eX5_readList_14, eX5_readList_15, eX5_readList_18, eX5_readList_21, eX5_readList_22, eX5_readList_23, eX5_readList_26, eX5_readList_29, eX5_readList_30, eX5_readList_33, eX5_readList_36, eX5_readList_37, eX5_readList_40, eX5_readList_41, e1, e2, e3, e4, hne, WpR_some, Option.toList_some, Option.toList_none, List.cons_append, List.nil_append, List.append_nil, clr_n, clr_i, clr_a, ni_add, ni_mul, ni_sub, ni_lt, ni_le, ni_eq, ni_div, nat_mod_eq, ni_rem, iMax_nn, iMin_nn, iMax_sub, Nat.zero_max, bI_0, bI_1, bI_n0, up2_s, up2_n, up2_k, va_up_self, va_up_ne, ni_l, lN_mul, lN_add, ln_mask, lN_i, ↓reduceIte, if_true, if_false, not_true_eq_false, not_false_eq_true, ite_self, Nat.add_zero, Nat.zero_add, ent_def]
          rfl
        · have hR : prR tl tc d = .inr (sk tl tc p3, τ3) := by unfold prR; simp only [h1, bnd_r, h2, h3]; unfold enR; rw [if_neg hlt]
          have hnl : nl tl tc p3 = 0 := by unfold nl; rw [if_neg hlt]
          rw [hnl] at e4
          refine ⟨_, true, ?_, FP.tr (FP.tr FP.rf.pp F1) (FP.tr F2 (FP.tr F3 FP.rf.pp)), ⟨fun f' z => (by rw [hR] at z; cases z), fun e τ' z => by rw [hR] at z; cases z; exact ⟨rfl, C3.pp (sk_le C3.2.2.2)⟩⟩, fun _ => ⟨_, hR⟩⟩
          apply res_of
          show Wp mX5_readList 0 [some (.ref 133), some (.ref 144)] [] (G, m, ml) _
          simp (maxSteps := 1000000) (decide := true) (disch := (first | assumption | omega | exact Nat.div_mul_le_self _ _ | exact ni_nz (by omega) (by omega) | exact rfl | exact retOk_bI _ | exact retOk_0 | exact retOk_1)) only [eX5_readList_0, eX5_readList_1, eX5_readList_2, eX5_readList_5, eX5_readList_6, eX5_readList_7, eX5_readList_10, eX5_readList_13, eX5_readList_14, eX5_readList_15, eX5_readList_18, eX5_readList_21, eX5_readList_22, eX5_readList_23, eX5_readList_26, eX5_readList_29, eX5_readList_30, eX5_readList_33, eX5_readList_36, eX5_readList_37, eX5_readList_40, eX5_readList_41, e1, e2, e3, e4, WpR_some, Option.toList_some, Option.toList_none, List.cons_append, List.nil_append, List.append_nil, clr_n, clr_i, clr_a, ni_add, ni_mul, ni_sub, ni_lt, ni_le, ni_eq, ni_div, nat_mod_eq, ni_rem, iMax_nn, iMin_nn, iMax_sub, Nat.zero_max, bI_0, bI_1, bI_n0, up2_s, up2_n, up2_k, va_up_self, va_up_ne, ni_l, lN_mul, lN_add, ln_mask, lN_i, ↓reduceIte, if_true, if_false, not_true_eq_false, not_false_eq_true, ite_self, Nat.add_zero, Nat.zero_add, ent_def]
          rfl
/-! an empty shire -/
theorem ShV_z {a : Nat} (h0 : m a 0 = nI 0) (h1 : m a 1 = nI 0) (h2 : m a 2 = nI 0) (h3 : m a 3 = nI 0) (h4 : m a 4 = nI 1) (h5 : m a 5 = nI 0) (h6 : m a 6 = nI d) (h7 : ∀ k, k < 5 → m (a + 5) k = nI 0) (h8 : ∀ k, k < 25 → m (a + 6) k = nI 0) : ShV m a (ls0 d) := by
  refine ⟨by show 0 ≤ 5; omega, by show 0 ≤ 5; omega, h2, ?_⟩
  intro i hi hl
  obtain ⟨l1, l2, l3, l4⟩ := hl
  have e44 : ls0 d 44 = 0 := rfl
  have e45 : ls0 d 45 = 0 := rfl
  rw [e44] at l2 l3
  rw [e45] at l1 l4
  by_cases c1 : i < 10
  · exfalso; by_cases c0 : i < 5
    · exact absurd (l1 c0) (Nat.not_lt_zero _)
    · exact absurd (l2 (by omega) c1) (Nat.not_lt_zero _)
  by_cases c2 : 46 ≤ i
  · exfalso; by_cases c0 : i < 51
    · exact absurd (l3 c2 c0) (Nat.not_lt_zero _)
    · exact absurd (l4 (by omega)) (Nat.not_lt_zero _)
  by_cases c3 : i < 35
  · have e1 : cO i = 6 := by unfold cO; rw [if_neg (by omega), if_neg (by omega), if_pos c3]
    have e2 : cK i = i - 10 := by unfold cK; rw [if_neg (by omega), if_neg (by omega), if_pos c3]
    have e3 : ls0 d i = 0 := by unfold ls0; rw [if_neg (by omega), if_neg (by omega)]
    rw [e1, e2, e3]; exact h8 _ (by omega)
  by_cases c4 : i < 40
  · have e1 : cO i = 5 := by unfold cO; rw [if_neg (by omega), if_neg (by omega), if_neg c3, if_pos c4]
    have e2 : cK i = i - 35 := by unfold cK; rw [if_neg (by omega), if_neg (by omega), if_neg c3, if_pos c4]
    have e3 : ls0 d i = 0 := by unfold ls0; rw [if_neg (by omega), if_neg (by omega)]
    rw [e1, e2, e3]; exact h7 _ (by omega)
  have : i = 40 ∨ i = 41 ∨ i = 42 ∨ i = 43 ∨ i = 44 ∨ i = 45 := by omega
  rcases this with rfl | rfl | rfl | rfl | rfl | rfl
  · exact h3
  · exact h4
  · exact h5
  · exact h6
  · exact h0
  · exact h1
theorem r_empty {a : Nat} (hS : Sh G a) (h6 : m a 6 = nI d) : ∃ m', res mX3_empty [.ref a] (G, m, ml) = some (none, (G, m', ml)) ∧ ShV m' a (ls0 d) ∧ (∀ b, b < a ∨ a + 6 < b → m' b = m b) := by
  obtain ⟨q0, ⟨q1, q2, q3, q4, q5, q6⟩, ⟨f1, f2, f3, f4, f5, f6⟩, k1, k2, k3, k4, k5, k6⟩ := hS
  have key : Wp mX3_empty 0 (ent [.ref a] 2) [] (G, m, ml) (fun r μ' => ∃ m', r = none ∧ μ' = (G, m', ml) ∧ ShV m' a (ls0 d) ∧ (∀ b, b < a ∨ a + 6 < b → m' b = m b)) := by
    show Wp mX3_empty 0 [some (.ref a), none] [] (G, m, ml) _
    generalize hQ : (fun (r : Option Value) (μ' : Mm) => ∃ m', r = none ∧ μ' = (G, m', ml) ∧ ShV m' a (ls0 d) ∧ (∀ b, b < a ∨ a + 6 < b → m' b = m b)) = Q
    simp (maxSteps := 1000000) (decide := true) (disch := (first | assumption | omega | exact Nat.div_mul_le_self _ _ | exact ni_nz (by omega) (by omega) | exact rfl | exact retOk_bI _ | exact retOk_0 | exact retOk_1)) only [eX3_empty_0, eX3_empty_1, eX3_empty_2, eX3_empty_5, eX3_empty_6, eX3_empty_7, eX3_empty_10, eX3_empty_11, eX3_empty_12, eX3_empty_15, eX3_empty_16, eX3_empty_17, eX3_empty_20, eX3_empty_21, eX3_empty_22, eX3_empty_25, eX3_empty_26, eX3_empty_27, eX3_empty_30, eX3_empty_31, WpR_some, Option.toList_some, Option.toList_none, List.cons_append, List.nil_append, List.append_nil, clr_n, clr_i, clr_a, ni_add, ni_mul, ni_sub, ni_lt, ni_le, ni_eq, ni_div, nat_mod_eq, ni_rem, iMax_nn, iMin_nn, iMax_sub, Nat.zero_max, bI_0, bI_1, bI_n0, up2_s, up2_n, up2_k, va_up_self, va_up_ne, ni_l, lN_mul, lN_add, ln_mask, lN_i, ↓reduceIte, if_true, if_false, not_true_eq_false, not_false_eq_true, ite_self, Nat.add_zero, Nat.zero_add, ent_def]
    generalize hm1 : up2 (up2 (up2 (up2 (up2 (up2 m a _ _) a _ _) a _ _) a _ _) a _ _) a _ _ = m1
    have P1 : m1 a 0 = nI 0 ∧ m1 a 1 = nI 0 ∧ m1 a 2 = nI 0 ∧ m1 a 3 = nI 0 ∧ m1 a 4 = nI 1 ∧ m1 a 5 = nI 0 ∧ m1 a 6 = nI d ∧ ∀ b, b ≠ a → m1 b = m b := by
      subst hm1
      refine ⟨?_, ?_, ?_, ?_, ?_, ?_, ?_, fun b hb => by simp only [up2_n hb]⟩ <;> simp (decide := true) only [up2_at, h6, and_true, and_false, if_true, if_false]
    refine wp_for (X := Unit) (fun i _ => [some (.ref a), some (.int (nI i))]) (fun i _ μ => ∃ m2, μ = (G, m2, ml) ∧ m2 a = m1 a ∧ (∀ k, k < i → m2 (a + 5) k = nI 0) ∧ (∀ b, b < a ∨ a + 6 < b → m2 b = m b)) 5 ?_ ?_ 0 () _ (Nat.zero_le _) ⟨m1, rfl, rfl, fun k hk => absurd hk (Nat.not_lt_zero _), fun b hb => P1.2.2.2.2.2.2.2 b (by omega)⟩
    · rintro i - μ hi ⟨m2, rfl, z1, z2, z3⟩ kk
      have hlt : ¬ 5 ≤ i := by omega
      rw [eX3_empty_32]
      simp (maxSteps := 1000000) (decide := true) (disch := (first | assumption | omega | exact Nat.div_mul_le_self _ _ | exact ni_nz (by omega) (by omega) | exact rfl | exact retOk_bI _ | exact retOk_0 | exact retOk_1)) only [eX3_empty_0, eX3_empty_1, eX3_empty_2, eX3_empty_5, eX3_empty_6, eX3_empty_7, eX3_empty_10, eX3_empty_11, eX3_empty_12, eX3_empty_15, eX3_empty_16, eX3_empty_17, eX3_empty_20, eX3_empty_21, eX3_empty_22, eX3_empty_25, eX3_empty_26, eX3_empty_27, eX3_empty_30, eX3_empty_31, eX3_empty_33, eX3_empty_34, eX3_empty_37, eX3_empty_38, eX3_empty_41, eX3_empty_42, eX3_empty_43, eX3_empty_44, eX3_empty_47, eX3_empty_50, eX3_empty_51, eX3_empty_53, eX3_empty_55, eX3_empty_58, eX3_empty_59, eX3_empty_62, eX3_empty_63, eX3_empty_64, eX3_empty_65, eX3_empty_68, eX3_empty_71, q5, hlt, WpR_some, Option.toList_some, Option.toList_none, List.cons_append, List.nil_append, List.append_nil, clr_n, clr_i, clr_a, ni_add, ni_mul, ni_sub, ni_lt, ni_le, ni_eq, ni_div, nat_mod_eq, ni_rem, iMax_nn, iMin_nn, iMax_sub, Nat.zero_max, bI_0, bI_1, bI_n0, up2_s, up2_n, up2_k, va_up_self, va_up_ne, ni_l, lN_mul, lN_add, ln_mask, lN_i, ↓reduceIte, if_true, if_false, not_true_eq_false, not_false_eq_true, ite_self, Nat.add_zero, Nat.zero_add, ent_def]
      exact kk () _ ⟨_, rfl, by rw [up2_n (by omega)]; exact z1, fun k hk => by
        by_cases hq : k = i
        · rw [hq, up2_s]
        · rw [up2_k hq]; exact z2 k (by omega), fun b hb => by rw [up2_n (by omega)]; exact z3 b hb⟩
    · rintro - μ ⟨m2, rfl, z1, z2, z3⟩
      rw [eX3_empty_32]
      simp (maxSteps := 1000000) (decide := true) (disch := (first | assumption | omega | exact Nat.div_mul_le_self _ _ | exact ni_nz (by omega) (by omega) | exact rfl | exact retOk_bI _ | exact retOk_0 | exact retOk_1)) only [eX3_empty_0, eX3_empty_1, eX3_empty_2, eX3_empty_5, eX3_empty_6, eX3_empty_7, eX3_empty_10, eX3_empty_11, eX3_empty_12, eX3_empty_15, eX3_empty_16, eX3_empty_17, eX3_empty_20, eX3_empty_21, eX3_empty_22, eX3_empty_25, eX3_empty_26, eX3_empty_27, eX3_empty_30, eX3_empty_31, eX3_empty_33, eX3_empty_34, eX3_empty_37, eX3_empty_38, eX3_empty_41, eX3_empty_42, eX3_empty_43, eX3_empty_44, eX3_empty_47, eX3_empty_50, eX3_empty_51, eX3_empty_53, eX3_empty_55, eX3_empty_58, eX3_empty_59, eX3_empty_62, eX3_empty_63, eX3_empty_64, eX3_empty_65, eX3_empty_68, eX3_empty_71, Nat.le_refl, WpR_some, Option.toList_some, Option.toList_none, List.cons_append, List.nil_append, List.append_nil, clr_n, clr_i, clr_a, ni_add, ni_mul, ni_sub, ni_lt, ni_le, ni_eq, ni_div, nat_mod_eq, ni_rem, iMax_nn, iMin_nn, iMax_sub, Nat.zero_max, bI_0, bI_1, bI_n0, up2_s, up2_n, up2_k, va_up_self, va_up_ne, ni_l, lN_mul, lN_add, ln_mask, lN_i, ↓reduceIte, if_true, if_false, not_true_eq_false, not_false_eq_true, ite_self, Nat.add_zero, Nat.zero_add, ent_def]
      refine wp_for (X := Unit) (fun i _ => [some (.ref a), some (.int (nI i))]) (fun i _ μ => ∃ m3, μ = (G, m3, ml) ∧ m3 a = m1 a ∧ (∀ k, k < 5 → m3 (a + 5) k = nI 0) ∧ (∀ k, k < i → m3 (a + 6) k = nI 0) ∧ (∀ b, b < a ∨ a + 6 < b → m3 b = m b)) 25 ?_ ?_ 0 () _ (Nat.zero_le _) ⟨m2, rfl, z1, z2, fun k hk => absurd hk (Nat.not_lt_zero _), z3⟩
      · rintro i - μ hi ⟨m3, rfl, y1, y2, y3, y4⟩ kk
        have hlt : ¬ 25 ≤ i := by omega
        rw [eX3_empty_52]
        simp (maxSteps := 1000000) (decide := true) (disch := (first | assumption | omega | exact Nat.div_mul_le_self _ _ | exact ni_nz (by omega) (by omega) | exact rfl | exact retOk_bI _ | exact retOk_0 | exact retOk_1)) only [eX3_empty_0, eX3_empty_1, eX3_empty_2, eX3_empty_5, eX3_empty_6, eX3_empty_7, eX3_empty_10, eX3_empty_11, eX3_empty_12, eX3_empty_15, eX3_empty_16, eX3_empty_17, eX3_empty_20, eX3_empty_21, eX3_empty_22, eX3_empty_25, eX3_empty_26, eX3_empty_27, eX3_empty_30, eX3_empty_31, eX3_empty_33, eX3_empty_34, eX3_empty_37, eX3_empty_38, eX3_empty_41, eX3_empty_42, eX3_empty_43, eX3_empty_44, eX3_empty_47, eX3_empty_50, eX3_empty_51, eX3_empty_53, eX3_empty_55, eX3_empty_58, eX3_empty_59, eX3_empty_62, eX3_empty_63, eX3_empty_64, eX3_empty_65, eX3_empty_68, eX3_empty_71, q6, hlt, WpR_some, Option.toList_some, Option.toList_none, List.cons_append, List.nil_append, List.append_nil, clr_n, clr_i, clr_a, ni_add, ni_mul, ni_sub, ni_lt, ni_le, ni_eq, ni_div, nat_mod_eq, ni_rem, iMax_nn, iMin_nn, iMax_sub, Nat.zero_max, bI_0, bI_1, bI_n0, up2_s, up2_n, up2_k, va_up_self, va_up_ne, ni_l, lN_mul, lN_add, ln_mask, lN_i, ↓reduceIte, if_true, if_false, not_true_eq_false, not_false_eq_true, ite_self, Nat.add_zero, Nat.zero_add, ent_def]
        exact kk () _ ⟨_, rfl, by rw [up2_n (by omega)]; exact y1, by rw [up2_n (by omega)]; exact y2, fun k hk => by
          by_cases hq : k = i
          · rw [hq, up2_s]
          · rw [up2_k hq]; exact y3 k (by omega), fun b hb => by rw [up2_n (by omega)]; exact y4 b hb⟩
      · rintro - μ ⟨m3, rfl, y1, y2, y3, y4⟩
        rw [eX3_empty_52]
        simp (maxSteps := 1000000) (decide := true) (disch := (first | assumption | omega | exact Nat.div_mul_le_self _ _ | exact ni_nz (by omega) (by omega) | exact rfl | exact retOk_bI _ | exact retOk_0 | exact retOk_1)) only [eX3_empty_0, eX3_empty_1, eX3_empty_2, eX3_empty_5, eX3_empty_6, eX3_empty_7, eX3_empty_10, eX3_empty_11, eX3_empty_12, eX3_empty_15, eX3_empty_16, eX3_empty_17, eX3_empty_20, eX3_empty_21, eX3_empty_22, eX3_empty_25, eX3_empty_26, eX3_empty_27, eX3_empty_30, eX3_empty_31, eX3_empty_33, eX3_empty_34, eX3_empty_37, eX3_empty_38, eX3_empty_41, eX3_empty_42, eX3_empty_43, eX3_empty_44, eX3_empty_47, eX3_empty_50, eX3_empty_51, eX3_empty_53, eX3_empty_55, eX3_empty_58, eX3_empty_59, eX3_empty_62, eX3_empty_63, eX3_empty_64, eX3_empty_65, eX3_empty_68, eX3_empty_71, Nat.le_refl, WpR_some, Option.toList_some, Option.toList_none, List.cons_append, List.nil_append, List.append_nil, clr_n, clr_i, clr_a, ni_add, ni_mul, ni_sub, ni_lt, ni_le, ni_eq, ni_div, nat_mod_eq, ni_rem, iMax_nn, iMin_nn, iMax_sub, Nat.zero_max, bI_0, bI_1, bI_n0, up2_s, up2_n, up2_k, va_up_self, va_up_ne, ni_l, lN_mul, lN_add, ln_mask, lN_i, ↓reduceIte, if_true, if_false, not_true_eq_false, not_false_eq_true, ite_self, Nat.add_zero, Nat.zero_add, ent_def]
        rw [← hQ]
        obtain ⟨p0, p1, p2, p3, p4, p5, p6, p7⟩ := P1
        exact ⟨m3, rfl, rfl, ShV_z (by rw [y1]; exact p0) (by rw [y1]; exact p1) (by rw [y1]; exact p2) (by rw [y1]; exact p3) (by rw [y1]; exact p4) (by rw [y1]; exact p5) (by rw [y1]; exact p6) y2 y3, y4⟩
  obtain ⟨r, μ', e1, m', rfl, rfl, h2⟩ := res_ex key
  exact ⟨m', e1, h2⟩
theorem r_wipe (hG : GW G) : res mX5_wipe [.ref 133] (G, m, ml) = some (none, (G, up2 m 133 1 (nI 0), ml)) := by
  have t0 := hG.2.2.1.1
  apply res_of
  show Wp mX5_wipe 0 [some (.ref 133)] [] (G, m, ml) _
  simp (maxSteps := 1000000) (decide := true) (disch := (first | assumption | omega | exact Nat.div_mul_le_self _ _ | exact ni_nz (by omega) (by omega) | exact rfl | exact retOk_bI _ | exact retOk_0 | exact retOk_1)) only [eX5_wipe_0, eX5_wipe_1, eX5_wipe_2, eX5_wipe_5, WpR_some, Option.toList_some, Option.toList_none, List.cons_append, List.nil_append, List.append_nil, clr_n, clr_i, clr_a, ni_add, ni_mul, ni_sub, ni_lt, ni_le, ni_eq, ni_div, nat_mod_eq, ni_rem, iMax_nn, iMin_nn, iMax_sub, Nat.zero_max, bI_0, bI_1, bI_n0, up2_s, up2_n, up2_k, va_up_self, va_up_ne, ni_l, lN_mul, lN_add, ln_mask, lN_i, ↓reduceIte, if_true, if_false, not_true_eq_false, not_false_eq_true, ite_self, Nat.add_zero, Nat.zero_add, ent_def]
/-- what the class's list leaves -/
def FL (m m' : Nat → Nat → Int32) : Prop := ∀ b, b < 3 ∨ (68 ≤ b ∧ b < 133) ∨ b = 134 ∨ b = 135 ∨ (136 ≤ b ∧ b < 144) ∨ 150 < b → m' b = m b
theorem c_list (hG : GW G) (hC : CA m σ k F) (hT : CT m tl tc) : ∃ m' r, res mX6_list [.ref 2] (G, m, ml) = some (some (.int r), (G, m', ml)) ∧ FL m m' ∧ CT m' 0 tc ∧ (∀ f, prR tl tc (σ 43) = .inl f → r = -20 - nI f ∧ CA m' σ k F) ∧ (∀ e τ, prR tl tc (σ 43) = .inr (e, τ) → r = nI (τ 45) ∧ CA m' τ 0 F) := by
  have hG0 := hG
  obtain ⟨⟨g0, g1, g2, g3, g4, g5, g6, g7, g8, g9, g10, g11, g12⟩, ⟨s3, p10, s68, p75, s144⟩, ⟨t0, t1, t2, t3⟩, -⟩ := hG
  obtain ⟨m1, e1, V1, F1⟩ := r_X3_become (m := m) (ml := ml) s144 s3 (by omega)
  have W1 := V1 σ hC.1
  have d43 : m1 144 6 = nI (σ 43) := W1.2.2.2 43 (by decide) ⟨fun h => absurd h (by decide), fun _ h => absurd h (by decide), fun h => absurd h (by decide), fun h => absurd h (by decide)⟩
  obtain ⟨m2, e2, V2, F2⟩ := r_empty (ml := ml) s144 d43
  have T2 : CT m2 tl tc := ⟨by rw [F2 133 (by omega), F1 133 (by omega)]; exact hT.1, hT.2.1, fun j hj => by rw [F2 134 (by omega), F1 134 (by omega)]; exact hT.2.2 j hj⟩
  have q3 := s3.1
  have q144 := s144.1
  have q10 := p10.1
  have F12 : ∀ b, b < 144 ∨ 150 < b → m2 b = m b := fun b hb => by rw [F2 b (by omega), F1 b (by omega)]
  have C2 : CP (up2 m2 133 2 (nI 0)) tl tc 0 (ls0 (σ 43)) := ⟨by rw [up2_s], CT_p T2, ShV_fr V2 (fun b z1 z2 => up2_n (by omega)), Nat.zero_le _⟩
  obtain ⟨m3, b, e3, F3, O3, B3⟩ := r_rl (ml := ml) hG0 C2
  have F13 : ∀ b, b ≠ 133 → b < 144 ∨ 150 < b → m3 b = m b := fun b z1 z2 => by rw [F3 b z1 z2, F12 b z2]
  have T3 : ∀ f τ, CP m3 tl tc f τ → ∀ m', (∀ b, b = 134 → m' b = m3 b) → m' 133 1 = nI 0 → CT m' 0 tc := fun f τ h m' h1 h2 => ⟨h2, Nat.zero_le _, fun j hj => absurd hj (Nat.not_lt_zero _)⟩
  have e4 := r_wipe (m := m3) (ml := ml) hG0
  have c3 : CA m3 σ k F := ⟨ShV_fr hC.1 (fun b z1 z2 => F13 b (by omega) (by omega)), PaV_fr hC.2 (fun b z1 z2 => F13 b (by omega) (by omega))⟩
  have c4 : CA (up2 m3 133 1 (nI 0)) σ k F := ⟨ShV_fr c3.1 (fun b z1 z2 => up2_n (by omega)), PaV_fr c3.2 (fun b z1 z2 => up2_n (by omega))⟩
  cases hp : prR tl tc (σ 43) with
  | inl f =>
    obtain ⟨-, τ', C3⟩ := O3.1 f hp
    have hb : b = false := by
      cases b
      · rfl
      · obtain ⟨e, z⟩ := B3 rfl; rw [hp] at z; cases z
    subst hb
    have pl := C3.1
    refine ⟨up2 m3 133 1 (nI 0), -20 - nI f, ?_, fun b z => by rw [up2_n (by omega)]; exact F13 b (by omega) (by omega), ⟨by rw [up2_s], Nat.zero_le _, fun j hj => absurd hj (Nat.not_lt_zero _)⟩, fun f' z => by cases z; exact ⟨rfl, c4⟩, fun e τ z => by cases z⟩
    apply res_of
    show Wp mX6_list 0 [some (.ref 2), none, none] [] (G, m, ml) _
    simp (maxSteps := 1000000) (decide := true) (disch := (first | assumption | omega | exact Nat.div_mul_le_self _ _ | exact ni_nz (by omega) (by omega) | exact rfl | exact retOk_bI _ | exact retOk_0 | exact retOk_1)) only [eX6_list_0, eX6_list_1, eX6_list_4, eX6_list_5, eX6_list_8, eX6_list_11, eX6_list_12, eX6_list_15, eX6_list_18, eX6_list_19, eX6_list_22, eX6_list_23, eX6_list_26, eX6_list_29, eX6_list_30, eX6_list_32, eX6_list_33, eX6_list_36, eX6_list_39, eX6_list_40, eX6_list_41, eX6_list_42, eX6_list_45, eX6_list_48, eX6_list_49, eX6_list_52, eX6_list_53, eX6_list_54, eX6_list_55, eX6_list_58, eX6_list_59, eX6_list_62, eX6_list_65, eX6_list_66, eX6_list_69, eX6_list_72, eX6_list_73, eX6_list_76, eX6_list_79, g1, g5, g7, e1, e2, e3, e4, pl, WpR_some, Option.toList_some, Option.toList_none, List.cons_append, List.nil_append, List.append_nil, clr_n, clr_i, clr_a, ni_add, ni_mul, ni_sub, ni_lt, ni_le, ni_eq, ni_div, nat_mod_eq, ni_rem, iMax_nn, iMin_nn, iMax_sub, Nat.zero_max, bI_0, bI_1, bI_n0, up2_s, up2_n, up2_k, va_up_self, va_up_ne, ni_l, lN_mul, lN_add, ln_mask, lN_i, ↓reduceIte, if_true, if_false, not_true_eq_false, not_false_eq_true, ite_self, Nat.add_zero, Nat.zero_add, ent_def]
  | inr a =>
    obtain ⟨e, τ⟩ := a
    obtain ⟨z3, C3⟩ := O3.2 _ _ hp
    subst z3
    have pl := C3.1
    have V4 : ShV (up2 m3 133 1 (nI 0)) 144 τ := ShV_fr C3.2.2.1 (fun b z1 z2 => up2_n (by omega))
    obtain ⟨m5, e5, V5, F5⟩ := r_X3_become (m := up2 m3 133 1 (nI 0)) (ml := ml) s3 s144 (by omega)
    have W5 := V5 τ V4
    have e6 := r_X1_forget (G := G) (m := m5) (ml := ml) p10.1
    have W6 : ShV (up2 m5 10 2 (nI 0)) 3 τ := ShV_fr W5 (fun b z1 z2 => up2_n (by omega))
    have hh : up2 m5 10 2 (nI 0) 3 1 = nI (τ 45) := W6.2.2.2 45 (by decide) ⟨fun h => absurd h (by decide), fun _ h => absurd h (by decide), fun h => absurd h (by decide), fun h => absurd h (by decide)⟩
    have Pz : PaV (up2 m5 10 2 (nI 0)) 10 0 F := by
      obtain ⟨n, n1, n2, n3, n4, n5⟩ := c4.2
      exact ⟨n, n1, by rw [up2_k (by decide), F5 10 (by omega)]; exact n2, by rw [up2_s], by omega, fun i hi => absurd hi (Nat.not_lt_zero _)⟩
    refine ⟨up2 m5 10 2 (nI 0), nI (τ 45), ?_, fun b z => by rw [up2_n (by omega), F5 b (by omega), up2_n (by omega)]; exact F13 b (by omega) (by omega), ⟨by rw [up2_n (by decide), F5 133 (by omega), up2_s], Nat.zero_le _, fun j hj => absurd hj (Nat.not_lt_zero _)⟩, fun f' z => (by cases z), fun e' τ'' z => by cases z; exact ⟨rfl, W6, Pz⟩⟩
    apply res_of
    show Wp mX6_list 0 [some (.ref 2), none, none] [] (G, m, ml) _
    simp (maxSteps := 1000000) (decide := true) (disch := (first | assumption | omega | exact Nat.div_mul_le_self _ _ | exact ni_nz (by omega) (by omega) | exact rfl | exact retOk_bI _ | exact retOk_0 | exact retOk_1)) only [eX6_list_0, eX6_list_1, eX6_list_4, eX6_list_5, eX6_list_8, eX6_list_11, eX6_list_12, eX6_list_15, eX6_list_18, eX6_list_19, eX6_list_22, eX6_list_23, eX6_list_26, eX6_list_29, eX6_list_30, eX6_list_32, eX6_list_33, eX6_list_36, eX6_list_39, eX6_list_40, eX6_list_41, eX6_list_42, eX6_list_45, eX6_list_48, eX6_list_49, eX6_list_52, eX6_list_53, eX6_list_54, eX6_list_55, eX6_list_58, eX6_list_59, eX6_list_62, eX6_list_65, eX6_list_66, eX6_list_69, eX6_list_72, eX6_list_73, eX6_list_76, eX6_list_79, g1, g2, g5, g7, e1, e2, e3, e4, pl, e5, e6, hh, WpR_some, Option.toList_some, Option.toList_none, List.cons_append, List.nil_append, List.append_nil, clr_n, clr_i, clr_a, ni_add, ni_mul, ni_sub, ni_lt, ni_le, ni_eq, ni_div, nat_mod_eq, ni_rem, iMax_nn, iMin_nn, iMax_sub, Nat.zero_max, bI_0, bI_1, bI_n0, up2_s, up2_n, up2_k, va_up_self, va_up_ne, ni_l, lN_mul, lN_add, ln_mask, lN_i, ↓reduceIte, if_true, if_false, not_true_eq_false, not_false_eq_true, ite_self, Nat.add_zero, Nat.zero_add, ent_def]
end CL4
