section CL2
variable {G : List AT} {m m1 m2 : Nat → Nat → Int32} {ml : Nat → Nat → Int64} {tl n p q c e d f j i lo hi x y k : Nat} {tc τ σ τ' : Nat → Nat} {u v w : Int32} {μ : Mm} {F : Nat → Nat → Nat}
theorem w_hsd {Q : Option Value → Mm → Prop} (hG : GW G) (h1 : 1 ≤ i) (h5 : i ≤ 5) (hC : CP m tl tc f τ) (hd : dgt tl tc f = true) (k : ∀ m', FP m m' → (∃ τ', CP m' tl tc f τ') → Q (some (.int (bI false))) (G, m', ml)) : Wp mX5_readHearers 2 [some (.ref 133), some (.ref 144), some (.int (nI i))] [] (G, m, ml) Q := by
  have t0 := hG.2.2.1.1
  rw [eX5_readHearers_2]
  by_cases h : 5 ≤ i
  · simp (maxSteps := 1000000) (decide := true) (disch := (first | assumption | omega | exact Nat.div_mul_le_self _ _ | exact ni_nz (by omega) (by omega) | exact rfl | exact retOk_bI _ | exact retOk_0 | exact retOk_1)) only [eX5_readHearers_3, eX5_readHearers_4, eX5_readHearers_7, eX5_readHearers_8, eX5_readHearers_11, eX5_readHearers_12, eX5_readHearers_14, eX5_readHearers_17, eX5_readHearers_20, eX5_readHearers_23, eX5_readHearers_24, eX5_readHearers_25, eX5_readHearers_28, eX5_readHearers_31, eX5_readHearers_32, eX5_readHearers_33, eX5_readHearers_36, h, WpR_some, Option.toList_some, Option.toList_none, List.cons_append, List.nil_append, List.append_nil, clr_n, clr_i, clr_a, ni_add, ni_mul, ni_sub, ni_lt, ni_le, ni_eq, ni_div, nat_mod_eq, ni_rem, iMax_nn, iMin_nn, iMax_sub, Nat.zero_max, bI_0, bI_1, bI_n0, up2_s, up2_n, up2_k, va_up_self, va_up_ne, ni_l, lN_mul, lN_add, ln_mask, lN_i, ↓reduceIte, if_true, if_false, not_true_eq_false, not_false_eq_true, ite_self, Nat.add_zero, Nat.zero_add, ent_def]
    exact w_sgf hG hC hd k
  · have e2 := r_pl (ml := ml) (c := 44) hG hC.2.1 hC.1 hC.2.2.2 (by decide)
    have hnl : ¬ nl tl tc f = 44 := by rw [dgt_nl hd]; have := dgt_t hd; omega
    simp only [hnl, decide_false, if_false, dgt_sk hd] at e2
    have h0 : ¬ i ≤ 0 := by omega
    simp (maxSteps := 1000000) (decide := true) (disch := (first | assumption | omega | exact Nat.div_mul_le_self _ _ | exact ni_nz (by omega) (by omega) | exact rfl | exact retOk_bI _ | exact retOk_0 | exact retOk_1)) only [eX5_readHearers_3, eX5_readHearers_4, eX5_readHearers_7, eX5_readHearers_8, eX5_readHearers_11, eX5_readHearers_12, eX5_readHearers_14, eX5_readHearers_17, eX5_readHearers_20, eX5_readHearers_23, eX5_readHearers_24, eX5_readHearers_25, eX5_readHearers_28, eX5_readHearers_31, eX5_readHearers_32, eX5_readHearers_33, eX5_readHearers_36, h, h0, e2, WpR_some, Option.toList_some, Option.toList_none, List.cons_append, List.nil_append, List.append_nil, clr_n, clr_i, clr_a, ni_add, ni_mul, ni_sub, ni_lt, ni_le, ni_eq, ni_div, nat_mod_eq, ni_rem, iMax_nn, iMin_nn, iMax_sub, Nat.zero_max, bI_0, bI_1, bI_n0, up2_s, up2_n, up2_k, va_up_self, va_up_ne, ni_l, lN_mul, lN_add, ln_mask, lN_i, ↓reduceIte, if_true, if_false, not_true_eq_false, not_false_eq_true, ite_self, Nat.add_zero, Nat.zero_add, ent_def]
    exact w_sgf hG (hC.pp hC.2.2.2) hd (fun m' F' c' => k m' (FP.tr FP.rf.pp F') c')
theorem w_hs {Q : Option Value → Mm → Prop} (hG : GW G) (hC : CP m tl tc p τ) (h5 : τ 45 = i) (hj : i + j = 5) (h1 : 1 ≤ i) (k : ∀ m' b, FP m m' → OutC m' tl tc (hsR tl tc j p τ) b → (b = true → ∃ e, hsR tl tc j p τ = .inr e) → Q (some (.int (bI b))) (G, m', ml)) : Wp mX5_readHearers 2 [some (.ref 133), some (.ref 144), some (.int (nI i))] [] (G, m, ml) Q := by
  have t0 := hG.2.2.1.1
  induction j generalizing m p τ i with
  | zero =>
    have h : 5 ≤ i := by omega
    rw [eX5_readHearers_2]
    simp (maxSteps := 1000000) (decide := true) (disch := (first | assumption | omega | exact Nat.div_mul_le_self _ _ | exact ni_nz (by omega) (by omega) | exact rfl | exact retOk_bI _ | exact retOk_0 | exact retOk_1)) only [eX5_readHearers_3, eX5_readHearers_4, eX5_readHearers_7, eX5_readHearers_8, eX5_readHearers_11, eX5_readHearers_12, eX5_readHearers_14, eX5_readHearers_17, eX5_readHearers_20, eX5_readHearers_23, eX5_readHearers_24, eX5_readHearers_25, eX5_readHearers_28, eX5_readHearers_31, eX5_readHearers_32, eX5_readHearers_33, eX5_readHearers_36, h, WpR_some, Option.toList_some, Option.toList_none, List.cons_append, List.nil_append, List.append_nil, clr_n, clr_i, clr_a, ni_add, ni_mul, ni_sub, ni_lt, ni_le, ni_eq, ni_div, nat_mod_eq, ni_rem, iMax_nn, iMin_nn, iMax_sub, Nat.zero_max, bI_0, bI_1, bI_n0, up2_s, up2_n, up2_k, va_up_self, va_up_ne, ni_l, lN_mul, lN_add, ln_mask, lN_i, ↓reduceIte, if_true, if_false, not_true_eq_false, not_false_eq_true, ite_self, Nat.add_zero, Nat.zero_add, ent_def]
    exact w_sg hG hC k
  | succ j ih =>
    have h : ¬ 5 ≤ i := by omega
    have h0 : ¬ i ≤ 0 := by omega
    have e2 := r_pl (ml := ml) (c := 44) hG hC.2.1 hC.1 hC.2.2.2 (by decide)
    rw [eX5_readHearers_2]
    by_cases hnl : nl tl tc p = 44
    · have hlt := nl_lt (tl := tl) (tc := tc) (p := p) (by omega)
      simp only [hnl, decide_true, if_true] at e2
      have C2 := hC.pp (q := sk tl tc p + 1) (by omega)
      obtain ⟨m1, b, e3, F3, O3⟩ := r_rh (ml := ml) hG C2 (by omega)
      cases hn : hrR tl tc (sk tl tc p + 1) τ with
      | inl f =>
        have hR : hsR tl tc (j + 1) p τ = .inl f := by
          show (if nl tl tc p = 44 then _ else _) = _
          rw [if_pos hnl, hn]
        obtain ⟨z1, τ', z2⟩ := O3.1 f hn
        cases b with
        | false =>
          simp (maxSteps := 1000000) (decide := true) (disch := (first | assumption | omega | exact Nat.div_mul_le_self _ _ | exact ni_nz (by omega) (by omega) | exact rfl | exact retOk_bI _ | exact retOk_0 | exact retOk_1)) only [eX5_readHearers_3, eX5_readHearers_4, eX5_readHearers_7, eX5_readHearers_8, eX5_readHearers_11, eX5_readHearers_12, eX5_readHearers_14, eX5_readHearers_17, eX5_readHearers_20, eX5_readHearers_23, eX5_readHearers_24, eX5_readHearers_25, eX5_readHearers_28, eX5_readHearers_31, eX5_readHearers_32, eX5_readHearers_33, eX5_readHearers_36, h, h0, e2, e3, WpR_some, Option.toList_some, Option.toList_none, List.cons_append, List.nil_append, List.append_nil, clr_n, clr_i, clr_a, ni_add, ni_mul, ni_sub, ni_lt, ni_le, ni_eq, ni_div, nat_mod_eq, ni_rem, iMax_nn, iMin_nn, iMax_sub, Nat.zero_max, bI_0, bI_1, bI_n0, up2_s, up2_n, up2_k, va_up_self, va_up_ne, ni_l, lN_mul, lN_add, ln_mask, lN_i, ↓reduceIte, if_true, if_false, not_true_eq_false, not_false_eq_true, ite_self, Nat.add_zero, Nat.zero_add, ent_def]
          exact k m1 false (FP.tr FP.rf.pp F3) ⟨fun f' z => by rw [hR] at z; cases z; exact ⟨fun z => (by cases z), τ', z2⟩, fun e τ' z => by rw [hR] at z; cases z⟩ (fun z => by cases z)
        | true =>
          simp (maxSteps := 1000000) (decide := true) (disch := (first | assumption | omega | exact Nat.div_mul_le_self _ _ | exact ni_nz (by omega) (by omega) | exact rfl | exact retOk_bI _ | exact retOk_0 | exact retOk_1)) only [eX5_readHearers_3, eX5_readHearers_4, eX5_readHearers_7, eX5_readHearers_8, eX5_readHearers_11, eX5_readHearers_12, eX5_readHearers_14, eX5_readHearers_17, eX5_readHearers_20, eX5_readHearers_23, eX5_readHearers_24, eX5_readHearers_25, eX5_readHearers_28, eX5_readHearers_31, eX5_readHearers_32, eX5_readHearers_33, eX5_readHearers_36, h, h0, e2, e3, WpR_some, Option.toList_some, Option.toList_none, List.cons_append, List.nil_append, List.append_nil, clr_n, clr_i, clr_a, ni_add, ni_mul, ni_sub, ni_lt, ni_le, ni_eq, ni_div, nat_mod_eq, ni_rem, iMax_nn, iMin_nn, iMax_sub, Nat.zero_max, bI_0, bI_1, bI_n0, up2_s, up2_n, up2_k, va_up_self, va_up_ne, ni_l, lN_mul, lN_add, ln_mask, lN_i, ↓reduceIte, if_true, if_false, not_true_eq_false, not_false_eq_true, ite_self, Nat.add_zero, Nat.zero_add, ent_def]
          refine w_hsd hG (by omega) (by omega) z2 (z1 rfl) ?_
          intro m' F' c'
          exact k m' false (FP.tr (FP.tr FP.rf.pp F3) F') ⟨fun f' z => by rw [hR] at z; cases z; exact ⟨fun z => (by cases z), c'⟩, fun e τ' z => by rw [hR] at z; cases z⟩ (fun z => by cases z)
      | inr a =>
        obtain ⟨e, τ1⟩ := a
        have hR : hsR tl tc (j + 1) p τ = hsR tl tc j e τ1 := by
          show (if nl tl tc p = 44 then _ else _) = _
          rw [if_pos hnl, hn]
        obtain ⟨z1, z2⟩ := O3.2 e τ1 hn
        subst z1
        rw [hR] at k
        simp (maxSteps := 1000000) (decide := true) (disch := (first | assumption | omega | exact Nat.div_mul_le_self _ _ | exact ni_nz (by omega) (by omega) | exact rfl | exact retOk_bI _ | exact retOk_0 | exact retOk_1)) only [eX5_readHearers_3, eX5_readHearers_4, eX5_readHearers_7, eX5_readHearers_8, eX5_readHearers_11, eX5_readHearers_12, eX5_readHearers_14, eX5_readHearers_17, eX5_readHearers_20, eX5_readHearers_23, eX5_readHearers_24, eX5_readHearers_25, eX5_readHearers_28, eX5_readHearers_31, eX5_readHearers_32, eX5_readHearers_33, eX5_readHearers_36, h, h0, e2, e3, WpR_some, Option.toList_some, Option.toList_none, List.cons_append, List.nil_append, List.append_nil, clr_n, clr_i, clr_a, ni_add, ni_mul, ni_sub, ni_lt, ni_le, ni_eq, ni_div, nat_mod_eq, ni_rem, iMax_nn, iMin_nn, iMax_sub, Nat.zero_max, bI_0, bI_1, bI_n0, up2_s, up2_n, up2_k, va_up_self, va_up_ne, ni_l, lN_mul, lN_add, ln_mask, lN_i, ↓reduceIte, if_true, if_false, not_true_eq_false, not_false_eq_true, ite_self, Nat.add_zero, Nat.zero_add, ent_def]
        obtain ⟨x, y, -, -, -, zz⟩ := hrR_45 (by omega) hn
        exact ih z2 (by rw [zz, adH_45 (by omega), h5]) (by omega) (by omega) (fun m' b F' => k m' b (FP.tr (FP.tr FP.rf.pp F3) F'))
    · have hR : hsR tl tc (j + 1) p τ = sgR tl tc (sk tl tc p) τ := by
        show (if nl tl tc p = 44 then _ else _) = _
        rw [if_neg hnl]
        unfold sgR
        rw [nl_sk, sk_2]
      simp only [hnl, decide_false, if_false] at e2
      rw [hR] at k
      simp (maxSteps := 1000000) (decide := true) (disch := (first | assumption | omega | exact Nat.div_mul_le_self _ _ | exact ni_nz (by omega) (by omega) | exact rfl | exact retOk_bI _ | exact retOk_0 | exact retOk_1)) only [eX5_readHearers_3, eX5_readHearers_4, eX5_readHearers_7, eX5_readHearers_8, eX5_readHearers_11, eX5_readHearers_12, eX5_readHearers_14, eX5_readHearers_17, eX5_readHearers_20, eX5_readHearers_23, eX5_readHearers_24, eX5_readHearers_25, eX5_readHearers_28, eX5_readHearers_31, eX5_readHearers_32, eX5_readHearers_33, eX5_readHearers_36, h, h0, e2, WpR_some, Option.toList_some, Option.toList_none, List.cons_append, List.nil_append, List.append_nil, clr_n, clr_i, clr_a, ni_add, ni_mul, ni_sub, ni_lt, ni_le, ni_eq, ni_div, nat_mod_eq, ni_rem, iMax_nn, iMin_nn, iMax_sub, Nat.zero_max, bI_0, bI_1, bI_n0, up2_s, up2_n, up2_k, va_up_self, va_up_ne, ni_l, lN_mul, lN_add, ln_mask, lN_i, ↓reduceIte, if_true, if_false, not_true_eq_false, not_false_eq_true, ite_self, Nat.add_zero, Nat.zero_add, ent_def]
      exact w_sg hG (hC.pp (sk_le hC.2.2.2)) (fun m' b F' => k m' b (FP.tr FP.rf.pp F'))
theorem r_rhs (hG : GW G) (hC : CP m tl tc p τ) (h5 : τ 45 = 0) : ∃ m' b, res mX5_readHearers [.ref 133, .ref 144] (G, m, ml) = some (some (.int (bI b)), (G, m', ml)) ∧ FP m m' ∧ OutC m' tl tc (haR tl tc p τ) b ∧ (b = true → ∃ e, haR tl tc p τ = .inr e) := by
  have key : Wp mX5_readHearers 0 (ent [.ref 133, .ref 144] 3) [] (G, m, ml) (fun r μ' => ∃ m' b, r = some (.int (bI b)) ∧ μ' = (G, m', ml) ∧ FP m m' ∧ OutC m' tl tc (haR tl tc p τ) b ∧ (b = true → ∃ e, haR tl tc p τ = .inr e)) := by
    show Wp mX5_readHearers 0 [some (.ref 133), some (.ref 144), none] [] (G, m, ml) _
    generalize hQ : (fun (r : Option Value) (μ' : Mm) => ∃ m' b, r = some (.int (bI b)) ∧ μ' = (G, m', ml) ∧ FP m m' ∧ OutC m' tl tc (haR tl tc p τ) b ∧ (b = true → ∃ e, haR tl tc p τ = .inr e)) = Q
    have t0 := hG.2.2.1.1
    obtain ⟨m1, b, e3, F3, O3⟩ := r_rh (ml := ml) hG hC (by omega)
    simp (maxSteps := 1000000) (decide := true) (disch := (first | assumption | omega | exact Nat.div_mul_le_self _ _ | exact ni_nz (by omega) (by omega) | exact rfl | exact retOk_bI _ | exact retOk_0 | exact retOk_1)) only [eX5_readHearers_0, eX5_readHearers_1, WpR_some, Option.toList_some, Option.toList_none, List.cons_append, List.nil_append, List.append_nil, clr_n, clr_i, clr_a, ni_add, ni_mul, ni_sub, ni_lt, ni_le, ni_eq, ni_div, nat_mod_eq, ni_rem, iMax_nn, iMin_nn, iMax_sub, Nat.zero_max, bI_0, bI_1, bI_n0, up2_s, up2_n, up2_k, va_up_self, va_up_ne, ni_l, lN_mul, lN_add, ln_mask, lN_i, ↓reduceIte, if_true, if_false, not_true_eq_false, not_false_eq_true, ite_self, Nat.add_zero, Nat.zero_add, ent_def]
    rw [eX5_readHearers_2]
    cases hn : hrR tl tc p τ with
    | inl f =>
      have hR : haR tl tc p τ = .inl f := by unfold haR; rw [hn]
      obtain ⟨z1, τ', z2⟩ := O3.1 f hn
      cases b with
      | false =>
        simp (maxSteps := 1000000) (decide := true) (disch := (first | assumption | omega | exact Nat.div_mul_le_self _ _ | exact ni_nz (by omega) (by omega) | exact rfl | exact retOk_bI _ | exact retOk_0 | exact retOk_1)) only [eX5_readHearers_3, eX5_readHearers_4, eX5_readHearers_7, eX5_readHearers_8, eX5_readHearers_11, eX5_readHearers_12, eX5_readHearers_14, eX5_readHearers_17, eX5_readHearers_20, eX5_readHearers_23, eX5_readHearers_24, eX5_readHearers_25, eX5_readHearers_28, eX5_readHearers_31, eX5_readHearers_32, eX5_readHearers_33, eX5_readHearers_36, Nat.le_refl, e3, WpR_some, Option.toList_some, Option.toList_none, List.cons_append, List.nil_append, List.append_nil, clr_n, clr_i, clr_a, ni_add, ni_mul, ni_sub, ni_lt, ni_le, ni_eq, ni_div, nat_mod_eq, ni_rem, iMax_nn, iMin_nn, iMax_sub, Nat.zero_max, bI_0, bI_1, bI_n0, up2_s, up2_n, up2_k, va_up_self, va_up_ne, ni_l, lN_mul, lN_add, ln_mask, lN_i, ↓reduceIte, if_true, if_false, not_true_eq_false, not_false_eq_true, ite_self, Nat.add_zero, Nat.zero_add, ent_def]
        rw [← hQ]
        exact ⟨m1, false, rfl, rfl, F3, ⟨fun f' z => by rw [hR] at z; cases z; exact ⟨fun z => (by cases z), τ', z2⟩, fun e τ' z => by rw [hR] at z; cases z⟩, fun z => by cases z⟩
      | true =>
        simp (maxSteps := 1000000) (decide := true) (disch := (first | assumption | omega | exact Nat.div_mul_le_self _ _ | exact ni_nz (by omega) (by omega) | exact rfl | exact retOk_bI _ | exact retOk_0 | exact retOk_1)) only [eX5_readHearers_3, eX5_readHearers_4, eX5_readHearers_7, eX5_readHearers_8, eX5_readHearers_11, eX5_readHearers_12, eX5_readHearers_14, eX5_readHearers_17, eX5_readHearers_20, eX5_readHearers_23, eX5_readHearers_24, eX5_readHearers_25, eX5_readHearers_28, eX5_readHearers_31, eX5_readHearers_32, eX5_readHearers_33, eX5_readHearers_36, Nat.le_refl, e3, WpR_some, Option.toList_some, Option.toList_none, List.cons_append, List.nil_append, List.append_nil, clr_n, clr_i, clr_a, ni_add, ni_mul, ni_sub, ni_lt, ni_le, ni_eq, ni_div, nat_mod_eq, ni_rem, iMax_nn, iMin_nn, iMax_sub, Nat.zero_max, bI_0, bI_1, bI_n0, up2_s, up2_n, up2_k, va_up_self, va_up_ne, ni_l, lN_mul, lN_add, ln_mask, lN_i, ↓reduceIte, if_true, if_false, not_true_eq_false, not_false_eq_true, ite_self, Nat.add_zero, Nat.zero_add, ent_def]
        refine w_hsd hG (by omega) (by omega) z2 (z1 rfl) ?_
        intro m' F' c'
        rw [← hQ]
        exact ⟨m', false, rfl, rfl, FP.tr F3 F', ⟨fun f' z => by rw [hR] at z; cases z; exact ⟨fun z => (by cases z), c'⟩, fun e τ' z => by rw [hR] at z; cases z⟩, fun z => by cases z⟩
    | inr a =>
      obtain ⟨e, τ1⟩ := a
      have hR : haR tl tc p τ = hsR tl tc 4 e τ1 := by unfold haR; rw [hn]
      obtain ⟨z1, z2⟩ := O3.2 e τ1 hn
      subst z1
      simp (maxSteps := 1000000) (decide := true) (disch := (first | assumption | omega | exact Nat.div_mul_le_self _ _ | exact ni_nz (by omega) (by omega) | exact rfl | exact retOk_bI _ | exact retOk_0 | exact retOk_1)) only [eX5_readHearers_3, eX5_readHearers_4, eX5_readHearers_7, eX5_readHearers_8, eX5_readHearers_11, eX5_readHearers_12, eX5_readHearers_14, eX5_readHearers_17, eX5_readHearers_20, eX5_readHearers_23, eX5_readHearers_24, eX5_readHearers_25, eX5_readHearers_28, eX5_readHearers_31, eX5_readHearers_32, eX5_readHearers_33, eX5_readHearers_36, Nat.le_refl, e3, WpR_some, Option.toList_some, Option.toList_none, List.cons_append, List.nil_append, List.append_nil, clr_n, clr_i, clr_a, ni_add, ni_mul, ni_sub, ni_lt, ni_le, ni_eq, ni_div, nat_mod_eq, ni_rem, iMax_nn, iMin_nn, iMax_sub, Nat.zero_max, bI_0, bI_1, bI_n0, up2_s, up2_n, up2_k, va_up_self, va_up_ne, ni_l, lN_mul, lN_add, ln_mask, lN_i, ↓reduceIte, if_true, if_false, not_true_eq_false, not_false_eq_true, ite_self, Nat.add_zero, Nat.zero_add, ent_def]
      obtain ⟨x, y, -, -, -, zz⟩ := hrR_45 (by omega) hn
      refine w_hs (j := 4) hG z2 (by rw [zz, adH_45 (by omega), h5]) (by omega) (by omega) ?_
      intro m' b F' O' hb
      rw [← hQ]
      rw [hR]
      exact ⟨m', b, rfl, rfl, FP.tr F3 F', O', hb⟩
  obtain ⟨r, μ', e1, m', b, rfl, rfl, h2⟩ := res_ex key
  exact ⟨m', b, e1, h2⟩
/-! tellers -/
theorem kIx_n (h : c ≤ 126) : kIx (nI c) = if kdN c = 9 then -1 else nI (kdN c) := by
  have g : ∀ z, z ≤ 126 → (nI c = nI z) = (c = z) := fun z hz => ni_eq (by omega) (by omega)
  have g1 := g 112 (by decide)
  have g2 := g 100 (by decide)
  have g3 := g 116 (by decide)
  have g4 := g 119 (by decide)
  have g5 := g 117 (by decide)
  show (if nI c = nI 112 then nI 0 else if nI c = nI 100 then nI 1 else if nI c = nI 116 then nI 2 else if nI c = nI 119 then nI 3 else if nI c = nI 117 then nI 4 else -1) = _
  simp only [g1, g2, g3, g4, g5]
  unfold kdN
  by_cases h1 : c = 112
  · rw [if_pos h1, if_pos h1]; rfl
  · rw [if_neg h1, if_neg h1]
    by_cases h2 : c = 100
    · rw [if_pos h2, if_pos h2]; rfl
    · rw [if_neg h2, if_neg h2]
      by_cases h3 : c = 116
      · rw [if_pos h3, if_pos h3]; rfl
      · rw [if_neg h3, if_neg h3]
        by_cases h4 : c = 119
        · rw [if_pos h4, if_pos h4]; rfl
        · rw [if_neg h4, if_neg h4]
          by_cases h6 : c = 117
          · rw [if_pos h6, if_pos h6]; rfl
          · rw [if_neg h6, if_neg h6]; rfl
theorem kdN_le : kdN c = 9 ∨ kdN c ≤ 4 ∧ c ≠ 0 := by
  unfold kdN
  by_cases h1 : c = 112
  · rw [if_pos h1]; omega
  · rw [if_neg h1]
    by_cases h2 : c = 100
    · rw [if_pos h2]; omega
    · rw [if_neg h2]
      by_cases h3 : c = 116
      · rw [if_pos h3]; omega
      · rw [if_neg h3]
        by_cases h4 : c = 119
        · rw [if_pos h4]; omega
        · rw [if_neg h4]
          by_cases h6 : c = 117
          · rw [if_pos h6]; omega
          · rw [if_neg h6]; omega
theorem r_rt (hG : GW G) (hC : CP m tl tc p τ) (h5 : τ 44 < 5) : ∃ m' b, res mX5_readTeller [.ref 133, .ref 144] (G, m, ml) = some (some (.int (bI b)), (G, m', ml)) ∧ FP m m' ∧ OutC m' tl tc (tlR tl tc p τ) b := by
  have t0 := hG.2.2.1.1
  have s144 := hG.2.1.2.2.2.2
  have q0 := s144.1
  have e := r_nl (ml := ml) hG hC.2.1 hC.1 hC.2.2.2
  have hk := kIx_n (nl_le hC.2.1 p)
  have hs := sk_le (tc := tc) hC.2.2.2
  by_cases hd : kdN (nl tl tc p) = 9
  · rw [if_pos hd] at hk
    have hR : tlR tl tc p τ = .inl (sk tl tc p) := by unfold tlR; rw [if_pos hd]
    refine ⟨up2 m 133 2 (nI (sk tl tc p)), false, ?_, FP.rf.pp, fun f' z => by rw [hR] at z; cases z; exact ⟨fun z => (by cases z), τ, hC.pp hs⟩, fun e τ' z => by rw [hR] at z; cases z⟩
    apply res_of
    show Wp mX5_readTeller 0 [some (.ref 133), some (.ref 144), none, none] [] (G, m, ml) _
    have hm : ¬ nI 0 ≤ -1 := by decide
    simp (maxSteps := 1000000) (decide := true) (disch := (first | assumption | omega | exact Nat.div_mul_le_self _ _ | exact ni_nz (by omega) (by omega) | exact rfl | exact retOk_bI _ | exact retOk_0 | exact retOk_1)) only [eX5_readTeller_0, eX5_readTeller_2, eX5_readTeller_3, eX5_readTeller_6, eX5_readTeller_9, eX5_readTeller_10, eX5_readTeller_11, eX5_readTeller_14, eX5_readTeller_15, eX5_readTeller_16, eX5_readTeller_17, eX5_readTeller_18, eX5_readTeller_21, eX5_readTeller_22, eX5_readTeller_23, eX5_readTeller_26, eX5_readTeller_27, eX5_readTeller_28, eX5_readTeller_30, eX5_readTeller_33, eX5_readTeller_34, eX5_readTeller_35, eX5_readTeller_37, eX5_readTeller_40, eX5_readTeller_41, eX5_readTeller_42, eX5_readTeller_43, eX5_readTeller_46, eX5_readTeller_48, eX5_readTeller_51, eX5_readTeller_52, eX5_readTeller_55, eX5_readTeller_56, e, hk, hm, WpR_some, Option.toList_some, Option.toList_none, List.cons_append, List.nil_append, List.append_nil, clr_n, clr_i, clr_a, ni_add, ni_mul, ni_sub, ni_lt, ni_le, ni_eq, ni_div, nat_mod_eq, ni_rem, iMax_nn, iMin_nn, iMax_sub, Nat.zero_max, bI_0, bI_1, bI_n0, up2_s, up2_n, up2_k, va_up_self, va_up_ne, ni_l, lN_mul, lN_add, ln_mask, lN_i, ↓reduceIte, if_true, if_false, not_true_eq_false, not_false_eq_true, ite_self, Nat.add_zero, Nat.zero_add, ent_def]
    rfl
  · rw [if_neg hd] at hk
    obtain hq | ⟨k4, k0⟩ := kdN_le (c := nl tl tc p)
    · exact absurd hq hd
    have hlt := nl_lt (tl := tl) (tc := tc) (p := p) k0
    have h70 := hC.2.1.2.1
    have C2 := hC.pp (q := sk tl tc p + 1) (by omega)
    generalize hkd : kdN (nl tl tc p) = kd at *
    have z0 : (nI 0 ≤ nI kd) = (0 ≤ kd) := ni_le (by omega) (by omega)
    have z00 : 0 ≤ kd := Nat.zero_le _
    have tail : ∀ x g, res mX5_readNumber [.ref 133, .int (nI 1), .int (nI 20)] (G, up2 m 133 2 (nI (sk tl tc p + 1)), ml) = some (some (.int (nI x)), (G, up2 m 133 2 (nI g), ml)) → x ≤ 99 → g ≤ tl → ∃ m', res mX5_readTeller [.ref 133, .ref 144] (G, m, ml) = some (some (.int (bI true)), (G, m', ml)) ∧ FP m m' ∧ CP m' tl tc g (addT τ kd x) := by
      intro x g e2 hx hg
      have C3 := hC.pp hg
      obtain ⟨m', e3, V3, F3⟩ := r_X3_addTeller (ml := ml) s144 C3.2.2.1 h5 (c := kd) (l := x) (by omega) (by omega)
      refine ⟨m', ?_, fun b z1 z2 => by rw [F3 b (by omega), up2_n z1], by rw [F3 133 (by omega)]; exact C3.1, ⟨by rw [F3 133 (by omega)]; exact C3.2.1.1, C3.2.1.2.1, fun j hj => by rw [F3 134 (by omega)]; exact C3.2.1.2.2 j hj⟩, V3, hg⟩
      have h4 := n4 hx
      have h3 := n3 (x := τ 44) (by omega)
      apply res_of
      show Wp mX5_readTeller 0 [some (.ref 133), some (.ref 144), none, none] [] (G, m, ml) _
      simp (maxSteps := 1000000) (decide := true) (disch := (first | assumption | omega | exact Nat.div_mul_le_self _ _ | exact ni_nz (by omega) (by omega) | exact rfl | exact retOk_bI _ | exact retOk_0 | exact retOk_1)) only [eX5_readTeller_0, eX5_readTeller_2, eX5_readTeller_3, eX5_readTeller_6, eX5_readTeller_9, eX5_readTeller_10, eX5_readTeller_11, eX5_readTeller_14, eX5_readTeller_15, eX5_readTeller_16, eX5_readTeller_17, eX5_readTeller_18, eX5_readTeller_21, eX5_readTeller_22, eX5_readTeller_23, eX5_readTeller_26, eX5_readTeller_27, eX5_readTeller_28, eX5_readTeller_30, eX5_readTeller_33, eX5_readTeller_34, eX5_readTeller_35, eX5_readTeller_37, eX5_readTeller_40, eX5_readTeller_41, eX5_readTeller_42, eX5_readTeller_43, eX5_readTeller_46, eX5_readTeller_48, eX5_readTeller_51, eX5_readTeller_52, eX5_readTeller_55, eX5_readTeller_56, e, hk, z0, z00, up2_2, e2, h4, e3, h3, WpR_some, Option.toList_some, Option.toList_none, List.cons_append, List.nil_append, List.append_nil, clr_n, clr_i, clr_a, ni_add, ni_mul, ni_sub, ni_lt, ni_le, ni_eq, ni_div, nat_mod_eq, ni_rem, iMax_nn, iMin_nn, iMax_sub, Nat.zero_max, bI_0, bI_1, bI_n0, up2_s, up2_n, up2_k, va_up_self, va_up_ne, ni_l, lN_mul, lN_add, ln_mask, lN_i, ↓reduceIte, if_true, if_false, not_true_eq_false, not_false_eq_true, ite_self, Nat.add_zero, Nat.zero_add, ent_def]
      rfl
    cases hn : numR tl tc 1 20 (sk tl tc p + 1) with
    | inl f =>
      have hR : tlR tl tc p τ = .inl f := by unfold tlR; rw [hkd, if_neg hd, hn]
      obtain ⟨y1, y2 | ⟨y, y2, y3, y4, y5, y6⟩⟩ := rn_fl (ml := ml) hG C2 (by decide) (by decide) hn
      · rw [up2_2] at y2
        refine ⟨up2 m 133 2 (nI f), false, ?_, FP.rf.pp, fun f' z => by rw [hR] at z; cases z; exact ⟨fun z => (by cases z), τ, hC.pp y1⟩, fun e τ' z => by rw [hR] at z; cases z⟩
        apply res_of
        show Wp mX5_readTeller 0 [some (.ref 133), some (.ref 144), none, none] [] (G, m, ml) _
        simp (maxSteps := 1000000) (decide := true) (disch := (first | assumption | omega | exact Nat.div_mul_le_self _ _ | exact ni_nz (by omega) (by omega) | exact rfl | exact retOk_bI _ | exact retOk_0 | exact retOk_1)) only [eX5_readTeller_0, eX5_readTeller_2, eX5_readTeller_3, eX5_readTeller_6, eX5_readTeller_9, eX5_readTeller_10, eX5_readTeller_11, eX5_readTeller_14, eX5_readTeller_15, eX5_readTeller_16, eX5_readTeller_17, eX5_readTeller_18, eX5_readTeller_21, eX5_readTeller_22, eX5_readTeller_23, eX5_readTeller_26, eX5_readTeller_27, eX5_readTeller_28, eX5_readTeller_30, eX5_readTeller_33, eX5_readTeller_34, eX5_readTeller_35, eX5_readTeller_37, eX5_readTeller_40, eX5_readTeller_41, eX5_readTeller_42, eX5_readTeller_43, eX5_readTeller_46, eX5_readTeller_48, eX5_readTeller_51, eX5_readTeller_52, eX5_readTeller_55, eX5_readTeller_56, e, hk, z0, z00, up2_2, y2, WpR_some, Option.toList_some, Option.toList_none, List.cons_append, List.nil_append, List.append_nil, clr_n, clr_i, clr_a, ni_add, ni_mul, ni_sub, ni_lt, ni_le, ni_eq, ni_div, nat_mod_eq, ni_rem, iMax_nn, iMin_nn, iMax_sub, Nat.zero_max, bI_0, bI_1, bI_n0, up2_s, up2_n, up2_k, va_up_self, va_up_ne, ni_l, lN_mul, lN_add, ln_mask, lN_i, ↓reduceIte, if_true, if_false, not_true_eq_false, not_false_eq_true, ite_self, Nat.add_zero, Nat.zero_add, ent_def]
        rfl
      · rw [up2_2] at y2
        obtain ⟨m', r1, r2, r3⟩ := tail y f y2 y5 y1
        exact ⟨m', true, r1, r2, fun f' z => by rw [hR] at z; cases z; exact ⟨fun _ => y6, _, r3⟩, fun e τ' z => by rw [hR] at z; cases z⟩
    | inr a =>
      obtain ⟨x, e1⟩ := a
      have hR : tlR tl tc p τ = .inr (e1, addT τ kd x) := by unfold tlR; rw [hkd, if_neg hd, hn]
      obtain ⟨y2, y3, y4, y5, y1⟩ := rn_ok (ml := ml) hG C2 (by decide) (by decide) hn
      rw [up2_2] at y2
      obtain ⟨m', r1, r2, r3⟩ := tail x e1 y2 y5 y1
      exact ⟨m', true, r1, r2, fun f' z => (by rw [hR] at z; cases z), fun e τ' z => by rw [hR] at z; cases z; exact ⟨rfl, r3⟩⟩
theorem addT_44 : addT τ x y 44 = τ 44 + 1 := by
  unfold addT
  rw [upN_n (by omega), upN_s]
theorem tlR_44 (h : tlR tl tc p τ = .inr (e, τ')) : ∃ x y, x ≤ 4 ∧ 1 ≤ y ∧ y ≤ 20 ∧ τ' = addT τ x y := by
  unfold tlR at h
  obtain hq | ⟨k4, -⟩ := kdN_le (c := nl tl tc p)
  · rw [if_pos hq] at h; cases h
  · rw [if_neg (by omega)] at h
    cases hn : numR tl tc 1 20 (sk tl tc p + 1) with
    | inl f => rw [hn] at h; cases h
    | inr a =>
      obtain ⟨x, e1⟩ := a
      rw [hn] at h
      cases h
      unfold numR at hn
      by_cases z1 : dgt tl tc (sk tl tc (sk tl tc p + 1)) = true
      · rw [if_pos z1] at hn
        by_cases z2 : 1 ≤ nv tl tc (sk tl tc (sk tl tc p + 1)) ∧ nv tl tc (sk tl tc (sk tl tc p + 1)) ≤ 20
        · rw [if_pos z2] at hn
          by_cases z3 : dgt tl tc (ne' tl tc (sk tl tc (sk tl tc p + 1))) = true
          · rw [if_pos z3] at hn; cases hn
          · rw [if_neg z3] at hn; cases hn; exact ⟨_, _, k4, z2.1, z2.2, rfl⟩
        · rw [if_neg z2] at hn; cases hn
      · rw [if_neg z1] at hn; cases hn
theorem w_tsd {Q : Option Value → Mm → Prop} (hG : GW G) (h1 : 1 ≤ i) (h5 : i ≤ 5) (hC : CP m tl tc f τ) (hd : dgt tl tc f = true) (k : ∀ m', FP m m' → CP m' tl tc f τ → Q (some (.int (bI true))) (G, m', ml)) : Wp mX5_readTellers 2 [some (.ref 133), some (.ref 144), some (.int (nI i))] [] (G, m, ml) Q := by
  have t0 := hG.2.2.1.1
  rw [eX5_readTellers_2]
  by_cases h : 5 ≤ i
  · simp (maxSteps := 1000000) (decide := true) (disch := (first | assumption | omega | exact Nat.div_mul_le_self _ _ | exact ni_nz (by omega) (by omega) | exact rfl | exact retOk_bI _ | exact retOk_0 | exact retOk_1)) only [eX5_readTellers_0, eX5_readTellers_1, eX5_readTellers_3, eX5_readTellers_4, eX5_readTellers_7, eX5_readTellers_8, eX5_readTellers_11, eX5_readTellers_12, eX5_readTellers_14, eX5_readTellers_17, eX5_readTellers_20, eX5_readTellers_23, eX5_readTellers_24, eX5_readTellers_25, eX5_readTellers_28, eX5_readTellers_31, eX5_readTellers_32, eX5_readTellers_33, eX5_readTellers_36, eX5_readTellers_39, eX5_readTellers_40, h, WpR_some, Option.toList_some, Option.toList_none, List.cons_append, List.nil_append, List.append_nil, clr_n, clr_i, clr_a, ni_add, ni_mul, ni_sub, ni_lt, ni_le, ni_eq, ni_div, nat_mod_eq, ni_rem, iMax_nn, iMin_nn, iMax_sub, Nat.zero_max, bI_0, bI_1, bI_n0, up2_s, up2_n, up2_k, va_up_self, va_up_ne, ni_l, lN_mul, lN_add, ln_mask, lN_i, ↓reduceIte, if_true, if_false, not_true_eq_false, not_false_eq_true, ite_self, Nat.add_zero, Nat.zero_add, ent_def]
    exact k m FP.rf hC
  · have e2 := r_pl (ml := ml) (c := 44) hG hC.2.1 hC.1 hC.2.2.2 (by decide)
    have hnl : ¬ nl tl tc f = 44 := by rw [dgt_nl hd]; have := dgt_t hd; omega
    simp only [hnl, decide_false, if_false, dgt_sk hd] at e2
    have h0 : ¬ i ≤ 0 := by omega
    simp (maxSteps := 1000000) (decide := true) (disch := (first | assumption | omega | exact Nat.div_mul_le_self _ _ | exact ni_nz (by omega) (by omega) | exact rfl | exact retOk_bI _ | exact retOk_0 | exact retOk_1)) only [eX5_readTellers_0, eX5_readTellers_1, eX5_readTellers_3, eX5_readTellers_4, eX5_readTellers_7, eX5_readTellers_8, eX5_readTellers_11, eX5_readTellers_12, eX5_readTellers_14, eX5_readTellers_17, eX5_readTellers_20, eX5_readTellers_23, eX5_readTellers_24, eX5_readTellers_25, eX5_readTellers_28, eX5_readTellers_31, eX5_readTellers_32, eX5_readTellers_33, eX5_readTellers_36, eX5_readTellers_39, eX5_readTellers_40, h, h0, e2, WpR_some, Option.toList_some, Option.toList_none, List.cons_append, List.nil_append, List.append_nil, clr_n, clr_i, clr_a, ni_add, ni_mul, ni_sub, ni_lt, ni_le, ni_eq, ni_div, nat_mod_eq, ni_rem, iMax_nn, iMin_nn, iMax_sub, Nat.zero_max, bI_0, bI_1, bI_n0, up2_s, up2_n, up2_k, va_up_self, va_up_ne, ni_l, lN_mul, lN_add, ln_mask, lN_i, ↓reduceIte, if_true, if_false, not_true_eq_false, not_false_eq_true, ite_self, Nat.add_zero, Nat.zero_add, ent_def]
    exact k _ FP.rf.pp (hC.pp hC.2.2.2)
theorem w_ts {Q : Option Value → Mm → Prop} (hG : GW G) (hC : CP m tl tc p τ) (h5 : τ 44 = i) (hj : i + j = 5) (h1 : 1 ≤ i) (k : ∀ m' b, FP m m' → OutC m' tl tc (tsR tl tc j p τ) b → Q (some (.int (bI b))) (G, m', ml)) : Wp mX5_readTellers 2 [some (.ref 133), some (.ref 144), some (.int (nI i))] [] (G, m, ml) Q := by
  have t0 := hG.2.2.1.1
  induction j generalizing m p τ i with
  | zero =>
    have h : 5 ≤ i := by omega
    rw [eX5_readTellers_2]
    simp (maxSteps := 1000000) (decide := true) (disch := (first | assumption | omega | exact Nat.div_mul_le_self _ _ | exact ni_nz (by omega) (by omega) | exact rfl | exact retOk_bI _ | exact retOk_0 | exact retOk_1)) only [eX5_readTellers_0, eX5_readTellers_1, eX5_readTellers_3, eX5_readTellers_4, eX5_readTellers_7, eX5_readTellers_8, eX5_readTellers_11, eX5_readTellers_12, eX5_readTellers_14, eX5_readTellers_17, eX5_readTellers_20, eX5_readTellers_23, eX5_readTellers_24, eX5_readTellers_25, eX5_readTellers_28, eX5_readTellers_31, eX5_readTellers_32, eX5_readTellers_33, eX5_readTellers_36, eX5_readTellers_39, eX5_readTellers_40, h, WpR_some, Option.toList_some, Option.toList_none, List.cons_append, List.nil_append, List.append_nil, clr_n, clr_i, clr_a, ni_add, ni_mul, ni_sub, ni_lt, ni_le, ni_eq, ni_div, nat_mod_eq, ni_rem, iMax_nn, iMin_nn, iMax_sub, Nat.zero_max, bI_0, bI_1, bI_n0, up2_s, up2_n, up2_k, va_up_self, va_up_ne, ni_l, lN_mul, lN_add, ln_mask, lN_i, ↓reduceIte, if_true, if_false, not_true_eq_false, not_false_eq_true, ite_self, Nat.add_zero, Nat.zero_add, ent_def]
    exact k m true FP.rf ⟨fun f z => (by cases z), fun e τ' z => by cases z; exact ⟨rfl, hC⟩⟩
  | succ j ih =>
    have h : ¬ 5 ≤ i := by omega
    have h0 : ¬ i ≤ 0 := by omega
    have e2 := r_pl (ml := ml) (c := 44) hG hC.2.1 hC.1 hC.2.2.2 (by decide)
    rw [eX5_readTellers_2]
    by_cases hnl : nl tl tc p = 44
    · have hlt := nl_lt (tl := tl) (tc := tc) (p := p) (by omega)
      simp only [hnl, decide_true, if_true] at e2
      have C2 := hC.pp (q := sk tl tc p + 1) (by omega)
      obtain ⟨m1, b, e3, F3, O3⟩ := r_rt (ml := ml) hG C2 (by omega)
      cases hn : tlR tl tc (sk tl tc p + 1) τ with
      | inl f =>
        have hR : tsR tl tc (j + 1) p τ = .inl f := by
          show (if nl tl tc p = 44 then _ else _) = _
          rw [if_pos hnl, hn]
        obtain ⟨z1, τ', z2⟩ := O3.1 f hn
        cases b with
        | false =>
          simp (maxSteps := 1000000) (decide := true) (disch := (first | assumption | omega | exact Nat.div_mul_le_self _ _ | exact ni_nz (by omega) (by omega) | exact rfl | exact retOk_bI _ | exact retOk_0 | exact retOk_1)) only [eX5_readTellers_0, eX5_readTellers_1, eX5_readTellers_3, eX5_readTellers_4, eX5_readTellers_7, eX5_readTellers_8, eX5_readTellers_11, eX5_readTellers_12, eX5_readTellers_14, eX5_readTellers_17, eX5_readTellers_20, eX5_readTellers_23, eX5_readTellers_24, eX5_readTellers_25, eX5_readTellers_28, eX5_readTellers_31, eX5_readTellers_32, eX5_readTellers_33, eX5_readTellers_36, eX5_readTellers_39, eX5_readTellers_40, h, h0, e2, e3, WpR_some, Option.toList_some, Option.toList_none, List.cons_append, List.nil_append, List.append_nil, clr_n, clr_i, clr_a, ni_add, ni_mul, ni_sub, ni_lt, ni_le, ni_eq, ni_div, nat_mod_eq, ni_rem, iMax_nn, iMin_nn, iMax_sub, Nat.zero_max, bI_0, bI_1, bI_n0, up2_s, up2_n, up2_k, va_up_self, va_up_ne, ni_l, lN_mul, lN_add, ln_mask, lN_i, ↓reduceIte, if_true, if_false, not_true_eq_false, not_false_eq_true, ite_self, Nat.add_zero, Nat.zero_add, ent_def]
          exact k m1 false (FP.tr FP.rf.pp F3) ⟨fun f' z => by rw [hR] at z; cases z; exact ⟨fun z => (by cases z), τ', z2⟩, fun e τ' z => by rw [hR] at z; cases z⟩
        | true =>
          simp (maxSteps := 1000000) (decide := true) (disch := (first | assumption | omega | exact Nat.div_mul_le_self _ _ | exact ni_nz (by omega) (by omega) | exact rfl | exact retOk_bI _ | exact retOk_0 | exact retOk_1)) only [eX5_readTellers_0, eX5_readTellers_1, eX5_readTellers_3, eX5_readTellers_4, eX5_readTellers_7, eX5_readTellers_8, eX5_readTellers_11, eX5_readTellers_12, eX5_readTellers_14, eX5_readTellers_17, eX5_readTellers_20, eX5_readTellers_23, eX5_readTellers_24, eX5_readTellers_25, eX5_readTellers_28, eX5_readTellers_31, eX5_readTellers_32, eX5_readTellers_33, eX5_readTellers_36, eX5_readTellers_39, eX5_readTellers_40, h, h0, e2, e3, WpR_some, Option.toList_some, Option.toList_none, List.cons_append, List.nil_append, List.append_nil, clr_n, clr_i, clr_a, ni_add, ni_mul, ni_sub, ni_lt, ni_le, ni_eq, ni_div, nat_mod_eq, ni_rem, iMax_nn, iMin_nn, iMax_sub, Nat.zero_max, bI_0, bI_1, bI_n0, up2_s, up2_n, up2_k, va_up_self, va_up_ne, ni_l, lN_mul, lN_add, ln_mask, lN_i, ↓reduceIte, if_true, if_false, not_true_eq_false, not_false_eq_true, ite_self, Nat.add_zero, Nat.zero_add, ent_def]
          refine w_tsd hG (by omega) (by omega) z2 (z1 rfl) ?_
          intro m' F' c'
          exact k m' true (FP.tr (FP.tr FP.rf.pp F3) F') ⟨fun f' z => by rw [hR] at z; cases z; exact ⟨fun _ => z1 rfl, τ', c'⟩, fun e τ' z => by rw [hR] at z; cases z⟩
      | inr a =>
        obtain ⟨e, τ1⟩ := a
        have hR : tsR tl tc (j + 1) p τ = tsR tl tc j e τ1 := by
          show (if nl tl tc p = 44 then _ else _) = _
          rw [if_pos hnl, hn]
        obtain ⟨z1, z2⟩ := O3.2 e τ1 hn
        subst z1
        rw [hR] at k
        simp (maxSteps := 1000000) (decide := true) (disch := (first | assumption | omega | exact Nat.div_mul_le_self _ _ | exact ni_nz (by omega) (by omega) | exact rfl | exact retOk_bI _ | exact retOk_0 | exact retOk_1)) only [eX5_readTellers_0, eX5_readTellers_1, eX5_readTellers_3, eX5_readTellers_4, eX5_readTellers_7, eX5_readTellers_8, eX5_readTellers_11, eX5_readTellers_12, eX5_readTellers_14, eX5_readTellers_17, eX5_readTellers_20, eX5_readTellers_23, eX5_readTellers_24, eX5_readTellers_25, eX5_readTellers_28, eX5_readTellers_31, eX5_readTellers_32, eX5_readTellers_33, eX5_readTellers_36, eX5_readTellers_39, eX5_readTellers_40, h, h0, e2, e3, WpR_some, Option.toList_some, Option.toList_none, List.cons_append, List.nil_append, List.append_nil, clr_n, clr_i, clr_a, ni_add, ni_mul, ni_sub, ni_lt, ni_le, ni_eq, ni_div, nat_mod_eq, ni_rem, iMax_nn, iMin_nn, iMax_sub, Nat.zero_max, bI_0, bI_1, bI_n0, up2_s, up2_n, up2_k, va_up_self, va_up_ne, ni_l, lN_mul, lN_add, ln_mask, lN_i, ↓reduceIte, if_true, if_false, not_true_eq_false, not_false_eq_true, ite_self, Nat.add_zero, Nat.zero_add, ent_def]
        obtain ⟨x, y, -, -, -, zz⟩ := tlR_44 hn
        exact ih z2 (by rw [zz, addT_44, h5]) (by omega) (by omega) (fun m' b F' => k m' b (FP.tr (FP.tr FP.rf.pp F3) F'))
    · have hR : tsR tl tc (j + 1) p τ = .inr (sk tl tc p, τ) := by
        show (if nl tl tc p = 44 then _ else _) = _
        rw [if_neg hnl]
      simp only [hnl, decide_false, if_false] at e2
      simp (maxSteps := 1000000) (decide := true) (disch := (first | assumption | omega | exact Nat.div_mul_le_self _ _ | exact ni_nz (by omega) (by omega) | exact rfl | exact retOk_bI _ | exact retOk_0 | exact retOk_1)) only [eX5_readTellers_0, eX5_readTellers_1, eX5_readTellers_3, eX5_readTellers_4, eX5_readTellers_7, eX5_readTellers_8, eX5_readTellers_11, eX5_readTellers_12, eX5_readTellers_14, eX5_readTellers_17, eX5_readTellers_20, eX5_readTellers_23, eX5_readTellers_24, eX5_readTellers_25, eX5_readTellers_28, eX5_readTellers_31, eX5_readTellers_32, eX5_readTellers_33, eX5_readTellers_36, eX5_readTellers_39, eX5_readTellers_40, h, h0, e2, WpR_some, Option.toList_some, Option.toList_none, List.cons_append, List.nil_append, List.append_nil, clr_n, clr_i, clr_a, ni_add, ni_mul, ni_sub, ni_lt, ni_le, ni_eq, ni_div, nat_mod_eq, ni_rem, iMax_nn, iMin_nn, iMax_sub, Nat.zero_max, bI_0, bI_1, bI_n0, up2_s, up2_n, up2_k, va_up_self, va_up_ne, ni_l, lN_mul, lN_add, ln_mask, lN_i, ↓reduceIte, if_true, if_false, not_true_eq_false, not_false_eq_true, ite_self, Nat.add_zero, Nat.zero_add, ent_def]
      exact k _ true FP.rf.pp ⟨fun f z => (by rw [hR] at z; cases z), fun e τ' z => by rw [hR] at z; cases z; exact ⟨rfl, hC.pp (sk_le hC.2.2.2)⟩⟩
theorem r_rts (hG : GW G) (hC : CP m tl tc p τ) (h5 : τ 44 = 0) : ∃ m' b, res mX5_readTellers [.ref 133, .ref 144] (G, m, ml) = some (some (.int (bI b)), (G, m', ml)) ∧ FP m m' ∧ OutC m' tl tc (taR tl tc p τ) b := by
  have key : Wp mX5_readTellers 0 (ent [.ref 133, .ref 144] 3) [] (G, m, ml) (fun r μ' => ∃ m' b, r = some (.int (bI b)) ∧ μ' = (G, m', ml) ∧ FP m m' ∧ OutC m' tl tc (taR tl tc p τ) b) := by
    show Wp mX5_readTellers 0 [some (.ref 133), some (.ref 144), none] [] (G, m, ml) _
    generalize hQ : (fun (r : Option Value) (μ' : Mm) => ∃ m' b, r = some (.int (bI b)) ∧ μ' = (G, m', ml) ∧ FP m m' ∧ OutC m' tl tc (taR tl tc p τ) b) = Q
    have t0 := hG.2.2.1.1
    obtain ⟨m1, b, e3, F3, O3⟩ := r_rt (ml := ml) hG hC (by omega)
    simp (maxSteps := 1000000) (decide := true) (disch := (first | assumption | omega | exact Nat.div_mul_le_self _ _ | exact ni_nz (by omega) (by omega) | exact rfl | exact retOk_bI _ | exact retOk_0 | exact retOk_1)) only [eX5_readTellers_0, eX5_readTellers_1, WpR_some, Option.toList_some, Option.toList_none, List.cons_append, List.nil_append, List.append_nil, clr_n, clr_i, clr_a, ni_add, ni_mul, ni_sub, ni_lt, ni_le, ni_eq, ni_div, nat_mod_eq, ni_rem, iMax_nn, iMin_nn, iMax_sub, Nat.zero_max, bI_0, bI_1, bI_n0, up2_s, up2_n, up2_k, va_up_self, va_up_ne, ni_l, lN_mul, lN_add, ln_mask, lN_i, ↓reduceIte, if_true, if_false, not_true_eq_false, not_false_eq_true, ite_self, Nat.add_zero, Nat.zero_add, ent_def]
    rw [eX5_readTellers_2]
    cases hn : tlR tl tc p τ with
    | inl f =>
      have hR : taR tl tc p τ = .inl f := by unfold taR; rw [hn]
      obtain ⟨z1, τ', z2⟩ := O3.1 f hn
      cases b with
      | false =>
        simp (maxSteps := 1000000) (decide := true) (disch := (first | assumption | omega | exact Nat.div_mul_le_self _ _ | exact ni_nz (by omega) (by omega) | exact rfl | exact retOk_bI _ | exact retOk_0 | exact retOk_1)) only [eX5_readTellers_0, eX5_readTellers_1, eX5_readTellers_3, eX5_readTellers_4, eX5_readTellers_7, eX5_readTellers_8, eX5_readTellers_11, eX5_readTellers_12, eX5_readTellers_14, eX5_readTellers_17, eX5_readTellers_20, eX5_readTellers_23, eX5_readTellers_24, eX5_readTellers_25, eX5_readTellers_28, eX5_readTellers_31, eX5_readTellers_32, eX5_readTellers_33, eX5_readTellers_36, eX5_readTellers_39, eX5_readTellers_40, Nat.le_refl, e3, WpR_some, Option.toList_some, Option.toList_none, List.cons_append, List.nil_append, List.append_nil, clr_n, clr_i, clr_a, ni_add, ni_mul, ni_sub, ni_lt, ni_le, ni_eq, ni_div, nat_mod_eq, ni_rem, iMax_nn, iMin_nn, iMax_sub, Nat.zero_max, bI_0, bI_1, bI_n0, up2_s, up2_n, up2_k, va_up_self, va_up_ne, ni_l, lN_mul, lN_add, ln_mask, lN_i, ↓reduceIte, if_true, if_false, not_true_eq_false, not_false_eq_true, ite_self, Nat.add_zero, Nat.zero_add, ent_def]
        rw [← hQ]
        exact ⟨m1, false, rfl, rfl, F3, fun f' z => by rw [hR] at z; cases z; exact ⟨fun z => (by cases z), τ', z2⟩, fun e τ' z => by rw [hR] at z; cases z⟩
      | true =>
        simp (maxSteps := 1000000) (decide := true) (disch := (first | assumption | omega | exact Nat.div_mul_le_self _ _ | exact ni_nz (by omega) (by omega) | exact rfl | exact retOk_bI _ | exact retOk_0 | exact retOk_1)) only [eX5_readTellers_0, eX5_readTellers_1, eX5_readTellers_3, eX5_readTellers_4, eX5_readTellers_7, eX5_readTellers_8, eX5_readTellers_11, eX5_readTellers_12, eX5_readTellers_14, eX5_readTellers_17, eX5_readTellers_20, eX5_readTellers_23, eX5_readTellers_24, eX5_readTellers_25, eX5_readTellers_28, eX5_readTellers_31, eX5_readTellers_32, eX5_readTellers_33, eX5_readTellers_36, eX5_readTellers_39, eX5_readTellers_40, Nat.le_refl, e3, WpR_some, Option.toList_some, Option.toList_none, List.cons_append, List.nil_append, List.append_nil, clr_n, clr_i, clr_a, ni_add, ni_mul, ni_sub, ni_lt, ni_le, ni_eq, ni_div, nat_mod_eq, ni_rem, iMax_nn, iMin_nn, iMax_sub, Nat.zero_max, bI_0, bI_1, bI_n0, up2_s, up2_n, up2_k, va_up_self, va_up_ne, ni_l, lN_mul, lN_add, ln_mask, lN_i, ↓reduceIte, if_true, if_false, not_true_eq_false, not_false_eq_true, ite_self, Nat.add_zero, Nat.zero_add, ent_def]
        refine w_tsd hG (by omega) (by omega) z2 (z1 rfl) ?_
        intro m' F' c'
        rw [← hQ]
        exact ⟨m', true, rfl, rfl, FP.tr F3 F', fun f' z => by rw [hR] at z; cases z; exact ⟨fun _ => z1 rfl, _, c'⟩, fun e τ' z => by rw [hR] at z; cases z⟩
    | inr a =>
      obtain ⟨e, τ1⟩ := a
      have hR : taR tl tc p τ = tsR tl tc 4 e τ1 := by unfold taR; rw [hn]
      obtain ⟨z1, z2⟩ := O3.2 e τ1 hn
      subst z1
      simp (maxSteps := 1000000) (decide := true) (disch := (first | assumption | omega | exact Nat.div_mul_le_self _ _ | exact ni_nz (by omega) (by omega) | exact rfl | exact retOk_bI _ | exact retOk_0 | exact retOk_1)) only [eX5_readTellers_0, eX5_readTellers_1, eX5_readTellers_3, eX5_readTellers_4, eX5_readTellers_7, eX5_readTellers_8, eX5_readTellers_11, eX5_readTellers_12, eX5_readTellers_14, eX5_readTellers_17, eX5_readTellers_20, eX5_readTellers_23, eX5_readTellers_24, eX5_readTellers_25, eX5_readTellers_28, eX5_readTellers_31, eX5_readTellers_32, eX5_readTellers_33, eX5_readTellers_36, eX5_readTellers_39, eX5_readTellers_40, Nat.le_refl, e3, WpR_some, Option.toList_some, Option.toList_none, List.cons_append, List.nil_append, List.append_nil, clr_n, clr_i, clr_a, ni_add, ni_mul, ni_sub, ni_lt, ni_le, ni_eq, ni_div, nat_mod_eq, ni_rem, iMax_nn, iMin_nn, iMax_sub, Nat.zero_max, bI_0, bI_1, bI_n0, up2_s, up2_n, up2_k, va_up_self, va_up_ne, ni_l, lN_mul, lN_add, ln_mask, lN_i, ↓reduceIte, if_true, if_false, not_true_eq_false, not_false_eq_true, ite_self, Nat.add_zero, Nat.zero_add, ent_def]
      obtain ⟨x, y, -, -, -, zz⟩ := tlR_44 hn
      refine w_ts (j := 4) hG z2 (by rw [zz, addT_44, h5]) (by omega) (by omega) ?_
      intro m' b F' O'
      rw [← hQ]
      rw [hR]
      exact ⟨m', b, rfl, rfl, FP.tr F3 F', O'⟩
  obtain ⟨r, μ', e1, m', b, rfl, rfl, h2⟩ := res_ex key
  exact ⟨m', b, e1, h2⟩
theorem r_rs (hG : GW G) (hC : CP m tl tc p τ) : ∃ m' b, res mX5_readStep [.ref 133, .ref 144] (G, m, ml) = some (some (.int (bI b)), (G, m', ml)) ∧ FP m m' ∧ OutC m' tl tc (stR tl tc p τ) b ∧ (b = true → ∃ e, stR tl tc p τ = .inr e) := by
  have t0 := hG.2.2.1.1
  have s144 := hG.2.1.2.2.2.2
  have q0 := s144.1
  have e2 := r_pl (ml := ml) (c := 33) hG hC.2.1 hC.1 hC.2.2.2 (by decide)
  have h70 := hC.2.1.2.1
  by_cases h : nl tl tc p = 33
  · have hlt := nl_lt (tl := tl) (tc := tc) (p := p) (by omega)
    simp only [h, decide_true, if_true] at e2
    have C2 := hC.pp (q := sk tl tc p + 1) (by omega)
    have e3 := r_nl (ml := ml) hG C2.2.1 C2.1 C2.2.2.2
    rw [up2_2] at e3
    have hnl := nl_le hC.2.1 (sk tl tc p + 1)
    have hs := sk_le (tc := tc) C2.2.2.2
    by_cases hr : 48 ≤ nl tl tc (sk tl tc p + 1) ∧ nl tl tc (sk tl tc p + 1) ≤ 52
    · have hlt2 := nl_lt (tl := tl) (tc := tc) (p := sk tl tc p + 1) (by omega)
      have hR : stR tl tc p τ = .inr (sk tl tc (sk tl tc p + 1) + 1, upN τ 41 (nl tl tc (sk tl tc p + 1) - 48)) := by unfold stR; rw [if_pos h, if_pos hr]
      refine ⟨up2 (up2 (up2 m 133 2 (nI (sk tl tc (sk tl tc p + 1)))) 144 4 (nI (nl tl tc (sk tl tc p + 1) - 48))) 133 2 (nI (sk tl tc (sk tl tc p + 1) + 1)), true, ?_, fun b z1 z2 => by rw [up2_n z1, up2_n (by omega), up2_n z1], ⟨fun f z => (by rw [hR] at z; cases z), fun e τ' z => ?_⟩, fun _ => ⟨_, hR⟩⟩
      · have h1 : ¬ nl tl tc (sk tl tc p + 1) < 48 := by omega
        have h2 : nl tl tc (sk tl tc p + 1) ≤ 52 := by omega
        have h3 : 48 ≤ nl tl tc (sk tl tc p + 1) := by omega
        apply res_of
        show Wp mX5_readStep 0 [some (.ref 133), some (.ref 144), none] [] (G, m, ml) _
        simp (maxSteps := 1000000) (decide := true) (disch := (first | assumption | omega | exact Nat.div_mul_le_self _ _ | exact ni_nz (by omega) (by omega) | exact rfl | exact retOk_bI _ | exact retOk_0 | exact retOk_1)) only [eX5_readStep_0, eX5_readStep_1, eX5_readStep_3, eX5_readStep_6, eX5_readStep_9, eX5_readStep_10, eX5_readStep_11, eX5_readStep_12, eX5_readStep_15, eX5_readStep_16, eX5_readStep_17, eX5_readStep_19, eX5_readStep_22, eX5_readStep_23, eX5_readStep_25, eX5_readStep_28, eX5_readStep_29, eX5_readStep_30, eX5_readStep_31, eX5_readStep_32, eX5_readStep_34, eX5_readStep_35, eX5_readStep_38, eX5_readStep_39, eX5_readStep_40, eX5_readStep_43, eX5_readStep_44, eX5_readStep_45, eX5_readStep_48, eX5_readStep_49, e2, e3, h1, h2, WpR_some, Option.toList_some, Option.toList_none, List.cons_append, List.nil_append, List.append_nil, clr_n, clr_i, clr_a, ni_add, ni_mul, ni_sub, ni_lt, ni_le, ni_eq, ni_div, nat_mod_eq, ni_rem, iMax_nn, iMin_nn, iMax_sub, Nat.zero_max, bI_0, bI_1, bI_n0, up2_s, up2_n, up2_k, va_up_self, va_up_ne, ni_l, lN_mul, lN_add, ln_mask, lN_i, ↓reduceIte, if_true, if_false, not_true_eq_false, not_false_eq_true, ite_self, Nat.add_zero, Nat.zero_add, ent_def]
        rfl
      · rw [hR] at z; cases z
        refine ⟨rfl, by rw [up2_s], CT_p ?_, ?_, by omega⟩
        · have := CT_p (v := nI (sk tl tc (sk tl tc p + 1))) hC.2.1
          exact ⟨by rw [up2_n (by decide)]; exact this.1, this.2.1, fun j hj => by rw [up2_n (by decide)]; exact this.2.2 j hj⟩
        · refine ShV_fr (m := up2 (up2 m 133 2 (nI (sk tl tc (sk tl tc p + 1)))) 144 4 (nI (nl tl tc (sk tl tc p + 1) - 48))) (ShV_up (hC.pp (q := sk tl tc (sk tl tc p + 1)) hs).2.2.1 (by decide) (by decide) (by decide) rfl rfl) (fun b z1 z2 => up2_n (by omega))
    · have hR : stR tl tc p τ = .inl (sk tl tc (sk tl tc p + 1)) := by unfold stR; rw [if_pos h, if_neg hr]
      refine ⟨up2 m 133 2 (nI (sk tl tc (sk tl tc p + 1))), false, ?_, FP.rf.pp, ⟨fun f z => by rw [hR] at z; cases z; exact ⟨fun z => (by cases z), τ, hC.pp hs⟩, fun e τ' z => by rw [hR] at z; cases z⟩, fun z => by cases z⟩
      apply res_of
      show Wp mX5_readStep 0 [some (.ref 133), some (.ref 144), none] [] (G, m, ml) _
      by_cases h1 : nl tl tc (sk tl tc p + 1) < 48
      · simp (maxSteps := 1000000) (decide := true) (disch := (first | assumption | omega | exact Nat.div_mul_le_self _ _ | exact ni_nz (by omega) (by omega) | exact rfl | exact retOk_bI _ | exact retOk_0 | exact retOk_1)) only [eX5_readStep_0, eX5_readStep_1, eX5_readStep_3, eX5_readStep_6, eX5_readStep_9, eX5_readStep_10, eX5_readStep_11, eX5_readStep_12, eX5_readStep_15, eX5_readStep_16, eX5_readStep_17, eX5_readStep_19, eX5_readStep_22, eX5_readStep_23, eX5_readStep_25, eX5_readStep_28, eX5_readStep_29, eX5_readStep_30, eX5_readStep_31, eX5_readStep_32, eX5_readStep_34, eX5_readStep_35, eX5_readStep_38, eX5_readStep_39, eX5_readStep_40, eX5_readStep_43, eX5_readStep_44, eX5_readStep_45, eX5_readStep_48, eX5_readStep_49, e2, e3, h1, WpR_some, Option.toList_some, Option.toList_none, List.cons_append, List.nil_append, List.append_nil, clr_n, clr_i, clr_a, ni_add, ni_mul, ni_sub, ni_lt, ni_le, ni_eq, ni_div, nat_mod_eq, ni_rem, iMax_nn, iMin_nn, iMax_sub, Nat.zero_max, bI_0, bI_1, bI_n0, up2_s, up2_n, up2_k, va_up_self, va_up_ne, ni_l, lN_mul, lN_add, ln_mask, lN_i, ↓reduceIte, if_true, if_false, not_true_eq_false, not_false_eq_true, ite_self, Nat.add_zero, Nat.zero_add, ent_def]
        rfl
      · have h2 : ¬ nl tl tc (sk tl tc p + 1) ≤ 52 := by omega
        simp (maxSteps := 1000000) (decide := true) (disch := (first | assumption | omega | exact Nat.div_mul_le_self _ _ | exact ni_nz (by omega) (by omega) | exact rfl | exact retOk_bI _ | exact retOk_0 | exact retOk_1)) only [eX5_readStep_0, eX5_readStep_1, eX5_readStep_3, eX5_readStep_6, eX5_readStep_9, eX5_readStep_10, eX5_readStep_11, eX5_readStep_12, eX5_readStep_15, eX5_readStep_16, eX5_readStep_17, eX5_readStep_19, eX5_readStep_22, eX5_readStep_23, eX5_readStep_25, eX5_readStep_28, eX5_readStep_29, eX5_readStep_30, eX5_readStep_31, eX5_readStep_32, eX5_readStep_34, eX5_readStep_35, eX5_readStep_38, eX5_readStep_39, eX5_readStep_40, eX5_readStep_43, eX5_readStep_44, eX5_readStep_45, eX5_readStep_48, eX5_readStep_49, e2, e3, h1, h2, WpR_some, Option.toList_some, Option.toList_none, List.cons_append, List.nil_append, List.append_nil, clr_n, clr_i, clr_a, ni_add, ni_mul, ni_sub, ni_lt, ni_le, ni_eq, ni_div, nat_mod_eq, ni_rem, iMax_nn, iMin_nn, iMax_sub, Nat.zero_max, bI_0, bI_1, bI_n0, up2_s, up2_n, up2_k, va_up_self, va_up_ne, ni_l, lN_mul, lN_add, ln_mask, lN_i, ↓reduceIte, if_true, if_false, not_true_eq_false, not_false_eq_true, ite_self, Nat.add_zero, Nat.zero_add, ent_def]
        rfl
  · simp only [h, decide_false, if_false] at e2
    have hR : stR tl tc p τ = .inr (sk tl tc p, τ) := by unfold stR; rw [if_neg h]
    refine ⟨up2 m 133 2 (nI (sk tl tc p)), true, ?_, FP.rf.pp, ⟨fun f z => (by rw [hR] at z; cases z), fun e τ' z => by rw [hR] at z; cases z; exact ⟨rfl, hC.pp (sk_le hC.2.2.2)⟩⟩, fun _ => ⟨_, hR⟩⟩
    apply res_of
    show Wp mX5_readStep 0 [some (.ref 133), some (.ref 144), none] [] (G, m, ml) _
    simp (maxSteps := 1000000) (decide := true) (disch := (first | assumption | omega | exact Nat.div_mul_le_self _ _ | exact ni_nz (by omega) (by omega) | exact rfl | exact retOk_bI _ | exact retOk_0 | exact retOk_1)) only [eX5_readStep_0, eX5_readStep_1, eX5_readStep_3, eX5_readStep_6, eX5_readStep_9, eX5_readStep_10, eX5_readStep_11, eX5_readStep_12, eX5_readStep_15, eX5_readStep_16, eX5_readStep_17, eX5_readStep_19, eX5_readStep_22, eX5_readStep_23, eX5_readStep_25, eX5_readStep_28, eX5_readStep_29, eX5_readStep_30, eX5_readStep_31, eX5_readStep_32, eX5_readStep_34, eX5_readStep_35, eX5_readStep_38, eX5_readStep_39, eX5_readStep_40, eX5_readStep_43, eX5_readStep_44, eX5_readStep_45, eX5_readStep_48, eX5_readStep_49, e2, WpR_some, Option.toList_some, Option.toList_none, List.cons_append, List.nil_append, List.append_nil, clr_n, clr_i, clr_a, ni_add, ni_mul, ni_sub, ni_lt, ni_le, ni_eq, ni_div, nat_mod_eq, ni_rem, iMax_nn, iMin_nn, iMax_sub, Nat.zero_max, bI_0, bI_1, bI_n0, up2_s, up2_n, up2_k, va_up_self, va_up_ne, ni_l, lN_mul, lN_add, ln_mask, lN_i, ↓reduceIte, if_true, if_false, not_true_eq_false, not_false_eq_true, ite_self, Nat.add_zero, Nat.zero_add, ent_def]
    rfl
end CL2
