/-- the reference's state, and what may be undone -/
def RA (m : Nat → Nat → Int32) (q : Nat) (σ : Nat → Nat) (k : Nat) (f : Nat → Nat → Nat) : Prop := RwV m q σ ∧ m 159 (q + 56) = nI k ∧ k ≤ 8 ∧ ∀ i, i < k → ∀ j, j < 44 → m 159 (q + 57 + 44 * (k - 1 - i) + j) = nI (f i j)
section RF4
variable {G : List AT} {m : Nat → Nat → Int32} {ml : Nat → Nat → Int64} {q n s h t ke kl x y o k : Nat} {σ τ : Nat → Nat} {π : Nat → Nat} {v : Int32} {f : Nat → Nat → Nat}
theorem r_X7_keepPast (hG : GM G) (hA : RA m 0 σ k f) : ∃ m', res mX7_keepPast [.ref 158] (G, m, ml) = some (none, (G, m', ml)) ∧ RA m' 0 σ (min 8 (k + 1)) (pushF σ f) ∧ (∀ b, b ≠ 159 → m' b = m b) ∧ (∀ j, j < 56 ∨ 409 ≤ j → m' 159 j = m 159 j) := by
  obtain ⟨hR, hk, hk8, hP⟩ := hA
  simp only [Nat.zero_add] at hk hP
  have hG0 := hG
  obtain ⟨⟨g0, g1, -⟩, ⟨a0, -⟩, ⟨l0, -⟩⟩ := hG
  have hk44 : ∀ m1 : Nat → Nat → Int32, ∀ u, u ≤ 7 → m1 159 56 = nI u → (∀ j, j < 44 → m1 159 j = nI (σ j)) → ∀ Q : Option Value → Mm → Prop, ∀ z : Option Value, (∀ m2 : Nat → Nat → Int32, m2 159 56 = nI (u + 1) → (∀ j, j < 44 → m2 159 (57 + 44 * u + j) = nI (σ j)) → (∀ b, b ≠ 159 → m2 b = m1 b) → (∀ j, j ≠ 56 → (j < 57 + 44 * u ∨ 57 + 44 * u + 44 ≤ j) → m2 159 j = m1 159 j) → Q none (G, m2, ml)) → Wp mX7_keepPast 56 [some (.ref 158), z] [] (G, m1, ml) Q := by
    intro m1 u hu h56 hj Q z hQ
    simp (maxSteps := 1000000) (decide := true) (disch := (first | assumption | omega | exact Nat.div_mul_le_self _ _ | exact ni_nz (by omega) (by omega) | exact rfl | exact retOk_bI _ | exact retOk_0 | exact retOk_1)) only [eX7_keepPast_0, eX7_keepPast_1, eX7_keepPast_4, eX7_keepPast_6, eX7_keepPast_7, eX7_keepPast_9, eX7_keepPast_12, eX7_keepPast_13, eX7_keepPast_15, eX7_keepPast_18, eX7_keepPast_21, eX7_keepPast_22, eX7_keepPast_25, eX7_keepPast_27, eX7_keepPast_28, eX7_keepPast_29, eX7_keepPast_30, eX7_keepPast_33, eX7_keepPast_35, eX7_keepPast_36, eX7_keepPast_37, eX7_keepPast_38, eX7_keepPast_39, eX7_keepPast_42, eX7_keepPast_45, eX7_keepPast_46, eX7_keepPast_49, eX7_keepPast_51, eX7_keepPast_52, eX7_keepPast_53, eX7_keepPast_54, eX7_keepPast_55, eX7_keepPast_56, eX7_keepPast_57, eX7_keepPast_59, eX7_keepPast_61, eX7_keepPast_64, eX7_keepPast_65, eX7_keepPast_68, eX7_keepPast_70, eX7_keepPast_72, eX7_keepPast_73, eX7_keepPast_76, eX7_keepPast_78, eX7_keepPast_79, eX7_keepPast_80, eX7_keepPast_81, eX7_keepPast_82, eX7_keepPast_83, eX7_keepPast_84, eX7_keepPast_87, eX7_keepPast_88, eX7_keepPast_89, eX7_keepPast_90, eX7_keepPast_93, eX7_keepPast_96, eX7_keepPast_97, eX7_keepPast_100, eX7_keepPast_102, eX7_keepPast_103, eX7_keepPast_104, eX7_keepPast_105, eX7_keepPast_106, eX7_keepPast_107, WpR_some, Option.toList_some, Option.toList_none, List.cons_append, List.nil_append, List.append_nil, clr_n, clr_i, clr_a, ni_add, ni_mul, ni_sub, ni_lt, ni_le, ni_eq, ni_div, nat_mod_eq, ni_rem, iMax_nn, iMin_nn, iMax_sub, Nat.zero_max, bI_0, bI_1, bI_n0, up2_s, up2_n, up2_k, va_up_self, va_up_ne, ni_l, lN_mul, lN_add, ln_mask, lN_i, ↓reduceIte, if_true, if_false, not_true_eq_false, not_false_eq_true, ite_self, Nat.add_zero, Nat.zero_add, ent_def]
    refine wp_for (X := Unit) (fun i _ => [some (.ref 158), some (.int (nI i))]) (fun i _ μ => ∃ m2, μ = (G, m2, ml) ∧ m2 159 56 = nI u ∧ (∀ j, j < 44 → m2 159 j = nI (σ j)) ∧ (∀ j, j < i → m2 159 (57 + 44 * u + j) = nI (σ j)) ∧ (∀ b, b ≠ 159 → m2 b = m1 b) ∧ (∀ j, (j < 57 + 44 * u ∨ 57 + 44 * u + 44 ≤ j) → m2 159 j = m1 159 j)) 44 ?_ ?_ 0 () _ (Nat.zero_le _) ⟨m1, rfl, h56, hj, fun j hj => absurd hj (Nat.not_lt_zero _), fun _ _ => rfl, fun _ _ => rfl⟩
    · rintro i - μ hi ⟨m2, rfl, c1, c2, c3, c4, c5⟩ kk
      have hlt : ¬ 44 ≤ i := by omega
      have xi := c2 i hi
      rw [eX7_keepPast_58]
      simp (maxSteps := 1000000) (decide := true) (disch := (first | assumption | omega | exact Nat.div_mul_le_self _ _ | exact ni_nz (by omega) (by omega) | exact rfl | exact retOk_bI _ | exact retOk_0 | exact retOk_1)) only [eX7_keepPast_0, eX7_keepPast_1, eX7_keepPast_4, eX7_keepPast_6, eX7_keepPast_7, eX7_keepPast_9, eX7_keepPast_12, eX7_keepPast_13, eX7_keepPast_15, eX7_keepPast_18, eX7_keepPast_21, eX7_keepPast_22, eX7_keepPast_25, eX7_keepPast_27, eX7_keepPast_28, eX7_keepPast_29, eX7_keepPast_30, eX7_keepPast_33, eX7_keepPast_35, eX7_keepPast_36, eX7_keepPast_37, eX7_keepPast_38, eX7_keepPast_39, eX7_keepPast_42, eX7_keepPast_45, eX7_keepPast_46, eX7_keepPast_49, eX7_keepPast_51, eX7_keepPast_52, eX7_keepPast_53, eX7_keepPast_54, eX7_keepPast_55, eX7_keepPast_56, eX7_keepPast_57, eX7_keepPast_59, eX7_keepPast_61, eX7_keepPast_64, eX7_keepPast_65, eX7_keepPast_68, eX7_keepPast_70, eX7_keepPast_72, eX7_keepPast_73, eX7_keepPast_76, eX7_keepPast_78, eX7_keepPast_79, eX7_keepPast_80, eX7_keepPast_81, eX7_keepPast_82, eX7_keepPast_83, eX7_keepPast_84, eX7_keepPast_87, eX7_keepPast_88, eX7_keepPast_89, eX7_keepPast_90, eX7_keepPast_93, eX7_keepPast_96, eX7_keepPast_97, eX7_keepPast_100, eX7_keepPast_102, eX7_keepPast_103, eX7_keepPast_104, eX7_keepPast_105, eX7_keepPast_106, eX7_keepPast_107, g1, c1, xi, hlt, WpR_some, Option.toList_some, Option.toList_none, List.cons_append, List.nil_append, List.append_nil, clr_n, clr_i, clr_a, ni_add, ni_mul, ni_sub, ni_lt, ni_le, ni_eq, ni_div, nat_mod_eq, ni_rem, iMax_nn, iMin_nn, iMax_sub, Nat.zero_max, bI_0, bI_1, bI_n0, up2_s, up2_n, up2_k, va_up_self, va_up_ne, ni_l, lN_mul, lN_add, ln_mask, lN_i, ↓reduceIte, if_true, if_false, not_true_eq_false, not_false_eq_true, ite_self, Nat.add_zero, Nat.zero_add, ent_def]
      refine kk () _ ⟨_, rfl, ?_, ?_, ?_, ?_, ?_⟩
      · rw [up2_k (by omega)]; exact c1
      · intro j hj; rw [up2_k (by omega)]; exact c2 j hj
      · intro j hj
        by_cases hji : j = i
        · subst hji; rw [up2_s]
        · rw [up2_k (by omega)]; exact c3 j (by omega)
      · intro b hb; rw [up2_n hb]; exact c4 b hb
      · intro j hj; rw [up2_k (by omega)]; exact c5 j hj
    · rintro - μ ⟨m2, rfl, c1, c2, c3, c4, c5⟩
      rw [eX7_keepPast_58]
      simp (maxSteps := 1000000) (decide := true) (disch := (first | assumption | omega | exact Nat.div_mul_le_self _ _ | exact ni_nz (by omega) (by omega) | exact rfl | exact retOk_bI _ | exact retOk_0 | exact retOk_1)) only [eX7_keepPast_0, eX7_keepPast_1, eX7_keepPast_4, eX7_keepPast_6, eX7_keepPast_7, eX7_keepPast_9, eX7_keepPast_12, eX7_keepPast_13, eX7_keepPast_15, eX7_keepPast_18, eX7_keepPast_21, eX7_keepPast_22, eX7_keepPast_25, eX7_keepPast_27, eX7_keepPast_28, eX7_keepPast_29, eX7_keepPast_30, eX7_keepPast_33, eX7_keepPast_35, eX7_keepPast_36, eX7_keepPast_37, eX7_keepPast_38, eX7_keepPast_39, eX7_keepPast_42, eX7_keepPast_45, eX7_keepPast_46, eX7_keepPast_49, eX7_keepPast_51, eX7_keepPast_52, eX7_keepPast_53, eX7_keepPast_54, eX7_keepPast_55, eX7_keepPast_56, eX7_keepPast_57, eX7_keepPast_59, eX7_keepPast_61, eX7_keepPast_64, eX7_keepPast_65, eX7_keepPast_68, eX7_keepPast_70, eX7_keepPast_72, eX7_keepPast_73, eX7_keepPast_76, eX7_keepPast_78, eX7_keepPast_79, eX7_keepPast_80, eX7_keepPast_81, eX7_keepPast_82, eX7_keepPast_83, eX7_keepPast_84, eX7_keepPast_87, eX7_keepPast_88, eX7_keepPast_89, eX7_keepPast_90, eX7_keepPast_93, eX7_keepPast_96, eX7_keepPast_97, eX7_keepPast_100, eX7_keepPast_102, eX7_keepPast_103, eX7_keepPast_104, eX7_keepPast_105, eX7_keepPast_106, eX7_keepPast_107, g1, c1, Nat.le_refl, WpR_some, Option.toList_some, Option.toList_none, List.cons_append, List.nil_append, List.append_nil, clr_n, clr_i, clr_a, ni_add, ni_mul, ni_sub, ni_lt, ni_le, ni_eq, ni_div, nat_mod_eq, ni_rem, iMax_nn, iMin_nn, iMax_sub, Nat.zero_max, bI_0, bI_1, bI_n0, up2_s, up2_n, up2_k, va_up_self, va_up_ne, ni_l, lN_mul, lN_add, ln_mask, lN_i, ↓reduceIte, if_true, if_false, not_true_eq_false, not_false_eq_true, ite_self, Nat.add_zero, Nat.zero_add, ent_def]
      refine hQ _ ?_ ?_ ?_ ?_
      · rw [up2_s]
      · intro j hj; rw [up2_k (by omega)]; exact c3 j hj
      · intro b hb; rw [up2_n hb]; exact c4 b hb
      · intro j h1 h2; rw [up2_k h1]; exact c5 j h2
  have key : Wp mX7_keepPast 0 (ent [.ref 158] 2) [] (G, m, ml) (fun r μ' => ∃ m', r = none ∧ μ' = (G, m', ml) ∧ RA m' 0 σ (min 8 (k + 1)) (pushF σ f) ∧ (∀ b, b ≠ 159 → m' b = m b) ∧ (∀ j, j < 56 ∨ 409 ≤ j → m' 159 j = m 159 j)) := by
    show Wp mX7_keepPast 0 [some (.ref 158), none] [] (G, m, ml) _
    generalize hQ : (fun (r : Option Value) (μ' : Mm) => ∃ m', r = none ∧ μ' = (G, m', ml) ∧ RA m' 0 σ (min 8 (k + 1)) (pushF σ f) ∧ (∀ b, b ≠ 159 → m' b = m b) ∧ (∀ j, j < 56 ∨ 409 ≤ j → m' 159 j = m 159 j)) = Q
    have hR44 : ∀ j, j < 56 → m 159 j = nI (σ j) := fun j hj => by have := hR j hj; rwa [Nat.zero_add] at this
    by_cases h8 : k = 8
    · subst h8
      simp (maxSteps := 1000000) (decide := true) (disch := (first | assumption | omega | exact Nat.div_mul_le_self _ _ | exact ni_nz (by omega) (by omega) | exact rfl | exact retOk_bI _ | exact retOk_0 | exact retOk_1)) only [eX7_keepPast_0, eX7_keepPast_1, eX7_keepPast_4, eX7_keepPast_6, eX7_keepPast_7, eX7_keepPast_9, eX7_keepPast_12, eX7_keepPast_13, eX7_keepPast_15, eX7_keepPast_18, eX7_keepPast_21, eX7_keepPast_22, eX7_keepPast_25, eX7_keepPast_27, eX7_keepPast_28, eX7_keepPast_29, eX7_keepPast_30, eX7_keepPast_33, eX7_keepPast_35, eX7_keepPast_36, eX7_keepPast_37, eX7_keepPast_38, eX7_keepPast_39, eX7_keepPast_42, eX7_keepPast_45, eX7_keepPast_46, eX7_keepPast_49, eX7_keepPast_51, eX7_keepPast_52, eX7_keepPast_53, eX7_keepPast_54, eX7_keepPast_55, g1, hk, WpR_some, Option.toList_some, Option.toList_none, List.cons_append, List.nil_append, List.append_nil, clr_n, clr_i, clr_a, ni_add, ni_mul, ni_sub, ni_lt, ni_le, ni_eq, ni_div, nat_mod_eq, ni_rem, iMax_nn, iMin_nn, iMax_sub, Nat.zero_max, bI_0, bI_1, bI_n0, up2_s, up2_n, up2_k, va_up_self, va_up_ne, ni_l, lN_mul, lN_add, ln_mask, lN_i, ↓reduceIte, if_true, if_false, not_true_eq_false, not_false_eq_true, ite_self, Nat.add_zero, Nat.zero_add, ent_def]
      refine wp_for (X := Unit) (fun i _ => [some (.ref 158), some (.int (nI i))]) (fun i _ μ => ∃ m1, μ = (G, m1, ml) ∧ (∀ j, j < i → m1 159 (57 + j) = m 159 (57 + 44 + j)) ∧ (∀ b, b ≠ 159 → m1 b = m b) ∧ (∀ j, (j < 57 ∨ 57 + i ≤ j) → m1 159 j = m 159 j)) 308 ?_ ?_ 0 () _ (Nat.zero_le _) ⟨m, rfl, fun j hj => absurd hj (Nat.not_lt_zero _), fun _ _ => rfl, fun _ _ => rfl⟩
      · rintro i - μ hi ⟨m1, rfl, c1, c2, c3⟩ kk
        have hlt : ¬ 308 ≤ i := by omega
        rw [eX7_keepPast_14]
        simp (maxSteps := 1000000) (decide := true) (disch := (first | assumption | omega | exact Nat.div_mul_le_self _ _ | exact ni_nz (by omega) (by omega) | exact rfl | exact retOk_bI _ | exact retOk_0 | exact retOk_1)) only [eX7_keepPast_0, eX7_keepPast_1, eX7_keepPast_4, eX7_keepPast_6, eX7_keepPast_7, eX7_keepPast_9, eX7_keepPast_12, eX7_keepPast_13, eX7_keepPast_15, eX7_keepPast_18, eX7_keepPast_21, eX7_keepPast_22, eX7_keepPast_25, eX7_keepPast_27, eX7_keepPast_28, eX7_keepPast_29, eX7_keepPast_30, eX7_keepPast_33, eX7_keepPast_35, eX7_keepPast_36, eX7_keepPast_37, eX7_keepPast_38, eX7_keepPast_39, eX7_keepPast_42, eX7_keepPast_45, eX7_keepPast_46, eX7_keepPast_49, eX7_keepPast_51, eX7_keepPast_52, eX7_keepPast_53, eX7_keepPast_54, eX7_keepPast_55, g1, hlt, WpR_some, Option.toList_some, Option.toList_none, List.cons_append, List.nil_append, List.append_nil, clr_n, clr_i, clr_a, ni_add, ni_mul, ni_sub, ni_lt, ni_le, ni_eq, ni_div, nat_mod_eq, ni_rem, iMax_nn, iMin_nn, iMax_sub, Nat.zero_max, bI_0, bI_1, bI_n0, up2_s, up2_n, up2_k, va_up_self, va_up_ne, ni_l, lN_mul, lN_add, ln_mask, lN_i, ↓reduceIte, if_true, if_false, not_true_eq_false, not_false_eq_true, ite_self, Nat.add_zero, Nat.zero_add, ent_def]
        refine kk () _ ⟨_, rfl, ?_, ?_, ?_⟩
        · intro j hj
          by_cases hji : j = i
          · subst hji; rw [up2_s]; exact c3 _ (by omega)
          · rw [up2_k (by omega)]; exact c1 j (by omega)
        · intro b hb; rw [up2_n hb]; exact c2 b hb
        · intro j hj; rw [up2_k (by omega)]; exact c3 j (by omega)
      · rintro - μ ⟨m1, rfl, c1, c2, c3⟩
        have k56 : m1 159 56 = nI 8 := by rw [c3 56 (by omega)]; exact hk
        rw [eX7_keepPast_14]
        simp (maxSteps := 1000000) (decide := true) (disch := (first | assumption | omega | exact Nat.div_mul_le_self _ _ | exact ni_nz (by omega) (by omega) | exact rfl | exact retOk_bI _ | exact retOk_0 | exact retOk_1)) only [eX7_keepPast_0, eX7_keepPast_1, eX7_keepPast_4, eX7_keepPast_6, eX7_keepPast_7, eX7_keepPast_9, eX7_keepPast_12, eX7_keepPast_13, eX7_keepPast_15, eX7_keepPast_18, eX7_keepPast_21, eX7_keepPast_22, eX7_keepPast_25, eX7_keepPast_27, eX7_keepPast_28, eX7_keepPast_29, eX7_keepPast_30, eX7_keepPast_33, eX7_keepPast_35, eX7_keepPast_36, eX7_keepPast_37, eX7_keepPast_38, eX7_keepPast_39, eX7_keepPast_42, eX7_keepPast_45, eX7_keepPast_46, eX7_keepPast_49, eX7_keepPast_51, eX7_keepPast_52, eX7_keepPast_53, eX7_keepPast_54, eX7_keepPast_55, g1, k56, Nat.le_refl, WpR_some, Option.toList_some, Option.toList_none, List.cons_append, List.nil_append, List.append_nil, clr_n, clr_i, clr_a, ni_add, ni_mul, ni_sub, ni_lt, ni_le, ni_eq, ni_div, nat_mod_eq, ni_rem, iMax_nn, iMin_nn, iMax_sub, Nat.zero_max, bI_0, bI_1, bI_n0, up2_s, up2_n, up2_k, va_up_self, va_up_ne, ni_l, lN_mul, lN_add, ln_mask, lN_i, ↓reduceIte, if_true, if_false, not_true_eq_false, not_false_eq_true, ite_self, Nat.add_zero, Nat.zero_add, ent_def]
        refine hk44 _ 7 (by decide) (by rw [up2_s]) (fun j hj => by rw [up2_k (by omega), c3 j (by omega)]; exact hR44 j (by omega)) Q _ ?_
        intro m2 d1 d2 d3 d4
        rw [← hQ]
        refine ⟨m2, rfl, rfl, ⟨?_, ?_, by omega, ?_⟩, ?_, ?_⟩
        · intro j hj
          rw [Nat.zero_add, d4 j (by omega) (by omega), up2_k (by omega), c3 j (by omega)]
          exact hR44 j hj
        · rw [Nat.zero_add, d1]; rfl
        · intro i hi j hj
          simp only [Nat.zero_add]
          cases i with
          | zero =>
            show m2 159 (57 + 44 * (min 8 (8 + 1) - 1 - 0) + j) = nI (σ j)
            have := d2 j hj
            rw [show 57 + 44 * (min 8 (8 + 1) - 1 - 0) + j = 57 + 44 * 7 + j by omega]
            exact this
          | succ i =>
            show m2 159 (57 + 44 * (min 8 (8 + 1) - 1 - (i + 1)) + j) = nI (f i j)
            have hi7 : i < 7 := by omega
            rw [show 57 + 44 * (min 8 (8 + 1) - 1 - (i + 1)) + j = 57 + (44 * (6 - i) + j) by omega]
            rw [d4 _ (by omega) (by omega), up2_k (by omega), c1 _ (by omega)]
            have := hP i (by omega) j hj
            rw [show 57 + 44 + (44 * (6 - i) + j) = 57 + 44 * (8 - 1 - i) + j by omega]
            exact this
        · intro b hb; rw [d3 b hb, up2_n hb]; exact c2 b hb
        · intro j hj; rw [d4 j (by omega) (by omega), up2_k (by omega)]; exact c3 j (by omega)
    · have hk7 : k ≤ 7 := by omega
      have h8' : ¬ k = 8 := h8
      simp (maxSteps := 1000000) (decide := true) (disch := (first | assumption | omega | exact Nat.div_mul_le_self _ _ | exact ni_nz (by omega) (by omega) | exact rfl | exact retOk_bI _ | exact retOk_0 | exact retOk_1)) only [eX7_keepPast_0, eX7_keepPast_1, eX7_keepPast_4, eX7_keepPast_6, eX7_keepPast_7, eX7_keepPast_9, eX7_keepPast_12, eX7_keepPast_13, eX7_keepPast_15, eX7_keepPast_18, eX7_keepPast_21, eX7_keepPast_22, eX7_keepPast_25, eX7_keepPast_27, eX7_keepPast_28, eX7_keepPast_29, eX7_keepPast_30, eX7_keepPast_33, eX7_keepPast_35, eX7_keepPast_36, eX7_keepPast_37, eX7_keepPast_38, eX7_keepPast_39, eX7_keepPast_42, eX7_keepPast_45, eX7_keepPast_46, eX7_keepPast_49, eX7_keepPast_51, eX7_keepPast_52, eX7_keepPast_53, eX7_keepPast_54, eX7_keepPast_55, g1, hk, h8', WpR_some, Option.toList_some, Option.toList_none, List.cons_append, List.nil_append, List.append_nil, clr_n, clr_i, clr_a, ni_add, ni_mul, ni_sub, ni_lt, ni_le, ni_eq, ni_div, nat_mod_eq, ni_rem, iMax_nn, iMin_nn, iMax_sub, Nat.zero_max, bI_0, bI_1, bI_n0, up2_s, up2_n, up2_k, va_up_self, va_up_ne, ni_l, lN_mul, lN_add, ln_mask, lN_i, ↓reduceIte, if_true, if_false, not_true_eq_false, not_false_eq_true, ite_self, Nat.add_zero, Nat.zero_add, ent_def]
      refine hk44 m k hk7 hk (fun j hj => hR44 j (by omega)) Q _ ?_
      intro m2 d1 d2 d3 d4
      rw [← hQ]
      have em : min 8 (k + 1) = k + 1 := by omega
      rw [em]
      refine ⟨m2, rfl, rfl, ⟨?_, ?_, by omega, ?_⟩, d3, fun j hj => d4 j (by omega) (by omega)⟩
      · intro j hj
        rw [Nat.zero_add, d4 j (by omega) (by omega)]
        exact hR44 j hj
      · rw [Nat.zero_add, d1]
      · intro i hi j hj
        simp only [Nat.zero_add]
        cases i with
        | zero =>
          show m2 159 (57 + 44 * (k + 1 - 1 - 0) + j) = nI (σ j)
          rw [show 57 + 44 * (k + 1 - 1 - 0) + j = 57 + 44 * k + j by omega]
          exact d2 j hj
        | succ i =>
          show m2 159 (57 + 44 * (k + 1 - 1 - (i + 1)) + j) = nI (f i j)
          rw [show k + 1 - 1 - (i + 1) = k - 1 - i by omega, d4 _ (by omega) (by omega)]
          exact hP i (by omega) j hj
  obtain ⟨r, μ', e1, m', rfl, rfl, h2⟩ := res_ex key
  exact ⟨m', e1, h2⟩
end RF4
