section SH3
variable {G : List AT} {m : Nat → Nat → Int32} {ml : Nat → Nat → Int64} {a n s h t x y z k l p q r : Nat} {σ ρ : Nat → Nat} {u v w i j c : Int32} {f : Nat → Nat → Nat} {μ : Mm} {on : Nat → Bool} {ln sz : Nat → Nat} {it : Nat → Nat → Int64}
theorem vup_ne {α : Type} {f : Nat → α} {a b : Nat} {v : α} (h : b ≠ a) : va_up f a v b = f b := by simp [va_up, h]
def zrI (it : Nat → Nat → Int64) (s : Nat) : Nat → Nat → Int64 := fun a b => if a = s then lN 0 else it a b
theorem r_X2_begin (hG : GW G) (hs : s < 4) (hl : l < 4) (hn : n ≤ 24) : ∃ ml', res mX2_begin [.ref (136 + 2 * s), .int (nI l), .int (nI n)] (G, m, ml) = some (none, (G, up2 (up2 m (136 + 2 * s) 0 (nI l)) (136 + 2 * s) 1 (nI n), ml')) ∧ (∀ j, j < 24 → ml' (137 + 2 * s) j = lN 0) ∧ (∀ b, b ≠ 137 + 2 * s → ml' b = ml b) := by
  obtain ⟨r1, r2, r3, r4, r5⟩ := hG.2.2.2.1.2.2 s hs
  have key : Wp mX2_begin 0 (ent [.ref (136 + 2 * s), .int (nI l), .int (nI n)] 4) [] (G, m, ml) (fun r μ' => ∃ ml', r = none ∧ μ' = (G, up2 (up2 m (136 + 2 * s) 0 (nI l)) (136 + 2 * s) 1 (nI n), ml') ∧ (∀ j, j < 24 → ml' (137 + 2 * s) j = lN 0) ∧ (∀ b, b ≠ 137 + 2 * s → ml' b = ml b)) := by
    show Wp mX2_begin 0 [some (.ref (136 + 2 * s)), some (.int (nI l)), some (.int (nI n)), none] [] (G, m, ml) _
    generalize hQ : (fun (r : Option Value) (μ' : Mm) => ∃ ml', r = none ∧ μ' = (G, up2 (up2 m (136 + 2 * s) 0 (nI l)) (136 + 2 * s) 1 (nI n), ml') ∧ (∀ j, j < 24 → ml' (137 + 2 * s) j = lN 0) ∧ (∀ b, b ≠ 137 + 2 * s → ml' b = ml b)) = Q
    simp (maxSteps := 1000000) (decide := true) (disch := (first | assumption | omega | exact Nat.div_mul_le_self _ _ | exact ni_nz (by omega) (by omega) | exact rfl | exact retOk_bI _ | exact retOk_0 | exact retOk_1)) only [eX2_begin_0, eX2_begin_1, eX2_begin_2, eX2_begin_5, eX2_begin_6, eX2_begin_7, eX2_begin_10, eX2_begin_11, eX2_begin_13, eX2_begin_15, eX2_begin_18, eX2_begin_19, eX2_begin_22, eX2_begin_23, eX2_begin_24, eX2_begin_25, eX2_begin_28, eX2_begin_31, WpR_some, Option.toList_some, Option.toList_none, List.cons_append, List.nil_append, List.append_nil, clr_n, clr_i, clr_a, ni_add, ni_mul, ni_sub, ni_lt, ni_le, ni_eq, ni_div, nat_mod_eq, ni_rem, iMax_nn, iMin_nn, iMax_sub, Nat.zero_max, bI_0, bI_1, bI_n0, up2_s, up2_n, up2_k, va_up_self, va_up_ne, ni_l, lN_mul, lN_add, ln_mask, lN_i, ↓reduceIte, if_true, if_false, not_true_eq_false, not_false_eq_true, ite_self, Nat.add_zero, Nat.zero_add, ent_def]
    refine wp_for (X := Unit) (fun i _ => [some (.ref (136 + 2 * s)), some (.int (nI l)), some (.int (nI n)), some (.int (nI i))]) (fun i _ μ => ∃ ml', μ = (G, up2 (up2 m (136 + 2 * s) 0 (nI l)) (136 + 2 * s) 1 (nI n), ml') ∧ (∀ j, j < i → ml' (137 + 2 * s) j = lN 0) ∧ (∀ b, b ≠ 137 + 2 * s → ml' b = ml b)) 24 ?_ ?_ 0 () _ (Nat.zero_le _) ⟨ml, rfl, fun j hj => absurd hj (Nat.not_lt_zero _), fun _ _ => rfl⟩
    · rintro i - μ hi ⟨ml1, rfl, c1, c2⟩ kk
      have hlt : ¬ 24 ≤ i := by omega
      rw [eX2_begin_12]
      simp (maxSteps := 1000000) (decide := true) (disch := (first | assumption | omega | exact Nat.div_mul_le_self _ _ | exact ni_nz (by omega) (by omega) | exact rfl | exact retOk_bI _ | exact retOk_0 | exact retOk_1)) only [eX2_begin_0, eX2_begin_1, eX2_begin_2, eX2_begin_5, eX2_begin_6, eX2_begin_7, eX2_begin_10, eX2_begin_11, eX2_begin_13, eX2_begin_15, eX2_begin_18, eX2_begin_19, eX2_begin_22, eX2_begin_23, eX2_begin_24, eX2_begin_25, eX2_begin_28, eX2_begin_31, r3, hlt, WpR_some, Option.toList_some, Option.toList_none, List.cons_append, List.nil_append, List.append_nil, clr_n, clr_i, clr_a, ni_add, ni_mul, ni_sub, ni_lt, ni_le, ni_eq, ni_div, nat_mod_eq, ni_rem, iMax_nn, iMin_nn, iMax_sub, Nat.zero_max, bI_0, bI_1, bI_n0, up2_s, up2_n, up2_k, va_up_self, va_up_ne, ni_l, lN_mul, lN_add, ln_mask, lN_i, ↓reduceIte, if_true, if_false, not_true_eq_false, not_false_eq_true, ite_self, Nat.add_zero, Nat.zero_add, ent_def]
      refine kk () _ ⟨_, rfl, ?_, ?_⟩
      · intro j hj
        rw [up2J_at]
        by_cases hq : j = i
        · rw [if_pos ⟨rfl, hq⟩]
        · rw [if_neg (fun q => hq q.2)]; exact c1 j (by omega)
      · intro b hb
        funext j
        rw [up2J_at, if_neg (fun q => hb q.1), c2 b hb]
    · rintro - μ ⟨ml1, rfl, c1, c2⟩
      rw [eX2_begin_12]
      simp (maxSteps := 1000000) (decide := true) (disch := (first | assumption | omega | exact Nat.div_mul_le_self _ _ | exact ni_nz (by omega) (by omega) | exact rfl | exact retOk_bI _ | exact retOk_0 | exact retOk_1)) only [eX2_begin_0, eX2_begin_1, eX2_begin_2, eX2_begin_5, eX2_begin_6, eX2_begin_7, eX2_begin_10, eX2_begin_11, eX2_begin_13, eX2_begin_15, eX2_begin_18, eX2_begin_19, eX2_begin_22, eX2_begin_23, eX2_begin_24, eX2_begin_25, eX2_begin_28, eX2_begin_31, Nat.le_refl, WpR_some, Option.toList_some, Option.toList_none, List.cons_append, List.nil_append, List.append_nil, clr_n, clr_i, clr_a, ni_add, ni_mul, ni_sub, ni_lt, ni_le, ni_eq, ni_div, nat_mod_eq, ni_rem, iMax_nn, iMin_nn, iMax_sub, Nat.zero_max, bI_0, bI_1, bI_n0, up2_s, up2_n, up2_k, va_up_self, va_up_ne, ni_l, lN_mul, lN_add, ln_mask, lN_i, ↓reduceIte, if_true, if_false, not_true_eq_false, not_false_eq_true, ite_self, Nat.add_zero, Nat.zero_add, ent_def]
      rw [← hQ]
      exact ⟨ml1, rfl, rfl, c1, c2⟩
  obtain ⟨r, μ', e1, ml', rfl, rfl, h2⟩ := res_ex key
  exact ⟨ml', e1, h2⟩
theorem c_sheet_bad (hG : GW G) (h : (isN u 4 && isN v 4 && decide (w ≤ nI 24)) = false) : res mX6_sheet [.ref 2, .int u, .int v, .int w] (G, m, ml) = some (some (.int (-1)), (G, m, ml)) := by
  apply res_of
  show Wp mX6_sheet 0 [some (.ref 2), some (.int u), some (.int v), some (.int w)] [] (G, m, ml) _
  cases h1 : isN u 4
  · simp (maxSteps := 1000000) (decide := true) (disch := (first | assumption | omega | exact Nat.div_mul_le_self _ _ | exact ni_nz (by omega) (by omega) | exact rfl | exact retOk_bI _ | exact retOk_0 | exact retOk_1)) only [eX6_sheet_0, eX6_sheet_1, eX6_sheet_4, eX6_sheet_7, eX6_sheet_8, eX6_sheet_11, eX6_sheet_14, eX6_sheet_15, eX6_sheet_17, eX6_sheet_20, eX6_sheet_21, eX6_sheet_22, eX6_sheet_23, eX6_sheet_26, eX6_sheet_28, eX6_sheet_29, eX6_sheet_30, eX6_sheet_33, eX6_sheet_34, eX6_sheet_35, eX6_sheet_36, eX6_sheet_37, eX6_sheet_40, eX6_sheet_41, r_X6_isSheet, h1, WpR_some, Option.toList_some, Option.toList_none, List.cons_append, List.nil_append, List.append_nil, clr_n, clr_i, clr_a, ni_add, ni_mul, ni_sub, ni_lt, ni_le, ni_eq, ni_div, nat_mod_eq, ni_rem, iMax_nn, iMin_nn, iMax_sub, Nat.zero_max, bI_0, bI_1, bI_n0, up2_s, up2_n, up2_k, va_up_self, va_up_ne, ni_l, lN_mul, lN_add, ln_mask, lN_i, ↓reduceIte, if_true, if_false, not_true_eq_false, not_false_eq_true, ite_self, Nat.add_zero, Nat.zero_add, ent_def]
  · cases h2 : isN v 4
    · simp (maxSteps := 1000000) (decide := true) (disch := (first | assumption | omega | exact Nat.div_mul_le_self _ _ | exact ni_nz (by omega) (by omega) | exact rfl | exact retOk_bI _ | exact retOk_0 | exact retOk_1)) only [eX6_sheet_0, eX6_sheet_1, eX6_sheet_4, eX6_sheet_7, eX6_sheet_8, eX6_sheet_11, eX6_sheet_14, eX6_sheet_15, eX6_sheet_17, eX6_sheet_20, eX6_sheet_21, eX6_sheet_22, eX6_sheet_23, eX6_sheet_26, eX6_sheet_28, eX6_sheet_29, eX6_sheet_30, eX6_sheet_33, eX6_sheet_34, eX6_sheet_35, eX6_sheet_36, eX6_sheet_37, eX6_sheet_40, eX6_sheet_41, r_X6_isSheet, r_X6_isLane, h1, h2, WpR_some, Option.toList_some, Option.toList_none, List.cons_append, List.nil_append, List.append_nil, clr_n, clr_i, clr_a, ni_add, ni_mul, ni_sub, ni_lt, ni_le, ni_eq, ni_div, nat_mod_eq, ni_rem, iMax_nn, iMin_nn, iMax_sub, Nat.zero_max, bI_0, bI_1, bI_n0, up2_s, up2_n, up2_k, va_up_self, va_up_ne, ni_l, lN_mul, lN_add, ln_mask, lN_i, ↓reduceIte, if_true, if_false, not_true_eq_false, not_false_eq_true, ite_self, Nat.add_zero, Nat.zero_add, ent_def]
    · rw [h1, h2, Bool.true_and, Bool.true_and, decide_eq_false_iff_not] at h
      simp (maxSteps := 1000000) (decide := true) (disch := (first | assumption | omega | exact Nat.div_mul_le_self _ _ | exact ni_nz (by omega) (by omega) | exact rfl | exact retOk_bI _ | exact retOk_0 | exact retOk_1)) only [eX6_sheet_0, eX6_sheet_1, eX6_sheet_4, eX6_sheet_7, eX6_sheet_8, eX6_sheet_11, eX6_sheet_14, eX6_sheet_15, eX6_sheet_17, eX6_sheet_20, eX6_sheet_21, eX6_sheet_22, eX6_sheet_23, eX6_sheet_26, eX6_sheet_28, eX6_sheet_29, eX6_sheet_30, eX6_sheet_33, eX6_sheet_34, eX6_sheet_35, eX6_sheet_36, eX6_sheet_37, eX6_sheet_40, eX6_sheet_41, r_X6_isSheet, r_X6_isLane, h1, h2, h, WpR_some, Option.toList_some, Option.toList_none, List.cons_append, List.nil_append, List.append_nil, clr_n, clr_i, clr_a, ni_add, ni_mul, ni_sub, ni_lt, ni_le, ni_eq, ni_div, nat_mod_eq, ni_rem, iMax_nn, iMin_nn, iMax_sub, Nat.zero_max, bI_0, bI_1, bI_n0, up2_s, up2_n, up2_k, va_up_self, va_up_ne, ni_l, lN_mul, lN_add, ln_mask, lN_i, ↓reduceIte, if_true, if_false, not_true_eq_false, not_false_eq_true, ite_self, Nat.add_zero, Nat.zero_add, ent_def]
theorem c_sheet_size (hG : GW G) (h1 : isN u 4 = true) (h2 : isN v 4 = true) (h : w < nI 0) : res mX6_sheet [.ref 2, .int u, .int v, .int w] (G, m, ml) = some (some (.int (-14)), (G, m, ml)) := by
  have h' : ¬ nI 0 ≤ w := by rw [i_lt] at h; exact h
  have h3 : w ≤ nI 24 := by
    have a := Int32.lt_iff_toInt_lt.mp h
    apply Int32.le_iff_toInt_le.mpr
    rw [nI_toInt (by omega)] at a ⊢
    omega
  apply res_of
  show Wp mX6_sheet 0 [some (.ref 2), some (.int u), some (.int v), some (.int w)] [] (G, m, ml) _
  simp (maxSteps := 1000000) (decide := true) (disch := (first | assumption | omega | exact Nat.div_mul_le_self _ _ | exact ni_nz (by omega) (by omega) | exact rfl | exact retOk_bI _ | exact retOk_0 | exact retOk_1)) only [eX6_sheet_0, eX6_sheet_1, eX6_sheet_4, eX6_sheet_7, eX6_sheet_8, eX6_sheet_11, eX6_sheet_14, eX6_sheet_15, eX6_sheet_17, eX6_sheet_20, eX6_sheet_21, eX6_sheet_22, eX6_sheet_23, eX6_sheet_26, eX6_sheet_28, eX6_sheet_29, eX6_sheet_30, eX6_sheet_33, eX6_sheet_34, eX6_sheet_35, eX6_sheet_36, eX6_sheet_37, eX6_sheet_40, eX6_sheet_41, r_X6_isSheet, r_X6_isLane, h1, h2, h3, h', WpR_some, Option.toList_some, Option.toList_none, List.cons_append, List.nil_append, List.append_nil, clr_n, clr_i, clr_a, ni_add, ni_mul, ni_sub, ni_lt, ni_le, ni_eq, ni_div, nat_mod_eq, ni_rem, iMax_nn, iMin_nn, iMax_sub, Nat.zero_max, bI_0, bI_1, bI_n0, up2_s, up2_n, up2_k, va_up_self, va_up_ne, ni_l, lN_mul, lN_add, ln_mask, lN_i, ↓reduceIte, if_true, if_false, not_true_eq_false, not_false_eq_true, ite_self, Nat.add_zero, Nat.zero_add, ent_def]
theorem c_sheet (hG : GW G) (hS : CS m ml on ln sz it) (hs : s < 4) (hl : l < 4) (hn : n ≤ 24) : ∃ m' ml', res mX6_sheet [.ref 2, .int (nI s), .int (nI l), .int (nI n)] (G, m, ml) = some (some (.int (nI n)), (G, m', ml')) ∧ CS m' ml' (upB on s true) (upN ln s l) (upN sz s n) (zrI it s) ∧ (∀ b, b < 136 ∨ 144 ≤ b → m' b = m b) ∧ (∀ b, 144 ≤ b → ml' b = ml b) := by
  have h1 := isN_t hs (by decide)
  have h2 := isN_t hl (by decide)
  obtain ⟨ml', e1, c1, c2⟩ := r_X2_begin (m := m) (ml := ml) hG hs hl hn
  obtain ⟨⟨g0, g1, g2, g3, g4, g5, g6, -⟩, -, -, ⟨r01, r02, r00⟩, -⟩ := hG
  obtain ⟨r1, r2, r3, r4, r5⟩ := r00 s hs
  refine ⟨up2 (up2 m (136 + 2 * s) 0 (nI l)) (136 + 2 * s) 1 (nI n), ml', ?_, ?_, ?_, ?_⟩
  · apply res_of
    show Wp mX6_sheet 0 [some (.ref 2), some (.int (nI s)), some (.int (nI l)), some (.int (nI n))] [] (G, m, ml) _
    simp (maxSteps := 1000000) (decide := true) (disch := (first | assumption | omega | exact Nat.div_mul_le_self _ _ | exact ni_nz (by omega) (by omega) | exact rfl | exact retOk_bI _ | exact retOk_0 | exact retOk_1)) only [eX6_sheet_0, eX6_sheet_1, eX6_sheet_4, eX6_sheet_7, eX6_sheet_8, eX6_sheet_11, eX6_sheet_14, eX6_sheet_15, eX6_sheet_17, eX6_sheet_20, eX6_sheet_21, eX6_sheet_22, eX6_sheet_23, eX6_sheet_26, eX6_sheet_28, eX6_sheet_29, eX6_sheet_30, eX6_sheet_33, eX6_sheet_34, eX6_sheet_35, eX6_sheet_36, eX6_sheet_37, eX6_sheet_40, eX6_sheet_41, r_X6_isSheet, r_X6_isLane, h1, h2, hn, g6, r1, e1, Nat.zero_le, WpR_some, Option.toList_some, Option.toList_none, List.cons_append, List.nil_append, List.append_nil, clr_n, clr_i, clr_a, ni_add, ni_mul, ni_sub, ni_lt, ni_le, ni_eq, ni_div, nat_mod_eq, ni_rem, iMax_nn, iMin_nn, iMax_sub, Nat.zero_max, bI_0, bI_1, bI_n0, up2_s, up2_n, up2_k, va_up_self, va_up_ne, ni_l, lN_mul, lN_add, ln_mask, lN_i, ↓reduceIte, if_true, if_false, not_true_eq_false, not_false_eq_true, ite_self, Nat.add_zero, Nat.zero_add, ent_def]
  · intro b hb
    by_cases hq : b = s
    · subst hq
      rw [upB_s, upN_s, upN_s]
      refine ⟨fun _ => ⟨by rw [up2_k (by decide), up2_s], by rw [up2_s], hl, hn⟩, fun h => (by cases h), fun j hj => ?_⟩
      unfold zrI
      rw [if_pos rfl]
      exact c1 j hj
    · rw [upB_n hq, upN_n hq, upN_n hq, up2_n (by omega), up2_n (by omega)]
      refine ⟨(hS b hb).1, (hS b hb).2.1, fun j hj => ?_⟩
      unfold zrI
      rw [if_neg hq, c2 _ (by omega)]
      exact (hS b hb).2.2 j hj
  · intro b hb; rw [up2_n (by omega), up2_n (by omega)]
  · intro b hb; exact c2 b (by omega)
theorem x_sheet_bad (hG : GM G) (h : (isN u 4 && isN v 4 && decide (w ≤ nI 24)) = false) : res mX7_sheet [.ref 158, .int u, .int v, .int w] (G, m, ml) = some (some (.int (-1)), (G, m, ml)) := by
  apply res_of
  show Wp mX7_sheet 0 [some (.ref 158), some (.int u), some (.int v), some (.int w), none] [] (G, m, ml) _
  cases h1 : isN u 4
  · simp (maxSteps := 1000000) (decide := true) (disch := (first | assumption | omega | exact Nat.div_mul_le_self _ _ | exact ni_nz (by omega) (by omega) | exact rfl | exact retOk_bI _ | exact retOk_0 | exact retOk_1)) only [eX7_sheet_0, eX7_sheet_1, eX7_sheet_4, eX7_sheet_7, eX7_sheet_8, eX7_sheet_9, eX7_sheet_10, eX7_sheet_13, eX7_sheet_16, eX7_sheet_19, eX7_sheet_20, eX7_sheet_22, eX7_sheet_25, eX7_sheet_26, eX7_sheet_27, eX7_sheet_28, eX7_sheet_31, eX7_sheet_33, eX7_sheet_34, eX7_sheet_35, eX7_sheet_38, eX7_sheet_39, eX7_sheet_40, eX7_sheet_41, eX7_sheet_42, eX7_sheet_45, eX7_sheet_46, eX7_sheet_47, eX7_sheet_48, eX7_sheet_49, eX7_sheet_53, eX7_sheet_55, eX7_sheet_58, eX7_sheet_59, eX7_sheet_62, eX7_sheet_64, eX7_sheet_65, eX7_sheet_66, eX7_sheet_68, eX7_sheet_69, eX7_sheet_70, eX7_sheet_71, eX7_sheet_74, eX7_sheet_77, eX7_sheet_78, r_X7_isSheet, h1, WpR_some, Option.toList_some, Option.toList_none, List.cons_append, List.nil_append, List.append_nil, clr_n, clr_i, clr_a, ni_add, ni_mul, ni_sub, ni_lt, ni_le, ni_eq, ni_div, nat_mod_eq, ni_rem, iMax_nn, iMin_nn, iMax_sub, Nat.zero_max, bI_0, bI_1, bI_n0, up2_s, up2_n, up2_k, va_up_self, va_up_ne, ni_l, lN_mul, lN_add, ln_mask, lN_i, ↓reduceIte, if_true, if_false, not_true_eq_false, not_false_eq_true, ite_self, Nat.add_zero, Nat.zero_add, ent_def]
  · cases h2 : isN v 4
    · simp (maxSteps := 1000000) (decide := true) (disch := (first | assumption | omega | exact Nat.div_mul_le_self _ _ | exact ni_nz (by omega) (by omega) | exact rfl | exact retOk_bI _ | exact retOk_0 | exact retOk_1)) only [eX7_sheet_0, eX7_sheet_1, eX7_sheet_4, eX7_sheet_7, eX7_sheet_8, eX7_sheet_9, eX7_sheet_10, eX7_sheet_13, eX7_sheet_16, eX7_sheet_19, eX7_sheet_20, eX7_sheet_22, eX7_sheet_25, eX7_sheet_26, eX7_sheet_27, eX7_sheet_28, eX7_sheet_31, eX7_sheet_33, eX7_sheet_34, eX7_sheet_35, eX7_sheet_38, eX7_sheet_39, eX7_sheet_40, eX7_sheet_41, eX7_sheet_42, eX7_sheet_45, eX7_sheet_46, eX7_sheet_47, eX7_sheet_48, eX7_sheet_49, eX7_sheet_53, eX7_sheet_55, eX7_sheet_58, eX7_sheet_59, eX7_sheet_62, eX7_sheet_64, eX7_sheet_65, eX7_sheet_66, eX7_sheet_68, eX7_sheet_69, eX7_sheet_70, eX7_sheet_71, eX7_sheet_74, eX7_sheet_77, eX7_sheet_78, r_X7_isSheet, r_inL, h1, h2, WpR_some, Option.toList_some, Option.toList_none, List.cons_append, List.nil_append, List.append_nil, clr_n, clr_i, clr_a, ni_add, ni_mul, ni_sub, ni_lt, ni_le, ni_eq, ni_div, nat_mod_eq, ni_rem, iMax_nn, iMin_nn, iMax_sub, Nat.zero_max, bI_0, bI_1, bI_n0, up2_s, up2_n, up2_k, va_up_self, va_up_ne, ni_l, lN_mul, lN_add, ln_mask, lN_i, ↓reduceIte, if_true, if_false, not_true_eq_false, not_false_eq_true, ite_self, Nat.add_zero, Nat.zero_add, ent_def]
    · rw [h1, h2, Bool.true_and, Bool.true_and, decide_eq_false_iff_not] at h
      simp (maxSteps := 1000000) (decide := true) (disch := (first | assumption | omega | exact Nat.div_mul_le_self _ _ | exact ni_nz (by omega) (by omega) | exact rfl | exact retOk_bI _ | exact retOk_0 | exact retOk_1)) only [eX7_sheet_0, eX7_sheet_1, eX7_sheet_4, eX7_sheet_7, eX7_sheet_8, eX7_sheet_9, eX7_sheet_10, eX7_sheet_13, eX7_sheet_16, eX7_sheet_19, eX7_sheet_20, eX7_sheet_22, eX7_sheet_25, eX7_sheet_26, eX7_sheet_27, eX7_sheet_28, eX7_sheet_31, eX7_sheet_33, eX7_sheet_34, eX7_sheet_35, eX7_sheet_38, eX7_sheet_39, eX7_sheet_40, eX7_sheet_41, eX7_sheet_42, eX7_sheet_45, eX7_sheet_46, eX7_sheet_47, eX7_sheet_48, eX7_sheet_49, eX7_sheet_53, eX7_sheet_55, eX7_sheet_58, eX7_sheet_59, eX7_sheet_62, eX7_sheet_64, eX7_sheet_65, eX7_sheet_66, eX7_sheet_68, eX7_sheet_69, eX7_sheet_70, eX7_sheet_71, eX7_sheet_74, eX7_sheet_77, eX7_sheet_78, r_X7_isSheet, r_inL, h1, h2, h, WpR_some, Option.toList_some, Option.toList_none, List.cons_append, List.nil_append, List.append_nil, clr_n, clr_i, clr_a, ni_add, ni_mul, ni_sub, ni_lt, ni_le, ni_eq, ni_div, nat_mod_eq, ni_rem, iMax_nn, iMin_nn, iMax_sub, Nat.zero_max, bI_0, bI_1, bI_n0, up2_s, up2_n, up2_k, va_up_self, va_up_ne, ni_l, lN_mul, lN_add, ln_mask, lN_i, ↓reduceIte, if_true, if_false, not_true_eq_false, not_false_eq_true, ite_self, Nat.add_zero, Nat.zero_add, ent_def]
theorem x_sheet_size (hG : GM G) (h1 : isN u 4 = true) (h2 : isN v 4 = true) (h : w < nI 0) : res mX7_sheet [.ref 158, .int u, .int v, .int w] (G, m, ml) = some (some (.int (-14)), (G, m, ml)) := by
  have h' : ¬ nI 0 ≤ w := by rw [i_lt] at h; exact h
  have h3 : w ≤ nI 24 := by
    have a := Int32.lt_iff_toInt_lt.mp h
    apply Int32.le_iff_toInt_le.mpr
    rw [nI_toInt (by omega)] at a ⊢
    omega
  apply res_of
  show Wp mX7_sheet 0 [some (.ref 158), some (.int u), some (.int v), some (.int w), none] [] (G, m, ml) _
  simp (maxSteps := 1000000) (decide := true) (disch := (first | assumption | omega | exact Nat.div_mul_le_self _ _ | exact ni_nz (by omega) (by omega) | exact rfl | exact retOk_bI _ | exact retOk_0 | exact retOk_1)) only [eX7_sheet_0, eX7_sheet_1, eX7_sheet_4, eX7_sheet_7, eX7_sheet_8, eX7_sheet_9, eX7_sheet_10, eX7_sheet_13, eX7_sheet_16, eX7_sheet_19, eX7_sheet_20, eX7_sheet_22, eX7_sheet_25, eX7_sheet_26, eX7_sheet_27, eX7_sheet_28, eX7_sheet_31, eX7_sheet_33, eX7_sheet_34, eX7_sheet_35, eX7_sheet_38, eX7_sheet_39, eX7_sheet_40, eX7_sheet_41, eX7_sheet_42, eX7_sheet_45, eX7_sheet_46, eX7_sheet_47, eX7_sheet_48, eX7_sheet_49, eX7_sheet_53, eX7_sheet_55, eX7_sheet_58, eX7_sheet_59, eX7_sheet_62, eX7_sheet_64, eX7_sheet_65, eX7_sheet_66, eX7_sheet_68, eX7_sheet_69, eX7_sheet_70, eX7_sheet_71, eX7_sheet_74, eX7_sheet_77, eX7_sheet_78, r_X7_isSheet, r_inL, h1, h2, h3, h', WpR_some, Option.toList_some, Option.toList_none, List.cons_append, List.nil_append, List.append_nil, clr_n, clr_i, clr_a, ni_add, ni_mul, ni_sub, ni_lt, ni_le, ni_eq, ni_div, nat_mod_eq, ni_rem, iMax_nn, iMin_nn, iMax_sub, Nat.zero_max, bI_0, bI_1, bI_n0, up2_s, up2_n, up2_k, va_up_self, va_up_ne, ni_l, lN_mul, lN_add, ln_mask, lN_i, ↓reduceIte, if_true, if_false, not_true_eq_false, not_false_eq_true, ite_self, Nat.add_zero, Nat.zero_add, ent_def]
theorem x_sheet (hG : GM G) (hS : RS m ml on ln sz it) (hs : s < 4) (hl : l < 4) (hn : n ≤ 24) : ∃ m' ml', res mX7_sheet [.ref 158, .int (nI s), .int (nI l), .int (nI n)] (G, m, ml) = some (some (.int (nI n)), (G, m', ml')) ∧ RS m' ml' (upB on s true) (upN ln s l) (upN sz s n) (zrI it s) ∧ (∀ b, b ≠ 161 → b ≠ 162 → m' b = m b) ∧ (∀ b, b ≠ 163 → ml' b = ml b) := by
  have h1 := isN_t hs (by decide)
  have h2 := fun μ => r_inLn (μ := μ) hl
  obtain ⟨⟨g0, g1, g2, g3, g4, g5, g6, -⟩, ⟨a0, a1, a2, a3, a4, a5, -⟩, ⟨l0, l1, l2, l3, l4, l5, -⟩⟩ := hG
  have key : Wp mX7_sheet 0 (ent [.ref 158, .int (nI s), .int (nI l), .int (nI n)] 5) [] (G, m, ml) (fun r μ' => ∃ m' ml', r = some (.int (nI n)) ∧ μ' = (G, m', ml') ∧ RS m' ml' (upB on s true) (upN ln s l) (upN sz s n) (zrI it s) ∧ (∀ b, b ≠ 161 → b ≠ 162 → m' b = m b) ∧ (∀ b, b ≠ 163 → ml' b = ml b)) := by
    show Wp mX7_sheet 0 [some (.ref 158), some (.int (nI s)), some (.int (nI l)), some (.int (nI n)), none] [] (G, m, ml) _
    generalize hQ : (fun (r : Option Value) (μ' : Mm) => ∃ m' ml', r = some (.int (nI n)) ∧ μ' = (G, m', ml') ∧ RS m' ml' (upB on s true) (upN ln s l) (upN sz s n) (zrI it s) ∧ (∀ b, b ≠ 161 → b ≠ 162 → m' b = m b) ∧ (∀ b, b ≠ 163 → ml' b = ml b)) = Q
    simp (maxSteps := 1000000) (decide := true) (disch := (first | assumption | omega | exact Nat.div_mul_le_self _ _ | exact ni_nz (by omega) (by omega) | exact rfl | exact retOk_bI _ | exact retOk_0 | exact retOk_1)) only [eX7_sheet_0, eX7_sheet_1, eX7_sheet_4, eX7_sheet_7, eX7_sheet_8, eX7_sheet_9, eX7_sheet_10, eX7_sheet_13, eX7_sheet_16, eX7_sheet_19, eX7_sheet_20, eX7_sheet_22, eX7_sheet_25, eX7_sheet_26, eX7_sheet_27, eX7_sheet_28, eX7_sheet_31, eX7_sheet_33, eX7_sheet_34, eX7_sheet_35, eX7_sheet_38, eX7_sheet_39, eX7_sheet_40, eX7_sheet_41, eX7_sheet_42, eX7_sheet_45, eX7_sheet_46, eX7_sheet_47, eX7_sheet_48, eX7_sheet_49, eX7_sheet_53, eX7_sheet_55, eX7_sheet_58, eX7_sheet_59, eX7_sheet_62, eX7_sheet_64, eX7_sheet_65, eX7_sheet_66, eX7_sheet_68, eX7_sheet_69, eX7_sheet_70, eX7_sheet_71, eX7_sheet_74, eX7_sheet_77, eX7_sheet_78, r_X7_isSheet, h1, h2, hn, g3, g4, Nat.zero_le, WpR_some, Option.toList_some, Option.toList_none, List.cons_append, List.nil_append, List.append_nil, clr_n, clr_i, clr_a, ni_add, ni_mul, ni_sub, ni_lt, ni_le, ni_eq, ni_div, nat_mod_eq, ni_rem, iMax_nn, iMin_nn, iMax_sub, Nat.zero_max, bI_0, bI_1, bI_n0, up2_s, up2_n, up2_k, va_up_self, va_up_ne, ni_l, lN_mul, lN_add, ln_mask, lN_i, ↓reduceIte, if_true, if_false, not_true_eq_false, not_false_eq_true, ite_self, Nat.add_zero, Nat.zero_add, ent_def]
    refine wp_for (X := Unit) (fun i _ => [some (.ref 158), some (.int (nI s)), some (.int (nI l)), some (.int (nI n)), some (.int (nI i))]) (fun i _ μ => ∃ ml', μ = (G, up2 (up2 m 161 s (nI l)) 162 s (nI n), ml') ∧ (∀ j, j < i → ml' 163 (24 * s + j) = lN 0) ∧ (∀ j, (j < 24 * s ∨ 24 * s + 24 ≤ j) → ml' 163 j = ml 163 j) ∧ (∀ b, b ≠ 163 → ml' b = ml b)) 24 ?_ ?_ 0 () _ (Nat.zero_le _) ⟨ml, rfl, fun j hj => absurd hj (Nat.not_lt_zero _), fun _ _ => rfl, fun _ _ => rfl⟩
    · rintro i - μ hi ⟨ml1, rfl, c1, c3, c2⟩ kk
      have hlt : ¬ 24 ≤ i := by omega
      rw [eX7_sheet_51]
      simp (maxSteps := 1000000) (decide := true) (disch := (first | assumption | omega | exact Nat.div_mul_le_self _ _ | exact ni_nz (by omega) (by omega) | exact rfl | exact retOk_bI _ | exact retOk_0 | exact retOk_1)) only [eX7_sheet_0, eX7_sheet_1, eX7_sheet_4, eX7_sheet_7, eX7_sheet_8, eX7_sheet_9, eX7_sheet_10, eX7_sheet_13, eX7_sheet_16, eX7_sheet_19, eX7_sheet_20, eX7_sheet_22, eX7_sheet_25, eX7_sheet_26, eX7_sheet_27, eX7_sheet_28, eX7_sheet_31, eX7_sheet_33, eX7_sheet_34, eX7_sheet_35, eX7_sheet_38, eX7_sheet_39, eX7_sheet_40, eX7_sheet_41, eX7_sheet_42, eX7_sheet_45, eX7_sheet_46, eX7_sheet_47, eX7_sheet_48, eX7_sheet_49, eX7_sheet_53, eX7_sheet_55, eX7_sheet_58, eX7_sheet_59, eX7_sheet_62, eX7_sheet_64, eX7_sheet_65, eX7_sheet_66, eX7_sheet_68, eX7_sheet_69, eX7_sheet_70, eX7_sheet_71, eX7_sheet_74, eX7_sheet_77, eX7_sheet_78, g5, hlt, WpR_some, Option.toList_some, Option.toList_none, List.cons_append, List.nil_append, List.append_nil, clr_n, clr_i, clr_a, ni_add, ni_mul, ni_sub, ni_lt, ni_le, ni_eq, ni_div, nat_mod_eq, ni_rem, iMax_nn, iMin_nn, iMax_sub, Nat.zero_max, bI_0, bI_1, bI_n0, up2_s, up2_n, up2_k, va_up_self, va_up_ne, ni_l, lN_mul, lN_add, ln_mask, lN_i, ↓reduceIte, if_true, if_false, not_true_eq_false, not_false_eq_true, ite_self, Nat.add_zero, Nat.zero_add, ent_def]
      refine kk () _ ⟨_, rfl, ?_, ?_, ?_⟩
      · intro j hj
        rw [up2J_at]
        by_cases hq : j = i
        · rw [if_pos ⟨rfl, by omega⟩]
        · rw [if_neg (fun q => hq (by omega))]; exact c1 j (by omega)
      · intro j hj
        rw [up2J_at, if_neg (by omega)]; exact c3 j hj
      · intro b hb
        funext j
        rw [up2J_at, if_neg (fun q => hb q.1), c2 b hb]
    · rintro - μ ⟨ml1, rfl, c1, c3, c2⟩
      rw [eX7_sheet_51]
      simp (maxSteps := 1000000) (decide := true) (disch := (first | assumption | omega | exact Nat.div_mul_le_self _ _ | exact ni_nz (by omega) (by omega) | exact rfl | exact retOk_bI _ | exact retOk_0 | exact retOk_1)) only [eX7_sheet_0, eX7_sheet_1, eX7_sheet_4, eX7_sheet_7, eX7_sheet_8, eX7_sheet_9, eX7_sheet_10, eX7_sheet_13, eX7_sheet_16, eX7_sheet_19, eX7_sheet_20, eX7_sheet_22, eX7_sheet_25, eX7_sheet_26, eX7_sheet_27, eX7_sheet_28, eX7_sheet_31, eX7_sheet_33, eX7_sheet_34, eX7_sheet_35, eX7_sheet_38, eX7_sheet_39, eX7_sheet_40, eX7_sheet_41, eX7_sheet_42, eX7_sheet_45, eX7_sheet_46, eX7_sheet_47, eX7_sheet_48, eX7_sheet_49, eX7_sheet_53, eX7_sheet_55, eX7_sheet_58, eX7_sheet_59, eX7_sheet_62, eX7_sheet_64, eX7_sheet_65, eX7_sheet_66, eX7_sheet_68, eX7_sheet_69, eX7_sheet_70, eX7_sheet_71, eX7_sheet_74, eX7_sheet_77, eX7_sheet_78, Nat.le_refl, WpR_some, Option.toList_some, Option.toList_none, List.cons_append, List.nil_append, List.append_nil, clr_n, clr_i, clr_a, ni_add, ni_mul, ni_sub, ni_lt, ni_le, ni_eq, ni_div, nat_mod_eq, ni_rem, iMax_nn, iMin_nn, iMax_sub, Nat.zero_max, bI_0, bI_1, bI_n0, up2_s, up2_n, up2_k, va_up_self, va_up_ne, ni_l, lN_mul, lN_add, ln_mask, lN_i, ↓reduceIte, if_true, if_false, not_true_eq_false, not_false_eq_true, ite_self, Nat.add_zero, Nat.zero_add, ent_def]
      rw [← hQ]
      refine ⟨_, _, rfl, rfl, ?_, fun b h1 h2 => by rw [up2_n h2, up2_n h1], c2⟩
      intro b hb
      by_cases hq : b = s
      · subst hq
        rw [upB_s, upN_s, upN_s]
        refine ⟨fun _ => ⟨by rw [up2_n (by decide), up2_s], by rw [up2_s], hl, hn⟩, fun h => (by cases h), fun j hj => ?_⟩
        unfold zrI
        rw [if_pos rfl]
        exact c1 j hj
      · rw [upB_n hq, upN_n hq, upN_n hq, up2_n (a := 162) (b := 161) (by decide), up2_k hq, up2_k hq, up2_n (by decide)]
        refine ⟨(hS b hb).1, (hS b hb).2.1, fun j hj => ?_⟩
        unfold zrI
        rw [if_neg hq, c3 _ (by omega)]
        exact (hS b hb).2.2 j hj
  obtain ⟨r, μ', e1, m', ml', rfl, rfl, h2⟩ := res_ex key
  exact ⟨m', ml', e1, h2⟩
/-! drop -/
theorem c_drop_bad (hG : GW G) (h : isN u 4 = false) : res mX6_drop [.ref 2, .int u] (G, m, ml) = some (some (.int (-1)), (G, m, ml)) := by
  apply res_of
  show Wp mX6_drop 0 [some (.ref 2), some (.int u), none, none] [] (G, m, ml) _
  simp (maxSteps := 1000000) (decide := true) (disch := (first | assumption | omega | exact Nat.div_mul_le_self _ _ | exact ni_nz (by omega) (by omega) | exact rfl | exact retOk_bI _ | exact retOk_0 | exact retOk_1)) only [eX6_drop_0, eX6_drop_1, eX6_drop_4, eX6_drop_7, eX6_drop_8, eX6_drop_9, eX6_drop_10, eX6_drop_13, eX6_drop_14, eX6_drop_15, eX6_drop_16, eX6_drop_17, eX6_drop_20, eX6_drop_23, eX6_drop_25, eX6_drop_26, eX6_drop_27, eX6_drop_30, eX6_drop_31, eX6_drop_32, eX6_drop_35, eX6_drop_36, r_X6_isSheet, h, WpR_some, Option.toList_some, Option.toList_none, List.cons_append, List.nil_append, List.append_nil, clr_n, clr_i, clr_a, ni_add, ni_mul, ni_sub, ni_lt, ni_le, ni_eq, ni_div, nat_mod_eq, ni_rem, iMax_nn, iMin_nn, iMax_sub, Nat.zero_max, bI_0, bI_1, bI_n0, up2_s, up2_n, up2_k, va_up_self, va_up_ne, ni_l, lN_mul, lN_add, ln_mask, lN_i, ↓reduceIte, if_true, if_false, not_true_eq_false, not_false_eq_true, ite_self, Nat.add_zero, Nat.zero_add, ent_def]
theorem c_drop (hG : GW G) (hS : CS m ml on ln sz it) (hs : s < 4) : ∃ m', res mX6_drop [.ref 2, .int (nI s)] (G, m, ml) = some (some (.int (if on s = true then nI (sz s) else -11)), (G, m', ml)) ∧ CS m' ml (upB on s false) ln sz it ∧ (∀ b, b < 136 ∨ 144 ≤ b → m' b = m b) := by
  have h1 := isN_t hs (by decide)
  have e1 := r_X2_hold (ml := ml) hG hS hs
  obtain ⟨⟨g0, g1, g2, g3, g4, g5, g6, -⟩, -, -, ⟨r01, r02, r00⟩, -⟩ := hG
  obtain ⟨r1, r2, r3, r4, r5⟩ := r00 s hs
  cases ho : on s
  · rw [ho, Bool.not_false] at e1
    refine ⟨m, ?_, ?_, fun _ _ => rfl⟩
    · rw [if_neg (by decide)]
      apply res_of
      show Wp mX6_drop 0 [some (.ref 2), some (.int (nI s)), none, none] [] (G, m, ml) _
      simp (maxSteps := 1000000) (decide := true) (disch := (first | assumption | omega | exact Nat.div_mul_le_self _ _ | exact ni_nz (by omega) (by omega) | exact rfl | exact retOk_bI _ | exact retOk_0 | exact retOk_1)) only [eX6_drop_0, eX6_drop_1, eX6_drop_4, eX6_drop_7, eX6_drop_8, eX6_drop_9, eX6_drop_10, eX6_drop_13, eX6_drop_14, eX6_drop_15, eX6_drop_16, eX6_drop_17, eX6_drop_20, eX6_drop_23, eX6_drop_25, eX6_drop_26, eX6_drop_27, eX6_drop_30, eX6_drop_31, eX6_drop_32, eX6_drop_35, eX6_drop_36, r_X6_isSheet, h1, g6, r1, e1, WpR_some, Option.toList_some, Option.toList_none, List.cons_append, List.nil_append, List.append_nil, clr_n, clr_i, clr_a, ni_add, ni_mul, ni_sub, ni_lt, ni_le, ni_eq, ni_div, nat_mod_eq, ni_rem, iMax_nn, iMin_nn, iMax_sub, Nat.zero_max, bI_0, bI_1, bI_n0, up2_s, up2_n, up2_k, va_up_self, va_up_ne, ni_l, lN_mul, lN_add, ln_mask, lN_i, ↓reduceIte, if_true, if_false, not_true_eq_false, not_false_eq_true, ite_self, Nat.add_zero, Nat.zero_add, ent_def]
    · intro b hb
      by_cases hq : b = s
      · subst hq
        rw [upB_s]
        exact ⟨fun h => (by cases h), fun _ => (hS b hb).2.1 ho, (hS b hb).2.2⟩
      · rw [upB_n hq]
        exact hS b hb
  · rw [ho, Bool.not_true] at e1
    obtain ⟨x0, x1, x2, x3⟩ := (hS s hs).1 ho
    have e2 : res mX2_end [.ref (136 + 2 * s)] (G, m, ml) = some (none, (G, up2 (up2 m (136 + 2 * s) 0 (-1)) (136 + 2 * s) 1 (nI 0), ml)) := by
      apply res_of
      show Wp mX2_end 0 [some (.ref (136 + 2 * s))] [] (G, m, ml) _
      simp (maxSteps := 1000000) (decide := true) (disch := (first | assumption | omega | exact Nat.div_mul_le_self _ _ | exact ni_nz (by omega) (by omega) | exact rfl | exact retOk_bI _ | exact retOk_0 | exact retOk_1)) only [eX2_end_0, eX2_end_1, eX2_end_2, eX2_end_5, eX2_end_6, eX2_end_7, eX2_end_10, WpR_some, Option.toList_some, Option.toList_none, List.cons_append, List.nil_append, List.append_nil, clr_n, clr_i, clr_a, ni_add, ni_mul, ni_sub, ni_lt, ni_le, ni_eq, ni_div, nat_mod_eq, ni_rem, iMax_nn, iMin_nn, iMax_sub, Nat.zero_max, bI_0, bI_1, bI_n0, up2_s, up2_n, up2_k, va_up_self, va_up_ne, ni_l, lN_mul, lN_add, ln_mask, lN_i, ↓reduceIte, if_true, if_false, not_true_eq_false, not_false_eq_true, ite_self, Nat.add_zero, Nat.zero_add, ent_def]
    refine ⟨up2 (up2 m (136 + 2 * s) 0 (-1)) (136 + 2 * s) 1 (nI 0), ?_, ?_, fun b hb => by rw [up2_n (by omega), up2_n (by omega)]⟩
    · rw [if_pos rfl]
      apply res_of
      show Wp mX6_drop 0 [some (.ref 2), some (.int (nI s)), none, none] [] (G, m, ml) _
      simp (maxSteps := 1000000) (decide := true) (disch := (first | assumption | omega | exact Nat.div_mul_le_self _ _ | exact ni_nz (by omega) (by omega) | exact rfl | exact retOk_bI _ | exact retOk_0 | exact retOk_1)) only [eX6_drop_0, eX6_drop_1, eX6_drop_4, eX6_drop_7, eX6_drop_8, eX6_drop_9, eX6_drop_10, eX6_drop_13, eX6_drop_14, eX6_drop_15, eX6_drop_16, eX6_drop_17, eX6_drop_20, eX6_drop_23, eX6_drop_25, eX6_drop_26, eX6_drop_27, eX6_drop_30, eX6_drop_31, eX6_drop_32, eX6_drop_35, eX6_drop_36, r_X6_isSheet, h1, g6, r1, e1, x1, e2, WpR_some, Option.toList_some, Option.toList_none, List.cons_append, List.nil_append, List.append_nil, clr_n, clr_i, clr_a, ni_add, ni_mul, ni_sub, ni_lt, ni_le, ni_eq, ni_div, nat_mod_eq, ni_rem, iMax_nn, iMin_nn, iMax_sub, Nat.zero_max, bI_0, bI_1, bI_n0, up2_s, up2_n, up2_k, va_up_self, va_up_ne, ni_l, lN_mul, lN_add, ln_mask, lN_i, ↓reduceIte, if_true, if_false, not_true_eq_false, not_false_eq_true, ite_self, Nat.add_zero, Nat.zero_add, ent_def]
    · intro b hb
      by_cases hq : b = s
      · subst hq
        rw [upB_s]
        exact ⟨fun h => (by cases h), fun _ => by rw [up2_k (by decide), up2_s], (hS b hb).2.2⟩
      · rw [upB_n hq, up2_n (by omega), up2_n (by omega)]
        exact hS b hb
theorem x_drop_bad (hG : GM G) (h : isN u 4 = false) : res mX7_drop [.ref 158, .int u] (G, m, ml) = some (some (.int (-1)), (G, m, ml)) := by
  apply res_of
  show Wp mX7_drop 0 [some (.ref 158), some (.int u), none] [] (G, m, ml) _
  simp (maxSteps := 1000000) (decide := true) (disch := (first | assumption | omega | exact Nat.div_mul_le_self _ _ | exact ni_nz (by omega) (by omega) | exact rfl | exact retOk_bI _ | exact retOk_0 | exact retOk_1)) only [eX7_drop_0, eX7_drop_1, eX7_drop_4, eX7_drop_7, eX7_drop_8, eX7_drop_9, eX7_drop_10, eX7_drop_13, eX7_drop_14, eX7_drop_15, eX7_drop_16, eX7_drop_17, eX7_drop_20, eX7_drop_21, eX7_drop_22, eX7_drop_23, eX7_drop_24, eX7_drop_27, eX7_drop_29, eX7_drop_32, eX7_drop_33, r_X7_isSheet, h, WpR_some, Option.toList_some, Option.toList_none, List.cons_append, List.nil_append, List.append_nil, clr_n, clr_i, clr_a, ni_add, ni_mul, ni_sub, ni_lt, ni_le, ni_eq, ni_div, nat_mod_eq, ni_rem, iMax_nn, iMin_nn, iMax_sub, Nat.zero_max, bI_0, bI_1, bI_n0, up2_s, up2_n, up2_k, va_up_self, va_up_ne, ni_l, lN_mul, lN_add, ln_mask, lN_i, ↓reduceIte, if_true, if_false, not_true_eq_false, not_false_eq_true, ite_self, Nat.add_zero, Nat.zero_add, ent_def]
theorem x_drop (hG : GM G) (hS : RS m ml on ln sz it) (hs : s < 4) : ∃ m', res mX7_drop [.ref 158, .int (nI s)] (G, m, ml) = some (some (.int (if on s = true then nI (sz s) else -11)), (G, m', ml)) ∧ RS m' ml (upB on s false) ln sz it ∧ (∀ b, b ≠ 162 → m' b = m b) := by
  have h1 := isN_t hs (by decide)
  obtain ⟨⟨g0, g1, g2, g3, g4, g5, g6, -⟩, ⟨a0, a1, a2, a3, a4, a5, -⟩, ⟨l0, l1, l2, l3, l4, l5, -⟩⟩ := hG
  refine ⟨up2 m 162 s (-1), ?_, ?_, fun b hb => by rw [up2_n hb]⟩
  · apply res_of
    show Wp mX7_drop 0 [some (.ref 158), some (.int (nI s)), none] [] (G, m, ml) _
    cases ho : on s
    · have x0 := (hS s hs).2.1 ho
      rw [if_neg (by decide)]
      simp (maxSteps := 1000000) (decide := true) (disch := (first | assumption | omega | exact Nat.div_mul_le_self _ _ | exact ni_nz (by omega) (by omega) | exact rfl | exact retOk_bI _ | exact retOk_0 | exact retOk_1)) only [eX7_drop_0, eX7_drop_1, eX7_drop_4, eX7_drop_7, eX7_drop_8, eX7_drop_9, eX7_drop_10, eX7_drop_13, eX7_drop_14, eX7_drop_15, eX7_drop_16, eX7_drop_17, eX7_drop_20, eX7_drop_21, eX7_drop_22, eX7_drop_23, eX7_drop_24, eX7_drop_27, eX7_drop_29, eX7_drop_32, eX7_drop_33, r_X7_isSheet, h1, g4, x0, WpR_some, Option.toList_some, Option.toList_none, List.cons_append, List.nil_append, List.append_nil, clr_n, clr_i, clr_a, ni_add, ni_mul, ni_sub, ni_lt, ni_le, ni_eq, ni_div, nat_mod_eq, ni_rem, iMax_nn, iMin_nn, iMax_sub, Nat.zero_max, bI_0, bI_1, bI_n0, up2_s, up2_n, up2_k, va_up_self, va_up_ne, ni_l, lN_mul, lN_add, ln_mask, lN_i, ↓reduceIte, if_true, if_false, not_true_eq_false, not_false_eq_true, ite_self, Nat.add_zero, Nat.zero_add, ent_def]
    · obtain ⟨x0, x1, x2, x3⟩ := (hS s hs).1 ho
      rw [if_pos rfl]
      simp (maxSteps := 1000000) (decide := true) (disch := (first | assumption | omega | exact Nat.div_mul_le_self _ _ | exact ni_nz (by omega) (by omega) | exact rfl | exact retOk_bI _ | exact retOk_0 | exact retOk_1)) only [eX7_drop_0, eX7_drop_1, eX7_drop_4, eX7_drop_7, eX7_drop_8, eX7_drop_9, eX7_drop_10, eX7_drop_13, eX7_drop_14, eX7_drop_15, eX7_drop_16, eX7_drop_17, eX7_drop_20, eX7_drop_21, eX7_drop_22, eX7_drop_23, eX7_drop_24, eX7_drop_27, eX7_drop_29, eX7_drop_32, eX7_drop_33, r_X7_isSheet, h1, g4, x1, Nat.zero_le, WpR_some, Option.toList_some, Option.toList_none, List.cons_append, List.nil_append, List.append_nil, clr_n, clr_i, clr_a, ni_add, ni_mul, ni_sub, ni_lt, ni_le, ni_eq, ni_div, nat_mod_eq, ni_rem, iMax_nn, iMin_nn, iMax_sub, Nat.zero_max, bI_0, bI_1, bI_n0, up2_s, up2_n, up2_k, va_up_self, va_up_ne, ni_l, lN_mul, lN_add, ln_mask, lN_i, ↓reduceIte, if_true, if_false, not_true_eq_false, not_false_eq_true, ite_self, Nat.add_zero, Nat.zero_add, ent_def]
  · intro b hb
    by_cases hq : b = s
    · subst hq
      rw [upB_s]
      exact ⟨fun h => (by cases h), fun _ => by rw [up2_s], (hS b hb).2.2⟩
    · rw [upB_n hq, up2_n (by decide), up2_k hq]
      exact hS b hb
/-! copy -/
def cpI (it : Nat → Nat → Int64) (s p t q n : Nat) : Nat → Nat → Int64 := fun a b => if a = t ∧ q ≤ b ∧ b < q + n then it s (p + (b - q)) else it a b
theorem c_copy_bad (hG : GW G) (h : (isN u 4 && isN v 4) = false) : res mX6_copy [.ref 2, .int u, .int i, .int v, .int j, .int c] (G, m, ml) = some (some (.int (-1)), (G, m, ml)) := by
  apply res_of
  show Wp mX6_copy 0 [some (.ref 2), some (.int u), some (.int i), some (.int v), some (.int j), some (.int c), none, none] [] (G, m, ml) _
  cases h1 : isN u 4
  · simp (maxSteps := 1000000) (decide := true) (disch := (first | assumption | omega | exact Nat.div_mul_le_self _ _ | exact ni_nz (by omega) (by omega) | exact rfl | exact retOk_bI _ | exact retOk_0 | exact retOk_1)) only [eX6_copy_0, eX6_copy_1, eX6_copy_4, eX6_copy_7, eX6_copy_8, eX6_copy_11, eX6_copy_14, eX6_copy_15, eX6_copy_16, eX6_copy_17, eX6_copy_20, eX6_copy_21, eX6_copy_22, eX6_copy_24, eX6_copy_25, eX6_copy_28, eX6_copy_29, eX6_copy_30, eX6_copy_32, eX6_copy_34, eX6_copy_37, eX6_copy_40, eX6_copy_42, eX6_copy_45, eX6_copy_48, eX6_copy_50, eX6_copy_51, eX6_copy_53, eX6_copy_56, eX6_copy_58, eX6_copy_61, eX6_copy_64, eX6_copy_66, eX6_copy_67, eX6_copy_69, eX6_copy_70, eX6_copy_72, eX6_copy_75, eX6_copy_78, eX6_copy_80, eX6_copy_82, eX6_copy_84, eX6_copy_87, eX6_copy_90, eX6_copy_92, eX6_copy_93, eX6_copy_95, eX6_copy_98, eX6_copy_99, eX6_copy_101, eX6_copy_104, eX6_copy_106, eX6_copy_108, eX6_copy_111, eX6_copy_113, r_X6_isSheet, h1, WpR_some, Option.toList_some, Option.toList_none, List.cons_append, List.nil_append, List.append_nil, clr_n, clr_i, clr_a, ni_add, ni_mul, ni_sub, ni_lt, ni_le, ni_eq, ni_div, nat_mod_eq, ni_rem, iMax_nn, iMin_nn, iMax_sub, Nat.zero_max, bI_0, bI_1, bI_n0, up2_s, up2_n, up2_k, va_up_self, va_up_ne, ni_l, lN_mul, lN_add, ln_mask, lN_i, ↓reduceIte, if_true, if_false, not_true_eq_false, not_false_eq_true, ite_self, Nat.add_zero, Nat.zero_add, ent_def]
  · rw [h1, Bool.true_and] at h
    simp (maxSteps := 1000000) (decide := true) (disch := (first | assumption | omega | exact Nat.div_mul_le_self _ _ | exact ni_nz (by omega) (by omega) | exact rfl | exact retOk_bI _ | exact retOk_0 | exact retOk_1)) only [eX6_copy_0, eX6_copy_1, eX6_copy_4, eX6_copy_7, eX6_copy_8, eX6_copy_11, eX6_copy_14, eX6_copy_15, eX6_copy_16, eX6_copy_17, eX6_copy_20, eX6_copy_21, eX6_copy_22, eX6_copy_24, eX6_copy_25, eX6_copy_28, eX6_copy_29, eX6_copy_30, eX6_copy_32, eX6_copy_34, eX6_copy_37, eX6_copy_40, eX6_copy_42, eX6_copy_45, eX6_copy_48, eX6_copy_50, eX6_copy_51, eX6_copy_53, eX6_copy_56, eX6_copy_58, eX6_copy_61, eX6_copy_64, eX6_copy_66, eX6_copy_67, eX6_copy_69, eX6_copy_70, eX6_copy_72, eX6_copy_75, eX6_copy_78, eX6_copy_80, eX6_copy_82, eX6_copy_84, eX6_copy_87, eX6_copy_90, eX6_copy_92, eX6_copy_93, eX6_copy_95, eX6_copy_98, eX6_copy_99, eX6_copy_101, eX6_copy_104, eX6_copy_106, eX6_copy_108, eX6_copy_111, eX6_copy_113, r_X6_isSheet, h1, h, WpR_some, Option.toList_some, Option.toList_none, List.cons_append, List.nil_append, List.append_nil, clr_n, clr_i, clr_a, ni_add, ni_mul, ni_sub, ni_lt, ni_le, ni_eq, ni_div, nat_mod_eq, ni_rem, iMax_nn, iMin_nn, iMax_sub, Nat.zero_max, bI_0, bI_1, bI_n0, up2_s, up2_n, up2_k, va_up_self, va_up_ne, ni_l, lN_mul, lN_add, ln_mask, lN_i, ↓reduceIte, if_true, if_false, not_true_eq_false, not_false_eq_true, ite_self, Nat.add_zero, Nat.zero_add, ent_def]
/-- what copy finds; 0: nothing -/
def cpR (on : Nat → Bool) (ln sz : Nat → Nat) (s t : Nat) (i j c : Int32) : Int32 := if (on s && on t) = false then -11 else if ln s = ln t then (if (spn (sz s) i c && spn (sz t) j c) = true then nI 0 else -13) else -12
theorem c_copy (hG : GW G) (hS : CS m ml on ln sz it) (hs : s < 4) (ht : t < 4) : ∃ ml', res mX6_copy [.ref 2, .int (nI s), .int i, .int (nI t), .int j, .int c] (G, m, ml) = some (some (.int (if cpR on ln sz s t i j c = nI 0 then c else cpR on ln sz s t i j c)), (G, m, ml')) ∧ (cpR on ln sz s t i j c ≠ nI 0 → ml' = ml) ∧ (cpR on ln sz s t i j c = nI 0 → ∃ p q n, i = nI p ∧ j = nI q ∧ c = nI n ∧ p + n ≤ 24 ∧ q + n ≤ 24 ∧ CS m ml' on ln sz (cpI it s p t q n) ∧ (∀ b, 144 ≤ b → ml' b = ml b)) := by
  have h1 := isN_t hs (by decide)
  have h2 := isN_t ht (by decide)
  have e1 := r_X2_hold (ml := ml) hG hS hs
  have e2 := r_X2_hold (ml := ml) hG hS ht
  obtain ⟨⟨g0, g1, g2, g3, g4, g5, g6, -⟩, -, -, ⟨r01, r02, r00⟩, -⟩ := hG
  obtain ⟨r1, r2, r3, r4, r5⟩ := r00 s hs
  obtain ⟨r1', r2', r3', r4', r5'⟩ := r00 t ht
  have start : ∀ Q, Wp mX6_copy 0 ([some (.ref 2), some (.int (nI s)), some (.int i), some (.int (nI t)), some (.int j), some (.int c), none, none]) [] (G, m, ml) Q → Wp mX6_copy 0 ([some (.ref 2), some (.int (nI s)), some (.int i), some (.int (nI t)), some (.int j), some (.int c), none, none]) [] (G, m, ml) Q := fun _ h => h
  cases ho : on s
  · rw [ho] at e1
    have hc : cpR on ln sz s t i j c = -11 := by unfold cpR; rw [ho]; rfl
    refine ⟨ml, ?_, fun _ => rfl, fun h => by rw [hc] at h; exact absurd h (by decide)⟩
    rw [hc, if_neg (by decide)]
    apply res_of
    show Wp mX6_copy 0 [some (.ref 2), some (.int (nI s)), some (.int i), some (.int (nI t)), some (.int j), some (.int c), none, none] [] (G, m, ml) _
    simp (maxSteps := 1000000) (decide := true) (disch := (first | assumption | omega | exact Nat.div_mul_le_self _ _ | exact ni_nz (by omega) (by omega) | exact rfl | exact retOk_bI _ | exact retOk_0 | exact retOk_1)) only [eX6_copy_0, eX6_copy_1, eX6_copy_4, eX6_copy_7, eX6_copy_8, eX6_copy_11, eX6_copy_14, eX6_copy_15, eX6_copy_16, eX6_copy_17, eX6_copy_20, eX6_copy_21, eX6_copy_22, eX6_copy_24, eX6_copy_25, eX6_copy_28, eX6_copy_29, eX6_copy_30, eX6_copy_32, eX6_copy_34, eX6_copy_37, eX6_copy_40, eX6_copy_42, eX6_copy_45, eX6_copy_48, eX6_copy_50, eX6_copy_51, eX6_copy_53, eX6_copy_56, eX6_copy_58, eX6_copy_61, eX6_copy_64, eX6_copy_66, eX6_copy_67, eX6_copy_69, eX6_copy_70, eX6_copy_72, eX6_copy_75, eX6_copy_78, eX6_copy_80, eX6_copy_82, eX6_copy_84, eX6_copy_87, eX6_copy_90, eX6_copy_92, eX6_copy_93, eX6_copy_95, eX6_copy_98, eX6_copy_99, eX6_copy_101, eX6_copy_104, eX6_copy_106, eX6_copy_108, eX6_copy_111, eX6_copy_113, r_X6_isSheet, h1, h2, g6, r1, r1', e1, Bool.not_false, WpR_some, Option.toList_some, Option.toList_none, List.cons_append, List.nil_append, List.append_nil, clr_n, clr_i, clr_a, ni_add, ni_mul, ni_sub, ni_lt, ni_le, ni_eq, ni_div, nat_mod_eq, ni_rem, iMax_nn, iMin_nn, iMax_sub, Nat.zero_max, bI_0, bI_1, bI_n0, up2_s, up2_n, up2_k, va_up_self, va_up_ne, ni_l, lN_mul, lN_add, ln_mask, lN_i, ↓reduceIte, if_true, if_false, not_true_eq_false, not_false_eq_true, ite_self, Nat.add_zero, Nat.zero_add, ent_def]
  · rw [ho] at e1
    cases ho' : on t
    · rw [ho'] at e2
      have hc : cpR on ln sz s t i j c = -11 := by unfold cpR; rw [ho, ho']; rfl
      refine ⟨ml, ?_, fun _ => rfl, fun h => by rw [hc] at h; exact absurd h (by decide)⟩
      rw [hc, if_neg (by decide)]
      apply res_of
      show Wp mX6_copy 0 [some (.ref 2), some (.int (nI s)), some (.int i), some (.int (nI t)), some (.int j), some (.int c), none, none] [] (G, m, ml) _
      simp (maxSteps := 1000000) (decide := true) (disch := (first | assumption | omega | exact Nat.div_mul_le_self _ _ | exact ni_nz (by omega) (by omega) | exact rfl | exact retOk_bI _ | exact retOk_0 | exact retOk_1)) only [eX6_copy_0, eX6_copy_1, eX6_copy_4, eX6_copy_7, eX6_copy_8, eX6_copy_11, eX6_copy_14, eX6_copy_15, eX6_copy_16, eX6_copy_17, eX6_copy_20, eX6_copy_21, eX6_copy_22, eX6_copy_24, eX6_copy_25, eX6_copy_28, eX6_copy_29, eX6_copy_30, eX6_copy_32, eX6_copy_34, eX6_copy_37, eX6_copy_40, eX6_copy_42, eX6_copy_45, eX6_copy_48, eX6_copy_50, eX6_copy_51, eX6_copy_53, eX6_copy_56, eX6_copy_58, eX6_copy_61, eX6_copy_64, eX6_copy_66, eX6_copy_67, eX6_copy_69, eX6_copy_70, eX6_copy_72, eX6_copy_75, eX6_copy_78, eX6_copy_80, eX6_copy_82, eX6_copy_84, eX6_copy_87, eX6_copy_90, eX6_copy_92, eX6_copy_93, eX6_copy_95, eX6_copy_98, eX6_copy_99, eX6_copy_101, eX6_copy_104, eX6_copy_106, eX6_copy_108, eX6_copy_111, eX6_copy_113, r_X6_isSheet, h1, h2, g6, r1, r1', e1, e2, Bool.not_false, Bool.not_true, WpR_some, Option.toList_some, Option.toList_none, List.cons_append, List.nil_append, List.append_nil, clr_n, clr_i, clr_a, ni_add, ni_mul, ni_sub, ni_lt, ni_le, ni_eq, ni_div, nat_mod_eq, ni_rem, iMax_nn, iMin_nn, iMax_sub, Nat.zero_max, bI_0, bI_1, bI_n0, up2_s, up2_n, up2_k, va_up_self, va_up_ne, ni_l, lN_mul, lN_add, ln_mask, lN_i, ↓reduceIte, if_true, if_false, not_true_eq_false, not_false_eq_true, ite_self, Nat.add_zero, Nat.zero_add, ent_def]
    · rw [ho'] at e2
      obtain ⟨x0, x1, x2, x3⟩ := (hS s hs).1 ho
      obtain ⟨y0, y1, y2, y3⟩ := (hS t ht).1 ho'
      have e3 := r_X2_spans (ml := ml) (i := i) (w := c) r2 x1 x3
      have e4 := r_X2_spans (ml := ml) (i := j) (w := c) r2' y1 y3
      have hcc : cpR on ln sz s t i j c = if ln s = ln t then (if (spn (sz s) i c && spn (sz t) j c) = true then nI 0 else -13) else -12 := by unfold cpR; rw [ho, ho']; rfl
      by_cases hl : ln s = ln t
      · rw [if_pos hl] at hcc
        rw [← hl] at y0
        cases hp : spn (sz s) i c
        · have hc : cpR on ln sz s t i j c = -13 := by rw [hcc, hp]; rfl
          rw [hp] at e3
          refine ⟨ml, ?_, fun _ => rfl, fun h => by rw [hc] at h; exact absurd h (by decide)⟩
          rw [hc, if_neg (by decide)]
          apply res_of
          show Wp mX6_copy 0 [some (.ref 2), some (.int (nI s)), some (.int i), some (.int (nI t)), some (.int j), some (.int c), none, none] [] (G, m, ml) _
          simp (maxSteps := 1000000) (decide := true) (disch := (first | assumption | omega | exact Nat.div_mul_le_self _ _ | exact ni_nz (by omega) (by omega) | exact rfl | exact retOk_bI _ | exact retOk_0 | exact retOk_1)) only [eX6_copy_0, eX6_copy_1, eX6_copy_4, eX6_copy_7, eX6_copy_8, eX6_copy_11, eX6_copy_14, eX6_copy_15, eX6_copy_16, eX6_copy_17, eX6_copy_20, eX6_copy_21, eX6_copy_22, eX6_copy_24, eX6_copy_25, eX6_copy_28, eX6_copy_29, eX6_copy_30, eX6_copy_32, eX6_copy_34, eX6_copy_37, eX6_copy_40, eX6_copy_42, eX6_copy_45, eX6_copy_48, eX6_copy_50, eX6_copy_51, eX6_copy_53, eX6_copy_56, eX6_copy_58, eX6_copy_61, eX6_copy_64, eX6_copy_66, eX6_copy_67, eX6_copy_69, eX6_copy_70, eX6_copy_72, eX6_copy_75, eX6_copy_78, eX6_copy_80, eX6_copy_82, eX6_copy_84, eX6_copy_87, eX6_copy_90, eX6_copy_92, eX6_copy_93, eX6_copy_95, eX6_copy_98, eX6_copy_99, eX6_copy_101, eX6_copy_104, eX6_copy_106, eX6_copy_108, eX6_copy_111, eX6_copy_113, r_X6_isSheet, h1, h2, g6, r1, r1', e1, e2, e3, x0, y0, Bool.not_false, Bool.not_true, WpR_some, Option.toList_some, Option.toList_none, List.cons_append, List.nil_append, List.append_nil, clr_n, clr_i, clr_a, ni_add, ni_mul, ni_sub, ni_lt, ni_le, ni_eq, ni_div, nat_mod_eq, ni_rem, iMax_nn, iMin_nn, iMax_sub, Nat.zero_max, bI_0, bI_1, bI_n0, up2_s, up2_n, up2_k, va_up_self, va_up_ne, ni_l, lN_mul, lN_add, ln_mask, lN_i, ↓reduceIte, if_true, if_false, not_true_eq_false, not_false_eq_true, ite_self, Nat.add_zero, Nat.zero_add, ent_def]
        · rw [hp] at e3
          cases hq : spn (sz t) j c
          · have hc : cpR on ln sz s t i j c = -13 := by rw [hcc, hp, hq]; rfl
            rw [hq] at e4
            refine ⟨ml, ?_, fun _ => rfl, fun h => by rw [hc] at h; exact absurd h (by decide)⟩
            rw [hc, if_neg (by decide)]
            apply res_of
            show Wp mX6_copy 0 [some (.ref 2), some (.int (nI s)), some (.int i), some (.int (nI t)), some (.int j), some (.int c), none, none] [] (G, m, ml) _
            simp (maxSteps := 1000000) (decide := true) (disch := (first | assumption | omega | exact Nat.div_mul_le_self _ _ | exact ni_nz (by omega) (by omega) | exact rfl | exact retOk_bI _ | exact retOk_0 | exact retOk_1)) only [eX6_copy_0, eX6_copy_1, eX6_copy_4, eX6_copy_7, eX6_copy_8, eX6_copy_11, eX6_copy_14, eX6_copy_15, eX6_copy_16, eX6_copy_17, eX6_copy_20, eX6_copy_21, eX6_copy_22, eX6_copy_24, eX6_copy_25, eX6_copy_28, eX6_copy_29, eX6_copy_30, eX6_copy_32, eX6_copy_34, eX6_copy_37, eX6_copy_40, eX6_copy_42, eX6_copy_45, eX6_copy_48, eX6_copy_50, eX6_copy_51, eX6_copy_53, eX6_copy_56, eX6_copy_58, eX6_copy_61, eX6_copy_64, eX6_copy_66, eX6_copy_67, eX6_copy_69, eX6_copy_70, eX6_copy_72, eX6_copy_75, eX6_copy_78, eX6_copy_80, eX6_copy_82, eX6_copy_84, eX6_copy_87, eX6_copy_90, eX6_copy_92, eX6_copy_93, eX6_copy_95, eX6_copy_98, eX6_copy_99, eX6_copy_101, eX6_copy_104, eX6_copy_106, eX6_copy_108, eX6_copy_111, eX6_copy_113, r_X6_isSheet, h1, h2, g6, r1, r1', e1, e2, e3, e4, x0, y0, Bool.not_false, Bool.not_true, WpR_some, Option.toList_some, Option.toList_none, List.cons_append, List.nil_append, List.append_nil, clr_n, clr_i, clr_a, ni_add, ni_mul, ni_sub, ni_lt, ni_le, ni_eq, ni_div, nat_mod_eq, ni_rem, iMax_nn, iMin_nn, iMax_sub, Nat.zero_max, bI_0, bI_1, bI_n0, up2_s, up2_n, up2_k, va_up_self, va_up_ne, ni_l, lN_mul, lN_add, ln_mask, lN_i, ↓reduceIte, if_true, if_false, not_true_eq_false, not_false_eq_true, ite_self, Nat.add_zero, Nat.zero_add, ent_def]
          · have hc : cpR on ln sz s t i j c = nI 0 := by rw [hcc, hp, hq]; rfl
            rw [hq] at e4
            have hcn : nI 0 ≤ c := by
              unfold spn at hp
              rw [Bool.and_eq_true, Bool.and_eq_true, decide_eq_true_eq, decide_eq_true_eq] at hp
              exact hp.1.2
            obtain ⟨n, rfl, hn⟩ := nn_of hcn
            have hn24 : n ≤ 24 := by
              unfold spn at hp
              rw [Bool.and_eq_true, Bool.and_eq_true, decide_eq_true_eq, decide_eq_true_eq, decide_eq_true_eq] at hp
              have a := hp.2
              have b := Int32.le_iff_toInt_le.mp hp.1.1
              rw [nI_toInt (by omega)] at b
              rw [nI_toInt (n := n) (by omega)] at a
              omega
            obtain ⟨p, rfl, hp2⟩ := spn_1 x3 hp (by omega)
            obtain ⟨q, rfl, hq2⟩ := spn_1 y3 hq (by omega)
            refine ⟨va_up ml (137 + 2 * t) (va_cpy (ml (137 + 2 * s)) (ml (137 + 2 * t)) p q n), ?_, fun h => absurd hc h, fun _ => ⟨p, q, n, rfl, rfl, rfl, by omega, by omega, ?_, ?_⟩⟩
            · rw [if_pos hc]
              apply res_of
              show Wp mX6_copy 0 [some (.ref 2), some (.int (nI s)), some (.int (nI p)), some (.int (nI t)), some (.int (nI q)), some (.int (nI n)), none, none] [] (G, m, ml) _
              simp (maxSteps := 1000000) (decide := true) (disch := (first | assumption | omega | exact Nat.div_mul_le_self _ _ | exact ni_nz (by omega) (by omega) | exact rfl | exact retOk_bI _ | exact retOk_0 | exact retOk_1)) only [eX6_copy_0, eX6_copy_1, eX6_copy_4, eX6_copy_7, eX6_copy_8, eX6_copy_11, eX6_copy_14, eX6_copy_15, eX6_copy_16, eX6_copy_17, eX6_copy_20, eX6_copy_21, eX6_copy_22, eX6_copy_24, eX6_copy_25, eX6_copy_28, eX6_copy_29, eX6_copy_30, eX6_copy_32, eX6_copy_34, eX6_copy_37, eX6_copy_40, eX6_copy_42, eX6_copy_45, eX6_copy_48, eX6_copy_50, eX6_copy_51, eX6_copy_53, eX6_copy_56, eX6_copy_58, eX6_copy_61, eX6_copy_64, eX6_copy_66, eX6_copy_67, eX6_copy_69, eX6_copy_70, eX6_copy_72, eX6_copy_75, eX6_copy_78, eX6_copy_80, eX6_copy_82, eX6_copy_84, eX6_copy_87, eX6_copy_90, eX6_copy_92, eX6_copy_93, eX6_copy_95, eX6_copy_98, eX6_copy_99, eX6_copy_101, eX6_copy_104, eX6_copy_106, eX6_copy_108, eX6_copy_111, eX6_copy_113, r_X6_isSheet, h1, h2, g6, r1, r1', r3, r3', e1, e2, e3, e4, x0, y0, Bool.not_false, Bool.not_true, WpR_some, Option.toList_some, Option.toList_none, List.cons_append, List.nil_append, List.append_nil, clr_n, clr_i, clr_a, ni_add, ni_mul, ni_sub, ni_lt, ni_le, ni_eq, ni_div, nat_mod_eq, ni_rem, iMax_nn, iMin_nn, iMax_sub, Nat.zero_max, bI_0, bI_1, bI_n0, up2_s, up2_n, up2_k, va_up_self, va_up_ne, ni_l, lN_mul, lN_add, ln_mask, lN_i, ↓reduceIte, if_true, if_false, not_true_eq_false, not_false_eq_true, ite_self, Nat.add_zero, Nat.zero_add, ent_def]
            · intro b hb
              refine ⟨(hS b hb).1, (hS b hb).2.1, fun d hd => ?_⟩
              unfold cpI
              by_cases hbt : b = t
              · subst hbt
                rw [va_up_self]
                unfold va_cpy
                by_cases hw : q ≤ d ∧ d < q + n
                · rw [if_pos hw, if_pos ⟨rfl, hw⟩]
                  exact (hS s hs).2.2 _ (by omega)
                · rw [if_neg hw, if_neg (fun x => hw x.2)]
                  exact (hS b hb).2.2 d hd
              · rw [vup_ne (by omega), if_neg (fun x => hbt x.1)]
                exact (hS b hb).2.2 d hd
            · intro b hb; rw [vup_ne (by omega)]
      · rw [if_neg hl] at hcc
        refine ⟨ml, ?_, fun _ => rfl, fun h => by rw [hcc] at h; exact absurd h (by decide)⟩
        rw [hcc, if_neg (by decide)]
        apply res_of
        show Wp mX6_copy 0 [some (.ref 2), some (.int (nI s)), some (.int i), some (.int (nI t)), some (.int j), some (.int c), none, none] [] (G, m, ml) _
        simp (maxSteps := 1000000) (decide := true) (disch := (first | assumption | omega | exact Nat.div_mul_le_self _ _ | exact ni_nz (by omega) (by omega) | exact rfl | exact retOk_bI _ | exact retOk_0 | exact retOk_1)) only [eX6_copy_0, eX6_copy_1, eX6_copy_4, eX6_copy_7, eX6_copy_8, eX6_copy_11, eX6_copy_14, eX6_copy_15, eX6_copy_16, eX6_copy_17, eX6_copy_20, eX6_copy_21, eX6_copy_22, eX6_copy_24, eX6_copy_25, eX6_copy_28, eX6_copy_29, eX6_copy_30, eX6_copy_32, eX6_copy_34, eX6_copy_37, eX6_copy_40, eX6_copy_42, eX6_copy_45, eX6_copy_48, eX6_copy_50, eX6_copy_51, eX6_copy_53, eX6_copy_56, eX6_copy_58, eX6_copy_61, eX6_copy_64, eX6_copy_66, eX6_copy_67, eX6_copy_69, eX6_copy_70, eX6_copy_72, eX6_copy_75, eX6_copy_78, eX6_copy_80, eX6_copy_82, eX6_copy_84, eX6_copy_87, eX6_copy_90, eX6_copy_92, eX6_copy_93, eX6_copy_95, eX6_copy_98, eX6_copy_99, eX6_copy_101, eX6_copy_104, eX6_copy_106, eX6_copy_108, eX6_copy_111, eX6_copy_113, r_X6_isSheet, h1, h2, g6, r1, r1', e1, e2, x0, y0, hl, Bool.not_false, Bool.not_true, WpR_some, Option.toList_some, Option.toList_none, List.cons_append, List.nil_append, List.append_nil, clr_n, clr_i, clr_a, ni_add, ni_mul, ni_sub, ni_lt, ni_le, ni_eq, ni_div, nat_mod_eq, ni_rem, iMax_nn, iMin_nn, iMax_sub, Nat.zero_max, bI_0, bI_1, bI_n0, up2_s, up2_n, up2_k, va_up_self, va_up_ne, ni_l, lN_mul, lN_add, ln_mask, lN_i, ↓reduceIte, if_true, if_false, not_true_eq_false, not_false_eq_true, ite_self, Nat.add_zero, Nat.zero_add, ent_def]
theorem x_copy_bad (hG : GM G) (h : (isN u 4 && isN v 4) = false) : res mX7_copy [.ref 158, .int u, .int i, .int v, .int j, .int c] (G, m, ml) = some (some (.int (-1)), (G, m, ml)) := by
  apply res_of
  show Wp mX7_copy 0 [some (.ref 158), some (.int u), some (.int i), some (.int v), some (.int j), some (.int c), none] [] (G, m, ml) _
  cases h1 : isN u 4
  · simp (maxSteps := 1000000) (decide := true) (disch := (first | assumption | omega | exact Nat.div_mul_le_self _ _ | exact ni_nz (by omega) (by omega) | exact rfl | exact retOk_bI _ | exact retOk_0 | exact retOk_1)) only [eX7_copy_0, eX7_copy_1, eX7_copy_4, eX7_copy_7, eX7_copy_8, eX7_copy_11, eX7_copy_14, eX7_copy_15, eX7_copy_16, eX7_copy_17, eX7_copy_20, eX7_copy_21, eX7_copy_22, eX7_copy_25, eX7_copy_26, eX7_copy_29, eX7_copy_30, eX7_copy_31, eX7_copy_34, eX7_copy_36, eX7_copy_37, eX7_copy_38, eX7_copy_41, eX7_copy_42, eX7_copy_43, eX7_copy_44, eX7_copy_47, eX7_copy_48, eX7_copy_49, eX7_copy_52, eX7_copy_54, eX7_copy_55, eX7_copy_56, eX7_copy_57, eX7_copy_58, eX7_copy_60, eX7_copy_63, eX7_copy_66, eX7_copy_67, eX7_copy_68, eX7_copy_70, eX7_copy_72, eX7_copy_75, eX7_copy_78, eX7_copy_80, eX7_copy_81, eX7_copy_82, eX7_copy_86, eX7_copy_88, eX7_copy_91, eX7_copy_92, eX7_copy_95, eX7_copy_97, eX7_copy_98, eX7_copy_101, eX7_copy_103, eX7_copy_104, eX7_copy_105, eX7_copy_106, eX7_copy_107, eX7_copy_109, eX7_copy_110, eX7_copy_111, eX7_copy_112, eX7_copy_115, eX7_copy_118, eX7_copy_119, eX7_copy_123, eX7_copy_125, eX7_copy_128, eX7_copy_129, eX7_copy_132, eX7_copy_134, eX7_copy_135, eX7_copy_136, eX7_copy_138, eX7_copy_139, eX7_copy_141, eX7_copy_142, eX7_copy_143, eX7_copy_146, eX7_copy_148, eX7_copy_149, eX7_copy_150, eX7_copy_153, eX7_copy_156, eX7_copy_158, r_X7_isSheet, h1, WpR_some, Option.toList_some, Option.toList_none, List.cons_append, List.nil_append, List.append_nil, clr_n, clr_i, clr_a, ni_add, ni_mul, ni_sub, ni_lt, ni_le, ni_eq, ni_div, nat_mod_eq, ni_rem, iMax_nn, iMin_nn, iMax_sub, Nat.zero_max, bI_0, bI_1, bI_n0, up2_s, up2_n, up2_k, va_up_self, va_up_ne, ni_l, lN_mul, lN_add, ln_mask, lN_i, ↓reduceIte, if_true, if_false, not_true_eq_false, not_false_eq_true, ite_self, Nat.add_zero, Nat.zero_add, ent_def]
  · rw [h1, Bool.true_and] at h
    simp (maxSteps := 1000000) (decide := true) (disch := (first | assumption | omega | exact Nat.div_mul_le_self _ _ | exact ni_nz (by omega) (by omega) | exact rfl | exact retOk_bI _ | exact retOk_0 | exact retOk_1)) only [eX7_copy_0, eX7_copy_1, eX7_copy_4, eX7_copy_7, eX7_copy_8, eX7_copy_11, eX7_copy_14, eX7_copy_15, eX7_copy_16, eX7_copy_17, eX7_copy_20, eX7_copy_21, eX7_copy_22, eX7_copy_25, eX7_copy_26, eX7_copy_29, eX7_copy_30, eX7_copy_31, eX7_copy_34, eX7_copy_36, eX7_copy_37, eX7_copy_38, eX7_copy_41, eX7_copy_42, eX7_copy_43, eX7_copy_44, eX7_copy_47, eX7_copy_48, eX7_copy_49, eX7_copy_52, eX7_copy_54, eX7_copy_55, eX7_copy_56, eX7_copy_57, eX7_copy_58, eX7_copy_60, eX7_copy_63, eX7_copy_66, eX7_copy_67, eX7_copy_68, eX7_copy_70, eX7_copy_72, eX7_copy_75, eX7_copy_78, eX7_copy_80, eX7_copy_81, eX7_copy_82, eX7_copy_86, eX7_copy_88, eX7_copy_91, eX7_copy_92, eX7_copy_95, eX7_copy_97, eX7_copy_98, eX7_copy_101, eX7_copy_103, eX7_copy_104, eX7_copy_105, eX7_copy_106, eX7_copy_107, eX7_copy_109, eX7_copy_110, eX7_copy_111, eX7_copy_112, eX7_copy_115, eX7_copy_118, eX7_copy_119, eX7_copy_123, eX7_copy_125, eX7_copy_128, eX7_copy_129, eX7_copy_132, eX7_copy_134, eX7_copy_135, eX7_copy_136, eX7_copy_138, eX7_copy_139, eX7_copy_141, eX7_copy_142, eX7_copy_143, eX7_copy_146, eX7_copy_148, eX7_copy_149, eX7_copy_150, eX7_copy_153, eX7_copy_156, eX7_copy_158, r_X7_isSheet, h1, h, WpR_some, Option.toList_some, Option.toList_none, List.cons_append, List.nil_append, List.append_nil, clr_n, clr_i, clr_a, ni_add, ni_mul, ni_sub, ni_lt, ni_le, ni_eq, ni_div, nat_mod_eq, ni_rem, iMax_nn, iMin_nn, iMax_sub, Nat.zero_max, bI_0, bI_1, bI_n0, up2_s, up2_n, up2_k, va_up_self, va_up_ne, ni_l, lN_mul, lN_add, ln_mask, lN_i, ↓reduceIte, if_true, if_false, not_true_eq_false, not_false_eq_true, ite_self, Nat.add_zero, Nat.zero_add, ent_def]
theorem x_copy_no (hG : GM G) (hS : RS m ml on ln sz it) (hs : s < 4) (ht : t < 4) (hne : cpR on ln sz s t i j c ≠ nI 0) : res mX7_copy [.ref 158, .int (nI s), .int i, .int (nI t), .int j, .int c] (G, m, ml) = some (some (.int (cpR on ln sz s t i j c)), (G, m, ml)) := by
  have h1 := isN_t hs (by decide)
  have h2 := isN_t ht (by decide)
  have e3 := fun ho : on s = true => r_X7_isSpan (ml := ml) (i := i) (w := c) hG hs ((hS s hs).1 ho).2.1 ((hS s hs).1 ho).2.2.2
  have e4 := fun ho : on t = true => r_X7_isSpan (ml := ml) (i := j) (w := c) hG ht ((hS t ht).1 ho).2.1 ((hS t ht).1 ho).2.2.2
  obtain ⟨⟨g0, g1, g2, g3, g4, g5, g6, -⟩, ⟨a0, a1, a2, a3, a4, a5, -⟩, ⟨l0, l1, l2, l3, l4, l5, -⟩⟩ := hG
  apply res_of
  show Wp mX7_copy 0 [some (.ref 158), some (.int (nI s)), some (.int i), some (.int (nI t)), some (.int j), some (.int c), none] [] (G, m, ml) _
  cases ho : on s
  · have hc : cpR on ln sz s t i j c = -11 := by unfold cpR; rw [ho]; rfl
    have x0 := (hS s hs).2.1 ho
    rw [hc]
    simp (maxSteps := 1000000) (decide := true) (disch := (first | assumption | omega | exact Nat.div_mul_le_self _ _ | exact ni_nz (by omega) (by omega) | exact rfl | exact retOk_bI _ | exact retOk_0 | exact retOk_1)) only [eX7_copy_0, eX7_copy_1, eX7_copy_4, eX7_copy_7, eX7_copy_8, eX7_copy_11, eX7_copy_14, eX7_copy_15, eX7_copy_16, eX7_copy_17, eX7_copy_20, eX7_copy_21, eX7_copy_22, eX7_copy_25, eX7_copy_26, eX7_copy_29, eX7_copy_30, eX7_copy_31, eX7_copy_34, eX7_copy_36, eX7_copy_37, eX7_copy_38, eX7_copy_41, eX7_copy_42, eX7_copy_43, eX7_copy_44, eX7_copy_47, eX7_copy_48, eX7_copy_49, eX7_copy_52, eX7_copy_54, eX7_copy_55, eX7_copy_56, eX7_copy_57, eX7_copy_58, eX7_copy_60, eX7_copy_63, eX7_copy_66, eX7_copy_67, eX7_copy_68, eX7_copy_70, eX7_copy_72, eX7_copy_75, eX7_copy_78, eX7_copy_80, eX7_copy_81, eX7_copy_82, eX7_copy_86, eX7_copy_88, eX7_copy_91, eX7_copy_92, eX7_copy_95, eX7_copy_97, eX7_copy_98, eX7_copy_101, eX7_copy_103, eX7_copy_104, eX7_copy_105, eX7_copy_106, eX7_copy_107, eX7_copy_109, eX7_copy_110, eX7_copy_111, eX7_copy_112, eX7_copy_115, eX7_copy_118, eX7_copy_119, eX7_copy_123, eX7_copy_125, eX7_copy_128, eX7_copy_129, eX7_copy_132, eX7_copy_134, eX7_copy_135, eX7_copy_136, eX7_copy_138, eX7_copy_139, eX7_copy_141, eX7_copy_142, eX7_copy_143, eX7_copy_146, eX7_copy_148, eX7_copy_149, eX7_copy_150, eX7_copy_153, eX7_copy_156, eX7_copy_158, r_X7_isSheet, h1, h2, g4, x0, WpR_some, Option.toList_some, Option.toList_none, List.cons_append, List.nil_append, List.append_nil, clr_n, clr_i, clr_a, ni_add, ni_mul, ni_sub, ni_lt, ni_le, ni_eq, ni_div, nat_mod_eq, ni_rem, iMax_nn, iMin_nn, iMax_sub, Nat.zero_max, bI_0, bI_1, bI_n0, up2_s, up2_n, up2_k, va_up_self, va_up_ne, ni_l, lN_mul, lN_add, ln_mask, lN_i, ↓reduceIte, if_true, if_false, not_true_eq_false, not_false_eq_true, ite_self, Nat.add_zero, Nat.zero_add, ent_def]
  · obtain ⟨x0, x1, x2, x3⟩ := (hS s hs).1 ho
    cases ho' : on t
    · have hc : cpR on ln sz s t i j c = -11 := by unfold cpR; rw [ho, ho']; rfl
      have y0 := (hS t ht).2.1 ho'
      rw [hc]
      simp (maxSteps := 1000000) (decide := true) (disch := (first | assumption | omega | exact Nat.div_mul_le_self _ _ | exact ni_nz (by omega) (by omega) | exact rfl | exact retOk_bI _ | exact retOk_0 | exact retOk_1)) only [eX7_copy_0, eX7_copy_1, eX7_copy_4, eX7_copy_7, eX7_copy_8, eX7_copy_11, eX7_copy_14, eX7_copy_15, eX7_copy_16, eX7_copy_17, eX7_copy_20, eX7_copy_21, eX7_copy_22, eX7_copy_25, eX7_copy_26, eX7_copy_29, eX7_copy_30, eX7_copy_31, eX7_copy_34, eX7_copy_36, eX7_copy_37, eX7_copy_38, eX7_copy_41, eX7_copy_42, eX7_copy_43, eX7_copy_44, eX7_copy_47, eX7_copy_48, eX7_copy_49, eX7_copy_52, eX7_copy_54, eX7_copy_55, eX7_copy_56, eX7_copy_57, eX7_copy_58, eX7_copy_60, eX7_copy_63, eX7_copy_66, eX7_copy_67, eX7_copy_68, eX7_copy_70, eX7_copy_72, eX7_copy_75, eX7_copy_78, eX7_copy_80, eX7_copy_81, eX7_copy_82, eX7_copy_86, eX7_copy_88, eX7_copy_91, eX7_copy_92, eX7_copy_95, eX7_copy_97, eX7_copy_98, eX7_copy_101, eX7_copy_103, eX7_copy_104, eX7_copy_105, eX7_copy_106, eX7_copy_107, eX7_copy_109, eX7_copy_110, eX7_copy_111, eX7_copy_112, eX7_copy_115, eX7_copy_118, eX7_copy_119, eX7_copy_123, eX7_copy_125, eX7_copy_128, eX7_copy_129, eX7_copy_132, eX7_copy_134, eX7_copy_135, eX7_copy_136, eX7_copy_138, eX7_copy_139, eX7_copy_141, eX7_copy_142, eX7_copy_143, eX7_copy_146, eX7_copy_148, eX7_copy_149, eX7_copy_150, eX7_copy_153, eX7_copy_156, eX7_copy_158, r_X7_isSheet, h1, h2, g4, x1, y0, Nat.not_lt_zero, WpR_some, Option.toList_some, Option.toList_none, List.cons_append, List.nil_append, List.append_nil, clr_n, clr_i, clr_a, ni_add, ni_mul, ni_sub, ni_lt, ni_le, ni_eq, ni_div, nat_mod_eq, ni_rem, iMax_nn, iMin_nn, iMax_sub, Nat.zero_max, bI_0, bI_1, bI_n0, up2_s, up2_n, up2_k, va_up_self, va_up_ne, ni_l, lN_mul, lN_add, ln_mask, lN_i, ↓reduceIte, if_true, if_false, not_true_eq_false, not_false_eq_true, ite_self, Nat.add_zero, Nat.zero_add, ent_def]
    · obtain ⟨y0, y1, y2, y3⟩ := (hS t ht).1 ho'
      have e3 := e3 ho
      have e4 := e4 ho'
      have hcc : cpR on ln sz s t i j c = if ln s = ln t then (if (spn (sz s) i c && spn (sz t) j c) = true then nI 0 else -13) else -12 := by unfold cpR; rw [ho, ho']; rfl
      by_cases hl : ln s = ln t
      · rw [if_pos hl] at hcc
        rw [← hl] at y0
        cases hp : spn (sz s) i c
        · have hc : cpR on ln sz s t i j c = -13 := by rw [hcc, hp]; rfl
          rw [hp] at e3
          rw [hc]
          simp (maxSteps := 1000000) (decide := true) (disch := (first | assumption | omega | exact Nat.div_mul_le_self _ _ | exact ni_nz (by omega) (by omega) | exact rfl | exact retOk_bI _ | exact retOk_0 | exact retOk_1)) only [eX7_copy_0, eX7_copy_1, eX7_copy_4, eX7_copy_7, eX7_copy_8, eX7_copy_11, eX7_copy_14, eX7_copy_15, eX7_copy_16, eX7_copy_17, eX7_copy_20, eX7_copy_21, eX7_copy_22, eX7_copy_25, eX7_copy_26, eX7_copy_29, eX7_copy_30, eX7_copy_31, eX7_copy_34, eX7_copy_36, eX7_copy_37, eX7_copy_38, eX7_copy_41, eX7_copy_42, eX7_copy_43, eX7_copy_44, eX7_copy_47, eX7_copy_48, eX7_copy_49, eX7_copy_52, eX7_copy_54, eX7_copy_55, eX7_copy_56, eX7_copy_57, eX7_copy_58, eX7_copy_60, eX7_copy_63, eX7_copy_66, eX7_copy_67, eX7_copy_68, eX7_copy_70, eX7_copy_72, eX7_copy_75, eX7_copy_78, eX7_copy_80, eX7_copy_81, eX7_copy_82, eX7_copy_86, eX7_copy_88, eX7_copy_91, eX7_copy_92, eX7_copy_95, eX7_copy_97, eX7_copy_98, eX7_copy_101, eX7_copy_103, eX7_copy_104, eX7_copy_105, eX7_copy_106, eX7_copy_107, eX7_copy_109, eX7_copy_110, eX7_copy_111, eX7_copy_112, eX7_copy_115, eX7_copy_118, eX7_copy_119, eX7_copy_123, eX7_copy_125, eX7_copy_128, eX7_copy_129, eX7_copy_132, eX7_copy_134, eX7_copy_135, eX7_copy_136, eX7_copy_138, eX7_copy_139, eX7_copy_141, eX7_copy_142, eX7_copy_143, eX7_copy_146, eX7_copy_148, eX7_copy_149, eX7_copy_150, eX7_copy_153, eX7_copy_156, eX7_copy_158, r_X7_isSheet, h1, h2, g3, g4, x0, x1, y0, y1, e3, Nat.not_lt_zero, Nat.zero_le, WpR_some, Option.toList_some, Option.toList_none, List.cons_append, List.nil_append, List.append_nil, clr_n, clr_i, clr_a, ni_add, ni_mul, ni_sub, ni_lt, ni_le, ni_eq, ni_div, nat_mod_eq, ni_rem, iMax_nn, iMin_nn, iMax_sub, Nat.zero_max, bI_0, bI_1, bI_n0, up2_s, up2_n, up2_k, va_up_self, va_up_ne, ni_l, lN_mul, lN_add, ln_mask, lN_i, ↓reduceIte, if_true, if_false, not_true_eq_false, not_false_eq_true, ite_self, Nat.add_zero, Nat.zero_add, ent_def]
        · rw [hp] at e3
          cases hq : spn (sz t) j c
          · have hc : cpR on ln sz s t i j c = -13 := by rw [hcc, hp, hq]; rfl
            rw [hq] at e4
            rw [hc]
            simp (maxSteps := 1000000) (decide := true) (disch := (first | assumption | omega | exact Nat.div_mul_le_self _ _ | exact ni_nz (by omega) (by omega) | exact rfl | exact retOk_bI _ | exact retOk_0 | exact retOk_1)) only [eX7_copy_0, eX7_copy_1, eX7_copy_4, eX7_copy_7, eX7_copy_8, eX7_copy_11, eX7_copy_14, eX7_copy_15, eX7_copy_16, eX7_copy_17, eX7_copy_20, eX7_copy_21, eX7_copy_22, eX7_copy_25, eX7_copy_26, eX7_copy_29, eX7_copy_30, eX7_copy_31, eX7_copy_34, eX7_copy_36, eX7_copy_37, eX7_copy_38, eX7_copy_41, eX7_copy_42, eX7_copy_43, eX7_copy_44, eX7_copy_47, eX7_copy_48, eX7_copy_49, eX7_copy_52, eX7_copy_54, eX7_copy_55, eX7_copy_56, eX7_copy_57, eX7_copy_58, eX7_copy_60, eX7_copy_63, eX7_copy_66, eX7_copy_67, eX7_copy_68, eX7_copy_70, eX7_copy_72, eX7_copy_75, eX7_copy_78, eX7_copy_80, eX7_copy_81, eX7_copy_82, eX7_copy_86, eX7_copy_88, eX7_copy_91, eX7_copy_92, eX7_copy_95, eX7_copy_97, eX7_copy_98, eX7_copy_101, eX7_copy_103, eX7_copy_104, eX7_copy_105, eX7_copy_106, eX7_copy_107, eX7_copy_109, eX7_copy_110, eX7_copy_111, eX7_copy_112, eX7_copy_115, eX7_copy_118, eX7_copy_119, eX7_copy_123, eX7_copy_125, eX7_copy_128, eX7_copy_129, eX7_copy_132, eX7_copy_134, eX7_copy_135, eX7_copy_136, eX7_copy_138, eX7_copy_139, eX7_copy_141, eX7_copy_142, eX7_copy_143, eX7_copy_146, eX7_copy_148, eX7_copy_149, eX7_copy_150, eX7_copy_153, eX7_copy_156, eX7_copy_158, r_X7_isSheet, h1, h2, g3, g4, x0, x1, y0, y1, e3, e4, Nat.not_lt_zero, Nat.zero_le, WpR_some, Option.toList_some, Option.toList_none, List.cons_append, List.nil_append, List.append_nil, clr_n, clr_i, clr_a, ni_add, ni_mul, ni_sub, ni_lt, ni_le, ni_eq, ni_div, nat_mod_eq, ni_rem, iMax_nn, iMin_nn, iMax_sub, Nat.zero_max, bI_0, bI_1, bI_n0, up2_s, up2_n, up2_k, va_up_self, va_up_ne, ni_l, lN_mul, lN_add, ln_mask, lN_i, ↓reduceIte, if_true, if_false, not_true_eq_false, not_false_eq_true, ite_self, Nat.add_zero, Nat.zero_add, ent_def]
          · exact absurd (by rw [hcc, hp, hq]; rfl) hne
      · rw [if_neg hl] at hcc
        rw [hcc]
        simp (maxSteps := 1000000) (decide := true) (disch := (first | assumption | omega | exact Nat.div_mul_le_self _ _ | exact ni_nz (by omega) (by omega) | exact rfl | exact retOk_bI _ | exact retOk_0 | exact retOk_1)) only [eX7_copy_0, eX7_copy_1, eX7_copy_4, eX7_copy_7, eX7_copy_8, eX7_copy_11, eX7_copy_14, eX7_copy_15, eX7_copy_16, eX7_copy_17, eX7_copy_20, eX7_copy_21, eX7_copy_22, eX7_copy_25, eX7_copy_26, eX7_copy_29, eX7_copy_30, eX7_copy_31, eX7_copy_34, eX7_copy_36, eX7_copy_37, eX7_copy_38, eX7_copy_41, eX7_copy_42, eX7_copy_43, eX7_copy_44, eX7_copy_47, eX7_copy_48, eX7_copy_49, eX7_copy_52, eX7_copy_54, eX7_copy_55, eX7_copy_56, eX7_copy_57, eX7_copy_58, eX7_copy_60, eX7_copy_63, eX7_copy_66, eX7_copy_67, eX7_copy_68, eX7_copy_70, eX7_copy_72, eX7_copy_75, eX7_copy_78, eX7_copy_80, eX7_copy_81, eX7_copy_82, eX7_copy_86, eX7_copy_88, eX7_copy_91, eX7_copy_92, eX7_copy_95, eX7_copy_97, eX7_copy_98, eX7_copy_101, eX7_copy_103, eX7_copy_104, eX7_copy_105, eX7_copy_106, eX7_copy_107, eX7_copy_109, eX7_copy_110, eX7_copy_111, eX7_copy_112, eX7_copy_115, eX7_copy_118, eX7_copy_119, eX7_copy_123, eX7_copy_125, eX7_copy_128, eX7_copy_129, eX7_copy_132, eX7_copy_134, eX7_copy_135, eX7_copy_136, eX7_copy_138, eX7_copy_139, eX7_copy_141, eX7_copy_142, eX7_copy_143, eX7_copy_146, eX7_copy_148, eX7_copy_149, eX7_copy_150, eX7_copy_153, eX7_copy_156, eX7_copy_158, r_X7_isSheet, h1, h2, g3, g4, x0, x1, y0, y1, hl, Nat.not_lt_zero, Nat.zero_le, WpR_some, Option.toList_some, Option.toList_none, List.cons_append, List.nil_append, List.append_nil, clr_n, clr_i, clr_a, ni_add, ni_mul, ni_sub, ni_lt, ni_le, ni_eq, ni_div, nat_mod_eq, ni_rem, iMax_nn, iMin_nn, iMax_sub, Nat.zero_max, bI_0, bI_1, bI_n0, up2_s, up2_n, up2_k, va_up_self, va_up_ne, ni_l, lN_mul, lN_add, ln_mask, lN_i, ↓reduceIte, if_true, if_false, not_true_eq_false, not_false_eq_true, ite_self, Nat.add_zero, Nat.zero_add, ent_def]
theorem x_copy (hG : GM G) (hS : RS m ml on ln sz it) (hs : s < 4) (ht : t < 4) (hc : cpR on ln sz s t (nI p) (nI q) (nI n) = nI 0) (hp : p + n ≤ 24) (hq : q + n ≤ 24) : ∃ ml', res mX7_copy [.ref 158, .int (nI s), .int (nI p), .int (nI t), .int (nI q), .int (nI n)] (G, m, ml) = some (some (.int (nI n)), (G, m, ml')) ∧ RS m ml' on ln sz (cpI it s p t q n) ∧ (∀ b, b ≠ 163 → b ≠ 170 → ml' b = ml b) := by
  have h1 := isN_t hs (by decide)
  have h2 := isN_t ht (by decide)
  have e3 := fun ho : on s = true => r_X7_isSpan (ml := ml) (i := nI p) (w := nI n) hG hs ((hS s hs).1 ho).2.1 ((hS s hs).1 ho).2.2.2
  have e4 := fun ho : on t = true => r_X7_isSpan (ml := ml) (i := nI q) (w := nI n) hG ht ((hS t ht).1 ho).2.1 ((hS t ht).1 ho).2.2.2
  have ho : on s = true := by
    cases ho : on s
    · have hx : cpR on ln sz s t (nI p) (nI q) (nI n) = -11 := by unfold cpR; rw [ho]; rfl
      rw [hx] at hc; exact absurd hc (by decide)
    · rfl
  have ho' : on t = true := by
    cases ho' : on t
    · have hx : cpR on ln sz s t (nI p) (nI q) (nI n) = -11 := by unfold cpR; rw [ho, ho']; rfl
      rw [hx] at hc; exact absurd hc (by decide)
    · rfl
  have hcc : cpR on ln sz s t (nI p) (nI q) (nI n) = if ln s = ln t then (if (spn (sz s) (nI p) (nI n) && spn (sz t) (nI q) (nI n)) = true then nI 0 else -13) else -12 := by unfold cpR; rw [ho, ho']; rfl
  have hl : ln s = ln t := by
    by_cases hl : ln s = ln t
    · exact hl
    · rw [hcc, if_neg hl] at hc; exact absurd hc (by decide)
  have hpq : (spn (sz s) (nI p) (nI n) && spn (sz t) (nI q) (nI n)) = true := by
    rw [hcc, if_pos hl] at hc
    cases hz : (spn (sz s) (nI p) (nI n) && spn (sz t) (nI q) (nI n))
    · rw [hz] at hc; exact absurd hc (by decide)
    · rfl
  rw [Bool.and_eq_true] at hpq
  have e3 := e3 ho
  have e4 := e4 ho'
  rw [hpq.1] at e3
  rw [hpq.2] at e4
  obtain ⟨x0, x1, x2, x3⟩ := (hS s hs).1 ho
  obtain ⟨y0, y1, y2, y3⟩ := (hS t ht).1 ho'
  rw [← hl] at y0
  obtain ⟨⟨g0, g1, g2, g3, g4, g5, g6, g7, g8, g9, g10, g11, g12⟩, ⟨a0, a1, a2, a3, a4, a5, a6, a7, a8, a9, a10, a11⟩, ⟨l0, l1, l2, l3, l4, l5, l6, l7, l8, l9, l10, l11⟩⟩ := hG
  have key : Wp mX7_copy 0 (ent [.ref 158, .int (nI s), .int (nI p), .int (nI t), .int (nI q), .int (nI n)] 7) [] (G, m, ml) (fun r μ' => ∃ ml', r = some (.int (nI n)) ∧ μ' = (G, m, ml') ∧ RS m ml' on ln sz (cpI it s p t q n) ∧ (∀ b, b ≠ 163 → b ≠ 170 → ml' b = ml b)) := by
    show Wp mX7_copy 0 [some (.ref 158), some (.int (nI s)), some (.int (nI p)), some (.int (nI t)), some (.int (nI q)), some (.int (nI n)), none] [] (G, m, ml) _
    generalize hQ : (fun (r : Option Value) (μ' : Mm) => ∃ ml', r = some (.int (nI n)) ∧ μ' = (G, m, ml') ∧ RS m ml' on ln sz (cpI it s p t q n) ∧ (∀ b, b ≠ 163 → b ≠ 170 → ml' b = ml b)) = Q
    simp (maxSteps := 1000000) (decide := true) (disch := (first | assumption | omega | exact Nat.div_mul_le_self _ _ | exact ni_nz (by omega) (by omega) | exact rfl | exact retOk_bI _ | exact retOk_0 | exact retOk_1)) only [eX7_copy_0, eX7_copy_1, eX7_copy_4, eX7_copy_7, eX7_copy_8, eX7_copy_11, eX7_copy_14, eX7_copy_15, eX7_copy_16, eX7_copy_17, eX7_copy_20, eX7_copy_21, eX7_copy_22, eX7_copy_25, eX7_copy_26, eX7_copy_29, eX7_copy_30, eX7_copy_31, eX7_copy_34, eX7_copy_36, eX7_copy_37, eX7_copy_38, eX7_copy_41, eX7_copy_42, eX7_copy_43, eX7_copy_44, eX7_copy_47, eX7_copy_48, eX7_copy_49, eX7_copy_52, eX7_copy_54, eX7_copy_55, eX7_copy_56, eX7_copy_57, eX7_copy_58, eX7_copy_60, eX7_copy_63, eX7_copy_66, eX7_copy_67, eX7_copy_68, eX7_copy_70, eX7_copy_72, eX7_copy_75, eX7_copy_78, eX7_copy_80, eX7_copy_81, eX7_copy_82, eX7_copy_86, eX7_copy_88, eX7_copy_91, eX7_copy_92, eX7_copy_95, eX7_copy_97, eX7_copy_98, eX7_copy_101, eX7_copy_103, eX7_copy_104, eX7_copy_105, eX7_copy_106, eX7_copy_107, eX7_copy_109, eX7_copy_110, eX7_copy_111, eX7_copy_112, eX7_copy_115, eX7_copy_118, eX7_copy_119, eX7_copy_123, eX7_copy_125, eX7_copy_128, eX7_copy_129, eX7_copy_132, eX7_copy_134, eX7_copy_135, eX7_copy_136, eX7_copy_138, eX7_copy_139, eX7_copy_141, eX7_copy_142, eX7_copy_143, eX7_copy_146, eX7_copy_148, eX7_copy_149, eX7_copy_150, eX7_copy_153, eX7_copy_156, eX7_copy_158, r_X7_isSheet, h1, h2, g3, g4, x0, x1, y0, y1, e3, e4, Nat.not_lt_zero, Nat.zero_le, WpR_some, Option.toList_some, Option.toList_none, List.cons_append, List.nil_append, List.append_nil, clr_n, clr_i, clr_a, ni_add, ni_mul, ni_sub, ni_lt, ni_le, ni_eq, ni_div, nat_mod_eq, ni_rem, iMax_nn, iMin_nn, iMax_sub, Nat.zero_max, bI_0, bI_1, bI_n0, up2_s, up2_n, up2_k, va_up_self, va_up_ne, ni_l, lN_mul, lN_add, ln_mask, lN_i, ↓reduceIte, if_true, if_false, not_true_eq_false, not_false_eq_true, ite_self, Nat.add_zero, Nat.zero_add, ent_def]
    refine wp_for (X := Unit) (fun i _ => [some (.ref 158), some (.int (nI s)), some (.int (nI p)), some (.int (nI t)), some (.int (nI q)), some (.int (nI n)), some (.int (nI i))]) (fun i _ μ => ∃ ml', μ = (G, m, ml') ∧ (∀ d, d < i → ml' 170 d = it s (p + d)) ∧ (∀ b, b ≠ 170 → ml' b = ml b)) n ?_ ?_ 0 () _ (Nat.zero_le _) ⟨ml, rfl, fun j hj => absurd hj (Nat.not_lt_zero _), fun _ _ => rfl⟩
    · rintro i - μ hi ⟨ml1, rfl, c1, c2⟩ kk
      have hlt : ¬ n ≤ i := by omega
      have xi : ml1 163 (24 * s + p + i) = it s (p + i) := by rw [c2 163 (by decide), Nat.add_assoc]; exact (hS s hs).2.2 (p + i) (by omega)
      rw [eX7_copy_84]
      simp (maxSteps := 1000000) (decide := true) (disch := (first | assumption | omega | exact Nat.div_mul_le_self _ _ | exact ni_nz (by omega) (by omega) | exact rfl | exact retOk_bI _ | exact retOk_0 | exact retOk_1)) only [eX7_copy_0, eX7_copy_1, eX7_copy_4, eX7_copy_7, eX7_copy_8, eX7_copy_11, eX7_copy_14, eX7_copy_15, eX7_copy_16, eX7_copy_17, eX7_copy_20, eX7_copy_21, eX7_copy_22, eX7_copy_25, eX7_copy_26, eX7_copy_29, eX7_copy_30, eX7_copy_31, eX7_copy_34, eX7_copy_36, eX7_copy_37, eX7_copy_38, eX7_copy_41, eX7_copy_42, eX7_copy_43, eX7_copy_44, eX7_copy_47, eX7_copy_48, eX7_copy_49, eX7_copy_52, eX7_copy_54, eX7_copy_55, eX7_copy_56, eX7_copy_57, eX7_copy_58, eX7_copy_60, eX7_copy_63, eX7_copy_66, eX7_copy_67, eX7_copy_68, eX7_copy_70, eX7_copy_72, eX7_copy_75, eX7_copy_78, eX7_copy_80, eX7_copy_81, eX7_copy_82, eX7_copy_86, eX7_copy_88, eX7_copy_91, eX7_copy_92, eX7_copy_95, eX7_copy_97, eX7_copy_98, eX7_copy_101, eX7_copy_103, eX7_copy_104, eX7_copy_105, eX7_copy_106, eX7_copy_107, eX7_copy_109, eX7_copy_110, eX7_copy_111, eX7_copy_112, eX7_copy_115, eX7_copy_118, eX7_copy_119, eX7_copy_123, eX7_copy_125, eX7_copy_128, eX7_copy_129, eX7_copy_132, eX7_copy_134, eX7_copy_135, eX7_copy_136, eX7_copy_138, eX7_copy_139, eX7_copy_141, eX7_copy_142, eX7_copy_143, eX7_copy_146, eX7_copy_148, eX7_copy_149, eX7_copy_150, eX7_copy_153, eX7_copy_156, eX7_copy_158, g5, g12, xi, hlt, WpR_some, Option.toList_some, Option.toList_none, List.cons_append, List.nil_append, List.append_nil, clr_n, clr_i, clr_a, ni_add, ni_mul, ni_sub, ni_lt, ni_le, ni_eq, ni_div, nat_mod_eq, ni_rem, iMax_nn, iMin_nn, iMax_sub, Nat.zero_max, bI_0, bI_1, bI_n0, up2_s, up2_n, up2_k, va_up_self, va_up_ne, ni_l, lN_mul, lN_add, ln_mask, lN_i, ↓reduceIte, if_true, if_false, not_true_eq_false, not_false_eq_true, ite_self, Nat.add_zero, Nat.zero_add, ent_def]
      refine kk () _ ⟨_, rfl, ?_, ?_⟩
      · intro d hd
        rw [up2J_at]
        by_cases hq : d = i
        · rw [if_pos ⟨rfl, hq⟩, hq]
        · rw [if_neg (fun x => hq x.2)]; exact c1 d (by omega)
      · intro b hb
        funext d
        rw [up2J_at, if_neg (fun x => hb x.1), c2 b hb]
    · rintro - μ ⟨ml1, rfl, c1, c2⟩
      rw [eX7_copy_84]
      simp (maxSteps := 1000000) (decide := true) (disch := (first | assumption | omega | exact Nat.div_mul_le_self _ _ | exact ni_nz (by omega) (by omega) | exact rfl | exact retOk_bI _ | exact retOk_0 | exact retOk_1)) only [eX7_copy_0, eX7_copy_1, eX7_copy_4, eX7_copy_7, eX7_copy_8, eX7_copy_11, eX7_copy_14, eX7_copy_15, eX7_copy_16, eX7_copy_17, eX7_copy_20, eX7_copy_21, eX7_copy_22, eX7_copy_25, eX7_copy_26, eX7_copy_29, eX7_copy_30, eX7_copy_31, eX7_copy_34, eX7_copy_36, eX7_copy_37, eX7_copy_38, eX7_copy_41, eX7_copy_42, eX7_copy_43, eX7_copy_44, eX7_copy_47, eX7_copy_48, eX7_copy_49, eX7_copy_52, eX7_copy_54, eX7_copy_55, eX7_copy_56, eX7_copy_57, eX7_copy_58, eX7_copy_60, eX7_copy_63, eX7_copy_66, eX7_copy_67, eX7_copy_68, eX7_copy_70, eX7_copy_72, eX7_copy_75, eX7_copy_78, eX7_copy_80, eX7_copy_81, eX7_copy_82, eX7_copy_86, eX7_copy_88, eX7_copy_91, eX7_copy_92, eX7_copy_95, eX7_copy_97, eX7_copy_98, eX7_copy_101, eX7_copy_103, eX7_copy_104, eX7_copy_105, eX7_copy_106, eX7_copy_107, eX7_copy_109, eX7_copy_110, eX7_copy_111, eX7_copy_112, eX7_copy_115, eX7_copy_118, eX7_copy_119, eX7_copy_123, eX7_copy_125, eX7_copy_128, eX7_copy_129, eX7_copy_132, eX7_copy_134, eX7_copy_135, eX7_copy_136, eX7_copy_138, eX7_copy_139, eX7_copy_141, eX7_copy_142, eX7_copy_143, eX7_copy_146, eX7_copy_148, eX7_copy_149, eX7_copy_150, eX7_copy_153, eX7_copy_156, eX7_copy_158, Nat.le_refl, WpR_some, Option.toList_some, Option.toList_none, List.cons_append, List.nil_append, List.append_nil, clr_n, clr_i, clr_a, ni_add, ni_mul, ni_sub, ni_lt, ni_le, ni_eq, ni_div, nat_mod_eq, ni_rem, iMax_nn, iMin_nn, iMax_sub, Nat.zero_max, bI_0, bI_1, bI_n0, up2_s, up2_n, up2_k, va_up_self, va_up_ne, ni_l, lN_mul, lN_add, ln_mask, lN_i, ↓reduceIte, if_true, if_false, not_true_eq_false, not_false_eq_true, ite_self, Nat.add_zero, Nat.zero_add, ent_def]
      refine wp_for (X := Unit) (fun i _ => [some (.ref 158), some (.int (nI s)), some (.int (nI p)), some (.int (nI t)), some (.int (nI q)), some (.int (nI n)), some (.int (nI i))]) (fun i _ μ => ∃ ml', μ = (G, m, ml') ∧ (∀ d, d < n → ml' 170 d = it s (p + d)) ∧ RS m ml' on ln sz (cpI it s p t q i) ∧ (∀ b, b ≠ 163 → b ≠ 170 → ml' b = ml b)) n ?_ ?_ 0 () _ (Nat.zero_le _) ⟨ml1, rfl, c1, ?_, fun b h1 h2 => c2 b h2⟩
      · rintro i - μ hi ⟨ml2, rfl, d1, d2, d3⟩ kk
        have hlt : ¬ n ≤ i := by omega
        have xi := d1 i hi
        rw [eX7_copy_121]
        simp (maxSteps := 1000000) (decide := true) (disch := (first | assumption | omega | exact Nat.div_mul_le_self _ _ | exact ni_nz (by omega) (by omega) | exact rfl | exact retOk_bI _ | exact retOk_0 | exact retOk_1)) only [eX7_copy_0, eX7_copy_1, eX7_copy_4, eX7_copy_7, eX7_copy_8, eX7_copy_11, eX7_copy_14, eX7_copy_15, eX7_copy_16, eX7_copy_17, eX7_copy_20, eX7_copy_21, eX7_copy_22, eX7_copy_25, eX7_copy_26, eX7_copy_29, eX7_copy_30, eX7_copy_31, eX7_copy_34, eX7_copy_36, eX7_copy_37, eX7_copy_38, eX7_copy_41, eX7_copy_42, eX7_copy_43, eX7_copy_44, eX7_copy_47, eX7_copy_48, eX7_copy_49, eX7_copy_52, eX7_copy_54, eX7_copy_55, eX7_copy_56, eX7_copy_57, eX7_copy_58, eX7_copy_60, eX7_copy_63, eX7_copy_66, eX7_copy_67, eX7_copy_68, eX7_copy_70, eX7_copy_72, eX7_copy_75, eX7_copy_78, eX7_copy_80, eX7_copy_81, eX7_copy_82, eX7_copy_86, eX7_copy_88, eX7_copy_91, eX7_copy_92, eX7_copy_95, eX7_copy_97, eX7_copy_98, eX7_copy_101, eX7_copy_103, eX7_copy_104, eX7_copy_105, eX7_copy_106, eX7_copy_107, eX7_copy_109, eX7_copy_110, eX7_copy_111, eX7_copy_112, eX7_copy_115, eX7_copy_118, eX7_copy_119, eX7_copy_123, eX7_copy_125, eX7_copy_128, eX7_copy_129, eX7_copy_132, eX7_copy_134, eX7_copy_135, eX7_copy_136, eX7_copy_138, eX7_copy_139, eX7_copy_141, eX7_copy_142, eX7_copy_143, eX7_copy_146, eX7_copy_148, eX7_copy_149, eX7_copy_150, eX7_copy_153, eX7_copy_156, eX7_copy_158, g5, g12, xi, hlt, WpR_some, Option.toList_some, Option.toList_none, List.cons_append, List.nil_append, List.append_nil, clr_n, clr_i, clr_a, ni_add, ni_mul, ni_sub, ni_lt, ni_le, ni_eq, ni_div, nat_mod_eq, ni_rem, iMax_nn, iMin_nn, iMax_sub, Nat.zero_max, bI_0, bI_1, bI_n0, up2_s, up2_n, up2_k, va_up_self, va_up_ne, ni_l, lN_mul, lN_add, ln_mask, lN_i, ↓reduceIte, if_true, if_false, not_true_eq_false, not_false_eq_true, ite_self, Nat.add_zero, Nat.zero_add, ent_def]
        refine kk () _ ⟨_, rfl, ?_, ?_, ?_⟩
        · intro d hd
          rw [up2J_at, if_neg (by omega)]; exact d1 d hd
        · have := RS_put (e := it s (p + i)) d2 ht (show q + i < 24 by omega)
          rw [← Nat.add_assoc] at this
          have e9 : upI (cpI it s p t q i) t (q + i) (it s (p + i)) = cpI it s p t q (i + 1) := by
            funext a b
            unfold upI cpI
            by_cases z1 : a = t ∧ b = q + i
            · rw [if_pos z1, if_pos ⟨z1.1, by omega, by omega⟩, show b - q = i by omega]
            · rw [if_neg z1]
              by_cases z2 : a = t ∧ q ≤ b ∧ b < q + i
              · rw [if_pos z2, if_pos ⟨z2.1, by omega, by omega⟩]
              · rw [if_neg z2, if_neg (by omega)]
          rw [e9] at this
          exact this
        · intro b z1 z2
          funext d
          rw [up2J_at, if_neg (fun x => z1 x.1), d3 b z1 z2]
      · rintro - μ ⟨ml2, rfl, d1, d2, d3⟩
        rw [eX7_copy_121]
        simp (maxSteps := 1000000) (decide := true) (disch := (first | assumption | omega | exact Nat.div_mul_le_self _ _ | exact ni_nz (by omega) (by omega) | exact rfl | exact retOk_bI _ | exact retOk_0 | exact retOk_1)) only [eX7_copy_0, eX7_copy_1, eX7_copy_4, eX7_copy_7, eX7_copy_8, eX7_copy_11, eX7_copy_14, eX7_copy_15, eX7_copy_16, eX7_copy_17, eX7_copy_20, eX7_copy_21, eX7_copy_22, eX7_copy_25, eX7_copy_26, eX7_copy_29, eX7_copy_30, eX7_copy_31, eX7_copy_34, eX7_copy_36, eX7_copy_37, eX7_copy_38, eX7_copy_41, eX7_copy_42, eX7_copy_43, eX7_copy_44, eX7_copy_47, eX7_copy_48, eX7_copy_49, eX7_copy_52, eX7_copy_54, eX7_copy_55, eX7_copy_56, eX7_copy_57, eX7_copy_58, eX7_copy_60, eX7_copy_63, eX7_copy_66, eX7_copy_67, eX7_copy_68, eX7_copy_70, eX7_copy_72, eX7_copy_75, eX7_copy_78, eX7_copy_80, eX7_copy_81, eX7_copy_82, eX7_copy_86, eX7_copy_88, eX7_copy_91, eX7_copy_92, eX7_copy_95, eX7_copy_97, eX7_copy_98, eX7_copy_101, eX7_copy_103, eX7_copy_104, eX7_copy_105, eX7_copy_106, eX7_copy_107, eX7_copy_109, eX7_copy_110, eX7_copy_111, eX7_copy_112, eX7_copy_115, eX7_copy_118, eX7_copy_119, eX7_copy_123, eX7_copy_125, eX7_copy_128, eX7_copy_129, eX7_copy_132, eX7_copy_134, eX7_copy_135, eX7_copy_136, eX7_copy_138, eX7_copy_139, eX7_copy_141, eX7_copy_142, eX7_copy_143, eX7_copy_146, eX7_copy_148, eX7_copy_149, eX7_copy_150, eX7_copy_153, eX7_copy_156, eX7_copy_158, Nat.le_refl, WpR_some, Option.toList_some, Option.toList_none, List.cons_append, List.nil_append, List.append_nil, clr_n, clr_i, clr_a, ni_add, ni_mul, ni_sub, ni_lt, ni_le, ni_eq, ni_div, nat_mod_eq, ni_rem, iMax_nn, iMin_nn, iMax_sub, Nat.zero_max, bI_0, bI_1, bI_n0, up2_s, up2_n, up2_k, va_up_self, va_up_ne, ni_l, lN_mul, lN_add, ln_mask, lN_i, ↓reduceIte, if_true, if_false, not_true_eq_false, not_false_eq_true, ite_self, Nat.add_zero, Nat.zero_add, ent_def]
        rw [← hQ]
        exact ⟨ml2, rfl, rfl, d2, d3⟩
      · have e9 : cpI it s p t q 0 = it := by
          funext a b
          unfold cpI
          rw [if_neg (by omega)]
        rw [e9]
        intro b hb
        rw [c2 163 (by decide)]
        exact hS b hb
  obtain ⟨r, μ', e1, ml', rfl, rfl, h2⟩ := res_ex key
  exact ⟨ml', e1, h2⟩
end SH3
