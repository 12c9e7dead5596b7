section SEA
variable {G : List AT} {m : Nat → Nat → Int32} {ml : Nat → Nat → Int64} {a n s h t x y z k l p q r g B T i j ke kl : Nat} {σ ρ π : Nat → Nat} {v w : Int32} {f : Nat → Nat → Nat}
theorem r_X7_nextOrder (hG : GM G) (hV : OV m 164 π 5) (hT : T ≤ 5) (hs : m 159 44 = nI T) : ∃ m', res mX7_nextOrder [.ref 158] (G, m, ml) = some (some (.int (bI (decide (rsr π (T - 1) ≠ 0)))), (G, m', ml)) ∧ (rsr π (T - 1) ≠ 0 → OV m' 164 (nxf T π) 5) ∧ (∀ b, b ≠ 164 → m' b = m b) := by
  have hG0 := hG
  obtain ⟨⟨g0, g1, g2, g3, g4, g5, g6, -⟩, ⟨a0, a1, a2, a3, a4, a5, -⟩, ⟨l0, l1, l2, l3, l4, l5, -⟩⟩ := hG
  have key : Wp mX7_nextOrder 0 (ent [.ref 158] 6) [] (G, m, ml) (fun r μ' => ∃ m', r = some (.int (bI (decide (rsr π (T - 1) ≠ 0)))) ∧ μ' = (G, m', ml) ∧ (rsr π (T - 1) ≠ 0 → OV m' 164 (nxf T π) 5) ∧ (∀ b, b ≠ 164 → m' b = m b)) := by
    show Wp mX7_nextOrder 0 [some (.ref 158), none, none, none, none, none] [] (G, m, ml) _
    generalize hQ : (fun (r : Option Value) (μ' : Mm) => ∃ m', r = some (.int (bI (decide (rsr π (T - 1) ≠ 0)))) ∧ μ' = (G, m', ml) ∧ (rsr π (T - 1) ≠ 0 → OV m' 164 (nxf T π) 5) ∧ (∀ b, b ≠ 164 → m' b = m b)) = Q
    have none_ : rsr π (T - 1) = 0 → Q (some (.int (nI 0))) (G, m, ml) := fun h0 => by
      rw [← hQ]
      exact ⟨m, by rw [h0]; rfl, rfl, fun h => absurd h0 h, fun _ _ => rfl⟩
    by_cases hT2 : T < 2
    · have f1 := none_ (by rw [show T - 1 = 0 by omega]; rfl)
      rcases (show T = 0 ∨ T = 1 by omega) with rfl | rfl
      · simp (maxSteps := 1000000) (decide := true) (disch := (first | assumption | omega | exact Nat.div_mul_le_self _ _ | exact ni_nz (by omega) (by omega) | exact rfl | exact retOk_bI _ | exact retOk_0 | exact retOk_1)) only [eX7_nextOrder_0, eX7_nextOrder_1, eX7_nextOrder_4, eX7_nextOrder_6, eX7_nextOrder_7, eX7_nextOrder_8, eX7_nextOrder_9, eX7_nextOrder_10, eX7_nextOrder_11, eX7_nextOrder_12, eX7_nextOrder_13, eX7_nextOrder_16, eX7_nextOrder_17, eX7_nextOrder_20, eX7_nextOrder_21, eX7_nextOrder_22, eX7_nextOrder_23, eX7_nextOrder_26, eX7_nextOrder_27, eX7_nextOrder_28, eX7_nextOrder_29, eX7_nextOrder_30, eX7_nextOrder_33, eX7_nextOrder_36, eX7_nextOrder_39, eX7_nextOrder_40, eX7_nextOrder_43, eX7_nextOrder_44, g1, hs, WpR_some, Option.toList_some, Option.toList_none, List.cons_append, List.nil_append, List.append_nil, clr_n, clr_i, clr_a, ni_add, ni_mul, ni_sub, ni_lt, ni_le, ni_eq, ni_div, nat_mod_eq, ni_rem, iMax_nn, iMin_nn, iMax_sub, Nat.zero_max, bI_0, bI_1, bI_n0, up2_s, up2_n, up2_k, va_up_self, va_up_ne, ni_l, lN_mul, lN_add, ln_mask, lN_i, ↓reduceIte, if_true, if_false, not_true_eq_false, not_false_eq_true, ite_self, Nat.add_zero, Nat.zero_add, ent_def]
        exact f1
      · simp (maxSteps := 1000000) (decide := true) (disch := (first | assumption | omega | exact Nat.div_mul_le_self _ _ | exact ni_nz (by omega) (by omega) | exact rfl | exact retOk_bI _ | exact retOk_0 | exact retOk_1)) only [eX7_nextOrder_0, eX7_nextOrder_1, eX7_nextOrder_4, eX7_nextOrder_6, eX7_nextOrder_7, eX7_nextOrder_8, eX7_nextOrder_9, eX7_nextOrder_10, eX7_nextOrder_11, eX7_nextOrder_12, eX7_nextOrder_13, eX7_nextOrder_16, eX7_nextOrder_17, eX7_nextOrder_20, eX7_nextOrder_21, eX7_nextOrder_22, eX7_nextOrder_23, eX7_nextOrder_26, eX7_nextOrder_27, eX7_nextOrder_28, eX7_nextOrder_29, eX7_nextOrder_30, eX7_nextOrder_33, eX7_nextOrder_36, eX7_nextOrder_39, eX7_nextOrder_40, eX7_nextOrder_43, eX7_nextOrder_44, g1, hs, WpR_some, Option.toList_some, Option.toList_none, List.cons_append, List.nil_append, List.append_nil, clr_n, clr_i, clr_a, ni_add, ni_mul, ni_sub, ni_lt, ni_le, ni_eq, ni_div, nat_mod_eq, ni_rem, iMax_nn, iMin_nn, iMax_sub, Nat.zero_max, bI_0, bI_1, bI_n0, up2_s, up2_n, up2_k, va_up_self, va_up_ne, ni_l, lN_mul, lN_add, ln_mask, lN_i, ↓reduceIte, if_true, if_false, not_true_eq_false, not_false_eq_true, ite_self, Nat.add_zero, Nat.zero_add, ent_def]
        exact f1
    · have rest3 : ∀ r l, r + 1 < T → l < T → rsr π (T - 1) = r + 1 → lgr π r (T - 1) = l → Wp mX7_nextOrder 70 ([some (.ref 158), some (.int (nI T)), some (.int (nI r)), some (.int (nI l)), none, none]) [] (G, m, ml) Q := by
        intro r l hr1 hl1 hr2 hl2
        have eS := r_X7_swapSits (ml := ml) hG0 hV (show r < 5 by omega) (show l < 5 by omega)
        have V1 := OV_swp hV (show r < 5 by omega) (show l < 5 by omega)
        have hnx : nxf T π = rvs 5 (swp π r l) (r + 1) (T - 1) := by unfold nxf; rw [hr2, Nat.add_sub_cancel, hl2]
        simp (maxSteps := 1000000) (decide := true) (disch := (first | assumption | omega | exact Nat.div_mul_le_self _ _ | exact ni_nz (by omega) (by omega) | exact rfl | exact retOk_bI _ | exact retOk_0 | exact retOk_1)) only [eX7_nextOrder_70, eX7_nextOrder_71, eX7_nextOrder_72, eX7_nextOrder_73, eX7_nextOrder_76, eX7_nextOrder_77, eX7_nextOrder_78, eX7_nextOrder_79, eX7_nextOrder_81, eX7_nextOrder_82, eX7_nextOrder_83, eX7_nextOrder_84, eS, WpR_some, Option.toList_some, Option.toList_none, List.cons_append, List.nil_append, List.append_nil, clr_n, clr_i, clr_a, ni_add, ni_mul, ni_sub, ni_lt, ni_le, ni_eq, ni_div, nat_mod_eq, ni_rem, iMax_nn, iMin_nn, iMax_sub, Nat.zero_max, bI_0, bI_1, bI_n0, up2_s, up2_n, up2_k, va_up_self, va_up_ne, ni_l, lN_mul, lN_add, ln_mask, lN_i, ↓reduceIte, if_true, if_false, not_true_eq_false, not_false_eq_true, ite_self, Nat.add_zero, Nat.zero_add, ent_def]
        refine wp_for (X := Nat → Nat) (fun i _ => [some (.ref 158), some (.int (nI T)), some (.int (nI r)), some (.int (nI l)), some (.int (nI (r + 1 + i))), some (.int (nI (T - 1 - i)))]) (fun i z μ => ∃ m2, μ = (G, m2, ml) ∧ OV m2 164 z 5 ∧ rvs 5 (swp π r l) (r + 1) (T - 1) = rvs (5 - i) z (r + 1 + i) (T - 1 - i) ∧ r + 1 + 2 * i ≤ T ∧ (∀ b, b ≠ 164 → m2 b = m b)) 5 ?_ ?_ 0 (swp π r l) _ (Nat.zero_le _) ⟨_, rfl, V1, rfl, by omega, fun b hb => by rw [up2_n hb, up2_n hb]⟩
        · rintro i z μ hi ⟨m2, rfl, V2, R2, I2, F2⟩ kk
          rw [eX7_nextOrder_86]
          by_cases hc : r + 1 + i < T - 1 - i
          · have hc' : ¬ T - 1 - i ≤ r + 1 + i := by omega
            have eS2 := r_X7_swapSits (ml := ml) hG0 V2 (show r + 1 + i < 5 by omega) (show T - 1 - i < 5 by omega)
            have V3 := OV_swp V2 (show r + 1 + i < 5 by omega) (show T - 1 - i < 5 by omega)
            have e9 : r + 1 + i + 1 = r + 1 + (i + 1) := by omega
            have e10 : nI (T - 1 - i) + (-1) = nI (T - 1 - (i + 1)) := by rw [ni_dec (by omega)]; congr 1
            have e8 := kk (swp z (r + 1 + i) (T - 1 - i)) _ ⟨_, rfl, V3, ?_, by omega, fun b hb => by rw [up2_n hb, up2_n hb]; exact F2 b hb⟩
            · simp (maxSteps := 1000000) (decide := true) (disch := (first | assumption | omega | exact Nat.div_mul_le_self _ _ | exact ni_nz (by omega) (by omega) | exact rfl | exact retOk_bI _ | exact retOk_0 | exact retOk_1)) only [eX7_nextOrder_88, eX7_nextOrder_90, eX7_nextOrder_93, eX7_nextOrder_94, eX7_nextOrder_96, eX7_nextOrder_98, eX7_nextOrder_101, eX7_nextOrder_104, eX7_nextOrder_107, eX7_nextOrder_110, eX7_nextOrder_111, eS2, hc', e9, e10, WpR_some, Option.toList_some, Option.toList_none, List.cons_append, List.nil_append, List.append_nil, clr_n, clr_i, clr_a, ni_add, ni_mul, ni_sub, ni_lt, ni_le, ni_eq, ni_div, nat_mod_eq, ni_rem, iMax_nn, iMin_nn, iMax_sub, Nat.zero_max, bI_0, bI_1, bI_n0, up2_s, up2_n, up2_k, va_up_self, va_up_ne, ni_l, lN_mul, lN_add, ln_mask, lN_i, ↓reduceIte, if_true, if_false, not_true_eq_false, not_false_eq_true, ite_self, Nat.add_zero, Nat.zero_add, ent_def]
              exact e8
            · rw [R2, show 5 - i = (5 - (i + 1)) + 1 by omega]
              conv => lhs; unfold rvs
              rw [if_pos hc, e9, show T - 1 - i - 1 = T - 1 - (i + 1) by omega]
          · have hc' : T - 1 - i ≤ r + 1 + i := by omega
            simp (maxSteps := 1000000) (decide := true) (disch := (first | assumption | omega | exact Nat.div_mul_le_self _ _ | exact ni_nz (by omega) (by omega) | exact rfl | exact retOk_bI _ | exact retOk_0 | exact retOk_1)) only [eX7_nextOrder_88, eX7_nextOrder_90, eX7_nextOrder_93, eX7_nextOrder_94, eX7_nextOrder_96, eX7_nextOrder_98, eX7_nextOrder_101, eX7_nextOrder_104, eX7_nextOrder_107, eX7_nextOrder_110, eX7_nextOrder_111, hc', WpR_some, Option.toList_some, Option.toList_none, List.cons_append, List.nil_append, List.append_nil, clr_n, clr_i, clr_a, ni_add, ni_mul, ni_sub, ni_lt, ni_le, ni_eq, ni_div, nat_mod_eq, ni_rem, iMax_nn, iMin_nn, iMax_sub, Nat.zero_max, bI_0, bI_1, bI_n0, up2_s, up2_n, up2_k, va_up_self, va_up_ne, ni_l, lN_mul, lN_add, ln_mask, lN_i, ↓reduceIte, if_true, if_false, not_true_eq_false, not_false_eq_true, ite_self, Nat.add_zero, Nat.zero_add, ent_def]
            rw [← hQ]
            refine ⟨m2, by rw [hr2]; rfl, rfl, fun _ => ?_, F2⟩
            rw [hnx, R2, show 5 - i = (4 - i) + 1 by omega]
            unfold rvs
            rw [if_neg hc]
            exact V2
        · rintro z μ ⟨m2, rfl, V2, R2, I2, F2⟩
          omega
      have rest2 : ∀ r, r + 1 < T → rsr π (T - 1) = r + 1 → Wp mX7_nextOrder 39 ([some (.ref 158), some (.int (nI T)), some (.int (nI r)), none, none, none]) [] (G, m, ml) Q := by
        intro r hr1 hr2
        simp (maxSteps := 1000000) (decide := true) (disch := (first | assumption | omega | exact Nat.div_mul_le_self _ _ | exact ni_nz (by omega) (by omega) | exact rfl | exact retOk_bI _ | exact retOk_0 | exact retOk_1)) only [eX7_nextOrder_39, eX7_nextOrder_40, eX7_nextOrder_43, eX7_nextOrder_44, eX7_nextOrder_45, eX7_nextOrder_46, eX7_nextOrder_47, eX7_nextOrder_48, Nat.zero_le, WpR_some, Option.toList_some, Option.toList_none, List.cons_append, List.nil_append, List.append_nil, clr_n, clr_i, clr_a, ni_add, ni_mul, ni_sub, ni_lt, ni_le, ni_eq, ni_div, nat_mod_eq, ni_rem, iMax_nn, iMin_nn, iMax_sub, Nat.zero_max, bI_0, bI_1, bI_n0, up2_s, up2_n, up2_k, va_up_self, va_up_ne, ni_l, lN_mul, lN_add, ln_mask, lN_i, ↓reduceIte, if_true, if_false, not_true_eq_false, not_false_eq_true, ite_self, Nat.add_zero, Nat.zero_add, ent_def]
        refine wp_for (X := Unit) (fun i _ => [some (.ref 158), some (.int (nI T)), some (.int (nI r)), some (.int (nI (T - 1 - i))), none, none]) (fun i z μ => μ = (G, m, ml) ∧ lgr π r (T - 1) = lgr π r (T - 1 - i)) (T - 1 - r) ?_ ?_ 0 () _ (Nat.zero_le _) ⟨rfl, rfl⟩
        · rintro i - μ hi ⟨rfl, R2⟩ kk
          have x1 := (hV (T - 1 - i) (by omega)).1
          have x2 := (hV r (by omega)).1
          have y1 := (hV (T - 1 - i) (by omega)).2
          have y2 := (hV r (by omega)).2
          rw [eX7_nextOrder_49]
          by_cases hc : π (T - 1 - i) < π r
          · have hc' : ¬ π r ≤ π (T - 1 - i) := by omega
            have e10 : nI (T - 1 - i) + (-1) = nI (T - 1 - (i + 1)) := by rw [ni_dec (by omega)]; congr 1
            have e8 := kk () _ ⟨rfl, ?_⟩
            · simp (maxSteps := 1000000) (decide := true) (disch := (first | assumption | omega | exact Nat.div_mul_le_self _ _ | exact ni_nz (by omega) (by omega) | exact rfl | exact retOk_bI _ | exact retOk_0 | exact retOk_1)) only [eX7_nextOrder_50, eX7_nextOrder_53, eX7_nextOrder_54, eX7_nextOrder_55, eX7_nextOrder_56, eX7_nextOrder_59, eX7_nextOrder_60, eX7_nextOrder_61, eX7_nextOrder_64, eX7_nextOrder_67, g6, x1, x2, hc', e10, WpR_some, Option.toList_some, Option.toList_none, List.cons_append, List.nil_append, List.append_nil, clr_n, clr_i, clr_a, ni_add, ni_mul, ni_sub, ni_lt, ni_le, ni_eq, ni_div, nat_mod_eq, ni_rem, iMax_nn, iMin_nn, iMax_sub, Nat.zero_max, bI_0, bI_1, bI_n0, up2_s, up2_n, up2_k, va_up_self, va_up_ne, ni_l, lN_mul, lN_add, ln_mask, lN_i, ↓reduceIte, if_true, if_false, not_true_eq_false, not_false_eq_true, ite_self, Nat.add_zero, Nat.zero_add, ent_def]
              exact e8
            · rw [R2, show T - 1 - i = (T - 1 - (i + 1)) + 1 by omega]
              conv => lhs; unfold lgr
              rw [if_pos (by rw [show T - 1 - (i + 1) + 1 = T - 1 - i by omega]; exact hc)]
          · have hc' : π r ≤ π (T - 1 - i) := by omega
            have f1 := rest3 r (T - 1 - i) hr1 (by omega) hr2 (by
              rw [R2, show T - 1 - i = (T - 1 - i - 1) + 1 by omega]
              unfold lgr
              rw [if_neg (by rw [show T - 1 - i - 1 + 1 = T - 1 - i by omega]; exact hc)])
            simp (maxSteps := 1000000) (decide := true) (disch := (first | assumption | omega | exact Nat.div_mul_le_self _ _ | exact ni_nz (by omega) (by omega) | exact rfl | exact retOk_bI _ | exact retOk_0 | exact retOk_1)) only [eX7_nextOrder_50, eX7_nextOrder_53, eX7_nextOrder_54, eX7_nextOrder_55, eX7_nextOrder_56, eX7_nextOrder_59, eX7_nextOrder_60, eX7_nextOrder_61, eX7_nextOrder_64, eX7_nextOrder_67, g6, x1, x2, hc', WpR_some, Option.toList_some, Option.toList_none, List.cons_append, List.nil_append, List.append_nil, clr_n, clr_i, clr_a, ni_add, ni_mul, ni_sub, ni_lt, ni_le, ni_eq, ni_div, nat_mod_eq, ni_rem, iMax_nn, iMin_nn, iMax_sub, Nat.zero_max, bI_0, bI_1, bI_n0, up2_s, up2_n, up2_k, va_up_self, va_up_ne, ni_l, lN_mul, lN_add, ln_mask, lN_i, ↓reduceIte, if_true, if_false, not_true_eq_false, not_false_eq_true, ite_self, Nat.add_zero, Nat.zero_add, ent_def]
            exact f1
        · rintro - μ ⟨rfl, R2⟩
          have hlr : T - 1 - (T - 1 - r) = r := by omega
          rw [hlr] at R2
          have f1 := rest3 r r hr1 (by omega) hr2 (by
            rw [R2]
            cases r with
            | zero => rfl
            | succ r => unfold lgr; rw [if_neg (Nat.lt_irrefl _)])
          have x2 := (hV r (by omega)).1
          have y2 := (hV r (by omega)).2
          rw [eX7_nextOrder_49, hlr]
          simp (maxSteps := 1000000) (decide := true) (disch := (first | assumption | omega | exact Nat.div_mul_le_self _ _ | exact ni_nz (by omega) (by omega) | exact rfl | exact retOk_bI _ | exact retOk_0 | exact retOk_1)) only [eX7_nextOrder_50, eX7_nextOrder_53, eX7_nextOrder_54, eX7_nextOrder_55, eX7_nextOrder_56, eX7_nextOrder_59, eX7_nextOrder_60, eX7_nextOrder_61, eX7_nextOrder_64, eX7_nextOrder_67, g6, x2, Nat.le_refl, WpR_some, Option.toList_some, Option.toList_none, List.cons_append, List.nil_append, List.append_nil, clr_n, clr_i, clr_a, ni_add, ni_mul, ni_sub, ni_lt, ni_le, ni_eq, ni_div, nat_mod_eq, ni_rem, iMax_nn, iMin_nn, iMax_sub, Nat.zero_max, bI_0, bI_1, bI_n0, up2_s, up2_n, up2_k, va_up_self, va_up_ne, ni_l, lN_mul, lN_add, ln_mask, lN_i, ↓reduceIte, if_true, if_false, not_true_eq_false, not_false_eq_true, ite_self, Nat.add_zero, Nat.zero_add, ent_def]
          exact f1
      simp (maxSteps := 1000000) (decide := true) (disch := (first | assumption | omega | exact Nat.div_mul_le_self _ _ | exact ni_nz (by omega) (by omega) | exact rfl | exact retOk_bI _ | exact retOk_0 | exact retOk_1)) only [eX7_nextOrder_0, eX7_nextOrder_1, eX7_nextOrder_4, eX7_nextOrder_6, eX7_nextOrder_7, eX7_nextOrder_8, eX7_nextOrder_9, eX7_nextOrder_10, eX7_nextOrder_11, g1, hs, WpR_some, Option.toList_some, Option.toList_none, List.cons_append, List.nil_append, List.append_nil, clr_n, clr_i, clr_a, ni_add, ni_mul, ni_sub, ni_lt, ni_le, ni_eq, ni_div, nat_mod_eq, ni_rem, iMax_nn, iMin_nn, iMax_sub, Nat.zero_max, bI_0, bI_1, bI_n0, up2_s, up2_n, up2_k, va_up_self, va_up_ne, ni_l, lN_mul, lN_add, ln_mask, lN_i, ↓reduceIte, if_true, if_false, not_true_eq_false, not_false_eq_true, ite_self, Nat.add_zero, Nat.zero_add, ent_def]
      have e0 : nI (T - 2) = rz (T - 1 - 0) := by rw [show T - 1 - 0 = (T - 2) + 1 by omega]; rfl
      rw [e0]
      refine wp_for (X := Unit) (fun i _ => [some (.ref 158), some (.int (nI T)), some (.int (rz (T - 1 - i))), none, none, none]) (fun i z μ => μ = (G, m, ml) ∧ rsr π (T - 1) = rsr π (T - 1 - i)) (T - 1) ?_ ?_ 0 () _ (Nat.zero_le _) ⟨rfl, rfl⟩
      · rintro i - μ hi ⟨rfl, R2⟩ kk
        have e1 : T - 1 - i = (T - 1 - (i + 1)) + 1 := by omega
        have e2 : rz (T - 1 - i) = nI (T - 1 - (i + 1)) := by rw [e1]; rfl
        have x1 := (hV (T - 1 - (i + 1)) (by omega)).1
        have x2 := (hV (T - 1 - (i + 1) + 1) (by omega)).1
        have y1 := (hV (T - 1 - (i + 1)) (by omega)).2
        have y2 := (hV (T - 1 - (i + 1) + 1) (by omega)).2
        rw [e2, eX7_nextOrder_12]
        by_cases hc : π (T - 1 - (i + 1) + 1) < π (T - 1 - (i + 1))
        · have hc' : ¬ π (T - 1 - (i + 1)) ≤ π (T - 1 - (i + 1) + 1) := by omega
          have e8 := kk () _ ⟨rfl, by
            rw [R2, e1]
            conv => lhs; unfold rsr
            rw [if_pos hc]⟩
          have e3 : nI (T - 1 - (i + 1)) + (-1) = rz (T - 1 - (i + 1)) := by
            by_cases hz : T - 1 - (i + 1) = 0
            · rw [hz]; decide
            · rw [ni_dec (by omega)]; unfold rz; rw [if_neg hz]
          simp (maxSteps := 1000000) (decide := true) (disch := (first | assumption | omega | exact Nat.div_mul_le_self _ _ | exact ni_nz (by omega) (by omega) | exact rfl | exact retOk_bI _ | exact retOk_0 | exact retOk_1)) only [eX7_nextOrder_13, eX7_nextOrder_16, eX7_nextOrder_17, eX7_nextOrder_20, eX7_nextOrder_21, eX7_nextOrder_22, eX7_nextOrder_23, eX7_nextOrder_26, eX7_nextOrder_27, eX7_nextOrder_28, eX7_nextOrder_29, eX7_nextOrder_30, eX7_nextOrder_33, eX7_nextOrder_36, g6, x1, x2, hc', e3, Nat.not_lt_zero, WpR_some, Option.toList_some, Option.toList_none, List.cons_append, List.nil_append, List.append_nil, clr_n, clr_i, clr_a, ni_add, ni_mul, ni_sub, ni_lt, ni_le, ni_eq, ni_div, nat_mod_eq, ni_rem, iMax_nn, iMin_nn, iMax_sub, Nat.zero_max, bI_0, bI_1, bI_n0, up2_s, up2_n, up2_k, va_up_self, va_up_ne, ni_l, lN_mul, lN_add, ln_mask, lN_i, ↓reduceIte, if_true, if_false, not_true_eq_false, not_false_eq_true, ite_self, Nat.add_zero, Nat.zero_add, ent_def]
          exact e8
        · have hc' : π (T - 1 - (i + 1)) ≤ π (T - 1 - (i + 1) + 1) := by omega
          have f1 := rest2 (T - 1 - (i + 1)) (by omega) (by
            rw [R2, e1]
            unfold rsr
            rw [if_neg hc])
          simp (maxSteps := 1000000) (decide := true) (disch := (first | assumption | omega | exact Nat.div_mul_le_self _ _ | exact ni_nz (by omega) (by omega) | exact rfl | exact retOk_bI _ | exact retOk_0 | exact retOk_1)) only [eX7_nextOrder_13, eX7_nextOrder_16, eX7_nextOrder_17, eX7_nextOrder_20, eX7_nextOrder_21, eX7_nextOrder_22, eX7_nextOrder_23, eX7_nextOrder_26, eX7_nextOrder_27, eX7_nextOrder_28, eX7_nextOrder_29, eX7_nextOrder_30, eX7_nextOrder_33, eX7_nextOrder_36, g6, x1, x2, hc', Nat.not_lt_zero, WpR_some, Option.toList_some, Option.toList_none, List.cons_append, List.nil_append, List.append_nil, clr_n, clr_i, clr_a, ni_add, ni_mul, ni_sub, ni_lt, ni_le, ni_eq, ni_div, nat_mod_eq, ni_rem, iMax_nn, iMin_nn, iMax_sub, Nat.zero_max, bI_0, bI_1, bI_n0, up2_s, up2_n, up2_k, va_up_self, va_up_ne, ni_l, lN_mul, lN_add, ln_mask, lN_i, ↓reduceIte, if_true, if_false, not_true_eq_false, not_false_eq_true, ite_self, Nat.add_zero, Nat.zero_add, ent_def]
          exact f1
      · rintro - μ ⟨rfl, R2⟩
        rw [Nat.sub_self] at R2
        have f1 := none_ R2
        have hz : rz (T - 1 - (T - 1)) = -1 := by rw [Nat.sub_self]; rfl
        rw [hz, eX7_nextOrder_12]
        simp (maxSteps := 1000000) (decide := true) (disch := (first | assumption | omega | exact Nat.div_mul_le_self _ _ | exact ni_nz (by omega) (by omega) | exact rfl | exact retOk_bI _ | exact retOk_0 | exact retOk_1)) only [eX7_nextOrder_13, eX7_nextOrder_16, eX7_nextOrder_17, eX7_nextOrder_20, eX7_nextOrder_21, eX7_nextOrder_22, eX7_nextOrder_23, eX7_nextOrder_26, eX7_nextOrder_27, eX7_nextOrder_28, eX7_nextOrder_29, eX7_nextOrder_30, eX7_nextOrder_33, eX7_nextOrder_36, eX7_nextOrder_39, eX7_nextOrder_40, eX7_nextOrder_43, eX7_nextOrder_44, WpR_some, Option.toList_some, Option.toList_none, List.cons_append, List.nil_append, List.append_nil, clr_n, clr_i, clr_a, ni_add, ni_mul, ni_sub, ni_lt, ni_le, ni_eq, ni_div, nat_mod_eq, ni_rem, iMax_nn, iMin_nn, iMax_sub, Nat.zero_max, bI_0, bI_1, bI_n0, up2_s, up2_n, up2_k, va_up_self, va_up_ne, ni_l, lN_mul, lN_add, ln_mask, lN_i, ↓reduceIte, if_true, if_false, not_true_eq_false, not_false_eq_true, ite_self, Nat.add_zero, Nat.zero_add, ent_def]
        exact f1
  obtain ⟨r, μ', e1, m', rfl, rfl, h2⟩ := res_ex key
  exact ⟨m', e1, h2⟩
/-! the class's orders -/
theorem r_X0_begin (ha : atg G 153 = 10) (hr : rfn G 153 0 = 154) (ht : atg G 154 = 0) (hl : aln G 154 = 5) (hT : T ≤ 5) : ∃ m', res mX0_begin [.ref 153, .int (nI T)] (G, m, ml) = some (none, (G, m', ml)) ∧ OV m' 154 (pm T 0) T ∧ m' 153 1 = nI T ∧ (∀ b, b ≠ 153 → b ≠ 154 → m' b = m b) := by
  have key : Wp mX0_begin 0 (ent [.ref 153, .int (nI T)] 3) [] (G, m, ml) (fun r μ' => ∃ m', r = none ∧ μ' = (G, m', ml) ∧ OV m' 154 (pm T 0) T ∧ m' 153 1 = nI T ∧ (∀ b, b ≠ 153 → b ≠ 154 → m' b = m b)) := by
    show Wp mX0_begin 0 [some (.ref 153), some (.int (nI T)), none] [] (G, m, ml) _
    generalize hQ : (fun (r : Option Value) (μ' : Mm) => ∃ m', r = none ∧ μ' = (G, m', ml) ∧ OV m' 154 (pm T 0) T ∧ m' 153 1 = nI T ∧ (∀ b, b ≠ 153 → b ≠ 154 → m' b = m b)) = Q
    have e5 : min 5 T = T := by omega
    simp (maxSteps := 1000000) (decide := true) (disch := (first | assumption | omega | exact Nat.div_mul_le_self _ _ | exact ni_nz (by omega) (by omega) | exact rfl | exact retOk_bI _ | exact retOk_0 | exact retOk_1)) only [eX0_begin_0, eX0_begin_1, eX0_begin_2, eX0_begin_3, eX0_begin_6, eX0_begin_9, eX0_begin_10, eX0_begin_12, eX0_begin_13, eX0_begin_16, eX0_begin_19, eX0_begin_20, eX0_begin_23, eX0_begin_24, eX0_begin_25, eX0_begin_26, eX0_begin_29, eX0_begin_32, e5, WpR_some, Option.toList_some, Option.toList_none, List.cons_append, List.nil_append, List.append_nil, clr_n, clr_i, clr_a, ni_add, ni_mul, ni_sub, ni_lt, ni_le, ni_eq, ni_div, nat_mod_eq, ni_rem, iMax_nn, iMin_nn, iMax_sub, Nat.zero_max, bI_0, bI_1, bI_n0, up2_s, up2_n, up2_k, va_up_self, va_up_ne, ni_l, lN_mul, lN_add, ln_mask, lN_i, ↓reduceIte, if_true, if_false, not_true_eq_false, not_false_eq_true, ite_self, Nat.add_zero, Nat.zero_add, ent_def]
    refine wp_for (X := Unit) (fun i _ => [some (.ref 153), some (.int (nI T)), some (.int (nI i))]) (fun i _ μ => ∃ m2, μ = (G, m2, ml) ∧ OV m2 154 (pm T 0) i ∧ m2 153 1 = nI T ∧ (∀ b, b ≠ 153 → b ≠ 154 → m2 b = m b)) T ?_ ?_ 0 () _ (Nat.zero_le _) ⟨_, rfl, fun k hk => absurd hk (Nat.not_lt_zero _), by rw [up2_s], fun b h1 h2 => by rw [up2_n h1]⟩
    · rintro i - μ hi ⟨m2, rfl, V2, S2, F2⟩ kk
      have hlt : ¬ T ≤ i := by omega
      rw [eX0_begin_11]
      simp (maxSteps := 1000000) (decide := true) (disch := (first | assumption | omega | exact Nat.div_mul_le_self _ _ | exact ni_nz (by omega) (by omega) | exact rfl | exact retOk_bI _ | exact retOk_0 | exact retOk_1)) only [eX0_begin_0, eX0_begin_1, eX0_begin_2, eX0_begin_3, eX0_begin_6, eX0_begin_9, eX0_begin_10, eX0_begin_12, eX0_begin_13, eX0_begin_16, eX0_begin_19, eX0_begin_20, eX0_begin_23, eX0_begin_24, eX0_begin_25, eX0_begin_26, eX0_begin_29, eX0_begin_32, hr, S2, hlt, WpR_some, Option.toList_some, Option.toList_none, List.cons_append, List.nil_append, List.append_nil, clr_n, clr_i, clr_a, ni_add, ni_mul, ni_sub, ni_lt, ni_le, ni_eq, ni_div, nat_mod_eq, ni_rem, iMax_nn, iMin_nn, iMax_sub, Nat.zero_max, bI_0, bI_1, bI_n0, up2_s, up2_n, up2_k, va_up_self, va_up_ne, ni_l, lN_mul, lN_add, ln_mask, lN_i, ↓reduceIte, if_true, if_false, not_true_eq_false, not_false_eq_true, ite_self, Nat.add_zero, Nat.zero_add, ent_def]
      refine kk () _ ⟨_, rfl, ?_, by rw [up2_n (by decide)]; exact S2, fun b h1 h2 => by rw [up2_n h2]; exact F2 b h1 h2⟩
      intro k hk
      have e0 := pm_0 T (by omega) k (by omega)
      by_cases hq : k = i
      · rw [hq, up2_s, ← hq, e0]; exact ⟨rfl, by omega⟩
      · rw [up2_k hq]; exact V2 k (by omega)
    · rintro - μ ⟨m2, rfl, V2, S2, F2⟩
      rw [eX0_begin_11]
      simp (maxSteps := 1000000) (decide := true) (disch := (first | assumption | omega | exact Nat.div_mul_le_self _ _ | exact ni_nz (by omega) (by omega) | exact rfl | exact retOk_bI _ | exact retOk_0 | exact retOk_1)) only [eX0_begin_0, eX0_begin_1, eX0_begin_2, eX0_begin_3, eX0_begin_6, eX0_begin_9, eX0_begin_10, eX0_begin_12, eX0_begin_13, eX0_begin_16, eX0_begin_19, eX0_begin_20, eX0_begin_23, eX0_begin_24, eX0_begin_25, eX0_begin_26, eX0_begin_29, eX0_begin_32, S2, Nat.le_refl, WpR_some, Option.toList_some, Option.toList_none, List.cons_append, List.nil_append, List.append_nil, clr_n, clr_i, clr_a, ni_add, ni_mul, ni_sub, ni_lt, ni_le, ni_eq, ni_div, nat_mod_eq, ni_rem, iMax_nn, iMin_nn, iMax_sub, Nat.zero_max, bI_0, bI_1, bI_n0, up2_s, up2_n, up2_k, va_up_self, va_up_ne, ni_l, lN_mul, lN_add, ln_mask, lN_i, ↓reduceIte, if_true, if_false, not_true_eq_false, not_false_eq_true, ite_self, Nat.add_zero, Nat.zero_add, ent_def]
      rw [← hQ]
      exact ⟨m2, rfl, rfl, V2, S2, F2⟩
  obtain ⟨r, μ', e1, m', rfl, rfl, h2⟩ := res_ex key
  exact ⟨m', e1, h2⟩
theorem r_X0_become (hG : GW G) (hV : OV m 154 π T) (hT : T ≤ 5) : ∃ m', res mX0_become [.ref 155, .ref 153] (G, m, ml) = some (none, (G, m', ml)) ∧ OV m' 156 π T ∧ (∀ b, b ≠ 155 → b ≠ 156 → m' b = m b) := by
  obtain ⟨-, -, -, -, -, ⟨o1, o2, o3, o4, o5, o6, o7, o8⟩, -⟩ := hG
  refine ⟨va_up (up2 m 155 1 (m 153 1)) 156 (va_cpy (m 154) (m 156) 0 0 5), ?_, ?_, ?_⟩
  · apply res_of
    show Wp mX0_become 0 [some (.ref 155), some (.ref 153)] [] (G, m, ml) _
    simp (maxSteps := 1000000) (decide := true) (disch := (first | assumption | omega | exact Nat.div_mul_le_self _ _ | exact ni_nz (by omega) (by omega) | exact rfl | exact retOk_bI _ | exact retOk_0 | exact retOk_1)) only [eX0_become_0, eX0_become_1, eX0_become_2, eX0_become_5, eX0_become_8, eX0_become_9, eX0_become_12, eX0_become_13, eX0_become_14, eX0_become_17, eX0_become_18, eX0_become_19, eX0_become_22, o2, o6, WpR_some, Option.toList_some, Option.toList_none, List.cons_append, List.nil_append, List.append_nil, clr_n, clr_i, clr_a, ni_add, ni_mul, ni_sub, ni_lt, ni_le, ni_eq, ni_div, nat_mod_eq, ni_rem, iMax_nn, iMin_nn, iMax_sub, Nat.zero_max, bI_0, bI_1, bI_n0, up2_s, up2_n, up2_k, va_up_self, va_up_ne, ni_l, lN_mul, lN_add, ln_mask, lN_i, ↓reduceIte, if_true, if_false, not_true_eq_false, not_false_eq_true, ite_self, Nat.add_zero, Nat.zero_add, ent_def]
  · intro k hk
    rw [va_up_self, cpy_in (by omega)]
    exact hV k hk
  · intro b h1 h2
    rw [vup_ne h2, up2_n h1]
theorem r_X3_seatBy (hG : GW G) (hV : ShV m 144 σ) (h3 : ShV m 3 σ) (hO : OV m 154 π (σ 44)) (hI : Inj π (σ 44)) (hB : Bk ke kl σ) : ∃ m' τ, res mX3_seatBy [.ref 144, .ref 153, .ref 3] (G, m, ml) = some (none, (G, m', ml)) ∧ ShV m' 144 τ ∧ PR π τ σ ∧ Bk ke kl τ ∧ (∀ b, b < 144 ∨ 150 < b → m' b = m b) := by
  obtain ⟨⟨g0, g1, g2, g3, g4, g5, g6, g7, -⟩, ⟨s3, p10, s68, p75, s144⟩, -, -, -, ⟨o1, o2, o3, o4, o5, o6, o7, o8⟩, -⟩ := hG
  have b1 := hB.1.1
  have b2 := hB.1.2.1
  obtain ⟨-, -, -, -, -, -, b7, b8, b9, b10, b11, b12⟩ := hB.1
  have s3' := s3
  have s144' := s144
  obtain ⟨r0, ⟨r1, r2, r3, r4, r5, r6⟩, ⟨p1, p2, p3, p4, p5, p6⟩, k1, k2, k3, k4, k5, k6⟩ := s3
  obtain ⟨s0, ⟨s1, s2, s3, s4, s5, s6⟩, ⟨q1, q2, q3, q4, q5, q6⟩, l1, l2, l3, l4, l5, l6⟩ := s144
  obtain ⟨-, w1, w2, w3, w4, w5, w6⟩ := ShV_old h3
  let Pk : Nat → (Nat → Nat) → Prop := fun k τ => (∀ j, j < k → τ (46 + j) = σ (46 + π j) ∧ τ (5 + j) = σ (5 + π j)) ∧ (∀ h j, h < σ 45 → j < k → τ (10 + (h * 5 + j)) = σ (10 + (h * 5 + π j))) ∧ (∀ h, h < 5 → τ h = σ h ∧ τ (51 + h) = σ (51 + h)) ∧ τ 40 = σ 40 ∧ τ 41 = σ 41 ∧ τ 42 = σ 42 ∧ τ 44 = σ 44 ∧ τ 45 = σ 45
  have key : Wp mX3_seatBy 0 (ent [.ref 144, .ref 153, .ref 3] 6) [] (G, m, ml) (fun r μ' => ∃ m' τ, r = none ∧ μ' = (G, m', ml) ∧ ShV m' 144 τ ∧ Pk (σ 44) τ ∧ Bk ke kl τ ∧ (∀ b, b < 144 ∨ 150 < b → m' b = m b)) := by
    show Wp mX3_seatBy 0 [some (.ref 144), some (.ref 153), some (.ref 3), none, none, none] [] (G, m, ml) _
    generalize hQ : (fun (r : Option Value) (μ' : Mm) => ∃ m' τ, r = none ∧ μ' = (G, m', ml) ∧ ShV m' 144 τ ∧ Pk (σ 44) τ ∧ Bk ke kl τ ∧ (∀ b, b < 144 ∨ 150 < b → m' b = m b)) = Q
    simp (maxSteps := 1000000) (decide := true) (disch := (first | assumption | omega | exact Nat.div_mul_le_self _ _ | exact ni_nz (by omega) (by omega) | exact rfl | exact retOk_bI _ | exact retOk_0 | exact retOk_1)) only [eX3_seatBy_0, eX3_seatBy_1, eX3_seatBy_3, eX3_seatBy_4, eX3_seatBy_7, eX3_seatBy_10, eX3_seatBy_11, eX3_seatBy_14, eX3_seatBy_15, eX3_seatBy_16, eX3_seatBy_18, eX3_seatBy_19, eX3_seatBy_22, eX3_seatBy_23, eX3_seatBy_24, eX3_seatBy_27, eX3_seatBy_29, eX3_seatBy_30, eX3_seatBy_31, eX3_seatBy_32, eX3_seatBy_35, eX3_seatBy_36, eX3_seatBy_37, eX3_seatBy_40, eX3_seatBy_42, eX3_seatBy_43, eX3_seatBy_44, eX3_seatBy_45, eX3_seatBy_49, eX3_seatBy_50, eX3_seatBy_53, eX3_seatBy_56, eX3_seatBy_57, eX3_seatBy_60, eX3_seatBy_62, eX3_seatBy_63, eX3_seatBy_64, eX3_seatBy_65, eX3_seatBy_66, eX3_seatBy_67, eX3_seatBy_69, eX3_seatBy_71, eX3_seatBy_74, eX3_seatBy_75, eX3_seatBy_78, eX3_seatBy_81, eX3_seatBy_84, eX3_seatBy_87, WpR_some, Option.toList_some, Option.toList_none, List.cons_append, List.nil_append, List.append_nil, clr_n, clr_i, clr_a, ni_add, ni_mul, ni_sub, ni_lt, ni_le, ni_eq, ni_div, nat_mod_eq, ni_rem, iMax_nn, iMin_nn, iMax_sub, Nat.zero_max, bI_0, bI_1, bI_n0, up2_s, up2_n, up2_k, va_up_self, va_up_ne, ni_l, lN_mul, lN_add, ln_mask, lN_i, ↓reduceIte, if_true, if_false, not_true_eq_false, not_false_eq_true, ite_self, Nat.add_zero, Nat.zero_add, ent_def]
    refine wp_for (X := Option Value × Option Value) (fun i z => [some (.ref 144), some (.ref 153), some (.ref 3), some (.int (nI i)), z.1, z.2]) (fun i _ μ => ∃ m2 τ, μ = (G, m2, ml) ∧ ShV m2 144 τ ∧ Pk i τ ∧ Bk ke kl τ ∧ (∀ b, b < 144 ∨ 150 < b → m2 b = m b)) (σ 44) ?_ ?_ 0 (none, none) _ (Nat.zero_le _) ⟨m, σ, rfl, hV, ⟨fun j hj => absurd hj (Nat.not_lt_zero _), fun _ j _ hj => absurd hj (Nat.not_lt_zero _), fun _ _ => ⟨rfl, rfl⟩, rfl, rfl, rfl, rfl, rfl⟩, hB, fun _ _ => rfl⟩
    · rintro i ⟨z1, z2⟩ μ hi ⟨m2, τ, rfl, V2, P2, B2, F2⟩ kk
      have hlt : ¬ σ 44 ≤ i := by omega
      have hpi := hI.1 i hi
      have v0 : m2 144 0 = nI (σ 44) := by rw [(ShV_old V2).1.1, P2.2.2.2.2.2.2.1]
      have xo : m2 154 i = nI (π i) := by rw [F2 154 (by omega)]; exact (hO i hi).1
      have x1 : m2 4 (π i) = nI (σ (46 + π i)) := by rw [F2 4 (by omega)]; exact w1 _ hpi
      have x2 : m2 5 (π i) = nI (σ (5 + π i)) := by rw [F2 5 (by omega)]; exact w2 _ hpi
      have V3 := ShV_up (i := 46 + i) (v := σ (46 + π i)) V2 (by omega) (by omega) (by omega) (o := 145) (k := i) (by simp only [cO]; rw [if_neg (by omega), if_neg (by omega), if_neg (by omega), if_neg (by omega), if_neg (by omega), if_pos (by omega)]) (by simp only [cK]; rw [if_neg (by omega), if_neg (by omega), if_neg (by omega), if_neg (by omega), if_neg (by omega), if_neg (by omega), if_pos (by omega)]; omega)
      have V4 := ShV_up (i := 5 + i) (v := σ (5 + π i)) V3 (by omega) (by omega) (by omega) (o := 146) (k := i) (by simp only [cO]; rw [if_neg (by omega), if_pos (by omega)]) (by simp only [cK]; rw [if_neg (by omega), if_pos (by omega)]; omega)
      have y7 := b7 (π i) (by omega)
      have y8 := b8 (π i) (by omega)
      have B4 : Bk ke kl (upN (upN τ (46 + i) (σ (46 + π i))) (5 + i) (σ (5 + π i))) := Bk_up (Bk_up B2 (by omega) (by omega) (by omega) ⟨by omega, by omega, by omega, by omega, by omega, by omega, by omega, by omega, by omega, by omega, by omega, by omega⟩) (by omega) (by omega) (by omega) ⟨by omega, by omega, by omega, by omega, by omega, by omega, by omega, by omega, by omega, by omega, by omega, by omega⟩
      rw [eX3_seatBy_2]
      simp (maxSteps := 1000000) (decide := true) (disch := (first | assumption | omega | exact Nat.div_mul_le_self _ _ | exact ni_nz (by omega) (by omega) | exact rfl | exact retOk_bI _ | exact retOk_0 | exact retOk_1)) only [eX3_seatBy_0, eX3_seatBy_1, eX3_seatBy_3, eX3_seatBy_4, eX3_seatBy_7, eX3_seatBy_10, eX3_seatBy_11, eX3_seatBy_14, eX3_seatBy_15, eX3_seatBy_16, eX3_seatBy_18, eX3_seatBy_19, eX3_seatBy_22, eX3_seatBy_23, eX3_seatBy_24, eX3_seatBy_27, eX3_seatBy_29, eX3_seatBy_30, eX3_seatBy_31, eX3_seatBy_32, eX3_seatBy_35, eX3_seatBy_36, eX3_seatBy_37, eX3_seatBy_40, eX3_seatBy_42, eX3_seatBy_43, eX3_seatBy_44, eX3_seatBy_45, eX3_seatBy_49, eX3_seatBy_50, eX3_seatBy_53, eX3_seatBy_56, eX3_seatBy_57, eX3_seatBy_60, eX3_seatBy_62, eX3_seatBy_63, eX3_seatBy_64, eX3_seatBy_65, eX3_seatBy_66, eX3_seatBy_67, eX3_seatBy_69, eX3_seatBy_71, eX3_seatBy_74, eX3_seatBy_75, eX3_seatBy_78, eX3_seatBy_81, eX3_seatBy_84, eX3_seatBy_87, r1, r2, s1, s2, o2, v0, xo, x1, x2, hlt, WpR_some, Option.toList_some, Option.toList_none, List.cons_append, List.nil_append, List.append_nil, clr_n, clr_i, clr_a, ni_add, ni_mul, ni_sub, ni_lt, ni_le, ni_eq, ni_div, nat_mod_eq, ni_rem, iMax_nn, iMin_nn, iMax_sub, Nat.zero_max, bI_0, bI_1, bI_n0, up2_s, up2_n, up2_k, va_up_self, va_up_ne, ni_l, lN_mul, lN_add, ln_mask, lN_i, ↓reduceIte, if_true, if_false, not_true_eq_false, not_false_eq_true, ite_self, Nat.add_zero, Nat.zero_add, ent_def]
      refine wp_for (X := Unit) (fun g _ => [some (.ref 144), some (.ref 153), some (.ref 3), some (.int (nI i)), some (.int (nI (π i))), some (.int (nI g))]) (fun g _ μ => ∃ m3 τ3, μ = (G, m3, ml) ∧ ShV m3 144 τ3 ∧ (Pk i τ3 ∧ τ3 (46 + i) = σ (46 + π i) ∧ τ3 (5 + i) = σ (5 + π i) ∧ ∀ h, h < g → τ3 (10 + (h * 5 + i)) = σ (10 + (h * 5 + π i))) ∧ Bk ke kl τ3 ∧ (∀ b, b < 144 ∨ 150 < b → m3 b = m b)) (σ 45) ?_ ?_ 0 () _ (Nat.zero_le _) ⟨_, _, rfl, V4, ⟨?_, ?_, ?_, ?_⟩, B4, fun b hb => by rw [up2_n (by omega), up2_n (by omega)]; exact F2 b hb⟩
      · rintro g - μ hg ⟨m3, τ3, rfl, V5, ⟨P5, P6, P7, P8⟩, B5, F5⟩ kk2
        have hlt2 : ¬ σ 45 ≤ g := by omega
        have v1 : m3 144 1 = nI (σ 45) := by rw [(ShV_old V5).1.2.1, P5.2.2.2.2.2.2.2]
        have et := r_X3_timesHeard (m := m3) (ml := ml) (h := g) (t := π i) s3' (by omega) (by omega)
        have x6 : m3 9 (g * 5 + π i) = nI (σ (10 + (g * 5 + π i))) := by rw [F5 9 (by omega)]; exact w6 _ (by omega)
        rw [show 3 + 6 = 9 from rfl, x6] at et
        have V6 := ShV_up (i := 10 + (g * 5 + i)) (v := σ (10 + (g * 5 + π i))) V5 (by omega) (by omega) (by omega) (o := 150) (k := g * 5 + i) (by simp only [cO]; rw [if_neg (by omega), if_neg (by omega), if_pos (by omega)]) (by simp only [cK]; rw [if_neg (by omega), if_neg (by omega), if_pos (by omega)]; omega)
        have y12 := b12 (g * 5 + π i) (by omega)
        have B6 : Bk ke kl (upN τ3 (10 + (g * 5 + i)) (σ (10 + (g * 5 + π i)))) := Bk_up B5 (by omega) (by omega) (by omega) ⟨by omega, by omega, by omega, by omega, by omega, by omega, by omega, by omega, by omega, by omega, by omega, by omega⟩
        rw [eX3_seatBy_47]
        simp (maxSteps := 1000000) (decide := true) (disch := (first | assumption | omega | exact Nat.div_mul_le_self _ _ | exact ni_nz (by omega) (by omega) | exact rfl | exact retOk_bI _ | exact retOk_0 | exact retOk_1)) only [eX3_seatBy_0, eX3_seatBy_1, eX3_seatBy_3, eX3_seatBy_4, eX3_seatBy_7, eX3_seatBy_10, eX3_seatBy_11, eX3_seatBy_14, eX3_seatBy_15, eX3_seatBy_16, eX3_seatBy_18, eX3_seatBy_19, eX3_seatBy_22, eX3_seatBy_23, eX3_seatBy_24, eX3_seatBy_27, eX3_seatBy_29, eX3_seatBy_30, eX3_seatBy_31, eX3_seatBy_32, eX3_seatBy_35, eX3_seatBy_36, eX3_seatBy_37, eX3_seatBy_40, eX3_seatBy_42, eX3_seatBy_43, eX3_seatBy_44, eX3_seatBy_45, eX3_seatBy_49, eX3_seatBy_50, eX3_seatBy_53, eX3_seatBy_56, eX3_seatBy_57, eX3_seatBy_60, eX3_seatBy_62, eX3_seatBy_63, eX3_seatBy_64, eX3_seatBy_65, eX3_seatBy_66, eX3_seatBy_67, eX3_seatBy_69, eX3_seatBy_71, eX3_seatBy_74, eX3_seatBy_75, eX3_seatBy_78, eX3_seatBy_81, eX3_seatBy_84, eX3_seatBy_87, r6, s6, v1, et, hlt2, WpR_some, Option.toList_some, Option.toList_none, List.cons_append, List.nil_append, List.append_nil, clr_n, clr_i, clr_a, ni_add, ni_mul, ni_sub, ni_lt, ni_le, ni_eq, ni_div, nat_mod_eq, ni_rem, iMax_nn, iMin_nn, iMax_sub, Nat.zero_max, bI_0, bI_1, bI_n0, up2_s, up2_n, up2_k, va_up_self, va_up_ne, ni_l, lN_mul, lN_add, ln_mask, lN_i, ↓reduceIte, if_true, if_false, not_true_eq_false, not_false_eq_true, ite_self, Nat.add_zero, Nat.zero_add, ent_def]
        refine kk2 () _ ⟨_, _, rfl, V6, ⟨⟨?_, ?_, ?_, ?_, ?_, ?_, ?_, ?_⟩, ?_, ?_, ?_⟩, B6, fun b hb => by rw [up2_n (by omega)]; exact F5 b hb⟩
        · intro j hj; rw [upN_n (by omega), upN_n (by omega)]; exact P5.1 j hj
        · intro h j hh hj; rw [upN_n (by omega)]; exact P5.2.1 h j hh hj
        · intro h hh; rw [upN_n (by omega), upN_n (by omega)]; exact P5.2.2.1 h hh
        · rw [upN_n (by omega)]; exact P5.2.2.2.1
        · rw [upN_n (by omega)]; exact P5.2.2.2.2.1
        · rw [upN_n (by omega)]; exact P5.2.2.2.2.2.1
        · rw [upN_n (by omega)]; exact P5.2.2.2.2.2.2.1
        · rw [upN_n (by omega)]; exact P5.2.2.2.2.2.2.2
        · rw [upN_n (by omega)]; exact P6
        · rw [upN_n (by omega)]; exact P7
        · intro h hh
          by_cases hq : h = g
          · rw [hq, upN_s]
          · rw [upN_n (by omega)]; exact P8 h (by omega)
      · rintro - μ ⟨m3, τ3, rfl, V5, ⟨P5, P6, P7, P8⟩, B5, F5⟩
        have v1 : m3 144 1 = nI (σ 45) := by rw [(ShV_old V5).1.2.1, P5.2.2.2.2.2.2.2]
        rw [eX3_seatBy_47]
        simp (maxSteps := 1000000) (decide := true) (disch := (first | assumption | omega | exact Nat.div_mul_le_self _ _ | exact ni_nz (by omega) (by omega) | exact rfl | exact retOk_bI _ | exact retOk_0 | exact retOk_1)) only [eX3_seatBy_0, eX3_seatBy_1, eX3_seatBy_3, eX3_seatBy_4, eX3_seatBy_7, eX3_seatBy_10, eX3_seatBy_11, eX3_seatBy_14, eX3_seatBy_15, eX3_seatBy_16, eX3_seatBy_18, eX3_seatBy_19, eX3_seatBy_22, eX3_seatBy_23, eX3_seatBy_24, eX3_seatBy_27, eX3_seatBy_29, eX3_seatBy_30, eX3_seatBy_31, eX3_seatBy_32, eX3_seatBy_35, eX3_seatBy_36, eX3_seatBy_37, eX3_seatBy_40, eX3_seatBy_42, eX3_seatBy_43, eX3_seatBy_44, eX3_seatBy_45, eX3_seatBy_49, eX3_seatBy_50, eX3_seatBy_53, eX3_seatBy_56, eX3_seatBy_57, eX3_seatBy_60, eX3_seatBy_62, eX3_seatBy_63, eX3_seatBy_64, eX3_seatBy_65, eX3_seatBy_66, eX3_seatBy_67, eX3_seatBy_69, eX3_seatBy_71, eX3_seatBy_74, eX3_seatBy_75, eX3_seatBy_78, eX3_seatBy_81, eX3_seatBy_84, eX3_seatBy_87, v1, Nat.le_refl, WpR_some, Option.toList_some, Option.toList_none, List.cons_append, List.nil_append, List.append_nil, clr_n, clr_i, clr_a, ni_add, ni_mul, ni_sub, ni_lt, ni_le, ni_eq, ni_div, nat_mod_eq, ni_rem, iMax_nn, iMin_nn, iMax_sub, Nat.zero_max, bI_0, bI_1, bI_n0, up2_s, up2_n, up2_k, va_up_self, va_up_ne, ni_l, lN_mul, lN_add, ln_mask, lN_i, ↓reduceIte, if_true, if_false, not_true_eq_false, not_false_eq_true, ite_self, Nat.add_zero, Nat.zero_add, ent_def]
        refine kk (_, _) _ ⟨m3, τ3, rfl, V5, ⟨?_, ?_, P5.2.2.1, P5.2.2.2.1, P5.2.2.2.2.1, P5.2.2.2.2.2.1, P5.2.2.2.2.2.2.1, P5.2.2.2.2.2.2.2⟩, B5, F5⟩
        · intro j hj
          by_cases hq : j = i
          · rw [hq]; exact ⟨P6, P7⟩
          · exact P5.1 j (by omega)
        · intro h j hh hj
          by_cases hq : j = i
          · rw [hq]; exact P8 h hh
          · exact P5.2.1 h j hh (by omega)
      · refine ⟨?_, ?_, ?_, ?_, ?_, ?_, ?_, ?_⟩
        · intro j hj; rw [upN_n (by omega), upN_n (by omega), upN_n (by omega), upN_n (by omega)]; exact P2.1 j hj
        · intro h j hh hj; rw [upN_n (by omega), upN_n (by omega)]; exact P2.2.1 h j hh hj
        · intro h hh; rw [upN_n (by omega), upN_n (by omega), upN_n (by omega), upN_n (by omega)]; exact P2.2.2.1 h hh
        · rw [upN_n (by omega), upN_n (by omega)]; exact P2.2.2.2.1
        · rw [upN_n (by omega), upN_n (by omega)]; exact P2.2.2.2.2.1
        · rw [upN_n (by omega), upN_n (by omega)]; exact P2.2.2.2.2.2.1
        · rw [upN_n (by omega), upN_n (by omega)]; exact P2.2.2.2.2.2.2.1
        · rw [upN_n (by omega), upN_n (by omega)]; exact P2.2.2.2.2.2.2.2
      · rw [upN_n (by omega), upN_s]
      · rw [upN_s]
      · intro h hh; exact absurd hh (Nat.not_lt_zero _)
    · rintro ⟨z1, z2⟩ μ ⟨m2, τ, rfl, V2, P2, B2, F2⟩
      have v0 : m2 144 0 = nI (σ 44) := by rw [(ShV_old V2).1.1, P2.2.2.2.2.2.2.1]
      rw [eX3_seatBy_2]
      simp (maxSteps := 1000000) (decide := true) (disch := (first | assumption | omega | exact Nat.div_mul_le_self _ _ | exact ni_nz (by omega) (by omega) | exact rfl | exact retOk_bI _ | exact retOk_0 | exact retOk_1)) only [eX3_seatBy_0, eX3_seatBy_1, eX3_seatBy_3, eX3_seatBy_4, eX3_seatBy_7, eX3_seatBy_10, eX3_seatBy_11, eX3_seatBy_14, eX3_seatBy_15, eX3_seatBy_16, eX3_seatBy_18, eX3_seatBy_19, eX3_seatBy_22, eX3_seatBy_23, eX3_seatBy_24, eX3_seatBy_27, eX3_seatBy_29, eX3_seatBy_30, eX3_seatBy_31, eX3_seatBy_32, eX3_seatBy_35, eX3_seatBy_36, eX3_seatBy_37, eX3_seatBy_40, eX3_seatBy_42, eX3_seatBy_43, eX3_seatBy_44, eX3_seatBy_45, eX3_seatBy_49, eX3_seatBy_50, eX3_seatBy_53, eX3_seatBy_56, eX3_seatBy_57, eX3_seatBy_60, eX3_seatBy_62, eX3_seatBy_63, eX3_seatBy_64, eX3_seatBy_65, eX3_seatBy_66, eX3_seatBy_67, eX3_seatBy_69, eX3_seatBy_71, eX3_seatBy_74, eX3_seatBy_75, eX3_seatBy_78, eX3_seatBy_81, eX3_seatBy_84, eX3_seatBy_87, v0, Nat.le_refl, WpR_some, Option.toList_some, Option.toList_none, List.cons_append, List.nil_append, List.append_nil, clr_n, clr_i, clr_a, ni_add, ni_mul, ni_sub, ni_lt, ni_le, ni_eq, ni_div, nat_mod_eq, ni_rem, iMax_nn, iMin_nn, iMax_sub, Nat.zero_max, bI_0, bI_1, bI_n0, up2_s, up2_n, up2_k, va_up_self, va_up_ne, ni_l, lN_mul, lN_add, ln_mask, lN_i, ↓reduceIte, if_true, if_false, not_true_eq_false, not_false_eq_true, ite_self, Nat.add_zero, Nat.zero_add, ent_def]
      rw [← hQ]
      exact ⟨m2, τ, rfl, rfl, V2, P2, B2, F2⟩
  obtain ⟨r, μ', e1, m', τ, rfl, rfl, h2, h3, h4, h5⟩ := res_ex key
  exact ⟨m', τ, e1, h2, ⟨h3.1, h3.2.1, fun h hh => h3.2.2.1 h (by omega), h3.2.2.2⟩, h4, h5⟩
end SEA
