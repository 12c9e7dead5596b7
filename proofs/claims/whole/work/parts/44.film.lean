section FLM
variable {G : List AT} {m : Nat → Nat → Int32} {ml : Nat → Nat → Int64} {a n s h t x y z k l p q r g cx cy : Nat} {σ ρ : Nat → Nat} {u v w i j c d e : Int32} {f : Nat → Nat → Nat} {μ : Mm} {on : Nat → Bool} {ln sz : Nat → Nat} {it : Nat → Nat → Int64}
def flI (it : Nat → Nat → Int64) (σ : Nat → Nat) (h s x l n : Nat) : Nat → Nat → Int64 := fun a b => if a = s ∧ x ≤ b ∧ b < x + n then cutL l (lN (itP id σ (b - x + 1) h)) else it a b
theorem flI_0 : flI it σ h s x l 0 = it := by
  funext a b
  unfold flI
  rw [if_neg (by omega)]
theorem flI_s : upI (flI it σ h s x l n) s (x + n) (cutL l (lN (itP id σ (n + 1) h))) = flI it σ h s x l (n + 1) := by
  funext a b
  unfold upI flI
  by_cases z1 : a = s ∧ b = x + n
  · rw [if_pos z1, if_pos ⟨z1.1, by omega, by omega⟩, show b - x = n by omega]
  · rw [if_neg z1]
    by_cases z2 : a = s ∧ x ≤ b ∧ b < x + n
    · rw [if_pos z2, if_pos ⟨z2.1, by omega, by omega⟩]
    · rw [if_neg z2, if_neg (by omega)]
theorem rfs_0 (h : rfs on ln sz s l i (nI n) = nI 0) (hsz : on s = true → sz s ≤ 24) (hn : n < 1000) : on s = true ∧ ln s = l ∧ ∃ x, i = nI x ∧ x + n ≤ 24 := by
  unfold rfs at h
  by_cases ho : on s = false
  · rw [if_pos ho] at h; exact absurd h (by decide)
  · rw [if_neg ho] at h
    have ho : on s = true := by
      cases hq : on s
      · exact absurd hq ho
      · rfl
    by_cases hl : ln s = l
    · rw [if_pos hl] at h
      cases hq : spn (sz s) i (nI n)
      · rw [hq] at h; exact absurd h (by decide)
      · obtain ⟨x, h1, h2⟩ := spn_1 (hsz ho) hq hn
        have := hsz ho
        exact ⟨ho, hl, x, h1, by omega⟩
    · rw [if_neg hl] at h; exact absurd h (by decide)
theorem c_film_bad (hG : GW G) (hC : CA m σ k f) (h : (isN u (σ 45) && rg v 1 24 && isN w 4 && isN c 4) = false) : res mX6_film [.ref 2, .int u, .int v, .int w, .int c, .int i] (G, m, ml) = some (some (.int (-1)), (G, m, ml)) := by
  have e := r_X6_isHearer (ml := ml) (v := u) hG hC.1
  obtain ⟨⟨g0, g1, -⟩, -⟩ := hG
  apply res_of
  show Wp mX6_film 0 [some (.ref 2), some (.int u), some (.int v), some (.int w), some (.int c), some (.int i), none, none, none] [] (G, m, ml) _
  cases h1 : isN u (σ 45)
  · rw [h1] at e
    simp (maxSteps := 1000000) (decide := true) (disch := (first | assumption | omega | exact Nat.div_mul_le_self _ _ | exact ni_nz (by omega) (by omega) | exact rfl | exact retOk_bI _ | exact retOk_0 | exact retOk_1)) only [eX6_film_0, eX6_film_1, eX6_film_2, eX6_film_5, eX6_film_8, eX6_film_9, eX6_film_10, eX6_film_12, eX6_film_15, eX6_film_18, eX6_film_19, eX6_film_22, eX6_film_25, eX6_film_27, eX6_film_30, eX6_film_33, eX6_film_34, eX6_film_35, eX6_film_36, eX6_film_39, eX6_film_40, eX6_film_41, eX6_film_43, eX6_film_45, eX6_film_47, eX6_film_49, eX6_film_50, eX6_film_53, eX6_film_55, eX6_film_57, eX6_film_60, eX6_film_62, eX6_film_63, eX6_film_64, eX6_film_67, eX6_film_68, eX6_film_71, eX6_film_74, eX6_film_75, eX6_film_79, eX6_film_80, eX6_film_83, eX6_film_84, eX6_film_87, eX6_film_88, eX6_film_91, eX6_film_92, eX6_film_94, eX6_film_96, eX6_film_98, eX6_film_99, eX6_film_100, eX6_film_103, eX6_film_106, eX6_film_107, eX6_film_108, eX6_film_109, eX6_film_112, eX6_film_115, eX6_film_118, eX6_film_119, e, WpR_some, Option.toList_some, Option.toList_none, List.cons_append, List.nil_append, List.append_nil, clr_n, clr_i, clr_a, ni_add, ni_mul, ni_sub, ni_lt, ni_le, ni_eq, ni_div, nat_mod_eq, ni_rem, iMax_nn, iMin_nn, iMax_sub, Nat.zero_max, bI_0, bI_1, bI_n0, up2_s, up2_n, up2_k, va_up_self, va_up_ne, ni_l, lN_mul, lN_add, ln_mask, lN_i, ↓reduceIte, if_true, if_false, not_true_eq_false, not_false_eq_true, ite_self, Nat.add_zero, Nat.zero_add, ent_def]
  · rw [h1] at e
    cases h2 : rg v 1 24
    · simp (maxSteps := 1000000) (decide := true) (disch := (first | assumption | omega | exact Nat.div_mul_le_self _ _ | exact ni_nz (by omega) (by omega) | exact rfl | exact retOk_bI _ | exact retOk_0 | exact retOk_1)) only [eX6_film_0, eX6_film_1, eX6_film_2, eX6_film_5, eX6_film_8, eX6_film_9, eX6_film_10, eX6_film_12, eX6_film_15, eX6_film_18, eX6_film_19, eX6_film_22, eX6_film_25, eX6_film_27, eX6_film_30, eX6_film_33, eX6_film_34, eX6_film_35, eX6_film_36, eX6_film_39, eX6_film_40, eX6_film_41, eX6_film_43, eX6_film_45, eX6_film_47, eX6_film_49, eX6_film_50, eX6_film_53, eX6_film_55, eX6_film_57, eX6_film_60, eX6_film_62, eX6_film_63, eX6_film_64, eX6_film_67, eX6_film_68, eX6_film_71, eX6_film_74, eX6_film_75, eX6_film_79, eX6_film_80, eX6_film_83, eX6_film_84, eX6_film_87, eX6_film_88, eX6_film_91, eX6_film_92, eX6_film_94, eX6_film_96, eX6_film_98, eX6_film_99, eX6_film_100, eX6_film_103, eX6_film_106, eX6_film_107, eX6_film_108, eX6_film_109, eX6_film_112, eX6_film_115, eX6_film_118, eX6_film_119, e, r_X6_wi, h2, WpR_some, Option.toList_some, Option.toList_none, List.cons_append, List.nil_append, List.append_nil, clr_n, clr_i, clr_a, ni_add, ni_mul, ni_sub, ni_lt, ni_le, ni_eq, ni_div, nat_mod_eq, ni_rem, iMax_nn, iMin_nn, iMax_sub, Nat.zero_max, bI_0, bI_1, bI_n0, up2_s, up2_n, up2_k, va_up_self, va_up_ne, ni_l, lN_mul, lN_add, ln_mask, lN_i, ↓reduceIte, if_true, if_false, not_true_eq_false, not_false_eq_true, ite_self, Nat.add_zero, Nat.zero_add, ent_def]
    · cases h3 : isN w 4
      · simp (maxSteps := 1000000) (decide := true) (disch := (first | assumption | omega | exact Nat.div_mul_le_self _ _ | exact ni_nz (by omega) (by omega) | exact rfl | exact retOk_bI _ | exact retOk_0 | exact retOk_1)) only [eX6_film_0, eX6_film_1, eX6_film_2, eX6_film_5, eX6_film_8, eX6_film_9, eX6_film_10, eX6_film_12, eX6_film_15, eX6_film_18, eX6_film_19, eX6_film_22, eX6_film_25, eX6_film_27, eX6_film_30, eX6_film_33, eX6_film_34, eX6_film_35, eX6_film_36, eX6_film_39, eX6_film_40, eX6_film_41, eX6_film_43, eX6_film_45, eX6_film_47, eX6_film_49, eX6_film_50, eX6_film_53, eX6_film_55, eX6_film_57, eX6_film_60, eX6_film_62, eX6_film_63, eX6_film_64, eX6_film_67, eX6_film_68, eX6_film_71, eX6_film_74, eX6_film_75, eX6_film_79, eX6_film_80, eX6_film_83, eX6_film_84, eX6_film_87, eX6_film_88, eX6_film_91, eX6_film_92, eX6_film_94, eX6_film_96, eX6_film_98, eX6_film_99, eX6_film_100, eX6_film_103, eX6_film_106, eX6_film_107, eX6_film_108, eX6_film_109, eX6_film_112, eX6_film_115, eX6_film_118, eX6_film_119, e, r_X6_wi, h2, r_X6_isSheet, h3, WpR_some, Option.toList_some, Option.toList_none, List.cons_append, List.nil_append, List.append_nil, clr_n, clr_i, clr_a, ni_add, ni_mul, ni_sub, ni_lt, ni_le, ni_eq, ni_div, nat_mod_eq, ni_rem, iMax_nn, iMin_nn, iMax_sub, Nat.zero_max, bI_0, bI_1, bI_n0, up2_s, up2_n, up2_k, va_up_self, va_up_ne, ni_l, lN_mul, lN_add, ln_mask, lN_i, ↓reduceIte, if_true, if_false, not_true_eq_false, not_false_eq_true, ite_self, Nat.add_zero, Nat.zero_add, ent_def]
      · rw [h1, h2, h3, Bool.true_and, Bool.true_and, Bool.true_and] at h
        simp (maxSteps := 1000000) (decide := true) (disch := (first | assumption | omega | exact Nat.div_mul_le_self _ _ | exact ni_nz (by omega) (by omega) | exact rfl | exact retOk_bI _ | exact retOk_0 | exact retOk_1)) only [eX6_film_0, eX6_film_1, eX6_film_2, eX6_film_5, eX6_film_8, eX6_film_9, eX6_film_10, eX6_film_12, eX6_film_15, eX6_film_18, eX6_film_19, eX6_film_22, eX6_film_25, eX6_film_27, eX6_film_30, eX6_film_33, eX6_film_34, eX6_film_35, eX6_film_36, eX6_film_39, eX6_film_40, eX6_film_41, eX6_film_43, eX6_film_45, eX6_film_47, eX6_film_49, eX6_film_50, eX6_film_53, eX6_film_55, eX6_film_57, eX6_film_60, eX6_film_62, eX6_film_63, eX6_film_64, eX6_film_67, eX6_film_68, eX6_film_71, eX6_film_74, eX6_film_75, eX6_film_79, eX6_film_80, eX6_film_83, eX6_film_84, eX6_film_87, eX6_film_88, eX6_film_91, eX6_film_92, eX6_film_94, eX6_film_96, eX6_film_98, eX6_film_99, eX6_film_100, eX6_film_103, eX6_film_106, eX6_film_107, eX6_film_108, eX6_film_109, eX6_film_112, eX6_film_115, eX6_film_118, eX6_film_119, e, r_X6_wi, h2, r_X6_isSheet, h3, r_X6_isLane, h, WpR_some, Option.toList_some, Option.toList_none, List.cons_append, List.nil_append, List.append_nil, clr_n, clr_i, clr_a, ni_add, ni_mul, ni_sub, ni_lt, ni_le, ni_eq, ni_div, nat_mod_eq, ni_rem, iMax_nn, iMin_nn, iMax_sub, Nat.zero_max, bI_0, bI_1, bI_n0, up2_s, up2_n, up2_k, va_up_self, va_up_ne, ni_l, lN_mul, lN_add, ln_mask, lN_i, ↓reduceIte, if_true, if_false, not_true_eq_false, not_false_eq_true, ite_self, Nat.add_zero, Nat.zero_add, ent_def]
theorem c_film_no (hG : GW G) (hC : CA m σ k f) (hB : Bd σ) (hS : CS m ml on ln sz it) (hh : h < σ 45) (h1 : 1 ≤ n) (h2 : n ≤ 24) (hs : s < 4) (hl : l < 4) (hr : rfs on ln sz s l i (nI n) ≠ nI 0) : res mX6_film [.ref 2, .int (nI h), .int (nI n), .int (nI s), .int (nI l), .int i] (G, m, ml) = some (some (.int (rfs on ln sz s l i (nI n))), (G, m, ml)) := by
  have b2 := hB.2.1
  have e := r_X6_isHearer (ml := ml) (v := nI h) hG hC.1
  rw [isN_t hh (by omega)] at e
  have hr1 := rg_t (j := n) h1 h2 (by decide)
  have h3 := isN_t hs (by decide)
  have h4 := isN_t hl (by decide)
  have e1 := r_X2_refuse (ml := ml) (i := i) (w := nI n) hG hS hs hl
  obtain ⟨⟨g0, g1, g2, g3, g4, g5, g6, g7, -⟩, -, -, ⟨r01, r02, r00⟩, -⟩ := hG
  obtain ⟨r1, r2, r3, r4, r5⟩ := r00 s hs
  apply res_of
  show Wp mX6_film 0 [some (.ref 2), some (.int (nI h)), some (.int (nI n)), some (.int (nI s)), some (.int (nI l)), some (.int i), none, none, none] [] (G, m, ml) _
  simp (maxSteps := 1000000) (decide := true) (disch := (first | assumption | omega | exact Nat.div_mul_le_self _ _ | exact ni_nz (by omega) (by omega) | exact rfl | exact retOk_bI _ | exact retOk_0 | exact retOk_1)) only [eX6_film_0, eX6_film_1, eX6_film_2, eX6_film_5, eX6_film_8, eX6_film_9, eX6_film_10, eX6_film_12, eX6_film_15, eX6_film_18, eX6_film_19, eX6_film_22, eX6_film_25, eX6_film_27, eX6_film_30, eX6_film_33, eX6_film_34, eX6_film_35, eX6_film_36, eX6_film_39, eX6_film_40, eX6_film_41, eX6_film_43, eX6_film_45, eX6_film_47, eX6_film_49, eX6_film_50, eX6_film_53, eX6_film_55, eX6_film_57, eX6_film_60, eX6_film_62, eX6_film_63, eX6_film_64, eX6_film_67, eX6_film_68, eX6_film_71, eX6_film_74, eX6_film_75, eX6_film_79, eX6_film_80, eX6_film_83, eX6_film_84, eX6_film_87, eX6_film_88, eX6_film_91, eX6_film_92, eX6_film_94, eX6_film_96, eX6_film_98, eX6_film_99, eX6_film_100, eX6_film_103, eX6_film_106, eX6_film_107, eX6_film_108, eX6_film_109, eX6_film_112, eX6_film_115, eX6_film_118, eX6_film_119, e, r_X6_wi, hr1, r_X6_isSheet, h3, r_X6_isLane, h4, g6, r1, e1, hr, WpR_some, Option.toList_some, Option.toList_none, List.cons_append, List.nil_append, List.append_nil, clr_n, clr_i, clr_a, ni_add, ni_mul, ni_sub, ni_lt, ni_le, ni_eq, ni_div, nat_mod_eq, ni_rem, iMax_nn, iMin_nn, iMax_sub, Nat.zero_max, bI_0, bI_1, bI_n0, up2_s, up2_n, up2_k, va_up_self, va_up_ne, ni_l, lN_mul, lN_add, ln_mask, lN_i, ↓reduceIte, if_true, if_false, not_true_eq_false, not_false_eq_true, ite_self, Nat.add_zero, Nat.zero_add, ent_def]
theorem c_film (hG : GW G) (hC : CA m σ k f) (hO : Ok σ) (hS : CS m ml on ln sz it) (hh : h < σ 45) (h1 : 1 ≤ n) (h2 : n ≤ 24) (hs : s < 4) (hl : l < 4) (hr : rfs on ln sz s l (nI x) (nI n) = nI 0) (ho : on s = true) (hls : ln s = l) (hx : x + n ≤ 24) : ∃ m' ml', res mX6_film [.ref 2, .int (nI h), .int (nI n), .int (nI s), .int (nI l), .int (nI x)] (G, m, ml) = some (some (.int (nI n)), (G, m', ml')) ∧ CS m' ml' on ln sz (flI it σ h s x l n) ∧ FT m m' ∧ (∀ b, 144 ≤ b → ml' b = ml b) := by
  have b1 := hO.1.1
  have b2 := hO.1.2.1
  have e := r_X6_isHearer (ml := ml) (v := nI h) hG hC.1
  rw [isN_t hh (by omega)] at e
  have hr1 := rg_t (j := n) h1 h2 (by decide)
  have h3 := isN_t hs (by decide)
  have h4 := isN_t hl (by decide)
  have e1 := r_X2_refuse (ml := ml) (i := nI x) (w := nI n) hG hS hs hl
  rw [hr] at e1
  have hG0 := hG
  obtain ⟨⟨g0, g1, g2, g3, g4, g5, g6, g7, -⟩, ⟨s3, p10, s68, p75, s144⟩, -, ⟨r01, r02, r00⟩, -⟩ := hG
  obtain ⟨r1, r2, r3, r4, r5⟩ := r00 s hs
  have s144' := s144
  obtain ⟨q0, ⟨q1, q2, q3, q4, q5, q6⟩, ⟨f1, f2, f3, f4, f5, f6⟩, k1, k2, k3, k4, k5, k6⟩ := s144
  obtain ⟨m1, eb, V1, F1⟩ := r_X3_become (m := m) (ml := ml) s144' s3 (by omega)
  have key : Wp mX6_film 0 (ent [.ref 2, .int (nI h), .int (nI n), .int (nI s), .int (nI l), .int (nI x)] 9) [] (G, m, ml) (fun r μ' => ∃ m' ml', r = some (.int (nI n)) ∧ μ' = (G, m', ml') ∧ CS m' ml' on ln sz (flI it σ h s x l n) ∧ FT m m' ∧ (∀ b, 144 ≤ b → ml' b = ml b)) := by
    show Wp mX6_film 0 [some (.ref 2), some (.int (nI h)), some (.int (nI n)), some (.int (nI s)), some (.int (nI l)), some (.int (nI x)), none, none, none] [] (G, m, ml) _
    generalize hQ : (fun (r : Option Value) (μ' : Mm) => ∃ m' ml', r = some (.int (nI n)) ∧ μ' = (G, m', ml') ∧ CS m' ml' on ln sz (flI it σ h s x l n) ∧ FT m m' ∧ (∀ b, 144 ≤ b → ml' b = ml b)) = Q
    simp (maxSteps := 1000000) (decide := true) (disch := (first | assumption | omega | exact Nat.div_mul_le_self _ _ | exact ni_nz (by omega) (by omega) | exact rfl | exact retOk_bI _ | exact retOk_0 | exact retOk_1)) only [eX6_film_0, eX6_film_1, eX6_film_2, eX6_film_5, eX6_film_8, eX6_film_9, eX6_film_10, eX6_film_12, eX6_film_15, eX6_film_18, eX6_film_19, eX6_film_22, eX6_film_25, eX6_film_27, eX6_film_30, eX6_film_33, eX6_film_34, eX6_film_35, eX6_film_36, eX6_film_39, eX6_film_40, eX6_film_41, eX6_film_43, eX6_film_45, eX6_film_47, eX6_film_49, eX6_film_50, eX6_film_53, eX6_film_55, eX6_film_57, eX6_film_60, eX6_film_62, eX6_film_63, eX6_film_64, eX6_film_67, eX6_film_68, eX6_film_71, eX6_film_74, eX6_film_75, eX6_film_79, eX6_film_80, eX6_film_83, eX6_film_84, eX6_film_87, eX6_film_88, eX6_film_91, eX6_film_92, eX6_film_94, eX6_film_96, eX6_film_98, eX6_film_99, eX6_film_100, eX6_film_103, eX6_film_106, eX6_film_107, eX6_film_108, eX6_film_109, eX6_film_112, eX6_film_115, eX6_film_118, eX6_film_119, e, r_X6_wi, hr1, r_X6_isSheet, h3, r_X6_isLane, h4, g1, g6, g7, r1, e1, eb, WpR_some, Option.toList_some, Option.toList_none, List.cons_append, List.nil_append, List.append_nil, clr_n, clr_i, clr_a, ni_add, ni_mul, ni_sub, ni_lt, ni_le, ni_eq, ni_div, nat_mod_eq, ni_rem, iMax_nn, iMin_nn, iMax_sub, Nat.zero_max, bI_0, bI_1, bI_n0, up2_s, up2_n, up2_k, va_up_self, va_up_ne, ni_l, lN_mul, lN_add, ln_mask, lN_i, ↓reduceIte, if_true, if_false, not_true_eq_false, not_false_eq_true, ite_self, Nat.add_zero, Nat.zero_add, ent_def]
    refine wp_for (X := Unit) (fun i _ => [some (.ref 2), some (.int (nI h)), some (.int (nI n)), some (.int (nI s)), some (.int (nI l)), some (.int (nI x)), some (.ref (136 + 2 * s)), some (.int (nI 0)), some (.int (nI i))]) (fun i _ μ => ∃ m2 ml2, μ = (G, m2, ml2) ∧ ShV m2 144 (itO h σ i) ∧ CS m2 ml2 on ln sz (flI it σ h s x l i) ∧ FT m m2 ∧ (∀ b, 144 ≤ b → ml2 b = ml b)) n ?_ ?_ 0 () _ (Nat.zero_le _) ⟨m1, ml, rfl, V1 σ hC.1, by rw [flI_0]; exact CS_fr hS (fun b z1 z2 => F1 b (by omega)), fun b hb => F1 b (by omega), fun _ _ => rfl⟩
    · rintro i - μ hi ⟨m2, ml2, rfl, V2, S2, F2, L2⟩ kk
      have hlt : ¬ n ≤ i := by omega
      obtain ⟨m3, e3, V3, F3⟩ := r_X3_passEveningOf (ml := ml2) (h := h) (ke := 0) (kl := 0) s144' V2 (Bk_itO hh (Bk_mono (Ok_Bk hO) (by omega) (by omega))) (by rw [itO_45 hh b2 b1]; exact hh)
      have V3' : ShV m3 144 (itO h σ (i + 1)) := V3
      have x4 := (ShV_old V3').2.2.2.2.1 h (by rw [itO_45 hh b2 b1]; exact hh)
      rw [(itO_ag hh b2 b1 (i + 1)).1] at x4
      have y9 := (Bk_itP (ke := 0) (kl := 0) (n := i + 1) (π := id) (Bk_mono (Ok_Bk hO) (by omega) (by omega)) (fun j hj => hj)).1.2.2.2.2.2.2.2.2.1 h (by omega)
      have S3 : CS m3 ml2 on ln sz (flI it σ h s x l i) := CS_fr S2 (fun b z1 z2 => F3 b (by omega))
      have e4 := r_X2_put (e := lN (itP id σ (i + 1) h)) (x := x + i) hG0 S3 hs ho (by omega)
      have S4 := CS_put (e := cutL (ln s) (lN (itP id σ (i + 1) h))) (x := x + i) S3 hs (by omega)
      rw [hls] at S4
      rw [flI_s] at S4
      rw [hls] at e4
      rw [eX6_film_77]
      simp (maxSteps := 1000000) (decide := true) (disch := (first | assumption | omega | exact Nat.div_mul_le_self _ _ | exact ni_nz (by omega) (by omega) | exact rfl | exact retOk_bI _ | exact retOk_0 | exact retOk_1)) only [eX6_film_0, eX6_film_1, eX6_film_2, eX6_film_5, eX6_film_8, eX6_film_9, eX6_film_10, eX6_film_12, eX6_film_15, eX6_film_18, eX6_film_19, eX6_film_22, eX6_film_25, eX6_film_27, eX6_film_30, eX6_film_33, eX6_film_34, eX6_film_35, eX6_film_36, eX6_film_39, eX6_film_40, eX6_film_41, eX6_film_43, eX6_film_45, eX6_film_47, eX6_film_49, eX6_film_50, eX6_film_53, eX6_film_55, eX6_film_57, eX6_film_60, eX6_film_62, eX6_film_63, eX6_film_64, eX6_film_67, eX6_film_68, eX6_film_71, eX6_film_74, eX6_film_75, eX6_film_79, eX6_film_80, eX6_film_83, eX6_film_84, eX6_film_87, eX6_film_88, eX6_film_91, eX6_film_92, eX6_film_94, eX6_film_96, eX6_film_98, eX6_film_99, eX6_film_100, eX6_film_103, eX6_film_106, eX6_film_107, eX6_film_108, eX6_film_109, eX6_film_112, eX6_film_115, eX6_film_118, eX6_film_119, g7, q4, e3, x4, e4, hlt, WpR_some, Option.toList_some, Option.toList_none, List.cons_append, List.nil_append, List.append_nil, clr_n, clr_i, clr_a, ni_add, ni_mul, ni_sub, ni_lt, ni_le, ni_eq, ni_div, nat_mod_eq, ni_rem, iMax_nn, iMin_nn, iMax_sub, Nat.zero_max, bI_0, bI_1, bI_n0, up2_s, up2_n, up2_k, va_up_self, va_up_ne, ni_l, lN_mul, lN_add, ln_mask, lN_i, ↓reduceIte, if_true, if_false, not_true_eq_false, not_false_eq_true, ite_self, Nat.add_zero, Nat.zero_add, ent_def]
      exact kk () _ ⟨m3, _, rfl, V3', S4, fun b hb => by rw [F3 b (by omega)]; exact F2 b hb, fun b hb => by
        funext d
        rw [up2J_at, if_neg (by omega), L2 b hb]⟩
    · rintro - μ ⟨m2, ml2, rfl, V2, S2, F2, L2⟩
      rw [eX6_film_77]
      simp (maxSteps := 1000000) (decide := true) (disch := (first | assumption | omega | exact Nat.div_mul_le_self _ _ | exact ni_nz (by omega) (by omega) | exact rfl | exact retOk_bI _ | exact retOk_0 | exact retOk_1)) only [eX6_film_0, eX6_film_1, eX6_film_2, eX6_film_5, eX6_film_8, eX6_film_9, eX6_film_10, eX6_film_12, eX6_film_15, eX6_film_18, eX6_film_19, eX6_film_22, eX6_film_25, eX6_film_27, eX6_film_30, eX6_film_33, eX6_film_34, eX6_film_35, eX6_film_36, eX6_film_39, eX6_film_40, eX6_film_41, eX6_film_43, eX6_film_45, eX6_film_47, eX6_film_49, eX6_film_50, eX6_film_53, eX6_film_55, eX6_film_57, eX6_film_60, eX6_film_62, eX6_film_63, eX6_film_64, eX6_film_67, eX6_film_68, eX6_film_71, eX6_film_74, eX6_film_75, eX6_film_79, eX6_film_80, eX6_film_83, eX6_film_84, eX6_film_87, eX6_film_88, eX6_film_91, eX6_film_92, eX6_film_94, eX6_film_96, eX6_film_98, eX6_film_99, eX6_film_100, eX6_film_103, eX6_film_106, eX6_film_107, eX6_film_108, eX6_film_109, eX6_film_112, eX6_film_115, eX6_film_118, eX6_film_119, Nat.le_refl, WpR_some, Option.toList_some, Option.toList_none, List.cons_append, List.nil_append, List.append_nil, clr_n, clr_i, clr_a, ni_add, ni_mul, ni_sub, ni_lt, ni_le, ni_eq, ni_div, nat_mod_eq, ni_rem, iMax_nn, iMin_nn, iMax_sub, Nat.zero_max, bI_0, bI_1, bI_n0, up2_s, up2_n, up2_k, va_up_self, va_up_ne, ni_l, lN_mul, lN_add, ln_mask, lN_i, ↓reduceIte, if_true, if_false, not_true_eq_false, not_false_eq_true, ite_self, Nat.add_zero, Nat.zero_add, ent_def]
      rw [← hQ]
      exact ⟨m2, ml2, rfl, rfl, S2, F2, L2⟩
  obtain ⟨r, μ', e1, m', ml', rfl, rfl, h2⟩ := res_ex key
  exact ⟨m', ml', e1, h2⟩
theorem x_film_bad (hG : GM G) (hA : RA m 0 σ k f) (hB : Bd σ) (h : (isN u (σ 45) && rg v 1 24 && isN w 4 && isN c 4) = false) : res mX7_film [.ref 158, .int u, .int v, .int w, .int c, .int i] (G, m, ml) = some (some (.int (-1)), (G, m, ml)) := by
  have e := r_X7_isHearer (ml := ml) (v := u) hG (RA_at hA (j := 45) (by decide)) hB.2.1
  obtain ⟨⟨g0, g1, -⟩, -⟩ := hG
  apply res_of
  show Wp mX7_film 0 [some (.ref 158), some (.int u), some (.int v), some (.int w), some (.int c), some (.int i), none, none] [] (G, m, ml) _
  cases h1 : isN u (σ 45)
  · rw [h1] at e
    simp (maxSteps := 1000000) (decide := true) (disch := (first | assumption | omega | exact Nat.div_mul_le_self _ _ | exact ni_nz (by omega) (by omega) | exact rfl | exact retOk_bI _ | exact retOk_0 | exact retOk_1)) only [eX7_film_0, eX7_film_1, eX7_film_2, eX7_film_5, eX7_film_8, eX7_film_9, eX7_film_10, eX7_film_11, eX7_film_14, eX7_film_17, eX7_film_20, eX7_film_21, eX7_film_24, eX7_film_27, eX7_film_29, eX7_film_30, eX7_film_31, eX7_film_34, eX7_film_37, eX7_film_40, eX7_film_41, eX7_film_42, eX7_film_43, eX7_film_44, eX7_film_46, eX7_film_48, eX7_film_49, eX7_film_52, eX7_film_54, eX7_film_56, eX7_film_59, eX7_film_61, eX7_film_62, eX7_film_63, eX7_film_66, eX7_film_67, eX7_film_71, eX7_film_72, eX7_film_75, eX7_film_76, eX7_film_79, eX7_film_82, eX7_film_83, eX7_film_86, eX7_film_88, eX7_film_89, eX7_film_90, eX7_film_92, eX7_film_93, eX7_film_95, eX7_film_96, eX7_film_98, eX7_film_99, eX7_film_102, eX7_film_105, eX7_film_106, eX7_film_107, eX7_film_108, eX7_film_109, eX7_film_112, eX7_film_113, eX7_film_116, eX7_film_119, eX7_film_120, e, WpR_some, Option.toList_some, Option.toList_none, List.cons_append, List.nil_append, List.append_nil, clr_n, clr_i, clr_a, ni_add, ni_mul, ni_sub, ni_lt, ni_le, ni_eq, ni_div, nat_mod_eq, ni_rem, iMax_nn, iMin_nn, iMax_sub, Nat.zero_max, bI_0, bI_1, bI_n0, up2_s, up2_n, up2_k, va_up_self, va_up_ne, ni_l, lN_mul, lN_add, ln_mask, lN_i, ↓reduceIte, if_true, if_false, not_true_eq_false, not_false_eq_true, ite_self, Nat.add_zero, Nat.zero_add, ent_def]
  · rw [h1] at e
    cases h2 : rg v 1 24
    · simp (maxSteps := 1000000) (decide := true) (disch := (first | assumption | omega | exact Nat.div_mul_le_self _ _ | exact ni_nz (by omega) (by omega) | exact rfl | exact retOk_bI _ | exact retOk_0 | exact retOk_1)) only [eX7_film_0, eX7_film_1, eX7_film_2, eX7_film_5, eX7_film_8, eX7_film_9, eX7_film_10, eX7_film_11, eX7_film_14, eX7_film_17, eX7_film_20, eX7_film_21, eX7_film_24, eX7_film_27, eX7_film_29, eX7_film_30, eX7_film_31, eX7_film_34, eX7_film_37, eX7_film_40, eX7_film_41, eX7_film_42, eX7_film_43, eX7_film_44, eX7_film_46, eX7_film_48, eX7_film_49, eX7_film_52, eX7_film_54, eX7_film_56, eX7_film_59, eX7_film_61, eX7_film_62, eX7_film_63, eX7_film_66, eX7_film_67, eX7_film_71, eX7_film_72, eX7_film_75, eX7_film_76, eX7_film_79, eX7_film_82, eX7_film_83, eX7_film_86, eX7_film_88, eX7_film_89, eX7_film_90, eX7_film_92, eX7_film_93, eX7_film_95, eX7_film_96, eX7_film_98, eX7_film_99, eX7_film_102, eX7_film_105, eX7_film_106, eX7_film_107, eX7_film_108, eX7_film_109, eX7_film_112, eX7_film_113, eX7_film_116, eX7_film_119, eX7_film_120, e, r_in, h2, WpR_some, Option.toList_some, Option.toList_none, List.cons_append, List.nil_append, List.append_nil, clr_n, clr_i, clr_a, ni_add, ni_mul, ni_sub, ni_lt, ni_le, ni_eq, ni_div, nat_mod_eq, ni_rem, iMax_nn, iMin_nn, iMax_sub, Nat.zero_max, bI_0, bI_1, bI_n0, up2_s, up2_n, up2_k, va_up_self, va_up_ne, ni_l, lN_mul, lN_add, ln_mask, lN_i, ↓reduceIte, if_true, if_false, not_true_eq_false, not_false_eq_true, ite_self, Nat.add_zero, Nat.zero_add, ent_def]
    · have i2 := fun μ => r_in (v := v) (lo := 1) (hi := 24) (μ := μ) (by decide) (by decide)
      rw [h2] at i2
      cases h3 : isN w 4
      · simp (maxSteps := 1000000) (decide := true) (disch := (first | assumption | omega | exact Nat.div_mul_le_self _ _ | exact ni_nz (by omega) (by omega) | exact rfl | exact retOk_bI _ | exact retOk_0 | exact retOk_1)) only [eX7_film_0, eX7_film_1, eX7_film_2, eX7_film_5, eX7_film_8, eX7_film_9, eX7_film_10, eX7_film_11, eX7_film_14, eX7_film_17, eX7_film_20, eX7_film_21, eX7_film_24, eX7_film_27, eX7_film_29, eX7_film_30, eX7_film_31, eX7_film_34, eX7_film_37, eX7_film_40, eX7_film_41, eX7_film_42, eX7_film_43, eX7_film_44, eX7_film_46, eX7_film_48, eX7_film_49, eX7_film_52, eX7_film_54, eX7_film_56, eX7_film_59, eX7_film_61, eX7_film_62, eX7_film_63, eX7_film_66, eX7_film_67, eX7_film_71, eX7_film_72, eX7_film_75, eX7_film_76, eX7_film_79, eX7_film_82, eX7_film_83, eX7_film_86, eX7_film_88, eX7_film_89, eX7_film_90, eX7_film_92, eX7_film_93, eX7_film_95, eX7_film_96, eX7_film_98, eX7_film_99, eX7_film_102, eX7_film_105, eX7_film_106, eX7_film_107, eX7_film_108, eX7_film_109, eX7_film_112, eX7_film_113, eX7_film_116, eX7_film_119, eX7_film_120, e, i2, r_X7_isSheet, h3, WpR_some, Option.toList_some, Option.toList_none, List.cons_append, List.nil_append, List.append_nil, clr_n, clr_i, clr_a, ni_add, ni_mul, ni_sub, ni_lt, ni_le, ni_eq, ni_div, nat_mod_eq, ni_rem, iMax_nn, iMin_nn, iMax_sub, Nat.zero_max, bI_0, bI_1, bI_n0, up2_s, up2_n, up2_k, va_up_self, va_up_ne, ni_l, lN_mul, lN_add, ln_mask, lN_i, ↓reduceIte, if_true, if_false, not_true_eq_false, not_false_eq_true, ite_self, Nat.add_zero, Nat.zero_add, ent_def]
      · rw [h1, h2, h3, Bool.true_and, Bool.true_and, Bool.true_and] at h
        simp (maxSteps := 1000000) (decide := true) (disch := (first | assumption | omega | exact Nat.div_mul_le_self _ _ | exact ni_nz (by omega) (by omega) | exact rfl | exact retOk_bI _ | exact retOk_0 | exact retOk_1)) only [eX7_film_0, eX7_film_1, eX7_film_2, eX7_film_5, eX7_film_8, eX7_film_9, eX7_film_10, eX7_film_11, eX7_film_14, eX7_film_17, eX7_film_20, eX7_film_21, eX7_film_24, eX7_film_27, eX7_film_29, eX7_film_30, eX7_film_31, eX7_film_34, eX7_film_37, eX7_film_40, eX7_film_41, eX7_film_42, eX7_film_43, eX7_film_44, eX7_film_46, eX7_film_48, eX7_film_49, eX7_film_52, eX7_film_54, eX7_film_56, eX7_film_59, eX7_film_61, eX7_film_62, eX7_film_63, eX7_film_66, eX7_film_67, eX7_film_71, eX7_film_72, eX7_film_75, eX7_film_76, eX7_film_79, eX7_film_82, eX7_film_83, eX7_film_86, eX7_film_88, eX7_film_89, eX7_film_90, eX7_film_92, eX7_film_93, eX7_film_95, eX7_film_96, eX7_film_98, eX7_film_99, eX7_film_102, eX7_film_105, eX7_film_106, eX7_film_107, eX7_film_108, eX7_film_109, eX7_film_112, eX7_film_113, eX7_film_116, eX7_film_119, eX7_film_120, e, i2, r_X7_isSheet, h3, r_inL, h, WpR_some, Option.toList_some, Option.toList_none, List.cons_append, List.nil_append, List.append_nil, clr_n, clr_i, clr_a, ni_add, ni_mul, ni_sub, ni_lt, ni_le, ni_eq, ni_div, nat_mod_eq, ni_rem, iMax_nn, iMin_nn, iMax_sub, Nat.zero_max, bI_0, bI_1, bI_n0, up2_s, up2_n, up2_k, va_up_self, va_up_ne, ni_l, lN_mul, lN_add, ln_mask, lN_i, ↓reduceIte, if_true, if_false, not_true_eq_false, not_false_eq_true, ite_self, Nat.add_zero, Nat.zero_add, ent_def]
theorem x_film_no (hG : GM G) (hA : RA m 0 σ k f) (hB : Bd σ) (hS : RS m ml on ln sz it) (hh : h < σ 45) (h1 : 1 ≤ n) (h2 : n ≤ 24) (hs : s < 4) (hl : l < 4) (hr : rfs on ln sz s l i (nI n) ≠ nI 0) : res mX7_film [.ref 158, .int (nI h), .int (nI n), .int (nI s), .int (nI l), .int i] (G, m, ml) = some (some (.int (rfs on ln sz s l i (nI n))), (G, m, ml)) := by
  have b2 := hB.2.1
  have e := r_X7_isHearer (ml := ml) (v := nI h) hG (RA_at hA (j := 45) (by decide)) hB.2.1
  rw [isN_t hh (by omega)] at e
  have i1 := fun μ => r_inT (x := n) (lo := 1) (hi := 24) (μ := μ) h1 h2 (by decide)
  have i2 := fun μ => r_inLn (μ := μ) hl
  have h3 := isN_t hs (by decide)
  have e1 := r_X7_refusal (ml := ml) (i := i) (w := nI n) hG hS hs hl
  obtain ⟨⟨g0, g1, -⟩, -⟩ := hG
  apply res_of
  show Wp mX7_film 0 [some (.ref 158), some (.int (nI h)), some (.int (nI n)), some (.int (nI s)), some (.int (nI l)), some (.int i), none, none] [] (G, m, ml) _
  simp (maxSteps := 1000000) (decide := true) (disch := (first | assumption | omega | exact Nat.div_mul_le_self _ _ | exact ni_nz (by omega) (by omega) | exact rfl | exact retOk_bI _ | exact retOk_0 | exact retOk_1)) only [eX7_film_0, eX7_film_1, eX7_film_2, eX7_film_5, eX7_film_8, eX7_film_9, eX7_film_10, eX7_film_11, eX7_film_14, eX7_film_17, eX7_film_20, eX7_film_21, eX7_film_24, eX7_film_27, eX7_film_29, eX7_film_30, eX7_film_31, eX7_film_34, eX7_film_37, eX7_film_40, eX7_film_41, eX7_film_42, eX7_film_43, eX7_film_44, eX7_film_46, eX7_film_48, eX7_film_49, eX7_film_52, eX7_film_54, eX7_film_56, eX7_film_59, eX7_film_61, eX7_film_62, eX7_film_63, eX7_film_66, eX7_film_67, eX7_film_71, eX7_film_72, eX7_film_75, eX7_film_76, eX7_film_79, eX7_film_82, eX7_film_83, eX7_film_86, eX7_film_88, eX7_film_89, eX7_film_90, eX7_film_92, eX7_film_93, eX7_film_95, eX7_film_96, eX7_film_98, eX7_film_99, eX7_film_102, eX7_film_105, eX7_film_106, eX7_film_107, eX7_film_108, eX7_film_109, eX7_film_112, eX7_film_113, eX7_film_116, eX7_film_119, eX7_film_120, e, i1, i2, r_X7_isSheet, h3, e1, hr, WpR_some, Option.toList_some, Option.toList_none, List.cons_append, List.nil_append, List.append_nil, clr_n, clr_i, clr_a, ni_add, ni_mul, ni_sub, ni_lt, ni_le, ni_eq, ni_div, nat_mod_eq, ni_rem, iMax_nn, iMin_nn, iMax_sub, Nat.zero_max, bI_0, bI_1, bI_n0, up2_s, up2_n, up2_k, va_up_self, va_up_ne, ni_l, lN_mul, lN_add, ln_mask, lN_i, ↓reduceIte, if_true, if_false, not_true_eq_false, not_false_eq_true, ite_self, Nat.add_zero, Nat.zero_add, ent_def]
theorem x_film (hG : GM G) (hA : RA m 0 σ k f) (hX : RX m) (hO : Ok σ) (hS : RS m ml on ln sz it) (hh : h < σ 45) (h1 : 1 ≤ n) (h2 : n ≤ 24) (hs : s < 4) (hl : l < 4) (hr : rfs on ln sz s l (nI x) (nI n) = nI 0) (hx : x + n ≤ 24) : ∃ m' ml', res mX7_film [.ref 158, .int (nI h), .int (nI n), .int (nI s), .int (nI l), .int (nI x)] (G, m, ml) = some (some (.int (nI n)), (G, m', ml')) ∧ RS m' ml' on ln sz (flI it σ h s x l n) ∧ FX 818 874 m m' ∧ (∃ x y, CnV m' x y) ∧ (∀ b, b ≠ 163 → ml' b = ml b) := by
  have b1 := hO.1.1
  have b2 := hO.1.2.1
  have hπ5 : ∀ j, j < 5 → (id j : Nat) < 5 := fun j hj => hj
  have e := r_X7_isHearer (ml := ml) (v := nI h) hG (RA_at hA (j := 45) (by decide)) hO.1.2.1
  rw [isN_t hh (by omega)] at e
  have i1 := fun μ => r_inT (x := n) (lo := 1) (hi := 24) (μ := μ) h1 h2 (by decide)
  have i2 := fun μ => r_inLn (μ := μ) hl
  have h3 := isN_t hs (by decide)
  have e1 := r_X7_refusal (ml := ml) (i := nI x) (w := nI n) hG hS hs hl
  rw [hr] at e1
  obtain ⟨m1, el, R1, C1, F1⟩ := r_X7_layTried (ml := ml) hG hA
  have T1 := TR_lay hA hX R1 F1 rfl rfl
  have ec := fun e μ => r_X7_cut (l := l) (e := e) (μ := μ) hl
  have hG0 := hG
  obtain ⟨⟨g0, g1, g2, g3, g4, g5, g6, -⟩, ⟨a0, a1, a2, a3, a4, a5, -⟩, ⟨l0, l1, l2, l3, l4, l5, -⟩⟩ := hG
  have key : Wp mX7_film 0 (ent [.ref 158, .int (nI h), .int (nI n), .int (nI s), .int (nI l), .int (nI x)] 8) [] (G, m, ml) (fun r μ' => ∃ m' ml', r = some (.int (nI n)) ∧ μ' = (G, m', ml') ∧ RS m' ml' on ln sz (flI it σ h s x l n) ∧ FX 818 874 m m' ∧ (∃ x y, CnV m' x y) ∧ (∀ b, b ≠ 163 → ml' b = ml b)) := by
    show Wp mX7_film 0 [some (.ref 158), some (.int (nI h)), some (.int (nI n)), some (.int (nI s)), some (.int (nI l)), some (.int (nI x)), none, none] [] (G, m, ml) _
    generalize hQ : (fun (r : Option Value) (μ' : Mm) => ∃ m' ml', r = some (.int (nI n)) ∧ μ' = (G, m', ml') ∧ RS m' ml' on ln sz (flI it σ h s x l n) ∧ FX 818 874 m m' ∧ (∃ x y, CnV m' x y) ∧ (∀ b, b ≠ 163 → ml' b = ml b)) = Q
    simp (maxSteps := 1000000) (decide := true) (disch := (first | assumption | omega | exact Nat.div_mul_le_self _ _ | exact ni_nz (by omega) (by omega) | exact rfl | exact retOk_bI _ | exact retOk_0 | exact retOk_1)) only [eX7_film_0, eX7_film_1, eX7_film_2, eX7_film_5, eX7_film_8, eX7_film_9, eX7_film_10, eX7_film_11, eX7_film_14, eX7_film_17, eX7_film_20, eX7_film_21, eX7_film_24, eX7_film_27, eX7_film_29, eX7_film_30, eX7_film_31, eX7_film_34, eX7_film_37, eX7_film_40, eX7_film_41, eX7_film_42, eX7_film_43, eX7_film_44, eX7_film_46, eX7_film_48, eX7_film_49, eX7_film_52, eX7_film_54, eX7_film_56, eX7_film_59, eX7_film_61, eX7_film_62, eX7_film_63, eX7_film_66, eX7_film_67, eX7_film_71, eX7_film_72, eX7_film_75, eX7_film_76, eX7_film_79, eX7_film_82, eX7_film_83, eX7_film_86, eX7_film_88, eX7_film_89, eX7_film_90, eX7_film_92, eX7_film_93, eX7_film_95, eX7_film_96, eX7_film_98, eX7_film_99, eX7_film_102, eX7_film_105, eX7_film_106, eX7_film_107, eX7_film_108, eX7_film_109, eX7_film_112, eX7_film_113, eX7_film_116, eX7_film_119, eX7_film_120, e, i1, i2, r_X7_isSheet, h3, e1, el, WpR_some, Option.toList_some, Option.toList_none, List.cons_append, List.nil_append, List.append_nil, clr_n, clr_i, clr_a, ni_add, ni_mul, ni_sub, ni_lt, ni_le, ni_eq, ni_div, nat_mod_eq, ni_rem, iMax_nn, iMin_nn, iMax_sub, Nat.zero_max, bI_0, bI_1, bI_n0, up2_s, up2_n, up2_k, va_up_self, va_up_ne, ni_l, lN_mul, lN_add, ln_mask, lN_i, ↓reduceIte, if_true, if_false, not_true_eq_false, not_false_eq_true, ite_self, Nat.add_zero, Nat.zero_add, ent_def]
    refine wp_for (X := Unit) (fun i _ => [some (.ref 158), some (.int (nI h)), some (.int (nI n)), some (.int (nI s)), some (.int (nI l)), some (.int (nI x)), some (.int (nI 0)), some (.int (nI i))]) (fun i _ μ => ∃ m2 ml2, μ = (G, m2, ml2) ∧ TR m2 id (itP id σ i) ∧ RS m2 ml2 on ln sz (flI it σ h s x l i) ∧ FX 818 874 m m2 ∧ (∃ x y, CnV m2 x y) ∧ (∀ b, b ≠ 163 → ml2 b = ml b)) n ?_ ?_ 0 () _ (Nat.zero_le _) ⟨m1, ml, rfl, T1, by rw [flI_0]; exact RS_fr hS (F1.1 161 (by decide) (by decide)) (F1.1 162 (by decide) (by decide)), F1, ⟨_, _, C1⟩, fun _ _ => rfl⟩
    · rintro i - μ hi ⟨m2, ml2, rfl, T2, S2, F2, ⟨c1, c2, C2⟩, L2⟩ kk
      have hlt : ¬ n ≤ i := by omega
      obtain ⟨m3, e3, T3, C3, F3⟩ := r_passesT (ml := ml2) (ke := 0) (kl := 0) hG0 T2 C2 (Bk_itP (Bk_mono (Ok_Bk hO) (by omega) (by omega)) hπ5)
      have T3' : TR m3 id (itP id σ (i + 1)) := T3
      have x4 := T3'.2.2.1 h (by omega)
      have y9 := (Bk_itP (ke := 0) (kl := 0) (n := i + 1) (π := id) (Bk_mono (Ok_Bk hO) (by omega) (by omega)) (fun j hj => hj)).1.2.2.2.2.2.2.2.2.1 h (by omega)
      have S3 : RS m3 ml2 on ln sz (flI it σ h s x l i) := RS_fr S2 (F3.1 161 (by decide) (by decide)) (F3.1 162 (by decide) (by decide))
      have S4 := RS_put (e := cutL l (lN (itP id σ (i + 1) h))) (x := x + i) S3 hs (by omega)
      rw [flI_s, ← Nat.add_assoc] at S4
      rw [eX7_film_69]
      simp (maxSteps := 1000000) (decide := true) (disch := (first | assumption | omega | exact Nat.div_mul_le_self _ _ | exact ni_nz (by omega) (by omega) | exact rfl | exact retOk_bI _ | exact retOk_0 | exact retOk_1)) only [eX7_film_0, eX7_film_1, eX7_film_2, eX7_film_5, eX7_film_8, eX7_film_9, eX7_film_10, eX7_film_11, eX7_film_14, eX7_film_17, eX7_film_20, eX7_film_21, eX7_film_24, eX7_film_27, eX7_film_29, eX7_film_30, eX7_film_31, eX7_film_34, eX7_film_37, eX7_film_40, eX7_film_41, eX7_film_42, eX7_film_43, eX7_film_44, eX7_film_46, eX7_film_48, eX7_film_49, eX7_film_52, eX7_film_54, eX7_film_56, eX7_film_59, eX7_film_61, eX7_film_62, eX7_film_63, eX7_film_66, eX7_film_67, eX7_film_71, eX7_film_72, eX7_film_75, eX7_film_76, eX7_film_79, eX7_film_82, eX7_film_83, eX7_film_86, eX7_film_88, eX7_film_89, eX7_film_90, eX7_film_92, eX7_film_93, eX7_film_95, eX7_film_96, eX7_film_98, eX7_film_99, eX7_film_102, eX7_film_105, eX7_film_106, eX7_film_107, eX7_film_108, eX7_film_109, eX7_film_112, eX7_film_113, eX7_film_116, eX7_film_119, eX7_film_120, g1, g5, e3, x4, ec, hlt, WpR_some, Option.toList_some, Option.toList_none, List.cons_append, List.nil_append, List.append_nil, clr_n, clr_i, clr_a, ni_add, ni_mul, ni_sub, ni_lt, ni_le, ni_eq, ni_div, nat_mod_eq, ni_rem, iMax_nn, iMin_nn, iMax_sub, Nat.zero_max, bI_0, bI_1, bI_n0, up2_s, up2_n, up2_k, va_up_self, va_up_ne, ni_l, lN_mul, lN_add, ln_mask, lN_i, ↓reduceIte, if_true, if_false, not_true_eq_false, not_false_eq_true, ite_self, Nat.add_zero, Nat.zero_add, ent_def]
      exact kk () _ ⟨m3, _, rfl, T3', S4, F2.tr F3, ⟨_, _, C3⟩, fun b hb => by
        funext d
        rw [up2J_at, if_neg (by omega), L2 b hb]⟩
    · rintro - μ ⟨m2, ml2, rfl, T2, S2, F2, C2, L2⟩
      rw [eX7_film_69]
      simp (maxSteps := 1000000) (decide := true) (disch := (first | assumption | omega | exact Nat.div_mul_le_self _ _ | exact ni_nz (by omega) (by omega) | exact rfl | exact retOk_bI _ | exact retOk_0 | exact retOk_1)) only [eX7_film_0, eX7_film_1, eX7_film_2, eX7_film_5, eX7_film_8, eX7_film_9, eX7_film_10, eX7_film_11, eX7_film_14, eX7_film_17, eX7_film_20, eX7_film_21, eX7_film_24, eX7_film_27, eX7_film_29, eX7_film_30, eX7_film_31, eX7_film_34, eX7_film_37, eX7_film_40, eX7_film_41, eX7_film_42, eX7_film_43, eX7_film_44, eX7_film_46, eX7_film_48, eX7_film_49, eX7_film_52, eX7_film_54, eX7_film_56, eX7_film_59, eX7_film_61, eX7_film_62, eX7_film_63, eX7_film_66, eX7_film_67, eX7_film_71, eX7_film_72, eX7_film_75, eX7_film_76, eX7_film_79, eX7_film_82, eX7_film_83, eX7_film_86, eX7_film_88, eX7_film_89, eX7_film_90, eX7_film_92, eX7_film_93, eX7_film_95, eX7_film_96, eX7_film_98, eX7_film_99, eX7_film_102, eX7_film_105, eX7_film_106, eX7_film_107, eX7_film_108, eX7_film_109, eX7_film_112, eX7_film_113, eX7_film_116, eX7_film_119, eX7_film_120, Nat.le_refl, WpR_some, Option.toList_some, Option.toList_none, List.cons_append, List.nil_append, List.append_nil, clr_n, clr_i, clr_a, ni_add, ni_mul, ni_sub, ni_lt, ni_le, ni_eq, ni_div, nat_mod_eq, ni_rem, iMax_nn, iMin_nn, iMax_sub, Nat.zero_max, bI_0, bI_1, bI_n0, up2_s, up2_n, up2_k, va_up_self, va_up_ne, ni_l, lN_mul, lN_add, ln_mask, lN_i, ↓reduceIte, if_true, if_false, not_true_eq_false, not_false_eq_true, ite_self, Nat.add_zero, Nat.zero_add, ent_def]
      rw [← hQ]
      exact ⟨m2, ml2, rfl, rfl, S2, F2, C2, L2⟩
  obtain ⟨r, μ', e1, m', ml', rfl, rfl, h2⟩ := res_ex key
  exact ⟨m', ml', e1, h2⟩
/-! borne -/
def sup (σ : Nat → Nat) (w t g : Nat) : Nat → Nat := if w = 0 then upN σ (46 + t) g else if w = 1 then upN σ (5 + t) g else upN σ 41 g
def brP (it : Nat → Nat → Int64) (ρ : Nat → Nat) (h s x n : Nat) : Bool := decide (∀ k, k < n → it s (x + k) = lN (itP id ρ (k + 1) h))
def bset (P : Nat → Bool) (lo : Nat) : Nat → Int32
  | 0 => nI 0
  | c + 1 => if P (lo + c) = true then bset P lo c ||| (nI 1 <<< (nI (lo + c) &&& 31)) else bset P lo c
theorem sup_f {i : Nat} (hi : i = 44 ∨ i = 45) (ht : t < 5) : sup σ x t g i = σ i := by
  unfold sup
  split
  · rw [upN_n (by omega)]
  · split
    · rw [upN_n (by omega)]
    · rw [upN_n (by omega)]
theorem Bk_sup {ke kl : Nat} (hB : Bk ke kl σ) (ht : t < 5) (hg : g ≤ if x = 1 then 20 else 4) : Bk ke kl (sup σ x t g) := by
  unfold sup
  split
  · rename_i h0
    rw [if_neg (by omega)] at hg
    exact Bk_up hB (by omega) (by omega) (by omega) ⟨by omega, by omega, by omega, by omega, by omega, by omega, by omega, by omega, by omega, by omega, by omega, by omega⟩
  · split
    · rename_i h1
      rw [if_pos h1] at hg
      exact Bk_up hB (by omega) (by omega) (by omega) ⟨by omega, by omega, by omega, by omega, by omega, by omega, by omega, by omega, by omega, by omega, by omega, by omega⟩
    · rename_i h1
      rw [if_neg h1] at hg
      exact Bk_st hB hg
theorem r_X6_bearsAsTold (hG : GW G) (hV : ShV m 144 ρ) (hB : Bk n n ρ) (hS : CS m ml on ln sz it) (hs : s < 4) (hh : h < ρ 45) (hx : x + n ≤ 24) : ∃ m', res mX6_bearsAsTold [.ref 2, .int (nI h), .ref (136 + 2 * s), .int (nI x), .int (nI n)] (G, m, ml) = some (some (.int (bI (brP it ρ h s x n))), (G, m', ml)) ∧ (∀ b, b < 144 ∨ 150 < b → m' b = m b) := by
  have b1 := hB.1.1
  have b2 := hB.1.2.1
  obtain ⟨⟨g0, g1, g2, g3, g4, g5, g6, g7, -⟩, ⟨s3, p10, s68, p75, s144⟩, -, ⟨r01, r02, r00⟩, -⟩ := hG
  obtain ⟨r1, r2, r3, r4, r5⟩ := r00 s hs
  have s144' := s144
  obtain ⟨q0, ⟨q1, q2, q3, q4, q5, q6⟩, ⟨f1, f2, f3, f4, f5, f6⟩, k1, k2, k3, k4, k5, k6⟩ := s144
  have key : Wp mX6_bearsAsTold 0 (ent [.ref 2, .int (nI h), .ref (136 + 2 * s), .int (nI x), .int (nI n)] 6) [] (G, m, ml) (fun r μ' => ∃ m', r = some (.int (bI (brP it ρ h s x n))) ∧ μ' = (G, m', ml) ∧ (∀ b, b < 144 ∨ 150 < b → m' b = m b)) := by
    show Wp mX6_bearsAsTold 0 [some (.ref 2), some (.int (nI h)), some (.ref (136 + 2 * s)), some (.int (nI x)), some (.int (nI n)), none] [] (G, m, ml) _
    generalize hQ : (fun (r : Option Value) (μ' : Mm) => ∃ m', r = some (.int (bI (brP it ρ h s x n))) ∧ μ' = (G, m', ml) ∧ (∀ b, b < 144 ∨ 150 < b → m' b = m b)) = Q
    simp (maxSteps := 1000000) (decide := true) (disch := (first | assumption | omega | exact Nat.div_mul_le_self _ _ | exact ni_nz (by omega) (by omega) | exact rfl | exact retOk_bI _ | exact retOk_0 | exact retOk_1)) only [eX6_bearsAsTold_0, eX6_bearsAsTold_1, eX6_bearsAsTold_5, eX6_bearsAsTold_7, eX6_bearsAsTold_10, eX6_bearsAsTold_11, eX6_bearsAsTold_14, eX6_bearsAsTold_15, eX6_bearsAsTold_18, eX6_bearsAsTold_19, eX6_bearsAsTold_20, eX6_bearsAsTold_23, eX6_bearsAsTold_24, eX6_bearsAsTold_26, eX6_bearsAsTold_27, eX6_bearsAsTold_28, eX6_bearsAsTold_29, eX6_bearsAsTold_32, eX6_bearsAsTold_35, eX6_bearsAsTold_36, eX6_bearsAsTold_37, eX6_bearsAsTold_38, eX6_bearsAsTold_39, eX6_bearsAsTold_42, eX6_bearsAsTold_43, eX6_bearsAsTold_44, eX6_bearsAsTold_47, eX6_bearsAsTold_50, eX6_bearsAsTold_51, WpR_some, Option.toList_some, Option.toList_none, List.cons_append, List.nil_append, List.append_nil, clr_n, clr_i, clr_a, ni_add, ni_mul, ni_sub, ni_lt, ni_le, ni_eq, ni_div, nat_mod_eq, ni_rem, iMax_nn, iMin_nn, iMax_sub, Nat.zero_max, bI_0, bI_1, bI_n0, up2_s, up2_n, up2_k, va_up_self, va_up_ne, ni_l, lN_mul, lN_add, ln_mask, lN_i, ↓reduceIte, if_true, if_false, not_true_eq_false, not_false_eq_true, ite_self, Nat.add_zero, Nat.zero_add, ent_def]
    refine wp_for (X := Unit) (fun i _ => [some (.ref 2), some (.int (nI h)), some (.ref (136 + 2 * s)), some (.int (nI x)), some (.int (nI n)), some (.int (nI i))]) (fun i _ μ => ∃ m2, μ = (G, m2, ml) ∧ ShV m2 144 (itO h ρ i) ∧ (∀ b, b < 144 ∨ 150 < b → m2 b = m b) ∧ (∀ k, k < i → it s (x + k) = lN (itP id ρ (k + 1) h))) n ?_ ?_ 0 () _ (Nat.zero_le _) ⟨m, rfl, hV, fun _ _ => rfl, fun j hj => absurd hj (Nat.not_lt_zero _)⟩
    · rintro i - μ hi ⟨m2, rfl, V2, F2, N2⟩ kk
      have hlt : ¬ n ≤ i := by omega
      obtain ⟨m3, e3, V3, F3⟩ := r_X3_passEveningOf (ml := ml) (h := h) (ke := 0) (kl := 0) s144' V2 (Bk_itO hh (Bk_mono hB (by omega) (by omega))) (by rw [itO_45 hh b2 b1]; exact hh)
      have V3' : ShV m3 144 (itO h ρ (i + 1)) := V3
      have x4 := (ShV_old V3').2.2.2.2.1 h (by rw [itO_45 hh b2 b1]; exact hh)
      have y9 := (Bk_itO (ke := 0) (kl := 0) (n := i + 1) hh (Bk_mono hB (by omega) (by omega))).1.2.2.2.2.2.2.2.2.1 h (by omega)
      rw [(itO_ag hh b2 b1 (i + 1)).1] at x4 y9
      have xi := (hS s hs).2.2 (x + i) (by omega)
      have F4 : ∀ b, b < 144 ∨ 150 < b → m3 b = m b := fun b hb => by rw [F3 b (by omega)]; exact F2 b hb
      rw [eX6_bearsAsTold_3]
      by_cases hc : it s (x + i) = lN (itP id ρ (i + 1) h)
      · simp (maxSteps := 1000000) (decide := true) (disch := (first | assumption | omega | exact Nat.div_mul_le_self _ _ | exact ni_nz (by omega) (by omega) | exact rfl | exact retOk_bI _ | exact retOk_0 | exact retOk_1)) only [eX6_bearsAsTold_0, eX6_bearsAsTold_1, eX6_bearsAsTold_5, eX6_bearsAsTold_7, eX6_bearsAsTold_10, eX6_bearsAsTold_11, eX6_bearsAsTold_14, eX6_bearsAsTold_15, eX6_bearsAsTold_18, eX6_bearsAsTold_19, eX6_bearsAsTold_20, eX6_bearsAsTold_23, eX6_bearsAsTold_24, eX6_bearsAsTold_26, eX6_bearsAsTold_27, eX6_bearsAsTold_28, eX6_bearsAsTold_29, eX6_bearsAsTold_32, eX6_bearsAsTold_35, eX6_bearsAsTold_36, eX6_bearsAsTold_37, eX6_bearsAsTold_38, eX6_bearsAsTold_39, eX6_bearsAsTold_42, eX6_bearsAsTold_43, eX6_bearsAsTold_44, eX6_bearsAsTold_47, eX6_bearsAsTold_50, eX6_bearsAsTold_51, g7, q4, r3, e3, x4, xi, lc_eq, hc, hlt, WpR_some, Option.toList_some, Option.toList_none, List.cons_append, List.nil_append, List.append_nil, clr_n, clr_i, clr_a, ni_add, ni_mul, ni_sub, ni_lt, ni_le, ni_eq, ni_div, nat_mod_eq, ni_rem, iMax_nn, iMin_nn, iMax_sub, Nat.zero_max, bI_0, bI_1, bI_n0, up2_s, up2_n, up2_k, va_up_self, va_up_ne, ni_l, lN_mul, lN_add, ln_mask, lN_i, ↓reduceIte, if_true, if_false, not_true_eq_false, not_false_eq_true, ite_self, Nat.add_zero, Nat.zero_add, ent_def]
        refine kk () _ ⟨m3, rfl, V3', F4, ?_⟩
        intro k hk
        by_cases hq : k = i
        · rw [hq]; exact hc
        · exact N2 k (by omega)
      · simp (maxSteps := 1000000) (decide := true) (disch := (first | assumption | omega | exact Nat.div_mul_le_self _ _ | exact ni_nz (by omega) (by omega) | exact rfl | exact retOk_bI _ | exact retOk_0 | exact retOk_1)) only [eX6_bearsAsTold_0, eX6_bearsAsTold_1, eX6_bearsAsTold_5, eX6_bearsAsTold_7, eX6_bearsAsTold_10, eX6_bearsAsTold_11, eX6_bearsAsTold_14, eX6_bearsAsTold_15, eX6_bearsAsTold_18, eX6_bearsAsTold_19, eX6_bearsAsTold_20, eX6_bearsAsTold_23, eX6_bearsAsTold_24, eX6_bearsAsTold_26, eX6_bearsAsTold_27, eX6_bearsAsTold_28, eX6_bearsAsTold_29, eX6_bearsAsTold_32, eX6_bearsAsTold_35, eX6_bearsAsTold_36, eX6_bearsAsTold_37, eX6_bearsAsTold_38, eX6_bearsAsTold_39, eX6_bearsAsTold_42, eX6_bearsAsTold_43, eX6_bearsAsTold_44, eX6_bearsAsTold_47, eX6_bearsAsTold_50, eX6_bearsAsTold_51, g7, q4, r3, e3, x4, xi, lc_eq, hc, hlt, WpR_some, Option.toList_some, Option.toList_none, List.cons_append, List.nil_append, List.append_nil, clr_n, clr_i, clr_a, ni_add, ni_mul, ni_sub, ni_lt, ni_le, ni_eq, ni_div, nat_mod_eq, ni_rem, iMax_nn, iMin_nn, iMax_sub, Nat.zero_max, bI_0, bI_1, bI_n0, up2_s, up2_n, up2_k, va_up_self, va_up_ne, ni_l, lN_mul, lN_add, ln_mask, lN_i, ↓reduceIte, if_true, if_false, not_true_eq_false, not_false_eq_true, ite_self, Nat.add_zero, Nat.zero_add, ent_def]
        rw [← hQ]
        have hf : brP it ρ h s x n = false := decide_eq_false (fun q => hc (q i hi))
        exact ⟨m3, by rw [hf]; rfl, rfl, F4⟩
    · rintro - μ ⟨m2, rfl, V2, F2, N2⟩
      rw [eX6_bearsAsTold_3]
      simp (maxSteps := 1000000) (decide := true) (disch := (first | assumption | omega | exact Nat.div_mul_le_self _ _ | exact ni_nz (by omega) (by omega) | exact rfl | exact retOk_bI _ | exact retOk_0 | exact retOk_1)) only [eX6_bearsAsTold_0, eX6_bearsAsTold_1, eX6_bearsAsTold_5, eX6_bearsAsTold_7, eX6_bearsAsTold_10, eX6_bearsAsTold_11, eX6_bearsAsTold_14, eX6_bearsAsTold_15, eX6_bearsAsTold_18, eX6_bearsAsTold_19, eX6_bearsAsTold_20, eX6_bearsAsTold_23, eX6_bearsAsTold_24, eX6_bearsAsTold_26, eX6_bearsAsTold_27, eX6_bearsAsTold_28, eX6_bearsAsTold_29, eX6_bearsAsTold_32, eX6_bearsAsTold_35, eX6_bearsAsTold_36, eX6_bearsAsTold_37, eX6_bearsAsTold_38, eX6_bearsAsTold_39, eX6_bearsAsTold_42, eX6_bearsAsTold_43, eX6_bearsAsTold_44, eX6_bearsAsTold_47, eX6_bearsAsTold_50, eX6_bearsAsTold_51, Nat.le_refl, WpR_some, Option.toList_some, Option.toList_none, List.cons_append, List.nil_append, List.append_nil, clr_n, clr_i, clr_a, ni_add, ni_mul, ni_sub, ni_lt, ni_le, ni_eq, ni_div, nat_mod_eq, ni_rem, iMax_nn, iMin_nn, iMax_sub, Nat.zero_max, bI_0, bI_1, bI_n0, up2_s, up2_n, up2_k, va_up_self, va_up_ne, ni_l, lN_mul, lN_add, ln_mask, lN_i, ↓reduceIte, if_true, if_false, not_true_eq_false, not_false_eq_true, ite_self, Nat.add_zero, Nat.zero_add, ent_def]
      rw [← hQ]
      have hf : brP it ρ h s x n = true := decide_eq_true N2
      exact ⟨m2, by rw [hf]; rfl, rfl, F2⟩
  obtain ⟨r, μ', e1, m', rfl, rfl, h2⟩ := res_ex key
  exact ⟨m', e1, h2⟩
theorem r_X7_isBorne (hG : GM G) (hT : TR m id ρ) (hC : CnV m cx cy) (hB : Bk n (5 * n) ρ) (hS : RS m ml on ln sz it) (hs : s < 4) (hh : h < ρ 45) (hx : x + n ≤ 24) : ∃ m', res mX7_isBorne [.ref 158, .int (nI h), .int (nI (24 * s + x)), .int (nI n)] (G, m, ml) = some (some (.int (bI (brP it ρ h s x n))), (G, m', ml)) ∧ FX 818 874 m m' ∧ (∃ x y, CnV m' x y) := by
  have b1 := hB.1.1
  have b2 := hB.1.2.1
  have hπ5 : ∀ j, j < 5 → (id j : Nat) < 5 := fun j hj => hj
  have hG0 := hG
  obtain ⟨⟨g0, g1, g2, g3, g4, g5, g6, -⟩, ⟨a0, a1, a2, a3, a4, a5, -⟩, ⟨l0, l1, l2, l3, l4, l5, -⟩⟩ := hG
  have key : Wp mX7_isBorne 0 (ent [.ref 158, .int (nI h), .int (nI (24 * s + x)), .int (nI n)] 6) [] (G, m, ml) (fun r μ' => ∃ m', r = some (.int (bI (brP it ρ h s x n))) ∧ μ' = (G, m', ml) ∧ FX 818 874 m m' ∧ (∃ x y, CnV m' x y)) := by
    show Wp mX7_isBorne 0 [some (.ref 158), some (.int (nI h)), some (.int (nI (24 * s + x))), some (.int (nI n)), none, none] [] (G, m, ml) _
    generalize hQ : (fun (r : Option Value) (μ' : Mm) => ∃ m', r = some (.int (bI (brP it ρ h s x n))) ∧ μ' = (G, m', ml) ∧ FX 818 874 m m' ∧ (∃ x y, CnV m' x y)) = Q
    simp (maxSteps := 1000000) (decide := true) (disch := (first | assumption | omega | exact Nat.div_mul_le_self _ _ | exact ni_nz (by omega) (by omega) | exact rfl | exact retOk_bI _ | exact retOk_0 | exact retOk_1)) only [eX7_isBorne_0, eX7_isBorne_1, eX7_isBorne_3, eX7_isBorne_4, eX7_isBorne_8, eX7_isBorne_9, eX7_isBorne_12, eX7_isBorne_13, eX7_isBorne_16, eX7_isBorne_19, eX7_isBorne_21, eX7_isBorne_24, eX7_isBorne_25, eX7_isBorne_28, eX7_isBorne_31, eX7_isBorne_32, eX7_isBorne_33, eX7_isBorne_34, eX7_isBorne_35, eX7_isBorne_36, eX7_isBorne_39, eX7_isBorne_40, eX7_isBorne_42, eX7_isBorne_43, eX7_isBorne_44, eX7_isBorne_45, eX7_isBorne_48, eX7_isBorne_49, eX7_isBorne_52, eX7_isBorne_53, eX7_isBorne_55, eX7_isBorne_58, eX7_isBorne_61, eX7_isBorne_63, WpR_some, Option.toList_some, Option.toList_none, List.cons_append, List.nil_append, List.append_nil, clr_n, clr_i, clr_a, ni_add, ni_mul, ni_sub, ni_lt, ni_le, ni_eq, ni_div, nat_mod_eq, ni_rem, iMax_nn, iMin_nn, iMax_sub, Nat.zero_max, bI_0, bI_1, bI_n0, up2_s, up2_n, up2_k, va_up_self, va_up_ne, ni_l, lN_mul, lN_add, ln_mask, lN_i, ↓reduceIte, if_true, if_false, not_true_eq_false, not_false_eq_true, ite_self, Nat.add_zero, Nat.zero_add, ent_def]
    refine wp_for (X := Bool) (fun i z => [some (.ref 158), some (.int (nI h)), some (.int (nI (24 * s + x))), some (.int (nI n)), some (.int (bI z)), some (.int (nI i))]) (fun i z μ => ∃ m2, μ = (G, m2, ml) ∧ TR m2 id (itP id ρ i) ∧ FX 818 874 m m2 ∧ (∃ x y, CnV m2 x y) ∧ (z = true ↔ ∀ k, k < i → it s (x + k) = lN (itP id ρ (k + 1) h))) n ?_ ?_ 0 true _ (Nat.zero_le _) ⟨m, rfl, hT, FX.rf, ⟨_, _, hC⟩, ⟨fun _ j hj => absurd hj (Nat.not_lt_zero _), fun _ => rfl⟩⟩
    · rintro i z μ hi ⟨m2, rfl, T2, F2, ⟨c1, c2, C2⟩, hz⟩ kk
      have hlt : ¬ n ≤ i := by omega
      obtain ⟨m3, e3, T3, C3, F3⟩ := r_passesT (ml := ml) (ke := 0) (kl := 0) hG0 T2 C2 (Bk_itP (Bk_mono hB (by omega) (by omega)) hπ5)
      have T3' : TR m3 id (itP id ρ (i + 1)) := T3
      have x4 := T3'.2.2.1 h (by omega)
      have y9 := (Bk_itP (ke := 0) (kl := 0) (n := i + 1) (π := id) (Bk_mono hB (by omega) (by omega)) (fun j hj => hj)).1.2.2.2.2.2.2.2.2.1 h (by omega)
      have xi : ml 163 (24 * s + x + i) = it s (x + i) := by rw [Nat.add_assoc]; exact (hS s hs).2.2 (x + i) (by omega)
      rw [eX7_isBorne_6]
      cases hzz : z
      · rw [hzz] at hz
        simp (maxSteps := 1000000) (decide := true) (disch := (first | assumption | omega | exact Nat.div_mul_le_self _ _ | exact ni_nz (by omega) (by omega) | exact rfl | exact retOk_bI _ | exact retOk_0 | exact retOk_1)) only [eX7_isBorne_0, eX7_isBorne_1, eX7_isBorne_3, eX7_isBorne_4, eX7_isBorne_8, eX7_isBorne_9, eX7_isBorne_12, eX7_isBorne_13, eX7_isBorne_16, eX7_isBorne_19, eX7_isBorne_21, eX7_isBorne_24, eX7_isBorne_25, eX7_isBorne_28, eX7_isBorne_31, eX7_isBorne_32, eX7_isBorne_33, eX7_isBorne_34, eX7_isBorne_35, eX7_isBorne_36, eX7_isBorne_39, eX7_isBorne_40, eX7_isBorne_42, eX7_isBorne_43, eX7_isBorne_44, eX7_isBorne_45, eX7_isBorne_48, eX7_isBorne_49, eX7_isBorne_52, eX7_isBorne_53, eX7_isBorne_55, eX7_isBorne_58, eX7_isBorne_61, eX7_isBorne_63, e3, hlt, WpR_some, Option.toList_some, Option.toList_none, List.cons_append, List.nil_append, List.append_nil, clr_n, clr_i, clr_a, ni_add, ni_mul, ni_sub, ni_lt, ni_le, ni_eq, ni_div, nat_mod_eq, ni_rem, iMax_nn, iMin_nn, iMax_sub, Nat.zero_max, bI_0, bI_1, bI_n0, up2_s, up2_n, up2_k, va_up_self, va_up_ne, ni_l, lN_mul, lN_add, ln_mask, lN_i, ↓reduceIte, if_true, if_false, not_true_eq_false, not_false_eq_true, ite_self, Nat.add_zero, Nat.zero_add, ent_def]
        exact kk false _ ⟨m3, rfl, T3', F2.tr F3, ⟨_, _, C3⟩, ⟨fun h => (by cases h), fun h => hz.mpr (fun k hk => h k (by omega))⟩⟩
      · rw [hzz] at hz
        by_cases hc : it s (x + i) = lN (itP id ρ (i + 1) h)
        · have hc' := hc.symm
          simp (maxSteps := 1000000) (decide := true) (disch := (first | assumption | omega | exact Nat.div_mul_le_self _ _ | exact ni_nz (by omega) (by omega) | exact rfl | exact retOk_bI _ | exact retOk_0 | exact retOk_1)) only [eX7_isBorne_0, eX7_isBorne_1, eX7_isBorne_3, eX7_isBorne_4, eX7_isBorne_8, eX7_isBorne_9, eX7_isBorne_12, eX7_isBorne_13, eX7_isBorne_16, eX7_isBorne_19, eX7_isBorne_21, eX7_isBorne_24, eX7_isBorne_25, eX7_isBorne_28, eX7_isBorne_31, eX7_isBorne_32, eX7_isBorne_33, eX7_isBorne_34, eX7_isBorne_35, eX7_isBorne_36, eX7_isBorne_39, eX7_isBorne_40, eX7_isBorne_42, eX7_isBorne_43, eX7_isBorne_44, eX7_isBorne_45, eX7_isBorne_48, eX7_isBorne_49, eX7_isBorne_52, eX7_isBorne_53, eX7_isBorne_55, eX7_isBorne_58, eX7_isBorne_61, eX7_isBorne_63, g1, g5, e3, x4, xi, lc_eq, hc, hlt, WpR_some, Option.toList_some, Option.toList_none, List.cons_append, List.nil_append, List.append_nil, clr_n, clr_i, clr_a, ni_add, ni_mul, ni_sub, ni_lt, ni_le, ni_eq, ni_div, nat_mod_eq, ni_rem, iMax_nn, iMin_nn, iMax_sub, Nat.zero_max, bI_0, bI_1, bI_n0, up2_s, up2_n, up2_k, va_up_self, va_up_ne, ni_l, lN_mul, lN_add, ln_mask, lN_i, ↓reduceIte, if_true, if_false, not_true_eq_false, not_false_eq_true, ite_self, Nat.add_zero, Nat.zero_add, ent_def]
          exact kk true _ ⟨m3, rfl, T3', F2.tr F3, ⟨_, _, C3⟩, ⟨fun _ k hk => by
            by_cases hq : k = i
            · rw [hq]; exact hc
            · exact hz.mp rfl k (by omega), fun _ => rfl⟩⟩
        · have hc' : ¬ lN (itP id ρ (i + 1) h) = it s (x + i) := fun q => hc q.symm
          simp (maxSteps := 1000000) (decide := true) (disch := (first | assumption | omega | exact Nat.div_mul_le_self _ _ | exact ni_nz (by omega) (by omega) | exact rfl | exact retOk_bI _ | exact retOk_0 | exact retOk_1)) only [eX7_isBorne_0, eX7_isBorne_1, eX7_isBorne_3, eX7_isBorne_4, eX7_isBorne_8, eX7_isBorne_9, eX7_isBorne_12, eX7_isBorne_13, eX7_isBorne_16, eX7_isBorne_19, eX7_isBorne_21, eX7_isBorne_24, eX7_isBorne_25, eX7_isBorne_28, eX7_isBorne_31, eX7_isBorne_32, eX7_isBorne_33, eX7_isBorne_34, eX7_isBorne_35, eX7_isBorne_36, eX7_isBorne_39, eX7_isBorne_40, eX7_isBorne_42, eX7_isBorne_43, eX7_isBorne_44, eX7_isBorne_45, eX7_isBorne_48, eX7_isBorne_49, eX7_isBorne_52, eX7_isBorne_53, eX7_isBorne_55, eX7_isBorne_58, eX7_isBorne_61, eX7_isBorne_63, g1, g5, e3, x4, xi, lc_eq, hc', hlt, WpR_some, Option.toList_some, Option.toList_none, List.cons_append, List.nil_append, List.append_nil, clr_n, clr_i, clr_a, ni_add, ni_mul, ni_sub, ni_lt, ni_le, ni_eq, ni_div, nat_mod_eq, ni_rem, iMax_nn, iMin_nn, iMax_sub, Nat.zero_max, bI_0, bI_1, bI_n0, up2_s, up2_n, up2_k, va_up_self, va_up_ne, ni_l, lN_mul, lN_add, ln_mask, lN_i, ↓reduceIte, if_true, if_false, not_true_eq_false, not_false_eq_true, ite_self, Nat.add_zero, Nat.zero_add, ent_def]
          exact kk false _ ⟨m3, rfl, T3', F2.tr F3, ⟨_, _, C3⟩, ⟨fun h => (by cases h), fun h => absurd (h i (by omega)) hc⟩⟩
    · rintro z μ ⟨m2, rfl, T2, F2, C2, hz⟩
      rw [eX7_isBorne_6]
      simp (maxSteps := 1000000) (decide := true) (disch := (first | assumption | omega | exact Nat.div_mul_le_self _ _ | exact ni_nz (by omega) (by omega) | exact rfl | exact retOk_bI _ | exact retOk_0 | exact retOk_1)) only [eX7_isBorne_0, eX7_isBorne_1, eX7_isBorne_3, eX7_isBorne_4, eX7_isBorne_8, eX7_isBorne_9, eX7_isBorne_12, eX7_isBorne_13, eX7_isBorne_16, eX7_isBorne_19, eX7_isBorne_21, eX7_isBorne_24, eX7_isBorne_25, eX7_isBorne_28, eX7_isBorne_31, eX7_isBorne_32, eX7_isBorne_33, eX7_isBorne_34, eX7_isBorne_35, eX7_isBorne_36, eX7_isBorne_39, eX7_isBorne_40, eX7_isBorne_42, eX7_isBorne_43, eX7_isBorne_44, eX7_isBorne_45, eX7_isBorne_48, eX7_isBorne_49, eX7_isBorne_52, eX7_isBorne_53, eX7_isBorne_55, eX7_isBorne_58, eX7_isBorne_61, eX7_isBorne_63, Nat.le_refl, WpR_some, Option.toList_some, Option.toList_none, List.cons_append, List.nil_append, List.append_nil, clr_n, clr_i, clr_a, ni_add, ni_mul, ni_sub, ni_lt, ni_le, ni_eq, ni_div, nat_mod_eq, ni_rem, iMax_nn, iMin_nn, iMax_sub, Nat.zero_max, bI_0, bI_1, bI_n0, up2_s, up2_n, up2_k, va_up_self, va_up_ne, ni_l, lN_mul, lN_add, ln_mask, lN_i, ↓reduceIte, if_true, if_false, not_true_eq_false, not_false_eq_true, ite_self, Nat.add_zero, Nat.zero_add, ent_def]
      rw [← hQ]
      have hf : brP it ρ h s x n = z := by
        unfold brP
        by_cases hd : ∀ k, k < n → it s (x + k) = lN (itP id ρ (k + 1) h)
        · rw [decide_eq_true hd]; exact (hz.mpr hd).symm
        · rw [decide_eq_false hd]
          cases hzz : z
          · rfl
          · exact absurd (hz.mp hzz) hd
      exact ⟨m2, by rw [hf], rfl, F2, C2⟩
  obtain ⟨r, μ', e1, m', rfl, rfl, h2⟩ := res_ex key
  exact ⟨m', e1, h2⟩
end FLM
