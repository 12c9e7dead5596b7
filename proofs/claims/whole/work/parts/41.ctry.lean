/-- one hearer's evenings -/
def itO (h : Nat) (σ : Nat → Nat) : Nat → Nat → Nat
  | 0 => σ
  | n + 1 => gon (sit id (itO h σ n) h)
def FT (m m' : Nat → Nat → Int32) : Prop := ∀ b, b < 144 ∨ 158 ≤ b → m' b = m b
section CTY
variable {G : List AT} {m : Nat → Nat → Int32} {ml : Nat → Nat → Int64} {q n s h t ke kl x y o k ki cx cy i : Nat} {σ τ ρ σi : Nat → Nat} {π : Nat → Nat} {u v w : Int32} {f fi : Nat → Nat → Nat} {μ : Mm} {d im : Bool}
theorem itO_ag (hh : h < σ 45) (h5 : σ 45 ≤ 5) (h4 : σ 44 ≤ 5) : ∀ n, AgH h (itO h σ n) (itP id σ n)
  | 0 => AgH.rf
  | n + 1 => by
    have e5 := itP_fix (i := 45) (π := id) (by omega) h4 h5 (fun j hj => hj) n
    have e4 := itP_fix (i := 44) (π := id) (by omega) h4 h5 (fun j hj => hj) n
    exact (itO_ag hh h5 h4 n).eve (by omega) (by omega) (by omega)
theorem itO_45 (hh : h < σ 45) (h5 : σ 45 ≤ 5) (h4 : σ 44 ≤ 5) : itO h σ n 45 = σ 45 := by
  rw [(itO_ag hh h5 h4 n).2.2.2 45 (by omega)]
  exact itP_fix (π := id) (by omega) h4 h5 (fun j hj => hj) n
theorem itO_44 (hh : h < σ 45) (h5 : σ 45 ≤ 5) (h4 : σ 44 ≤ 5) : itO h σ n 44 = σ 44 := by
  rw [(itO_ag hh h5 h4 n).2.2.2 44 (by omega)]
  exact itP_fix (π := id) (by omega) h4 h5 (fun j hj => hj) n
theorem Bk_itO (hh : h < σ 45) (hB : Bk (ke + n) (kl + n) σ) : Bk ke kl (itO h σ n) := by
  induction n generalizing ke kl with
  | zero => exact hB
  | succ n ih =>
    have h1 : Bk (ke + 1) (kl + 1) (itO h σ n) := ih (Bk_mono hB (by omega) (by omega))
    exact Bk_gon (Bk_sit h1 (by rw [itO_45 hh hB.1.2.1 hB.1.1]; exact hh) (fun j hj => hj))
theorem itO_sitO (hh : h < σ 45) (h5 : σ 45 ≤ 5) (h4 : σ 44 ≤ 5) : sitO id (itO h σ n) h = sitO id (itP id σ n) h := (itO_ag hh h5 h4 n).siO (by rw [itP_fix (π := id) (i := 44) (by omega) h4 h5 (fun j hj => hj) n]; exact h4)
theorem r_X6_foretell (hG : GW G) (hC : CA m σ k f) (hO : Ok σ) (hh : h < σ 45) (hn : n ≤ 60) : ∃ m', res mX6_foretell [.ref 2, .int (nI h), .int (nI n)] (G, m, ml) = some (none, (G, m', ml)) ∧ ShV m' 144 (itO h σ n) ∧ FT m m' := by
  have b1 := hO.1.1
  have b2 := hO.1.2.1
  obtain ⟨⟨g0, g1, g2, g3, g4, g5, g6, g7, -⟩, ⟨s3, p10, s68, p75, s144⟩, -⟩ := hG
  have s0 := s3.1
  have s1 := s144.1
  obtain ⟨m1, e1, V1, F1⟩ := r_X3_become (m := m) (ml := ml) s144 s3 (by omega)
  have key : Wp mX6_foretell 0 (ent [.ref 2, .int (nI h), .int (nI n)] 4) [] (G, m, ml) (fun r μ' => ∃ m', r = none ∧ μ' = (G, m', ml) ∧ ShV m' 144 (itO h σ n) ∧ FT m m') := by
    show Wp mX6_foretell 0 [some (.ref 2), some (.int (nI h)), some (.int (nI n)), none] [] (G, m, ml) _
    generalize hQ : (fun (r : Option Value) (μ' : Mm) => ∃ m', r = none ∧ μ' = (G, m', ml) ∧ ShV m' 144 (itO h σ n) ∧ FT m m') = Q
    simp (maxSteps := 1000000) (decide := true) (disch := (first | assumption | omega | exact Nat.div_mul_le_self _ _ | exact ni_nz (by omega) (by omega) | exact rfl | exact retOk_bI _ | exact retOk_0 | exact retOk_1)) only [eX6_foretell_0, eX6_foretell_1, eX6_foretell_4, eX6_foretell_5, eX6_foretell_8, eX6_foretell_11, eX6_foretell_12, eX6_foretell_14, eX6_foretell_15, eX6_foretell_18, eX6_foretell_19, eX6_foretell_22, eX6_foretell_23, eX6_foretell_26, eX6_foretell_27, eX6_foretell_30, eX6_foretell_33, g1, g7, e1, WpR_some, Option.toList_some, Option.toList_none, List.cons_append, List.nil_append, List.append_nil, clr_n, clr_i, clr_a, ni_add, ni_mul, ni_sub, ni_lt, ni_le, ni_eq, ni_div, nat_mod_eq, ni_rem, iMax_nn, iMin_nn, iMax_sub, Nat.zero_max, bI_0, bI_1, bI_n0, up2_s, up2_n, up2_k, va_up_self, va_up_ne, ni_l, lN_mul, lN_add, ln_mask, lN_i, ↓reduceIte, if_true, if_false, not_true_eq_false, not_false_eq_true, ite_self, Nat.add_zero, Nat.zero_add, ent_def]
    refine wp_for (X := Unit) (fun i _ => [some (.ref 2), some (.int (nI h)), some (.int (nI n)), some (.int (nI i))]) (fun i _ μ => ∃ m2, μ = (G, m2, ml) ∧ ShV m2 144 (itO h σ i) ∧ FT m m2) n ?_ ?_ 0 () _ (Nat.zero_le _) ⟨m1, rfl, V1 σ hC.1, fun b hb => F1 b (by omega)⟩
    · rintro i - μ hi ⟨m2, rfl, V2, F2⟩ kk
      have hlt : ¬ n ≤ i := by omega
      obtain ⟨m3, e3, V3, F3⟩ := r_X3_passEveningOf (ml := ml) (h := h) (ke := 0) (kl := 0) s144 V2 (Bk_itO hh (Bk_mono (Ok_Bk hO) (by omega) (by omega))) (by rw [itO_45 hh b2 b1]; exact hh)
      rw [eX6_foretell_13]
      simp (maxSteps := 1000000) (decide := true) (disch := (first | assumption | omega | exact Nat.div_mul_le_self _ _ | exact ni_nz (by omega) (by omega) | exact rfl | exact retOk_bI _ | exact retOk_0 | exact retOk_1)) only [eX6_foretell_0, eX6_foretell_1, eX6_foretell_4, eX6_foretell_5, eX6_foretell_8, eX6_foretell_11, eX6_foretell_12, eX6_foretell_14, eX6_foretell_15, eX6_foretell_18, eX6_foretell_19, eX6_foretell_22, eX6_foretell_23, eX6_foretell_26, eX6_foretell_27, eX6_foretell_30, eX6_foretell_33, g7, e3, hlt, WpR_some, Option.toList_some, Option.toList_none, List.cons_append, List.nil_append, List.append_nil, clr_n, clr_i, clr_a, ni_add, ni_mul, ni_sub, ni_lt, ni_le, ni_eq, ni_div, nat_mod_eq, ni_rem, iMax_nn, iMin_nn, iMax_sub, Nat.zero_max, bI_0, bI_1, bI_n0, up2_s, up2_n, up2_k, va_up_self, va_up_ne, ni_l, lN_mul, lN_add, ln_mask, lN_i, ↓reduceIte, if_true, if_false, not_true_eq_false, not_false_eq_true, ite_self, Nat.add_zero, Nat.zero_add, ent_def]
      exact kk () _ ⟨m3, rfl, V3, fun b hb => by rw [F3 b (by omega)]; exact F2 b hb⟩
    · rintro - μ ⟨m2, rfl, V2, F2⟩
      rw [eX6_foretell_13]
      simp (maxSteps := 1000000) (decide := true) (disch := (first | assumption | omega | exact Nat.div_mul_le_self _ _ | exact ni_nz (by omega) (by omega) | exact rfl | exact retOk_bI _ | exact retOk_0 | exact retOk_1)) only [eX6_foretell_0, eX6_foretell_1, eX6_foretell_4, eX6_foretell_5, eX6_foretell_8, eX6_foretell_11, eX6_foretell_12, eX6_foretell_14, eX6_foretell_15, eX6_foretell_18, eX6_foretell_19, eX6_foretell_22, eX6_foretell_23, eX6_foretell_26, eX6_foretell_27, eX6_foretell_30, eX6_foretell_33, Nat.le_refl, WpR_some, Option.toList_some, Option.toList_none, List.cons_append, List.nil_append, List.append_nil, clr_n, clr_i, clr_a, ni_add, ni_mul, ni_sub, ni_lt, ni_le, ni_eq, ni_div, nat_mod_eq, ni_rem, iMax_nn, iMin_nn, iMax_sub, Nat.zero_max, bI_0, bI_1, bI_n0, up2_s, up2_n, up2_k, va_up_self, va_up_ne, ni_l, lN_mul, lN_add, ln_mask, lN_i, ↓reduceIte, if_true, if_false, not_true_eq_false, not_false_eq_true, ite_self, Nat.add_zero, Nat.zero_add, ent_def]
      rw [← hQ]
      exact ⟨m2, rfl, rfl, V2, F2⟩
  obtain ⟨r, μ', e1, m', rfl, rfl, h2⟩ := res_ex key
  exact ⟨m', e1, h2⟩
theorem c_ahead_bad (hG : GW G) (hC : CA m σ k f) (h : (isN u (σ 45) && rg v 0 60 && rg w 0 2) = false) : res mX6_ahead [.ref 2, .int u, .int v, .int w] (G, m, ml) = some (some (.int (-1)), (G, m, ml)) := by
  have e := r_X6_isHearer (ml := ml) (v := u) hG hC.1
  obtain ⟨⟨g0, g1, -⟩, -⟩ := hG
  apply res_of
  show Wp mX6_ahead 0 [some (.ref 2), some (.int u), some (.int v), some (.int w)] [] (G, m, ml) _
  cases h1 : isN u (σ 45)
  · rw [h1] at e
    simp (maxSteps := 1000000) (decide := true) (disch := (first | assumption | omega | exact Nat.div_mul_le_self _ _ | exact ni_nz (by omega) (by omega) | exact rfl | exact retOk_bI _ | exact retOk_0 | exact retOk_1)) only [eX6_ahead_0, eX6_ahead_1, eX6_ahead_2, eX6_ahead_5, eX6_ahead_8, eX6_ahead_9, eX6_ahead_10, eX6_ahead_12, eX6_ahead_15, eX6_ahead_18, eX6_ahead_19, eX6_ahead_20, eX6_ahead_21, eX6_ahead_24, eX6_ahead_27, eX6_ahead_28, eX6_ahead_29, eX6_ahead_30, eX6_ahead_31, eX6_ahead_32, eX6_ahead_35, eX6_ahead_36, eX6_ahead_64, eX6_ahead_65, eX6_ahead_68, eX6_ahead_71, eX6_ahead_72, eX6_ahead_73, eX6_ahead_74, eX6_ahead_75, eX6_ahead_78, eX6_ahead_81, eX6_ahead_82, eX6_ahead_83, eX6_ahead_84, eX6_ahead_85, eX6_ahead_88, eX6_ahead_89, eX6_ahead_92, e, WpR_some, Option.toList_some, Option.toList_none, List.cons_append, List.nil_append, List.append_nil, clr_n, clr_i, clr_a, ni_add, ni_mul, ni_sub, ni_lt, ni_le, ni_eq, ni_div, nat_mod_eq, ni_rem, iMax_nn, iMin_nn, iMax_sub, Nat.zero_max, bI_0, bI_1, bI_n0, up2_s, up2_n, up2_k, va_up_self, va_up_ne, ni_l, lN_mul, lN_add, ln_mask, lN_i, ↓reduceIte, if_true, if_false, not_true_eq_false, not_false_eq_true, ite_self, Nat.add_zero, Nat.zero_add, ent_def]
  · rw [h1] at e
    cases h2 : rg v 0 60
    · simp (maxSteps := 1000000) (decide := true) (disch := (first | assumption | omega | exact Nat.div_mul_le_self _ _ | exact ni_nz (by omega) (by omega) | exact rfl | exact retOk_bI _ | exact retOk_0 | exact retOk_1)) only [eX6_ahead_0, eX6_ahead_1, eX6_ahead_2, eX6_ahead_5, eX6_ahead_8, eX6_ahead_9, eX6_ahead_10, eX6_ahead_12, eX6_ahead_15, eX6_ahead_18, eX6_ahead_19, eX6_ahead_20, eX6_ahead_21, eX6_ahead_24, eX6_ahead_27, eX6_ahead_28, eX6_ahead_29, eX6_ahead_30, eX6_ahead_31, eX6_ahead_32, eX6_ahead_35, eX6_ahead_36, eX6_ahead_64, eX6_ahead_65, eX6_ahead_68, eX6_ahead_71, eX6_ahead_72, eX6_ahead_73, eX6_ahead_74, eX6_ahead_75, eX6_ahead_78, eX6_ahead_81, eX6_ahead_82, eX6_ahead_83, eX6_ahead_84, eX6_ahead_85, eX6_ahead_88, eX6_ahead_89, eX6_ahead_92, e, r_X6_wi, h2, WpR_some, Option.toList_some, Option.toList_none, List.cons_append, List.nil_append, List.append_nil, clr_n, clr_i, clr_a, ni_add, ni_mul, ni_sub, ni_lt, ni_le, ni_eq, ni_div, nat_mod_eq, ni_rem, iMax_nn, iMin_nn, iMax_sub, Nat.zero_max, bI_0, bI_1, bI_n0, up2_s, up2_n, up2_k, va_up_self, va_up_ne, ni_l, lN_mul, lN_add, ln_mask, lN_i, ↓reduceIte, if_true, if_false, not_true_eq_false, not_false_eq_true, ite_self, Nat.add_zero, Nat.zero_add, ent_def]
    · rw [h1, h2, Bool.true_and, Bool.true_and] at h
      simp (maxSteps := 1000000) (decide := true) (disch := (first | assumption | omega | exact Nat.div_mul_le_self _ _ | exact ni_nz (by omega) (by omega) | exact rfl | exact retOk_bI _ | exact retOk_0 | exact retOk_1)) only [eX6_ahead_0, eX6_ahead_1, eX6_ahead_2, eX6_ahead_5, eX6_ahead_8, eX6_ahead_9, eX6_ahead_10, eX6_ahead_12, eX6_ahead_15, eX6_ahead_18, eX6_ahead_19, eX6_ahead_20, eX6_ahead_21, eX6_ahead_24, eX6_ahead_27, eX6_ahead_28, eX6_ahead_29, eX6_ahead_30, eX6_ahead_31, eX6_ahead_32, eX6_ahead_35, eX6_ahead_36, eX6_ahead_64, eX6_ahead_65, eX6_ahead_68, eX6_ahead_71, eX6_ahead_72, eX6_ahead_73, eX6_ahead_74, eX6_ahead_75, eX6_ahead_78, eX6_ahead_81, eX6_ahead_82, eX6_ahead_83, eX6_ahead_84, eX6_ahead_85, eX6_ahead_88, eX6_ahead_89, eX6_ahead_92, e, r_X6_wi, h2, h, WpR_some, Option.toList_some, Option.toList_none, List.cons_append, List.nil_append, List.append_nil, clr_n, clr_i, clr_a, ni_add, ni_mul, ni_sub, ni_lt, ni_le, ni_eq, ni_div, nat_mod_eq, ni_rem, iMax_nn, iMin_nn, iMax_sub, Nat.zero_max, bI_0, bI_1, bI_n0, up2_s, up2_n, up2_k, va_up_self, va_up_ne, ni_l, lN_mul, lN_add, ln_mask, lN_i, ↓reduceIte, if_true, if_false, not_true_eq_false, not_false_eq_true, ite_self, Nat.add_zero, Nat.zero_add, ent_def]
theorem c_ahead (hG : GW G) (hC : CA m σ k f) (hO : Ok σ) (hh : h < σ 45) (hn : n ≤ 60) (hx : x ≤ 2) : ∃ m', res mX6_ahead [.ref 2, .int (nI h), .int (nI n), .int (nI x)] (G, m, ml) = some (some (.int (ahS σ h n (nI x))), (G, m', ml)) ∧ FT m m' := by
  have b1 := hO.1.1
  have b2 := hO.1.2.1
  have e := r_X6_isHearer (ml := ml) (v := nI h) hG hC.1
  rw [isN_t hh (by omega)] at e
  have hr1 := rg_t (j := n) (lo := 0) (hi := 60) (by omega) hn (by decide)
  have hr2 := rg_t (j := x) (lo := 0) (hi := 2) (by omega) hx (by decide)
  obtain ⟨m1, e1, V1, F1⟩ := r_X6_foretell (ml := ml) hG hC hO hh hn
  have hag := itO_ag hh b2 b1 n
  have hB1 : Bk 0 0 (itO h σ n) := Bk_itO hh (Bk_mono (Ok_Bk hO) (by omega) (by omega))
  have h45 := itO_45 (n := n) hh b2 b1
  have eT := r_X3_tellerOf (ml := ml) (h := h) hG.2.1.2.2.2.2 V1 hB1.1 (by omega) (by unfold seats; omega)
  rw [tO_ag hag] at eT
  obtain ⟨⟨g0, g1, g2, g3, g4, g5, g6, g7, -⟩, ⟨s3, p10, s68, p75, s144⟩, -⟩ := hG
  obtain ⟨s0, ⟨s1, s2, s3, s4, s5, s6⟩, ⟨q1, q2, q3, q4, q5, q6⟩, l1, l2, l3, l4, l5, l6⟩ := s144
  obtain ⟨-, w1, w2, w3, w4, w5, w6⟩ := ShV_old V1
  have x4 := w4 h (by omega)
  have x5 := w5 h (by omega)
  rw [hag.1] at x4
  rw [hag.2.1] at x5
  refine ⟨m1, ?_, F1⟩
  apply res_of
  show Wp mX6_ahead 0 [some (.ref 2), some (.int (nI h)), some (.int (nI n)), some (.int (nI x))] [] (G, m, ml) _
  unfold ahS
  rcases (show x = 0 ∨ x = 1 ∨ x = 2 by omega) with rfl | rfl | rfl
  · simp (maxSteps := 1000000) (decide := true) (disch := (first | assumption | omega | exact Nat.div_mul_le_self _ _ | exact ni_nz (by omega) (by omega) | exact rfl | exact retOk_bI _ | exact retOk_0 | exact retOk_1)) only [eX6_ahead_0, eX6_ahead_1, eX6_ahead_2, eX6_ahead_5, eX6_ahead_8, eX6_ahead_9, eX6_ahead_10, eX6_ahead_12, eX6_ahead_15, eX6_ahead_18, eX6_ahead_19, eX6_ahead_20, eX6_ahead_21, eX6_ahead_24, eX6_ahead_27, eX6_ahead_28, eX6_ahead_29, eX6_ahead_30, eX6_ahead_31, eX6_ahead_32, eX6_ahead_35, eX6_ahead_36, eX6_ahead_64, eX6_ahead_65, eX6_ahead_68, eX6_ahead_71, eX6_ahead_72, eX6_ahead_73, eX6_ahead_74, eX6_ahead_75, eX6_ahead_78, eX6_ahead_81, eX6_ahead_82, eX6_ahead_83, eX6_ahead_84, eX6_ahead_85, eX6_ahead_88, eX6_ahead_89, eX6_ahead_92, e, r_X6_wi, hr1, hr2, e1, g7, s4, x4, WpR_some, Option.toList_some, Option.toList_none, List.cons_append, List.nil_append, List.append_nil, clr_n, clr_i, clr_a, ni_add, ni_mul, ni_sub, ni_lt, ni_le, ni_eq, ni_div, nat_mod_eq, ni_rem, iMax_nn, iMin_nn, iMax_sub, Nat.zero_max, bI_0, bI_1, bI_n0, up2_s, up2_n, up2_k, va_up_self, va_up_ne, ni_l, lN_mul, lN_add, ln_mask, lN_i, ↓reduceIte, if_true, if_false, not_true_eq_false, not_false_eq_true, ite_self, Nat.add_zero, Nat.zero_add, ent_def]
  · simp (maxSteps := 1000000) (decide := true) (disch := (first | assumption | omega | exact Nat.div_mul_le_self _ _ | exact ni_nz (by omega) (by omega) | exact rfl | exact retOk_bI _ | exact retOk_0 | exact retOk_1)) only [eX6_ahead_0, eX6_ahead_1, eX6_ahead_2, eX6_ahead_5, eX6_ahead_8, eX6_ahead_9, eX6_ahead_10, eX6_ahead_12, eX6_ahead_15, eX6_ahead_18, eX6_ahead_19, eX6_ahead_20, eX6_ahead_21, eX6_ahead_24, eX6_ahead_27, eX6_ahead_28, eX6_ahead_29, eX6_ahead_30, eX6_ahead_31, eX6_ahead_32, eX6_ahead_35, eX6_ahead_36, eX6_ahead_64, eX6_ahead_65, eX6_ahead_68, eX6_ahead_71, eX6_ahead_72, eX6_ahead_73, eX6_ahead_74, eX6_ahead_75, eX6_ahead_78, eX6_ahead_81, eX6_ahead_82, eX6_ahead_83, eX6_ahead_84, eX6_ahead_85, eX6_ahead_88, eX6_ahead_89, eX6_ahead_92, e, r_X6_wi, hr1, hr2, e1, g7, s5, x5, WpR_some, Option.toList_some, Option.toList_none, List.cons_append, List.nil_append, List.append_nil, clr_n, clr_i, clr_a, ni_add, ni_mul, ni_sub, ni_lt, ni_le, ni_eq, ni_div, nat_mod_eq, ni_rem, iMax_nn, iMin_nn, iMax_sub, Nat.zero_max, bI_0, bI_1, bI_n0, up2_s, up2_n, up2_k, va_up_self, va_up_ne, ni_l, lN_mul, lN_add, ln_mask, lN_i, ↓reduceIte, if_true, if_false, not_true_eq_false, not_false_eq_true, ite_self, Nat.add_zero, Nat.zero_add, ent_def]
  · simp (maxSteps := 1000000) (decide := true) (disch := (first | assumption | omega | exact Nat.div_mul_le_self _ _ | exact ni_nz (by omega) (by omega) | exact rfl | exact retOk_bI _ | exact retOk_0 | exact retOk_1)) only [eX6_ahead_0, eX6_ahead_1, eX6_ahead_2, eX6_ahead_5, eX6_ahead_8, eX6_ahead_9, eX6_ahead_10, eX6_ahead_12, eX6_ahead_15, eX6_ahead_18, eX6_ahead_19, eX6_ahead_20, eX6_ahead_21, eX6_ahead_24, eX6_ahead_27, eX6_ahead_28, eX6_ahead_29, eX6_ahead_30, eX6_ahead_31, eX6_ahead_32, eX6_ahead_35, eX6_ahead_36, eX6_ahead_64, eX6_ahead_65, eX6_ahead_68, eX6_ahead_71, eX6_ahead_72, eX6_ahead_73, eX6_ahead_74, eX6_ahead_75, eX6_ahead_78, eX6_ahead_81, eX6_ahead_82, eX6_ahead_83, eX6_ahead_84, eX6_ahead_85, eX6_ahead_88, eX6_ahead_89, eX6_ahead_92, e, r_X6_wi, hr1, hr2, e1, g7, eT, WpR_some, Option.toList_some, Option.toList_none, List.cons_append, List.nil_append, List.append_nil, clr_n, clr_i, clr_a, ni_add, ni_mul, ni_sub, ni_lt, ni_le, ni_eq, ni_div, nat_mod_eq, ni_rem, iMax_nn, iMin_nn, iMax_sub, Nat.zero_max, bI_0, bI_1, bI_n0, up2_s, up2_n, up2_k, va_up_self, va_up_ne, ni_l, lN_mul, lN_add, ln_mask, lN_i, ↓reduceIte, if_true, if_false, not_true_eq_false, not_false_eq_true, ite_self, Nat.add_zero, Nat.zero_add, ent_def]
theorem c_then_bad (hG : GW G) (hC : CA m σ k f) (h : (isN u (σ 45) && isN v (σ 44) && rg w 0 60) = false) : res mX6_then [.ref 2, .int u, .int v, .int w] (G, m, ml) = some (some (.int (-1)), (G, m, ml)) := by
  have e := r_X6_isHearer (ml := ml) (v := u) hG hC.1
  have e2 := r_X6_isTeller (ml := ml) (v := v) hG hC.1
  obtain ⟨⟨g0, g1, -⟩, -⟩ := hG
  apply res_of
  show Wp mX6_then 0 [some (.ref 2), some (.int u), some (.int v), some (.int w)] [] (G, m, ml) _
  cases h1 : isN u (σ 45)
  · rw [h1] at e
    simp (maxSteps := 1000000) (decide := true) (disch := (first | assumption | omega | exact Nat.div_mul_le_self _ _ | exact ni_nz (by omega) (by omega) | exact rfl | exact retOk_bI _ | exact retOk_0 | exact retOk_1)) only [eX6_then_0, eX6_then_1, eX6_then_2, eX6_then_5, eX6_then_8, eX6_then_9, eX6_then_10, eX6_then_13, eX6_then_16, eX6_then_17, eX6_then_18, eX6_then_20, eX6_then_23, eX6_then_26, eX6_then_27, eX6_then_28, eX6_then_29, eX6_then_30, eX6_then_31, eX6_then_34, eX6_then_35, eX6_then_38, eX6_then_39, eX6_then_40, eX6_then_43, e, WpR_some, Option.toList_some, Option.toList_none, List.cons_append, List.nil_append, List.append_nil, clr_n, clr_i, clr_a, ni_add, ni_mul, ni_sub, ni_lt, ni_le, ni_eq, ni_div, nat_mod_eq, ni_rem, iMax_nn, iMin_nn, iMax_sub, Nat.zero_max, bI_0, bI_1, bI_n0, up2_s, up2_n, up2_k, va_up_self, va_up_ne, ni_l, lN_mul, lN_add, ln_mask, lN_i, ↓reduceIte, if_true, if_false, not_true_eq_false, not_false_eq_true, ite_self, Nat.add_zero, Nat.zero_add, ent_def]
  · rw [h1] at e
    cases h2 : isN v (σ 44)
    · rw [h2] at e2
      simp (maxSteps := 1000000) (decide := true) (disch := (first | assumption | omega | exact Nat.div_mul_le_self _ _ | exact ni_nz (by omega) (by omega) | exact rfl | exact retOk_bI _ | exact retOk_0 | exact retOk_1)) only [eX6_then_0, eX6_then_1, eX6_then_2, eX6_then_5, eX6_then_8, eX6_then_9, eX6_then_10, eX6_then_13, eX6_then_16, eX6_then_17, eX6_then_18, eX6_then_20, eX6_then_23, eX6_then_26, eX6_then_27, eX6_then_28, eX6_then_29, eX6_then_30, eX6_then_31, eX6_then_34, eX6_then_35, eX6_then_38, eX6_then_39, eX6_then_40, eX6_then_43, e, e2, WpR_some, Option.toList_some, Option.toList_none, List.cons_append, List.nil_append, List.append_nil, clr_n, clr_i, clr_a, ni_add, ni_mul, ni_sub, ni_lt, ni_le, ni_eq, ni_div, nat_mod_eq, ni_rem, iMax_nn, iMin_nn, iMax_sub, Nat.zero_max, bI_0, bI_1, bI_n0, up2_s, up2_n, up2_k, va_up_self, va_up_ne, ni_l, lN_mul, lN_add, ln_mask, lN_i, ↓reduceIte, if_true, if_false, not_true_eq_false, not_false_eq_true, ite_self, Nat.add_zero, Nat.zero_add, ent_def]
    · rw [h1, h2, Bool.true_and, Bool.true_and] at h
      rw [h2] at e2
      simp (maxSteps := 1000000) (decide := true) (disch := (first | assumption | omega | exact Nat.div_mul_le_self _ _ | exact ni_nz (by omega) (by omega) | exact rfl | exact retOk_bI _ | exact retOk_0 | exact retOk_1)) only [eX6_then_0, eX6_then_1, eX6_then_2, eX6_then_5, eX6_then_8, eX6_then_9, eX6_then_10, eX6_then_13, eX6_then_16, eX6_then_17, eX6_then_18, eX6_then_20, eX6_then_23, eX6_then_26, eX6_then_27, eX6_then_28, eX6_then_29, eX6_then_30, eX6_then_31, eX6_then_34, eX6_then_35, eX6_then_38, eX6_then_39, eX6_then_40, eX6_then_43, e, e2, r_X6_wi, h, WpR_some, Option.toList_some, Option.toList_none, List.cons_append, List.nil_append, List.append_nil, clr_n, clr_i, clr_a, ni_add, ni_mul, ni_sub, ni_lt, ni_le, ni_eq, ni_div, nat_mod_eq, ni_rem, iMax_nn, iMin_nn, iMax_sub, Nat.zero_max, bI_0, bI_1, bI_n0, up2_s, up2_n, up2_k, va_up_self, va_up_ne, ni_l, lN_mul, lN_add, ln_mask, lN_i, ↓reduceIte, if_true, if_false, not_true_eq_false, not_false_eq_true, ite_self, Nat.add_zero, Nat.zero_add, ent_def]
theorem c_then (hG : GW G) (hC : CA m σ k f) (hO : Ok σ) (hh : h < σ 45) (ht : t < σ 44) (hn : n ≤ 60) : ∃ m', res mX6_then [.ref 2, .int (nI h), .int (nI t), .int (nI n)] (G, m, ml) = some (some (.int (nI (itP id σ n (10 + (h * 5 + t))))), (G, m', ml)) ∧ FT m m' := by
  have b1 := hO.1.1
  have b2 := hO.1.2.1
  have e := r_X6_isHearer (ml := ml) (v := nI h) hG hC.1
  rw [isN_t hh (by omega)] at e
  have e0 := r_X6_isTeller (ml := ml) (v := nI t) hG hC.1
  rw [isN_t ht (by omega)] at e0
  have hr1 := rg_t (j := n) (lo := 0) (hi := 60) (by omega) hn (by decide)
  obtain ⟨m1, e1, V1, F1⟩ := r_X6_foretell (ml := ml) hG hC hO hh hn
  have hag := itO_ag hh b2 b1 n
  have e3 := r_X3_timesHeard (m := m1) (ml := ml) (h := h) (t := t) hG.2.1.2.2.2.2 (by omega) (by omega)
  rw [(ShV_old V1).2.2.2.2.2.2 (h * 5 + t) (by omega), hag.2.2.1 t (by omega)] at e3
  obtain ⟨⟨g0, g1, g2, g3, g4, g5, g6, g7, -⟩, ⟨s3, p10, s68, p75, s144⟩, -⟩ := hG
  have s0 := s144.1
  refine ⟨m1, ?_, F1⟩
  apply res_of
  show Wp mX6_then 0 [some (.ref 2), some (.int (nI h)), some (.int (nI t)), some (.int (nI n))] [] (G, m, ml) _
  simp (maxSteps := 1000000) (decide := true) (disch := (first | assumption | omega | exact Nat.div_mul_le_self _ _ | exact ni_nz (by omega) (by omega) | exact rfl | exact retOk_bI _ | exact retOk_0 | exact retOk_1)) only [eX6_then_0, eX6_then_1, eX6_then_2, eX6_then_5, eX6_then_8, eX6_then_9, eX6_then_10, eX6_then_13, eX6_then_16, eX6_then_17, eX6_then_18, eX6_then_20, eX6_then_23, eX6_then_26, eX6_then_27, eX6_then_28, eX6_then_29, eX6_then_30, eX6_then_31, eX6_then_34, eX6_then_35, eX6_then_38, eX6_then_39, eX6_then_40, eX6_then_43, e, e0, r_X6_wi, hr1, e1, g7, e3, WpR_some, Option.toList_some, Option.toList_none, List.cons_append, List.nil_append, List.append_nil, clr_n, clr_i, clr_a, ni_add, ni_mul, ni_sub, ni_lt, ni_le, ni_eq, ni_div, nat_mod_eq, ni_rem, iMax_nn, iMin_nn, iMax_sub, Nat.zero_max, bI_0, bI_1, bI_n0, up2_s, up2_n, up2_k, va_up_self, va_up_ne, ni_l, lN_mul, lN_add, ln_mask, lN_i, ↓reduceIte, if_true, if_false, not_true_eq_false, not_false_eq_true, ite_self, Nat.add_zero, Nat.zero_add, ent_def]
theorem c_left_bad (hG : GW G) (hC : CA m σ k f) (h : (isN u (σ 45) && rg v 0 60) = false) : res mX6_left [.ref 2, .int u, .int v] (G, m, ml) = some (some (.int (-1)), (G, m, ml)) := by
  have e := r_X6_isHearer (ml := ml) (v := u) hG hC.1
  obtain ⟨⟨g0, g1, -⟩, -⟩ := hG
  apply res_of
  show Wp mX6_left 0 [some (.ref 2), some (.int u), some (.int v), none] [] (G, m, ml) _
  cases h1 : isN u (σ 45)
  · rw [h1] at e
    simp (maxSteps := 1000000) (decide := true) (disch := (first | assumption | omega | exact Nat.div_mul_le_self _ _ | exact ni_nz (by omega) (by omega) | exact rfl | exact retOk_bI _ | exact retOk_0 | exact retOk_1)) only [eX6_left_0, eX6_left_1, eX6_left_2, eX6_left_5, eX6_left_8, eX6_left_9, eX6_left_10, eX6_left_12, eX6_left_15, eX6_left_18, eX6_left_19, eX6_left_20, eX6_left_21, eX6_left_22, eX6_left_23, eX6_left_26, eX6_left_27, eX6_left_28, eX6_left_31, eX6_left_34, eX6_left_35, eX6_left_36, eX6_left_37, eX6_left_38, eX6_left_39, eX6_left_40, eX6_left_43, eX6_left_44, eX6_left_47, eX6_left_48, eX6_left_49, eX6_left_50, e, WpR_some, Option.toList_some, Option.toList_none, List.cons_append, List.nil_append, List.append_nil, clr_n, clr_i, clr_a, ni_add, ni_mul, ni_sub, ni_lt, ni_le, ni_eq, ni_div, nat_mod_eq, ni_rem, iMax_nn, iMin_nn, iMax_sub, Nat.zero_max, bI_0, bI_1, bI_n0, up2_s, up2_n, up2_k, va_up_self, va_up_ne, ni_l, lN_mul, lN_add, ln_mask, lN_i, ↓reduceIte, if_true, if_false, not_true_eq_false, not_false_eq_true, ite_self, Nat.add_zero, Nat.zero_add, ent_def]
  · rw [h1] at e
    rw [h1, Bool.true_and] at h
    simp (maxSteps := 1000000) (decide := true) (disch := (first | assumption | omega | exact Nat.div_mul_le_self _ _ | exact ni_nz (by omega) (by omega) | exact rfl | exact retOk_bI _ | exact retOk_0 | exact retOk_1)) only [eX6_left_0, eX6_left_1, eX6_left_2, eX6_left_5, eX6_left_8, eX6_left_9, eX6_left_10, eX6_left_12, eX6_left_15, eX6_left_18, eX6_left_19, eX6_left_20, eX6_left_21, eX6_left_22, eX6_left_23, eX6_left_26, eX6_left_27, eX6_left_28, eX6_left_31, eX6_left_34, eX6_left_35, eX6_left_36, eX6_left_37, eX6_left_38, eX6_left_39, eX6_left_40, eX6_left_43, eX6_left_44, eX6_left_47, eX6_left_48, eX6_left_49, eX6_left_50, e, r_X6_wi, h, WpR_some, Option.toList_some, Option.toList_none, List.cons_append, List.nil_append, List.append_nil, clr_n, clr_i, clr_a, ni_add, ni_mul, ni_sub, ni_lt, ni_le, ni_eq, ni_div, nat_mod_eq, ni_rem, iMax_nn, iMin_nn, iMax_sub, Nat.zero_max, bI_0, bI_1, bI_n0, up2_s, up2_n, up2_k, va_up_self, va_up_ne, ni_l, lN_mul, lN_add, ln_mask, lN_i, ↓reduceIte, if_true, if_false, not_true_eq_false, not_false_eq_true, ite_self, Nat.add_zero, Nat.zero_add, ent_def]
theorem c_left (hG : GW G) (hC : CA m σ k f) (hO : Ok σ) (hh : h < σ 45) (hn : n ≤ 60) : ∃ m', res mX6_left [.ref 2, .int (nI h), .int (nI n)] (G, m, ml) = some (some (.int (allT σ &&& (hbI (itP id σ n) h (σ 44) ^^^ -1))), (G, m', ml)) ∧ FT m m' := by
  have b1 := hO.1.1
  have b2 := hO.1.2.1
  have e := r_X6_isHearer (ml := ml) (v := nI h) hG hC.1
  rw [isN_t hh (by omega)] at e
  have hr1 := rg_t (j := n) (lo := 0) (hi := 60) (by omega) hn (by decide)
  obtain ⟨m1, e1, V1, F1⟩ := r_X6_foretell (ml := ml) hG hC hO hh hn
  have hag := itO_ag hh b2 b1 n
  have hB1 : Bk 0 0 (itO h σ n) := Bk_itO hh (Bk_mono (Ok_Bk hO) (by omega) (by omega))
  have eH := r_X3_heardBy (ml := ml) (h := h) hG.2.1.2.2.2.2 V1 hB1.1 (by omega)
  rw [itO_44 hh b2 b1, hbI_ag hag (σ 44) b1] at eH
  have V3 : ShV m1 3 σ := ShV_fr hC.1 (fun b b1 b2 => F1 b (by omega))
  obtain ⟨⟨v0, -⟩, -⟩ := ShV_old V3
  have hal : nI 1 <<< (nI (σ 44) &&& 31) - nI 1 = allT σ := rfl
  obtain ⟨⟨g0, g1, g2, g3, g4, g5, g6, g7, -⟩, ⟨s3, p10, s68, p75, s144⟩, -⟩ := hG
  have s0 := s144.1
  have s0' := s3.1
  refine ⟨m1, ?_, F1⟩
  apply res_of
  show Wp mX6_left 0 [some (.ref 2), some (.int (nI h)), some (.int (nI n)), none] [] (G, m, ml) _
  simp (maxSteps := 1000000) (decide := true) (disch := (first | assumption | omega | exact Nat.div_mul_le_self _ _ | exact ni_nz (by omega) (by omega) | exact rfl | exact retOk_bI _ | exact retOk_0 | exact retOk_1)) only [eX6_left_0, eX6_left_1, eX6_left_2, eX6_left_5, eX6_left_8, eX6_left_9, eX6_left_10, eX6_left_12, eX6_left_15, eX6_left_18, eX6_left_19, eX6_left_20, eX6_left_21, eX6_left_22, eX6_left_23, eX6_left_26, eX6_left_27, eX6_left_28, eX6_left_31, eX6_left_34, eX6_left_35, eX6_left_36, eX6_left_37, eX6_left_38, eX6_left_39, eX6_left_40, eX6_left_43, eX6_left_44, eX6_left_47, eX6_left_48, eX6_left_49, eX6_left_50, e, r_X6_wi, hr1, e1, g1, g7, eH, v0, hal, WpR_some, Option.toList_some, Option.toList_none, List.cons_append, List.nil_append, List.append_nil, clr_n, clr_i, clr_a, ni_add, ni_mul, ni_sub, ni_lt, ni_le, ni_eq, ni_div, nat_mod_eq, ni_rem, iMax_nn, iMin_nn, iMax_sub, Nat.zero_max, bI_0, bI_1, bI_n0, up2_s, up2_n, up2_k, va_up_self, va_up_ne, ni_l, lN_mul, lN_add, ln_mask, lN_i, ↓reduceIte, if_true, if_false, not_true_eq_false, not_false_eq_true, ite_self, Nat.add_zero, Nat.zero_add, ent_def]
theorem r_X6_firstLook (hG : GW G) (hV : ShV m 144 ρ) (hB : Bk n n ρ) (hh : h < ρ 45) (hn : n ≤ 60) : ∃ m', res mX6_firstLook [.ref 2, .int (nI h), .int (nI n)] (G, m, ml) = some (some (.int (if fl ρ h n = n then nI 0 else nI (fl ρ h n + 1))), (G, m', ml)) ∧ (∀ b, b < 144 ∨ 150 < b → m' b = m b) := by
  have b1 := hB.1.1
  have b2 := hB.1.2.1
  obtain ⟨⟨g0, g1, g2, g3, g4, g5, g6, g7, -⟩, ⟨s3, p10, s68, p75, s144⟩, -⟩ := hG
  have s1 := s144.1
  have key : Wp mX6_firstLook 0 (ent [.ref 2, .int (nI h), .int (nI n)] 4) [] (G, m, ml) (fun r μ' => ∃ m', r = some (.int (if fl ρ h n = n then nI 0 else nI (fl ρ h n + 1))) ∧ μ' = (G, m', ml) ∧ (∀ b, b < 144 ∨ 150 < b → m' b = m b)) := by
    show Wp mX6_firstLook 0 [some (.ref 2), some (.int (nI h)), some (.int (nI n)), none] [] (G, m, ml) _
    generalize hQ : (fun (r : Option Value) (μ' : Mm) => ∃ m', r = some (.int (if fl ρ h n = n then nI 0 else nI (fl ρ h n + 1))) ∧ μ' = (G, m', ml) ∧ (∀ b, b < 144 ∨ 150 < b → m' b = m b)) = Q
    simp (maxSteps := 1000000) (decide := true) (disch := (first | assumption | omega | exact Nat.div_mul_le_self _ _ | exact ni_nz (by omega) (by omega) | exact rfl | exact retOk_bI _ | exact retOk_0 | exact retOk_1)) only [eX6_firstLook_0, eX6_firstLook_1, eX6_firstLook_3, eX6_firstLook_4, eX6_firstLook_7, eX6_firstLook_8, eX6_firstLook_11, eX6_firstLook_12, eX6_firstLook_15, eX6_firstLook_16, eX6_firstLook_19, eX6_firstLook_20, eX6_firstLook_21, eX6_firstLook_24, eX6_firstLook_27, eX6_firstLook_28, WpR_some, Option.toList_some, Option.toList_none, List.cons_append, List.nil_append, List.append_nil, clr_n, clr_i, clr_a, ni_add, ni_mul, ni_sub, ni_lt, ni_le, ni_eq, ni_div, nat_mod_eq, ni_rem, iMax_nn, iMin_nn, iMax_sub, Nat.zero_max, bI_0, bI_1, bI_n0, up2_s, up2_n, up2_k, va_up_self, va_up_ne, ni_l, lN_mul, lN_add, ln_mask, lN_i, ↓reduceIte, if_true, if_false, not_true_eq_false, not_false_eq_true, ite_self, Nat.add_zero, Nat.zero_add, ent_def]
    refine wp_for (X := Unit) (fun i _ => [some (.ref 2), some (.int (nI h)), some (.int (nI n)), some (.int (nI (i + 1)))]) (fun i _ μ => ∃ m2, μ = (G, m2, ml) ∧ ShV m2 144 (itO h ρ i) ∧ (∀ b, b < 144 ∨ 150 < b → m2 b = m b) ∧ (∀ j, j < i → sitO id (itP id ρ j) h ≠ 2)) n ?_ ?_ 0 () _ (Nat.zero_le _) ⟨m, rfl, hV, fun _ _ => rfl, fun j hj => absurd hj (Nat.not_lt_zero _)⟩
    · rintro i - μ hi ⟨m2, rfl, V2, F2, N2⟩ kk
      have hlt' : ¬ n < i + 1 := by omega
      obtain ⟨m3, e3, V3, F3⟩ := r_X3_passEveningOf (ml := ml) (h := h) (ke := 0) (kl := 0) s144 V2 (Bk_itO hh (Bk_mono hB (by omega) (by omega))) (by rw [itO_45 hh b2 b1]; exact hh)
      rw [itO_sitO hh b2 b1] at e3
      have F4 : ∀ b, b < 144 ∨ 150 < b → m3 b = m b := fun b hb => by rw [F3 b (by omega)]; exact F2 b hb
      have hle := sitO_le (π := id) (σ := itP id ρ i) h
      rw [eX6_firstLook_2]
      by_cases hl : sitO id (itP id ρ i) h = 2
      · rw [hl] at e3
        simp (maxSteps := 1000000) (decide := true) (disch := (first | assumption | omega | exact Nat.div_mul_le_self _ _ | exact ni_nz (by omega) (by omega) | exact rfl | exact retOk_bI _ | exact retOk_0 | exact retOk_1)) only [eX6_firstLook_0, eX6_firstLook_1, eX6_firstLook_3, eX6_firstLook_4, eX6_firstLook_7, eX6_firstLook_8, eX6_firstLook_11, eX6_firstLook_12, eX6_firstLook_15, eX6_firstLook_16, eX6_firstLook_19, eX6_firstLook_20, eX6_firstLook_21, eX6_firstLook_24, eX6_firstLook_27, eX6_firstLook_28, g7, e3, hlt', WpR_some, Option.toList_some, Option.toList_none, List.cons_append, List.nil_append, List.append_nil, clr_n, clr_i, clr_a, ni_add, ni_mul, ni_sub, ni_lt, ni_le, ni_eq, ni_div, nat_mod_eq, ni_rem, iMax_nn, iMin_nn, iMax_sub, Nat.zero_max, bI_0, bI_1, bI_n0, up2_s, up2_n, up2_k, va_up_self, va_up_ne, ni_l, lN_mul, lN_add, ln_mask, lN_i, ↓reduceIte, if_true, if_false, not_true_eq_false, not_false_eq_true, ite_self, Nat.add_zero, Nat.zero_add, ent_def]
        rw [← hQ]
        have hf : fl ρ h n = i := fst1_at (fun j hj => decide_eq_false (N2 j hj)) (decide_eq_true hl) n hi
        exact ⟨m3, by rw [hf, if_neg (by omega)], rfl, F4⟩
      · simp (maxSteps := 1000000) (decide := true) (disch := (first | assumption | omega | exact Nat.div_mul_le_self _ _ | exact ni_nz (by omega) (by omega) | exact rfl | exact retOk_bI _ | exact retOk_0 | exact retOk_1)) only [eX6_firstLook_0, eX6_firstLook_1, eX6_firstLook_3, eX6_firstLook_4, eX6_firstLook_7, eX6_firstLook_8, eX6_firstLook_11, eX6_firstLook_12, eX6_firstLook_15, eX6_firstLook_16, eX6_firstLook_19, eX6_firstLook_20, eX6_firstLook_21, eX6_firstLook_24, eX6_firstLook_27, eX6_firstLook_28, g7, e3, hlt', hl, WpR_some, Option.toList_some, Option.toList_none, List.cons_append, List.nil_append, List.append_nil, clr_n, clr_i, clr_a, ni_add, ni_mul, ni_sub, ni_lt, ni_le, ni_eq, ni_div, nat_mod_eq, ni_rem, iMax_nn, iMin_nn, iMax_sub, Nat.zero_max, bI_0, bI_1, bI_n0, up2_s, up2_n, up2_k, va_up_self, va_up_ne, ni_l, lN_mul, lN_add, ln_mask, lN_i, ↓reduceIte, if_true, if_false, not_true_eq_false, not_false_eq_true, ite_self, Nat.add_zero, Nat.zero_add, ent_def]
        refine kk () _ ⟨m3, rfl, V3, F4, ?_⟩
        intro j hj
        by_cases hq : j = i
        · rw [hq]; exact hl
        · exact N2 j (by omega)
    · rintro - μ ⟨m2, rfl, V2, F2, N2⟩
      have hlt' : n < n + 1 := by omega
      rw [eX6_firstLook_2]
      simp (maxSteps := 1000000) (decide := true) (disch := (first | assumption | omega | exact Nat.div_mul_le_self _ _ | exact ni_nz (by omega) (by omega) | exact rfl | exact retOk_bI _ | exact retOk_0 | exact retOk_1)) only [eX6_firstLook_0, eX6_firstLook_1, eX6_firstLook_3, eX6_firstLook_4, eX6_firstLook_7, eX6_firstLook_8, eX6_firstLook_11, eX6_firstLook_12, eX6_firstLook_15, eX6_firstLook_16, eX6_firstLook_19, eX6_firstLook_20, eX6_firstLook_21, eX6_firstLook_24, eX6_firstLook_27, eX6_firstLook_28, hlt', WpR_some, Option.toList_some, Option.toList_none, List.cons_append, List.nil_append, List.append_nil, clr_n, clr_i, clr_a, ni_add, ni_mul, ni_sub, ni_lt, ni_le, ni_eq, ni_div, nat_mod_eq, ni_rem, iMax_nn, iMin_nn, iMax_sub, Nat.zero_max, bI_0, bI_1, bI_n0, up2_s, up2_n, up2_k, va_up_self, va_up_ne, ni_l, lN_mul, lN_add, ln_mask, lN_i, ↓reduceIte, if_true, if_false, not_true_eq_false, not_false_eq_true, ite_self, Nat.add_zero, Nat.zero_add, ent_def]
      rw [← hQ]
      have hf : fl ρ h n = n := fst1_no n (fun j hj => decide_eq_false (N2 j hj))
      exact ⟨m2, by rw [hf, if_pos rfl], rfl, F2⟩
  obtain ⟨r, μ', e1, m', rfl, rfl, h2⟩ := res_ex key
  exact ⟨m', e1, h2⟩
theorem c_first_bad (hG : GW G) (hC : CA m σ k f) (h : isN u (σ 45) = false) : res mX6_first [.ref 2, .int u] (G, m, ml) = some (some (.int (-1)), (G, m, ml)) := by
  have e := r_X6_isHearer (ml := ml) (v := u) hG hC.1
  rw [h] at e
  obtain ⟨⟨g0, g1, -⟩, -⟩ := hG
  apply res_of
  show Wp mX6_first 0 [some (.ref 2), some (.int u), none] [] (G, m, ml) _
  simp (maxSteps := 1000000) (decide := true) (disch := (first | assumption | omega | exact Nat.div_mul_le_self _ _ | exact ni_nz (by omega) (by omega) | exact rfl | exact retOk_bI _ | exact retOk_0 | exact retOk_1)) only [eX6_first_0, eX6_first_1, eX6_first_2, eX6_first_5, eX6_first_8, eX6_first_9, eX6_first_10, eX6_first_11, eX6_first_14, eX6_first_15, eX6_first_18, eX6_first_21, eX6_first_22, eX6_first_23, eX6_first_25, eX6_first_28, eX6_first_29, eX6_first_30, eX6_first_33, eX6_first_35, eX6_first_38, eX6_first_39, e, WpR_some, Option.toList_some, Option.toList_none, List.cons_append, List.nil_append, List.append_nil, clr_n, clr_i, clr_a, ni_add, ni_mul, ni_sub, ni_lt, ni_le, ni_eq, ni_div, nat_mod_eq, ni_rem, iMax_nn, iMin_nn, iMax_sub, Nat.zero_max, bI_0, bI_1, bI_n0, up2_s, up2_n, up2_k, va_up_self, va_up_ne, ni_l, lN_mul, lN_add, ln_mask, lN_i, ↓reduceIte, if_true, if_false, not_true_eq_false, not_false_eq_true, ite_self, Nat.add_zero, Nat.zero_add, ent_def]
theorem c_first (hG : GW G) (hC : CA m σ k f) (hO : Ok σ) (hh : h < σ 45) : ∃ m', res mX6_first [.ref 2, .int (nI h)] (G, m, ml) = some (some (.int (if fl σ h 60 = 60 then -4 else nI (fl σ h 60 + 1))), (G, m', ml)) ∧ FT m m' := by
  have b2 := hO.1.2.1
  have e := r_X6_isHearer (ml := ml) (v := nI h) hG hC.1
  rw [isN_t hh (by omega)] at e
  have hG0 := hG
  obtain ⟨⟨g0, g1, g2, g3, g4, g5, g6, g7, -⟩, ⟨s3, p10, s68, p75, s144⟩, -⟩ := hG
  have s1 := s144.1
  obtain ⟨m1, e1, V1, F1⟩ := r_X3_become (m := m) (ml := ml) s144 s3 (by omega)
  obtain ⟨m2, e2, F2⟩ := r_X6_firstLook (ml := ml) (n := 60) hG0 (V1 σ hC.1) (Bk_mono (Ok_Bk hO) (by omega) (by omega)) hh (by omega)
  have hfl : fl σ h 60 ≤ 60 := fst1_le 60
  refine ⟨m2, ?_, fun b hb => by rw [F2 b (by omega), F1 b (by omega)]⟩
  apply res_of
  show Wp mX6_first 0 [some (.ref 2), some (.int (nI h)), none] [] (G, m, ml) _
  by_cases hc : fl σ h 60 = 60
  · rw [if_pos hc] at e2 ⊢
    simp (maxSteps := 1000000) (decide := true) (disch := (first | assumption | omega | exact Nat.div_mul_le_self _ _ | exact ni_nz (by omega) (by omega) | exact rfl | exact retOk_bI _ | exact retOk_0 | exact retOk_1)) only [eX6_first_0, eX6_first_1, eX6_first_2, eX6_first_5, eX6_first_8, eX6_first_9, eX6_first_10, eX6_first_11, eX6_first_14, eX6_first_15, eX6_first_18, eX6_first_21, eX6_first_22, eX6_first_23, eX6_first_25, eX6_first_28, eX6_first_29, eX6_first_30, eX6_first_33, eX6_first_35, eX6_first_38, eX6_first_39, e, g1, g7, e1, e2, WpR_some, Option.toList_some, Option.toList_none, List.cons_append, List.nil_append, List.append_nil, clr_n, clr_i, clr_a, ni_add, ni_mul, ni_sub, ni_lt, ni_le, ni_eq, ni_div, nat_mod_eq, ni_rem, iMax_nn, iMin_nn, iMax_sub, Nat.zero_max, bI_0, bI_1, bI_n0, up2_s, up2_n, up2_k, va_up_self, va_up_ne, ni_l, lN_mul, lN_add, ln_mask, lN_i, ↓reduceIte, if_true, if_false, not_true_eq_false, not_false_eq_true, ite_self, Nat.add_zero, Nat.zero_add, ent_def]
  · rw [if_neg hc] at e2 ⊢
    have hne : ¬ fl σ h 60 + 1 = 0 := by omega
    simp (maxSteps := 1000000) (decide := true) (disch := (first | assumption | omega | exact Nat.div_mul_le_self _ _ | exact ni_nz (by omega) (by omega) | exact rfl | exact retOk_bI _ | exact retOk_0 | exact retOk_1)) only [eX6_first_0, eX6_first_1, eX6_first_2, eX6_first_5, eX6_first_8, eX6_first_9, eX6_first_10, eX6_first_11, eX6_first_14, eX6_first_15, eX6_first_18, eX6_first_21, eX6_first_22, eX6_first_23, eX6_first_25, eX6_first_28, eX6_first_29, eX6_first_30, eX6_first_33, eX6_first_35, eX6_first_38, eX6_first_39, e, g1, g7, e1, e2, hne, WpR_some, Option.toList_some, Option.toList_none, List.cons_append, List.nil_append, List.append_nil, clr_n, clr_i, clr_a, ni_add, ni_mul, ni_sub, ni_lt, ni_le, ni_eq, ni_div, nat_mod_eq, ni_rem, iMax_nn, iMin_nn, iMax_sub, Nat.zero_max, bI_0, bI_1, bI_n0, up2_s, up2_n, up2_k, va_up_self, va_up_ne, ni_l, lN_mul, lN_add, ln_mask, lN_i, ↓reduceIte, if_true, if_false, not_true_eq_false, not_false_eq_true, ite_self, Nat.add_zero, Nat.zero_add, ent_def]
theorem c_all (hG : GW G) (hC : CA m σ k f) (hO : Ok σ) : ∃ m', res mX6_all [.ref 2] (G, m, ml) = some (some (.int (if alS σ = 61 then -4 else nI (alS σ))), (G, m', ml)) ∧ FT m m' := by
  have hπ5 : ∀ j, j < 5 → (id j : Nat) < 5 := fun j hj => hj
  obtain ⟨⟨g0, g1, g2, g3, g4, g5, g6, g7, g8, -⟩, ⟨s3, p10, s68, p75, s144⟩, -, -, ⟨t1, t2⟩, -⟩ := hG
  have s1 := s144.1
  obtain ⟨m1, e1, V1, F1⟩ := r_X3_become (m := m) (ml := ml) s144 s3 (by omega)
  have ec := r_X4_clear (m := m1) (ml := ml) t1
  have key : Wp mX6_all 0 (ent [.ref 2] 2) [] (G, m, ml) (fun r μ' => ∃ m', r = some (.int (if alS σ = 61 then -4 else nI (alS σ))) ∧ μ' = (G, m', ml) ∧ FT m m') := by
    show Wp mX6_all 0 [some (.ref 2), none] [] (G, m, ml) _
    generalize hQ : (fun (r : Option Value) (μ' : Mm) => ∃ m', r = some (.int (if alS σ = 61 then -4 else nI (alS σ))) ∧ μ' = (G, m', ml) ∧ FT m m') = Q
    simp (maxSteps := 1000000) (decide := true) (disch := (first | assumption | omega | exact Nat.div_mul_le_self _ _ | exact ni_nz (by omega) (by omega) | exact rfl | exact retOk_bI _ | exact retOk_0 | exact retOk_1)) only [eX6_all_0, eX6_all_1, eX6_all_4, eX6_all_5, eX6_all_8, eX6_all_11, eX6_all_12, eX6_all_15, eX6_all_18, eX6_all_19, eX6_all_21, eX6_all_23, eX6_all_26, eX6_all_27, eX6_all_30, eX6_all_33, eX6_all_36, eX6_all_37, eX6_all_38, eX6_all_39, eX6_all_42, eX6_all_44, eX6_all_45, eX6_all_48, eX6_all_51, eX6_all_54, eX6_all_57, eX6_all_59, g1, g7, g8, e1, ec, WpR_some, Option.toList_some, Option.toList_none, List.cons_append, List.nil_append, List.append_nil, clr_n, clr_i, clr_a, ni_add, ni_mul, ni_sub, ni_lt, ni_le, ni_eq, ni_div, nat_mod_eq, ni_rem, iMax_nn, iMin_nn, iMax_sub, Nat.zero_max, bI_0, bI_1, bI_n0, up2_s, up2_n, up2_k, va_up_self, va_up_ne, ni_l, lN_mul, lN_add, ln_mask, lN_i, ↓reduceIte, if_true, if_false, not_true_eq_false, not_false_eq_true, ite_self, Nat.add_zero, Nat.zero_add, ent_def]
    refine wp_for (X := Unit) (fun i _ => [some (.ref 2), some (.int (nI i))]) (fun i _ μ => ∃ m2, μ = (G, m2, ml) ∧ ShV m2 144 (itP id σ i) ∧ (∃ x y, TlV m2 151 x y) ∧ FT m m2 ∧ (∀ j, j < i → ¬ ∀ h, h < itP id σ j 45 → hbI (itP id σ j) h (itP id σ j 44) = allT (itP id σ j))) 61 ?_ ?_ 0 () _ (Nat.zero_le _) ⟨_, rfl, ShV_fr (V1 σ hC.1) (fun b h1 h2 => by rw [up2_n (by omega), up2_n (by omega)]), ⟨_, _, TlV_clear⟩, fun b hb => by rw [up2_n (by omega), up2_n (by omega), F1 b (by omega)], fun j hj => absurd hj (Nat.not_lt_zero _)⟩
    · rintro i - μ hi ⟨m2, rfl, V2, ⟨tx, ty, T2⟩, F2, N2⟩ kk
      have hlt : ¬ 60 < i := by omega
      have hBk : Bk 1 5 (itP id σ i) := Bk_itP (Bk_mono (Ok_Bk hO) (by omega) (by omega)) hπ5
      have e2 := r_X3_allHeardAll (ml := ml) s144 V2 hBk.1
      obtain ⟨m3, e3, V3, T3, F3⟩ := r_X3_passEvening (ml := ml) (x := 9) (ab := -4) s144 t1 (by omega) V2 T2 (ke := 0) (kl := 0) hBk hab9
      rw [eX6_all_20]
      by_cases hd : ∀ h, h < itP id σ i 45 → hbI (itP id σ i) h (itP id σ i 44) = allT (itP id σ i)
      · rw [decide_eq_true hd] at e2
        simp (maxSteps := 1000000) (decide := true) (disch := (first | assumption | omega | exact Nat.div_mul_le_self _ _ | exact ni_nz (by omega) (by omega) | exact rfl | exact retOk_bI _ | exact retOk_0 | exact retOk_1)) only [eX6_all_0, eX6_all_1, eX6_all_4, eX6_all_5, eX6_all_8, eX6_all_11, eX6_all_12, eX6_all_15, eX6_all_18, eX6_all_19, eX6_all_21, eX6_all_23, eX6_all_26, eX6_all_27, eX6_all_30, eX6_all_33, eX6_all_36, eX6_all_37, eX6_all_38, eX6_all_39, eX6_all_42, eX6_all_44, eX6_all_45, eX6_all_48, eX6_all_51, eX6_all_54, eX6_all_57, eX6_all_59, g7, e2, hlt, WpR_some, Option.toList_some, Option.toList_none, List.cons_append, List.nil_append, List.append_nil, clr_n, clr_i, clr_a, ni_add, ni_mul, ni_sub, ni_lt, ni_le, ni_eq, ni_div, nat_mod_eq, ni_rem, iMax_nn, iMin_nn, iMax_sub, Nat.zero_max, bI_0, bI_1, bI_n0, up2_s, up2_n, up2_k, va_up_self, va_up_ne, ni_l, lN_mul, lN_add, ln_mask, lN_i, ↓reduceIte, if_true, if_false, not_true_eq_false, not_false_eq_true, ite_self, Nat.add_zero, Nat.zero_add, ent_def]
        rw [← hQ]
        have hf : alS σ = i := fst1_at (fun j hj => decide_eq_false (N2 j hj)) (decide_eq_true hd) 61 hi
        exact ⟨m2, by rw [hf, if_neg (by omega)], rfl, F2⟩
      · rw [decide_eq_false hd] at e2
        simp (maxSteps := 1000000) (decide := true) (disch := (first | assumption | omega | exact Nat.div_mul_le_self _ _ | exact ni_nz (by omega) (by omega) | exact rfl | exact retOk_bI _ | exact retOk_0 | exact retOk_1)) only [eX6_all_0, eX6_all_1, eX6_all_4, eX6_all_5, eX6_all_8, eX6_all_11, eX6_all_12, eX6_all_15, eX6_all_18, eX6_all_19, eX6_all_21, eX6_all_23, eX6_all_26, eX6_all_27, eX6_all_30, eX6_all_33, eX6_all_36, eX6_all_37, eX6_all_38, eX6_all_39, eX6_all_42, eX6_all_44, eX6_all_45, eX6_all_48, eX6_all_51, eX6_all_54, eX6_all_57, eX6_all_59, g7, g8, e2, e3, hlt, WpR_some, Option.toList_some, Option.toList_none, List.cons_append, List.nil_append, List.append_nil, clr_n, clr_i, clr_a, ni_add, ni_mul, ni_sub, ni_lt, ni_le, ni_eq, ni_div, nat_mod_eq, ni_rem, iMax_nn, iMin_nn, iMax_sub, Nat.zero_max, bI_0, bI_1, bI_n0, up2_s, up2_n, up2_k, va_up_self, va_up_ne, ni_l, lN_mul, lN_add, ln_mask, lN_i, ↓reduceIte, if_true, if_false, not_true_eq_false, not_false_eq_true, ite_self, Nat.add_zero, Nat.zero_add, ent_def]
        refine kk () _ ⟨m3, rfl, V3, ⟨_, _, T3⟩, fun b hb => by rw [F3 b (by omega) (by omega)]; exact F2 b hb, ?_⟩
        intro j hj
        by_cases hq : j = i
        · rw [hq]; exact hd
        · exact N2 j (by omega)
    · rintro - μ ⟨m2, rfl, V2, T2, F2, N2⟩
      rw [eX6_all_20]
      simp (maxSteps := 1000000) (decide := true) (disch := (first | assumption | omega | exact Nat.div_mul_le_self _ _ | exact ni_nz (by omega) (by omega) | exact rfl | exact retOk_bI _ | exact retOk_0 | exact retOk_1)) only [eX6_all_0, eX6_all_1, eX6_all_4, eX6_all_5, eX6_all_8, eX6_all_11, eX6_all_12, eX6_all_15, eX6_all_18, eX6_all_19, eX6_all_21, eX6_all_23, eX6_all_26, eX6_all_27, eX6_all_30, eX6_all_33, eX6_all_36, eX6_all_37, eX6_all_38, eX6_all_39, eX6_all_42, eX6_all_44, eX6_all_45, eX6_all_48, eX6_all_51, eX6_all_54, eX6_all_57, eX6_all_59, WpR_some, Option.toList_some, Option.toList_none, List.cons_append, List.nil_append, List.append_nil, clr_n, clr_i, clr_a, ni_add, ni_mul, ni_sub, ni_lt, ni_le, ni_eq, ni_div, nat_mod_eq, ni_rem, iMax_nn, iMin_nn, iMax_sub, Nat.zero_max, bI_0, bI_1, bI_n0, up2_s, up2_n, up2_k, va_up_self, va_up_ne, ni_l, lN_mul, lN_add, ln_mask, lN_i, ↓reduceIte, if_true, if_false, not_true_eq_false, not_false_eq_true, ite_self, Nat.add_zero, Nat.zero_add, ent_def]
      rw [← hQ]
      have hf : alS σ = 61 := fst1_no 61 (fun j hj => decide_eq_false (N2 j hj))
      exact ⟨m2, by rw [hf, if_pos rfl], rfl, F2⟩
  obtain ⟨r, μ', e1, m', rfl, rfl, h2⟩ := res_ex key
  exact ⟨m', e1, h2⟩
theorem r_X6_tryEvenings (hG : GW G) (hV : ShV m 144 ρ) (hB : Bk n (5 * n) ρ) (hn : n ≤ 60) : ∃ m', res mX6_tryEvenings [.ref 2, .int (nI n)] (G, m, ml) = some (none, (G, m', ml)) ∧ TlV m' 151 (hP id ρ n) (lP id ρ n) ∧ (∀ b, b < 144 ∨ 151 < b → m' b = m b) := by
  have hπ5 : ∀ j, j < 5 → (id j : Nat) < 5 := fun j hj => hj
  obtain ⟨⟨g0, g1, g2, g3, g4, g5, g6, g7, g8, -⟩, ⟨s3, p10, s68, p75, s144⟩, -, -, ⟨t1, t2⟩, -⟩ := hG
  have s1 := s144.1
  have ec := r_X4_clear (m := m) (ml := ml) t1
  have key : Wp mX6_tryEvenings 0 (ent [.ref 2, .int (nI n)] 3) [] (G, m, ml) (fun r μ' => ∃ m', r = none ∧ μ' = (G, m', ml) ∧ TlV m' 151 (hP id ρ n) (lP id ρ n) ∧ (∀ b, b < 144 ∨ 151 < b → m' b = m b)) := by
    show Wp mX6_tryEvenings 0 [some (.ref 2), some (.int (nI n)), none] [] (G, m, ml) _
    generalize hQ : (fun (r : Option Value) (μ' : Mm) => ∃ m', r = none ∧ μ' = (G, m', ml) ∧ TlV m' 151 (hP id ρ n) (lP id ρ n) ∧ (∀ b, b < 144 ∨ 151 < b → m' b = m b)) = Q
    simp (maxSteps := 1000000) (decide := true) (disch := (first | assumption | omega | exact Nat.div_mul_le_self _ _ | exact ni_nz (by omega) (by omega) | exact rfl | exact retOk_bI _ | exact retOk_0 | exact retOk_1)) only [eX6_tryEvenings_0, eX6_tryEvenings_1, eX6_tryEvenings_4, eX6_tryEvenings_7, eX6_tryEvenings_8, eX6_tryEvenings_10, eX6_tryEvenings_11, eX6_tryEvenings_14, eX6_tryEvenings_15, eX6_tryEvenings_18, eX6_tryEvenings_20, eX6_tryEvenings_21, eX6_tryEvenings_24, eX6_tryEvenings_27, eX6_tryEvenings_30, eX6_tryEvenings_33, g8, ec, WpR_some, Option.toList_some, Option.toList_none, List.cons_append, List.nil_append, List.append_nil, clr_n, clr_i, clr_a, ni_add, ni_mul, ni_sub, ni_lt, ni_le, ni_eq, ni_div, nat_mod_eq, ni_rem, iMax_nn, iMin_nn, iMax_sub, Nat.zero_max, bI_0, bI_1, bI_n0, up2_s, up2_n, up2_k, va_up_self, va_up_ne, ni_l, lN_mul, lN_add, ln_mask, lN_i, ↓reduceIte, if_true, if_false, not_true_eq_false, not_false_eq_true, ite_self, Nat.add_zero, Nat.zero_add, ent_def]
    refine wp_for (X := Unit) (fun i _ => [some (.ref 2), some (.int (nI n)), some (.int (nI i))]) (fun i _ μ => ∃ m2, μ = (G, m2, ml) ∧ ShV m2 144 (itP id ρ i) ∧ TlV m2 151 (hP id ρ i) (lP id ρ i) ∧ (∀ b, b < 144 ∨ 151 < b → m2 b = m b)) n ?_ ?_ 0 () _ (Nat.zero_le _) ⟨_, rfl, ShV_fr hV (fun b h1 h2 => by rw [up2_n (by omega), up2_n (by omega)]), TlV_clear, fun b hb => by rw [up2_n (by omega), up2_n (by omega)]⟩
    · rintro i - μ hi ⟨m2, rfl, V2, T2, F2⟩ kk
      have hlt : ¬ n ≤ i := by omega
      have hBk : Bk 1 5 (itP id ρ i) := Bk_itP (Bk_mono hB (by omega) (by omega)) hπ5
      obtain ⟨m3, e3, V3, T3, F3⟩ := r_X3_passEvening (ml := ml) (x := 9) (ab := -4) s144 t1 (by omega) V2 T2 (ke := 0) (kl := 0) hBk hab9
      rw [eX6_tryEvenings_9]
      simp (maxSteps := 1000000) (decide := true) (disch := (first | assumption | omega | exact Nat.div_mul_le_self _ _ | exact ni_nz (by omega) (by omega) | exact rfl | exact retOk_bI _ | exact retOk_0 | exact retOk_1)) only [eX6_tryEvenings_0, eX6_tryEvenings_1, eX6_tryEvenings_4, eX6_tryEvenings_7, eX6_tryEvenings_8, eX6_tryEvenings_10, eX6_tryEvenings_11, eX6_tryEvenings_14, eX6_tryEvenings_15, eX6_tryEvenings_18, eX6_tryEvenings_20, eX6_tryEvenings_21, eX6_tryEvenings_24, eX6_tryEvenings_27, eX6_tryEvenings_30, eX6_tryEvenings_33, g7, g8, e3, hlt, WpR_some, Option.toList_some, Option.toList_none, List.cons_append, List.nil_append, List.append_nil, clr_n, clr_i, clr_a, ni_add, ni_mul, ni_sub, ni_lt, ni_le, ni_eq, ni_div, nat_mod_eq, ni_rem, iMax_nn, iMin_nn, iMax_sub, Nat.zero_max, bI_0, bI_1, bI_n0, up2_s, up2_n, up2_k, va_up_self, va_up_ne, ni_l, lN_mul, lN_add, ln_mask, lN_i, ↓reduceIte, if_true, if_false, not_true_eq_false, not_false_eq_true, ite_self, Nat.add_zero, Nat.zero_add, ent_def]
      exact kk () _ ⟨m3, rfl, V3, T3, fun b hb => by rw [F3 b (by omega) (by omega)]; exact F2 b hb⟩
    · rintro - μ ⟨m2, rfl, V2, T2, F2⟩
      rw [eX6_tryEvenings_9]
      simp (maxSteps := 1000000) (decide := true) (disch := (first | assumption | omega | exact Nat.div_mul_le_self _ _ | exact ni_nz (by omega) (by omega) | exact rfl | exact retOk_bI _ | exact retOk_0 | exact retOk_1)) only [eX6_tryEvenings_0, eX6_tryEvenings_1, eX6_tryEvenings_4, eX6_tryEvenings_7, eX6_tryEvenings_8, eX6_tryEvenings_10, eX6_tryEvenings_11, eX6_tryEvenings_14, eX6_tryEvenings_15, eX6_tryEvenings_18, eX6_tryEvenings_20, eX6_tryEvenings_21, eX6_tryEvenings_24, eX6_tryEvenings_27, eX6_tryEvenings_30, eX6_tryEvenings_33, Nat.le_refl, WpR_some, Option.toList_some, Option.toList_none, List.cons_append, List.nil_append, List.append_nil, clr_n, clr_i, clr_a, ni_add, ni_mul, ni_sub, ni_lt, ni_le, ni_eq, ni_div, nat_mod_eq, ni_rem, iMax_nn, iMin_nn, iMax_sub, Nat.zero_max, bI_0, bI_1, bI_n0, up2_s, up2_n, up2_k, va_up_self, va_up_ne, ni_l, lN_mul, lN_add, ln_mask, lN_i, ↓reduceIte, if_true, if_false, not_true_eq_false, not_false_eq_true, ite_self, Nat.add_zero, Nat.zero_add, ent_def]
      rw [← hQ]
      exact ⟨m2, rfl, rfl, T2, F2⟩
  obtain ⟨r, μ', e1, m', rfl, rfl, h2⟩ := res_ex key
  exact ⟨m', e1, h2⟩
theorem TlV_become {c : Nat} (hT : TlV m c x y) (hbc : o ≠ c) : TlV (up2 (up2 m o 0 (m c 0)) o 1 (up2 m o 0 (m c 0) c 1)) o x y := ⟨by rw [up2_k (by decide), up2_s]; exact hT.1, by rw [up2_s, up2_n (fun q => hbc q.symm)]; exact hT.2⟩
theorem r_X6_findPace (hG : GW G) (hC : CA m σ k f) (hO : Ok σ) (h1 : 1 ≤ n) (h2 : n ≤ 40) : ∃ m', res mX6_findPace [.ref 2, .int (nI n)] (G, m, ml) = some (some (.int (nI (bst (pcH σ n) (pcL σ n) 5))), (G, m', ml)) ∧ TlV m' 152 (pcH σ n (bst (pcH σ n) (pcL σ n) 5)) (pcL σ n (bst (pcH σ n) (pcL σ n) 5)) ∧ FT m m' := by
  have hG0 := hG
  obtain ⟨⟨g0, g1, g2, g3, g4, g5, g6, g7, g8, g9, -⟩, ⟨s3, p10, s68, p75, s144⟩, -, -, ⟨t1, t2⟩, -⟩ := hG
  have s1 := s144.1
  have key : Wp mX6_findPace 0 (ent [.ref 2, .int (nI n)] 4) [] (G, m, ml) (fun r μ' => ∃ m', r = some (.int (nI (bst (pcH σ n) (pcL σ n) 5))) ∧ μ' = (G, m', ml) ∧ TlV m' 152 (pcH σ n (bst (pcH σ n) (pcL σ n) 5)) (pcL σ n (bst (pcH σ n) (pcL σ n) 5)) ∧ FT m m') := by
    show Wp mX6_findPace 0 [some (.ref 2), some (.int (nI n)), none, none] [] (G, m, ml) _
    generalize hQ : (fun (r : Option Value) (μ' : Mm) => ∃ m', r = some (.int (nI (bst (pcH σ n) (pcL σ n) 5))) ∧ μ' = (G, m', ml) ∧ TlV m' 152 (pcH σ n (bst (pcH σ n) (pcL σ n) 5)) (pcL σ n (bst (pcH σ n) (pcL σ n) 5)) ∧ FT m m') = Q
    simp (maxSteps := 1000000) (decide := true) (disch := (first | assumption | omega | exact Nat.div_mul_le_self _ _ | exact ni_nz (by omega) (by omega) | exact rfl | exact retOk_bI _ | exact retOk_0 | exact retOk_1)) only [eX6_findPace_0, eX6_findPace_1, eX6_findPace_2, eX6_findPace_3, eX6_findPace_5, eX6_findPace_6, eX6_findPace_9, eX6_findPace_10, eX6_findPace_13, eX6_findPace_14, eX6_findPace_17, eX6_findPace_20, eX6_findPace_21, eX6_findPace_24, eX6_findPace_25, eX6_findPace_28, eX6_findPace_29, eX6_findPace_30, eX6_findPace_33, eX6_findPace_34, eX6_findPace_37, eX6_findPace_38, eX6_findPace_41, eX6_findPace_42, eX6_findPace_45, eX6_findPace_48, eX6_findPace_51, eX6_findPace_52, eX6_findPace_55, eX6_findPace_56, eX6_findPace_59, eX6_findPace_62, eX6_findPace_63, eX6_findPace_64, eX6_findPace_67, eX6_findPace_70, eX6_findPace_71, WpR_some, Option.toList_some, Option.toList_none, List.cons_append, List.nil_append, List.append_nil, clr_n, clr_i, clr_a, ni_add, ni_mul, ni_sub, ni_lt, ni_le, ni_eq, ni_div, nat_mod_eq, ni_rem, iMax_nn, iMin_nn, iMax_sub, Nat.zero_max, bI_0, bI_1, bI_n0, up2_s, up2_n, up2_k, va_up_self, va_up_ne, ni_l, lN_mul, lN_add, ln_mask, lN_i, ↓reduceIte, if_true, if_false, not_true_eq_false, not_false_eq_true, ite_self, Nat.add_zero, Nat.zero_add, ent_def]
    refine wp_for (X := Unit) (fun i _ => [some (.ref 2), some (.int (nI n)), some (.int (nI (bst (pcH σ n) (pcL σ n) i))), some (.int (nI i))]) (fun i _ μ => ∃ m2, μ = (G, m2, ml) ∧ (0 < i → TlV m2 152 (pcH σ n (bst (pcH σ n) (pcL σ n) i)) (pcL σ n (bst (pcH σ n) (pcL σ n) i))) ∧ FT m m2) 5 ?_ ?_ 0 () _ (Nat.zero_le _) ⟨m, rfl, fun h => absurd h (Nat.lt_irrefl _), fun _ _ => rfl⟩
    · rintro i - μ hi ⟨m2, rfl, T2, F2⟩ kk
      have hlt : ¬ 4 < i := by omega
      have V2 : ShV m2 3 σ := ShV_fr hC.1 (fun b h1 h2 => F2 b (by omega))
      obtain ⟨m3, e3, V3, F3⟩ := r_X3_become (m := m2) (ml := ml) s144 s3 (by omega)
      have V4 : ShV (up2 m3 144 4 (nI i)) 144 (upN σ 41 i) := ShV_up (i := 41) (v := i) (V3 σ V2) (by decide) (by decide) (by decide) (by decide) (by decide)
      obtain ⟨m5, e5, T5, F5⟩ := r_X6_tryEvenings (ml := ml) hG0 V4 (Bk_st (Ok_B5 hO (show n ≤ 60 by omega)) (by omega)) (by omega)
      have T5' : TlV m5 151 (pcH σ n i) (pcL σ n i) := T5
      have eb := r_X4_become (m := m5) (ml := ml) (b := 152) (c := 151) t2 t1
      have F6 : FT m m5 := fun b hb => by rw [F5 b (by omega), up2_n (by omega), F3 b (by omega)]; exact F2 b hb
      have l1 := pc_le (n := n) (i := i) hO.1
      have fin : ∀ z, z = bst (pcH σ n) (pcL σ n) (i + 1) → ∀ m6 : Nat → Nat → Int32, TlV m6 152 (pcH σ n z) (pcL σ n z) → FT m m6 → Wp mX6_findPace 4 ([some (.ref 2), some (.int (nI n)), some (.int (nI z)), some (.int (nI (i + 1)))]) [] (G, m6, ml) Q := by
        rintro z rfl m6 T6 F6
        exact kk () _ ⟨m6, rfl, fun _ => T6, F6⟩
      have F7 : FT m (up2 (up2 m5 152 0 (m5 151 0)) 152 1 (up2 m5 152 0 (m5 151 0) 151 1)) := fun b hb => by rw [up2_n (by omega), up2_n (by omega)]; exact F6 b hb
      have f1 : ∀ hz : i = bst (pcH σ n) (pcL σ n) (i + 1), _ := fun hz => fin i hz _ (TlV_become T5' (by decide)) F7
      rw [eX6_findPace_4]
      by_cases h0 : i = 0
      · subst h0
        have f1 := f1 rfl
        simp (maxSteps := 1000000) (decide := true) (disch := (first | assumption | omega | exact Nat.div_mul_le_self _ _ | exact ni_nz (by omega) (by omega) | exact rfl | exact retOk_bI _ | exact retOk_0 | exact retOk_1)) only [eX6_findPace_0, eX6_findPace_1, eX6_findPace_2, eX6_findPace_3, eX6_findPace_5, eX6_findPace_6, eX6_findPace_9, eX6_findPace_10, eX6_findPace_13, eX6_findPace_14, eX6_findPace_17, eX6_findPace_20, eX6_findPace_21, eX6_findPace_24, eX6_findPace_25, eX6_findPace_28, eX6_findPace_29, eX6_findPace_30, eX6_findPace_33, eX6_findPace_34, eX6_findPace_37, eX6_findPace_38, eX6_findPace_41, eX6_findPace_42, eX6_findPace_45, eX6_findPace_48, eX6_findPace_51, eX6_findPace_52, eX6_findPace_55, eX6_findPace_56, eX6_findPace_59, eX6_findPace_62, eX6_findPace_63, eX6_findPace_64, eX6_findPace_67, eX6_findPace_70, eX6_findPace_71, g1, g7, g8, g9, e3, e5, eb, WpR_some, Option.toList_some, Option.toList_none, List.cons_append, List.nil_append, List.append_nil, clr_n, clr_i, clr_a, ni_add, ni_mul, ni_sub, ni_lt, ni_le, ni_eq, ni_div, nat_mod_eq, ni_rem, iMax_nn, iMin_nn, iMax_sub, Nat.zero_max, bI_0, bI_1, bI_n0, up2_s, up2_n, up2_k, va_up_self, va_up_ne, ni_l, lN_mul, lN_add, ln_mask, lN_i, ↓reduceIte, if_true, if_false, not_true_eq_false, not_false_eq_true, ite_self, Nat.add_zero, Nat.zero_add, ent_def]
        simp only [up2_n (show (151 : Nat) ≠ 152 by decide)] at f1
        exact f1
      · have T2 := T2 (by omega)
        have T6 : TlV m5 152 (pcH σ n (bst (pcH σ n) (pcL σ n) i)) (pcL σ n (bst (pcH σ n) (pcL σ n) i)) := ⟨by rw [F5 152 (by omega), up2_n (by decide), F3 152 (by omega)]; exact T2.1, by rw [F5 152 (by omega), up2_n (by decide), F3 152 (by omega)]; exact T2.2⟩
        have l2 := pc_le (n := n) (i := bst (pcH σ n) (pcL σ n) i) hO.1
        have hb5 := bst_lt (H := pcH σ n) (L := pcL σ n) i (by omega)
        have ebt := r_X4_beats (m := m5) (ml := ml) t1 t2 T5' T6 (by omega) (by omega) (by omega) (by omega)
        by_cases c : pcH σ n (bst (pcH σ n) (pcL σ n) i) < pcH σ n i ∨ pcH σ n i = pcH σ n (bst (pcH σ n) (pcL σ n) i) ∧ pcL σ n i < pcL σ n (bst (pcH σ n) (pcL σ n) i)
        · have f1 := f1 (bst_t (Or.inr c))
          rw [decide_eq_true c] at ebt
          simp (maxSteps := 1000000) (decide := true) (disch := (first | assumption | omega | exact Nat.div_mul_le_self _ _ | exact ni_nz (by omega) (by omega) | exact rfl | exact retOk_bI _ | exact retOk_0 | exact retOk_1)) only [eX6_findPace_0, eX6_findPace_1, eX6_findPace_2, eX6_findPace_3, eX6_findPace_5, eX6_findPace_6, eX6_findPace_9, eX6_findPace_10, eX6_findPace_13, eX6_findPace_14, eX6_findPace_17, eX6_findPace_20, eX6_findPace_21, eX6_findPace_24, eX6_findPace_25, eX6_findPace_28, eX6_findPace_29, eX6_findPace_30, eX6_findPace_33, eX6_findPace_34, eX6_findPace_37, eX6_findPace_38, eX6_findPace_41, eX6_findPace_42, eX6_findPace_45, eX6_findPace_48, eX6_findPace_51, eX6_findPace_52, eX6_findPace_55, eX6_findPace_56, eX6_findPace_59, eX6_findPace_62, eX6_findPace_63, eX6_findPace_64, eX6_findPace_67, eX6_findPace_70, eX6_findPace_71, g1, g7, g8, g9, e3, e5, eb, ebt, hlt, h0, WpR_some, Option.toList_some, Option.toList_none, List.cons_append, List.nil_append, List.append_nil, clr_n, clr_i, clr_a, ni_add, ni_mul, ni_sub, ni_lt, ni_le, ni_eq, ni_div, nat_mod_eq, ni_rem, iMax_nn, iMin_nn, iMax_sub, Nat.zero_max, bI_0, bI_1, bI_n0, up2_s, up2_n, up2_k, va_up_self, va_up_ne, ni_l, lN_mul, lN_add, ln_mask, lN_i, ↓reduceIte, if_true, if_false, not_true_eq_false, not_false_eq_true, ite_self, Nat.add_zero, Nat.zero_add, ent_def]
          simp only [up2_n (show (151 : Nat) ≠ 152 by decide)] at f1
          exact f1
        · have f1 := fin (bst (pcH σ n) (pcL σ n) i) (bst_f (by omega)) m5 T6 F6
          rw [decide_eq_false c] at ebt
          simp (maxSteps := 1000000) (decide := true) (disch := (first | assumption | omega | exact Nat.div_mul_le_self _ _ | exact ni_nz (by omega) (by omega) | exact rfl | exact retOk_bI _ | exact retOk_0 | exact retOk_1)) only [eX6_findPace_0, eX6_findPace_1, eX6_findPace_2, eX6_findPace_3, eX6_findPace_5, eX6_findPace_6, eX6_findPace_9, eX6_findPace_10, eX6_findPace_13, eX6_findPace_14, eX6_findPace_17, eX6_findPace_20, eX6_findPace_21, eX6_findPace_24, eX6_findPace_25, eX6_findPace_28, eX6_findPace_29, eX6_findPace_30, eX6_findPace_33, eX6_findPace_34, eX6_findPace_37, eX6_findPace_38, eX6_findPace_41, eX6_findPace_42, eX6_findPace_45, eX6_findPace_48, eX6_findPace_51, eX6_findPace_52, eX6_findPace_55, eX6_findPace_56, eX6_findPace_59, eX6_findPace_62, eX6_findPace_63, eX6_findPace_64, eX6_findPace_67, eX6_findPace_70, eX6_findPace_71, g1, g7, g8, g9, e3, e5, eb, ebt, hlt, h0, WpR_some, Option.toList_some, Option.toList_none, List.cons_append, List.nil_append, List.append_nil, clr_n, clr_i, clr_a, ni_add, ni_mul, ni_sub, ni_lt, ni_le, ni_eq, ni_div, nat_mod_eq, ni_rem, iMax_nn, iMin_nn, iMax_sub, Nat.zero_max, bI_0, bI_1, bI_n0, up2_s, up2_n, up2_k, va_up_self, va_up_ne, ni_l, lN_mul, lN_add, ln_mask, lN_i, ↓reduceIte, if_true, if_false, not_true_eq_false, not_false_eq_true, ite_self, Nat.add_zero, Nat.zero_add, ent_def]
          exact f1
    · rintro - μ ⟨m2, rfl, T2, F2⟩
      rw [eX6_findPace_4]
      simp (maxSteps := 1000000) (decide := true) (disch := (first | assumption | omega | exact Nat.div_mul_le_self _ _ | exact ni_nz (by omega) (by omega) | exact rfl | exact retOk_bI _ | exact retOk_0 | exact retOk_1)) only [eX6_findPace_0, eX6_findPace_1, eX6_findPace_2, eX6_findPace_3, eX6_findPace_5, eX6_findPace_6, eX6_findPace_9, eX6_findPace_10, eX6_findPace_13, eX6_findPace_14, eX6_findPace_17, eX6_findPace_20, eX6_findPace_21, eX6_findPace_24, eX6_findPace_25, eX6_findPace_28, eX6_findPace_29, eX6_findPace_30, eX6_findPace_33, eX6_findPace_34, eX6_findPace_37, eX6_findPace_38, eX6_findPace_41, eX6_findPace_42, eX6_findPace_45, eX6_findPace_48, eX6_findPace_51, eX6_findPace_52, eX6_findPace_55, eX6_findPace_56, eX6_findPace_59, eX6_findPace_62, eX6_findPace_63, eX6_findPace_64, eX6_findPace_67, eX6_findPace_70, eX6_findPace_71, WpR_some, Option.toList_some, Option.toList_none, List.cons_append, List.nil_append, List.append_nil, clr_n, clr_i, clr_a, ni_add, ni_mul, ni_sub, ni_lt, ni_le, ni_eq, ni_div, nat_mod_eq, ni_rem, iMax_nn, iMin_nn, iMax_sub, Nat.zero_max, bI_0, bI_1, bI_n0, up2_s, up2_n, up2_k, va_up_self, va_up_ne, ni_l, lN_mul, lN_add, ln_mask, lN_i, ↓reduceIte, if_true, if_false, not_true_eq_false, not_false_eq_true, ite_self, Nat.add_zero, Nat.zero_add, ent_def]
      rw [← hQ]
      exact ⟨m2, rfl, rfl, T2 (by decide), F2⟩
  obtain ⟨r, μ', e1, m', rfl, rfl, h2⟩ := res_ex key
  exact ⟨m', e1, h2⟩
theorem c_pace_bad (h : (rg v 1 40 && rg w 0 2) = false) : res mX6_pace [.ref 2, .int v, .int w] (G, m, ml) = some (some (.int (-1)), (G, m, ml)) := by
  apply res_of
  show Wp mX6_pace 0 [some (.ref 2), some (.int v), some (.int w), none] [] (G, m, ml) _
  cases h1 : rg v 1 40
  · simp (maxSteps := 1000000) (decide := true) (disch := (first | assumption | omega | exact Nat.div_mul_le_self _ _ | exact ni_nz (by omega) (by omega) | exact rfl | exact retOk_bI _ | exact retOk_0 | exact retOk_1)) only [eX6_pace_0, eX6_pace_1, eX6_pace_2, eX6_pace_4, eX6_pace_7, eX6_pace_10, eX6_pace_11, eX6_pace_12, eX6_pace_13, eX6_pace_16, eX6_pace_19, eX6_pace_20, eX6_pace_21, eX6_pace_22, eX6_pace_23, eX6_pace_26, eX6_pace_27, eX6_pace_28, eX6_pace_56, eX6_pace_57, eX6_pace_58, eX6_pace_59, eX6_pace_62, eX6_pace_65, eX6_pace_66, eX6_pace_67, eX6_pace_70, eX6_pace_73, r_X6_wi, h1, WpR_some, Option.toList_some, Option.toList_none, List.cons_append, List.nil_append, List.append_nil, clr_n, clr_i, clr_a, ni_add, ni_mul, ni_sub, ni_lt, ni_le, ni_eq, ni_div, nat_mod_eq, ni_rem, iMax_nn, iMin_nn, iMax_sub, Nat.zero_max, bI_0, bI_1, bI_n0, up2_s, up2_n, up2_k, va_up_self, va_up_ne, ni_l, lN_mul, lN_add, ln_mask, lN_i, ↓reduceIte, if_true, if_false, not_true_eq_false, not_false_eq_true, ite_self, Nat.add_zero, Nat.zero_add, ent_def]
  · rw [h1, Bool.true_and] at h
    simp (maxSteps := 1000000) (decide := true) (disch := (first | assumption | omega | exact Nat.div_mul_le_self _ _ | exact ni_nz (by omega) (by omega) | exact rfl | exact retOk_bI _ | exact retOk_0 | exact retOk_1)) only [eX6_pace_0, eX6_pace_1, eX6_pace_2, eX6_pace_4, eX6_pace_7, eX6_pace_10, eX6_pace_11, eX6_pace_12, eX6_pace_13, eX6_pace_16, eX6_pace_19, eX6_pace_20, eX6_pace_21, eX6_pace_22, eX6_pace_23, eX6_pace_26, eX6_pace_27, eX6_pace_28, eX6_pace_56, eX6_pace_57, eX6_pace_58, eX6_pace_59, eX6_pace_62, eX6_pace_65, eX6_pace_66, eX6_pace_67, eX6_pace_70, eX6_pace_73, r_X6_wi, h1, h, WpR_some, Option.toList_some, Option.toList_none, List.cons_append, List.nil_append, List.append_nil, clr_n, clr_i, clr_a, ni_add, ni_mul, ni_sub, ni_lt, ni_le, ni_eq, ni_div, nat_mod_eq, ni_rem, iMax_nn, iMin_nn, iMax_sub, Nat.zero_max, bI_0, bI_1, bI_n0, up2_s, up2_n, up2_k, va_up_self, va_up_ne, ni_l, lN_mul, lN_add, ln_mask, lN_i, ↓reduceIte, if_true, if_false, not_true_eq_false, not_false_eq_true, ite_self, Nat.add_zero, Nat.zero_add, ent_def]
theorem c_pace (hG : GW G) (hC : CA m σ k f) (hO : Ok σ) (h1 : 1 ≤ n) (h2 : n ≤ 40) (hx : x ≤ 2) : ∃ m', res mX6_pace [.ref 2, .int (nI n), .int (nI x)] (G, m, ml) = some (some (.int (pcS σ n (nI x))), (G, m', ml)) ∧ FT m m' := by
  have hr1 := rg_t (j := n) h1 h2 (by decide)
  have hr2 := rg_t (j := x) (lo := 0) (hi := 2) (by omega) hx (by decide)
  obtain ⟨m1, e1, T1, F1⟩ := r_X6_findPace (ml := ml) hG hC hO h1 h2
  obtain ⟨q1, q2⟩ := T1
  obtain ⟨⟨g0, g1, g2, g3, g4, g5, g6, g7, g8, g9, -⟩, -, -, -, ⟨t1, t2⟩, -⟩ := hG
  refine ⟨m1, ?_, F1⟩
  apply res_of
  show Wp mX6_pace 0 [some (.ref 2), some (.int (nI n)), some (.int (nI x)), none] [] (G, m, ml) _
  unfold pcS
  rcases (show x = 0 ∨ x = 1 ∨ x = 2 by omega) with rfl | rfl | rfl
  · simp (maxSteps := 1000000) (decide := true) (disch := (first | assumption | omega | exact Nat.div_mul_le_self _ _ | exact ni_nz (by omega) (by omega) | exact rfl | exact retOk_bI _ | exact retOk_0 | exact retOk_1)) only [eX6_pace_0, eX6_pace_1, eX6_pace_2, eX6_pace_4, eX6_pace_7, eX6_pace_10, eX6_pace_11, eX6_pace_12, eX6_pace_13, eX6_pace_16, eX6_pace_19, eX6_pace_20, eX6_pace_21, eX6_pace_22, eX6_pace_23, eX6_pace_26, eX6_pace_27, eX6_pace_28, eX6_pace_56, eX6_pace_57, eX6_pace_58, eX6_pace_59, eX6_pace_62, eX6_pace_65, eX6_pace_66, eX6_pace_67, eX6_pace_70, eX6_pace_73, r_X6_wi, hr1, hr2, e1, WpR_some, Option.toList_some, Option.toList_none, List.cons_append, List.nil_append, List.append_nil, clr_n, clr_i, clr_a, ni_add, ni_mul, ni_sub, ni_lt, ni_le, ni_eq, ni_div, nat_mod_eq, ni_rem, iMax_nn, iMin_nn, iMax_sub, Nat.zero_max, bI_0, bI_1, bI_n0, up2_s, up2_n, up2_k, va_up_self, va_up_ne, ni_l, lN_mul, lN_add, ln_mask, lN_i, ↓reduceIte, if_true, if_false, not_true_eq_false, not_false_eq_true, ite_self, Nat.add_zero, Nat.zero_add, ent_def]
  · simp (maxSteps := 1000000) (decide := true) (disch := (first | assumption | omega | exact Nat.div_mul_le_self _ _ | exact ni_nz (by omega) (by omega) | exact rfl | exact retOk_bI _ | exact retOk_0 | exact retOk_1)) only [eX6_pace_0, eX6_pace_1, eX6_pace_2, eX6_pace_4, eX6_pace_7, eX6_pace_10, eX6_pace_11, eX6_pace_12, eX6_pace_13, eX6_pace_16, eX6_pace_19, eX6_pace_20, eX6_pace_21, eX6_pace_22, eX6_pace_23, eX6_pace_26, eX6_pace_27, eX6_pace_28, eX6_pace_56, eX6_pace_57, eX6_pace_58, eX6_pace_59, eX6_pace_62, eX6_pace_65, eX6_pace_66, eX6_pace_67, eX6_pace_70, eX6_pace_73, r_X6_wi, hr1, hr2, e1, g9, q1, WpR_some, Option.toList_some, Option.toList_none, List.cons_append, List.nil_append, List.append_nil, clr_n, clr_i, clr_a, ni_add, ni_mul, ni_sub, ni_lt, ni_le, ni_eq, ni_div, nat_mod_eq, ni_rem, iMax_nn, iMin_nn, iMax_sub, Nat.zero_max, bI_0, bI_1, bI_n0, up2_s, up2_n, up2_k, va_up_self, va_up_ne, ni_l, lN_mul, lN_add, ln_mask, lN_i, ↓reduceIte, if_true, if_false, not_true_eq_false, not_false_eq_true, ite_self, Nat.add_zero, Nat.zero_add, ent_def]
  · simp (maxSteps := 1000000) (decide := true) (disch := (first | assumption | omega | exact Nat.div_mul_le_self _ _ | exact ni_nz (by omega) (by omega) | exact rfl | exact retOk_bI _ | exact retOk_0 | exact retOk_1)) only [eX6_pace_0, eX6_pace_1, eX6_pace_2, eX6_pace_4, eX6_pace_7, eX6_pace_10, eX6_pace_11, eX6_pace_12, eX6_pace_13, eX6_pace_16, eX6_pace_19, eX6_pace_20, eX6_pace_21, eX6_pace_22, eX6_pace_23, eX6_pace_26, eX6_pace_27, eX6_pace_28, eX6_pace_56, eX6_pace_57, eX6_pace_58, eX6_pace_59, eX6_pace_62, eX6_pace_65, eX6_pace_66, eX6_pace_67, eX6_pace_70, eX6_pace_73, r_X6_wi, hr1, hr2, e1, g9, q2, WpR_some, Option.toList_some, Option.toList_none, List.cons_append, List.nil_append, List.append_nil, clr_n, clr_i, clr_a, ni_add, ni_mul, ni_sub, ni_lt, ni_le, ni_eq, ni_div, nat_mod_eq, ni_rem, iMax_nn, iMin_nn, iMax_sub, Nat.zero_max, bI_0, bI_1, bI_n0, up2_s, up2_n, up2_k, va_up_self, va_up_ne, ni_l, lN_mul, lN_add, ln_mask, lN_i, ↓reduceIte, if_true, if_false, not_true_eq_false, not_false_eq_true, ite_self, Nat.add_zero, Nat.zero_add, ent_def]
theorem c_needs_bad (hG : GW G) (hC : CA m σ k f) (h : (isN u (σ 45) && rg v 1 40) = false) : res mX6_needs [.ref 2, .int u, .int v] (G, m, ml) = some (some (.int (-1)), (G, m, ml)) := by
  have e := r_X6_isHearer (ml := ml) (v := u) hG hC.1
  obtain ⟨⟨g0, g1, -⟩, -⟩ := hG
  apply res_of
  show Wp mX6_needs 0 [some (.ref 2), some (.int u), some (.int v), none] [] (G, m, ml) _
  cases h1 : isN u (σ 45)
  · rw [h1] at e
    simp (maxSteps := 1000000) (decide := true) (disch := (first | assumption | omega | exact Nat.div_mul_le_self _ _ | exact ni_nz (by omega) (by omega) | exact rfl | exact retOk_bI _ | exact retOk_0 | exact retOk_1)) only [eX6_needs_0, eX6_needs_1, eX6_needs_2, eX6_needs_5, eX6_needs_8, eX6_needs_9, eX6_needs_10, eX6_needs_12, eX6_needs_15, eX6_needs_18, eX6_needs_19, eX6_needs_20, eX6_needs_21, eX6_needs_23, eX6_needs_25, eX6_needs_28, eX6_needs_29, eX6_needs_32, eX6_needs_33, eX6_needs_36, eX6_needs_39, eX6_needs_40, eX6_needs_43, eX6_needs_46, eX6_needs_47, eX6_needs_48, eX6_needs_49, eX6_needs_50, eX6_needs_53, eX6_needs_56, eX6_needs_57, eX6_needs_58, eX6_needs_61, eX6_needs_64, eX6_needs_65, eX6_needs_66, eX6_needs_67, eX6_needs_70, eX6_needs_71, eX6_needs_72, eX6_needs_73, eX6_needs_74, eX6_needs_77, eX6_needs_80, eX6_needs_81, eX6_needs_82, eX6_needs_85, eX6_needs_88, eX6_needs_90, e, WpR_some, Option.toList_some, Option.toList_none, List.cons_append, List.nil_append, List.append_nil, clr_n, clr_i, clr_a, ni_add, ni_mul, ni_sub, ni_lt, ni_le, ni_eq, ni_div, nat_mod_eq, ni_rem, iMax_nn, iMin_nn, iMax_sub, Nat.zero_max, bI_0, bI_1, bI_n0, up2_s, up2_n, up2_k, va_up_self, va_up_ne, ni_l, lN_mul, lN_add, ln_mask, lN_i, ↓reduceIte, if_true, if_false, not_true_eq_false, not_false_eq_true, ite_self, Nat.add_zero, Nat.zero_add, ent_def]
  · rw [h1] at e
    rw [h1, Bool.true_and] at h
    simp (maxSteps := 1000000) (decide := true) (disch := (first | assumption | omega | exact Nat.div_mul_le_self _ _ | exact ni_nz (by omega) (by omega) | exact rfl | exact retOk_bI _ | exact retOk_0 | exact retOk_1)) only [eX6_needs_0, eX6_needs_1, eX6_needs_2, eX6_needs_5, eX6_needs_8, eX6_needs_9, eX6_needs_10, eX6_needs_12, eX6_needs_15, eX6_needs_18, eX6_needs_19, eX6_needs_20, eX6_needs_21, eX6_needs_23, eX6_needs_25, eX6_needs_28, eX6_needs_29, eX6_needs_32, eX6_needs_33, eX6_needs_36, eX6_needs_39, eX6_needs_40, eX6_needs_43, eX6_needs_46, eX6_needs_47, eX6_needs_48, eX6_needs_49, eX6_needs_50, eX6_needs_53, eX6_needs_56, eX6_needs_57, eX6_needs_58, eX6_needs_61, eX6_needs_64, eX6_needs_65, eX6_needs_66, eX6_needs_67, eX6_needs_70, eX6_needs_71, eX6_needs_72, eX6_needs_73, eX6_needs_74, eX6_needs_77, eX6_needs_80, eX6_needs_81, eX6_needs_82, eX6_needs_85, eX6_needs_88, eX6_needs_90, e, r_X6_wi, h, WpR_some, Option.toList_some, Option.toList_none, List.cons_append, List.nil_append, List.append_nil, clr_n, clr_i, clr_a, ni_add, ni_mul, ni_sub, ni_lt, ni_le, ni_eq, ni_div, nat_mod_eq, ni_rem, iMax_nn, iMin_nn, iMax_sub, Nat.zero_max, bI_0, bI_1, bI_n0, up2_s, up2_n, up2_k, va_up_self, va_up_ne, ni_l, lN_mul, lN_add, ln_mask, lN_i, ↓reduceIte, if_true, if_false, not_true_eq_false, not_false_eq_true, ite_self, Nat.add_zero, Nat.zero_add, ent_def]
theorem c_needs (hG : GW G) (hC : CA m σ k f) (hO : Ok σ) (hh : h < σ 45) (h1 : 1 ≤ n) (h2 : n ≤ 40) : ∃ m', res mX6_needs [.ref 2, .int (nI h), .int (nI n)] (G, m, ml) = some (some (.int (if ndS σ h n = 100 then -4 else nI (ndS σ h n))), (G, m', ml)) ∧ FT m m' := by
  have b2 := hO.1.2.1
  have y10 := hO.1.2.2.2.2.2.2.2.2.2.1 h (by omega)
  have e := r_X6_isHearer (ml := ml) (v := nI h) hG hC.1
  rw [isN_t hh (by omega)] at e
  have hr1 := rg_t (j := n) h1 h2 (by decide)
  have hG0 := hG
  obtain ⟨⟨g0, g1, g2, g3, g4, g5, g6, g7, -⟩, ⟨s3, p10, s68, p75, s144⟩, -⟩ := hG
  have s3' := s3
  have s144' := s144
  obtain ⟨r0, ⟨r1, r2, r3, r4, r5, r6⟩, ⟨p1, p2, p3, p4, p5, p6⟩, k1, k2, k3, k4, k5, k6⟩ := s3
  obtain ⟨s0, ⟨s1, s2, s3, s4, s5, s6⟩, ⟨q1, q2, q3, q4, q5, q6⟩, l1, l2, l3, l4, l5, l6⟩ := s144
  have key : Wp mX6_needs 0 (ent [.ref 2, .int (nI h), .int (nI n)] 4) [] (G, m, ml) (fun r μ' => ∃ m', r = some (.int (if ndS σ h n = 100 then -4 else nI (ndS σ h n))) ∧ μ' = (G, m', ml) ∧ FT m m') := by
    show Wp mX6_needs 0 [some (.ref 2), some (.int (nI h)), some (.int (nI n)), none] [] (G, m, ml) _
    generalize hQ : (fun (r : Option Value) (μ' : Mm) => ∃ m', r = some (.int (if ndS σ h n = 100 then -4 else nI (ndS σ h n))) ∧ μ' = (G, m', ml) ∧ FT m m') = Q
    simp (maxSteps := 1000000) (decide := true) (disch := (first | assumption | omega | exact Nat.div_mul_le_self _ _ | exact ni_nz (by omega) (by omega) | exact rfl | exact retOk_bI _ | exact retOk_0 | exact retOk_1)) only [eX6_needs_0, eX6_needs_1, eX6_needs_2, eX6_needs_5, eX6_needs_8, eX6_needs_9, eX6_needs_10, eX6_needs_12, eX6_needs_15, eX6_needs_18, eX6_needs_19, eX6_needs_20, eX6_needs_21, eX6_needs_23, eX6_needs_25, eX6_needs_28, eX6_needs_29, eX6_needs_32, eX6_needs_33, eX6_needs_36, eX6_needs_39, eX6_needs_40, eX6_needs_43, eX6_needs_46, eX6_needs_47, eX6_needs_48, eX6_needs_49, eX6_needs_50, eX6_needs_53, eX6_needs_56, eX6_needs_57, eX6_needs_58, eX6_needs_61, eX6_needs_64, eX6_needs_65, eX6_needs_66, eX6_needs_67, eX6_needs_70, eX6_needs_71, eX6_needs_72, eX6_needs_73, eX6_needs_74, eX6_needs_77, eX6_needs_80, eX6_needs_81, eX6_needs_82, eX6_needs_85, eX6_needs_88, eX6_needs_90, e, r_X6_wi, hr1, WpR_some, Option.toList_some, Option.toList_none, List.cons_append, List.nil_append, List.append_nil, clr_n, clr_i, clr_a, ni_add, ni_mul, ni_sub, ni_lt, ni_le, ni_eq, ni_div, nat_mod_eq, ni_rem, iMax_nn, iMin_nn, iMax_sub, Nat.zero_max, bI_0, bI_1, bI_n0, up2_s, up2_n, up2_k, va_up_self, va_up_ne, ni_l, lN_mul, lN_add, ln_mask, lN_i, ↓reduceIte, if_true, if_false, not_true_eq_false, not_false_eq_true, ite_self, Nat.add_zero, Nat.zero_add, ent_def]
    refine wp_for (X := Unit) (fun i _ => [some (.ref 2), some (.int (nI h)), some (.int (nI n)), some (.int (nI i))]) (fun i _ μ => ∃ m2, μ = (G, m2, ml) ∧ FT m m2 ∧ (∀ j, j < i → ¬ fl (ndP σ h j) h n = n)) 100 ?_ ?_ 0 () _ (Nat.zero_le _) ⟨m, rfl, fun _ _ => rfl, fun j hj => absurd hj (Nat.not_lt_zero _)⟩
    · rintro i - μ hi ⟨m2, rfl, F2, N2⟩ kk
      have hlt : ¬ 99 < i := by omega
      have V2 : ShV m2 3 σ := ShV_fr hC.1 (fun b h1 h2 => F2 b (by omega))
      obtain ⟨m3, e3, V3, F3⟩ := r_X3_become (m := m2) (ml := ml) s144' s3' (by omega)
      have V3' := V3 σ V2
      have x3 : m3 6 h = nI (σ (51 + h)) := by rw [F3 6 (by omega)]; exact (ShV_old V2).2.2.2.1 h hh
      have V4 : ShV (up2 (up2 m3 148 h (nI i)) 147 h (nI (max (σ (51 + h)) i))) 144 (ndP σ h i) := ShV_up (i := 51 + h) (ShV_up (i := h) V3' (by omega) (by omega) (by omega) (o := 148) (k := h) (by simp only [cO]; rw [if_pos (by omega)]) (by simp only [cK]; rw [if_pos (by omega)])) (by omega) (by omega) (by omega) (o := 147) (k := h) (by simp only [cO]; rw [if_neg (by omega), if_neg (by omega), if_neg (by omega), if_neg (by omega), if_neg (by omega), if_neg (by omega)]) (by simp only [cK]; rw [if_neg (by omega), if_neg (by omega), if_neg (by omega), if_neg (by omega), if_neg (by omega), if_neg (by omega), if_neg (by omega)]; omega)
      obtain ⟨m5, e5, F5⟩ := r_X6_firstLook (ml := ml) (n := n) (h := h) hG0 V4 (Bk_nd (Bk_mono (Ok_Bk hO) (by omega) (by omega)) (by omega) (by omega)) (by rw [nd_45 (by omega)]; exact hh) (by omega)
      have F6 : FT m m5 := fun b hb => by rw [F5 b (by omega), up2_n (by omega), up2_n (by omega), F3 b (by omega)]; exact F2 b hb
      have hfl : fl (ndP σ h i) h n ≤ n := fst1_le n
      rw [eX6_needs_22]
      by_cases hd : fl (ndP σ h i) h n = n
      · rw [if_pos hd] at e5
        simp (maxSteps := 1000000) (decide := true) (disch := (first | assumption | omega | exact Nat.div_mul_le_self _ _ | exact ni_nz (by omega) (by omega) | exact rfl | exact retOk_bI _ | exact retOk_0 | exact retOk_1)) only [eX6_needs_0, eX6_needs_1, eX6_needs_2, eX6_needs_5, eX6_needs_8, eX6_needs_9, eX6_needs_10, eX6_needs_12, eX6_needs_15, eX6_needs_18, eX6_needs_19, eX6_needs_20, eX6_needs_21, eX6_needs_23, eX6_needs_25, eX6_needs_28, eX6_needs_29, eX6_needs_32, eX6_needs_33, eX6_needs_36, eX6_needs_39, eX6_needs_40, eX6_needs_43, eX6_needs_46, eX6_needs_47, eX6_needs_48, eX6_needs_49, eX6_needs_50, eX6_needs_53, eX6_needs_56, eX6_needs_57, eX6_needs_58, eX6_needs_61, eX6_needs_64, eX6_needs_65, eX6_needs_66, eX6_needs_67, eX6_needs_70, eX6_needs_71, eX6_needs_72, eX6_needs_73, eX6_needs_74, eX6_needs_77, eX6_needs_80, eX6_needs_81, eX6_needs_82, eX6_needs_85, eX6_needs_88, eX6_needs_90, g1, g7, r3, s3, s4, e3, x3, e5, hlt, WpR_some, Option.toList_some, Option.toList_none, List.cons_append, List.nil_append, List.append_nil, clr_n, clr_i, clr_a, ni_add, ni_mul, ni_sub, ni_lt, ni_le, ni_eq, ni_div, nat_mod_eq, ni_rem, iMax_nn, iMin_nn, iMax_sub, Nat.zero_max, bI_0, bI_1, bI_n0, up2_s, up2_n, up2_k, va_up_self, va_up_ne, ni_l, lN_mul, lN_add, ln_mask, lN_i, ↓reduceIte, if_true, if_false, not_true_eq_false, not_false_eq_true, ite_self, Nat.add_zero, Nat.zero_add, ent_def]
        rw [← hQ]
        have hf : ndS σ h n = i := fst1_at (fun j hj => decide_eq_false (N2 j hj)) (decide_eq_true hd) 100 hi
        exact ⟨m5, by rw [hf, if_neg (by omega)], rfl, F6⟩
      · rw [if_neg hd] at e5
        have hne : ¬ fl (ndP σ h i) h n + 1 = 0 := by omega
        simp (maxSteps := 1000000) (decide := true) (disch := (first | assumption | omega | exact Nat.div_mul_le_self _ _ | exact ni_nz (by omega) (by omega) | exact rfl | exact retOk_bI _ | exact retOk_0 | exact retOk_1)) only [eX6_needs_0, eX6_needs_1, eX6_needs_2, eX6_needs_5, eX6_needs_8, eX6_needs_9, eX6_needs_10, eX6_needs_12, eX6_needs_15, eX6_needs_18, eX6_needs_19, eX6_needs_20, eX6_needs_21, eX6_needs_23, eX6_needs_25, eX6_needs_28, eX6_needs_29, eX6_needs_32, eX6_needs_33, eX6_needs_36, eX6_needs_39, eX6_needs_40, eX6_needs_43, eX6_needs_46, eX6_needs_47, eX6_needs_48, eX6_needs_49, eX6_needs_50, eX6_needs_53, eX6_needs_56, eX6_needs_57, eX6_needs_58, eX6_needs_61, eX6_needs_64, eX6_needs_65, eX6_needs_66, eX6_needs_67, eX6_needs_70, eX6_needs_71, eX6_needs_72, eX6_needs_73, eX6_needs_74, eX6_needs_77, eX6_needs_80, eX6_needs_81, eX6_needs_82, eX6_needs_85, eX6_needs_88, eX6_needs_90, g1, g7, r3, s3, s4, e3, x3, e5, hlt, hne, WpR_some, Option.toList_some, Option.toList_none, List.cons_append, List.nil_append, List.append_nil, clr_n, clr_i, clr_a, ni_add, ni_mul, ni_sub, ni_lt, ni_le, ni_eq, ni_div, nat_mod_eq, ni_rem, iMax_nn, iMin_nn, iMax_sub, Nat.zero_max, bI_0, bI_1, bI_n0, up2_s, up2_n, up2_k, va_up_self, va_up_ne, ni_l, lN_mul, lN_add, ln_mask, lN_i, ↓reduceIte, if_true, if_false, not_true_eq_false, not_false_eq_true, ite_self, Nat.add_zero, Nat.zero_add, ent_def]
        refine kk () _ ⟨m5, rfl, F6, ?_⟩
        intro j hj
        by_cases hq : j = i
        · rw [hq]; exact hd
        · exact N2 j (by omega)
    · rintro - μ ⟨m2, rfl, F2, N2⟩
      rw [eX6_needs_22]
      simp (maxSteps := 1000000) (decide := true) (disch := (first | assumption | omega | exact Nat.div_mul_le_self _ _ | exact ni_nz (by omega) (by omega) | exact rfl | exact retOk_bI _ | exact retOk_0 | exact retOk_1)) only [eX6_needs_0, eX6_needs_1, eX6_needs_2, eX6_needs_5, eX6_needs_8, eX6_needs_9, eX6_needs_10, eX6_needs_12, eX6_needs_15, eX6_needs_18, eX6_needs_19, eX6_needs_20, eX6_needs_21, eX6_needs_23, eX6_needs_25, eX6_needs_28, eX6_needs_29, eX6_needs_32, eX6_needs_33, eX6_needs_36, eX6_needs_39, eX6_needs_40, eX6_needs_43, eX6_needs_46, eX6_needs_47, eX6_needs_48, eX6_needs_49, eX6_needs_50, eX6_needs_53, eX6_needs_56, eX6_needs_57, eX6_needs_58, eX6_needs_61, eX6_needs_64, eX6_needs_65, eX6_needs_66, eX6_needs_67, eX6_needs_70, eX6_needs_71, eX6_needs_72, eX6_needs_73, eX6_needs_74, eX6_needs_77, eX6_needs_80, eX6_needs_81, eX6_needs_82, eX6_needs_85, eX6_needs_88, eX6_needs_90, WpR_some, Option.toList_some, Option.toList_none, List.cons_append, List.nil_append, List.append_nil, clr_n, clr_i, clr_a, ni_add, ni_mul, ni_sub, ni_lt, ni_le, ni_eq, ni_div, nat_mod_eq, ni_rem, iMax_nn, iMin_nn, iMax_sub, Nat.zero_max, bI_0, bI_1, bI_n0, up2_s, up2_n, up2_k, va_up_self, va_up_ne, ni_l, lN_mul, lN_add, ln_mask, lN_i, ↓reduceIte, if_true, if_false, not_true_eq_false, not_false_eq_true, ite_self, Nat.add_zero, Nat.zero_add, ent_def]
      rw [← hQ]
      have hf : ndS σ h n = 100 := fst1_no 100 (fun j hj => decide_eq_false (N2 j hj))
      exact ⟨m2, by rw [hf, if_pos rfl], rfl, F2⟩
  obtain ⟨r, μ', e1, m', rfl, rfl, h2⟩ := res_ex key
  exact ⟨m', e1, h2⟩
theorem r_X6_looksWithout (hG : GW G) (hC : CA m σ k f) (hO : Ok σ) (hh : h < σ 45) : ∃ m', res mX6_looksWithout [.ref 2, .int (nI h)] (G, m, ml) = some (some (.int (nI (spL σ h))), (G, m', ml)) ∧ FT m m' := by
  have b1 := hO.1.1
  have b2 := hO.1.2.1
  obtain ⟨⟨g0, g1, g2, g3, g4, g5, g6, g7, g8, -⟩, ⟨s3, p10, s68, p75, s144⟩, -, -, ⟨t1, t2⟩, -⟩ := hG
  have s1 := s144.1
  obtain ⟨m1, e1, V1, F1⟩ := r_X3_become (m := m) (ml := ml) s144 s3 (by omega)
  have ec := r_X4_clear (m := m1) (ml := ml) t1
  have hBk : Bk 2 10 σ := Bk_mono (Ok_Bk hO) (by omega) (by omega)
  obtain ⟨m3, e3, V3, T3, F3⟩ := r_X3_passEvening (ml := ml) (x := h) (ab := nI h) (m := up2 (up2 m1 151 0 (nI 0)) 151 1 (nI 0)) s144 t1 (by omega) (ShV_fr (V1 σ hC.1) (fun b h1 h2 => by rw [up2_n (by omega), up2_n (by omega)])) TlV_clear (ke := 1) (kl := 5) hBk (fun n hn => by rw [ni_eq (by omega) (by omega)])
  have hB4 : Bk 1 5 (gon (evS id h σ (σ 45))) := Bk_gon (Bk_mono (Bk_evS (ke := 2) (kl := 5) (x := h) (π := id) (Bk_mono hBk (by omega) (by omega)) (fun j hj => hj) (σ 45) (Nat.le_refl _)) (Nat.le_refl _) (by omega))
  obtain ⟨m4, e4, V4, T4, F4⟩ := r_X3_passEvening (ml := ml) (x := 9) (ab := -4) s144 t1 (by omega) V3 T3 (ke := 0) (kl := 0) hB4 hab9
  have x1 : m4 151 1 = nI (spL σ h) := by rw [T4.2, Nat.zero_add]; rfl
  refine ⟨m4, ?_, fun b hb => by rw [F4 b (by omega) (by omega), F3 b (by omega) (by omega), up2_n (by omega), up2_n (by omega), F1 b (by omega)]⟩
  apply res_of
  show Wp mX6_looksWithout 0 [some (.ref 2), some (.int (nI h))] [] (G, m, ml) _
  simp (maxSteps := 1000000) (decide := true) (disch := (first | assumption | omega | exact Nat.div_mul_le_self _ _ | exact ni_nz (by omega) (by omega) | exact rfl | exact retOk_bI _ | exact retOk_0 | exact retOk_1)) only [eX6_looksWithout_0, eX6_looksWithout_1, eX6_looksWithout_4, eX6_looksWithout_5, eX6_looksWithout_8, eX6_looksWithout_11, eX6_looksWithout_12, eX6_looksWithout_15, eX6_looksWithout_18, eX6_looksWithout_19, eX6_looksWithout_22, eX6_looksWithout_23, eX6_looksWithout_24, eX6_looksWithout_27, eX6_looksWithout_30, eX6_looksWithout_31, eX6_looksWithout_34, eX6_looksWithout_36, eX6_looksWithout_37, eX6_looksWithout_40, eX6_looksWithout_43, eX6_looksWithout_44, eX6_looksWithout_47, eX6_looksWithout_50, g1, g7, g8, e1, ec, e3, e4, x1, WpR_some, Option.toList_some, Option.toList_none, List.cons_append, List.nil_append, List.append_nil, clr_n, clr_i, clr_a, ni_add, ni_mul, ni_sub, ni_lt, ni_le, ni_eq, ni_div, nat_mod_eq, ni_rem, iMax_nn, iMin_nn, iMax_sub, Nat.zero_max, bI_0, bI_1, bI_n0, up2_s, up2_n, up2_k, va_up_self, va_up_ne, ni_l, lN_mul, lN_add, ln_mask, lN_i, ↓reduceIte, if_true, if_false, not_true_eq_false, not_false_eq_true, ite_self, Nat.add_zero, Nat.zero_add, ent_def]
theorem c_spare_bad (h : rg w 0 1 = false) : res mX6_spare [.ref 2, .int w] (G, m, ml) = some (some (.int (-1)), (G, m, ml)) := by
  apply res_of
  show Wp mX6_spare 0 [some (.ref 2), some (.int w), none, none, none, none] [] (G, m, ml) _
  simp (maxSteps := 1000000) (decide := true) (disch := (first | assumption | omega | exact Nat.div_mul_le_self _ _ | exact ni_nz (by omega) (by omega) | exact rfl | exact retOk_bI _ | exact retOk_0 | exact retOk_1)) only [eX6_spare_0, eX6_spare_1, eX6_spare_2, eX6_spare_3, eX6_spare_6, eX6_spare_9, eX6_spare_10, eX6_spare_11, eX6_spare_13, eX6_spare_14, eX6_spare_16, eX6_spare_17, eX6_spare_18, eX6_spare_22, eX6_spare_23, eX6_spare_26, eX6_spare_29, eX6_spare_32, eX6_spare_33, eX6_spare_35, eX6_spare_38, eX6_spare_40, eX6_spare_41, eX6_spare_43, eX6_spare_46, eX6_spare_48, eX6_spare_49, eX6_spare_52, eX6_spare_54, eX6_spare_55, eX6_spare_57, eX6_spare_58, eX6_spare_61, eX6_spare_64, eX6_spare_65, eX6_spare_68, eX6_spare_69, eX6_spare_72, eX6_spare_73, r_X6_wi, h, WpR_some, Option.toList_some, Option.toList_none, List.cons_append, List.nil_append, List.append_nil, clr_n, clr_i, clr_a, ni_add, ni_mul, ni_sub, ni_lt, ni_le, ni_eq, ni_div, nat_mod_eq, ni_rem, iMax_nn, iMin_nn, iMax_sub, Nat.zero_max, bI_0, bI_1, bI_n0, up2_s, up2_n, up2_k, va_up_self, va_up_ne, ni_l, lN_mul, lN_add, ln_mask, lN_i, ↓reduceIte, if_true, if_false, not_true_eq_false, not_false_eq_true, ite_self, Nat.add_zero, Nat.zero_add, ent_def]
theorem c_spare (hG : GW G) (hC : CA m σ k f) (hO : Ok σ) (hx : x ≤ 1) : ∃ m', res mX6_spare [.ref 2, .int (nI x)] (G, m, ml) = some (some (.int (spS σ (nI x))), (G, m', ml)) ∧ FT m m' := by
  have b1 := hO.1.1
  have b2 := hO.1.2.1
  have hr2 := rg_t (j := x) (lo := 0) (hi := 1) (by omega) hx (by decide)
  have hG0 := hG
  obtain ⟨⟨g0, g1, g2, g3, g4, g5, g6, g7, g8, -⟩, ⟨s3, p10, s68, p75, s144⟩, -, -, ⟨t1, t2⟩, -⟩ := hG
  have s0 := s3.1
  have key : Wp mX6_spare 0 (ent [.ref 2, .int (nI x)] 6) [] (G, m, ml) (fun r μ' => ∃ m', r = some (.int (spS σ (nI x))) ∧ μ' = (G, m', ml) ∧ FT m m') := by
    show Wp mX6_spare 0 [some (.ref 2), some (.int (nI x)), none, none, none, none] [] (G, m, ml) _
    generalize hQ : (fun (r : Option Value) (μ' : Mm) => ∃ m', r = some (.int (spS σ (nI x))) ∧ μ' = (G, m', ml) ∧ FT m m') = Q
    simp (maxSteps := 1000000) (decide := true) (disch := (first | assumption | omega | exact Nat.div_mul_le_self _ _ | exact ni_nz (by omega) (by omega) | exact rfl | exact retOk_bI _ | exact retOk_0 | exact retOk_1)) only [eX6_spare_0, eX6_spare_1, eX6_spare_2, eX6_spare_3, eX6_spare_6, eX6_spare_9, eX6_spare_10, eX6_spare_11, eX6_spare_13, eX6_spare_14, eX6_spare_16, eX6_spare_17, eX6_spare_18, eX6_spare_22, eX6_spare_23, eX6_spare_26, eX6_spare_29, eX6_spare_32, eX6_spare_33, eX6_spare_35, eX6_spare_38, eX6_spare_40, eX6_spare_41, eX6_spare_43, eX6_spare_46, eX6_spare_48, eX6_spare_49, eX6_spare_52, eX6_spare_54, eX6_spare_55, eX6_spare_57, eX6_spare_58, eX6_spare_61, eX6_spare_64, eX6_spare_65, eX6_spare_68, eX6_spare_69, eX6_spare_72, eX6_spare_73, r_X6_wi, hr2, WpR_some, Option.toList_some, Option.toList_none, List.cons_append, List.nil_append, List.append_nil, clr_n, clr_i, clr_a, ni_add, ni_mul, ni_sub, ni_lt, ni_le, ni_eq, ni_div, nat_mod_eq, ni_rem, iMax_nn, iMin_nn, iMax_sub, Nat.zero_max, bI_0, bI_1, bI_n0, up2_s, up2_n, up2_k, va_up_self, va_up_ne, ni_l, lN_mul, lN_add, ln_mask, lN_i, ↓reduceIte, if_true, if_false, not_true_eq_false, not_false_eq_true, ite_self, Nat.add_zero, Nat.zero_add, ent_def]
    refine wp_for (X := Int32 × Int32 × Option Value) (fun i z => [some (.ref 2), some (.int (nI x)), some (.int z.1), some (.int z.2.1), some (.int (nI i)), z.2.2]) (fun i z μ => ∃ m2, μ = (G, m2, ml) ∧ FT m m2 ∧ z.1 = (if i = 0 then -4 else nI (mb (spL σ) i)) ∧ z.2.1 = (if i = 0 then -4 else nI (spL σ (mb (spL σ) i)))) (σ 45) ?_ ?_ 0 (-4, -4, none) _ (Nat.zero_le _) ⟨m, rfl, fun _ _ => rfl, rfl, rfl⟩
    · rintro i ⟨z1, z2, z3⟩ μ hi ⟨m2, rfl, F2, hz1, hz2⟩ kk
      simp only at hz1 hz2
      subst hz1
      subst hz2
      have hlt : ¬ σ 45 ≤ i := by omega
      have C2 : CA m2 σ k f := CA_fr hC (fun b h1 h2 => F2 b (by omega))
      have v1 := (ShV_old C2.1).1.2.1
      obtain ⟨m3, e3, F3⟩ := r_X6_looksWithout (ml := ml) (h := i) hG0 C2 hO hi
      have F6 : FT m m3 := fun b hb => by rw [F3 b hb]; exact F2 b hb
      have l1 := spL_le (h := i) hO.1
      rw [eX6_spare_20]
      by_cases h0 : i = 0
      · subst h0
        simp only [if_true]
        simp (maxSteps := 1000000) (decide := true) (disch := (first | assumption | omega | exact Nat.div_mul_le_self _ _ | exact ni_nz (by omega) (by omega) | exact rfl | exact retOk_bI _ | exact retOk_0 | exact retOk_1)) only [eX6_spare_0, eX6_spare_1, eX6_spare_2, eX6_spare_3, eX6_spare_6, eX6_spare_9, eX6_spare_10, eX6_spare_11, eX6_spare_13, eX6_spare_14, eX6_spare_16, eX6_spare_17, eX6_spare_18, eX6_spare_22, eX6_spare_23, eX6_spare_26, eX6_spare_29, eX6_spare_32, eX6_spare_33, eX6_spare_35, eX6_spare_38, eX6_spare_40, eX6_spare_41, eX6_spare_43, eX6_spare_46, eX6_spare_48, eX6_spare_49, eX6_spare_52, eX6_spare_54, eX6_spare_55, eX6_spare_57, eX6_spare_58, eX6_spare_61, eX6_spare_64, eX6_spare_65, eX6_spare_68, eX6_spare_69, eX6_spare_72, eX6_spare_73, g1, v1, e3, hlt, WpR_some, Option.toList_some, Option.toList_none, List.cons_append, List.nil_append, List.append_nil, clr_n, clr_i, clr_a, ni_add, ni_mul, ni_sub, ni_lt, ni_le, ni_eq, ni_div, nat_mod_eq, ni_rem, iMax_nn, iMin_nn, iMax_sub, Nat.zero_max, bI_0, bI_1, bI_n0, up2_s, up2_n, up2_k, va_up_self, va_up_ne, ni_l, lN_mul, lN_add, ln_mask, lN_i, ↓reduceIte, if_true, if_false, not_true_eq_false, not_false_eq_true, ite_self, Nat.add_zero, Nat.zero_add, ent_def]
        exact kk (nI 0, nI (spL σ 0), _) _ ⟨m3, rfl, F6, rfl, rfl⟩
      · simp only [if_neg h0]
        have l2 := spL_le (h := mb (spL σ) i) hO.1
        have hmb := mb_lt (L := spL σ) i (by omega)
        have hn4 := neg4_ne (show mb (spL σ) i < 5 by omega)
        have fin : ∀ b, b = mb (spL σ) (i + 1) → ∀ z3, Wp mX6_spare 20 ([some (.ref 2), some (.int (nI x)), some (.int (nI b)), some (.int (nI (spL σ b))), some (.int (nI (i + 1))), z3]) [] (G, m3, ml) Q := by
          rintro b rfl z3
          exact kk (nI (mb (spL σ) (i + 1)), nI (spL σ (mb (spL σ) (i + 1))), z3) _ ⟨m3, rfl, F6, by rw [if_neg (by omega)], by rw [if_neg (by omega)]⟩
        by_cases c1 : spL σ i < spL σ (mb (spL σ) i)
        · have f1 := fin i (mb_t (Or.inr c1))
          have c1' : ¬ spL σ (mb (spL σ) i) ≤ spL σ i := by omega
          simp (maxSteps := 1000000) (decide := true) (disch := (first | assumption | omega | exact Nat.div_mul_le_self _ _ | exact ni_nz (by omega) (by omega) | exact rfl | exact retOk_bI _ | exact retOk_0 | exact retOk_1)) only [eX6_spare_0, eX6_spare_1, eX6_spare_2, eX6_spare_3, eX6_spare_6, eX6_spare_9, eX6_spare_10, eX6_spare_11, eX6_spare_13, eX6_spare_14, eX6_spare_16, eX6_spare_17, eX6_spare_18, eX6_spare_22, eX6_spare_23, eX6_spare_26, eX6_spare_29, eX6_spare_32, eX6_spare_33, eX6_spare_35, eX6_spare_38, eX6_spare_40, eX6_spare_41, eX6_spare_43, eX6_spare_46, eX6_spare_48, eX6_spare_49, eX6_spare_52, eX6_spare_54, eX6_spare_55, eX6_spare_57, eX6_spare_58, eX6_spare_61, eX6_spare_64, eX6_spare_65, eX6_spare_68, eX6_spare_69, eX6_spare_72, eX6_spare_73, g1, v1, e3, hlt, hn4, c1', WpR_some, Option.toList_some, Option.toList_none, List.cons_append, List.nil_append, List.append_nil, clr_n, clr_i, clr_a, ni_add, ni_mul, ni_sub, ni_lt, ni_le, ni_eq, ni_div, nat_mod_eq, ni_rem, iMax_nn, iMin_nn, iMax_sub, Nat.zero_max, bI_0, bI_1, bI_n0, up2_s, up2_n, up2_k, va_up_self, va_up_ne, ni_l, lN_mul, lN_add, ln_mask, lN_i, ↓reduceIte, if_true, if_false, not_true_eq_false, not_false_eq_true, ite_self, Nat.add_zero, Nat.zero_add, ent_def]
          exact f1 _
        · have f1 := fin (mb (spL σ) i) (mb_f (by omega))
          have c1' : spL σ (mb (spL σ) i) ≤ spL σ i := by omega
          simp (maxSteps := 1000000) (decide := true) (disch := (first | assumption | omega | exact Nat.div_mul_le_self _ _ | exact ni_nz (by omega) (by omega) | exact rfl | exact retOk_bI _ | exact retOk_0 | exact retOk_1)) only [eX6_spare_0, eX6_spare_1, eX6_spare_2, eX6_spare_3, eX6_spare_6, eX6_spare_9, eX6_spare_10, eX6_spare_11, eX6_spare_13, eX6_spare_14, eX6_spare_16, eX6_spare_17, eX6_spare_18, eX6_spare_22, eX6_spare_23, eX6_spare_26, eX6_spare_29, eX6_spare_32, eX6_spare_33, eX6_spare_35, eX6_spare_38, eX6_spare_40, eX6_spare_41, eX6_spare_43, eX6_spare_46, eX6_spare_48, eX6_spare_49, eX6_spare_52, eX6_spare_54, eX6_spare_55, eX6_spare_57, eX6_spare_58, eX6_spare_61, eX6_spare_64, eX6_spare_65, eX6_spare_68, eX6_spare_69, eX6_spare_72, eX6_spare_73, g1, v1, e3, hlt, hn4, c1', WpR_some, Option.toList_some, Option.toList_none, List.cons_append, List.nil_append, List.append_nil, clr_n, clr_i, clr_a, ni_add, ni_mul, ni_sub, ni_lt, ni_le, ni_eq, ni_div, nat_mod_eq, ni_rem, iMax_nn, iMin_nn, iMax_sub, Nat.zero_max, bI_0, bI_1, bI_n0, up2_s, up2_n, up2_k, va_up_self, va_up_ne, ni_l, lN_mul, lN_add, ln_mask, lN_i, ↓reduceIte, if_true, if_false, not_true_eq_false, not_false_eq_true, ite_self, Nat.add_zero, Nat.zero_add, ent_def]
          exact f1 _
    · rintro ⟨z1, z2, z3⟩ μ ⟨m2, rfl, F2, hz1, hz2⟩
      simp only at hz1 hz2
      subst hz1
      subst hz2
      have C2 : CA m2 σ k f := CA_fr hC (fun b h1 h2 => F2 b (by omega))
      have v1 := (ShV_old C2.1).1.2.1
      have fin : ∀ r, r = spS σ (nI x) → Q (some (.int r)) (G, m2, ml) := by
        rintro r rfl
        rw [← hQ]
        exact ⟨m2, rfl, rfl, F2⟩
      rw [eX6_spare_20]
      by_cases h0 : σ 45 = 0
      · have f1 := fin (-4) (by unfold spS; rw [if_pos h0])
        rw [h0] at v1 ⊢
        simp only [if_true]
        rcases (show x = 0 ∨ x = 1 by omega) with rfl | rfl
        · simp (maxSteps := 1000000) (decide := true) (disch := (first | assumption | omega | exact Nat.div_mul_le_self _ _ | exact ni_nz (by omega) (by omega) | exact rfl | exact retOk_bI _ | exact retOk_0 | exact retOk_1)) only [eX6_spare_0, eX6_spare_1, eX6_spare_2, eX6_spare_3, eX6_spare_6, eX6_spare_9, eX6_spare_10, eX6_spare_11, eX6_spare_13, eX6_spare_14, eX6_spare_16, eX6_spare_17, eX6_spare_18, eX6_spare_22, eX6_spare_23, eX6_spare_26, eX6_spare_29, eX6_spare_32, eX6_spare_33, eX6_spare_35, eX6_spare_38, eX6_spare_40, eX6_spare_41, eX6_spare_43, eX6_spare_46, eX6_spare_48, eX6_spare_49, eX6_spare_52, eX6_spare_54, eX6_spare_55, eX6_spare_57, eX6_spare_58, eX6_spare_61, eX6_spare_64, eX6_spare_65, eX6_spare_68, eX6_spare_69, eX6_spare_72, eX6_spare_73, g1, v1, WpR_some, Option.toList_some, Option.toList_none, List.cons_append, List.nil_append, List.append_nil, clr_n, clr_i, clr_a, ni_add, ni_mul, ni_sub, ni_lt, ni_le, ni_eq, ni_div, nat_mod_eq, ni_rem, iMax_nn, iMin_nn, iMax_sub, Nat.zero_max, bI_0, bI_1, bI_n0, up2_s, up2_n, up2_k, va_up_self, va_up_ne, ni_l, lN_mul, lN_add, ln_mask, lN_i, ↓reduceIte, if_true, if_false, not_true_eq_false, not_false_eq_true, ite_self, Nat.add_zero, Nat.zero_add, ent_def]
          exact f1
        · simp (maxSteps := 1000000) (decide := true) (disch := (first | assumption | omega | exact Nat.div_mul_le_self _ _ | exact ni_nz (by omega) (by omega) | exact rfl | exact retOk_bI _ | exact retOk_0 | exact retOk_1)) only [eX6_spare_0, eX6_spare_1, eX6_spare_2, eX6_spare_3, eX6_spare_6, eX6_spare_9, eX6_spare_10, eX6_spare_11, eX6_spare_13, eX6_spare_14, eX6_spare_16, eX6_spare_17, eX6_spare_18, eX6_spare_22, eX6_spare_23, eX6_spare_26, eX6_spare_29, eX6_spare_32, eX6_spare_33, eX6_spare_35, eX6_spare_38, eX6_spare_40, eX6_spare_41, eX6_spare_43, eX6_spare_46, eX6_spare_48, eX6_spare_49, eX6_spare_52, eX6_spare_54, eX6_spare_55, eX6_spare_57, eX6_spare_58, eX6_spare_61, eX6_spare_64, eX6_spare_65, eX6_spare_68, eX6_spare_69, eX6_spare_72, eX6_spare_73, g1, v1, WpR_some, Option.toList_some, Option.toList_none, List.cons_append, List.nil_append, List.append_nil, clr_n, clr_i, clr_a, ni_add, ni_mul, ni_sub, ni_lt, ni_le, ni_eq, ni_div, nat_mod_eq, ni_rem, iMax_nn, iMin_nn, iMax_sub, Nat.zero_max, bI_0, bI_1, bI_n0, up2_s, up2_n, up2_k, va_up_self, va_up_ne, ni_l, lN_mul, lN_add, ln_mask, lN_i, ↓reduceIte, if_true, if_false, not_true_eq_false, not_false_eq_true, ite_self, Nat.add_zero, Nat.zero_add, ent_def]
          exact f1
      · simp only [if_neg h0]
        rcases (show x = 0 ∨ x = 1 by omega) with rfl | rfl
        · have f1 := fin (nI (mb (spL σ) (σ 45))) (by unfold spS; rw [if_neg h0]; rfl)
          simp (maxSteps := 1000000) (decide := true) (disch := (first | assumption | omega | exact Nat.div_mul_le_self _ _ | exact ni_nz (by omega) (by omega) | exact rfl | exact retOk_bI _ | exact retOk_0 | exact retOk_1)) only [eX6_spare_0, eX6_spare_1, eX6_spare_2, eX6_spare_3, eX6_spare_6, eX6_spare_9, eX6_spare_10, eX6_spare_11, eX6_spare_13, eX6_spare_14, eX6_spare_16, eX6_spare_17, eX6_spare_18, eX6_spare_22, eX6_spare_23, eX6_spare_26, eX6_spare_29, eX6_spare_32, eX6_spare_33, eX6_spare_35, eX6_spare_38, eX6_spare_40, eX6_spare_41, eX6_spare_43, eX6_spare_46, eX6_spare_48, eX6_spare_49, eX6_spare_52, eX6_spare_54, eX6_spare_55, eX6_spare_57, eX6_spare_58, eX6_spare_61, eX6_spare_64, eX6_spare_65, eX6_spare_68, eX6_spare_69, eX6_spare_72, eX6_spare_73, g1, v1, Nat.le_refl, WpR_some, Option.toList_some, Option.toList_none, List.cons_append, List.nil_append, List.append_nil, clr_n, clr_i, clr_a, ni_add, ni_mul, ni_sub, ni_lt, ni_le, ni_eq, ni_div, nat_mod_eq, ni_rem, iMax_nn, iMin_nn, iMax_sub, Nat.zero_max, bI_0, bI_1, bI_n0, up2_s, up2_n, up2_k, va_up_self, va_up_ne, ni_l, lN_mul, lN_add, ln_mask, lN_i, ↓reduceIte, if_true, if_false, not_true_eq_false, not_false_eq_true, ite_self, Nat.add_zero, Nat.zero_add, ent_def]
          exact f1
        · have f1 := fin (nI (spL σ (mb (spL σ) (σ 45)))) (by unfold spS; rw [if_neg h0]; rfl)
          simp (maxSteps := 1000000) (decide := true) (disch := (first | assumption | omega | exact Nat.div_mul_le_self _ _ | exact ni_nz (by omega) (by omega) | exact rfl | exact retOk_bI _ | exact retOk_0 | exact retOk_1)) only [eX6_spare_0, eX6_spare_1, eX6_spare_2, eX6_spare_3, eX6_spare_6, eX6_spare_9, eX6_spare_10, eX6_spare_11, eX6_spare_13, eX6_spare_14, eX6_spare_16, eX6_spare_17, eX6_spare_18, eX6_spare_22, eX6_spare_23, eX6_spare_26, eX6_spare_29, eX6_spare_32, eX6_spare_33, eX6_spare_35, eX6_spare_38, eX6_spare_40, eX6_spare_41, eX6_spare_43, eX6_spare_46, eX6_spare_48, eX6_spare_49, eX6_spare_52, eX6_spare_54, eX6_spare_55, eX6_spare_57, eX6_spare_58, eX6_spare_61, eX6_spare_64, eX6_spare_65, eX6_spare_68, eX6_spare_69, eX6_spare_72, eX6_spare_73, g1, v1, Nat.le_refl, WpR_some, Option.toList_some, Option.toList_none, List.cons_append, List.nil_append, List.append_nil, clr_n, clr_i, clr_a, ni_add, ni_mul, ni_sub, ni_lt, ni_le, ni_eq, ni_div, nat_mod_eq, ni_rem, iMax_nn, iMin_nn, iMax_sub, Nat.zero_max, bI_0, bI_1, bI_n0, up2_s, up2_n, up2_k, va_up_self, va_up_ne, ni_l, lN_mul, lN_add, ln_mask, lN_i, ↓reduceIte, if_true, if_false, not_true_eq_false, not_false_eq_true, ite_self, Nat.add_zero, Nat.zero_add, ent_def]
          exact f1
  obtain ⟨r, μ', e1, m', rfl, rfl, h2⟩ := res_ex key
  exact ⟨m', e1, h2⟩
end CTY
