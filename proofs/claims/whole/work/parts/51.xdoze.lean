section XDZ
variable {G : List AT} {m : Nat → Nat → Int32} {ml : Nat → Nat → Int64} {a b n s h t x y z k c p q i j w : Nat} {σ : Nat → Nat} {u v r : Int32} {f : Nat → Nat → Nat} {μ : Mm}
theorem has_n : ∀ s, s < 32 → ∀ h, h < 5 → ((nI s >>> (nI h &&& 31)) &&& nI 1) = nI (s / 2 ^ h % 2) := by decide +kernel
theorem or_n : ∀ n, n < 5 → ∀ s, s < 2 ^ n → nI s ||| (nI 1 <<< (nI n &&& 31)) = nI (s + 2 ^ n) := by decide +kernel
theorem sub_n : ∀ w, w < 32 → ∀ a, a < 32 → ((nI w &&& (nI a ^^^ -1)) = nI 0 ↔ (w &&& a) = w) := by decide +kernel
theorem r_X7_has (hs : s < 32) (hh : h < 5) : res mX7_has [.int (nI s), .int (nI h)] μ = some (some (.int (bI (decide (s / 2 ^ h % 2 = 1)))), μ) := by
  apply res_of
  show Wp mX7_has 0 [some (.int (nI s)), some (.int (nI h))] [] μ _
  by_cases hc : s / 2 ^ h % 2 = 1
  · rw [decide_eq_true hc]
    have e := has_n s hs h hh
    rw [hc] at e
    simp (maxSteps := 1000000) (decide := true) (disch := (first | assumption | omega | exact Nat.div_mul_le_self _ _ | exact ni_nz (by omega) (by omega) | exact rfl | exact retOk_bI _ | exact retOk_0 | exact retOk_1)) only [eX7_has_0, eX7_has_1, eX7_has_2, eX7_has_3, eX7_has_4, eX7_has_5, eX7_has_6, eX7_has_9, eX7_has_10, eX7_has_13, eX7_has_14, e, WpR_some, Option.toList_some, Option.toList_none, List.cons_append, List.nil_append, List.append_nil, clr_n, clr_i, clr_a, ni_add, ni_mul, ni_sub, ni_lt, ni_le, ni_eq, ni_div, nat_mod_eq, ni_rem, iMax_nn, iMin_nn, iMax_sub, Nat.zero_max, bI_0, bI_1, bI_n0, up2_s, up2_n, up2_k, va_up_self, va_up_ne, ni_l, lN_mul, lN_add, ln_mask, lN_i, ↓reduceIte, if_true, if_false, not_true_eq_false, not_false_eq_true, ite_self, Nat.add_zero, Nat.zero_add, ent_def]
    rfl
  · have hc' : s / 2 ^ h % 2 = 0 := by omega
    rw [decide_eq_false hc]
    have e := has_n s hs h hh
    rw [hc'] at e
    simp (maxSteps := 1000000) (decide := true) (disch := (first | assumption | omega | exact Nat.div_mul_le_self _ _ | exact ni_nz (by omega) (by omega) | exact rfl | exact retOk_bI _ | exact retOk_0 | exact retOk_1)) only [eX7_has_0, eX7_has_1, eX7_has_2, eX7_has_3, eX7_has_4, eX7_has_5, eX7_has_6, eX7_has_9, eX7_has_10, eX7_has_13, eX7_has_14, e, WpR_some, Option.toList_some, Option.toList_none, List.cons_append, List.nil_append, List.append_nil, clr_n, clr_i, clr_a, ni_add, ni_mul, ni_sub, ni_lt, ni_le, ni_eq, ni_div, nat_mod_eq, ni_rem, iMax_nn, iMin_nn, iMax_sub, Nat.zero_max, bI_0, bI_1, bI_n0, up2_s, up2_n, up2_k, va_up_self, va_up_ne, ni_l, lN_mul, lN_add, ln_mask, lN_i, ↓reduceIte, if_true, if_false, not_true_eq_false, not_false_eq_true, ite_self, Nat.add_zero, Nat.zero_add, ent_def]
    rfl
theorem r_X7_costsNowD (hG : GM G) (h4 : m 159 44 = nI (σ 44)) (h5 : m 159 45 = nI (σ 45)) (hR : RwV m 0 σ) (hπ : SitV m id) (hz : m 158 9 = nI w) (hw : w < 32) (hB : Bd σ) (hh : h < σ 45) (hp : pl σ h < σ 44) : res mX7_costsNow [.ref 158, .int (nI 0), .int (nI h)] (G, m, ml) = some (some (.int (nI (if w / 2 ^ h % 2 = 1 then cst σ h (pl σ h) / 2 else cst σ h (pl σ h)))), (G, m, ml)) := by
  have b1 := hB.1
  have b2 := hB.2.1
  have e1 := r_X7_hasOne (ml := ml) (q := 0) hG h4 h5 (hR 40 (by decide)) hπ hB (by omega) hh
  have e1' : tP id σ h = nI (pl σ h) := if_pos hp
  rw [e1'] at e1
  have hcl := cst_le (t := pl σ h) (h := h) hB (by omega) (by omega)
  have e2 := r_X7_costs (ml := ml) (q := 0) (h := h) (t := pl σ h) hG hR hB (by omega) (by omega) (by omega)
  have e3 := fun μ => r_X7_has (s := w) (h := h) (μ := μ) hw (by omega)
  obtain ⟨⟨g0, g1, -⟩, ⟨a0, -⟩, ⟨l0, -⟩⟩ := hG
  apply res_of
  show Wp mX7_costsNow 0 [some (.ref 158), some (.int (nI 0)), some (.int (nI h)), none] [] (G, m, ml) _
  by_cases hc : w / 2 ^ h % 2 = 1
  · rw [decide_eq_true hc] at e3
    rw [if_pos hc]
    simp (maxSteps := 1000000) (decide := true) (disch := (first | assumption | omega | exact Nat.div_mul_le_self _ _ | exact ni_nz (by omega) (by omega) | exact rfl | exact retOk_bI _ | exact retOk_0 | exact retOk_1)) only [eX7_costsNow_0, eX7_costsNow_1, eX7_costsNow_2, eX7_costsNow_3, eX7_costsNow_4, eX7_costsNow_5, eX7_costsNow_8, eX7_costsNow_9, eX7_costsNow_12, eX7_costsNow_13, eX7_costsNow_14, eX7_costsNow_17, eX7_costsNow_18, eX7_costsNow_21, eX7_costsNow_24, eX7_costsNow_25, eX7_costsNow_26, eX7_costsNow_27, eX7_costsNow_30, eX7_costsNow_31, e1, e2, e3, hz, WpR_some, Option.toList_some, Option.toList_none, List.cons_append, List.nil_append, List.append_nil, clr_n, clr_i, clr_a, ni_add, ni_mul, ni_sub, ni_lt, ni_le, ni_eq, ni_div, nat_mod_eq, ni_rem, iMax_nn, iMin_nn, iMax_sub, Nat.zero_max, bI_0, bI_1, bI_n0, up2_s, up2_n, up2_k, va_up_self, va_up_ne, ni_l, lN_mul, lN_add, ln_mask, lN_i, ↓reduceIte, if_true, if_false, not_true_eq_false, not_false_eq_true, ite_self, Nat.add_zero, Nat.zero_add, ent_def]
  · rw [decide_eq_false hc] at e3
    rw [if_neg hc]
    simp (maxSteps := 1000000) (decide := true) (disch := (first | assumption | omega | exact Nat.div_mul_le_self _ _ | exact ni_nz (by omega) (by omega) | exact rfl | exact retOk_bI _ | exact retOk_0 | exact retOk_1)) only [eX7_costsNow_0, eX7_costsNow_1, eX7_costsNow_2, eX7_costsNow_3, eX7_costsNow_4, eX7_costsNow_5, eX7_costsNow_8, eX7_costsNow_9, eX7_costsNow_12, eX7_costsNow_13, eX7_costsNow_14, eX7_costsNow_17, eX7_costsNow_18, eX7_costsNow_21, eX7_costsNow_24, eX7_costsNow_25, eX7_costsNow_26, eX7_costsNow_27, eX7_costsNow_30, eX7_costsNow_31, e1, e2, e3, hz, WpR_some, Option.toList_some, Option.toList_none, List.cons_append, List.nil_append, List.append_nil, clr_n, clr_i, clr_a, ni_add, ni_mul, ni_sub, ni_lt, ni_le, ni_eq, ni_div, nat_mod_eq, ni_rem, iMax_nn, iMin_nn, iMax_sub, Nat.zero_max, bI_0, bI_1, bI_n0, up2_s, up2_n, up2_k, va_up_self, va_up_ne, ni_l, lN_mul, lN_add, ln_mask, lN_i, ↓reduceIte, if_true, if_false, not_true_eq_false, not_false_eq_true, ite_self, Nat.add_zero, Nat.zero_add, ent_def]
theorem r_X7_looks (hG : GM G) (hA : RA m 0 σ k f) (hX : RX m) (hB : Bd σ) (hw : w < 32) : ∃ m', res mX7_looks [.ref 158, .int (nI w)] (G, m, ml) = some (some (.int (nI (kN (hvS σ) (xS σ) (yS σ) w 5))), (G, m', ml)) ∧ (∀ b, b ≠ 158 → m' b = m b) ∧ (∀ j, m' 158 j = m 158 j) := by
  have b1 := hB.1
  have b2 := hB.2.1
  have hG0 := hG
  obtain ⟨⟨g0, g1, -⟩, ⟨a0, -⟩, ⟨l0, -⟩⟩ := hG
  have hA1 : RA (up2 m 158 9 (nI w)) 0 σ k f := RA_fr hA (fun j _ _ => by rw [up2_n (by decide)])
  have x5 := RA_at hA1 (j := 45) (by decide)
  have kend : ∀ n, σ 45 ≤ n → kN (hvS σ) (xS σ) (yS σ) w n = kN (hvS σ) (xS σ) (yS σ) w (σ 45) := by
    intro n hn
    obtain ⟨d, rfl⟩ : ∃ d, n = σ 45 + d := ⟨n - σ 45, by omega⟩
    clear hn
    induction d with
    | zero => rfl
    | succ d ih =>
      have e : ¬ hvS σ (σ 45 + d) = true := by unfold hvS; rw [decide_eq_true_eq]; omega
      rw [← Nat.add_assoc, kN_s, if_neg (fun r => e r.1)]
      exact ih
  refine ⟨up2 (up2 m 158 9 (nI w)) 158 9 (nI 0), ?_, fun b hb => by rw [up2_n hb, up2_n hb], fun j => ?_⟩
  rotate_left
  · by_cases h9 : j = 9
    · rw [h9, up2_s]; exact hX.2.2.1.symm
    · rw [up2_k h9, up2_k h9]
  apply res_of
  show Wp mX7_looks 0 [some (.ref 158), some (.int (nI w)), none, none] [] (G, m, ml) _
  generalize hQ : (fun (r : Option Value) (μ' : Mm) => (r, μ') = (some (.int (nI (kN (hvS σ) (xS σ) (yS σ) w 5))), (G, up2 (up2 m 158 9 (nI w)) 158 9 (nI 0), ml))) = Q
  simp (maxSteps := 1000000) (decide := true) (disch := (first | assumption | omega | exact Nat.div_mul_le_self _ _ | exact ni_nz (by omega) (by omega) | exact rfl | exact retOk_bI _ | exact retOk_0 | exact retOk_1)) only [eX7_looks_0, eX7_looks_1, eX7_looks_2, eX7_looks_3, eX7_looks_4, eX7_looks_7, eX7_looks_8, eX7_looks_10, eX7_looks_11, eX7_looks_14, eX7_looks_16, eX7_looks_17, eX7_looks_20, eX7_looks_21, eX7_looks_22, eX7_looks_23, eX7_looks_24, eX7_looks_27, eX7_looks_29, eX7_looks_32, eX7_looks_33, eX7_looks_34, eX7_looks_35, eX7_looks_38, eX7_looks_39, eX7_looks_42, eX7_looks_43, eX7_looks_44, eX7_looks_45, eX7_looks_46, eX7_looks_49, eX7_looks_50, eX7_looks_53, eX7_looks_54, eX7_looks_55, eX7_looks_56, eX7_looks_59, eX7_looks_62, eX7_looks_63, eX7_looks_64, eX7_looks_67, eX7_looks_68, WpR_some, Option.toList_some, Option.toList_none, List.cons_append, List.nil_append, List.append_nil, clr_n, clr_i, clr_a, ni_add, ni_mul, ni_sub, ni_lt, ni_le, ni_eq, ni_div, nat_mod_eq, ni_rem, iMax_nn, iMin_nn, iMax_sub, Nat.zero_max, bI_0, bI_1, bI_n0, up2_s, up2_n, up2_k, va_up_self, va_up_ne, ni_l, lN_mul, lN_add, ln_mask, lN_i, ↓reduceIte, if_true, if_false, not_true_eq_false, not_false_eq_true, ite_self, Nat.add_zero, Nat.zero_add, ent_def]
  refine wp_for (X := Unit) (fun i _ => [some (.ref 158), some (.int (nI w)), some (.int (nI (kN (hvS σ) (xS σ) (yS σ) w i))), some (.int (nI i))]) (fun i _ μ => μ = (G, up2 m 158 9 (nI w), ml)) (σ 45) ?_ ?_ 0 () _ (Nat.zero_le _) rfl
  · rintro i - μ hi rfl kk
    have hlt : ¬ σ 45 ≤ i := by omega
    have eO := r_X7_hasOne (ml := ml) (q := 0) (h := i) hG0 (RA_at hA1 (j := 44) (by decide)) x5 (hA1.1 40 (by decide)) (π := id) (fun k hk => by rw [up2_n (by decide)]; exact hX.1 k hk) hB (by omega) hi
    have x4 := RA_at hA1 (j := i) (by omega)
    have y9 := hB.2.2.2.2.2.2.2.2.1 i (by omega)
    have e8 := kk () _ rfl
    rw [kN_s] at e8
    rw [eX7_looks_9]
    by_cases hp : pl σ i < σ 44
    · have hh : hvS σ i = true := decide_eq_true ⟨hi, hp⟩
      have eO' : tP id σ i = nI (pl σ i) := if_pos hp
      rw [eO'] at eO
      have hn4 := neg4_ne (show pl σ i < 5 by omega)
      have hcl := cst_le (t := pl σ i) (h := i) hB (by omega) (by omega)
      have eC := r_X7_costsNowD (ml := ml) (h := i) hG0 (RA_at hA1 (j := 44) (by decide)) x5 hA1.1 (fun k hk => by rw [up2_n (by decide)]; exact hX.1 k hk) (show up2 m 158 9 (nI w) 158 9 = nI w by rw [up2_s]) hw hB hi hp
      by_cases hd : w / 2 ^ i % 2 = 1
      · rw [if_pos hd] at eC e8
        by_cases hc : cst σ i (pl σ i) / 2 ≤ σ i
        · have hy : ¬ yS σ i = true := by unfold yS; rw [decide_eq_true_eq]; omega
          rw [if_neg (fun r => hy r.2), Nat.add_zero] at e8
          simp (maxSteps := 1000000) (decide := true) (disch := (first | assumption | omega | exact Nat.div_mul_le_self _ _ | exact ni_nz (by omega) (by omega) | exact rfl | exact retOk_bI _ | exact retOk_0 | exact retOk_1)) only [eX7_looks_0, eX7_looks_1, eX7_looks_2, eX7_looks_3, eX7_looks_4, eX7_looks_7, eX7_looks_8, eX7_looks_10, eX7_looks_11, eX7_looks_14, eX7_looks_16, eX7_looks_17, eX7_looks_20, eX7_looks_21, eX7_looks_22, eX7_looks_23, eX7_looks_24, eX7_looks_27, eX7_looks_29, eX7_looks_32, eX7_looks_33, eX7_looks_34, eX7_looks_35, eX7_looks_38, eX7_looks_39, eX7_looks_42, eX7_looks_43, eX7_looks_44, eX7_looks_45, eX7_looks_46, eX7_looks_49, eX7_looks_50, eX7_looks_53, eX7_looks_54, eX7_looks_55, eX7_looks_56, eX7_looks_59, eX7_looks_62, eX7_looks_63, eX7_looks_64, eX7_looks_67, eX7_looks_68, g1, x5, x4, eO, eC, hn4, hlt, hc, WpR_some, Option.toList_some, Option.toList_none, List.cons_append, List.nil_append, List.append_nil, clr_n, clr_i, clr_a, ni_add, ni_mul, ni_sub, ni_lt, ni_le, ni_eq, ni_div, nat_mod_eq, ni_rem, iMax_nn, iMin_nn, iMax_sub, Nat.zero_max, bI_0, bI_1, bI_n0, up2_s, up2_n, up2_k, va_up_self, va_up_ne, ni_l, lN_mul, lN_add, ln_mask, lN_i, ↓reduceIte, if_true, if_false, not_true_eq_false, not_false_eq_true, ite_self, Nat.add_zero, Nat.zero_add, ent_def]
          exact e8
        · have hy : yS σ i = true := decide_eq_true (by omega)
          rw [if_pos ⟨hh, hy⟩] at e8
          simp (maxSteps := 1000000) (decide := true) (disch := (first | assumption | omega | exact Nat.div_mul_le_self _ _ | exact ni_nz (by omega) (by omega) | exact rfl | exact retOk_bI _ | exact retOk_0 | exact retOk_1)) only [eX7_looks_0, eX7_looks_1, eX7_looks_2, eX7_looks_3, eX7_looks_4, eX7_looks_7, eX7_looks_8, eX7_looks_10, eX7_looks_11, eX7_looks_14, eX7_looks_16, eX7_looks_17, eX7_looks_20, eX7_looks_21, eX7_looks_22, eX7_looks_23, eX7_looks_24, eX7_looks_27, eX7_looks_29, eX7_looks_32, eX7_looks_33, eX7_looks_34, eX7_looks_35, eX7_looks_38, eX7_looks_39, eX7_looks_42, eX7_looks_43, eX7_looks_44, eX7_looks_45, eX7_looks_46, eX7_looks_49, eX7_looks_50, eX7_looks_53, eX7_looks_54, eX7_looks_55, eX7_looks_56, eX7_looks_59, eX7_looks_62, eX7_looks_63, eX7_looks_64, eX7_looks_67, eX7_looks_68, g1, x5, x4, eO, eC, hn4, hlt, hc, WpR_some, Option.toList_some, Option.toList_none, List.cons_append, List.nil_append, List.append_nil, clr_n, clr_i, clr_a, ni_add, ni_mul, ni_sub, ni_lt, ni_le, ni_eq, ni_div, nat_mod_eq, ni_rem, iMax_nn, iMin_nn, iMax_sub, Nat.zero_max, bI_0, bI_1, bI_n0, up2_s, up2_n, up2_k, va_up_self, va_up_ne, ni_l, lN_mul, lN_add, ln_mask, lN_i, ↓reduceIte, if_true, if_false, not_true_eq_false, not_false_eq_true, ite_self, Nat.add_zero, Nat.zero_add, ent_def]
          exact e8
      · rw [if_neg hd] at eC e8
        by_cases hc : cst σ i (pl σ i) ≤ σ i
        · have hy : ¬ xS σ i = true := by unfold xS; rw [decide_eq_true_eq]; omega
          rw [if_neg (fun r => hy r.2), Nat.add_zero] at e8
          simp (maxSteps := 1000000) (decide := true) (disch := (first | assumption | omega | exact Nat.div_mul_le_self _ _ | exact ni_nz (by omega) (by omega) | exact rfl | exact retOk_bI _ | exact retOk_0 | exact retOk_1)) only [eX7_looks_0, eX7_looks_1, eX7_looks_2, eX7_looks_3, eX7_looks_4, eX7_looks_7, eX7_looks_8, eX7_looks_10, eX7_looks_11, eX7_looks_14, eX7_looks_16, eX7_looks_17, eX7_looks_20, eX7_looks_21, eX7_looks_22, eX7_looks_23, eX7_looks_24, eX7_looks_27, eX7_looks_29, eX7_looks_32, eX7_looks_33, eX7_looks_34, eX7_looks_35, eX7_looks_38, eX7_looks_39, eX7_looks_42, eX7_looks_43, eX7_looks_44, eX7_looks_45, eX7_looks_46, eX7_looks_49, eX7_looks_50, eX7_looks_53, eX7_looks_54, eX7_looks_55, eX7_looks_56, eX7_looks_59, eX7_looks_62, eX7_looks_63, eX7_looks_64, eX7_looks_67, eX7_looks_68, g1, x5, x4, eO, eC, hn4, hlt, hc, WpR_some, Option.toList_some, Option.toList_none, List.cons_append, List.nil_append, List.append_nil, clr_n, clr_i, clr_a, ni_add, ni_mul, ni_sub, ni_lt, ni_le, ni_eq, ni_div, nat_mod_eq, ni_rem, iMax_nn, iMin_nn, iMax_sub, Nat.zero_max, bI_0, bI_1, bI_n0, up2_s, up2_n, up2_k, va_up_self, va_up_ne, ni_l, lN_mul, lN_add, ln_mask, lN_i, ↓reduceIte, if_true, if_false, not_true_eq_false, not_false_eq_true, ite_self, Nat.add_zero, Nat.zero_add, ent_def]
          exact e8
        · have hy : xS σ i = true := decide_eq_true (by omega)
          rw [if_pos ⟨hh, hy⟩] at e8
          simp (maxSteps := 1000000) (decide := true) (disch := (first | assumption | omega | exact Nat.div_mul_le_self _ _ | exact ni_nz (by omega) (by omega) | exact rfl | exact retOk_bI _ | exact retOk_0 | exact retOk_1)) only [eX7_looks_0, eX7_looks_1, eX7_looks_2, eX7_looks_3, eX7_looks_4, eX7_looks_7, eX7_looks_8, eX7_looks_10, eX7_looks_11, eX7_looks_14, eX7_looks_16, eX7_looks_17, eX7_looks_20, eX7_looks_21, eX7_looks_22, eX7_looks_23, eX7_looks_24, eX7_looks_27, eX7_looks_29, eX7_looks_32, eX7_looks_33, eX7_looks_34, eX7_looks_35, eX7_looks_38, eX7_looks_39, eX7_looks_42, eX7_looks_43, eX7_looks_44, eX7_looks_45, eX7_looks_46, eX7_looks_49, eX7_looks_50, eX7_looks_53, eX7_looks_54, eX7_looks_55, eX7_looks_56, eX7_looks_59, eX7_looks_62, eX7_looks_63, eX7_looks_64, eX7_looks_67, eX7_looks_68, g1, x5, x4, eO, eC, hn4, hlt, hc, WpR_some, Option.toList_some, Option.toList_none, List.cons_append, List.nil_append, List.append_nil, clr_n, clr_i, clr_a, ni_add, ni_mul, ni_sub, ni_lt, ni_le, ni_eq, ni_div, nat_mod_eq, ni_rem, iMax_nn, iMin_nn, iMax_sub, Nat.zero_max, bI_0, bI_1, bI_n0, up2_s, up2_n, up2_k, va_up_self, va_up_ne, ni_l, lN_mul, lN_add, ln_mask, lN_i, ↓reduceIte, if_true, if_false, not_true_eq_false, not_false_eq_true, ite_self, Nat.add_zero, Nat.zero_add, ent_def]
          exact e8
    · have hh : ¬ hvS σ i = true := by unfold hvS; rw [decide_eq_true_eq]; omega
      have eO' : tP id σ i = -4 := if_neg hp
      rw [eO'] at eO
      rw [if_neg (fun r => hh r.1), Nat.add_zero] at e8
      simp (maxSteps := 1000000) (decide := true) (disch := (first | assumption | omega | exact Nat.div_mul_le_self _ _ | exact ni_nz (by omega) (by omega) | exact rfl | exact retOk_bI _ | exact retOk_0 | exact retOk_1)) only [eX7_looks_0, eX7_looks_1, eX7_looks_2, eX7_looks_3, eX7_looks_4, eX7_looks_7, eX7_looks_8, eX7_looks_10, eX7_looks_11, eX7_looks_14, eX7_looks_16, eX7_looks_17, eX7_looks_20, eX7_looks_21, eX7_looks_22, eX7_looks_23, eX7_looks_24, eX7_looks_27, eX7_looks_29, eX7_looks_32, eX7_looks_33, eX7_looks_34, eX7_looks_35, eX7_looks_38, eX7_looks_39, eX7_looks_42, eX7_looks_43, eX7_looks_44, eX7_looks_45, eX7_looks_46, eX7_looks_49, eX7_looks_50, eX7_looks_53, eX7_looks_54, eX7_looks_55, eX7_looks_56, eX7_looks_59, eX7_looks_62, eX7_looks_63, eX7_looks_64, eX7_looks_67, eX7_looks_68, g1, x5, eO, hlt, WpR_some, Option.toList_some, Option.toList_none, List.cons_append, List.nil_append, List.append_nil, clr_n, clr_i, clr_a, ni_add, ni_mul, ni_sub, ni_lt, ni_le, ni_eq, ni_div, nat_mod_eq, ni_rem, iMax_nn, iMin_nn, iMax_sub, Nat.zero_max, bI_0, bI_1, bI_n0, up2_s, up2_n, up2_k, va_up_self, va_up_ne, ni_l, lN_mul, lN_add, ln_mask, lN_i, ↓reduceIte, if_true, if_false, not_true_eq_false, not_false_eq_true, ite_self, Nat.add_zero, Nat.zero_add, ent_def]
      exact e8
  · rintro - μ rfl
    rw [eX7_looks_9]
    simp (maxSteps := 1000000) (decide := true) (disch := (first | assumption | omega | exact Nat.div_mul_le_self _ _ | exact ni_nz (by omega) (by omega) | exact rfl | exact retOk_bI _ | exact retOk_0 | exact retOk_1)) only [eX7_looks_0, eX7_looks_1, eX7_looks_2, eX7_looks_3, eX7_looks_4, eX7_looks_7, eX7_looks_8, eX7_looks_10, eX7_looks_11, eX7_looks_14, eX7_looks_16, eX7_looks_17, eX7_looks_20, eX7_looks_21, eX7_looks_22, eX7_looks_23, eX7_looks_24, eX7_looks_27, eX7_looks_29, eX7_looks_32, eX7_looks_33, eX7_looks_34, eX7_looks_35, eX7_looks_38, eX7_looks_39, eX7_looks_42, eX7_looks_43, eX7_looks_44, eX7_looks_45, eX7_looks_46, eX7_looks_49, eX7_looks_50, eX7_looks_53, eX7_looks_54, eX7_looks_55, eX7_looks_56, eX7_looks_59, eX7_looks_62, eX7_looks_63, eX7_looks_64, eX7_looks_67, eX7_looks_68, g1, x5, Nat.le_refl, WpR_some, Option.toList_some, Option.toList_none, List.cons_append, List.nil_append, List.append_nil, clr_n, clr_i, clr_a, ni_add, ni_mul, ni_sub, ni_lt, ni_le, ni_eq, ni_div, nat_mod_eq, ni_rem, iMax_nn, iMin_nn, iMax_sub, Nat.zero_max, bI_0, bI_1, bI_n0, up2_s, up2_n, up2_k, va_up_self, va_up_ne, ni_l, lN_mul, lN_add, ln_mask, lN_i, ↓reduceIte, if_true, if_false, not_true_eq_false, not_false_eq_true, ite_self, Nat.add_zero, Nat.zero_add, ent_def]
    rw [← hQ, kend 5 b2]
theorem r_X7_havers (hG : GM G) (hA : RA m 0 σ k f) (hX : RX m) (hB : Bd σ) : res mX7_havers [.ref 158] (G, m, ml) = some (some (.int (nI (hvN (hvS σ) 5))), (G, m, ml)) := by
  have b1 := hB.1
  have b2 := hB.2.1
  have hG0 := hG
  obtain ⟨⟨g0, g1, -⟩, ⟨a0, -⟩, ⟨l0, -⟩⟩ := hG
  have x5 := RA_at hA (j := 45) (by decide)
  have kend : ∀ n, σ 45 ≤ n → hvN (hvS σ) n = hvN (hvS σ) (σ 45) := by
    intro n hn
    obtain ⟨d, rfl⟩ : ∃ d, n = σ 45 + d := ⟨n - σ 45, by omega⟩
    clear hn
    induction d with
    | zero => rfl
    | succ d ih =>
      have e : ¬ hvS σ (σ 45 + d) = true := by unfold hvS; rw [decide_eq_true_eq]; omega
      rw [← Nat.add_assoc, hvN_s, if_neg e]
      exact ih
  apply res_of
  show Wp mX7_havers 0 [some (.ref 158), none, none] [] (G, m, ml) _
  generalize hQ : (fun (r : Option Value) (μ' : Mm) => (r, μ') = (some (.int (nI (hvN (hvS σ) 5))), (G, m, ml))) = Q
  simp (maxSteps := 1000000) (decide := true) (disch := (first | assumption | omega | exact Nat.div_mul_le_self _ _ | exact ni_nz (by omega) (by omega) | exact rfl | exact retOk_bI _ | exact retOk_0 | exact retOk_1)) only [eX7_havers_0, eX7_havers_1, eX7_havers_2, eX7_havers_3, eX7_havers_5, eX7_havers_6, eX7_havers_9, eX7_havers_11, eX7_havers_12, eX7_havers_15, eX7_havers_16, eX7_havers_17, eX7_havers_18, eX7_havers_19, eX7_havers_22, eX7_havers_24, eX7_havers_27, eX7_havers_28, eX7_havers_31, eX7_havers_32, eX7_havers_33, eX7_havers_34, eX7_havers_35, eX7_havers_36, eX7_havers_39, eX7_havers_42, eX7_havers_43, WpR_some, Option.toList_some, Option.toList_none, List.cons_append, List.nil_append, List.append_nil, clr_n, clr_i, clr_a, ni_add, ni_mul, ni_sub, ni_lt, ni_le, ni_eq, ni_div, nat_mod_eq, ni_rem, iMax_nn, iMin_nn, iMax_sub, Nat.zero_max, bI_0, bI_1, bI_n0, up2_s, up2_n, up2_k, va_up_self, va_up_ne, ni_l, lN_mul, lN_add, ln_mask, lN_i, ↓reduceIte, if_true, if_false, not_true_eq_false, not_false_eq_true, ite_self, Nat.add_zero, Nat.zero_add, ent_def]
  refine wp_for (X := Unit) (fun i _ => [some (.ref 158), some (.int (nI (hvN (hvS σ) i))), some (.int (nI i))]) (fun i _ μ => μ = (G, m, ml)) (σ 45) ?_ ?_ 0 () _ (Nat.zero_le _) rfl
  · rintro i - μ hi rfl kk
    have hlt : ¬ σ 45 ≤ i := by omega
    have eO := r_X7_hasOne (ml := ml) (q := 0) (h := i) hG0 (RA_at hA (j := 44) (by decide)) x5 (hA.1 40 (by decide)) hX.1 hB (by omega) hi
    have e8 := kk () _ rfl
    rw [hvN_s] at e8
    rw [eX7_havers_4]
    by_cases hp : pl σ i < σ 44
    · have hh : hvS σ i = true := decide_eq_true ⟨hi, hp⟩
      have eO' : tP id σ i = nI (pl σ i) := if_pos hp
      rw [eO'] at eO
      have hn4 := neg4_ne (show pl σ i < 5 by omega)
      have eo := or_n i (by omega) _ (hvN_lt (hv := hvS σ) i)
      rw [if_pos hh] at e8
      simp (maxSteps := 1000000) (decide := true) (disch := (first | assumption | omega | exact Nat.div_mul_le_self _ _ | exact ni_nz (by omega) (by omega) | exact rfl | exact retOk_bI _ | exact retOk_0 | exact retOk_1)) only [eX7_havers_0, eX7_havers_1, eX7_havers_2, eX7_havers_3, eX7_havers_5, eX7_havers_6, eX7_havers_9, eX7_havers_11, eX7_havers_12, eX7_havers_15, eX7_havers_16, eX7_havers_17, eX7_havers_18, eX7_havers_19, eX7_havers_22, eX7_havers_24, eX7_havers_27, eX7_havers_28, eX7_havers_31, eX7_havers_32, eX7_havers_33, eX7_havers_34, eX7_havers_35, eX7_havers_36, eX7_havers_39, eX7_havers_42, eX7_havers_43, g1, x5, eO, hn4, hlt, eo, WpR_some, Option.toList_some, Option.toList_none, List.cons_append, List.nil_append, List.append_nil, clr_n, clr_i, clr_a, ni_add, ni_mul, ni_sub, ni_lt, ni_le, ni_eq, ni_div, nat_mod_eq, ni_rem, iMax_nn, iMin_nn, iMax_sub, Nat.zero_max, bI_0, bI_1, bI_n0, up2_s, up2_n, up2_k, va_up_self, va_up_ne, ni_l, lN_mul, lN_add, ln_mask, lN_i, ↓reduceIte, if_true, if_false, not_true_eq_false, not_false_eq_true, ite_self, Nat.add_zero, Nat.zero_add, ent_def]
      exact e8
    · have hh : ¬ hvS σ i = true := by unfold hvS; rw [decide_eq_true_eq]; omega
      have eO' : tP id σ i = -4 := if_neg hp
      rw [eO'] at eO
      rw [if_neg hh, Nat.add_zero] at e8
      simp (maxSteps := 1000000) (decide := true) (disch := (first | assumption | omega | exact Nat.div_mul_le_self _ _ | exact ni_nz (by omega) (by omega) | exact rfl | exact retOk_bI _ | exact retOk_0 | exact retOk_1)) only [eX7_havers_0, eX7_havers_1, eX7_havers_2, eX7_havers_3, eX7_havers_5, eX7_havers_6, eX7_havers_9, eX7_havers_11, eX7_havers_12, eX7_havers_15, eX7_havers_16, eX7_havers_17, eX7_havers_18, eX7_havers_19, eX7_havers_22, eX7_havers_24, eX7_havers_27, eX7_havers_28, eX7_havers_31, eX7_havers_32, eX7_havers_33, eX7_havers_34, eX7_havers_35, eX7_havers_36, eX7_havers_39, eX7_havers_42, eX7_havers_43, g1, x5, eO, hlt, or_0, WpR_some, Option.toList_some, Option.toList_none, List.cons_append, List.nil_append, List.append_nil, clr_n, clr_i, clr_a, ni_add, ni_mul, ni_sub, ni_lt, ni_le, ni_eq, ni_div, nat_mod_eq, ni_rem, iMax_nn, iMin_nn, iMax_sub, Nat.zero_max, bI_0, bI_1, bI_n0, up2_s, up2_n, up2_k, va_up_self, va_up_ne, ni_l, lN_mul, lN_add, ln_mask, lN_i, ↓reduceIte, if_true, if_false, not_true_eq_false, not_false_eq_true, ite_self, Nat.add_zero, Nat.zero_add, ent_def]
      exact e8
  · rintro - μ rfl
    rw [eX7_havers_4]
    simp (maxSteps := 1000000) (decide := true) (disch := (first | assumption | omega | exact Nat.div_mul_le_self _ _ | exact ni_nz (by omega) (by omega) | exact rfl | exact retOk_bI _ | exact retOk_0 | exact retOk_1)) only [eX7_havers_0, eX7_havers_1, eX7_havers_2, eX7_havers_3, eX7_havers_5, eX7_havers_6, eX7_havers_9, eX7_havers_11, eX7_havers_12, eX7_havers_15, eX7_havers_16, eX7_havers_17, eX7_havers_18, eX7_havers_19, eX7_havers_22, eX7_havers_24, eX7_havers_27, eX7_havers_28, eX7_havers_31, eX7_havers_32, eX7_havers_33, eX7_havers_34, eX7_havers_35, eX7_havers_36, eX7_havers_39, eX7_havers_42, eX7_havers_43, g1, x5, Nat.le_refl, WpR_some, Option.toList_some, Option.toList_none, List.cons_append, List.nil_append, List.append_nil, clr_n, clr_i, clr_a, ni_add, ni_mul, ni_sub, ni_lt, ni_le, ni_eq, ni_div, nat_mod_eq, ni_rem, iMax_nn, iMin_nn, iMax_sub, Nat.zero_max, bI_0, bI_1, bI_n0, up2_s, up2_n, up2_k, va_up_self, va_up_ne, ni_l, lN_mul, lN_add, ln_mask, lN_i, ↓reduceIte, if_true, if_false, not_true_eq_false, not_false_eq_true, ite_self, Nat.add_zero, Nat.zero_add, ent_def]
    rw [← hQ, kend 5 b2]
theorem x_doze_bad (hG : GM G) (h : (rg u 0 5 && rg v 0 10 && rg r 0 1) = false) : res mX7_doze [.ref 158, .int u, .int v, .int r] (G, m, ml) = some (some (.int (-1)), (G, m, ml)) := by
  apply res_of
  show Wp mX7_doze 0 [some (.ref 158), some (.int u), some (.int v), some (.int r), none, none, none, none, none, none] [] (G, m, ml) _
  cases h1 : rg u 0 5
  · simp (maxSteps := 1000000) (decide := true) (disch := (first | assumption | omega | exact Nat.div_mul_le_self _ _ | exact ni_nz (by omega) (by omega) | exact rfl | exact retOk_bI _ | exact retOk_0 | exact retOk_1)) only [eX7_doze_0, eX7_doze_1, eX7_doze_2, eX7_doze_3, eX7_doze_6, eX7_doze_9, eX7_doze_12, eX7_doze_13, eX7_doze_14, eX7_doze_15, eX7_doze_18, eX7_doze_21, eX7_doze_24, eX7_doze_25, eX7_doze_26, eX7_doze_27, eX7_doze_28, eX7_doze_31, eX7_doze_34, eX7_doze_35, r_in, h1, WpR_some, Option.toList_some, Option.toList_none, List.cons_append, List.nil_append, List.append_nil, clr_n, clr_i, clr_a, ni_add, ni_mul, ni_sub, ni_lt, ni_le, ni_eq, ni_div, nat_mod_eq, ni_rem, iMax_nn, iMin_nn, iMax_sub, Nat.zero_max, bI_0, bI_1, bI_n0, up2_s, up2_n, up2_k, va_up_self, va_up_ne, ni_l, lN_mul, lN_add, ln_mask, lN_i, ↓reduceIte, if_true, if_false, not_true_eq_false, not_false_eq_true, ite_self, Nat.add_zero, Nat.zero_add, ent_def]
  · have i1 := fun μ => r_in (v := u) (lo := 0) (hi := 5) (μ := μ) (by decide) (by decide)
    rw [h1] at i1
    cases h2 : rg v 0 10
    · simp (maxSteps := 1000000) (decide := true) (disch := (first | assumption | omega | exact Nat.div_mul_le_self _ _ | exact ni_nz (by omega) (by omega) | exact rfl | exact retOk_bI _ | exact retOk_0 | exact retOk_1)) only [eX7_doze_0, eX7_doze_1, eX7_doze_2, eX7_doze_3, eX7_doze_6, eX7_doze_9, eX7_doze_12, eX7_doze_13, eX7_doze_14, eX7_doze_15, eX7_doze_18, eX7_doze_21, eX7_doze_24, eX7_doze_25, eX7_doze_26, eX7_doze_27, eX7_doze_28, eX7_doze_31, eX7_doze_34, eX7_doze_35, i1, r_in, h2, WpR_some, Option.toList_some, Option.toList_none, List.cons_append, List.nil_append, List.append_nil, clr_n, clr_i, clr_a, ni_add, ni_mul, ni_sub, ni_lt, ni_le, ni_eq, ni_div, nat_mod_eq, ni_rem, iMax_nn, iMin_nn, iMax_sub, Nat.zero_max, bI_0, bI_1, bI_n0, up2_s, up2_n, up2_k, va_up_self, va_up_ne, ni_l, lN_mul, lN_add, ln_mask, lN_i, ↓reduceIte, if_true, if_false, not_true_eq_false, not_false_eq_true, ite_self, Nat.add_zero, Nat.zero_add, ent_def]
    · have i2 := fun μ => r_in (v := v) (lo := 0) (hi := 10) (μ := μ) (by decide) (by decide)
      rw [h2] at i2
      rw [h1, h2, Bool.true_and, Bool.true_and] at h
      simp (maxSteps := 1000000) (decide := true) (disch := (first | assumption | omega | exact Nat.div_mul_le_self _ _ | exact ni_nz (by omega) (by omega) | exact rfl | exact retOk_bI _ | exact retOk_0 | exact retOk_1)) only [eX7_doze_0, eX7_doze_1, eX7_doze_2, eX7_doze_3, eX7_doze_6, eX7_doze_9, eX7_doze_12, eX7_doze_13, eX7_doze_14, eX7_doze_15, eX7_doze_18, eX7_doze_21, eX7_doze_24, eX7_doze_25, eX7_doze_26, eX7_doze_27, eX7_doze_28, eX7_doze_31, eX7_doze_34, eX7_doze_35, i1, i2, r_in, h, WpR_some, Option.toList_some, Option.toList_none, List.cons_append, List.nil_append, List.append_nil, clr_n, clr_i, clr_a, ni_add, ni_mul, ni_sub, ni_lt, ni_le, ni_eq, ni_div, nat_mod_eq, ni_rem, iMax_nn, iMin_nn, iMax_sub, Nat.zero_max, bI_0, bI_1, bI_n0, up2_s, up2_n, up2_k, va_up_self, va_up_ne, ni_l, lN_mul, lN_add, ln_mask, lN_i, ↓reduceIte, if_true, if_false, not_true_eq_false, not_false_eq_true, ite_self, Nat.add_zero, Nat.zero_add, ent_def]
/-- the reference's sums, as they grow -/
def rsA (σ : Nat → Nat) (c x : Nat) (n : Nat) : Nat := sumN (fun w => if (w &&& hvN (hvS σ) 5) = w then (if x ≤ kN (hvS σ) (xS σ) (yS σ) w 5 then 1 else 0) * wN (hvS σ) c (10 - c) w 5 else 0) n
def rsB (σ : Nat → Nat) (c : Nat) (n : Nat) : Nat := sumN (fun w => if (w &&& hvN (hvS σ) 5) = w then 1 * wN (hvS σ) c (10 - c) w 5 else 0) n
theorem rsA_e (hc : c ≤ 10) : rsA σ c x (hvN (hvS σ) 5 + 1) = dzA σ c x := by
  unfold rsA dzA
  rw [Sg_up (φ := fun j => if x ≤ j then 1 else 0), Sg_Cl (by omega) 5 (by omega)]
theorem rsB_e (hc : c ≤ 10) : rsB σ c (hvN (hvS σ) 5 + 1) = dzB σ := by
  unfold rsB dzB
  rw [Sg_up (x := xS σ) (y := yS σ) (φ := fun _ => 1), Sg_Cl (by omega) 5 (by omega), Cl_1 (by omega) 5 (by omega)]
theorem x_doze (hG : GM G) (hA : RA m 0 σ k f) (hX : RX m) (hB : Bd σ) (hx : x ≤ 5) (hc : c ≤ 10) (hy : y ≤ 1) : ∃ m', res mX7_doze [.ref 158, .int (nI x), .int (nI c), .int (nI y)] (G, m, ml) = some (some (.int (dzS σ x c (nI y))), (G, m', ml)) ∧ (∀ b j, m' b j = m b j) := by
  have i1 := fun μ => r_inT (x := x) (lo := 0) (hi := 5) (μ := μ) (by omega) hx (by decide)
  have i2 := fun μ => r_inT (x := c) (lo := 0) (hi := 10) (μ := μ) (by omega) hc (by decide)
  have i3 := fun μ => r_inT (x := y) (lo := 0) (hi := 1) (μ := μ) (by omega) hy (by decide)
  have e1 := r_X7_havers (ml := ml) hG hA hX hB
  have hAl := hvN_lt (hv := hvS σ) 5
  have hall : hvN (hvS σ) 5 < 32 := hAl
  have hdA := dzA_le (σ := σ) (x := x) hc
  have hdB := dzB_le (σ := σ)
  have hG0 := hG
  obtain ⟨⟨g0, g1, -⟩, ⟨a0, -⟩, ⟨l0, -⟩⟩ := hG
  have key : Wp mX7_doze 0 (ent [.ref 158, .int (nI x), .int (nI c), .int (nI y)] 10) [] (G, m, ml) (fun r μ' => ∃ m', r = some (.int (dzS σ x c (nI y))) ∧ μ' = (G, m', ml) ∧ (∀ b j, m' b j = m b j)) := by
    show Wp mX7_doze 0 [some (.ref 158), some (.int (nI x)), some (.int (nI c)), some (.int (nI y)), none, none, none, none, none, none] [] (G, m, ml) _
    generalize hQ : (fun (r : Option Value) (μ' : Mm) => ∃ m', r = some (.int (dzS σ x c (nI y))) ∧ μ' = (G, m', ml) ∧ (∀ b j, m' b j = m b j)) = Q
    simp (maxSteps := 1000000) (decide := true) (disch := (first | assumption | omega | exact Nat.div_mul_le_self _ _ | exact ni_nz (by omega) (by omega) | exact rfl | exact retOk_bI _ | exact retOk_0 | exact retOk_1)) only [eX7_doze_0, eX7_doze_1, eX7_doze_2, eX7_doze_3, eX7_doze_6, eX7_doze_9, eX7_doze_12, eX7_doze_13, eX7_doze_14, eX7_doze_15, eX7_doze_18, eX7_doze_21, eX7_doze_24, eX7_doze_25, eX7_doze_26, eX7_doze_27, eX7_doze_28, eX7_doze_31, eX7_doze_34, eX7_doze_35, eX7_doze_36, eX7_doze_37, eX7_doze_40, eX7_doze_42, eX7_doze_43, eX7_doze_45, eX7_doze_46, eX7_doze_48, eX7_doze_49, i1, i2, i3, e1, WpR_some, Option.toList_some, Option.toList_none, List.cons_append, List.nil_append, List.append_nil, clr_n, clr_i, clr_a, ni_add, ni_mul, ni_sub, ni_lt, ni_le, ni_eq, ni_div, nat_mod_eq, ni_rem, iMax_nn, iMin_nn, iMax_sub, Nat.zero_max, bI_0, bI_1, bI_n0, up2_s, up2_n, up2_k, va_up_self, va_up_ne, ni_l, lN_mul, lN_add, ln_mask, lN_i, ↓reduceIte, if_true, if_false, not_true_eq_false, not_false_eq_true, ite_self, Nat.add_zero, Nat.zero_add, ent_def]
    refine wp_for (X := Option Value × Option Value) (fun i z => [some (.ref 158), some (.int (nI x)), some (.int (nI c)), some (.int (nI y)), some (.int (nI (hvN (hvS σ) 5))), some (.int (nI (rsA σ c x i))), some (.int (nI (rsB σ c i))), some (.int (nI i)), z.1, z.2]) (fun i z μ => ∃ m2, μ = (G, m2, ml) ∧ (∀ b j, m2 b j = m b j)) (hvN (hvS σ) 5 + 1) ?_ ?_ 0 (none, none) _ (Nat.zero_le _) ⟨m, rfl, fun _ _ => rfl⟩
    · rintro i ⟨z1, z2⟩ μ hi ⟨m2, rfl, F2⟩ kk
      have hm2 : m2 = m := funext fun b => funext fun j => F2 b j
      subst hm2
      have hlt : ¬ hvN (hvS σ) 5 < i := by omega
      have es := sub_n i (by omega) (hvN (hvS σ) 5) hall
      have eAs : rsA σ c x (i + 1) = rsA σ c x i + if (i &&& hvN (hvS σ) 5) = i then (if x ≤ kN (hvS σ) (xS σ) (yS σ) i 5 then 1 else 0) * wN (hvS σ) c (10 - c) i 5 else 0 := rfl
      have eBs : rsB σ c (i + 1) = rsB σ c i + if (i &&& hvN (hvS σ) 5) = i then 1 * wN (hvS σ) c (10 - c) i 5 else 0 := rfl
      rw [eX7_doze_51]
      by_cases hs : (i &&& hvN (hvS σ) 5) = i
      · have hs' : (nI i &&& (nI (hvN (hvS σ) 5) ^^^ -1)) = nI 0 := es.mpr hs
        rw [if_pos hs] at eAs eBs
        rw [Nat.one_mul] at eBs
        simp (maxSteps := 1000000) (decide := true) (disch := (first | assumption | omega | exact Nat.div_mul_le_self _ _ | exact ni_nz (by omega) (by omega) | exact rfl | exact retOk_bI _ | exact retOk_0 | exact retOk_1)) only [eX7_doze_53, eX7_doze_55, eX7_doze_58, eX7_doze_60, eX7_doze_62, eX7_doze_63, eX7_doze_64, eX7_doze_65, eX7_doze_68, eX7_doze_69, eX7_doze_71, eX7_doze_72, hlt, hs', WpR_some, Option.toList_some, Option.toList_none, List.cons_append, List.nil_append, List.append_nil, clr_n, clr_i, clr_a, ni_add, ni_mul, ni_sub, ni_lt, ni_le, ni_eq, ni_div, nat_mod_eq, ni_rem, iMax_nn, iMin_nn, iMax_sub, Nat.zero_max, bI_0, bI_1, bI_n0, up2_s, up2_n, up2_k, va_up_self, va_up_ne, ni_l, lN_mul, lN_add, ln_mask, lN_i, ↓reduceIte, if_true, if_false, not_true_eq_false, not_false_eq_true, ite_self, Nat.add_zero, Nat.zero_add, ent_def]
        refine wp_for (X := Unit) (fun g _ => [some (.ref 158), some (.int (nI x)), some (.int (nI c)), some (.int (nI y)), some (.int (nI (hvN (hvS σ) 5))), some (.int (nI (rsA σ c x i))), some (.int (nI (rsB σ c i))), some (.int (nI i)), some (.int (nI (wN (hvS σ) c (10 - c) i g))), some (.int (nI g))]) (fun g _ μ => μ = (G, m2, ml)) 5 ?_ ?_ 0 () _ (Nat.zero_le _) rfl
        · rintro g - μ hg rfl kk2
          have hlt2 : ¬ 5 ≤ g := by omega
          have h1 := fun μ => r_X7_has (s := hvN (hvS σ) 5) (h := g) (μ := μ) hall hg
          have h2 := fun μ => r_X7_has (s := i) (h := g) (μ := μ) (by omega) hg
          have e8 := kk2 () _ rfl
          rw [wN_s] at e8
          rw [eX7_doze_74]
          by_cases hh : hvS σ g = true
          · have hb : hvN (hvS σ) 5 / 2 ^ g % 2 = 1 := by rw [hv_bit hg]; exact hh
            rw [decide_eq_true hb] at h1
            rw [if_pos hh] at e8
            by_cases hd : i / 2 ^ g % 2 = 1
            · rw [decide_eq_true hd] at h2
              rw [if_pos hd] at e8
              simp (maxSteps := 1000000) (decide := true) (disch := (first | assumption | omega | exact Nat.div_mul_le_self _ _ | exact ni_nz (by omega) (by omega) | exact rfl | exact retOk_bI _ | exact retOk_0 | exact retOk_1)) only [eX7_doze_76, eX7_doze_77, eX7_doze_80, eX7_doze_82, eX7_doze_84, eX7_doze_86, eX7_doze_89, eX7_doze_92, eX7_doze_93, eX7_doze_96, eX7_doze_98, eX7_doze_100, eX7_doze_103, eX7_doze_106, eX7_doze_107, eX7_doze_110, eX7_doze_112, eX7_doze_113, eX7_doze_114, eX7_doze_115, eX7_doze_117, eX7_doze_120, h1, h2, hlt2, WpR_some, Option.toList_some, Option.toList_none, List.cons_append, List.nil_append, List.append_nil, clr_n, clr_i, clr_a, ni_add, ni_mul, ni_sub, ni_lt, ni_le, ni_eq, ni_div, nat_mod_eq, ni_rem, iMax_nn, iMin_nn, iMax_sub, Nat.zero_max, bI_0, bI_1, bI_n0, up2_s, up2_n, up2_k, va_up_self, va_up_ne, ni_l, lN_mul, lN_add, ln_mask, lN_i, ↓reduceIte, if_true, if_false, not_true_eq_false, not_false_eq_true, ite_self, Nat.add_zero, Nat.zero_add, ent_def]
              exact e8
            · rw [decide_eq_false hd] at h2
              rw [if_neg hd] at e8
              simp (maxSteps := 1000000) (decide := true) (disch := (first | assumption | omega | exact Nat.div_mul_le_self _ _ | exact ni_nz (by omega) (by omega) | exact rfl | exact retOk_bI _ | exact retOk_0 | exact retOk_1)) only [eX7_doze_76, eX7_doze_77, eX7_doze_80, eX7_doze_82, eX7_doze_84, eX7_doze_86, eX7_doze_89, eX7_doze_92, eX7_doze_93, eX7_doze_96, eX7_doze_98, eX7_doze_100, eX7_doze_103, eX7_doze_106, eX7_doze_107, eX7_doze_110, eX7_doze_112, eX7_doze_113, eX7_doze_114, eX7_doze_115, eX7_doze_117, eX7_doze_120, h1, h2, hlt2, WpR_some, Option.toList_some, Option.toList_none, List.cons_append, List.nil_append, List.append_nil, clr_n, clr_i, clr_a, ni_add, ni_mul, ni_sub, ni_lt, ni_le, ni_eq, ni_div, nat_mod_eq, ni_rem, iMax_nn, iMin_nn, iMax_sub, Nat.zero_max, bI_0, bI_1, bI_n0, up2_s, up2_n, up2_k, va_up_self, va_up_ne, ni_l, lN_mul, lN_add, ln_mask, lN_i, ↓reduceIte, if_true, if_false, not_true_eq_false, not_false_eq_true, ite_self, Nat.add_zero, Nat.zero_add, ent_def]
              exact e8
          · have hb : ¬ hvN (hvS σ) 5 / 2 ^ g % 2 = 1 := by rw [hv_bit hg]; exact hh
            rw [decide_eq_false hb] at h1
            rw [if_neg hh, Nat.mul_one] at e8
            simp (maxSteps := 1000000) (decide := true) (disch := (first | assumption | omega | exact Nat.div_mul_le_self _ _ | exact ni_nz (by omega) (by omega) | exact rfl | exact retOk_bI _ | exact retOk_0 | exact retOk_1)) only [eX7_doze_76, eX7_doze_77, eX7_doze_80, eX7_doze_82, eX7_doze_84, eX7_doze_86, eX7_doze_89, eX7_doze_92, eX7_doze_93, eX7_doze_96, eX7_doze_98, eX7_doze_100, eX7_doze_103, eX7_doze_106, eX7_doze_107, eX7_doze_110, eX7_doze_112, eX7_doze_113, eX7_doze_114, eX7_doze_115, eX7_doze_117, eX7_doze_120, h1, hlt2, Nat.mul_one, WpR_some, Option.toList_some, Option.toList_none, List.cons_append, List.nil_append, List.append_nil, clr_n, clr_i, clr_a, ni_add, ni_mul, ni_sub, ni_lt, ni_le, ni_eq, ni_div, nat_mod_eq, ni_rem, iMax_nn, iMin_nn, iMax_sub, Nat.zero_max, bI_0, bI_1, bI_n0, up2_s, up2_n, up2_k, va_up_self, va_up_ne, ni_l, lN_mul, lN_add, ln_mask, lN_i, ↓reduceIte, if_true, if_false, not_true_eq_false, not_false_eq_true, ite_self, Nat.add_zero, Nat.zero_add, ent_def]
            exact e8
        · rintro - μ rfl
          have hkl := kN_le (hv := hvS σ) (x := xS σ) (y := yS σ) (w := i) 5
          obtain ⟨m3, e3, F3, F3'⟩ := r_X7_looks (ml := ml) (w := i) hG0 hA hX hB (by omega)
          have F4 : ∀ b j, m3 b j = m2 b j := fun b j => by
            by_cases hb : b = 158
            · rw [hb]; exact F3' j
            · rw [F3 b hb]
          have e8 := fun z1 z2 => kk (z1, z2) _ ⟨m3, rfl, F4⟩
          rw [eX7_doze_74]
          by_cases hk : x ≤ kN (hvS σ) (xS σ) (yS σ) i 5
          · rw [if_pos hk, Nat.one_mul] at eAs
            have hk' : ¬ kN (hvS σ) (xS σ) (yS σ) i 5 < x := by omega
            rw [eAs, eBs] at e8
            simp (maxSteps := 1000000) (decide := true) (disch := (first | assumption | omega | exact Nat.div_mul_le_self _ _ | exact ni_nz (by omega) (by omega) | exact rfl | exact retOk_bI _ | exact retOk_0 | exact retOk_1)) only [eX7_doze_76, eX7_doze_77, eX7_doze_80, eX7_doze_82, eX7_doze_84, eX7_doze_86, eX7_doze_89, eX7_doze_92, eX7_doze_93, eX7_doze_96, eX7_doze_98, eX7_doze_100, eX7_doze_103, eX7_doze_106, eX7_doze_107, eX7_doze_110, eX7_doze_112, eX7_doze_113, eX7_doze_114, eX7_doze_115, eX7_doze_117, eX7_doze_120, eX7_doze_123, eX7_doze_125, eX7_doze_126, eX7_doze_128, eX7_doze_131, eX7_doze_132, eX7_doze_135, eX7_doze_137, eX7_doze_140, eX7_doze_141, eX7_doze_142, eX7_doze_144, eX7_doze_146, eX7_doze_148, eX7_doze_149, eX7_doze_151, eX7_doze_154, e3, Nat.le_refl, hk', WpR_some, Option.toList_some, Option.toList_none, List.cons_append, List.nil_append, List.append_nil, clr_n, clr_i, clr_a, ni_add, ni_mul, ni_sub, ni_lt, ni_le, ni_eq, ni_div, nat_mod_eq, ni_rem, iMax_nn, iMin_nn, iMax_sub, Nat.zero_max, bI_0, bI_1, bI_n0, up2_s, up2_n, up2_k, va_up_self, va_up_ne, ni_l, lN_mul, lN_add, ln_mask, lN_i, ↓reduceIte, if_true, if_false, not_true_eq_false, not_false_eq_true, ite_self, Nat.add_zero, Nat.zero_add, ent_def]
            exact e8 _ _
          · rw [if_neg hk, Nat.zero_mul, Nat.add_zero] at eAs
            have hk' : kN (hvS σ) (xS σ) (yS σ) i 5 < x := by omega
            rw [eAs, eBs] at e8
            simp (maxSteps := 1000000) (decide := true) (disch := (first | assumption | omega | exact Nat.div_mul_le_self _ _ | exact ni_nz (by omega) (by omega) | exact rfl | exact retOk_bI _ | exact retOk_0 | exact retOk_1)) only [eX7_doze_76, eX7_doze_77, eX7_doze_80, eX7_doze_82, eX7_doze_84, eX7_doze_86, eX7_doze_89, eX7_doze_92, eX7_doze_93, eX7_doze_96, eX7_doze_98, eX7_doze_100, eX7_doze_103, eX7_doze_106, eX7_doze_107, eX7_doze_110, eX7_doze_112, eX7_doze_113, eX7_doze_114, eX7_doze_115, eX7_doze_117, eX7_doze_120, eX7_doze_123, eX7_doze_125, eX7_doze_126, eX7_doze_128, eX7_doze_131, eX7_doze_132, eX7_doze_135, eX7_doze_137, eX7_doze_140, eX7_doze_141, eX7_doze_142, eX7_doze_144, eX7_doze_146, eX7_doze_148, eX7_doze_149, eX7_doze_151, eX7_doze_154, e3, Nat.le_refl, hk', WpR_some, Option.toList_some, Option.toList_none, List.cons_append, List.nil_append, List.append_nil, clr_n, clr_i, clr_a, ni_add, ni_mul, ni_sub, ni_lt, ni_le, ni_eq, ni_div, nat_mod_eq, ni_rem, iMax_nn, iMin_nn, iMax_sub, Nat.zero_max, bI_0, bI_1, bI_n0, up2_s, up2_n, up2_k, va_up_self, va_up_ne, ni_l, lN_mul, lN_add, ln_mask, lN_i, ↓reduceIte, if_true, if_false, not_true_eq_false, not_false_eq_true, ite_self, Nat.add_zero, Nat.zero_add, ent_def]
            exact e8 _ _
      · have hs' : ¬ (nI i &&& (nI (hvN (hvS σ) 5) ^^^ -1)) = nI 0 := fun q => hs (es.mp q)
        rw [if_neg hs, Nat.add_zero] at eAs eBs
        have e8 := kk (z1, z2) _ ⟨m2, rfl, fun _ _ => rfl⟩
        rw [eAs, eBs] at e8
        simp (maxSteps := 1000000) (decide := true) (disch := (first | assumption | omega | exact Nat.div_mul_le_self _ _ | exact ni_nz (by omega) (by omega) | exact rfl | exact retOk_bI _ | exact retOk_0 | exact retOk_1)) only [eX7_doze_53, eX7_doze_55, eX7_doze_58, eX7_doze_60, eX7_doze_62, eX7_doze_63, eX7_doze_64, eX7_doze_65, eX7_doze_68, eX7_doze_69, eX7_doze_71, eX7_doze_72, eX7_doze_76, eX7_doze_77, eX7_doze_80, eX7_doze_82, eX7_doze_84, eX7_doze_86, eX7_doze_89, eX7_doze_92, eX7_doze_93, eX7_doze_96, eX7_doze_98, eX7_doze_100, eX7_doze_103, eX7_doze_106, eX7_doze_107, eX7_doze_110, eX7_doze_112, eX7_doze_113, eX7_doze_114, eX7_doze_115, eX7_doze_117, eX7_doze_120, eX7_doze_123, eX7_doze_125, eX7_doze_126, eX7_doze_128, eX7_doze_131, eX7_doze_132, eX7_doze_135, eX7_doze_137, eX7_doze_140, eX7_doze_141, eX7_doze_142, eX7_doze_144, eX7_doze_146, eX7_doze_148, eX7_doze_149, eX7_doze_151, eX7_doze_154, hlt, hs', WpR_some, Option.toList_some, Option.toList_none, List.cons_append, List.nil_append, List.append_nil, clr_n, clr_i, clr_a, ni_add, ni_mul, ni_sub, ni_lt, ni_le, ni_eq, ni_div, nat_mod_eq, ni_rem, iMax_nn, iMin_nn, iMax_sub, Nat.zero_max, bI_0, bI_1, bI_n0, up2_s, up2_n, up2_k, va_up_self, va_up_ne, ni_l, lN_mul, lN_add, ln_mask, lN_i, ↓reduceIte, if_true, if_false, not_true_eq_false, not_false_eq_true, ite_self, Nat.add_zero, Nat.zero_add, ent_def]
        exact e8
    · rintro ⟨z1, z2⟩ μ ⟨m2, rfl, F2⟩
      rw [rsA_e hc, rsB_e hc]
      have hlt : hvN (hvS σ) 5 < hvN (hvS σ) 5 + 1 := by omega
      have loop : ∀ yy xx, xx ≤ 600000 → yy ≤ 600000 → Nat.gcd xx yy = Nat.gcd (dzB σ) (dzA σ c x) → ∀ z, Wp mX7_doze 165 ([some (.ref 158), some (.int (nI x)), some (.int (nI c)), some (.int (nI y)), some (.int (nI (hvN (hvS σ) 5))), some (.int (nI (dzA σ c x))), some (.int (nI (dzB σ))), some (.int (nI xx)), some (.int (nI yy)), z]) [] (G, m2, ml) Q := by
        intro yy
        induction yy using Nat.strongRecOn with
        | ind yy ih =>
          intro xx hxx hyy hg z
          rw [eX7_doze_165]
          by_cases h0 : yy = 0
          · subst h0
            rw [Nat.gcd_zero_right] at hg
            have hg0 : 0 < Nat.gcd (dzB σ) (dzA σ c x) := Nat.gcd_pos_of_pos_left _ (by omega)
            have hx0 : 0 < xx := by omega
            rcases (show y = 0 ∨ y = 1 by omega) with rfl | rfl
            · have f1 : Q (some (.int (nI (dzA σ c x / xx)))) (G, m2, ml) := by rw [← hQ, hg]; exact ⟨m2, rfl, rfl, F2⟩
              simp (maxSteps := 1000000) (decide := true) (disch := (first | assumption | omega | exact Nat.div_mul_le_self _ _ | exact ni_nz (by omega) (by omega) | exact rfl | exact retOk_bI _ | exact retOk_0 | exact retOk_1)) only [eX7_doze_167, eX7_doze_170, eX7_doze_172, eX7_doze_174, eX7_doze_175, eX7_doze_177, eX7_doze_179, eX7_doze_181, eX7_doze_183, eX7_doze_185, eX7_doze_188, eX7_doze_189, eX7_doze_192, eX7_doze_194, eX7_doze_196, eX7_doze_197, eX7_doze_200, eX7_doze_202, eX7_doze_204, eX7_doze_205, WpR_some, Option.toList_some, Option.toList_none, List.cons_append, List.nil_append, List.append_nil, clr_n, clr_i, clr_a, ni_add, ni_mul, ni_sub, ni_lt, ni_le, ni_eq, ni_div, nat_mod_eq, ni_rem, iMax_nn, iMin_nn, iMax_sub, Nat.zero_max, bI_0, bI_1, bI_n0, up2_s, up2_n, up2_k, va_up_self, va_up_ne, ni_l, lN_mul, lN_add, ln_mask, lN_i, ↓reduceIte, if_true, if_false, not_true_eq_false, not_false_eq_true, ite_self, Nat.add_zero, Nat.zero_add, ent_def]
              exact f1
            · have f1 : Q (some (.int (nI (dzB σ / xx)))) (G, m2, ml) := by rw [← hQ, hg]; exact ⟨m2, rfl, rfl, F2⟩
              simp (maxSteps := 1000000) (decide := true) (disch := (first | assumption | omega | exact Nat.div_mul_le_self _ _ | exact ni_nz (by omega) (by omega) | exact rfl | exact retOk_bI _ | exact retOk_0 | exact retOk_1)) only [eX7_doze_167, eX7_doze_170, eX7_doze_172, eX7_doze_174, eX7_doze_175, eX7_doze_177, eX7_doze_179, eX7_doze_181, eX7_doze_183, eX7_doze_185, eX7_doze_188, eX7_doze_189, eX7_doze_192, eX7_doze_194, eX7_doze_196, eX7_doze_197, eX7_doze_200, eX7_doze_202, eX7_doze_204, eX7_doze_205, WpR_some, Option.toList_some, Option.toList_none, List.cons_append, List.nil_append, List.append_nil, clr_n, clr_i, clr_a, ni_add, ni_mul, ni_sub, ni_lt, ni_le, ni_eq, ni_div, nat_mod_eq, ni_rem, iMax_nn, iMin_nn, iMax_sub, Nat.zero_max, bI_0, bI_1, bI_n0, up2_s, up2_n, up2_k, va_up_self, va_up_ne, ni_l, lN_mul, lN_add, ln_mask, lN_i, ↓reduceIte, if_true, if_false, not_true_eq_false, not_false_eq_true, ite_self, Nat.add_zero, Nat.zero_add, ent_def]
              exact f1
          · have hpos : 0 < yy := by omega
            have hm : xx % yy < yy := Nat.mod_lt _ hpos
            have f1 := ih (xx % yy) hm yy hyy (by omega) (by rw [← hg, Nat.gcd_comm xx yy, Nat.gcd_rec yy xx, Nat.gcd_comm]) (some (.int (nI (xx % yy))))
            simp (maxSteps := 1000000) (decide := true) (disch := (first | assumption | omega | exact Nat.div_mul_le_self _ _ | exact ni_nz (by omega) (by omega) | exact rfl | exact retOk_bI _ | exact retOk_0 | exact retOk_1)) only [eX7_doze_167, eX7_doze_170, eX7_doze_172, eX7_doze_174, eX7_doze_175, eX7_doze_177, eX7_doze_179, eX7_doze_181, eX7_doze_183, eX7_doze_185, h0, WpR_some, Option.toList_some, Option.toList_none, List.cons_append, List.nil_append, List.append_nil, clr_n, clr_i, clr_a, ni_add, ni_mul, ni_sub, ni_lt, ni_le, ni_eq, ni_div, nat_mod_eq, ni_rem, iMax_nn, iMin_nn, iMax_sub, Nat.zero_max, bI_0, bI_1, bI_n0, up2_s, up2_n, up2_k, va_up_self, va_up_ne, ni_l, lN_mul, lN_add, ln_mask, lN_i, ↓reduceIte, if_true, if_false, not_true_eq_false, not_false_eq_true, ite_self, Nat.add_zero, Nat.zero_add, ent_def]
            exact f1
      rw [eX7_doze_51]
      simp (maxSteps := 1000000) (decide := true) (disch := (first | assumption | omega | exact Nat.div_mul_le_self _ _ | exact ni_nz (by omega) (by omega) | exact rfl | exact retOk_bI _ | exact retOk_0 | exact retOk_1)) only [eX7_doze_53, eX7_doze_55, eX7_doze_58, eX7_doze_60, eX7_doze_62, eX7_doze_63, eX7_doze_64, eX7_doze_65, eX7_doze_68, eX7_doze_69, eX7_doze_71, eX7_doze_72, eX7_doze_76, eX7_doze_77, eX7_doze_80, eX7_doze_82, eX7_doze_84, eX7_doze_86, eX7_doze_89, eX7_doze_92, eX7_doze_93, eX7_doze_96, eX7_doze_98, eX7_doze_100, eX7_doze_103, eX7_doze_106, eX7_doze_107, eX7_doze_110, eX7_doze_112, eX7_doze_113, eX7_doze_114, eX7_doze_115, eX7_doze_117, eX7_doze_120, eX7_doze_123, eX7_doze_125, eX7_doze_126, eX7_doze_128, eX7_doze_131, eX7_doze_132, eX7_doze_135, eX7_doze_137, eX7_doze_140, eX7_doze_141, eX7_doze_142, eX7_doze_144, eX7_doze_146, eX7_doze_148, eX7_doze_149, eX7_doze_151, eX7_doze_154, eX7_doze_157, eX7_doze_159, eX7_doze_161, eX7_doze_163, hlt, WpR_some, Option.toList_some, Option.toList_none, List.cons_append, List.nil_append, List.append_nil, clr_n, clr_i, clr_a, ni_add, ni_mul, ni_sub, ni_lt, ni_le, ni_eq, ni_div, nat_mod_eq, ni_rem, iMax_nn, iMin_nn, iMax_sub, Nat.zero_max, bI_0, bI_1, bI_n0, up2_s, up2_n, up2_k, va_up_self, va_up_ne, ni_l, lN_mul, lN_add, ln_mask, lN_i, ↓reduceIte, if_true, if_false, not_true_eq_false, not_false_eq_true, ite_self, Nat.add_zero, Nat.zero_add, ent_def]
      exact loop (dzB σ) (dzA σ c x) (by omega) (by omega) (Nat.gcd_comm _ _) _
  obtain ⟨r, μ', e1, m', rfl, rfl, h2⟩ := res_ex key
  exact ⟨m', e1, h2⟩
end XDZ
