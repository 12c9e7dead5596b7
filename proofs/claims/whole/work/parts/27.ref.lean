/-- the reference's row shows a state from place q on -/
def RwV (m : Nat → Nat → Int32) (q : Nat) (σ : Nat → Nat) : Prop := ∀ k, k < 56 → m 159 (q + k) = nI (σ k)
theorem RwV_up {m : Nat → Nat → Int32} {q : Nat} {σ : Nat → Nat} {i v o : Nat} (h : RwV m q σ) (hi : i < 56) (ho : q + i = o) : RwV (up2 m 159 o (nI v)) q (upN σ i v) := by
  intro k hk
  subst ho
  by_cases hki : k = i
  · subst hki; rw [up2_s, upN_s]
  · rw [up2_k (by omega), h k hk, upN_n hki]
theorem RwV_fr {m m' : Nat → Nat → Int32} {q : Nat} {σ : Nat → Nat} (h : RwV m q σ) (hf : ∀ k, q ≤ k → k < q + 56 → m' 159 k = m 159 k) : RwV m' q σ := fun k hk => by rw [hf (q + k) (by omega) (by omega)]; exact h k hk
theorem refpl : ∀ h, h < 5 → ∀ s, s < 6 → ∀ t, t < s → (nI h - nI t - (nI h - nI t) / nI s * nI s + nI s - (nI h - nI t - (nI h - nI t) / nI s * nI s + nI s) / nI s * nI s) = nI ((h + s - t) % s) := by decide +kernel
/-- whom a hearer has, by who sits where -/
def tP (π : Nat → Nat) (σ : Nat → Nat) (h : Nat) : Int32 := if pl σ h < σ 44 then nI (π (pl σ h)) else -4
def SitV (m : Nat → Nat → Int32) (π : Nat → Nat) : Prop := ∀ k, k < 5 → m 164 k = nI (π k) ∧ π k < 5
section RFF
variable {G : List AT} {m : Nat → Nat → Int32} {ml : Nat → Nat → Int64} {q n s h t ke kl x y o : Nat} {σ τ : Nat → Nat} {π : Nat → Nat} {v : Int32}
theorem r_X7_isTeller (hG : GM G) (h4 : m 159 44 = nI (σ 44)) (hb : σ 44 ≤ 5) : res mX7_isTeller [.ref 158, .int v] (G, m, ml) = some (some (.int (bI (isN v (σ 44)))), (G, m, ml)) := by
  obtain ⟨⟨g0, g1, -⟩, ⟨a0, -⟩, ⟨l0, -⟩⟩ := hG
  apply res_of
  show Wp mX7_isTeller 0 [some (.ref 158), some (.int v)] [] (G, m, ml) _
  have e1 := ge_l (v := v) (k := 0) (by decide)
  have e0 := le_l (v := v) (k := 0) (by decide)
  have e2 := lt_l1 (v := v) (k := σ 44) (by omega)
  have hnl : ∀ P : Prop, True := fun _ => trivial
  by_cases hz : 1 ≤ σ 44
  · have e2' : (v.toInt64 ≤ lN (σ 44 - 1)) = (v < nI (σ 44)) := by rw [← e2, ni_sub hz, ni_l (by omega)]
    simp (maxSteps := 1000000) (decide := true) (disch := (first | assumption | omega | exact Nat.div_mul_le_self _ _ | exact ni_nz (by omega) (by omega) | exact rfl | exact retOk_bI _ | exact retOk_0 | exact retOk_1)) only [eX7_isTeller_0, eX7_isTeller_1, eX7_isTeller_2, eX7_isTeller_3, eX7_isTeller_4, eX7_isTeller_7, eX7_isTeller_9, eX7_isTeller_10, eX7_isTeller_11, eX7_isTeller_12, eX7_isTeller_13, eX7_isTeller_16, g1, h4, r_X7_in, e0, e2', isN, WpR_some, Option.toList_some, Option.toList_none, List.cons_append, List.nil_append, List.append_nil, clr_n, clr_i, clr_a, ni_add, ni_mul, ni_sub, ni_lt, ni_le, ni_eq, ni_div, nat_mod_eq, ni_rem, iMax_nn, iMin_nn, iMax_sub, Nat.zero_max, bI_0, bI_1, bI_n0, up2_s, up2_n, up2_k, va_up_self, va_up_ne, ni_l, lN_mul, lN_add, ln_mask, lN_i, ↓reduceIte, if_true, if_false, not_true_eq_false, not_false_eq_true, ite_self, Nat.add_zero, Nat.zero_add, ent_def]
  · simp (maxSteps := 1000000) (decide := true) (disch := (first | assumption | omega | exact Nat.div_mul_le_self _ _ | exact ni_nz (by omega) (by omega) | exact rfl | exact retOk_bI _ | exact retOk_0 | exact retOk_1)) only [eX7_isTeller_0, eX7_isTeller_1, eX7_isTeller_2, eX7_isTeller_3, eX7_isTeller_4, eX7_isTeller_7, eX7_isTeller_9, eX7_isTeller_10, eX7_isTeller_11, eX7_isTeller_12, eX7_isTeller_13, eX7_isTeller_16, g1, h4, r_X7_in, e0, e2, isN, WpR_some, Option.toList_some, Option.toList_none, List.cons_append, List.nil_append, List.append_nil, clr_n, clr_i, clr_a, ni_add, ni_mul, ni_sub, ni_lt, ni_le, ni_eq, ni_div, nat_mod_eq, ni_rem, iMax_nn, iMin_nn, iMax_sub, Nat.zero_max, bI_0, bI_1, bI_n0, up2_s, up2_n, up2_k, va_up_self, va_up_ne, ni_l, lN_mul, lN_add, ln_mask, lN_i, ↓reduceIte, if_true, if_false, not_true_eq_false, not_false_eq_true, ite_self, Nat.add_zero, Nat.zero_add, ent_def]
theorem r_X7_isHearer (hG : GM G) (h5 : m 159 45 = nI (σ 45)) (hb : σ 45 ≤ 5) : res mX7_isHearer [.ref 158, .int v] (G, m, ml) = some (some (.int (bI (isN v (σ 45)))), (G, m, ml)) := by
  obtain ⟨⟨g0, g1, -⟩, ⟨a0, -⟩, ⟨l0, -⟩⟩ := hG
  apply res_of
  show Wp mX7_isHearer 0 [some (.ref 158), some (.int v)] [] (G, m, ml) _
  have e0 := le_l (v := v) (k := 0) (by decide)
  have e2 := lt_l1 (v := v) (k := σ 45) (by omega)
  by_cases hz : 1 ≤ σ 45
  · have e2' : (v.toInt64 ≤ lN (σ 45 - 1)) = (v < nI (σ 45)) := by rw [← e2, ni_sub hz, ni_l (by omega)]
    simp (maxSteps := 1000000) (decide := true) (disch := (first | assumption | omega | exact Nat.div_mul_le_self _ _ | exact ni_nz (by omega) (by omega) | exact rfl | exact retOk_bI _ | exact retOk_0 | exact retOk_1)) only [eX7_isHearer_0, eX7_isHearer_1, eX7_isHearer_2, eX7_isHearer_3, eX7_isHearer_4, eX7_isHearer_7, eX7_isHearer_9, eX7_isHearer_10, eX7_isHearer_11, eX7_isHearer_12, eX7_isHearer_13, eX7_isHearer_16, g1, h5, r_X7_in, e0, e2', isN, WpR_some, Option.toList_some, Option.toList_none, List.cons_append, List.nil_append, List.append_nil, clr_n, clr_i, clr_a, ni_add, ni_mul, ni_sub, ni_lt, ni_le, ni_eq, ni_div, nat_mod_eq, ni_rem, iMax_nn, iMin_nn, iMax_sub, Nat.zero_max, bI_0, bI_1, bI_n0, up2_s, up2_n, up2_k, va_up_self, va_up_ne, ni_l, lN_mul, lN_add, ln_mask, lN_i, ↓reduceIte, if_true, if_false, not_true_eq_false, not_false_eq_true, ite_self, Nat.add_zero, Nat.zero_add, ent_def]
  · simp (maxSteps := 1000000) (decide := true) (disch := (first | assumption | omega | exact Nat.div_mul_le_self _ _ | exact ni_nz (by omega) (by omega) | exact rfl | exact retOk_bI _ | exact retOk_0 | exact retOk_1)) only [eX7_isHearer_0, eX7_isHearer_1, eX7_isHearer_2, eX7_isHearer_3, eX7_isHearer_4, eX7_isHearer_7, eX7_isHearer_9, eX7_isHearer_10, eX7_isHearer_11, eX7_isHearer_12, eX7_isHearer_13, eX7_isHearer_16, g1, h5, r_X7_in, e0, e2, isN, WpR_some, Option.toList_some, Option.toList_none, List.cons_append, List.nil_append, List.append_nil, clr_n, clr_i, clr_a, ni_add, ni_mul, ni_sub, ni_lt, ni_le, ni_eq, ni_div, nat_mod_eq, ni_rem, iMax_nn, iMin_nn, iMax_sub, Nat.zero_max, bI_0, bI_1, bI_n0, up2_s, up2_n, up2_k, va_up_self, va_up_ne, ni_l, lN_mul, lN_add, ln_mask, lN_i, ↓reduceIte, if_true, if_false, not_true_eq_false, not_false_eq_true, ite_self, Nat.add_zero, Nat.zero_add, ent_def]
theorem r_X7_seats (hG : GM G) (h4 : m 159 44 = nI (σ 44)) (h5 : m 159 45 = nI (σ 45)) (hb : σ 44 ≤ 5) (hb5 : σ 45 ≤ 5) : res mX7_seats [.ref 158] (G, m, ml) = some (some (.int (nI (seats σ))), (G, m, ml)) := by
  obtain ⟨⟨g0, g1, -⟩, ⟨a0, -⟩, ⟨l0, -⟩⟩ := hG
  apply res_of
  show Wp mX7_seats 0 [some (.ref 158)] [] (G, m, ml) _
  unfold seats
  by_cases hc : σ 44 ≤ σ 45
  · rw [Nat.max_eq_right hc]
    simp (maxSteps := 1000000) (decide := true) (disch := (first | assumption | omega | exact Nat.div_mul_le_self _ _ | exact ni_nz (by omega) (by omega) | exact rfl | exact retOk_bI _ | exact retOk_0 | exact retOk_1)) only [eX7_seats_0, eX7_seats_1, eX7_seats_4, eX7_seats_6, eX7_seats_7, eX7_seats_8, eX7_seats_11, eX7_seats_13, eX7_seats_14, eX7_seats_17, eX7_seats_18, eX7_seats_21, eX7_seats_23, eX7_seats_24, eX7_seats_27, eX7_seats_28, eX7_seats_31, eX7_seats_33, eX7_seats_34, g1, h4, h5, hc, WpR_some, Option.toList_some, Option.toList_none, List.cons_append, List.nil_append, List.append_nil, clr_n, clr_i, clr_a, ni_add, ni_mul, ni_sub, ni_lt, ni_le, ni_eq, ni_div, nat_mod_eq, ni_rem, iMax_nn, iMin_nn, iMax_sub, Nat.zero_max, bI_0, bI_1, bI_n0, up2_s, up2_n, up2_k, va_up_self, va_up_ne, ni_l, lN_mul, lN_add, ln_mask, lN_i, ↓reduceIte, if_true, if_false, not_true_eq_false, not_false_eq_true, ite_self, Nat.add_zero, Nat.zero_add, ent_def]
  · rw [Nat.max_eq_left (by omega)]
    simp (maxSteps := 1000000) (decide := true) (disch := (first | assumption | omega | exact Nat.div_mul_le_self _ _ | exact ni_nz (by omega) (by omega) | exact rfl | exact retOk_bI _ | exact retOk_0 | exact retOk_1)) only [eX7_seats_0, eX7_seats_1, eX7_seats_4, eX7_seats_6, eX7_seats_7, eX7_seats_8, eX7_seats_11, eX7_seats_13, eX7_seats_14, eX7_seats_17, eX7_seats_18, eX7_seats_21, eX7_seats_23, eX7_seats_24, eX7_seats_27, eX7_seats_28, eX7_seats_31, eX7_seats_33, eX7_seats_34, g1, h4, h5, hc, WpR_some, Option.toList_some, Option.toList_none, List.cons_append, List.nil_append, List.append_nil, clr_n, clr_i, clr_a, ni_add, ni_mul, ni_sub, ni_lt, ni_le, ni_eq, ni_div, nat_mod_eq, ni_rem, iMax_nn, iMin_nn, iMax_sub, Nat.zero_max, bI_0, bI_1, bI_n0, up2_s, up2_n, up2_k, va_up_self, va_up_ne, ni_l, lN_mul, lN_add, ln_mask, lN_i, ↓reduceIte, if_true, if_false, not_true_eq_false, not_false_eq_true, ite_self, Nat.add_zero, Nat.zero_add, ent_def]
theorem r_X7_hasOne (hG : GM G) (h4 : m 159 44 = nI (σ 44)) (h5 : m 159 45 = nI (σ 45)) (hR : m 159 (q + 40) = nI (σ 40)) (hπ : SitV m π) (hB : Bd σ) (hq : q ≤ 818) (hh : h < σ 45) : res mX7_hasOne [.ref 158, .int (nI q), .int (nI h)] (G, m, ml) = some (some (.int (tP π σ h)), (G, m, ml)) := by
  have hs5 := seats_le hB
  have hs0 : 0 < seats σ := by unfold seats; omega
  have b4 := hB.2.2.2.1
  have b1 := hB.1
  have b2 := hB.2.1
  have es := r_X7_seats (ml := ml) hG h4 h5 b1 b2
  obtain ⟨⟨g0, g1, g2, g3, g4, g5, g6, -⟩, ⟨a0, a1, a2, a3, a4, a5, -⟩, ⟨l0, l1, l2, l3, l4, l5, -⟩⟩ := hG
  have hpl : pl σ h < 5 := Nat.lt_of_lt_of_le (Nat.mod_lt _ hs0) hs5
  have ep : (nI h - nI (σ 40) - (nI h - nI (σ 40)) / nI (seats σ) * nI (seats σ) + nI (seats σ) - (nI h - nI (σ 40) - (nI h - nI (σ 40)) / nI (seats σ) * nI (seats σ) + nI (seats σ)) / nI (seats σ) * nI (seats σ)) = nI (pl σ h) := refpl h (by omega) (seats σ) (by omega) (σ 40) (by omega)
  obtain ⟨p1, p2⟩ := hπ (pl σ h) hpl
  apply res_of
  show Wp mX7_hasOne 0 [some (.ref 158), some (.int (nI q)), some (.int (nI h)), none, none] [] (G, m, ml) _
  have hnz : ¬ nI (seats σ) = 0 := ni_nz hs0 (by omega)
  unfold tP
  by_cases hc : pl σ h < σ 44
  · have hc' : ¬ σ 44 ≤ pl σ h := by omega
    rw [if_pos hc]
    simp (maxSteps := 1000000) (decide := true) (disch := (first | assumption | omega | exact Nat.div_mul_le_self _ _ | exact ni_nz (by omega) (by omega) | exact rfl | exact retOk_bI _ | exact retOk_0 | exact retOk_1)) only [eX7_hasOne_0, eX7_hasOne_1, eX7_hasOne_4, eX7_hasOne_5, eX7_hasOne_6, eX7_hasOne_7, eX7_hasOne_10, eX7_hasOne_11, eX7_hasOne_13, eX7_hasOne_14, eX7_hasOne_15, eX7_hasOne_16, eX7_hasOne_17, eX7_hasOne_18, eX7_hasOne_19, eX7_hasOne_20, eX7_hasOne_21, eX7_hasOne_22, eX7_hasOne_24, eX7_hasOne_26, eX7_hasOne_27, eX7_hasOne_30, eX7_hasOne_32, eX7_hasOne_33, eX7_hasOne_36, eX7_hasOne_37, eX7_hasOne_40, eX7_hasOne_42, eX7_hasOne_43, eX7_hasOne_46, eX7_hasOne_48, g1, g6, h4, hR, es, p1, ep, hc', hnz, WpR_some, Option.toList_some, List.cons_append, List.nil_append, clr_n, clr_i, clr_a, ni_add, ni_le, ↓reduceIte]
  · have hc' : σ 44 ≤ pl σ h := by omega
    rw [if_neg hc]
    simp (maxSteps := 1000000) (decide := true) (disch := (first | assumption | omega | exact Nat.div_mul_le_self _ _ | exact ni_nz (by omega) (by omega) | exact rfl | exact retOk_bI _ | exact retOk_0 | exact retOk_1)) only [eX7_hasOne_0, eX7_hasOne_1, eX7_hasOne_4, eX7_hasOne_5, eX7_hasOne_6, eX7_hasOne_7, eX7_hasOne_10, eX7_hasOne_11, eX7_hasOne_13, eX7_hasOne_14, eX7_hasOne_15, eX7_hasOne_16, eX7_hasOne_17, eX7_hasOne_18, eX7_hasOne_19, eX7_hasOne_20, eX7_hasOne_21, eX7_hasOne_22, eX7_hasOne_24, eX7_hasOne_26, eX7_hasOne_27, eX7_hasOne_30, eX7_hasOne_32, eX7_hasOne_33, eX7_hasOne_36, eX7_hasOne_37, eX7_hasOne_40, eX7_hasOne_42, eX7_hasOne_43, eX7_hasOne_46, eX7_hasOne_48, g1, g6, h4, hR, es, p1, ep, hc', hnz, WpR_some, Option.toList_some, List.cons_append, List.nil_append, clr_n, clr_i, clr_a, ni_add, ni_le, ↓reduceIte]
end RFF
