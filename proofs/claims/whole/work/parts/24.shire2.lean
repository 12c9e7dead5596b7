def nxt (d : Nat) : Nat := (d * 1103515245 + 12345) % 2147483648
def drw (σ : Nat → Nat) : Nat → Nat := if σ 45 = 0 then upN σ 43 (nxt (σ 43)) else upN (upN σ 43 (nxt (σ 43))) (nxt (σ 43) / 65536 % σ 45) (min (σ (51 + nxt (σ 43) / 65536 % σ 45)) (σ (nxt (σ 43) / 65536 % σ 45) + nxt (σ 43) / 128 % 6))
/-- whom one heard, as bits -/
def hbI (σ : Nat → Nat) (h : Nat) : Nat → Int32
  | 0 => nI 0
  | t + 1 => if 0 < σ (10 + (h * 5 + t)) then hbI σ h t ||| (nI 1 <<< (nI t &&& 31)) else hbI σ h t
def allT (σ : Nat → Nat) : Int32 := (nI 1 <<< (nI (σ 44) &&& 31)) - nI 1
def sumN (f : Nat → Nat) : Nat → Nat
  | 0 => 0
  | n + 1 => sumN f n + f n
theorem sumN_le {f : Nat → Nat} {c : Nat} : ∀ n, (∀ k, k < n → f k ≤ c) → sumN f n ≤ n * c
  | 0, _ => by simp [sumN]
  | n + 1, h => by
    have h1 := sumN_le n (fun k hk => h k (by omega))
    have h2 := h n (by omega)
    simp only [sumN]
    rw [Nat.add_mul, Nat.one_mul]
    omega
section SH2
variable {G : List AT} {m : Nat → Nat → Int32} {ml : Nat → Nat → Int64} {a b n s h t ke kl x y o : Nat} {σ : Nat → Nat} {π : Nat → Nat}
theorem r_X3_drawRest (hS : Sh G a) (hV : ShV m a σ) (hB : Bd σ) : ∃ m', res mX3_drawRest [.ref a] (G, m, ml) = some (none, (G, m', ml)) ∧ ShV m' a (drw σ) ∧ ∀ b, b < a ∨ a + 6 < b → m' b = m b := by
  have hb := hB
  obtain ⟨b1, b2, b3, b4, b5, b6, b7, b8, b9, b10, b11, b12⟩ := hb
  have s0 := hS.1
  obtain ⟨⟨v0, v1, v2, v3, v4, v5, v6⟩, -⟩ := ShV_old hV
  have hn : nxt (σ 43) < 2147483648 := Nat.mod_lt _ (by decide)
  have V1 := ShV_up (i := 43) (v := nxt (σ 43)) hV (by decide) (by decide) (by decide) (o := a) (k := 6) (by simp [cO]) (by decide)
  have B1 : Bd (upN σ 43 (nxt (σ 43))) := Bd_up hB (by decide) ⟨by omega, by omega, by omega, by omega, by omega, by omega, by omega, by omega, by omega, by omega, by omega, by omega⟩
  have e45 : upN σ 43 (nxt (σ 43)) 45 = σ 45 := upN_n (by decide)
  have hnx : (σ 43 * 1103515245 + 12345) % 2147483648 = nxt (σ 43) := rfl
  by_cases h0 : σ 45 = 0
  · refine ⟨up2 m a 6 (nI (nxt (σ 43))), ?_, ?_, ?_⟩
    · apply res_of
      show Wp mX3_drawRest 0 [some (.ref a)] [] (G, m, ml) _
      rw [h0] at v1
      simp (maxSteps := 1000000) (decide := true) (disch := (first | assumption | omega | exact Nat.div_mul_le_self _ _ | exact ni_nz (by omega) (by omega) | exact rfl | exact retOk_bI _ | exact retOk_0 | exact retOk_1)) only [eX3_drawRest_0, eX3_drawRest_1, eX3_drawRest_2, eX3_drawRest_5, eX3_drawRest_6, eX3_drawRest_9, eX3_drawRest_10, eX3_drawRest_13, eX3_drawRest_14, eX3_drawRest_17, eX3_drawRest_18, eX3_drawRest_19, eX3_drawRest_22, eX3_drawRest_23, eX3_drawRest_26, eX3_drawRest_29, eX3_drawRest_30, eX3_drawRest_31, eX3_drawRest_34, eX3_drawRest_36, eX3_drawRest_37, eX3_drawRest_38, eX3_drawRest_41, eX3_drawRest_42, eX3_drawRest_43, eX3_drawRest_46, eX3_drawRest_49, eX3_drawRest_50, eX3_drawRest_52, eX3_drawRest_53, eX3_drawRest_56, v1, v6, hnx, WpR_some, Option.toList_some, Option.toList_none, List.cons_append, List.nil_append, List.append_nil, clr_n, clr_i, clr_a, ni_add, ni_mul, ni_sub, ni_lt, ni_le, ni_eq, ni_div, nat_mod_eq, ni_rem, iMax_nn, iMin_nn, iMax_sub, Nat.zero_max, bI_0, bI_1, bI_n0, up2_s, up2_n, up2_k, va_up_self, va_up_ne, ni_l, lN_mul, lN_add, ln_mask, lN_i, ↓reduceIte, if_true, if_false, not_true_eq_false, not_false_eq_true, ite_self, Nat.add_zero, Nat.zero_add, ent_def]
    · unfold drw; rw [if_pos h0]; exact V1
    · intro b hb; rw [up2_n (by omega)]
  · have hm : nxt (σ 43) / 65536 % σ 45 < σ 45 := Nat.mod_lt _ (by omega)
    have hd : nxt (σ 43) / 65536 < 32768 := by omega
    have hd2 : nxt (σ 43) / 128 < 16777216 := by omega
    have hm6 : nxt (σ 43) / 128 % 6 < 6 := Nat.mod_lt _ (by decide)
    have e := r_X3_relieve (ml := ml) (h := nxt (σ 43) / 65536 % σ 45) (n := nxt (σ 43) / 128 % 6) hS V1 B1 (by rw [e45]; exact hm) (by omega)
    rw [upN_n (by omega), upN_n (by omega)] at e
    have hlt : ¬ σ 45 ≤ 0 := by omega
    have hpos : 0 < σ 45 := by omega
    refine ⟨up2 (up2 m a 6 (nI (nxt (σ 43)))) (a + 4) (nxt (σ 43) / 65536 % σ 45) (nI (min (σ (51 + nxt (σ 43) / 65536 % σ 45)) (σ (nxt (σ 43) / 65536 % σ 45) + nxt (σ 43) / 128 % 6))), ?_, ?_, ?_⟩
    · apply res_of
      show Wp mX3_drawRest 0 [some (.ref a)] [] (G, m, ml) _
      simp (maxSteps := 1000000) (decide := true) (disch := (first | assumption | omega | exact Nat.div_mul_le_self _ _ | exact ni_nz (by omega) (by omega) | exact rfl | exact retOk_bI _ | exact retOk_0 | exact retOk_1)) only [eX3_drawRest_0, eX3_drawRest_1, eX3_drawRest_2, eX3_drawRest_5, eX3_drawRest_6, eX3_drawRest_9, eX3_drawRest_10, eX3_drawRest_13, eX3_drawRest_14, eX3_drawRest_17, eX3_drawRest_18, eX3_drawRest_19, eX3_drawRest_22, eX3_drawRest_23, eX3_drawRest_26, eX3_drawRest_29, eX3_drawRest_30, eX3_drawRest_31, eX3_drawRest_34, eX3_drawRest_36, eX3_drawRest_37, eX3_drawRest_38, eX3_drawRest_41, eX3_drawRest_42, eX3_drawRest_43, eX3_drawRest_46, eX3_drawRest_49, eX3_drawRest_50, eX3_drawRest_52, eX3_drawRest_53, eX3_drawRest_56, v1, v6, hnx, e, hlt, WpR_some, Option.toList_some, Option.toList_none, List.cons_append, List.nil_append, List.append_nil, clr_n, clr_i, clr_a, ni_add, ni_mul, ni_sub, ni_lt, ni_le, ni_eq, ni_div, nat_mod_eq, ni_rem, iMax_nn, iMin_nn, iMax_sub, Nat.zero_max, bI_0, bI_1, bI_n0, up2_s, up2_n, up2_k, va_up_self, va_up_ne, ni_l, lN_mul, lN_add, ln_mask, lN_i, ↓reduceIte, if_true, if_false, not_true_eq_false, not_false_eq_true, ite_self, Nat.add_zero, Nat.zero_add, ent_def]
    · unfold drw; rw [if_neg h0]
      exact ShV_up (i := nxt (σ 43) / 65536 % σ 45) V1 (by omega) (by omega) (by omega) (by simp only [cO]; rw [if_pos (by omega)]) (by simp only [cK]; rw [if_pos (by omega)])
    · intro b hb; rw [up2_n (by omega), up2_n (by omega)]
theorem Bk_drw (hB : Bk ke kl σ) : Bk ke kl (drw σ) := by
  obtain ⟨hB, h2, h3⟩ := hB
  have hb := hB
  obtain ⟨b1, b2, b3, b4, b5, b6, b7, b8, b9, b10, b11, b12⟩ := hb
  have hn : nxt (σ 43) < 2147483648 := Nat.mod_lt _ (by decide)
  have B1 : Bd (upN σ 43 (nxt (σ 43))) := Bd_up hB (by decide) ⟨by omega, by omega, by omega, by omega, by omega, by omega, by omega, by omega, by omega, by omega, by omega, by omega⟩
  unfold drw
  split
  · exact ⟨B1, by rw [upN_n (by decide)]; exact h2, fun j hj => by rw [upN_n (by omega)]; exact h3 j hj⟩
  · rename_i h0
    have hm : nxt (σ 43) / 65536 % σ 45 < σ 45 := Nat.mod_lt _ (by omega)
    have y10 := b10 (nxt (σ 43) / 65536 % σ 45) (by omega)
    exact ⟨Bd_up B1 (by omega) ⟨by omega, by omega, by omega, by omega, by omega, by omega, by omega, by omega, by omega, by omega, by omega, by omega⟩, by rw [upN_n (by omega), upN_n (by decide)]; exact h2, fun j hj => by rw [upN_n (by omega), upN_n (by omega)]; exact h3 j hj⟩
theorem r_X3_heardBy (hS : Sh G a) (hV : ShV m a σ) (hB : Bd σ) (hh : h < 5) : res mX3_heardBy [.ref a, .int (nI h)] (G, m, ml) = some (some (.int (hbI σ h (σ 44))), (G, m, ml)) := by
  have hS0 := hS
  have c1 := hV.1
  have c2 := hV.2.1
  obtain ⟨⟨v0, v1, v2, v3, v4, v5, v6⟩, w1, w2, w3, w4, w5, w6⟩ := ShV_old hV
  have s0 := hS.1
  apply res_of
  show Wp mX3_heardBy 0 [some (.ref a), some (.int (nI h)), none, none] [] (G, m, ml) _
  generalize hQ : (fun (r : Option Value) (μ' : Mm) => (r, μ') = (some (.int (hbI σ h (σ 44))), (G, m, ml))) = Q
  simp (maxSteps := 1000000) (decide := true) (disch := (first | assumption | omega | exact Nat.div_mul_le_self _ _ | exact ni_nz (by omega) (by omega) | exact rfl | exact retOk_bI _ | exact retOk_0 | exact retOk_1)) only [eX3_heardBy_0, eX3_heardBy_1, eX3_heardBy_2, eX3_heardBy_3, eX3_heardBy_5, eX3_heardBy_6, eX3_heardBy_9, eX3_heardBy_12, eX3_heardBy_13, eX3_heardBy_14, eX3_heardBy_15, eX3_heardBy_18, eX3_heardBy_21, eX3_heardBy_22, eX3_heardBy_23, eX3_heardBy_24, eX3_heardBy_25, eX3_heardBy_26, eX3_heardBy_27, eX3_heardBy_30, eX3_heardBy_33, eX3_heardBy_34, WpR_some, Option.toList_some, Option.toList_none, List.cons_append, List.nil_append, List.append_nil, clr_n, clr_i, clr_a, ni_add, ni_mul, ni_sub, ni_lt, ni_le, ni_eq, ni_div, nat_mod_eq, ni_rem, iMax_nn, iMin_nn, iMax_sub, Nat.zero_max, bI_0, bI_1, bI_n0, up2_s, up2_n, up2_k, va_up_self, va_up_ne, ni_l, lN_mul, lN_add, ln_mask, lN_i, ↓reduceIte, if_true, if_false, not_true_eq_false, not_false_eq_true, ite_self, Nat.add_zero, Nat.zero_add, ent_def]
  refine wp_for (X := Int32) (fun i z => [some (.ref a), some (.int (nI h)), some (.int z), some (.int (nI i))]) (fun i z μ => μ = (G, m, ml) ∧ z = hbI σ h i) (σ 44) ?_ ?_ 0 (nI 0) _ (Nat.zero_le _) ⟨rfl, rfl⟩
  · rintro i z μ hi ⟨rfl, rfl⟩ kk
    have e := r_X3_timesHeard (m := m) (ml := ml) (t := i) hS0 hh (by omega)
    have x6 := w6 (h * 5 + i) (by omega)
    have hlt : ¬ σ 44 ≤ i := by omega
    have e8 := kk (hbI σ h (i + 1)) _ ⟨rfl, rfl⟩
    have y12 : σ (10 + (h * 5 + i)) ≤ 9 := hB.2.2.2.2.2.2.2.2.2.2.2 (h * 5 + i) (by omega)
    rw [x6] at e
    rw [eX3_heardBy_4]
    by_cases hc : 0 < σ (10 + (h * 5 + i))
    · have hc' : ¬ σ (10 + (h * 5 + i)) ≤ 0 := by omega
      simp only [hbI, if_pos hc] at e8
      simp (maxSteps := 1000000) (decide := true) (disch := (first | assumption | omega | exact Nat.div_mul_le_self _ _ | exact ni_nz (by omega) (by omega) | exact rfl | exact retOk_bI _ | exact retOk_0 | exact retOk_1)) only [eX3_heardBy_0, eX3_heardBy_1, eX3_heardBy_2, eX3_heardBy_3, eX3_heardBy_5, eX3_heardBy_6, eX3_heardBy_9, eX3_heardBy_12, eX3_heardBy_13, eX3_heardBy_14, eX3_heardBy_15, eX3_heardBy_18, eX3_heardBy_21, eX3_heardBy_22, eX3_heardBy_23, eX3_heardBy_24, eX3_heardBy_25, eX3_heardBy_26, eX3_heardBy_27, eX3_heardBy_30, eX3_heardBy_33, eX3_heardBy_34, v0, e, hlt, hc', WpR_some, Option.toList_some, Option.toList_none, List.cons_append, List.nil_append, List.append_nil, clr_n, clr_i, clr_a, ni_add, ni_mul, ni_sub, ni_lt, ni_le, ni_eq, ni_div, nat_mod_eq, ni_rem, iMax_nn, iMin_nn, iMax_sub, Nat.zero_max, bI_0, bI_1, bI_n0, up2_s, up2_n, up2_k, va_up_self, va_up_ne, ni_l, lN_mul, lN_add, ln_mask, lN_i, ↓reduceIte, if_true, if_false, not_true_eq_false, not_false_eq_true, ite_self, Nat.add_zero, Nat.zero_add, ent_def]
      exact e8
    · have hc' : σ (10 + (h * 5 + i)) ≤ 0 := by omega
      simp only [hbI, if_neg hc] at e8
      simp (maxSteps := 1000000) (decide := true) (disch := (first | assumption | omega | exact Nat.div_mul_le_self _ _ | exact ni_nz (by omega) (by omega) | exact rfl | exact retOk_bI _ | exact retOk_0 | exact retOk_1)) only [eX3_heardBy_0, eX3_heardBy_1, eX3_heardBy_2, eX3_heardBy_3, eX3_heardBy_5, eX3_heardBy_6, eX3_heardBy_9, eX3_heardBy_12, eX3_heardBy_13, eX3_heardBy_14, eX3_heardBy_15, eX3_heardBy_18, eX3_heardBy_21, eX3_heardBy_22, eX3_heardBy_23, eX3_heardBy_24, eX3_heardBy_25, eX3_heardBy_26, eX3_heardBy_27, eX3_heardBy_30, eX3_heardBy_33, eX3_heardBy_34, v0, e, hlt, hc', WpR_some, Option.toList_some, Option.toList_none, List.cons_append, List.nil_append, List.append_nil, clr_n, clr_i, clr_a, ni_add, ni_mul, ni_sub, ni_lt, ni_le, ni_eq, ni_div, nat_mod_eq, ni_rem, iMax_nn, iMin_nn, iMax_sub, Nat.zero_max, bI_0, bI_1, bI_n0, up2_s, up2_n, up2_k, va_up_self, va_up_ne, ni_l, lN_mul, lN_add, ln_mask, lN_i, ↓reduceIte, if_true, if_false, not_true_eq_false, not_false_eq_true, ite_self, Nat.add_zero, Nat.zero_add, ent_def]
      exact e8
  · rintro z μ ⟨rfl, rfl⟩
    rw [eX3_heardBy_4]
    simp (maxSteps := 1000000) (decide := true) (disch := (first | assumption | omega | exact Nat.div_mul_le_self _ _ | exact ni_nz (by omega) (by omega) | exact rfl | exact retOk_bI _ | exact retOk_0 | exact retOk_1)) only [eX3_heardBy_0, eX3_heardBy_1, eX3_heardBy_2, eX3_heardBy_3, eX3_heardBy_5, eX3_heardBy_6, eX3_heardBy_9, eX3_heardBy_12, eX3_heardBy_13, eX3_heardBy_14, eX3_heardBy_15, eX3_heardBy_18, eX3_heardBy_21, eX3_heardBy_22, eX3_heardBy_23, eX3_heardBy_24, eX3_heardBy_25, eX3_heardBy_26, eX3_heardBy_27, eX3_heardBy_30, eX3_heardBy_33, eX3_heardBy_34, v0, Nat.le_refl, WpR_some, Option.toList_some, Option.toList_none, List.cons_append, List.nil_append, List.append_nil, clr_n, clr_i, clr_a, ni_add, ni_mul, ni_sub, ni_lt, ni_le, ni_eq, ni_div, nat_mod_eq, ni_rem, iMax_nn, iMin_nn, iMax_sub, Nat.zero_max, bI_0, bI_1, bI_n0, up2_s, up2_n, up2_k, va_up_self, va_up_ne, ni_l, lN_mul, lN_add, ln_mask, lN_i, ↓reduceIte, if_true, if_false, not_true_eq_false, not_false_eq_true, ite_self, Nat.add_zero, Nat.zero_add, ent_def]
    rw [← hQ]
theorem r_X3_allHeardAll (hS : Sh G a) (hV : ShV m a σ) (hB : Bd σ) : res mX3_allHeardAll [.ref a] (G, m, ml) = some (some (.int (bI (decide (∀ h, h < σ 45 → hbI σ h (σ 44) = allT σ)))), (G, m, ml)) := by
  have hS0 := hS
  have hV0 := hV
  obtain ⟨c1, c2, -⟩ := hV
  obtain ⟨⟨v0, v1, v2, v3, v4, v5, v6⟩, -⟩ := ShV_old hV0
  have s0 := hS.1
  apply res_of
  show Wp mX3_allHeardAll 0 [some (.ref a), none, none] [] (G, m, ml) _
  generalize hQ : (fun (r : Option Value) (μ' : Mm) => (r, μ') = (some (.int (bI (decide (∀ h, h < σ 45 → hbI σ h (σ 44) = allT σ)))), (G, m, ml))) = Q
  have hal : nI 1 <<< (nI (σ 44) &&& 31) - nI 1 = allT σ := rfl
  simp (maxSteps := 1000000) (decide := true) (disch := (first | assumption | omega | exact Nat.div_mul_le_self _ _ | exact ni_nz (by omega) (by omega) | exact rfl | exact retOk_bI _ | exact retOk_0 | exact retOk_1)) only [eX3_allHeardAll_0, eX3_allHeardAll_1, eX3_allHeardAll_2, eX3_allHeardAll_5, eX3_allHeardAll_6, eX3_allHeardAll_7, eX3_allHeardAll_8, eX3_allHeardAll_9, eX3_allHeardAll_10, eX3_allHeardAll_12, eX3_allHeardAll_13, eX3_allHeardAll_16, eX3_allHeardAll_19, eX3_allHeardAll_20, eX3_allHeardAll_21, eX3_allHeardAll_24, eX3_allHeardAll_25, eX3_allHeardAll_28, eX3_allHeardAll_29, eX3_allHeardAll_30, eX3_allHeardAll_33, eX3_allHeardAll_36, eX3_allHeardAll_37, v0, hal, WpR_some, Option.toList_some, Option.toList_none, List.cons_append, List.nil_append, List.append_nil, clr_n, clr_i, clr_a, ni_add, ni_mul, ni_sub, ni_lt, ni_le, ni_eq, ni_div, nat_mod_eq, ni_rem, iMax_nn, iMin_nn, iMax_sub, Nat.zero_max, bI_0, bI_1, bI_n0, up2_s, up2_n, up2_k, va_up_self, va_up_ne, ni_l, lN_mul, lN_add, ln_mask, lN_i, ↓reduceIte, if_true, if_false, not_true_eq_false, not_false_eq_true, ite_self, Nat.add_zero, Nat.zero_add, ent_def]
  refine wp_for (X := Unit) (fun i z => [some (.ref a), some (.int (allT σ)), some (.int (nI i))]) (fun i z μ => μ = (G, m, ml) ∧ ∀ h, h < i → hbI σ h (σ 44) = allT σ) (σ 45) ?_ ?_ 0 () _ (Nat.zero_le _) ⟨rfl, fun _ h => absurd h (Nat.not_lt_zero _)⟩
  · rintro i z μ hi ⟨rfl, hz⟩ kk
    have e := r_X3_heardBy (ml := ml) (h := i) hS0 hV0 hB (by omega)
    have hlt : ¬ σ 45 ≤ i := by omega
    rw [eX3_allHeardAll_11]
    by_cases hc : hbI σ i (σ 44) = allT σ
    · simp (maxSteps := 1000000) (decide := true) (disch := (first | assumption | omega | exact Nat.div_mul_le_self _ _ | exact ni_nz (by omega) (by omega) | exact rfl | exact retOk_bI _ | exact retOk_0 | exact retOk_1)) only [eX3_allHeardAll_0, eX3_allHeardAll_1, eX3_allHeardAll_2, eX3_allHeardAll_5, eX3_allHeardAll_6, eX3_allHeardAll_7, eX3_allHeardAll_8, eX3_allHeardAll_9, eX3_allHeardAll_10, eX3_allHeardAll_12, eX3_allHeardAll_13, eX3_allHeardAll_16, eX3_allHeardAll_19, eX3_allHeardAll_20, eX3_allHeardAll_21, eX3_allHeardAll_24, eX3_allHeardAll_25, eX3_allHeardAll_28, eX3_allHeardAll_29, eX3_allHeardAll_30, eX3_allHeardAll_33, eX3_allHeardAll_36, eX3_allHeardAll_37, v1, e, hlt, hc, WpR_some, Option.toList_some, Option.toList_none, List.cons_append, List.nil_append, List.append_nil, clr_n, clr_i, clr_a, ni_add, ni_mul, ni_sub, ni_lt, ni_le, ni_eq, ni_div, nat_mod_eq, ni_rem, iMax_nn, iMin_nn, iMax_sub, Nat.zero_max, bI_0, bI_1, bI_n0, up2_s, up2_n, up2_k, va_up_self, va_up_ne, ni_l, lN_mul, lN_add, ln_mask, lN_i, ↓reduceIte, if_true, if_false, not_true_eq_false, not_false_eq_true, ite_self, Nat.add_zero, Nat.zero_add, ent_def]
      refine kk () _ ⟨rfl, fun h hh => ?_⟩
      by_cases hq : h = i
      · rw [hq]; exact hc
      · exact hz h (by omega)
    · simp (maxSteps := 1000000) (decide := true) (disch := (first | assumption | omega | exact Nat.div_mul_le_self _ _ | exact ni_nz (by omega) (by omega) | exact rfl | exact retOk_bI _ | exact retOk_0 | exact retOk_1)) only [eX3_allHeardAll_0, eX3_allHeardAll_1, eX3_allHeardAll_2, eX3_allHeardAll_5, eX3_allHeardAll_6, eX3_allHeardAll_7, eX3_allHeardAll_8, eX3_allHeardAll_9, eX3_allHeardAll_10, eX3_allHeardAll_12, eX3_allHeardAll_13, eX3_allHeardAll_16, eX3_allHeardAll_19, eX3_allHeardAll_20, eX3_allHeardAll_21, eX3_allHeardAll_24, eX3_allHeardAll_25, eX3_allHeardAll_28, eX3_allHeardAll_29, eX3_allHeardAll_30, eX3_allHeardAll_33, eX3_allHeardAll_36, eX3_allHeardAll_37, v1, e, hlt, hc, WpR_some, Option.toList_some, Option.toList_none, List.cons_append, List.nil_append, List.append_nil, clr_n, clr_i, clr_a, ni_add, ni_mul, ni_sub, ni_lt, ni_le, ni_eq, ni_div, nat_mod_eq, ni_rem, iMax_nn, iMin_nn, iMax_sub, Nat.zero_max, bI_0, bI_1, bI_n0, up2_s, up2_n, up2_k, va_up_self, va_up_ne, ni_l, lN_mul, lN_add, ln_mask, lN_i, ↓reduceIte, if_true, if_false, not_true_eq_false, not_false_eq_true, ite_self, Nat.add_zero, Nat.zero_add, ent_def]
      rw [← hQ]
      have : ¬ ∀ h, h < σ 45 → hbI σ h (σ 44) = allT σ := fun q => hc (q i hi)
      simp [this, bI]
  · rintro z μ ⟨rfl, hz⟩
    rw [eX3_allHeardAll_11]
    simp (maxSteps := 1000000) (decide := true) (disch := (first | assumption | omega | exact Nat.div_mul_le_self _ _ | exact ni_nz (by omega) (by omega) | exact rfl | exact retOk_bI _ | exact retOk_0 | exact retOk_1)) only [eX3_allHeardAll_0, eX3_allHeardAll_1, eX3_allHeardAll_2, eX3_allHeardAll_5, eX3_allHeardAll_6, eX3_allHeardAll_7, eX3_allHeardAll_8, eX3_allHeardAll_9, eX3_allHeardAll_10, eX3_allHeardAll_12, eX3_allHeardAll_13, eX3_allHeardAll_16, eX3_allHeardAll_19, eX3_allHeardAll_20, eX3_allHeardAll_21, eX3_allHeardAll_24, eX3_allHeardAll_25, eX3_allHeardAll_28, eX3_allHeardAll_29, eX3_allHeardAll_30, eX3_allHeardAll_33, eX3_allHeardAll_36, eX3_allHeardAll_37, v1, Nat.le_refl, WpR_some, Option.toList_some, Option.toList_none, List.cons_append, List.nil_append, List.append_nil, clr_n, clr_i, clr_a, ni_add, ni_mul, ni_sub, ni_lt, ni_le, ni_eq, ni_div, nat_mod_eq, ni_rem, iMax_nn, iMin_nn, iMax_sub, Nat.zero_max, bI_0, bI_1, bI_n0, up2_s, up2_n, up2_k, va_up_self, va_up_ne, ni_l, lN_mul, lN_add, ln_mask, lN_i, ↓reduceIte, if_true, if_false, not_true_eq_false, not_false_eq_true, ite_self, Nat.add_zero, Nat.zero_add, ent_def]
    rw [← hQ]
    simp only [decide_eq_true hz]
    rfl
theorem r_X3_heardInAll (hS : Sh G a) (hV : ShV m a σ) (hB : Bd σ) : res mX3_heardInAll [.ref a] (G, m, ml) = some (some (.int (nI (sumN (fun i => σ (10 + i)) 25))), (G, m, ml)) := by
  obtain ⟨s0, ⟨s1, s2, s3, s4, s5, s6⟩, ⟨g1, g2, g3, g4, g5, g6⟩, l1, l2, l3, l4, l5, l6⟩ := hS
  obtain ⟨-, w1, w2, w3, w4, w5, w6⟩ := ShV_old hV
  apply res_of
  show Wp mX3_heardInAll 0 [some (.ref a), none, none] [] (G, m, ml) _
  generalize hQ : (fun (r : Option Value) (μ' : Mm) => (r, μ') = (some (.int (nI (sumN (fun i => σ (10 + i)) 25))), (G, m, ml))) = Q
  simp (maxSteps := 1000000) (decide := true) (disch := (first | assumption | omega | exact Nat.div_mul_le_self _ _ | exact ni_nz (by omega) (by omega) | exact rfl | exact retOk_bI _ | exact retOk_0 | exact retOk_1)) only [eX3_heardInAll_0, eX3_heardInAll_1, eX3_heardInAll_2, eX3_heardInAll_3, eX3_heardInAll_5, eX3_heardInAll_7, eX3_heardInAll_10, eX3_heardInAll_11, eX3_heardInAll_12, eX3_heardInAll_15, eX3_heardInAll_16, eX3_heardInAll_17, eX3_heardInAll_18, eX3_heardInAll_19, eX3_heardInAll_22, eX3_heardInAll_25, eX3_heardInAll_26, WpR_some, Option.toList_some, Option.toList_none, List.cons_append, List.nil_append, List.append_nil, clr_n, clr_i, clr_a, ni_add, ni_mul, ni_sub, ni_lt, ni_le, ni_eq, ni_div, nat_mod_eq, ni_rem, iMax_nn, iMin_nn, iMax_sub, Nat.zero_max, bI_0, bI_1, bI_n0, up2_s, up2_n, up2_k, va_up_self, va_up_ne, ni_l, lN_mul, lN_add, ln_mask, lN_i, ↓reduceIte, if_true, if_false, not_true_eq_false, not_false_eq_true, ite_self, Nat.add_zero, Nat.zero_add, ent_def]
  refine wp_for (X := Nat) (fun i z => [some (.ref a), some (.int (nI z)), some (.int (nI i))]) (fun i z μ => μ = (G, m, ml) ∧ z = sumN (fun i => σ (10 + i)) i) 25 ?_ ?_ 0 0 _ (Nat.zero_le _) ⟨rfl, rfl⟩
  · rintro i z μ hi ⟨rfl, rfl⟩ kk
    have x6 := w6 i hi
    have hlt : ¬ 25 ≤ i := by omega
    rw [eX3_heardInAll_4]
    simp (maxSteps := 1000000) (decide := true) (disch := (first | assumption | omega | exact Nat.div_mul_le_self _ _ | exact ni_nz (by omega) (by omega) | exact rfl | exact retOk_bI _ | exact retOk_0 | exact retOk_1)) only [eX3_heardInAll_0, eX3_heardInAll_1, eX3_heardInAll_2, eX3_heardInAll_3, eX3_heardInAll_5, eX3_heardInAll_7, eX3_heardInAll_10, eX3_heardInAll_11, eX3_heardInAll_12, eX3_heardInAll_15, eX3_heardInAll_16, eX3_heardInAll_17, eX3_heardInAll_18, eX3_heardInAll_19, eX3_heardInAll_22, eX3_heardInAll_25, eX3_heardInAll_26, s6, x6, hlt, WpR_some, Option.toList_some, Option.toList_none, List.cons_append, List.nil_append, List.append_nil, clr_n, clr_i, clr_a, ni_add, ni_mul, ni_sub, ni_lt, ni_le, ni_eq, ni_div, nat_mod_eq, ni_rem, iMax_nn, iMin_nn, iMax_sub, Nat.zero_max, bI_0, bI_1, bI_n0, up2_s, up2_n, up2_k, va_up_self, va_up_ne, ni_l, lN_mul, lN_add, ln_mask, lN_i, ↓reduceIte, if_true, if_false, not_true_eq_false, not_false_eq_true, ite_self, Nat.add_zero, Nat.zero_add, ent_def]
    exact kk _ _ ⟨rfl, rfl⟩
  · rintro z μ ⟨rfl, rfl⟩
    rw [eX3_heardInAll_4]
    simp (maxSteps := 1000000) (decide := true) (disch := (first | assumption | omega | exact Nat.div_mul_le_self _ _ | exact ni_nz (by omega) (by omega) | exact rfl | exact retOk_bI _ | exact retOk_0 | exact retOk_1)) only [eX3_heardInAll_0, eX3_heardInAll_1, eX3_heardInAll_2, eX3_heardInAll_3, eX3_heardInAll_5, eX3_heardInAll_7, eX3_heardInAll_10, eX3_heardInAll_11, eX3_heardInAll_12, eX3_heardInAll_15, eX3_heardInAll_16, eX3_heardInAll_17, eX3_heardInAll_18, eX3_heardInAll_19, eX3_heardInAll_22, eX3_heardInAll_25, eX3_heardInAll_26, Nat.le_refl, WpR_some, Option.toList_some, Option.toList_none, List.cons_append, List.nil_append, List.append_nil, clr_n, clr_i, clr_a, ni_add, ni_mul, ni_sub, ni_lt, ni_le, ni_eq, ni_div, nat_mod_eq, ni_rem, iMax_nn, iMin_nn, iMax_sub, Nat.zero_max, bI_0, bI_1, bI_n0, up2_s, up2_n, up2_k, va_up_self, va_up_ne, ni_l, lN_mul, lN_add, ln_mask, lN_i, ↓reduceIte, if_true, if_false, not_true_eq_false, not_false_eq_true, ite_self, Nat.add_zero, Nat.zero_add, ent_def]
    rw [← hQ]
theorem r_X3_lookedInAll (hS : Sh G a) (hV : ShV m a σ) (hB : Bd σ) : res mX3_lookedInAll [.ref a] (G, m, ml) = some (some (.int (nI (sumN (fun i => σ (35 + i)) (σ 45)))), (G, m, ml)) := by
  obtain ⟨s0, ⟨s1, s2, s3, s4, s5, s6⟩, ⟨g1, g2, g3, g4, g5, g6⟩, l1, l2, l3, l4, l5, l6⟩ := hS
  obtain ⟨⟨v0, v1, v2, v3, v4, v5, v6⟩, w1, w2, w3, w4, w5, w6⟩ := ShV_old hV
  have c2 := hB.2.1
  apply res_of
  show Wp mX3_lookedInAll 0 [some (.ref a), none, none] [] (G, m, ml) _
  generalize hQ : (fun (r : Option Value) (μ' : Mm) => (r, μ') = (some (.int (nI (sumN (fun i => σ (35 + i)) (σ 45)))), (G, m, ml))) = Q
  simp (maxSteps := 1000000) (decide := true) (disch := (first | assumption | omega | exact Nat.div_mul_le_self _ _ | exact ni_nz (by omega) (by omega) | exact rfl | exact retOk_bI _ | exact retOk_0 | exact retOk_1)) only [eX3_lookedInAll_0, eX3_lookedInAll_1, eX3_lookedInAll_2, eX3_lookedInAll_3, eX3_lookedInAll_5, eX3_lookedInAll_6, eX3_lookedInAll_9, eX3_lookedInAll_12, eX3_lookedInAll_13, eX3_lookedInAll_14, eX3_lookedInAll_17, eX3_lookedInAll_18, eX3_lookedInAll_19, eX3_lookedInAll_20, eX3_lookedInAll_21, eX3_lookedInAll_24, eX3_lookedInAll_27, eX3_lookedInAll_28, WpR_some, Option.toList_some, Option.toList_none, List.cons_append, List.nil_append, List.append_nil, clr_n, clr_i, clr_a, ni_add, ni_mul, ni_sub, ni_lt, ni_le, ni_eq, ni_div, nat_mod_eq, ni_rem, iMax_nn, iMin_nn, iMax_sub, Nat.zero_max, bI_0, bI_1, bI_n0, up2_s, up2_n, up2_k, va_up_self, va_up_ne, ni_l, lN_mul, lN_add, ln_mask, lN_i, ↓reduceIte, if_true, if_false, not_true_eq_false, not_false_eq_true, ite_self, Nat.add_zero, Nat.zero_add, ent_def]
  refine wp_for (X := Nat) (fun i z => [some (.ref a), some (.int (nI z)), some (.int (nI i))]) (fun i z μ => μ = (G, m, ml) ∧ z = sumN (fun i => σ (35 + i)) i) (σ 45) ?_ ?_ 0 0 _ (Nat.zero_le _) ⟨rfl, rfl⟩
  · rintro i z μ hi ⟨rfl, rfl⟩ kk
    have x5 := w5 i (by omega)
    have hlt : ¬ σ 45 ≤ i := by omega
    rw [eX3_lookedInAll_4]
    simp (maxSteps := 1000000) (decide := true) (disch := (first | assumption | omega | exact Nat.div_mul_le_self _ _ | exact ni_nz (by omega) (by omega) | exact rfl | exact retOk_bI _ | exact retOk_0 | exact retOk_1)) only [eX3_lookedInAll_0, eX3_lookedInAll_1, eX3_lookedInAll_2, eX3_lookedInAll_3, eX3_lookedInAll_5, eX3_lookedInAll_6, eX3_lookedInAll_9, eX3_lookedInAll_12, eX3_lookedInAll_13, eX3_lookedInAll_14, eX3_lookedInAll_17, eX3_lookedInAll_18, eX3_lookedInAll_19, eX3_lookedInAll_20, eX3_lookedInAll_21, eX3_lookedInAll_24, eX3_lookedInAll_27, eX3_lookedInAll_28, v1, s5, x5, hlt, WpR_some, Option.toList_some, Option.toList_none, List.cons_append, List.nil_append, List.append_nil, clr_n, clr_i, clr_a, ni_add, ni_mul, ni_sub, ni_lt, ni_le, ni_eq, ni_div, nat_mod_eq, ni_rem, iMax_nn, iMin_nn, iMax_sub, Nat.zero_max, bI_0, bI_1, bI_n0, up2_s, up2_n, up2_k, va_up_self, va_up_ne, ni_l, lN_mul, lN_add, ln_mask, lN_i, ↓reduceIte, if_true, if_false, not_true_eq_false, not_false_eq_true, ite_self, Nat.add_zero, Nat.zero_add, ent_def]
    exact kk _ _ ⟨rfl, rfl⟩
  · rintro z μ ⟨rfl, rfl⟩
    rw [eX3_lookedInAll_4]
    simp (maxSteps := 1000000) (decide := true) (disch := (first | assumption | omega | exact Nat.div_mul_le_self _ _ | exact ni_nz (by omega) (by omega) | exact rfl | exact retOk_bI _ | exact retOk_0 | exact retOk_1)) only [eX3_lookedInAll_0, eX3_lookedInAll_1, eX3_lookedInAll_2, eX3_lookedInAll_3, eX3_lookedInAll_5, eX3_lookedInAll_6, eX3_lookedInAll_9, eX3_lookedInAll_12, eX3_lookedInAll_13, eX3_lookedInAll_14, eX3_lookedInAll_17, eX3_lookedInAll_18, eX3_lookedInAll_19, eX3_lookedInAll_20, eX3_lookedInAll_21, eX3_lookedInAll_24, eX3_lookedInAll_27, eX3_lookedInAll_28, v1, Nat.le_refl, WpR_some, Option.toList_some, Option.toList_none, List.cons_append, List.nil_append, List.append_nil, clr_n, clr_i, clr_a, ni_add, ni_mul, ni_sub, ni_lt, ni_le, ni_eq, ni_div, nat_mod_eq, ni_rem, iMax_nn, iMin_nn, iMax_sub, Nat.zero_max, bI_0, bI_1, bI_n0, up2_s, up2_n, up2_k, va_up_self, va_up_ne, ni_l, lN_mul, lN_add, ln_mask, lN_i, ↓reduceIte, if_true, if_false, not_true_eq_false, not_false_eq_true, ite_self, Nat.add_zero, Nat.zero_add, ent_def]
    rw [← hQ]
theorem r_X3_suppose (hS : Sh G a) (ht : t < 5) {w : Int32} {d : Nat} (hd : d ≤ 2) : res mX3_suppose [.ref a, .int (nI d), .int (nI t), .int w] (G, m, ml) = some (none, (G, (if d = 0 then up2 m (a + 1) t w else if d = 1 then up2 m (a + 2) t w else up2 m a 4 w), ml)) := by
  obtain ⟨s0, ⟨s1, s2, s3, s4, s5, s6⟩, ⟨g1, g2, g3, g4, g5, g6⟩, l1, l2, l3, l4, l5, l6⟩ := hS
  apply res_of
  show Wp mX3_suppose 0 [some (.ref a), some (.int (nI d)), some (.int (nI t)), some (.int w)] [] (G, m, ml) _
  rcases (show d = 0 ∨ d = 1 ∨ d = 2 by omega) with rfl | rfl | rfl
  · simp (maxSteps := 1000000) (decide := true) (disch := (first | assumption | omega | exact Nat.div_mul_le_self _ _ | exact ni_nz (by omega) (by omega) | exact rfl | exact retOk_bI _ | exact retOk_0 | exact retOk_1)) only [eX3_suppose_0, eX3_suppose_1, eX3_suppose_4, eX3_suppose_5, eX3_suppose_8, eX3_suppose_9, eX3_suppose_10, eX3_suppose_11, eX3_suppose_14, eX3_suppose_15, eX3_suppose_16, eX3_suppose_19, eX3_suppose_20, eX3_suppose_23, eX3_suppose_24, eX3_suppose_25, eX3_suppose_26, eX3_suppose_29, eX3_suppose_30, eX3_suppose_31, eX3_suppose_34, s1, s2, WpR_some, Option.toList_some, Option.toList_none, List.cons_append, List.nil_append, List.append_nil, clr_n, clr_i, clr_a, ni_add, ni_mul, ni_sub, ni_lt, ni_le, ni_eq, ni_div, nat_mod_eq, ni_rem, iMax_nn, iMin_nn, iMax_sub, Nat.zero_max, bI_0, bI_1, bI_n0, up2_s, up2_n, up2_k, va_up_self, va_up_ne, ni_l, lN_mul, lN_add, ln_mask, lN_i, ↓reduceIte, if_true, if_false, not_true_eq_false, not_false_eq_true, ite_self, Nat.add_zero, Nat.zero_add, ent_def]
  · simp (maxSteps := 1000000) (decide := true) (disch := (first | assumption | omega | exact Nat.div_mul_le_self _ _ | exact ni_nz (by omega) (by omega) | exact rfl | exact retOk_bI _ | exact retOk_0 | exact retOk_1)) only [eX3_suppose_0, eX3_suppose_1, eX3_suppose_4, eX3_suppose_5, eX3_suppose_8, eX3_suppose_9, eX3_suppose_10, eX3_suppose_11, eX3_suppose_14, eX3_suppose_15, eX3_suppose_16, eX3_suppose_19, eX3_suppose_20, eX3_suppose_23, eX3_suppose_24, eX3_suppose_25, eX3_suppose_26, eX3_suppose_29, eX3_suppose_30, eX3_suppose_31, eX3_suppose_34, s1, s2, WpR_some, Option.toList_some, Option.toList_none, List.cons_append, List.nil_append, List.append_nil, clr_n, clr_i, clr_a, ni_add, ni_mul, ni_sub, ni_lt, ni_le, ni_eq, ni_div, nat_mod_eq, ni_rem, iMax_nn, iMin_nn, iMax_sub, Nat.zero_max, bI_0, bI_1, bI_n0, up2_s, up2_n, up2_k, va_up_self, va_up_ne, ni_l, lN_mul, lN_add, ln_mask, lN_i, ↓reduceIte, if_true, if_false, not_true_eq_false, not_false_eq_true, ite_self, Nat.add_zero, Nat.zero_add, ent_def]
  · simp (maxSteps := 1000000) (decide := true) (disch := (first | assumption | omega | exact Nat.div_mul_le_self _ _ | exact ni_nz (by omega) (by omega) | exact rfl | exact retOk_bI _ | exact retOk_0 | exact retOk_1)) only [eX3_suppose_0, eX3_suppose_1, eX3_suppose_4, eX3_suppose_5, eX3_suppose_8, eX3_suppose_9, eX3_suppose_10, eX3_suppose_11, eX3_suppose_14, eX3_suppose_15, eX3_suppose_16, eX3_suppose_19, eX3_suppose_20, eX3_suppose_23, eX3_suppose_24, eX3_suppose_25, eX3_suppose_26, eX3_suppose_29, eX3_suppose_30, eX3_suppose_31, eX3_suppose_34, s1, s2, WpR_some, Option.toList_some, Option.toList_none, List.cons_append, List.nil_append, List.append_nil, clr_n, clr_i, clr_a, ni_add, ni_mul, ni_sub, ni_lt, ni_le, ni_eq, ni_div, nat_mod_eq, ni_rem, iMax_nn, iMin_nn, iMax_sub, Nat.zero_max, bI_0, bI_1, bI_n0, up2_s, up2_n, up2_k, va_up_self, va_up_ne, ni_l, lN_mul, lN_add, ln_mask, lN_i, ↓reduceIte, if_true, if_false, not_true_eq_false, not_false_eq_true, ite_self, Nat.add_zero, Nat.zero_add, ent_def]
theorem cpy_in {α : Type} {f g : Nat → α} {n k : Nat} (h : k < n) : va_cpy f g 0 0 n k = f k := by
  unfold va_cpy
  rw [if_pos ⟨Nat.zero_le _, by omega⟩]
  congr 1
  omega
theorem r_X3_become {c : Nat} (hS : Sh G a) (hC : Sh G c) (hd : c + 6 < a ∨ a + 6 < c) : ∃ m', res mX3_become [.ref a, .ref c] (G, m, ml) = some (none, (G, m', ml)) ∧ (∀ σ, ShV m c σ → ShV m' a σ) ∧ (∀ b, b < a ∨ a + 6 < b → m' b = m b) := by
  obtain ⟨s0, ⟨s1, s2, s3, s4, s5, s6⟩, ⟨g1, g2, g3, g4, g5, g6⟩, l1, l2, l3, l4, l5, l6⟩ := hS
  obtain ⟨s0', ⟨s1', s2', s3', s4', s5', s6'⟩, ⟨g1', g2', g3', g4', g5', g6'⟩, l1', l2', l3', l4', l5', l6'⟩ := hC
  have key : Wp mX3_become 0 (ent [.ref a, .ref c] 2) [] (G, m, ml) (fun r μ' => ∃ m', r = none ∧ μ' = (G, m', ml) ∧ (∀ o k, (o = 0 ∧ k < 7) ∨ (1 ≤ o ∧ o ≤ 5 ∧ k < 5) ∨ (o = 6 ∧ k < 25) → m' (a + o) k = m (c + o) k) ∧ (∀ b, b < a ∨ a + 6 < b → m' b = m b)) := by
    show Wp mX3_become 0 [some (.ref a), some (.ref c)] [] (G, m, ml) _
    generalize hQ : (fun (r : Option Value) (μ' : Mm) => ∃ m', r = none ∧ μ' = (G, m', ml) ∧ (∀ o k, (o = 0 ∧ k < 7) ∨ (1 ≤ o ∧ o ≤ 5 ∧ k < 5) ∨ (o = 6 ∧ k < 25) → m' (a + o) k = m (c + o) k) ∧ (∀ b, b < a ∨ a + 6 < b → m' b = m b)) = Q
    simp (maxSteps := 1000000) (decide := true) (disch := (first | assumption | omega | exact Nat.div_mul_le_self _ _ | exact ni_nz (by omega) (by omega) | exact rfl | exact retOk_bI _ | exact retOk_0 | exact retOk_1)) only [eX3_become_0, eX3_become_1, eX3_become_2, eX3_become_5, eX3_become_8, eX3_become_9, eX3_become_10, eX3_become_13, eX3_become_16, eX3_become_17, eX3_become_18, eX3_become_21, eX3_become_24, eX3_become_25, eX3_become_26, eX3_become_29, eX3_become_32, eX3_become_33, eX3_become_34, eX3_become_37, eX3_become_40, eX3_become_41, eX3_become_42, eX3_become_45, eX3_become_48, eX3_become_49, eX3_become_50, eX3_become_53, eX3_become_56, eX3_become_57, eX3_become_60, eX3_become_61, eX3_become_62, eX3_become_65, eX3_become_66, eX3_become_67, eX3_become_70, eX3_become_71, eX3_become_74, eX3_become_75, eX3_become_76, eX3_become_79, eX3_become_80, eX3_become_81, eX3_become_84, eX3_become_85, eX3_become_88, eX3_become_89, eX3_become_90, eX3_become_93, eX3_become_94, eX3_become_95, eX3_become_98, eX3_become_99, eX3_become_102, eX3_become_103, eX3_become_104, eX3_become_107, eX3_become_108, eX3_become_109, eX3_become_112, eX3_become_113, eX3_become_116, eX3_become_117, eX3_become_118, eX3_become_121, eX3_become_122, eX3_become_123, eX3_become_126, eX3_become_127, eX3_become_130, eX3_become_131, eX3_become_132, eX3_become_135, eX3_become_136, eX3_become_138, eX3_become_141, s1, s2, s3, s4, s5, s6, s1', s2', s3', s4', s5', s6', WpR_some, Option.toList_some, Option.toList_none, List.cons_append, List.nil_append, List.append_nil, clr_n, clr_i, clr_a, ni_add, ni_mul, ni_sub, ni_lt, ni_le, ni_eq, ni_div, nat_mod_eq, ni_rem, iMax_nn, iMin_nn, iMax_sub, Nat.zero_max, bI_0, bI_1, bI_n0, up2_s, up2_n, up2_k, va_up_self, va_up_ne, ni_l, lN_mul, lN_add, ln_mask, lN_i, ↓reduceIte, if_true, if_false, not_true_eq_false, not_false_eq_true, ite_self, Nat.add_zero, Nat.zero_add, ent_def]
    rw [← hQ]
    refine ⟨_, rfl, rfl, ?_, ?_⟩
    · intro o k h
      rcases (show o = 0 ∨ o = 1 ∨ o = 2 ∨ o = 3 ∨ o = 4 ∨ o = 5 ∨ o = 6 by omega) with rfl | rfl | rfl | rfl | rfl | rfl | rfl
      · rcases (show k = 0 ∨ k = 1 ∨ k = 2 ∨ k = 3 ∨ k = 4 ∨ k = 5 ∨ k = 6 by omega) with rfl | rfl | rfl | rfl | rfl | rfl | rfl <;> simp (disch := omega) only [Nat.add_zero, va_up_ne, va_up_self, up2_s, up2_k, up2_n]
      all_goals (simp (disch := omega) only [va_up_ne, va_up_self, up2_s, up2_k, up2_n]; rw [cpy_in (by omega)])
    · intro b hb
      simp (disch := omega) only [va_up_ne, va_up_self, up2_s, up2_k, up2_n]
  obtain ⟨r, μ', e1, m', rfl, rfl, h2, h3⟩ := res_ex key
  refine ⟨m', e1, ?_, h3⟩
  intro σ hV
  obtain ⟨q1, q2, q3, q4⟩ := hV
  refine ⟨q1, q2, ?_, ?_⟩
  · rw [← q3]; exact h2 0 2 (Or.inl ⟨rfl, by decide⟩)
  · intro i hi hl
    rw [← q4 i hi hl]
    apply h2
    unfold cO cK
    repeat' split
    all_goals omega
end SH2
