def hvS (σ : Nat → Nat) (h : Nat) : Bool := decide (h < σ 45 ∧ pl σ h < σ 44)
def xS (σ : Nat → Nat) (h : Nat) : Bool := decide (σ h < cst σ h (pl σ h))
def yS (σ : Nat → Nat) (h : Nat) : Bool := decide (σ h < cst σ h (pl σ h) / 2)
def dzA (σ : Nat → Nat) (c x : Nat) : Nat := Cl (hvS σ) (xS σ) (yS σ) c (10 - c) 5 (fun j => if x ≤ j then 1 else 0)
def dzB (σ : Nat → Nat) : Nat := csN (hvS σ) 5
def dzS (σ : Nat → Nat) (x c : Nat) (w : Int32) : Int32 := if w = nI 0 then nI (dzA σ c x / Nat.gcd (dzB σ) (dzA σ c x)) else nI (dzB σ / Nat.gcd (dzB σ) (dzA σ c x))
def WV (m : Nat → Nat → Int32) (wv : Nat → Nat) : Prop := ∀ j, j < 6 → m 157 j = nI (wv j)
section CDZ
variable {G : List AT} {m : Nat → Nat → Int32} {ml : Nat → Nat → Int64} {a b n s h t x y z k c p q i j : Nat} {σ : Nat → Nat} {u v w : Int32} {f : Nat → Nat → Nat} {wv : Nat → Nat} {μ : Mm}
theorem dzA_le (hc : c ≤ 10) : dzA σ c x ≤ 600000 := by
  have h1 := sumN_le (f := fun j => (if x ≤ j then 1 else 0) * wy (hvS σ) (xS σ) (yS σ) c (10 - c) 5 j) (c := 100000) 6 (fun k _ => by
    have h2 := wy_le (hv := hvS σ) (x := xS σ) (y := yS σ) (show c + (10 - c) = 10 by omega) 5 k
    show (if x ≤ k then 1 else 0) * wy (hvS σ) (xS σ) (yS σ) c (10 - c) 5 k ≤ 100000
    split
    · rw [Nat.one_mul]; exact h2
    · omega)
  exact h1
theorem dzB_le : 1 ≤ dzB σ ∧ dzB σ ≤ 100000 := csN_le 5
theorem wy_end (hH : σ 45 ≤ n) : wy (hvS σ) (xS σ) (yS σ) p q n j = wy (hvS σ) (xS σ) (yS σ) p q (σ 45) j ∧ csN (hvS σ) n = csN (hvS σ) (σ 45) := by
  obtain ⟨d, rfl⟩ : ∃ d, n = σ 45 + d := ⟨n - σ 45, by omega⟩
  clear hH
  induction d with
  | zero => exact ⟨rfl, rfl⟩
  | succ d ih =>
    have e : hvS σ (σ 45 + d) = false := decide_eq_false (by omega)
    rw [← Nat.add_assoc, wy_s, csN_s, e]
    exact ih
theorem r_X6_looksOfTen {cost be : Nat} (hc : c ≤ 10) (h1 : cost < 1000) (h2 : be < 1000) : res mX6_looksOfTen [.int (nI cost), .int (nI be), .int (nI c)] μ = some (some (.int (nI ((if be < cost then 10 - c else 0) + (if be < cost / 2 then c else 0)))), μ) := by
  apply res_of
  show Wp mX6_looksOfTen 0 [some (.int (nI cost)), some (.int (nI be)), some (.int (nI c)), none, none] [] μ _
  by_cases c1 : be < cost
  · have c1' : ¬ cost ≤ be := by omega
    by_cases c2 : be < cost / 2
    · have c2' : ¬ cost / 2 ≤ be := by omega
      simp (maxSteps := 1000000) (decide := true) (disch := (first | assumption | omega | exact Nat.div_mul_le_self _ _ | exact ni_nz (by omega) (by omega) | exact rfl | exact retOk_bI _ | exact retOk_0 | exact retOk_1)) only [eX6_looksOfTen_0, eX6_looksOfTen_1, eX6_looksOfTen_2, eX6_looksOfTen_5, eX6_looksOfTen_7, eX6_looksOfTen_8, eX6_looksOfTen_9, eX6_looksOfTen_12, eX6_looksOfTen_13, eX6_looksOfTen_14, eX6_looksOfTen_15, eX6_looksOfTen_16, eX6_looksOfTen_17, eX6_looksOfTen_18, eX6_looksOfTen_21, eX6_looksOfTen_22, eX6_looksOfTen_25, eX6_looksOfTen_26, eX6_looksOfTen_28, eX6_looksOfTen_29, eX6_looksOfTen_31, eX6_looksOfTen_32, c1, c1', c2, c2', WpR_some, Option.toList_some, Option.toList_none, List.cons_append, List.nil_append, List.append_nil, clr_n, clr_i, clr_a, ni_add, ni_mul, ni_sub, ni_lt, ni_le, ni_eq, ni_div, nat_mod_eq, ni_rem, iMax_nn, iMin_nn, iMax_sub, Nat.zero_max, bI_0, bI_1, bI_n0, up2_s, up2_n, up2_k, va_up_self, va_up_ne, ni_l, lN_mul, lN_add, ln_mask, lN_i, ↓reduceIte, if_true, if_false, not_true_eq_false, not_false_eq_true, ite_self, Nat.add_zero, Nat.zero_add, ent_def]
    · have c2' : cost / 2 ≤ be := by omega
      simp (maxSteps := 1000000) (decide := true) (disch := (first | assumption | omega | exact Nat.div_mul_le_self _ _ | exact ni_nz (by omega) (by omega) | exact rfl | exact retOk_bI _ | exact retOk_0 | exact retOk_1)) only [eX6_looksOfTen_0, eX6_looksOfTen_1, eX6_looksOfTen_2, eX6_looksOfTen_5, eX6_looksOfTen_7, eX6_looksOfTen_8, eX6_looksOfTen_9, eX6_looksOfTen_12, eX6_looksOfTen_13, eX6_looksOfTen_14, eX6_looksOfTen_15, eX6_looksOfTen_16, eX6_looksOfTen_17, eX6_looksOfTen_18, eX6_looksOfTen_21, eX6_looksOfTen_22, eX6_looksOfTen_25, eX6_looksOfTen_26, eX6_looksOfTen_28, eX6_looksOfTen_29, eX6_looksOfTen_31, eX6_looksOfTen_32, c1, c1', c2, c2', WpR_some, Option.toList_some, Option.toList_none, List.cons_append, List.nil_append, List.append_nil, clr_n, clr_i, clr_a, ni_add, ni_mul, ni_sub, ni_lt, ni_le, ni_eq, ni_div, nat_mod_eq, ni_rem, iMax_nn, iMin_nn, iMax_sub, Nat.zero_max, bI_0, bI_1, bI_n0, up2_s, up2_n, up2_k, va_up_self, va_up_ne, ni_l, lN_mul, lN_add, ln_mask, lN_i, ↓reduceIte, if_true, if_false, not_true_eq_false, not_false_eq_true, ite_self, Nat.add_zero, Nat.zero_add, ent_def]
  · have c1' : cost ≤ be := by omega
    have c2' : cost / 2 ≤ be := by omega
    have c2 : ¬ be < cost / 2 := by omega
    simp (maxSteps := 1000000) (decide := true) (disch := (first | assumption | omega | exact Nat.div_mul_le_self _ _ | exact ni_nz (by omega) (by omega) | exact rfl | exact retOk_bI _ | exact retOk_0 | exact retOk_1)) only [eX6_looksOfTen_0, eX6_looksOfTen_1, eX6_looksOfTen_2, eX6_looksOfTen_5, eX6_looksOfTen_7, eX6_looksOfTen_8, eX6_looksOfTen_9, eX6_looksOfTen_12, eX6_looksOfTen_13, eX6_looksOfTen_14, eX6_looksOfTen_15, eX6_looksOfTen_16, eX6_looksOfTen_17, eX6_looksOfTen_18, eX6_looksOfTen_21, eX6_looksOfTen_22, eX6_looksOfTen_25, eX6_looksOfTen_26, eX6_looksOfTen_28, eX6_looksOfTen_29, eX6_looksOfTen_31, eX6_looksOfTen_32, c1, c1', c2, c2', WpR_some, Option.toList_some, Option.toList_none, List.cons_append, List.nil_append, List.append_nil, clr_n, clr_i, clr_a, ni_add, ni_mul, ni_sub, ni_lt, ni_le, ni_eq, ni_div, nat_mod_eq, ni_rem, iMax_nn, iMin_nn, iMax_sub, Nat.zero_max, bI_0, bI_1, bI_n0, up2_s, up2_n, up2_k, va_up_self, va_up_ne, ni_l, lN_mul, lN_add, ln_mask, lN_i, ↓reduceIte, if_true, if_false, not_true_eq_false, not_false_eq_true, ite_self, Nat.add_zero, Nat.zero_add, ent_def]
theorem r_X6_addHearerToWays (hG : GW G) (hW : WV m wv) (ha : a ≤ 10) : ∃ m', res mX6_addHearerToWays [.ref 2, .int (nI a)] (G, m, ml) = some (none, (G, m', ml)) ∧ WV m' (fun j => wv j * (10 - a) + (if j = 0 then 0 else wv (j - 1)) * a) ∧ (∀ b, b ≠ 157 → m' b = m b) := by
  obtain ⟨⟨g0, g1, g2, g3, g4, g5, g6, g7, g8, g9, g10, g11, g12⟩, -, -, -, -, -, ⟨w1, w2⟩⟩ := hG
  have key : Wp mX6_addHearerToWays 0 (ent [.ref 2, .int (nI a)] 4) [] (G, m, ml) (fun r μ' => ∃ m', r = none ∧ μ' = (G, m', ml) ∧ WV m' (fun j => wv j * (10 - a) + (if j = 0 then 0 else wv (j - 1)) * a) ∧ (∀ b, b ≠ 157 → m' b = m b)) := by
    show Wp mX6_addHearerToWays 0 [some (.ref 2), some (.int (nI a)), none, none] [] (G, m, ml) _
    generalize hQ : (fun (r : Option Value) (μ' : Mm) => ∃ m', r = none ∧ μ' = (G, m', ml) ∧ WV m' (fun j => wv j * (10 - a) + (if j = 0 then 0 else wv (j - 1)) * a) ∧ (∀ b, b ≠ 157 → m' b = m b)) = Q
    simp (maxSteps := 1000000) (decide := true) (disch := (first | assumption | omega | exact Nat.div_mul_le_self _ _ | exact ni_nz (by omega) (by omega) | exact rfl | exact retOk_bI _ | exact retOk_0 | exact retOk_1)) only [eX6_addHearerToWays_0, eX6_addHearerToWays_1, eX6_addHearerToWays_3, eX6_addHearerToWays_6, eX6_addHearerToWays_7, eX6_addHearerToWays_10, eX6_addHearerToWays_11, eX6_addHearerToWays_14, eX6_addHearerToWays_15, eX6_addHearerToWays_18, eX6_addHearerToWays_19, eX6_addHearerToWays_20, eX6_addHearerToWays_21, eX6_addHearerToWays_22, eX6_addHearerToWays_23, eX6_addHearerToWays_24, eX6_addHearerToWays_27, eX6_addHearerToWays_28, eX6_addHearerToWays_29, eX6_addHearerToWays_32, eX6_addHearerToWays_33, eX6_addHearerToWays_34, eX6_addHearerToWays_36, eX6_addHearerToWays_37, eX6_addHearerToWays_38, eX6_addHearerToWays_39, eX6_addHearerToWays_40, eX6_addHearerToWays_41, eX6_addHearerToWays_42, eX6_addHearerToWays_43, eX6_addHearerToWays_44, eX6_addHearerToWays_47, eX6_addHearerToWays_50, WpR_some, Option.toList_some, Option.toList_none, List.cons_append, List.nil_append, List.append_nil, clr_n, clr_i, clr_a, ni_add, ni_mul, ni_sub, ni_lt, ni_le, ni_eq, ni_div, nat_mod_eq, ni_rem, iMax_nn, iMin_nn, iMax_sub, Nat.zero_max, bI_0, bI_1, bI_n0, up2_s, up2_n, up2_k, va_up_self, va_up_ne, ni_l, lN_mul, lN_add, ln_mask, lN_i, ↓reduceIte, if_true, if_false, not_true_eq_false, not_false_eq_true, ite_self, Nat.add_zero, Nat.zero_add, ent_def]
    have e0 : nI 5 = rz (6 - 0) := rfl
    rw [e0]
    refine wp_for (X := Option Value) (fun i z => [some (.ref 2), some (.int (nI a)), some (.int (rz (6 - i))), z]) (fun i _ μ => ∃ m2, μ = (G, m2, ml) ∧ (∀ j, j < 6 - i → m2 157 j = nI (wv j)) ∧ (∀ j, 6 - i ≤ j → j < 6 → m2 157 j = nI (wv j * (10 - a) + (if j = 0 then 0 else wv (j - 1)) * a)) ∧ (∀ b, b ≠ 157 → m2 b = m b)) 6 ?_ ?_ 0 none _ (Nat.zero_le _) ⟨m, rfl, fun j hj => hW j (by omega), fun j h1 h2 => by omega, fun _ _ => rfl⟩
    · rintro i z μ hi ⟨m2, rfl, V1, V2, F2⟩ kk
      have e1 : 6 - i = (6 - (i + 1)) + 1 := by omega
      have e2 : rz (6 - i) = nI (6 - (i + 1)) := by rw [e1]; rfl
      have e3 : nI (6 - (i + 1)) + (-1) = rz (6 - (i + 1)) := by
        by_cases hz : 6 - (i + 1) = 0
        · rw [hz]; decide
        · rw [ni_dec (by omega)]; unfold rz; rw [if_neg hz]
      have x1 := V1 (6 - (i + 1)) (by omega)
      have fin : ∀ (o : Nat) (z : Option Value), o = (if 6 - (i + 1) = 0 then 0 else wv (6 - (i + 1) - 1)) → Wp mX6_addHearerToWays 2 ([some (.ref 2), some (.int (nI a)), some (.int (rz (6 - (i + 1)))), z]) [] (G, up2 m2 157 (6 - (i + 1)) (nI (wv (6 - (i + 1)) * (10 - a) + o * a)), ml) Q := by
        intro o z ho
        refine kk z _ ⟨_, rfl, ?_, ?_, fun b hb => by rw [up2_n hb]; exact F2 b hb⟩
        · intro j hj; rw [up2_k (by omega)]; exact V1 j (by omega)
        · intro j h1 h2
          by_cases hq : j = 6 - (i + 1)
          · rw [hq, up2_s, ho]
          · rw [up2_k hq]; exact V2 j (by omega) h2
      rw [e2, eX6_addHearerToWays_2]
      by_cases hz : 6 - (i + 1) = 0
      · have f1 := fin 0 (some (.int (nI 0))) (by rw [if_pos hz])
        rw [hz] at f1 x1 e3 ⊢
        simp (maxSteps := 1000000) (decide := true) (disch := (first | assumption | omega | exact Nat.div_mul_le_self _ _ | exact ni_nz (by omega) (by omega) | exact rfl | exact retOk_bI _ | exact retOk_0 | exact retOk_1)) only [eX6_addHearerToWays_0, eX6_addHearerToWays_1, eX6_addHearerToWays_3, eX6_addHearerToWays_6, eX6_addHearerToWays_7, eX6_addHearerToWays_10, eX6_addHearerToWays_11, eX6_addHearerToWays_14, eX6_addHearerToWays_15, eX6_addHearerToWays_18, eX6_addHearerToWays_19, eX6_addHearerToWays_20, eX6_addHearerToWays_21, eX6_addHearerToWays_22, eX6_addHearerToWays_23, eX6_addHearerToWays_24, eX6_addHearerToWays_27, eX6_addHearerToWays_28, eX6_addHearerToWays_29, eX6_addHearerToWays_32, eX6_addHearerToWays_33, eX6_addHearerToWays_34, eX6_addHearerToWays_36, eX6_addHearerToWays_37, eX6_addHearerToWays_38, eX6_addHearerToWays_39, eX6_addHearerToWays_40, eX6_addHearerToWays_41, eX6_addHearerToWays_42, eX6_addHearerToWays_43, eX6_addHearerToWays_44, eX6_addHearerToWays_47, eX6_addHearerToWays_50, g12, x1, e3, Nat.zero_mul, WpR_some, Option.toList_some, Option.toList_none, List.cons_append, List.nil_append, List.append_nil, clr_n, clr_i, clr_a, ni_add, ni_mul, ni_sub, ni_lt, ni_le, ni_eq, ni_div, nat_mod_eq, ni_rem, iMax_nn, iMin_nn, iMax_sub, Nat.zero_max, bI_0, bI_1, bI_n0, up2_s, up2_n, up2_k, va_up_self, va_up_ne, ni_l, lN_mul, lN_add, ln_mask, lN_i, ↓reduceIte, if_true, if_false, not_true_eq_false, not_false_eq_true, ite_self, Nat.add_zero, Nat.zero_add, ent_def] at f1 ⊢
        exact f1
      · have f1 := fin (wv (6 - (i + 1) - 1)) (some (.int (nI (wv (6 - (i + 1) - 1))))) (by rw [if_neg hz])
        have x2 := V1 (6 - (i + 1) - 1) (by omega)
        simp (maxSteps := 1000000) (decide := true) (disch := (first | assumption | omega | exact Nat.div_mul_le_self _ _ | exact ni_nz (by omega) (by omega) | exact rfl | exact retOk_bI _ | exact retOk_0 | exact retOk_1)) only [eX6_addHearerToWays_0, eX6_addHearerToWays_1, eX6_addHearerToWays_3, eX6_addHearerToWays_6, eX6_addHearerToWays_7, eX6_addHearerToWays_10, eX6_addHearerToWays_11, eX6_addHearerToWays_14, eX6_addHearerToWays_15, eX6_addHearerToWays_18, eX6_addHearerToWays_19, eX6_addHearerToWays_20, eX6_addHearerToWays_21, eX6_addHearerToWays_22, eX6_addHearerToWays_23, eX6_addHearerToWays_24, eX6_addHearerToWays_27, eX6_addHearerToWays_28, eX6_addHearerToWays_29, eX6_addHearerToWays_32, eX6_addHearerToWays_33, eX6_addHearerToWays_34, eX6_addHearerToWays_36, eX6_addHearerToWays_37, eX6_addHearerToWays_38, eX6_addHearerToWays_39, eX6_addHearerToWays_40, eX6_addHearerToWays_41, eX6_addHearerToWays_42, eX6_addHearerToWays_43, eX6_addHearerToWays_44, eX6_addHearerToWays_47, eX6_addHearerToWays_50, g12, x1, x2, e3, hz, Nat.not_lt_zero, WpR_some, Option.toList_some, Option.toList_none, List.cons_append, List.nil_append, List.append_nil, clr_n, clr_i, clr_a, ni_add, ni_mul, ni_sub, ni_lt, ni_le, ni_eq, ni_div, nat_mod_eq, ni_rem, iMax_nn, iMin_nn, iMax_sub, Nat.zero_max, bI_0, bI_1, bI_n0, up2_s, up2_n, up2_k, va_up_self, va_up_ne, ni_l, lN_mul, lN_add, ln_mask, lN_i, ↓reduceIte, if_true, if_false, not_true_eq_false, not_false_eq_true, ite_self, Nat.add_zero, Nat.zero_add, ent_def]
        exact f1
    · rintro z μ ⟨m2, rfl, V1, V2, F2⟩
      have hz : rz (6 - 6) = -1 := rfl
      rw [hz, eX6_addHearerToWays_2]
      simp (maxSteps := 1000000) (decide := true) (disch := (first | assumption | omega | exact Nat.div_mul_le_self _ _ | exact ni_nz (by omega) (by omega) | exact rfl | exact retOk_bI _ | exact retOk_0 | exact retOk_1)) only [eX6_addHearerToWays_0, eX6_addHearerToWays_1, eX6_addHearerToWays_3, eX6_addHearerToWays_6, eX6_addHearerToWays_7, eX6_addHearerToWays_10, eX6_addHearerToWays_11, eX6_addHearerToWays_14, eX6_addHearerToWays_15, eX6_addHearerToWays_18, eX6_addHearerToWays_19, eX6_addHearerToWays_20, eX6_addHearerToWays_21, eX6_addHearerToWays_22, eX6_addHearerToWays_23, eX6_addHearerToWays_24, eX6_addHearerToWays_27, eX6_addHearerToWays_28, eX6_addHearerToWays_29, eX6_addHearerToWays_32, eX6_addHearerToWays_33, eX6_addHearerToWays_34, eX6_addHearerToWays_36, eX6_addHearerToWays_37, eX6_addHearerToWays_38, eX6_addHearerToWays_39, eX6_addHearerToWays_40, eX6_addHearerToWays_41, eX6_addHearerToWays_42, eX6_addHearerToWays_43, eX6_addHearerToWays_44, eX6_addHearerToWays_47, eX6_addHearerToWays_50, WpR_some, Option.toList_some, Option.toList_none, List.cons_append, List.nil_append, List.append_nil, clr_n, clr_i, clr_a, ni_add, ni_mul, ni_sub, ni_lt, ni_le, ni_eq, ni_div, nat_mod_eq, ni_rem, iMax_nn, iMin_nn, iMax_sub, Nat.zero_max, bI_0, bI_1, bI_n0, up2_s, up2_n, up2_k, va_up_self, va_up_ne, ni_l, lN_mul, lN_add, ln_mask, lN_i, ↓reduceIte, if_true, if_false, not_true_eq_false, not_false_eq_true, ite_self, Nat.add_zero, Nat.zero_add, ent_def]
      rw [← hQ]
      exact ⟨m2, rfl, rfl, fun j hj => V2 j (by omega) hj, F2⟩
  obtain ⟨r, μ', e1, m', rfl, rfl, h2⟩ := res_ex key
  exact ⟨m', e1, h2⟩
theorem r_X6_weighLooks (hG : GW G) (hC : CA m σ k f) (hB : Bd σ) (hc : c ≤ 10) : ∃ m', res mX6_weighLooks [.ref 2, .int (nI c)] (G, m, ml) = some (some (.int (nI (dzB σ))), (G, m', ml)) ∧ WV m' (wy (hvS σ) (xS σ) (yS σ) c (10 - c) 5) ∧ (∀ b, b ≠ 157 → m' b = m b) := by
  have b1 := hB.1
  have b2 := hB.2.1
  have hG0 := hG
  obtain ⟨⟨g0, g1, g2, g3, g4, g5, g6, g7, g8, g9, g10, g11, g12⟩, ⟨s3, -⟩, -, -, -, -, ⟨w1, w2⟩⟩ := hG
  have s3' := s3
  obtain ⟨s0, ⟨s1, s2, s3, s4, s5, s6⟩, ⟨q1, q2, q3, q4, q5, q6⟩, l1, l2, l3, l4, l5, l6⟩ := s3
  have key : Wp mX6_weighLooks 0 (ent [.ref 2, .int (nI c)] 5) [] (G, m, ml) (fun r μ' => ∃ m', r = some (.int (nI (dzB σ))) ∧ μ' = (G, m', ml) ∧ WV m' (wy (hvS σ) (xS σ) (yS σ) c (10 - c) 5) ∧ (∀ b, b ≠ 157 → m' b = m b)) := by
    show Wp mX6_weighLooks 0 [some (.ref 2), some (.int (nI c)), none, none, none] [] (G, m, ml) _
    generalize hQ : (fun (r : Option Value) (μ' : Mm) => ∃ m', r = some (.int (nI (dzB σ))) ∧ μ' = (G, m', ml) ∧ WV m' (wy (hvS σ) (xS σ) (yS σ) c (10 - c) 5) ∧ (∀ b, b ≠ 157 → m' b = m b)) = Q
    simp (maxSteps := 1000000) (decide := true) (disch := (first | assumption | omega | exact Nat.div_mul_le_self _ _ | exact ni_nz (by omega) (by omega) | exact rfl | exact retOk_bI _ | exact retOk_0 | exact retOk_1)) only [eX6_weighLooks_0, eX6_weighLooks_1, eX6_weighLooks_3, eX6_weighLooks_4, eX6_weighLooks_7, eX6_weighLooks_8, eX6_weighLooks_11, eX6_weighLooks_12, eX6_weighLooks_13, eX6_weighLooks_16, eX6_weighLooks_17, eX6_weighLooks_20, eX6_weighLooks_21, eX6_weighLooks_22, eX6_weighLooks_25, eX6_weighLooks_28, eX6_weighLooks_29, eX6_weighLooks_30, eX6_weighLooks_31, eX6_weighLooks_33, eX6_weighLooks_34, eX6_weighLooks_37, eX6_weighLooks_40, eX6_weighLooks_43, eX6_weighLooks_44, eX6_weighLooks_47, eX6_weighLooks_48, eX6_weighLooks_51, eX6_weighLooks_53, eX6_weighLooks_55, eX6_weighLooks_57, eX6_weighLooks_60, eX6_weighLooks_61, eX6_weighLooks_62, eX6_weighLooks_65, eX6_weighLooks_66, eX6_weighLooks_68, eX6_weighLooks_71, eX6_weighLooks_72, eX6_weighLooks_75, eX6_weighLooks_78, eX6_weighLooks_79, eX6_weighLooks_80, eX6_weighLooks_81, eX6_weighLooks_84, eX6_weighLooks_87, eX6_weighLooks_88, eX6_weighLooks_90, eX6_weighLooks_91, eX6_weighLooks_92, eX6_weighLooks_95, eX6_weighLooks_98, eX6_weighLooks_99, WpR_some, Option.toList_some, Option.toList_none, List.cons_append, List.nil_append, List.append_nil, clr_n, clr_i, clr_a, ni_add, ni_mul, ni_sub, ni_lt, ni_le, ni_eq, ni_div, nat_mod_eq, ni_rem, iMax_nn, iMin_nn, iMax_sub, Nat.zero_max, bI_0, bI_1, bI_n0, up2_s, up2_n, up2_k, va_up_self, va_up_ne, ni_l, lN_mul, lN_add, ln_mask, lN_i, ↓reduceIte, if_true, if_false, not_true_eq_false, not_false_eq_true, ite_self, Nat.add_zero, Nat.zero_add, ent_def]
    refine wp_for (X := Unit) (fun i z => [some (.ref 2), some (.int (nI c)), some (.int (nI i)), none, none]) (fun i _ μ => ∃ m2, μ = (G, m2, ml) ∧ (∀ j, j < i → m2 157 j = nI (if j = 0 then 1 else 0)) ∧ (∀ b, b ≠ 157 → m2 b = m b)) 6 ?_ ?_ 0 () _ (Nat.zero_le _) ⟨m, rfl, fun j hj => absurd hj (Nat.not_lt_zero _), fun _ _ => rfl⟩
    · rintro i - μ hi ⟨m2, rfl, V2, F2⟩ kk
      have hlt : ¬ 5 < i := by omega
      have fin : ∀ o, o = (if i = 0 then 1 else 0) → Wp mX6_weighLooks 2 ([some (.ref 2), some (.int (nI c)), some (.int (nI (i + 1))), none, none]) [] (G, up2 m2 157 i (nI o), ml) Q := by
        intro o ho
        refine kk () _ ⟨_, rfl, ?_, fun b hb => by rw [up2_n hb]; exact F2 b hb⟩
        intro j hj
        by_cases hq : j = i
        · rw [hq, up2_s, ho]
        · rw [up2_k hq]; exact V2 j (by omega)
      rw [eX6_weighLooks_2]
      by_cases hz : i = 0
      · subst hz
        have f1 := fin 1 rfl
        simp (maxSteps := 1000000) (decide := true) (disch := (first | assumption | omega | exact Nat.div_mul_le_self _ _ | exact ni_nz (by omega) (by omega) | exact rfl | exact retOk_bI _ | exact retOk_0 | exact retOk_1)) only [eX6_weighLooks_0, eX6_weighLooks_1, eX6_weighLooks_3, eX6_weighLooks_4, eX6_weighLooks_7, eX6_weighLooks_8, eX6_weighLooks_11, eX6_weighLooks_12, eX6_weighLooks_13, eX6_weighLooks_16, eX6_weighLooks_17, eX6_weighLooks_20, eX6_weighLooks_21, eX6_weighLooks_22, eX6_weighLooks_25, eX6_weighLooks_28, eX6_weighLooks_29, eX6_weighLooks_30, eX6_weighLooks_31, eX6_weighLooks_33, eX6_weighLooks_34, eX6_weighLooks_37, eX6_weighLooks_40, eX6_weighLooks_43, eX6_weighLooks_44, eX6_weighLooks_47, eX6_weighLooks_48, eX6_weighLooks_51, eX6_weighLooks_53, eX6_weighLooks_55, eX6_weighLooks_57, eX6_weighLooks_60, eX6_weighLooks_61, eX6_weighLooks_62, eX6_weighLooks_65, eX6_weighLooks_66, eX6_weighLooks_68, eX6_weighLooks_71, eX6_weighLooks_72, eX6_weighLooks_75, eX6_weighLooks_78, eX6_weighLooks_79, eX6_weighLooks_80, eX6_weighLooks_81, eX6_weighLooks_84, eX6_weighLooks_87, eX6_weighLooks_88, eX6_weighLooks_90, eX6_weighLooks_91, eX6_weighLooks_92, eX6_weighLooks_95, eX6_weighLooks_98, eX6_weighLooks_99, g12, WpR_some, Option.toList_some, Option.toList_none, List.cons_append, List.nil_append, List.append_nil, clr_n, clr_i, clr_a, ni_add, ni_mul, ni_sub, ni_lt, ni_le, ni_eq, ni_div, nat_mod_eq, ni_rem, iMax_nn, iMin_nn, iMax_sub, Nat.zero_max, bI_0, bI_1, bI_n0, up2_s, up2_n, up2_k, va_up_self, va_up_ne, ni_l, lN_mul, lN_add, ln_mask, lN_i, ↓reduceIte, if_true, if_false, not_true_eq_false, not_false_eq_true, ite_self, Nat.add_zero, Nat.zero_add, ent_def]
        exact f1
      · have f1 := fin 0 (by rw [if_neg hz])
        simp (maxSteps := 1000000) (decide := true) (disch := (first | assumption | omega | exact Nat.div_mul_le_self _ _ | exact ni_nz (by omega) (by omega) | exact rfl | exact retOk_bI _ | exact retOk_0 | exact retOk_1)) only [eX6_weighLooks_0, eX6_weighLooks_1, eX6_weighLooks_3, eX6_weighLooks_4, eX6_weighLooks_7, eX6_weighLooks_8, eX6_weighLooks_11, eX6_weighLooks_12, eX6_weighLooks_13, eX6_weighLooks_16, eX6_weighLooks_17, eX6_weighLooks_20, eX6_weighLooks_21, eX6_weighLooks_22, eX6_weighLooks_25, eX6_weighLooks_28, eX6_weighLooks_29, eX6_weighLooks_30, eX6_weighLooks_31, eX6_weighLooks_33, eX6_weighLooks_34, eX6_weighLooks_37, eX6_weighLooks_40, eX6_weighLooks_43, eX6_weighLooks_44, eX6_weighLooks_47, eX6_weighLooks_48, eX6_weighLooks_51, eX6_weighLooks_53, eX6_weighLooks_55, eX6_weighLooks_57, eX6_weighLooks_60, eX6_weighLooks_61, eX6_weighLooks_62, eX6_weighLooks_65, eX6_weighLooks_66, eX6_weighLooks_68, eX6_weighLooks_71, eX6_weighLooks_72, eX6_weighLooks_75, eX6_weighLooks_78, eX6_weighLooks_79, eX6_weighLooks_80, eX6_weighLooks_81, eX6_weighLooks_84, eX6_weighLooks_87, eX6_weighLooks_88, eX6_weighLooks_90, eX6_weighLooks_91, eX6_weighLooks_92, eX6_weighLooks_95, eX6_weighLooks_98, eX6_weighLooks_99, g12, hlt, hz, WpR_some, Option.toList_some, Option.toList_none, List.cons_append, List.nil_append, List.append_nil, clr_n, clr_i, clr_a, ni_add, ni_mul, ni_sub, ni_lt, ni_le, ni_eq, ni_div, nat_mod_eq, ni_rem, iMax_nn, iMin_nn, iMax_sub, Nat.zero_max, bI_0, bI_1, bI_n0, up2_s, up2_n, up2_k, va_up_self, va_up_ne, ni_l, lN_mul, lN_add, ln_mask, lN_i, ↓reduceIte, if_true, if_false, not_true_eq_false, not_false_eq_true, ite_self, Nat.add_zero, Nat.zero_add, ent_def]
        exact f1
    · rintro - μ ⟨m2, rfl, V2, F2⟩
      rw [eX6_weighLooks_2]
      simp (maxSteps := 1000000) (decide := true) (disch := (first | assumption | omega | exact Nat.div_mul_le_self _ _ | exact ni_nz (by omega) (by omega) | exact rfl | exact retOk_bI _ | exact retOk_0 | exact retOk_1)) only [eX6_weighLooks_0, eX6_weighLooks_1, eX6_weighLooks_3, eX6_weighLooks_4, eX6_weighLooks_7, eX6_weighLooks_8, eX6_weighLooks_11, eX6_weighLooks_12, eX6_weighLooks_13, eX6_weighLooks_16, eX6_weighLooks_17, eX6_weighLooks_20, eX6_weighLooks_21, eX6_weighLooks_22, eX6_weighLooks_25, eX6_weighLooks_28, eX6_weighLooks_29, eX6_weighLooks_30, eX6_weighLooks_31, eX6_weighLooks_33, eX6_weighLooks_34, eX6_weighLooks_37, eX6_weighLooks_40, eX6_weighLooks_43, eX6_weighLooks_44, eX6_weighLooks_47, eX6_weighLooks_48, eX6_weighLooks_51, eX6_weighLooks_53, eX6_weighLooks_55, eX6_weighLooks_57, eX6_weighLooks_60, eX6_weighLooks_61, eX6_weighLooks_62, eX6_weighLooks_65, eX6_weighLooks_66, eX6_weighLooks_68, eX6_weighLooks_71, eX6_weighLooks_72, eX6_weighLooks_75, eX6_weighLooks_78, eX6_weighLooks_79, eX6_weighLooks_80, eX6_weighLooks_81, eX6_weighLooks_84, eX6_weighLooks_87, eX6_weighLooks_88, eX6_weighLooks_90, eX6_weighLooks_91, eX6_weighLooks_92, eX6_weighLooks_95, eX6_weighLooks_98, eX6_weighLooks_99, WpR_some, Option.toList_some, Option.toList_none, List.cons_append, List.nil_append, List.append_nil, clr_n, clr_i, clr_a, ni_add, ni_mul, ni_sub, ni_lt, ni_le, ni_eq, ni_div, nat_mod_eq, ni_rem, iMax_nn, iMin_nn, iMax_sub, Nat.zero_max, bI_0, bI_1, bI_n0, up2_s, up2_n, up2_k, va_up_self, va_up_ne, ni_l, lN_mul, lN_add, ln_mask, lN_i, ↓reduceIte, if_true, if_false, not_true_eq_false, not_false_eq_true, ite_self, Nat.add_zero, Nat.zero_add, ent_def]
      refine wp_for (X := Option Value) (fun i z => [some (.ref 2), some (.int (nI c)), some (.int (nI (csN (hvS σ) i))), some (.int (nI i)), z]) (fun i _ μ => ∃ m3, μ = (G, m3, ml) ∧ WV m3 (wy (hvS σ) (xS σ) (yS σ) c (10 - c) i) ∧ (∀ b, b ≠ 157 → m3 b = m b)) (σ 45) ?_ ?_ 0 none _ (Nat.zero_le _) ⟨m2, rfl, fun j hj => V2 j (by omega), F2⟩
      · rintro i z μ hi ⟨m3, rfl, V3, F3⟩ kk
        have hlt : ¬ σ 45 ≤ i := by omega
        have C3 : CA m3 σ k f := CA_fr hC (fun b h1 h2 => F3 b (by omega))
        have hs0 : 0 < seats σ := by unfold seats; omega
        have eT := r_X3_tellerOf (ml := ml) (h := i) s3' C3.1 hB (by omega) hs0
        have v1 := (ShV_old C3.1).1.2.1
        have x4 := (ShV_old C3.1).2.2.2.2.1 i hi
        have y9 := hB.2.2.2.2.2.2.2.2.1 i (by omega)
        rw [eX6_weighLooks_32]
        by_cases hp : pl σ i < σ 44
        · have hh : hvS σ i = true := decide_eq_true ⟨hi, hp⟩
          have eT' : tO σ i = nI (pl σ i) := if_pos hp
          rw [eT'] at eT
          have eC := r_X3_costFor (ml := ml) (h := i) (t := pl σ i) s3' C3.1 hB hi hp
          have hcl := cst_le (t := pl σ i) (h := i) hB (by omega) (by omega)
          have hn4 := neg4_ne (show pl σ i < 5 by omega)
          have eL := fun μ => r_X6_looksOfTen (cost := cst σ i (pl σ i)) (be := σ i) (μ := μ) hc (by omega) (by omega)
          have ea : (if σ i < cst σ i (pl σ i) then 10 - c else 0) + (if σ i < cst σ i (pl σ i) / 2 then c else 0) = aW (xS σ) (yS σ) c (10 - c) i := by
            unfold aW xS yS
            simp only [decide_eq_true_eq]
          rw [ea] at eL
          have hal := aW_le (x := xS σ) (y := yS σ) (n := i) (show c + (10 - c) = 10 by omega)
          obtain ⟨m4, e4, V4, F4⟩ := r_X6_addHearerToWays (ml := ml) hG0 V3 hal
          have ecs : csN (hvS σ) i * 10 = csN (hvS σ) (i + 1) := by rw [csN_s, if_pos hh]
          simp (maxSteps := 1000000) (decide := true) (disch := (first | assumption | omega | exact Nat.div_mul_le_self _ _ | exact ni_nz (by omega) (by omega) | exact rfl | exact retOk_bI _ | exact retOk_0 | exact retOk_1)) only [eX6_weighLooks_0, eX6_weighLooks_1, eX6_weighLooks_3, eX6_weighLooks_4, eX6_weighLooks_7, eX6_weighLooks_8, eX6_weighLooks_11, eX6_weighLooks_12, eX6_weighLooks_13, eX6_weighLooks_16, eX6_weighLooks_17, eX6_weighLooks_20, eX6_weighLooks_21, eX6_weighLooks_22, eX6_weighLooks_25, eX6_weighLooks_28, eX6_weighLooks_29, eX6_weighLooks_30, eX6_weighLooks_31, eX6_weighLooks_33, eX6_weighLooks_34, eX6_weighLooks_37, eX6_weighLooks_40, eX6_weighLooks_43, eX6_weighLooks_44, eX6_weighLooks_47, eX6_weighLooks_48, eX6_weighLooks_51, eX6_weighLooks_53, eX6_weighLooks_55, eX6_weighLooks_57, eX6_weighLooks_60, eX6_weighLooks_61, eX6_weighLooks_62, eX6_weighLooks_65, eX6_weighLooks_66, eX6_weighLooks_68, eX6_weighLooks_71, eX6_weighLooks_72, eX6_weighLooks_75, eX6_weighLooks_78, eX6_weighLooks_79, eX6_weighLooks_80, eX6_weighLooks_81, eX6_weighLooks_84, eX6_weighLooks_87, eX6_weighLooks_88, eX6_weighLooks_90, eX6_weighLooks_91, eX6_weighLooks_92, eX6_weighLooks_95, eX6_weighLooks_98, eX6_weighLooks_99, g1, s4, v1, x4, eT, eC, eL, e4, hn4, hlt, ecs, WpR_some, Option.toList_some, Option.toList_none, List.cons_append, List.nil_append, List.append_nil, clr_n, clr_i, clr_a, ni_add, ni_mul, ni_sub, ni_lt, ni_le, ni_eq, ni_div, nat_mod_eq, ni_rem, iMax_nn, iMin_nn, iMax_sub, Nat.zero_max, bI_0, bI_1, bI_n0, up2_s, up2_n, up2_k, va_up_self, va_up_ne, ni_l, lN_mul, lN_add, ln_mask, lN_i, ↓reduceIte, if_true, if_false, not_true_eq_false, not_false_eq_true, ite_self, Nat.add_zero, Nat.zero_add, ent_def]
          refine kk _ _ ⟨m4, rfl, ?_, fun b hb => by rw [F4 b hb]; exact F3 b hb⟩
          intro j hj
          rw [V4 j hj, wy_s, if_pos hh]
        · have hh : ¬ hvS σ i = true := by unfold hvS; rw [decide_eq_true_eq]; omega
          have eT' : tO σ i = -4 := if_neg hp
          rw [eT'] at eT
          have ecs : csN (hvS σ) i = csN (hvS σ) (i + 1) := by rw [csN_s, if_neg hh]
          have e8 := fun z => kk z _ ⟨m3, rfl, fun j hj => by rw [V3 j hj, wy_s, if_neg hh], F3⟩
          rw [← ecs] at e8
          simp (maxSteps := 1000000) (decide := true) (disch := (first | assumption | omega | exact Nat.div_mul_le_self _ _ | exact ni_nz (by omega) (by omega) | exact rfl | exact retOk_bI _ | exact retOk_0 | exact retOk_1)) only [eX6_weighLooks_0, eX6_weighLooks_1, eX6_weighLooks_3, eX6_weighLooks_4, eX6_weighLooks_7, eX6_weighLooks_8, eX6_weighLooks_11, eX6_weighLooks_12, eX6_weighLooks_13, eX6_weighLooks_16, eX6_weighLooks_17, eX6_weighLooks_20, eX6_weighLooks_21, eX6_weighLooks_22, eX6_weighLooks_25, eX6_weighLooks_28, eX6_weighLooks_29, eX6_weighLooks_30, eX6_weighLooks_31, eX6_weighLooks_33, eX6_weighLooks_34, eX6_weighLooks_37, eX6_weighLooks_40, eX6_weighLooks_43, eX6_weighLooks_44, eX6_weighLooks_47, eX6_weighLooks_48, eX6_weighLooks_51, eX6_weighLooks_53, eX6_weighLooks_55, eX6_weighLooks_57, eX6_weighLooks_60, eX6_weighLooks_61, eX6_weighLooks_62, eX6_weighLooks_65, eX6_weighLooks_66, eX6_weighLooks_68, eX6_weighLooks_71, eX6_weighLooks_72, eX6_weighLooks_75, eX6_weighLooks_78, eX6_weighLooks_79, eX6_weighLooks_80, eX6_weighLooks_81, eX6_weighLooks_84, eX6_weighLooks_87, eX6_weighLooks_88, eX6_weighLooks_90, eX6_weighLooks_91, eX6_weighLooks_92, eX6_weighLooks_95, eX6_weighLooks_98, eX6_weighLooks_99, g1, v1, eT, hlt, WpR_some, Option.toList_some, Option.toList_none, List.cons_append, List.nil_append, List.append_nil, clr_n, clr_i, clr_a, ni_add, ni_mul, ni_sub, ni_lt, ni_le, ni_eq, ni_div, nat_mod_eq, ni_rem, iMax_nn, iMin_nn, iMax_sub, Nat.zero_max, bI_0, bI_1, bI_n0, up2_s, up2_n, up2_k, va_up_self, va_up_ne, ni_l, lN_mul, lN_add, ln_mask, lN_i, ↓reduceIte, if_true, if_false, not_true_eq_false, not_false_eq_true, ite_self, Nat.add_zero, Nat.zero_add, ent_def]
          exact e8 _
      · rintro z μ ⟨m3, rfl, V3, F3⟩
        have C3 : CA m3 σ k f := CA_fr hC (fun b h1 h2 => F3 b (by omega))
        have v1 := (ShV_old C3.1).1.2.1
        rw [eX6_weighLooks_32]
        simp (maxSteps := 1000000) (decide := true) (disch := (first | assumption | omega | exact Nat.div_mul_le_self _ _ | exact ni_nz (by omega) (by omega) | exact rfl | exact retOk_bI _ | exact retOk_0 | exact retOk_1)) only [eX6_weighLooks_0, eX6_weighLooks_1, eX6_weighLooks_3, eX6_weighLooks_4, eX6_weighLooks_7, eX6_weighLooks_8, eX6_weighLooks_11, eX6_weighLooks_12, eX6_weighLooks_13, eX6_weighLooks_16, eX6_weighLooks_17, eX6_weighLooks_20, eX6_weighLooks_21, eX6_weighLooks_22, eX6_weighLooks_25, eX6_weighLooks_28, eX6_weighLooks_29, eX6_weighLooks_30, eX6_weighLooks_31, eX6_weighLooks_33, eX6_weighLooks_34, eX6_weighLooks_37, eX6_weighLooks_40, eX6_weighLooks_43, eX6_weighLooks_44, eX6_weighLooks_47, eX6_weighLooks_48, eX6_weighLooks_51, eX6_weighLooks_53, eX6_weighLooks_55, eX6_weighLooks_57, eX6_weighLooks_60, eX6_weighLooks_61, eX6_weighLooks_62, eX6_weighLooks_65, eX6_weighLooks_66, eX6_weighLooks_68, eX6_weighLooks_71, eX6_weighLooks_72, eX6_weighLooks_75, eX6_weighLooks_78, eX6_weighLooks_79, eX6_weighLooks_80, eX6_weighLooks_81, eX6_weighLooks_84, eX6_weighLooks_87, eX6_weighLooks_88, eX6_weighLooks_90, eX6_weighLooks_91, eX6_weighLooks_92, eX6_weighLooks_95, eX6_weighLooks_98, eX6_weighLooks_99, g1, v1, Nat.le_refl, WpR_some, Option.toList_some, Option.toList_none, List.cons_append, List.nil_append, List.append_nil, clr_n, clr_i, clr_a, ni_add, ni_mul, ni_sub, ni_lt, ni_le, ni_eq, ni_div, nat_mod_eq, ni_rem, iMax_nn, iMin_nn, iMax_sub, Nat.zero_max, bI_0, bI_1, bI_n0, up2_s, up2_n, up2_k, va_up_self, va_up_ne, ni_l, lN_mul, lN_add, ln_mask, lN_i, ↓reduceIte, if_true, if_false, not_true_eq_false, not_false_eq_true, ite_self, Nat.add_zero, Nat.zero_add, ent_def]
        rw [← hQ]
        refine ⟨m3, ?_, rfl, ?_, F3⟩
        · unfold dzB; rw [(wy_end (p := 0) (q := 0) (j := 0) b2).2]
        · intro j hj
          rw [V3 j hj, (wy_end b2).1]
  obtain ⟨r, μ', e1, m', rfl, rfl, h2⟩ := res_ex key
  exact ⟨m', e1, h2⟩
theorem r_X6_gcd (h1 : a ≤ 1000000) (h2 : b ≤ 1000000) : res mX6_greatestCommonDivisor [.int (nI a), .int (nI b)] μ = some (some (.int (nI (Nat.gcd a b))), μ) := by
  apply res_of
  show Wp mX6_greatestCommonDivisor 0 [some (.int (nI a)), some (.int (nI b)), none, none, none, none] [] μ _
  generalize hQ : (fun (r : Option Value) (μ' : Mm) => (r, μ') = (some (.int (nI (Nat.gcd a b))), μ)) = Q
  simp (maxSteps := 1000000) (decide := true) (disch := (first | assumption | omega | exact Nat.div_mul_le_self _ _ | exact ni_nz (by omega) (by omega) | exact rfl | exact retOk_bI _ | exact retOk_0 | exact retOk_1)) only [eX6_greatestCommonDivisor_0, eX6_greatestCommonDivisor_1, eX6_greatestCommonDivisor_2, eX6_greatestCommonDivisor_3, eX6_greatestCommonDivisor_4, eX6_greatestCommonDivisor_5, eX6_greatestCommonDivisor_9, eX6_greatestCommonDivisor_11, eX6_greatestCommonDivisor_14, eX6_greatestCommonDivisor_15, eX6_greatestCommonDivisor_18, eX6_greatestCommonDivisor_19, eX6_greatestCommonDivisor_20, eX6_greatestCommonDivisor_21, eX6_greatestCommonDivisor_23, eX6_greatestCommonDivisor_24, eX6_greatestCommonDivisor_25, eX6_greatestCommonDivisor_27, eX6_greatestCommonDivisor_28, eX6_greatestCommonDivisor_31, eX6_greatestCommonDivisor_34, eX6_greatestCommonDivisor_35, WpR_some, Option.toList_some, Option.toList_none, List.cons_append, List.nil_append, List.append_nil, clr_n, clr_i, clr_a, ni_add, ni_mul, ni_sub, ni_lt, ni_le, ni_eq, ni_div, nat_mod_eq, ni_rem, iMax_nn, iMin_nn, iMax_sub, Nat.zero_max, bI_0, bI_1, bI_n0, up2_s, up2_n, up2_k, va_up_self, va_up_ne, ni_l, lN_mul, lN_add, ln_mask, lN_i, ↓reduceIte, if_true, if_false, not_true_eq_false, not_false_eq_true, ite_self, Nat.add_zero, Nat.zero_add, ent_def]
  refine wp_for (X := Nat × Nat × Option Value) (fun i z => [some (.int (nI a)), some (.int (nI b)), some (.int (nI z.1)), some (.int (nI z.2.1)), some (.int (nI i)), z.2.2]) (fun i z μ' => μ' = μ ∧ Nat.gcd z.1 z.2.1 = Nat.gcd a b ∧ z.1 ≤ 1000000 ∧ z.2.1 ≤ 1000000 ∧ (i = 0 ∨ (z.2.1 < z.1 ∧ z.2.1 * z.1 * 2 ^ (i - 1) ≤ 1000000000000))) 64 ?_ ?_ 0 (a, b, none) _ (Nat.zero_le _) ⟨rfl, rfl, h1, h2, Or.inl rfl⟩
  · rintro i ⟨L, S, z3⟩ μ' hi ⟨rfl, hg, hL, hS, hp⟩ kk
    simp only at hg hL hS hp
    have hlt : ¬ 64 ≤ i := by omega
    rw [eX6_greatestCommonDivisor_7]
    by_cases hz : S = 0
    · subst hz
      simp (maxSteps := 1000000) (decide := true) (disch := (first | assumption | omega | exact Nat.div_mul_le_self _ _ | exact ni_nz (by omega) (by omega) | exact rfl | exact retOk_bI _ | exact retOk_0 | exact retOk_1)) only [eX6_greatestCommonDivisor_0, eX6_greatestCommonDivisor_1, eX6_greatestCommonDivisor_2, eX6_greatestCommonDivisor_3, eX6_greatestCommonDivisor_4, eX6_greatestCommonDivisor_5, eX6_greatestCommonDivisor_9, eX6_greatestCommonDivisor_11, eX6_greatestCommonDivisor_14, eX6_greatestCommonDivisor_15, eX6_greatestCommonDivisor_18, eX6_greatestCommonDivisor_19, eX6_greatestCommonDivisor_20, eX6_greatestCommonDivisor_21, eX6_greatestCommonDivisor_23, eX6_greatestCommonDivisor_24, eX6_greatestCommonDivisor_25, eX6_greatestCommonDivisor_27, eX6_greatestCommonDivisor_28, eX6_greatestCommonDivisor_31, eX6_greatestCommonDivisor_34, eX6_greatestCommonDivisor_35, hlt, WpR_some, Option.toList_some, Option.toList_none, List.cons_append, List.nil_append, List.append_nil, clr_n, clr_i, clr_a, ni_add, ni_mul, ni_sub, ni_lt, ni_le, ni_eq, ni_div, nat_mod_eq, ni_rem, iMax_nn, iMin_nn, iMax_sub, Nat.zero_max, bI_0, bI_1, bI_n0, up2_s, up2_n, up2_k, va_up_self, va_up_ne, ni_l, lN_mul, lN_add, ln_mask, lN_i, ↓reduceIte, if_true, if_false, not_true_eq_false, not_false_eq_true, ite_self, Nat.add_zero, Nat.zero_add, ent_def]
      rw [← hQ, ← hg, Nat.gcd_zero_right]
    · have hpos : 0 < S := by omega
      have hm : L % S < S := Nat.mod_lt _ hpos
      simp (maxSteps := 1000000) (decide := true) (disch := (first | assumption | omega | exact Nat.div_mul_le_self _ _ | exact ni_nz (by omega) (by omega) | exact rfl | exact retOk_bI _ | exact retOk_0 | exact retOk_1)) only [eX6_greatestCommonDivisor_0, eX6_greatestCommonDivisor_1, eX6_greatestCommonDivisor_2, eX6_greatestCommonDivisor_3, eX6_greatestCommonDivisor_4, eX6_greatestCommonDivisor_5, eX6_greatestCommonDivisor_9, eX6_greatestCommonDivisor_11, eX6_greatestCommonDivisor_14, eX6_greatestCommonDivisor_15, eX6_greatestCommonDivisor_18, eX6_greatestCommonDivisor_19, eX6_greatestCommonDivisor_20, eX6_greatestCommonDivisor_21, eX6_greatestCommonDivisor_23, eX6_greatestCommonDivisor_24, eX6_greatestCommonDivisor_25, eX6_greatestCommonDivisor_27, eX6_greatestCommonDivisor_28, eX6_greatestCommonDivisor_31, eX6_greatestCommonDivisor_34, eX6_greatestCommonDivisor_35, hlt, hz, WpR_some, Option.toList_some, Option.toList_none, List.cons_append, List.nil_append, List.append_nil, clr_n, clr_i, clr_a, ni_add, ni_mul, ni_sub, ni_lt, ni_le, ni_eq, ni_div, nat_mod_eq, ni_rem, iMax_nn, iMin_nn, iMax_sub, Nat.zero_max, bI_0, bI_1, bI_n0, up2_s, up2_n, up2_k, va_up_self, va_up_ne, ni_l, lN_mul, lN_add, ln_mask, lN_i, ↓reduceIte, if_true, if_false, not_true_eq_false, not_false_eq_true, ite_self, Nat.add_zero, Nat.zero_add, ent_def]
      refine kk (S, L % S, _) _ ⟨rfl, ?_, hS, (by show L % S ≤ 1000000; omega), Or.inr ⟨hm, ?_⟩⟩
      · show Nat.gcd S (L % S) = _
        rw [← hg, Nat.gcd_comm L S, Nat.gcd_rec S L, Nat.gcd_comm]
      · show L % S * S * 2 ^ (i + 1 - 1) ≤ 1000000000000
        rw [Nat.add_sub_cancel]
        rcases hp with rfl | ⟨hp1, hp2⟩
        · have : L % S * S ≤ 1000000 * 1000000 := Nat.mul_le_mul (by omega) hS
          omega
        · by_cases h0 : i = 0
          · subst h0
            have : L % S * S ≤ 1000000 * 1000000 := Nat.mul_le_mul (by omega) hS
            omega
          · have e1 : 2 * (L % S) ≤ L := by
              have := Nat.div_add_mod L S
              have h3 : 1 ≤ L / S := (Nat.one_le_div_iff hpos).mpr (by omega)
              have h4 : S * 1 ≤ S * (L / S) := Nat.mul_le_mul_left _ h3
              omega
            have e2 : L % S * S * 2 ^ i = (2 * (L % S)) * S * 2 ^ (i - 1) := by
              rw [show i = (i - 1) + 1 by omega, Nat.pow_succ, Nat.add_sub_cancel]
              rw [Nat.mul_comm (2 ^ (i - 1)) 2, ← Nat.mul_assoc, Nat.mul_right_comm (L % S) S 2, Nat.mul_comm (L % S) 2]
            rw [e2]
            refine Nat.le_trans (Nat.mul_le_mul_right _ ?_) hp2
            rw [Nat.mul_comm S L]
            exact Nat.mul_le_mul_right _ e1
  · rintro ⟨L, S, z3⟩ μ' ⟨rfl, hg, hL, hS, hp⟩
    simp only at hg hL hS hp
    have hz : S = 0 := by
      rcases hp with h | ⟨hp1, hp2⟩
      · omega
      · by_cases h0 : S = 0
        · exact h0
        · exfalso
          have : 1 * 1 ≤ S * L := Nat.mul_le_mul (by omega) (by omega)
          have h6 : 1 * 2 ^ 63 ≤ S * L * 2 ^ 63 := Nat.mul_le_mul_right _ (by omega)
          have : S * L * 2 ^ (64 - 1) ≤ 1000000000000 := hp2
          omega
    subst hz
    rw [eX6_greatestCommonDivisor_7]
    simp (maxSteps := 1000000) (decide := true) (disch := (first | assumption | omega | exact Nat.div_mul_le_self _ _ | exact ni_nz (by omega) (by omega) | exact rfl | exact retOk_bI _ | exact retOk_0 | exact retOk_1)) only [eX6_greatestCommonDivisor_0, eX6_greatestCommonDivisor_1, eX6_greatestCommonDivisor_2, eX6_greatestCommonDivisor_3, eX6_greatestCommonDivisor_4, eX6_greatestCommonDivisor_5, eX6_greatestCommonDivisor_9, eX6_greatestCommonDivisor_11, eX6_greatestCommonDivisor_14, eX6_greatestCommonDivisor_15, eX6_greatestCommonDivisor_18, eX6_greatestCommonDivisor_19, eX6_greatestCommonDivisor_20, eX6_greatestCommonDivisor_21, eX6_greatestCommonDivisor_23, eX6_greatestCommonDivisor_24, eX6_greatestCommonDivisor_25, eX6_greatestCommonDivisor_27, eX6_greatestCommonDivisor_28, eX6_greatestCommonDivisor_31, eX6_greatestCommonDivisor_34, eX6_greatestCommonDivisor_35, WpR_some, Option.toList_some, Option.toList_none, List.cons_append, List.nil_append, List.append_nil, clr_n, clr_i, clr_a, ni_add, ni_mul, ni_sub, ni_lt, ni_le, ni_eq, ni_div, nat_mod_eq, ni_rem, iMax_nn, iMin_nn, iMax_sub, Nat.zero_max, bI_0, bI_1, bI_n0, up2_s, up2_n, up2_k, va_up_self, va_up_ne, ni_l, lN_mul, lN_add, ln_mask, lN_i, ↓reduceIte, if_true, if_false, not_true_eq_false, not_false_eq_true, ite_self, Nat.add_zero, Nat.zero_add, ent_def]
    rw [← hQ, ← hg, Nat.gcd_zero_right]
theorem c_doze_bad (h : (rg u 0 5 && rg v 0 10 && rg w 0 1) = false) : res mX6_doze [.ref 2, .int u, .int v, .int w] (G, m, ml) = some (some (.int (-1)), (G, m, ml)) := by
  apply res_of
  show Wp mX6_doze 0 [some (.ref 2), some (.int u), some (.int v), some (.int w), none, none, none, none] [] (G, m, ml) _
  cases h1 : rg u 0 5
  · simp (maxSteps := 1000000) (decide := true) (disch := (first | assumption | omega | exact Nat.div_mul_le_self _ _ | exact ni_nz (by omega) (by omega) | exact rfl | exact retOk_bI _ | exact retOk_0 | exact retOk_1)) only [eX6_doze_0, eX6_doze_1, eX6_doze_2, eX6_doze_3, eX6_doze_6, eX6_doze_9, eX6_doze_10, eX6_doze_11, eX6_doze_13, eX6_doze_16, eX6_doze_19, eX6_doze_20, eX6_doze_21, eX6_doze_22, eX6_doze_25, eX6_doze_28, eX6_doze_29, eX6_doze_30, eX6_doze_31, eX6_doze_32, eX6_doze_35, eX6_doze_37, eX6_doze_38, eX6_doze_40, eX6_doze_41, eX6_doze_45, eX6_doze_46, eX6_doze_49, eX6_doze_51, eX6_doze_52, eX6_doze_55, eX6_doze_57, eX6_doze_58, eX6_doze_59, eX6_doze_61, eX6_doze_64, eX6_doze_67, eX6_doze_69, eX6_doze_71, eX6_doze_74, eX6_doze_76, eX6_doze_77, eX6_doze_80, eX6_doze_82, eX6_doze_85, eX6_doze_87, eX6_doze_89, eX6_doze_91, eX6_doze_92, eX6_doze_95, eX6_doze_97, eX6_doze_99, eX6_doze_100, eX6_doze_103, eX6_doze_105, r_X6_wi, h1, WpR_some, Option.toList_some, Option.toList_none, List.cons_append, List.nil_append, List.append_nil, clr_n, clr_i, clr_a, ni_add, ni_mul, ni_sub, ni_lt, ni_le, ni_eq, ni_div, nat_mod_eq, ni_rem, iMax_nn, iMin_nn, iMax_sub, Nat.zero_max, bI_0, bI_1, bI_n0, up2_s, up2_n, up2_k, va_up_self, va_up_ne, ni_l, lN_mul, lN_add, ln_mask, lN_i, ↓reduceIte, if_true, if_false, not_true_eq_false, not_false_eq_true, ite_self, Nat.add_zero, Nat.zero_add, ent_def]
  · cases h2 : rg v 0 10
    · simp (maxSteps := 1000000) (decide := true) (disch := (first | assumption | omega | exact Nat.div_mul_le_self _ _ | exact ni_nz (by omega) (by omega) | exact rfl | exact retOk_bI _ | exact retOk_0 | exact retOk_1)) only [eX6_doze_0, eX6_doze_1, eX6_doze_2, eX6_doze_3, eX6_doze_6, eX6_doze_9, eX6_doze_10, eX6_doze_11, eX6_doze_13, eX6_doze_16, eX6_doze_19, eX6_doze_20, eX6_doze_21, eX6_doze_22, eX6_doze_25, eX6_doze_28, eX6_doze_29, eX6_doze_30, eX6_doze_31, eX6_doze_32, eX6_doze_35, eX6_doze_37, eX6_doze_38, eX6_doze_40, eX6_doze_41, eX6_doze_45, eX6_doze_46, eX6_doze_49, eX6_doze_51, eX6_doze_52, eX6_doze_55, eX6_doze_57, eX6_doze_58, eX6_doze_59, eX6_doze_61, eX6_doze_64, eX6_doze_67, eX6_doze_69, eX6_doze_71, eX6_doze_74, eX6_doze_76, eX6_doze_77, eX6_doze_80, eX6_doze_82, eX6_doze_85, eX6_doze_87, eX6_doze_89, eX6_doze_91, eX6_doze_92, eX6_doze_95, eX6_doze_97, eX6_doze_99, eX6_doze_100, eX6_doze_103, eX6_doze_105, r_X6_wi, h1, h2, WpR_some, Option.toList_some, Option.toList_none, List.cons_append, List.nil_append, List.append_nil, clr_n, clr_i, clr_a, ni_add, ni_mul, ni_sub, ni_lt, ni_le, ni_eq, ni_div, nat_mod_eq, ni_rem, iMax_nn, iMin_nn, iMax_sub, Nat.zero_max, bI_0, bI_1, bI_n0, up2_s, up2_n, up2_k, va_up_self, va_up_ne, ni_l, lN_mul, lN_add, ln_mask, lN_i, ↓reduceIte, if_true, if_false, not_true_eq_false, not_false_eq_true, ite_self, Nat.add_zero, Nat.zero_add, ent_def]
    · rw [h1, h2, Bool.true_and, Bool.true_and] at h
      simp (maxSteps := 1000000) (decide := true) (disch := (first | assumption | omega | exact Nat.div_mul_le_self _ _ | exact ni_nz (by omega) (by omega) | exact rfl | exact retOk_bI _ | exact retOk_0 | exact retOk_1)) only [eX6_doze_0, eX6_doze_1, eX6_doze_2, eX6_doze_3, eX6_doze_6, eX6_doze_9, eX6_doze_10, eX6_doze_11, eX6_doze_13, eX6_doze_16, eX6_doze_19, eX6_doze_20, eX6_doze_21, eX6_doze_22, eX6_doze_25, eX6_doze_28, eX6_doze_29, eX6_doze_30, eX6_doze_31, eX6_doze_32, eX6_doze_35, eX6_doze_37, eX6_doze_38, eX6_doze_40, eX6_doze_41, eX6_doze_45, eX6_doze_46, eX6_doze_49, eX6_doze_51, eX6_doze_52, eX6_doze_55, eX6_doze_57, eX6_doze_58, eX6_doze_59, eX6_doze_61, eX6_doze_64, eX6_doze_67, eX6_doze_69, eX6_doze_71, eX6_doze_74, eX6_doze_76, eX6_doze_77, eX6_doze_80, eX6_doze_82, eX6_doze_85, eX6_doze_87, eX6_doze_89, eX6_doze_91, eX6_doze_92, eX6_doze_95, eX6_doze_97, eX6_doze_99, eX6_doze_100, eX6_doze_103, eX6_doze_105, r_X6_wi, h1, h2, h, WpR_some, Option.toList_some, Option.toList_none, List.cons_append, List.nil_append, List.append_nil, clr_n, clr_i, clr_a, ni_add, ni_mul, ni_sub, ni_lt, ni_le, ni_eq, ni_div, nat_mod_eq, ni_rem, iMax_nn, iMin_nn, iMax_sub, Nat.zero_max, bI_0, bI_1, bI_n0, up2_s, up2_n, up2_k, va_up_self, va_up_ne, ni_l, lN_mul, lN_add, ln_mask, lN_i, ↓reduceIte, if_true, if_false, not_true_eq_false, not_false_eq_true, ite_self, Nat.add_zero, Nat.zero_add, ent_def]
theorem c_doze (hG : GW G) (hC : CA m σ k f) (hB : Bd σ) (hx : x ≤ 5) (hc : c ≤ 10) (hy : y ≤ 1) : ∃ m', res mX6_doze [.ref 2, .int (nI x), .int (nI c), .int (nI y)] (G, m, ml) = some (some (.int (dzS σ x c (nI y))), (G, m', ml)) ∧ FT m m' := by
  have hr1 := rg_t (j := x) (lo := 0) (hi := 5) (by omega) hx (by decide)
  have hr2 := rg_t (j := c) (lo := 0) (hi := 10) (by omega) hc (by decide)
  have hr3 := rg_t (j := y) (lo := 0) (hi := 1) (by omega) hy (by decide)
  obtain ⟨m1, e1, V1, F1⟩ := r_X6_weighLooks (ml := ml) hG hC hB hc
  have hA := dzA_le (σ := σ) (x := x) hc
  have hBl := dzB_le (σ := σ)
  obtain ⟨⟨g0, g1, g2, g3, g4, g5, g6, g7, g8, g9, g10, g11, g12⟩, -, -, -, -, -, ⟨w1, w2⟩⟩ := hG
  refine ⟨m1, ?_, fun b hb => F1 b (by omega)⟩
  apply res_of
  show Wp mX6_doze 0 [some (.ref 2), some (.int (nI x)), some (.int (nI c)), some (.int (nI y)), none, none, none, none] [] (G, m, ml) _
  generalize hQ : (fun (r : Option Value) (μ' : Mm) => (r, μ') = (some (.int (dzS σ x c (nI y))), (G, m1, ml))) = Q
  simp (maxSteps := 1000000) (decide := true) (disch := (first | assumption | omega | exact Nat.div_mul_le_self _ _ | exact ni_nz (by omega) (by omega) | exact rfl | exact retOk_bI _ | exact retOk_0 | exact retOk_1)) only [eX6_doze_0, eX6_doze_1, eX6_doze_2, eX6_doze_3, eX6_doze_6, eX6_doze_9, eX6_doze_10, eX6_doze_11, eX6_doze_13, eX6_doze_16, eX6_doze_19, eX6_doze_20, eX6_doze_21, eX6_doze_22, eX6_doze_25, eX6_doze_28, eX6_doze_29, eX6_doze_30, eX6_doze_31, eX6_doze_32, eX6_doze_35, eX6_doze_37, eX6_doze_38, eX6_doze_40, eX6_doze_41, eX6_doze_45, eX6_doze_46, eX6_doze_49, eX6_doze_51, eX6_doze_52, eX6_doze_55, eX6_doze_57, eX6_doze_58, eX6_doze_59, eX6_doze_61, eX6_doze_64, eX6_doze_67, eX6_doze_69, eX6_doze_71, eX6_doze_74, eX6_doze_76, eX6_doze_77, eX6_doze_80, eX6_doze_82, eX6_doze_85, eX6_doze_87, eX6_doze_89, eX6_doze_91, eX6_doze_92, eX6_doze_95, eX6_doze_97, eX6_doze_99, eX6_doze_100, eX6_doze_103, eX6_doze_105, r_X6_wi, hr1, hr2, hr3, e1, WpR_some, Option.toList_some, Option.toList_none, List.cons_append, List.nil_append, List.append_nil, clr_n, clr_i, clr_a, ni_add, ni_mul, ni_sub, ni_lt, ni_le, ni_eq, ni_div, nat_mod_eq, ni_rem, iMax_nn, iMin_nn, iMax_sub, Nat.zero_max, bI_0, bI_1, bI_n0, up2_s, up2_n, up2_k, va_up_self, va_up_ne, ni_l, lN_mul, lN_add, ln_mask, lN_i, ↓reduceIte, if_true, if_false, not_true_eq_false, not_false_eq_true, ite_self, Nat.add_zero, Nat.zero_add, ent_def]
  refine wp_for (X := Nat) (fun i z => [some (.ref 2), some (.int (nI x)), some (.int (nI c)), some (.int (nI y)), some (.int (nI (dzB σ))), some (.int (nI z)), some (.int (nI (x + i))), none]) (fun i z μ => μ = (G, m1, ml) ∧ z = sumN (fun j => (if x ≤ j then 1 else 0) * wy (hvS σ) (xS σ) (yS σ) c (10 - c) 5 j) (x + i)) (6 - x) ?_ ?_ 0 0 _ (Nat.zero_le _) ⟨rfl, ?_⟩
  · rintro i z μ hi ⟨rfl, rfl⟩ kk
    have hlt : ¬ 5 < x + i := by omega
    have xj := V1 (x + i) (by omega)
    have e9 : x + i + 1 = x + (i + 1) := by omega
    have e8 := kk _ _ ⟨rfl, rfl⟩
    have e10 : sumN (fun j => (if x ≤ j then 1 else 0) * wy (hvS σ) (xS σ) (yS σ) c (10 - c) 5 j) (x + (i + 1)) = sumN (fun j => (if x ≤ j then 1 else 0) * wy (hvS σ) (xS σ) (yS σ) c (10 - c) 5 j) (x + i) + wy (hvS σ) (xS σ) (yS σ) c (10 - c) 5 (x + i) := by
      rw [← Nat.add_assoc]
      show _ + (if x ≤ x + i then 1 else 0) * _ = _
      rw [if_pos (by omega), Nat.one_mul]
    rw [e10] at e8
    rw [eX6_doze_43]
    simp (maxSteps := 1000000) (decide := true) (disch := (first | assumption | omega | exact Nat.div_mul_le_self _ _ | exact ni_nz (by omega) (by omega) | exact rfl | exact retOk_bI _ | exact retOk_0 | exact retOk_1)) only [eX6_doze_0, eX6_doze_1, eX6_doze_2, eX6_doze_3, eX6_doze_6, eX6_doze_9, eX6_doze_10, eX6_doze_11, eX6_doze_13, eX6_doze_16, eX6_doze_19, eX6_doze_20, eX6_doze_21, eX6_doze_22, eX6_doze_25, eX6_doze_28, eX6_doze_29, eX6_doze_30, eX6_doze_31, eX6_doze_32, eX6_doze_35, eX6_doze_37, eX6_doze_38, eX6_doze_40, eX6_doze_41, eX6_doze_45, eX6_doze_46, eX6_doze_49, eX6_doze_51, eX6_doze_52, eX6_doze_55, eX6_doze_57, eX6_doze_58, eX6_doze_59, eX6_doze_61, eX6_doze_64, eX6_doze_67, eX6_doze_69, eX6_doze_71, eX6_doze_74, eX6_doze_76, eX6_doze_77, eX6_doze_80, eX6_doze_82, eX6_doze_85, eX6_doze_87, eX6_doze_89, eX6_doze_91, eX6_doze_92, eX6_doze_95, eX6_doze_97, eX6_doze_99, eX6_doze_100, eX6_doze_103, eX6_doze_105, g12, xj, hlt, e9, WpR_some, Option.toList_some, Option.toList_none, List.cons_append, List.nil_append, List.append_nil, clr_n, clr_i, clr_a, ni_add, ni_mul, ni_sub, ni_lt, ni_le, ni_eq, ni_div, nat_mod_eq, ni_rem, iMax_nn, iMin_nn, iMax_sub, Nat.zero_max, bI_0, bI_1, bI_n0, up2_s, up2_n, up2_k, va_up_self, va_up_ne, ni_l, lN_mul, lN_add, ln_mask, lN_i, ↓reduceIte, if_true, if_false, not_true_eq_false, not_false_eq_true, ite_self, Nat.add_zero, Nat.zero_add, ent_def]
    exact e8
  · rintro z μ ⟨rfl, rfl⟩
    have eA : sumN (fun j => (if x ≤ j then 1 else 0) * wy (hvS σ) (xS σ) (yS σ) c (10 - c) 5 j) (x + (6 - x)) = dzA σ c x := by rw [show x + (6 - x) = 6 by omega]; rfl
    rw [eA]
    have hlt : 5 < x + (6 - x) := by omega
    have eG := fun μ => r_X6_gcd (a := dzB σ) (b := dzA σ c x) (μ := μ) (by omega) (by omega)
    have hg1 : Nat.gcd (dzB σ) (dzA σ c x) ≤ dzB σ := Nat.gcd_le_left _ (by omega)
    have hg0 : 0 < Nat.gcd (dzB σ) (dzA σ c x) := Nat.gcd_pos_of_pos_left _ (by omega)
    rw [eX6_doze_43]
    rcases (show y = 0 ∨ y = 1 by omega) with rfl | rfl
    · have f1 : Q (some (.int (nI (dzA σ c x / Nat.gcd (dzB σ) (dzA σ c x))))) (G, m1, ml) := by rw [← hQ]; rfl
      by_cases hg : Nat.gcd (dzB σ) (dzA σ c x) ≤ 1
      · have e1 : Nat.gcd (dzB σ) (dzA σ c x) = 1 := by omega
        rw [e1, Nat.div_one] at f1
        simp (maxSteps := 1000000) (decide := true) (disch := (first | assumption | omega | exact Nat.div_mul_le_self _ _ | exact ni_nz (by omega) (by omega) | exact rfl | exact retOk_bI _ | exact retOk_0 | exact retOk_1)) only [eX6_doze_0, eX6_doze_1, eX6_doze_2, eX6_doze_3, eX6_doze_6, eX6_doze_9, eX6_doze_10, eX6_doze_11, eX6_doze_13, eX6_doze_16, eX6_doze_19, eX6_doze_20, eX6_doze_21, eX6_doze_22, eX6_doze_25, eX6_doze_28, eX6_doze_29, eX6_doze_30, eX6_doze_31, eX6_doze_32, eX6_doze_35, eX6_doze_37, eX6_doze_38, eX6_doze_40, eX6_doze_41, eX6_doze_45, eX6_doze_46, eX6_doze_49, eX6_doze_51, eX6_doze_52, eX6_doze_55, eX6_doze_57, eX6_doze_58, eX6_doze_59, eX6_doze_61, eX6_doze_64, eX6_doze_67, eX6_doze_69, eX6_doze_71, eX6_doze_74, eX6_doze_76, eX6_doze_77, eX6_doze_80, eX6_doze_82, eX6_doze_85, eX6_doze_87, eX6_doze_89, eX6_doze_91, eX6_doze_92, eX6_doze_95, eX6_doze_97, eX6_doze_99, eX6_doze_100, eX6_doze_103, eX6_doze_105, hlt, eG, hg, WpR_some, Option.toList_some, Option.toList_none, List.cons_append, List.nil_append, List.append_nil, clr_n, clr_i, clr_a, ni_add, ni_mul, ni_sub, ni_lt, ni_le, ni_eq, ni_div, nat_mod_eq, ni_rem, iMax_nn, iMin_nn, iMax_sub, Nat.zero_max, bI_0, bI_1, bI_n0, up2_s, up2_n, up2_k, va_up_self, va_up_ne, ni_l, lN_mul, lN_add, ln_mask, lN_i, ↓reduceIte, if_true, if_false, not_true_eq_false, not_false_eq_true, ite_self, Nat.add_zero, Nat.zero_add, ent_def]
        exact f1
      · simp (maxSteps := 1000000) (decide := true) (disch := (first | assumption | omega | exact Nat.div_mul_le_self _ _ | exact ni_nz (by omega) (by omega) | exact rfl | exact retOk_bI _ | exact retOk_0 | exact retOk_1)) only [eX6_doze_0, eX6_doze_1, eX6_doze_2, eX6_doze_3, eX6_doze_6, eX6_doze_9, eX6_doze_10, eX6_doze_11, eX6_doze_13, eX6_doze_16, eX6_doze_19, eX6_doze_20, eX6_doze_21, eX6_doze_22, eX6_doze_25, eX6_doze_28, eX6_doze_29, eX6_doze_30, eX6_doze_31, eX6_doze_32, eX6_doze_35, eX6_doze_37, eX6_doze_38, eX6_doze_40, eX6_doze_41, eX6_doze_45, eX6_doze_46, eX6_doze_49, eX6_doze_51, eX6_doze_52, eX6_doze_55, eX6_doze_57, eX6_doze_58, eX6_doze_59, eX6_doze_61, eX6_doze_64, eX6_doze_67, eX6_doze_69, eX6_doze_71, eX6_doze_74, eX6_doze_76, eX6_doze_77, eX6_doze_80, eX6_doze_82, eX6_doze_85, eX6_doze_87, eX6_doze_89, eX6_doze_91, eX6_doze_92, eX6_doze_95, eX6_doze_97, eX6_doze_99, eX6_doze_100, eX6_doze_103, eX6_doze_105, hlt, eG, hg, WpR_some, Option.toList_some, Option.toList_none, List.cons_append, List.nil_append, List.append_nil, clr_n, clr_i, clr_a, ni_add, ni_mul, ni_sub, ni_lt, ni_le, ni_eq, ni_div, nat_mod_eq, ni_rem, iMax_nn, iMin_nn, iMax_sub, Nat.zero_max, bI_0, bI_1, bI_n0, up2_s, up2_n, up2_k, va_up_self, va_up_ne, ni_l, lN_mul, lN_add, ln_mask, lN_i, ↓reduceIte, if_true, if_false, not_true_eq_false, not_false_eq_true, ite_self, Nat.add_zero, Nat.zero_add, ent_def]
        exact f1
    · have f1 : Q (some (.int (nI (dzB σ / Nat.gcd (dzB σ) (dzA σ c x))))) (G, m1, ml) := by rw [← hQ]; rfl
      by_cases hg : Nat.gcd (dzB σ) (dzA σ c x) ≤ 1
      · have e1 : Nat.gcd (dzB σ) (dzA σ c x) = 1 := by omega
        rw [e1, Nat.div_one] at f1
        simp (maxSteps := 1000000) (decide := true) (disch := (first | assumption | omega | exact Nat.div_mul_le_self _ _ | exact ni_nz (by omega) (by omega) | exact rfl | exact retOk_bI _ | exact retOk_0 | exact retOk_1)) only [eX6_doze_0, eX6_doze_1, eX6_doze_2, eX6_doze_3, eX6_doze_6, eX6_doze_9, eX6_doze_10, eX6_doze_11, eX6_doze_13, eX6_doze_16, eX6_doze_19, eX6_doze_20, eX6_doze_21, eX6_doze_22, eX6_doze_25, eX6_doze_28, eX6_doze_29, eX6_doze_30, eX6_doze_31, eX6_doze_32, eX6_doze_35, eX6_doze_37, eX6_doze_38, eX6_doze_40, eX6_doze_41, eX6_doze_45, eX6_doze_46, eX6_doze_49, eX6_doze_51, eX6_doze_52, eX6_doze_55, eX6_doze_57, eX6_doze_58, eX6_doze_59, eX6_doze_61, eX6_doze_64, eX6_doze_67, eX6_doze_69, eX6_doze_71, eX6_doze_74, eX6_doze_76, eX6_doze_77, eX6_doze_80, eX6_doze_82, eX6_doze_85, eX6_doze_87, eX6_doze_89, eX6_doze_91, eX6_doze_92, eX6_doze_95, eX6_doze_97, eX6_doze_99, eX6_doze_100, eX6_doze_103, eX6_doze_105, hlt, eG, hg, WpR_some, Option.toList_some, Option.toList_none, List.cons_append, List.nil_append, List.append_nil, clr_n, clr_i, clr_a, ni_add, ni_mul, ni_sub, ni_lt, ni_le, ni_eq, ni_div, nat_mod_eq, ni_rem, iMax_nn, iMin_nn, iMax_sub, Nat.zero_max, bI_0, bI_1, bI_n0, up2_s, up2_n, up2_k, va_up_self, va_up_ne, ni_l, lN_mul, lN_add, ln_mask, lN_i, ↓reduceIte, if_true, if_false, not_true_eq_false, not_false_eq_true, ite_self, Nat.add_zero, Nat.zero_add, ent_def]
        exact f1
      · simp (maxSteps := 1000000) (decide := true) (disch := (first | assumption | omega | exact Nat.div_mul_le_self _ _ | exact ni_nz (by omega) (by omega) | exact rfl | exact retOk_bI _ | exact retOk_0 | exact retOk_1)) only [eX6_doze_0, eX6_doze_1, eX6_doze_2, eX6_doze_3, eX6_doze_6, eX6_doze_9, eX6_doze_10, eX6_doze_11, eX6_doze_13, eX6_doze_16, eX6_doze_19, eX6_doze_20, eX6_doze_21, eX6_doze_22, eX6_doze_25, eX6_doze_28, eX6_doze_29, eX6_doze_30, eX6_doze_31, eX6_doze_32, eX6_doze_35, eX6_doze_37, eX6_doze_38, eX6_doze_40, eX6_doze_41, eX6_doze_45, eX6_doze_46, eX6_doze_49, eX6_doze_51, eX6_doze_52, eX6_doze_55, eX6_doze_57, eX6_doze_58, eX6_doze_59, eX6_doze_61, eX6_doze_64, eX6_doze_67, eX6_doze_69, eX6_doze_71, eX6_doze_74, eX6_doze_76, eX6_doze_77, eX6_doze_80, eX6_doze_82, eX6_doze_85, eX6_doze_87, eX6_doze_89, eX6_doze_91, eX6_doze_92, eX6_doze_95, eX6_doze_97, eX6_doze_99, eX6_doze_100, eX6_doze_103, eX6_doze_105, hlt, eG, hg, WpR_some, Option.toList_some, Option.toList_none, List.cons_append, List.nil_append, List.append_nil, clr_n, clr_i, clr_a, ni_add, ni_mul, ni_sub, ni_lt, ni_le, ni_eq, ni_div, nat_mod_eq, ni_rem, iMax_nn, iMin_nn, iMax_sub, Nat.zero_max, bI_0, bI_1, bI_n0, up2_s, up2_n, up2_k, va_up_self, va_up_ne, ni_l, lN_mul, lN_add, ln_mask, lN_i, ↓reduceIte, if_true, if_false, not_true_eq_false, not_false_eq_true, ite_self, Nat.add_zero, Nat.zero_add, ent_def]
        exact f1
  · show 0 = sumN _ x
    rw [sumN_0]
    intro j hj
    rw [if_neg (by omega), Nat.zero_mul]
end CDZ
