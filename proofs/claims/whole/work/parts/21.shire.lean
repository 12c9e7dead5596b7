theorem r_X6_within {u v w : Int32} {μ : Mm} : res mX6_within [.int u, .int v, .int w] μ = some (some (.int (bI (decide (v ≤ u) && decide (u ≤ w)))), μ) := by
  apply res_of
  show Wp mX6_within 0 [some (.int u), some (.int v), some (.int w)] [] μ _
  simp (maxSteps := 1000000) (decide := true) (disch := (first | assumption | omega | exact Nat.div_mul_le_self _ _ | exact ni_nz (by omega) (by omega) | exact rfl | exact retOk_bI _ | exact retOk_0 | exact retOk_1)) only [eX6_within_0, eX6_within_1, eX6_within_2, eX6_within_5, eX6_within_6, eX6_within_7, eX6_within_10, eX6_within_11, eX6_within_14, eX6_within_15, i_lt, WpR_some, Option.toList_some, Option.toList_none, List.cons_append, List.nil_append, List.append_nil, clr_n, clr_i, clr_a, ni_add, ni_mul, ni_sub, ni_lt, ni_le, ni_eq, ni_div, nat_mod_eq, ni_rem, iMax_nn, iMin_nn, iMax_sub, Nat.zero_max, bI_0, bI_1, bI_n0, up2_s, up2_n, up2_k, ni_l, lN_mul, lN_add, ln_mask, lN_i, ↓reduceIte, if_true, if_false, not_true_eq_false, not_false_eq_true, ite_self, Nat.add_zero, Nat.zero_add, ent_def]
  by_cases h1 : v ≤ u <;> by_cases h2 : u ≤ w <;> simp [h1, h2, bI]
section SHR
variable {G : List AT} {m : Nat → Nat → Int32} {ml : Nat → Nat → Int64} {a n s h t : Nat} {σ : Nat → Nat}
theorem r_X3_leftOver (ha : atg G a = 13) (hs : m a 2 = nI s) (hn : n < 1000) (hs2 : s < 1000) : res mX3_leftOverBySeats [.ref a, .int (nI n)] (G, m, ml) = some (some (.int (nI (if s = 0 then 0 else n % s))), (G, m, ml)) := by
  apply res_of
  show Wp mX3_leftOverBySeats 0 [some (.ref a), some (.int (nI n))] [] (G, m, ml) _
  by_cases h0 : s = 0
  · subst h0
    simp (maxSteps := 1000000) (decide := true) (disch := (first | assumption | omega | exact Nat.div_mul_le_self _ _ | exact ni_nz (by omega) (by omega) | exact rfl | exact retOk_bI _ | exact retOk_0 | exact retOk_1)) only [eX3_leftOverBySeats_0, eX3_leftOverBySeats_1, eX3_leftOverBySeats_4, eX3_leftOverBySeats_7, eX3_leftOverBySeats_8, eX3_leftOverBySeats_11, eX3_leftOverBySeats_12, eX3_leftOverBySeats_13, eX3_leftOverBySeats_16, eX3_leftOverBySeats_17, hs, WpR_some, Option.toList_some, Option.toList_none, List.cons_append, List.nil_append, List.append_nil, clr_n, clr_i, clr_a, ni_add, ni_mul, ni_sub, ni_lt, ni_le, ni_eq, ni_div, nat_mod_eq, ni_rem, iMax_nn, iMin_nn, iMax_sub, Nat.zero_max, bI_0, bI_1, bI_n0, up2_s, up2_n, up2_k, ni_l, lN_mul, lN_add, ln_mask, lN_i, ↓reduceIte, if_true, if_false, not_true_eq_false, not_false_eq_true, ite_self, Nat.add_zero, Nat.zero_add, ent_def]
  · have : 0 < s := by omega
    simp (maxSteps := 1000000) (decide := true) (disch := (first | assumption | omega | exact Nat.div_mul_le_self _ _ | exact ni_nz (by omega) (by omega) | exact rfl | exact retOk_bI _ | exact retOk_0 | exact retOk_1)) only [eX3_leftOverBySeats_0, eX3_leftOverBySeats_1, eX3_leftOverBySeats_4, eX3_leftOverBySeats_7, eX3_leftOverBySeats_8, eX3_leftOverBySeats_11, eX3_leftOverBySeats_12, eX3_leftOverBySeats_13, eX3_leftOverBySeats_16, eX3_leftOverBySeats_17, hs, h0, WpR_some, Option.toList_some, Option.toList_none, List.cons_append, List.nil_append, List.append_nil, clr_n, clr_i, clr_a, ni_add, ni_mul, ni_sub, ni_lt, ni_le, ni_eq, ni_div, nat_mod_eq, ni_rem, iMax_nn, iMin_nn, iMax_sub, Nat.zero_max, bI_0, bI_1, bI_n0, up2_s, up2_n, up2_k, ni_l, lN_mul, lN_add, ln_mask, lN_i, ↓reduceIte, if_true, if_false, not_true_eq_false, not_false_eq_true, ite_self, Nat.add_zero, Nat.zero_add, ent_def]
theorem r_X3_timesHeard (hS : Sh G a) (hh : h < 5) (ht : t < 5) : res mX3_timesHeard [.ref a, .int (nI h), .int (nI t)] (G, m, ml) = some (some (.int (m (a + 6) (h * 5 + t))), (G, m, ml)) := by
  obtain ⟨s0, ⟨s1, s2, s3, s4, s5, s6⟩, ⟨g1, g2, g3, g4, g5, g6⟩, l1, l2, l3, l4, l5, l6⟩ := hS
  apply res_of
  show Wp mX3_timesHeard 0 [some (.ref a), some (.int (nI h)), some (.int (nI t))] [] (G, m, ml) _
  simp (maxSteps := 1000000) (decide := true) (disch := (first | assumption | omega | exact Nat.div_mul_le_self _ _ | exact ni_nz (by omega) (by omega) | exact rfl | exact retOk_bI _ | exact retOk_0 | exact retOk_1)) only [eX3_timesHeard_0, eX3_timesHeard_1, eX3_timesHeard_4, eX3_timesHeard_5, eX3_timesHeard_6, eX3_timesHeard_7, eX3_timesHeard_8, eX3_timesHeard_9, eX3_timesHeard_10, s6, WpR_some, Option.toList_some, Option.toList_none, List.cons_append, List.nil_append, List.append_nil, clr_n, clr_i, clr_a, ni_add, ni_mul, ni_sub, ni_lt, ni_le, ni_eq, ni_div, nat_mod_eq, ni_rem, iMax_nn, iMin_nn, iMax_sub, Nat.zero_max, bI_0, bI_1, bI_n0, up2_s, up2_n, up2_k, ni_l, lN_mul, lN_add, ln_mask, lN_i, ↓reduceIte, if_true, if_false, not_true_eq_false, not_false_eq_true, ite_self, Nat.add_zero, Nat.zero_add, ent_def]
def pl (σ : Nat → Nat) (h : Nat) : Nat := (h + seats σ - σ 40) % seats σ
def tO (σ : Nat → Nat) (h : Nat) : Int32 := if pl σ h < σ 44 then nI (pl σ h) else -4
def seat (σ : Nat → Nat) (t : Nat) : Nat := (t + σ 40) % seats σ
theorem seats_le (hB : Bd σ) : seats σ ≤ 5 := by
  unfold seats
  have := hB.1
  have := hB.2.1
  omega
theorem r_X3_seatOf (hS : Sh G a) (hV : ShV m a σ) (hB : Bd σ) (ht : t < 5) (h0 : 0 < seats σ) : res mX3_seatOf [.ref a, .int (nI t)] (G, m, ml) = some (some (.int (nI (seat σ t))), (G, m, ml)) := by
  have hs5 := seats_le hB
  obtain ⟨s0, -⟩ := hS
  obtain ⟨⟨v0, v1, v2, v3, v4, v5, v6⟩, -⟩ := ShV_old hV
  have hT : σ 40 < 5 := by
    have := hB.2.2.2.1
    omega
  apply res_of
  show Wp mX3_seatOf 0 [some (.ref a), some (.int (nI t))] [] (G, m, ml) _
  simp (maxSteps := 1000000) (decide := true) (disch := (first | assumption | omega | exact Nat.div_mul_le_self _ _ | exact ni_nz (by omega) (by omega) | exact rfl | exact retOk_bI _ | exact retOk_0 | exact retOk_1)) only [eX3_seatOf_0, eX3_seatOf_1, eX3_seatOf_2, eX3_seatOf_3, eX3_seatOf_6, eX3_seatOf_7, eX3_seatOf_10, v3, r_X3_leftOver s0 v2 (show t + σ 40 < 1000 by omega) (show seats σ < 1000 by omega), WpR_some, Option.toList_some, Option.toList_none, List.cons_append, List.nil_append, List.append_nil, clr_n, clr_i, clr_a, ni_add, ni_mul, ni_sub, ni_lt, ni_le, ni_eq, ni_div, nat_mod_eq, ni_rem, iMax_nn, iMin_nn, iMax_sub, Nat.zero_max, bI_0, bI_1, bI_n0, up2_s, up2_n, up2_k, ni_l, lN_mul, lN_add, ln_mask, lN_i, ↓reduceIte, if_true, if_false, not_true_eq_false, not_false_eq_true, ite_self, Nat.add_zero, Nat.zero_add, ent_def]
  rw [if_neg (by omega)]
  rfl
theorem r_X3_hearerOf (hS : Sh G a) (hV : ShV m a σ) (hB : Bd σ) (ht : t < 5) (h0 : 0 < seats σ) : res mX3_hearerOf [.ref a, .int (nI t)] (G, m, ml) = some (some (.int (if seat σ t < σ 45 then nI (seat σ t) else -4)), (G, m, ml)) := by
  have hs5 := seats_le hB
  have e := r_X3_seatOf (ml := ml) hS hV hB ht h0
  obtain ⟨s0, -⟩ := hS
  obtain ⟨⟨v0, v1, v2, v3, v4, v5, v6⟩, -⟩ := ShV_old hV
  have hq : seat σ t < 5 := Nat.lt_of_lt_of_le (Nat.mod_lt _ h0) hs5
  have := hB.2.1
  apply res_of
  show Wp mX3_hearerOf 0 [some (.ref a), some (.int (nI t)), none] [] (G, m, ml) _
  simp (maxSteps := 1000000) (decide := true) (disch := (first | assumption | omega | exact Nat.div_mul_le_self _ _ | exact ni_nz (by omega) (by omega) | exact rfl | exact retOk_bI _ | exact retOk_0 | exact retOk_1)) only [eX3_hearerOf_0, eX3_hearerOf_1, eX3_hearerOf_2, eX3_hearerOf_5, eX3_hearerOf_6, eX3_hearerOf_7, eX3_hearerOf_8, eX3_hearerOf_11, eX3_hearerOf_14, eX3_hearerOf_15, eX3_hearerOf_18, eX3_hearerOf_20, v1, e, WpR_some, Option.toList_some, Option.toList_none, List.cons_append, List.nil_append, List.append_nil, clr_n, clr_i, clr_a, ni_add, ni_mul, ni_sub, ni_lt, ni_le, ni_eq, ni_div, nat_mod_eq, ni_rem, iMax_nn, iMin_nn, iMax_sub, Nat.zero_max, bI_0, bI_1, bI_n0, up2_s, up2_n, up2_k, ni_l, lN_mul, lN_add, ln_mask, lN_i, ↓reduceIte, if_true, if_false, not_true_eq_false, not_false_eq_true, ite_self, Nat.add_zero, Nat.zero_add, ent_def]
  by_cases hc : seat σ t < σ 45
  · rw [if_neg (by omega), if_pos hc]
  · rw [if_pos (by omega), if_neg hc]
theorem r_X3_tellerOf (hS : Sh G a) (hV : ShV m a σ) (hB : Bd σ) (hh : h < 5) (h0 : 0 < seats σ) : res mX3_tellerOf [.ref a, .int (nI h)] (G, m, ml) = some (some (.int (tO σ h)), (G, m, ml)) := by
  have hs5 := seats_le hB
  obtain ⟨s0, -⟩ := hS
  obtain ⟨⟨v0, v1, v2, v3, v4, v5, v6⟩, -⟩ := ShV_old hV
  have hT : σ 40 < seats σ := by
    have := hB.2.2.2.1
    omega
  have hq : pl σ h < 5 := Nat.lt_of_lt_of_le (Nat.mod_lt _ h0) hs5
  have := hB.1
  have e : res mX3_leftOverBySeats [.ref a, .int (nI (h + seats σ - σ 40))] (G, m, ml) = some (some (.int (nI (pl σ h))), (G, m, ml)) := by
    have e := r_X3_leftOver (ml := ml) (n := h + seats σ - σ 40) s0 v2 (by omega) (by omega)
    rw [if_neg (by omega)] at e
    exact e
  apply res_of
  show Wp mX3_tellerOf 0 [some (.ref a), some (.int (nI h)), none] [] (G, m, ml) _
  simp (maxSteps := 1000000) (decide := true) (disch := (first | assumption | omega | exact Nat.div_mul_le_self _ _ | exact ni_nz (by omega) (by omega) | exact rfl | exact retOk_bI _ | exact retOk_0 | exact retOk_1)) only [eX3_tellerOf_0, eX3_tellerOf_1, eX3_tellerOf_2, eX3_tellerOf_3, eX3_tellerOf_6, eX3_tellerOf_7, eX3_tellerOf_8, eX3_tellerOf_11, eX3_tellerOf_12, eX3_tellerOf_15, eX3_tellerOf_16, eX3_tellerOf_17, eX3_tellerOf_18, eX3_tellerOf_21, eX3_tellerOf_24, eX3_tellerOf_25, eX3_tellerOf_28, eX3_tellerOf_30, v0, v2, v3, e, WpR_some, Option.toList_some, Option.toList_none, List.cons_append, List.nil_append, List.append_nil, clr_n, clr_i, clr_a, ni_add, ni_mul, ni_sub, ni_lt, ni_le, ni_eq, ni_div, nat_mod_eq, ni_rem, iMax_nn, iMin_nn, iMax_sub, Nat.zero_max, bI_0, bI_1, bI_n0, up2_s, up2_n, up2_k, ni_l, lN_mul, lN_add, ln_mask, lN_i, ↓reduceIte, if_true, if_false, not_true_eq_false, not_false_eq_true, ite_self, Nat.add_zero, Nat.zero_add, ent_def]
  unfold tO
  by_cases hc : pl σ h < σ 44
  · rw [if_neg (by omega), if_pos hc]
  · rw [if_pos (by omega), if_neg hc]
def cst (σ : Nat → Nat) (h t : Nat) : Nat :=
  if σ (46 + t) = 1 then σ (5 + t) + σ (10 + (h * 5 + t))
  else if σ (46 + t) = 2 then (if σ 42 % 2 = 1 then σ (5 + t) / 2 else σ (5 + t))
  else if σ (46 + t) = 3 then (if σ (10 + (h * 5 + t)) = 0 then σ (5 + t) - 4 else σ (5 + t) + σ (10 + (h * 5 + t)))
  else if σ (46 + t) = 4 then (if 9 < σ h then (if σ 42 % 2 = 1 then σ (5 + t) / 2 else σ (5 + t)) else (if σ 42 % 2 = 1 then σ (5 + t) / 2 else σ (5 + t)) + 3)
  else σ (5 + t)
theorem r_X3_costFor (hS : Sh G a) (hV : ShV m a σ) (hB : Bd σ) (hh : h < σ 45) (ht : t < σ 44) : res mX3_costFor [.ref a, .int (nI h), .int (nI t)] (G, m, ml) = some (some (.int (nI (cst σ h t))), (G, m, ml)) := by
  obtain ⟨b1, b2, b3, b4, b5, b6, b7, b8, b9, b10, b11, b12⟩ := hB
  have e := r_X3_timesHeard (m := m) (ml := ml) hS (show h < 5 by omega) (show t < 5 by omega)
  obtain ⟨s0, ⟨s1, s2, s3, s4, s5, s6⟩, ⟨g1, g2, g3, g4, g5, g6⟩, l1, l2, l3, l4, l5, l6⟩ := hS
  obtain ⟨⟨v0, v1, v2, v3, v4, v5, v6⟩, w1, w2, w3, w4, w5, w6⟩ := ShV_old hV
  have x1 := w1 t ht
  have x2 := w2 t ht
  have x4 := w4 h hh
  have x6 := w6 (h * 5 + t) (by omega)
  have y7 := b7 t (by omega)
  have y8 := b8 t (by omega)
  have y9 := b9 h (by omega)
  have y12 := b12 (h * 5 + t) (by omega)
  rw [x6] at e
  apply res_of
  show Wp mX3_costFor 0 [some (.ref a), some (.int (nI h)), some (.int (nI t)), none, none, none] [] (G, m, ml) _
  unfold cst
  have hk : σ (46 + t) = 0 ∨ σ (46 + t) = 1 ∨ σ (46 + t) = 2 ∨ σ (46 + t) = 3 ∨ σ (46 + t) = 4 := by omega
  by_cases hev : σ 42 % 2 = 1 <;> by_cases h9 : σ (10 + (h * 5 + t)) = 0 <;> by_cases hb9 : 9 < σ h <;> rcases hk with hk | hk | hk | hk | hk <;> rw [hk] at x1
  all_goals (simp (maxSteps := 1000000) (decide := true) (disch := (first | assumption | omega | exact Nat.div_mul_le_self _ _ | exact ni_nz (by omega) (by omega) | exact rfl | exact retOk_bI _ | exact retOk_0 | exact retOk_1)) only [eX3_costFor_0, eX3_costFor_1, eX3_costFor_4, eX3_costFor_5, eX3_costFor_6, eX3_costFor_7, eX3_costFor_8, eX3_costFor_9, eX3_costFor_10, eX3_costFor_11, eX3_costFor_14, eX3_costFor_15, eX3_costFor_17, eX3_costFor_18, eX3_costFor_21, eX3_costFor_22, eX3_costFor_23, eX3_costFor_24, eX3_costFor_27, eX3_costFor_28, eX3_costFor_29, eX3_costFor_30, eX3_costFor_33, eX3_costFor_34, eX3_costFor_36, eX3_costFor_37, eX3_costFor_40, eX3_costFor_41, eX3_costFor_42, eX3_costFor_76, eX3_costFor_78, eX3_costFor_79, eX3_costFor_81, eX3_costFor_82, eX3_costFor_83, eX3_costFor_84, eX3_costFor_85, eX3_costFor_88, eX3_costFor_91, eX3_costFor_92, eX3_costFor_94, eX3_costFor_95, eX3_costFor_96, eX3_costFor_99, eX3_costFor_102, eX3_costFor_104, eX3_costFor_105, eX3_costFor_106, eX3_costFor_109, eX3_costFor_110, eX3_costFor_111, eX3_costFor_113, eX3_costFor_116, eX3_costFor_118, eX3_costFor_119, eX3_costFor_120, eX3_costFor_123, eX3_costFor_125, eX3_costFor_126, eX3_costFor_127, s1, s2, s4, v5, x1, x2, x4, e, hev, h9, hb9, hk, WpR_some, Option.toList_some, Option.toList_none, List.cons_append, List.nil_append, List.append_nil, clr_n, clr_i, clr_a, ni_add, ni_mul, ni_sub, ni_lt, ni_le, ni_eq, ni_div, nat_mod_eq, ni_rem, iMax_nn, iMin_nn, iMax_sub, Nat.zero_max, bI_0, bI_1, bI_n0, up2_s, up2_n, up2_k, ni_l, lN_mul, lN_add, ln_mask, lN_i, ↓reduceIte, if_true, if_false, not_true_eq_false, not_false_eq_true, ite_self, Nat.add_zero, Nat.zero_add, ent_def])
end SHR
