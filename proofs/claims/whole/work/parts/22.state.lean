def upN (σ : Nat → Nat) (k v : Nat) : Nat → Nat := fun j => if j = k then v else σ j
theorem upN_s {σ : Nat → Nat} {k v : Nat} : upN σ k v k = v := by simp [upN]
theorem upN_n {σ : Nat → Nat} {k v j : Nat} (h : j ≠ k) : upN σ k v j = σ j := by simp [upN, h]
theorem up2_at {m : Nat → Nat → Int32} {a k : Nat} {v : Int32} (b j : Nat) : up2 m a k v b j = if b = a ∧ j = k then v else m b j := by
  by_cases hb : b = a
  · subst hb
    by_cases hj : j = k
    · subst hj; rw [up2_s, if_pos ⟨rfl, rfl⟩]
    · rw [up2_k hj, if_neg (fun q => hj q.2)]
  · rw [up2_n hb, if_neg (fun q => hb q.1)]
theorem cOK_inj : ∀ i, i < 56 → ∀ j, j < 56 → cO i = cO j → cK i = cK j → i = j := by decide +kernel
theorem cOK_2 : ∀ i, i < 56 → ¬ (cO i = 0 ∧ cK i = 2) := by decide +kernel
theorem cO_le (i : Nat) : cO i ≤ 6 := by
  unfold cO
  repeat' split
  all_goals omega
section STT
variable {m : Nat → Nat → Int32} {a k v h i : Nat} {σ : Nat → Nat}
theorem live_up (h4 : i ≠ 44) (h5 : i ≠ 45) {j : Nat} : live (upN σ i v) j = live σ j := by
  unfold live
  rw [upN_n (Ne.symm h4), upN_n (Ne.symm h5)]
theorem seats_up (h4 : i ≠ 44) (h5 : i ≠ 45) : seats (upN σ i v) = seats σ := by
  unfold seats
  rw [upN_n (Ne.symm h4), upN_n (Ne.symm h5)]
/-- one part of the state is written -/
theorem ShV_up (hV : ShV m a σ) (hi : i < 56) (h4 : i ≠ 44) (h5 : i ≠ 45) {o : Nat} (ho : a + cO i = o) (hk : cK i = k) : ShV (up2 m o k (nI v)) a (upN σ i v) := by
  obtain ⟨b1, b2, b3, w⟩ := hV
  subst ho
  subst hk
  refine ⟨by rw [upN_n (Ne.symm h4)]; exact b1, by rw [upN_n (Ne.symm h5)]; exact b2, ?_, fun j hj hl => ?_⟩
  · rw [up2_at, if_neg, b3, seats_up h4 h5]
    intro q
    exact cOK_2 i hi ⟨by omega, q.2.symm⟩
  · rw [live_up h4 h5] at hl
    rw [up2_at]
    by_cases hq : j = i
    · subst hq
      rw [if_pos ⟨rfl, rfl⟩, upN_s]
    · rw [if_neg (fun q => hq (cOK_inj j hj i hi (by omega) q.2)), w j hj hl, upN_n hq]
theorem ShV_fr {m' : Nat → Nat → Int32} (hV : ShV m a σ) (h : ∀ b, a ≤ b → b ≤ a + 6 → m' b = m b) : ShV m' a σ := by
  obtain ⟨b1, b2, b3, w⟩ := hV
  refine ⟨b1, b2, by rw [h a (by omega) (by omega)]; exact b3, fun j hj hl => ?_⟩
  have := cO_le j
  rw [h _ (by omega) (by omega)]
  exact w j hj hl
end STT
/-- one hearer's evening; π: which teller sits at a place -/
def sitO (π : Nat → Nat) (σ : Nat → Nat) (h : Nat) : Nat := if pl σ h < σ 44 then (if σ h < cst σ h (π (pl σ h)) then 2 else 1) else 0
def sit (π : Nat → Nat) (σ : Nat → Nat) (h : Nat) : Nat → Nat :=
  if pl σ h < σ 44 then (if σ h < cst σ h (π (pl σ h)) then upN (upN σ (35 + h) (σ (35 + h) + 1)) h 0
    else upN (upN σ h (σ h - cst σ h (π (pl σ h)))) (10 + (h * 5 + π (pl σ h))) (min 9 (σ (10 + (h * 5 + π (pl σ h))) + 1)))
  else upN σ h (min (σ (51 + h)) (σ h + 5))
def gon (σ : Nat → Nat) : Nat → Nat := upN (upN σ 40 (if seats σ = 0 then 0 else (σ 40 + σ 41) % seats σ)) 42 (σ 42 + 1)
section SIT
variable {G : List AT} {m : Nat → Nat → Int32} {ml : Nat → Nat → Int64} {a n s h t : Nat} {σ : Nat → Nat}
theorem r_X3_relieve (hS : Sh G a) (hV : ShV m a σ) (hB : Bd σ) (hh : h < σ 45) (hn : n < 1000) : res mX3_relieve [.ref a, .int (nI h), .int (nI n)] (G, m, ml) = some (none, (G, up2 m (a + 4) h (nI (min (σ (51 + h)) (σ h + n))), ml)) := by
  obtain ⟨b1, b2, b3, b4, b5, b6, b7, b8, b9, b10, b11, b12⟩ := hB
  obtain ⟨s0, ⟨s1, s2, s3, s4, s5, s6⟩, ⟨g1, g2, g3, g4, g5, g6⟩, l1, l2, l3, l4, l5, l6⟩ := hS
  obtain ⟨⟨v0, v1, v2, v3, v4, v5, v6⟩, w1, w2, w3, w4, w5, w6⟩ := ShV_old hV
  have x3 := w3 h hh
  have x4 := w4 h hh
  have y9 := b9 h (by omega)
  have y10 := b10 h (by omega)
  apply res_of
  show Wp mX3_relieve 0 [some (.ref a), some (.int (nI h)), some (.int (nI n))] [] (G, m, ml) _
  simp (maxSteps := 1000000) (decide := true) (disch := (first | assumption | omega | exact Nat.div_mul_le_self _ _ | exact ni_nz (by omega) (by omega) | exact rfl | exact retOk_bI _ | exact retOk_0 | exact retOk_1)) only [eX3_relieve_0, eX3_relieve_1, eX3_relieve_4, eX3_relieve_5, eX3_relieve_6, eX3_relieve_9, eX3_relieve_10, eX3_relieve_11, eX3_relieve_12, eX3_relieve_15, eX3_relieve_16, eX3_relieve_17, eX3_relieve_18, eX3_relieve_19, eX3_relieve_22, eX3_relieve_23, s3, s4, x3, x4, WpR_some, Option.toList_some, Option.toList_none, List.cons_append, List.nil_append, List.append_nil, clr_n, clr_i, clr_a, ni_add, ni_mul, ni_sub, ni_lt, ni_le, ni_eq, ni_div, nat_mod_eq, ni_rem, iMax_nn, iMin_nn, iMax_sub, Nat.zero_max, bI_0, bI_1, bI_n0, up2_s, up2_n, up2_k, ni_l, lN_mul, lN_add, ln_mask, lN_i, ↓reduceIte, if_true, if_false, not_true_eq_false, not_false_eq_true, ite_self, Nat.add_zero, Nat.zero_add, ent_def]
theorem r_X3_goOn (hS : Sh G a) (hV : ShV m a σ) (hB : Bd σ) : res mX3_goOn [.ref a] (G, m, ml) = some (none, (G, up2 (up2 m a 3 (nI (gon σ 40))) a 5 (nI (σ 42 + 1)), ml)) := by
  obtain ⟨b1, b2, b3, b4, b5, b6, b7, b8, b9, b10, b11, b12⟩ := hB
  have hs5 : seats σ ≤ 5 := by unfold seats; omega
  obtain ⟨s0, -⟩ := hS
  obtain ⟨⟨v0, v1, v2, v3, v4, v5, v6⟩, -⟩ := ShV_old hV
  have e := r_X3_leftOver (ml := ml) (n := σ 40 + σ 41) s0 v2 (by omega) (by omega)
  have e2 : gon σ 40 = if seats σ = 0 then 0 else (σ 40 + σ 41) % seats σ := by
    unfold gon
    rw [upN_n (by decide), upN_s]
  rw [← e2] at e
  apply res_of
  show Wp mX3_goOn 0 [some (.ref a)] [] (G, m, ml) _
  simp (maxSteps := 1000000) (decide := true) (disch := (first | assumption | omega | exact Nat.div_mul_le_self _ _ | exact ni_nz (by omega) (by omega) | exact rfl | exact retOk_bI _ | exact retOk_0 | exact retOk_1)) only [eX3_goOn_0, eX3_goOn_1, eX3_goOn_2, eX3_goOn_3, eX3_goOn_6, eX3_goOn_7, eX3_goOn_10, eX3_goOn_11, eX3_goOn_14, eX3_goOn_17, eX3_goOn_18, eX3_goOn_19, eX3_goOn_22, eX3_goOn_23, eX3_goOn_24, eX3_goOn_27, v3, v4, v5, e, WpR_some, Option.toList_some, Option.toList_none, List.cons_append, List.nil_append, List.append_nil, clr_n, clr_i, clr_a, ni_add, ni_mul, ni_sub, ni_lt, ni_le, ni_eq, ni_div, nat_mod_eq, ni_rem, iMax_nn, iMin_nn, iMax_sub, Nat.zero_max, bI_0, bI_1, bI_n0, up2_s, up2_n, up2_k, ni_l, lN_mul, lN_add, ln_mask, lN_i, ↓reduceIte, if_true, if_false, not_true_eq_false, not_false_eq_true, ite_self, Nat.add_zero, Nat.zero_add, ent_def]
theorem ShV_goOn (hV : ShV m a σ) : ShV (up2 (up2 m a 3 (nI (gon σ 40))) a 5 (nI (σ 42 + 1))) a (gon σ) := by
  have e2 : gon σ 40 = if seats σ = 0 then 0 else (σ 40 + σ 41) % seats σ := by
    unfold gon
    rw [upN_n (by decide), upN_s]
  rw [e2]
  unfold gon
  exact ShV_up (i := 42) (ShV_up (i := 40) hV (by decide) (by decide) (by decide) (by simp [cO]) (by decide)) (by decide) (by decide) (by decide) (by simp [cO]) (by decide)
theorem r_X3_sitThrough (hS : Sh G a) (hV : ShV m a σ) (hB : Bd σ) (hh : h < σ 45) : ∃ m', res mX3_sitThrough [.ref a, .int (nI h)] (G, m, ml) = some (some (.int (nI (sitO id σ h))), (G, m', ml)) ∧ ShV m' a (sit id σ h) ∧ ∀ b, b < a + 4 ∨ a + 6 < b → m' b = m b := by
  have hseat : 0 < seats σ := by unfold seats; omega
  have h5 : h < 5 := by have := hB.2.1; omega
  have eT := r_X3_tellerOf (ml := ml) hS hV hB h5 hseat
  have eR := r_X3_relieve (ml := ml) (n := 5) hS hV hB hh (by decide)
  have eC := fun ht => r_X3_costFor (ml := ml) (t := pl σ h) hS hV hB hh ht
  have eH := fun ht => r_X3_timesHeard (m := up2 m (a + 4) h (nI (σ h - cst σ h (pl σ h)))) (ml := ml) (t := pl σ h) hS h5 ht
  have hS0 := hS
  obtain ⟨b1, b2, b3, b4, b5, b6, b7, b8, b9, b10, b11, b12⟩ := hB
  obtain ⟨s0, ⟨s1, s2, s3, s4, s5, s6⟩, ⟨g1, g2, g3, g4, g5, g6⟩, l1, l2, l3, l4, l5, l6⟩ := hS
  obtain ⟨⟨v0, v1, v2, v3, v4, v5, v6⟩, w1, w2, w3, w4, w5, w6⟩ := ShV_old hV
  have x4 := w4 h hh
  have x5 := w5 h h5
  have y9 := b9 h h5
  have y11 := b11 h h5
  by_cases hp : pl σ h < σ 44
  · have eC := eC hp
    have eH := eH (by omega)
    have x6 := w6 (h * 5 + pl σ h) (by omega)
    have y12 := b12 (h * 5 + pl σ h) (by omega)
    have eT' : tO σ h = nI (pl σ h) := if_pos hp
    rw [eT'] at eT
    have hne : ¬ nI (pl σ h) = -4 := by
      rw [show (-4 : Int32) = nI 4294967292 by decide]
      intro q
      have := congrArg Int32.toInt q
      rw [nI_toInt (by omega)] at this
      have h9 : (nI 4294967292).toInt = -4 := by decide
      omega
    have hcb : cst σ h (pl σ h) ≤ 60 := by
      have q7 := b7 (pl σ h) (by omega)
      have q8 := b8 (pl σ h) (by omega)
      unfold cst
      repeat' split
      all_goals omega
    by_cases hc : σ h < cst σ h (pl σ h)
    · refine ⟨up2 (up2 m (a + 5) h (nI (σ (35 + h) + 1))) (a + 4) h (nI 0), ?_, ?_, ?_⟩
      · apply res_of
        show Wp mX3_sitThrough 0 [some (.ref a), some (.int (nI h)), none, none] [] (G, m, ml) _
        simp only [sitO, id, hp, hc, if_true]
        have hc' : ¬ cst σ h (pl σ h) ≤ σ h := by omega
        simp (maxSteps := 1000000) (decide := true) (disch := (first | assumption | omega | exact Nat.div_mul_le_self _ _ | exact ni_nz (by omega) (by omega) | exact rfl | exact retOk_bI _ | exact retOk_0 | exact retOk_1)) only [eX3_sitThrough_0, eX3_sitThrough_1, eX3_sitThrough_2, eX3_sitThrough_5, eX3_sitThrough_6, eX3_sitThrough_7, eX3_sitThrough_9, eX3_sitThrough_12, eX3_sitThrough_13, eX3_sitThrough_14, eX3_sitThrough_15, eX3_sitThrough_18, eX3_sitThrough_19, eX3_sitThrough_20, eX3_sitThrough_21, eX3_sitThrough_22, eX3_sitThrough_23, eX3_sitThrough_26, eX3_sitThrough_27, eX3_sitThrough_28, eX3_sitThrough_29, eX3_sitThrough_32, eX3_sitThrough_33, eX3_sitThrough_34, eX3_sitThrough_37, eX3_sitThrough_38, eX3_sitThrough_41, eX3_sitThrough_42, eX3_sitThrough_43, eX3_sitThrough_44, eX3_sitThrough_45, eX3_sitThrough_46, eX3_sitThrough_47, eX3_sitThrough_48, eX3_sitThrough_51, eX3_sitThrough_52, eX3_sitThrough_53, eX3_sitThrough_54, eX3_sitThrough_55, eX3_sitThrough_56, eX3_sitThrough_57, eX3_sitThrough_60, eX3_sitThrough_61, eX3_sitThrough_62, eX3_sitThrough_63, eX3_sitThrough_64, eX3_sitThrough_65, eX3_sitThrough_66, eX3_sitThrough_67, eX3_sitThrough_70, eX3_sitThrough_71, eX3_sitThrough_72, eX3_sitThrough_73, eX3_sitThrough_74, eX3_sitThrough_75, eX3_sitThrough_77, eX3_sitThrough_78, eX3_sitThrough_79, eX3_sitThrough_80, eX3_sitThrough_83, eX3_sitThrough_84, eX3_sitThrough_85, eX3_sitThrough_88, eX3_sitThrough_89, eX3_sitThrough_90, s4, s5, s6, x4, x5, eT, eC, hne, hc', WpR_some, Option.toList_some, Option.toList_none, List.cons_append, List.nil_append, List.append_nil, clr_n, clr_i, clr_a, ni_add, ni_mul, ni_sub, ni_lt, ni_le, ni_eq, ni_div, nat_mod_eq, ni_rem, iMax_nn, iMin_nn, iMax_sub, Nat.zero_max, bI_0, bI_1, bI_n0, up2_s, up2_n, up2_k, ni_l, lN_mul, lN_add, ln_mask, lN_i, ↓reduceIte, if_true, if_false, not_true_eq_false, not_false_eq_true, ite_self, Nat.add_zero, Nat.zero_add, ent_def]
      · simp only [sit, id, hp, hc, if_true]
        exact ShV_up (i := h) (ShV_up (i := 35 + h) hV (by omega) (by omega) (by omega) (by simp only [cO]; rw [if_neg (by omega), if_neg (by omega), if_neg (by omega), if_pos (by omega)]) (by simp only [cK]; rw [if_neg (by omega), if_neg (by omega), if_neg (by omega), if_pos (by omega)]; omega)) (by omega) (by omega) (by omega) (by simp only [cO]; rw [if_pos (by omega)]) (by simp only [cK]; rw [if_pos (by omega)])
      · intro b hb
        rw [up2_n (by omega), up2_n (by omega)]
    · refine ⟨up2 (up2 m (a + 4) h (nI (σ h - cst σ h (pl σ h)))) (a + 6) (h * 5 + pl σ h) (nI (min 9 (σ (10 + (h * 5 + pl σ h)) + 1))), ?_, ?_, ?_⟩
      · rw [up2_n (by omega), x6] at eH
        apply res_of
        show Wp mX3_sitThrough 0 [some (.ref a), some (.int (nI h)), none, none] [] (G, m, ml) _
        simp only [sitO, id, hp, hc, if_true, if_false]
        have hc' : cst σ h (pl σ h) ≤ σ h := by omega
        simp (maxSteps := 1000000) (decide := true) (disch := (first | assumption | omega | exact Nat.div_mul_le_self _ _ | exact ni_nz (by omega) (by omega) | exact rfl | exact retOk_bI _ | exact retOk_0 | exact retOk_1)) only [eX3_sitThrough_0, eX3_sitThrough_1, eX3_sitThrough_2, eX3_sitThrough_5, eX3_sitThrough_6, eX3_sitThrough_7, eX3_sitThrough_9, eX3_sitThrough_12, eX3_sitThrough_13, eX3_sitThrough_14, eX3_sitThrough_15, eX3_sitThrough_18, eX3_sitThrough_19, eX3_sitThrough_20, eX3_sitThrough_21, eX3_sitThrough_22, eX3_sitThrough_23, eX3_sitThrough_26, eX3_sitThrough_27, eX3_sitThrough_28, eX3_sitThrough_29, eX3_sitThrough_32, eX3_sitThrough_33, eX3_sitThrough_34, eX3_sitThrough_37, eX3_sitThrough_38, eX3_sitThrough_41, eX3_sitThrough_42, eX3_sitThrough_43, eX3_sitThrough_44, eX3_sitThrough_45, eX3_sitThrough_46, eX3_sitThrough_47, eX3_sitThrough_48, eX3_sitThrough_51, eX3_sitThrough_52, eX3_sitThrough_53, eX3_sitThrough_54, eX3_sitThrough_55, eX3_sitThrough_56, eX3_sitThrough_57, eX3_sitThrough_60, eX3_sitThrough_61, eX3_sitThrough_62, eX3_sitThrough_63, eX3_sitThrough_64, eX3_sitThrough_65, eX3_sitThrough_66, eX3_sitThrough_67, eX3_sitThrough_70, eX3_sitThrough_71, eX3_sitThrough_72, eX3_sitThrough_73, eX3_sitThrough_74, eX3_sitThrough_75, eX3_sitThrough_77, eX3_sitThrough_78, eX3_sitThrough_79, eX3_sitThrough_80, eX3_sitThrough_83, eX3_sitThrough_84, eX3_sitThrough_85, eX3_sitThrough_88, eX3_sitThrough_89, eX3_sitThrough_90, s4, s5, s6, x4, x5, eT, eC, eH, hne, hc', WpR_some, Option.toList_some, Option.toList_none, List.cons_append, List.nil_append, List.append_nil, clr_n, clr_i, clr_a, ni_add, ni_mul, ni_sub, ni_lt, ni_le, ni_eq, ni_div, nat_mod_eq, ni_rem, iMax_nn, iMin_nn, iMax_sub, Nat.zero_max, bI_0, bI_1, bI_n0, up2_s, up2_n, up2_k, ni_l, lN_mul, lN_add, ln_mask, lN_i, ↓reduceIte, if_true, if_false, not_true_eq_false, not_false_eq_true, ite_self, Nat.add_zero, Nat.zero_add, ent_def]
      · simp only [sit, id, hp, hc, if_true, if_false]
        exact ShV_up (i := 10 + (h * 5 + pl σ h)) (ShV_up (i := h) hV (by omega) (by omega) (by omega) (by simp only [cO]; rw [if_pos (by omega)]) (by simp only [cK]; rw [if_pos (by omega)])) (by omega) (by omega) (by omega) (by simp only [cO]; rw [if_neg (by omega), if_neg (by omega), if_pos (by omega)]) (by simp only [cK]; rw [if_neg (by omega), if_neg (by omega), if_pos (by omega)]; omega)
      · intro b hb
        rw [up2_n (by omega), up2_n (by omega)]
  · have eT' : tO σ h = -4 := if_neg hp
    rw [eT'] at eT
    refine ⟨up2 m (a + 4) h (nI (min (σ (51 + h)) (σ h + 5))), ?_, ?_, ?_⟩
    · apply res_of
      show Wp mX3_sitThrough 0 [some (.ref a), some (.int (nI h)), none, none] [] (G, m, ml) _
      simp only [sitO, hp, if_false]
      simp (maxSteps := 1000000) (decide := true) (disch := (first | assumption | omega | exact Nat.div_mul_le_self _ _ | exact ni_nz (by omega) (by omega) | exact rfl | exact retOk_bI _ | exact retOk_0 | exact retOk_1)) only [eX3_sitThrough_0, eX3_sitThrough_1, eX3_sitThrough_2, eX3_sitThrough_5, eX3_sitThrough_6, eX3_sitThrough_7, eX3_sitThrough_9, eX3_sitThrough_12, eX3_sitThrough_13, eX3_sitThrough_14, eX3_sitThrough_15, eX3_sitThrough_18, eX3_sitThrough_19, eX3_sitThrough_20, eX3_sitThrough_21, eX3_sitThrough_22, eX3_sitThrough_23, eX3_sitThrough_26, eX3_sitThrough_27, eX3_sitThrough_28, eX3_sitThrough_29, eX3_sitThrough_32, eX3_sitThrough_33, eX3_sitThrough_34, eX3_sitThrough_37, eX3_sitThrough_38, eX3_sitThrough_41, eX3_sitThrough_42, eX3_sitThrough_43, eX3_sitThrough_44, eX3_sitThrough_45, eX3_sitThrough_46, eX3_sitThrough_47, eX3_sitThrough_48, eX3_sitThrough_51, eX3_sitThrough_52, eX3_sitThrough_53, eX3_sitThrough_54, eX3_sitThrough_55, eX3_sitThrough_56, eX3_sitThrough_57, eX3_sitThrough_60, eX3_sitThrough_61, eX3_sitThrough_62, eX3_sitThrough_63, eX3_sitThrough_64, eX3_sitThrough_65, eX3_sitThrough_66, eX3_sitThrough_67, eX3_sitThrough_70, eX3_sitThrough_71, eX3_sitThrough_72, eX3_sitThrough_73, eX3_sitThrough_74, eX3_sitThrough_75, eX3_sitThrough_77, eX3_sitThrough_78, eX3_sitThrough_79, eX3_sitThrough_80, eX3_sitThrough_83, eX3_sitThrough_84, eX3_sitThrough_85, eX3_sitThrough_88, eX3_sitThrough_89, eX3_sitThrough_90, eT, eR, WpR_some, Option.toList_some, Option.toList_none, List.cons_append, List.nil_append, List.append_nil, clr_n, clr_i, clr_a, ni_add, ni_mul, ni_sub, ni_lt, ni_le, ni_eq, ni_div, nat_mod_eq, ni_rem, iMax_nn, iMin_nn, iMax_sub, Nat.zero_max, bI_0, bI_1, bI_n0, up2_s, up2_n, up2_k, ni_l, lN_mul, lN_add, ln_mask, lN_i, ↓reduceIte, if_true, if_false, not_true_eq_false, not_false_eq_true, ite_self, Nat.add_zero, Nat.zero_add, ent_def]
    · simp only [sit, hp, if_false]
      exact ShV_up (i := h) hV (by omega) (by omega) (by omega) (by simp only [cO]; rw [if_pos (by omega)]) (by simp only [cK]; rw [if_pos (by omega)])
    · intro b hb
      rw [up2_n (by omega)]
end SIT

/-- room for ke evenings and kl looks more -/
def Bk (ke kl : Nat) (σ : Nat → Nat) : Prop := Bd σ ∧ σ 42 + ke < 100000 ∧ ∀ j, j < 5 → σ (35 + j) + kl < 1000000
section SI2
variable {G : List AT} {m : Nat → Nat → Int32} {ml : Nat → Nat → Int64} {a n s h t ke kl : Nat} {σ : Nat → Nat} {π : Nat → Nat}
theorem cst_le (hB : Bd σ) (ht : t < 5) (hh : h < 5) : cst σ h t ≤ 60 := by
  obtain ⟨b1, b2, b3, b4, b5, b6, b7, b8, b9, b10, b11, b12⟩ := hB
  have q7 := b7 t ht
  have q8 := b8 t ht
  have q12 := b12 (h * 5 + t) (by omega)
  unfold cst
  repeat' split
  all_goals omega
theorem Bd_up {i v : Nat} (hB : Bd σ) (hi : i < 56) (h : (i = 40 → v < seats σ) ∧ i ≠ 44 ∧ i ≠ 45 ∧ (i = 41 → v ≤ 4) ∧ (i = 42 → v < 100000) ∧ (i = 43 → v < 2147483648) ∧ (46 ≤ i → i < 51 → v ≤ 4) ∧ (5 ≤ i → i < 10 → v ≤ 20) ∧ (i < 5 → v ≤ 99) ∧ (51 ≤ i → v ≤ 99) ∧ (35 ≤ i → i < 40 → v < 1000000) ∧ (10 ≤ i → i < 35 → v ≤ 9)) : Bd (upN σ i v) := by
  obtain ⟨b1, b2, b3, b4, b5, b6, b7, b8, b9, b10, b11, b12⟩ := hB
  obtain ⟨c1, c2, c3, c4, c5, c6, c7, c8, c9, c10, c11, c12⟩ := h
  have es := seats_up (σ := σ) (v := v) c2 c3
  unfold Bd
  rw [es, upN_n (Ne.symm c2), upN_n (Ne.symm c3)]
  have key : ∀ j, upN σ i v j = if j = i then v else σ j := fun j => rfl
  refine ⟨b1, b2, ?_, ?_, ?_, ?_, ?_, ?_, ?_, ?_, ?_, ?_⟩
  · rw [key]; split
    · exact c4 (by omega)
    · exact b3
  · rw [key]; split
    · exact Or.inl (c1 (by omega))
    · exact b4
  · rw [key]; split
    · exact c5 (by omega)
    · exact b5
  · rw [key]; split
    · exact c6 (by omega)
    · exact b6
  · intro j hj; rw [key]; split
    · exact c7 (by omega) (by omega)
    · exact b7 j hj
  · intro j hj; rw [key]; split
    · exact c8 (by omega) (by omega)
    · exact b8 j hj
  · intro j hj; rw [key]; split
    · exact c9 (by omega)
    · exact b9 j hj
  · intro j hj; rw [key]; split
    · exact c10 (by omega)
    · exact b10 j hj
  · intro j hj; rw [key]; split
    · exact c11 (by omega) (by omega)
    · exact b11 j hj
  · intro j hj; rw [key]; split
    · exact c12 (by omega) (by omega)
    · exact b12 j hj
theorem Bk_sit (hB : Bk ke (kl + 1) σ) (hh : h < σ 45) (hπ : ∀ j, j < 5 → π j < 5) : Bk ke kl (sit π σ h) := by
  obtain ⟨hB, h2, h3⟩ := hB
  have hb := hB
  obtain ⟨b1, b2, b3, b4, b5, b6, b7, b8, b9, b10, b11, b12⟩ := hb
  have h5 : h < 5 := by omega
  have y9 := b9 h h5
  have y10 := b10 h h5
  have y11 := h3 h h5
  unfold sit
  split
  · rename_i hp
    have hp5 := hπ (pl σ h) (by omega)
    split
    · refine ⟨Bd_up (Bd_up hB (by omega) ⟨by omega, by omega, by omega, by omega, by omega, by omega, by omega, by omega, by omega, by omega, by omega, by omega⟩) (by omega) ⟨by omega, by omega, by omega, by omega, by omega, by omega, by omega, by omega, by omega, by omega, by omega, by omega⟩, ?_, ?_⟩
      · rw [upN_n (by omega), upN_n (by omega)]; exact h2
      · intro j hj
        rw [upN_n (by omega)]
        by_cases hq : j = h
        · subst hq; rw [upN_s]; omega
        · rw [upN_n (by omega)]; have := h3 j hj; omega
    · refine ⟨Bd_up (Bd_up hB (by omega) ⟨by omega, by omega, by omega, by omega, by omega, by omega, by omega, by omega, by omega, by omega, by omega, by omega⟩) (by omega) ⟨by omega, by omega, by omega, by omega, by omega, by omega, by omega, by omega, by omega, by omega, by omega, by omega⟩, ?_, ?_⟩
      · rw [upN_n (by omega), upN_n (by omega)]; exact h2
      · intro j hj
        rw [upN_n (by omega), upN_n (by omega)]; have := h3 j hj; omega
  · refine ⟨Bd_up hB (by omega) ⟨by omega, by omega, by omega, by omega, by omega, by omega, by omega, by omega, by omega, by omega, by omega, by omega⟩, ?_, ?_⟩
    · rw [upN_n (by omega)]; exact h2
    · intro j hj
      rw [upN_n (by omega)]; have := h3 j hj; omega
theorem Bk_gon (hB : Bk (ke + 1) kl σ) : Bk ke kl (gon σ) := by
  obtain ⟨hB, h2, h3⟩ := hB
  unfold gon
  have hb := hB
  obtain ⟨b1, b2, b3, b4, b5, b6, b7, b8, b9, b10, b11, b12⟩ := hb
  refine ⟨?_, ?_, ?_⟩
  · by_cases h0 : seats σ = 0
    · have e40 : σ 40 = 0 := by omega
      have e : upN σ 40 (if seats σ = 0 then 0 else (σ 40 + σ 41) % seats σ) = σ := by
        funext j
        unfold upN
        split
        · rename_i hj; rw [hj, e40]
        · rfl
      rw [e]
      exact Bd_up hB (by decide) ⟨by omega, by omega, by omega, by omega, by omega, by omega, by omega, by omega, by omega, by omega, by omega, by omega⟩
    · rw [if_neg h0]
      have hm : (σ 40 + σ 41) % seats σ < seats σ := Nat.mod_lt _ (by omega)
      exact Bd_up (Bd_up hB (by decide) ⟨fun _ => hm, by omega, by omega, by omega, by omega, by omega, by omega, by omega, by omega, by omega, by omega, by omega⟩) (by decide) ⟨by omega, by omega, by omega, by omega, by omega, by omega, by omega, by omega, by omega, by omega, by omega, by omega⟩
  · rw [upN_s]; omega
  · intro j hj
    rw [upN_n (by omega), upN_n (by omega)]
    exact h3 j hj
theorem Bk_mono {ke' kl' : Nat} (hB : Bk ke kl σ) (h1 : ke' ≤ ke) (h2 : kl' ≤ kl) : Bk ke' kl' σ := ⟨hB.1, by have := hB.2.1; omega, fun j hj => by have := hB.2.2 j hj; omega⟩
theorem sit_fix {i : Nat} (hi : i = 40 ∨ i = 41 ∨ i = 42 ∨ i = 43 ∨ i = 44 ∨ i = 45 ∨ 46 ≤ i ∨ (5 ≤ i ∧ i < 10)) (hh : h < 5) (hp : σ 44 ≤ 5) (hπ : ∀ j, j < 5 → π j < 5) : sit π σ h i = σ i := by
  unfold sit
  split
  · rename_i hq
    have := hπ (pl σ h) (by omega)
    split
    · rw [upN_n (by omega), upN_n (by omega)]
    · rw [upN_n (by omega), upN_n (by omega)]
  · rw [upN_n (by omega)]
theorem r_X3_passEveningOf (hS : Sh G a) (hV : ShV m a σ) (hB : Bk (ke + 1) (kl + 1) σ) (hh : h < σ 45) : ∃ m', res mX3_passEveningOf [.ref a, .int (nI h)] (G, m, ml) = some (some (.int (nI (sitO id σ h))), (G, m', ml)) ∧ ShV m' a (gon (sit id σ h)) ∧ (∀ b, b < a ∨ a + 6 < b → m' b = m b) := by
  obtain ⟨m1, e1, V1, f1⟩ := r_X3_sitThrough (ml := ml) hS hV hB.1 hh
  have hB1 : Bk (ke + 1) kl (sit id σ h) := Bk_sit hB hh (fun j hj => hj)
  have e2 := r_X3_goOn (ml := ml) hS V1 hB1.1
  have V2 := ShV_goOn V1
  have s0 := hS.1
  refine ⟨_, ?_, V2, ?_⟩
  · apply res_of
    show Wp mX3_passEveningOf 0 [some (.ref a), some (.int (nI h)), none] [] (G, m, ml) _
    simp (maxSteps := 1000000) (decide := true) (disch := (first | assumption | omega | exact Nat.div_mul_le_self _ _ | exact ni_nz (by omega) (by omega) | exact rfl | exact retOk_bI _ | exact retOk_0 | exact retOk_1)) only [eX3_passEveningOf_0, eX3_passEveningOf_1, eX3_passEveningOf_2, eX3_passEveningOf_5, eX3_passEveningOf_6, eX3_passEveningOf_7, eX3_passEveningOf_10, eX3_passEveningOf_11, e1, e2, WpR_some, Option.toList_some, Option.toList_none, List.cons_append, List.nil_append, List.append_nil, clr_n, clr_i, clr_a, ni_add, ni_mul, ni_sub, ni_lt, ni_le, ni_eq, ni_div, nat_mod_eq, ni_rem, iMax_nn, iMin_nn, iMax_sub, Nat.zero_max, bI_0, bI_1, bI_n0, up2_s, up2_n, up2_k, ni_l, lN_mul, lN_add, ln_mask, lN_i, ↓reduceIte, if_true, if_false, not_true_eq_false, not_false_eq_true, ite_self, Nat.add_zero, Nat.zero_add, ent_def]
  · intro b hb
    rw [up2_n (by omega), up2_n (by omega)]
    exact f1 b (by omega)
end SI2
