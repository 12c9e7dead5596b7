section ADD
variable {G : List AT} {m : Nat → Nat → Int32} {ml : Nat → Nat → Int64} {a n s h t ke kl x y o k w : Nat} {σ τ : Nat → Nat} {π : Nat → Nat} {v : Int32} {f : Nat → Nat → Nat}
theorem ShV_tel (hV : ShV m a σ) (hT : σ 44 < 5) (h1 : m (a + 1) (σ 44) = nI (σ (46 + σ 44))) (h2 : m (a + 2) (σ 44) = nI (σ (5 + σ 44))) : ShV (up2 (up2 m a 0 (nI (σ 44 + 1))) a 2 (nI (max (σ 44 + 1) (σ 45)))) a (upN σ 44 (σ 44 + 1)) := by
  obtain ⟨c1, c2, c3, c4⟩ := hV
  have e5 : upN σ 44 (σ 44 + 1) 45 = σ 45 := upN_n (by decide)
  have e4 : upN σ 44 (σ 44 + 1) 44 = σ 44 + 1 := upN_s
  refine ⟨by rw [e4]; omega, by rw [e5]; exact c2, ?_, ?_⟩
  · rw [up2_s]; unfold seats; rw [e4, e5]
  · intro i hi hl
    have h02 := cOK_2 i hi
    rw [up2_at, if_neg (fun q => h02 ⟨by omega, q.2⟩), up2_at]
    by_cases hq : i = 44
    · subst hq; rw [if_pos ⟨by simp [cO], by decide⟩, e4]
    · have hne : ¬ (a + cO i = a ∧ cK i = 0) := fun q => hq (cOK_inj i hi 44 (by decide) (by rw [show cO 44 = 0 by decide]; omega) (by rw [show cK 44 = 0 by decide]; exact q.2))
      rw [if_neg hne, upN_n hq]
      unfold live at hl
      rw [e4, e5] at hl
      by_cases q1 : i = 46 + σ 44
      · subst q1
        rw [← h1]
        congr 1
        · simp only [cO]; rw [if_neg (by omega), if_neg (by omega), if_neg (by omega), if_neg (by omega), if_neg (by omega), if_pos (by omega)]
        · simp only [cK]; rw [if_neg (by omega), if_neg (by omega), if_neg (by omega), if_neg (by omega), if_neg (by omega), if_neg (by omega), if_pos (by omega)]; omega
      · by_cases q2 : i = 5 + σ 44
        · subst q2
          rw [← h2]
          congr 1
          · simp only [cO]; rw [if_neg (by omega), if_pos (by omega)]
          · simp only [cK]; rw [if_neg (by omega), if_pos (by omega)]; omega
        · exact c4 i hi ⟨hl.1, by omega, by omega, hl.2.2.2⟩
theorem ShV_hea (hV : ShV m a σ) (hT : σ 45 < 5) (h1 : m (a + 3) (σ 45) = nI (σ (51 + σ 45))) (h2 : m (a + 4) (σ 45) = nI (σ (σ 45))) : ShV (up2 (up2 m a 1 (nI (σ 45 + 1))) a 2 (nI (max (σ 44) (σ 45 + 1)))) a (upN σ 45 (σ 45 + 1)) := by
  obtain ⟨c1, c2, c3, c4⟩ := hV
  have e5 : upN σ 45 (σ 45 + 1) 44 = σ 44 := upN_n (by decide)
  have e4 : upN σ 45 (σ 45 + 1) 45 = σ 45 + 1 := upN_s
  refine ⟨by rw [e5]; exact c1, by rw [e4]; omega, ?_, ?_⟩
  · rw [up2_s]; unfold seats; rw [e4, e5]
  · intro i hi hl
    have h02 := cOK_2 i hi
    rw [up2_at, if_neg (fun q => h02 ⟨by omega, q.2⟩), up2_at]
    by_cases hq : i = 45
    · subst hq; rw [if_pos ⟨by simp [cO], by decide⟩, e4]
    · have hne : ¬ (a + cO i = a ∧ cK i = 1) := fun q => hq (cOK_inj i hi 45 (by decide) (by rw [show cO 45 = 0 by decide]; omega) (by rw [show cK 45 = 1 by decide]; exact q.2))
      rw [if_neg hne, upN_n hq]
      unfold live at hl
      rw [e4, e5] at hl
      by_cases q1 : i = 51 + σ 45
      · subst q1
        rw [← h1]
        congr 1
        · simp only [cO]; rw [if_neg (by omega), if_neg (by omega), if_neg (by omega), if_neg (by omega), if_neg (by omega), if_neg (by omega)]
        · simp only [cK]; rw [if_neg (by omega), if_neg (by omega), if_neg (by omega), if_neg (by omega), if_neg (by omega), if_neg (by omega), if_neg (by omega)]; omega
      · by_cases q2 : i = σ 45
        · rw [q2, ← h2]
          congr 1
          · simp only [cO]; rw [if_pos (by omega)]
          · simp only [cK]; rw [if_pos (by omega)]
        · exact c4 i hi ⟨by omega, hl.2.1, hl.2.2.1, by omega⟩
def addT (σ : Nat → Nat) (c l : Nat) : Nat → Nat := upN (upN (upN (upN σ (46 + σ 44) c) (5 + σ 44) l) 44 (σ 44 + 1)) 40 0
def addH (σ : Nat → Nat) (w : Nat) : Nat → Nat := upN (upN (upN (upN σ (51 + σ 45) w) (σ 45) w) 45 (σ 45 + 1)) 40 0
theorem r_X3_addTeller {c l : Nat} (hS : Sh G a) (hV : ShV m a σ) (hT : σ 44 < 5) (hc : c < 1000) (hl : l < 1000) : ∃ m', res mX3_addTeller [.ref a, .int (nI c), .int (nI l)] (G, m, ml) = some (some (.int (nI (σ 44))), (G, m', ml)) ∧ ShV m' a (addT σ c l) ∧ (∀ b, b < a ∨ a + 6 < b → m' b = m b) := by
  obtain ⟨s0, ⟨s1, s2, s3, s4, s5, s6⟩, ⟨g1, g2, g3, g4, g5, g6⟩, l1, l2, l3, l4, l5, l6⟩ := hS
  obtain ⟨⟨v0, v1, v2, v3, v4, v5, v6⟩, -⟩ := ShV_old hV
  have c2 := hV.2.1
  have V1 := ShV_up (i := 46 + σ 44) (v := c) hV (by omega) (by omega) (by omega) (o := a + 1) (k := σ 44) (by simp only [cO]; rw [if_neg (by omega), if_neg (by omega), if_neg (by omega), if_neg (by omega), if_neg (by omega), if_pos (by omega)]) (by simp only [cK]; rw [if_neg (by omega), if_neg (by omega), if_neg (by omega), if_neg (by omega), if_neg (by omega), if_neg (by omega), if_pos (by omega)]; omega)
  have V2 := ShV_up (i := 5 + σ 44) (v := l) V1 (by omega) (by omega) (by omega) (o := a + 2) (k := σ 44) (by simp only [cO]; rw [if_neg (by omega), if_pos (by omega)]) (by simp only [cK]; rw [if_neg (by omega), if_pos (by omega)]; omega)
  have e44 : upN (upN σ (46 + σ 44) c) (5 + σ 44) l 44 = σ 44 := by rw [upN_n (by omega), upN_n (by omega)]
  have e45 : upN (upN σ (46 + σ 44) c) (5 + σ 44) l 45 = σ 45 := by rw [upN_n (by omega), upN_n (by omega)]
  have V3 := ShV_tel V2 (by rw [e44]; exact hT) (by rw [e44, up2_n (by omega), up2_s, upN_n (by omega), upN_s]) (by rw [e44, up2_s, upN_s])
  rw [e44, e45] at V3
  have V4 := ShV_up (i := 40) (v := 0) V3 (by decide) (by decide) (by decide) (o := a) (k := 3) (by simp [cO]) (by decide)
  refine ⟨_, ?_, V4, ?_⟩
  · apply res_of
    show Wp mX3_addTeller 0 [some (.ref a), some (.int (nI c)), some (.int (nI l)), none] [] (G, m, ml) _
    have hlt : ¬ 5 ≤ σ 44 := by omega
    simp (maxSteps := 1000000) (decide := true) (disch := (first | assumption | omega | exact Nat.div_mul_le_self _ _ | exact ni_nz (by omega) (by omega) | exact rfl | exact retOk_bI _ | exact retOk_0 | exact retOk_1)) only [eX3_addTeller_0, eX3_addTeller_1, eX3_addTeller_4, eX3_addTeller_5, eX3_addTeller_8, eX3_addTeller_10, eX3_addTeller_11, eX3_addTeller_12, eX3_addTeller_15, eX3_addTeller_16, eX3_addTeller_17, eX3_addTeller_20, eX3_addTeller_21, eX3_addTeller_22, eX3_addTeller_23, eX3_addTeller_24, eX3_addTeller_27, eX3_addTeller_28, eX3_addTeller_29, eX3_addTeller_30, eX3_addTeller_31, eX3_addTeller_32, eX3_addTeller_35, eX3_addTeller_36, eX3_addTeller_37, eX3_addTeller_40, eX3_addTeller_41, eX3_addTeller_42, eX3_addTeller_45, eX3_addTeller_46, eX3_addTeller_49, eX3_addTeller_52, eX3_addTeller_55, eX3_addTeller_56, eX3_addTeller_57, eX3_addTeller_60, eX3_addTeller_61, s1, s2, v0, v1, hT, WpR_some, Option.toList_some, Option.toList_none, List.cons_append, List.nil_append, List.append_nil, clr_n, clr_i, clr_a, ni_add, ni_mul, ni_sub, ni_lt, ni_le, ni_eq, ni_div, nat_mod_eq, ni_rem, iMax_nn, iMin_nn, iMax_sub, Nat.zero_max, bI_0, bI_1, bI_n0, up2_s, up2_n, up2_k, va_up_self, va_up_ne, ni_l, lN_mul, lN_add, ln_mask, lN_i, ↓reduceIte, if_true, if_false, not_true_eq_false, not_false_eq_true, ite_self, Nat.add_zero, Nat.zero_add, ent_def]
  · intro b hb
    rw [up2_n (by omega), up2_n (by omega), up2_n (by omega), up2_n (by omega), up2_n (by omega)]
theorem r_X3_addHearer (hS : Sh G a) (hV : ShV m a σ) (hT : σ 45 < 5) (hw : w < 1000) : ∃ m', res mX3_addHearer [.ref a, .int (nI w)] (G, m, ml) = some (some (.int (nI (σ 45))), (G, m', ml)) ∧ ShV m' a (addH σ w) ∧ (∀ b, b < a ∨ a + 6 < b → m' b = m b) := by
  obtain ⟨s0, ⟨s1, s2, s3, s4, s5, s6⟩, ⟨g1, g2, g3, g4, g5, g6⟩, l1, l2, l3, l4, l5, l6⟩ := hS
  obtain ⟨⟨v0, v1, v2, v3, v4, v5, v6⟩, -⟩ := ShV_old hV
  have c2 := hV.1
  have V1 := ShV_up (i := 51 + σ 45) (v := w) hV (by omega) (by omega) (by omega) (o := a + 3) (k := σ 45) (by simp only [cO]; rw [if_neg (by omega), if_neg (by omega), if_neg (by omega), if_neg (by omega), if_neg (by omega), if_neg (by omega)]) (by simp only [cK]; rw [if_neg (by omega), if_neg (by omega), if_neg (by omega), if_neg (by omega), if_neg (by omega), if_neg (by omega), if_neg (by omega)]; omega)
  have V2 := ShV_up (i := σ 45) (v := w) V1 (by omega) (by omega) (by omega) (o := a + 4) (k := σ 45) (by simp only [cO]; rw [if_pos (by omega)]) (by simp only [cK]; rw [if_pos (by omega)])
  have e44 : upN (upN σ (51 + σ 45) w) (σ 45) w 44 = σ 44 := by rw [upN_n (by omega), upN_n (by omega)]
  have e45 : upN (upN σ (51 + σ 45) w) (σ 45) w 45 = σ 45 := by rw [upN_n (by omega), upN_n (by omega)]
  have V3 := ShV_hea V2 (by rw [e45]; exact hT) (by rw [e45, up2_n (by omega), up2_s, upN_n (by omega), upN_s]) (by rw [e45, up2_s, upN_s])
  rw [e44, e45] at V3
  have V4 := ShV_up (i := 40) (v := 0) V3 (by decide) (by decide) (by decide) (o := a) (k := 3) (by simp [cO]) (by decide)
  refine ⟨_, ?_, V4, ?_⟩
  · apply res_of
    show Wp mX3_addHearer 0 [some (.ref a), some (.int (nI w)), none] [] (G, m, ml) _
    have hlt : ¬ 5 ≤ σ 45 := by omega
    simp (maxSteps := 1000000) (decide := true) (disch := (first | assumption | omega | exact Nat.div_mul_le_self _ _ | exact ni_nz (by omega) (by omega) | exact rfl | exact retOk_bI _ | exact retOk_0 | exact retOk_1)) only [eX3_addHearer_0, eX3_addHearer_1, eX3_addHearer_4, eX3_addHearer_5, eX3_addHearer_8, eX3_addHearer_10, eX3_addHearer_11, eX3_addHearer_12, eX3_addHearer_15, eX3_addHearer_16, eX3_addHearer_17, eX3_addHearer_20, eX3_addHearer_21, eX3_addHearer_22, eX3_addHearer_23, eX3_addHearer_24, eX3_addHearer_27, eX3_addHearer_28, eX3_addHearer_29, eX3_addHearer_30, eX3_addHearer_31, eX3_addHearer_32, eX3_addHearer_35, eX3_addHearer_36, eX3_addHearer_37, eX3_addHearer_40, eX3_addHearer_41, eX3_addHearer_42, eX3_addHearer_45, eX3_addHearer_46, eX3_addHearer_49, eX3_addHearer_52, eX3_addHearer_55, eX3_addHearer_56, eX3_addHearer_57, eX3_addHearer_60, eX3_addHearer_61, s3, s4, v0, v1, hT, WpR_some, Option.toList_some, Option.toList_none, List.cons_append, List.nil_append, List.append_nil, clr_n, clr_i, clr_a, ni_add, ni_mul, ni_sub, ni_lt, ni_le, ni_eq, ni_div, nat_mod_eq, ni_rem, iMax_nn, iMin_nn, iMax_sub, Nat.zero_max, bI_0, bI_1, bI_n0, up2_s, up2_n, up2_k, va_up_self, va_up_ne, ni_l, lN_mul, lN_add, ln_mask, lN_i, ↓reduceIte, if_true, if_false, not_true_eq_false, not_false_eq_true, ite_self, Nat.add_zero, Nat.zero_add, ent_def]
  · intro b hb
    rw [up2_n (by omega), up2_n (by omega), up2_n (by omega), up2_n (by omega), up2_n (by omega)]
end ADD
