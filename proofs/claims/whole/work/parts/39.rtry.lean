section RTY
variable {G : List AT} {m : Nat → Nat → Int32} {ml : Nat → Nat → Int64} {q n s h t ke kl x y o k ki cx cy : Nat} {σ τ ρ σi : Nat → Nat} {π : Nat → Nat} {u v w : Int32} {f fi : Nat → Nat → Nat} {μ : Mm} {d im : Bool}
/-- the reference's own things while it tries: 44, 45 of the list stand as in what is tried -/
def TR (m : Nat → Nat → Int32) (π τ : Nat → Nat) : Prop := m 159 44 = nI (τ 44) ∧ m 159 45 = nI (τ 45) ∧ RwV m 818 τ ∧ SitV m π ∧ m 158 9 = nI 0 ∧ m 158 8 = -4
theorem TR_fx {m' : Nat → Nat → Int32} (h : TR m π τ) (hR : RwV m' 818 ρ) (h4 : ρ 44 = τ 44) (h5 : ρ 45 = τ 45) (hf : FX 818 874 m m') : TR m' π ρ := ⟨by rw [hf.2.2 44 (by omega), h4]; exact h.1, by rw [hf.2.2 45 (by omega), h5]; exact h.2.1, hR, fun k hk => by rw [hf.1 164 (by decide) (by decide)]; exact h.2.2.2.1 k hk, by rw [hf.2.1 9 (by decide) (by decide)]; exact h.2.2.2.2.1, by rw [hf.2.1 8 (by decide) (by decide)]; exact h.2.2.2.2.2⟩
theorem r_X7_layTried (hG : GM G) (hA : RA m 0 σ k f) : ∃ m', res mX7_layTried [.ref 158] (G, m, ml) = some (none, (G, m', ml)) ∧ RwV m' 818 σ ∧ CnV m' 0 0 ∧ FX 818 874 m m' := by
  obtain ⟨⟨g0, g1, -⟩, ⟨a0, -⟩, ⟨l0, -⟩⟩ := hG
  have key : Wp mX7_layTried 0 (ent [.ref 158] 2) [] (G, m, ml) (fun r μ' => ∃ m', r = none ∧ μ' = (G, m', ml) ∧ RwV m' 818 σ ∧ CnV m' 0 0 ∧ FX 818 874 m m') := by
    show Wp mX7_layTried 0 [some (.ref 158), none] [] (G, m, ml) _
    generalize hQ : (fun (r : Option Value) (μ' : Mm) => ∃ m', r = none ∧ μ' = (G, m', ml) ∧ RwV m' 818 σ ∧ CnV m' 0 0 ∧ FX 818 874 m m') = Q
    simp (maxSteps := 1000000) (decide := true) (disch := (first | assumption | omega | exact Nat.div_mul_le_self _ _ | exact ni_nz (by omega) (by omega) | exact rfl | exact retOk_bI _ | exact retOk_0 | exact retOk_1)) only [eX7_layTried_0, eX7_layTried_1, eX7_layTried_3, eX7_layTried_5, eX7_layTried_8, eX7_layTried_9, eX7_layTried_12, eX7_layTried_15, eX7_layTried_16, eX7_layTried_17, eX7_layTried_18, eX7_layTried_21, eX7_layTried_22, eX7_layTried_23, eX7_layTried_24, eX7_layTried_27, eX7_layTried_30, eX7_layTried_31, eX7_layTried_32, eX7_layTried_35, eX7_layTried_36, eX7_layTried_37, eX7_layTried_40, WpR_some, Option.toList_some, Option.toList_none, List.cons_append, List.nil_append, List.append_nil, clr_n, clr_i, clr_a, ni_add, ni_mul, ni_sub, ni_lt, ni_le, ni_eq, ni_div, nat_mod_eq, ni_rem, iMax_nn, iMin_nn, iMax_sub, Nat.zero_max, bI_0, bI_1, bI_n0, up2_s, up2_n, up2_k, va_up_self, va_up_ne, ni_l, lN_mul, lN_add, ln_mask, lN_i, ↓reduceIte, if_true, if_false, not_true_eq_false, not_false_eq_true, ite_self, Nat.add_zero, Nat.zero_add, ent_def]
    refine wp_for (X := Unit) (fun i _ => [some (.ref 158), some (.int (nI i))]) (fun i _ μ => ∃ m1, μ = (G, m1, ml) ∧ (∀ j, j < i → m1 159 (818 + j) = nI (σ j)) ∧ FX 818 874 m m1) 56 ?_ ?_ 0 () _ (Nat.zero_le _) ⟨m, rfl, fun j hj => absurd hj (Nat.not_lt_zero _), FX.rf⟩
    · rintro i - μ hi ⟨m1, rfl, c2, F1⟩ kk
      have hlt : ¬ 56 ≤ i := by omega
      have xi : m1 159 i = nI (σ i) := by rw [F1.2.2 i (by omega)]; exact RA_at hA hi
      rw [eX7_layTried_2]
      simp (maxSteps := 1000000) (decide := true) (disch := (first | assumption | omega | exact Nat.div_mul_le_self _ _ | exact ni_nz (by omega) (by omega) | exact rfl | exact retOk_bI _ | exact retOk_0 | exact retOk_1)) only [eX7_layTried_0, eX7_layTried_1, eX7_layTried_3, eX7_layTried_5, eX7_layTried_8, eX7_layTried_9, eX7_layTried_12, eX7_layTried_15, eX7_layTried_16, eX7_layTried_17, eX7_layTried_18, eX7_layTried_21, eX7_layTried_22, eX7_layTried_23, eX7_layTried_24, eX7_layTried_27, eX7_layTried_30, eX7_layTried_31, eX7_layTried_32, eX7_layTried_35, eX7_layTried_36, eX7_layTried_37, eX7_layTried_40, g1, xi, hlt, WpR_some, Option.toList_some, Option.toList_none, List.cons_append, List.nil_append, List.append_nil, clr_n, clr_i, clr_a, ni_add, ni_mul, ni_sub, ni_lt, ni_le, ni_eq, ni_div, nat_mod_eq, ni_rem, iMax_nn, iMin_nn, iMax_sub, Nat.zero_max, bI_0, bI_1, bI_n0, up2_s, up2_n, up2_k, va_up_self, va_up_ne, ni_l, lN_mul, lN_add, ln_mask, lN_i, ↓reduceIte, if_true, if_false, not_true_eq_false, not_false_eq_true, ite_self, Nat.add_zero, Nat.zero_add, ent_def]
      refine kk () _ ⟨_, rfl, ?_, F1.up (by omega) (by omega)⟩
      intro j hj
      by_cases hji : j = i
      · subst hji; rw [up2_s]
      · rw [up2_k (by omega)]; exact c2 j (by omega)
    · rintro - μ ⟨m1, rfl, c2, F1⟩
      rw [eX7_layTried_2]
      simp (maxSteps := 1000000) (decide := true) (disch := (first | assumption | omega | exact Nat.div_mul_le_self _ _ | exact ni_nz (by omega) (by omega) | exact rfl | exact retOk_bI _ | exact retOk_0 | exact retOk_1)) only [eX7_layTried_0, eX7_layTried_1, eX7_layTried_3, eX7_layTried_5, eX7_layTried_8, eX7_layTried_9, eX7_layTried_12, eX7_layTried_15, eX7_layTried_16, eX7_layTried_17, eX7_layTried_18, eX7_layTried_21, eX7_layTried_22, eX7_layTried_23, eX7_layTried_24, eX7_layTried_27, eX7_layTried_30, eX7_layTried_31, eX7_layTried_32, eX7_layTried_35, eX7_layTried_36, eX7_layTried_37, eX7_layTried_40, Nat.le_refl, WpR_some, Option.toList_some, Option.toList_none, List.cons_append, List.nil_append, List.append_nil, clr_n, clr_i, clr_a, ni_add, ni_mul, ni_sub, ni_lt, ni_le, ni_eq, ni_div, nat_mod_eq, ni_rem, iMax_nn, iMin_nn, iMax_sub, Nat.zero_max, bI_0, bI_1, bI_n0, up2_s, up2_n, up2_k, va_up_self, va_up_ne, ni_l, lN_mul, lN_add, ln_mask, lN_i, ↓reduceIte, if_true, if_false, not_true_eq_false, not_false_eq_true, ite_self, Nat.add_zero, Nat.zero_add, ent_def]
      rw [← hQ]
      exact ⟨_, rfl, rfl, fun j hj => by rw [up2_n (by decide), up2_n (by decide)]; exact c2 j hj, ⟨by rw [up2_k (by decide), up2_s], by rw [up2_s]⟩, (F1.upc (by omega)).upc (by omega)⟩
  obtain ⟨r, μ', e1, m', rfl, rfl, h2⟩ := res_ex key
  exact ⟨m', e1, h2⟩
theorem TR_lay {m' : Nat → Nat → Int32} (hA : RA m 0 σ k f) (hX : RX m) (hR : RwV m' 818 ρ) (hF : FX 818 874 m m') (h4 : ρ 44 = σ 44) (h5 : ρ 45 = σ 45) : TR m' id ρ := ⟨by rw [hF.2.2 44 (by omega), h4]; exact RA_at hA (by decide), by rw [hF.2.2 45 (by omega), h5]; exact RA_at hA (by decide), hR, fun k hk => by rw [hF.1 164 (by decide) (by decide)]; exact hX.1 k hk, by rw [hF.2.1 9 (by decide) (by decide)]; exact hX.2.2.1, by rw [hF.2.1 8 (by decide) (by decide)]; exact hX.2.1⟩
theorem r_passesT (hG : GM G) (hT : TR m π τ) (hC : CnV m cx cy) (hB : Bk (ke + 1) (kl + 5) τ) : ∃ m', res mX7_passes [.ref 158, .int (nI 818)] (G, m, ml) = some (none, (G, m', ml)) ∧ TR m' π (gon (evS π 9 τ (τ 45))) ∧ CnV m' (cx + evH π 9 τ (τ 45)) (cy + evL π 9 τ (τ 45)) ∧ FX 818 874 m m' := by
  obtain ⟨h4, h5, hR, hS, hz, hw⟩ := hT
  have hπ5 : ∀ j, j < 5 → π j < 5 := fun j hj => (hS j hj).2
  have b1 := hB.1.1
  have b2 := hB.1.2.1
  obtain ⟨m', e, R', C', F'⟩ := r_X7_passes (ml := ml) (q := 818) (x := 9) (ab := -4) hG h4 h5 hR hS hz hw hC hB (Or.inr rfl) hab9
  have F2 : FX 818 874 m m' := FX.of F' (by omega) (by omega)
  exact ⟨m', e, TR_fx ⟨h4, h5, hR, hS, hz, hw⟩ R' (ev_fix (by omega) b1 b2 hπ5) (ev_fix (by omega) b1 b2 hπ5) F2, C', F2⟩
theorem r_X7_passTried (hG : GM G) (hT : TR m π τ) (hC : CnV m cx cy) (hB : Bk n (5 * n) τ) (hn : n ≤ 60) : ∃ m', res mX7_passTried [.ref 158, .int (nI n)] (G, m, ml) = some (none, (G, m', ml)) ∧ TR m' π (itP π τ n) ∧ CnV m' (cx + hP π τ n) (cy + lP π τ n) ∧ FX 818 874 m m' := by
  have hπ5 : ∀ j, j < 5 → π j < 5 := fun j hj => (hT.2.2.2.1 j hj).2
  have hG0 := hG
  obtain ⟨⟨g0, g1, -⟩, ⟨a0, -⟩, ⟨l0, -⟩⟩ := hG
  have key : Wp mX7_passTried 0 (ent [.ref 158, .int (nI n)] 3) [] (G, m, ml) (fun r μ' => ∃ m', r = none ∧ μ' = (G, m', ml) ∧ TR m' π (itP π τ n) ∧ CnV m' (cx + hP π τ n) (cy + lP π τ n) ∧ FX 818 874 m m') := by
    show Wp mX7_passTried 0 [some (.ref 158), some (.int (nI n)), none] [] (G, m, ml) _
    generalize hQ : (fun (r : Option Value) (μ' : Mm) => ∃ m', r = none ∧ μ' = (G, m', ml) ∧ TR m' π (itP π τ n) ∧ CnV m' (cx + hP π τ n) (cy + lP π τ n) ∧ FX 818 874 m m') = Q
    simp (maxSteps := 1000000) (decide := true) (disch := (first | assumption | omega | exact Nat.div_mul_le_self _ _ | exact ni_nz (by omega) (by omega) | exact rfl | exact retOk_bI _ | exact retOk_0 | exact retOk_1)) only [eX7_passTried_0, eX7_passTried_1, eX7_passTried_3, eX7_passTried_4, eX7_passTried_7, eX7_passTried_8, eX7_passTried_11, eX7_passTried_14, eX7_passTried_17, eX7_passTried_20, WpR_some, Option.toList_some, Option.toList_none, List.cons_append, List.nil_append, List.append_nil, clr_n, clr_i, clr_a, ni_add, ni_mul, ni_sub, ni_lt, ni_le, ni_eq, ni_div, nat_mod_eq, ni_rem, iMax_nn, iMin_nn, iMax_sub, Nat.zero_max, bI_0, bI_1, bI_n0, up2_s, up2_n, up2_k, va_up_self, va_up_ne, ni_l, lN_mul, lN_add, ln_mask, lN_i, ↓reduceIte, if_true, if_false, not_true_eq_false, not_false_eq_true, ite_self, Nat.add_zero, Nat.zero_add, ent_def]
    refine wp_for (X := Unit) (fun i _ => [some (.ref 158), some (.int (nI n)), some (.int (nI i))]) (fun i _ μ => ∃ m1, μ = (G, m1, ml) ∧ TR m1 π (itP π τ i) ∧ CnV m1 (cx + hP π τ i) (cy + lP π τ i) ∧ FX 818 874 m m1) n ?_ ?_ 0 () _ (Nat.zero_le _) ⟨m, rfl, hT, hC, FX.rf⟩
    · rintro i - μ hi ⟨m1, rfl, T1, C1, F1⟩ kk
      have hlt : ¬ n ≤ i := by omega
      obtain ⟨m2, e2, T2, C2, F2⟩ := r_passesT (ml := ml) (ke := 0) (kl := 0) hG0 T1 C1 (Bk_itP (Bk_mono hB (by omega) (by omega)) hπ5)
      rw [eX7_passTried_2]
      simp (maxSteps := 1000000) (decide := true) (disch := (first | assumption | omega | exact Nat.div_mul_le_self _ _ | exact ni_nz (by omega) (by omega) | exact rfl | exact retOk_bI _ | exact retOk_0 | exact retOk_1)) only [eX7_passTried_0, eX7_passTried_1, eX7_passTried_3, eX7_passTried_4, eX7_passTried_7, eX7_passTried_8, eX7_passTried_11, eX7_passTried_14, eX7_passTried_17, eX7_passTried_20, e2, hlt, WpR_some, Option.toList_some, Option.toList_none, List.cons_append, List.nil_append, List.append_nil, clr_n, clr_i, clr_a, ni_add, ni_mul, ni_sub, ni_lt, ni_le, ni_eq, ni_div, nat_mod_eq, ni_rem, iMax_nn, iMin_nn, iMax_sub, Nat.zero_max, bI_0, bI_1, bI_n0, up2_s, up2_n, up2_k, va_up_self, va_up_ne, ni_l, lN_mul, lN_add, ln_mask, lN_i, ↓reduceIte, if_true, if_false, not_true_eq_false, not_false_eq_true, ite_self, Nat.add_zero, Nat.zero_add, ent_def]
      refine kk () _ ⟨m2, rfl, T2, ?_, F1.tr F2⟩
      rw [Nat.add_assoc, Nat.add_assoc] at C2
      exact C2
    · rintro - μ ⟨m1, rfl, T1, C1, F1⟩
      rw [eX7_passTried_2]
      simp (maxSteps := 1000000) (decide := true) (disch := (first | assumption | omega | exact Nat.div_mul_le_self _ _ | exact ni_nz (by omega) (by omega) | exact rfl | exact retOk_bI _ | exact retOk_0 | exact retOk_1)) only [eX7_passTried_0, eX7_passTried_1, eX7_passTried_3, eX7_passTried_4, eX7_passTried_7, eX7_passTried_8, eX7_passTried_11, eX7_passTried_14, eX7_passTried_17, eX7_passTried_20, Nat.le_refl, WpR_some, Option.toList_some, Option.toList_none, List.cons_append, List.nil_append, List.append_nil, clr_n, clr_i, clr_a, ni_add, ni_mul, ni_sub, ni_lt, ni_le, ni_eq, ni_div, nat_mod_eq, ni_rem, iMax_nn, iMin_nn, iMax_sub, Nat.zero_max, bI_0, bI_1, bI_n0, up2_s, up2_n, up2_k, va_up_self, va_up_ne, ni_l, lN_mul, lN_add, ln_mask, lN_i, ↓reduceIte, if_true, if_false, not_true_eq_false, not_false_eq_true, ite_self, Nat.add_zero, Nat.zero_add, ent_def]
      rw [← hQ]
      exact ⟨m1, rfl, rfl, T1, C1, F1⟩
  obtain ⟨r, μ', e1, m', rfl, rfl, h2⟩ := res_ex key
  exact ⟨m', e1, h2⟩
theorem Ok_B5 (h : Ok σ) (hn : n ≤ 60) : Bk n (5 * n) σ := Bk_mono (Ok_Bk h) (by omega) (by omega)
def ahS (σ : Nat → Nat) (h n : Nat) (w : Int32) : Int32 := if w = nI 0 then nI (itP id σ n h) else if w = nI 1 then nI (itP id σ n (35 + h)) else tO (itP id σ n) h
theorem x_ahead_bad (hG : GM G) (hA : RA m 0 σ k f) (hB : Bd σ) (h : (isN u (σ 45) && rg v 0 60 && rg w 0 2) = false) : res mX7_ahead [.ref 158, .int u, .int v, .int w] (G, m, ml) = some (some (.int (-1)), (G, m, ml)) := by
  have e := r_X7_isHearer (ml := ml) (v := u) hG (RA_at hA (j := 45) (by decide)) hB.2.1
  obtain ⟨⟨g0, g1, -⟩, -⟩ := hG
  apply res_of
  show Wp mX7_ahead 0 [some (.ref 158), some (.int u), some (.int v), some (.int w)] [] (G, m, ml) _
  cases h1 : isN u (σ 45)
  · rw [h1] at e
    simp (maxSteps := 1000000) (decide := true) (disch := (first | assumption | omega | exact Nat.div_mul_le_self _ _ | exact ni_nz (by omega) (by omega) | exact rfl | exact retOk_bI _ | exact retOk_0 | exact retOk_1)) only [eX7_ahead_0, eX7_ahead_1, eX7_ahead_2, eX7_ahead_5, eX7_ahead_8, eX7_ahead_9, eX7_ahead_10, eX7_ahead_11, eX7_ahead_14, eX7_ahead_17, eX7_ahead_20, eX7_ahead_21, eX7_ahead_22, eX7_ahead_23, eX7_ahead_26, eX7_ahead_29, eX7_ahead_32, eX7_ahead_33, eX7_ahead_34, eX7_ahead_35, eX7_ahead_38, eX7_ahead_39, eX7_ahead_40, eX7_ahead_43, eX7_ahead_44, eX7_ahead_47, eX7_ahead_48, eX7_ahead_51, eX7_ahead_54, eX7_ahead_55, eX7_ahead_56, eX7_ahead_57, eX7_ahead_60, eX7_ahead_61, eX7_ahead_62, eX7_ahead_65, eX7_ahead_66, eX7_ahead_69, eX7_ahead_72, eX7_ahead_73, eX7_ahead_74, eX7_ahead_75, eX7_ahead_78, eX7_ahead_79, eX7_ahead_82, eX7_ahead_83, eX7_ahead_86, e, WpR_some, Option.toList_some, Option.toList_none, List.cons_append, List.nil_append, List.append_nil, clr_n, clr_i, clr_a, ni_add, ni_mul, ni_sub, ni_lt, ni_le, ni_eq, ni_div, nat_mod_eq, ni_rem, iMax_nn, iMin_nn, iMax_sub, Nat.zero_max, bI_0, bI_1, bI_n0, up2_s, up2_n, up2_k, va_up_self, va_up_ne, ni_l, lN_mul, lN_add, ln_mask, lN_i, ↓reduceIte, if_true, if_false, not_true_eq_false, not_false_eq_true, ite_self, Nat.add_zero, Nat.zero_add, ent_def]
  · rw [h1] at e
    cases h2 : rg v 0 60
    · simp (maxSteps := 1000000) (decide := true) (disch := (first | assumption | omega | exact Nat.div_mul_le_self _ _ | exact ni_nz (by omega) (by omega) | exact rfl | exact retOk_bI _ | exact retOk_0 | exact retOk_1)) only [eX7_ahead_0, eX7_ahead_1, eX7_ahead_2, eX7_ahead_5, eX7_ahead_8, eX7_ahead_9, eX7_ahead_10, eX7_ahead_11, eX7_ahead_14, eX7_ahead_17, eX7_ahead_20, eX7_ahead_21, eX7_ahead_22, eX7_ahead_23, eX7_ahead_26, eX7_ahead_29, eX7_ahead_32, eX7_ahead_33, eX7_ahead_34, eX7_ahead_35, eX7_ahead_38, eX7_ahead_39, eX7_ahead_40, eX7_ahead_43, eX7_ahead_44, eX7_ahead_47, eX7_ahead_48, eX7_ahead_51, eX7_ahead_54, eX7_ahead_55, eX7_ahead_56, eX7_ahead_57, eX7_ahead_60, eX7_ahead_61, eX7_ahead_62, eX7_ahead_65, eX7_ahead_66, eX7_ahead_69, eX7_ahead_72, eX7_ahead_73, eX7_ahead_74, eX7_ahead_75, eX7_ahead_78, eX7_ahead_79, eX7_ahead_82, eX7_ahead_83, eX7_ahead_86, e, r_in, h2, WpR_some, Option.toList_some, Option.toList_none, List.cons_append, List.nil_append, List.append_nil, clr_n, clr_i, clr_a, ni_add, ni_mul, ni_sub, ni_lt, ni_le, ni_eq, ni_div, nat_mod_eq, ni_rem, iMax_nn, iMin_nn, iMax_sub, Nat.zero_max, bI_0, bI_1, bI_n0, up2_s, up2_n, up2_k, va_up_self, va_up_ne, ni_l, lN_mul, lN_add, ln_mask, lN_i, ↓reduceIte, if_true, if_false, not_true_eq_false, not_false_eq_true, ite_self, Nat.add_zero, Nat.zero_add, ent_def]
    · rw [h1, h2, Bool.true_and, Bool.true_and] at h
      simp (maxSteps := 1000000) (decide := true) (disch := (first | assumption | omega | exact Nat.div_mul_le_self _ _ | exact ni_nz (by omega) (by omega) | exact rfl | exact retOk_bI _ | exact retOk_0 | exact retOk_1)) only [eX7_ahead_0, eX7_ahead_1, eX7_ahead_2, eX7_ahead_5, eX7_ahead_8, eX7_ahead_9, eX7_ahead_10, eX7_ahead_11, eX7_ahead_14, eX7_ahead_17, eX7_ahead_20, eX7_ahead_21, eX7_ahead_22, eX7_ahead_23, eX7_ahead_26, eX7_ahead_29, eX7_ahead_32, eX7_ahead_33, eX7_ahead_34, eX7_ahead_35, eX7_ahead_38, eX7_ahead_39, eX7_ahead_40, eX7_ahead_43, eX7_ahead_44, eX7_ahead_47, eX7_ahead_48, eX7_ahead_51, eX7_ahead_54, eX7_ahead_55, eX7_ahead_56, eX7_ahead_57, eX7_ahead_60, eX7_ahead_61, eX7_ahead_62, eX7_ahead_65, eX7_ahead_66, eX7_ahead_69, eX7_ahead_72, eX7_ahead_73, eX7_ahead_74, eX7_ahead_75, eX7_ahead_78, eX7_ahead_79, eX7_ahead_82, eX7_ahead_83, eX7_ahead_86, e, r_in, h2, h, WpR_some, Option.toList_some, Option.toList_none, List.cons_append, List.nil_append, List.append_nil, clr_n, clr_i, clr_a, ni_add, ni_mul, ni_sub, ni_lt, ni_le, ni_eq, ni_div, nat_mod_eq, ni_rem, iMax_nn, iMin_nn, iMax_sub, Nat.zero_max, bI_0, bI_1, bI_n0, up2_s, up2_n, up2_k, va_up_self, va_up_ne, ni_l, lN_mul, lN_add, ln_mask, lN_i, ↓reduceIte, if_true, if_false, not_true_eq_false, not_false_eq_true, ite_self, Nat.add_zero, Nat.zero_add, ent_def]
theorem r_hasT (hG : GM G) (hT : TR m π τ) (hB : Bd τ) (hh : h < τ 45) : res mX7_hasOne [.ref 158, .int (nI 818), .int (nI h)] (G, m, ml) = some (some (.int (tP π τ h)), (G, m, ml)) := r_X7_hasOne (q := 818) hG hT.1 hT.2.1 (hT.2.2.1 40 (by decide)) hT.2.2.2.1 hB (by omega) hh
theorem x_ahead (hG : GM G) (hA : RA m 0 σ k f) (hX : RX m) (hO : Ok σ) (hh : h < σ 45) (hn : n ≤ 60) (hx : x ≤ 2) : ∃ m', res mX7_ahead [.ref 158, .int (nI h), .int (nI n), .int (nI x)] (G, m, ml) = some (some (.int (ahS σ h n (nI x))), (G, m', ml)) ∧ FX 818 874 m m' ∧ ∃ x y, CnV m' x y := by
  have b2 := hO.1.2.1
  have e := r_X7_isHearer (ml := ml) (v := nI h) hG (RA_at hA (j := 45) (by decide)) hO.1.2.1
  rw [isN_t hh (by omega)] at e
  have i1 := fun μ => r_inT (x := n) (lo := 0) (hi := 60) (μ := μ) (by omega) hn (by decide)
  have i2 := fun μ => r_inT (x := x) (lo := 0) (hi := 2) (μ := μ) (by omega) hx (by decide)
  obtain ⟨m1, e1, R1, C1, F1⟩ := r_X7_layTried (ml := ml) hG hA
  obtain ⟨m2, e2, T2, C2, F2⟩ := r_X7_passTried (ml := ml) hG (TR_lay hA hX R1 F1 rfl rfl) C1 (Ok_B5 hO hn) hn
  have h45 := itP_fix (i := 45) (π := id) (by omega) hO.1.1 hO.1.2.1 (fun j hj => hj) n
  have e3 := r_hasT (ml := ml) (h := h) hG T2 (Bk_itP (ke := 0) (kl := 0) (Bk_mono (Ok_B5 hO hn) (by omega) (by omega)) (fun j hj => hj)).1 (by rw [h45]; exact hh)
  have e3' : tP id (itP id σ n) h = tO (itP id σ n) h := rfl
  rw [e3'] at e3
  obtain ⟨⟨g0, g1, -⟩, ⟨a0, -⟩, ⟨l0, -⟩⟩ := hG
  have x0 := T2.2.2.1 h (by omega)
  have x5 : m2 159 (818 + 35 + h) = nI (itP id σ n (35 + h)) := by rw [Nat.add_assoc]; exact T2.2.2.1 (35 + h) (by omega)
  refine ⟨m2, ?_, F1.tr F2, _, _, C2⟩
  apply res_of
  show Wp mX7_ahead 0 [some (.ref 158), some (.int (nI h)), some (.int (nI n)), some (.int (nI x))] [] (G, m, ml) _
  unfold ahS
  rcases (show x = 0 ∨ x = 1 ∨ x = 2 by omega) with rfl | rfl | rfl
  · simp (maxSteps := 1000000) (decide := true) (disch := (first | assumption | omega | exact Nat.div_mul_le_self _ _ | exact ni_nz (by omega) (by omega) | exact rfl | exact retOk_bI _ | exact retOk_0 | exact retOk_1)) only [eX7_ahead_0, eX7_ahead_1, eX7_ahead_2, eX7_ahead_5, eX7_ahead_8, eX7_ahead_9, eX7_ahead_10, eX7_ahead_11, eX7_ahead_14, eX7_ahead_17, eX7_ahead_20, eX7_ahead_21, eX7_ahead_22, eX7_ahead_23, eX7_ahead_26, eX7_ahead_29, eX7_ahead_32, eX7_ahead_33, eX7_ahead_34, eX7_ahead_35, eX7_ahead_38, eX7_ahead_39, eX7_ahead_40, eX7_ahead_43, eX7_ahead_44, eX7_ahead_47, eX7_ahead_48, eX7_ahead_51, eX7_ahead_54, eX7_ahead_55, eX7_ahead_56, eX7_ahead_57, eX7_ahead_60, eX7_ahead_61, eX7_ahead_62, eX7_ahead_65, eX7_ahead_66, eX7_ahead_69, eX7_ahead_72, eX7_ahead_73, eX7_ahead_74, eX7_ahead_75, eX7_ahead_78, eX7_ahead_79, eX7_ahead_82, eX7_ahead_83, eX7_ahead_86, e, i1, i2, e1, e2, g1, x0, WpR_some, Option.toList_some, Option.toList_none, List.cons_append, List.nil_append, List.append_nil, clr_n, clr_i, clr_a, ni_add, ni_mul, ni_sub, ni_lt, ni_le, ni_eq, ni_div, nat_mod_eq, ni_rem, iMax_nn, iMin_nn, iMax_sub, Nat.zero_max, bI_0, bI_1, bI_n0, up2_s, up2_n, up2_k, va_up_self, va_up_ne, ni_l, lN_mul, lN_add, ln_mask, lN_i, ↓reduceIte, if_true, if_false, not_true_eq_false, not_false_eq_true, ite_self, Nat.add_zero, Nat.zero_add, ent_def]
  · simp (maxSteps := 1000000) (decide := true) (disch := (first | assumption | omega | exact Nat.div_mul_le_self _ _ | exact ni_nz (by omega) (by omega) | exact rfl | exact retOk_bI _ | exact retOk_0 | exact retOk_1)) only [eX7_ahead_0, eX7_ahead_1, eX7_ahead_2, eX7_ahead_5, eX7_ahead_8, eX7_ahead_9, eX7_ahead_10, eX7_ahead_11, eX7_ahead_14, eX7_ahead_17, eX7_ahead_20, eX7_ahead_21, eX7_ahead_22, eX7_ahead_23, eX7_ahead_26, eX7_ahead_29, eX7_ahead_32, eX7_ahead_33, eX7_ahead_34, eX7_ahead_35, eX7_ahead_38, eX7_ahead_39, eX7_ahead_40, eX7_ahead_43, eX7_ahead_44, eX7_ahead_47, eX7_ahead_48, eX7_ahead_51, eX7_ahead_54, eX7_ahead_55, eX7_ahead_56, eX7_ahead_57, eX7_ahead_60, eX7_ahead_61, eX7_ahead_62, eX7_ahead_65, eX7_ahead_66, eX7_ahead_69, eX7_ahead_72, eX7_ahead_73, eX7_ahead_74, eX7_ahead_75, eX7_ahead_78, eX7_ahead_79, eX7_ahead_82, eX7_ahead_83, eX7_ahead_86, e, i1, i2, e1, e2, g1, x5, WpR_some, Option.toList_some, Option.toList_none, List.cons_append, List.nil_append, List.append_nil, clr_n, clr_i, clr_a, ni_add, ni_mul, ni_sub, ni_lt, ni_le, ni_eq, ni_div, nat_mod_eq, ni_rem, iMax_nn, iMin_nn, iMax_sub, Nat.zero_max, bI_0, bI_1, bI_n0, up2_s, up2_n, up2_k, va_up_self, va_up_ne, ni_l, lN_mul, lN_add, ln_mask, lN_i, ↓reduceIte, if_true, if_false, not_true_eq_false, not_false_eq_true, ite_self, Nat.add_zero, Nat.zero_add, ent_def]
  · simp (maxSteps := 1000000) (decide := true) (disch := (first | assumption | omega | exact Nat.div_mul_le_self _ _ | exact ni_nz (by omega) (by omega) | exact rfl | exact retOk_bI _ | exact retOk_0 | exact retOk_1)) only [eX7_ahead_0, eX7_ahead_1, eX7_ahead_2, eX7_ahead_5, eX7_ahead_8, eX7_ahead_9, eX7_ahead_10, eX7_ahead_11, eX7_ahead_14, eX7_ahead_17, eX7_ahead_20, eX7_ahead_21, eX7_ahead_22, eX7_ahead_23, eX7_ahead_26, eX7_ahead_29, eX7_ahead_32, eX7_ahead_33, eX7_ahead_34, eX7_ahead_35, eX7_ahead_38, eX7_ahead_39, eX7_ahead_40, eX7_ahead_43, eX7_ahead_44, eX7_ahead_47, eX7_ahead_48, eX7_ahead_51, eX7_ahead_54, eX7_ahead_55, eX7_ahead_56, eX7_ahead_57, eX7_ahead_60, eX7_ahead_61, eX7_ahead_62, eX7_ahead_65, eX7_ahead_66, eX7_ahead_69, eX7_ahead_72, eX7_ahead_73, eX7_ahead_74, eX7_ahead_75, eX7_ahead_78, eX7_ahead_79, eX7_ahead_82, eX7_ahead_83, eX7_ahead_86, e, i1, i2, e1, e2, e3, WpR_some, Option.toList_some, Option.toList_none, List.cons_append, List.nil_append, List.append_nil, clr_n, clr_i, clr_a, ni_add, ni_mul, ni_sub, ni_lt, ni_le, ni_eq, ni_div, nat_mod_eq, ni_rem, iMax_nn, iMin_nn, iMax_sub, Nat.zero_max, bI_0, bI_1, bI_n0, up2_s, up2_n, up2_k, va_up_self, va_up_ne, ni_l, lN_mul, lN_add, ln_mask, lN_i, ↓reduceIte, if_true, if_false, not_true_eq_false, not_false_eq_true, ite_self, Nat.add_zero, Nat.zero_add, ent_def]
theorem x_then_bad (hG : GM G) (hA : RA m 0 σ k f) (hB : Bd σ) (h : (isN u (σ 45) && isN v (σ 44) && rg w 0 60) = false) : res mX7_then [.ref 158, .int u, .int v, .int w] (G, m, ml) = some (some (.int (-1)), (G, m, ml)) := by
  have e := r_X7_isHearer (ml := ml) (v := u) hG (RA_at hA (j := 45) (by decide)) hB.2.1
  have e2 := r_X7_isTeller (ml := ml) (v := v) hG (RA_at hA (j := 44) (by decide)) hB.1
  obtain ⟨⟨g0, g1, -⟩, -⟩ := hG
  apply res_of
  show Wp mX7_then 0 [some (.ref 158), some (.int u), some (.int v), some (.int w)] [] (G, m, ml) _
  cases h1 : isN u (σ 45)
  · rw [h1] at e
    simp (maxSteps := 1000000) (decide := true) (disch := (first | assumption | omega | exact Nat.div_mul_le_self _ _ | exact ni_nz (by omega) (by omega) | exact rfl | exact retOk_bI _ | exact retOk_0 | exact retOk_1)) only [eX7_then_0, eX7_then_1, eX7_then_2, eX7_then_5, eX7_then_8, eX7_then_9, eX7_then_10, eX7_then_13, eX7_then_16, eX7_then_17, eX7_then_18, eX7_then_19, eX7_then_22, eX7_then_25, eX7_then_28, eX7_then_29, eX7_then_30, eX7_then_31, eX7_then_34, eX7_then_35, eX7_then_36, eX7_then_39, eX7_then_40, eX7_then_43, eX7_then_46, eX7_then_47, eX7_then_48, eX7_then_49, eX7_then_50, eX7_then_51, eX7_then_52, eX7_then_53, e, WpR_some, Option.toList_some, Option.toList_none, List.cons_append, List.nil_append, List.append_nil, clr_n, clr_i, clr_a, ni_add, ni_mul, ni_sub, ni_lt, ni_le, ni_eq, ni_div, nat_mod_eq, ni_rem, iMax_nn, iMin_nn, iMax_sub, Nat.zero_max, bI_0, bI_1, bI_n0, up2_s, up2_n, up2_k, va_up_self, va_up_ne, ni_l, lN_mul, lN_add, ln_mask, lN_i, ↓reduceIte, if_true, if_false, not_true_eq_false, not_false_eq_true, ite_self, Nat.add_zero, Nat.zero_add, ent_def]
  · rw [h1] at e
    cases h2 : isN v (σ 44)
    · rw [h2] at e2
      simp (maxSteps := 1000000) (decide := true) (disch := (first | assumption | omega | exact Nat.div_mul_le_self _ _ | exact ni_nz (by omega) (by omega) | exact rfl | exact retOk_bI _ | exact retOk_0 | exact retOk_1)) only [eX7_then_0, eX7_then_1, eX7_then_2, eX7_then_5, eX7_then_8, eX7_then_9, eX7_then_10, eX7_then_13, eX7_then_16, eX7_then_17, eX7_then_18, eX7_then_19, eX7_then_22, eX7_then_25, eX7_then_28, eX7_then_29, eX7_then_30, eX7_then_31, eX7_then_34, eX7_then_35, eX7_then_36, eX7_then_39, eX7_then_40, eX7_then_43, eX7_then_46, eX7_then_47, eX7_then_48, eX7_then_49, eX7_then_50, eX7_then_51, eX7_then_52, eX7_then_53, e, e2, WpR_some, Option.toList_some, Option.toList_none, List.cons_append, List.nil_append, List.append_nil, clr_n, clr_i, clr_a, ni_add, ni_mul, ni_sub, ni_lt, ni_le, ni_eq, ni_div, nat_mod_eq, ni_rem, iMax_nn, iMin_nn, iMax_sub, Nat.zero_max, bI_0, bI_1, bI_n0, up2_s, up2_n, up2_k, va_up_self, va_up_ne, ni_l, lN_mul, lN_add, ln_mask, lN_i, ↓reduceIte, if_true, if_false, not_true_eq_false, not_false_eq_true, ite_self, Nat.add_zero, Nat.zero_add, ent_def]
    · rw [h1, h2, Bool.true_and, Bool.true_and] at h
      rw [h2] at e2
      simp (maxSteps := 1000000) (decide := true) (disch := (first | assumption | omega | exact Nat.div_mul_le_self _ _ | exact ni_nz (by omega) (by omega) | exact rfl | exact retOk_bI _ | exact retOk_0 | exact retOk_1)) only [eX7_then_0, eX7_then_1, eX7_then_2, eX7_then_5, eX7_then_8, eX7_then_9, eX7_then_10, eX7_then_13, eX7_then_16, eX7_then_17, eX7_then_18, eX7_then_19, eX7_then_22, eX7_then_25, eX7_then_28, eX7_then_29, eX7_then_30, eX7_then_31, eX7_then_34, eX7_then_35, eX7_then_36, eX7_then_39, eX7_then_40, eX7_then_43, eX7_then_46, eX7_then_47, eX7_then_48, eX7_then_49, eX7_then_50, eX7_then_51, eX7_then_52, eX7_then_53, e, e2, r_in, h, WpR_some, Option.toList_some, Option.toList_none, List.cons_append, List.nil_append, List.append_nil, clr_n, clr_i, clr_a, ni_add, ni_mul, ni_sub, ni_lt, ni_le, ni_eq, ni_div, nat_mod_eq, ni_rem, iMax_nn, iMin_nn, iMax_sub, Nat.zero_max, bI_0, bI_1, bI_n0, up2_s, up2_n, up2_k, va_up_self, va_up_ne, ni_l, lN_mul, lN_add, ln_mask, lN_i, ↓reduceIte, if_true, if_false, not_true_eq_false, not_false_eq_true, ite_self, Nat.add_zero, Nat.zero_add, ent_def]
theorem x_then (hG : GM G) (hA : RA m 0 σ k f) (hX : RX m) (hO : Ok σ) (hh : h < σ 45) (ht : t < σ 44) (hn : n ≤ 60) : ∃ m', res mX7_then [.ref 158, .int (nI h), .int (nI t), .int (nI n)] (G, m, ml) = some (some (.int (nI (itP id σ n (10 + (h * 5 + t))))), (G, m', ml)) ∧ FX 818 874 m m' ∧ ∃ x y, CnV m' x y := by
  have b1 := hO.1.1
  have b2 := hO.1.2.1
  have e := r_X7_isHearer (ml := ml) (v := nI h) hG (RA_at hA (j := 45) (by decide)) hO.1.2.1
  rw [isN_t hh (by omega)] at e
  have e0 := r_X7_isTeller (ml := ml) (v := nI t) hG (RA_at hA (j := 44) (by decide)) hO.1.1
  rw [isN_t ht (by omega)] at e0
  have i1 := fun μ => r_inT (x := n) (lo := 0) (hi := 60) (μ := μ) (by omega) hn (by decide)
  obtain ⟨m1, e1, R1, C1, F1⟩ := r_X7_layTried (ml := ml) hG hA
  obtain ⟨m2, e2, T2, C2, F2⟩ := r_X7_passTried (ml := ml) hG (TR_lay hA hX R1 F1 rfl rfl) C1 (Ok_B5 hO hn) hn
  obtain ⟨⟨g0, g1, -⟩, ⟨a0, -⟩, ⟨l0, -⟩⟩ := hG
  have x6 : m2 159 (818 + 10 + 5 * h + t) = nI (itP id σ n (10 + (h * 5 + t))) := by rw [show 818 + 10 + 5 * h + t = 818 + (10 + (h * 5 + t)) by omega]; exact T2.2.2.1 _ (by omega)
  have x6' : m2 159 (828 + 5 * h + t) = nI (itP id σ n (10 + (h * 5 + t))) := x6
  refine ⟨m2, ?_, F1.tr F2, _, _, C2⟩
  apply res_of
  show Wp mX7_then 0 [some (.ref 158), some (.int (nI h)), some (.int (nI t)), some (.int (nI n))] [] (G, m, ml) _
  simp (maxSteps := 1000000) (decide := true) (disch := (first | assumption | omega | exact Nat.div_mul_le_self _ _ | exact ni_nz (by omega) (by omega) | exact rfl | exact retOk_bI _ | exact retOk_0 | exact retOk_1)) only [eX7_then_0, eX7_then_1, eX7_then_2, eX7_then_5, eX7_then_8, eX7_then_9, eX7_then_10, eX7_then_13, eX7_then_16, eX7_then_17, eX7_then_18, eX7_then_19, eX7_then_22, eX7_then_25, eX7_then_28, eX7_then_29, eX7_then_30, eX7_then_31, eX7_then_34, eX7_then_35, eX7_then_36, eX7_then_39, eX7_then_40, eX7_then_43, eX7_then_46, eX7_then_47, eX7_then_48, eX7_then_49, eX7_then_50, eX7_then_51, eX7_then_52, eX7_then_53, e, e0, i1, e1, e2, g1, x6, x6', WpR_some, Option.toList_some, Option.toList_none, List.cons_append, List.nil_append, List.append_nil, clr_n, clr_i, clr_a, ni_add, ni_mul, ni_sub, ni_lt, ni_le, ni_eq, ni_div, nat_mod_eq, ni_rem, iMax_nn, iMin_nn, iMax_sub, Nat.zero_max, bI_0, bI_1, bI_n0, up2_s, up2_n, up2_k, va_up_self, va_up_ne, ni_l, lN_mul, lN_add, ln_mask, lN_i, ↓reduceIte, if_true, if_false, not_true_eq_false, not_false_eq_true, ite_self, Nat.add_zero, Nat.zero_add, ent_def]
/-- the evening, from 0 on, in which one looks first; n: in none -/
def fl (ρ : Nat → Nat) (h n : Nat) : Nat := fst1 (fun i => decide (sitO id (itP id ρ i) h = 2)) n
theorem r_X7_firstLook (hG : GM G) (hT : TR m id ρ) (hC : CnV m cx cy) (hB : Bk n (5 * n) ρ) (hh : h < ρ 45) (hn : n ≤ 60) : ∃ m', res mX7_firstLook [.ref 158, .int (nI h), .int (nI n)] (G, m, ml) = some (some (.int (if fl ρ h n = n then -4 else nI (fl ρ h n + 1))), (G, m', ml)) ∧ FX 818 874 m m' ∧ ∃ x y, CnV m' x y := by
  have hπ5 : ∀ j, j < 5 → (id j : Nat) < 5 := fun j hj => hj
  have b1 := hB.1.1
  have b2 := hB.1.2.1
  have b11 := hB.2.2 h (by omega)
  have hG0 := hG
  obtain ⟨⟨g0, g1, -⟩, ⟨a0, -⟩, ⟨l0, -⟩⟩ := hG
  have x5 : ∀ {m1 : Nat → Nat → Int32} {τ : Nat → Nat}, TR m1 id τ → m1 159 (853 + h) = nI (τ (35 + h)) := fun {m1 τ} T => by
    have := T.2.2.1 (35 + h) (by omega)
    rw [← Nat.add_assoc] at this
    exact this
  have x50 := x5 hT
  have key : Wp mX7_firstLook 0 (ent [.ref 158, .int (nI h), .int (nI n)] 5) [] (G, m, ml) (fun r μ' => ∃ m', r = some (.int (if fl ρ h n = n then -4 else nI (fl ρ h n + 1))) ∧ μ' = (G, m', ml) ∧ FX 818 874 m m' ∧ ∃ x y, CnV m' x y) := by
    show Wp mX7_firstLook 0 [some (.ref 158), some (.int (nI h)), some (.int (nI n)), none, none] [] (G, m, ml) _
    generalize hQ : (fun (r : Option Value) (μ' : Mm) => ∃ m', r = some (.int (if fl ρ h n = n then -4 else nI (fl ρ h n + 1))) ∧ μ' = (G, m', ml) ∧ FX 818 874 m m' ∧ ∃ x y, CnV m' x y) = Q
    simp (maxSteps := 1000000) (decide := true) (disch := (first | assumption | omega | exact Nat.div_mul_le_self _ _ | exact ni_nz (by omega) (by omega) | exact rfl | exact retOk_bI _ | exact retOk_0 | exact retOk_1)) only [eX7_firstLook_0, eX7_firstLook_1, eX7_firstLook_4, eX7_firstLook_7, eX7_firstLook_8, eX7_firstLook_9, eX7_firstLook_10, eX7_firstLook_11, eX7_firstLook_12, eX7_firstLook_16, eX7_firstLook_17, eX7_firstLook_20, eX7_firstLook_21, eX7_firstLook_24, eX7_firstLook_27, eX7_firstLook_28, eX7_firstLook_31, eX7_firstLook_34, eX7_firstLook_35, eX7_firstLook_36, eX7_firstLook_37, eX7_firstLook_38, eX7_firstLook_41, eX7_firstLook_43, eX7_firstLook_44, eX7_firstLook_47, eX7_firstLook_50, eX7_firstLook_52, g1, x50, WpR_some, Option.toList_some, Option.toList_none, List.cons_append, List.nil_append, List.append_nil, clr_n, clr_i, clr_a, ni_add, ni_mul, ni_sub, ni_lt, ni_le, ni_eq, ni_div, nat_mod_eq, ni_rem, iMax_nn, iMin_nn, iMax_sub, Nat.zero_max, bI_0, bI_1, bI_n0, up2_s, up2_n, up2_k, va_up_self, va_up_ne, ni_l, lN_mul, lN_add, ln_mask, lN_i, ↓reduceIte, if_true, if_false, not_true_eq_false, not_false_eq_true, ite_self, Nat.add_zero, Nat.zero_add, ent_def]
    refine wp_for (X := Unit) (fun i _ => [some (.ref 158), some (.int (nI h)), some (.int (nI n)), some (.int (nI (ρ (35 + h)))), some (.int (nI (i + 1)))]) (fun i _ μ => ∃ m1, μ = (G, m1, ml) ∧ TR m1 id (itP id ρ i) ∧ (∃ x y, CnV m1 x y) ∧ FX 818 874 m m1 ∧ (∀ j, j < i → sitO id (itP id ρ j) h ≠ 2) ∧ itP id ρ i (35 + h) = ρ (35 + h)) n ?_ ?_ 0 () _ (Nat.zero_le _) ⟨m, rfl, hT, ⟨_, _, hC⟩, FX.rf, fun j hj => absurd hj (Nat.not_lt_zero _), rfl⟩
    · rintro i - μ hi ⟨m1, rfl, T1, ⟨c1, c2, C1⟩, F1, N1, E1⟩ kk
      have hlt : ¬ n ≤ i := by omega
      have hlt' : ¬ n < i + 1 := by omega
      obtain ⟨m2, e2, T2, C2, F2⟩ := r_passesT (ml := ml) (ke := 0) (kl := 0) hG0 T1 C1 (Bk_itP (Bk_mono hB (by omega) (by omega)) hπ5)
      have h45 := itP_fix (i := 45) (π := id) (by omega) b1 b2 hπ5 i
      have h44 := itP_fix (i := 44) (π := id) (by omega) b1 b2 hπ5 i
      have x51 := x5 T2
      rw [ev_35 (by rw [h45]; exact hh) (by rw [h45]; exact b2) (by rw [h44]; exact b1), E1] at x51
      rw [eX7_firstLook_14]
      by_cases hl : sitO id (itP id ρ i) h = 2
      · rw [if_pos hl] at x51
        have hle : ¬ ρ (35 + h) + 1 ≤ ρ (35 + h) := by omega
        simp (maxSteps := 1000000) (decide := true) (disch := (first | assumption | omega | exact Nat.div_mul_le_self _ _ | exact ni_nz (by omega) (by omega) | exact rfl | exact retOk_bI _ | exact retOk_0 | exact retOk_1)) only [eX7_firstLook_0, eX7_firstLook_1, eX7_firstLook_4, eX7_firstLook_7, eX7_firstLook_8, eX7_firstLook_9, eX7_firstLook_10, eX7_firstLook_11, eX7_firstLook_12, eX7_firstLook_16, eX7_firstLook_17, eX7_firstLook_20, eX7_firstLook_21, eX7_firstLook_24, eX7_firstLook_27, eX7_firstLook_28, eX7_firstLook_31, eX7_firstLook_34, eX7_firstLook_35, eX7_firstLook_36, eX7_firstLook_37, eX7_firstLook_38, eX7_firstLook_41, eX7_firstLook_43, eX7_firstLook_44, eX7_firstLook_47, eX7_firstLook_50, eX7_firstLook_52, g1, e2, x51, hlt', hle, WpR_some, Option.toList_some, Option.toList_none, List.cons_append, List.nil_append, List.append_nil, clr_n, clr_i, clr_a, ni_add, ni_mul, ni_sub, ni_lt, ni_le, ni_eq, ni_div, nat_mod_eq, ni_rem, iMax_nn, iMin_nn, iMax_sub, Nat.zero_max, bI_0, bI_1, bI_n0, up2_s, up2_n, up2_k, va_up_self, va_up_ne, ni_l, lN_mul, lN_add, ln_mask, lN_i, ↓reduceIte, if_true, if_false, not_true_eq_false, not_false_eq_true, ite_self, Nat.add_zero, Nat.zero_add, ent_def]
        rw [← hQ]
        have hf : fl ρ h n = i := fst1_at (fun j hj => decide_eq_false (N1 j hj)) (decide_eq_true hl) n hi
        refine ⟨m2, ?_, rfl, F1.tr F2, _, _, C2⟩
        rw [hf, if_neg (by omega)]
      · rw [if_neg hl, Nat.add_zero] at x51
        simp (maxSteps := 1000000) (decide := true) (disch := (first | assumption | omega | exact Nat.div_mul_le_self _ _ | exact ni_nz (by omega) (by omega) | exact rfl | exact retOk_bI _ | exact retOk_0 | exact retOk_1)) only [eX7_firstLook_0, eX7_firstLook_1, eX7_firstLook_4, eX7_firstLook_7, eX7_firstLook_8, eX7_firstLook_9, eX7_firstLook_10, eX7_firstLook_11, eX7_firstLook_12, eX7_firstLook_16, eX7_firstLook_17, eX7_firstLook_20, eX7_firstLook_21, eX7_firstLook_24, eX7_firstLook_27, eX7_firstLook_28, eX7_firstLook_31, eX7_firstLook_34, eX7_firstLook_35, eX7_firstLook_36, eX7_firstLook_37, eX7_firstLook_38, eX7_firstLook_41, eX7_firstLook_43, eX7_firstLook_44, eX7_firstLook_47, eX7_firstLook_50, eX7_firstLook_52, g1, e2, x51, hlt', Nat.le_refl, WpR_some, Option.toList_some, Option.toList_none, List.cons_append, List.nil_append, List.append_nil, clr_n, clr_i, clr_a, ni_add, ni_mul, ni_sub, ni_lt, ni_le, ni_eq, ni_div, nat_mod_eq, ni_rem, iMax_nn, iMin_nn, iMax_sub, Nat.zero_max, bI_0, bI_1, bI_n0, up2_s, up2_n, up2_k, va_up_self, va_up_ne, ni_l, lN_mul, lN_add, ln_mask, lN_i, ↓reduceIte, if_true, if_false, not_true_eq_false, not_false_eq_true, ite_self, Nat.add_zero, Nat.zero_add, ent_def]
        refine kk () _ ⟨m2, rfl, T2, ⟨_, _, C2⟩, F1.tr F2, ?_, ?_⟩
        · intro j hj
          by_cases hq : j = i
          · rw [hq]; exact hl
          · exact N1 j (by omega)
        · show gon (evS id 9 (itP id ρ i) (itP id ρ i 45)) (35 + h) = _
          rw [ev_35 (by rw [h45]; exact hh) (by rw [h45]; exact b2) (by rw [h44]; exact b1), E1, if_neg hl]
          rfl
    · rintro - μ ⟨m1, rfl, T1, C1, F1, N1, E1⟩
      have hlt' : n < n + 1 := by omega
      rw [eX7_firstLook_14]
      simp (maxSteps := 1000000) (decide := true) (disch := (first | assumption | omega | exact Nat.div_mul_le_self _ _ | exact ni_nz (by omega) (by omega) | exact rfl | exact retOk_bI _ | exact retOk_0 | exact retOk_1)) only [eX7_firstLook_0, eX7_firstLook_1, eX7_firstLook_4, eX7_firstLook_7, eX7_firstLook_8, eX7_firstLook_9, eX7_firstLook_10, eX7_firstLook_11, eX7_firstLook_12, eX7_firstLook_16, eX7_firstLook_17, eX7_firstLook_20, eX7_firstLook_21, eX7_firstLook_24, eX7_firstLook_27, eX7_firstLook_28, eX7_firstLook_31, eX7_firstLook_34, eX7_firstLook_35, eX7_firstLook_36, eX7_firstLook_37, eX7_firstLook_38, eX7_firstLook_41, eX7_firstLook_43, eX7_firstLook_44, eX7_firstLook_47, eX7_firstLook_50, eX7_firstLook_52, hlt', WpR_some, Option.toList_some, Option.toList_none, List.cons_append, List.nil_append, List.append_nil, clr_n, clr_i, clr_a, ni_add, ni_mul, ni_sub, ni_lt, ni_le, ni_eq, ni_div, nat_mod_eq, ni_rem, iMax_nn, iMin_nn, iMax_sub, Nat.zero_max, bI_0, bI_1, bI_n0, up2_s, up2_n, up2_k, va_up_self, va_up_ne, ni_l, lN_mul, lN_add, ln_mask, lN_i, ↓reduceIte, if_true, if_false, not_true_eq_false, not_false_eq_true, ite_self, Nat.add_zero, Nat.zero_add, ent_def]
      rw [← hQ]
      have hf : fl ρ h n = n := fst1_no n (fun j hj => decide_eq_false (N1 j hj))
      exact ⟨m1, by rw [hf, if_pos rfl], rfl, F1, C1⟩
  obtain ⟨r, μ', e1, m', rfl, rfl, h2⟩ := res_ex key
  exact ⟨m', e1, h2⟩
theorem x_first_bad (hG : GM G) (hA : RA m 0 σ k f) (hB : Bd σ) (h : isN u (σ 45) = false) : res mX7_first [.ref 158, .int u] (G, m, ml) = some (some (.int (-1)), (G, m, ml)) := by
  have e := r_X7_isHearer (ml := ml) (v := u) hG (RA_at hA (j := 45) (by decide)) hB.2.1
  rw [h] at e
  obtain ⟨⟨g0, g1, -⟩, -⟩ := hG
  apply res_of
  show Wp mX7_first 0 [some (.ref 158), some (.int u)] [] (G, m, ml) _
  simp (maxSteps := 1000000) (decide := true) (disch := (first | assumption | omega | exact Nat.div_mul_le_self _ _ | exact ni_nz (by omega) (by omega) | exact rfl | exact retOk_bI _ | exact retOk_0 | exact retOk_1)) only [eX7_first_0, eX7_first_1, eX7_first_2, eX7_first_5, eX7_first_8, eX7_first_9, eX7_first_10, eX7_first_11, eX7_first_14, eX7_first_15, eX7_first_16, eX7_first_18, eX7_first_21, e, WpR_some, Option.toList_some, Option.toList_none, List.cons_append, List.nil_append, List.append_nil, clr_n, clr_i, clr_a, ni_add, ni_mul, ni_sub, ni_lt, ni_le, ni_eq, ni_div, nat_mod_eq, ni_rem, iMax_nn, iMin_nn, iMax_sub, Nat.zero_max, bI_0, bI_1, bI_n0, up2_s, up2_n, up2_k, va_up_self, va_up_ne, ni_l, lN_mul, lN_add, ln_mask, lN_i, ↓reduceIte, if_true, if_false, not_true_eq_false, not_false_eq_true, ite_self, Nat.add_zero, Nat.zero_add, ent_def]
theorem x_first (hG : GM G) (hA : RA m 0 σ k f) (hX : RX m) (hO : Ok σ) (hh : h < σ 45) : ∃ m', res mX7_first [.ref 158, .int (nI h)] (G, m, ml) = some (some (.int (if fl σ h 60 = 60 then -4 else nI (fl σ h 60 + 1))), (G, m', ml)) ∧ FX 818 874 m m' ∧ ∃ x y, CnV m' x y := by
  have b2 := hO.1.2.1
  have e := r_X7_isHearer (ml := ml) (v := nI h) hG (RA_at hA (j := 45) (by decide)) hO.1.2.1
  rw [isN_t hh (by omega)] at e
  obtain ⟨m1, e1, R1, C1, F1⟩ := r_X7_layTried (ml := ml) hG hA
  obtain ⟨m2, e2, F2, C2⟩ := r_X7_firstLook (ml := ml) (n := 60) hG (TR_lay hA hX R1 F1 rfl rfl) C1 (Ok_B5 hO (by omega)) hh (by omega)
  obtain ⟨⟨g0, g1, -⟩, ⟨a0, -⟩, ⟨l0, -⟩⟩ := hG
  refine ⟨m2, ?_, F1.tr F2, C2⟩
  apply res_of
  show Wp mX7_first 0 [some (.ref 158), some (.int (nI h))] [] (G, m, ml) _
  simp (maxSteps := 1000000) (decide := true) (disch := (first | assumption | omega | exact Nat.div_mul_le_self _ _ | exact ni_nz (by omega) (by omega) | exact rfl | exact retOk_bI _ | exact retOk_0 | exact retOk_1)) only [eX7_first_0, eX7_first_1, eX7_first_2, eX7_first_5, eX7_first_8, eX7_first_9, eX7_first_10, eX7_first_11, eX7_first_14, eX7_first_15, eX7_first_16, eX7_first_18, eX7_first_21, e, e1, e2, WpR_some, Option.toList_some, Option.toList_none, List.cons_append, List.nil_append, List.append_nil, clr_n, clr_i, clr_a, ni_add, ni_mul, ni_sub, ni_lt, ni_le, ni_eq, ni_div, nat_mod_eq, ni_rem, iMax_nn, iMin_nn, iMax_sub, Nat.zero_max, bI_0, bI_1, bI_n0, up2_s, up2_n, up2_k, va_up_self, va_up_ne, ni_l, lN_mul, lN_add, ln_mask, lN_i, ↓reduceIte, if_true, if_false, not_true_eq_false, not_false_eq_true, ite_self, Nat.add_zero, Nat.zero_add, ent_def]
theorem x_left_bad (hG : GM G) (hA : RA m 0 σ k f) (hB : Bd σ) (h : (isN u (σ 45) && rg v 0 60) = false) : res mX7_left [.ref 158, .int u, .int v] (G, m, ml) = some (some (.int (-1)), (G, m, ml)) := by
  have e := r_X7_isHearer (ml := ml) (v := u) hG (RA_at hA (j := 45) (by decide)) hB.2.1
  obtain ⟨⟨g0, g1, -⟩, -⟩ := hG
  apply res_of
  show Wp mX7_left 0 [some (.ref 158), some (.int u), some (.int v)] [] (G, m, ml) _
  cases h1 : isN u (σ 45)
  · rw [h1] at e
    simp (maxSteps := 1000000) (decide := true) (disch := (first | assumption | omega | exact Nat.div_mul_le_self _ _ | exact ni_nz (by omega) (by omega) | exact rfl | exact retOk_bI _ | exact retOk_0 | exact retOk_1)) only [eX7_left_0, eX7_left_1, eX7_left_2, eX7_left_5, eX7_left_8, eX7_left_9, eX7_left_10, eX7_left_11, eX7_left_14, eX7_left_17, eX7_left_20, eX7_left_21, eX7_left_22, eX7_left_23, eX7_left_26, eX7_left_27, eX7_left_28, eX7_left_31, eX7_left_32, eX7_left_33, eX7_left_36, eX7_left_38, eX7_left_39, eX7_left_40, eX7_left_41, eX7_left_42, eX7_left_43, eX7_left_46, eX7_left_47, eX7_left_50, eX7_left_51, eX7_left_52, eX7_left_53, e, WpR_some, Option.toList_some, Option.toList_none, List.cons_append, List.nil_append, List.append_nil, clr_n, clr_i, clr_a, ni_add, ni_mul, ni_sub, ni_lt, ni_le, ni_eq, ni_div, nat_mod_eq, ni_rem, iMax_nn, iMin_nn, iMax_sub, Nat.zero_max, bI_0, bI_1, bI_n0, up2_s, up2_n, up2_k, va_up_self, va_up_ne, ni_l, lN_mul, lN_add, ln_mask, lN_i, ↓reduceIte, if_true, if_false, not_true_eq_false, not_false_eq_true, ite_self, Nat.add_zero, Nat.zero_add, ent_def]
  · rw [h1] at e
    rw [h1, Bool.true_and] at h
    simp (maxSteps := 1000000) (decide := true) (disch := (first | assumption | omega | exact Nat.div_mul_le_self _ _ | exact ni_nz (by omega) (by omega) | exact rfl | exact retOk_bI _ | exact retOk_0 | exact retOk_1)) only [eX7_left_0, eX7_left_1, eX7_left_2, eX7_left_5, eX7_left_8, eX7_left_9, eX7_left_10, eX7_left_11, eX7_left_14, eX7_left_17, eX7_left_20, eX7_left_21, eX7_left_22, eX7_left_23, eX7_left_26, eX7_left_27, eX7_left_28, eX7_left_31, eX7_left_32, eX7_left_33, eX7_left_36, eX7_left_38, eX7_left_39, eX7_left_40, eX7_left_41, eX7_left_42, eX7_left_43, eX7_left_46, eX7_left_47, eX7_left_50, eX7_left_51, eX7_left_52, eX7_left_53, e, r_in, h, WpR_some, Option.toList_some, Option.toList_none, List.cons_append, List.nil_append, List.append_nil, clr_n, clr_i, clr_a, ni_add, ni_mul, ni_sub, ni_lt, ni_le, ni_eq, ni_div, nat_mod_eq, ni_rem, iMax_nn, iMin_nn, iMax_sub, Nat.zero_max, bI_0, bI_1, bI_n0, up2_s, up2_n, up2_k, va_up_self, va_up_ne, ni_l, lN_mul, lN_add, ln_mask, lN_i, ↓reduceIte, if_true, if_false, not_true_eq_false, not_false_eq_true, ite_self, Nat.add_zero, Nat.zero_add, ent_def]
theorem x_left (hG : GM G) (hA : RA m 0 σ k f) (hX : RX m) (hO : Ok σ) (hh : h < σ 45) (hn : n ≤ 60) : ∃ m', res mX7_left [.ref 158, .int (nI h), .int (nI n)] (G, m, ml) = some (some (.int (allT σ &&& (hbI (itP id σ n) h (σ 44) ^^^ -1))), (G, m', ml)) ∧ FX 818 874 m m' ∧ ∃ x y, CnV m' x y := by
  have b1 := hO.1.1
  have b2 := hO.1.2.1
  have e := r_X7_isHearer (ml := ml) (v := nI h) hG (RA_at hA (j := 45) (by decide)) hO.1.2.1
  rw [isN_t hh (by omega)] at e
  have i1 := fun μ => r_inT (x := n) (lo := 0) (hi := 60) (μ := μ) (by omega) hn (by decide)
  obtain ⟨m1, e1, R1, C1, F1⟩ := r_X7_layTried (ml := ml) hG hA
  obtain ⟨m2, e2, T2, C2, F2⟩ := r_X7_passTried (ml := ml) hG (TR_lay hA hX R1 F1 rfl rfl) C1 (Ok_B5 hO hn) hn
  have h44 := itP_fix (i := 44) (π := id) (by omega) hO.1.1 hO.1.2.1 (fun j hj => hj) n
  have e3 := r_X7_heardBy (ml := ml) (q := 818) (h := h) hG T2.1 T2.2.2.1 (Bk_itP (ke := 0) (kl := 0) (Bk_mono (Ok_B5 hO hn) (by omega) (by omega)) (fun j hj => hj)).1 (by omega) (by omega)
  rw [h44] at e3
  obtain ⟨⟨g0, g1, -⟩, ⟨a0, -⟩, ⟨l0, -⟩⟩ := hG
  have x4 := T2.1
  rw [h44] at x4
  have hal : nI 1 <<< (nI (σ 44) &&& 31) - nI 1 = allT σ := rfl
  refine ⟨m2, ?_, F1.tr F2, _, _, C2⟩
  apply res_of
  show Wp mX7_left 0 [some (.ref 158), some (.int (nI h)), some (.int (nI n))] [] (G, m, ml) _
  simp (maxSteps := 1000000) (decide := true) (disch := (first | assumption | omega | exact Nat.div_mul_le_self _ _ | exact ni_nz (by omega) (by omega) | exact rfl | exact retOk_bI _ | exact retOk_0 | exact retOk_1)) only [eX7_left_0, eX7_left_1, eX7_left_2, eX7_left_5, eX7_left_8, eX7_left_9, eX7_left_10, eX7_left_11, eX7_left_14, eX7_left_17, eX7_left_20, eX7_left_21, eX7_left_22, eX7_left_23, eX7_left_26, eX7_left_27, eX7_left_28, eX7_left_31, eX7_left_32, eX7_left_33, eX7_left_36, eX7_left_38, eX7_left_39, eX7_left_40, eX7_left_41, eX7_left_42, eX7_left_43, eX7_left_46, eX7_left_47, eX7_left_50, eX7_left_51, eX7_left_52, eX7_left_53, e, i1, e1, e2, e3, g1, x4, hal, WpR_some, Option.toList_some, Option.toList_none, List.cons_append, List.nil_append, List.append_nil, clr_n, clr_i, clr_a, ni_add, ni_mul, ni_sub, ni_lt, ni_le, ni_eq, ni_div, nat_mod_eq, ni_rem, iMax_nn, iMin_nn, iMax_sub, Nat.zero_max, bI_0, bI_1, bI_n0, up2_s, up2_n, up2_k, va_up_self, va_up_ne, ni_l, lN_mul, lN_add, ln_mask, lN_i, ↓reduceIte, if_true, if_false, not_true_eq_false, not_false_eq_true, ite_self, Nat.add_zero, Nat.zero_add, ent_def]
theorem r_X7_isAllHeard (hG : GM G) (hT : TR m id ρ) (hB : Bd ρ) : res mX7_isAllHeard [.ref 158] (G, m, ml) = some (some (.int (bI (decide (∀ h, h < ρ 45 → hbI ρ h (ρ 44) = allT ρ)))), (G, m, ml)) := by
  have b1 := hB.1
  have b2 := hB.2.1
  have hG0 := hG
  obtain ⟨⟨g0, g1, -⟩, ⟨a0, -⟩, ⟨l0, -⟩⟩ := hG
  have x4 := hT.1
  have x5 := hT.2.1
  have hal : nI 1 <<< (nI (ρ 44) &&& 31) - nI 1 = allT ρ := rfl
  apply res_of
  show Wp mX7_isAllHeard 0 [some (.ref 158), none, none] [] (G, m, ml) _
  generalize hQ : (fun (r : Option Value) (μ' : Mm) => (r, μ') = (some (.int (bI (decide (∀ h, h < ρ 45 → hbI ρ h (ρ 44) = allT ρ)))), (G, m, ml))) = Q
  simp (maxSteps := 1000000) (decide := true) (disch := (first | assumption | omega | exact Nat.div_mul_le_self _ _ | exact ni_nz (by omega) (by omega) | exact rfl | exact retOk_bI _ | exact retOk_0 | exact retOk_1)) only [eX7_isAllHeard_0, eX7_isAllHeard_1, eX7_isAllHeard_2, eX7_isAllHeard_3, eX7_isAllHeard_5, eX7_isAllHeard_6, eX7_isAllHeard_9, eX7_isAllHeard_11, eX7_isAllHeard_12, eX7_isAllHeard_15, eX7_isAllHeard_16, eX7_isAllHeard_19, eX7_isAllHeard_20, eX7_isAllHeard_23, eX7_isAllHeard_24, eX7_isAllHeard_27, eX7_isAllHeard_28, eX7_isAllHeard_29, eX7_isAllHeard_32, eX7_isAllHeard_34, eX7_isAllHeard_35, eX7_isAllHeard_36, eX7_isAllHeard_37, eX7_isAllHeard_38, eX7_isAllHeard_41, eX7_isAllHeard_42, eX7_isAllHeard_45, eX7_isAllHeard_46, eX7_isAllHeard_47, eX7_isAllHeard_50, eX7_isAllHeard_53, eX7_isAllHeard_54, WpR_some, Option.toList_some, Option.toList_none, List.cons_append, List.nil_append, List.append_nil, clr_n, clr_i, clr_a, ni_add, ni_mul, ni_sub, ni_lt, ni_le, ni_eq, ni_div, nat_mod_eq, ni_rem, iMax_nn, iMin_nn, iMax_sub, Nat.zero_max, bI_0, bI_1, bI_n0, up2_s, up2_n, up2_k, va_up_self, va_up_ne, ni_l, lN_mul, lN_add, ln_mask, lN_i, ↓reduceIte, if_true, if_false, not_true_eq_false, not_false_eq_true, ite_self, Nat.add_zero, Nat.zero_add, ent_def]
  refine wp_for (X := Bool) (fun i z => [some (.ref 158), some (.int (bI z)), some (.int (nI i))]) (fun i z μ => μ = (G, m, ml) ∧ (z = true ↔ ∀ h, h < i → hbI ρ h (ρ 44) = allT ρ)) (ρ 45) ?_ ?_ 0 true _ (Nat.zero_le _) ⟨rfl, ⟨fun _ _ h => absurd h (Nat.not_lt_zero _), fun _ => rfl⟩⟩
  · rintro i z μ hi ⟨rfl, hz⟩ kk
    have e := r_X7_heardBy (ml := ml) (q := 818) (h := i) hG0 hT.1 hT.2.2.1 hB (by omega) (by omega)
    have hlt : ¬ ρ 45 ≤ i := by omega
    rw [eX7_isAllHeard_4]
    cases hzz : z
    · rw [hzz] at hz
      simp (maxSteps := 1000000) (decide := true) (disch := (first | assumption | omega | exact Nat.div_mul_le_self _ _ | exact ni_nz (by omega) (by omega) | exact rfl | exact retOk_bI _ | exact retOk_0 | exact retOk_1)) only [eX7_isAllHeard_0, eX7_isAllHeard_1, eX7_isAllHeard_2, eX7_isAllHeard_3, eX7_isAllHeard_5, eX7_isAllHeard_6, eX7_isAllHeard_9, eX7_isAllHeard_11, eX7_isAllHeard_12, eX7_isAllHeard_15, eX7_isAllHeard_16, eX7_isAllHeard_19, eX7_isAllHeard_20, eX7_isAllHeard_23, eX7_isAllHeard_24, eX7_isAllHeard_27, eX7_isAllHeard_28, eX7_isAllHeard_29, eX7_isAllHeard_32, eX7_isAllHeard_34, eX7_isAllHeard_35, eX7_isAllHeard_36, eX7_isAllHeard_37, eX7_isAllHeard_38, eX7_isAllHeard_41, eX7_isAllHeard_42, eX7_isAllHeard_45, eX7_isAllHeard_46, eX7_isAllHeard_47, eX7_isAllHeard_50, eX7_isAllHeard_53, eX7_isAllHeard_54, g1, x5, hlt, WpR_some, Option.toList_some, Option.toList_none, List.cons_append, List.nil_append, List.append_nil, clr_n, clr_i, clr_a, ni_add, ni_mul, ni_sub, ni_lt, ni_le, ni_eq, ni_div, nat_mod_eq, ni_rem, iMax_nn, iMin_nn, iMax_sub, Nat.zero_max, bI_0, bI_1, bI_n0, up2_s, up2_n, up2_k, va_up_self, va_up_ne, ni_l, lN_mul, lN_add, ln_mask, lN_i, ↓reduceIte, if_true, if_false, not_true_eq_false, not_false_eq_true, ite_self, Nat.add_zero, Nat.zero_add, ent_def]
      refine kk false _ ⟨rfl, ⟨fun h => (by cases h), fun h => hz.mpr (fun j hj => h j (by omega))⟩⟩
    · rw [hzz] at hz
      by_cases hc : hbI ρ i (ρ 44) = allT ρ
      · simp (maxSteps := 1000000) (decide := true) (disch := (first | assumption | omega | exact Nat.div_mul_le_self _ _ | exact ni_nz (by omega) (by omega) | exact rfl | exact retOk_bI _ | exact retOk_0 | exact retOk_1)) only [eX7_isAllHeard_0, eX7_isAllHeard_1, eX7_isAllHeard_2, eX7_isAllHeard_3, eX7_isAllHeard_5, eX7_isAllHeard_6, eX7_isAllHeard_9, eX7_isAllHeard_11, eX7_isAllHeard_12, eX7_isAllHeard_15, eX7_isAllHeard_16, eX7_isAllHeard_19, eX7_isAllHeard_20, eX7_isAllHeard_23, eX7_isAllHeard_24, eX7_isAllHeard_27, eX7_isAllHeard_28, eX7_isAllHeard_29, eX7_isAllHeard_32, eX7_isAllHeard_34, eX7_isAllHeard_35, eX7_isAllHeard_36, eX7_isAllHeard_37, eX7_isAllHeard_38, eX7_isAllHeard_41, eX7_isAllHeard_42, eX7_isAllHeard_45, eX7_isAllHeard_46, eX7_isAllHeard_47, eX7_isAllHeard_50, eX7_isAllHeard_53, eX7_isAllHeard_54, g1, x4, x5, hal, e, hlt, hc, WpR_some, Option.toList_some, Option.toList_none, List.cons_append, List.nil_append, List.append_nil, clr_n, clr_i, clr_a, ni_add, ni_mul, ni_sub, ni_lt, ni_le, ni_eq, ni_div, nat_mod_eq, ni_rem, iMax_nn, iMin_nn, iMax_sub, Nat.zero_max, bI_0, bI_1, bI_n0, up2_s, up2_n, up2_k, va_up_self, va_up_ne, ni_l, lN_mul, lN_add, ln_mask, lN_i, ↓reduceIte, if_true, if_false, not_true_eq_false, not_false_eq_true, ite_self, Nat.add_zero, Nat.zero_add, ent_def]
        refine kk true _ ⟨rfl, ⟨fun _ h hh => ?_, fun _ => rfl⟩⟩
        by_cases hq : h = i
        · rw [hq]; exact hc
        · exact hz.mp rfl h (by omega)
      · simp (maxSteps := 1000000) (decide := true) (disch := (first | assumption | omega | exact Nat.div_mul_le_self _ _ | exact ni_nz (by omega) (by omega) | exact rfl | exact retOk_bI _ | exact retOk_0 | exact retOk_1)) only [eX7_isAllHeard_0, eX7_isAllHeard_1, eX7_isAllHeard_2, eX7_isAllHeard_3, eX7_isAllHeard_5, eX7_isAllHeard_6, eX7_isAllHeard_9, eX7_isAllHeard_11, eX7_isAllHeard_12, eX7_isAllHeard_15, eX7_isAllHeard_16, eX7_isAllHeard_19, eX7_isAllHeard_20, eX7_isAllHeard_23, eX7_isAllHeard_24, eX7_isAllHeard_27, eX7_isAllHeard_28, eX7_isAllHeard_29, eX7_isAllHeard_32, eX7_isAllHeard_34, eX7_isAllHeard_35, eX7_isAllHeard_36, eX7_isAllHeard_37, eX7_isAllHeard_38, eX7_isAllHeard_41, eX7_isAllHeard_42, eX7_isAllHeard_45, eX7_isAllHeard_46, eX7_isAllHeard_47, eX7_isAllHeard_50, eX7_isAllHeard_53, eX7_isAllHeard_54, g1, x4, x5, hal, e, hlt, hc, WpR_some, Option.toList_some, Option.toList_none, List.cons_append, List.nil_append, List.append_nil, clr_n, clr_i, clr_a, ni_add, ni_mul, ni_sub, ni_lt, ni_le, ni_eq, ni_div, nat_mod_eq, ni_rem, iMax_nn, iMin_nn, iMax_sub, Nat.zero_max, bI_0, bI_1, bI_n0, up2_s, up2_n, up2_k, va_up_self, va_up_ne, ni_l, lN_mul, lN_add, ln_mask, lN_i, ↓reduceIte, if_true, if_false, not_true_eq_false, not_false_eq_true, ite_self, Nat.add_zero, Nat.zero_add, ent_def]
        refine kk false _ ⟨rfl, ⟨fun h => (by cases h), fun h => absurd (h i (by omega)) hc⟩⟩
  · rintro z μ ⟨rfl, hz⟩
    rw [eX7_isAllHeard_4]
    simp (maxSteps := 1000000) (decide := true) (disch := (first | assumption | omega | exact Nat.div_mul_le_self _ _ | exact ni_nz (by omega) (by omega) | exact rfl | exact retOk_bI _ | exact retOk_0 | exact retOk_1)) only [eX7_isAllHeard_0, eX7_isAllHeard_1, eX7_isAllHeard_2, eX7_isAllHeard_3, eX7_isAllHeard_5, eX7_isAllHeard_6, eX7_isAllHeard_9, eX7_isAllHeard_11, eX7_isAllHeard_12, eX7_isAllHeard_15, eX7_isAllHeard_16, eX7_isAllHeard_19, eX7_isAllHeard_20, eX7_isAllHeard_23, eX7_isAllHeard_24, eX7_isAllHeard_27, eX7_isAllHeard_28, eX7_isAllHeard_29, eX7_isAllHeard_32, eX7_isAllHeard_34, eX7_isAllHeard_35, eX7_isAllHeard_36, eX7_isAllHeard_37, eX7_isAllHeard_38, eX7_isAllHeard_41, eX7_isAllHeard_42, eX7_isAllHeard_45, eX7_isAllHeard_46, eX7_isAllHeard_47, eX7_isAllHeard_50, eX7_isAllHeard_53, eX7_isAllHeard_54, g1, x5, Nat.le_refl, WpR_some, Option.toList_some, Option.toList_none, List.cons_append, List.nil_append, List.append_nil, clr_n, clr_i, clr_a, ni_add, ni_mul, ni_sub, ni_lt, ni_le, ni_eq, ni_div, nat_mod_eq, ni_rem, iMax_nn, iMin_nn, iMax_sub, Nat.zero_max, bI_0, bI_1, bI_n0, up2_s, up2_n, up2_k, va_up_self, va_up_ne, ni_l, lN_mul, lN_add, ln_mask, lN_i, ↓reduceIte, if_true, if_false, not_true_eq_false, not_false_eq_true, ite_self, Nat.add_zero, Nat.zero_add, ent_def]
    rw [← hQ]
    have : z = decide (∀ h, h < ρ 45 → hbI ρ h (ρ 44) = allT ρ) := by
      by_cases hd : ∀ h, h < ρ 45 → hbI ρ h (ρ 44) = allT ρ
      · rw [decide_eq_true hd]; exact hz.mpr hd
      · rw [decide_eq_false hd]
        cases hzz : z
        · rfl
        · exact absurd (hz.mp hzz) hd
    rw [this]
def alS (σ : Nat → Nat) : Nat := fst1 (fun n => decide (∀ h, h < itP id σ n 45 → hbI (itP id σ n) h (itP id σ n 44) = allT (itP id σ n))) 61
theorem x_all (hG : GM G) (hA : RA m 0 σ k f) (hX : RX m) (hO : Ok σ) : ∃ m', res mX7_all [.ref 158] (G, m, ml) = some (some (.int (if alS σ = 61 then -4 else nI (alS σ))), (G, m', ml)) ∧ FX 818 874 m m' ∧ ∃ x y, CnV m' x y := by
  have hπ5 : ∀ j, j < 5 → (id j : Nat) < 5 := fun j hj => hj
  obtain ⟨m1, e1, R1, C1, F1⟩ := r_X7_layTried (ml := ml) hG hA
  have T0 := TR_lay hA hX R1 F1 rfl rfl
  have hG0 := hG
  obtain ⟨⟨g0, g1, -⟩, ⟨a0, -⟩, ⟨l0, -⟩⟩ := hG
  have key : Wp mX7_all 0 (ent [.ref 158] 2) [] (G, m, ml) (fun r μ' => ∃ m', r = some (.int (if alS σ = 61 then -4 else nI (alS σ))) ∧ μ' = (G, m', ml) ∧ FX 818 874 m m' ∧ ∃ x y, CnV m' x y) := by
    show Wp mX7_all 0 [some (.ref 158), none] [] (G, m, ml) _
    generalize hQ : (fun (r : Option Value) (μ' : Mm) => ∃ m', r = some (.int (if alS σ = 61 then -4 else nI (alS σ))) ∧ μ' = (G, m', ml) ∧ FX 818 874 m m' ∧ ∃ x y, CnV m' x y) = Q
    simp (maxSteps := 1000000) (decide := true) (disch := (first | assumption | omega | exact Nat.div_mul_le_self _ _ | exact ni_nz (by omega) (by omega) | exact rfl | exact retOk_bI _ | exact retOk_0 | exact retOk_1)) only [eX7_all_0, eX7_all_1, eX7_all_4, eX7_all_5, eX7_all_7, eX7_all_9, eX7_all_12, eX7_all_13, eX7_all_16, eX7_all_19, eX7_all_20, eX7_all_21, eX7_all_22, eX7_all_25, eX7_all_28, eX7_all_31, eX7_all_34, eX7_all_36, e1, WpR_some, Option.toList_some, Option.toList_none, List.cons_append, List.nil_append, List.append_nil, clr_n, clr_i, clr_a, ni_add, ni_mul, ni_sub, ni_lt, ni_le, ni_eq, ni_div, nat_mod_eq, ni_rem, iMax_nn, iMin_nn, iMax_sub, Nat.zero_max, bI_0, bI_1, bI_n0, up2_s, up2_n, up2_k, va_up_self, va_up_ne, ni_l, lN_mul, lN_add, ln_mask, lN_i, ↓reduceIte, if_true, if_false, not_true_eq_false, not_false_eq_true, ite_self, Nat.add_zero, Nat.zero_add, ent_def]
    refine wp_for (X := Unit) (fun i _ => [some (.ref 158), some (.int (nI i))]) (fun i _ μ => ∃ m2, μ = (G, m2, ml) ∧ TR m2 id (itP id σ i) ∧ (∃ x y, CnV m2 x y) ∧ FX 818 874 m m2 ∧ (∀ j, j < i → ¬ ∀ h, h < itP id σ j 45 → hbI (itP id σ j) h (itP id σ j 44) = allT (itP id σ j))) 61 ?_ ?_ 0 () _ (Nat.zero_le _) ⟨m1, rfl, T0, ⟨_, _, C1⟩, F1, fun j hj => absurd hj (Nat.not_lt_zero _)⟩
    · rintro i - μ hi ⟨m2, rfl, T2, ⟨c1, c2, C2⟩, F2, N2⟩ kk
      have hlt : ¬ 61 ≤ i := by omega
      have hBk : Bk 1 5 (itP id σ i) := Bk_itP (Bk_mono (Ok_Bk hO) (by omega) (by omega)) hπ5
      have e2 := r_X7_isAllHeard (ml := ml) hG0 T2 hBk.1
      obtain ⟨m3, e3, T3, C3, F3⟩ := r_passesT (ml := ml) (ke := 0) (kl := 0) hG0 T2 C2 hBk
      rw [eX7_all_6]
      by_cases hd : ∀ h, h < itP id σ i 45 → hbI (itP id σ i) h (itP id σ i 44) = allT (itP id σ i)
      · rw [decide_eq_true hd] at e2
        simp (maxSteps := 1000000) (decide := true) (disch := (first | assumption | omega | exact Nat.div_mul_le_self _ _ | exact ni_nz (by omega) (by omega) | exact rfl | exact retOk_bI _ | exact retOk_0 | exact retOk_1)) only [eX7_all_0, eX7_all_1, eX7_all_4, eX7_all_5, eX7_all_7, eX7_all_9, eX7_all_12, eX7_all_13, eX7_all_16, eX7_all_19, eX7_all_20, eX7_all_21, eX7_all_22, eX7_all_25, eX7_all_28, eX7_all_31, eX7_all_34, eX7_all_36, e2, hlt, WpR_some, Option.toList_some, Option.toList_none, List.cons_append, List.nil_append, List.append_nil, clr_n, clr_i, clr_a, ni_add, ni_mul, ni_sub, ni_lt, ni_le, ni_eq, ni_div, nat_mod_eq, ni_rem, iMax_nn, iMin_nn, iMax_sub, Nat.zero_max, bI_0, bI_1, bI_n0, up2_s, up2_n, up2_k, va_up_self, va_up_ne, ni_l, lN_mul, lN_add, ln_mask, lN_i, ↓reduceIte, if_true, if_false, not_true_eq_false, not_false_eq_true, ite_self, Nat.add_zero, Nat.zero_add, ent_def]
        rw [← hQ]
        have hf : alS σ = i := fst1_at (fun j hj => decide_eq_false (N2 j hj)) (decide_eq_true hd) 61 hi
        exact ⟨m2, by rw [hf, if_neg (by omega)], rfl, F2, _, _, C2⟩
      · rw [decide_eq_false hd] at e2
        simp (maxSteps := 1000000) (decide := true) (disch := (first | assumption | omega | exact Nat.div_mul_le_self _ _ | exact ni_nz (by omega) (by omega) | exact rfl | exact retOk_bI _ | exact retOk_0 | exact retOk_1)) only [eX7_all_0, eX7_all_1, eX7_all_4, eX7_all_5, eX7_all_7, eX7_all_9, eX7_all_12, eX7_all_13, eX7_all_16, eX7_all_19, eX7_all_20, eX7_all_21, eX7_all_22, eX7_all_25, eX7_all_28, eX7_all_31, eX7_all_34, eX7_all_36, e2, e3, hlt, WpR_some, Option.toList_some, Option.toList_none, List.cons_append, List.nil_append, List.append_nil, clr_n, clr_i, clr_a, ni_add, ni_mul, ni_sub, ni_lt, ni_le, ni_eq, ni_div, nat_mod_eq, ni_rem, iMax_nn, iMin_nn, iMax_sub, Nat.zero_max, bI_0, bI_1, bI_n0, up2_s, up2_n, up2_k, va_up_self, va_up_ne, ni_l, lN_mul, lN_add, ln_mask, lN_i, ↓reduceIte, if_true, if_false, not_true_eq_false, not_false_eq_true, ite_self, Nat.add_zero, Nat.zero_add, ent_def]
        refine kk () _ ⟨m3, rfl, T3, ⟨_, _, C3⟩, F2.tr F3, ?_⟩
        intro j hj
        by_cases hq : j = i
        · rw [hq]; exact hd
        · exact N2 j (by omega)
    · rintro - μ ⟨m2, rfl, T2, C2, F2, N2⟩
      rw [eX7_all_6]
      simp (maxSteps := 1000000) (decide := true) (disch := (first | assumption | omega | exact Nat.div_mul_le_self _ _ | exact ni_nz (by omega) (by omega) | exact rfl | exact retOk_bI _ | exact retOk_0 | exact retOk_1)) only [eX7_all_0, eX7_all_1, eX7_all_4, eX7_all_5, eX7_all_7, eX7_all_9, eX7_all_12, eX7_all_13, eX7_all_16, eX7_all_19, eX7_all_20, eX7_all_21, eX7_all_22, eX7_all_25, eX7_all_28, eX7_all_31, eX7_all_34, eX7_all_36, Nat.le_refl, WpR_some, Option.toList_some, Option.toList_none, List.cons_append, List.nil_append, List.append_nil, clr_n, clr_i, clr_a, ni_add, ni_mul, ni_sub, ni_lt, ni_le, ni_eq, ni_div, nat_mod_eq, ni_rem, iMax_nn, iMin_nn, iMax_sub, Nat.zero_max, bI_0, bI_1, bI_n0, up2_s, up2_n, up2_k, va_up_self, va_up_ne, ni_l, lN_mul, lN_add, ln_mask, lN_i, ↓reduceIte, if_true, if_false, not_true_eq_false, not_false_eq_true, ite_self, Nat.add_zero, Nat.zero_add, ent_def]
      rw [← hQ]
      have hf : alS σ = 61 := fst1_no 61 (fun j hj => decide_eq_false (N2 j hj))
      exact ⟨m2, by rw [hf, if_pos rfl], rfl, F2, C2⟩
  obtain ⟨r, μ', e1, m', rfl, rfl, h2⟩ := res_ex key
  exact ⟨m', e1, h2⟩
end RTY
