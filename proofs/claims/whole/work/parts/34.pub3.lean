/-- an evening of all; the same, with a draw's rest ahead -/
def ev (σ : Nat → Nat) : Nat → Nat := gon (evS id 9 σ (σ 45))
def stp (d : Bool) (σ : Nat → Nat) : Nat → Nat := if d = true then drw σ else σ
def itS (d : Bool) (σ : Nat → Nat) : Nat → Nat → Nat
  | 0 => σ
  | n + 1 => ev (stp d (itS d σ n))
def itF (d : Bool) (σ : Nat → Nat) (f : Nat → Nat → Nat) : Nat → Nat → Nat → Nat
  | 0 => f
  | n + 1 => pushF (itS d σ n) (itF d σ f n)
def itL (d : Bool) (σ : Nat → Nat) : Nat → Nat
  | 0 => 0
  | n + 1 => itL d σ n + evL id 9 (stp d (itS d σ n)) (stp d (itS d σ n) 45)
def itH (d : Bool) (σ : Nat → Nat) : Nat → Nat
  | 0 => 0
  | n + 1 => itH d σ n + evH id 9 (stp d (itS d σ n)) (stp d (itS d σ n) 45)
section PU3
variable {G : List AT} {m : Nat → Nat → Int32} {ml : Nat → Nat → Int64} {a n s h t ke kl x y o k : Nat} {σ τ : Nat → Nat} {u v w : Int32} {f : Nat → Nat → Nat} {d : Bool}
theorem hab9 : ∀ n, n < 5 → (nI n = -4) = (n = 9) := fun n hn => propext ⟨fun q => absurd q (neg4_ne hn), fun q => by omega⟩
theorem Bk_ev (hB : Bk (ke + 1) (kl + 5) σ) : Bk ke kl (ev σ) := by
  unfold ev
  have h1 := Bk_evS (x := 9) hB (π := id) (fun j hj => hj) (σ 45) (Nat.le_refl _)
  exact Bk_gon (Bk_mono h1 (Nat.le_refl _) (by omega))
theorem Bk_stp (hB : Bk ke kl σ) : Bk ke kl (stp d σ) := by
  unfold stp
  split
  · exact Bk_drw hB
  · exact hB
theorem Bk_itS (hB : Bk (ke + n) (kl + 5 * n) σ) : Bk ke kl (itS d σ n) := by
  induction n generalizing ke kl with
  | zero => exact hB
  | succ n ih =>
    unfold itS
    refine Bk_ev (Bk_stp (ih ?_))
    exact Bk_mono hB (by omega) (by omega)
theorem Ok_Bk (h : Ok σ) : Bk 200 900000 σ := ⟨h.1, by have := h.2.1; omega, fun j hj => by have := h.2.2.1 j hj; have := h.2.1; omega⟩
theorem r_X6_refuseEvenings_bad (h : rg v 1 40 = false) : res mX6_refuseEvenings [.ref 2, .int v] (G, m, ml) = some (some (.int (-1)), (G, m, ml)) := by
  apply res_of
  show Wp mX6_refuseEvenings 0 [some (.ref 2), some (.int v)] [] (G, m, ml) _
  simp (maxSteps := 1000000) (decide := true) (disch := (first | assumption | omega | exact Nat.div_mul_le_self _ _ | exact ni_nz (by omega) (by omega) | exact rfl | exact retOk_bI _ | exact retOk_0 | exact retOk_1)) only [eX6_refuseEvenings_0, eX6_refuseEvenings_1, eX6_refuseEvenings_2, eX6_refuseEvenings_4, eX6_refuseEvenings_7, eX6_refuseEvenings_10, eX6_refuseEvenings_11, eX6_refuseEvenings_12, eX6_refuseEvenings_13, eX6_refuseEvenings_16, eX6_refuseEvenings_19, eX6_refuseEvenings_20, eX6_refuseEvenings_21, eX6_refuseEvenings_24, eX6_refuseEvenings_27, eX6_refuseEvenings_29, eX6_refuseEvenings_32, eX6_refuseEvenings_33, r_X6_wi, h, WpR_some, Option.toList_some, Option.toList_none, List.cons_append, List.nil_append, List.append_nil, clr_n, clr_i, clr_a, ni_add, ni_mul, ni_sub, ni_lt, ni_le, ni_eq, ni_div, nat_mod_eq, ni_rem, iMax_nn, iMin_nn, iMax_sub, Nat.zero_max, bI_0, bI_1, bI_n0, up2_s, up2_n, up2_k, va_up_self, va_up_ne, ni_l, lN_mul, lN_add, ln_mask, lN_i, ↓reduceIte, if_true, if_false, not_true_eq_false, not_false_eq_true, ite_self, Nat.add_zero, Nat.zero_add, ent_def]
theorem r_X6_refuseEvenings (hG : GW G) (hV : ShV m 3 σ) (hB : Bd σ) (h1 : 1 ≤ n) (h2 : n ≤ 40) : res mX6_refuseEvenings [.ref 2, .int (nI n)] (G, m, ml) = some (some (.int (if 9999 < σ 42 + n then -3 else nI 0)), (G, m, ml)) := by
  obtain ⟨⟨g0, g1, g2, -⟩, ⟨s3, p10, -⟩, -⟩ := hG
  have s0 := s3.1
  have b5 := hB.2.2.2.2.1
  obtain ⟨⟨v0, v1, v2, v3, v4, v5, v6⟩, -⟩ := ShV_old hV
  have hr := rg_t (j := n) h1 h2 (by decide)
  apply res_of
  show Wp mX6_refuseEvenings 0 [some (.ref 2), some (.int (nI n))] [] (G, m, ml) _
  by_cases hc : 9999 < σ 42 + n
  · have hc' : ¬ σ 42 + n ≤ 9999 := by omega
    rw [if_pos hc]
    simp (maxSteps := 1000000) (decide := true) (disch := (first | assumption | omega | exact Nat.div_mul_le_self _ _ | exact ni_nz (by omega) (by omega) | exact rfl | exact retOk_bI _ | exact retOk_0 | exact retOk_1)) only [eX6_refuseEvenings_0, eX6_refuseEvenings_1, eX6_refuseEvenings_2, eX6_refuseEvenings_4, eX6_refuseEvenings_7, eX6_refuseEvenings_10, eX6_refuseEvenings_11, eX6_refuseEvenings_12, eX6_refuseEvenings_13, eX6_refuseEvenings_16, eX6_refuseEvenings_19, eX6_refuseEvenings_20, eX6_refuseEvenings_21, eX6_refuseEvenings_24, eX6_refuseEvenings_27, eX6_refuseEvenings_29, eX6_refuseEvenings_32, eX6_refuseEvenings_33, r_X6_wi, hr, g1, v5, hc', WpR_some, Option.toList_some, Option.toList_none, List.cons_append, List.nil_append, List.append_nil, clr_n, clr_i, clr_a, ni_add, ni_mul, ni_sub, ni_lt, ni_le, ni_eq, ni_div, nat_mod_eq, ni_rem, iMax_nn, iMin_nn, iMax_sub, Nat.zero_max, bI_0, bI_1, bI_n0, up2_s, up2_n, up2_k, va_up_self, va_up_ne, ni_l, lN_mul, lN_add, ln_mask, lN_i, ↓reduceIte, if_true, if_false, not_true_eq_false, not_false_eq_true, ite_self, Nat.add_zero, Nat.zero_add, ent_def]
  · have hc' : σ 42 + n ≤ 9999 := by omega
    rw [if_neg hc]
    simp (maxSteps := 1000000) (decide := true) (disch := (first | assumption | omega | exact Nat.div_mul_le_self _ _ | exact ni_nz (by omega) (by omega) | exact rfl | exact retOk_bI _ | exact retOk_0 | exact retOk_1)) only [eX6_refuseEvenings_0, eX6_refuseEvenings_1, eX6_refuseEvenings_2, eX6_refuseEvenings_4, eX6_refuseEvenings_7, eX6_refuseEvenings_10, eX6_refuseEvenings_11, eX6_refuseEvenings_12, eX6_refuseEvenings_13, eX6_refuseEvenings_16, eX6_refuseEvenings_19, eX6_refuseEvenings_20, eX6_refuseEvenings_21, eX6_refuseEvenings_24, eX6_refuseEvenings_27, eX6_refuseEvenings_29, eX6_refuseEvenings_32, eX6_refuseEvenings_33, r_X6_wi, hr, g1, v5, hc', WpR_some, Option.toList_some, Option.toList_none, List.cons_append, List.nil_append, List.append_nil, clr_n, clr_i, clr_a, ni_add, ni_mul, ni_sub, ni_lt, ni_le, ni_eq, ni_div, nat_mod_eq, ni_rem, iMax_nn, iMin_nn, iMax_sub, Nat.zero_max, bI_0, bI_1, bI_n0, up2_s, up2_n, up2_k, va_up_self, va_up_ne, ni_l, lN_mul, lN_add, ln_mask, lN_i, ↓reduceIte, if_true, if_false, not_true_eq_false, not_false_eq_true, ite_self, Nat.add_zero, Nat.zero_add, ent_def]
theorem c_evenings_bad (hG : GW G) (h : rg v 1 40 = false) : res mX6_evenings [.ref 2, .int v] (G, m, ml) = some (some (.int (-1)), (G, m, ml)) := by
  obtain ⟨⟨g0, -⟩, -⟩ := hG
  have e := r_X6_refuseEvenings_bad (G := G) (m := m) (ml := ml) h
  apply res_of
  show Wp mX6_evenings 0 [some (.ref 2), some (.int v), none, none] [] (G, m, ml) _
  simp (maxSteps := 1000000) (decide := true) (disch := (first | assumption | omega | exact Nat.div_mul_le_self _ _ | exact ni_nz (by omega) (by omega) | exact rfl | exact retOk_bI _ | exact retOk_0 | exact retOk_1)) only [eX6_evenings_0, eX6_evenings_1, eX6_evenings_2, eX6_evenings_5, eX6_evenings_6, eX6_evenings_7, eX6_evenings_10, eX6_evenings_11, eX6_evenings_12, eX6_evenings_13, eX6_evenings_16, eX6_evenings_19, eX6_evenings_20, eX6_evenings_22, eX6_evenings_23, eX6_evenings_26, eX6_evenings_27, eX6_evenings_30, eX6_evenings_31, eX6_evenings_34, eX6_evenings_37, eX6_evenings_38, eX6_evenings_41, eX6_evenings_43, eX6_evenings_44, eX6_evenings_47, eX6_evenings_50, eX6_evenings_53, eX6_evenings_56, eX6_evenings_57, eX6_evenings_60, eX6_evenings_63, e, WpR_some, Option.toList_some, Option.toList_none, List.cons_append, List.nil_append, List.append_nil, clr_n, clr_i, clr_a, ni_add, ni_mul, ni_sub, ni_lt, ni_le, ni_eq, ni_div, nat_mod_eq, ni_rem, iMax_nn, iMin_nn, iMax_sub, Nat.zero_max, bI_0, bI_1, bI_n0, up2_s, up2_n, up2_k, va_up_self, va_up_ne, ni_l, lN_mul, lN_add, ln_mask, lN_i, ↓reduceIte, if_true, if_false, not_true_eq_false, not_false_eq_true, ite_self, Nat.add_zero, Nat.zero_add, ent_def]
theorem c_evenings_full (hG : GW G) (hC : CA m σ k f) (hB : Bd σ) (h1 : 1 ≤ n) (h2 : n ≤ 40) (h3 : 9999 < σ 42 + n) : res mX6_evenings [.ref 2, .int (nI n)] (G, m, ml) = some (some (.int (-3)), (G, m, ml)) := by
  have e := r_X6_refuseEvenings (ml := ml) hG hC.1 hB h1 h2
  rw [if_pos h3] at e
  obtain ⟨⟨g0, -⟩, -⟩ := hG
  apply res_of
  show Wp mX6_evenings 0 [some (.ref 2), some (.int (nI n)), none, none] [] (G, m, ml) _
  simp (maxSteps := 1000000) (decide := true) (disch := (first | assumption | omega | exact Nat.div_mul_le_self _ _ | exact ni_nz (by omega) (by omega) | exact rfl | exact retOk_bI _ | exact retOk_0 | exact retOk_1)) only [eX6_evenings_0, eX6_evenings_1, eX6_evenings_2, eX6_evenings_5, eX6_evenings_6, eX6_evenings_7, eX6_evenings_10, eX6_evenings_11, eX6_evenings_12, eX6_evenings_13, eX6_evenings_16, eX6_evenings_19, eX6_evenings_20, eX6_evenings_22, eX6_evenings_23, eX6_evenings_26, eX6_evenings_27, eX6_evenings_30, eX6_evenings_31, eX6_evenings_34, eX6_evenings_37, eX6_evenings_38, eX6_evenings_41, eX6_evenings_43, eX6_evenings_44, eX6_evenings_47, eX6_evenings_50, eX6_evenings_53, eX6_evenings_56, eX6_evenings_57, eX6_evenings_60, eX6_evenings_63, e, WpR_some, Option.toList_some, Option.toList_none, List.cons_append, List.nil_append, List.append_nil, clr_n, clr_i, clr_a, ni_add, ni_mul, ni_sub, ni_lt, ni_le, ni_eq, ni_div, nat_mod_eq, ni_rem, iMax_nn, iMin_nn, iMax_sub, Nat.zero_max, bI_0, bI_1, bI_n0, up2_s, up2_n, up2_k, va_up_self, va_up_ne, ni_l, lN_mul, lN_add, ln_mask, lN_i, ↓reduceIte, if_true, if_false, not_true_eq_false, not_false_eq_true, ite_self, Nat.add_zero, Nat.zero_add, ent_def]
theorem c_evenings (hG : GW G) (hC : CA m σ k f) (hB : Ok σ) (h1 : 1 ≤ n) (h2 : n ≤ 40) (h3 : ¬ 9999 < σ 42 + n) : ∃ m', res mX6_evenings [.ref 2, .int (nI n)] (G, m, ml) = some (some (.int (nI (itL false σ n))), (G, m', ml)) ∧ CA m' (itS false σ n) (min 8 (k + n)) (itF false σ f n) ∧ FC m m' := by
  have e := r_X6_refuseEvenings (ml := ml) hG hC.1 hB.1 h1 h2
  rw [if_neg h3] at e
  have hG0 := hG
  obtain ⟨⟨g0, g1, g2, g3, g4, g5, g6, g7, g8, -⟩, ⟨s3, p10, -⟩, -, -, ⟨t1, t2⟩, -⟩ := hG
  have s0 := s3.1
  have p0 := p10.1
  have ec := r_X4_clear (m := m) (ml := ml) t1
  have key : Wp mX6_evenings 0 (ent [.ref 2, .int (nI n)] 4) [] (G, m, ml) (fun r μ' => ∃ m', r = some (.int (nI (itL false σ n))) ∧ μ' = (G, m', ml) ∧ CA m' (itS false σ n) (min 8 (k + n)) (itF false σ f n) ∧ FC m m') := by
    show Wp mX6_evenings 0 [some (.ref 2), some (.int (nI n)), none, none] [] (G, m, ml) _
    generalize hQ : (fun (r : Option Value) (μ' : Mm) => ∃ m', r = some (.int (nI (itL false σ n))) ∧ μ' = (G, m', ml) ∧ CA m' (itS false σ n) (min 8 (k + n)) (itF false σ f n) ∧ FC m m') = Q
    simp (maxSteps := 1000000) (decide := true) (disch := (first | assumption | omega | exact Nat.div_mul_le_self _ _ | exact ni_nz (by omega) (by omega) | exact rfl | exact retOk_bI _ | exact retOk_0 | exact retOk_1)) only [eX6_evenings_0, eX6_evenings_1, eX6_evenings_2, eX6_evenings_5, eX6_evenings_6, eX6_evenings_7, eX6_evenings_10, eX6_evenings_11, eX6_evenings_12, eX6_evenings_13, eX6_evenings_16, eX6_evenings_19, eX6_evenings_20, eX6_evenings_22, eX6_evenings_23, eX6_evenings_26, eX6_evenings_27, eX6_evenings_30, eX6_evenings_31, eX6_evenings_34, eX6_evenings_37, eX6_evenings_38, eX6_evenings_41, eX6_evenings_43, eX6_evenings_44, eX6_evenings_47, eX6_evenings_50, eX6_evenings_53, eX6_evenings_56, eX6_evenings_57, eX6_evenings_60, eX6_evenings_63, e, g8, ec, WpR_some, Option.toList_some, Option.toList_none, List.cons_append, List.nil_append, List.append_nil, clr_n, clr_i, clr_a, ni_add, ni_mul, ni_sub, ni_lt, ni_le, ni_eq, ni_div, nat_mod_eq, ni_rem, iMax_nn, iMin_nn, iMax_sub, Nat.zero_max, bI_0, bI_1, bI_n0, up2_s, up2_n, up2_k, va_up_self, va_up_ne, ni_l, lN_mul, lN_add, ln_mask, lN_i, ↓reduceIte, if_true, if_false, not_true_eq_false, not_false_eq_true, ite_self, Nat.add_zero, Nat.zero_add, ent_def]
    refine wp_for (X := Unit) (fun i _ => [some (.ref 2), some (.int (nI n)), some (.int (nI 0)), some (.int (nI i))]) (fun i _ μ => ∃ m1, μ = (G, m1, ml) ∧ CA m1 (itS false σ i) (min 8 (k + i)) (itF false σ f i) ∧ TlV m1 151 (itH false σ i) (itL false σ i) ∧ FC m m1) n ?_ ?_ 0 () _ (Nat.zero_le _) ⟨_, rfl, ?_, TlV_clear, ?_⟩
    · rintro i - μ hi ⟨m1, rfl, C1, T1, F1⟩ kk
      have hBk : Bk 1 5 (itS false σ i) := Bk_itS (Bk_mono (Ok_Bk hB) (by omega) (by omega))
      obtain ⟨m2, e2, P2, F2⟩ := r_X1_note (ml := ml) p10 s3 (by omega) C1.2 C1.1
      have V2 : ShV m2 3 (itS false σ i) := ShV_fr C1.1 (fun b b1 b2 => F2 b (by omega))
      have T2 : TlV m2 151 (itH false σ i) (itL false σ i) := ⟨by rw [F2 151 (by omega)]; exact T1.1, by rw [F2 151 (by omega)]; exact T1.2⟩
      obtain ⟨m3, e3, V3, T3, F3⟩ := r_X3_passEvening (ml := ml) (x := 9) (ab := -4) s3 t1 (by omega) V2 T2 (ke := 0) (kl := 0) hBk hab9
      have hlt : ¬ n ≤ i := by omega
      rw [eX6_evenings_21]
      simp (maxSteps := 1000000) (decide := true) (disch := (first | assumption | omega | exact Nat.div_mul_le_self _ _ | exact ni_nz (by omega) (by omega) | exact rfl | exact retOk_bI _ | exact retOk_0 | exact retOk_1)) only [eX6_evenings_0, eX6_evenings_1, eX6_evenings_2, eX6_evenings_5, eX6_evenings_6, eX6_evenings_7, eX6_evenings_10, eX6_evenings_11, eX6_evenings_12, eX6_evenings_13, eX6_evenings_16, eX6_evenings_19, eX6_evenings_20, eX6_evenings_22, eX6_evenings_23, eX6_evenings_26, eX6_evenings_27, eX6_evenings_30, eX6_evenings_31, eX6_evenings_34, eX6_evenings_37, eX6_evenings_38, eX6_evenings_41, eX6_evenings_43, eX6_evenings_44, eX6_evenings_47, eX6_evenings_50, eX6_evenings_53, eX6_evenings_56, eX6_evenings_57, eX6_evenings_60, eX6_evenings_63, g1, g2, g8, e2, e3, hlt, WpR_some, Option.toList_some, Option.toList_none, List.cons_append, List.nil_append, List.append_nil, clr_n, clr_i, clr_a, ni_add, ni_mul, ni_sub, ni_lt, ni_le, ni_eq, ni_div, nat_mod_eq, ni_rem, iMax_nn, iMin_nn, iMax_sub, Nat.zero_max, bI_0, bI_1, bI_n0, up2_s, up2_n, up2_k, va_up_self, va_up_ne, ni_l, lN_mul, lN_add, ln_mask, lN_i, ↓reduceIte, if_true, if_false, not_true_eq_false, not_false_eq_true, ite_self, Nat.add_zero, Nat.zero_add, ent_def]
      refine kk () _ ⟨m3, rfl, ⟨V3, ?_⟩, T3, ?_⟩
      · have := PaV_fr P2 (m' := m3) (fun b b1 b2 => F3 b (by omega) (by omega))
        rw [show min 8 (min 8 (k + i) + 1) = min 8 (k + (i + 1)) by omega] at this
        exact this
      · intro b hb
        rw [F3 b (by omega) (by omega), F2 b (by omega)]
        exact F1 b hb
    · rintro - μ ⟨m1, rfl, C1, T1, F1⟩
      have x1 := T1.2
      rw [eX6_evenings_21]
      simp (maxSteps := 1000000) (decide := true) (disch := (first | assumption | omega | exact Nat.div_mul_le_self _ _ | exact ni_nz (by omega) (by omega) | exact rfl | exact retOk_bI _ | exact retOk_0 | exact retOk_1)) only [eX6_evenings_0, eX6_evenings_1, eX6_evenings_2, eX6_evenings_5, eX6_evenings_6, eX6_evenings_7, eX6_evenings_10, eX6_evenings_11, eX6_evenings_12, eX6_evenings_13, eX6_evenings_16, eX6_evenings_19, eX6_evenings_20, eX6_evenings_22, eX6_evenings_23, eX6_evenings_26, eX6_evenings_27, eX6_evenings_30, eX6_evenings_31, eX6_evenings_34, eX6_evenings_37, eX6_evenings_38, eX6_evenings_41, eX6_evenings_43, eX6_evenings_44, eX6_evenings_47, eX6_evenings_50, eX6_evenings_53, eX6_evenings_56, eX6_evenings_57, eX6_evenings_60, eX6_evenings_63, g8, x1, Nat.le_refl, WpR_some, Option.toList_some, Option.toList_none, List.cons_append, List.nil_append, List.append_nil, clr_n, clr_i, clr_a, ni_add, ni_mul, ni_sub, ni_lt, ni_le, ni_eq, ni_div, nat_mod_eq, ni_rem, iMax_nn, iMin_nn, iMax_sub, Nat.zero_max, bI_0, bI_1, bI_n0, up2_s, up2_n, up2_k, va_up_self, va_up_ne, ni_l, lN_mul, lN_add, ln_mask, lN_i, ↓reduceIte, if_true, if_false, not_true_eq_false, not_false_eq_true, ite_self, Nat.add_zero, Nat.zero_add, ent_def]
      rw [← hQ]
      exact ⟨m1, rfl, rfl, C1, F1⟩
    · have hk8 : k ≤ 8 := by obtain ⟨_, _, _, _, h, _⟩ := hC.2; exact h
      rw [show min 8 (k + 0) = k by omega]
      exact CA_fr hC (fun b b1 b2 => by rw [up2_n (by omega), up2_n (by omega)])
    · intro b hb
      rw [up2_n (by omega), up2_n (by omega)]
  obtain ⟨r, μ', e1, m', rfl, rfl, h2⟩ := res_ex key
  exact ⟨m', e1, h2⟩
theorem c_drift_bad (hG : GW G) (h : rg v 1 40 = false) : res mX6_drift [.ref 2, .int v] (G, m, ml) = some (some (.int (-1)), (G, m, ml)) := by
  obtain ⟨⟨g0, -⟩, -⟩ := hG
  have e := r_X6_refuseEvenings_bad (G := G) (m := m) (ml := ml) h
  apply res_of
  show Wp mX6_drift 0 [some (.ref 2), some (.int v), none, none] [] (G, m, ml) _
  simp (maxSteps := 1000000) (decide := true) (disch := (first | assumption | omega | exact Nat.div_mul_le_self _ _ | exact ni_nz (by omega) (by omega) | exact rfl | exact retOk_bI _ | exact retOk_0 | exact retOk_1)) only [eX6_drift_0, eX6_drift_1, eX6_drift_2, eX6_drift_5, eX6_drift_6, eX6_drift_7, eX6_drift_10, eX6_drift_11, eX6_drift_12, eX6_drift_13, eX6_drift_16, eX6_drift_19, eX6_drift_20, eX6_drift_22, eX6_drift_23, eX6_drift_26, eX6_drift_27, eX6_drift_30, eX6_drift_31, eX6_drift_34, eX6_drift_37, eX6_drift_38, eX6_drift_41, eX6_drift_44, eX6_drift_45, eX6_drift_48, eX6_drift_50, eX6_drift_51, eX6_drift_54, eX6_drift_57, eX6_drift_60, eX6_drift_63, eX6_drift_64, eX6_drift_67, eX6_drift_70, e, WpR_some, Option.toList_some, Option.toList_none, List.cons_append, List.nil_append, List.append_nil, clr_n, clr_i, clr_a, ni_add, ni_mul, ni_sub, ni_lt, ni_le, ni_eq, ni_div, nat_mod_eq, ni_rem, iMax_nn, iMin_nn, iMax_sub, Nat.zero_max, bI_0, bI_1, bI_n0, up2_s, up2_n, up2_k, va_up_self, va_up_ne, ni_l, lN_mul, lN_add, ln_mask, lN_i, ↓reduceIte, if_true, if_false, not_true_eq_false, not_false_eq_true, ite_self, Nat.add_zero, Nat.zero_add, ent_def]
theorem c_drift_full (hG : GW G) (hC : CA m σ k f) (hB : Bd σ) (h1 : 1 ≤ n) (h2 : n ≤ 40) (h3 : 9999 < σ 42 + n) : res mX6_drift [.ref 2, .int (nI n)] (G, m, ml) = some (some (.int (-3)), (G, m, ml)) := by
  have e := r_X6_refuseEvenings (ml := ml) hG hC.1 hB h1 h2
  rw [if_pos h3] at e
  obtain ⟨⟨g0, -⟩, -⟩ := hG
  apply res_of
  show Wp mX6_drift 0 [some (.ref 2), some (.int (nI n)), none, none] [] (G, m, ml) _
  simp (maxSteps := 1000000) (decide := true) (disch := (first | assumption | omega | exact Nat.div_mul_le_self _ _ | exact ni_nz (by omega) (by omega) | exact rfl | exact retOk_bI _ | exact retOk_0 | exact retOk_1)) only [eX6_drift_0, eX6_drift_1, eX6_drift_2, eX6_drift_5, eX6_drift_6, eX6_drift_7, eX6_drift_10, eX6_drift_11, eX6_drift_12, eX6_drift_13, eX6_drift_16, eX6_drift_19, eX6_drift_20, eX6_drift_22, eX6_drift_23, eX6_drift_26, eX6_drift_27, eX6_drift_30, eX6_drift_31, eX6_drift_34, eX6_drift_37, eX6_drift_38, eX6_drift_41, eX6_drift_44, eX6_drift_45, eX6_drift_48, eX6_drift_50, eX6_drift_51, eX6_drift_54, eX6_drift_57, eX6_drift_60, eX6_drift_63, eX6_drift_64, eX6_drift_67, eX6_drift_70, e, WpR_some, Option.toList_some, Option.toList_none, List.cons_append, List.nil_append, List.append_nil, clr_n, clr_i, clr_a, ni_add, ni_mul, ni_sub, ni_lt, ni_le, ni_eq, ni_div, nat_mod_eq, ni_rem, iMax_nn, iMin_nn, iMax_sub, Nat.zero_max, bI_0, bI_1, bI_n0, up2_s, up2_n, up2_k, va_up_self, va_up_ne, ni_l, lN_mul, lN_add, ln_mask, lN_i, ↓reduceIte, if_true, if_false, not_true_eq_false, not_false_eq_true, ite_self, Nat.add_zero, Nat.zero_add, ent_def]
theorem c_drift (hG : GW G) (hC : CA m σ k f) (hB : Ok σ) (h1 : 1 ≤ n) (h2 : n ≤ 40) (h3 : ¬ 9999 < σ 42 + n) : ∃ m', res mX6_drift [.ref 2, .int (nI n)] (G, m, ml) = some (some (.int (nI (itL true σ n))), (G, m', ml)) ∧ CA m' (itS true σ n) (min 8 (k + n)) (itF true σ f n) ∧ FC m m' := by
  have e := r_X6_refuseEvenings (ml := ml) hG hC.1 hB.1 h1 h2
  rw [if_neg h3] at e
  have hG0 := hG
  obtain ⟨⟨g0, g1, g2, g3, g4, g5, g6, g7, g8, -⟩, ⟨s3, p10, -⟩, -, -, ⟨t1, t2⟩, -⟩ := hG
  have s0 := s3.1
  have p0 := p10.1
  have ec := r_X4_clear (m := m) (ml := ml) t1
  have key : Wp mX6_drift 0 (ent [.ref 2, .int (nI n)] 4) [] (G, m, ml) (fun r μ' => ∃ m', r = some (.int (nI (itL true σ n))) ∧ μ' = (G, m', ml) ∧ CA m' (itS true σ n) (min 8 (k + n)) (itF true σ f n) ∧ FC m m') := by
    show Wp mX6_drift 0 [some (.ref 2), some (.int (nI n)), none, none] [] (G, m, ml) _
    generalize hQ : (fun (r : Option Value) (μ' : Mm) => ∃ m', r = some (.int (nI (itL true σ n))) ∧ μ' = (G, m', ml) ∧ CA m' (itS true σ n) (min 8 (k + n)) (itF true σ f n) ∧ FC m m') = Q
    simp (maxSteps := 1000000) (decide := true) (disch := (first | assumption | omega | exact Nat.div_mul_le_self _ _ | exact ni_nz (by omega) (by omega) | exact rfl | exact retOk_bI _ | exact retOk_0 | exact retOk_1)) only [eX6_drift_0, eX6_drift_1, eX6_drift_2, eX6_drift_5, eX6_drift_6, eX6_drift_7, eX6_drift_10, eX6_drift_11, eX6_drift_12, eX6_drift_13, eX6_drift_16, eX6_drift_19, eX6_drift_20, eX6_drift_22, eX6_drift_23, eX6_drift_26, eX6_drift_27, eX6_drift_30, eX6_drift_31, eX6_drift_34, eX6_drift_37, eX6_drift_38, eX6_drift_41, eX6_drift_44, eX6_drift_45, eX6_drift_48, eX6_drift_50, eX6_drift_51, eX6_drift_54, eX6_drift_57, eX6_drift_60, eX6_drift_63, eX6_drift_64, eX6_drift_67, eX6_drift_70, e, g8, ec, WpR_some, Option.toList_some, Option.toList_none, List.cons_append, List.nil_append, List.append_nil, clr_n, clr_i, clr_a, ni_add, ni_mul, ni_sub, ni_lt, ni_le, ni_eq, ni_div, nat_mod_eq, ni_rem, iMax_nn, iMin_nn, iMax_sub, Nat.zero_max, bI_0, bI_1, bI_n0, up2_s, up2_n, up2_k, va_up_self, va_up_ne, ni_l, lN_mul, lN_add, ln_mask, lN_i, ↓reduceIte, if_true, if_false, not_true_eq_false, not_false_eq_true, ite_self, Nat.add_zero, Nat.zero_add, ent_def]
    refine wp_for (X := Unit) (fun i _ => [some (.ref 2), some (.int (nI n)), some (.int (nI 0)), some (.int (nI i))]) (fun i _ μ => ∃ m1, μ = (G, m1, ml) ∧ CA m1 (itS true σ i) (min 8 (k + i)) (itF true σ f i) ∧ TlV m1 151 (itH true σ i) (itL true σ i) ∧ FC m m1) n ?_ ?_ 0 () _ (Nat.zero_le _) ⟨_, rfl, ?_, TlV_clear, ?_⟩
    · rintro i - μ hi ⟨m1, rfl, C1, T1, F1⟩ kk
      have hBk : Bk 1 5 (itS true σ i) := Bk_itS (Bk_mono (Ok_Bk hB) (by omega) (by omega))
      obtain ⟨m2, e2, P2, F2⟩ := r_X1_note (ml := ml) p10 s3 (by omega) C1.2 C1.1
      have V2 : ShV m2 3 (itS true σ i) := ShV_fr C1.1 (fun b b1 b2 => F2 b (by omega))
      have T2 : TlV m2 151 (itH true σ i) (itL true σ i) := ⟨by rw [F2 151 (by omega)]; exact T1.1, by rw [F2 151 (by omega)]; exact T1.2⟩
      obtain ⟨m4, e4, V4, F4⟩ := r_X3_drawRest (ml := ml) s3 V2 hBk.1
      have T4 : TlV m4 151 (itH true σ i) (itL true σ i) := ⟨by rw [F4 151 (by omega)]; exact T2.1, by rw [F4 151 (by omega)]; exact T2.2⟩
      obtain ⟨m3, e3, V3, T3, F3⟩ := r_X3_passEvening (ml := ml) (x := 9) (ab := -4) s3 t1 (by omega) V4 T4 (ke := 0) (kl := 0) (Bk_drw hBk) hab9
      have hlt : ¬ n ≤ i := by omega
      rw [eX6_drift_21]
      simp (maxSteps := 1000000) (decide := true) (disch := (first | assumption | omega | exact Nat.div_mul_le_self _ _ | exact ni_nz (by omega) (by omega) | exact rfl | exact retOk_bI _ | exact retOk_0 | exact retOk_1)) only [eX6_drift_0, eX6_drift_1, eX6_drift_2, eX6_drift_5, eX6_drift_6, eX6_drift_7, eX6_drift_10, eX6_drift_11, eX6_drift_12, eX6_drift_13, eX6_drift_16, eX6_drift_19, eX6_drift_20, eX6_drift_22, eX6_drift_23, eX6_drift_26, eX6_drift_27, eX6_drift_30, eX6_drift_31, eX6_drift_34, eX6_drift_37, eX6_drift_38, eX6_drift_41, eX6_drift_44, eX6_drift_45, eX6_drift_48, eX6_drift_50, eX6_drift_51, eX6_drift_54, eX6_drift_57, eX6_drift_60, eX6_drift_63, eX6_drift_64, eX6_drift_67, eX6_drift_70, g1, g2, g8, e2, e4, e3, hlt, WpR_some, Option.toList_some, Option.toList_none, List.cons_append, List.nil_append, List.append_nil, clr_n, clr_i, clr_a, ni_add, ni_mul, ni_sub, ni_lt, ni_le, ni_eq, ni_div, nat_mod_eq, ni_rem, iMax_nn, iMin_nn, iMax_sub, Nat.zero_max, bI_0, bI_1, bI_n0, up2_s, up2_n, up2_k, va_up_self, va_up_ne, ni_l, lN_mul, lN_add, ln_mask, lN_i, ↓reduceIte, if_true, if_false, not_true_eq_false, not_false_eq_true, ite_self, Nat.add_zero, Nat.zero_add, ent_def]
      refine kk () _ ⟨m3, rfl, ⟨V3, ?_⟩, T3, ?_⟩
      · have := PaV_fr P2 (m' := m3) (fun b b1 b2 => by rw [F3 b (by omega) (by omega), F4 b (by omega)])
        rw [show min 8 (min 8 (k + i) + 1) = min 8 (k + (i + 1)) by omega] at this
        exact this
      · intro b hb
        rw [F3 b (by omega) (by omega), F4 b (by omega), F2 b (by omega)]
        exact F1 b hb
    · rintro - μ ⟨m1, rfl, C1, T1, F1⟩
      have x1 := T1.2
      rw [eX6_drift_21]
      simp (maxSteps := 1000000) (decide := true) (disch := (first | assumption | omega | exact Nat.div_mul_le_self _ _ | exact ni_nz (by omega) (by omega) | exact rfl | exact retOk_bI _ | exact retOk_0 | exact retOk_1)) only [eX6_drift_0, eX6_drift_1, eX6_drift_2, eX6_drift_5, eX6_drift_6, eX6_drift_7, eX6_drift_10, eX6_drift_11, eX6_drift_12, eX6_drift_13, eX6_drift_16, eX6_drift_19, eX6_drift_20, eX6_drift_22, eX6_drift_23, eX6_drift_26, eX6_drift_27, eX6_drift_30, eX6_drift_31, eX6_drift_34, eX6_drift_37, eX6_drift_38, eX6_drift_41, eX6_drift_44, eX6_drift_45, eX6_drift_48, eX6_drift_50, eX6_drift_51, eX6_drift_54, eX6_drift_57, eX6_drift_60, eX6_drift_63, eX6_drift_64, eX6_drift_67, eX6_drift_70, g8, x1, Nat.le_refl, WpR_some, Option.toList_some, Option.toList_none, List.cons_append, List.nil_append, List.append_nil, clr_n, clr_i, clr_a, ni_add, ni_mul, ni_sub, ni_lt, ni_le, ni_eq, ni_div, nat_mod_eq, ni_rem, iMax_nn, iMin_nn, iMax_sub, Nat.zero_max, bI_0, bI_1, bI_n0, up2_s, up2_n, up2_k, va_up_self, va_up_ne, ni_l, lN_mul, lN_add, ln_mask, lN_i, ↓reduceIte, if_true, if_false, not_true_eq_false, not_false_eq_true, ite_self, Nat.add_zero, Nat.zero_add, ent_def]
      rw [← hQ]
      exact ⟨m1, rfl, rfl, C1, F1⟩
    · have hk8 : k ≤ 8 := by obtain ⟨_, _, _, _, h, _⟩ := hC.2; exact h
      rw [show min 8 (k + 0) = k by omega]
      exact CA_fr hC (fun b b1 b2 => by rw [up2_n (by omega), up2_n (by omega)])
    · intro b hb
      rw [up2_n (by omega), up2_n (by omega)]
  obtain ⟨r, μ', e1, m', rfl, rfl, h2⟩ := res_ex key
  exact ⟨m', e1, h2⟩
theorem c_rest_bad (hG : GW G) (hC : CA m σ k f) (h : (isN u (σ 45) && rg v 1 60) = false) : res mX6_rest [.ref 2, .int u, .int v] (G, m, ml) = some (some (.int (-1)), (G, m, ml)) := by
  have e := r_X6_isHearer (ml := ml) (v := u) hG hC.1
  obtain ⟨⟨g0, g1, g2, -⟩, -⟩ := hG
  apply res_of
  show Wp mX6_rest 0 [some (.ref 2), some (.int u), some (.int v)] [] (G, m, ml) _
  cases h1 : isN u (σ 45)
  · rw [h1] at e
    simp (maxSteps := 1000000) (decide := true) (disch := (first | assumption | omega | exact Nat.div_mul_le_self _ _ | exact ni_nz (by omega) (by omega) | exact rfl | exact retOk_bI _ | exact retOk_0 | exact retOk_1)) only [eX6_rest_0, eX6_rest_1, eX6_rest_2, eX6_rest_5, eX6_rest_8, eX6_rest_9, eX6_rest_10, eX6_rest_12, eX6_rest_15, eX6_rest_18, eX6_rest_19, eX6_rest_20, eX6_rest_21, eX6_rest_24, eX6_rest_27, eX6_rest_28, eX6_rest_29, eX6_rest_30, eX6_rest_33, eX6_rest_36, eX6_rest_37, eX6_rest_38, eX6_rest_41, eX6_rest_43, eX6_rest_44, eX6_rest_45, eX6_rest_48, eX6_rest_49, eX6_rest_52, eX6_rest_55, eX6_rest_56, eX6_rest_59, eX6_rest_60, eX6_rest_61, eX6_rest_64, eX6_rest_65, eX6_rest_68, eX6_rest_71, eX6_rest_72, eX6_rest_73, e, WpR_some, Option.toList_some, Option.toList_none, List.cons_append, List.nil_append, List.append_nil, clr_n, clr_i, clr_a, ni_add, ni_mul, ni_sub, ni_lt, ni_le, ni_eq, ni_div, nat_mod_eq, ni_rem, iMax_nn, iMin_nn, iMax_sub, Nat.zero_max, bI_0, bI_1, bI_n0, up2_s, up2_n, up2_k, va_up_self, va_up_ne, ni_l, lN_mul, lN_add, ln_mask, lN_i, ↓reduceIte, if_true, if_false, not_true_eq_false, not_false_eq_true, ite_self, Nat.add_zero, Nat.zero_add, ent_def]
  · rw [h1] at e
    rw [h1, Bool.true_and] at h
    simp (maxSteps := 1000000) (decide := true) (disch := (first | assumption | omega | exact Nat.div_mul_le_self _ _ | exact ni_nz (by omega) (by omega) | exact rfl | exact retOk_bI _ | exact retOk_0 | exact retOk_1)) only [eX6_rest_0, eX6_rest_1, eX6_rest_2, eX6_rest_5, eX6_rest_8, eX6_rest_9, eX6_rest_10, eX6_rest_12, eX6_rest_15, eX6_rest_18, eX6_rest_19, eX6_rest_20, eX6_rest_21, eX6_rest_24, eX6_rest_27, eX6_rest_28, eX6_rest_29, eX6_rest_30, eX6_rest_33, eX6_rest_36, eX6_rest_37, eX6_rest_38, eX6_rest_41, eX6_rest_43, eX6_rest_44, eX6_rest_45, eX6_rest_48, eX6_rest_49, eX6_rest_52, eX6_rest_55, eX6_rest_56, eX6_rest_59, eX6_rest_60, eX6_rest_61, eX6_rest_64, eX6_rest_65, eX6_rest_68, eX6_rest_71, eX6_rest_72, eX6_rest_73, e, r_X6_wi, h, WpR_some, Option.toList_some, Option.toList_none, List.cons_append, List.nil_append, List.append_nil, clr_n, clr_i, clr_a, ni_add, ni_mul, ni_sub, ni_lt, ni_le, ni_eq, ni_div, nat_mod_eq, ni_rem, iMax_nn, iMin_nn, iMax_sub, Nat.zero_max, bI_0, bI_1, bI_n0, up2_s, up2_n, up2_k, va_up_self, va_up_ne, ni_l, lN_mul, lN_add, ln_mask, lN_i, ↓reduceIte, if_true, if_false, not_true_eq_false, not_false_eq_true, ite_self, Nat.add_zero, Nat.zero_add, ent_def]
theorem c_rest (hG : GW G) (hC : CA m σ k f) (hB : Bd σ) (hh : h < σ 45) (h1 : 1 ≤ n) (h2 : n ≤ 60) : ∃ m', res mX6_rest [.ref 2, .int (nI h), .int (nI n)] (G, m, ml) = some (some (.int (if σ h = σ (51 + h) then -2 else nI (min (σ (51 + h)) (σ h + n)))), (G, m', ml)) ∧ (if σ h = σ (51 + h) then CA m' σ k f else CA m' (upN σ h (min (σ (51 + h)) (σ h + n))) (min 8 (k + 1)) (pushF σ f)) ∧ FC m m' := by
  have b1 := hB.1
  have b2 := hB.2.1
  have e := r_X6_isHearer (ml := ml) (v := nI h) hG hC.1
  rw [isN_t hh (by omega)] at e
  have hr := rg_t (j := n) h1 h2 (by decide)
  have y9 := hB.2.2.2.2.2.2.2.2.1 h (by omega)
  have y10 := hB.2.2.2.2.2.2.2.2.2.1 h (by omega)
  obtain ⟨⟨g0, g1, g2, -⟩, ⟨s3, p10, -⟩, -⟩ := hG
  have p0 := p10.1
  have s3' := s3
  obtain ⟨s0, ⟨s1, s2, s3, s4, s5, s6⟩, ⟨q1, q2, q3, q4, q5, q6⟩, l1, l2, l3, l4, l5, l6⟩ := s3
  obtain ⟨-, w1, w2, w3, w4, w5, w6⟩ := ShV_old hC.1
  have x3 := w3 h hh
  have x4 := w4 h hh
  by_cases hc : σ h = σ (51 + h)
  · refine ⟨m, ?_, by rw [if_pos hc]; exact hC, FC.rf⟩
    rw [if_pos hc]
    apply res_of
    show Wp mX6_rest 0 [some (.ref 2), some (.int (nI h)), some (.int (nI n))] [] (G, m, ml) _
    simp (maxSteps := 1000000) (decide := true) (disch := (first | assumption | omega | exact Nat.div_mul_le_self _ _ | exact ni_nz (by omega) (by omega) | exact rfl | exact retOk_bI _ | exact retOk_0 | exact retOk_1)) only [eX6_rest_0, eX6_rest_1, eX6_rest_2, eX6_rest_5, eX6_rest_8, eX6_rest_9, eX6_rest_10, eX6_rest_12, eX6_rest_15, eX6_rest_18, eX6_rest_19, eX6_rest_20, eX6_rest_21, eX6_rest_24, eX6_rest_27, eX6_rest_28, eX6_rest_29, eX6_rest_30, eX6_rest_33, eX6_rest_36, eX6_rest_37, eX6_rest_38, eX6_rest_41, eX6_rest_43, eX6_rest_44, eX6_rest_45, eX6_rest_48, eX6_rest_49, eX6_rest_52, eX6_rest_55, eX6_rest_56, eX6_rest_59, eX6_rest_60, eX6_rest_61, eX6_rest_64, eX6_rest_65, eX6_rest_68, eX6_rest_71, eX6_rest_72, eX6_rest_73, e, r_X6_wi, hr, g1, s3, s4, x3, x4, hc, WpR_some, Option.toList_some, Option.toList_none, List.cons_append, List.nil_append, List.append_nil, clr_n, clr_i, clr_a, ni_add, ni_mul, ni_sub, ni_lt, ni_le, ni_eq, ni_div, nat_mod_eq, ni_rem, iMax_nn, iMin_nn, iMax_sub, Nat.zero_max, bI_0, bI_1, bI_n0, up2_s, up2_n, up2_k, va_up_self, va_up_ne, ni_l, lN_mul, lN_add, ln_mask, lN_i, ↓reduceIte, if_true, if_false, not_true_eq_false, not_false_eq_true, ite_self, Nat.add_zero, Nat.zero_add, ent_def]
  · obtain ⟨m2, e2, P2, F2⟩ := r_X1_note (ml := ml) p10 s3' (by omega) hC.2 hC.1
    have V2 : ShV m2 3 σ := ShV_fr hC.1 (fun b b1 b2 => F2 b (by omega))
    have e3 := r_X3_relieve (ml := ml) (h := h) (n := n) s3' V2 hB hh (by omega)
    refine ⟨up2 m2 (3 + 4) h (nI (min (σ (51 + h)) (σ h + n))), ?_, ?_, ?_⟩
    rotate_left
    · rw [if_neg hc]
      refine ⟨ShV_up (i := h) (v := min (σ (51 + h)) (σ h + n)) V2 (by omega) (by omega) (by omega) (o := 3 + 4) (k := h) (by simp only [cO]; rw [if_pos (by omega)]) (by simp only [cK]; rw [if_pos (by omega)]), PaV_fr P2 (fun b b1 b2 => by rw [up2_n (by omega)])⟩
    · intro b hb; rw [up2_n (by omega), F2 b (by omega)]
    · rw [if_neg hc]
      apply res_of
      show Wp mX6_rest 0 [some (.ref 2), some (.int (nI h)), some (.int (nI n))] [] (G, m, ml) _
      simp (maxSteps := 1000000) (decide := true) (disch := (first | assumption | omega | exact Nat.div_mul_le_self _ _ | exact ni_nz (by omega) (by omega) | exact rfl | exact retOk_bI _ | exact retOk_0 | exact retOk_1)) only [eX6_rest_0, eX6_rest_1, eX6_rest_2, eX6_rest_5, eX6_rest_8, eX6_rest_9, eX6_rest_10, eX6_rest_12, eX6_rest_15, eX6_rest_18, eX6_rest_19, eX6_rest_20, eX6_rest_21, eX6_rest_24, eX6_rest_27, eX6_rest_28, eX6_rest_29, eX6_rest_30, eX6_rest_33, eX6_rest_36, eX6_rest_37, eX6_rest_38, eX6_rest_41, eX6_rest_43, eX6_rest_44, eX6_rest_45, eX6_rest_48, eX6_rest_49, eX6_rest_52, eX6_rest_55, eX6_rest_56, eX6_rest_59, eX6_rest_60, eX6_rest_61, eX6_rest_64, eX6_rest_65, eX6_rest_68, eX6_rest_71, eX6_rest_72, eX6_rest_73, e, r_X6_wi, hr, g1, g2, s3, s4, x3, x4, hc, e2, e3, WpR_some, Option.toList_some, Option.toList_none, List.cons_append, List.nil_append, List.append_nil, clr_n, clr_i, clr_a, ni_add, ni_mul, ni_sub, ni_lt, ni_le, ni_eq, ni_div, nat_mod_eq, ni_rem, iMax_nn, iMin_nn, iMax_sub, Nat.zero_max, bI_0, bI_1, bI_n0, up2_s, up2_n, up2_k, va_up_self, va_up_ne, ni_l, lN_mul, lN_add, ln_mask, lN_i, ↓reduceIte, if_true, if_false, not_true_eq_false, not_false_eq_true, ite_self, Nat.add_zero, Nat.zero_add, ent_def]
theorem c_spin_bad (hG : GW G) (hC : CA m σ k f) (h : (isN u (σ 44) && rg v 1 20) = false) : res mX6_spin [.ref 2, .int u, .int v] (G, m, ml) = some (some (.int (-1)), (G, m, ml)) := by
  have e := r_X6_isTeller (ml := ml) (v := u) hG hC.1
  obtain ⟨⟨g0, g1, g2, -⟩, -⟩ := hG
  apply res_of
  show Wp mX6_spin 0 [some (.ref 2), some (.int u), some (.int v)] [] (G, m, ml) _
  cases h1 : isN u (σ 44)
  · rw [h1] at e
    simp (maxSteps := 1000000) (decide := true) (disch := (first | assumption | omega | exact Nat.div_mul_le_self _ _ | exact ni_nz (by omega) (by omega) | exact rfl | exact retOk_bI _ | exact retOk_0 | exact retOk_1)) only [eX6_spin_0, eX6_spin_1, eX6_spin_2, eX6_spin_5, eX6_spin_8, eX6_spin_9, eX6_spin_10, eX6_spin_12, eX6_spin_15, eX6_spin_18, eX6_spin_19, eX6_spin_20, eX6_spin_21, eX6_spin_24, eX6_spin_27, eX6_spin_28, eX6_spin_29, eX6_spin_31, eX6_spin_34, eX6_spin_36, eX6_spin_37, eX6_spin_38, eX6_spin_41, eX6_spin_42, eX6_spin_45, eX6_spin_48, eX6_spin_49, eX6_spin_52, eX6_spin_55, eX6_spin_56, eX6_spin_58, eX6_spin_59, eX6_spin_62, eX6_spin_65, eX6_spin_66, eX6_spin_67, eX6_spin_68, eX6_spin_69, eX6_spin_72, eX6_spin_73, eX6_spin_74, eX6_spin_77, eX6_spin_80, eX6_spin_81, eX6_spin_82, e, WpR_some, Option.toList_some, Option.toList_none, List.cons_append, List.nil_append, List.append_nil, clr_n, clr_i, clr_a, ni_add, ni_mul, ni_sub, ni_lt, ni_le, ni_eq, ni_div, nat_mod_eq, ni_rem, iMax_nn, iMin_nn, iMax_sub, Nat.zero_max, bI_0, bI_1, bI_n0, up2_s, up2_n, up2_k, va_up_self, va_up_ne, ni_l, lN_mul, lN_add, ln_mask, lN_i, ↓reduceIte, if_true, if_false, not_true_eq_false, not_false_eq_true, ite_self, Nat.add_zero, Nat.zero_add, ent_def]
  · rw [h1] at e
    rw [h1, Bool.true_and] at h
    simp (maxSteps := 1000000) (decide := true) (disch := (first | assumption | omega | exact Nat.div_mul_le_self _ _ | exact ni_nz (by omega) (by omega) | exact rfl | exact retOk_bI _ | exact retOk_0 | exact retOk_1)) only [eX6_spin_0, eX6_spin_1, eX6_spin_2, eX6_spin_5, eX6_spin_8, eX6_spin_9, eX6_spin_10, eX6_spin_12, eX6_spin_15, eX6_spin_18, eX6_spin_19, eX6_spin_20, eX6_spin_21, eX6_spin_24, eX6_spin_27, eX6_spin_28, eX6_spin_29, eX6_spin_31, eX6_spin_34, eX6_spin_36, eX6_spin_37, eX6_spin_38, eX6_spin_41, eX6_spin_42, eX6_spin_45, eX6_spin_48, eX6_spin_49, eX6_spin_52, eX6_spin_55, eX6_spin_56, eX6_spin_58, eX6_spin_59, eX6_spin_62, eX6_spin_65, eX6_spin_66, eX6_spin_67, eX6_spin_68, eX6_spin_69, eX6_spin_72, eX6_spin_73, eX6_spin_74, eX6_spin_77, eX6_spin_80, eX6_spin_81, eX6_spin_82, e, r_X6_wi, h, WpR_some, Option.toList_some, Option.toList_none, List.cons_append, List.nil_append, List.append_nil, clr_n, clr_i, clr_a, ni_add, ni_mul, ni_sub, ni_lt, ni_le, ni_eq, ni_div, nat_mod_eq, ni_rem, iMax_nn, iMin_nn, iMax_sub, Nat.zero_max, bI_0, bI_1, bI_n0, up2_s, up2_n, up2_k, va_up_self, va_up_ne, ni_l, lN_mul, lN_add, ln_mask, lN_i, ↓reduceIte, if_true, if_false, not_true_eq_false, not_false_eq_true, ite_self, Nat.add_zero, Nat.zero_add, ent_def]
theorem c_spin (hG : GW G) (hC : CA m σ k f) (hB : Bd σ) (ht : t < σ 44) (h1 : 1 ≤ n) (h2 : n ≤ 20) : ∃ m', res mX6_spin [.ref 2, .int (nI t), .int (nI n)] (G, m, ml) = some (some (.int (if σ (5 + t) = 20 then -2 else nI (min 20 (σ (5 + t) + n)))), (G, m', ml)) ∧ (if σ (5 + t) = 20 then CA m' σ k f else CA m' (upN σ (5 + t) (min 20 (σ (5 + t) + n))) (min 8 (k + 1)) (pushF σ f)) ∧ FC m m' := by
  have b1 := hB.1
  have b2 := hB.2.1
  have e := r_X6_isTeller (ml := ml) (v := nI t) hG hC.1
  rw [isN_t ht (by omega)] at e
  have hr := rg_t (j := n) h1 h2 (by decide)
  have y8 := hB.2.2.2.2.2.2.2.1 t (by omega)
  obtain ⟨⟨g0, g1, g2, -⟩, ⟨s3, p10, -⟩, -⟩ := hG
  have p0 := p10.1
  have s3' := s3
  obtain ⟨s0, ⟨s1, s2, s3, s4, s5, s6⟩, ⟨q1, q2, q3, q4, q5, q6⟩, l1, l2, l3, l4, l5, l6⟩ := s3
  obtain ⟨-, w1, w2, w3, w4, w5, w6⟩ := ShV_old hC.1
  have x2 := w2 t ht
  by_cases hc : σ (5 + t) = 20
  · refine ⟨m, ?_, by rw [if_pos hc]; exact hC, FC.rf⟩
    rw [if_pos hc]
    rw [hc] at x2
    apply res_of
    show Wp mX6_spin 0 [some (.ref 2), some (.int (nI t)), some (.int (nI n))] [] (G, m, ml) _
    simp (maxSteps := 1000000) (decide := true) (disch := (first | assumption | omega | exact Nat.div_mul_le_self _ _ | exact ni_nz (by omega) (by omega) | exact rfl | exact retOk_bI _ | exact retOk_0 | exact retOk_1)) only [eX6_spin_0, eX6_spin_1, eX6_spin_2, eX6_spin_5, eX6_spin_8, eX6_spin_9, eX6_spin_10, eX6_spin_12, eX6_spin_15, eX6_spin_18, eX6_spin_19, eX6_spin_20, eX6_spin_21, eX6_spin_24, eX6_spin_27, eX6_spin_28, eX6_spin_29, eX6_spin_31, eX6_spin_34, eX6_spin_36, eX6_spin_37, eX6_spin_38, eX6_spin_41, eX6_spin_42, eX6_spin_45, eX6_spin_48, eX6_spin_49, eX6_spin_52, eX6_spin_55, eX6_spin_56, eX6_spin_58, eX6_spin_59, eX6_spin_62, eX6_spin_65, eX6_spin_66, eX6_spin_67, eX6_spin_68, eX6_spin_69, eX6_spin_72, eX6_spin_73, eX6_spin_74, eX6_spin_77, eX6_spin_80, eX6_spin_81, eX6_spin_82, e, r_X6_wi, hr, g1, s2, x2, WpR_some, Option.toList_some, Option.toList_none, List.cons_append, List.nil_append, List.append_nil, clr_n, clr_i, clr_a, ni_add, ni_mul, ni_sub, ni_lt, ni_le, ni_eq, ni_div, nat_mod_eq, ni_rem, iMax_nn, iMin_nn, iMax_sub, Nat.zero_max, bI_0, bI_1, bI_n0, up2_s, up2_n, up2_k, va_up_self, va_up_ne, ni_l, lN_mul, lN_add, ln_mask, lN_i, ↓reduceIte, if_true, if_false, not_true_eq_false, not_false_eq_true, ite_self, Nat.add_zero, Nat.zero_add, ent_def]
  · obtain ⟨m2, e2, P2, F2⟩ := r_X1_note (ml := ml) p10 s3' (by omega) hC.2 hC.1
    have V2 : ShV m2 3 σ := ShV_fr hC.1 (fun b b1 b2 => F2 b (by omega))
    have x2' := (ShV_old V2).2.2.1 t ht
    refine ⟨up2 m2 5 t (nI (min 20 (σ (5 + t) + n))), ?_, ?_, ?_⟩
    · rw [if_neg hc]
      apply res_of
      show Wp mX6_spin 0 [some (.ref 2), some (.int (nI t)), some (.int (nI n))] [] (G, m, ml) _
      simp (maxSteps := 1000000) (decide := true) (disch := (first | assumption | omega | exact Nat.div_mul_le_self _ _ | exact ni_nz (by omega) (by omega) | exact rfl | exact retOk_bI _ | exact retOk_0 | exact retOk_1)) only [eX6_spin_0, eX6_spin_1, eX6_spin_2, eX6_spin_5, eX6_spin_8, eX6_spin_9, eX6_spin_10, eX6_spin_12, eX6_spin_15, eX6_spin_18, eX6_spin_19, eX6_spin_20, eX6_spin_21, eX6_spin_24, eX6_spin_27, eX6_spin_28, eX6_spin_29, eX6_spin_31, eX6_spin_34, eX6_spin_36, eX6_spin_37, eX6_spin_38, eX6_spin_41, eX6_spin_42, eX6_spin_45, eX6_spin_48, eX6_spin_49, eX6_spin_52, eX6_spin_55, eX6_spin_56, eX6_spin_58, eX6_spin_59, eX6_spin_62, eX6_spin_65, eX6_spin_66, eX6_spin_67, eX6_spin_68, eX6_spin_69, eX6_spin_72, eX6_spin_73, eX6_spin_74, eX6_spin_77, eX6_spin_80, eX6_spin_81, eX6_spin_82, e, r_X6_wi, hr, g1, g2, s2, x2, hc, e2, x2', WpR_some, Option.toList_some, Option.toList_none, List.cons_append, List.nil_append, List.append_nil, clr_n, clr_i, clr_a, ni_add, ni_mul, ni_sub, ni_lt, ni_le, ni_eq, ni_div, nat_mod_eq, ni_rem, iMax_nn, iMin_nn, iMax_sub, Nat.zero_max, bI_0, bI_1, bI_n0, up2_s, up2_n, up2_k, va_up_self, va_up_ne, ni_l, lN_mul, lN_add, ln_mask, lN_i, ↓reduceIte, if_true, if_false, not_true_eq_false, not_false_eq_true, ite_self, Nat.add_zero, Nat.zero_add, ent_def]
    · rw [if_neg hc]
      refine ⟨ShV_up (i := 5 + t) (v := min 20 (σ (5 + t) + n)) V2 (by omega) (by omega) (by omega) (o := 5) (k := t) (by simp only [cO]; rw [if_neg (by omega), if_pos (by omega)]) (by simp only [cK]; rw [if_neg (by omega), if_pos (by omega)]; omega), PaV_fr P2 (fun b b1 b2 => by rw [up2_n (by omega)])⟩
    · intro b hb; rw [up2_n (by omega), F2 b (by omega)]
theorem c_step_bad (h : rg v 0 4 = false) : res mX6_step [.ref 2, .int v] (G, m, ml) = some (some (.int (-1)), (G, m, ml)) := by
  apply res_of
  show Wp mX6_step 0 [some (.ref 2), some (.int v), none] [] (G, m, ml) _
  simp (maxSteps := 1000000) (decide := true) (disch := (first | assumption | omega | exact Nat.div_mul_le_self _ _ | exact ni_nz (by omega) (by omega) | exact rfl | exact retOk_bI _ | exact retOk_0 | exact retOk_1)) only [eX6_step_0, eX6_step_1, eX6_step_2, eX6_step_3, eX6_step_6, eX6_step_9, eX6_step_10, eX6_step_11, eX6_step_12, eX6_step_15, eX6_step_18, eX6_step_19, eX6_step_20, eX6_step_21, eX6_step_24, eX6_step_26, eX6_step_27, eX6_step_28, eX6_step_31, eX6_step_32, eX6_step_35, eX6_step_38, eX6_step_39, eX6_step_42, eX6_step_43, eX6_step_46, eX6_step_47, r_X6_wi, h, WpR_some, Option.toList_some, Option.toList_none, List.cons_append, List.nil_append, List.append_nil, clr_n, clr_i, clr_a, ni_add, ni_mul, ni_sub, ni_lt, ni_le, ni_eq, ni_div, nat_mod_eq, ni_rem, iMax_nn, iMin_nn, iMax_sub, Nat.zero_max, bI_0, bI_1, bI_n0, up2_s, up2_n, up2_k, va_up_self, va_up_ne, ni_l, lN_mul, lN_add, ln_mask, lN_i, ↓reduceIte, if_true, if_false, not_true_eq_false, not_false_eq_true, ite_self, Nat.add_zero, Nat.zero_add, ent_def]
theorem c_step (hG : GW G) (hC : CA m σ k f) (hB : Bd σ) (h2 : n ≤ 4) : ∃ m', res mX6_step [.ref 2, .int (nI n)] (G, m, ml) = some (some (.int (if n = σ 41 then -2 else nI (σ 41))), (G, m', ml)) ∧ (if n = σ 41 then CA m' σ k f else CA m' (upN σ 41 n) (min 8 (k + 1)) (pushF σ f)) ∧ FC m m' := by
  have b3 := hB.2.2.1
  have hr := rg_t (j := n) (Nat.zero_le _) h2 (by decide)
  obtain ⟨⟨g0, g1, g2, -⟩, ⟨s3, p10, -⟩, -⟩ := hG
  have p0 := p10.1
  have s0 := s3.1
  obtain ⟨⟨v0, v1, v2, v3, v4, v5, v6⟩, -⟩ := ShV_old hC.1
  by_cases hc : n = σ 41
  · refine ⟨m, ?_, by rw [if_pos hc]; exact hC, FC.rf⟩
    rw [if_pos hc]
    apply res_of
    show Wp mX6_step 0 [some (.ref 2), some (.int (nI n)), none] [] (G, m, ml) _
    simp (maxSteps := 1000000) (decide := true) (disch := (first | assumption | omega | exact Nat.div_mul_le_self _ _ | exact ni_nz (by omega) (by omega) | exact rfl | exact retOk_bI _ | exact retOk_0 | exact retOk_1)) only [eX6_step_0, eX6_step_1, eX6_step_2, eX6_step_3, eX6_step_6, eX6_step_9, eX6_step_10, eX6_step_11, eX6_step_12, eX6_step_15, eX6_step_18, eX6_step_19, eX6_step_20, eX6_step_21, eX6_step_24, eX6_step_26, eX6_step_27, eX6_step_28, eX6_step_31, eX6_step_32, eX6_step_35, eX6_step_38, eX6_step_39, eX6_step_42, eX6_step_43, eX6_step_46, eX6_step_47, r_X6_wi, hr, g1, v4, hc, WpR_some, Option.toList_some, Option.toList_none, List.cons_append, List.nil_append, List.append_nil, clr_n, clr_i, clr_a, ni_add, ni_mul, ni_sub, ni_lt, ni_le, ni_eq, ni_div, nat_mod_eq, ni_rem, iMax_nn, iMin_nn, iMax_sub, Nat.zero_max, bI_0, bI_1, bI_n0, up2_s, up2_n, up2_k, va_up_self, va_up_ne, ni_l, lN_mul, lN_add, ln_mask, lN_i, ↓reduceIte, if_true, if_false, not_true_eq_false, not_false_eq_true, ite_self, Nat.add_zero, Nat.zero_add, ent_def]
    rw [hc] at hr
    simp (maxSteps := 1000000) (decide := true) (disch := (first | assumption | omega | exact Nat.div_mul_le_self _ _ | exact ni_nz (by omega) (by omega) | exact rfl | exact retOk_bI _ | exact retOk_0 | exact retOk_1)) only [eX6_step_0, eX6_step_1, eX6_step_2, eX6_step_3, eX6_step_6, eX6_step_9, eX6_step_10, eX6_step_11, eX6_step_12, eX6_step_15, eX6_step_18, eX6_step_19, eX6_step_20, eX6_step_21, eX6_step_24, eX6_step_26, eX6_step_27, eX6_step_28, eX6_step_31, eX6_step_32, eX6_step_35, eX6_step_38, eX6_step_39, eX6_step_42, eX6_step_43, eX6_step_46, eX6_step_47, r_X6_wi, hr, g1, v4, hc, WpR_some, Option.toList_some, Option.toList_none, List.cons_append, List.nil_append, List.append_nil, clr_n, clr_i, clr_a, ni_add, ni_mul, ni_sub, ni_lt, ni_le, ni_eq, ni_div, nat_mod_eq, ni_rem, iMax_nn, iMin_nn, iMax_sub, Nat.zero_max, bI_0, bI_1, bI_n0, up2_s, up2_n, up2_k, va_up_self, va_up_ne, ni_l, lN_mul, lN_add, ln_mask, lN_i, ↓reduceIte, if_true, if_false, not_true_eq_false, not_false_eq_true, ite_self, Nat.add_zero, Nat.zero_add, ent_def]
  · obtain ⟨m2, e2, P2, F2⟩ := r_X1_note (ml := ml) p10 s3 (by omega) hC.2 hC.1
    have V2 : ShV m2 3 σ := ShV_fr hC.1 (fun b b1 b2 => F2 b (by omega))
    refine ⟨up2 m2 3 4 (nI n), ?_, ?_, ?_⟩
    · rw [if_neg hc]
      apply res_of
      show Wp mX6_step 0 [some (.ref 2), some (.int (nI n)), none] [] (G, m, ml) _
      simp (maxSteps := 1000000) (decide := true) (disch := (first | assumption | omega | exact Nat.div_mul_le_self _ _ | exact ni_nz (by omega) (by omega) | exact rfl | exact retOk_bI _ | exact retOk_0 | exact retOk_1)) only [eX6_step_0, eX6_step_1, eX6_step_2, eX6_step_3, eX6_step_6, eX6_step_9, eX6_step_10, eX6_step_11, eX6_step_12, eX6_step_15, eX6_step_18, eX6_step_19, eX6_step_20, eX6_step_21, eX6_step_24, eX6_step_26, eX6_step_27, eX6_step_28, eX6_step_31, eX6_step_32, eX6_step_35, eX6_step_38, eX6_step_39, eX6_step_42, eX6_step_43, eX6_step_46, eX6_step_47, r_X6_wi, hr, g1, g2, v4, hc, e2, WpR_some, Option.toList_some, Option.toList_none, List.cons_append, List.nil_append, List.append_nil, clr_n, clr_i, clr_a, ni_add, ni_mul, ni_sub, ni_lt, ni_le, ni_eq, ni_div, nat_mod_eq, ni_rem, iMax_nn, iMin_nn, iMax_sub, Nat.zero_max, bI_0, bI_1, bI_n0, up2_s, up2_n, up2_k, va_up_self, va_up_ne, ni_l, lN_mul, lN_add, ln_mask, lN_i, ↓reduceIte, if_true, if_false, not_true_eq_false, not_false_eq_true, ite_self, Nat.add_zero, Nat.zero_add, ent_def]
    · rw [if_neg hc]
      exact ⟨ShV_up (i := 41) (v := n) V2 (by decide) (by decide) (by decide) (by decide) (by decide), PaV_fr P2 (fun b b1 b2 => by rw [up2_n (by omega)])⟩
    · intro b hb; rw [up2_n (by omega), F2 b (by omega)]
theorem c_undo0 (hG : GW G) (hC : CA m σ 0 f) : res mX6_undo [.ref 2] (G, m, ml) = some (some (.int (-4)), (G, m, ml)) := by
  obtain ⟨⟨g0, g1, g2, -⟩, ⟨s3, p10, -⟩, -⟩ := hG
  have p0 := p10.1
  have e := r_X1_takeBack0 (c := 3) (ml := ml) p0 hC.2
  apply res_of
  show Wp mX6_undo 0 [some (.ref 2)] [] (G, m, ml) _
  simp (maxSteps := 1000000) (decide := true) (disch := (first | assumption | omega | exact Nat.div_mul_le_self _ _ | exact ni_nz (by omega) (by omega) | exact rfl | exact retOk_bI _ | exact retOk_0 | exact retOk_1)) only [eX6_undo_0, eX6_undo_1, eX6_undo_4, eX6_undo_5, eX6_undo_8, eX6_undo_11, eX6_undo_14, eX6_undo_15, eX6_undo_18, eX6_undo_21, eX6_undo_24, eX6_undo_26, g1, g2, e, WpR_some, Option.toList_some, Option.toList_none, List.cons_append, List.nil_append, List.append_nil, clr_n, clr_i, clr_a, ni_add, ni_mul, ni_sub, ni_lt, ni_le, ni_eq, ni_div, nat_mod_eq, ni_rem, iMax_nn, iMin_nn, iMax_sub, Nat.zero_max, bI_0, bI_1, bI_n0, up2_s, up2_n, up2_k, va_up_self, va_up_ne, ni_l, lN_mul, lN_add, ln_mask, lN_i, ↓reduceIte, if_true, if_false, not_true_eq_false, not_false_eq_true, ite_self, Nat.add_zero, Nat.zero_add, ent_def]
theorem c_undo (hG : GW G) (hC : CA m σ (k + 1) f) : ∃ m', res mX6_undo [.ref 2] (G, m, ml) = some (some (.int (nI k)), (G, m', ml)) ∧ CA m' (f 0) k (fun i => f (i + 1)) ∧ FC m m' := by
  obtain ⟨⟨g0, g1, g2, -⟩, ⟨s3, p10, -⟩, -⟩ := hG
  have p0 := p10.1
  obtain ⟨m1, e1, P1, V1, F1⟩ := r_X1_takeBack (ml := ml) p10 s3 (by omega) hC.2
  have x2 : m1 10 2 = nI k := by obtain ⟨_, _, _, h, _⟩ := P1; exact h
  refine ⟨m1, ?_, ⟨V1, P1⟩, fun b hb => F1 b (by omega) (by omega)⟩
  apply res_of
  show Wp mX6_undo 0 [some (.ref 2)] [] (G, m, ml) _
  simp (maxSteps := 1000000) (decide := true) (disch := (first | assumption | omega | exact Nat.div_mul_le_self _ _ | exact ni_nz (by omega) (by omega) | exact rfl | exact retOk_bI _ | exact retOk_0 | exact retOk_1)) only [eX6_undo_0, eX6_undo_1, eX6_undo_4, eX6_undo_5, eX6_undo_8, eX6_undo_11, eX6_undo_14, eX6_undo_15, eX6_undo_18, eX6_undo_21, eX6_undo_24, eX6_undo_26, g1, g2, e1, x2, WpR_some, Option.toList_some, Option.toList_none, List.cons_append, List.nil_append, List.append_nil, clr_n, clr_i, clr_a, ni_add, ni_mul, ni_sub, ni_lt, ni_le, ni_eq, ni_div, nat_mod_eq, ni_rem, iMax_nn, iMin_nn, iMax_sub, Nat.zero_max, bI_0, bI_1, bI_n0, up2_s, up2_n, up2_k, va_up_self, va_up_ne, ni_l, lN_mul, lN_add, ln_mask, lN_i, ↓reduceIte, if_true, if_false, not_true_eq_false, not_false_eq_true, ite_self, Nat.add_zero, Nat.zero_add, ent_def]
end PU3
