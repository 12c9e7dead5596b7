/-- a Past at p: its ring in the cell behind it, eight Shires behind that -/
def Pa (G : List AT) (p : Nat) : Prop := atg G p = 11 ∧ rfn G p 0 = p + 1 ∧ atg G (p + 1) = 3 ∧ aln G (p + 1) = 8 ∧ ∀ j, j < 8 → rfn G (p + 1) j = p + 2 + 7 * j ∧ Sh G (p + 2 + 7 * j)
/-- k may be undone: f i is how it was ahead of the i-th latest thing done -/
def PaV (m : Nat → Nat → Int32) (p k : Nat) (f : Nat → Nat → Nat) : Prop := ∃ n, n < 8 ∧ m p 1 = nI n ∧ m p 2 = nI k ∧ k ≤ 8 ∧ ∀ i, i < k → ShV m (p + 2 + 7 * ((n + 7 - i) % 8)) (f i)
theorem PaV_fr {m m' : Nat → Nat → Int32} {p k : Nat} {f : Nat → Nat → Nat} (h : PaV m p k f) (hf : ∀ b, p ≤ b → b ≤ p + 57 → m' b = m b) : PaV m' p k f := by
  obtain ⟨n, h1, h2, h3, h4, h5⟩ := h
  refine ⟨n, h1, by rw [hf p (by omega) (by omega)]; exact h2, by rw [hf p (by omega) (by omega)]; exact h3, h4, fun i hi => ShV_fr (h5 i hi) (fun b b1 b2 => hf b (by omega) ?_)⟩
  have : (n + 7 - i) % 8 < 8 := Nat.mod_lt _ (by decide)
  omega
def pushF (σ : Nat → Nat) (f : Nat → Nat → Nat) : Nat → Nat → Nat := fun i => match i with
  | 0 => σ
  | i + 1 => f i
section PAS
variable {G : List AT} {m : Nat → Nat → Int32} {ml : Nat → Nat → Int64} {p c k : Nat} {σ : Nat → Nat} {f : Nat → Nat → Nat}
theorem r_X1_forget (hp : atg G p = 11) : res mX1_forget [.ref p] (G, m, ml) = some (none, (G, up2 m p 2 (nI 0), ml)) := by
  apply res_of
  show Wp mX1_forget 0 [some (.ref p)] [] (G, m, ml) _
  simp (maxSteps := 1000000) (decide := true) (disch := (first | assumption | omega | exact Nat.div_mul_le_self _ _ | exact ni_nz (by omega) (by omega) | exact rfl | exact retOk_bI _ | exact retOk_0 | exact retOk_1)) only [eX1_forget_0, eX1_forget_1, eX1_forget_2, eX1_forget_5, WpR_some, Option.toList_some, Option.toList_none, List.cons_append, List.nil_append, List.append_nil, clr_n, clr_i, clr_a, ni_add, ni_mul, ni_sub, ni_lt, ni_le, ni_eq, ni_div, nat_mod_eq, ni_rem, iMax_nn, iMin_nn, iMax_sub, Nat.zero_max, bI_0, bI_1, bI_n0, up2_s, up2_n, up2_k, va_up_self, va_up_ne, ni_l, lN_mul, lN_add, ln_mask, lN_i, ↓reduceIte, if_true, if_false, not_true_eq_false, not_false_eq_true, ite_self, Nat.add_zero, Nat.zero_add, ent_def]
theorem PaV_forget (h : PaV m p k f) : PaV (up2 m p 2 (nI 0)) p 0 f := by
  obtain ⟨n, h1, h2, h3, h4, h5⟩ := h
  exact ⟨n, h1, by rw [up2_k (by decide)]; exact h2, by rw [up2_s], by omega, fun i hi => absurd hi (Nat.not_lt_zero _)⟩
theorem r_X1_note (hP : Pa G p) (hC : Sh G c) (hd : c + 6 < p ∨ p + 57 < c) (hV : PaV m p k f) (hc : ShV m c σ) : ∃ m', res mX1_note [.ref p, .ref c] (G, m, ml) = some (none, (G, m', ml)) ∧ PaV m' p (min 8 (k + 1)) (pushF σ f) ∧ (∀ b, b < p ∨ p + 57 < b → m' b = m b) := by
  obtain ⟨p0, p1, p2, p3, p4⟩ := hP
  obtain ⟨n, h1, h2, h3, h4, h5⟩ := hV
  obtain ⟨r1, hS⟩ := p4 n h1
  obtain ⟨m1, e1, V1, F1⟩ := r_X3_become (m := m) (ml := ml) hS hC (by omega)
  have g0 := hS.1
  have k1 : m1 p 1 = nI n := by rw [F1 p (by omega)]; exact h2
  have k2 : m1 p 2 = nI k := by rw [F1 p (by omega)]; exact h3
  refine ⟨up2 (up2 m1 p 1 (nI ((n + 1) % 8))) p 2 (nI (min 8 (k + 1))), ?_, ?_, ?_⟩
  · apply res_of
    show Wp mX1_note 0 [some (.ref p), some (.ref c)] [] (G, m, ml) _
    simp (maxSteps := 1000000) (decide := true) (disch := (first | assumption | omega | exact Nat.div_mul_le_self _ _ | exact ni_nz (by omega) (by omega) | exact rfl | exact retOk_bI _ | exact retOk_0 | exact retOk_1)) only [eX1_note_0, eX1_note_1, eX1_note_4, eX1_note_5, eX1_note_8, eX1_note_9, eX1_note_10, eX1_note_13, eX1_note_14, eX1_note_15, eX1_note_18, eX1_note_19, eX1_note_20, eX1_note_22, eX1_note_23, eX1_note_26, eX1_note_27, eX1_note_29, eX1_note_30, eX1_note_33, eX1_note_34, eX1_note_35, eX1_note_38, eX1_note_41, p1, h2, r1, e1, k1, k2, WpR_some, Option.toList_some, Option.toList_none, List.cons_append, List.nil_append, List.append_nil, clr_n, clr_i, clr_a, ni_add, ni_mul, ni_sub, ni_lt, ni_le, ni_eq, ni_div, nat_mod_eq, ni_rem, iMax_nn, iMin_nn, iMax_sub, Nat.zero_max, bI_0, bI_1, bI_n0, up2_s, up2_n, up2_k, va_up_self, va_up_ne, ni_l, lN_mul, lN_add, ln_mask, lN_i, ↓reduceIte, if_true, if_false, not_true_eq_false, not_false_eq_true, ite_self, Nat.add_zero, Nat.zero_add, ent_def]
  · have hm : (n + 1) % 8 < 8 := Nat.mod_lt _ (by decide)
    refine ⟨(n + 1) % 8, hm, by rw [up2_k (by decide), up2_s], by rw [up2_s], by omega, fun i hi => ?_⟩
    have hq : ∀ j, ShV m1 (p + 2 + 7 * j) (pushF σ f i) → ShV (up2 (up2 m1 p 1 (nI ((n + 1) % 8))) p 2 (nI (min 8 (k + 1)))) (p + 2 + 7 * j) (pushF σ f i) := fun j h => ShV_fr h (fun b b1 b2 => by rw [up2_n (by omega), up2_n (by omega)])
    apply hq
    cases i with
    | zero =>
      rw [show ((n + 1) % 8 + 7 - 0) % 8 = n by omega]
      exact V1 σ hc
    | succ i =>
      rw [show ((n + 1) % 8 + 7 - (i + 1)) % 8 = (n + 7 - i) % 8 by omega]
      refine ShV_fr (h5 i (by omega)) (fun b b1 b2 => F1 b ?_)
      have : (n + 7 - i) % 8 ≠ n := by omega
      omega
  · intro b hb
    rw [up2_n (by omega), up2_n (by omega)]
    exact F1 b (by omega)
theorem r_X1_takeBack (hP : Pa G p) (hC : Sh G c) (hd : c + 6 < p ∨ p + 57 < c) (hV : PaV m p (k + 1) f) : ∃ m', res mX1_takeBack [.ref p, .ref c] (G, m, ml) = some (some (.int (nI 1)), (G, m', ml)) ∧ PaV m' p k (fun i => f (i + 1)) ∧ ShV m' c (f 0) ∧ (∀ b, (b < c ∨ c + 6 < b) → b ≠ p → m' b = m b) := by
  obtain ⟨p0, p1, p2, p3, p4⟩ := hP
  obtain ⟨n, h1, h2, h3, h4, h5⟩ := hV
  have hm : (n + 7) % 8 < 8 := Nat.mod_lt _ (by decide)
  obtain ⟨r1, hS⟩ := p4 ((n + 7) % 8) hm
  obtain ⟨m1, e1, V1, F1⟩ := r_X3_become (m := up2 (up2 m p 1 (nI ((n + 7) % 8))) p 2 (nI k)) (ml := ml) hC hS (by omega)
  have g0 := hC.1
  refine ⟨m1, ?_, ?_, ?_, ?_⟩
  · apply res_of
    show Wp mX1_takeBack 0 [some (.ref p), some (.ref c)] [] (G, m, ml) _
    have e8 : n + 8 - 1 = n + 7 := by omega
    have hk : ¬ k + 1 = 0 := by omega
    simp (maxSteps := 1000000) (decide := true) (disch := (first | assumption | omega | exact Nat.div_mul_le_self _ _ | exact ni_nz (by omega) (by omega) | exact rfl | exact retOk_bI _ | exact retOk_0 | exact retOk_1)) only [eX1_takeBack_0, eX1_takeBack_1, eX1_takeBack_4, eX1_takeBack_7, eX1_takeBack_8, eX1_takeBack_9, eX1_takeBack_10, eX1_takeBack_11, eX1_takeBack_14, eX1_takeBack_16, eX1_takeBack_17, eX1_takeBack_18, eX1_takeBack_19, eX1_takeBack_21, eX1_takeBack_22, eX1_takeBack_25, eX1_takeBack_26, eX1_takeBack_27, eX1_takeBack_30, eX1_takeBack_31, eX1_takeBack_32, eX1_takeBack_35, eX1_takeBack_36, eX1_takeBack_37, eX1_takeBack_40, eX1_takeBack_41, eX1_takeBack_44, eX1_takeBack_45, eX1_takeBack_48, eX1_takeBack_49, p1, h2, h3, r1, e1, e8, hk, Nat.add_sub_cancel, WpR_some, Option.toList_some, Option.toList_none, List.cons_append, List.nil_append, List.append_nil, clr_n, clr_i, clr_a, ni_add, ni_mul, ni_sub, ni_lt, ni_le, ni_eq, ni_div, nat_mod_eq, ni_rem, iMax_nn, iMin_nn, iMax_sub, Nat.zero_max, bI_0, bI_1, bI_n0, up2_s, up2_n, up2_k, va_up_self, va_up_ne, ni_l, lN_mul, lN_add, ln_mask, lN_i, ↓reduceIte, if_true, if_false, not_true_eq_false, not_false_eq_true, ite_self, Nat.add_zero, Nat.zero_add, ent_def]
  · refine ⟨(n + 7) % 8, hm, by rw [F1 p (by omega), up2_k (by decide), up2_s], by rw [F1 p (by omega), up2_s], by omega, fun i hi => ?_⟩
    rw [show ((n + 7) % 8 + 7 - i) % 8 = (n + 7 - (i + 1)) % 8 by omega]
    have hq : (n + 7 - (i + 1)) % 8 < 8 := Nat.mod_lt _ (by decide)
    exact ShV_fr (h5 (i + 1) (by omega)) (fun b b1 b2 => by rw [F1 b (by omega), up2_n (by omega), up2_n (by omega)])
  · apply V1
    have := h5 0 (by omega)
    rw [Nat.sub_zero] at this
    exact ShV_fr this (fun b b1 b2 => by rw [up2_n (by omega), up2_n (by omega)])
  · intro b hb hbp
    rw [F1 b hb, up2_n hbp, up2_n hbp]
theorem r_X1_takeBack0 (hp : atg G p = 11) (hV : PaV m p 0 f) : res mX1_takeBack [.ref p, .ref c] (G, m, ml) = some (some (.int (nI 0)), (G, m, ml)) := by
  obtain ⟨n, h1, h2, h3, h4, h5⟩ := hV
  apply res_of
  show Wp mX1_takeBack 0 [some (.ref p), some (.ref c)] [] (G, m, ml) _
  simp (maxSteps := 1000000) (decide := true) (disch := (first | assumption | omega | exact Nat.div_mul_le_self _ _ | exact ni_nz (by omega) (by omega) | exact rfl | exact retOk_bI _ | exact retOk_0 | exact retOk_1)) only [eX1_takeBack_0, eX1_takeBack_1, eX1_takeBack_4, eX1_takeBack_7, eX1_takeBack_8, eX1_takeBack_9, eX1_takeBack_10, eX1_takeBack_11, eX1_takeBack_14, eX1_takeBack_16, eX1_takeBack_17, eX1_takeBack_18, eX1_takeBack_19, eX1_takeBack_21, eX1_takeBack_22, eX1_takeBack_25, eX1_takeBack_26, eX1_takeBack_27, eX1_takeBack_30, eX1_takeBack_31, eX1_takeBack_32, eX1_takeBack_35, eX1_takeBack_36, eX1_takeBack_37, eX1_takeBack_40, eX1_takeBack_41, eX1_takeBack_44, eX1_takeBack_45, eX1_takeBack_48, eX1_takeBack_49, h3, WpR_some, Option.toList_some, Option.toList_none, List.cons_append, List.nil_append, List.append_nil, clr_n, clr_i, clr_a, ni_add, ni_mul, ni_sub, ni_lt, ni_le, ni_eq, ni_div, nat_mod_eq, ni_rem, iMax_nn, iMin_nn, iMax_sub, Nat.zero_max, bI_0, bI_1, bI_n0, up2_s, up2_n, up2_k, va_up_self, va_up_ne, ni_l, lN_mul, lN_add, ln_mask, lN_i, ↓reduceIte, if_true, if_false, not_true_eq_false, not_false_eq_true, ite_self, Nat.add_zero, Nat.zero_add, ent_def]
theorem r_X1_become {q : Nat} (hP : Pa G p) (hC : Pa G q) (hd : q + 57 < p ∨ p + 57 < q) (hV : PaV m q k f) : ∃ m', res mX1_become [.ref p, .ref q] (G, m, ml) = some (none, (G, m', ml)) ∧ PaV m' p k f ∧ (∀ b, b < p ∨ p + 57 < b → m' b = m b) := by
  obtain ⟨p0, p1, p2, p3, p4⟩ := hP
  obtain ⟨q0, q1, q2, q3, q4⟩ := hC
  obtain ⟨n, h1, h2, h3, h4, h5⟩ := hV
  have key : Wp mX1_become 0 (ent [.ref p, .ref q] 3) [] (G, m, ml) (fun r μ' => ∃ m', r = none ∧ μ' = (G, m', ml) ∧ PaV m' p k f ∧ (∀ b, b < p ∨ p + 57 < b → m' b = m b)) := by
    show Wp mX1_become 0 [some (.ref p), some (.ref q), none] [] (G, m, ml) _
    generalize hQ : (fun (r : Option Value) (μ' : Mm) => ∃ m', r = none ∧ μ' = (G, m', ml) ∧ PaV m' p k f ∧ (∀ b, b < p ∨ p + 57 < b → m' b = m b)) = Q
    simp (maxSteps := 1000000) (decide := true) (disch := (first | assumption | omega | exact Nat.div_mul_le_self _ _ | exact ni_nz (by omega) (by omega) | exact rfl | exact retOk_bI _ | exact retOk_0 | exact retOk_1)) only [eX1_become_0, eX1_become_1, eX1_become_2, eX1_become_5, eX1_become_8, eX1_become_9, eX1_become_10, eX1_become_13, eX1_become_16, eX1_become_17, eX1_become_19, eX1_become_21, eX1_become_24, eX1_become_25, eX1_become_28, eX1_become_29, eX1_become_30, eX1_become_31, eX1_become_34, eX1_become_35, eX1_become_36, eX1_become_39, eX1_become_42, eX1_become_45, h2, h3, WpR_some, Option.toList_some, Option.toList_none, List.cons_append, List.nil_append, List.append_nil, clr_n, clr_i, clr_a, ni_add, ni_mul, ni_sub, ni_lt, ni_le, ni_eq, ni_div, nat_mod_eq, ni_rem, iMax_nn, iMin_nn, iMax_sub, Nat.zero_max, bI_0, bI_1, bI_n0, up2_s, up2_n, up2_k, va_up_self, va_up_ne, ni_l, lN_mul, lN_add, ln_mask, lN_i, ↓reduceIte, if_true, if_false, not_true_eq_false, not_false_eq_true, ite_self, Nat.add_zero, Nat.zero_add, ent_def]
    refine wp_for (X := Unit) (fun i z => [some (.ref p), some (.ref q), some (.int (nI i))]) (fun i z μ => ∃ m1, μ = (G, m1, ml) ∧ m1 p 1 = nI n ∧ m1 p 2 = nI k ∧ (∀ j, j < i → ∀ σ, ShV m (q + 2 + 7 * j) σ → ShV m1 (p + 2 + 7 * j) σ) ∧ (∀ b, b < p ∨ p + 57 < b → m1 b = m b)) 8 ?_ ?_ 0 () _ (Nat.zero_le _) ⟨_, rfl, by rw [up2_k (by decide), up2_s], by rw [up2_s], fun j hj => absurd hj (Nat.not_lt_zero _), fun b hb => by rw [up2_n (by omega), up2_n (by omega)]⟩
    · rintro i - μ hi ⟨m1, rfl, k1, k2, V1, F1⟩ kk
      obtain ⟨r1, hS⟩ := p4 i hi
      obtain ⟨r2, hS2⟩ := q4 i hi
      obtain ⟨m2, e2, V2, F2⟩ := r_X3_become (m := m1) (ml := ml) hS hS2 (by omega)
      have g0 := hS.1
      have hlt : ¬ 8 ≤ i := by omega
      rw [eX1_become_18]
      simp (maxSteps := 1000000) (decide := true) (disch := (first | assumption | omega | exact Nat.div_mul_le_self _ _ | exact ni_nz (by omega) (by omega) | exact rfl | exact retOk_bI _ | exact retOk_0 | exact retOk_1)) only [eX1_become_0, eX1_become_1, eX1_become_2, eX1_become_5, eX1_become_8, eX1_become_9, eX1_become_10, eX1_become_13, eX1_become_16, eX1_become_17, eX1_become_19, eX1_become_21, eX1_become_24, eX1_become_25, eX1_become_28, eX1_become_29, eX1_become_30, eX1_become_31, eX1_become_34, eX1_become_35, eX1_become_36, eX1_become_39, eX1_become_42, eX1_become_45, p1, q1, r1, r2, e2, hlt, WpR_some, Option.toList_some, Option.toList_none, List.cons_append, List.nil_append, List.append_nil, clr_n, clr_i, clr_a, ni_add, ni_mul, ni_sub, ni_lt, ni_le, ni_eq, ni_div, nat_mod_eq, ni_rem, iMax_nn, iMin_nn, iMax_sub, Nat.zero_max, bI_0, bI_1, bI_n0, up2_s, up2_n, up2_k, va_up_self, va_up_ne, ni_l, lN_mul, lN_add, ln_mask, lN_i, ↓reduceIte, if_true, if_false, not_true_eq_false, not_false_eq_true, ite_self, Nat.add_zero, Nat.zero_add, ent_def]
      refine kk () _ ⟨m2, rfl, by rw [F2 p (by omega)]; exact k1, by rw [F2 p (by omega)]; exact k2, ?_, fun b hb => by rw [F2 b (by omega)]; exact F1 b hb⟩
      intro j hj σ hσ
      by_cases hji : j = i
      · subst hji
        exact V2 σ (ShV_fr hσ (fun b b1 b2 => F1 b (by omega)))
      · exact ShV_fr (V1 j (by omega) σ hσ) (fun b b1 b2 => F2 b (by omega))
    · rintro - μ ⟨m1, rfl, k1, k2, V1, F1⟩
      rw [eX1_become_18]
      simp (maxSteps := 1000000) (decide := true) (disch := (first | assumption | omega | exact Nat.div_mul_le_self _ _ | exact ni_nz (by omega) (by omega) | exact rfl | exact retOk_bI _ | exact retOk_0 | exact retOk_1)) only [eX1_become_0, eX1_become_1, eX1_become_2, eX1_become_5, eX1_become_8, eX1_become_9, eX1_become_10, eX1_become_13, eX1_become_16, eX1_become_17, eX1_become_19, eX1_become_21, eX1_become_24, eX1_become_25, eX1_become_28, eX1_become_29, eX1_become_30, eX1_become_31, eX1_become_34, eX1_become_35, eX1_become_36, eX1_become_39, eX1_become_42, eX1_become_45, Nat.le_refl, WpR_some, Option.toList_some, Option.toList_none, List.cons_append, List.nil_append, List.append_nil, clr_n, clr_i, clr_a, ni_add, ni_mul, ni_sub, ni_lt, ni_le, ni_eq, ni_div, nat_mod_eq, ni_rem, iMax_nn, iMin_nn, iMax_sub, Nat.zero_max, bI_0, bI_1, bI_n0, up2_s, up2_n, up2_k, va_up_self, va_up_ne, ni_l, lN_mul, lN_add, ln_mask, lN_i, ↓reduceIte, if_true, if_false, not_true_eq_false, not_false_eq_true, ite_self, Nat.add_zero, Nat.zero_add, ent_def]
      rw [← hQ]
      exact ⟨m1, rfl, rfl, ⟨n, h1, k1, k2, h4, fun i hi => V1 _ (Nat.mod_lt _ (by decide)) _ (h5 i hi)⟩, F1⟩
  obtain ⟨r, μ', e1, m', rfl, rfl, h2, h3⟩ := res_ex key
  exact ⟨m', e1, h2, h3⟩
end PAS
