/-- a loop: its counter, what else its locals hold, its memory -/
theorem wp_for {M : MI} {pc : Nat} {Q : Option Value → Mm → Prop} {X : Type} (L : Nat → X → Ls) (I : Nat → X → Mm → Prop) (e : Nat)
    (hstep : ∀ (i : Nat) (x : X) (μ : Mm), i < e → I i x μ → (∀ (x' : X) (μ' : Mm), I (i + 1) x' μ' → Wp M pc (L (i + 1) x') [] μ' Q) → Wp M pc (L i x) [] μ Q)
    (hend : ∀ (x : X) (μ : Mm), I e x μ → Wp M pc (L e x) [] μ Q) (i : Nat) (x : X) (μ : Mm) (hi : i ≤ e) (h : I i x μ) : Wp M pc (L i x) [] μ Q := by
  obtain ⟨d, hd⟩ : ∃ d, d = e - i := ⟨_, rfl⟩
  induction d generalizing i x μ with
  | zero =>
    have : i = e := by omega
    subst this
    exact hend x μ h
  | succ d ih => exact hstep i x μ (by omega) h (fun x' μ' h' => ih (i + 1) x' μ' (by omega) h' (by omega))
def TlV (m : Nat → Nat → Int32) (b x y : Nat) : Prop := m b 0 = nI x ∧ m b 1 = nI y
section TLY
variable {G : List AT} {m : Nat → Nat → Int32} {ml : Nat → Nat → Int64} {a b n s h t ke kl x y o : Nat} {σ : Nat → Nat} {π : Nat → Nat}
theorem r_X4_note (hb : atg G b = 14) (hT : TlV m b x y) (ho : o ≤ 2) : ∃ m', res mX4_note [.ref b, .int (nI o)] (G, m, ml) = some (none, (G, m', ml)) ∧ TlV m' b (x + if o = 1 then 1 else 0) (y + if o = 2 then 1 else 0) ∧ ∀ c, c ≠ b → m' c = m c := by
  obtain ⟨t0, t1⟩ := hT
  rcases (show o = 0 ∨ o = 1 ∨ o = 2 by omega) with rfl | rfl | rfl
  · refine ⟨m, ?_, ⟨t0, t1⟩, fun _ _ => rfl⟩
    apply res_of
    show Wp mX4_note 0 [some (.ref b), some (.int (nI 0))] [] (G, m, ml) _
    simp (maxSteps := 1000000) (decide := true) (disch := (first | assumption | omega | exact Nat.div_mul_le_self _ _ | exact ni_nz (by omega) (by omega) | exact rfl | exact retOk_bI _ | exact retOk_0 | exact retOk_1)) only [eX4_note_0, eX4_note_1, eX4_note_2, eX4_note_5, eX4_note_6, eX4_note_7, eX4_note_10, eX4_note_11, eX4_note_12, eX4_note_15, eX4_note_18, eX4_note_19, eX4_note_20, eX4_note_23, eX4_note_24, eX4_note_25, eX4_note_28, eX4_note_29, eX4_note_30, eX4_note_33, WpR_some, Option.toList_some, Option.toList_none, List.cons_append, List.nil_append, List.append_nil, clr_n, clr_i, clr_a, ni_add, ni_mul, ni_sub, ni_lt, ni_le, ni_eq, ni_div, nat_mod_eq, ni_rem, iMax_nn, iMin_nn, iMax_sub, Nat.zero_max, bI_0, bI_1, bI_n0, up2_s, up2_n, up2_k, ni_l, lN_mul, lN_add, ln_mask, lN_i, ↓reduceIte, if_true, if_false, not_true_eq_false, not_false_eq_true, ite_self, Nat.add_zero, Nat.zero_add, ent_def]
  · refine ⟨up2 m b 0 (nI (x + 1)), ?_, ⟨by rw [up2_s]; rfl, by rw [up2_k (by decide)]; exact t1⟩, fun c hc => up2_n hc⟩
    apply res_of
    show Wp mX4_note 0 [some (.ref b), some (.int (nI 1))] [] (G, m, ml) _
    simp (maxSteps := 1000000) (decide := true) (disch := (first | assumption | omega | exact Nat.div_mul_le_self _ _ | exact ni_nz (by omega) (by omega) | exact rfl | exact retOk_bI _ | exact retOk_0 | exact retOk_1)) only [eX4_note_0, eX4_note_1, eX4_note_2, eX4_note_5, eX4_note_6, eX4_note_7, eX4_note_10, eX4_note_11, eX4_note_12, eX4_note_15, eX4_note_18, eX4_note_19, eX4_note_20, eX4_note_23, eX4_note_24, eX4_note_25, eX4_note_28, eX4_note_29, eX4_note_30, eX4_note_33, t0, WpR_some, Option.toList_some, Option.toList_none, List.cons_append, List.nil_append, List.append_nil, clr_n, clr_i, clr_a, ni_add, ni_mul, ni_sub, ni_lt, ni_le, ni_eq, ni_div, nat_mod_eq, ni_rem, iMax_nn, iMin_nn, iMax_sub, Nat.zero_max, bI_0, bI_1, bI_n0, up2_s, up2_n, up2_k, ni_l, lN_mul, lN_add, ln_mask, lN_i, ↓reduceIte, if_true, if_false, not_true_eq_false, not_false_eq_true, ite_self, Nat.add_zero, Nat.zero_add, ent_def]
  · refine ⟨up2 m b 1 (nI (y + 1)), ?_, ⟨by rw [up2_k (by decide)]; exact t0, by rw [up2_s]; rfl⟩, fun c hc => up2_n hc⟩
    apply res_of
    show Wp mX4_note 0 [some (.ref b), some (.int (nI 2))] [] (G, m, ml) _
    simp (maxSteps := 1000000) (decide := true) (disch := (first | assumption | omega | exact Nat.div_mul_le_self _ _ | exact ni_nz (by omega) (by omega) | exact rfl | exact retOk_bI _ | exact retOk_0 | exact retOk_1)) only [eX4_note_0, eX4_note_1, eX4_note_2, eX4_note_5, eX4_note_6, eX4_note_7, eX4_note_10, eX4_note_11, eX4_note_12, eX4_note_15, eX4_note_18, eX4_note_19, eX4_note_20, eX4_note_23, eX4_note_24, eX4_note_25, eX4_note_28, eX4_note_29, eX4_note_30, eX4_note_33, t1, WpR_some, Option.toList_some, Option.toList_none, List.cons_append, List.nil_append, List.append_nil, clr_n, clr_i, clr_a, ni_add, ni_mul, ni_sub, ni_lt, ni_le, ni_eq, ni_div, nat_mod_eq, ni_rem, iMax_nn, iMin_nn, iMax_sub, Nat.zero_max, bI_0, bI_1, bI_n0, up2_s, up2_n, up2_k, ni_l, lN_mul, lN_add, ln_mask, lN_i, ↓reduceIte, if_true, if_false, not_true_eq_false, not_false_eq_true, ite_self, Nat.add_zero, Nat.zero_add, ent_def]
theorem r_X4_clear (hb : atg G b = 14) : res mX4_clear [.ref b] (G, m, ml) = some (none, (G, up2 (up2 m b 0 (nI 0)) b 1 (nI 0), ml)) := by
  apply res_of
  show Wp mX4_clear 0 [some (.ref b)] [] (G, m, ml) _
  simp (maxSteps := 1000000) (decide := true) (disch := (first | assumption | omega | exact Nat.div_mul_le_self _ _ | exact ni_nz (by omega) (by omega) | exact rfl | exact retOk_bI _ | exact retOk_0 | exact retOk_1)) only [eX4_clear_0, eX4_clear_1, eX4_clear_2, eX4_clear_5, eX4_clear_6, eX4_clear_7, eX4_clear_10, WpR_some, Option.toList_some, Option.toList_none, List.cons_append, List.nil_append, List.append_nil, clr_n, clr_i, clr_a, ni_add, ni_mul, ni_sub, ni_lt, ni_le, ni_eq, ni_div, nat_mod_eq, ni_rem, iMax_nn, iMin_nn, iMax_sub, Nat.zero_max, bI_0, bI_1, bI_n0, up2_s, up2_n, up2_k, ni_l, lN_mul, lN_add, ln_mask, lN_i, ↓reduceIte, if_true, if_false, not_true_eq_false, not_false_eq_true, ite_self, Nat.add_zero, Nat.zero_add, ent_def]
theorem TlV_clear : TlV (up2 (up2 m b 0 (nI 0)) b 1 (nI 0)) b 0 0 := ⟨by rw [up2_k (by decide), up2_s], by rw [up2_s]⟩
theorem r_X4_become {c : Nat} (hb : atg G b = 14) (hc : atg G c = 14) : res mX4_become [.ref b, .ref c] (G, m, ml) = some (none, (G, up2 (up2 m b 0 (m c 0)) b 1 (up2 m b 0 (m c 0) c 1), ml)) := by
  apply res_of
  show Wp mX4_become 0 [some (.ref b), some (.ref c)] [] (G, m, ml) _
  simp (maxSteps := 1000000) (decide := true) (disch := (first | assumption | omega | exact Nat.div_mul_le_self _ _ | exact ni_nz (by omega) (by omega) | exact rfl | exact retOk_bI _ | exact retOk_0 | exact retOk_1)) only [eX4_become_0, eX4_become_1, eX4_become_2, eX4_become_5, eX4_become_8, eX4_become_9, eX4_become_10, eX4_become_13, eX4_become_16, WpR_some, Option.toList_some, Option.toList_none, List.cons_append, List.nil_append, List.append_nil, clr_n, clr_i, clr_a, ni_add, ni_mul, ni_sub, ni_lt, ni_le, ni_eq, ni_div, nat_mod_eq, ni_rem, iMax_nn, iMin_nn, iMax_sub, Nat.zero_max, bI_0, bI_1, bI_n0, up2_s, up2_n, up2_k, ni_l, lN_mul, lN_add, ln_mask, lN_i, ↓reduceIte, if_true, if_false, not_true_eq_false, not_false_eq_true, ite_self, Nat.add_zero, Nat.zero_add, ent_def]
theorem r_X4_beats {c z w : Nat} (hb : atg G b = 14) (hc : atg G c = 14) (hT : TlV m b x y) (hU : TlV m c z w) (h1 : x < 1000000) (h2 : y < 1000000) (h3 : z < 1000000) (h4 : w < 1000000) : res mX4_beats [.ref b, .ref c] (G, m, ml) = some (some (.int (bI (decide (z < x ∨ x = z ∧ y < w)))), (G, m, ml)) := by
  obtain ⟨t0, t1⟩ := hT
  obtain ⟨u0, u1⟩ := hU
  apply res_of
  show Wp mX4_beats 0 [some (.ref b), some (.ref c)] [] (G, m, ml) _
  by_cases c1 : z < x
  · simp (maxSteps := 1000000) (decide := true) (disch := (first | assumption | omega | exact Nat.div_mul_le_self _ _ | exact ni_nz (by omega) (by omega) | exact rfl | exact retOk_bI _ | exact retOk_0 | exact retOk_1)) only [eX4_beats_0, eX4_beats_1, eX4_beats_4, eX4_beats_5, eX4_beats_8, eX4_beats_11, eX4_beats_12, eX4_beats_15, eX4_beats_16, eX4_beats_19, eX4_beats_22, eX4_beats_23, eX4_beats_26, eX4_beats_27, eX4_beats_30, eX4_beats_33, eX4_beats_34, eX4_beats_37, eX4_beats_38, t0, t1, u0, u1, c1, WpR_some, Option.toList_some, Option.toList_none, List.cons_append, List.nil_append, List.append_nil, clr_n, clr_i, clr_a, ni_add, ni_mul, ni_sub, ni_lt, ni_le, ni_eq, ni_div, nat_mod_eq, ni_rem, iMax_nn, iMin_nn, iMax_sub, Nat.zero_max, bI_0, bI_1, bI_n0, up2_s, up2_n, up2_k, ni_l, lN_mul, lN_add, ln_mask, lN_i, ↓reduceIte, if_true, if_false, not_true_eq_false, not_false_eq_true, ite_self, Nat.add_zero, Nat.zero_add, ent_def]
    simp [bI]
  · by_cases c2 : x = z
    · by_cases c3 : y < w
      · have c3' : ¬ w ≤ y := by omega
        simp (maxSteps := 1000000) (decide := true) (disch := (first | assumption | omega | exact Nat.div_mul_le_self _ _ | exact ni_nz (by omega) (by omega) | exact rfl | exact retOk_bI _ | exact retOk_0 | exact retOk_1)) only [eX4_beats_0, eX4_beats_1, eX4_beats_4, eX4_beats_5, eX4_beats_8, eX4_beats_11, eX4_beats_12, eX4_beats_15, eX4_beats_16, eX4_beats_19, eX4_beats_22, eX4_beats_23, eX4_beats_26, eX4_beats_27, eX4_beats_30, eX4_beats_33, eX4_beats_34, eX4_beats_37, eX4_beats_38, t0, t1, u0, u1, c1, c2, c3, c3', WpR_some, Option.toList_some, Option.toList_none, List.cons_append, List.nil_append, List.append_nil, clr_n, clr_i, clr_a, ni_add, ni_mul, ni_sub, ni_lt, ni_le, ni_eq, ni_div, nat_mod_eq, ni_rem, iMax_nn, iMin_nn, iMax_sub, Nat.zero_max, bI_0, bI_1, bI_n0, up2_s, up2_n, up2_k, ni_l, lN_mul, lN_add, ln_mask, lN_i, ↓reduceIte, if_true, if_false, not_true_eq_false, not_false_eq_true, ite_self, Nat.add_zero, Nat.zero_add, ent_def]
        simp [bI]
      · have c3' : w ≤ y := by omega
        simp (maxSteps := 1000000) (decide := true) (disch := (first | assumption | omega | exact Nat.div_mul_le_self _ _ | exact ni_nz (by omega) (by omega) | exact rfl | exact retOk_bI _ | exact retOk_0 | exact retOk_1)) only [eX4_beats_0, eX4_beats_1, eX4_beats_4, eX4_beats_5, eX4_beats_8, eX4_beats_11, eX4_beats_12, eX4_beats_15, eX4_beats_16, eX4_beats_19, eX4_beats_22, eX4_beats_23, eX4_beats_26, eX4_beats_27, eX4_beats_30, eX4_beats_33, eX4_beats_34, eX4_beats_37, eX4_beats_38, t0, t1, u0, u1, c1, c2, c3, c3', WpR_some, Option.toList_some, Option.toList_none, List.cons_append, List.nil_append, List.append_nil, clr_n, clr_i, clr_a, ni_add, ni_mul, ni_sub, ni_lt, ni_le, ni_eq, ni_div, nat_mod_eq, ni_rem, iMax_nn, iMin_nn, iMax_sub, Nat.zero_max, bI_0, bI_1, bI_n0, up2_s, up2_n, up2_k, ni_l, lN_mul, lN_add, ln_mask, lN_i, ↓reduceIte, if_true, if_false, not_true_eq_false, not_false_eq_true, ite_self, Nat.add_zero, Nat.zero_add, ent_def]
        simp [bI]
    · simp (maxSteps := 1000000) (decide := true) (disch := (first | assumption | omega | exact Nat.div_mul_le_self _ _ | exact ni_nz (by omega) (by omega) | exact rfl | exact retOk_bI _ | exact retOk_0 | exact retOk_1)) only [eX4_beats_0, eX4_beats_1, eX4_beats_4, eX4_beats_5, eX4_beats_8, eX4_beats_11, eX4_beats_12, eX4_beats_15, eX4_beats_16, eX4_beats_19, eX4_beats_22, eX4_beats_23, eX4_beats_26, eX4_beats_27, eX4_beats_30, eX4_beats_33, eX4_beats_34, eX4_beats_37, eX4_beats_38, t0, t1, u0, u1, c1, c2, WpR_some, Option.toList_some, Option.toList_none, List.cons_append, List.nil_append, List.append_nil, clr_n, clr_i, clr_a, ni_add, ni_mul, ni_sub, ni_lt, ni_le, ni_eq, ni_div, nat_mod_eq, ni_rem, iMax_nn, iMin_nn, iMax_sub, Nat.zero_max, bI_0, bI_1, bI_n0, up2_s, up2_n, up2_k, ni_l, lN_mul, lN_add, ln_mask, lN_i, ↓reduceIte, if_true, if_false, not_true_eq_false, not_false_eq_true, ite_self, Nat.add_zero, Nat.zero_add, ent_def]
      simp [bI]
def evS (π : Nat → Nat) (x : Nat) (σ : Nat → Nat) : Nat → Nat → Nat
  | 0 => σ
  | n + 1 => if n = x then evS π x σ n else sit π (evS π x σ n) n
def evH (π : Nat → Nat) (x : Nat) (σ : Nat → Nat) : Nat → Nat
  | 0 => 0
  | n + 1 => evH π x σ n + if n ≠ x ∧ sitO π (evS π x σ n) n = 1 then 1 else 0
def evL (π : Nat → Nat) (x : Nat) (σ : Nat → Nat) : Nat → Nat
  | 0 => 0
  | n + 1 => evL π x σ n + if n ≠ x ∧ sitO π (evS π x σ n) n = 2 then 1 else 0
theorem evS_fix {i : Nat} (hi : i = 40 ∨ i = 41 ∨ i = 42 ∨ i = 43 ∨ i = 44 ∨ i = 45 ∨ 46 ≤ i ∨ (5 ≤ i ∧ i < 10)) (hp : σ 44 ≤ 5) (hπ : ∀ j, j < 5 → π j < 5) : ∀ n, n ≤ 5 → evS π x σ n i = σ i := by
  intro n
  induction n generalizing i with
  | zero => intro _; rfl
  | succ n ih =>
    intro hn
    unfold evS
    split
    · exact ih hi (by omega)
    · rw [sit_fix hi (by omega) (by rw [ih (by omega) (by omega)]; exact hp) hπ]
      exact ih hi (by omega)
theorem Bk_evS (hB : Bk ke (kl + 5) σ) (hπ : ∀ j, j < 5 → π j < 5) : ∀ n, n ≤ σ 45 → Bk ke (kl + (5 - n)) (evS π x σ n) := by
  intro n
  have h45 := hB.1.2.1
  induction n with
  | zero => intro _; exact hB
  | succ n ih =>
    intro hn
    have hB1 := ih (by omega)
    unfold evS
    split
    · exact Bk_mono hB1 (Nat.le_refl _) (by omega)
    · refine Bk_sit (Bk_mono hB1 (Nat.le_refl _) (by omega)) ?_ hπ
      rw [evS_fix (by omega) hB.1.1 hπ n (by omega)]
      omega
theorem evHL_le (n : Nat) : evH π x σ n ≤ n ∧ evL π x σ n ≤ n := by
  induction n with
  | zero => exact ⟨Nat.le_refl _, Nat.le_refl _⟩
  | succ n ih =>
    unfold evH evL
    constructor
    · split <;> omega
    · split <;> omega
theorem sitO_le (h : Nat) : sitO π σ h ≤ 2 := by
  unfold sitO
  split
  · split <;> omega
  · omega
/-- an evening of all but x -/
theorem r_X3_passEvening {ab : Int32} {hd lk : Nat} (hS : Sh G a) (hb : atg G b = 14) (hba : b < a ∨ a + 6 < b) (hV : ShV m a σ) (hT : TlV m b hd lk) (hB : Bk (ke + 1) (kl + 5) σ) (hab : ∀ n, n < 5 → (nI n = ab) = (n = x)) :
    ∃ m', res mX3_passEvening [.ref a, .int ab, .ref b] (G, m, ml) = some (none, (G, m', ml)) ∧ ShV m' a (gon (evS id x σ (σ 45))) ∧ TlV m' b (hd + evH id x σ (σ 45)) (lk + evL id x σ (σ 45)) ∧ ∀ c, (c < a ∨ a + 6 < c) → c ≠ b → m' c = m c := by
  have h45 := hB.1.2.1
  have s0 := hS.1
  have key : Wp mX3_passEvening 0 (ent [.ref a, .int ab, .ref b] 4) [] (G, m, ml) (fun r μ' => ∃ m', r = none ∧ μ' = (G, m', ml) ∧ ShV m' a (gon (evS id x σ (σ 45))) ∧ TlV m' b (hd + evH id x σ (σ 45)) (lk + evL id x σ (σ 45)) ∧ ∀ c, (c < a ∨ a + 6 < c) → c ≠ b → m' c = m c) := by
    show Wp mX3_passEvening 0 [some (.ref a), some (.int ab), some (.ref b), none] [] (G, m, ml) _
    generalize hQ : (fun (r : Option Value) (μ' : Mm) => ∃ m', r = none ∧ μ' = (G, m', ml) ∧ ShV m' a (gon (evS id x σ (σ 45))) ∧ TlV m' b (hd + evH id x σ (σ 45)) (lk + evL id x σ (σ 45)) ∧ ∀ c, (c < a ∨ a + 6 < c) → c ≠ b → m' c = m c) = Q
    simp (maxSteps := 1000000) (decide := true) (disch := (first | assumption | omega | exact Nat.div_mul_le_self _ _ | exact ni_nz (by omega) (by omega) | exact rfl | exact retOk_bI _ | exact retOk_0 | exact retOk_1)) only [eX3_passEvening_0, eX3_passEvening_1, eX3_passEvening_3, eX3_passEvening_4, eX3_passEvening_7, eX3_passEvening_10, eX3_passEvening_11, eX3_passEvening_12, eX3_passEvening_15, eX3_passEvening_16, eX3_passEvening_17, eX3_passEvening_18, eX3_passEvening_21, eX3_passEvening_24, eX3_passEvening_27, eX3_passEvening_30, eX3_passEvening_31, eX3_passEvening_34, WpR_some, Option.toList_some, Option.toList_none, List.cons_append, List.nil_append, List.append_nil, clr_n, clr_i, clr_a, ni_add, ni_mul, ni_sub, ni_lt, ni_le, ni_eq, ni_div, nat_mod_eq, ni_rem, iMax_nn, iMin_nn, iMax_sub, Nat.zero_max, bI_0, bI_1, bI_n0, up2_s, up2_n, up2_k, ni_l, lN_mul, lN_add, ln_mask, lN_i, ↓reduceIte, if_true, if_false, not_true_eq_false, not_false_eq_true, ite_self, Nat.add_zero, Nat.zero_add, ent_def]
    refine wp_for (X := Unit) (fun i _ => [some (.ref a), some (.int ab), some (.ref b), some (.int (nI i))]) (fun i _ μ => ∃ m1, μ = (G, m1, ml) ∧ ShV m1 a (evS id x σ i) ∧ TlV m1 b (hd + evH id x σ i) (lk + evL id x σ i) ∧ ∀ c, (c < a ∨ a + 6 < c) → c ≠ b → m1 c = m c) (σ 45) ?_ ?_ 0 () _ (Nat.zero_le _) ⟨m, rfl, hV, hT, fun _ _ _ => rfl⟩
    · rintro i - μ hi ⟨m1, rfl, V1, T1, F1⟩ kk
      have hB1 := Bk_evS (x := x) hB (π := id) (fun j hj => hj) i (by omega)
      have e45 : evS id x σ i 45 = σ 45 := evS_fix (by omega) hB.1.1 (fun j hj => hj) i (by omega)
      have v1 := (ShV_old V1).1.2.1
      rw [e45] at v1
      have hlt : ¬ σ 45 ≤ i := by omega
      by_cases hx : i = x
      · have hx2 : (nI i = ab) = True := by rw [hab i (by omega)]; exact eq_true hx
        rw [eX3_passEvening_2]
        simp (maxSteps := 1000000) (decide := true) (disch := (first | assumption | omega | exact Nat.div_mul_le_self _ _ | exact ni_nz (by omega) (by omega) | exact rfl | exact retOk_bI _ | exact retOk_0 | exact retOk_1)) only [eX3_passEvening_0, eX3_passEvening_1, eX3_passEvening_3, eX3_passEvening_4, eX3_passEvening_7, eX3_passEvening_10, eX3_passEvening_11, eX3_passEvening_12, eX3_passEvening_15, eX3_passEvening_16, eX3_passEvening_17, eX3_passEvening_18, eX3_passEvening_21, eX3_passEvening_24, eX3_passEvening_27, eX3_passEvening_30, eX3_passEvening_31, eX3_passEvening_34, v1, hx2, hlt, WpR_some, Option.toList_some, Option.toList_none, List.cons_append, List.nil_append, List.append_nil, clr_n, clr_i, clr_a, ni_add, ni_mul, ni_sub, ni_lt, ni_le, ni_eq, ni_div, nat_mod_eq, ni_rem, iMax_nn, iMin_nn, iMax_sub, Nat.zero_max, bI_0, bI_1, bI_n0, up2_s, up2_n, up2_k, ni_l, lN_mul, lN_add, ln_mask, lN_i, ↓reduceIte, if_true, if_false, not_true_eq_false, not_false_eq_true, ite_self, Nat.add_zero, Nat.zero_add, ent_def]
        refine kk () _ ⟨m1, rfl, ?_, ?_, F1⟩
        · unfold evS; rw [if_pos hx]; exact V1
        · unfold evH evL; rw [if_neg (fun q => q.1 hx), if_neg (fun q => q.1 hx)]; exact T1
      · have hx2 : (nI i = ab) = False := by rw [hab i (by omega)]; exact eq_false hx
        obtain ⟨m2, e2, V2, F2⟩ := r_X3_sitThrough (ml := ml) hS V1 hB1.1 (h := i) (by rw [e45]; exact hi)
        have T2 : TlV m2 b (hd + evH id x σ i) (lk + evL id x σ i) := by
          unfold TlV
          rw [F2 b (by omega)]
          exact T1
        obtain ⟨m3, e3, T3, F3⟩ := r_X4_note (ml := ml) hb T2 (sitO_le (π := id) (σ := evS id x σ i) i)
        rw [eX3_passEvening_2]
        simp (maxSteps := 1000000) (decide := true) (disch := (first | assumption | omega | exact Nat.div_mul_le_self _ _ | exact ni_nz (by omega) (by omega) | exact rfl | exact retOk_bI _ | exact retOk_0 | exact retOk_1)) only [eX3_passEvening_0, eX3_passEvening_1, eX3_passEvening_3, eX3_passEvening_4, eX3_passEvening_7, eX3_passEvening_10, eX3_passEvening_11, eX3_passEvening_12, eX3_passEvening_15, eX3_passEvening_16, eX3_passEvening_17, eX3_passEvening_18, eX3_passEvening_21, eX3_passEvening_24, eX3_passEvening_27, eX3_passEvening_30, eX3_passEvening_31, eX3_passEvening_34, v1, hx2, hlt, e2, e3, WpR_some, Option.toList_some, Option.toList_none, List.cons_append, List.nil_append, List.append_nil, clr_n, clr_i, clr_a, ni_add, ni_mul, ni_sub, ni_lt, ni_le, ni_eq, ni_div, nat_mod_eq, ni_rem, iMax_nn, iMin_nn, iMax_sub, Nat.zero_max, bI_0, bI_1, bI_n0, up2_s, up2_n, up2_k, ni_l, lN_mul, lN_add, ln_mask, lN_i, ↓reduceIte, if_true, if_false, not_true_eq_false, not_false_eq_true, ite_self, Nat.add_zero, Nat.zero_add, ent_def]
        refine kk () _ ⟨m3, rfl, ?_, ?_, ?_⟩
        · unfold evS; rw [if_neg hx]; exact ShV_fr V2 (fun c h1 h2 => F3 c (by omega))
        · unfold evH evL
          have q1 : (if i ≠ x ∧ sitO id (evS id x σ i) i = 1 then 1 else 0) = if sitO id (evS id x σ i) i = 1 then 1 else 0 := by simp [hx]
          have q2 : (if i ≠ x ∧ sitO id (evS id x σ i) i = 2 then 1 else 0) = if sitO id (evS id x σ i) i = 2 then 1 else 0 := by simp [hx]
          rw [q1, q2, ← Nat.add_assoc, ← Nat.add_assoc]
          exact T3
        · intro c h1 h2
          rw [F3 c h2, F2 c (by omega)]
          exact F1 c h1 h2
    · rintro - μ ⟨m1, rfl, V1, T1, F1⟩
      have hB1 := Bk_evS (x := x) hB (π := id) (fun j hj => hj) (σ 45) (Nat.le_refl _)
      have e45 : evS id x σ (σ 45) 45 = σ 45 := evS_fix (by omega) hB.1.1 (fun j hj => hj) (σ 45) h45
      have v1 := (ShV_old V1).1.2.1
      rw [e45] at v1
      have e2 := r_X3_goOn (ml := ml) hS V1 hB1.1
      have V2 := ShV_goOn V1
      rw [eX3_passEvening_2]
      simp (maxSteps := 1000000) (decide := true) (disch := (first | assumption | omega | exact Nat.div_mul_le_self _ _ | exact ni_nz (by omega) (by omega) | exact rfl | exact retOk_bI _ | exact retOk_0 | exact retOk_1)) only [eX3_passEvening_0, eX3_passEvening_1, eX3_passEvening_3, eX3_passEvening_4, eX3_passEvening_7, eX3_passEvening_10, eX3_passEvening_11, eX3_passEvening_12, eX3_passEvening_15, eX3_passEvening_16, eX3_passEvening_17, eX3_passEvening_18, eX3_passEvening_21, eX3_passEvening_24, eX3_passEvening_27, eX3_passEvening_30, eX3_passEvening_31, eX3_passEvening_34, v1, e2, Nat.le_refl, WpR_some, Option.toList_some, Option.toList_none, List.cons_append, List.nil_append, List.append_nil, clr_n, clr_i, clr_a, ni_add, ni_mul, ni_sub, ni_lt, ni_le, ni_eq, ni_div, nat_mod_eq, ni_rem, iMax_nn, iMin_nn, iMax_sub, Nat.zero_max, bI_0, bI_1, bI_n0, up2_s, up2_n, up2_k, ni_l, lN_mul, lN_add, ln_mask, lN_i, ↓reduceIte, if_true, if_false, not_true_eq_false, not_false_eq_true, ite_self, Nat.add_zero, Nat.zero_add, ent_def]
      rw [← hQ]
      refine ⟨_, rfl, rfl, V2, ?_, ?_⟩
      · unfold TlV
        rw [up2_n (by omega), up2_n (by omega)]
        exact T1
      · intro c h1 h2
        rw [up2_n (by omega), up2_n (by omega)]
        exact F1 c h1 h2
  obtain ⟨r, μ', e1, m', rfl, rfl, h2⟩ := res_ex key
  exact ⟨m', e1, h2⟩
end TLY
