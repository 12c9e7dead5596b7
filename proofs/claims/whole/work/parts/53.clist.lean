section CLS
variable {G : List AT} {m m1 m2 : Nat → Nat → Int32} {ml : Nat → Nat → Int64} {tl n p q c e d f j i lo hi x y : Nat} {tc τ σ τ' : Nat → Nat} {u v w : Int32} {μ : Mm}
def adH (τ : Nat → Nat) (x y : Nat) : Nat → Nat := upN (addH τ x) (τ 45) (x - y)
def hrR (tl : Nat) (tc : Nat → Nat) (p : Nat) (τ : Nat → Nat) : Nat ⊕ (Nat × (Nat → Nat)) := match numR tl tc 1 60 p with
  | .inl f => .inl f
  | .inr (x, e) => if nl tl tc e = 45 then (match numR tl tc 0 x (sk tl tc e + 1) with
    | .inl f => .inl f
    | .inr (y, e2) => .inr (e2, adH τ x y)) else .inr (sk tl tc e, adH τ x 0)
def sgR (tl : Nat) (tc : Nat → Nat) (p : Nat) (τ : Nat → Nat) : Nat ⊕ (Nat × (Nat → Nat)) := if nl tl tc p = 59 then .inr (sk tl tc p + 1, τ) else .inl (sk tl tc p)
def hsR (tl : Nat) (tc : Nat → Nat) : Nat → Nat → (Nat → Nat) → Nat ⊕ (Nat × (Nat → Nat))
  | 0, p, τ => sgR tl tc p τ
  | j + 1, p, τ => if nl tl tc p = 44 then (match hrR tl tc (sk tl tc p + 1) τ with
    | .inl f => .inl f
    | .inr (e, τ') => hsR tl tc j e τ') else sgR tl tc p τ
def haR (tl : Nat) (tc : Nat → Nat) (p : Nat) (τ : Nat → Nat) : Nat ⊕ (Nat × (Nat → Nat)) := match hrR tl tc p τ with
  | .inl f => .inl f
  | .inr (e, τ') => hsR tl tc 4 e τ'
def kdN (c : Nat) : Nat := if c = 112 then 0 else if c = 100 then 1 else if c = 116 then 2 else if c = 119 then 3 else if c = 117 then 4 else 9
def tlR (tl : Nat) (tc : Nat → Nat) (p : Nat) (τ : Nat → Nat) : Nat ⊕ (Nat × (Nat → Nat)) := if kdN (nl tl tc p) = 9 then .inl (sk tl tc p) else (match numR tl tc 1 20 (sk tl tc p + 1) with
  | .inl f => .inl f
  | .inr (x, e) => .inr (e, addT τ (kdN (nl tl tc p)) x))
def tsR (tl : Nat) (tc : Nat → Nat) : Nat → Nat → (Nat → Nat) → Nat ⊕ (Nat × (Nat → Nat))
  | 0, p, τ => .inr (p, τ)
  | j + 1, p, τ => if nl tl tc p = 44 then (match tlR tl tc (sk tl tc p + 1) τ with
    | .inl f => .inl f
    | .inr (e, τ') => tsR tl tc j e τ') else .inr (sk tl tc p, τ)
def taR (tl : Nat) (tc : Nat → Nat) (p : Nat) (τ : Nat → Nat) : Nat ⊕ (Nat × (Nat → Nat)) := match tlR tl tc p τ with
  | .inl f => .inl f
  | .inr (e, τ') => tsR tl tc 4 e τ'
def stR (tl : Nat) (tc : Nat → Nat) (p : Nat) (τ : Nat → Nat) : Nat ⊕ (Nat × (Nat → Nat)) := if nl tl tc p = 33 then (if 48 ≤ nl tl tc (sk tl tc p + 1) ∧ nl tl tc (sk tl tc p + 1) ≤ 52 then .inr (sk tl tc (sk tl tc p + 1) + 1, upN τ 41 (nl tl tc (sk tl tc p + 1) - 48)) else .inl (sk tl tc (sk tl tc p + 1))) else .inr (sk tl tc p, τ)
def enR (tl : Nat) (tc : Nat → Nat) (p : Nat) (τ : Nat → Nat) : Nat ⊕ (Nat × (Nat → Nat)) := if sk tl tc p < tl then .inl (sk tl tc p) else .inr (sk tl tc p, τ)
def bndR (R : Nat ⊕ (Nat × (Nat → Nat))) (F : Nat → (Nat → Nat) → Nat ⊕ (Nat × (Nat → Nat))) : Nat ⊕ (Nat × (Nat → Nat)) := match R with
  | .inl f => .inl f
  | .inr (e, τ) => F e τ
def ls0 (d : Nat) : Nat → Nat := fun i => if i = 41 then 1 else if i = 43 then d else 0
/-- THE LIST: where it is at fault, or what it says -/
def prR (tl : Nat) (tc : Nat → Nat) (d : Nat) : Nat ⊕ (Nat × (Nat → Nat)) := bndR (haR tl tc 0 (ls0 d)) fun p τ => bndR (taR tl tc p τ) fun p τ => bndR (stR tl tc p τ) fun p τ => enR tl tc p τ
theorem nl_lt (h : nl tl tc p ≠ 0) : sk tl tc p < tl := by
  unfold nl at h
  by_cases h2 : sk tl tc p < tl
  · exact h2
  · rw [if_neg h2] at h; exact absurd rfl h
theorem nl_sk : nl tl tc (sk tl tc p) = nl tl tc p := by unfold nl; rw [sk_2]
def CP (m : Nat → Nat → Int32) (tl : Nat) (tc : Nat → Nat) (p : Nat) (τ : Nat → Nat) : Prop := m 133 2 = nI p ∧ CT m tl tc ∧ ShV m 144 τ ∧ p ≤ tl
def FP (m m' : Nat → Nat → Int32) : Prop := ∀ b, b ≠ 133 → (b < 144 ∨ 150 < b) → m' b = m b
theorem FP.rf : FP m m := fun _ _ _ => rfl
theorem FP.tr {m3 : Nat → Nat → Int32} (h1 : FP m m1) (h2 : FP m1 m3) : FP m m3 := fun b a c => by rw [h2 b a c, h1 b a c]
theorem FP.pp (h1 : FP m m1) : FP m (up2 m1 133 2 v) := fun b a c => by rw [up2_n a]; exact h1 b a c
theorem CP.pp (h : CP m tl tc p τ) (hq : q ≤ tl) : CP (up2 m 133 2 (nI q)) tl tc q τ := ⟨by rw [up2_s], CT_p h.2.1, ShV_fr h.2.2.1 (fun b z1 z2 => up2_n (by omega)), hq⟩
theorem rn_ok (hG : GW G) (hC : CP m tl tc p τ) (hlo : lo < 1000) (hhi : hi < 1000) (h : numR tl tc lo hi p = .inr (x, e)) : res mX5_readNumber [.ref 133, .int (nI lo), .int (nI hi)] (G, m, ml) = some (some (.int (nI x)), (G, up2 m 133 2 (nI e), ml)) ∧ lo ≤ x ∧ x ≤ hi ∧ x ≤ 99 ∧ e ≤ tl := by
  unfold numR at h
  by_cases hd : dgt tl tc (sk tl tc p) = true
  · rw [if_pos hd] at h
    by_cases hr : lo ≤ nv tl tc (sk tl tc p) ∧ nv tl tc (sk tl tc p) ≤ hi
    · rw [if_pos hr] at h
      by_cases hz : dgt tl tc (ne' tl tc (sk tl tc p)) = true
      · rw [if_pos hz] at h; cases h
      · rw [if_neg hz] at h
        cases h
        have := r_rn1 (ml := ml) (lo := lo) (hi := hi) hG hC.2.1 hC.1 hC.2.2.2 hd hlo hhi
        rw [if_pos hr, if_pos hr] at this
        exact ⟨this, hr.1, hr.2, nv_le hd, (ne_le hd).1⟩
    · rw [if_neg hr] at h; cases h
  · rw [if_neg hd] at h; cases h
theorem rn_fl (hG : GW G) (hC : CP m tl tc p τ) (hlo : lo < 1000) (hhi : hi < 1000) (h : numR tl tc lo hi p = .inl f) : f ≤ tl ∧ (res mX5_readNumber [.ref 133, .int (nI lo), .int (nI hi)] (G, m, ml) = some (some (.int (-4)), (G, up2 m 133 2 (nI f), ml)) ∨ ∃ x, res mX5_readNumber [.ref 133, .int (nI lo), .int (nI hi)] (G, m, ml) = some (some (.int (nI x)), (G, up2 m 133 2 (nI f), ml)) ∧ lo ≤ x ∧ x ≤ hi ∧ x ≤ 99 ∧ dgt tl tc f = true) := by
  have hs := sk_le (tc := tc) hC.2.2.2
  unfold numR at h
  by_cases hd : dgt tl tc (sk tl tc p) = true
  · rw [if_pos hd] at h
    have := r_rn1 (ml := ml) (lo := lo) (hi := hi) hG hC.2.1 hC.1 hC.2.2.2 hd hlo hhi
    by_cases hr : lo ≤ nv tl tc (sk tl tc p) ∧ nv tl tc (sk tl tc p) ≤ hi
    · rw [if_pos hr] at h
      by_cases hz : dgt tl tc (ne' tl tc (sk tl tc p)) = true
      · rw [if_pos hz] at h
        cases h
        rw [if_pos hr, if_pos hr] at this
        exact ⟨(ne_le hd).1, .inr ⟨_, this, hr.1, hr.2, nv_le hd, hz⟩⟩
      · rw [if_neg hz] at h; cases h
    · rw [if_neg hr] at h; cases h
      rw [if_neg hr, if_neg hr] at this
      exact ⟨hs, .inl this⟩
  · rw [if_neg hd] at h; cases h
    have hd : dgt tl tc (sk tl tc p) = false := by
      cases hz : dgt tl tc (sk tl tc p)
      · rfl
      · exact absurd hz hd
    exact ⟨hs, .inl (r_rn0 hG hC.2.1 hC.1 hC.2.2.2 hd)⟩
theorem n4 (h : x ≤ 99) : ¬ nI x = -4 := by
  intro z
  have h1 : (nI 0 ≤ nI x) = (0 ≤ x) := ni_le (by omega) (by omega)
  have h2 : nI 0 ≤ nI x := by rw [h1]; omega
  rw [z] at h2
  exact absurd h2 (by decide)
theorem n3 (h : x ≤ 99) : ¬ nI x = -3 := by
  intro z
  have h1 : (nI 0 ≤ nI x) = (0 ≤ x) := ni_le (by omega) (by omega)
  have h2 : nI 0 ≤ nI x := by rw [h1]; omega
  rw [z] at h2
  exact absurd h2 (by decide)
/-- what a reading leaves -/
def OutC (m : Nat → Nat → Int32) (tl : Nat) (tc : Nat → Nat) (R : Nat ⊕ (Nat × (Nat → Nat))) (b : Bool) : Prop := (∀ f, R = .inl f → (b = true → dgt tl tc f = true) ∧ ∃ τ, CP m tl tc f τ) ∧ ∀ e τ, R = .inr (e, τ) → b = true ∧ CP m tl tc e τ
theorem w_rh {Q : Option Value → Mm → Prop} (hG : GW G) (hC : CP m tl tc p τ) (h5 : τ 45 < 5) (hx : x ≤ 99) (hy : y ≤ x) (k : ∀ m', CP m' tl tc p (adH τ x y) → FP m m' → Q (some (.int (nI 1))) (G, m', ml)) : Wp mX5_readHearer 44 [some (.ref 133), some (.ref 144), some (.int (nI x)), some (.int (nI y)), none] [] (G, m, ml) Q := by
  obtain ⟨c1, c2, c3, c4⟩ := hC
  obtain ⟨-, ⟨-, -, -, -, s144⟩, -⟩ := hG
  obtain ⟨m', e1, V1, F1⟩ := r_X3_addHearer (ml := ml) s144 c3 h5 (w := x) (by omega)
  obtain ⟨q0, ⟨q1, q2, q3, q4, q5, q6⟩, ⟨f1, f2, f3, f4, f5, f6⟩, k1, k2, k3, k4, k5, k6⟩ := s144
  have h3 := n3 (x := τ 45) (by omega)
  simp (maxSteps := 1000000) (decide := true) (disch := (first | assumption | omega | exact Nat.div_mul_le_self _ _ | exact ni_nz (by omega) (by omega) | exact rfl | exact retOk_bI _ | exact retOk_0 | exact retOk_1)) only [eX5_readHearer_0, eX5_readHearer_1, eX5_readHearer_2, eX5_readHearer_4, eX5_readHearer_7, eX5_readHearer_8, eX5_readHearer_9, eX5_readHearer_11, eX5_readHearer_14, eX5_readHearer_15, eX5_readHearer_16, eX5_readHearer_17, eX5_readHearer_19, eX5_readHearer_22, eX5_readHearer_25, eX5_readHearer_26, eX5_readHearer_27, eX5_readHearer_28, eX5_readHearer_31, eX5_readHearer_34, eX5_readHearer_35, eX5_readHearer_36, eX5_readHearer_37, eX5_readHearer_39, eX5_readHearer_42, eX5_readHearer_43, eX5_readHearer_44, eX5_readHearer_45, eX5_readHearer_46, eX5_readHearer_49, eX5_readHearer_51, eX5_readHearer_53, eX5_readHearer_55, eX5_readHearer_58, eX5_readHearer_59, eX5_readHearer_60, eX5_readHearer_61, eX5_readHearer_64, eX5_readHearer_66, eX5_readHearer_67, eX5_readHearer_68, eX5_readHearer_69, eX5_readHearer_70, eX5_readHearer_71, e1, h3, q4, WpR_some, Option.toList_some, Option.toList_none, List.cons_append, List.nil_append, List.append_nil, clr_n, clr_i, clr_a, ni_add, ni_mul, ni_sub, ni_lt, ni_le, ni_eq, ni_div, nat_mod_eq, ni_rem, iMax_nn, iMin_nn, iMax_sub, Nat.zero_max, bI_0, bI_1, bI_n0, up2_s, up2_n, up2_k, va_up_self, va_up_ne, ni_l, lN_mul, lN_add, ln_mask, lN_i, ↓reduceIte, if_true, if_false, not_true_eq_false, not_false_eq_true, ite_self, Nat.add_zero, Nat.zero_add, ent_def]
  refine k _ ⟨by rw [up2_n (by decide), F1 133 (by omega)]; exact c1, ⟨by rw [up2_n (by decide), F1 133 (by omega)]; exact c2.1, c2.2.1, fun j hj => by rw [up2_n (by decide), F1 134 (by omega)]; exact c2.2.2 j hj⟩, ?_, c4⟩ (fun b z1 z2 => by rw [up2_n (by omega)]; exact F1 b (by omega))
  unfold adH
  exact ShV_up V1 (by omega) (by omega) (by omega) (by unfold cO; rw [if_pos h5]) (by unfold cK; rw [if_pos h5])
theorem r_rh (hG : GW G) (hC : CP m tl tc p τ) (h5 : τ 45 < 5) : ∃ m' b, res mX5_readHearer [.ref 133, .ref 144] (G, m, ml) = some (some (.int (bI b)), (G, m', ml)) ∧ FP m m' ∧ OutC m' tl tc (hrR tl tc p τ) b := by
  have key : Wp mX5_readHearer 0 (ent [.ref 133, .ref 144] 5) [] (G, m, ml) (fun r μ' => ∃ m' b, r = some (.int (bI b)) ∧ μ' = (G, m', ml) ∧ FP m m' ∧ OutC m' tl tc (hrR tl tc p τ) b) := by
    show Wp mX5_readHearer 0 [some (.ref 133), some (.ref 144), none, none, none] [] (G, m, ml) _
    generalize hQ : (fun (r : Option Value) (μ' : Mm) => ∃ m' b, r = some (.int (bI b)) ∧ μ' = (G, m', ml) ∧ FP m m' ∧ OutC m' tl tc (hrR tl tc p τ) b) = Q
    have t0 := hG.2.2.1.1
    have fal : ∀ g, g ≤ tl → hrR tl tc p τ = .inl g → Q (some (.int (nI 0))) (G, up2 m 133 2 (nI g), ml) := by
      intro g z1 z2
      rw [← hQ]
      exact ⟨_, false, rfl, rfl, FP.rf.pp, fun f' z => ⟨fun z3 => (by cases z3), τ, by rw [z2] at z; cases z; exact hC.pp z1⟩, fun e τ' z => by rw [z2] at z; cases z⟩
    cases hn : numR tl tc 1 60 p with
    | inl f =>
      have hR : hrR tl tc p τ = .inl f := by unfold hrR; rw [hn]
      obtain ⟨z1, z2 | ⟨x, z2, z3, z4, z5, z6⟩⟩ := rn_fl (ml := ml) hG hC (by decide) (by decide) hn
      · simp (maxSteps := 1000000) (decide := true) (disch := (first | assumption | omega | exact Nat.div_mul_le_self _ _ | exact ni_nz (by omega) (by omega) | exact rfl | exact retOk_bI _ | exact retOk_0 | exact retOk_1)) only [eX5_readHearer_0, eX5_readHearer_1, eX5_readHearer_2, eX5_readHearer_4, eX5_readHearer_7, eX5_readHearer_8, eX5_readHearer_9, eX5_readHearer_11, eX5_readHearer_14, eX5_readHearer_15, eX5_readHearer_16, eX5_readHearer_17, eX5_readHearer_19, eX5_readHearer_22, eX5_readHearer_25, eX5_readHearer_26, eX5_readHearer_27, eX5_readHearer_28, eX5_readHearer_31, eX5_readHearer_34, eX5_readHearer_35, eX5_readHearer_36, eX5_readHearer_37, eX5_readHearer_39, eX5_readHearer_42, eX5_readHearer_43, z2, WpR_some, Option.toList_some, Option.toList_none, List.cons_append, List.nil_append, List.append_nil, clr_n, clr_i, clr_a, ni_add, ni_mul, ni_sub, ni_lt, ni_le, ni_eq, ni_div, nat_mod_eq, ni_rem, iMax_nn, iMin_nn, iMax_sub, Nat.zero_max, bI_0, bI_1, bI_n0, up2_s, up2_n, up2_k, va_up_self, va_up_ne, ni_l, lN_mul, lN_add, ln_mask, lN_i, ↓reduceIte, if_true, if_false, not_true_eq_false, not_false_eq_true, ite_self, Nat.add_zero, Nat.zero_add, ent_def]
        exact fal f z1 hR
      · have hm := n4 z5
        have e2 := r_pl (ml := ml) (c := 45) hG (hC.pp z1).2.1 (hC.pp z1).1 z1 (by decide)
        have hnl : ¬ nl tl tc f = 45 := by rw [dgt_nl z6]; have := dgt_t z6; omega
        simp only [hnl, decide_false, if_false, dgt_sk z6] at e2
        have h0 := n4 (x := 0) (by decide)
        simp (maxSteps := 1000000) (decide := true) (disch := (first | assumption | omega | exact Nat.div_mul_le_self _ _ | exact ni_nz (by omega) (by omega) | exact rfl | exact retOk_bI _ | exact retOk_0 | exact retOk_1)) only [eX5_readHearer_0, eX5_readHearer_1, eX5_readHearer_2, eX5_readHearer_4, eX5_readHearer_7, eX5_readHearer_8, eX5_readHearer_9, eX5_readHearer_11, eX5_readHearer_14, eX5_readHearer_15, eX5_readHearer_16, eX5_readHearer_17, eX5_readHearer_19, eX5_readHearer_22, eX5_readHearer_25, eX5_readHearer_26, eX5_readHearer_27, eX5_readHearer_28, eX5_readHearer_31, eX5_readHearer_34, eX5_readHearer_35, eX5_readHearer_36, eX5_readHearer_37, eX5_readHearer_39, eX5_readHearer_42, eX5_readHearer_43, z2, hm, e2, up2_2, h0, WpR_some, Option.toList_some, Option.toList_none, List.cons_append, List.nil_append, List.append_nil, clr_n, clr_i, clr_a, ni_add, ni_mul, ni_sub, ni_lt, ni_le, ni_eq, ni_div, nat_mod_eq, ni_rem, iMax_nn, iMin_nn, iMax_sub, Nat.zero_max, bI_0, bI_1, bI_n0, up2_s, up2_n, up2_k, va_up_self, va_up_ne, ni_l, lN_mul, lN_add, ln_mask, lN_i, ↓reduceIte, if_true, if_false, not_true_eq_false, not_false_eq_true, ite_self, Nat.add_zero, Nat.zero_add, ent_def]
        refine w_rh hG (hC.pp z1) h5 z5 (Nat.zero_le _) ?_
        intro m' C' F'
        rw [← hQ]
        exact ⟨m', true, rfl, rfl, FP.tr FP.rf.pp F', fun f' z => by rw [hR] at z; cases z; exact ⟨fun _ => z6, _, C'⟩, fun e τ' z => by rw [hR] at z; cases z⟩
    | inr a =>
      obtain ⟨x, e⟩ := a
      obtain ⟨z2, z3, z4, z5, z1⟩ := rn_ok (ml := ml) hG hC (by decide) (by decide) hn
      have hm := n4 z5
      have e2 := r_pl (ml := ml) (c := 45) hG (hC.pp z1).2.1 (hC.pp z1).1 z1 (by decide)
      by_cases hnl : nl tl tc e = 45
      · have hlt := nl_lt (tl := tl) (tc := tc) (p := e) (by omega)
        simp only [hnl, decide_true, if_true, up2_2] at e2
        have C2 := hC.pp (q := sk tl tc e + 1) (by omega)
        cases hn2 : numR tl tc 0 x (sk tl tc e + 1) with
        | inl f =>
          have hR : hrR tl tc p τ = .inl f := by unfold hrR; rw [hn]; simp only [hnl, if_true, hn2]
          obtain ⟨y1, y2 | ⟨y, y2, y3, y4, y5, y6⟩⟩ := rn_fl (ml := ml) hG C2 (by decide) (by omega) hn2
          · simp (maxSteps := 1000000) (decide := true) (disch := (first | assumption | omega | exact Nat.div_mul_le_self _ _ | exact ni_nz (by omega) (by omega) | exact rfl | exact retOk_bI _ | exact retOk_0 | exact retOk_1)) only [eX5_readHearer_0, eX5_readHearer_1, eX5_readHearer_2, eX5_readHearer_4, eX5_readHearer_7, eX5_readHearer_8, eX5_readHearer_9, eX5_readHearer_11, eX5_readHearer_14, eX5_readHearer_15, eX5_readHearer_16, eX5_readHearer_17, eX5_readHearer_19, eX5_readHearer_22, eX5_readHearer_25, eX5_readHearer_26, eX5_readHearer_27, eX5_readHearer_28, eX5_readHearer_31, eX5_readHearer_34, eX5_readHearer_35, eX5_readHearer_36, eX5_readHearer_37, eX5_readHearer_39, eX5_readHearer_42, eX5_readHearer_43, z2, hm, e2, up2_2, y2, WpR_some, Option.toList_some, Option.toList_none, List.cons_append, List.nil_append, List.append_nil, clr_n, clr_i, clr_a, ni_add, ni_mul, ni_sub, ni_lt, ni_le, ni_eq, ni_div, nat_mod_eq, ni_rem, iMax_nn, iMin_nn, iMax_sub, Nat.zero_max, bI_0, bI_1, bI_n0, up2_s, up2_n, up2_k, va_up_self, va_up_ne, ni_l, lN_mul, lN_add, ln_mask, lN_i, ↓reduceIte, if_true, if_false, not_true_eq_false, not_false_eq_true, ite_self, Nat.add_zero, Nat.zero_add, ent_def]
            exact fal f y1 hR
          · have h0 := n4 y5
            simp (maxSteps := 1000000) (decide := true) (disch := (first | assumption | omega | exact Nat.div_mul_le_self _ _ | exact ni_nz (by omega) (by omega) | exact rfl | exact retOk_bI _ | exact retOk_0 | exact retOk_1)) only [eX5_readHearer_0, eX5_readHearer_1, eX5_readHearer_2, eX5_readHearer_4, eX5_readHearer_7, eX5_readHearer_8, eX5_readHearer_9, eX5_readHearer_11, eX5_readHearer_14, eX5_readHearer_15, eX5_readHearer_16, eX5_readHearer_17, eX5_readHearer_19, eX5_readHearer_22, eX5_readHearer_25, eX5_readHearer_26, eX5_readHearer_27, eX5_readHearer_28, eX5_readHearer_31, eX5_readHearer_34, eX5_readHearer_35, eX5_readHearer_36, eX5_readHearer_37, eX5_readHearer_39, eX5_readHearer_42, eX5_readHearer_43, z2, hm, e2, up2_2, y2, h0, WpR_some, Option.toList_some, Option.toList_none, List.cons_append, List.nil_append, List.append_nil, clr_n, clr_i, clr_a, ni_add, ni_mul, ni_sub, ni_lt, ni_le, ni_eq, ni_div, nat_mod_eq, ni_rem, iMax_nn, iMin_nn, iMax_sub, Nat.zero_max, bI_0, bI_1, bI_n0, up2_s, up2_n, up2_k, va_up_self, va_up_ne, ni_l, lN_mul, lN_add, ln_mask, lN_i, ↓reduceIte, if_true, if_false, not_true_eq_false, not_false_eq_true, ite_self, Nat.add_zero, Nat.zero_add, ent_def]
            refine w_rh hG (hC.pp y1) h5 z5 y4 ?_
            intro m' C' F'
            rw [← hQ]
            exact ⟨m', true, rfl, rfl, FP.tr FP.rf.pp F', fun f' z => by rw [hR] at z; cases z; exact ⟨fun _ => y6, _, C'⟩, fun e τ' z => by rw [hR] at z; cases z⟩
        | inr a2 =>
          obtain ⟨y, e3⟩ := a2
          have hR : hrR tl tc p τ = .inr (e3, adH τ x y) := by unfold hrR; rw [hn]; simp only [hnl, if_true, hn2]
          obtain ⟨y2, y3, y4, y5, y1⟩ := rn_ok (ml := ml) hG C2 (by decide) (by omega) hn2
          have h0 := n4 y5
          simp (maxSteps := 1000000) (decide := true) (disch := (first | assumption | omega | exact Nat.div_mul_le_self _ _ | exact ni_nz (by omega) (by omega) | exact rfl | exact retOk_bI _ | exact retOk_0 | exact retOk_1)) only [eX5_readHearer_0, eX5_readHearer_1, eX5_readHearer_2, eX5_readHearer_4, eX5_readHearer_7, eX5_readHearer_8, eX5_readHearer_9, eX5_readHearer_11, eX5_readHearer_14, eX5_readHearer_15, eX5_readHearer_16, eX5_readHearer_17, eX5_readHearer_19, eX5_readHearer_22, eX5_readHearer_25, eX5_readHearer_26, eX5_readHearer_27, eX5_readHearer_28, eX5_readHearer_31, eX5_readHearer_34, eX5_readHearer_35, eX5_readHearer_36, eX5_readHearer_37, eX5_readHearer_39, eX5_readHearer_42, eX5_readHearer_43, z2, hm, e2, up2_2, y2, h0, WpR_some, Option.toList_some, Option.toList_none, List.cons_append, List.nil_append, List.append_nil, clr_n, clr_i, clr_a, ni_add, ni_mul, ni_sub, ni_lt, ni_le, ni_eq, ni_div, nat_mod_eq, ni_rem, iMax_nn, iMin_nn, iMax_sub, Nat.zero_max, bI_0, bI_1, bI_n0, up2_s, up2_n, up2_k, va_up_self, va_up_ne, ni_l, lN_mul, lN_add, ln_mask, lN_i, ↓reduceIte, if_true, if_false, not_true_eq_false, not_false_eq_true, ite_self, Nat.add_zero, Nat.zero_add, ent_def]
          refine w_rh hG (hC.pp y1) h5 z5 y4 ?_
          intro m' C' F'
          rw [← hQ]
          exact ⟨m', true, rfl, rfl, FP.tr FP.rf.pp F', fun f' z => (by rw [hR] at z; cases z), fun e τ' z => by rw [hR] at z; cases z; exact ⟨rfl, C'⟩⟩
      · have hR : hrR tl tc p τ = .inr (sk tl tc e, adH τ x 0) := by unfold hrR; rw [hn]; simp only [hnl, if_false]
        simp only [hnl, decide_false, if_false, up2_2] at e2
        have h0 := n4 (x := 0) (by decide)
        simp (maxSteps := 1000000) (decide := true) (disch := (first | assumption | omega | exact Nat.div_mul_le_self _ _ | exact ni_nz (by omega) (by omega) | exact rfl | exact retOk_bI _ | exact retOk_0 | exact retOk_1)) only [eX5_readHearer_0, eX5_readHearer_1, eX5_readHearer_2, eX5_readHearer_4, eX5_readHearer_7, eX5_readHearer_8, eX5_readHearer_9, eX5_readHearer_11, eX5_readHearer_14, eX5_readHearer_15, eX5_readHearer_16, eX5_readHearer_17, eX5_readHearer_19, eX5_readHearer_22, eX5_readHearer_25, eX5_readHearer_26, eX5_readHearer_27, eX5_readHearer_28, eX5_readHearer_31, eX5_readHearer_34, eX5_readHearer_35, eX5_readHearer_36, eX5_readHearer_37, eX5_readHearer_39, eX5_readHearer_42, eX5_readHearer_43, z2, hm, e2, up2_2, h0, WpR_some, Option.toList_some, Option.toList_none, List.cons_append, List.nil_append, List.append_nil, clr_n, clr_i, clr_a, ni_add, ni_mul, ni_sub, ni_lt, ni_le, ni_eq, ni_div, nat_mod_eq, ni_rem, iMax_nn, iMin_nn, iMax_sub, Nat.zero_max, bI_0, bI_1, bI_n0, up2_s, up2_n, up2_k, va_up_self, va_up_ne, ni_l, lN_mul, lN_add, ln_mask, lN_i, ↓reduceIte, if_true, if_false, not_true_eq_false, not_false_eq_true, ite_self, Nat.add_zero, Nat.zero_add, ent_def]
        refine w_rh hG (hC.pp (sk_le z1)) h5 z5 (Nat.zero_le _) ?_
        intro m' C' F'
        rw [← hQ]
        exact ⟨m', true, rfl, rfl, FP.tr FP.rf.pp F', fun f' z => (by rw [hR] at z; cases z), fun e τ' z => by rw [hR] at z; cases z; exact ⟨rfl, C'⟩⟩
  obtain ⟨r, μ', e1, m', b, rfl, rfl, h2⟩ := res_ex key
  exact ⟨m', b, e1, h2⟩
theorem adH_n {k : Nat} (h5 : τ 45 < 5) (h1 : k ≠ τ 45) (h2 : k ≠ 45) (h3 : k ≠ 40) (h4 : k ≠ 51 + τ 45) : adH τ x y k = τ k := by
  unfold adH addH
  rw [upN_n h1, upN_n h3, upN_n h2, upN_n h1, upN_n h4]
theorem adH_45 (h5 : τ 45 < 5) : adH τ x y 45 = τ 45 + 1 := by
  unfold adH addH
  rw [upN_n (by omega), upN_n (by omega), upN_s]
theorem hrR_45 (h5 : τ 45 < 5) (h : hrR tl tc p τ = .inr (e, τ')) : ∃ x y, y ≤ x ∧ 1 ≤ x ∧ x ≤ 60 ∧ τ' = adH τ x y := by
  unfold hrR at h
  have nr : ∀ lo hi p x e, numR tl tc lo hi p = .inr (x, e) → lo ≤ x ∧ x ≤ hi := by
    intro lo hi p x e z
    unfold numR at z
    by_cases z1 : dgt tl tc (sk tl tc p) = true
    · rw [if_pos z1] at z
      by_cases z2 : lo ≤ nv tl tc (sk tl tc p) ∧ nv tl tc (sk tl tc p) ≤ hi
      · rw [if_pos z2] at z
        by_cases z3 : dgt tl tc (ne' tl tc (sk tl tc p)) = true
        · rw [if_pos z3] at z; cases z
        · rw [if_neg z3] at z; cases z; exact z2
      · rw [if_neg z2] at z; cases z
    · rw [if_neg z1] at z; cases z
  cases hn : numR tl tc 1 60 p with
  | inl f => rw [hn] at h; cases h
  | inr a =>
    obtain ⟨x, e0⟩ := a
    have k1 := nr _ _ _ _ _ hn
    rw [hn] at h
    by_cases hnl : nl tl tc e0 = 45
    · simp only [hnl, if_true] at h
      cases hn2 : numR tl tc 0 x (sk tl tc e0 + 1) with
      | inl f => rw [hn2] at h; cases h
      | inr a2 =>
        obtain ⟨y, e3⟩ := a2
        have k2 := nr _ _ _ _ _ hn2
        rw [hn2] at h
        cases h
        exact ⟨x, y, k2.2, k1.1, k1.2, rfl⟩
    · simp only [hnl, if_false] at h
      cases h
      exact ⟨x, 0, Nat.zero_le _, k1.1, k1.2, rfl⟩
/-- the hearers: behind the first -/
theorem w_sg {Q : Option Value → Mm → Prop} (hG : GW G) (hC : CP m tl tc p τ) (k : ∀ m' b, FP m m' → OutC m' tl tc (sgR tl tc p τ) b → (b = true → ∃ e, sgR tl tc p τ = .inr e) → Q (some (.int (bI b))) (G, m', ml)) : Wp mX5_readHearers 39 [some (.ref 133), some (.ref 144), some (.int u)] [] (G, m, ml) Q := by
  have e2 := r_pl (ml := ml) (c := 59) hG hC.2.1 hC.1 hC.2.2.2 (by decide)
  have t0 := hG.2.2.1.1
  by_cases h : nl tl tc p = 59
  · have hlt := nl_lt (tl := tl) (tc := tc) (p := p) (by omega)
    simp only [h, decide_true, if_true] at e2
    simp (maxSteps := 1000000) (decide := true) (disch := (first | assumption | omega | exact Nat.div_mul_le_self _ _ | exact ni_nz (by omega) (by omega) | exact rfl | exact retOk_bI _ | exact retOk_0 | exact retOk_1)) only [eX5_readHearers_39, eX5_readHearers_40, eX5_readHearers_42, eX5_readHearers_45, e2, WpR_some, Option.toList_some, Option.toList_none, List.cons_append, List.nil_append, List.append_nil, clr_n, clr_i, clr_a, ni_add, ni_mul, ni_sub, ni_lt, ni_le, ni_eq, ni_div, nat_mod_eq, ni_rem, iMax_nn, iMin_nn, iMax_sub, Nat.zero_max, bI_0, bI_1, bI_n0, up2_s, up2_n, up2_k, va_up_self, va_up_ne, ni_l, lN_mul, lN_add, ln_mask, lN_i, ↓reduceIte, if_true, if_false, not_true_eq_false, not_false_eq_true, ite_self, Nat.add_zero, Nat.zero_add, ent_def]
    have hR : sgR tl tc p τ = .inr (sk tl tc p + 1, τ) := by unfold sgR; rw [if_pos h]
    exact k _ true FP.rf.pp ⟨fun f z => (by rw [hR] at z; cases z), fun e τ' z => by rw [hR] at z; cases z; exact ⟨rfl, hC.pp (by omega)⟩⟩ (fun _ => ⟨_, hR⟩)
  · simp only [h, decide_false, if_false] at e2
    simp (maxSteps := 1000000) (decide := true) (disch := (first | assumption | omega | exact Nat.div_mul_le_self _ _ | exact ni_nz (by omega) (by omega) | exact rfl | exact retOk_bI _ | exact retOk_0 | exact retOk_1)) only [eX5_readHearers_39, eX5_readHearers_40, eX5_readHearers_42, eX5_readHearers_45, e2, WpR_some, Option.toList_some, Option.toList_none, List.cons_append, List.nil_append, List.append_nil, clr_n, clr_i, clr_a, ni_add, ni_mul, ni_sub, ni_lt, ni_le, ni_eq, ni_div, nat_mod_eq, ni_rem, iMax_nn, iMin_nn, iMax_sub, Nat.zero_max, bI_0, bI_1, bI_n0, up2_s, up2_n, up2_k, va_up_self, va_up_ne, ni_l, lN_mul, lN_add, ln_mask, lN_i, ↓reduceIte, if_true, if_false, not_true_eq_false, not_false_eq_true, ite_self, Nat.add_zero, Nat.zero_add, ent_def]
    have hR : sgR tl tc p τ = .inl (sk tl tc p) := by unfold sgR; rw [if_neg h]
    exact k _ false FP.rf.pp ⟨fun f z => ⟨fun z => (by cases z), τ, by rw [hR] at z; cases z; exact hC.pp (sk_le hC.2.2.2)⟩, fun e τ' z => by rw [hR] at z; cases z⟩ (fun z => by cases z)
theorem w_sgf {Q : Option Value → Mm → Prop} (hG : GW G) (hC : CP m tl tc f τ) (hd : dgt tl tc f = true) (k : ∀ m', FP m m' → (∃ τ', CP m' tl tc f τ') → Q (some (.int (bI false))) (G, m', ml)) : Wp mX5_readHearers 39 [some (.ref 133), some (.ref 144), some (.int u)] [] (G, m, ml) Q := by
  refine w_sg hG hC ?_
  intro m' b F' O' hb
  have hR : sgR tl tc f τ = .inl f := by
    unfold sgR
    have h : ¬ nl tl tc f = 59 := by rw [dgt_nl hd]; have := dgt_t hd; omega
    rw [if_neg h, dgt_sk hd]
  cases b
  · exact k m' F' (O'.1 f hR).2
  · obtain ⟨e, z⟩ := hb rfl
    rw [hR] at z; cases z
end CLS
