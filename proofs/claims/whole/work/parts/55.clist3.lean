section CL3
variable {G : List AT} {m m1 m2 : Nat → Nat → Int32} {ml : Nat → Nat → Int64} {tl n p q c e d f j i lo hi x y k : Nat} {tc τ σ τ' : Nat → Nat} {u v w : Int32} {μ : Mm} {F : Nat → Nat → Nat}
theorem bnd_l (f : Nat) (H : Nat → (Nat → Nat) → Nat ⊕ (Nat × (Nat → Nat))) : bndR (.inl f) H = .inl f := rfl
theorem bnd_r (e : Nat) (τ : Nat → Nat) (H : Nat → (Nat → Nat) → Nat ⊕ (Nat × (Nat → Nat))) : bndR (.inr (e, τ)) H = H e τ := rfl
theorem adH_44 (h5 : τ 45 < 5) : adH τ x y 44 = τ 44 := adH_n h5 (by omega) (by decide) (by decide) (by omega)
theorem sgR_r (h : sgR tl tc p τ = .inr (e, τ')) : τ' = τ := by
  unfold sgR at h
  by_cases h1 : nl tl tc p = 59
  · rw [if_pos h1] at h; cases h; rfl
  · rw [if_neg h1] at h; cases h
/-- what is kept while hearers are read -/
def ZH (d : Nat) (τ : Nat → Nat) : Prop := τ 45 ≤ 5 ∧ τ 40 = 0 ∧ τ 41 = 1 ∧ τ 42 = 0 ∧ τ 43 = d ∧ (∀ k, k < 5 → k < τ 45 → 1 ≤ τ (51 + k) ∧ τ (51 + k) ≤ 60 ∧ τ k ≤ τ (51 + k)) ∧ (∀ k, k < 5 → τ 45 ≤ k → τ k = 0 ∧ τ (51 + k) = 0) ∧ ∀ k, 10 ≤ k → k < 40 → τ k = 0
def ZT (τ : Nat → Nat) : Prop := τ 44 ≤ 5 ∧ (∀ k, k < 5 → k < τ 44 → τ (46 + k) ≤ 4 ∧ 1 ≤ τ (5 + k) ∧ τ (5 + k) ≤ 20) ∧ ∀ k, k < 5 → τ 44 ≤ k → τ (46 + k) = 0 ∧ τ (5 + k) = 0
theorem ZH_0 : ZH d (ls0 d) := ⟨by show 0 ≤ 5; omega, rfl, rfl, rfl, rfl, fun k _ h => absurd h (Nat.not_lt_zero _), fun k hk _ => ⟨by unfold ls0; rw [if_neg (by omega), if_neg (by omega)], by unfold ls0; rw [if_neg (by omega), if_neg (by omega)]⟩, fun k h1 h2 => by unfold ls0; rw [if_neg (by omega), if_neg (by omega)]⟩
theorem ZT_0 : ZT (ls0 d) := ⟨by show 0 ≤ 5; omega, fun k _ h => absurd h (Nat.not_lt_zero _), fun k hk _ => ⟨by unfold ls0; rw [if_neg (by omega), if_neg (by omega)], by unfold ls0; rw [if_neg (by omega), if_neg (by omega)]⟩⟩
theorem ZH_h (h : ZH d τ) (h5 : τ 45 < 5) (h1 : 1 ≤ x) (h2 : x ≤ 60) (h3 : y ≤ x) : ZH d (adH τ x y) := by
  obtain ⟨a1, a2, a3, a4, a5, a6, a7, a8⟩ := h
  refine ⟨by rw [adH_45 h5]; omega, by unfold adH addH; rw [upN_n (by omega), upN_s], by rw [adH_n h5 (by omega) (by omega) (by omega) (by omega)]; exact a3, by rw [adH_n h5 (by omega) (by omega) (by omega) (by omega)]; exact a4, by rw [adH_n h5 (by omega) (by omega) (by omega) (by omega)]; exact a5, ?_, ?_, ?_⟩
  · intro k hk hk2
    rw [adH_45 h5] at hk2
    by_cases hq : k = τ 45
    · subst hq
      have e1 : adH τ x y (51 + τ 45) = x := by unfold adH addH; rw [upN_n (by omega), upN_n (by omega), upN_n (by omega), upN_n (by omega), upN_s]
      have e2 : adH τ x y (τ 45) = x - y := by unfold adH; rw [upN_s]
      rw [e1, e2]; omega
    · rw [adH_n h5 (by omega) (by omega) (by omega) (by omega), adH_n h5 hq (by omega) (by omega) (by omega)]
      exact a6 k hk (by omega)
  · intro k hk hk2
    rw [adH_45 h5] at hk2
    rw [adH_n h5 (by omega) (by omega) (by omega) (by omega), adH_n h5 (by omega) (by omega) (by omega) (by omega)]
    exact a7 k hk (by omega)
  · intro k k1 k2
    rw [adH_n h5 (by omega) (by omega) (by omega) (by omega)]
    exact a8 k k1 k2
theorem ZT_h (h : ZT τ) (h5 : τ 45 < 5) : ZT (adH τ x y) := by
  obtain ⟨a1, a2, a3⟩ := h
  refine ⟨by rw [adH_44 h5]; exact a1, ?_, ?_⟩
  · intro k hk hk2
    rw [adH_44 h5] at hk2
    rw [adH_n h5 (by omega) (by omega) (by omega) (by omega), adH_n h5 (by omega) (by omega) (by omega) (by omega)]
    exact a2 k hk hk2
  · intro k hk hk2
    rw [adH_44 h5] at hk2
    rw [adH_n h5 (by omega) (by omega) (by omega) (by omega), adH_n h5 (by omega) (by omega) (by omega) (by omega)]
    exact a3 k hk hk2
theorem adT_n {k : Nat} (h5 : τ 44 < 5) (h1 : k ≠ 46 + τ 44) (h2 : k ≠ 44) (h3 : k ≠ 40) (h4 : k ≠ 5 + τ 44) : addT τ x y k = τ k := by
  unfold addT
  rw [upN_n h3, upN_n h2, upN_n h4, upN_n h1]
theorem ZH_t (h : ZH d τ) (h5 : τ 44 < 5) : ZH d (addT τ x y) := by
  obtain ⟨a1, a2, a3, a4, a5, a6, a7, a8⟩ := h
  have e45 : addT τ x y 45 = τ 45 := adT_n h5 (by omega) (by omega) (by omega) (by omega)
  refine ⟨by rw [e45]; exact a1, by unfold addT; rw [upN_s], by rw [adT_n h5 (by omega) (by omega) (by omega) (by omega)]; exact a3, by rw [adT_n h5 (by omega) (by omega) (by omega) (by omega)]; exact a4, by rw [adT_n h5 (by omega) (by omega) (by omega) (by omega)]; exact a5, ?_, ?_, ?_⟩
  · intro k hk hk2
    rw [e45] at hk2
    rw [adT_n h5 (by omega) (by omega) (by omega) (by omega), adT_n h5 (by omega) (by omega) (by omega) (by omega)]
    exact a6 k hk hk2
  · intro k hk hk2
    rw [e45] at hk2
    rw [adT_n h5 (by omega) (by omega) (by omega) (by omega), adT_n h5 (by omega) (by omega) (by omega) (by omega)]
    exact a7 k hk hk2
  · intro k k1 k2
    rw [adT_n h5 (by omega) (by omega) (by omega) (by omega)]
    exact a8 k k1 k2
theorem ZT_t (h : ZT τ) (h5 : τ 44 < 5) (h1 : x ≤ 4) (h2 : 1 ≤ y) (h3 : y ≤ 20) : ZT (addT τ x y) := by
  obtain ⟨a1, a2, a3⟩ := h
  refine ⟨by rw [addT_44]; omega, ?_, ?_⟩
  · intro k hk hk2
    rw [addT_44] at hk2
    by_cases hq : k = τ 44
    · subst hq
      have e1 : addT τ x y (46 + τ 44) = x := by unfold addT; rw [upN_n (by omega), upN_n (by omega), upN_n (by omega), upN_s]
      have e2 : addT τ x y (5 + τ 44) = y := by unfold addT; rw [upN_n (by omega), upN_n (by omega), upN_s]
      rw [e1, e2]; omega
    · rw [adT_n h5 (by omega) (by omega) (by omega) (by omega), adT_n h5 (by omega) (by omega) (by omega) (by omega)]
      exact a2 k hk (by omega)
  · intro k hk hk2
    rw [addT_44] at hk2
    rw [adT_n h5 (by omega) (by omega) (by omega) (by omega), adT_n h5 (by omega) (by omega) (by omega) (by omega)]
    exact a3 k hk (by omega)
theorem hsR_z (hj : τ 45 + j = 5) (hz : ZH d τ) (ht : ZT τ) (h : hsR tl tc j p τ = .inr (e, τ')) : ZH d τ' ∧ ZT τ' ∧ τ' 44 = τ 44 ∧ 1 ≤ τ' 45 + j := by
  induction j generalizing p τ with
  | zero => have := sgR_r h; subst this; exact ⟨hz, ht, rfl, by omega⟩
  | succ j ih =>
    have h' : (if nl tl tc p = 44 then (match hrR tl tc (sk tl tc p + 1) τ with
      | .inl f => .inl f
      | .inr (e, τ') => hsR tl tc j e τ') else sgR tl tc p τ) = .inr (e, τ') := h
    by_cases hnl : nl tl tc p = 44
    · rw [if_pos hnl] at h'
      cases hn : hrR tl tc (sk tl tc p + 1) τ with
      | inl f => rw [hn] at h'; cases h'
      | inr a =>
        obtain ⟨e1, τ1⟩ := a
        rw [hn] at h'
        obtain ⟨x, y, h1, h2, h3, rfl⟩ := hrR_45 (by omega) hn
        obtain ⟨r1, r2, r3, r4⟩ := ih (by rw [adH_45 (by omega)]; omega) (ZH_h hz (by omega) h2 h3 h1) (ZT_h ht (by omega)) h'
        exact ⟨r1, r2, by rw [r3, adH_44 (by omega)], by omega⟩
    · rw [if_neg hnl] at h'
      have := sgR_r h'; subst this; exact ⟨hz, ht, rfl, by omega⟩
theorem haR_z (hj : τ 45 = 0) (hz : ZH d τ) (ht : ZT τ) (h : haR tl tc p τ = .inr (e, τ')) : ZH d τ' ∧ ZT τ' ∧ τ' 44 = τ 44 := by
  unfold haR at h
  cases hn : hrR tl tc p τ with
  | inl f => rw [hn] at h; cases h
  | inr a =>
    obtain ⟨e1, τ1⟩ := a
    rw [hn] at h
    obtain ⟨x, y, h1, h2, h3, rfl⟩ := hrR_45 (by omega) hn
    obtain ⟨r1, r2, r3, -⟩ := hsR_z (by rw [adH_45 (by omega)]; omega) (ZH_h hz (by omega) h2 h3 h1) (ZT_h ht (by omega)) h
    exact ⟨r1, r2, by rw [r3, adH_44 (by omega)]⟩
theorem tsR_z (hj : τ 44 + j = 5) (hz : ZH d τ) (ht : ZT τ) (h : tsR tl tc j p τ = .inr (e, τ')) : ZH d τ' ∧ ZT τ' := by
  induction j generalizing p τ with
  | zero => cases h; exact ⟨hz, ht⟩
  | succ j ih =>
    have h' : (if nl tl tc p = 44 then (match tlR tl tc (sk tl tc p + 1) τ with
      | .inl f => .inl f
      | .inr (e, τ') => tsR tl tc j e τ') else .inr (sk tl tc p, τ) : Nat ⊕ (Nat × (Nat → Nat))) = .inr (e, τ') := h
    by_cases hnl : nl tl tc p = 44
    · rw [if_pos hnl] at h'
      cases hn : tlR tl tc (sk tl tc p + 1) τ with
      | inl f => rw [hn] at h'; cases h'
      | inr a =>
        obtain ⟨e1, τ1⟩ := a
        rw [hn] at h'
        obtain ⟨x, y, h1, h2, h3, rfl⟩ := tlR_44 hn
        exact ih (by rw [addT_44]; omega) (ZH_t hz (by omega)) (ZT_t ht (by omega) h1 h2 h3) h'
    · rw [if_neg hnl] at h'
      cases h'; exact ⟨hz, ht⟩
theorem taR_z (hj : τ 44 = 0) (hz : ZH d τ) (ht : ZT τ) (h : taR tl tc p τ = .inr (e, τ')) : ZH d τ' ∧ ZT τ' := by
  unfold taR at h
  cases hn : tlR tl tc p τ with
  | inl f => rw [hn] at h; cases h
  | inr a =>
    obtain ⟨e1, τ1⟩ := a
    rw [hn] at h
    obtain ⟨x, y, h1, h2, h3, rfl⟩ := tlR_44 hn
    exact tsR_z (by rw [addT_44]; omega) (ZH_t hz (by omega)) (ZT_t ht (by omega) h1 h2 h3) h
/-- what a list says -/
def ZA (d : Nat) (τ : Nat → Nat) : Prop := ZT τ ∧ τ 45 ≤ 5 ∧ τ 40 = 0 ∧ τ 41 ≤ 4 ∧ τ 42 = 0 ∧ τ 43 = d ∧ (∀ k, k < 5 → k < τ 45 → 1 ≤ τ (51 + k) ∧ τ (51 + k) ≤ 60 ∧ τ k ≤ τ (51 + k)) ∧ (∀ k, k < 5 → τ 45 ≤ k → τ k = 0 ∧ τ (51 + k) = 0) ∧ ∀ k, 10 ≤ k → k < 40 → τ k = 0
theorem stR_z (hz : ZH d τ) (ht : ZT τ) (h : stR tl tc p τ = .inr (e, τ')) : ZA d τ' := by
  obtain ⟨a1, a2, a3, a4, a5, a6, a7, a8⟩ := hz
  unfold stR at h
  by_cases h1 : nl tl tc p = 33
  · rw [if_pos h1] at h
    by_cases h2 : 48 ≤ nl tl tc (sk tl tc p + 1) ∧ nl tl tc (sk tl tc p + 1) ≤ 52
    · rw [if_pos h2] at h
      cases h
      obtain ⟨b1, b2, b3⟩ := ht
      refine ⟨⟨by rw [upN_n (by omega)]; exact b1, fun k => by rw [upN_n (show 46 + k ≠ 41 by omega), upN_n (show 44 ≠ 41 by omega)]; intro hk; rw [upN_n (show 5 + k ≠ 41 by omega)]; exact b2 k hk, fun k => by rw [upN_n (show 46 + k ≠ 41 by omega), upN_n (show 44 ≠ 41 by omega)]; intro hk; rw [upN_n (show 5 + k ≠ 41 by omega)]; exact b3 k hk⟩, by rw [upN_n (by omega)]; exact a1, by rw [upN_n (by omega)]; exact a2, by rw [upN_s]; omega, by rw [upN_n (by omega)]; exact a4, by rw [upN_n (by omega)]; exact a5, fun k => by rw [upN_n (show 51 + k ≠ 41 by omega), upN_n (show 45 ≠ 41 by omega)]; intro hk; rw [upN_n (show k ≠ 41 by omega)]; exact a6 k hk, fun k => by rw [upN_n (show 51 + k ≠ 41 by omega), upN_n (show 45 ≠ 41 by omega)]; intro hk; rw [upN_n (show k ≠ 41 by omega)]; exact a7 k hk, fun k k1 k2 => by rw [upN_n (show k ≠ 41 by omega)]; exact a8 k k1 k2⟩
    · rw [if_neg h2] at h; cases h
  · rw [if_neg h1] at h
    cases h
    exact ⟨ht, a1, a2, by omega, a4, a5, a6, a7, a8⟩
theorem enR_r (h : enR tl tc p τ = .inr (e, τ')) : τ' = τ := by
  unfold enR at h
  by_cases h1 : sk tl tc p < tl
  · rw [if_pos h1] at h; cases h
  · rw [if_neg h1] at h; cases h; rfl
theorem prR_z (h : prR tl tc d = .inr (e, τ')) : ZA d τ' := by
  unfold prR at h
  cases h1 : haR tl tc 0 (ls0 d) with
  | inl f => rw [h1, bnd_l] at h; cases h
  | inr a =>
    obtain ⟨e1, τ1⟩ := a
    rw [h1, bnd_r] at h
    obtain ⟨r1, r2, r3⟩ := haR_z rfl ZH_0 ZT_0 h1
    cases h2 : taR tl tc e1 τ1 with
    | inl f => simp only [h2, bnd_l] at h; cases h
    | inr a =>
      obtain ⟨e2, τ2⟩ := a
      simp only [h2, bnd_r] at h
      obtain ⟨r4, r5⟩ := taR_z (by rw [r3]; rfl) r1 r2 h2
      cases h3 : stR tl tc e2 τ2 with
      | inl f => simp only [h3, bnd_l] at h; cases h
      | inr a =>
        obtain ⟨e3, τ3⟩ := a
        simp only [h3, bnd_r] at h
        have := enR_r h
        subst this
        exact stR_z r4 r5 h3
theorem ZA_Ok (h : ZA d τ) (hd : d < 2147483648) : Ok τ := by
  obtain ⟨⟨b1, b2, b3⟩, a1, a2, a3, a4, a5, a6, a7, a8⟩ := h
  have hA : ∀ k, k < 5 → τ (51 + k) ≤ 60 ∧ τ k ≤ 60 := by
    intro k hk
    by_cases h : k < τ 45
    · have := a6 k hk h; omega
    · have := a7 k hk (by omega); omega
  have hB : ∀ k, k < 5 → τ (46 + k) ≤ 4 ∧ τ (5 + k) ≤ 20 := by
    intro k hk
    by_cases h : k < τ 44
    · have := b2 k hk h; omega
    · have := b3 k hk (by omega); omega
  refine ⟨⟨b1, a1, a3, ?_, by omega, by omega, fun k hk => (hB k hk).1, fun k hk => (hB k hk).2, fun k hk => by have := hA k hk; omega, fun k hk => by have := hA k hk; omega, fun k hk => by rw [a8 (35 + k) (by omega) (by omega)]; omega, fun k hk => by rw [a8 (10 + k) (by omega) (by omega)]; omega⟩, by omega, fun j hj => by rw [a8 (35 + j) (by omega) (by omega)]; omega, fun j hj _ => a8 (35 + j) (by omega) (by omega)⟩
  rw [a2]; omega
end CL3
