section INV
variable {n h x y k i v j : Nat} {σ τ π : Nat → Nat} {f : Nat → Nat → Nat} {d : Bool}
theorem Ok_up (hO : Ok σ) (hi : i < 56) (h1 : ¬ (35 ≤ i ∧ i < 40)) (h2 : i ≠ 42) (h : (i = 40 → v < seats σ) ∧ i ≠ 44 ∧ i ≠ 45 ∧ (i = 41 → v ≤ 4) ∧ (i = 42 → v < 100000) ∧ (i = 43 → v < 2147483648) ∧ (46 ≤ i → i < 51 → v ≤ 4) ∧ (5 ≤ i → i < 10 → v ≤ 20) ∧ (i < 5 → v ≤ 99) ∧ (51 ≤ i → v ≤ 99) ∧ (35 ≤ i → i < 40 → v < 1000000) ∧ (10 ≤ i → i < 35 → v ≤ 9)) : Ok (upN σ i v) := by
  obtain ⟨a1, a2, a3, a4⟩ := hO
  refine ⟨Bd_up a1 hi h, by rw [upN_n (by omega)]; exact a2, fun j hj => by rw [upN_n (by omega), upN_n (by omega)]; exact a3 j hj, fun j hj => by rw [upN_n (by omega), upN_n (by omega)]; exact a4 j hj⟩
theorem sit_o (hh : h < 5) (h4 : σ 44 ≤ 5) (hπ : ∀ j, j < 5 → π j < 5) (hj : j < 5) (hne : j ≠ h) : sit π σ h (35 + j) = σ (35 + j) := by
  unfold sit
  split
  · rename_i hp
    have := hπ (pl σ h) (by omega)
    split
    · rw [upN_n (by omega), upN_n (by omega)]
    · rw [upN_n (by omega), upN_n (by omega)]
  · rw [upN_n (by omega)]
theorem evS_o (h4 : σ 44 ≤ 5) (hπ : ∀ j, j < 5 → π j < 5) (hj : j < 5) : ∀ n, n ≤ j → evS π x σ n (35 + j) = σ (35 + j)
  | 0, _ => rfl
  | n + 1, hn => by
    have ih := evS_o h4 hπ hj n (by omega)
    have e4 := evS_fix (x := x) (i := 44) (by omega) h4 hπ n (by omega)
    show (if n = x then evS π x σ n else sit π (evS π x σ n) n) (35 + j) = _
    by_cases hx : n = x
    · rw [if_pos hx]; exact ih
    · rw [if_neg hx, sit_o (by omega) (by omega) hπ hj (by omega)]; exact ih
theorem Ok_ev (hO : Ok σ) (h : σ 42 + 1 ≤ 9999) : Ok (ev σ) ∧ ev σ 42 = σ 42 + 1 ∧ ∀ j, 44 ≤ j → j < 56 → ev σ j = σ j := by
  have hk := Bk_ev (ke := 0) (kl := 0) (Bk_mono (Ok_Bk hO) (by omega) (by omega))
  obtain ⟨a1, a2, a3, a4⟩ := hO
  have b1 := a1.1
  have b2 := a1.2.1
  have e42 : ev σ 42 = σ 42 + 1 := by
    unfold ev gon
    rw [upN_s, evS_fix (π := id) (i := 42) (by omega) b1 (fun j hj => hj) _ b2]
  have ef : ∀ j, 44 ≤ j → j < 56 → ev σ j = σ j := fun j h1 h2 => ev_fix (by omega) b1 b2 (fun j hj => hj)
  have e35 : ∀ j, j < 5 → ev σ (35 + j) ≤ σ (35 + j) + 1 ∧ (σ 45 ≤ j → ev σ (35 + j) = σ (35 + j)) := by
    intro j hj
    by_cases hq : j < σ 45
    · refine ⟨?_, fun z => by omega⟩
      have := ev_35 (h := j) hq b2 b1
      unfold ev
      rw [this]
      split <;> omega
    · have : ev σ (35 + j) = σ (35 + j) := by
        unfold ev
        rw [gon_n (by omega) (by omega)]
        exact evS_o b1 (fun j hj => hj) hj _ (by omega)
      exact ⟨by omega, fun _ => this⟩
  refine ⟨⟨hk.1, by omega, fun j hj => ?_, fun j hj z => ?_⟩, e42, ef⟩
  · have := e35 j hj
    have := a3 j hj
    omega
  · rw [ef 45 (by omega) (by omega)] at z
    rw [(e35 j hj).2 z]
    exact a4 j hj z
theorem drw_n (h45 : σ 45 ≤ 5) (h1 : 5 ≤ i) (h2 : i ≠ 43) : drw σ i = σ i := by
  unfold drw
  split
  · rw [upN_n h2]
  · have := Nat.mod_lt (nxt (σ 43) / 65536) (show 0 < σ 45 by omega)
    rw [upN_n (by omega), upN_n h2]
theorem Ok_stp (hO : Ok σ) : Ok (stp d σ) ∧ ∀ j, 5 ≤ j → j ≠ 43 → stp d σ j = σ j := by
  have hB := Bk_stp (d := d) (Ok_Bk hO)
  obtain ⟨a1, a2, a3, a4⟩ := hO
  have e : ∀ j, 5 ≤ j → j ≠ 43 → stp d σ j = σ j := by
    intro j h1 h2
    unfold stp
    split
    · exact drw_n a1.2.1 h1 h2
    · rfl
  refine ⟨⟨hB.1, by rw [e 42 (by omega) (by omega)]; exact a2, fun j hj => by rw [e _ (by omega) (by omega), e _ (by omega) (by omega)]; exact a3 j hj, fun j hj => by rw [e _ (by omega) (by omega), e _ (by omega) (by omega)]; exact a4 j hj⟩, e⟩
theorem Ok_itS (hO : Ok σ) : ∀ n, σ 42 + n ≤ 9999 → Ok (itS d σ n) ∧ itS d σ n 42 = σ 42 + n ∧ ∀ j, 44 ≤ j → j < 56 → itS d σ n j = σ j
  | 0, _ => ⟨hO, rfl, fun _ _ _ => rfl⟩
  | n + 1, h => by
    obtain ⟨i1, i2, i3⟩ := Ok_itS hO n (by omega)
    obtain ⟨s1, s2⟩ := Ok_stp (d := d) i1
    have s42 := s2 42 (by omega) (by omega)
    obtain ⟨e1, e2, e3⟩ := Ok_ev s1 (by omega)
    exact ⟨e1, by show ev (stp d (itS d σ n)) 42 = _; rw [e2]; omega, fun j h1 h2 => by show ev (stp d (itS d σ n)) j = _; rw [e3 j h1 h2, s2 j (by omega) (by omega), i3 j h1 h2]⟩
theorem IA_it (hI : IA σ k f) (n : Nat) (h : σ 42 + n ≤ 9999) : IA (itS d σ n) (min 8 (k + n)) (itF d σ f n) := by
  have key : ∀ n, σ 42 + n ≤ 9999 → ∀ i, i < k + n → Ok (itF d σ f n i) ∧ ∀ j, 44 ≤ j → j < 56 → itF d σ f n i j = σ j := by
    intro n
    induction n with
    | zero => intro _ i hi; exact hI.2 i hi
    | succ n ih =>
      intro hn i hi
      obtain ⟨i1, i2, i3⟩ := Ok_itS (d := d) hI.1 n (by omega)
      cases i with
      | zero => exact ⟨i1, i3⟩
      | succ i => exact ih (by omega) i (by omega)
  obtain ⟨i1, i2, i3⟩ := Ok_itS (d := d) hI.1 n h
  exact ⟨i1, fun i hi => ⟨(key n h i (by omega)).1, fun j h1 h2 => by rw [(key n h i (by omega)).2 j h1 h2, i3 j h1 h2]⟩⟩
theorem IA_push (hI : IA σ k f) (hO : Ok τ) (h : ∀ j, 44 ≤ j → j < 56 → τ j = σ j) : IA τ (min 8 (k + 1)) (pushF σ f) := by
  refine ⟨hO, fun i hi => ?_⟩
  cases i with
  | zero => exact ⟨hI.1, fun j h1 h2 => (h j h1 h2).symm⟩
  | succ i => exact ⟨(hI.2 i (by omega)).1, fun j h1 h2 => by rw [h j h1 h2]; exact (hI.2 i (by omega)).2 j h1 h2⟩
theorem IA_undo (hI : IA σ (k + 1) f) : IA (f 0) k (fun i => f (i + 1)) := ⟨(hI.2 0 (by omega)).1, fun i hi => ⟨(hI.2 (i + 1) (by omega)).1, fun j h1 h2 => by show f (i + 1) j = f 0 j; rw [(hI.2 (i + 1) (by omega)).2 j h1 h2, (hI.2 0 (by omega)).2 j h1 h2]⟩⟩
theorem IA_seed (hI : IA σ k f) (h : x < 2147483648) : IA (upN σ 43 x) k f := ⟨Ok_up hI.1 (by omega) (by omega) (by omega) ⟨by omega, by omega, by omega, by omega, by omega, by omega, by omega, by omega, by omega, by omega, by omega, by omega⟩, fun i hi => ⟨(hI.2 i hi).1, fun j h1 h2 => by rw [upN_n (by omega)]; exact (hI.2 i hi).2 j h1 h2⟩⟩
theorem IA_0 (hO : Ok σ) : IA σ 0 f := ⟨hO, fun i hi => absurd hi (Nat.not_lt_zero _)⟩
theorem Ok_addT (hO : Ok σ) (h5 : σ 44 < 5) (hx : x ≤ 4) (hy : y ≤ 20) : Ok (addT σ x y) := by
  obtain ⟨⟨b1, b2, b3, b4, b5, b6, b7, b8, b9, b10, b11, b12⟩, a2, a3, a4⟩ := hO
  have e45 : addT σ x y 45 = σ 45 := adT_n h5 (by omega) (by omega) (by omega) (by omega)
  have nn : ∀ j, j ≠ 46 + σ 44 → j ≠ 44 → j ≠ 40 → j ≠ 5 + σ 44 → addT σ x y j = σ j := fun j z1 z2 z3 z4 => adT_n h5 z1 z2 z3 z4
  refine ⟨⟨by rw [addT_44]; omega, by rw [e45]; exact b2, by rw [nn 41 (by omega) (by omega) (by omega) (by omega)]; exact b3, Or.inl ?_, by rw [nn 42 (by omega) (by omega) (by omega) (by omega)]; exact b5, by rw [nn 43 (by omega) (by omega) (by omega) (by omega)]; exact b6, ?_, ?_, ?_, ?_, ?_, ?_⟩, by rw [nn 42 (by omega) (by omega) (by omega) (by omega)]; exact a2, ?_, ?_⟩
  · have : addT σ x y 40 = 0 := by unfold addT; rw [upN_s]
    rw [this]; unfold seats; rw [addT_44]; omega
  · intro j hj
    by_cases hq : j = σ 44
    · subst hq
      have e1 : addT σ x y (46 + σ 44) = x := by unfold addT; rw [upN_n (by omega), upN_n (by omega), upN_n (by omega), upN_s]
      rw [e1]; exact hx
    · rw [nn _ (by omega) (by omega) (by omega) (by omega)]; exact b7 j hj
  · intro j hj
    by_cases hq : j = σ 44
    · subst hq
      have e2 : addT σ x y (5 + σ 44) = y := by unfold addT; rw [upN_n (by omega), upN_n (by omega), upN_s]
      rw [e2]; exact hy
    · rw [nn _ (by omega) (by omega) (by omega) (by omega)]; exact b8 j hj
  · intro j hj; rw [nn _ (by omega) (by omega) (by omega) (by omega)]; exact b9 j hj
  · intro j hj; rw [nn _ (by omega) (by omega) (by omega) (by omega)]; exact b10 j hj
  · intro j hj; rw [nn _ (by omega) (by omega) (by omega) (by omega)]; exact b11 j hj
  · intro j hj; rw [nn _ (by omega) (by omega) (by omega) (by omega)]; exact b12 j hj
  · intro j hj; rw [nn _ (by omega) (by omega) (by omega) (by omega), nn 42 (by omega) (by omega) (by omega) (by omega)]; exact a3 j hj
  · intro j hj; rw [e45, nn _ (by omega) (by omega) (by omega) (by omega)]; exact a4 j hj
theorem adh_n {k : Nat} (h5 : σ 45 < 5) (h1 : k ≠ σ 45) (h2 : k ≠ 45) (h3 : k ≠ 40) (h4 : k ≠ 51 + σ 45) : addH σ x k = σ k := by
  unfold addH
  rw [upN_n h3, upN_n h2, upN_n h1, upN_n h4]
theorem adh_45 : addH σ x 45 = σ 45 + 1 := by
  unfold addH
  rw [upN_n (by omega), upN_s]
theorem Ok_addH (hO : Ok σ) (h5 : σ 45 < 5) (hx : x ≤ 60) : Ok (addH σ x) := by
  obtain ⟨⟨b1, b2, b3, b4, b5, b6, b7, b8, b9, b10, b11, b12⟩, a2, a3, a4⟩ := hO
  have e44 : addH σ x 44 = σ 44 := adh_n h5 (by omega) (by omega) (by omega) (by omega)
  have nn : ∀ j, j ≠ 51 + σ 45 → j ≠ 45 → j ≠ 40 → j ≠ σ 45 → addH σ x j = σ j := fun j z1 z2 z3 z4 => adh_n h5 z4 z2 z3 z1
  refine ⟨⟨by rw [e44]; exact b1, by rw [adh_45]; omega, by rw [nn 41 (by omega) (by omega) (by omega) (by omega)]; exact b3, Or.inl ?_, by rw [nn 42 (by omega) (by omega) (by omega) (by omega)]; exact b5, by rw [nn 43 (by omega) (by omega) (by omega) (by omega)]; exact b6, ?_, ?_, ?_, ?_, ?_, ?_⟩, by rw [nn 42 (by omega) (by omega) (by omega) (by omega)]; exact a2, ?_, ?_⟩
  · have : addH σ x 40 = 0 := by unfold addH; rw [upN_s]
    rw [this]; unfold seats; rw [adh_45]; omega
  · intro j hj; rw [nn _ (by omega) (by omega) (by omega) (by omega)]; exact b7 j hj
  · intro j hj; rw [nn _ (by omega) (by omega) (by omega) (by omega)]; exact b8 j hj
  · intro j hj
    by_cases hq : j = σ 45
    · subst hq
      have e2 : addH σ x (σ 45) = x := by unfold addH; rw [upN_n (by omega), upN_n (by omega), upN_s]
      rw [e2]; omega
    · rw [nn _ (by omega) (by omega) (by omega) hq]; exact b9 j hj
  · intro j hj
    by_cases hq : j = σ 45
    · subst hq
      have e1 : addH σ x (51 + σ 45) = x := by unfold addH; rw [upN_n (by omega), upN_n (by omega), upN_n (by omega), upN_s]
      rw [e1]; omega
    · rw [nn _ (by omega) (by omega) (by omega) (by omega)]; exact b10 j hj
  · intro j hj; rw [nn _ (by omega) (by omega) (by omega) (by omega)]; exact b11 j hj
  · intro j hj; rw [nn _ (by omega) (by omega) (by omega) (by omega)]; exact b12 j hj
  · intro j hj; rw [nn _ (by omega) (by omega) (by omega) (by omega), nn 42 (by omega) (by omega) (by omega) (by omega)]; exact a3 j hj
  · intro j hj z; rw [adh_45] at z; rw [nn _ (by omega) (by omega) (by omega) (by omega)]; exact a4 j hj (by omega)
end INV
