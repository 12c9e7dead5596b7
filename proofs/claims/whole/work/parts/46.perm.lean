def pmL0 : List (List Nat) := [[0, 1, 2, 3, 4]]
def pmL1 : List (List Nat) := [[0, 1, 2, 3, 4]]
def pmL2 : List (List Nat) := [[0, 1, 2, 3, 4], [1, 0, 2, 3, 4]]
def pmL3 : List (List Nat) := [[0, 1, 2, 3, 4], [0, 2, 1, 3, 4], [1, 0, 2, 3, 4], [1, 2, 0, 3, 4], [2, 0, 1, 3, 4], [2, 1, 0, 3, 4]]
def pmL4 : List (List Nat) := [[0, 1, 2, 3, 4], [0, 1, 3, 2, 4], [0, 2, 1, 3, 4], [0, 2, 3, 1, 4], [0, 3, 1, 2, 4], [0, 3, 2, 1, 4], [1, 0, 2, 3, 4], [1, 0, 3, 2, 4], [1, 2, 0, 3, 4], [1, 2, 3, 0, 4], [1, 3, 0, 2, 4], [1, 3, 2, 0, 4], [2, 0, 1, 3, 4], [2, 0, 3, 1, 4], [2, 1, 0, 3, 4], [2, 1, 3, 0, 4], [2, 3, 0, 1, 4], [2, 3, 1, 0, 4], [3, 0, 1, 2, 4], [3, 0, 2, 1, 4], [3, 1, 0, 2, 4], [3, 1, 2, 0, 4], [3, 2, 0, 1, 4], [3, 2, 1, 0, 4]]
def pmL5 : List (List Nat) := [[0, 1, 2, 3, 4], [0, 1, 2, 4, 3], [0, 1, 3, 2, 4], [0, 1, 3, 4, 2], [0, 1, 4, 2, 3], [0, 1, 4, 3, 2], [0, 2, 1, 3, 4], [0, 2, 1, 4, 3], [0, 2, 3, 1, 4], [0, 2, 3, 4, 1], [0, 2, 4, 1, 3], [0, 2, 4, 3, 1], [0, 3, 1, 2, 4], [0, 3, 1, 4, 2], [0, 3, 2, 1, 4], [0, 3, 2, 4, 1], [0, 3, 4, 1, 2], [0, 3, 4, 2, 1], [0, 4, 1, 2, 3], [0, 4, 1, 3, 2], [0, 4, 2, 1, 3], [0, 4, 2, 3, 1], [0, 4, 3, 1, 2], [0, 4, 3, 2, 1], [1, 0, 2, 3, 4], [1, 0, 2, 4, 3], [1, 0, 3, 2, 4], [1, 0, 3, 4, 2], [1, 0, 4, 2, 3], [1, 0, 4, 3, 2], [1, 2, 0, 3, 4], [1, 2, 0, 4, 3], [1, 2, 3, 0, 4], [1, 2, 3, 4, 0], [1, 2, 4, 0, 3], [1, 2, 4, 3, 0], [1, 3, 0, 2, 4], [1, 3, 0, 4, 2], [1, 3, 2, 0, 4], [1, 3, 2, 4, 0], [1, 3, 4, 0, 2], [1, 3, 4, 2, 0], [1, 4, 0, 2, 3], [1, 4, 0, 3, 2], [1, 4, 2, 0, 3], [1, 4, 2, 3, 0], [1, 4, 3, 0, 2], [1, 4, 3, 2, 0], [2, 0, 1, 3, 4], [2, 0, 1, 4, 3], [2, 0, 3, 1, 4], [2, 0, 3, 4, 1], [2, 0, 4, 1, 3], [2, 0, 4, 3, 1], [2, 1, 0, 3, 4], [2, 1, 0, 4, 3], [2, 1, 3, 0, 4], [2, 1, 3, 4, 0], [2, 1, 4, 0, 3], [2, 1, 4, 3, 0], [2, 3, 0, 1, 4], [2, 3, 0, 4, 1], [2, 3, 1, 0, 4], [2, 3, 1, 4, 0], [2, 3, 4, 0, 1], [2, 3, 4, 1, 0], [2, 4, 0, 1, 3], [2, 4, 0, 3, 1], [2, 4, 1, 0, 3], [2, 4, 1, 3, 0], [2, 4, 3, 0, 1], [2, 4, 3, 1, 0], [3, 0, 1, 2, 4], [3, 0, 1, 4, 2], [3, 0, 2, 1, 4], [3, 0, 2, 4, 1], [3, 0, 4, 1, 2], [3, 0, 4, 2, 1], [3, 1, 0, 2, 4], [3, 1, 0, 4, 2], [3, 1, 2, 0, 4], [3, 1, 2, 4, 0], [3, 1, 4, 0, 2], [3, 1, 4, 2, 0], [3, 2, 0, 1, 4], [3, 2, 0, 4, 1], [3, 2, 1, 0, 4], [3, 2, 1, 4, 0], [3, 2, 4, 0, 1], [3, 2, 4, 1, 0], [3, 4, 0, 1, 2], [3, 4, 0, 2, 1], [3, 4, 1, 0, 2], [3, 4, 1, 2, 0], [3, 4, 2, 0, 1], [3, 4, 2, 1, 0], [4, 0, 1, 2, 3], [4, 0, 1, 3, 2], [4, 0, 2, 1, 3], [4, 0, 2, 3, 1], [4, 0, 3, 1, 2], [4, 0, 3, 2, 1], [4, 1, 0, 2, 3], [4, 1, 0, 3, 2], [4, 1, 2, 0, 3], [4, 1, 2, 3, 0], [4, 1, 3, 0, 2], [4, 1, 3, 2, 0], [4, 2, 0, 1, 3], [4, 2, 0, 3, 1], [4, 2, 1, 0, 3], [4, 2, 1, 3, 0], [4, 2, 3, 0, 1], [4, 2, 3, 1, 0], [4, 3, 0, 1, 2], [4, 3, 0, 2, 1], [4, 3, 1, 0, 2], [4, 3, 1, 2, 0], [4, 3, 2, 0, 1], [4, 3, 2, 1, 0]]
def pmL (T : Nat) : List (List Nat) := match T with
  | 0 => pmL0
  | 1 => pmL1
  | 2 => pmL2
  | 3 => pmL3
  | 4 => pmL4
  | _ => pmL5
/-- the i-th order of T tellers -/
def pm (T i : Nat) : Nat → Nat := fun k => ((pmL T).getD i []).getD k 0
def pcn (T : Nat) : Nat := match T with
  | 0 => 1
  | 1 => 1
  | 2 => 2
  | 3 => 6
  | 4 => 24
  | _ => 120
def swp (π : Nat → Nat) (i j : Nat) : Nat → Nat := fun k => if k = i then π j else if k = j then π i else π k
def rsr (π : Nat → Nat) : Nat → Nat
  | 0 => 0
  | n + 1 => if π (n + 1) < π n then rsr π n else n + 1
def lgr (π : Nat → Nat) (r : Nat) : Nat → Nat
  | 0 => 0
  | n + 1 => if π (n + 1) < π r then lgr π r n else n + 1
def rvs : Nat → (Nat → Nat) → Nat → Nat → Nat → Nat
  | 0, π, _, _ => π
  | f + 1, π, lo, hi => if lo < hi then rvs f (swp π lo hi) (lo + 1) (hi - 1) else π
def nxf (T : Nat) (π : Nat → Nat) : Nat → Nat := rvs 5 (swp π (rsr π (T - 1) - 1) (lgr π (rsr π (T - 1) - 1) (T - 1))) (rsr π (T - 1)) (T - 1)
def okN (T : Nat) : Bool := (List.range (pcn T)).all fun i => (List.range 5).all fun k => (if i + 1 < pcn T then (decide (rsr (pm T i) (T - 1) ≠ 0) && Nat.beq (nxf T (pm T i) k) (pm T (i + 1) k)) else decide (rsr (pm T i) (T - 1) = 0)) && Nat.blt (pm T i k) 5 && (if k < T then Nat.blt (pm T i k) T else Nat.beq (pm T i k) k) && (List.range 5).all fun j => decide (pm T i k = pm T i j → k = j)
theorem okN_t : ∀ T, T < 6 → okN T = true := by decide +kernel
section PRM
variable {T i k j : Nat}
theorem pm_all (hT : T ≤ 5) (hi : i < pcn T) (hk : k < 5) : (if i + 1 < pcn T then (rsr (pm T i) (T - 1) ≠ 0 ∧ nxf T (pm T i) k = pm T (i + 1) k) else rsr (pm T i) (T - 1) = 0) ∧ pm T i k < 5 ∧ (k < T → pm T i k < T) ∧ (T ≤ k → pm T i k = k) ∧ ∀ j, j < 5 → pm T i k = pm T i j → k = j := by
  have h := okN_t T (by omega)
  unfold okN at h
  rw [List.all_eq_true] at h
  have h := h i (List.mem_range.mpr hi)
  rw [List.all_eq_true] at h
  have h := h k (List.mem_range.mpr hk)
  rw [Bool.and_eq_true, Bool.and_eq_true, Bool.and_eq_true] at h
  obtain ⟨⟨⟨h1, h2⟩, h3⟩, h4⟩ := h
  refine ⟨?_, by simpa [Nat.blt_eq] using h2, ?_, ?_, ?_⟩
  · by_cases hq : i + 1 < pcn T
    · rw [if_pos hq] at h1 ⊢
      rw [Bool.and_eq_true, decide_eq_true_eq] at h1
      exact ⟨h1.1, Nat.eq_of_beq_eq_true h1.2⟩
    · rw [if_neg hq] at h1 ⊢
      exact of_decide_eq_true h1
  · intro hkT; rw [if_pos hkT] at h3; simpa [Nat.blt_eq] using h3
  · intro hkT; rw [if_neg (by omega)] at h3; exact Nat.eq_of_beq_eq_true h3
  · intro j hj
    rw [List.all_eq_true] at h4
    exact of_decide_eq_true (h4 j (List.mem_range.mpr hj))
theorem pm_0 : ∀ T, T < 6 → ∀ k, k < 5 → pm T 0 k = k := by decide +kernel
theorem pcn_le (hT : T ≤ 5) : 0 < pcn T ∧ pcn T ≤ 120 := by
  rcases (show T = 0 ∨ T = 1 ∨ T = 2 ∨ T = 3 ∨ T = 4 ∨ T = 5 by omega) with rfl | rfl | rfl | rfl | rfl | rfl <;> decide
end PRM
/-- two states are one but for who sits where -/
def PR (π τ ρ : Nat → Nat) : Prop := (∀ k, k < ρ 44 → τ (46 + k) = ρ (46 + π k) ∧ τ (5 + k) = ρ (5 + π k)) ∧ (∀ h k, h < ρ 45 → k < ρ 44 → τ (10 + (h * 5 + k)) = ρ (10 + (h * 5 + π k))) ∧ (∀ h, h < ρ 45 → τ h = ρ h ∧ τ (51 + h) = ρ (51 + h)) ∧ τ 40 = ρ 40 ∧ τ 41 = ρ 41 ∧ τ 42 = ρ 42 ∧ τ 44 = ρ 44 ∧ τ 45 = ρ 45
/-- no two sit at one place -/
def Inj (π : Nat → Nat) (T : Nat) : Prop := (∀ k, k < T → π k < T) ∧ ∀ k j, k < T → j < T → π k = π j → k = j
section PRS
variable {π τ ρ : Nat → Nat} {h n i v : Nat}
theorem PR_pl (H : PR π τ ρ) : pl τ h = pl ρ h ∧ seats τ = seats ρ := by
  obtain ⟨-, -, -, h0, h1, h2, h4, h5⟩ := H
  have : seats τ = seats ρ := by unfold seats; rw [h4, h5]
  exact ⟨by unfold pl; rw [this, h0], this⟩
theorem PR_cst (H : PR π τ ρ) (hh : h < ρ 45) (hp : n < ρ 44) : cst τ h n = cst ρ h (π n) := by
  obtain ⟨a1, a2, a3, h0, h1, h2, h4, h5⟩ := H
  unfold cst
  rw [(a1 n hp).1, (a1 n hp).2, a2 h n hh hp, (a3 h hh).1, h2]
theorem PR_sitO (H : PR π τ ρ) (hh : h < ρ 45) : sitO id τ h = sitO π ρ h := by
  unfold sitO
  rw [(PR_pl H).1, H.2.2.2.2.2.2.1]
  by_cases hp : pl ρ h < ρ 44
  · rw [if_pos hp, if_pos hp, (H.2.2.1 h hh).1]
    simp only [id]
    simp only [PR_cst H hh hp]
  · rw [if_neg hp, if_neg hp]
theorem upN_if {σ : Nat → Nat} {k v j : Nat} : upN σ k v j = if j = k then v else σ j := rfl
theorem PR_sit (H : PR π τ ρ) (hI : Inj π (ρ 44)) (hT : ρ 44 ≤ 5) (h5 : ρ 45 ≤ 5) (hh : h < ρ 45) : PR π (sit id τ h) (sit π ρ h) := by
  have hO := PR_sitO H hh
  have H0 := H
  obtain ⟨a1, a2, a3, c0, c1, c2, c4, c5⟩ := H
  have hpl := (PR_pl (h := h) H0).1
  unfold sit
  rw [hpl, c4]
  by_cases hp : pl ρ h < ρ 44
  · have hpi := hI.1 _ hp
    rw [if_pos hp, if_pos hp, (a3 h hh).1]
    simp only [id]
    simp only [PR_cst H0 hh hp]
    split
    · refine ⟨?_, ?_, ?_, ?_⟩
      · intro k hk
        simp only [upN_if] at hk ⊢
        rw [if_neg (by omega), if_neg (by omega)] at hk
        have := hI.1 k hk
        rw [if_neg (by omega), if_neg (by omega), if_neg (by omega), if_neg (by omega), if_neg (by omega), if_neg (by omega), if_neg (by omega), if_neg (by omega)]
        exact a1 k hk
      · intro g k hg hk
        simp only [upN_if] at hg hk ⊢
        rw [if_neg (by omega), if_neg (by omega)] at hg hk
        have := hI.1 k hk
        rw [if_neg (by omega), if_neg (by omega), if_neg (by omega), if_neg (by omega)]
        exact a2 g k hg hk
      · intro g hg
        simp only [upN_if] at hg ⊢
        rw [if_neg (by omega), if_neg (by omega)] at hg
        refine ⟨?_, ?_⟩
        · by_cases hq : g = h
          · rw [if_pos hq, if_pos hq]
          · rw [if_neg hq, if_neg hq, if_neg (by omega), if_neg (by omega)]; exact (a3 g hg).1
        · rw [if_neg (by omega), if_neg (by omega), if_neg (by omega), if_neg (by omega)]; exact (a3 g hg).2
      · simp only [upN_if]
        refine ⟨?_, ?_, ?_, ?_, ?_⟩ <;> rw [if_neg (by omega), if_neg (by omega), if_neg (by omega), if_neg (by omega)] <;> assumption
    · refine ⟨?_, ?_, ?_, ?_⟩
      · intro k hk
        simp only [upN_if] at hk ⊢
        rw [if_neg (by omega), if_neg (by omega)] at hk
        have := hI.1 k hk
        rw [if_neg (by omega), if_neg (by omega), if_neg (by omega), if_neg (by omega), if_neg (by omega), if_neg (by omega), if_neg (by omega), if_neg (by omega)]
        exact a1 k hk
      · intro g k hg hk
        simp only [upN_if] at hg hk ⊢
        rw [if_neg (by omega), if_neg (by omega)] at hg hk
        have := hI.1 k hk
        by_cases hq : g = h ∧ k = pl ρ h
        · obtain ⟨rfl, rfl⟩ := hq
          rw [if_pos rfl, if_pos rfl, a2 g _ hg hk]
        · have hq2 : ¬ (10 + (g * 5 + π k) = 10 + (h * 5 + π (pl ρ h))) := by
            intro e
            have e1 : g = h := by omega
            subst e1
            have e2 : π k = π (pl ρ g) := by omega
            exact hq ⟨rfl, hI.2 k _ hk hp e2⟩
          rw [if_neg (by omega), if_neg (by omega), if_neg hq2, if_neg (by omega)]
          exact a2 g k hg hk
      · intro g hg
        simp only [upN_if] at hg ⊢
        rw [if_neg (by omega), if_neg (by omega)] at hg
        refine ⟨?_, ?_⟩
        · rw [if_neg (show ¬ g = 10 + (h * 5 + pl ρ h) by omega), if_neg (show ¬ g = 10 + (h * 5 + π (pl ρ h)) by omega)]
          by_cases hq : g = h
          · rw [if_pos hq, if_pos hq]
          · rw [if_neg hq, if_neg hq]; exact (a3 g hg).1
        · rw [if_neg (by omega), if_neg (by omega), if_neg (by omega), if_neg (by omega)]; exact (a3 g hg).2
      · simp only [upN_if]
        refine ⟨?_, ?_, ?_, ?_, ?_⟩ <;> rw [if_neg (by omega), if_neg (by omega), if_neg (by omega), if_neg (by omega)] <;> assumption
  · rw [if_neg hp, if_neg hp, (a3 h hh).1, (a3 h hh).2]
    refine ⟨?_, ?_, ?_, ?_⟩
    · intro k hk
      simp only [upN_if] at hk ⊢
      rw [if_neg (by omega)] at hk
      have := hI.1 k hk
      rw [if_neg (by omega), if_neg (by omega), if_neg (by omega), if_neg (by omega)]
      exact a1 k hk
    · intro g k hg hk
      simp only [upN_if] at hg hk ⊢
      rw [if_neg (by omega)] at hg hk
      have := hI.1 k hk
      rw [if_neg (by omega), if_neg (by omega)]
      exact a2 g k hg hk
    · intro g hg
      simp only [upN_if] at hg ⊢
      rw [if_neg (by omega)] at hg
      refine ⟨?_, ?_⟩
      · by_cases hq : g = h
        · rw [if_pos hq, if_pos hq]
        · rw [if_neg hq, if_neg hq]; exact (a3 g hg).1
      · rw [if_neg (by omega), if_neg (by omega)]; exact (a3 g hg).2
    · simp only [upN_if]
      refine ⟨?_, ?_, ?_, ?_, ?_⟩ <;> rw [if_neg (by omega), if_neg (by omega)] <;> assumption
theorem PR_evS (H : PR π τ ρ) (hI : Inj π (ρ 44)) (hπ : ∀ j, j < 5 → π j < 5) (hT : ρ 44 ≤ 5) (h5 : ρ 45 ≤ 5) : ∀ n, n ≤ ρ 45 → PR π (evS id 9 τ n) (evS π 9 ρ n) ∧ evH id 9 τ n = evH π 9 ρ n ∧ evL id 9 τ n = evL π 9 ρ n := by
  intro n
  induction n with
  | zero => intro _; exact ⟨H, rfl, rfl⟩
  | succ n ih =>
    intro hn
    obtain ⟨i1, i2, i3⟩ := ih (by omega)
    have e4 : evS π 9 ρ n 44 = ρ 44 := evS_fix (by omega) hT hπ n (by omega)
    have e5 : evS π 9 ρ n 45 = ρ 45 := evS_fix (by omega) hT hπ n (by omega)
    have hO := PR_sitO (h := n) i1 (by omega)
    refine ⟨?_, ?_, ?_⟩
    · show PR π (if n = 9 then evS id 9 τ n else sit id (evS id 9 τ n) n) (if n = 9 then evS π 9 ρ n else sit π (evS π 9 ρ n) n)
      rw [if_neg (by omega), if_neg (by omega)]
      exact PR_sit i1 (by rw [e4]; exact hI) (by omega) (by omega) (by omega)
    · unfold evH; rw [i2, hO]
    · unfold evL; rw [i3, hO]
theorem PR_gon (H : PR π τ ρ) (hI : Inj π (ρ 44)) (hT : ρ 44 ≤ 5) (h5 : ρ 45 ≤ 5) : PR π (gon τ) (gon ρ) := by
  have hs := (PR_pl (h := 0) H).2
  have e44 : gon ρ 44 = ρ 44 := gon_n (by omega) (by omega)
  have e45 : gon ρ 45 = ρ 45 := gon_n (by omega) (by omega)
  obtain ⟨a1, a2, a3, c0, c1, c2, c4, c5⟩ := H
  refine ⟨?_, ?_, ?_, ?_, ?_, ?_, ?_, ?_⟩
  · intro k hk
    rw [e44] at hk
    have := hI.1 k hk
    rw [gon_n (by omega) (by omega), gon_n (by omega) (by omega), gon_n (by omega) (by omega), gon_n (by omega) (by omega)]
    exact a1 k hk
  · intro g k hg hk
    rw [e44] at hk
    rw [e45] at hg
    have := hI.1 k hk
    rw [gon_n (by omega) (by omega), gon_n (by omega) (by omega)]
    exact a2 g k hg hk
  · intro g hg
    rw [e45] at hg
    rw [gon_n (by omega) (by omega), gon_n (by omega) (by omega), gon_n (by omega) (by omega), gon_n (by omega) (by omega)]
    exact a3 g hg
  · unfold gon; rw [upN_n (by decide), upN_s, upN_n (by decide), upN_s, hs, c0, c1]
  · rw [gon_n (by omega) (by omega), gon_n (by omega) (by omega)]; exact c1
  · unfold gon; rw [upN_s, upN_s, c2]
  · rw [gon_n (by omega) (by omega), gon_n (by omega) (by omega)]; exact c4
  · rw [gon_n (by omega) (by omega), gon_n (by omega) (by omega)]; exact c5
theorem PR_it (H : PR π τ ρ) (hI : Inj π (ρ 44)) (hπ : ∀ j, j < 5 → π j < 5) (hT : ρ 44 ≤ 5) (h5 : ρ 45 ≤ 5) : ∀ n, PR π (itP id τ n) (itP π ρ n) ∧ hP id τ n = hP π ρ n ∧ lP id τ n = lP π ρ n := by
  intro n
  induction n with
  | zero => exact ⟨H, rfl, rfl⟩
  | succ n ih =>
    obtain ⟨i1, i2, i3⟩ := ih
    have e4 : itP π ρ n 44 = ρ 44 := itP_fix (by omega) hT h5 hπ n
    have e5 : itP π ρ n 45 = ρ 45 := itP_fix (by omega) hT h5 hπ n
    have e5' : itP id τ n 45 = itP π ρ n 45 := i1.2.2.2.2.2.2.2
    obtain ⟨k1, k2, k3⟩ := PR_evS i1 (by rw [e4]; exact hI) hπ (by omega) (by omega) (itP π ρ n 45) (Nat.le_refl _)
    have f4 : evS π 9 (itP π ρ n) (itP π ρ n 45) 44 = itP π ρ n 44 := evS_fix (by omega) (by omega) hπ _ (by omega)
    have f5 : evS π 9 (itP π ρ n) (itP π ρ n 45) 45 = itP π ρ n 45 := evS_fix (by omega) (by omega) hπ _ (by omega)
    refine ⟨?_, ?_, ?_⟩
    · show PR π (gon (evS id 9 (itP id τ n) (itP id τ n 45))) (gon (evS π 9 (itP π ρ n) (itP π ρ n 45)))
      rw [e5']
      exact PR_gon k1 (by rw [f4, e4]; exact hI) (by omega) (by omega)
    · show hP id τ n + evH id 9 (itP id τ n) (itP id τ n 45) = hP π ρ n + evH π 9 (itP π ρ n) (itP π ρ n 45)
      rw [i2, e5', k2]
    · show lP id τ n + evL id 9 (itP id τ n) (itP id τ n 45) = lP π ρ n + evL π 9 (itP π ρ n) (itP π ρ n 45)
      rw [i3, e5', k3]
end PRS
/-- an order in a row -/
def OV (m : Nat → Nat → Int32) (a : Nat) (π : Nat → Nat) (B : Nat) : Prop := ∀ k, k < B → m a k = nI (π k) ∧ π k < 5
theorem OV_swp {m : Nat → Nat → Int32} {a B i j : Nat} {π : Nat → Nat} (h : OV m a π B) (hi : i < B) (hj : j < B) : OV (up2 (up2 m a i (nI (π j))) a j (nI (π i))) a (swp π i j) B := by
  intro k hk
  unfold swp
  by_cases e1 : k = i
  · rw [if_pos e1]
    refine ⟨?_, (h j hj).2⟩
    subst e1
    by_cases e2 : k = j
    · subst e2; rw [up2_s]
    · rw [up2_k e2, up2_s]
  · rw [if_neg e1]
    by_cases e2 : k = j
    · rw [if_pos e2]; subst e2; rw [up2_s]; exact ⟨rfl, (h i hi).2⟩
    · rw [if_neg e2, up2_k e2, up2_k e1]; exact h k hk
def rz (n : Nat) : Int32 := if n = 0 then -1 else nI (n - 1)
theorem ni_dec {a : Nat} (h : 1 ≤ a) : nI a + (-1) = nI (a - 1) := by
  have : nI a + (-1) = nI a - nI 1 := by
    rw [Int32.sub_eq_add_neg]; rfl
  rw [this, ni_sub h]
section ORD
variable {G : List AT} {m : Nat → Nat → Int32} {ml : Nat → Nat → Int64} {a n s h t x y z k l p q r g B T i j : Nat} {σ ρ π : Nat → Nat}
theorem r_X0_swap (ha : atg G a = 10) (hr : rfn G a 0 = a + 1) (ht : atg G (a + 1) = 0) (hl : aln G (a + 1) = 5) (hV : OV m (a + 1) π B) (hB : B ≤ 5) (hi : i < B) (hj : j < B) : res mX0_swap [.ref a, .int (nI i), .int (nI j)] (G, m, ml) = some (none, (G, up2 (up2 m (a + 1) i (nI (π j))) (a + 1) j (nI (π i)), ml)) := by
  have x1 := (hV i hi).1
  have x2 := (hV j hj).1
  apply res_of
  show Wp mX0_swap 0 [some (.ref a), some (.int (nI i)), some (.int (nI j)), none] [] (G, m, ml) _
  simp (maxSteps := 1000000) (decide := true) (disch := (first | assumption | omega | exact Nat.div_mul_le_self _ _ | exact ni_nz (by omega) (by omega) | exact rfl | exact retOk_bI _ | exact retOk_0 | exact retOk_1)) only [eX0_swap_0, eX0_swap_1, eX0_swap_4, eX0_swap_5, eX0_swap_6, eX0_swap_7, eX0_swap_8, eX0_swap_11, eX0_swap_12, eX0_swap_13, eX0_swap_16, eX0_swap_17, eX0_swap_18, eX0_swap_19, eX0_swap_20, eX0_swap_23, eX0_swap_24, eX0_swap_25, eX0_swap_26, hr, x1, x2, WpR_some, Option.toList_some, Option.toList_none, List.cons_append, List.nil_append, List.append_nil, clr_n, clr_i, clr_a, ni_add, ni_mul, ni_sub, ni_lt, ni_le, ni_eq, ni_div, nat_mod_eq, ni_rem, iMax_nn, iMin_nn, iMax_sub, Nat.zero_max, bI_0, bI_1, bI_n0, up2_s, up2_n, up2_k, va_up_self, va_up_ne, ni_l, lN_mul, lN_add, ln_mask, lN_i, ↓reduceIte, if_true, if_false, not_true_eq_false, not_false_eq_true, ite_self, Nat.add_zero, Nat.zero_add, ent_def]
theorem r_X7_swapSits (hG : GM G) (hV : OV m 164 π 5) (hi : i < 5) (hj : j < 5) : res mX7_swapSits [.ref 158, .int (nI i), .int (nI j)] (G, m, ml) = some (none, (G, up2 (up2 m 164 i (nI (π j))) 164 j (nI (π i)), ml)) := by
  obtain ⟨⟨g0, g1, g2, g3, g4, g5, g6, -⟩, ⟨a0, a1, a2, a3, a4, a5, -⟩, ⟨l0, l1, l2, l3, l4, l5, -⟩⟩ := hG
  have x1 := (hV i hi).1
  have x2 := (hV j hj).1
  apply res_of
  show Wp mX7_swapSits 0 [some (.ref 158), some (.int (nI i)), some (.int (nI j)), none] [] (G, m, ml) _
  simp (maxSteps := 1000000) (decide := true) (disch := (first | assumption | omega | exact Nat.div_mul_le_self _ _ | exact ni_nz (by omega) (by omega) | exact rfl | exact retOk_bI _ | exact retOk_0 | exact retOk_1)) only [eX7_swapSits_0, eX7_swapSits_1, eX7_swapSits_4, eX7_swapSits_5, eX7_swapSits_6, eX7_swapSits_7, eX7_swapSits_8, eX7_swapSits_11, eX7_swapSits_12, eX7_swapSits_13, eX7_swapSits_16, eX7_swapSits_17, eX7_swapSits_18, eX7_swapSits_19, eX7_swapSits_20, eX7_swapSits_23, eX7_swapSits_24, eX7_swapSits_25, eX7_swapSits_26, g6, x1, x2, WpR_some, Option.toList_some, Option.toList_none, List.cons_append, List.nil_append, List.append_nil, clr_n, clr_i, clr_a, ni_add, ni_mul, ni_sub, ni_lt, ni_le, ni_eq, ni_div, nat_mod_eq, ni_rem, iMax_nn, iMin_nn, iMax_sub, Nat.zero_max, bI_0, bI_1, bI_n0, up2_s, up2_n, up2_k, va_up_self, va_up_ne, ni_l, lN_mul, lN_add, ln_mask, lN_i, ↓reduceIte, if_true, if_false, not_true_eq_false, not_false_eq_true, ite_self, Nat.add_zero, Nat.zero_add, ent_def]
theorem rsr_lt {n : Nat} : rsr π n ≤ n := by
  induction n with
  | zero => exact Nat.le_refl _
  | succ n ih => unfold rsr; split <;> omega
theorem r_X0_advance (ha : atg G a = 10) (hr : rfn G a 0 = a + 1) (ht : atg G (a + 1) = 0) (hl : aln G (a + 1) = 5) (hV : OV m (a + 1) π T) (hT : T ≤ 5) (hs : m a 1 = nI T) : ∃ m', res mX0_advance [.ref a] (G, m, ml) = some (some (.int (bI (decide (rsr π (T - 1) ≠ 0)))), (G, m', ml)) ∧ (rsr π (T - 1) ≠ 0 → OV m' (a + 1) (nxf T π) T) ∧ (∀ b, b ≠ a + 1 → m' b = m b) := by
  have key : Wp mX0_advance 0 (ent [.ref a] 5) [] (G, m, ml) (fun r μ' => ∃ m', r = some (.int (bI (decide (rsr π (T - 1) ≠ 0)))) ∧ μ' = (G, m', ml) ∧ (rsr π (T - 1) ≠ 0 → OV m' (a + 1) (nxf T π) T) ∧ (∀ b, b ≠ a + 1 → m' b = m b)) := by
    show Wp mX0_advance 0 [some (.ref a), none, none, none, none] [] (G, m, ml) _
    generalize hQ : (fun (r : Option Value) (μ' : Mm) => ∃ m', r = some (.int (bI (decide (rsr π (T - 1) ≠ 0)))) ∧ μ' = (G, m', ml) ∧ (rsr π (T - 1) ≠ 0 → OV m' (a + 1) (nxf T π) T) ∧ (∀ b, b ≠ a + 1 → m' b = m b)) = Q
    have none_ : rsr π (T - 1) = 0 → Q (some (.int (nI 0))) (G, m, ml) := fun h0 => by
      rw [← hQ]
      exact ⟨m, by rw [h0]; rfl, rfl, fun h => absurd h0 h, fun _ _ => rfl⟩
    by_cases hT2 : T < 2
    · have f1 := none_ (by rw [show T - 1 = 0 by omega]; rfl)
      rcases (show T = 0 ∨ T = 1 by omega) with rfl | rfl
      · simp (maxSteps := 1000000) (decide := true) (disch := (first | assumption | omega | exact Nat.div_mul_le_self _ _ | exact ni_nz (by omega) (by omega) | exact rfl | exact retOk_bI _ | exact retOk_0 | exact retOk_1)) only [eX0_advance_0, eX0_advance_1, eX0_advance_4, eX0_advance_5, eX0_advance_6, eX0_advance_7, eX0_advance_8, eX0_advance_11, eX0_advance_12, eX0_advance_15, eX0_advance_16, eX0_advance_17, eX0_advance_18, eX0_advance_21, eX0_advance_22, eX0_advance_23, eX0_advance_24, eX0_advance_25, eX0_advance_28, eX0_advance_31, eX0_advance_34, eX0_advance_35, eX0_advance_38, eX0_advance_39, hs, WpR_some, Option.toList_some, Option.toList_none, List.cons_append, List.nil_append, List.append_nil, clr_n, clr_i, clr_a, ni_add, ni_mul, ni_sub, ni_lt, ni_le, ni_eq, ni_div, nat_mod_eq, ni_rem, iMax_nn, iMin_nn, iMax_sub, Nat.zero_max, bI_0, bI_1, bI_n0, up2_s, up2_n, up2_k, va_up_self, va_up_ne, ni_l, lN_mul, lN_add, ln_mask, lN_i, ↓reduceIte, if_true, if_false, not_true_eq_false, not_false_eq_true, ite_self, Nat.add_zero, Nat.zero_add, ent_def]
        exact f1
      · simp (maxSteps := 1000000) (decide := true) (disch := (first | assumption | omega | exact Nat.div_mul_le_self _ _ | exact ni_nz (by omega) (by omega) | exact rfl | exact retOk_bI _ | exact retOk_0 | exact retOk_1)) only [eX0_advance_0, eX0_advance_1, eX0_advance_4, eX0_advance_5, eX0_advance_6, eX0_advance_7, eX0_advance_8, eX0_advance_11, eX0_advance_12, eX0_advance_15, eX0_advance_16, eX0_advance_17, eX0_advance_18, eX0_advance_21, eX0_advance_22, eX0_advance_23, eX0_advance_24, eX0_advance_25, eX0_advance_28, eX0_advance_31, eX0_advance_34, eX0_advance_35, eX0_advance_38, eX0_advance_39, hs, WpR_some, Option.toList_some, Option.toList_none, List.cons_append, List.nil_append, List.append_nil, clr_n, clr_i, clr_a, ni_add, ni_mul, ni_sub, ni_lt, ni_le, ni_eq, ni_div, nat_mod_eq, ni_rem, iMax_nn, iMin_nn, iMax_sub, Nat.zero_max, bI_0, bI_1, bI_n0, up2_s, up2_n, up2_k, va_up_self, va_up_ne, ni_l, lN_mul, lN_add, ln_mask, lN_i, ↓reduceIte, if_true, if_false, not_true_eq_false, not_false_eq_true, ite_self, Nat.add_zero, Nat.zero_add, ent_def]
        exact f1
    · -- the third loop
      have rest3 : ∀ r l, r + 1 < T → l < T → rsr π (T - 1) = r + 1 → lgr π r (T - 1) = l → Wp mX0_advance 73 ([some (.ref a), some (.int (nI r)), some (.int (nI l)), none, none]) [] (G, m, ml) Q := by
        intro r l hr1 hl1 hr2 hl2
        have eS := r_X0_swap (ml := ml) ha hr ht hl hV hT (show r < T by omega) hl1
        have V1 := OV_swp hV (show r < T by omega) hl1
        have s1 : up2 (up2 m (a + 1) r (nI (π l))) (a + 1) l (nI (π r)) a 1 = nI T := by rw [up2_n (by omega), up2_n (by omega)]; exact hs
        have hnx : nxf T π = rvs 5 (swp π r l) (r + 1) (T - 1) := by unfold nxf; rw [hr2, Nat.add_sub_cancel, hl2]
        simp (maxSteps := 1000000) (decide := true) (disch := (first | assumption | omega | exact Nat.div_mul_le_self _ _ | exact ni_nz (by omega) (by omega) | exact rfl | exact retOk_bI _ | exact retOk_0 | exact retOk_1)) only [eX0_advance_73, eX0_advance_74, eX0_advance_75, eX0_advance_76, eX0_advance_79, eX0_advance_80, eX0_advance_81, eX0_advance_82, eX0_advance_83, eX0_advance_84, eX0_advance_87, eX0_advance_88, eX0_advance_89, eX0_advance_92, eX0_advance_94, eX0_advance_97, eX0_advance_98, eX0_advance_99, eX0_advance_101, eX0_advance_104, eX0_advance_107, eX0_advance_110, eX0_advance_113, eX0_advance_114, eS, s1, WpR_some, Option.toList_some, Option.toList_none, List.cons_append, List.nil_append, List.append_nil, clr_n, clr_i, clr_a, ni_add, ni_mul, ni_sub, ni_lt, ni_le, ni_eq, ni_div, nat_mod_eq, ni_rem, iMax_nn, iMin_nn, iMax_sub, Nat.zero_max, bI_0, bI_1, bI_n0, up2_s, up2_n, up2_k, va_up_self, va_up_ne, ni_l, lN_mul, lN_add, ln_mask, lN_i, ↓reduceIte, if_true, if_false, not_true_eq_false, not_false_eq_true, ite_self, Nat.add_zero, Nat.zero_add, ent_def]
        refine wp_for (X := Nat → Nat) (fun i _ => [some (.ref a), some (.int (nI r)), some (.int (nI l)), some (.int (nI (r + 1 + i))), some (.int (nI (T - 1 - i)))]) (fun i z μ => ∃ m2, μ = (G, m2, ml) ∧ OV m2 (a + 1) z T ∧ rvs 5 (swp π r l) (r + 1) (T - 1) = rvs (5 - i) z (r + 1 + i) (T - 1 - i) ∧ r + 1 + 2 * i ≤ T ∧ (∀ b, b ≠ a + 1 → m2 b = m b)) 5 ?_ ?_ 0 (swp π r l) _ (Nat.zero_le _) ⟨_, rfl, V1, rfl, by omega, fun b hb => by rw [up2_n hb, up2_n hb]⟩
        · rintro i z μ hi ⟨m2, rfl, V2, R2, I2, F2⟩ kk
          rw [eX0_advance_91]
          by_cases hc : r + 1 + i < T - 1 - i
          · have hc' : ¬ T - 1 - i ≤ r + 1 + i := by omega
            have eS2 := r_X0_swap (ml := ml) ha hr ht hl V2 hT (show r + 1 + i < T by omega) (show T - 1 - i < T by omega)
            have V3 := OV_swp V2 (show r + 1 + i < T by omega) (show T - 1 - i < T by omega)
            have e9 : r + 1 + i + 1 = r + 1 + (i + 1) := by omega
            have e10 : nI (T - 1 - i) + (-1) = nI (T - 1 - (i + 1)) := by rw [ni_dec (by omega)]; congr 1
            have e8 := kk (swp z (r + 1 + i) (T - 1 - i)) _ ⟨_, rfl, V3, ?_, by omega, fun b hb => by rw [up2_n hb, up2_n hb]; exact F2 b hb⟩
            · simp (maxSteps := 1000000) (decide := true) (disch := (first | assumption | omega | exact Nat.div_mul_le_self _ _ | exact ni_nz (by omega) (by omega) | exact rfl | exact retOk_bI _ | exact retOk_0 | exact retOk_1)) only [eX0_advance_92, eX0_advance_94, eX0_advance_97, eX0_advance_98, eX0_advance_99, eX0_advance_101, eX0_advance_104, eX0_advance_107, eX0_advance_110, eX0_advance_113, eX0_advance_114, eS2, hc', e9, e10, WpR_some, Option.toList_some, Option.toList_none, List.cons_append, List.nil_append, List.append_nil, clr_n, clr_i, clr_a, ni_add, ni_mul, ni_sub, ni_lt, ni_le, ni_eq, ni_div, nat_mod_eq, ni_rem, iMax_nn, iMin_nn, iMax_sub, Nat.zero_max, bI_0, bI_1, bI_n0, up2_s, up2_n, up2_k, va_up_self, va_up_ne, ni_l, lN_mul, lN_add, ln_mask, lN_i, ↓reduceIte, if_true, if_false, not_true_eq_false, not_false_eq_true, ite_self, Nat.add_zero, Nat.zero_add, ent_def]
              exact e8
            · rw [R2, show 5 - i = (5 - (i + 1)) + 1 by omega]
              conv => lhs; unfold rvs
              rw [if_pos hc, e9, show T - 1 - i - 1 = T - 1 - (i + 1) by omega]
          · have hc' : T - 1 - i ≤ r + 1 + i := by omega
            simp (maxSteps := 1000000) (decide := true) (disch := (first | assumption | omega | exact Nat.div_mul_le_self _ _ | exact ni_nz (by omega) (by omega) | exact rfl | exact retOk_bI _ | exact retOk_0 | exact retOk_1)) only [eX0_advance_92, eX0_advance_94, eX0_advance_97, eX0_advance_98, eX0_advance_99, eX0_advance_101, eX0_advance_104, eX0_advance_107, eX0_advance_110, eX0_advance_113, eX0_advance_114, hc', WpR_some, Option.toList_some, Option.toList_none, List.cons_append, List.nil_append, List.append_nil, clr_n, clr_i, clr_a, ni_add, ni_mul, ni_sub, ni_lt, ni_le, ni_eq, ni_div, nat_mod_eq, ni_rem, iMax_nn, iMin_nn, iMax_sub, Nat.zero_max, bI_0, bI_1, bI_n0, up2_s, up2_n, up2_k, va_up_self, va_up_ne, ni_l, lN_mul, lN_add, ln_mask, lN_i, ↓reduceIte, if_true, if_false, not_true_eq_false, not_false_eq_true, ite_self, Nat.add_zero, Nat.zero_add, ent_def]
            rw [← hQ]
            refine ⟨m2, by rw [hr2]; rfl, rfl, fun _ => ?_, F2⟩
            rw [hnx, R2, show 5 - i = (4 - i) + 1 by omega]
            unfold rvs
            rw [if_neg hc]
            exact V2
        · rintro z μ ⟨m2, rfl, V2, R2, I2, F2⟩
          omega
      -- the second
      have rest2 : ∀ r, r + 1 < T → rsr π (T - 1) = r + 1 → Wp mX0_advance 34 ([some (.ref a), some (.int (nI r)), none, none, none]) [] (G, m, ml) Q := by
        intro r hr1 hr2
        simp (maxSteps := 1000000) (decide := true) (disch := (first | assumption | omega | exact Nat.div_mul_le_self _ _ | exact ni_nz (by omega) (by omega) | exact rfl | exact retOk_bI _ | exact retOk_0 | exact retOk_1)) only [eX0_advance_34, eX0_advance_35, eX0_advance_38, eX0_advance_39, eX0_advance_40, eX0_advance_41, eX0_advance_44, eX0_advance_45, eX0_advance_46, hs, Nat.zero_le, WpR_some, Option.toList_some, Option.toList_none, List.cons_append, List.nil_append, List.append_nil, clr_n, clr_i, clr_a, ni_add, ni_mul, ni_sub, ni_lt, ni_le, ni_eq, ni_div, nat_mod_eq, ni_rem, iMax_nn, iMin_nn, iMax_sub, Nat.zero_max, bI_0, bI_1, bI_n0, up2_s, up2_n, up2_k, va_up_self, va_up_ne, ni_l, lN_mul, lN_add, ln_mask, lN_i, ↓reduceIte, if_true, if_false, not_true_eq_false, not_false_eq_true, ite_self, Nat.add_zero, Nat.zero_add, ent_def]
        refine wp_for (X := Unit) (fun i _ => [some (.ref a), some (.int (nI r)), some (.int (nI (T - 1 - i))), none, none]) (fun i z μ => μ = (G, m, ml) ∧ lgr π r (T - 1) = lgr π r (T - 1 - i)) (T - 1 - r) ?_ ?_ 0 () _ (Nat.zero_le _) ⟨rfl, rfl⟩
        · rintro i - μ hi ⟨rfl, R2⟩ kk
          have x1 := (hV (T - 1 - i) (by omega)).1
          have x2 := (hV r (by omega)).1
          have y1 := (hV (T - 1 - i) (by omega)).2
          have y2 := (hV r (by omega)).2
          have hlr : ¬ T - 1 - i ≤ r := by omega
          rw [eX0_advance_47]
          by_cases hc : π (T - 1 - i) < π r
          · have hc' : ¬ π r ≤ π (T - 1 - i) := by omega
            have e10 : nI (T - 1 - i) + (-1) = nI (T - 1 - (i + 1)) := by rw [ni_dec (by omega)]; congr 1
            have e8 := kk () _ ⟨rfl, ?_⟩
            · simp (maxSteps := 1000000) (decide := true) (disch := (first | assumption | omega | exact Nat.div_mul_le_self _ _ | exact ni_nz (by omega) (by omega) | exact rfl | exact retOk_bI _ | exact retOk_0 | exact retOk_1)) only [eX0_advance_48, eX0_advance_49, eX0_advance_52, eX0_advance_53, eX0_advance_56, eX0_advance_57, eX0_advance_58, eX0_advance_59, eX0_advance_62, eX0_advance_63, eX0_advance_64, eX0_advance_67, eX0_advance_70, hr, x1, x2, hlr, hc', e10, WpR_some, Option.toList_some, Option.toList_none, List.cons_append, List.nil_append, List.append_nil, clr_n, clr_i, clr_a, ni_add, ni_mul, ni_sub, ni_lt, ni_le, ni_eq, ni_div, nat_mod_eq, ni_rem, iMax_nn, iMin_nn, iMax_sub, Nat.zero_max, bI_0, bI_1, bI_n0, up2_s, up2_n, up2_k, va_up_self, va_up_ne, ni_l, lN_mul, lN_add, ln_mask, lN_i, ↓reduceIte, if_true, if_false, not_true_eq_false, not_false_eq_true, ite_self, Nat.add_zero, Nat.zero_add, ent_def]
              exact e8
            · rw [R2, show T - 1 - i = (T - 1 - (i + 1)) + 1 by omega]
              conv => lhs; unfold lgr
              rw [if_pos (by rw [show T - 1 - (i + 1) + 1 = T - 1 - i by omega]; exact hc)]
          · have hc' : π r ≤ π (T - 1 - i) := by omega
            have f1 := rest3 r (T - 1 - i) hr1 (by omega) hr2 (by
              rw [R2, show T - 1 - i = (T - 1 - i - 1) + 1 by omega]
              unfold lgr
              rw [if_neg (by rw [show T - 1 - i - 1 + 1 = T - 1 - i by omega]; exact hc)])
            simp (maxSteps := 1000000) (decide := true) (disch := (first | assumption | omega | exact Nat.div_mul_le_self _ _ | exact ni_nz (by omega) (by omega) | exact rfl | exact retOk_bI _ | exact retOk_0 | exact retOk_1)) only [eX0_advance_48, eX0_advance_49, eX0_advance_52, eX0_advance_53, eX0_advance_56, eX0_advance_57, eX0_advance_58, eX0_advance_59, eX0_advance_62, eX0_advance_63, eX0_advance_64, eX0_advance_67, eX0_advance_70, hr, x1, x2, hlr, hc', WpR_some, Option.toList_some, Option.toList_none, List.cons_append, List.nil_append, List.append_nil, clr_n, clr_i, clr_a, ni_add, ni_mul, ni_sub, ni_lt, ni_le, ni_eq, ni_div, nat_mod_eq, ni_rem, iMax_nn, iMin_nn, iMax_sub, Nat.zero_max, bI_0, bI_1, bI_n0, up2_s, up2_n, up2_k, va_up_self, va_up_ne, ni_l, lN_mul, lN_add, ln_mask, lN_i, ↓reduceIte, if_true, if_false, not_true_eq_false, not_false_eq_true, ite_self, Nat.add_zero, Nat.zero_add, ent_def]
            exact f1
        · rintro - μ ⟨rfl, R2⟩
          have hlr : T - 1 - (T - 1 - r) = r := by omega
          rw [hlr] at R2
          have f1 := rest3 r r hr1 (by omega) hr2 (by
            rw [R2]
            cases r with
            | zero => rfl
            | succ r => unfold lgr; rw [if_neg (Nat.lt_irrefl _)])
          rw [eX0_advance_47, hlr]
          simp (maxSteps := 1000000) (decide := true) (disch := (first | assumption | omega | exact Nat.div_mul_le_self _ _ | exact ni_nz (by omega) (by omega) | exact rfl | exact retOk_bI _ | exact retOk_0 | exact retOk_1)) only [eX0_advance_48, eX0_advance_49, eX0_advance_52, eX0_advance_53, eX0_advance_56, eX0_advance_57, eX0_advance_58, eX0_advance_59, eX0_advance_62, eX0_advance_63, eX0_advance_64, eX0_advance_67, eX0_advance_70, Nat.le_refl, WpR_some, Option.toList_some, Option.toList_none, List.cons_append, List.nil_append, List.append_nil, clr_n, clr_i, clr_a, ni_add, ni_mul, ni_sub, ni_lt, ni_le, ni_eq, ni_div, nat_mod_eq, ni_rem, iMax_nn, iMin_nn, iMax_sub, Nat.zero_max, bI_0, bI_1, bI_n0, up2_s, up2_n, up2_k, va_up_self, va_up_ne, ni_l, lN_mul, lN_add, ln_mask, lN_i, ↓reduceIte, if_true, if_false, not_true_eq_false, not_false_eq_true, ite_self, Nat.add_zero, Nat.zero_add, ent_def]
          exact f1
      simp (maxSteps := 1000000) (decide := true) (disch := (first | assumption | omega | exact Nat.div_mul_le_self _ _ | exact ni_nz (by omega) (by omega) | exact rfl | exact retOk_bI _ | exact retOk_0 | exact retOk_1)) only [eX0_advance_0, eX0_advance_1, eX0_advance_4, eX0_advance_5, eX0_advance_6, hs, WpR_some, Option.toList_some, Option.toList_none, List.cons_append, List.nil_append, List.append_nil, clr_n, clr_i, clr_a, ni_add, ni_mul, ni_sub, ni_lt, ni_le, ni_eq, ni_div, nat_mod_eq, ni_rem, iMax_nn, iMin_nn, iMax_sub, Nat.zero_max, bI_0, bI_1, bI_n0, up2_s, up2_n, up2_k, va_up_self, va_up_ne, ni_l, lN_mul, lN_add, ln_mask, lN_i, ↓reduceIte, if_true, if_false, not_true_eq_false, not_false_eq_true, ite_self, Nat.add_zero, Nat.zero_add, ent_def]
      have e0 : nI (T - 2) = rz (T - 1 - 0) := by rw [show T - 1 - 0 = (T - 2) + 1 by omega]; rfl
      rw [e0]
      refine wp_for (X := Unit) (fun i _ => [some (.ref a), some (.int (rz (T - 1 - i))), none, none, none]) (fun i z μ => μ = (G, m, ml) ∧ rsr π (T - 1) = rsr π (T - 1 - i)) (T - 1) ?_ ?_ 0 () _ (Nat.zero_le _) ⟨rfl, rfl⟩
      · rintro i - μ hi ⟨rfl, R2⟩ kk
        have e1 : T - 1 - i = (T - 1 - (i + 1)) + 1 := by omega
        have e2 : rz (T - 1 - i) = nI (T - 1 - (i + 1)) := by rw [e1]; rfl
        have x1 := (hV (T - 1 - (i + 1)) (by omega)).1
        have x2 := (hV (T - 1 - (i + 1) + 1) (by omega)).1
        have y1 := (hV (T - 1 - (i + 1)) (by omega)).2
        have y2 := (hV (T - 1 - (i + 1) + 1) (by omega)).2
        rw [e2, eX0_advance_7]
        by_cases hc : π (T - 1 - (i + 1) + 1) < π (T - 1 - (i + 1))
        · have hc' : ¬ π (T - 1 - (i + 1)) ≤ π (T - 1 - (i + 1) + 1) := by omega
          have e8 := kk () _ ⟨rfl, by
            rw [R2, e1]
            conv => lhs; unfold rsr
            rw [if_pos hc]⟩
          have e3 : nI (T - 1 - (i + 1)) + (-1) = rz (T - 1 - (i + 1)) := by
            by_cases hz : T - 1 - (i + 1) = 0
            · rw [hz]; decide
            · rw [ni_dec (by omega)]; unfold rz; rw [if_neg hz]
          simp (maxSteps := 1000000) (decide := true) (disch := (first | assumption | omega | exact Nat.div_mul_le_self _ _ | exact ni_nz (by omega) (by omega) | exact rfl | exact retOk_bI _ | exact retOk_0 | exact retOk_1)) only [eX0_advance_8, eX0_advance_11, eX0_advance_12, eX0_advance_15, eX0_advance_16, eX0_advance_17, eX0_advance_18, eX0_advance_21, eX0_advance_22, eX0_advance_23, eX0_advance_24, eX0_advance_25, eX0_advance_28, eX0_advance_31, hr, x1, x2, hc', e3, Nat.not_lt_zero, WpR_some, Option.toList_some, Option.toList_none, List.cons_append, List.nil_append, List.append_nil, clr_n, clr_i, clr_a, ni_add, ni_mul, ni_sub, ni_lt, ni_le, ni_eq, ni_div, nat_mod_eq, ni_rem, iMax_nn, iMin_nn, iMax_sub, Nat.zero_max, bI_0, bI_1, bI_n0, up2_s, up2_n, up2_k, va_up_self, va_up_ne, ni_l, lN_mul, lN_add, ln_mask, lN_i, ↓reduceIte, if_true, if_false, not_true_eq_false, not_false_eq_true, ite_self, Nat.add_zero, Nat.zero_add, ent_def]
          exact e8
        · have hc' : π (T - 1 - (i + 1)) ≤ π (T - 1 - (i + 1) + 1) := by omega
          have f1 := rest2 (T - 1 - (i + 1)) (by omega) (by
            rw [R2, e1]
            unfold rsr
            rw [if_neg hc])
          simp (maxSteps := 1000000) (decide := true) (disch := (first | assumption | omega | exact Nat.div_mul_le_self _ _ | exact ni_nz (by omega) (by omega) | exact rfl | exact retOk_bI _ | exact retOk_0 | exact retOk_1)) only [eX0_advance_8, eX0_advance_11, eX0_advance_12, eX0_advance_15, eX0_advance_16, eX0_advance_17, eX0_advance_18, eX0_advance_21, eX0_advance_22, eX0_advance_23, eX0_advance_24, eX0_advance_25, eX0_advance_28, eX0_advance_31, hr, x1, x2, hc', Nat.not_lt_zero, WpR_some, Option.toList_some, Option.toList_none, List.cons_append, List.nil_append, List.append_nil, clr_n, clr_i, clr_a, ni_add, ni_mul, ni_sub, ni_lt, ni_le, ni_eq, ni_div, nat_mod_eq, ni_rem, iMax_nn, iMin_nn, iMax_sub, Nat.zero_max, bI_0, bI_1, bI_n0, up2_s, up2_n, up2_k, va_up_self, va_up_ne, ni_l, lN_mul, lN_add, ln_mask, lN_i, ↓reduceIte, if_true, if_false, not_true_eq_false, not_false_eq_true, ite_self, Nat.add_zero, Nat.zero_add, ent_def]
          exact f1
      · rintro - μ ⟨rfl, R2⟩
        rw [Nat.sub_self] at R2
        have f1 := none_ R2
        have hz : rz (T - 1 - (T - 1)) = -1 := by rw [Nat.sub_self]; rfl
        rw [hz, eX0_advance_7]
        simp (maxSteps := 1000000) (decide := true) (disch := (first | assumption | omega | exact Nat.div_mul_le_self _ _ | exact ni_nz (by omega) (by omega) | exact rfl | exact retOk_bI _ | exact retOk_0 | exact retOk_1)) only [eX0_advance_8, eX0_advance_11, eX0_advance_12, eX0_advance_15, eX0_advance_16, eX0_advance_17, eX0_advance_18, eX0_advance_21, eX0_advance_22, eX0_advance_23, eX0_advance_24, eX0_advance_25, eX0_advance_28, eX0_advance_31, eX0_advance_34, eX0_advance_35, eX0_advance_38, eX0_advance_39, WpR_some, Option.toList_some, Option.toList_none, List.cons_append, List.nil_append, List.append_nil, clr_n, clr_i, clr_a, ni_add, ni_mul, ni_sub, ni_lt, ni_le, ni_eq, ni_div, nat_mod_eq, ni_rem, iMax_nn, iMin_nn, iMax_sub, Nat.zero_max, bI_0, bI_1, bI_n0, up2_s, up2_n, up2_k, va_up_self, va_up_ne, ni_l, lN_mul, lN_add, ln_mask, lN_i, ↓reduceIte, if_true, if_false, not_true_eq_false, not_false_eq_true, ite_self, Nat.add_zero, Nat.zero_add, ent_def]
        exact f1
  obtain ⟨r, μ', e1, m', rfl, rfl, h2⟩ := res_ex key
  exact ⟨m', e1, h2⟩
end ORD
