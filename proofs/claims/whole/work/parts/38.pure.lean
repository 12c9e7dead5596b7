/-- evenings of all, by who sits where; how many hear, how many look -/
def itP (π : Nat → Nat) (σ : Nat → Nat) : Nat → Nat → Nat
  | 0 => σ
  | n + 1 => gon (evS π 9 (itP π σ n) (itP π σ n 45))
def hP (π : Nat → Nat) (σ : Nat → Nat) : Nat → Nat
  | 0 => 0
  | n + 1 => hP π σ n + evH π 9 (itP π σ n) (itP π σ n 45)
def lP (π : Nat → Nat) (σ : Nat → Nat) : Nat → Nat
  | 0 => 0
  | n + 1 => lP π σ n + evL π 9 (itP π σ n) (itP π σ n 45)
/-- the first of n for which something holds; n: none -/
def fst1 (P : Nat → Bool) : Nat → Nat
  | 0 => 0
  | n + 1 => if fst1 P n < n then fst1 P n else if P n = true then n else n + 1
theorem fst1_no {P : Nat → Bool} : ∀ n, (∀ j, j < n → P j = false) → fst1 P n = n
  | 0, _ => rfl
  | n + 1, h => by
    have h1 := fst1_no n (fun j hj => h j (by omega))
    unfold fst1
    rw [h1, if_neg (by omega), if_neg (by rw [h n (by omega)]; decide)]
theorem fst1_at {P : Nat → Bool} {i : Nat} (h : ∀ j, j < i → P j = false) (hi : P i = true) : ∀ n, i < n → fst1 P n = i
  | 0, hn => by omega
  | n + 1, hn => by
    unfold fst1
    by_cases hq : i = n
    · subst hq
      rw [fst1_no i h, if_neg (by omega), if_pos hi]
    · rw [fst1_at h hi n (by omega), if_pos (by omega)]
theorem fst1_le {P : Nat → Bool} : ∀ n, fst1 P n ≤ n
  | 0 => Nat.le_refl _
  | n + 1 => by
    have := fst1_le (P := P) n
    unfold fst1
    split
    · omega
    · split <;> omega
/-- the best of the first i -/
def bst (H L : Nat → Nat) : Nat → Nat
  | 0 => 0
  | i + 1 => if i = 0 ∨ H (bst H L i) < H i ∨ (H i = H (bst H L i) ∧ L i < L (bst H L i)) then i else bst H L i
def mb (L : Nat → Nat) : Nat → Nat
  | 0 => 0
  | i + 1 => if i = 0 ∨ L i < L (mb L i) then i else mb L i
theorem bst_t {H L : Nat → Nat} {i : Nat} (h : i = 0 ∨ H (bst H L i) < H i ∨ (H i = H (bst H L i) ∧ L i < L (bst H L i))) : i = bst H L (i + 1) := by
  show i = if i = 0 ∨ H (bst H L i) < H i ∨ (H i = H (bst H L i) ∧ L i < L (bst H L i)) then i else bst H L i
  rw [if_pos h]
theorem bst_f {H L : Nat → Nat} {i : Nat} (h : ¬ (i = 0 ∨ H (bst H L i) < H i ∨ (H i = H (bst H L i) ∧ L i < L (bst H L i)))) : bst H L i = bst H L (i + 1) := by
  show bst H L i = if i = 0 ∨ H (bst H L i) < H i ∨ (H i = H (bst H L i) ∧ L i < L (bst H L i)) then i else bst H L i
  rw [if_neg h]
theorem mb_t {L : Nat → Nat} {i : Nat} (h : i = 0 ∨ L i < L (mb L i)) : i = mb L (i + 1) := by
  show i = if i = 0 ∨ L i < L (mb L i) then i else mb L i
  rw [if_pos h]
theorem mb_f {L : Nat → Nat} {i : Nat} (h : ¬ (i = 0 ∨ L i < L (mb L i))) : mb L i = mb L (i + 1) := by
  show mb L i = if i = 0 ∨ L i < L (mb L i) then i else mb L i
  rw [if_neg h]
theorem bst_lt {H L : Nat → Nat} : ∀ i, 0 < i → bst H L i < i
  | 0, h => by omega
  | i + 1, _ => by
    unfold bst
    split
    · omega
    · rename_i hn
      have := bst_lt (H := H) (L := L) i (by omega)
      omega
theorem mb_lt {L : Nat → Nat} : ∀ i, 0 < i → mb L i < i
  | 0, h => by omega
  | i + 1, _ => by
    unfold mb
    split
    · omega
    · rename_i hn
      have := mb_lt (L := L) i (by omega)
      omega
/-- two states are one for a hearer -/
def AgH (h : Nat) (τ ρ : Nat → Nat) : Prop := τ h = ρ h ∧ τ (35 + h) = ρ (35 + h) ∧ (∀ t, t < 5 → τ (10 + (h * 5 + t)) = ρ (10 + (h * 5 + t))) ∧ ∀ i, (5 ≤ i ∧ i < 10) ∨ (40 ≤ i ∧ i < 56) → τ i = ρ i
section PUR
variable {h j n ke kl x i : Nat} {σ τ ρ π : Nat → Nat}
theorem AgH.rf : AgH h τ τ := ⟨rfl, rfl, fun _ _ => rfl, fun _ _ => rfl⟩
theorem AgH.sts (H : AgH h τ ρ) : seats τ = seats ρ := by
  unfold seats
  rw [H.2.2.2 44 (by omega), H.2.2.2 45 (by omega)]
theorem AgH.pla (H : AgH h τ ρ) : pl τ h = pl ρ h := by
  unfold pl
  rw [H.sts, H.2.2.2 40 (by omega)]
theorem AgH.cos (H : AgH h τ ρ) {t : Nat} (ht : t < 5) : cst τ h t = cst ρ h t := by
  unfold cst
  rw [H.2.2.2 (46 + t) (by omega), H.2.2.2 (5 + t) (by omega), H.2.2.2 42 (by omega), H.2.2.1 t ht, H.1]
theorem AgH.siO (H : AgH h τ ρ) (h4 : ρ 44 ≤ 5) : sitO id τ h = sitO id ρ h := by
  unfold sitO
  rw [H.pla, H.2.2.2 44 (by omega)]
  by_cases hp : pl ρ h < ρ 44
  · rw [if_pos hp, if_pos hp, H.1]
    simp only [id]
    have e := H.cos (t := pl ρ h) (by omega)
    simp only [e]
  · rw [if_neg hp, if_neg hp]
theorem AgH.up {v : Nat} (H : AgH h τ ρ) (hh : h < 5) (hi : i = h ∨ i = 35 + h ∨ i = 51 + h ∨ (∃ t, t < 5 ∧ i = 10 + (h * 5 + t)) ∨ (5 ≤ i ∧ i < 10) ∨ (40 ≤ i ∧ i < 56)) : AgH h (upN τ i v) (upN ρ i v) := by
  have key : ∀ k, τ k = ρ k → upN τ i v k = upN ρ i v k := fun k hk => by
    unfold upN
    split
    · rfl
    · exact hk
  exact ⟨key _ H.1, key _ H.2.1, fun t ht => key _ (H.2.2.1 t ht), fun k hk => key _ (H.2.2.2 k hk)⟩
theorem AgH.sie (H : AgH h τ ρ) (hh : h < 5) (h4 : ρ 44 ≤ 5) : AgH h (sit id τ h) (sit id ρ h) := by
  unfold sit
  rw [H.pla, H.2.2.2 44 (by omega)]
  by_cases hp : pl ρ h < ρ 44
  · rw [if_pos hp, if_pos hp, H.1, H.2.1]
    simp only [id]
    simp only [H.cos (t := pl ρ h) (by omega), H.2.2.1 (pl ρ h) (by omega)]
    split
    · exact (H.up hh (by omega)).up hh (by omega)
    · exact (H.up hh (by omega)).up hh (Or.inr (Or.inr (Or.inr (Or.inl ⟨_, by omega, rfl⟩))))
  · rw [if_neg hp, if_neg hp, H.1, H.2.2.2 (51 + h) (by omega)]
    exact H.up hh (by omega)
theorem AgH.upr {v : Nat} (H : AgH h τ ρ) (hh : h < 5) (h1 : i ≠ h) (h2 : i ≠ 35 + h) (h3 : ∀ t, t < 5 → i ≠ 10 + (h * 5 + t)) (h4 : ¬ ((5 ≤ i ∧ i < 10) ∨ (40 ≤ i ∧ i < 56))) : AgH h τ (upN ρ i v) := by
  have key : ∀ k, i ≠ k → τ k = ρ k → τ k = upN ρ i v k := fun k hk h => by
    rw [upN_n (fun q => hk q.symm)]; exact h
  exact ⟨key _ h1 H.1, key _ h2 H.2.1, fun t ht => key _ (h3 t ht) (H.2.2.1 t ht), fun k hk => key _ (fun q => h4 (q ▸ hk)) (H.2.2.2 k hk)⟩
theorem AgH.oth (H : AgH h τ ρ) (hh : h < 5) (hj : j < 5) (hne : j ≠ h) (h4 : ρ 44 ≤ 5) : AgH h τ (sit id ρ j) := by
  unfold sit
  split
  · rename_i hp
    split
    · exact (H.upr hh (by omega) (by omega) (fun t ht => by omega) (by omega)).upr hh (by omega) (by omega) (fun t ht => by omega) (by omega)
    · simp only [id]
      exact (H.upr hh (by omega) (by omega) (fun t ht => by omega) (by omega)).upr hh (by omega) (by omega) (fun t ht => by omega) (by omega)
  · exact H.upr hh (by omega) (by omega) (fun t ht => by omega) (by omega)
theorem AgH.goe (H : AgH h τ ρ) (hh : h < 5) : AgH h (gon τ) (gon ρ) := by
  unfold gon
  rw [H.sts, H.2.2.2 40 (by omega), H.2.2.2 41 (by omega), H.2.2.2 42 (by omega)]
  exact (H.up hh (by omega)).up hh (by omega)
theorem AgH.ev0 (H : AgH h τ ρ) (hh : h < 5) (h4 : ρ 44 ≤ 5) : ∀ n, n ≤ h → AgH h τ (evS id 9 ρ n) := by
  intro n
  induction n with
  | zero => intro _; exact H
  | succ n ih =>
    intro hn
    show AgH h τ (if n = 9 then evS id 9 ρ n else sit id (evS id 9 ρ n) n)
    rw [if_neg (by omega)]
    refine (ih (by omega)).oth hh (by omega) (by omega) ?_
    rw [evS_fix (π := id) (by omega) h4 (fun j hj => hj) n (by omega)]
    exact h4
theorem AgH.ev1 (H : AgH h τ ρ) (hh : h < 5) (h4 : ρ 44 ≤ 5) : ∀ n, n ≤ 5 → h < n → AgH h (sit id τ h) (evS id 9 ρ n) := by
  intro n
  induction n with
  | zero => intro _ h; omega
  | succ n ih =>
    intro hn hlt
    show AgH h _ (if n = 9 then evS id 9 ρ n else sit id (evS id 9 ρ n) n)
    have e4 : evS id 9 ρ n 44 ≤ 5 := by rw [evS_fix (π := id) (by omega) h4 (fun j hj => hj) n (by omega)]; exact h4
    rw [if_neg (by omega)]
    by_cases hq : h = n
    · subst hq
      exact (H.ev0 hh h4 h (Nat.le_refl _)).sie hh e4
    · exact (ih (by omega) (by omega)).oth hh (by omega) (by omega) e4
/-- an evening: what it is to one hangs on nobody else -/
theorem AgH.eve (H : AgH h τ ρ) (hh : h < ρ 45) (h5 : ρ 45 ≤ 5) (h4 : ρ 44 ≤ 5) : AgH h (gon (sit id τ h)) (gon (evS id 9 ρ (ρ 45))) := (H.ev1 (by omega) h4 (ρ 45) h5 hh).goe (by omega)
theorem sit_35 (hh : h < 5) (h4 : σ 44 ≤ 5) : sit id σ h (35 + h) = σ (35 + h) + if sitO id σ h = 2 then 1 else 0 := by
  unfold sit sitO
  split
  · split
    · rw [upN_n (by omega), upN_s]; rfl
    · simp only [id]; rw [upN_n (by omega), upN_n (by omega)]; rfl
  · rw [upN_n (by omega)]; rfl
theorem gon_n (h1 : i ≠ 40) (h2 : i ≠ 42) : gon σ i = σ i := by unfold gon; rw [upN_n h2, upN_n h1]
theorem ev_35 (hh : h < ρ 45) (h5 : ρ 45 ≤ 5) (h4 : ρ 44 ≤ 5) : gon (evS id 9 ρ (ρ 45)) (35 + h) = ρ (35 + h) + if sitO id ρ h = 2 then 1 else 0 := by
  have H := (AgH.rf (h := h) (τ := ρ)).eve hh h5 h4
  rw [← H.2.1, gon_n (by omega) (by omega), sit_35 (by omega) h4]
theorem ev_fix (hi : i = 41 ∨ i = 43 ∨ i = 44 ∨ i = 45 ∨ 46 ≤ i ∨ (5 ≤ i ∧ i < 10)) (h4 : σ 44 ≤ 5) (h5 : σ 45 ≤ 5) (hπ : ∀ j, j < 5 → π j < 5) : gon (evS π x σ (σ 45)) i = σ i := by
  rw [gon_n (by omega) (by omega), evS_fix (by omega) h4 hπ _ h5]
theorem itP_fix (hi : i = 41 ∨ i = 43 ∨ i = 44 ∨ i = 45 ∨ 46 ≤ i ∨ (5 ≤ i ∧ i < 10)) (h4 : σ 44 ≤ 5) (h5 : σ 45 ≤ 5) (hπ : ∀ j, j < 5 → π j < 5) : ∀ n, itP π σ n i = σ i := by
  intro n
  induction n generalizing i with
  | zero => rfl
  | succ n ih =>
    have e4 := ih (i := 44) (by omega)
    have e5 := ih (i := 45) (by omega)
    show gon (evS π 9 (itP π σ n) (itP π σ n 45)) i = σ i
    rw [ev_fix hi (by omega) (by omega) hπ, ih hi]
theorem Bk_itP (hB : Bk (ke + n) (kl + 5 * n) σ) (hπ : ∀ j, j < 5 → π j < 5) : Bk ke kl (itP π σ n) := by
  induction n generalizing ke kl with
  | zero => exact hB
  | succ n ih =>
    have h1 : Bk (ke + 1) (kl + 5) (itP π σ n) := ih (Bk_mono hB (by omega) (by omega))
    have h2 := Bk_evS (x := 9) h1 hπ (itP π σ n 45) (Nat.le_refl _)
    exact Bk_gon (Bk_mono h2 (Nat.le_refl _) (by omega))
theorem hP_le : ∀ n, (∀ k, itP π σ k 45 ≤ 5) → hP π σ n ≤ 5 * n ∧ lP π σ n ≤ 5 * n
  | 0, _ => ⟨Nat.le_refl _, Nat.le_refl _⟩
  | n + 1, hb => by
    have h1 := hP_le n hb
    have h2 := evHL_le (π := π) (x := 9) (σ := itP π σ n) (itP π σ n 45)
    have h3 := hb n
    unfold hP lP
    omega
theorem itS_P : ∀ n, itS false σ n = itP id σ n
  | 0 => rfl
  | n + 1 => by
    show ev (stp false (itS false σ n)) = _
    rw [itS_P n]
    rfl
theorem hbI_ag (H : AgH h τ ρ) : ∀ n, n ≤ 5 → hbI τ h n = hbI ρ h n := by
  intro n
  induction n with
  | zero => intro _; rfl
  | succ n ih =>
    intro hn
    unfold hbI
    rw [ih (by omega), H.2.2.1 n (by omega)]
theorem tO_ag (H : AgH h τ ρ) : tO τ h = tO ρ h := by
  unfold tO
  rw [H.pla, H.2.2.2 44 (by omega)]
end PUR
