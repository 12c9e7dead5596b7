/-! sums -/
theorem sumN_c {f g : Nat → Nat} : ∀ n, (∀ k, k < n → f k = g k) → sumN f n = sumN g n
  | 0, _ => rfl
  | n + 1, h => by
    show sumN f n + f n = sumN g n + g n
    rw [sumN_c n (fun k hk => h k (by omega)), h n (by omega)]
theorem sumN_add {f g : Nat → Nat} : ∀ n, sumN (fun i => f i + g i) n = sumN f n + sumN g n
  | 0 => rfl
  | n + 1 => by
    show sumN (fun i => f i + g i) n + (f n + g n) = sumN f n + f n + (sumN g n + g n)
    rw [sumN_add n]
    omega
theorem sumN_mul {f : Nat → Nat} {c : Nat} : ∀ n, sumN (fun i => f i * c) n = sumN f n * c
  | 0 => by simp [sumN]
  | n + 1 => by
    show sumN (fun i => f i * c) n + f n * c = (sumN f n + f n) * c
    rw [sumN_mul n, Nat.add_mul]
theorem sumN_split {f : Nat → Nat} {a : Nat} : ∀ b, sumN f (a + b) = sumN f a + sumN (fun i => f (i + a)) b
  | 0 => rfl
  | b + 1 => by
    show sumN f (a + b) + f (a + b) = sumN f a + (sumN (fun i => f (i + a)) b + f (b + a))
    rw [sumN_split b, Nat.add_comm a b]
    omega
theorem sumN_0 {f : Nat → Nat} : ∀ n, (∀ k, k < n → f k = 0) → sumN f n = 0
  | 0, _ => rfl
  | n + 1, h => by
    show sumN f n + f n = 0
    rw [sumN_0 n (fun k hk => h k (by omega)), h n (by omega)]
theorem ite_le1 {P : Prop} [Decidable P] : (if P then 1 else 0) ≤ 1 := by split <;> omega
/-! who dozes, as bits -/
def hvN (hv : Nat → Bool) : Nat → Nat
  | 0 => 0
  | n + 1 => hvN hv n + if hv n = true then 2 ^ n else 0
def kN (hv x y : Nat → Bool) (w : Nat) : Nat → Nat
  | 0 => 0
  | n + 1 => kN hv x y w n + if hv n = true ∧ (if w / 2 ^ n % 2 = 1 then y n else x n) = true then 1 else 0
def wN (hv : Nat → Bool) (p q w : Nat) : Nat → Nat
  | 0 => 1
  | n + 1 => wN hv p q w n * if hv n = true then (if w / 2 ^ n % 2 = 1 then p else q) else 1
def aW (x y : Nat → Bool) (p q n : Nat) : Nat := (if x n = true then q else 0) + (if y n = true then p else 0)
def wy (hv x y : Nat → Bool) (p q : Nat) : Nat → Nat → Nat
  | 0, j => if j = 0 then 1 else 0
  | n + 1, j => if hv n = true then wy hv x y p q n j * (10 - aW x y p q n) + (if j = 0 then 0 else wy hv x y p q n (j - 1)) * aW x y p q n else wy hv x y p q n j
def csN (hv : Nat → Bool) : Nat → Nat
  | 0 => 1
  | n + 1 => if hv n = true then csN hv n * 10 else csN hv n
theorem hvN_s {hv : Nat → Bool} {n : Nat} : hvN hv (n + 1) = hvN hv n + if hv n = true then 2 ^ n else 0 := rfl
theorem kN_s {hv x y : Nat → Bool} {w n : Nat} : kN hv x y w (n + 1) = kN hv x y w n + if hv n = true ∧ (if w / 2 ^ n % 2 = 1 then y n else x n) = true then 1 else 0 := rfl
theorem wN_s {hv : Nat → Bool} {p q w n : Nat} : wN hv p q w (n + 1) = wN hv p q w n * if hv n = true then (if w / 2 ^ n % 2 = 1 then p else q) else 1 := rfl
theorem wy_s {hv x y : Nat → Bool} {p q n j : Nat} : wy hv x y p q (n + 1) j = if hv n = true then wy hv x y p q n j * (10 - aW x y p q n) + (if j = 0 then 0 else wy hv x y p q n (j - 1)) * aW x y p q n else wy hv x y p q n j := rfl
theorem csN_s {hv : Nat → Bool} {n : Nat} : csN hv (n + 1) = if hv n = true then csN hv n * 10 else csN hv n := rfl
theorem bit_lo : ∀ n, n < 5 → ∀ h, h < n → ∀ w, w < 2 ^ n → (w + 2 ^ n) / 2 ^ h % 2 = w / 2 ^ h % 2 := by decide +kernel
theorem bit_hi : ∀ n, n < 5 → ∀ w, w < 2 ^ n → w / 2 ^ n % 2 = 0 ∧ (w + 2 ^ n) / 2 ^ n % 2 = 1 := by decide +kernel
theorem and_lo : ∀ n, n < 5 → ∀ w, w < 2 ^ n → ∀ a, a < 2 ^ n → (w &&& (a + 2 ^ n)) = (w &&& a) ∧ (w + 2 ^ n &&& (a + 2 ^ n)) = (w &&& a) + 2 ^ n ∧ (w + 2 ^ n &&& a) = (w &&& a) := by decide +kernel
theorem hvN_lt {hv : Nat → Bool} : ∀ n, hvN hv n < 2 ^ n
  | 0 => by show 0 < 1; decide
  | n + 1 => by
    have := hvN_lt (hv := hv) n
    rw [hvN_s, Nat.pow_succ]
    split <;> omega
section DOZ
variable {hv x y : Nat → Bool} {p q w n : Nat}
theorem kN_hi (hn : n < 5) (hw : w < 2 ^ n) : ∀ k, k ≤ n → kN hv x y (w + 2 ^ n) k = kN hv x y w k
  | 0, _ => rfl
  | k + 1, hk => by
    rw [kN_s, kN_s, kN_hi hn hw k (by omega), bit_lo n hn k (by omega) w hw]
theorem wN_hi (hn : n < 5) (hw : w < 2 ^ n) : ∀ k, k ≤ n → wN hv p q (w + 2 ^ n) k = wN hv p q w k
  | 0, _ => rfl
  | k + 1, hk => by
    rw [wN_s, wN_s, wN_hi hn hw k (by omega), bit_lo n hn k (by omega) w hw]
/-- a sum over all who may doze among the first n -/
def Sg (hv x y : Nat → Bool) (p q n : Nat) (φ : Nat → Nat) : Nat := sumN (fun w => if (w &&& hvN hv n) = w then φ (kN hv x y w n) * wN hv p q w n else 0) (2 ^ n)
def Cl (hv x y : Nat → Bool) (p q n : Nat) (φ : Nat → Nat) : Nat := sumN (fun j => φ j * wy hv x y p q n j) 6
theorem Sg_s (hn : n < 5) (φ : Nat → Nat) : Sg hv x y p q (n + 1) φ = if hv n = true then Sg hv x y p q n (fun k => φ (k + if x n = true then 1 else 0)) * q + Sg hv x y p q n (fun k => φ (k + if y n = true then 1 else 0)) * p else Sg hv x y p q n φ := by
  have hlt := hvN_lt (hv := hv) n
  unfold Sg
  rw [show 2 ^ (n + 1) = 2 ^ n + 2 ^ n by rw [Nat.pow_succ]; omega, sumN_split]
  by_cases hh : hv n = true
  · rw [if_pos hh, ← sumN_mul, ← sumN_mul]
    have e : hvN hv (n + 1) = hvN hv n + 2 ^ n := by rw [hvN_s, if_pos hh]
    rw [e]
    congr 1
    · apply sumN_c
      intro w hw
      have h1 := (and_lo n hn w hw _ hlt).1
      have h2 := (bit_hi n hn w hw).1
      simp only [h1]
      by_cases hc : (w &&& hvN hv n) = w
      · rw [if_pos hc, if_pos hc]
        have h3 : ¬ w / 2 ^ n % 2 = 1 := by omega
        rw [kN_s, wN_s, if_pos hh, if_neg h3, if_neg h3, Nat.mul_assoc]
        cases hx : x n <;> simp [hh]
      · rw [if_neg hc, if_neg hc, Nat.zero_mul]
    · apply sumN_c
      intro w hw
      have h1 := (and_lo n hn w hw _ hlt).2.1
      have h2 := (bit_hi n hn w hw).2
      simp only [h1]
      by_cases hc : (w &&& hvN hv n) = w
      · rw [if_pos (by omega), if_pos hc]
        rw [kN_s, wN_s, if_pos hh, if_pos h2, if_pos h2, kN_hi hn hw n (Nat.le_refl _), wN_hi hn hw n (Nat.le_refl _), Nat.mul_assoc]
        cases hy : y n <;> simp [hh]
      · rw [if_neg (by omega), if_neg hc, Nat.zero_mul]
  · rw [if_neg hh]
    have e : hvN hv (n + 1) = hvN hv n := by rw [hvN_s, if_neg hh]; rfl
    rw [e]
    have z : sumN (fun i => if (i + 2 ^ n &&& hvN hv n) = i + 2 ^ n then φ (kN hv x y (i + 2 ^ n) (n + 1)) * wN hv p q (i + 2 ^ n) (n + 1) else 0) (2 ^ n) = 0 := by
      apply sumN_0
      intro w hw
      have h1 := (and_lo n hn w hw _ hlt).2.2
      have h3 : (w &&& hvN hv n) ≤ w := Nat.and_le_left
      have h4 : 0 < 2 ^ n := Nat.pow_pos (by decide)
      rw [if_neg (by omega)]
    rw [z, Nat.add_zero]
    apply sumN_c
    intro w hw
    by_cases hc : (w &&& hvN hv n) = w
    · rw [if_pos hc, if_pos hc]
      rw [kN_s, wN_s, if_neg hh, if_neg (fun r => hh r.1), Nat.mul_one, Nat.add_zero]
    · rw [if_neg hc, if_neg hc]
theorem wy_0 : ∀ n j, n < j → wy hv x y p q n j = 0
  | 0, j, h => by unfold wy; rw [if_neg (by omega)]
  | n + 1, j, h => by
    rw [wy_s, wy_0 n j (by omega), wy_0 n (j - 1) (by omega), if_neg (show ¬ j = 0 by omega)]
    simp
theorem Cl_s (hn : n < 5) (hpq : p + q = 10) (φ : Nat → Nat) : Cl hv x y p q (n + 1) φ = if hv n = true then Cl hv x y p q n (fun k => φ (k + if x n = true then 1 else 0)) * q + Cl hv x y p q n (fun k => φ (k + if y n = true then 1 else 0)) * p else Cl hv x y p q n φ := by
  unfold Cl
  by_cases hh : hv n = true
  · rw [if_pos hh]
    have e : sumN (fun j => φ j * wy hv x y p q (n + 1) j) 6 = sumN (fun j => φ j * wy hv x y p q n j) 6 * (10 - aW x y p q n) + sumN (fun j => φ (j + 1) * wy hv x y p q n j) 6 * aW x y p q n := by
      have e1 : sumN (fun j => φ j * wy hv x y p q (n + 1) j) 6 = sumN (fun j => φ j * wy hv x y p q n j * (10 - aW x y p q n) + φ j * (if j = 0 then 0 else wy hv x y p q n (j - 1)) * aW x y p q n) 6 := by
        apply sumN_c
        intro j _
        show φ j * (if hv n = true then wy hv x y p q n j * (10 - aW x y p q n) + (if j = 0 then 0 else wy hv x y p q n (j - 1)) * aW x y p q n else wy hv x y p q n j) = _
        rw [if_pos hh, Nat.mul_add, Nat.mul_assoc, Nat.mul_assoc]
      have z5 : wy hv x y p q n 5 = 0 := wy_0 n 5 hn
      have e2 : sumN (fun j => φ j * (if j = 0 then 0 else wy hv x y p q n (j - 1))) 6 = sumN (fun j => φ (j + 1) * wy hv x y p q n j) 6 := by
        simp [sumN, z5]
      rw [e1, sumN_add, sumN_mul, sumN_mul, e2]
    rw [e]
    unfold aW
    cases hx : x n <;> cases hy : y n
    · simp only [Bool.false_eq_true, if_false, Nat.add_zero, Nat.sub_zero, Nat.mul_zero]
      rw [← Nat.mul_add, Nat.add_comm q p, hpq]
    · simp only [Bool.false_eq_true, if_false, if_true, Nat.zero_add, Nat.add_zero]
      rw [show 10 - p = q by omega]
    · simp only [Bool.false_eq_true, if_false, if_true, Nat.add_zero]
      rw [show 10 - q = p by omega, Nat.add_comm]
    · simp only [if_true]
      rw [show 10 - (q + p) = 0 by omega, Nat.mul_zero, Nat.zero_add, Nat.mul_add]
  · rw [if_neg hh]
    apply sumN_c
    intro j _
    show φ j * (if hv n = true then _ else wy hv x y p q n j) = _
    rw [if_neg hh]
theorem Sg_Cl (hpq : p + q = 10) : ∀ n, n ≤ 5 → ∀ φ, Sg hv x y p q n φ = Cl hv x y p q n φ
  | 0, _, φ => by
    unfold Sg Cl
    simp [sumN, hvN, kN, wN, wy]
  | n + 1, hn, φ => by
    rw [Sg_s (by omega), Cl_s (by omega) hpq, Sg_Cl hpq n (by omega), Sg_Cl hpq n (by omega), Sg_Cl hpq n (by omega)]
theorem Cl_1 (hpq : p + q = 10) : ∀ n, n ≤ 5 → Cl hv x y p q n (fun _ => 1) = csN hv n
  | 0, _ => by unfold Cl; simp [sumN, wy, csN]
  | n + 1, hn => by
    rw [Cl_s (by omega) hpq]
    rw [csN_s, ← Cl_1 hpq n (by omega)]
    split
    · rw [← Nat.mul_add, Nat.add_comm q p, hpq]
    · rfl
theorem csN_le : ∀ n, 1 ≤ csN hv n ∧ csN hv n ≤ 10 ^ n
  | 0 => ⟨Nat.le_refl _, Nat.le_refl _⟩
  | n + 1 => by
    have := csN_le n
    rw [csN_s, Nat.pow_succ]
    split
    · omega
    · omega
theorem aW_le (hpq : p + q = 10) : aW x y p q n ≤ 10 := by
  unfold aW
  split <;> split <;> omega
theorem wy_le (hpq : p + q = 10) : ∀ n j, wy hv x y p q n j ≤ 10 ^ n
  | 0, j => by unfold wy; split <;> decide
  | n + 1, j => by
    have h1 := wy_le hpq n j
    have h2 := wy_le hpq n (j - 1)
    have ha := aW_le (x := x) (y := y) (n := n) hpq
    rw [wy_s, Nat.pow_succ]
    split
    · have k1 : wy hv x y p q n j * (10 - aW x y p q n) ≤ 10 ^ n * (10 - aW x y p q n) := Nat.mul_le_mul_right _ h1
      have k2 : (if j = 0 then 0 else wy hv x y p q n (j - 1)) * aW x y p q n ≤ 10 ^ n * aW x y p q n := Nat.mul_le_mul_right _ (by split; exact Nat.zero_le _; exact h2)
      have k3 : 10 ^ n * (10 - aW x y p q n) + 10 ^ n * aW x y p q n = 10 ^ n * 10 := by rw [← Nat.mul_add]; congr 1; omega
      omega
    · omega
theorem wN_le (hpq : p + q = 10) : ∀ n, wN hv p q w n ≤ 10 ^ n
  | 0 => Nat.le_refl _
  | n + 1 => by
    have h1 := wN_le hpq n
    rw [wN_s, Nat.pow_succ]
    refine Nat.mul_le_mul h1 ?_
    split
    · split <;> omega
    · decide
theorem kN_le : ∀ n, kN hv x y w n ≤ n
  | 0 => Nat.le_refl _
  | n + 1 => by
    have := kN_le n
    rw [kN_s]
    have := ite_le1 (P := hv n = true ∧ (if w / 2 ^ n % 2 = 1 then y n else x n) = true)
    omega
/-- the sums that the reference makes -/
theorem Sg_up {φ : Nat → Nat} : sumN (fun w => if (w &&& hvN hv 5) = w then φ (kN hv x y w 5) * wN hv p q w 5 else 0) (hvN hv 5 + 1) = Sg hv x y p q 5 φ := by
  have hlt := hvN_lt (hv := hv) 5
  have e : 2 ^ 5 = hvN hv 5 + 1 + (2 ^ 5 - (hvN hv 5 + 1)) := by omega
  have z : Sg hv x y p q 5 φ = sumN (fun w => if (w &&& hvN hv 5) = w then φ (kN hv x y w 5) * wN hv p q w 5 else 0) (hvN hv 5 + 1 + (2 ^ 5 - (hvN hv 5 + 1))) := by
    rw [← e]
    rfl
  rw [z, sumN_split (a := hvN hv 5 + 1)]
  rw [sumN_0 (f := fun i => if (i + (hvN hv 5 + 1) &&& hvN hv 5) = i + (hvN hv 5 + 1) then φ (kN hv x y (i + (hvN hv 5 + 1)) 5) * wN hv p q (i + (hvN hv 5 + 1)) 5 else 0) (2 ^ 5 - (hvN hv 5 + 1))]
  · rfl
  · intro w _
    have h1 : (w + (hvN hv 5 + 1) &&& hvN hv 5) ≤ hvN hv 5 := Nat.and_le_right
    rw [if_neg (by omega)]
theorem hvN_bit : ∀ b0 b1 b2 b3 b4 : Bool, ∀ h, h < 5 → (((((if b0 = true then 1 else 0) + (if b1 = true then 2 else 0) + (if b2 = true then 4 else 0) + (if b3 = true then 8 else 0) + (if b4 = true then 16 else 0)) / 2 ^ h % 2 = 1) ↔ (if h = 0 then b0 else if h = 1 then b1 else if h = 2 then b2 else if h = 3 then b3 else b4) = true)) := by decide +kernel
theorem hv_bit {h : Nat} (hh : h < 5) : (hvN hv 5 / 2 ^ h % 2 = 1) = (hv h = true) := by
  apply propext
  have e : hvN hv 5 = (if hv 0 = true then 1 else 0) + (if hv 1 = true then 2 else 0) + (if hv 2 = true then 4 else 0) + (if hv 3 = true then 8 else 0) + (if hv 4 = true then 16 else 0) := by
    simp [hvN]
  rw [e, hvN_bit (hv 0) (hv 1) (hv 2) (hv 3) (hv 4) h hh]
  rcases (show h = 0 ∨ h = 1 ∨ h = 2 ∨ h = 3 ∨ h = 4 by omega) with rfl | rfl | rfl | rfl | rfl <;> simp
end DOZ
