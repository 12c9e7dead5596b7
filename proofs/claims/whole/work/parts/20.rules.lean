theorem clr_n : clr none = none := rfl
theorem clr_i {x : Int32} : clr (some (.int x)) = some (.int x) := rfl
theorem clr_a {x : Nat} : clr (some (.ref x)) = some (.ref x) := rfl
theorem ni_add (a b : Nat) : nI a + nI b = nI (a + b) := nI_add a b
theorem ni_mul (a b : Nat) : nI a * nI b = nI (a * b) := pk_mul a b
theorem ni_sub {a b : Nat} (h : b ≤ a) : nI a - nI b = nI (a - b) := pk_sub h
theorem ni_lt {a b : Nat} (ha : a < 2147483648) (hb : b < 2147483648) : (nI a < nI b) = (a < b) := propext (nI_ltI (by omega) (by omega))
theorem ni_le {a b : Nat} (ha : a < 2147483648) (hb : b < 2147483648) : (nI a ≤ nI b) = (a ≤ b) := propext (nI_leI (by omega) (by omega))
theorem ni_eq {a b : Nat} (ha : a < 2147483648) (hb : b < 2147483648) : (nI a = nI b) = (a = b) := propext (nI_eq (by omega) (by omega))
theorem ni_div {a d : Nat} (ha : a < 2147483648) (h0 : 0 < d) (hd : d < 2147483648) : nI a / nI d = nI (a / d) := pk_div (by omega) h0 (by omega)
theorem ni_rem {a d : Nat} (ha : a < 2147483648) (h0 : 0 < d) (hd : d < 2147483648) : nI a - nI a / nI d * nI d = nI (a % d) := pk_rem (by omega) h0 (by omega)
theorem nat_mod_eq (a d : Nat) : a - a / d * d = a % d := by
  have := Nat.div_add_mod a d
  rw [Nat.mul_comm] at this
  omega
theorem ni_nz {d : Nat} (h0 : 0 < d) (h : d < 2147483648) : ¬ nI d = 0 := nI_ne0 h0 (by omega)
def bI (b : Bool) : Int32 := if b = true then nI 1 else nI 0
theorem bI_0 {b : Bool} : (bI b = nI 0) = (b = false) := by cases b <;> decide
theorem bI_n0 {b : Bool} : (¬ b = false) = (b = true) := by cases b <;> decide
theorem bI_1 {b : Bool} : (bI b = nI 1) = (b = true) := by cases b <;> decide
theorem retOk_bI (b : Bool) : retOk .boolean (bI b) = true := by cases b <;> decide
theorem retOk_0 : retOk .boolean (nI 0) = true := by decide
theorem retOk_1 : retOk .boolean (nI 1) = true := by decide
theorem i_lt {u v : Int32} : (u < v) = ¬ (v ≤ u) := propext (Int32.not_le).symm
theorem iMax_nn {a b : Nat} (ha : a < 2147483648) (hb : b < 2147483648) : iMax (nI a) (nI b) = nI (max a b) := by
  unfold iMax
  by_cases h : a < b
  · rw [if_pos (cast (ni_lt ha hb).symm h), Nat.max_eq_right (by omega)]
  · rw [if_neg (fun q => h (cast (ni_lt ha hb) q)), Nat.max_eq_left (by omega)]
theorem iMin_nn {a b : Nat} (ha : a < 2147483648) (hb : b < 2147483648) : iMin (nI a) (nI b) = nI (min a b) := by
  unfold iMin
  by_cases h : b < a
  · rw [if_pos (cast (ni_lt hb ha).symm h), Nat.min_eq_right (by omega)]
  · rw [if_neg (fun q => h (cast (ni_lt hb ha) q)), Nat.min_eq_left (by omega)]
theorem iMax_sub {a b : Nat} (ha : a < 1073741824) (hb : b < 1073741824) : iMax (nI 0) (nI a - nI b) = nI (a - b) := by
  by_cases h : b ≤ a
  · rw [ni_sub h, iMax_nn (by omega) (by omega), Nat.zero_max]
  · have := pk_sneg (a := a) (b := b) (by omega) (by omega)
    unfold iMax
    rw [if_neg (fun q => by have h1 := Int32.lt_iff_toInt_lt.mp (show nI a - nI b < nI 0 from this); have h2 := Int32.lt_iff_toInt_lt.mp q; omega), show a - b = 0 by omega]
theorem ni_l {n : Nat} (h : n < 2147483648) : (nI n).toInt64 = lN n := nI_l (by omega)
theorem ln_mask {n : Nat} (hn : n < 18446744073709551616) : lN n &&& lN 2147483647 = lN (n % 2147483648) := by
  apply Int64.toBitVec_inj.mp
  rw [Int64.toBitVec_and]
  show BitVec.ofNat 64 n &&& BitVec.ofNat 64 2147483647 = BitVec.ofNat 64 (n % 2147483648)
  apply BitVec.eq_of_toNat_eq
  have h3 : n &&& 2147483647 = n % 2147483648 := Nat.and_two_pow_sub_one_eq_mod n 31
  rw [BitVec.toNat_and, BitVec.toNat_ofNat, BitVec.toNat_ofNat, BitVec.toNat_ofNat, Nat.mod_eq_of_lt (show n < 2 ^ 64 by omega), Nat.mod_eq_of_lt (show 2147483647 < 2 ^ 64 by decide), h3, Nat.mod_eq_of_lt (show n % 2147483648 < 2 ^ 64 by omega)]
theorem up2_s {m : Nat → Nat → Int32} {a k : Nat} {v : Int32} : up2 m a k v a k = v := by simp [up2, va_up, upd]
theorem up2_n {m : Nat → Nat → Int32} {a b k : Nat} {v : Int32} (h : b ≠ a) : up2 m a k v b = m b := by simp [up2, va_up, h]
theorem up2_k {m : Nat → Nat → Int32} {a k j : Nat} {v : Int32} (h : j ≠ k) : up2 m a k v a j = m a j := by simp [up2, va_up, upd, h]
theorem ent_def {vs : List Value} {n : Nat} : ent vs n = slL vs ++ List.replicate (n - (slL vs).length) none := rfl
/-- a Shire at the cell a, its rows in the six cells behind it -/
def Sh (G : List AT) (a : Nat) : Prop := atg G a = 13 ∧ (rfn G a 7 = a + 1 ∧ rfn G a 8 = a + 2 ∧ rfn G a 9 = a + 3 ∧ rfn G a 10 = a + 4 ∧ rfn G a 11 = a + 5 ∧ rfn G a 12 = a + 6) ∧ (atg G (a + 1) = 0 ∧ atg G (a + 2) = 0 ∧ atg G (a + 3) = 0 ∧ atg G (a + 4) = 0 ∧ atg G (a + 5) = 0 ∧ atg G (a + 6) = 0) ∧ (aln G (a + 1) = 5 ∧ aln G (a + 2) = 5 ∧ aln G (a + 3) = 5 ∧ aln G (a + 4) = 5 ∧ aln G (a + 5) = 5 ∧ aln G (a + 6) = 25)
/-- a Shire shows a state: 0 BEARS, 5 LONG, 10 HEARD, 35 LOOKED, 40 TURN, 41 STEP, 42 EVENING, 43 DRAW, 44 TELLERS, 45 HEARERS, 46 KIND, 51 MOST -/
def seats (σ : Nat → Nat) : Nat := max (σ 44) (σ 45)
/-- in which row of a Shire, and at which place, a part of the state lies -/
def cO (i : Nat) : Nat := if i < 5 then 4 else if i < 10 then 2 else if i < 35 then 6 else if i < 40 then 5 else if i < 46 then 0 else if i < 51 then 1 else 3
def cK (i : Nat) : Nat := if i < 5 then i else if i < 10 then i - 5 else if i < 35 then i - 10 else if i < 40 then i - 35 else if i < 44 then i - 37 else if i < 46 then i - 44 else if i < 51 then i - 46 else i - 51
def live (σ : Nat → Nat) (i : Nat) : Prop := (i < 5 → i < σ 45) ∧ (5 ≤ i → i < 10 → i - 5 < σ 44) ∧ (46 ≤ i → i < 51 → i - 46 < σ 44) ∧ (51 ≤ i → i - 51 < σ 45)
def ShV (m : Nat → Nat → Int32) (a : Nat) (σ : Nat → Nat) : Prop := σ 44 ≤ 5 ∧ σ 45 ≤ 5 ∧ m a 2 = nI (seats σ) ∧ ∀ i, i < 56 → live σ i → m (a + cO i) (cK i) = nI (σ i)
theorem ShV_old {m : Nat → Nat → Int32} {a : Nat} {σ : Nat → Nat} (h : ShV m a σ) :
  (m a 0 = nI (σ 44) ∧ m a 1 = nI (σ 45) ∧ m a 2 = nI (seats σ) ∧ m a 3 = nI (σ 40) ∧ m a 4 = nI (σ 41) ∧ m a 5 = nI (σ 42) ∧ m a 6 = nI (σ 43)) ∧
  (∀ k, k < σ 44 → m (a + 1) k = nI (σ (46 + k))) ∧ (∀ k, k < σ 44 → m (a + 2) k = nI (σ (5 + k))) ∧ (∀ k, k < σ 45 → m (a + 3) k = nI (σ (51 + k))) ∧ (∀ k, k < σ 45 → m (a + 4) k = nI (σ k)) ∧ (∀ k, k < 5 → m (a + 5) k = nI (σ (35 + k))) ∧ (∀ k, k < 25 → m (a + 6) k = nI (σ (10 + k))) := by
  obtain ⟨b1, b2, b3, h⟩ := h
  have f : ∀ i o k, i < 56 → cO i = o → cK i = k → live σ i → m (a + o) k = nI (σ i) := fun i o k h1 h2 h3 h4 => by rw [← h2, ← h3]; exact h i h1 h4
  refine ⟨⟨f 44 0 0 (by decide) (by decide) (by decide) ⟨by omega, by omega, by omega, by omega⟩, f 45 0 1 (by decide) (by decide) (by decide) ⟨by omega, by omega, by omega, by omega⟩, b3, f 40 0 3 (by decide) (by decide) (by decide) ⟨by omega, by omega, by omega, by omega⟩, f 41 0 4 (by decide) (by decide) (by decide) ⟨by omega, by omega, by omega, by omega⟩, f 42 0 5 (by decide) (by decide) (by decide) ⟨by omega, by omega, by omega, by omega⟩, f 43 0 6 (by decide) (by decide) (by decide) ⟨by omega, by omega, by omega, by omega⟩⟩, ?_, ?_, ?_, ?_, ?_, ?_⟩
  · intro k hk; exact f (46 + k) 1 k (by omega) (by simp only [cO]; rw [if_neg (by omega), if_neg (by omega), if_neg (by omega), if_neg (by omega), if_neg (by omega), if_pos (by omega)]) (by simp only [cK]; rw [if_neg (by omega), if_neg (by omega), if_neg (by omega), if_neg (by omega), if_neg (by omega), if_neg (by omega), if_pos (by omega)]; omega) ⟨by omega, by omega, by omega, by omega⟩
  · intro k hk; exact f (5 + k) 2 k (by omega) (by simp only [cO]; rw [if_neg (by omega), if_pos (by omega)]) (by simp only [cK]; rw [if_neg (by omega), if_pos (by omega)]; omega) ⟨by omega, by omega, by omega, by omega⟩
  · intro k hk; exact f (51 + k) 3 k (by omega) (by simp only [cO]; rw [if_neg (by omega), if_neg (by omega), if_neg (by omega), if_neg (by omega), if_neg (by omega), if_neg (by omega)]) (by simp only [cK]; rw [if_neg (by omega), if_neg (by omega), if_neg (by omega), if_neg (by omega), if_neg (by omega), if_neg (by omega), if_neg (by omega)]; omega) ⟨by omega, by omega, by omega, by omega⟩
  · intro k hk; exact f k 4 k (by omega) (by simp only [cO]; rw [if_pos (by omega)]) (by simp only [cK]; rw [if_pos (by omega)]) ⟨by omega, by omega, by omega, by omega⟩
  · intro k hk; exact f (35 + k) 5 k (by omega) (by simp only [cO]; rw [if_neg (by omega), if_neg (by omega), if_neg (by omega), if_pos (by omega)]) (by simp only [cK]; rw [if_neg (by omega), if_neg (by omega), if_neg (by omega), if_pos (by omega)]; omega) ⟨by omega, by omega, by omega, by omega⟩
  · intro k hk; exact f (10 + k) 6 k (by omega) (by simp only [cO]; rw [if_neg (by omega), if_neg (by omega), if_pos (by omega)]) (by simp only [cK]; rw [if_neg (by omega), if_neg (by omega), if_pos (by omega)]; omega) ⟨by omega, by omega, by omega, by omega⟩
/-- what holds of every state -/
def Bd (σ : Nat → Nat) : Prop := σ 44 ≤ 5 ∧ σ 45 ≤ 5 ∧ σ 41 ≤ 4 ∧ (σ 40 < seats σ ∨ seats σ = 0 ∧ σ 40 = 0) ∧ σ 42 < 100000 ∧ σ 43 < 2147483648 ∧ (∀ k, k < 5 → σ (46 + k) ≤ 4) ∧ (∀ k, k < 5 → σ (5 + k) ≤ 20) ∧ (∀ k, k < 5 → σ k ≤ 99) ∧ (∀ k, k < 5 → σ (51 + k) ≤ 99) ∧ (∀ k, k < 5 → σ (35 + k) < 1000000) ∧ (∀ k, k < 25 → σ (10 + k) ≤ 9)
