/-- all that the law has made, by its cells -/
def GW (G : List AT) : Prop :=
  (atg G 2 = 16 ∧ rfn G 2 0 = 3 ∧ rfn G 2 1 = 10 ∧ rfn G 2 2 = 68 ∧ rfn G 2 3 = 75 ∧ rfn G 2 5 = 133 ∧ rfn G 2 6 = 135 ∧ rfn G 2 7 = 144 ∧ rfn G 2 8 = 151 ∧ rfn G 2 9 = 152 ∧ rfn G 2 10 = 153 ∧ rfn G 2 11 = 155 ∧ rfn G 2 12 = 157) ∧
  (Sh G 3 ∧ Pa G 10 ∧ Sh G 68 ∧ Pa G 75 ∧ Sh G 144) ∧ (atg G 133 = 15 ∧ rfn G 133 0 = 134 ∧ atg G 134 = 1 ∧ aln G 134 = 70) ∧
  (atg G 135 = 4 ∧ aln G 135 = 4 ∧ ∀ s, s < 4 → rfn G 135 s = 136 + 2 * s ∧ atg G (136 + 2 * s) = 12 ∧ rfn G (136 + 2 * s) 2 = 137 + 2 * s ∧ atg G (137 + 2 * s) = 2 ∧ aln G (137 + 2 * s) = 24) ∧
  (atg G 151 = 14 ∧ atg G 152 = 14) ∧ (atg G 153 = 10 ∧ rfn G 153 0 = 154 ∧ atg G 154 = 0 ∧ aln G 154 = 5 ∧ atg G 155 = 10 ∧ rfn G 155 0 = 156 ∧ atg G 156 = 0 ∧ aln G 156 = 5) ∧ (atg G 157 = 0 ∧ aln G 157 = 6)
def GM (G : List AT) : Prop :=
  (atg G 158 = 17 ∧ rfn G 158 0 = 159 ∧ rfn G 158 2 = 160 ∧ rfn G 158 4 = 161 ∧ rfn G 158 5 = 162 ∧ rfn G 158 6 = 163 ∧ rfn G 158 7 = 164 ∧ rfn G 158 15 = 165 ∧ rfn G 158 16 = 166 ∧ rfn G 158 17 = 167 ∧ rfn G 158 18 = 168 ∧ rfn G 158 21 = 169 ∧ rfn G 158 22 = 170) ∧
  (atg G 159 = 0 ∧ atg G 160 = 0 ∧ atg G 161 = 0 ∧ atg G 162 = 0 ∧ atg G 163 = 2 ∧ atg G 164 = 0 ∧ atg G 165 = 0 ∧ atg G 166 = 0 ∧ atg G 167 = 0 ∧ atg G 168 = 0 ∧ atg G 169 = 0 ∧ atg G 170 = 2) ∧
  (aln G 159 = 874 ∧ aln G 160 = 70 ∧ aln G 161 = 4 ∧ aln G 162 = 4 ∧ aln G 163 = 96 ∧ aln G 164 = 5 ∧ aln G 165 = 5 ∧ aln G 166 = 5 ∧ aln G 167 = 5 ∧ aln G 168 = 5 ∧ aln G 169 = 5 ∧ aln G 170 = 24)
/-! numbers -/
theorem lc_lt {u v : Int64} : (lg_cmp u v < nI 0) = (u < v) := by
  unfold lg_cmp
  apply propext
  by_cases h1 : u > v
  · rw [if_pos h1]
    constructor
    · intro h; exact absurd h (by decide)
    · intro h
      have a := Int64.lt_iff_toInt_lt.mp h
      have b := Int64.lt_iff_toInt_lt.mp h1
      omega
  · rw [if_neg h1]
    by_cases h2 : u = v
    · rw [if_pos h2]
      constructor
      · intro h; exact absurd h (by decide)
      · intro h
        subst h2
        have a := Int64.lt_iff_toInt_lt.mp h
        omega
    · rw [if_neg h2]
      constructor
      · intro _
        apply Int64.lt_iff_toInt_lt.mpr
        have b : ¬ v.toInt < u.toInt := fun q => h1 (Int64.lt_iff_toInt_lt.mpr q)
        have c : u.toInt ≠ v.toInt := fun q => h2 (Int64.toInt_inj.mp q)
        omega
      · intro _; decide
theorem lc_gt {u v : Int64} : (nI 0 < lg_cmp u v) = (v < u) := by
  unfold lg_cmp
  apply propext
  by_cases h1 : u > v
  · rw [if_pos h1]
    exact ⟨fun _ => h1, fun _ => by decide⟩
  · rw [if_neg h1]
    by_cases h2 : u = v
    · rw [if_pos h2]
      exact ⟨fun h => absurd h (by decide), fun h => absurd h h1⟩
    · rw [if_neg h2]
      exact ⟨fun h => absurd h (by decide), fun h => absurd h h1⟩
theorem l_lt {u v : Int64} : (u < v) = ¬ (v ≤ u) := propext (Int64.not_le).symm
theorem r_X7_in {u v w : Int64} {μ : Mm} : res mX7_in [.long u, .long v, .long w] μ = some (some (.int (bI (decide (v ≤ u) && decide (u ≤ w)))), μ) := by
  apply res_of
  show Wp mX7_in 0 [some (.long u), none, some (.long v), none, some (.long w), none] [] μ _
  simp (maxSteps := 1000000) (decide := true) (disch := (first | assumption | omega | exact Nat.div_mul_le_self _ _ | exact ni_nz (by omega) (by omega) | exact rfl | exact retOk_bI _ | exact retOk_0 | exact retOk_1)) only [eX7_in_0, eX7_in_1, eX7_in_2, eX7_in_3, eX7_in_6, eX7_in_7, eX7_in_9, eX7_in_10, eX7_in_13, eX7_in_14, eX7_in_17, eX7_in_18, lc_lt, lc_gt, l_lt, WpR_some, Option.toList_some, Option.toList_none, List.cons_append, List.nil_append, List.append_nil, clr_n, clr_i, clr_a, ni_add, ni_mul, ni_sub, ni_lt, ni_le, ni_eq, ni_div, nat_mod_eq, ni_rem, iMax_nn, iMin_nn, iMax_sub, Nat.zero_max, bI_0, bI_1, bI_n0, up2_s, up2_n, up2_k, va_up_self, va_up_ne, ni_l, lN_mul, lN_add, ln_mask, lN_i, ↓reduceIte, if_true, if_false, not_true_eq_false, not_false_eq_true, ite_self, Nat.add_zero, Nat.zero_add, ent_def]
  by_cases h1 : v ≤ u <;> by_cases h2 : u ≤ w <;> simp [h1, h2, bI]
theorem toI64 (v : Int32) : v.toInt64.toInt = v.toInt := Int32.toInt_toInt64 v
theorem le_l {v : Int32} {k : Nat} (hk : k < 2147483648) : (lN k ≤ v.toInt64) = (nI k ≤ v) := by
  apply propext
  rw [Int64.le_iff_toInt_le, Int32.le_iff_toInt_le, toI64, lN_toInt (by omega), nI_toInt (by omega)]
theorem ge_l {v : Int32} {k : Nat} (hk : k < 2147483648) : (v.toInt64 ≤ lN k) = (v ≤ nI k) := by
  apply propext
  rw [Int64.le_iff_toInt_le, Int32.le_iff_toInt_le, toI64, lN_toInt (by omega), nI_toInt (by omega)]
theorem lt_l1 {v : Int32} {k : Nat} (hk : k < 1000) : (v.toInt64 ≤ (nI k - nI 1).toInt64) = (v < nI k) := by
  apply propext
  rw [Int64.le_iff_toInt_le, Int32.lt_iff_toInt_lt, toI64, toI64, pk_sub_toInt (by omega) (by decide), nI_toInt (by omega)]
  omega
/-- is a number within; is there such a one -/
def rg (v : Int32) (lo hi : Nat) : Bool := decide (nI lo ≤ v) && decide (v ≤ nI hi)
def isN (v : Int32) (n : Nat) : Bool := decide (nI 0 ≤ v) && decide (v < nI n)
theorem rg_of {v : Int32} {lo hi : Nat} (h : rg v lo hi = true) (hlo : lo < 2147483648) (hh : hi < 2147483648) : ∃ k, v = nI k ∧ lo ≤ k ∧ k ≤ hi := by
  unfold rg at h
  rw [Bool.and_eq_true, decide_eq_true_eq, decide_eq_true_eq] at h
  have h1 := Int32.le_iff_toInt_le.mp h.1
  have h2 := Int32.le_iff_toInt_le.mp h.2
  rw [nI_toInt (by omega)] at h1 h2
  refine ⟨v.toInt.toNat, ?_, by omega, by omega⟩
  apply Int32.toInt_inj.mp
  rw [nI_toInt (by omega)]
  omega
theorem isN_of {v : Int32} {n : Nat} (h : isN v n = true) (hn : n < 2147483648) : ∃ k, v = nI k ∧ k < n := by
  unfold isN at h
  rw [Bool.and_eq_true, decide_eq_true_eq, decide_eq_true_eq] at h
  have h1 := Int32.le_iff_toInt_le.mp h.1
  have h2 := Int32.lt_iff_toInt_lt.mp h.2
  rw [nI_toInt (by omega)] at h1 h2
  refine ⟨v.toInt.toNat, ?_, by omega⟩
  apply Int32.toInt_inj.mp
  rw [nI_toInt (by omega)]
  omega
