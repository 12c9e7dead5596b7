section TPE
variable {G : List AT} {m : Nat → Nat → Int32} {ml : Nat → Nat → Int64} {tl n p q c e d : Nat} {tc τ σ : Nat → Nat} {u v w : Int32} {μ : Mm}
def skF (tl : Nat) (tc : Nat → Nat) : Nat → Nat → Nat
  | 0, p => p
  | n + 1, p => if p < tl ∧ tc p = 32 then skF tl tc n (p + 1) else p
/-- where the next letter that is no blank stands -/
def sk (tl : Nat) (tc : Nat → Nat) (p : Nat) : Nat := skF tl tc (tl - p) p
theorem sk_y (h : p < tl) (h2 : tc p = 32) : sk tl tc p = sk tl tc (p + 1) := by
  unfold sk
  rw [show tl - p = (tl - (p + 1)) + 1 by omega]
  show (if p < tl ∧ tc p = 32 then skF tl tc (tl - (p + 1)) (p + 1) else p) = _
  rw [if_pos ⟨h, h2⟩]
theorem sk_n (h : ¬ (p < tl ∧ tc p = 32)) : sk tl tc p = p := by
  unfold sk
  cases tl - p with
  | zero => rfl
  | succ n =>
    show (if p < tl ∧ tc p = 32 then skF tl tc n (p + 1) else p) = _
    rw [if_neg h]
theorem skF_b (n p : Nat) : p ≤ skF tl tc n p ∧ skF tl tc n p ≤ max p tl ∧ skF tl tc n p ≤ p + n := by
  induction n generalizing p with
  | zero => exact ⟨Nat.le_refl _, by show p ≤ _; omega, Nat.le_refl _⟩
  | succ n ih =>
    show p ≤ (if p < tl ∧ tc p = 32 then skF tl tc n (p + 1) else p) ∧ (if p < tl ∧ tc p = 32 then skF tl tc n (p + 1) else p) ≤ _ ∧ (if p < tl ∧ tc p = 32 then skF tl tc n (p + 1) else p) ≤ _
    by_cases h : p < tl ∧ tc p = 32
    · rw [if_pos h]
      obtain ⟨h1, h2, h3⟩ := ih (p + 1)
      omega
    · rw [if_neg h]; omega
theorem sk_ge (p : Nat) : p ≤ sk tl tc p := (skF_b _ p).1
theorem sk_mx (p : Nat) : sk tl tc p ≤ max p tl := (skF_b _ p).2.1
theorem sk_le (h : p ≤ tl) : sk tl tc p ≤ tl := by have := sk_mx (tl := tl) (tc := tc) p; omega
theorem sk_sk (p : Nat) : ¬ (sk tl tc p < tl ∧ tc (sk tl tc p) = 32) := by
  generalize hn : tl - p = n
  induction n generalizing p with
  | zero => have := sk_ge (tl := tl) (tc := tc) p; omega
  | succ n ih =>
    by_cases h : p < tl ∧ tc p = 32
    · rw [sk_y h.1 h.2]; exact ih (p + 1) (by omega)
    · rw [sk_n h]; exact h
theorem sk_2 (p : Nat) : sk tl tc (sk tl tc p) = sk tl tc p := sk_n (sk_sk p)
/-- the next letter that is no blank, 0 at the end -/
def nl (tl : Nat) (tc : Nat → Nat) (p : Nat) : Nat := if sk tl tc p < tl then tc (sk tl tc p) else 0
def dgt (tl : Nat) (tc : Nat → Nat) (q : Nat) : Bool := decide (q < tl ∧ 48 ≤ tc q ∧ tc q ≤ 57)
theorem dgt_t (h : dgt tl tc q = true) : q < tl ∧ 48 ≤ tc q ∧ tc q ≤ 57 := of_decide_eq_true h
theorem dgt_f (h : dgt tl tc q = false) : ¬ (q < tl ∧ 48 ≤ tc q ∧ tc q ≤ 57) := of_decide_eq_false h
theorem dgt_sk (h : dgt tl tc q = true) : sk tl tc q = q := sk_n (by have := dgt_t h; omega)
theorem dgt_nl (h : dgt tl tc q = true) : nl tl tc q = tc q := by unfold nl; rw [dgt_sk h, if_pos (dgt_t h).1]
/-- a number: its value and where it ends -/
def nv (tl : Nat) (tc : Nat → Nat) (s : Nat) : Nat := if dgt tl tc (s + 1) = true then (tc s - 48) * 10 + (tc (s + 1) - 48) else tc s - 48
def ne' (tl : Nat) (tc : Nat → Nat) (s : Nat) : Nat := if dgt tl tc (s + 1) = true then s + 2 else s + 1
def numR (tl : Nat) (tc : Nat → Nat) (lo hi p : Nat) : Nat ⊕ (Nat × Nat) := if dgt tl tc (sk tl tc p) = true then (if lo ≤ nv tl tc (sk tl tc p) ∧ nv tl tc (sk tl tc p) ≤ hi then (if dgt tl tc (ne' tl tc (sk tl tc p)) = true then .inl (ne' tl tc (sk tl tc p)) else .inr (nv tl tc (sk tl tc p), ne' tl tc (sk tl tc p))) else .inl (sk tl tc p)) else .inl (sk tl tc p)
theorem nv_le (h : dgt tl tc q = true) : nv tl tc q ≤ 99 := by
  have := dgt_t h
  unfold nv
  by_cases h2 : dgt tl tc (q + 1) = true
  · have := dgt_t h2
    rw [if_pos h2]; omega
  · rw [if_neg h2]; omega
theorem ne_le (h : dgt tl tc q = true) : ne' tl tc q ≤ tl ∧ q < ne' tl tc q := by
  have := dgt_t h
  unfold ne'
  by_cases h2 : dgt tl tc (q + 1) = true
  · have := dgt_t h2
    rw [if_pos h2]; omega
  · rw [if_neg h2]; omega
/-! the class -/
theorem up2_2 {a k : Nat} : up2 (up2 m a k u) a k v = up2 m a k v := by
  funext b j
  rw [up2_at, up2_at, up2_at]
  by_cases h : b = a ∧ j = k
  · rw [if_pos h, if_pos h]
  · rw [if_neg h, if_neg h, if_neg h]
theorem up2_id {a k : Nat} (h : m a k = v) : up2 m a k v = m := by
  funext b j
  rw [up2_at]
  by_cases h2 : b = a ∧ j = k
  · rw [if_pos h2, h2.1, h2.2, h]
  · rw [if_neg h2]
theorem retOk_c (h : n < 65536) : retOk .char (nI n) = true := by
  have h1 : (nI 0 ≤ nI n) = (0 ≤ n) := ni_le (by omega) (by omega)
  have h2 : (nI n < nI 65536) = (n < 65536) := ni_lt (by omega) (by omega)
  show (decide (nI 0 ≤ nI n) && decide (nI n < nI 65536)) = true
  rw [Bool.and_eq_true, decide_eq_true_eq, decide_eq_true_eq, h1, h2]
  omega
theorem CT_p (h : CT m tl tc) : CT (up2 m 133 2 v) tl tc := ⟨by rw [up2_k (by decide)]; exact h.1, h.2.1, fun j hj => by rw [up2_n (by decide)]; exact h.2.2 j hj⟩
theorem nl_le (hT : CT m tl tc) (p : Nat) : nl tl tc p ≤ 126 := by
  unfold nl
  by_cases h : sk tl tc p < tl
  · rw [if_pos h]; exact (hT.2.2 _ h).2.2
  · rw [if_neg h]; omega
theorem w_nl {Q : Option Value → Mm → Prop} (hG : GW G) (hT : CT m tl tc) (hp : m 133 2 = nI p) (hl : p ≤ tl) (k : Q (some (.int (nI (nl tl tc p)))) (G, up2 m 133 2 (nI (sk tl tc p)), ml)) : Wp mX5_nextLetter 0 [some (.ref 133)] [] (G, m, ml) Q := by
  generalize hn : tl - p = n
  have hG0 := hG
  obtain ⟨-, -, ⟨t0, t1, t2, t3⟩, -⟩ := hG
  induction n generalizing p m with
  | zero =>
    have hT0 := hT
    obtain ⟨c1, c2, c3⟩ := hT
    have h1 : tl = p := by omega
    subst h1
    have h2 : sk tl tc tl = tl := sk_n (by omega)
    have h3 : nl tl tc tl = 0 := by unfold nl; rw [h2, if_neg (Nat.lt_irrefl _)]
    rw [h2, h3, up2_id hp] at k
    have h4 := retOk_c (n := 0) (by decide)
    rw [eX5_nextLetter_0]
    simp (maxSteps := 1000000) (decide := true) (disch := (first | assumption | omega | exact Nat.div_mul_le_self _ _ | exact ni_nz (by omega) (by omega) | exact rfl | exact retOk_bI _ | exact retOk_0 | exact retOk_1)) only [eX5_nextLetter_1, eX5_nextLetter_4, eX5_nextLetter_5, eX5_nextLetter_8, eX5_nextLetter_11, eX5_nextLetter_12, eX5_nextLetter_15, eX5_nextLetter_16, eX5_nextLetter_19, eX5_nextLetter_20, eX5_nextLetter_22, eX5_nextLetter_25, eX5_nextLetter_26, eX5_nextLetter_27, eX5_nextLetter_30, eX5_nextLetter_31, eX5_nextLetter_32, eX5_nextLetter_35, eX5_nextLetter_38, eX5_nextLetter_39, eX5_nextLetter_42, eX5_nextLetter_43, eX5_nextLetter_46, eX5_nextLetter_49, eX5_nextLetter_50, eX5_nextLetter_53, eX5_nextLetter_54, eX5_nextLetter_57, eX5_nextLetter_58, eX5_nextLetter_61, eX5_nextLetter_62, c1, hp, Nat.le_refl, WpR_some, Option.toList_some, Option.toList_none, List.cons_append, List.nil_append, List.append_nil, clr_n, clr_i, clr_a, ni_add, ni_mul, ni_sub, ni_lt, ni_le, ni_eq, ni_div, nat_mod_eq, ni_rem, iMax_nn, iMin_nn, iMax_sub, Nat.zero_max, bI_0, bI_1, bI_n0, up2_s, up2_n, up2_k, va_up_self, va_up_ne, ni_l, lN_mul, lN_add, ln_mask, lN_i, ↓reduceIte, if_true, if_false, not_true_eq_false, not_false_eq_true, ite_self, Nat.add_zero, Nat.zero_add, ent_def]
    exact k
  | succ n ih =>
    have hT0 := hT
    obtain ⟨c1, c2, c3⟩ := hT
    have hlt : ¬ tl ≤ p := by omega
    have hlt' : p < tl := by omega
    obtain ⟨d1, d2, d3⟩ := c3 p hlt'
    rw [eX5_nextLetter_0]
    by_cases hb : tc p = 32
    · rw [hb] at d1
      simp (maxSteps := 1000000) (decide := true) (disch := (first | assumption | omega | exact Nat.div_mul_le_self _ _ | exact ni_nz (by omega) (by omega) | exact rfl | exact retOk_bI _ | exact retOk_0 | exact retOk_1)) only [eX5_nextLetter_1, eX5_nextLetter_4, eX5_nextLetter_5, eX5_nextLetter_8, eX5_nextLetter_11, eX5_nextLetter_12, eX5_nextLetter_15, eX5_nextLetter_16, eX5_nextLetter_19, eX5_nextLetter_20, eX5_nextLetter_22, eX5_nextLetter_25, eX5_nextLetter_26, eX5_nextLetter_27, eX5_nextLetter_30, eX5_nextLetter_31, eX5_nextLetter_32, eX5_nextLetter_35, eX5_nextLetter_38, eX5_nextLetter_39, eX5_nextLetter_42, eX5_nextLetter_43, eX5_nextLetter_46, eX5_nextLetter_49, eX5_nextLetter_50, eX5_nextLetter_53, eX5_nextLetter_54, eX5_nextLetter_57, eX5_nextLetter_58, eX5_nextLetter_61, eX5_nextLetter_62, c1, hp, t1, hlt, d1, WpR_some, Option.toList_some, Option.toList_none, List.cons_append, List.nil_append, List.append_nil, clr_n, clr_i, clr_a, ni_add, ni_mul, ni_sub, ni_lt, ni_le, ni_eq, ni_div, nat_mod_eq, ni_rem, iMax_nn, iMin_nn, iMax_sub, Nat.zero_max, bI_0, bI_1, bI_n0, up2_s, up2_n, up2_k, va_up_self, va_up_ne, ni_l, lN_mul, lN_add, ln_mask, lN_i, ↓reduceIte, if_true, if_false, not_true_eq_false, not_false_eq_true, ite_self, Nat.add_zero, Nat.zero_add, ent_def]
      refine ih (m := up2 m 133 2 (nI (p + 1))) (CT_p hT0) (by rw [up2_s]) (by omega) ?_ (by omega)
      unfold nl
      rw [up2_2, ← sk_y hlt' hb]
      exact k
    · have h2 : sk tl tc p = p := sk_n (fun z => hb z.2)
      have h3 : nl tl tc p = tc p := by unfold nl; rw [h2, if_pos hlt']
      rw [h2, h3, up2_id hp] at k
      have h4 := retOk_c (n := tc p) (by omega)
      simp (maxSteps := 1000000) (decide := true) (disch := (first | assumption | omega | exact Nat.div_mul_le_self _ _ | exact ni_nz (by omega) (by omega) | exact rfl | exact retOk_bI _ | exact retOk_0 | exact retOk_1)) only [eX5_nextLetter_1, eX5_nextLetter_4, eX5_nextLetter_5, eX5_nextLetter_8, eX5_nextLetter_11, eX5_nextLetter_12, eX5_nextLetter_15, eX5_nextLetter_16, eX5_nextLetter_19, eX5_nextLetter_20, eX5_nextLetter_22, eX5_nextLetter_25, eX5_nextLetter_26, eX5_nextLetter_27, eX5_nextLetter_30, eX5_nextLetter_31, eX5_nextLetter_32, eX5_nextLetter_35, eX5_nextLetter_38, eX5_nextLetter_39, eX5_nextLetter_42, eX5_nextLetter_43, eX5_nextLetter_46, eX5_nextLetter_49, eX5_nextLetter_50, eX5_nextLetter_53, eX5_nextLetter_54, eX5_nextLetter_57, eX5_nextLetter_58, eX5_nextLetter_61, eX5_nextLetter_62, c1, hp, t1, hlt, d1, hb, WpR_some, Option.toList_some, Option.toList_none, List.cons_append, List.nil_append, List.append_nil, clr_n, clr_i, clr_a, ni_add, ni_mul, ni_sub, ni_lt, ni_le, ni_eq, ni_div, nat_mod_eq, ni_rem, iMax_nn, iMin_nn, iMax_sub, Nat.zero_max, bI_0, bI_1, bI_n0, up2_s, up2_n, up2_k, va_up_self, va_up_ne, ni_l, lN_mul, lN_add, ln_mask, lN_i, ↓reduceIte, if_true, if_false, not_true_eq_false, not_false_eq_true, ite_self, Nat.add_zero, Nat.zero_add, ent_def]
      exact k
theorem r_nl (hG : GW G) (hT : CT m tl tc) (hp : m 133 2 = nI p) (hl : p ≤ tl) : res mX5_nextLetter [.ref 133] (G, m, ml) = some (some (.int (nI (nl tl tc p))), (G, up2 m 133 2 (nI (sk tl tc p)), ml)) := by
  apply res_of
  show Wp mX5_nextLetter 0 [some (.ref 133)] [] (G, m, ml) _
  exact w_nl hG hT hp hl rfl
theorem r_pl (hG : GW G) (hT : CT m tl tc) (hp : m 133 2 = nI p) (hl : p ≤ tl) (hc : c ≤ 126) : res mX5_passLetter [.ref 133, .int (nI c)] (G, m, ml) = some (some (.int (bI (decide (nl tl tc p = c)))), (G, up2 m 133 2 (nI (if nl tl tc p = c then sk tl tc p + 1 else sk tl tc p)), ml)) := by
  have e := r_nl (ml := ml) hG hT hp hl
  have h1 := nl_le hT p
  have h2 := sk_le (tc := tc) hl
  have h3 := hT.2.1
  obtain ⟨-, -, ⟨t0, t1, t2, t3⟩, -⟩ := hG
  apply res_of
  show Wp mX5_passLetter 0 [some (.ref 133), some (.int (nI c))] [] (G, m, ml) _
  by_cases h : nl tl tc p = c
  · rw [h] at e
    simp only [h, if_true, decide_true]
    simp (maxSteps := 1000000) (decide := true) (disch := (first | assumption | omega | exact Nat.div_mul_le_self _ _ | exact ni_nz (by omega) (by omega) | exact rfl | exact retOk_bI _ | exact retOk_0 | exact retOk_1)) only [eX5_passLetter_0, eX5_passLetter_1, eX5_passLetter_4, eX5_passLetter_5, eX5_passLetter_8, eX5_passLetter_9, eX5_passLetter_10, eX5_passLetter_11, eX5_passLetter_12, eX5_passLetter_15, eX5_passLetter_16, eX5_passLetter_17, eX5_passLetter_20, eX5_passLetter_21, e, up2_2, WpR_some, Option.toList_some, Option.toList_none, List.cons_append, List.nil_append, List.append_nil, clr_n, clr_i, clr_a, ni_add, ni_mul, ni_sub, ni_lt, ni_le, ni_eq, ni_div, nat_mod_eq, ni_rem, iMax_nn, iMin_nn, iMax_sub, Nat.zero_max, bI_0, bI_1, bI_n0, up2_s, up2_n, up2_k, va_up_self, va_up_ne, ni_l, lN_mul, lN_add, ln_mask, lN_i, ↓reduceIte, if_true, if_false, not_true_eq_false, not_false_eq_true, ite_self, Nat.add_zero, Nat.zero_add, ent_def]
    rfl
  · simp only [h, if_false, decide_false]
    simp (maxSteps := 1000000) (decide := true) (disch := (first | assumption | omega | exact Nat.div_mul_le_self _ _ | exact ni_nz (by omega) (by omega) | exact rfl | exact retOk_bI _ | exact retOk_0 | exact retOk_1)) only [eX5_passLetter_0, eX5_passLetter_1, eX5_passLetter_4, eX5_passLetter_5, eX5_passLetter_8, eX5_passLetter_9, eX5_passLetter_10, eX5_passLetter_11, eX5_passLetter_12, eX5_passLetter_15, eX5_passLetter_16, eX5_passLetter_17, eX5_passLetter_20, eX5_passLetter_21, e, up2_2, h, WpR_some, Option.toList_some, Option.toList_none, List.cons_append, List.nil_append, List.append_nil, clr_n, clr_i, clr_a, ni_add, ni_mul, ni_sub, ni_lt, ni_le, ni_eq, ni_div, nat_mod_eq, ni_rem, iMax_nn, iMin_nn, iMax_sub, Nat.zero_max, bI_0, bI_1, bI_n0, up2_s, up2_n, up2_k, va_up_self, va_up_ne, ni_l, lN_mul, lN_add, ln_mask, lN_i, ↓reduceIte, if_true, if_false, not_true_eq_false, not_false_eq_true, ite_self, Nat.add_zero, Nat.zero_add, ent_def]
    rfl
theorem r_dg (h : n ≤ 126) : res mX5_isDigit [.int (nI n)] μ = some (some (.int (bI (decide (48 ≤ n ∧ n ≤ 57)))), μ) := by
  apply res_of
  show Wp mX5_isDigit 0 [some (.int (nI n))] [] μ _
  by_cases h1 : n < 48
  · have h2 : ¬ (48 ≤ n ∧ n ≤ 57) := by omega
    simp only [h2, decide_false]
    simp (maxSteps := 1000000) (decide := true) (disch := (first | assumption | omega | exact Nat.div_mul_le_self _ _ | exact ni_nz (by omega) (by omega) | exact rfl | exact retOk_bI _ | exact retOk_0 | exact retOk_1)) only [eX5_isDigit_0, eX5_isDigit_1, eX5_isDigit_3, eX5_isDigit_6, eX5_isDigit_7, eX5_isDigit_9, eX5_isDigit_12, eX5_isDigit_13, eX5_isDigit_16, eX5_isDigit_17, h1, WpR_some, Option.toList_some, Option.toList_none, List.cons_append, List.nil_append, List.append_nil, clr_n, clr_i, clr_a, ni_add, ni_mul, ni_sub, ni_lt, ni_le, ni_eq, ni_div, nat_mod_eq, ni_rem, iMax_nn, iMin_nn, iMax_sub, Nat.zero_max, bI_0, bI_1, bI_n0, up2_s, up2_n, up2_k, va_up_self, va_up_ne, ni_l, lN_mul, lN_add, ln_mask, lN_i, ↓reduceIte, if_true, if_false, not_true_eq_false, not_false_eq_true, ite_self, Nat.add_zero, Nat.zero_add, ent_def]
    rfl
  · by_cases h2 : 57 < n
    · have h3 : ¬ (48 ≤ n ∧ n ≤ 57) := by omega
      simp only [h3, decide_false]
      simp (maxSteps := 1000000) (decide := true) (disch := (first | assumption | omega | exact Nat.div_mul_le_self _ _ | exact ni_nz (by omega) (by omega) | exact rfl | exact retOk_bI _ | exact retOk_0 | exact retOk_1)) only [eX5_isDigit_0, eX5_isDigit_1, eX5_isDigit_3, eX5_isDigit_6, eX5_isDigit_7, eX5_isDigit_9, eX5_isDigit_12, eX5_isDigit_13, eX5_isDigit_16, eX5_isDigit_17, h1, h2, WpR_some, Option.toList_some, Option.toList_none, List.cons_append, List.nil_append, List.append_nil, clr_n, clr_i, clr_a, ni_add, ni_mul, ni_sub, ni_lt, ni_le, ni_eq, ni_div, nat_mod_eq, ni_rem, iMax_nn, iMin_nn, iMax_sub, Nat.zero_max, bI_0, bI_1, bI_n0, up2_s, up2_n, up2_k, va_up_self, va_up_ne, ni_l, lN_mul, lN_add, ln_mask, lN_i, ↓reduceIte, if_true, if_false, not_true_eq_false, not_false_eq_true, ite_self, Nat.add_zero, Nat.zero_add, ent_def]
      rfl
    · have h3 : (48 ≤ n ∧ n ≤ 57) := by omega
      simp only [h3, decide_true]
      simp (maxSteps := 1000000) (decide := true) (disch := (first | assumption | omega | exact Nat.div_mul_le_self _ _ | exact ni_nz (by omega) (by omega) | exact rfl | exact retOk_bI _ | exact retOk_0 | exact retOk_1)) only [eX5_isDigit_0, eX5_isDigit_1, eX5_isDigit_3, eX5_isDigit_6, eX5_isDigit_7, eX5_isDigit_9, eX5_isDigit_12, eX5_isDigit_13, eX5_isDigit_16, eX5_isDigit_17, h1, h2, WpR_some, Option.toList_some, Option.toList_none, List.cons_append, List.nil_append, List.append_nil, clr_n, clr_i, clr_a, ni_add, ni_mul, ni_sub, ni_lt, ni_le, ni_eq, ni_div, nat_mod_eq, ni_rem, iMax_nn, iMin_nn, iMax_sub, Nat.zero_max, bI_0, bI_1, bI_n0, up2_s, up2_n, up2_k, va_up_self, va_up_ne, ni_l, lN_mul, lN_add, ln_mask, lN_i, ↓reduceIte, if_true, if_false, not_true_eq_false, not_false_eq_true, ite_self, Nat.add_zero, Nat.zero_add, ent_def]
      rfl
theorem r_rn0 {lo hi : Nat} (hG : GW G) (hT : CT m tl tc) (hp : m 133 2 = nI p) (hl : p ≤ tl) (hd : dgt tl tc (sk tl tc p) = false) : res mX5_readNumber [.ref 133, .int (nI lo), .int (nI hi)] (G, m, ml) = some (some (.int (-4)), (G, up2 m 133 2 (nI (sk tl tc p)), ml)) := by
  have e := r_nl (ml := ml) hG hT hp hl
  have h1 := nl_le hT p
  have e2 := r_dg (n := nl tl tc p) (μ := (G, up2 m 133 2 (nI (sk tl tc p)), ml)) h1
  have hd := dgt_f hd
  have h2 : ¬ (48 ≤ nl tl tc p ∧ nl tl tc p ≤ 57) := by
    unfold nl
    by_cases h : sk tl tc p < tl
    · rw [if_pos h]; omega
    · rw [if_neg h]; omega
  simp only [h2, decide_false] at e2
  obtain ⟨-, -, ⟨t0, t1, t2, t3⟩, -⟩ := hG
  apply res_of
  show Wp mX5_readNumber 0 [some (.ref 133), some (.int (nI lo)), some (.int (nI hi)), none, none] [] (G, m, ml) _
  simp (maxSteps := 1000000) (decide := true) (disch := (first | assumption | omega | exact Nat.div_mul_le_self _ _ | exact ni_nz (by omega) (by omega) | exact rfl | exact retOk_bI _ | exact retOk_0 | exact retOk_1)) only [eX5_readNumber_0, eX5_readNumber_1, eX5_readNumber_4, eX5_readNumber_7, eX5_readNumber_10, eX5_readNumber_12, eX5_readNumber_13, eX5_readNumber_14, eX5_readNumber_17, eX5_readNumber_18, eX5_readNumber_19, eX5_readNumber_22, eX5_readNumber_23, eX5_readNumber_24, eX5_readNumber_26, eX5_readNumber_27, eX5_readNumber_29, eX5_readNumber_30, eX5_readNumber_31, eX5_readNumber_34, eX5_readNumber_35, eX5_readNumber_36, eX5_readNumber_39, eX5_readNumber_40, eX5_readNumber_43, eX5_readNumber_44, eX5_readNumber_47, eX5_readNumber_50, eX5_readNumber_51, eX5_readNumber_54, eX5_readNumber_55, eX5_readNumber_58, eX5_readNumber_59, eX5_readNumber_62, eX5_readNumber_65, eX5_readNumber_67, eX5_readNumber_69, eX5_readNumber_70, eX5_readNumber_71, eX5_readNumber_74, eX5_readNumber_75, eX5_readNumber_78, eX5_readNumber_79, eX5_readNumber_81, eX5_readNumber_82, eX5_readNumber_83, eX5_readNumber_85, eX5_readNumber_86, eX5_readNumber_87, eX5_readNumber_90, eX5_readNumber_91, eX5_readNumber_92, eX5_readNumber_95, eX5_readNumber_97, eX5_readNumber_98, eX5_readNumber_99, eX5_readNumber_102, eX5_readNumber_105, eX5_readNumber_106, eX5_readNumber_107, eX5_readNumber_110, eX5_readNumber_112, eX5_readNumber_113, eX5_readNumber_115, e, e2, WpR_some, Option.toList_some, Option.toList_none, List.cons_append, List.nil_append, List.append_nil, clr_n, clr_i, clr_a, ni_add, ni_mul, ni_sub, ni_lt, ni_le, ni_eq, ni_div, nat_mod_eq, ni_rem, iMax_nn, iMin_nn, iMax_sub, Nat.zero_max, bI_0, bI_1, bI_n0, up2_s, up2_n, up2_k, va_up_self, va_up_ne, ni_l, lN_mul, lN_add, ln_mask, lN_i, ↓reduceIte, if_true, if_false, not_true_eq_false, not_false_eq_true, ite_self, Nat.add_zero, Nat.zero_add, ent_def]
theorem r_rn1 {lo hi : Nat} (hG : GW G) (hT : CT m tl tc) (hp : m 133 2 = nI p) (hl : p ≤ tl) (hd : dgt tl tc (sk tl tc p) = true) (hlo : lo < 1000) (hhi : hi < 1000) : res mX5_readNumber [.ref 133, .int (nI lo), .int (nI hi)] (G, m, ml) = some (some (.int (if lo ≤ nv tl tc (sk tl tc p) ∧ nv tl tc (sk tl tc p) ≤ hi then nI (nv tl tc (sk tl tc p)) else -4)), (G, up2 m 133 2 (nI (if lo ≤ nv tl tc (sk tl tc p) ∧ nv tl tc (sk tl tc p) ≤ hi then ne' tl tc (sk tl tc p) else sk tl tc p)), ml)) := by
  have e := r_nl (ml := ml) hG hT hp hl
  have h1 := nl_le hT p
  have e2 := r_dg (n := nl tl tc p) (μ := (G, up2 m 133 2 (nI (sk tl tc p)), ml)) h1
  have h3 := hT.2.1
  have hnl : nl tl tc p = tc (sk tl tc p) := by unfold nl; rw [if_pos (dgt_t hd).1]
  have hd' := dgt_t hd
  have h2 : (48 ≤ nl tl tc p ∧ nl tl tc p ≤ 57) := by rw [hnl]; exact hd'.2
  simp only [h2, decide_true] at e2
  have hv := nv_le hd
  have c1 := hT.1
  generalize hs : sk tl tc p = s at *
  obtain ⟨d1, -, -⟩ := hT.2.2 s hd'.1
  have h48 : 48 ≤ tc s := hd'.2.1
  obtain ⟨-, -, ⟨t0, t1, t2, t3⟩, -⟩ := hG
  have wi : ∀ (x : Nat) (μ : Mm), x ≤ 99 → res mX6_within [.int (nI x), .int (nI lo), .int (nI hi)] μ = some (some (.int (bI (decide (lo ≤ x ∧ x ≤ hi)))), μ) := by
    intro x μ hx
    rw [r_X6_within]
    simp only [ni_le (show lo < 2147483648 by omega) (show x < 2147483648 by omega), ni_le (show x < 2147483648 by omega) (show hi < 2147483648 by omega), Bool.decide_and]
  apply res_of
  show Wp mX5_readNumber 0 [some (.ref 133), some (.int (nI lo)), some (.int (nI hi)), none, none] [] (G, m, ml) _
  by_cases hq : dgt tl tc (s + 1) = true
  · have hq' := dgt_t hq
    obtain ⟨y1, -, -⟩ := hT.2.2 (s + 1) hq'.1
    have e3 := fun μ => r_dg (n := tc (s + 1)) (μ := μ) (by omega)
    have h5 : (48 ≤ tc (s + 1) ∧ tc (s + 1) ≤ 57) := hq'.2
    simp only [h5, decide_true, and_self] at e3
    have h48' : 48 ≤ tc (s + 1) := h5.1
    have hnv : nv tl tc s = (tc s - 48) * 10 + (tc (s + 1) - 48) := by unfold nv; rw [if_pos hq]
    have hne : ne' tl tc s = s + 2 := by unfold ne'; rw [if_pos hq]
    have hlt : ¬ tl ≤ s + 1 := by omega
    rw [hnv, hne]
    rw [hnv] at hv
    have w1 := fun μ => wi ((tc s - 48) * 10 + (tc (s + 1) - 48)) μ hv
    by_cases hr : lo ≤ (tc s - 48) * 10 + (tc (s + 1) - 48) ∧ (tc s - 48) * 10 + (tc (s + 1) - 48) ≤ hi
    · rw [if_pos hr, if_pos hr]
      simp only [hr, decide_true, and_self] at w1
      simp (maxSteps := 1000000) (decide := true) (disch := (first | assumption | omega | exact Nat.div_mul_le_self _ _ | exact ni_nz (by omega) (by omega) | exact rfl | exact retOk_bI _ | exact retOk_0 | exact retOk_1)) only [eX5_readNumber_0, eX5_readNumber_1, eX5_readNumber_4, eX5_readNumber_7, eX5_readNumber_10, eX5_readNumber_12, eX5_readNumber_13, eX5_readNumber_14, eX5_readNumber_17, eX5_readNumber_18, eX5_readNumber_19, eX5_readNumber_22, eX5_readNumber_23, eX5_readNumber_24, eX5_readNumber_26, eX5_readNumber_27, eX5_readNumber_29, eX5_readNumber_30, eX5_readNumber_31, eX5_readNumber_34, eX5_readNumber_35, eX5_readNumber_36, eX5_readNumber_39, eX5_readNumber_40, eX5_readNumber_43, eX5_readNumber_44, eX5_readNumber_47, eX5_readNumber_50, eX5_readNumber_51, eX5_readNumber_54, eX5_readNumber_55, eX5_readNumber_58, eX5_readNumber_59, eX5_readNumber_62, eX5_readNumber_65, eX5_readNumber_67, eX5_readNumber_69, eX5_readNumber_70, eX5_readNumber_71, eX5_readNumber_74, eX5_readNumber_75, eX5_readNumber_78, eX5_readNumber_79, eX5_readNumber_81, eX5_readNumber_82, eX5_readNumber_83, eX5_readNumber_85, eX5_readNumber_86, eX5_readNumber_87, eX5_readNumber_90, eX5_readNumber_91, eX5_readNumber_92, eX5_readNumber_95, eX5_readNumber_97, eX5_readNumber_98, eX5_readNumber_99, eX5_readNumber_102, eX5_readNumber_105, eX5_readNumber_106, eX5_readNumber_107, eX5_readNumber_110, eX5_readNumber_112, eX5_readNumber_113, eX5_readNumber_115, e, e2, t1, c1, d1, y1, hlt, e3, w1, up2_2, WpR_some, Option.toList_some, Option.toList_none, List.cons_append, List.nil_append, List.append_nil, clr_n, clr_i, clr_a, ni_add, ni_mul, ni_sub, ni_lt, ni_le, ni_eq, ni_div, nat_mod_eq, ni_rem, iMax_nn, iMin_nn, iMax_sub, Nat.zero_max, bI_0, bI_1, bI_n0, up2_s, up2_n, up2_k, va_up_self, va_up_ne, ni_l, lN_mul, lN_add, ln_mask, lN_i, ↓reduceIte, if_true, if_false, not_true_eq_false, not_false_eq_true, ite_self, Nat.add_zero, Nat.zero_add, ent_def]
    · rw [if_neg hr, if_neg hr]
      simp only [hr, decide_false] at w1
      simp (maxSteps := 1000000) (decide := true) (disch := (first | assumption | omega | exact Nat.div_mul_le_self _ _ | exact ni_nz (by omega) (by omega) | exact rfl | exact retOk_bI _ | exact retOk_0 | exact retOk_1)) only [eX5_readNumber_0, eX5_readNumber_1, eX5_readNumber_4, eX5_readNumber_7, eX5_readNumber_10, eX5_readNumber_12, eX5_readNumber_13, eX5_readNumber_14, eX5_readNumber_17, eX5_readNumber_18, eX5_readNumber_19, eX5_readNumber_22, eX5_readNumber_23, eX5_readNumber_24, eX5_readNumber_26, eX5_readNumber_27, eX5_readNumber_29, eX5_readNumber_30, eX5_readNumber_31, eX5_readNumber_34, eX5_readNumber_35, eX5_readNumber_36, eX5_readNumber_39, eX5_readNumber_40, eX5_readNumber_43, eX5_readNumber_44, eX5_readNumber_47, eX5_readNumber_50, eX5_readNumber_51, eX5_readNumber_54, eX5_readNumber_55, eX5_readNumber_58, eX5_readNumber_59, eX5_readNumber_62, eX5_readNumber_65, eX5_readNumber_67, eX5_readNumber_69, eX5_readNumber_70, eX5_readNumber_71, eX5_readNumber_74, eX5_readNumber_75, eX5_readNumber_78, eX5_readNumber_79, eX5_readNumber_81, eX5_readNumber_82, eX5_readNumber_83, eX5_readNumber_85, eX5_readNumber_86, eX5_readNumber_87, eX5_readNumber_90, eX5_readNumber_91, eX5_readNumber_92, eX5_readNumber_95, eX5_readNumber_97, eX5_readNumber_98, eX5_readNumber_99, eX5_readNumber_102, eX5_readNumber_105, eX5_readNumber_106, eX5_readNumber_107, eX5_readNumber_110, eX5_readNumber_112, eX5_readNumber_113, eX5_readNumber_115, e, e2, t1, c1, d1, y1, hlt, e3, w1, up2_2, WpR_some, Option.toList_some, Option.toList_none, List.cons_append, List.nil_append, List.append_nil, clr_n, clr_i, clr_a, ni_add, ni_mul, ni_sub, ni_lt, ni_le, ni_eq, ni_div, nat_mod_eq, ni_rem, iMax_nn, iMin_nn, iMax_sub, Nat.zero_max, bI_0, bI_1, bI_n0, up2_s, up2_n, up2_k, va_up_self, va_up_ne, ni_l, lN_mul, lN_add, ln_mask, lN_i, ↓reduceIte, if_true, if_false, not_true_eq_false, not_false_eq_true, ite_self, Nat.add_zero, Nat.zero_add, ent_def]
  · have hnv : nv tl tc s = tc s - 48 := by unfold nv; rw [if_neg hq]
    have hne : ne' tl tc s = s + 1 := by unfold ne'; rw [if_neg hq]
    rw [hnv, hne]
    rw [hnv] at hv
    have w1 := fun μ => wi (tc s - 48) μ hv
    have hq0 : dgt tl tc (s + 1) = false := by
      cases hz : dgt tl tc (s + 1)
      · rfl
      · exact absurd hz hq
    have hq' := dgt_f hq0
    by_cases hlt : tl ≤ s + 1
    · by_cases hr : lo ≤ tc s - 48 ∧ tc s - 48 ≤ hi
      · rw [if_pos hr, if_pos hr]
        simp only [hr, decide_true, and_self] at w1
        simp (maxSteps := 1000000) (decide := true) (disch := (first | assumption | omega | exact Nat.div_mul_le_self _ _ | exact ni_nz (by omega) (by omega) | exact rfl | exact retOk_bI _ | exact retOk_0 | exact retOk_1)) only [eX5_readNumber_0, eX5_readNumber_1, eX5_readNumber_4, eX5_readNumber_7, eX5_readNumber_10, eX5_readNumber_12, eX5_readNumber_13, eX5_readNumber_14, eX5_readNumber_17, eX5_readNumber_18, eX5_readNumber_19, eX5_readNumber_22, eX5_readNumber_23, eX5_readNumber_24, eX5_readNumber_26, eX5_readNumber_27, eX5_readNumber_29, eX5_readNumber_30, eX5_readNumber_31, eX5_readNumber_34, eX5_readNumber_35, eX5_readNumber_36, eX5_readNumber_39, eX5_readNumber_40, eX5_readNumber_43, eX5_readNumber_44, eX5_readNumber_47, eX5_readNumber_50, eX5_readNumber_51, eX5_readNumber_54, eX5_readNumber_55, eX5_readNumber_58, eX5_readNumber_59, eX5_readNumber_62, eX5_readNumber_65, eX5_readNumber_67, eX5_readNumber_69, eX5_readNumber_70, eX5_readNumber_71, eX5_readNumber_74, eX5_readNumber_75, eX5_readNumber_78, eX5_readNumber_79, eX5_readNumber_81, eX5_readNumber_82, eX5_readNumber_83, eX5_readNumber_85, eX5_readNumber_86, eX5_readNumber_87, eX5_readNumber_90, eX5_readNumber_91, eX5_readNumber_92, eX5_readNumber_95, eX5_readNumber_97, eX5_readNumber_98, eX5_readNumber_99, eX5_readNumber_102, eX5_readNumber_105, eX5_readNumber_106, eX5_readNumber_107, eX5_readNumber_110, eX5_readNumber_112, eX5_readNumber_113, eX5_readNumber_115, e, e2, t1, c1, d1, hlt, w1, up2_2, WpR_some, Option.toList_some, Option.toList_none, List.cons_append, List.nil_append, List.append_nil, clr_n, clr_i, clr_a, ni_add, ni_mul, ni_sub, ni_lt, ni_le, ni_eq, ni_div, nat_mod_eq, ni_rem, iMax_nn, iMin_nn, iMax_sub, Nat.zero_max, bI_0, bI_1, bI_n0, up2_s, up2_n, up2_k, va_up_self, va_up_ne, ni_l, lN_mul, lN_add, ln_mask, lN_i, ↓reduceIte, if_true, if_false, not_true_eq_false, not_false_eq_true, ite_self, Nat.add_zero, Nat.zero_add, ent_def]
      · rw [if_neg hr, if_neg hr]
        simp only [hr, decide_false] at w1
        simp (maxSteps := 1000000) (decide := true) (disch := (first | assumption | omega | exact Nat.div_mul_le_self _ _ | exact ni_nz (by omega) (by omega) | exact rfl | exact retOk_bI _ | exact retOk_0 | exact retOk_1)) only [eX5_readNumber_0, eX5_readNumber_1, eX5_readNumber_4, eX5_readNumber_7, eX5_readNumber_10, eX5_readNumber_12, eX5_readNumber_13, eX5_readNumber_14, eX5_readNumber_17, eX5_readNumber_18, eX5_readNumber_19, eX5_readNumber_22, eX5_readNumber_23, eX5_readNumber_24, eX5_readNumber_26, eX5_readNumber_27, eX5_readNumber_29, eX5_readNumber_30, eX5_readNumber_31, eX5_readNumber_34, eX5_readNumber_35, eX5_readNumber_36, eX5_readNumber_39, eX5_readNumber_40, eX5_readNumber_43, eX5_readNumber_44, eX5_readNumber_47, eX5_readNumber_50, eX5_readNumber_51, eX5_readNumber_54, eX5_readNumber_55, eX5_readNumber_58, eX5_readNumber_59, eX5_readNumber_62, eX5_readNumber_65, eX5_readNumber_67, eX5_readNumber_69, eX5_readNumber_70, eX5_readNumber_71, eX5_readNumber_74, eX5_readNumber_75, eX5_readNumber_78, eX5_readNumber_79, eX5_readNumber_81, eX5_readNumber_82, eX5_readNumber_83, eX5_readNumber_85, eX5_readNumber_86, eX5_readNumber_87, eX5_readNumber_90, eX5_readNumber_91, eX5_readNumber_92, eX5_readNumber_95, eX5_readNumber_97, eX5_readNumber_98, eX5_readNumber_99, eX5_readNumber_102, eX5_readNumber_105, eX5_readNumber_106, eX5_readNumber_107, eX5_readNumber_110, eX5_readNumber_112, eX5_readNumber_113, eX5_readNumber_115, e, e2, t1, c1, d1, hlt, w1, up2_2, WpR_some, Option.toList_some, Option.toList_none, List.cons_append, List.nil_append, List.append_nil, clr_n, clr_i, clr_a, ni_add, ni_mul, ni_sub, ni_lt, ni_le, ni_eq, ni_div, nat_mod_eq, ni_rem, iMax_nn, iMin_nn, iMax_sub, Nat.zero_max, bI_0, bI_1, bI_n0, up2_s, up2_n, up2_k, va_up_self, va_up_ne, ni_l, lN_mul, lN_add, ln_mask, lN_i, ↓reduceIte, if_true, if_false, not_true_eq_false, not_false_eq_true, ite_self, Nat.add_zero, Nat.zero_add, ent_def]
    · obtain ⟨y1, y2, y3⟩ := hT.2.2 (s + 1) (by omega)
      have e3 := fun μ => r_dg (n := tc (s + 1)) (μ := μ) (by omega)
      have h5 : ¬ (48 ≤ tc (s + 1) ∧ tc (s + 1) ≤ 57) := by omega
      simp only [h5, decide_false] at e3
      by_cases hr : lo ≤ tc s - 48 ∧ tc s - 48 ≤ hi
      · rw [if_pos hr, if_pos hr]
        simp only [hr, decide_true, and_self] at w1
        simp (maxSteps := 1000000) (decide := true) (disch := (first | assumption | omega | exact Nat.div_mul_le_self _ _ | exact ni_nz (by omega) (by omega) | exact rfl | exact retOk_bI _ | exact retOk_0 | exact retOk_1)) only [eX5_readNumber_0, eX5_readNumber_1, eX5_readNumber_4, eX5_readNumber_7, eX5_readNumber_10, eX5_readNumber_12, eX5_readNumber_13, eX5_readNumber_14, eX5_readNumber_17, eX5_readNumber_18, eX5_readNumber_19, eX5_readNumber_22, eX5_readNumber_23, eX5_readNumber_24, eX5_readNumber_26, eX5_readNumber_27, eX5_readNumber_29, eX5_readNumber_30, eX5_readNumber_31, eX5_readNumber_34, eX5_readNumber_35, eX5_readNumber_36, eX5_readNumber_39, eX5_readNumber_40, eX5_readNumber_43, eX5_readNumber_44, eX5_readNumber_47, eX5_readNumber_50, eX5_readNumber_51, eX5_readNumber_54, eX5_readNumber_55, eX5_readNumber_58, eX5_readNumber_59, eX5_readNumber_62, eX5_readNumber_65, eX5_readNumber_67, eX5_readNumber_69, eX5_readNumber_70, eX5_readNumber_71, eX5_readNumber_74, eX5_readNumber_75, eX5_readNumber_78, eX5_readNumber_79, eX5_readNumber_81, eX5_readNumber_82, eX5_readNumber_83, eX5_readNumber_85, eX5_readNumber_86, eX5_readNumber_87, eX5_readNumber_90, eX5_readNumber_91, eX5_readNumber_92, eX5_readNumber_95, eX5_readNumber_97, eX5_readNumber_98, eX5_readNumber_99, eX5_readNumber_102, eX5_readNumber_105, eX5_readNumber_106, eX5_readNumber_107, eX5_readNumber_110, eX5_readNumber_112, eX5_readNumber_113, eX5_readNumber_115, e, e2, t1, c1, d1, y1, hlt, e3, w1, up2_2, WpR_some, Option.toList_some, Option.toList_none, List.cons_append, List.nil_append, List.append_nil, clr_n, clr_i, clr_a, ni_add, ni_mul, ni_sub, ni_lt, ni_le, ni_eq, ni_div, nat_mod_eq, ni_rem, iMax_nn, iMin_nn, iMax_sub, Nat.zero_max, bI_0, bI_1, bI_n0, up2_s, up2_n, up2_k, va_up_self, va_up_ne, ni_l, lN_mul, lN_add, ln_mask, lN_i, ↓reduceIte, if_true, if_false, not_true_eq_false, not_false_eq_true, ite_self, Nat.add_zero, Nat.zero_add, ent_def]
      · rw [if_neg hr, if_neg hr]
        simp only [hr, decide_false] at w1
        simp (maxSteps := 1000000) (decide := true) (disch := (first | assumption | omega | exact Nat.div_mul_le_self _ _ | exact ni_nz (by omega) (by omega) | exact rfl | exact retOk_bI _ | exact retOk_0 | exact retOk_1)) only [eX5_readNumber_0, eX5_readNumber_1, eX5_readNumber_4, eX5_readNumber_7, eX5_readNumber_10, eX5_readNumber_12, eX5_readNumber_13, eX5_readNumber_14, eX5_readNumber_17, eX5_readNumber_18, eX5_readNumber_19, eX5_readNumber_22, eX5_readNumber_23, eX5_readNumber_24, eX5_readNumber_26, eX5_readNumber_27, eX5_readNumber_29, eX5_readNumber_30, eX5_readNumber_31, eX5_readNumber_34, eX5_readNumber_35, eX5_readNumber_36, eX5_readNumber_39, eX5_readNumber_40, eX5_readNumber_43, eX5_readNumber_44, eX5_readNumber_47, eX5_readNumber_50, eX5_readNumber_51, eX5_readNumber_54, eX5_readNumber_55, eX5_readNumber_58, eX5_readNumber_59, eX5_readNumber_62, eX5_readNumber_65, eX5_readNumber_67, eX5_readNumber_69, eX5_readNumber_70, eX5_readNumber_71, eX5_readNumber_74, eX5_readNumber_75, eX5_readNumber_78, eX5_readNumber_79, eX5_readNumber_81, eX5_readNumber_82, eX5_readNumber_83, eX5_readNumber_85, eX5_readNumber_86, eX5_readNumber_87, eX5_readNumber_90, eX5_readNumber_91, eX5_readNumber_92, eX5_readNumber_95, eX5_readNumber_97, eX5_readNumber_98, eX5_readNumber_99, eX5_readNumber_102, eX5_readNumber_105, eX5_readNumber_106, eX5_readNumber_107, eX5_readNumber_110, eX5_readNumber_112, eX5_readNumber_113, eX5_readNumber_115, e, e2, t1, c1, d1, y1, hlt, e3, w1, up2_2, WpR_some, Option.toList_some, Option.toList_none, List.cons_append, List.nil_append, List.append_nil, clr_n, clr_i, clr_a, ni_add, ni_mul, ni_sub, ni_lt, ni_le, ni_eq, ni_div, nat_mod_eq, ni_rem, iMax_nn, iMin_nn, iMax_sub, Nat.zero_max, bI_0, bI_1, bI_n0, up2_s, up2_n, up2_k, va_up_self, va_up_ne, ni_l, lN_mul, lN_add, ln_mask, lN_i, ↓reduceIte, if_true, if_false, not_true_eq_false, not_false_eq_true, ite_self, Nat.add_zero, Nat.zero_add, ent_def]
end TPE
