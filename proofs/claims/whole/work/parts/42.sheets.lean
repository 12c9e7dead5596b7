theorem up2J_at {m : Nat → Nat → Int64} {a k : Nat} {v : Int64} (b j : Nat) : up2J m a k v b j = if b = a ∧ j = k then v else m b j := by
  unfold up2J va_up vp_updL
  by_cases hb : b = a
  · subst hb
    by_cases hj : j = k
    · simp [hj]
    · simp [hj]
  · simp [hb]
theorem up2J_s {m : Nat → Nat → Int64} {a k : Nat} {v : Int64} : up2J m a k v a k = v := by rw [up2J_at, if_pos ⟨rfl, rfl⟩]
theorem lc_eq {u v : Int64} : (lg_cmp u v = nI 0) = (u = v) := by
  unfold lg_cmp
  apply propext
  by_cases h1 : u > v
  · rw [if_pos h1]
    constructor
    · intro h; exact absurd h (by decide)
    · intro h
      subst h
      have a := Int64.lt_iff_toInt_lt.mp h1
      omega
  · rw [if_neg h1]
    by_cases h2 : u = v
    · rw [if_pos h2]; exact ⟨fun _ => h2, fun _ => rfl⟩
    · rw [if_neg h2]; exact ⟨fun h => absurd h (by decide), fun h => absurd h h2⟩
def spn (z : Nat) (i n : Int32) : Bool := decide (nI 0 ≤ i) && decide (nI 0 ≤ n) && decide (i.toInt + n.toInt ≤ z)
theorem nn_of {v : Int32} (h : nI 0 ≤ v) : ∃ k, v = nI k ∧ k < 2147483648 := by
  have h1 := Int32.le_iff_toInt_le.mp h
  rw [nI_toInt (by omega)] at h1
  have h2 := Int32.toInt_lt v
  refine ⟨v.toInt.toNat, ?_, by omega⟩
  apply Int32.toInt_inj.mp
  rw [nI_toInt (by omega)]
  omega
theorem spn_c {z p q : Nat} (hz : z ≤ 24) (hp : p < 2147483648) (hq : q < 2147483648) : (nI p ≤ nI z - nI q) = (p + q ≤ z) := by
  apply propext
  have e : (nI z - nI q).toInt = (z : Int) - q := by
    rw [Int32.toInt_sub, nI_toInt (by omega), nI_toInt (by omega), Int.bmod_eq_of_le (by omega) (by omega)]
  rw [Int32.le_iff_toInt_le, e, nI_toInt (by omega)]
  omega
theorem lnN {n : Nat} (h : n < 9000000000000000000) : (lN n).toInt = n := lg_ofNat_toInt (by omega)
theorem spn_r {z p q : Nat} (hz : z ≤ 24) (hp : p < 2147483648) (hq : q < 2147483648) : (lN (p + q) ≤ lN z) = (p + q ≤ z) := by
  apply propext
  rw [Int64.le_iff_toInt_le, lnN (by omega), lnN (by omega)]
  omega
theorem rg03 {v : Int32} : rg v 0 3 = isN v 4 := by
  unfold rg isN
  congr 1
  apply decide_eq_decide.mpr
  rw [Int32.le_iff_toInt_le, Int32.lt_iff_toInt_lt, nI_toInt (by omega), nI_toInt (by omega)]
  omega
/-- the lowest bits that a lane's item has -/
def cutL (l : Nat) (v : Int64) : Int64 := if l = 0 then v.toInt32.toInt8.toInt32.toInt64 else if l = 1 then v.toInt32.toInt16.toInt32.toInt64 else if l = 2 then v.toInt32.toInt64 else v
def CS (m : Nat → Nat → Int32) (ml : Nat → Nat → Int64) (on : Nat → Bool) (ln sz : Nat → Nat) (it : Nat → Nat → Int64) : Prop := ∀ s, s < 4 → (on s = true → m (136 + 2 * s) 0 = nI (ln s) ∧ m (136 + 2 * s) 1 = nI (sz s) ∧ ln s < 4 ∧ sz s ≤ 24) ∧ (on s = false → m (136 + 2 * s) 0 = -1) ∧ ∀ j, j < 24 → ml (137 + 2 * s) j = it s j
def RS (m : Nat → Nat → Int32) (ml : Nat → Nat → Int64) (on : Nat → Bool) (ln sz : Nat → Nat) (it : Nat → Nat → Int64) : Prop := ∀ s, s < 4 → (on s = true → m 161 s = nI (ln s) ∧ m 162 s = nI (sz s) ∧ ln s < 4 ∧ sz s ≤ 24) ∧ (on s = false → m 162 s = -1) ∧ ∀ j, j < 24 → ml 163 (24 * s + j) = it s j
theorem CS_fr {m m' : Nat → Nat → Int32} {ml : Nat → Nat → Int64} {on : Nat → Bool} {ln sz : Nat → Nat} {it : Nat → Nat → Int64} (h : CS m ml on ln sz it) (hf : ∀ b, 136 ≤ b → b < 144 → m' b = m b) : CS m' ml on ln sz it := fun s hs => by
  rw [hf (136 + 2 * s) (by omega) (by omega)]
  exact h s hs
theorem RS_fr {m m' : Nat → Nat → Int32} {ml : Nat → Nat → Int64} {on : Nat → Bool} {ln sz : Nat → Nat} {it : Nat → Nat → Int64} (h : RS m ml on ln sz it) (h1 : m' 161 = m 161) (h2 : m' 162 = m 162) : RS m' ml on ln sz it := fun s hs => by
  rw [h1, h2]
  exact h s hs
/-- what is found, if items of a sheet are taken -/
def rfs (on : Nat → Bool) (ln sz : Nat → Nat) (s l : Nat) (i n : Int32) : Int32 := if on s = false then -11 else if ln s = l then (if spn (sz s) i n = true then nI 0 else -13) else -12
def upB (f : Nat → Bool) (k : Nat) (v : Bool) : Nat → Bool := fun j => if j = k then v else f j
theorem upB_s {f : Nat → Bool} {k : Nat} {v : Bool} : upB f k v k = v := by simp [upB]
theorem upB_n {f : Nat → Bool} {k j : Nat} {v : Bool} (h : j ≠ k) : upB f k v j = f j := by simp [upB, h]
def upI (it : Nat → Nat → Int64) (s j : Nat) (v : Int64) : Nat → Nat → Int64 := fun a b => if a = s ∧ b = j then v else it a b
section SHE
variable {G : List AT} {m : Nat → Nat → Int32} {ml : Nat → Nat → Int64} {a n s h t x y z k l p q : Nat} {σ : Nat → Nat} {u v w i c : Int32} {f : Nat → Nat → Nat} {μ : Mm} {on : Nat → Bool} {ln sz : Nat → Nat} {it : Nat → Nat → Int64}
theorem r_X2_spans (ha : atg G a = 12) (hs : m a 1 = nI z) (hz : z ≤ 24) : res mX2_spans [.ref a, .int i, .int w] (G, m, ml) = some (some (.int (bI (spn z i w))), (G, m, ml)) := by
  apply res_of
  show Wp mX2_spans 0 [some (.ref a), some (.int i), some (.int w)] [] (G, m, ml) _
  unfold spn
  by_cases h1 : nI 0 ≤ i
  · obtain ⟨p, rfl, hp⟩ := nn_of h1
    by_cases h2 : nI 0 ≤ w
    · obtain ⟨q, rfl, hq⟩ := nn_of h2
      have e := spn_c hz hp hq
      rw [decide_eq_true h1, decide_eq_true h2, nI_toInt (by omega), nI_toInt (by omega)]
      by_cases h3 : p + q ≤ z
      · rw [decide_eq_true (by omega)]
        have e' : ¬ (nI z - nI q < nI p) := fun hx => by rw [i_lt, e] at hx; exact hx h3
        have e2 : nI z - nI q = nI (z - q) := ni_sub (by omega)
        rw [e2] at e'
        have h1' : ¬ (nI p < nI 0) := fun hx => by rw [i_lt] at hx; exact hx h1
        have h2' : ¬ (nI q < nI 0) := fun hx => by rw [i_lt] at hx; exact hx h2
        simp (maxSteps := 1000000) (decide := true) (disch := (first | assumption | omega | exact Nat.div_mul_le_self _ _ | exact ni_nz (by omega) (by omega) | exact rfl | exact retOk_bI _ | exact retOk_0 | exact retOk_1)) only [eX2_spans_0, eX2_spans_1, eX2_spans_4, eX2_spans_5, eX2_spans_8, eX2_spans_9, eX2_spans_10, eX2_spans_13, eX2_spans_14, eX2_spans_15, eX2_spans_18, eX2_spans_19, eX2_spans_22, eX2_spans_23, hs, h1', h2', e2, e', WpR_some, clr_n, clr_i, clr_a, ↓reduceIte, Bool.and_true]
        rfl
      · rw [decide_eq_false (by omega)]
        have e' : nI z - nI q < nI p := by rw [i_lt, e]; exact h3
        have h1' : ¬ (nI p < nI 0) := fun hx => by rw [i_lt] at hx; exact hx h1
        have h2' : ¬ (nI q < nI 0) := fun hx => by rw [i_lt] at hx; exact hx h2
        simp (maxSteps := 1000000) (decide := true) (disch := (first | assumption | omega | exact Nat.div_mul_le_self _ _ | exact ni_nz (by omega) (by omega) | exact rfl | exact retOk_bI _ | exact retOk_0 | exact retOk_1)) only [eX2_spans_0, eX2_spans_1, eX2_spans_4, eX2_spans_5, eX2_spans_8, eX2_spans_9, eX2_spans_10, eX2_spans_13, eX2_spans_14, eX2_spans_15, eX2_spans_18, eX2_spans_19, eX2_spans_22, eX2_spans_23, hs, h1', h2', e', WpR_some, clr_n, clr_i, clr_a, ↓reduceIte, Bool.and_false]
        rfl
    · have h1' : ¬ (nI p < nI 0) := fun hx => by rw [i_lt] at hx; exact hx h1
      have h2' : w < nI 0 := by rw [i_lt]; exact h2
      rw [decide_eq_false h2]
      simp (maxSteps := 1000000) (decide := true) (disch := (first | assumption | omega | exact Nat.div_mul_le_self _ _ | exact ni_nz (by omega) (by omega) | exact rfl | exact retOk_bI _ | exact retOk_0 | exact retOk_1)) only [eX2_spans_0, eX2_spans_1, eX2_spans_4, eX2_spans_5, eX2_spans_8, eX2_spans_9, eX2_spans_10, eX2_spans_13, eX2_spans_14, eX2_spans_15, eX2_spans_18, eX2_spans_19, eX2_spans_22, eX2_spans_23, hs, h1', h2', WpR_some, clr_n, clr_i, clr_a, ↓reduceIte, Bool.and_false, Bool.false_and]
      rfl
  · have h1' : i < nI 0 := by rw [i_lt]; exact h1
    rw [decide_eq_false h1]
    simp (maxSteps := 1000000) (decide := true) (disch := (first | assumption | omega | exact Nat.div_mul_le_self _ _ | exact ni_nz (by omega) (by omega) | exact rfl | exact retOk_bI _ | exact retOk_0 | exact retOk_1)) only [eX2_spans_0, eX2_spans_1, eX2_spans_4, eX2_spans_5, eX2_spans_8, eX2_spans_9, eX2_spans_10, eX2_spans_13, eX2_spans_14, eX2_spans_15, eX2_spans_18, eX2_spans_19, eX2_spans_22, eX2_spans_23, hs, h1', WpR_some, clr_n, clr_i, clr_a, ↓reduceIte, Bool.and_false, Bool.false_and]
    rfl
theorem neg1_ne {k : Nat} (hk : k < 1000) : ¬ nI k = -1 := by
  intro q
  have := congrArg Int32.toInt q
  rw [nI_toInt (by omega)] at this
  have h9 : (-1 : Int32).toInt = -1 := by decide
  omega
theorem r_X2_hold (hG : GW G) (hS : CS m ml on ln sz it) (hs : s < 4) : res mX2_holdsNothing [.ref (136 + 2 * s)] (G, m, ml) = some (some (.int (bI (!on s))), (G, m, ml)) := by
  obtain ⟨r1, r2, r3, r4, r5⟩ := hG.2.2.2.1.2.2 s hs
  apply res_of
  show Wp mX2_holdsNothing 0 [some (.ref (136 + 2 * s))] [] (G, m, ml) _
  cases ho : on s
  · have x0 := (hS s hs).2.1 ho
    simp (maxSteps := 1000000) (decide := true) (disch := (first | assumption | omega | exact Nat.div_mul_le_self _ _ | exact ni_nz (by omega) (by omega) | exact rfl | exact retOk_bI _ | exact retOk_0 | exact retOk_1)) only [eX2_holdsNothing_0, eX2_holdsNothing_1, eX2_holdsNothing_4, eX2_holdsNothing_5, eX2_holdsNothing_8, eX2_holdsNothing_9, eX2_holdsNothing_12, eX2_holdsNothing_13, x0, WpR_some, Option.toList_some, Option.toList_none, List.cons_append, List.nil_append, List.append_nil, clr_n, clr_i, clr_a, ni_add, ni_mul, ni_sub, ni_lt, ni_le, ni_eq, ni_div, nat_mod_eq, ni_rem, iMax_nn, iMin_nn, iMax_sub, Nat.zero_max, bI_0, bI_1, bI_n0, up2_s, up2_n, up2_k, va_up_self, va_up_ne, ni_l, lN_mul, lN_add, ln_mask, lN_i, ↓reduceIte, if_true, if_false, not_true_eq_false, not_false_eq_true, ite_self, Nat.add_zero, Nat.zero_add, ent_def]
    rfl
  · obtain ⟨x0, x1, x2, x3⟩ := (hS s hs).1 ho
    have hn := neg1_ne (show ln s < 1000 by omega)
    simp (maxSteps := 1000000) (decide := true) (disch := (first | assumption | omega | exact Nat.div_mul_le_self _ _ | exact ni_nz (by omega) (by omega) | exact rfl | exact retOk_bI _ | exact retOk_0 | exact retOk_1)) only [eX2_holdsNothing_0, eX2_holdsNothing_1, eX2_holdsNothing_4, eX2_holdsNothing_5, eX2_holdsNothing_8, eX2_holdsNothing_9, eX2_holdsNothing_12, eX2_holdsNothing_13, x0, hn, WpR_some, Option.toList_some, Option.toList_none, List.cons_append, List.nil_append, List.append_nil, clr_n, clr_i, clr_a, ni_add, ni_mul, ni_sub, ni_lt, ni_le, ni_eq, ni_div, nat_mod_eq, ni_rem, iMax_nn, iMin_nn, iMax_sub, Nat.zero_max, bI_0, bI_1, bI_n0, up2_s, up2_n, up2_k, va_up_self, va_up_ne, ni_l, lN_mul, lN_add, ln_mask, lN_i, ↓reduceIte, if_true, if_false, not_true_eq_false, not_false_eq_true, ite_self, Nat.add_zero, Nat.zero_add, ent_def]
    rfl
theorem r_X2_refuse (hG : GW G) (hS : CS m ml on ln sz it) (hs : s < 4) (hl : l < 4) : res mX2_refuse [.ref (136 + 2 * s), .int (nI l), .int i, .int w] (G, m, ml) = some (some (.int (rfs on ln sz s l i w)), (G, m, ml)) := by
  have e1 := r_X2_hold (ml := ml) hG hS hs
  obtain ⟨r1, r2, r3, r4, r5⟩ := hG.2.2.2.1.2.2 s hs
  apply res_of
  show Wp mX2_refuse 0 [some (.ref (136 + 2 * s)), some (.int (nI l)), some (.int i), some (.int w)] [] (G, m, ml) _
  unfold rfs
  cases ho : on s
  · rw [ho, Bool.not_false] at e1
    simp (maxSteps := 1000000) (decide := true) (disch := (first | assumption | omega | exact Nat.div_mul_le_self _ _ | exact ni_nz (by omega) (by omega) | exact rfl | exact retOk_bI _ | exact retOk_0 | exact retOk_1)) only [eX2_refuse_0, eX2_refuse_1, eX2_refuse_4, eX2_refuse_7, eX2_refuse_9, eX2_refuse_10, eX2_refuse_11, eX2_refuse_14, eX2_refuse_15, eX2_refuse_18, eX2_refuse_20, eX2_refuse_21, eX2_refuse_22, eX2_refuse_23, eX2_refuse_24, eX2_refuse_27, eX2_refuse_30, eX2_refuse_31, eX2_refuse_34, eX2_refuse_36, e1, WpR_some, Option.toList_some, Option.toList_none, List.cons_append, List.nil_append, List.append_nil, clr_n, clr_i, clr_a, ni_add, ni_mul, ni_sub, ni_lt, ni_le, ni_eq, ni_div, nat_mod_eq, ni_rem, iMax_nn, iMin_nn, iMax_sub, Nat.zero_max, bI_0, bI_1, bI_n0, up2_s, up2_n, up2_k, va_up_self, va_up_ne, ni_l, lN_mul, lN_add, ln_mask, lN_i, ↓reduceIte, if_true, if_false, not_true_eq_false, not_false_eq_true, ite_self, Nat.add_zero, Nat.zero_add, ent_def]
  · rw [ho, Bool.not_true] at e1
    obtain ⟨x0, x1, x2, x3⟩ := (hS s hs).1 ho
    have e2 := r_X2_spans (ml := ml) (i := i) (w := w) r2 x1 x3
    by_cases hc : ln s = l
    · rw [if_neg (by decide), if_pos hc]
      cases hsp : spn (sz s) i w
      · rw [hsp] at e2
        simp (maxSteps := 1000000) (decide := true) (disch := (first | assumption | omega | exact Nat.div_mul_le_self _ _ | exact ni_nz (by omega) (by omega) | exact rfl | exact retOk_bI _ | exact retOk_0 | exact retOk_1)) only [eX2_refuse_0, eX2_refuse_1, eX2_refuse_4, eX2_refuse_7, eX2_refuse_9, eX2_refuse_10, eX2_refuse_11, eX2_refuse_14, eX2_refuse_15, eX2_refuse_18, eX2_refuse_20, eX2_refuse_21, eX2_refuse_22, eX2_refuse_23, eX2_refuse_24, eX2_refuse_27, eX2_refuse_30, eX2_refuse_31, eX2_refuse_34, eX2_refuse_36, e1, e2, x0, hc, WpR_some, Option.toList_some, Option.toList_none, List.cons_append, List.nil_append, List.append_nil, clr_n, clr_i, clr_a, ni_add, ni_mul, ni_sub, ni_lt, ni_le, ni_eq, ni_div, nat_mod_eq, ni_rem, iMax_nn, iMin_nn, iMax_sub, Nat.zero_max, bI_0, bI_1, bI_n0, up2_s, up2_n, up2_k, va_up_self, va_up_ne, ni_l, lN_mul, lN_add, ln_mask, lN_i, ↓reduceIte, if_true, if_false, not_true_eq_false, not_false_eq_true, ite_self, Nat.add_zero, Nat.zero_add, ent_def]
      · rw [hsp] at e2
        simp (maxSteps := 1000000) (decide := true) (disch := (first | assumption | omega | exact Nat.div_mul_le_self _ _ | exact ni_nz (by omega) (by omega) | exact rfl | exact retOk_bI _ | exact retOk_0 | exact retOk_1)) only [eX2_refuse_0, eX2_refuse_1, eX2_refuse_4, eX2_refuse_7, eX2_refuse_9, eX2_refuse_10, eX2_refuse_11, eX2_refuse_14, eX2_refuse_15, eX2_refuse_18, eX2_refuse_20, eX2_refuse_21, eX2_refuse_22, eX2_refuse_23, eX2_refuse_24, eX2_refuse_27, eX2_refuse_30, eX2_refuse_31, eX2_refuse_34, eX2_refuse_36, e1, e2, x0, hc, WpR_some, Option.toList_some, Option.toList_none, List.cons_append, List.nil_append, List.append_nil, clr_n, clr_i, clr_a, ni_add, ni_mul, ni_sub, ni_lt, ni_le, ni_eq, ni_div, nat_mod_eq, ni_rem, iMax_nn, iMin_nn, iMax_sub, Nat.zero_max, bI_0, bI_1, bI_n0, up2_s, up2_n, up2_k, va_up_self, va_up_ne, ni_l, lN_mul, lN_add, ln_mask, lN_i, ↓reduceIte, if_true, if_false, not_true_eq_false, not_false_eq_true, ite_self, Nat.add_zero, Nat.zero_add, ent_def]
    · rw [if_neg (by decide), if_neg hc]
      simp (maxSteps := 1000000) (decide := true) (disch := (first | assumption | omega | exact Nat.div_mul_le_self _ _ | exact ni_nz (by omega) (by omega) | exact rfl | exact retOk_bI _ | exact retOk_0 | exact retOk_1)) only [eX2_refuse_0, eX2_refuse_1, eX2_refuse_4, eX2_refuse_7, eX2_refuse_9, eX2_refuse_10, eX2_refuse_11, eX2_refuse_14, eX2_refuse_15, eX2_refuse_18, eX2_refuse_20, eX2_refuse_21, eX2_refuse_22, eX2_refuse_23, eX2_refuse_24, eX2_refuse_27, eX2_refuse_30, eX2_refuse_31, eX2_refuse_34, eX2_refuse_36, e1, x0, hc, WpR_some, Option.toList_some, Option.toList_none, List.cons_append, List.nil_append, List.append_nil, clr_n, clr_i, clr_a, ni_add, ni_mul, ni_sub, ni_lt, ni_le, ni_eq, ni_div, nat_mod_eq, ni_rem, iMax_nn, iMin_nn, iMax_sub, Nat.zero_max, bI_0, bI_1, bI_n0, up2_s, up2_n, up2_k, va_up_self, va_up_ne, ni_l, lN_mul, lN_add, ln_mask, lN_i, ↓reduceIte, if_true, if_false, not_true_eq_false, not_false_eq_true, ite_self, Nat.add_zero, Nat.zero_add, ent_def]
theorem r_X2_put {e : Int64} (hG : GW G) (hS : CS m ml on ln sz it) (hs : s < 4) (ho : on s = true) (hx : x < 24) : res mX2_put [.ref (136 + 2 * s), .int (nI x), .long e] (G, m, ml) = some (none, (G, m, up2J ml (137 + 2 * s) x (cutL (ln s) e))) := by
  obtain ⟨r1, r2, r3, r4, r5⟩ := hG.2.2.2.1.2.2 s hs
  obtain ⟨x0, x1, x2, x3⟩ := (hS s hs).1 ho
  have e1 : res mX2_lowestBits [.ref (136 + 2 * s), .long e] (G, m, ml) = some (some (.long (cutL (ln s) e)), (G, m, ml)) := by
    apply res_of
    show Wp mX2_lowestBits 0 [some (.ref (136 + 2 * s)), some (.long e), none] [] (G, m, ml) _
    unfold cutL
    rcases (show ln s = 0 ∨ ln s = 1 ∨ ln s = 2 ∨ ln s = 3 by omega) with hl | hl | hl | hl <;> rw [hl] at x0 ⊢ <;> simp (maxSteps := 1000000) (decide := true) (disch := (first | assumption | omega | exact Nat.div_mul_le_self _ _ | exact ni_nz (by omega) (by omega) | exact rfl | exact retOk_bI _ | exact retOk_0 | exact retOk_1)) only [eX2_lowestBits_0, eX2_lowestBits_1, eX2_lowestBits_4, eX2_lowestBits_32, eX2_lowestBits_33, eX2_lowestBits_34, eX2_lowestBits_35, eX2_lowestBits_36, eX2_lowestBits_37, eX2_lowestBits_38, eX2_lowestBits_39, eX2_lowestBits_40, eX2_lowestBits_41, eX2_lowestBits_42, eX2_lowestBits_43, eX2_lowestBits_44, eX2_lowestBits_45, eX2_lowestBits_46, eX2_lowestBits_47, x0, WpR_some, Option.toList_some, Option.toList_none, List.cons_append, List.nil_append, List.append_nil, clr_n, clr_i, clr_a, ni_add, ni_mul, ni_sub, ni_lt, ni_le, ni_eq, ni_div, nat_mod_eq, ni_rem, iMax_nn, iMin_nn, iMax_sub, Nat.zero_max, bI_0, bI_1, bI_n0, up2_s, up2_n, up2_k, va_up_self, va_up_ne, ni_l, lN_mul, lN_add, ln_mask, lN_i, ↓reduceIte, if_true, if_false, not_true_eq_false, not_false_eq_true, ite_self, Nat.add_zero, Nat.zero_add, ent_def]
  apply res_of
  show Wp mX2_put 0 [some (.ref (136 + 2 * s)), some (.int (nI x)), some (.long e), none] [] (G, m, ml) _
  simp (maxSteps := 1000000) (decide := true) (disch := (first | assumption | omega | exact Nat.div_mul_le_self _ _ | exact ni_nz (by omega) (by omega) | exact rfl | exact retOk_bI _ | exact retOk_0 | exact retOk_1)) only [eX2_put_0, eX2_put_1, eX2_put_4, eX2_put_5, eX2_put_6, eX2_put_7, eX2_put_10, eX2_put_11, r3, e1, WpR_some, Option.toList_some, Option.toList_none, List.cons_append, List.nil_append, List.append_nil, clr_n, clr_i, clr_a, ni_add, ni_mul, ni_sub, ni_lt, ni_le, ni_eq, ni_div, nat_mod_eq, ni_rem, iMax_nn, iMin_nn, iMax_sub, Nat.zero_max, bI_0, bI_1, bI_n0, up2_s, up2_n, up2_k, va_up_self, va_up_ne, ni_l, lN_mul, lN_add, ln_mask, lN_i, ↓reduceIte, if_true, if_false, not_true_eq_false, not_false_eq_true, ite_self, Nat.add_zero, Nat.zero_add, ent_def]
theorem CS_put {e : Int64} (hS : CS m ml on ln sz it) (hs : s < 4) (hx : x < 24) : CS m (up2J ml (137 + 2 * s) x e) on ln sz (upI it s x e) := fun b hb => ⟨(hS b hb).1, (hS b hb).2.1, fun j hj => by
  unfold upI
  rw [up2J_at]
  by_cases hc : b = s ∧ j = x
  · rw [if_pos ⟨by omega, hc.2⟩, if_pos hc]
  · rw [if_neg (fun q => hc ⟨by omega, q.2⟩), if_neg hc]
    exact (hS b hb).2.2 j hj⟩
theorem RS_put {e : Int64} (hS : RS m ml on ln sz it) (hs : s < 4) (hx : x < 24) : RS m (up2J ml 163 (24 * s + x) e) on ln sz (upI it s x e) := fun b hb => ⟨(hS b hb).1, (hS b hb).2.1, fun j hj => by
  unfold upI
  rw [up2J_at]
  by_cases hc : b = s ∧ j = x
  · rw [if_pos ⟨rfl, by omega⟩, if_pos hc]
  · rw [if_neg (fun q => hc ⟨by omega, by omega⟩), if_neg hc]
    exact (hS b hb).2.2 j hj⟩
theorem spn_1 {i : Int32} (hz : z ≤ 24) (h : spn z i (nI n) = true) (hn : n < 1000) : ∃ x, i = nI x ∧ x + n ≤ z := by
  unfold spn at h
  rw [Bool.and_eq_true, Bool.and_eq_true, decide_eq_true_eq, decide_eq_true_eq, decide_eq_true_eq] at h
  obtain ⟨x, rfl, hx⟩ := nn_of h.1.1
  have := h.2
  rw [nI_toInt (by omega), nI_toInt (by omega)] at this
  exact ⟨x, rfl, by omega⟩
/-! item -/
theorem c_item_bad {e : Int64} (hG : GW G) (h : (isN u 4 && isN v 4) = false) : res mX6_item [.ref 2, .int u, .int v, .int i, .long e] (G, m, ml) = some (some (.int (-1)), (G, m, ml)) := by
  apply res_of
  show Wp mX6_item 0 [some (.ref 2), some (.int u), some (.int v), some (.int i), some (.long e), none, none, none] [] (G, m, ml) _
  cases h1 : isN u 4
  · simp (maxSteps := 1000000) (decide := true) (disch := (first | assumption | omega | exact Nat.div_mul_le_self _ _ | exact ni_nz (by omega) (by omega) | exact rfl | exact retOk_bI _ | exact retOk_0 | exact retOk_1)) only [eX6_item_0, eX6_item_1, eX6_item_4, eX6_item_7, eX6_item_8, eX6_item_11, eX6_item_14, eX6_item_15, eX6_item_16, eX6_item_17, eX6_item_20, eX6_item_21, eX6_item_22, eX6_item_24, eX6_item_26, eX6_item_27, eX6_item_28, eX6_item_29, eX6_item_32, eX6_item_34, eX6_item_36, eX6_item_39, eX6_item_41, eX6_item_42, eX6_item_44, eX6_item_45, eX6_item_47, eX6_item_50, eX6_item_51, r_X6_isSheet, h1, WpR_some, Option.toList_some, Option.toList_none, List.cons_append, List.nil_append, List.append_nil, clr_n, clr_i, clr_a, ni_add, ni_mul, ni_sub, ni_lt, ni_le, ni_eq, ni_div, nat_mod_eq, ni_rem, iMax_nn, iMin_nn, iMax_sub, Nat.zero_max, bI_0, bI_1, bI_n0, up2_s, up2_n, up2_k, va_up_self, va_up_ne, ni_l, lN_mul, lN_add, ln_mask, lN_i, ↓reduceIte, if_true, if_false, not_true_eq_false, not_false_eq_true, ite_self, Nat.add_zero, Nat.zero_add, ent_def]
  · rw [h1, Bool.true_and] at h
    simp (maxSteps := 1000000) (decide := true) (disch := (first | assumption | omega | exact Nat.div_mul_le_self _ _ | exact ni_nz (by omega) (by omega) | exact rfl | exact retOk_bI _ | exact retOk_0 | exact retOk_1)) only [eX6_item_0, eX6_item_1, eX6_item_4, eX6_item_7, eX6_item_8, eX6_item_11, eX6_item_14, eX6_item_15, eX6_item_16, eX6_item_17, eX6_item_20, eX6_item_21, eX6_item_22, eX6_item_24, eX6_item_26, eX6_item_27, eX6_item_28, eX6_item_29, eX6_item_32, eX6_item_34, eX6_item_36, eX6_item_39, eX6_item_41, eX6_item_42, eX6_item_44, eX6_item_45, eX6_item_47, eX6_item_50, eX6_item_51, r_X6_isSheet, r_X6_isLane, h1, h, WpR_some, Option.toList_some, Option.toList_none, List.cons_append, List.nil_append, List.append_nil, clr_n, clr_i, clr_a, ni_add, ni_mul, ni_sub, ni_lt, ni_le, ni_eq, ni_div, nat_mod_eq, ni_rem, iMax_nn, iMin_nn, iMax_sub, Nat.zero_max, bI_0, bI_1, bI_n0, up2_s, up2_n, up2_k, va_up_self, va_up_ne, ni_l, lN_mul, lN_add, ln_mask, lN_i, ↓reduceIte, if_true, if_false, not_true_eq_false, not_false_eq_true, ite_self, Nat.add_zero, Nat.zero_add, ent_def]
theorem c_item {e : Int64} (hG : GW G) (hS : CS m ml on ln sz it) (hs : s < 4) (hl : l < 4) : ∃ ml', res mX6_item [.ref 2, .int (nI s), .int (nI l), .int i, .long e] (G, m, ml) = some (some (.int (if rfs on ln sz s l i (nI 1) = nI 0 then nI 1 else rfs on ln sz s l i (nI 1))), (G, m, ml')) ∧ (rfs on ln sz s l i (nI 1) ≠ nI 0 → ml' = ml) ∧ (rfs on ln sz s l i (nI 1) = nI 0 → ∃ x, i = nI x ∧ x < 24 ∧ ml' = up2J ml (137 + 2 * s) x (cutL (ln s) e) ∧ ln s = l) := by
  have h1 := isN_t hs (by decide)
  have h2 := isN_t hl (by decide)
  have e1 := r_X2_refuse (ml := ml) (i := i) (w := nI 1) hG hS hs hl
  have eP := fun x ho hx => r_X2_put (ml := ml) (e := e) (x := x) hG hS hs ho hx
  have hG0 := hG
  obtain ⟨⟨g0, g1, g2, g3, g4, g5, g6, -⟩, -, -, ⟨r01, r02, r00⟩, -⟩ := hG
  obtain ⟨r1, r2, r3, r4, r5⟩ := r00 s hs
  by_cases hc : rfs on ln sz s l i (nI 1) = nI 0
  · have ho : on s = true := by
      cases ho : on s
      · unfold rfs at hc; rw [if_pos ho] at hc; exact absurd hc (by decide)
      · rfl
    have hl2 : ln s = l := by
      unfold rfs at hc
      rw [if_neg (by rw [ho]; decide)] at hc
      by_cases hq : ln s = l
      · exact hq
      · rw [if_neg hq] at hc; exact absurd hc (by decide)
    have hsp : spn (sz s) i (nI 1) = true := by
      unfold rfs at hc
      rw [if_neg (by rw [ho]; decide), if_pos hl2] at hc
      cases hq : spn (sz s) i (nI 1)
      · rw [hq] at hc; exact absurd hc (by decide)
      · rfl
    obtain ⟨x0, x1, x2, x3⟩ := (hS s hs).1 ho
    obtain ⟨x, rfl, hx⟩ := spn_1 x3 hsp (by decide)
    have eP := eP x ho (by omega)
    rw [hc] at e1
    refine ⟨_, ?_, fun h => absurd hc h, fun _ => ⟨x, rfl, by omega, rfl, hl2⟩⟩
    rw [if_pos hc]
    apply res_of
    show Wp mX6_item 0 [some (.ref 2), some (.int (nI s)), some (.int (nI l)), some (.int (nI x)), some (.long e), none, none, none] [] (G, m, ml) _
    simp (maxSteps := 1000000) (decide := true) (disch := (first | assumption | omega | exact Nat.div_mul_le_self _ _ | exact ni_nz (by omega) (by omega) | exact rfl | exact retOk_bI _ | exact retOk_0 | exact retOk_1)) only [eX6_item_0, eX6_item_1, eX6_item_4, eX6_item_7, eX6_item_8, eX6_item_11, eX6_item_14, eX6_item_15, eX6_item_16, eX6_item_17, eX6_item_20, eX6_item_21, eX6_item_22, eX6_item_24, eX6_item_26, eX6_item_27, eX6_item_28, eX6_item_29, eX6_item_32, eX6_item_34, eX6_item_36, eX6_item_39, eX6_item_41, eX6_item_42, eX6_item_44, eX6_item_45, eX6_item_47, eX6_item_50, eX6_item_51, r_X6_isSheet, r_X6_isLane, h1, h2, g6, r1, e1, eP, WpR_some, Option.toList_some, Option.toList_none, List.cons_append, List.nil_append, List.append_nil, clr_n, clr_i, clr_a, ni_add, ni_mul, ni_sub, ni_lt, ni_le, ni_eq, ni_div, nat_mod_eq, ni_rem, iMax_nn, iMin_nn, iMax_sub, Nat.zero_max, bI_0, bI_1, bI_n0, up2_s, up2_n, up2_k, va_up_self, va_up_ne, ni_l, lN_mul, lN_add, ln_mask, lN_i, ↓reduceIte, if_true, if_false, not_true_eq_false, not_false_eq_true, ite_self, Nat.add_zero, Nat.zero_add, ent_def]
  · refine ⟨ml, ?_, fun _ => rfl, fun h => absurd h hc⟩
    rw [if_neg hc]
    apply res_of
    show Wp mX6_item 0 [some (.ref 2), some (.int (nI s)), some (.int (nI l)), some (.int i), some (.long e), none, none, none] [] (G, m, ml) _
    simp (maxSteps := 1000000) (decide := true) (disch := (first | assumption | omega | exact Nat.div_mul_le_self _ _ | exact ni_nz (by omega) (by omega) | exact rfl | exact retOk_bI _ | exact retOk_0 | exact retOk_1)) only [eX6_item_0, eX6_item_1, eX6_item_4, eX6_item_7, eX6_item_8, eX6_item_11, eX6_item_14, eX6_item_15, eX6_item_16, eX6_item_17, eX6_item_20, eX6_item_21, eX6_item_22, eX6_item_24, eX6_item_26, eX6_item_27, eX6_item_28, eX6_item_29, eX6_item_32, eX6_item_34, eX6_item_36, eX6_item_39, eX6_item_41, eX6_item_42, eX6_item_44, eX6_item_45, eX6_item_47, eX6_item_50, eX6_item_51, r_X6_isSheet, r_X6_isLane, h1, h2, g6, r1, e1, hc, WpR_some, Option.toList_some, Option.toList_none, List.cons_append, List.nil_append, List.append_nil, clr_n, clr_i, clr_a, ni_add, ni_mul, ni_sub, ni_lt, ni_le, ni_eq, ni_div, nat_mod_eq, ni_rem, iMax_nn, iMin_nn, iMax_sub, Nat.zero_max, bI_0, bI_1, bI_n0, up2_s, up2_n, up2_k, va_up_self, va_up_ne, ni_l, lN_mul, lN_add, ln_mask, lN_i, ↓reduceIte, if_true, if_false, not_true_eq_false, not_false_eq_true, ite_self, Nat.add_zero, Nat.zero_add, ent_def]
theorem r_X7_isSheet {μ : Mm} : res mX7_isSheet [.int v] μ = some (some (.int (bI (isN v 4))), μ) := by
  have e := r_in (v := v) (lo := 0) (hi := 3) (μ := μ) (by decide) (by decide)
  rw [rg03] at e
  apply res_of
  show Wp mX7_isSheet 0 [some (.int v)] [] μ _
  simp (maxSteps := 1000000) (decide := true) (disch := (first | assumption | omega | exact Nat.div_mul_le_self _ _ | exact ni_nz (by omega) (by omega) | exact rfl | exact retOk_bI _ | exact retOk_0 | exact retOk_1)) only [eX7_isSheet_0, eX7_isSheet_1, eX7_isSheet_2, eX7_isSheet_3, eX7_isSheet_6, eX7_isSheet_9, e, WpR_some, Option.toList_some, Option.toList_none, List.cons_append, List.nil_append, List.append_nil, clr_n, clr_i, clr_a, ni_add, ni_mul, ni_sub, ni_lt, ni_le, ni_eq, ni_div, nat_mod_eq, ni_rem, iMax_nn, iMin_nn, iMax_sub, Nat.zero_max, bI_0, bI_1, bI_n0, up2_s, up2_n, up2_k, va_up_self, va_up_ne, ni_l, lN_mul, lN_add, ln_mask, lN_i, ↓reduceIte, if_true, if_false, not_true_eq_false, not_false_eq_true, ite_self, Nat.add_zero, Nat.zero_add, ent_def]
theorem r_inL {μ : Mm} : res mX7_in [.long v.toInt64, .long (lN 0), .long (lN 3)] μ = some (some (.int (bI (isN v 4))), μ) := by
  have e := r_in (v := v) (lo := 0) (hi := 3) (μ := μ) (by decide) (by decide)
  rw [rg03] at e
  exact e
theorem r_inLn {μ : Mm} (hl : l < 4) : res mX7_in [.long (lN l), .long (lN 0), .long (lN 3)] μ = some (some (.int (bI true)), μ) := r_inT (by omega) (by omega) (by decide)
theorem r_X7_cut {e : Int64} {μ : Mm} (hl : l < 4) : res mX7_cut [.int (nI l), .long e] μ = some (some (.long (cutL l e)), μ) := by
  apply res_of
  show Wp mX7_cut 0 [some (.int (nI l)), some (.long e), none] [] μ _
  unfold cutL
  rcases (show l = 0 ∨ l = 1 ∨ l = 2 ∨ l = 3 by omega) with rfl | rfl | rfl | rfl <;> simp (maxSteps := 1000000) (decide := true) (disch := (first | assumption | omega | exact Nat.div_mul_le_self _ _ | exact ni_nz (by omega) (by omega) | exact rfl | exact retOk_bI _ | exact retOk_0 | exact retOk_1)) only [eX7_cut_0, eX7_cut_1, eX7_cut_4, eX7_cut_5, eX7_cut_6, eX7_cut_7, eX7_cut_8, eX7_cut_11, eX7_cut_12, eX7_cut_13, eX7_cut_16, eX7_cut_17, eX7_cut_18, eX7_cut_19, eX7_cut_20, eX7_cut_23, eX7_cut_24, eX7_cut_25, eX7_cut_28, eX7_cut_29, eX7_cut_30, eX7_cut_31, eX7_cut_34, eX7_cut_35, WpR_some, Option.toList_some, Option.toList_none, List.cons_append, List.nil_append, List.append_nil, clr_n, clr_i, clr_a, ni_add, ni_mul, ni_sub, ni_lt, ni_le, ni_eq, ni_div, nat_mod_eq, ni_rem, iMax_nn, iMin_nn, iMax_sub, Nat.zero_max, bI_0, bI_1, bI_n0, up2_s, up2_n, up2_k, va_up_self, va_up_ne, ni_l, lN_mul, lN_add, ln_mask, lN_i, ↓reduceIte, if_true, if_false, not_true_eq_false, not_false_eq_true, ite_self, Nat.add_zero, Nat.zero_add, ent_def]
theorem r_X7_isSpan (hG : GM G) (hs : s < 4) (hz : m 162 s = nI z) (hz24 : z ≤ 24) : res mX7_isSpan [.ref 158, .int (nI s), .int i, .int w] (G, m, ml) = some (some (.int (bI (spn z i w))), (G, m, ml)) := by
  obtain ⟨⟨g0, g1, g2, g3, g4, g5, g6, -⟩, ⟨a0, a1, a2, a3, a4, a5, -⟩, ⟨l0, l1, l2, l3, l4, l5, -⟩⟩ := hG
  apply res_of
  show Wp mX7_isSpan 0 [some (.ref 158), some (.int (nI s)), some (.int i), some (.int w)] [] (G, m, ml) _
  unfold spn
  by_cases h1 : nI 0 ≤ i
  · obtain ⟨p, rfl, hp⟩ := nn_of h1
    have h1' : ¬ (nI p < nI 0) := fun hx => by rw [i_lt] at hx; exact hx h1
    by_cases h2 : nI 0 ≤ w
    · obtain ⟨q, rfl, hq⟩ := nn_of h2
      have e := spn_r hz24 hp hq
      have h2' : ¬ (nI q < nI 0) := fun hx => by rw [i_lt] at hx; exact hx h2
      rw [decide_eq_true h1, decide_eq_true h2, nI_toInt (by omega), nI_toInt (by omega)]
      by_cases h3 : p + q ≤ z
      · rw [decide_eq_true (by omega)]
        have e' : ¬ (lN z < lN (p + q)) := fun hx => by rw [l_lt, e] at hx; exact hx h3
        simp (maxSteps := 1000000) (decide := true) (disch := (first | assumption | omega | exact Nat.div_mul_le_self _ _ | exact ni_nz (by omega) (by omega) | exact rfl | exact retOk_bI _ | exact retOk_0 | exact retOk_1)) only [eX7_isSpan_0, eX7_isSpan_1, eX7_isSpan_4, eX7_isSpan_5, eX7_isSpan_8, eX7_isSpan_9, eX7_isSpan_10, eX7_isSpan_11, eX7_isSpan_12, eX7_isSpan_13, eX7_isSpan_14, eX7_isSpan_17, eX7_isSpan_18, eX7_isSpan_19, eX7_isSpan_20, eX7_isSpan_21, eX7_isSpan_24, eX7_isSpan_25, eX7_isSpan_28, eX7_isSpan_29, Nat.not_lt_zero, g4, hz, lc_gt, e', WpR_some, Option.toList_some, Option.toList_none, List.cons_append, List.nil_append, List.append_nil, clr_n, clr_i, clr_a, ni_add, ni_mul, ni_sub, ni_lt, ni_le, ni_eq, ni_div, nat_mod_eq, ni_rem, iMax_nn, iMin_nn, iMax_sub, Nat.zero_max, bI_0, bI_1, bI_n0, up2_s, up2_n, up2_k, va_up_self, va_up_ne, ni_l, lN_mul, lN_add, ln_mask, lN_i, ↓reduceIte, if_true, if_false, not_true_eq_false, not_false_eq_true, ite_self, Nat.add_zero, Nat.zero_add, ent_def]
        rfl
      · rw [decide_eq_false (by omega)]
        have e' : lN z < lN (p + q) := by rw [l_lt, e]; exact h3
        simp (maxSteps := 1000000) (decide := true) (disch := (first | assumption | omega | exact Nat.div_mul_le_self _ _ | exact ni_nz (by omega) (by omega) | exact rfl | exact retOk_bI _ | exact retOk_0 | exact retOk_1)) only [eX7_isSpan_0, eX7_isSpan_1, eX7_isSpan_4, eX7_isSpan_5, eX7_isSpan_8, eX7_isSpan_9, eX7_isSpan_10, eX7_isSpan_11, eX7_isSpan_12, eX7_isSpan_13, eX7_isSpan_14, eX7_isSpan_17, eX7_isSpan_18, eX7_isSpan_19, eX7_isSpan_20, eX7_isSpan_21, eX7_isSpan_24, eX7_isSpan_25, eX7_isSpan_28, eX7_isSpan_29, Nat.not_lt_zero, g4, hz, lc_gt, e', WpR_some, Option.toList_some, Option.toList_none, List.cons_append, List.nil_append, List.append_nil, clr_n, clr_i, clr_a, ni_add, ni_mul, ni_sub, ni_lt, ni_le, ni_eq, ni_div, nat_mod_eq, ni_rem, iMax_nn, iMin_nn, iMax_sub, Nat.zero_max, bI_0, bI_1, bI_n0, up2_s, up2_n, up2_k, va_up_self, va_up_ne, ni_l, lN_mul, lN_add, ln_mask, lN_i, ↓reduceIte, if_true, if_false, not_true_eq_false, not_false_eq_true, ite_self, Nat.add_zero, Nat.zero_add, ent_def]
        rfl
    · have h2' : w < nI 0 := by rw [i_lt]; exact h2
      rw [decide_eq_false h2]
      simp (maxSteps := 1000000) (decide := true) (disch := (first | assumption | omega | exact Nat.div_mul_le_self _ _ | exact ni_nz (by omega) (by omega) | exact rfl | exact retOk_bI _ | exact retOk_0 | exact retOk_1)) only [eX7_isSpan_0, eX7_isSpan_1, eX7_isSpan_4, eX7_isSpan_5, eX7_isSpan_8, eX7_isSpan_9, eX7_isSpan_10, eX7_isSpan_11, eX7_isSpan_12, eX7_isSpan_13, eX7_isSpan_14, eX7_isSpan_17, eX7_isSpan_18, eX7_isSpan_19, eX7_isSpan_20, eX7_isSpan_21, eX7_isSpan_24, eX7_isSpan_25, eX7_isSpan_28, eX7_isSpan_29, Nat.not_lt_zero, g4, hz, h1', h2', Bool.and_false, Bool.false_and, WpR_some, Option.toList_some, Option.toList_none, List.cons_append, List.nil_append, List.append_nil, clr_n, clr_i, clr_a, ni_add, ni_mul, ni_sub, ni_lt, ni_le, ni_eq, ni_div, nat_mod_eq, ni_rem, iMax_nn, iMin_nn, iMax_sub, Nat.zero_max, bI_0, bI_1, bI_n0, up2_s, up2_n, up2_k, va_up_self, va_up_ne, ni_l, lN_mul, lN_add, ln_mask, lN_i, ↓reduceIte, if_true, if_false, not_true_eq_false, not_false_eq_true, ite_self, Nat.add_zero, Nat.zero_add, ent_def]
      rfl
  · have h1' : i < nI 0 := by rw [i_lt]; exact h1
    rw [decide_eq_false h1]
    simp (maxSteps := 1000000) (decide := true) (disch := (first | assumption | omega | exact Nat.div_mul_le_self _ _ | exact ni_nz (by omega) (by omega) | exact rfl | exact retOk_bI _ | exact retOk_0 | exact retOk_1)) only [eX7_isSpan_0, eX7_isSpan_1, eX7_isSpan_4, eX7_isSpan_5, eX7_isSpan_8, eX7_isSpan_9, eX7_isSpan_10, eX7_isSpan_11, eX7_isSpan_12, eX7_isSpan_13, eX7_isSpan_14, eX7_isSpan_17, eX7_isSpan_18, eX7_isSpan_19, eX7_isSpan_20, eX7_isSpan_21, eX7_isSpan_24, eX7_isSpan_25, eX7_isSpan_28, eX7_isSpan_29, Nat.not_lt_zero, g4, hz, h1', Bool.and_false, Bool.false_and, WpR_some, Option.toList_some, Option.toList_none, List.cons_append, List.nil_append, List.append_nil, clr_n, clr_i, clr_a, ni_add, ni_mul, ni_sub, ni_lt, ni_le, ni_eq, ni_div, nat_mod_eq, ni_rem, iMax_nn, iMin_nn, iMax_sub, Nat.zero_max, bI_0, bI_1, bI_n0, up2_s, up2_n, up2_k, va_up_self, va_up_ne, ni_l, lN_mul, lN_add, ln_mask, lN_i, ↓reduceIte, if_true, if_false, not_true_eq_false, not_false_eq_true, ite_self, Nat.add_zero, Nat.zero_add, ent_def]
    rfl
theorem r_X7_refusal (hG : GM G) (hS : RS m ml on ln sz it) (hs : s < 4) (hl : l < 4) : res mX7_refusal [.ref 158, .int (nI s), .int (nI l), .int i, .int w] (G, m, ml) = some (some (.int (rfs on ln sz s l i w)), (G, m, ml)) := by
  have e2 := fun ho : on s = true => r_X7_isSpan (ml := ml) (i := i) (w := w) hG hs ((hS s hs).1 ho).2.1 ((hS s hs).1 ho).2.2.2
  obtain ⟨⟨g0, g1, g2, g3, g4, g5, g6, -⟩, ⟨a0, a1, a2, a3, a4, a5, -⟩, ⟨l0, l1, l2, l3, l4, l5, -⟩⟩ := hG
  apply res_of
  show Wp mX7_refusal 0 [some (.ref 158), some (.int (nI s)), some (.int (nI l)), some (.int i), some (.int w)] [] (G, m, ml) _
  unfold rfs
  cases ho : on s
  · have x0 := (hS s hs).2.1 ho
    simp (maxSteps := 1000000) (decide := true) (disch := (first | assumption | omega | exact Nat.div_mul_le_self _ _ | exact ni_nz (by omega) (by omega) | exact rfl | exact retOk_bI _ | exact retOk_0 | exact retOk_1)) only [eX7_refusal_0, eX7_refusal_1, eX7_refusal_4, eX7_refusal_5, eX7_refusal_6, eX7_refusal_9, eX7_refusal_11, eX7_refusal_14, eX7_refusal_15, eX7_refusal_18, eX7_refusal_19, eX7_refusal_20, eX7_refusal_21, eX7_refusal_24, eX7_refusal_26, eX7_refusal_29, eX7_refusal_30, eX7_refusal_31, eX7_refusal_32, eX7_refusal_34, eX7_refusal_37, eX7_refusal_40, eX7_refusal_41, eX7_refusal_44, eX7_refusal_46, g4, x0, WpR_some, Option.toList_some, Option.toList_none, List.cons_append, List.nil_append, List.append_nil, clr_n, clr_i, clr_a, ni_add, ni_mul, ni_sub, ni_lt, ni_le, ni_eq, ni_div, nat_mod_eq, ni_rem, iMax_nn, iMin_nn, iMax_sub, Nat.zero_max, bI_0, bI_1, bI_n0, up2_s, up2_n, up2_k, va_up_self, va_up_ne, ni_l, lN_mul, lN_add, ln_mask, lN_i, ↓reduceIte, if_true, if_false, not_true_eq_false, not_false_eq_true, ite_self, Nat.add_zero, Nat.zero_add, ent_def]
  · obtain ⟨x0, x1, x2, x3⟩ := (hS s hs).1 ho
    have e2 := e2 ho
    by_cases hc : ln s = l
    · rw [if_neg (by decide), if_pos hc]
      cases hsp : spn (sz s) i w
      · rw [hsp] at e2
        simp (maxSteps := 1000000) (decide := true) (disch := (first | assumption | omega | exact Nat.div_mul_le_self _ _ | exact ni_nz (by omega) (by omega) | exact rfl | exact retOk_bI _ | exact retOk_0 | exact retOk_1)) only [eX7_refusal_0, eX7_refusal_1, eX7_refusal_4, eX7_refusal_5, eX7_refusal_6, eX7_refusal_9, eX7_refusal_11, eX7_refusal_14, eX7_refusal_15, eX7_refusal_18, eX7_refusal_19, eX7_refusal_20, eX7_refusal_21, eX7_refusal_24, eX7_refusal_26, eX7_refusal_29, eX7_refusal_30, eX7_refusal_31, eX7_refusal_32, eX7_refusal_34, eX7_refusal_37, eX7_refusal_40, eX7_refusal_41, eX7_refusal_44, eX7_refusal_46, Nat.not_lt_zero, g3, g4, g5, e2, x0, x1, hc, Nat.zero_le, WpR_some, Option.toList_some, Option.toList_none, List.cons_append, List.nil_append, List.append_nil, clr_n, clr_i, clr_a, ni_add, ni_mul, ni_sub, ni_lt, ni_le, ni_eq, ni_div, nat_mod_eq, ni_rem, iMax_nn, iMin_nn, iMax_sub, Nat.zero_max, bI_0, bI_1, bI_n0, up2_s, up2_n, up2_k, va_up_self, va_up_ne, ni_l, lN_mul, lN_add, ln_mask, lN_i, ↓reduceIte, if_true, if_false, not_true_eq_false, not_false_eq_true, ite_self, Nat.add_zero, Nat.zero_add, ent_def]
      · rw [hsp] at e2
        simp (maxSteps := 1000000) (decide := true) (disch := (first | assumption | omega | exact Nat.div_mul_le_self _ _ | exact ni_nz (by omega) (by omega) | exact rfl | exact retOk_bI _ | exact retOk_0 | exact retOk_1)) only [eX7_refusal_0, eX7_refusal_1, eX7_refusal_4, eX7_refusal_5, eX7_refusal_6, eX7_refusal_9, eX7_refusal_11, eX7_refusal_14, eX7_refusal_15, eX7_refusal_18, eX7_refusal_19, eX7_refusal_20, eX7_refusal_21, eX7_refusal_24, eX7_refusal_26, eX7_refusal_29, eX7_refusal_30, eX7_refusal_31, eX7_refusal_32, eX7_refusal_34, eX7_refusal_37, eX7_refusal_40, eX7_refusal_41, eX7_refusal_44, eX7_refusal_46, Nat.not_lt_zero, g3, g4, g5, e2, x0, x1, hc, Nat.zero_le, WpR_some, Option.toList_some, Option.toList_none, List.cons_append, List.nil_append, List.append_nil, clr_n, clr_i, clr_a, ni_add, ni_mul, ni_sub, ni_lt, ni_le, ni_eq, ni_div, nat_mod_eq, ni_rem, iMax_nn, iMin_nn, iMax_sub, Nat.zero_max, bI_0, bI_1, bI_n0, up2_s, up2_n, up2_k, va_up_self, va_up_ne, ni_l, lN_mul, lN_add, ln_mask, lN_i, ↓reduceIte, if_true, if_false, not_true_eq_false, not_false_eq_true, ite_self, Nat.add_zero, Nat.zero_add, ent_def]
    · rw [if_neg (by decide), if_neg hc]
      simp (maxSteps := 1000000) (decide := true) (disch := (first | assumption | omega | exact Nat.div_mul_le_self _ _ | exact ni_nz (by omega) (by omega) | exact rfl | exact retOk_bI _ | exact retOk_0 | exact retOk_1)) only [eX7_refusal_0, eX7_refusal_1, eX7_refusal_4, eX7_refusal_5, eX7_refusal_6, eX7_refusal_9, eX7_refusal_11, eX7_refusal_14, eX7_refusal_15, eX7_refusal_18, eX7_refusal_19, eX7_refusal_20, eX7_refusal_21, eX7_refusal_24, eX7_refusal_26, eX7_refusal_29, eX7_refusal_30, eX7_refusal_31, eX7_refusal_32, eX7_refusal_34, eX7_refusal_37, eX7_refusal_40, eX7_refusal_41, eX7_refusal_44, eX7_refusal_46, Nat.not_lt_zero, g3, g4, g5, x0, x1, hc, Nat.zero_le, WpR_some, Option.toList_some, Option.toList_none, List.cons_append, List.nil_append, List.append_nil, clr_n, clr_i, clr_a, ni_add, ni_mul, ni_sub, ni_lt, ni_le, ni_eq, ni_div, nat_mod_eq, ni_rem, iMax_nn, iMin_nn, iMax_sub, Nat.zero_max, bI_0, bI_1, bI_n0, up2_s, up2_n, up2_k, va_up_self, va_up_ne, ni_l, lN_mul, lN_add, ln_mask, lN_i, ↓reduceIte, if_true, if_false, not_true_eq_false, not_false_eq_true, ite_self, Nat.add_zero, Nat.zero_add, ent_def]
theorem x_item_bad {e : Int64} (hG : GM G) (h : (isN u 4 && isN v 4) = false) : res mX7_item [.ref 158, .int u, .int v, .int i, .long e] (G, m, ml) = some (some (.int (-1)), (G, m, ml)) := by
  obtain ⟨⟨g0, g1, -⟩, -⟩ := hG
  apply res_of
  show Wp mX7_item 0 [some (.ref 158), some (.int u), some (.int v), some (.int i), some (.long e), none, none] [] (G, m, ml) _
  cases h1 : isN u 4
  · simp (maxSteps := 1000000) (decide := true) (disch := (first | assumption | omega | exact Nat.div_mul_le_self _ _ | exact ni_nz (by omega) (by omega) | exact rfl | exact retOk_bI _ | exact retOk_0 | exact retOk_1)) only [eX7_item_0, eX7_item_1, eX7_item_4, eX7_item_7, eX7_item_8, eX7_item_9, eX7_item_10, eX7_item_13, eX7_item_16, eX7_item_19, eX7_item_20, eX7_item_21, eX7_item_22, eX7_item_23, eX7_item_24, eX7_item_25, eX7_item_26, eX7_item_29, eX7_item_31, eX7_item_33, eX7_item_36, eX7_item_37, eX7_item_40, eX7_item_42, eX7_item_43, eX7_item_44, eX7_item_45, eX7_item_46, eX7_item_47, eX7_item_49, eX7_item_52, eX7_item_53, eX7_item_55, eX7_item_58, eX7_item_59, eX7_item_62, eX7_item_64, r_X7_isSheet, h1, WpR_some, Option.toList_some, Option.toList_none, List.cons_append, List.nil_append, List.append_nil, clr_n, clr_i, clr_a, ni_add, ni_mul, ni_sub, ni_lt, ni_le, ni_eq, ni_div, nat_mod_eq, ni_rem, iMax_nn, iMin_nn, iMax_sub, Nat.zero_max, bI_0, bI_1, bI_n0, up2_s, up2_n, up2_k, va_up_self, va_up_ne, ni_l, lN_mul, lN_add, ln_mask, lN_i, ↓reduceIte, if_true, if_false, not_true_eq_false, not_false_eq_true, ite_self, Nat.add_zero, Nat.zero_add, ent_def]
  · rw [h1, Bool.true_and] at h
    simp (maxSteps := 1000000) (decide := true) (disch := (first | assumption | omega | exact Nat.div_mul_le_self _ _ | exact ni_nz (by omega) (by omega) | exact rfl | exact retOk_bI _ | exact retOk_0 | exact retOk_1)) only [eX7_item_0, eX7_item_1, eX7_item_4, eX7_item_7, eX7_item_8, eX7_item_9, eX7_item_10, eX7_item_13, eX7_item_16, eX7_item_19, eX7_item_20, eX7_item_21, eX7_item_22, eX7_item_23, eX7_item_24, eX7_item_25, eX7_item_26, eX7_item_29, eX7_item_31, eX7_item_33, eX7_item_36, eX7_item_37, eX7_item_40, eX7_item_42, eX7_item_43, eX7_item_44, eX7_item_45, eX7_item_46, eX7_item_47, eX7_item_49, eX7_item_52, eX7_item_53, eX7_item_55, eX7_item_58, eX7_item_59, eX7_item_62, eX7_item_64, r_X7_isSheet, r_inL, h1, h, WpR_some, Option.toList_some, Option.toList_none, List.cons_append, List.nil_append, List.append_nil, clr_n, clr_i, clr_a, ni_add, ni_mul, ni_sub, ni_lt, ni_le, ni_eq, ni_div, nat_mod_eq, ni_rem, iMax_nn, iMin_nn, iMax_sub, Nat.zero_max, bI_0, bI_1, bI_n0, up2_s, up2_n, up2_k, va_up_self, va_up_ne, ni_l, lN_mul, lN_add, ln_mask, lN_i, ↓reduceIte, if_true, if_false, not_true_eq_false, not_false_eq_true, ite_self, Nat.add_zero, Nat.zero_add, ent_def]
theorem x_item {e : Int64} (hG : GM G) (hS : RS m ml on ln sz it) (hs : s < 4) (hl : l < 4) : ∃ ml', res mX7_item [.ref 158, .int (nI s), .int (nI l), .int i, .long e] (G, m, ml) = some (some (.int (if rfs on ln sz s l i (nI 1) = nI 0 then nI 1 else rfs on ln sz s l i (nI 1))), (G, m, ml')) ∧ (rfs on ln sz s l i (nI 1) ≠ nI 0 → ml' = ml) ∧ (∀ x, rfs on ln sz s l i (nI 1) = nI 0 → i = nI x → x < 24 → ml' = up2J ml 163 (24 * s + x) (cutL l e)) := by
  have h1 := isN_t hs (by decide)
  have h2 := fun μ => r_inLn (μ := μ) hl
  have e1 := r_X7_refusal (ml := ml) (i := i) (w := nI 1) hG hS hs hl
  obtain ⟨⟨g0, g1, g2, g3, g4, g5, g6, -⟩, ⟨a0, a1, a2, a3, a4, a5, -⟩, ⟨l0, l1, l2, l3, l4, l5, -⟩⟩ := hG
  have e2 := fun μ => r_X7_cut (e := e) (μ := μ) hl
  by_cases hc : rfs on ln sz s l i (nI 1) = nI 0
  · by_cases hx : ∃ x, i = nI x ∧ x < 24
    · obtain ⟨x, rfl, hx⟩ := hx
      rw [hc] at e1
      refine ⟨up2J ml 163 (24 * s + x) (cutL l e), ?_, fun h => absurd hc h, fun y _ hy hy2 => ?_⟩
      · rw [if_pos hc]
        apply res_of
        show Wp mX7_item 0 [some (.ref 158), some (.int (nI s)), some (.int (nI l)), some (.int (nI x)), some (.long e), none, none] [] (G, m, ml) _
        simp (maxSteps := 1000000) (decide := true) (disch := (first | assumption | omega | exact Nat.div_mul_le_self _ _ | exact ni_nz (by omega) (by omega) | exact rfl | exact retOk_bI _ | exact retOk_0 | exact retOk_1)) only [eX7_item_0, eX7_item_1, eX7_item_4, eX7_item_7, eX7_item_8, eX7_item_9, eX7_item_10, eX7_item_13, eX7_item_16, eX7_item_19, eX7_item_20, eX7_item_21, eX7_item_22, eX7_item_23, eX7_item_24, eX7_item_25, eX7_item_26, eX7_item_29, eX7_item_31, eX7_item_33, eX7_item_36, eX7_item_37, eX7_item_40, eX7_item_42, eX7_item_43, eX7_item_44, eX7_item_45, eX7_item_46, eX7_item_47, eX7_item_49, eX7_item_52, eX7_item_53, eX7_item_55, eX7_item_58, eX7_item_59, eX7_item_62, eX7_item_64, r_X7_isSheet, h1, h2, e1, e2, g6, g5, g4, WpR_some, Option.toList_some, Option.toList_none, List.cons_append, List.nil_append, List.append_nil, clr_n, clr_i, clr_a, ni_add, ni_mul, ni_sub, ni_lt, ni_le, ni_eq, ni_div, nat_mod_eq, ni_rem, iMax_nn, iMin_nn, iMax_sub, Nat.zero_max, bI_0, bI_1, bI_n0, up2_s, up2_n, up2_k, va_up_self, va_up_ne, ni_l, lN_mul, lN_add, ln_mask, lN_i, ↓reduceIte, if_true, if_false, not_true_eq_false, not_false_eq_true, ite_self, Nat.add_zero, Nat.zero_add, ent_def]
      · rw [ni_eq (by omega) (by omega)] at hy
        rw [hy]
    · exfalso
      have ho : on s = true := by
        cases ho : on s
        · unfold rfs at hc; rw [if_pos ho] at hc; exact absurd hc (by decide)
        · rfl
      have hsp : spn (sz s) i (nI 1) = true := by
        unfold rfs at hc
        rw [if_neg (by rw [ho]; decide)] at hc
        by_cases hq : ln s = l
        · rw [if_pos hq] at hc
          cases hq : spn (sz s) i (nI 1)
          · rw [hq] at hc; exact absurd hc (by decide)
          · rfl
        · rw [if_neg hq] at hc; exact absurd hc (by decide)
      obtain ⟨x0, x1, x2, x3⟩ := (hS s hs).1 ho
      obtain ⟨x, hx1, hx2⟩ := spn_1 x3 hsp (by decide)
      exact hx ⟨x, hx1, by omega⟩
  · refine ⟨ml, ?_, fun _ => rfl, fun x h => absurd h hc⟩
    rw [if_neg hc]
    apply res_of
    show Wp mX7_item 0 [some (.ref 158), some (.int (nI s)), some (.int (nI l)), some (.int i), some (.long e), none, none] [] (G, m, ml) _
    simp (maxSteps := 1000000) (decide := true) (disch := (first | assumption | omega | exact Nat.div_mul_le_self _ _ | exact ni_nz (by omega) (by omega) | exact rfl | exact retOk_bI _ | exact retOk_0 | exact retOk_1)) only [eX7_item_0, eX7_item_1, eX7_item_4, eX7_item_7, eX7_item_8, eX7_item_9, eX7_item_10, eX7_item_13, eX7_item_16, eX7_item_19, eX7_item_20, eX7_item_21, eX7_item_22, eX7_item_23, eX7_item_24, eX7_item_25, eX7_item_26, eX7_item_29, eX7_item_31, eX7_item_33, eX7_item_36, eX7_item_37, eX7_item_40, eX7_item_42, eX7_item_43, eX7_item_44, eX7_item_45, eX7_item_46, eX7_item_47, eX7_item_49, eX7_item_52, eX7_item_53, eX7_item_55, eX7_item_58, eX7_item_59, eX7_item_62, eX7_item_64, r_X7_isSheet, h1, h2, e1, hc, WpR_some, Option.toList_some, Option.toList_none, List.cons_append, List.nil_append, List.append_nil, clr_n, clr_i, clr_a, ni_add, ni_mul, ni_sub, ni_lt, ni_le, ni_eq, ni_div, nat_mod_eq, ni_rem, iMax_nn, iMin_nn, iMax_sub, Nat.zero_max, bI_0, bI_1, bI_n0, up2_s, up2_n, up2_k, va_up_self, va_up_ne, ni_l, lN_mul, lN_add, ln_mask, lN_i, ↓reduceIte, if_true, if_false, not_true_eq_false, not_false_eq_true, ite_self, Nat.add_zero, Nat.zero_add, ent_def]
end SHE
