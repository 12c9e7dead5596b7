def CI (m : Nat → Nat → Int32) (ml : Nat → Nat → Int64) (σ : Nat → Nat) (k : Nat) (f : Nat → Nat → Nat) (im : Bool) (σi : Nat → Nat) (ki : Nat) (fi : Nat → Nat → Nat) (tl : Nat) (tc : Nat → Nat) (on : Nat → Bool) (ln sz : Nat → Nat) (it : Nat → Nat → Int64) : Prop := CA m σ k f ∧ CB m im σi ki fi ∧ CT m tl tc ∧ CS m ml on ln sz it
def XI (m : Nat → Nat → Int32) (ml : Nat → Nat → Int64) (σ : Nat → Nat) (k : Nat) (f : Nat → Nat → Nat) (im : Bool) (σi : Nat → Nat) (ki : Nat) (fi : Nat → Nat → Nat) (tl : Nat) (tc : Nat → Nat) (on : Nat → Bool) (ln sz : Nat → Nat) (it : Nat → Nat → Int64) : Prop := RA m 0 σ k f ∧ RI m im σi ki fi ∧ RT m tl tc ∧ RS m ml on ln sz it ∧ RX m
/-- what holds between two calls of the law -/
def INV (m : Nat → Nat → Int32) (ml : Nat → Nat → Int64) : Prop := ∃ σ k f im σi ki fi tl tc on ln sz it, CI m ml σ k f im σi ki fi tl tc on ln sz it ∧ XI m ml σ k f im σi ki fi tl tc on ln sz it ∧ IA σ k f ∧ (im = true → IA σi ki fi)
def OP (G : List AT) (m : Nat → Nat → Int32) (ml : Nat → Nat → Int64) (N1 N2 : MI) (as : List Value) : Prop := ∃ v m1 ml1 m2 ml2, res N1 (.ref 2 :: as) (G, m, ml) = some (some (.int v), (G, m1, ml1)) ∧ res N2 (.ref 158 :: as) (G, m1, ml1) = some (some (.int v), (G, m2, ml2)) ∧ INV m2 ml2 ∧ m1 0 = m 0 ∧ m2 0 = m 0
section OPS
variable {G : List AT} {m m' m1 m2 : Nat → Nat → Int32} {ml ml' ml1 ml2 : Nat → Nat → Int64} {σ σ' τ : Nat → Nat} {k k' : Nat} {f f' : Nat → Nat → Nat} {im im' : Bool} {σi σi' : Nat → Nat} {ki ki' : Nat} {fi fi' : Nat → Nat → Nat} {tl tl' : Nat} {tc tc' : Nat → Nat} {on on' : Nat → Bool} {ln sz ln' sz' : Nat → Nat} {it it' : Nat → Nat → Int64} {N1 N2 : MI} {as : List Value} {r u v w c d e i j : Int32} {x y n s t h l : Nat}
theorem CB_fr (h : CB m im σi ki fi) (h2 : m' 2 = m 2) (h3 : ∀ b, 68 ≤ b → b < 133 → m' b = m b) : CB m' im σi ki fi := ⟨by rw [h2]; exact h.1, fun z => ⟨ShV_fr (h.2 z).1 (fun b z1 z2 => h3 b z1 (by omega)), PaV_fr (h.2 z).2 (fun b z1 z2 => h3 b (by omega) (by omega))⟩⟩
theorem CT_fr (h : CT m tl tc) (h2 : m' 133 = m 133) (h3 : m' 134 = m 134) : CT m' tl tc := ⟨by rw [h2]; exact h.1, h.2.1, fun j hj => by rw [h3]; exact h.2.2 j hj⟩
theorem CS_fl (h : CS m ml on ln sz it) (hf : ∀ b, 136 ≤ b → b < 144 → m' b = m b) (hl : ∀ b, 136 ≤ b → b < 144 → ml' b = ml b) : CS m' ml' on ln sz it := fun s hs => by
  have h1 := CS_fr h hf s hs
  exact ⟨h1.1, h1.2.1, fun j hj => by rw [hl _ (by omega) (by omega)]; exact h1.2.2 j hj⟩
theorem RS_fl (h : RS m ml on ln sz it) (h1 : m' 161 = m 161) (h2 : m' 162 = m 162) (hl : ml' 163 = ml 163) : RS m' ml' on ln sz it := fun s hs => by
  have h1 := RS_fr h h1 h2 s hs
  exact ⟨h1.1, h1.2.1, fun j hj => by rw [hl]; exact h1.2.2 j hj⟩
theorem CI_fr (h : CI m ml σ k f im σi ki fi tl tc on ln sz it) (hm : ∀ b, b < 144 → m' b = m b) (hl : ∀ b, b < 144 → ml' b = ml b) : CI m' ml' σ k f im σi ki fi tl tc on ln sz it := ⟨CA_fr h.1 (fun b z1 z2 => hm b (by omega)), CB_fr h.2.1 (hm 2 (by omega)) (fun b z1 z2 => hm b (by omega)), CT_fr h.2.2.1 (hm 133 (by omega)) (hm 134 (by omega)), CS_fl h.2.2.2 (fun b z1 z2 => hm b z2) (fun b z1 z2 => hl b z2)⟩
theorem RI_fr (h : RI m im σi ki fi) (h1 : m' 158 1 = m 158 1) (h2 : ∀ j, 409 ≤ j → j < 818 → m' 159 j = m 159 j) : RI m' im σi ki fi := ⟨by rw [h1]; exact h.1, fun z => RA_fr (h.2 z) (fun j z1 z2 => h2 j z1 (by omega))⟩
theorem RX_fr (h : RX m) (h1 : m' 164 = m 164) (h2 : m' 158 8 = m 158 8) (h3 : m' 158 9 = m 158 9) (h4 : m' 158 19 = m 158 19) (h5 : m' 158 20 = m 158 20) : RX m' := by
  obtain ⟨a1, a2, a3, x, y, a4, a5⟩ := h
  exact ⟨fun k hk => by rw [h1]; exact a1 k hk, by rw [h2]; exact a2, by rw [h3]; exact a3, x, y, by rw [h4]; exact a4, by rw [h5]; exact a5⟩
theorem XI_fr (h : XI m ml σ k f im σi ki fi tl tc on ln sz it) (hm : ∀ b, 158 ≤ b → m' b = m b) (hl : ∀ b, 158 ≤ b → ml' b = ml b) : XI m' ml' σ k f im σi ki fi tl tc on ln sz it := ⟨RA_fr h.1 (fun j z1 z2 => by rw [hm 159 (by omega)]), RI_fr h.2.1 (by rw [hm 158 (by omega)]) (fun j z1 z2 => by rw [hm 159 (by omega)]), RT_fr h.2.2.1 (by rw [hm 158 (by omega)]) (hm 160 (by omega)), RS_fl h.2.2.2.1 (hm 161 (by omega)) (hm 162 (by omega)) (hl 163 (by omega)), RX_fr h.2.2.2.2 (hm 164 (by omega)) (by rw [hm 158 (by omega)]) (by rw [hm 158 (by omega)]) (by rw [hm 158 (by omega)]) (by rw [hm 158 (by omega)])⟩
theorem OP_same (h : INV m ml) (e1 : res N1 (.ref 2 :: as) (G, m, ml) = some (some (.int v), (G, m, ml))) (e2 : res N2 (.ref 158 :: as) (G, m, ml) = some (some (.int v), (G, m, ml))) : OP G m ml N1 N2 as := ⟨v, m, ml, m, ml, e1, e2, h, rfl, rfl⟩
theorem OP_st (C : CI m ml σ k f im σi ki fi tl tc on ln sz it) (X : XI m ml σ k f im σi ki fi tl tc on ln sz it) (hi : im = true → IA σi ki fi) (e1 : res N1 (.ref 2 :: as) (G, m, ml) = some (some (.int v), (G, m1, ml))) (A1 : CA m1 σ' k' f') (F1 : FC m m1) (e2 : ∃ m2, res N2 (.ref 158 :: as) (G, m1, ml) = some (some (.int v), (G, m2, ml)) ∧ RA m2 0 σ' k' f' ∧ FX 0 409 m1 m2 ∧ RX m2) (hI : IA σ' k' f') : OP G m ml N1 N2 as := by
  obtain ⟨m2, e2, A2, F2, R2⟩ := e2
  have X1 : XI m1 ml σ k f im σi ki fi tl tc on ln sz it := XI_fr X (fun b hb => F1 b (by omega)) (fun _ _ => rfl)
  have G2 : ∀ b, b < 158 → m2 b = m1 b := fun b hb => F2.1 b (by omega) (by omega)
  refine ⟨v, m1, ml, m2, ml, e1, e2, ⟨σ', k', f', im, σi, ki, fi, tl, tc, on, ln, sz, it, CI_fr (m := m1) (ml := ml) ⟨A1, CB_fr C.2.1 (F1 2 (by omega)) (fun b z1 z2 => F1 b (by omega)), CT_fr C.2.2.1 (F1 133 (by omega)) (F1 134 (by omega)), CS_fr C.2.2.2 (fun b z1 z2 => F1 b (by omega))⟩ (fun b hb => G2 b (by omega)) (fun _ _ => rfl), ⟨A2, RI_fr X1.2.1 (F2.2.1 1 (by omega) (by omega)) (fun j z1 z2 => F2.2.2 j (by omega)), RT_fr X1.2.2.1 (F2.2.1 3 (by omega) (by omega)) (F2.1 160 (by omega) (by omega)), RS_fr X1.2.2.2.1 (F2.1 161 (by omega) (by omega)) (F2.1 162 (by omega) (by omega)), R2⟩, hI, hi⟩, F1 0 (by omega), by rw [G2 0 (by omega), F1 0 (by omega)]⟩
theorem X_st (X : XI m ml σ k f im σi ki fi tl tc on ln sz it) (F1 : FC m m1) : XI m1 ml σ k f im σi ki fi tl tc on ln sz it := XI_fr X (fun b hb => F1 b (by omega)) (fun _ _ => rfl)
theorem X_q (X : XI m ml σ k f im σi ki fi tl tc on ln sz it) (F1 : FT m m1) : XI m1 ml σ k f im σi ki fi tl tc on ln sz it := XI_fr X (fun b hb => F1 b (by omega)) (fun _ _ => rfl)
theorem XI_q (X : XI m ml σ k f im σi ki fi tl tc on ln sz it) (F2 : FX 818 874 m m2) (cn : ∃ x y, CnV m2 x y) : XI m2 ml σ k f im σi ki fi tl tc on ln sz it := ⟨RA_fr X.1 (fun j z1 z2 => F2.2.2 j (by omega)), RI_fr X.2.1 (F2.2.1 1 (by omega) (by omega)) (fun j z1 z2 => F2.2.2 j (by omega)), RT_fr X.2.2.1 (F2.2.1 3 (by omega) (by omega)) (F2.1 160 (by omega) (by omega)), RS_fr X.2.2.2.1 (F2.1 161 (by omega) (by omega)) (F2.1 162 (by omega) (by omega)), RX_fx X.2.2.2.2 F2 cn⟩
theorem OP_q (C : CI m ml σ k f im σi ki fi tl tc on ln sz it) (X : XI m ml σ k f im σi ki fi tl tc on ln sz it) (hI : IA σ k f) (hi : im = true → IA σi ki fi) (e1 : res N1 (.ref 2 :: as) (G, m, ml) = some (some (.int v), (G, m1, ml))) (F1 : FT m m1) (e2 : ∃ m2, res N2 (.ref 158 :: as) (G, m1, ml) = some (some (.int v), (G, m2, ml)) ∧ FX 818 874 m1 m2 ∧ ∃ x y, CnV m2 x y) : OP G m ml N1 N2 as := by
  obtain ⟨m2, e2, F2, cn⟩ := e2
  have X1 := X_q X F1
  have G2 : ∀ b, b < 158 → m2 b = m1 b := fun b hb => F2.1 b (by omega) (by omega)
  exact ⟨v, m1, ml, m2, ml, e1, e2, ⟨σ, k, f, im, σi, ki, fi, tl, tc, on, ln, sz, it, CI_fr C (fun b hb => by rw [G2 b (by omega), F1 b (by omega)]) (fun _ _ => rfl), XI_q X1 F2 cn, hI, hi⟩, F1 0 (by omega), by rw [G2 0 (by omega), F1 0 (by omega)]⟩
theorem op_teller (hW : GW G) (hM : GM G) (h : INV m ml) : OP G m ml mX6_teller mX7_teller [.int u, .int v] := by
  obtain ⟨σ, k, f, im, σi, ki, fi, tl, tc, on, ln, sz, it, C, X, P, Q⟩ := id h
  cases hb : (rg u 0 4 && rg v 1 20)
  · exact OP_same h (c_teller_bad hb) (x_teller_bad hM hb)
  · rw [Bool.and_eq_true] at hb
    obtain ⟨x, rfl, -, hx⟩ := rg_of hb.1 (by decide) (by decide)
    obtain ⟨y, rfl, hy, hy2⟩ := rg_of hb.2 (by decide) (by decide)
    by_cases h5 : σ 44 = 5
    · exact OP_same h (c_teller_full hW C.1 hb.1 hb.2 h5) (x_teller_full hM X.1 hb.1 hb.2 h5)
    · have b := P.1.1.1
      obtain ⟨m1, e1, A1, F1⟩ := c_teller (ml := ml) hW C.1 hb.1 hb.2 (by omega) (by omega) (by omega)
      have X1 := X_st X F1
      obtain ⟨m2, e2, A2, F2, B2⟩ := x_teller (ml := ml) hM X1.1 hx hy hy2 (by omega)
      exact OP_st C X Q e1 A1 F1 ⟨m2, e2, A2, F2, RX_159 X1.2.2.2.2 B2⟩ (IA_0 (Ok_addT P.1 (by omega) hx hy2))
theorem op_hearer (hW : GW G) (hM : GM G) (h : INV m ml) : OP G m ml mX6_hearer mX7_hearer [.int u] := by
  obtain ⟨σ, k, f, im, σi, ki, fi, tl, tc, on, ln, sz, it, C, X, P, Q⟩ := id h
  cases hb : rg u 1 60
  · exact OP_same h (c_hearer_bad hb) (x_hearer_bad hM hb)
  · obtain ⟨x, rfl, hx, hx2⟩ := rg_of hb (by decide) (by decide)
    by_cases h5 : σ 45 = 5
    · exact OP_same h (c_hearer_full hW C.1 hb h5) (x_hearer_full hM X.1 hb h5)
    · have b := P.1.1.2.1
      obtain ⟨m1, e1, A1, F1⟩ := c_hearer (ml := ml) hW C.1 hb (by omega) (by omega)
      have X1 := X_st X F1
      obtain ⟨m2, e2, A2, F2, B2⟩ := x_hearer (ml := ml) hM X1.1 hx hx2 (by omega)
      exact OP_st C X Q e1 A1 F1 ⟨m2, e2, A2, F2, RX_159 X1.2.2.2.2 B2⟩ (IA_0 (Ok_addH P.1 (by omega) hx2))
theorem op_of (hW : GW G) (hM : GM G) (h : INV m ml) : OP G m ml mX6_of mX7_of [.int u, .int v] := by
  obtain ⟨σ, k, f, im, σi, ki, fi, tl, tc, on, ln, sz, it, C, X, P, Q⟩ := id h
  have b := P.1.1
  cases hb : isN u (σ 44)
  · exact OP_same h (c_of_bad hW C.1 hb) (x_of_bad hM X.1 b hb)
  · obtain ⟨t, rfl, ht⟩ := isN_of hb (by have := b.1; omega)
    exact OP_same h (c_of hW C.1 b ht) (x_of hM X.1 b ht)
theorem op_at (hW : GW G) (hM : GM G) (h : INV m ml) : OP G m ml mX6_at mX7_at [.int u, .int v] := by
  obtain ⟨σ, k, f, im, σi, ki, fi, tl, tc, on, ln, sz, it, C, X, P, Q⟩ := id h
  have b := P.1.1
  cases hb : isN u (σ 45)
  · exact OP_same h (c_at_bad hW C.1 hb) (x_at_bad hM X.1 b hb)
  · obtain ⟨t, rfl, ht⟩ := isN_of hb (by have := b.2.1; omega)
    exact OP_same h (c_at hW C.1 b ht) (x_at hM X.1 X.2.2.2.2 b ht)
theorem op_heard (hW : GW G) (hM : GM G) (h : INV m ml) : OP G m ml mX6_heard mX7_heard [.int u, .int v] := by
  obtain ⟨σ, k, f, im, σi, ki, fi, tl, tc, on, ln, sz, it, C, X, P, Q⟩ := id h
  have b := P.1.1
  cases hb : (isN u (σ 45) && isN v (σ 44))
  · exact OP_same h (c_heard_bad hW C.1 hb) (x_heard_bad hM X.1 b hb)
  · rw [Bool.and_eq_true] at hb
    obtain ⟨h', rfl, hh⟩ := isN_of hb.1 (by have := b.2.1; omega)
    obtain ⟨t, rfl, ht⟩ := isN_of hb.2 (by have := b.1; omega)
    exact OP_same h (c_heard hW C.1 b hh ht) (x_heard hM X.1 b hh ht)
theorem op_count (hW : GW G) (hM : GM G) (h : INV m ml) : OP G m ml mX6_count mX7_count [.int u] := by
  obtain ⟨σ, k, f, im, σi, ki, fi, tl, tc, on, ln, sz, it, C, X, P, Q⟩ := id h
  exact OP_same h (c_count hW C.1 P.1.1) (x_count hM X.1 P.1)
theorem op_type (hW : GW G) (hM : GM G) (h : INV m ml) : OP G m ml mX6_type mX7_type [.int u] := by
  obtain ⟨σ, k, f, im, σi, ki, fi, tl, tc, on, ln, sz, it, C, X, P, Q⟩ := id h
  cases hb : rg u 32 126
  · exact OP_same h (c_type_bad hb) (x_type_bad hM hb)
  · obtain ⟨x, rfl, hx, hx2⟩ := rg_of hb (by decide) (by decide)
    obtain ⟨m1, e1, A1, F1⟩ := c_type (ml := ml) hW C.2.2.1 hx hx2
    have X1 : XI m1 ml σ k f im σi ki fi tl tc on ln sz it := XI_fr X (fun b hb => F1 b (by omega) (by omega)) (fun _ _ => rfl)
    obtain ⟨m2, e2, A2, F2, B2⟩ := x_type (ml := ml) hM X1.2.2.1 hx hx2
    have G2 : ∀ b, b < 158 → m2 b = m1 b := fun b hb => F2 b (by omega) (by omega)
    have rest : ∀ tl' tc', CT m1 tl' tc' → RT m2 tl' tc' → INV m2 ml := fun tl' tc' c' r' => ⟨σ, k, f, im, σi, ki, fi, tl', tc', on, ln, sz, it, CI_fr (m := m1) (ml := ml) ⟨CA_fr C.1 (fun b z1 z2 => F1 b (by omega) (by omega)), CB_fr C.2.1 (F1 2 (by omega) (by omega)) (fun b z1 z2 => F1 b (by omega) (by omega)), c', CS_fr C.2.2.2 (fun b z1 z2 => F1 b (by omega) (by omega))⟩ (fun b hb => G2 b (by omega)) (fun _ _ => rfl), ⟨RA_fr X1.1 (fun j z1 z2 => by rw [F2 159 (by omega) (by omega)]), RI_fr X1.2.1 (B2 1 (by omega)) (fun j z1 z2 => by rw [F2 159 (by omega) (by omega)]), r', RS_fr X1.2.2.2.1 (F2 161 (by omega) (by omega)) (F2 162 (by omega) (by omega)), RX_fr X1.2.2.2.2 (F2 164 (by omega) (by omega)) (B2 8 (by omega)) (B2 9 (by omega)) (B2 19 (by omega)) (B2 20 (by omega))⟩, P, Q⟩
    refine ⟨_, m1, ml, m2, ml, e1, e2, ?_, F1 0 (by omega) (by omega), by rw [G2 0 (by omega), F1 0 (by omega) (by omega)]⟩
    by_cases h7 : tl = 70
    · rw [if_pos h7] at A1 A2; exact rest _ _ A1 A2
    · rw [if_neg h7] at A1 A2; exact rest _ _ A1 A2
theorem op_list (hW : GW G) (hM : GM G) (h : INV m ml) : OP G m ml mX6_list mX7_list [] := by
  obtain ⟨σ, k, f, im, σi, ki, fi, tl, tc, on, ln, sz, it, C, X, P, Q⟩ := id h
  obtain ⟨m1, r1, e1, F1, T1, B1, O1⟩ := c_list (ml := ml) hW C.1 C.2.2.1
  have X1 : XI m1 ml σ k f im σi ki fi tl tc on ln sz it := XI_fr X (fun b hb => F1 b (by omega)) (fun _ _ => rfl)
  obtain ⟨m2, r2, e2, F2, T2, B2, O2⟩ := x_list (ml := ml) hM X1.1 X1.2.2.1
  have G2 : ∀ b, b < 158 → m2 b = m1 b := fun b hb => F2.1 b (by omega) (by omega) (by omega) (by omega) (by omega) (by omega)
  have rest : ∀ σ' k', CA m1 σ' k' f → RA m2 0 σ' k' f → IA σ' k' f → INV m2 ml := fun σ' k' c' r' i' => ⟨σ', k', f, im, σi, ki, fi, 0, tc, on, ln, sz, it, CI_fr (m := m1) (ml := ml) ⟨c', CB_fr C.2.1 (F1 2 (by omega)) (fun b z1 z2 => F1 b (by omega)), T1, CS_fr C.2.2.2 (fun b z1 z2 => F1 b (by omega))⟩ (fun b hb => G2 b (by omega)) (fun _ _ => rfl), ⟨r', RI_fr X1.2.1 (F2.2.1 1 (by omega) (by omega)) (fun j z1 z2 => F2.2.2 j z1), T2, RS_fr X1.2.2.2.1 (F2.1 161 (by omega) (by omega) (by omega) (by omega) (by omega) (by omega)) (F2.1 162 (by omega) (by omega) (by omega) (by omega) (by omega) (by omega)), RX_fr X1.2.2.2.2 (F2.1 164 (by omega) (by omega) (by omega) (by omega) (by omega) (by omega)) (F2.2.1 8 (by omega) (by omega)) (F2.2.1 9 (by omega) (by omega)) (F2.2.1 19 (by omega) (by omega)) (F2.2.1 20 (by omega) (by omega))⟩, i', Q⟩
  cases hp : prR tl tc (σ 43) with
  | inl g =>
    obtain ⟨z1, z2⟩ := B1 g hp
    obtain ⟨z3, z4⟩ := B2 g hp
    rw [z1] at e1
    rw [z3] at e2
    exact ⟨_, m1, ml, m2, ml, e1, e2, rest _ _ z2 z4 P, F1 0 (by omega), by rw [G2 0 (by omega), F1 0 (by omega)]⟩
  | inr a =>
    obtain ⟨e, τ⟩ := a
    obtain ⟨z1, z2⟩ := O1 e τ hp
    obtain ⟨z3, z4⟩ := O2 e τ hp
    rw [z1] at e1
    rw [z3] at e2
    exact ⟨_, m1, ml, m2, ml, e1, e2, rest _ _ z2 z4 (IA_0 (ZA_Ok (prR_z hp) P.1.1.2.2.2.2.2.1)), F1 0 (by omega), by rw [G2 0 (by omega), F1 0 (by omega)]⟩
theorem op_evenings (hW : GW G) (hM : GM G) (h : INV m ml) : OP G m ml mX6_evenings mX7_evenings [.int u] := by
  obtain ⟨σ, k, f, im, σi, ki, fi, tl, tc, on, ln, sz, it, C, X, P, Q⟩ := id h
  cases hb : rg u 1 40
  · exact OP_same h (c_evenings_bad hW hb) (x_evenings hM (r_X7_goOn_bad hM hb))
  · obtain ⟨n, rfl, hx, hx2⟩ := rg_of hb (by decide) (by decide)
    by_cases h5 : 9999 < σ 42 + n
    · exact OP_same h (c_evenings_full hW C.1 P.1.1 hx hx2 h5) (x_evenings hM (r_X7_goOn_full hM X.1 P.1.1 hx hx2 h5))
    · obtain ⟨m1, e1, A1, F1⟩ := c_evenings (ml := ml) hW C.1 P.1 hx hx2 h5
      have X1 := X_st X F1
      obtain ⟨m2, e2, A2, F2, B2⟩ := r_X7_goOn (ml := ml) (d := false) hM X1.1 X1.2.2.2.2 P.1 hx hx2 h5
      exact OP_st C X Q e1 A1 F1 ⟨m2, x_evenings hM e2, A2, F2, B2⟩ (IA_it P n (by omega))
theorem op_drift (hW : GW G) (hM : GM G) (h : INV m ml) : OP G m ml mX6_drift mX7_drift [.int u] := by
  obtain ⟨σ, k, f, im, σi, ki, fi, tl, tc, on, ln, sz, it, C, X, P, Q⟩ := id h
  cases hb : rg u 1 40
  · exact OP_same h (c_drift_bad hW hb) (x_drift hM (r_X7_goOn_bad hM hb))
  · obtain ⟨n, rfl, hx, hx2⟩ := rg_of hb (by decide) (by decide)
    by_cases h5 : 9999 < σ 42 + n
    · exact OP_same h (c_drift_full hW C.1 P.1.1 hx hx2 h5) (x_drift hM (r_X7_goOn_full hM X.1 P.1.1 hx hx2 h5))
    · obtain ⟨m1, e1, A1, F1⟩ := c_drift (ml := ml) hW C.1 P.1 hx hx2 h5
      have X1 := X_st X F1
      obtain ⟨m2, e2, A2, F2, B2⟩ := r_X7_goOn (ml := ml) (d := true) hM X1.1 X1.2.2.2.2 P.1 hx hx2 h5
      exact OP_st C X Q e1 A1 F1 ⟨m2, x_drift hM e2, A2, F2, B2⟩ (IA_it P n (by omega))
theorem op_rest (hW : GW G) (hM : GM G) (h : INV m ml) : OP G m ml mX6_rest mX7_rest [.int u, .int v] := by
  obtain ⟨σ, k, f, im, σi, ki, fi, tl, tc, on, ln, sz, it, C, X, P, Q⟩ := id h
  have b := P.1.1
  cases hb : (isN u (σ 45) && rg v 1 60)
  · exact OP_same h (c_rest_bad hW C.1 hb) (x_rest_bad hM X.1 b hb)
  · rw [Bool.and_eq_true] at hb
    have b2 := b.2.1
    obtain ⟨h', rfl, hh⟩ := isN_of hb.1 (by omega)
    obtain ⟨n, rfl, hx, hx2⟩ := rg_of hb.2 (by decide) (by decide)
    obtain ⟨m1, e1, A1, F1⟩ := c_rest (ml := ml) hW C.1 b hh hx hx2
    have X1 := X_st X F1
    obtain ⟨m2, e2, A2, F2, B2⟩ := x_rest (ml := ml) hM X1.1 b hh hx hx2
    have R2 := RX_159 X1.2.2.2.2 B2
    by_cases hc : σ h' = σ (51 + h')
    · rw [if_pos hc] at A1 A2
      exact OP_st C X Q e1 A1 F1 ⟨m2, e2, A2, F2, R2⟩ P
    · rw [if_neg hc] at A1 A2
      have b10 := b.2.2.2.2.2.2.2.2.2.1 h' (by omega)
      exact OP_st C X Q e1 A1 F1 ⟨m2, e2, A2, F2, R2⟩ (IA_push P (Ok_up P.1 (by omega) (by omega) (by omega) ⟨by omega, by omega, by omega, by omega, by omega, by omega, by omega, by omega, by omega, by omega, by omega, by omega⟩) (fun j z1 z2 => upN_n (by omega)))
theorem op_spin (hW : GW G) (hM : GM G) (h : INV m ml) : OP G m ml mX6_spin mX7_spin [.int u, .int v] := by
  obtain ⟨σ, k, f, im, σi, ki, fi, tl, tc, on, ln, sz, it, C, X, P, Q⟩ := id h
  have b := P.1.1
  cases hb : (isN u (σ 44) && rg v 1 20)
  · exact OP_same h (c_spin_bad hW C.1 hb) (x_spin_bad hM X.1 b hb)
  · rw [Bool.and_eq_true] at hb
    have b2 := b.1
    obtain ⟨t, rfl, hh⟩ := isN_of hb.1 (by omega)
    obtain ⟨n, rfl, hx, hx2⟩ := rg_of hb.2 (by decide) (by decide)
    obtain ⟨m1, e1, A1, F1⟩ := c_spin (ml := ml) hW C.1 b hh hx hx2
    have X1 := X_st X F1
    obtain ⟨m2, e2, A2, F2, B2⟩ := x_spin (ml := ml) hM X1.1 b hh hx hx2
    have R2 := RX_159 X1.2.2.2.2 B2
    by_cases hc : σ (5 + t) = 20
    · rw [if_pos hc] at A1 A2
      exact OP_st C X Q e1 A1 F1 ⟨m2, e2, A2, F2, R2⟩ P
    · rw [if_neg hc] at A1 A2
      exact OP_st C X Q e1 A1 F1 ⟨m2, e2, A2, F2, R2⟩ (IA_push P (Ok_up P.1 (by omega) (by omega) (by omega) ⟨by omega, by omega, by omega, by omega, by omega, by omega, by omega, by omega, by omega, by omega, by omega, by omega⟩) (fun j z1 z2 => upN_n (by omega)))
theorem op_step (hW : GW G) (hM : GM G) (h : INV m ml) : OP G m ml mX6_step mX7_step [.int u] := by
  obtain ⟨σ, k, f, im, σi, ki, fi, tl, tc, on, ln, sz, it, C, X, P, Q⟩ := id h
  have b := P.1.1
  cases hb : rg u 0 4
  · exact OP_same h (c_step_bad hb) (x_step_bad hM hb)
  · obtain ⟨n, rfl, hx, hx2⟩ := rg_of hb (by decide) (by decide)
    obtain ⟨m1, e1, A1, F1⟩ := c_step (ml := ml) hW C.1 b hx2
    have X1 := X_st X F1
    obtain ⟨m2, e2, A2, F2, B2⟩ := x_step (ml := ml) hM X1.1 b hx2
    have R2 := RX_159 X1.2.2.2.2 B2
    by_cases hc : n = σ 41
    · rw [if_pos hc] at A1 A2
      exact OP_st C X Q e1 A1 F1 ⟨m2, e2, A2, F2, R2⟩ P
    · rw [if_neg hc] at A1 A2
      exact OP_st C X Q e1 A1 F1 ⟨m2, e2, A2, F2, R2⟩ (IA_push P (Ok_up P.1 (by omega) (by omega) (by omega) ⟨by omega, by omega, by omega, by omega, by omega, by omega, by omega, by omega, by omega, by omega, by omega, by omega⟩) (fun j z1 z2 => upN_n (by omega)))
theorem op_turn (hW : GW G) (hM : GM G) (h : INV m ml) : OP G m ml mX6_turn mX7_turn [.int u] := by
  obtain ⟨σ, k, f, im, σi, ki, fi, tl, tc, on, ln, sz, it, C, X, P, Q⟩ := id h
  have b := P.1.1
  have b5 := seats_le b
  cases hb : isN u (seats σ)
  · exact OP_same h (c_turn_bad hW C.1 b hb) (x_turn_bad hM X.1 b hb)
  · obtain ⟨n, rfl, hx⟩ := isN_of hb (by omega)
    obtain ⟨m1, e1, A1, F1⟩ := c_turn (ml := ml) hW C.1 b hx
    have X1 := X_st X F1
    obtain ⟨m2, e2, A2, F2, B2⟩ := x_turn (ml := ml) hM X1.1 b hx
    have R2 := RX_159 X1.2.2.2.2 B2
    by_cases hc : n = σ 40
    · rw [if_pos hc] at A1 A2
      exact OP_st C X Q e1 A1 F1 ⟨m2, e2, A2, F2, R2⟩ P
    · rw [if_neg hc] at A1 A2
      exact OP_st C X Q e1 A1 F1 ⟨m2, e2, A2, F2, R2⟩ (IA_push P (Ok_up P.1 (by omega) (by omega) (by omega) ⟨by omega, by omega, by omega, by omega, by omega, by omega, by omega, by omega, by omega, by omega, by omega, by omega⟩) (fun j z1 z2 => upN_n (by omega)))
theorem op_undo (hW : GW G) (hM : GM G) (h : INV m ml) : OP G m ml mX6_undo mX7_undo [] := by
  obtain ⟨σ, k, f, im, σi, ki, fi, tl, tc, on, ln, sz, it, C, X, P, Q⟩ := id h
  cases k with
  | zero => exact OP_same h (c_undo0 hW C.1) (x_undo0 hM X.1)
  | succ k =>
    obtain ⟨m1, e1, A1, F1⟩ := c_undo (ml := ml) hW C.1
    have X1 := X_st X F1
    obtain ⟨m2, e2, A2, F2, B2⟩ := x_undo (ml := ml) hM X1.1 (P.2 0 (by omega)).2
    exact OP_st C X Q e1 A1 F1 ⟨m2, e2, A2, F2, RX_159 X1.2.2.2.2 B2⟩ (IA_undo P)
theorem op_seed (hW : GW G) (hM : GM G) (h : INV m ml) : OP G m ml mX6_seed mX7_seed [.int u] := by
  obtain ⟨σ, k, f, im, σi, ki, fi, tl, tc, on, ln, sz, it, C, X, P, Q⟩ := id h
  by_cases hb : u < nI 0
  · exact OP_same h (c_seed_bad hb) (x_seed_bad hM hb)
  · obtain ⟨n, rfl, hx⟩ := nn_of (Int32.not_lt.mp hb)
    obtain ⟨m1, e1, A1, F1⟩ := c_seed (ml := ml) hW C.1 hx
    have X1 := X_st X F1
    obtain ⟨m2, e2, A2, F2, B2⟩ := x_seed (ml := ml) hM X1.1 hx
    exact OP_st C X Q e1 A1 F1 ⟨m2, e2, A2, F2, RX_159 X1.2.2.2.2 B2⟩ (IA_seed P hx)
end OPS
