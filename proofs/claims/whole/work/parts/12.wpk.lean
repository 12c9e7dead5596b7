section WX
variable {M N : MI} {pc len : Nat} {L : Ls} {S : List Value} {G : List AT} {m : Nat → Nat → Int32} {ml : Nat → Nat → Int64} {μ : Mm} {Q : Option Value → Mm → Prop} {a b k ci f j x : Nat} {u v : Int32}
theorem wp_iconst {n : Int} (hd : decode (mB M) pc = .ok (.iconst n, 1)) (hv : Int32.ofInt n = v) : Wp M pc L S μ Q = Wp M (pc + 1) L (.int v :: S) μ Q := wp_st hd rfl rfl rfl (by rw [← hv]; rfl)
theorem wp_bipush {n : Int} (hd : decode (mB M) pc = .ok (.bipush n, 2)) (hv : (Int8.ofInt n).toInt32 = v) : Wp M pc L S μ Q = Wp M (pc + 2) L (.int v :: S) μ Q := wp_st hd rfl rfl rfl (by rw [← hv]; rfl)
theorem wp_sipush {n : Int} (hd : decode (mB M) pc = .ok (.sipush n, 3)) (hv : (Int16.ofInt n).toInt32 = v) : Wp M pc L S μ Q = Wp M (pc + 3) L (.int v :: S) μ Q := wp_st hd rfl rfl rfl (by rw [← hv]; rfl)
theorem wp_lconst {n : Fin 2} {w : Int64} (hd : decode (mB M) pc = .ok (.lconst n, 1)) (hv : Int64.ofNat (n : Nat) = w) : Wp M pc L S μ Q = Wp M (pc + 1) L (.long w :: S) μ Q := wp_st hd rfl rfl rfl (by rw [← hv]; rfl)
theorem wp_ldc (hd : decode (mB M) pc = .ok (.ldc k, 2)) (hv : lk2 iLk (mC M) k = some v) : Wp M pc L S μ Q = Wp M (pc + 2) L (.int v :: S) μ Q := wp_st hd rfl rfl rfl (by simp only [stepI, hv])
theorem wp_ldcS (hd : decode (mB M) pc = .ok (.ldc 60, 2)) (hv : lk2 iLk (mC M) 60 = none) (h5 : mC M = 5) : Wp M pc L S μ Q = Wp M (pc + 2) L (.ref 1 :: S) μ Q := wp_st hd rfl rfl rfl (by simp only [stepI, hv, h5]; rfl)
theorem wp_ldc2 {w : Int64} (hd : decode (mB M) pc = .ok (.ldc2_w k, 3)) (hv : lk2 lLk (mC M) k = some w) : Wp M pc L S μ Q = Wp M (pc + 3) L (.long w :: S) μ Q := wp_st hd rfl rfl rfl (by simp only [stepI, hv])
theorem wp_ist_n {kf : Fin 4} (hd : decode (mB M) pc = .ok (.istore_n kf, 1)) (hk : (kf : Nat) = k) (hl : k < L.length) : Wp M pc L (.int v :: S) μ Q = Wp M (pc + 1) (st1 L k (.int v)) S μ Q := by
  subst hk
  exact wp_st hd rfl rfl rfl (by simp only [stepI, xSt]; rw [if_pos ⟨rfl, hl⟩])
theorem wp_ist {kf : Nat} (hd : decode (mB M) pc = .ok (.istore kf, 2)) (hk : kf = k) (hl : k < L.length) : Wp M pc L (.int v :: S) μ Q = Wp M (pc + 2) (st1 L k (.int v)) S μ Q := by
  subst hk
  exact wp_st hd rfl rfl rfl (by simp only [stepI, xSt]; rw [if_pos ⟨rfl, hl⟩])
theorem wp_ast_n {kf : Fin 4} (hd : decode (mB M) pc = .ok (.astore_n kf, 1)) (hk : (kf : Nat) = k) (hl : k < L.length) : Wp M pc L (.ref a :: S) μ Q = Wp M (pc + 1) (st1 L k (.ref a)) S μ Q := by
  subst hk
  exact wp_st hd rfl rfl rfl (by simp only [stepI, xSt]; rw [if_pos ⟨rfl, hl⟩])
theorem wp_ast {kf : Nat} (hd : decode (mB M) pc = .ok (.astore kf, 2)) (hk : kf = k) (hl : k < L.length) : Wp M pc L (.ref a :: S) μ Q = Wp M (pc + 2) (st1 L k (.ref a)) S μ Q := by
  subst hk
  exact wp_st hd rfl rfl rfl (by simp only [stepI, xSt]; rw [if_pos ⟨rfl, hl⟩])
theorem wp_new (hd : decode (mB M) pc = .ok (.new k, 3)) (hk : lk2 cLk (mC M) k = some ci) : Wp M pc L S μ Q = Wp M (pc + 3) L (.ref μ.1.length :: S) (mNew μ (ci + 10, 0, fun _ => none)) Q := wp_st hd rfl rfl rfl (by simp only [stepI, hk])
theorem wp_anew3 (hd : decode (mB M) pc = .ok (.anewarray k, 3)) (hk : lk2 cLk (mC M) k = some 3) (hj : j ≤ 4096) : Wp M pc L (.int (nI j) :: S) μ Q = Wp M (pc + 3) L (.ref μ.1.length :: S) (mNew μ (3, j, fun _ => none)) Q := wp_st hd rfl rfl rfl (by simp only [stepI, hk, xNewa]; rw [if_pos ⟨nI_lt0 (by omega), by rw [nI_clamp (by omega)]; exact hj⟩, nI_clamp (by omega)])
theorem wp_anew4 (hd : decode (mB M) pc = .ok (.anewarray k, 3)) (hk : lk2 cLk (mC M) k = some 2) (hj : j ≤ 4096) : Wp M pc L (.int (nI j) :: S) μ Q = Wp M (pc + 3) L (.ref μ.1.length :: S) (mNew μ (4, j, fun _ => none)) Q := wp_st hd rfl rfl rfl (by simp only [stepI, hk, xNewa]; rw [if_pos ⟨nI_lt0 (by omega), by rw [nI_clamp (by omega)]; exact hj⟩, nI_clamp (by omega)])
theorem callee_none {i : Instr} (h : (calleeOf M i).isNone = true) : calleeOf M i = none := by
  cases hc : calleeOf M i with
  | none => rfl
  | some x => rw [hc] at h; cases h
def iMax (x y : Int32) : Int32 := if x < y then y else x
def iMin (x y : Int32) : Int32 := if y < x then y else x
theorem wp_max (hd : decode (mB M) pc = .ok (.invokestatic k, 3)) (hc : (calleeOf M (.invokestatic k)).isNone = true) (hk : lk2 xMax (mC M) k = some ()) (hr : (Nat.ble 1 (mF M) && Nat.ble 40 (mW M)) = true) (h8 : (S.map fun v => v.category).sum ≤ 8) : Wp M pc L (.int v :: .int u :: S) μ Q = Wp M (pc + 3) L (.int (iMax u v) :: S) μ Q := by
  rw [Bool.and_eq_true] at hr
  refine wp_st hd rfl rfl (callee_none hc) ?_
  simp only [stepI, xStat, hk, if_true]
  rw [if_pos ⟨Nat.le_of_ble_eq_true hr.1, Nat.le_of_ble_eq_true hr.2, h8⟩]
  rfl
theorem wp_min (hd : decode (mB M) pc = .ok (.invokestatic k, 3)) (hc : (calleeOf M (.invokestatic k)).isNone = true) (hn : lk2 xMax (mC M) k = none) (hk : lk2 xMin (mC M) k = some ()) (hr : (Nat.ble 1 (mF M) && Nat.ble 40 (mW M)) = true) (h8 : (S.map fun v => v.category).sum ≤ 8) : Wp M pc L (.int v :: .int u :: S) μ Q = Wp M (pc + 3) L (.int (iMin u v) :: S) μ Q := by
  rw [Bool.and_eq_true] at hr
  refine wp_st hd rfl rfl (callee_none hc) ?_
  simp only [stepI, xStat, hn, hk, if_true]
  rw [if_neg (by simp), if_pos ⟨Nat.le_of_ble_eq_true hr.1, Nat.le_of_ble_eq_true hr.2, h8⟩]
  rfl
theorem cpy_ok (hd : decode (mB M) pc = .ok (.invokestatic k, 3)) (hc : (calleeOf M (.invokestatic k)).isNone = true) (hn : lk2 xMax (mC M) k = none) (hn2 : lk2 xMin (mC M) k = none) (hk : lk2 xAcp (mC M) k = some ()) (hr : (Nat.ble 1 (mF M) && Nat.ble 60 (mW M)) = true) {pc' : Nat} {L' : Ls} {S' : List Value} {μ' : Mm} (h : xCopy pc L S μ = some (pc', L', S', μ')) : Wp M pc L S μ Q = Wp M pc' L' S' μ' Q := by
  rw [Bool.and_eq_true] at hr
  refine wp_st hd rfl rfl (callee_none hc) ?_
  simp only [stepI, xStat, hn, hn2, hk]
  rw [if_neg (by simp), if_neg (by simp), if_pos trivial, if_pos ⟨Nat.le_of_ble_eq_true hr.1, Nat.le_of_ble_eq_true hr.2⟩]
  exact h
theorem wp_acp {sp dp n : Nat} (hd : decode (mB M) pc = .ok (.invokestatic k, 3)) (hc : (calleeOf M (.invokestatic k)).isNone = true) (hn : lk2 xMax (mC M) k = none) (hn2 : lk2 xMin (mC M) k = none) (hk : lk2 xAcp (mC M) k = some ()) (hr : (Nat.ble 1 (mF M) && Nat.ble 60 (mW M)) = true) (h8 : (S.map fun v => v.category).sum ≤ 8)
    (ha : atg G a = 0) (hb : atg G b = 0) (h1 : sp + n ≤ aln G a) (h2 : dp + n ≤ aln G b) (h3 : sp < 2147483648) (h4 : dp < 2147483648) (h5 : n < 2147483648) : Wp M pc L (.int (nI n) :: .int (nI dp) :: .ref b :: .int (nI sp) :: .ref a :: S) (G, m, ml) Q = Wp M (pc + 3) L S (G, va_up m b (va_cpy (m a) (m b) sp dp n), ml) Q := by
  obtain ⟨ta, hta, a1, a2, -⟩ := atg_get ha (by decide)
  obtain ⟨tb, htb, b1, b2, -⟩ := atg_get hb (by decide)
  refine cpy_ok hd hc hn hn2 hk hr ?_
  simp only [xCopy, hta, htb, nI_clamp (show sp < 2 ^ 31 by omega), nI_clamp (show dp < 2 ^ 31 by omega), nI_clamp (show n < 2 ^ 31 by omega)]
  rw [if_pos ⟨h8, ⟨nI_lt0 h3, nI_lt0 h4, nI_lt0 h5⟩, by rw [a2]; exact h1, by rw [b2]; exact h2⟩, if_pos ⟨a1, b1⟩]
theorem wp_acpJ {sp dp n : Nat} (hd : decode (mB M) pc = .ok (.invokestatic k, 3)) (hc : (calleeOf M (.invokestatic k)).isNone = true) (hn : lk2 xMax (mC M) k = none) (hn2 : lk2 xMin (mC M) k = none) (hk : lk2 xAcp (mC M) k = some ()) (hr : (Nat.ble 1 (mF M) && Nat.ble 60 (mW M)) = true) (h8 : (S.map fun v => v.category).sum ≤ 8)
    (ha : atg G a = 2) (hb : atg G b = 2) (h1 : sp + n ≤ aln G a) (h2 : dp + n ≤ aln G b) (h3 : sp < 2147483648) (h4 : dp < 2147483648) (h5 : n < 2147483648) : Wp M pc L (.int (nI n) :: .int (nI dp) :: .ref b :: .int (nI sp) :: .ref a :: S) (G, m, ml) Q = Wp M (pc + 3) L S (G, m, va_up ml b (va_cpy (ml a) (ml b) sp dp n)) Q := by
  obtain ⟨ta, hta, a1, a2, -⟩ := atg_get ha (by decide)
  obtain ⟨tb, htb, b1, b2, -⟩ := atg_get hb (by decide)
  refine cpy_ok hd hc hn hn2 hk hr ?_
  simp only [xCopy, hta, htb, nI_clamp (show sp < 2 ^ 31 by omega), nI_clamp (show dp < 2 ^ 31 by omega), nI_clamp (show n < 2 ^ 31 by omega)]
  rw [if_pos ⟨h8, ⟨nI_lt0 h3, nI_lt0 h4, nI_lt0 h5⟩, by rw [a2]; exact h1, by rw [b2]; exact h2⟩, if_neg (by omega), if_pos ⟨a1, b1⟩]
theorem wp_oin (hd : decode (mB M) pc = .ok (.invokespecial k, 3)) (hc : (calleeOf M (.invokespecial k)).isNone = true) (hk : lk2 xOin (mC M) k = some ()) (hr : (Nat.ble 1 (mF M) && Nat.ble 40 (mW M)) = true) (h8 : (S.map fun v => v.category).sum ≤ 8) : Wp M pc L (.ref a :: S) μ Q = Wp M (pc + 3) L S μ Q := by
  rw [Bool.and_eq_true] at hr
  refine wp_st hd rfl rfl (callee_none hc) ?_
  simp only [stepI, xSpec, hk, if_true]
  rw [if_pos ⟨Nat.le_of_ble_eq_true hr.1, Nat.le_of_ble_eq_true hr.2, h8⟩]
theorem wp_ixo (hd : decode (mB M) pc = .ok (.invokevirtual 62, 3)) (hc : (calleeOf M (.invokevirtual 62)).isNone = true) (h5 : mC M = 5) (hr : (Nat.ble 7 (mF M) && Nat.ble 180 (mW M)) = true) (h8 : (S.map fun v => v.category).sum ≤ 8) : Wp M pc L (.int v :: .ref 1 :: S) μ Q = Wp M (pc + 3) L (.int (kIx v) :: S) μ Q := by
  rw [Bool.and_eq_true] at hr
  refine wp_st hd rfl rfl (callee_none hc) ?_
  simp only [stepI, xVirt]
  rw [if_pos ⟨h5, trivial⟩]
  rw [if_pos ⟨Nat.le_of_ble_eq_true hr.1, Nat.le_of_ble_eq_true hr.2, h8⟩]
theorem rcv_of {vs : List Value} (ha : atg G a = mC N + 10) (h9 : mC N + 10 ≠ 99) : rcvB N (.ref a :: vs) (G, m, ml) = true := by
  obtain ⟨t, ht, h1, -⟩ := atg_get ha h9
  unfold rcvB
  rw [Bool.or_eq_true]
  right
  simp only [ht]
  rw [h1]
  exact Nat.beq_refl _
theorem lk2_at {α : Type} {c i : Nat} {x : α} : ∀ {l : List (Nat × Nat × α)} (p : Nat), (l.take p).all (fun e => !(Nat.beq e.1 c && Nat.beq e.2.1 i)) = true → l[p]? = some (c, i, x) → lk2 l c i = some x
  | [], p, _, h => by simp at h
  | e :: l, 0, _, h => by
    rw [List.getElem?_cons_zero] at h
    cases h
    unfold lk2
    rw [if_pos (by simp)]
  | e :: l, p + 1, h1, h => by
    rw [List.getElem?_cons_succ] at h
    rw [List.take_succ_cons, List.all_cons, Bool.and_eq_true] at h1
    unfold lk2
    rw [if_neg (fun hq => by have := h1.1; rw [hq] at this; cases this)]
    exact lk2_at p h1.2 h
theorem callee_V (h : lk2 mLk (mC M) k = some N) (hk : mK N = 0) : calleeOf M (.invokevirtual k) = some (N, false) := by simp only [calleeOf, h, if_pos hk]
theorem callee_S (h : lk2 mLk (mC M) k = some N) (hk : mK N = 1) (hc : mC N = mC M) : calleeOf M (.invokestatic k) = some (N, false) := by simp only [calleeOf, h, if_pos (And.intro hk hc)]
theorem callee_I (h : lk2 mLk (mC M) k = some N) (hk : mK N = 2) : calleeOf M (.invokespecial k) = some (N, false) := by simp only [calleeOf, h, if_pos hk]
theorem callee_SN (h0 : lk2 mLk (mC M) k = none) (h : lk2 nLk (mC M) k = some N) (hk : mK N = 1) : calleeOf M (.invokestatic k) = some (N, true) := by simp only [calleeOf, h0, h, if_pos hk]
theorem callee_IN (h0 : lk2 mLk (mC M) k = none) (h : lk2 nLk (mC M) k = some N) (hk : mK N = 2) : calleeOf M (.invokespecial k) = some (N, true) := by simp only [calleeOf, h0, h, if_pos hk]
theorem lk2_none {α : Type} {l : List (Nat × Nat × α)} {c i : Nat} (h : l.all (fun e => !(Nat.beq e.1 c && Nat.beq e.2.1 i)) = true) : lk2 l c i = none := by
  cases hq : lk2 l c i with
  | none => rfl
  | some x =>
    have := List.all_eq_true.mp h _ (lk2_mem hq)
    simp at this
theorem i32_of {u : Int32} {k : Nat} (hk : k < 2147483648) (h : u.toInt = k) : u = nI k := Int32.toInt_inj.mp (by rw [h, nI_toInt (by omega)])
end WX
