theorem exec_mono1 : ∀ (n : Nat) (M : MI) (pc : Nat) (L : Ls) (S : List Value) (μ : Mm) (x : Option Value × Mm), exec n M pc L S μ = some x → exec (n + 1) M pc L S μ = some x := by
  intro n
  induction n with
  | zero =>
    intro M pc L S μ x h
    cases h
  | succ n ih =>
    intro M pc L S μ x h
    unfold exec at h ⊢
    split at h
    · cases h
    · rename_i i len hd
      split at h
      · rename_i hlen
        rw [if_pos hlen]
        split at h
        · exact h
        · exact h
        · exact h
        · rename_i n1 n2 n3
          split at h
          · rename_i N nb hca
            split at h
            · rename_i hc
              split at h
              · rename_i r μ1 hex
                have h1 := ih _ _ _ _ _ _ hex
                have h2 := ih _ _ _ _ _ _ h
                rw [if_pos hc]
                simp only [h1, h2]
              · cases h
            · cases h
          · rename_i hca
            split at h
            · rename_i pc1 L1 S1 μ1 hst
              have h2 := ih _ _ _ _ _ _ h
              exact h2
            · cases h
      · cases h
theorem exec_mono {n k : Nat} {M : MI} {pc : Nat} {L : Ls} {S : List Value} {μ : Mm} {x : Option Value × Mm} (h : exec n M pc L S μ = some x) (hk : n ≤ k) : exec k M pc L S μ = some x := by
  obtain ⟨d, rfl⟩ : ∃ d, k = n + d := ⟨k - n, by omega⟩
  clear hk
  induction d with
  | zero => exact h
  | succ d ih => exact exec_mono1 _ _ _ _ _ _ _ ih
def Wp (M : MI) (pc : Nat) (L : Ls) (S : List Value) (μ : Mm) (Q : Option Value → Mm → Prop) : Prop := ∃ n r μ', exec n M pc L S μ = some (r, μ') ∧ Q r μ'
def Rn (N : MI) (vs : List Value) (μ : Mm) (x : Option Value × Mm) : Prop := ∃ n, exec n N 0 (ent vs (mL N)) [] μ = some x
theorem Rn.uniq {N : MI} {vs : List Value} {μ : Mm} {x y : Option Value × Mm} (h1 : Rn N vs μ x) (h2 : Rn N vs μ y) : x = y := by
  obtain ⟨n, h1⟩ := h1
  obtain ⟨k, h2⟩ := h2
  have a := exec_mono h1 (Nat.le_max_left n k)
  have b := exec_mono h2 (Nat.le_max_right n k)
  exact Option.some.inj (a.symm.trans b)
noncomputable def res (N : MI) (vs : List Value) (μ : Mm) : Option (Option Value × Mm) := @dite _ (∃ x, Rn N vs μ x) (Classical.propDecidable _) (fun h => some (Classical.choose h)) (fun _ => none)
theorem res_eq {N : MI} {vs : List Value} {μ : Mm} {x : Option Value × Mm} : res N vs μ = some x ↔ Rn N vs μ x := by
  unfold res
  constructor
  · intro h
    split at h
    · rename_i hx
      have := Classical.choose_spec hx
      cases h
      exact this
    · cases h
  · intro h
    have hx : ∃ x, Rn N vs μ x := ⟨x, h⟩
    rw [dif_pos hx]
    rw [Rn.uniq (Classical.choose_spec hx) h]
theorem res_of {N : MI} {vs : List Value} {μ : Mm} {x : Option Value × Mm} (h : Wp N 0 (ent vs (mL N)) [] μ (fun r μ' => (r, μ') = x)) : res N vs μ = some x := by
  obtain ⟨n, r, μ', h1, h2⟩ := h
  exact res_eq.mpr ⟨n, by rw [h1, h2]⟩
theorem res_ex {N : MI} {vs : List Value} {μ : Mm} {P : Option Value → Mm → Prop} (h : Wp N 0 (ent vs (mL N)) [] μ P) : ∃ r μ', res N vs μ = some (r, μ') ∧ P r μ' := by
  obtain ⟨n, r, μ', h1, h2⟩ := h
  exact ⟨r, μ', res_eq.mpr ⟨n, h1⟩, h2⟩
def WpR (o : Option (Option Value × Mm)) (K : Option Value → Mm → Prop) : Prop := match o with
  | some x => K x.1 x.2
  | none => False
theorem WpR_some {r : Option Value} {μ : Mm} {K : Option Value → Mm → Prop} : WpR (some (r, μ)) K = K r μ := rfl
def isRt (i : Instr) : Bool := match i with
  | .ireturn | .lreturn | .return_ => true
  | _ => false
section WW
variable {M N : MI} {pc pc' len : Nat} {L L' : Ls} {S S' : List Value} {μ μ' : Mm} {Q : Option Value → Mm → Prop} {i : Instr}
theorem exec_st {n : Nat} (hd : decode (mB M) pc = .ok (i, len)) (hl : lenOk i len = true) (hr : isRt i = false) (hc : calleeOf M i = none) (hs : stepI M i pc L S μ = some (pc', L', S', μ')) : exec (n + 1) M pc L S μ = exec n M pc' L' S' μ' := by
  conv => lhs; unfold exec
  rw [hd]
  simp only [if_pos hl]
  split
  · cases hr
  · cases hr
  · cases hr
  · rw [hc]
    simp only [hs]
theorem wp_st (hd : decode (mB M) pc = .ok (i, len)) (hl : lenOk i len = true) (hr : isRt i = false) (hc : calleeOf M i = none) (hs : stepI M i pc L S μ = some (pc', L', S', μ')) : Wp M pc L S μ Q = Wp M pc' L' S' μ' Q := by
  apply propext
  constructor
  · rintro ⟨n, r, μ2, h1, h2⟩
    cases n with
    | zero => cases h1
    | succ n =>
      rw [exec_st hd hl hr hc hs] at h1
      exact ⟨n, r, μ2, h1, h2⟩
  · rintro ⟨n, r, μ2, h1, h2⟩
    exact ⟨n + 1, r, μ2, by rw [exec_st hd hl hr hc hs]; exact h1, h2⟩
theorem wp_call {nb : Bool} (hd : decode (mB M) pc = .ok (i, 3)) (hl : lenOk i 3 = true) (hr : isRt i = false) (hc : calleeOf M i = some (N, nb)) {vs rest : List Value} (hS : S = vs.reverse ++ rest) (hn : vs.length = nAr N) (h8 : (rest.map fun v => v.category).sum ≤ 8) (hrm : rmOk M N = true) (hrc : rcvB N vs μ = true) (hsl : (slL vs).length ≤ mL N) :
    Wp M pc L S μ Q = WpR (res N vs μ) (fun r μ' => Wp M (pc + 3) L (r.toList ++ rest) μ' Q) := by
  have htk : (S.take (nAr N)).reverse = vs := by
    rw [hS, ← hn, List.take_left' (by simp), List.reverse_reverse]
  have hdr : S.drop (nAr N) = rest := by
    rw [hS, ← hn, List.drop_left' (by simp)]
  have hlen : nAr N ≤ S.length := by rw [hS, ← hn]; simp
  have key : ∀ n, exec (n + 1) M pc L S μ = (match exec n N 0 (ent vs (mL N)) [] μ with
      | some (r, μ') => exec n M (pc + 3) L (r.toList ++ rest) μ'
      | none => none) := by
    intro n
    conv => lhs; unfold exec
    rw [hd]
    simp only [if_pos hl]
    split
    · cases hr
    · cases hr
    · cases hr
    · rw [hc]
      simp only [htk, hdr]
      rw [if_pos ⟨hlen, h8, hrm, hrc, hsl⟩]
      cases exec n N 0 (ent vs (mL N)) [] μ <;> rfl
  apply propext
  constructor
  · rintro ⟨n, r, μ2, h1, h2⟩
    cases n with
    | zero => cases h1
    | succ n =>
      rw [key] at h1
      split at h1
      · rename_i r1 μ1 hx
        rw [res_eq.mpr ⟨n, hx⟩]
        exact ⟨n, r, μ2, h1, h2⟩
      · cases h1
  · intro h
    unfold WpR at h
    split at h
    · rename_i x hx
      obtain ⟨n1, hn1⟩ := res_eq.mp hx
      obtain ⟨n2, r, μ2, h1, h2⟩ := h
      refine ⟨max n1 n2 + 1, r, μ2, ?_, h2⟩
      rw [key, exec_mono hn1 (Nat.le_max_left n1 n2)]
      exact exec_mono h1 (Nat.le_max_right n1 n2)
    · exact h.elim
theorem wp_iret {v : Int32} {ty : FieldType} (hd : decode (mB M) pc = .ok (.ireturn, 1)) (ht : mR M = some ty) (hv : retOk ty v = true) : Wp M pc L [.int v] μ Q = Q (some (.int v)) μ := by
  have key : ∀ n, exec (n + 1) M pc L [.int v] μ = some (some (.int v), μ) := by
    intro n
    conv => lhs; unfold exec
    rw [hd]
    simp only [lenOk, ht, hv]
    rfl
  apply propext
  constructor
  · rintro ⟨n, r, μ2, h1, h2⟩
    cases n with
    | zero => cases h1
    | succ n => rw [key] at h1; cases h1; exact h2
  · intro h
    exact ⟨1, _, _, key 0, h⟩
theorem wp_lret {v : Int64} (hd : decode (mB M) pc = .ok (.lreturn, 1)) (ht : mR M = some .long) : Wp M pc L [.long v] μ Q = Q (some (.long v)) μ := by
  have key : ∀ n, exec (n + 1) M pc L [.long v] μ = some (some (.long v), μ) := by
    intro n
    conv => lhs; unfold exec
    rw [hd]
    simp only [lenOk, ht]
    rfl
  apply propext
  constructor
  · rintro ⟨n, r, μ2, h1, h2⟩
    cases n with
    | zero => cases h1
    | succ n => rw [key] at h1; cases h1; exact h2
  · intro h
    exact ⟨1, _, _, key 0, h⟩
theorem wp_vret (hd : decode (mB M) pc = .ok (.return_, 1)) (ht : mR M = none) : Wp M pc L [] μ Q = Q none μ := by
  have key : ∀ n, exec (n + 1) M pc L [] μ = some (none, μ) := by
    intro n
    conv => lhs; unfold exec
    rw [hd]
    simp only [lenOk, ht]
    rfl
  apply propext
  constructor
  · rintro ⟨n, r, μ2, h1, h2⟩
    cases n with
    | zero => cases h1
    | succ n => rw [key] at h1; cases h1; exact h2
  · intro h
    exact ⟨1, _, _, key 0, h⟩
theorem Wp.mono {P : Option Value → Mm → Prop} (h : Wp M pc L S μ P) (hq : ∀ r μ', P r μ' → Q r μ') : Wp M pc L S μ Q := by
  obtain ⟨n, r, μ', h1, h2⟩ := h
  exact ⟨n, r, μ', h1, hq _ _ h2⟩
end WW

/-! what the cells are, as numbers -/
def atg (G : List AT) (a : Nat) : Nat := (G.getD a (99, 0, fun _ => none)).1
def aln (G : List AT) (a : Nat) : Nat := (G.getD a (99, 0, fun _ => none)).2.1
def rfn (G : List AT) (a k : Nat) : Nat := ((G.getD a (99, 0, fun _ => none)).2.2 k).getD 0
theorem atg_get {G : List AT} {a g : Nat} (h : atg G a = g) (hg : g ≠ 99) : ∃ t, G[a]? = some t ∧ t.1 = g ∧ t.2.1 = aln G a ∧ ∀ k, 0 < rfn G a k → t.2.2 k = some (rfn G a k) := by
  by_cases hl : a < G.length
  · refine ⟨G[a], List.getElem?_eq_getElem hl, ?_, ?_, ?_⟩
    · rw [← h]; simp [atg, List.getD_eq_getElem?_getD, hl]
    · simp [aln, List.getD_eq_getElem?_getD, hl]
    · intro k hk
      have e : rfn G a k = (G[a].2.2 k).getD 0 := by simp [rfn, List.getD_eq_getElem?_getD, hl]
      rw [e] at hk ⊢
      cases hx : G[a].2.2 k with
      | none => rw [hx] at hk; cases hk
      | some q => rfl
  · exfalso
    apply hg
    rw [← h]
    simp [atg, List.getD_eq_getElem?_getD, List.getElem?_eq_none (Nat.not_lt.mp hl)]
section WV
variable {M N : MI} {pc len : Nat} {L : Ls} {S : List Value} {G : List AT} {m : Nat → Nat → Int32} {ml : Nat → Nat → Int64} {Q : Option Value → Mm → Prop} {a k ci f j x : Nat}
theorem wp_getI (hd : decode (mB M) pc = .ok (.getfield k, 3)) (hlk : lk2 fLk (mC M) k = some (ci, f)) (hf : (!(Nat.beq (fTy ci f) 2) && Nat.blt f (nF ci) && Nat.blt ci 8) = true) (ha : atg G a = ci + 10) : Wp M pc L (.ref a :: S) (G, m, ml) Q = Wp M (pc + 3) L (.int (m a f) :: S) (G, m, ml) Q := by
  simp only [Bool.and_eq_true, Bool.not_eq_true', Nat.blt_eq] at hf
  have h2 : fTy ci f ≠ 2 := fun h => by rw [h] at hf; exact absurd hf.1.1 (by decide)
  obtain ⟨t, ht, h1, -, -⟩ := atg_get ha (by omega)
  refine wp_st hd rfl rfl rfl ?_
  simp only [stepI, hlk, xGet, ht]
  rw [if_pos ⟨h1, hf.1.2⟩]
  simp [fV, h2]
theorem wp_getR (hd : decode (mB M) pc = .ok (.getfield k, 3)) (hlk : lk2 fLk (mC M) k = some (ci, f)) (hf : (Nat.beq (fTy ci f) 2 && Nat.blt f (nF ci) && Nat.blt ci 8) = true) (ha : atg G a = ci + 10) (hr : 0 < rfn G a f) : Wp M pc L (.ref a :: S) (G, m, ml) Q = Wp M (pc + 3) L (.ref (rfn G a f) :: S) (G, m, ml) Q := by
  simp only [Bool.and_eq_true, Nat.blt_eq] at hf
  have h2 : fTy ci f = 2 := Nat.eq_of_beq_eq_true hf.1.1
  obtain ⟨t, ht, h1, -, h3⟩ := atg_get ha (by omega)
  refine wp_st hd rfl rfl rfl ?_
  simp only [stepI, hlk, xGet, ht]
  rw [if_pos ⟨h1, hf.1.2⟩]
  simp [fV, h2, h3 f hr, rfV]
theorem wp_putI {v : Int32} (hd : decode (mB M) pc = .ok (.putfield k, 3)) (hlk : lk2 fLk (mC M) k = some (ci, f)) (hf : (Nat.beq (fTy ci f) 0 && Nat.blt f (nF ci) && Nat.blt ci 8 && finB M ci f) = true) (ha : atg G a = ci + 10) : Wp M pc L (.int v :: .ref a :: S) (G, m, ml) Q = Wp M (pc + 3) L S (G, up2 m a f v, ml) Q := by
  simp only [Bool.and_eq_true, Nat.blt_eq] at hf
  have h2 : fTy ci f = 0 := Nat.eq_of_beq_eq_true hf.1.1.1
  obtain ⟨t, ht, h1, -, -⟩ := atg_get ha (by omega)
  refine wp_st hd rfl rfl rfl ?_
  simp only [stepI, hlk, xPut, ht]
  rw [if_pos ⟨h1, hf.1.1.2, hf.2, Or.inl h2⟩]
theorem wp_putZ {v : Int32} (hd : decode (mB M) pc = .ok (.putfield k, 3)) (hlk : lk2 fLk (mC M) k = some (ci, f)) (hf : (Nat.beq (fTy ci f) 1 && Nat.blt f (nF ci) && Nat.blt ci 8 && finB M ci f) = true) (ha : atg G a = ci + 10) (hv : v = 0 ∨ v = 1) : Wp M pc L (.int v :: .ref a :: S) (G, m, ml) Q = Wp M (pc + 3) L S (G, up2 m a f v, ml) Q := by
  simp only [Bool.and_eq_true, Nat.blt_eq] at hf
  have h2 : fTy ci f = 1 := Nat.eq_of_beq_eq_true hf.1.1.1
  obtain ⟨t, ht, h1, -, -⟩ := atg_get ha (by omega)
  refine wp_st hd rfl rfl rfl ?_
  simp only [stepI, hlk, xPut, ht]
  rw [if_pos ⟨h1, hf.1.1.2, hf.2, Or.inr ⟨h2, hv⟩⟩]
theorem wp_putR {q : Nat} (hd : decode (mB M) pc = .ok (.putfield k, 3)) (hlk : lk2 fLk (mC M) k = some (ci, f)) (hf : (Nat.beq (fTy ci f) 2 && Nat.blt f (nF ci) && Nat.blt ci 8 && finB M ci f) = true) {t : AT} (ht : G[a]? = some t) (ha : t.1 = ci + 10) : Wp M pc L (.ref q :: .ref a :: S) (G, m, ml) Q = Wp M (pc + 3) L S (G.set a (t.1, t.2.1, va_up t.2.2 f (some q)), m, ml) Q := by
  simp only [Bool.and_eq_true, Nat.blt_eq] at hf
  have h2 : fTy ci f = 2 := Nat.eq_of_beq_eq_true hf.1.1.1
  refine wp_st hd rfl rfl rfl ?_
  simp only [stepI, hlk, xPut, ht]
  rw [if_pos ⟨ha, hf.1.1.2, hf.2, h2⟩]
theorem nI_lt0 {j : Nat} (h : j < 2147483648) : ¬ nI j < 0 := nI_pos (by omega)
theorem wp_iald (hd : decode (mB M) pc = .ok (.iaload, 1)) (ha : atg G a = 0) (hj : j < aln G a) (hb : j < 2147483648) : Wp M pc L (.int (nI j) :: .ref a :: S) (G, m, ml) Q = Wp M (pc + 1) L (.int (m a j) :: S) (G, m, ml) Q := by
  obtain ⟨t, ht, h1, h2, -⟩ := atg_get ha (by decide)
  refine wp_st hd rfl rfl rfl ?_
  simp only [stepI, xAld, ht]
  rw [if_pos ⟨Or.inl h1, nI_lt0 hb, by rw [nI_clamp (by omega), h2]; exact hj⟩, nI_clamp (by omega)]
theorem wp_sld (hd : decode (mB M) pc = .ok (.iaload, 1)) (ha : atg G 0 = 5) (hj : j < aln G 0) (hb : j < 2147483648) : Wp M pc L (.int (nI j) :: .ref 0 :: S) (G, m, ml) Q = Wp M (pc + 1) L (.int (m 0 j) :: S) (G, m, ml) Q := by
  obtain ⟨t, ht, h1, h2, -⟩ := atg_get ha (by decide)
  refine wp_st hd rfl rfl rfl ?_
  simp only [stepI, xAld, ht]
  rw [if_pos ⟨Or.inr ⟨trivial, trivial⟩, nI_lt0 hb, by rw [nI_clamp (by omega), h2]; exact hj⟩, nI_clamp (by omega)]
theorem wp_slen (hd : decode (mB M) pc = .ok (.arraylength, 1)) (ha : atg G 0 = 5) : Wp M pc L (.ref 0 :: S) (G, m, ml) Q = Wp M (pc + 1) L (.int (nI (aln G 0)) :: S) (G, m, ml) Q := by
  obtain ⟨t, ht, h1, h2, -⟩ := atg_get ha (by decide)
  refine wp_st hd rfl rfl rfl ?_
  simp only [stepI, xLen, ht, h2]
  rfl
theorem wp_cald (hd : decode (mB M) pc = .ok (.caload, 1)) (ha : atg G a = 1) (hj : j < aln G a) (hb : j < 2147483648) : Wp M pc L (.int (nI j) :: .ref a :: S) (G, m, ml) Q = Wp M (pc + 1) L (.int (m a j) :: S) (G, m, ml) Q := by
  obtain ⟨t, ht, h1, h2, -⟩ := atg_get ha (by decide)
  refine wp_st hd rfl rfl rfl ?_
  simp only [stepI, xAld, ht]
  rw [if_pos ⟨Or.inl h1, nI_lt0 hb, by rw [nI_clamp (by omega), h2]; exact hj⟩, nI_clamp (by omega)]
theorem wp_iast {v : Int32} (hd : decode (mB M) pc = .ok (.iastore, 1)) (ha : atg G a = 0) (hj : j < aln G a) (hb : j < 2147483648) : Wp M pc L (.int v :: .int (nI j) :: .ref a :: S) (G, m, ml) Q = Wp M (pc + 1) L S (G, up2 m a j v, ml) Q := by
  obtain ⟨t, ht, h1, h2, -⟩ := atg_get ha (by decide)
  refine wp_st hd rfl rfl rfl ?_
  simp only [stepI, xAst, ht]
  rw [if_pos ⟨h1, nI_lt0 hb, by rw [nI_clamp (by omega), h2]; exact hj⟩, nI_clamp (by omega)]
theorem wp_cast (hd : decode (mB M) pc = .ok (.castore, 1)) (ha : atg G a = 1) (hj : j < aln G a) (hb : j < 2147483648) (hx : x < 65536) : Wp M pc L (.int (nI x) :: .int (nI j) :: .ref a :: S) (G, m, ml) Q = Wp M (pc + 1) L S (G, up2 m a j (nI x), ml) Q := by
  obtain ⟨t, ht, h1, h2, -⟩ := atg_get ha (by decide)
  refine wp_st hd rfl rfl rfl ?_
  simp only [stepI, xAst, ht]
  rw [if_pos ⟨h1, nI_lt0 hb, by rw [nI_clamp (by omega), h2]; exact hj⟩, nI_clamp (by omega)]
  have : vp_nar .char (nI x) = nI x := by unfold vp_nar; rw [(pk_charN hx).1]
  rw [this]
theorem wp_lald (hd : decode (mB M) pc = .ok (.laload, 1)) (ha : atg G a = 2) (hj : j < aln G a) (hb : j < 2147483648) : Wp M pc L (.int (nI j) :: .ref a :: S) (G, m, ml) Q = Wp M (pc + 1) L (.long (ml a j) :: S) (G, m, ml) Q := by
  obtain ⟨t, ht, h1, h2, -⟩ := atg_get ha (by decide)
  refine wp_st hd rfl rfl rfl ?_
  simp only [stepI, xLald, ht]
  rw [if_pos ⟨h1, nI_lt0 hb, by rw [nI_clamp (by omega), h2]; exact hj⟩, nI_clamp (by omega)]
theorem wp_last {v : Int64} (hd : decode (mB M) pc = .ok (.lastore, 1)) (ha : atg G a = 2) (hj : j < aln G a) (hb : j < 2147483648) : Wp M pc L (.long v :: .int (nI j) :: .ref a :: S) (G, m, ml) Q = Wp M (pc + 1) L S (G, m, up2J ml a j v) Q := by
  obtain ⟨t, ht, h1, h2, -⟩ := atg_get ha (by decide)
  refine wp_st hd rfl rfl rfl ?_
  simp only [stepI, xLast, ht]
  rw [if_pos ⟨h1, nI_lt0 hb, by rw [nI_clamp (by omega), h2]; exact hj⟩, nI_clamp (by omega)]
theorem wp_aald (hd : decode (mB M) pc = .ok (.aaload, 1)) (ha : atg G a = 3 ∨ atg G a = 4) (hj : j < aln G a) (hb : j < 2147483648) (hr : 0 < rfn G a j) : Wp M pc L (.int (nI j) :: .ref a :: S) (G, m, ml) Q = Wp M (pc + 1) L (.ref (rfn G a j) :: S) (G, m, ml) Q := by
  obtain ⟨t, ht, h1, h2, h3⟩ := atg_get (g := atg G a) rfl (by omega)
  refine wp_st hd rfl rfl rfl ?_
  simp only [stepI, xAald, ht]
  rw [if_pos ⟨by rw [h1]; exact ha, nI_lt0 hb, by rw [nI_clamp (by omega), h2]; exact hj⟩, nI_clamp (by omega), h3 j hr]
  rfl
theorem wp_idiv {u v : Int32} (hd : decode (mB M) pc = .ok (.idiv, 1)) (hv : ¬ v = 0) {μ : Mm} : Wp M pc L (.int v :: .int u :: S) μ Q = Wp M (pc + 1) L (.int (u / v) :: S) μ Q := wp_st hd rfl rfl rfl (by simp only [stepI, x2d, if_neg hv])
theorem wp_irem {u v : Int32} (hd : decode (mB M) pc = .ok (.irem, 1)) (hv : ¬ v = 0) {μ : Mm} : Wp M pc L (.int v :: .int u :: S) μ Q = Wp M (pc + 1) L (.int (u - u / v * v) :: S) μ Q := wp_st hd rfl rfl rfl (by simp only [stepI, x2d, if_neg hv])
theorem wp_go {off : Int} {tgt : Nat} {μ : Mm} (hd : decode (mB M) pc = .ok (.goto off, 3)) (ht : (pc : Int) + off = (tgt : Int)) : Wp M pc L S μ Q = Wp M tgt L S μ Q := wp_st hd rfl rfl rfl (by simp only [stepI, xGo]; rw [if_pos (by omega), ht]; rfl)
theorem wp_if {c : ClassFile.Cond} {off : Int} {tgt : Nat} {u : Int32} {P : Prop} {dP : Decidable P} {μ : Mm} (hd : decode (mB M) pc = .ok (.ifCond c off, 3)) (ht : (pc : Int) + off = (tgt : Int)) (hP : cmpP c u 0 = decide P) : Wp M pc L (.int u :: S) μ Q = if P then Wp M tgt L S μ Q else Wp M (pc + 3) L S μ Q := by
  by_cases h : P
  · rw [if_pos h]
    exact wp_st hd rfl rfl rfl (by simp only [stepI, xIf]; rw [if_pos (by omega), if_pos (by rw [hP]; exact decide_eq_true h), ht]; rfl)
  · rw [if_neg h]
    exact wp_st hd rfl rfl rfl (by simp only [stepI, xIf]; rw [if_pos (by omega), if_neg (by rw [hP]; exact fun q => h (of_decide_eq_true q))])
theorem wp_ic {c : ClassFile.Cond} {off : Int} {tgt : Nat} {u v : Int32} {P : Prop} {dP : Decidable P} {μ : Mm} (hd : decode (mB M) pc = .ok (.if_icmp c off, 3)) (ht : (pc : Int) + off = (tgt : Int)) (hP : cmpP c u v = decide P) : Wp M pc L (.int v :: .int u :: S) μ Q = if P then Wp M tgt L S μ Q else Wp M (pc + 3) L S μ Q := by
  by_cases h : P
  · rw [if_pos h]
    exact wp_st hd rfl rfl rfl (by simp only [stepI, xIf]; rw [if_pos (by omega), if_pos (by rw [hP]; exact decide_eq_true h), ht]; rfl)
  · rw [if_neg h]
    exact wp_st hd rfl rfl rfl (by simp only [stepI, xIf]; rw [if_pos (by omega), if_neg (by rw [hP]; exact fun q => h (of_decide_eq_true q))])
end WV
