def Cx (E : EE) (p : Program) (s : State) (m : MethodId) (args : Array Value) (meth : Method) (c : Code) (R : Room) (M : MI) : Prop :=
  p.tables.exec = Jvm.exec ∧ c.code = mB M ∧ c.maxLocals = mL M ∧ meth.sig.returnType = mR M ∧ s.vm.findClass (RC (mC M)) = some m.cls ∧ (∀ w ∈ wsL_law, w.before args s = true) ∧ meth.locks = false ∧ (mK M = 2 → meth.name = "<init>") ∧ KK E s ∧ mF M ≤ R.frames ∧ mW M ≤ R.locals ∧ eb E < eB E
def Wg (E : EE) (p : Program) (l : Launch) (e : Env) (R : Room) (s : State) (m : MethodId) (args : Array Value) (below : List Frame) (meth : Method) (c : Code) (Q : State → Prop) (M : MI) (cells slots pc : Nat) (L : Ls) (S : List Value) (μ : Mm) : Prop :=
  ∀ (H : Heap) (locs : List Loc) (ls : Array Slot), Rl E μ H → (∀ q ∈ locs, eB E ≤ q.base) → LR E ls (mL M) L → H.size = s.heap.size + cells → W p l e R s m args below meth c H locs cells slots Q (F0 m pc ls (S.map (cvv E)))
def lvl (E : EE) (L : Ls) : List (Nat × Value) := (List.range L.length).filterMap (fun i => match L[i]? with
  | some (some v) => some (i, cvv E v)
  | _ => none)
theorem lvl_mem {E : EE} {L : Ls} {i : Nat} {v : Value} (h : L[i]? = some (some v)) : (i, cvv E v) ∈ lvl E L := by
  refine List.mem_filterMap.mpr ⟨i, List.mem_range.mpr (List.getElem?_eq_some_iff.mp h).1, ?_⟩
  rw [h]
theorem lvl_has {E : EE} {ls : Array Slot} {n : Nat} {L : Ls} (h : LR E ls n L) : lv_has ls n (lvl E L) := by
  refine ⟨h.1, h.2.2.1, fun q hq => ?_⟩
  obtain ⟨i, -, hi⟩ := List.mem_filterMap.mp hq
  split at hi
  · rename_i v hv
    cases hi
    exact h.2.2.2 i v hv
  · cases hi
theorem clrAt_len (L : Ls) (j : Nat) : (clrAt L j).length = L.length := by
  unfold clrAt
  split <;> simp
theorem st1_len (L : Ls) (k : Nat) (v : Value) : (st1 L k v).length = L.length := by
  unfold st1
  split
  · simp
  · rw [List.length_set, clrAt_len]
theorem st1_at {L : Ls} {k i : Nat} {v w : Value} (hk : k < L.length) (h : (st1 L k v)[i]? = some (some w)) : (i = k ∧ w = v) ∨ (i ≠ k ∧ L[i]? = some (some w) ∧ ¬ (i + 1 = k ∧ w.category = 2)) := by
  by_cases hi : i = k
  · left
    subst hi
    refine ⟨rfl, ?_⟩
    unfold st1 at h
    split at h
    · rw [List.getElem?_set_self hk] at h
      cases h
      rfl
    · rw [List.getElem?_set_self (by rw [clrAt_len]; exact hk)] at h
      cases h
      rfl
  · right
    refine ⟨hi, ?_⟩
    unfold st1 at h
    split at h
    · rw [List.getElem?_set_ne (Ne.symm hi)] at h
      exact ⟨h, fun q => by omega⟩
    · rename_i j
      rw [List.getElem?_set_ne (Ne.symm hi)] at h
      unfold clrAt at h
      split at h
      · rename_i o ho
        by_cases hj : i = j
        · subst hj
          rw [List.getElem?_set_self (List.getElem?_eq_some_iff.mp ho).1] at h
          have h := Option.some.inj h
          unfold clr at h
          split at h
          · rename_i w'
            split at h
            · cases h
            · rename_i hc
              cases h
              exact ⟨ho, fun q => hc q.2⟩
          · cases h
        · rw [List.getElem?_set_ne (Ne.symm hj)] at h
          exact ⟨h, fun q => by omega⟩
      · rename_i ho
        refine ⟨h, fun q => ?_⟩
        have : i = j := by omega
        subst this
        rw [ho] at h
        cases h
theorem LR_st1 {E : EE} {ls ls' : Array Slot} {n k : Nat} {L : Ls} {v v' : Value} (h : LR E ls n L) (hk : k < L.length) (hv : cvv E v = v') (h' : lv_has ls' n ((k, v') :: (lvl E L).filter (fun q => !(q.1 == k) && !(q.1 + 1 == k && q.2.category == 2)))) : LR E ls' n (st1 L k v) := by
  refine ⟨h'.1, by rw [st1_len]; exact h.2.1, h'.2.1, fun i w hw => ?_⟩
  rcases st1_at hk hw with ⟨rfl, rfl⟩ | ⟨h1, h2, h3⟩
  · rw [hv]
    exact h'.2.2 _ List.mem_cons_self
  · refine h'.2.2 (i, cvv E w) (List.mem_cons_of_mem _ (List.mem_filter.mpr ⟨lvl_mem h2, ?_⟩))
    simp only [cvv_cat]
    simp [h1]
    by_cases a : i + 1 = k
    · exact Or.inr (fun b => h3 ⟨a, b⟩)
    · exact Or.inl a
theorem lvl_get {E : EE} {L : Ls} {i : Nat} {v : Value} (h : L[i]? = some (some v)) : ∃ k : Nat, (lvl E L)[k]? = some (i, cvv E v) := List.getElem?_of_mem (lvl_mem h)
theorem mk_S {B : Nat} {H : Heap} {locs : List Loc} (h : ∀ q ∈ locs, B ≤ q.base) : va_S (fun q => B ≤ q) H H locs := ⟨Nat.le_refl _, fun _ _ _ => rfl, h⟩

section SS
variable {E : EE} {p : Program} {l : Launch} {e : Env} {R : Room} {s : State} {m : MethodId} {args : Array Value} {below : List Frame} {meth : Method} {c : Code} {Q : State → Prop} {M : MI} {cells slots pc pc' len : Nat} {L L' : Ls} {S S' : List Value} {μ μ' : Mm}
theorem g_pure (k : Wg E p l e R s m args below meth c Q M (cells + (μ.1.length - μ.1.length)) (slots + (slt μ - slt μ)) pc' L' S' μ)
    (row : ∀ (H : Heap) (locs : List Loc) (ls : Array Slot), LR E ls (mL M) L → (∀ ls', LR E ls' (mL M) L' → W p l e R s m args below meth c H locs cells slots Q (F0 m pc' ls' (S'.map (cvv E)))) → W p l e R s m args below meth c H locs cells slots Q (F0 m pc ls (S.map (cvv E)))) : Wg E p l e R s m args below meth c Q M cells slots pc L S μ := by
  intro H locs ls hR hl hL hz
  rw [Nat.sub_self, Nat.sub_self] at k
  exact row H locs ls hL (fun ls' hL' => k H locs ls' hR hl hL' hz)
theorem zs_iconst {n : Int} (hC : Cx E p s m args meth c R M) (hd : decode (mB M) pc = .ok (.iconst n, len)) (hlen : lenOk (.iconst n) len = true) (hs : stepI M (.iconst n) pc L S μ = some (pc', L', S', μ')) (hcl : cells + (μ'.1.length - μ.1.length) ≤ R.cells) (hsl : slots + (slt μ' - slt μ) ≤ R.slots) (k : Wg E p l e R s m args below meth c Q M (cells + (μ'.1.length - μ.1.length)) (slots + (slt μ' - slt μ)) pc' L' S' μ') : Wg E p l e R s m args below meth c Q M cells slots pc L S μ := by
  obtain ⟨hx, hb, hml, hr, hown, hts, hlocks, hini, hK, hF, hW, hbl⟩ := hC
  obtain rfl := Nat.eq_of_beq_eq_true hlen
  cases hs
  exact g_pure k (fun H locs ls hL kk => lv_iconst hx hb hd rfl (kk ls hL))
theorem zs_bipush {n : Int} (hC : Cx E p s m args meth c R M) (hd : decode (mB M) pc = .ok (.bipush n, len)) (hlen : lenOk (.bipush n) len = true) (hs : stepI M (.bipush n) pc L S μ = some (pc', L', S', μ')) (hcl : cells + (μ'.1.length - μ.1.length) ≤ R.cells) (hsl : slots + (slt μ' - slt μ) ≤ R.slots) (k : Wg E p l e R s m args below meth c Q M (cells + (μ'.1.length - μ.1.length)) (slots + (slt μ' - slt μ)) pc' L' S' μ') : Wg E p l e R s m args below meth c Q M cells slots pc L S μ := by
  obtain ⟨hx, hb, hml, hr, hown, hts, hlocks, hini, hK, hF, hW, hbl⟩ := hC
  obtain rfl := Nat.eq_of_beq_eq_true hlen
  cases hs
  exact g_pure k (fun H locs ls hL kk => lv_bipush hx hb hd rfl (kk ls hL))
theorem zs_sipush {n : Int} (hC : Cx E p s m args meth c R M) (hd : decode (mB M) pc = .ok (.sipush n, len)) (hlen : lenOk (.sipush n) len = true) (hs : stepI M (.sipush n) pc L S μ = some (pc', L', S', μ')) (hcl : cells + (μ'.1.length - μ.1.length) ≤ R.cells) (hsl : slots + (slt μ' - slt μ) ≤ R.slots) (k : Wg E p l e R s m args below meth c Q M (cells + (μ'.1.length - μ.1.length)) (slots + (slt μ' - slt μ)) pc' L' S' μ') : Wg E p l e R s m args below meth c Q M cells slots pc L S μ := by
  obtain ⟨hx, hb, hml, hr, hown, hts, hlocks, hini, hK, hF, hW, hbl⟩ := hC
  obtain rfl := Nat.eq_of_beq_eq_true hlen
  cases hs
  exact g_pure k (fun H locs ls hL kk => lv_sipush hx hb hd rfl (kk ls hL))
theorem zs_lconst {n : Fin 2} (hC : Cx E p s m args meth c R M) (hd : decode (mB M) pc = .ok (.lconst n, len)) (hlen : lenOk (.lconst n) len = true) (hs : stepI M (.lconst n) pc L S μ = some (pc', L', S', μ')) (hcl : cells + (μ'.1.length - μ.1.length) ≤ R.cells) (hsl : slots + (slt μ' - slt μ) ≤ R.slots) (k : Wg E p l e R s m args below meth c Q M (cells + (μ'.1.length - μ.1.length)) (slots + (slt μ' - slt μ)) pc' L' S' μ') : Wg E p l e R s m args below meth c Q M cells slots pc L S μ := by
  obtain ⟨hx, hb, hml, hr, hown, hts, hlocks, hini, hK, hF, hW, hbl⟩ := hC
  obtain rfl := Nat.eq_of_beq_eq_true hlen
  cases hs
  exact g_pure k (fun H locs ls hL kk => lv_lconst hx hb hd rfl (kk ls hL))
theorem zs_iload_n {n : Fin 4} (hC : Cx E p s m args meth c R M) (hd : decode (mB M) pc = .ok (.iload_n n, len)) (hlen : lenOk (.iload_n n) len = true) (hs : stepI M (.iload_n n) pc L S μ = some (pc', L', S', μ')) (hcl : cells + (μ'.1.length - μ.1.length) ≤ R.cells) (hsl : slots + (slt μ' - slt μ) ≤ R.slots) (k : Wg E p l e R s m args below meth c Q M (cells + (μ'.1.length - μ.1.length)) (slots + (slt μ' - slt μ)) pc' L' S' μ') : Wg E p l e R s m args below meth c Q M cells slots pc L S μ := by
  obtain ⟨hx, hb, hml, hr, hown, hts, hlocks, hini, hK, hF, hW, hbl⟩ := hC
  obtain rfl := Nat.eq_of_beq_eq_true hlen
  simp only [stepI, xLd] at hs
  split at hs
  · rename_i v hv
    split at hs
    · cases hs
      cases v with
      | int x => exact g_pure k (fun H locs ls hL kk => lv_iload_n hx hb hd rfl (hL.2.2.2 _ _ hv) (kk ls hL))
      | _ => rename_i hp; simp [isI] at hp
    · cases hs
  · cases hs
theorem zs_iload {n : Nat} (hC : Cx E p s m args meth c R M) (hd : decode (mB M) pc = .ok (.iload n, len)) (hlen : lenOk (.iload n) len = true) (hs : stepI M (.iload n) pc L S μ = some (pc', L', S', μ')) (hcl : cells + (μ'.1.length - μ.1.length) ≤ R.cells) (hsl : slots + (slt μ' - slt μ) ≤ R.slots) (k : Wg E p l e R s m args below meth c Q M (cells + (μ'.1.length - μ.1.length)) (slots + (slt μ' - slt μ)) pc' L' S' μ') : Wg E p l e R s m args below meth c Q M cells slots pc L S μ := by
  obtain ⟨hx, hb, hml, hr, hown, hts, hlocks, hini, hK, hF, hW, hbl⟩ := hC
  obtain rfl := Nat.eq_of_beq_eq_true hlen
  simp only [stepI, xLd] at hs
  split at hs
  · rename_i v hv
    split at hs
    · cases hs
      cases v with
      | int x => exact g_pure k (fun H locs ls hL kk => lv_iload hx hb hd (hL.2.2.2 _ _ hv) (kk ls hL))
      | _ => rename_i hp; simp [isI] at hp
    · cases hs
  · cases hs
theorem zs_lload_n {n : Fin 4} (hC : Cx E p s m args meth c R M) (hd : decode (mB M) pc = .ok (.lload_n n, len)) (hlen : lenOk (.lload_n n) len = true) (hs : stepI M (.lload_n n) pc L S μ = some (pc', L', S', μ')) (hcl : cells + (μ'.1.length - μ.1.length) ≤ R.cells) (hsl : slots + (slt μ' - slt μ) ≤ R.slots) (k : Wg E p l e R s m args below meth c Q M (cells + (μ'.1.length - μ.1.length)) (slots + (slt μ' - slt μ)) pc' L' S' μ') : Wg E p l e R s m args below meth c Q M cells slots pc L S μ := by
  obtain ⟨hx, hb, hml, hr, hown, hts, hlocks, hini, hK, hF, hW, hbl⟩ := hC
  obtain rfl := Nat.eq_of_beq_eq_true hlen
  simp only [stepI, xLd] at hs
  split at hs
  · rename_i v hv
    split at hs
    · cases hs
      cases v with
      | long x => exact g_pure k (fun H locs ls hL kk => lv_lload_n hx hb hd rfl (hL.2.2.2 _ _ hv) (kk ls hL))
      | _ => rename_i hp; simp [isJ] at hp
    · cases hs
  · cases hs
theorem zs_lload {n : Nat} (hC : Cx E p s m args meth c R M) (hd : decode (mB M) pc = .ok (.lload n, len)) (hlen : lenOk (.lload n) len = true) (hs : stepI M (.lload n) pc L S μ = some (pc', L', S', μ')) (hcl : cells + (μ'.1.length - μ.1.length) ≤ R.cells) (hsl : slots + (slt μ' - slt μ) ≤ R.slots) (k : Wg E p l e R s m args below meth c Q M (cells + (μ'.1.length - μ.1.length)) (slots + (slt μ' - slt μ)) pc' L' S' μ') : Wg E p l e R s m args below meth c Q M cells slots pc L S μ := by
  obtain ⟨hx, hb, hml, hr, hown, hts, hlocks, hini, hK, hF, hW, hbl⟩ := hC
  obtain rfl := Nat.eq_of_beq_eq_true hlen
  simp only [stepI, xLd] at hs
  split at hs
  · rename_i v hv
    split at hs
    · cases hs
      cases v with
      | long x => exact g_pure k (fun H locs ls hL kk => lv_lload hx hb hd (hL.2.2.2 _ _ hv) (kk ls hL))
      | _ => rename_i hp; simp [isJ] at hp
    · cases hs
  · cases hs
theorem zs_aload_n {n : Fin 4} (hC : Cx E p s m args meth c R M) (hd : decode (mB M) pc = .ok (.aload_n n, len)) (hlen : lenOk (.aload_n n) len = true) (hs : stepI M (.aload_n n) pc L S μ = some (pc', L', S', μ')) (hcl : cells + (μ'.1.length - μ.1.length) ≤ R.cells) (hsl : slots + (slt μ' - slt μ) ≤ R.slots) (k : Wg E p l e R s m args below meth c Q M (cells + (μ'.1.length - μ.1.length)) (slots + (slt μ' - slt μ)) pc' L' S' μ') : Wg E p l e R s m args below meth c Q M cells slots pc L S μ := by
  obtain ⟨hx, hb, hml, hr, hown, hts, hlocks, hini, hK, hF, hW, hbl⟩ := hC
  obtain rfl := Nat.eq_of_beq_eq_true hlen
  simp only [stepI, xLd] at hs
  split at hs
  · rename_i v hv
    split at hs
    · cases hs
      cases v with
      | ref x => exact g_pure k (fun H locs ls hL kk => lv_aload_n hx hb hd rfl (hL.2.2.2 _ _ hv) (kk ls hL))
      | _ => rename_i hp; simp [isA] at hp
    · cases hs
  · cases hs
theorem zs_aload {n : Nat} (hC : Cx E p s m args meth c R M) (hd : decode (mB M) pc = .ok (.aload n, len)) (hlen : lenOk (.aload n) len = true) (hs : stepI M (.aload n) pc L S μ = some (pc', L', S', μ')) (hcl : cells + (μ'.1.length - μ.1.length) ≤ R.cells) (hsl : slots + (slt μ' - slt μ) ≤ R.slots) (k : Wg E p l e R s m args below meth c Q M (cells + (μ'.1.length - μ.1.length)) (slots + (slt μ' - slt μ)) pc' L' S' μ') : Wg E p l e R s m args below meth c Q M cells slots pc L S μ := by
  obtain ⟨hx, hb, hml, hr, hown, hts, hlocks, hini, hK, hF, hW, hbl⟩ := hC
  obtain rfl := Nat.eq_of_beq_eq_true hlen
  simp only [stepI, xLd] at hs
  split at hs
  · rename_i v hv
    split at hs
    · cases hs
      cases v with
      | ref x => exact g_pure k (fun H locs ls hL kk => lv_aload hx hb hd (hL.2.2.2 _ _ hv) (kk ls hL))
      | _ => rename_i hp; simp [isA] at hp
    · cases hs
  · cases hs
theorem zs_istore_n {n : Fin 4} (hC : Cx E p s m args meth c R M) (hd : decode (mB M) pc = .ok (.istore_n n, len)) (hlen : lenOk (.istore_n n) len = true) (hs : stepI M (.istore_n n) pc L S μ = some (pc', L', S', μ')) (hcl : cells + (μ'.1.length - μ.1.length) ≤ R.cells) (hsl : slots + (slt μ' - slt μ) ≤ R.slots) (k : Wg E p l e R s m args below meth c Q M (cells + (μ'.1.length - μ.1.length)) (slots + (slt μ' - slt μ)) pc' L' S' μ') : Wg E p l e R s m args below meth c Q M cells slots pc L S μ := by
  obtain ⟨hx, hb, hml, hr, hown, hts, hlocks, hini, hK, hF, hW, hbl⟩ := hC
  obtain rfl := Nat.eq_of_beq_eq_true hlen
  simp only [stepI, xSt] at hs
  split at hs
  · rename_i v S1
    split at hs
    · rename_i hp
      cases hs
      cases v with
      | int x => exact g_pure k (fun H locs ls hL kk => lv_istore_n hx hb hd rfl (lvl_has hL) (by rw [← hL.2.1]; exact hp.2) rfl (fun ls' h' => kk ls' (LR_st1 hL hp.2 rfl h')))
      | _ => simp [isI] at hp
    · cases hs
  · cases hs
theorem zs_istore {n : Nat} (hC : Cx E p s m args meth c R M) (hd : decode (mB M) pc = .ok (.istore n, len)) (hlen : lenOk (.istore n) len = true) (hs : stepI M (.istore n) pc L S μ = some (pc', L', S', μ')) (hcl : cells + (μ'.1.length - μ.1.length) ≤ R.cells) (hsl : slots + (slt μ' - slt μ) ≤ R.slots) (k : Wg E p l e R s m args below meth c Q M (cells + (μ'.1.length - μ.1.length)) (slots + (slt μ' - slt μ)) pc' L' S' μ') : Wg E p l e R s m args below meth c Q M cells slots pc L S μ := by
  obtain ⟨hx, hb, hml, hr, hown, hts, hlocks, hini, hK, hF, hW, hbl⟩ := hC
  obtain rfl := Nat.eq_of_beq_eq_true hlen
  simp only [stepI, xSt] at hs
  split at hs
  · rename_i v S1
    split at hs
    · rename_i hp
      cases hs
      cases v with
      | int x => exact g_pure k (fun H locs ls hL kk => lv_istore hx hb hd (lvl_has hL) (by rw [← hL.2.1]; exact hp.2) rfl (fun ls' h' => kk ls' (LR_st1 hL hp.2 rfl h')))
      | _ => simp [isI] at hp
    · cases hs
  · cases hs
theorem zs_astore_n {n : Fin 4} (hC : Cx E p s m args meth c R M) (hd : decode (mB M) pc = .ok (.astore_n n, len)) (hlen : lenOk (.astore_n n) len = true) (hs : stepI M (.astore_n n) pc L S μ = some (pc', L', S', μ')) (hcl : cells + (μ'.1.length - μ.1.length) ≤ R.cells) (hsl : slots + (slt μ' - slt μ) ≤ R.slots) (k : Wg E p l e R s m args below meth c Q M (cells + (μ'.1.length - μ.1.length)) (slots + (slt μ' - slt μ)) pc' L' S' μ') : Wg E p l e R s m args below meth c Q M cells slots pc L S μ := by
  obtain ⟨hx, hb, hml, hr, hown, hts, hlocks, hini, hK, hF, hW, hbl⟩ := hC
  obtain rfl := Nat.eq_of_beq_eq_true hlen
  simp only [stepI, xSt] at hs
  split at hs
  · rename_i v S1
    split at hs
    · rename_i hp
      cases hs
      cases v with
      | ref x => exact g_pure k (fun H locs ls hL kk => lv_astore_n hx hb hd rfl (lvl_has hL) (by rw [← hL.2.1]; exact hp.2) rfl (fun ls' h' => kk ls' (LR_st1 hL hp.2 rfl h')))
      | _ => simp [isA] at hp
    · cases hs
  · cases hs
theorem zs_astore {n : Nat} (hC : Cx E p s m args meth c R M) (hd : decode (mB M) pc = .ok (.astore n, len)) (hlen : lenOk (.astore n) len = true) (hs : stepI M (.astore n) pc L S μ = some (pc', L', S', μ')) (hcl : cells + (μ'.1.length - μ.1.length) ≤ R.cells) (hsl : slots + (slt μ' - slt μ) ≤ R.slots) (k : Wg E p l e R s m args below meth c Q M (cells + (μ'.1.length - μ.1.length)) (slots + (slt μ' - slt μ)) pc' L' S' μ') : Wg E p l e R s m args below meth c Q M cells slots pc L S μ := by
  obtain ⟨hx, hb, hml, hr, hown, hts, hlocks, hini, hK, hF, hW, hbl⟩ := hC
  obtain rfl := Nat.eq_of_beq_eq_true hlen
  simp only [stepI, xSt] at hs
  split at hs
  · rename_i v S1
    split at hs
    · rename_i hp
      cases hs
      cases v with
      | ref x => exact g_pure k (fun H locs ls hL kk => lv_astore hx hb hd (lvl_has hL) (by rw [← hL.2.1]; exact hp.2) rfl (fun ls' h' => kk ls' (LR_st1 hL hp.2 rfl h')))
      | _ => simp [isA] at hp
    · cases hs
  · cases hs
theorem zs_iinc {i : Nat} {n : Int} (hC : Cx E p s m args meth c R M) (hd : decode (mB M) pc = .ok (.iinc i n, len)) (hlen : lenOk (.iinc i n) len = true) (hs : stepI M (.iinc i n) pc L S μ = some (pc', L', S', μ')) (hcl : cells + (μ'.1.length - μ.1.length) ≤ R.cells) (hsl : slots + (slt μ' - slt μ) ≤ R.slots) (k : Wg E p l e R s m args below meth c Q M (cells + (μ'.1.length - μ.1.length)) (slots + (slt μ' - slt μ)) pc' L' S' μ') : Wg E p l e R s m args below meth c Q M cells slots pc L S μ := by
  obtain ⟨hx, hb, hml, hr, hown, hts, hlocks, hini, hK, hF, hW, hbl⟩ := hC
  obtain rfl := Nat.eq_of_beq_eq_true hlen
  simp only [stepI] at hs
  split at hs
  · rename_i x hv
    cases hs
    obtain ⟨q, hq⟩ := lvl_get (E := E) hv
    have hlt := (List.getElem?_eq_some_iff.mp hv).1
    exact g_pure k (fun H locs ls hL kk => lv_iinc hx hb hd (lvl_has hL) hq rfl (by rw [← hL.2.1]; exact hlt) rfl (fun ls' h' => kk ls' (LR_st1 hL hlt rfl h')))
  · cases hs
theorem zs_iadd (hC : Cx E p s m args meth c R M) (hd : decode (mB M) pc = .ok (.iadd, len)) (hlen : lenOk (.iadd) len = true) (hs : stepI M (.iadd) pc L S μ = some (pc', L', S', μ')) (hcl : cells + (μ'.1.length - μ.1.length) ≤ R.cells) (hsl : slots + (slt μ' - slt μ) ≤ R.slots) (k : Wg E p l e R s m args below meth c Q M (cells + (μ'.1.length - μ.1.length)) (slots + (slt μ' - slt μ)) pc' L' S' μ') : Wg E p l e R s m args below meth c Q M cells slots pc L S μ := by
  obtain ⟨hx, hb, hml, hr, hown, hts, hlocks, hini, hK, hF, hW, hbl⟩ := hC
  obtain rfl := Nat.eq_of_beq_eq_true hlen
  simp only [stepI, x2] at hs
  split at hs
  · cases hs
    exact g_pure k (fun H locs ls hL kk => lv_iadd hx hb hd (kk ls hL))
  · cases hs
theorem zs_isub (hC : Cx E p s m args meth c R M) (hd : decode (mB M) pc = .ok (.isub, len)) (hlen : lenOk (.isub) len = true) (hs : stepI M (.isub) pc L S μ = some (pc', L', S', μ')) (hcl : cells + (μ'.1.length - μ.1.length) ≤ R.cells) (hsl : slots + (slt μ' - slt μ) ≤ R.slots) (k : Wg E p l e R s m args below meth c Q M (cells + (μ'.1.length - μ.1.length)) (slots + (slt μ' - slt μ)) pc' L' S' μ') : Wg E p l e R s m args below meth c Q M cells slots pc L S μ := by
  obtain ⟨hx, hb, hml, hr, hown, hts, hlocks, hini, hK, hF, hW, hbl⟩ := hC
  obtain rfl := Nat.eq_of_beq_eq_true hlen
  simp only [stepI, x2] at hs
  split at hs
  · cases hs
    exact g_pure k (fun H locs ls hL kk => lv_isub hx hb hd (kk ls hL))
  · cases hs
theorem zs_imul (hC : Cx E p s m args meth c R M) (hd : decode (mB M) pc = .ok (.imul, len)) (hlen : lenOk (.imul) len = true) (hs : stepI M (.imul) pc L S μ = some (pc', L', S', μ')) (hcl : cells + (μ'.1.length - μ.1.length) ≤ R.cells) (hsl : slots + (slt μ' - slt μ) ≤ R.slots) (k : Wg E p l e R s m args below meth c Q M (cells + (μ'.1.length - μ.1.length)) (slots + (slt μ' - slt μ)) pc' L' S' μ') : Wg E p l e R s m args below meth c Q M cells slots pc L S μ := by
  obtain ⟨hx, hb, hml, hr, hown, hts, hlocks, hini, hK, hF, hW, hbl⟩ := hC
  obtain rfl := Nat.eq_of_beq_eq_true hlen
  simp only [stepI, x2] at hs
  split at hs
  · cases hs
    exact g_pure k (fun H locs ls hL kk => lv_imul hx hb hd (kk ls hL))
  · cases hs
theorem zs_iand (hC : Cx E p s m args meth c R M) (hd : decode (mB M) pc = .ok (.iand, len)) (hlen : lenOk (.iand) len = true) (hs : stepI M (.iand) pc L S μ = some (pc', L', S', μ')) (hcl : cells + (μ'.1.length - μ.1.length) ≤ R.cells) (hsl : slots + (slt μ' - slt μ) ≤ R.slots) (k : Wg E p l e R s m args below meth c Q M (cells + (μ'.1.length - μ.1.length)) (slots + (slt μ' - slt μ)) pc' L' S' μ') : Wg E p l e R s m args below meth c Q M cells slots pc L S μ := by
  obtain ⟨hx, hb, hml, hr, hown, hts, hlocks, hini, hK, hF, hW, hbl⟩ := hC
  obtain rfl := Nat.eq_of_beq_eq_true hlen
  simp only [stepI, x2] at hs
  split at hs
  · cases hs
    exact g_pure k (fun H locs ls hL kk => lv_iand hx hb hd (kk ls hL))
  · cases hs
theorem zs_ior (hC : Cx E p s m args meth c R M) (hd : decode (mB M) pc = .ok (.ior, len)) (hlen : lenOk (.ior) len = true) (hs : stepI M (.ior) pc L S μ = some (pc', L', S', μ')) (hcl : cells + (μ'.1.length - μ.1.length) ≤ R.cells) (hsl : slots + (slt μ' - slt μ) ≤ R.slots) (k : Wg E p l e R s m args below meth c Q M (cells + (μ'.1.length - μ.1.length)) (slots + (slt μ' - slt μ)) pc' L' S' μ') : Wg E p l e R s m args below meth c Q M cells slots pc L S μ := by
  obtain ⟨hx, hb, hml, hr, hown, hts, hlocks, hini, hK, hF, hW, hbl⟩ := hC
  obtain rfl := Nat.eq_of_beq_eq_true hlen
  simp only [stepI, x2] at hs
  split at hs
  · cases hs
    exact g_pure k (fun H locs ls hL kk => lv_ior hx hb hd (kk ls hL))
  · cases hs
theorem zs_ixor (hC : Cx E p s m args meth c R M) (hd : decode (mB M) pc = .ok (.ixor, len)) (hlen : lenOk (.ixor) len = true) (hs : stepI M (.ixor) pc L S μ = some (pc', L', S', μ')) (hcl : cells + (μ'.1.length - μ.1.length) ≤ R.cells) (hsl : slots + (slt μ' - slt μ) ≤ R.slots) (k : Wg E p l e R s m args below meth c Q M (cells + (μ'.1.length - μ.1.length)) (slots + (slt μ' - slt μ)) pc' L' S' μ') : Wg E p l e R s m args below meth c Q M cells slots pc L S μ := by
  obtain ⟨hx, hb, hml, hr, hown, hts, hlocks, hini, hK, hF, hW, hbl⟩ := hC
  obtain rfl := Nat.eq_of_beq_eq_true hlen
  simp only [stepI, x2] at hs
  split at hs
  · cases hs
    exact g_pure k (fun H locs ls hL kk => lv_ixor hx hb hd (kk ls hL))
  · cases hs
theorem zs_ishl (hC : Cx E p s m args meth c R M) (hd : decode (mB M) pc = .ok (.ishl, len)) (hlen : lenOk (.ishl) len = true) (hs : stepI M (.ishl) pc L S μ = some (pc', L', S', μ')) (hcl : cells + (μ'.1.length - μ.1.length) ≤ R.cells) (hsl : slots + (slt μ' - slt μ) ≤ R.slots) (k : Wg E p l e R s m args below meth c Q M (cells + (μ'.1.length - μ.1.length)) (slots + (slt μ' - slt μ)) pc' L' S' μ') : Wg E p l e R s m args below meth c Q M cells slots pc L S μ := by
  obtain ⟨hx, hb, hml, hr, hown, hts, hlocks, hini, hK, hF, hW, hbl⟩ := hC
  obtain rfl := Nat.eq_of_beq_eq_true hlen
  simp only [stepI, x2] at hs
  split at hs
  · cases hs
    exact g_pure k (fun H locs ls hL kk => lv_ishl hx hb hd (kk ls hL))
  · cases hs
theorem zs_ishr (hC : Cx E p s m args meth c R M) (hd : decode (mB M) pc = .ok (.ishr, len)) (hlen : lenOk (.ishr) len = true) (hs : stepI M (.ishr) pc L S μ = some (pc', L', S', μ')) (hcl : cells + (μ'.1.length - μ.1.length) ≤ R.cells) (hsl : slots + (slt μ' - slt μ) ≤ R.slots) (k : Wg E p l e R s m args below meth c Q M (cells + (μ'.1.length - μ.1.length)) (slots + (slt μ' - slt μ)) pc' L' S' μ') : Wg E p l e R s m args below meth c Q M cells slots pc L S μ := by
  obtain ⟨hx, hb, hml, hr, hown, hts, hlocks, hini, hK, hF, hW, hbl⟩ := hC
  obtain rfl := Nat.eq_of_beq_eq_true hlen
  simp only [stepI, x2] at hs
  split at hs
  · cases hs
    exact g_pure k (fun H locs ls hL kk => lv_ishr hx hb hd (kk ls hL))
  · cases hs
theorem zs_ladd (hC : Cx E p s m args meth c R M) (hd : decode (mB M) pc = .ok (.ladd, len)) (hlen : lenOk (.ladd) len = true) (hs : stepI M (.ladd) pc L S μ = some (pc', L', S', μ')) (hcl : cells + (μ'.1.length - μ.1.length) ≤ R.cells) (hsl : slots + (slt μ' - slt μ) ≤ R.slots) (k : Wg E p l e R s m args below meth c Q M (cells + (μ'.1.length - μ.1.length)) (slots + (slt μ' - slt μ)) pc' L' S' μ') : Wg E p l e R s m args below meth c Q M cells slots pc L S μ := by
  obtain ⟨hx, hb, hml, hr, hown, hts, hlocks, hini, hK, hF, hW, hbl⟩ := hC
  obtain rfl := Nat.eq_of_beq_eq_true hlen
  simp only [stepI, x2J] at hs
  split at hs
  · cases hs
    exact g_pure k (fun H locs ls hL kk => lv_ladd hx hb hd (kk ls hL))
  · cases hs
theorem zs_lmul (hC : Cx E p s m args meth c R M) (hd : decode (mB M) pc = .ok (.lmul, len)) (hlen : lenOk (.lmul) len = true) (hs : stepI M (.lmul) pc L S μ = some (pc', L', S', μ')) (hcl : cells + (μ'.1.length - μ.1.length) ≤ R.cells) (hsl : slots + (slt μ' - slt μ) ≤ R.slots) (k : Wg E p l e R s m args below meth c Q M (cells + (μ'.1.length - μ.1.length)) (slots + (slt μ' - slt μ)) pc' L' S' μ') : Wg E p l e R s m args below meth c Q M cells slots pc L S μ := by
  obtain ⟨hx, hb, hml, hr, hown, hts, hlocks, hini, hK, hF, hW, hbl⟩ := hC
  obtain rfl := Nat.eq_of_beq_eq_true hlen
  simp only [stepI, x2J] at hs
  split at hs
  · cases hs
    exact g_pure k (fun H locs ls hL kk => lv_lmul hx hb hd (kk ls hL))
  · cases hs
theorem zs_land (hC : Cx E p s m args meth c R M) (hd : decode (mB M) pc = .ok (.land, len)) (hlen : lenOk (.land) len = true) (hs : stepI M (.land) pc L S μ = some (pc', L', S', μ')) (hcl : cells + (μ'.1.length - μ.1.length) ≤ R.cells) (hsl : slots + (slt μ' - slt μ) ≤ R.slots) (k : Wg E p l e R s m args below meth c Q M (cells + (μ'.1.length - μ.1.length)) (slots + (slt μ' - slt μ)) pc' L' S' μ') : Wg E p l e R s m args below meth c Q M cells slots pc L S μ := by
  obtain ⟨hx, hb, hml, hr, hown, hts, hlocks, hini, hK, hF, hW, hbl⟩ := hC
  obtain rfl := Nat.eq_of_beq_eq_true hlen
  simp only [stepI, x2J] at hs
  split at hs
  · cases hs
    exact g_pure k (fun H locs ls hL kk => lv_land hx hb hd (kk ls hL))
  · cases hs
theorem zs_lor (hC : Cx E p s m args meth c R M) (hd : decode (mB M) pc = .ok (.lor, len)) (hlen : lenOk (.lor) len = true) (hs : stepI M (.lor) pc L S μ = some (pc', L', S', μ')) (hcl : cells + (μ'.1.length - μ.1.length) ≤ R.cells) (hsl : slots + (slt μ' - slt μ) ≤ R.slots) (k : Wg E p l e R s m args below meth c Q M (cells + (μ'.1.length - μ.1.length)) (slots + (slt μ' - slt μ)) pc' L' S' μ') : Wg E p l e R s m args below meth c Q M cells slots pc L S μ := by
  obtain ⟨hx, hb, hml, hr, hown, hts, hlocks, hini, hK, hF, hW, hbl⟩ := hC
  obtain rfl := Nat.eq_of_beq_eq_true hlen
  simp only [stepI, x2J] at hs
  split at hs
  · cases hs
    exact g_pure k (fun H locs ls hL kk => lv_lor hx hb hd (kk ls hL))
  · cases hs
theorem zs_idiv (hC : Cx E p s m args meth c R M) (hd : decode (mB M) pc = .ok (.idiv, len)) (hlen : lenOk (.idiv) len = true) (hs : stepI M (.idiv) pc L S μ = some (pc', L', S', μ')) (hcl : cells + (μ'.1.length - μ.1.length) ≤ R.cells) (hsl : slots + (slt μ' - slt μ) ≤ R.slots) (k : Wg E p l e R s m args below meth c Q M (cells + (μ'.1.length - μ.1.length)) (slots + (slt μ' - slt μ)) pc' L' S' μ') : Wg E p l e R s m args below meth c Q M cells slots pc L S μ := by
  obtain ⟨hx, hb, hml, hr, hown, hts, hlocks, hini, hK, hF, hW, hbl⟩ := hC
  obtain rfl := Nat.eq_of_beq_eq_true hlen
  simp only [stepI, x2d] at hs
  split at hs
  · split at hs
    · cases hs
    · rename_i hne
      cases hs
      exact g_pure k (fun H locs ls hL kk => lv_idiv hx hb hd hne (kk ls hL))
  · cases hs
theorem zs_irem (hC : Cx E p s m args meth c R M) (hd : decode (mB M) pc = .ok (.irem, len)) (hlen : lenOk (.irem) len = true) (hs : stepI M (.irem) pc L S μ = some (pc', L', S', μ')) (hcl : cells + (μ'.1.length - μ.1.length) ≤ R.cells) (hsl : slots + (slt μ' - slt μ) ≤ R.slots) (k : Wg E p l e R s m args below meth c Q M (cells + (μ'.1.length - μ.1.length)) (slots + (slt μ' - slt μ)) pc' L' S' μ') : Wg E p l e R s m args below meth c Q M cells slots pc L S μ := by
  obtain ⟨hx, hb, hml, hr, hown, hts, hlocks, hini, hK, hF, hW, hbl⟩ := hC
  obtain rfl := Nat.eq_of_beq_eq_true hlen
  simp only [stepI, x2d] at hs
  split at hs
  · split at hs
    · cases hs
    · rename_i hne
      cases hs
      exact g_pure k (fun H locs ls hL kk => lv_irem hx hb hd hne (kk ls hL))
  · cases hs
theorem zs_lshl (hC : Cx E p s m args meth c R M) (hd : decode (mB M) pc = .ok (.lshl, len)) (hlen : lenOk (.lshl) len = true) (hs : stepI M (.lshl) pc L S μ = some (pc', L', S', μ')) (hcl : cells + (μ'.1.length - μ.1.length) ≤ R.cells) (hsl : slots + (slt μ' - slt μ) ≤ R.slots) (k : Wg E p l e R s m args below meth c Q M (cells + (μ'.1.length - μ.1.length)) (slots + (slt μ' - slt μ)) pc' L' S' μ') : Wg E p l e R s m args below meth c Q M cells slots pc L S μ := by
  obtain ⟨hx, hb, hml, hr, hown, hts, hlocks, hini, hK, hF, hW, hbl⟩ := hC
  obtain rfl := Nat.eq_of_beq_eq_true hlen
  simp only [stepI] at hs
  split at hs
  · cases hs
    exact g_pure k (fun H locs ls hL kk => lv_lshl hx hb hd rfl (kk ls hL))
  · cases hs
theorem zs_lcmp (hC : Cx E p s m args meth c R M) (hd : decode (mB M) pc = .ok (.lcmp, len)) (hlen : lenOk (.lcmp) len = true) (hs : stepI M (.lcmp) pc L S μ = some (pc', L', S', μ')) (hcl : cells + (μ'.1.length - μ.1.length) ≤ R.cells) (hsl : slots + (slt μ' - slt μ) ≤ R.slots) (k : Wg E p l e R s m args below meth c Q M (cells + (μ'.1.length - μ.1.length)) (slots + (slt μ' - slt μ)) pc' L' S' μ') : Wg E p l e R s m args below meth c Q M cells slots pc L S μ := by
  obtain ⟨hx, hb, hml, hr, hown, hts, hlocks, hini, hK, hF, hW, hbl⟩ := hC
  obtain rfl := Nat.eq_of_beq_eq_true hlen
  simp only [stepI] at hs
  split at hs
  · cases hs
    exact g_pure k (fun H locs ls hL kk => W.lcmp hx hb hd (kk ls hL))
  · cases hs
theorem zs_i2l (hC : Cx E p s m args meth c R M) (hd : decode (mB M) pc = .ok (.i2l, len)) (hlen : lenOk (.i2l) len = true) (hs : stepI M (.i2l) pc L S μ = some (pc', L', S', μ')) (hcl : cells + (μ'.1.length - μ.1.length) ≤ R.cells) (hsl : slots + (slt μ' - slt μ) ≤ R.slots) (k : Wg E p l e R s m args below meth c Q M (cells + (μ'.1.length - μ.1.length)) (slots + (slt μ' - slt μ)) pc' L' S' μ') : Wg E p l e R s m args below meth c Q M cells slots pc L S μ := by
  obtain ⟨hx, hb, hml, hr, hown, hts, hlocks, hini, hK, hF, hW, hbl⟩ := hC
  obtain rfl := Nat.eq_of_beq_eq_true hlen
  simp only [stepI] at hs
  split at hs
  · cases hs
    exact g_pure k (fun H locs ls hL kk => lv_i2l hx hb hd rfl (kk ls hL))
  · cases hs
theorem zs_l2i (hC : Cx E p s m args meth c R M) (hd : decode (mB M) pc = .ok (.l2i, len)) (hlen : lenOk (.l2i) len = true) (hs : stepI M (.l2i) pc L S μ = some (pc', L', S', μ')) (hcl : cells + (μ'.1.length - μ.1.length) ≤ R.cells) (hsl : slots + (slt μ' - slt μ) ≤ R.slots) (k : Wg E p l e R s m args below meth c Q M (cells + (μ'.1.length - μ.1.length)) (slots + (slt μ' - slt μ)) pc' L' S' μ') : Wg E p l e R s m args below meth c Q M cells slots pc L S μ := by
  obtain ⟨hx, hb, hml, hr, hown, hts, hlocks, hini, hK, hF, hW, hbl⟩ := hC
  obtain rfl := Nat.eq_of_beq_eq_true hlen
  simp only [stepI] at hs
  split at hs
  · cases hs
    exact g_pure k (fun H locs ls hL kk => lv_l2i hx hb hd rfl (kk ls hL))
  · cases hs
theorem zs_i2b (hC : Cx E p s m args meth c R M) (hd : decode (mB M) pc = .ok (.i2b, len)) (hlen : lenOk (.i2b) len = true) (hs : stepI M (.i2b) pc L S μ = some (pc', L', S', μ')) (hcl : cells + (μ'.1.length - μ.1.length) ≤ R.cells) (hsl : slots + (slt μ' - slt μ) ≤ R.slots) (k : Wg E p l e R s m args below meth c Q M (cells + (μ'.1.length - μ.1.length)) (slots + (slt μ' - slt μ)) pc' L' S' μ') : Wg E p l e R s m args below meth c Q M cells slots pc L S μ := by
  obtain ⟨hx, hb, hml, hr, hown, hts, hlocks, hini, hK, hF, hW, hbl⟩ := hC
  obtain rfl := Nat.eq_of_beq_eq_true hlen
  simp only [stepI, x1] at hs
  split at hs
  · cases hs
    exact g_pure k (fun H locs ls hL kk => lv_i2b hx hb hd rfl (kk ls hL))
  · cases hs
theorem zs_i2s (hC : Cx E p s m args meth c R M) (hd : decode (mB M) pc = .ok (.i2s, len)) (hlen : lenOk (.i2s) len = true) (hs : stepI M (.i2s) pc L S μ = some (pc', L', S', μ')) (hcl : cells + (μ'.1.length - μ.1.length) ≤ R.cells) (hsl : slots + (slt μ' - slt μ) ≤ R.slots) (k : Wg E p l e R s m args below meth c Q M (cells + (μ'.1.length - μ.1.length)) (slots + (slt μ' - slt μ)) pc' L' S' μ') : Wg E p l e R s m args below meth c Q M cells slots pc L S μ := by
  obtain ⟨hx, hb, hml, hr, hown, hts, hlocks, hini, hK, hF, hW, hbl⟩ := hC
  obtain rfl := Nat.eq_of_beq_eq_true hlen
  simp only [stepI, x1] at hs
  split at hs
  · cases hs
    exact g_pure k (fun H locs ls hL kk => lv_i2s hx hb hd rfl (kk ls hL))
  · cases hs
theorem zs_i2c (hC : Cx E p s m args meth c R M) (hd : decode (mB M) pc = .ok (.i2c, len)) (hlen : lenOk (.i2c) len = true) (hs : stepI M (.i2c) pc L S μ = some (pc', L', S', μ')) (hcl : cells + (μ'.1.length - μ.1.length) ≤ R.cells) (hsl : slots + (slt μ' - slt μ) ≤ R.slots) (k : Wg E p l e R s m args below meth c Q M (cells + (μ'.1.length - μ.1.length)) (slots + (slt μ' - slt μ)) pc' L' S' μ') : Wg E p l e R s m args below meth c Q M cells slots pc L S μ := by
  obtain ⟨hx, hb, hml, hr, hown, hts, hlocks, hini, hK, hF, hW, hbl⟩ := hC
  obtain rfl := Nat.eq_of_beq_eq_true hlen
  simp only [stepI, x1] at hs
  split at hs
  · cases hs
    exact g_pure k (fun H locs ls hL kk => lv_i2c hx hb hd rfl (kk ls hL))
  · cases hs
theorem zs_dup (hC : Cx E p s m args meth c R M) (hd : decode (mB M) pc = .ok (.dup, len)) (hlen : lenOk (.dup) len = true) (hs : stepI M (.dup) pc L S μ = some (pc', L', S', μ')) (hcl : cells + (μ'.1.length - μ.1.length) ≤ R.cells) (hsl : slots + (slt μ' - slt μ) ≤ R.slots) (k : Wg E p l e R s m args below meth c Q M (cells + (μ'.1.length - μ.1.length)) (slots + (slt μ' - slt μ)) pc' L' S' μ') : Wg E p l e R s m args below meth c Q M cells slots pc L S μ := by
  obtain ⟨hx, hb, hml, hr, hown, hts, hlocks, hini, hK, hF, hW, hbl⟩ := hC
  obtain rfl := Nat.eq_of_beq_eq_true hlen
  simp only [stepI] at hs
  split at hs
  · split at hs
    · rename_i hc1
      cases hs
      exact g_pure k (fun H locs ls hL kk => lv_dup hx hb hd (by rw [cvv_cat]; exact hc1) (kk ls hL))
    · cases hs
  · cases hs
theorem zs_pop (hC : Cx E p s m args meth c R M) (hd : decode (mB M) pc = .ok (.pop, len)) (hlen : lenOk (.pop) len = true) (hs : stepI M (.pop) pc L S μ = some (pc', L', S', μ')) (hcl : cells + (μ'.1.length - μ.1.length) ≤ R.cells) (hsl : slots + (slt μ' - slt μ) ≤ R.slots) (k : Wg E p l e R s m args below meth c Q M (cells + (μ'.1.length - μ.1.length)) (slots + (slt μ' - slt μ)) pc' L' S' μ') : Wg E p l e R s m args below meth c Q M cells slots pc L S μ := by
  obtain ⟨hx, hb, hml, hr, hown, hts, hlocks, hini, hK, hF, hW, hbl⟩ := hC
  obtain rfl := Nat.eq_of_beq_eq_true hlen
  simp only [stepI] at hs
  split at hs
  · split at hs
    · rename_i hc1
      cases hs
      exact g_pure k (fun H locs ls hL kk => lv_pop hx hb hd (by rw [cvv_cat]; exact hc1) (kk ls hL))
    · cases hs
  · cases hs
theorem zs_dup2 (hC : Cx E p s m args meth c R M) (hd : decode (mB M) pc = .ok (.dup2, len)) (hlen : lenOk (.dup2) len = true) (hs : stepI M (.dup2) pc L S μ = some (pc', L', S', μ')) (hcl : cells + (μ'.1.length - μ.1.length) ≤ R.cells) (hsl : slots + (slt μ' - slt μ) ≤ R.slots) (k : Wg E p l e R s m args below meth c Q M (cells + (μ'.1.length - μ.1.length)) (slots + (slt μ' - slt μ)) pc' L' S' μ') : Wg E p l e R s m args below meth c Q M cells slots pc L S μ := by
  obtain ⟨hx, hb, hml, hr, hown, hts, hlocks, hini, hK, hF, hW, hbl⟩ := hC
  obtain rfl := Nat.eq_of_beq_eq_true hlen
  simp only [stepI] at hs
  split at hs
  · split at hs
    · rename_i hc1
      cases hs
      exact g_pure k (fun H locs ls hL kk => lv_dup2_11 hx hb hd (by rw [cvv_cat]; exact hc1.1) (by rw [cvv_cat]; exact hc1.2) (kk ls hL))
    · cases hs
  · cases hs
theorem zs_ifCond {cnd : ClassFile.Cond} {off : Int} (hC : Cx E p s m args meth c R M) (hd : decode (mB M) pc = .ok (.ifCond cnd off, len)) (hlen : lenOk (.ifCond cnd off) len = true) (hs : stepI M (.ifCond cnd off) pc L S μ = some (pc', L', S', μ')) (hcl : cells + (μ'.1.length - μ.1.length) ≤ R.cells) (hsl : slots + (slt μ' - slt μ) ≤ R.slots) (k : Wg E p l e R s m args below meth c Q M (cells + (μ'.1.length - μ.1.length)) (slots + (slt μ' - slt μ)) pc' L' S' μ') : Wg E p l e R s m args below meth c Q M cells slots pc L S μ := by
  obtain ⟨hx, hb, hml, hr, hown, hts, hlocks, hini, hK, hF, hW, hbl⟩ := hC
  obtain rfl := Nat.eq_of_beq_eq_true hlen
  simp only [stepI] at hs
  split at hs
  · rename_i x S1
    unfold xIf at hs
    split at hs
    · rename_i hge
      cases cnd with
      | eq =>
        by_cases hq : x = 0
        · rw [if_pos (show cmpP .eq x 0 = true from decide_eq_true hq)] at hs
          cases hs
          exact g_pure k (fun H locs ls hL kk => lv_if_eq hx hb hd (Int.toNat_of_nonneg hge).symm (fun _ => kk ls hL) (fun h => absurd hq h))
        · rw [if_neg (show ¬ cmpP .eq x 0 = true from fun h => hq (of_decide_eq_true h))] at hs
          cases hs
          exact g_pure k (fun H locs ls hL kk => lv_if_eq hx hb hd (Int.toNat_of_nonneg hge).symm (fun h => absurd h hq) (fun _ => kk ls hL))
      | ne =>
        by_cases hq : ¬ x = 0
        · rw [if_pos (show cmpP .ne x 0 = true from decide_eq_true hq)] at hs
          cases hs
          exact g_pure k (fun H locs ls hL kk => lv_if_ne hx hb hd (Int.toNat_of_nonneg hge).symm (fun _ => kk ls hL) (fun h => absurd h hq))
        · rw [if_neg (show ¬ cmpP .ne x 0 = true from fun h => hq (of_decide_eq_true h))] at hs
          cases hs
          exact g_pure k (fun H locs ls hL kk => lv_if_ne hx hb hd (Int.toNat_of_nonneg hge).symm (fun h => absurd h hq) (fun h => kk ls hL))
      | lt =>
        by_cases hq : x < 0
        · rw [if_pos (show cmpP .lt x 0 = true from decide_eq_true hq)] at hs
          cases hs
          exact g_pure k (fun H locs ls hL kk => lv_if_lt hx hb hd (Int.toNat_of_nonneg hge).symm (fun _ => kk ls hL) (fun h => absurd hq h))
        · rw [if_neg (show ¬ cmpP .lt x 0 = true from fun h => hq (of_decide_eq_true h))] at hs
          cases hs
          exact g_pure k (fun H locs ls hL kk => lv_if_lt hx hb hd (Int.toNat_of_nonneg hge).symm (fun h => absurd h hq) (fun _ => kk ls hL))
      | ge =>
        by_cases hq : 0 ≤ x
        · rw [if_pos (show cmpP .ge x 0 = true from decide_eq_true hq)] at hs
          cases hs
          exact g_pure k (fun H locs ls hL kk => lv_if_ge hx hb hd (Int.toNat_of_nonneg hge).symm (fun _ => kk ls hL) (fun h => absurd hq h))
        · rw [if_neg (show ¬ cmpP .ge x 0 = true from fun h => hq (of_decide_eq_true h))] at hs
          cases hs
          exact g_pure k (fun H locs ls hL kk => lv_if_ge hx hb hd (Int.toNat_of_nonneg hge).symm (fun h => absurd h hq) (fun _ => kk ls hL))
      | gt =>
        by_cases hq : 0 < x
        · rw [if_pos (show cmpP .gt x 0 = true from decide_eq_true hq)] at hs
          cases hs
          exact g_pure k (fun H locs ls hL kk => lv_if_gt hx hb hd (Int.toNat_of_nonneg hge).symm (fun _ => kk ls hL) (fun h => absurd hq h))
        · rw [if_neg (show ¬ cmpP .gt x 0 = true from fun h => hq (of_decide_eq_true h))] at hs
          cases hs
          exact g_pure k (fun H locs ls hL kk => lv_if_gt hx hb hd (Int.toNat_of_nonneg hge).symm (fun h => absurd h hq) (fun _ => kk ls hL))
      | le =>
        by_cases hq : x ≤ 0
        · rw [if_pos (show cmpP .le x 0 = true from decide_eq_true hq)] at hs
          cases hs
          exact g_pure k (fun H locs ls hL kk => lv_if_le hx hb hd (Int.toNat_of_nonneg hge).symm (fun _ => kk ls hL) (fun h => absurd hq h))
        · rw [if_neg (show ¬ cmpP .le x 0 = true from fun h => hq (of_decide_eq_true h))] at hs
          cases hs
          exact g_pure k (fun H locs ls hL kk => lv_if_le hx hb hd (Int.toNat_of_nonneg hge).symm (fun h => absurd h hq) (fun _ => kk ls hL))
    · cases hs
  · cases hs
theorem zs_if_icmp {cnd : ClassFile.Cond} {off : Int} (hC : Cx E p s m args meth c R M) (hd : decode (mB M) pc = .ok (.if_icmp cnd off, len)) (hlen : lenOk (.if_icmp cnd off) len = true) (hs : stepI M (.if_icmp cnd off) pc L S μ = some (pc', L', S', μ')) (hcl : cells + (μ'.1.length - μ.1.length) ≤ R.cells) (hsl : slots + (slt μ' - slt μ) ≤ R.slots) (k : Wg E p l e R s m args below meth c Q M (cells + (μ'.1.length - μ.1.length)) (slots + (slt μ' - slt μ)) pc' L' S' μ') : Wg E p l e R s m args below meth c Q M cells slots pc L S μ := by
  obtain ⟨hx, hb, hml, hr, hown, hts, hlocks, hini, hK, hF, hW, hbl⟩ := hC
  obtain rfl := Nat.eq_of_beq_eq_true hlen
  simp only [stepI] at hs
  split at hs
  · rename_i y x S1
    unfold xIf at hs
    split at hs
    · rename_i hge
      cases cnd with
      | eq =>
        by_cases hq : x = y
        · rw [if_pos (show cmpP .eq x y = true from decide_eq_true hq)] at hs
          cases hs
          exact g_pure k (fun H locs ls hL kk => lv_icmp_eq hx hb hd (Int.toNat_of_nonneg hge).symm (fun _ => kk ls hL) (fun h => absurd hq h))
        · rw [if_neg (show ¬ cmpP .eq x y = true from fun h => hq (of_decide_eq_true h))] at hs
          cases hs
          exact g_pure k (fun H locs ls hL kk => lv_icmp_eq hx hb hd (Int.toNat_of_nonneg hge).symm (fun h => absurd h hq) (fun _ => kk ls hL))
      | ne =>
        by_cases hq : ¬ x = y
        · rw [if_pos (show cmpP .ne x y = true from decide_eq_true hq)] at hs
          cases hs
          exact g_pure k (fun H locs ls hL kk => lv_icmp_ne hx hb hd (Int.toNat_of_nonneg hge).symm (fun _ => kk ls hL) (fun h => absurd h hq))
        · rw [if_neg (show ¬ cmpP .ne x y = true from fun h => hq (of_decide_eq_true h))] at hs
          cases hs
          exact g_pure k (fun H locs ls hL kk => lv_icmp_ne hx hb hd (Int.toNat_of_nonneg hge).symm (fun h => absurd h hq) (fun h => kk ls hL))
      | lt =>
        by_cases hq : x < y
        · rw [if_pos (show cmpP .lt x y = true from decide_eq_true hq)] at hs
          cases hs
          exact g_pure k (fun H locs ls hL kk => lv_icmp_lt hx hb hd (Int.toNat_of_nonneg hge).symm (fun _ => kk ls hL) (fun h => absurd hq h))
        · rw [if_neg (show ¬ cmpP .lt x y = true from fun h => hq (of_decide_eq_true h))] at hs
          cases hs
          exact g_pure k (fun H locs ls hL kk => lv_icmp_lt hx hb hd (Int.toNat_of_nonneg hge).symm (fun h => absurd h hq) (fun _ => kk ls hL))
      | ge =>
        by_cases hq : y ≤ x
        · rw [if_pos (show cmpP .ge x y = true from decide_eq_true hq)] at hs
          cases hs
          exact g_pure k (fun H locs ls hL kk => lv_icmp_ge hx hb hd (Int.toNat_of_nonneg hge).symm (fun _ => kk ls hL) (fun h => absurd hq h))
        · rw [if_neg (show ¬ cmpP .ge x y = true from fun h => hq (of_decide_eq_true h))] at hs
          cases hs
          exact g_pure k (fun H locs ls hL kk => lv_icmp_ge hx hb hd (Int.toNat_of_nonneg hge).symm (fun h => absurd h hq) (fun _ => kk ls hL))
      | gt =>
        by_cases hq : y < x
        · rw [if_pos (show cmpP .gt x y = true from decide_eq_true hq)] at hs
          cases hs
          exact g_pure k (fun H locs ls hL kk => lv_icmp_gt hx hb hd (Int.toNat_of_nonneg hge).symm (fun _ => kk ls hL) (fun h => absurd hq h))
        · rw [if_neg (show ¬ cmpP .gt x y = true from fun h => hq (of_decide_eq_true h))] at hs
          cases hs
          exact g_pure k (fun H locs ls hL kk => lv_icmp_gt hx hb hd (Int.toNat_of_nonneg hge).symm (fun h => absurd h hq) (fun _ => kk ls hL))
      | le =>
        by_cases hq : x ≤ y
        · rw [if_pos (show cmpP .le x y = true from decide_eq_true hq)] at hs
          cases hs
          exact g_pure k (fun H locs ls hL kk => lv_icmp_le hx hb hd (Int.toNat_of_nonneg hge).symm (fun _ => kk ls hL) (fun h => absurd hq h))
        · rw [if_neg (show ¬ cmpP .le x y = true from fun h => hq (of_decide_eq_true h))] at hs
          cases hs
          exact g_pure k (fun H locs ls hL kk => lv_icmp_le hx hb hd (Int.toNat_of_nonneg hge).symm (fun h => absurd h hq) (fun _ => kk ls hL))
    · cases hs
  · cases hs
theorem zs_goto {off : Int} (hC : Cx E p s m args meth c R M) (hd : decode (mB M) pc = .ok (.goto off, len)) (hlen : lenOk (.goto off) len = true) (hs : stepI M (.goto off) pc L S μ = some (pc', L', S', μ')) (hcl : cells + (μ'.1.length - μ.1.length) ≤ R.cells) (hsl : slots + (slt μ' - slt μ) ≤ R.slots) (k : Wg E p l e R s m args below meth c Q M (cells + (μ'.1.length - μ.1.length)) (slots + (slt μ' - slt μ)) pc' L' S' μ') : Wg E p l e R s m args below meth c Q M cells slots pc L S μ := by
  obtain ⟨hx, hb, hml, hr, hown, hts, hlocks, hini, hK, hF, hW, hbl⟩ := hC
  obtain rfl := Nat.eq_of_beq_eq_true hlen
  simp only [stepI] at hs
  unfold xGo at hs
  split at hs
  · rename_i hge
    cases hs
    exact g_pure k (fun H locs ls hL kk => lv_goto hx hb hd (Int.toNat_of_nonneg hge).symm (kk ls hL))
  · cases hs
theorem zs_tableswitch {d lo hi : Int} {offs : Array Int} (hC : Cx E p s m args meth c R M) (hd : decode (mB M) pc = .ok (.tableswitch d lo hi offs, len)) (hlen : lenOk (.tableswitch d lo hi offs) len = true) (hs : stepI M (.tableswitch d lo hi offs) pc L S μ = some (pc', L', S', μ')) (hcl : cells + (μ'.1.length - μ.1.length) ≤ R.cells) (hsl : slots + (slt μ' - slt μ) ≤ R.slots) (k : Wg E p l e R s m args below meth c Q M (cells + (μ'.1.length - μ.1.length)) (slots + (slt μ' - slt μ)) pc' L' S' μ') : Wg E p l e R s m args below meth c Q M cells slots pc L S μ := by
  obtain ⟨hx, hb, hml, hr, hown, hts, hlocks, hini, hK, hF, hW, hbl⟩ := hC
  simp only [stepI] at hs
  split at hs
  · rename_i x S1
    split at hs
    · rename_i ho
      unfold xGo at hs
      split at hs
      · rename_i hge
        cases hs
        exact g_pure k (fun H locs ls hL kk => lv_tableOut hx hb hd ho (Int.toNat_of_nonneg hge).symm (kk ls hL))
      · cases hs
    · rename_i ho
      split at hs
      · rename_i off hoff
        unfold xGo at hs
        split at hs
        · rename_i hge
          cases hs
          exact g_pure k (fun H locs ls hL kk => lv_tableIn hx hb hd (fun h => ho (Or.inl h)) (fun h => ho (Or.inr h)) hoff (Int.toNat_of_nonneg hge).symm (kk ls hL))
        · cases hs
      · cases hs
  · cases hs
theorem zs_lookupswitch {d : Int} {ps : Array (Int × Int)} (hC : Cx E p s m args meth c R M) (hd : decode (mB M) pc = .ok (.lookupswitch d ps, len)) (hlen : lenOk (.lookupswitch d ps) len = true) (hs : stepI M (.lookupswitch d ps) pc L S μ = some (pc', L', S', μ')) (hcl : cells + (μ'.1.length - μ.1.length) ≤ R.cells) (hsl : slots + (slt μ' - slt μ) ≤ R.slots) (k : Wg E p l e R s m args below meth c Q M (cells + (μ'.1.length - μ.1.length)) (slots + (slt μ' - slt μ)) pc' L' S' μ') : Wg E p l e R s m args below meth c Q M cells slots pc L S μ := by
  obtain ⟨hx, hb, hml, hr, hown, hts, hlocks, hini, hK, hF, hW, hbl⟩ := hC
  simp only [stepI] at hs
  split at hs
  · rename_i x S1
    split at hs
    · rename_i ho
      unfold xGo at hs
      split at hs
      · rename_i hge
        cases hs
        exact g_pure k (fun H locs ls hL kk => lv_lookup hx hb hd ho rfl (Int.toNat_of_nonneg hge).symm (kk ls hL))
      · cases hs
    · cases hs
  · cases hs
theorem zs_ldc2_w {n : Nat} (hC : Cx E p s m args meth c R M) (hd : decode (mB M) pc = .ok (.ldc2_w n, len)) (hlen : lenOk (.ldc2_w n) len = true) (hs : stepI M (.ldc2_w n) pc L S μ = some (pc', L', S', μ')) (hcl : cells + (μ'.1.length - μ.1.length) ≤ R.cells) (hsl : slots + (slt μ' - slt μ) ≤ R.slots) (k : Wg E p l e R s m args below meth c Q M (cells + (μ'.1.length - μ.1.length)) (slots + (slt μ' - slt μ)) pc' L' S' μ') : Wg E p l e R s m args below meth c Q M cells slots pc L S μ := by
  obtain ⟨hx, hb, hml, hr, hown, hts, hlocks, hini, hK, hF, hW, hbl⟩ := hC
  obtain rfl := Nat.eq_of_beq_eq_true hlen
  simp only [stepI] at hs
  split at hs
  · rename_i v hv
    cases hs
    exact g_pure k (fun H locs ls hL kk => lv_ldc2 hx hb hown (hts _ (lLk_ok _ (lk2_mem hv))) hd (kk ls hL))
  · cases hs
theorem zs_ldc (hstr : mC M = 5 → ∀ (H : Heap) (locs : List Loc) (ls : Array Slot) (rest : List Value), decode (mB M) pc = .ok (.ldc 60, 2) → W p l e R s m args below meth c H locs cells slots Q (F0 m (pc + 2) ls (.ref (es E) :: rest)) → W p l e R s m args below meth c H locs cells slots Q (F0 m pc ls rest)) {n : Nat} (hC : Cx E p s m args meth c R M) (hd : decode (mB M) pc = .ok (.ldc n, len)) (hlen : lenOk (.ldc n) len = true) (hs : stepI M (.ldc n) pc L S μ = some (pc', L', S', μ')) (hcl : cells + (μ'.1.length - μ.1.length) ≤ R.cells) (hsl : slots + (slt μ' - slt μ) ≤ R.slots) (k : Wg E p l e R s m args below meth c Q M (cells + (μ'.1.length - μ.1.length)) (slots + (slt μ' - slt μ)) pc' L' S' μ') : Wg E p l e R s m args below meth c Q M cells slots pc L S μ := by
  obtain ⟨hx, hb, hml, hr, hown, hts, hlocks, hini, hK, hF, hW, hbl⟩ := hC
  obtain rfl := Nat.eq_of_beq_eq_true hlen
  simp only [stepI] at hs
  split at hs
  · rename_i v hv
    cases hs
    exact g_pure k (fun H locs ls hL kk => lv_ldc hx hb hown (hts _ (iLk_ok _ (lk2_mem hv))) hd (kk ls hL))
  · split at hs
    · rename_i h5
      obtain ⟨h5, rfl⟩ := h5
      cases hs
      exact g_pure k (fun H locs ls hL kk => hstr h5 H locs ls _ hd (kk ls hL))
    · cases hs
theorem zs_getfield {n : Nat} (hC : Cx E p s m args meth c R M) (hd : decode (mB M) pc = .ok (.getfield n, len)) (hlen : lenOk (.getfield n) len = true) (hs : stepI M (.getfield n) pc L S μ = some (pc', L', S', μ')) (hcl : cells + (μ'.1.length - μ.1.length) ≤ R.cells) (hsl : slots + (slt μ' - slt μ) ≤ R.slots) (k : Wg E p l e R s m args below meth c Q M (cells + (μ'.1.length - μ.1.length)) (slots + (slt μ' - slt μ)) pc' L' S' μ') : Wg E p l e R s m args below meth c Q M cells slots pc L S μ := by
  obtain ⟨hx, hb, hml, hr, hown, hts, hlocks, hini, hK, hF, hW, hbl⟩ := hC
  obtain rfl := Nat.eq_of_beq_eq_true hlen
  simp only [stepI] at hs
  split at hs
  · rename_i cf hcf
    obtain ⟨h8, hln⟩ := fLk_ok _ (lk2_mem hcf)
    unfold xGet at hs
    split at hs
    · rename_i a S1
      split at hs
      · rename_i t ht
        split at hs
        · rename_i hc1
          cases hs
          intro H locs ls hR hl hL hz
          rw [Nat.sub_self, Nat.sub_self] at k
          have h2 := hR.two ht (by omega) (by omega)
          have hg := WS_get (E := E) ht h2
          rw [cvE_obj hc1.1] at hg
          have hown1 := tyC_own cf.1 h8 cf.2 hc1.2
          exact va_get (own := RC (mC M)) (C := RC cf.1) (T := TC cf.1) (N := nF cf.1) hx hb hts (in_ws h8) hown hK.1 hR.2.2.1 (a - 2) hg (vw_get h8) cf.2 hc1.2 (hts _ hln) (fun _ h9 => h9) (by rw [List.getElem?_map, List.getElem?_range hc1.2]; rfl) hd (k H locs ls hR hl hL hz)
        · cases hs
      · cases hs
    · cases hs
  · cases hs
/-- behind a row that wrote: the sizes fit, the old heap stays -/
theorem g_wr {H : Heap} {locs : List Loc} (hR : Rl E μ H) (hl : ∀ q ∈ locs, eB E ≤ q.base) (hz : H.size = s.heap.size + cells) {ls : Array Slot} (hL : LR E ls (mL M) L')
    (k : Wg E p l e R s m args below meth c Q M (cells + (μ'.1.length - μ.1.length)) (slots + (slt μ' - slt μ)) pc' L' S' μ') (hlen : μ'.1.length = μ.1.length) (hsl : slt μ' = slt μ) (h0 : μ'.1[0]? = μ.1[0]?) (h1 : μ'.1[1]? = μ.1[1]?) (hm : μ'.2.1 0 = μ.2.1 0)
    {H1 : Heap} {locs1 : List Loc} {w : va_W} (hw : w = WS E μ') (hP : va_P (eD E) vwCl w H1) (hS : va_S (fun q => eB E ≤ q) H H1 locs1) : W p l e R s m args below meth c H1 locs1 cells slots Q (F0 m pc' ls (S'.map (cvv E))) := by
  refine W_sized fun hsz => ?_
  rw [hlen, hsl, Nat.sub_self, Nat.sub_self] at k
  have e1 : H1.size = H.size := Nat.le_antisymm (by rw [hz]; exact hsz) hS.1
  obtain ⟨r1, r2, r3, r4, r5, r6, r7⟩ := hR
  refine k H1 locs1 ls ⟨by rw [hlen]; exact r1, by rw [e1, hlen]; exact r2, by rw [← hw]; exact hP, fun q hq => ?_, by rw [h0]; exact r5, by rw [hm]; exact r6, by rw [h1]; exact r7⟩ hS.2.2 hL (by rw [e1]; exact hz)
  rw [hS.2.1 q (by omega) (by omega)]
  exact r4 q hq
theorem rng_set {α : Type} {n k : Nat} {f g : Nat → α} (hk : k < n) (h : ∀ j, j ≠ k → g j = f j) : ((List.range n).map f).set k (g k) = (List.range n).map g := by
  apply List.ext_getElem?
  intro j
  by_cases hj : j = k
  · subst hj
    rw [List.getElem?_set_self (by simp; exact hk), List.getElem?_map, List.getElem?_range hk]
    rfl
  · rw [List.getElem?_set_ne (Ne.symm hj), List.getElem?_map, List.getElem?_map]
    by_cases hl : j < n
    · rw [List.getElem?_range hl]
      simp [h j hj]
    · rw [List.getElem?_eq_none (by simp; omega)]
      rfl
theorem slt_set {l : List AT} {a : Nat} {t t' : AT} (ha : l[a]? = some t) (h : szT t' = szT t) : ((l.set a t').map szT).sum = (l.map szT).sum := by
  induction l generalizing a with
  | nil => simp
  | cons x xs ih =>
    cases a with
    | zero =>
      rw [List.getElem?_cons_zero] at ha
      cases ha
      simp [h]
    | succ a =>
      rw [List.getElem?_cons_succ] at ha
      rw [List.set_cons_succ, List.map_cons, List.map_cons, List.sum_cons, List.sum_cons, ih ha]
set_option maxHeartbeats 1000000 in
theorem zs_putfield {n : Nat} (hC : Cx E p s m args meth c R M) (hd : decode (mB M) pc = .ok (.putfield n, len)) (hlen : lenOk (.putfield n) len = true) (hs : stepI M (.putfield n) pc L S μ = some (pc', L', S', μ')) (hcl : cells + (μ'.1.length - μ.1.length) ≤ R.cells) (hsl : slots + (slt μ' - slt μ) ≤ R.slots) (k : Wg E p l e R s m args below meth c Q M (cells + (μ'.1.length - μ.1.length)) (slots + (slt μ' - slt μ)) pc' L' S' μ') : Wg E p l e R s m args below meth c Q M cells slots pc L S μ := by
  obtain ⟨hx, hb, hml, hr, hown, hts, hlocks, hini, hK, hF, hW, hbl⟩ := hC
  obtain rfl := Nat.eq_of_beq_eq_true hlen
  simp only [stepI] at hs
  split at hs
  · rename_i cf hcf
    obtain ⟨h8, hln⟩ := fLk_ok _ (lk2_mem hcf)
    unfold xPut at hs
    split at hs
    · rename_i q a S1
      split at hs
      · rename_i t ht
        split at hs
        · rename_i hc1
          cases hs
          intro H locs ls hR hl hL hz
          have h2 := hR.two ht (by omega) (by omega)
          have hlt := (List.getElem?_eq_some_iff.mp ht).1
          have hg := WS_get (E := E) ht h2
          rw [cvE_obj hc1.1] at hg
          have hnr := nar_r (tyC_2 cf.1 h8 cf.2 hc1.2.1 hc1.2.2.2) (ad E q)
          have hset : (WS E μ).set (a - 2) (ad E a, .inr (cf.1, ((List.range (nF cf.1)).map (fun k => cvv E (fV cf.1 k t (μ.2.1 a)))).set cf.2 (.ref (ad E q)))) = WS E (μ.1.set a (t.1, t.2.1, va_up t.2.2 cf.2 (some q)), μ.2) := by
            refine WS_set (by simp) hlt h2 ?_ FF_ref
            rw [FF_ref_at hlt, cvE_obj (E := E) (t := (t.1, t.2.1, va_up t.2.2 cf.2 (some q))) (ci := cf.1) hc1.1]
            rw [show Value.ref (ad E q) = cvv E (fV cf.1 cf.2 (t.1, t.2.1, va_up t.2.2 cf.2 (some q)) (μ.2.1 a)) by simp [fV, hc1.2.2.2, va_up, rfV, cvv]]
            rw [rng_set (g := fun k => cvv E (fV cf.1 k (t.1, t.2.1, va_up t.2.2 cf.2 (some q)) (μ.2.1 a))) hc1.2.1 (fun j hj => by simp [fV, va_up, hj])]
          have hslt : slt (μ.1.set a (t.1, t.2.1, va_up t.2.2 cf.2 (some q)), μ.2) = slt μ := slt_set ht rfl
          have kk := fun (H1 : Heap) (locs1 : List Loc) hP1 hS1 => g_wr (M := M) hR hl hz hL k (by simp) hslt (by rw [List.getElem?_set_ne (by omega)]) (by rw [List.getElem?_set_ne (by omega)]) rfl (H1 := H1) (locs1 := locs1) hset hP1 hS1
          by_cases hfn : (TC cf.1 cf.2).2.2.2 = false
          · exact va_put (own := RC (mC M)) (C := RC cf.1) (T := TC cf.1) (N := nF cf.1) hx hb hts (in_ws h8) (tyC cf.1) (tyC_ok h8) (nmC h8) hown hK.1 hR.2.2.1 wsq_D (mk_S hl) (a - 2) hg (vw_get h8) cf.2 hc1.2.1 (hts _ hln) (fun _ h9 => h9) hfn (tyC_ok h8 cf.2 hc1.2.1) hnr.1 hnr.2 (by simp; exact hc1.2.1) hd (fun H1 locs1 hP1 _ hS1 => kk H1 locs1 hP1 hS1)
          · have hfb := hc1.2.2.1
            unfold finB at hfb
            simp only [Bool.or_eq_true, Bool.and_eq_true, Bool.not_eq_true'] at hfb
            rcases hfb with hfb | ⟨hfb1, hfb2⟩
            · exact absurd hfb hfn
            · have e2 := Nat.eq_of_beq_eq_true hfb2
              exact va_putF (own := RC (mC M)) (C := RC cf.1) (T := TC cf.1) (N := nF cf.1) hx hb hts (in_ws h8) (tyC cf.1) (tyC_ok h8) (nmC h8) hown hK.1 hR.2.2.1 wsq_D (mk_S hl) (a - 2) hg (vw_get h8) cf.2 hc1.2.1 (hts _ hln) (fun _ h9 => h9) (by simpa using hfn) (hini (Nat.eq_of_beq_eq_true hfb1)) (by rw [tyC_own cf.1 h8 cf.2 hc1.2.1, e2]) (tyC_ok h8 cf.2 hc1.2.1) hnr.1 hnr.2 (by simp; exact hc1.2.1) hd (fun H1 locs1 hP1 _ hS1 => kk H1 locs1 hP1 hS1)
        · cases hs
      · cases hs
    · rename_i x a S1
      split at hs
      · rename_i t ht
        split at hs
        · rename_i hc1
          cases hs
          intro H locs ls hR hl hL hz
          have h2 := hR.two ht (by omega) (by omega)
          have hlt := (List.getElem?_eq_some_iff.mp ht).1
          have hg := WS_get (E := E) ht h2
          rw [cvE_obj hc1.1] at hg
          have hne : fTy cf.1 cf.2 ≠ 2 := by rcases hc1.2.2.2 with h | ⟨h, -⟩ <;> omega
          have hnr : narrow (tyC cf.1 cf.2) (.int x) = .int x ∧ fits (tyC cf.1 cf.2) (.int x) = true := by
            rcases hc1.2.2.2 with h | ⟨h, h9 | h9⟩
            · rw [tyC_0 cf.1 h8 cf.2 hc1.2.1 h]; exact ⟨rfl, rfl⟩
            · rw [tyC_1 cf.1 h8 cf.2 hc1.2.1 h, h9]; exact ⟨rfl, rfl⟩
            · rw [tyC_1 cf.1 h8 cf.2 hc1.2.1 h, h9]; exact ⟨rfl, rfl⟩
          have hset : (WS E μ).set (a - 2) (ad E a, .inr (cf.1, ((List.range (nF cf.1)).map (fun k => cvv E (fV cf.1 k t (μ.2.1 a)))).set cf.2 (.int x))) = WS E (μ.1, up2 μ.2.1 a cf.2 x, μ.2.2) := by
            refine WS_set (E := E) (μ := μ) (μ' := (μ.1, up2 μ.2.1 a cf.2 x, μ.2.2)) rfl hlt h2 ?_ (FF_int (μ := μ))
            unfold up2
            rw [FF_int_at ht, cvE_obj (ci := cf.1) hc1.1]
            rw [show Value.int x = cvv E (fV cf.1 cf.2 t (upd (μ.2.1 a) cf.2 x)) by simp [fV, hne, upd, cvv]]
            rw [rng_set (g := fun k => cvv E (fV cf.1 k t (upd (μ.2.1 a) cf.2 x))) hc1.2.1 (fun j hj => by simp [fV, upd, hj])]
          have kk := fun (H1 : Heap) (locs1 : List Loc) hP1 hS1 => g_wr (M := M) hR hl hz hL k rfl rfl rfl rfl (by simp [up2, va_up]; omega) (H1 := H1) (locs1 := locs1) hset hP1 hS1
          by_cases hfn : (TC cf.1 cf.2).2.2.2 = false
          · exact va_put (own := RC (mC M)) (C := RC cf.1) (T := TC cf.1) (N := nF cf.1) hx hb hts (in_ws h8) (tyC cf.1) (tyC_ok h8) (nmC h8) hown hK.1 hR.2.2.1 wsq_D (mk_S hl) (a - 2) hg (vw_get h8) cf.2 hc1.2.1 (hts _ hln) (fun _ h9 => h9) hfn (tyC_ok h8 cf.2 hc1.2.1) hnr.1 hnr.2 (by simp; exact hc1.2.1) hd (fun H1 locs1 hP1 _ hS1 => kk H1 locs1 hP1 hS1)
          · have hfb := hc1.2.2.1
            unfold finB at hfb
            simp only [Bool.or_eq_true, Bool.and_eq_true, Bool.not_eq_true'] at hfb
            rcases hfb with hfb | ⟨hfb1, hfb2⟩
            · exact absurd hfb hfn
            · have e2 := Nat.eq_of_beq_eq_true hfb2
              exact va_putF (own := RC (mC M)) (C := RC cf.1) (T := TC cf.1) (N := nF cf.1) hx hb hts (in_ws h8) (tyC cf.1) (tyC_ok h8) (nmC h8) hown hK.1 hR.2.2.1 wsq_D (mk_S hl) (a - 2) hg (vw_get h8) cf.2 hc1.2.1 (hts _ hln) (fun _ h9 => h9) (by simpa using hfn) (hini (Nat.eq_of_beq_eq_true hfb1)) (by rw [tyC_own cf.1 h8 cf.2 hc1.2.1, e2]) (tyC_ok h8 cf.2 hc1.2.1) hnr.1 hnr.2 (by simp; exact hc1.2.1) hd (fun H1 locs1 hP1 _ hS1 => kk H1 locs1 hP1 hS1)
        · cases hs
      · cases hs
    · cases hs
  · cases hs
end SS
