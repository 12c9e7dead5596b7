/-- what is taken of the text "pdtwu", proved further behind: it stays, is loaded, and gives a letter's place -/
def StrOk (E : EE) (l : Launch) : Prop := (∀ {s U : State}, s.WarmedH U.vm → eT E s → eT E U) ∧
  (∀ {p : Program} {e : Env} {R : Room} {s : State} {m : MethodId} {args : Array Value} {below : List Frame} {meth : Method} {c : Code} {Q : State → Prop} {M : MI} {cells slots pc : Nat}, Cx E p s m args meth c R M → mC M = 5 → ∀ (H : Heap) (locs : List Loc) (ls : Array Slot) (rest : List Value), decode (mB M) pc = .ok (.ldc 60, 2) → W p l e R s m args below meth c H locs cells slots Q (F0 m (pc + 2) ls (.ref (es E) :: rest)) → W p l e R s m args below meth c H locs cells slots Q (F0 m pc ls rest)) ∧
  (∀ {p : Program} {e : Env} {R : Room} {s : State} {m : MethodId} {args : Array Value} {below : List Frame} {meth : Method} {c : Code} {Q : State → Prop} {M : MI} {cells slots pc : Nat} {μ : Mm}, Cx E p s m args meth c R M → mC M = 5 → 7 ≤ R.frames → 180 ≤ R.locals → cells ≤ R.cells → slots ≤ R.slots → ∀ (H : Heap) (locs : List Loc) (ls : Array Slot) (rest : List Value) (ch : Int32), Rl E μ H → (∀ q ∈ locs, eB E ≤ q.base) → ls.size = mL M → H.size = s.heap.size + cells → (rest.map fun v => v.category).sum ≤ 8 → decode (mB M) pc = .ok (.invokevirtual 62, 3) → W p l e R s m args below meth c H locs cells slots Q (F0 m (pc + 3) ls (.int (kIx ch) :: rest)) → W p l e R s m args below meth c H locs cells slots Q (F0 m pc ls (.int ch :: .ref (es E) :: rest)))
theorem z_step {E : EE} {p : Program} {l : Launch} {e : Env} {R : Room} {s : State} {m : MethodId} {args : Array Value} {below : List Frame} {meth : Method} {c : Code} {Q : State → Prop} {M : MI} {cells slots pc pc' len : Nat} {L L' : Ls} {S S' : List Value} {μ μ' : Mm} {i : Instr} (hE : StrOk E l) (hC : Cx E p s m args meth c R M) (hd : decode (mB M) pc = .ok (i, len)) (hlen : lenOk i len = true) (hs : stepI M i pc L S μ = some (pc', L', S', μ')) (hcl : cells + (μ'.1.length - μ.1.length) ≤ R.cells) (hsl : slots + (slt μ' - slt μ) ≤ R.slots) (k : Wg E p l e R s m args below meth c Q M (cells + (μ'.1.length - μ.1.length)) (slots + (slt μ' - slt μ)) pc' L' S' μ') : Wg E p l e R s m args below meth c Q M cells slots pc L S μ := by
  cases i
  case iconst => exact zs_iconst hC hd hlen hs hcl hsl k
  case bipush => exact zs_bipush hC hd hlen hs hcl hsl k
  case sipush => exact zs_sipush hC hd hlen hs hcl hsl k
  case lconst => exact zs_lconst hC hd hlen hs hcl hsl k
  case iload_n => exact zs_iload_n hC hd hlen hs hcl hsl k
  case iload => exact zs_iload hC hd hlen hs hcl hsl k
  case lload_n => exact zs_lload_n hC hd hlen hs hcl hsl k
  case lload => exact zs_lload hC hd hlen hs hcl hsl k
  case aload_n => exact zs_aload_n hC hd hlen hs hcl hsl k
  case aload => exact zs_aload hC hd hlen hs hcl hsl k
  case istore_n => exact zs_istore_n hC hd hlen hs hcl hsl k
  case istore => exact zs_istore hC hd hlen hs hcl hsl k
  case astore_n => exact zs_astore_n hC hd hlen hs hcl hsl k
  case astore => exact zs_astore hC hd hlen hs hcl hsl k
  case iinc => exact zs_iinc hC hd hlen hs hcl hsl k
  case iadd => exact zs_iadd hC hd hlen hs hcl hsl k
  case isub => exact zs_isub hC hd hlen hs hcl hsl k
  case imul => exact zs_imul hC hd hlen hs hcl hsl k
  case iand => exact zs_iand hC hd hlen hs hcl hsl k
  case ior => exact zs_ior hC hd hlen hs hcl hsl k
  case ixor => exact zs_ixor hC hd hlen hs hcl hsl k
  case ishl => exact zs_ishl hC hd hlen hs hcl hsl k
  case ishr => exact zs_ishr hC hd hlen hs hcl hsl k
  case idiv => exact zs_idiv hC hd hlen hs hcl hsl k
  case irem => exact zs_irem hC hd hlen hs hcl hsl k
  case ladd => exact zs_ladd hC hd hlen hs hcl hsl k
  case lmul => exact zs_lmul hC hd hlen hs hcl hsl k
  case land => exact zs_land hC hd hlen hs hcl hsl k
  case lor => exact zs_lor hC hd hlen hs hcl hsl k
  case lshl => exact zs_lshl hC hd hlen hs hcl hsl k
  case lcmp => exact zs_lcmp hC hd hlen hs hcl hsl k
  case i2l => exact zs_i2l hC hd hlen hs hcl hsl k
  case l2i => exact zs_l2i hC hd hlen hs hcl hsl k
  case i2b => exact zs_i2b hC hd hlen hs hcl hsl k
  case i2s => exact zs_i2s hC hd hlen hs hcl hsl k
  case i2c => exact zs_i2c hC hd hlen hs hcl hsl k
  case dup => exact zs_dup hC hd hlen hs hcl hsl k
  case dup2 => exact zs_dup2 hC hd hlen hs hcl hsl k
  case pop => exact zs_pop hC hd hlen hs hcl hsl k
  case ifCond => exact zs_ifCond hC hd hlen hs hcl hsl k
  case if_icmp => exact zs_if_icmp hC hd hlen hs hcl hsl k
  case goto => exact zs_goto hC hd hlen hs hcl hsl k
  case tableswitch => exact zs_tableswitch hC hd hlen hs hcl hsl k
  case lookupswitch => exact zs_lookupswitch hC hd hlen hs hcl hsl k
  case ldc => exact zs_ldc (fun h5 => hE.2.1 hC h5) hC hd hlen hs hcl hsl k
  case ldc2_w => exact zs_ldc2_w hC hd hlen hs hcl hsl k
  case getfield => exact zs_getfield hC hd hlen hs hcl hsl k
  case putfield => exact zs_putfield hC hd hlen hs hcl hsl k
  case iaload => exact zs_iaload hC hd hlen hs hcl hsl k
  case caload => exact zs_caload hC hd hlen hs hcl hsl k
  case iastore => exact zs_iastore hC hd hlen hs hcl hsl k
  case castore => exact zs_castore hC hd hlen hs hcl hsl k
  case laload => exact zs_laload hC hd hlen hs hcl hsl k
  case lastore => exact zs_lastore hC hd hlen hs hcl hsl k
  case aaload => exact zs_aaload hC hd hlen hs hcl hsl k
  case aastore => exact zs_aastore hC hd hlen hs hcl hsl k
  case arraylength => exact zs_arraylength hC hd hlen hs hcl hsl k
  case newarray => exact zs_newarray hC hd hlen hs hcl hsl k
  case anewarray => exact zs_anewarray hC hd hlen hs hcl hsl k
  case new => exact zs_new hC hd hlen hs hcl hsl k
  case invokestatic => exact zs_invokestatic hC hd hlen hs hcl hsl k
  case invokespecial => exact zs_invokespecial hC hd hlen hs hcl hsl k
  case invokevirtual => exact zs_invokevirtual (fun h1 h2 h3 h4 h5 => hE.2.2 hC h1 h2 h3 h4 h5) hC hd hlen hs hcl hsl k
  all_goals (cases hs)
theorem slt_set3 {μ : Mm} {a : Nat} {t : AT} {g : Nat → Option Nat} (ha : μ.1[a]? = some t) : slt (μ.1.set a (t.1, t.2.1, g), μ.2) = slt μ := slt_set ha rfl
theorem x_mono {M : MI} {i : Instr} {pc pc' : Nat} {L L' : Ls} {S S' : List Value} {μ μ' : Mm} (h : stepI M i pc L S μ = some (pc', L', S', μ')) : μ.1.length ≤ μ'.1.length ∧ slt μ ≤ slt μ' := by
  cases i <;> simp only [stepI, xLd, xSt, x2, x2d, x2J, x1, xGo, xIf, xGet, xPut, xAld, xAst, xLald, xLast, xAald, xAast, xLen, xNewa, xCopy, xStat, xSpec, xVirt] at h <;> (repeat' split at h) <;> first
    | (cases h; done)
    | (cases h; exact ⟨Nat.le_refl _, Nat.le_refl _⟩)
    | (cases h; exact ⟨by simp, Nat.le_of_eq (slt_set3 (by assumption)).symm⟩)
    | (cases h; exact ⟨by rw [mNew_len]; omega, by rw [mNew_slt]; omega⟩)
def RetAt (M : MI) (pc : Nat) (r : Option Value) : Prop := match r with
  | none => mR M = none ∧ decode (mB M) pc = .ok (.return_, 1)
  | some (.int v) => ∃ ty, mR M = some ty ∧ retOk ty v = true ∧ decode (mB M) pc = .ok (.ireturn, 1)
  | some (.long _) => mR M = some .long ∧ decode (mB M) pc = .ok (.lreturn, 1)
  | _ => False
def SimB (E : EE) (l : Launch) (n : Nat) : Prop := ∀ (M : MI) (pc : Nat) (L : Ls) (S : List Value) (μ : Mm) (r : Option Value) (μ' : Mm), exec n M pc L S μ = some (r, μ') → (μ.1.length ≤ μ'.1.length ∧ slt μ ≤ slt μ') ∧
  ∀ {p : Program} {e : Env} {R : Room} {s : State} {m : MethodId} {args : Array Value} {below : List Frame} {meth : Method} {c : Code} {Q : State → Prop} {cells slots : Nat}, Cx E p s m args meth c R M → cells + (μ'.1.length - μ.1.length) ≤ R.cells → slots + (slt μ' - slt μ) ≤ R.slots →
    (∀ (H : Heap) (locs : List Loc) (ls : Array Slot) (q : Nat), Rl E μ' H → (∀ q ∈ locs, eB E ≤ q.base) → H.size = s.heap.size + (cells + (μ'.1.length - μ.1.length)) → RetAt M q r → W p l e R s m args below meth c H locs (cells + (μ'.1.length - μ.1.length)) (slots + (slt μ' - slt μ)) Q (F0 m q ls (r.toList.map (cvv E)))) →
    Wg E p l e R s m args below meth c Q M cells slots pc L S μ
def PcE (E : EE) (vs : List Value) (μ : Mm) : Array Value → State → Prop := fun a U => a = (vs.map (cvv E)).toArray ∧ Rl E μ U.heap ∧ KK E U
def QcE (E : EE) (r : Option Value) (μ' : Mm) : Array Value → State → Outcome → State → Prop := fun _ _ o t => o = .returned (r.map (cvv E)) ∧ Rl E μ' t.heap
def rmN (N : MI) (μ μ' : Mm) : Room := { frames := mF N, cells := μ'.1.length - μ.1.length, slots := slt μ' - slt μ, locals := mW N }
def wsN (N : MI) : List Cond := Cond.code (mY N) (mB N) (mL N) (mR N) :: wsL_law
theorem slL_len (E : EE) (vs : List Value) : (lg_sl (vs.map (cvv E))).length = (slL vs).length := by
  induction vs with
  | nil => rfl
  | cons v vs ih =>
    simp only [List.map_cons, lg_sl, slL, List.flatMap_cons, List.length_append] at ih ⊢
    rw [cvv_cat]
    by_cases h : v.category = 2
    · rw [if_pos h, if_pos h, ih]; rfl
    · rw [if_neg h, if_neg h, ih]; rfl
theorem ent_mem {E : EE} : ∀ (vs : List Value) (j i : Nat) (v : Value), (slL vs)[i]? = some (some v) → (j + i, cvv E v) ∈ lv_args j (vs.map (cvv E))
  | [], j, i, v, h => by simp [slL] at h
  | w :: vs, j, i, v, h => by
    simp only [slL, List.flatMap_cons] at h
    show (j + i, cvv E v) ∈ (j, cvv E w) :: lv_args (if (cvv E w).category = 2 then j + 2 else j + 1) (vs.map (cvv E))
    rw [cvv_cat]
    by_cases hc : w.category = 2
    · rw [if_pos hc] at h ⊢
      match i, h with
      | 0, h => cases h; exact List.mem_cons_self
      | 1, h => cases h
      | i + 2, h =>
        have := ent_mem (E := E) vs (j + 2) i v h
        rw [show j + (i + 2) = j + 2 + i by omega]
        exact List.mem_cons_of_mem _ this
    · rw [if_neg hc] at h ⊢
      match i, h with
      | 0, h => cases h; exact List.mem_cons_self
      | i + 1, h =>
        have := ent_mem (E := E) vs (j + 1) i v h
        rw [show j + (i + 1) = j + 1 + i by omega]
        exact List.mem_cons_of_mem _ this
theorem LR_ent {E : EE} {vs : List Value} {n : Nat} (h : (slL vs).length ≤ n) : LR E (lg_sl (vs.map (cvv E)) ++ List.replicate (n - (lg_sl (vs.map (cvv E))).length) Slot.unset).toArray n (ent vs n) := by
  have hl := lv_entry (vs.map (cvv E)) (n := n) (by rw [slL_len]; exact h)
  refine ⟨hl.1, by simp [ent]; omega, hl.2.1, fun i v hi => ?_⟩
  unfold ent at hi
  by_cases hlt : i < (slL vs).length
  · rw [List.getElem?_append_left hlt] at hi
    have := ent_mem (E := E) vs 0 i v hi
    rw [Nat.zero_add] at this
    exact hl.2.2 _ this
  · rw [List.getElem?_append_right (by omega), List.getElem?_replicate] at hi
    split at hi <;> cases hi
theorem nar_ret {ty : FieldType} {v : Int32} (h : retOk ty v = true) : narrow ty (.int v) = .int v := by
  cases ty with
  | int => rfl
  | boolean =>
    simp only [retOk, Bool.or_eq_true, decide_eq_true_eq] at h
    rcases h with rfl | rfl <;> rfl
  | char =>
    simp only [retOk, Bool.and_eq_true, decide_eq_true_eq] at h
    obtain ⟨j, hj, rfl⟩ := nI_of (x := v) (fun hq => by
      have h1 := Int32.lt_iff_toInt_lt.mp hq
      have h2 := Int32.le_iff_toInt_le.mp h.1
      omega)
    have h3 : nI j < nI 65536 := h.2
    exact (pk_charN ((nI_ltI hj (by omega)).mp h3)).1
  | _ => cases h
theorem g_met {E : EE} {l : Launch} {n : Nat} {N : MI} {vs : List Value} {μ μ' : Mm} {r : Option Value} (hb0 : eb E < eB E) (hS : SimB E l n) (hok : okM N) (hex : exec n N 0 (ent vs (mL N)) [] μ = some (r, μ')) (hsl : (slL vs).length ≤ mL N) :
    Met l (mY N) (wsN N) (rmN N μ μ') (PcE E vs μ) (QcE E r μ') (μ'.1.length - μ.1.length) (slt μ' - slt μ) (fun q => eB E ≤ q) := by
  obtain ⟨ok1, ok2, ok3, ok4, ok5, ok6⟩ := hok
  refine Met.ofW (cc := mB N) (maxL := mL N) (ret := mR N) ok2 rfl ?_
  intro p e s m args below meth c s₁ B hml hv
  obtain ⟨rfl, hR, hK⟩ := hv
  have hx := B.exec
  have hb := B.bytes
  have hr := B.returns
  have hts := atoms_spec (ws := wsN N) B.pre
  have hown : s.vm.findClass (mY N).cls = some m.cls := findClass_of_methodNamed B.named
  have hlocks := B.notSynchronized
  have hin : meth.name = (mY N).name := (name_of_methodNamed B.named B.method).1
  have hC : Cx E p s m (vs.map (cvv E)).toArray meth c (rmN N μ μ') N := ⟨hx, hb, hml, hr, by rw [← ok5]; exact hown, fun w hw => hts w (List.mem_cons_of_mem _ hw), hlocks, fun h2 => by
    rcases ok6 with ⟨h, -⟩ | ⟨h, -⟩ | ⟨-, -, h, -⟩
    · omega
    · omega
    · rw [hin]; exact h, hK, Nat.le_refl _, Nat.le_refl _, hb0⟩
  rw [lg_entry_eq]
  have hh := (hS N 0 _ [] μ r μ' hex).2 (Q := MQ below (QcE E r μ') (vs.map (cvv E)).toArray s (μ'.1.length - μ.1.length) (slt μ' - slt μ) (fun q => eB E ≤ q)) (below := below) (e := e) (cells := 0) (slots := 0) hC (by rw [Nat.zero_add]; exact Nat.le_refl _) (by rw [Nat.zero_add]; exact Nat.le_refl _) ?_
  · exact hh s.heap [] _ hR (fun q hq => by cases hq) (LR_ent hsl) rfl
  · intro H locs ls q hR' hl hz hret
    rw [Nat.zero_add, Nat.zero_add]
    match r, hret with
    | none, ⟨h1, h2⟩ => exact W.vret hx hb (by rw [hr, h1]) (fun t ht hW => ⟨rfl, by rw [ht]; exact hR'⟩) hl h2
    | some (.int v), ⟨ty, h1, h2, h3⟩ => exact W.zret (ty := ty) hx hb (by rw [hr, h1]) (nar_ret h2) (fun t ht hW => ⟨rfl, by rw [ht]; exact hR'⟩) hl h3
    | some (.long v), ⟨h1, h2⟩ => exact W.lret hx hb (by rw [hr, h1]) (fun t ht hW => ⟨rfl, by rw [ht]; exact hR'⟩) hl h2
