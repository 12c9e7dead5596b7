section JDK
variable {p : Program} {l : Launch} {e : Env} {R : Room} {s : State} {m : MethodId} {args : Array Value} {below : List Frame} {meth : Method} {c : Code} {Q : State → Prop} {H : Heap} {locs : List Loc} {cells slots pc q v : Nat} {ls : Array Slot} {rest st0 : List Value} {A : Nat → Prop} {u U : State} {vs : List Value} {ch : Int32}
theorem dJ1_canEncode_9a6ad_0 : decode cJ1_canEncode_9a6ad 0 = .ok (.iload_n 0, 1) := by decide +kernel
theorem dJ1_canEncode_9a6ad_1 : decode cJ1_canEncode_9a6ad 1 = .ok (.ifCond .lt 14, 3) := by decide +kernel
theorem dJ1_canEncode_9a6ad_15 : decode cJ1_canEncode_9a6ad 15 = .ok (.iconst 0, 1) := by decide +kernel
theorem dJ1_canEncode_9a6ad_16 : decode cJ1_canEncode_9a6ad 16 = .ok (.ireturn, 1) := by decide +kernel
theorem dJ1_canEncode_9a6ad_4 : decode cJ1_canEncode_9a6ad 4 = .ok (.iload_n 0, 1) := by decide +kernel
theorem dJ1_canEncode_9a6ad_5 : decode cJ1_canEncode_9a6ad 5 = .ok (.sipush 255, 3) := by decide +kernel
theorem dJ1_canEncode_9a6ad_8 : decode cJ1_canEncode_9a6ad 8 = .ok (.if_icmp .gt 7, 3) := by decide +kernel
theorem dJ1_canEncode_9a6ad_11 : decode cJ1_canEncode_9a6ad 11 = .ok (.iconst 1, 1) := by decide +kernel
theorem dJ1_canEncode_9a6ad_12 : decode cJ1_canEncode_9a6ad 12 = .ok (.goto 4, 3) := by decide +kernel
theorem dJ0_isLatin1_aae02_0 : decode cJ0_isLatin1_aae02 0 = .ok (.getstatic 38, 3) := by decide +kernel
theorem dJ0_isLatin1_aae02_3 : decode cJ0_isLatin1_aae02 3 = .ok (.ifCond .eq 14, 3) := by decide +kernel
theorem dJ0_isLatin1_aae02_6 : decode cJ0_isLatin1_aae02 6 = .ok (.aload_n 0, 1) := by decide +kernel
theorem dJ0_isLatin1_aae02_7 : decode cJ0_isLatin1_aae02 7 = .ok (.getfield 15, 3) := by decide +kernel
theorem dJ0_isLatin1_aae02_10 : decode cJ0_isLatin1_aae02 10 = .ok (.ifCond .ne 7, 3) := by decide +kernel
theorem dJ0_isLatin1_aae02_13 : decode cJ0_isLatin1_aae02 13 = .ok (.iconst 1, 1) := by decide +kernel
theorem dJ0_isLatin1_aae02_14 : decode cJ0_isLatin1_aae02 14 = .ok (.goto 4, 3) := by decide +kernel
theorem dJ0_isLatin1_aae02_18 : decode cJ0_isLatin1_aae02 18 = .ok (.ireturn, 1) := by decide +kernel
theorem dJ0_coder_7d493_0 : decode cJ0_coder_7d493 0 = .ok (.getstatic 38, 3) := by decide +kernel
theorem dJ0_coder_7d493_3 : decode cJ0_coder_7d493 3 = .ok (.ifCond .eq 10, 3) := by decide +kernel
theorem dJ0_coder_7d493_6 : decode cJ0_coder_7d493 6 = .ok (.aload_n 0, 1) := by decide +kernel
theorem dJ0_coder_7d493_7 : decode cJ0_coder_7d493 7 = .ok (.getfield 15, 3) := by decide +kernel
theorem dJ0_coder_7d493_10 : decode cJ0_coder_7d493 10 = .ok (.goto 4, 3) := by decide +kernel
theorem dJ0_coder_7d493_14 : decode cJ0_coder_7d493 14 = .ok (.ireturn, 1) := by decide +kernel
theorem dJ0_length_8abf5_0 : decode cJ0_length_8abf5 0 = .ok (.aload_n 0, 1) := by decide +kernel
theorem dJ0_length_8abf5_1 : decode cJ0_length_8abf5 1 = .ok (.getfield 9, 3) := by decide +kernel
theorem dJ0_length_8abf5_4 : decode cJ0_length_8abf5 4 = .ok (.arraylength, 1) := by decide +kernel
theorem dJ0_length_8abf5_5 : decode cJ0_length_8abf5 5 = .ok (.aload_n 0, 1) := by decide +kernel
theorem dJ0_length_8abf5_6 : decode cJ0_length_8abf5 6 = .ok (.invokevirtual 335, 3) := by decide +kernel
theorem dJ0_length_8abf5_9 : decode cJ0_length_8abf5 9 = .ok (.ishr, 1) := by decide +kernel
theorem dJ0_length_8abf5_10 : decode cJ0_length_8abf5 10 = .ok (.ireturn, 1) := by decide +kernel
theorem dJ1_indexOfChar_4cfef_0 : decode cJ1_indexOfChar_4cfef 0 = .ok (.iload_n 1, 1) := by decide +kernel
theorem dJ1_indexOfChar_4cfef_1 : decode cJ1_indexOfChar_4cfef 1 = .ok (.i2b, 1) := by decide +kernel
theorem dJ1_indexOfChar_4cfef_2 : decode cJ1_indexOfChar_4cfef 2 = .ok (.istore 4, 2) := by decide +kernel
theorem dJ1_indexOfChar_4cfef_4 : decode cJ1_indexOfChar_4cfef 4 = .ok (.iload_n 2, 1) := by decide +kernel
theorem dJ1_indexOfChar_4cfef_5 : decode cJ1_indexOfChar_4cfef 5 = .ok (.istore 5, 2) := by decide +kernel
theorem dJ1_indexOfChar_4cfef_7 : decode cJ1_indexOfChar_4cfef 7 = .ok (.iload 5, 2) := by decide +kernel
theorem dJ1_indexOfChar_4cfef_9 : decode cJ1_indexOfChar_4cfef 9 = .ok (.iload_n 3, 1) := by decide +kernel
theorem dJ1_indexOfChar_4cfef_10 : decode cJ1_indexOfChar_4cfef 10 = .ok (.if_icmp .ge 21, 3) := by decide +kernel
theorem dJ1_indexOfChar_4cfef_13 : decode cJ1_indexOfChar_4cfef 13 = .ok (.aload_n 0, 1) := by decide +kernel
theorem dJ1_indexOfChar_4cfef_14 : decode cJ1_indexOfChar_4cfef 14 = .ok (.iload 5, 2) := by decide +kernel
theorem dJ1_indexOfChar_4cfef_16 : decode cJ1_indexOfChar_4cfef 16 = .ok (.baload, 1) := by decide +kernel
theorem dJ1_indexOfChar_4cfef_17 : decode cJ1_indexOfChar_4cfef 17 = .ok (.iload 4, 2) := by decide +kernel
theorem dJ1_indexOfChar_4cfef_19 : decode cJ1_indexOfChar_4cfef 19 = .ok (.if_icmp .ne 6, 3) := by decide +kernel
theorem dJ1_indexOfChar_4cfef_22 : decode cJ1_indexOfChar_4cfef 22 = .ok (.iload 5, 2) := by decide +kernel
theorem dJ1_indexOfChar_4cfef_24 : decode cJ1_indexOfChar_4cfef 24 = .ok (.ireturn, 1) := by decide +kernel
theorem dJ1_indexOfChar_4cfef_25 : decode cJ1_indexOfChar_4cfef 25 = .ok (.iinc 5 1, 3) := by decide +kernel
theorem dJ1_indexOfChar_4cfef_28 : decode cJ1_indexOfChar_4cfef 28 = .ok (.goto (-21), 3) := by decide +kernel
theorem dJ1_indexOfChar_4cfef_31 : decode cJ1_indexOfChar_4cfef 31 = .ok (.iconst (-1), 1) := by decide +kernel
theorem dJ1_indexOfChar_4cfef_32 : decode cJ1_indexOfChar_4cfef 32 = .ok (.ireturn, 1) := by decide +kernel
theorem dJ1_indexOf_4cfef_0 : decode cJ1_indexOf_4cfef 0 = .ok (.iload_n 1, 1) := by decide +kernel
theorem dJ1_indexOf_4cfef_1 : decode cJ1_indexOf_4cfef 1 = .ok (.invokestatic 88, 3) := by decide +kernel
theorem dJ1_indexOf_4cfef_4 : decode cJ1_indexOf_4cfef 4 = .ok (.ifCond .ne 5, 3) := by decide +kernel
theorem dJ1_indexOf_4cfef_7 : decode cJ1_indexOf_4cfef 7 = .ok (.iconst (-1), 1) := by decide +kernel
theorem dJ1_indexOf_4cfef_8 : decode cJ1_indexOf_4cfef 8 = .ok (.ireturn, 1) := by decide +kernel
theorem dJ1_indexOf_4cfef_9 : decode cJ1_indexOf_4cfef 9 = .ok (.iload_n 2, 1) := by decide +kernel
theorem dJ1_indexOf_4cfef_10 : decode cJ1_indexOf_4cfef 10 = .ok (.iconst 0, 1) := by decide +kernel
theorem dJ1_indexOf_4cfef_11 : decode cJ1_indexOf_4cfef 11 = .ok (.invokestatic 92, 3) := by decide +kernel
theorem dJ1_indexOf_4cfef_14 : decode cJ1_indexOf_4cfef 14 = .ok (.istore_n 2, 1) := by decide +kernel
theorem dJ1_indexOf_4cfef_15 : decode cJ1_indexOf_4cfef 15 = .ok (.iload_n 3, 1) := by decide +kernel
theorem dJ1_indexOf_4cfef_16 : decode cJ1_indexOf_4cfef 16 = .ok (.aload_n 0, 1) := by decide +kernel
theorem dJ1_indexOf_4cfef_17 : decode cJ1_indexOf_4cfef 17 = .ok (.arraylength, 1) := by decide +kernel
theorem dJ1_indexOf_4cfef_18 : decode cJ1_indexOf_4cfef 18 = .ok (.invokestatic 38, 3) := by decide +kernel
theorem dJ1_indexOf_4cfef_21 : decode cJ1_indexOf_4cfef 21 = .ok (.istore_n 3, 1) := by decide +kernel
theorem dJ1_indexOf_4cfef_22 : decode cJ1_indexOf_4cfef 22 = .ok (.iload_n 2, 1) := by decide +kernel
theorem dJ1_indexOf_4cfef_23 : decode cJ1_indexOf_4cfef 23 = .ok (.iload_n 3, 1) := by decide +kernel
theorem dJ1_indexOf_4cfef_24 : decode cJ1_indexOf_4cfef 24 = .ok (.if_icmp .lt 5, 3) := by decide +kernel
theorem dJ1_indexOf_4cfef_29 : decode cJ1_indexOf_4cfef 29 = .ok (.aload_n 0, 1) := by decide +kernel
theorem dJ1_indexOf_4cfef_30 : decode cJ1_indexOf_4cfef 30 = .ok (.iload_n 1, 1) := by decide +kernel
theorem dJ1_indexOf_4cfef_31 : decode cJ1_indexOf_4cfef 31 = .ok (.iload_n 2, 1) := by decide +kernel
theorem dJ1_indexOf_4cfef_32 : decode cJ1_indexOf_4cfef 32 = .ok (.iload_n 3, 1) := by decide +kernel
theorem dJ1_indexOf_4cfef_33 : decode cJ1_indexOf_4cfef 33 = .ok (.invokestatic 95, 3) := by decide +kernel
theorem dJ1_indexOf_4cfef_36 : decode cJ1_indexOf_4cfef 36 = .ok (.ireturn, 1) := by decide +kernel
theorem dJ0_indexOf_7cf53_0 : decode cJ0_indexOf_7cf53 0 = .ok (.aload_n 0, 1) := by decide +kernel
theorem dJ0_indexOf_7cf53_1 : decode cJ0_indexOf_7cf53 1 = .ok (.invokevirtual 492, 3) := by decide +kernel
theorem dJ0_indexOf_7cf53_4 : decode cJ0_indexOf_7cf53 4 = .ok (.ifCond .eq 19, 3) := by decide +kernel
theorem dJ0_indexOf_7cf53_7 : decode cJ0_indexOf_7cf53 7 = .ok (.aload_n 0, 1) := by decide +kernel
theorem dJ0_indexOf_7cf53_8 : decode cJ0_indexOf_7cf53 8 = .ok (.getfield 9, 3) := by decide +kernel
theorem dJ0_indexOf_7cf53_11 : decode cJ0_indexOf_7cf53 11 = .ok (.iload_n 1, 1) := by decide +kernel
theorem dJ0_indexOf_7cf53_12 : decode cJ0_indexOf_7cf53 12 = .ok (.iload_n 2, 1) := by decide +kernel
theorem dJ0_indexOf_7cf53_13 : decode cJ0_indexOf_7cf53 13 = .ok (.aload_n 0, 1) := by decide +kernel
theorem dJ0_indexOf_7cf53_14 : decode cJ0_indexOf_7cf53 14 = .ok (.invokevirtual 505, 3) := by decide +kernel
theorem dJ0_indexOf_7cf53_17 : decode cJ0_indexOf_7cf53 17 = .ok (.invokestatic 637, 3) := by decide +kernel
theorem dJ0_indexOf_7cf53_20 : decode cJ0_indexOf_7cf53 20 = .ok (.goto 16, 3) := by decide +kernel
theorem dJ0_indexOf_7cf53_36 : decode cJ0_indexOf_7cf53 36 = .ok (.ireturn, 1) := by decide +kernel
theorem dJ0_indexOf_0f7a4_0 : decode cJ0_indexOf_0f7a4 0 = .ok (.aload_n 0, 1) := by decide +kernel
theorem dJ0_indexOf_0f7a4_1 : decode cJ0_indexOf_0f7a4 1 = .ok (.iload_n 1, 1) := by decide +kernel
theorem dJ0_indexOf_0f7a4_2 : decode cJ0_indexOf_0f7a4 2 = .ok (.iconst 0, 1) := by decide +kernel
theorem dJ0_indexOf_0f7a4_3 : decode cJ0_indexOf_0f7a4 3 = .ok (.invokevirtual 633, 3) := by decide +kernel
theorem dJ0_indexOf_0f7a4_6 : decode cJ0_indexOf_0f7a4 6 = .ok (.ireturn, 1) := by decide +kernel
def tb5 : List Int32 := [112, 100, 116, 119, 117]
/-- the text "pdtwu": a String at q, its bytes at v -/
def SJ (A : Nat → Prop) (q v : Nat) (U : State) (H : Heap) : Prop := va_O "java/lang/String" q A U H ∧ va_OF "java/lang/String" "coder" "B" (.int 0) q A U H ∧ va_OF "java/lang/String" "value" "[B" (.ref v) q A U H ∧ va_T .byte v 5 (fun j => .int (tb5.getD j 0)) A U H ∧ va_Z "java/lang/String" "COMPACT_STRINGS" "Z" (.int 1) A U H
theorem SJ.mv (hvm : u.vm.Alike U.vm) (h : SJ A q v u H) : SJ A q v U H := ⟨va_O.moved hvm h.1, va_OF.moved hvm h.2.1, va_OF.moved hvm h.2.2.1, va_T.moved hvm h.2.2.2.1, va_Z.moved hvm h.2.2.2.2⟩
theorem SJ.kp {H1 : Heap} (h : SJ A q v U H) (hq : ∀ a : Nat, a < H.size → ¬ A a → H1[a]? = H[a]?) : SJ A q v U H1 := ⟨h.1.kept hq, h.2.1.kept hq, h.2.2.1.kept hq, h.2.2.2.1.kept hq, h.2.2.2.2.kept hq⟩
def PJ (A : Nat → Prop) (q v : Nat) (vs : List Value) : Array Value → State → Prop := fun a U => a = vs.toArray ∧ SJ A q v U U.heap
def QJ (r : Int32) : Array Value → State → Outcome → State → Prop := fun _ s o t => o = .returned (some (.int r)) ∧ t.heap = s.heap
theorem bl_J : FrameBlind (PJ A q v vs) := fun _ U _ _ h => ⟨h.1, SJ.mv (State.WarmedH.refl U).alike h.2⟩
theorem pr_J (h : SJ A q v s s.heap) (hS : va_S A s.heap H locs) : ∀ U : State, U.heap = H → s.WarmedH U.vm → PJ A q v vs vs.toArray U := fun _ hU hW => ⟨rfl, by rw [hU]; exact (h.kp hS.2.1).mv hW.alike⟩
theorem j_run {r : Int32} {a' : Array Value} (hr : va_Run p l e R s m args below meth c H locs cells slots 0 0 (F0 m pc ls st0) rest (QJ r a') A) (hS : va_S A s.heap H locs)
    (kk : ∀ (locs1 : List Loc), va_S A s.heap H locs1 → W p l e R s m args below meth c H locs1 cells slots Q (F0 m (pc + 3) ls (.int r :: rest))) : W p l e R s m args below meth c H locs cells slots Q (F0 m pc ls st0) := by
  intro T hT X
  obtain ⟨v, st₀, t, T', LL, h0, X', hL, e1, e2, ⟨hv, hR'⟩, st⟩ := hr T hT X
  have hv' : v = some (.int r) := by
    have := hv
    simp only [Outcome.returned.injEq] at this
    exact this
  subst hv'
  obtain ⟨t2, a1, b1⟩ := kk (locs ++ LL) ⟨hS.1, hS.2.1, fun q hq => (List.mem_append.mp hq).elim (hS.2.2 q) (hL q)⟩ T' (by rw [e1, hR', h0]) X'
  exact ⟨t2, st t2 a1, b1⟩
theorem goodJ {X : List Cond} (h : ∀ w ∈ X, w ∈ wsL_law) : GoodIn wsL_law X := good_of h
def wsJ (y : MethodName) (cc : ByteArray) (n : Nat) (ret : Option FieldType) : List Cond := Cond.code y cc n ret :: wsL_law
theorem j_cwS {own : String} {index maxL n : Nat} {y : MethodName} {cc : ByteArray} {ret : Option FieldType} {rm : Room} (hts : ∀ w ∈ wsL_law, w.before args s = true) (h1 : Cond.methodLink own index y ∈ wsL_law) (h2 : Cond.static y ∈ wsL_law) (h3 : Cond.initialized y.cls ∈ wsL_law) (h4 : Cond.code y cc maxL ret ∈ wsL_law) (hrc : rm.cells = 0) (hrs : rm.slots = 0) (hd : y.cls ≠ "java/lang/invoke/MethodHandle" ∧ y.cls ≠ "java/lang/invoke/VarHandle" ∧ Option.map (fun d => d.parameters.length) (parseMethodDescriptor y.desc) = some n) (hR : rm.frames + 1 ≤ R.frames ∧ 8 + (maxL + 11) + rm.locals ≤ R.locals) : CallB R s args own index y cc maxL ret (wsJ y cc maxL ret) rm 0 0 n ∧ (Cond.static y).before args s = true :=
  va_cwS n hts (goodJ (fun w hw => by
    rcases List.mem_append.mp hw with hw | hw
    · simp only [List.mem_cons, List.not_mem_nil, or_false] at hw
      rcases hw with rfl | rfl | rfl
      · exact h1
      · exact h2
      · exact h3
    · rcases List.mem_cons.mp hw with rfl | hw
      · exact h4
      · exact hw)) rfl hrc hrs hd hR
theorem j_cwV {own C : String} {index maxL n : Nat} {y : MethodName} {cc : ByteArray} {ret : Option FieldType} {rm : Room} (hts : ∀ w ∈ wsL_law, w.before args s = true) (h1 : Cond.methodLink own index y ∈ wsL_law) (h2 : Cond.instanceMethod y ∈ wsL_law) (h3 : Cond.selects C y y ∈ wsL_law) (h5 : Cond.initialized C ∈ wsL_law) (h4 : Cond.code y cc maxL ret ∈ wsL_law) (hrc : rm.cells = 0) (hrs : rm.slots = 0) (hd : y.cls = C ∧ y.cls ≠ "java/lang/invoke/MethodHandle" ∧ y.cls ≠ "java/lang/invoke/VarHandle" ∧ Option.map (fun d => d.parameters.length) (parseMethodDescriptor y.desc) = some n) (hR : rm.frames + 1 ≤ R.frames ∧ 8 + (maxL + 11) + rm.locals ≤ R.locals) : CallW R s args own C index y cc maxL ret (wsJ y cc maxL ret) rm 0 0 n :=
  cwV n hts (goodJ (fun w hw => by
    rcases List.mem_append.mp hw with hw | hw
    · simp only [List.mem_cons, List.not_mem_nil, or_false] at hw
      rcases hw with rfl | rfl | rfl | rfl
      · exact h1
      · exact h2
      · exact h3
      · exact h5
    · rcases List.mem_cons.mp hw with rfl | hw
      · exact h4
      · exact hw)) rfl hrc hrs hd hR
theorem j_can : Met l yJ1_canEncode_9a6ad (wsJ yJ1_canEncode_9a6ad cJ1_canEncode_9a6ad 1 (some .boolean)) { frames := 0, cells := 0, slots := 0, locals := 0 } (PJ A q v [.int ch]) (QJ (if ch < 0 ∨ 255 < ch then 0 else 1)) 0 0 A := by
  refine Met.ofW (cc := cJ1_canEncode_9a6ad) (maxL := 1) (ret := (some .boolean)) (by decide) rfl ?_
  intro p e s m args below meth c s₁ B hml hv
  obtain ⟨rfl, hJ⟩ := hv
  have hx := B.exec
  have hb := B.bytes
  have hr := B.returns
  have hts0 := atoms_spec (ws := wsJ yJ1_canEncode_9a6ad cJ1_canEncode_9a6ad 1 (some .boolean)) B.pre
  have hts : ∀ w ∈ wsL_law, w.before ([.int ch] : List Value).toArray s = true := fun w hw => hts0 w (List.mem_cons_of_mem _ hw)
  have hown : s.vm.findClass RJ1 = some m.cls := findClass_of_methodNamed B.named
  have hlocks := B.notSynchronized
  have hS : va_S A s.heap s.heap [] := va_S.rf
  have hl := lv_entry ([.int ch]) (n := 1) (Nat.le_of_ble_eq_true rfl)
  rw [lg_entry_eq]
  generalize (lg_sl ([.int ch]) ++ List.replicate (1 - (lg_sl ([.int ch])).length) Slot.unset).toArray = ls at hl ⊢
  have hl : lv_has ls 1 [(0, .int ch)] := hl
  refine lv_iload_n hx hb dJ1_canEncode_9a6ad_0 rfl (lv_at hl 0 rfl) ?_
  refine lv_if_lt hx hb (tgt := 15) dJ1_canEncode_9a6ad_1 (by decide) (fun h0 => ?_) (fun h0 => ?_)
  · rw [if_pos (Or.inl h0)]
    refine lv_iconst hx hb dJ1_canEncode_9a6ad_15 rfl ?_
    exact W.zret (ty := .boolean) hx hb hr (by decide) (fun t ht hW => ⟨rfl, ht⟩) hS.2.2 dJ1_canEncode_9a6ad_16
  refine lv_iload_n hx hb dJ1_canEncode_9a6ad_4 rfl (lv_at hl 0 rfl) ?_
  refine lv_sipush hx hb dJ1_canEncode_9a6ad_5 (v := 255) (by decide) ?_
  refine lv_icmp_gt hx hb (tgt := 15) dJ1_canEncode_9a6ad_8 (by decide) (fun h1 => ?_) (fun h1 => ?_)
  · rw [if_pos (Or.inr h1)]
    refine lv_iconst hx hb dJ1_canEncode_9a6ad_15 rfl ?_
    exact W.zret (ty := .boolean) hx hb hr (by decide) (fun t ht hW => ⟨rfl, ht⟩) hS.2.2 dJ1_canEncode_9a6ad_16
  rw [if_neg (fun h => h.elim h0 h1)]
  refine lv_iconst hx hb dJ1_canEncode_9a6ad_11 rfl ?_
  refine lv_goto hx hb (tgt := 16) dJ1_canEncode_9a6ad_12 (by decide) ?_
  exact W.zret (ty := .boolean) hx hb hr (by decide) (fun t ht hW => ⟨rfl, ht⟩) hS.2.2 dJ1_canEncode_9a6ad_16
theorem j_lat : Met l yJ0_isLatin1_aae02 (wsJ yJ0_isLatin1_aae02 cJ0_isLatin1_aae02 1 (some .boolean)) { frames := 0, cells := 0, slots := 0, locals := 0 } (PJ A q v [.ref q]) (QJ (1)) 0 0 A := by
  refine Met.ofW (cc := cJ0_isLatin1_aae02) (maxL := 1) (ret := (some .boolean)) (by decide) rfl ?_
  intro p e s m args below meth c s₁ B hml hv
  obtain ⟨rfl, hJ⟩ := hv
  have hx := B.exec
  have hb := B.bytes
  have hr := B.returns
  have hts0 := atoms_spec (ws := wsJ yJ0_isLatin1_aae02 cJ0_isLatin1_aae02 1 (some .boolean)) B.pre
  have hts : ∀ w ∈ wsL_law, w.before ([.ref q] : List Value).toArray s = true := fun w hw => hts0 w (List.mem_cons_of_mem _ hw)
  have hown : s.vm.findClass RJ0 = some m.cls := findClass_of_methodNamed B.named
  have hlocks := B.notSynchronized
  have hS : va_S A s.heap s.heap [] := va_S.rf
  have hl := lv_entry ([.ref q]) (n := 1) (Nat.le_of_ble_eq_true rfl)
  rw [lg_entry_eq]
  generalize (lg_sl ([.ref q]) ++ List.replicate (1 - (lg_sl ([.ref q])).length) Slot.unset).toArray = ls at hl ⊢
  have hl : lv_has ls 1 [(0, .ref q)] := hl
  refine va_gets hx hb hJ.2.2.2.2 hS hown (hts _ (inP14 _ (List.mem_of_getElem? (i := 22) rfl))) (fun _ h => h) dJ0_isLatin1_aae02_0 ?_
  refine lv_if_eq hx hb (tgt := 17) dJ0_isLatin1_aae02_3 (by decide) (fun h => absurd h (by decide)) (fun _ => ?_)
  refine lv_aload_n hx hb dJ0_isLatin1_aae02_6 rfl (lv_at hl 0 rfl) ?_
  refine vk_getf hx hb hJ.2.1 hS hown (hts _ (inP14 _ (List.mem_of_getElem? (i := 23) rfl))) (fun _ h => h) dJ0_isLatin1_aae02_7 ?_
  refine lv_if_ne hx hb (tgt := 17) dJ0_isLatin1_aae02_10 (by decide) (fun h => absurd rfl h) (fun _ => ?_)
  refine lv_iconst hx hb dJ0_isLatin1_aae02_13 rfl ?_
  refine lv_goto hx hb (tgt := 18) dJ0_isLatin1_aae02_14 (by decide) ?_
  exact W.zret (ty := .boolean) hx hb hr (by decide) (fun t ht hW => ⟨rfl, ht⟩) hS.2.2 dJ0_isLatin1_aae02_18
theorem j_cod : Met l yJ0_coder_7d493 (wsJ yJ0_coder_7d493 cJ0_coder_7d493 1 (some .byte)) { frames := 0, cells := 0, slots := 0, locals := 0 } (PJ A q v [.ref q]) (QJ (0)) 0 0 A := by
  refine Met.ofW (cc := cJ0_coder_7d493) (maxL := 1) (ret := (some .byte)) (by decide) rfl ?_
  intro p e s m args below meth c s₁ B hml hv
  obtain ⟨rfl, hJ⟩ := hv
  have hx := B.exec
  have hb := B.bytes
  have hr := B.returns
  have hts0 := atoms_spec (ws := wsJ yJ0_coder_7d493 cJ0_coder_7d493 1 (some .byte)) B.pre
  have hts : ∀ w ∈ wsL_law, w.before ([.ref q] : List Value).toArray s = true := fun w hw => hts0 w (List.mem_cons_of_mem _ hw)
  have hown : s.vm.findClass RJ0 = some m.cls := findClass_of_methodNamed B.named
  have hlocks := B.notSynchronized
  have hS : va_S A s.heap s.heap [] := va_S.rf
  have hl := lv_entry ([.ref q]) (n := 1) (Nat.le_of_ble_eq_true rfl)
  rw [lg_entry_eq]
  generalize (lg_sl ([.ref q]) ++ List.replicate (1 - (lg_sl ([.ref q])).length) Slot.unset).toArray = ls at hl ⊢
  have hl : lv_has ls 1 [(0, .ref q)] := hl
  refine va_gets hx hb hJ.2.2.2.2 hS hown (hts _ (inP14 _ (List.mem_of_getElem? (i := 22) rfl))) (fun _ h => h) dJ0_coder_7d493_0 ?_
  refine lv_if_eq hx hb (tgt := 13) dJ0_coder_7d493_3 (by decide) (fun h => absurd h (by decide)) (fun _ => ?_)
  refine lv_aload_n hx hb dJ0_coder_7d493_6 rfl (lv_at hl 0 rfl) ?_
  refine vk_getf hx hb hJ.2.1 hS hown (hts _ (inP14 _ (List.mem_of_getElem? (i := 23) rfl))) (fun _ h => h) dJ0_coder_7d493_7 ?_
  refine lv_goto hx hb (tgt := 14) dJ0_coder_7d493_10 (by decide) ?_
  exact W.zret (ty := .byte) hx hb hr (by decide) (fun t ht hW => ⟨rfl, ht⟩) hS.2.2 dJ0_coder_7d493_14
theorem j_len : Met l yJ0_length_8abf5 (wsJ yJ0_length_8abf5 cJ0_length_8abf5 1 (some .int)) { frames := 1, cells := 0, slots := 0, locals := 20 } (PJ A q v [.ref q]) (QJ (5)) 0 0 A := by
  refine Met.ofW (cc := cJ0_length_8abf5) (maxL := 1) (ret := (some .int)) (by decide) rfl ?_
  intro p e s m args below meth c s₁ B hml hv
  obtain ⟨rfl, hJ⟩ := hv
  have hx := B.exec
  have hb := B.bytes
  have hr := B.returns
  have hts0 := atoms_spec (ws := wsJ yJ0_length_8abf5 cJ0_length_8abf5 1 (some .int)) B.pre
  have hts : ∀ w ∈ wsL_law, w.before ([.ref q] : List Value).toArray s = true := fun w hw => hts0 w (List.mem_cons_of_mem _ hw)
  have hown : s.vm.findClass RJ0 = some m.cls := findClass_of_methodNamed B.named
  have hlocks := B.notSynchronized
  have hS : va_S A s.heap s.heap [] := va_S.rf
  have hl := lv_entry ([.ref q]) (n := 1) (Nat.le_of_ble_eq_true rfl)
  rw [lg_entry_eq]
  generalize (lg_sl ([.ref q]) ++ List.replicate (1 - (lg_sl ([.ref q])).length) Slot.unset).toArray = ls at hl ⊢
  have hl : lv_has ls 1 [(0, .ref q)] := hl
  refine lv_aload_n hx hb dJ0_length_8abf5_0 rfl (lv_at hl 0 rfl) ?_
  refine vk_getf hx hb hJ.2.2.1 hS hown (hts _ (inP14 _ (List.mem_of_getElem? (i := 17) rfl))) (fun _ h => h) dJ0_length_8abf5_1 ?_
  refine va_tlen hx hb hJ.2.2.2.1 hS (v := 5) (by decide) dJ0_length_8abf5_4 ?_
  refine lv_aload_n hx hb dJ0_length_8abf5_5 rfl (lv_at hl 0 rfl) ?_
  refine j_run (va_runV (As := []) (b := q) (C := RJ0) (Ts := wsL_law) (own := RJ0) ⟨hx, hb, hml, hown, hts⟩ (j_cod (l := l) (A := A) (q := q) (v := v)) (j_cwV (n := 0) hts (inP15 _ (List.mem_of_getElem? (i := 4) rfl)) (inP15 _ (List.mem_of_getElem? (i := 5) rfl)) (inP15 _ (List.mem_of_getElem? (i := 6) rfl)) (inP14 _ (List.mem_of_getElem? (i := 11) rfl)) (inP15 _ (List.mem_of_getElem? (i := 7) rfl)) rfl rfl (by decide +kernel) (by decide)) ⟨bl_J, (let ⟨cl0, z1, z2, z3, _⟩ := hJ.1.kept hS.2.1; ⟨cl0, z1, z2, z3⟩), pr_J hJ hS⟩ rfl rfl hl.1 rfl (by show 2 * 0 + _ ≤ 8; exact Nat.le_of_ble_eq_true rfl) dJ0_length_8abf5_6 ⟨Nat.zero_le _, Nat.zero_le _⟩) hS (fun locs1 hS => ?_)
  refine lv_ishr hx hb dJ0_length_8abf5_9 ?_
  exact W.zret (v := 5) (ty := .int) hx hb hr (by decide) (fun t ht hW => ⟨rfl, ht⟩) hS.2.2 dJ0_length_8abf5_10
theorem tb_n : ∀ n, n < 256 → (((112 : Int32) = (Int32.ofNat n).toInt8.toInt32) = (Int32.ofNat n = 112)) ∧ (((100 : Int32) = (Int32.ofNat n).toInt8.toInt32) = (Int32.ofNat n = 100)) ∧ (((116 : Int32) = (Int32.ofNat n).toInt8.toInt32) = (Int32.ofNat n = 116)) ∧ (((119 : Int32) = (Int32.ofNat n).toInt8.toInt32) = (Int32.ofNat n = 119)) ∧ (((117 : Int32) = (Int32.ofNat n).toInt8.toInt32) = (Int32.ofNat n = 117)) := by
  have h : ∀ n, n < 256 → (((112 : Int32) = (Int32.ofNat n).toInt8.toInt32) ↔ (Int32.ofNat n = 112)) ∧ (((100 : Int32) = (Int32.ofNat n).toInt8.toInt32) ↔ (Int32.ofNat n = 100)) ∧ (((116 : Int32) = (Int32.ofNat n).toInt8.toInt32) ↔ (Int32.ofNat n = 116)) ∧ (((119 : Int32) = (Int32.ofNat n).toInt8.toInt32) ↔ (Int32.ofNat n = 119)) ∧ (((117 : Int32) = (Int32.ofNat n).toInt8.toInt32) ↔ (Int32.ofNat n = 117)) := by decide +kernel
  intro n hn
  obtain ⟨h1, h2, h3, h4, h5⟩ := h n hn
  exact ⟨propext h1, propext h2, propext h3, propext h4, propext h5⟩
theorem tb_c (h0 : ¬ ch < 0) (h1 : ¬ 255 < ch) : ∃ n, n < 256 ∧ ch = Int32.ofNat n := by
  have h0' : nI 0 ≤ ch := Int32.not_lt.mp h0
  obtain ⟨k, rfl, hk⟩ := nn_of h0'
  have h1' : ¬ nI 255 < nI k := h1
  rw [ni_lt (by omega) hk] at h1'
  exact ⟨k, by omega, rfl⟩
theorem j_chr (h0 : ¬ ch < 0) (h1 : ¬ 255 < ch) : Met l yJ1_indexOfChar_4cfef (wsJ yJ1_indexOfChar_4cfef cJ1_indexOfChar_4cfef 6 (some .int)) { frames := 0, cells := 0, slots := 0, locals := 0 } (PJ A q v [.ref v, .int ch, .int 0, .int 5]) (QJ (kIx ch)) 0 0 A := by
  refine Met.ofW (cc := cJ1_indexOfChar_4cfef) (maxL := 6) (ret := (some .int)) (by decide) rfl ?_
  intro p e s m args below meth c s₁ B hml hv
  obtain ⟨rfl, hJ⟩ := hv
  have hx := B.exec
  have hb := B.bytes
  have hr := B.returns
  have hts0 := atoms_spec (ws := wsJ yJ1_indexOfChar_4cfef cJ1_indexOfChar_4cfef 6 (some .int)) B.pre
  have hts : ∀ w ∈ wsL_law, w.before ([.ref v, .int ch, .int 0, .int 5] : List Value).toArray s = true := fun w hw => hts0 w (List.mem_cons_of_mem _ hw)
  have hown : s.vm.findClass RJ1 = some m.cls := findClass_of_methodNamed B.named
  have hlocks := B.notSynchronized
  have hS : va_S A s.heap s.heap [] := va_S.rf
  have hl := lv_entry ([.ref v, .int ch, .int 0, .int 5]) (n := 6) (Nat.le_of_ble_eq_true rfl)
  rw [lg_entry_eq]
  generalize (lg_sl ([.ref v, .int ch, .int 0, .int 5]) ++ List.replicate (6 - (lg_sl ([.ref v, .int ch, .int 0, .int 5])).length) Slot.unset).toArray = ls at hl ⊢
  have hl : lv_has ls 6 [(0, .ref v), (1, .int ch), (2, .int 0), (3, .int 5)] := hl
  obtain ⟨n, hn, rfl⟩ := tb_c h0 h1
  obtain ⟨t1, t2, t3, t4, t5⟩ := tb_n n hn
  refine lv_iload_n hx hb dJ1_indexOfChar_4cfef_0 rfl (lv_at hl 1 rfl) ?_
  refine lv_i2b hx hb dJ1_indexOfChar_4cfef_1 rfl ?_
  refine lv_istore hx hb dJ1_indexOfChar_4cfef_2 hl (by decide) rfl (fun ls2 hl2 => ?_)
  generalize hcc : (Int32.ofNat n).toInt8.toInt32 = cc at *
  have hl2 : lv_has ls2 6 [(4, .int cc), (0, .ref v), (1, .int (Int32.ofNat n)), (2, .int 0), (3, .int 5)] := hl2
  refine lv_iload_n hx hb dJ1_indexOfChar_4cfef_4 rfl (lv_at hl2 3 rfl) ?_
  refine lv_istore hx hb dJ1_indexOfChar_4cfef_5 hl2 (by decide) rfl (fun ls3 hl3 => ?_)
  have hl3 : lv_has ls3 6 [(5, .int 0), (4, .int cc), (0, .ref v), (1, .int (Int32.ofNat n)), (2, .int 0), (3, .int 5)] := hl3
  refine lv_iload hx hb dJ1_indexOfChar_4cfef_7 (lv_at hl3 0 rfl) ?_
  refine lv_iload_n hx hb dJ1_indexOfChar_4cfef_9 rfl (lv_at hl3 5 rfl) ?_
  refine lv_icmp_ge hx hb (tgt := 31) dJ1_indexOfChar_4cfef_10 (by decide) (fun h => absurd h (by decide)) (fun _ => ?_)
  refine lv_aload_n hx hb dJ1_indexOfChar_4cfef_13 rfl (lv_at hl3 2 rfl) ?_
  refine lv_iload hx hb dJ1_indexOfChar_4cfef_14 (lv_at hl3 0 rfl) ?_
  refine va_tb hx hb hJ.2.2.2.1 hS (i := 0) (by unfold vp_in; decide) (v := .int 112) rfl dJ1_indexOfChar_4cfef_16 ?_
  refine lv_iload hx hb dJ1_indexOfChar_4cfef_17 (lv_at hl3 1 rfl) ?_
  by_cases g0 : Int32.ofNat n = 112
  · refine lv_icmp_ne hx hb (tgt := 25) dJ1_indexOfChar_4cfef_19 (by decide) (fun h => absurd (by rw [t1]; exact g0) h) (fun _ => ?_)
    refine lv_iload hx hb dJ1_indexOfChar_4cfef_22 (lv_at hl3 0 rfl) ?_
    have hk : kIx (Int32.ofNat n) = 0 := by rw [g0]; rfl
    rw [hk]
    exact W.zret (ty := .int) hx hb hr (by decide) (fun t ht hW => ⟨rfl, ht⟩) hS.2.2 dJ1_indexOfChar_4cfef_24
  refine lv_icmp_ne hx hb (tgt := 25) dJ1_indexOfChar_4cfef_19 (by decide) (fun _ => ?_) (fun h => absurd (by rw [← t1]; exact h) g0)
  refine lv_iinc hx hb (k := 0) dJ1_indexOfChar_4cfef_25 hl3 rfl (v := 1) (by decide) (by decide) rfl (fun ls4 hl4 => ?_)
  have hl4 : lv_has ls4 6 [(5, .int 1), (4, .int cc), (0, .ref v), (1, .int (Int32.ofNat n)), (2, .int 0), (3, .int 5)] := hl4
  refine lv_goto hx hb (tgt := 7) dJ1_indexOfChar_4cfef_28 (by decide) ?_
  refine lv_iload hx hb dJ1_indexOfChar_4cfef_7 (lv_at hl4 0 rfl) ?_
  refine lv_iload_n hx hb dJ1_indexOfChar_4cfef_9 rfl (lv_at hl4 5 rfl) ?_
  refine lv_icmp_ge hx hb (tgt := 31) dJ1_indexOfChar_4cfef_10 (by decide) (fun h => absurd h (by decide)) (fun _ => ?_)
  refine lv_aload_n hx hb dJ1_indexOfChar_4cfef_13 rfl (lv_at hl4 2 rfl) ?_
  refine lv_iload hx hb dJ1_indexOfChar_4cfef_14 (lv_at hl4 0 rfl) ?_
  refine va_tb hx hb hJ.2.2.2.1 hS (i := 1) (by unfold vp_in; decide) (v := .int 100) rfl dJ1_indexOfChar_4cfef_16 ?_
  refine lv_iload hx hb dJ1_indexOfChar_4cfef_17 (lv_at hl4 1 rfl) ?_
  by_cases g1 : Int32.ofNat n = 100
  · refine lv_icmp_ne hx hb (tgt := 25) dJ1_indexOfChar_4cfef_19 (by decide) (fun h => absurd (by rw [t2]; exact g1) h) (fun _ => ?_)
    refine lv_iload hx hb dJ1_indexOfChar_4cfef_22 (lv_at hl4 0 rfl) ?_
    have hk : kIx (Int32.ofNat n) = 1 := by rw [g1]; rfl
    rw [hk]
    exact W.zret (ty := .int) hx hb hr (by decide) (fun t ht hW => ⟨rfl, ht⟩) hS.2.2 dJ1_indexOfChar_4cfef_24
  refine lv_icmp_ne hx hb (tgt := 25) dJ1_indexOfChar_4cfef_19 (by decide) (fun _ => ?_) (fun h => absurd (by rw [← t2]; exact h) g1)
  refine lv_iinc hx hb (k := 0) dJ1_indexOfChar_4cfef_25 hl4 rfl (v := 2) (by decide) (by decide) rfl (fun ls5 hl5 => ?_)
  have hl5 : lv_has ls5 6 [(5, .int 2), (4, .int cc), (0, .ref v), (1, .int (Int32.ofNat n)), (2, .int 0), (3, .int 5)] := hl5
  refine lv_goto hx hb (tgt := 7) dJ1_indexOfChar_4cfef_28 (by decide) ?_
  refine lv_iload hx hb dJ1_indexOfChar_4cfef_7 (lv_at hl5 0 rfl) ?_
  refine lv_iload_n hx hb dJ1_indexOfChar_4cfef_9 rfl (lv_at hl5 5 rfl) ?_
  refine lv_icmp_ge hx hb (tgt := 31) dJ1_indexOfChar_4cfef_10 (by decide) (fun h => absurd h (by decide)) (fun _ => ?_)
  refine lv_aload_n hx hb dJ1_indexOfChar_4cfef_13 rfl (lv_at hl5 2 rfl) ?_
  refine lv_iload hx hb dJ1_indexOfChar_4cfef_14 (lv_at hl5 0 rfl) ?_
  refine va_tb hx hb hJ.2.2.2.1 hS (i := 2) (by unfold vp_in; decide) (v := .int 116) rfl dJ1_indexOfChar_4cfef_16 ?_
  refine lv_iload hx hb dJ1_indexOfChar_4cfef_17 (lv_at hl5 1 rfl) ?_
  by_cases g2 : Int32.ofNat n = 116
  · refine lv_icmp_ne hx hb (tgt := 25) dJ1_indexOfChar_4cfef_19 (by decide) (fun h => absurd (by rw [t3]; exact g2) h) (fun _ => ?_)
    refine lv_iload hx hb dJ1_indexOfChar_4cfef_22 (lv_at hl5 0 rfl) ?_
    have hk : kIx (Int32.ofNat n) = 2 := by rw [g2]; rfl
    rw [hk]
    exact W.zret (ty := .int) hx hb hr (by decide) (fun t ht hW => ⟨rfl, ht⟩) hS.2.2 dJ1_indexOfChar_4cfef_24
  refine lv_icmp_ne hx hb (tgt := 25) dJ1_indexOfChar_4cfef_19 (by decide) (fun _ => ?_) (fun h => absurd (by rw [← t3]; exact h) g2)
  refine lv_iinc hx hb (k := 0) dJ1_indexOfChar_4cfef_25 hl5 rfl (v := 3) (by decide) (by decide) rfl (fun ls6 hl6 => ?_)
  have hl6 : lv_has ls6 6 [(5, .int 3), (4, .int cc), (0, .ref v), (1, .int (Int32.ofNat n)), (2, .int 0), (3, .int 5)] := hl6
  refine lv_goto hx hb (tgt := 7) dJ1_indexOfChar_4cfef_28 (by decide) ?_
  refine lv_iload hx hb dJ1_indexOfChar_4cfef_7 (lv_at hl6 0 rfl) ?_
  refine lv_iload_n hx hb dJ1_indexOfChar_4cfef_9 rfl (lv_at hl6 5 rfl) ?_
  refine lv_icmp_ge hx hb (tgt := 31) dJ1_indexOfChar_4cfef_10 (by decide) (fun h => absurd h (by decide)) (fun _ => ?_)
  refine lv_aload_n hx hb dJ1_indexOfChar_4cfef_13 rfl (lv_at hl6 2 rfl) ?_
  refine lv_iload hx hb dJ1_indexOfChar_4cfef_14 (lv_at hl6 0 rfl) ?_
  refine va_tb hx hb hJ.2.2.2.1 hS (i := 3) (by unfold vp_in; decide) (v := .int 119) rfl dJ1_indexOfChar_4cfef_16 ?_
  refine lv_iload hx hb dJ1_indexOfChar_4cfef_17 (lv_at hl6 1 rfl) ?_
  by_cases g3 : Int32.ofNat n = 119
  · refine lv_icmp_ne hx hb (tgt := 25) dJ1_indexOfChar_4cfef_19 (by decide) (fun h => absurd (by rw [t4]; exact g3) h) (fun _ => ?_)
    refine lv_iload hx hb dJ1_indexOfChar_4cfef_22 (lv_at hl6 0 rfl) ?_
    have hk : kIx (Int32.ofNat n) = 3 := by rw [g3]; rfl
    rw [hk]
    exact W.zret (ty := .int) hx hb hr (by decide) (fun t ht hW => ⟨rfl, ht⟩) hS.2.2 dJ1_indexOfChar_4cfef_24
  refine lv_icmp_ne hx hb (tgt := 25) dJ1_indexOfChar_4cfef_19 (by decide) (fun _ => ?_) (fun h => absurd (by rw [← t4]; exact h) g3)
  refine lv_iinc hx hb (k := 0) dJ1_indexOfChar_4cfef_25 hl6 rfl (v := 4) (by decide) (by decide) rfl (fun ls7 hl7 => ?_)
  have hl7 : lv_has ls7 6 [(5, .int 4), (4, .int cc), (0, .ref v), (1, .int (Int32.ofNat n)), (2, .int 0), (3, .int 5)] := hl7
  refine lv_goto hx hb (tgt := 7) dJ1_indexOfChar_4cfef_28 (by decide) ?_
  refine lv_iload hx hb dJ1_indexOfChar_4cfef_7 (lv_at hl7 0 rfl) ?_
  refine lv_iload_n hx hb dJ1_indexOfChar_4cfef_9 rfl (lv_at hl7 5 rfl) ?_
  refine lv_icmp_ge hx hb (tgt := 31) dJ1_indexOfChar_4cfef_10 (by decide) (fun h => absurd h (by decide)) (fun _ => ?_)
  refine lv_aload_n hx hb dJ1_indexOfChar_4cfef_13 rfl (lv_at hl7 2 rfl) ?_
  refine lv_iload hx hb dJ1_indexOfChar_4cfef_14 (lv_at hl7 0 rfl) ?_
  refine va_tb hx hb hJ.2.2.2.1 hS (i := 4) (by unfold vp_in; decide) (v := .int 117) rfl dJ1_indexOfChar_4cfef_16 ?_
  refine lv_iload hx hb dJ1_indexOfChar_4cfef_17 (lv_at hl7 1 rfl) ?_
  by_cases g4 : Int32.ofNat n = 117
  · refine lv_icmp_ne hx hb (tgt := 25) dJ1_indexOfChar_4cfef_19 (by decide) (fun h => absurd (by rw [t5]; exact g4) h) (fun _ => ?_)
    refine lv_iload hx hb dJ1_indexOfChar_4cfef_22 (lv_at hl7 0 rfl) ?_
    have hk : kIx (Int32.ofNat n) = 4 := by rw [g4]; rfl
    rw [hk]
    exact W.zret (ty := .int) hx hb hr (by decide) (fun t ht hW => ⟨rfl, ht⟩) hS.2.2 dJ1_indexOfChar_4cfef_24
  refine lv_icmp_ne hx hb (tgt := 25) dJ1_indexOfChar_4cfef_19 (by decide) (fun _ => ?_) (fun h => absurd (by rw [← t5]; exact h) g4)
  refine lv_iinc hx hb (k := 0) dJ1_indexOfChar_4cfef_25 hl7 rfl (v := 5) (by decide) (by decide) rfl (fun ls8 hl8 => ?_)
  have hl8 : lv_has ls8 6 [(5, .int 5), (4, .int cc), (0, .ref v), (1, .int (Int32.ofNat n)), (2, .int 0), (3, .int 5)] := hl8
  refine lv_goto hx hb (tgt := 7) dJ1_indexOfChar_4cfef_28 (by decide) ?_
  refine lv_iload hx hb dJ1_indexOfChar_4cfef_7 (lv_at hl8 0 rfl) ?_
  refine lv_iload_n hx hb dJ1_indexOfChar_4cfef_9 rfl (lv_at hl8 5 rfl) ?_
  refine lv_icmp_ge hx hb (tgt := 31) dJ1_indexOfChar_4cfef_10 (by decide) (fun _ => ?_) (fun h => absurd (by decide) h)
  refine lv_iconst hx hb dJ1_indexOfChar_4cfef_31 rfl ?_
  have hk : kIx (Int32.ofNat n) = -1 := by unfold kIx; rw [if_neg g0, if_neg g1, if_neg g2, if_neg g3, if_neg g4]
  rw [hk]
  exact W.zret (ty := .int) hx hb hr (by decide) (fun t ht hW => ⟨rfl, ht⟩) hS.2.2 dJ1_indexOfChar_4cfef_32
theorem kIx_out (h : ch < 0 ∨ 255 < ch) : kIx ch = -1 := by
  unfold kIx
  have hn : ∀ z : Int32, (¬ z < 0) → (¬ 255 < z) → ¬ ch = z := fun z h1 h2 e => by subst e; exact h.elim h1 h2
  rw [if_neg (hn 112 (by decide) (by decide)), if_neg (hn 100 (by decide) (by decide)), if_neg (hn 116 (by decide) (by decide)), if_neg (hn 119 (by decide) (by decide)), if_neg (hn 117 (by decide) (by decide))]
theorem j_ix4 : Met l yJ1_indexOf_4cfef (wsJ yJ1_indexOf_4cfef cJ1_indexOf_4cfef 4 (some .int)) { frames := 1, cells := 0, slots := 0, locals := 25 } (PJ A q v [.ref v, .int ch, .int 0, .int 5]) (QJ (kIx ch)) 0 0 A := by
  refine Met.ofW (cc := cJ1_indexOf_4cfef) (maxL := 4) (ret := (some .int)) (by decide) rfl ?_
  intro p e s m args below meth c s₁ B hml hv
  obtain ⟨rfl, hJ⟩ := hv
  have hx := B.exec
  have hb := B.bytes
  have hr := B.returns
  have hts0 := atoms_spec (ws := wsJ yJ1_indexOf_4cfef cJ1_indexOf_4cfef 4 (some .int)) B.pre
  have hts : ∀ w ∈ wsL_law, w.before ([.ref v, .int ch, .int 0, .int 5] : List Value).toArray s = true := fun w hw => hts0 w (List.mem_cons_of_mem _ hw)
  have hown : s.vm.findClass RJ1 = some m.cls := findClass_of_methodNamed B.named
  have hlocks := B.notSynchronized
  have hS : va_S A s.heap s.heap [] := va_S.rf
  have hl := lv_entry ([.ref v, .int ch, .int 0, .int 5]) (n := 4) (Nat.le_of_ble_eq_true rfl)
  rw [lg_entry_eq]
  generalize (lg_sl ([.ref v, .int ch, .int 0, .int 5]) ++ List.replicate (4 - (lg_sl ([.ref v, .int ch, .int 0, .int 5])).length) Slot.unset).toArray = ls at hl ⊢
  have hl : lv_has ls 4 [(0, .ref v), (1, .int ch), (2, .int 0), (3, .int 5)] := hl
  refine lv_iload_n hx hb dJ1_indexOf_4cfef_0 rfl (lv_at hl 1 rfl) ?_
  refine j_run (va_runS (As := [.int ch]) (Ts := wsL_law) (own := RJ1) ⟨hx, hb, hml, hown, hts⟩ (j_can (l := l) (A := A) (q := q) (v := v) (ch := ch)) (j_cwS (n := 1) hts (inP15 _ (List.mem_of_getElem? (i := 16) rfl)) (inP15 _ (List.mem_of_getElem? (i := 17) rfl)) (inP15 _ (List.mem_of_getElem? (i := 10) rfl)) (inP15 _ (List.mem_of_getElem? (i := 18) rfl)) rfl rfl (by decide +kernel) (by decide)) ⟨bl_J, pr_J hJ hS⟩ rfl rfl hl.1 rfl (by show 2 * 0 + _ ≤ 8; exact Nat.le_of_ble_eq_true rfl) dJ1_indexOf_4cfef_1 ⟨Nat.zero_le _, Nat.zero_le _⟩) hS (fun locs1 hS => ?_)
  by_cases hq : ch < 0 ∨ 255 < ch
  · rw [if_pos hq]
    refine lv_if_ne hx hb (tgt := 9) dJ1_indexOf_4cfef_4 (by decide) (fun h => absurd rfl h) (fun _ => ?_)
    refine lv_iconst hx hb dJ1_indexOf_4cfef_7 rfl ?_
    rw [kIx_out hq]
    exact W.zret (ty := .int) hx hb hr (by decide) (fun t ht hW => ⟨rfl, ht⟩) hS.2.2 dJ1_indexOf_4cfef_8
  rw [if_neg hq]
  refine lv_if_ne hx hb (tgt := 9) dJ1_indexOf_4cfef_4 (by decide) (fun _ => ?_) (fun h => absurd h (by decide))
  refine lv_iload_n hx hb dJ1_indexOf_4cfef_9 rfl (lv_at hl 2 rfl) ?_
  refine lv_iconst hx hb dJ1_indexOf_4cfef_10 rfl ?_
  refine va_mmax hx hb (by rw [hml, hl.1]) hown (hts _ (inP15 _ (List.mem_of_getElem? (i := 12) rfl))) (hts _ gStatMax) (hts _ gIniMath) (hts _ gCodeMax) (by decide) (by decide) (Nat.zero_le _) (Nat.zero_le _) dJ1_indexOf_4cfef_11 ?_
  refine lv_istore_n hx hb dJ1_indexOf_4cfef_14 rfl hl (by decide) rfl (fun ls2 hl2 => ?_)
  have hl2 : lv_has ls2 4 [(2, .int 0), (0, .ref v), (1, .int ch), (3, .int 5)] := hl2
  refine lv_iload_n hx hb dJ1_indexOf_4cfef_15 rfl (lv_at hl2 3 rfl) ?_
  refine lv_aload_n hx hb dJ1_indexOf_4cfef_16 rfl (lv_at hl2 1 rfl) ?_
  refine va_tlen hx hb hJ.2.2.2.1 hS (v := 5) (by decide) dJ1_indexOf_4cfef_17 ?_
  refine va_mmin hx hb (by rw [hml, hl2.1]) hown (hts _ (inP15 _ (List.mem_of_getElem? (i := 13) rfl))) (hts _ gStatMin) (hts _ gIniMath) (hts _ gCodeMin) (by decide) (by decide) (Nat.zero_le _) (Nat.zero_le _) dJ1_indexOf_4cfef_18 ?_
  refine lv_istore_n hx hb dJ1_indexOf_4cfef_21 rfl hl2 (by decide) rfl (fun ls3 hl3 => ?_)
  have hl3 : lv_has ls3 4 [(3, .int 5), (2, .int 0), (0, .ref v), (1, .int ch)] := hl3
  refine lv_iload_n hx hb dJ1_indexOf_4cfef_22 rfl (lv_at hl3 1 rfl) ?_
  refine lv_iload_n hx hb dJ1_indexOf_4cfef_23 rfl (lv_at hl3 0 rfl) ?_
  refine lv_icmp_lt hx hb (tgt := 29) dJ1_indexOf_4cfef_24 (by decide) (fun _ => ?_) (fun h => absurd (by decide) h)
  refine lv_aload_n hx hb dJ1_indexOf_4cfef_29 rfl (lv_at hl3 2 rfl) ?_
  refine lv_iload_n hx hb dJ1_indexOf_4cfef_30 rfl (lv_at hl3 3 rfl) ?_
  refine lv_iload_n hx hb dJ1_indexOf_4cfef_31 rfl (lv_at hl3 1 rfl) ?_
  refine lv_iload_n hx hb dJ1_indexOf_4cfef_32 rfl (lv_at hl3 0 rfl) ?_
  refine j_run (va_runS (As := [.ref v, .int ch, .int 0, .int 5]) (Ts := wsL_law) (own := RJ1) ⟨hx, hb, hml, hown, hts⟩ (j_chr (l := l) (A := A) (q := q) (v := v) (ch := ch) (fun h => hq (Or.inl h)) (fun h => hq (Or.inr h))) (j_cwS (n := 4) hts (inP15 _ (List.mem_of_getElem? (i := 19) rfl)) (inP15 _ (List.mem_of_getElem? (i := 20) rfl)) (inP15 _ (List.mem_of_getElem? (i := 10) rfl)) (inP15 _ (List.mem_of_getElem? (i := 21) rfl)) rfl rfl (by decide +kernel) (by decide)) ⟨bl_J, pr_J hJ hS⟩ rfl rfl hl3.1 rfl (by show 2 * 0 + _ ≤ 8; exact Nat.le_of_ble_eq_true rfl) dJ1_indexOf_4cfef_33 ⟨Nat.zero_le _, Nat.zero_le _⟩) hS (fun locs1 hS => ?_)
  exact W.zret (ty := .int) hx hb hr rfl (fun t ht hW => ⟨rfl, ht⟩) hS.2.2 dJ1_indexOf_4cfef_36
theorem j_ix2 : Met l yJ0_indexOf_7cf53 (wsJ yJ0_indexOf_7cf53 cJ0_indexOf_7cf53 3 (some .int)) { frames := 2, cells := 0, slots := 0, locals := 48 } (PJ A q v [.ref q, .int ch, .int 0]) (QJ (kIx ch)) 0 0 A := by
  refine Met.ofW (cc := cJ0_indexOf_7cf53) (maxL := 3) (ret := (some .int)) (by decide) rfl ?_
  intro p e s m args below meth c s₁ B hml hv
  obtain ⟨rfl, hJ⟩ := hv
  have hx := B.exec
  have hb := B.bytes
  have hr := B.returns
  have hts0 := atoms_spec (ws := wsJ yJ0_indexOf_7cf53 cJ0_indexOf_7cf53 3 (some .int)) B.pre
  have hts : ∀ w ∈ wsL_law, w.before ([.ref q, .int ch, .int 0] : List Value).toArray s = true := fun w hw => hts0 w (List.mem_cons_of_mem _ hw)
  have hown : s.vm.findClass RJ0 = some m.cls := findClass_of_methodNamed B.named
  have hlocks := B.notSynchronized
  have hS : va_S A s.heap s.heap [] := va_S.rf
  have hl := lv_entry ([.ref q, .int ch, .int 0]) (n := 3) (Nat.le_of_ble_eq_true rfl)
  rw [lg_entry_eq]
  generalize (lg_sl ([.ref q, .int ch, .int 0]) ++ List.replicate (3 - (lg_sl ([.ref q, .int ch, .int 0])).length) Slot.unset).toArray = ls at hl ⊢
  have hl : lv_has ls 3 [(0, .ref q), (1, .int ch), (2, .int 0)] := hl
  refine lv_aload_n hx hb dJ0_indexOf_7cf53_0 rfl (lv_at hl 0 rfl) ?_
  refine j_run (va_runV (As := []) (b := q) (C := RJ0) (Ts := wsL_law) (own := RJ0) ⟨hx, hb, hml, hown, hts⟩ (j_lat (l := l) (A := A) (q := q) (v := v)) (j_cwV (n := 0) hts (inP14 _ (List.mem_of_getElem? (i := 18) rfl)) (inP14 _ (List.mem_of_getElem? (i := 19) rfl)) (inP14 _ (List.mem_of_getElem? (i := 20) rfl)) (inP14 _ (List.mem_of_getElem? (i := 11) rfl)) (inP14 _ (List.mem_of_getElem? (i := 21) rfl)) rfl rfl (by decide +kernel) (by decide)) ⟨bl_J, (let ⟨cl0, z1, z2, z3, _⟩ := hJ.1.kept hS.2.1; ⟨cl0, z1, z2, z3⟩), pr_J hJ hS⟩ rfl rfl hl.1 rfl (by show 2 * 0 + _ ≤ 8; exact Nat.le_of_ble_eq_true rfl) dJ0_indexOf_7cf53_1 ⟨Nat.zero_le _, Nat.zero_le _⟩) hS (fun locs1 hS => ?_)
  refine lv_if_eq hx hb (tgt := 23) dJ0_indexOf_7cf53_4 (by decide) (fun h => absurd h (by decide)) (fun _ => ?_)
  refine lv_aload_n hx hb dJ0_indexOf_7cf53_7 rfl (lv_at hl 0 rfl) ?_
  refine vk_getf hx hb hJ.2.2.1 hS hown (hts _ (inP14 _ (List.mem_of_getElem? (i := 17) rfl))) (fun _ h => h) dJ0_indexOf_7cf53_8 ?_
  refine lv_iload_n hx hb dJ0_indexOf_7cf53_11 rfl (lv_at hl 1 rfl) ?_
  refine lv_iload_n hx hb dJ0_indexOf_7cf53_12 rfl (lv_at hl 2 rfl) ?_
  refine lv_aload_n hx hb dJ0_indexOf_7cf53_13 rfl (lv_at hl 0 rfl) ?_
  refine j_run (va_runV (As := []) (b := q) (C := RJ0) (Ts := wsL_law) (own := RJ0) ⟨hx, hb, hml, hown, hts⟩ (j_len (l := l) (A := A) (q := q) (v := v)) (j_cwV (n := 0) hts (inP15 _ (List.mem_of_getElem? (i := 0) rfl)) (inP15 _ (List.mem_of_getElem? (i := 1) rfl)) (inP15 _ (List.mem_of_getElem? (i := 2) rfl)) (inP14 _ (List.mem_of_getElem? (i := 11) rfl)) (inP15 _ (List.mem_of_getElem? (i := 3) rfl)) rfl rfl (by decide +kernel) (by decide)) ⟨bl_J, (let ⟨cl0, z1, z2, z3, _⟩ := hJ.1.kept hS.2.1; ⟨cl0, z1, z2, z3⟩), pr_J hJ hS⟩ rfl rfl hl.1 rfl (by show 2 * 0 + _ ≤ 8; exact Nat.le_of_ble_eq_true rfl) dJ0_indexOf_7cf53_14 ⟨Nat.zero_le _, Nat.zero_le _⟩) hS (fun locs1 hS => ?_)
  refine j_run (va_runS (As := [.ref v, .int ch, .int 0, .int 5]) (Ts := wsL_law) (own := RJ0) ⟨hx, hb, hml, hown, hts⟩ (j_ix4 (l := l) (A := A) (q := q) (v := v) (ch := ch)) (j_cwS (n := 4) hts (inP15 _ (List.mem_of_getElem? (i := 8) rfl)) (inP15 _ (List.mem_of_getElem? (i := 9) rfl)) (inP15 _ (List.mem_of_getElem? (i := 10) rfl)) (inP15 _ (List.mem_of_getElem? (i := 11) rfl)) rfl rfl (by decide +kernel) (by decide)) ⟨bl_J, pr_J hJ hS⟩ rfl rfl hl.1 rfl (by show 2 * 0 + _ ≤ 8; exact Nat.le_of_ble_eq_true rfl) dJ0_indexOf_7cf53_17 ⟨Nat.zero_le _, Nat.zero_le _⟩) hS (fun locs1 hS => ?_)
  refine lv_goto hx hb (tgt := 36) dJ0_indexOf_7cf53_20 (by decide) ?_
  exact W.zret (ty := .int) hx hb hr rfl (fun t ht hW => ⟨rfl, ht⟩) hS.2.2 dJ0_indexOf_7cf53_36
theorem j_ix : Met l yJ0_indexOf_0f7a4 (wsJ yJ0_indexOf_0f7a4 cJ0_indexOf_0f7a4 2 (some .int)) { frames := 3, cells := 0, slots := 0, locals := 70 } (PJ A q v [.ref q, .int ch]) (QJ (kIx ch)) 0 0 A := by
  refine Met.ofW (cc := cJ0_indexOf_0f7a4) (maxL := 2) (ret := (some .int)) (by decide) rfl ?_
  intro p e s m args below meth c s₁ B hml hv
  obtain ⟨rfl, hJ⟩ := hv
  have hx := B.exec
  have hb := B.bytes
  have hr := B.returns
  have hts0 := atoms_spec (ws := wsJ yJ0_indexOf_0f7a4 cJ0_indexOf_0f7a4 2 (some .int)) B.pre
  have hts : ∀ w ∈ wsL_law, w.before ([.ref q, .int ch] : List Value).toArray s = true := fun w hw => hts0 w (List.mem_cons_of_mem _ hw)
  have hown : s.vm.findClass RJ0 = some m.cls := findClass_of_methodNamed B.named
  have hlocks := B.notSynchronized
  have hS : va_S A s.heap s.heap [] := va_S.rf
  have hl := lv_entry ([.ref q, .int ch]) (n := 2) (Nat.le_of_ble_eq_true rfl)
  rw [lg_entry_eq]
  generalize (lg_sl ([.ref q, .int ch]) ++ List.replicate (2 - (lg_sl ([.ref q, .int ch])).length) Slot.unset).toArray = ls at hl ⊢
  have hl : lv_has ls 2 [(0, .ref q), (1, .int ch)] := hl
  refine lv_aload_n hx hb dJ0_indexOf_0f7a4_0 rfl (lv_at hl 0 rfl) ?_
  refine lv_iload_n hx hb dJ0_indexOf_0f7a4_1 rfl (lv_at hl 1 rfl) ?_
  refine lv_iconst hx hb dJ0_indexOf_0f7a4_2 rfl ?_
  refine j_run (va_runV (As := [.int ch, .int 0]) (b := q) (C := RJ0) (Ts := wsL_law) (own := RJ0) ⟨hx, hb, hml, hown, hts⟩ (j_ix2 (l := l) (A := A) (q := q) (v := v) (ch := ch)) (j_cwV (n := 2) hts (inP14 _ (List.mem_of_getElem? (i := 13) rfl)) (inP14 _ (List.mem_of_getElem? (i := 14) rfl)) (inP14 _ (List.mem_of_getElem? (i := 15) rfl)) (inP14 _ (List.mem_of_getElem? (i := 11) rfl)) (inP14 _ (List.mem_of_getElem? (i := 16) rfl)) rfl rfl (by decide +kernel) (by decide)) ⟨bl_J, (let ⟨cl0, z1, z2, z3, _⟩ := hJ.1.kept hS.2.1; ⟨cl0, z1, z2, z3⟩), pr_J hJ hS⟩ rfl rfl hl.1 rfl (by show 2 * 0 + _ ≤ 8; exact Nat.le_of_ble_eq_true rfl) dJ0_indexOf_0f7a4_3 ⟨Nat.zero_le _, Nat.zero_le _⟩) hS (fun locs1 hS => ?_)
  exact W.zret (ty := .int) hx hb hr rfl (fun t ht hW => ⟨rfl, ht⟩) hS.2.2 dJ0_indexOf_0f7a4_6
end JDK
