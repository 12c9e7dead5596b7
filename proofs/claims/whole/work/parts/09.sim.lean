section GC
variable {E : EE} {p : Program} {l : Launch} {e : Env} {R : Room} {s : State} {m : MethodId} {args : Array Value} {below : List Frame} {meth : Method} {c : Code} {Q : State → Prop} {M N : MI} {cells slots mc ms pc n : Nat} {H : Heap} {locs : List Loc} {L : Ls} {S : List Value} {μ μ' : Mm} {r : Option Value} {ls : Array Slot} {vs rest st0 : List Value}
theorem g_run {a' : Array Value} (hr : va_Run p l e R s m args below meth c H locs cells slots mc ms (F0 m pc ls st0) rest (QcE E r μ' a') (fun q => eB E ≤ q)) (hl : ∀ q ∈ locs, eB E ≤ q.base)
    (kk : ∀ (H1 : Heap) (locs1 : List Loc), Rl E μ' H1 → (∀ q ∈ locs1, eB E ≤ q.base) → W p l e R s m args below meth c H1 locs1 (cells + mc) (slots + ms) Q (F0 m (pc + 3) ls (r.toList.map (cvv E) ++ rest))) : W p l e R s m args below meth c H locs cells slots Q (F0 m pc ls st0) := by
  intro T hT X
  obtain ⟨v, st₀, t, T', LL, h0, X', hL, e1, e2, ⟨hv, hR'⟩, st⟩ := hr T hT X
  have hv' : v = r.map (cvv E) := by
    have := hv
    simp only [Outcome.returned.injEq] at this
    exact this
  subst hv'
  have e3 : (r.map (cvv E)).toList = r.toList.map (cvv E) := by cases r <;> rfl
  obtain ⟨t2, a1, b1⟩ := kk T'.heap (locs ++ LL) (by rw [e1]; exact hR') (fun q hq => (List.mem_append.mp hq).elim (hl q) (hL q)) T' rfl X'
  refine ⟨t2, st t2 ?_, b1⟩
  show Steps p.tables e below (T'.setTop (F0 m (pc + 3) ls ((r.map (cvv E)).toList ++ rest))) t2
  rw [e3]
  exact a1
theorem blindE (hE : StrOk E l) : FrameBlind (PcE E vs μ) := fun _ U _ _ h => ⟨h.1, h.2.1, KK_moved (fun {_ _} => hE.1) (State.WarmedH.refl U) h.2.2⟩
theorem preE (hE : StrOk E l) (hR : Rl E μ H) (hK : KK E s) : ∀ U : State, U.heap = H → s.WarmedH U.vm → PcE E vs μ (vs.map (cvv E)).toArray U := fun _ hU hW => ⟨rfl, by rw [hU]; exact hR, KK_moved (fun {_ _} => hE.1) hW hK⟩
theorem good_of {X : List Cond} (h : ∀ w ∈ X, w ∈ wsL_law) : GoodIn wsL_law X := fun w hw => ⟨h w hw, (gGood w (h w hw)).2⟩
theorem wsN_in (hok : okM N) : ∀ w ∈ wsN N, w ∈ wsL_law := fun w hw => by
  rcases List.mem_cons.mp hw with rfl | hw
  · exact hok.1
  · exact hw
theorem rm_of (h : rmOk M N = true) : mF N + 1 ≤ mF M ∧ 19 + mL N + mW N ≤ mW M := by
  unfold rmOk at h
  rw [Bool.and_eq_true] at h
  exact ⟨Nat.le_of_ble_eq_true h.1, Nat.le_of_ble_eq_true h.2⟩
/-- a call, by the callee's contract -/
theorem g_call {i : Instr} {nb : Bool} (hE : StrOk E l) (hC : Cx E p s m args meth c R M) (hM : Met l (mY N) (wsN N) (rmN N μ μ') (PcE E vs μ) (QcE E r μ') (μ'.1.length - μ.1.length) (slt μ' - slt μ) (fun q => eB E ≤ q))
    (hca : calleeOf M i = some (N, nb)) (hd : decode (mB M) pc = .ok (i, 3)) (hvs : vs = (S.take (nAr N)).reverse) (hn : nAr N ≤ S.length) (hrest : ((S.drop (nAr N)).map fun v => v.category).sum ≤ 8) (hrm : rmOk M N = true) (hrc : rcvB N vs μ = true)
    (hcl : cells + (μ'.1.length - μ.1.length) ≤ R.cells) (hsl : slots + (slt μ' - slt μ) ≤ R.slots) (hR : Rl E μ H) (hl : ∀ q ∈ locs, eB E ≤ q.base) (hL : LR E ls (mL M) L)
    (kk : ∀ (H1 : Heap) (locs1 : List Loc), Rl E μ' H1 → (∀ q ∈ locs1, eB E ≤ q.base) → W p l e R s m args below meth c H1 locs1 (cells + (μ'.1.length - μ.1.length)) (slots + (slt μ' - slt μ)) Q (F0 m (pc + 3) ls ((r.toList ++ S.drop (nAr N)).map (cvv E)))) : W p l e R s m args below meth c H locs cells slots Q (F0 m pc ls (S.map (cvv E))) := by
  obtain ⟨hx, hb, hml, hr, hown, hts, hlocks, hini, hK, hF, hW, hbl⟩ := hC
  obtain ⟨hrm1, hrm2⟩ := rm_of hrm
  have hS0 : S = vs.reverse ++ S.drop (nAr N) := by rw [hvs, List.reverse_reverse, List.take_append_drop]
  have hvl : vs.length = nAr N := by rw [hvs]; simp; omega
  have hfit : (rmN N μ μ').frames + 1 ≤ R.frames ∧ 8 + (mL N + 11) + (rmN N μ μ').locals ≤ R.locals := ⟨by show mF N + 1 ≤ R.frames; omega, by show 8 + (mL N + 11) + mW N ≤ R.locals; omega⟩
  have hkk : ∀ (H1 : Heap) (locs1 : List Loc), Rl E μ' H1 → (∀ q ∈ locs1, eB E ≤ q.base) → W p l e R s m args below meth c H1 locs1 (cells + (μ'.1.length - μ.1.length)) (slots + (slt μ' - slt μ)) Q (F0 m (pc + 3) ls (r.toList.map (cvv E) ++ (S.drop (nAr N)).map (cvv E))) := by
    intro H1 locs1 h1 h2
    rw [← List.map_append]
    exact kk H1 locs1 h1 h2
  have hW8 : 2 * (F0 m pc ls (S.map (cvv E))).monitorRoom + (((S.drop (nAr N)).map (cvv E)).map fun v => v.category).sum ≤ 8 := lv_room (by rw [cvv_sum]; exact hrest)
  -- the receiver
  have hrcv : mK N ≠ 1 → ∃ a vs' t, vs = .ref a :: vs' ∧ μ.1[a]? = some t ∧ t.1 = mC N + 10 := by
    intro hk
    unfold rcvB at hrc
    rw [Bool.or_eq_true] at hrc
    rcases hrc with hrc | hrc
    · exact absurd (Nat.eq_of_beq_eq_true hrc) hk
    · split at hrc
      · rename_i a vs'
        split at hrc
        · rename_i t ht
          exact ⟨a, vs', t, rfl, ht, Nat.eq_of_beq_eq_true hrc⟩
        · cases hrc
      · cases hrc
  cases i
  case invokevirtual k0 =>
    simp only [calleeOf] at hca
    split at hca
    · rename_i N' hN'
      split at hca
      · rename_i hk0
        cases hca
        obtain ⟨hok, hln⟩ := mLk_ok _ (lk2_mem hN')
        have hin := wsN_in hok
        obtain ⟨ok1, ok2, ok3, ok4, ok5, ok6⟩ := hok
        obtain ⟨a, vs', t, rfl, ht, htc⟩ := hrcv (by omega)
        have hsel : Cond.instanceMethod (mY N) ∈ wsL_law ∧ Cond.selects (mY N).cls (mY N) (mY N) ∈ wsL_law := by
          rcases ok6 with ⟨-, h1, h2⟩ | ⟨h, -⟩ | ⟨h, -⟩
          · exact ⟨h1, h2⟩
          · exact absurd (hk0.symm.trans h) (by decide)
          · exact absurd (hk0.symm.trans h) (by decide)
        have hG : GoodIn wsL_law (wsV (RC (mC M)) k0 (mY N).cls (mY N) (wsN N)) := good_of (fun w hw => by
          rcases List.mem_append.mp hw with hw | hw
          · simp only [List.mem_cons, List.not_mem_nil, or_false] at hw
            rcases hw with rfl | rfl | rfl | rfl
            · exact hln
            · exact hsel.1
            · exact hsel.2
            · exact ok4
          · exact hin w hw)
        have h2 := hR.two ht (by omega) (by omega)
        have hg := WS_get (E := E) ht h2
        rw [cvE_obj htc] at hg
        have h8 : mC N < 8 := by
          obtain ⟨rr, hrr, -⟩ := hR.2.2.1 _ _ hg
          have := (List.getElem?_eq_some_iff.mp hrr).1
          exact this
        have hrec := va_recv hK.1 hR.2.2.1 (vw_get h8) hg
        refine g_run (va_runV (As := vs'.map (cvv E)) (b := ad E a) (C := (mY N).cls) (rest := (S.drop (nAr N)).map (cvv E)) (Ts := wsL_law) (own := RC (mC M)) ⟨hx, hb, hml, hown, hts⟩ hM (cwV (bytes := mB N) (maxL := mL N) (ret := mR N) (ws' := wsL_law) (mN N) hts hG rfl rfl rfl ⟨rfl, ok3⟩ hfit) ⟨blindE hE, by rw [ok5]; exact hrec, preE hE hR hK⟩ rfl ?_ hL.1 ?_ hW8 hd ⟨hcl, hsl⟩) hl hkk
        · have h9 : nAr N = mN N + 1 := if_neg (by omega)
          simp only [List.length_cons] at hvl
          rw [List.length_map]
          omega
        · show S.map (cvv E) = _
          have := congrArg (List.map (cvv E)) hS0
          simp only [List.map_append, List.map_reverse, List.map_cons, List.reverse_cons, List.append_assoc, List.singleton_append, List.map_nil, List.nil_append, List.cons_append] at this ⊢
          exact this
      · cases hca
    · cases hca
  case invokestatic k0 =>
    simp only [calleeOf] at hca
    split at hca
    · rename_i N' hN'
      split at hca
      · rename_i hk0
        cases hca
        obtain ⟨hok, hln⟩ := mLk_ok _ (lk2_mem hN')
        have hin := wsN_in hok
        obtain ⟨ok1, ok2, ok3, ok4, ok5, ok6⟩ := hok
        have hst : Cond.static (mY N) ∈ wsL_law := by
          rcases ok6 with ⟨h, -⟩ | ⟨-, h⟩ | ⟨h, -⟩
          · exact absurd (hk0.1.symm.trans h) (by decide)
          · exact h
          · exact absurd (hk0.1.symm.trans h) (by decide)
        have hG : GoodIn wsL_law (wsS (RC (mC M)) k0 (mY N) (wsN N)) := good_of (fun w hw => by
          rcases List.mem_append.mp hw with hw | hw
          · simp only [List.mem_cons, List.not_mem_nil, or_false] at hw
            rcases hw with rfl | rfl | rfl
            · exact hln
            · exact hst
            · rw [← hk0.2, ← ok5]; exact ok4
          · exact hin w hw)
        refine g_run (va_runS (As := vs.map (cvv E)) (rest := (S.drop (nAr N)).map (cvv E)) (Ts := wsL_law) (own := RC (mC M)) ⟨hx, hb, hml, hown, hts⟩ hM (cwS (bytes := mB N) (maxL := mL N) (ret := mR N) (ws' := wsL_law) (mN N) hts hG rfl rfl rfl ⟨by rw [ok5, hk0.2], ok3⟩ hfit) ⟨blindE hE, preE hE hR hK⟩ rfl ?_ hL.1 ?_ hW8 hd ⟨hcl, hsl⟩) hl hkk
        · have h9 : nAr N = mN N := if_pos hk0.1
          rw [List.length_map]
          omega
        · show S.map (cvv E) = _
          have := congrArg (List.map (cvv E)) hS0
          simp only [List.map_append, List.map_reverse] at this ⊢
          exact this
      · cases hca
    · split at hca
      · rename_i N' hN'
        split at hca
        · rename_i hk0
          cases hca
          have hmem := lk2_mem hN'
          have hok := nLk_ok _ hmem
          have hin := wsN_in hok
          obtain ⟨ok1, ok2, ok3, ok4, ok5, ok6⟩ := hok
          have hst : Cond.static (mY N) ∈ wsL_law := by
            rcases ok6 with ⟨h, -⟩ | ⟨-, h⟩ | ⟨h, -⟩
            · exact absurd (hk0.symm.trans h) (by decide)
            · exact h
            · exact absurd (hk0.symm.trans h) (by decide)
          have hNw : va_Nw (.methodLinkNest (RC (mC M)) k0 (mY N) RX6) s := by
            simp only [nLk, List.mem_cons, List.not_mem_nil, or_false, Prod.mk.injEq] at hmem
            rcases hmem with ⟨h1, rfl, rfl⟩ | ⟨h1, rfl, rfl⟩
            · cases hk0
            · rw [h1]; exact hK.2.2.2.2.2.1
          refine g_run (va_runSN (As := vs.map (cvv E)) (rest := (S.drop (nAr N)).map (cvv E)) (Ts := wsL_law) (own := RC (mC M)) (host := RX6) ⟨hx, hb, hml, hown, hts⟩ hM ⟨va_cnB (bytes := mB N) (maxL := mL N) (ret := mR N) (ws' := wsL_law) (mN N) hts (good_of hin) rfl rfl rfl hNw (hts _ ok4) ok3 hfit, hts _ hst, trivial⟩ ⟨blindE hE, preE hE hR hK⟩ rfl ?_ hL.1 ?_ hW8 hd ⟨hcl, hsl⟩) hl hkk
          · have h9 : nAr N = mN N := if_pos hk0
            rw [List.length_map]
            omega
          · show S.map (cvv E) = _
            have := congrArg (List.map (cvv E)) hS0
            simp only [List.map_append, List.map_reverse] at this ⊢
            exact this
        · cases hca
      · cases hca
  case invokespecial k0 =>
    simp only [calleeOf] at hca
    split at hca
    · rename_i N' hN'
      split at hca
      · rename_i hk0
        cases hca
        obtain ⟨hok, hln⟩ := mLk_ok _ (lk2_mem hN')
        have hin := wsN_in hok
        obtain ⟨ok1, ok2, ok3, ok4, ok5, ok6⟩ := hok
        obtain ⟨a, vs', t, rfl, ht, htc⟩ := hrcv (by omega)
        have hsp : Cond.instanceMethod (mY N) ∈ wsL_law ∧ (mY N).name = "<init>" ∧ mR N = none := by
          rcases ok6 with ⟨h, -⟩ | ⟨h, -⟩ | ⟨-, h⟩
          · exact absurd (hk0.symm.trans h) (by decide)
          · exact absurd (hk0.symm.trans h) (by decide)
          · exact h
        refine g_run (va_runI (As := vs'.map (cvv E)) (b := ad E a) (rest := (S.drop (nAr N)).map (cvv E)) (Ts := wsL_law) (own := RC (mC M)) ⟨hx, hb, hml, hown, hts⟩ hM (cwI (bytes := mB N) (maxL := mL N) (ws' := wsL_law) (mN N) hts (good_of hin) (by unfold wsN; rw [hsp.2.2]) rfl rfl (hts _ ok4) (hts _ hln) (hts _ hsp.1) hsp.2.1 ok3 hfit) ⟨blindE hE, preE hE hR hK⟩ rfl ?_ hL.1 ?_ hW8 hd ⟨hcl, hsl⟩) hl hkk
        · have h9 : nAr N = mN N + 1 := if_neg (by omega)
          simp only [List.length_cons] at hvl
          rw [List.length_map]
          omega
        · show S.map (cvv E) = _
          have := congrArg (List.map (cvv E)) hS0
          simp only [List.map_append, List.map_reverse, List.map_cons, List.reverse_cons, List.append_assoc, List.singleton_append, List.map_nil, List.nil_append, List.cons_append] at this ⊢
          exact this
      · cases hca
    · split at hca
      · rename_i N' hN'
        split at hca
        · rename_i hk0
          cases hca
          have hmem := lk2_mem hN'
          have hok := nLk_ok _ hmem
          have hin := wsN_in hok
          obtain ⟨ok1, ok2, ok3, ok4, ok5, ok6⟩ := hok
          obtain ⟨a, vs', t, rfl, ht, htc⟩ := hrcv (by omega)
          have hsp : Cond.instanceMethod (mY N) ∈ wsL_law ∧ (mY N).name = "<init>" ∧ mR N = none := by
            rcases ok6 with ⟨h, -⟩ | ⟨h, -⟩ | ⟨-, h⟩
            · exact absurd (hk0.symm.trans h) (by decide)
            · exact absurd (hk0.symm.trans h) (by decide)
            · exact h
          have hNw : va_Nw (.methodLinkNest (RC (mC M)) k0 (mY N) RX6) s := by
            simp only [nLk, List.mem_cons, List.not_mem_nil, or_false, Prod.mk.injEq] at hmem
            rcases hmem with ⟨h1, rfl, rfl⟩ | ⟨h1, rfl, rfl⟩
            · rw [h1]; exact hK.2.2.2.2.1
            · cases hk0
          refine g_run (va_runIN (As := vs'.map (cvv E)) (b := ad E a) (rest := (S.drop (nAr N)).map (cvv E)) (Ts := wsL_law) (own := RC (mC M)) (host := RX6) ⟨hx, hb, hml, hown, hts⟩ hM ⟨va_cnB (bytes := mB N) (maxL := mL N) (ret := none) (ws' := wsL_law) (mN N) hts (good_of hin) (by unfold wsN; rw [hsp.2.2]) rfl rfl hNw (hts _ ok4) ok3 hfit, hsp.2.1, hts _ hsp.1⟩ ⟨blindE hE, preE hE hR hK⟩ rfl ?_ hL.1 ?_ hW8 hd ⟨hcl, hsl⟩) hl hkk
          · have h9 : nAr N = mN N + 1 := if_neg (by omega)
            simp only [List.length_cons] at hvl
            rw [List.length_map]
            omega
          · show S.map (cvv E) = _
            have := congrArg (List.map (cvv E)) hS0
            simp only [List.map_append, List.map_reverse, List.map_cons, List.reverse_cons, List.append_assoc, List.singleton_append, List.map_nil, List.nil_append, List.cons_append] at this ⊢
            exact this
        · cases hca
      · cases hca
  all_goals (cases hca)
end GC
