section ST
variable {E : EE} {p : Program} {l : Launch} {e : Env} {R : Room} {s : State} {m : MethodId} {args : Array Value} {below : List Frame} {meth : Method} {c : Code} {Q : State → Prop} {M : MI} {cells slots pc pc' len : Nat} {L L' : Ls} {S S' : List Value} {μ μ' : Mm}
theorem RlS {H : Heap} {locs : List Loc} (hR : Rl E μ H) (hl : ∀ q ∈ locs, eB E ≤ q.base) : va_S (fun q => eB E ≤ q) (eH E) H locs := ⟨by rw [hR.2.1]; exact Nat.le_add_right _ _, fun q h1 _ => hR.2.2.2.1 q h1, hl⟩
theorem vp_in' {i : Int32} {n : Nat} (h1 : ¬ i < 0) (h2 : i.toNatClampNeg < n) : vp_in i n := fun h => h.elim h1 (fun h => by omega)
theorem zs_iaload (hC : Cx E p s m args meth c R M) (hd : decode (mB M) pc = .ok (.iaload, len)) (hlen : lenOk (.iaload) len = true) (hs : stepI M (.iaload) pc L S μ = some (pc', L', S', μ')) (hcl : cells + (μ'.1.length - μ.1.length) ≤ R.cells) (hsl : slots + (slt μ' - slt μ) ≤ R.slots) (k : Wg E p l e R s m args below meth c Q M (cells + (μ'.1.length - μ.1.length)) (slots + (slt μ' - slt μ)) pc' L' S' μ') : Wg E p l e R s m args below meth c Q M cells slots pc L S μ := by
  obtain ⟨hx, hb, hml, hr, hown, hts, hlocks, hini, hK, hF, hW, hbl⟩ := hC
  obtain rfl := Nat.eq_of_beq_eq_true hlen
  simp only [stepI] at hs
  unfold xAld at hs
  split at hs
  · rename_i i a S1
    split at hs
    · rename_i t ht
      split at hs
      · rename_i hc1
        cases hs
        intro H locs ls hR hl hL hz
        rw [Nat.sub_self, Nat.sub_self] at k
        obtain ⟨hc0, hi1, hi2⟩ := hc1
        rcases hc0 with hc0 | hc0
        · have h2 := hR.two ht (by omega) (by omega)
          have hg := WS_get (E := E) ht h2
          rw [cvE_i (by omega), hc0] at hg
          exact va_iald hx hb hK.1 hR.2.2.1 (a - 2) 0 hg rfl (vp_in' hi1 hi2) hd (k H locs ls hR hl hL hz)
        · have ha := hc0.2
          subst ha
          obtain ⟨r0, hr0⟩ := hR.2.2.2.2.1
          rw [hr0] at ht
          cases ht
          have hk1 := k H locs ls hR hl hL hz
          rw [hR.2.2.2.2.2.1] at hk1
          exact va_sld hx hb hK.2.1 hbl (Nat.not_le.mpr hbl) (RlS hR hl) (vp_in' hi1 hi2) hd hk1
      · cases hs
    · cases hs
  · cases hs
theorem zs_caload (hC : Cx E p s m args meth c R M) (hd : decode (mB M) pc = .ok (.caload, len)) (hlen : lenOk (.caload) len = true) (hs : stepI M (.caload) pc L S μ = some (pc', L', S', μ')) (hcl : cells + (μ'.1.length - μ.1.length) ≤ R.cells) (hsl : slots + (slt μ' - slt μ) ≤ R.slots) (k : Wg E p l e R s m args below meth c Q M (cells + (μ'.1.length - μ.1.length)) (slots + (slt μ' - slt μ)) pc' L' S' μ') : Wg E p l e R s m args below meth c Q M cells slots pc L S μ := by
  obtain ⟨hx, hb, hml, hr, hown, hts, hlocks, hini, hK, hF, hW, hbl⟩ := hC
  obtain rfl := Nat.eq_of_beq_eq_true hlen
  simp only [stepI] at hs
  unfold xAld at hs
  split at hs
  · rename_i i a S1
    split at hs
    · rename_i t ht
      split at hs
      · rename_i hc1
        cases hs
        intro H locs ls hR hl hL hz
        rw [Nat.sub_self, Nat.sub_self] at k
        obtain ⟨hc0, hi1, hi2⟩ := hc1
        rcases hc0 with hc0 | hc0
        · have h2 := hR.two ht (by omega) (by omega)
          have hg := WS_get (E := E) ht h2
          rw [cvE_i (by omega), hc0] at hg
          exact va_cald hx hb hK.1 hR.2.2.1 (a - 2) 1 hg rfl (vp_in' hi1 hi2) hd (k H locs ls hR hl hL hz)
        · cases hc0.1
      · cases hs
    · cases hs
  · cases hs
theorem zs_iastore (hC : Cx E p s m args meth c R M) (hd : decode (mB M) pc = .ok (.iastore, len)) (hlen : lenOk (.iastore) len = true) (hs : stepI M (.iastore) pc L S μ = some (pc', L', S', μ')) (hcl : cells + (μ'.1.length - μ.1.length) ≤ R.cells) (hsl : slots + (slt μ' - slt μ) ≤ R.slots) (k : Wg E p l e R s m args below meth c Q M (cells + (μ'.1.length - μ.1.length)) (slots + (slt μ' - slt μ)) pc' L' S' μ') : Wg E p l e R s m args below meth c Q M cells slots pc L S μ := by
  obtain ⟨hx, hb, hml, hr, hown, hts, hlocks, hini, hK, hF, hW, hbl⟩ := hC
  obtain rfl := Nat.eq_of_beq_eq_true hlen
  simp only [stepI] at hs
  unfold xAst at hs
  split at hs
  · rename_i x i a S1
    split at hs
    · rename_i t ht
      split at hs
      · rename_i hc1
        cases hs
        intro H locs ls hR hl hL hz
        obtain ⟨hc0, hi1, hi2⟩ := hc1
        have h2 := hR.two ht (by omega) (by omega)
        have hlt := (List.getElem?_eq_some_iff.mp ht).1
        have hg := WS_get (E := E) ht h2
        rw [cvE_i (by omega), hc0] at hg
        have hset : (WS E μ).set (a - 2) (ad E a, .inl (eA E 0, t.2.1, .inl (upd (μ.2.1 a) i.toNatClampNeg (x)))) = WS E (μ.1, up2 μ.2.1 a i.toNatClampNeg (x), μ.2.2) := by
          refine WS_set (E := E) (μ := μ) (μ' := (μ.1, up2 μ.2.1 a i.toNatClampNeg (x), μ.2.2)) rfl hlt h2 ?_ (FF_int (μ := μ))
          unfold up2
          rw [FF_int_at ht, cvE_i (by omega), hc0]
        exact va_iast hx hb hK.1 hR.2.2.1 wsq_D (mk_S hl) (a - 2) 0 hg rfl (vp_in' hi1 hi2) hd (fun H1 locs1 hP1 _ hS1 => g_wr (M := M) hR hl hz hL k rfl rfl rfl rfl (by simp [up2, va_up]; omega) hset hP1 hS1)
      · cases hs
    · cases hs
  · cases hs
theorem zs_castore (hC : Cx E p s m args meth c R M) (hd : decode (mB M) pc = .ok (.castore, len)) (hlen : lenOk (.castore) len = true) (hs : stepI M (.castore) pc L S μ = some (pc', L', S', μ')) (hcl : cells + (μ'.1.length - μ.1.length) ≤ R.cells) (hsl : slots + (slt μ' - slt μ) ≤ R.slots) (k : Wg E p l e R s m args below meth c Q M (cells + (μ'.1.length - μ.1.length)) (slots + (slt μ' - slt μ)) pc' L' S' μ') : Wg E p l e R s m args below meth c Q M cells slots pc L S μ := by
  obtain ⟨hx, hb, hml, hr, hown, hts, hlocks, hini, hK, hF, hW, hbl⟩ := hC
  obtain rfl := Nat.eq_of_beq_eq_true hlen
  simp only [stepI] at hs
  unfold xAst at hs
  split at hs
  · rename_i x i a S1
    split at hs
    · rename_i t ht
      split at hs
      · rename_i hc1
        cases hs
        intro H locs ls hR hl hL hz
        obtain ⟨hc0, hi1, hi2⟩ := hc1
        have h2 := hR.two ht (by omega) (by omega)
        have hlt := (List.getElem?_eq_some_iff.mp ht).1
        have hg := WS_get (E := E) ht h2
        rw [cvE_i (by omega), hc0] at hg
        have hset : (WS E μ).set (a - 2) (ad E a, .inl (eA E 1, t.2.1, .inl (upd (μ.2.1 a) i.toNatClampNeg (vp_nar .char x)))) = WS E (μ.1, up2 μ.2.1 a i.toNatClampNeg (vp_nar .char x), μ.2.2) := by
          refine WS_set (E := E) (μ := μ) (μ' := (μ.1, up2 μ.2.1 a i.toNatClampNeg (vp_nar .char x), μ.2.2)) rfl hlt h2 ?_ (FF_int (μ := μ))
          unfold up2
          rw [FF_int_at ht, cvE_i (by omega), hc0]
        exact va_cast hx hb hK.1 hR.2.2.1 wsq_D (mk_S hl) (a - 2) 1 hg rfl (vp_in' hi1 hi2) hd (fun H1 locs1 hP1 _ hS1 => g_wr (M := M) hR hl hz hL k rfl rfl rfl rfl (by simp [up2, va_up]; omega) hset hP1 hS1)
      · cases hs
    · cases hs
  · cases hs
theorem zs_laload (hC : Cx E p s m args meth c R M) (hd : decode (mB M) pc = .ok (.laload, len)) (hlen : lenOk (.laload) len = true) (hs : stepI M (.laload) pc L S μ = some (pc', L', S', μ')) (hcl : cells + (μ'.1.length - μ.1.length) ≤ R.cells) (hsl : slots + (slt μ' - slt μ) ≤ R.slots) (k : Wg E p l e R s m args below meth c Q M (cells + (μ'.1.length - μ.1.length)) (slots + (slt μ' - slt μ)) pc' L' S' μ') : Wg E p l e R s m args below meth c Q M cells slots pc L S μ := by
  obtain ⟨hx, hb, hml, hr, hown, hts, hlocks, hini, hK, hF, hW, hbl⟩ := hC
  obtain rfl := Nat.eq_of_beq_eq_true hlen
  simp only [stepI] at hs
  unfold xLald at hs
  split at hs
  · rename_i i a S1
    split at hs
    · rename_i t ht
      split at hs
      · rename_i hc1
        cases hs
        intro H locs ls hR hl hL hz
        rw [Nat.sub_self, Nat.sub_self] at k
        obtain ⟨hc0, hi1, hi2⟩ := hc1
        have h2 := hR.two ht (by omega) (by omega)
        have hg := WS_get (E := E) ht h2
        rw [cvE_l hc0] at hg
        exact va_lald hx hb hK.1 hR.2.2.1 (a - 2) 2 hg rfl (vp_in' hi1 hi2) hd (k H locs ls hR hl hL hz)
      · cases hs
    · cases hs
  · cases hs
theorem zs_lastore (hC : Cx E p s m args meth c R M) (hd : decode (mB M) pc = .ok (.lastore, len)) (hlen : lenOk (.lastore) len = true) (hs : stepI M (.lastore) pc L S μ = some (pc', L', S', μ')) (hcl : cells + (μ'.1.length - μ.1.length) ≤ R.cells) (hsl : slots + (slt μ' - slt μ) ≤ R.slots) (k : Wg E p l e R s m args below meth c Q M (cells + (μ'.1.length - μ.1.length)) (slots + (slt μ' - slt μ)) pc' L' S' μ') : Wg E p l e R s m args below meth c Q M cells slots pc L S μ := by
  obtain ⟨hx, hb, hml, hr, hown, hts, hlocks, hini, hK, hF, hW, hbl⟩ := hC
  obtain rfl := Nat.eq_of_beq_eq_true hlen
  simp only [stepI] at hs
  unfold xLast at hs
  split at hs
  · rename_i x i a S1
    split at hs
    · rename_i t ht
      split at hs
      · rename_i hc1
        cases hs
        intro H locs ls hR hl hL hz
        obtain ⟨hc0, hi1, hi2⟩ := hc1
        have h2 := hR.two ht (by omega) (by omega)
        have hlt := (List.getElem?_eq_some_iff.mp ht).1
        have hg := WS_get (E := E) ht h2
        rw [cvE_l hc0] at hg
        have hset : (WS E μ).set (a - 2) (ad E a, .inl (eA E 2, t.2.1, .inr (.inl (vp_updL (μ.2.2 a) i.toNatClampNeg x)))) = WS E (μ.1, μ.2.1, up2J μ.2.2 a i.toNatClampNeg x) := by
          refine WS_set (E := E) (μ := μ) (μ' := (μ.1, μ.2.1, up2J μ.2.2 a i.toNatClampNeg x)) rfl hlt h2 ?_ (FF_long (μ := μ))
          unfold up2J
          rw [FF_long_at ht, cvE_l hc0]
        exact va_last hx hb hK.1 hR.2.2.1 wsq_D (mk_S hl) (a - 2) 2 hg rfl (vp_in' hi1 hi2) hd (fun H1 locs1 hP1 _ hS1 => g_wr (M := M) hR hl hz hL k rfl rfl rfl rfl rfl hset hP1 hS1)
      · cases hs
    · cases hs
  · cases hs
theorem zs_aaload (hC : Cx E p s m args meth c R M) (hd : decode (mB M) pc = .ok (.aaload, len)) (hlen : lenOk (.aaload) len = true) (hs : stepI M (.aaload) pc L S μ = some (pc', L', S', μ')) (hcl : cells + (μ'.1.length - μ.1.length) ≤ R.cells) (hsl : slots + (slt μ' - slt μ) ≤ R.slots) (k : Wg E p l e R s m args below meth c Q M (cells + (μ'.1.length - μ.1.length)) (slots + (slt μ' - slt μ)) pc' L' S' μ') : Wg E p l e R s m args below meth c Q M cells slots pc L S μ := by
  obtain ⟨hx, hb, hml, hr, hown, hts, hlocks, hini, hK, hF, hW, hbl⟩ := hC
  obtain rfl := Nat.eq_of_beq_eq_true hlen
  simp only [stepI] at hs
  unfold xAald at hs
  split at hs
  · rename_i i a S1
    split at hs
    · rename_i t ht
      split at hs
      · rename_i hc1
        cases hs
        intro H locs ls hR hl hL hz
        rw [Nat.sub_self, Nat.sub_self] at k
        obtain ⟨hc0, hi1, hi2⟩ := hc1
        have h2 := hR.two ht (by omega) (by omega)
        have hg := WS_get (E := E) ht h2
        rw [cvE_r hc0] at hg
        have hk1 := k H locs ls hR hl hL hz
        rw [List.map_cons, cvv_rf] at hk1
        rcases hc0 with hc0 | hc0
        · rw [hc0] at hg
          exact va_aldq hx hb hK.1 hR.2.2.1 (a - 2) 3 hg rfl (vp_in' hi1 hi2) hd hk1
        · rw [hc0] at hg
          exact va_aldq hx hb hK.1 hR.2.2.1 (a - 2) 4 hg rfl (vp_in' hi1 hi2) hd hk1
      · cases hs
    · cases hs
  · cases hs
theorem zs_aastore (hC : Cx E p s m args meth c R M) (hd : decode (mB M) pc = .ok (.aastore, len)) (hlen : lenOk (.aastore) len = true) (hs : stepI M (.aastore) pc L S μ = some (pc', L', S', μ')) (hcl : cells + (μ'.1.length - μ.1.length) ≤ R.cells) (hsl : slots + (slt μ' - slt μ) ≤ R.slots) (k : Wg E p l e R s m args below meth c Q M (cells + (μ'.1.length - μ.1.length)) (slots + (slt μ' - slt μ)) pc' L' S' μ') : Wg E p l e R s m args below meth c Q M cells slots pc L S μ := by
  obtain ⟨hx, hb, hml, hr, hown, hts, hlocks, hini, hK, hF, hW, hbl⟩ := hC
  obtain rfl := Nat.eq_of_beq_eq_true hlen
  simp only [stepI] at hs
  unfold xAast at hs
  split at hs
  · rename_i v i a S1
    split at hs
    · rename_i t tv ht htv
      split at hs
      · rename_i hc1
        cases hs
        intro H locs ls hR hl hL hz
        obtain ⟨hc0, hi1, hi2⟩ := hc1
        rcases hc0 with ⟨hc0, hcv⟩ | ⟨hc0, hcv⟩
        · have h2 := hR.two ht (by omega) (by omega)
          have h2v := hR.two htv (by omega) (by omega)
          have hlt := (List.getElem?_eq_some_iff.mp ht).1
          have hg := WS_get (E := E) ht h2
          have hgv := WS_get (E := E) htv h2v
          rw [cvE_r (by omega), hc0] at hg
          rw [cvE_obj (ci := 3) hcv] at hgv
          have hset : (WS E μ).set (a - 2) (ad E a, .inl (eA E 3, t.2.1, .inr (.inr (.inr (.inr (va_up (fun j => (t.2.2 j).map (ad E)) i.toNatClampNeg (some (ad E v)))))))) = WS E (μ.1.set a (t.1, t.2.1, va_up t.2.2 i.toNatClampNeg (some v)), μ.2) := by
            refine WS_set (by simp) hlt h2 ?_ FF_ref
            rw [FF_ref_at hlt, cvE_r (by show t.1 = 3 ∨ t.1 = 4; omega)]
            have hfe : (fun j => (va_up t.2.2 i.toNatClampNeg (some v) j).map (ad E)) = va_up (fun j => (t.2.2 j).map (ad E)) i.toNatClampNeg (some (ad E v)) := by
              funext j
              by_cases hj : j = i.toNatClampNeg
              · simp [va_up, hj]
              · simp [va_up, hj]
            show Sum.inl (eA E t.1, t.2.1, Sum.inr (Sum.inr (Sum.inr (Sum.inr (fun j => (va_up t.2.2 i.toNatClampNeg (some v) j).map (ad E)))))) = _
            rw [hc0, hfe]
          have hslt : slt (μ.1.set a (t.1, t.2.1, va_up t.2.2 i.toNatClampNeg (some v)), μ.2) = slt μ := slt_set ht rfl
          exact va_astq hx hb hK.1 hR.2.2.1 wsq_D (mk_S hl) (a - 2) 3 (v - 2) 3 hg rfl hgv (vw_get (by decide)) (vp_in' hi1 hi2) hd (fun H1 locs1 hP1 _ hS1 => g_wr (M := M) hR hl hz hL k (by simp) hslt (by rw [List.getElem?_set_ne (by omega)]) (by rw [List.getElem?_set_ne (by omega)]) rfl hset hP1 hS1)
        · have h2 := hR.two ht (by omega) (by omega)
          have h2v := hR.two htv (by omega) (by omega)
          have hlt := (List.getElem?_eq_some_iff.mp ht).1
          have hg := WS_get (E := E) ht h2
          have hgv := WS_get (E := E) htv h2v
          rw [cvE_r (by omega), hc0] at hg
          rw [cvE_obj (ci := 2) hcv] at hgv
          have hset : (WS E μ).set (a - 2) (ad E a, .inl (eA E 4, t.2.1, .inr (.inr (.inr (.inr (va_up (fun j => (t.2.2 j).map (ad E)) i.toNatClampNeg (some (ad E v)))))))) = WS E (μ.1.set a (t.1, t.2.1, va_up t.2.2 i.toNatClampNeg (some v)), μ.2) := by
            refine WS_set (by simp) hlt h2 ?_ FF_ref
            rw [FF_ref_at hlt, cvE_r (by show t.1 = 3 ∨ t.1 = 4; omega)]
            have hfe : (fun j => (va_up t.2.2 i.toNatClampNeg (some v) j).map (ad E)) = va_up (fun j => (t.2.2 j).map (ad E)) i.toNatClampNeg (some (ad E v)) := by
              funext j
              by_cases hj : j = i.toNatClampNeg
              · simp [va_up, hj]
              · simp [va_up, hj]
            show Sum.inl (eA E t.1, t.2.1, Sum.inr (Sum.inr (Sum.inr (Sum.inr (fun j => (va_up t.2.2 i.toNatClampNeg (some v) j).map (ad E)))))) = _
            rw [hc0, hfe]
          have hslt : slt (μ.1.set a (t.1, t.2.1, va_up t.2.2 i.toNatClampNeg (some v)), μ.2) = slt μ := slt_set ht rfl
          exact va_astq hx hb hK.1 hR.2.2.1 wsq_D (mk_S hl) (a - 2) 4 (v - 2) 2 hg rfl hgv (vw_get (by decide)) (vp_in' hi1 hi2) hd (fun H1 locs1 hP1 _ hS1 => g_wr (M := M) hR hl hz hL k (by simp) hslt (by rw [List.getElem?_set_ne (by omega)]) (by rw [List.getElem?_set_ne (by omega)]) rfl hset hP1 hS1)
      · cases hs
    · cases hs
  · cases hs
theorem zs_arraylength (hC : Cx E p s m args meth c R M) (hd : decode (mB M) pc = .ok (.arraylength, len)) (hlen : lenOk (.arraylength) len = true) (hs : stepI M (.arraylength) pc L S μ = some (pc', L', S', μ')) (hcl : cells + (μ'.1.length - μ.1.length) ≤ R.cells) (hsl : slots + (slt μ' - slt μ) ≤ R.slots) (k : Wg E p l e R s m args below meth c Q M (cells + (μ'.1.length - μ.1.length)) (slots + (slt μ' - slt μ)) pc' L' S' μ') : Wg E p l e R s m args below meth c Q M cells slots pc L S μ := by
  obtain ⟨hx, hb, hml, hr, hown, hts, hlocks, hini, hK, hF, hW, hbl⟩ := hC
  obtain rfl := Nat.eq_of_beq_eq_true hlen
  simp only [stepI] at hs
  unfold xLen at hs
  split at hs
  · rename_i a S1
    split at hs
    · rename_i t ht
      split at hs
      · rename_i ha
        cases hs
        intro H locs ls hR hl hL hz
        rw [Nat.sub_self, Nat.sub_self] at k
        subst ha
        obtain ⟨r0, hr0⟩ := hR.2.2.2.2.1
        rw [hr0] at ht
        cases ht
        exact va_slen hx hb hK.2.1 hbl (Nat.not_le.mpr hbl) (RlS hR hl) hd (k H locs ls hR hl hL hz)
      · cases hs
    · cases hs
  · cases hs
theorem mNew_len (μ : Mm) (t : AT) : (mNew μ t).1.length = μ.1.length + 1 := by simp [mNew]
theorem mNew_slt (μ : Mm) (t : AT) : slt (mNew μ t) = slt μ + szT t := by simp [mNew, slt]
theorem FF_new {E : EE} {μ : Mm} {t : AT} : ∀ q, q ≠ μ.1.length → FF E (mNew μ t) q = FF E μ q := by
  intro q hq
  simp only [FF, mNew, va_up, if_neg hq, List.getD_eq_getElem?_getD]
  congr 2
  by_cases h : q < μ.1.length
  · rw [List.getElem?_append_left h]
  · rw [List.getElem?_eq_none (by simp; omega), List.getElem?_eq_none (by omega)]
theorem FF_new_at {E : EE} {μ : Mm} {t : AT} : FF E (mNew μ t) μ.1.length = cvE E t (fun _ => 0) (fun _ => 0) := by
  simp [FF, mNew, va_up]
/-- behind a row that made a cell -/
theorem g_new {H : Heap} {locs : List Loc} (hR : Rl E μ H) (hl : ∀ q ∈ locs, eB E ≤ q.base) (hz : H.size = s.heap.size + cells) {ls : Array Slot} (hL : LR E ls (mL M) L) {t : AT} {N : Nat} (hN : szT t = N)
    (k : Wg E p l e R s m args below meth c Q M (cells + ((mNew μ t).1.length - μ.1.length)) (slots + (slt (mNew μ t) - slt μ)) pc' L (.ref μ.1.length :: S) (mNew μ t))
    {q : Nat} {H1 : Heap} {en : va_E} (hen : en = cvE E t (fun _ => 0) (fun _ => 0)) (hP : va_P (eD E) vwCl (WS E μ ++ [(q, en)]) H1) (hD : va_D (fun q => eB E ≤ q) (WS E μ ++ [(q, en)])) (hS : va_S (fun q => eB E ≤ q) H H1 locs) : W p l e R s m args below meth c H1 locs (cells + 1) (slots + N) Q (F0 m pc' ls (.ref q :: S.map (cvv E))) := by
  refine W_sized fun hsz => ?_
  rw [mNew_len, mNew_slt, hN, show μ.1.length + 1 - μ.1.length = 1 by omega, show slt μ + N - slt μ = N by omega] at k
  obtain ⟨r1, r2, r3, r4, r5, r6, r7⟩ := hR
  have hwl : (WS E μ).length = μ.1.length - 2 := wsq_len
  have hlast : (WS E μ ++ [(q, en)])[μ.1.length - 2]? = some (q, en) := by
    rw [List.getElem?_append_right (by omega), hwl, Nat.sub_self]
    rfl
  have hq1 : q < H1.size := (hP _ _ hlast).lt
  have hq2 : eB E ≤ q := hD.2 _ _ hlast
  have hq3 : ∀ j, j < μ.1.length - 2 → q ≠ eB E + j := by
    intro j hj e
    have hj1 : (WS E μ ++ [(q, en)])[j]? = some (eB E + j, FF E μ (j + 2)) := by
      rw [List.getElem?_append_left (by omega)]
      exact wsq_get hj
    have := hD.1 j (μ.1.length - 2) _ _ hj1 hlast e.symm
    omega
  have hq4 : q = eB E + (μ.1.length - 2) := by
    by_cases h : q < eB E + (μ.1.length - 2)
    · exact absurd (show q = eB E + (q - eB E) by omega) (hq3 (q - eB E) (by omega))
    · omega
  have hsz1 : H1.size = eB E + (μ.1.length - 2) + 1 := by omega
  have hws : WS E μ ++ [(q, en)] = WS E (mNew μ t) := by
    unfold WS
    rw [mNew_len, hq4, hen]
    have e2 : μ.1.length + 1 - 2 = μ.1.length - 2 + 1 := by omega
    have e3 : μ.1.length - 2 + 2 = μ.1.length := by omega
    rw [e2]
    have := wsq_push (B := eB E) (N := μ.1.length - 2) (F := FF E μ) (G := FF E (mNew μ t)) (by rw [e3]; exact FF_new)
    rw [e3, FF_new_at] at this
    exact this
  have had : ad E μ.1.length = q := by rw [ad_2 r1, hq4]
  have hk := k H1 locs ls ⟨by rw [mNew_len]; omega, by rw [hsz1, mNew_len]; omega, by rw [← hws]; exact hP, fun x hx => ?_, ?_, ?_, ?_⟩ hS.2.2 hL (by omega)
  · rw [List.map_cons] at hk
    rw [← had]
    exact hk
  · rw [hS.2.1 x (by omega) (by omega)]
    exact r4 x hx
  · obtain ⟨r0, h0⟩ := r5
    exact ⟨r0, by simp only [mNew]; rw [List.getElem?_append_left (by omega)]; exact h0⟩
  · simp only [mNew, va_up]
    rw [if_neg (by omega)]
    exact r6
  · obtain ⟨n1, r1', h1⟩ := r7
    exact ⟨n1, r1', by simp only [mNew]; rw [List.getElem?_append_left (by omega)]; exact h1⟩
theorem arr_id {cA : ClassId} {ty : FieldType} (hK : KK E s) (i : Nat) (hi : (tysE E)[i]? = some (eA E i, ty)) (h : va_RA s cA ty) : cA = eA E i := by
  have h2 := (hK.1.2 i _ hi).2
  cases ty with
  | object C =>
    obtain ⟨_, _, _, _, _, g1⟩ := h
    obtain ⟨_, _, _, _, _, g2⟩ := h2
    exact Option.some.inj (g1.symm.trans g2)
  | _ => exact Option.some.inj (h.symm.trans h2)
theorem last_K {cA : ClassId} {ty : FieldType} (h : va_K (eD E) vwCl (tysE E ++ [(cA, ty)]) s) : va_RA s cA ty := (h.2 5 (cA, ty) rfl).2
theorem zs_new {n : Nat} (hC : Cx E p s m args meth c R M) (hd : decode (mB M) pc = .ok (.new n, len)) (hlen : lenOk (.new n) len = true) (hs : stepI M (.new n) pc L S μ = some (pc', L', S', μ')) (hcl : cells + (μ'.1.length - μ.1.length) ≤ R.cells) (hsl : slots + (slt μ' - slt μ) ≤ R.slots) (k : Wg E p l e R s m args below meth c Q M (cells + (μ'.1.length - μ.1.length)) (slots + (slt μ' - slt μ)) pc' L' S' μ') : Wg E p l e R s m args below meth c Q M cells slots pc L S μ := by
  obtain ⟨hx, hb, hml, hr, hown, hts, hlocks, hini, hK, hF, hW, hbl⟩ := hC
  obtain rfl := Nat.eq_of_beq_eq_true hlen
  simp only [stepI] at hs
  split at hs
  · rename_i ci hci
    obtain ⟨h8, hln⟩ := cLk_ok _ (lk2_mem hci)
    cases hs
    intro H locs ls hR hl hL hz
    rw [mNew_len] at hcl
    rw [mNew_slt] at hsl
    have hN : szT (ci + 10, 0, fun _ => none) = nF ci := by
      show (if ci + 10 < 10 then 0 else nF (ci + 10 - 10)) = nF ci
      rw [if_neg (by omega), Nat.add_sub_cancel]
    rw [hN] at hsl
    have hinst : Cond.instantiable (RC ci) (nF ci) ∈ wsL_law := by
      match ci, h8 with
      | 0, _ => exact gInst0
      | 1, _ => exact gInst1
      | 2, _ => exact gInst2
      | 3, _ => exact gInst3
      | 4, _ => exact gInst4
      | 5, _ => exact gInst5
      | 6, _ => exact gInst6
      | 7, _ => exact gInst7
    have hinit : Cond.initialized (RC ci) ∈ wsL_law := by
      match ci, h8 with
      | 0, _ => exact gIni0
      | 1, _ => exact gIni1
      | 2, _ => exact gIni2
      | 3, _ => exact gIni3
      | 4, _ => exact gIni4
      | 5, _ => exact gIni5
      | 6, _ => exact gIni6
      | 7, _ => exact gIni7
    refine va_new (own := RC (mC M)) (C := RC ci) (T := TC ci) (N := nF ci) (ci := ci) (fs := (List.range (nF ci)).map (fun k => cvv E (fV ci k (ci + 10, 0, fun _ => none) (fun _ => 0)))) hx hb hts (in_ws h8) (tyC ci) (tyC_ok h8) hown (hts _ hln) (hts _ hinst) (hts _ hinit) hK.1 hR.2.2.1 wsq_D (mk_S hl) (fun q hq => by show eB E ≤ q; have := hR.2.1; omega) (vw_get h8) (fun j hj => ?_) (by omega) (by omega) hd (fun q H1 hP1 hD1 hS1 => g_new hR hl hz hL hN k ?_ hP1 hD1 hS1)
    · rw [tyC_def ci h8 j hj]
      unfold vp_V
      rw [List.getD_eq_getElem?_getD, List.getElem?_map, List.getElem?_range hj]
      by_cases hf : fTy ci j = 2
      · simp [fV, hf, rfV, cvv]
      · simp [fV, hf, cvv]
    · rw [cvE_obj (ci := ci) rfl]
  · cases hs
theorem zs_newarray {ty : ArrayType} (hC : Cx E p s m args meth c R M) (hd : decode (mB M) pc = .ok (.newarray ty, len)) (hlen : lenOk (.newarray ty) len = true) (hs : stepI M (.newarray ty) pc L S μ = some (pc', L', S', μ')) (hcl : cells + (μ'.1.length - μ.1.length) ≤ R.cells) (hsl : slots + (slt μ' - slt μ) ≤ R.slots) (k : Wg E p l e R s m args below meth c Q M (cells + (μ'.1.length - μ.1.length)) (slots + (slt μ' - slt μ)) pc' L' S' μ') : Wg E p l e R s m args below meth c Q M cells slots pc L S μ := by
  obtain ⟨hx, hb, hml, hr, hown, hts, hlocks, hini, hK, hF, hW, hbl⟩ := hC
  obtain rfl := Nat.eq_of_beq_eq_true hlen
  simp only [stepI] at hs
  cases ty with
    | int =>
      simp only [] at hs
      unfold xNewa at hs
      split at hs
      · rename_i n S1
        split at hs
        · rename_i hc1
          cases hs
          intro H locs ls hR hl hL hz
          rw [mNew_len] at hcl
          rw [mNew_slt] at hsl
          have hN : szT (0, n.toNatClampNeg, fun _ => none) = n.toNatClampNeg := by simp [szT]
          rw [hN] at hsl
          have hby : n.toNatClampNeg * componentBytes .int ≤ 536870912 := by
            have h9 : componentBytes .int ≤ 8 := by decide
            have := Nat.mul_le_mul hc1.2 h9
            omega
          refine va_newa (atype := .int) hx hb (hts _ gArrI) (ty := .int) rfl hK.1 hR.2.2.1 wsq_D (mk_S hl) (fun q hq => by show eB E ≤ q; have := hR.2.1; omega) (a0 := (n.toNatClampNeg, .inl (fun _ => 0))) (fun cA => rfl) hc1.1 rfl hby (by omega) (by omega) hd (fun q cA H1 hK1 hP1 hD1 hS1 => ?_)
          have hid := arr_id (s := s) hK 0 rfl (last_K hK1)
          subst hid
          exact g_new hR hl hz hL hN k (by simp [cvE]) hP1 hD1 hS1
        · cases hs
      · cases hs
    | char =>
      simp only [] at hs
      unfold xNewa at hs
      split at hs
      · rename_i n S1
        split at hs
        · rename_i hc1
          cases hs
          intro H locs ls hR hl hL hz
          rw [mNew_len] at hcl
          rw [mNew_slt] at hsl
          have hN : szT (1, n.toNatClampNeg, fun _ => none) = n.toNatClampNeg := by simp [szT]
          rw [hN] at hsl
          have hby : n.toNatClampNeg * componentBytes .char ≤ 536870912 := by
            have h9 : componentBytes .char ≤ 8 := by decide
            have := Nat.mul_le_mul hc1.2 h9
            omega
          refine va_newa (atype := .char) hx hb (hts _ gArrC) (ty := .char) rfl hK.1 hR.2.2.1 wsq_D (mk_S hl) (fun q hq => by show eB E ≤ q; have := hR.2.1; omega) (a0 := (n.toNatClampNeg, .inl (fun _ => 0))) (fun cA => rfl) hc1.1 rfl hby (by omega) (by omega) hd (fun q cA H1 hK1 hP1 hD1 hS1 => ?_)
          have hid := arr_id (s := s) hK 1 rfl (last_K hK1)
          subst hid
          exact g_new hR hl hz hL hN k (by simp [cvE]) hP1 hD1 hS1
        · cases hs
      · cases hs
    | long =>
      simp only [] at hs
      unfold xNewa at hs
      split at hs
      · rename_i n S1
        split at hs
        · rename_i hc1
          cases hs
          intro H locs ls hR hl hL hz
          rw [mNew_len] at hcl
          rw [mNew_slt] at hsl
          have hN : szT (2, n.toNatClampNeg, fun _ => none) = n.toNatClampNeg := by simp [szT]
          rw [hN] at hsl
          have hby : n.toNatClampNeg * componentBytes .long ≤ 536870912 := by
            have h9 : componentBytes .long ≤ 8 := by decide
            have := Nat.mul_le_mul hc1.2 h9
            omega
          refine va_newa (atype := .long) hx hb (hts _ gArrJ) (ty := .long) rfl hK.1 hR.2.2.1 wsq_D (mk_S hl) (fun q hq => by show eB E ≤ q; have := hR.2.1; omega) (a0 := (n.toNatClampNeg, .inr (.inl (fun _ => 0)))) (fun cA => rfl) hc1.1 rfl hby (by omega) (by omega) hd (fun q cA H1 hK1 hP1 hD1 hS1 => ?_)
          have hid := arr_id (s := s) hK 2 rfl (last_K hK1)
          subst hid
          exact g_new hR hl hz hL hN k (by simp [cvE]) hP1 hD1 hS1
        · cases hs
      · cases hs
    | _ => cases hs
theorem zs_anewarray {n : Nat} (hC : Cx E p s m args meth c R M) (hd : decode (mB M) pc = .ok (.anewarray n, len)) (hlen : lenOk (.anewarray n) len = true) (hs : stepI M (.anewarray n) pc L S μ = some (pc', L', S', μ')) (hcl : cells + (μ'.1.length - μ.1.length) ≤ R.cells) (hsl : slots + (slt μ' - slt μ) ≤ R.slots) (k : Wg E p l e R s m args below meth c Q M (cells + (μ'.1.length - μ.1.length)) (slots + (slt μ' - slt μ)) pc' L' S' μ') : Wg E p l e R s m args below meth c Q M cells slots pc L S μ := by
  obtain ⟨hx, hb, hml, hr, hown, hts, hlocks, hini, hK, hF, hW, hbl⟩ := hC
  obtain rfl := Nat.eq_of_beq_eq_true hlen
  simp only [stepI] at hs
  split at hs
  · rename_i hci
    obtain ⟨h8, hln⟩ := cLk_ok _ (lk2_mem hci)
    unfold xNewa at hs
    split at hs
    · rename_i n S1
      split at hs
      · rename_i hc1
        cases hs
        intro H locs ls hR hl hL hz
        rw [mNew_len] at hcl
        rw [mNew_slt] at hsl
        have hN : szT (3, n.toNatClampNeg, fun _ => none) = n.toNatClampNeg := by simp [szT]
        rw [hN] at hsl
        refine va_newq (own := RC (mC M)) (C := RX3) hx hb hown (hts _ hln) hK.2.2.1 hK.1 hR.2.2.1 wsq_D (mk_S hl) (fun q hq => by show eB E ≤ q; have := hR.2.1; omega) hc1.1 rfl (by omega) (by omega) (by omega) hd (fun q cA H1 hK1 hP1 hD1 hS1 => ?_)
        have hid := arr_id (s := s) hK 3 rfl (last_K hK1)
        subst hid
        exact g_new hR hl hz hL hN k (by simp [cvE]) hP1 hD1 hS1
      · cases hs
    · cases hs
  · rename_i hci
    obtain ⟨h8, hln⟩ := cLk_ok _ (lk2_mem hci)
    unfold xNewa at hs
    split at hs
    · rename_i n S1
      split at hs
      · rename_i hc1
        cases hs
        intro H locs ls hR hl hL hz
        rw [mNew_len] at hcl
        rw [mNew_slt] at hsl
        have hN : szT (4, n.toNatClampNeg, fun _ => none) = n.toNatClampNeg := by simp [szT]
        rw [hN] at hsl
        refine va_newq (own := RC (mC M)) (C := RX2) hx hb hown (hts _ hln) hK.2.2.2.1 hK.1 hR.2.2.1 wsq_D (mk_S hl) (fun q hq => by show eB E ≤ q; have := hR.2.1; omega) hc1.1 rfl (by omega) (by omega) (by omega) hd (fun q cA H1 hK1 hP1 hD1 hS1 => ?_)
        have hid := arr_id (s := s) hK 4 rfl (last_K hK1)
        subst hid
        exact g_new hR hl hz hL hN k (by simp [cvE]) hP1 hD1 hS1
      · cases hs
    · cases hs
  · cases hs
theorem zs_copy {n : Nat} (hC : Cx E p s m args meth c R M) (hF1 : 1 ≤ mF M) (hW1 : 60 ≤ mW M) (hln : Cond.methodLink (RC (mC M)) n arraycopyName ∈ wsL_law) (hd : decode (mB M) pc = .ok (.invokestatic n, 3)) (hs : xCopy pc L S μ = some (pc', L', S', μ')) (k : Wg E p l e R s m args below meth c Q M (cells + (μ'.1.length - μ.1.length)) (slots + (slt μ' - slt μ)) pc' L' S' μ') : Wg E p l e R s m args below meth c Q M cells slots pc L S μ := by
  obtain ⟨hx, hb, hml, hr, hown, hts, hlocks, hini, hK, hF, hW, hbl⟩ := hC
  unfold xCopy at hs
  split at hs
  · rename_i nn dp b sp a S1
    split at hs
    · rename_i t tb ht htb
      split at hs
      · rename_i hc1
        obtain ⟨h0, ⟨h1, h2', h3⟩, h4, h5⟩ := hc1
        split at hs
        · rename_i hc2
          cases hs
          intro H locs ls hR hl hL hz
          have h2 := hR.two ht (by omega) (by omega)
          have h2b := hR.two htb (by omega) (by omega)
          have hlt := (List.getElem?_eq_some_iff.mp htb).1
          have hg := WS_get (E := E) ht h2
          have hgb := WS_get (E := E) htb h2b
          rw [cvE_i (by omega), hc2.1] at hg
          rw [cvE_i (by omega), hc2.2] at hgb
          have h9 : nativeFrameWords "java/lang/System" "arraycopy" 5 + 11 ≤ 20 := by decide
          exact va_copyi (own := RC (mC M)) (ty := .int) hx hb (by rw [hml, hL.1]) hown (hts _ hln) (hts _ gNatAcp) (hts _ gStatAcp) (hts _ gIniSys) hK.1 hR.2.2.1 wsq_D (mk_S hl) (a - 2) (b - 2) 0 0 hg hgb rfl rfl rfl h1 h2' h3 h4 h5 (fun _ _ => rfl) (by omega) (by rw [cvv_sum]; omega) hd (fun H1 locs1 hP1 _ hS1 => g_wr (M := M) hR hl hz hL k rfl rfl rfl rfl (by simp [va_up]; omega) (by
            refine WS_set (E := E) (μ := μ) (μ' := (μ.1, va_up μ.2.1 b (va_cpy (μ.2.1 a) (μ.2.1 b) sp.toNatClampNeg dp.toNatClampNeg nn.toNatClampNeg), μ.2.2)) rfl hlt h2b ?_ (FF_int (μ := μ))
            rw [FF_int_at htb, cvE_i (by omega), hc2.2]) hP1 hS1)
        · split at hs
          rename_i hc2
          cases hs
          intro H locs ls hR hl hL hz
          have h2 := hR.two ht (by omega) (by omega)
          have h2b := hR.two htb (by omega) (by omega)
          have hlt := (List.getElem?_eq_some_iff.mp htb).1
          have hg := WS_get (E := E) ht h2
          have hgb := WS_get (E := E) htb h2b
          rw [cvE_l hc2.1] at hg
          rw [cvE_l hc2.2] at hgb
          have h9 : nativeFrameWords "java/lang/System" "arraycopy" 5 + 11 ≤ 20 := by decide
          exact va_copyl (own := RC (mC M)) (ty := .long) hx hb (by rw [hml, hL.1]) hown (hts _ hln) (hts _ gNatAcp) (hts _ gStatAcp) (hts _ gIniSys) hK.1 hR.2.2.1 wsq_D (mk_S hl) (a - 2) (b - 2) 2 2 hg hgb rfl rfl rfl h1 h2' h3 h4 h5 (fun _ _ => rfl) (by omega) (by rw [cvv_sum]; omega) hd (fun H1 locs1 hP1 _ hS1 => g_wr (M := M) hR hl hz hL k rfl rfl rfl rfl rfl (by
            refine WS_set (E := E) (μ := μ) (μ' := (μ.1, μ.2.1, va_up μ.2.2 b (va_cpy (μ.2.2 a) (μ.2.2 b) sp.toNatClampNeg dp.toNatClampNeg nn.toNatClampNeg))) rfl hlt h2b ?_ (FF_long (μ := μ))
            rw [FF_long_at htb, cvE_l hc2.2]) hP1 hS1)
          cases hs
      · cases hs
    · cases hs
  · cases hs
theorem zs_invokestatic {n : Nat} (hC : Cx E p s m args meth c R M) (hd : decode (mB M) pc = .ok (.invokestatic n, len)) (hlen : lenOk (.invokestatic n) len = true) (hs : stepI M (.invokestatic n) pc L S μ = some (pc', L', S', μ')) (hcl : cells + (μ'.1.length - μ.1.length) ≤ R.cells) (hsl : slots + (slt μ' - slt μ) ≤ R.slots) (k : Wg E p l e R s m args below meth c Q M (cells + (μ'.1.length - μ.1.length)) (slots + (slt μ' - slt μ)) pc' L' S' μ') : Wg E p l e R s m args below meth c Q M cells slots pc L S μ := by
  obtain ⟨hx, hb, hml, hr, hown, hts, hlocks, hini, hK, hF, hW, hbl⟩ := hC
  obtain rfl := Nat.eq_of_beq_eq_true hlen
  simp only [stepI] at hs
  unfold xStat at hs
  split at hs
  · rename_i hm
    split at hs
    · split at hs
      · rename_i hc1
        cases hs
        rw [Nat.sub_self] at hcl hsl
        exact g_pure k (fun H locs ls hL kk => va_mmax hx hb (by rw [hml, hL.1]) hown (hts _ (xMax_ok _ (lk2_mem hm))) (hts _ gStatMax) (hts _ gIniMath) (hts _ gCodeMax) (by omega) (by rw [cvv_sum]; omega) (by omega) (by omega) hd (kk ls hL))
      · cases hs
    · cases hs
  · split at hs
    · rename_i hm
      split at hs
      · split at hs
        · rename_i hc1
          cases hs
          rw [Nat.sub_self] at hcl hsl
          exact g_pure k (fun H locs ls hL kk => va_mmin hx hb (by rw [hml, hL.1]) hown (hts _ (xMin_ok _ (lk2_mem hm))) (hts _ gStatMin) (hts _ gIniMath) (hts _ gCodeMin) (by omega) (by rw [cvv_sum]; omega) (by omega) (by omega) hd (kk ls hL))
        · cases hs
      · cases hs
    · split at hs
      · rename_i hm
        split at hs
        · rename_i hc1
          exact zs_copy ⟨hx, hb, hml, hr, hown, hts, hlocks, hini, hK, hF, hW, hbl⟩ hc1.1 hc1.2 (xAcp_ok _ (lk2_mem hm)) hd hs k
        · cases hs
      · cases hs
theorem zs_invokespecial {n : Nat} (hC : Cx E p s m args meth c R M) (hd : decode (mB M) pc = .ok (.invokespecial n, len)) (hlen : lenOk (.invokespecial n) len = true) (hs : stepI M (.invokespecial n) pc L S μ = some (pc', L', S', μ')) (hcl : cells + (μ'.1.length - μ.1.length) ≤ R.cells) (hsl : slots + (slt μ' - slt μ) ≤ R.slots) (k : Wg E p l e R s m args below meth c Q M (cells + (μ'.1.length - μ.1.length)) (slots + (slt μ' - slt μ)) pc' L' S' μ') : Wg E p l e R s m args below meth c Q M cells slots pc L S μ := by
  obtain ⟨hx, hb, hml, hr, hown, hts, hlocks, hini, hK, hF, hW, hbl⟩ := hC
  obtain rfl := Nat.eq_of_beq_eq_true hlen
  simp only [stepI] at hs
  unfold xSpec at hs
  split at hs
  · rename_i hm
    split at hs
    · split at hs
      · rename_i hc1
        cases hs
        exact g_pure k (fun H locs ls hL kk => W.objInit hx hb hown (hts _ (xOin_ok _ (lk2_mem hm))) (hts _ gInsOin) (hts _ gCodeOin) rfl (by rw [hml]; exact hL.1) rfl hd (by omega) (by show 2 * 0 + _ + 12 ≤ _; rw [cvv_sum]; omega) (kk ls hL))
      · cases hs
    · cases hs
  · cases hs
theorem zs_invokevirtual (hix : mC M = 5 → 7 ≤ R.frames → 180 ≤ R.locals → cells ≤ R.cells → slots ≤ R.slots → ∀ (H : Heap) (locs : List Loc) (ls : Array Slot) (rest : List Value) (ch : Int32), Rl E μ H → (∀ q ∈ locs, eB E ≤ q.base) → ls.size = mL M → H.size = s.heap.size + cells → (rest.map fun v => v.category).sum ≤ 8 → decode (mB M) pc = .ok (.invokevirtual 62, 3) → W p l e R s m args below meth c H locs cells slots Q (F0 m (pc + 3) ls (.int (kIx ch) :: rest)) → W p l e R s m args below meth c H locs cells slots Q (F0 m pc ls (.int ch :: .ref (es E) :: rest))) {n : Nat} (hC : Cx E p s m args meth c R M) (hd : decode (mB M) pc = .ok (.invokevirtual n, len)) (hlen : lenOk (.invokevirtual n) len = true) (hs : stepI M (.invokevirtual n) pc L S μ = some (pc', L', S', μ')) (hcl : cells + (μ'.1.length - μ.1.length) ≤ R.cells) (hsl : slots + (slt μ' - slt μ) ≤ R.slots) (k : Wg E p l e R s m args below meth c Q M (cells + (μ'.1.length - μ.1.length)) (slots + (slt μ' - slt μ)) pc' L' S' μ') : Wg E p l e R s m args below meth c Q M cells slots pc L S μ := by
  obtain ⟨hx, hb, hml, hr, hown, hts, hlocks, hini, hK, hF, hW, hbl⟩ := hC
  obtain rfl := Nat.eq_of_beq_eq_true hlen
  simp only [stepI] at hs
  unfold xVirt at hs
  split at hs
  · rename_i hm
    obtain ⟨hm, rfl⟩ := hm
    split at hs
    · split at hs
      · rename_i hc1
        cases hs
        rw [Nat.sub_self] at hcl hsl
        intro H locs ls hR hl hL hz
        rw [Nat.sub_self, Nat.sub_self] at k
        exact hix hm (by omega) (by omega) (by omega) (by omega) H locs ls _ _ hR hl hL.1 hz (by rw [cvv_sum]; exact hc1.2.2) hd (k H locs ls hR hl hL hz)
      · cases hs
    · cases hs
  · cases hs
end ST
