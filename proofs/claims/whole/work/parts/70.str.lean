section STK
theorem SJ.nr {A B : Nat → Prop} {q v : Nat} {U : State} {H : Heap} (h : SJ A q v U H) (hAB : ∀ q, B q → A q) : SJ B q v U H := ⟨h.1.narrow hAB, h.2.1.narrow hAB, h.2.2.1.narrow hAB, h.2.2.2.1.narrow hAB, h.2.2.2.2.narrow hAB⟩
def TJ (H0 : Heap) (q v : Nat) : State → Prop := fun U => vk_R RX5 60 "pdtwu" q U ∧ SJ (fun z => H0.size ≤ z) q v U H0
theorem strOk {E : EE} {l : Launch} {v : Nat} (hT : eT E = TJ (eH E) (es E) v) : StrOk E l := by
  refine ⟨fun {s U} hW h => ?_, ?_, ?_⟩
  · rw [hT] at h ⊢
    exact ⟨h.1.warm hW, h.2.mv hW.alike⟩
  · intro p e R s m args below meth c Q M cells slots pc hC h5 H locs ls rest hd k
    obtain ⟨hx, hb, hml, hr, hown, hts, hlocks, hini, hK, hF, hW, hbl⟩ := hC
    rw [h5] at hown
    have hZ := hK.2.2.2.2.2.2
    rw [hT] at hZ
    exact va_ldcS hx hb (own := RX5) hown hZ.1 hd k
  · intro p e R s m args below meth c Q M cells slots pc μ hC h5 h7 h180 hcl hsl H locs ls rest ch hR hl hz hsz hrest hd k
    obtain ⟨hx, hb, hml, hr, hown, hts, hlocks, hini, hK, hF, hW, hbl⟩ := hC
    rw [h5] at hown
    have hZ := hK.2.2.2.2.2.2
    rw [hT] at hZ
    have hJ : SJ (fun _ => False) (es E) v s H := (hZ.2.kp (fun a h1 h2 => hR.2.2.2.1 a h1)).nr (fun _ h => h.elim)
    have hrun := va_runV (l := l) (e := e) (below := below) (meth := meth) (locs := locs) (cells := cells) (slots := slots) (g := F0 m pc ls (.int ch :: .ref (es E) :: rest)) (As := [.int ch]) (b := es E) (rest := rest) (C := RJ0) (Ts := wsL_law) (own := RX5) ⟨hx, hb, hml, hown, hts⟩ (j_ix (l := l) (A := fun _ => False) (q := es E) (v := v) (ch := ch)) (j_cwV (R := R) (n := 1) hts (inP14 _ (List.mem_of_getElem? (i := 8) rfl)) (inP14 _ (List.mem_of_getElem? (i := 9) rfl)) (inP14 _ (List.mem_of_getElem? (i := 10) rfl)) (inP14 _ (List.mem_of_getElem? (i := 11) rfl)) (inP14 _ (List.mem_of_getElem? (i := 12) rfl)) rfl rfl (by decide +kernel) ⟨by show 3 + 1 ≤ R.frames; omega, by show 8 + (2 + 11) + 70 ≤ R.locals; omega⟩) ⟨bl_J, (let ⟨cl0, z1, z2, z3, _⟩ := hJ.1; ⟨cl0, z1, z2, z3⟩), fun U hU hWm => ⟨rfl, by rw [hU]; exact hJ.mv hWm.alike⟩⟩ rfl rfl hz rfl (lv_room hrest) hd ⟨hcl, hsl⟩
    intro T hT2 X
    obtain ⟨w, st₀, t, T', LL, h0, X', hL, e1, e2, ⟨hv, hR'⟩, st⟩ := hrun T hT2 X
    have hv' : w = some (.int (kIx ch)) := by
      have := hv
      simp only [Outcome.returned.injEq] at this
      exact this
    subst hv'
    have hLL : LL = [] := by
      cases LL with
      | nil => rfl
      | cons a b => exact (hL a List.mem_cons_self).elim
    subst hLL
    rw [List.append_nil] at X'
    obtain ⟨t2, a1, b1⟩ := k T' (by rw [e1, hR', h0]) X'
    exact ⟨t2, st t2 a1, b1⟩
end STK
