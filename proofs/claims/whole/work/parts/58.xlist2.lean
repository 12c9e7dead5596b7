section XL2
variable {G : List AT} {m m1 m2 m' : Nat → Nat → Int32} {ml : Nat → Nat → Int64} {tl n p q c e d f j i lo hi x y k A : Nat} {tc τ σ τ' : Nat → Nat} {u v w : Int32} {μ : Mm} {F : Nat → Nat → Nat}
/-- what the reference has read so far -/
def RLd (m : Nat → Nat → Int32) (τ : Nat → Nat) : Prop := m 158 12 = nI (τ 45) ∧ m 158 13 = nI (τ 44) ∧ (∀ k, k < τ 45 → m 165 k = nI (τ (51 + k)) ∧ m 166 k = nI (τ (51 + k) - τ k)) ∧ ∀ k, k < τ 44 → m 167 k = nI (τ (46 + k)) ∧ m 168 k = nI (τ (5 + k))
def RP (m : Nat → Nat → Int32) (tl : Nat) (tc : Nat → Nat) (p : Nat) (τ : Nat → Nat) : Prop := m 158 10 = nI p ∧ m 158 11 = -4 ∧ RT m tl tc ∧ p ≤ tl ∧ RLd m τ
/-- and behind a fault -/
def RF (m : Nat → Nat → Int32) (tl : Nat) (tc : Nat → Nat) (A f : Nat) : Prop := (∃ a, m 158 10 = nI a ∧ a ≤ A) ∧ m 158 11 = nI f ∧ f ≤ tl ∧ RT m tl tc ∧ (∃ x, m 158 12 = nI x ∧ x ≤ 5) ∧ ∃ y, m 158 13 = nI y ∧ y ≤ 5
def FPX (m m' : Nat → Nat → Int32) : Prop := (∀ b, b ≠ 158 → b ≠ 165 → b ≠ 166 → b ≠ 167 → b ≠ 168 → m' b = m b) ∧ ∀ k, k < 10 ∨ 14 < k → m' 158 k = m 158 k
theorem FPX.rf : FPX m m := ⟨fun _ _ _ _ _ _ => rfl, fun _ _ => rfl⟩
theorem FPX.tr {m3 : Nat → Nat → Int32} (h1 : FPX m m1) (h2 : FPX m1 m3) : FPX m m3 := ⟨fun b z1 z2 z3 z4 z5 => by rw [h2.1 b z1 z2 z3 z4 z5, h1.1 b z1 z2 z3 z4 z5], fun k hk => by rw [h2.2 k hk, h1.2 k hk]⟩
theorem FPX.uu (h : FPX m m1) (hk : 10 ≤ k ∧ k ≤ 14) : FPX m (up2 m1 158 k v) := ⟨fun b z1 z2 z3 z4 z5 => by rw [up2_n z1]; exact h.1 b z1 z2 z3 z4 z5, fun j hj => by rw [up2_k (by omega)]; exact h.2 j hj⟩
theorem FPX.aa {b : Nat} (h : FPX m m1) (hb : b = 165 ∨ b = 166 ∨ b = 167 ∨ b = 168) : FPX m (up2 m1 b k v) := ⟨fun b z1 z2 z3 z4 z5 => by rw [up2_n (by omega)]; exact h.1 b z1 z2 z3 z4 z5, fun j hj => by rw [up2_n (by omega)]; exact h.2 j hj⟩
theorem RLd_u (h : RLd m τ) (hk : k ≠ 12 ∧ k ≠ 13) : RLd (up2 m 158 k v) τ := by
  obtain ⟨h1, h2, h3, h4⟩ := h
  exact ⟨by rw [up2_k (by omega)]; exact h1, by rw [up2_k (by omega)]; exact h2, fun k hk => by rw [up2_n (by decide), up2_n (by decide)]; exact h3 k hk, fun k hk => by rw [up2_n (by decide), up2_n (by decide)]; exact h4 k hk⟩
theorem RT_u (h : RT m tl tc) (hk : k ≠ 3) : RT (up2 m 158 k v) tl tc := RT_fr h (by rw [up2_k (by omega)]) (up2_n (by decide))
theorem RT_a {b : Nat} (h : RT m tl tc) (hb : b ≠ 158 ∧ b ≠ 160) : RT (up2 m b k v) tl tc := RT_fr h (by rw [up2_n (by omega)]) (up2_n (by omega))
theorem RP.at (h : RP m tl tc p τ) (hq : q ≤ tl) : RP (up2 m 158 10 (nI q)) tl tc q τ := ⟨by rw [up2_s], by rw [up2_k (by decide)]; exact h.2.1, RT_u h.2.2.1 (by decide), hq, RLd_u h.2.2.2.2 (by decide)⟩
theorem x_num_ok (hG : GM G) (hT : RT m tl tc) (hp : m 158 10 = nI p) (hf : m 158 11 = -4) (hl : p ≤ tl) (hlo : lo < 1000) (hhi : hi < 1000) (h : numR tl tc lo hi p = .inr (x, e)) : res mX7_number [.ref 158, .int (nI lo), .int (nI hi)] (G, m, ml) = some (some (.int (nI x)), (G, up2 m 158 10 (nI e), ml)) ∧ x ≤ 99 ∧ x ≤ hi ∧ e ≤ tl := by
  unfold numR at h
  by_cases hd : dgt tl tc (sk tl tc p) = true
  · rw [if_pos hd] at h
    have := x_num1 (ml := ml) (lo := lo) (hi := hi) hG hT hp hf hl hd hlo hhi
    by_cases hr : lo ≤ nv tl tc (sk tl tc p) ∧ nv tl tc (sk tl tc p) ≤ hi
    · rw [if_pos hr] at h
      by_cases hz : dgt tl tc (ne' tl tc (sk tl tc p)) = true
      · rw [if_pos hz] at h; cases h
      · rw [if_neg hz] at h
        rw [if_pos hr, if_neg hz] at this
        cases h
        exact ⟨this, nv_le hd, hr.2, (ne_le hd).1⟩
    · rw [if_neg hr] at h; cases h
  · rw [if_neg hd] at h; cases h
theorem x_num_fl (hG : GM G) (hT : RT m tl tc) (hp : m 158 10 = nI p) (hf : m 158 11 = -4) (hl : p ≤ tl) (hlo : lo < 1000) (hhi : hi < 1000) (h : numR tl tc lo hi p = .inl f) : ∃ x a, res mX7_number [.ref 158, .int (nI lo), .int (nI hi)] (G, m, ml) = some (some (.int (nI x)), (G, up2 (up2 m 158 10 (nI a)) 158 11 (nI f), ml)) ∧ x ≤ 99 ∧ a ≤ tl ∧ f ≤ tl := by
  have hs := sk_le (tc := tc) hl
  unfold numR at h
  by_cases hd : dgt tl tc (sk tl tc p) = true
  · rw [if_pos hd] at h
    have := x_num1 (ml := ml) (lo := lo) (hi := hi) hG hT hp hf hl hd hlo hhi
    have hn := ne_le hd
    by_cases hr : lo ≤ nv tl tc (sk tl tc p) ∧ nv tl tc (sk tl tc p) ≤ hi
    · rw [if_pos hr] at h
      by_cases hz : dgt tl tc (ne' tl tc (sk tl tc p)) = true
      · rw [if_pos hz] at h
        rw [if_pos hr, if_pos hz] at this
        cases h
        exact ⟨_, _, this, nv_le hd, hn.1, hn.1⟩
      · rw [if_neg hz] at h; cases h
    · rw [if_neg hr] at h
      rw [if_neg hr] at this
      cases h
      exact ⟨_, _, this, nv_le hd, hn.1, hs⟩
  · rw [if_neg hd] at h; cases h
    have hd : dgt tl tc (sk tl tc p) = false := by
      cases hz : dgt tl tc (sk tl tc p)
      · rfl
      · exact absurd hz hd
    exact ⟨0, _, x_num0 hG hT hp hf hl hd, by omega, hs, hs⟩
theorem x_rhF {v1 v2 : Int32} (h : RF m tl tc A f) (hx : x < 5) (hq : q ≤ A) : RF (up2 (up2 (up2 (up2 m 165 k v1) 166 j v2) 158 10 (nI q)) 158 12 (nI (x + 1))) tl tc A f := by
  obtain ⟨-, h2, h3, h4, -, y, h6, h7⟩ := h
  exact ⟨⟨q, by rw [up2_k (by decide), up2_s], hq⟩, by rw [up2_k (by decide), up2_k (by decide), up2_n (by decide), up2_n (by decide)]; exact h2, h3, RT_u (RT_u (RT_a (RT_a h4 (by decide)) (by decide)) (by decide)) (by decide), ⟨x + 1, by rw [up2_s], by omega⟩, y, by rw [up2_k (by decide), up2_k (by decide), up2_n (by decide), up2_n (by decide)]; exact h6, h7⟩
theorem x_rh (hG : GM G) (hP : RP m tl tc p τ) (h5 : τ 45 < 5) (h4 : τ 44 ≤ 5) : ∃ m', res mX7_readsHearer [.ref 158] (G, m, ml) = some (none, (G, m', ml)) ∧ FPX m m' ∧ (∀ f, hrR tl tc p τ = .inl f → RF m' tl tc 70 f) ∧ ∀ e τ', hrR tl tc p τ = .inr (e, τ') → RP m' tl tc e τ' := by
  have hG0 := hG
  obtain ⟨p1, p2, p3, p4, r1, r2, r3, r4⟩ := hP
  have h70 := p3.2.1
  obtain ⟨⟨g0, g1, g2, g3, g4, g5, g6, g7, g8, g9, g10, -⟩, ⟨a0, a1, a2, a3, a4, a5, a6, a7, a8, a9, -⟩, ⟨l0, l1, l2, l3, l4, l5, l6, l7, l8, l9, -⟩⟩ := hG
  cases hn : numR tl tc 1 60 p with
  | inl f =>
    have hR : hrR tl tc p τ = .inl f := by unfold hrR; rw [hn]
    obtain ⟨x, a, e1, hx, ha, hf⟩ := x_num_fl (ml := ml) hG0 p3 p1 p2 p4 (by decide) (by decide) hn
    have M0 : RF (up2 (up2 m 158 10 (nI a)) 158 11 (nI f)) tl tc 70 f := ⟨⟨a, by rw [up2_k (by decide), up2_s], by omega⟩, by rw [up2_s], hf, RT_u (RT_u p3 (by decide)) (by decide), ⟨τ 45, by rw [up2_k (by decide), up2_k (by decide)]; exact r1, by omega⟩, τ 44, by rw [up2_k (by decide), up2_k (by decide)]; exact r2, h4⟩
    have e2 := x_here_f (ml := ml) (v := nI 45) (m := up2 (up2 (up2 (up2 m 158 10 (nI a)) 158 11 (nI f)) 165 (τ 45) (nI x)) 166 (τ 45) (nI 0)) hG0 (RT_a (RT_a M0.2.2.2.1 (by decide)) (by decide)) (p := a) (f := f) (by rw [up2_n (by decide), up2_n (by decide), up2_k (by decide), up2_s]) (by rw [up2_n (by decide), up2_n (by decide), up2_s]) (by omega) (by omega)
    have hsa := sk_mx (tl := tl) (tc := tc) a
    refine ⟨up2 (up2 (up2 (up2 (up2 (up2 m 158 10 (nI a)) 158 11 (nI f)) 165 (τ 45) (nI x)) 166 (τ 45) (nI 0)) 158 10 (nI (sk tl tc a))) 158 12 (nI (τ 45 + 1)), ?_, (((((FPX.rf.uu (by decide)).uu (by decide)).aa (by decide)).aa (by decide)).uu (by decide)).uu (by decide), fun f' z => ?_, fun e τ' z => by rw [hR] at z; cases z⟩
    · apply res_of
      show Wp mX7_readsHearer 0 [some (.ref 158)] [] (G, m, ml) _
      simp (maxSteps := 1000000) (decide := true) (disch := (first | assumption | omega | exact Nat.div_mul_le_self _ _ | exact ni_nz (by omega) (by omega) | exact rfl | exact retOk_bI _ | exact retOk_0 | exact retOk_1)) only [eX7_readsHearer_0, eX7_readsHearer_1, eX7_readsHearer_4, eX7_readsHearer_5, eX7_readsHearer_8, eX7_readsHearer_9, eX7_readsHearer_10, eX7_readsHearer_12, eX7_readsHearer_15, eX7_readsHearer_16, eX7_readsHearer_17, eX7_readsHearer_20, eX7_readsHearer_21, eX7_readsHearer_24, eX7_readsHearer_25, eX7_readsHearer_26, eX7_readsHearer_27, eX7_readsHearer_29, eX7_readsHearer_32, eX7_readsHearer_35, eX7_readsHearer_36, eX7_readsHearer_37, eX7_readsHearer_40, eX7_readsHearer_41, eX7_readsHearer_42, eX7_readsHearer_45, eX7_readsHearer_46, eX7_readsHearer_49, eX7_readsHearer_50, eX7_readsHearer_53, eX7_readsHearer_54, eX7_readsHearer_55, eX7_readsHearer_56, eX7_readsHearer_59, eX7_readsHearer_60, eX7_readsHearer_63, eX7_readsHearer_64, eX7_readsHearer_67, eX7_readsHearer_68, eX7_readsHearer_69, eX7_readsHearer_70, eX7_readsHearer_73, eX7_readsHearer_74, eX7_readsHearer_75, eX7_readsHearer_78, g7, g8, r1, e1, e2, WpR_some, Option.toList_some, Option.toList_none, List.cons_append, List.nil_append, List.append_nil, clr_n, clr_i, clr_a, ni_add, ni_mul, ni_sub, ni_lt, ni_le, ni_eq, ni_div, nat_mod_eq, ni_rem, iMax_nn, iMin_nn, iMax_sub, Nat.zero_max, bI_0, bI_1, bI_n0, up2_s, up2_n, up2_k, va_up_self, va_up_ne, ni_l, lN_mul, lN_add, ln_mask, lN_i, ↓reduceIte, if_true, if_false, not_true_eq_false, not_false_eq_true, ite_self, Nat.add_zero, Nat.zero_add, ent_def]
    · rw [hR] at z; cases z
      exact x_rhF M0 h5 (by omega)
  | inr a =>
    obtain ⟨x, e⟩ := a
    obtain ⟨e1, hx, hx2, he⟩ := x_num_ok (ml := ml) hG0 p3 p1 p2 p4 (by decide) (by decide) hn
    have e2 := x_here (ml := ml) (c := 45) (m := up2 (up2 (up2 m 158 10 (nI e)) 165 (τ 45) (nI x)) 166 (τ 45) (nI 0)) hG0 (RT_a (RT_a (RT_u p3 (by decide)) (by decide)) (by decide)) (p := e) (by rw [up2_n (by decide), up2_n (by decide), up2_s]) (by rw [up2_n (by decide), up2_n (by decide), up2_k (by decide)]; exact p2) (by omega) (by decide) (by decide)
    have fin : ∀ y q m5, y ≤ x → q ≤ tl → m5 158 10 = nI q → m5 158 11 = -4 → m5 158 3 = m 158 3 → m5 158 13 = m 158 13 → m5 160 = m 160 → m5 165 = upd (m 165) (τ 45) (nI x) → m5 166 (τ 45) = nI y → (∀ k, k ≠ τ 45 → m5 166 k = m 166 k) → m5 167 = m 167 → m5 168 = m 168 → RP (up2 m5 158 12 (nI (τ 45 + 1))) tl tc q (adH τ x y) := by
      intro y q m5 hy hq b1 b2 b3 b4 b5 b6 b7 b8 b9 b10
      refine ⟨by rw [up2_k (by decide)]; exact b1, by rw [up2_k (by decide)]; exact b2, RT_fr p3 (by rw [up2_k (by decide)]; exact b3) (by rw [up2_n (by decide)]; exact b5), hq, by rw [up2_s, adH_45 h5], by rw [up2_k (by decide), b4, adH_44 h5]; exact r2, ?_, ?_⟩
      · intro k hk
        rw [adH_45 h5] at hk
        rw [up2_n (by decide), up2_n (by decide), b6]
        by_cases hq : k = τ 45
        · subst hq
          have e1 : adH τ x y (51 + τ 45) = x := by unfold adH addH; rw [upN_n (by omega), upN_n (by omega), upN_n (by omega), upN_n (by omega), upN_s]
          have e2 : adH τ x y (τ 45) = x - y := by unfold adH; rw [upN_s]
          rw [e1, e2, b7]
          exact ⟨by simp [upd], by rw [show x - (x - y) = y by omega]⟩
        · rw [adH_n h5 (by omega) (by omega) (by omega) (by omega), adH_n h5 hq (by omega) (by omega) (by omega), b8 k hq]
          have := r3 k (by omega)
          exact ⟨by simp [upd, hq]; exact this.1, this.2⟩
      · intro k hk
        rw [adH_44 h5] at hk
        rw [up2_n (by decide), up2_n (by decide), b9, b10, adH_n h5 (by omega) (by omega) (by omega) (by omega), adH_n h5 (by omega) (by omega) (by omega) (by omega)]
        exact r4 k hk
    have u165 : up2 (up2 (up2 m 158 10 (nI e)) 165 (τ 45) (nI x)) 166 (τ 45) (nI 0) 165 = upd (m 165) (τ 45) (nI x) := by
      rw [up2_n (by decide)]
      show va_up _ 165 (upd (up2 m 158 10 (nI e) 165) (τ 45) (nI x)) 165 = _
      rw [up2_n (by decide)]
      simp [va_up]
    by_cases hnl : nl tl tc e = 45
    · have hlt := nl_lt (tl := tl) (tc := tc) (p := e) (by omega)
      simp only [hnl, decide_true] at e2
      generalize hM : up2 (up2 (up2 m 158 10 (nI e)) 165 (τ 45) (nI x)) 166 (τ 45) (nI 0) = M at *
      have M3 : M 158 3 = m 158 3 := by rw [← hM, up2_n (by decide), up2_n (by decide), up2_k (by decide)]
      have M11 : M 158 11 = -4 := by rw [← hM, up2_n (by decide), up2_n (by decide), up2_k (by decide)]; exact p2
      have M12 : M 158 12 = nI (τ 45) := by rw [← hM, up2_n (by decide), up2_n (by decide), up2_k (by decide)]; exact r1
      have M13 : M 158 13 = m 158 13 := by rw [← hM, up2_n (by decide), up2_n (by decide), up2_k (by decide)]
      have M160 : M 160 = m 160 := by rw [← hM, up2_n (by decide), up2_n (by decide), up2_n (by decide)]
      have M165 : M 165 (τ 45) = nI x := by rw [← hM, up2_n (by decide), up2_s]
      have M166 : ∀ k, k ≠ τ 45 → M 166 k = m 166 k := fun k hk => by rw [← hM, up2_k hk, up2_n (by decide), up2_n (by decide)]
      have M167 : M 167 = m 167 := by rw [← hM, up2_n (by decide), up2_n (by decide), up2_n (by decide)]
      have M168 : M 168 = m 168 := by rw [← hM, up2_n (by decide), up2_n (by decide), up2_n (by decide)]
      have MF : FPX m M := by rw [← hM]; exact ((FPX.rf.uu (by decide)).aa (by decide)).aa (by decide)
      have TM : RT (up2 M 158 10 (nI (sk tl tc e + 1))) tl tc := RT_fr p3 (by rw [up2_k (by decide)]; exact M3) (by rw [up2_n (by decide)]; exact M160)
      cases hn2 : numR tl tc 0 x (sk tl tc e + 1) with
      | inl f =>
        have hR : hrR tl tc p τ = .inl f := by unfold hrR; rw [hn]; simp only [hnl, if_true, hn2]
        obtain ⟨y, a, e3, hy, ha, hf⟩ := x_num_fl (ml := ml) (m := up2 M 158 10 (nI (sk tl tc e + 1))) hG0 TM (by rw [up2_s]) (by rw [up2_k (by decide)]; exact M11) (by omega) (by decide) (by omega) hn2
        refine ⟨up2 (up2 (up2 (up2 M 158 10 (nI a)) 158 11 (nI f)) 166 (τ 45) (nI y)) 158 12 (nI (τ 45 + 1)), ?_, FPX.tr MF ((((FPX.rf.uu (by decide)).uu (by decide)).aa (by decide)).uu (by decide)), fun f' z => ?_, fun e τ' z => by rw [hR] at z; cases z⟩
        · apply res_of
          show Wp mX7_readsHearer 0 [some (.ref 158)] [] (G, m, ml) _
          simp (maxSteps := 1000000) (decide := true) (disch := (first | assumption | omega | exact Nat.div_mul_le_self _ _ | exact ni_nz (by omega) (by omega) | exact rfl | exact retOk_bI _ | exact retOk_0 | exact retOk_1)) only [eX7_readsHearer_0, eX7_readsHearer_1, eX7_readsHearer_4, eX7_readsHearer_5, eX7_readsHearer_8, eX7_readsHearer_9, eX7_readsHearer_10, eX7_readsHearer_12, eX7_readsHearer_15, eX7_readsHearer_16, eX7_readsHearer_17, eX7_readsHearer_20, eX7_readsHearer_21, eX7_readsHearer_24, eX7_readsHearer_25, eX7_readsHearer_26, eX7_readsHearer_27, eX7_readsHearer_29, eX7_readsHearer_32, eX7_readsHearer_35, eX7_readsHearer_36, eX7_readsHearer_37, eX7_readsHearer_40, eX7_readsHearer_41, eX7_readsHearer_42, eX7_readsHearer_45, eX7_readsHearer_46, eX7_readsHearer_49, eX7_readsHearer_50, eX7_readsHearer_53, eX7_readsHearer_54, eX7_readsHearer_55, eX7_readsHearer_56, eX7_readsHearer_59, eX7_readsHearer_60, eX7_readsHearer_63, eX7_readsHearer_64, eX7_readsHearer_67, eX7_readsHearer_68, eX7_readsHearer_69, eX7_readsHearer_70, eX7_readsHearer_73, eX7_readsHearer_74, eX7_readsHearer_75, eX7_readsHearer_78, g7, g8, r1, e1, hM, e2, up2_2, M12, M165, e3, WpR_some, Option.toList_some, Option.toList_none, List.cons_append, List.nil_append, List.append_nil, clr_n, clr_i, clr_a, ni_add, ni_mul, ni_sub, ni_lt, ni_le, ni_eq, ni_div, nat_mod_eq, ni_rem, iMax_nn, iMin_nn, iMax_sub, Nat.zero_max, bI_0, bI_1, bI_n0, up2_s, up2_n, up2_k, va_up_self, va_up_ne, ni_l, lN_mul, lN_add, ln_mask, lN_i, ↓reduceIte, if_true, if_false, not_true_eq_false, not_false_eq_true, ite_self, Nat.add_zero, Nat.zero_add, ent_def]
        · rw [hR] at z; cases z
          exact ⟨⟨a, by rw [up2_k (by decide), up2_n (by decide), up2_k (by decide), up2_s], by omega⟩, by rw [up2_k (by decide), up2_n (by decide), up2_s], hf, RT_fr p3 (by rw [up2_k (by decide), up2_n (by decide), up2_k (by decide), up2_k (by decide)]; exact M3) (by rw [up2_n (by decide), up2_n (by decide), up2_n (by decide), up2_n (by decide)]; exact M160), ⟨τ 45 + 1, by rw [up2_s], by omega⟩, τ 44, by rw [up2_k (by decide), up2_n (by decide), up2_k (by decide), up2_k (by decide), M13]; exact r2, h4⟩
      | inr a2 =>
        obtain ⟨y, e3⟩ := a2
        have hR : hrR tl tc p τ = .inr (e3, adH τ x y) := by unfold hrR; rw [hn]; simp only [hnl, if_true, hn2]
        obtain ⟨e4, hy, hy2, he2⟩ := x_num_ok (ml := ml) (m := up2 M 158 10 (nI (sk tl tc e + 1))) hG0 TM (by rw [up2_s]) (by rw [up2_k (by decide)]; exact M11) (by omega) (by decide) (by omega) hn2
        refine ⟨up2 (up2 (up2 M 158 10 (nI e3)) 166 (τ 45) (nI y)) 158 12 (nI (τ 45 + 1)), ?_, FPX.tr MF (((FPX.rf.uu (by decide)).aa (by decide)).uu (by decide)), fun f' z => (by rw [hR] at z; cases z), fun e τ' z => ?_⟩
        · apply res_of
          show Wp mX7_readsHearer 0 [some (.ref 158)] [] (G, m, ml) _
          simp (maxSteps := 1000000) (decide := true) (disch := (first | assumption | omega | exact Nat.div_mul_le_self _ _ | exact ni_nz (by omega) (by omega) | exact rfl | exact retOk_bI _ | exact retOk_0 | exact retOk_1)) only [eX7_readsHearer_0, eX7_readsHearer_1, eX7_readsHearer_4, eX7_readsHearer_5, eX7_readsHearer_8, eX7_readsHearer_9, eX7_readsHearer_10, eX7_readsHearer_12, eX7_readsHearer_15, eX7_readsHearer_16, eX7_readsHearer_17, eX7_readsHearer_20, eX7_readsHearer_21, eX7_readsHearer_24, eX7_readsHearer_25, eX7_readsHearer_26, eX7_readsHearer_27, eX7_readsHearer_29, eX7_readsHearer_32, eX7_readsHearer_35, eX7_readsHearer_36, eX7_readsHearer_37, eX7_readsHearer_40, eX7_readsHearer_41, eX7_readsHearer_42, eX7_readsHearer_45, eX7_readsHearer_46, eX7_readsHearer_49, eX7_readsHearer_50, eX7_readsHearer_53, eX7_readsHearer_54, eX7_readsHearer_55, eX7_readsHearer_56, eX7_readsHearer_59, eX7_readsHearer_60, eX7_readsHearer_63, eX7_readsHearer_64, eX7_readsHearer_67, eX7_readsHearer_68, eX7_readsHearer_69, eX7_readsHearer_70, eX7_readsHearer_73, eX7_readsHearer_74, eX7_readsHearer_75, eX7_readsHearer_78, g7, g8, r1, e1, hM, e2, up2_2, M12, M165, e4, WpR_some, Option.toList_some, Option.toList_none, List.cons_append, List.nil_append, List.append_nil, clr_n, clr_i, clr_a, ni_add, ni_mul, ni_sub, ni_lt, ni_le, ni_eq, ni_div, nat_mod_eq, ni_rem, iMax_nn, iMin_nn, iMax_sub, Nat.zero_max, bI_0, bI_1, bI_n0, up2_s, up2_n, up2_k, va_up_self, va_up_ne, ni_l, lN_mul, lN_add, ln_mask, lN_i, ↓reduceIte, if_true, if_false, not_true_eq_false, not_false_eq_true, ite_self, Nat.add_zero, Nat.zero_add, ent_def]
        · rw [hR] at z; cases z
          exact fin y e3 _ hy2 he2 (by rw [up2_n (by decide), up2_s]) (by rw [up2_n (by decide), up2_k (by decide)]; exact M11) (by rw [up2_n (by decide), up2_k (by decide)]; exact M3) (by rw [up2_n (by decide), up2_k (by decide)]; exact M13) (by rw [up2_n (by decide), up2_n (by decide)]; exact M160) (by rw [up2_n (by decide), up2_n (by decide)]; exact u165) (by rw [up2_s]) (fun k hk => by rw [up2_k hk, up2_n (by decide)]; exact M166 k hk) (by rw [up2_n (by decide), up2_n (by decide)]; exact M167) (by rw [up2_n (by decide), up2_n (by decide)]; exact M168)
    · have hR : hrR tl tc p τ = .inr (sk tl tc e, adH τ x 0) := by unfold hrR; rw [hn]; simp only [hnl, if_false]
      simp only [hnl, decide_false] at e2
      refine ⟨up2 (up2 (up2 (up2 (up2 m 158 10 (nI e)) 165 (τ 45) (nI x)) 166 (τ 45) (nI 0)) 158 10 (nI (sk tl tc e))) 158 12 (nI (τ 45 + 1)), ?_, ((((FPX.rf.uu (by decide)).aa (by decide)).aa (by decide)).uu (by decide)).uu (by decide), fun f' z => (by rw [hR] at z; cases z), fun e τ' z => ?_⟩
      · apply res_of
        show Wp mX7_readsHearer 0 [some (.ref 158)] [] (G, m, ml) _
        simp (maxSteps := 1000000) (decide := true) (disch := (first | assumption | omega | exact Nat.div_mul_le_self _ _ | exact ni_nz (by omega) (by omega) | exact rfl | exact retOk_bI _ | exact retOk_0 | exact retOk_1)) only [eX7_readsHearer_0, eX7_readsHearer_1, eX7_readsHearer_4, eX7_readsHearer_5, eX7_readsHearer_8, eX7_readsHearer_9, eX7_readsHearer_10, eX7_readsHearer_12, eX7_readsHearer_15, eX7_readsHearer_16, eX7_readsHearer_17, eX7_readsHearer_20, eX7_readsHearer_21, eX7_readsHearer_24, eX7_readsHearer_25, eX7_readsHearer_26, eX7_readsHearer_27, eX7_readsHearer_29, eX7_readsHearer_32, eX7_readsHearer_35, eX7_readsHearer_36, eX7_readsHearer_37, eX7_readsHearer_40, eX7_readsHearer_41, eX7_readsHearer_42, eX7_readsHearer_45, eX7_readsHearer_46, eX7_readsHearer_49, eX7_readsHearer_50, eX7_readsHearer_53, eX7_readsHearer_54, eX7_readsHearer_55, eX7_readsHearer_56, eX7_readsHearer_59, eX7_readsHearer_60, eX7_readsHearer_63, eX7_readsHearer_64, eX7_readsHearer_67, eX7_readsHearer_68, eX7_readsHearer_69, eX7_readsHearer_70, eX7_readsHearer_73, eX7_readsHearer_74, eX7_readsHearer_75, eX7_readsHearer_78, g7, g8, r1, e1, e2, WpR_some, Option.toList_some, Option.toList_none, List.cons_append, List.nil_append, List.append_nil, clr_n, clr_i, clr_a, ni_add, ni_mul, ni_sub, ni_lt, ni_le, ni_eq, ni_div, nat_mod_eq, ni_rem, iMax_nn, iMin_nn, iMax_sub, Nat.zero_max, bI_0, bI_1, bI_n0, up2_s, up2_n, up2_k, va_up_self, va_up_ne, ni_l, lN_mul, lN_add, ln_mask, lN_i, ↓reduceIte, if_true, if_false, not_true_eq_false, not_false_eq_true, ite_self, Nat.add_zero, Nat.zero_add, ent_def]
      · rw [hR] at z; cases z
        exact fin 0 _ _ (Nat.zero_le _) (sk_le he) (by rw [up2_s]) (by rw [up2_k (by decide), up2_n (by decide), up2_n (by decide), up2_k (by decide)]; exact p2) (by rw [up2_k (by decide), up2_n (by decide), up2_n (by decide), up2_k (by decide)]) (by rw [up2_k (by decide), up2_n (by decide), up2_n (by decide), up2_k (by decide)]) (by rw [up2_n (by decide), up2_n (by decide), up2_n (by decide), up2_n (by decide)]) (by rw [up2_n (by decide)]; exact u165) (by rw [up2_n (by decide), up2_s]) (fun k hk => by rw [up2_n (by decide), up2_k hk, up2_n (by decide), up2_n (by decide)]) (by rw [up2_n (by decide), up2_n (by decide), up2_n (by decide), up2_n (by decide)]) (by rw [up2_n (by decide), up2_n (by decide), up2_n (by decide), up2_n (by decide)])
end XL2
