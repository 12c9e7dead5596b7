section OP2
variable {G : List AT} {m m' m1 m2 : Nat → Nat → Int32} {ml ml' ml1 ml2 : Nat → Nat → Int64} {σ σ' τ : Nat → Nat} {k k' : Nat} {f f' : Nat → Nat → Nat} {im im' : Bool} {σi σi' : Nat → Nat} {ki ki' : Nat} {fi fi' : Nat → Nat → Nat} {tl tl' : Nat} {tc tc' : Nat → Nat} {on on' : Nat → Bool} {ln sz ln' sz' : Nat → Nat} {it it' : Nat → Nat → Int64} {N1 N2 : MI} {as : List Value} {r u v w c d e i j : Int32} {x y n s t h l : Nat}
theorem op_ahead (hW : GW G) (hM : GM G) (h : INV m ml) : OP G m ml mX6_ahead mX7_ahead [.int u, .int v, .int w] := by
  obtain ⟨σ, k, f, im, σi, ki, fi, tl, tc, on, ln, sz, it, C, X, P, Q⟩ := id h
  have b := P.1.1
  have b2 := b.2.1
  cases hb : (isN u (σ 45) && rg v 0 60 && rg w 0 2)
  · exact OP_same h (c_ahead_bad hW C.1 hb) (x_ahead_bad hM X.1 b hb)
  · rw [Bool.and_eq_true, Bool.and_eq_true] at hb
    obtain ⟨h', rfl, hh⟩ := isN_of hb.1.1 (by omega)
    obtain ⟨n, rfl, -, hn⟩ := rg_of hb.1.2 (by decide) (by decide)
    obtain ⟨x, rfl, -, hx⟩ := rg_of hb.2 (by decide) (by decide)
    obtain ⟨m1, e1, F1⟩ := c_ahead (ml := ml) hW C.1 P.1 hh hn hx
    have X1 := X_q X F1
    exact OP_q C X P Q e1 F1 (x_ahead (ml := ml) hM X1.1 X1.2.2.2.2 P.1 hh hn hx)
theorem op_then (hW : GW G) (hM : GM G) (h : INV m ml) : OP G m ml mX6_then mX7_then [.int u, .int v, .int w] := by
  obtain ⟨σ, k, f, im, σi, ki, fi, tl, tc, on, ln, sz, it, C, X, P, Q⟩ := id h
  have b := P.1.1
  have b1 := b.1
  have b2 := b.2.1
  cases hb : (isN u (σ 45) && isN v (σ 44) && rg w 0 60)
  · exact OP_same h (c_then_bad hW C.1 hb) (x_then_bad hM X.1 b hb)
  · rw [Bool.and_eq_true, Bool.and_eq_true] at hb
    obtain ⟨h', rfl, hh⟩ := isN_of hb.1.1 (by omega)
    obtain ⟨t, rfl, ht⟩ := isN_of hb.1.2 (by omega)
    obtain ⟨n, rfl, -, hn⟩ := rg_of hb.2 (by decide) (by decide)
    obtain ⟨m1, e1, F1⟩ := c_then (ml := ml) hW C.1 P.1 hh ht hn
    have X1 := X_q X F1
    exact OP_q C X P Q e1 F1 (x_then (ml := ml) hM X1.1 X1.2.2.2.2 P.1 hh ht hn)
theorem op_first (hW : GW G) (hM : GM G) (h : INV m ml) : OP G m ml mX6_first mX7_first [.int u] := by
  obtain ⟨σ, k, f, im, σi, ki, fi, tl, tc, on, ln, sz, it, C, X, P, Q⟩ := id h
  have b := P.1.1
  have b2 := b.2.1
  cases hb : isN u (σ 45)
  · exact OP_same h (c_first_bad hW C.1 hb) (x_first_bad hM X.1 b hb)
  · obtain ⟨h', rfl, hh⟩ := isN_of hb (by omega)
    obtain ⟨m1, e1, F1⟩ := c_first (ml := ml) hW C.1 P.1 hh
    have X1 := X_q X F1
    exact OP_q C X P Q e1 F1 (x_first (ml := ml) hM X1.1 X1.2.2.2.2 P.1 hh)
theorem op_all (hW : GW G) (hM : GM G) (h : INV m ml) : OP G m ml mX6_all mX7_all [] := by
  obtain ⟨σ, k, f, im, σi, ki, fi, tl, tc, on, ln, sz, it, C, X, P, Q⟩ := id h
  obtain ⟨m1, e1, F1⟩ := c_all (ml := ml) hW C.1 P.1
  have X1 := X_q X F1
  exact OP_q C X P Q e1 F1 (x_all (ml := ml) hM X1.1 X1.2.2.2.2 P.1)
theorem op_left (hW : GW G) (hM : GM G) (h : INV m ml) : OP G m ml mX6_left mX7_left [.int u, .int v] := by
  obtain ⟨σ, k, f, im, σi, ki, fi, tl, tc, on, ln, sz, it, C, X, P, Q⟩ := id h
  have b := P.1.1
  have b2 := b.2.1
  cases hb : (isN u (σ 45) && rg v 0 60)
  · exact OP_same h (c_left_bad hW C.1 hb) (x_left_bad hM X.1 b hb)
  · rw [Bool.and_eq_true] at hb
    obtain ⟨h', rfl, hh⟩ := isN_of hb.1 (by omega)
    obtain ⟨n, rfl, -, hn⟩ := rg_of hb.2 (by decide) (by decide)
    obtain ⟨m1, e1, F1⟩ := c_left (ml := ml) hW C.1 P.1 hh hn
    have X1 := X_q X F1
    exact OP_q C X P Q e1 F1 (x_left (ml := ml) hM X1.1 X1.2.2.2.2 P.1 hh hn)
theorem op_pace (hW : GW G) (hM : GM G) (h : INV m ml) : OP G m ml mX6_pace mX7_pace [.int u, .int v] := by
  obtain ⟨σ, k, f, im, σi, ki, fi, tl, tc, on, ln, sz, it, C, X, P, Q⟩ := id h
  cases hb : (rg u 1 40 && rg v 0 2)
  · exact OP_same h (c_pace_bad hb) (x_pace_bad hM hb)
  · rw [Bool.and_eq_true] at hb
    obtain ⟨n, rfl, hn, hn2⟩ := rg_of hb.1 (by decide) (by decide)
    obtain ⟨x, rfl, -, hx⟩ := rg_of hb.2 (by decide) (by decide)
    obtain ⟨m1, e1, F1⟩ := c_pace (ml := ml) hW C.1 P.1 hn hn2 hx
    have X1 := X_q X F1
    exact OP_q C X P Q e1 F1 (x_pace (ml := ml) hM X1.1 X1.2.2.2.2 P.1 hn hn2 hx)
theorem op_needs (hW : GW G) (hM : GM G) (h : INV m ml) : OP G m ml mX6_needs mX7_needs [.int u, .int v] := by
  obtain ⟨σ, k, f, im, σi, ki, fi, tl, tc, on, ln, sz, it, C, X, P, Q⟩ := id h
  have b := P.1.1
  have b2 := b.2.1
  cases hb : (isN u (σ 45) && rg v 1 40)
  · exact OP_same h (c_needs_bad hW C.1 hb) (x_needs_bad hM X.1 b hb)
  · rw [Bool.and_eq_true] at hb
    obtain ⟨h', rfl, hh⟩ := isN_of hb.1 (by omega)
    obtain ⟨n, rfl, hn, hn2⟩ := rg_of hb.2 (by decide) (by decide)
    obtain ⟨m1, e1, F1⟩ := c_needs (ml := ml) hW C.1 P.1 hh hn hn2
    have X1 := X_q X F1
    exact OP_q C X P Q e1 F1 (x_needs (ml := ml) hM X1.1 X1.2.2.2.2 P.1 hh hn hn2)
theorem op_spare (hW : GW G) (hM : GM G) (h : INV m ml) : OP G m ml mX6_spare mX7_spare [.int u] := by
  obtain ⟨σ, k, f, im, σi, ki, fi, tl, tc, on, ln, sz, it, C, X, P, Q⟩ := id h
  cases hb : rg u 0 1
  · exact OP_same h (c_spare_bad hb) (x_spare_bad hM hb)
  · obtain ⟨x, rfl, -, hx⟩ := rg_of hb (by decide) (by decide)
    obtain ⟨m1, e1, F1⟩ := c_spare (ml := ml) hW C.1 P.1 hx
    have X1 := X_q X F1
    exact OP_q C X P Q e1 F1 (x_spare (ml := ml) hM X1.1 X1.2.2.2.2 P.1 hx)
theorem op_seating (hW : GW G) (hM : GM G) (h : INV m ml) : OP G m ml mX6_seating mX7_seating [.int u, .int v] := by
  obtain ⟨σ, k, f, im, σi, ki, fi, tl, tc, on, ln, sz, it, C, X, P, Q⟩ := id h
  cases hb : (rg u 1 20 && decide ((-1 : Int32) ≤ v))
  · exact OP_same h (c_seating_bad hb) (x_seating_bad hM hb)
  · rw [Bool.and_eq_true] at hb
    obtain ⟨n, rfl, hn, hn2⟩ := rg_of hb.1 (by decide) (by decide)
    have hv : ∃ r, stA σ n v r := by
      have h1 : (-1 : Int32) ≤ v := of_decide_eq_true hb.2
      by_cases z : v = -1
      · exact ⟨_, .inl ⟨z, rfl⟩⟩
      · have h0 : nI 0 ≤ v := by
          rw [Int32.le_iff_toInt_le] at h1 ⊢
          have z2 : v.toInt ≠ (-1 : Int32).toInt := fun q => z (Int32.toInt_inj.mp q)
          have z3 : (-1 : Int32).toInt = -1 := rfl
          have z4 : (nI 0).toInt = 0 := rfl
          omega
        obtain ⟨q, rfl, hq⟩ := nn_of h0
        by_cases z5 : q < σ 44
        · exact ⟨_, .inr (.inl ⟨q, rfl, z5, rfl⟩)⟩
        · exact ⟨_, .inr (.inr ⟨q, rfl, by omega, hq, rfl⟩)⟩
    obtain ⟨r, hr⟩ := hv
    obtain ⟨m1, e1, F1⟩ := c_seating (ml := ml) hW C.1 P.1 hn hn2 hr
    have X1 := X_q X F1
    obtain ⟨m2, e2, F2, R2⟩ := x_seating (ml := ml) hM X1.1 X1.2.2.2.2 P.1 hn hn2 hr
    have G2 : ∀ b, b < 158 → m2 b = m1 b := fun b hb => F2.1 b (by omega) (by omega) (by omega) (by omega)
    exact ⟨_, m1, ml, m2, ml, e1, e2, ⟨σ, k, f, im, σi, ki, fi, tl, tc, on, ln, sz, it, CI_fr C (fun b hb => by rw [G2 b (by omega), F1 b (by omega)]) (fun _ _ => rfl), ⟨RA_fr X1.1 (fun j z1 z2 => F2.2.2 j (by omega)), RI_fr X1.2.1 (F2.2.1 1 (by omega) (by omega)) (fun j z1 z2 => F2.2.2 j (by omega)), RT_fr X1.2.2.1 (F2.2.1 3 (by omega) (by omega)) (F2.1 160 (by omega) (by omega) (by omega) (by omega)), RS_fr X1.2.2.2.1 (F2.1 161 (by omega) (by omega) (by omega) (by omega)) (F2.1 162 (by omega) (by omega) (by omega) (by omega)), R2⟩, P, Q⟩, F1 0 (by omega), by rw [G2 0 (by omega), F1 0 (by omega)]⟩
theorem op_doze (hW : GW G) (hM : GM G) (h : INV m ml) : OP G m ml mX6_doze mX7_doze [.int u, .int v, .int w] := by
  obtain ⟨σ, k, f, im, σi, ki, fi, tl, tc, on, ln, sz, it, C, X, P, Q⟩ := id h
  cases hb : (rg u 0 5 && rg v 0 10 && rg w 0 1)
  · exact OP_same h (c_doze_bad hb) (x_doze_bad hM hb)
  · rw [Bool.and_eq_true, Bool.and_eq_true] at hb
    obtain ⟨x, rfl, -, hx⟩ := rg_of hb.1.1 (by decide) (by decide)
    obtain ⟨c, rfl, -, hc⟩ := rg_of hb.1.2 (by decide) (by decide)
    obtain ⟨y, rfl, -, hy⟩ := rg_of hb.2 (by decide) (by decide)
    obtain ⟨m1, e1, F1⟩ := c_doze (ml := ml) hW C.1 P.1.1 hx hc hy
    have X1 := X_q X F1
    obtain ⟨m2, e2, F2⟩ := x_doze (ml := ml) hM X1.1 X1.2.2.2.2 P.1.1 hx hc hy
    have : m2 = m1 := funext fun b => funext fun j => F2 b j
    subst this
    exact ⟨_, m2, ml, m2, ml, e1, e2, ⟨σ, k, f, im, σi, ki, fi, tl, tc, on, ln, sz, it, CI_fr C (fun b hb => F1 b (by omega)) (fun _ _ => rfl), X1, P, Q⟩, F1 0 (by omega), F1 0 (by omega)⟩
theorem c_image2 (hG : GW G) (hC : CA m σ k f) : ∃ m', res mX6_image [.ref 2] (G, m, ml) = some (some (.int (nI 1)), (G, m', ml)) ∧ CA m' σ k f ∧ CB m' true σ k f ∧ (∀ b, b < 2 ∨ 133 ≤ b → m' b = m b) := by
  obtain ⟨⟨g0, g1, g2, g3, g4, -⟩, ⟨s3, p10, s68, p75, -⟩, -⟩ := hG
  have s0 := s68.1
  have p0 := p75.1
  obtain ⟨m1, e1, V1, F1⟩ := r_X3_become (m := m) (ml := ml) s68 s3 (by omega)
  have P1 : PaV m1 10 k f := PaV_fr hC.2 (fun b b1 b2 => F1 b (by omega))
  obtain ⟨m2, e2, P2, F2⟩ := r_X1_become (ml := ml) p75 p10 (by omega) P1
  refine ⟨up2 m2 2 4 (nI 1), ?_, ?_, ⟨by rw [up2_s]; rfl, fun _ => ⟨?_, ?_⟩⟩, ?_⟩
  · apply res_of
    show Wp mX6_image 0 [some (.ref 2)] [] (G, m, ml) _
    have h1 : nI 1 = 0 ∨ nI 1 = 1 := Or.inr rfl
    simp (maxSteps := 1000000) (decide := true) (disch := (first | assumption | omega | exact Nat.div_mul_le_self _ _ | exact ni_nz (by omega) (by omega) | exact rfl | exact retOk_bI _ | exact retOk_0 | exact retOk_1)) only [eX6_image_0, eX6_image_1, eX6_image_4, eX6_image_5, eX6_image_8, eX6_image_11, eX6_image_12, eX6_image_15, eX6_image_16, eX6_image_19, eX6_image_22, eX6_image_23, eX6_image_24, eX6_image_27, eX6_image_28, g1, g2, g3, g4, e1, e2, WpR_some, Option.toList_some, Option.toList_none, List.cons_append, List.nil_append, List.append_nil, clr_n, clr_i, clr_a, ni_add, ni_mul, ni_sub, ni_lt, ni_le, ni_eq, ni_div, nat_mod_eq, ni_rem, iMax_nn, iMin_nn, iMax_sub, Nat.zero_max, bI_0, bI_1, bI_n0, up2_s, up2_n, up2_k, va_up_self, va_up_ne, ni_l, lN_mul, lN_add, ln_mask, lN_i, ↓reduceIte, if_true, if_false, not_true_eq_false, not_false_eq_true, ite_self, Nat.add_zero, Nat.zero_add, ent_def]
  · exact CA_fr hC (fun b b1 b2 => by rw [up2_n (by omega), F2 b (by omega), F1 b (by omega)])
  · exact ShV_fr (V1 σ hC.1) (fun b b1 b2 => by rw [up2_n (by omega), F2 b (by omega)])
  · exact PaV_fr P2 (fun b b1 b2 => by rw [up2_n (by omega)])
  · intro b hb; rw [up2_n (by omega), F2 b (by omega), F1 b (by omega)]
theorem op_image (hW : GW G) (hM : GM G) (h : INV m ml) : OP G m ml mX6_image mX7_image [] := by
  obtain ⟨σ, k, f, im, σi, ki, fi, tl, tc, on, ln, sz, it, C, X, P, Q⟩ := id h
  obtain ⟨m1, e1, A1, B1, F1⟩ := c_image2 (ml := ml) hW C.1
  have X1 : XI m1 ml σ k f im σi ki fi tl tc on ln sz it := XI_fr X (fun b hb => F1 b (by omega)) (fun _ _ => rfl)
  obtain ⟨m2, e2, A2, B2, F2, F3, F4⟩ := x_image (ml := ml) hM X1.1
  have G2 : ∀ b, b < 158 → m2 b = m1 b := fun b hb => F2 b (by omega) (by omega)
  exact ⟨_, m1, ml, m2, ml, e1, e2, ⟨σ, k, f, true, σ, k, f, tl, tc, on, ln, sz, it, CI_fr (m := m1) (ml := ml) ⟨A1, B1, CT_fr C.2.2.1 (F1 133 (by omega)) (F1 134 (by omega)), CS_fr C.2.2.2 (fun b z1 z2 => F1 b (by omega))⟩ (fun b hb => G2 b (by omega)) (fun _ _ => rfl), ⟨A2, B2, RT_fr X1.2.2.1 (F3 3 (by omega)) (F2 160 (by omega) (by omega)), RS_fr X1.2.2.2.1 (F2 161 (by omega) (by omega)) (F2 162 (by omega) (by omega)), RX_fr X1.2.2.2.2 (F2 164 (by omega) (by omega)) (F3 8 (by omega)) (F3 9 (by omega)) (F3 19 (by omega)) (F3 20 (by omega))⟩, P, fun _ => P⟩, F1 0 (by omega), by rw [G2 0 (by omega), F1 0 (by omega)]⟩
theorem op_restore (hW : GW G) (hM : GM G) (h : INV m ml) : OP G m ml mX6_restore mX7_restore [] := by
  obtain ⟨σ, k, f, im, σi, ki, fi, tl, tc, on, ln, sz, it, C, X, P, Q⟩ := id h
  cases im with
  | false => exact OP_same h (c_restore0 hW C.2.1) (x_restore0 hM X.2.1)
  | true =>
    obtain ⟨m1, e1, A1, F1⟩ := c_restore (ml := ml) hW C.1 C.2.1
    have X1 := X_st X F1
    obtain ⟨m2, e2, A2, F2, B2⟩ := x_restore (ml := ml) hM X1.2.1
    exact OP_st C X Q e1 A1 F1 ⟨m2, e2, A2, F2, RX_159 X1.2.2.2.2 B2⟩ (Q rfl)
theorem op_borne (hW : GW G) (hM : GM G) (h : INV m ml) : OP G m ml mX6_borne mX7_borne [.int u, .int v, .int w, .int c, .int i, .int d, .int e] := by
  obtain ⟨σ, k, f, im, σi, ki, fi, tl, tc, on, ln, sz, it, C, X, P, Q⟩ := id h
  have b := P.1.1
  have b1 := b.1
  have b2 := b.2.1
  cases hb : (isN u (σ 45) && isN v (σ 44) && isN w 4 && isN c 4 && rg d 1 8 && rg e 0 2)
  · exact OP_same h (c_borne_bad hW C.1 hb) (x_borne_bad hM X.1 b hb)
  · simp only [Bool.and_eq_true] at hb
    obtain ⟨⟨⟨⟨⟨q1, q2⟩, q3⟩, q4⟩, q5⟩, q6⟩ := hb
    obtain ⟨h', rfl, hh⟩ := isN_of q1 (by omega)
    obtain ⟨t, rfl, ht⟩ := isN_of q2 (by omega)
    obtain ⟨s, rfl, hs⟩ := isN_of q3 (by omega)
    obtain ⟨l, rfl, hl⟩ := isN_of q4 (by omega)
    obtain ⟨n, rfl, hn, hn2⟩ := rg_of q5 (by decide) (by decide)
    obtain ⟨x, rfl, -, hx⟩ := rg_of q6 (by decide) (by decide)
    by_cases hr : rfs on ln sz s l i (nI n) = nI 0
    · obtain ⟨z1, z2, p, rfl, z3⟩ := rfs_0 hr (fun z => ((C.2.2.2 s hs).1 z).2.2.2) (by omega)
      obtain ⟨m1, e1, F1⟩ := c_borne (ml := ml) hW C.1 P.1 C.2.2.2 hh ht hn hn2 hs hl hx hr z3
      have X1 := X_q X F1
      exact OP_q C X P Q e1 F1 (x_borne (ml := ml) hM X1.1 X1.2.2.2.2 P.1 X1.2.2.2.1 hh ht hn hn2 hs hl hx hr z3)
    · exact OP_same h (c_borne_no hW C.1 b C.2.2.2 hh ht hn hn2 hs hl hx hr) (x_borne_no hM X.1 b X.2.2.2.1 hh ht hn hn2 hs hl hx hr)
theorem op_film (hW : GW G) (hM : GM G) (h : INV m ml) : OP G m ml mX6_film mX7_film [.int u, .int v, .int w, .int c, .int i] := by
  obtain ⟨σ, k, f, im, σi, ki, fi, tl, tc, on, ln, sz, it, C, X, P, Q⟩ := id h
  have b := P.1.1
  have b2 := b.2.1
  cases hb : (isN u (σ 45) && rg v 1 24 && isN w 4 && isN c 4)
  · exact OP_same h (c_film_bad hW C.1 hb) (x_film_bad hM X.1 b hb)
  · simp only [Bool.and_eq_true] at hb
    obtain ⟨⟨⟨q1, q2⟩, q3⟩, q4⟩ := hb
    obtain ⟨h', rfl, hh⟩ := isN_of q1 (by omega)
    obtain ⟨n, rfl, hn, hn2⟩ := rg_of q2 (by decide) (by decide)
    obtain ⟨s, rfl, hs⟩ := isN_of q3 (by omega)
    obtain ⟨l, rfl, hl⟩ := isN_of q4 (by omega)
    by_cases hr : rfs on ln sz s l i (nI n) = nI 0
    · obtain ⟨z1, z2, p, rfl, z3⟩ := rfs_0 hr (fun z => ((C.2.2.2 s hs).1 z).2.2.2) (by omega)
      obtain ⟨m1, ml1, e1, S1, F1, L1⟩ := c_film (ml := ml) hW C.1 P.1 C.2.2.2 hh hn hn2 hs hl hr z1 z2 z3
      have X1 : XI m1 ml1 σ k f im σi ki fi tl tc on ln sz it := XI_fr X (fun b hb => F1 b (by omega)) (fun b hb => L1 b (by omega))
      obtain ⟨m2, ml2, e2, S2, F2, cn, L2⟩ := x_film (ml := ml1) hM X1.1 X1.2.2.2.2 P.1 X1.2.2.2.1 hh hn hn2 hs hl hr z3
      have G2 : ∀ b, b < 158 → m2 b = m1 b := fun b hb => F2.1 b (by omega) (by omega)
      have C1 : CI m1 ml1 σ k f im σi ki fi tl tc on ln sz (flI it σ h' s p l n) := ⟨CA_fr C.1 (fun b z1 z2 => F1 b (by omega)), CB_fr C.2.1 (F1 2 (by omega)) (fun b z1 z2 => F1 b (by omega)), CT_fr C.2.2.1 (F1 133 (by omega)) (F1 134 (by omega)), S1⟩
      have X2 := XI_q X1 F2 cn
      exact ⟨_, m1, ml1, m2, ml2, e1, e2, ⟨σ, k, f, im, σi, ki, fi, tl, tc, on, ln, sz, flI it σ h' s p l n, CI_fr C1 (fun b hb => G2 b (by omega)) (fun b hb => L2 b (by omega)), ⟨X2.1, X2.2.1, X2.2.2.1, S2, X2.2.2.2.2⟩, P, Q⟩, F1 0 (by omega), by rw [G2 0 (by omega), F1 0 (by omega)]⟩
    · exact OP_same h (c_film_no hW C.1 b C.2.2.2 hh hn hn2 hs hl hr) (x_film_no hM X.1 b X.2.2.2.1 hh hn hn2 hs hl hr)
theorem op_sheet (hW : GW G) (hM : GM G) (h : INV m ml) : OP G m ml mX6_sheet mX7_sheet [.int u, .int v, .int w] := by
  obtain ⟨σ, k, f, im, σi, ki, fi, tl, tc, on, ln, sz, it, C, X, P, Q⟩ := id h
  cases hb : (isN u 4 && isN v 4 && decide (w ≤ nI 24))
  · exact OP_same h (c_sheet_bad hW hb) (x_sheet_bad hM hb)
  · simp only [Bool.and_eq_true] at hb
    obtain ⟨⟨q1, q2⟩, q3⟩ := hb
    by_cases hw : w < nI 0
    · exact OP_same h (c_sheet_size hW q1 q2 hw) (x_sheet_size hM q1 q2 hw)
    · obtain ⟨s, rfl, hs⟩ := isN_of q1 (by omega)
      obtain ⟨l, rfl, hl⟩ := isN_of q2 (by omega)
      obtain ⟨n, rfl, hn⟩ := nn_of (Int32.not_lt.mp hw)
      have hn24 : n ≤ 24 := by
        have := of_decide_eq_true q3
        rwa [ni_le hn (by omega)] at this
      obtain ⟨m1, ml1, e1, S1, F1, L1⟩ := c_sheet (ml := ml) hW C.2.2.2 hs hl hn24
      have X1 : XI m1 ml1 σ k f im σi ki fi tl tc on ln sz it := XI_fr X (fun b hb => F1 b (by omega)) (fun b hb => L1 b (by omega))
      obtain ⟨m2, ml2, e2, S2, F2, L2⟩ := x_sheet (ml := ml1) hM X1.2.2.2.1 hs hl hn24
      have G2 : ∀ b, b ≠ 161 → b ≠ 162 → m2 b = m1 b := F2
      have C1 : CI m1 ml1 σ k f im σi ki fi tl tc (upB on s true) (upN ln s l) (upN sz s n) (zrI it s) := ⟨CA_fr C.1 (fun b z1 z2 => F1 b (by omega)), CB_fr C.2.1 (F1 2 (by omega)) (fun b z1 z2 => F1 b (by omega)), CT_fr C.2.2.1 (F1 133 (by omega)) (F1 134 (by omega)), S1⟩
      exact ⟨_, m1, ml1, m2, ml2, e1, e2, ⟨σ, k, f, im, σi, ki, fi, tl, tc, _, _, _, _, CI_fr C1 (fun b hb => G2 b (by omega) (by omega)) (fun b hb => L2 b (by omega)), ⟨RA_fr X1.1 (fun j z1 z2 => by rw [F2 159 (by omega) (by omega)]), RI_fr X1.2.1 (by rw [F2 158 (by omega) (by omega)]) (fun j z1 z2 => by rw [F2 159 (by omega) (by omega)]), RT_fr X1.2.2.1 (by rw [F2 158 (by omega) (by omega)]) (F2 160 (by omega) (by omega)), S2, RX_fr X1.2.2.2.2 (F2 164 (by omega) (by omega)) (by rw [F2 158 (by omega) (by omega)]) (by rw [F2 158 (by omega) (by omega)]) (by rw [F2 158 (by omega) (by omega)]) (by rw [F2 158 (by omega) (by omega)])⟩, P, Q⟩, F1 0 (by omega), by rw [G2 0 (by omega) (by omega), F1 0 (by omega)]⟩
theorem op_drop (hW : GW G) (hM : GM G) (h : INV m ml) : OP G m ml mX6_drop mX7_drop [.int u] := by
  obtain ⟨σ, k, f, im, σi, ki, fi, tl, tc, on, ln, sz, it, C, X, P, Q⟩ := id h
  cases hb : isN u 4
  · exact OP_same h (c_drop_bad hW hb) (x_drop_bad hM hb)
  · obtain ⟨s, rfl, hs⟩ := isN_of hb (by omega)
    obtain ⟨m1, e1, S1, F1⟩ := c_drop (ml := ml) hW C.2.2.2 hs
    have X1 : XI m1 ml σ k f im σi ki fi tl tc on ln sz it := XI_fr X (fun b hb => F1 b (by omega)) (fun b hb => rfl)
    obtain ⟨m2, e2, S2, F2⟩ := x_drop (ml := ml) hM X1.2.2.2.1 hs
    have C1 : CI m1 ml σ k f im σi ki fi tl tc (upB on s false) ln sz it := ⟨CA_fr C.1 (fun b z1 z2 => F1 b (by omega)), CB_fr C.2.1 (F1 2 (by omega)) (fun b z1 z2 => F1 b (by omega)), CT_fr C.2.2.1 (F1 133 (by omega)) (F1 134 (by omega)), S1⟩
    exact ⟨_, m1, ml, m2, ml, e1, e2, ⟨σ, k, f, im, σi, ki, fi, tl, tc, _, _, _, _, CI_fr C1 (fun b hb => F2 b (by omega)) (fun b hb => rfl), ⟨RA_fr X1.1 (fun j z1 z2 => by rw [F2 159 (by omega)]), RI_fr X1.2.1 (by rw [F2 158 (by omega)]) (fun j z1 z2 => by rw [F2 159 (by omega)]), RT_fr X1.2.2.1 (by rw [F2 158 (by omega)]) (F2 160 (by omega)), S2, RX_fr X1.2.2.2.2 (F2 164 (by omega)) (by rw [F2 158 (by omega)]) (by rw [F2 158 (by omega)]) (by rw [F2 158 (by omega)]) (by rw [F2 158 (by omega)])⟩, P, Q⟩, F1 0 (by omega), by rw [F2 0 (by omega), F1 0 (by omega)]⟩
theorem op_item {z : Int64} (hW : GW G) (hM : GM G) (h : INV m ml) : OP G m ml mX6_item mX7_item [.int u, .int v, .int i, .long z] := by
  obtain ⟨σ, k, f, im, σi, ki, fi, tl, tc, on, ln, sz, it, C, X, P, Q⟩ := id h
  cases hb : (isN u 4 && isN v 4)
  · exact OP_same h (c_item_bad hW hb) (x_item_bad hM hb)
  · rw [Bool.and_eq_true] at hb
    obtain ⟨s, rfl, hs⟩ := isN_of hb.1 (by omega)
    obtain ⟨l, rfl, hl⟩ := isN_of hb.2 (by omega)
    obtain ⟨ml1, e1, n1, y1⟩ := c_item (e := z) (i := i) hW C.2.2.2 hs hl
    by_cases hr : rfs on ln sz s l i (nI 1) = nI 0
    · obtain ⟨x, rfl, hx, rfl, hls⟩ := y1 hr
      have X1 : XI m (up2J ml (137 + 2 * s) x (cutL (ln s) z)) σ k f im σi ki fi tl tc on ln sz it := XI_fr X (fun _ _ => rfl) (fun b hb => by
        funext q
        rw [up2J_at, if_neg (by omega)])
      obtain ⟨ml2, e2, -, y2⟩ := x_item (e := z) (i := nI x) hM X1.2.2.2.1 hs hl
      have y3 := y2 x hr rfl hx
      subst y3
      have S1 := CS_put (e := cutL (ln s) z) C.2.2.2 hs hx
      have S2 := RS_put (e := cutL l z) X1.2.2.2.1 hs hx
      rw [hls] at S1 S2 e1 e2
      refine ⟨_, m, _, m, _, e1, e2, ⟨σ, k, f, im, σi, ki, fi, tl, tc, on, ln, sz, _, ⟨C.1, C.2.1, C.2.2.1, CS_fl S1 (fun _ _ _ => rfl) (fun b z1 z2 => ?_)⟩, ⟨X.1, X.2.1, X.2.2.1, S2, X.2.2.2.2⟩, P, Q⟩, rfl, rfl⟩
      funext q
      rw [up2J_at, if_neg (by omega)]
    · have := n1 hr
      subst this
      obtain ⟨ml2, e2, n2, -⟩ := x_item (e := z) (i := i) hM X.2.2.2.1 hs hl
      have := n2 hr
      subst this
      exact OP_same h e1 e2
theorem op_copy (hW : GW G) (hM : GM G) (h : INV m ml) : OP G m ml mX6_copy mX7_copy [.int u, .int i, .int v, .int j, .int c] := by
  obtain ⟨σ, k, f, im, σi, ki, fi, tl, tc, on, ln, sz, it, C, X, P, Q⟩ := id h
  cases hb : (isN u 4 && isN v 4)
  · exact OP_same h (c_copy_bad hW hb) (x_copy_bad hM hb)
  · rw [Bool.and_eq_true] at hb
    obtain ⟨s, rfl, hs⟩ := isN_of hb.1 (by omega)
    obtain ⟨t, rfl, ht⟩ := isN_of hb.2 (by omega)
    obtain ⟨ml1, e1, n1, y1⟩ := c_copy (i := i) (j := j) (c := c) hW C.2.2.2 hs ht
    by_cases hr : cpR on ln sz s t i j c = nI 0
    · obtain ⟨p, q, n, rfl, rfl, rfl, hp, hq, S1, L1⟩ := y1 hr
      rw [if_pos hr] at e1
      have X1 : XI m ml1 σ k f im σi ki fi tl tc on ln sz it := XI_fr X (fun _ _ => rfl) (fun b hb => L1 b (by omega))
      obtain ⟨ml2, e2, S2, L2⟩ := x_copy hM X1.2.2.2.1 hs ht hr hp hq
      exact ⟨_, m, ml1, m, ml2, e1, e2, ⟨σ, k, f, im, σi, ki, fi, tl, tc, on, ln, sz, _, ⟨C.1, C.2.1, C.2.2.1, CS_fl S1 (fun _ _ _ => rfl) (fun b z1 z2 => L2 b (by omega) (by omega))⟩, ⟨X.1, X.2.1, X.2.2.1, S2, X.2.2.2.2⟩, P, Q⟩, rfl, rfl⟩
    · have := n1 hr
      subst this
      rw [if_neg hr] at e1
      exact OP_same h e1 (x_copy_no hM X.2.2.2.1 hs ht hr)
end OP2
