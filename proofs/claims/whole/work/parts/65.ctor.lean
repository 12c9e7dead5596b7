section CTR
variable {G G' G1 : List AT} {m m' : Nat → Nat → Int32} {ml ml' : Nat → Nat → Int64} {a b n k f cc w i j : Nat} {r : Nat → Option Nat} {t u : AT} {M N : MI} {Q : Option Value → Mm → Prop} {L : Ls}
theorem atg_fr (h : G'[a]? = G[a]?) : atg G' a = atg G a := by unfold atg; rw [List.getD_eq_getElem?_getD, List.getD_eq_getElem?_getD, h]
theorem aln_fr (h : G'[a]? = G[a]?) : aln G' a = aln G a := by unfold aln; rw [List.getD_eq_getElem?_getD, List.getD_eq_getElem?_getD, h]
theorem rfn_fr (h : G'[a]? = G[a]?) : rfn G' a k = rfn G a k := by unfold rfn; rw [List.getD_eq_getElem?_getD, List.getD_eq_getElem?_getD, h]
theorem atg_of (h : G[a]? = some t) : atg G a = t.1 := by unfold atg; rw [List.getD_eq_getElem?_getD, h]; rfl
theorem aln_of (h : G[a]? = some t) : aln G a = t.2.1 := by unfold aln; rw [List.getD_eq_getElem?_getD, h]; rfl
theorem rfn_of (h : G[a]? = some t) : rfn G a k = (t.2.2 k).getD 0 := by unfold rfn; rw [List.getD_eq_getElem?_getD, h]; rfl
theorem Sh_fr (h : Sh G a) (hf : ∀ i, a ≤ i → i ≤ a + 6 → G'[i]? = G[i]?) : Sh G' a := by
  have f0 := hf a (by omega) (by omega)
  have f1 := hf (a + 1) (by omega) (by omega)
  have f2 := hf (a + 2) (by omega) (by omega)
  have f3 := hf (a + 3) (by omega) (by omega)
  have f4 := hf (a + 4) (by omega) (by omega)
  have f5 := hf (a + 5) (by omega) (by omega)
  have f6 := hf (a + 6) (by omega) (by omega)
  unfold Sh at h ⊢
  rw [atg_fr f0, rfn_fr f0, rfn_fr f0, rfn_fr f0, rfn_fr f0, rfn_fr f0, rfn_fr f0, atg_fr f1, atg_fr f2, atg_fr f3, atg_fr f4, atg_fr f5, atg_fr f6, aln_fr f1, aln_fr f2, aln_fr f3, aln_fr f4, aln_fr f5, aln_fr f6]
  exact h
theorem Pa_fr (h : Pa G a) (hf : ∀ i, a ≤ i → i ≤ a + 57 → G'[i]? = G[i]?) : Pa G' a := by
  have f0 := hf a (by omega) (by omega)
  have f1 := hf (a + 1) (by omega) (by omega)
  obtain ⟨h1, h2, h3, h4, h5⟩ := h
  exact ⟨by rw [atg_fr f0]; exact h1, by rw [rfn_fr f0]; exact h2, by rw [atg_fr f1]; exact h3, by rw [aln_fr f1]; exact h4, fun j hj => ⟨by rw [rfn_fr f1]; exact (h5 j hj).1, Sh_fr (h5 j hj).2 (fun i z1 z2 => hf i (by omega) (by omega))⟩⟩
theorem mNew_e : mNew (G, m, ml) t = (G ++ [t], va_up m G.length (fun _ => 0), va_up ml G.length (fun _ => 0)) := rfl
theorem wp_arr {p q s : Nat} (h1 : ∀ μ, Wp M p L [] μ Q = Wp M q L [.ref μ.1.length, .ref a] (mNew μ u) Q) (h2 : ∀ (G : List AT) (m : Nat → Nat → Int32) (ml : Nat → Nat → Int64) (tt : AT) (v0 : Nat), G[a]? = some tt → tt.1 = cc → Wp M q L [.ref v0, .ref a] (G, m, ml) Q = Wp M s L [] (G.set a (tt.1, tt.2.1, va_up tt.2.2 f (some v0)), m, ml) Q) (hl : G.length = n) (hc : G[a]? = some (cc, w, r)) (ha : a < n) (kk : ∀ G1 : List AT, G1.length = n + 1 → (∀ i, i ≠ a → i < n → G1[i]? = G[i]?) → G1[a]? = some (cc, w, va_up r f (some n)) → G1[n]? = some u → Wp M s L [] (G1, va_up m n (fun _ => 0), va_up ml n (fun _ => 0)) Q) : Wp M p L [] (G, m, ml) Q := by
  rw [h1, mNew_e]
  show Wp M q L [.ref G.length, .ref a] _ Q
  have hc' : (G ++ [u])[a]? = some (cc, w, r) := by rw [List.getElem?_append_left (by omega)]; exact hc
  rw [hl, h2 _ _ _ _ _ hc' rfl]
  refine kk _ ?_ ?_ ?_ ?_
  · rw [List.length_set, List.length_append, List.length_cons, List.length_nil, hl]
  · intro i z1 z2
    rw [List.getElem?_set_ne (by omega), List.getElem?_append_left (by omega)]
  · rw [List.getElem?_set_self (by rw [List.length_append, List.length_cons, List.length_nil]; omega)]
  · rw [List.getElem?_set_ne (by omega), List.getElem?_append_right (by omega), hl, Nat.sub_self]
    rfl
theorem va_s {α : Type} {m : Nat → α} {x : α} : va_up m a x a = x := by simp [va_up]
theorem va_n {α : Type} {m : Nat → α} {x : α} (h : b ≠ a) : va_up m a x b = m b := by simp [va_up, h]
theorem i_X3 (hl : G.length = a + 1) (hc : G[a]? = some (13, w, r)) (hz : m a = fun _ => 0) : ∃ G' m' ml', res mX3_init [.ref a] (G, m, ml) = some (none, (G', m', ml')) ∧ G'.length = a + 7 ∧ (∀ i, i < a → G'[i]? = G[i]?) ∧ (∀ b, b < a → m' b = m b ∧ ml' b = ml b) ∧ Sh G' a ∧ ShV m' a (ls0 1) := by
  have key : Wp mX3_init 0 (ent [.ref a] 1) [] (G, m, ml) (fun rr μ' => ∃ G' m' ml', rr = none ∧ μ' = (G', m', ml') ∧ G'.length = a + 7 ∧ (∀ i, i < a → G'[i]? = G[i]?) ∧ (∀ b, b < a → m' b = m b ∧ ml' b = ml b) ∧ Sh G' a ∧ ShV m' a (ls0 1)) := by
    show Wp mX3_init 0 [some (.ref a)] [] (G, m, ml) _
    generalize hQ : (fun (rr : Option Value) (μ' : Mm) => ∃ G' m' ml', rr = none ∧ μ' = (G', m', ml') ∧ G'.length = a + 7 ∧ (∀ i, i < a → G'[i]? = G[i]?) ∧ (∀ b, b < a → m' b = m b ∧ ml' b = ml b) ∧ Sh G' a ∧ ShV m' a (ls0 1)) = Q
    rw [eX3_init_0, eX3_init_1, eX3_init_4, eX3_init_5, eX3_init_6 (atg_of hc), eX3_init_9, eX3_init_10, eX3_init_11 (atg_of hc)]
    refine wp_arr (fun μ => by rw [eX3_init_14, eX3_init_15, eX3_init_16 (by decide)]) (fun _ _ _ _ _ z1 z2 => eX3_init_18 z1 z2) hl hc (by omega) ?_
    intro G1 l1 f1 c1 d1
    refine wp_arr (fun μ => by rw [eX3_init_21, eX3_init_22, eX3_init_23 (by decide)]) (fun _ _ _ _ _ z1 z2 => eX3_init_25 z1 z2) l1 c1 (by omega) ?_
    intro G2 l2 f2 c2 d2
    refine wp_arr (fun μ => by rw [eX3_init_28, eX3_init_29, eX3_init_30 (by decide)]) (fun _ _ _ _ _ z1 z2 => eX3_init_32 z1 z2) l2 c2 (by omega) ?_
    intro G3 l3 f3 c3 d3
    refine wp_arr (fun μ => by rw [eX3_init_35, eX3_init_36, eX3_init_37 (by decide)]) (fun _ _ _ _ _ z1 z2 => eX3_init_39 z1 z2) l3 c3 (by omega) ?_
    intro G4 l4 f4 c4 d4
    refine wp_arr (fun μ => by rw [eX3_init_42, eX3_init_43, eX3_init_44 (by decide)]) (fun _ _ _ _ _ z1 z2 => eX3_init_46 z1 z2) l4 c4 (by omega) ?_
    intro G5 l5 f5 c5 d5
    refine wp_arr (fun μ => by rw [eX3_init_49, eX3_init_50, eX3_init_52 (by decide)]) (fun _ _ _ _ _ z1 z2 => eX3_init_54 z1 z2) l5 c5 (by omega) ?_
    intro G6 l6 f6 c6 d6
    rw [eX3_init_57, ← hQ]
    have e1 : G6[a + 1]? = some (0, 5, fun _ => none) := by rw [f6 _ (by omega) (by omega), f5 _ (by omega) (by omega), f4 _ (by omega) (by omega), f3 _ (by omega) (by omega), f2 _ (by omega) (by omega)]; exact d1
    have e2 : G6[a + 2]? = some (0, 5, fun _ => none) := by rw [f6 _ (by omega) (by omega), f5 _ (by omega) (by omega), f4 _ (by omega) (by omega), f3 _ (by omega) (by omega)]; exact d2
    have e3 : G6[a + 3]? = some (0, 5, fun _ => none) := by rw [f6 _ (by omega) (by omega), f5 _ (by omega) (by omega), f4 _ (by omega) (by omega)]; exact d3
    have e4 : G6[a + 4]? = some (0, 5, fun _ => none) := by rw [f6 _ (by omega) (by omega), f5 _ (by omega) (by omega)]; exact d4
    have e5 : G6[a + 5]? = some (0, 5, fun _ => none) := by rw [f6 _ (by omega) (by omega)]; exact d5
    have e6 : G6[a + 6]? = some (0, 25, fun _ => none) := d6
    refine ⟨G6, _, _, rfl, rfl, by omega, fun i hi => by rw [f6 _ (by omega) (by omega), f5 _ (by omega) (by omega), f4 _ (by omega) (by omega), f3 _ (by omega) (by omega), f2 _ (by omega) (by omega), f1 _ (by omega) (by omega)], fun b hb => ⟨?_, ?_⟩, ?_, ?_⟩
    · rw [va_n (by omega), va_n (by omega), va_n (by omega), va_n (by omega), va_n (by omega), va_n (by omega), up2_n (by omega), up2_n (by omega)]
    · rw [va_n (by omega), va_n (by omega), va_n (by omega), va_n (by omega), va_n (by omega), va_n (by omega)]
    · refine ⟨atg_of c6, ⟨?_, ?_, ?_, ?_, ?_, ?_⟩, ⟨atg_of e1, atg_of e2, atg_of e3, atg_of e4, atg_of e5, atg_of e6⟩, aln_of e1, aln_of e2, aln_of e3, aln_of e4, aln_of e5, aln_of e6⟩
      · rw [rfn_of c6]; simp [va_up]
      · rw [rfn_of c6]; simp [va_up]
      · rw [rfn_of c6]; simp [va_up]
      · rw [rfn_of c6]; simp [va_up]
      · rw [rfn_of c6]; simp [va_up]
      · rw [rfn_of c6]; simp [va_up]
    · have A : ∀ j, va_up (va_up (va_up (va_up (va_up (va_up (up2 (up2 m a 4 (nI 1)) a 6 (nI 1)) (a + 1) (fun _ => 0)) (a + 1 + 1) (fun _ => 0)) (a + 1 + 1 + 1) (fun _ => 0)) (a + 1 + 1 + 1 + 1) (fun _ => 0)) (a + 1 + 1 + 1 + 1 + 1) (fun _ => 0)) (a + 1 + 1 + 1 + 1 + 1 + 1) (fun _ => (0 : Int32)) a j = up2 (up2 m a 4 (nI 1)) a 6 (nI 1) a j := fun j => by rw [va_n (by omega), va_n (by omega), va_n (by omega), va_n (by omega), va_n (by omega), va_n (by omega)]
      refine ShV_z ?_ ?_ ?_ ?_ ?_ ?_ ?_ ?_ ?_
      · rw [A, up2_k (by decide), up2_k (by decide), hz]; rfl
      · rw [A, up2_k (by decide), up2_k (by decide), hz]; rfl
      · rw [A, up2_k (by decide), up2_k (by decide), hz]; rfl
      · rw [A, up2_k (by decide), up2_k (by decide), hz]; rfl
      · rw [A, up2_k (by decide), up2_s]
      · rw [A, up2_k (by decide), up2_k (by decide), hz]; rfl
      · rw [A, up2_s]
      · intro k _
        rw [va_n (by omega), va_s]; rfl
      · intro k _
        rw [va_s]; rfl
  obtain ⟨rr, μ', e1, G', m', ml', rfl, rfl, h2⟩ := res_ex key
  exact ⟨G', m', ml', e1, h2⟩
theorem new_len (hl : G.length = n) : (G ++ [u]).length = n + 1 ∧ (∀ i, i < n → (G ++ [u])[i]? = G[i]?) ∧ (G ++ [u])[n]? = some u := ⟨by rw [List.length_append, List.length_cons, List.length_nil, hl], fun i hi => List.getElem?_append_left (by omega), by rw [List.getElem?_append_right (by omega), hl, Nat.sub_self]; rfl⟩
theorem i_X1 (hl : G.length = a + 1) (hc : G[a]? = some (11, w, r)) (hz : m a = fun _ => 0) : ∃ G' m' ml', res mX1_init [.ref a] (G, m, ml) = some (none, (G', m', ml')) ∧ G'.length = a + 58 ∧ (∀ i, i < a → G'[i]? = G[i]?) ∧ (∀ b, b < a → m' b = m b ∧ ml' b = ml b) ∧ Pa G' a ∧ ∀ F, PaV m' a 0 F := by
  have key : Wp mX1_init 0 (ent [.ref a] 2) [] (G, m, ml) (fun rr μ' => ∃ G' m' ml', rr = none ∧ μ' = (G', m', ml') ∧ G'.length = a + 58 ∧ (∀ i, i < a → G'[i]? = G[i]?) ∧ (∀ b, b < a → m' b = m b ∧ ml' b = ml b) ∧ Pa G' a ∧ ∀ F, PaV m' a 0 F) := by
    show Wp mX1_init 0 [some (.ref a), none] [] (G, m, ml) _
    generalize hQ : (fun (rr : Option Value) (μ' : Mm) => ∃ G' m' ml', rr = none ∧ μ' = (G', m', ml') ∧ G'.length = a + 58 ∧ (∀ i, i < a → G'[i]? = G[i]?) ∧ (∀ b, b < a → m' b = m b ∧ ml' b = ml b) ∧ Pa G' a ∧ ∀ F, PaV m' a 0 F) = Q
    rw [eX1_init_0, eX1_init_1]
    refine wp_arr (fun μ => by rw [eX1_init_4, eX1_init_5, eX1_init_7 (by decide)]) (fun _ _ _ _ _ z1 z2 => eX1_init_10 z1 z2) hl hc (by omega) ?_
    intro G1 l1 f1 c1 d1
    simp (maxSteps := 1000000) (decide := true) (disch := (first | assumption | omega | exact Nat.div_mul_le_self _ _ | exact ni_nz (by omega) (by omega) | exact rfl | exact retOk_bI _ | exact retOk_0 | exact retOk_1)) only [eX1_init_13, eX1_init_14, WpR_some, Option.toList_some, Option.toList_none, List.cons_append, List.nil_append, List.append_nil, clr_n, clr_i, clr_a, ni_add, ni_mul, ni_sub, ni_lt, ni_le, ni_eq, ni_div, nat_mod_eq, ni_rem, iMax_nn, iMin_nn, iMax_sub, Nat.zero_max, bI_0, bI_1, bI_n0, up2_s, up2_n, up2_k, va_up_self, va_up_ne, ni_l, lN_mul, lN_add, ln_mask, lN_i, ↓reduceIte, if_true, if_false, not_true_eq_false, not_false_eq_true, ite_self, Nat.add_zero, Nat.zero_add, ent_def]
    refine wp_for (X := Unit) (fun i _ => [some (.ref a), some (.int (nI i))]) (fun i _ μ => ∃ G2 m2 ml2 ρ, μ = (G2, m2, ml2) ∧ G2.length = a + 2 + 7 * i ∧ (∀ j, j < a + 1 → G2[j]? = G1[j]?) ∧ G2[a + 1]? = some (3, 8, ρ) ∧ (∀ j, j < i → ρ j = some (a + 2 + 7 * j) ∧ Sh G2 (a + 2 + 7 * j)) ∧ (∀ b, b < a → m2 b = m b ∧ ml2 b = ml b) ∧ m2 a = fun _ => 0) 8 ?_ ?_ 0 () _ (Nat.zero_le _) ⟨G1, _, _, _, rfl, by omega, fun _ _ => rfl, d1, fun j hj => absurd hj (Nat.not_lt_zero _), fun b hb => ⟨by rw [va_n (by omega)], by rw [va_n (by omega)]⟩, by rw [va_n (by omega)]; exact hz⟩
    · rintro i - μ hi ⟨G2, m2, ml2, ρ, rfl, y1, y2, y3, y4, y5, y6⟩ kk
      have hlt : ¬ 8 ≤ i := by omega
      have ca : G2[a]? = some (11, w, va_up r 0 (some (a + 1))) := by rw [y2 a (by omega)]; exact c1
      have g0 : atg G2 a = 11 := atg_of ca
      have g1 : rfn G2 a 0 = a + 1 := by rw [rfn_of ca]; simp [va_up]
      rw [eX1_init_15]
      simp (maxSteps := 1000000) (decide := true) (disch := (first | assumption | omega | exact Nat.div_mul_le_self _ _ | exact ni_nz (by omega) (by omega) | exact rfl | exact retOk_bI _ | exact retOk_0 | exact retOk_1)) only [eX1_init_16, eX1_init_18, eX1_init_21, eX1_init_22, eX1_init_25, hlt, g1, WpR_some, Option.toList_some, Option.toList_none, List.cons_append, List.nil_append, List.append_nil, clr_n, clr_i, clr_a, ni_add, ni_mul, ni_sub, ni_lt, ni_le, ni_eq, ni_div, nat_mod_eq, ni_rem, iMax_nn, iMin_nn, iMax_sub, Nat.zero_max, bI_0, bI_1, bI_n0, up2_s, up2_n, up2_k, va_up_self, va_up_ne, ni_l, lN_mul, lN_add, ln_mask, lN_i, ↓reduceIte, if_true, if_false, not_true_eq_false, not_false_eq_true, ite_self, Nat.add_zero, Nat.zero_add, ent_def]
      rw [eX1_init_26, mNew_e]
      show Wp mX1_init 29 _ [.ref G2.length, .int (nI i), .ref (a + 1)] _ Q
      obtain ⟨n1, n2, n3⟩ := new_len (u := (13, 0, fun _ => none)) y1
      rw [y1]
      obtain ⟨G3, m3, ml3, e3, q1, q2, q3, q4, -⟩ := i_X3 (a := a + 2 + 7 * i) (m := va_up m2 (a + 2 + 7 * i) (fun _ => 0)) (ml := va_up ml2 (a + 2 + 7 * i) (fun _ => 0)) n1 n3 va_s
      rw [eX1_init_29, eX1_init_30 (atg_of n3), e3, WpR_some]
      obtain ⟨t3, q5, q6, -⟩ := atg_get q4.1 (by decide)
      have q7 : G3[a + 1]? = some (3, 8, ρ) := by rw [q2 _ (by omega), n2 _ (by omega)]; exact y3
      show Wp mX1_init 33 _ [.ref (a + 2 + 7 * i), .int (nI i), .ref (a + 1)] _ Q
      rw [eX1_init_33 q7 q5 (Or.inl ⟨rfl, q6⟩) hi (by omega)]
      have s1 : ∀ j, j ≠ a + 1 → (G3.set (a + 1) ((3, 8, ρ) : AT))[j]? = G3[j]? := fun j hj => List.getElem?_set_ne (by omega)
      simp (maxSteps := 1000000) (decide := true) (disch := (first | assumption | omega | exact Nat.div_mul_le_self _ _ | exact ni_nz (by omega) (by omega) | exact rfl | exact retOk_bI _ | exact retOk_0 | exact retOk_1)) only [eX1_init_34, eX1_init_37, WpR_some, Option.toList_some, Option.toList_none, List.cons_append, List.nil_append, List.append_nil, clr_n, clr_i, clr_a, ni_add, ni_mul, ni_sub, ni_lt, ni_le, ni_eq, ni_div, nat_mod_eq, ni_rem, iMax_nn, iMin_nn, iMax_sub, Nat.zero_max, bI_0, bI_1, bI_n0, up2_s, up2_n, up2_k, va_up_self, va_up_ne, ni_l, lN_mul, lN_add, ln_mask, lN_i, ↓reduceIte, if_true, if_false, not_true_eq_false, not_false_eq_true, ite_self, Nat.add_zero, Nat.zero_add, ent_def]
      refine kk () _ ⟨_, _, _, va_up ρ i (some (a + 2 + 7 * i)), rfl, ?_, ?_, ?_, ?_, ?_, ?_⟩
      · rw [List.length_set]; omega
      · intro j hj
        rw [List.getElem?_set_ne (by omega), q2 _ (by omega), n2 _ (by omega), y2 _ hj]
      · rw [List.getElem?_set_self (by omega)]
      · intro j hj
        by_cases hq : j = i
        · subst hq
          exact ⟨va_s, Sh_fr q4 (fun i z1 z2 => List.getElem?_set_ne (by omega))⟩
        · refine ⟨by rw [va_n hq]; exact (y4 j (by omega)).1, Sh_fr (y4 j (by omega)).2 (fun i z1 z2 => ?_)⟩
          rw [List.getElem?_set_ne (by omega), q2 _ (by omega), n2 _ (by omega)]
      · intro b hb
        have := q3 b (by omega)
        exact ⟨by rw [this.1, va_n (by omega)]; exact (y5 b hb).1, by rw [this.2, va_n (by omega)]; exact (y5 b hb).2⟩
      · rw [(q3 a (by omega)).1, va_n (by omega)]; exact y6
    · rintro - μ ⟨G2, m2, ml2, ρ, rfl, y1, y2, y3, y4, y5, y6⟩
      rw [eX1_init_15]
      simp (maxSteps := 1000000) (decide := true) (disch := (first | assumption | omega | exact Nat.div_mul_le_self _ _ | exact ni_nz (by omega) (by omega) | exact rfl | exact retOk_bI _ | exact retOk_0 | exact retOk_1)) only [eX1_init_16, eX1_init_18, eX1_init_21, eX1_init_22, eX1_init_25, eX1_init_26, eX1_init_29, eX1_init_30, eX1_init_33, eX1_init_34, eX1_init_37, eX1_init_40, Nat.le_refl, WpR_some, Option.toList_some, Option.toList_none, List.cons_append, List.nil_append, List.append_nil, clr_n, clr_i, clr_a, ni_add, ni_mul, ni_sub, ni_lt, ni_le, ni_eq, ni_div, nat_mod_eq, ni_rem, iMax_nn, iMin_nn, iMax_sub, Nat.zero_max, bI_0, bI_1, bI_n0, up2_s, up2_n, up2_k, va_up_self, va_up_ne, ni_l, lN_mul, lN_add, ln_mask, lN_i, ↓reduceIte, if_true, if_false, not_true_eq_false, not_false_eq_true, ite_self, Nat.add_zero, Nat.zero_add, ent_def]
      rw [← hQ]
      have ca : G2[a]? = some (11, w, va_up r 0 (some (a + 1))) := by rw [y2 a (by omega)]; exact c1
      refine ⟨G2, m2, ml2, rfl, rfl, by omega, fun i hi => by rw [y2 i (by omega), f1 i (by omega) (by omega)], y5, ⟨atg_of ca, by rw [rfn_of ca]; simp [va_up], atg_of y3, aln_of y3, fun j hj => ⟨by rw [rfn_of y3]; show (ρ j).getD 0 = _; rw [(y4 j hj).1]; rfl, (y4 j hj).2⟩⟩, fun F => ⟨0, by omega, by rw [y6]; rfl, by rw [y6]; rfl, by omega, fun i hi => absurd hi (Nat.not_lt_zero _)⟩⟩
  obtain ⟨rr, μ', e1, G', m', ml', rfl, rfl, h2⟩ := res_ex key
  exact ⟨G', m', ml', e1, h2⟩
theorem i_X5 (hl : G.length = a + 1) (hc : G[a]? = some (15, w, r)) (hz : m a = fun _ => 0) : ∃ G' m' ml', res mX5_init [.ref a] (G, m, ml) = some (none, (G', m', ml')) ∧ G'.length = a + 2 ∧ (∀ i, i < a → G'[i]? = G[i]?) ∧ (∀ b, b < a → m' b = m b ∧ ml' b = ml b) ∧ (atg G' a = 15 ∧ rfn G' a 0 = a + 1 ∧ atg G' (a + 1) = 1 ∧ aln G' (a + 1) = 70) ∧ m' a = fun _ => 0 := by
  have key : Wp mX5_init 0 (ent [.ref a] 1) [] (G, m, ml) (fun rr μ' => ∃ G' m' ml', rr = none ∧ μ' = (G', m', ml') ∧ G'.length = a + 2 ∧ (∀ i, i < a → G'[i]? = G[i]?) ∧ (∀ b, b < a → m' b = m b ∧ ml' b = ml b) ∧ (atg G' a = 15 ∧ rfn G' a 0 = a + 1 ∧ atg G' (a + 1) = 1 ∧ aln G' (a + 1) = 70) ∧ m' a = fun _ => 0) := by
    show Wp mX5_init 0 [some (.ref a)] [] (G, m, ml) _
    generalize hQ : (fun (rr : Option Value) (μ' : Mm) => ∃ G' m' ml', rr = none ∧ μ' = (G', m', ml') ∧ G'.length = a + 2 ∧ (∀ i, i < a → G'[i]? = G[i]?) ∧ (∀ b, b < a → m' b = m b ∧ ml' b = ml b) ∧ (atg G' a = 15 ∧ rfn G' a 0 = a + 1 ∧ atg G' (a + 1) = 1 ∧ aln G' (a + 1) = 70) ∧ m' a = fun _ => 0) = Q
    rw [eX5_init_0, eX5_init_1]
    refine wp_arr (fun μ => by rw [eX5_init_4, eX5_init_5, eX5_init_7 (by decide)]) (fun _ _ _ _ _ z1 z2 => eX5_init_9 z1 z2) hl hc (by omega) ?_
    intro G1 l1 f1 c1 d1
    rw [eX5_init_12, ← hQ]
    exact ⟨G1, _, _, rfl, rfl, by omega, fun i hi => f1 i (by omega) (by omega), fun b hb => ⟨va_n (by omega), va_n (by omega)⟩, ⟨atg_of c1, by rw [rfn_of c1]; simp [va_up], atg_of d1, aln_of d1⟩, by rw [va_n (by omega)]; exact hz⟩
  obtain ⟨rr, μ', e1, G', m', ml', rfl, rfl, h2⟩ := res_ex key
  exact ⟨G', m', ml', e1, h2⟩
theorem i_X2 (hl : G.length = a + 1) (hc : G[a]? = some (12, w, r)) : ∃ G' m' ml', res mX2_init [.ref a] (G, m, ml) = some (none, (G', m', ml')) ∧ G'.length = a + 2 ∧ (∀ i, i < a → G'[i]? = G[i]?) ∧ (∀ b, b < a → m' b = m b ∧ ml' b = ml b) ∧ (atg G' a = 12 ∧ rfn G' a 2 = a + 1 ∧ atg G' (a + 1) = 2 ∧ aln G' (a + 1) = 24) ∧ m' a 0 = -1 ∧ ml' (a + 1) = fun _ => 0 := by
  have key : Wp mX2_init 0 (ent [.ref a] 1) [] (G, m, ml) (fun rr μ' => ∃ G' m' ml', rr = none ∧ μ' = (G', m', ml') ∧ G'.length = a + 2 ∧ (∀ i, i < a → G'[i]? = G[i]?) ∧ (∀ b, b < a → m' b = m b ∧ ml' b = ml b) ∧ (atg G' a = 12 ∧ rfn G' a 2 = a + 1 ∧ atg G' (a + 1) = 2 ∧ aln G' (a + 1) = 24) ∧ m' a 0 = -1 ∧ ml' (a + 1) = fun _ => 0) := by
    show Wp mX2_init 0 [some (.ref a)] [] (G, m, ml) _
    generalize hQ : (fun (rr : Option Value) (μ' : Mm) => ∃ G' m' ml', rr = none ∧ μ' = (G', m', ml') ∧ G'.length = a + 2 ∧ (∀ i, i < a → G'[i]? = G[i]?) ∧ (∀ b, b < a → m' b = m b ∧ ml' b = ml b) ∧ (atg G' a = 12 ∧ rfn G' a 2 = a + 1 ∧ atg G' (a + 1) = 2 ∧ aln G' (a + 1) = 24) ∧ m' a 0 = -1 ∧ ml' (a + 1) = fun _ => 0) = Q
    rw [eX2_init_0, eX2_init_1, eX2_init_4, eX2_init_5, eX2_init_6 (atg_of hc)]
    refine wp_arr (fun μ => by rw [eX2_init_9, eX2_init_10, eX2_init_12 (by decide)]) (fun _ _ _ _ _ z1 z2 => eX2_init_14 z1 z2) hl hc (by omega) ?_
    intro G1 l1 f1 c1 d1
    rw [eX2_init_17, ← hQ]
    exact ⟨G1, _, _, rfl, rfl, by omega, fun i hi => f1 i (by omega) (by omega), fun b hb => ⟨by rw [va_n (by omega), up2_n (by omega)], va_n (by omega)⟩, ⟨atg_of c1, by rw [rfn_of c1]; simp [va_up], atg_of d1, aln_of d1⟩, by rw [va_n (by omega), up2_s], va_s⟩
  obtain ⟨rr, μ', e1, G', m', ml', rfl, rfl, h2⟩ := res_ex key
  exact ⟨G', m', ml', e1, h2⟩
theorem i_X0 (hl : G.length = a + 1) (hc : G[a]? = some (10, w, r)) : ∃ G' m' ml', res mX0_init [.ref a] (G, m, ml) = some (none, (G', m', ml')) ∧ G'.length = a + 2 ∧ (∀ i, i < a → G'[i]? = G[i]?) ∧ (∀ b, b < a → m' b = m b ∧ ml' b = ml b) ∧ (atg G' a = 10 ∧ rfn G' a 0 = a + 1 ∧ atg G' (a + 1) = 0 ∧ aln G' (a + 1) = 5) := by
  have key : Wp mX0_init 0 (ent [.ref a] 1) [] (G, m, ml) (fun rr μ' => ∃ G' m' ml', rr = none ∧ μ' = (G', m', ml') ∧ G'.length = a + 2 ∧ (∀ i, i < a → G'[i]? = G[i]?) ∧ (∀ b, b < a → m' b = m b ∧ ml' b = ml b) ∧ (atg G' a = 10 ∧ rfn G' a 0 = a + 1 ∧ atg G' (a + 1) = 0 ∧ aln G' (a + 1) = 5)) := by
    show Wp mX0_init 0 [some (.ref a)] [] (G, m, ml) _
    generalize hQ : (fun (rr : Option Value) (μ' : Mm) => ∃ G' m' ml', rr = none ∧ μ' = (G', m', ml') ∧ G'.length = a + 2 ∧ (∀ i, i < a → G'[i]? = G[i]?) ∧ (∀ b, b < a → m' b = m b ∧ ml' b = ml b) ∧ (atg G' a = 10 ∧ rfn G' a 0 = a + 1 ∧ atg G' (a + 1) = 0 ∧ aln G' (a + 1) = 5)) = Q
    rw [eX0_init_0, eX0_init_1]
    refine wp_arr (fun μ => by rw [eX0_init_4, eX0_init_5, eX0_init_6 (by decide)]) (fun _ _ _ _ _ z1 z2 => eX0_init_8 z1 z2) hl hc (by omega) ?_
    intro G1 l1 f1 c1 d1
    rw [eX0_init_11, ← hQ]
    exact ⟨G1, _, _, rfl, rfl, by omega, fun i hi => f1 i (by omega) (by omega), fun b hb => ⟨va_n (by omega), va_n (by omega)⟩, atg_of c1, by rw [rfn_of c1]; simp [va_up], atg_of d1, aln_of d1⟩
  obtain ⟨rr, μ', e1, G', m', ml', rfl, rfl, h2⟩ := res_ex key
  exact ⟨G', m', ml', e1, h2⟩
theorem i_X4 : res mX4_init [.ref a] (G, m, ml) = some (none, (G, m, ml)) := by
  apply res_of
  show Wp mX4_init 0 [some (.ref a)] [] (G, m, ml) _
  rw [eX4_init_0, eX4_init_1, eX4_init_4]
theorem wp_obj {p q q2 s tg z : Nat} {Spec : List AT → (Nat → Nat → Int32) → (Nat → Nat → Int64) → Prop} (h1 : ∀ μ, Wp M p L [] μ Q = Wp M q L [.ref μ.1.length, .ref μ.1.length, .ref a] (mNew μ (tg, 0, fun _ => none)) Q) (h2 : ∀ (G : List AT) (m : Nat → Nat → Int32) (ml : Nat → Nat → Int64) (v : Nat), atg G v = tg → Wp M q L [.ref v, .ref v, .ref a] (G, m, ml) Q = WpR (res N [.ref v] (G, m, ml)) (fun r μ' => Wp M q2 L (r.toList ++ [.ref v, .ref a]) μ' Q)) (h3 : ∀ (G : List AT) (m : Nat → Nat → Int32) (ml : Nat → Nat → Int64) (tt : AT) (v0 : Nat), G[a]? = some tt → tt.1 = cc → Wp M q2 L [.ref v0, .ref a] (G, m, ml) Q = Wp M s L [] (G.set a (tt.1, tt.2.1, va_up tt.2.2 f (some v0)), m, ml) Q) (hI : ∀ (G : List AT) (m : Nat → Nat → Int32) (ml : Nat → Nat → Int64), G.length = n + 1 → G[n]? = some (tg, 0, fun _ => none) → (m n = fun _ => 0) → ∃ G' m' ml', res N [.ref n] (G, m, ml) = some (none, (G', m', ml')) ∧ G'.length = n + z ∧ (∀ i, i < n → G'[i]? = G[i]?) ∧ (∀ b, b < n → m' b = m b ∧ ml' b = ml b) ∧ Spec G' m' ml') (hl : G.length = n) (hc : G[a]? = some (cc, w, r)) (ha : a < n) (kk : ∀ (G' G1 : List AT) (m1 : Nat → Nat → Int32) (ml1 : Nat → Nat → Int64), G1.length = n + z → (∀ i, i ≠ a → i < n → G1[i]? = G[i]?) → G1[a]? = some (cc, w, va_up r f (some n)) → (∀ i, i ≠ a → G1[i]? = G'[i]?) → (∀ b, b < n → m1 b = m b ∧ ml1 b = ml b) → Spec G' m1 ml1 → Wp M s L [] (G1, m1, ml1) Q) : Wp M p L [] (G, m, ml) Q := by
  rw [h1, mNew_e]
  show Wp M q L [.ref G.length, .ref G.length, .ref a] _ Q
  obtain ⟨n1, n2, n3⟩ := new_len (u := (tg, 0, fun _ => none)) hl
  rw [hl, h2 _ _ _ _ (atg_of n3)]
  obtain ⟨G', m', ml', e1, q1, q2, q3, q4⟩ := hI (G ++ [(tg, 0, fun _ => none)]) (va_up m n (fun _ => 0)) (va_up ml n (fun _ => 0)) n1 n3 va_s
  rw [e1, WpR_some]
  have hc' : G'[a]? = some (cc, w, r) := by rw [q2 a ha, n2 a ha]; exact hc
  show Wp M _ L [.ref n, .ref a] _ Q
  rw [h3 _ _ _ _ _ hc' rfl]
  refine kk G' _ _ _ ?_ ?_ ?_ ?_ ?_ q4
  · rw [List.length_set]; exact q1
  · intro i z1 z2
    rw [List.getElem?_set_ne (by omega), q2 i z2, n2 i z2]
  · rw [List.getElem?_set_self]
    have : a < G'.length := by
      rcases Nat.lt_or_ge a G'.length with h | h
      · exact h
      · rw [List.getElem?_eq_none h] at hc'; cases hc'
    exact this
  · intro i z1
    rw [List.getElem?_set_ne (by omega)]
  · intro b hb
    have := q3 b hb
    exact ⟨by rw [this.1, va_n (by omega)], by rw [this.2, va_n (by omega)]⟩
end CTR
