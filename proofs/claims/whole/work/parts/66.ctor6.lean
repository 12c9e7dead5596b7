section CT6
variable {G G' G1 : List AT} {m m' : Nat → Nat → Int32} {ml ml' : Nat → Nat → Int64} {a b n k f cc w i j : Nat} {r : Nat → Option Nat} {t u : AT} {tc : Nat → Nat} {F : Nat → Nat → Nat}

theorem i_X6 (hl : G.length = 3) (hc : G[2]? = some (16, w, r)) (hz : m 2 = fun _ => 0) : ∃ G' m' ml', res mX6_init [.ref 2] (G, m, ml) = some (none, (G', m', ml')) ∧ G'.length = 158 ∧ (∀ i, i < 2 → G'[i]? = G[i]?) ∧ (∀ b, b < 2 → m' b = m b ∧ ml' b = ml b) ∧ GW G' ∧ CA m' (ls0 1) 0 (fun _ _ => 0) ∧ CB m' false (fun _ => 0) 0 (fun _ _ => 0) ∧ CT m' 0 (fun _ => 0) ∧ CS m' ml' (fun _ => false) (fun _ => 0) (fun _ => 0) (fun _ _ => 0) := by
  have key : Wp mX6_init 0 (ent [.ref 2] 2) [] (G, m, ml) (fun rr μ' => ∃ G' m' ml', rr = none ∧ μ' = (G', m', ml') ∧ G'.length = 158 ∧ (∀ i, i < 2 → G'[i]? = G[i]?) ∧ (∀ b, b < 2 → m' b = m b ∧ ml' b = ml b) ∧ GW G' ∧ CA m' (ls0 1) 0 (fun _ _ => 0) ∧ CB m' false (fun _ => 0) 0 (fun _ _ => 0) ∧ CT m' 0 (fun _ => 0) ∧ CS m' ml' (fun _ => false) (fun _ => 0) (fun _ => 0) (fun _ _ => 0)) := by
    show Wp mX6_init 0 [some (.ref 2), none] [] (G, m, ml) _
    generalize hQ : (fun (rr : Option Value) (μ' : Mm) => ∃ G' m' ml', rr = none ∧ μ' = (G', m', ml') ∧ G'.length = 158 ∧ (∀ i, i < 2 → G'[i]? = G[i]?) ∧ (∀ b, b < 2 → m' b = m b ∧ ml' b = ml b) ∧ GW G' ∧ CA m' (ls0 1) 0 (fun _ _ => 0) ∧ CB m' false (fun _ => 0) 0 (fun _ _ => 0) ∧ CT m' 0 (fun _ => 0) ∧ CS m' ml' (fun _ => false) (fun _ => 0) (fun _ => 0) (fun _ _ => 0)) = Q
    rw [eX6_init_0, eX6_init_1]
    refine wp_obj (N := mX3_init) (n := 3) (z := 7) (Spec := fun G' m' ml' => Sh G' 3 ∧ ShV m' 3 (ls0 1)) (fun μ => by rw [eX6_init_4, eX6_init_5, eX6_init_8]) (fun _ _ _ _ z1 => eX6_init_9 z1) (fun _ _ _ _ _ z1 z2 => eX6_init_12 z1 z2) (fun _ _ _ z1 z2 z3 => i_X3 z1 z2 z3) hl hc (by omega) ?_
    intro H1 G1 m1 ml1 l1 f1 c1 h1 v1 s1
    refine wp_obj (N := mX1_init) (n := 10) (z := 58) (Spec := fun G' m' ml' => Pa G' 10 ∧ ∀ F, PaV m' 10 0 F) (fun μ => by rw [eX6_init_15, eX6_init_16, eX6_init_19]) (fun _ _ _ _ z1 => eX6_init_20 z1) (fun _ _ _ _ _ z1 z2 => eX6_init_23 z1 z2) (fun _ _ _ z1 z2 z3 => i_X1 z1 z2 z3) l1 c1 (by omega) ?_
    intro H2 G2 m2 ml2 l2 f2 c2 h2 v2 s2
    refine wp_obj (N := mX3_init) (n := 68) (z := 7) (Spec := fun G' m' ml' => Sh G' 68 ∧ ShV m' 68 (ls0 1)) (fun μ => by rw [eX6_init_26, eX6_init_27, eX6_init_30]) (fun _ _ _ _ z1 => eX6_init_31 z1) (fun _ _ _ _ _ z1 z2 => eX6_init_34 z1 z2) (fun _ _ _ z1 z2 z3 => i_X3 z1 z2 z3) l2 c2 (by omega) ?_
    intro H3 G3 m3 ml3 l3 f3 c3 h3 v3 s3
    refine wp_obj (N := mX1_init) (n := 75) (z := 58) (Spec := fun G' m' ml' => Pa G' 75 ∧ ∀ F, PaV m' 75 0 F) (fun μ => by rw [eX6_init_37, eX6_init_38, eX6_init_41]) (fun _ _ _ _ z1 => eX6_init_42 z1) (fun _ _ _ _ _ z1 z2 => eX6_init_45 z1 z2) (fun _ _ _ z1 z2 z3 => i_X1 z1 z2 z3) l3 c3 (by omega) ?_
    intro H4 G4 m4 ml4 l4 f4 c4 h4 v4 s4
    refine wp_obj (N := mX5_init) (n := 133) (z := 2) (Spec := fun G' m' ml' => (atg G' 133 = 15 ∧ rfn G' 133 0 = 133 + 1 ∧ atg G' (133 + 1) = 1 ∧ aln G' (133 + 1) = 70) ∧ m' 133 = fun _ => 0) (fun μ => by rw [eX6_init_48, eX6_init_49, eX6_init_52]) (fun _ _ _ _ z1 => eX6_init_53 z1) (fun _ _ _ _ _ z1 z2 => eX6_init_56 z1 z2) (fun _ _ _ z1 z2 z3 => i_X5 z1 z2 z3) l4 c4 (by omega) ?_
    intro H5 G5 m5 ml5 l5 f5 c5 h5 v5 s5
    refine wp_arr (n := 135) (fun μ => by rw [eX6_init_59, eX6_init_60, eX6_init_61 (by decide)]) (fun _ _ _ _ _ z1 z2 => eX6_init_64 z1 z2) l5 c5 (by omega) ?_
    intro G6 l6 f6 c6 d6
    simp (maxSteps := 1000000) (decide := true) (disch := (first | assumption | omega | exact Nat.div_mul_le_self _ _ | exact ni_nz (by omega) (by omega) | exact rfl | exact retOk_bI _ | exact retOk_0 | exact retOk_1)) only [eX6_init_67, eX6_init_68, WpR_some, Option.toList_some, Option.toList_none, List.cons_append, List.nil_append, List.append_nil, clr_n, clr_i, clr_a, ni_add, ni_mul, ni_sub, ni_lt, ni_le, ni_eq, ni_div, nat_mod_eq, ni_rem, iMax_nn, iMin_nn, iMax_sub, Nat.zero_max, bI_0, bI_1, bI_n0, up2_s, up2_n, up2_k, va_up_self, va_up_ne, ni_l, lN_mul, lN_add, ln_mask, lN_i, ↓reduceIte, if_true, if_false, not_true_eq_false, not_false_eq_true, ite_self, Nat.add_zero, Nat.zero_add, ent_def]
    have z6 : ∀ b, b < 135 → va_up m5 135 (fun _ => (0 : Int32)) b = m5 b ∧ va_up ml5 135 (fun _ => (0 : Int64)) b = ml5 b := fun b hb => ⟨va_n (by omega), va_n (by omega)⟩
    generalize va_up m5 135 (fun _ => (0 : Int32)) = m6 at *
    generalize va_up ml5 135 (fun _ => (0 : Int64)) = ml6 at *
    refine wp_for (X := Unit) (fun i _ => [some (.ref 2), some (.int (nI i))]) (fun i _ μ => ∃ G7 m7 ml7 ρ, μ = (G7, m7, ml7) ∧ G7.length = 136 + 2 * i ∧ (∀ j, j < 135 → G7[j]? = G6[j]?) ∧ G7[135]? = some (4, 4, ρ) ∧ (∀ j, j < i → ρ j = some (136 + 2 * j) ∧ atg G7 (136 + 2 * j) = 12 ∧ rfn G7 (136 + 2 * j) 2 = 137 + 2 * j ∧ atg G7 (137 + 2 * j) = 2 ∧ aln G7 (137 + 2 * j) = 24 ∧ m7 (136 + 2 * j) 0 = -1 ∧ ml7 (137 + 2 * j) = fun _ => 0) ∧ (∀ b, b < 135 → m7 b = m6 b ∧ ml7 b = ml6 b)) 4 ?_ ?_ 0 () _ (Nat.zero_le _) ⟨G6, _, _, _, rfl, l6, fun _ _ => rfl, d6, fun j hj => absurd hj (Nat.not_lt_zero _), fun _ _ => ⟨rfl, rfl⟩⟩
    · rintro i - μ hi ⟨G7, m7, ml7, ρ, rfl, y1, y2, y3, y4, y5⟩ kk
      have hlt : ¬ 4 ≤ i := by omega
      have ca := y2 2 (by omega)
      rw [c6] at ca
      have g0 : atg G7 2 = 16 := atg_of ca
      have g1 : rfn G7 2 6 = 135 := by rw [rfn_of ca]; simp [va_up]
      rw [eX6_init_69]
      simp (maxSteps := 1000000) (decide := true) (disch := (first | assumption | omega | exact Nat.div_mul_le_self _ _ | exact ni_nz (by omega) (by omega) | exact rfl | exact retOk_bI _ | exact retOk_0 | exact retOk_1)) only [eX6_init_70, eX6_init_71, eX6_init_74, eX6_init_75, eX6_init_78, hlt, g1, WpR_some, Option.toList_some, Option.toList_none, List.cons_append, List.nil_append, List.append_nil, clr_n, clr_i, clr_a, ni_add, ni_mul, ni_sub, ni_lt, ni_le, ni_eq, ni_div, nat_mod_eq, ni_rem, iMax_nn, iMin_nn, iMax_sub, Nat.zero_max, bI_0, bI_1, bI_n0, up2_s, up2_n, up2_k, va_up_self, va_up_ne, ni_l, lN_mul, lN_add, ln_mask, lN_i, ↓reduceIte, if_true, if_false, not_true_eq_false, not_false_eq_true, ite_self, Nat.add_zero, Nat.zero_add, ent_def]
      rw [eX6_init_79, mNew_e]
      show Wp mX6_init 82 _ [.ref G7.length, .int (nI i), .ref 135] _ Q
      obtain ⟨n1, n2, n3⟩ := new_len (u := (12, 0, fun _ => none)) y1
      rw [y1]
      obtain ⟨G8, m8, ml8, e8, q1, q2, q3, ⟨q4, q5, q6, q7⟩, q8, q9⟩ := i_X2 (a := 136 + 2 * i) (m := va_up m7 (136 + 2 * i) (fun _ => 0)) (ml := va_up ml7 (136 + 2 * i) (fun _ => 0)) n1 n3
      rw [eX6_init_82, eX6_init_83 (atg_of n3), e8, WpR_some]
      obtain ⟨t8, p5, p6, -⟩ := atg_get q4 (by decide)
      have p7 : G8[135]? = some (4, 4, ρ) := by rw [q2 _ (by omega), n2 _ (by omega)]; exact y3
      show Wp mX6_init 86 _ [.ref (136 + 2 * i), .int (nI i), .ref 135] _ Q
      rw [eX6_init_86 p7 p5 (Or.inr ⟨rfl, p6⟩) hi (by omega)]
      simp (maxSteps := 1000000) (decide := true) (disch := (first | assumption | omega | exact Nat.div_mul_le_self _ _ | exact ni_nz (by omega) (by omega) | exact rfl | exact retOk_bI _ | exact retOk_0 | exact retOk_1)) only [eX6_init_87, eX6_init_90, WpR_some, Option.toList_some, Option.toList_none, List.cons_append, List.nil_append, List.append_nil, clr_n, clr_i, clr_a, ni_add, ni_mul, ni_sub, ni_lt, ni_le, ni_eq, ni_div, nat_mod_eq, ni_rem, iMax_nn, iMin_nn, iMax_sub, Nat.zero_max, bI_0, bI_1, bI_n0, up2_s, up2_n, up2_k, va_up_self, va_up_ne, ni_l, lN_mul, lN_add, ln_mask, lN_i, ↓reduceIte, if_true, if_false, not_true_eq_false, not_false_eq_true, ite_self, Nat.add_zero, Nat.zero_add, ent_def]
      have s1 : ∀ (x : AT) j, j ≠ 135 → (G8.set 135 x)[j]? = G8[j]? := fun x j hj => List.getElem?_set_ne (by omega)
      refine kk () _ ⟨_, _, _, va_up ρ i (some (136 + 2 * i)), rfl, ?_, ?_, ?_, ?_, ?_⟩
      · rw [List.length_set]; omega
      · intro j hj
        rw [s1 _ _ (by omega), q2 _ (by omega), n2 _ (by omega), y2 _ hj]
      · rw [List.getElem?_set_self (by omega)]
      · intro j hj
        by_cases hq : j = i
        · subst hq
          refine ⟨va_s, by rw [atg_fr (s1 _ _ (by omega))]; exact q4, by rw [rfn_fr (s1 _ _ (by omega)), q5]; omega, ?_, ?_, q8, ?_⟩
          · rw [atg_fr (s1 _ _ (by omega)), show 137 + 2 * j = 136 + 2 * j + 1 by omega]; exact q6
          · rw [aln_fr (s1 _ _ (by omega)), show 137 + 2 * j = 136 + 2 * j + 1 by omega]; exact q7
          · rw [show 137 + 2 * j = 136 + 2 * j + 1 by omega]; exact q9
        · obtain ⟨w1, w2, w3, w4, w5, w6, w7⟩ := y4 j (by omega)
          have g1 : ∀ (x : AT), (G8.set 135 x)[136 + 2 * j]? = G7[136 + 2 * j]? := fun x => by rw [s1 _ _ (by omega), q2 _ (by omega), n2 _ (by omega)]
          have g2 : ∀ (x : AT), (G8.set 135 x)[137 + 2 * j]? = G7[137 + 2 * j]? := fun x => by rw [s1 _ _ (by omega), q2 _ (by omega), n2 _ (by omega)]
          have g3 := q3 (136 + 2 * j) (by omega)
          have g4 := q3 (137 + 2 * j) (by omega)
          exact ⟨by rw [va_n hq]; exact w1, by rw [atg_fr (g1 _)]; exact w2, by rw [rfn_fr (g1 _)]; exact w3, by rw [atg_fr (g2 _)]; exact w4, by rw [aln_fr (g2 _)]; exact w5, by rw [g3.1, va_n (by omega)]; exact w6, by rw [g4.2, va_n (by omega)]; exact w7⟩
      · intro b hb
        have := q3 b (by omega)
        exact ⟨by rw [this.1, va_n (by omega)]; exact (y5 b hb).1, by rw [this.2, va_n (by omega)]; exact (y5 b hb).2⟩
    rintro - μ ⟨G7, m7, ml7, ρ, rfl, l7, y2, y3, y4, y5⟩
    rw [eX6_init_69]
    simp (maxSteps := 1000000) (decide := true) (disch := (first | assumption | omega | exact Nat.div_mul_le_self _ _ | exact ni_nz (by omega) (by omega) | exact rfl | exact retOk_bI _ | exact retOk_0 | exact retOk_1)) only [eX6_init_70, eX6_init_71, eX6_init_74, eX6_init_75, eX6_init_78, eX6_init_79, eX6_init_82, eX6_init_83, eX6_init_86, eX6_init_87, eX6_init_90, Nat.le_refl, WpR_some, Option.toList_some, Option.toList_none, List.cons_append, List.nil_append, List.append_nil, clr_n, clr_i, clr_a, ni_add, ni_mul, ni_sub, ni_lt, ni_le, ni_eq, ni_div, nat_mod_eq, ni_rem, iMax_nn, iMin_nn, iMax_sub, Nat.zero_max, bI_0, bI_1, bI_n0, up2_s, up2_n, up2_k, va_up_self, va_up_ne, ni_l, lN_mul, lN_add, ln_mask, lN_i, ↓reduceIte, if_true, if_false, not_true_eq_false, not_false_eq_true, ite_self, Nat.add_zero, Nat.zero_add, ent_def]
    have c7 := y2 2 (by omega)
    rw [c6] at c7
    refine wp_obj (N := mX3_init) (n := 144) (z := 7) (Spec := fun G' m' ml' => Sh G' 144 ∧ ShV m' 144 (ls0 1)) (fun μ => by rw [eX6_init_93, eX6_init_94, eX6_init_97]) (fun _ _ _ _ z1 => eX6_init_98 z1) (fun _ _ _ _ _ z1 z2 => eX6_init_101 z1 z2) (fun _ _ _ z1 z2 z3 => i_X3 z1 z2 z3) l7 c7 (by omega) ?_
    intro H8 G8 m8 ml8 l8 f8 c8 h8 v8 s8
    refine wp_obj (N := mX4_init) (n := 151) (z := 1) (Spec := fun G' m' ml' => atg G' 151 = 14) (fun μ => by rw [eX6_init_104, eX6_init_105, eX6_init_108]) (fun _ _ _ _ z1 => eX6_init_109 z1) (fun _ _ _ _ _ z1 z2 => eX6_init_112 z1 z2) (fun G m ml z1 z2 z3 => ⟨G, m, ml, i_X4, z1, fun _ _ => rfl, fun _ _ => ⟨rfl, rfl⟩, atg_of z2⟩) l8 c8 (by omega) ?_
    intro H9 G9 m9 ml9 l9 f9 c9 h9 v9 s9
    refine wp_obj (N := mX4_init) (n := 152) (z := 1) (Spec := fun G' m' ml' => atg G' 152 = 14) (fun μ => by rw [eX6_init_115, eX6_init_116, eX6_init_119]) (fun _ _ _ _ z1 => eX6_init_120 z1) (fun _ _ _ _ _ z1 z2 => eX6_init_123 z1 z2) (fun G m ml z1 z2 z3 => ⟨G, m, ml, i_X4, z1, fun _ _ => rfl, fun _ _ => ⟨rfl, rfl⟩, atg_of z2⟩) l9 c9 (by omega) ?_
    intro H10 G10 m10 ml10 l10 f10 c10 h10 v10 s10
    refine wp_obj (N := mX0_init) (n := 153) (z := 2) (Spec := fun G' m' ml' => (atg G' 153 = 10 ∧ rfn G' 153 0 = 153 + 1 ∧ atg G' (153 + 1) = 0 ∧ aln G' (153 + 1) = 5)) (fun μ => by rw [eX6_init_126, eX6_init_127, eX6_init_130]) (fun _ _ _ _ z1 => eX6_init_131 z1) (fun _ _ _ _ _ z1 z2 => eX6_init_134 z1 z2) (fun _ _ _ z1 z2 z3 => i_X0 z1 z2) l10 c10 (by omega) ?_
    intro H11 G11 m11 ml11 l11 f11 c11 h11 v11 s11
    refine wp_obj (N := mX0_init) (n := 155) (z := 2) (Spec := fun G' m' ml' => (atg G' 155 = 10 ∧ rfn G' 155 0 = 155 + 1 ∧ atg G' (155 + 1) = 0 ∧ aln G' (155 + 1) = 5)) (fun μ => by rw [eX6_init_137, eX6_init_138, eX6_init_141]) (fun _ _ _ _ z1 => eX6_init_142 z1) (fun _ _ _ _ _ z1 z2 => eX6_init_145 z1 z2) (fun _ _ _ z1 z2 z3 => i_X0 z1 z2) l11 c11 (by omega) ?_
    intro H12 G12 m12 ml12 l12 f12 c12 h12 v12 s12
    refine wp_arr (n := 157) (fun μ => by rw [eX6_init_148, eX6_init_149, eX6_init_151 (by decide)]) (fun _ _ _ _ _ z1 z2 => eX6_init_153 z1 z2) l12 c12 (by omega) ?_
    intro G13 l13 f13 c13 d13
    rw [eX6_init_156, ← hQ]
    -- frames, backwards
    have k12 : ∀ i, i ≠ 2 → i < 157 → G13[i]? = G12[i]? := fun i z1 z2 => f13 i z1 z2
    have k11 : ∀ i, i ≠ 2 → i < 155 → G13[i]? = G11[i]? := fun i z1 z2 => by rw [k12 i z1 (by omega), f12 i z1 z2]
    have k10 : ∀ i, i ≠ 2 → i < 153 → G13[i]? = G10[i]? := fun i z1 z2 => by rw [k11 i z1 (by omega), f11 i z1 z2]
    have k9 : ∀ i, i ≠ 2 → i < 152 → G13[i]? = G9[i]? := fun i z1 z2 => by rw [k10 i z1 (by omega), f10 i z1 z2]
    have k8 : ∀ i, i ≠ 2 → i < 151 → G13[i]? = G8[i]? := fun i z1 z2 => by rw [k9 i z1 (by omega), f9 i z1 z2]
    have k7 : ∀ i, i ≠ 2 → i < 144 → G13[i]? = G7[i]? := fun i z1 z2 => by rw [k8 i z1 (by omega), f8 i z1 z2]
    have k6 : ∀ i, i ≠ 2 → i < 135 → G13[i]? = G6[i]? := fun i z1 z2 => by rw [k7 i z1 (by omega), y2 i z2]
    have k5 : ∀ i, i ≠ 2 → i < 135 → G13[i]? = G5[i]? := fun i z1 z2 => by rw [k6 i z1 (by omega), f6 i z1 z2]
    have k4 : ∀ i, i ≠ 2 → i < 133 → G13[i]? = G4[i]? := fun i z1 z2 => by rw [k5 i z1 (by omega), f5 i z1 z2]
    have k3 : ∀ i, i ≠ 2 → i < 75 → G13[i]? = G3[i]? := fun i z1 z2 => by rw [k4 i z1 (by omega), f4 i z1 z2]
    have k2 : ∀ i, i ≠ 2 → i < 68 → G13[i]? = G2[i]? := fun i z1 z2 => by rw [k3 i z1 (by omega), f3 i z1 z2]
    have k1 : ∀ i, i ≠ 2 → i < 10 → G13[i]? = G1[i]? := fun i z1 z2 => by rw [k2 i z1 (by omega), f2 i z1 z2]
    have k0 : ∀ i, i ≠ 2 → i < 3 → G13[i]? = G[i]? := fun i z1 z2 => by rw [k1 i z1 (by omega), f1 i z1 z2]
    have w12 : ∀ b, b < 157 → va_up m12 157 (fun _ => (0 : Int32)) b = m12 b ∧ va_up ml12 157 (fun _ => (0 : Int64)) b = ml12 b := fun b hb => ⟨va_n (by omega), va_n (by omega)⟩
    generalize va_up m12 157 (fun _ => (0 : Int32)) = M at *
    generalize va_up ml12 157 (fun _ => (0 : Int64)) = ML at *
    have w7 : ∀ b, b < 144 → M b = m7 b ∧ ML b = ml7 b := fun b hb => ⟨by rw [(w12 b (by omega)).1, (v12 b (by omega)).1, (v11 b (by omega)).1, (v10 b (by omega)).1, (v9 b (by omega)).1, (v8 b (by omega)).1], by rw [(w12 b (by omega)).2, (v12 b (by omega)).2, (v11 b (by omega)).2, (v10 b (by omega)).2, (v9 b (by omega)).2, (v8 b (by omega)).2]⟩
    have w5 : ∀ b, b < 135 → M b = m5 b ∧ ML b = ml5 b := fun b hb => ⟨by rw [(w7 b (by omega)).1, (y5 b (by omega)).1, (z6 b (by omega)).1], by rw [(w7 b (by omega)).2, (y5 b (by omega)).2, (z6 b (by omega)).2]⟩
    have w4 : ∀ b, b < 133 → M b = m4 b ∧ ML b = ml4 b := fun b hb => ⟨by rw [(w5 b (by omega)).1, (v5 b (by omega)).1], by rw [(w5 b (by omega)).2, (v5 b (by omega)).2]⟩
    have w2 : ∀ b, b < 68 → M b = m2 b ∧ ML b = ml2 b := fun b hb => ⟨by rw [(w4 b (by omega)).1, (v4 b (by omega)).1, (v3 b (by omega)).1], by rw [(w4 b (by omega)).2, (v4 b (by omega)).2, (v3 b (by omega)).2]⟩
    have w1 : ∀ b, b < 10 → M b = m1 b ∧ ML b = ml1 b := fun b hb => ⟨by rw [(w2 b (by omega)).1, (v2 b (by omega)).1], by rw [(w2 b (by omega)).2, (v2 b (by omega)).2]⟩
    have w0 : ∀ b, b < 3 → M b = m b ∧ ML b = ml b := fun b hb => ⟨by rw [(w1 b (by omega)).1, (v1 b (by omega)).1], by rw [(w1 b (by omega)).2, (v1 b (by omega)).2]⟩
    have S3 : Sh G13 3 := Sh_fr s1.1 (fun i z1 z2 => by rw [k1 i (by omega) (by omega), h1 i (by omega)])
    have P10 : Pa G13 10 := Pa_fr s2.1 (fun i z1 z2 => by rw [k2 i (by omega) (by omega), h2 i (by omega)])
    have S68 : Sh G13 68 := Sh_fr s3.1 (fun i z1 z2 => by rw [k3 i (by omega) (by omega), h3 i (by omega)])
    have P75 : Pa G13 75 := Pa_fr s4.1 (fun i z1 z2 => by rw [k4 i (by omega) (by omega), h4 i (by omega)])
    have S144 : Sh G13 144 := Sh_fr s8.1 (fun i z1 z2 => by rw [k8 i (by omega) (by omega), h8 i (by omega)])
    have i133 : G13[133]? = H5[133]? := by rw [k5 _ (by omega) (by omega), h5 _ (by omega)]
    have i134 : G13[134]? = H5[134]? := by rw [k5 _ (by omega) (by omega), h5 _ (by omega)]
    have i151 : G13[151]? = H9[151]? := by rw [k9 _ (by omega) (by omega), h9 _ (by omega)]
    have i152 : G13[152]? = H10[152]? := by rw [k10 _ (by omega) (by omega), h10 _ (by omega)]
    have i153 : G13[153]? = H11[153]? := by rw [k11 _ (by omega) (by omega), h11 _ (by omega)]
    have i154 : G13[154]? = H11[154]? := by rw [k11 _ (by omega) (by omega), h11 _ (by omega)]
    have i155 : G13[155]? = H12[155]? := by rw [k12 _ (by omega) (by omega), h12 _ (by omega)]
    have i156 : G13[156]? = H12[156]? := by rw [k12 _ (by omega) (by omega), h12 _ (by omega)]
    have i135 : G13[135]? = some (4, 4, ρ) := by rw [k7 _ (by omega) (by omega)]; exact y3
    refine ⟨G13, M, ML, rfl, rfl, l13, fun i hi => k0 i (by omega) (by omega), fun b hb => w0 b (by omega), ⟨⟨atg_of c13, ?_, ?_, ?_, ?_, ?_, ?_, ?_, ?_, ?_, ?_, ?_, ?_⟩, ⟨S3, P10, S68, P75, S144⟩, ⟨by rw [atg_fr i133]; exact s5.1.1, by rw [rfn_fr i133]; exact s5.1.2.1, by rw [atg_fr i134]; exact s5.1.2.2.1, by rw [aln_fr i134]; exact s5.1.2.2.2⟩, ⟨atg_of i135, aln_of i135, fun s hs => ?_⟩, ⟨by rw [atg_fr i151]; exact s9, by rw [atg_fr i152]; exact s10⟩, ⟨by rw [atg_fr i153]; exact s11.1, by rw [rfn_fr i153]; exact s11.2.1, by rw [atg_fr i154]; exact s11.2.2.1, by rw [aln_fr i154]; exact s11.2.2.2, by rw [atg_fr i155]; exact s12.1, by rw [rfn_fr i155]; exact s12.2.1, by rw [atg_fr i156]; exact s12.2.2.1, by rw [aln_fr i156]; exact s12.2.2.2⟩, atg_of d13, aln_of d13⟩, ⟨ShV_fr s1.2 (fun b z1 z2 => (w1 b (by omega)).1), PaV_fr (s2.2 _) (fun b z1 z2 => (w2 b (by omega)).1)⟩, ⟨by rw [(w0 2 (by omega)).1, hz]; rfl, fun z => by cases z⟩, ⟨by rw [(w5 133 (by omega)).1, s5.2]; rfl, Nat.zero_le _, fun j hj => absurd hj (Nat.not_lt_zero _)⟩, fun s hs => ⟨fun z => (by cases z), fun _ => ?_, fun j hj => ?_⟩⟩
    · rw [rfn_of c13]; simp [va_up]
    · rw [rfn_of c13]; simp [va_up]
    · rw [rfn_of c13]; simp [va_up]
    · rw [rfn_of c13]; simp [va_up]
    · rw [rfn_of c13]; simp [va_up]
    · rw [rfn_of c13]; simp [va_up]
    · rw [rfn_of c13]; simp [va_up]
    · rw [rfn_of c13]; simp [va_up]
    · rw [rfn_of c13]; simp [va_up]
    · rw [rfn_of c13]; simp [va_up]
    · rw [rfn_of c13]; simp [va_up]
    · rw [rfn_of c13]; simp [va_up]
    · obtain ⟨x1, x2, x3, x4, x5, x6, x7⟩ := y4 s hs
      have g1 : G13[136 + 2 * s]? = G7[136 + 2 * s]? := k7 _ (by omega) (by omega)
      have g2 : G13[137 + 2 * s]? = G7[137 + 2 * s]? := k7 _ (by omega) (by omega)
      refine ⟨?_, by rw [atg_fr g1]; exact x2, by rw [rfn_fr g1]; exact x3, by rw [atg_fr g2]; exact x4, by rw [aln_fr g2]; exact x5⟩
      rw [rfn_of i135]
      show (ρ s).getD 0 = _
      rw [x1]; rfl
    · obtain ⟨x1, x2, x3, x4, x5, x6, x7⟩ := y4 s hs
      rw [(w7 _ (by omega)).1]; exact x6
    · obtain ⟨x1, x2, x3, x4, x5, x6, x7⟩ := y4 s hs
      rw [(w7 _ (by omega)).2, x7]
  obtain ⟨rr, μ', e1, G', m', ml', rfl, rfl, h2⟩ := res_ex key
  exact ⟨G', m', ml', e1, h2⟩
end CT6
