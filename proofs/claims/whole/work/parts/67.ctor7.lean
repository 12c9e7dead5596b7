section CT7
variable {G G' G1 : List AT} {m m' : Nat → Nat → Int32} {ml ml' : Nat → Nat → Int64} {a b n k f cc w i j : Nat} {r : Nat → Option Nat} {t u : AT}
theorem set_p {H : List AT} {x : AT} (hl : H.length = n) (ha : a < n) : (H.set a x).length = n ∧ (∀ i, i ≠ a → (H.set a x)[i]? = H[i]?) ∧ (H.set a x)[a]? = some x := ⟨by rw [List.length_set]; exact hl, fun i hi => List.getElem?_set_ne (by omega), List.getElem?_set_self (by omega)⟩
theorem i_X7 (hl : G.length = 159) (hc : G[158]? = some (17, w, r)) (hz : m 158 = fun _ => 0) : ∃ G' m' ml', res mX7_init [.ref 158] (G, m, ml) = some (none, (G', m', ml')) ∧ G'.length = 171 ∧ (∀ i, i < 158 → G'[i]? = G[i]?) ∧ (∀ b, b < 158 → m' b = m b ∧ ml' b = ml b) ∧ GM G' ∧ XI m' ml' (ls0 1) 0 (fun _ _ => 0) false (fun _ => 0) 0 (fun _ _ => 0) 0 (fun _ => 0) (fun _ => false) (fun _ => 0) (fun _ => 0) (fun _ _ => 0) := by
  have key : Wp mX7_init 0 (ent [.ref 158] 1) [] (G, m, ml) (fun rr μ' => ∃ G' m' ml', rr = none ∧ μ' = (G', m', ml') ∧ G'.length = 171 ∧ (∀ i, i < 158 → G'[i]? = G[i]?) ∧ (∀ b, b < 158 → m' b = m b ∧ ml' b = ml b) ∧ GM G' ∧ XI m' ml' (ls0 1) 0 (fun _ _ => 0) false (fun _ => 0) 0 (fun _ _ => 0) 0 (fun _ => 0) (fun _ => false) (fun _ => 0) (fun _ => 0) (fun _ _ => 0)) := by
    show Wp mX7_init 0 [some (.ref 158)] [] (G, m, ml) _
    generalize hQ : (fun (rr : Option Value) (μ' : Mm) => ∃ G' m' ml', rr = none ∧ μ' = (G', m', ml') ∧ G'.length = 171 ∧ (∀ i, i < 158 → G'[i]? = G[i]?) ∧ (∀ b, b < 158 → m' b = m b ∧ ml' b = ml b) ∧ GM G' ∧ XI m' ml' (ls0 1) 0 (fun _ _ => 0) false (fun _ => 0) 0 (fun _ _ => 0) 0 (fun _ => 0) (fun _ => false) (fun _ => 0) (fun _ => 0) (fun _ _ => 0)) = Q
    rw [eX7_init_0, eX7_init_1]
    refine wp_arr (u := ((0, 874, fun _ => none) : AT)) (n := 159) (fun μ => by rw [eX7_init_4, eX7_init_5, eX7_init_8 (by decide)]) (fun _ _ _ _ _ z1 z2 => eX7_init_10 z1 z2) hl hc (by omega) ?_
    intro G1 l1 f1 c1 d1
    replace l1 : G1.length = 160 := l1
    have v1 : ∀ b, b ≠ 159 → va_up m 159 (fun _ => (0 : Int32)) b = m b ∧ va_up ml 159 (fun _ => (0 : Int64)) b = ml b := fun b hb => ⟨va_n hb, va_n hb⟩
    have s1 : va_up m 159 (fun _ => (0 : Int32)) 159 = (fun _ => 0) ∧ va_up ml 159 (fun _ => (0 : Int64)) 159 = (fun _ => 0) := ⟨va_s, va_s⟩
    generalize va_up m 159 (fun _ => (0 : Int32)) = m1 at *
    generalize va_up ml 159 (fun _ => (0 : Int64)) = ml1 at *
    refine wp_arr (u := ((0, 70, fun _ => none) : AT)) (n := 160) (fun μ => by rw [eX7_init_13, eX7_init_14, eX7_init_16 (by decide)]) (fun _ _ _ _ _ z1 z2 => eX7_init_18 z1 z2) l1 c1 (by omega) ?_
    intro G2 l2 f2 c2 d2
    replace l2 : G2.length = 161 := l2
    have v2 : ∀ b, b ≠ 160 → va_up m1 160 (fun _ => (0 : Int32)) b = m1 b ∧ va_up ml1 160 (fun _ => (0 : Int64)) b = ml1 b := fun b hb => ⟨va_n hb, va_n hb⟩
    have s2 : va_up m1 160 (fun _ => (0 : Int32)) 160 = (fun _ => 0) ∧ va_up ml1 160 (fun _ => (0 : Int64)) 160 = (fun _ => 0) := ⟨va_s, va_s⟩
    generalize va_up m1 160 (fun _ => (0 : Int32)) = m2 at *
    generalize va_up ml1 160 (fun _ => (0 : Int64)) = ml2 at *
    refine wp_arr (u := ((0, 4, fun _ => none) : AT)) (n := 161) (fun μ => by rw [eX7_init_21, eX7_init_22, eX7_init_23 (by decide)]) (fun _ _ _ _ _ z1 z2 => eX7_init_25 z1 z2) l2 c2 (by omega) ?_
    intro G3 l3 f3 c3 d3
    replace l3 : G3.length = 162 := l3
    have v3 : ∀ b, b ≠ 161 → va_up m2 161 (fun _ => (0 : Int32)) b = m2 b ∧ va_up ml2 161 (fun _ => (0 : Int64)) b = ml2 b := fun b hb => ⟨va_n hb, va_n hb⟩
    have s3 : va_up m2 161 (fun _ => (0 : Int32)) 161 = (fun _ => 0) ∧ va_up ml2 161 (fun _ => (0 : Int64)) 161 = (fun _ => 0) := ⟨va_s, va_s⟩
    generalize va_up m2 161 (fun _ => (0 : Int32)) = m3 at *
    generalize va_up ml2 161 (fun _ => (0 : Int64)) = ml3 at *
    rw [eX7_init_28, eX7_init_29, eX7_init_30 (by decide), mNew_e]
    show Wp mX7_init 32 _ [.ref G3.length, .ref 158] _ Q
    obtain ⟨a4, b4, e4⟩ := new_len (u := ((0, 4, fun _ => none) : AT)) l3
    rw [l3]
    have g4 := atg_of e4
    have x4 : aln (G3 ++ [((0, 4, fun _ => none) : AT)]) 162 = 4 := aln_of e4
    have y4 : (G3 ++ [((0, 4, fun _ => none) : AT)])[158]? = _ := (b4 158 (by omega)).trans c3
    generalize hH4 : G3 ++ [((0, 4, fun _ => none) : AT)] = H4 at *
    simp only [] at g4
    simp (maxSteps := 1000000) (decide := true) (disch := (first | assumption | omega | exact Nat.div_mul_le_self _ _ | exact ni_nz (by omega) (by omega) | exact rfl | exact retOk_bI _ | exact retOk_0 | exact retOk_1)) only [eX7_init_32, eX7_init_33, eX7_init_34, eX7_init_35, eX7_init_36, eX7_init_37, eX7_init_38, eX7_init_39, eX7_init_40, eX7_init_41, eX7_init_42, eX7_init_43, eX7_init_44, eX7_init_45, eX7_init_46, eX7_init_47, WpR_some, Option.toList_some, Option.toList_none, List.cons_append, List.nil_append, List.append_nil, clr_n, clr_i, clr_a, ni_add, ni_mul, ni_sub, ni_lt, ni_le, ni_eq, ni_div, nat_mod_eq, ni_rem, iMax_nn, iMin_nn, iMax_sub, Nat.zero_max, bI_0, bI_1, bI_n0, up2_s, up2_n, up2_k, va_up_self, va_up_ne, ni_l, lN_mul, lN_add, ln_mask, lN_i, ↓reduceIte, if_true, if_false, not_true_eq_false, not_false_eq_true, ite_self, Nat.add_zero, Nat.zero_add, ent_def]
    rw [eX7_init_48 y4 rfl]
    obtain ⟨l4, t4, c4⟩ := set_p (n := 163) (a := 158) (x := (17, w, va_up _ 5 (some 162))) a4 (by omega)
    have f4 : ∀ i, i ≠ 158 → i < 162 → (H4.set 158 _)[i]? = G3[i]? := fun i z1 z2 => (t4 i z1).trans (b4 i z2)
    have d4 := (t4 162 (by omega)).trans e4
    generalize H4.set 158 _ = G4 at *
    have v4 : ∀ b, b ≠ 162 → (up2 (up2 (up2 (up2 (va_up m3 162 (fun _ => (0 : Int32))) 162 0 (-1)) 162 1 (-1)) 162 2 (-1)) 162 3 (-1)) b = m3 b ∧ va_up ml3 162 (fun _ => (0 : Int64)) b = ml3 b := fun b hb => ⟨by simp only [up2_n hb, va_n hb], va_n hb⟩
    have s4 : (up2 (up2 (up2 (up2 (va_up m3 162 (fun _ => (0 : Int32))) 162 0 (-1)) 162 1 (-1)) 162 2 (-1)) 162 3 (-1)) 162 0 = -1 ∧ (up2 (up2 (up2 (up2 (va_up m3 162 (fun _ => (0 : Int32))) 162 0 (-1)) 162 1 (-1)) 162 2 (-1)) 162 3 (-1)) 162 1 = -1 ∧ (up2 (up2 (up2 (up2 (va_up m3 162 (fun _ => (0 : Int32))) 162 0 (-1)) 162 1 (-1)) 162 2 (-1)) 162 3 (-1)) 162 2 = -1 ∧ (up2 (up2 (up2 (up2 (va_up m3 162 (fun _ => (0 : Int32))) 162 0 (-1)) 162 1 (-1)) 162 2 (-1)) 162 3 (-1)) 162 3 = -1 := by
      refine ⟨?_, ?_, ?_, ?_⟩ <;> simp (decide := true) only [up2_at, and_true, and_false, true_and, if_true, if_false]
    generalize (up2 (up2 (up2 (up2 (va_up m3 162 (fun _ => (0 : Int32))) 162 0 (-1)) 162 1 (-1)) 162 2 (-1)) 162 3 (-1)) = m4 at *
    generalize va_up ml3 162 (fun _ => (0 : Int64)) = ml4 at *
    refine wp_arr (u := ((2, 96, fun _ => none) : AT)) (n := 163) (fun μ => by rw [eX7_init_51, eX7_init_52, eX7_init_54 (by decide)]) (fun _ _ _ _ _ z1 z2 => eX7_init_56 z1 z2) l4 c4 (by omega) ?_
    intro G5 l5 f5 c5 d5
    replace l5 : G5.length = 164 := l5
    have v5 : ∀ b, b ≠ 163 → va_up m4 163 (fun _ => (0 : Int32)) b = m4 b ∧ va_up ml4 163 (fun _ => (0 : Int64)) b = ml4 b := fun b hb => ⟨va_n hb, va_n hb⟩
    have s5 : va_up m4 163 (fun _ => (0 : Int32)) 163 = (fun _ => 0) ∧ va_up ml4 163 (fun _ => (0 : Int64)) 163 = (fun _ => 0) := ⟨va_s, va_s⟩
    generalize va_up m4 163 (fun _ => (0 : Int32)) = m5 at *
    generalize va_up ml4 163 (fun _ => (0 : Int64)) = ml5 at *
    rw [eX7_init_59, eX7_init_60, eX7_init_61 (by decide), mNew_e]
    show Wp mX7_init 63 _ [.ref G5.length, .ref 158] _ Q
    obtain ⟨a6, b6, e6⟩ := new_len (u := ((0, 5, fun _ => none) : AT)) l5
    rw [l5]
    have g6 := atg_of e6
    have x6 : aln (G5 ++ [((0, 5, fun _ => none) : AT)]) 164 = 5 := aln_of e6
    have y6 : (G5 ++ [((0, 5, fun _ => none) : AT)])[158]? = _ := (b6 158 (by omega)).trans c5
    generalize hH6 : G5 ++ [((0, 5, fun _ => none) : AT)] = H6 at *
    simp only [] at g6
    simp (maxSteps := 1000000) (decide := true) (disch := (first | assumption | omega | exact Nat.div_mul_le_self _ _ | exact ni_nz (by omega) (by omega) | exact rfl | exact retOk_bI _ | exact retOk_0 | exact retOk_1)) only [eX7_init_63, eX7_init_64, eX7_init_65, eX7_init_66, eX7_init_67, eX7_init_68, eX7_init_69, eX7_init_70, eX7_init_71, eX7_init_72, eX7_init_73, eX7_init_74, eX7_init_75, eX7_init_76, eX7_init_77, eX7_init_78, eX7_init_79, eX7_init_80, eX7_init_81, eX7_init_82, WpR_some, Option.toList_some, Option.toList_none, List.cons_append, List.nil_append, List.append_nil, clr_n, clr_i, clr_a, ni_add, ni_mul, ni_sub, ni_lt, ni_le, ni_eq, ni_div, nat_mod_eq, ni_rem, iMax_nn, iMin_nn, iMax_sub, Nat.zero_max, bI_0, bI_1, bI_n0, up2_s, up2_n, up2_k, va_up_self, va_up_ne, ni_l, lN_mul, lN_add, ln_mask, lN_i, ↓reduceIte, if_true, if_false, not_true_eq_false, not_false_eq_true, ite_self, Nat.add_zero, Nat.zero_add, ent_def]
    rw [eX7_init_83 y6 rfl]
    obtain ⟨l6, t6, c6⟩ := set_p (n := 165) (a := 158) (x := (17, w, va_up _ 7 (some 164))) a6 (by omega)
    have f6 : ∀ i, i ≠ 158 → i < 164 → (H6.set 158 _)[i]? = G5[i]? := fun i z1 z2 => (t6 i z1).trans (b6 i z2)
    have d6 := (t6 164 (by omega)).trans e6
    generalize H6.set 158 _ = G6 at *
    have v6 : ∀ b, b ≠ 164 → (up2 (up2 (up2 (up2 (up2 (va_up m5 164 (fun _ => (0 : Int32))) 164 0 (nI 0)) 164 1 (nI 1)) 164 2 (nI 2)) 164 3 (nI 3)) 164 4 (nI 4)) b = m5 b ∧ va_up ml5 164 (fun _ => (0 : Int64)) b = ml5 b := fun b hb => ⟨by simp only [up2_n hb, va_n hb], va_n hb⟩
    have s6 : (up2 (up2 (up2 (up2 (up2 (va_up m5 164 (fun _ => (0 : Int32))) 164 0 (nI 0)) 164 1 (nI 1)) 164 2 (nI 2)) 164 3 (nI 3)) 164 4 (nI 4)) 164 0 = nI 0 ∧ (up2 (up2 (up2 (up2 (up2 (va_up m5 164 (fun _ => (0 : Int32))) 164 0 (nI 0)) 164 1 (nI 1)) 164 2 (nI 2)) 164 3 (nI 3)) 164 4 (nI 4)) 164 1 = nI 1 ∧ (up2 (up2 (up2 (up2 (up2 (va_up m5 164 (fun _ => (0 : Int32))) 164 0 (nI 0)) 164 1 (nI 1)) 164 2 (nI 2)) 164 3 (nI 3)) 164 4 (nI 4)) 164 2 = nI 2 ∧ (up2 (up2 (up2 (up2 (up2 (va_up m5 164 (fun _ => (0 : Int32))) 164 0 (nI 0)) 164 1 (nI 1)) 164 2 (nI 2)) 164 3 (nI 3)) 164 4 (nI 4)) 164 3 = nI 3 ∧ (up2 (up2 (up2 (up2 (up2 (va_up m5 164 (fun _ => (0 : Int32))) 164 0 (nI 0)) 164 1 (nI 1)) 164 2 (nI 2)) 164 3 (nI 3)) 164 4 (nI 4)) 164 4 = nI 4 := by
      refine ⟨?_, ?_, ?_, ?_, ?_⟩ <;> simp (decide := true) only [up2_at, and_true, and_false, true_and, if_true, if_false]
    generalize (up2 (up2 (up2 (up2 (up2 (va_up m5 164 (fun _ => (0 : Int32))) 164 0 (nI 0)) 164 1 (nI 1)) 164 2 (nI 2)) 164 3 (nI 3)) 164 4 (nI 4)) = m6 at *
    generalize va_up ml5 164 (fun _ => (0 : Int64)) = ml6 at *
    rw [eX7_init_86, eX7_init_87, eX7_init_89 (atg_of c6)]
    have v7 : ∀ b, b ≠ 158 → up2 m6 158 8 (-4) b = m6 b := fun b hb => up2_n hb
    have s7 : up2 m6 158 8 (-4) 158 8 = -4 := up2_s
    have t7 : ∀ k, k ≠ 8 → up2 m6 158 8 (-4) 158 k = m6 158 k := fun k hk => up2_k hk
    generalize up2 m6 158 8 (-4) = m7 at *
    refine wp_arr (u := ((0, 5, fun _ => none) : AT)) (n := 165) (fun μ => by rw [eX7_init_92, eX7_init_93, eX7_init_94 (by decide)]) (fun _ _ _ _ _ z1 z2 => eX7_init_96 z1 z2) l6 c6 (by omega) ?_
    intro G8 l8 f8 c8 d8
    replace l8 : G8.length = 166 := l8
    have v8 : ∀ b, b ≠ 165 → va_up m7 165 (fun _ => (0 : Int32)) b = m7 b ∧ va_up ml6 165 (fun _ => (0 : Int64)) b = ml6 b := fun b hb => ⟨va_n hb, va_n hb⟩
    have s8 : va_up m7 165 (fun _ => (0 : Int32)) 165 = (fun _ => 0) ∧ va_up ml6 165 (fun _ => (0 : Int64)) 165 = (fun _ => 0) := ⟨va_s, va_s⟩
    generalize va_up m7 165 (fun _ => (0 : Int32)) = m8 at *
    generalize va_up ml6 165 (fun _ => (0 : Int64)) = ml8 at *
    refine wp_arr (u := ((0, 5, fun _ => none) : AT)) (n := 166) (fun μ => by rw [eX7_init_99, eX7_init_100, eX7_init_101 (by decide)]) (fun _ _ _ _ _ z1 z2 => eX7_init_103 z1 z2) l8 c8 (by omega) ?_
    intro G9 l9 f9 c9 d9
    replace l9 : G9.length = 167 := l9
    have v9 : ∀ b, b ≠ 166 → va_up m8 166 (fun _ => (0 : Int32)) b = m8 b ∧ va_up ml8 166 (fun _ => (0 : Int64)) b = ml8 b := fun b hb => ⟨va_n hb, va_n hb⟩
    have s9 : va_up m8 166 (fun _ => (0 : Int32)) 166 = (fun _ => 0) ∧ va_up ml8 166 (fun _ => (0 : Int64)) 166 = (fun _ => 0) := ⟨va_s, va_s⟩
    generalize va_up m8 166 (fun _ => (0 : Int32)) = m9 at *
    generalize va_up ml8 166 (fun _ => (0 : Int64)) = ml9 at *
    refine wp_arr (u := ((0, 5, fun _ => none) : AT)) (n := 167) (fun μ => by rw [eX7_init_106, eX7_init_107, eX7_init_108 (by decide)]) (fun _ _ _ _ _ z1 z2 => eX7_init_110 z1 z2) l9 c9 (by omega) ?_
    intro G10 l10 f10 c10 d10
    replace l10 : G10.length = 168 := l10
    have v10 : ∀ b, b ≠ 167 → va_up m9 167 (fun _ => (0 : Int32)) b = m9 b ∧ va_up ml9 167 (fun _ => (0 : Int64)) b = ml9 b := fun b hb => ⟨va_n hb, va_n hb⟩
    have s10 : va_up m9 167 (fun _ => (0 : Int32)) 167 = (fun _ => 0) ∧ va_up ml9 167 (fun _ => (0 : Int64)) 167 = (fun _ => 0) := ⟨va_s, va_s⟩
    generalize va_up m9 167 (fun _ => (0 : Int32)) = m10 at *
    generalize va_up ml9 167 (fun _ => (0 : Int64)) = ml10 at *
    refine wp_arr (u := ((0, 5, fun _ => none) : AT)) (n := 168) (fun μ => by rw [eX7_init_113, eX7_init_114, eX7_init_115 (by decide)]) (fun _ _ _ _ _ z1 z2 => eX7_init_117 z1 z2) l10 c10 (by omega) ?_
    intro G11 l11 f11 c11 d11
    replace l11 : G11.length = 169 := l11
    have v11 : ∀ b, b ≠ 168 → va_up m10 168 (fun _ => (0 : Int32)) b = m10 b ∧ va_up ml10 168 (fun _ => (0 : Int64)) b = ml10 b := fun b hb => ⟨va_n hb, va_n hb⟩
    have s11 : va_up m10 168 (fun _ => (0 : Int32)) 168 = (fun _ => 0) ∧ va_up ml10 168 (fun _ => (0 : Int64)) 168 = (fun _ => 0) := ⟨va_s, va_s⟩
    generalize va_up m10 168 (fun _ => (0 : Int32)) = m11 at *
    generalize va_up ml10 168 (fun _ => (0 : Int64)) = ml11 at *
    refine wp_arr (u := ((0, 5, fun _ => none) : AT)) (n := 169) (fun μ => by rw [eX7_init_120, eX7_init_121, eX7_init_122 (by decide)]) (fun _ _ _ _ _ z1 z2 => eX7_init_124 z1 z2) l11 c11 (by omega) ?_
    intro G12 l12 f12 c12 d12
    replace l12 : G12.length = 170 := l12
    have v12 : ∀ b, b ≠ 169 → va_up m11 169 (fun _ => (0 : Int32)) b = m11 b ∧ va_up ml11 169 (fun _ => (0 : Int64)) b = ml11 b := fun b hb => ⟨va_n hb, va_n hb⟩
    have s12 : va_up m11 169 (fun _ => (0 : Int32)) 169 = (fun _ => 0) ∧ va_up ml11 169 (fun _ => (0 : Int64)) 169 = (fun _ => 0) := ⟨va_s, va_s⟩
    generalize va_up m11 169 (fun _ => (0 : Int32)) = m12 at *
    generalize va_up ml11 169 (fun _ => (0 : Int64)) = ml12 at *
    refine wp_arr (u := ((2, 24, fun _ => none) : AT)) (n := 170) (fun μ => by rw [eX7_init_127, eX7_init_128, eX7_init_130 (by decide)]) (fun _ _ _ _ _ z1 z2 => eX7_init_132 z1 z2) l12 c12 (by omega) ?_
    intro G13 l13 f13 c13 d13
    replace l13 : G13.length = 171 := l13
    have v13 : ∀ b, b ≠ 170 → va_up m12 170 (fun _ => (0 : Int32)) b = m12 b ∧ va_up ml12 170 (fun _ => (0 : Int64)) b = ml12 b := fun b hb => ⟨va_n hb, va_n hb⟩
    have s13 : va_up m12 170 (fun _ => (0 : Int32)) 170 = (fun _ => 0) ∧ va_up ml12 170 (fun _ => (0 : Int64)) 170 = (fun _ => 0) := ⟨va_s, va_s⟩
    generalize va_up m12 170 (fun _ => (0 : Int32)) = m13 at *
    generalize va_up ml12 170 (fun _ => (0 : Int64)) = ml13 at *
    have g0 := atg_of c13
    have i159 := show G13[159]? = some _ from by rw [f13 _ (by omega) (by omega), f12 _ (by omega) (by omega), f11 _ (by omega) (by omega), f10 _ (by omega) (by omega), f9 _ (by omega) (by omega), f8 _ (by omega) (by omega), f6 _ (by omega) (by omega), f5 _ (by omega) (by omega), f4 _ (by omega) (by omega), f3 _ (by omega) (by omega), f2 _ (by omega) (by omega)]; exact d1
    have i160 := show G13[160]? = some _ from by rw [f13 _ (by omega) (by omega), f12 _ (by omega) (by omega), f11 _ (by omega) (by omega), f10 _ (by omega) (by omega), f9 _ (by omega) (by omega), f8 _ (by omega) (by omega), f6 _ (by omega) (by omega), f5 _ (by omega) (by omega), f4 _ (by omega) (by omega), f3 _ (by omega) (by omega)]; exact d2
    have i161 := show G13[161]? = some _ from by rw [f13 _ (by omega) (by omega), f12 _ (by omega) (by omega), f11 _ (by omega) (by omega), f10 _ (by omega) (by omega), f9 _ (by omega) (by omega), f8 _ (by omega) (by omega), f6 _ (by omega) (by omega), f5 _ (by omega) (by omega), f4 _ (by omega) (by omega)]; exact d3
    have i162 := show G13[162]? = some _ from by rw [f13 _ (by omega) (by omega), f12 _ (by omega) (by omega), f11 _ (by omega) (by omega), f10 _ (by omega) (by omega), f9 _ (by omega) (by omega), f8 _ (by omega) (by omega), f6 _ (by omega) (by omega), f5 _ (by omega) (by omega)]; exact d4
    have i163 := show G13[163]? = some _ from by rw [f13 _ (by omega) (by omega), f12 _ (by omega) (by omega), f11 _ (by omega) (by omega), f10 _ (by omega) (by omega), f9 _ (by omega) (by omega), f8 _ (by omega) (by omega), f6 _ (by omega) (by omega)]; exact d5
    have i164 := show G13[164]? = some _ from by rw [f13 _ (by omega) (by omega), f12 _ (by omega) (by omega), f11 _ (by omega) (by omega), f10 _ (by omega) (by omega), f9 _ (by omega) (by omega), f8 _ (by omega) (by omega)]; exact d6
    have i165 := show G13[165]? = some _ from by rw [f13 _ (by omega) (by omega), f12 _ (by omega) (by omega), f11 _ (by omega) (by omega), f10 _ (by omega) (by omega), f9 _ (by omega) (by omega)]; exact d8
    have i166 := show G13[166]? = some _ from by rw [f13 _ (by omega) (by omega), f12 _ (by omega) (by omega), f11 _ (by omega) (by omega), f10 _ (by omega) (by omega)]; exact d9
    have i167 := show G13[167]? = some _ from by rw [f13 _ (by omega) (by omega), f12 _ (by omega) (by omega), f11 _ (by omega) (by omega)]; exact d10
    have i168 := show G13[168]? = some _ from by rw [f13 _ (by omega) (by omega), f12 _ (by omega) (by omega)]; exact d11
    have i169 := show G13[169]? = some _ from by rw [f13 _ (by omega) (by omega)]; exact d12
    have i170 := show G13[170]? = some _ from d13
    have k0 : ∀ i, i < 158 → G13[i]? = G[i]? := fun i hi => by rw [f13 _ (by omega) (by omega), f12 _ (by omega) (by omega), f11 _ (by omega) (by omega), f10 _ (by omega) (by omega), f9 _ (by omega) (by omega), f8 _ (by omega) (by omega), f6 _ (by omega) (by omega), f5 _ (by omega) (by omega), f4 _ (by omega) (by omega), f3 _ (by omega) (by omega), f2 _ (by omega) (by omega), f1 _ (by omega) (by omega)]
    have j159 : m13 159 = (fun _ => 0) := by rw [(v13 _ (by omega)).1, (v12 _ (by omega)).1, (v11 _ (by omega)).1, (v10 _ (by omega)).1, (v9 _ (by omega)).1, (v8 _ (by omega)).1, v7 _ (by omega), (v6 _ (by omega)).1, (v5 _ (by omega)).1, (v4 _ (by omega)).1, (v3 _ (by omega)).1, (v2 _ (by omega)).1]; exact s1.1
    have J159 : ml13 159 = (fun _ => 0) := by rw [(v13 _ (by omega)).2, (v12 _ (by omega)).2, (v11 _ (by omega)).2, (v10 _ (by omega)).2, (v9 _ (by omega)).2, (v8 _ (by omega)).2, (v6 _ (by omega)).2, (v5 _ (by omega)).2, (v4 _ (by omega)).2, (v3 _ (by omega)).2, (v2 _ (by omega)).2]; exact s1.2
    have j160 : m13 160 = (fun _ => 0) := by rw [(v13 _ (by omega)).1, (v12 _ (by omega)).1, (v11 _ (by omega)).1, (v10 _ (by omega)).1, (v9 _ (by omega)).1, (v8 _ (by omega)).1, v7 _ (by omega), (v6 _ (by omega)).1, (v5 _ (by omega)).1, (v4 _ (by omega)).1, (v3 _ (by omega)).1]; exact s2.1
    have J160 : ml13 160 = (fun _ => 0) := by rw [(v13 _ (by omega)).2, (v12 _ (by omega)).2, (v11 _ (by omega)).2, (v10 _ (by omega)).2, (v9 _ (by omega)).2, (v8 _ (by omega)).2, (v6 _ (by omega)).2, (v5 _ (by omega)).2, (v4 _ (by omega)).2, (v3 _ (by omega)).2]; exact s2.2
    have j161 : m13 161 = (fun _ => 0) := by rw [(v13 _ (by omega)).1, (v12 _ (by omega)).1, (v11 _ (by omega)).1, (v10 _ (by omega)).1, (v9 _ (by omega)).1, (v8 _ (by omega)).1, v7 _ (by omega), (v6 _ (by omega)).1, (v5 _ (by omega)).1, (v4 _ (by omega)).1]; exact s3.1
    have J161 : ml13 161 = (fun _ => 0) := by rw [(v13 _ (by omega)).2, (v12 _ (by omega)).2, (v11 _ (by omega)).2, (v10 _ (by omega)).2, (v9 _ (by omega)).2, (v8 _ (by omega)).2, (v6 _ (by omega)).2, (v5 _ (by omega)).2, (v4 _ (by omega)).2]; exact s3.2
    have j162 : m13 162 0 = -1 ∧ m13 162 1 = -1 ∧ m13 162 2 = -1 ∧ m13 162 3 = -1 := by rw [(v13 _ (by omega)).1, (v12 _ (by omega)).1, (v11 _ (by omega)).1, (v10 _ (by omega)).1, (v9 _ (by omega)).1, (v8 _ (by omega)).1, v7 _ (by omega), (v6 _ (by omega)).1, (v5 _ (by omega)).1]; exact s4
    have j163 : m13 163 = (fun _ => 0) := by rw [(v13 _ (by omega)).1, (v12 _ (by omega)).1, (v11 _ (by omega)).1, (v10 _ (by omega)).1, (v9 _ (by omega)).1, (v8 _ (by omega)).1, v7 _ (by omega), (v6 _ (by omega)).1]; exact s5.1
    have J163 : ml13 163 = (fun _ => 0) := by rw [(v13 _ (by omega)).2, (v12 _ (by omega)).2, (v11 _ (by omega)).2, (v10 _ (by omega)).2, (v9 _ (by omega)).2, (v8 _ (by omega)).2, (v6 _ (by omega)).2]; exact s5.2
    have j164 : m13 164 0 = nI 0 ∧ m13 164 1 = nI 1 ∧ m13 164 2 = nI 2 ∧ m13 164 3 = nI 3 ∧ m13 164 4 = nI 4 := by rw [(v13 _ (by omega)).1, (v12 _ (by omega)).1, (v11 _ (by omega)).1, (v10 _ (by omega)).1, (v9 _ (by omega)).1, (v8 _ (by omega)).1, v7 _ (by omega)]; exact s6
    have j165 : m13 165 = (fun _ => 0) := by rw [(v13 _ (by omega)).1, (v12 _ (by omega)).1, (v11 _ (by omega)).1, (v10 _ (by omega)).1, (v9 _ (by omega)).1]; exact s8.1
    have J165 : ml13 165 = (fun _ => 0) := by rw [(v13 _ (by omega)).2, (v12 _ (by omega)).2, (v11 _ (by omega)).2, (v10 _ (by omega)).2, (v9 _ (by omega)).2]; exact s8.2
    have j166 : m13 166 = (fun _ => 0) := by rw [(v13 _ (by omega)).1, (v12 _ (by omega)).1, (v11 _ (by omega)).1, (v10 _ (by omega)).1]; exact s9.1
    have J166 : ml13 166 = (fun _ => 0) := by rw [(v13 _ (by omega)).2, (v12 _ (by omega)).2, (v11 _ (by omega)).2, (v10 _ (by omega)).2]; exact s9.2
    have j167 : m13 167 = (fun _ => 0) := by rw [(v13 _ (by omega)).1, (v12 _ (by omega)).1, (v11 _ (by omega)).1]; exact s10.1
    have J167 : ml13 167 = (fun _ => 0) := by rw [(v13 _ (by omega)).2, (v12 _ (by omega)).2, (v11 _ (by omega)).2]; exact s10.2
    have j168 : m13 168 = (fun _ => 0) := by rw [(v13 _ (by omega)).1, (v12 _ (by omega)).1]; exact s11.1
    have J168 : ml13 168 = (fun _ => 0) := by rw [(v13 _ (by omega)).2, (v12 _ (by omega)).2]; exact s11.2
    have j169 : m13 169 = (fun _ => 0) := by rw [(v13 _ (by omega)).1]; exact s12.1
    have J169 : ml13 169 = (fun _ => 0) := by rw [(v13 _ (by omega)).2]; exact s12.2
    have j170 : m13 170 = (fun _ => 0) := s13.1
    have J170 : ml13 170 = (fun _ => 0) := s13.2
    have j8 : m13 158 8 = -4 := by rw [(v13 158 (by omega)).1, (v12 158 (by omega)).1, (v11 158 (by omega)).1, (v10 158 (by omega)).1, (v9 158 (by omega)).1, (v8 158 (by omega)).1]; exact s7
    have jk : ∀ k, k ≠ 8 → m13 158 k = 0 := fun k hk => by rw [(v13 158 (by omega)).1, (v12 158 (by omega)).1, (v11 158 (by omega)).1, (v10 158 (by omega)).1, (v9 158 (by omega)).1, (v8 158 (by omega)).1, t7 k hk, (v6 158 (by omega)).1, (v5 158 (by omega)).1, (v4 158 (by omega)).1, (v3 158 (by omega)).1, (v2 158 (by omega)).1, (v1 158 (by omega)).1, hz]
    have w0 : ∀ b, b < 158 → m13 b = m b ∧ ml13 b = ml b := fun b hb => ⟨by rw [(v13 _ (by omega)).1, (v12 _ (by omega)).1, (v11 _ (by omega)).1, (v10 _ (by omega)).1, (v9 _ (by omega)).1, (v8 _ (by omega)).1, v7 _ (by omega), (v6 _ (by omega)).1, (v5 _ (by omega)).1, (v4 _ (by omega)).1, (v3 _ (by omega)).1, (v2 _ (by omega)).1, (v1 _ (by omega)).1], by rw [(v13 _ (by omega)).2, (v12 _ (by omega)).2, (v11 _ (by omega)).2, (v10 _ (by omega)).2, (v9 _ (by omega)).2, (v8 _ (by omega)).2, (v6 _ (by omega)).2, (v5 _ (by omega)).2, (v4 _ (by omega)).2, (v3 _ (by omega)).2, (v2 _ (by omega)).2, (v1 _ (by omega)).2]⟩
    have r0 : rfn G13 158 0 = 159 := by rw [rfn_of c13]; simp [va_up]
    have a159 := atg_of i159
    have n159 : aln G13 159 = 874 := aln_of i159
    simp only [] at g0 a159
    simp (maxSteps := 1000000) (decide := true) (disch := (first | assumption | omega | exact Nat.div_mul_le_self _ _ | exact ni_nz (by omega) (by omega) | exact rfl | exact retOk_bI _ | exact retOk_0 | exact retOk_1)) only [eX7_init_135, eX7_init_136, eX7_init_139, eX7_init_141, eX7_init_142, eX7_init_143, eX7_init_144, eX7_init_147, eX7_init_149, eX7_init_150, eX7_init_151, r0, WpR_some, Option.toList_some, Option.toList_none, List.cons_append, List.nil_append, List.append_nil, clr_n, clr_i, clr_a, ni_add, ni_mul, ni_sub, ni_lt, ni_le, ni_eq, ni_div, nat_mod_eq, ni_rem, iMax_nn, iMin_nn, iMax_sub, Nat.zero_max, bI_0, bI_1, bI_n0, up2_s, up2_n, up2_k, va_up_self, va_up_ne, ni_l, lN_mul, lN_add, ln_mask, lN_i, ↓reduceIte, if_true, if_false, not_true_eq_false, not_false_eq_true, ite_self, Nat.add_zero, Nat.zero_add, ent_def]
    rw [← hQ]
    have u0 : ∀ b, b ≠ 159 → up2 (up2 m13 159 41 (nI 1)) 159 43 (nI 1) b = m13 b := fun b hb => by rw [up2_n hb, up2_n hb]
    have u1 : ∀ k, up2 (up2 m13 159 41 (nI 1)) 159 43 (nI 1) 159 k = nI (ls0 1 k) := by
      intro k
      unfold ls0
      by_cases k1 : k = 43
      · subst k1; rw [up2_s]; rfl
      rw [up2_k k1]
      by_cases k2 : k = 41
      · subst k2; rw [up2_s]; rfl
      rw [up2_k k2, j159, if_neg k2, if_neg k1]; rfl
    generalize up2 (up2 m13 159 41 (nI 1)) 159 43 (nI 1) = M at *
    have M158 : ∀ k, k ≠ 8 → M 158 k = nI 0 := fun k hk => by rw [u0 158 (by omega), jk k hk]; rfl
    refine ⟨G13, M, ml13, rfl, rfl, l13, k0, fun b hb => ⟨by rw [u0 b (by omega)]; exact (w0 b hb).1, (w0 b hb).2⟩, ⟨⟨g0, r0, ?_, ?_, ?_, ?_, ?_, ?_, ?_, ?_, ?_, ?_, ?_⟩, ⟨a159, atg_of i160, atg_of i161, atg_of i162, atg_of i163, atg_of i164, atg_of i165, atg_of i166, atg_of i167, atg_of i168, atg_of i169, atg_of i170⟩, n159, aln_of i160, aln_of i161, aln_of i162, aln_of i163, aln_of i164, aln_of i165, aln_of i166, aln_of i167, aln_of i168, aln_of i169, aln_of i170⟩, RA_k0 (fun k hk => by rw [Nat.zero_add]; exact u1 k) (u1 56), ⟨M158 1 (by omega), fun z => by cases z⟩, ⟨M158 3 (by omega), Nat.zero_le _, fun j hj => absurd hj (Nat.not_lt_zero _)⟩, fun s hs => ⟨fun z => (by cases z), fun _ => ?_, fun j hj => ?_⟩, fun k hk => ⟨?_, hk⟩, by rw [u0 158 (by omega)]; exact j8, M158 9 (by omega), 0, 0, M158 19 (by omega), M158 20 (by omega)⟩
    · rw [rfn_of c13]; simp [va_up]
    · rw [rfn_of c13]; simp [va_up]
    · rw [rfn_of c13]; simp [va_up]
    · rw [rfn_of c13]; simp [va_up]
    · rw [rfn_of c13]; simp [va_up]
    · rw [rfn_of c13]; simp [va_up]
    · rw [rfn_of c13]; simp [va_up]
    · rw [rfn_of c13]; simp [va_up]
    · rw [rfn_of c13]; simp [va_up]
    · rw [rfn_of c13]; simp [va_up]
    · rw [rfn_of c13]; simp [va_up]
    · rw [u0 162 (by omega)]
      have : s = 0 ∨ s = 1 ∨ s = 2 ∨ s = 3 := by omega
      rcases this with rfl | rfl | rfl | rfl
      · exact j162.1
      · exact j162.2.1
      · exact j162.2.2.1
      · exact j162.2.2.2
    · rw [J163]
    · rw [u0 164 (by omega)]
      have : k = 0 ∨ k = 1 ∨ k = 2 ∨ k = 3 ∨ k = 4 := by omega
      rcases this with rfl | rfl | rfl | rfl | rfl
      · exact j164.1
      · exact j164.2.1
      · exact j164.2.2.1
      · exact j164.2.2.2.1
      · exact j164.2.2.2.2
  obtain ⟨rr, μ', e1, G', m', ml', rfl, rfl, h2⟩ := res_ex key
  exact ⟨G', m', ml', e1, h2⟩
end CT7
