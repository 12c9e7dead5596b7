section STA
variable {G G' : List AT} {m m' : Nat → Nat → Int32} {ml ml' : Nat → Nat → Int64} {L n1 d : Nat} {r0 r1 : Nat → Option Nat}
theorem GW_fr (h : GW G) (hf : ∀ i, i < 158 → G'[i]? = G[i]?) : GW G' := by
  have ra : ∀ a, a < 158 → atg G' a = atg G a := fun a ha => atg_fr (hf a ha)
  have rl : ∀ a, a < 158 → aln G' a = aln G a := fun a ha => aln_fr (hf a ha)
  have rr : ∀ a k, a < 158 → rfn G' a k = rfn G a k := fun a k ha => rfn_fr (hf a ha)
  obtain ⟨h1, ⟨h2, h3, h4, h5, h6⟩, h7, ⟨h8, h9, h10⟩, h11, h12, h13⟩ := h
  refine ⟨?_, ⟨Sh_fr h2 (fun i z1 z2 => hf i (by omega)), Pa_fr h3 (fun i z1 z2 => hf i (by omega)), Sh_fr h4 (fun i z1 z2 => hf i (by omega)), Pa_fr h5 (fun i z1 z2 => hf i (by omega)), Sh_fr h6 (fun i z1 z2 => hf i (by omega))⟩, ?_, ⟨by rw [ra 135 (by omega)]; exact h8, by rw [rl 135 (by omega)]; exact h9, fun s hs => ?_⟩, ?_, ?_, ?_⟩
  · simp only [ra 2 (by decide), rr 2 _ (by decide)]; exact h1
  · simp only [ra 133 (by decide), rr 133 _ (by decide), ra 134 (by decide), rl 134 (by decide)]; exact h7
  · have := h10 s hs
    rw [rr 135 s (by omega), ra (136 + 2 * s) (by omega), rr (136 + 2 * s) 2 (by omega), ra (137 + 2 * s) (by omega), rl (137 + 2 * s) (by omega)]
    exact this
  · rw [ra 151 (by omega), ra 152 (by omega)]; exact h11
  · simp only [ra 153 (by decide), rr 153 _ (by decide), ra 154 (by decide), rl 154 (by decide), ra 155 (by decide), rr 155 _ (by decide), ra 156 (by decide), rl 156 (by decide)]; exact h12
  · rw [ra 157 (by omega), rl 157 (by omega)]; exact h13
theorem Ok_ls0 (h : d < 2147483648) : Ok (ls0 d) := by
  have hz := ZH_0 (d := d)
  exact ZA_Ok ⟨ZT_0, hz.1, hz.2.1, by rw [hz.2.2.1]; omega, hz.2.2.2.1, hz.2.2.2.2.1, hz.2.2.2.2.2.1, hz.2.2.2.2.2.2.1, hz.2.2.2.2.2.2.2⟩ h
theorem Sh_sz {a i : Nat} (h : Sh G a) (h1 : a ≤ i) (h2 : i ≤ a + 6) (hz : atg G i < 10) : aln G i ≤ 874 := by
  obtain ⟨q0, -, -, k1, k2, k3, k4, k5, k6⟩ := h
  have : i = a ∨ i = a + 1 ∨ i = a + 2 ∨ i = a + 3 ∨ i = a + 4 ∨ i = a + 5 ∨ i = a + 6 := by omega
  rcases this with rfl | rfl | rfl | rfl | rfl | rfl | rfl
  · omega
  · omega
  · omega
  · omega
  · omega
  · omega
  · omega
theorem Pa_sz {a i : Nat} (h : Pa G a) (h1 : a ≤ i) (h2 : i ≤ a + 57) (hz : atg G i < 10) : aln G i ≤ 874 := by
  obtain ⟨p1, p2, p3, p4, p5⟩ := h
  by_cases c0 : i = a
  · subst c0; omega
  by_cases c1 : i = a + 1
  · subst c1; omega
  exact Sh_sz (p5 ((i - a - 2) / 7) (by omega)).2 (by omega) (by omega) hz
theorem GWM_sz {i : Nat} (hW : GW G) (hM : GM G) (h1 : 2 ≤ i) (h2 : i < 171) (hz : atg G i < 10) : aln G i ≤ 874 := by
  obtain ⟨⟨g0, -⟩, ⟨s3, p10, s68, p75, s144⟩, ⟨t0, t1, t2, t3⟩, ⟨r1, r2, r3⟩, ⟨u1, u2⟩, ⟨o1, o2, o3, o4, o5, o6, o7, o8⟩, w1, w2⟩ := hW
  obtain ⟨⟨x0, -⟩, -, ⟨l0, l1, l2, l3, l4, l5, l6, l7, l8, l9, l10, l11⟩⟩ := hM
  by_cases c1 : i < 3
  · have : i = 2 := by omega
    subst this; omega
  by_cases c2 : i < 10
  · exact Sh_sz s3 (by omega) (by omega) hz
  by_cases c3 : i < 68
  · exact Pa_sz p10 (by omega) (by omega) hz
  by_cases c4 : i < 75
  · exact Sh_sz s68 (by omega) (by omega) hz
  by_cases c5 : i < 133
  · exact Pa_sz p75 (by omega) (by omega) hz
  by_cases c6 : i < 136
  · have : i = 133 ∨ i = 134 ∨ i = 135 := by omega
    rcases this with rfl | rfl | rfl <;> omega
  by_cases c7 : i < 144
  · obtain ⟨y1, y2, y3, y4, y5⟩ := r3 ((i - 136) / 2) (by omega)
    by_cases c8 : i = 136 + 2 * ((i - 136) / 2)
    · rw [← c8] at y2; omega
    · have c9 : i = 137 + 2 * ((i - 136) / 2) := by omega
      rw [← c9] at y5; omega
  by_cases c8 : i < 151
  · exact Sh_sz s144 (by omega) (by omega) hz
  by_cases c9 : i < 158
  · have : i = 151 ∨ i = 152 ∨ i = 153 ∨ i = 154 ∨ i = 155 ∨ i = 156 ∨ i = 157 := by omega
    rcases this with rfl | rfl | rfl | rfl | rfl | rfl | rfl <;> omega
  have : i = 158 ∨ i = 159 ∨ i = 160 ∨ i = 161 ∨ i = 162 ∨ i = 163 ∨ i = 164 ∨ i = 165 ∨ i = 166 ∨ i = 167 ∨ i = 168 ∨ i = 169 ∨ i = 170 := by omega
  rcases this with rfl | rfl | rfl | rfl | rfl | rfl | rfl | rfl | rfl | rfl | rfl | rfl | rfl <;> omega
theorem nF_le (c : Nat) : nF c ≤ 4096 := by
  unfold nF
  split <;> decide
theorem sum_le : ∀ (l : List AT), (∀ t ∈ l, szT t ≤ 4096) → (l.map szT).sum ≤ l.length * 4096
  | [], _ => by simp
  | t :: l, h => by
    have h1 := h t List.mem_cons_self
    have h2 := sum_le l (fun x hx => h x (List.mem_cons_of_mem _ hx))
    rw [List.map_cons, List.sum_cons, List.length_cons]
    omega
theorem slt_le (hl : G.length = 171) (h : ∀ i, i < 171 → atg G i < 10 → aln G i ≤ 4096) : slt (G, m, ml) ≤ 700416 := by
  have := sum_le G (fun t ht => by
    obtain ⟨i, hi⟩ := List.mem_iff_getElem?.mp ht
    have hlt : i < G.length := by
      rcases Nat.lt_or_ge i G.length with z | z
      · exact z
      · rw [List.getElem?_eq_none z] at hi; cases hi
    unfold szT
    by_cases hz : t.1 < 10
    · rw [if_pos hz]
      have := h i (by omega)
      rw [atg_of hi, aln_of hi] at this
      exact this hz
    · rw [if_neg hz]; exact nF_le _)
  show (G.map szT).sum ≤ _
  rw [hl] at this
  omega
/-- THE LAW answers true, whatever the script -/
theorem lw_all (hL : L ≤ 4096) (hn1 : n1 ≤ 4096) : Wp mL_law 0 (ent [.ref 0] 4) [] ([(5, L, r0), (6, n1, r1)], m, ml) (fun r μ' => r = some (.int (nI 1)) ∧ μ'.1.length = 171 ∧ slt μ' ≤ 700416) := by
  show Wp mL_law 0 [some (.ref 0), none, none, none] [] ([(5, L, r0), (6, n1, r1)], m, ml) _
  generalize hQ : (fun (r : Option Value) (μ' : Mm) => r = some (.int (nI 1)) ∧ μ'.1.length = 171 ∧ slt μ' ≤ 700416) = Q
  rw [eL_law_0, mNew_e]
  show Wp mL_law 3 _ [.ref 2] _ Q
  have hl : ([(5, L, r0), (6, n1, r1)] : List AT).length = 2 := rfl
  obtain ⟨n1', n2', n3'⟩ := new_len (u := (16, 0, fun _ => none)) hl
  obtain ⟨G1, m1, ml1, e1, q1, q2, q3, q4, q5, q6, q7, q8⟩ := i_X6 (m := va_up m 2 (fun _ => 0)) (ml := va_up ml 2 (fun _ => 0)) n1' n3' va_s
  rw [eL_law_3, eL_law_4 (atg_of n3')]
  show WpR (res mX6_init [.ref 2] (([(5, L, r0), (6, n1, r1)] : List AT) ++ [(16, 0, fun _ => none)], va_up m 2 (fun _ => 0), va_up ml 2 (fun _ => 0))) _
  rw [e1, WpR_some]
  show Wp mL_law 7 _ [.ref 2] _ Q
  rw [eL_law_7, eL_law_8, mNew_e]
  show Wp mL_law 11 _ [.ref G1.length] _ Q
  obtain ⟨p1, p2, p3⟩ := new_len (u := (17, 0, fun _ => none)) q1
  rw [q1]
  obtain ⟨G2, m2, ml2, e2, s1, s2, s3, s4, s5⟩ := i_X7 (m := va_up m1 158 (fun _ => 0)) (ml := va_up ml1 158 (fun _ => 0)) p1 p3 va_s
  rw [eL_law_11, eL_law_12 (atg_of p3), e2, WpR_some]
  show Wp mL_law 15 _ [.ref 158] _ Q
  simp (maxSteps := 1000000) (decide := true) (disch := (first | assumption | omega | exact Nat.div_mul_le_self _ _ | exact ni_nz (by omega) (by omega) | exact rfl | exact retOk_bI _ | exact retOk_0 | exact retOk_1)) only [eL_law_15, eL_law_16, eL_law_17, WpR_some, Option.toList_some, Option.toList_none, List.cons_append, List.nil_append, List.append_nil, clr_n, clr_i, clr_a, ni_add, ni_mul, ni_sub, ni_lt, ni_le, ni_eq, ni_div, nat_mod_eq, ni_rem, iMax_nn, iMin_nn, iMax_sub, Nat.zero_max, bI_0, bI_1, bI_n0, up2_s, up2_n, up2_k, va_up_self, va_up_ne, ni_l, lN_mul, lN_add, ln_mask, lN_i, ↓reduceIte, if_true, if_false, not_true_eq_false, not_false_eq_true, ite_self, Nat.add_zero, Nat.zero_add, ent_def]
  have fr : ∀ i, i < 158 → G2[i]? = G1[i]? := fun i hi => by rw [s2 i hi, p2 i hi]
  have c0 : G2[0]? = some (5, L, r0) := by rw [fr 0 (by omega), q2 0 (by omega)]; rfl
  have W2 := GW_fr q4 fr
  have mf : ∀ b, b < 158 → m2 b = m1 b ∧ ml2 b = ml1 b := fun b hb => ⟨by rw [(s3 b hb).1, va_n (by omega)], by rw [(s3 b hb).2, va_n (by omega)]⟩
  have I2 : INV m2 ml2 := ⟨_, _, _, _, _, _, _, _, _, _, _, _, _, CI_fr (m := m1) (ml := ml1) ⟨q5, q6, q7, q8⟩ (fun b hb => (mf b (by omega)).1) (fun b hb => (mf b (by omega)).2), s5, IA_0 (Ok_ls0 (by decide)), fun z => by cases z⟩
  have hn : aln G2 0 = L := aln_of c0
  refine lw_loop (i := 0) (n := L + 1) W2 s4 I2 (atg_of c0) (by omega) (by omega) (by omega) ?_
  intro m3 ml3
  rw [← hQ]
  have c1 : G2[1]? = some (6, n1, r1) := by rw [fr 1 (by omega), q2 1 (by omega)]; rfl
  refine ⟨rfl, s1, slt_le s1 (fun i hi => ?_)⟩
  by_cases h0 : i = 0
  · subst h0; rw [atg_of c0, aln_of c0]; exact fun _ => hL
  by_cases h1 : i = 1
  · subst h1; rw [atg_of c1, aln_of c1]; exact fun _ => hn1
  exact fun z => Nat.le_trans (GWM_sz W2 s4 (by omega) hi z) (by decide)
end STA
