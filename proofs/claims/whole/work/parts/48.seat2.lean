def stH (σ : Nat → Nat) (n i : Nat) : Nat := hP (pm (σ 44) i) σ n
def stL (σ : Nat → Nat) (n i : Nat) : Nat := lP (pm (σ 44) i) σ n
def stB (σ : Nat → Nat) (n : Nat) : Nat := bst (stH σ n) (stL σ n) (pcn (σ 44))
/-- what seating answers -/
def stA (σ : Nat → Nat) (n : Nat) (w r : Int32) : Prop := (w = -1 ∧ r = nI (stH σ n (stB σ n))) ∨ (∃ k, w = nI k ∧ k < σ 44 ∧ r = nI (pm (σ 44) (stB σ n) k)) ∨ (∃ k, w = nI k ∧ σ 44 ≤ k ∧ k < 2147483648 ∧ r = -4)
section SE2
variable {G : List AT} {m : Nat → Nat → Int32} {ml : Nat → Nat → Int64} {a n s h t x y z k l p q g B T i j ke kl : Nat} {σ ρ π : Nat → Nat} {v w r : Int32} {f : Nat → Nat → Nat}
theorem pm_inj (hT : T ≤ 5) (hi : i < pcn T) : Inj (pm T i) T := ⟨fun k hk => (pm_all hT hi (show k < 5 by omega)).2.2.1 hk, fun k j hk hj e => (pm_all hT hi (show k < 5 by omega)).2.2.2.2 j (by omega) e⟩
theorem pm_5 (hT : T ≤ 5) (hi : i < pcn T) : ∀ j, j < 5 → pm T i j < 5 := fun j hj => (pm_all hT hi hj).2.1
theorem st_le (hB : Bd σ) (hi : i < pcn (σ 44)) : stH σ n i ≤ 5 * n ∧ stL σ n i ≤ 5 * n := hP_le n (fun k => by
  rw [itP_fix (by omega) hB.1 hB.2.1 (pm_5 hB.1 hi)]
  exact hB.2.1)
theorem r_X6_findSeating (hG : GW G) (hC : CA m σ k f) (hO : Ok σ) (h1 : 1 ≤ n) (h2 : n ≤ 20) : ∃ m', res mX6_findSeating [.ref 2, .int (nI n)] (G, m, ml) = some (none, (G, m', ml)) ∧ TlV m' 152 (stH σ n (stB σ n)) (stL σ n (stB σ n)) ∧ OV m' 156 (pm (σ 44) (stB σ n)) (σ 44) ∧ FT m m' := by
  have b1 := hO.1.1
  have b2 := hO.1.2.1
  have hpc := pcn_le b1
  have hG0 := hG
  obtain ⟨⟨g0, g1, g2, g3, g4, g5, g6, g7, g8, g9, g10, g11, g12⟩, ⟨s3, p10, s68, p75, s144⟩, -, -, ⟨t1, t2⟩, ⟨o1, o2, o3, o4, o5, o6, o7, o8⟩, -⟩ := hG
  have s1 := s144.1
  have s0 := s3.1
  have v0 := (ShV_old hC.1).1.1
  obtain ⟨m1, e1, V1, S1, F1⟩ := r_X0_begin (m := m) (ml := ml) o1 o2 o3 o4 b1
  have key : Wp mX6_findSeating 0 (ent [.ref 2, .int (nI n)] 3) [] (G, m, ml) (fun r μ' => ∃ m', r = none ∧ μ' = (G, m', ml) ∧ TlV m' 152 (stH σ n (stB σ n)) (stL σ n (stB σ n)) ∧ OV m' 156 (pm (σ 44) (stB σ n)) (σ 44) ∧ FT m m') := by
    show Wp mX6_findSeating 0 [some (.ref 2), some (.int (nI n)), none] [] (G, m, ml) _
    generalize hQ : (fun (r : Option Value) (μ' : Mm) => ∃ m', r = none ∧ μ' = (G, m', ml) ∧ TlV m' 152 (stH σ n (stB σ n)) (stL σ n (stB σ n)) ∧ OV m' 156 (pm (σ 44) (stB σ n)) (σ 44) ∧ FT m m') = Q
    simp (maxSteps := 1000000) (decide := true) (disch := (first | assumption | omega | exact Nat.div_mul_le_self _ _ | exact ni_nz (by omega) (by omega) | exact rfl | exact retOk_bI _ | exact retOk_0 | exact retOk_1)) only [eX6_findSeating_0, eX6_findSeating_1, eX6_findSeating_4, eX6_findSeating_5, eX6_findSeating_8, eX6_findSeating_11, eX6_findSeating_14, eX6_findSeating_15, g1, g10, v0, e1, WpR_some, Option.toList_some, Option.toList_none, List.cons_append, List.nil_append, List.append_nil, clr_n, clr_i, clr_a, ni_add, ni_mul, ni_sub, ni_lt, ni_le, ni_eq, ni_div, nat_mod_eq, ni_rem, iMax_nn, iMin_nn, iMax_sub, Nat.zero_max, bI_0, bI_1, bI_n0, up2_s, up2_n, up2_k, va_up_self, va_up_ne, ni_l, lN_mul, lN_add, ln_mask, lN_i, ↓reduceIte, if_true, if_false, not_true_eq_false, not_false_eq_true, ite_self, Nat.add_zero, Nat.zero_add, ent_def]
    refine wp_for (X := Unit) (fun i _ => [some (.ref 2), some (.int (nI n)), some (.int (nI i))]) (fun i _ μ => ∃ m2, μ = (G, m2, ml) ∧ i < pcn (σ 44) ∧ OV m2 154 (pm (σ 44) i) (σ 44) ∧ m2 153 1 = nI (σ 44) ∧ (0 < i → TlV m2 152 (stH σ n (bst (stH σ n) (stL σ n) i)) (stL σ n (bst (stH σ n) (stL σ n) i)) ∧ OV m2 156 (pm (σ 44) (bst (stH σ n) (stL σ n) i)) (σ 44)) ∧ FT m m2) 120 ?_ ?_ 0 () _ (Nat.zero_le _) ⟨m1, rfl, hpc.1, V1, S1, fun h => absurd h (Nat.lt_irrefl _), fun b hb => F1 b (by omega) (by omega)⟩
    · rintro i - μ hi ⟨m2, rfl, hic, V2, S2, T2, F2⟩ kk
      have hlt : ¬ 120 ≤ i := by omega
      have V2' : ShV m2 3 σ := ShV_fr hC.1 (fun b h1 h2 => F2 b (by omega))
      obtain ⟨m3, e3, V3, F3⟩ := r_X3_become (m := m2) (ml := ml) s144 s3 (by omega)
      have O3 : OV m3 154 (pm (σ 44) i) (σ 44) := fun k hk => by rw [F3 154 (by omega)]; exact V2 k hk
      obtain ⟨m4, τ, e4, V4, P4, B4, F4⟩ := r_X3_seatBy (ml := ml) (ke := n) (kl := 5 * n) hG0 (V3 σ V2') (ShV_fr V2' (fun b h1 h2 => F3 b (by omega))) O3 (pm_inj b1 hic) (Bk_mono (Ok_Bk hO) (by omega) (by omega))
      obtain ⟨m5, e5, T5, F5⟩ := r_X6_tryEvenings (ml := ml) (n := n) hG0 V4 B4 (by omega)
      have hit := PR_it P4 (pm_inj b1 hic) (pm_5 b1 hic) b1 b2 n
      rw [hit.2.1, hit.2.2] at T5
      have T5' : TlV m5 151 (stH σ n i) (stL σ n i) := T5
      have l1 := st_le (n := n) hO.1 hic
      have O5 : OV m5 154 (pm (σ 44) i) (σ 44) := fun k hk => by rw [F5 154 (by omega), F4 154 (by omega)]; exact O3 k hk
      have S5 : m5 153 1 = nI (σ 44) := by rw [F5 153 (by omega), F4 153 (by omega), F3 153 (by omega)]; exact S2
      have F6 : FT m m5 := fun b hb => by rw [F5 b (by omega), F4 b (by omega), F3 b (by omega)]; exact F2 b hb
      have fin : ∀ m6 : Nat → Nat → Int32, OV m6 154 (pm (σ 44) i) (σ 44) → m6 153 1 = nI (σ 44) → TlV m6 152 (stH σ n (bst (stH σ n) (stL σ n) (i + 1))) (stL σ n (bst (stH σ n) (stL σ n) (i + 1))) → OV m6 156 (pm (σ 44) (bst (stH σ n) (stL σ n) (i + 1))) (σ 44) → FT m m6 → Wp mX6_findSeating 93 ([some (.ref 2), some (.int (nI n)), some (.int (nI i))]) [] (G, m6, ml) Q := by
        intro m6 O6 S6 T6 O6' F6
        obtain ⟨m7, e7, A7, F7⟩ := r_X0_advance (ml := ml) (a := 153) o1 o2 o3 o4 O6 b1 S6
        have T7 : TlV m7 152 (stH σ n (bst (stH σ n) (stL σ n) (i + 1))) (stL σ n (bst (stH σ n) (stL σ n) (i + 1))) := ⟨by rw [F7 152 (by omega)]; exact T6.1, by rw [F7 152 (by omega)]; exact T6.2⟩
        have O7 : OV m7 156 (pm (σ 44) (bst (stH σ n) (stL σ n) (i + 1))) (σ 44) := fun k hk => by rw [F7 156 (by omega)]; exact O6' k hk
        have F8 : FT m m7 := fun b hb => by rw [F7 b (by omega)]; exact F6 b hb
        have hp := (pm_all (k := 0) b1 hic (by omega)).1
        by_cases hc : i + 1 < pcn (σ 44)
        · rw [if_pos hc] at hp
          rw [decide_eq_true hp.1] at e7
          have e8 := kk () _ ⟨m7, rfl, hc, fun k hk => by
            have := A7 hp.1 k hk
            have hp2 := (pm_all (k := k) b1 hic (by omega)).1
            rw [if_pos hc] at hp2
            rw [hp2.2] at this
            exact this, by rw [F7 153 (by omega)]; exact S6, fun _ => ⟨T7, O7⟩, F8⟩
          simp (maxSteps := 1000000) (decide := true) (disch := (first | assumption | omega | exact Nat.div_mul_le_self _ _ | exact ni_nz (by omega) (by omega) | exact rfl | exact retOk_bI _ | exact retOk_0 | exact retOk_1)) only [eX6_findSeating_93, eX6_findSeating_94, eX6_findSeating_97, eX6_findSeating_100, eX6_findSeating_103, eX6_findSeating_104, eX6_findSeating_107, eX6_findSeating_110, g10, e7, WpR_some, Option.toList_some, Option.toList_none, List.cons_append, List.nil_append, List.append_nil, clr_n, clr_i, clr_a, ni_add, ni_mul, ni_sub, ni_lt, ni_le, ni_eq, ni_div, nat_mod_eq, ni_rem, iMax_nn, iMin_nn, iMax_sub, Nat.zero_max, bI_0, bI_1, bI_n0, up2_s, up2_n, up2_k, va_up_self, va_up_ne, ni_l, lN_mul, lN_add, ln_mask, lN_i, ↓reduceIte, if_true, if_false, not_true_eq_false, not_false_eq_true, ite_self, Nat.add_zero, Nat.zero_add, ent_def]
          exact e8
        · rw [if_neg hc] at hp
          rw [decide_eq_false (by omega)] at e7
          simp (maxSteps := 1000000) (decide := true) (disch := (first | assumption | omega | exact Nat.div_mul_le_self _ _ | exact ni_nz (by omega) (by omega) | exact rfl | exact retOk_bI _ | exact retOk_0 | exact retOk_1)) only [eX6_findSeating_93, eX6_findSeating_94, eX6_findSeating_97, eX6_findSeating_100, eX6_findSeating_103, eX6_findSeating_104, eX6_findSeating_107, eX6_findSeating_110, g10, e7, WpR_some, Option.toList_some, Option.toList_none, List.cons_append, List.nil_append, List.append_nil, clr_n, clr_i, clr_a, ni_add, ni_mul, ni_sub, ni_lt, ni_le, ni_eq, ni_div, nat_mod_eq, ni_rem, iMax_nn, iMin_nn, iMax_sub, Nat.zero_max, bI_0, bI_1, bI_n0, up2_s, up2_n, up2_k, va_up_self, va_up_ne, ni_l, lN_mul, lN_add, ln_mask, lN_i, ↓reduceIte, if_true, if_false, not_true_eq_false, not_false_eq_true, ite_self, Nat.add_zero, Nat.zero_add, ent_def]
          rw [← hQ]
          have hb : stB σ n = bst (stH σ n) (stL σ n) (i + 1) := by unfold stB; rw [show pcn (σ 44) = i + 1 by omega]
          rw [hb]
          exact ⟨m7, rfl, rfl, T7, O7, F8⟩
      have eb := r_X4_become (m := m5) (ml := ml) (b := 152) (c := 151) t2 t1
      have Tb := TlV_become (o := 152) T5' (by decide)
      obtain ⟨m8, e8, O8, F8⟩ := r_X0_become (m := up2 (up2 m5 152 0 (m5 151 0)) 152 1 (up2 m5 152 0 (m5 151 0) 151 1)) (ml := ml) (T := σ 44) (π := pm (σ 44) i) hG0 (fun k hk => by rw [up2_n (by decide), up2_n (by decide)]; exact O5 k hk) b1
      have f1 : ∀ hz : i = bst (stH σ n) (stL σ n) (i + 1), Wp mX6_findSeating 93 ([some (.ref 2), some (.int (nI n)), some (.int (nI i))]) [] (G, m8, ml) Q := fun hz => by
        refine fin m8 (fun k hk => by rw [F8 154 (by omega) (by omega), up2_n (by decide), up2_n (by decide)]; exact O5 k hk) (by rw [F8 153 (by omega) (by omega), up2_n (by decide), up2_n (by decide)]; exact S5) ?_ ?_ (fun b hb => by rw [F8 b (by omega) (by omega), up2_n (by omega), up2_n (by omega)]; exact F6 b hb)
        · rw [← hz]; exact ⟨by rw [F8 152 (by omega) (by omega)]; exact Tb.1, by rw [F8 152 (by omega) (by omega)]; exact Tb.2⟩
        · rw [← hz]; exact O8
      have n151 : up2 m5 152 0 (m5 151 0) 151 = m5 151 := up2_n (by decide)
      rw [n151] at eb e8
      rw [eX6_findSeating_16]
      by_cases h0 : i = 0
      · subst h0
        have f1 := f1 rfl
        simp (maxSteps := 1000000) (decide := true) (disch := (first | assumption | omega | exact Nat.div_mul_le_self _ _ | exact ni_nz (by omega) (by omega) | exact rfl | exact retOk_bI _ | exact retOk_0 | exact retOk_1)) only [eX6_findSeating_17, eX6_findSeating_19, eX6_findSeating_22, eX6_findSeating_23, eX6_findSeating_26, eX6_findSeating_27, eX6_findSeating_30, eX6_findSeating_33, eX6_findSeating_34, eX6_findSeating_37, eX6_findSeating_38, eX6_findSeating_41, eX6_findSeating_42, eX6_findSeating_45, eX6_findSeating_48, eX6_findSeating_49, eX6_findSeating_50, eX6_findSeating_53, eX6_findSeating_54, eX6_findSeating_57, eX6_findSeating_58, eX6_findSeating_61, eX6_findSeating_62, eX6_findSeating_65, eX6_findSeating_68, eX6_findSeating_71, eX6_findSeating_72, eX6_findSeating_75, eX6_findSeating_76, eX6_findSeating_79, eX6_findSeating_82, eX6_findSeating_83, eX6_findSeating_86, eX6_findSeating_87, eX6_findSeating_90, g1, g7, g8, g9, g10, g11, e3, e4, e5, eb, e8, n151, WpR_some, Option.toList_some, Option.toList_none, List.cons_append, List.nil_append, List.append_nil, clr_n, clr_i, clr_a, ni_add, ni_mul, ni_sub, ni_lt, ni_le, ni_eq, ni_div, nat_mod_eq, ni_rem, iMax_nn, iMin_nn, iMax_sub, Nat.zero_max, bI_0, bI_1, bI_n0, up2_s, up2_n, up2_k, va_up_self, va_up_ne, ni_l, lN_mul, lN_add, ln_mask, lN_i, ↓reduceIte, if_true, if_false, not_true_eq_false, not_false_eq_true, ite_self, Nat.add_zero, Nat.zero_add, ent_def]
        exact f1
      · obtain ⟨T2a, T2b⟩ := T2 (by omega)
        have T6 : TlV m5 152 (stH σ n (bst (stH σ n) (stL σ n) i)) (stL σ n (bst (stH σ n) (stL σ n) i)) := ⟨by rw [F5 152 (by omega), F4 152 (by omega), F3 152 (by omega)]; exact T2a.1, by rw [F5 152 (by omega), F4 152 (by omega), F3 152 (by omega)]; exact T2a.2⟩
        have hb5 := bst_lt (H := stH σ n) (L := stL σ n) i (by omega)
        have l2 := st_le (n := n) hO.1 (show bst (stH σ n) (stL σ n) i < pcn (σ 44) by omega)
        have ebt := r_X4_beats (m := m5) (ml := ml) t1 t2 T5' T6 (by omega) (by omega) (by omega) (by omega)
        by_cases c : stH σ n (bst (stH σ n) (stL σ n) i) < stH σ n i ∨ stH σ n i = stH σ n (bst (stH σ n) (stL σ n) i) ∧ stL σ n i < stL σ n (bst (stH σ n) (stL σ n) i)
        · have f1 := f1 (bst_t (Or.inr c))
          rw [decide_eq_true c] at ebt
          simp (maxSteps := 1000000) (decide := true) (disch := (first | assumption | omega | exact Nat.div_mul_le_self _ _ | exact ni_nz (by omega) (by omega) | exact rfl | exact retOk_bI _ | exact retOk_0 | exact retOk_1)) only [eX6_findSeating_17, eX6_findSeating_19, eX6_findSeating_22, eX6_findSeating_23, eX6_findSeating_26, eX6_findSeating_27, eX6_findSeating_30, eX6_findSeating_33, eX6_findSeating_34, eX6_findSeating_37, eX6_findSeating_38, eX6_findSeating_41, eX6_findSeating_42, eX6_findSeating_45, eX6_findSeating_48, eX6_findSeating_49, eX6_findSeating_50, eX6_findSeating_53, eX6_findSeating_54, eX6_findSeating_57, eX6_findSeating_58, eX6_findSeating_61, eX6_findSeating_62, eX6_findSeating_65, eX6_findSeating_68, eX6_findSeating_71, eX6_findSeating_72, eX6_findSeating_75, eX6_findSeating_76, eX6_findSeating_79, eX6_findSeating_82, eX6_findSeating_83, eX6_findSeating_86, eX6_findSeating_87, eX6_findSeating_90, g1, g7, g8, g9, g10, g11, e3, e4, e5, eb, e8, ebt, hlt, h0, n151, WpR_some, Option.toList_some, Option.toList_none, List.cons_append, List.nil_append, List.append_nil, clr_n, clr_i, clr_a, ni_add, ni_mul, ni_sub, ni_lt, ni_le, ni_eq, ni_div, nat_mod_eq, ni_rem, iMax_nn, iMin_nn, iMax_sub, Nat.zero_max, bI_0, bI_1, bI_n0, up2_s, up2_n, up2_k, va_up_self, va_up_ne, ni_l, lN_mul, lN_add, ln_mask, lN_i, ↓reduceIte, if_true, if_false, not_true_eq_false, not_false_eq_true, ite_self, Nat.add_zero, Nat.zero_add, ent_def]
          exact f1
        · have hbf : bst (stH σ n) (stL σ n) i = bst (stH σ n) (stL σ n) (i + 1) := bst_f (by omega)
          have f1 := fin m5 O5 S5 (by rw [← hbf]; exact T6) (by
            rw [← hbf]
            intro k hk
            rw [F5 156 (by omega), F4 156 (by omega), F3 156 (by omega)]
            exact T2b k hk) F6
          rw [decide_eq_false c] at ebt
          simp (maxSteps := 1000000) (decide := true) (disch := (first | assumption | omega | exact Nat.div_mul_le_self _ _ | exact ni_nz (by omega) (by omega) | exact rfl | exact retOk_bI _ | exact retOk_0 | exact retOk_1)) only [eX6_findSeating_17, eX6_findSeating_19, eX6_findSeating_22, eX6_findSeating_23, eX6_findSeating_26, eX6_findSeating_27, eX6_findSeating_30, eX6_findSeating_33, eX6_findSeating_34, eX6_findSeating_37, eX6_findSeating_38, eX6_findSeating_41, eX6_findSeating_42, eX6_findSeating_45, eX6_findSeating_48, eX6_findSeating_49, eX6_findSeating_50, eX6_findSeating_53, eX6_findSeating_54, eX6_findSeating_57, eX6_findSeating_58, eX6_findSeating_61, eX6_findSeating_62, eX6_findSeating_65, eX6_findSeating_68, eX6_findSeating_71, eX6_findSeating_72, eX6_findSeating_75, eX6_findSeating_76, eX6_findSeating_79, eX6_findSeating_82, eX6_findSeating_83, eX6_findSeating_86, eX6_findSeating_87, eX6_findSeating_90, g1, g7, g8, g9, g10, g11, e3, e4, e5, ebt, hlt, h0, WpR_some, Option.toList_some, Option.toList_none, List.cons_append, List.nil_append, List.append_nil, clr_n, clr_i, clr_a, ni_add, ni_mul, ni_sub, ni_lt, ni_le, ni_eq, ni_div, nat_mod_eq, ni_rem, iMax_nn, iMin_nn, iMax_sub, Nat.zero_max, bI_0, bI_1, bI_n0, up2_s, up2_n, up2_k, va_up_self, va_up_ne, ni_l, lN_mul, lN_add, ln_mask, lN_i, ↓reduceIte, if_true, if_false, not_true_eq_false, not_false_eq_true, ite_self, Nat.add_zero, Nat.zero_add, ent_def]
          exact f1
    · rintro - μ ⟨m2, rfl, hic, -⟩
      omega
  obtain ⟨r, μ', e1, m', rfl, rfl, h2⟩ := res_ex key
  exact ⟨m', e1, h2⟩
theorem c_seating_bad (h : (rg v 1 20 && decide ((-1 : Int32) ≤ w)) = false) : res mX6_seating [.ref 2, .int v, .int w] (G, m, ml) = some (some (.int (-1)), (G, m, ml)) := by
  apply res_of
  show Wp mX6_seating 0 [some (.ref 2), some (.int v), some (.int w)] [] (G, m, ml) _
  cases h1 : rg v 1 20
  · simp (maxSteps := 1000000) (decide := true) (disch := (first | assumption | omega | exact Nat.div_mul_le_self _ _ | exact ni_nz (by omega) (by omega) | exact rfl | exact retOk_bI _ | exact retOk_0 | exact retOk_1)) only [eX6_seating_0, eX6_seating_1, eX6_seating_2, eX6_seating_4, eX6_seating_7, eX6_seating_10, eX6_seating_11, eX6_seating_12, eX6_seating_15, eX6_seating_16, eX6_seating_17, eX6_seating_18, eX6_seating_19, eX6_seating_22, eX6_seating_25, eX6_seating_28, eX6_seating_30, eX6_seating_31, eX6_seating_32, eX6_seating_33, eX6_seating_36, eX6_seating_37, eX6_seating_40, eX6_seating_41, eX6_seating_44, eX6_seating_47, eX6_seating_50, eX6_seating_51, eX6_seating_54, eX6_seating_57, eX6_seating_58, eX6_seating_59, r_X6_wi, h1, WpR_some, Option.toList_some, Option.toList_none, List.cons_append, List.nil_append, List.append_nil, clr_n, clr_i, clr_a, ni_add, ni_mul, ni_sub, ni_lt, ni_le, ni_eq, ni_div, nat_mod_eq, ni_rem, iMax_nn, iMin_nn, iMax_sub, Nat.zero_max, bI_0, bI_1, bI_n0, up2_s, up2_n, up2_k, va_up_self, va_up_ne, ni_l, lN_mul, lN_add, ln_mask, lN_i, ↓reduceIte, if_true, if_false, not_true_eq_false, not_false_eq_true, ite_self, Nat.add_zero, Nat.zero_add, ent_def]
  · rw [h1, Bool.true_and, decide_eq_false_iff_not] at h
    simp (maxSteps := 1000000) (decide := true) (disch := (first | assumption | omega | exact Nat.div_mul_le_self _ _ | exact ni_nz (by omega) (by omega) | exact rfl | exact retOk_bI _ | exact retOk_0 | exact retOk_1)) only [eX6_seating_0, eX6_seating_1, eX6_seating_2, eX6_seating_4, eX6_seating_7, eX6_seating_10, eX6_seating_11, eX6_seating_12, eX6_seating_15, eX6_seating_16, eX6_seating_17, eX6_seating_18, eX6_seating_19, eX6_seating_22, eX6_seating_25, eX6_seating_28, eX6_seating_30, eX6_seating_31, eX6_seating_32, eX6_seating_33, eX6_seating_36, eX6_seating_37, eX6_seating_40, eX6_seating_41, eX6_seating_44, eX6_seating_47, eX6_seating_50, eX6_seating_51, eX6_seating_54, eX6_seating_57, eX6_seating_58, eX6_seating_59, r_X6_wi, h1, h, WpR_some, Option.toList_some, Option.toList_none, List.cons_append, List.nil_append, List.append_nil, clr_n, clr_i, clr_a, ni_add, ni_mul, ni_sub, ni_lt, ni_le, ni_eq, ni_div, nat_mod_eq, ni_rem, iMax_nn, iMin_nn, iMax_sub, Nat.zero_max, bI_0, bI_1, bI_n0, up2_s, up2_n, up2_k, va_up_self, va_up_ne, ni_l, lN_mul, lN_add, ln_mask, lN_i, ↓reduceIte, if_true, if_false, not_true_eq_false, not_false_eq_true, ite_self, Nat.add_zero, Nat.zero_add, ent_def]
theorem c_seating (hG : GW G) (hC : CA m σ k f) (hO : Ok σ) (h1 : 1 ≤ n) (h2 : n ≤ 20) (hA : stA σ n w r) : ∃ m', res mX6_seating [.ref 2, .int (nI n), .int w] (G, m, ml) = some (some (.int r), (G, m', ml)) ∧ FT m m' := by
  have b1 := hO.1.1
  have hr1 := rg_t (j := n) h1 h2 (by decide)
  have hpc := pcn_le b1
  obtain ⟨m1, e1, T1, O1, F1⟩ := r_X6_findSeating (ml := ml) hG hC hO h1 h2
  obtain ⟨⟨g0, g1, g2, g3, g4, g5, g6, g7, g8, g9, g10, g11, g12⟩, ⟨s3, p10, s68, p75, s144⟩, -, -, ⟨t1, t2⟩, ⟨o1, o2, o3, o4, o5, o6, o7, o8⟩, -⟩ := hG
  have s0 := s3.1
  have v0 := (ShV_old hC.1).1.1
  rcases hA with ⟨rfl, rfl⟩ | ⟨k, rfl, hk, rfl⟩ | ⟨k, rfl, hk, hk2, rfl⟩
  · have q1 := T1.1
    have hlt : ¬ nI (σ 44) ≤ -1 := by
      intro hx
      have := Int32.le_iff_toInt_le.mp hx
      rw [nI_toInt (by omega)] at this
      have h9 : (-1 : Int32).toInt = -1 := by decide
      omega
    have hlt' : (-1 : Int32) < nI (σ 44) := by rw [i_lt]; exact hlt
    refine ⟨m1, ?_, F1⟩
    apply res_of
    show Wp mX6_seating 0 [some (.ref 2), some (.int (nI n)), some (.int (-1))] [] (G, m, ml) _
    simp (maxSteps := 1000000) (decide := true) (disch := (first | assumption | omega | exact Nat.div_mul_le_self _ _ | exact ni_nz (by omega) (by omega) | exact rfl | exact retOk_bI _ | exact retOk_0 | exact retOk_1)) only [eX6_seating_0, eX6_seating_1, eX6_seating_2, eX6_seating_4, eX6_seating_7, eX6_seating_10, eX6_seating_11, eX6_seating_12, eX6_seating_15, eX6_seating_16, eX6_seating_17, eX6_seating_18, eX6_seating_19, eX6_seating_22, eX6_seating_25, eX6_seating_28, eX6_seating_30, eX6_seating_31, eX6_seating_32, eX6_seating_33, eX6_seating_36, eX6_seating_37, eX6_seating_40, eX6_seating_41, eX6_seating_44, eX6_seating_47, eX6_seating_50, eX6_seating_51, eX6_seating_54, eX6_seating_57, eX6_seating_58, eX6_seating_59, r_X6_wi, hr1, g1, g9, v0, hlt, hlt', e1, q1, WpR_some, Option.toList_some, Option.toList_none, List.cons_append, List.nil_append, List.append_nil, clr_n, clr_i, clr_a, ni_add, ni_mul, ni_sub, ni_lt, ni_le, ni_eq, ni_div, nat_mod_eq, ni_rem, iMax_nn, iMin_nn, iMax_sub, Nat.zero_max, bI_0, bI_1, bI_n0, up2_s, up2_n, up2_k, va_up_self, va_up_ne, ni_l, lN_mul, lN_add, ln_mask, lN_i, ↓reduceIte, if_true, if_false, not_true_eq_false, not_false_eq_true, ite_self, Nat.add_zero, Nat.zero_add, ent_def]
  · have q1 := (O1 k hk).1
    have hlt : ¬ σ 44 ≤ k := by omega
    have hm1 : (-1 : Int32) ≤ nI k := by
      apply Int32.le_iff_toInt_le.mpr
      rw [nI_toInt (by omega)]
      have h9 : (-1 : Int32).toInt = -1 := by decide
      omega
    refine ⟨m1, ?_, F1⟩
    apply res_of
    show Wp mX6_seating 0 [some (.ref 2), some (.int (nI n)), some (.int (nI k))] [] (G, m, ml) _
    simp (maxSteps := 1000000) (decide := true) (disch := (first | assumption | omega | exact Nat.div_mul_le_self _ _ | exact ni_nz (by omega) (by omega) | exact rfl | exact retOk_bI _ | exact retOk_0 | exact retOk_1)) only [eX6_seating_0, eX6_seating_1, eX6_seating_2, eX6_seating_4, eX6_seating_7, eX6_seating_10, eX6_seating_11, eX6_seating_12, eX6_seating_15, eX6_seating_16, eX6_seating_17, eX6_seating_18, eX6_seating_19, eX6_seating_22, eX6_seating_25, eX6_seating_28, eX6_seating_30, eX6_seating_31, eX6_seating_32, eX6_seating_33, eX6_seating_36, eX6_seating_37, eX6_seating_40, eX6_seating_41, eX6_seating_44, eX6_seating_47, eX6_seating_50, eX6_seating_51, eX6_seating_54, eX6_seating_57, eX6_seating_58, eX6_seating_59, r_X6_wi, hr1, g1, g11, o6, v0, hm1, hlt, e1, q1, Nat.zero_le, hk, WpR_some, Option.toList_some, Option.toList_none, List.cons_append, List.nil_append, List.append_nil, clr_n, clr_i, clr_a, ni_add, ni_mul, ni_sub, ni_lt, ni_le, ni_eq, ni_div, nat_mod_eq, ni_rem, iMax_nn, iMin_nn, iMax_sub, Nat.zero_max, bI_0, bI_1, bI_n0, up2_s, up2_n, up2_k, va_up_self, va_up_ne, ni_l, lN_mul, lN_add, ln_mask, lN_i, ↓reduceIte, if_true, if_false, not_true_eq_false, not_false_eq_true, ite_self, Nat.add_zero, Nat.zero_add, ent_def]
  · have hm1 : (-1 : Int32) ≤ nI k := by
      apply Int32.le_iff_toInt_le.mpr
      rw [nI_toInt (by omega)]
      have h9 : (-1 : Int32).toInt = -1 := by decide
      omega
    have hlt : ¬ k < σ 44 := by omega
    refine ⟨m, ?_, fun _ _ => rfl⟩
    apply res_of
    show Wp mX6_seating 0 [some (.ref 2), some (.int (nI n)), some (.int (nI k))] [] (G, m, ml) _
    simp (maxSteps := 1000000) (decide := true) (disch := (first | assumption | omega | exact Nat.div_mul_le_self _ _ | exact ni_nz (by omega) (by omega) | exact rfl | exact retOk_bI _ | exact retOk_0 | exact retOk_1)) only [eX6_seating_0, eX6_seating_1, eX6_seating_2, eX6_seating_4, eX6_seating_7, eX6_seating_10, eX6_seating_11, eX6_seating_12, eX6_seating_15, eX6_seating_16, eX6_seating_17, eX6_seating_18, eX6_seating_19, eX6_seating_22, eX6_seating_25, eX6_seating_28, eX6_seating_30, eX6_seating_31, eX6_seating_32, eX6_seating_33, eX6_seating_36, eX6_seating_37, eX6_seating_40, eX6_seating_41, eX6_seating_44, eX6_seating_47, eX6_seating_50, eX6_seating_51, eX6_seating_54, eX6_seating_57, eX6_seating_58, eX6_seating_59, r_X6_wi, hr1, g1, v0, hm1, hk, hlt, WpR_some, Option.toList_some, Option.toList_none, List.cons_append, List.nil_append, List.append_nil, clr_n, clr_i, clr_a, ni_add, ni_mul, ni_sub, ni_lt, ni_le, ni_eq, ni_div, nat_mod_eq, ni_rem, iMax_nn, iMin_nn, iMax_sub, Nat.zero_max, bI_0, bI_1, bI_n0, up2_s, up2_n, up2_k, va_up_self, va_up_ne, ni_l, lN_mul, lN_add, ln_mask, lN_i, ↓reduceIte, if_true, if_false, not_true_eq_false, not_false_eq_true, ite_self, Nat.add_zero, Nat.zero_add, ent_def]
/-! the reference's -/
theorem r_X7_sitPlainly (hG : GM G) : ∃ m', res mX7_sitPlainly [.ref 158] (G, m, ml) = some (none, (G, m', ml)) ∧ OV m' 164 id 5 ∧ (∀ b, b ≠ 164 → m' b = m b) := by
  obtain ⟨⟨g0, g1, g2, g3, g4, g5, g6, -⟩, ⟨a0, a1, a2, a3, a4, a5, -⟩, ⟨l0, l1, l2, l3, l4, l5, -⟩⟩ := hG
  have key : Wp mX7_sitPlainly 0 (ent [.ref 158] 2) [] (G, m, ml) (fun r μ' => ∃ m', r = none ∧ μ' = (G, m', ml) ∧ OV m' 164 id 5 ∧ (∀ b, b ≠ 164 → m' b = m b)) := by
    show Wp mX7_sitPlainly 0 [some (.ref 158), none] [] (G, m, ml) _
    generalize hQ : (fun (r : Option Value) (μ' : Mm) => ∃ m', r = none ∧ μ' = (G, m', ml) ∧ OV m' 164 id 5 ∧ (∀ b, b ≠ 164 → m' b = m b)) = Q
    simp (maxSteps := 1000000) (decide := true) (disch := (first | assumption | omega | exact Nat.div_mul_le_self _ _ | exact ni_nz (by omega) (by omega) | exact rfl | exact retOk_bI _ | exact retOk_0 | exact retOk_1)) only [eX7_sitPlainly_0, eX7_sitPlainly_1, eX7_sitPlainly_3, eX7_sitPlainly_4, eX7_sitPlainly_7, eX7_sitPlainly_8, eX7_sitPlainly_11, eX7_sitPlainly_12, eX7_sitPlainly_13, eX7_sitPlainly_14, eX7_sitPlainly_17, eX7_sitPlainly_20, WpR_some, Option.toList_some, Option.toList_none, List.cons_append, List.nil_append, List.append_nil, clr_n, clr_i, clr_a, ni_add, ni_mul, ni_sub, ni_lt, ni_le, ni_eq, ni_div, nat_mod_eq, ni_rem, iMax_nn, iMin_nn, iMax_sub, Nat.zero_max, bI_0, bI_1, bI_n0, up2_s, up2_n, up2_k, va_up_self, va_up_ne, ni_l, lN_mul, lN_add, ln_mask, lN_i, ↓reduceIte, if_true, if_false, not_true_eq_false, not_false_eq_true, ite_self, Nat.add_zero, Nat.zero_add, ent_def]
    refine wp_for (X := Unit) (fun i _ => [some (.ref 158), some (.int (nI i))]) (fun i _ μ => ∃ m2, μ = (G, m2, ml) ∧ OV m2 164 id i ∧ (∀ b, b ≠ 164 → m2 b = m b)) 5 ?_ ?_ 0 () _ (Nat.zero_le _) ⟨m, rfl, fun k hk => absurd hk (Nat.not_lt_zero _), fun _ _ => rfl⟩
    · rintro i - μ hi ⟨m2, rfl, V2, F2⟩ kk
      have hlt : ¬ 5 ≤ i := by omega
      rw [eX7_sitPlainly_2]
      simp (maxSteps := 1000000) (decide := true) (disch := (first | assumption | omega | exact Nat.div_mul_le_self _ _ | exact ni_nz (by omega) (by omega) | exact rfl | exact retOk_bI _ | exact retOk_0 | exact retOk_1)) only [eX7_sitPlainly_0, eX7_sitPlainly_1, eX7_sitPlainly_3, eX7_sitPlainly_4, eX7_sitPlainly_7, eX7_sitPlainly_8, eX7_sitPlainly_11, eX7_sitPlainly_12, eX7_sitPlainly_13, eX7_sitPlainly_14, eX7_sitPlainly_17, eX7_sitPlainly_20, g6, hlt, WpR_some, Option.toList_some, Option.toList_none, List.cons_append, List.nil_append, List.append_nil, clr_n, clr_i, clr_a, ni_add, ni_mul, ni_sub, ni_lt, ni_le, ni_eq, ni_div, nat_mod_eq, ni_rem, iMax_nn, iMin_nn, iMax_sub, Nat.zero_max, bI_0, bI_1, bI_n0, up2_s, up2_n, up2_k, va_up_self, va_up_ne, ni_l, lN_mul, lN_add, ln_mask, lN_i, ↓reduceIte, if_true, if_false, not_true_eq_false, not_false_eq_true, ite_self, Nat.add_zero, Nat.zero_add, ent_def]
      refine kk () _ ⟨_, rfl, ?_, fun b h2 => by rw [up2_n h2]; exact F2 b h2⟩
      intro k hk
      by_cases hq : k = i
      · rw [hq, up2_s]; exact ⟨rfl, hi⟩
      · rw [up2_k hq]; exact V2 k (by omega)
    · rintro - μ ⟨m2, rfl, V2, F2⟩
      rw [eX7_sitPlainly_2]
      simp (maxSteps := 1000000) (decide := true) (disch := (first | assumption | omega | exact Nat.div_mul_le_self _ _ | exact ni_nz (by omega) (by omega) | exact rfl | exact retOk_bI _ | exact retOk_0 | exact retOk_1)) only [eX7_sitPlainly_0, eX7_sitPlainly_1, eX7_sitPlainly_3, eX7_sitPlainly_4, eX7_sitPlainly_7, eX7_sitPlainly_8, eX7_sitPlainly_11, eX7_sitPlainly_12, eX7_sitPlainly_13, eX7_sitPlainly_14, eX7_sitPlainly_17, eX7_sitPlainly_20, Nat.le_refl, WpR_some, Option.toList_some, Option.toList_none, List.cons_append, List.nil_append, List.append_nil, clr_n, clr_i, clr_a, ni_add, ni_mul, ni_sub, ni_lt, ni_le, ni_eq, ni_div, nat_mod_eq, ni_rem, iMax_nn, iMin_nn, iMax_sub, Nat.zero_max, bI_0, bI_1, bI_n0, up2_s, up2_n, up2_k, va_up_self, va_up_ne, ni_l, lN_mul, lN_add, ln_mask, lN_i, ↓reduceIte, if_true, if_false, not_true_eq_false, not_false_eq_true, ite_self, Nat.add_zero, Nat.zero_add, ent_def]
      rw [← hQ]
      exact ⟨m2, rfl, rfl, V2, F2⟩
  obtain ⟨r, μ', e1, m', rfl, rfl, h2⟩ := res_ex key
  exact ⟨m', e1, h2⟩
theorem x_seating_bad (hG : GM G) (h : (rg v 1 20 && decide ((-1 : Int32) ≤ w)) = false) : res mX7_seating [.ref 158, .int v, .int w] (G, m, ml) = some (some (.int (-1)), (G, m, ml)) := by
  apply res_of
  show Wp mX7_seating 0 [some (.ref 158), some (.int v), some (.int w), none, none, none, none] [] (G, m, ml) _
  cases h1 : rg v 1 20
  · simp (maxSteps := 1000000) (decide := true) (disch := (first | assumption | omega | exact Nat.div_mul_le_self _ _ | exact ni_nz (by omega) (by omega) | exact rfl | exact retOk_bI _ | exact retOk_0 | exact retOk_1)) only [eX7_seating_0, eX7_seating_1, eX7_seating_2, eX7_seating_3, eX7_seating_6, eX7_seating_9, eX7_seating_12, eX7_seating_13, eX7_seating_14, eX7_seating_17, eX7_seating_18, eX7_seating_19, eX7_seating_20, eX7_seating_21, eX7_seating_22, eX7_seating_24, eX7_seating_25, eX7_seating_27, eX7_seating_28, eX7_seating_33, eX7_seating_36, eX7_seating_37, eX7_seating_40, eX7_seating_41, eX7_seating_42, eX7_seating_45, eX7_seating_46, eX7_seating_49, eX7_seating_50, eX7_seating_53, eX7_seating_54, eX7_seating_57, eX7_seating_58, eX7_seating_61, eX7_seating_62, eX7_seating_65, eX7_seating_67, eX7_seating_70, eX7_seating_71, eX7_seating_74, eX7_seating_75, eX7_seating_76, eX7_seating_79, eX7_seating_81, eX7_seating_82, eX7_seating_86, eX7_seating_87, eX7_seating_90, eX7_seating_91, eX7_seating_94, eX7_seating_96, eX7_seating_97, eX7_seating_100, eX7_seating_102, eX7_seating_103, eX7_seating_104, eX7_seating_107, eX7_seating_110, eX7_seating_111, eX7_seating_114, eX7_seating_116, eX7_seating_119, eX7_seating_120, eX7_seating_123, eX7_seating_124, eX7_seating_125, eX7_seating_128, eX7_seating_129, eX7_seating_132, eX7_seating_133, eX7_seating_134, eX7_seating_137, eX7_seating_139, eX7_seating_140, eX7_seating_143, eX7_seating_144, eX7_seating_147, eX7_seating_148, eX7_seating_149, eX7_seating_152, eX7_seating_154, r_in, h1, WpR_some, Option.toList_some, Option.toList_none, List.cons_append, List.nil_append, List.append_nil, clr_n, clr_i, clr_a, ni_add, ni_mul, ni_sub, ni_lt, ni_le, ni_eq, ni_div, nat_mod_eq, ni_rem, iMax_nn, iMin_nn, iMax_sub, Nat.zero_max, bI_0, bI_1, bI_n0, up2_s, up2_n, up2_k, va_up_self, va_up_ne, ni_l, lN_mul, lN_add, ln_mask, lN_i, ↓reduceIte, if_true, if_false, not_true_eq_false, not_false_eq_true, ite_self, Nat.add_zero, Nat.zero_add, ent_def]
  · rw [h1, Bool.true_and, decide_eq_false_iff_not] at h
    simp (maxSteps := 1000000) (decide := true) (disch := (first | assumption | omega | exact Nat.div_mul_le_self _ _ | exact ni_nz (by omega) (by omega) | exact rfl | exact retOk_bI _ | exact retOk_0 | exact retOk_1)) only [eX7_seating_0, eX7_seating_1, eX7_seating_2, eX7_seating_3, eX7_seating_6, eX7_seating_9, eX7_seating_12, eX7_seating_13, eX7_seating_14, eX7_seating_17, eX7_seating_18, eX7_seating_19, eX7_seating_20, eX7_seating_21, eX7_seating_22, eX7_seating_24, eX7_seating_25, eX7_seating_27, eX7_seating_28, eX7_seating_33, eX7_seating_36, eX7_seating_37, eX7_seating_40, eX7_seating_41, eX7_seating_42, eX7_seating_45, eX7_seating_46, eX7_seating_49, eX7_seating_50, eX7_seating_53, eX7_seating_54, eX7_seating_57, eX7_seating_58, eX7_seating_61, eX7_seating_62, eX7_seating_65, eX7_seating_67, eX7_seating_70, eX7_seating_71, eX7_seating_74, eX7_seating_75, eX7_seating_76, eX7_seating_79, eX7_seating_81, eX7_seating_82, eX7_seating_86, eX7_seating_87, eX7_seating_90, eX7_seating_91, eX7_seating_94, eX7_seating_96, eX7_seating_97, eX7_seating_100, eX7_seating_102, eX7_seating_103, eX7_seating_104, eX7_seating_107, eX7_seating_110, eX7_seating_111, eX7_seating_114, eX7_seating_116, eX7_seating_119, eX7_seating_120, eX7_seating_123, eX7_seating_124, eX7_seating_125, eX7_seating_128, eX7_seating_129, eX7_seating_132, eX7_seating_133, eX7_seating_134, eX7_seating_137, eX7_seating_139, eX7_seating_140, eX7_seating_143, eX7_seating_144, eX7_seating_147, eX7_seating_148, eX7_seating_149, eX7_seating_152, eX7_seating_154, r_in, h1, h, WpR_some, Option.toList_some, Option.toList_none, List.cons_append, List.nil_append, List.append_nil, clr_n, clr_i, clr_a, ni_add, ni_mul, ni_sub, ni_lt, ni_le, ni_eq, ni_div, nat_mod_eq, ni_rem, iMax_nn, iMin_nn, iMax_sub, Nat.zero_max, bI_0, bI_1, bI_n0, up2_s, up2_n, up2_k, va_up_self, va_up_ne, ni_l, lN_mul, lN_add, ln_mask, lN_i, ↓reduceIte, if_true, if_false, not_true_eq_false, not_false_eq_true, ite_self, Nat.add_zero, Nat.zero_add, ent_def]
/-- what seating leaves: all but sits, bestSits, what is tried, and the counters -/
def FSt (m m' : Nat → Nat → Int32) : Prop := (∀ b, b ≠ 158 → b ≠ 159 → b ≠ 164 → b ≠ 169 → m' b = m b) ∧ (∀ k, k ≠ 19 → k ≠ 20 → m' 158 k = m 158 k) ∧ (∀ k, k < 818 → m' 159 k = m 159 k)
theorem x_seating (hG : GM G) (hA : RA m 0 σ k f) (hX : RX m) (hO : Ok σ) (h1 : 1 ≤ n) (h2 : n ≤ 20) (hS : stA σ n w r) : ∃ m', res mX7_seating [.ref 158, .int (nI n), .int w] (G, m, ml) = some (some (.int r), (G, m', ml)) ∧ FSt m m' ∧ RX m' := by
  have b1 := hO.1.1
  have b2 := hO.1.2.1
  have hpc := pcn_le b1
  have i1 := fun μ => r_inT (x := n) (lo := 1) (hi := 20) (μ := μ) h1 h2 (by decide)
  have hG0 := hG
  obtain ⟨⟨g0, g1, g2, g3, g4, g5, g6, g7, g8, g9, g10, g11, g12⟩, ⟨a0, a1, a2, a3, a4, a5, a6, a7, a8, a9, a10, a11⟩, ⟨l0, l1, l2, l3, l4, l5, l6, l7, l8, l9, l10, l11⟩⟩ := hG
  obtain ⟨m0, e0, O0, F0⟩ := r_X7_sitPlainly (m := m) (ml := ml) hG0
  have hm1 : (-1 : Int32) ≤ w := by
    apply Int32.le_iff_toInt_le.mpr
    have h9 : (-1 : Int32).toInt = -1 := by decide
    rcases hS with ⟨rfl, -⟩ | ⟨k, rfl, hk, -⟩ | ⟨k, rfl, hk, hk2, -⟩
    · omega
    · rw [nI_toInt (by omega)]; omega
    · rw [nI_toInt (by omega)]; omega
  have key : Wp mX7_seating 0 (ent [.ref 158, .int (nI n), .int w] 7) [] (G, m, ml) (fun r' μ' => ∃ m', r' = some (.int r) ∧ μ' = (G, m', ml) ∧ FSt m m' ∧ RX m') := by
    show Wp mX7_seating 0 [some (.ref 158), some (.int (nI n)), some (.int w), none, none, none, none] [] (G, m, ml) _
    generalize hQ : (fun (r' : Option Value) (μ' : Mm) => ∃ m', r' = some (.int r) ∧ μ' = (G, m', ml) ∧ FSt m m' ∧ RX m') = Q
    simp (maxSteps := 1000000) (decide := true) (disch := (first | assumption | omega | exact Nat.div_mul_le_self _ _ | exact ni_nz (by omega) (by omega) | exact rfl | exact retOk_bI _ | exact retOk_0 | exact retOk_1)) only [eX7_seating_0, eX7_seating_1, eX7_seating_2, eX7_seating_3, eX7_seating_6, eX7_seating_9, eX7_seating_12, eX7_seating_13, eX7_seating_14, eX7_seating_17, eX7_seating_18, eX7_seating_19, eX7_seating_20, eX7_seating_21, eX7_seating_22, eX7_seating_24, eX7_seating_25, eX7_seating_27, eX7_seating_28, i1, hm1, e0, WpR_some, Option.toList_some, Option.toList_none, List.cons_append, List.nil_append, List.append_nil, clr_n, clr_i, clr_a, ni_add, ni_mul, ni_sub, ni_lt, ni_le, ni_eq, ni_div, nat_mod_eq, ni_rem, iMax_nn, iMin_nn, iMax_sub, Nat.zero_max, bI_0, bI_1, bI_n0, up2_s, up2_n, up2_k, va_up_self, va_up_ne, ni_l, lN_mul, lN_add, ln_mask, lN_i, ↓reduceIte, if_true, if_false, not_true_eq_false, not_false_eq_true, ite_self, Nat.add_zero, Nat.zero_add, ent_def]
    have eon : nI 1 = bI (decide (0 < pcn (σ 44))) := by rw [decide_eq_true hpc.1]; rfl
    rw [eon]
    refine wp_for (X := Int32 × Int32 × Option Value) (fun i z => [some (.ref 158), some (.int (nI n)), some (.int w), some (.int z.1), some (.int z.2.1), some (.int (bI (decide (i < pcn (σ 44))))), z.2.2]) (fun i z μ => ∃ m2, μ = (G, m2, ml) ∧ z.1 = (if i = 0 then -1 else nI (stH σ n (bst (stH σ n) (stL σ n) i))) ∧ z.2.1 = (if i = 0 then nI 0 else nI (stL σ n (bst (stH σ n) (stL σ n) i))) ∧ (i < pcn (σ 44) → OV m2 164 (pm (σ 44) i) 5) ∧ (0 < i → ∀ q, q < 5 → m2 169 q = nI (pm (σ 44) (bst (stH σ n) (stL σ n) i) q)) ∧ FSt m m2 ∧ (∃ x y, CnV m2 x y)) (pcn (σ 44)) ?_ ?_ 0 (-1, nI 0, none) _ (Nat.zero_le _) ⟨m0, rfl, rfl, rfl, fun _ k hk => by rw [pm_0 _ (by omega) k hk]; exact O0 k hk, fun h => absurd h (Nat.lt_irrefl _), ⟨fun b _ _ h3 _ => F0 b h3, fun k _ _ => by rw [F0 158 (by decide)], fun k _ => by rw [F0 159 (by decide)]⟩, by
      obtain ⟨x, y, c⟩ := hX.2.2.2
      exact ⟨x, y, by rw [F0 158 (by decide)]; exact c.1, by rw [F0 158 (by decide)]; exact c.2⟩⟩
    · rintro i ⟨z1, z2, z3⟩ μ hi ⟨m2, rfl, hz1, hz2, O2, B2, F2, C2⟩ kk
      simp only at hz1 hz2
      subst hz1
      subst hz2
      have O2 := O2 hi
      have A2 : RA m2 0 σ k f := RA_fr hA (fun j _ hj => F2.2.2 j (by omega))
      obtain ⟨m3, e3, R3, C3, F3⟩ := r_X7_layTried (ml := ml) hG0 A2
      have T3 : TR m3 (pm (σ 44) i) σ := ⟨by rw [F3.2.2 44 (by omega)]; exact RA_at A2 (by decide), by rw [F3.2.2 45 (by omega)]; exact RA_at A2 (by decide), R3, fun k hk => by rw [F3.1 164 (by decide) (by decide)]; exact O2 k hk, by rw [F3.2.1 9 (by decide) (by decide), F2.2.1 9 (by decide) (by decide)]; exact hX.2.2.1, by rw [F3.2.1 8 (by decide) (by decide), F2.2.1 8 (by decide) (by decide)]; exact hX.2.1⟩
      obtain ⟨m4, e4, T4, C4, F4⟩ := r_X7_passTried (n := n) (ml := ml) hG0 T3 C3 (Ok_B5 hO (by omega)) (by omega)
      have q1 : m4 158 19 = nI (stH σ n i) := by rw [C4.1, Nat.zero_add]; rfl
      have q2 : m4 158 20 = nI (stL σ n i) := by rw [C4.2, Nat.zero_add]; rfl
      have F5 : FSt m m4 := ⟨fun b h1 h2 h3 h4 => by rw [F4.1 b h1 h2, F3.1 b h1 h2]; exact F2.1 b h1 h2 h3 h4, fun j h1 h2 => by rw [F4.2.1 j h1 h2, F3.2.1 j h1 h2]; exact F2.2.1 j h1 h2, fun j hj => by rw [F4.2.2 j (by omega), F3.2.2 j (by omega)]; exact F2.2.2 j hj⟩
      have l1' := st_le (n := n) hO.1 hi
      have x44 : m4 159 44 = nI (σ 44) := by rw [F5.2.2 44 (by omega)]; exact RA_at hA (by decide)
      -- behind the comparison
      have fin : ∀ b, b = bst (stH σ n) (stL σ n) (i + 1) → ∀ (m5 : Nat → Nat → Int32) (z3 : Option Value), OV m5 164 (pm (σ 44) i) 5 → m5 159 44 = nI (σ 44) → (∀ q, q < 5 → m5 169 q = nI (pm (σ 44) b q)) → FSt m m5 → (∃ x y, CnV m5 x y) → Wp mX7_seating 110 ([some (.ref 158), some (.int (nI n)), some (.int w), some (.int (nI (stH σ n b))), some (.int (nI (stL σ n b))), some (.int (nI 1)), z3]) [] (G, m5, ml) Q := by
        rintro b rfl m5 z3 O5 x5 B5 F5 ⟨cx, cy, C5⟩
        obtain ⟨m6, e6, A6, F6⟩ := r_X7_nextOrder (ml := ml) hG0 O5 b1 x5
        have hp := (pm_all (k := 0) b1 hi (by omega)).1
        have F7 : FSt m m6 := ⟨fun b h1 h2 h3 h4 => by rw [F6 b h3]; exact F5.1 b h1 h2 h3 h4, fun j h1 h2 => by rw [F6 158 (by decide)]; exact F5.2.1 j h1 h2, fun j hj => by rw [F6 159 (by decide)]; exact F5.2.2 j hj⟩
        have hd : decide (rsr (pm (σ 44) i) (σ 44 - 1) ≠ 0) = decide (i + 1 < pcn (σ 44)) := by
          by_cases hc : i + 1 < pcn (σ 44)
          · rw [if_pos hc] at hp
            rw [decide_eq_true hp.1, decide_eq_true hc]
          · rw [if_neg hc] at hp
            rw [decide_eq_false (by omega), decide_eq_false hc]
        rw [hd] at e6
        have e8 := kk (nI (stH σ n (bst (stH σ n) (stL σ n) (i + 1))), nI (stL σ n (bst (stH σ n) (stL σ n) (i + 1))), z3) _ ⟨m6, rfl, by rw [if_neg (by omega)], by rw [if_neg (by omega)], fun hc j hj => by
          have hp2 := (pm_all (k := j) b1 hi hj).1
          rw [if_pos hc] at hp2
          have := A6 hp2.1 j hj
          rw [hp2.2] at this
          exact this, fun _ q hq => by rw [F6 169 (by decide)]; exact B5 q hq, F7, ⟨cx, cy, by rw [F6 158 (by decide)]; exact C5.1, by rw [F6 158 (by decide)]; exact C5.2⟩⟩
        simp (maxSteps := 1000000) (decide := true) (disch := (first | assumption | omega | exact Nat.div_mul_le_self _ _ | exact ni_nz (by omega) (by omega) | exact rfl | exact retOk_bI _ | exact retOk_0 | exact retOk_1)) only [eX7_seating_110, eX7_seating_111, eX7_seating_114, eX7_seating_116, e6, WpR_some, Option.toList_some, Option.toList_none, List.cons_append, List.nil_append, List.append_nil, clr_n, clr_i, clr_a, ni_add, ni_mul, ni_sub, ni_lt, ni_le, ni_eq, ni_div, nat_mod_eq, ni_rem, iMax_nn, iMin_nn, iMax_sub, Nat.zero_max, bI_0, bI_1, bI_n0, up2_s, up2_n, up2_k, va_up_self, va_up_ne, ni_l, lN_mul, lN_add, ln_mask, lN_i, ↓reduceIte, if_true, if_false, not_true_eq_false, not_false_eq_true, ite_self, Nat.add_zero, Nat.zero_add, ent_def]
        exact e8
      have O4 : OV m4 164 (pm (σ 44) i) 5 := fun j hj => by rw [F4.1 164 (by decide) (by decide), F3.1 164 (by decide) (by decide)]; exact O2 j hj
      have cop : ∀ z3 : Option Value, i = bst (stH σ n) (stL σ n) (i + 1) → Wp mX7_seating 70 ([some (.ref 158), some (.int (nI n)), some (.int w), some (.int (if i = 0 then -1 else nI (stH σ n (bst (stH σ n) (stL σ n) i)))), some (.int (if i = 0 then nI 0 else nI (stL σ n (bst (stH σ n) (stL σ n) i)))), some (.int (nI 1)), z3]) [] (G, m4, ml) Q := by
        intro z3 hz
        simp (maxSteps := 1000000) (decide := true) (disch := (first | assumption | omega | exact Nat.div_mul_le_self _ _ | exact ni_nz (by omega) (by omega) | exact rfl | exact retOk_bI _ | exact retOk_0 | exact retOk_1)) only [eX7_seating_70, eX7_seating_71, eX7_seating_74, eX7_seating_75, eX7_seating_76, eX7_seating_79, eX7_seating_81, eX7_seating_82, q1, q2, WpR_some, Option.toList_some, Option.toList_none, List.cons_append, List.nil_append, List.append_nil, clr_n, clr_i, clr_a, ni_add, ni_mul, ni_sub, ni_lt, ni_le, ni_eq, ni_div, nat_mod_eq, ni_rem, iMax_nn, iMin_nn, iMax_sub, Nat.zero_max, bI_0, bI_1, bI_n0, up2_s, up2_n, up2_k, va_up_self, va_up_ne, ni_l, lN_mul, lN_add, ln_mask, lN_i, ↓reduceIte, if_true, if_false, not_true_eq_false, not_false_eq_true, ite_self, Nat.add_zero, Nat.zero_add, ent_def]
        refine wp_for (X := Unit) (fun q _ => [some (.ref 158), some (.int (nI n)), some (.int w), some (.int (nI (stH σ n i))), some (.int (nI (stL σ n i))), some (.int (nI 1)), some (.int (nI q))]) (fun q _ μ => ∃ m5, μ = (G, m5, ml) ∧ (∀ d, d < q → m5 169 d = nI (pm (σ 44) i d)) ∧ (∀ b, b ≠ 169 → m5 b = m4 b)) 5 ?_ ?_ 0 () _ (Nat.zero_le _) ⟨m4, rfl, fun d hd => absurd hd (Nat.not_lt_zero _), fun _ _ => rfl⟩
        · rintro q - μ hq ⟨m5, rfl, c1, c2⟩ kk2
          have hlt : ¬ 5 ≤ q := by omega
          have x1 : m5 164 q = nI (pm (σ 44) i q) := by rw [c2 164 (by decide)]; exact (O4 q hq).1
          rw [eX7_seating_84]
          simp (maxSteps := 1000000) (decide := true) (disch := (first | assumption | omega | exact Nat.div_mul_le_self _ _ | exact ni_nz (by omega) (by omega) | exact rfl | exact retOk_bI _ | exact retOk_0 | exact retOk_1)) only [eX7_seating_86, eX7_seating_87, eX7_seating_90, eX7_seating_91, eX7_seating_94, eX7_seating_96, eX7_seating_97, eX7_seating_100, eX7_seating_102, eX7_seating_103, eX7_seating_104, eX7_seating_107, g6, g11, x1, hlt, WpR_some, Option.toList_some, Option.toList_none, List.cons_append, List.nil_append, List.append_nil, clr_n, clr_i, clr_a, ni_add, ni_mul, ni_sub, ni_lt, ni_le, ni_eq, ni_div, nat_mod_eq, ni_rem, iMax_nn, iMin_nn, iMax_sub, Nat.zero_max, bI_0, bI_1, bI_n0, up2_s, up2_n, up2_k, va_up_self, va_up_ne, ni_l, lN_mul, lN_add, ln_mask, lN_i, ↓reduceIte, if_true, if_false, not_true_eq_false, not_false_eq_true, ite_self, Nat.add_zero, Nat.zero_add, ent_def]
          refine kk2 () _ ⟨_, rfl, ?_, fun b hb => by rw [up2_n hb]; exact c2 b hb⟩
          intro d hd
          by_cases he : d = q
          · rw [he, up2_s]
          · rw [up2_k he]; exact c1 d (by omega)
        · rintro - μ ⟨m5, rfl, c1, c2⟩
          rw [eX7_seating_84]
          simp (maxSteps := 1000000) (decide := true) (disch := (first | assumption | omega | exact Nat.div_mul_le_self _ _ | exact ni_nz (by omega) (by omega) | exact rfl | exact retOk_bI _ | exact retOk_0 | exact retOk_1)) only [eX7_seating_86, eX7_seating_87, eX7_seating_90, eX7_seating_91, eX7_seating_94, eX7_seating_96, eX7_seating_97, eX7_seating_100, eX7_seating_102, eX7_seating_103, eX7_seating_104, eX7_seating_107, Nat.le_refl, WpR_some, Option.toList_some, Option.toList_none, List.cons_append, List.nil_append, List.append_nil, clr_n, clr_i, clr_a, ni_add, ni_mul, ni_sub, ni_lt, ni_le, ni_eq, ni_div, nat_mod_eq, ni_rem, iMax_nn, iMin_nn, iMax_sub, Nat.zero_max, bI_0, bI_1, bI_n0, up2_s, up2_n, up2_k, va_up_self, va_up_ne, ni_l, lN_mul, lN_add, ln_mask, lN_i, ↓reduceIte, if_true, if_false, not_true_eq_false, not_false_eq_true, ite_self, Nat.add_zero, Nat.zero_add, ent_def]
          have := fin i hz m5 (some (.int (nI 5))) (fun j hj => by rw [c2 164 (by decide)]; exact O4 j hj) (by rw [c2 159 (by decide)]; exact x44) c1 ⟨fun b h1 h2 h3 h4 => by rw [c2 b h4]; exact F5.1 b h1 h2 h3 h4, fun j h1 h2 => by rw [c2 158 (by decide)]; exact F5.2.1 j h1 h2, fun j hj => by rw [c2 159 (by decide)]; exact F5.2.2 j hj⟩ ⟨_, _, by rw [c2 158 (by decide)]; exact C4.1, by rw [c2 158 (by decide)]; exact C4.2⟩
          exact this
      rw [decide_eq_true hi, eX7_seating_31]
      by_cases h0 : i = 0
      · subst h0
        have f1 := cop z3 rfl
        simp only [if_true] at f1 ⊢
        have hgt : (-1 : Int32) < nI (stH σ n 0) := by
          apply Int32.lt_iff_toInt_lt.mpr
          rw [nI_toInt (by omega)]
          have h9 : (-1 : Int32).toInt = -1 := by decide
          omega
        simp (maxSteps := 1000000) (decide := true) (disch := (first | assumption | omega | exact Nat.div_mul_le_self _ _ | exact ni_nz (by omega) (by omega) | exact rfl | exact retOk_bI _ | exact retOk_0 | exact retOk_1)) only [eX7_seating_33, eX7_seating_36, eX7_seating_37, eX7_seating_40, eX7_seating_41, eX7_seating_42, eX7_seating_45, eX7_seating_46, eX7_seating_49, eX7_seating_50, eX7_seating_53, eX7_seating_54, eX7_seating_57, eX7_seating_58, eX7_seating_61, eX7_seating_62, eX7_seating_65, eX7_seating_67, e3, e4, q1, q2, hgt, WpR_some, Option.toList_some, Option.toList_none, List.cons_append, List.nil_append, List.append_nil, clr_n, clr_i, clr_a, ni_add, ni_mul, ni_sub, ni_lt, ni_le, ni_eq, ni_div, nat_mod_eq, ni_rem, iMax_nn, iMin_nn, iMax_sub, Nat.zero_max, bI_0, bI_1, bI_n0, up2_s, up2_n, up2_k, va_up_self, va_up_ne, ni_l, lN_mul, lN_add, ln_mask, lN_i, ↓reduceIte, if_true, if_false, not_true_eq_false, not_false_eq_true, ite_self, Nat.add_zero, Nat.zero_add, ent_def]
        exact f1
      · have hb5 := bst_lt (H := stH σ n) (L := stL σ n) i (by omega)
        have l2' := st_le (n := n) hO.1 (show bst (stH σ n) (stL σ n) i < pcn (σ 44) by omega)
        have cop : ∀ z3, i = _ → _ := fun z3 hz => cop z3 hz
        rw [if_neg h0, if_neg h0] at cop
        rw [if_neg h0, if_neg h0]
        by_cases c1 : stH σ n (bst (stH σ n) (stL σ n) i) < stH σ n i
        · have f1 := cop z3 (bst_t (Or.inr (Or.inl c1)))
          simp (maxSteps := 1000000) (decide := true) (disch := (first | assumption | omega | exact Nat.div_mul_le_self _ _ | exact ni_nz (by omega) (by omega) | exact rfl | exact retOk_bI _ | exact retOk_0 | exact retOk_1)) only [eX7_seating_33, eX7_seating_36, eX7_seating_37, eX7_seating_40, eX7_seating_41, eX7_seating_42, eX7_seating_45, eX7_seating_46, eX7_seating_49, eX7_seating_50, eX7_seating_53, eX7_seating_54, eX7_seating_57, eX7_seating_58, eX7_seating_61, eX7_seating_62, eX7_seating_65, eX7_seating_67, e3, e4, q1, q2, c1, WpR_some, Option.toList_some, Option.toList_none, List.cons_append, List.nil_append, List.append_nil, clr_n, clr_i, clr_a, ni_add, ni_mul, ni_sub, ni_lt, ni_le, ni_eq, ni_div, nat_mod_eq, ni_rem, iMax_nn, iMin_nn, iMax_sub, Nat.zero_max, bI_0, bI_1, bI_n0, up2_s, up2_n, up2_k, va_up_self, va_up_ne, ni_l, lN_mul, lN_add, ln_mask, lN_i, ↓reduceIte, if_true, if_false, not_true_eq_false, not_false_eq_true, ite_self, Nat.add_zero, Nat.zero_add, ent_def]
          exact f1
        · by_cases c2 : stH σ n i = stH σ n (bst (stH σ n) (stL σ n) i)
          · by_cases c3 : stL σ n i < stL σ n (bst (stH σ n) (stL σ n) i)
            · have f1 := cop z3 (bst_t (Or.inr (Or.inr ⟨c2, c3⟩)))
              have c3' : ¬ stL σ n (bst (stH σ n) (stL σ n) i) ≤ stL σ n i := by omega
              rw [c2] at q1
              simp (maxSteps := 1000000) (decide := true) (disch := (first | assumption | omega | exact Nat.div_mul_le_self _ _ | exact ni_nz (by omega) (by omega) | exact rfl | exact retOk_bI _ | exact retOk_0 | exact retOk_1)) only [eX7_seating_33, eX7_seating_36, eX7_seating_37, eX7_seating_40, eX7_seating_41, eX7_seating_42, eX7_seating_45, eX7_seating_46, eX7_seating_49, eX7_seating_50, eX7_seating_53, eX7_seating_54, eX7_seating_57, eX7_seating_58, eX7_seating_61, eX7_seating_62, eX7_seating_65, eX7_seating_67, e3, e4, q1, q2, c3', Nat.lt_irrefl, WpR_some, Option.toList_some, Option.toList_none, List.cons_append, List.nil_append, List.append_nil, clr_n, clr_i, clr_a, ni_add, ni_mul, ni_sub, ni_lt, ni_le, ni_eq, ni_div, nat_mod_eq, ni_rem, iMax_nn, iMin_nn, iMax_sub, Nat.zero_max, bI_0, bI_1, bI_n0, up2_s, up2_n, up2_k, va_up_self, va_up_ne, ni_l, lN_mul, lN_add, ln_mask, lN_i, ↓reduceIte, if_true, if_false, not_true_eq_false, not_false_eq_true, ite_self, Nat.add_zero, Nat.zero_add, ent_def]
              exact f1
            · have hbf : bst (stH σ n) (stL σ n) i = bst (stH σ n) (stL σ n) (i + 1) := bst_f (by omega)
              have f1 := fin _ hbf m4 z3 O4 x44 (fun q hq => by rw [F4.1 169 (by decide) (by decide), F3.1 169 (by decide) (by decide)]; exact B2 (by omega) q hq) F5 ⟨_, _, C4⟩
              have c3' : stL σ n (bst (stH σ n) (stL σ n) i) ≤ stL σ n i := by omega
              rw [c2] at q1
              simp (maxSteps := 1000000) (decide := true) (disch := (first | assumption | omega | exact Nat.div_mul_le_self _ _ | exact ni_nz (by omega) (by omega) | exact rfl | exact retOk_bI _ | exact retOk_0 | exact retOk_1)) only [eX7_seating_33, eX7_seating_36, eX7_seating_37, eX7_seating_40, eX7_seating_41, eX7_seating_42, eX7_seating_45, eX7_seating_46, eX7_seating_49, eX7_seating_50, eX7_seating_53, eX7_seating_54, eX7_seating_57, eX7_seating_58, eX7_seating_61, eX7_seating_62, eX7_seating_65, eX7_seating_67, e3, e4, q1, q2, c3', Nat.lt_irrefl, WpR_some, Option.toList_some, Option.toList_none, List.cons_append, List.nil_append, List.append_nil, clr_n, clr_i, clr_a, ni_add, ni_mul, ni_sub, ni_lt, ni_le, ni_eq, ni_div, nat_mod_eq, ni_rem, iMax_nn, iMin_nn, iMax_sub, Nat.zero_max, bI_0, bI_1, bI_n0, up2_s, up2_n, up2_k, va_up_self, va_up_ne, ni_l, lN_mul, lN_add, ln_mask, lN_i, ↓reduceIte, if_true, if_false, not_true_eq_false, not_false_eq_true, ite_self, Nat.add_zero, Nat.zero_add, ent_def]
              exact f1
          · have hbf : bst (stH σ n) (stL σ n) i = bst (stH σ n) (stL σ n) (i + 1) := bst_f (by omega)
            have f1 := fin _ hbf m4 z3 O4 x44 (fun q hq => by rw [F4.1 169 (by decide) (by decide), F3.1 169 (by decide) (by decide)]; exact B2 (by omega) q hq) F5 ⟨_, _, C4⟩
            simp (maxSteps := 1000000) (decide := true) (disch := (first | assumption | omega | exact Nat.div_mul_le_self _ _ | exact ni_nz (by omega) (by omega) | exact rfl | exact retOk_bI _ | exact retOk_0 | exact retOk_1)) only [eX7_seating_33, eX7_seating_36, eX7_seating_37, eX7_seating_40, eX7_seating_41, eX7_seating_42, eX7_seating_45, eX7_seating_46, eX7_seating_49, eX7_seating_50, eX7_seating_53, eX7_seating_54, eX7_seating_57, eX7_seating_58, eX7_seating_61, eX7_seating_62, eX7_seating_65, eX7_seating_67, e3, e4, q1, q2, c1, c2, WpR_some, Option.toList_some, Option.toList_none, List.cons_append, List.nil_append, List.append_nil, clr_n, clr_i, clr_a, ni_add, ni_mul, ni_sub, ni_lt, ni_le, ni_eq, ni_div, nat_mod_eq, ni_rem, iMax_nn, iMin_nn, iMax_sub, Nat.zero_max, bI_0, bI_1, bI_n0, up2_s, up2_n, up2_k, va_up_self, va_up_ne, ni_l, lN_mul, lN_add, ln_mask, lN_i, ↓reduceIte, if_true, if_false, not_true_eq_false, not_false_eq_true, ite_self, Nat.add_zero, Nat.zero_add, ent_def]
            exact f1
    · rintro ⟨z1, z2, z3⟩ μ ⟨m2, rfl, hz1, hz2, O2, B2, F2, ⟨cx, cy, C2⟩⟩
      simp only at hz1 hz2
      subst hz1
      subst hz2
      obtain ⟨m3, e3, O3, F3⟩ := r_X7_sitPlainly (m := m2) (ml := ml) hG0
      have x44 : m3 159 44 = nI (σ 44) := by rw [F3 159 (by decide), F2.2.2 44 (by omega)]; exact RA_at hA (by decide)
      have F4 : FSt m m3 := ⟨fun b h1 h2 h3 h4 => by rw [F3 b h3]; exact F2.1 b h1 h2 h3 h4, fun j h1 h2 => by rw [F3 158 (by decide)]; exact F2.2.1 j h1 h2, fun j hj => by rw [F3 159 (by decide)]; exact F2.2.2 j hj⟩
      have X3 : RX m3 := ⟨O3, by rw [F4.2.1 8 (by decide) (by decide)]; exact hX.2.1, by rw [F4.2.1 9 (by decide) (by decide)]; exact hX.2.2.1, cx, cy, by rw [F3 158 (by decide)]; exact C2.1, by rw [F3 158 (by decide)]; exact C2.2⟩
      have f1 : Q (some (.int r)) (G, m3, ml) := by rw [← hQ]; exact ⟨m3, rfl, rfl, F4, X3⟩
      rw [decide_eq_false (Nat.lt_irrefl _), if_neg (by omega), if_neg (by omega), eX7_seating_31]
      rcases hS with ⟨rfl, rfl⟩ | ⟨k, rfl, hk, rfl⟩ | ⟨k, rfl, hk, hk2, rfl⟩
      · simp (maxSteps := 1000000) (decide := true) (disch := (first | assumption | omega | exact Nat.div_mul_le_self _ _ | exact ni_nz (by omega) (by omega) | exact rfl | exact retOk_bI _ | exact retOk_0 | exact retOk_1)) only [eX7_seating_33, eX7_seating_36, eX7_seating_37, eX7_seating_40, eX7_seating_41, eX7_seating_42, eX7_seating_45, eX7_seating_46, eX7_seating_49, eX7_seating_50, eX7_seating_53, eX7_seating_54, eX7_seating_57, eX7_seating_58, eX7_seating_61, eX7_seating_62, eX7_seating_65, eX7_seating_67, eX7_seating_70, eX7_seating_71, eX7_seating_74, eX7_seating_75, eX7_seating_76, eX7_seating_79, eX7_seating_81, eX7_seating_82, eX7_seating_86, eX7_seating_87, eX7_seating_90, eX7_seating_91, eX7_seating_94, eX7_seating_96, eX7_seating_97, eX7_seating_100, eX7_seating_102, eX7_seating_103, eX7_seating_104, eX7_seating_107, eX7_seating_110, eX7_seating_111, eX7_seating_114, eX7_seating_116, eX7_seating_119, eX7_seating_120, eX7_seating_123, eX7_seating_124, eX7_seating_125, eX7_seating_128, eX7_seating_129, eX7_seating_132, eX7_seating_133, eX7_seating_134, eX7_seating_137, eX7_seating_139, eX7_seating_140, eX7_seating_143, eX7_seating_144, eX7_seating_147, eX7_seating_148, eX7_seating_149, eX7_seating_152, eX7_seating_154, e3, WpR_some, Option.toList_some, Option.toList_none, List.cons_append, List.nil_append, List.append_nil, clr_n, clr_i, clr_a, ni_add, ni_mul, ni_sub, ni_lt, ni_le, ni_eq, ni_div, nat_mod_eq, ni_rem, iMax_nn, iMin_nn, iMax_sub, Nat.zero_max, bI_0, bI_1, bI_n0, up2_s, up2_n, up2_k, va_up_self, va_up_ne, ni_l, lN_mul, lN_add, ln_mask, lN_i, ↓reduceIte, if_true, if_false, not_true_eq_false, not_false_eq_true, ite_self, Nat.add_zero, Nat.zero_add, ent_def]
        exact f1
      · have xq : m3 169 k = nI (pm (σ 44) (stB σ n) k) := by rw [F3 169 (by decide)]; exact B2 (by omega) k (by omega)
        have hn1 := neg1_ne (show k < 1000 by omega)
        have hlt : ¬ σ 44 ≤ k := by omega
        simp (maxSteps := 1000000) (decide := true) (disch := (first | assumption | omega | exact Nat.div_mul_le_self _ _ | exact ni_nz (by omega) (by omega) | exact rfl | exact retOk_bI _ | exact retOk_0 | exact retOk_1)) only [eX7_seating_33, eX7_seating_36, eX7_seating_37, eX7_seating_40, eX7_seating_41, eX7_seating_42, eX7_seating_45, eX7_seating_46, eX7_seating_49, eX7_seating_50, eX7_seating_53, eX7_seating_54, eX7_seating_57, eX7_seating_58, eX7_seating_61, eX7_seating_62, eX7_seating_65, eX7_seating_67, eX7_seating_70, eX7_seating_71, eX7_seating_74, eX7_seating_75, eX7_seating_76, eX7_seating_79, eX7_seating_81, eX7_seating_82, eX7_seating_86, eX7_seating_87, eX7_seating_90, eX7_seating_91, eX7_seating_94, eX7_seating_96, eX7_seating_97, eX7_seating_100, eX7_seating_102, eX7_seating_103, eX7_seating_104, eX7_seating_107, eX7_seating_110, eX7_seating_111, eX7_seating_114, eX7_seating_116, eX7_seating_119, eX7_seating_120, eX7_seating_123, eX7_seating_124, eX7_seating_125, eX7_seating_128, eX7_seating_129, eX7_seating_132, eX7_seating_133, eX7_seating_134, eX7_seating_137, eX7_seating_139, eX7_seating_140, eX7_seating_143, eX7_seating_144, eX7_seating_147, eX7_seating_148, eX7_seating_149, eX7_seating_152, eX7_seating_154, g1, g11, e3, x44, xq, hn1, hlt, WpR_some, Option.toList_some, Option.toList_none, List.cons_append, List.nil_append, List.append_nil, clr_n, clr_i, clr_a, ni_add, ni_mul, ni_sub, ni_lt, ni_le, ni_eq, ni_div, nat_mod_eq, ni_rem, iMax_nn, iMin_nn, iMax_sub, Nat.zero_max, bI_0, bI_1, bI_n0, up2_s, up2_n, up2_k, va_up_self, va_up_ne, ni_l, lN_mul, lN_add, ln_mask, lN_i, ↓reduceIte, if_true, if_false, not_true_eq_false, not_false_eq_true, ite_self, Nat.add_zero, Nat.zero_add, ent_def]
        exact f1
      · have hn1 : ¬ nI k = -1 := by
          intro q
          have := congrArg Int32.toInt q
          rw [nI_toInt (by omega)] at this
          have h9 : (-1 : Int32).toInt = -1 := by decide
          omega
        simp (maxSteps := 1000000) (decide := true) (disch := (first | assumption | omega | exact Nat.div_mul_le_self _ _ | exact ni_nz (by omega) (by omega) | exact rfl | exact retOk_bI _ | exact retOk_0 | exact retOk_1)) only [eX7_seating_33, eX7_seating_36, eX7_seating_37, eX7_seating_40, eX7_seating_41, eX7_seating_42, eX7_seating_45, eX7_seating_46, eX7_seating_49, eX7_seating_50, eX7_seating_53, eX7_seating_54, eX7_seating_57, eX7_seating_58, eX7_seating_61, eX7_seating_62, eX7_seating_65, eX7_seating_67, eX7_seating_70, eX7_seating_71, eX7_seating_74, eX7_seating_75, eX7_seating_76, eX7_seating_79, eX7_seating_81, eX7_seating_82, eX7_seating_86, eX7_seating_87, eX7_seating_90, eX7_seating_91, eX7_seating_94, eX7_seating_96, eX7_seating_97, eX7_seating_100, eX7_seating_102, eX7_seating_103, eX7_seating_104, eX7_seating_107, eX7_seating_110, eX7_seating_111, eX7_seating_114, eX7_seating_116, eX7_seating_119, eX7_seating_120, eX7_seating_123, eX7_seating_124, eX7_seating_125, eX7_seating_128, eX7_seating_129, eX7_seating_132, eX7_seating_133, eX7_seating_134, eX7_seating_137, eX7_seating_139, eX7_seating_140, eX7_seating_143, eX7_seating_144, eX7_seating_147, eX7_seating_148, eX7_seating_149, eX7_seating_152, eX7_seating_154, g1, e3, x44, hn1, hk, WpR_some, Option.toList_some, Option.toList_none, List.cons_append, List.nil_append, List.append_nil, clr_n, clr_i, clr_a, ni_add, ni_mul, ni_sub, ni_lt, ni_le, ni_eq, ni_div, nat_mod_eq, ni_rem, iMax_nn, iMin_nn, iMax_sub, Nat.zero_max, bI_0, bI_1, bI_n0, up2_s, up2_n, up2_k, va_up_self, va_up_ne, ni_l, lN_mul, lN_add, ln_mask, lN_i, ↓reduceIte, if_true, if_false, not_true_eq_false, not_false_eq_true, ite_self, Nat.add_zero, Nat.zero_add, ent_def]
        exact f1
  obtain ⟨r', μ', e1, m', rfl, rfl, h2⟩ := res_ex key
  exact ⟨m', e1, h2⟩
end SE2
