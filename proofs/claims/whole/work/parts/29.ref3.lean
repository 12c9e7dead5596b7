section RF3
variable {G : List AT} {m : Nat → Nat → Int32} {ml : Nat → Nat → Int64} {q n s h t ke kl x y o : Nat} {σ τ : Nat → Nat} {π : Nat → Nat} {v : Int32}
theorem neg4_ne {k : Nat} (hk : k < 5) : ¬ nI k = -4 := by
  intro q
  have := congrArg Int32.toInt q
  rw [nI_toInt (by omega)] at this
  have h9 : (-4 : Int32).toInt = -4 := by decide
  omega
/-- what a call of the reference leaves: all but its row from q on and its counters -/
def FrR (q : Nat) (m m' : Nat → Nat → Int32) : Prop := (∀ b, b ≠ 158 → b ≠ 159 → m' b = m b) ∧ (∀ k, k ≠ 19 → k ≠ 20 → m' 158 k = m 158 k) ∧ (∀ k, (k < q ∨ q + 44 ≤ k) → m' 159 k = m 159 k)
theorem FrR.rf {m : Nat → Nat → Int32} : FrR q m m := ⟨fun _ _ _ => rfl, fun _ _ _ => rfl, fun _ _ => rfl⟩
theorem FrR.tr {m m1 m2 : Nat → Nat → Int32} (h1 : FrR q m m1) (h2 : FrR q m1 m2) : FrR q m m2 := ⟨fun b a c => by rw [h2.1 b a c, h1.1 b a c], fun k a c => by rw [h2.2.1 k a c, h1.2.1 k a c], fun k a => by rw [h2.2.2 k a, h1.2.2 k a]⟩
theorem FrR.sit {m m' : Nat → Nat → Int32} (h : FrR q m m') (hπ : SitV m π) : SitV m' π := fun k hk => by rw [h.1 164 (by decide) (by decide)]; exact hπ k hk
theorem r_X7_passes {ab : Int32} {cx cy : Nat} (hG : GM G) (h4 : m 159 44 = nI (σ 44)) (h5 : m 159 45 = nI (σ 45)) (hR : RwV m q σ) (hπ : SitV m π) (hz : m 158 9 = nI 0) (hw : m 158 8 = ab) (hC : CnV m cx cy) (hB : Bk (ke + 1) (kl + 5) σ) (hq : q = 0 ∨ q = 818) (hab : ∀ n, n < 5 → (nI n = ab) = (n = x)) :
    ∃ m', res mX7_passes [.ref 158, .int (nI q)] (G, m, ml) = some (none, (G, m', ml)) ∧ RwV m' q (gon (evS π x σ (σ 45))) ∧ CnV m' (cx + evH π x σ (σ 45)) (cy + evL π x σ (σ 45)) ∧ FrR q m m' := by
  have b1 := hB.1.1
  have b2 := hB.1.2.1
  have hπ5 : ∀ j, j < 5 → π j < 5 := fun j hj => (hπ j hj).2
  have hq8 : q ≤ 818 := by omega
  have hG0 := hG
  obtain ⟨⟨g0, g1, -⟩, ⟨a0, -⟩, ⟨l0, -⟩⟩ := hG
  have key : Wp mX7_passes 0 (ent [.ref 158, .int (nI q)] 4) [] (G, m, ml) (fun r μ' => ∃ m', r = none ∧ μ' = (G, m', ml) ∧ RwV m' q (gon (evS π x σ (σ 45))) ∧ CnV m' (cx + evH π x σ (σ 45)) (cy + evL π x σ (σ 45)) ∧ FrR q m m') := by
    show Wp mX7_passes 0 [some (.ref 158), some (.int (nI q)), none, none] [] (G, m, ml) _
    generalize hQ : (fun (r : Option Value) (μ' : Mm) => ∃ m', r = none ∧ μ' = (G, m', ml) ∧ RwV m' q (gon (evS π x σ (σ 45))) ∧ CnV m' (cx + evH π x σ (σ 45)) (cy + evL π x σ (σ 45)) ∧ FrR q m m') = Q
    simp (maxSteps := 1000000) (decide := true) (disch := (first | assumption | omega | exact Nat.div_mul_le_self _ _ | exact ni_nz (by omega) (by omega) | exact rfl | exact retOk_bI _ | exact retOk_0 | exact retOk_1)) only [eX7_passes_0, eX7_passes_1, eX7_passes_3, eX7_passes_4, eX7_passes_7, eX7_passes_9, eX7_passes_10, eX7_passes_13, eX7_passes_14, eX7_passes_15, eX7_passes_16, eX7_passes_19, eX7_passes_20, eX7_passes_21, eX7_passes_22, eX7_passes_25, eX7_passes_28, eX7_passes_29, eX7_passes_31, eX7_passes_34, eX7_passes_35, eX7_passes_36, eX7_passes_37, eX7_passes_38, eX7_passes_41, eX7_passes_44, eX7_passes_45, eX7_passes_46, eX7_passes_49, eX7_passes_52, eX7_passes_53, eX7_passes_54, eX7_passes_55, eX7_passes_56, eX7_passes_59, eX7_passes_62, eX7_passes_65, eX7_passes_66, eX7_passes_69, eX7_passes_70, eX7_passes_72, eX7_passes_73, eX7_passes_74, eX7_passes_77, eX7_passes_80, eX7_passes_81, eX7_passes_84, eX7_passes_85, eX7_passes_88, eX7_passes_89, eX7_passes_91, eX7_passes_92, eX7_passes_93, eX7_passes_94, eX7_passes_97, eX7_passes_98, eX7_passes_100, eX7_passes_101, eX7_passes_102, eX7_passes_103, eX7_passes_104, eX7_passes_107, eX7_passes_108, eX7_passes_109, eX7_passes_110, eX7_passes_113, eX7_passes_114, eX7_passes_116, eX7_passes_117, eX7_passes_118, eX7_passes_119, eX7_passes_120, eX7_passes_121, eX7_passes_122, WpR_some, Option.toList_some, Option.toList_none, List.cons_append, List.nil_append, List.append_nil, clr_n, clr_i, clr_a, ni_add, ni_mul, ni_sub, ni_lt, ni_le, ni_eq, ni_div, nat_mod_eq, ni_rem, iMax_nn, iMin_nn, iMax_sub, Nat.zero_max, bI_0, bI_1, bI_n0, up2_s, up2_n, up2_k, va_up_self, va_up_ne, ni_l, lN_mul, lN_add, ln_mask, lN_i, ↓reduceIte, if_true, if_false, not_true_eq_false, not_false_eq_true, ite_self, Nat.add_zero, Nat.zero_add, ent_def]
    refine wp_for (X := Option Value) (fun i z => [some (.ref 158), some (.int (nI q)), some (.int (nI i)), z]) (fun i _ μ => ∃ m1, μ = (G, m1, ml) ∧ RwV m1 q (evS π x σ i) ∧ CnV m1 (cx + evH π x σ i) (cy + evL π x σ i) ∧ FrR q m m1) (σ 45) ?_ ?_ 0 none _ (Nat.zero_le _) ⟨m, rfl, hR, hC, FrR.rf⟩
    · rintro i z μ hi ⟨m1, rfl, R1, C1, F1⟩ kk
      have hB1 := Bk_evS (x := x) hB hπ5 i (by omega)
      have e44 : evS π x σ i 44 = σ 44 := evS_fix (by omega) b1 hπ5 i (by omega)
      have e45 : evS π x σ i 45 = σ 45 := evS_fix (by omega) b1 hπ5 i (by omega)
      have k4 : m1 159 44 = nI (evS π x σ i 44) := by rw [F1.2.2 44 (by omega), e44]; exact h4
      have k5 : m1 159 45 = nI (evS π x σ i 45) := by rw [F1.2.2 45 (by omega), e45]; exact h5
      have k5' : m1 159 45 = nI (σ 45) := by rw [F1.2.2 45 (by omega)]; exact h5
      have kπ : SitV m1 π := F1.sit hπ
      have kz : m1 158 9 = nI 0 := by rw [F1.2.1 9 (by decide) (by decide)]; exact hz
      have kw : m1 158 8 = ab := by rw [F1.2.1 8 (by decide) (by decide)]; exact hw
      have eO := r_X7_hasOne (ml := ml) (h := i) hG0 k4 k5 (R1 40 (by decide)) kπ hB1.1 hq8 (by rw [e45]; exact hi)
      have hlt : ¬ σ 45 ≤ i := by omega
      have hlt' : i < evS π x σ i 45 := by rw [e45]; exact hi
      by_cases hx : i = x
      · have hx2 : (nI i = ab) = True := by rw [hab i (by omega)]; exact eq_true hx
        rw [eX7_passes_2]
        simp (maxSteps := 1000000) (decide := true) (disch := (first | assumption | omega | exact Nat.div_mul_le_self _ _ | exact ni_nz (by omega) (by omega) | exact rfl | exact retOk_bI _ | exact retOk_0 | exact retOk_1)) only [eX7_passes_0, eX7_passes_1, eX7_passes_3, eX7_passes_4, eX7_passes_7, eX7_passes_9, eX7_passes_10, eX7_passes_13, eX7_passes_14, eX7_passes_15, eX7_passes_16, eX7_passes_19, eX7_passes_20, eX7_passes_21, eX7_passes_22, eX7_passes_25, eX7_passes_28, eX7_passes_29, eX7_passes_31, eX7_passes_34, eX7_passes_35, eX7_passes_36, eX7_passes_37, eX7_passes_38, eX7_passes_41, eX7_passes_44, eX7_passes_45, eX7_passes_46, eX7_passes_49, eX7_passes_52, eX7_passes_53, eX7_passes_54, eX7_passes_55, eX7_passes_56, eX7_passes_59, eX7_passes_62, eX7_passes_65, eX7_passes_66, eX7_passes_69, eX7_passes_70, eX7_passes_72, eX7_passes_73, eX7_passes_74, eX7_passes_77, eX7_passes_80, eX7_passes_81, eX7_passes_84, eX7_passes_85, eX7_passes_88, eX7_passes_89, eX7_passes_91, eX7_passes_92, eX7_passes_93, eX7_passes_94, eX7_passes_97, eX7_passes_98, eX7_passes_100, eX7_passes_101, eX7_passes_102, eX7_passes_103, eX7_passes_104, eX7_passes_107, eX7_passes_108, eX7_passes_109, eX7_passes_110, eX7_passes_113, eX7_passes_114, eX7_passes_116, eX7_passes_117, eX7_passes_118, eX7_passes_119, eX7_passes_120, eX7_passes_121, eX7_passes_122, g1, k5', kw, eO, hx2, hlt, WpR_some, Option.toList_some, Option.toList_none, List.cons_append, List.nil_append, List.append_nil, clr_n, clr_i, clr_a, ni_add, ni_mul, ni_sub, ni_lt, ni_le, ni_eq, ni_div, nat_mod_eq, ni_rem, iMax_nn, iMin_nn, iMax_sub, Nat.zero_max, bI_0, bI_1, bI_n0, up2_s, up2_n, up2_k, va_up_self, va_up_ne, ni_l, lN_mul, lN_add, ln_mask, lN_i, ↓reduceIte, if_true, if_false, not_true_eq_false, not_false_eq_true, ite_self, Nat.add_zero, Nat.zero_add, ent_def]
        refine kk _ _ ⟨m1, rfl, ?_, ?_, F1⟩
        · unfold evS; rw [if_pos hx]; exact R1
        · unfold evH evL; rw [if_neg (fun q => q.1 hx), if_neg (fun q => q.1 hx)]; exact C1
      · have hx2 : (nI i = ab) = False := by rw [hab i (by omega)]; exact eq_false hx
        have q1 : (if i ≠ x ∧ sitO π (evS π x σ i) i = 1 then 1 else 0) = if sitO π (evS π x σ i) i = 1 then 1 else 0 := by simp [hx]
        have q2 : (if i ≠ x ∧ sitO π (evS π x σ i) i = 2 then 1 else 0) = if sitO π (evS π x σ i) i = 2 then 1 else 0 := by simp [hx]
        by_cases hp : pl (evS π x σ i) i < evS π x σ i 44
        · have eO' : tP π (evS π x σ i) i = nI (π (pl (evS π x σ i) i)) := if_pos hp
          rw [eO'] at eO
          have hn4 := neg4_ne (hπ5 (pl (evS π x σ i) i) (by omega))
          obtain ⟨m2, e2, R2, C2, F2⟩ := r_X7_hears (ml := ml) (h := i) hG0 k4 k5 R1 kπ kz C1 hB1.1 hq hlt' hp
          rw [eX7_passes_2]
          simp (maxSteps := 1000000) (decide := true) (disch := (first | assumption | omega | exact Nat.div_mul_le_self _ _ | exact ni_nz (by omega) (by omega) | exact rfl | exact retOk_bI _ | exact retOk_0 | exact retOk_1)) only [eX7_passes_0, eX7_passes_1, eX7_passes_3, eX7_passes_4, eX7_passes_7, eX7_passes_9, eX7_passes_10, eX7_passes_13, eX7_passes_14, eX7_passes_15, eX7_passes_16, eX7_passes_19, eX7_passes_20, eX7_passes_21, eX7_passes_22, eX7_passes_25, eX7_passes_28, eX7_passes_29, eX7_passes_31, eX7_passes_34, eX7_passes_35, eX7_passes_36, eX7_passes_37, eX7_passes_38, eX7_passes_41, eX7_passes_44, eX7_passes_45, eX7_passes_46, eX7_passes_49, eX7_passes_52, eX7_passes_53, eX7_passes_54, eX7_passes_55, eX7_passes_56, eX7_passes_59, eX7_passes_62, eX7_passes_65, eX7_passes_66, eX7_passes_69, eX7_passes_70, eX7_passes_72, eX7_passes_73, eX7_passes_74, eX7_passes_77, eX7_passes_80, eX7_passes_81, eX7_passes_84, eX7_passes_85, eX7_passes_88, eX7_passes_89, eX7_passes_91, eX7_passes_92, eX7_passes_93, eX7_passes_94, eX7_passes_97, eX7_passes_98, eX7_passes_100, eX7_passes_101, eX7_passes_102, eX7_passes_103, eX7_passes_104, eX7_passes_107, eX7_passes_108, eX7_passes_109, eX7_passes_110, eX7_passes_113, eX7_passes_114, eX7_passes_116, eX7_passes_117, eX7_passes_118, eX7_passes_119, eX7_passes_120, eX7_passes_121, eX7_passes_122, g1, k5', kw, eO, hx2, hlt, hn4, e2, WpR_some, Option.toList_some, Option.toList_none, List.cons_append, List.nil_append, List.append_nil, clr_n, clr_i, clr_a, ni_add, ni_mul, ni_sub, ni_lt, ni_le, ni_eq, ni_div, nat_mod_eq, ni_rem, iMax_nn, iMin_nn, iMax_sub, Nat.zero_max, bI_0, bI_1, bI_n0, up2_s, up2_n, up2_k, va_up_self, va_up_ne, ni_l, lN_mul, lN_add, ln_mask, lN_i, ↓reduceIte, if_true, if_false, not_true_eq_false, not_false_eq_true, ite_self, Nat.add_zero, Nat.zero_add, ent_def]
          refine kk _ _ ⟨m2, rfl, ?_, ?_, F1.tr F2⟩
          · unfold evS; rw [if_neg hx]; exact R2
          · unfold evH evL; rw [q1, q2, ← Nat.add_assoc, ← Nat.add_assoc]; exact C2
        · have eO' : tP π (evS π x σ i) i = -4 := if_neg hp
          rw [eO'] at eO
          have e2 := r_X7_rests (ml := ml) (h := i) (n := 5) hG0 R1 hB1.1 hq8 (by omega) (by decide)
          have hO : sitO π (evS π x σ i) i = 0 := by unfold sitO; rw [if_neg hp]
          rw [eX7_passes_2]
          simp (maxSteps := 1000000) (decide := true) (disch := (first | assumption | omega | exact Nat.div_mul_le_self _ _ | exact ni_nz (by omega) (by omega) | exact rfl | exact retOk_bI _ | exact retOk_0 | exact retOk_1)) only [eX7_passes_0, eX7_passes_1, eX7_passes_3, eX7_passes_4, eX7_passes_7, eX7_passes_9, eX7_passes_10, eX7_passes_13, eX7_passes_14, eX7_passes_15, eX7_passes_16, eX7_passes_19, eX7_passes_20, eX7_passes_21, eX7_passes_22, eX7_passes_25, eX7_passes_28, eX7_passes_29, eX7_passes_31, eX7_passes_34, eX7_passes_35, eX7_passes_36, eX7_passes_37, eX7_passes_38, eX7_passes_41, eX7_passes_44, eX7_passes_45, eX7_passes_46, eX7_passes_49, eX7_passes_52, eX7_passes_53, eX7_passes_54, eX7_passes_55, eX7_passes_56, eX7_passes_59, eX7_passes_62, eX7_passes_65, eX7_passes_66, eX7_passes_69, eX7_passes_70, eX7_passes_72, eX7_passes_73, eX7_passes_74, eX7_passes_77, eX7_passes_80, eX7_passes_81, eX7_passes_84, eX7_passes_85, eX7_passes_88, eX7_passes_89, eX7_passes_91, eX7_passes_92, eX7_passes_93, eX7_passes_94, eX7_passes_97, eX7_passes_98, eX7_passes_100, eX7_passes_101, eX7_passes_102, eX7_passes_103, eX7_passes_104, eX7_passes_107, eX7_passes_108, eX7_passes_109, eX7_passes_110, eX7_passes_113, eX7_passes_114, eX7_passes_116, eX7_passes_117, eX7_passes_118, eX7_passes_119, eX7_passes_120, eX7_passes_121, eX7_passes_122, g1, k5', kw, eO, hx2, hlt, e2, WpR_some, Option.toList_some, Option.toList_none, List.cons_append, List.nil_append, List.append_nil, clr_n, clr_i, clr_a, ni_add, ni_mul, ni_sub, ni_lt, ni_le, ni_eq, ni_div, nat_mod_eq, ni_rem, iMax_nn, iMin_nn, iMax_sub, Nat.zero_max, bI_0, bI_1, bI_n0, up2_s, up2_n, up2_k, va_up_self, va_up_ne, ni_l, lN_mul, lN_add, ln_mask, lN_i, ↓reduceIte, if_true, if_false, not_true_eq_false, not_false_eq_true, ite_self, Nat.add_zero, Nat.zero_add, ent_def]
          refine kk _ _ ⟨_, rfl, ?_, ?_, F1.tr ⟨?_, ?_, ?_⟩⟩
          · show RwV _ q (if i = x then evS π x σ i else sit π (evS π x σ i) i)
            rw [if_neg hx]; unfold sit; rw [if_neg hp]; exact RwV_up (i := i) R1 (by omega) rfl
          · unfold evH evL; rw [q1, q2, hO]
            exact ⟨by rw [up2_n (by decide)]; exact C1.1, by rw [up2_n (by decide)]; exact C1.2⟩
          · intro b h1 h2; rw [up2_n h2]
          · intro k h1 h2; rw [up2_n (by decide)]
          · intro k hk; rw [up2_k (by omega)]
    · rintro z μ ⟨m1, rfl, R1, C1, F1⟩
      have hB1 := Bk_evS (x := x) hB hπ5 (σ 45) (Nat.le_refl _)
      have e44 : evS π x σ (σ 45) 44 = σ 44 := evS_fix (by omega) b1 hπ5 _ b2
      have e45 : evS π x σ (σ 45) 45 = σ 45 := evS_fix (by omega) b1 hπ5 _ b2
      have k4 : m1 159 44 = nI (evS π x σ (σ 45) 44) := by rw [F1.2.2 44 (by omega), e44]; exact h4
      have k5 : m1 159 45 = nI (evS π x σ (σ 45) 45) := by rw [F1.2.2 45 (by omega), e45]; exact h5
      have k5' : m1 159 45 = nI (σ 45) := by rw [F1.2.2 45 (by omega)]; exact h5
      have eS := r_X7_seats (ml := ml) hG0 k4 k5 (by rw [e44]; exact b1) (by rw [e45]; exact b2)
      have x40 := R1 40 (by decide)
      have x41 := R1 41 (by decide)
      have x42 := R1 42 (by decide)
      have hs5 := seats_le hB1.1
      obtain ⟨c1, c2, c3, c4, c5, -⟩ := hB1.1
      have hfin : ∀ w, w = gon (evS π x σ (σ 45)) 40 → Q none (G, up2 (up2 m1 159 (q + 40) (nI w)) 159 (q + 42) (nI (evS π x σ (σ 45) 42 + 1)), ml) := by
        intro w hw
        rw [← hQ]
        refine ⟨_, rfl, rfl, ?_, ?_, F1.tr ⟨?_, ?_, ?_⟩⟩
        · have e9 : w = if seats (evS π x σ (σ 45)) = 0 then 0 else (evS π x σ (σ 45) 40 + evS π x σ (σ 45) 41) % seats (evS π x σ (σ 45)) := by
            rw [hw]; unfold gon; rw [upN_n (by decide), upN_s]
          unfold gon
          rw [← e9]
          exact RwV_up (RwV_up R1 (by decide) rfl) (by decide) rfl
        · exact ⟨by rw [up2_n (by decide), up2_n (by decide)]; exact C1.1, by rw [up2_n (by decide), up2_n (by decide)]; exact C1.2⟩
        · intro b h1 h2; rw [up2_n h2, up2_n h2]
        · intro k h1 h2; rw [up2_n (by decide), up2_n (by decide)]
        · intro k hk; rw [up2_k (by omega), up2_k (by omega)]
      have e9 : gon (evS π x σ (σ 45)) 40 = if seats (evS π x σ (σ 45)) = 0 then 0 else (evS π x σ (σ 45) 40 + evS π x σ (σ 45) 41) % seats (evS π x σ (σ 45)) := by
        unfold gon; rw [upN_n (by decide), upN_s]
      rw [eX7_passes_2]
      by_cases h0 : seats (evS π x σ (σ 45)) = 0
      · have hf := hfin 0 (by rw [e9, if_pos h0])
        simp (maxSteps := 1000000) (decide := true) (disch := (first | assumption | omega | exact Nat.div_mul_le_self _ _ | exact ni_nz (by omega) (by omega) | exact rfl | exact retOk_bI _ | exact retOk_0 | exact retOk_1)) only [eX7_passes_0, eX7_passes_1, eX7_passes_3, eX7_passes_4, eX7_passes_7, eX7_passes_9, eX7_passes_10, eX7_passes_13, eX7_passes_14, eX7_passes_15, eX7_passes_16, eX7_passes_19, eX7_passes_20, eX7_passes_21, eX7_passes_22, eX7_passes_25, eX7_passes_28, eX7_passes_29, eX7_passes_31, eX7_passes_34, eX7_passes_35, eX7_passes_36, eX7_passes_37, eX7_passes_38, eX7_passes_41, eX7_passes_44, eX7_passes_45, eX7_passes_46, eX7_passes_49, eX7_passes_52, eX7_passes_53, eX7_passes_54, eX7_passes_55, eX7_passes_56, eX7_passes_59, eX7_passes_62, eX7_passes_65, eX7_passes_66, eX7_passes_69, eX7_passes_70, eX7_passes_72, eX7_passes_73, eX7_passes_74, eX7_passes_77, eX7_passes_80, eX7_passes_81, eX7_passes_84, eX7_passes_85, eX7_passes_88, eX7_passes_89, eX7_passes_91, eX7_passes_92, eX7_passes_93, eX7_passes_94, eX7_passes_97, eX7_passes_98, eX7_passes_100, eX7_passes_101, eX7_passes_102, eX7_passes_103, eX7_passes_104, eX7_passes_107, eX7_passes_108, eX7_passes_109, eX7_passes_110, eX7_passes_113, eX7_passes_114, eX7_passes_116, eX7_passes_117, eX7_passes_118, eX7_passes_119, eX7_passes_120, eX7_passes_121, eX7_passes_122, g1, k5', eS, h0, x40, x41, x42, Nat.le_refl, WpR_some, Option.toList_some, Option.toList_none, List.cons_append, List.nil_append, List.append_nil, clr_n, clr_i, clr_a, ni_add, ni_mul, ni_sub, ni_lt, ni_le, ni_eq, ni_div, nat_mod_eq, ni_rem, iMax_nn, iMin_nn, iMax_sub, Nat.zero_max, bI_0, bI_1, bI_n0, up2_s, up2_n, up2_k, va_up_self, va_up_ne, ni_l, lN_mul, lN_add, ln_mask, lN_i, ↓reduceIte, if_true, if_false, not_true_eq_false, not_false_eq_true, ite_self, Nat.add_zero, Nat.zero_add, ent_def]
        exact hf
      · have hs0 : 0 < seats (evS π x σ (σ 45)) := by omega
        have hf := hfin _ (show (evS π x σ (σ 45) 40 + evS π x σ (σ 45) 41) % seats (evS π x σ (σ 45)) = _ by rw [e9, if_neg h0])
        simp (maxSteps := 1000000) (decide := true) (disch := (first | assumption | omega | exact Nat.div_mul_le_self _ _ | exact ni_nz (by omega) (by omega) | exact rfl | exact retOk_bI _ | exact retOk_0 | exact retOk_1)) only [eX7_passes_0, eX7_passes_1, eX7_passes_3, eX7_passes_4, eX7_passes_7, eX7_passes_9, eX7_passes_10, eX7_passes_13, eX7_passes_14, eX7_passes_15, eX7_passes_16, eX7_passes_19, eX7_passes_20, eX7_passes_21, eX7_passes_22, eX7_passes_25, eX7_passes_28, eX7_passes_29, eX7_passes_31, eX7_passes_34, eX7_passes_35, eX7_passes_36, eX7_passes_37, eX7_passes_38, eX7_passes_41, eX7_passes_44, eX7_passes_45, eX7_passes_46, eX7_passes_49, eX7_passes_52, eX7_passes_53, eX7_passes_54, eX7_passes_55, eX7_passes_56, eX7_passes_59, eX7_passes_62, eX7_passes_65, eX7_passes_66, eX7_passes_69, eX7_passes_70, eX7_passes_72, eX7_passes_73, eX7_passes_74, eX7_passes_77, eX7_passes_80, eX7_passes_81, eX7_passes_84, eX7_passes_85, eX7_passes_88, eX7_passes_89, eX7_passes_91, eX7_passes_92, eX7_passes_93, eX7_passes_94, eX7_passes_97, eX7_passes_98, eX7_passes_100, eX7_passes_101, eX7_passes_102, eX7_passes_103, eX7_passes_104, eX7_passes_107, eX7_passes_108, eX7_passes_109, eX7_passes_110, eX7_passes_113, eX7_passes_114, eX7_passes_116, eX7_passes_117, eX7_passes_118, eX7_passes_119, eX7_passes_120, eX7_passes_121, eX7_passes_122, g1, k5', eS, h0, x40, x41, x42, Nat.le_refl, WpR_some, Option.toList_some, Option.toList_none, List.cons_append, List.nil_append, List.append_nil, clr_n, clr_i, clr_a, ni_add, ni_mul, ni_sub, ni_lt, ni_le, ni_eq, ni_div, nat_mod_eq, ni_rem, iMax_nn, iMin_nn, iMax_sub, Nat.zero_max, bI_0, bI_1, bI_n0, up2_s, up2_n, up2_k, va_up_self, va_up_ne, ni_l, lN_mul, lN_add, ln_mask, lN_i, ↓reduceIte, if_true, if_false, not_true_eq_false, not_false_eq_true, ite_self, Nat.add_zero, Nat.zero_add, ent_def]
        exact hf
  obtain ⟨r, μ', e1, m', rfl, rfl, h2⟩ := res_ex key
  exact ⟨m', e1, h2⟩
end RF3
