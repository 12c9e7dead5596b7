theorem sim {E : EE} {l : Launch} (hE : StrOk E l) (hb0 : eb E < eB E) : ∀ n, SimB E l n := by
  intro n
  induction n with
  | zero =>
    intro M pc L S μ r μ' h
    cases h
  | succ n ih =>
    intro M pc L S μ r μ' h
    unfold exec at h
    split at h
    · cases h
    · rename_i i len hd
      split at h
      · rename_i hlen
        split at h
        · split at h
          · rename_i v ty hty
            split at h
            · rename_i hret
              cases h
              have h1 := Nat.eq_of_beq_eq_true hlen
              subst h1
              refine ⟨⟨Nat.le_refl _, Nat.le_refl _⟩, ?_⟩
              intro p e R s m args below meth c Q cells slots hC hcl hsl hend H locs ls hR hl hL hz
              rw [Nat.sub_self, Nat.sub_self] at hend
              exact hend H locs ls pc hR hl hz ⟨ty, hty, hret, hd⟩
            · cases h
          · cases h
        · split at h
          · rename_i v hty
            cases h
            have h1 := Nat.eq_of_beq_eq_true hlen
            subst h1
            refine ⟨⟨Nat.le_refl _, Nat.le_refl _⟩, ?_⟩
            intro p e R s m args below meth c Q cells slots hC hcl hsl hend H locs ls hR hl hL hz
            rw [Nat.sub_self, Nat.sub_self] at hend
            exact hend H locs ls pc hR hl hz ⟨hty, hd⟩
          · cases h
        · split at h
          · rename_i hty
            cases h
            have h1 := Nat.eq_of_beq_eq_true hlen
            subst h1
            refine ⟨⟨Nat.le_refl _, Nat.le_refl _⟩, ?_⟩
            intro p e R s m args below meth c Q cells slots hC hcl hsl hend H locs ls hR hl hL hz
            rw [Nat.sub_self, Nat.sub_self] at hend
            exact hend H locs ls pc hR hl hz ⟨hty, hd⟩
          · cases h
        · split at h
          · rename_i N nb hca
            split at h
            · rename_i hc1
              obtain ⟨hn, hrest, hrm, hrc, hsl1⟩ := hc1
              split at h
              · rename_i r1 μ1 hex
                have hok : okM N := by
                  cases i <;> simp only [calleeOf] at hca <;> (repeat' split at hca) <;> first
                    | (cases hca; done)
                    | (cases hca; rename_i h9 _; exact (mLk_ok _ (lk2_mem h9)).1)
                    | (cases hca; rename_i h9 _; exact nLk_ok _ (lk2_mem h9))
                have hl3 : len = 3 := by
                  cases i <;> first
                    | (simp only [calleeOf] at hca; cases hca; done)
                    | exact Nat.eq_of_beq_eq_true hlen
                subst hl3
                have hM := g_met hb0 ih hok hex hsl1
                have i1 := ih N 0 _ [] μ r1 μ1 hex
                have i2 := ih M (pc + 3) L _ μ1 r μ' h
                refine ⟨⟨Nat.le_trans i1.1.1 i2.1.1, Nat.le_trans i1.1.2 i2.1.2⟩, ?_⟩
                intro p e R s m args below meth c Q cells slots hC hcl hsl hend H locs ls hR hl hL hz
                have a1 := i1.1.1
                have a2 := i1.1.2
                have b1 := i2.1.1
                have b2 := i2.1.2
                have e1 : cells + (μ1.1.length - μ.1.length) + (μ'.1.length - μ1.1.length) = cells + (μ'.1.length - μ.1.length) := by omega
                have e2 : slots + (slt μ1 - slt μ) + (slt μ' - slt μ1) = slots + (slt μ' - slt μ) := by omega
                refine g_call hE hC hM hca hd rfl hn hrest hrm hrc (by omega) (by omega) hR hl hL (fun H1 locs1 hR1 hl1 => ?_)
                refine i2.2 hC (cells := cells + (μ1.1.length - μ.1.length)) (slots := slots + (slt μ1 - slt μ)) (by omega) (by omega) ?_ H1 locs1 ls hR1 hl1 hL ?_
                · rw [e1, e2]
                  exact hend
                · have c1 := hR1.2.1
                  have c2 := hR.2.1
                  have c3 := hR.1
                  omega
              · cases h
            · cases h
          · split at h
            · rename_i pc1 L1 S1 μ1 hst
              have hmo := x_mono hst
              have i2 := ih M pc1 L1 S1 μ1 r μ' h
              refine ⟨⟨Nat.le_trans hmo.1 i2.1.1, Nat.le_trans hmo.2 i2.1.2⟩, ?_⟩
              intro p e R s m args below meth c Q cells slots hC hcl hsl hend
              have a1 := hmo.1
              have a2 := hmo.2
              have b1 := i2.1.1
              have b2 := i2.1.2
              have e1 : cells + (μ1.1.length - μ.1.length) + (μ'.1.length - μ1.1.length) = cells + (μ'.1.length - μ.1.length) := by omega
              have e2 : slots + (slt μ1 - slt μ) + (slt μ' - slt μ1) = slots + (slt μ' - slt μ) := by omega
              refine z_step hE hC hd hlen hst (by omega) (by omega) ?_
              refine i2.2 hC (by omega) (by omega) ?_
              rw [e1, e2]
              exact hend
            · cases h
      · cases h
