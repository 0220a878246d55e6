/-! ===== 20p: the reference: chance, whole ===== -/
theorem tw_cnt {A : Int → Int} {C D p : Int} (hI : InvA A C D) (n : Nat) : cntI (fun i => aOf A i p) n ≤ sumI (twA A p) n ∧ sumI (twA A p) n ≤ 12 * cntI (fun i => aOf A i p) n := by
  induction n with
  | zero =>
    show (0 : Int) ≤ 0 ∧ (0 : Int) ≤ 12 * 0
    omega
  | succ n ih =>
    rw [show ((n + 1 : Nat) : Int) = (n : Int) + 1 by omega, sumI_s (by omega)]
    by_cases q : aOf A n p
    · have hs := hI.share q.1
      have e : twA A p n = aP A n 1 := ifP_pos q
      rw [cntI_t (P := fun i => aOf A i p) (by omega) q, e]
      omega
    · have e : twA A p n = 0 := ifP_neg q
      rw [cntI_f (P := fun i => aOf A i p) (by omega) q, e]
      omega
section Mod
variable {G : GC} {X : JX} {m : HM} {κ p t τ w x y z i k q b h : Int} {A N S g F B W : Int → Int} {H C D : Int}
theorem chR_no {r : Int} (hr : r = rfChance A p h x y) (h0 : r ≠ 0) : chR A p h x y = 4000000000000000000 - r ∧ chM m (rfChance A p h x y) = refM m 41 r := by
  unfold chR chM
  rw [← hr, if_neg h0, if_neg h0]
  exact ⟨rfl, rfl⟩
theorem c_mchance (hA : m 42 0 0 = A) (hI : InvA A C D) (hf : few41 m) : K_X10_chance G [vr 40 0 0, vi p, vi h, vi x, vi y] m (pw (vl (chR A p h x y)) (chM m (rfChance A p h x y))) := by
  refine E_X10_chance (fun X hX hR0 _ _ => ?_)
  have h0 := hI.1
  have K196 : ∀ r a6 a7 a8 i b, r = rfChance A p h x y → r ≠ 0 → -6 ≤ r ∧ r ≤ -1 → J G X 196 [vr 40 0 0, vi p, vi h, vi x, vi y, vi r, vi a6, vi a7, vi a8, i, b, vx, vx, vx, vx, vx] [] m := fun r a6 a7 a8 i b hr hr0 hrb => by
    obtain ⟨e1, e2⟩ := chR_no (m := m) hr hr0
    rw [e1, e2] at hR0
    refine J_iload hX rfl dX10_chance_196 ?_
    refine J_if_eq (tgt := 213) hX (by decide) dX10_chance_198 (fun h1 => ?_) (fun h1 => ?_)
    · exact absurd h1 hr0
    · refine J_ldc2 (n := 4000000000000000000) hX mQ_X10_231 rfl rfl (by decide) dX10_chance_201 ?_
      refine J_aloadN hX rfl rfl dX10_chance_204 ?_
      refine J_iload hX rfl dX10_chance_205 ?_
      refine cV1w hX cb_X10_refuse mL_X10_62 dX10_chance_207 (c_mrefuse (by omega) (hf _ (by omega))) ?_
      refine J_i2l hX dX10_chance_210 ?_
      refine J_lsub hX (fun _ _ => by omega) dX10_chance_211 ?_
      exact J_lret hX hR0 dX10_chance_212 (⟨rfl, rfl⟩)
  have K41 : ∀ r, r = rfChance A p h x y → r ≠ 0 → -6 ≤ r ∧ r ≤ -1 → J G X 41 [vr 40 0 0, vi p, vi h, vi x, vi y, vx, vx, vx, vx, vx, vx, vx, vx, vx, vx, vx] [vi r] m := fun r hr hr0 hrb => by
    refine si_5 hX dX10_chance_41 ?_
    refine J_iconst hX (by decide) dX10_chance_43 ?_
    refine si_6 hX dX10_chance_44 ?_
    refine J_iconst hX (by decide) dX10_chance_46 ?_
    refine si_7 hX dX10_chance_47 ?_
    refine J_iconst hX (by decide) dX10_chance_49 ?_
    refine si_8 hX dX10_chance_50 ?_
    refine J_iconst hX (by decide) dX10_chance_52 ?_
    refine si_9 hX dX10_chance_53 ?_
    refine J_iload hX rfl dX10_chance_55 ?_
    refine J_bipush hX (by decide) dX10_chance_57 ?_
    refine J_icmp_ge (tgt := 163) hX (by decide) dX10_chance_59 (fun h1 => ?_) (fun h1 => ?_)
    · omega
    · refine J_iload hX rfl dX10_chance_62 ?_
      refine J_if_ne (tgt := 163) hX (by decide) dX10_chance_64 (fun h2 => ?_) (fun h2 => ?_)
      · refine J_iload hX rfl dX10_chance_163 ?_
        refine J_if_ne (tgt := 196) hX (by decide) dX10_chance_165 (fun h3 => ?_) (fun h3 => ?_)
        · exact K196 r _ _ _ _ _ hr hr0 hrb
        · exact absurd (by omega) hr0
      · exact absurd (by omega) hr0
  refine J_aloadN hX rfl rfl dX10_chance_0 ?_
  refine J_iloadN hX rfl rfl dX10_chance_1 ?_
  refine cV1w hX cb_X10_isPerson mL_X10_103 dX10_chance_2 (c_isPerson hA) ?_
  refine J_ifb_ne (tgt := 12) hX (by decide) dX10_chance_5 (fun h1 => ?_) (fun h1 => ?_)
  · refine J_iloadN hX rfl rfl dX10_chance_12 ?_
    refine J_iconst hX (by decide) dX10_chance_13 ?_
    refine cS2w hX cb_X10_isIn mL_X10_46 dX10_chance_14 (c_isIn) ?_
    have K29 : ¬ (inN x 2 ∧ inN y 2) → J G X 29 [vr 40 0 0, vi p, vi h, vi x, vi y, vx, vx, vx, vx, vx, vx, vx, vx, vx, vx, vx] [] m := fun h2 => by
      refine J_bipush hX (by decide) dX10_chance_29 ?_
      refine J_goto (tgt := 41) hX (by decide) dX10_chance_31 ?_
      exact K41 _ (by unfold rfChance; rw [if_pos h1, if_neg h2]) (by omega) (by omega)
    refine J_ifb_eq (tgt := 29) hX (by decide) dX10_chance_17 (fun h2 => ?_) (fun h2 => ?_)
    · exact K29 (fun q => h2 q.1)
    · refine J_iload hX rfl dX10_chance_20 ?_
      refine J_iconst hX (by decide) dX10_chance_22 ?_
      refine cS2w hX cb_X10_isIn mL_X10_46 dX10_chance_23 (c_isIn) ?_
      refine J_ifb_ne (tgt := 34) hX (by decide) dX10_chance_26 (fun h3 => ?_) (fun h3 => ?_)
      · refine J_iloadN hX rfl rfl dX10_chance_34 ?_
        refine J_iconst hX (by decide) dX10_chance_35 ?_
        refine J_bipush hX (by decide) dX10_chance_36 ?_
        refine cS3w hX cb_X10_within mL_X10_54 dX10_chance_38 (c_within) ?_
        have e : rfChance A p h x y = if h < 0 then -4 else if 100 < h then -6 else if 9 < awA A p then -6 else if cntI (fun i => aOf A i p) 24 = 0 then -3 else 0 := by
          unfold rfChance
          rw [if_pos h1, if_pos ⟨h2, h3⟩]
        by_cases q1 : h < 0
        · rw [if_pos q1] at e ⊢
          exact K41 _ e.symm (by omega) (by omega)
        · rw [if_neg q1] at e ⊢
          by_cases q2 : 100 < h
          · rw [if_pos q2] at e ⊢
            exact K41 _ e.symm (by omega) (by omega)
          · rw [if_neg q2] at e ⊢
            refine si_5 hX dX10_chance_41 ?_
            refine J_iconst hX (by decide) dX10_chance_43 ?_
            refine si_6 hX dX10_chance_44 ?_
            refine J_iconst hX (by decide) dX10_chance_46 ?_
            refine si_7 hX dX10_chance_47 ?_
            refine J_iconst hX (by decide) dX10_chance_49 ?_
            refine si_8 hX dX10_chance_50 ?_
            refine J_iconst hX (by decide) dX10_chance_52 ?_
            refine si_9 hX dX10_chance_53 ?_
            refine l_ch1 hX hA hI h1 (fun i b => ?_) 0 (by omega) (by omega) _
            have b3 := cntI_b (P := fun i => aOf A i p ∧ aP A i 2 ≠ 0) (n := 24) (by omega)
            obtain ⟨b1, b2⟩ := tw_b (p := p) (i := 24) hI (by omega)
            have b4 := tw_cnt (p := p) hI 24
            have b5 : hmA A p 24 + sumI (twW A p) 24 = sumI (twA A p) 24 := by unfold hmA; omega
            have b6 : cntI (fun i => aOf A i p ∧ aP A i 2 ≠ 0) 24 = awA A p := rfl
            rw [b6] at b3
            have eN : ((24 : Nat) : Int) = 24 := rfl
            rw [eN] at b4
            refine J_iload hX rfl dX10_chance_163 ?_
            refine J_if_ne (tgt := 196) hX (by decide) dX10_chance_165 (fun h4 => ?_) (fun h4 => ?_)
            · omega
            · refine J_iload hX rfl dX10_chance_168 ?_
              refine J_bipush hX (by decide) dX10_chance_170 ?_
              refine J_icmp_le (tgt := 180) hX (by decide) dX10_chance_172 (fun h5 => ?_) (fun h5 => ?_)
              · rw [if_neg (by omega)] at e
                refine J_iload hX rfl dX10_chance_180 ?_
                refine J_iload hX rfl dX10_chance_182 ?_
                refine J_iadd hX (fun _ _ => by omega) dX10_chance_184 ?_
                refine J_if_ne (tgt := 193) hX (by decide) dX10_chance_185 (fun h6 => ?_) (fun h6 => ?_)
                · rw [if_neg (by omega)] at e
                  refine J_iconst hX (by decide) dX10_chance_193 ?_
                  refine si_5 hX dX10_chance_194 ?_
                  refine J_iload hX rfl dX10_chance_196 ?_
                  refine J_if_eq (tgt := 213) hX (by decide) dX10_chance_198 (fun h7 => ?_) (fun h7 => ?_)
                  · exact l_ch3 hX hI e (by omega) h2 h3 h5 hR0 _ _
                  · omega
                · rw [if_pos (by omega)] at e
                  refine J_bipush hX (by decide) dX10_chance_188 ?_
                  refine J_goto (tgt := 194) hX (by decide) dX10_chance_190 ?_
                  refine si_5 hX dX10_chance_194 ?_
                  exact K196 _ _ _ _ _ _ e.symm (by omega) (by omega)
              · rw [if_pos (by omega)] at e
                refine J_bipush hX (by decide) dX10_chance_175 ?_
                refine J_goto (tgt := 194) hX (by decide) dX10_chance_177 ?_
                refine si_5 hX dX10_chance_194 ?_
                exact K196 _ _ _ _ _ _ e.symm (by omega) (by omega)
      · exact K29 (fun q => h3 q.2)
  · refine J_iconst hX (by decide) dX10_chance_8 ?_
    refine J_goto (tgt := 41) hX (by decide) dX10_chance_9 ?_
    exact K41 _ (by unfold rfChance; rw [if_neg h1]) (by omega) (by omega)
end Mod
