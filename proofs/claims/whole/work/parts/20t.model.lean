/-! ===== 20t: the reference: a person, a work, a way comes ===== -/
section Mod
variable {G : GC} {X : JX} {m : HM} {κ p t τ w x y z i k q b h c n a : Int} {A N S g F B W T f : Int → Int} {H C D : Int}
def cmP (m : HM) (ok : Prop) (A' : Int → Int) (r : Int) (m' : HM) : Prop := (r = 1 ∧ ok ∧ m' = upr m 44 0 0 A') ∨ (r = 0 ∧ ¬ ok ∧ m' = m)
theorem cmP.no {m : HM} {ok : Prop} {A' : Int → Int} (hn : ¬ ok) : pi (cmP m ok A') (some (vi 0)) m := ⟨0, rfl, Or.inr ⟨rfl, hn, rfl⟩⟩
theorem at44 (A : Int → Int) : upr m 44 0 0 A 44 0 0 = A := upr_eq _ _ _ _ _
theorem up44 (A B : Int → Int) : upr (upr m 44 0 0 A) 44 0 0 B = upr m 44 0 0 B := upr_upr _ _ _ _ _ _
theorem l_cp3 {to : Int} (hX : Ok_X10_comesPerson G X 3) (hA : m 44 0 0 = B) (hto : to = 99 + 7 * i) (hi : inN i 24) (hx : inN p 6) (h1B : B 1 = p) (K : ∀ b, J G X 186 [vr 40 0 0, vi i, vi p, vi to, b] [] (upr m 44 0 0 (st1 (lay B to 7 (newP p)) 1 (p + 1)))) : ∀ k, 0 ≤ k → k ≤ 7 → J G X 122 [vr 40 0 0, vi i, vi p, vi to, vi k] [] (upr m 44 0 0 (lay B to k (fun _ => 0))) := by
  refine up_to (fun k h1 h2 ih => ?_)
  refine J_iload hX rfl dX10_comesPerson_122 ?_
  refine J_bipush hX (by decide) dX10_comesPerson_124 ?_
  refine J_icmp_ge (tgt := 145) hX (by decide) dX10_comesPerson_126 (fun h3 => ?_) (fun h3 => ?_)
  · have e : k = 7 := by omega
    subst e
    have eL : st1 (st1 (st1 (lay B to 7 (fun _ => 0)) (to + 0) (p + 1)) (to + 1) 12) (to + 3) (-9) = lay B to 7 (newP p) := by
      funext j
      by_cases q3 : j = to + 3
      · rw [q3, st1_eq, lay_in (by omega)]; rfl
      · rw [st1_ne q3]
        by_cases q1 : j = to + 1
        · rw [q1, st1_eq, lay_in (by omega)]; rfl
        · rw [st1_ne q1]
          by_cases q0 : j = to + 0
          · rw [q0, st1_eq, lay_in (by omega)]; rfl
          · rw [st1_ne q0]
            unfold lay
            by_cases q : to ≤ j ∧ j < to + 7
            · rw [if_pos q, if_pos q]
              unfold newP
              rw [if_neg (by omega), if_neg (by omega), if_neg (by omega)]
            · rw [if_neg q, if_neg q]
    refine J_aloadN hX rfl rfl dX10_comesPerson_145 ?_
    refine G_HalfHereModel_read hX dX10_comesPerson_146 mF_X10_19 ?_
    refine J_iloadN hX rfl rfl dX10_comesPerson_149 ?_
    refine J_iconst hX (by decide) dX10_comesPerson_150 ?_
    refine J_iadd hX (fun _ _ => by omega) dX10_comesPerson_151 ?_
    refine J_iloadN hX rfl rfl dX10_comesPerson_152 ?_
    refine J_iconst hX (by decide) dX10_comesPerson_153 ?_
    refine J_iadd hX (fun _ _ => by omega) dX10_comesPerson_154 ?_
    refine S_44 hX (by omega) dX10_comesPerson_155 ?_
    refine J_aloadN hX rfl rfl dX10_comesPerson_156 ?_
    refine G_HalfHereModel_read hX dX10_comesPerson_157 mF_X10_19 ?_
    refine J_iloadN hX rfl rfl dX10_comesPerson_160 ?_
    refine J_iconst hX (by decide) dX10_comesPerson_161 ?_
    refine J_iadd hX (fun _ _ => by omega) dX10_comesPerson_162 ?_
    refine J_bipush hX (by decide) dX10_comesPerson_163 ?_
    refine S_44 hX (by omega) dX10_comesPerson_165 ?_
    refine J_aloadN hX rfl rfl dX10_comesPerson_166 ?_
    refine G_HalfHereModel_read hX dX10_comesPerson_167 mF_X10_19 ?_
    refine J_iloadN hX rfl rfl dX10_comesPerson_170 ?_
    refine J_iconst hX (by decide) dX10_comesPerson_171 ?_
    refine J_iadd hX (fun _ _ => by omega) dX10_comesPerson_172 ?_
    refine J_bipush hX (by decide) dX10_comesPerson_173 ?_
    refine S_44 hX (by omega) dX10_comesPerson_175 ?_
    refine J_aloadN hX rfl rfl dX10_comesPerson_176 ?_
    refine G_HalfHereModel_read hX dX10_comesPerson_177 mF_X10_19 ?_
    refine J_iconst hX (by decide) dX10_comesPerson_180 ?_
    refine J_dup2 hX rfl rfl dX10_comesPerson_181 ?_
    refine L_44 hX (by omega) dX10_comesPerson_182 ?_
    simp only [at44, up44]
    rw [eL, lay_out (by omega), h1B]
    refine J_iconst hX (by decide) dX10_comesPerson_183 ?_
    refine J_iadd hX (fun _ _ => by omega) dX10_comesPerson_184 ?_
    refine S_44 hX (by omega) dX10_comesPerson_185 ?_
    rw [at44, up44]
    exact K _
  · have nx := ih h3
    rw [← lay_s h1] at nx
    refine J_aloadN hX rfl rfl dX10_comesPerson_129 ?_
    refine G_HalfHereModel_read hX dX10_comesPerson_130 mF_X10_19 ?_
    refine J_iloadN hX rfl rfl dX10_comesPerson_133 ?_
    refine J_iload hX rfl dX10_comesPerson_134 ?_
    refine J_iadd hX (fun _ _ => by omega) dX10_comesPerson_136 ?_
    refine J_iconst hX (by decide) dX10_comesPerson_137 ?_
    refine S_44 hX (by omega) dX10_comesPerson_138 ?_
    refine sinc_4 hX (fun _ => by omega) dX10_comesPerson_139 ?_
    refine J_goto (tgt := 122) hX (by decide) dX10_comesPerson_142 ?_
    rw [at44, up44]
    exact nx
theorem l_cp2 {fi : Int} (hX : Ok_X10_comesPerson G X 3) (hA : m 44 0 0 = B) (hp : inN p 6) (K : ∀ b, J G X 111 [vr 40 0 0, vi fi, vi p, b, vx] [] (upr m 44 0 0 (lay B (39 + 4 * p) 4 (m 46 0 0)))) : ∀ k, 0 ≤ k → k ≤ 4 → J G X 81 [vr 40 0 0, vi fi, vi p, vi k, vx] [] (upr m 44 0 0 (lay B (39 + 4 * p) k (m 46 0 0))) := by
  refine up_to (fun k h1 h2 ih => ?_)
  refine J_iloadN hX rfl rfl dX10_comesPerson_81 ?_
  refine J_iconst hX (by decide) dX10_comesPerson_82 ?_
  refine J_icmp_ge (tgt := 111) hX (by decide) dX10_comesPerson_83 (fun h3 => ?_) (fun h3 => ?_)
  · have e : k = 4 := by omega
    subst e
    exact K _
  · have nx := ih h3
    rw [← lay_s h1] at nx
    refine J_aloadN hX rfl rfl dX10_comesPerson_86 ?_
    refine G_HalfHereModel_read hX dX10_comesPerson_87 mF_X10_19 ?_
    refine J_bipush hX (by decide) dX10_comesPerson_90 ?_
    refine J_iconst hX (by decide) dX10_comesPerson_92 ?_
    refine J_iloadN hX rfl rfl dX10_comesPerson_93 ?_
    refine J_imul hX (fun _ _ => by omega) dX10_comesPerson_94 ?_
    refine J_iadd hX (fun _ _ => by omega) dX10_comesPerson_95 ?_
    refine J_iloadN hX rfl rfl dX10_comesPerson_96 ?_
    refine J_iadd hX (fun _ _ => by omega) dX10_comesPerson_97 ?_
    refine J_aloadN hX rfl rfl dX10_comesPerson_98 ?_
    refine G_HalfHereModel_told hX dX10_comesPerson_99 mF_X10_25 ?_
    refine J_iloadN hX rfl rfl dX10_comesPerson_102 ?_
    refine L_46 hX (by omega) dX10_comesPerson_103 ?_
    refine S_44 hX (by omega) dX10_comesPerson_104 ?_
    refine sinc_3 hX (fun _ => by omega) dX10_comesPerson_105 ?_
    refine J_goto (tgt := 81) hX (by decide) dX10_comesPerson_108 ?_
    rw [at44, up44, upr_tag (by decide)]
    exact nx
theorem l_cp1 {fi : Int} {ok : Prop} (hX : Ok_X10_comesPerson G X 3) (hok : ok → ∀ k, inN k 3 → m 46 0 0 k ≤ 60) (K34 : (∀ k, inN k 3 → m 46 0 0 k ≤ 60) → ∀ b, J G X 34 [vr 40 0 0, vi fi, b, vx, vx] [] m) {A' : Int → Int} (hR0 : JRt G X (pi (cmP m ok A')) (some .boolean)) : ∀ k, 0 ≤ k → k ≤ 3 → (∀ j, inN j k → m 46 0 0 j ≤ 60) → J G X 10 [vr 40 0 0, vi fi, vi k, vx, vx] [] m := by
  refine up_to (fun k h1 h2 ih hs => ?_)
  refine J_iloadN hX rfl rfl dX10_comesPerson_10 ?_
  refine J_iconst hX (by decide) dX10_comesPerson_11 ?_
  refine J_icmp_ge (tgt := 34) hX (by decide) dX10_comesPerson_12 (fun h3 => ?_) (fun h3 => ?_)
  · exact K34 (fun j hj => hs j (by omega)) _
  · refine J_aloadN hX rfl rfl dX10_comesPerson_15 ?_
    refine G_HalfHereModel_told hX dX10_comesPerson_16 mF_X10_25 ?_
    refine J_iloadN hX rfl rfl dX10_comesPerson_19 ?_
    refine L_46 hX (by omega) dX10_comesPerson_20 ?_
    refine J_bipush hX (by decide) dX10_comesPerson_21 ?_
    refine J_icmp_le (tgt := 28) hX (by decide) dX10_comesPerson_23 (fun h4 => ?_) (fun h4 => ?_)
    · refine sinc_2 hX (fun _ => by omega) dX10_comesPerson_28 ?_
      refine J_goto (tgt := 10) hX (by decide) dX10_comesPerson_31 ?_
      exact ih h3 (fun j hj => by
        by_cases q : j = k
        · rw [q]; exact h4
        · exact hs j (by omega))
    · refine J_iconst hX (by decide) dX10_comesPerson_26 ?_
      refine J_zret hX hR0 dX10_comesPerson_27 (Or.inl rfl) ?_
      exact cmP.no (fun q => by have := hok q k ⟨h1, h3⟩; omega)
theorem c_comesPerson (hA : m 44 0 0 = A) (hI : InvA A C D) : K_X10_comesPerson G [vr 40 0 0] m (pi (cmP m (okPer A (m 46 0 0)) (upPer A (m 46 0 0)))) := by
  refine E_X10_comesPerson (fun X hX hR0 hr _ => ?_)
  have h0 := hI.1
  have n70 : ¬ okPer A (m 46 0 0) → ∀ a b c d, J G X 70 [vr 40 0 0, a, b, c, d] [] m := fun hn a b c d => by
    refine J_iconst hX (by decide) dX10_comesPerson_70 ?_
    refine J_zret hX hR0 dX10_comesPerson_71 (Or.inl rfl) ?_
    exact cmP.no hn
  refine J_aloadN hX rfl rfl dX10_comesPerson_0 ?_
  refine G_HalfHereModel_read hX dX10_comesPerson_1 mF_X10_19 ?_
  refine cS1w hX cb_X10_free mL_X10_83 dX10_comesPerson_4 (c_free (Or.inr rfl) hA hI) ?_
  refine siN_1 hX dX10_comesPerson_7 ?_
  refine J_iconst hX (by decide) dX10_comesPerson_8 ?_
  refine siN_2 hX dX10_comesPerson_9 ?_
  refine l_cp1 hX (fun q k hk => ?_) (fun hs b => ?_) hR0 0 (by omega) (by omega) (fun j hj => by omega)
  · have := q.1
    rcases (show k = 0 ∨ k = 1 ∨ k = 2 by omega) with rfl | rfl | rfl <;> omega
  · refine J_aloadN hX rfl rfl dX10_comesPerson_34 ?_
    refine G_HalfHereModel_told hX dX10_comesPerson_35 mF_X10_25 ?_
    refine J_iconst hX (by decide) dX10_comesPerson_38 ?_
    refine L_46 hX (by omega) dX10_comesPerson_39 ?_
    refine J_iconst hX (by decide) dX10_comesPerson_40 ?_
    refine J_icmp_lt (tgt := 70) hX (by decide) dX10_comesPerson_41 (fun h1 => ?_) (fun h1 => ?_)
    · exact n70 (fun q => by have := q.2.1; omega) _ _ _ _
    · refine J_aloadN hX rfl rfl dX10_comesPerson_44 ?_
      refine G_HalfHereModel_told hX dX10_comesPerson_45 mF_X10_25 ?_
      refine J_iconst hX (by decide) dX10_comesPerson_48 ?_
      refine L_46 hX (by omega) dX10_comesPerson_49 ?_
      refine J_bipush hX (by decide) dX10_comesPerson_50 ?_
      refine J_icmp_gt (tgt := 70) hX (by decide) dX10_comesPerson_52 (fun h2 => ?_) (fun h2 => ?_)
      · exact n70 (fun q => by have := q.2.1; omega) _ _ _ _
      · refine J_aloadN hX rfl rfl dX10_comesPerson_55 ?_
        refine G_HalfHereModel_read hX dX10_comesPerson_56 mF_X10_19 ?_
        refine J_iconst hX (by decide) dX10_comesPerson_59 ?_
        refine L_44 hX (by omega) dX10_comesPerson_60 ?_
        refine J_bipush hX (by decide) dX10_comesPerson_61 ?_
        rw [hA]
        refine J_icmp_eq (tgt := 70) hX (by decide) dX10_comesPerson_63 (fun h3 => ?_) (fun h3 => ?_)
        · exact n70 (fun q => by have := q.2.2.1; omega) _ _ _ _
        · refine J_iloadN hX rfl rfl dX10_comesPerson_66 ?_
          refine J_if_ge (tgt := 72) hX (by decide) dX10_comesPerson_67 (fun h4 => ?_) (fun h4 => ?_)
          · have hfp := fp_z A
            have ht : inN (fpA A (-1)) 24 := by omega
            have e9 : fpA A (-9) = fpA A (-1) := by omega
            have ok : okPer A (m 46 0 0) := ⟨⟨hs 0 (by omega), hs 1 (by omega), hs 2 (by omega)⟩, by omega, by omega, ht⟩
            rw [e9]
            refine J_aloadN hX rfl rfl dX10_comesPerson_72 ?_
            refine G_HalfHereModel_read hX dX10_comesPerson_73 mF_X10_19 ?_
            refine J_iconst hX (by decide) dX10_comesPerson_76 ?_
            refine L_44 hX (by omega) dX10_comesPerson_77 ?_
            refine siN_2 hX dX10_comesPerson_78 ?_
            refine J_iconst hX (by decide) dX10_comesPerson_79 ?_
            refine siN_3 hX dX10_comesPerson_80 ?_
            rw [hA]
            have k2 := l_cp2 (fi := fpA A (-1)) hX hA (show inN (A 1) 6 by omega) (fun b => by
              have k3 := l_cp3 (m := upr m 44 0 0 (lay A (39 + 4 * A 1) 4 (m 46 0 0))) (to := 99 + 7 * fpA A (-1)) hX (at44 _) rfl ht (show inN (A 1) 6 by omega) (lay_out (by omega)) (fun b => by
                refine J_iconst hX (by decide) dX10_comesPerson_186 ?_
                refine J_zret hX hR0 dX10_comesPerson_187 (Or.inr rfl) ?_
                refine ⟨1, rfl, Or.inl ⟨rfl, ok, ?_⟩⟩
                rw [up44]
                rfl) 0 (by omega) (by omega)
              rw [up44, lay_0] at k3
              refine J_bipush hX (by decide) dX10_comesPerson_111 ?_
              refine J_bipush hX (by decide) dX10_comesPerson_113 ?_
              refine J_iloadN hX rfl rfl dX10_comesPerson_115 ?_
              refine J_imul hX (fun _ _ => by omega) dX10_comesPerson_116 ?_
              refine J_iadd hX (fun _ _ => by omega) dX10_comesPerson_117 ?_
              refine siN_3 hX dX10_comesPerson_118 ?_
              refine J_iconst hX (by decide) dX10_comesPerson_119 ?_
              refine si_4 hX dX10_comesPerson_120 ?_
              exact k3) 0 (by omega) (by omega)
            rw [lay_0, show upr m 44 0 0 A = m by rw [← hA]; exact upr_self _ _ _ _] at k2
            exact k2
          · skip
            exact n70 (fun q => by have := fp_z A; have := q.2.2.2; omega) _ _ _ _
end Mod
