/-! ===== 20r: the reference: readsStatement ===== -/
section Mod
variable {G : GC} {X : JX} {m : HM} {κ p t τ w x y z i k q b h c n a : Int} {A N S g F B W T f : Int → Int} {H C D : Int}
theorem opP.no {m' : HM} {tk : List Tok} {d r : Int} (h : opP m T n a k f tk d r m') (hz : r = 0) : FrR m m' ∧ ∃ a' f', (∀ l, pT T n (tk ++ l) a k f = (false, a', f')) ∧ m' 40 0 0 8 = a' ∧ 0 ≤ a' ∧ a' ≤ n :=
  ⟨h.1, h.2.elim (fun q => absurd (q.1.symm.trans hz) (by decide)) (fun q => q.2)⟩
theorem opP.ok {m' : HM} {tk : List Tok} {d r : Int} (h : opP m T n a k f tk d r m') (hz : r ≠ 0) : FrR m m' ∧ ∃ a' f', (∀ l, pT T n (tk ++ l) a k f = pT T n l a' (k + d) f') ∧ RdM m' T n a' (k + d) f' :=
  ⟨h.1, h.2.elim (fun q => q.2) (fun q => absurd q.1 hz)⟩
def rsP (m : HM) (T : Int → Int) (n a : Int) (r : Int) (m' : HM) : Prop := FrR m m' ∧ ((r = 1 ∧ (stP T n a).1 = true ∧ RdM m' T n (stP T n a).2.1 (cntS (sgn T n a)) (stP T n a).2.2) ∨ (r = 0 ∧ (stP T n a).1 = false ∧ m' 40 0 0 8 = (stP T n a).2.1 ∧ 0 ≤ (stP T n a).2.1 ∧ (stP T n a).2.1 ≤ n))
theorem rsP.no {m' : HM} {a' : Int} {f' : Int → Int} (hf : FrR m m') (he : stP T n a = (false, a', f')) (h8 : m' 40 0 0 8 = a') (hb : 0 ≤ a' ∧ a' ≤ n) : pi (rsP m T n a) (some (vi 0)) m' := ⟨0, rfl, hf, Or.inr ⟨rfl, by rw [he], by rw [he]; exact h8, by rw [he]; exact hb⟩⟩
theorem l_rs319 {k : Int} (hX : Ok_X10_readsStatement G X 4) (hk : k = cntS (sgn T n a)) (hR0 : JRt G X (pi (rsP m T n a)) (some .boolean)) : (∀ M a' f', FrR m M → RdM M T n a' k f' → stP T n a = pT T n [tkS 59] a' k f' → J G X 319 [vr 40 0 0, vi c, vi 1] [] M) ∧ (∀ M a' f', FrR m M → stP T n a = (false, a', f') → M 40 0 0 8 = a' → (0 ≤ a' ∧ a' ≤ n) → J G X 319 [vr 40 0 0, vi c, vi 0] [] M) := by
  refine ⟨fun M a' f' hfr hR he => ?_, fun M a' f' hfr he h8 hb => ?_⟩
  · refine J_iloadN hX rfl rfl dX10_readsStatement_319 ?_
    refine J_if_eq (tgt := 336) hX (by decide) dX10_readsStatement_320 (fun h1 => ?_) (fun h1 => ?_)
    · omega
    · refine J_aloadN hX rfl rfl dX10_readsStatement_323 ?_
      refine J_bipush hX (by decide) dX10_readsStatement_324 ?_
      refine cV1i hX cb_X10_takes mL_X10_76 dX10_readsStatement_326 (c_takes hR (by decide)) (fun r m2 h2 => ?_)
      refine J_if_eq (tgt := 336) hX (by decide) dX10_readsStatement_329 (fun h3 => ?_) (fun h3 => ?_)
      · obtain ⟨g2, a2, f2, e2, s2, b2⟩ := h2.no h3
        refine J_iconst hX (by decide) dX10_readsStatement_336 ?_
        refine J_zret hX hR0 dX10_readsStatement_337 (Or.inl rfl) ?_
        exact rsP.no (hfr.tr g2) (he.trans (e2 [])) s2 b2
      · obtain ⟨g2, a2, f2, e2, hR2⟩ := h2.ok h3
        have he2 : stP T n a = (true, a2, f2) := he.trans (e2 [])
        refine J_iconst hX (by decide) dX10_readsStatement_332 ?_
        refine J_goto (tgt := 337) hX (by decide) dX10_readsStatement_333 ?_
        refine J_zret hX hR0 dX10_readsStatement_337 (Or.inr rfl) ?_
        refine ⟨1, rfl, hfr.tr g2, Or.inl ⟨rfl, by rw [he2], ?_⟩⟩
        rw [he2, ← hk]
        rw [Int.add_zero] at hR2
        exact hR2
  · refine J_iloadN hX rfl rfl dX10_readsStatement_319 ?_
    refine J_if_eq (tgt := 336) hX (by decide) dX10_readsStatement_320 (fun h1 => ?_) (fun h1 => ?_)
    · refine J_iconst hX (by decide) dX10_readsStatement_336 ?_
      refine J_zret hX hR0 dX10_readsStatement_337 (Or.inl rfl) ?_
      exact rsP.no hfr he h8 hb
    · omega
theorem c_readsStatement {f0 : Int → Int} (h : RdM m T n a 0 f0) : K_X10_readsStatement G [vr 40 0 0] m (pi (rsP m T n a)) := by
  refine E_X10_readsStatement (fun X hX hR0 _ _ => ?_)
  have h64 := h.1.2.1
  have ho := h.2.2.2
  have ha := ho.1
  have hsb := sgn_b h.1 ha.1
  have go : ∀ {s : Int}, sgn T n a = s → 0 ≤ s → a < n := fun e q => sgn_in (T := T) (by omega)
  have R0 : a < n → RdM (upr m 40 0 0 (st1 (m 40 0 0) 8 (a + 1))) T n (a + 1) 0 zS := fun hlt => ⟨h.1.fr FrR.rf.f8, by rw [upr_eq, st1_eq], fun j hj => by omega, ⟨by omega, by omega, fun j => by unfold zS; omega⟩⟩
  have hfr0 : FrR m (upr m 40 0 0 (st1 (m 40 0 0) 8 (a + 1))) := FrR.rf.f8
  have K31 : ∀ s : Int, sgn T n a = s → (J G X 43 [vr 40 0 0, vi s, vi 0] [] (upr m 40 0 0 (st1 (m 40 0 0) 8 (a + 1)))) → a < n → J G X 31 [vr 40 0 0, vi s, vx] [] m := fun s e kk hlt => by
    refine J_aloadN hX rfl rfl dX10_readsStatement_31 ?_
    refine J_dup hX rfl dX10_readsStatement_32 ?_
    refine G_HalfHereModel_at hX dX10_readsStatement_33 mF_X10_66 ?_
    rw [h.2.1]
    refine J_iconst hX (by decide) dX10_readsStatement_36 ?_
    refine J_iadd hX (fun _ _ => by omega) dX10_readsStatement_37 ?_
    refine P_HalfHereModel_at hX dX10_readsStatement_38 mF_X10_66 ?_
    refine J_iconst hX (by decide) dX10_readsStatement_41 ?_
    refine siN_2 hX dX10_readsStatement_42 ?_
    exact kk
  have Kn : sgn T n a = 110 → J G X 43 [vr 40 0 0, vi 110, vi 0] [] (upr m 40 0 0 (st1 (m 40 0 0) 8 (a + 1))) := fun e => by
    have hlt := go e (by omega)
    have hR0' := R0 hlt
    have he0 : stP T n a = pT T n nToks (a + 1) 0 zS := by unfold stP; rw [if_pos e]
    have K := l_rs319 (c := 110) (k := 1) hX (by rw [e]; rfl) hR0
    refine J_iloadN hX rfl rfl dX10_readsStatement_43 ?_
    refine J_lookup (off := 36) (tgt := 80) hX rfl (by decide +kernel) (by decide) dX10_readsStatement_44 ?_
    refine J_aloadN hX rfl rfl dX10_readsStatement_80 ?_
    refine J_iconst hX (by decide) dX10_readsStatement_81 ?_
    refine J_iconst hX (by decide) dX10_readsStatement_82 ?_
    refine cV2i hX cb_X10_readsNumber mL_X10_73 dX10_readsStatement_83 (c_readsNumber (k := 0) (mx := 1) hR0' (by omega) (by omega)) (fun r1 m1 h1 => ?_)
    refine siN_2 hX dX10_readsStatement_86 ?_
    refine J_goto (tgt := 319) hX (by decide) dX10_readsStatement_87 ?_
    rcases h1.2 with ⟨rfl, a1, f1, e1, q1⟩ | ⟨rfl, a1, f1, e1, s1, b1⟩
    · exact K.1 m1 a1 f1 (hfr0.tr h1.1) q1 (he0.trans (e1 [tkS 59]))
    · exact K.2 m1 a1 f1 (hfr0.tr h1.1) (he0.trans (e1 [tkS 59])) s1 b1
  have Kw : sgn T n a = 119 → J G X 43 [vr 40 0 0, vi 119, vi 0] [] (upr m 40 0 0 (st1 (m 40 0 0) 8 (a + 1))) := fun e => by
    have hlt := go e (by omega)
    have hR0' := R0 hlt
    have he0 : stP T n a = pT T n wToks (a + 1) 0 zS := by unfold stP; rw [if_neg (by omega), if_pos e]
    have K := l_rs319 (c := 119) (k := 3) hX (by rw [e]; rfl) hR0
    have KF : ∀ M a' f', FrR m M → stP T n a = (false, a', f') → M 40 0 0 8 = a' → (0 ≤ a' ∧ a' ≤ n) → J G X 130 [vr 40 0 0, vi 119, vi 0] [] M := fun M a' f' g1 g2 g3 g4 => by
      refine J_iconst hX (by decide) dX10_readsStatement_130 ?_
      refine siN_2 hX dX10_readsStatement_131 ?_
      refine J_goto (tgt := 319) hX (by decide) dX10_readsStatement_132 ?_
      exact K.2 M a' f' g1 g2 g3 g4
    refine J_iloadN hX rfl rfl dX10_readsStatement_43 ?_
    refine J_lookup (off := 46) (tgt := 90) hX rfl (by decide +kernel) (by decide) dX10_readsStatement_44 ?_
    refine J_aloadN hX rfl rfl dX10_readsStatement_90 ?_
    refine J_iconst hX (by decide) dX10_readsStatement_91 ?_
    refine J_iconst hX (by decide) dX10_readsStatement_92 ?_
    refine cV2i hX cb_X10_readsNumber mL_X10_73 dX10_readsStatement_93 (c_readsNumber (k := 0) (mx := 1) hR0' (by omega) (by omega)) (fun r1 m1 h1 => ?_)
    refine J_if_eq (tgt := 130) hX (by decide) dX10_readsStatement_96 (fun z1 => ?_) (fun z1 => ?_)
    · obtain ⟨g, a2, f2, e2, s2, b2⟩ := h1.no z1
      exact KF m1 a2 f2 (hfr0.tr g) (he0.trans (e2 [tkN 1, tkS 44, tkN 2, tkS 59])) s2 b2
    · obtain ⟨g1, a1, f1, e1, q1⟩ := h1.ok z1
      have hfr1 := hfr0.tr g1
      have hR1' : RdM m1 T n a1 1 f1 := q1
      have he1 : stP T n a = pT T n [tkN 1, tkS 44, tkN 2, tkS 59] a1 1 f1 := he0.trans (e1 [tkN 1, tkS 44, tkN 2, tkS 59])
      refine J_aloadN hX rfl rfl dX10_readsStatement_99 ?_
      refine J_iconst hX (by decide) dX10_readsStatement_100 ?_
      refine J_iconst hX (by decide) dX10_readsStatement_101 ?_
      refine cV2i hX cb_X10_readsNumber mL_X10_73 dX10_readsStatement_102 (c_readsNumber (k := 1) (mx := 1) hR1' (by omega) (by omega)) (fun r2 m2 h2 => ?_)
      refine J_if_eq (tgt := 130) hX (by decide) dX10_readsStatement_105 (fun z2 => ?_) (fun z2 => ?_)
      · obtain ⟨g, a2, f2, e2, s2, b2⟩ := h2.no z2
        exact KF m2 a2 f2 (hfr1.tr g) (he1.trans (e2 [tkS 44, tkN 2, tkS 59])) s2 b2
      · obtain ⟨g2, a2, f2, e2, q2⟩ := h2.ok z2
        have hfr2 := hfr1.tr g2
        have hR2' : RdM m2 T n a2 2 f2 := q2
        have he2 : stP T n a = pT T n [tkS 44, tkN 2, tkS 59] a2 2 f2 := he1.trans (e2 [tkS 44, tkN 2, tkS 59])
        refine J_aloadN hX rfl rfl dX10_readsStatement_108 ?_
        refine J_bipush hX (by decide) dX10_readsStatement_109 ?_
        refine cV1i hX cb_X10_takes mL_X10_76 dX10_readsStatement_111 (c_takes (k := 2) hR2' (by decide)) (fun r3 m3 h3 => ?_)
        refine J_if_eq (tgt := 130) hX (by decide) dX10_readsStatement_114 (fun z3 => ?_) (fun z3 => ?_)
        · obtain ⟨g, a2, f2, e2, s2, b2⟩ := h3.no z3
          exact KF m3 a2 f2 (hfr2.tr g) (he2.trans (e2 [tkN 2, tkS 59])) s2 b2
        · obtain ⟨g3, a3, f3, e3, q3⟩ := h3.ok z3
          have hfr3 := hfr2.tr g3
          have hR3' : RdM m3 T n a3 2 f3 := q3
          have he3 : stP T n a = pT T n [tkN 2, tkS 59] a3 2 f3 := he2.trans (e3 [tkN 2, tkS 59])
          refine J_aloadN hX rfl rfl dX10_readsStatement_117 ?_
          refine J_iconst hX (by decide) dX10_readsStatement_118 ?_
          refine J_iconst hX (by decide) dX10_readsStatement_119 ?_
          refine cV2i hX cb_X10_readsNumber mL_X10_73 dX10_readsStatement_120 (c_readsNumber (k := 2) (mx := 2) hR3' (by omega) (by omega)) (fun r4 m4 h4 => ?_)
          refine J_if_eq (tgt := 130) hX (by decide) dX10_readsStatement_123 (fun z4 => ?_) (fun z4 => ?_)
          · obtain ⟨g, a2, f2, e2, s2, b2⟩ := h4.no z4
            exact KF m4 a2 f2 (hfr3.tr g) (he3.trans (e2 [tkS 59])) s2 b2
          · obtain ⟨g4, a4, f4, e4, q4⟩ := h4.ok z4
            have hfr4 := hfr3.tr g4
            have hR4' : RdM m4 T n a4 3 f4 := q4
            have he4 : stP T n a = pT T n [tkS 59] a4 3 f4 := he3.trans (e4 [tkS 59])
            refine J_iconst hX (by decide) dX10_readsStatement_126 ?_
            refine J_goto (tgt := 131) hX (by decide) dX10_readsStatement_127 ?_
            refine siN_2 hX dX10_readsStatement_131 ?_
            refine J_goto (tgt := 319) hX (by decide) dX10_readsStatement_132 ?_
            exact K.1 m4 a4 f4 hfr4 hR4' he4
  have Kp : sgn T n a = 112 → J G X 43 [vr 40 0 0, vi 112, vi 0] [] (upr m 40 0 0 (st1 (m 40 0 0) 8 (a + 1))) := fun e => by
    have hlt := go e (by omega)
    have hR0' := R0 hlt
    have he0 : stP T n a = pT T n pToks (a + 1) 0 zS := by unfold stP; rw [if_neg (by omega), if_neg (by omega), if_pos e]
    have K := l_rs319 (c := 112) (k := 4) hX (by rw [e]; rfl) hR0
    have KF : ∀ M a' f', FrR m M → stP T n a = (false, a', f') → M 40 0 0 8 = a' → (0 ≤ a' ∧ a' ≤ n) → J G X 202 [vr 40 0 0, vi 112, vi 0] [] M := fun M a' f' g1 g2 g3 g4 => by
      refine J_iconst hX (by decide) dX10_readsStatement_202 ?_
      refine siN_2 hX dX10_readsStatement_203 ?_
      refine J_goto (tgt := 319) hX (by decide) dX10_readsStatement_204 ?_
      exact K.2 M a' f' g1 g2 g3 g4
    refine J_iloadN hX rfl rfl dX10_readsStatement_43 ?_
    refine J_lookup (off := 91) (tgt := 135) hX rfl (by decide +kernel) (by decide) dX10_readsStatement_44 ?_
    refine J_aloadN hX rfl rfl dX10_readsStatement_135 ?_
    refine J_iconst hX (by decide) dX10_readsStatement_136 ?_
    refine J_iconst hX (by decide) dX10_readsStatement_137 ?_
    refine cV2i hX cb_X10_readsNumber mL_X10_73 dX10_readsStatement_138 (c_readsNumber (k := 0) (mx := 2) hR0' (by omega) (by omega)) (fun r1 m1 h1 => ?_)
    refine J_if_eq (tgt := 202) hX (by decide) dX10_readsStatement_141 (fun z1 => ?_) (fun z1 => ?_)
    · obtain ⟨g, a2, f2, e2, s2, b2⟩ := h1.no z1
      exact KF m1 a2 f2 (hfr0.tr g) (he0.trans (e2 [tkS 44, tkN 2, tkS 44, tkN 2, tkS 44, tkN 2, tkS 59])) s2 b2
    · obtain ⟨g1, a1, f1, e1, q1⟩ := h1.ok z1
      have hfr1 := hfr0.tr g1
      have hR1' : RdM m1 T n a1 1 f1 := q1
      have he1 : stP T n a = pT T n [tkS 44, tkN 2, tkS 44, tkN 2, tkS 44, tkN 2, tkS 59] a1 1 f1 := he0.trans (e1 [tkS 44, tkN 2, tkS 44, tkN 2, tkS 44, tkN 2, tkS 59])
      refine J_aloadN hX rfl rfl dX10_readsStatement_144 ?_
      refine J_bipush hX (by decide) dX10_readsStatement_145 ?_
      refine cV1i hX cb_X10_takes mL_X10_76 dX10_readsStatement_147 (c_takes (k := 1) hR1' (by decide)) (fun r2 m2 h2 => ?_)
      refine J_if_eq (tgt := 202) hX (by decide) dX10_readsStatement_150 (fun z2 => ?_) (fun z2 => ?_)
      · obtain ⟨g, a2, f2, e2, s2, b2⟩ := h2.no z2
        exact KF m2 a2 f2 (hfr1.tr g) (he1.trans (e2 [tkN 2, tkS 44, tkN 2, tkS 44, tkN 2, tkS 59])) s2 b2
      · obtain ⟨g2, a2, f2, e2, q2⟩ := h2.ok z2
        have hfr2 := hfr1.tr g2
        have hR2' : RdM m2 T n a2 1 f2 := q2
        have he2 : stP T n a = pT T n [tkN 2, tkS 44, tkN 2, tkS 44, tkN 2, tkS 59] a2 1 f2 := he1.trans (e2 [tkN 2, tkS 44, tkN 2, tkS 44, tkN 2, tkS 59])
        refine J_aloadN hX rfl rfl dX10_readsStatement_153 ?_
        refine J_iconst hX (by decide) dX10_readsStatement_154 ?_
        refine J_iconst hX (by decide) dX10_readsStatement_155 ?_
        refine cV2i hX cb_X10_readsNumber mL_X10_73 dX10_readsStatement_156 (c_readsNumber (k := 1) (mx := 2) hR2' (by omega) (by omega)) (fun r3 m3 h3 => ?_)
        refine J_if_eq (tgt := 202) hX (by decide) dX10_readsStatement_159 (fun z3 => ?_) (fun z3 => ?_)
        · obtain ⟨g, a2, f2, e2, s2, b2⟩ := h3.no z3
          exact KF m3 a2 f2 (hfr2.tr g) (he2.trans (e2 [tkS 44, tkN 2, tkS 44, tkN 2, tkS 59])) s2 b2
        · obtain ⟨g3, a3, f3, e3, q3⟩ := h3.ok z3
          have hfr3 := hfr2.tr g3
          have hR3' : RdM m3 T n a3 2 f3 := q3
          have he3 : stP T n a = pT T n [tkS 44, tkN 2, tkS 44, tkN 2, tkS 59] a3 2 f3 := he2.trans (e3 [tkS 44, tkN 2, tkS 44, tkN 2, tkS 59])
          refine J_aloadN hX rfl rfl dX10_readsStatement_162 ?_
          refine J_bipush hX (by decide) dX10_readsStatement_163 ?_
          refine cV1i hX cb_X10_takes mL_X10_76 dX10_readsStatement_165 (c_takes (k := 2) hR3' (by decide)) (fun r4 m4 h4 => ?_)
          refine J_if_eq (tgt := 202) hX (by decide) dX10_readsStatement_168 (fun z4 => ?_) (fun z4 => ?_)
          · obtain ⟨g, a2, f2, e2, s2, b2⟩ := h4.no z4
            exact KF m4 a2 f2 (hfr3.tr g) (he3.trans (e2 [tkN 2, tkS 44, tkN 2, tkS 59])) s2 b2
          · obtain ⟨g4, a4, f4, e4, q4⟩ := h4.ok z4
            have hfr4 := hfr3.tr g4
            have hR4' : RdM m4 T n a4 2 f4 := q4
            have he4 : stP T n a = pT T n [tkN 2, tkS 44, tkN 2, tkS 59] a4 2 f4 := he3.trans (e4 [tkN 2, tkS 44, tkN 2, tkS 59])
            refine J_aloadN hX rfl rfl dX10_readsStatement_171 ?_
            refine J_iconst hX (by decide) dX10_readsStatement_172 ?_
            refine J_iconst hX (by decide) dX10_readsStatement_173 ?_
            refine cV2i hX cb_X10_readsNumber mL_X10_73 dX10_readsStatement_174 (c_readsNumber (k := 2) (mx := 2) hR4' (by omega) (by omega)) (fun r5 m5 h5 => ?_)
            refine J_if_eq (tgt := 202) hX (by decide) dX10_readsStatement_177 (fun z5 => ?_) (fun z5 => ?_)
            · obtain ⟨g, a2, f2, e2, s2, b2⟩ := h5.no z5
              exact KF m5 a2 f2 (hfr4.tr g) (he4.trans (e2 [tkS 44, tkN 2, tkS 59])) s2 b2
            · obtain ⟨g5, a5, f5, e5, q5⟩ := h5.ok z5
              have hfr5 := hfr4.tr g5
              have hR5' : RdM m5 T n a5 3 f5 := q5
              have he5 : stP T n a = pT T n [tkS 44, tkN 2, tkS 59] a5 3 f5 := he4.trans (e5 [tkS 44, tkN 2, tkS 59])
              refine J_aloadN hX rfl rfl dX10_readsStatement_180 ?_
              refine J_bipush hX (by decide) dX10_readsStatement_181 ?_
              refine cV1i hX cb_X10_takes mL_X10_76 dX10_readsStatement_183 (c_takes (k := 3) hR5' (by decide)) (fun r6 m6 h6 => ?_)
              refine J_if_eq (tgt := 202) hX (by decide) dX10_readsStatement_186 (fun z6 => ?_) (fun z6 => ?_)
              · obtain ⟨g, a2, f2, e2, s2, b2⟩ := h6.no z6
                exact KF m6 a2 f2 (hfr5.tr g) (he5.trans (e2 [tkN 2, tkS 59])) s2 b2
              · obtain ⟨g6, a6, f6, e6, q6⟩ := h6.ok z6
                have hfr6 := hfr5.tr g6
                have hR6' : RdM m6 T n a6 3 f6 := q6
                have he6 : stP T n a = pT T n [tkN 2, tkS 59] a6 3 f6 := he5.trans (e6 [tkN 2, tkS 59])
                refine J_aloadN hX rfl rfl dX10_readsStatement_189 ?_
                refine J_iconst hX (by decide) dX10_readsStatement_190 ?_
                refine J_iconst hX (by decide) dX10_readsStatement_191 ?_
                refine cV2i hX cb_X10_readsNumber mL_X10_73 dX10_readsStatement_192 (c_readsNumber (k := 3) (mx := 2) hR6' (by omega) (by omega)) (fun r7 m7 h7 => ?_)
                refine J_if_eq (tgt := 202) hX (by decide) dX10_readsStatement_195 (fun z7 => ?_) (fun z7 => ?_)
                · obtain ⟨g, a2, f2, e2, s2, b2⟩ := h7.no z7
                  exact KF m7 a2 f2 (hfr6.tr g) (he6.trans (e2 [tkS 59])) s2 b2
                · obtain ⟨g7, a7, f7, e7, q7⟩ := h7.ok z7
                  have hfr7 := hfr6.tr g7
                  have hR7' : RdM m7 T n a7 4 f7 := q7
                  have he7 : stP T n a = pT T n [tkS 59] a7 4 f7 := he6.trans (e7 [tkS 59])
                  refine J_iconst hX (by decide) dX10_readsStatement_198 ?_
                  refine J_goto (tgt := 203) hX (by decide) dX10_readsStatement_199 ?_
                  refine siN_2 hX dX10_readsStatement_203 ?_
                  refine J_goto (tgt := 319) hX (by decide) dX10_readsStatement_204 ?_
                  exact K.1 m7 a7 f7 hfr7 hR7' he7
  have Kk : sgn T n a = 107 → J G X 43 [vr 40 0 0, vi 107, vi 0] [] (upr m 40 0 0 (st1 (m 40 0 0) 8 (a + 1))) := fun e => by
    have hlt := go e (by omega)
    have hR' := R0 hlt
    have he : stP T n a = pT T n kToks (a + 1) 0 zS := by unfold stP; rw [if_neg (by omega), if_neg (by omega), if_neg (by omega), if_pos e]
    have K := l_rs319 (c := 107) (k := 6) hX (by rw [e]; rfl) hR0
    have KF : ∀ M a' f', FrR m M → stP T n a = (false, a', f') → M 40 0 0 8 = a' → (0 ≤ a' ∧ a' ≤ n) → J G X 317 [vr 40 0 0, vi 107, vi 0] [] M := fun M a' f' g1 g2 g3 g4 => by
      refine J_iconst hX (by decide) dX10_readsStatement_317 ?_
      refine siN_2 hX dX10_readsStatement_318 ?_
      exact K.2 M a' f' g1 g2 g3 g4
    have hkb := kdOf_b (sgn T n (a + 1))
    refine J_iloadN hX rfl rfl dX10_readsStatement_43 ?_
    refine J_lookup (off := 163) (tgt := 207) hX rfl (by decide +kernel) (by decide) dX10_readsStatement_44 ?_
    refine J_aloadN hX rfl rfl dX10_readsStatement_207 ?_
    refine G_HalfHereModel_told hX dX10_readsStatement_208 mF_X10_25 ?_
    refine J_iconst hX (by decide) dX10_readsStatement_211 ?_
    refine J_aloadN hX rfl rfl dX10_readsStatement_212 ?_
    refine cV0w hX cb_X10_sign mL_X10_69 dX10_readsStatement_213 (c_sign hR'.1 hR'.2.1 (by omega)) ?_
    refine cS1w hX cb_X10_kindOf mL_X10_80 dX10_readsStatement_216 (c_kindOf) ?_
    refine S_46 hX (by omega) dX10_readsStatement_219 ?_
    refine J_aloadN hX rfl rfl dX10_readsStatement_220 ?_
    refine G_HalfHereModel_told hX dX10_readsStatement_221 mF_X10_25 ?_
    refine J_iconst hX (by decide) dX10_readsStatement_224 ?_
    refine L_46 hX (by omega) dX10_readsStatement_225 ?_
    rw [upr_eq, st1_eq]
    refine J_if_ge (tgt := 231) hX (by decide) dX10_readsStatement_226 (fun z0 => ?_) (fun z0 => ?_)
    · have hlt2 : a + 1 < n := sgn_in (T := T) (kdOf_in z0)
      have hfr0 := (FrR.t46 hfr0 (v := 0) (i := 0) (f := st1 (upr m 40 0 0 (st1 (m 40 0 0) 8 (a + 1)) 46 0 0) 0 (kdOf (sgn T n (a + 1))))).f8 (x := a + 1 + 1)
      have he0 : stP T n a = pT T n [tkN 1, tkN 3, tkS 44, tkN 3, tkS 44, tkN 3, tkS 44, tkN 2, tkS 59] (a + 1 + 1) 1 (st1 zS 0 (kdOf (sgn T n (a + 1)))) := he.trans (if_neg (by omega))
      refine J_aloadN hX rfl rfl dX10_readsStatement_231 ?_
      refine J_dup hX rfl dX10_readsStatement_232 ?_
      refine G_HalfHereModel_at hX dX10_readsStatement_233 mF_X10_66 ?_
      refine J_iconst hX (by decide) dX10_readsStatement_236 ?_
      rw [upr_tag (by decide), hR'.2.1]
      refine J_iadd hX (fun _ _ => by omega) dX10_readsStatement_237 ?_
      refine P_HalfHereModel_at hX dX10_readsStatement_238 mF_X10_66 ?_
      obtain ⟨M0, hM0⟩ : ∃ M0, M0 = upr (upr (upr m 40 0 0 (st1 (m 40 0 0) 8 (a + 1))) 46 0 0 (st1 (upr m 40 0 0 (st1 (m 40 0 0) 8 (a + 1)) 46 0 0) 0 (kdOf (sgn T n (a + 1))))) 40 0 0 (st1 (upr (upr m 40 0 0 (st1 (m 40 0 0) 8 (a + 1))) 46 0 0 (st1 (upr m 40 0 0 (st1 (m 40 0 0) 8 (a + 1)) 46 0 0) 0 (kdOf (sgn T n (a + 1)))) 40 0 0) 8 (a + 1 + 1)) := ⟨_, rfl⟩
      have hR0' : RdM M0 T n (a + 1 + 1) 1 (st1 zS 0 (kdOf (sgn T n (a + 1)))) := by
        rw [hM0]
        refine ⟨h.1.fr hfr0, by rw [upr_eq, st1_eq], fun j hj => ?_, ⟨by omega, by omega, fun j => ?_⟩⟩
        · rw [upr_tag (by decide), upr_eq, show j = 0 by omega, st1_eq, st1_eq]
        · by_cases q : j = 0
          · rw [q, st1_eq]; exact z0
          · rw [st1_ne q]; unfold zS; omega
      rw [← hM0] at hfr0 ⊢
      refine J_aloadN hX rfl rfl dX10_readsStatement_241 ?_
      refine J_iconst hX (by decide) dX10_readsStatement_242 ?_
      refine J_iconst hX (by decide) dX10_readsStatement_243 ?_
      refine cV2i hX cb_X10_readsNumber mL_X10_73 dX10_readsStatement_244 (c_readsNumber (k := 1) (mx := 1) hR0' (by omega) (by omega)) (fun r1 m1 h1 => ?_)
      refine J_if_eq (tgt := 317) hX (by decide) dX10_readsStatement_247 (fun z1 => ?_) (fun z1 => ?_)
      · obtain ⟨g, a2, f2, e2, s2, b2⟩ := h1.no z1
        exact KF m1 a2 f2 (hfr0.tr g) (he0.trans (e2 [tkN 3, tkS 44, tkN 3, tkS 44, tkN 3, tkS 44, tkN 2, tkS 59])) s2 b2
      · obtain ⟨g1, a1, f1, e1, q1⟩ := h1.ok z1
        have hfr1 := hfr0.tr g1
        have hR1' : RdM m1 T n a1 2 f1 := q1
        have he1 : stP T n a = pT T n [tkN 3, tkS 44, tkN 3, tkS 44, tkN 3, tkS 44, tkN 2, tkS 59] a1 2 f1 := he0.trans (e1 [tkN 3, tkS 44, tkN 3, tkS 44, tkN 3, tkS 44, tkN 2, tkS 59])
        refine J_aloadN hX rfl rfl dX10_readsStatement_250 ?_
        refine J_iconst hX (by decide) dX10_readsStatement_251 ?_
        refine J_iconst hX (by decide) dX10_readsStatement_252 ?_
        refine cV2i hX cb_X10_readsNumber mL_X10_73 dX10_readsStatement_253 (c_readsNumber (k := 2) (mx := 3) hR1' (by omega) (by omega)) (fun r2 m2 h2 => ?_)
        refine J_if_eq (tgt := 317) hX (by decide) dX10_readsStatement_256 (fun z2 => ?_) (fun z2 => ?_)
        · obtain ⟨g, a2, f2, e2, s2, b2⟩ := h2.no z2
          exact KF m2 a2 f2 (hfr1.tr g) (he1.trans (e2 [tkS 44, tkN 3, tkS 44, tkN 3, tkS 44, tkN 2, tkS 59])) s2 b2
        · obtain ⟨g2, a2, f2, e2, q2⟩ := h2.ok z2
          have hfr2 := hfr1.tr g2
          have hR2' : RdM m2 T n a2 3 f2 := q2
          have he2 : stP T n a = pT T n [tkS 44, tkN 3, tkS 44, tkN 3, tkS 44, tkN 2, tkS 59] a2 3 f2 := he1.trans (e2 [tkS 44, tkN 3, tkS 44, tkN 3, tkS 44, tkN 2, tkS 59])
          refine J_aloadN hX rfl rfl dX10_readsStatement_259 ?_
          refine J_bipush hX (by decide) dX10_readsStatement_260 ?_
          refine cV1i hX cb_X10_takes mL_X10_76 dX10_readsStatement_262 (c_takes (k := 3) hR2' (by decide)) (fun r3 m3 h3 => ?_)
          refine J_if_eq (tgt := 317) hX (by decide) dX10_readsStatement_265 (fun z3 => ?_) (fun z3 => ?_)
          · obtain ⟨g, a2, f2, e2, s2, b2⟩ := h3.no z3
            exact KF m3 a2 f2 (hfr2.tr g) (he2.trans (e2 [tkN 3, tkS 44, tkN 3, tkS 44, tkN 2, tkS 59])) s2 b2
          · obtain ⟨g3, a3, f3, e3, q3⟩ := h3.ok z3
            have hfr3 := hfr2.tr g3
            have hR3' : RdM m3 T n a3 3 f3 := q3
            have he3 : stP T n a = pT T n [tkN 3, tkS 44, tkN 3, tkS 44, tkN 2, tkS 59] a3 3 f3 := he2.trans (e3 [tkN 3, tkS 44, tkN 3, tkS 44, tkN 2, tkS 59])
            refine J_aloadN hX rfl rfl dX10_readsStatement_268 ?_
            refine J_iconst hX (by decide) dX10_readsStatement_269 ?_
            refine J_iconst hX (by decide) dX10_readsStatement_270 ?_
            refine cV2i hX cb_X10_readsNumber mL_X10_73 dX10_readsStatement_271 (c_readsNumber (k := 3) (mx := 3) hR3' (by omega) (by omega)) (fun r4 m4 h4 => ?_)
            refine J_if_eq (tgt := 317) hX (by decide) dX10_readsStatement_274 (fun z4 => ?_) (fun z4 => ?_)
            · obtain ⟨g, a2, f2, e2, s2, b2⟩ := h4.no z4
              exact KF m4 a2 f2 (hfr3.tr g) (he3.trans (e2 [tkS 44, tkN 3, tkS 44, tkN 2, tkS 59])) s2 b2
            · obtain ⟨g4, a4, f4, e4, q4⟩ := h4.ok z4
              have hfr4 := hfr3.tr g4
              have hR4' : RdM m4 T n a4 4 f4 := q4
              have he4 : stP T n a = pT T n [tkS 44, tkN 3, tkS 44, tkN 2, tkS 59] a4 4 f4 := he3.trans (e4 [tkS 44, tkN 3, tkS 44, tkN 2, tkS 59])
              refine J_aloadN hX rfl rfl dX10_readsStatement_277 ?_
              refine J_bipush hX (by decide) dX10_readsStatement_278 ?_
              refine cV1i hX cb_X10_takes mL_X10_76 dX10_readsStatement_280 (c_takes (k := 4) hR4' (by decide)) (fun r5 m5 h5 => ?_)
              refine J_if_eq (tgt := 317) hX (by decide) dX10_readsStatement_283 (fun z5 => ?_) (fun z5 => ?_)
              · obtain ⟨g, a2, f2, e2, s2, b2⟩ := h5.no z5
                exact KF m5 a2 f2 (hfr4.tr g) (he4.trans (e2 [tkN 3, tkS 44, tkN 2, tkS 59])) s2 b2
              · obtain ⟨g5, a5, f5, e5, q5⟩ := h5.ok z5
                have hfr5 := hfr4.tr g5
                have hR5' : RdM m5 T n a5 4 f5 := q5
                have he5 : stP T n a = pT T n [tkN 3, tkS 44, tkN 2, tkS 59] a5 4 f5 := he4.trans (e5 [tkN 3, tkS 44, tkN 2, tkS 59])
                refine J_aloadN hX rfl rfl dX10_readsStatement_286 ?_
                refine J_iconst hX (by decide) dX10_readsStatement_287 ?_
                refine J_iconst hX (by decide) dX10_readsStatement_288 ?_
                refine cV2i hX cb_X10_readsNumber mL_X10_73 dX10_readsStatement_289 (c_readsNumber (k := 4) (mx := 3) hR5' (by omega) (by omega)) (fun r6 m6 h6 => ?_)
                refine J_if_eq (tgt := 317) hX (by decide) dX10_readsStatement_292 (fun z6 => ?_) (fun z6 => ?_)
                · obtain ⟨g, a2, f2, e2, s2, b2⟩ := h6.no z6
                  exact KF m6 a2 f2 (hfr5.tr g) (he5.trans (e2 [tkS 44, tkN 2, tkS 59])) s2 b2
                · obtain ⟨g6, a6, f6, e6, q6⟩ := h6.ok z6
                  have hfr6 := hfr5.tr g6
                  have hR6' : RdM m6 T n a6 5 f6 := q6
                  have he6 : stP T n a = pT T n [tkS 44, tkN 2, tkS 59] a6 5 f6 := he5.trans (e6 [tkS 44, tkN 2, tkS 59])
                  refine J_aloadN hX rfl rfl dX10_readsStatement_295 ?_
                  refine J_bipush hX (by decide) dX10_readsStatement_296 ?_
                  refine cV1i hX cb_X10_takes mL_X10_76 dX10_readsStatement_298 (c_takes (k := 5) hR6' (by decide)) (fun r7 m7 h7 => ?_)
                  refine J_if_eq (tgt := 317) hX (by decide) dX10_readsStatement_301 (fun z7 => ?_) (fun z7 => ?_)
                  · obtain ⟨g, a2, f2, e2, s2, b2⟩ := h7.no z7
                    exact KF m7 a2 f2 (hfr6.tr g) (he6.trans (e2 [tkN 2, tkS 59])) s2 b2
                  · obtain ⟨g7, a7, f7, e7, q7⟩ := h7.ok z7
                    have hfr7 := hfr6.tr g7
                    have hR7' : RdM m7 T n a7 5 f7 := q7
                    have he7 : stP T n a = pT T n [tkN 2, tkS 59] a7 5 f7 := he6.trans (e7 [tkN 2, tkS 59])
                    refine J_aloadN hX rfl rfl dX10_readsStatement_304 ?_
                    refine J_iconst hX (by decide) dX10_readsStatement_305 ?_
                    refine J_iconst hX (by decide) dX10_readsStatement_306 ?_
                    refine cV2i hX cb_X10_readsNumber mL_X10_73 dX10_readsStatement_307 (c_readsNumber (k := 5) (mx := 2) hR7' (by omega) (by omega)) (fun r8 m8 h8 => ?_)
                    refine J_if_eq (tgt := 317) hX (by decide) dX10_readsStatement_310 (fun z8 => ?_) (fun z8 => ?_)
                    · obtain ⟨g, a2, f2, e2, s2, b2⟩ := h8.no z8
                      exact KF m8 a2 f2 (hfr7.tr g) (he7.trans (e2 [tkS 59])) s2 b2
                    · obtain ⟨g8, a8, f8, e8, q8⟩ := h8.ok z8
                      have hfr8 := hfr7.tr g8
                      have hR8' : RdM m8 T n a8 6 f8 := q8
                      have he8 : stP T n a = pT T n [tkS 59] a8 6 f8 := he7.trans (e8 [tkS 59])
                      refine J_iconst hX (by decide) dX10_readsStatement_313 ?_
                      refine J_goto (tgt := 318) hX (by decide) dX10_readsStatement_314 ?_
                      refine siN_2 hX dX10_readsStatement_318 ?_
                      exact K.1 m8 a8 f8 hfr8 hR8' he8
    · refine J_iconst hX (by decide) dX10_readsStatement_229 ?_
      refine J_zret hX hR0 dX10_readsStatement_230 (Or.inl rfl) ?_
      exact rsP.no (hfr0.t46) (he.trans (if_pos (by omega))) (by rw [upr_tag (by decide), upr_eq, st1_eq]) ⟨by omega, by omega⟩
  refine J_aloadN hX rfl rfl dX10_readsStatement_0 ?_
  refine cV0w hX cb_X10_sign mL_X10_69 dX10_readsStatement_1 (c_sign h.1 h.2.1 ha.1) ?_
  refine siN_1 hX dX10_readsStatement_4 ?_
  refine J_iloadN hX rfl rfl dX10_readsStatement_5 ?_
  refine J_bipush hX (by decide) dX10_readsStatement_6 ?_
  refine J_icmp_eq (tgt := 31) hX (by decide) dX10_readsStatement_8 (fun c1 => ?_) (fun c1 => ?_)
  · rw [c1]
    exact K31 110 c1 (Kn c1) (go c1 (by omega))
  · refine J_iloadN hX rfl rfl dX10_readsStatement_11 ?_
    refine J_bipush hX (by decide) dX10_readsStatement_12 ?_
    refine J_icmp_eq (tgt := 31) hX (by decide) dX10_readsStatement_14 (fun c2 => ?_) (fun c2 => ?_)
    · rw [c2]
      exact K31 119 c2 (Kw c2) (go c2 (by omega))
    · refine J_iloadN hX rfl rfl dX10_readsStatement_17 ?_
      refine J_bipush hX (by decide) dX10_readsStatement_18 ?_
      refine J_icmp_eq (tgt := 31) hX (by decide) dX10_readsStatement_20 (fun c3 => ?_) (fun c3 => ?_)
      · rw [c3]
        exact K31 112 c3 (Kp c3) (go c3 (by omega))
      · refine J_iloadN hX rfl rfl dX10_readsStatement_23 ?_
        refine J_bipush hX (by decide) dX10_readsStatement_24 ?_
        refine J_icmp_eq (tgt := 31) hX (by decide) dX10_readsStatement_26 (fun c4 => ?_) (fun c4 => ?_)
        · rw [c4]
          exact K31 107 c4 (Kk c4) (go c4 (by omega))
        · refine J_iconst hX (by decide) dX10_readsStatement_29 ?_
          refine J_zret hX hR0 dX10_readsStatement_30 (Or.inl rfl) ?_
          exact rsP.no FrR.rf (by unfold stP; rw [if_neg c1, if_neg c2, if_neg c3, if_neg c4]) h.2.1 ha
end Mod
