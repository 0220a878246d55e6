/-! ===== 32a: the class's Company: bestTwo ===== -/
theorem gcI_dvd {a b : Int} (ha : 0 ≤ a) (hb : 0 ≤ b) : a / gcI a b * gcI a b = a ∧ b / gcI a b * gcI a b = b := by
  have h1 : gcI a b ∣ a := by
    have := Nat.gcd_dvd_left a.toNat b.toNat
    have h2 := Int.natCast_dvd_natCast.mpr this
    rw [Int.toNat_of_nonneg ha] at h2
    exact h2
  have h2 : gcI a b ∣ b := by
    have := Nat.gcd_dvd_right a.toNat b.toNat
    have h2 := Int.natCast_dvd_natCast.mpr this
    rw [Int.toNat_of_nonneg hb] at h2
    exact h2
  exact ⟨Int.ediv_mul_cancel h1, Int.ediv_mul_cancel h2⟩
def red1 (u v : Int) : Int := u / gcI u v
def red2 (u v : Int) : Int := v / gcI u v
theorem red_b {u v : Int} (hu : 0 ≤ u ∧ u ≤ 60000) (hv : 1 ≤ v ∧ v ≤ 2400) : (0 ≤ red1 u v ∧ red1 u v ≤ 60000) ∧ (1 ≤ red2 u v ∧ red2 u v ≤ 2400) := by
  have hg := gcI_pos (a := u) (b := v) (Or.inr (by omega))
  have hd := gcI_dvd (a := u) (b := v) hu.1 (by omega)
  have r1 := Int.ediv_nonneg hu.1 (Int.le_of_lt hg)
  have r2 := Int.ediv_le_self (gcI u v) hu.1
  have r3 := Int.ediv_nonneg (show 0 ≤ v by omega) (Int.le_of_lt hg)
  have r4 := Int.ediv_le_self (gcI u v) (show 0 ≤ v by omega)
  unfold red1 red2
  refine ⟨by omega, ?_, by omega⟩
  rcases Int.lt_or_le 0 (v / gcI u v) with h | h
  · omega
  · have e : v / gcI u v = 0 := by omega
    rw [e] at hd
    omega
theorem red_cmp {u v u0 v0 : Int} (hu : 0 ≤ u) (hv : 1 ≤ v) (hu0 : 0 ≤ u0) (hv0 : 1 ≤ v0) : (red1 u0 v0 * red2 u v < red1 u v * red2 u0 v0) ↔ u0 * v < u * v0 := by
  have hg := gcI_pos (a := u) (b := v) (Or.inr (by omega))
  have hg0 := gcI_pos (a := u0) (b := v0) (Or.inr (by omega))
  have hd := gcI_dvd (a := u) (b := v) hu (by omega)
  have hd0 := gcI_dvd (a := u0) (b := v0) hu0 (by omega)
  have hp : 0 < gcI u v * gcI u0 v0 := Int.mul_pos hg hg0
  have e1 : u0 * v = red1 u0 v0 * red2 u v * (gcI u v * gcI u0 v0) := by
    unfold red1 red2
    conv => lhs; rw [← hd0.1, ← hd.2]
    ac_rfl
  have e2 : u * v0 = red1 u v * red2 u0 v0 * (gcI u v * gcI u0 v0) := by
    unfold red1 red2
    conv => lhs; rw [← hd.1, ← hd0.2]
    ac_rfl
  rw [e1, e2]
  exact ⟨fun h => Int.mul_lt_mul_of_pos_right h hp, fun h => Int.lt_of_mul_lt_mul_right h (Int.le_of_lt hp)⟩
section Co
variable {G : GC} {X : JX} {m : HM} {κ p t τ w x y z i k q b v e : Int} {A N S g F : Int → Int} {H C D : Int}
def okU (s : Int × Int × Int) : Prop := okT s ∧ (s.1 = -9 ∨ 0 ≤ s.1)
theorem okU_T {a : Int} {s : Int × Int × Int} (hI : InvA A C D) (hw : inN w (A 2)) (ha : inN a (A 1)) (hb : inN b (A 1)) (h : okU s) : okU (wiT A w a b s) := by
  refine ⟨okT_T hI hw ha hb h.1, ?_⟩
  unfold wiT
  split
  · exact h.2
  · exact Or.inr (by show 0 ≤ 10 * a + b; omega)
theorem l_two1 {m0 : HM} {s0 : Int × Int × Int} {a : Int} (hX : Ok_X0_bestTwo G X 5) (hR : RelV m0 v A) (hI : InvA A C D) (hw : inN w (A 2)) (ha : inN a (A 1)) (K151 : ∀ M s c, FrE 4 m0 M → okU s → wiI A w a s0 = s → J G X 151 [vr 29 0 0, vr 1 v 0, vr 11 v w, vi s.1, vi (red1 s.2.1 s.2.2), vi (red2 s.2.1 s.2.2), vi a, c] [] M) : ∀ i, a + 1 ≤ i → i ≤ A 1 → ∀ M s, FrE 4 m0 M → okU s → wiI A w a s0 = rfI (fun b s => wiT A w a b s) i (A 1) s → J G X 27 [vr 29 0 0, vr 1 v 0, vr 11 v w, vi s.1, vi (red1 s.2.1 s.2.2), vi (red2 s.2.1 s.2.2), vi a, vi i] [] M := by
  have h0 := hI.1
  refine up_to (fun i h1 h2 ih M s hfr hs he => ?_)
  have hV := hR.frE hfr
  refine J_iload hX rfl dX0_bestTwo_27 ?_
  refine J_aloadN hX rfl rfl dX0_bestTwo_29 ?_
  refine G_Village_personCount hX dX0_bestTwo_30 mF_X0_25 ?_
  rw [hV.1.2.1]
  refine J_icmp_ge (tgt := 151) hX (by decide) dX0_bestTwo_33 (fun h3 => ?_) (fun h3 => ?_)
  · exact K151 M s _ hfr hs (by rw [he, rfI_0 (by omega)])
  · have hi : inN i (A 1) := ⟨by omega, by omega⟩
    have ga := (hI.2.2.1 a ha).2.2
    have gi := (hI.2.2.1 i hi).2.2
    have ok := wi_ok hI hw ha hi
    have wb := wiW_b hI hw ha hi
    have okn := okU_T hI hw ha hi hs
    have hκ := (hI.2.2.2.1 w hw).1
    have hWo := hV.2.2.2.1 w hw
    have rb := red_b hs.1.2.1 hs.1.2.2
    have rb2 := red_b wb.1 wb.2
    have rc := red_cmp (u := (wiW A w a i).1) (v := (wiW A w a i).2) (u0 := s.2.1) (v0 := s.2.2) wb.1.1 wb.2.1 hs.1.2.1.1 hs.1.2.2.1
    rw [rfI_s (by omega)] at he
    have nx := fun M' hfr' => ih (by omega) M' _ hfr' okn he
    have K118 : ∀ M', FrE 4 m0 M' → M' 17 4 0 4 = red1 (wiW A w a i).1 (wiW A w a i).2 → M' 17 4 0 5 = red2 (wiW A w a i).1 (wiW A w a i).2 → ¬ (0 ≤ s.1 ∧ (wiW A w a i).1 * s.2.2 ≤ s.2.1 * (wiW A w a i).2) → J G X 118 [vr 29 0 0, vr 1 v 0, vr 11 v w, vi s.1, vi (red1 s.2.1 s.2.2), vi (red2 s.2.1 s.2.2), vi a, vi i] [] M' := fun M' hfr' e1 e2 hn => by
      have e : wiT A w a i s = (10 * a + i, (wiW A w a i).1, (wiW A w a i).2) := if_neg hn
      have nx' := nx M' hfr'
      rw [e] at nx'
      refine J_bipush hX (by decide) dX0_bestTwo_118 ?_
      refine J_iload hX rfl dX0_bestTwo_120 ?_
      refine J_imul hX (fun _ _ => by omega) dX0_bestTwo_122 ?_
      refine J_iload hX rfl dX0_bestTwo_123 ?_
      refine J_iadd hX (fun _ _ => by omega) dX0_bestTwo_125 ?_
      refine siN_3 hX dX0_bestTwo_126 ?_
      refine J_aloadN hX rfl rfl dX0_bestTwo_127 ?_
      refine G_Company_effort hX dX0_bestTwo_128 mF_X0_21 ?_
      refine G_Effort_above hX dX0_bestTwo_131 mF_X0_82 ?_
      refine si_4 hX dX0_bestTwo_134 ?_
      refine J_aloadN hX rfl rfl dX0_bestTwo_136 ?_
      refine G_Company_effort hX dX0_bestTwo_137 mF_X0_21 ?_
      refine G_Effort_below hX dX0_bestTwo_140 mF_X0_85 ?_
      refine si_5 hX dX0_bestTwo_143 ?_
      rw [e1, e2]
      refine sinc_7 hX (fun _ => by omega) dX0_bestTwo_145 ?_
      refine J_goto (tgt := 27) hX (by decide) dX0_bestTwo_148 ?_
      exact nx'
    refine J_aloadN hX rfl rfl dX0_bestTwo_36 ?_
    refine G_Company_effort hX dX0_bestTwo_37 mF_X0_21 ?_
    refine J_aloadN hX rfl rfl dX0_bestTwo_40 ?_
    refine cV1u hX cb_X1_begin mL_X0_57 dX0_bestTwo_41 (c_begin hWo.1 hWo.2.2.2) (fun m2 hm2 => ?_)
    have hfr2 := hfr.tr hm2.1
    have hv2 := ((hR.frE hfr2).2.2.1 a ha).2
    refine J_aloadN hX rfl rfl dX0_bestTwo_44 ?_
    refine G_Company_effort hX dX0_bestTwo_45 mF_X0_21 ?_
    refine J_iload hX rfl dX0_bestTwo_48 ?_
    refine J_aloadN hX rfl rfl dX0_bestTwo_50 ?_
    refine G_Village_persons hX dX0_bestTwo_51 mF_X0_61 ?_
    refine J_iload hX rfl dX0_bestTwo_54 ?_
    refine A_6 hX (by omega) dX0_bestTwo_56 ?_
    refine J_bipush hX (by decide) dX0_bestTwo_57 ?_
    refine J_iconst hX (by decide) dX0_bestTwo_59 ?_
    refine cV4u hX cb_X1_add mL_X0_65 dX0_bestTwo_60 (c_add (g := aG A a) hm2.2 (fun k hk => by omega) (by omega) hκ (by omega) (fun k hk => ⟨hv2 k hk, ga k hk⟩) (by omega) (by omega)) (fun m3 hm3 => ?_)
    have hfr3 := hfr2.tr hm3.1
    have hv3 := ((hR.frE hfr3).2.2.1 i hi).2
    refine J_aloadN hX rfl rfl dX0_bestTwo_63 ?_
    refine G_Company_effort hX dX0_bestTwo_64 mF_X0_21 ?_
    refine J_iload hX rfl dX0_bestTwo_67 ?_
    refine J_aloadN hX rfl rfl dX0_bestTwo_69 ?_
    refine G_Village_persons hX dX0_bestTwo_70 mF_X0_61 ?_
    refine J_iload hX rfl dX0_bestTwo_73 ?_
    refine A_6 hX (by omega) dX0_bestTwo_75 ?_
    refine J_bipush hX (by decide) dX0_bestTwo_76 ?_
    refine J_iconst hX (by decide) dX0_bestTwo_78 ?_
    refine cV4u hX cb_X1_add mL_X0_65 dX0_bestTwo_79 (c_add (g := aG A i) hm3.2 (fun k hk => by have := gv_b (κ := aW A w 0) (w := k) (ga k hk) (t := 12) (by omega) (τ := 0) (by omega); show 0 ≤ 0 + gv (aW A w 0) k (aG A a k) 12 0 ∧ 0 + gv (aW A w 0) k (aG A a k) 12 0 ≤ 38000; omega) (orI_b (by omega) (p2_b (by omega)).1) hκ (by omega) (fun k hk => ⟨hv3 k hk, gi k hk⟩) (by omega) (by omega)) (fun m4 hm4 => ?_)
    have hfr4 := hfr3.tr hm4.1
    have hr4 : RelE m4 4 (aW A w 0) (nW A w) (wiS A (aW A w 0) a i) (wiH a i) := ⟨hm4.2.1, hm4.2.2.1, hm4.2.2.2.1, fun k hk => by rw [hm4.2.2.2.2 k hk]; unfold wiS; show 0 + gv (aW A w 0) k (aG A a k) 12 0 + gv (aW A w 0) k (aG A i k) 12 0 = _; omega⟩
    refine J_aloadN hX rfl rfl dX0_bestTwo_82 ?_
    refine G_Company_effort hX dX0_bestTwo_83 mF_X0_21 ?_
    refine cV0u hX cb_X1_weigh mL_X0_79 dX0_bestTwo_86 (c_weigh hr4 ok.1 ok.2) (fun m5 hm5 => ?_)
    have hfr5 := hfr4.tr hm5.1
    have e1 : m5 17 4 0 4 = red1 (wiW A w a i).1 (wiW A w a i).2 := hm5.2.2.1
    have e2 : m5 17 4 0 5 = red2 (wiW A w a i).1 (wiW A w a i).2 := hm5.2.2.2
    refine J_iloadN hX rfl rfl dX0_bestTwo_89 ?_
    refine J_bipush hX (by decide) dX0_bestTwo_90 ?_
    refine J_icmp_eq (tgt := 118) hX (by decide) dX0_bestTwo_92 (fun h4 => ?_) (fun h4 => ?_)
    · exact K118 m5 hfr5 e1 e2 (fun q => by have := q.1; omega)
    · have p1 := mul_b (a := 60000) (b := 2400) rb2.1 (show 0 ≤ red2 s.2.1 s.2.2 ∧ _ from ⟨by omega, rb.2.2⟩)
      have p2' := mul_b (a := 60000) (b := 2400) rb.1 (show 0 ≤ red2 (wiW A w a i).1 (wiW A w a i).2 ∧ _ from ⟨by omega, rb2.2.2⟩)
      refine J_aloadN hX rfl rfl dX0_bestTwo_95 ?_
      refine G_Company_effort hX dX0_bestTwo_96 mF_X0_21 ?_
      refine G_Effort_above hX dX0_bestTwo_99 mF_X0_82 ?_
      rw [e1]
      refine J_iload hX rfl dX0_bestTwo_102 ?_
      refine J_imul hX (fun _ _ => by omega) dX0_bestTwo_104 ?_
      refine J_iload hX rfl dX0_bestTwo_105 ?_
      refine J_aloadN hX rfl rfl dX0_bestTwo_107 ?_
      refine G_Company_effort hX dX0_bestTwo_108 mF_X0_21 ?_
      refine G_Effort_below hX dX0_bestTwo_111 mF_X0_85 ?_
      rw [e2]
      refine J_imul hX (fun _ _ => by omega) dX0_bestTwo_114 ?_
      refine J_icmp_le (tgt := 145) hX (by decide) dX0_bestTwo_115 (fun h5 => ?_) (fun h5 => ?_)
      · have e : wiT A w a i s = s := if_pos ⟨by have := hs.2; omega, by
          rcases Int.lt_or_le (s.2.1 * (wiW A w a i).2) ((wiW A w a i).1 * s.2.2) with z | z
          · have := rc.mpr z; omega
          · exact z⟩
        have nx' := nx m5 hfr5
        rw [e] at nx'
        refine sinc_7 hX (fun _ => by omega) dX0_bestTwo_145 ?_
        refine J_goto (tgt := 27) hX (by decide) dX0_bestTwo_148 ?_
        exact nx'
      · exact K118 m5 hfr5 e1 e2 (fun q => by have := rc.mp h5; have := q.2; omega)
theorem l_two2 {m0 : HM} (hX : Ok_X0_bestTwo G X 5) (hR : RelV m0 v A) (hI : InvA A C D) (hw : inN w (A 2)) (hR0 : JRt G X (pi (fun r m' => r = withA A w ∧ FrE 4 m0 m')) (some .int)) : ∀ i, 0 ≤ i → i ≤ A 1 → ∀ M s c, FrE 4 m0 M → okU s → rfI (fun a s => wiI A w a s) 0 (A 1) (-9, 0, 1) = rfI (fun a s => wiI A w a s) i (A 1) s → J G X 12 [vr 29 0 0, vr 1 v 0, vr 11 v w, vi s.1, vi (red1 s.2.1 s.2.2), vi (red2 s.2.1 s.2.2), vi i, c] [] M := by
  have h0 := hI.1
  refine up_to (fun i h1 h2 ih M s c hfr hs he => ?_)
  have hV := hR.frE hfr
  refine J_iload hX rfl dX0_bestTwo_12 ?_
  refine J_aloadN hX rfl rfl dX0_bestTwo_14 ?_
  refine G_Village_personCount hX dX0_bestTwo_15 mF_X0_25 ?_
  rw [hV.1.2.1]
  refine J_icmp_ge (tgt := 157) hX (by decide) dX0_bestTwo_18 (fun h3 => ?_) (fun h3 => ?_)
  · refine J_iloadN hX rfl rfl dX0_bestTwo_157 ?_
    exact J_iret hX hR0 dX0_bestTwo_158 (⟨_, rfl, by unfold withA; rw [he, rfI_0 (by omega)], hfr⟩)
  · have hi : inN i (A 1) := ⟨by omega, by omega⟩
    rw [rfI_s (i := i) (by omega)] at he
    refine J_iload hX rfl dX0_bestTwo_21 ?_
    refine J_iconst hX (by decide) dX0_bestTwo_23 ?_
    refine J_iadd hX (fun _ _ => by omega) dX0_bestTwo_24 ?_
    refine si_7 hX dX0_bestTwo_25 ?_
    refine l_two1 (s0 := s) hX hR hI hw hi (fun M' s' c' hfr' hs' e' => ?_) (i + 1) (by omega) (by omega) M s hfr hs rfl
    refine sinc_6 hX (fun _ => by omega) dX0_bestTwo_151 ?_
    refine J_goto (tgt := 12) hX (by decide) dX0_bestTwo_154 ?_
    exact ih (by omega) M' s' _ hfr' hs' (by rw [he, e'])
theorem c_bestTwo (hR : RelV m v A) (hI : InvA A C D) (hw : inN w (A 2)) : K_X0_bestTwo G [vr 29 0 0, vr 1 v 0, vr 11 v w] m (pi (fun r m' => r = withA A w ∧ FrE 4 m m')) := by
  refine E_X0_bestTwo (fun X hX hR0 _ _ => ?_)
  have r1 : red1 0 1 = 0 := by decide +kernel
  have r2 : red2 0 1 = 1 := by decide +kernel
  have fin := l_two2 hX hR hI hw hR0 0 (by omega) (by have := hI.1; omega) m (-9, 0, 1) vx FrE.rf ⟨⟨by show (-9 : Int) ≤ -9 ∧ (-9 : Int) ≤ 60; omega, by show (0 : Int) ≤ 0 ∧ (0 : Int) ≤ 60000; omega, by show (1 : Int) ≤ 1 ∧ (1 : Int) ≤ 2400; omega⟩, Or.inl rfl⟩ rfl
  rw [r1, r2] at fin
  refine J_bipush hX (by decide) dX0_bestTwo_0 ?_
  refine siN_3 hX dX0_bestTwo_2 ?_
  refine J_iconst hX (by decide) dX0_bestTwo_3 ?_
  refine si_4 hX dX0_bestTwo_4 ?_
  refine J_iconst hX (by decide) dX0_bestTwo_6 ?_
  refine si_5 hX dX0_bestTwo_7 ?_
  refine J_iconst hX (by decide) dX0_bestTwo_9 ?_
  refine si_6 hX dX0_bestTwo_10 ?_
  exact fin
end Co
