/-! ===== 20e: the reference: plans ===== -/
section Mod
variable {G : GC} {X : JX} {m : HM} {κ p t τ w x y z i k q b : Int} {A N S g F : Int → Int} {H C D : Int}
def plP (m : HM) (F : Int → Int) (m' : HM) : Prop := FrM T6 m m' ∧ RelSh m' F
theorem l_wholes1 {m0 : HM} (hX : Ok_X10_plansWholes G X 7) (hA : m0 42 0 0 = A) (hI : InvA A C D) (ho : okSh F) (hp : inN p (A 1)) (K70 : ∀ M b, FrM T6 m0 M → RelSh M (whSt A p F) → J G X 70 [vr 40 0 0, vi p, b] [] M) : ∀ i, 0 ≤ i → i ≤ A 2 → ∀ M, FrM T6 m0 M → RelSh M F → whW A F p = fstI (fun w => ¬ dn0 A F w ∧ hlB A F w p 12) (-9) i (A 2) → J G X 14 [vr 40 0 0, vi p, vi i] [] M := by
  have h0 := hI.1
  refine up_to (fun i h1 h2 ih M hfr hF he => ?_)
  have hA' := hfr.a42 hA T6_42
  refine J_iloadN hX rfl rfl dX10_plansWholes_14 ?_
  refine J_aloadN hX rfl rfl dX10_plansWholes_15 ?_
  refine G_HalfHereModel_s hX dX10_plansWholes_16 mF_X10_13 ?_
  refine J_iconst hX (by decide) dX10_plansWholes_19 ?_
  refine L_42 hX (by omega) dX10_plansWholes_20 ?_
  rw [hA']
  refine J_icmp_ge (tgt := 70) hX (by decide) dX10_plansWholes_21 (fun h3 => ?_) (fun h3 => ?_)
  · exact K70 M _ hfr (by rw [whSt_f (by rw [he, fstI_0 h3])]; exact hF)
  · have hi : inN i (A 2) := ⟨h1, by omega⟩
    refine J_aloadN hX rfl rfl dX10_plansWholes_24 ?_
    refine J_iloadN hX rfl rfl dX10_plansWholes_25 ?_
    refine J_iloadN hX rfl rfl dX10_plansWholes_26 ?_
    refine J_iconst hX (by decide) dX10_plansWholes_27 ?_
    refine cV3i hX cb_X10_isDoneBy mL_X10_183 dX10_plansWholes_28 (c_isDoneBy hA' hI hF ho hi (by omega) (by omega)) (fun r m2 hm2 => ?_)
    obtain ⟨rfl, hf2⟩ := hm2
    rw [dnB_0 (by omega)]
    have hfr2 := hfr.tr (hf2.mono T48_6)
    have hF2 := hF.fr hf2 T48_49
    refine J_ifb_ne (tgt := 64) hX (by decide) dX10_plansWholes_31 (fun h4 => ?_) (fun h4 => ?_)
    · refine sinc_2 hX (fun _ => by omega) dX10_plansWholes_64 ?_
      refine J_goto (tgt := 14) hX (by decide) dX10_plansWholes_67 ?_
      exact ih (by omega) m2 hfr2 hF2 (by rw [he, fstI_f (by omega) (fun q => q.1 h4)])
    · refine J_aloadN hX rfl rfl dX10_plansWholes_34 ?_
      refine J_iloadN hX rfl rfl dX10_plansWholes_35 ?_
      refine J_iloadN hX rfl rfl dX10_plansWholes_36 ?_
      refine J_bipush hX (by decide) dX10_plansWholes_37 ?_
      refine cV3i hX cb_X10_helps mL_X10_187 dX10_plansWholes_39 (c_helps (hfr2.a42 hA T6_42) hI hF2 ho hi (by omega) hp) (fun r m3 hm3 => ?_)
      obtain ⟨rfl, hf3⟩ := hm3
      have hfr3 := hfr2.tr (hf3.mono T5_6)
      have hF3 := hF2.fr hf3 T5_49
      refine J_ifb_ne (tgt := 48) hX (by decide) dX10_plansWholes_42 (fun h5 => ?_) (fun h5 => ?_)
      · refine J_aloadN hX rfl rfl dX10_plansWholes_48 ?_
        refine G_HalfHereModel_share hX dX10_plansWholes_49 mF_X10_34 ?_
        refine J_bipush hX (by decide) dX10_plansWholes_52 ?_
        refine J_iloadN hX rfl rfl dX10_plansWholes_54 ?_
        refine J_imul hX (fun _ _ => by omega) dX10_plansWholes_55 ?_
        refine J_iloadN hX rfl rfl dX10_plansWholes_56 ?_
        refine J_iadd hX (fun _ _ => by omega) dX10_plansWholes_57 ?_
        refine J_bipush hX (by decide) dX10_plansWholes_58 ?_
        refine S_49 hX (by omega) dX10_plansWholes_60 ?_
        refine J_goto (tgt := 70) hX (by decide) dX10_plansWholes_61 ?_
        refine K70 _ _ (hfr3.up T6_49 (by decide)) ?_
        rw [whSt_t (by rw [he, fstI_t (by omega) ⟨h4, h5⟩]) h1]
        exact hF3.st _ _
      · refine J_goto (tgt := 64) hX (by decide) dX10_plansWholes_45 ?_
        refine sinc_2 hX (fun _ => by omega) dX10_plansWholes_64 ?_
        refine J_goto (tgt := 14) hX (by decide) dX10_plansWholes_67 ?_
        exact ih (by omega) m3 hfr3 hF3 (by rw [he, fstI_f (by omega) (fun q => h5 q.2)])
theorem l_wholes2 {m0 : HM} (hX : Ok_X10_plansWholes G X 7) (hA : m0 42 0 0 = A) (hI : InvA A C D) (hR0 : JRt G X (pu (plP m0 (foI (whSt A) zF (A 1)))) none) : ∀ p, 0 ≤ p → p ≤ A 1 → ∀ M b, FrM T6 m0 M → RelSh M (foI (whSt A) zF p) → J G X 2 [vr 40 0 0, vi p, b] [] M := by
  have h0 := hI.1
  refine up_to (fun p h1 h2 ih M b hfr hF => ?_)
  have hA' := hfr.a42 hA T6_42
  have ho : okSh (foI (whSt A) zF p) := foI_ind (P := okSh) okSh_z (fun _ _ _ hG => okSh_wh hG) h1
  refine J_iloadN hX rfl rfl dX10_plansWholes_2 ?_
  refine J_aloadN hX rfl rfl dX10_plansWholes_3 ?_
  refine G_HalfHereModel_s hX dX10_plansWholes_4 mF_X10_13 ?_
  refine J_iconst hX (by decide) dX10_plansWholes_7 ?_
  refine L_42 hX (by omega) dX10_plansWholes_8 ?_
  rw [hA']
  refine J_icmp_ge (tgt := 76) hX (by decide) dX10_plansWholes_9 (fun h3 => ?_) (fun h3 => ?_)
  · have e : p = A 1 := by omega
    subst e
    exact J_vret hX hR0 dX10_plansWholes_76 (puI ⟨hfr, hF⟩)
  · refine J_iconst hX (by decide) dX10_plansWholes_12 ?_
    refine siN_2 hX dX10_plansWholes_13 ?_
    refine l_wholes1 hX hA hI ho ⟨h1, by omega⟩ (fun M' b' hfr' hF' => ?_) 0 (by omega) (by omega) M hfr hF rfl
    refine sinc_1 hX (fun _ => by omega) dX10_plansWholes_70 ?_
    refine J_goto (tgt := 2) hX (by decide) dX10_plansWholes_73 ?_
    exact ih (by omega) M' _ hfr' (by rw [foI_s h1]; exact hF')
theorem c_plansWholes (hA : m 42 0 0 = A) (hI : InvA A C D) (hF : RelSh m zF) : K_X10_plansWholes G [vr 40 0 0] m (pu (plP m (foI (whSt A) zF (A 1)))) := by
  refine E_X10_plansWholes (fun X hX hR0 _ _ => ?_)
  have h0 := hI.1
  refine J_iconst hX (by decide) dX10_plansWholes_0 ?_
  refine siN_1 hX dX10_plansWholes_1 ?_
  exact l_wholes2 hX hA hI hR0 0 (by omega) (by omega) m _ FrM.rf hF
/-- persons before p, and of p the works before w -/
def evR (A : Int → Int) (p w j : Int) : Int := if j < 6 * p + w then evF A j else 0
theorem l_even1 {m0 : HM} (hX : Ok_X10_plansEven G X 3) (hA : m0 42 0 0 = A) (hI : InvA A C D) (hp : inN p (A 1)) (h2' : 1 ≤ A 2) (K72 : ∀ M b, FrM T6 m0 M → RelSh M (evR A (p + 1) 0) → J G X 72 [vr 40 0 0, vi (12 / A 2), vi p, b] [] M) : ∀ i, 0 ≤ i → i ≤ A 2 → ∀ M, FrM T6 m0 M → RelSh M (evR A p i) → J G X 34 [vr 40 0 0, vi (12 / A 2), vi p, vi i] [] M := by
  have h0 := hI.1
  refine up_to (fun i h1 h2 ih M hfr hF => ?_)
  have hA' := hfr.a42 hA T6_42
  refine J_iloadN hX rfl rfl dX10_plansEven_34 ?_
  refine J_aloadN hX rfl rfl dX10_plansEven_35 ?_
  refine G_HalfHereModel_s hX dX10_plansEven_36 mF_X10_13 ?_
  refine J_iconst hX (by decide) dX10_plansEven_39 ?_
  refine L_42 hX (by omega) dX10_plansEven_40 ?_
  rw [hA']
  refine J_icmp_ge (tgt := 72) hX (by decide) dX10_plansEven_41 (fun h3 => ?_) (fun h3 => ?_)
  · refine K72 M _ hfr (fun j hj => ?_)
    rw [hF j hj]
    unfold evR
    by_cases q : j < 6 * p + i
    · rw [if_pos q, if_pos (by omega)]
    · rw [if_neg q]
      by_cases q2 : j < 6 * (p + 1) + 0
      · rw [if_pos q2]
        unfold evF
        rw [if_neg (by omega)]
      · rw [if_neg q2]
  · refine J_iloadN hX rfl rfl dX10_plansEven_44 ?_
    refine J_aloadN hX rfl rfl dX10_plansEven_45 ?_
    refine J_iloadN hX rfl rfl dX10_plansEven_46 ?_
    refine J_iconst hX (by decide) dX10_plansEven_47 ?_
    refine cV2w hX cb_X10_get mL_X10_106 dX10_plansEven_48 (c_get hA' (by omega) (by omega)) ?_
    refine J_icmp_lt (tgt := 72) hX (by decide) dX10_plansEven_51 (fun h4 => ?_) (fun h4 => ?_)
    · refine K72 M _ hfr (fun j hj => ?_)
      rw [hF j hj]
      unfold evR
      by_cases q : j < 6 * p + i
      · rw [if_pos q, if_pos (by omega)]
      · rw [if_neg q]
        by_cases q2 : j < 6 * (p + 1) + 0
        · rw [if_pos q2]
          unfold evF
          rw [show j / 6 = p by omega, if_neg (by omega)]
        · rw [if_neg q2]
    · refine J_aloadN hX rfl rfl dX10_plansEven_54 ?_
      refine G_HalfHereModel_share hX dX10_plansEven_55 mF_X10_34 ?_
      refine J_bipush hX (by decide) dX10_plansEven_58 ?_
      refine J_iloadN hX rfl rfl dX10_plansEven_60 ?_
      refine J_imul hX (fun _ _ => by omega) dX10_plansEven_61 ?_
      refine J_iloadN hX rfl rfl dX10_plansEven_62 ?_
      refine J_iadd hX (fun _ _ => by omega) dX10_plansEven_63 ?_
      refine J_iloadN hX rfl rfl dX10_plansEven_64 ?_
      refine S_49 hX (by omega) dX10_plansEven_65 ?_
      refine sinc_3 hX (fun _ => by omega) dX10_plansEven_66 ?_
      refine J_goto (tgt := 34) hX (by decide) dX10_plansEven_69 ?_
      refine ih (by omega) _ (hfr.up T6_49 (by decide)) (fun j hj => ?_)
      rw [hF.st _ _ j hj]
      by_cases q : j = 6 * p + i
      · rw [q, st1_eq]
        unfold evR evF
        rw [if_pos (by omega), show (6 * p + i) / 6 = p by omega, show (6 * p + i) % 6 = i by omega, if_pos ⟨hp, ⟨h1, by omega⟩, by omega⟩]
      · rw [st1_ne q]
        unfold evR
        by_cases q2 : j < 6 * p + i
        · rw [if_pos q2, if_pos (by omega)]
        · rw [if_neg q2, if_neg (by omega)]
theorem l_even2 {m0 : HM} (hX : Ok_X10_plansEven G X 3) (hA : m0 42 0 0 = A) (hI : InvA A C D) (h2' : 1 ≤ A 2) (hR0 : JRt G X (pu (plP m0 (evF A))) none) : ∀ p, 0 ≤ p → p ≤ A 1 → ∀ M b, FrM T6 m0 M → RelSh M (evR A p 0) → J G X 22 [vr 40 0 0, vi (12 / A 2), vi p, b] [] M := by
  have h0 := hI.1
  refine up_to (fun p h1 h2 ih M b hfr hF => ?_)
  have hA' := hfr.a42 hA T6_42
  refine J_iloadN hX rfl rfl dX10_plansEven_22 ?_
  refine J_aloadN hX rfl rfl dX10_plansEven_23 ?_
  refine G_HalfHereModel_s hX dX10_plansEven_24 mF_X10_13 ?_
  refine J_iconst hX (by decide) dX10_plansEven_27 ?_
  refine L_42 hX (by omega) dX10_plansEven_28 ?_
  rw [hA']
  refine J_icmp_ge (tgt := 78) hX (by decide) dX10_plansEven_29 (fun h3 => ?_) (fun h3 => ?_)
  · skip
    refine J_vret hX hR0 dX10_plansEven_78 ?_
    refine puI ⟨hfr, fun j hj => ?_⟩
    rw [hF j hj]
    unfold evR
    by_cases q : j < 6 * p + 0
    · rw [if_pos q]
    · rw [if_neg q]
      unfold evF
      rw [if_neg (by omega)]
  · refine J_iconst hX (by decide) dX10_plansEven_32 ?_
    refine siN_3 hX dX10_plansEven_33 ?_
    refine l_even1 hX hA hI ⟨h1, by omega⟩ h2' (fun M' b' hfr' hF' => ?_) 0 (by omega) (by omega) M hfr hF
    refine sinc_2 hX (fun _ => by omega) dX10_plansEven_72 ?_
    refine J_goto (tgt := 22) hX (by decide) dX10_plansEven_75 ?_
    exact ih (by omega) M' _ hfr' hF'
theorem c_plansEven (hA : m 42 0 0 = A) (hI : InvA A C D) (hF : RelSh m zF) : K_X10_plansEven G [vr 40 0 0] m (pu (plP m (evF A))) := by
  refine E_X10_plansEven (fun X hX hR0 _ _ => ?_)
  have h0 := hI.1
  refine J_aloadN hX rfl rfl dX10_plansEven_0 ?_
  refine G_HalfHereModel_s hX dX10_plansEven_1 mF_X10_13 ?_
  refine J_iconst hX (by decide) dX10_plansEven_4 ?_
  refine L_42 hX (by omega) dX10_plansEven_5 ?_
  rw [hA]
  refine J_if_ne (tgt := 10) hX (by decide) dX10_plansEven_6 (fun h1 => ?_) (fun h1 => ?_)
  · have hd : (12 : Int).tdiv (A 2) = 12 / A 2 := Int.tdiv_eq_ediv_of_nonneg (by omega)
    have hb1 := Int.ediv_nonneg (show (0 : Int) ≤ 12 by omega) (show 0 ≤ A 2 by omega)
    have hb2 := Int.ediv_le_self (A 2) (show (0 : Int) ≤ 12 by omega)
    refine J_bipush hX (by decide) dX10_plansEven_10 ?_
    refine J_aloadN hX rfl rfl dX10_plansEven_12 ?_
    refine G_HalfHereModel_s hX dX10_plansEven_13 mF_X10_13 ?_
    refine J_iconst hX (by decide) dX10_plansEven_16 ?_
    refine L_42 hX (by omega) dX10_plansEven_17 ?_
    rw [hA]
    refine J_idiv hX (fun _ _ => by omega) (fun _ _ => by rw [hd]; omega) dX10_plansEven_18 ?_
    refine siN_1 hX dX10_plansEven_19 ?_
    refine J_iconst hX (by decide) dX10_plansEven_20 ?_
    refine siN_2 hX dX10_plansEven_21 ?_
    rw [hd]
    refine l_even2 hX hA hI (by omega) hR0 0 (by omega) (by omega) m _ FrM.rf (fun j hj => ?_)
    rw [hF j hj]
    unfold evR zF
    rw [if_neg (by omega)]
  · skip
    refine J_vret hX hR0 dX10_plansEven_9 ?_
    refine puI ⟨FrM.rf, fun j hj => ?_⟩
    rw [hF j hj]
    unfold evF zF
    rw [if_neg (by omega)]
theorem l_givenOf (hX : Ok_X10_givenOf G X 2) (hF : RelSh m F) (ho : okSh F) (hp : inN p 6) (hR0 : JRt G X (pw (vi (gvn F p)) m) (some .int)) : ∀ i, 0 ≤ i → i ≤ 6 → J G X 4 [vr 40 0 0, vi p, vi (sumI (fun w => F (6 * p + w)) i), vi i] [] m := by
  refine up_to (fun i h1 h2 ih => ?_)
  have hb := sumI_b (f := fun w => F (6 * p + w)) (lo := 0) (hi := 12) (n := i) h1 (fun i a b => ho _ (by omega))
  refine J_iloadN hX rfl rfl dX10_givenOf_4 ?_
  refine J_bipush hX (by decide) dX10_givenOf_5 ?_
  refine J_icmp_ge (tgt := 30) hX (by decide) dX10_givenOf_7 (fun h3 => ?_) (fun h3 => ?_)
  · have e : i = 6 := by omega
    subst e
    refine J_iloadN hX rfl rfl dX10_givenOf_30 ?_
    exact J_iret hX hR0 dX10_givenOf_31 (pwI rfl)
  · have e := hF (6 * p + i) (by omega)
    have hoi := ho (6 * p + i) (by omega)
    refine J_iloadN hX rfl rfl dX10_givenOf_10 ?_
    refine J_aloadN hX rfl rfl dX10_givenOf_11 ?_
    refine G_HalfHereModel_share hX dX10_givenOf_12 mF_X10_34 ?_
    refine J_bipush hX (by decide) dX10_givenOf_15 ?_
    refine J_iloadN hX rfl rfl dX10_givenOf_17 ?_
    refine J_imul hX (fun _ _ => by omega) dX10_givenOf_18 ?_
    refine J_iloadN hX rfl rfl dX10_givenOf_19 ?_
    refine J_iadd hX (fun _ _ => by omega) dX10_givenOf_20 ?_
    refine L_49 hX (by omega) dX10_givenOf_21 ?_
    rw [e]
    refine J_iadd hX (fun _ _ => by omega) dX10_givenOf_22 ?_
    refine siN_2 hX dX10_givenOf_23 ?_
    refine sinc_3 hX (fun _ => by omega) dX10_givenOf_24 ?_
    refine J_goto (tgt := 4) hX (by decide) dX10_givenOf_27 ?_
    have := ih h3
    rw [sumI_s h1] at this
    exact this
theorem c_givenOf (hF : RelSh m F) (ho : okSh F) (hp : inN p 6) : K_X10_givenOf G [vr 40 0 0, vi p] m (pw (vi (gvn F p)) m) := by
  refine E_X10_givenOf (fun X hX hR0 _ _ => ?_)
  refine J_iconst hX (by decide) dX10_givenOf_0 ?_
  refine siN_2 hX dX10_givenOf_1 ?_
  refine J_iconst hX (by decide) dX10_givenOf_2 ?_
  refine siN_3 hX dX10_givenOf_3 ?_
  exact l_givenOf hX hF ho hp hR0 0 (by omega) (by omega)
theorem l_need1 {m0 : HM} {fr : Int} (hX : Ok_X10_plansNeed G X 7) (hA : m0 42 0 0 = A) (hI : InvA A C D) (ho : okSh F) (hw : inN w (A 2)) (hp : inN p (A 1)) (hfr12 : fr ≤ 12) (K103 : ∀ M b, FrM T48 m0 M → J G X 103 [vr 40 0 0, vi x, vi w, vi p, vi (aG A p 3), vi fr, vi (ndT A F w p fr (aG A p 3)), b] [] M) (hF : RelSh m0 F) (hl : 1 ≤ aG A p 3 ∧ aG A p 3 ≤ fr + 1) : ∀ i, aG A p 3 - 1 ≤ i → i ≤ fr → ∀ M, FrM T48 m0 M → J G X 70 [vr 40 0 0, vi x, vi w, vi p, vi (aG A p 3), vi fr, vi (ndT A F w p fr (i + 1)), vi i] [] M := by
  refine down_to (fun i h1 h2 ih M hfr => ?_)
  refine J_iload hX rfl dX10_plansNeed_70 ?_
  refine J_iload hX rfl dX10_plansNeed_72 ?_
  refine J_icmp_lt (tgt := 103) hX (by decide) dX10_plansNeed_74 (fun h3 => ?_) (fun h3 => ?_)
  · have e : i + 1 = aG A p 3 := by omega
    rw [e]
    exact K103 M _ hfr
  · refine J_aloadN hX rfl rfl dX10_plansNeed_77 ?_
    refine J_iloadN hX rfl rfl dX10_plansNeed_78 ?_
    refine J_iloadN hX rfl rfl dX10_plansNeed_79 ?_
    refine J_iload hX rfl dX10_plansNeed_80 ?_
    refine cV3i hX cb_X10_isDoneBy mL_X10_183 dX10_plansNeed_82 (c_isDoneBy (hfr.a42 hA T48_42) hI (hF.fr hfr T48_49) ho hw (by omega) (fun _ => hp)) (fun r m2 hm2 => ?_)
    obtain ⟨rfl, hf2⟩ := hm2
    have nx := ih (by omega) m2 (hfr.tr hf2)
    rw [Int.sub_add_cancel] at nx
    refine J_ifb_eq (tgt := 93) hX (by decide) dX10_plansNeed_85 (fun h4 => ?_) (fun h4 => ?_)
    · refine J_iload hX rfl dX10_plansNeed_93 ?_
      refine si_6 hX dX10_plansNeed_95 ?_
      refine sinc_7 hX (fun _ => by omega) dX10_plansNeed_97 ?_
      refine J_goto (tgt := 70) hX (by decide) dX10_plansNeed_100 ?_
      have e : ndT A F w p fr i = ndT A F w p fr (i + 1) := by unfold ndT; rw [fstI_f (by omega) h4]
      rw [e] at nx
      exact nx
    · refine J_iload hX rfl dX10_plansNeed_88 ?_
      refine J_goto (tgt := 95) hX (by decide) dX10_plansNeed_90 ?_
      refine si_6 hX dX10_plansNeed_95 ?_
      refine sinc_7 hX (fun _ => by omega) dX10_plansNeed_97 ?_
      refine J_goto (tgt := 70) hX (by decide) dX10_plansNeed_100 ?_
      have e : ndT A F w p fr i = i := by unfold ndT; rw [fstI_t (by omega) h4]
      rw [e] at nx
      exact nx
theorem l_need2 {m0 : HM} {fr : Int} (hX : Ok_X10_plansNeed G X 7) (hA : m0 42 0 0 = A) (hI : InvA A C D) (ho : okSh F) (hw : inN w (A 2)) (hp : inN p (A 1)) (hfr12 : -72 ≤ fr ∧ fr ≤ 12) (hF : RelSh m0 F) (K143 : ∀ M a b c, FrM T6 m0 M → RelSh M (st1 F (6 * p + w) (ndV A F w p fr)) → J G X 143 [vr 40 0 0, vi x, vi w, vi p, vi (aG A p 3), a, b, c] [] M) : ∀ a b, J G X 63 [vr 40 0 0, vi x, vi w, vi p, vi (aG A p 3), vi fr, a, b] [] m0 := by
  intro a b
  have h0 := hI.1
  have hl := (hI.2.2.1 p hp)
  have K130 : ∀ M b v, FrM T6 m0 M → RelSh M F → v = ndV A F w p fr → J G X 130 [vr 40 0 0, vi x, vi w, vi p, vi (aG A p 3), vi fr, vi v, b] [] M := fun M b v hfr hF' hv => by
    subst hv
    refine J_aloadN hX rfl rfl dX10_plansNeed_130 ?_
    refine G_HalfHereModel_share hX dX10_plansNeed_131 mF_X10_34 ?_
    refine J_bipush hX (by decide) dX10_plansNeed_134 ?_
    refine J_iloadN hX rfl rfl dX10_plansNeed_136 ?_
    refine J_imul hX (fun _ _ => by omega) dX10_plansNeed_137 ?_
    refine J_iloadN hX rfl rfl dX10_plansNeed_138 ?_
    refine J_iadd hX (fun _ _ => by omega) dX10_plansNeed_139 ?_
    refine J_iload hX rfl dX10_plansNeed_140 ?_
    refine S_49 hX (by omega) dX10_plansNeed_142 ?_
    exact K143 _ _ _ _ (hfr.up T6_49 (by decide)) (hF'.st _ _)
  have K103 : ∀ M b, FrM T48 m0 M → J G X 103 [vr 40 0 0, vi x, vi w, vi p, vi (aG A p 3), vi fr, vi (ndT A F w p fr (aG A p 3)), b] [] M := fun M b hfr => by
    refine J_iload hX rfl dX10_plansNeed_103 ?_
    refine J_if_ne (tgt := 130) hX (by decide) dX10_plansNeed_105 (fun h1 => ?_) (fun h1 => ?_)
    · exact K130 M _ _ (hfr.mono T48_6) (hF.fr hfr T48_49) (by unfold ndV; rw [if_pos h1])
    · refine J_iload hX rfl dX10_plansNeed_108 ?_
      refine J_iload hX rfl dX10_plansNeed_110 ?_
      refine J_icmp_lt (tgt := 130) hX (by decide) dX10_plansNeed_112 (fun h2 => ?_) (fun h2 => ?_)
      · exact K130 M _ _ (hfr.mono T48_6) (hF.fr hfr T48_49) (by unfold ndV; rw [if_neg (by omega), ifP_neg (fun q => by have := q.1; omega)]; omega)
      · refine J_aloadN hX rfl rfl dX10_plansNeed_115 ?_
        refine J_iloadN hX rfl rfl dX10_plansNeed_116 ?_
        refine J_iloadN hX rfl rfl dX10_plansNeed_117 ?_
        refine J_iload hX rfl dX10_plansNeed_118 ?_
        refine cV3i hX cb_X10_helps mL_X10_187 dX10_plansNeed_120 (c_helps (hfr.a42 hA T48_42) hI (hF.fr hfr T48_49) ho hw (by omega) hp) (fun r m3 hm3 => ?_)
        obtain ⟨rfl, hf3⟩ := hm3
        have hfr3 := (hfr.mono T48_6).tr (hf3.mono T5_6)
        have hF3 := (hF.fr hfr T48_49).fr hf3 T5_49
        refine J_ifb_eq (tgt := 130) hX (by decide) dX10_plansNeed_123 (fun h5 => ?_) (fun h5 => ?_)
        · exact K130 m3 _ _ hfr3 hF3 (by unfold ndV; rw [if_neg (by omega), ifP_neg (fun q => h5 q.2)]; omega)
        · refine J_iload hX rfl dX10_plansNeed_126 ?_
          refine si_6 hX dX10_plansNeed_128 ?_
          exact K130 m3 _ _ hfr3 hF3 (by unfold ndV; rw [if_neg (by omega), ifP_pos ⟨by omega, h5⟩])
  refine J_iconst hX (by decide) dX10_plansNeed_63 ?_
  refine si_6 hX dX10_plansNeed_64 ?_
  refine J_iload hX rfl dX10_plansNeed_66 ?_
  refine si_7 hX dX10_plansNeed_68 ?_
  by_cases h1 : aG A p 3 ≤ fr + 1
  · have := l_need1 (x := x) hX hA hI ho hw hp hfr12.2 K103 hF ⟨hl.1, h1⟩ fr (by omega) (by omega) m0 FrM.rf
    have e : ndT A F w p fr (fr + 1) = 0 := by unfold ndT; rw [fstI_0 (by omega)]
    rw [e] at this
    exact this
  · have e : ndT A F w p fr (aG A p 3) = 0 := by unfold ndT; rw [fstI_0 (by omega)]
    rw [e] at K103
    refine J_iload hX rfl dX10_plansNeed_70 ?_
    refine J_iload hX rfl dX10_plansNeed_72 ?_
    refine J_icmp_lt (tgt := 103) hX (by decide) dX10_plansNeed_74 (fun h3 => ?_) (fun h3 => ?_)
    · exact K103 m0 _ FrM.rf
    · omega
theorem l_need3 {m0 : HM} (hX : Ok_X10_plansNeed G X 7) (hA : m0 42 0 0 = A) (hI : InvA A C D) (ho : okSh F) (hw : inN w (A 2)) (K149 : ∀ M a b c d e, FrM T6 m0 M → RelSh M (ndW A x w F) → J G X 149 [vr 40 0 0, vi x, vi w, a, b, c, d, e] [] M) : ∀ p, 0 ≤ p → p ≤ A 1 → ∀ M a b c d, FrM T6 m0 M → RelSh M (foI (ndSt A x w) F p) → J G X 14 [vr 40 0 0, vi x, vi w, vi p, a, b, c, d] [] M := by
  have h0 := hI.1
  refine up_to (fun p h1 h2 ih M a b c d hfr hF => ?_)
  have hA' := hfr.a42 hA T6_42
  have ho' : okSh (foI (ndSt A x w) F p) := foI_ind (P := okSh) ho (fun _ _ hi hG => okSh_nd hI hG (by omega)) h1
  refine J_iloadN hX rfl rfl dX10_plansNeed_14 ?_
  refine J_aloadN hX rfl rfl dX10_plansNeed_15 ?_
  refine G_HalfHereModel_s hX dX10_plansNeed_16 mF_X10_13 ?_
  refine J_iconst hX (by decide) dX10_plansNeed_19 ?_
  refine L_42 hX (by omega) dX10_plansNeed_20 ?_
  rw [hA']
  refine J_icmp_ge (tgt := 149) hX (by decide) dX10_plansNeed_21 (fun h3 => ?_) (fun h3 => ?_)
  · have e : p = A 1 := by omega
    subst e
    exact K149 _ _ _ _ _ _ hfr hF
  · have hp : inN p (A 1) := ⟨h1, by omega⟩
    have hl := hI.2.2.1 p hp
    have hg := gvn_b ho' (p := p) (by omega)
    refine J_aloadN hX rfl rfl dX10_plansNeed_24 ?_
    refine J_iloadN hX rfl rfl dX10_plansNeed_25 ?_
    refine J_iloadN hX rfl rfl dX10_plansNeed_26 ?_
    refine J_iconst hX (by decide) dX10_plansNeed_27 ?_
    refine cV3i hX cb_X10_isDoneBy mL_X10_183 dX10_plansNeed_28 (c_isDoneBy hA' hI hF ho' hw (by omega) (by omega)) (fun r m2 hm2 => ?_)
    obtain ⟨rfl, hf2⟩ := hm2
    rw [dnB_0 (by omega)]
    have hfr2 := hfr.tr (hf2.mono T48_6)
    have hF2 := hF.fr hf2 T48_49
    refine J_ifb_ne (tgt := 149) hX (by decide) dX10_plansNeed_31 (fun h4 => ?_) (fun h4 => ?_)
    · exact K149 _ _ _ _ _ _ hfr2 (by rw [nd_stop ⟨h1, h2⟩ h4]; exact hF2)
    · have hnx : ∀ fr, fr = ndFree A (foI (ndSt A x w) F p) p x → ∀ c d, J G X 63 [vr 40 0 0, vi x, vi w, vi p, vi (aG A p 3), vi fr, c, d] [] m2 := fun fr hfe c d => by
        subst hfe
        refine l_need2 hX (hfr2.a42 hA T6_42) hI ho' hw hp (ndFree_b hI ho' hp) hF2 (fun M' a' b' c' hfr' hF' => ?_) c d
        refine sinc_3 hX (fun _ => by omega) dX10_plansNeed_143 ?_
        refine J_goto (tgt := 14) hX (by decide) dX10_plansNeed_146 ?_
        refine ih (by omega) M' _ _ _ _ (hfr2.tr hfr') ?_
        have e : ndSt A x w p (foI (ndSt A x w) F p) = st1 (foI (ndSt A x w) F p) (6 * p + w) (ndV A (foI (ndSt A x w) F p) w p (ndFree A (foI (ndSt A x w) F p) p x)) := ifP_neg h4
        rw [foI_s h1, e]
        exact hF'
      refine J_aloadN hX rfl rfl dX10_plansNeed_34 ?_
      refine J_iloadN hX rfl rfl dX10_plansNeed_35 ?_
      refine J_iconst hX (by decide) dX10_plansNeed_36 ?_
      refine cV2w hX cb_X10_get mL_X10_106 dX10_plansNeed_37 (c_get (hfr2.a42 hA T6_42) (by omega) (by omega)) ?_
      refine si_4 hX dX10_plansNeed_40 ?_
      refine J_bipush hX (by decide) dX10_plansNeed_42 ?_
      refine J_aloadN hX rfl rfl dX10_plansNeed_44 ?_
      refine J_iloadN hX rfl rfl dX10_plansNeed_45 ?_
      refine cV1w hX cb_X10_givenOf mL_X10_190 dX10_plansNeed_46 (c_givenOf hF2 ho' (by omega)) ?_
      refine J_isub hX (fun _ _ => by omega) dX10_plansNeed_49 ?_
      refine J_iloadN hX rfl rfl dX10_plansNeed_50 ?_
      refine J_if_eq (tgt := 59) hX (by decide) dX10_plansNeed_51 (fun h5 => ?_) (fun h5 => ?_)
      · refine J_iconst hX (by decide) dX10_plansNeed_59 ?_
        refine J_isub hX (fun _ _ => by omega) dX10_plansNeed_60 ?_
        refine si_5 hX dX10_plansNeed_61 ?_
        exact hnx _ (by unfold ndFree; rw [if_pos h5]) _ _
      · refine J_iload hX rfl dX10_plansNeed_54 ?_
        refine J_goto (tgt := 60) hX (by decide) dX10_plansNeed_56 ?_
        refine J_isub hX (fun _ _ => by omega) dX10_plansNeed_60 ?_
        refine si_5 hX dX10_plansNeed_61 ?_
        exact hnx _ (by unfold ndFree; rw [if_neg h5]) _ _
theorem l_need4 {m0 : HM} (hX : Ok_X10_plansNeed G X 7) (hA : m0 42 0 0 = A) (hI : InvA A C D) (hR0 : JRt G X (pu (plP m0 (foI (ndW A x) zF (A 2)))) none) : ∀ w, 0 ≤ w → w ≤ A 2 → ∀ M a b c d e, FrM T6 m0 M → RelSh M (foI (ndW A x) zF w) → J G X 2 [vr 40 0 0, vi x, vi w, a, b, c, d, e] [] M := by
  have h0 := hI.1
  refine up_to (fun w h1 h2 ih M a b c d e hfr hF => ?_)
  have hA' := hfr.a42 hA T6_42
  have ho : okSh (foI (ndW A x) zF w) := foI_ind (P := okSh) okSh_z (fun _ _ _ hG => okSh_ndW hI hG) h1
  refine J_iloadN hX rfl rfl dX10_plansNeed_2 ?_
  refine J_aloadN hX rfl rfl dX10_plansNeed_3 ?_
  refine G_HalfHereModel_s hX dX10_plansNeed_4 mF_X10_13 ?_
  refine J_iconst hX (by decide) dX10_plansNeed_7 ?_
  refine L_42 hX (by omega) dX10_plansNeed_8 ?_
  rw [hA']
  refine J_icmp_ge (tgt := 155) hX (by decide) dX10_plansNeed_9 (fun h3 => ?_) (fun h3 => ?_)
  · have e : w = A 2 := by omega
    subst e
    exact J_vret hX hR0 dX10_plansNeed_155 (puI ⟨hfr, hF⟩)
  · refine J_iconst hX (by decide) dX10_plansNeed_12 ?_
    refine siN_3 hX dX10_plansNeed_13 ?_
    refine l_need3 hX hA hI ho ⟨h1, by omega⟩ (fun M' a b c d e hfr' hF' => ?_) 0 (by omega) (by omega) M _ _ _ _ hfr hF
    refine sinc_2 hX (fun _ => by omega) dX10_plansNeed_149 ?_
    refine J_goto (tgt := 2) hX (by decide) dX10_plansNeed_152 ?_
    exact ih (by omega) M' _ _ _ _ _ hfr' (by rw [foI_s h1]; exact hF')
theorem c_plansNeed (hA : m 42 0 0 = A) (hI : InvA A C D) (hF : RelSh m zF) : K_X10_plansNeed G [vr 40 0 0, vi x] m (pu (plP m (foI (ndW A x) zF (A 2)))) := by
  refine E_X10_plansNeed (fun X hX hR0 _ _ => ?_)
  have h0 := hI.1
  refine J_iconst hX (by decide) dX10_plansNeed_0 ?_
  refine siN_2 hX dX10_plansNeed_1 ?_
  exact l_need4 hX hA hI hR0 0 (by omega) (by omega) m _ _ _ _ _ FrM.rf hF
end Mod
