/-! ===== 30b: the class's Planner: make, worth ===== -/
section Pl
variable {G : GC} {X : JX} {m : HM} {κ p t τ w x y z i k q b v e : Int} {A N S g F : Int → Int} {H C D : Int}
def mkP (m : HM) (F : Int → Int) (m' : HM) : Prop := FrP m m' ∧ RelPl m' F
theorem l_pwh1 {m0 : HM} (hX : Ok_X4_makeWholes G X 6) (hR : RelV m0 v A) (hI : InvA A C D) (ho : okSh F) (hp : inN p (A 1)) (K70 : ∀ M b c, FrP m0 M → RelPl M (whSt A p F) → J G X 70 [vr 20 0 0, vr 1 v 0, vi p, b, c] [] M) : ∀ i, 0 ≤ i → i ≤ A 2 → ∀ M, FrP m0 M → RelPl M F → whW A F p = fstI (fun w => ¬ dn0 A F w ∧ hlB A F w p 12) (-9) i (A 2) → J G X 15 [vr 20 0 0, vr 1 v 0, vi p, vi 0, vi i] [] M := by
  have h0 := hI.1
  refine up_to (fun i h1 h2 ih M hfr hF he => ?_)
  have hV := hR.frP hfr
  refine J_iload hX rfl dX4_makeWholes_15 ?_
  refine J_aloadN hX rfl rfl dX4_makeWholes_17 ?_
  refine G_Village_workCount hX dX4_makeWholes_18 mF_X4_37 ?_
  rw [hV.1.2.2]
  refine J_icmp_ge (tgt := 70) hX (by decide) dX4_makeWholes_21 (fun h3 => ?_) (fun h3 => ?_)
  · exact K70 M _ _ hfr (by rw [whSt_f (by rw [he, fstI_0 h3])]; exact hF)
  · have hi : inN i (A 2) := ⟨h1, by omega⟩
    refine J_iloadN hX rfl rfl dX4_makeWholes_24 ?_
    refine J_if_ne (tgt := 70) hX (by decide) dX4_makeWholes_25 (fun h9 => ?_) (fun h9 => ?_)
    · omega
    · refine J_aloadN hX rfl rfl dX4_makeWholes_28 ?_
      refine J_aloadN hX rfl rfl dX4_makeWholes_29 ?_
      refine J_iload hX rfl dX4_makeWholes_30 ?_
      refine cV2i hX cb_X4_isDone mL_X4_43 dX4_makeWholes_32 (c_pisDone hV hI hF ho hi) (fun r m2 hm2 => ?_)
      obtain ⟨rfl, hf2⟩ := hm2
      have hfr2 := hfr.tr hf2.toF.toP
      have hF2 := hF.frE hf2
      refine J_ifb_ne (tgt := 64) hX (by decide) dX4_makeWholes_35 (fun h4 => ?_) (fun h4 => ?_)
      · refine sinc_4 hX (fun _ => by omega) dX4_makeWholes_64 ?_
        refine J_goto (tgt := 15) hX (by decide) dX4_makeWholes_67 ?_
        exact ih (by omega) m2 hfr2 hF2 (by rw [he, fstI_f (by omega) (fun q => q.1 h4)])
      · refine J_aloadN hX rfl rfl dX4_makeWholes_38 ?_
        refine J_aloadN hX rfl rfl dX4_makeWholes_39 ?_
        refine J_iloadN hX rfl rfl dX4_makeWholes_40 ?_
        refine J_iload hX rfl dX4_makeWholes_41 ?_
        refine J_bipush hX (by decide) dX4_makeWholes_43 ?_
        refine cV4i hX cb_X4_helps mL_X4_59 dX4_makeWholes_45 (c_phelps (hR.frP hfr2) hI hF2 ho hi hp (by omega)) (fun r m3 hm3 => ?_)
        obtain ⟨rfl, hf3⟩ := hm3
        have hfr3 := hfr2.tr hf3.toP
        have hF3 := hF2.frF hf3
        refine J_ifb_eq (tgt := 64) hX (by decide) dX4_makeWholes_48 (fun h5 => ?_) (fun h5 => ?_)
        · refine sinc_4 hX (fun _ => by omega) dX4_makeWholes_64 ?_
          refine J_goto (tgt := 15) hX (by decide) dX4_makeWholes_67 ?_
          exact ih (by omega) m3 hfr3 hF3 (by rw [he, fstI_f (by omega) (fun q => h5 q.2)])
        · refine J_aloadN hX rfl rfl dX4_makeWholes_51 ?_
          refine G_Planner_twelfths hX dX4_makeWholes_52 mF_X4_11 ?_
          refine J_iloadN hX rfl rfl dX4_makeWholes_55 ?_
          refine A_21 hX (by omega) dX4_makeWholes_56 ?_
          refine J_iload hX rfl dX4_makeWholes_57 ?_
          refine J_bipush hX (by decide) dX4_makeWholes_59 ?_
          refine S_22 hX (by omega) dX4_makeWholes_61 ?_
          refine J_iconst hX (by decide) dX4_makeWholes_62 ?_
          refine siN_3 hX dX4_makeWholes_63 ?_
          refine sinc_4 hX (fun _ => by omega) dX4_makeWholes_64 ?_
          refine J_goto (tgt := 15) hX (by decide) dX4_makeWholes_67 ?_
          refine J_iload hX rfl dX4_makeWholes_15 ?_
          refine J_aloadN hX rfl rfl dX4_makeWholes_17 ?_
          refine G_Village_workCount hX dX4_makeWholes_18 mF_X4_37 ?_
          refine J_icmp_ge (tgt := 70) hX (by decide) dX4_makeWholes_21 (fun h8 => ?_) (fun h8 => ?_)
          · exact K70 _ _ _ (hfr3.t22) (by
              rw [whSt_t (by rw [he, fstI_t (by omega) ⟨h4, h5⟩]) h1]
              exact hF3.st (by omega) (by omega) _)
          · refine J_iloadN hX rfl rfl dX4_makeWholes_24 ?_
            refine J_if_ne (tgt := 70) hX (by decide) dX4_makeWholes_25 (fun h9 => ?_) (fun h9 => ?_)
            · exact K70 _ _ _ (hfr3.t22) (by
                rw [whSt_t (by rw [he, fstI_t (by omega) ⟨h4, h5⟩]) h1]
                exact hF3.st (by omega) (by omega) _)
            · omega
theorem l_pwh2 {m0 : HM} (hX : Ok_X4_makeWholes G X 6) (hR : RelV m0 v A) (hI : InvA A C D) (hR0 : JRt G X (pu (mkP m0 (foI (whSt A) zF (A 1)))) none) : ∀ p, 0 ≤ p → p ≤ A 1 → ∀ M b c, FrP m0 M → RelPl M (foI (whSt A) zF p) → J G X 2 [vr 20 0 0, vr 1 v 0, vi p, b, c] [] M := by
  have h0 := hI.1
  refine up_to (fun p h1 h2 ih M b c hfr hF => ?_)
  have hV := hR.frP hfr
  have ho : okSh (foI (whSt A) zF p) := foI_ind (P := okSh) okSh_z (fun _ _ _ hG => okSh_wh hG) h1
  refine J_iloadN hX rfl rfl dX4_makeWholes_2 ?_
  refine J_aloadN hX rfl rfl dX4_makeWholes_3 ?_
  refine G_Village_personCount hX dX4_makeWholes_4 mF_X4_56 ?_
  rw [hV.1.2.1]
  refine J_icmp_ge (tgt := 76) hX (by decide) dX4_makeWholes_7 (fun h3 => ?_) (fun h3 => ?_)
  · have e : p = A 1 := by omega
    subst e
    exact J_vret hX hR0 dX4_makeWholes_76 (puI ⟨hfr, hF⟩)
  · refine J_iconst hX (by decide) dX4_makeWholes_10 ?_
    refine siN_3 hX dX4_makeWholes_11 ?_
    refine J_iconst hX (by decide) dX4_makeWholes_12 ?_
    refine si_4 hX dX4_makeWholes_13 ?_
    refine l_pwh1 hX hR hI ho ⟨h1, by omega⟩ (fun M' b' c' hfr' hF' => ?_) 0 (by omega) (by omega) M hfr hF rfl
    refine sinc_2 hX (fun _ => by omega) dX4_makeWholes_70 ?_
    refine J_goto (tgt := 2) hX (by decide) dX4_makeWholes_73 ?_
    exact ih (by omega) M' _ _ hfr' (by rw [foI_s h1]; exact hF')
theorem c_makeWholes (hR : RelV m v A) (hI : InvA A C D) (hF : RelPl m zF) : K_X4_makeWholes G [vr 20 0 0, vr 1 v 0] m (pu (mkP m (foI (whSt A) zF (A 1)))) := by
  refine E_X4_makeWholes (fun X hX hR0 _ _ => ?_)
  have h0 := hI.1
  refine J_iconst hX (by decide) dX4_makeWholes_0 ?_
  refine siN_2 hX dX4_makeWholes_1 ?_
  exact l_pwh2 hX hR hI hR0 0 (by omega) (by omega) m _ _ FrP.rf hF
theorem l_pev1 {m0 : HM} (hX : Ok_X4_makeEven G X 2) (hR : RelV m0 v A) (hI : InvA A C D) (hp : inN p (A 1)) (h2' : 1 ≤ A 2) (hle : aG A p 3 ≤ 12 / A 2) (K68 : ∀ M b, FrP m0 M → RelPl M (evR A (p + 1) 0) → J G X 68 [vr 20 0 0, vr 1 v 0, vi (12 / A 2), vi p, b] [] M) : ∀ i, 0 ≤ i → i ≤ A 2 → ∀ M, FrP m0 M → RelPl M (evR A p i) → J G X 43 [vr 20 0 0, vr 1 v 0, vi (12 / A 2), vi p, vi i] [] M := by
  have h0 := hI.1
  refine up_to (fun i h1 h2 ih M hfr hF => ?_)
  have hV := hR.frP hfr
  refine J_iload hX rfl dX4_makeEven_43 ?_
  refine J_aloadN hX rfl rfl dX4_makeEven_45 ?_
  refine G_Village_workCount hX dX4_makeEven_46 mF_X4_37 ?_
  rw [hV.1.2.2]
  refine J_icmp_ge (tgt := 68) hX (by decide) dX4_makeEven_49 (fun h3 => ?_) (fun h3 => ?_)
  · refine K68 M _ hfr (fun a b ha hb => ?_)
    rw [hF a b ha hb]
    unfold evR
    by_cases q : 6 * a + b < 6 * p + i
    · rw [if_pos q, if_pos (by omega)]
    · rw [if_neg q]
      by_cases q2 : 6 * a + b < 6 * (p + 1) + 0
      · rw [if_pos q2]
        unfold evF
        rw [if_neg (by omega)]
      · rw [if_neg q2]
  · refine J_aloadN hX rfl rfl dX4_makeEven_52 ?_
    refine G_Planner_twelfths hX dX4_makeEven_53 mF_X4_11 ?_
    refine J_iloadN hX rfl rfl dX4_makeEven_56 ?_
    refine A_21 hX (by omega) dX4_makeEven_57 ?_
    refine J_iload hX rfl dX4_makeEven_58 ?_
    refine J_iloadN hX rfl rfl dX4_makeEven_60 ?_
    refine S_22 hX (by omega) dX4_makeEven_61 ?_
    refine sinc_4 hX (fun _ => by omega) dX4_makeEven_62 ?_
    refine J_goto (tgt := 43) hX (by decide) dX4_makeEven_65 ?_
    refine ih (by omega) _ hfr.t22 (fun a b ha hb => ?_)
    rw [hF.st (show inN p 6 by omega) (show inN i 6 by omega) _ a b ha hb]
    by_cases q : 6 * a + b = 6 * p + i
    · rw [q, st1_eq]
      unfold evR evF
      rw [if_pos (by omega), show (6 * p + i) / 6 = p by omega, show (6 * p + i) % 6 = i by omega, if_pos ⟨hp, ⟨h1, by omega⟩, by omega⟩]
    · rw [st1_ne q]
      unfold evR
      by_cases q2 : 6 * a + b < 6 * p + i
      · rw [if_pos q2, if_pos (by omega)]
      · rw [if_neg q2, if_neg (by omega)]
theorem l_pev2 {m0 : HM} (hX : Ok_X4_makeEven G X 2) (hR : RelV m0 v A) (hI : InvA A C D) (h2' : 1 ≤ A 2) (hR0 : JRt G X (pu (mkP m0 (evF A))) none) : ∀ p, 0 ≤ p → p ≤ A 1 → ∀ M b, FrP m0 M → RelPl M (evR A p 0) → J G X 19 [vr 20 0 0, vr 1 v 0, vi (12 / A 2), vi p, b] [] M := by
  have h0 := hI.1
  refine up_to (fun p h1 h2 ih M b hfr hF => ?_)
  have hV := hR.frP hfr
  refine J_iloadN hX rfl rfl dX4_makeEven_19 ?_
  refine J_aloadN hX rfl rfl dX4_makeEven_20 ?_
  refine G_Village_personCount hX dX4_makeEven_21 mF_X4_56 ?_
  rw [hV.1.2.1]
  refine J_icmp_ge (tgt := 74) hX (by decide) dX4_makeEven_24 (fun h3 => ?_) (fun h3 => ?_)
  · skip
    refine J_vret hX hR0 dX4_makeEven_74 ?_
    refine puI ⟨hfr, fun a b ha hb => ?_⟩
    rw [hF a b ha hb]
    unfold evR
    by_cases q : 6 * a + b < 6 * p + 0
    · rw [if_pos q]
    · rw [if_neg q]
      unfold evF
      rw [if_neg (by omega)]
  · have hp : inN p (A 1) := ⟨h1, by omega⟩
    have K68 : ∀ M b, FrP m0 M → RelPl M (evR A (p + 1) 0) → J G X 68 [vr 20 0 0, vr 1 v 0, vi (12 / A 2), vi p, b] [] M := fun M b hfr hF => by
      refine sinc_3 hX (fun _ => by omega) dX4_makeEven_68 ?_
      refine J_goto (tgt := 19) hX (by decide) dX4_makeEven_71 ?_
      exact ih (by omega) M _ hfr hF
    refine J_iloadN hX rfl rfl dX4_makeEven_27 ?_
    refine J_aloadN hX rfl rfl dX4_makeEven_28 ?_
    refine G_Village_persons hX dX4_makeEven_29 mF_X4_63 ?_
    refine J_iloadN hX rfl rfl dX4_makeEven_32 ?_
    refine A_6 hX (by omega) dX4_makeEven_33 ?_
    refine G_Person_least hX dX4_makeEven_34 mF_X4_67 ?_
    rw [(hV.2.2.1 p hp).1]
    refine J_icmp_lt (tgt := 68) hX (by decide) dX4_makeEven_37 (fun h4 => ?_) (fun h4 => ?_)
    · refine K68 M _ hfr (fun a b ha hb => ?_)
      rw [hF a b ha hb]
      unfold evR
      by_cases q : 6 * a + b < 6 * p + 0
      · rw [if_pos q, if_pos (by omega)]
      · rw [if_neg q]
        by_cases q2 : 6 * a + b < 6 * (p + 1) + 0
        · rw [if_pos q2]
          unfold evF
          rw [show (6 * a + b) / 6 = p by omega, if_neg (by omega)]
        · rw [if_neg q2]
    · refine J_iconst hX (by decide) dX4_makeEven_40 ?_
      refine si_4 hX dX4_makeEven_41 ?_
      exact l_pev1 hX hR hI hp h2' (by omega) K68 0 (by omega) (by omega) M hfr hF
theorem c_makeEven (hR : RelV m v A) (hI : InvA A C D) (hF : RelPl m zF) : K_X4_makeEven G [vr 20 0 0, vr 1 v 0] m (pu (mkP m (evF A))) := by
  refine E_X4_makeEven (fun X hX hR0 _ _ => ?_)
  have h0 := hI.1
  refine J_aloadN hX rfl rfl dX4_makeEven_0 ?_
  refine G_Village_workCount hX dX4_makeEven_1 mF_X4_37 ?_
  refine J_iconst hX (by decide) dX4_makeEven_4 ?_
  rw [hR.1.2.2]
  refine J_icmp_ge (tgt := 9) hX (by decide) dX4_makeEven_5 (fun h1 => ?_) (fun h1 => ?_)
  · have hd : (12 : Int).tdiv (A 2) = 12 / A 2 := Int.tdiv_eq_ediv_of_nonneg (by omega)
    have hb1 := Int.ediv_nonneg (show (0 : Int) ≤ 12 by omega) (show 0 ≤ A 2 by omega)
    have hb2 := Int.ediv_le_self (A 2) (show (0 : Int) ≤ 12 by omega)
    refine J_bipush hX (by decide) dX4_makeEven_9 ?_
    refine J_aloadN hX rfl rfl dX4_makeEven_11 ?_
    refine G_Village_workCount hX dX4_makeEven_12 mF_X4_37 ?_
    rw [hR.1.2.2]
    refine J_idiv hX (fun _ _ => by omega) (fun _ _ => by rw [hd]; omega) dX4_makeEven_15 ?_
    refine siN_2 hX dX4_makeEven_16 ?_
    refine J_iconst hX (by decide) dX4_makeEven_17 ?_
    refine siN_3 hX dX4_makeEven_18 ?_
    rw [hd]
    refine l_pev2 hX hR hI (by omega) hR0 0 (by omega) (by omega) m _ FrP.rf (fun a b ha hb => ?_)
    rw [hF a b ha hb]
    unfold evR zF
    rw [if_neg (by omega)]
  · skip
    refine J_vret hX hR0 dX4_makeEven_8 ?_
    refine puI ⟨FrP.rf, fun a b ha hb => ?_⟩
    rw [hF a b ha hb]
    unfold evF zF
    rw [if_neg (by omega)]
theorem l_pnd1 {m0 : HM} (hX : Ok_X4_makeNeed G X 6) (hR : RelV m0 v A) (hI : InvA A C D) (ho : okSh F) (hw : inN w (A 2)) (K90 : ∀ M a b c, FrP m0 M → RelPl M (ndW A x w F) → J G X 90 [vr 20 0 0, vr 1 v 0, vi x, vi w, a, b, c] [] M) : ∀ p, 0 ≤ p → p ≤ A 1 → ∀ M a b, FrP m0 M → RelPl M (foI (ndSt A x w) F p) → J G X 13 [vr 20 0 0, vr 1 v 0, vi x, vi w, vi p, a, b] [] M := by
  have h0 := hI.1
  refine up_to (fun p h1 h2 ih M a b hfr hF => ?_)
  have hV := hR.frP hfr
  have ho' : okSh (foI (ndSt A x w) F p) := foI_ind (P := okSh) ho (fun _ _ hi hG => okSh_nd hI hG (by omega)) h1
  refine J_iload hX rfl dX4_makeNeed_13 ?_
  refine J_aloadN hX rfl rfl dX4_makeNeed_15 ?_
  refine G_Village_personCount hX dX4_makeNeed_16 mF_X4_56 ?_
  rw [hV.1.2.1]
  refine J_icmp_ge (tgt := 90) hX (by decide) dX4_makeNeed_19 (fun h3 => ?_) (fun h3 => ?_)
  · have e : p = A 1 := by omega
    subst e
    exact K90 _ _ _ _ hfr hF
  · have hp : inN p (A 1) := ⟨h1, by omega⟩
    have hl := hI.2.2.1 p hp
    have hg := gvn_b ho' (p := p) (by omega)
    have hfrb := ndFree_b (b := x) hI ho' hp
    refine J_aloadN hX rfl rfl dX4_makeNeed_22 ?_
    refine J_aloadN hX rfl rfl dX4_makeNeed_23 ?_
    refine J_iloadN hX rfl rfl dX4_makeNeed_24 ?_
    refine cV2i hX cb_X4_isDone mL_X4_43 dX4_makeNeed_25 (c_pisDone hV hI hF ho' hw) (fun r m2 hm2 => ?_)
    obtain ⟨rfl, hf2⟩ := hm2
    have hfr2 := hfr.tr hf2.toF.toP
    have hF2 := hF.frE hf2
    have hV2 := hR.frP hfr2
    refine J_ifb_ne (tgt := 90) hX (by decide) dX4_makeNeed_28 (fun h4 => ?_) (fun h4 => ?_)
    · exact K90 _ _ _ _ hfr2 (by rw [nd_stop ⟨h1, h2⟩ h4]; exact hF2)
    · have K63 : ∀ fr, fr = ndFree A (foI (ndSt A x w) F p) p x → ∀ d, J G X 63 [vr 20 0 0, vr 1 v 0, vi x, vi w, vi p, vi (aG A p 3), d] [vi fr] m2 := fun fr hfe d => by
        subst hfe
        refine si_6 hX dX4_makeNeed_63 ?_
        refine J_aloadN hX rfl rfl dX4_makeNeed_65 ?_
        refine G_Planner_twelfths hX dX4_makeNeed_66 mF_X4_11 ?_
        refine J_iload hX rfl dX4_makeNeed_69 ?_
        refine A_21 hX (by omega) dX4_makeNeed_71 ?_
        refine J_iloadN hX rfl rfl dX4_makeNeed_72 ?_
        refine J_aloadN hX rfl rfl dX4_makeNeed_73 ?_
        refine J_aloadN hX rfl rfl dX4_makeNeed_74 ?_
        refine J_iload hX rfl dX4_makeNeed_75 ?_
        refine J_iloadN hX rfl rfl dX4_makeNeed_77 ?_
        refine J_iload hX rfl dX4_makeNeed_78 ?_
        refine cV4i hX cb_X4_needed mL_X4_76 dX4_makeNeed_80 (c_needed hV2 hI hF2 ho' hw hp hfrb) (fun r m3 hm3 => ?_)
        obtain ⟨rfl, hf3⟩ := hm3
        have hfr3 := hfr2.tr hf3.toP
        have hF3 := hF2.frF hf3
        refine S_22 hX (by omega) dX4_makeNeed_83 ?_
        refine sinc_4 hX (fun _ => by omega) dX4_makeNeed_84 ?_
        refine J_goto (tgt := 13) hX (by decide) dX4_makeNeed_87 ?_
        refine ih (by omega) _ _ _ hfr3.t22 ?_
        have e : ndSt A x w p (foI (ndSt A x w) F p) = st1 (foI (ndSt A x w) F p) (6 * p + w) (ndV A (foI (ndSt A x w) F p) w p (ndFree A (foI (ndSt A x w) F p) p x)) := ifP_neg h4
        rw [foI_s h1, e]
        exact hF3.st (by omega) (by omega) _
      refine J_aloadN hX rfl rfl dX4_makeNeed_31 ?_
      refine G_Village_persons hX dX4_makeNeed_32 mF_X4_63 ?_
      refine J_iload hX rfl dX4_makeNeed_35 ?_
      refine A_6 hX (by omega) dX4_makeNeed_37 ?_
      refine G_Person_least hX dX4_makeNeed_38 mF_X4_67 ?_
      refine si_5 hX dX4_makeNeed_41 ?_
      refine J_bipush hX (by decide) dX4_makeNeed_43 ?_
      refine J_aloadN hX rfl rfl dX4_makeNeed_45 ?_
      refine J_iload hX rfl dX4_makeNeed_46 ?_
      rw [(hV2.2.2.1 p hp).1]
      refine cV1w hX cb_X4_used mL_X4_72 dX4_makeNeed_48 (c_used hF2 ho' (by omega)) ?_
      refine J_isub hX (fun _ _ => by omega) dX4_makeNeed_51 ?_
      refine J_iloadN hX rfl rfl dX4_makeNeed_52 ?_
      refine J_if_eq (tgt := 61) hX (by decide) dX4_makeNeed_53 (fun h5 => ?_) (fun h5 => ?_)
      · refine J_iconst hX (by decide) dX4_makeNeed_61 ?_
        refine J_isub hX (fun _ _ => by omega) dX4_makeNeed_62 ?_
        exact K63 _ (by unfold ndFree; rw [if_pos h5]) _
      · refine J_iload hX rfl dX4_makeNeed_56 ?_
        refine J_goto (tgt := 62) hX (by decide) dX4_makeNeed_58 ?_
        refine J_isub hX (fun _ _ => by omega) dX4_makeNeed_62 ?_
        exact K63 _ (by unfold ndFree; rw [if_neg h5]) _
theorem l_pnd2 {m0 : HM} (hX : Ok_X4_makeNeed G X 6) (hR : RelV m0 v A) (hI : InvA A C D) (hR0 : JRt G X (pu (mkP m0 (foI (ndW A x) zF (A 2)))) none) : ∀ w, 0 ≤ w → w ≤ A 2 → ∀ M a b c, FrP m0 M → RelPl M (foI (ndW A x) zF w) → J G X 2 [vr 20 0 0, vr 1 v 0, vi x, vi w, a, b, c] [] M := by
  have h0 := hI.1
  refine up_to (fun w h1 h2 ih M a b c hfr hF => ?_)
  have hV := hR.frP hfr
  have ho : okSh (foI (ndW A x) zF w) := foI_ind (P := okSh) okSh_z (fun _ _ _ hG => okSh_ndW hI hG) h1
  refine J_iloadN hX rfl rfl dX4_makeNeed_2 ?_
  refine J_aloadN hX rfl rfl dX4_makeNeed_3 ?_
  refine G_Village_workCount hX dX4_makeNeed_4 mF_X4_37 ?_
  rw [hV.1.2.2]
  refine J_icmp_ge (tgt := 96) hX (by decide) dX4_makeNeed_7 (fun h3 => ?_) (fun h3 => ?_)
  · have e : w = A 2 := by omega
    subst e
    exact J_vret hX hR0 dX4_makeNeed_96 (puI ⟨hfr, hF⟩)
  · refine J_iconst hX (by decide) dX4_makeNeed_10 ?_
    refine si_4 hX dX4_makeNeed_11 ?_
    refine l_pnd1 hX hR hI ho ⟨h1, by omega⟩ (fun M' a b c hfr' hF' => ?_) 0 (by omega) (by omega) M _ _ hfr hF
    refine sinc_3 hX (fun _ => by omega) dX4_makeNeed_90 ?_
    refine J_goto (tgt := 2) hX (by decide) dX4_makeNeed_93 ?_
    exact ih (by omega) M' _ _ _ hfr' (by rw [foI_s h1]; exact hF')
theorem c_makeNeed (hR : RelV m v A) (hI : InvA A C D) (hF : RelPl m zF) : K_X4_makeNeed G [vr 20 0 0, vr 1 v 0, vi x] m (pu (mkP m (foI (ndW A x) zF (A 2)))) := by
  refine E_X4_makeNeed (fun X hX hR0 _ _ => ?_)
  have h0 := hI.1
  refine J_iconst hX (by decide) dX4_makeNeed_0 ?_
  refine siN_3 hX dX4_makeNeed_1 ?_
  exact l_pnd2 hX hR hI hR0 0 (by omega) (by omega) m _ _ _ FrP.rf hF
theorem l_mk1 {m0 : HM} (hX : Ok_X4_make G X 7) (hx : inN p 6) (K34 : ∀ M b, FrP m0 M → (∀ i j, inN i 6 → inN j 6 → i < p + 1 → M 22 0 i j = 0) → J G X 34 [vr 20 0 0, vi x, vr 1 v 0, vi p, b] [] M) : ∀ w, 0 ≤ w → w ≤ 6 → ∀ M, FrP m0 M → (∀ i j, inN i 6 → inN j 6 → (i < p ∨ (i = p ∧ j < w)) → M 22 0 i j = 0) → J G X 11 [vr 20 0 0, vi x, vr 1 v 0, vi p, vi w] [] M := by
  refine up_to (fun w h1 h2 ih M hfr hs => ?_)
  refine J_iload hX rfl dX4_make_11 ?_
  refine J_bipush hX (by decide) dX4_make_13 ?_
  refine J_icmp_ge (tgt := 34) hX (by decide) dX4_make_15 (fun h3 => ?_) (fun h3 => ?_)
  · exact K34 M _ hfr (fun i j hi hj h => hs i j hi hj (by omega))
  · refine J_aloadN hX rfl rfl dX4_make_18 ?_
    refine G_Planner_twelfths hX dX4_make_19 mF_X4_11 ?_
    refine J_iloadN hX rfl rfl dX4_make_22 ?_
    refine A_21 hX (by omega) dX4_make_23 ?_
    refine J_iload hX rfl dX4_make_24 ?_
    refine J_iconst hX (by decide) dX4_make_26 ?_
    refine S_22 hX (by omega) dX4_make_27 ?_
    refine sinc_4 hX (fun _ => by omega) dX4_make_28 ?_
    refine J_goto (tgt := 11) hX (by decide) dX4_make_31 ?_
    refine ih h3 _ hfr.t22 (fun i j hi hj h => ?_)
    by_cases q : i = p
    · subst q
      rw [upr_eq]
      by_cases q2 : j = w
      · rw [q2, st1_eq]
      · rw [st1_ne q2]
        exact hs i j hi hj (by omega)
    · rw [upr_i q]
      exact hs i j hi hj (by omega)
theorem l_mk2 {m0 : HM} (hX : Ok_X4_make G X 7) (K40 : ∀ M a b, FrP m0 M → RelPl M zF → J G X 40 [vr 20 0 0, vi x, vr 1 v 0, a, b] [] M) : ∀ p, 0 ≤ p → p ≤ 6 → ∀ M b, FrP m0 M → (∀ i j, inN i 6 → inN j 6 → i < p → M 22 0 i j = 0) → J G X 2 [vr 20 0 0, vi x, vr 1 v 0, vi p, b] [] M := by
  refine up_to (fun p h1 h2 ih M b hfr hs => ?_)
  refine J_iloadN hX rfl rfl dX4_make_2 ?_
  refine J_bipush hX (by decide) dX4_make_3 ?_
  refine J_icmp_ge (tgt := 40) hX (by decide) dX4_make_5 (fun h3 => ?_) (fun h3 => ?_)
  · exact K40 M _ _ hfr (fun i j hi hj => hs i j hi hj (by omega))
  · refine J_iconst hX (by decide) dX4_make_8 ?_
    refine si_4 hX dX4_make_9 ?_
    refine l_mk1 hX ⟨h1, h3⟩ (fun M' b' hfr' hs' => ?_) 0 (by omega) (by omega) M hfr (fun i j hi hj h => hs i j hi hj (by omega))
    refine sinc_3 hX (fun _ => by omega) dX4_make_34 ?_
    refine J_goto (tgt := 2) hX (by decide) dX4_make_37 ?_
    exact ih h3 M' _ hfr' hs'
theorem c_make (hR : RelV m v A) (hI : InvA A C D) (hx : inN x 4) : K_X4_make G [vr 20 0 0, vi x, vr 1 v 0] m (pu (mkP m (plF A x))) := by
  refine E_X4_make (fun X hX hR0 _ _ => ?_)
  refine J_iconst hX (by decide) dX4_make_0 ?_
  refine siN_3 hX dX4_make_1 ?_
  refine l_mk2 hX (fun M a b hfr hF => ?_) 0 (by omega) (by omega) m _ FrP.rf (fun i j hi hj h => by omega)
  have hV := hR.frP hfr
  rcases (show x = 0 ∨ x = 1 ∨ x = 2 ∨ x = 3 by omega) with rfl | rfl | rfl | rfl
  · refine J_iloadN hX rfl rfl dX4_make_40 ?_
    refine J_tableIn (off := 31) (tgt := 72) hX (by omega) (by omega) rfl (by decide) dX4_make_41 ?_
    refine J_aloadN hX rfl rfl dX4_make_72 ?_
    refine J_aloadN hX rfl rfl dX4_make_73 ?_
    refine cV1u hX cb_X4_makeWholes mL_X4_26 dX4_make_74 (c_makeWholes hV hI hF) (fun m2 hm2 => ?_)
    refine J_goto (tgt := 106) hX (by decide) dX4_make_77 ?_
    exact J_vret hX hR0 dX4_make_106 (puI ⟨hfr.tr hm2.1, hm2.2⟩)
  · refine J_iloadN hX rfl rfl dX4_make_40 ?_
    refine J_tableIn (off := 39) (tgt := 80) hX (by omega) (by omega) rfl (by decide) dX4_make_41 ?_
    refine J_aloadN hX rfl rfl dX4_make_80 ?_
    refine J_aloadN hX rfl rfl dX4_make_81 ?_
    refine cV1u hX cb_X4_makeEven mL_X4_30 dX4_make_82 (c_makeEven hV hI hF) (fun m2 hm2 => ?_)
    refine J_goto (tgt := 106) hX (by decide) dX4_make_85 ?_
    exact J_vret hX hR0 dX4_make_106 (puI ⟨hfr.tr hm2.1, hm2.2⟩)
  · refine J_iloadN hX rfl rfl dX4_make_40 ?_
    refine J_tableIn (off := 47) (tgt := 88) hX (by omega) (by omega) rfl (by decide) dX4_make_41 ?_
    refine J_aloadN hX rfl rfl dX4_make_88 ?_
    refine J_aloadN hX rfl rfl dX4_make_89 ?_
    refine J_iconst hX (by decide) dX4_make_90 ?_
    refine cV2u hX cb_X4_makeNeed mL_X4_33 dX4_make_91 (c_makeNeed hV hI hF) (fun m2 hm2 => ?_)
    refine J_goto (tgt := 106) hX (by decide) dX4_make_94 ?_
    exact J_vret hX hR0 dX4_make_106 (puI ⟨hfr.tr hm2.1, hm2.2⟩)
  · refine J_iloadN hX rfl rfl dX4_make_40 ?_
    refine J_tableIn (off := 56) (tgt := 97) hX (by omega) (by omega) rfl (by decide) dX4_make_41 ?_
    refine J_aloadN hX rfl rfl dX4_make_97 ?_
    refine J_aloadN hX rfl rfl dX4_make_98 ?_
    refine J_iconst hX (by decide) dX4_make_99 ?_
    refine cV2u hX cb_X4_makeNeed mL_X4_33 dX4_make_100 (c_makeNeed hV hI hF) (fun m2 hm2 => ?_)
    refine J_goto (tgt := 106) hX (by decide) dX4_make_103 ?_
    exact J_vret hX hR0 dX4_make_106 (puI ⟨hfr.tr hm2.1, hm2.2⟩)
theorem l_pworth {m0 : HM} (hX : Ok_X4_worth G X 6) (hR : RelV m0 v A) (hI : InvA A C D) (ho : okSh F) (hF : RelPl m0 F) (hR0 : JRt G X (pi (fun r m' => r = plW A F (A 2) ∧ FrF m0 m')) (some .int)) : ∀ i, 0 ≤ i → i ≤ A 2 → ∀ M, FrF m0 M → J G X 4 [vr 20 0 0, vr 1 v 0, vi (plW A F i), vi i] [] M := by
  have h0 := hI.1
  refine up_to (fun i h1 h2 ih M hfr => ?_)
  have hV := hR.frF hfr
  have hb := plW_b (F := F) hI ⟨h1, h2⟩
  refine J_iloadN hX rfl rfl dX4_worth_4 ?_
  refine J_aloadN hX rfl rfl dX4_worth_5 ?_
  refine G_Village_workCount hX dX4_worth_6 mF_X4_37 ?_
  rw [hV.1.2.2]
  refine J_icmp_ge (tgt := 39) hX (by decide) dX4_worth_9 (fun h3 => ?_) (fun h3 => ?_)
  · have e : i = A 2 := by omega
    subst e
    refine J_iloadN hX rfl rfl dX4_worth_39 ?_
    exact J_iret hX hR0 dX4_worth_40 (⟨_, rfl, rfl, hfr⟩)
  · have hw : inN i (A 2) := ⟨h1, by omega⟩
    have hv := (hI.2.2.2.1 i hw).2.2.1
    have e : plW A F (i + 1) = plW A F i + ifP (dn0 A F i) (aW A i 5) 0 := by unfold plW; rw [sumI_s h1]
    refine J_aloadN hX rfl rfl dX4_worth_12 ?_
    refine J_aloadN hX rfl rfl dX4_worth_13 ?_
    refine J_iloadN hX rfl rfl dX4_worth_14 ?_
    refine cV2i hX cb_X4_isDone mL_X4_43 dX4_worth_15 (c_pisDone hV hI (hF.frF hfr) ho hw) (fun r m2 hm2 => ?_)
    obtain ⟨rfl, hf2⟩ := hm2
    have hfr2 := hfr.tr hf2.toF
    have nx := ih (by omega) m2 hfr2
    refine J_ifb_eq (tgt := 33) hX (by decide) dX4_worth_18 (fun h4 => ?_) (fun h4 => ?_)
    · rw [e, ifP_neg h4, Int.add_zero] at nx
      refine sinc_3 hX (fun _ => by omega) dX4_worth_33 ?_
      refine J_goto (tgt := 4) hX (by decide) dX4_worth_36 ?_
      exact nx
    · rw [e, ifP_pos h4] at nx
      have e3 := ((hR.frF hfr2).2.2.2.1 i hw).2.2.1
      refine J_iloadN hX rfl rfl dX4_worth_21 ?_
      refine J_aloadN hX rfl rfl dX4_worth_22 ?_
      refine G_Village_works hX dX4_worth_23 mF_X4_47 ?_
      refine J_iloadN hX rfl rfl dX4_worth_26 ?_
      refine A_7 hX (by omega) dX4_worth_27 ?_
      refine G_Work_worth hX dX4_worth_28 mF_X4_51 ?_
      rw [e3]
      refine J_iadd hX (fun _ _ => by omega) dX4_worth_31 ?_
      refine siN_2 hX dX4_worth_32 ?_
      refine sinc_3 hX (fun _ => by omega) dX4_worth_33 ?_
      refine J_goto (tgt := 4) hX (by decide) dX4_worth_36 ?_
      exact nx
theorem c_pworth (hR : RelV m v A) (hI : InvA A C D) (ho : okSh F) (hF : RelPl m F) : K_X4_worth G [vr 20 0 0, vr 1 v 0] m (pi (fun r m' => r = plW A F (A 2) ∧ FrF m m')) := by
  refine E_X4_worth (fun X hX hR0 _ _ => ?_)
  refine J_iconst hX (by decide) dX4_worth_0 ?_
  refine siN_2 hX dX4_worth_1 ?_
  refine J_iconst hX (by decide) dX4_worth_2 ?_
  refine siN_3 hX dX4_worth_3 ?_
  exact l_pworth hX hR hI ho hF hR0 0 (by omega) hI.1.2.2.2.2.1 m FrF.rf
theorem c_isKind : K_X4_isKind G [vi x] m (pw (vi (bi (inN x 4))) m) := by
  refine E_X4_isKind (fun X hX hR0 _ _ => ?_)
  refine J_iloadN hX rfl rfl dX4_isKind_0 ?_
  refine J_if_lt (tgt := 13) hX (by decide) dX4_isKind_1 (fun h1 => ?_) (fun h1 => ?_)
  · refine J_iconst hX (by decide) dX4_isKind_13 ?_
    exact J_zret hX hR0 dX4_isKind_14 (Or.inl rfl) (pwb0 (fun q => by have := q.1; omega))
  · refine J_iloadN hX rfl rfl dX4_isKind_4 ?_
    refine J_iconst hX (by decide) dX4_isKind_5 ?_
    refine J_icmp_gt (tgt := 13) hX (by decide) dX4_isKind_6 (fun h2 => ?_) (fun h2 => ?_)
    · refine J_iconst hX (by decide) dX4_isKind_13 ?_
      exact J_zret hX hR0 dX4_isKind_14 (Or.inl rfl) (pwb0 (fun q => by have := q.2; omega))
    · refine J_iconst hX (by decide) dX4_isKind_9 ?_
      refine J_goto (tgt := 14) hX (by decide) dX4_isKind_10 ?_
      exact J_zret hX hR0 dX4_isKind_14 (Or.inr rfl) (pwb1 ⟨by omega, by omega⟩)
end Pl
