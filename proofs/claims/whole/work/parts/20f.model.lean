/-! ===== 20f: the reference: plan, planned ===== -/
theorem plW_b {A F : Int → Int} {C D n : Int} (hI : InvA A C D) (hn : 0 ≤ n ∧ n ≤ A 2) : 0 ≤ plW A F n ∧ plW A F n ≤ 594 := by
  have h0 := hI.1
  have := sumI_b (f := fun w => ifP (dn0 A F w) (aW A w 5) 0) (lo := 0) (hi := 99) hn.1 (fun i a b => by
    have h1 := (hI.2.2.2.1 i (by omega)).2.2.1
    show 0 ≤ ifP (dn0 A F i) (aW A i 5) 0 ∧ ifP (dn0 A F i) (aW A i 5) 0 ≤ 99
    by_cases q : dn0 A F i
    · rw [ifP_pos q]; exact h1
    · rw [ifP_neg q]; omega)
  unfold plW
  omega
section Mod
variable {G : GC} {X : JX} {m : HM} {κ p t τ w x y z i k q b : Int} {A N S g F : Int → Int} {H C D : Int}
theorem l_plans (hX : Ok_X10_plans G X 8) (K21 : ∀ M b, FrM T6 m M → RelSh M zF → J G X 21 [vr 40 0 0, vi x, b] [] M) : ∀ i, 0 ≤ i → i ≤ 36 → ∀ M, FrM T6 m M → (∀ j, inN j i → M 49 0 0 j = 0) → J G X 2 [vr 40 0 0, vi x, vi i] [] M := by
  refine up_to (fun i h1 h2 ih M hfr hs => ?_)
  refine J_iloadN hX rfl rfl dX10_plans_2 ?_
  refine J_bipush hX (by decide) dX10_plans_3 ?_
  refine J_icmp_ge (tgt := 21) hX (by decide) dX10_plans_5 (fun h3 => ?_) (fun h3 => ?_)
  · exact K21 M _ hfr (fun j hj => hs j (by omega))
  · refine J_aloadN hX rfl rfl dX10_plans_8 ?_
    refine G_HalfHereModel_share hX dX10_plans_9 mF_X10_34 ?_
    refine J_iloadN hX rfl rfl dX10_plans_12 ?_
    refine J_iconst hX (by decide) dX10_plans_13 ?_
    refine S_49 hX (by omega) dX10_plans_14 ?_
    refine sinc_2 hX (fun _ => by omega) dX10_plans_15 ?_
    refine J_goto (tgt := 2) hX (by decide) dX10_plans_18 ?_
    refine ih h3 _ (hfr.up T6_49 (by decide)) (fun j hj => ?_)
    rw [upr_eq]
    by_cases e : j = i
    · rw [e, st1_eq]
    · rw [st1_ne e]; exact hs j (by omega)
theorem c_plans (hA : m 42 0 0 = A) (hI : InvA A C D) (hx : inN x 4) : K_X10_plans G [vr 40 0 0, vi x] m (pu (plP m (plF A x))) := by
  refine E_X10_plans (fun X hX hR0 _ _ => ?_)
  refine J_iconst hX (by decide) dX10_plans_0 ?_
  refine siN_2 hX dX10_plans_1 ?_
  refine l_plans hX (fun M b hfr hF => ?_) 0 (by omega) (by omega) m FrM.rf (fun j hj => by omega)
  have hA' := hfr.a42 hA T6_42
  rcases (show x = 0 ∨ x = 1 ∨ x = 2 ∨ x = 3 by omega) with rfl | rfl | rfl | rfl
  · refine J_iloadN hX rfl rfl dX10_plans_21 ?_
    refine J_lookup (off := 26) (tgt := 48) hX rfl (by decide +kernel) (by decide) dX10_plans_22 ?_
    refine J_aloadN hX rfl rfl dX10_plans_48 ?_
    refine cV0u hX cb_X10_plansWholes mL_X10_193 dX10_plans_49 (c_plansWholes hA' hI hF) (fun m2 hm2 => ?_)
    refine J_goto (tgt := 76) hX (by decide) dX10_plans_52 ?_
    exact J_vret hX hR0 dX10_plans_76 (puI ⟨hfr.tr hm2.1, hm2.2⟩)
  · refine J_iloadN hX rfl rfl dX10_plans_21 ?_
    refine J_lookup (off := 33) (tgt := 55) hX rfl (by decide +kernel) (by decide) dX10_plans_22 ?_
    refine J_aloadN hX rfl rfl dX10_plans_55 ?_
    refine cV0u hX cb_X10_plansEven mL_X10_196 dX10_plans_56 (c_plansEven hA' hI hF) (fun m2 hm2 => ?_)
    refine J_goto (tgt := 76) hX (by decide) dX10_plans_59 ?_
    exact J_vret hX hR0 dX10_plans_76 (puI ⟨hfr.tr hm2.1, hm2.2⟩)
  · refine J_iloadN hX rfl rfl dX10_plans_21 ?_
    refine J_lookup (off := 40) (tgt := 62) hX rfl (by decide +kernel) (by decide) dX10_plans_22 ?_
    refine J_aloadN hX rfl rfl dX10_plans_62 ?_
    refine J_iloadN hX rfl rfl dX10_plans_63 ?_
    refine J_iconst hX (by decide) dX10_plans_64 ?_
    refine J_icmp_ne (tgt := 72) hX (by decide) dX10_plans_65 (fun h1 => ?_) (fun h1 => ?_)
    · refine J_iconst hX (by decide) dX10_plans_72 ?_
      refine cV1u hX cb_X10_plansNeed mL_X10_199 dX10_plans_73 (c_plansNeed hA' hI hF) (fun m2 hm2 => ?_)
      exact J_vret hX hR0 dX10_plans_76 (puI ⟨hfr.tr hm2.1, hm2.2⟩)
    · omega
  · refine J_iloadN hX rfl rfl dX10_plans_21 ?_
    refine J_lookup (off := 40) (tgt := 62) hX rfl (by decide +kernel) (by decide) dX10_plans_22 ?_
    refine J_aloadN hX rfl rfl dX10_plans_62 ?_
    refine J_iloadN hX rfl rfl dX10_plans_63 ?_
    refine J_iconst hX (by decide) dX10_plans_64 ?_
    refine J_icmp_ne (tgt := 72) hX (by decide) dX10_plans_65 (fun h1 => ?_) (fun h1 => ?_)
    · omega
    · refine J_iconst hX (by decide) dX10_plans_68 ?_
      refine J_goto (tgt := 73) hX (by decide) dX10_plans_69 ?_
      refine cV1u hX cb_X10_plansNeed mL_X10_199 dX10_plans_73 (c_plansNeed hA' hI hF) (fun m2 hm2 => ?_)
      exact J_vret hX hR0 dX10_plans_76 (puI ⟨hfr.tr hm2.1, hm2.2⟩)
theorem l_worthOf (hX : Ok_X10_worthOf G X 7) (hA : m 42 0 0 = A) (hI : InvA A C D) (ho : okSh F) (hF : RelSh m F) (hR0 : JRt G X (pi (fun r m' => r = plW A F (A 2) ∧ FrM T48 m m')) (some .int)) : ∀ i, 0 ≤ i → i ≤ A 2 → ∀ M, FrM T48 m M → J G X 4 [vr 40 0 0, vi (plW A F i), vi i] [] M := by
  have h0 := hI.1
  refine up_to (fun i h1 h2 ih M hfr => ?_)
  have hA' := hfr.a42 hA T48_42
  have hb := plW_b (F := F) hI ⟨h1, h2⟩
  refine J_iloadN hX rfl rfl dX10_worthOf_4 ?_
  refine J_aloadN hX rfl rfl dX10_worthOf_5 ?_
  refine G_HalfHereModel_s hX dX10_worthOf_6 mF_X10_13 ?_
  refine J_iconst hX (by decide) dX10_worthOf_9 ?_
  refine L_42 hX (by omega) dX10_worthOf_10 ?_
  rw [hA']
  refine J_icmp_ge (tgt := 43) hX (by decide) dX10_worthOf_11 (fun h3 => ?_) (fun h3 => ?_)
  · have e : i = A 2 := by omega
    subst e
    refine J_iloadN hX rfl rfl dX10_worthOf_43 ?_
    exact J_iret hX hR0 dX10_worthOf_44 (⟨_, rfl, rfl, hfr⟩)
  · have hw : inN i (A 2) := ⟨h1, by omega⟩
    have hv := (hI.2.2.2.1 i hw).2.2.1
    have e : plW A F (i + 1) = plW A F i + ifP (dn0 A F i) (aW A i 5) 0 := by unfold plW; rw [sumI_s h1]
    refine J_iloadN hX rfl rfl dX10_worthOf_14 ?_
    refine J_aloadN hX rfl rfl dX10_worthOf_15 ?_
    refine J_iloadN hX rfl rfl dX10_worthOf_16 ?_
    refine J_iconst hX (by decide) dX10_worthOf_17 ?_
    refine J_iconst hX (by decide) dX10_worthOf_18 ?_
    refine cV3i hX cb_X10_isDoneBy mL_X10_183 dX10_worthOf_19 (c_isDoneBy hA' hI (hF.fr hfr T48_49) ho hw (by omega) (by omega)) (fun r m2 hm2 => ?_)
    obtain ⟨rfl, hf2⟩ := hm2
    rw [dnB_0 (by omega)]
    have nx := ih (by omega) m2 (hfr.tr hf2)
    refine J_ifb_eq (tgt := 34) hX (by decide) dX10_worthOf_22 (fun h4 => ?_) (fun h4 => ?_)
    · rw [e, ifP_neg h4] at nx
      refine J_iconst hX (by decide) dX10_worthOf_34 ?_
      refine J_iadd hX (fun _ _ => by omega) dX10_worthOf_35 ?_
      refine siN_1 hX dX10_worthOf_36 ?_
      refine sinc_2 hX (fun _ => by omega) dX10_worthOf_37 ?_
      refine J_goto (tgt := 4) hX (by decide) dX10_worthOf_40 ?_
      exact nx
    · rw [e, ifP_pos h4] at nx
      refine J_aloadN hX rfl rfl dX10_worthOf_25 ?_
      refine J_iloadN hX rfl rfl dX10_worthOf_26 ?_
      refine J_iconst hX (by decide) dX10_worthOf_27 ?_
      refine cV2w hX cb_X10_of mL_X10_118 dX10_worthOf_28 (c_of ((hfr.tr hf2).a42 hA T48_42) (by omega) (by omega)) ?_
      refine J_goto (tgt := 35) hX (by decide) dX10_worthOf_31 ?_
      refine J_iadd hX (fun _ _ => by omega) dX10_worthOf_35 ?_
      refine siN_1 hX dX10_worthOf_36 ?_
      refine sinc_2 hX (fun _ => by omega) dX10_worthOf_37 ?_
      refine J_goto (tgt := 4) hX (by decide) dX10_worthOf_40 ?_
      exact nx
theorem c_worthOf (hA : m 42 0 0 = A) (hI : InvA A C D) (ho : okSh F) (hF : RelSh m F) : K_X10_worthOf G [vr 40 0 0] m (pi (fun r m' => r = plW A F (A 2) ∧ FrM T48 m m')) := by
  refine E_X10_worthOf (fun X hX hR0 _ _ => ?_)
  refine J_iconst hX (by decide) dX10_worthOf_0 ?_
  refine siN_1 hX dX10_worthOf_1 ?_
  refine J_iconst hX (by decide) dX10_worthOf_2 ?_
  refine siN_2 hX dX10_worthOf_3 ?_
  exact l_worthOf hX hA hI ho hF hR0 0 (by omega) hI.1.2.2.2.2.1 m FrM.rf
def rfPlan (k : Int) : Int := if inN k 4 then 0 else -2
noncomputable def planA (A : Int → Int) (k : Int) : Int := plW A (plF A k) (A 2)
def rfPlanned (A : Int → Int) (k p w : Int) : Int := if inN k 4 then (if inN p (A 1) ∧ inN w (A 2) then 0 else -1) else -2
noncomputable def plannedA (A : Int → Int) (k p w : Int) : Int := plF A k (6 * p + w)
theorem c_mplan (hA : m 42 0 0 = A) (hI : InvA A C D) (hf : few41 m) : K_X10_plan G [vr 40 0 0, vi x] m (pi (anQ m (rfPlan x) (planA A x) (FrQ m))) := by
  refine E_X10_plan (fun X hX hR0 _ _ => ?_)
  refine J_iloadN hX rfl rfl dX10_plan_0 ?_
  refine J_iconst hX (by decide) dX10_plan_1 ?_
  refine cS2w hX cb_X10_isIn mL_X10_46 dX10_plan_2 (c_isIn) ?_
  refine J_ifb_ne (tgt := 15) hX (by decide) dX10_plan_5 (fun h1 => ?_) (fun h1 => ?_)
  · refine J_aloadN hX rfl rfl dX10_plan_15 ?_
    refine J_iloadN hX rfl rfl dX10_plan_16 ?_
    refine cV1u hX cb_X10_plans mL_X10_203 dX10_plan_17 (c_plans hA hI h1) (fun m2 hm2 => ?_)
    refine J_aloadN hX rfl rfl dX10_plan_20 ?_
    refine cV0i hX cb_X10_worthOf mL_X10_206 dX10_plan_21 (c_worthOf (hm2.1.a42 hA T6_42) hI (okSh_pl hI) hm2.2) (fun r m3 hm3 => ?_)
    obtain ⟨rfl, hf3⟩ := hm3
    exact J_iret hX hR0 dX10_plan_24 (anQ.yes (if_pos h1) rfl ((hm2.1.tr (hf3.mono T48_6)).q T6q))
  · refine J_aloadN hX rfl rfl dX10_plan_8 ?_
    refine J_bipush hX (by decide) dX10_plan_9 ?_
    refine cV1w hX cb_X10_refuse mL_X10_62 dX10_plan_11 (c_mrefuse (by omega) (hf _ (by omega))) ?_
    exact J_iret hX hR0 dX10_plan_14 (anQ.no (if_neg h1) (by omega))
theorem c_mplanned (hA : m 42 0 0 = A) (hI : InvA A C D) (hf : few41 m) : K_X10_planned G [vr 40 0 0, vi x, vi p, vi w] m (pi (anQ m (rfPlanned A x p w) (plannedA A x p w) (FrQ m))) := by
  refine E_X10_planned (fun X hX hR0 _ _ => ?_)
  have h0 := hI.1
  have no : inN x 4 → ¬ (inN p (A 1) ∧ inN w (A 2)) → J G X 31 [vr 40 0 0, vi x, vi p, vi w] [] m := fun h1 h2 => by
    refine J_aloadN hX rfl rfl dX10_planned_31 ?_
    refine J_iconst hX (by decide) dX10_planned_32 ?_
    refine cV1w hX cb_X10_refuse mL_X10_62 dX10_planned_33 (c_mrefuse (by omega) (hf _ (by omega))) ?_
    exact J_iret hX hR0 dX10_planned_36 (anQ.no (by unfold rfPlanned; rw [if_pos h1, if_neg h2]) (by omega))
  refine J_iloadN hX rfl rfl dX10_planned_0 ?_
  refine J_iconst hX (by decide) dX10_planned_1 ?_
  refine cS2w hX cb_X10_isIn mL_X10_46 dX10_planned_2 (c_isIn) ?_
  refine J_ifb_ne (tgt := 15) hX (by decide) dX10_planned_5 (fun h1 => ?_) (fun h1 => ?_)
  · refine J_aloadN hX rfl rfl dX10_planned_15 ?_
    refine J_iloadN hX rfl rfl dX10_planned_16 ?_
    refine cV1w hX cb_X10_isPerson mL_X10_103 dX10_planned_17 (c_isPerson hA) ?_
    refine J_ifb_eq (tgt := 31) hX (by decide) dX10_planned_20 (fun h2 => ?_) (fun h2 => ?_)
    · exact no h1 (fun q => h2 q.1)
    · refine J_aloadN hX rfl rfl dX10_planned_23 ?_
      refine J_iloadN hX rfl rfl dX10_planned_24 ?_
      refine cV1w hX cb_X10_isWork mL_X10_115 dX10_planned_25 (c_isWork hA) ?_
      refine J_ifb_ne (tgt := 37) hX (by decide) dX10_planned_28 (fun h3 => ?_) (fun h3 => ?_)
      · refine J_aloadN hX rfl rfl dX10_planned_37 ?_
        refine J_iloadN hX rfl rfl dX10_planned_38 ?_
        refine cV1u hX cb_X10_plans mL_X10_203 dX10_planned_39 (c_plans hA hI h1) (fun m2 hm2 => ?_)
        refine J_aloadN hX rfl rfl dX10_planned_42 ?_
        refine G_HalfHereModel_share hX dX10_planned_43 mF_X10_34 ?_
        refine J_bipush hX (by decide) dX10_planned_46 ?_
        refine J_iloadN hX rfl rfl dX10_planned_48 ?_
        refine J_imul hX (fun _ _ => by omega) dX10_planned_49 ?_
        refine J_iloadN hX rfl rfl dX10_planned_50 ?_
        refine J_iadd hX (fun _ _ => by omega) dX10_planned_51 ?_
        refine L_49 hX (by omega) dX10_planned_52 ?_
        exact J_iret hX hR0 dX10_planned_53 (anQ.yes (by unfold rfPlanned; rw [if_pos h1, if_pos ⟨h2, h3⟩]) (hm2.2 _ (by omega)) (hm2.1.q T6q))
      · exact no h1 (fun q => h3 q.2)
  · refine J_aloadN hX rfl rfl dX10_planned_8 ?_
    refine J_bipush hX (by decide) dX10_planned_9 ?_
    refine cV1w hX cb_X10_refuse mL_X10_62 dX10_planned_11 (c_mrefuse (by omega) (hf _ (by omega))) ?_
    exact J_iret hX hR0 dX10_planned_14 (anQ.no (by unfold rfPlanned; rw [if_neg h1]) (by omega))
end Mod
