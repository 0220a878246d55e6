/-! ===== 34b: the class HalfHere: works, plans ===== -/
section Hf
variable {G : GC} {X : JX} {m : HM} {κ p t τ w x y z i k q b h l n : Int} {A N S g F B W T R : Int → Int} {H C D : Int}
theorem l_xgather {m0 : HM} (hX : Ok_X9_gatherParts G X 3) (hR : RelV m0 0 A) (hI : InvA A C D) (hw : inN w (A 2)) (hR0 : JRt G X (pu (fun m' => FrE 0 m0 m' ∧ RelE m' 0 (aW A w 0) (nW A w) (gaS A w 24) (gaH A w 24))) none) : ∀ i, 0 ≤ i → i ≤ 24 → ∀ M c, FrE 0 m0 M → RelE M 0 (aW A w 0) (nW A w) (gaS A w i) (gaH A w i) → J G X 18 [vr 0 0 0, vi w, vi i, c] [] M := by
  have h0 := hI.1
  refine up_to (fun i h1 h2 ih M c hfr hr => ?_)
  have hV := hR.frE hfr
  have K84 : ∀ M' c', FrE 0 m0 M' → RelE M' 0 (aW A w 0) (nW A w) (gaS A w (i + 1)) (gaH A w (i + 1)) → i < 24 → J G X 84 [vr 0 0 0, vi w, vi i, c'] [] M' := fun M' c' g1 g2 g3 => by
    refine sinc_2 hX (fun _ => by omega) dX9_gatherParts_84 ?_
    refine J_goto (tgt := 18) hX (by decide) dX9_gatherParts_87 ?_
    exact ih g3 M' _ g1 g2
  have fi : ¬ aAt A w i → RelE M 0 (aW A w 0) (nW A w) (gaS A w (i + 1)) (gaH A w (i + 1)) := fun hn => by
    have e1 : gaS A w (i + 1) = gaS A w i := by funext k; unfold gaS; rw [sP_f h1 hn]
    have e2 : gaH A w (i + 1) = gaH A w i := by unfold gaH; rw [oI_f h1 hn]
    rw [e1, e2]
    exact hr
  refine J_iloadN hX rfl rfl dX9_gatherParts_18 ?_
  refine J_bipush hX (by decide) dX9_gatherParts_19 ?_
  refine J_icmp_ge (tgt := 90) hX (by decide) dX9_gatherParts_21 (fun h3 => ?_) (fun h3 => ?_)
  · have e : i = 24 := by omega
    subst e
    exact J_vret hX hR0 dX9_gatherParts_90 (puI ⟨hfr, hr⟩)
  · refine J_aloadN hX rfl rfl dX9_gatherParts_24 ?_
    refine G_HalfHere_now hX dX9_gatherParts_25 mF_X9_19 ?_
    refine G_Village_parts hX dX9_gatherParts_28 mF_X9_153 ?_
    refine J_iloadN hX rfl rfl dX9_gatherParts_31 ?_
    refine A_8 hX (by omega) dX9_gatherParts_32 ?_
    refine saN_3 hX dX9_gatherParts_33 ?_
    refine J_aloadN hX rfl rfl dX9_gatherParts_34 ?_
    refine G_HalfHere_now hX dX9_gatherParts_35 mF_X9_19 ?_
    refine J_iloadN hX rfl rfl dX9_gatherParts_38 ?_
    refine cV1w hX cb_X7_hasPart mL_X9_150 dX9_gatherParts_39 (c_hasPart hV) ?_
    refine J_ifb_eq (tgt := 84) hX (by decide) dX9_gatherParts_42 (fun h4 => ?_) (fun h4 => ?_)
    · exact K84 M _ hfr (fi (fun q => h4 q.1)) h3
    · obtain ⟨v0, v1, v2, v3, v4, v5, v6⟩ := hV.part h4
      have hs := hI.share h4
      have hp := hI.part h4
      have hq := hI.pers h4
      refine J_aloadN hX rfl rfl dX9_gatherParts_45 ?_
      refine G_Part_work hX dX9_gatherParts_46 mF_X9_166 ?_
      refine J_iloadN hX rfl rfl dX9_gatherParts_49 ?_
      rw [v3]
      refine J_icmp_ne (tgt := 84) hX (by decide) dX9_gatherParts_50 (fun h5 => ?_) (fun h5 => ?_)
      · exact K84 M _ hfr (fi (fun q => h5 q.2)) h3
      · have hat : aAt A w i := ⟨h4, h5⟩
        have hκ := (hI.2.2.2.1 w hw).1
        have hg := (hI.2.2.1 _ hq).2.2
        have hv := (hV.2.2.1 _ hq).2
        have hS1 := fun k hk => gaS_b (w := w) (n := i) (k := k) hI ⟨h1, h2⟩ hk
        refine J_aloadN hX rfl rfl dX9_gatherParts_53 ?_
        refine G_HalfHere_effort hX dX9_gatherParts_54 mF_X9_36 ?_
        refine J_aloadN hX rfl rfl dX9_gatherParts_57 ?_
        refine G_Part_person hX dX9_gatherParts_58 mF_X9_157 ?_
        rw [v0]
        refine J_aloadN hX rfl rfl dX9_gatherParts_61 ?_
        refine G_HalfHere_now hX dX9_gatherParts_62 mF_X9_19 ?_
        refine G_Village_persons hX dX9_gatherParts_65 mF_X9_101 ?_
        refine J_aloadN hX rfl rfl dX9_gatherParts_68 ?_
        refine G_Part_person hX dX9_gatherParts_69 mF_X9_157 ?_
        rw [v0]
        refine A_6 hX (by omega) dX9_gatherParts_72 ?_
        refine J_aloadN hX rfl rfl dX9_gatherParts_73 ?_
        refine G_Part_twelfths hX dX9_gatherParts_74 mF_X9_162 ?_
        refine J_aloadN hX rfl rfl dX9_gatherParts_77 ?_
        refine G_Part_tired hX dX9_gatherParts_78 mF_X9_172 ?_
        rw [v1, v5]
        refine cV4u hX cb_X1_add mL_X9_249 dX9_gatherParts_81 (c_add (g := aG A (aP A i 0 - 1)) hr (fun k hk => by have := hS1 k hk; omega) (gaH_b hI ⟨h1, h2⟩) hκ (by omega) (fun k hk => ⟨hv k hk, hg k hk⟩) (by omega) (by omega)) (fun m2 hm2 => ?_)
        refine K84 m2 _ (hfr.tr hm2.1) ?_ h3
        have e1 : gaS A w (i + 1) = fun k => gaS A w i k + gv (aW A w 0) k (aG A (aP A i 0 - 1) k) (aP A i 1) (aP A i 5) := by funext k; unfold gaS; rw [sP_t h1 hat]
        have e2 : gaH A w (i + 1) = orI (gaH A w i) (p2 (aP A i 0 - 1)) := by unfold gaH; rw [oI_t h1 hat]
        rw [e1, e2]
        exact hm2.2
theorem c_gatherParts (hR : RelV m 0 A) (hI : InvA A C D) (hw : inN w (A 2)) : K_X9_gatherParts G [vr 0 0 0, vi w] m (pu (fun m' => FrE 0 m m' ∧ RelE m' 0 (aW A w 0) (nW A w) (gaS A w 24) (gaH A w 24))) := by
  refine E_X9_gatherParts (fun X hX hR0 _ _ => ?_)
  have h0 := hI.1
  have hWo := hR.2.2.2.1 w hw
  refine J_aloadN hX rfl rfl dX9_gatherParts_0 ?_
  refine G_HalfHere_effort hX dX9_gatherParts_1 mF_X9_36 ?_
  refine J_aloadN hX rfl rfl dX9_gatherParts_4 ?_
  refine G_HalfHere_now hX dX9_gatherParts_5 mF_X9_19 ?_
  refine G_Village_works hX dX9_gatherParts_8 mF_X9_122 ?_
  refine J_iloadN hX rfl rfl dX9_gatherParts_11 ?_
  refine A_7 hX (by omega) dX9_gatherParts_12 ?_
  refine cV1u hX cb_X1_begin mL_X9_245 dX9_gatherParts_13 (c_begin hWo.1 hWo.2.2.2) (fun m2 hm2 => ?_)
  refine J_iconst hX (by decide) dX9_gatherParts_16 ?_
  refine siN_2 hX dX9_gatherParts_17 ?_
  exact l_xgather hX hR hI hw hR0 0 (by omega) (by omega) m2 _ hm2.1 hm2.2
theorem c_xdoes (hR : RelV m 0 A) (hI : InvA A C D) (hf : few33 m) : K_X9_does G [vr 0 0 0, vi w, vi x] m (pi (anX m (rfDoes A w x 3) (doA A w x) (FrX m))) := by
  refine E_X9_does (fun X hX hR0 _ _ => ?_)
  refine J_aloadN hX rfl rfl dX9_does_0 ?_
  refine G_HalfHere_now hX dX9_does_1 mF_X9_19 ?_
  refine J_iloadN hX rfl rfl dX9_does_4 ?_
  refine cV1w hX cb_X7_hasWork mL_X9_119 dX9_does_5 (c_hasWork hR) ?_
  refine J_ifb_ne (tgt := 17) hX (by decide) dX9_does_8 (fun h1 => ?_) (fun h1 => ?_)
  · have K26 : ¬ inN x 3 → J G X 26 [vr 0 0 0, vi w, vi x] [] m := fun q => by
      refine J_aloadN hX rfl rfl dX9_does_26 ?_
      refine J_bipush hX (by decide) dX9_does_27 ?_
      refine cV1w hX cb_X9_refuse mL_X9_72 dX9_does_29 (c_xrefuse (by omega) hf) ?_
      exact J_iret hX hR0 dX9_does_32 (anX.no (by unfold rfDoes; rw [if_pos h1, if_neg q]) (by decide))
    refine J_iloadN hX rfl rfl dX9_does_17 ?_
    refine J_if_lt (tgt := 26) hX (by decide) dX9_does_18 (fun h2 => ?_) (fun h2 => ?_)
    · exact K26 (fun q => by have := q.1; omega)
    · refine J_iloadN hX rfl rfl dX9_does_21 ?_
      refine J_iconst hX (by decide) dX9_does_22 ?_
      refine J_icmp_lt (tgt := 33) hX (by decide) dX9_does_23 (fun h3 => ?_) (fun h3 => ?_)
      · refine J_aloadN hX rfl rfl dX9_does_33 ?_
        refine J_iloadN hX rfl rfl dX9_does_34 ?_
        refine cV1u hX cb_X9_gatherParts mL_X9_200 dX9_does_35 (c_gatherParts hR hI h1) (fun m2 hm2 => ?_)
        refine J_aloadN hX rfl rfl dX9_does_38 ?_
        refine G_HalfHere_effort hX dX9_does_39 mF_X9_36 ?_
        refine J_iloadN hX rfl rfl dX9_does_42 ?_
        refine cV1w hX cb_X1_sum mL_X9_204 dX9_does_43 (c_sum hm2.2 (okNSg hI h1) ⟨h2, h3⟩ (gaH_b hI (by omega))) ?_
        exact J_iret hX hR0 dX9_does_46 (anX.yes (by unfold rfDoes; rw [if_pos h1, if_pos ⟨h2, h3⟩]) rfl hm2.1.toX)
      · exact K26 (fun q => by have := q.2; omega)
  · refine J_aloadN hX rfl rfl dX9_does_11 ?_
    refine J_iconst hX (by decide) dX9_does_12 ?_
    refine cV1w hX cb_X9_refuse mL_X9_72 dX9_does_13 (c_xrefuse (by omega) hf) ?_
    exact J_iret hX hR0 dX9_does_16 (anX.no (by unfold rfDoes; rw [if_neg h1]) (by decide))
theorem c_xwell (hR : RelV m 0 A) (hI : InvA A C D) (hf : few33 m) : K_X9_well G [vr 0 0 0, vi w, vi x] m (pi (anX m (rfDoes A w x 2) (weB A w x) (FrX m))) := by
  refine E_X9_well (fun X hX hR0 _ _ => ?_)
  refine J_aloadN hX rfl rfl dX9_well_0 ?_
  refine G_HalfHere_now hX dX9_well_1 mF_X9_19 ?_
  refine J_iloadN hX rfl rfl dX9_well_4 ?_
  refine cV1w hX cb_X7_hasWork mL_X9_119 dX9_well_5 (c_hasWork hR) ?_
  refine J_ifb_ne (tgt := 17) hX (by decide) dX9_well_8 (fun h1 => ?_) (fun h1 => ?_)
  · have K26 : ¬ inN x 2 → J G X 26 [vr 0 0 0, vi w, vi x] [] m := fun q => by
      refine J_aloadN hX rfl rfl dX9_well_26 ?_
      refine J_bipush hX (by decide) dX9_well_27 ?_
      refine cV1w hX cb_X9_refuse mL_X9_72 dX9_well_29 (c_xrefuse (by omega) hf) ?_
      exact J_iret hX hR0 dX9_well_32 (anX.no (by unfold rfDoes; rw [if_pos h1, if_neg q]) (by decide))
    refine J_iloadN hX rfl rfl dX9_well_17 ?_
    refine J_if_lt (tgt := 26) hX (by decide) dX9_well_18 (fun h2 => ?_) (fun h2 => ?_)
    · exact K26 (fun q => by have := q.1; omega)
    · refine J_iloadN hX rfl rfl dX9_well_21 ?_
      refine J_iconst hX (by decide) dX9_well_22 ?_
      refine J_icmp_le (tgt := 33) hX (by decide) dX9_well_23 (fun h3 => ?_) (fun h3 => ?_)
      · have rf : rfDoes A w x 2 = 0 := by unfold rfDoes; rw [if_pos h1, if_pos ⟨h2, by omega⟩]
        refine J_aloadN hX rfl rfl dX9_well_33 ?_
        refine J_iloadN hX rfl rfl dX9_well_34 ?_
        refine cV1u hX cb_X9_gatherParts mL_X9_200 dX9_well_35 (c_gatherParts hR hI h1) (fun m2 hm2 => ?_)
        refine J_aloadN hX rfl rfl dX9_well_38 ?_
        refine G_HalfHere_effort hX dX9_well_39 mF_X9_36 ?_
        refine cV0u hX cb_X1_weigh mL_X9_207 dX9_well_42 (c_weigh hm2.2 (okNSg hI h1) (gaH_b hI (by omega))) (fun m3 hm3 => ?_)
        have hx := hm2.1.toX.tr hm3.1.toX
        refine J_iloadN hX rfl rfl dX9_well_45 ?_
        refine J_if_ne (tgt := 59) hX (by decide) dX9_well_46 (fun h4 => ?_) (fun h4 => ?_)
        · refine J_aloadN hX rfl rfl dX9_well_59 ?_
          refine G_HalfHere_effort hX dX9_well_60 mF_X9_36 ?_
          refine G_Effort_below hX dX9_well_63 mF_X9_213 ?_
          exact J_iret hX hR0 dX9_well_66 (anX.yes rf (by unfold weB; rw [if_neg (by omega)]; exact hm3.2.2.2) hx)
        · refine J_aloadN hX rfl rfl dX9_well_49 ?_
          refine G_HalfHere_effort hX dX9_well_50 mF_X9_36 ?_
          refine G_Effort_above hX dX9_well_53 mF_X9_210 ?_
          refine J_goto (tgt := 66) hX (by decide) dX9_well_56 ?_
          exact J_iret hX hR0 dX9_well_66 (anX.yes rf (by unfold weB; rw [if_pos h4]; exact hm3.2.2.1) hx)
      · exact K26 (fun q => by have := q.2; omega)
  · refine J_aloadN hX rfl rfl dX9_well_11 ?_
    refine J_iconst hX (by decide) dX9_well_12 ?_
    refine cV1w hX cb_X9_refuse mL_X9_72 dX9_well_13 (c_xrefuse (by omega) hf) ?_
    exact J_iret hX hR0 dX9_well_16 (anX.no (by unfold rfDoes; rw [if_neg h1]) (by decide))
theorem l_xdone {m0 : HM} (hX : Ok_X9_worksDone G X 5) (hR : RelV m0 0 A) (hI : InvA A C D) (hR0 : JRt G X (pi (fun r m' => r = cntI (wdA A) (A 2) ∧ FrX m0 m')) (some .int)) : ∀ i, 0 ≤ i → i ≤ A 2 → ∀ M, FrE 0 m0 M → J G X 4 [vr 0 0 0, vi (cntI (wdA A) i), vi i] [] M := by
  have h0 := hI.1
  refine up_to (fun i h1 h2 ih M hfr => ?_)
  have hV := hR.frE hfr
  have hb := cntI_b (P := wdA A) h1
  refine J_iloadN hX rfl rfl dX9_worksDone_4 ?_
  refine J_aloadN hX rfl rfl dX9_worksDone_5 ?_
  refine G_HalfHere_now hX dX9_worksDone_6 mF_X9_19 ?_
  refine G_Village_workCount hX dX9_worksDone_9 mF_X9_291 ?_
  rw [hV.1.2.2]
  refine J_icmp_ge (tgt := 39) hX (by decide) dX9_worksDone_12 (fun h3 => ?_) (fun h3 => ?_)
  · have e : i = A 2 := by omega
    subst e
    refine J_iloadN hX rfl rfl dX9_worksDone_39 ?_
    exact J_iret hX hR0 dX9_worksDone_40 (⟨_, rfl, rfl, hfr.toX⟩)
  · have hi : inN i (A 2) := ⟨h1, by omega⟩
    refine J_aloadN hX rfl rfl dX9_worksDone_15 ?_
    refine J_iloadN hX rfl rfl dX9_worksDone_16 ?_
    refine cV1u hX cb_X9_gatherParts mL_X9_200 dX9_worksDone_17 (c_gatherParts hV hI hi) (fun m2 hm2 => ?_)
    have hfr2 := hfr.tr hm2.1
    have nx := ih (by omega) m2 hfr2
    refine J_aloadN hX rfl rfl dX9_worksDone_20 ?_
    refine G_HalfHere_effort hX dX9_worksDone_21 mF_X9_36 ?_
    refine cV0w hX cb_X1_isDone mL_X9_253 dX9_worksDone_24 (c_isDone hm2.2 (okNSg hI hi) (gaH_b hI (by omega))) ?_
    have eD : doneS (aW A i 0) (nW A i) (gaS A i 24) (gaH A i 24) = wdA A i := rfl
    rw [eD]
    refine J_ifb_eq (tgt := 33) hX (by decide) dX9_worksDone_27 (fun h4 => ?_) (fun h4 => ?_)
    · rw [cntI_f h1 h4] at nx
      refine sinc_2 hX (fun _ => by omega) dX9_worksDone_33 ?_
      refine J_goto (tgt := 4) hX (by decide) dX9_worksDone_36 ?_
      exact nx
    · rw [cntI_t h1 h4] at nx
      refine sinc_1 hX (fun _ => by omega) dX9_worksDone_30 ?_
      refine sinc_2 hX (fun _ => by omega) dX9_worksDone_33 ?_
      refine J_goto (tgt := 4) hX (by decide) dX9_worksDone_36 ?_
      exact nx
theorem c_worksDone (hR : RelV m 0 A) (hI : InvA A C D) : K_X9_worksDone G [vr 0 0 0] m (pi (fun r m' => r = cntI (wdA A) (A 2) ∧ FrX m m')) := by
  refine E_X9_worksDone (fun X hX hR0 _ _ => ?_)
  have h0 := hI.1
  refine J_iconst hX (by decide) dX9_worksDone_0 ?_
  refine siN_1 hX dX9_worksDone_1 ?_
  refine J_iconst hX (by decide) dX9_worksDone_2 ?_
  refine siN_2 hX dX9_worksDone_3 ?_
  exact l_xdone hX hR hI hR0 0 (by omega) (by omega) m FrE.rf
theorem c_xplan (hR : RelV m 0 A) (hI : InvA A C D) (hf : few33 m) : K_X9_plan G [vr 0 0 0, vi x] m (pi (anX m (rfPlan x) (planA A x) (FrX m))) := by
  refine E_X9_plan (fun X hX hR0 _ _ => ?_)
  refine J_iloadN hX rfl rfl dX9_plan_0 ?_
  refine cS1w hX cb_X4_isKind mL_X9_216 dX9_plan_1 (c_isKind) ?_
  refine J_ifb_ne (tgt := 14) hX (by decide) dX9_plan_4 (fun h1 => ?_) (fun h1 => ?_)
  · refine J_aloadN hX rfl rfl dX9_plan_14 ?_
    refine G_HalfHere_planner hX dX9_plan_15 mF_X9_43 ?_
    refine J_iloadN hX rfl rfl dX9_plan_18 ?_
    refine J_aloadN hX rfl rfl dX9_plan_19 ?_
    refine G_HalfHere_now hX dX9_plan_20 mF_X9_19 ?_
    refine cV2u hX cb_X4_make mL_X9_219 dX9_plan_23 (c_make hR hI h1) (fun m2 hm2 => ?_)
    refine J_aloadN hX rfl rfl dX9_plan_26 ?_
    refine G_HalfHere_planner hX dX9_plan_27 mF_X9_43 ?_
    refine J_aloadN hX rfl rfl dX9_plan_30 ?_
    refine G_HalfHere_now hX dX9_plan_31 mF_X9_19 ?_
    refine cV1i hX cb_X4_worth mL_X9_223 dX9_plan_34 (c_pworth (hR.frP hm2.1) hI (okSh_pl hI) hm2.2) (fun r m3 hm3 => ?_)
    exact J_iret hX hR0 dX9_plan_37 (anX.yes (by unfold rfPlan; rw [if_pos h1]) hm3.1 (hm2.1.toX.tr hm3.2.toX))
  · refine J_aloadN hX rfl rfl dX9_plan_7 ?_
    refine J_bipush hX (by decide) dX9_plan_8 ?_
    refine cV1w hX cb_X9_refuse mL_X9_72 dX9_plan_10 (c_xrefuse (by omega) hf) ?_
    exact J_iret hX hR0 dX9_plan_13 (anX.no (by unfold rfPlan; rw [if_neg h1]) (by decide))
theorem c_xplanned (hR : RelV m 0 A) (hI : InvA A C D) (hf : few33 m) : K_X9_planned G [vr 0 0 0, vi x, vi p, vi w] m (pi (anX m (rfPlanned A x p w) (plannedA A x p w) (FrX m))) := by
  refine E_X9_planned (fun X hX hR0 _ _ => ?_)
  have h0 := hI.1
  refine J_iloadN hX rfl rfl dX9_planned_0 ?_
  refine cS1w hX cb_X4_isKind mL_X9_216 dX9_planned_1 (c_isKind) ?_
  refine J_ifb_ne (tgt := 14) hX (by decide) dX9_planned_4 (fun h1 => ?_) (fun h1 => ?_)
  · have K36 : ¬ (inN p (A 1) ∧ inN w (A 2)) → J G X 36 [vr 0 0 0, vi x, vi p, vi w] [] m := fun q => by
      refine J_aloadN hX rfl rfl dX9_planned_36 ?_
      refine J_iconst hX (by decide) dX9_planned_37 ?_
      refine cV1w hX cb_X9_refuse mL_X9_72 dX9_planned_38 (c_xrefuse (by omega) hf) ?_
      exact J_iret hX hR0 dX9_planned_41 (anX.no (by unfold rfPlanned; rw [if_pos h1, if_neg q]) (by decide))
    refine J_aloadN hX rfl rfl dX9_planned_14 ?_
    refine G_HalfHere_now hX dX9_planned_15 mF_X9_19 ?_
    refine J_iloadN hX rfl rfl dX9_planned_18 ?_
    refine cV1w hX cb_X7_hasPerson mL_X9_97 dX9_planned_19 (c_hasPerson hR) ?_
    refine J_ifb_eq (tgt := 36) hX (by decide) dX9_planned_22 (fun h2 => ?_) (fun h2 => ?_)
    · exact K36 (fun q => h2 q.1)
    · refine J_aloadN hX rfl rfl dX9_planned_25 ?_
      refine G_HalfHere_now hX dX9_planned_26 mF_X9_19 ?_
      refine J_iloadN hX rfl rfl dX9_planned_29 ?_
      refine cV1w hX cb_X7_hasWork mL_X9_119 dX9_planned_30 (c_hasWork hR) ?_
      refine J_ifb_ne (tgt := 42) hX (by decide) dX9_planned_33 (fun h3 => ?_) (fun h3 => ?_)
      · refine J_aloadN hX rfl rfl dX9_planned_42 ?_
        refine G_HalfHere_planner hX dX9_planned_43 mF_X9_43 ?_
        refine J_iloadN hX rfl rfl dX9_planned_46 ?_
        refine J_aloadN hX rfl rfl dX9_planned_47 ?_
        refine G_HalfHere_now hX dX9_planned_48 mF_X9_19 ?_
        refine cV2u hX cb_X4_make mL_X9_219 dX9_planned_51 (c_make hR hI h1) (fun m2 hm2 => ?_)
        refine J_aloadN hX rfl rfl dX9_planned_54 ?_
        refine G_HalfHere_planner hX dX9_planned_55 mF_X9_43 ?_
        refine G_Planner_twelfths hX dX9_planned_58 mF_X9_225 ?_
        refine J_iloadN hX rfl rfl dX9_planned_61 ?_
        refine A_21 hX (by omega) dX9_planned_62 ?_
        refine J_iloadN hX rfl rfl dX9_planned_63 ?_
        refine L_22 hX (by omega) dX9_planned_64 ?_
        rw [hm2.2 p w (by omega) (by omega)]
        exact J_iret hX hR0 dX9_planned_65 (anX.yes (by unfold rfPlanned; rw [if_pos h1, if_pos ⟨h2, h3⟩]) rfl hm2.1.toX)
      · exact K36 (fun q => h3 q.2)
  · refine J_aloadN hX rfl rfl dX9_planned_7 ?_
    refine J_bipush hX (by decide) dX9_planned_8 ?_
    refine cV1w hX cb_X9_refuse mL_X9_72 dX9_planned_10 (c_xrefuse (by omega) hf) ?_
    exact J_iret hX hR0 dX9_planned_13 (anX.no (by unfold rfPlanned; rw [if_neg h1]) (by decide))
/-- an answer that the quartering finds -/
def anXB (m : HM) (A : Int → Int) (ref : Int) (f : Int × (Int → Int) → Int) : Int → HM → Prop := fun r m' => (ref ≠ 0 ∧ r = ref ∧ FrX (refM m 33 ref) m') ∨ (ref = 0 ∧ r = f (bestF A zF) ∧ FrQu m m' ∧ QV m' A)
theorem anXB.no {ref x : Int} {f : Int × (Int → Int) → Int} (h : ref = x) (hx : x ≠ 0) : pi (anXB m A ref f) (some (vi x)) (refM m 33 x) := ⟨x, rfl, Or.inl ⟨by rw [h]; exact hx, h.symm, by rw [h]; exact FrX.rf⟩⟩
theorem c_xbest (hR : RelV m 0 A) (hI : InvA A C D) (hf : few33 m) (hq : m 23 0 0 6 = 0 ∨ QV m A) : K_X9_best G [vr 0 0 0] m (pi (anXB m A (rfBest A) (fun s => s.1))) := by
  refine E_X9_best (fun X hX hR0 _ _ => ?_)
  refine J_aloadN hX rfl rfl dX9_best_0 ?_
  refine G_HalfHere_now hX dX9_best_1 mF_X9_19 ?_
  refine cS1w hX cb_X5_fits mL_X9_227 dX9_best_4 (c_fits hR) ?_
  refine J_ifb_ne (tgt := 17) hX (by decide) dX9_best_7 (fun h1 => ?_) (fun h1 => ?_)
  · refine J_aloadN hX rfl rfl dX9_best_17 ?_
    refine G_HalfHere_quartering hX dX9_best_18 mF_X9_50 ?_
    refine J_aloadN hX rfl rfl dX9_best_21 ?_
    refine G_HalfHere_now hX dX9_best_22 mF_X9_19 ?_
    refine cV1u hX cb_X5_find mL_X9_231 dX9_best_25 (c_find hR hI h1 hq) (fun m2 hm2 => ?_)
    refine J_aloadN hX rfl rfl dX9_best_28 ?_
    refine G_HalfHere_quartering hX dX9_best_29 mF_X9_50 ?_
    refine G_Quartering_worth hX dX9_best_32 mF_X9_234 ?_
    exact J_iret hX hR0 dX9_best_35 (⟨_, rfl, Or.inr ⟨by unfold rfBest; rw [ifP_pos h1], hm2.2.2.1, hm2.1, hm2.2⟩⟩)
  · refine J_aloadN hX rfl rfl dX9_best_10 ?_
    refine J_bipush hX (by decide) dX9_best_11 ?_
    refine cV1w hX cb_X9_refuse mL_X9_72 dX9_best_13 (c_xrefuse (by omega) hf) ?_
    exact J_iret hX hR0 dX9_best_16 (anXB.no (by unfold rfBest; rw [ifP_neg h1]) (by decide))
theorem c_xquarters (hR : RelV m 0 A) (hI : InvA A C D) (hf : few33 m) (hq : m 23 0 0 6 = 0 ∨ QV m A) : K_X9_quarters G [vr 0 0 0, vi p, vi w] m (pi (anXB m A (rfQuarters A p w) (fun s => s.2 (6 * p + w)))) := by
  refine E_X9_quarters (fun X hX hR0 _ _ => ?_)
  have h0 := hI.1
  have K22 : ¬ (inN p (A 1) ∧ inN w (A 2)) → J G X 22 [vr 0 0 0, vi p, vi w] [] m := fun q => by
    refine J_aloadN hX rfl rfl dX9_quarters_22 ?_
    refine J_iconst hX (by decide) dX9_quarters_23 ?_
    refine cV1w hX cb_X9_refuse mL_X9_72 dX9_quarters_24 (c_xrefuse (by omega) hf) ?_
    exact J_iret hX hR0 dX9_quarters_27 (anXB.no (by unfold rfQuarters; rw [if_neg q]) (by decide))
  refine J_aloadN hX rfl rfl dX9_quarters_0 ?_
  refine G_HalfHere_now hX dX9_quarters_1 mF_X9_19 ?_
  refine J_iloadN hX rfl rfl dX9_quarters_4 ?_
  refine cV1w hX cb_X7_hasPerson mL_X9_97 dX9_quarters_5 (c_hasPerson hR) ?_
  refine J_ifb_eq (tgt := 22) hX (by decide) dX9_quarters_8 (fun h1 => ?_) (fun h1 => ?_)
  · exact K22 (fun q => h1 q.1)
  · refine J_aloadN hX rfl rfl dX9_quarters_11 ?_
    refine G_HalfHere_now hX dX9_quarters_12 mF_X9_19 ?_
    refine J_iloadN hX rfl rfl dX9_quarters_15 ?_
    refine cV1w hX cb_X7_hasWork mL_X9_119 dX9_quarters_16 (c_hasWork hR) ?_
    refine J_ifb_ne (tgt := 28) hX (by decide) dX9_quarters_19 (fun h2 => ?_) (fun h2 => ?_)
    · refine J_aloadN hX rfl rfl dX9_quarters_28 ?_
      refine G_HalfHere_now hX dX9_quarters_29 mF_X9_19 ?_
      refine cS1w hX cb_X5_fits mL_X9_227 dX9_quarters_32 (c_fits hR) ?_
      refine J_ifb_ne (tgt := 45) hX (by decide) dX9_quarters_35 (fun h3 => ?_) (fun h3 => ?_)
      · have h31 := h3.1
        have h32 := h3.2
        refine J_aloadN hX rfl rfl dX9_quarters_45 ?_
        refine G_HalfHere_quartering hX dX9_quarters_46 mF_X9_50 ?_
        refine J_aloadN hX rfl rfl dX9_quarters_49 ?_
        refine G_HalfHere_now hX dX9_quarters_50 mF_X9_19 ?_
        refine cV1u hX cb_X5_find mL_X9_231 dX9_quarters_53 (c_find hR hI h3 hq) (fun m2 hm2 => ?_)
        have hc := hm2.2.2.2 p w h1 h2
        refine J_aloadN hX rfl rfl dX9_quarters_56 ?_
        refine G_HalfHere_quartering hX dX9_quarters_57 mF_X9_50 ?_
        refine J_iloadN hX rfl rfl dX9_quarters_60 ?_
        refine J_iloadN hX rfl rfl dX9_quarters_61 ?_
        refine cV2w hX cb_X5_quartersAt mL_X9_235 dX9_quarters_62 (c_quartersAt (by omega) (by omega) hc.1) ?_
        exact J_iret hX hR0 dX9_quarters_65 (⟨_, rfl, Or.inr ⟨by unfold rfQuarters; rw [if_pos ⟨h1, h2⟩, ifP_pos h3], hc.2, hm2.1, hm2.2⟩⟩)
      · refine J_aloadN hX rfl rfl dX9_quarters_38 ?_
        refine J_bipush hX (by decide) dX9_quarters_39 ?_
        refine cV1w hX cb_X9_refuse mL_X9_72 dX9_quarters_41 (c_xrefuse (by omega) hf) ?_
        exact J_iret hX hR0 dX9_quarters_44 (anXB.no (by unfold rfQuarters; rw [if_pos ⟨h1, h2⟩, ifP_neg h3]) (by decide))
    · exact K22 (fun q => h2 q.2)
theorem c_xmust (hR : RelV m 0 A) (hI : InvA A C D) : K_X9_must G [vr 0 0 0] m (pi (fun r m' => r = mustA A ∧ FrX m m')) := by
  refine E_X9_must (fun X hX hR0 _ _ => ?_)
  refine J_aloadN hX rfl rfl dX9_must_0 ?_
  refine G_HalfHere_company hX dX9_must_1 mF_X9_57 ?_
  refine J_aloadN hX rfl rfl dX9_must_4 ?_
  refine G_HalfHere_now hX dX9_must_5 mF_X9_19 ?_
  refine cV1i hX cb_X0_fewestForWholes mL_X9_238 dX9_must_8 (c_fewest hR hI) (fun r m2 hm2 => ?_)
  exact J_iret hX hR0 dX9_must_11 (⟨_, rfl, hm2.1, hm2.2.toX⟩)
theorem c_xwith (hR : RelV m 0 A) (hI : InvA A C D) (hf : few33 m) : K_X9_with G [vr 0 0 0, vi w] m (pi (anX m (rfWith A w) (withA A w) (FrX m))) := by
  refine E_X9_with (fun X hX hR0 _ _ => ?_)
  have h0 := hI.1
  refine J_aloadN hX rfl rfl dX9_with_0 ?_
  refine G_HalfHere_now hX dX9_with_1 mF_X9_19 ?_
  refine J_iloadN hX rfl rfl dX9_with_4 ?_
  refine cV1w hX cb_X7_hasWork mL_X9_119 dX9_with_5 (c_hasWork hR) ?_
  refine J_ifb_ne (tgt := 17) hX (by decide) dX9_with_8 (fun h1 => ?_) (fun h1 => ?_)
  · have hv := hR.2.2.2.1 w h1
    refine J_aloadN hX rfl rfl dX9_with_17 ?_
    refine G_HalfHere_now hX dX9_with_18 mF_X9_19 ?_
    refine G_Village_works hX dX9_with_21 mF_X9_122 ?_
    refine J_iloadN hX rfl rfl dX9_with_24 ?_
    refine A_7 hX (by omega) dX9_with_25 ?_
    refine G_Work_kind hX dX9_with_26 mF_X9_126 ?_
    refine J_iconst hX (by decide) dX9_with_29 ?_
    rw [hv.1]
    refine J_icmp_eq (tgt := 40) hX (by decide) dX9_with_30 (fun h2 => ?_) (fun h2 => ?_)
    · refine J_aloadN hX rfl rfl dX9_with_40 ?_
      refine G_HalfHere_company hX dX9_with_41 mF_X9_57 ?_
      refine J_aloadN hX rfl rfl dX9_with_44 ?_
      refine G_HalfHere_now hX dX9_with_45 mF_X9_19 ?_
      refine J_aloadN hX rfl rfl dX9_with_48 ?_
      refine G_HalfHere_now hX dX9_with_49 mF_X9_19 ?_
      refine G_Village_works hX dX9_with_52 mF_X9_122 ?_
      refine J_iloadN hX rfl rfl dX9_with_55 ?_
      refine A_7 hX (by omega) dX9_with_56 ?_
      refine cV2i hX cb_X0_bestTwo mL_X9_241 dX9_with_57 (c_bestTwo hR hI h1) (fun r m2 hm2 => ?_)
      exact J_iret hX hR0 dX9_with_60 (anX.yes (by unfold rfWith; rw [if_pos h1, if_pos h2]) hm2.1 hm2.2.toX)
    · refine J_aloadN hX rfl rfl dX9_with_33 ?_
      refine J_bipush hX (by decide) dX9_with_34 ?_
      refine cV1w hX cb_X9_refuse mL_X9_72 dX9_with_36 (c_xrefuse (by omega) hf) ?_
      exact J_iret hX hR0 dX9_with_39 (anX.no (by unfold rfWith; rw [if_pos h1, if_neg h2]) (by decide))
  · skip
    refine J_aloadN hX rfl rfl dX9_with_11 ?_
    refine J_iconst hX (by decide) dX9_with_12 ?_
    refine cV1w hX cb_X9_refuse mL_X9_72 dX9_with_13 (c_xrefuse (by omega) hf) ?_
    exact J_iret hX hR0 dX9_with_16 (anX.no (by unfold rfWith; rw [if_neg h1]) (by decide))
theorem l_xfew {m0 : HM} (hX : Ok_X9_few G X 5) (hR : RelV m0 0 A) (hI : InvA A C D) (hp : inN p (A 1)) (hw : inN w (A 2)) (hrf : rfFew A p w = 0) (hκ : aW A w 0 = 0) (hR0 : JRt G X (pi (anX m0 (rfFew A p w) (fewA A p w) (FrX m0))) (some .int)) : ∀ i, aG A p 3 ≤ i → i ≤ 13 → ∀ M, FrE 0 m0 M → fewA A p w = fstI (fewP A p w) (-9) i 13 → J G X 70 [vr 0 0 0, vi p, vi w, vr 11 0 w, vr 9 0 p, vi i] [] M := by
  have h0 := hI.1
  have hl := hI.2.2.1 p hp
  refine up_to (fun i h1 h2 ih M hfr he => ?_)
  have hV := hR.frE hfr
  have hWo := hV.2.2.2.1 w hw
  refine J_iload hX rfl dX9_few_70 ?_
  refine J_bipush hX (by decide) dX9_few_72 ?_
  refine J_icmp_gt (tgt := 117) hX (by decide) dX9_few_74 (fun h3 => ?_) (fun h3 => ?_)
  · rw [fstI_0 (by omega)] at he
    refine J_bipush hX (by decide) dX9_few_117 ?_
    exact J_iret hX hR0 dX9_few_119 (anX.yes hrf he.symm hfr.toX)
  · refine J_aloadN hX rfl rfl dX9_few_77 ?_
    refine G_HalfHere_effort hX dX9_few_78 mF_X9_36 ?_
    refine J_aloadN hX rfl rfl dX9_few_81 ?_
    refine cV1u hX cb_X1_begin mL_X9_245 dX9_few_82 (c_begin hWo.1 hWo.2.2.2) (fun m2 hm2 => ?_)
    have hv2 := ((hR.frE (hfr.tr hm2.1)).2.2.1 p hp).2
    have hκ5 : 0 ≤ aW A w 0 ∧ aW A w 0 ≤ 5 := (hI.2.2.2.1 w hw).1
    refine J_aloadN hX rfl rfl dX9_few_85 ?_
    refine G_HalfHere_effort hX dX9_few_86 mF_X9_36 ?_
    refine J_iloadN hX rfl rfl dX9_few_89 ?_
    refine J_aload hX rfl dX9_few_90 ?_
    refine J_iload hX rfl dX9_few_92 ?_
    refine J_iconst hX (by decide) dX9_few_94 ?_
    refine cV4u hX cb_X1_add mL_X9_249 dX9_few_95 (c_add (g := aG A p) hm2.2 (fun k hk => by omega) (by omega) hκ5 (by omega) (fun k hk => ⟨hv2 k hk, hl.2.2 k hk⟩) (by omega) (by omega)) (fun m3 hm3 => ?_)
    have hfr3 := (hfr.tr hm2.1).tr hm3.1
    have hr3 : RelE m3 0 (aW A w 0) (nW A w) (fun k => gv 0 k (aG A p k) i 0) (orI 0 (p2 p)) := ⟨hm3.2.1, hm3.2.2.1, hm3.2.2.2.1, fun k hk => by rw [hm3.2.2.2.2 k hk, hκ]; show 0 + gv 0 k (aG A p k) i 0 = _; rw [Int.zero_add]⟩
    have okn : okNS (nW A w) (fun k => gv 0 k (aG A p k) i 0) := fun k hk => by
      have q1 := (hI.2.2.2.1 w hw).2.2.2 k hk
      have q2 := gv_b (κ := 0) (w := k) (hl.2.2 k hk) (t := i) (by omega) (τ := 0) (by omega)
      unfold nW
      exact ⟨q1, by show 0 ≤ gv 0 k (aG A p k) i 0 ∧ gv 0 k (aG A p k) i 0 ≤ 40000; omega⟩
    refine J_aloadN hX rfl rfl dX9_few_98 ?_
    refine G_HalfHere_effort hX dX9_few_99 mF_X9_36 ?_
    refine cV0w hX cb_X1_isDone mL_X9_253 dX9_few_102 (c_isDone hr3 okn (orI_b (by omega) (p2_b (by omega)).1)) ?_
    have eD : doneS (aW A w 0) (nW A w) (fun k => gv 0 k (aG A p k) i 0) (orI 0 (p2 p)) = fewP A p w i := rfl
    rw [eD]
    refine J_ifb_eq (tgt := 111) hX (by decide) dX9_few_105 (fun h4 => ?_) (fun h4 => ?_)
    · rw [fstI_f (by omega) h4] at he
      refine sinc_5 hX (fun _ => by omega) dX9_few_111 ?_
      refine J_goto (tgt := 70) hX (by decide) dX9_few_114 ?_
      exact ih (by omega) m3 hfr3 he
    · rw [fstI_t (by omega) h4] at he
      refine J_iload hX rfl dX9_few_108 ?_
      exact J_iret hX hR0 dX9_few_110 (anX.yes hrf he.symm hfr3.toX)
theorem c_xfew (hR : RelV m 0 A) (hI : InvA A C D) (hf : few33 m) : K_X9_few G [vr 0 0 0, vi p, vi w] m (pi (anX m (rfFew A p w) (fewA A p w) (FrX m))) := by
  refine E_X9_few (fun X hX hR0 _ _ => ?_)
  have h0 := hI.1
  have K22 : ¬ (inN p (A 1) ∧ inN w (A 2)) → J G X 22 [vr 0 0 0, vi p, vi w, vx, vx, vx] [] m := fun q => by
    refine J_aloadN hX rfl rfl dX9_few_22 ?_
    refine J_iconst hX (by decide) dX9_few_23 ?_
    refine cV1w hX cb_X9_refuse mL_X9_72 dX9_few_24 (c_xrefuse (by omega) hf) ?_
    exact J_iret hX hR0 dX9_few_27 (anX.no (by unfold rfFew; rw [if_neg q]) (by decide))
  refine J_aloadN hX rfl rfl dX9_few_0 ?_
  refine G_HalfHere_now hX dX9_few_1 mF_X9_19 ?_
  refine J_iloadN hX rfl rfl dX9_few_4 ?_
  refine cV1w hX cb_X7_hasPerson mL_X9_97 dX9_few_5 (c_hasPerson hR) ?_
  refine J_ifb_eq (tgt := 22) hX (by decide) dX9_few_8 (fun h1 => ?_) (fun h1 => ?_)
  · exact K22 (fun q => h1 q.1)
  · refine J_aloadN hX rfl rfl dX9_few_11 ?_
    refine G_HalfHere_now hX dX9_few_12 mF_X9_19 ?_
    refine J_iloadN hX rfl rfl dX9_few_15 ?_
    refine cV1w hX cb_X7_hasWork mL_X9_119 dX9_few_16 (c_hasWork hR) ?_
    refine J_ifb_ne (tgt := 28) hX (by decide) dX9_few_19 (fun h2 => ?_) (fun h2 => ?_)
    · have hv := hR.2.2.1 p h1
      have hWo := hR.2.2.2.1 w h2
      refine J_aloadN hX rfl rfl dX9_few_28 ?_
      refine G_HalfHere_now hX dX9_few_29 mF_X9_19 ?_
      refine G_Village_works hX dX9_few_32 mF_X9_122 ?_
      refine J_iloadN hX rfl rfl dX9_few_35 ?_
      refine A_7 hX (by omega) dX9_few_36 ?_
      refine saN_3 hX dX9_few_37 ?_
      refine J_aloadN hX rfl rfl dX9_few_38 ?_
      refine G_Work_kind hX dX9_few_39 mF_X9_126 ?_
      rw [hWo.1]
      refine J_if_eq (tgt := 52) hX (by decide) dX9_few_42 (fun h3 => ?_) (fun h3 => ?_)
      · refine J_aloadN hX rfl rfl dX9_few_52 ?_
        refine G_HalfHere_now hX dX9_few_53 mF_X9_19 ?_
        refine G_Village_persons hX dX9_few_56 mF_X9_101 ?_
        refine J_iloadN hX rfl rfl dX9_few_59 ?_
        refine A_6 hX (by omega) dX9_few_60 ?_
        refine sa_4 hX dX9_few_61 ?_
        refine J_aload hX rfl dX9_few_63 ?_
        refine G_Person_least hX dX9_few_65 mF_X9_110 ?_
        rw [hv.1]
        refine si_5 hX dX9_few_68 ?_
        exact l_xfew hX hR hI h1 h2 (by unfold rfFew; rw [if_pos ⟨h1, h2⟩, if_pos h3]) h3 hR0 (aG A p 3) (Int.le_refl _) (by have := hI.2.2.1 p h1; omega) m FrE.rf rfl
      · refine J_aloadN hX rfl rfl dX9_few_45 ?_
        refine J_bipush hX (by decide) dX9_few_46 ?_
        refine cV1w hX cb_X9_refuse mL_X9_72 dX9_few_48 (c_xrefuse (by omega) hf) ?_
        exact J_iret hX hR0 dX9_few_51 (anX.no (by unfold rfFew; rw [if_pos ⟨h1, h2⟩, if_neg h3]) (by decide))
    · exact K22 (fun q => h2 q.2)
theorem c_xcount {rl tl : Int} (hR : RelV m 0 A) (hI : InvA A C D) (hr : m 0 0 0 10 = rl) (ht : m 14 0 0 1 = tl) : K_X9_count G [vr 0 0 0, vi x] m (pi (fun r m' => r = countA A (m 33 0 0) rl tl x ∧ FrX m m')) := by
  refine E_X9_count (fun X hX hR0 _ _ => ?_)
  have h0 := hI.1
  by_cases hx : inN x 7
  · have ev : countA A (m 33 0 0) rl tl x = if x = 0 ∨ x = 1 ∨ x = 2 then A x else if x = 3 then cntI (aIs A) 24 else if x = 4 then cntI (wdA A) (A 2) else if x = 5 then rl else if x = 6 then tl else -9 := if_neg (by omega)
    rw [ev] at hR0
    rcases (show x = 0 ∨ x = 1 ∨ x = 2 ∨ x = 3 ∨ x = 4 ∨ x = 5 ∨ x = 6 by omega) with rfl | rfl | rfl | rfl | rfl | rfl | rfl
    · refine J_iloadN hX rfl rfl dX9_count_0 ?_
      refine J_tableIn (off := 43) (tgt := 44) hX (by omega) (by omega) rfl (by decide) dX9_count_1 ?_
      refine J_aloadN hX rfl rfl dX9_count_44 ?_
      refine G_HalfHere_now hX dX9_count_45 mF_X9_19 ?_
      refine G_Village_places hX dX9_count_48 mF_X9_272 ?_
      exact J_iret hX hR0 dX9_count_51 (⟨_, rfl, hR.1.1, FrX.rf⟩)
    · refine J_iloadN hX rfl rfl dX9_count_0 ?_
      refine J_tableIn (off := 51) (tgt := 52) hX (by omega) (by omega) rfl (by decide) dX9_count_1 ?_
      refine J_aloadN hX rfl rfl dX9_count_52 ?_
      refine G_HalfHere_now hX dX9_count_53 mF_X9_19 ?_
      refine G_Village_personCount hX dX9_count_56 mF_X9_288 ?_
      exact J_iret hX hR0 dX9_count_59 (⟨_, rfl, hR.1.2.1, FrX.rf⟩)
    · refine J_iloadN hX rfl rfl dX9_count_0 ?_
      refine J_tableIn (off := 59) (tgt := 60) hX (by omega) (by omega) rfl (by decide) dX9_count_1 ?_
      refine J_aloadN hX rfl rfl dX9_count_60 ?_
      refine G_HalfHere_now hX dX9_count_61 mF_X9_19 ?_
      refine G_Village_workCount hX dX9_count_64 mF_X9_291 ?_
      exact J_iret hX hR0 dX9_count_67 (⟨_, rfl, hR.1.2.2, FrX.rf⟩)
    · refine J_iloadN hX rfl rfl dX9_count_0 ?_
      refine J_tableIn (off := 67) (tgt := 68) hX (by omega) (by omega) rfl (by decide) dX9_count_1 ?_
      refine J_aloadN hX rfl rfl dX9_count_68 ?_
      refine G_HalfHere_now hX dX9_count_69 mF_X9_19 ?_
      refine cV0w hX cb_X7_partCount mL_X9_285 dX9_count_72 (c_partCount hR) ?_
      exact J_iret hX hR0 dX9_count_75 (⟨_, rfl, rfl, FrX.rf⟩)
    · refine J_iloadN hX rfl rfl dX9_count_0 ?_
      refine J_tableIn (off := 75) (tgt := 76) hX (by omega) (by omega) rfl (by decide) dX9_count_1 ?_
      refine J_aloadN hX rfl rfl dX9_count_76 ?_
      refine cV0i hX cb_X9_worksDone mL_X9_294 dX9_count_77 (c_worksDone hR hI) (fun r m2 hm2 => ?_)
      exact J_iret hX hR0 dX9_count_80 (⟨_, rfl, hm2.1, hm2.2⟩)
    · refine J_iloadN hX rfl rfl dX9_count_0 ?_
      refine J_tableIn (off := 80) (tgt := 81) hX (by omega) (by omega) rfl (by decide) dX9_count_1 ?_
      refine J_aloadN hX rfl rfl dX9_count_81 ?_
      refine G_HalfHere_rowLength hX dX9_count_82 mF_X9_65 ?_
      exact J_iret hX hR0 dX9_count_85 (⟨_, rfl, hr, FrX.rf⟩)
    · refine J_iloadN hX rfl rfl dX9_count_0 ?_
      refine J_tableIn (off := 85) (tgt := 86) hX (by omega) (by omega) rfl (by decide) dX9_count_1 ?_
      refine J_aloadN hX rfl rfl dX9_count_86 ?_
      refine G_HalfHere_tape hX dX9_count_87 mF_X9_10 ?_
      refine G_Tape_length hX dX9_count_90 mF_X9_297 ?_
      exact J_iret hX hR0 dX9_count_93 (⟨_, rfl, ht, FrX.rf⟩)
  · have K118 : ¬ (10 < x ∧ x < 17) → J G X 118 [vr 0 0 0, vi x] [] m := fun q => by
      refine J_bipush hX (by decide) dX9_count_118 ?_
      exact J_iret hX hR0 dX9_count_120 (⟨-9, rfl, by unfold countA; rw [if_neg q, if_neg (by omega), if_neg (by omega), if_neg (by omega), if_neg (by omega), if_neg (by omega)], FrX.rf⟩)
    refine J_iloadN hX rfl rfl dX9_count_0 ?_
    refine J_tableOut (tgt := 94) hX (by omega) (by decide) dX9_count_1 ?_
    refine J_iloadN hX rfl rfl dX9_count_94 ?_
    refine J_bipush hX (by decide) dX9_count_95 ?_
    refine J_icmp_lt (tgt := 118) hX (by decide) dX9_count_97 (fun h1 => ?_) (fun h1 => ?_)
    · exact K118 (by omega)
    · refine J_iloadN hX rfl rfl dX9_count_100 ?_
      refine J_bipush hX (by decide) dX9_count_101 ?_
      refine J_icmp_gt (tgt := 118) hX (by decide) dX9_count_103 (fun h2 => ?_) (fun h2 => ?_)
      · exact K118 (by omega)
      · refine J_aloadN hX rfl rfl dX9_count_106 ?_
        refine G_HalfHere_refusals hX dX9_count_107 mF_X9_69 ?_
        refine J_iloadN hX rfl rfl dX9_count_110 ?_
        refine J_bipush hX (by decide) dX9_count_111 ?_
        refine J_isub hX (fun _ _ => by omega) dX9_count_113 ?_
        refine L_33 hX (by omega) dX9_count_114 ?_
        refine J_goto (tgt := 120) hX (by decide) dX9_count_115 ?_
        exact J_iret hX hR0 dX9_count_120 (⟨_, rfl, by unfold countA; rw [if_pos (by omega)], FrX.rf⟩)
end Hf
