/-! ===== 20c: the reference: does, well; what a plan gives ===== -/
theorem RelM.ab {m : HM} {S : Int → Int} {H k x : Int} (h : RelM m S H) (hk : k = 12 ∨ k = 13) : RelM (upr m 40 0 0 (st1 (m 40 0 0) k x)) S H := by
  refine ⟨?_, fun j hj => ?_⟩
  · rw [upr_eq, st1_ne (by omega)]; exact h.1
  · rw [upr_tag (by decide)]; exact h.2 j hj
/-- the reference's state stays but for its rooms of work -/
def FrQ (m m' : HM) : Prop := (∀ t v i, ¬ (t = 44 ∨ (46 ≤ t ∧ t ≤ 51)) → t ≠ 40 → m' t v i = m t v i) ∧ ∀ k, k = 4 ∨ k = 7 ∨ k = 19 → m' 40 0 0 k = m 40 0 0 k
theorem FrQ.rf {m : HM} : FrQ m m := ⟨fun _ _ _ _ _ => rfl, fun _ _ => rfl⟩
theorem FrQ.tr {m m' m2 : HM} (h : FrQ m m') (h2 : FrQ m' m2) : FrQ m m2 := ⟨fun t v i a b => (h2.1 t v i a b).trans (h.1 t v i a b), fun k a => (h2.2 k a).trans (h.2 k a)⟩
theorem FrM.q {T : Nat → Prop} {m m' : HM} (h : FrM T m m') (hT : ∀ t, T t → (t = 44 ∨ (46 ≤ t ∧ t ≤ 51))) : FrQ m m' := ⟨fun t v i a b => h.1 t v i (fun q => a (hT t q)) b, fun k a => h.2 k (by omega)⟩
theorem T48q : ∀ t, T48 t → (t = 44 ∨ (46 ≤ t ∧ t ≤ 51)) := fun t h => by unfold T48 at h; omega
/-- a call's answer: refused with ref, or ans and P -/
def anQ (m : HM) (ref ans : Int) (P : HM → Prop) : Int → HM → Prop := fun r m' => (ref ≠ 0 ∧ r = ref ∧ FrQ (refM m 41 ref) m') ∨ (ref = 0 ∧ r = ans ∧ P m')
theorem FrQ.ref {m m2 : HM} {x : Int} (h : FrQ m m2) : FrQ (refM m 41 x) (refM m2 41 x) := ⟨fun t v i a b => by
    unfold refM
    rw [h.1 41 0 0 (by decide) (by decide)]
    by_cases q : t = 41 ∧ v = 0 ∧ i = 0
    · obtain ⟨rfl, rfl, rfl⟩ := q
      rw [upr_eq, upr_eq]
    · rw [upr_ne q, upr_ne q]
      exact h.1 t v i a b, fun k a => by
    unfold refM
    rw [upr_tag (by decide), upr_tag (by decide)]
    exact h.2 k a⟩
theorem anQ.no2 {m m2 : HM} {ref ans x : Int} {P : HM → Prop} (hf : FrQ m m2) (h : ref = x) (hx : x ≠ 0) : pi (anQ m ref ans P) (some (vi x)) (refM m2 41 x) := ⟨x, rfl, Or.inl ⟨by rw [h]; exact hx, h.symm, by rw [h]; exact hf.ref⟩⟩
theorem anQ.no {m : HM} {ref ans x : Int} {P : HM → Prop} (h : ref = x) (hx : x ≠ 0) : pi (anQ m ref ans P) (some (vi x)) (refM m 41 x) := anQ.no2 FrQ.rf h hx
theorem anQ.yes {m m' : HM} {ref ans x : Int} {P : HM → Prop} (h : ref = 0) (hx : x = ans) (hP : P m') : pi (anQ m ref ans P) (some (vi x)) m' := ⟨x, rfl, Or.inr ⟨h, hx, hP⟩⟩
def few41 (m : HM) : Prop := ∀ k, inN k 7 → m 41 0 0 k < 2000000000
section Mod
variable {G : GC} {X : JX} {m : HM} {κ p t τ w x y z i k : Int} {A N S g F : Int → Int} {H C D : Int}
def wlP (m : HM) (κ : Int) (N S : Int → Int) (H : Int) (m' : HM) : Prop := FrM T48 m m' ∧ RelM m' S H ∧ m' 40 0 0 12 = (wlI κ N S H 3).1 ∧ m' 40 0 0 13 = (wlI κ N S H 3).2
theorem l_findsWell (hX : Ok_X10_findsWell G X 4) (hA : m 42 0 0 = A) (hw : inN w 6) (hS : okNS (nW A w) S) (hH : inN H 64) (hR0 : JRt G X (pu (wlP m (aW A w 0) (nW A w) S H)) none) : ∀ i, 0 ≤ i → i ≤ 3 → ∀ M a b, FrM T48 m M → RelM M S H → M 40 0 0 12 = (wlI (aW A w 0) (nW A w) S H i).1 → M 40 0 0 13 = (wlI (aW A w 0) (nW A w) S H i).2 → J G X 12 [vr 40 0 0, vi w, vi i, a, b] [] M := by
  refine up_to (fun i h1 h2 ih M a b hfr hr s4 s5 => ?_)
  obtain ⟨w1, w2, w3⟩ := wlI_b (κ := aW A w 0) (H := H) hS i h1 h2
  refine J_iloadN hX rfl rfl dX10_findsWell_12 ?_
  refine J_iconst hX (by decide) dX10_findsWell_13 ?_
  refine J_icmp_ge (tgt := 85) hX (by decide) dX10_findsWell_14 (fun h3 => ?_) (fun h3 => ?_)
  · have e3 : i = 3 := by omega
    subst e3
    exact J_vret hX hR0 dX10_findsWell_85 (puI ⟨hfr, hr, s4, s5⟩)
  · have hN := (hS i ⟨h1, h3⟩).1
    have hdb := dS_b (κ := aW A w 0) (H := H) hS ⟨h1, h3⟩
    have es := wlI_s (κ := aW A w 0) (N := nW A w) (S := S) (H := H) h1
    have eN : aW A w (2 + i) = nW A w i := rfl
    refine J_bipush hX (by decide) dX10_findsWell_17 ?_
    refine J_aloadN hX rfl rfl dX10_findsWell_19 ?_
    refine J_iloadN hX rfl rfl dX10_findsWell_20 ?_
    refine J_iconst hX (by decide) dX10_findsWell_21 ?_
    refine J_iloadN hX rfl rfl dX10_findsWell_22 ?_
    refine J_iadd hX (fun _ _ => by omega) dX10_findsWell_23 ?_
    refine cV2w hX cb_X10_of mL_X10_118 dX10_findsWell_24 (c_of (hfr.a42 hA T48_42) hw (by omega)) ?_
    rw [eN]
    refine J_imul hX (fun _ _ => by omega) dX10_findsWell_27 ?_
    refine siN_3 hX dX10_findsWell_28 ?_
    refine J_iloadN hX rfl rfl dX10_findsWell_29 ?_
    refine J_if_ne (tgt := 36) hX (by decide) dX10_findsWell_30 (fun h4 => ?_) (fun h4 => ?_)
    · refine J_aloadN hX rfl rfl dX10_findsWell_36 ?_
      refine J_aloadN hX rfl rfl dX10_findsWell_37 ?_
      refine J_iloadN hX rfl rfl dX10_findsWell_38 ?_
      refine J_iconst hX (by decide) dX10_findsWell_39 ?_
      refine cV2w hX cb_X10_of mL_X10_118 dX10_findsWell_40 (c_of (hfr.a42 hA T48_42) hw (by omega)) ?_
      refine J_iloadN hX rfl rfl dX10_findsWell_43 ?_
      refine cV2w hX cb_X10_doesOf mL_X10_162 dX10_findsWell_44 (c_doesOf (N := nW A w) hr hS hH ⟨h1, h3⟩) ?_
      have p1 := mul_b (x := dS (aW A w 0) S H i) (y := (wlI (aW A w 0) (nW A w) S H i).2) (a := 60000) (b := 2400) hdb ⟨by omega, w2.2⟩
      have p2 := mul_b (x := (wlI (aW A w 0) (nW A w) S H i).1) (y := 12 * nW A w i) (a := 60000) (b := 2400) w1 ⟨by omega, by omega⟩
      refine si_4 hX dX10_findsWell_47 ?_
      refine J_iload hX rfl dX10_findsWell_49 ?_
      refine J_aloadN hX rfl rfl dX10_findsWell_51 ?_
      refine G_HalfHereModel_below hX dX10_findsWell_52 mF_X10_168 ?_
      rw [s5]
      refine J_imul hX (fun _ _ => by omega) dX10_findsWell_55 ?_
      refine J_aloadN hX rfl rfl dX10_findsWell_56 ?_
      refine G_HalfHereModel_above hX dX10_findsWell_57 mF_X10_165 ?_
      rw [s4]
      refine J_iloadN hX rfl rfl dX10_findsWell_60 ?_
      refine J_imul hX (fun _ _ => by omega) dX10_findsWell_61 ?_
      refine J_icmp_lt (tgt := 68) hX (by decide) dX10_findsWell_62 (fun h5 => ?_) (fun h5 => ?_)
      · have eq1 : wlI (aW A w 0) (nW A w) S H (i + 1) = (dS (aW A w 0) S H i, 12 * nW A w i) := by rw [es]; unfold wst; rw [if_pos ⟨by omega, by omega⟩]
        refine J_aloadN hX rfl rfl dX10_findsWell_68 ?_
        refine J_iload hX rfl dX10_findsWell_69 ?_
        refine P_HalfHereModel_above hX dX10_findsWell_71 mF_X10_165 ?_
        refine J_aloadN hX rfl rfl dX10_findsWell_74 ?_
        refine J_iloadN hX rfl rfl dX10_findsWell_75 ?_
        refine P_HalfHereModel_below hX dX10_findsWell_76 mF_X10_168 ?_
        refine sinc_2 hX (fun _ => by omega) dX10_findsWell_79 ?_
        refine J_goto (tgt := 12) hX (by decide) dX10_findsWell_82 ?_
        refine ih h3 _ _ _ ((hfr.fld (by omega)).fld (by omega)) ((hr.ab (Or.inl rfl)).ab (Or.inr rfl)) ?_ ?_
        · simp only [upr_eq]
          rw [eq1]
          rfl
        · simp only [upr_eq]
          rw [eq1]
          rfl
      · have eq1 : wlI (aW A w 0) (nW A w) S H (i + 1) = wlI (aW A w 0) (nW A w) S H i := by rw [es]; unfold wst; rw [if_neg (by omega)]
        refine J_goto (tgt := 79) hX (by decide) dX10_findsWell_65 ?_
        refine sinc_2 hX (fun _ => by omega) dX10_findsWell_79 ?_
        refine J_goto (tgt := 12) hX (by decide) dX10_findsWell_82 ?_
        exact ih h3 M _ _ hfr hr (by rw [eq1]; exact s4) (by rw [eq1]; exact s5)
    · have eq1 : wlI (aW A w 0) (nW A w) S H (i + 1) = wlI (aW A w 0) (nW A w) S H i := by rw [es]; unfold wst; rw [if_neg (by omega)]
      refine J_goto (tgt := 79) hX (by decide) dX10_findsWell_33 ?_
      refine sinc_2 hX (fun _ => by omega) dX10_findsWell_79 ?_
      refine J_goto (tgt := 12) hX (by decide) dX10_findsWell_82 ?_
      exact ih h3 M _ _ hfr hr (by rw [eq1]; exact s4) (by rw [eq1]; exact s5)
theorem c_findsWell (hA : m 42 0 0 = A) (hr : RelM m S H) (hw : inN w 6) (hS : okNS (nW A w) S) (hH : inN H 64) : K_X10_findsWell G [vr 40 0 0, vi w] m (pu (wlP m (aW A w 0) (nW A w) S H)) := by
  refine E_X10_findsWell (fun X hX hR0 _ _ => ?_)
  refine J_aloadN hX rfl rfl dX10_findsWell_0 ?_
  refine J_iconst hX (by decide) dX10_findsWell_1 ?_
  refine P_HalfHereModel_above hX dX10_findsWell_2 mF_X10_165 ?_
  refine J_aloadN hX rfl rfl dX10_findsWell_5 ?_
  refine J_iconst hX (by decide) dX10_findsWell_6 ?_
  refine P_HalfHereModel_below hX dX10_findsWell_7 mF_X10_168 ?_
  refine J_iconst hX (by decide) dX10_findsWell_10 ?_
  refine siN_2 hX dX10_findsWell_11 ?_
  refine l_findsWell hX hA hw hS hH hR0 0 (by omega) (by omega) _ _ _ ((FrM.rf.fld (by omega)).fld (by omega)) ((hr.ab (Or.inl rfl)).ab (Or.inr rfl)) ?_ ?_
  · simp only [upr_eq]
    rfl
  · simp only [upr_eq]
    rfl
def dnP (m : HM) (P : Prop) (S : Int → Int) (H r : Int) (m' : HM) : Prop := r = bi P ∧ FrM T48 m m' ∧ RelM m' S H
theorem c_isDoneNow (hA : m 42 0 0 = A) (hr : RelM m S H) (hw : inN w 6) (hS : okNS (nW A w) S) (hH : inN H 64) : K_X10_isDoneNow G [vr 40 0 0, vi w] m (pi (dnP m (doneS (aW A w 0) (nW A w) S H) S H)) := by
  refine E_X10_isDoneNow (fun X hX hR0 _ _ => ?_)
  refine J_aloadN hX rfl rfl dX10_isDoneNow_0 ?_
  refine J_iloadN hX rfl rfl dX10_isDoneNow_1 ?_
  refine cV1u hX cb_X10_findsWell mL_X10_171 dX10_isDoneNow_2 (c_findsWell hA hr hw hS hH) (fun m2 hm2 => ?_)
  have dw := done_wl (κ := aW A w 0) (H := H) hS
  refine J_aloadN hX rfl rfl dX10_isDoneNow_5 ?_
  refine G_HalfHereModel_above hX dX10_isDoneNow_6 mF_X10_165 ?_
  rw [hm2.2.2.1]
  refine J_aloadN hX rfl rfl dX10_isDoneNow_9 ?_
  refine G_HalfHereModel_below hX dX10_isDoneNow_10 mF_X10_168 ?_
  rw [hm2.2.2.2]
  refine J_icmp_ne (tgt := 20) hX (by decide) dX10_isDoneNow_13 (fun h1 => ?_) (fun h1 => ?_)
  · refine J_iconst hX (by decide) dX10_isDoneNow_20 ?_
    refine J_zret hX hR0 dX10_isDoneNow_21 (Or.inl rfl) ?_
    exact ⟨0, rfl, (bi_neg (fun q => h1 (dw.mp q))).symm, hm2.1, hm2.2.1⟩
  · refine J_iconst hX (by decide) dX10_isDoneNow_16 ?_
    refine J_goto (tgt := 21) hX (by decide) dX10_isDoneNow_17 ?_
    refine J_zret hX hR0 dX10_isDoneNow_21 (Or.inr rfl) ?_
    exact ⟨1, rfl, (bi_pos (dw.mpr h1)).symm, hm2.1, hm2.2.1⟩
/-! does, well -/
def rfDoes (A : Int → Int) (w x n : Int) : Int := if inN w (A 2) then (if inN x n then 0 else -2) else -1
noncomputable def doA (A : Int → Int) (w x : Int) : Int := dS (aW A w 0) (gaS A w 24) (gaH A w 24) x
noncomputable def weA (A : Int → Int) (w : Int) : Int × Int := wlI (aW A w 0) (nW A w) (gaS A w 24) (gaH A w 24) 3
noncomputable def weB (A : Int → Int) (w x : Int) : Int := if x = 0 then (weA A w).1 / gcI (weA A w).1 (weA A w).2 else (weA A w).2 / gcI (weA A w).1 (weA A w).2
theorem c_mdoes (hA : m 42 0 0 = A) (hI : InvA A C D) (hf : few41 m) : K_X10_does G [vr 40 0 0, vi w, vi x] m (pi (anQ m (rfDoes A w x 3) (doA A w x) (FrQ m))) := by
  refine E_X10_does (fun X hX hR0 _ _ => ?_)
  have h0 := hI.1
  refine J_aloadN hX rfl rfl dX10_does_0 ?_
  refine J_iloadN hX rfl rfl dX10_does_1 ?_
  refine cV1w hX cb_X10_isWork mL_X10_115 dX10_does_2 (c_isWork hA) ?_
  refine J_ifb_ne (tgt := 14) hX (by decide) dX10_does_5 (fun h1 => ?_) (fun h1 => ?_)
  · refine J_iloadN hX rfl rfl dX10_does_14 ?_
    refine J_iconst hX (by decide) dX10_does_15 ?_
    refine cS2w hX cb_X10_isIn mL_X10_46 dX10_does_16 (c_isIn) ?_
    refine J_ifb_ne (tgt := 29) hX (by decide) dX10_does_19 (fun h2 => ?_) (fun h2 => ?_)
    · refine J_aloadN hX rfl rfl dX10_does_29 ?_
      refine J_iloadN hX rfl rfl dX10_does_30 ?_
      refine cV1u hX cb_X10_gathers mL_X10_158 dX10_does_31 (c_gathers hA hI h1) (fun m2 hm2 => ?_)
      refine J_aloadN hX rfl rfl dX10_does_34 ?_
      refine J_aloadN hX rfl rfl dX10_does_35 ?_
      refine J_iloadN hX rfl rfl dX10_does_36 ?_
      refine J_iconst hX (by decide) dX10_does_37 ?_
      refine cV2w hX cb_X10_of mL_X10_118 dX10_does_38 (c_of (hm2.1.a42 hA T48_42) (by omega) (by omega)) ?_
      refine J_iloadN hX rfl rfl dX10_does_41 ?_
      refine cV2w hX cb_X10_doesOf mL_X10_162 dX10_does_42 (c_doesOf (N := nW A w) hm2.2 (okNSg hI h1) (gaH_b hI (by omega)) h2) ?_
      exact J_iret hX hR0 dX10_does_45 (anQ.yes (by unfold rfDoes; rw [if_pos h1, if_pos h2]) rfl (hm2.1.q T48q))
    · refine J_aloadN hX rfl rfl dX10_does_22 ?_
      refine J_bipush hX (by decide) dX10_does_23 ?_
      refine cV1w hX cb_X10_refuse mL_X10_62 dX10_does_25 (c_mrefuse (by omega) (hf _ (by omega))) ?_
      exact J_iret hX hR0 dX10_does_28 (anQ.no (by unfold rfDoes; rw [if_pos h1, if_neg h2]) (by omega))
  · refine J_aloadN hX rfl rfl dX10_does_8 ?_
    refine J_iconst hX (by decide) dX10_does_9 ?_
    refine cV1w hX cb_X10_refuse mL_X10_62 dX10_does_10 (c_mrefuse (by omega) (hf _ (by omega))) ?_
    exact J_iret hX hR0 dX10_does_13 (anQ.no (by unfold rfDoes; rw [if_neg h1]) (by omega))
theorem c_mwell (hA : m 42 0 0 = A) (hI : InvA A C D) (hf : few41 m) : K_X10_well G [vr 40 0 0, vi w, vi x] m (pi (anQ m (rfDoes A w x 2) (weB A w x) (FrQ m))) := by
  refine E_X10_well (fun X hX hR0 _ _ => ?_)
  have h0 := hI.1
  refine J_aloadN hX rfl rfl dX10_well_0 ?_
  refine J_iloadN hX rfl rfl dX10_well_1 ?_
  refine cV1w hX cb_X10_isWork mL_X10_115 dX10_well_2 (c_isWork hA) ?_
  refine J_ifb_ne (tgt := 14) hX (by decide) dX10_well_5 (fun h1 => ?_) (fun h1 => ?_)
  · refine J_iloadN hX rfl rfl dX10_well_14 ?_
    refine J_iconst hX (by decide) dX10_well_15 ?_
    refine cS2w hX cb_X10_isIn mL_X10_46 dX10_well_16 (c_isIn) ?_
    refine J_ifb_ne (tgt := 29) hX (by decide) dX10_well_19 (fun h2 => ?_) (fun h2 => ?_)
    · obtain ⟨w1, w2, w3⟩ := wlI_b (κ := aW A w 0) (H := gaH A w 24) (okNSg hI h1) 3 (by omega) (by omega)
      refine J_aloadN hX rfl rfl dX10_well_29 ?_
      refine J_iloadN hX rfl rfl dX10_well_30 ?_
      refine cV1u hX cb_X10_gathers mL_X10_158 dX10_well_31 (c_gathers hA hI h1) (fun m2 hm2 => ?_)
      refine J_aloadN hX rfl rfl dX10_well_34 ?_
      refine J_iloadN hX rfl rfl dX10_well_35 ?_
      refine cV1u hX cb_X10_findsWell mL_X10_171 dX10_well_36 (c_findsWell (hm2.1.a42 hA T48_42) hm2.2 (by omega) (okNSg hI h1) (gaH_b hI (by omega))) (fun m3 hm3 => ?_)
      have fr := (hm2.1.tr hm3.1).q T48q
      have rf : rfDoes A w x 2 = 0 := by unfold rfDoes; rw [if_pos h1, if_pos h2]
      refine J_aloadN hX rfl rfl dX10_well_39 ?_
      refine G_HalfHereModel_below hX dX10_well_40 mF_X10_168 ?_
      rw [hm3.2.2.2]
      refine J_aloadN hX rfl rfl dX10_well_43 ?_
      refine G_HalfHereModel_above hX dX10_well_44 mF_X10_165 ?_
      rw [hm3.2.2.1]
      refine cS2w hX cb_X10_common mL_X10_174 dX10_well_47 (c_common 32 _ _ (by omega) (by omega) (en_of 16 _ _ (by omega) (by omega) (by omega)) 60 (by omega)) ?_
      rw [gcI_comm]
      have hw12 : weA A w = wlI (aW A w 0) (nW A w) (gaS A w 24) (gaH A w 24) 3 := rfl
      have s12 : m3 40 0 0 12 = (weA A w).1 := hm3.2.2.1
      have s13 : m3 40 0 0 13 = (weA A w).2 := hm3.2.2.2
      rw [← hw12] at w1 w2 ⊢
      have hg := gcI_pos (a := (weA A w).1) (b := (weA A w).2) (Or.inr (by omega))
      have d1 : (weA A w).1.tdiv (gcI (weA A w).1 (weA A w).2) = (weA A w).1 / gcI (weA A w).1 (weA A w).2 := Int.tdiv_eq_ediv_of_nonneg w1.1
      have d2 : (weA A w).2.tdiv (gcI (weA A w).1 (weA A w).2) = (weA A w).2 / gcI (weA A w).1 (weA A w).2 := Int.tdiv_eq_ediv_of_nonneg (by omega)
      have r1 := Int.ediv_nonneg w1.1 (Int.le_of_lt hg)
      have r2 := Int.ediv_le_self (gcI (weA A w).1 (weA A w).2) w1.1
      have r3 := Int.ediv_nonneg (by omega : 0 ≤ (weA A w).2) (Int.le_of_lt hg)
      have r4 := Int.ediv_le_self (gcI (weA A w).1 (weA A w).2) (by omega : 0 ≤ (weA A w).2)
      refine siN_3 hX dX10_well_50 ?_
      refine J_iloadN hX rfl rfl dX10_well_51 ?_
      refine J_if_ne (tgt := 64) hX (by decide) dX10_well_52 (fun h3 => ?_) (fun h3 => ?_)
      · refine J_aloadN hX rfl rfl dX10_well_64 ?_
        refine G_HalfHereModel_below hX dX10_well_65 mF_X10_168 ?_
        refine J_iloadN hX rfl rfl dX10_well_68 ?_
        rw [s13]
        refine J_idiv hX (fun _ _ => by omega) (fun _ _ => by rw [d2]; omega) dX10_well_69 ?_
        exact J_iret hX hR0 dX10_well_70 (anQ.yes rf (by unfold weB; rw [if_neg h3, d2]) fr)
      · refine J_aloadN hX rfl rfl dX10_well_55 ?_
        refine G_HalfHereModel_above hX dX10_well_56 mF_X10_165 ?_
        refine J_iloadN hX rfl rfl dX10_well_59 ?_
        rw [s12]
        refine J_idiv hX (fun _ _ => by omega) (fun _ _ => by rw [d1]; omega) dX10_well_60 ?_
        refine J_goto (tgt := 70) hX (by decide) dX10_well_61 ?_
        exact J_iret hX hR0 dX10_well_70 (anQ.yes rf (by unfold weB; rw [if_pos h3, d1]) fr)
    · refine J_aloadN hX rfl rfl dX10_well_22 ?_
      refine J_bipush hX (by decide) dX10_well_23 ?_
      refine cV1w hX cb_X10_refuse mL_X10_62 dX10_well_25 (c_mrefuse (by omega) (hf _ (by omega))) ?_
      exact J_iret hX hR0 dX10_well_28 (anQ.no (by unfold rfDoes; rw [if_pos h1, if_neg h2]) (by omega))
  · refine J_aloadN hX rfl rfl dX10_well_8 ?_
    refine J_iconst hX (by decide) dX10_well_9 ?_
    refine cV1w hX cb_X10_refuse mL_X10_62 dX10_well_10 (c_mrefuse (by omega) (hf _ (by omega))) ?_
    exact J_iret hX hR0 dX10_well_13 (anQ.no (by unfold rfDoes; rw [if_neg h1]) (by omega))
end Mod
