/-! ===== 30a: the class's Planner: gather, isDone, helps, used, needed ===== -/
section Pl
variable {G : GC} {X : JX} {m : HM} {κ p t τ w x y z i k q b v e : Int} {A N S g F : Int → Int} {H C D : Int}
def RelPl (m : HM) (F : Int → Int) : Prop := ∀ p w, inN p 6 → inN w 6 → m 22 0 p w = F (6 * p + w)
/-- efforts alone change -/
def FrF (m m' : HM) : Prop := ∀ t v i, ¬ (17 ≤ t ∧ t ≤ 19) → m' t v i = m t v i
theorem FrF.rf : FrF m m := fun _ _ _ _ => rfl
theorem FrF.tr {m' m2 : HM} (h : FrF m m') (h2 : FrF m' m2) : FrF m m2 := fun t v i a => (h2 t v i a).trans (h t v i a)
theorem FrE.toF {m' : HM} (h : FrE e m m') : FrF m m' := fun t v i a => h t v i (fun q => a ⟨q.1, q.2.1⟩)
theorem RelV.frF {m' : HM} (h : RelV m v A) (hf : FrF m m') : RelV m' v A := h.keep (hf 1 v 0 (by omega)) (fun i => hf 3 v i (by omega)) (fun i => hf 9 v i (by omega)) (fun i => hf 10 v i (by omega)) (fun i => hf 11 v i (by omega)) (fun i => hf 12 v i (by omega)) (fun i => hf 13 v i (by omega))
theorem RelPl.frF {m' : HM} (h : RelPl m F) (hf : FrF m m') : RelPl m' F := fun p w hp hw => by rw [hf 22 0 p (by omega)]; exact h p w hp hw
/-- the plan's cells and efforts alone change -/
def FrP (m m' : HM) : Prop := ∀ t v i, ¬ (17 ≤ t ∧ t ≤ 19) → t ≠ 22 → m' t v i = m t v i
theorem FrP.rf : FrP m m := fun _ _ _ _ _ => rfl
theorem FrP.tr {m' m2 : HM} (h : FrP m m') (h2 : FrP m' m2) : FrP m m2 := fun t v i a b => (h2 t v i a b).trans (h t v i a b)
theorem FrF.toP {m' : HM} (h : FrF m m') : FrP m m' := fun t v i a _ => h t v i a
theorem FrP.t22 {m' : HM} (h : FrP m m') {v i : Int} {f : Int → Int} : FrP m (upr m' 22 v i f) := fun t' v' i' a b => by
  rw [upr_tag b]
  exact h t' v' i' a b
theorem RelV.frP {m' : HM} (h : RelV m v A) (hf : FrP m m') : RelV m' v A := h.keep (hf 1 v 0 (by omega) (by decide)) (fun i => hf 3 v i (by omega) (by decide)) (fun i => hf 9 v i (by omega) (by decide)) (fun i => hf 10 v i (by omega) (by decide)) (fun i => hf 11 v i (by omega) (by decide)) (fun i => hf 12 v i (by omega) (by decide)) (fun i => hf 13 v i (by omega) (by decide))
theorem RelV.frE {m' : HM} (h : RelV m v A) (hf : FrE e m m') : RelV m' v A := h.keep (hf 1 v 0 (by omega)) (fun i => hf 3 v i (by omega)) (fun i => hf 9 v i (by omega)) (fun i => hf 10 v i (by omega)) (fun i => hf 11 v i (by omega)) (fun i => hf 12 v i (by omega)) (fun i => hf 13 v i (by omega))
theorem RelPl.frE {m' : HM} (h : RelPl m F) (hf : FrE e m m') : RelPl m' F := fun p w hp hw => by rw [hf 22 0 p (by omega)]; exact h p w hp hw
theorem RelE.fr {m' : HM} {e e' : Int} (h : RelE m e κ N S H) (hf : FrE e' m m') (hne : e ≠ e') : RelE m' e κ N S H := by
  refine ⟨?_, ?_, fun k hk => ?_, fun k hk => ?_⟩
  · rw [hf 17 e 0 (by omega)]; exact h.1
  · rw [hf 17 e 0 (by omega)]; exact h.2.1
  · rw [hf 18 e 0 (by omega)]; exact h.2.2.1 k hk
  · rw [hf 19 e 0 (by omega)]; exact h.2.2.2 k hk
theorem RelPl.st (h : RelPl m F) {p w : Int} (hp : inN p 6) (hw : inN w 6) (x : Int) : RelPl (upr m 22 0 p (st1 (m 22 0 p) w x)) (st1 F (6 * p + w) x) := fun i j hi hj => by
  by_cases q : i = p
  · rw [q, upr_eq]
    by_cases q2 : j = w
    · rw [q2, st1_eq, st1_eq]
    · rw [st1_ne q2, st1_ne (by omega), ← q]
      exact h i j hi hj
  · rw [upr_i q, st1_ne (by omega)]
    exact h i j hi hj
theorem l_gather {m0 : HM} (hX : Ok_X4_gather G X 3) (hR : RelV m0 v A) (hI : InvA A C D) (hF : RelPl m0 F) (ho : okSh F) (hw : inN w (A 2)) (hR0 : JRt G X (pu (fun m' => FrE e m0 m' ∧ RelE m' e (aW A w 0) (nW A w) (byS A F w (A 1)) (byH F w (A 1)))) none) : ∀ i, 0 ≤ i → i ≤ A 1 → ∀ M, FrE e m0 M → RelE M e (aW A w 0) (nW A w) (byS A F w i) (byH F w i) → J G X 13 [vr 20 0 0, vr 17 e 0, vr 1 v 0, vi w, vi i] [] M := by
  have h0 := hI.1
  refine up_to (fun i h1 h2 ih M hfr hr => ?_)
  have hV := hR.frE hfr
  have hF' := hF.frE hfr
  refine J_iload hX rfl dX4_gather_13 ?_
  refine J_aloadN hX rfl rfl dX4_gather_15 ?_
  refine G_Village_personCount hX dX4_gather_16 mF_X4_56 ?_
  rw [hV.1.2.1]
  refine J_icmp_ge (tgt := 63) hX (by decide) dX4_gather_19 (fun h3 => ?_) (fun h3 => ?_)
  · have e1 : i = A 1 := by omega
    subst e1
    exact J_vret hX hR0 dX4_gather_63 (puI ⟨hfr, hr⟩)
  · have hi : inN i (A 1) := ⟨h1, by omega⟩
    have eF := hF' i w (by omega) (by omega)
    have hoi := ho (6 * i + w) (by omega)
    have hb := fun k hk => byS_b (k := k) hI ho hw ⟨h1, h2⟩ hk
    have hH := byH_b (F := F) (w := w) hI ⟨h1, h2⟩
    refine J_aloadN hX rfl rfl dX4_gather_22 ?_
    refine G_Planner_twelfths hX dX4_gather_23 mF_X4_11 ?_
    refine J_iload hX rfl dX4_gather_26 ?_
    refine A_21 hX (by omega) dX4_gather_28 ?_
    refine J_iloadN hX rfl rfl dX4_gather_29 ?_
    refine L_22 hX (by omega) dX4_gather_30 ?_
    rw [eF]
    refine J_if_le (tgt := 57) hX (by decide) dX4_gather_31 (fun h4 => ?_) (fun h4 => ?_)
    · have nat : ¬ shP F w i := fun z => by unfold shP at z; omega
      refine sinc_4 hX (fun _ => by omega) dX4_gather_57 ?_
      refine J_goto (tgt := 13) hX (by decide) dX4_gather_60 ?_
      refine ih (by omega) M hfr ?_
      have eH : byH F w (i + 1) = byH F w i := by unfold byH; rw [oI_f h1 nat]
      have eS : byS A F w (i + 1) = byS A F w i := by funext k; unfold byS; rw [sP_f h1 nat]
      rw [eH, eS]
      exact hr
    · have hat : shP F w i := by unfold shP; omega
      have hκ := (hI.2.2.2.1 w hw).1
      have hg := (hI.2.2.1 i hi).2.2
      have hv := (hV.2.2.1 i hi).2
      refine J_aloadN hX rfl rfl dX4_gather_34 ?_
      refine J_iload hX rfl dX4_gather_35 ?_
      refine J_aloadN hX rfl rfl dX4_gather_37 ?_
      refine G_Village_persons hX dX4_gather_38 mF_X4_63 ?_
      refine J_iload hX rfl dX4_gather_41 ?_
      refine A_6 hX (by omega) dX4_gather_43 ?_
      refine J_aloadN hX rfl rfl dX4_gather_44 ?_
      refine G_Planner_twelfths hX dX4_gather_45 mF_X4_11 ?_
      refine J_iload hX rfl dX4_gather_48 ?_
      refine A_21 hX (by omega) dX4_gather_50 ?_
      refine J_iloadN hX rfl rfl dX4_gather_51 ?_
      refine L_22 hX (by omega) dX4_gather_52 ?_
      rw [eF]
      refine J_iconst hX (by decide) dX4_gather_53 ?_
      refine cV4u hX cb_X1_add mL_X4_84 dX4_gather_54 (c_add (g := aG A i) hr (fun k hk => by have := hb k hk; omega) hH hκ (by omega) (fun k hk => ⟨hv k hk, hg k hk⟩) (by omega) (by omega)) (fun m2 hm2 => ?_)
      refine sinc_4 hX (fun _ => by omega) dX4_gather_57 ?_
      refine J_goto (tgt := 13) hX (by decide) dX4_gather_60 ?_
      refine ih (by omega) m2 (hfr.tr hm2.1) ?_
      have eH : byH F w (i + 1) = orI (byH F w i) (p2 i) := by unfold byH; rw [oI_t h1 hat]
      have eS : byS A F w (i + 1) = fun k => byS A F w i k + gv (aW A w 0) k (aG A i k) (F (6 * i + w)) 0 := by funext k; unfold byS; rw [sP_t h1 hat]
      rw [eH, eS]
      exact hm2.2
theorem c_gather (hR : RelV m v A) (hI : InvA A C D) (hF : RelPl m F) (ho : okSh F) (hw : inN w (A 2)) : K_X4_gather G [vr 20 0 0, vr 17 e 0, vr 1 v 0, vi w] m (pu (fun m' => FrE e m m' ∧ RelE m' e (aW A w 0) (nW A w) (byS A F w (A 1)) (byH F w (A 1)))) := by
  refine E_X4_gather (fun X hX hR0 _ _ => ?_)
  have h0 := hI.1
  have hWo := hR.2.2.2.1 w hw
  refine J_aloadN hX rfl rfl dX4_gather_0 ?_
  refine J_aloadN hX rfl rfl dX4_gather_1 ?_
  refine G_Village_works hX dX4_gather_2 mF_X4_47 ?_
  refine J_iloadN hX rfl rfl dX4_gather_5 ?_
  refine A_7 hX (by omega) dX4_gather_6 ?_
  refine cV1u hX cb_X1_begin mL_X4_91 dX4_gather_7 (c_begin hWo.1 hWo.2.2.2) (fun m2 hm2 => ?_)
  refine J_iconst hX (by decide) dX4_gather_10 ?_
  refine si_4 hX dX4_gather_11 ?_
  exact l_gather hX hR hI hF ho hw hR0 0 (by omega) (by omega) m2 hm2.1 hm2.2
theorem by_b {A F : Int → Int} {C D w : Int} (hI : InvA A C D) (hF : okSh F) (hw : inN w (A 2)) : okNS (nW A w) (byS A F w (A 1)) ∧ inN (byH F w (A 1)) 64 := by
  have := bx_b (q := 0) (t := 0) hI hF hw (by omega) (by omega)
  rw [bxS_0 (by omega), bxH_0 (by omega)] at this
  exact this
theorem c_pisDone (hR : RelV m v A) (hI : InvA A C D) (hF : RelPl m F) (ho : okSh F) (hw : inN w (A 2)) : K_X4_isDone G [vr 20 0 0, vr 1 v 0, vi w] m (pi (fun r m' => r = bi (dn0 A F w) ∧ FrE 1 m m')) := by
  refine E_X4_isDone (fun X hX hR0 _ _ => ?_)
  have hb := by_b hI ho hw
  refine J_aloadN hX rfl rfl dX4_isDone_0 ?_
  refine J_aloadN hX rfl rfl dX4_isDone_1 ?_
  refine G_Planner_before hX dX4_isDone_2 mF_X4_19 ?_
  refine J_aloadN hX rfl rfl dX4_isDone_5 ?_
  refine J_iloadN hX rfl rfl dX4_isDone_6 ?_
  refine cV3u hX cb_X4_gather mL_X4_80 dX4_isDone_7 (c_gather hR hI hF ho hw) (fun m2 hm2 => ?_)
  refine J_aloadN hX rfl rfl dX4_isDone_10 ?_
  refine G_Planner_before hX dX4_isDone_11 mF_X4_19 ?_
  refine cV0w hX cb_X1_isDone mL_X4_88 dX4_isDone_14 (c_isDone hm2.2 hb.1 hb.2) ?_
  exact J_zret hX hR0 dX4_isDone_17 (bi_01 _) (⟨_, rfl, rfl, hm2.1⟩)
/-- one more of a person -/
theorem add_bx {m m' : HM} {p : Int} (ht : 0 < t) (h : addP m e (aW A w 0) (nW A w) (byS A F w (A 1)) (byH F w (A 1)) p t 0 (aG A p) m') : FrE e m m' ∧ RelE m' e (aW A w 0) (nW A w) (bxS A F w p t) (bxH A F w p t) := by
  refine ⟨h.1, h.2.1, ?_, h.2.2.2.1, fun k hk => ?_⟩
  · unfold bxH
    rw [if_pos ht]
    exact h.2.2.1
  · unfold bxS
    rw [if_pos ht]
    exact h.2.2.2.2 k hk
theorem l_phelps {m0 : HM} {p t : Int} (hX : Ok_X4_helps G X 4) (hI : InvA A C D) (hw : inN w (A 2)) (hb : okNS (nW A w) (byS A F w (A 1)) ∧ inN (byH F w (A 1)) 64) (hb2 : okNS (nW A w) (bxS A F w p t) ∧ inN (bxH A F w p t) 64) (hfr : FrF m0 m) (hr1 : RelE m 1 (aW A w 0) (nW A w) (byS A F w (A 1)) (byH F w (A 1))) (hr2 : RelE m 2 (aW A w 0) (nW A w) (bxS A F w p t) (bxH A F w p t)) (hR0 : JRt G X (pi (fun r m' => r = bi (hlB A F w p t) ∧ FrF m0 m')) (some .boolean)) : ∀ i, 0 ≤ i → i ≤ 3 → (∀ k, inN k i → ¬ (0 < nW A w k ∧ dS (aW A w 0) (byS A F w (A 1)) (byH F w (A 1)) k < dS (aW A w 0) (bxS A F w p t) (bxH A F w p t) k)) → J G X 40 [vr 20 0 0, vr 1 v 0, vi p, vi w, vi t, vi i] [] m := by
  refine up_to (fun i h1 h2 ih hn => ?_)
  have nx : ¬ (0 < nW A w i ∧ dS (aW A w 0) (byS A F w (A 1)) (byH F w (A 1)) i < dS (aW A w 0) (bxS A F w p t) (bxH A F w p t) i) → ∀ k, inN k (i + 1) → ¬ (0 < nW A w k ∧ dS (aW A w 0) (byS A F w (A 1)) (byH F w (A 1)) k < dS (aW A w 0) (bxS A F w p t) (bxH A F w p t) k) := fun h k hk => by
    by_cases e : k = i
    · rw [e]; exact h
    · exact hn k (by omega)
  refine J_iload hX rfl dX4_helps_40 ?_
  refine J_iconst hX (by decide) dX4_helps_42 ?_
  refine J_icmp_ge (tgt := 88) hX (by decide) dX4_helps_43 (fun h3 => ?_) (fun h3 => ?_)
  · refine J_iconst hX (by decide) dX4_helps_88 ?_
    refine J_zret hX hR0 dX4_helps_89 (Or.inl rfl) ?_
    exact ⟨0, rfl, (bi_neg (fun ⟨k, hk, q1, q2⟩ => hn k (by omega) ⟨q1, q2⟩)).symm, hfr⟩
  · refine J_aloadN hX rfl rfl dX4_helps_46 ?_
    refine G_Planner_before hX dX4_helps_47 mF_X4_19 ?_
    refine G_Effort_needs hX dX4_helps_50 mF_X4_95 ?_
    refine J_iload hX rfl dX4_helps_53 ?_
    refine L_18 hX (by omega) dX4_helps_55 ?_
    rw [hr1.2.2.1 i ⟨h1, h3⟩]
    refine J_if_le (tgt := 82) hX (by decide) dX4_helps_56 (fun h4 => ?_) (fun h4 => ?_)
    · refine sinc_5 hX (fun _ => by omega) dX4_helps_82 ?_
      refine J_goto (tgt := 40) hX (by decide) dX4_helps_85 ?_
      exact ih h3 (nx (fun q => by omega))
    · refine J_aloadN hX rfl rfl dX4_helps_59 ?_
      refine G_Planner_after hX dX4_helps_60 mF_X4_23 ?_
      refine J_iload hX rfl dX4_helps_63 ?_
      refine cV1w hX cb_X1_sum mL_X4_99 dX4_helps_65 (c_sum hr2 hb2.1 ⟨h1, h3⟩ hb2.2) ?_
      refine J_aloadN hX rfl rfl dX4_helps_68 ?_
      refine G_Planner_before hX dX4_helps_69 mF_X4_19 ?_
      refine J_iload hX rfl dX4_helps_72 ?_
      refine cV1w hX cb_X1_sum mL_X4_99 dX4_helps_74 (c_sum hr1 hb.1 ⟨h1, h3⟩ hb.2) ?_
      refine J_icmp_le (tgt := 82) hX (by decide) dX4_helps_77 (fun h5 => ?_) (fun h5 => ?_)
      · refine sinc_5 hX (fun _ => by omega) dX4_helps_82 ?_
        refine J_goto (tgt := 40) hX (by decide) dX4_helps_85 ?_
        exact ih h3 (nx (fun q => by omega))
      · refine J_iconst hX (by decide) dX4_helps_80 ?_
        refine J_zret hX hR0 dX4_helps_81 (Or.inr rfl) ?_
        exact ⟨1, rfl, (bi_pos ⟨i, ⟨h1, h3⟩, by omega, by omega⟩).symm, hfr⟩
theorem c_phelps {p t : Int} (hR : RelV m v A) (hI : InvA A C D) (hF : RelPl m F) (ho : okSh F) (hw : inN w (A 2)) (hp : inN p (A 1)) (ht : 0 < t ∧ t ≤ 12) : K_X4_helps G [vr 20 0 0, vr 1 v 0, vi p, vi w, vi t] m (pi (fun r m' => r = bi (hlB A F w p t) ∧ FrF m m')) := by
  refine E_X4_helps (fun X hX hR0 _ _ => ?_)
  have h0 := hI.1
  have hb := by_b hI ho hw
  have hb2 := bx_b (q := p) (t := t) hI ho hw (by omega) (fun _ => hp)
  have hκ := (hI.2.2.2.1 w hw).1
  have hg := (hI.2.2.1 p hp).2.2
  refine J_aloadN hX rfl rfl dX4_helps_0 ?_
  refine J_aloadN hX rfl rfl dX4_helps_1 ?_
  refine G_Planner_before hX dX4_helps_2 mF_X4_19 ?_
  refine J_aloadN hX rfl rfl dX4_helps_5 ?_
  refine J_iloadN hX rfl rfl dX4_helps_6 ?_
  refine cV3u hX cb_X4_gather mL_X4_80 dX4_helps_7 (c_gather hR hI hF ho hw) (fun m2 hm2 => ?_)
  refine J_aloadN hX rfl rfl dX4_helps_10 ?_
  refine J_aloadN hX rfl rfl dX4_helps_11 ?_
  refine G_Planner_after hX dX4_helps_12 mF_X4_23 ?_
  refine J_aloadN hX rfl rfl dX4_helps_15 ?_
  refine J_iloadN hX rfl rfl dX4_helps_16 ?_
  refine cV3u hX cb_X4_gather mL_X4_80 dX4_helps_17 (c_gather (hR.frE hm2.1) hI (hF.frE hm2.1) ho hw) (fun m3 hm3 => ?_)
  have hV3 := (hR.frE hm2.1).frE hm3.1
  have hv := (hV3.2.2.1 p hp).2
  refine J_aloadN hX rfl rfl dX4_helps_20 ?_
  refine G_Planner_after hX dX4_helps_21 mF_X4_23 ?_
  refine J_iloadN hX rfl rfl dX4_helps_24 ?_
  refine J_aloadN hX rfl rfl dX4_helps_25 ?_
  refine G_Village_persons hX dX4_helps_26 mF_X4_63 ?_
  refine J_iloadN hX rfl rfl dX4_helps_29 ?_
  refine A_6 hX (by omega) dX4_helps_30 ?_
  refine J_iload hX rfl dX4_helps_31 ?_
  refine J_iconst hX (by decide) dX4_helps_33 ?_
  refine cV4u hX cb_X1_add mL_X4_84 dX4_helps_34 (c_add (g := aG A p) hm3.2 (fun k hk => by have := byS_b (n := A 1) (k := k) hI ho hw ⟨by omega, by omega⟩ hk; omega) hb.2 hκ (by omega) (fun k hk => ⟨hv k hk, hg k hk⟩) (by omega) (by omega)) (fun m4 hm4 => ?_)
  obtain ⟨f4, r4⟩ := add_bx ht.1 hm4
  refine J_iconst hX (by decide) dX4_helps_37 ?_
  refine si_5 hX dX4_helps_38 ?_
  exact l_phelps hX hI hw hb hb2 ((hm2.1.toF.tr hm3.1.toF).tr f4.toF) ((hm2.2.fr hm3.1 (by decide)).fr f4 (by decide)) r4 hR0 0 (by omega) (by omega) (fun k hk => by omega)
theorem l_used (hX : Ok_X4_used G X 2) (hF : RelPl m F) (ho : okSh F) (hp : inN p 6) (hR0 : JRt G X (pw (vi (gvn F p)) m) (some .int)) : ∀ i, 0 ≤ i → i ≤ 6 → J G X 4 [vr 20 0 0, vi p, vi (sumI (fun w => F (6 * p + w)) i), vi i] [] m := by
  refine up_to (fun i h1 h2 ih => ?_)
  have hb := sumI_b (f := fun w => F (6 * p + w)) (lo := 0) (hi := 12) (n := i) h1 (fun i a b => ho _ (by omega))
  refine J_iloadN hX rfl rfl dX4_used_4 ?_
  refine J_bipush hX (by decide) dX4_used_5 ?_
  refine J_icmp_ge (tgt := 27) hX (by decide) dX4_used_7 (fun h3 => ?_) (fun h3 => ?_)
  · have e : i = 6 := by omega
    subst e
    refine J_iloadN hX rfl rfl dX4_used_27 ?_
    exact J_iret hX hR0 dX4_used_28 (pwI rfl)
  · have e := hF p i hp ⟨h1, h3⟩
    have hoi := ho (6 * p + i) (by omega)
    refine J_iloadN hX rfl rfl dX4_used_10 ?_
    refine J_aloadN hX rfl rfl dX4_used_11 ?_
    refine G_Planner_twelfths hX dX4_used_12 mF_X4_11 ?_
    refine J_iloadN hX rfl rfl dX4_used_15 ?_
    refine A_21 hX (by omega) dX4_used_16 ?_
    refine J_iloadN hX rfl rfl dX4_used_17 ?_
    refine L_22 hX (by omega) dX4_used_18 ?_
    rw [e]
    refine J_iadd hX (fun _ _ => by omega) dX4_used_19 ?_
    refine siN_2 hX dX4_used_20 ?_
    refine sinc_3 hX (fun _ => by omega) dX4_used_21 ?_
    refine J_goto (tgt := 4) hX (by decide) dX4_used_24 ?_
    have := ih h3
    rw [sumI_s h1] at this
    exact this
theorem c_used (hF : RelPl m F) (ho : okSh F) (hp : inN p 6) : K_X4_used G [vr 20 0 0, vi p] m (pw (vi (gvn F p)) m) := by
  refine E_X4_used (fun X hX hR0 _ _ => ?_)
  refine J_iconst hX (by decide) dX4_used_0 ?_
  refine siN_2 hX dX4_used_1 ?_
  refine J_iconst hX (by decide) dX4_used_2 ?_
  refine siN_3 hX dX4_used_3 ?_
  exact l_used hX hF ho hp hR0 0 (by omega) (by omega)
theorem l_needed {m0 : HM} {fr : Int} (hX : Ok_X4_needed G X 5) (hR : RelV m0 v A) (hI : InvA A C D) (hF : RelPl m0 F) (ho : okSh F) (hw : inN w (A 2)) (hp : inN p (A 1)) (hfr12 : -72 ≤ fr ∧ fr ≤ 12) (hR0 : JRt G X (pi (fun r m' => r = ndV A F w p fr ∧ FrF m0 m')) (some .int)) : ∀ i, aG A p 3 ≤ i → i ≤ max (aG A p 3) (fr + 1) → ∀ M, FrF m0 M → RelPl M F → ndT A F w p fr (aG A p 3) = ndT A F w p fr i → J G X 15 [vr 20 0 0, vr 1 v 0, vi p, vi w, vi fr, vi (aG A p 3), vi i] [] M := by
  have h0 := hI.1
  have hl := hI.2.2.1 p hp
  have hκ := (hI.2.2.2.1 w hw).1
  have hb := by_b hI ho hw
  refine up_to (fun i h1 h2 ih M hfr hF' he => ?_)
  have hV := hR.frF hfr
  refine J_iload hX rfl dX4_needed_15 ?_
  refine J_iload hX rfl dX4_needed_17 ?_
  refine J_icmp_gt (tgt := 68) hX (by decide) dX4_needed_19 (fun h3 => ?_) (fun h3 => ?_)
  · have e0 : ndT A F w p fr i = 0 := by unfold ndT; rw [fstI_0 (by omega)]
    rw [e0] at he
    have ev : ndV A F w p fr = ifP (aG A p 3 ≤ fr ∧ hlB A F w p fr) fr 0 := by
      unfold ndV
      rw [if_neg (by omega)]
    refine J_iload hX rfl dX4_needed_68 ?_
    refine J_iload hX rfl dX4_needed_70 ?_
    refine J_icmp_lt (tgt := 92) hX (by decide) dX4_needed_72 (fun h4 => ?_) (fun h4 => ?_)
    · refine J_iconst hX (by decide) dX4_needed_92 ?_
      exact J_iret hX hR0 dX4_needed_93 (⟨0, rfl, by rw [ev, ifP_neg (fun q => by have := q.1; omega)], hfr⟩)
    · refine J_aloadN hX rfl rfl dX4_needed_75 ?_
      refine J_aloadN hX rfl rfl dX4_needed_76 ?_
      refine J_iloadN hX rfl rfl dX4_needed_77 ?_
      refine J_iloadN hX rfl rfl dX4_needed_78 ?_
      refine J_iload hX rfl dX4_needed_79 ?_
      refine cV4i hX cb_X4_helps mL_X4_59 dX4_needed_81 (c_phelps hV hI hF' ho hw hp (by omega)) (fun r m2 hm2 => ?_)
      obtain ⟨rfl, hm2⟩ := hm2
      refine J_ifb_eq (tgt := 92) hX (by decide) dX4_needed_84 (fun h5 => ?_) (fun h5 => ?_)
      · refine J_iconst hX (by decide) dX4_needed_92 ?_
        exact J_iret hX hR0 dX4_needed_93 (⟨0, rfl, by rw [ev, ifP_neg (fun q => h5 q.2)], hfr.tr hm2⟩)
      · refine J_iload hX rfl dX4_needed_87 ?_
        refine J_goto (tgt := 93) hX (by decide) dX4_needed_89 ?_
        exact J_iret hX hR0 dX4_needed_93 (⟨fr, rfl, by rw [ev, ifP_pos ⟨by omega, h5⟩], hfr.tr hm2⟩)
  · have hi12 : 0 < i ∧ i ≤ 12 := by omega
    have hb2 := bx_b (q := p) (t := i) hI ho hw (by omega) (fun _ => hp)
    refine J_aloadN hX rfl rfl dX4_needed_22 ?_
    refine J_aloadN hX rfl rfl dX4_needed_23 ?_
    refine G_Planner_after hX dX4_needed_24 mF_X4_23 ?_
    refine J_aloadN hX rfl rfl dX4_needed_27 ?_
    refine J_iloadN hX rfl rfl dX4_needed_28 ?_
    refine cV3u hX cb_X4_gather mL_X4_80 dX4_needed_29 (c_gather hV hI hF' ho hw) (fun m2 hm2 => ?_)
    have hV2 := hV.frE hm2.1
    have hv := (hV2.2.2.1 p hp).2
    refine J_aloadN hX rfl rfl dX4_needed_32 ?_
    refine G_Planner_after hX dX4_needed_33 mF_X4_23 ?_
    refine J_iloadN hX rfl rfl dX4_needed_36 ?_
    refine J_aloadN hX rfl rfl dX4_needed_37 ?_
    refine G_Village_persons hX dX4_needed_38 mF_X4_63 ?_
    refine J_iloadN hX rfl rfl dX4_needed_41 ?_
    refine A_6 hX (by omega) dX4_needed_42 ?_
    refine J_iload hX rfl dX4_needed_43 ?_
    refine J_iconst hX (by decide) dX4_needed_45 ?_
    refine cV4u hX cb_X1_add mL_X4_84 dX4_needed_46 (c_add (g := aG A p) hm2.2 (fun k hk => by have := byS_b (n := A 1) (k := k) hI ho hw ⟨by omega, by omega⟩ hk; omega) hb.2 hκ (by omega) (fun k hk => ⟨hv k hk, hl.2.2 k hk⟩) (by omega) (by omega)) (fun m3 hm3 => ?_)
    obtain ⟨f3, r3⟩ := add_bx hi12.1 hm3
    refine J_aloadN hX rfl rfl dX4_needed_49 ?_
    refine G_Planner_after hX dX4_needed_50 mF_X4_23 ?_
    refine cV0w hX cb_X1_isDone mL_X4_88 dX4_needed_53 (c_isDone r3 hb2.1 hb2.2) ?_
    have eD : doneS (aW A w 0) (nW A w) (bxS A F w p i) (bxH A F w p i) = dnB A F w p i := rfl
    rw [eD]
    have hfr3 := (hfr.tr hm2.1.toF).tr f3.toF
    have hF3 := (hF'.frE hm2.1).frE f3
    refine J_ifb_eq (tgt := 62) hX (by decide) dX4_needed_56 (fun h4 => ?_) (fun h4 => ?_)
    · refine sinc_6 hX (fun _ => by omega) dX4_needed_62 ?_
      refine J_goto (tgt := 15) hX (by decide) dX4_needed_65 ?_
      exact ih (by omega) m3 hfr3 hF3 (by rw [he]; unfold ndT; rw [fstI_f (by omega) h4])
    · have e1 : ndT A F w p fr i = i := by unfold ndT; rw [fstI_t (by omega) h4]
      rw [e1] at he
      refine J_iload hX rfl dX4_needed_59 ?_
      exact J_iret hX hR0 dX4_needed_61 (⟨i, rfl, by unfold ndV; rw [if_pos (by omega)]; omega, hfr3⟩)
theorem c_needed {fr : Int} (hR : RelV m v A) (hI : InvA A C D) (hF : RelPl m F) (ho : okSh F) (hw : inN w (A 2)) (hp : inN p (A 1)) (hfr12 : -72 ≤ fr ∧ fr ≤ 12) : K_X4_needed G [vr 20 0 0, vr 1 v 0, vi p, vi w, vi fr] m (pi (fun r m' => r = ndV A F w p fr ∧ FrF m m')) := by
  refine E_X4_needed (fun X hX hR0 _ _ => ?_)
  have h0 := hI.1
  have hl := hR.2.2.1 p hp
  refine J_aloadN hX rfl rfl dX4_needed_0 ?_
  refine G_Village_persons hX dX4_needed_1 mF_X4_63 ?_
  refine J_iloadN hX rfl rfl dX4_needed_4 ?_
  refine A_6 hX (by omega) dX4_needed_5 ?_
  refine G_Person_least hX dX4_needed_6 mF_X4_67 ?_
  refine si_5 hX dX4_needed_9 ?_
  refine J_iload hX rfl dX4_needed_11 ?_
  refine si_6 hX dX4_needed_13 ?_
  rw [hl.1]
  exact l_needed hX hR hI hF ho hw hp hfr12 hR0 (aG A p 3) (Int.le_refl _) (by omega) m FrF.rf hF rfl
end Pl
