/-! ===== 11d: the class's Effort: add, isDone, weigh ===== -/
section Eff
variable {G : GC} {X : JX} {m : HM} {e κ p t τ v w x : Int} {N S g : Int → Int} {H : Int}
theorem l_isDone (hX : Ok_X1_isDone G X 4) (hE : RelE m e κ N S H) (hS : okNS N S) (hH : inN H 64) (hR0 : JRt G X (pw (vi (bi (doneS κ N S H))) m) (some .boolean)) : ∀ i, 0 ≤ i → i ≤ 3 → (∀ k, inN k i → 12 * N k ≤ dS κ S H k) → J G X 2 [vr 17 e 0, vi i] [] m := by
  refine up_to (fun i h1 h2 ih hd => ?_)
  refine J_iloadN hX rfl rfl dX1_isDone_2 ?_
  refine J_iconst hX (by decide) dX1_isDone_3 ?_
  refine J_icmp_ge (tgt := 32) hX (by decide) dX1_isDone_4 (fun h3 => ?_) (fun h3 => ?_)
  · refine J_iconst hX (by decide) dX1_isDone_32 ?_
    exact J_zret hX hR0 dX1_isDone_33 (Or.inr rfl) (pwb1 (fun k hk => hd k (by omega)))
  · have hN := (hS i ⟨h1, h3⟩).1
    have e18 := hE.2.2.1 i ⟨h1, h3⟩
    refine J_aloadN hX rfl rfl dX1_isDone_7 ?_
    refine J_iloadN hX rfl rfl dX1_isDone_8 ?_
    refine cV1w hX cb_X1_sum mL_X1_46 dX1_isDone_9 (c_sum hE hS ⟨h1, h3⟩ hH) ?_
    refine J_bipush hX (by decide) dX1_isDone_12 ?_
    refine J_aloadN hX rfl rfl dX1_isDone_14 ?_
    refine G_Effort_needs hX dX1_isDone_15 mF_X1_9 ?_
    refine J_iloadN hX rfl rfl dX1_isDone_18 ?_
    refine L_18 hX (by omega) dX1_isDone_19 ?_
    rw [e18]
    refine J_imul hX (fun _ _ => by omega) dX1_isDone_20 ?_
    refine J_icmp_ge (tgt := 26) hX (by decide) dX1_isDone_21 (fun h4 => ?_) (fun h4 => ?_)
    · refine sinc_1 hX (fun _ => by omega) dX1_isDone_26 ?_
      refine J_goto (tgt := 2) hX (by decide) dX1_isDone_29 ?_
      exact ih h3 (fun k hk => by
        by_cases q : k = i
        · rw [q]; exact h4
        · exact hd k (by omega))
    · refine J_iconst hX (by decide) dX1_isDone_24 ?_
      exact J_zret hX hR0 dX1_isDone_25 (Or.inl rfl) (pwb0 (fun q => by have := q i ⟨h1, h3⟩; omega))
theorem c_isDone (hE : RelE m e κ N S H) (hS : okNS N S) (hH : inN H 64) : K_X1_isDone G [vr 17 e 0] m (pw (vi (bi (doneS κ N S H))) m) := by
  refine E_X1_isDone (fun X hX hR0 _ _ => ?_)
  refine J_iconst hX (by decide) dX1_isDone_0 ?_
  refine siN_1 hX dX1_isDone_1 ?_
  exact l_isDone hX hE hS hH hR0 0 (by omega) (by omega) (fun k hk => by omega)
def weP (m : HM) (e : Int) (κ : Int) (N S : Int → Int) (H : Int) (m' : HM) : Prop := FrE e m m' ∧ RelE m' e κ N S H ∧ m' 17 e 0 4 = (wlI κ N S H 3).1 / gcI (wlI κ N S H 3).1 (wlI κ N S H 3).2 ∧ m' 17 e 0 5 = (wlI κ N S H 3).2 / gcI (wlI κ N S H 3).1 (wlI κ N S H 3).2
theorem RelE.ab {m : HM} {k : Int} (h : RelE m e κ N S H) (hk : k = 4 ∨ k = 5) : RelE (upr m 17 e 0 (st1 (m 17 e 0) k x)) e κ N S H := by
  refine ⟨?_, ?_, ?_, ?_⟩
  · rw [upr_eq, st1_ne (by omega)]; exact h.1
  · rw [upr_eq, st1_ne (by omega)]; exact h.2.1
  · simp only [upr_t, Nat.reduceBEq]; exact h.2.2.1
  · simp only [upr_t, Nat.reduceBEq]; exact h.2.2.2
theorem l_weigh (hX : Ok_X1_weigh G X 4) (hS : okNS N S) (hH : inN H 64) (hR0 : JRt G X (pu (weP m e κ N S H)) none) : ∀ i, 0 ≤ i → i ≤ 3 → ∀ M b, FrE e m M → RelE M e κ N S H → M 17 e 0 4 = (wlI κ N S H i).1 → M 17 e 0 5 = (wlI κ N S H i).2 → J G X 12 [vr 17 e 0, vi i, b] [] M := by
  refine up_to (fun i h1 h2 ih M b hfr hE s4 s5 => ?_)
  obtain ⟨w1, w2, w3⟩ := wlI_b (κ := κ) (H := H) hS i h1 h2
  refine J_iloadN hX rfl rfl dX1_weigh_12 ?_
  refine J_iconst hX (by decide) dX1_weigh_13 ?_
  refine J_icmp_ge (tgt := 70) hX (by decide) dX1_weigh_14 (fun h3 => ?_) (fun h3 => ?_)
  · have e3 : i = 3 := by omega
    subst e3
    have hg := gcI_pos (a := (wlI κ N S H 3).1) (b := (wlI κ N S H 3).2) (Or.inr (by omega))
    have hg2 := gcI_le (a := (wlI κ N S H 3).1) (b := (wlI κ N S H 3).2) w1.1 (by omega)
    have d1 : (wlI κ N S H 3).1.tdiv (gcI (wlI κ N S H 3).1 (wlI κ N S H 3).2) = (wlI κ N S H 3).1 / gcI (wlI κ N S H 3).1 (wlI κ N S H 3).2 := Int.tdiv_eq_ediv_of_nonneg w1.1
    have d2 : (wlI κ N S H 3).2.tdiv (gcI (wlI κ N S H 3).1 (wlI κ N S H 3).2) = (wlI κ N S H 3).2 / gcI (wlI κ N S H 3).1 (wlI κ N S H 3).2 := Int.tdiv_eq_ediv_of_nonneg (by omega)
    have r1 := Int.ediv_nonneg w1.1 (Int.le_of_lt hg)
    have r2 := Int.ediv_le_self (gcI (wlI κ N S H 3).1 (wlI κ N S H 3).2) w1.1
    have r3 := Int.ediv_nonneg (by omega : 0 ≤ (wlI κ N S H 3).2) (Int.le_of_lt hg)
    have r4 := Int.ediv_le_self (gcI (wlI κ N S H 3).1 (wlI κ N S H 3).2) (by omega : 0 ≤ (wlI κ N S H 3).2)
    refine J_lconst (x := 1) hX rfl dX1_weigh_70 ?_
    refine J_aloadN hX rfl rfl dX1_weigh_71 ?_
    refine G_Effort_above hX dX1_weigh_72 mF_X1_49 ?_
    refine J_i2l hX dX1_weigh_75 ?_
    refine J_aloadN hX rfl rfl dX1_weigh_76 ?_
    refine G_Effort_below hX dX1_weigh_77 mF_X1_18 ?_
    refine J_i2l hX dX1_weigh_80 ?_
    rw [s4, s5]
    refine cN2w hX cb_X9_commonDivisor rfl dX1_weigh_81 (c_commonDivisor w1.1 (by omega)) ?_
    refine J_lmax hX rfl (by decide) (Nat.le_of_ble_eq_true rfl) dX1_weigh_84 mL_X1_56 ?_
    rw [show max 1 (gcI (wlI κ N S H 3).1 (wlI κ N S H 3).2) = gcI (wlI κ N S H 3).1 (wlI κ N S H 3).2 by omega]
    refine J_l2i hX (by omega) dX1_weigh_87 ?_
    refine siN_1 hX dX1_weigh_88 ?_
    refine J_aloadN hX rfl rfl dX1_weigh_89 ?_
    refine J_dup hX rfl dX1_weigh_90 ?_
    refine G_Effort_above hX dX1_weigh_91 mF_X1_49 ?_
    refine J_iloadN hX rfl rfl dX1_weigh_94 ?_
    rw [s4]
    refine J_idiv hX (fun _ _ => by omega) (fun _ _ => by rw [d1]; omega) dX1_weigh_95 ?_
    rw [d1]
    refine P_Effort_above hX dX1_weigh_96 mF_X1_49 ?_
    refine J_aloadN hX rfl rfl dX1_weigh_99 ?_
    refine J_dup hX rfl dX1_weigh_100 ?_
    refine G_Effort_below hX dX1_weigh_101 mF_X1_18 ?_
    refine J_iloadN hX rfl rfl dX1_weigh_104 ?_
    rw [upr_eq, st1_ne (by decide), s5]
    refine J_idiv hX (fun _ _ => by omega) (fun _ _ => by rw [d2]; omega) dX1_weigh_105 ?_
    rw [d2]
    refine P_Effort_below hX dX1_weigh_106 mF_X1_18 ?_
    refine J_vret hX hR0 dX1_weigh_109 ?_
    refine puI ⟨(hfr.up (by decide)).up (by decide), (hE.ab (Or.inl rfl)).ab (Or.inr rfl), ?_, ?_⟩
    · simp only [upr_eq]
      rfl
    · simp only [upr_eq]
      rfl
  · have hN := (hS i ⟨h1, h3⟩).1
    have e18 := hE.2.2.1 i ⟨h1, h3⟩
    have hdb := dS_b (κ := κ) (H := H) hS ⟨h1, h3⟩
    have es := wlI_s (κ := κ) (N := N) (S := S) (H := H) h1
    refine J_bipush hX (by decide) dX1_weigh_17 ?_
    refine J_aloadN hX rfl rfl dX1_weigh_19 ?_
    refine G_Effort_needs hX dX1_weigh_20 mF_X1_9 ?_
    refine J_iloadN hX rfl rfl dX1_weigh_23 ?_
    refine L_18 hX (by omega) dX1_weigh_24 ?_
    rw [e18]
    refine J_imul hX (fun _ _ => by omega) dX1_weigh_25 ?_
    refine siN_2 hX dX1_weigh_26 ?_
    refine J_iloadN hX rfl rfl dX1_weigh_27 ?_
    refine J_if_le (tgt := 64) hX (by decide) dX1_weigh_28 (fun h4 => ?_) (fun h4 => ?_)
    · have eq1 : wlI κ N S H (i + 1) = wlI κ N S H i := by rw [es]; unfold wst; rw [if_neg (by omega)]
      refine sinc_1 hX (fun _ => by omega) dX1_weigh_64 ?_
      refine J_goto (tgt := 12) hX (by decide) dX1_weigh_67 ?_
      exact ih h3 M _ hfr hE (by rw [eq1]; exact s4) (by rw [eq1]; exact s5)
    · refine J_aloadN hX rfl rfl dX1_weigh_31 ?_
      refine J_iloadN hX rfl rfl dX1_weigh_32 ?_
      refine cV1w hX cb_X1_sum mL_X1_46 dX1_weigh_33 (c_sum hE hS ⟨h1, h3⟩ hH) ?_
      have p1 := mul_b (x := dS κ S H i) (y := (wlI κ N S H i).2) (a := 60000) (b := 2400) hdb ⟨by omega, w2.2⟩
      have p2 := mul_b (x := (wlI κ N S H i).1) (y := 12 * N i) (a := 60000) (b := 2400) w1 ⟨by omega, by omega⟩
      refine J_aloadN hX rfl rfl dX1_weigh_36 ?_
      refine G_Effort_below hX dX1_weigh_37 mF_X1_18 ?_
      rw [s5]
      refine J_imul hX (fun _ _ => by omega) dX1_weigh_40 ?_
      refine J_aloadN hX rfl rfl dX1_weigh_41 ?_
      refine G_Effort_above hX dX1_weigh_42 mF_X1_49 ?_
      refine J_iloadN hX rfl rfl dX1_weigh_45 ?_
      rw [s4]
      refine J_imul hX (fun _ _ => by omega) dX1_weigh_46 ?_
      refine J_icmp_ge (tgt := 64) hX (by decide) dX1_weigh_47 (fun h5 => ?_) (fun h5 => ?_)
      · have eq1 : wlI κ N S H (i + 1) = wlI κ N S H i := by rw [es]; unfold wst; rw [if_neg (by omega)]
        refine sinc_1 hX (fun _ => by omega) dX1_weigh_64 ?_
        refine J_goto (tgt := 12) hX (by decide) dX1_weigh_67 ?_
        exact ih h3 M _ hfr hE (by rw [eq1]; exact s4) (by rw [eq1]; exact s5)
      · have eq1 : wlI κ N S H (i + 1) = (dS κ S H i, 12 * N i) := by rw [es]; unfold wst; rw [if_pos ⟨h4, h5⟩]
        refine J_aloadN hX rfl rfl dX1_weigh_50 ?_
        refine J_aloadN hX rfl rfl dX1_weigh_51 ?_
        refine J_iloadN hX rfl rfl dX1_weigh_52 ?_
        refine cV1w hX cb_X1_sum mL_X1_46 dX1_weigh_53 (c_sum hE hS ⟨h1, h3⟩ hH) ?_
        refine P_Effort_above hX dX1_weigh_56 mF_X1_49 ?_
        refine J_aloadN hX rfl rfl dX1_weigh_59 ?_
        refine J_iloadN hX rfl rfl dX1_weigh_60 ?_
        refine P_Effort_below hX dX1_weigh_61 mF_X1_18 ?_
        refine sinc_1 hX (fun _ => by omega) dX1_weigh_64 ?_
        refine J_goto (tgt := 12) hX (by decide) dX1_weigh_67 ?_
        refine ih h3 _ _ ((hfr.up (by decide)).up (by decide)) ((hE.ab (Or.inl rfl)).ab (Or.inr rfl)) ?_ ?_
        · simp only [upr_eq]
          rw [eq1]
          rfl
        · simp only [upr_eq]
          rw [eq1]
          rfl
theorem c_weigh (hE : RelE m e κ N S H) (hS : okNS N S) (hH : inN H 64) : K_X1_weigh G [vr 17 e 0] m (pu (weP m e κ N S H)) := by
  refine E_X1_weigh (fun X hX hR0 _ _ => ?_)
  refine J_aloadN hX rfl rfl dX1_weigh_0 ?_
  refine J_iconst hX (by decide) dX1_weigh_1 ?_
  refine P_Effort_above hX dX1_weigh_2 mF_X1_49 ?_
  refine J_aloadN hX rfl rfl dX1_weigh_5 ?_
  refine J_iconst hX (by decide) dX1_weigh_6 ?_
  refine P_Effort_below hX dX1_weigh_7 mF_X1_18 ?_
  refine J_iconst hX (by decide) dX1_weigh_10 ?_
  refine siN_1 hX dX1_weigh_11 ?_
  refine l_weigh hX hS hH hR0 0 (by omega) (by omega) _ _ ((FrE.rf.up (by decide)).up (by decide)) ((hE.ab (Or.inl rfl)).ab (Or.inr rfl)) ?_ ?_
  · simp only [upr_eq]
    rfl
  · simp only [upr_eq]
    rfl
/-! add -/
def addP (m : HM) (e κ : Int) (N S : Int → Int) (H p t τ : Int) (g : Int → Int) (m' : HM) : Prop := FrE e m m' ∧ RelE m' e κ N (fun k => S k + gv κ k (g k) t τ) (orI H (p2 p))
theorem c_add {q : Int} (hE : RelE m e κ N S H) (hS : ∀ k, inN k 3 → 0 ≤ S k ∧ S k ≤ 38000) (hH : inN H 64) (hκ : 0 ≤ κ ∧ κ ≤ 5) (hp : inN p 6) (hg : ∀ k, inN k 3 → m 10 v q k = g k ∧ 0 ≤ g k ∧ g k ≤ 60) (ht : 0 ≤ t ∧ t ≤ 12) (hτ : 0 ≤ τ) : K_X1_add G [vr 17 e 0, vi p, vr 9 v q, vi t, vi τ] m (pu (addP m e κ N S H p t τ g)) := by
  refine E_X1_add (fun X hX hR0 _ _ => ?_)
  have hsk : (κ = 0 ∨ κ = 1 ∨ κ = 2 ∨ κ = 3 ∨ κ = 4 ∨ κ = 5) := by omega
  have hlg : lgf κ.toNat = if κ = 1 then 12 else if κ = 2 ∨ κ = 5 then 8 else 1 := by rcases hsk with rfl | rfl | rfl | rfl | rfl | rfl <;> rfl
  have M1 : ∀ (f : Int → Int), f = st1 (m 17 e 0) 3 (orI H (p2 p)) → (∀ k, inN k 3 → gv κ k (g k) t τ = 0) → addP m e κ N S H p t τ g (upr m 17 e 0 f) := fun f hf h0 => by
    subst hf
    refine ⟨FrE.rf.up (by decide), ?_, ?_, ?_, ?_⟩
    · rw [upr_eq, st1_ne (by decide)]; exact hE.1
    · rw [upr_eq, st1_eq]
    · simp only [upr_t, Nat.reduceBEq]; exact hE.2.2.1
    · simp only [upr_t, Nat.reduceBEq]
      intro k hk
      rw [h0 k hk, Int.add_zero]
      exact hE.2.2.2 k hk
  have g0 := hg 0 (by omega)
  have g1 := hg 1 (by omega)
  have g2 := hg 2 (by omega)
  have S0 := hS 0 (by omega)
  have S1 := hS 1 (by omega)
  have S2 := hS 2 (by omega)
  have E0 := hE.2.2.2 0 (by omega)
  have E1 := hE.2.2.2 1 (by omega)
  have E2 := hE.2.2.2 2 (by omega)
  refine J_aloadN hX rfl rfl dX1_add_0 ?_
  refine J_dup hX rfl dX1_add_1 ?_
  refine G_Effort_helpers hX dX1_add_2 mF_X1_28 ?_
  refine J_iconst hX (by decide) dX1_add_5 ?_
  refine J_iloadN hX rfl rfl dX1_add_6 ?_
  refine J_ishl hX (fun _ _ => sd_shl ⟨hp.1, by omega⟩) dX1_add_7 ?_
  refine J_ior hX (fun _ _ => by rw [hE.2.1]; exact sd_or hH (p2_b hp).1) dX1_add_8 ?_
  refine P_Effort_helpers hX dX1_add_9 mF_X1_28 ?_
  refine J_iload hX rfl dX1_add_12 ?_
  refine J_sipush hX (by decide) dX1_add_14 ?_
  refine J_icmp_gt (tgt := 32) hX (by decide) dX1_add_17 (fun h1 => ?_) (fun h1 => ?_)
  · skip
    exact J_vret hX hR0 dX1_add_32 (puI (M1 _ rfl (fun k hk => by unfold gv; rw [if_pos h1])))
  · refine J_iloadN hX rfl rfl dX1_add_20 ?_
    refine J_gets61 hX dX1_add_21 mF_X1_32 ?_
    refine J_aloadN hX rfl rfl dX1_add_24 ?_
    refine G_Effort_kind hX dX1_add_25 mF_X1_27 ?_
    rw [upr_eq, st1_ne (by decide), hE.1]
    refine J_iald61 hX (by omega) dX1_add_28 ?_
    rw [hlg]
    refine J_icmp_ge (tgt := 33) hX (by decide) dX1_add_29 (fun h2 => ?_) (fun h2 => ?_)
    · obtain ⟨st, hst⟩ : ∃ z : Int, z = if κ = 5 then max 0 (g 0 - τ) else g 0 := ⟨_, rfl⟩
      obtain ⟨wi, hwi⟩ : ∃ z : Int, z = if κ = 4 then 2 * g 1 else g 1 := ⟨_, rfl⟩
      have bst : 0 ≤ st ∧ st ≤ 60 := by rw [hst]; split <;> omega
      have bwi : 0 ≤ wi ∧ wi ≤ 120 := by rw [hwi]; split <;> omega
      have m0 := mul_b (a := 60) (b := 12) bst ht
      have m1 := mul_b (a := 120) (b := 12) bwi ht
      have m2 := mul_b (a := 60) (b := 12) g2.2 ht
      have hno : ¬ ((κ = 1 ∧ t < 12) ∨ ((κ = 2 ∨ κ = 5) ∧ t < 8)) := by
        rintro (⟨q1, q2⟩ | ⟨q1, q2⟩)
        · rw [if_pos q1] at h2; omega
        · rw [if_neg (by omega), if_pos q1] at h2; omega
      have v0 : gv κ 0 (g 0) t τ = st * t := by
        unfold gv
        rw [if_neg (by omega), if_neg hno, hst]
        by_cases q : κ = 5
        · rw [if_pos ⟨q, rfl⟩, if_pos q]
        · rw [if_neg (fun z => q z.1), if_neg q, if_neg (by omega)]
      have v1 : gv κ 1 (g 1) t τ = wi * t := by
        unfold gv
        rw [if_neg (by omega), if_neg hno, hwi, if_neg (by omega)]
        by_cases q : κ = 4
        · rw [if_pos ⟨q, rfl⟩, if_pos q]
        · rw [if_neg (fun z => q z.1), if_neg q]
      have v2 : gv κ 2 (g 2) t τ = g 2 * t := by
        unfold gv
        rw [if_neg (by omega), if_neg hno, if_neg (by omega), if_neg (by omega)]
      have K89 : ∀ z, z = wi → J G X 89 [vr 17 e 0, vi p, vr 9 v q, vi t, vi τ, vi st, vi z] [] (upr m 17 e 0 (st1 (m 17 e 0) 3 (orI H (p2 p)))) := by
        intro z hz
        subst hz
        refine J_aloadN hX rfl rfl dX1_add_89 ?_
        refine G_Effort_given hX dX1_add_90 mF_X1_15 ?_
        refine J_iconst hX (by decide) dX1_add_93 ?_
        refine J_dup2 hX rfl rfl dX1_add_94 ?_
        refine L_19 hX (by omega) dX1_add_95 ?_
        simp only [upr_t, Nat.reduceBEq]
        rw [E0]
        refine J_iload hX rfl dX1_add_96 ?_
        refine J_iloadN hX rfl rfl dX1_add_98 ?_
        refine J_imul hX (fun _ _ => by omega) dX1_add_99 ?_
        refine J_iadd hX (fun _ _ => by omega) dX1_add_100 ?_
        refine S_19 hX (by omega) dX1_add_101 ?_
        refine J_aloadN hX rfl rfl dX1_add_102 ?_
        refine G_Effort_given hX dX1_add_103 mF_X1_15 ?_
        refine J_iconst hX (by decide) dX1_add_106 ?_
        refine J_dup2 hX rfl rfl dX1_add_107 ?_
        refine L_19 hX (by omega) dX1_add_108 ?_
        simp only [upr_t, Nat.reduceBEq, upr_upr, upr_eq, st1_ne (show (1 : Int) ≠ 0 by decide)]
        rw [E1]
        refine J_iload hX rfl dX1_add_109 ?_
        refine J_iloadN hX rfl rfl dX1_add_111 ?_
        refine J_imul hX (fun _ _ => by omega) dX1_add_112 ?_
        refine J_iadd hX (fun _ _ => by omega) dX1_add_113 ?_
        refine S_19 hX (by omega) dX1_add_114 ?_
        refine J_aloadN hX rfl rfl dX1_add_115 ?_
        refine G_Effort_given hX dX1_add_116 mF_X1_15 ?_
        refine J_iconst hX (by decide) dX1_add_119 ?_
        refine J_dup2 hX rfl rfl dX1_add_120 ?_
        refine L_19 hX (by omega) dX1_add_121 ?_
        simp only [upr_t, Nat.reduceBEq, upr_upr, upr_eq, st1_ne (show (2 : Int) ≠ 0 by decide), st1_ne (show (2 : Int) ≠ 1 by decide)]
        rw [E2]
        refine J_aloadN hX rfl rfl dX1_add_122 ?_
        refine G_Person_gifts hX dX1_add_123 mF_X1_35 ?_
        refine J_iconst hX (by decide) dX1_add_126 ?_
        refine L_10 hX (by omega) dX1_add_127 ?_
        simp only [upr_t, Nat.reduceBEq]
        rw [g2.1]
        refine J_iloadN hX rfl rfl dX1_add_128 ?_
        refine J_imul hX (fun _ _ => by omega) dX1_add_129 ?_
        refine J_iadd hX (fun _ _ => by omega) dX1_add_130 ?_
        refine S_19 hX (by omega) dX1_add_131 ?_
        simp only [upr_t, Nat.reduceBEq, upr_upr, upr_eq]
        refine J_vret hX hR0 dX1_add_132 ?_
        refine puI ⟨(FrE.rf.up (by decide)).up (by decide), ?_, ?_, ?_, ?_⟩
        · simp only [upr_t, Nat.reduceBEq, upr_eq]; rw [st1_ne (by decide)]; exact hE.1
        · simp only [upr_t, Nat.reduceBEq, upr_eq, st1_eq]
        · simp only [upr_t, Nat.reduceBEq]; exact hE.2.2.1
        · intro k hk
          simp only [upr_eq]
          rcases (show k = 0 ∨ k = 1 ∨ k = 2 by omega) with rfl | rfl | rfl
          · rw [v0]; rfl
          · rw [v1]; rfl
          · rw [v2]; rfl
      have K67 : ∀ z b, z = st → J G X 67 [vr 17 e 0, vi p, vr 9 v q, vi t, vi τ, vi z, b] [] (upr m 17 e 0 (st1 (m 17 e 0) 3 (orI H (p2 p)))) := by
        intro z b hz
        subst hz
        refine J_aloadN hX rfl rfl dX1_add_67 ?_
        refine G_Person_gifts hX dX1_add_68 mF_X1_35 ?_
        refine J_iconst hX (by decide) dX1_add_71 ?_
        refine L_10 hX (by omega) dX1_add_72 ?_
        simp only [upr_t, Nat.reduceBEq]
        rw [g1.1]
        refine si_6 hX dX1_add_73 ?_
        refine J_aloadN hX rfl rfl dX1_add_75 ?_
        refine G_Effort_kind hX dX1_add_76 mF_X1_27 ?_
        rw [upr_eq, st1_ne (by decide), hE.1]
        refine J_iconst hX (by decide) dX1_add_79 ?_
        refine J_icmp_ne (tgt := 89) hX (by decide) dX1_add_80 (fun h5 => ?_) (fun h5 => ?_)
        · skip
          exact K89 _ (by rw [hwi, if_neg h5])
        · refine J_iconst hX (by decide) dX1_add_83 ?_
          refine J_iload hX rfl dX1_add_84 ?_
          refine J_imul hX (fun _ _ => by omega) dX1_add_86 ?_
          refine si_6 hX dX1_add_87 ?_
          exact K89 _ (by rw [hwi, if_pos h5])
      refine J_aloadN hX rfl rfl dX1_add_33 ?_
      refine G_Person_gifts hX dX1_add_34 mF_X1_35 ?_
      refine J_iconst hX (by decide) dX1_add_37 ?_
      refine L_10 hX (by omega) dX1_add_38 ?_
      simp only [upr_t, Nat.reduceBEq]
      rw [g0.1]
      refine si_5 hX dX1_add_39 ?_
      refine J_aloadN hX rfl rfl dX1_add_41 ?_
      refine G_Effort_kind hX dX1_add_42 mF_X1_27 ?_
      rw [upr_eq, st1_ne (by decide), hE.1]
      refine J_iconst hX (by decide) dX1_add_45 ?_
      refine J_icmp_ne (tgt := 67) hX (by decide) dX1_add_46 (fun h5 => ?_) (fun h5 => ?_)
      · exact K67 _ _ (by rw [hst, if_neg h5])
      · refine J_iload hX rfl dX1_add_49 ?_
        refine J_iload hX rfl dX1_add_51 ?_
        refine J_icmp_le (tgt := 64) hX (by decide) dX1_add_53 (fun h6 => ?_) (fun h6 => ?_)
        · refine J_iconst hX (by decide) dX1_add_64 ?_
          refine si_5 hX dX1_add_65 ?_
          exact K67 _ _ (by rw [hst, if_pos h5]; omega)
        · refine J_iload hX rfl dX1_add_56 ?_
          refine J_iload hX rfl dX1_add_58 ?_
          refine J_isub hX (fun _ _ => by omega) dX1_add_60 ?_
          refine J_goto (tgt := 65) hX (by decide) dX1_add_61 ?_
          refine si_5 hX dX1_add_65 ?_
          exact K67 _ _ (by rw [hst, if_pos h5]; omega)
    · skip
      refine J_vret hX hR0 dX1_add_32 ?_
      refine puI (M1 _ rfl (fun k hk => ?_))
      unfold gv
      rw [if_neg (by omega)]
      by_cases q : (κ = 1 ∧ t < 12) ∨ ((κ = 2 ∨ κ = 5) ∧ t < 8)
      · rw [if_pos q]
      · rw [if_neg q]
        have t0 : t = 0 := by
          rcases hsk with rfl | rfl | rfl | rfl | rfl | rfl <;> simp at h2 q <;> omega
        rw [t0, Int.mul_zero]
end Eff
