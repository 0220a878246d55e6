/-! ===== 10c: statements come ===== -/
section Vil
variable {G : GC} {X : JX} {Post : Option HV → HM → Prop} {m : HM} {v x y z : Int} {A : Int → Int} {C D : Int}
theorem tkP.r {v : Int} {m m' : HM} {ok : Prop} {A' : Int → Int} {r : Int} (h : tkP v m ok A' r m') : r = 0 ∨ r = 1 := by
  rcases h.2 with q | q
  · exact Or.inr q.1
  · exact Or.inl q.1
def clrRow (f : Int → Int) : Int → Int := st1 (st1 (st1 (st1 (st1 (st1 (st1 f 0 0) 1 0) 2 0) 3 (-9)) 4 0) 5 0) 6 0
theorem c_Part_clear {i : Int} : K_X2_clear G [vr 13 v i] m (pv (upr m 13 v i (clrRow (m 13 v i)))) := by
  refine E_X2_clear (fun X hX hR0 _ _ => ?_)
  refine J_aloadN hX rfl rfl dX2_clear_0 ?_
  refine J_iconst hX (by decide) dX2_clear_1 ?_
  refine P_Part_person hX dX2_clear_2 mF_X2_15 ?_
  refine J_aloadN hX rfl rfl dX2_clear_5 ?_
  refine J_iconst hX (by decide) dX2_clear_6 ?_
  refine P_Part_twelfths hX dX2_clear_7 mF_X2_18 ?_
  refine J_aloadN hX rfl rfl dX2_clear_10 ?_
  refine J_iconst hX (by decide) dX2_clear_11 ?_
  refine P_Part_place hX dX2_clear_12 mF_X2_21 ?_
  refine J_aloadN hX rfl rfl dX2_clear_15 ?_
  refine J_bipush hX (by decide) dX2_clear_16 ?_
  refine P_Part_work hX dX2_clear_18 mF_X2_9 ?_
  refine J_aloadN hX rfl rfl dX2_clear_21 ?_
  refine J_iconst hX (by decide) dX2_clear_22 ?_
  refine P_Part_clock hX dX2_clear_23 mF_X2_24 ?_
  refine J_aloadN hX rfl rfl dX2_clear_26 ?_
  refine J_iconst hX (by decide) dX2_clear_27 ?_
  refine P_Part_tired hX dX2_clear_28 mF_X2_27 ?_
  refine J_aloadN hX rfl rfl dX2_clear_31 ?_
  refine J_iconst hX (by decide) dX2_clear_32 ?_
  refine P_Part_seen hX dX2_clear_33 mF_X2_30 ?_
  refine J_vret hX hR0 dX2_clear_36 ?_
  refine pvI ?_
  simp only [upr_upr, upr_eq]
  rfl
theorem c_takesPlaces (hR : RelV m v A) (hI : InvA A C D) : K_X7_takesPlaces G [vr 1 v 0, vi x] m (pi (tkP v m (okPl A x) (upPl A x))) := by
  refine E_X7_takesPlaces (fun X hX hR0 _ _ => ?_)
  refine J_iloadN hX rfl rfl dX7_takesPlaces_0 ?_
  refine J_iconst hX (by decide) dX7_takesPlaces_1 ?_
  refine J_icmp_lt (tgt := 19) hX (by decide) dX7_takesPlaces_2 (fun h1 => ?_) (fun h1 => ?_)
  · refine J_iconst hX (by decide) dX7_takesPlaces_19 ?_
    exact J_zret hX hR0 dX7_takesPlaces_20 (Or.inl rfl) (tkP.n (fun q => by have := q.1; omega) FrV.rf)
  · refine J_iloadN hX rfl rfl dX7_takesPlaces_5 ?_
    refine J_bipush hX (by decide) dX7_takesPlaces_6 ?_
    refine J_icmp_gt (tgt := 19) hX (by decide) dX7_takesPlaces_8 (fun h2 => ?_) (fun h2 => ?_)
    · refine J_iconst hX (by decide) dX7_takesPlaces_19 ?_
      exact J_zret hX hR0 dX7_takesPlaces_20 (Or.inl rfl) (tkP.n (fun q => by have := q.2.1; omega) FrV.rf)
    · refine J_iloadN hX rfl rfl dX7_takesPlaces_11 ?_
      refine J_aloadN hX rfl rfl dX7_takesPlaces_12 ?_
      refine cV0i hX cb_X7_placesInUse mL_X7_97 dX7_takesPlaces_13 (c_placesInUse hR hI) (fun r m' h => ?_)
      obtain ⟨rfl, h3, h4⟩ := h
      refine J_icmp_ge (tgt := 21) hX (by decide) dX7_takesPlaces_16 (fun h5 => ?_) (fun h5 => ?_)
      · refine J_aloadN hX rfl rfl dX7_takesPlaces_21 ?_
        refine J_iloadN hX rfl rfl dX7_takesPlaces_22 ?_
        refine P_Village_places hX dX7_takesPlaces_23 mF_X7_9 ?_
        refine J_iconst hX (by decide) dX7_takesPlaces_26 ?_
        exact J_zret hX hR0 dX7_takesPlaces_27 (Or.inr rfl) (tkP.y ⟨h1, h2, fun x hx => by have := h3 x hx; omega⟩ (FrV.rf.up (by decide)) (RelV_pl hR x))
      · refine J_iconst hX (by decide) dX7_takesPlaces_19 ?_
        refine J_zret hX hR0 dX7_takesPlaces_20 (Or.inl rfl) ?_
        refine tkP.n (fun q => ?_) FrV.rf
        rcases h4 with h4 | h4
        · omega
        · have := q.2.2 _ h4; omega
theorem c_takesWay (hR : RelV m v A) (hI : InvA A C D) (h0 : 0 ≤ x ∧ 0 ≤ y) : K_X7_takesWay G [vr 1 v 0, vi x, vi y, vi z] m (pi (tkP v m (okWay A x y z) (upWay A x y z))) := by
  refine E_X7_takesWay (fun X hX hR0 _ _ => ?_)
  have hi := hI.1
  refine J_aloadN hX rfl rfl dX7_takesWay_0 ?_
  refine J_iloadN hX rfl rfl dX7_takesWay_1 ?_
  refine cV1w hX cb_X7_hasPlace mL_X7_108 dX7_takesWay_2 (c_hasPlace hR) ?_
  refine J_ifb_eq (tgt := 32) hX (by decide) dX7_takesWay_5 (fun h1 => ?_) (fun h1 => ?_)
  · refine J_iconst hX (by decide) dX7_takesWay_32 ?_
    exact J_zret hX hR0 dX7_takesWay_33 (Or.inl rfl) (tkP.n (fun q => h1 ⟨h0.1, q.1⟩) FrV.rf)
  · refine J_aloadN hX rfl rfl dX7_takesWay_8 ?_
    refine J_iloadN hX rfl rfl dX7_takesWay_9 ?_
    refine cV1w hX cb_X7_hasPlace mL_X7_108 dX7_takesWay_10 (c_hasPlace hR) ?_
    refine J_ifb_eq (tgt := 32) hX (by decide) dX7_takesWay_13 (fun h2 => ?_) (fun h2 => ?_)
    · refine J_iconst hX (by decide) dX7_takesWay_32 ?_
      exact J_zret hX hR0 dX7_takesWay_33 (Or.inl rfl) (tkP.n (fun q => h2 ⟨h0.2, q.2.1⟩) FrV.rf)
    · refine J_iloadN hX rfl rfl dX7_takesWay_16 ?_
      refine J_iloadN hX rfl rfl dX7_takesWay_17 ?_
      refine J_icmp_eq (tgt := 32) hX (by decide) dX7_takesWay_18 (fun h3 => ?_) (fun h3 => ?_)
      · refine J_iconst hX (by decide) dX7_takesWay_32 ?_
        exact J_zret hX hR0 dX7_takesWay_33 (Or.inl rfl) (tkP.n (fun q => q.2.2.1 h3) FrV.rf)
      · refine J_iloadN hX rfl rfl dX7_takesWay_21 ?_
        refine J_iconst hX (by decide) dX7_takesWay_22 ?_
        refine J_icmp_lt (tgt := 32) hX (by decide) dX7_takesWay_23 (fun h4 => ?_) (fun h4 => ?_)
        · refine J_iconst hX (by decide) dX7_takesWay_32 ?_
          exact J_zret hX hR0 dX7_takesWay_33 (Or.inl rfl) (tkP.n (fun q => by have := q.2.2.2.1; omega) FrV.rf)
        · refine J_iloadN hX rfl rfl dX7_takesWay_26 ?_
          refine J_bipush hX (by decide) dX7_takesWay_27 ?_
          refine J_icmp_le (tgt := 34) hX (by decide) dX7_takesWay_29 (fun h5 => ?_) (fun h5 => ?_)
          · refine J_aloadN hX rfl rfl dX7_takesWay_34 ?_
            refine G_Village_ways hX dX7_takesWay_35 mF_X7_17 ?_
            refine J_iloadN hX rfl rfl dX7_takesWay_38 ?_
            refine A_2 hX (by omega) dX7_takesWay_39 ?_
            refine J_iloadN hX rfl rfl dX7_takesWay_40 ?_
            refine J_iloadN hX rfl rfl dX7_takesWay_41 ?_
            refine S_3 hX (by omega) dX7_takesWay_42 ?_
            refine J_aloadN hX rfl rfl dX7_takesWay_43 ?_
            refine G_Village_ways hX dX7_takesWay_44 mF_X7_17 ?_
            refine J_iloadN hX rfl rfl dX7_takesWay_47 ?_
            refine A_2 hX (by omega) dX7_takesWay_48 ?_
            refine J_iloadN hX rfl rfl dX7_takesWay_49 ?_
            refine J_iloadN hX rfl rfl dX7_takesWay_50 ?_
            refine S_3 hX (by omega) dX7_takesWay_51 ?_
            refine J_iconst hX (by decide) dX7_takesWay_52 ?_
            exact J_zret hX hR0 dX7_takesWay_53 (Or.inr rfl) (tkP.y ⟨h1.2, h2.2, h3, h4, h5⟩ ((FrV.rf.up (by decide)).up (by decide)) (RelV_way hR (by omega) (by omega) h3))
          · refine J_iconst hX (by decide) dX7_takesWay_32 ?_
            exact J_zret hX hR0 dX7_takesWay_33 (Or.inl rfl) (tkP.n (fun q => by have := q.2.2.2.2; omega) FrV.rf)
theorem l_takesPerson (hX : Ok_X7_takesPerson G X 4) (hR0 : JRt G X (pi (tkP v m (okPer A (m 16 0 0)) (upPer A (m 16 0 0)))) (some .boolean)) (hR : RelV m v A) (hI : InvA A C D) (h6 : A 1 < 6) (hfp : inN (fpA A (-1)) 24) (hl : 1 ≤ m 16 0 0 3 ∧ m 16 0 0 3 ≤ 12) : ∀ i, 0 ≤ i → i ≤ 3 → ∀ g : Int → Int, (∀ k, inN k i → g k = m 16 0 0 k ∧ m 16 0 0 k ≤ 60) → J G X 40 [vr 1 v 0, vr 16 0 0, vi (fpA A (-1)), vi (m 16 0 0 3), vi i] [] (upr m 10 v (A 1) g) := by
  refine up_to (fun i h1 h2 ih g hg => ?_)
  have hi := hI.1
  have e1 : ∀ g, upr m 10 v (A 1) g 1 v 0 1 = A 1 := fun g => by rw [upr_tag (by decide)]; exact hR.1.2.1
  have e16 : ∀ g, upr m 10 v (A 1) g 16 0 0 = m 16 0 0 := fun g => upr_tag (by decide)
  refine J_iload hX rfl dX7_takesPerson_40 ?_
  refine J_iconst hX (by decide) dX7_takesPerson_42 ?_
  refine J_icmp_ge (tgt := 82) hX (by decide) dX7_takesPerson_43 (fun h3 => ?_) (fun h3 => ?_)
  · have e3 : i = 3 := by omega
    subst e3
    refine J_aloadN hX rfl rfl dX7_takesPerson_82 ?_
    refine G_Village_persons hX dX7_takesPerson_83 mF_X7_25 ?_
    refine J_aloadN hX rfl rfl dX7_takesPerson_86 ?_
    refine G_Village_personCount hX dX7_takesPerson_87 mF_X7_44 ?_
    rw [e1]
    refine A_6 hX (by omega) dX7_takesPerson_90 ?_
    refine J_iloadN hX rfl rfl dX7_takesPerson_91 ?_
    refine P_Person_least hX dX7_takesPerson_92 mF_X7_118 ?_
    refine J_aloadN hX rfl rfl dX7_takesPerson_95 ?_
    refine G_Village_parts hX dX7_takesPerson_96 mF_X7_37 ?_
    refine J_iloadN hX rfl rfl dX7_takesPerson_99 ?_
    refine A_8 hX (by omega) dX7_takesPerson_100 ?_
    simp only [upr_t, Nat.reduceBEq]
    refine cV0v hX cb_X2_clear mL_X7_121 dX7_takesPerson_101 (c_Part_clear) ?_
    refine J_aloadN hX rfl rfl dX7_takesPerson_104 ?_
    refine G_Village_parts hX dX7_takesPerson_105 mF_X7_37 ?_
    refine J_iloadN hX rfl rfl dX7_takesPerson_108 ?_
    refine A_8 hX (by omega) dX7_takesPerson_109 ?_
    refine J_aloadN hX rfl rfl dX7_takesPerson_110 ?_
    refine G_Village_personCount hX dX7_takesPerson_111 mF_X7_44 ?_
    simp only [upr_t, Nat.reduceBEq, hR.1.2.1]
    refine P_Part_person hX dX7_takesPerson_114 mF_X7_73 ?_
    refine J_aloadN hX rfl rfl dX7_takesPerson_117 ?_
    refine G_Village_parts hX dX7_takesPerson_118 mF_X7_37 ?_
    refine J_iloadN hX rfl rfl dX7_takesPerson_121 ?_
    refine A_8 hX (by omega) dX7_takesPerson_122 ?_
    refine J_bipush hX (by decide) dX7_takesPerson_123 ?_
    refine P_Part_twelfths hX dX7_takesPerson_125 mF_X7_66 ?_
    refine J_aloadN hX rfl rfl dX7_takesPerson_128 ?_
    refine J_dup hX rfl dX7_takesPerson_129 ?_
    refine G_Village_personCount hX dX7_takesPerson_130 mF_X7_44 ?_
    simp only [upr_t, Nat.reduceBEq, hR.1.2.1]
    refine J_iconst hX (by decide) dX7_takesPerson_133 ?_
    refine J_iadd hX (fun _ _ => by omega) dX7_takesPerson_134 ?_
    refine P_Village_personCount hX dX7_takesPerson_135 mF_X7_44 ?_
    refine J_iconst hX (by decide) dX7_takesPerson_138 ?_
    simp only [upr_t, Nat.reduceBEq, upr_upr, upr_eq]
    refine J_zret hX hR0 dX7_takesPerson_139 (Or.inr rfl) ?_
    have g0 := hg 0 (by omega)
    have g1 := hg 1 (by omega)
    have g2 := hg 2 (by omega)
    have hok : okPer A (m 16 0 0) := ⟨⟨g0.2, g1.2, g2.2⟩, hl, h6, hfp⟩
    refine tkP.y hok (((((FrV.rf.up (by decide)).up (by decide)).up (by decide)).up (by decide))) (RelV_per hR hI hok ?_ ?_ ?_ ?_ ?_ ?_ ?_ ?_ ?_ ?_)
    · simp only [upr_t, Nat.reduceBEq, upr_eq]
    · intro i; simp only [upr_t, Nat.reduceBEq]
    · intro p hp; simp only [upr_t, Nat.reduceBEq, upr_i hp]
    · simp only [upr_t, Nat.reduceBEq, upr_eq, st1_eq]
    · intro p hp; simp only [upr_t, Nat.reduceBEq, upr_i hp]
    · intro k hk; simp only [upr_t, Nat.reduceBEq, upr_eq]; exact (hg k hk).1
    · intro i; simp only [upr_t, Nat.reduceBEq]
    · intro i; simp only [upr_t, Nat.reduceBEq]
    · intro i hi; simp only [upr_t, Nat.reduceBEq, upr_i hi]
    · intro k hk
      simp only [upr_t, Nat.reduceBEq, upr_eq]
      rcases (show k = 0 ∨ k = 1 ∨ k = 2 ∨ k = 3 ∨ k = 4 ∨ k = 5 ∨ k = 6 by omega) with rfl | rfl | rfl | rfl | rfl | rfl | rfl <;> rfl
  · refine J_aloadN hX rfl rfl dX7_takesPerson_46 ?_
    refine J_iload hX rfl dX7_takesPerson_47 ?_
    refine L_16 hX (by omega) dX7_takesPerson_49 ?_
    refine J_bipush hX (by decide) dX7_takesPerson_50 ?_
    rw [e16]
    refine J_icmp_le (tgt := 57) hX (by decide) dX7_takesPerson_52 (fun h4 => ?_) (fun h4 => ?_)
    · refine J_aloadN hX rfl rfl dX7_takesPerson_57 ?_
      refine G_Village_persons hX dX7_takesPerson_58 mF_X7_25 ?_
      refine J_aloadN hX rfl rfl dX7_takesPerson_61 ?_
      refine G_Village_personCount hX dX7_takesPerson_62 mF_X7_44 ?_
      rw [e1]
      refine A_6 hX (by omega) dX7_takesPerson_65 ?_
      refine G_Person_gifts hX dX7_takesPerson_66 mF_X7_114 ?_
      refine J_iload hX rfl dX7_takesPerson_69 ?_
      refine J_aloadN hX rfl rfl dX7_takesPerson_71 ?_
      refine J_iload hX rfl dX7_takesPerson_72 ?_
      refine L_16 hX (by omega) dX7_takesPerson_74 ?_
      rw [e16]
      refine S_10 hX (by omega) dX7_takesPerson_75 ?_
      refine sinc_4 hX (fun _ => by omega) dX7_takesPerson_76 ?_
      refine J_goto (tgt := 40) hX (by decide) dX7_takesPerson_79 ?_
      rw [upr_upr, upr_eq]
      exact ih h3 _ (fun k hk => by
        by_cases q : k = i
        · subst q; rw [st1_eq]; exact ⟨rfl, h4⟩
        · rw [st1_ne q]; exact hg k (by omega))
    · refine J_iconst hX (by decide) dX7_takesPerson_55 ?_
      refine J_zret hX hR0 dX7_takesPerson_56 (Or.inl rfl) ?_
      refine tkP.n (fun q => ?_) (FrV.rf.up (by decide))
      have q1 := q.1
      rcases (show i = 0 ∨ i = 1 ∨ i = 2 by omega) with rfl | rfl | rfl <;> omega
theorem c_takesPerson (hR : RelV m v A) (hI : InvA A C D) : K_X7_takesPerson G [vr 1 v 0, vr 16 0 0] m (pi (tkP v m (okPer A (m 16 0 0)) (upPer A (m 16 0 0)))) := by
  refine E_X7_takesPerson (fun X hX hR0 _ _ => ?_)
  refine J_aloadN hX rfl rfl dX7_takesPerson_0 ?_
  refine cV0w hX cb_X7_freePart mL_X7_111 dX7_takesPerson_1 (c_freePart hR) ?_
  have e1 := hR.1.2.1
  have hi := hI.1
  have hfc := fpA_cases A (-1)
  rw [show fstI (fun i => ¬ aIs A i) (-1) 0 24 = fpA A (-1) from rfl]
  refine siN_2 hX dX7_takesPerson_4 ?_
  refine J_aloadN hX rfl rfl dX7_takesPerson_5 ?_
  refine G_Village_personCount hX dX7_takesPerson_6 mF_X7_44 ?_
  refine J_bipush hX (by decide) dX7_takesPerson_9 ?_
  refine J_icmp_ge (tgt := 18) hX (by decide) dX7_takesPerson_11 (fun h1 => ?_) (fun h1 => ?_)
  · refine J_iconst hX (by decide) dX7_takesPerson_18 ?_
    exact J_zret hX hR0 dX7_takesPerson_19 (Or.inl rfl) (tkP.n (fun q => by have := q.2.2.1; omega) FrV.rf)
  · refine J_iloadN hX rfl rfl dX7_takesPerson_14 ?_
    refine J_if_ge (tgt := 20) hX (by decide) dX7_takesPerson_15 (fun h2 => ?_) (fun h2 => ?_)
    · refine J_aloadN hX rfl rfl dX7_takesPerson_20 ?_
      refine J_iconst hX (by decide) dX7_takesPerson_21 ?_
      refine L_16 hX (by omega) dX7_takesPerson_22 ?_
      refine siN_3 hX dX7_takesPerson_23 ?_
      refine J_iloadN hX rfl rfl dX7_takesPerson_24 ?_
      refine J_iconst hX (by decide) dX7_takesPerson_25 ?_
      have hfp : inN (fpA A (-1)) 24 := by
        rcases hfc with ⟨q, -⟩ | ⟨q, -⟩
        · omega
        · exact q
      refine J_icmp_lt (tgt := 35) hX (by decide) dX7_takesPerson_26 (fun h3 => ?_) (fun h3 => ?_)
      · refine J_iconst hX (by decide) dX7_takesPerson_35 ?_
        exact J_zret hX hR0 dX7_takesPerson_36 (Or.inl rfl) (tkP.n (fun q => by have := q.2.1; omega) FrV.rf)
      · refine J_iloadN hX rfl rfl dX7_takesPerson_29 ?_
        refine J_bipush hX (by decide) dX7_takesPerson_30 ?_
        refine J_icmp_le (tgt := 37) hX (by decide) dX7_takesPerson_32 (fun h4 => ?_) (fun h4 => ?_)
        · refine J_iconst hX (by decide) dX7_takesPerson_37 ?_
          refine si_4 hX dX7_takesPerson_38 ?_
          have eM : m = upr m 10 v (A 1) (m 10 v (A 1)) := by
            funext t' v' i'
            unfold upr
            split
            · rename_i h; rw [h.1, h.2.1, h.2.2]
            · rfl
          have := l_takesPerson hX hR0 hR hI (by omega) hfp ⟨h3, h4⟩ 0 (by omega) (by omega) (m 10 v (A 1)) (fun k hk => by omega)
          rw [← eM] at this
          exact this
        · refine J_iconst hX (by decide) dX7_takesPerson_35 ?_
          exact J_zret hX hR0 dX7_takesPerson_36 (Or.inl rfl) (tkP.n (fun q => by have := q.2.1; omega) FrV.rf)
    · refine J_iconst hX (by decide) dX7_takesPerson_18 ?_
      exact J_zret hX hR0 dX7_takesPerson_19 (Or.inl rfl) (tkP.n (fun q => by have := q.2.2.2; omega) FrV.rf)
theorem upr_self (m : HM) (t : Nat) (v i : Int) : upr m t v i (m t v i) = m := by
  funext t' v' i'
  unfold upr
  split
  · rename_i h; rw [h.1, h.2.1, h.2.2]
  · rfl
theorem l_takesWork (hX : Ok_X7_takesWork G X 3) (hR0 : JRt G X (pi (tkP v m (okWo A (m 16 0 0)) (upWo A (m 16 0 0)))) (some .boolean)) (hR : RelV m v A) (hI : InvA A C D) (h6 : A 2 < 6) (hp : m 16 0 0 1 < A 0) : ∀ i, 0 ≤ i → i ≤ 3 → ∀ g : Int → Int, (∀ k, inN k i → g k = m 16 0 0 (2 + k) ∧ m 16 0 0 (2 + k) ≤ 200) → J G X 33 [vr 1 v 0, vr 16 0 0, vr 11 v (A 2), vi i] [] (upr m 12 v (A 2) g) := by
  refine up_to (fun i h1 h2 ih g hg => ?_)
  have hi := hI.1
  have e16 : ∀ g, upr m 12 v (A 2) g 16 0 0 = m 16 0 0 := fun g => upr_tag (by decide)
  refine J_iloadN hX rfl rfl dX7_takesWork_33 ?_
  refine J_iconst hX (by decide) dX7_takesWork_34 ?_
  refine J_icmp_ge (tgt := 68) hX (by decide) dX7_takesWork_35 (fun h3 => ?_) (fun h3 => ?_)
  · have e3 : i = 3 := by omega
    subst e3
    refine J_aloadN hX rfl rfl dX7_takesWork_68 ?_
    refine J_aloadN hX rfl rfl dX7_takesWork_69 ?_
    refine J_iconst hX (by decide) dX7_takesWork_70 ?_
    refine L_16 hX (by omega) dX7_takesWork_71 ?_
    refine P_Work_kind hX dX7_takesWork_72 mF_X7_127 ?_
    refine J_aloadN hX rfl rfl dX7_takesWork_75 ?_
    refine J_aloadN hX rfl rfl dX7_takesWork_76 ?_
    refine J_iconst hX (by decide) dX7_takesWork_77 ?_
    refine L_16 hX (by omega) dX7_takesWork_78 ?_
    refine P_Work_place hX dX7_takesWork_79 mF_X7_107 ?_
    refine J_aloadN hX rfl rfl dX7_takesWork_82 ?_
    refine J_aloadN hX rfl rfl dX7_takesWork_83 ?_
    refine J_iconst hX (by decide) dX7_takesWork_84 ?_
    refine L_16 hX (by omega) dX7_takesWork_85 ?_
    refine P_Work_worth hX dX7_takesWork_86 mF_X7_130 ?_
    refine J_aloadN hX rfl rfl dX7_takesWork_89 ?_
    refine J_dup hX rfl dX7_takesWork_90 ?_
    refine G_Village_workCount hX dX7_takesWork_91 mF_X7_47 ?_
    simp only [upr_t, Nat.reduceBEq, hR.1.2.2]
    refine J_iconst hX (by decide) dX7_takesWork_94 ?_
    refine J_iadd hX (fun _ _ => by omega) dX7_takesWork_95 ?_
    refine P_Village_workCount hX dX7_takesWork_96 mF_X7_47 ?_
    refine J_iconst hX (by decide) dX7_takesWork_99 ?_
    simp only [upr_t, Nat.reduceBEq, upr_upr, upr_eq]
    refine J_zret hX hR0 dX7_takesWork_100 (Or.inr rfl) ?_
    have g0 := hg 0 (by omega)
    have g1 := hg 1 (by omega)
    have g2 := hg 2 (by omega)
    have hok : okWo A (m 16 0 0) := ⟨hp, h6, g0.2, g1.2, g2.2⟩
    refine tkP.y hok (((FrV.rf.up (by decide)).up (by decide)).up (by decide)) (RelV_wo hR hI hok ?_ ?_ ?_ ?_ ?_ ?_ ?_ ?_ ?_)
    · simp only [upr_t, Nat.reduceBEq, upr_eq]
    · intro i; simp only [upr_t, Nat.reduceBEq]
    · intro i; simp only [upr_t, Nat.reduceBEq]
    · intro i; simp only [upr_t, Nat.reduceBEq]
    · intro p hp; simp only [upr_t, Nat.reduceBEq, upr_i hp]
    · simp only [upr_t, Nat.reduceBEq, upr_eq]
      exact ⟨rfl, rfl, rfl⟩
    · intro p hp; simp only [upr_t, Nat.reduceBEq, upr_i hp]
    · intro k hk; simp only [upr_t, Nat.reduceBEq, upr_eq]; exact (hg k hk).1
    · intro i; simp only [upr_t, Nat.reduceBEq]
  · refine J_aloadN hX rfl rfl dX7_takesWork_38 ?_
    refine J_iconst hX (by decide) dX7_takesWork_39 ?_
    refine J_iloadN hX rfl rfl dX7_takesWork_40 ?_
    refine J_iadd hX (fun _ _ => by omega) dX7_takesWork_41 ?_
    refine L_16 hX (by omega) dX7_takesWork_42 ?_
    refine J_sipush hX (by decide) dX7_takesWork_43 ?_
    rw [e16]
    refine J_icmp_le (tgt := 51) hX (by decide) dX7_takesWork_46 (fun h4 => ?_) (fun h4 => ?_)
    · refine J_aloadN hX rfl rfl dX7_takesWork_51 ?_
      refine G_Work_needs hX dX7_takesWork_52 mF_X7_124 ?_
      refine J_iloadN hX rfl rfl dX7_takesWork_55 ?_
      refine J_aloadN hX rfl rfl dX7_takesWork_56 ?_
      refine J_iconst hX (by decide) dX7_takesWork_57 ?_
      refine J_iloadN hX rfl rfl dX7_takesWork_58 ?_
      refine J_iadd hX (fun _ _ => by omega) dX7_takesWork_59 ?_
      refine L_16 hX (by omega) dX7_takesWork_60 ?_
      rw [e16]
      refine S_12 hX (by omega) dX7_takesWork_61 ?_
      refine sinc_3 hX (fun _ => by omega) dX7_takesWork_62 ?_
      refine J_goto (tgt := 33) hX (by decide) dX7_takesWork_65 ?_
      rw [upr_upr, upr_eq]
      exact ih h3 _ (fun k hk => by
        by_cases q : k = i
        · subst q; rw [st1_eq]; exact ⟨rfl, h4⟩
        · rw [st1_ne q]; exact hg k (by omega))
    · refine J_iconst hX (by decide) dX7_takesWork_49 ?_
      refine J_zret hX hR0 dX7_takesWork_50 (Or.inl rfl) ?_
      refine tkP.n (fun q => ?_) (FrV.rf.up (by decide))
      have q1 := q.2.2
      rcases (show i = 0 ∨ i = 1 ∨ i = 2 by omega) with rfl | rfl | rfl
      · rw [Int.add_zero] at h4; omega
      · have : (2 : Int) + 1 = 3 := rfl
        rw [this] at h4; omega
      · have : (2 : Int) + 2 = 4 := rfl
        rw [this] at h4; omega
theorem c_takesWork (hR : RelV m v A) (hI : InvA A C D) (hf : 0 ≤ m 16 0 0 1) : K_X7_takesWork G [vr 1 v 0, vr 16 0 0] m (pi (tkP v m (okWo A (m 16 0 0)) (upWo A (m 16 0 0)))) := by
  refine E_X7_takesWork (fun X hX hR0 _ _ => ?_)
  have e2 := hR.1.2.2
  have hi := hI.1
  refine J_aloadN hX rfl rfl dX7_takesWork_0 ?_
  refine G_Village_workCount hX dX7_takesWork_1 mF_X7_47 ?_
  refine J_bipush hX (by decide) dX7_takesWork_4 ?_
  refine J_icmp_ge (tgt := 19) hX (by decide) dX7_takesWork_6 (fun h1 => ?_) (fun h1 => ?_)
  · refine J_iconst hX (by decide) dX7_takesWork_19 ?_
    exact J_zret hX hR0 dX7_takesWork_20 (Or.inl rfl) (tkP.n (fun q => by have := q.2.1; omega) FrV.rf)
  · refine J_aloadN hX rfl rfl dX7_takesWork_9 ?_
    refine J_aloadN hX rfl rfl dX7_takesWork_10 ?_
    refine J_iconst hX (by decide) dX7_takesWork_11 ?_
    refine L_16 hX (by omega) dX7_takesWork_12 ?_
    refine cV1w hX cb_X7_hasPlace mL_X7_108 dX7_takesWork_13 (c_hasPlace hR) ?_
    refine J_ifb_ne (tgt := 21) hX (by decide) dX7_takesWork_16 (fun h2 => ?_) (fun h2 => ?_)
    · refine J_aloadN hX rfl rfl dX7_takesWork_21 ?_
      refine G_Village_works hX dX7_takesWork_22 mF_X7_31 ?_
      refine J_aloadN hX rfl rfl dX7_takesWork_25 ?_
      refine G_Village_workCount hX dX7_takesWork_26 mF_X7_47 ?_
      refine A_7 hX (by omega) dX7_takesWork_29 ?_
      rw [e2]
      refine saN_2 hX dX7_takesWork_30 ?_
      refine J_iconst hX (by decide) dX7_takesWork_31 ?_
      refine siN_3 hX dX7_takesWork_32 ?_
      have := l_takesWork hX hR0 hR hI (by omega) h2.2 0 (by omega) (by omega) (m 12 v (A 2)) (fun k hk => by omega)
      rw [upr_self] at this
      exact this
    · refine J_iconst hX (by decide) dX7_takesWork_19 ?_
      exact J_zret hX hR0 dX7_takesWork_20 (Or.inl rfl) (tkP.n (fun q => h2 ⟨hf, q.1⟩) FrV.rf)
def okS (A : Int → Int) (c : Int) (f : Int → Int) : Prop := (c = 110 ∧ okPl A (f 0)) ∨ (c = 119 ∧ okWay A (f 0) (f 1) (f 2)) ∨ (c = 112 ∧ okPer A f) ∨ (c = 107 ∧ okWo A f)
noncomputable def upS (A : Int → Int) (c : Int) (f : Int → Int) : Int → Int := if c = 110 then upPl A (f 0) else if c = 119 then upWay A (f 0) (f 1) (f 2) else if c = 112 then upPer A f else upWo A f
theorem c_takesStatement (hR : RelV m v A) (hI : InvA A C D) (hf : ∀ k, inN k 6 → 0 ≤ m 16 0 0 k) (hc : x = 110 ∨ x = 119 ∨ x = 112 ∨ x = 107) : K_X7_takesStatement G [vr 1 v 0, vi x, vr 16 0 0] m (pi (tkP v m (okS A x (m 16 0 0)) (upS A x (m 16 0 0)))) := by
  refine E_X7_takesStatement (fun X hX hR0 _ _ => ?_)
  rcases hc with rfl | rfl | rfl | rfl
  · refine J_iloadN hX rfl rfl dX7_takesStatement_0 ?_
    refine J_lookup (off := 43) (tgt := 44) hX rfl (by decide +kernel) (by decide) dX7_takesStatement_1 ?_
    refine J_aloadN hX rfl rfl dX7_takesStatement_44 ?_
    refine J_aloadN hX rfl rfl dX7_takesStatement_45 ?_
    refine J_iconst hX (by decide) dX7_takesStatement_46 ?_
    refine L_16 hX (by omega) dX7_takesStatement_47 ?_
    refine cV1i hX cb_X7_takesPlaces mL_X7_83 dX7_takesStatement_48 (c_takesPlaces hR hI) (fun r m' h => ?_)
    exact J_zret hX hR0 dX7_takesStatement_51 (tkP.r h ) ( ⟨r, rfl, h.1, h.2.imp (fun q => ⟨q.1, Or.inl ⟨rfl, q.2.1⟩, q.2.2⟩) (fun q => ⟨q.1, fun e => q.2 (by simpa [okS] using e)⟩)⟩)
  · skip
    refine J_iloadN hX rfl rfl dX7_takesStatement_0 ?_
    refine J_lookup (off := 51) (tgt := 52) hX rfl (by decide +kernel) (by decide) dX7_takesStatement_1 ?_
    refine J_aloadN hX rfl rfl dX7_takesStatement_52 ?_
    refine J_aloadN hX rfl rfl dX7_takesStatement_53 ?_
    refine J_iconst hX (by decide) dX7_takesStatement_54 ?_
    refine L_16 hX (by omega) dX7_takesStatement_55 ?_
    refine J_aloadN hX rfl rfl dX7_takesStatement_56 ?_
    refine J_iconst hX (by decide) dX7_takesStatement_57 ?_
    refine L_16 hX (by omega) dX7_takesStatement_58 ?_
    refine J_aloadN hX rfl rfl dX7_takesStatement_59 ?_
    refine J_iconst hX (by decide) dX7_takesStatement_60 ?_
    refine L_16 hX (by omega) dX7_takesStatement_61 ?_
    refine cV3i hX cb_X7_takesWay mL_X7_86 dX7_takesStatement_62 (c_takesWay hR hI ⟨hf 0 (by omega), hf 1 (by omega)⟩) (fun r m' h => ?_)
    exact J_zret hX hR0 dX7_takesStatement_65 (tkP.r h ) ( ⟨r, rfl, h.1, h.2.imp (fun q => ⟨q.1, Or.inr (Or.inl ⟨rfl, q.2.1⟩), q.2.2⟩) (fun q => ⟨q.1, fun e => q.2 (by simpa [okS] using e)⟩)⟩)
  · skip
    refine J_iloadN hX rfl rfl dX7_takesStatement_0 ?_
    refine J_lookup (off := 65) (tgt := 66) hX rfl (by decide +kernel) (by decide) dX7_takesStatement_1 ?_
    refine J_aloadN hX rfl rfl dX7_takesStatement_66 ?_
    refine J_aloadN hX rfl rfl dX7_takesStatement_67 ?_
    refine cV1i hX cb_X7_takesPerson mL_X7_90 dX7_takesStatement_68 (c_takesPerson hR hI) (fun r m' h => ?_)
    exact J_zret hX hR0 dX7_takesStatement_71 (tkP.r h ) ( ⟨r, rfl, h.1, h.2.imp (fun q => ⟨q.1, Or.inr (Or.inr (Or.inl ⟨rfl, q.2.1⟩)), q.2.2⟩) (fun q => ⟨q.1, fun e => q.2 (by simpa [okS] using e)⟩)⟩)
  · skip
    refine J_iloadN hX rfl rfl dX7_takesStatement_0 ?_
    refine J_lookup (off := 71) (tgt := 72) hX rfl (by decide +kernel) (by decide) dX7_takesStatement_1 ?_
    refine J_aloadN hX rfl rfl dX7_takesStatement_72 ?_
    refine J_aloadN hX rfl rfl dX7_takesStatement_73 ?_
    refine cV1i hX cb_X7_takesWork mL_X7_94 dX7_takesStatement_74 (c_takesWork hR hI (hf 1 (by omega))) (fun r m' h => ?_)
    exact J_zret hX hR0 dX7_takesStatement_77 (tkP.r h ) ( ⟨r, rfl, h.1, h.2.imp (fun q => ⟨q.1, Or.inr (Or.inr (Or.inr ⟨rfl, q.2.1⟩)), q.2.2⟩) (fun q => ⟨q.1, fun e => q.2 (by simpa [okS] using e)⟩)⟩)
end Vil
