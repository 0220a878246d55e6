/-! ===== 10b: the village's sums, what is in use ===== -/
section Vil
variable {G : GC} {X : JX} {Post : Option HV → HM → Prop} {m : HM} {v x y : Int} {A : Int → Int} {C D : Int}
theorem l_twelfthsOf (hX : Ok_X7_twelfthsOf G X 4) (hR0 : JRt G X (pw (vi (sumI (twA A x) 24)) m) (some .int)) (hR : RelV m v A) (hI : InvA A C D) : ∀ i, 0 ≤ i → i ≤ 24 → ∀ c, c = sumI (twA A x) i → J G X 4 [vr 1 v 0, vi x, vi c, vi i] [] m := by
  refine up_to (fun i h1 h2 ih c hc => ?_)
  have hb := sumI_b (f := twA A x) (n := i) (lo := 0) (hi := 12) h1 (fun j _ _ => twA_b hI)
  refine J_iloadN hX rfl rfl dX7_twelfthsOf_4 ?_
  refine J_bipush hX (by decide) dX7_twelfthsOf_5 ?_
  refine J_icmp_ge (tgt := 37) hX (by decide) dX7_twelfthsOf_7 (fun h3 => ?_) (fun h3 => ?_)
  · refine J_iloadN hX rfl rfl dX7_twelfthsOf_37 ?_
    exact J_iret hX hR0 dX7_twelfthsOf_38 (pwI (by rw [hc, show i = 24 by omega]))
  · refine J_aloadN hX rfl rfl dX7_twelfthsOf_10 ?_
    refine J_iloadN hX rfl rfl dX7_twelfthsOf_11 ?_
    refine J_iloadN hX rfl rfl dX7_twelfthsOf_12 ?_
    refine cV2w hX cb_X7_isPartOf mL_X7_76 dX7_twelfthsOf_13 (c_isPartOf hR) ?_
    refine J_ifb_eq (tgt := 31) hX (by decide) dX7_twelfthsOf_16 (fun h4 => ?_) (fun h4 => ?_)
    · refine sinc_3 hX (fun _ => by omega) dX7_twelfthsOf_31 ?_
      refine J_goto (tgt := 4) hX (by decide) dX7_twelfthsOf_34 ?_
      exact ih h3 _ (by rw [sumI_s h1, hc]; unfold twA; rw [ifP_neg h4, Int.add_zero])
    · have e := (hR.part h4.1).2.1
      have hs := hI.share h4.1
      refine J_iloadN hX rfl rfl dX7_twelfthsOf_19 ?_
      refine J_aloadN hX rfl rfl dX7_twelfthsOf_20 ?_
      refine G_Village_parts hX dX7_twelfthsOf_21 mF_X7_37 ?_
      refine J_iloadN hX rfl rfl dX7_twelfthsOf_24 ?_
      refine A_8 hX (⟨h1, h3⟩) dX7_twelfthsOf_25 ?_
      refine G_Part_twelfths hX dX7_twelfthsOf_26 mF_X7_66 ?_
      refine J_iadd hX (fun _ _ => by omega) dX7_twelfthsOf_29 ?_
      refine siN_2 hX dX7_twelfthsOf_30 ?_
      refine sinc_3 hX (fun _ => by omega) dX7_twelfthsOf_31 ?_
      refine J_goto (tgt := 4) hX (by decide) dX7_twelfthsOf_34 ?_
      exact ih h3 _ (by rw [sumI_s h1, hc, e]; unfold twA; rw [ifP_pos h4])
theorem c_twelfthsOf (hR : RelV m v A) (hI : InvA A C D) : K_X7_twelfthsOf G [vr 1 v 0, vi x] m (pw (vi (sumI (twA A x) 24)) m) := by
  refine E_X7_twelfthsOf (fun X hX hR0 _ _ => ?_)
  refine J_iconst hX (by decide) dX7_twelfthsOf_0 ?_
  refine siN_2 hX dX7_twelfthsOf_1 ?_
  refine J_iconst hX (by decide) dX7_twelfthsOf_2 ?_
  refine siN_3 hX dX7_twelfthsOf_3 ?_
  exact l_twelfthsOf hX hR0 hR hI 0 (by omega) (by omega) _ (sumI_0 _).symm
theorem l_partsAway (hX : Ok_X7_partsAway G X 4) (hR0 : JRt G X (pw (vi (cntI (fun i => aOf A i x ∧ aP A i 2 ≠ 0) 24)) m) (some .int)) (hR : RelV m v A) : ∀ i, 0 ≤ i → i ≤ 24 → ∀ c, c = cntI (fun i => aOf A i x ∧ aP A i 2 ≠ 0) i → J G X 4 [vr 1 v 0, vi x, vi c, vi i] [] m := by
  refine up_to (fun i h1 h2 ih c hc => ?_)
  have hb := cntI_b (P := fun i => aOf A i x ∧ aP A i 2 ≠ 0) h1
  refine J_iloadN hX rfl rfl dX7_partsAway_4 ?_
  refine J_bipush hX (by decide) dX7_partsAway_5 ?_
  refine J_icmp_ge (tgt := 40) hX (by decide) dX7_partsAway_7 (fun h3 => ?_) (fun h3 => ?_)
  · refine J_iloadN hX rfl rfl dX7_partsAway_40 ?_
    exact J_iret hX hR0 dX7_partsAway_41 (pwI (by rw [hc, show i = 24 by omega]))
  · refine J_aloadN hX rfl rfl dX7_partsAway_10 ?_
    refine J_iloadN hX rfl rfl dX7_partsAway_11 ?_
    refine J_iloadN hX rfl rfl dX7_partsAway_12 ?_
    refine cV2w hX cb_X7_isPartOf mL_X7_76 dX7_partsAway_13 (c_isPartOf hR) ?_
    refine J_ifb_eq (tgt := 34) hX (by decide) dX7_partsAway_16 (fun h4 => ?_) (fun h4 => ?_)
    · refine sinc_3 hX (fun _ => by omega) dX7_partsAway_34 ?_
      refine J_goto (tgt := 4) hX (by decide) dX7_partsAway_37 ?_
      exact ih h3 _ (by rw [cntI_f h1 (fun q => h4 q.1), hc])
    · have e := (hR.part h4.1).2.2.1
      refine J_aloadN hX rfl rfl dX7_partsAway_19 ?_
      refine G_Village_parts hX dX7_partsAway_20 mF_X7_37 ?_
      refine J_iloadN hX rfl rfl dX7_partsAway_23 ?_
      refine A_8 hX (⟨h1, h3⟩) dX7_partsAway_24 ?_
      refine G_Part_place hX dX7_partsAway_25 mF_X7_80 ?_
      refine J_if_eq (tgt := 34) hX (by decide) dX7_partsAway_28 (fun h5 => ?_) (fun h5 => ?_)
      · refine sinc_3 hX (fun _ => by omega) dX7_partsAway_34 ?_
        refine J_goto (tgt := 4) hX (by decide) dX7_partsAway_37 ?_
        exact ih h3 _ (by rw [cntI_f h1 (fun q => q.2 (by rw [← e]; exact h5)), hc])
      · refine sinc_2 hX (fun _ => by omega) dX7_partsAway_31 ?_
        refine sinc_3 hX (fun _ => by omega) dX7_partsAway_34 ?_
        refine J_goto (tgt := 4) hX (by decide) dX7_partsAway_37 ?_
        exact ih h3 _ (by rw [cntI_t h1 ⟨h4, by rw [← e]; exact h5⟩, hc])
theorem c_partsAway (hR : RelV m v A) : K_X7_partsAway G [vr 1 v 0, vi x] m (pw (vi (cntI (fun i => aOf A i x ∧ aP A i 2 ≠ 0) 24)) m) := by
  refine E_X7_partsAway (fun X hX hR0 _ _ => ?_)
  refine J_iconst hX (by decide) dX7_partsAway_0 ?_
  refine siN_2 hX dX7_partsAway_1 ?_
  refine J_iconst hX (by decide) dX7_partsAway_2 ?_
  refine siN_3 hX dX7_partsAway_3 ?_
  exact l_partsAway hX hR0 hR 0 (by omega) (by omega) _ (cntI_0 _).symm
theorem l_twelfthsAway (hX : Ok_X7_twelfthsAway G X 4) (hR0 : JRt G X (pw (vi (sumI (twW A x) 24)) m) (some .int)) (hR : RelV m v A) (hI : InvA A C D) : ∀ i, 0 ≤ i → i ≤ 24 → ∀ c, c = sumI (twW A x) i → J G X 4 [vr 1 v 0, vi x, vi c, vi i] [] m := by
  refine up_to (fun i h1 h2 ih c hc => ?_)
  have hb := sumI_b (f := twW A x) (n := i) (lo := 0) (hi := 12) h1 (fun j _ _ => by have a := twW_b (p := x) (i := j) hI; have b := twA_b (p := x) (i := j) hI; omega)
  refine J_iloadN hX rfl rfl dX7_twelfthsAway_4 ?_
  refine J_bipush hX (by decide) dX7_twelfthsAway_5 ?_
  refine J_icmp_ge (tgt := 49) hX (by decide) dX7_twelfthsAway_7 (fun h3 => ?_) (fun h3 => ?_)
  · refine J_iloadN hX rfl rfl dX7_twelfthsAway_49 ?_
    exact J_iret hX hR0 dX7_twelfthsAway_50 (pwI (by rw [hc, show i = 24 by omega]))
  · refine J_aloadN hX rfl rfl dX7_twelfthsAway_10 ?_
    refine J_iloadN hX rfl rfl dX7_twelfthsAway_11 ?_
    refine J_iloadN hX rfl rfl dX7_twelfthsAway_12 ?_
    refine cV2w hX cb_X7_isPartOf mL_X7_76 dX7_twelfthsAway_13 (c_isPartOf hR) ?_
    refine J_ifb_eq (tgt := 43) hX (by decide) dX7_twelfthsAway_16 (fun h4 => ?_) (fun h4 => ?_)
    · refine sinc_3 hX (fun _ => by omega) dX7_twelfthsAway_43 ?_
      refine J_goto (tgt := 4) hX (by decide) dX7_twelfthsAway_46 ?_
      exact ih h3 _ (by rw [sumI_s h1, hc]; unfold twW; rw [ifP_neg (fun q => h4 q.1), Int.add_zero])
    · have e := (hR.part h4.1).2.2.1
      have e2 := (hR.part h4.1).2.1
      have hs := hI.share h4.1
      refine J_aloadN hX rfl rfl dX7_twelfthsAway_19 ?_
      refine G_Village_parts hX dX7_twelfthsAway_20 mF_X7_37 ?_
      refine J_iloadN hX rfl rfl dX7_twelfthsAway_23 ?_
      refine A_8 hX (⟨h1, h3⟩) dX7_twelfthsAway_24 ?_
      refine G_Part_place hX dX7_twelfthsAway_25 mF_X7_80 ?_
      refine J_if_eq (tgt := 43) hX (by decide) dX7_twelfthsAway_28 (fun h5 => ?_) (fun h5 => ?_)
      · refine sinc_3 hX (fun _ => by omega) dX7_twelfthsAway_43 ?_
        refine J_goto (tgt := 4) hX (by decide) dX7_twelfthsAway_46 ?_
        exact ih h3 _ (by rw [sumI_s h1, hc]; unfold twW; rw [ifP_neg (fun q => q.2 (by rw [← e]; exact h5)), Int.add_zero])
      · refine J_iloadN hX rfl rfl dX7_twelfthsAway_31 ?_
        refine J_aloadN hX rfl rfl dX7_twelfthsAway_32 ?_
        refine G_Village_parts hX dX7_twelfthsAway_33 mF_X7_37 ?_
        refine J_iloadN hX rfl rfl dX7_twelfthsAway_36 ?_
        refine A_8 hX (⟨h1, h3⟩) dX7_twelfthsAway_37 ?_
        refine G_Part_twelfths hX dX7_twelfthsAway_38 mF_X7_66 ?_
        refine J_iadd hX (fun _ _ => by omega) dX7_twelfthsAway_41 ?_
        refine siN_2 hX dX7_twelfthsAway_42 ?_
        refine sinc_3 hX (fun _ => by omega) dX7_twelfthsAway_43 ?_
        refine J_goto (tgt := 4) hX (by decide) dX7_twelfthsAway_46 ?_
        exact ih h3 _ (by rw [sumI_s h1, hc, e2]; unfold twW; rw [ifP_pos ⟨h4, by rw [← e]; exact h5⟩])
theorem c_twelfthsAway (hR : RelV m v A) (hI : InvA A C D) : K_X7_twelfthsAway G [vr 1 v 0, vi x] m (pw (vi (sumI (twW A x) 24)) m) := by
  refine E_X7_twelfthsAway (fun X hX hR0 _ _ => ?_)
  refine J_iconst hX (by decide) dX7_twelfthsAway_0 ?_
  refine siN_2 hX dX7_twelfthsAway_1 ?_
  refine J_iconst hX (by decide) dX7_twelfthsAway_2 ?_
  refine siN_3 hX dX7_twelfthsAway_3 ?_
  exact l_twelfthsAway hX hR0 hR hI 0 (by omega) (by omega) _ (sumI_0 _).symm
/-- so far the greatest place in use -/
def piuI (A : Int → Int) (l : Int) : Prop := (-1 ≤ l ∧ l ≤ 5) ∧ (l = -1 ∨ usedA A l)
theorem piuI.up {l z : Int} (hI : InvA A C D) (h : piuI A l) (hz : usedA A z) : piuI A (max l z) := by
  have h1 := hz.b hI
  have h2 := h.1
  refine ⟨by omega, ?_⟩
  rcases Int.le_total l z with q | q
  · rw [show max l z = z by omega]; exact Or.inr hz
  · rw [show max l z = l by omega]; exact h.2
theorem l_piu_12 (hX : Ok_X7_placesInUse G X 3) (hR : RelV m v A) (hI : InvA A C D) {i : Int} (hi : inN i 6) (K : ∀ l j, piuI A l → (∀ a b, inN a 6 → inN b 6 → 0 < aY A a b → a ≤ i → a ≤ l) → J G X 41 [vr 1 v 0, vi l, vi i, vi j] [] m) : ∀ j, 0 ≤ j → j ≤ 6 → ∀ l, piuI A l → (∀ a b, inN a 6 → inN b 6 → 0 < aY A a b → (a < i ∨ (a = i ∧ b < j)) → a ≤ l) → J G X 12 [vr 1 v 0, vi l, vi i, vi j] [] m := by
  refine up_to (fun j h1 h2 ih l hl hs => ?_)
  refine J_iloadN hX rfl rfl dX7_placesInUse_12 ?_
  refine J_bipush hX (by decide) dX7_placesInUse_13 ?_
  refine J_icmp_ge (tgt := 41) hX (by decide) dX7_placesInUse_15 (fun h3 => ?_) (fun h3 => ?_)
  · exact K l j hl (fun a b ha hb h0 hle => hs a b ha hb h0 (by omega))
  · refine J_aloadN hX rfl rfl dX7_placesInUse_18 ?_
    refine G_Village_ways hX dX7_placesInUse_19 mF_X7_17 ?_
    refine J_iloadN hX rfl rfl dX7_placesInUse_22 ?_
    refine A_2 hX (⟨hi.1, hi.2⟩) dX7_placesInUse_23 ?_
    refine J_iloadN hX rfl rfl dX7_placesInUse_24 ?_
    refine L_3 hX (by omega) dX7_placesInUse_25 ?_
    have e := hR.2.1 i j hi ⟨h1, h3⟩
    refine J_if_le (tgt := 35) hX (by decide) dX7_placesInUse_26 (fun h4 => ?_) (fun h4 => ?_)
    · refine sinc_3 hX (fun _ => by omega) dX7_placesInUse_35 ?_
      refine J_goto (tgt := 12) hX (by decide) dX7_placesInUse_38 ?_
      exact ih h3 l hl (fun a b ha hb h0 hlt => by
        by_cases hab : a = i ∧ b = j
        · rw [hab.1, hab.2] at h0; omega
        · exact hs a b ha hb h0 (by omega))
    · refine J_iloadN hX rfl rfl dX7_placesInUse_29 ?_
      refine J_iloadN hX rfl rfl dX7_placesInUse_30 ?_
      refine J_mmax hX rfl (by decide) (Nat.le_of_ble_eq_true rfl) dX7_placesInUse_31 mL_X7_101 ?_
      refine siN_1 hX dX7_placesInUse_34 ?_
      refine sinc_3 hX (fun _ => by omega) dX7_placesInUse_35 ?_
      refine J_goto (tgt := 12) hX (by decide) dX7_placesInUse_38 ?_
      exact ih h3 _ (hl.up hI (Or.inl ⟨i, j, hi, ⟨h1, h3⟩, by omega, rfl⟩)) (fun a b ha hb h0 hlt => by
        by_cases hab : a = i
        · omega
        · have := hs a b ha hb h0 (by omega)
          omega)
theorem l_piu_4 (hX : Ok_X7_placesInUse G X 3) (hR : RelV m v A) (hI : InvA A C D) (K : ∀ l b, piuI A l → (∀ a b, inN a 6 → inN b 6 → 0 < aY A a b → a ≤ l) → J G X 47 [vr 1 v 0, vi l, vi 6, b] [] m) : ∀ i, 0 ≤ i → i ≤ 6 → ∀ l b, piuI A l → (∀ a b, inN a 6 → inN b 6 → 0 < aY A a b → a < i → a ≤ l) → J G X 4 [vr 1 v 0, vi l, vi i, b] [] m := by
  refine up_to (fun i h1 h2 ih l b hl hs => ?_)
  refine J_iloadN hX rfl rfl dX7_placesInUse_4 ?_
  refine J_bipush hX (by decide) dX7_placesInUse_5 ?_
  refine J_icmp_ge (tgt := 47) hX (by decide) dX7_placesInUse_7 (fun h3 => ?_) (fun h3 => ?_)
  · rw [show i = 6 by omega]
    exact K l b hl (fun a b ha hb h0 => hs a b ha hb h0 (by omega))
  · refine J_iconst hX (by decide) dX7_placesInUse_10 ?_
    refine siN_3 hX dX7_placesInUse_11 ?_
    refine l_piu_12 hX hR hI ⟨h1, h3⟩ (fun l' j' hl' hs' => ?_) 0 (by omega) (by omega) l hl (fun a b ha hb h0 hlt => hs a b ha hb h0 (by omega))
    refine sinc_2 hX (fun _ => by omega) dX7_placesInUse_41 ?_
    refine J_goto (tgt := 4) hX (by decide) dX7_placesInUse_44 ?_
    exact ih h3 l' _ hl' (fun a b ha hb h0 hlt => hs' a b ha hb h0 (by omega))
theorem l_piu_49 (hX : Ok_X7_placesInUse G X 3) (hR : RelV m v A) (hI : InvA A C D) {b : HV} {l0 : Int} (K : ∀ l w, piuI A l → (∀ w, inN w (A 2) → aW A w 1 ≤ l) → l0 ≤ l → J G X 77 [vr 1 v 0, vi l, vi w, b] [] m) : ∀ w, 0 ≤ w → w ≤ A 2 → ∀ l, l0 ≤ l → piuI A l → (∀ w', inN w' w → aW A w' 1 ≤ l) → J G X 49 [vr 1 v 0, vi l, vi w, b] [] m := by
  refine up_to (fun w h1 h2 ih l h0 hl hs => ?_)
  have e := hR.1.2.2
  refine J_iloadN hX rfl rfl dX7_placesInUse_49 ?_
  refine J_aloadN hX rfl rfl dX7_placesInUse_50 ?_
  refine G_Village_workCount hX dX7_placesInUse_51 mF_X7_47 ?_
  refine J_icmp_ge (tgt := 77) hX (by decide) dX7_placesInUse_54 (fun h3 => ?_) (fun h3 => ?_)
  · exact K l w hl (fun w' hw' => hs w' (by omega)) h0
  · have e2 := (hR.2.2.2.1 w ⟨h1, by omega⟩).2.1
    have hi := hI.1
    refine J_iloadN hX rfl rfl dX7_placesInUse_57 ?_
    refine J_aloadN hX rfl rfl dX7_placesInUse_58 ?_
    refine G_Village_works hX dX7_placesInUse_59 mF_X7_31 ?_
    refine J_iloadN hX rfl rfl dX7_placesInUse_62 ?_
    refine A_7 hX (by omega) dX7_placesInUse_63 ?_
    refine G_Work_place hX dX7_placesInUse_64 mF_X7_107 ?_
    refine J_mmax hX rfl (by decide) (Nat.le_of_ble_eq_true rfl) dX7_placesInUse_67 mL_X7_101 ?_
    refine siN_1 hX dX7_placesInUse_70 ?_
    refine sinc_2 hX (fun _ => by omega) dX7_placesInUse_71 ?_
    refine J_goto (tgt := 49) hX (by decide) dX7_placesInUse_74 ?_
    rw [e2]
    exact ih (by omega) _ (by omega) (hl.up hI (Or.inr (Or.inl ⟨w, ⟨h1, by omega⟩, rfl⟩))) (fun w' hw' => by
      by_cases q : w' = w
      · rw [q]; omega
      · have := hs w' (by omega)
        omega)
theorem l_piu_79 (hX : Ok_X7_placesInUse G X 3) (hR : RelV m v A) (hI : InvA A C D) {b : HV} {l0 : Int} (K : ∀ l w, piuI A l → (∀ i, aIs A i → aP A i 2 ≤ l) → l0 ≤ l → J G X 113 [vr 1 v 0, vi l, vi w, b] [] m) : ∀ i, 0 ≤ i → i ≤ 24 → ∀ l, l0 ≤ l → piuI A l → (∀ j, j < i → aIs A j → aP A j 2 ≤ l) → J G X 79 [vr 1 v 0, vi l, vi i, b] [] m := by
  refine up_to (fun i h1 h2 ih l h0 hl hs => ?_)
  refine J_iloadN hX rfl rfl dX7_placesInUse_79 ?_
  refine J_bipush hX (by decide) dX7_placesInUse_80 ?_
  refine J_icmp_ge (tgt := 113) hX (by decide) dX7_placesInUse_82 (fun h3 => ?_) (fun h3 => ?_)
  · exact K l i hl (fun j hj => hs j (by have := hj.2.1; omega) hj) h0
  · refine J_aloadN hX rfl rfl dX7_placesInUse_85 ?_
    refine J_iloadN hX rfl rfl dX7_placesInUse_86 ?_
    refine cV1w hX cb_X7_hasPart mL_X7_69 dX7_placesInUse_87 (c_hasPart hR) ?_
    refine J_ifb_eq (tgt := 107) hX (by decide) dX7_placesInUse_90 (fun h4 => ?_) (fun h4 => ?_)
    · refine sinc_2 hX (fun _ => by omega) dX7_placesInUse_107 ?_
      refine J_goto (tgt := 79) hX (by decide) dX7_placesInUse_110 ?_
      exact ih h3 l h0 hl (fun j hj hj2 => by
        by_cases q : j = i
        · exact absurd (q ▸ hj2) h4
        · exact hs j (by omega) hj2)
    · have e2 := (hR.part h4).2.2.1
      refine J_iloadN hX rfl rfl dX7_placesInUse_93 ?_
      refine J_aloadN hX rfl rfl dX7_placesInUse_94 ?_
      refine G_Village_parts hX dX7_placesInUse_95 mF_X7_37 ?_
      refine J_iloadN hX rfl rfl dX7_placesInUse_98 ?_
      refine A_8 hX (⟨h1, h3⟩) dX7_placesInUse_99 ?_
      refine G_Part_place hX dX7_placesInUse_100 mF_X7_80 ?_
      refine J_mmax hX rfl (by decide) (Nat.le_of_ble_eq_true rfl) dX7_placesInUse_103 mL_X7_101 ?_
      refine siN_1 hX dX7_placesInUse_106 ?_
      refine sinc_2 hX (fun _ => by omega) dX7_placesInUse_107 ?_
      refine J_goto (tgt := 79) hX (by decide) dX7_placesInUse_110 ?_
      rw [e2]
      exact ih h3 _ (by omega) (hl.up hI (Or.inr (Or.inr ⟨i, h4, rfl⟩))) (fun j hj hj2 => by
        by_cases q : j = i
        · rw [q]; omega
        · have := hs j (by omega) hj2
          omega)
theorem c_placesInUse (hR : RelV m v A) (hI : InvA A C D) : K_X7_placesInUse G [vr 1 v 0] m (pi (fun r m' => m' = m ∧ (∀ x, usedA A x → x < r) ∧ (r = 0 ∨ usedA A (r - 1)))) := by
  refine E_X7_placesInUse (fun X hX hR0 _ _ => ?_)
  refine J_iconst hX (by decide) dX7_placesInUse_0 ?_
  refine siN_1 hX dX7_placesInUse_1 ?_
  refine J_iconst hX (by decide) dX7_placesInUse_2 ?_
  refine siN_2 hX dX7_placesInUse_3 ?_
  refine l_piu_4 hX hR hI (fun l b hl hs => ?_) 0 (by omega) (by omega) (-1) _ ⟨by omega, Or.inl rfl⟩ (fun a b ha hb h0 hlt => by omega)
  refine J_iconst hX (by decide) dX7_placesInUse_47 ?_
  refine siN_2 hX dX7_placesInUse_48 ?_
  refine l_piu_49 hX hR hI (fun l2 w hl2 hs2 h0 => ?_) 0 (by omega) hI.1.2.2.2.2.1 l (Int.le_refl _) hl (fun w' hw' => by omega)
  refine J_iconst hX (by decide) dX7_placesInUse_77 ?_
  refine siN_2 hX dX7_placesInUse_78 ?_
  refine l_piu_79 hX hR hI (fun l3 w3 hl3 hs3 h0' => ?_) 0 (by omega) (by omega) l2 (Int.le_refl _) hl2 (fun j hj hj2 => by have := hj2.1; omega)
  have hb := hl3.1
  refine J_iloadN hX rfl rfl dX7_placesInUse_113 ?_
  refine J_iconst hX (by decide) dX7_placesInUse_114 ?_
  refine J_iadd hX (fun _ _ => by omega) dX7_placesInUse_115 ?_
  refine J_iret hX hR0 dX7_placesInUse_116 ?_
  refine piI ⟨rfl, fun x hx => ?_, ?_⟩
  · rcases hx with ⟨i, j, h1, h2, h3, rfl⟩ | ⟨w', h1, rfl⟩ | ⟨i, h1, rfl⟩
    · have := hs _ j h1 h2 h3; omega
    · have := hs2 _ h1; omega
    · have := hs3 _ h1; omega
  · rcases hl3.2 with q | q
    · exact Or.inl (by omega)
    · exact Or.inr (by rw [show l3 + 1 - 1 = l3 by omega]; exact q)
end Vil
