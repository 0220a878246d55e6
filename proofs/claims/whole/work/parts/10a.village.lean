/-! ===== 10: the village's readers ===== -/
section Vil
variable {G : GC} {X : JX} {Post : Option HV → HM → Prop} {m : HM} {v x y : Int} {A : Int → Int} {C D : Int}
theorem c_hasPlace (hR : RelV m v A) : K_X7_hasPlace G [vr 1 v 0, vi x] m (pw (vi (bi (inN x (A 0)))) m) := by
  refine E_X7_hasPlace (fun X hX hR0 _ _ => ?_)
  have e := hR.1.1
  refine J_iloadN hX rfl rfl dX7_hasPlace_0 ?_
  refine J_if_lt (tgt := 16) hX (by decide) dX7_hasPlace_1 (fun h1 => ?_) (fun h1 => ?_)
  · refine J_iconst hX (by decide) dX7_hasPlace_16 ?_
    exact J_zret hX hR0 dX7_hasPlace_17 (Or.inl rfl) (pwb0 (fun q => by have := q.1; omega))
  · refine J_iloadN hX rfl rfl dX7_hasPlace_4 ?_
    refine J_aloadN hX rfl rfl dX7_hasPlace_5 ?_
    refine G_Village_places hX dX7_hasPlace_6 mF_X7_9 ?_
    refine J_icmp_ge (tgt := 16) hX (by decide) dX7_hasPlace_9 (fun h2 => ?_) (fun h2 => ?_)
    · refine J_iconst hX (by decide) dX7_hasPlace_16 ?_
      exact J_zret hX hR0 dX7_hasPlace_17 (Or.inl rfl) (pwb0 (fun q => by have := q.2; omega))
    · refine J_iconst hX (by decide) dX7_hasPlace_12 ?_
      refine J_goto (tgt := 17) hX (by decide) dX7_hasPlace_13 ?_
      exact J_zret hX hR0 dX7_hasPlace_17 (Or.inr rfl) (pwb1 ⟨h1, by omega⟩)
theorem c_hasPerson (hR : RelV m v A) : K_X7_hasPerson G [vr 1 v 0, vi x] m (pw (vi (bi (inN x (A 1)))) m) := by
  refine E_X7_hasPerson (fun X hX hR0 _ _ => ?_)
  have e := hR.1.2.1
  refine J_iloadN hX rfl rfl dX7_hasPerson_0 ?_
  refine J_if_lt (tgt := 16) hX (by decide) dX7_hasPerson_1 (fun h1 => ?_) (fun h1 => ?_)
  · refine J_iconst hX (by decide) dX7_hasPerson_16 ?_
    exact J_zret hX hR0 dX7_hasPerson_17 (Or.inl rfl) (pwb0 (fun q => by have := q.1; omega))
  · refine J_iloadN hX rfl rfl dX7_hasPerson_4 ?_
    refine J_aloadN hX rfl rfl dX7_hasPerson_5 ?_
    refine G_Village_personCount hX dX7_hasPerson_6 mF_X7_44 ?_
    refine J_icmp_ge (tgt := 16) hX (by decide) dX7_hasPerson_9 (fun h2 => ?_) (fun h2 => ?_)
    · refine J_iconst hX (by decide) dX7_hasPerson_16 ?_
      exact J_zret hX hR0 dX7_hasPerson_17 (Or.inl rfl) (pwb0 (fun q => by have := q.2; omega))
    · refine J_iconst hX (by decide) dX7_hasPerson_12 ?_
      refine J_goto (tgt := 17) hX (by decide) dX7_hasPerson_13 ?_
      exact J_zret hX hR0 dX7_hasPerson_17 (Or.inr rfl) (pwb1 ⟨h1, by omega⟩)
theorem c_hasWork (hR : RelV m v A) : K_X7_hasWork G [vr 1 v 0, vi x] m (pw (vi (bi (inN x (A 2)))) m) := by
  refine E_X7_hasWork (fun X hX hR0 _ _ => ?_)
  have e := hR.1.2.2
  refine J_iloadN hX rfl rfl dX7_hasWork_0 ?_
  refine J_if_lt (tgt := 16) hX (by decide) dX7_hasWork_1 (fun h1 => ?_) (fun h1 => ?_)
  · refine J_iconst hX (by decide) dX7_hasWork_16 ?_
    exact J_zret hX hR0 dX7_hasWork_17 (Or.inl rfl) (pwb0 (fun q => by have := q.1; omega))
  · refine J_iloadN hX rfl rfl dX7_hasWork_4 ?_
    refine J_aloadN hX rfl rfl dX7_hasWork_5 ?_
    refine G_Village_workCount hX dX7_hasWork_6 mF_X7_47 ?_
    refine J_icmp_ge (tgt := 16) hX (by decide) dX7_hasWork_9 (fun h2 => ?_) (fun h2 => ?_)
    · refine J_iconst hX (by decide) dX7_hasWork_16 ?_
      exact J_zret hX hR0 dX7_hasWork_17 (Or.inl rfl) (pwb0 (fun q => by have := q.2; omega))
    · refine J_iconst hX (by decide) dX7_hasWork_12 ?_
      refine J_goto (tgt := 17) hX (by decide) dX7_hasWork_13 ?_
      exact J_zret hX hR0 dX7_hasWork_17 (Or.inr rfl) (pwb1 ⟨h1, by omega⟩)
theorem c_hasPart (hR : RelV m v A) : K_X7_hasPart G [vr 1 v 0, vi x] m (pw (vi (bi (aIs A x))) m) := by
  refine E_X7_hasPart (fun X hX hR0 _ _ => ?_)
  refine J_iloadN hX rfl rfl dX7_hasPart_0 ?_
  refine J_if_lt (tgt := 26) hX (by decide) dX7_hasPart_1 (fun h1 => ?_) (fun h1 => ?_)
  · refine J_iconst hX (by decide) dX7_hasPart_26 ?_
    exact J_zret hX hR0 dX7_hasPart_27 (Or.inl rfl) (pwb0 (fun q => by have := q.1; omega))
  · refine J_iloadN hX rfl rfl dX7_hasPart_4 ?_
    refine J_bipush hX (by decide) dX7_hasPart_5 ?_
    refine J_icmp_ge (tgt := 26) hX (by decide) dX7_hasPart_7 (fun h2 => ?_) (fun h2 => ?_)
    · refine J_iconst hX (by decide) dX7_hasPart_26 ?_
      exact J_zret hX hR0 dX7_hasPart_27 (Or.inl rfl) (pwb0 (fun q => by have := q.2.1; omega))
    · refine J_aloadN hX rfl rfl dX7_hasPart_10 ?_
      refine G_Village_parts hX dX7_hasPart_11 mF_X7_37 ?_
      refine J_iloadN hX rfl rfl dX7_hasPart_14 ?_
      refine A_8 hX (by omega) dX7_hasPart_15 ?_
      refine G_Part_twelfths hX dX7_hasPart_16 mF_X7_66 ?_
      have e := hR.is (i := x) ⟨h1, h2⟩
      refine J_if_le (tgt := 26) hX (by decide) dX7_hasPart_19 (fun h3 => ?_) (fun h3 => ?_)
      · refine J_iconst hX (by decide) dX7_hasPart_26 ?_
        exact J_zret hX hR0 dX7_hasPart_27 (Or.inl rfl) (pwb0 (fun q => by have := e.mpr q.2.2; omega))
      · refine J_iconst hX (by decide) dX7_hasPart_22 ?_
        refine J_goto (tgt := 27) hX (by decide) dX7_hasPart_23 ?_
        exact J_zret hX hR0 dX7_hasPart_27 (Or.inr rfl) (pwb1 ⟨h1, h2, e.mp h3⟩)
theorem c_isPartOf (hR : RelV m v A) : K_X7_isPartOf G [vr 1 v 0, vi x, vi y] m (pw (vi (bi (aOf A x y))) m) := by
  refine E_X7_isPartOf (fun X hX hR0 _ _ => ?_)
  refine J_aloadN hX rfl rfl dX7_isPartOf_0 ?_
  refine J_iloadN hX rfl rfl dX7_isPartOf_1 ?_
  refine cV1w hX cb_X7_hasPart mL_X7_69 dX7_isPartOf_2 (c_hasPart hR) ?_
  refine J_ifb_eq (tgt := 25) hX (by decide) dX7_isPartOf_5 (fun h1 => ?_) (fun h1 => ?_)
  · refine J_iconst hX (by decide) dX7_isPartOf_25 ?_
    exact J_zret hX hR0 dX7_isPartOf_26 (Or.inl rfl) (pwb0 (fun q => h1 q.1))
  · have e := (hR.part h1).1
    refine J_aloadN hX rfl rfl dX7_isPartOf_8 ?_
    refine G_Village_parts hX dX7_isPartOf_9 mF_X7_37 ?_
    refine J_iloadN hX rfl rfl dX7_isPartOf_12 ?_
    refine A_8 hX (⟨h1.1, h1.2.1⟩) dX7_isPartOf_13 ?_
    refine G_Part_person hX dX7_isPartOf_14 mF_X7_73 ?_
    refine J_iloadN hX rfl rfl dX7_isPartOf_17 ?_
    refine J_icmp_ne (tgt := 25) hX (by decide) dX7_isPartOf_18 (fun h2 => ?_) (fun h2 => ?_)
    · refine J_iconst hX (by decide) dX7_isPartOf_25 ?_
      exact J_zret hX hR0 dX7_isPartOf_26 (Or.inl rfl) (pwb0 (fun q => by have := q.2; omega))
    · refine J_iconst hX (by decide) dX7_isPartOf_21 ?_
      refine J_goto (tgt := 26) hX (by decide) dX7_isPartOf_22 ?_
      exact J_zret hX hR0 dX7_isPartOf_26 (Or.inr rfl) (pwb1 ⟨h1, by omega⟩)
theorem l_freePart (hX : Ok_X7_freePart G X 3) (hR0 : JRt G X (pw (vi (fstI (fun i => ¬ aIs A i) (-1) 0 24)) m) (some .int)) (hR : RelV m v A) : ∀ i, 0 ≤ i → i ≤ 24 → fstI (fun i => ¬ aIs A i) (-1) 0 24 = fstI (fun i => ¬ aIs A i) (-1) i 24 → J G X 2 [vr 1 v 0, vi i] [] m := by
  refine up_to (fun i h1 h2 ih he => ?_)
  refine J_iloadN hX rfl rfl dX7_freePart_2 ?_
  refine J_bipush hX (by decide) dX7_freePart_3 ?_
  refine J_icmp_ge (tgt := 24) hX (by decide) dX7_freePart_5 (fun h3 => ?_) (fun h3 => ?_)
  · refine J_iconst hX (by decide) dX7_freePart_24 ?_
    exact J_iret hX hR0 dX7_freePart_25 (pwI (by rw [he, fstI_0 h3]))
  · refine J_aloadN hX rfl rfl dX7_freePart_8 ?_
    refine J_iloadN hX rfl rfl dX7_freePart_9 ?_
    refine cV1w hX cb_X7_hasPart mL_X7_69 dX7_freePart_10 (c_hasPart hR) ?_
    refine J_ifb_ne (tgt := 18) hX (by decide) dX7_freePart_13 (fun h4 => ?_) (fun h4 => ?_)
    · refine sinc_1 hX (fun _ => by omega) dX7_freePart_18 ?_
      refine J_goto (tgt := 2) hX (by decide) dX7_freePart_21 ?_
      exact ih h3 (by rw [he, fstI_f h3 (fun q => q h4)])
    · refine J_iloadN hX rfl rfl dX7_freePart_16 ?_
      exact J_iret hX hR0 dX7_freePart_17 (pwI (by rw [he, fstI_t h3 h4]))
theorem c_freePart (hR : RelV m v A) : K_X7_freePart G [vr 1 v 0] m (pw (vi (fstI (fun i => ¬ aIs A i) (-1) 0 24)) m) := by
  refine E_X7_freePart (fun X hX hR0 _ _ => ?_)
  refine J_iconst hX (by decide) dX7_freePart_0 ?_
  refine siN_1 hX dX7_freePart_1 ?_
  exact l_freePart hX hR0 hR 0 (by omega) (by omega) rfl
theorem l_partCount (hX : Ok_X7_partCount G X 3) (hR0 : JRt G X (pw (vi (cntI (aIs A) 24)) m) (some .int)) (hR : RelV m v A) : ∀ i, 0 ≤ i → i ≤ 24 → ∀ c, c = cntI (aIs A) i → J G X 4 [vr 1 v 0, vi c, vi i] [] m := by
  refine up_to (fun i h1 h2 ih c hc => ?_)
  have hb := cntI_b (P := aIs A) h1
  refine J_iloadN hX rfl rfl dX7_partCount_4 ?_
  refine J_bipush hX (by decide) dX7_partCount_5 ?_
  refine J_icmp_ge (tgt := 27) hX (by decide) dX7_partCount_7 (fun h3 => ?_) (fun h3 => ?_)
  · refine J_iloadN hX rfl rfl dX7_partCount_27 ?_
    exact J_iret hX hR0 dX7_partCount_28 (pwI (by rw [hc, show i = 24 by omega]))
  · refine J_aloadN hX rfl rfl dX7_partCount_10 ?_
    refine J_iloadN hX rfl rfl dX7_partCount_11 ?_
    refine cV1w hX cb_X7_hasPart mL_X7_69 dX7_partCount_12 (c_hasPart hR) ?_
    refine J_ifb_eq (tgt := 21) hX (by decide) dX7_partCount_15 (fun h4 => ?_) (fun h4 => ?_)
    · refine sinc_2 hX (fun _ => by omega) dX7_partCount_21 ?_
      refine J_goto (tgt := 4) hX (by decide) dX7_partCount_24 ?_
      exact ih h3 _ (by rw [cntI_f h1 h4, hc])
    · refine sinc_1 hX (fun _ => by omega) dX7_partCount_18 ?_
      refine sinc_2 hX (fun _ => by omega) dX7_partCount_21 ?_
      refine J_goto (tgt := 4) hX (by decide) dX7_partCount_24 ?_
      exact ih h3 _ (by rw [cntI_t h1 h4, hc])
theorem c_partCount (hR : RelV m v A) : K_X7_partCount G [vr 1 v 0] m (pw (vi (cntI (aIs A) 24)) m) := by
  refine E_X7_partCount (fun X hX hR0 _ _ => ?_)
  refine J_iconst hX (by decide) dX7_partCount_0 ?_
  refine siN_1 hX dX7_partCount_1 ?_
  refine J_iconst hX (by decide) dX7_partCount_2 ?_
  refine siN_2 hX dX7_partCount_3 ?_
  exact l_partCount hX hR0 hR 0 (by omega) (by omega) _ (cntI_0 _).symm
theorem l_partsOf (hX : Ok_X7_partsOf G X 4) (hR0 : JRt G X (pw (vi (cntI (fun i => aOf A i x) 24)) m) (some .int)) (hR : RelV m v A) : ∀ i, 0 ≤ i → i ≤ 24 → ∀ c, c = cntI (fun i => aOf A i x) i → J G X 4 [vr 1 v 0, vi x, vi c, vi i] [] m := by
  refine up_to (fun i h1 h2 ih c hc => ?_)
  have hb := cntI_b (P := fun i => aOf A i x) h1
  refine J_iloadN hX rfl rfl dX7_partsOf_4 ?_
  refine J_bipush hX (by decide) dX7_partsOf_5 ?_
  refine J_icmp_ge (tgt := 28) hX (by decide) dX7_partsOf_7 (fun h3 => ?_) (fun h3 => ?_)
  · refine J_iloadN hX rfl rfl dX7_partsOf_28 ?_
    exact J_iret hX hR0 dX7_partsOf_29 (pwI (by rw [hc, show i = 24 by omega]))
  · refine J_aloadN hX rfl rfl dX7_partsOf_10 ?_
    refine J_iloadN hX rfl rfl dX7_partsOf_11 ?_
    refine J_iloadN hX rfl rfl dX7_partsOf_12 ?_
    refine cV2w hX cb_X7_isPartOf mL_X7_76 dX7_partsOf_13 (c_isPartOf hR) ?_
    refine J_ifb_eq (tgt := 22) hX (by decide) dX7_partsOf_16 (fun h4 => ?_) (fun h4 => ?_)
    · refine sinc_3 hX (fun _ => by omega) dX7_partsOf_22 ?_
      refine J_goto (tgt := 4) hX (by decide) dX7_partsOf_25 ?_
      exact ih h3 _ (by rw [cntI_f h1 h4, hc])
    · refine sinc_2 hX (fun _ => by omega) dX7_partsOf_19 ?_
      refine sinc_3 hX (fun _ => by omega) dX7_partsOf_22 ?_
      refine J_goto (tgt := 4) hX (by decide) dX7_partsOf_25 ?_
      exact ih h3 _ (by rw [cntI_t h1 h4, hc])
theorem c_partsOf (hR : RelV m v A) : K_X7_partsOf G [vr 1 v 0, vi x] m (pw (vi (cntI (fun i => aOf A i x) 24)) m) := by
  refine E_X7_partsOf (fun X hX hR0 _ _ => ?_)
  refine J_iconst hX (by decide) dX7_partsOf_0 ?_
  refine siN_2 hX dX7_partsOf_1 ?_
  refine J_iconst hX (by decide) dX7_partsOf_2 ?_
  refine siN_3 hX dX7_partsOf_3 ?_
  exact l_partsOf hX hR0 hR 0 (by omega) (by omega) _ (cntI_0 _).symm
end Vil
