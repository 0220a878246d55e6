/-! ===== 34c: the class HalfHere: parts ===== -/
section Hf
variable {G : GC} {X : JX} {m : HM} {κ p t τ w x y z i j k q b h l n : Int} {A A' N S g F B W T R f : Int → Int} {H C D : Int}
/-- now's cells and the rooms of work change -/
def FrXV (m m' : HM) : Prop := ∀ t v i, ¬ (t = 5 ∨ (17 ≤ t ∧ t ≤ 19) ∨ t = 22 ∨ t = 27 ∨ t = 30 ∨ t = 31) → ¬ (1 ≤ t ∧ t ≤ 13 ∧ v = 0) → m' t v i = m t v i
theorem FrXV.rf : FrXV m m := fun _ _ _ _ _ => rfl
theorem FrX.toXV {m' : HM} (h : FrX m m') : FrXV m m' := fun t v i a _ => h t v i a
theorem FrXV.up {m' : HM} (h : FrXV m m') {i : Int} {f : Int → Int} : FrXV m (upr m' 13 0 i f) := fun t v' i' a b => by
  rw [upr_ne (fun q => b ⟨by omega, by omega, q.2.1⟩)]
  exact h t v' i' a b
def ptP (m : HM) (A' : Int → Int) (m' : HM) : Prop := FrXV m m' ∧ RelV m' 0 A'
theorem RelV_up (h : RelV m 0 A) (hb : A 1 ≤ 6 ∧ A 2 ≤ 6) (hi : inN i 24) (hA : ∀ k, ¬ (99 + 7 * i ≤ k ∧ k < 106 + 7 * i) → A' k = A k) (hp : (0 < f 1 ↔ 0 < aP A' i 0) ∧ (0 < aP A' i 0 → f 0 = aP A' i 0 - 1 ∧ f 1 = aP A' i 1 ∧ f 2 = aP A' i 2 ∧ f 3 = aP A' i 3 ∧ f 4 = aP A' i 4 ∧ f 5 = aP A' i 5 ∧ f 6 = aP A' i 6)) : RelV (upr m 13 0 i f) 0 A' := by
  have eY : ∀ i j, inN i 6 → inN j 6 → aY A' i j = aY A i j := fun i j a b => hA _ (by omega)
  have eG : ∀ i k, inN i 6 → inN k 4 → aG A' i k = aG A i k := fun i j a b => hA _ (by omega)
  have eW : ∀ i k, inN i 6 → inN k 6 → aW A' i k = aW A i k := fun i j a b => hA _ (by omega)
  have eP : ∀ j k, inN j 24 → j ≠ i → inN k 7 → aP A' j k = aP A j k := fun j k a b c => hA _ (by omega)
  refine ⟨?_, fun i j hi hj => ?_, fun p hp => ?_, fun w hw => ?_, fun j hj => ?_⟩
  · rw [hA 0 (by omega), hA 1 (by omega), hA 2 (by omega), upr_t rfl]
    exact h.1
  · rw [eY i j hi hj, upr_t rfl]; exact h.2.1 i j hi hj
  · rw [hA 1 (by omega)] at hp
    have := h.2.2.1 p hp
    rw [eG p 3 (by omega) (by omega), upr_t rfl, upr_t rfl]
    refine ⟨this.1, fun k hk => ?_⟩
    rw [eG p k (by omega) (by omega)]
    exact this.2 k hk
  · rw [hA 2 (by omega)] at hw
    have := h.2.2.2.1 w hw
    rw [eW w 0 (by omega) (by omega), eW w 1 (by omega) (by omega), eW w 5 (by omega) (by omega), upr_t rfl, upr_t rfl]
    refine ⟨this.1, this.2.1, this.2.2.1, fun k hk => ?_⟩
    rw [eW w (2 + k) (by omega) (by omega)]
    exact this.2.2.2 k hk
  · by_cases q : j = i
    · subst q
      rw [upr_eq]
      exact hp
    · have hpi := h.2.2.2.2 j hj
      rw [eP j 0 hj q (by omega), eP j 1 hj q (by omega), eP j 2 hj q (by omega), eP j 3 hj q (by omega), eP j 4 hj q (by omega), eP j 5 hj q (by omega), eP j 6 hj q (by omega), upr_i q]
      exact hpi
theorem aP_aSi (A : Int → Int) (i k x : Int) : aP (aS A i k x) i = st1 (aP A i) k x := by
  funext l
  unfold aP aS st1
  by_cases q : l = k
  · rw [if_pos q, if_pos (by omega)]
  · rw [if_neg q, if_neg (by omega)]
theorem aP_aSj {A : Int → Int} {i k x j l : Int} (hk : inN k 7) (hl : inN l 7) (h : j ≠ i) : aP (aS A i k x) j l = aP A j l := aS_ne (by omega)
theorem aS_out {A : Int → Int} {i k x l : Int} (hk : inN k 7) (h : ¬ (99 + 7 * i ≤ l ∧ l < 106 + 7 * i)) : aS A i k x l = A l := st1_ne (by omega)
theorem c_xlose (hR : RelV m 0 A) (hI : InvA A C D) (hf : few33 m) : K_X9_lose G [vr 0 0 0, vi i] m (pi (anX m (rfIs A i) (aP A i 1) (ptP m (aS A i 0 0)))) := by
  refine E_X9_lose (fun X hX hR0 _ _ => ?_)
  have h0 := hI.1
  refine J_aloadN hX rfl rfl dX9_lose_0 ?_
  refine G_HalfHere_now hX dX9_lose_1 mF_X9_19 ?_
  refine J_iloadN hX rfl rfl dX9_lose_4 ?_
  refine cV1w hX cb_X7_hasPart mL_X9_150 dX9_lose_5 (c_hasPart hR) ?_
  refine J_ifb_ne (tgt := 17) hX (by decide) dX9_lose_8 (fun h1 => ?_) (fun h1 => ?_)
  · obtain ⟨v0, v1, v2, v3, v4, v5, v6⟩ := hR.part h1
    have hi := h1.1
    have hi2 := h1.2.1
    refine J_aloadN hX rfl rfl dX9_lose_17 ?_
    refine G_HalfHere_now hX dX9_lose_18 mF_X9_19 ?_
    refine G_Village_parts hX dX9_lose_21 mF_X9_153 ?_
    refine J_iloadN hX rfl rfl dX9_lose_24 ?_
    refine A_8 hX (by omega) dX9_lose_25 ?_
    refine G_Part_twelfths hX dX9_lose_26 mF_X9_162 ?_
    rw [v1]
    refine siN_2 hX dX9_lose_29 ?_
    refine J_aloadN hX rfl rfl dX9_lose_30 ?_
    refine G_HalfHere_now hX dX9_lose_31 mF_X9_19 ?_
    refine G_Village_parts hX dX9_lose_34 mF_X9_153 ?_
    refine J_iloadN hX rfl rfl dX9_lose_37 ?_
    refine A_8 hX (by omega) dX9_lose_38 ?_
    refine cV0v hX cb_X2_clear mL_X9_196 dX9_lose_39 (c_Part_clear) ?_
    refine J_iloadN hX rfl rfl dX9_lose_42 ?_
    refine J_iret hX hR0 dX9_lose_43 (anX.yes (by unfold rfIs; rw [ifP_pos h1]) rfl ⟨FrXV.rf.up, RelV_up hR (by omega) ⟨hi, hi2⟩ (fun k hk => aS_out (by omega) hk) ?_⟩)
    rw [aP_aSi]
    exact ⟨⟨fun q => absurd q (show ¬ (0 : Int) < 0 by omega), fun q => absurd q (show ¬ (0 : Int) < 0 by omega)⟩, fun q => absurd q (show ¬ (0 : Int) < 0 by omega)⟩
  · refine J_aloadN hX rfl rfl dX9_lose_11 ?_
    refine J_iconst hX (by decide) dX9_lose_12 ?_
    refine cV1w hX cb_X9_refuse mL_X9_72 dX9_lose_13 (c_xrefuse (by omega) hf) ?_
    exact J_iret hX hR0 dX9_lose_16 (anX.no (by unfold rfIs; rw [ifP_neg h1]) (by decide))
theorem c_xsee (hR : RelV m 0 A) (hI : InvA A C D) (hf : few33 m) : K_X9_see G [vr 0 0 0, vi i] m (pi (anX m (rfIs A i) (pcI (seN A i)) (ptP m (aS A i 6 (seN A i))))) := by
  refine E_X9_see (fun X hX hR0 _ _ => ?_)
  have h0 := hI.1
  refine J_aloadN hX rfl rfl dX9_see_0 ?_
  refine G_HalfHere_now hX dX9_see_1 mF_X9_19 ?_
  refine J_iloadN hX rfl rfl dX9_see_4 ?_
  refine cV1w hX cb_X7_hasPart mL_X9_150 dX9_see_5 (c_hasPart hR) ?_
  refine J_ifb_ne (tgt := 17) hX (by decide) dX9_see_8 (fun h1 => ?_) (fun h1 => ?_)
  · obtain ⟨v0, v1, v2, v3, v4, v5, v6⟩ := hR.part h1
    have hi := h1.1
    have hi2 := h1.2.1
    have hp := hI.part h1
    have h6 := hI.p6 h1
    have hb := orI_b (a := aP A i 6) (b := p2 (aP A i 2)) (by omega) (p2_b h6).1
    refine J_aloadN hX rfl rfl dX9_see_17 ?_
    refine G_HalfHere_now hX dX9_see_18 mF_X9_19 ?_
    refine G_Village_parts hX dX9_see_21 mF_X9_153 ?_
    refine J_iloadN hX rfl rfl dX9_see_24 ?_
    refine A_8 hX (by omega) dX9_see_25 ?_
    refine saN_2 hX dX9_see_26 ?_
    refine J_aloadN hX rfl rfl dX9_see_27 ?_
    refine J_dup hX rfl dX9_see_28 ?_
    refine G_Part_seen hX dX9_see_29 mF_X9_175 ?_
    refine J_iconst hX (by decide) dX9_see_32 ?_
    refine J_aloadN hX rfl rfl dX9_see_33 ?_
    refine G_Part_place hX dX9_see_34 mF_X9_165 ?_
    rw [v6, v2]
    refine J_ishl hX (fun _ _ => sd_shl ⟨h6.1, by omega⟩) dX9_see_37 ?_
    refine J_ior hX (fun _ _ => sd_or (by omega) (p2_b h6).1) dX9_see_38 ?_
    refine P_Part_seen hX dX9_see_39 mF_X9_175 ?_
    refine J_aloadN hX rfl rfl dX9_see_42 ?_
    refine G_Part_seen hX dX9_see_43 mF_X9_175 ?_
    rw [upr_eq, st1_eq]
    refine cS1w hX cb_J6_bitCount_0f7a4 mL_X9_185 dX9_see_46 (c_bitCount hb) ?_
    refine J_iret hX hR0 dX9_see_49 (anX.yes (by unfold rfIs; rw [ifP_pos h1]) rfl ⟨FrXV.rf.up, RelV_up hR (by omega) ⟨hi, hi2⟩ (fun k hk => aS_out (by omega) hk) ?_⟩)
    rw [aP_aSi]
    exact ⟨hR.is ⟨hi, hi2⟩, fun _ => ⟨v0, v1, v2, v3, v4, v5, rfl⟩⟩
  · skip
    refine J_aloadN hX rfl rfl dX9_see_11 ?_
    refine J_iconst hX (by decide) dX9_see_12 ?_
    refine cV1w hX cb_X9_refuse mL_X9_72 dX9_see_13 (c_xrefuse (by omega) hf) ?_
    exact J_iret hX hR0 dX9_see_16 (anX.no (by unfold rfIs; rw [ifP_neg h1]) (by decide))
theorem c_xgo (hR : RelV m 0 A) (hI : InvA A C D) (hC : C ≤ 900000) (hf : few33 m) : K_X9_go G [vr 0 0 0, vi i, vi y] m (pi (anX m (rfGo A i y) (aP A i 4 + gF (fwA A (aP A i 2) y)) (ptP m (goF A i y)))) := by
  refine E_X9_go (fun X hX hR0 _ _ => ?_)
  have h0 := hI.1
  have K22 : ¬ (aIs A i ∧ inN y (A 0)) → J G X 22 [vr 0 0 0, vi i, vi y, vx, vx] [] m := fun q => by
    refine J_aloadN hX rfl rfl dX9_go_22 ?_
    refine J_iconst hX (by decide) dX9_go_23 ?_
    refine cV1w hX cb_X9_refuse mL_X9_72 dX9_go_24 (c_xrefuse (by omega) hf) ?_
    exact J_iret hX hR0 dX9_go_27 (anX.no (by unfold rfGo; rw [ifP_neg q]) (by decide))
  refine J_aloadN hX rfl rfl dX9_go_0 ?_
  refine G_HalfHere_now hX dX9_go_1 mF_X9_19 ?_
  refine J_iloadN hX rfl rfl dX9_go_4 ?_
  refine cV1w hX cb_X7_hasPart mL_X9_150 dX9_go_5 (c_hasPart hR) ?_
  refine J_ifb_eq (tgt := 22) hX (by decide) dX9_go_8 (fun h1 => ?_) (fun h1 => ?_)
  · exact K22 (fun q => h1 q.1)
  · refine J_aloadN hX rfl rfl dX9_go_11 ?_
    refine G_HalfHere_now hX dX9_go_12 mF_X9_19 ?_
    refine J_iloadN hX rfl rfl dX9_go_15 ?_
    refine cV1w hX cb_X7_hasPlace mL_X9_140 dX9_go_16 (c_hasPlace hR) ?_
    refine J_ifb_ne (tgt := 28) hX (by decide) dX9_go_19 (fun h2 => ?_) (fun h2 => ?_)
    · have hi := h1.1
      have hi2 := h1.2.1
      have hp := hI.part h1
      have h6 := hI.p6 h1
      have hy6 : inN y 6 := by omega
      have hfw := okFn hI (n := 6) (by omega) (aP A i 2) y h6 hy6
      have hfw' : 0 ≤ fwA A (aP A i 2) y ∧ fwA A (aP A i 2) y ≤ 1000000 ∧ (fwA A (aP A i 2) y < 1000000 → fwA A (aP A i 2) y ≤ 3840) := ⟨hfw.1, hfw.2.1, hfw.2.2.1⟩
      have hg : gF (fwA A (aP A i 2) y) = -9 ∨ (0 ≤ gF (fwA A (aP A i 2) y) ∧ gF (fwA A (aP A i 2) y) ≤ 3840) := by
        unfold gF
        split <;> omega
      refine J_aloadN hX rfl rfl dX9_go_28 ?_
      refine G_HalfHere_now hX dX9_go_29 mF_X9_19 ?_
      refine G_Village_parts hX dX9_go_32 mF_X9_153 ?_
      refine J_iloadN hX rfl rfl dX9_go_35 ?_
      refine A_8 hX (by omega) dX9_go_36 ?_
      refine saN_3 hX dX9_go_37 ?_
      refine J_aloadN hX rfl rfl dX9_go_38 ?_
      refine G_HalfHere_now hX dX9_go_39 mF_X9_19 ?_
      refine cV0u hX cb_X7_measure mL_X9_143 dX9_go_42 (c_measure hR hI) (fun m2 hm2 => ?_)
      have hx := hm2.1.toX
      have hV := hR.frX hx
      obtain ⟨v0, v1, v2, v3, v4, v5, v6⟩ := hV.part h1
      refine J_aloadN hX rfl rfl dX9_go_45 ?_
      refine G_HalfHere_now hX dX9_go_46 mF_X9_19 ?_
      refine G_Village_far hX dX9_go_49 mF_X9_146 ?_
      refine J_aloadN hX rfl rfl dX9_go_52 ?_
      refine G_Part_place hX dX9_go_53 mF_X9_165 ?_
      rw [v2]
      refine A_4 hX (by omega) dX9_go_56 ?_
      refine J_iloadN hX rfl rfl dX9_go_57 ?_
      refine L_5 hX (by omega) dX9_go_58 ?_
      rw [hm2.2 _ y h6 hy6]
      refine si_4 hX dX9_go_59 ?_
      refine J_iload hX rfl dX9_go_61 ?_
      refine J_if_ge (tgt := 73) hX (by decide) dX9_go_63 (fun h3 => ?_) (fun h3 => ?_)
      · refine J_aloadN hX rfl rfl dX9_go_73 ?_
        refine J_iloadN hX rfl rfl dX9_go_74 ?_
        refine P_Part_place hX dX9_go_75 mF_X9_165 ?_
        refine J_aloadN hX rfl rfl dX9_go_78 ?_
        refine J_dup hX rfl dX9_go_79 ?_
        refine G_Part_clock hX dX9_go_80 mF_X9_169 ?_
        rw [upr_eq, st1_ne (by decide), v4]
        refine J_iload hX rfl dX9_go_83 ?_
        refine J_iadd hX (fun _ _ => by omega) dX9_go_85 ?_
        refine P_Part_clock hX dX9_go_86 mF_X9_169 ?_
        refine J_aloadN hX rfl rfl dX9_go_89 ?_
        refine J_bipush hX (by decide) dX9_go_90 ?_
        refine P_Part_work hX dX9_go_92 mF_X9_166 ?_
        refine J_aloadN hX rfl rfl dX9_go_95 ?_
        refine G_Part_clock hX dX9_go_96 mF_X9_169 ?_
        refine J_iret hX hR0 dX9_go_99 (anX.yes (by unfold rfGo; rw [ifP_pos ⟨h1, h2⟩, if_neg (by omega)]) ?_ ⟨?_, ?_⟩)
        · simp only [upr_upr, upr_eq]
          rfl
        · simp only [upr_upr]
          exact hx.toXV.up
        · simp only [upr_upr, upr_eq]
          refine RelV_up hV (by omega) ⟨hi, hi2⟩ (fun k hk => by unfold goF; rw [aS_out (by omega) hk, aS_out (by omega) hk, aS_out (by omega) hk]) ?_
          unfold goF
          rw [aP_aSi, aP_aSi, aP_aSi]
          exact ⟨hV.is ⟨hi, hi2⟩, fun _ => ⟨v0, v1, rfl, rfl, rfl, v5, v6⟩⟩
      · refine J_aloadN hX rfl rfl dX9_go_66 ?_
        refine J_bipush hX (by decide) dX9_go_67 ?_
        refine cV1w hX cb_X9_refuse mL_X9_72 dX9_go_69 (c_xrefuse (by omega) (hf.fx hx)) ?_
        exact J_iret hX hR0 dX9_go_72 (anX.no2 hx (by unfold rfGo; rw [ifP_pos ⟨h1, h2⟩, if_pos (by omega)]) (by decide))
    · exact K22 (fun q => h2 q.2)
theorem c_xat (hR : RelV m 0 A) (hI : InvA A C D) (hf : few33 m) : K_X9_at G [vr 0 0 0, vi i, vi w] m (pi (anX m (rfAt A i w) (aP A i 3) (ptP m (atF A i w)))) := by
  refine E_X9_at (fun X hX hR0 _ _ => ?_)
  have h0 := hI.1
  have K27 : ¬ (aIs A i ∧ (w = -1 ∨ inN w (A 2))) → J G X 27 [vr 0 0 0, vi i, vi w, vx, vx] [] m := fun q => by
    refine J_aloadN hX rfl rfl dX9_at_27 ?_
    refine J_iconst hX (by decide) dX9_at_28 ?_
    refine cV1w hX cb_X9_refuse mL_X9_72 dX9_at_29 (c_xrefuse (by omega) hf) ?_
    exact J_iret hX hR0 dX9_at_32 (anX.no (by unfold rfAt; rw [ifP_neg q]) (by decide))
  have K74 : ∀ (_ : aIs A i) (_ : w = -1 ∨ inN w (A 2)), ¬ (0 ≤ w ∧ aW A w 1 ≠ aP A i 2) → J G X 74 [vr 0 0 0, vi i, vi w, vr 13 0 i, vx] [] m := fun h1 hw hn => by
    obtain ⟨v0, v1, v2, v3, v4, v5, v6⟩ := hR.part h1
    have hi := h1.1
    have hi2 := h1.2.1
    have K92 : ∀ z, z = (if w < 0 then -9 else w) → J G X 92 [vr 0 0 0, vi i, vi w, vr 13 0 i, vi (aP A i 3)] [vi z, vr 13 0 i] m := fun z hz => by
      subst hz
      refine P_Part_work hX dX9_at_92 mF_X9_166 ?_
      refine J_iload hX rfl dX9_at_95 ?_
      refine J_iret hX hR0 dX9_at_97 (anX.yes (by unfold rfAt; rw [ifP_pos ⟨h1, hw⟩, if_neg hn]) rfl ⟨FrXV.rf.up, RelV_up hR (by omega) ⟨hi, hi2⟩ (fun k hk => by unfold atF; exact aS_out (by omega) hk) ?_⟩)
      unfold atF
      rw [aP_aSi]
      exact ⟨hR.is ⟨hi, hi2⟩, fun _ => ⟨v0, v1, v2, rfl, v4, v5, v6⟩⟩
    refine J_aloadN hX rfl rfl dX9_at_74 ?_
    refine G_Part_work hX dX9_at_75 mF_X9_166 ?_
    rw [v3]
    refine si_4 hX dX9_at_78 ?_
    refine J_aloadN hX rfl rfl dX9_at_80 ?_
    refine J_iloadN hX rfl rfl dX9_at_81 ?_
    refine J_iconst hX (by decide) dX9_at_82 ?_
    refine J_icmp_ne (tgt := 91) hX (by decide) dX9_at_83 (fun h4 => ?_) (fun h4 => ?_)
    · refine J_iloadN hX rfl rfl dX9_at_91 ?_
      exact K92 _ (by rw [if_neg (by omega)])
    · refine J_bipush hX (by decide) dX9_at_86 ?_
      refine J_goto (tgt := 92) hX (by decide) dX9_at_88 ?_
      exact K92 _ (by rw [if_pos (by omega)])
  have K33 : aIs A i → (w = -1 ∨ inN w (A 2)) → J G X 33 [vr 0 0 0, vi i, vi w, vx, vx] [] m := fun h1 hw => by
    obtain ⟨v0, v1, v2, v3, v4, v5, v6⟩ := hR.part h1
    have hi := h1.1
    have hi2 := h1.2.1
    refine J_aloadN hX rfl rfl dX9_at_33 ?_
    refine G_HalfHere_now hX dX9_at_34 mF_X9_19 ?_
    refine G_Village_parts hX dX9_at_37 mF_X9_153 ?_
    refine J_iloadN hX rfl rfl dX9_at_40 ?_
    refine A_8 hX (by omega) dX9_at_41 ?_
    refine saN_3 hX dX9_at_42 ?_
    refine J_iloadN hX rfl rfl dX9_at_43 ?_
    refine J_iconst hX (by decide) dX9_at_44 ?_
    refine J_icmp_eq (tgt := 74) hX (by decide) dX9_at_45 (fun h4 => ?_) (fun h4 => ?_)
    · exact K74 h1 hw (by omega)
    · have hw2 : inN w (A 2) := by omega
      have hWo := hR.2.2.2.1 w hw2
      refine J_aloadN hX rfl rfl dX9_at_48 ?_
      refine G_HalfHere_now hX dX9_at_49 mF_X9_19 ?_
      refine G_Village_works hX dX9_at_52 mF_X9_122 ?_
      refine J_iloadN hX rfl rfl dX9_at_55 ?_
      refine A_7 hX (by omega) dX9_at_56 ?_
      refine G_Work_place hX dX9_at_57 mF_X9_131 ?_
      refine J_aloadN hX rfl rfl dX9_at_60 ?_
      refine G_Part_place hX dX9_at_61 mF_X9_165 ?_
      rw [hWo.2.1, v2]
      refine J_icmp_eq (tgt := 74) hX (by decide) dX9_at_64 (fun h5 => ?_) (fun h5 => ?_)
      · exact K74 h1 hw (by omega)
      · refine J_aloadN hX rfl rfl dX9_at_67 ?_
        refine J_bipush hX (by decide) dX9_at_68 ?_
        refine cV1w hX cb_X9_refuse mL_X9_72 dX9_at_70 (c_xrefuse (by omega) hf) ?_
        exact J_iret hX hR0 dX9_at_73 (anX.no (by unfold rfAt; rw [ifP_pos ⟨h1, hw⟩, if_pos ⟨hw2.1, h5⟩]) (by decide))
  refine J_aloadN hX rfl rfl dX9_at_0 ?_
  refine G_HalfHere_now hX dX9_at_1 mF_X9_19 ?_
  refine J_iloadN hX rfl rfl dX9_at_4 ?_
  refine cV1w hX cb_X7_hasPart mL_X9_150 dX9_at_5 (c_hasPart hR) ?_
  refine J_ifb_eq (tgt := 27) hX (by decide) dX9_at_8 (fun h1 => ?_) (fun h1 => ?_)
  · exact K27 (fun q => h1 q.1)
  · refine J_iloadN hX rfl rfl dX9_at_11 ?_
    refine J_iconst hX (by decide) dX9_at_12 ?_
    refine J_icmp_eq (tgt := 33) hX (by decide) dX9_at_13 (fun h2 => ?_) (fun h2 => ?_)
    · exact K33 h1 (Or.inl h2)
    · refine J_aloadN hX rfl rfl dX9_at_16 ?_
      refine G_HalfHere_now hX dX9_at_17 mF_X9_19 ?_
      refine J_iloadN hX rfl rfl dX9_at_20 ?_
      refine cV1w hX cb_X7_hasWork mL_X9_119 dX9_at_21 (c_hasWork hR) ?_
      refine J_ifb_ne (tgt := 33) hX (by decide) dX9_at_24 (fun h3 => ?_) (fun h3 => ?_)
      · exact K33 h1 (Or.inr h3)
      · exact K27 (fun q => q.2.elim h2 h3)
def rfTime (A : Int → Int) (i x : Int) : Int → Prop := fun r => (aIs A i ∧ r = if x < 1 then -4 else if 600 < x then -6 else 0) ∨ (¬ aIs A i ∧ r = -1)
theorem c_refusalOfTime (hR : RelV m 0 A) : K_X9_refusalOfTime G [vr 0 0 0, vi i, vi x] m (pi (fun r m' => rfTime A i x r ∧ m' = m)) := by
  refine E_X9_refusalOfTime (fun X hX hR0 _ _ => ?_)
  refine J_aloadN hX rfl rfl dX9_refusalOfTime_0 ?_
  refine G_HalfHere_now hX dX9_refusalOfTime_1 mF_X9_19 ?_
  refine J_iloadN hX rfl rfl dX9_refusalOfTime_4 ?_
  refine cV1w hX cb_X7_hasPart mL_X9_150 dX9_refusalOfTime_5 (c_hasPart hR) ?_
  refine J_ifb_ne (tgt := 13) hX (by decide) dX9_refusalOfTime_8 (fun h1 => ?_) (fun h1 => ?_)
  · refine J_iloadN hX rfl rfl dX9_refusalOfTime_13 ?_
    refine J_iconst hX (by decide) dX9_refusalOfTime_14 ?_
    refine J_icmp_ge (tgt := 21) hX (by decide) dX9_refusalOfTime_15 (fun h2 => ?_) (fun h2 => ?_)
    · refine J_iloadN hX rfl rfl dX9_refusalOfTime_21 ?_
      refine J_sipush hX (by decide) dX9_refusalOfTime_22 ?_
      refine J_icmp_le (tgt := 33) hX (by decide) dX9_refusalOfTime_25 (fun h3 => ?_) (fun h3 => ?_)
      · refine J_iconst hX (by decide) dX9_refusalOfTime_33 ?_
        exact J_iret hX hR0 dX9_refusalOfTime_34 (⟨0, rfl, Or.inl ⟨h1, by rw [if_neg (by omega), if_neg (by omega)]⟩, rfl⟩)
      · refine J_bipush hX (by decide) dX9_refusalOfTime_28 ?_
        refine J_goto (tgt := 34) hX (by decide) dX9_refusalOfTime_30 ?_
        exact J_iret hX hR0 dX9_refusalOfTime_34 (⟨-6, rfl, Or.inl ⟨h1, by rw [if_neg (by omega), if_pos h3]⟩, rfl⟩)
    · refine J_bipush hX (by decide) dX9_refusalOfTime_18 ?_
      exact J_iret hX hR0 dX9_refusalOfTime_20 (⟨-4, rfl, Or.inl ⟨h1, by rw [if_pos h2]⟩, rfl⟩)
  · refine J_iconst hX (by decide) dX9_refusalOfTime_11 ?_
    exact J_iret hX hR0 dX9_refusalOfTime_12 (⟨-1, rfl, Or.inr ⟨h1, rfl⟩, rfl⟩)
theorem c_xtoil (hR : RelV m 0 A) (hI : InvA A C D) (hC : C ≤ 900000) (hD : D ≤ 10000000) (hf : few33 m) : K_X9_toil G [vr 0 0 0, vi i, vi x] m (pi (anX m (rfToil A i x) (aP A i 5 + x * 12 / aP A i 1) (ptP m (toF A i x)))) := by
  refine E_X9_toil (fun X hX hR0 _ _ => ?_)
  have h0 := hI.1
  refine J_aloadN hX rfl rfl dX9_toil_0 ?_
  refine J_iloadN hX rfl rfl dX9_toil_1 ?_
  refine J_iloadN hX rfl rfl dX9_toil_2 ?_
  refine cV2i hX cb_X9_refusalOfTime mL_X9_197 dX9_toil_3 (c_refusalOfTime hR) (fun r m2 hm2 => ?_)
  obtain ⟨hr, rfl⟩ := hm2
  refine siN_3 hX dX9_toil_6 ?_
  refine J_iloadN hX rfl rfl dX9_toil_7 ?_
  refine J_if_eq (tgt := 17) hX (by decide) dX9_toil_8 (fun h1 => ?_) (fun h1 => ?_)
  · subst h1
    obtain ⟨hIs, hr2⟩ : aIs A i ∧ (0 : Int) = (if x < 1 then -4 else if 600 < x then -6 else 0) := hr.elim id (fun q => absurd q.2 (by decide))
    have hx1 : ¬ x < 1 := fun q => by rw [if_pos q] at hr2; omega
    have hx2 : ¬ 600 < x := fun q => by rw [if_neg hx1, if_pos q] at hr2; omega
    obtain ⟨v0, v1, v2, v3, v4, v5, v6⟩ := hR.part hIs
    have hi := hIs.1
    have hi2 := hIs.2.1
    have hp := hI.part hIs
    have hs := hI.share hIs
    have hd : (x * 12).tdiv (aP A i 1) = x * 12 / aP A i 1 := Int.tdiv_eq_ediv_of_nonneg (by omega)
    have hb1 := Int.ediv_nonneg (show 0 ≤ x * 12 by omega) (show 0 ≤ aP A i 1 by omega)
    have hb2 := Int.ediv_le_self (aP A i 1) (show 0 ≤ x * 12 by omega)
    refine J_aloadN hX rfl rfl dX9_toil_17 ?_
    refine G_HalfHere_now hX dX9_toil_18 mF_X9_19 ?_
    refine G_Village_parts hX dX9_toil_21 mF_X9_153 ?_
    refine J_iloadN hX rfl rfl dX9_toil_24 ?_
    refine A_8 hX (by omega) dX9_toil_25 ?_
    refine sa_4 hX dX9_toil_26 ?_
    refine J_aload hX rfl dX9_toil_28 ?_
    refine G_Part_work hX dX9_toil_30 mF_X9_166 ?_
    rw [v3]
    refine J_bipush hX (by decide) dX9_toil_33 ?_
    refine J_icmp_ne (tgt := 45) hX (by decide) dX9_toil_35 (fun h2 => ?_) (fun h2 => ?_)
    · refine J_aload hX rfl dX9_toil_45 ?_
      refine J_dup hX rfl dX9_toil_47 ?_
      refine G_Part_clock hX dX9_toil_48 mF_X9_169 ?_
      rw [v4]
      refine J_iloadN hX rfl rfl dX9_toil_51 ?_
      refine J_iadd hX (fun _ _ => by omega) dX9_toil_52 ?_
      refine P_Part_clock hX dX9_toil_53 mF_X9_169 ?_
      refine J_aload hX rfl dX9_toil_56 ?_
      refine J_dup hX rfl dX9_toil_58 ?_
      refine G_Part_tired hX dX9_toil_59 mF_X9_172 ?_
      simp only [upr_upr, upr_eq]
      rw [st1_ne (by decide), v5]
      refine J_aload hX rfl dX9_toil_62 ?_
      refine G_Part_twelfths hX dX9_toil_64 mF_X9_162 ?_
      rw [upr_eq, st1_ne (by decide), v1]
      refine J_iconst hX (by decide) dX9_toil_67 ?_
      refine J_icmp_ge (tgt := 75) hX (by decide) dX9_toil_68 (fun h3 => ?_) (fun h3 => ?_)
      · refine J_iloadN hX rfl rfl dX9_toil_75 ?_
        refine J_bipush hX (by decide) dX9_toil_76 ?_
        refine J_imul hX (fun _ _ => by omega) dX9_toil_78 ?_
        refine J_aload hX rfl dX9_toil_79 ?_
        refine G_Part_twelfths hX dX9_toil_81 mF_X9_162 ?_
        rw [upr_eq, st1_ne (by decide), v1]
        refine J_idiv hX (fun _ _ => by omega) (fun _ _ => by rw [hd]; omega) dX9_toil_84 ?_
        rw [hd]
        refine J_iadd hX (fun _ _ => by omega) dX9_toil_85 ?_
        refine P_Part_tired hX dX9_toil_86 mF_X9_172 ?_
        refine J_aload hX rfl dX9_toil_89 ?_
        refine G_Part_tired hX dX9_toil_91 mF_X9_172 ?_
        simp only [upr_upr, upr_eq]
        refine J_iret hX hR0 dX9_toil_94 (anX.yes ?_ ?_ ⟨FrXV.rf.up, RelV_up hR (by omega) ⟨hi, hi2⟩ (fun k hk => by unfold toF; rw [aS_out (by omega) hk, aS_out (by omega) hk]) ?_⟩)
        · unfold rfToil
          rw [ifP_pos hIs, if_neg hx1, if_neg hx2, if_neg (by have := hp.2.2.2.1; omega)]
        · rw [st1_eq]
        · unfold toF
          rw [aP_aSi, aP_aSi]
          exact ⟨hR.is ⟨hi, hi2⟩, fun _ => ⟨v0, v1, v2, v3, rfl, rfl, v6⟩⟩
      · omega
    · refine J_aloadN hX rfl rfl dX9_toil_38 ?_
      refine J_bipush hX (by decide) dX9_toil_39 ?_
      refine cV1w hX cb_X9_refuse mL_X9_72 dX9_toil_41 (c_xrefuse (by omega) hf) ?_
      exact J_iret hX hR0 dX9_toil_44 (anX.no (by unfold rfToil; rw [ifP_pos hIs, if_neg hx1, if_neg hx2, if_pos (by omega)]) (by decide))
  · have hrb : -6 ≤ r ∧ r ≤ -1 ∧ rfToil A i x = r := by
      unfold rfToil
      rcases hr with ⟨q1, q2⟩ | ⟨q1, q2⟩
      · rw [ifP_pos q1]
        by_cases z1 : x < 1
        · rw [if_pos z1] at q2 ⊢; omega
        · rw [if_neg z1] at q2 ⊢
          by_cases z2 : 600 < x
          · rw [if_pos z2] at q2 ⊢; omega
          · rw [if_neg z2] at q2; omega
      · rw [ifP_neg q1]; omega
    refine J_aloadN hX rfl rfl dX9_toil_11 ?_
    refine J_iloadN hX rfl rfl dX9_toil_12 ?_
    refine cV1w hX cb_X9_refuse mL_X9_72 dX9_toil_13 (c_xrefuse ⟨hrb.1, hrb.2.1⟩ hf) ?_
    exact J_iret hX hR0 dX9_toil_16 (anX.no hrb.2.2 h1)
theorem c_xrest (hR : RelV m 0 A) (hI : InvA A C D) (hC : C ≤ 900000) (hD : D ≤ 10000000) (hf : few33 m) : K_X9_rest G [vr 0 0 0, vi i, vi x] m (pi (anX m (rfRest A i x) (max 0 (aP A i 5 - 2 * x)) (ptP m (reF A i x)))) := by
  refine E_X9_rest (fun X hX hR0 _ _ => ?_)
  have h0 := hI.1
  refine J_aloadN hX rfl rfl dX9_rest_0 ?_
  refine J_iloadN hX rfl rfl dX9_rest_1 ?_
  refine J_iloadN hX rfl rfl dX9_rest_2 ?_
  refine cV2i hX cb_X9_refusalOfTime mL_X9_197 dX9_rest_3 (c_refusalOfTime hR) (fun r m2 hm2 => ?_)
  obtain ⟨hr, rfl⟩ := hm2
  refine siN_3 hX dX9_rest_6 ?_
  refine J_iloadN hX rfl rfl dX9_rest_7 ?_
  refine J_if_eq (tgt := 17) hX (by decide) dX9_rest_8 (fun h1 => ?_) (fun h1 => ?_)
  · subst h1
    obtain ⟨hIs, hr2⟩ : aIs A i ∧ (0 : Int) = (if x < 1 then -4 else if 600 < x then -6 else 0) := hr.elim id (fun q => absurd q.2 (by decide))
    have hx1 : ¬ x < 1 := fun q => by rw [if_pos q] at hr2; omega
    have hx2 : ¬ 600 < x := fun q => by rw [if_neg hx1, if_pos q] at hr2; omega
    obtain ⟨v0, v1, v2, v3, v4, v5, v6⟩ := hR.part hIs
    have hi := hIs.1
    have hi2 := hIs.2.1
    have hp := hI.part hIs
    refine J_aloadN hX rfl rfl dX9_rest_17 ?_
    refine G_HalfHere_now hX dX9_rest_18 mF_X9_19 ?_
    refine G_Village_parts hX dX9_rest_21 mF_X9_153 ?_
    refine J_iloadN hX rfl rfl dX9_rest_24 ?_
    refine A_8 hX (by omega) dX9_rest_25 ?_
    refine sa_4 hX dX9_rest_26 ?_
    refine J_aload hX rfl dX9_rest_28 ?_
    refine J_dup hX rfl dX9_rest_30 ?_
    refine G_Part_clock hX dX9_rest_31 mF_X9_169 ?_
    rw [v4]
    refine J_iloadN hX rfl rfl dX9_rest_34 ?_
    refine J_iadd hX (fun _ _ => by omega) dX9_rest_35 ?_
    refine P_Part_clock hX dX9_rest_36 mF_X9_169 ?_
    refine J_aload hX rfl dX9_rest_39 ?_
    refine J_iconst hX (by decide) dX9_rest_41 ?_
    refine J_aload hX rfl dX9_rest_42 ?_
    refine G_Part_tired hX dX9_rest_44 mF_X9_172 ?_
    rw [upr_eq, st1_ne (by decide), v5]
    refine J_iconst hX (by decide) dX9_rest_47 ?_
    refine J_iloadN hX rfl rfl dX9_rest_48 ?_
    refine J_imul hX (fun _ _ => by omega) dX9_rest_49 ?_
    refine J_isub hX (fun _ _ => by omega) dX9_rest_50 ?_
    refine J_mmax hX rfl (by decide) (Nat.le_of_ble_eq_true rfl) dX9_rest_51 mL_X9_190 ?_
    refine P_Part_tired hX dX9_rest_54 mF_X9_172 ?_
    refine J_aload hX rfl dX9_rest_57 ?_
    refine G_Part_tired hX dX9_rest_59 mF_X9_172 ?_
    simp only [upr_upr, upr_eq]
    refine J_iret hX hR0 dX9_rest_62 (anX.yes ?_ ?_ ⟨FrXV.rf.up, RelV_up hR (by omega) ⟨hi, hi2⟩ (fun k hk => by unfold reF; rw [aS_out (by omega) hk, aS_out (by omega) hk]) ?_⟩)
    · unfold rfRest
      rw [ifP_pos hIs, if_neg hx1, if_neg hx2]
    · rw [st1_eq]
    · unfold reF
      rw [aP_aSi, aP_aSi]
      exact ⟨hR.is ⟨hi, hi2⟩, fun _ => ⟨v0, v1, v2, v3, rfl, rfl, v6⟩⟩
  · have hrb : -6 ≤ r ∧ r ≤ -1 ∧ rfRest A i x = r := by
      unfold rfRest
      rcases hr with ⟨q1, q2⟩ | ⟨q1, q2⟩
      · rw [ifP_pos q1]
        by_cases z1 : x < 1
        · rw [if_pos z1] at q2 ⊢; omega
        · rw [if_neg z1] at q2 ⊢
          by_cases z2 : 600 < x
          · rw [if_pos z2] at q2 ⊢; omega
          · rw [if_neg z2] at q2; omega
      · rw [ifP_neg q1]; omega
    refine J_aloadN hX rfl rfl dX9_rest_11 ?_
    refine J_iloadN hX rfl rfl dX9_rest_12 ?_
    refine cV1w hX cb_X9_refuse mL_X9_72 dX9_rest_13 (c_xrefuse ⟨hrb.1, hrb.2.1⟩ hf) ?_
    exact J_iret hX hR0 dX9_rest_16 (anX.no hrb.2.2 h1)
theorem c_xsplit (hR : RelV m 0 A) (hI : InvA A C D) (hf : few33 m) : K_X9_split G [vr 0 0 0, vi i, vi x] m (pi (anX m (rfSplit A i x) (fpA A (-9)) (ptP m (spF A i x)))) := by
  refine E_X9_split (fun X hX hR0 _ _ => ?_)
  have h0 := hI.1
  refine J_aloadN hX rfl rfl dX9_split_0 ?_
  refine G_HalfHere_now hX dX9_split_1 mF_X9_19 ?_
  refine J_iloadN hX rfl rfl dX9_split_4 ?_
  refine cV1w hX cb_X7_hasPart mL_X9_150 dX9_split_5 (c_hasPart hR) ?_
  refine J_ifb_ne (tgt := 17) hX (by decide) dX9_split_8 (fun h1 => ?_) (fun h1 => ?_)
  · obtain ⟨v0, v1, v2, v3, v4, v5, v6⟩ := hR.part h1
    have hi := h1.1
    have hi2 := h1.2.1
    have hp := hI.part h1
    have hs := hI.share h1
    have hq := hI.pers h1
    have hl := hI.2.2.1 _ hq
    have hv := hR.2.2.1 _ hq
    have hsp : spL A i = aG A (aP A i 0 - 1) 3 := rfl
    have K61 : (x < spL A i ∨ aP A i 1 - spL A i < x) → J G X 61 [vr 0 0 0, vi i, vi x, vr 13 0 i, vi (spL A i), vx, vx] [] m := fun q => by
      refine J_aloadN hX rfl rfl dX9_split_61 ?_
      refine J_bipush hX (by decide) dX9_split_62 ?_
      refine cV1w hX cb_X9_refuse mL_X9_72 dX9_split_64 (c_xrefuse (by omega) hf) ?_
      exact J_iret hX hR0 dX9_split_67 (anX.no (by unfold rfSplit; rw [ifP_pos h1, if_pos q]) (by decide))
    refine J_aloadN hX rfl rfl dX9_split_17 ?_
    refine G_HalfHere_now hX dX9_split_18 mF_X9_19 ?_
    refine G_Village_parts hX dX9_split_21 mF_X9_153 ?_
    refine J_iloadN hX rfl rfl dX9_split_24 ?_
    refine A_8 hX (by omega) dX9_split_25 ?_
    refine saN_3 hX dX9_split_26 ?_
    refine J_aloadN hX rfl rfl dX9_split_27 ?_
    refine G_HalfHere_now hX dX9_split_28 mF_X9_19 ?_
    refine G_Village_persons hX dX9_split_31 mF_X9_101 ?_
    refine J_aloadN hX rfl rfl dX9_split_34 ?_
    refine G_Part_person hX dX9_split_35 mF_X9_157 ?_
    rw [v0]
    refine A_6 hX (by omega) dX9_split_38 ?_
    refine G_Person_least hX dX9_split_39 mF_X9_110 ?_
    rw [hv.1]
    refine si_4 hX dX9_split_42 ?_
    refine J_iloadN hX rfl rfl dX9_split_44 ?_
    refine J_iload hX rfl dX9_split_45 ?_
    refine J_icmp_lt (tgt := 61) hX (by decide) dX9_split_47 (fun h2 => ?_) (fun h2 => ?_)
    · exact K61 (Or.inl (by omega))
    · refine J_iloadN hX rfl rfl dX9_split_50 ?_
      refine J_aloadN hX rfl rfl dX9_split_51 ?_
      refine G_Part_twelfths hX dX9_split_52 mF_X9_162 ?_
      rw [v1]
      refine J_iload hX rfl dX9_split_55 ?_
      refine J_isub hX (fun _ _ => by omega) dX9_split_57 ?_
      refine J_icmp_le (tgt := 68) hX (by decide) dX9_split_58 (fun h3 => ?_) (fun h3 => ?_)
      · refine J_aloadN hX rfl rfl dX9_split_68 ?_
        refine G_HalfHere_now hX dX9_split_69 mF_X9_19 ?_
        refine cV0w hX cb_X7_freePart mL_X9_178 dX9_split_72 (c_freePart hR) ?_
        have ez : fstI (fun i => ¬ aIs A i) (-1) 0 24 = fpA A (-1) := rfl
        rw [ez]
        refine si_5 hX dX9_split_75 ?_
        refine J_iload hX rfl dX9_split_77 ?_
        refine J_if_ge (tgt := 89) hX (by decide) dX9_split_79 (fun h4 => ?_) (fun h4 => ?_)
        · obtain ⟨hto, eto⟩ : inN (fpA A (-9)) 24 ∧ fpA A (-1) = fpA A (-9) := (fp_z A).elim (fun q => by omega) id
          have hno : ¬ aIs A (fpA A (-9)) := by
            rcases fpA_cases A (-9) with q | q
            · have := q.1; omega
            · exact q.2.1
          have hne : fpA A (-9) ≠ i := fun q => hno (by rw [q]; exact h1)
          rw [eto]
          refine J_aloadN hX rfl rfl dX9_split_89 ?_
          refine G_HalfHere_now hX dX9_split_90 mF_X9_19 ?_
          refine G_Village_parts hX dX9_split_93 mF_X9_153 ?_
          refine J_iload hX rfl dX9_split_96 ?_
          refine A_8 hX (by omega) dX9_split_98 ?_
          refine sa_6 hX dX9_split_99 ?_
          refine J_aload hX rfl dX9_split_101 ?_
          refine J_aloadN hX rfl rfl dX9_split_103 ?_
          refine cV1v hX cb_X2_become mL_X9_182 dX9_split_104 (c_Part_become (fun q => hne q.2.symm)) ?_
          have ei : ∀ f, upr m 13 0 (fpA A (-9)) f 13 0 i = m 13 0 i := fun f => upr_i (Ne.symm hne)
          refine J_aload hX rfl dX9_split_107 ?_
          refine J_iloadN hX rfl rfl dX9_split_109 ?_
          refine P_Part_twelfths hX dX9_split_110 mF_X9_162 ?_
          refine J_aload hX rfl dX9_split_113 ?_
          refine J_bipush hX (by decide) dX9_split_115 ?_
          refine P_Part_work hX dX9_split_117 mF_X9_166 ?_
          refine J_aloadN hX rfl rfl dX9_split_120 ?_
          refine J_dup hX rfl dX9_split_121 ?_
          refine G_Part_twelfths hX dX9_split_122 mF_X9_162 ?_
          simp only [upr_upr, upr_eq]
          rw [ei, v1]
          refine J_iloadN hX rfl rfl dX9_split_125 ?_
          refine J_isub hX (fun _ _ => by omega) dX9_split_126 ?_
          refine P_Part_twelfths hX dX9_split_127 mF_X9_162 ?_
          refine J_iload hX rfl dX9_split_130 ?_
          simp only [ei]
          refine J_iret hX hR0 dX9_split_132 (anX.yes ?_ rfl ⟨FrXV.rf.up.up, ?_⟩)
          · unfold rfSplit
            rw [ifP_pos h1, if_neg (by omega), if_neg (by omega)]
          · have R1 : RelV (upr m 13 0 (fpA A (-9)) (st1 (st1 (cp7 (m 13 0 (fpA A (-9))) (m 13 0 i)) 1 x) 3 (-9))) 0 (aS (aS (lay A (99 + 7 * fpA A (-9)) 7 (fun k => aP A i k)) (fpA A (-9)) 1 x) (fpA A (-9)) 3 (-9)) := by
              refine RelV_up hR (by omega) hto (fun k hk => by rw [aS_out (by omega) hk, aS_out (by omega) hk, lay_out (by omega)]) ?_
              rw [aP_aSi, aP_aSi]
              have el : ∀ k, inN k 7 → aP (lay A (99 + 7 * fpA A (-9)) 7 (fun k => aP A i k)) (fpA A (-9)) k = aP A i k := fun k hk => lay_in (f := fun k => aP A i k) hk
              have c := fun k hk => cp7_in (m 13 0 (fpA A (-9))) (m 13 0 i) (k := k) hk
              refine ⟨⟨fun _ => ?_, fun _ => ?_⟩, fun _ => ⟨?_, rfl, ?_, rfl, ?_, ?_, ?_⟩⟩
              · show 0 < aP (lay A (99 + 7 * fpA A (-9)) 7 (fun k => aP A i k)) (fpA A (-9)) 0
                rw [el 0 (by omega)]; exact h1.2.2
              · show 0 < x
                omega
              · exact (c 0 (by omega)).trans (v0.trans (congrArg (fun z => z - 1) (el 0 (by omega)).symm))
              · exact (c 2 (by omega)).trans (v2.trans (el 2 (by omega)).symm)
              · exact (c 4 (by omega)).trans (v4.trans (el 4 (by omega)).symm)
              · exact (c 5 (by omega)).trans (v5.trans (el 5 (by omega)).symm)
              · exact (c 6 (by omega)).trans (v6.trans (el 6 (by omega)).symm)
            have eA : ∀ k, inN k 7 → aP (aS (aS (lay A (99 + 7 * fpA A (-9)) 7 (fun k => aP A i k)) (fpA A (-9)) 1 x) (fpA A (-9)) 3 (-9)) i k = aP A i k := fun k hk => by
              rw [aP_aSj (by omega) hk (Ne.symm hne), aP_aSj (by omega) hk (Ne.symm hne)]
              exact lay_out (by omega)
            refine RelV_up R1 (by
              rw [aS_out (by omega) (by omega), aS_out (by omega) (by omega), lay_out (by omega), aS_out (by omega) (by omega), aS_out (by omega) (by omega), lay_out (by omega)]; omega) ⟨hi, hi2⟩ (fun k hk => by unfold spF; rw [aS_out (by omega) hk]) ?_
            unfold spF
            rw [aP_aSi]
            refine ⟨⟨fun _ => ?_, fun _ => ?_⟩, fun _ => ⟨?_, rfl, ?_, ?_, ?_, ?_, ?_⟩⟩
            · exact Int.lt_of_lt_of_le (show 0 < aP A i 0 from h1.2.2) (Int.le_of_eq (eA 0 (by omega)).symm)
            · show 0 < aP A i 1 - x
              omega
            · exact v0.trans (congrArg (fun z => z - 1) (eA 0 (by omega)).symm)
            · exact v2.trans (eA 2 (by omega)).symm
            · exact v3.trans (eA 3 (by omega)).symm
            · exact v4.trans (eA 4 (by omega)).symm
            · exact v5.trans (eA 5 (by omega)).symm
            · exact v6.trans (eA 6 (by omega)).symm
        · refine J_aloadN hX rfl rfl dX9_split_82 ?_
          refine J_bipush hX (by decide) dX9_split_83 ?_
          refine cV1w hX cb_X9_refuse mL_X9_72 dX9_split_85 (c_xrefuse (by omega) hf) ?_
          exact J_iret hX hR0 dX9_split_88 (anX.no (by unfold rfSplit; rw [ifP_pos h1, if_neg (by omega), if_pos (by have := fp_z A; omega)]) (by decide))
      · exact K61 (Or.inr (by omega))
  · skip
    refine J_aloadN hX rfl rfl dX9_split_11 ?_
    refine J_iconst hX (by decide) dX9_split_12 ?_
    refine cV1w hX cb_X9_refuse mL_X9_72 dX9_split_13 (c_xrefuse (by omega) hf) ?_
    exact J_iret hX hR0 dX9_split_16 (anX.no (by unfold rfSplit; rw [ifP_neg h1]) (by decide))
theorem c_xjoin (hR : RelV m 0 A) (hI : InvA A C D) (hC : C ≤ 900000) (hf : few33 m) : K_X9_join G [vr 0 0 0, vi i, vi j] m (pi (anX m (rfJoin A i j) (aP A i 1 + aP A j 1) (ptP m (joF A i j)))) := by
  refine E_X9_join (fun X hX hR0 _ _ => ?_)
  have h0 := hI.1
  have K27 : ¬ (aIs A i ∧ aIs A j ∧ i ≠ j) → J G X 27 [vr 0 0 0, vi i, vi j, vx, vx] [] m := fun q => by
    refine J_aloadN hX rfl rfl dX9_join_27 ?_
    refine J_iconst hX (by decide) dX9_join_28 ?_
    refine cV1w hX cb_X9_refuse mL_X9_72 dX9_join_29 (c_xrefuse (by omega) hf) ?_
    exact J_iret hX hR0 dX9_join_32 (anX.no (by unfold rfJoin; rw [ifP_neg q]) (by decide))
  refine J_aloadN hX rfl rfl dX9_join_0 ?_
  refine G_HalfHere_now hX dX9_join_1 mF_X9_19 ?_
  refine J_iloadN hX rfl rfl dX9_join_4 ?_
  refine cV1w hX cb_X7_hasPart mL_X9_150 dX9_join_5 (c_hasPart hR) ?_
  refine J_ifb_eq (tgt := 27) hX (by decide) dX9_join_8 (fun h1 => ?_) (fun h1 => ?_)
  · exact K27 (fun q => h1 q.1)
  · refine J_aloadN hX rfl rfl dX9_join_11 ?_
    refine G_HalfHere_now hX dX9_join_12 mF_X9_19 ?_
    refine J_iloadN hX rfl rfl dX9_join_15 ?_
    refine cV1w hX cb_X7_hasPart mL_X9_150 dX9_join_16 (c_hasPart hR) ?_
    refine J_ifb_eq (tgt := 27) hX (by decide) dX9_join_19 (fun h2 => ?_) (fun h2 => ?_)
    · exact K27 (fun q => h2 q.2.1)
    · refine J_iloadN hX rfl rfl dX9_join_22 ?_
      refine J_iloadN hX rfl rfl dX9_join_23 ?_
      refine J_icmp_ne (tgt := 33) hX (by decide) dX9_join_24 (fun h3 => ?_) (fun h3 => ?_)
      · obtain ⟨v0, v1, v2, v3, v4, v5, v6⟩ := hR.part h1
        obtain ⟨u0, u1, u2, u3, u4, u5, u6⟩ := hR.part h2
        have hi := h1.1
        have hi2 := h1.2.1
        have hj := h2.1
        have hj2 := h2.2.1
        have hp := hI.part h1
        have hpj := hI.part h2
        have hs := hI.share h1
        have hsj := hI.share h2
        have K78 : ¬ (aP A i 0 = aP A j 0 ∧ aP A i 2 = aP A j 2) → J G X 78 [vr 0 0 0, vi i, vi j, vr 13 0 i, vr 13 0 j] [] m := fun q => by
          refine J_aloadN hX rfl rfl dX9_join_78 ?_
          refine J_bipush hX (by decide) dX9_join_79 ?_
          refine cV1w hX cb_X9_refuse mL_X9_72 dX9_join_81 (c_xrefuse (by omega) hf) ?_
          exact J_iret hX hR0 dX9_join_84 (anX.no (by unfold rfJoin; rw [ifP_pos ⟨h1, h2, h3⟩, if_neg q]) (by decide))
        have ej : ∀ f, upr m 13 0 i f 13 0 j = m 13 0 j := fun f => upr_i (Ne.symm h3)
        refine J_aloadN hX rfl rfl dX9_join_33 ?_
        refine G_HalfHere_now hX dX9_join_34 mF_X9_19 ?_
        refine G_Village_parts hX dX9_join_37 mF_X9_153 ?_
        refine J_iloadN hX rfl rfl dX9_join_40 ?_
        refine A_8 hX (by omega) dX9_join_41 ?_
        refine saN_3 hX dX9_join_42 ?_
        refine J_aloadN hX rfl rfl dX9_join_43 ?_
        refine G_HalfHere_now hX dX9_join_44 mF_X9_19 ?_
        refine G_Village_parts hX dX9_join_47 mF_X9_153 ?_
        refine J_iloadN hX rfl rfl dX9_join_50 ?_
        refine A_8 hX (by omega) dX9_join_51 ?_
        refine sa_4 hX dX9_join_52 ?_
        refine J_aloadN hX rfl rfl dX9_join_54 ?_
        refine G_Part_person hX dX9_join_55 mF_X9_157 ?_
        refine J_aload hX rfl dX9_join_58 ?_
        refine G_Part_person hX dX9_join_60 mF_X9_157 ?_
        rw [v0, u0]
        refine J_icmp_ne (tgt := 78) hX (by decide) dX9_join_63 (fun h4 => ?_) (fun h4 => ?_)
        · exact K78 (fun q => by have := q.1; omega)
        · refine J_aloadN hX rfl rfl dX9_join_66 ?_
          refine G_Part_place hX dX9_join_67 mF_X9_165 ?_
          refine J_aload hX rfl dX9_join_70 ?_
          refine G_Part_place hX dX9_join_72 mF_X9_165 ?_
          rw [v2, u2]
          refine J_icmp_eq (tgt := 85) hX (by decide) dX9_join_75 (fun h5 => ?_) (fun h5 => ?_)
          · have ob := orI_b (a := aP A i 6) (b := aP A j 6) (by omega) (by omega)
            refine J_aloadN hX rfl rfl dX9_join_85 ?_
            refine J_dup hX rfl dX9_join_86 ?_
            refine G_Part_twelfths hX dX9_join_87 mF_X9_162 ?_
            refine J_aload hX rfl dX9_join_90 ?_
            refine G_Part_twelfths hX dX9_join_92 mF_X9_162 ?_
            rw [v1, u1]
            refine J_iadd hX (fun _ _ => by omega) dX9_join_95 ?_
            refine P_Part_twelfths hX dX9_join_96 mF_X9_162 ?_
            refine J_aloadN hX rfl rfl dX9_join_99 ?_
            refine J_aloadN hX rfl rfl dX9_join_100 ?_
            refine G_Part_clock hX dX9_join_101 mF_X9_169 ?_
            refine J_aload hX rfl dX9_join_104 ?_
            refine G_Part_clock hX dX9_join_106 mF_X9_169 ?_
            simp only [upr_upr, upr_eq, ej]
            rw [st1_ne (by decide), v4, u4]
            refine J_mmax hX rfl (by decide) (Nat.le_of_ble_eq_true rfl) dX9_join_109 mL_X9_190 ?_
            refine J_iconst hX (by decide) dX9_join_112 ?_
            refine J_iadd hX (fun _ _ => by omega) dX9_join_113 ?_
            refine P_Part_clock hX dX9_join_114 mF_X9_169 ?_
            refine J_aloadN hX rfl rfl dX9_join_117 ?_
            refine J_aloadN hX rfl rfl dX9_join_118 ?_
            refine G_Part_tired hX dX9_join_119 mF_X9_172 ?_
            refine J_aload hX rfl dX9_join_122 ?_
            refine G_Part_tired hX dX9_join_124 mF_X9_172 ?_
            simp only [upr_upr, upr_eq, ej]
            rw [st1_ne (by decide), st1_ne (by decide), v5, u5]
            refine J_mmax hX rfl (by decide) (Nat.le_of_ble_eq_true rfl) dX9_join_127 mL_X9_190 ?_
            refine P_Part_tired hX dX9_join_130 mF_X9_172 ?_
            refine J_aloadN hX rfl rfl dX9_join_133 ?_
            refine J_dup hX rfl dX9_join_134 ?_
            refine G_Part_seen hX dX9_join_135 mF_X9_175 ?_
            refine J_aload hX rfl dX9_join_138 ?_
            refine G_Part_seen hX dX9_join_140 mF_X9_175 ?_
            simp only [upr_upr, upr_eq, ej]
            rw [st1_ne (by decide), st1_ne (by decide), st1_ne (by decide), v6, u6]
            refine J_ior hX (fun _ _ => sd_or (by omega) (by omega)) dX9_join_143 ?_
            refine P_Part_seen hX dX9_join_144 mF_X9_175 ?_
            refine J_aloadN hX rfl rfl dX9_join_147 ?_
            refine J_bipush hX (by decide) dX9_join_148 ?_
            refine P_Part_work hX dX9_join_150 mF_X9_166 ?_
            refine J_aload hX rfl dX9_join_153 ?_
            simp only [upr_upr, upr_eq, ej]
            refine cV0v hX cb_X2_clear mL_X9_196 dX9_join_155 (c_Part_clear) ?_
            simp only [ej]
            refine J_aloadN hX rfl rfl dX9_join_158 ?_
            refine G_Part_twelfths hX dX9_join_159 mF_X9_162 ?_
            have ei : ∀ M f, upr M 13 0 j f 13 0 i = M 13 0 i := fun M f => upr_i h3
            simp only [ei, upr_eq]
            refine J_iret hX hR0 dX9_join_162 (anX.yes ?_ rfl ⟨FrXV.rf.up.up, ?_⟩)
            · unfold rfJoin
              rw [ifP_pos ⟨h1, h2, h3⟩, if_pos ⟨by omega, h5⟩]
            · have R1 : RelV (upr m 13 0 i (st1 (st1 (st1 (st1 (st1 (m 13 0 i) 1 (aP A i 1 + aP A j 1)) 4 (max (aP A i 4) (aP A j 4) + 1)) 5 (max (aP A i 5) (aP A j 5))) 6 (orI (aP A i 6) (aP A j 6))) 3 (-9))) 0 (aS (aS (aS (aS (aS A i 1 (aP A i 1 + aP A j 1)) i 4 (max (aP A i 4) (aP A j 4) + 1)) i 5 (max (aP A i 5) (aP A j 5))) i 6 (orI (aP A i 6) (aP A j 6))) i 3 (-9)) := by
                refine RelV_up hR (by omega) ⟨hi, hi2⟩ (fun k hk => by rw [aS_out (by omega) hk, aS_out (by omega) hk, aS_out (by omega) hk, aS_out (by omega) hk, aS_out (by omega) hk]) ?_
                rw [aP_aSi, aP_aSi, aP_aSi, aP_aSi, aP_aSi]
                refine ⟨⟨fun _ => h1.2.2, fun _ => ?_⟩, fun _ => ⟨v0, rfl, v2, rfl, rfl, rfl, rfl⟩⟩
                show 0 < aP A i 1 + aP A j 1
                omega
              refine RelV_up R1 (by
                rw [aS_out (by omega) (by omega), aS_out (by omega) (by omega), aS_out (by omega) (by omega), aS_out (by omega) (by omega), aS_out (by omega) (by omega), aS_out (by omega) (by omega), aS_out (by omega) (by omega), aS_out (by omega) (by omega), aS_out (by omega) (by omega), aS_out (by omega) (by omega)]; omega) ⟨hj, hj2⟩ (fun k hk => by unfold joF; rw [aS_out (by omega) hk]) ?_
              unfold joF
              rw [aP_aSi]
              exact ⟨⟨fun q => absurd q (show ¬ (0 : Int) < 0 by omega), fun q => absurd q (show ¬ (0 : Int) < 0 by omega)⟩, fun q => absurd q (show ¬ (0 : Int) < 0 by omega)⟩
          · exact K78 (fun q => h5 q.2)
      · exact K27 (fun q => q.2.2 h3)
end Hf
