/-! ===== 10e: moments, copies ===== -/
section Vil
variable {G : GC} {X : JX} {Post : Option HV → HM → Prop} {m : HM} {v u x y z i j : Int} {A : Int → Int} {C D : Int}
def cp7 (f g : Int → Int) : Int → Int := st1 (st1 (st1 (st1 (st1 (st1 (st1 f 0 (g 0)) 1 (g 1)) 2 (g 2)) 3 (g 3)) 4 (g 4)) 5 (g 5)) 6 (g 6)
theorem cp7_in (f g : Int → Int) {k : Int} (hk : inN k 7) : cp7 f g k = g k := by
  rcases (show k = 0 ∨ k = 1 ∨ k = 2 ∨ k = 3 ∨ k = 4 ∨ k = 5 ∨ k = 6 by omega) with rfl | rfl | rfl | rfl | rfl | rfl | rfl <;> rfl
theorem c_Part_become (hne : ¬ (u = v ∧ j = i)) : K_X2_become G [vr 13 v i, vr 13 u j] m (pv (upr m 13 v i (cp7 (m 13 v i) (m 13 u j)))) := by
  refine E_X2_become (fun X hX hR0 _ _ => ?_)
  have e : ∀ f, upr m 13 v i f 13 u j = m 13 u j := fun f => upr_ne (fun q => hne ⟨q.2.1, q.2.2⟩)
  refine J_aloadN hX rfl rfl dX2_become_0 ?_
  refine J_aloadN hX rfl rfl dX2_become_1 ?_
  refine G_Part_person hX dX2_become_2 mF_X2_15 ?_
  refine P_Part_person hX dX2_become_5 mF_X2_15 ?_
  refine J_aloadN hX rfl rfl dX2_become_8 ?_
  refine J_aloadN hX rfl rfl dX2_become_9 ?_
  refine G_Part_twelfths hX dX2_become_10 mF_X2_18 ?_
  refine P_Part_twelfths hX dX2_become_13 mF_X2_18 ?_
  refine J_aloadN hX rfl rfl dX2_become_16 ?_
  refine J_aloadN hX rfl rfl dX2_become_17 ?_
  refine G_Part_place hX dX2_become_18 mF_X2_21 ?_
  refine P_Part_place hX dX2_become_21 mF_X2_21 ?_
  refine J_aloadN hX rfl rfl dX2_become_24 ?_
  refine J_aloadN hX rfl rfl dX2_become_25 ?_
  refine G_Part_work hX dX2_become_26 mF_X2_9 ?_
  refine P_Part_work hX dX2_become_29 mF_X2_9 ?_
  refine J_aloadN hX rfl rfl dX2_become_32 ?_
  refine J_aloadN hX rfl rfl dX2_become_33 ?_
  refine G_Part_clock hX dX2_become_34 mF_X2_24 ?_
  refine P_Part_clock hX dX2_become_37 mF_X2_24 ?_
  refine J_aloadN hX rfl rfl dX2_become_40 ?_
  refine J_aloadN hX rfl rfl dX2_become_41 ?_
  refine G_Part_tired hX dX2_become_42 mF_X2_27 ?_
  refine P_Part_tired hX dX2_become_45 mF_X2_27 ?_
  refine J_aloadN hX rfl rfl dX2_become_48 ?_
  refine J_aloadN hX rfl rfl dX2_become_49 ?_
  refine G_Part_seen hX dX2_become_50 mF_X2_30 ?_
  refine P_Part_seen hX dX2_become_53 mF_X2_30 ?_
  simp only [upr_upr, upr_eq, e]
  exact J_vret hX hR0 dX2_become_56 (pvI rfl)
theorem c_Person_become (hne : u ≠ v) : K_X3_become G [vr 9 v i, vr 9 u j] m (pv (upr (upr m 10 v i (cpr (m 10 u j) (m 10 v i) 3)) 9 v i (st1 (m 9 v i) 1 (m 9 u j 1)))) := by
  refine E_X3_become (fun X hX hR0 _ _ => ?_)
  refine J_aloadN hX rfl rfl dX3_become_0 ?_
  refine G_Person_gifts hX dX3_become_1 mF_X3_9 ?_
  refine J_iconst hX (by decide) dX3_become_4 ?_
  refine J_aloadN hX rfl rfl dX3_become_5 ?_
  refine G_Person_gifts hX dX3_become_6 mF_X3_9 ?_
  refine J_iconst hX (by decide) dX3_become_9 ?_
  refine J_iconst hX (by decide) dX3_become_10 ?_
  refine J_copy hX rfl rfl (by decide) rfl (by decide) (Nat.le_of_ble_eq_true rfl) dX3_become_11 mL_X3_19 ?_
  refine J_aloadN hX rfl rfl dX3_become_14 ?_
  refine J_aloadN hX rfl rfl dX3_become_15 ?_
  refine G_Person_least hX dX3_become_16 mF_X3_15 ?_
  refine P_Person_least hX dX3_become_19 mF_X3_15 ?_
  simp only [upr_t, Nat.reduceBEq]
  exact J_vret hX hR0 dX3_become_22 (pvI rfl)
theorem c_Work_become (hne : u ≠ v) : K_X8_become G [vr 11 v i, vr 11 u j] m (pv (upr (upr m 12 v i (cpr (m 12 u j) (m 12 v i) 3)) 11 v i (st1 (st1 (st1 (m 11 v i) 0 (m 11 u j 0)) 1 (m 11 u j 1)) 3 (m 11 u j 3)))) := by
  refine E_X8_become (fun X hX hR0 _ _ => ?_)
  have e : ∀ f, upr m 11 v i f 11 u j = m 11 u j := fun f => upr_v hne
  refine J_aloadN hX rfl rfl dX8_become_0 ?_
  refine J_aloadN hX rfl rfl dX8_become_1 ?_
  refine G_Work_kind hX dX8_become_2 mF_X8_15 ?_
  refine P_Work_kind hX dX8_become_5 mF_X8_15 ?_
  refine J_aloadN hX rfl rfl dX8_become_8 ?_
  refine J_aloadN hX rfl rfl dX8_become_9 ?_
  refine G_Work_place hX dX8_become_10 mF_X8_19 ?_
  refine P_Work_place hX dX8_become_13 mF_X8_19 ?_
  refine J_aloadN hX rfl rfl dX8_become_16 ?_
  refine G_Work_needs hX dX8_become_17 mF_X8_9 ?_
  refine J_iconst hX (by decide) dX8_become_20 ?_
  refine J_aloadN hX rfl rfl dX8_become_21 ?_
  refine G_Work_needs hX dX8_become_22 mF_X8_9 ?_
  refine J_iconst hX (by decide) dX8_become_25 ?_
  refine J_iconst hX (by decide) dX8_become_26 ?_
  refine J_copy hX rfl rfl (by decide) rfl (by decide) (Nat.le_of_ble_eq_true rfl) dX8_become_27 mL_X8_22 ?_
  refine J_aloadN hX rfl rfl dX8_become_30 ?_
  refine J_aloadN hX rfl rfl dX8_become_31 ?_
  refine G_Work_worth hX dX8_become_32 mF_X8_28 ?_
  refine P_Work_worth hX dX8_become_35 mF_X8_28 ?_
  simp only [upr_t, Nat.reduceBEq, upr_upr, upr_eq, e]
  refine J_vret hX hR0 dX8_become_38 ?_
  refine pvI ?_
  funext t' v' i'
  by_cases h1 : t' = 11 ∧ v' = v ∧ i' = i
  · obtain ⟨rfl, rfl, rfl⟩ := h1
    rw [upr_eq, upr_eq]
  · rw [upr_ne h1, upr_ne h1]
    by_cases h2 : t' = 12 ∧ v' = v ∧ i' = i
    · obtain ⟨rfl, rfl, rfl⟩ := h2
      rw [upr_eq, upr_eq]
    · rw [upr_ne h2, upr_ne h2, upr_ne h1]
def Cpy (m' : HM) (v : Int) (m : HM) (u : Int) : Prop :=
  (m' 1 v 0 0 = m 1 u 0 0 ∧ m' 1 v 0 1 = m 1 u 0 1 ∧ m' 1 v 0 2 = m 1 u 0 2) ∧ (∀ i j, inN i 6 → inN j 6 → m' 3 v i j = m 3 u i j) ∧
  (∀ p, inN p 6 → m' 9 v p 1 = m 9 u p 1 ∧ ∀ k, inN k 3 → m' 10 v p k = m 10 u p k) ∧
  (∀ w, inN w 6 → m' 11 v w 0 = m 11 u w 0 ∧ m' 11 v w 1 = m 11 u w 1 ∧ m' 11 v w 3 = m 11 u w 3 ∧ ∀ k, inN k 3 → m' 12 v w k = m 12 u w k) ∧
  (∀ i k, inN i 24 → inN k 7 → m' 13 v i k = m 13 u i k)
theorem RelV.cpy {m m' : HM} (h : RelV m u A) (hI : InvA A C D) (hc : Cpy m' v m u) : RelV m' v A := by
  obtain ⟨c1, c2, c3, c4, c5⟩ := hc
  have h0 := hI.1
  refine ⟨⟨by rw [c1.1]; exact h.1.1, by rw [c1.2.1]; exact h.1.2.1, by rw [c1.2.2]; exact h.1.2.2⟩, fun i j hi hj => by rw [c2 i j hi hj]; exact h.2.1 i j hi hj, fun p hp => ?_, fun w hw => ?_, fun i hi => ?_⟩
  · have a := c3 p (by omega)
    have b := h.2.2.1 p hp
    exact ⟨a.1.trans b.1, fun k hk => (a.2 k hk).trans (b.2 k hk)⟩
  · have a := c4 w (by omega)
    have b := h.2.2.2.1 w hw
    exact ⟨a.1.trans b.1, a.2.1.trans b.2.1, a.2.2.1.trans b.2.2.1, fun k hk => (a.2.2.2 k hk).trans (b.2.2.2 k hk)⟩
  · rw [c5 i 0 hi (by omega), c5 i 1 hi (by omega), c5 i 2 hi (by omega), c5 i 3 hi (by omega), c5 i 4 hi (by omega), c5 i 5 hi (by omega), c5 i 6 hi (by omega)]
    exact h.2.2.2.2 i hi
theorem l_become_26 (hX : Ok_X7_become G X 3) (hne : u ≠ v) (K : ∀ M i, FrV v m M → (M 1 v 0 0 = m 1 u 0 0 ∧ M 1 v 0 1 = m 1 u 0 1 ∧ M 1 v 0 2 = m 1 u 0 2) → (∀ i j, inN i 6 → inN j 6 → M 3 v i j = m 3 u i j) → J G X 57 [vr 1 v 0, vr 1 u 0, vi i] [] M) : ∀ i, 0 ≤ i → i ≤ 6 → ∀ M, FrV v m M → (M 1 v 0 0 = m 1 u 0 0 ∧ M 1 v 0 1 = m 1 u 0 1 ∧ M 1 v 0 2 = m 1 u 0 2) → (∀ a b, inN a i → inN b 6 → M 3 v a b = m 3 u a b) → J G X 26 [vr 1 v 0, vr 1 u 0, vi i] [] M := by
  refine up_to (fun i h1 h2 ih M hfr s1 s2 => ?_)
  refine J_iloadN hX rfl rfl dX7_become_26 ?_
  refine J_bipush hX (by decide) dX7_become_27 ?_
  refine J_icmp_ge (tgt := 57) hX (by decide) dX7_become_29 (fun h3 => ?_) (fun h3 => ?_)
  · exact K M i hfr s1 (fun a b ha hb => s2 a b (by omega) hb)
  · have eu : M 3 u i = m 3 u i := hfr 3 u i (fun q => hne q.2.2)
    refine J_aloadN hX rfl rfl dX7_become_32 ?_
    refine G_Village_ways hX dX7_become_33 mF_X7_17 ?_
    refine J_iloadN hX rfl rfl dX7_become_36 ?_
    refine A_2 hX (by omega) dX7_become_37 ?_
    refine J_iconst hX (by decide) dX7_become_38 ?_
    refine J_aloadN hX rfl rfl dX7_become_39 ?_
    refine G_Village_ways hX dX7_become_40 mF_X7_17 ?_
    refine J_iloadN hX rfl rfl dX7_become_43 ?_
    refine A_2 hX (by omega) dX7_become_44 ?_
    refine J_iconst hX (by decide) dX7_become_45 ?_
    refine J_bipush hX (by decide) dX7_become_46 ?_
    refine J_copy hX rfl rfl (by decide) rfl (by decide) (Nat.le_of_ble_eq_true rfl) dX7_become_48 mL_X7_50 ?_
    refine sinc_2 hX (fun _ => by omega) dX7_become_51 ?_
    refine J_goto (tgt := 26) hX (by decide) dX7_become_54 ?_
    refine ih h3 _ (hfr.up (by decide)) ?_ (fun a b ha hb => ?_)
    · simp only [upr_t, Nat.reduceBEq]; exact s1
    · by_cases q : a = i
      · subst q
        rw [upr_eq, eu]
        unfold cpr
        rw [if_pos hb]
      · rw [upr_i q]; exact s2 a b (by omega) hb
theorem l_become_59 (hX : Ok_X7_become G X 3) (hne : u ≠ v) (K : ∀ M i, FrV v m M → (M 1 v 0 0 = m 1 u 0 0 ∧ M 1 v 0 1 = m 1 u 0 1 ∧ M 1 v 0 2 = m 1 u 0 2) → (∀ i j, inN i 6 → inN j 6 → M 3 v i j = m 3 u i j) → (∀ p, inN p 6 → M 9 v p 1 = m 9 u p 1 ∧ ∀ k, inN k 3 → M 10 v p k = m 10 u p k) → J G X 86 [vr 1 v 0, vr 1 u 0, vi i] [] M) : ∀ i, 0 ≤ i → i ≤ 6 → ∀ M, FrV v m M → (M 1 v 0 0 = m 1 u 0 0 ∧ M 1 v 0 1 = m 1 u 0 1 ∧ M 1 v 0 2 = m 1 u 0 2) → (∀ a b, inN a 6 → inN b 6 → M 3 v a b = m 3 u a b) → (∀ p, inN p i → M 9 v p 1 = m 9 u p 1 ∧ ∀ k, inN k 3 → M 10 v p k = m 10 u p k) → J G X 59 [vr 1 v 0, vr 1 u 0, vi i] [] M := by
  refine up_to (fun i h1 h2 ih M hfr s1 s2 s3 => ?_)
  refine J_iloadN hX rfl rfl dX7_become_59 ?_
  refine J_bipush hX (by decide) dX7_become_60 ?_
  refine J_icmp_ge (tgt := 86) hX (by decide) dX7_become_62 (fun h3 => ?_) (fun h3 => ?_)
  · exact K M i hfr s1 s2 (fun p hp => s3 p (by omega))
  · have eu : M 9 u i = m 9 u i := hfr 9 u i (fun q => hne q.2.2)
    have eu2 : M 10 u i = m 10 u i := hfr 10 u i (fun q => hne q.2.2)
    refine J_aloadN hX rfl rfl dX7_become_65 ?_
    refine G_Village_persons hX dX7_become_66 mF_X7_25 ?_
    refine J_iloadN hX rfl rfl dX7_become_69 ?_
    refine A_6 hX (by omega) dX7_become_70 ?_
    refine J_aloadN hX rfl rfl dX7_become_71 ?_
    refine G_Village_persons hX dX7_become_72 mF_X7_25 ?_
    refine J_iloadN hX rfl rfl dX7_become_75 ?_
    refine A_6 hX (by omega) dX7_become_76 ?_
    refine cV1v hX cb_X3_become mL_X7_56 dX7_become_77 (c_Person_become hne) ?_
    refine sinc_2 hX (fun _ => by omega) dX7_become_80 ?_
    refine J_goto (tgt := 59) hX (by decide) dX7_become_83 ?_
    refine ih h3 _ ((hfr.up (by decide)).up (by decide)) ?_ ?_ (fun p hp => ?_)
    · simp only [upr_t, Nat.reduceBEq]; exact s1
    · simp only [upr_t, Nat.reduceBEq]; exact s2
    · by_cases q : p = i
      · subst q
        simp only [upr_t, Nat.reduceBEq, upr_eq, eu, eu2, st1_eq]
        refine ⟨trivial, fun k hk => ?_⟩
        unfold cpr
        rw [if_pos hk]
      · simp only [upr_t, Nat.reduceBEq, upr_i q]; exact s3 p (by omega)
theorem l_become_88 (hX : Ok_X7_become G X 3) (hne : u ≠ v) (K : ∀ M i, FrV v m M → (M 1 v 0 0 = m 1 u 0 0 ∧ M 1 v 0 1 = m 1 u 0 1 ∧ M 1 v 0 2 = m 1 u 0 2) → (∀ i j, inN i 6 → inN j 6 → M 3 v i j = m 3 u i j) → (∀ p, inN p 6 → M 9 v p 1 = m 9 u p 1 ∧ ∀ k, inN k 3 → M 10 v p k = m 10 u p k) → (∀ w, inN w 6 → M 11 v w 0 = m 11 u w 0 ∧ M 11 v w 1 = m 11 u w 1 ∧ M 11 v w 3 = m 11 u w 3 ∧ ∀ k, inN k 3 → M 12 v w k = m 12 u w k) → J G X 115 [vr 1 v 0, vr 1 u 0, vi i] [] M) : ∀ i, 0 ≤ i → i ≤ 6 → ∀ M, FrV v m M → (M 1 v 0 0 = m 1 u 0 0 ∧ M 1 v 0 1 = m 1 u 0 1 ∧ M 1 v 0 2 = m 1 u 0 2) → (∀ a b, inN a 6 → inN b 6 → M 3 v a b = m 3 u a b) → (∀ p, inN p 6 → M 9 v p 1 = m 9 u p 1 ∧ ∀ k, inN k 3 → M 10 v p k = m 10 u p k) → (∀ w, inN w i → M 11 v w 0 = m 11 u w 0 ∧ M 11 v w 1 = m 11 u w 1 ∧ M 11 v w 3 = m 11 u w 3 ∧ ∀ k, inN k 3 → M 12 v w k = m 12 u w k) → J G X 88 [vr 1 v 0, vr 1 u 0, vi i] [] M := by
  refine up_to (fun i h1 h2 ih M hfr s1 s2 s3 s4 => ?_)
  refine J_iloadN hX rfl rfl dX7_become_88 ?_
  refine J_bipush hX (by decide) dX7_become_89 ?_
  refine J_icmp_ge (tgt := 115) hX (by decide) dX7_become_91 (fun h3 => ?_) (fun h3 => ?_)
  · exact K M i hfr s1 s2 s3 (fun p hp => s4 p (by omega))
  · have eu : M 11 u i = m 11 u i := hfr 11 u i (fun q => hne q.2.2)
    have eu2 : M 12 u i = m 12 u i := hfr 12 u i (fun q => hne q.2.2)
    refine J_aloadN hX rfl rfl dX7_become_94 ?_
    refine G_Village_works hX dX7_become_95 mF_X7_31 ?_
    refine J_iloadN hX rfl rfl dX7_become_98 ?_
    refine A_7 hX (by omega) dX7_become_99 ?_
    refine J_aloadN hX rfl rfl dX7_become_100 ?_
    refine G_Village_works hX dX7_become_101 mF_X7_31 ?_
    refine J_iloadN hX rfl rfl dX7_become_104 ?_
    refine A_7 hX (by omega) dX7_become_105 ?_
    refine cV1v hX cb_X8_become mL_X7_60 dX7_become_106 (c_Work_become hne) ?_
    refine sinc_2 hX (fun _ => by omega) dX7_become_109 ?_
    refine J_goto (tgt := 88) hX (by decide) dX7_become_112 ?_
    refine ih h3 _ ((hfr.up (by decide)).up (by decide)) ?_ ?_ ?_ (fun p hp => ?_)
    · simp only [upr_t, Nat.reduceBEq]; exact s1
    · simp only [upr_t, Nat.reduceBEq]; exact s2
    · simp only [upr_t, Nat.reduceBEq]; exact s3
    · by_cases q : p = i
      · subst q
        simp only [upr_t, Nat.reduceBEq, upr_eq, eu, eu2]
        refine ⟨rfl, rfl, rfl, fun k hk => ?_⟩
        unfold cpr
        rw [if_pos hk]
      · simp only [upr_t, Nat.reduceBEq, upr_i q]; exact s4 p (by omega)
theorem l_become_117 (hX : Ok_X7_become G X 3) (hR0 : JRt G X (pu (fun m' => FrV v m m' ∧ Cpy m' v m u)) none) (hne : u ≠ v) : ∀ i, 0 ≤ i → i ≤ 24 → ∀ M, FrV v m M → (M 1 v 0 0 = m 1 u 0 0 ∧ M 1 v 0 1 = m 1 u 0 1 ∧ M 1 v 0 2 = m 1 u 0 2) → (∀ a b, inN a 6 → inN b 6 → M 3 v a b = m 3 u a b) → (∀ p, inN p 6 → M 9 v p 1 = m 9 u p 1 ∧ ∀ k, inN k 3 → M 10 v p k = m 10 u p k) → (∀ w, inN w 6 → M 11 v w 0 = m 11 u w 0 ∧ M 11 v w 1 = m 11 u w 1 ∧ M 11 v w 3 = m 11 u w 3 ∧ ∀ k, inN k 3 → M 12 v w k = m 12 u w k) → (∀ a k, inN a i → inN k 7 → M 13 v a k = m 13 u a k) → J G X 117 [vr 1 v 0, vr 1 u 0, vi i] [] M := by
  refine up_to (fun i h1 h2 ih M hfr s1 s2 s3 s4 s5 => ?_)
  refine J_iloadN hX rfl rfl dX7_become_117 ?_
  refine J_bipush hX (by decide) dX7_become_118 ?_
  refine J_icmp_ge (tgt := 144) hX (by decide) dX7_become_120 (fun h3 => ?_) (fun h3 => ?_)
  · skip
    exact J_vret hX hR0 dX7_become_144 (puI ⟨hfr, s1, s2, s3, s4, fun a k ha hk => s5 a k (by omega) hk⟩)
  · have eu : M 13 u i = m 13 u i := hfr 13 u i (fun q => hne q.2.2)
    refine J_aloadN hX rfl rfl dX7_become_123 ?_
    refine G_Village_parts hX dX7_become_124 mF_X7_37 ?_
    refine J_iloadN hX rfl rfl dX7_become_127 ?_
    refine A_8 hX (by omega) dX7_become_128 ?_
    refine J_aloadN hX rfl rfl dX7_become_129 ?_
    refine G_Village_parts hX dX7_become_130 mF_X7_37 ?_
    refine J_iloadN hX rfl rfl dX7_become_133 ?_
    refine A_8 hX (by omega) dX7_become_134 ?_
    refine cV1v hX cb_X2_become mL_X7_63 dX7_become_135 (c_Part_become (fun q => hne q.1)) ?_
    refine sinc_2 hX (fun _ => by omega) dX7_become_138 ?_
    refine J_goto (tgt := 117) hX (by decide) dX7_become_141 ?_
    refine ih h3 _ (hfr.up (by decide)) ?_ ?_ ?_ ?_ (fun a k ha hk => ?_)
    · simp only [upr_t, Nat.reduceBEq]; exact s1
    · simp only [upr_t, Nat.reduceBEq]; exact s2
    · simp only [upr_t, Nat.reduceBEq]; exact s3
    · simp only [upr_t, Nat.reduceBEq]; exact s4
    · by_cases q : a = i
      · subst q
        rw [upr_eq, cp7_in _ _ hk, eu]
      · rw [upr_i q]; exact s5 a k (by omega) hk
theorem c_Village_become (hne : u ≠ v) : K_X7_become G [vr 1 v 0, vr 1 u 0] m (pu (fun m' => FrV v m m' ∧ Cpy m' v m u)) := by
  refine E_X7_become (fun X hX hR0 _ _ => ?_)
  have e : ∀ f, upr m 1 v 0 f 1 u 0 = m 1 u 0 := fun f => upr_v hne
  refine J_aloadN hX rfl rfl dX7_become_0 ?_
  refine J_aloadN hX rfl rfl dX7_become_1 ?_
  refine G_Village_places hX dX7_become_2 mF_X7_9 ?_
  refine P_Village_places hX dX7_become_5 mF_X7_9 ?_
  refine J_aloadN hX rfl rfl dX7_become_8 ?_
  refine J_aloadN hX rfl rfl dX7_become_9 ?_
  refine G_Village_personCount hX dX7_become_10 mF_X7_44 ?_
  refine P_Village_personCount hX dX7_become_13 mF_X7_44 ?_
  refine J_aloadN hX rfl rfl dX7_become_16 ?_
  refine J_aloadN hX rfl rfl dX7_become_17 ?_
  refine G_Village_workCount hX dX7_become_18 mF_X7_47 ?_
  refine P_Village_workCount hX dX7_become_21 mF_X7_47 ?_
  refine J_iconst hX (by decide) dX7_become_24 ?_
  refine siN_2 hX dX7_become_25 ?_
  simp only [upr_upr, upr_eq, e]
  refine l_become_26 hX hne (fun M i hfr s1 s2 => ?_) 0 (by omega) (by omega) _ (FrV.rf.up (by decide)) ?_ (fun a b ha hb => by omega)
  · refine J_iconst hX (by decide) dX7_become_57 ?_
    refine siN_2 hX dX7_become_58 ?_
    refine l_become_59 hX hne (fun M i hfr s1 s2 s3 => ?_) 0 (by omega) (by omega) _ hfr s1 s2 (fun a ha => by omega)
    refine J_iconst hX (by decide) dX7_become_86 ?_
    refine siN_2 hX dX7_become_87 ?_
    refine l_become_88 hX hne (fun M i hfr s1 s2 s3 s4 => ?_) 0 (by omega) (by omega) _ hfr s1 s2 s3 (fun a ha => by omega)
    refine J_iconst hX (by decide) dX7_become_115 ?_
    refine siN_2 hX dX7_become_116 ?_
    exact l_become_117 hX hR0 hne 0 (by omega) (by omega) _ hfr s1 s2 s3 s4 (fun a k ha hk => by omega)
  · simp only [upr_eq]
    exact ⟨rfl, rfl, rfl⟩
theorem l_minuteAt (hX : Ok_X7_minuteAt G X 4) (hR0 : JRt G X (pw (vi (gF (momA A x y))) m) (some .int)) (hR : RelV m v A) (hI : InvA A C D) (hC : C ≤ 900000) (hM : RelF m v (fwA A)) (hy : inN y 6) (hex : ∃ i, aOf A i x) : ∀ i, 0 ≤ i → i ≤ 24 → ∀ l b, ((l = -9 ∧ mxI (momF A x y) i = 0 ∧ ∀ j, inN j i → ¬ aOf A j x) ∨ (l = mxI (momF A x y) i ∧ ∃ j, inN j i ∧ aOf A j x)) → mxI (momF A x y) i < 1000000 → J G X 6 [vr 1 v 0, vi x, vi y, vi l, vi i, b] [] m := by
  refine up_to (fun i h1 h2 ih l b hl hlt => ?_)
  have hnn := mxI_nn (momF A x y) i
  have hs := mxI_s (f := momF A x y) h1
  refine J_iload hX rfl dX7_minuteAt_6 ?_
  refine J_bipush hX (by decide) dX7_minuteAt_8 ?_
  refine J_icmp_ge (tgt := 74) hX (by decide) dX7_minuteAt_10 (fun h3 => ?_) (fun h3 => ?_)
  · have e : i = 24 := by omega
    subst e
    refine J_iloadN hX rfl rfl dX7_minuteAt_74 ?_
    refine J_iret hX hR0 dX7_minuteAt_75 ?_
    refine pwI ?_
    rcases hl with ⟨-, -, q⟩ | ⟨q, -⟩
    · obtain ⟨j, hj⟩ := hex
      exact absurd hj (q j ⟨hj.1.1, hj.1.2.1⟩)
    · rw [q]
      exact (gF_lt hlt).symm
  · refine J_aloadN hX rfl rfl dX7_minuteAt_13 ?_
    refine J_iload hX rfl dX7_minuteAt_14 ?_
    refine J_iloadN hX rfl rfl dX7_minuteAt_16 ?_
    refine cV2w hX cb_X7_isPartOf mL_X7_76 dX7_minuteAt_17 (c_isPartOf hR) ?_
    refine J_ifb_eq (tgt := 68) hX (by decide) dX7_minuteAt_20 (fun h4 => ?_) (fun h4 => ?_)
    · have hf : momF A x y i = 0 := by unfold momF; rw [ifP_neg h4]
      refine sinc_4 hX (fun _ => by omega) dX7_minuteAt_68 ?_
      refine J_goto (tgt := 6) hX (by decide) dX7_minuteAt_71 ?_
      refine ih h3 l _ ?_ (by rw [hs, hf]; omega)
      rcases hl with ⟨q1, q2, q3⟩ | ⟨q1, j, q2, q3⟩
      · refine Or.inl ⟨q1, by rw [hs, hf]; omega, fun j hj => ?_⟩
        by_cases q : j = i
        · rw [q]; exact h4
        · exact q3 j (by omega)
      · exact Or.inr ⟨by rw [hs, hf]; omega, j, by omega, q3⟩
    · have hp := hR.part h4.1
      have hi := hI.part h4.1
      have hi0 := hI.1
      have hF := okFn hI (n := 6) (by omega) (aP A i 2) y (by omega) hy
      have hF' : 0 ≤ fwA A (aP A i 2) y ∧ (fwA A (aP A i 2) y < 1000000 → fwA A (aP A i 2) y ≤ 3840) := ⟨hF.1, hF.2.2.1⟩
      refine J_aloadN hX rfl rfl dX7_minuteAt_23 ?_
      refine G_Village_far hX dX7_minuteAt_24 mF_X7_20 ?_
      refine J_aloadN hX rfl rfl dX7_minuteAt_27 ?_
      refine G_Village_parts hX dX7_minuteAt_28 mF_X7_37 ?_
      refine J_iload hX rfl dX7_minuteAt_31 ?_
      refine A_8 hX (⟨h1, h3⟩) dX7_minuteAt_33 ?_
      refine G_Part_place hX dX7_minuteAt_34 mF_X7_80 ?_
      refine A_4 hX (by rw [hp.2.2.1]; omega) dX7_minuteAt_37 ?_
      refine J_iloadN hX rfl rfl dX7_minuteAt_38 ?_
      refine L_5 hX (by omega) dX7_minuteAt_39 ?_
      refine si_5 hX dX7_minuteAt_40 ?_
      refine J_iload hX rfl dX7_minuteAt_42 ?_
      rw [hp.2.2.1, hM _ y (by omega) hy]
      refine J_if_ge (tgt := 50) hX (by decide) dX7_minuteAt_44 (fun h5 => ?_) (fun h5 => ?_)
      · have hlt2 : fwA A (aP A i 2) y < 1000000 := by
          by_cases q : fwA A (aP A i 2) y < 1000000
          · exact q
          · rw [gF_ge (by omega)] at h5; omega
        have hf : momF A x y i = aP A i 4 + fwA A (aP A i 2) y := by unfold momF; rw [ifP_pos h4, ifP_neg (by omega)]
        rw [gF_lt hlt2]
        refine J_iloadN hX rfl rfl dX7_minuteAt_50 ?_
        refine J_aloadN hX rfl rfl dX7_minuteAt_51 ?_
        refine G_Village_parts hX dX7_minuteAt_52 mF_X7_37 ?_
        refine J_iload hX rfl dX7_minuteAt_55 ?_
        refine A_8 hX (by omega) dX7_minuteAt_57 ?_
        refine G_Part_clock hX dX7_minuteAt_58 mF_X7_137 ?_
        refine J_iload hX rfl dX7_minuteAt_61 ?_
        rw [hp.2.2.2.2.1]
        refine J_iadd hX (fun _ _ => by omega) dX7_minuteAt_63 ?_
        refine J_mmax hX rfl (by decide) (Nat.le_of_ble_eq_true rfl) dX7_minuteAt_64 mL_X7_101 ?_
        refine siN_3 hX dX7_minuteAt_67 ?_
        refine sinc_4 hX (fun _ => by omega) dX7_minuteAt_68 ?_
        refine J_goto (tgt := 6) hX (by decide) dX7_minuteAt_71 ?_
        refine ih h3 _ _ (Or.inr ⟨?_, i, by omega, h4⟩) (by rw [hs, hf]; omega)
        rcases hl with ⟨q1, q2, q3⟩ | ⟨q1, j, q2, q3⟩
        · rw [hs, hf, q1, q2]; omega
        · rw [hs, hf, q1]
      · have hge : 1000000 ≤ fwA A (aP A i 2) y := by
          by_cases q : fwA A (aP A i 2) y < 1000000
          · rw [gF_lt q] at h5; omega
          · omega
        have hf : momF A x y i = 1000000 := by unfold momF; rw [ifP_pos h4, ifP_pos hge]
        refine J_bipush hX (by decide) dX7_minuteAt_47 ?_
        exact J_iret hX hR0 dX7_minuteAt_49 (pwI (by rw [gF_ge (by have := mxI_get (f := momF A x y) (i := i) (n := 24) ⟨h1, h3⟩; unfold momA; omega)]))
theorem c_minuteAt (hR : RelV m v A) (hI : InvA A C D) (hC : C ≤ 900000) (hM : RelF m v (fwA A)) (hy : inN y 6) (hex : ∃ i, aOf A i x) : K_X7_minuteAt G [vr 1 v 0, vi x, vi y] m (pw (vi (gF (momA A x y))) m) := by
  refine E_X7_minuteAt (fun X hX hR0 _ _ => ?_)
  refine J_bipush hX (by decide) dX7_minuteAt_0 ?_
  refine siN_3 hX dX7_minuteAt_2 ?_
  refine J_iconst hX (by decide) dX7_minuteAt_3 ?_
  refine si_4 hX dX7_minuteAt_4 ?_
  exact l_minuteAt hX hR0 hR hI hC hM hy hex 0 (by omega) (by omega) (-9) _ (Or.inl ⟨rfl, mxI_0 _, fun j hj => by omega⟩) (by rw [mxI_0]; omega)
end Vil
