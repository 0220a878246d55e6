/-! ===== 10d: ways, moments, copies ===== -/
section Vil
variable {G : GC} {X : JX} {Post : Option HV → HM → Prop} {m : HM} {v u x y z : Int} {A : Int → Int} {C D : Int}
/-- the class's matrix -/
def RelF (m : HM) (v : Int) (F : Int → Int → Int) : Prop := ∀ i j, inN i 6 → inN j 6 → m 5 v i j = gF (F i j)
theorem prF_s {F : Int → Int → Int} {B k a b : Int} (h : okF F B) (hk : inN k 6) (ha : inN a 6) (hb : inN b 6) {M : HM} {v : Int} (hM : RelF M v (prF F k a b)) (M' : HM) (hM' : M' 5 v a b = gF (rdF F k a b)) (hne : ∀ i j, inN i 6 → inN j 6 → ¬ (i = a ∧ j = b) → M' 5 v i j = M 5 v i j) : RelF M' v (prF F k a (b + 1)) := by
  intro i j hi hj
  by_cases q : i = a ∧ j = b
  · rw [q.1, q.2, hM']
    unfold prF
    rw [if_pos (by omega)]
  · rw [hne i j hi hj q, hM i j hi hj]
    unfold prF
    by_cases q2 : i < a ∨ (i = a ∧ j < b)
    · rw [if_pos q2, if_pos (by omega)]
    · rw [if_neg q2, if_neg (by omega)]
theorem c_shorten {F : Int → Int → Int} {k a b : Int} (hF : okF F 3840) (hk : inN k 6) (ha : inN a 6) (hb : inN b 6) (hM : RelF m v (prF F k a b)) : K_X7_shorten G [vr 1 v 0, vi a, vi k, vi b] m (pu (fun m' => FrT 5 v m m' ∧ RelF m' v (prF F k a (b + 1)))) := by
  refine E_X7_shorten (fun X hX hR0 _ _ => ?_)
  have e1 : m 5 v a k = gF (F a k) := by rw [hM a k ha hk, prF_k1 hF hk ha]
  have e2 : m 5 v k b = gF (F k b) := by rw [hM k b hk hb, prF_k2 hF hk hb]
  have e3 : m 5 v a b = gF (F a b) := by
    rw [hM a b ha hb]
    unfold prF
    rw [if_neg (by omega)]
  have b1 := hF a k ha hk
  have b2 := hF k b hk hb
  have b3 := hF a b ha hb
  have same : rdF F k a b = F a b → RelF m v (prF F k a (b + 1)) := fun q => prF_s hF hk ha hb hM m (by rw [e3, q]) (fun _ _ _ _ _ => rfl)
  have other : rdF F k a b = F a k + F k b → F a k + F k b < 1000000 → RelF (upr m 5 v a (st1 (m 5 v a) b (F a k + F k b))) v (prF F k a (b + 1)) := fun q h2 => prF_s hF hk ha hb hM _ (by rw [upr_eq, st1_eq, q, gF_lt h2]) (fun i j _ _ hn => by
    by_cases hi : i = a
    · subst hi
      rw [upr_eq, st1_ne (fun q => hn ⟨rfl, q⟩)]
    · rw [upr_i hi])
  refine J_aloadN hX rfl rfl dX7_shorten_0 ?_
  refine G_Village_far hX dX7_shorten_1 mF_X7_20 ?_
  refine J_iloadN hX rfl rfl dX7_shorten_4 ?_
  refine A_4 hX (by omega) dX7_shorten_5 ?_
  refine J_iloadN hX rfl rfl dX7_shorten_6 ?_
  refine L_5 hX (by omega) dX7_shorten_7 ?_
  rw [e1]
  refine J_if_lt (tgt := 22) hX (by decide) dX7_shorten_8 (fun h1 => ?_) (fun h1 => ?_)
  · have hfk : 1000000 ≤ F a k := by
      by_cases q : F a k < 1000000
      · rw [gF_lt q] at h1; omega
      · omega
    exact J_vret hX hR0 dX7_shorten_22 (puI ⟨FrT.rf, same (by unfold rdF; rw [if_neg (by omega)])⟩)
  · have hfk : F a k < 1000000 := by
      by_cases q : F a k < 1000000
      · exact q
      · rw [gF_ge (by omega)] at h1; omega
    refine J_aloadN hX rfl rfl dX7_shorten_11 ?_
    refine G_Village_far hX dX7_shorten_12 mF_X7_20 ?_
    refine J_iloadN hX rfl rfl dX7_shorten_15 ?_
    refine A_4 hX (by omega) dX7_shorten_16 ?_
    refine J_iloadN hX rfl rfl dX7_shorten_17 ?_
    refine L_5 hX (by omega) dX7_shorten_18 ?_
    rw [e2]
    refine J_if_ge (tgt := 23) hX (by decide) dX7_shorten_19 (fun h2 => ?_) (fun h2 => ?_)
    · have hfb : F k b < 1000000 := by
        by_cases q : F k b < 1000000
        · exact q
        · rw [gF_ge (by omega)] at h2; omega
      have c1 := b1.2.2.1 hfk
      have c2 := b2.2.2.1 hfb
      refine J_aloadN hX rfl rfl dX7_shorten_23 ?_
      refine G_Village_far hX dX7_shorten_24 mF_X7_20 ?_
      refine J_iloadN hX rfl rfl dX7_shorten_27 ?_
      refine A_4 hX (by omega) dX7_shorten_28 ?_
      refine J_iloadN hX rfl rfl dX7_shorten_29 ?_
      refine L_5 hX (by omega) dX7_shorten_30 ?_
      refine J_aloadN hX rfl rfl dX7_shorten_31 ?_
      refine G_Village_far hX dX7_shorten_32 mF_X7_20 ?_
      refine J_iloadN hX rfl rfl dX7_shorten_35 ?_
      refine A_4 hX (by omega) dX7_shorten_36 ?_
      refine J_iloadN hX rfl rfl dX7_shorten_37 ?_
      refine L_5 hX (by omega) dX7_shorten_38 ?_
      rw [e1, gF_lt hfk, e2, gF_lt hfb]
      refine J_iadd hX (fun _ _ => by omega) dX7_shorten_39 ?_
      refine si_4 hX dX7_shorten_40 ?_
      refine J_aloadN hX rfl rfl dX7_shorten_42 ?_
      refine G_Village_far hX dX7_shorten_43 mF_X7_20 ?_
      refine J_iloadN hX rfl rfl dX7_shorten_46 ?_
      refine A_4 hX (by omega) dX7_shorten_47 ?_
      refine J_iloadN hX rfl rfl dX7_shorten_48 ?_
      refine L_5 hX (by omega) dX7_shorten_49 ?_
      rw [e3]
      refine J_if_lt (tgt := 66) hX (by decide) dX7_shorten_50 (fun h3 => ?_) (fun h3 => ?_)
      · have hfab : 1000000 ≤ F a b := by
          by_cases q : F a b < 1000000
          · rw [gF_lt q] at h3; omega
          · omega
        refine J_aloadN hX rfl rfl dX7_shorten_66 ?_
        refine G_Village_far hX dX7_shorten_67 mF_X7_20 ?_
        refine J_iloadN hX rfl rfl dX7_shorten_70 ?_
        refine A_4 hX (by omega) dX7_shorten_71 ?_
        refine J_iloadN hX rfl rfl dX7_shorten_72 ?_
        refine J_iload hX rfl dX7_shorten_73 ?_
        refine S_5 hX (by omega) dX7_shorten_75 ?_
        exact J_vret hX hR0 dX7_shorten_76 (puI ⟨FrT.rf.up, other (by unfold rdF; rw [if_pos (by omega)]) (by omega)⟩)
      · have hfab : F a b < 1000000 := by
          by_cases q : F a b < 1000000
          · exact q
          · rw [gF_ge (by omega)] at h3; omega
        refine J_iload hX rfl dX7_shorten_53 ?_
        refine J_aloadN hX rfl rfl dX7_shorten_55 ?_
        refine G_Village_far hX dX7_shorten_56 mF_X7_20 ?_
        refine J_iloadN hX rfl rfl dX7_shorten_59 ?_
        refine A_4 hX (by omega) dX7_shorten_60 ?_
        refine J_iloadN hX rfl rfl dX7_shorten_61 ?_
        refine L_5 hX (by omega) dX7_shorten_62 ?_
        rw [e3, gF_lt hfab]
        refine J_icmp_ge (tgt := 76) hX (by decide) dX7_shorten_63 (fun h4 => ?_) (fun h4 => ?_)
        · skip
          exact J_vret hX hR0 dX7_shorten_76 (puI ⟨FrT.rf, same (by unfold rdF; rw [if_neg (by omega)])⟩)
        · refine J_aloadN hX rfl rfl dX7_shorten_66 ?_
          refine G_Village_far hX dX7_shorten_67 mF_X7_20 ?_
          refine J_iloadN hX rfl rfl dX7_shorten_70 ?_
          refine A_4 hX (by omega) dX7_shorten_71 ?_
          refine J_iloadN hX rfl rfl dX7_shorten_72 ?_
          refine J_iload hX rfl dX7_shorten_73 ?_
          refine S_5 hX (by omega) dX7_shorten_75 ?_
          exact J_vret hX hR0 dX7_shorten_76 (puI ⟨FrT.rf.up, other (by unfold rdF; rw [if_pos (by omega)]) (by omega)⟩)
    · have hfb : 1000000 ≤ F k b := by
        by_cases q : F k b < 1000000
        · rw [gF_lt q] at h2; omega
        · omega
      exact J_vret hX hR0 dX7_shorten_22 (puI ⟨FrT.rf, same (by unfold rdF; rw [if_neg (by omega)])⟩)
theorem RelF_c {m' : HM} {F F' : Int → Int → Int} (h : RelF m' v F) (e : ∀ i j, inN i 6 → inN j 6 → F' i j = F i j) : RelF m' v F' := fun i j hi hj => by rw [h i j hi hj, e i j hi hj]
theorem l_measure_10 (hX : Ok_X7_measure G X 3) (hR : RelV m v A) {i : Int} (hi : inN i 6) (K : ∀ M j, FrT 5 v m M → (∀ a b, inN a 6 → inN b 6 → a < i → M 5 v a b = gF (FW0 A a b)) → (∀ b, inN b 6 → M 5 v i b = if 0 < aY A i b then aY A i b else -9) → J G X 54 [vr 1 v 0, vi i, vi j, vx] [] M) : ∀ j, 0 ≤ j → j ≤ 6 → ∀ M, FrT 5 v m M → (∀ a b, inN a 6 → inN b 6 → a < i → M 5 v a b = gF (FW0 A a b)) → (∀ b, inN b j → M 5 v i b = if 0 < aY A i b then aY A i b else -9) → J G X 10 [vr 1 v 0, vi i, vi j, vx] [] M := by
  refine up_to (fun j h1 h2 ih M hfr hrow hcur => ?_)
  refine J_iloadN hX rfl rfl dX7_measure_10 ?_
  refine J_bipush hX (by decide) dX7_measure_11 ?_
  refine J_icmp_ge (tgt := 54) hX (by decide) dX7_measure_13 (fun h3 => ?_) (fun h3 => ?_)
  · exact K M j hfr hrow (fun b hb => hcur b (by omega))
  · have e3 : M 3 v i j = aY A i j := by rw [hfr 3 v i (by omega)]; exact hR.2.1 i j hi ⟨h1, h3⟩
    have done : ∀ x, x = (if 0 < aY A i j then aY A i j else -9) → J G X 10 [vr 1 v 0, vi i, vi (j + 1), vx] [] (upr M 5 v i (st1 (M 5 v i) j x)) := fun x hx => ih h3 _ hfr.up (fun a b ha hb hlt => by rw [upr_i (by omega)]; exact hrow a b ha hb hlt) (fun b hb => by
      rw [upr_eq]
      by_cases q : b = j
      · subst q; rw [st1_eq, hx]
      · rw [st1_ne q]; exact hcur b (by omega))
    refine J_aloadN hX rfl rfl dX7_measure_16 ?_
    refine G_Village_far hX dX7_measure_17 mF_X7_20 ?_
    refine J_iloadN hX rfl rfl dX7_measure_20 ?_
    refine A_4 hX (by omega) dX7_measure_21 ?_
    refine J_iloadN hX rfl rfl dX7_measure_22 ?_
    refine J_aloadN hX rfl rfl dX7_measure_23 ?_
    refine G_Village_ways hX dX7_measure_24 mF_X7_17 ?_
    refine J_iloadN hX rfl rfl dX7_measure_27 ?_
    refine A_2 hX (by omega) dX7_measure_28 ?_
    refine J_iloadN hX rfl rfl dX7_measure_29 ?_
    refine L_3 hX (by omega) dX7_measure_30 ?_
    rw [e3]
    refine J_if_le (tgt := 45) hX (by decide) dX7_measure_31 (fun h4 => ?_) (fun h4 => ?_)
    · refine J_bipush hX (by decide) dX7_measure_45 ?_
      refine S_5 hX (by omega) dX7_measure_47 ?_
      refine sinc_2 hX (fun _ => by omega) dX7_measure_48 ?_
      refine J_goto (tgt := 10) hX (by decide) dX7_measure_51 ?_
      exact done _ (by rw [if_neg (by omega)])
    · refine J_aloadN hX rfl rfl dX7_measure_34 ?_
      refine G_Village_ways hX dX7_measure_35 mF_X7_17 ?_
      refine J_iloadN hX rfl rfl dX7_measure_38 ?_
      refine A_2 hX (by omega) dX7_measure_39 ?_
      refine J_iloadN hX rfl rfl dX7_measure_40 ?_
      refine L_3 hX (by omega) dX7_measure_41 ?_
      rw [e3]
      refine J_goto (tgt := 47) hX (by decide) dX7_measure_42 ?_
      refine S_5 hX (by omega) dX7_measure_47 ?_
      refine sinc_2 hX (fun _ => by omega) dX7_measure_48 ?_
      refine J_goto (tgt := 10) hX (by decide) dX7_measure_51 ?_
      exact done _ (by rw [if_pos h4])
theorem l_measure_2 (hX : Ok_X7_measure G X 3) (hR : RelV m v A) (hI : InvA A C D) (K : ∀ M i b, FrT 5 v m M → RelF M v (FW0 A) → J G X 69 [vr 1 v 0, vi i, b, vx] [] M) : ∀ i, 0 ≤ i → i ≤ 6 → ∀ M b, FrT 5 v m M → (∀ a b, inN a 6 → inN b 6 → a < i → M 5 v a b = gF (FW0 A a b)) → J G X 2 [vr 1 v 0, vi i, b, vx] [] M := by
  refine up_to (fun i h1 h2 ih M b0 hfr hrow => ?_)
  refine J_iloadN hX rfl rfl dX7_measure_2 ?_
  refine J_bipush hX (by decide) dX7_measure_3 ?_
  refine J_icmp_ge (tgt := 69) hX (by decide) dX7_measure_5 (fun h3 => ?_) (fun h3 => ?_)
  · exact K M i b0 hfr (fun a b ha hb => hrow a b ha hb (by omega))
  · refine J_iconst hX (by decide) dX7_measure_8 ?_
    refine siN_2 hX dX7_measure_9 ?_
    refine l_measure_10 hX hR ⟨h1, h3⟩ (fun M j hfr hrow hcur => ?_) 0 (by omega) (by omega) M hfr hrow (fun b hb => by omega)
    refine J_aloadN hX rfl rfl dX7_measure_54 ?_
    refine G_Village_far hX dX7_measure_55 mF_X7_20 ?_
    refine J_iloadN hX rfl rfl dX7_measure_58 ?_
    refine A_4 hX (by omega) dX7_measure_59 ?_
    refine J_iloadN hX rfl rfl dX7_measure_60 ?_
    refine J_iconst hX (by decide) dX7_measure_61 ?_
    refine S_5 hX (by omega) dX7_measure_62 ?_
    refine sinc_1 hX (fun _ => by omega) dX7_measure_63 ?_
    refine J_goto (tgt := 2) hX (by decide) dX7_measure_66 ?_
    exact ih h3 _ _ hfr.up (fun a b ha hb hlt => by
      by_cases q : a = i
      · subst q
        rw [upr_eq]
        by_cases q2 : b = a
        · subst q2
          rw [st1_eq]
          unfold FW0
          rw [if_pos rfl]
          rfl
        · rw [st1_ne q2, hcur b hb]
          unfold FW0
          rw [if_neg (Ne.symm q2)]
          by_cases q3 : 0 < aY A a b
          · rw [if_pos q3, if_pos q3, gF_lt]
            have := hI.2.1 a b ha hb
            omega
          · rw [if_neg q3, if_neg q3]
            rfl
      · rw [upr_i q]
        exact hrow a b ha hb (by omega))
theorem l_measure_87 (hX : Ok_X7_measure G X 3) {F : Int → Int → Int} {k a : Int} (hF : okF F 3840) (hk : inN k 6) (ha : inN a 6) (K : ∀ M b, FrT 5 v m M → RelF M v (prF F k (a + 1) 0) → J G X 106 [vr 1 v 0, vi k, vi a, b] [] M) : ∀ b, 0 ≤ b → b ≤ 6 → ∀ M, FrT 5 v m M → RelF M v (prF F k a b) → J G X 87 [vr 1 v 0, vi k, vi a, vi b] [] M := by
  refine up_to (fun b h1 h2 ih M hfr hM => ?_)
  refine J_iloadN hX rfl rfl dX7_measure_87 ?_
  refine J_bipush hX (by decide) dX7_measure_88 ?_
  refine J_icmp_ge (tgt := 106) hX (by decide) dX7_measure_90 (fun h3 => ?_) (fun h3 => ?_)
  · have e : b = 6 := by omega
    subst e
    exact K M _ hfr (RelF_c hM (fun i j hi hj => (prF_row hj).symm))
  · refine J_aloadN hX rfl rfl dX7_measure_93 ?_
    refine J_iloadN hX rfl rfl dX7_measure_94 ?_
    refine J_iloadN hX rfl rfl dX7_measure_95 ?_
    refine J_iloadN hX rfl rfl dX7_measure_96 ?_
    refine cV3u hX cb_X7_shorten mL_X7_133 dX7_measure_97 (c_shorten hF hk ha ⟨h1, h3⟩ hM) (fun m' h => ?_)
    refine sinc_3 hX (fun _ => by omega) dX7_measure_100 ?_
    refine J_goto (tgt := 87) hX (by decide) dX7_measure_103 ?_
    exact ih h3 _ (hfr.tr h.1) h.2
theorem l_measure_79 (hX : Ok_X7_measure G X 3) {F : Int → Int → Int} {k : Int} (hF : okF F 3840) (hk : inN k 6) (K : ∀ M a b, FrT 5 v m M → RelF M v (rdF F k) → J G X 112 [vr 1 v 0, vi k, a, b] [] M) : ∀ a, 0 ≤ a → a ≤ 6 → ∀ M b, FrT 5 v m M → RelF M v (prF F k a 0) → J G X 79 [vr 1 v 0, vi k, vi a, b] [] M := by
  refine up_to (fun a h1 h2 ih M b hfr hM => ?_)
  refine J_iloadN hX rfl rfl dX7_measure_79 ?_
  refine J_bipush hX (by decide) dX7_measure_80 ?_
  refine J_icmp_ge (tgt := 112) hX (by decide) dX7_measure_82 (fun h3 => ?_) (fun h3 => ?_)
  · have e : a = 6 := by omega
    subst e
    exact K M _ _ hfr (RelF_c hM (fun i j hi hj => (prF_end hi).symm))
  · refine J_iconst hX (by decide) dX7_measure_85 ?_
    refine siN_3 hX dX7_measure_86 ?_
    refine l_measure_87 hX hF hk ⟨h1, h3⟩ (fun M b hfr hM => ?_) 0 (by omega) (by omega) M hfr hM
    refine sinc_2 hX (fun _ => by omega) dX7_measure_106 ?_
    refine J_goto (tgt := 79) hX (by decide) dX7_measure_109 ?_
    exact ih h3 _ _ hfr hM
theorem l_measure_71 (hX : Ok_X7_measure G X 3) (hR0 : JRt G X (pu (fun m' => FrT 5 v m m' ∧ RelF m' v (fwA A))) none) (hI : InvA A C D) : ∀ k, 0 ≤ k → k ≤ 6 → ∀ M a b, FrT 5 v m M → RelF M v (fwK A k.toNat) → J G X 71 [vr 1 v 0, vi k, a, b] [] M := by
  refine up_to (fun k h1 h2 ih M a b hfr hM => ?_)
  refine J_iloadN hX rfl rfl dX7_measure_71 ?_
  refine J_bipush hX (by decide) dX7_measure_72 ?_
  refine J_icmp_ge (tgt := 118) hX (by decide) dX7_measure_74 (fun h3 => ?_) (fun h3 => ?_)
  · have e : k = 6 := by omega
    subst e
    exact J_vret hX hR0 dX7_measure_118 (puI ⟨hfr, hM⟩)
  · refine J_iconst hX (by decide) dX7_measure_77 ?_
    refine siN_2 hX dX7_measure_78 ?_
    refine l_measure_79 hX (okFn hI (n := k.toNat) (by omega)) ⟨h1, h3⟩ (fun M a b hfr hM => ?_) 0 (by omega) (by omega) M b hfr (RelF_c hM (fun i j hi hj => prF_00 _ _ hi.1 hj.1))
    refine sinc_1 hX (fun _ => by omega) dX7_measure_112 ?_
    refine J_goto (tgt := 71) hX (by decide) dX7_measure_115 ?_
    refine ih h3 _ _ _ hfr (RelF_c hM (fun i j hi hj => ?_))
    rw [show (k + 1).toNat = k.toNat + 1 by omega]
    show rdF (fwK A k.toNat) ((k.toNat : Nat) : Int) i j = _
    rw [Int.toNat_of_nonneg h1]
theorem c_measure (hR : RelV m v A) (hI : InvA A C D) : K_X7_measure G [vr 1 v 0] m (pu (fun m' => FrT 5 v m m' ∧ RelF m' v (fwA A))) := by
  refine E_X7_measure (fun X hX hR0 _ _ => ?_)
  refine J_iconst hX (by decide) dX7_measure_0 ?_
  refine siN_1 hX dX7_measure_1 ?_
  refine l_measure_2 hX hR hI (fun M i b hfr hM => ?_) 0 (by omega) (by omega) m _ FrT.rf (fun a b ha hb hlt => by omega)
  refine J_iconst hX (by decide) dX7_measure_69 ?_
  refine siN_1 hX dX7_measure_70 ?_
  exact l_measure_71 hX hR0 hI 0 (by omega) (by omega) M _ _ hfr hM
end Vil
