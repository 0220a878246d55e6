/-! ===== 33b: the class's Quartering: listHows, gain, fillGains ===== -/
def amH (x : Int) : Int := if 0 < x then 4 else 0
def bmH (x a : Int) : Int := if 1 < x then 4 - a else 0
def cmH (x a b : Int) : Int := if 2 < x then 4 - a - b else 0
def cH2 (x a b i : Int) : List (List Int) := upL (fun c => [[a, b, c]]) i (cmH x a b + 1 - i).toNat
def cH1 (x a i : Int) : List (List Int) := upL (fun b => cH2 x a b 0) i (bmH x a + 1 - i).toNat
def cH0 (x i : Int) : List (List Int) := upL (fun a => cH1 x a 0) i (amH x + 1 - i).toNat
theorem cH_hr : ∀ W, W < 4 → cH0 (W : Nat) 0 = (hrL W 4).map (fun t => [cp 0 t, cp 1 t, cp 2 t]) ∧ (hrL W 4).length ≤ 35 := by decide +kernel
theorem upL_s {α : Type} {f : Int → List α} {lo hi : Int} (h : lo ≤ hi) : upL f lo (hi + 1 - lo).toNat = f lo ++ upL f (lo + 1) (hi + 1 - (lo + 1)).toNat := by
  rw [show (hi + 1 - lo).toNat = (hi + 1 - (lo + 1)).toNat + 1 by omega]
  rfl
theorem upL_0 {α : Type} {f : Int → List α} {lo hi : Int} (h : hi < lo) : upL f lo (hi + 1 - lo).toNat = [] := by
  rw [show (hi + 1 - lo).toNat = 0 by omega]
  rfl
section Qu
variable {G : GC} {X : JX} {m : HM} {κ p t τ w x y z i k q b v e a s : Int} {A N S g F : Int → Int} {H C D : Int}
def RelH (m : HM) (l : List (List Int)) : Prop := m 23 0 0 1 = (l.length : Int) ∧ ∀ (i : Nat) (t : List Int), l[i]? = some t → ∀ k, inN k 3 → m 25 0 i k = cp k t
def FrH (m m' : HM) : Prop := (∀ t v i, t ≠ 25 → t ≠ 23 → m' t v i = m t v i) ∧ ∀ k, k ≠ 1 → m' 23 0 0 k = m 23 0 0 k
theorem FrH.rf : FrH m m := ⟨fun _ _ _ _ _ => rfl, fun _ _ => rfl⟩
theorem FrH.app {m' : HM} (h : FrH m m') {i x : Int} {f : Int → Int} : FrH m (upr (upr m' 25 0 i f) 23 0 0 (st1 (m' 23 0 0) 1 x)) := ⟨fun t v' i' a b => by
    rw [upr_tag b, upr_tag a]
    exact h.1 t v' i' a b, fun k a => by
    rw [upr_eq, st1_ne a]
    exact h.2 k a⟩
theorem RelH.app {l : List (List Int)} (h : RelH m l) : RelH (upr (upr m 25 0 (l.length : Int) (st1 (st1 (st1 (m 25 0 (l.length : Int)) 0 a) 1 b) 2 i)) 23 0 0 (st1 (m 23 0 0) 1 ((l.length : Int) + 1))) (l ++ [[a, b, i]]) := by
  refine ⟨?_, fun j t hj k hk => ?_⟩
  · rw [upr_eq, st1_eq, List.length_append]
    rfl
  · rw [upr_tag (by decide)]
    by_cases q : j < l.length
    · rw [List.getElem?_append_left q] at hj
      rw [upr_i (by omega)]
      exact h.2 j t hj k hk
    · rw [List.getElem?_append_right (by omega)] at hj
      have e : j = l.length := by
        rcases Nat.lt_or_ge 0 (j - l.length) with z | z
        · rw [List.getElem?_eq_none (by show [[a, b, i]].length ≤ j - l.length; exact z)] at hj
          cases hj
        · omega
      rw [e, Nat.sub_self] at hj
      have et : t = [a, b, i] := (Option.some.inj hj).symm
      rw [e, upr_eq, et]
      rcases (show k = 0 ∨ k = 1 ∨ k = 2 by omega) with rfl | rfl | rfl
      · rw [st1_ne (by decide), st1_ne (by decide), st1_eq]; rfl
      · rw [st1_ne (by decide), st1_eq]; rfl
      · rw [st1_eq]; rfl
theorem l_lh3 {m0 : HM} {L r : List (List Int)} (hX : Ok_X5_listHows G X 2) (ha : 0 ≤ a ∧ a ≤ 4) (hb : 0 ≤ b ∧ b ≤ 4) (hc : 0 ≤ cmH x a b ∧ cmH x a b ≤ 4) (hL : L.length ≤ 35) (K122 : ∀ M l c, FrH m0 M → RelH M l → l ++ r = L → J G X 122 [vr 23 0 0, vi x, vi a, vi b, c] [] M) : ∀ i, 0 ≤ i → i ≤ cmH x a b + 1 → ∀ M l, FrH m0 M → RelH M l → l ++ (cH2 x a b i ++ r) = L → J G X 41 [vr 23 0 0, vi x, vi a, vi b, vi i] [] M := by
  refine up_to (fun i h1 h2 ih M l hfr hR he => ?_)
  have K57 : ∀ y, y = cmH x a b → J G X 57 [vr 23 0 0, vi x, vi a, vi b, vi i] [vi y, vi i] M := fun y hy => by
    subst hy
    refine J_icmp_gt (tgt := 122) hX (by decide) dX5_listHows_57 (fun h3 => ?_) (fun h3 => ?_)
    · have e : cH2 x a b i = [] := upL_0 h3
      rw [e, List.nil_append] at he
      exact K122 M l _ hfr hR he
    · have e : cH2 x a b i = [[a, b, i]] ++ cH2 x a b (i + 1) := upL_s h3
      rw [e] at he
      have hlen : (l.length : Int) < 35 := by
        have := congrArg List.length he
        rw [List.length_append, List.length_append, List.length_append] at this
        have e1 : [[a, b, i]].length = 1 := rfl
        omega
      refine J_aloadN hX rfl rfl dX5_listHows_60 ?_
      refine G_Quartering_howCount hX dX5_listHows_61 mF_X5_57 ?_
      refine J_bipush hX (by decide) dX5_listHows_64 ?_
      rw [hR.1]
      refine J_icmp_ge (tgt := 116) hX (by decide) dX5_listHows_66 (fun h4 => ?_) (fun h4 => ?_)
      · omega
      · refine J_aloadN hX rfl rfl dX5_listHows_69 ?_
        refine G_Quartering_hows hX dX5_listHows_70 mF_X5_11 ?_
        refine J_aloadN hX rfl rfl dX5_listHows_73 ?_
        refine G_Quartering_howCount hX dX5_listHows_74 mF_X5_57 ?_
        rw [hR.1]
        refine A_24 hX (by omega) dX5_listHows_77 ?_
        refine J_iconst hX (by decide) dX5_listHows_78 ?_
        refine J_iloadN hX rfl rfl dX5_listHows_79 ?_
        refine S_25 hX (by omega) dX5_listHows_80 ?_
        refine J_aloadN hX rfl rfl dX5_listHows_81 ?_
        refine G_Quartering_hows hX dX5_listHows_82 mF_X5_11 ?_
        refine J_aloadN hX rfl rfl dX5_listHows_85 ?_
        refine G_Quartering_howCount hX dX5_listHows_86 mF_X5_57 ?_
        simp only [upr_t, Nat.reduceBEq]
        rw [hR.1]
        refine A_24 hX (by omega) dX5_listHows_89 ?_
        refine J_iconst hX (by decide) dX5_listHows_90 ?_
        refine J_iloadN hX rfl rfl dX5_listHows_91 ?_
        refine S_25 hX (by omega) dX5_listHows_92 ?_
        refine J_aloadN hX rfl rfl dX5_listHows_93 ?_
        refine G_Quartering_hows hX dX5_listHows_94 mF_X5_11 ?_
        refine J_aloadN hX rfl rfl dX5_listHows_97 ?_
        refine G_Quartering_howCount hX dX5_listHows_98 mF_X5_57 ?_
        simp only [upr_t, Nat.reduceBEq]
        rw [hR.1]
        refine A_24 hX (by omega) dX5_listHows_101 ?_
        refine J_iconst hX (by decide) dX5_listHows_102 ?_
        refine J_iload hX rfl dX5_listHows_103 ?_
        refine S_25 hX (by omega) dX5_listHows_105 ?_
        refine J_aloadN hX rfl rfl dX5_listHows_106 ?_
        refine J_dup hX rfl dX5_listHows_107 ?_
        refine G_Quartering_howCount hX dX5_listHows_108 mF_X5_57 ?_
        simp only [upr_t, Nat.reduceBEq]
        rw [hR.1]
        refine J_iconst hX (by decide) dX5_listHows_111 ?_
        refine J_iadd hX (fun _ _ => by omega) dX5_listHows_112 ?_
        refine P_Quartering_howCount hX dX5_listHows_113 mF_X5_57 ?_
        refine sinc_4 hX (fun _ => by omega) dX5_listHows_116 ?_
        refine J_goto (tgt := 41) hX (by decide) dX5_listHows_119 ?_
        simp only [upr_upr, upr_eq, upr_t, Nat.reduceBEq]
        exact ih (by omega) _ _ hfr.app hR.app (by rw [List.append_assoc, ← List.append_assoc [[a, b, i]]]; exact he)
  refine J_iload hX rfl dX5_listHows_41 ?_
  refine J_iloadN hX rfl rfl dX5_listHows_43 ?_
  refine J_iconst hX (by decide) dX5_listHows_44 ?_
  refine J_icmp_le (tgt := 56) hX (by decide) dX5_listHows_45 (fun h5 => ?_) (fun h5 => ?_)
  · refine J_iconst hX (by decide) dX5_listHows_56 ?_
    exact K57 _ (by unfold cmH; rw [if_neg (by omega)])
  · refine J_iconst hX (by decide) dX5_listHows_48 ?_
    refine J_iloadN hX rfl rfl dX5_listHows_49 ?_
    refine J_isub hX (fun _ _ => by omega) dX5_listHows_50 ?_
    refine J_iloadN hX rfl rfl dX5_listHows_51 ?_
    refine J_isub hX (fun _ _ => by omega) dX5_listHows_52 ?_
    refine J_goto (tgt := 57) hX (by decide) dX5_listHows_53 ?_
    exact K57 _ (by unfold cmH; rw [if_pos h5])
theorem l_lh2 {m0 : HM} {L r : List (List Int)} (hX : Ok_X5_listHows G X 2) (ha : 0 ≤ a ∧ a ≤ 4) (hc : 0 ≤ bmH x a ∧ bmH x a ≤ 4) (hL : L.length ≤ 35) (K128 : ∀ M l c d, FrH m0 M → RelH M l → l ++ r = L → J G X 128 [vr 23 0 0, vi x, vi a, c, d] [] M) : ∀ i, 0 ≤ i → i ≤ bmH x a + 1 → ∀ M l d, FrH m0 M → RelH M l → l ++ (cH1 x a i ++ r) = L → J G X 22 [vr 23 0 0, vi x, vi a, vi i, d] [] M := by
  refine up_to (fun i h1 h2 ih M l d hfr hR he => ?_)
  have K35 : ∀ y, y = bmH x a → J G X 35 [vr 23 0 0, vi x, vi a, vi i, d] [vi y, vi i] M := fun y hy => by
    subst hy
    refine J_icmp_gt (tgt := 128) hX (by decide) dX5_listHows_35 (fun h3 => ?_) (fun h3 => ?_)
    · have e : cH1 x a i = [] := upL_0 h3
      rw [e, List.nil_append] at he
      exact K128 M l _ _ hfr hR he
    · have e : cH1 x a i = cH2 x a i 0 ++ cH1 x a (i + 1) := upL_s h3
      rw [e, List.append_assoc] at he
      have hcm : 0 ≤ cmH x a i ∧ cmH x a i ≤ 4 := by
        unfold cmH
        unfold bmH at h3
        by_cases q : 2 < x
        · rw [if_pos q]
          rw [if_pos (by omega)] at h3
          omega
        · rw [if_neg q]
          omega
      refine J_iconst hX (by decide) dX5_listHows_38 ?_
      refine si_4 hX dX5_listHows_39 ?_
      refine l_lh3 hX ha (by omega) hcm hL (fun M' l' c' hfr' hR' he' => ?_) 0 (by omega) (by omega) M l hfr hR he
      refine sinc_3 hX (fun _ => by omega) dX5_listHows_122 ?_
      refine J_goto (tgt := 22) hX (by decide) dX5_listHows_125 ?_
      exact ih (by omega) M' l' _ hfr' hR' he'
  refine J_iloadN hX rfl rfl dX5_listHows_22 ?_
  refine J_iloadN hX rfl rfl dX5_listHows_23 ?_
  refine J_iconst hX (by decide) dX5_listHows_24 ?_
  refine J_icmp_le (tgt := 34) hX (by decide) dX5_listHows_25 (fun h5 => ?_) (fun h5 => ?_)
  · refine J_iconst hX (by decide) dX5_listHows_34 ?_
    exact K35 _ (by unfold bmH; rw [if_neg (by omega)])
  · refine J_iconst hX (by decide) dX5_listHows_28 ?_
    refine J_iloadN hX rfl rfl dX5_listHows_29 ?_
    refine J_isub hX (fun _ _ => by omega) dX5_listHows_30 ?_
    refine J_goto (tgt := 35) hX (by decide) dX5_listHows_31 ?_
    exact K35 _ (by unfold bmH; rw [if_pos h5])
theorem l_lh1 {m0 : HM} {L : List (List Int)} (hX : Ok_X5_listHows G X 2) (hL : L.length ≤ 35) (hR0 : JRt G X (pu (fun m' => FrH m0 m' ∧ RelH m' L)) none) : ∀ i, 0 ≤ i → i ≤ amH x + 1 → ∀ M l c d, FrH m0 M → RelH M l → l ++ cH0 x i = L → J G X 7 [vr 23 0 0, vi x, vi i, c, d] [] M := by
  have ham : amH x ≤ 4 := by unfold amH; split <;> omega
  refine up_to (fun i h1 h2 ih M l c d hfr hR he => ?_)
  have K17 : ∀ y, y = amH x → J G X 17 [vr 23 0 0, vi x, vi i, c, d] [vi y, vi i] M := fun y hy => by
    subst hy
    refine J_icmp_gt (tgt := 134) hX (by decide) dX5_listHows_17 (fun h3 => ?_) (fun h3 => ?_)
    · have e : cH0 x i = [] := upL_0 h3
      rw [e, List.append_nil] at he
      subst he
      exact J_vret hX hR0 dX5_listHows_134 (puI ⟨hfr, hR⟩)
    · have e : cH0 x i = cH1 x i 0 ++ cH0 x (i + 1) := upL_s h3
      rw [e] at he
      have hbm : 0 ≤ bmH x i ∧ bmH x i ≤ 4 := by
        unfold bmH
        split <;> omega
      refine J_iconst hX (by decide) dX5_listHows_20 ?_
      refine siN_3 hX dX5_listHows_21 ?_
      refine l_lh2 hX (by omega) hbm hL (fun M' l' c' d' hfr' hR' he' => ?_) 0 (by omega) (by omega) M l _ hfr hR he
      refine sinc_2 hX (fun _ => by omega) dX5_listHows_128 ?_
      refine J_goto (tgt := 7) hX (by decide) dX5_listHows_131 ?_
      exact ih (by omega) M' l' _ _ hfr' hR' he'
  refine J_iloadN hX rfl rfl dX5_listHows_7 ?_
  refine J_iloadN hX rfl rfl dX5_listHows_8 ?_
  refine J_if_le (tgt := 16) hX (by decide) dX5_listHows_9 (fun h5 => ?_) (fun h5 => ?_)
  · refine J_iconst hX (by decide) dX5_listHows_16 ?_
    exact K17 _ (by unfold amH; rw [if_neg (by omega)])
  · refine J_iconst hX (by decide) dX5_listHows_12 ?_
    refine J_goto (tgt := 17) hX (by decide) dX5_listHows_13 ?_
    exact K17 _ (by unfold amH; rw [if_pos h5])
theorem c_listHows (hx : 0 ≤ x ∧ x ≤ 3) : K_X5_listHows G [vr 23 0 0, vi x] m (pu (fun m' => FrH m m' ∧ RelH m' ((hrL x.toNat 4).map (fun t => [cp 0 t, cp 1 t, cp 2 t])))) := by
  refine E_X5_listHows (fun X hX hR0 _ _ => ?_)
  obtain ⟨h1, h2⟩ := cH_hr x.toNat (by omega)
  rw [Int.toNat_of_nonneg hx.1] at h1
  have ham : 0 ≤ amH x := by unfold amH; split <;> omega
  refine J_aloadN hX rfl rfl dX5_listHows_0 ?_
  refine J_iconst hX (by decide) dX5_listHows_1 ?_
  refine P_Quartering_howCount hX dX5_listHows_2 mF_X5_57 ?_
  refine J_iconst hX (by decide) dX5_listHows_5 ?_
  refine siN_2 hX dX5_listHows_6 ?_
  exact l_lh1 hX (by rw [List.length_map]; exact h2) hR0 0 (by omega) (by omega) _ [] _ _ ⟨fun t v' i' a b => by rw [upr_tag b], fun k a => by rw [upr_eq, st1_ne a]⟩ ⟨by rw [upr_eq, st1_eq]; rfl, fun i t hi => by simp at hi⟩ (by rw [List.nil_append]; exact h1)
theorem c_mix (hx : 0 ≤ x ∧ x ≤ 4) (hy : 0 ≤ y ∧ y ≤ 4) (hz : 0 ≤ z ∧ z ≤ 4) : K_X5_mix G [vi x, vi y, vi z] m (pw (vi (mxq x y z)) m) := by
  refine E_X5_mix (fun X hX hR0 _ _ => ?_)
  refine J_iloadN hX rfl rfl dX5_mix_0 ?_
  refine J_iconst hX (by decide) dX5_mix_1 ?_
  refine J_imul hX (fun _ _ => by omega) dX5_mix_2 ?_
  refine J_iloadN hX rfl rfl dX5_mix_3 ?_
  refine J_iadd hX (fun _ _ => by omega) dX5_mix_4 ?_
  refine J_iconst hX (by decide) dX5_mix_5 ?_
  refine J_imul hX (fun _ _ => by omega) dX5_mix_6 ?_
  refine J_iloadN hX rfl rfl dX5_mix_7 ?_
  refine J_iadd hX (fun _ _ => by omega) dX5_mix_8 ?_
  exact J_iret hX hR0 dX5_mix_9 (pwI (by unfold mxq; rfl))
theorem c_addQuarters (hR : RelV m v A) (hI : InvA A C D) (hr : RelE m 3 κ N S H) (hS : ∀ k, inN k 3 → 0 ≤ S k ∧ S k ≤ 38000) (hH : inN H 64) (hκ : 0 ≤ κ ∧ κ ≤ 5) (hp : inN p (A 1)) (hx : 1 ≤ x ∧ x ≤ 4) : K_X5_addQuarters G [vr 23 0 0, vr 1 v 0, vi p, vi x] m (pu (fun m' => FrE 3 m m' ∧ RelE m' 3 κ N (fun k => S k + if aG A p 3 ≤ 3 * x then gv κ k (aG A p k) (3 * x) 0 else 0) (orI H (p2 p)))) := by
  refine E_X5_addQuarters (fun X hX hR0 _ _ => ?_)
  have h0 := hI.1
  have hg := (hI.2.2.1 p hp)
  have hv := hR.2.2.1 p hp
  refine J_iloadN hX rfl rfl dX5_addQuarters_0 ?_
  refine J_iconst hX (by decide) dX5_addQuarters_1 ?_
  refine J_imul hX (fun _ _ => by omega) dX5_addQuarters_2 ?_
  refine si_4 hX dX5_addQuarters_3 ?_
  refine J_iload hX rfl dX5_addQuarters_5 ?_
  refine J_aloadN hX rfl rfl dX5_addQuarters_7 ?_
  refine G_Village_persons hX dX5_addQuarters_8 mF_X5_91 ?_
  refine J_iloadN hX rfl rfl dX5_addQuarters_11 ?_
  refine A_6 hX (by omega) dX5_addQuarters_12 ?_
  refine G_Person_least hX dX5_addQuarters_13 mF_X5_95 ?_
  rw [hv.1]
  refine J_icmp_ge (tgt := 30) hX (by decide) dX5_addQuarters_16 (fun h1 => ?_) (fun h1 => ?_)
  · refine J_aloadN hX rfl rfl dX5_addQuarters_30 ?_
    refine G_Quartering_effort hX dX5_addQuarters_31 mF_X5_24 ?_
    refine J_iloadN hX rfl rfl dX5_addQuarters_34 ?_
    refine J_aloadN hX rfl rfl dX5_addQuarters_35 ?_
    refine G_Village_persons hX dX5_addQuarters_36 mF_X5_91 ?_
    refine J_iloadN hX rfl rfl dX5_addQuarters_39 ?_
    refine A_6 hX (by omega) dX5_addQuarters_40 ?_
    refine J_iload hX rfl dX5_addQuarters_41 ?_
    refine J_iconst hX (by decide) dX5_addQuarters_43 ?_
    refine cV4u hX cb_X1_add mL_X5_103 dX5_addQuarters_44 (c_add (g := aG A p) hr hS hH hκ (by omega) (fun k hk => ⟨hv.2 k hk, hg.2.2 k hk⟩) (by omega) (by omega)) (fun m2 hm2 => ?_)
    exact J_vret hX hR0 dX5_addQuarters_47 (puI ⟨hm2.1, hm2.2.1, hm2.2.2.1, hm2.2.2.2.1, fun k hk => (hm2.2.2.2.2 k hk).trans (by show S k + gv κ k (aG A p k) (x * 3) 0 = S k + (if aG A p 3 ≤ 3 * x then gv κ k (aG A p k) (3 * x) 0 else 0); rw [if_pos (by omega), Int.mul_comm 3 x])⟩)
  · refine J_aloadN hX rfl rfl dX5_addQuarters_19 ?_
    refine G_Quartering_effort hX dX5_addQuarters_20 mF_X5_24 ?_
    refine J_iloadN hX rfl rfl dX5_addQuarters_23 ?_
    refine cV1u hX cb_X1_stand mL_X5_100 dX5_addQuarters_24 (c_stand hr (show inN p 6 by omega) hH) (fun m2 hm2 => ?_)
    refine J_goto (tgt := 47) hX (by decide) dX5_addQuarters_27 ?_
    exact J_vret hX hR0 dX5_addQuarters_47 (puI ⟨hm2.1, hm2.2.1, hm2.2.2.1, hm2.2.2.2.1, fun k hk => (hm2.2.2.2.2 k hk).trans (by show S k = S k + (if aG A p 3 ≤ 3 * x then gv κ k (aG A p k) (3 * x) 0 else 0); rw [if_neg (by omega), Int.add_zero])⟩)
def gQ (A : Int → Int) (x p : Int) : Prop := 0 < mq x p ∧ p < A 1
noncomputable def gT (A : Int → Int) (w x k p : Int) : Int := ifP (gQ A x p ∧ aG A p 3 ≤ 3 * mq x p) (gv (aW A w 0) k (aG A p k) (3 * mq x p) 0) 0
def gTN (f : Int → Int) : Nat → Int
  | 0 => 0
  | n + 1 => gTN f n + f (2 - n)
noncomputable def gHN (Q : Int → Prop) : Nat → Int
  | 0 => 0
  | n + 1 => ifP (Q (2 - n)) (orI (gHN Q n) (p2 (2 - n))) (gHN Q n)
theorem mq_b (hx : inN x 125) (hp : inN p 3) : 0 ≤ mq x p ∧ mq x p ≤ 4 := by
  unfold mq
  split
  · omega
  · split <;> omega
theorem gT_b (hI : InvA A C D) (hx : inN x 125) (hp : inN p 3) (hk : inN k 3) : 0 ≤ gT A w x k p ∧ gT A w x k p ≤ 1440 := by
  have hb := mq_b hx hp
  unfold gT
  by_cases q : gQ A x p ∧ aG A p 3 ≤ 3 * mq x p
  · rw [ifP_pos q]
    exact gv_b ((hI.2.2.1 p ⟨hp.1, q.1.2⟩).2.2 k hk) (by omega) (by omega)
  · rw [ifP_neg q]; omega
theorem gTN_b (hI : InvA A C D) (hx : inN x 125) (hk : inN k 3) : ∀ n : Nat, n ≤ 3 → 0 ≤ gTN (gT A w x k) n ∧ gTN (gT A w x k) n ≤ 1440 * n := by
  intro n
  induction n with
  | zero => intro _; show 0 ≤ (0 : Int) ∧ (0 : Int) ≤ 1440 * ((0 : Nat) : Int); omega
  | succ n ih =>
    intro hn
    have h1 := ih (by omega)
    have h2 := gT_b (w := w) (p := 2 - n) hI hx (by omega) hk
    show 0 ≤ gTN (gT A w x k) n + gT A w x k (2 - n) ∧ gTN (gT A w x k) n + gT A w x k (2 - n) ≤ 1440 * ((n + 1 : Nat) : Int)
    omega
theorem gHN_b {Q : Int → Prop} : ∀ n : Nat, n ≤ 3 → inN (gHN Q n) 64 := by
  intro n
  induction n with
  | zero => intro _; show inN (0 : Int) 64; omega
  | succ n ih =>
    intro hn
    show inN (ifP (Q (2 - n)) (orI (gHN Q n) (p2 (2 - n))) (gHN Q n)) 64
    by_cases q : Q (2 - n)
    · rw [ifP_pos q]; exact orI_b (ih (by omega)) (p2_b (by omega)).1
    · rw [ifP_neg q]; exact ih (by omega)
theorem gH_eq (Q : Int → Prop) : gHN Q 3 = oI Q (fun p => p) 3 := by
  show ifP (Q 0) (orI (ifP (Q 1) (orI (ifP (Q 2) (orI 0 (p2 2)) 0) (p2 1)) (ifP (Q 2) (orI 0 (p2 2)) 0)) (p2 0)) (ifP (Q 1) (orI (ifP (Q 2) (orI 0 (p2 2)) 0) (p2 1)) (ifP (Q 2) (orI 0 (p2 2)) 0)) = ifP (Q 2) (orI (ifP (Q 1) (orI (ifP (Q 0) (orI 0 (p2 0)) 0) (p2 1)) (ifP (Q 0) (orI 0 (p2 0)) 0)) (p2 2)) (ifP (Q 1) (orI (ifP (Q 0) (orI 0 (p2 0)) 0) (p2 1)) (ifP (Q 0) (orI 0 (p2 0)) 0))
  by_cases q0 : Q 0 <;> by_cases q1 : Q 1 <;> by_cases q2 : Q 2 <;> simp only [ifP_pos, ifP_neg, q0, q1, q2, not_false_eq_true] <;> decide +kernel
theorem oI_cut {Q : Int → Prop} {f : Int → Int} {n : Int} (hn : 0 ≤ n ∧ n ≤ 3) (h : ∀ p, n ≤ p → ¬ Q p) : oI Q f 3 = oI Q f n := by
  rcases (show n = 0 ∨ n = 1 ∨ n = 2 ∨ n = 3 by omega) with rfl | rfl | rfl | rfl
  · rw [show (3 : Int) = 2 + 1 by rfl, oI_f (by omega) (h 2 (by omega)), show (2 : Int) = 1 + 1 by rfl, oI_f (by omega) (h 1 (by omega)), show (1 : Int) = 0 + 1 by rfl, oI_f (by omega) (h 0 (by omega))]
  · rw [show (3 : Int) = 2 + 1 by rfl, oI_f (by omega) (h 2 (by omega)), show (2 : Int) = 1 + 1 by rfl, oI_f (by omega) (h 1 (by omega))]
  · rw [show (3 : Int) = 2 + 1 by rfl, oI_f (by omega) (h 2 (by omega))]
  · rfl
theorem sumI_cut {f : Int → Int} {n : Int} (hn : 0 ≤ n ∧ n ≤ 3) (h : ∀ p, n ≤ p → f p = 0) : sumI f 3 = sumI f n := by
  have e : sumI f 3 = 0 + f 0 + f 1 + f 2 := rfl
  rcases (show n = 0 ∨ n = 1 ∨ n = 2 ∨ n = 3 by omega) with rfl | rfl | rfl | rfl
  · have := h 0 (by omega); have := h 1 (by omega); have := h 2 (by omega); have e2 : sumI f 0 = 0 := rfl; omega
  · have := h 1 (by omega); have := h 2 (by omega); have e2 : sumI f 1 = 0 + f 0 := rfl; omega
  · have := h 2 (by omega); have e2 : sumI f 2 = 0 + f 0 + f 1 := rfl; omega
  · rfl
theorem gain_eq (hI : InvA A C D) (h3 : few3 A) (hw : inN w (A 2)) : doneS (aW A w 0) (nW A w) (fun k => gTN (gT A w x k) 3) (gHN (gQ A x) 3) ↔ qdn A (mqF x) w := by
  have h0 := hI.1
  have h31 := h3.1
  have h32 := h3.2
  have em : ∀ p, mqF x (6 * p + w) = mq x p := fun p => by unfold mqF; rw [show (6 * p + w) / 6 = p by omega]
  have eH : gHN (gQ A x) 3 = byH (mqF x) w (A 1) := by
    rw [gH_eq, oI_cut (n := A 1) (by omega) (fun p hp q => by have := q.2; omega)]
    unfold byH
    refine oI_cg (by omega) (fun p hp => ?_)
    unfold gQ shP
    rw [em]
    exact ⟨fun q => q.1, fun q => ⟨q, hp.2⟩⟩
  have eS : (fun k => gTN (gT A w x k) 3) = qS A (mqF x) w (A 1) := by
    funext k
    have e1 : gTN (gT A w x k) 3 = 0 + gT A w x k 2 + gT A w x k 1 + gT A w x k 0 := rfl
    have e2 : sumI (gT A w x k) 3 = 0 + gT A w x k 0 + gT A w x k 1 + gT A w x k 2 := rfl
    have e3 : sumI (gT A w x k) 3 = sumI (gT A w x k) (A 1) := sumI_cut (by omega) (fun p hp => ifP_neg (fun q => by have := q.1.2; omega))
    have e4 : qS A (mqF x) w (A 1) k = sumI (gT A w x k) (A 1) := by
      unfold qS sP
      refine sumI_congr (fun p a b => ?_)
      unfold gT qgP gQ
      rw [em]
      show ifP (0 < mq x p ∧ aG A p 3 ≤ 3 * mq x p) (gv (aW A w 0) k (aG A p k) (3 * mqF x (6 * p + w)) 0) 0 = _
      rw [em]
      exact ifP_congr ⟨fun q => ⟨⟨q.1, b⟩, q.2⟩, fun q => ⟨q.1.1, q.2⟩⟩
    omega
  unfold qdn
  rw [eH, eS]
theorem l_gain1 {m0 : HM} {n : Nat} (hX : Ok_X5_gain G X 5) (hR : RelV m0 v A) (hI : InvA A C D) (hw : inN w (A 2)) (hx : inN x 125) (hi : i = 2 - n) (hn : n ≤ 2) (hy : inN y 125) (hyq : y % 5 = mq x i) (K19 : ∀ M c, FrE 3 m0 M → RelE M 3 (aW A w 0) (nW A w) (fun k => gTN (gT A w x k) (n + 1)) (gHN (gQ A x) (n + 1)) → J G X 19 [vr 23 0 0, vr 1 v 0, vi w, vi x, vi (y / 5), vi (i + -1), c] [] M) {M : HM} {c : HV} (hfr : FrE 3 m0 M) (hr : RelE M 3 (aW A w 0) (nW A w) (fun k => gTN (gT A w x k) n) (gHN (gQ A x) n)) : J G X 19 [vr 23 0 0, vr 1 v 0, vi w, vi x, vi y, vi i, c] [] M := by
  have h0 := hI.1
  have hV := hR.frE hfr
  have hq := mq_b hx (p := i) (by omega)
  have hκ := (hI.2.2.2.1 w hw).1
  have e1 : y.tmod 5 = mq x i := by rw [Int.tmod_eq_emod_of_nonneg hy.1]; exact hyq
  have e2 : y.tdiv 5 = y / 5 := Int.tdiv_eq_ediv_of_nonneg hy.1
  have eS : ∀ k, gTN (gT A w x k) (n + 1) = gTN (gT A w x k) n + gT A w x k i := fun k => by rw [hi]; rfl
  have eH : gHN (gQ A x) (n + 1) = ifP (gQ A x i) (orI (gHN (gQ A x) n) (p2 i)) (gHN (gQ A x) n) := by rw [hi]; rfl
  have K59 : ∀ M', FrE 3 m0 M' → RelE M' 3 (aW A w 0) (nW A w) (fun k => gTN (gT A w x k) (n + 1)) (gHN (gQ A x) (n + 1)) → J G X 59 [vr 23 0 0, vr 1 v 0, vi w, vi x, vi (y / 5), vi i, vi (mq x i)] [] M' := fun M' g1 g2 => by
    refine sinc_5 hX (fun _ => by omega) dX5_gain_59 ?_
    refine J_goto (tgt := 19) hX (by decide) dX5_gain_62 ?_
    exact K19 M' _ g1 g2
  have no : ¬ gQ A x i → RelE M 3 (aW A w 0) (nW A w) (fun k => gTN (gT A w x k) (n + 1)) (gHN (gQ A x) (n + 1)) := fun q => by
    have z : ∀ k, gT A w x k i = 0 := fun k => ifP_neg (fun r => q r.1)
    rw [eH, ifP_neg q]
    simp only [eS, z, Int.add_zero]
    exact hr
  refine J_iload hX rfl dX5_gain_19 ?_
  refine J_if_lt (tgt := 65) hX (by decide) dX5_gain_21 (fun h1 => ?_) (fun h1 => ?_)
  · omega
  · refine J_iload hX rfl dX5_gain_24 ?_
    refine J_iconst hX (by decide) dX5_gain_26 ?_
    refine J_irem hX (fun _ _ => by omega) dX5_gain_27 ?_
    rw [e1]
    refine si_6 hX dX5_gain_28 ?_
    refine J_iload hX rfl dX5_gain_30 ?_
    refine J_iconst hX (by decide) dX5_gain_32 ?_
    refine J_idiv hX (fun _ _ => by omega) (fun _ _ => by rw [e2]; omega) dX5_gain_33 ?_
    rw [e2]
    refine si_4 hX dX5_gain_34 ?_
    refine J_iload hX rfl dX5_gain_36 ?_
    refine J_if_le (tgt := 59) hX (by decide) dX5_gain_38 (fun h2 => ?_) (fun h2 => ?_)
    · exact K59 M hfr (no (fun q => by have := q.1; omega))
    · refine J_iload hX rfl dX5_gain_41 ?_
      refine J_aloadN hX rfl rfl dX5_gain_43 ?_
      refine G_Village_personCount hX dX5_gain_44 mF_X5_28 ?_
      rw [hV.1.2.1]
      refine J_icmp_ge (tgt := 59) hX (by decide) dX5_gain_47 (fun h4 => ?_) (fun h4 => ?_)
      · exact K59 M hfr (no (fun q => by have := q.2; omega))
      · have hg : gQ A x i := ⟨h2, h4⟩
        refine J_aloadN hX rfl rfl dX5_gain_50 ?_
        refine J_aloadN hX rfl rfl dX5_gain_51 ?_
        refine J_iload hX rfl dX5_gain_52 ?_
        refine J_iload hX rfl dX5_gain_54 ?_
        refine cV3u hX cb_X5_addQuarters mL_X5_78 dX5_gain_56 (c_addQuarters hV hI hr (fun k hk => by have := gTN_b (w := w) hI hx hk n (by omega); omega) (gHN_b n (by omega)) hκ ⟨by omega, h4⟩ (by omega)) (fun m2 hm2 => ?_)
        refine K59 m2 (hfr.tr hm2.1) ?_
        rw [eH, ifP_pos hg]
        have e3 : (fun k => gTN (gT A w x k) (n + 1)) = fun k => gTN (gT A w x k) n + if aG A i 3 ≤ 3 * mq x i then gv (aW A w 0) k (aG A i k) (3 * mq x i) 0 else 0 := by
          funext k
          rw [eS]
          unfold gT
          by_cases q : aG A i 3 ≤ 3 * mq x i
          · rw [if_pos q, ifP_pos ⟨hg, q⟩]
          · rw [if_neg q, ifP_neg (fun z => q z.2)]
        rw [e3]
        exact hm2.2
theorem c_gain (hR : RelV m v A) (hI : InvA A C D) (h3 : few3 A) (hw : inN w (A 2)) (hx : inN x 125) : K_X5_gain G [vr 23 0 0, vr 1 v 0, vi w, vi x] m (pi (fun r m' => r = gwv A w x ∧ FrE 3 m m')) := by
  refine E_X5_gain (fun X hX hR0 _ _ => ?_)
  have h0 := hI.1
  have hWo := hR.2.2.2.1 w hw
  have hN : okNS (nW A w) (fun k => gTN (gT A w x k) 3) := fun k hk => by
    have h1 := (hI.2.2.2.1 w hw).2.2.2 k hk
    have h2 := gTN_b (w := w) hI hx hk 3 (by omega)
    unfold nW
    exact ⟨h1, by show 0 ≤ gTN (gT A w x k) 3 ∧ gTN (gT A w x k) 3 ≤ 40000; omega⟩
  refine J_aloadN hX rfl rfl dX5_gain_0 ?_
  refine G_Quartering_effort hX dX5_gain_1 mF_X5_24 ?_
  refine J_aloadN hX rfl rfl dX5_gain_4 ?_
  refine G_Village_works hX dX5_gain_5 mF_X5_70 ?_
  refine J_iloadN hX rfl rfl dX5_gain_8 ?_
  refine A_7 hX (by omega) dX5_gain_9 ?_
  refine cV1u hX cb_X1_begin mL_X5_74 dX5_gain_10 (c_begin hWo.1 hWo.2.2.2) (fun m2 hm2 => ?_)
  refine J_iloadN hX rfl rfl dX5_gain_13 ?_
  refine si_4 hX dX5_gain_14 ?_
  refine J_iconst hX (by decide) dX5_gain_16 ?_
  refine si_5 hX dX5_gain_17 ?_
  refine l_gain1 (n := 0) hX hR hI hw hx (by omega) (by omega) hx (by unfold mq; rw [if_neg (by omega), if_neg (by omega)]) (fun M3 c3 f3 r3 => ?_) hm2.1 hm2.2
  rw [show (2 : Int) + -1 = 1 by rfl]
  refine l_gain1 (n := 1) hX hR hI hw hx (by omega) (by omega) (by omega) (by unfold mq; rw [if_neg (by omega), if_pos rfl]) (fun M4 c4 f4 r4 => ?_) f3 r3
  rw [show (1 : Int) + -1 = 0 by rfl]
  refine l_gain1 (n := 2) hX hR hI hw hx (by omega) (by omega) (by omega) (by unfold mq; rw [if_pos rfl]; omega) (fun M5 c5 f5 r5 => ?_) f4 r4
  rw [show (0 : Int) + -1 = -1 by rfl]
  have hV5 := hR.frE f5
  have hWo5 := hV5.2.2.2.1 w hw
  refine J_iload hX rfl dX5_gain_19 ?_
  refine J_if_lt (tgt := 65) hX (by decide) dX5_gain_21 (fun h1 => ?_) (fun h1 => ?_)
  · refine J_aloadN hX rfl rfl dX5_gain_65 ?_
    refine G_Quartering_effort hX dX5_gain_66 mF_X5_24 ?_
    refine cV0w hX cb_X1_isDone mL_X5_82 dX5_gain_69 (c_isDone r5 hN (gHN_b 3 (by omega))) ?_
    rw [bi_congr (gain_eq hI h3 hw)]
    refine J_ifb_eq (tgt := 87) hX (by decide) dX5_gain_72 (fun h2 => ?_) (fun h2 => ?_)
    · refine J_iconst hX (by decide) dX5_gain_87 ?_
      exact J_iret hX hR0 dX5_gain_88 (⟨_, rfl, by unfold gwv; rw [if_pos hw.2, ifP_neg h2], f5⟩)
    · refine J_aloadN hX rfl rfl dX5_gain_75 ?_
      refine G_Village_works hX dX5_gain_76 mF_X5_70 ?_
      refine J_iloadN hX rfl rfl dX5_gain_79 ?_
      refine A_7 hX (by omega) dX5_gain_80 ?_
      refine G_Work_worth hX dX5_gain_81 mF_X5_86 ?_
      rw [hWo5.2.2.1]
      refine J_goto (tgt := 88) hX (by decide) dX5_gain_84 ?_
      exact J_iret hX hR0 dX5_gain_88 (⟨_, rfl, by unfold gwv; rw [if_pos hw.2, ifP_pos h2], f5⟩)
  · omega
/-- the gains and the effort change -/
def FrGn (m m' : HM) : Prop := ∀ t v i, ¬ (17 ≤ t ∧ t ≤ 19 ∧ v = 3) → t ≠ 27 → m' t v i = m t v i
theorem FrGn.rf : FrGn m m := fun _ _ _ _ _ => rfl
theorem FrGn.tr {m' m2 : HM} (h : FrGn m m') (h2 : FrGn m' m2) : FrGn m m2 := fun t v i a b => (h2 t v i a b).trans (h t v i a b)
theorem FrE.toGn {m' : HM} (h : FrE 3 m m') : FrGn m m' := fun t v i a _ => h t v i a
theorem FrGn.t27 {m' : HM} (h : FrGn m m') {v i : Int} {f : Int → Int} : FrGn m (upr m' 27 v i f) := fun t' v' i' a b => by
  rw [upr_tag b]
  exact h t' v' i' a b
theorem RelV.frGn {m' : HM} (h : RelV m v A) (hf : FrGn m m') : RelV m' v A := h.keep (hf 1 v 0 (by omega) (by decide)) (fun i => hf 3 v i (by omega) (by decide)) (fun i => hf 9 v i (by omega) (by decide)) (fun i => hf 10 v i (by omega) (by decide)) (fun i => hf 11 v i (by omega) (by decide)) (fun i => hf 12 v i (by omega) (by decide)) (fun i => hf 13 v i (by omega) (by decide))
def fgP (m : HM) (A : Int → Int) (w r : Int) (m' : HM) : Prop := r = mxI (gwv A w) 125 ∧ FrGn m m' ∧ (∀ y, inN y 125 → m' 27 0 w y = gwv A w y) ∧ ∀ u, u ≠ w → m' 27 0 u = m 27 0 u
theorem l_fg {m0 : HM} (hX : Ok_X5_fillGains G X 6) (hR : RelV m0 v A) (hI : InvA A C D) (h3 : few3 A) (hw : inN w 3) (hR0 : JRt G X (pi (fgP m0 A w)) (some .int)) : ∀ i, 0 ≤ i → i ≤ 125 → ∀ M, FrGn m0 M → (∀ y, inN y i → M 27 0 w y = gwv A w y) → (∀ u, u ≠ w → M 27 0 u = m0 27 0 u) → J G X 5 [vr 23 0 0, vr 1 v 0, vi w, vi (mxI (gwv A w) i), vi i] [] M := by
  have h0 := hI.1
  refine up_to (fun i h1 h2 ih M hfr hs hs2 => ?_)
  have hV := hR.frGn hfr
  refine J_iload hX rfl dX5_fillGains_5 ?_
  refine J_bipush hX (by decide) dX5_fillGains_7 ?_
  refine J_icmp_ge (tgt := 61) hX (by decide) dX5_fillGains_9 (fun h4 => ?_) (fun h4 => ?_)
  · have e : i = 125 := by omega
    subst e
    refine J_iloadN hX rfl rfl dX5_fillGains_61 ?_
    exact J_iret hX hR0 dX5_fillGains_62 (⟨_, rfl, rfl, hfr, hs, hs2⟩)
  · have hix : inN i 125 := ⟨h1, h4⟩
    have hgb := gwv_b (x := i) hI hw.1
    have K40 : ∀ M' z, z = gwv A w i → FrGn m0 M' → M' 27 = M 27 → J G X 40 [vr 23 0 0, vr 1 v 0, vi w, vi (mxI (gwv A w) i), vi i] [vi z, vi i, vr 27 0 w] M' := fun M' z hz g1 g2 => by
      subst hz
      have nx := ih h4 (upr M' 27 0 w (st1 (M' 27 0 w) i (gwv A w i))) g1.t27 (fun y hy => by
        rw [upr_eq]
        by_cases q : y = i
        · rw [q, st1_eq]
        · rw [st1_ne q, g2]
          exact hs y ⟨hy.1, by have := hy.2; omega⟩) (fun u hu => by rw [upr_i hu, g2]; exact hs2 u hu)
      rw [mxI_s h1] at nx
      refine S_27 hX (by omega) dX5_fillGains_40 ?_
      refine J_iloadN hX rfl rfl dX5_fillGains_41 ?_
      refine J_aloadN hX rfl rfl dX5_fillGains_42 ?_
      refine G_Quartering_gains hX dX5_fillGains_43 mF_X5_14 ?_
      refine J_iloadN hX rfl rfl dX5_fillGains_46 ?_
      refine A_26 hX (by omega) dX5_fillGains_47 ?_
      refine J_iload hX rfl dX5_fillGains_48 ?_
      refine L_27 hX (by omega) dX5_fillGains_50 ?_
      rw [upr_eq, st1_eq, ← upr_eq M' 27 0 w (st1 (M' 27 0 w) i (gwv A w i))]
      refine J_mmax hX rfl (by decide) (Nat.le_of_ble_eq_true rfl) dX5_fillGains_51 mL_X5_64 ?_
      refine siN_3 hX dX5_fillGains_54 ?_
      refine sinc_4 hX (fun _ => by omega) dX5_fillGains_55 ?_
      refine J_goto (tgt := 5) hX (by decide) dX5_fillGains_58 ?_
      simp only [upr_eq]
      exact nx
    refine J_aloadN hX rfl rfl dX5_fillGains_12 ?_
    refine G_Quartering_gains hX dX5_fillGains_13 mF_X5_14 ?_
    refine J_iloadN hX rfl rfl dX5_fillGains_16 ?_
    refine A_26 hX (by omega) dX5_fillGains_17 ?_
    refine J_iload hX rfl dX5_fillGains_18 ?_
    refine J_iloadN hX rfl rfl dX5_fillGains_20 ?_
    refine J_aloadN hX rfl rfl dX5_fillGains_21 ?_
    refine G_Village_workCount hX dX5_fillGains_22 mF_X5_34 ?_
    rw [hV.1.2.2]
    refine J_icmp_ge (tgt := 39) hX (by decide) dX5_fillGains_25 (fun h5 => ?_) (fun h5 => ?_)
    · refine J_iconst hX (by decide) dX5_fillGains_39 ?_
      exact K40 M 0 (by unfold gwv; rw [if_neg (by omega)]) hfr rfl
    · refine J_aloadN hX rfl rfl dX5_fillGains_28 ?_
      refine J_aloadN hX rfl rfl dX5_fillGains_29 ?_
      refine J_iloadN hX rfl rfl dX5_fillGains_30 ?_
      refine J_iload hX rfl dX5_fillGains_31 ?_
      refine cV3i hX cb_X5_gain mL_X5_60 dX5_fillGains_33 (c_gain hV hI h3 ⟨hw.1, h5⟩ hix) (fun r m2 hm2 => ?_)
      obtain ⟨rfl, hf2⟩ := hm2
      refine J_goto (tgt := 40) hX (by decide) dX5_fillGains_36 ?_
      exact K40 m2 _ rfl (hfr.tr hf2.toGn) (by
        funext v' i'
        exact hf2 27 v' i' (by omega))
theorem c_fillGains (hR : RelV m v A) (hI : InvA A C D) (h3 : few3 A) (hw : inN w 3) : K_X5_fillGains G [vr 23 0 0, vr 1 v 0, vi w] m (pi (fgP m A w)) := by
  refine E_X5_fillGains (fun X hX hR0 _ _ => ?_)
  refine J_iconst hX (by decide) dX5_fillGains_0 ?_
  refine siN_3 hX dX5_fillGains_1 ?_
  refine J_iconst hX (by decide) dX5_fillGains_2 ?_
  refine si_4 hX dX5_fillGains_3 ?_
  exact l_fg hX hR hI h3 hw hR0 0 (by omega) (by omega) m FrGn.rf (fun y hy => by have := hy.1; have := hy.2; omega) (fun _ _ => rfl)
theorem c_fits (hR : RelV m v A) : K_X5_fits G [vr 1 v 0] m (pw (vi (bi (few3 A))) m) := by
  refine E_X5_fits (fun X hX hR0 _ _ => ?_)
  refine J_aloadN hX rfl rfl dX5_fits_0 ?_
  refine G_Village_personCount hX dX5_fits_1 mF_X5_28 ?_
  refine J_iconst hX (by decide) dX5_fits_4 ?_
  rw [hR.1.2.1]
  refine J_icmp_gt (tgt := 20) hX (by decide) dX5_fits_5 (fun h1 => ?_) (fun h1 => ?_)
  · refine J_iconst hX (by decide) dX5_fits_20 ?_
    exact J_zret hX hR0 dX5_fits_21 (Or.inl rfl) (pwb0 (fun q => by have := q.1; omega))
  · refine J_aloadN hX rfl rfl dX5_fits_8 ?_
    refine G_Village_workCount hX dX5_fits_9 mF_X5_34 ?_
    refine J_iconst hX (by decide) dX5_fits_12 ?_
    rw [hR.1.2.2]
    refine J_icmp_gt (tgt := 20) hX (by decide) dX5_fits_13 (fun h2 => ?_) (fun h2 => ?_)
    · refine J_iconst hX (by decide) dX5_fits_20 ?_
      exact J_zret hX hR0 dX5_fits_21 (Or.inl rfl) (pwb0 (fun q => by have := q.2; omega))
    · refine J_iconst hX (by decide) dX5_fits_16 ?_
      refine J_goto (tgt := 21) hX (by decide) dX5_fits_17 ?_
      exact J_zret hX hR0 dX5_fits_21 (Or.inr rfl) (pwb1 ⟨h1, h2⟩)
theorem c_forget : K_X5_forget G [vr 23 0 0] m (pv (upr m 23 0 0 (st1 (m 23 0 0) 6 0))) := by
  refine E_X5_forget (fun X hX hR0 _ _ => ?_)
  refine J_aloadN hX rfl rfl dX5_forget_0 ?_
  refine J_iconst hX (by decide) dX5_forget_1 ?_
  refine P_Quartering_isFound hX (by omega) dX5_forget_2 mF_X5_37 ?_
  exact J_vret hX hR0 dX5_forget_5 (pvI rfl)
end Qu
