/-! ===== 33c: the class's Quartering: search, find ===== -/
section Qu
variable {G : GC} {X : JX} {m : HM} {κ p t τ w x y z i k q b v e a s : Int} {A N S g F : Int → Int} {H C D : Int} {t0 t1 t2 : List Int}
theorem c_qworthOf (h27 : ∀ w y, inN w 3 → inN y 125 → m 27 0 w y = gwv A w y) (hI : InvA A C D) (hx : ∀ k, inN k 3 → m 25 0 x k = cp k t0) (hy : ∀ k, inN k 3 → m 25 0 y k = cp k t1) (hz : ∀ k, inN k 3 → m 25 0 z k = cp k t2) (b0 : ∀ k, inN k 3 → 0 ≤ cp k t0 ∧ cp k t0 ≤ 4) (b1 : ∀ k, inN k 3 → 0 ≤ cp k t1 ∧ cp k t1 ≤ 4) (b2 : ∀ k, inN k 3 → 0 ≤ cp k t2 ∧ cp k t2 ≤ 4) : K_X5_worthOf G [vr 23 0 0, vr 25 0 x, vr 25 0 y, vr 25 0 z] m (pw (vi (cV A t0 t1 t2)) m) := by
  refine E_X5_worthOf (fun X hX hR0 _ _ => ?_)
  have q := fun k (hk : inN k 3) => (mxq_b (b0 k hk) (b1 k hk) (b2 k hk)).1
  have q0 := q 0 (by omega)
  have q1 := q 1 (by omega)
  have q2 := q 2 (by omega)
  have g := fun k (hk : inN k 3) => gwv_b (x := mxq (cp k t0) (cp k t1) (cp k t2)) hI hk.1
  have g0 := g 0 (by omega)
  have g1 := g 1 (by omega)
  have g2 := g 2 (by omega)
  refine J_aloadN hX rfl rfl dX5_worthOf_0 ?_
  refine G_Quartering_gains hX dX5_worthOf_1 mF_X5_14 ?_
  refine J_iconst hX (by decide) dX5_worthOf_4 ?_
  refine A_26 hX (by omega) dX5_worthOf_5 ?_
  refine J_aloadN hX rfl rfl dX5_worthOf_6 ?_
  refine J_iconst hX (by decide) dX5_worthOf_7 ?_
  refine L_25 hX (by omega) dX5_worthOf_8 ?_
  refine J_aloadN hX rfl rfl dX5_worthOf_9 ?_
  refine J_iconst hX (by decide) dX5_worthOf_10 ?_
  refine L_25 hX (by omega) dX5_worthOf_11 ?_
  refine J_aloadN hX rfl rfl dX5_worthOf_12 ?_
  refine J_iconst hX (by decide) dX5_worthOf_13 ?_
  refine L_25 hX (by omega) dX5_worthOf_14 ?_
  rw [hx 0 (by omega), hy 0 (by omega), hz 0 (by omega)]
  refine cS3w hX cb_X5_mix mL_X5_112 dX5_worthOf_15 (c_mix (b0 0 (by omega)) (b1 0 (by omega)) (b2 0 (by omega))) ?_
  refine L_27 hX (by omega) dX5_worthOf_18 ?_
  rw [h27 0 _ (by omega) q0]
  refine J_aloadN hX rfl rfl dX5_worthOf_19 ?_
  refine G_Quartering_gains hX dX5_worthOf_20 mF_X5_14 ?_
  refine J_iconst hX (by decide) dX5_worthOf_23 ?_
  refine A_26 hX (by omega) dX5_worthOf_24 ?_
  refine J_aloadN hX rfl rfl dX5_worthOf_25 ?_
  refine J_iconst hX (by decide) dX5_worthOf_26 ?_
  refine L_25 hX (by omega) dX5_worthOf_27 ?_
  refine J_aloadN hX rfl rfl dX5_worthOf_28 ?_
  refine J_iconst hX (by decide) dX5_worthOf_29 ?_
  refine L_25 hX (by omega) dX5_worthOf_30 ?_
  refine J_aloadN hX rfl rfl dX5_worthOf_31 ?_
  refine J_iconst hX (by decide) dX5_worthOf_32 ?_
  refine L_25 hX (by omega) dX5_worthOf_33 ?_
  rw [hx 1 (by omega), hy 1 (by omega), hz 1 (by omega)]
  refine cS3w hX cb_X5_mix mL_X5_112 dX5_worthOf_34 (c_mix (b0 1 (by omega)) (b1 1 (by omega)) (b2 1 (by omega))) ?_
  refine L_27 hX (by omega) dX5_worthOf_37 ?_
  rw [h27 1 _ (by omega) q1]
  refine J_iadd hX (fun _ _ => by omega) dX5_worthOf_38 ?_
  refine J_aloadN hX rfl rfl dX5_worthOf_39 ?_
  refine G_Quartering_gains hX dX5_worthOf_40 mF_X5_14 ?_
  refine J_iconst hX (by decide) dX5_worthOf_43 ?_
  refine A_26 hX (by omega) dX5_worthOf_44 ?_
  refine J_aloadN hX rfl rfl dX5_worthOf_45 ?_
  refine J_iconst hX (by decide) dX5_worthOf_46 ?_
  refine L_25 hX (by omega) dX5_worthOf_47 ?_
  refine J_aloadN hX rfl rfl dX5_worthOf_48 ?_
  refine J_iconst hX (by decide) dX5_worthOf_49 ?_
  refine L_25 hX (by omega) dX5_worthOf_50 ?_
  refine J_aloadN hX rfl rfl dX5_worthOf_51 ?_
  refine J_iconst hX (by decide) dX5_worthOf_52 ?_
  refine L_25 hX (by omega) dX5_worthOf_53 ?_
  rw [hx 2 (by omega), hy 2 (by omega), hz 2 (by omega)]
  refine cS3w hX cb_X5_mix mL_X5_112 dX5_worthOf_54 (c_mix (b0 2 (by omega)) (b1 2 (by omega)) (b2 2 (by omega))) ?_
  refine L_27 hX (by omega) dX5_worthOf_57 ?_
  rw [h27 2 _ (by omega) q2]
  refine J_iadd hX (fun _ _ => by omega) dX5_worthOf_58 ?_
  exact J_iret hX hR0 dX5_worthOf_59 (pwI rfl)
def FrS (m m' : HM) : Prop := (∀ t v i, t ≠ 28 → t ≠ 23 → m' t v i = m t v i) ∧ ∀ k, k ≠ 5 → m' 23 0 0 k = m 23 0 0 k
theorem FrS.rf : FrS m m := ⟨fun _ _ _ _ _ => rfl, fun _ _ => rfl⟩
theorem FrS.t28 {m' : HM} (h : FrS m m') {v i : Int} {f : Int → Int} : FrS m (upr m' 28 v i f) := ⟨fun t' v' i' a b => by
    rw [upr_tag a]
    exact h.1 t' v' i' a b, fun k a => by
    rw [upr_tag (by decide)]
    exact h.2 k a⟩
theorem FrS.f5 {m' : HM} (h : FrS m m') {x : Int} : FrS m (upr m' 23 0 0 (st1 (m' 23 0 0) 5 x)) := ⟨fun t' v' i' a b => by
    rw [upr_tag b]
    exact h.1 t' v' i' a b, fun j a => by
    rw [upr_eq, st1_ne a]
    exact h.2 j a⟩
def chs (A : Int → Int) (m : HM) (f : Int → Int) : Prop := ∃ (i0 i1 i2 : Nat) (t0 t1 t2 : List Int), (RwL A 0)[i0]? = some t0 ∧ (RwL A 1)[i1]? = some t1 ∧ (RwL A 2)[i2]? = some t2 ∧ m 28 0 0 0 = i0 ∧ m 28 0 0 1 = i1 ∧ m 28 0 0 2 = i2 ∧ f = Fq t0 t1 t2
def RSs (A : Int → Int) (m : HM) (s : Int × (Int → Int)) : Prop := (m 23 0 0 5 = -1 ∧ s.1 = -9) ∨ (0 ≤ s.1 ∧ s.1 ≤ 297 ∧ m 23 0 0 5 = s.1 ∧ chs A m s.2)
/-- what the search reads -/
def SeM (m : HM) (A : Int → Int) : Prop := RelH m ((hrL (A 2).toNat 4).map (fun t => [cp 0 t, cp 1 t, cp 2 t])) ∧ ∀ w y, inN w 3 → inN y 125 → m 27 0 w y = gwv A w y
theorem SeM.fr {m' : HM} (h : SeM m A) (hf : FrS m m') : SeM m' A := ⟨⟨(hf.2 1 (by omega)).trans h.1.1, fun i t hi k hk => by rw [hf.1 25 0 i (by decide) (by decide)]; exact h.1.2 i t hi k hk⟩, fun w y hw hy => by rw [hf.1 27 0 w (by decide) (by decide)]; exact h.2 w y hw hy⟩
theorem row_at {j : Nat} {t : List Int} (h : SeM m A) (hI : InvA A C D) (h3 : few3 A) (ht : (RwL A p)[j]? = some t) : j < 35 ∧ ∀ k, inN k 3 → m 25 0 j k = cp k t := by
  have h0 := hI.1
  have h32 := h3.2
  have h35 := (cH_hr (A 2).toNat (by omega)).2
  have pad : ∀ (u : List Int) k, inN k 3 → cp k [cp 0 u, cp 1 u, cp 2 u] = cp k u := fun u k hk => by
    rcases (show k = 0 ∨ k = 1 ∨ k = 2 by omega) with rfl | rfl | rfl <;> rfl
  unfold RwL at ht
  by_cases q : p < A 1
  · rw [if_pos q] at ht
    have hj := (List.getElem?_eq_some_iff.mp ht).1
    refine ⟨by omega, fun k hk => ?_⟩
    rw [h.1.2 j [cp 0 t, cp 1 t, cp 2 t] (by rw [List.getElem?_map, ht]; rfl) k hk]
    exact pad t k hk
  · rw [if_neg q] at ht
    have hj := (List.getElem?_eq_some_iff.mp ht).1
    have e : j = 0 := by
      have : ([[]] : List (List Int)).length = 1 := rfl
      omega
    subst e
    have et : t = [] := (Option.some.inj ht).symm
    subst et
    obtain ⟨u, l, hu, u0, u1, u2⟩ := hrL_0 (A 2).toNat (by omega)
    refine ⟨by omega, fun k hk => ?_⟩
    rw [h.1.2 0 [cp 0 u, cp 1 u, cp 2 u] (by rw [hu]; rfl) k hk]
    rw [pad u k hk]
    rcases (show k = 0 ∨ k = 1 ∨ k = 2 by omega) with rfl | rfl | rfl
    · exact u0
    · exact u1
    · exact u2
theorem drop_s {α : Type} {l : List α} {i : Int} (h0 : 0 ≤ i) (h : i < l.length) : ∃ t, l[i.toNat]? = some t ∧ t ∈ l ∧ l.drop i.toNat = t :: l.drop (i + 1).toNat := by
  have hl : i.toNat < l.length := by omega
  refine ⟨l[i.toNat], List.getElem?_eq_getElem hl, List.getElem_mem hl, ?_⟩
  rw [show (i + 1).toNat = i.toNat + 1 by omega]
  exact List.drop_eq_getElem_cons hl
theorem drop_0 {α : Type} {l : List α} {i : Int} (h : (l.length : Int) ≤ i) : l.drop i.toNat = [] := List.drop_eq_nil_of_le (by omega)
theorem mst_b (hI : InvA A C D) : 0 ≤ mst A 3 ∧ mst A 3 ≤ 10000 := by
  have b : ∀ w, 0 ≤ w → ∀ n : Nat, mxI (gwv A w) n ≤ 99 := fun w hw n => by
    induction n with
    | zero => show (0 : Int) ≤ 99; omega
    | succ n ih =>
      rw [show ((n + 1 : Nat) : Int) = (n : Int) + 1 by omega, mxI_s (by omega)]
      have := gwv_b (x := n) hI hw
      omega
  have e : mst A 3 = 0 + mxI (gwv A 0) 125 + mxI (gwv A 1) 125 + mxI (gwv A 2) 125 := rfl
  have a0 := mxI_nn (gwv A 0) 125
  have a1 := mxI_nn (gwv A 1) 125
  have a2 := mxI_nn (gwv A 2) 125
  have c0 : mxI (gwv A 0) 125 ≤ 99 := b 0 (by omega) 125
  have c1 : mxI (gwv A 1) 125 ≤ 99 := b 1 (by omega) 125
  have c2 : mxI (gwv A 2) 125 ≤ 99 := b 2 (by omega) 125
  rw [e]
  omega
theorem Rw_len (hI : InvA A C D) (h3 : few3 A) : (RwL A p).length ≤ 35 := by
  have h0 := hI.1
  have h32 := h3.2
  unfold RwL
  by_cases q : p < A 1
  · rw [if_pos q]; exact (cH_hr (A 2).toNat (by omega)).2
  · rw [if_neg q]; show 1 ≤ 35; omega
theorem l_se3 {m0 : HM} {s0 : Int × (Int → Int)} {L r : List (Int → Int)} {n0 n1 : Int} (hX : Ok_X5_search G X 4) (hS0 : SeM m0 A) (hI : InvA A C D) (h3 : few3 A) (ha : 0 ≤ a) (hb : 0 ≤ b) (hta : (RwL A 0)[a.toNat]? = some t0) (htb : (RwL A 1)[b.toNat]? = some t1) (K173 : ∀ M s c d, FrS m0 M → RSs A M s → vsL A s0 L = vsL A s r → J G X 173 [vr 23 0 0, vi x, vi (mst A 3), vi n0, vi n1, vi ((RwL A 2).length : Int), vi a, vi b, c, d] [] M) : ∀ i, 0 ≤ i → i ≤ ((RwL A 2).length : Int) → ∀ M s d, FrS m0 M → RSs A M s → vsL A s0 L = vsL A s (((RwL A 2).drop i.toNat).map (fun t => stR 2 t 0 (stR 1 t1 0 (stR 0 t0 0 zF))) ++ r) → J G X 86 [vr 23 0 0, vi x, vi (mst A 3), vi n0, vi n1, vi ((RwL A 2).length : Int), vi a, vi b, vi i, d] [] M := by
  have hm0 := List.mem_of_getElem? hta
  have hm1 := List.mem_of_getElem? htb
  have k0 := Rw_ok hI h3 hm0
  have k1 := Rw_ok hI h3 hm1
  have hmb := mst_b hI
  refine up_to (fun i h1 h2 ih M s d hfr hs he => ?_)
  have hSe := hS0.fr hfr
  refine J_iload hX rfl dX5_search_86 ?_
  refine J_iload hX rfl dX5_search_88 ?_
  refine J_icmp_ge (tgt := 173) hX (by decide) dX5_search_90 (fun h4 => ?_) (fun h4 => ?_)
  · rw [drop_0 h4] at he
    exact K173 M s _ _ hfr hs he
  · obtain ⟨t2, ht, hm2, hd⟩ := drop_s h1 h4
    have k2 := Rw_ok hI h3 hm2
    have r0 := row_at hSe hI h3 hta
    have r1 := row_at hSe hI h3 htb
    have r2 := row_at hSe hI h3 ht
    rw [Int.toNat_of_nonneg ha] at r0
    rw [Int.toNat_of_nonneg hb] at r1
    rw [Int.toNat_of_nonneg h1] at r2
    have hcv := cV_b hI h3 hm0 hm1 hm2
    have hval : qW A (stR 2 t2 0 (stR 1 t1 0 (stR 0 t0 0 zF))) (A 2) = cV A t0 t1 t2 := val_eq hI h3 hm0 hm1 hm2
    have hw : -1 ≤ M 23 0 0 5 ∧ M 23 0 0 5 ≤ 297 := by rcases hs with z | z <;> omega
    refine J_aloadN hX rfl rfl dX5_search_93 ?_
    refine G_Quartering_worth hX dX5_search_94 mF_X5_107 ?_
    refine J_iloadN hX rfl rfl dX5_search_97 ?_
    refine J_icmp_ge (tgt := 173) hX (by decide) dX5_search_98 (fun h5 => ?_) (fun h5 => ?_)
    · have hb' : s.1 = M 23 0 0 5 := by rcases hs with z | z <;> omega
      rw [vsL_app (s := s), vsL_id (s := s) _ (fun F hF => by
        obtain ⟨u, hu, rfl⟩ := List.mem_map.mp hF
        have hmu := List.mem_of_mem_drop hu
        have e1 : qW A (stR 2 u 0 (stR 1 t1 0 (stR 0 t0 0 zF))) (A 2) = cV A t0 t1 u := val_eq hI h3 hm0 hm1 hmu
        have := cV_b hI h3 hm0 hm1 hmu
        rw [e1]
        omega)] at he
      exact K173 M s _ _ hfr hs he
    · have he2 : vsL A s0 L = vsL A (vs A s (stR 2 t2 0 (stR 1 t1 0 (stR 0 t0 0 zF)))) (((RwL A 2).drop (i + 1).toNat).map (fun t => stR 2 t 0 (stR 1 t1 0 (stR 0 t0 0 zF))) ++ r) := by
        rw [he, hd]
        rfl
      refine J_aloadN hX rfl rfl dX5_search_101 ?_
      refine J_aloadN hX rfl rfl dX5_search_102 ?_
      refine G_Quartering_hows hX dX5_search_103 mF_X5_11 ?_
      refine J_iload hX rfl dX5_search_106 ?_
      refine A_24 hX (by omega) dX5_search_108 ?_
      refine J_aloadN hX rfl rfl dX5_search_109 ?_
      refine G_Quartering_hows hX dX5_search_110 mF_X5_11 ?_
      refine J_iload hX rfl dX5_search_113 ?_
      refine A_24 hX (by omega) dX5_search_115 ?_
      refine J_aloadN hX rfl rfl dX5_search_116 ?_
      refine G_Quartering_hows hX dX5_search_117 mF_X5_11 ?_
      refine J_iload hX rfl dX5_search_120 ?_
      refine A_24 hX (by omega) dX5_search_122 ?_
      refine cV3w hX cb_X5_worthOf mL_X5_108 dX5_search_123 (c_qworthOf hSe.2 hI r0.2 r1.2 r2.2 k0.2.2 k1.2.2 k2.2.2) ?_
      refine si_9 hX dX5_search_126 ?_
      refine J_iload hX rfl dX5_search_128 ?_
      refine J_aloadN hX rfl rfl dX5_search_130 ?_
      refine G_Quartering_worth hX dX5_search_131 mF_X5_107 ?_
      refine J_icmp_le (tgt := 167) hX (by decide) dX5_search_134 (fun h6 => ?_) (fun h6 => ?_)
      · have e : vs A s (stR 2 t2 0 (stR 1 t1 0 (stR 0 t0 0 zF))) = s := by
          unfold vs
          rw [hval]
          exact if_pos (by rcases hs with z | z <;> omega)
        rw [e] at he2
        refine sinc_8 hX (fun _ => by omega) dX5_search_167 ?_
        refine J_goto (tgt := 86) hX (by decide) dX5_search_170 ?_
        exact ih (by omega) M s _ hfr hs he2
      · have e : vs A s (stR 2 t2 0 (stR 1 t1 0 (stR 0 t0 0 zF))) = (cV A t0 t1 t2, Fq t0 t1 t2) := by
          unfold vs
          rw [hval]
          exact if_neg (by rcases hs with z | z <;> omega)
        rw [e] at he2
        refine J_aloadN hX rfl rfl dX5_search_137 ?_
        refine J_iload hX rfl dX5_search_138 ?_
        refine P_Quartering_worth hX dX5_search_140 mF_X5_107 ?_
        refine J_aloadN hX rfl rfl dX5_search_143 ?_
        refine G_Quartering_chosen hX dX5_search_144 mF_X5_17 ?_
        refine J_iconst hX (by decide) dX5_search_147 ?_
        refine J_iload hX rfl dX5_search_148 ?_
        refine S_28 hX (by omega) dX5_search_150 ?_
        refine J_aloadN hX rfl rfl dX5_search_151 ?_
        refine G_Quartering_chosen hX dX5_search_152 mF_X5_17 ?_
        refine J_iconst hX (by decide) dX5_search_155 ?_
        refine J_iload hX rfl dX5_search_156 ?_
        refine S_28 hX (by omega) dX5_search_158 ?_
        refine J_aloadN hX rfl rfl dX5_search_159 ?_
        refine G_Quartering_chosen hX dX5_search_160 mF_X5_17 ?_
        refine J_iconst hX (by decide) dX5_search_163 ?_
        refine J_iload hX rfl dX5_search_164 ?_
        refine S_28 hX (by omega) dX5_search_166 ?_
        refine sinc_8 hX (fun _ => by omega) dX5_search_167 ?_
        refine J_goto (tgt := 86) hX (by decide) dX5_search_170 ?_
        refine ih (by omega) _ _ _ (hfr.f5.t28.t28.t28) (Or.inr ⟨hcv.1, hcv.2.2, ?_, a.toNat, b.toNat, i.toNat, t0, t1, t2, hta, htb, ht, ?_, ?_, ?_, rfl⟩) he2
        · rw [upr_tag (by decide), upr_tag (by decide), upr_tag (by decide), upr_eq, st1_eq]
        · simp only [upr_upr, upr_eq]
          rw [st1_ne (by decide), st1_ne (by decide), st1_eq]
          omega
        · simp only [upr_upr, upr_eq]
          rw [st1_ne (by decide), st1_eq]
          omega
        · simp only [upr_upr, upr_eq]
          rw [st1_eq]
          omega
theorem l_se2 {m0 : HM} {s0 : Int × (Int → Int)} {L r : List (Int → Int)} {n0 : Int} (hX : Ok_X5_search G X 4) (hS0 : SeM m0 A) (hI : InvA A C D) (h3 : few3 A) (ha : 0 ≤ a) (hta : (RwL A 0)[a.toNat]? = some t0) (K179 : ∀ M s b c d, FrS m0 M → RSs A M s → vsL A s0 L = vsL A s r → J G X 179 [vr 23 0 0, vi x, vi (mst A 3), vi n0, vi ((RwL A 1).length : Int), vi ((RwL A 2).length : Int), vi a, b, c, d] [] M) : ∀ i, 0 ≤ i → i ≤ ((RwL A 1).length : Int) → ∀ M s c d, FrS m0 M → RSs A M s → vsL A s0 L = vsL A s (((RwL A 1).drop i.toNat).flatMap (fun t => qL2 A (stR 1 t 0 (stR 0 t0 0 zF))) ++ r) → J G X 68 [vr 23 0 0, vi x, vi (mst A 3), vi n0, vi ((RwL A 1).length : Int), vi ((RwL A 2).length : Int), vi a, vi i, c, d] [] M := by
  have hm0 := List.mem_of_getElem? hta
  have hmb := mst_b hI
  have hln := Rw_len (p := 1) hI h3
  refine up_to (fun i h1 h2 ih M s c d hfr hs he => ?_)
  refine J_iload hX rfl dX5_search_68 ?_
  refine J_iload hX rfl dX5_search_70 ?_
  refine J_icmp_ge (tgt := 179) hX (by decide) dX5_search_72 (fun h4 => ?_) (fun h4 => ?_)
  · rw [drop_0 h4] at he
    exact K179 M s _ _ _ hfr hs he
  · obtain ⟨t1, ht, hm1, hd⟩ := drop_s h1 h4
    refine J_aloadN hX rfl rfl dX5_search_75 ?_
    refine G_Quartering_worth hX dX5_search_76 mF_X5_107 ?_
    refine J_iloadN hX rfl rfl dX5_search_79 ?_
    refine J_icmp_ge (tgt := 179) hX (by decide) dX5_search_80 (fun h5 => ?_) (fun h5 => ?_)
    · have hb' : s.1 = M 23 0 0 5 := by rcases hs with z | z <;> omega
      rw [vsL_app (s := s), vsL_id (s := s) _ (fun F hF => by
        obtain ⟨u, hu, hF2⟩ := List.mem_flatMap.mp hF
        have hmu := List.mem_of_mem_drop hu
        obtain ⟨t2, hm2, rfl⟩ := mem_q2 hF2
        have e1 : qW A (stR 2 t2 0 (stR 1 u 0 (stR 0 t0 0 zF))) (A 2) = cV A t0 u t2 := val_eq hI h3 hm0 hmu hm2
        have := cV_b hI h3 hm0 hmu hm2
        rw [e1]
        omega)] at he
      exact K179 M s _ _ _ hfr hs he
    · refine J_iconst hX (by decide) dX5_search_83 ?_
      refine si_8 hX dX5_search_84 ?_
      refine l_se3 (r := ((RwL A 1).drop (i + 1).toNat).flatMap (fun t => qL2 A (stR 1 t 0 (stR 0 t0 0 zF))) ++ r) hX hS0 hI h3 ha h1 hta ht (fun M' s' c' d' hfr' hs' he' => ?_) 0 (by omega) (by omega) M s _ hfr hs (by
        rw [he, hd, List.flatMap_cons, List.append_assoc]
        rfl)
      refine sinc_7 hX (fun _ => by omega) dX5_search_173 ?_
      refine J_goto (tgt := 68) hX (by decide) dX5_search_176 ?_
      exact ih (by omega) M' s' _ _ hfr' hs' he'
def seP (m : HM) (A : Int → Int) (s0 : Int × (Int → Int)) (m' : HM) : Prop := FrS m m' ∧ RSs A m' (vsL A s0 (qL0 A))
theorem l_se1 {m0 : HM} {s0 : Int × (Int → Int)} (hX : Ok_X5_search G X 4) (hS0 : SeM m0 A) (hI : InvA A C D) (h3 : few3 A) (hR0 : JRt G X (pu (seP m0 A s0)) none) : ∀ i, 0 ≤ i → i ≤ ((RwL A 0).length : Int) → ∀ M s b c d, FrS m0 M → RSs A M s → vsL A s0 (qL0 A) = vsL A s (((RwL A 0).drop i.toNat).flatMap (fun t => qL1 A (stR 0 t 0 zF))) → J G X 51 [vr 23 0 0, vi x, vi (mst A 3), vi ((RwL A 0).length : Int), vi ((RwL A 1).length : Int), vi ((RwL A 2).length : Int), vi i, b, c, d] [] M := by
  have hmb := mst_b hI
  have hln := Rw_len (p := 0) hI h3
  refine up_to (fun i h1 h2 ih M s b c d hfr hs he => ?_)
  have fin : vsL A s0 (qL0 A) = s → J G X 185 [vr 23 0 0, vi x, vi (mst A 3), vi ((RwL A 0).length : Int), vi ((RwL A 1).length : Int), vi ((RwL A 2).length : Int), vi i, b, c, d] [] M := fun e => by
    exact J_vret hX hR0 dX5_search_185 (puI ⟨hfr, by rw [e]; exact hs⟩)
  refine J_iload hX rfl dX5_search_51 ?_
  refine J_iloadN hX rfl rfl dX5_search_53 ?_
  refine J_icmp_ge (tgt := 185) hX (by decide) dX5_search_54 (fun h4 => ?_) (fun h4 => ?_)
  · rw [drop_0 h4] at he
    exact fin he
  · obtain ⟨t0, ht, hm0, hd⟩ := drop_s h1 h4
    refine J_aloadN hX rfl rfl dX5_search_57 ?_
    refine G_Quartering_worth hX dX5_search_58 mF_X5_107 ?_
    refine J_iloadN hX rfl rfl dX5_search_61 ?_
    refine J_icmp_ge (tgt := 185) hX (by decide) dX5_search_62 (fun h5 => ?_) (fun h5 => ?_)
    · have hb' : s.1 = M 23 0 0 5 := by rcases hs with z | z <;> omega
      rw [vsL_id (s := s) _ (fun F hF => by
        obtain ⟨u, hu, hF2⟩ := List.mem_flatMap.mp hF
        have hmu := List.mem_of_mem_drop hu
        obtain ⟨u1, hm1, hF3⟩ := List.mem_flatMap.mp hF2
        obtain ⟨t2, hm2, rfl⟩ := mem_q2 hF3
        have e1 : qW A (stR 2 t2 0 (stR 1 u1 0 (stR 0 u 0 zF))) (A 2) = cV A u u1 t2 := val_eq hI h3 hmu hm1 hm2
        have := cV_b hI h3 hmu hm1 hm2
        rw [e1]
        omega)] at he
      exact fin he
    · refine J_iconst hX (by decide) dX5_search_65 ?_
      refine si_7 hX dX5_search_66 ?_
      refine l_se2 (r := ((RwL A 0).drop (i + 1).toNat).flatMap (fun t => qL1 A (stR 0 t 0 zF))) hX hS0 hI h3 h1 ht (fun M' s' b' c' d' hfr' hs' he' => ?_) 0 (by omega) (by omega) M s _ _ hfr hs (by
        rw [he, hd, List.flatMap_cons]
        rfl)
      refine sinc_6 hX (fun _ => by omega) dX5_search_179 ?_
      refine J_goto (tgt := 51) hX (by decide) dX5_search_182 ?_
      exact ih (by omega) M' s' _ _ _ hfr' hs' he'
theorem c_search {F0 : Int → Int} (hS0 : SeM m A) (hI : InvA A C D) (h3 : few3 A) : K_X5_search G [vr 23 0 0, vi (A 1), vi (mst A 3)] m (pu (seP m A (-9, F0))) := by
  refine E_X5_search (fun X hX hR0 _ _ => ?_)
  have h0 := hI.1
  have hc : ∀ p, ((RwL A p).length : Int) = if p < A 1 then m 23 0 0 1 else 1 := fun p => by
    unfold RwL
    by_cases q : p < A 1
    · rw [if_pos q, if_pos q, hS0.1.1, List.length_map]
    · rw [if_neg q, if_neg q]
      rfl
  have hfr : FrS m (upr m 23 0 0 (st1 (m 23 0 0) 5 (-1))) := FrS.rf.f5
  have K46 : J G X 46 [vr 23 0 0, vi (A 1), vi (mst A 3), vi ((RwL A 0).length : Int), vi ((RwL A 1).length : Int), vx, vx, vx, vx, vx] [vi ((RwL A 2).length : Int)] (upr m 23 0 0 (st1 (m 23 0 0) 5 (-1))) := by
    refine si_5 hX dX5_search_46 ?_
    refine J_iconst hX (by decide) dX5_search_48 ?_
    refine si_6 hX dX5_search_49 ?_
    exact l_se1 hX hS0 hI h3 hR0 0 (by omega) (by omega) _ (-9, F0) _ _ _ hfr (Or.inl ⟨by rw [upr_eq, st1_eq], rfl⟩) rfl
  have K31 : J G X 31 [vr 23 0 0, vi (A 1), vi (mst A 3), vi ((RwL A 0).length : Int), vx, vx, vx, vx, vx, vx] [vi ((RwL A 1).length : Int)] (upr m 23 0 0 (st1 (m 23 0 0) 5 (-1))) := by
    refine si_4 hX dX5_search_31 ?_
    refine J_iloadN hX rfl rfl dX5_search_33 ?_
    refine J_iconst hX (by decide) dX5_search_34 ?_
    have e := hc 2
    refine J_icmp_le (tgt := 45) hX (by decide) dX5_search_35 (fun h1 => ?_) (fun h1 => ?_)
    · refine J_iconst hX (by decide) dX5_search_45 ?_
      rw [if_neg (by omega)] at e
      rw [e] at K46
      exact K46
    · rw [if_pos h1] at e
      rw [e] at K46
      refine J_aloadN hX rfl rfl dX5_search_38 ?_
      refine G_Quartering_howCount hX dX5_search_39 mF_X5_57 ?_
      rw [upr_eq, st1_ne (by decide)]
      refine J_goto (tgt := 46) hX (by decide) dX5_search_42 ?_
      exact K46
  have K17 : J G X 17 [vr 23 0 0, vi (A 1), vi (mst A 3), vx, vx, vx, vx, vx, vx, vx] [vi ((RwL A 0).length : Int)] (upr m 23 0 0 (st1 (m 23 0 0) 5 (-1))) := by
    refine siN_3 hX dX5_search_17 ?_
    refine J_iloadN hX rfl rfl dX5_search_18 ?_
    refine J_iconst hX (by decide) dX5_search_19 ?_
    have e := hc 1
    refine J_icmp_le (tgt := 30) hX (by decide) dX5_search_20 (fun h1 => ?_) (fun h1 => ?_)
    · refine J_iconst hX (by decide) dX5_search_30 ?_
      rw [if_neg (by omega)] at e
      rw [e] at K31
      exact K31
    · rw [if_pos h1] at e
      rw [e] at K31
      refine J_aloadN hX rfl rfl dX5_search_23 ?_
      refine G_Quartering_howCount hX dX5_search_24 mF_X5_57 ?_
      rw [upr_eq, st1_ne (by decide)]
      refine J_goto (tgt := 31) hX (by decide) dX5_search_27 ?_
      exact K31
  refine J_aloadN hX rfl rfl dX5_search_0 ?_
  refine J_iconst hX (by decide) dX5_search_1 ?_
  refine P_Quartering_worth hX dX5_search_2 mF_X5_107 ?_
  refine J_iloadN hX rfl rfl dX5_search_5 ?_
  have e := hc 0
  refine J_if_le (tgt := 16) hX (by decide) dX5_search_6 (fun h1 => ?_) (fun h1 => ?_)
  · refine J_iconst hX (by decide) dX5_search_16 ?_
    rw [if_neg (by omega)] at e
    rw [e] at K17
    exact K17
  · rw [if_pos h1] at e
    rw [e] at K17
    refine J_aloadN hX rfl rfl dX5_search_9 ?_
    refine G_Quartering_howCount hX dX5_search_10 mF_X5_57 ?_
    rw [upr_eq, st1_ne (by decide)]
    refine J_goto (tgt := 17) hX (by decide) dX5_search_13 ?_
    exact K17
/-! what was found -/
theorem vsL_ge {s : Int × (Int → Int)} : ∀ l : List (Int → Int), s.1 ≤ (vsL A s l).1 ∧ ∀ F ∈ l, qW A F (A 2) ≤ (vsL A s l).1 := by
  intro l
  induction l generalizing s with
  | nil => exact ⟨Int.le_refl _, fun F h => by cases h⟩
  | cons F l ih =>
    have h := ih (s := vs A s F)
    have e : vsL A s (F :: l) = vsL A (vs A s F) l := rfl
    have hv : s.1 ≤ (vs A s F).1 ∧ qW A F (A 2) ≤ (vs A s F).1 := by
      unfold vs
      by_cases q : qW A F (A 2) ≤ s.1
      · rw [if_pos q]; exact ⟨Int.le_refl _, q⟩
      · rw [if_neg q]; exact ⟨by show s.1 ≤ qW A F (A 2); omega, Int.le_refl _⟩
    rw [e]
    refine ⟨by omega, fun K hK => ?_⟩
    rcases List.mem_cons.mp hK with rfl | hK
    · omega
    · exact h.2 K hK
theorem qL0_ne (hI : InvA A C D) (h3 : few3 A) : ∃ F l, qL0 A = F :: l ∧ 0 ≤ qW A F (A 2) := by
  have h0 := hI.1
  have h32 := h3.2
  have ne : ∀ p, ∃ t l, RwL A p = t :: l := fun p => by
    unfold RwL
    by_cases q : p < A 1
    · rw [if_pos q]
      obtain ⟨t, l, h, -⟩ := hrL_0 (A 2).toNat (by omega)
      exact ⟨t, l, h⟩
    · rw [if_neg q]; exact ⟨_, _, rfl⟩
  obtain ⟨t0, l0, e0⟩ := ne 0
  obtain ⟨t1, l1, e1⟩ := ne 1
  obtain ⟨t2, l2, e2⟩ := ne 2
  refine ⟨stR 2 t2 0 (stR 1 t1 0 (stR 0 t0 0 zF)), (l2.map (fun t => stR 2 t 0 (stR 1 t1 0 (stR 0 t0 0 zF))) ++ l1.flatMap (fun t => qL2 A (stR 1 t 0 (stR 0 t0 0 zF)))) ++ l0.flatMap (fun t => qL1 A (stR 0 t 0 zF)), ?_, (qW_b hI ⟨by omega, by omega⟩).1⟩
  · unfold qL0 qL1 qL2
    rw [e0, e1, e2]
    rfl
theorem bestF_eq {z : Int → Int} (hI : InvA A C D) (h3 : few3 A) : bestF A z = vsL A (-9, z) (qL0 A) := by
  unfold bestF
  rw [qL_L0 hI h3]
theorem bestF_z {z z' : Int → Int} (hI : InvA A C D) (h3 : few3 A) : bestF A z = bestF A z' := by
  rw [bestF_eq hI h3, bestF_eq hI h3]
  obtain ⟨F, l, e, hF⟩ := qL0_ne hI h3
  rw [e]
  show vsL A (vs A (-9, z) F) l = vsL A (vs A (-9, z') F) l
  have e1 : ∀ z, vs A (-9, z) F = (qW A F (A 2), F) := fun z => by
    unfold vs
    exact if_neg (by show ¬ qW A F (A 2) ≤ -9; omega)
  rw [e1, e1]
def QV (m : HM) (A : Int → Int) : Prop := m 23 0 0 6 = 1 ∧ m 23 0 0 5 = (bestF A zF).1 ∧ ∀ p w, inN p (A 1) → inN w (A 2) → inN (m 28 0 0 p) 35 ∧ m 25 0 (m 28 0 0 p) w = (bestF A zF).2 (6 * p + w)
/-- the quartering's rooms change -/
def FrQu (m m' : HM) : Prop := ∀ t v i, ¬ (17 ≤ t ∧ t ≤ 19 ∧ v = 3) → t ≠ 23 → t ≠ 25 → t ≠ 27 → t ≠ 28 → m' t v i = m t v i
theorem FrQu.rf : FrQu m m := fun _ _ _ _ _ _ _ _ => rfl
theorem FrQu.tr {m' m2 : HM} (h : FrQu m m') (h2 : FrQu m' m2) : FrQu m m2 := fun t v i a b c d e => (h2 t v i a b c d e).trans (h t v i a b c d e)
theorem FrGn.toQu {m' : HM} (h : FrGn m m') : FrQu m m' := fun t v i a _ _ d _ => h t v i a d
theorem FrH.toQu {m' : HM} (h : FrH m m') : FrQu m m' := fun t v i _ b c _ _ => h.1 t v i c b
theorem FrS.toQu {m' : HM} (h : FrS m m') : FrQu m m' := fun t v i _ b _ _ e => h.1 t v i e b
theorem RelV.frQu {m' : HM} (h : RelV m v A) (hf : FrQu m m') : RelV m' v A := h.keep (hf 1 v 0 (by omega) (by decide) (by decide) (by decide) (by decide)) (fun i => hf 3 v i (by omega) (by decide) (by decide) (by decide) (by decide)) (fun i => hf 9 v i (by omega) (by decide) (by decide) (by decide) (by decide)) (fun i => hf 10 v i (by omega) (by decide) (by decide) (by decide) (by decide)) (fun i => hf 11 v i (by omega) (by decide) (by decide) (by decide) (by decide)) (fun i => hf 12 v i (by omega) (by decide) (by decide) (by decide) (by decide)) (fun i => hf 13 v i (by omega) (by decide) (by decide) (by decide) (by decide))
def fdP (m : HM) (A : Int → Int) (m' : HM) : Prop := FrQu m m' ∧ QV m' A
theorem l_fd1 {m0 : HM} (hX : Ok_X5_find G X 7) (hR : RelV m0 v A) (hI : InvA A C D) (h3 : few3 A) (hR0 : JRt G X (pu (fdP m0 A)) none) : ∀ i, 0 ≤ i → i ≤ 3 → ∀ M, FrQu m0 M → RelH M ((hrL (A 2).toNat 4).map (fun t => [cp 0 t, cp 1 t, cp 2 t])) → (∀ w y, inN w i → inN y 125 → M 27 0 w y = gwv A w y) → J G X 27 [vr 23 0 0, vr 1 v 0, vi (mst A i), vi i] [] M := by
  have h0 := hI.1
  have hmb := mst_b hI
  refine up_to (fun i h1 h2 ih M hfr hH hg => ?_)
  have hV := hR.frQu hfr
  refine J_iloadN hX rfl rfl dX5_find_27 ?_
  refine J_iconst hX (by decide) dX5_find_28 ?_
  refine J_icmp_ge (tgt := 47) hX (by decide) dX5_find_29 (fun h4 => ?_) (fun h4 => ?_)
  · have e : i = 3 := by omega
    subst e
    refine J_aloadN hX rfl rfl dX5_find_47 ?_
    refine J_aloadN hX rfl rfl dX5_find_48 ?_
    refine G_Village_personCount hX dX5_find_49 mF_X5_28 ?_
    rw [hV.1.2.1]
    refine J_iloadN hX rfl rfl dX5_find_52 ?_
    refine cV2u hX cb_X5_search mL_X5_53 dX5_find_53 (c_search (F0 := zF) ⟨hH, hg⟩ hI h3) (fun m2 hm2 => ?_)
    obtain ⟨hf2, hs2⟩ := hm2
    rw [← bestF_eq (z := zF) hI h3] at hs2
    have hne : ¬ (m2 23 0 0 5 = -1 ∧ (bestF A zF).1 = -9) := fun q => by
      obtain ⟨F, l, e, hF⟩ := qL0_ne hI h3
      have := (vsL_ge (A := A) (s := (-9, zF)) (qL0 A)).2 F (by rw [e]; exact List.mem_cons_self)
      rw [← bestF_eq (z := zF) hI h3] at this
      omega
    have hs3 := hs2.resolve_left hne
    have hSe2 : SeM m2 A := SeM.fr ⟨hH, hg⟩ hf2
    refine J_aloadN hX rfl rfl dX5_find_56 ?_
    refine J_iconst hX (by decide) dX5_find_57 ?_
    refine P_Quartering_isFound hX (by omega) dX5_find_58 mF_X5_37 ?_
    refine J_vret hX hR0 dX5_find_61 ?_
    refine puI ⟨(hfr.tr hf2.toQu).tr (fun t v i _ b _ _ _ => by rw [upr_tag b]), by rw [upr_eq, st1_eq], by rw [upr_eq, st1_ne (by decide)]; exact hs3.2.2.1, fun p w hp hw => ?_⟩
    obtain ⟨i0, i1, i2, t0, t1, t2, g0, g1, g2, c0, c1, c2, ef⟩ := hs3.2.2.2
    have h31 := h3.1
    have h32 := h3.2
    have r0 := row_at hSe2 hI h3 g0
    have r1 := row_at hSe2 hI h3 g1
    have r2 := row_at hSe2 hI h3 g2
    have hF := Fq_at hI h3 (List.mem_of_getElem? g0) (List.mem_of_getElem? g1) (List.mem_of_getElem? g2) hw
    rw [ef]
    simp only [upr_t, Nat.reduceBEq]
    rcases (show p = 0 ∨ p = 1 ∨ p = 2 by omega) with rfl | rfl | rfl
    · rw [c0, r0.2 w (by omega), show 6 * 0 + w = w by omega, hF.1 (by omega)]
      exact ⟨by omega, rfl⟩
    · rw [c1, r1.2 w (by omega), show 6 * 1 + w = 6 + w by omega, hF.2.1 (by omega)]
      exact ⟨by omega, rfl⟩
    · rw [c2, r2.2 w (by omega), show 6 * 2 + w = 12 + w by omega, hF.2.2 (by omega)]
      exact ⟨by omega, rfl⟩
  · have hi : inN i 3 := ⟨h1, h4⟩
    have em : mst A (i + 1) = mst A i + mxI (gwv A i) 125 := by unfold mst; rw [sumI_s h1]
    have mn := mxI_nn (gwv A i) 125
    have mb : 0 ≤ mst A i ∧ mst A (i + 1) ≤ mst A 3 := by
      have e3 : mst A 3 = 0 + mxI (gwv A 0) 125 + mxI (gwv A 1) 125 + mxI (gwv A 2) 125 := rfl
      have e2 : mst A 2 = 0 + mxI (gwv A 0) 125 + mxI (gwv A 1) 125 := rfl
      have e1 : mst A 1 = 0 + mxI (gwv A 0) 125 := rfl
      have e0 : mst A 0 = 0 := rfl
      have a0 := mxI_nn (gwv A 0) 125
      have a1 := mxI_nn (gwv A 1) 125
      have a2 := mxI_nn (gwv A 2) 125
      rw [em]
      rcases (show i = 0 ∨ i = 1 ∨ i = 2 by omega) with rfl | rfl | rfl <;> omega
    refine J_iloadN hX rfl rfl dX5_find_32 ?_
    refine J_aloadN hX rfl rfl dX5_find_33 ?_
    refine J_aloadN hX rfl rfl dX5_find_34 ?_
    refine J_iloadN hX rfl rfl dX5_find_35 ?_
    refine cV2i hX cb_X5_fillGains mL_X5_49 dX5_find_36 (c_fillGains hV hI h3 hi) (fun r m2 hm2 => ?_)
    obtain ⟨rfl, hf2, hg2, hu2⟩ := hm2
    refine J_iadd hX (fun _ _ => by omega) dX5_find_39 ?_
    refine siN_2 hX dX5_find_40 ?_
    refine sinc_3 hX (fun _ => by omega) dX5_find_41 ?_
    refine J_goto (tgt := 27) hX (by decide) dX5_find_44 ?_
    have nx := ih h4 m2 (hfr.tr hf2.toQu) ⟨by rw [hf2 23 0 0 (by omega) (by decide)]; exact hH.1, fun j t hj k hk => by rw [hf2 25 0 j (by omega) (by decide)]; exact hH.2 j t hj k hk⟩ (fun w y hw hy => by
      by_cases q : w = i
      · rw [q]; exact hg2 y hy
      · rw [hu2 w q]; exact hg w y (by omega) hy)
    rw [em] at nx
    exact nx
theorem c_find (hR : RelV m v A) (hI : InvA A C D) (h3 : few3 A) (hq : m 23 0 0 6 = 0 ∨ QV m A) : K_X5_find G [vr 23 0 0, vr 1 v 0] m (pu (fdP m A)) := by
  refine E_X5_find (fun X hX hR0 _ _ => ?_)
  have h0 := hI.1
  have h32 := h3.2
  refine J_aloadN hX rfl rfl dX5_find_0 ?_
  refine G_Quartering_isFound hX dX5_find_1 mF_X5_37 ?_
  refine J_if_ne (tgt := 14) hX (by decide) dX5_find_4 (fun h1 => ?_) (fun h1 => ?_)
  · skip
    exact J_vret hX hR0 dX5_find_14 (puI ⟨FrQu.rf, hq.resolve_left h1⟩)
  · refine J_aloadN hX rfl rfl dX5_find_7 ?_
    refine cS1w hX cb_X5_fits mL_X5_41 dX5_find_8 (c_fits hR) ?_
    refine J_ifb_ne (tgt := 15) hX (by decide) dX5_find_11 (fun h2 => ?_) (fun h2 => ?_)
    · refine J_aloadN hX rfl rfl dX5_find_15 ?_
      refine J_aloadN hX rfl rfl dX5_find_16 ?_
      refine G_Village_workCount hX dX5_find_17 mF_X5_34 ?_
      rw [hR.1.2.2]
      refine cV1u hX cb_X5_listHows mL_X5_45 dX5_find_20 (c_listHows ⟨by omega, h32⟩) (fun m2 hm2 => ?_)
      refine J_iconst hX (by decide) dX5_find_23 ?_
      refine siN_2 hX dX5_find_24 ?_
      refine J_iconst hX (by decide) dX5_find_25 ?_
      refine siN_3 hX dX5_find_26 ?_
      exact l_fd1 hX hR hI h3 hR0 0 (by omega) (by omega) m2 hm2.1.toQu hm2.2 (fun w y hw => by have := hw.1; have := hw.2; omega)
    · exact absurd h3 h2
theorem c_quartersAt (hx : inN x 3) (hy : inN y 3) (hc : inN (m 28 0 0 x) 35) : K_X5_quartersAt G [vr 23 0 0, vi x, vi y] m (pw (vi (m 25 0 (m 28 0 0 x) y)) m) := by
  refine E_X5_quartersAt (fun X hX hR0 _ _ => ?_)
  refine J_iloadN hX rfl rfl dX5_quartersAt_0 ?_
  refine J_if_lt (tgt := 18) hX (by decide) dX5_quartersAt_1 (fun h1 => ?_) (fun h1 => ?_)
  · omega
  · refine J_iloadN hX rfl rfl dX5_quartersAt_4 ?_
    refine J_iconst hX (by decide) dX5_quartersAt_5 ?_
    refine J_icmp_ge (tgt := 18) hX (by decide) dX5_quartersAt_6 (fun h2 => ?_) (fun h2 => ?_)
    · omega
    · refine J_iloadN hX rfl rfl dX5_quartersAt_9 ?_
      refine J_if_lt (tgt := 18) hX (by decide) dX5_quartersAt_10 (fun h3 => ?_) (fun h3 => ?_)
      · omega
      · refine J_iloadN hX rfl rfl dX5_quartersAt_13 ?_
        refine J_iconst hX (by decide) dX5_quartersAt_14 ?_
        refine J_icmp_lt (tgt := 20) hX (by decide) dX5_quartersAt_15 (fun h4 => ?_) (fun h4 => ?_)
        · refine J_aloadN hX rfl rfl dX5_quartersAt_20 ?_
          refine G_Quartering_hows hX dX5_quartersAt_21 mF_X5_11 ?_
          refine J_aloadN hX rfl rfl dX5_quartersAt_24 ?_
          refine G_Quartering_chosen hX dX5_quartersAt_25 mF_X5_17 ?_
          refine J_iloadN hX rfl rfl dX5_quartersAt_28 ?_
          refine L_28 hX (by omega) dX5_quartersAt_29 ?_
          refine A_24 hX (by omega) dX5_quartersAt_30 ?_
          refine J_iloadN hX rfl rfl dX5_quartersAt_31 ?_
          refine L_25 hX (by omega) dX5_quartersAt_32 ?_
          exact J_iret hX hR0 dX5_quartersAt_33 (pwI rfl)
        · omega
end Qu
