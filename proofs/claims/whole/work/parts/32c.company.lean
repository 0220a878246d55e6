/-! ===== 32c: the class's Company: fillEnough, share, fewestForWholes ===== -/
section Co
variable {G : GC} {X : JX} {m : HM} {κ p t τ w x y z i k q b v e a s : Int} {A N S g F : Int → Int} {H C D : Int} {P E : Int → Prop}
/-- the effort and isEnough change -/
def FrKE (m m' : HM) : Prop := ∀ t v i, ¬ (17 ≤ t ∧ t ≤ 19 ∧ v = 4) → t ≠ 31 → m' t v i = m t v i
theorem FrKE.rf : FrKE m m := fun _ _ _ _ _ => rfl
theorem FrKE.fe {m' m2 : HM} (h : FrKE m m') (h2 : FrE 4 m' m2) : FrKE m m2 := fun t v i a b => (h2 t v i a).trans (h t v i a b)
theorem FrKE.t31 {m' : HM} (h : FrKE m m') {v i : Int} {f : Int → Int} : FrKE m (upr m' 31 v i f) := fun t' v' i' a b => by
  rw [upr_tag b]
  exact h t' v' i' a b
theorem RelV.frKE {m' : HM} (h : RelV m v A) (hf : FrKE m m') : RelV m' v A := h.keep (hf 1 v 0 (by omega) (by decide)) (fun i => hf 3 v i (by omega) (by decide)) (fun i => hf 9 v i (by omega) (by decide)) (fun i => hf 10 v i (by omega) (by decide)) (fun i => hf 11 v i (by omega) (by decide)) (fun i => hf 12 v i (by omega) (by decide)) (fun i => hf 13 v i (by omega) (by decide))
noncomputable def feS (A : Int → Int) (w s n k : Int) : Int := sP (inS s) (fun p => gv (aW A w 0) k (aG A p k) 12 0) n
noncomputable def feH (s n : Int) : Int := oI (inS s) (fun p => p) n
theorem feS_b {n : Int} (hI : InvA A C D) (hn : 0 ≤ n ∧ n ≤ A 1) (hk : inN k 3) : 0 ≤ feS A w s n k ∧ feS A w s n k ≤ 8640 := by
  have h0 := hI.1
  have := sP_b (P := inS s) (f := fun p => gv (aW A w 0) k (aG A p k) 12 0) (n := n) (c := 1440) hn.1 (by omega) (fun i hi _ => gv_b ((hI.2.2.1 i ⟨hi.1, by have := hi.2; omega⟩).2.2 k hk) (by omega) (by omega))
  unfold feS
  omega
theorem feH_b {n : Int} (hI : InvA A C D) (hn : 0 ≤ n ∧ n ≤ A 1) : inN (feH s n) 64 := by
  have h0 := hI.1
  exact oI_b (fun i hi _ => by have := hi.1; have := hi.2; show inN i 6; omega) hn.1
theorem l_fe1 {m0 : HM} (hX : Ok_X0_fillEnough G X 5) (hR : RelV m0 v A) (hI : InvA A C D) (hw : inN w (A 2)) (hs : inN s 64) (K63 : ∀ M c, FrKE m0 M → RelE M 4 (aW A w 0) (nW A w) (feS A w s (A 1)) (feH s (A 1)) → M 31 = m 31 → J G X 63 [vr 29 0 0, vr 1 v 0, vr 11 v w, vi s, c] [] M) : ∀ i, 0 ≤ i → i ≤ A 1 → ∀ M, FrKE m0 M → RelE M 4 (aW A w 0) (nW A w) (feS A w s i) (feH s i) → M 31 = m 31 → J G X 19 [vr 29 0 0, vr 1 v 0, vr 11 v w, vi s, vi i] [] M := by
  have h0 := hI.1
  refine up_to (fun i h1 h2 ih M hfr hr h31 => ?_)
  have hV := hR.frKE hfr
  refine J_iload hX rfl dX0_fillEnough_19 ?_
  refine J_aloadN hX rfl rfl dX0_fillEnough_21 ?_
  refine G_Village_personCount hX dX0_fillEnough_22 mF_X0_25 ?_
  rw [hV.1.2.1]
  refine J_icmp_ge (tgt := 63) hX (by decide) dX0_fillEnough_25 (fun h3 => ?_) (fun h3 => ?_)
  · have e : i = A 1 := by omega
    subst e
    exact K63 M _ hfr hr h31
  · have hi : inN i (A 1) := ⟨h1, by omega⟩
    have hi6 : inN i 6 := by omega
    have hb := shr_b hs hi6
    have hκ := (hI.2.2.2.1 w hw).1
    have hg := (hI.2.2.1 i hi).2.2
    have hv := (hV.2.2.1 i hi).2
    have K57 : ∀ M', FrKE m0 M' → RelE M' 4 (aW A w 0) (nW A w) (feS A w s (i + 1)) (feH s (i + 1)) → M' 31 = m 31 → J G X 57 [vr 29 0 0, vr 1 v 0, vr 11 v w, vi s, vi i] [] M' := fun M' g1 g2 g3 => by
      refine sinc_4 hX (fun _ => by omega) dX0_fillEnough_57 ?_
      refine J_goto (tgt := 19) hX (by decide) dX0_fillEnough_60 ?_
      exact ih (by omega) M' g1 g2 g3
    refine J_iloadN hX rfl rfl dX0_fillEnough_28 ?_
    refine J_iload hX rfl dX0_fillEnough_29 ?_
    refine J_ishr hX (fun _ _ => sd_shr hs hi6) dX0_fillEnough_31 ?_
    refine J_iconst hX (by decide) dX0_fillEnough_32 ?_
    refine J_iand hX (fun _ _ => sd_and1 hb) dX0_fillEnough_33 ?_
    refine J_iconst hX (by decide) dX0_fillEnough_34 ?_
    refine J_icmp_ne (tgt := 57) hX (by decide) dX0_fillEnough_35 (fun h4 => ?_) (fun h4 => ?_)
    · have e1 : feS A w s (i + 1) = feS A w s i := by funext k; unfold feS; rw [sP_f h1 h4]
      have e2 : feH s (i + 1) = feH s i := by unfold feH; rw [oI_f h1 h4]
      exact K57 M hfr (by rw [e1, e2]; exact hr) h31
    · have e1 : feS A w s (i + 1) = fun k => feS A w s i k + gv (aW A w 0) k (aG A i k) 12 0 := by funext k; unfold feS; rw [sP_t h1 h4]
      have e2 : feH s (i + 1) = orI (feH s i) (p2 i) := by unfold feH; rw [oI_t h1 h4]
      refine J_aloadN hX rfl rfl dX0_fillEnough_38 ?_
      refine G_Company_effort hX dX0_fillEnough_39 mF_X0_21 ?_
      refine J_iload hX rfl dX0_fillEnough_42 ?_
      refine J_aloadN hX rfl rfl dX0_fillEnough_44 ?_
      refine G_Village_persons hX dX0_fillEnough_45 mF_X0_61 ?_
      refine J_iload hX rfl dX0_fillEnough_48 ?_
      refine A_6 hX (by omega) dX0_fillEnough_50 ?_
      refine J_bipush hX (by decide) dX0_fillEnough_51 ?_
      refine J_iconst hX (by decide) dX0_fillEnough_53 ?_
      refine cV4u hX cb_X1_add mL_X0_65 dX0_fillEnough_54 (c_add (g := aG A i) hr (fun k hk => by have := feS_b (w := w) (s := s) hI ⟨h1, h2⟩ hk; omega) (feH_b hI ⟨h1, h2⟩) hκ hi6 (fun k hk => ⟨hv k hk, hg k hk⟩) (by omega) (by omega)) (fun m2 hm2 => ?_)
      exact K57 m2 (hfr.fe hm2.1) (by rw [e1, e2]; exact hm2.2) (by
        rw [← h31]
        funext v' i'
        exact hm2.1 31 v' i' (by omega))
def feP (m : HM) (A : Int → Int) (w : Int) (m' : HM) : Prop := FrKE m m' ∧ ∀ s, inN s 64 → m' 31 0 0 s = bi (en1 A w (inS s))
theorem l_fe2 {m0 : HM} (hX : Ok_X0_fillEnough G X 5) (hR : RelV m0 v A) (hI : InvA A C D) (hw : inN w (A 2)) (hκ1 : aW A w 0 = 1) (hR0 : JRt G X (pu (feP m0 A w)) none) : ∀ s, 0 ≤ s → s ≤ 64 → ∀ M c, FrKE m0 M → (∀ j, inN j s → M 31 0 0 j = bi (en1 A w (inS j))) → J G X 2 [vr 29 0 0, vr 1 v 0, vr 11 v w, vi s, c] [] M := by
  have h0 := hI.1
  refine up_to (fun s h1 h2 ih M c hfr h31 => ?_)
  have hV := hR.frKE hfr
  have hWo := hV.2.2.2.1 w hw
  refine J_iloadN hX rfl rfl dX0_fillEnough_2 ?_
  refine J_bipush hX (by decide) dX0_fillEnough_3 ?_
  refine J_icmp_ge (tgt := 82) hX (by decide) dX0_fillEnough_5 (fun h3 => ?_) (fun h3 => ?_)
  · skip
    refine J_vret hX hR0 dX0_fillEnough_82 ?_
    exact puI ⟨hfr, fun j hj => h31 j ⟨hj.1, by have := hj.2; omega⟩⟩
  · have hs : inN s 64 := ⟨h1, h3⟩
    refine J_aloadN hX rfl rfl dX0_fillEnough_8 ?_
    refine G_Company_effort hX dX0_fillEnough_9 mF_X0_21 ?_
    refine J_aloadN hX rfl rfl dX0_fillEnough_12 ?_
    refine cV1u hX cb_X1_begin mL_X0_57 dX0_fillEnough_13 (c_begin hWo.1 hWo.2.2.2) (fun m2 hm2 => ?_)
    refine J_iconst hX (by decide) dX0_fillEnough_16 ?_
    refine si_4 hX dX0_fillEnough_17 ?_
    refine l_fe1 (m := M) hX hR hI hw hs (fun M' c' hfr' hr' e31 => ?_) 0 (by omega) (by omega) m2 (hfr.fe hm2.1) hm2.2 (by
      funext v' i'
      exact hm2.1 31 v' i' (by omega))
    have okn : okNS (nW A w) (feS A w s (A 1)) := fun k hk => by
      have h1 := (hI.2.2.2.1 w hw).2.2.2 k hk
      have h2 := feS_b (w := w) (s := s) (n := A 1) hI ⟨by omega, by omega⟩ hk
      unfold nW
      exact ⟨h1, by omega⟩
    have hH := feH_b (s := s) (n := A 1) hI ⟨by omega, by omega⟩
    have eD : doneS (aW A w 0) (nW A w) (feS A w s (A 1)) (feH s (A 1)) ↔ en1 A w (inS s) := done_en (C := C) (D := D) hκ1 (fun k hk => by
      unfold feS gs
      refine sP_cg (by omega) (fun p hp => ⟨Iff.rfl, fun _ => ?_⟩)
      rw [hκ1, gv_1])
    refine J_aloadN hX rfl rfl dX0_fillEnough_63 ?_
    refine G_Company_isEnough hX dX0_fillEnough_64 mF_X0_15 ?_
    refine J_iloadN hX rfl rfl dX0_fillEnough_67 ?_
    refine J_aloadN hX rfl rfl dX0_fillEnough_68 ?_
    refine G_Company_effort hX dX0_fillEnough_69 mF_X0_21 ?_
    refine cV0w hX cb_X1_isDone mL_X0_69 dX0_fillEnough_72 (c_isDone hr' okn hH) ?_
    rw [bi_congr eD]
    refine J_zast hX (by decide) (by omega) (bi_01 _) dX0_fillEnough_75 ?_
    refine sinc_3 hX (fun _ => by omega) dX0_fillEnough_76 ?_
    refine J_goto (tgt := 2) hX (by decide) dX0_fillEnough_79 ?_
    refine ih h3 _ _ hfr'.t31 (fun j hj => ?_)
    rw [upr_eq]
    by_cases q : j = s
    · rw [q, st1_eq]
    · rw [st1_ne q, e31]
      exact h31 j ⟨hj.1, by have := hj.2; omega⟩
theorem c_fillEnough (hR : RelV m v A) (hI : InvA A C D) (hw : inN w (A 2)) (hκ1 : aW A w 0 = 1) : K_X0_fillEnough G [vr 29 0 0, vr 1 v 0, vr 11 v w] m (pu (feP m A w)) := by
  refine E_X0_fillEnough (fun X hX hR0 _ _ => ?_)
  refine J_iconst hX (by decide) dX0_fillEnough_0 ?_
  refine siN_3 hX dX0_fillEnough_1 ?_
  exact l_fe2 hX hR hI hw hκ1 hR0 0 (by omega) (by omega) m _ FrKE.rf (fun j hj => by have := hj.1; have := hj.2; omega)
/-- one more work takes some -/
def shC (P E : Int → Prop) (a s : Int) : Prop := dfI s a = 0 ∧ E s ∧ P (dfI a s)
def shN (P E : Int → Prop) (a : Int) : Prop := ∃ s, inN s 64 ∧ shC P E a s
theorem shN_iff (ha : inN a 64) : shN P E a ↔ ∃ s, inN s (a + 1) ∧ shC P E a s :=
  ⟨fun ⟨s, hs, h⟩ => ⟨s, ⟨hs.1, by have := sub_le ha hs h.1; omega⟩, h⟩, fun ⟨s, hs, h⟩ => ⟨s, ⟨hs.1, by have := hs.2; omega⟩, h⟩⟩
theorem l_sh1 {M : HM} (hX : Ok_X0_share G X 2) (ha : inN a 64) (hax : a < x) (h31 : ∀ s, inN s 64 → M 31 0 0 s = bi (E s)) (h30 : ∀ j, 0 ≤ j → j ≤ a → M 30 0 0 j = bi (j < x ∧ P j)) (K73 : ∀ c, J G X 73 [vr 29 0 0, vi x, vi a, vi (bi (shN P E a)), c] [] M) : ∀ i, 0 ≤ i → i ≤ a + 1 → J G X 18 [vr 29 0 0, vi x, vi a, vi (bi (∃ s, inN s i ∧ shC P E a s)), vi i] [] M := by
  refine up_to (fun i h1 h2 ih => ?_)
  have eN := shN_iff (P := P) (E := E) ha
  refine J_iload hX rfl dX0_share_18 ?_
  refine J_iloadN hX rfl rfl dX0_share_20 ?_
  refine J_icmp_gt (tgt := 73) hX (by decide) dX0_share_21 (fun h3 => ?_) (fun h3 => ?_)
  · have e : i = a + 1 := by omega
    subst e
    have := K73 (vi (a + 1))
    rw [bi_congr eN] at this
    exact this
  · have hi : inN i 64 := by omega
    refine J_iloadN hX rfl rfl dX0_share_24 ?_
    refine J_ifb_ne (tgt := 73) hX (by decide) dX0_share_25 (fun h4 => ?_) (fun h4 => ?_)
    · have e : bi (∃ s, inN s i ∧ shC P E a s) = bi (shN P E a) := bi_congr ⟨fun _ => by
        obtain ⟨s, hs, h⟩ := h4
        exact eN.mpr ⟨s, ⟨hs.1, by have := hs.2; omega⟩, h⟩, fun _ => h4⟩
      rw [e]
      exact K73 _
    · have nx := ih (by omega)
      have hb := dfI_b ha hi
      have K66 : ∀ c, bi (∃ s, inN s (i + 1) ∧ shC P E a s) = c → J G X 66 [vr 29 0 0, vi x, vi a, vi (bi (∃ s, inN s i ∧ shC P E a s)), vi i] [vi c] M := fun c hc => by
        rw [hc] at nx
        refine siN_3 hX dX0_share_66 ?_
        refine sinc_4 hX (fun _ => by omega) dX0_share_67 ?_
        refine J_goto (tgt := 18) hX (by decide) dX0_share_70 ?_
        exact nx
      have K65 : ¬ shC P E a i → J G X 65 [vr 29 0 0, vi x, vi a, vi (bi (∃ s, inN s i ∧ shC P E a s)), vi i] [] M := fun hn => by
        refine J_iconst hX (by decide) dX0_share_65 ?_
        exact K66 0 (bi_neg (fun ⟨s, hs, h⟩ => by
          by_cases q : s = i
          · rw [q] at h; exact hn h
          · exact h4 ⟨s, ⟨hs.1, by have := hs.2; omega⟩, h⟩))
      refine J_iload hX rfl dX0_share_28 ?_
      refine J_iloadN hX rfl rfl dX0_share_30 ?_
      refine J_iconst hX (by decide) dX0_share_31 ?_
      refine J_ixor hX (fun _ _ => sd_nx ha) dX0_share_32 ?_
      refine J_iand hX (fun _ _ => sd_df hi ha) dX0_share_33 ?_
      refine J_if_ne (tgt := 65) hX (by decide) dX0_share_34 (fun h5 => ?_) (fun h5 => ?_)
      · exact K65 (fun q => h5 q.1)
      · refine J_aloadN hX rfl rfl dX0_share_37 ?_
        refine G_Company_isEnough hX dX0_share_38 mF_X0_15 ?_
        refine J_iload hX rfl dX0_share_41 ?_
        refine J_zald hX (by decide) (by omega) dX0_share_43 ?_
        rw [h31 i hi]
        refine J_ifb_eq (tgt := 65) hX (by decide) dX0_share_44 (fun h6 => ?_) (fun h6 => ?_)
        · exact K65 (fun q => h6 q.2.1)
        · refine J_aloadN hX rfl rfl dX0_share_47 ?_
          refine G_Company_isAble hX dX0_share_48 mF_X0_11 ?_
          refine J_iloadN hX rfl rfl dX0_share_51 ?_
          refine J_iload hX rfl dX0_share_52 ?_
          refine J_iconst hX (by decide) dX0_share_54 ?_
          refine J_ixor hX (fun _ _ => sd_nx hi) dX0_share_55 ?_
          refine J_iand hX (fun _ _ => sd_df ha hi) dX0_share_56 ?_
          refine J_zald hX (by decide) (by omega) dX0_share_57 ?_
          rw [h30 (dfI a i) hb.1.1 hb.2]
          refine J_ifb_eq (tgt := 65) hX (by decide) dX0_share_58 (fun h7 => ?_) (fun h7 => ?_)
          · exact K65 (fun q => h7 ⟨by omega, q.2.2⟩)
          · refine J_iconst hX (by decide) dX0_share_61 ?_
            refine J_goto (tgt := 66) hX (by decide) dX0_share_62 ?_
            exact K66 1 (bi_pos ⟨i, ⟨h1, by omega⟩, h5, h6, h7.2⟩)
def shP1 (m : HM) (P E : Int → Prop) (x : Int) (m' : HM) : Prop := FrT 30 0 m m' ∧ ∀ j, inN j 64 → m' 30 0 0 j = bi (j < x ∧ shN P E j)
theorem l_sh2 {m0 : HM} (hX : Ok_X0_share G X 2) (hx : 0 ≤ x ∧ x ≤ 64) (h31 : ∀ s, inN s 64 → m0 31 0 0 s = bi (E s)) (h30 : ∀ j, inN j 64 → m0 30 0 0 j = bi (j < x ∧ P j)) (hR0 : JRt G X (pu (shP1 m0 P E x)) none) : ∀ a, -1 ≤ a → a ≤ x - 1 → ∀ M c d, FrT 30 0 m0 M → (∀ j, inN j 64 → M 30 0 0 j = if j ≤ a then bi (j < x ∧ P j) else bi (j < x ∧ shN P E j)) → J G X 9 [vr 29 0 0, vi x, vi a, c, d] [] M := by
  refine down_to (fun a h1 h2 ih M c d hfr hs => ?_)
  refine J_iloadN hX rfl rfl dX0_share_9 ?_
  refine J_if_lt (tgt := 86) hX (by decide) dX0_share_10 (fun h3 => ?_) (fun h3 => ?_)
  · skip
    refine J_vret hX hR0 dX0_share_86 ?_
    refine puI ⟨hfr, fun j hj => ?_⟩
    rw [hs j hj, if_neg (by have := hj.1; omega)]
  · have ha : inN a 64 := by omega
    refine J_iconst hX (by decide) dX0_share_13 ?_
    refine siN_3 hX dX0_share_14 ?_
    refine J_iconst hX (by decide) dX0_share_15 ?_
    refine si_4 hX dX0_share_16 ?_
    have fin := l_sh1 (M := M) (P := P) (E := E) hX ha (show a < x by omega) (fun s hs' => by rw [hfr 31 0 0 (by decide)]; exact h31 s hs') (fun j a1 a2 => by rw [hs j (by omega), if_pos a2]) (fun c' => by
      refine J_aloadN hX rfl rfl dX0_share_73 ?_
      refine G_Company_isAble hX dX0_share_74 mF_X0_11 ?_
      refine J_iloadN hX rfl rfl dX0_share_77 ?_
      refine J_iloadN hX rfl rfl dX0_share_78 ?_
      refine J_zast hX (by decide) (by omega) (bi_01 _) dX0_share_79 ?_
      refine sinc_2 hX (fun _ => by omega) dX0_share_80 ?_
      refine J_goto (tgt := 9) hX (by decide) dX0_share_83 ?_
      refine ih (by omega) _ _ _ hfr.up (fun j hj => ?_)
      rw [upr_eq]
      by_cases q : j = a
      · rw [q, st1_eq, if_neg (by omega)]
        exact bi_congr ⟨fun z => ⟨by omega, z⟩, fun z => z.2⟩
      · rw [st1_ne q, hs j hj]
        by_cases q2 : j ≤ a
        · rw [if_pos q2, if_pos (by omega)]
        · rw [if_neg q2, if_neg (by omega)]) 0 (by omega) (by omega)
    rw [bi_neg (fun ⟨s, hs', _⟩ => by have := hs'.1; have := hs'.2; omega)] at fin
    exact fin
theorem c_share (hx : 0 ≤ x ∧ x ≤ 64) (h31 : ∀ s, inN s 64 → m 31 0 0 s = bi (E s)) (h30 : ∀ j, inN j 64 → m 30 0 0 j = bi (j < x ∧ P j)) : K_X0_share G [vr 29 0 0, vi x] m (pu (shP1 m P E x)) := by
  refine E_X0_share (fun X hX hR0 _ _ => ?_)
  refine J_iloadN hX rfl rfl dX0_share_0 ?_
  refine J_bipush hX (by decide) dX0_share_1 ?_
  refine J_mmin hX rfl (by decide) (Nat.le_of_ble_eq_true rfl) dX0_share_3 mL_X0_73 ?_
  rw [show min x 64 = x by omega]
  refine J_iconst hX (by decide) dX0_share_6 ?_
  refine J_isub hX (fun _ _ => by omega) dX0_share_7 ?_
  refine siN_2 hX dX0_share_8 ?_
  exact l_sh2 hX hx h31 h30 hR0 (x - 1) (by omega) (by omega) m _ _ FrT.rf (fun j hj => by
    rw [h30 j hj]
    by_cases q : j ≤ x - 1
    · rw [if_pos q]
    · rw [if_neg q, bi_neg (fun z => by omega), bi_neg (fun z => by omega)])
/-- the company's rooms change -/
def FrK (m m' : HM) : Prop := ∀ t v i, ¬ (17 ≤ t ∧ t ≤ 19 ∧ v = 4) → t ≠ 30 → t ≠ 31 → m' t v i = m t v i
theorem FrK.rf : FrK m m := fun _ _ _ _ _ _ => rfl
theorem FrK.tr {m' m2 : HM} (h : FrK m m') (h2 : FrK m' m2) : FrK m m2 := fun t v i a b c => (h2 t v i a b c).trans (h t v i a b c)
theorem FrKE.toK {m' : HM} (h : FrKE m m') : FrK m m' := fun t v i a _ c => h t v i a c
theorem FrK.t30 {m' : HM} (h : FrK m m') {v i : Int} {f : Int → Int} : FrK m (upr m' 30 v i f) := fun t' v' i' a b c => by
  rw [upr_tag b]
  exact h t' v' i' a b c
theorem RelV.frK {m' : HM} (h : RelV m v A) (hf : FrK m m') : RelV m' v A := h.keep (hf 1 v 0 (by omega) (by decide) (by decide)) (fun i => hf 3 v i (by omega) (by decide) (by decide)) (fun i => hf 9 v i (by omega) (by decide) (by decide)) (fun i => hf 10 v i (by omega) (by decide) (by decide)) (fun i => hf 11 v i (by omega) (by decide) (by decide)) (fun i => hf 12 v i (by omega) (by decide) (by decide)) (fun i => hf 13 v i (by omega) (by decide) (by decide))
theorem l_ff1 {m0 : HM} (hX : Ok_X0_fewestForWholes G X 6) (hx : 0 ≤ x ∧ x ≤ 64) (K37 : ∀ M c d, FrK m0 M → (∀ j, inN j 64 → M 30 0 0 j = bi (j < x)) → J G X 37 [vr 29 0 0, vr 1 v 0, vi x, c, d] [] M) : ∀ s, 0 ≤ s → s ≤ 64 → ∀ M d, FrK m0 M → (∀ j, inN j s → M 30 0 0 j = bi (j < x)) → J G X 9 [vr 29 0 0, vr 1 v 0, vi x, vi s, d] [] M := by
  refine up_to (fun s h1 h2 ih M d hfr hs => ?_)
  refine J_iloadN hX rfl rfl dX0_fewestForWholes_9 ?_
  refine J_bipush hX (by decide) dX0_fewestForWholes_10 ?_
  refine J_icmp_ge (tgt := 37) hX (by decide) dX0_fewestForWholes_12 (fun h3 => ?_) (fun h3 => ?_)
  · exact K37 M _ _ hfr (fun j hj => hs j ⟨hj.1, by have := hj.2; omega⟩)
  · have K30 : ∀ y, y = bi (s < x) → J G X 30 [vr 29 0 0, vr 1 v 0, vi x, vi s, d] [vi y, vi s, vr 30 0 0] M := fun y hy => by
      subst hy
      refine J_zast hX (by decide) (by omega) (bi_01 _) dX0_fewestForWholes_30 ?_
      refine sinc_3 hX (fun _ => by omega) dX0_fewestForWholes_31 ?_
      refine J_goto (tgt := 9) hX (by decide) dX0_fewestForWholes_34 ?_
      refine ih h3 _ _ hfr.t30 (fun j hj => ?_)
      rw [upr_eq]
      by_cases q : j = s
      · rw [q, st1_eq]
      · rw [st1_ne q]
        exact hs j ⟨hj.1, by have := hj.2; omega⟩
    refine J_aloadN hX rfl rfl dX0_fewestForWholes_15 ?_
    refine G_Company_isAble hX dX0_fewestForWholes_16 mF_X0_11 ?_
    refine J_iloadN hX rfl rfl dX0_fewestForWholes_19 ?_
    refine J_iloadN hX rfl rfl dX0_fewestForWholes_20 ?_
    refine J_iloadN hX rfl rfl dX0_fewestForWholes_21 ?_
    refine J_icmp_ge (tgt := 29) hX (by decide) dX0_fewestForWholes_22 (fun h4 => ?_) (fun h4 => ?_)
    · refine J_iconst hX (by decide) dX0_fewestForWholes_29 ?_
      exact K30 0 (bi_neg (by omega)).symm
    · refine J_iconst hX (by decide) dX0_fewestForWholes_25 ?_
      refine J_goto (tgt := 30) hX (by decide) dX0_fewestForWholes_26 ?_
      exact K30 1 (bi_pos h4).symm
theorem l_ff2 {m0 : HM} (hX : Ok_X0_fewestForWholes G X 6) (hR : RelV m0 v A) (hI : InvA A C D) (hx : 0 ≤ x ∧ x ≤ 64) (K82 : ∀ M c d, FrK m0 M → (∀ j, inN j 64 → M 30 0 0 j = bi (j < x ∧ abI A (A 2) j)) → J G X 82 [vr 29 0 0, vr 1 v 0, vi x, c, d] [] M) : ∀ i, 0 ≤ i → i ≤ A 2 → ∀ M d, FrK m0 M → (∀ j, inN j 64 → M 30 0 0 j = bi (j < x ∧ abI A i j)) → J G X 39 [vr 29 0 0, vr 1 v 0, vi x, vi i, d] [] M := by
  have h0 := hI.1
  refine up_to (fun i h1 h2 ih M d hfr hs => ?_)
  have hV := hR.frK hfr
  refine J_iloadN hX rfl rfl dX0_fewestForWholes_39 ?_
  refine J_aloadN hX rfl rfl dX0_fewestForWholes_40 ?_
  refine G_Village_workCount hX dX0_fewestForWholes_41 mF_X0_31 ?_
  rw [hV.1.2.2]
  refine J_icmp_ge (tgt := 82) hX (by decide) dX0_fewestForWholes_44 (fun h3 => ?_) (fun h3 => ?_)
  · have e : i = A 2 := by omega
    subst e
    exact K82 M _ _ hfr hs
  · have hi : inN i (A 2) := ⟨h1, by omega⟩
    have hWo := hV.2.2.2.1 i hi
    refine J_aloadN hX rfl rfl dX0_fewestForWholes_47 ?_
    refine G_Village_works hX dX0_fewestForWholes_48 mF_X0_34 ?_
    refine J_iloadN hX rfl rfl dX0_fewestForWholes_51 ?_
    refine A_7 hX (by omega) dX0_fewestForWholes_52 ?_
    refine G_Work_kind hX dX0_fewestForWholes_53 mF_X0_38 ?_
    refine J_iconst hX (by decide) dX0_fewestForWholes_56 ?_
    rw [hWo.1]
    refine J_icmp_ne (tgt := 76) hX (by decide) dX0_fewestForWholes_57 (fun h4 => ?_) (fun h4 => ?_)
    · refine sinc_3 hX (fun _ => by omega) dX0_fewestForWholes_76 ?_
      refine J_goto (tgt := 39) hX (by decide) dX0_fewestForWholes_79 ?_
      refine ih (by omega) M _ hfr (fun j hj => ?_)
      rw [hs j hj]
      exact bi_congr ⟨fun z => ⟨z.1, (abI_s h1).mpr (Or.inr ⟨h4, z.2⟩)⟩, fun z => ⟨z.1, ((abI_s h1).mp z.2).elim (fun q => absurd q.1 h4) (fun q => q.2)⟩⟩
    · refine J_aloadN hX rfl rfl dX0_fewestForWholes_60 ?_
      refine J_aloadN hX rfl rfl dX0_fewestForWholes_61 ?_
      refine J_aloadN hX rfl rfl dX0_fewestForWholes_62 ?_
      refine G_Village_works hX dX0_fewestForWholes_63 mF_X0_34 ?_
      refine J_iloadN hX rfl rfl dX0_fewestForWholes_66 ?_
      refine A_7 hX (by omega) dX0_fewestForWholes_67 ?_
      refine cV2u hX cb_X0_fillEnough mL_X0_43 dX0_fewestForWholes_68 (c_fillEnough hV hI hi h4) (fun m2 hm2 => ?_)
      have e30 : ∀ j, inN j 64 → m2 30 0 0 j = bi (j < x ∧ abI A i j) := fun j hj => by rw [hm2.1 30 0 0 (by omega) (by decide)]; exact hs j hj
      refine J_aloadN hX rfl rfl dX0_fewestForWholes_71 ?_
      refine J_iloadN hX rfl rfl dX0_fewestForWholes_72 ?_
      refine cV1u hX cb_X0_share mL_X0_47 dX0_fewestForWholes_73 (c_share hx hm2.2 e30) (fun m3 hm3 => ?_)
      refine sinc_3 hX (fun _ => by omega) dX0_fewestForWholes_76 ?_
      refine J_goto (tgt := 39) hX (by decide) dX0_fewestForWholes_79 ?_
      refine ih (by omega) m3 _ (fun t v' i' a b c => (hm3.1 t v' i' (fun z => b z.1)).trans ((hfr.tr hm2.1.toK) t v' i' a b c)) (fun j hj => ?_)
      rw [hm3.2 j hj]
      refine bi_congr ⟨fun z => ⟨z.1, (abI_s h1).mpr (Or.inl ⟨h4, z.2⟩)⟩, fun z => ⟨z.1, ((abI_s h1).mp z.2).elim (fun q => q.2) (fun q => absurd h4 q.1)⟩⟩
theorem l_ff3 {m0 M : HM} (hX : Ok_X0_fewestForWholes G X 6) (hfr : FrK m0 M) (hs : ∀ j, inN j 64 → M 30 0 0 j = bi (P j)) (hR0 : JRt G X (pi (fun r m' => r = fwI P 64 ∧ FrK m0 m')) (some .int)) : ∀ i, 0 ≤ i → i ≤ 64 → J G X 88 [vr 29 0 0, vr 1 v 0, vi x, vi (fwI P i), vi i] [] M := by
  refine up_to (fun i h1 h2 ih => ?_)
  have hb := fwI_b (P := P) h1
  refine J_iload hX rfl dX0_fewestForWholes_88 ?_
  refine J_bipush hX (by decide) dX0_fewestForWholes_90 ?_
  refine J_icmp_ge (tgt := 132) hX (by decide) dX0_fewestForWholes_92 (fun h3 => ?_) (fun h3 => ?_)
  · have e : i = 64 := by omega
    subst e
    refine J_iloadN hX rfl rfl dX0_fewestForWholes_132 ?_
    exact J_iret hX hR0 dX0_fewestForWholes_133 (⟨_, rfl, rfl, hfr⟩)
  · have nx := ih h3
    have es := fwI_s (P := P) h1
    have K126 : fwI P (i + 1) = fwI P i → J G X 126 [vr 29 0 0, vr 1 v 0, vi x, vi (fwI P i), vi i] [] M := fun e => by
      rw [e] at nx
      refine sinc_4 hX (fun _ => by omega) dX0_fewestForWholes_126 ?_
      refine J_goto (tgt := 88) hX (by decide) dX0_fewestForWholes_129 ?_
      exact nx
    have K123 : fwI P (i + 1) = i → J G X 123 [vr 29 0 0, vr 1 v 0, vi x, vi (fwI P i), vi i] [] M := fun e => by
      rw [e] at nx
      refine J_iload hX rfl dX0_fewestForWholes_123 ?_
      refine siN_3 hX dX0_fewestForWholes_125 ?_
      refine sinc_4 hX (fun _ => by omega) dX0_fewestForWholes_126 ?_
      refine J_goto (tgt := 88) hX (by decide) dX0_fewestForWholes_129 ?_
      exact nx
    refine J_aloadN hX rfl rfl dX0_fewestForWholes_95 ?_
    refine G_Company_isAble hX dX0_fewestForWholes_96 mF_X0_11 ?_
    refine J_iload hX rfl dX0_fewestForWholes_99 ?_
    refine J_zald hX (by decide) (by omega) dX0_fewestForWholes_101 ?_
    rw [hs i ⟨h1, h3⟩]
    refine J_ifb_eq (tgt := 126) hX (by decide) dX0_fewestForWholes_102 (fun h4 => ?_) (fun h4 => ?_)
    · exact K126 (by rw [es, ifP_neg (fun q => h4 q.1)])
    · refine J_iloadN hX rfl rfl dX0_fewestForWholes_105 ?_
      refine J_bipush hX (by decide) dX0_fewestForWholes_106 ?_
      refine J_icmp_eq (tgt := 123) hX (by decide) dX0_fewestForWholes_108 (fun h5 => ?_) (fun h5 => ?_)
      · exact K123 (by rw [es, ifP_pos ⟨h4, Or.inl h5⟩])
      · refine J_iload hX rfl dX0_fewestForWholes_111 ?_
        refine cS1w hX cb_J6_bitCount_0f7a4 mL_X0_51 dX0_fewestForWholes_113 (c_bitCount ⟨h1, h3⟩) ?_
        refine J_iloadN hX rfl rfl dX0_fewestForWholes_116 ?_
        refine cS1w hX cb_J6_bitCount_0f7a4 mL_X0_51 dX0_fewestForWholes_117 (c_bitCount (show inN (fwI P i) 64 by omega)) ?_
        refine J_icmp_ge (tgt := 126) hX (by decide) dX0_fewestForWholes_120 (fun h6 => ?_) (fun h6 => ?_)
        · exact K126 (by rw [es, ifP_neg (fun q => by rcases q.2 with z | z <;> omega)])
        · exact K123 (by rw [es, ifP_pos ⟨h4, Or.inr h6⟩])
theorem c_fewest (hR : RelV m v A) (hI : InvA A C D) : K_X0_fewestForWholes G [vr 29 0 0, vr 1 v 0] m (pi (fun r m' => r = mustA A ∧ FrK m m')) := by
  refine E_X0_fewestForWholes (fun X hX hR0 _ _ => ?_)
  have h0 := hI.1
  have hp6 : 1 ≤ p2 (A 1) ∧ p2 (A 1) ≤ 64 := by
    rcases (show A 1 = 0 ∨ A 1 = 1 ∨ A 1 = 2 ∨ A 1 = 3 ∨ A 1 = 4 ∨ A 1 = 5 ∨ A 1 = 6 by omega) with e | e | e | e | e | e | e <;> rw [e] <;> decide
  rw [← fw_must hI] at hR0
  refine J_iconst hX (by decide) dX0_fewestForWholes_0 ?_
  refine J_aloadN hX rfl rfl dX0_fewestForWholes_1 ?_
  refine G_Village_personCount hX dX0_fewestForWholes_2 mF_X0_25 ?_
  rw [hR.1.2.1]
  refine J_ishl hX (fun _ _ => sd_shl ⟨by omega, by omega⟩) dX0_fewestForWholes_5 ?_
  refine siN_2 hX dX0_fewestForWholes_6 ?_
  refine J_iconst hX (by decide) dX0_fewestForWholes_7 ?_
  refine siN_3 hX dX0_fewestForWholes_8 ?_
  refine l_ff1 (m0 := m) hX (by omega) (fun M c d hfr hs => ?_) 0 (by omega) (by omega) m _ FrK.rf (fun j hj => by have := hj.1; have := hj.2; omega)
  refine J_iconst hX (by decide) dX0_fewestForWholes_37 ?_
  refine siN_3 hX dX0_fewestForWholes_38 ?_
  refine l_ff2 hX hR hI (by omega) (fun M' c' d' hfr' hs' => ?_) 0 (by omega) (by omega) M _ hfr (fun j hj => by rw [hs j hj]; exact bi_congr ⟨fun z => ⟨z, trivial⟩, fun z => z.1⟩)
  refine J_bipush hX (by decide) dX0_fewestForWholes_82 ?_
  refine siN_3 hX dX0_fewestForWholes_84 ?_
  refine J_iconst hX (by decide) dX0_fewestForWholes_85 ?_
  refine si_4 hX dX0_fewestForWholes_86 ?_
  exact l_ff3 hX hfr' hs' hR0 0 (by omega) (by omega)
end Co
