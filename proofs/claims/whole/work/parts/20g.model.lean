/-! ===== 20g: persons in quarters: the mathematics; the reference's search ===== -/
def qgP (A F : Int → Int) (w p : Int) : Prop := 0 < F (6 * p + w) ∧ aG A p 3 ≤ 3 * F (6 * p + w)
noncomputable def qS (A F : Int → Int) (w n k : Int) : Int := sP (qgP A F w) (fun p => gv (aW A w 0) k (aG A p k) (3 * F (6 * p + w)) 0) n
def qdn (A F : Int → Int) (w : Int) : Prop := doneS (aW A w 0) (nW A w) (qS A F w (A 1)) (byH F w (A 1))
noncomputable def qW (A F : Int → Int) (n : Int) : Int := sumI (fun w => ifP (qdn A F w) (aW A w 5) 0) n
def okQ (F : Int → Int) : Prop := ∀ j, inN j 36 → 0 ≤ F j ∧ F j ≤ 4
theorem okQ_z : okQ zF := fun _ _ => by unfold zF; omega
theorem okQ.st {F : Int → Int} {k x : Int} (h : okQ F) (hx : 0 ≤ x ∧ x ≤ 4) : okQ (st1 F k x) := fun j hj => by
  by_cases q : j = k
  · rw [q, st1_eq]; exact hx
  · rw [st1_ne q]; exact h j hj
theorem qS_b {A F : Int → Int} {C D w n k : Int} (hI : InvA A C D) (hF : okQ F) (hw : inN w (A 2)) (hn : 0 ≤ n ∧ n ≤ A 1) (hk : inN k 3) : 0 ≤ qS A F w n k ∧ qS A F w n k ≤ 8640 := by
  have h0 := hI.1
  have := sP_b (P := qgP A F w) (f := fun p => gv (aW A w 0) k (aG A p k) (3 * F (6 * p + w)) 0) (n := n) (c := 1440) hn.1 (by omega) (fun i hi hp => by
    have h1 := (hI.2.2.1 i (by omega)).2.2 k hk
    have h2 := hF (6 * i + w) (by omega)
    exact gv_b h1 (by omega) (by omega))
  unfold qS
  omega
theorem okNSq {A F : Int → Int} {C D w : Int} (hI : InvA A C D) (hF : okQ F) (hw : inN w (A 2)) : okNS (nW A w) (qS A F w (A 1)) := fun k hk => by
  have h0 := hI.1
  have h1 := (hI.2.2.2.1 w hw).2.2.2 k hk
  have h2 := qS_b (w := w) hI hF hw (n := A 1) (by omega) hk
  unfold nW
  exact ⟨h1, by omega⟩
theorem qW_b {A F : Int → Int} {C D n : Int} (hI : InvA A C D) (hn : 0 ≤ n ∧ n ≤ A 2) : 0 ≤ qW A F n ∧ qW A F n ≤ 594 := by
  have h0 := hI.1
  have := sumI_b (f := fun w => ifP (qdn A F w) (aW A w 5) 0) (lo := 0) (hi := 99) hn.1 (fun i a b => by
    have h1 := (hI.2.2.2.1 i (by omega)).2.2.1
    show 0 ≤ ifP (qdn A F i) (aW A i 5) 0 ∧ ifP (qdn A F i) (aW A i 5) 0 ≤ 99
    by_cases q : qdn A F i
    · rw [ifP_pos q]; exact h1
    · rw [ifP_neg q]; omega)
  unfold qW
  omega
/-- the list of what is tried, in its order -/
def upL {α : Type} (f : Int → List α) (lo : Int) : Nat → List α
  | 0 => []
  | c + 1 => f lo ++ upL f (lo + 1) c
def rwL (cont : (Int → Int) → List (Int → Int)) (p : Int) : Nat → Int → Int → (Int → Int) → List (Int → Int)
  | 0, _, _, F => cont F
  | k + 1, w, left, F => upL (fun n => rwL cont p k (w + 1) (left - n) (st1 F (6 * p + w) n)) 0 (left + 1).toNat
def qL (W : Nat) : Nat → Int → (Int → Int) → List (Int → Int)
  | 0, _, F => [F]
  | j + 1, p, F => rwL (qL W j (p + 1)) p W 0 4 F
noncomputable def vs (A : Int → Int) (s : Int × (Int → Int)) (F : Int → Int) : Int × (Int → Int) := if qW A F (A 2) ≤ s.1 then s else (qW A F (A 2), F)
noncomputable def vsL (A : Int → Int) (s : Int × (Int → Int)) (l : List (Int → Int)) : Int × (Int → Int) := l.foldl (vs A) s
theorem vsL_app {A : Int → Int} {s : Int × (Int → Int)} {l l2 : List (Int → Int)} : vsL A s (l ++ l2) = vsL A (vsL A s l) l2 := List.foldl_append
section Mod
variable {G : GC} {X : JX} {m : HM} {κ p t τ w x y z i k q b : Int} {A N S g F : Int → Int} {H C D : Int}
theorem FrQ.up {m m' : HM} (h : FrQ m m') {t : Nat} (ht : t = 44 ∨ (46 ≤ t ∧ t ≤ 51)) {v i : Int} {f : Int → Int} : FrQ m (upr m' t v i f) := ⟨fun t' v' i' a b => by
    rw [upr_tag (show t' ≠ t from fun q => a (by rw [q]; exact ht))]
    exact h.1 t' v' i' a b, fun k a => by
    rw [upr_tag (show (40 : Nat) ≠ t by omega)]
    exact h.2 k a⟩
theorem FrQ.fld {m m' : HM} (h : FrQ m m') {k x : Int} (hk : ¬ (k = 4 ∨ k = 7 ∨ k = 19)) : FrQ m (upr m' 40 0 0 (st1 (m' 40 0 0) k x)) := ⟨fun t' v' i' a b => by
    rw [upr_tag b]
    exact h.1 t' v' i' a b, fun j a => by
    rw [upr_eq, st1_ne (show j ≠ k from fun q => hk (by rw [← q]; exact a))]
    exact h.2 j a⟩
theorem FrQ.a42 {m m' : HM} (h : FrQ m m') (hA : m 42 0 0 = A) : m' 42 0 0 = A := (h.1 42 0 0 (by decide) (by decide)).trans hA
theorem FrM.f17 {T : Nat → Prop} {m m' : HM} (h : FrM T m m') : m' 40 0 0 17 = m 40 0 0 17 := h.2 17 (by omega)
theorem l_wbq1 {m0 : HM} (hX : Ok_X10_worthByQuarters G X 6) (hA : m0 42 0 0 = A) (hI : InvA A C D) (hF : RelSh m0 F) (ho : okQ F) (hw : inN w (A 2)) {v : Int} (K96 : ∀ M a b, FrM T48 m0 M → RelM M (qS A F w (A 1)) (byH F w (A 1)) → J G X 96 [vr 40 0 0, vi v, vi w, a, b] [] M) : ∀ i, 0 ≤ i → i ≤ A 1 → ∀ M b, FrM T48 m0 M → RelM M (qS A F w i) (byH F w i) → J G X 20 [vr 40 0 0, vi v, vi w, vi i, b] [] M := by
  have h0 := hI.1
  refine up_to (fun i h1 h2 ih M b hfr hr => ?_)
  have hA' := hfr.a42 hA T48_42
  have hF' := hF.fr hfr T48_49
  have hb := fun k hk => qS_b (k := k) hI ho hw ⟨h1, h2⟩ hk
  have hH := byH_b (F := F) (w := w) hI ⟨h1, h2⟩
  refine J_iloadN hX rfl rfl dX10_worthByQuarters_20 ?_
  refine J_aloadN hX rfl rfl dX10_worthByQuarters_21 ?_
  refine G_HalfHereModel_s hX dX10_worthByQuarters_22 mF_X10_13 ?_
  refine J_iconst hX (by decide) dX10_worthByQuarters_25 ?_
  refine L_42 hX (by omega) dX10_worthByQuarters_26 ?_
  rw [hA']
  refine J_icmp_ge (tgt := 96) hX (by decide) dX10_worthByQuarters_27 (fun h3 => ?_) (fun h3 => ?_)
  · have e : i = A 1 := by omega
    subst e
    exact K96 M _ _ hfr hr
  · have e49 := hF' (6 * i + w) (by omega)
    have hoi := ho (6 * i + w) (by omega)
    have hi : inN i (A 1) := ⟨h1, by omega⟩
    refine J_iconst hX (by decide) dX10_worthByQuarters_30 ?_
    refine J_aloadN hX rfl rfl dX10_worthByQuarters_31 ?_
    refine G_HalfHereModel_share hX dX10_worthByQuarters_32 mF_X10_34 ?_
    refine J_bipush hX (by decide) dX10_worthByQuarters_35 ?_
    refine J_iloadN hX rfl rfl dX10_worthByQuarters_37 ?_
    refine J_imul hX (fun _ _ => by omega) dX10_worthByQuarters_38 ?_
    refine J_iloadN hX rfl rfl dX10_worthByQuarters_39 ?_
    refine J_iadd hX (fun _ _ => by omega) dX10_worthByQuarters_40 ?_
    refine L_49 hX (by omega) dX10_worthByQuarters_41 ?_
    rw [e49]
    refine J_imul hX (fun _ _ => by omega) dX10_worthByQuarters_42 ?_
    refine si_4 hX dX10_worthByQuarters_43 ?_
    refine J_iload hX rfl dX10_worthByQuarters_45 ?_
    refine J_if_ne (tgt := 53) hX (by decide) dX10_worthByQuarters_47 (fun h4 => ?_) (fun h4 => ?_)
    · have hat : shP F w i := by unfold shP; omega
      have eS : byH F w (i + 1) = orI (byH F w i) (p2 i) := by unfold byH; rw [oI_t h1 hat]
      have nx := ih (by omega)
      rw [eS] at nx
      have K78 : ∀ M2, FrM T48 m0 M2 → (∀ k, inN k 3 → M2 48 0 0 k = qS A F w (i + 1) k) → (M2 40 0 0 11 = byH F w i ∨ M2 40 0 0 11 = orI (byH F w i) (p2 i)) → J G X 78 [vr 40 0 0, vi v, vi w, vi i, vi (3 * F (6 * i + w))] [] M2 := fun M2 hfr2 hs hth => by
        have hth2 : orI (M2 40 0 0 11) (p2 i) = orI (byH F w i) (p2 i) ∧ inN (M2 40 0 0 11) 64 := by
          rcases hth with e | e
          · rw [e]; exact ⟨rfl, hH⟩
          · rw [e]; exact ⟨orI_twice hH (by omega), orI_b hH (p2_b (by omega)).1⟩
        refine J_aloadN hX rfl rfl dX10_worthByQuarters_78 ?_
        refine J_dup hX rfl dX10_worthByQuarters_79 ?_
        refine G_HalfHereModel_there hX dX10_worthByQuarters_80 mF_X10_144 ?_
        refine J_iconst hX (by decide) dX10_worthByQuarters_83 ?_
        refine J_iloadN hX rfl rfl dX10_worthByQuarters_84 ?_
        refine J_ishl hX (fun _ _ => sd_shl ⟨hi.1, by omega⟩) dX10_worthByQuarters_85 ?_
        refine J_ior hX (fun _ _ => sd_or hth2.2 (p2_b (by omega)).1) dX10_worthByQuarters_86 ?_
        refine P_HalfHereModel_there hX dX10_worthByQuarters_87 mF_X10_144 ?_
        rw [hth2.1]
        refine sinc_3 hX (fun _ => by omega) dX10_worthByQuarters_90 ?_
        refine J_goto (tgt := 20) hX (by decide) dX10_worthByQuarters_93 ?_
        refine nx _ _ (hfr2.fld (by omega)) ⟨?_, fun k hk => ?_⟩
        · rw [upr_eq, st1_eq]
        · rw [upr_tag (by decide)]
          exact hs k hk
      refine J_iload hX rfl dX10_worthByQuarters_53 ?_
      refine J_aloadN hX rfl rfl dX10_worthByQuarters_55 ?_
      refine J_iloadN hX rfl rfl dX10_worthByQuarters_56 ?_
      refine J_iconst hX (by decide) dX10_worthByQuarters_57 ?_
      refine cV2w hX cb_X10_get mL_X10_106 dX10_worthByQuarters_58 (c_get hA' (by omega) (by omega)) ?_
      refine J_icmp_lt (tgt := 78) hX (by decide) dX10_worthByQuarters_61 (fun h5 => ?_) (fun h5 => ?_)
      · refine K78 M hfr (fun k hk => ?_) (Or.inl hr.1)
        unfold qS
        rw [sP_f h1 (fun z => by have := z.2; omega)]
        exact hr.2 k hk
      · refine J_aloadN hX rfl rfl dX10_worthByQuarters_64 ?_
        refine J_aloadN hX rfl rfl dX10_worthByQuarters_65 ?_
        refine J_iloadN hX rfl rfl dX10_worthByQuarters_66 ?_
        refine J_iconst hX (by decide) dX10_worthByQuarters_67 ?_
        refine cV2w hX cb_X10_of mL_X10_118 dX10_worthByQuarters_68 (c_of hA' (by omega) (by omega)) ?_
        refine J_iloadN hX rfl rfl dX10_worthByQuarters_71 ?_
        refine J_iload hX rfl dX10_worthByQuarters_72 ?_
        refine J_iconst hX (by decide) dX10_worthByQuarters_74 ?_
        refine cV4u hX cb_X10_gives mL_X10_154 dX10_worthByQuarters_75 (c_gives hA' hr (fun k hk => by have := hb k hk; omega) hH (by omega) (hI.2.2.1 i hi).2.2 (by omega) (by omega)) (fun m2 hm2 => ?_)
        refine K78 m2 (hfr.tr hm2.1) (fun k hk => ?_) (Or.inr hm2.2.1)
        unfold qS
        rw [sP_t h1 (show qgP A F w i from ⟨by omega, by omega⟩)]
        exact hm2.2.2 k hk
    · refine J_goto (tgt := 90) hX (by decide) dX10_worthByQuarters_50 ?_
      refine sinc_3 hX (fun _ => by omega) dX10_worthByQuarters_90 ?_
      refine J_goto (tgt := 20) hX (by decide) dX10_worthByQuarters_93 ?_
      refine ih (by omega) M _ hfr ⟨?_, fun k hk => ?_⟩
      · unfold byH
        rw [oI_f h1 (fun z => by unfold shP at z; omega)]
        exact hr.1
      · unfold qS
        rw [sP_f h1 (fun z => by have := z.1; omega)]
        exact hr.2 k hk
theorem l_wbq2 {m0 : HM} (hX : Ok_X10_worthByQuarters G X 6) (hA : m0 42 0 0 = A) (hI : InvA A C D) (hF : RelSh m0 F) (ho : okQ F) (hR0 : JRt G X (pi (fun r m' => r = qW A F (A 2) ∧ FrM T48 m0 m')) (some .int)) : ∀ w, 0 ≤ w → w ≤ A 2 → ∀ M a b, FrM T48 m0 M → J G X 4 [vr 40 0 0, vi (qW A F w), vi w, a, b] [] M := by
  have h0 := hI.1
  refine up_to (fun w h1 h2 ih M a b hfr => ?_)
  have hA' := hfr.a42 hA T48_42
  have hb := qW_b (F := F) hI ⟨h1, h2⟩
  refine J_iloadN hX rfl rfl dX10_worthByQuarters_4 ?_
  refine J_aloadN hX rfl rfl dX10_worthByQuarters_5 ?_
  refine G_HalfHereModel_s hX dX10_worthByQuarters_6 mF_X10_13 ?_
  refine J_iconst hX (by decide) dX10_worthByQuarters_9 ?_
  refine L_42 hX (by omega) dX10_worthByQuarters_10 ?_
  rw [hA']
  refine J_icmp_ge (tgt := 123) hX (by decide) dX10_worthByQuarters_11 (fun h3 => ?_) (fun h3 => ?_)
  · have e : w = A 2 := by omega
    subst e
    refine J_iloadN hX rfl rfl dX10_worthByQuarters_123 ?_
    exact J_iret hX hR0 dX10_worthByQuarters_124 (⟨_, rfl, rfl, hfr⟩)
  · have hw : inN w (A 2) := ⟨h1, by omega⟩
    have hv := (hI.2.2.2.1 w hw).2.2.1
    have e : qW A F (w + 1) = qW A F w + ifP (qdn A F w) (aW A w 5) 0 := by unfold qW; rw [sumI_s h1]
    refine J_aloadN hX rfl rfl dX10_worthByQuarters_14 ?_
    refine cV0u hX cb_X10_begins mL_X10_151 dX10_worthByQuarters_15 (c_begins) (fun m2 hm2 => ?_)
    refine J_iconst hX (by decide) dX10_worthByQuarters_18 ?_
    refine siN_3 hX dX10_worthByQuarters_19 ?_
    refine l_wbq1 hX hA hI hF ho hw (fun M' a' b' hfr' hr' => ?_) 0 (by omega) (by omega) m2 _ (hfr.tr hm2.1) ⟨hm2.2.1, hm2.2.2⟩
    refine J_iloadN hX rfl rfl dX10_worthByQuarters_96 ?_
    refine J_aloadN hX rfl rfl dX10_worthByQuarters_97 ?_
    refine J_iloadN hX rfl rfl dX10_worthByQuarters_98 ?_
    refine cV1i hX cb_X10_isDoneNow mL_X10_180 dX10_worthByQuarters_99 (c_isDoneNow (hfr'.a42 hA T48_42) hr' (by omega) (okNSq hI ho hw) (byH_b hI (by omega))) (fun r m3 hm3 => ?_)
    obtain ⟨rfl, hf3, -⟩ := hm3
    have eq : doneS (aW A w 0) (nW A w) (qS A F w (A 1)) (byH F w (A 1)) = qdn A F w := rfl
    rw [eq]
    have nx := ih (by omega) m3 a' b' (hfr'.tr hf3)
    refine J_ifb_eq (tgt := 114) hX (by decide) dX10_worthByQuarters_102 (fun h4 => ?_) (fun h4 => ?_)
    · rw [e, ifP_neg h4] at nx
      refine J_iconst hX (by decide) dX10_worthByQuarters_114 ?_
      refine J_iadd hX (fun _ _ => by omega) dX10_worthByQuarters_115 ?_
      refine siN_1 hX dX10_worthByQuarters_116 ?_
      refine sinc_2 hX (fun _ => by omega) dX10_worthByQuarters_117 ?_
      refine J_goto (tgt := 4) hX (by decide) dX10_worthByQuarters_120 ?_
      exact nx
    · rw [e, ifP_pos h4] at nx
      refine J_aloadN hX rfl rfl dX10_worthByQuarters_105 ?_
      refine J_iloadN hX rfl rfl dX10_worthByQuarters_106 ?_
      refine J_iconst hX (by decide) dX10_worthByQuarters_107 ?_
      refine cV2w hX cb_X10_of mL_X10_118 dX10_worthByQuarters_108 (c_of ((hfr'.tr hf3).a42 hA T48_42) (by omega) (by omega)) ?_
      refine J_goto (tgt := 115) hX (by decide) dX10_worthByQuarters_111 ?_
      refine J_iadd hX (fun _ _ => by omega) dX10_worthByQuarters_115 ?_
      refine siN_1 hX dX10_worthByQuarters_116 ?_
      refine sinc_2 hX (fun _ => by omega) dX10_worthByQuarters_117 ?_
      refine J_goto (tgt := 4) hX (by decide) dX10_worthByQuarters_120 ?_
      exact nx
theorem c_worthByQuarters (hA : m 42 0 0 = A) (hI : InvA A C D) (hF : RelSh m F) (ho : okQ F) : K_X10_worthByQuarters G [vr 40 0 0] m (pi (fun r m' => r = qW A F (A 2) ∧ FrM T48 m m')) := by
  refine E_X10_worthByQuarters (fun X hX hR0 _ _ => ?_)
  refine J_iconst hX (by decide) dX10_worthByQuarters_0 ?_
  refine siN_1 hX dX10_worthByQuarters_1 ?_
  refine J_iconst hX (by decide) dX10_worthByQuarters_2 ?_
  refine siN_2 hX dX10_worthByQuarters_3 ?_
  exact l_wbq2 hX hA hI hF ho hR0 0 (by omega) hI.1.2.2.2.2.1 m _ _ FrM.rf
/-! the search -/
def RelB (m : HM) (s : Int × (Int → Int)) : Prop := m 40 0 0 17 = s.1 ∧ ∀ j, inN j 36 → m 51 0 0 j = s.2 j
def okB (s : Int × (Int → Int)) : Prop := -9 ≤ s.1 ∧ s.1 ≤ 594
theorem okB_vs {A F : Int → Int} {s : Int × (Int → Int)} {C D : Int} (hI : InvA A C D) (h : okB s) : okB (vs A s F) := by
  have := qW_b (F := F) (n := A 2) hI ⟨hI.1.2.2.2.2.1, Int.le_refl _⟩
  unfold vs
  split
  · exact h
  · unfold okB
    show -9 ≤ qW A F (A 2) ∧ qW A F (A 2) ≤ 594
    omega
theorem okB_vsL {A : Int → Int} {s : Int × (Int → Int)} {C D : Int} (hI : InvA A C D) (h : okB s) (l : List (Int → Int)) : okB (vsL A s l) := by
  unfold vsL
  induction l generalizing s with
  | nil => exact h
  | cons F l ih => exact ih (okB_vs hI h)
theorem RelB.fr {m m' : HM} {s : Int × (Int → Int)} {T : Nat → Prop} (h : RelB m s) (hf : FrM T m m') (hT : ¬ T 51) : RelB m' s := ⟨hf.f17.trans h.1, fun j hj => by rw [hf.1 51 0 0 hT (by decide)]; exact h.2 j hj⟩
theorem T48_51 : ¬ T48 51 := by unfold T48; decide
def qfP (m : HM) (A F : Int → Int) (s : Int × (Int → Int)) (l : List (Int → Int)) (m' : HM) : Prop := FrQ m m' ∧ RelSh m' F ∧ RelB m' (vsL A s l)
theorem l_qf1 {V : Int} {d : Nat} {m0 : HM} (hX : Ok_X10_quartersFrom G X d) {a c e : HV} {Post : Option HV → HM → Prop} (hP : ∀ M, FrQ m0 M → RelSh M F → RelB M (V, F) → Post none M) (hR0 : JRt G X Post none) : ∀ i, 0 ≤ i → i ≤ 36 → ∀ M, FrQ m0 M → RelSh M F → M 40 0 0 17 = V → (∀ j, inN j i → M 51 0 0 j = F j) → J G X 35 [vr 40 0 0, a, c, e, vi V, vi i] [] M := by
  refine up_to (fun i h1 h2 ih M hfr hF s1 s2 => ?_)
  refine J_iload hX rfl dX10_quartersFrom_35 ?_
  refine J_bipush hX (by decide) dX10_quartersFrom_37 ?_
  refine J_icmp_ge (tgt := 62) hX (by decide) dX10_quartersFrom_39 (fun h3 => ?_) (fun h3 => ?_)
  · skip
    exact J_vret hX hR0 dX10_quartersFrom_62 (hP M hfr hF ⟨s1, fun j hj => s2 j (by omega)⟩)
  · have e49 := hF i ⟨h1, h3⟩
    refine J_aloadN hX rfl rfl dX10_quartersFrom_42 ?_
    refine G_HalfHereModel_bestShare hX dX10_quartersFrom_43 mF_X10_40 ?_
    refine J_iload hX rfl dX10_quartersFrom_46 ?_
    refine J_aloadN hX rfl rfl dX10_quartersFrom_48 ?_
    refine G_HalfHereModel_share hX dX10_quartersFrom_49 mF_X10_34 ?_
    refine J_iload hX rfl dX10_quartersFrom_52 ?_
    refine L_49 hX (by omega) dX10_quartersFrom_54 ?_
    rw [e49]
    refine S_51 hX (by omega) dX10_quartersFrom_55 ?_
    refine sinc_5 hX (fun _ => by omega) dX10_quartersFrom_56 ?_
    refine J_goto (tgt := 35) hX (by decide) dX10_quartersFrom_59 ?_
    refine ih h3 _ (hfr.up (by omega)) (fun j hj => ?_) ?_ (fun j hj => ?_)
    · rw [upr_tag (by decide)]; exact hF j hj
    · rw [upr_tag (by decide)]; exact s1
    · rw [upr_eq]
      by_cases q : j = i
      · rw [q, st1_eq]
      · rw [st1_ne q]; exact s2 j (by omega)
/-- the end of the persons -/
theorem c_qf0 {s : Int × (Int → Int)} {d : Nat} (hd : 8 ≤ d) (hA : m 42 0 0 = A) (hI : InvA A C D) (hF : RelSh m F) (ho : okQ F) (hB : RelB m s) : Kd_X10_quartersFrom G d [vr 40 0 0, vi (A 1), vi x, vi y] m (pu (qfP m A F s [F])) := by
  refine E_X10_quartersFrom (fun X hX hR0 _ _ => ?_)
  refine J_iloadN hX rfl rfl dX10_quartersFrom_0 ?_
  refine J_aloadN hX rfl rfl dX10_quartersFrom_1 ?_
  refine G_HalfHereModel_s hX dX10_quartersFrom_2 mF_X10_13 ?_
  refine J_iconst hX (by decide) dX10_quartersFrom_5 ?_
  refine L_42 hX (by omega) dX10_quartersFrom_6 ?_
  rw [hA]
  refine J_icmp_ne (tgt := 63) hX (by decide) dX10_quartersFrom_7 (fun h1 => ?_) (fun h1 => ?_)
  · exact absurd rfl h1
  · refine J_aloadN hX rfl rfl dX10_quartersFrom_10 ?_
    refine cV0i hX cb_X10_worthByQuarters mL_X10_209 dX10_quartersFrom_11 (c_worthByQuarters hA hI hF ho) (fun r m2 hm2 => ?_)
    obtain ⟨rfl, hf2⟩ := hm2
    have hB2 := hB.fr hf2 T48_51
    have hfq : FrQ m m2 := hf2.q T48q
    have hF2 := hF.fr hf2 T48_49
    refine si_4 hX dX10_quartersFrom_14 ?_
    refine J_iload hX rfl dX10_quartersFrom_16 ?_
    refine J_aloadN hX rfl rfl dX10_quartersFrom_18 ?_
    refine G_HalfHereModel_bestWorth hX dX10_quartersFrom_19 mF_X10_212 ?_
    rw [hB2.1]
    refine J_icmp_gt (tgt := 26) hX (by decide) dX10_quartersFrom_22 (fun h2 => ?_) (fun h2 => ?_)
    · have e : vsL A s [F] = (qW A F (A 2), F) := by
        show vs A s F = _
        unfold vs
        rw [if_neg (by omega)]
      refine J_aloadN hX rfl rfl dX10_quartersFrom_26 ?_
      refine J_iload hX rfl dX10_quartersFrom_27 ?_
      refine P_HalfHereModel_bestWorth hX dX10_quartersFrom_29 mF_X10_212 ?_
      refine J_iconst hX (by decide) dX10_quartersFrom_32 ?_
      refine si_5 hX dX10_quartersFrom_33 ?_
      refine l_qf1 hX (fun M a b c => puI ⟨a, b, by rw [e]; exact c⟩) hR0 0 (by omega) (by omega) _ (hfq.fld (by omega)) (fun j hj => ?_) ?_ (fun j hj => by omega)
      · rw [upr_tag (by decide)]; exact hF2 j hj
      · rw [upr_eq, st1_eq]
    · have e : vsL A s [F] = s := by
        show vs A s F = _
        unfold vs
        rw [if_pos (by omega)]
      exact J_vret hX hR0 dX10_quartersFrom_25 (puI ⟨hfq, hF2, by rw [e]; exact hB2⟩)
end Mod
