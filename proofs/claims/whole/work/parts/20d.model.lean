/-! ===== 20d: what a plan gives: the mathematics; the reference's gathersBy, isDoneBy, helps ===== -/
def shP (F : Int → Int) (w p : Int) : Prop := 0 < F (6 * p + w)
noncomputable def byS (A F : Int → Int) (w n k : Int) : Int := sP (shP F w) (fun p => gv (aW A w 0) k (aG A p k) (F (6 * p + w)) 0) n
noncomputable def byH (F : Int → Int) (w n : Int) : Int := oI (shP F w) (fun p => p) n
noncomputable def bxS (A F : Int → Int) (w q t k : Int) : Int := if 0 < t then byS A F w (A 1) k + gv (aW A w 0) k (aG A q k) t 0 else byS A F w (A 1) k
noncomputable def bxH (A F : Int → Int) (w q t : Int) : Int := if 0 < t then orI (byH F w (A 1)) (p2 q) else byH F w (A 1)
def dn0 (A F : Int → Int) (w : Int) : Prop := doneS (aW A w 0) (nW A w) (byS A F w (A 1)) (byH F w (A 1))
def dnB (A F : Int → Int) (w q t : Int) : Prop := doneS (aW A w 0) (nW A w) (bxS A F w q t) (bxH A F w q t)
def hlB (A F : Int → Int) (w p t : Int) : Prop := ∃ k, inN k 3 ∧ 0 < nW A w k ∧ dS (aW A w 0) (byS A F w (A 1)) (byH F w (A 1)) k < dS (aW A w 0) (bxS A F w p t) (bxH A F w p t) k
theorem bxS_0 {A F : Int → Int} {w q t : Int} (h : t ≤ 0) : bxS A F w q t = byS A F w (A 1) := by
  funext k
  unfold bxS
  rw [if_neg (by omega)]
theorem bxH_0 {A F : Int → Int} {w q t : Int} (h : t ≤ 0) : bxH A F w q t = byH F w (A 1) := if_neg (by omega)
theorem dnB_0 {A F : Int → Int} {w q t : Int} (h : t ≤ 0) : dnB A F w q t = dn0 A F w := by
  unfold dnB dn0
  rw [bxS_0 h, bxH_0 h]
def okSh (F : Int → Int) : Prop := ∀ j, inN j 36 → 0 ≤ F j ∧ F j ≤ 12
theorem byS_b {A F : Int → Int} {C D w n k : Int} (hI : InvA A C D) (hF : okSh F) (hw : inN w (A 2)) (hn : 0 ≤ n ∧ n ≤ A 1) (hk : inN k 3) : 0 ≤ byS A F w n k ∧ byS A F w n k ≤ 8640 := by
  have h0 := hI.1
  have := sP_b (P := shP F w) (f := fun p => gv (aW A w 0) k (aG A p k) (F (6 * p + w)) 0) (n := n) (c := 1440) hn.1 (by omega) (fun i hi hp => by
    have h1 := (hI.2.2.1 i (by omega)).2.2 k hk
    have h2 := hF (6 * i + w) (by omega)
    exact gv_b h1 h2 (by omega))
  unfold byS
  omega
theorem byH_b {A F : Int → Int} {C D w n : Int} (hI : InvA A C D) (hn : 0 ≤ n ∧ n ≤ A 1) : inN (byH F w n) 64 :=
  oI_b (fun i hi _ => by
    have h2 := hI.1
    show inN i 6
    omega) hn.1
theorem bx_b {A F : Int → Int} {C D w q t : Int} (hI : InvA A C D) (hF : okSh F) (hw : inN w (A 2)) (ht : t ≤ 12) (hq : 0 < t → inN q (A 1)) : okNS (nW A w) (bxS A F w q t) ∧ inN (bxH A F w q t) 64 := by
  have h0 := hI.1
  have hH := byH_b (A := A) (F := F) (w := w) (n := A 1) hI (by omega)
  refine ⟨fun k hk => ?_, ?_⟩
  · have h1 := (hI.2.2.2.1 w hw).2.2.2 k hk
    have h2 := byS_b hI hF hw (n := A 1) (by omega) hk
    refine ⟨h1, ?_⟩
    unfold bxS
    by_cases h3 : 0 < t
    · have h4 := gv_b (κ := aW A w 0) (w := k) ((hI.2.2.1 q (hq h3)).2.2 k hk) (t := t) (by omega) (τ := 0) (by omega)
      rw [if_pos h3]
      omega
    · rw [if_neg h3]
      omega
  · unfold bxH
    by_cases h3 : 0 < t
    · have := hq h3
      rw [if_pos h3]
      exact orI_b hH (p2_b (by omega)).1
    · rw [if_neg h3]
      exact hH
/-- folds -/
def foN (st : Int → (Int → Int) → (Int → Int)) (F : Int → Int) : Nat → (Int → Int)
  | 0 => F
  | n + 1 => st n (foN st F n)
def foI (st : Int → (Int → Int) → (Int → Int)) (F : Int → Int) (n : Int) : Int → Int := foN st F n.toNat
theorem foI_0 (st : Int → (Int → Int) → (Int → Int)) (F : Int → Int) : foI st F 0 = F := rfl
theorem foI_s {st : Int → (Int → Int) → (Int → Int)} {F : Int → Int} {n : Int} (h : 0 ≤ n) : foI st F (n + 1) = st n (foI st F n) := by
  unfold foI
  rw [show (n + 1).toNat = n.toNat + 1 by omega]
  show st (n.toNat : Int) _ = _
  rw [Int.toNat_of_nonneg h]
theorem foI_ind {P : (Int → Int) → Prop} {st : Int → (Int → Int) → (Int → Int)} {F : Int → Int} {n : Int} (h0 : P F) (hs : ∀ i G, inN i n → P G → P (st i G)) (hn : 0 ≤ n) : P (foI st F n) := by
  obtain ⟨j, rfl⟩ : ∃ j : Nat, n = j := ⟨n.toNat, by omega⟩
  clear hn
  induction j with
  | zero => exact h0
  | succ j ih =>
    have := ih (fun i G hi => hs i G (by omega))
    rw [show ((j + 1 : Nat) : Int) = (j : Int) + 1 by omega, foI_s (by omega)]
    exact hs j _ (by omega) this
/-- where nothing changes from p on -/
theorem foI_stop {st : Int → (Int → Int) → (Int → Int)} {F : Int → Int} {p n : Int} (hp : 0 ≤ p) (h : p ≤ n) (hs : ∀ i, p ≤ i → i < n → st i (foI st F p) = foI st F p) : foI st F n = foI st F p := by
  obtain ⟨j, rfl⟩ : ∃ j : Nat, n = p + j := ⟨(n - p).toNat, by omega⟩
  clear h
  induction j with
  | zero => simp
  | succ j ih =>
    have := ih (fun i a b => hs i a (by omega))
    rw [show p + ((j + 1 : Nat) : Int) = (p + j) + 1 by omega, foI_s (by omega), this]
    exact hs _ (by omega) (by omega)
noncomputable def whW (A F : Int → Int) (p : Int) : Int := fstI (fun w => ¬ dn0 A F w ∧ hlB A F w p 12) (-9) 0 (A 2)
noncomputable def whSt (A : Int → Int) (p : Int) (F : Int → Int) : Int → Int := if 0 ≤ whW A F p then st1 F (6 * p + whW A F p) 12 else F
def evF (A : Int → Int) (j : Int) : Int := if inN (j / 6) (A 1) ∧ inN (j % 6) (A 2) ∧ aG A (j / 6) 3 ≤ 12 / A 2 then 12 / A 2 else 0
def gvn (F : Int → Int) (p : Int) : Int := sumI (fun w => F (6 * p + w)) 6
def ndFree (A F : Int → Int) (p b : Int) : Int := 12 - gvn F p - (if b = 0 then 0 else aG A p 3)
noncomputable def ndT (A F : Int → Int) (w p fr i : Int) : Int := fstI (fun t => dnB A F w p t) 0 i (fr + 1)
noncomputable def ndV (A F : Int → Int) (w p fr : Int) : Int := if ndT A F w p fr (aG A p 3) ≠ 0 then ndT A F w p fr (aG A p 3) else ifP (aG A p 3 ≤ fr ∧ hlB A F w p fr) fr 0
noncomputable def ndSt (A : Int → Int) (b w p : Int) (F : Int → Int) : Int → Int := ifP (dn0 A F w) F (st1 F (6 * p + w) (ndV A F w p (ndFree A F p b)))
noncomputable def ndW (A : Int → Int) (b w : Int) (F : Int → Int) : Int → Int := foI (ndSt A b w) F (A 1)
def zF : Int → Int := fun _ => 0
noncomputable def plF (A : Int → Int) (kind : Int) : Int → Int := if kind = 0 then foI (whSt A) zF (A 1) else if kind = 1 then evF A else foI (ndW A (if kind = 3 then 1 else 0)) zF (A 2)
noncomputable def plW (A F : Int → Int) (n : Int) : Int := sumI (fun w => ifP (dn0 A F w) (aW A w 5) 0) n
theorem whSt_f {A F : Int → Int} {p : Int} (h : whW A F p = -9) : whSt A p F = F := by
  unfold whSt
  rw [h]
  exact if_neg (by omega)
theorem whSt_t {A F : Int → Int} {p w : Int} (h : whW A F p = w) (hw : 0 ≤ w) : whSt A p F = st1 F (6 * p + w) 12 := by
  unfold whSt
  rw [h]
  exact if_pos hw
theorem okSh.st {F : Int → Int} {k x : Int} (h : okSh F) (hx : 0 ≤ x ∧ x ≤ 12) : okSh (st1 F k x) := fun j hj => by
  by_cases q : j = k
  · rw [q, st1_eq]; exact hx
  · rw [st1_ne q]; exact h j hj
theorem okSh_z : okSh zF := fun _ _ => by unfold zF; omega
theorem okSh_wh {A F : Int → Int} {p : Int} (h : okSh F) : okSh (whSt A p F) := by
  unfold whSt
  split
  · exact h.st (by omega)
  · exact h
theorem gvn_b {F : Int → Int} {p : Int} (h : okSh F) (hp : inN p 6) : 0 ≤ gvn F p ∧ gvn F p ≤ 72 := by
  have := sumI_b (f := fun w => F (6 * p + w)) (lo := 0) (hi := 12) (n := 6) (by omega) (fun i a b => h _ (by omega))
  unfold gvn
  omega
theorem ndFree_b {A F : Int → Int} {C D p b : Int} (hI : InvA A C D) (h : okSh F) (hp : inN p (A 1)) : -72 ≤ ndFree A F p b ∧ ndFree A F p b ≤ 12 := by
  have h0 := hI.1
  have h1 := gvn_b h (p := p) (by omega)
  have h2 := hI.2.2.1 p hp
  unfold ndFree
  split <;> omega
theorem ndT_b {A F : Int → Int} {w p fr i : Int} (hi : 0 ≤ i) (hf : fr ≤ 12) : 0 ≤ ndT A F w p fr i ∧ ndT A F w p fr i ≤ 12 := by
  unfold ndT
  by_cases h : i ≤ fr + 1
  · rcases fstI_spec (P := fun t => dnB A F w p t) (z := 0) (lo := i) (hi := fr + 1) i (Int.le_refl _) h with ⟨e, -⟩ | ⟨e1, e2, -⟩
    · omega
    · omega
  · rw [fstI_0 (by omega)]
    omega
theorem ndV_b {A F : Int → Int} {w p fr : Int} (hg : 0 ≤ aG A p 3) (hf : fr ≤ 12) : 0 ≤ ndV A F w p fr ∧ ndV A F w p fr ≤ 12 := by
  have h1 := ndT_b (A := A) (F := F) (w := w) (p := p) hg hf
  unfold ndV
  split
  · exact h1
  · by_cases q : aG A p 3 ≤ fr ∧ hlB A F w p fr
    · rw [ifP_pos q]; omega
    · rw [ifP_neg q]; omega
theorem okSh_nd {A F : Int → Int} {C D b w p : Int} (hI : InvA A C D) (h : okSh F) (hp : inN p (A 1)) : okSh (ndSt A b w p F) := by
  unfold ndSt
  by_cases q : dn0 A F w
  · rw [ifP_pos q]; exact h
  · rw [ifP_neg q]
    exact h.st (ndV_b (by have := hI.2.2.1 p hp; omega) (ndFree_b hI h hp).2)
theorem okSh_ndW {A F : Int → Int} {C D b w : Int} (hI : InvA A C D) (h : okSh F) : okSh (ndW A b w F) := foI_ind (P := okSh) h (fun _ _ hi hG => okSh_nd hI hG hi) hI.1.2.2.1
theorem evF_b {A : Int → Int} {C D : Int} (hI : InvA A C D) : okSh (evF A) := fun j hj => by
  have h0 := hI.1
  unfold evF
  by_cases q : inN (j / 6) (A 1) ∧ inN (j % 6) (A 2) ∧ aG A (j / 6) 3 ≤ 12 / A 2
  · rw [if_pos q]
    have h2 : 1 ≤ A 2 := by omega
    exact ⟨Int.ediv_nonneg (by omega) (by omega), Int.ediv_le_self _ (by omega)⟩
  · rw [if_neg q]
    omega
theorem okSh_pl {A : Int → Int} {C D kind : Int} (hI : InvA A C D) : okSh (plF A kind) := by
  unfold plF
  split
  · exact foI_ind (P := okSh) okSh_z (fun _ _ _ hG => okSh_wh hG) hI.1.2.2.1
  · split
    · exact evF_b hI
    · exact foI_ind (P := okSh) okSh_z (fun _ _ _ hG => okSh_ndW hI hG) hI.1.2.2.2.2.1
theorem nd_stop {A F : Int → Int} {b w p : Int} (hp : 0 ≤ p ∧ p ≤ A 1) (h : dn0 A (foI (ndSt A b w) F p) w) : ndW A b w F = foI (ndSt A b w) F p :=
  foI_stop hp.1 hp.2 (fun _ _ _ => ifP_pos h)
section Mod
variable {G : GC} {X : JX} {m : HM} {κ p t τ w x y z i k q b : Int} {A N S g F : Int → Int} {H C D : Int}
def RelSh (m : HM) (F : Int → Int) : Prop := ∀ j, inN j 36 → m 49 0 0 j = F j
theorem RelSh.fr {m m' : HM} {T : Nat → Prop} (h : RelSh m F) (hf : FrM T m m') (hT : ¬ T 49) : RelSh m' F := fun j hj => by rw [hf.1 49 0 0 hT (by decide)]; exact h j hj
theorem RelSh.st {m : HM} (h : RelSh m F) (k x : Int) : RelSh (upr m 49 0 0 (st1 (m 49 0 0) k x)) (st1 F k x) := fun j hj => by
  rw [upr_eq]
  by_cases e : j = k
  · rw [e, st1_eq, st1_eq]
  · rw [st1_ne e, st1_ne e]; exact h j hj
theorem T48_49 : ¬ T48 49 := by unfold T48; decide
theorem T48_50 : ¬ T48 50 := by unfold T48; decide
def T5 (t : Nat) : Prop := t = 48 ∨ t = 50
theorem T5_42 : ¬ T5 42 := by unfold T5; decide
theorem T5_49 : ¬ T5 49 := by unfold T5; decide
theorem T48_5 : ∀ t, T48 t → T5 t := fun _ h => Or.inl h
def T6 (t : Nat) : Prop := t = 48 ∨ t = 49 ∨ t = 50
theorem T6_42 : ¬ T6 42 := by unfold T6; decide
theorem T48_6 : ∀ t, T48 t → T6 t := fun _ h => Or.inl h
theorem T5_6 : ∀ t, T5 t → T6 t := fun _ h => h.elim Or.inl (fun q => Or.inr (Or.inr q))
theorem T6_49 : T6 49 := Or.inr (Or.inl rfl)
theorem T6q : ∀ t, T6 t → (t = 44 ∨ (46 ≤ t ∧ t ≤ 51)) := fun t h => by unfold T6 at h; omega
def gbP (m : HM) (A F : Int → Int) (w q t : Int) (m' : HM) : Prop := FrM T48 m m' ∧ RelM m' (bxS A F w q t) (bxH A F w q t)
theorem l_gathersBy (hX : Ok_X10_gathersBy G X 5) (hA : m 42 0 0 = A) (hI : InvA A C D) (hF : RelSh m F) (ho : okSh F) (hw : inN w (A 2)) (ht : t ≤ 12) (hq : 0 < t → inN q (A 1)) (hR0 : JRt G X (pu (gbP m A F w q t)) none) : ∀ i, 0 ≤ i → i ≤ A 1 → ∀ M, FrM T48 m M → RelM M (byS A F w i) (byH F w i) → J G X 7 [vr 40 0 0, vi w, vi q, vi t, vi i] [] M := by
  have h0 := hI.1
  refine up_to (fun i h1 h2 ih M hfr hr => ?_)
  have hA' := hfr.a42 hA T48_42
  have hF' := hF.fr hfr T48_49
  have hb := fun k hk => byS_b (k := k) hI ho hw ⟨h1, h2⟩ hk
  have hH := byH_b (F := F) (w := w) hI ⟨h1, h2⟩
  have fi : ¬ shP F w i → RelM M (byS A F w (i + 1)) (byH F w (i + 1)) := fun hn => ⟨by unfold byH; rw [oI_f h1 hn]; exact hr.1, fun k' hk' => by unfold byS; rw [sP_f h1 hn]; exact hr.2 k' hk'⟩
  refine J_iload hX rfl dX10_gathersBy_7 ?_
  refine J_aloadN hX rfl rfl dX10_gathersBy_9 ?_
  refine G_HalfHereModel_s hX dX10_gathersBy_10 mF_X10_13 ?_
  refine J_iconst hX (by decide) dX10_gathersBy_13 ?_
  refine L_42 hX (by omega) dX10_gathersBy_14 ?_
  rw [hA']
  refine J_icmp_ge (tgt := 64) hX (by decide) dX10_gathersBy_15 (fun h3 => ?_) (fun h3 => ?_)
  · have e : i = A 1 := by omega
    subst e
    refine J_iloadN hX rfl rfl dX10_gathersBy_64 ?_
    refine J_if_le (tgt := 81) hX (by decide) dX10_gathersBy_65 (fun h4 => ?_) (fun h4 => ?_)
    · skip
      exact J_vret hX hR0 dX10_gathersBy_81 (puI ⟨hfr, by rw [bxS_0 h4, bxH_0 h4]; exact hr⟩)
    · have hq' := hq (by omega)
      refine J_aloadN hX rfl rfl dX10_gathersBy_68 ?_
      refine J_aloadN hX rfl rfl dX10_gathersBy_69 ?_
      refine J_iloadN hX rfl rfl dX10_gathersBy_70 ?_
      refine J_iconst hX (by decide) dX10_gathersBy_71 ?_
      refine cV2w hX cb_X10_of mL_X10_118 dX10_gathersBy_72 (c_of hA' (by omega) (by omega)) ?_
      refine J_iloadN hX rfl rfl dX10_gathersBy_75 ?_
      refine J_iloadN hX rfl rfl dX10_gathersBy_76 ?_
      refine J_iconst hX (by decide) dX10_gathersBy_77 ?_
      refine cV4u hX cb_X10_gives mL_X10_154 dX10_gathersBy_78 (c_gives hA' hr (fun k hk => by have := hb k hk; omega) hH (by omega) (hI.2.2.1 _ hq').2.2 (by omega) (by omega)) (fun m2 hm2 => ?_)
      refine J_vret hX hR0 dX10_gathersBy_81 ?_
      refine puI ⟨hfr.tr hm2.1, ?_, fun k hk => ?_⟩
      · unfold bxH
        rw [if_pos (by omega)]
        exact hm2.2.1
      · unfold bxS
        rw [if_pos (by omega)]
        exact hm2.2.2 k hk
  · have e49 := hF' (6 * i + w) (by omega)
    have hoi := ho (6 * i + w) (by omega)
    refine J_aloadN hX rfl rfl dX10_gathersBy_18 ?_
    refine G_HalfHereModel_share hX dX10_gathersBy_19 mF_X10_34 ?_
    refine J_bipush hX (by decide) dX10_gathersBy_22 ?_
    refine J_iload hX rfl dX10_gathersBy_24 ?_
    refine J_imul hX (fun _ _ => by omega) dX10_gathersBy_26 ?_
    refine J_iloadN hX rfl rfl dX10_gathersBy_27 ?_
    refine J_iadd hX (fun _ _ => by omega) dX10_gathersBy_28 ?_
    refine L_49 hX (by omega) dX10_gathersBy_29 ?_
    rw [e49]
    refine J_if_le (tgt := 58) hX (by decide) dX10_gathersBy_30 (fun h4 => ?_) (fun h4 => ?_)
    · refine sinc_4 hX (fun _ => by omega) dX10_gathersBy_58 ?_
      refine J_goto (tgt := 7) hX (by decide) dX10_gathersBy_61 ?_
      exact ih (by omega) M hfr (fi (fun z => by unfold shP at z; omega))
    · have hat : shP F w i := by unfold shP; omega
      refine J_aloadN hX rfl rfl dX10_gathersBy_33 ?_
      refine J_aloadN hX rfl rfl dX10_gathersBy_34 ?_
      refine J_iloadN hX rfl rfl dX10_gathersBy_35 ?_
      refine J_iconst hX (by decide) dX10_gathersBy_36 ?_
      refine cV2w hX cb_X10_of mL_X10_118 dX10_gathersBy_37 (c_of hA' (by omega) (by omega)) ?_
      refine J_iload hX rfl dX10_gathersBy_40 ?_
      refine J_aloadN hX rfl rfl dX10_gathersBy_42 ?_
      refine G_HalfHereModel_share hX dX10_gathersBy_43 mF_X10_34 ?_
      refine J_bipush hX (by decide) dX10_gathersBy_46 ?_
      refine J_iload hX rfl dX10_gathersBy_48 ?_
      refine J_imul hX (fun _ _ => by omega) dX10_gathersBy_50 ?_
      refine J_iloadN hX rfl rfl dX10_gathersBy_51 ?_
      refine J_iadd hX (fun _ _ => by omega) dX10_gathersBy_52 ?_
      refine L_49 hX (by omega) dX10_gathersBy_53 ?_
      rw [e49]
      refine J_iconst hX (by decide) dX10_gathersBy_54 ?_
      refine cV4u hX cb_X10_gives mL_X10_154 dX10_gathersBy_55 (c_gives hA' hr (fun k hk => by have := hb k hk; omega) hH (by omega) (hI.2.2.1 i ⟨h1, by omega⟩).2.2 (by omega) (by omega)) (fun m2 hm2 => ?_)
      refine sinc_4 hX (fun _ => by omega) dX10_gathersBy_58 ?_
      refine J_goto (tgt := 7) hX (by decide) dX10_gathersBy_61 ?_
      refine ih (by omega) m2 (hfr.tr hm2.1) ⟨?_, fun k hk => ?_⟩
      · unfold byH
        rw [oI_t h1 hat]
        exact hm2.2.1
      · unfold byS
        rw [sP_t h1 hat]
        exact hm2.2.2 k hk
theorem c_gathersBy (hA : m 42 0 0 = A) (hI : InvA A C D) (hF : RelSh m F) (ho : okSh F) (hw : inN w (A 2)) (ht : t ≤ 12) (hq : 0 < t → inN q (A 1)) : K_X10_gathersBy G [vr 40 0 0, vi w, vi q, vi t] m (pu (gbP m A F w q t)) := by
  refine E_X10_gathersBy (fun X hX hR0 _ _ => ?_)
  refine J_aloadN hX rfl rfl dX10_gathersBy_0 ?_
  refine cV0u hX cb_X10_begins mL_X10_151 dX10_gathersBy_1 (c_begins) (fun m2 hm2 => ?_)
  refine J_iconst hX (by decide) dX10_gathersBy_4 ?_
  refine si_4 hX dX10_gathersBy_5 ?_
  exact l_gathersBy hX hA hI hF ho hw ht hq hR0 0 (by omega) hI.1.2.2.1 m2 hm2.1 ⟨hm2.2.1, hm2.2.2⟩
theorem c_isDoneBy (hA : m 42 0 0 = A) (hI : InvA A C D) (hF : RelSh m F) (ho : okSh F) (hw : inN w (A 2)) (ht : t ≤ 12) (hq : 0 < t → inN q (A 1)) : K_X10_isDoneBy G [vr 40 0 0, vi w, vi q, vi t] m (pi (fun r m' => r = bi (dnB A F w q t) ∧ FrM T48 m m')) := by
  refine E_X10_isDoneBy (fun X hX hR0 _ _ => ?_)
  have h0 := hI.1
  have hb := bx_b hI ho hw ht hq
  refine J_aloadN hX rfl rfl dX10_isDoneBy_0 ?_
  refine J_iloadN hX rfl rfl dX10_isDoneBy_1 ?_
  refine J_iloadN hX rfl rfl dX10_isDoneBy_2 ?_
  refine J_iloadN hX rfl rfl dX10_isDoneBy_3 ?_
  refine cV3u hX cb_X10_gathersBy mL_X10_177 dX10_isDoneBy_4 (c_gathersBy hA hI hF ho hw ht hq) (fun m2 hm2 => ?_)
  refine J_aloadN hX rfl rfl dX10_isDoneBy_7 ?_
  refine J_iloadN hX rfl rfl dX10_isDoneBy_8 ?_
  refine cV1i hX cb_X10_isDoneNow mL_X10_180 dX10_isDoneBy_9 (c_isDoneNow (hm2.1.a42 hA T48_42) hm2.2 (by omega) hb.1 hb.2) (fun r m3 hm3 => ?_)
  obtain ⟨rfl, hm3, -⟩ := hm3
  exact J_zret hX hR0 dX10_isDoneBy_12 (bi_01 _) (⟨_, rfl, rfl, hm2.1.tr hm3⟩)
theorem l_helps1 (hX : Ok_X10_helps G X 6) (hr1 : RelM m S H) (hS : okNS N S) (hH : inN H 64) (K45 : ∀ M, FrM T5 m M → (∀ k, inN k 3 → M 50 0 0 k = dS κ S H k) → J G X 45 [vr 40 0 0, vi w, vi p, vi t, vi κ, vi 3] [] M) : ∀ i, 0 ≤ i → i ≤ 3 → ∀ M, FrM T5 m M → RelM M S H → (∀ k, inN k i → M 50 0 0 k = dS κ S H k) → J G X 18 [vr 40 0 0, vi w, vi p, vi t, vi κ, vi i] [] M := by
  refine up_to (fun i h1 h2 ih M hfr hr hs => ?_)
  refine J_iload hX rfl dX10_helps_18 ?_
  refine J_iconst hX (by decide) dX10_helps_20 ?_
  refine J_icmp_ge (tgt := 45) hX (by decide) dX10_helps_21 (fun h3 => ?_) (fun h3 => ?_)
  · have e : i = 3 := by omega
    subst e
    exact K45 M hfr hs
  · refine J_aloadN hX rfl rfl dX10_helps_24 ?_
    refine G_HalfHereModel_ahead hX dX10_helps_25 mF_X10_37 ?_
    refine J_iload hX rfl dX10_helps_28 ?_
    refine J_aloadN hX rfl rfl dX10_helps_30 ?_
    refine J_iload hX rfl dX10_helps_31 ?_
    refine J_iload hX rfl dX10_helps_33 ?_
    refine cV2w hX cb_X10_doesOf mL_X10_162 dX10_helps_35 (c_doesOf (N := N) hr hS hH ⟨h1, h3⟩) ?_
    refine S_50 hX (by omega) dX10_helps_38 ?_
    refine sinc_5 hX (fun _ => by omega) dX10_helps_39 ?_
    refine J_goto (tgt := 18) hX (by decide) dX10_helps_42 ?_
    refine ih h3 _ (hfr.up (Or.inr rfl) (by decide)) ⟨?_, fun k hk => ?_⟩ (fun k hk => ?_)
    · rw [upr_tag (by decide)]; exact hr.1
    · rw [upr_tag (by decide)]; exact hr.2 k hk
    · rw [upr_eq]
      by_cases e : k = i
      · rw [e, st1_eq]
      · rw [st1_ne e]; exact hs k (by omega)
theorem l_helps2 {S2 : Int → Int} {H2 : Int} (hX : Ok_X10_helps G X 6) (hA : m 42 0 0 = A) (hI : InvA A C D) (hw : inN w (A 2)) (hr : RelM m S2 H2) (hS : okNS (nW A w) S2) (hH : inN H2 64) (hs : ∀ k, inN k 3 → m 50 0 0 k = dS (aW A w 0) S H k) {m0 : HM} (hf : FrM T5 m0 m) (hR0 : JRt G X (pi (fun r m' => r = bi (∃ k, inN k 3 ∧ 0 < nW A w k ∧ dS (aW A w 0) S H k < dS (aW A w 0) S2 H2 k) ∧ FrM T5 m0 m')) (some .boolean)) : ∀ i, 0 ≤ i → i ≤ 3 → (∀ k, inN k i → ¬ (0 < nW A w k ∧ dS (aW A w 0) S H k < dS (aW A w 0) S2 H2 k)) → J G X 55 [vr 40 0 0, vi w, vi p, vi t, vi (aW A w 0), vi i] [] m := by
  have h0 := hI.1
  refine up_to (fun i h1 h2 ih hn => ?_)
  have nx : ¬ (0 < nW A w i ∧ dS (aW A w 0) S H i < dS (aW A w 0) S2 H2 i) → ∀ k, inN k (i + 1) → ¬ (0 < nW A w k ∧ dS (aW A w 0) S H k < dS (aW A w 0) S2 H2 k) := fun h k hk => by
    by_cases e : k = i
    · rw [e]; exact h
    · exact hn k (by omega)
  refine J_iload hX rfl dX10_helps_55 ?_
  refine J_iconst hX (by decide) dX10_helps_57 ?_
  refine J_icmp_ge (tgt := 99) hX (by decide) dX10_helps_58 (fun h3 => ?_) (fun h3 => ?_)
  · refine J_iconst hX (by decide) dX10_helps_99 ?_
    refine J_zret hX hR0 dX10_helps_100 (Or.inl rfl) ?_
    exact ⟨0, rfl, (bi_neg (fun ⟨k, hk, q⟩ => hn k (by omega) q)).symm, hf⟩
  · have eN : aW A w (2 + i) = nW A w i := rfl
    refine J_aloadN hX rfl rfl dX10_helps_61 ?_
    refine J_iloadN hX rfl rfl dX10_helps_62 ?_
    refine J_iconst hX (by decide) dX10_helps_63 ?_
    refine J_iload hX rfl dX10_helps_64 ?_
    refine J_iadd hX (fun _ _ => by omega) dX10_helps_66 ?_
    refine cV2w hX cb_X10_of mL_X10_118 dX10_helps_67 (c_of hA (by omega) (by omega)) ?_
    rw [eN]
    refine J_if_le (tgt := 93) hX (by decide) dX10_helps_70 (fun h4 => ?_) (fun h4 => ?_)
    · refine sinc_5 hX (fun _ => by omega) dX10_helps_93 ?_
      refine J_goto (tgt := 55) hX (by decide) dX10_helps_96 ?_
      exact ih h3 (nx (fun q => by omega))
    · refine J_aloadN hX rfl rfl dX10_helps_73 ?_
      refine J_iload hX rfl dX10_helps_74 ?_
      refine J_iload hX rfl dX10_helps_76 ?_
      refine cV2w hX cb_X10_doesOf mL_X10_162 dX10_helps_78 (c_doesOf (N := nW A w) hr hS hH ⟨h1, h3⟩) ?_
      refine J_aloadN hX rfl rfl dX10_helps_81 ?_
      refine G_HalfHereModel_ahead hX dX10_helps_82 mF_X10_37 ?_
      refine J_iload hX rfl dX10_helps_85 ?_
      refine L_50 hX (by omega) dX10_helps_87 ?_
      rw [hs i ⟨h1, h3⟩]
      refine J_icmp_le (tgt := 93) hX (by decide) dX10_helps_88 (fun h5 => ?_) (fun h5 => ?_)
      · refine sinc_5 hX (fun _ => by omega) dX10_helps_93 ?_
        refine J_goto (tgt := 55) hX (by decide) dX10_helps_96 ?_
        exact ih h3 (nx (fun q => by omega))
      · refine J_iconst hX (by decide) dX10_helps_91 ?_
        refine J_zret hX hR0 dX10_helps_92 (Or.inr rfl) ?_
        exact ⟨1, rfl, (bi_pos ⟨i, ⟨h1, h3⟩, by omega, by omega⟩).symm, hf⟩
theorem c_helps (hA : m 42 0 0 = A) (hI : InvA A C D) (hF : RelSh m F) (ho : okSh F) (hw : inN w (A 2)) (ht : t ≤ 12) (hq : inN p (A 1)) : K_X10_helps G [vr 40 0 0, vi w, vi p, vi t] m (pi (fun r m' => r = bi (hlB A F w p t) ∧ FrM T5 m m')) := by
  refine E_X10_helps (fun X hX hR0 _ _ => ?_)
  have h0 := hI.1
  have hb0 := bx_b (q := p) hI ho hw (t := 0) (by omega) (by omega)
  rw [bxS_0 (by omega), bxH_0 (by omega)] at hb0
  have hb := bx_b hI ho hw ht (q := p) (fun _ => hq)
  refine J_aloadN hX rfl rfl dX10_helps_0 ?_
  refine J_iloadN hX rfl rfl dX10_helps_1 ?_
  refine J_iconst hX (by decide) dX10_helps_2 ?_
  refine cV2w hX cb_X10_of mL_X10_118 dX10_helps_3 (c_of hA (by omega) (by omega)) ?_
  refine si_4 hX dX10_helps_6 ?_
  refine J_aloadN hX rfl rfl dX10_helps_8 ?_
  refine J_iloadN hX rfl rfl dX10_helps_9 ?_
  refine J_iloadN hX rfl rfl dX10_helps_10 ?_
  refine J_iconst hX (by decide) dX10_helps_11 ?_
  refine cV3u hX cb_X10_gathersBy mL_X10_177 dX10_helps_12 (c_gathersBy hA hI hF ho hw (by omega) (by omega)) (fun m2 hm2 => ?_)
  have hr2 := hm2.2
  rw [bxS_0 (by omega), bxH_0 (by omega)] at hr2
  refine J_iconst hX (by decide) dX10_helps_15 ?_
  refine si_5 hX dX10_helps_16 ?_
  refine l_helps1 hX hr2 hb0.1 hb0.2 (fun M hfr hs => ?_) 0 (by omega) (by omega) m2 FrM.rf hr2 (fun k hk => by omega)
  have hfr0 := (hm2.1.mono T48_5).tr hfr
  refine J_aloadN hX rfl rfl dX10_helps_45 ?_
  refine J_iloadN hX rfl rfl dX10_helps_46 ?_
  refine J_iloadN hX rfl rfl dX10_helps_47 ?_
  refine J_iloadN hX rfl rfl dX10_helps_48 ?_
  refine cV3u hX cb_X10_gathersBy mL_X10_177 dX10_helps_49 (c_gathersBy (hfr0.a42 hA T5_42) hI (hF.fr hfr0 T5_49) ho hw ht (fun _ => hq)) (fun m3 hm3 => ?_)
  refine J_iconst hX (by decide) dX10_helps_52 ?_
  refine si_5 hX dX10_helps_53 ?_
  refine l_helps2 hX (hm3.1.a42 (hfr0.a42 hA T5_42) T48_42) hI hw hm3.2 hb.1 hb.2 (fun k hk => ?_) (hfr0.tr (hm3.1.mono T48_5)) hR0 0 (by omega) (by omega) (fun k hk => by omega)
  rw [hm3.1.1 50 0 0 T48_50 (by decide)]
  exact hs k hk
end Mod
