/-! ===== 20b: the reference: what is given to a work, and how well ===== -/
noncomputable def oN (P : Int → Prop) (f : Int → Int) : Nat → Int
  | 0 => 0
  | n + 1 => ifP (P n) (orI (oN P f n) (p2 (f n))) (oN P f n)
noncomputable def oI (P : Int → Prop) (f : Int → Int) (n : Int) : Int := oN P f n.toNat
theorem oI_0 (P : Int → Prop) (f : Int → Int) : oI P f 0 = 0 := rfl
theorem oI_s {P : Int → Prop} {f : Int → Int} {n : Int} (h : 0 ≤ n) : oI P f (n + 1) = ifP (P n) (orI (oI P f n) (p2 (f n))) (oI P f n) := by
  unfold oI
  rw [show (n + 1).toNat = n.toNat + 1 by omega]
  show ifP (P (n.toNat : Int)) _ _ = _
  rw [Int.toNat_of_nonneg h]
theorem oI_t {P : Int → Prop} {f : Int → Int} {n : Int} (h : 0 ≤ n) (hp : P n) : oI P f (n + 1) = orI (oI P f n) (p2 (f n)) := by rw [oI_s h, ifP_pos hp]
theorem oI_f {P : Int → Prop} {f : Int → Int} {n : Int} (h : 0 ≤ n) (hp : ¬ P n) : oI P f (n + 1) = oI P f n := by rw [oI_s h, ifP_neg hp]
theorem oI_b {P : Int → Prop} {f : Int → Int} {n : Int} (h : ∀ i, inN i n → P i → inN (f i) 6) (h0 : 0 ≤ n) : inN (oI P f n) 64 := by
  obtain ⟨j, rfl⟩ : ∃ j : Nat, n = j := ⟨n.toNat, by omega⟩
  clear h0
  induction j with
  | zero => show inN (0 : Int) 64; omega
  | succ j ih =>
    have := ih (fun i hi => h i (by omega))
    rw [show ((j + 1 : Nat) : Int) = (j : Int) + 1 by omega]
    by_cases q : P j
    · rw [oI_t (by omega) q]
      exact orI_b this (p2_b (h j (by omega) q)).1
    · rw [oI_f (by omega) q]
      exact this
/-- a sum over those with P -/
noncomputable def sP (P : Int → Prop) (f : Int → Int) (n : Int) : Int := sumI (fun i => ifP (P i) (f i) 0) n
theorem sP_0 (P : Int → Prop) (f : Int → Int) : sP P f 0 = 0 := rfl
theorem sP_t {P : Int → Prop} {f : Int → Int} {n : Int} (h : 0 ≤ n) (hp : P n) : sP P f (n + 1) = sP P f n + f n := by
  unfold sP
  rw [sumI_s h, ifP_pos hp]
theorem sP_f {P : Int → Prop} {f : Int → Int} {n : Int} (h : 0 ≤ n) (hp : ¬ P n) : sP P f (n + 1) = sP P f n := by
  unfold sP
  rw [sumI_s h, ifP_neg hp, Int.add_zero]
theorem sP_b {P : Int → Prop} {f : Int → Int} {n c : Int} (hn : 0 ≤ n) (hc : 0 ≤ c) (h : ∀ i, inN i n → P i → 0 ≤ f i ∧ f i ≤ c) : 0 ≤ sP P f n ∧ sP P f n ≤ c * n := by
  have := sumI_b (f := fun i => ifP (P i) (f i) 0) (lo := 0) (hi := c) hn (fun i a b => by
    by_cases q : P i
    · show 0 ≤ ifP (P i) (f i) 0 ∧ ifP (P i) (f i) 0 ≤ c
      rw [ifP_pos q]
      exact h i ⟨a, b⟩ q
    · show 0 ≤ ifP (P i) (f i) 0 ∧ ifP (P i) (f i) 0 ≤ c
      rw [ifP_neg q]
      omega)
  unfold sP
  omega
/-! by the parts -/
def aAt (A : Int → Int) (w i : Int) : Prop := aIs A i ∧ aP A i 3 = w
noncomputable def gaS (A : Int → Int) (w n k : Int) : Int := sP (aAt A w) (fun i => gv (aW A w 0) k (aG A (aP A i 0 - 1) k) (aP A i 1) (aP A i 5)) n
noncomputable def gaH (A : Int → Int) (w n : Int) : Int := oI (aAt A w) (fun i => aP A i 0 - 1) n
def nW (A : Int → Int) (w k : Int) : Int := aW A w (2 + k)
theorem gaS_b {A : Int → Int} {C D w n k : Int} (hI : InvA A C D) (hn : 0 ≤ n ∧ n ≤ 24) (hk : inN k 3) : 0 ≤ gaS A w n k ∧ gaS A w n k ≤ 34560 := by
  have := sP_b (P := aAt A w) (f := fun i => gv (aW A w 0) k (aG A (aP A i 0 - 1) k) (aP A i 1) (aP A i 5)) (n := n) (c := 1440) hn.1 (by omega) (fun i hi hp => by
    have h1 := (hI.2.2.1 _ (hI.pers hp.1)).2.2 k hk
    have h2 := hI.share hp.1
    have h3 := (hI.part hp.1).2.2.2.2.2.1
    exact gv_b h1 (by omega) h3.1)
  unfold gaS
  omega
theorem gaH_b {A : Int → Int} {C D w n : Int} (hI : InvA A C D) (hn : 0 ≤ n ∧ n ≤ 24) : inN (gaH A w n) 64 :=
  oI_b (fun i _ hp => by
    have h1 := hI.pers hp.1
    have h2 := hI.1
    show inN (aP A i 0 - 1) 6
    omega) hn.1
theorem okNSg {A : Int → Int} {C D w : Int} (hI : InvA A C D) (hw : inN w (A 2)) : okNS (nW A w) (gaS A w 24) := fun k hk => by
  have h1 := (hI.2.2.2.1 w hw).2.2.2 k hk
  have h2 := gaS_b (w := w) hI (n := 24) (by omega) hk
  unfold nW
  exact ⟨h1, by omega⟩
section Mod
variable {G : GC} {X : JX} {m : HM} {κ p t τ w x y z i k : Int} {A N S g : Int → Int} {H C D : Int}
def gvP (m : HM) (κ : Int) (A S : Int → Int) (H p t τ : Int) (m' : HM) : Prop := FrM T48 m m' ∧ RelM m' (fun k => S k + gv κ k (aG A p k) t τ) (orI H (p2 p))
theorem FrM.a42 {m m' : HM} {T : Nat → Prop} (h : FrM T m m') (hA : m 42 0 0 = A) (hT : ¬ T 42) : m' 42 0 0 = A := (h.1 42 0 0 hT (by decide)).trans hA
theorem T48_42 : ¬ T48 42 := by unfold T48; decide
theorem l_gives (hX : Ok_X10_gives G X 4) (hA : m 42 0 0 = A) (hS : ∀ k, inN k 3 → 0 ≤ S k ∧ S k ≤ 38000) (hH : inN H 64) (hp : inN p 6) (hg : ∀ k, inN k 3 → 0 ≤ aG A p k ∧ aG A p k ≤ 60) (ht : 0 ≤ t ∧ t ≤ 12) (hτ : 0 ≤ τ) (hR0 : JRt G X (pu (gvP m κ A S H p t τ)) none) : ∀ i, 0 ≤ i → i ≤ 3 → ∀ M, FrM T48 m M → M 40 0 0 11 = H → (∀ k, inN k 3 → M 48 0 0 k = if k < i then S k + gv κ k (aG A p k) t τ else S k) → J G X 3 [vr 40 0 0, vi κ, vi p, vi t, vi τ, vi i] [] M := by
  refine up_to (fun i h1 h2 ih M hfr hH' hs => ?_)
  refine J_iload hX rfl dX10_gives_3 ?_
  refine J_iconst hX (by decide) dX10_gives_5 ?_
  refine J_icmp_ge (tgt := 41) hX (by decide) dX10_gives_6 (fun h3 => ?_) (fun h3 => ?_)
  · refine J_aloadN hX rfl rfl dX10_gives_41 ?_
    refine J_dup hX rfl dX10_gives_42 ?_
    refine G_HalfHereModel_there hX dX10_gives_43 mF_X10_144 ?_
    refine J_iconst hX (by decide) dX10_gives_46 ?_
    refine J_iloadN hX rfl rfl dX10_gives_47 ?_
    refine J_ishl hX (fun _ _ => sd_shl ⟨hp.1, by omega⟩) dX10_gives_48 ?_
    refine J_ior hX (fun _ _ => by rw [hH']; exact sd_or hH (p2_b hp).1) dX10_gives_49 ?_
    refine P_HalfHereModel_there hX dX10_gives_50 mF_X10_144 ?_
    refine J_vret hX hR0 dX10_gives_53 ?_
    refine puI ⟨hfr.fld (by omega), ?_, fun k hk => ?_⟩
    · rw [upr_eq, st1_eq]
    · rw [upr_tag (by decide), hs k hk, if_pos (by omega)]
  · have e := hs i ⟨h1, h3⟩
    have hS' := hS i ⟨h1, h3⟩
    have hg' := hg i ⟨h1, h3⟩
    have hb := gv_b (κ := κ) (w := i) hg' ht hτ
    rw [if_neg (by omega)] at e
    refine J_aloadN hX rfl rfl dX10_gives_9 ?_
    refine G_HalfHereModel_sum hX dX10_gives_10 mF_X10_31 ?_
    refine J_iload hX rfl dX10_gives_13 ?_
    refine J_dup2 hX rfl rfl dX10_gives_15 ?_
    refine L_48 hX (by omega) dX10_gives_16 ?_
    refine J_iloadN hX rfl rfl dX10_gives_17 ?_
    refine J_aloadN hX rfl rfl dX10_gives_18 ?_
    refine J_iloadN hX rfl rfl dX10_gives_19 ?_
    refine J_iload hX rfl dX10_gives_20 ?_
    rw [e]
    refine cV2w hX cb_X10_get mL_X10_106 dX10_gives_22 (c_get (hfr.a42 hA T48_42) hp (by omega)) ?_
    refine J_iload hX rfl dX10_gives_25 ?_
    refine J_iloadN hX rfl rfl dX10_gives_27 ?_
    refine J_iload hX rfl dX10_gives_28 ?_
    refine cS5w hX cb_X10_giftOf mL_X10_147 dX10_gives_30 (c_giftOf hg' ht hτ) ?_
    refine J_iadd hX (fun _ _ => by omega) dX10_gives_33 ?_
    refine S_48 hX (by omega) dX10_gives_34 ?_
    refine sinc_5 hX (fun _ => by omega) dX10_gives_35 ?_
    refine J_goto (tgt := 3) hX (by decide) dX10_gives_38 ?_
    refine ih h3 _ (hfr.up rfl (by decide)) ?_ (fun k hk => ?_)
    · rw [upr_tag (by decide)]; exact hH'
    · rw [upr_eq]
      by_cases q : k = i
      · rw [q, st1_eq, if_pos (by omega)]
      · rw [st1_ne q, hs k hk]
        by_cases q2 : k < i
        · rw [if_pos q2, if_pos (by omega)]
        · rw [if_neg q2, if_neg (by omega)]
theorem c_gives (hA : m 42 0 0 = A) (hr : RelM m S H) (hS : ∀ k, inN k 3 → 0 ≤ S k ∧ S k ≤ 38000) (hH : inN H 64) (hp : inN p 6) (hg : ∀ k, inN k 3 → 0 ≤ aG A p k ∧ aG A p k ≤ 60) (ht : 0 ≤ t ∧ t ≤ 12) (hτ : 0 ≤ τ) : K_X10_gives G [vr 40 0 0, vi κ, vi p, vi t, vi τ] m (pu (gvP m κ A S H p t τ)) := by
  refine E_X10_gives (fun X hX hR0 _ _ => ?_)
  refine J_iconst hX (by decide) dX10_gives_0 ?_
  refine si_5 hX dX10_gives_1 ?_
  exact l_gives hX hA hS hH hp hg ht hτ hR0 0 (by omega) (by omega) m FrM.rf hr.1 (fun k hk => by rw [if_neg (by omega)]; exact hr.2 k hk)
theorem c_doesOf (hr : RelM m S H) (hS : okNS N S) (hH : inN H 64) (hx : inN x 3) : K_X10_doesOf G [vr 40 0 0, vi κ, vi x] m (pw (vi (dS κ S H x)) m) := by
  refine E_X10_doesOf (fun X hX hR0 _ _ => ?_)
  have hb := (hS x hx).2
  have e48 := hr.2 x hx
  have td : (S x * 3).tdiv 2 = S x * 3 / 2 := Int.tdiv_eq_ediv_of_nonneg (by omega)
  refine J_iloadN hX rfl rfl dX10_doesOf_0 ?_
  refine J_iconst hX (by decide) dX10_doesOf_1 ?_
  refine J_icmp_ne (tgt := 29) hX (by decide) dX10_doesOf_2 (fun h1 => ?_) (fun h1 => ?_)
  · refine J_aloadN hX rfl rfl dX10_doesOf_29 ?_
    refine G_HalfHereModel_sum hX dX10_doesOf_30 mF_X10_31 ?_
    refine J_iloadN hX rfl rfl dX10_doesOf_33 ?_
    refine L_48 hX (by omega) dX10_doesOf_34 ?_
    exact J_iret hX hR0 dX10_doesOf_35 (pwI (by unfold dS; rw [if_neg (fun q => h1 q.1)]; exact e48))
  · refine J_aloadN hX rfl rfl dX10_doesOf_5 ?_
    refine G_HalfHereModel_there hX dX10_doesOf_6 mF_X10_144 ?_
    rw [hr.1]
    refine cS1w hX cb_X10_bits mL_X10_138 dX10_doesOf_9 (c_bits hH) ?_
    refine J_iconst hX (by decide) dX10_doesOf_12 ?_
    refine J_icmp_le (tgt := 29) hX (by decide) dX10_doesOf_13 (fun h2 => ?_) (fun h2 => ?_)
    · refine J_aloadN hX rfl rfl dX10_doesOf_29 ?_
      refine G_HalfHereModel_sum hX dX10_doesOf_30 mF_X10_31 ?_
      refine J_iloadN hX rfl rfl dX10_doesOf_33 ?_
      refine L_48 hX (by omega) dX10_doesOf_34 ?_
      exact J_iret hX hR0 dX10_doesOf_35 (pwI (by unfold dS; rw [if_neg (by omega)]; exact e48))
    · refine J_aloadN hX rfl rfl dX10_doesOf_16 ?_
      refine G_HalfHereModel_sum hX dX10_doesOf_17 mF_X10_31 ?_
      refine J_iloadN hX rfl rfl dX10_doesOf_20 ?_
      refine L_48 hX (by omega) dX10_doesOf_21 ?_
      rw [e48]
      refine J_iconst hX (by decide) dX10_doesOf_22 ?_
      refine J_imul hX (fun _ _ => by omega) dX10_doesOf_23 ?_
      refine J_iconst hX (by decide) dX10_doesOf_24 ?_
      refine J_idiv hX (fun _ _ => by omega) (fun _ _ => by rw [td]; omega) dX10_doesOf_25 ?_
      rw [td]
      refine J_goto (tgt := 35) hX (by decide) dX10_doesOf_26 ?_
      exact J_iret hX hR0 dX10_doesOf_35 (pwI (by unfold dS; rw [if_pos ⟨h1, by omega⟩]; omega))
theorem l_gathers (hX : Ok_X10_gathers G X 5) (hA : m 42 0 0 = A) (hI : InvA A C D) (hw : inN w (A 2)) (hR0 : JRt G X (pu (fun m' => FrM T48 m m' ∧ RelM m' (gaS A w 24) (gaH A w 24))) none) : ∀ i, 0 ≤ i → i ≤ 24 → ∀ M, FrM T48 m M → RelM M (gaS A w i) (gaH A w i) → J G X 6 [vr 40 0 0, vi w, vi i] [] M := by
  have h0 := hI.1
  refine up_to (fun i h1 h2 ih M hfr hr => ?_)
  have hA' := hfr.a42 hA T48_42
  have fi : ¬ aAt A w i → RelM M (gaS A w (i + 1)) (gaH A w (i + 1)) := fun hn => ⟨by unfold gaH; rw [oI_f h1 hn]; exact hr.1, fun k' hk' => by unfold gaS; rw [sP_f h1 hn]; exact hr.2 k' hk'⟩
  refine J_iloadN hX rfl rfl dX10_gathers_6 ?_
  refine J_bipush hX (by decide) dX10_gathers_7 ?_
  refine J_icmp_ge (tgt := 67) hX (by decide) dX10_gathers_9 (fun h3 => ?_) (fun h3 => ?_)
  · have e : i = 24 := by omega
    subst e
    exact J_vret hX hR0 dX10_gathers_67 (puI ⟨hfr, hr⟩)
  · have hi : inN i 24 := ⟨h1, h3⟩
    refine J_aloadN hX rfl rfl dX10_gathers_12 ?_
    refine J_iloadN hX rfl rfl dX10_gathers_13 ?_
    refine J_iconst hX (by decide) dX10_gathers_14 ?_
    refine cV2w hX cb_X10_part mL_X10_50 dX10_gathers_15 (c_part hA' hi (by omega)) ?_
    refine J_if_le (tgt := 61) hX (by decide) dX10_gathers_18 (fun h4 => ?_) (fun h4 => ?_)
    · refine sinc_2 hX (fun _ => by omega) dX10_gathers_61 ?_
      refine J_goto (tgt := 6) hX (by decide) dX10_gathers_64 ?_
      exact ih h3 M hfr (fi (fun q => by have := q.1.2.2; omega))
    · have hIs : aIs A i := ⟨h1, h3, by omega⟩
      have hs := hI.share hIs
      have hp := hI.part hIs
      have hq := hI.pers hIs
      refine J_aloadN hX rfl rfl dX10_gathers_21 ?_
      refine J_iloadN hX rfl rfl dX10_gathers_22 ?_
      refine J_iconst hX (by decide) dX10_gathers_23 ?_
      refine cV2w hX cb_X10_part mL_X10_50 dX10_gathers_24 (c_part hA' hi (by omega)) ?_
      refine J_iloadN hX rfl rfl dX10_gathers_27 ?_
      refine J_icmp_ne (tgt := 61) hX (by decide) dX10_gathers_28 (fun h5 => ?_) (fun h5 => ?_)
      · refine sinc_2 hX (fun _ => by omega) dX10_gathers_61 ?_
        refine J_goto (tgt := 6) hX (by decide) dX10_gathers_64 ?_
        exact ih h3 M hfr (fi (fun q => by have := q.2; omega))
      · have hat : aAt A w i := ⟨hIs, by omega⟩
        have hS1 := fun k hk => gaS_b (w := w) (n := i) (k := k) hI ⟨h1, h2⟩ hk
        refine J_aloadN hX rfl rfl dX10_gathers_31 ?_
        refine J_aloadN hX rfl rfl dX10_gathers_32 ?_
        refine J_iloadN hX rfl rfl dX10_gathers_33 ?_
        refine J_iconst hX (by decide) dX10_gathers_34 ?_
        refine cV2w hX cb_X10_of mL_X10_118 dX10_gathers_35 (c_of hA' (by omega) (by omega)) ?_
        refine J_aloadN hX rfl rfl dX10_gathers_38 ?_
        refine J_iloadN hX rfl rfl dX10_gathers_39 ?_
        refine J_iconst hX (by decide) dX10_gathers_40 ?_
        refine cV2w hX cb_X10_part mL_X10_50 dX10_gathers_41 (c_part hA' hi (by omega)) ?_
        refine J_iconst hX (by decide) dX10_gathers_44 ?_
        refine J_isub hX (fun _ _ => by omega) dX10_gathers_45 ?_
        refine J_aloadN hX rfl rfl dX10_gathers_46 ?_
        refine J_iloadN hX rfl rfl dX10_gathers_47 ?_
        refine J_iconst hX (by decide) dX10_gathers_48 ?_
        refine cV2w hX cb_X10_part mL_X10_50 dX10_gathers_49 (c_part hA' hi (by omega)) ?_
        refine J_aloadN hX rfl rfl dX10_gathers_52 ?_
        refine J_iloadN hX rfl rfl dX10_gathers_53 ?_
        refine J_iconst hX (by decide) dX10_gathers_54 ?_
        refine cV2w hX cb_X10_part mL_X10_50 dX10_gathers_55 (c_part hA' hi (by omega)) ?_
        refine cV4u hX cb_X10_gives mL_X10_154 dX10_gathers_58 (c_gives hA' hr (fun k hk => by have := hS1 k hk; omega) (gaH_b hI ⟨h1, h2⟩) (by omega) (hI.2.2.1 _ hq).2.2 (by omega) (by omega)) (fun m2 hm2 => ?_)
        refine sinc_2 hX (fun _ => by omega) dX10_gathers_61 ?_
        refine J_goto (tgt := 6) hX (by decide) dX10_gathers_64 ?_
        refine ih h3 m2 (hfr.tr hm2.1) ⟨?_, fun k hk => ?_⟩
        · unfold gaH
          rw [oI_t h1 hat]
          exact hm2.2.1
        · unfold gaS
          rw [sP_t h1 hat]
          exact hm2.2.2 k hk
theorem c_gathers (hA : m 42 0 0 = A) (hI : InvA A C D) (hw : inN w (A 2)) : K_X10_gathers G [vr 40 0 0, vi w] m (pu (fun m' => FrM T48 m m' ∧ RelM m' (gaS A w 24) (gaH A w 24))) := by
  refine E_X10_gathers (fun X hX hR0 _ _ => ?_)
  refine J_aloadN hX rfl rfl dX10_gathers_0 ?_
  refine cV0u hX cb_X10_begins mL_X10_151 dX10_gathers_1 (c_begins) (fun m2 hm2 => ?_)
  refine J_iconst hX (by decide) dX10_gathers_4 ?_
  refine siN_2 hX dX10_gathers_5 ?_
  exact l_gathers hX hA hI hw hR0 0 (by omega) (by omega) m2 hm2.1 ⟨hm2.2.1, hm2.2.2⟩
end Mod
