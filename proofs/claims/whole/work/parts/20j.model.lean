/-! ===== 20j: the reference: with, thin, few ===== -/
/-- what is left of a fold -/
def rfN {α : Type} (st : Int → α → α) : Nat → Int → α → α
  | 0, _, s => s
  | c + 1, i, s => rfN st c (i + 1) (st i s)
def rfI {α : Type} (st : Int → α → α) (i hi : Int) (s : α) : α := rfN st (hi - i).toNat i s
theorem rfI_0 {α : Type} {st : Int → α → α} {i hi : Int} {s : α} (h : hi ≤ i) : rfI st i hi s = s := by
  unfold rfI
  rw [show (hi - i).toNat = 0 by omega]
  rfl
theorem rfI_s {α : Type} {st : Int → α → α} {i hi : Int} {s : α} (h : i < hi) : rfI st i hi s = rfI st (i + 1) hi (st i s) := by
  unfold rfI
  rw [show (hi - i).toNat = (hi - (i + 1)).toNat + 1 by omega]
  rfl
theorem rfI_congr {α : Type} {st st2 : Int → α → α} {hi lo : Int} (h : ∀ i s, lo ≤ i → i < hi → st i s = st2 i s) : ∀ i, lo ≤ i → i ≤ hi → ∀ s, rfI st i hi s = rfI st2 i hi s := by
  refine up_to (fun i h1 h2 ih s => ?_)
  by_cases q : i < hi
  · rw [rfI_s q, rfI_s q, h i s h1 q]
    exact ih q _
  · rw [rfI_0 (by omega), rfI_0 (by omega)]
theorem rfI_ind {α : Type} {P : α → Prop} {st : Int → α → α} {hi lo : Int} (h : ∀ i s, lo ≤ i → i < hi → P s → P (st i s)) : ∀ i, lo ≤ i → i ≤ hi → ∀ s, P s → P (rfI st i hi s) := by
  refine up_to (fun i h1 h2 ih s hs => ?_)
  by_cases q : i < hi
  · rw [rfI_s q]
    exact ih q _ (h i s h1 q hs)
  · rw [rfI_0 (by omega)]
    exact hs
def wiS (A : Int → Int) (κ a b k : Int) : Int := gv κ k (aG A a k) 12 0 + gv κ k (aG A b k) 12 0
def wiH (a b : Int) : Int := orI (orI 0 (p2 a)) (p2 b)
def wiW (A : Int → Int) (w a b : Int) : Int × Int := wlI (aW A w 0) (nW A w) (wiS A (aW A w 0) a b) (wiH a b) 3
def wiT (A : Int → Int) (w a b : Int) (s : Int × Int × Int) : Int × Int × Int := if 0 ≤ s.1 ∧ (wiW A w a b).1 * s.2.2 ≤ s.2.1 * (wiW A w a b).2 then s else (10 * a + b, (wiW A w a b).1, (wiW A w a b).2)
def wiI (A : Int → Int) (w a : Int) (s : Int × Int × Int) : Int × Int × Int := rfI (fun b s => wiT A w a b s) (a + 1) (A 1) s
def withA (A : Int → Int) (w : Int) : Int := (rfI (fun a s => wiI A w a s) 0 (A 1) (-9, 0, 1)).1
def rfWith (A : Int → Int) (w : Int) : Int := if inN w (A 2) then (if aW A w 0 = 3 then 0 else -2) else -1
def okT (s : Int × Int × Int) : Prop := (-9 ≤ s.1 ∧ s.1 ≤ 60) ∧ (0 ≤ s.2.1 ∧ s.2.1 ≤ 60000) ∧ (1 ≤ s.2.2 ∧ s.2.2 ≤ 2400)
theorem wi_ok {A : Int → Int} {C D w a b : Int} (hI : InvA A C D) (hw : inN w (A 2)) (ha : inN a (A 1)) (hb : inN b (A 1)) : okNS (nW A w) (wiS A (aW A w 0) a b) ∧ inN (wiH a b) 64 := by
  have h0 := hI.1
  refine ⟨fun k hk => ?_, orI_b (orI_b (by omega) (p2_b (by omega)).1) (p2_b (by omega)).1⟩
  have h1 := (hI.2.2.2.1 w hw).2.2.2 k hk
  have h2 := gv_b (κ := aW A w 0) (w := k) ((hI.2.2.1 a ha).2.2 k hk) (t := 12) (by omega) (τ := 0) (by omega)
  have h3 := gv_b (κ := aW A w 0) (w := k) ((hI.2.2.1 b hb).2.2 k hk) (t := 12) (by omega) (τ := 0) (by omega)
  unfold nW wiS
  exact ⟨h1, by omega⟩
theorem wiW_b {A : Int → Int} {C D w a b : Int} (hI : InvA A C D) (hw : inN w (A 2)) (ha : inN a (A 1)) (hb : inN b (A 1)) : (0 ≤ (wiW A w a b).1 ∧ (wiW A w a b).1 ≤ 60000) ∧ (1 ≤ (wiW A w a b).2 ∧ (wiW A w a b).2 ≤ 2400) := by
  have h := wi_ok hI hw ha hb
  obtain ⟨h1, h2, -⟩ := wlI_b (κ := aW A w 0) (H := wiH a b) h.1 3 (by omega) (by omega)
  exact ⟨h1, h2⟩
theorem okT_T {A : Int → Int} {C D w a b : Int} {s : Int × Int × Int} (hI : InvA A C D) (hw : inN w (A 2)) (ha : inN a (A 1)) (hb : inN b (A 1)) (h : okT s) : okT (wiT A w a b s) := by
  have h0 := hI.1
  have := wiW_b hI hw ha hb
  unfold wiT
  split
  · exact h
  · exact ⟨by show -9 ≤ 10 * a + b ∧ 10 * a + b ≤ 60; omega, this⟩
theorem okT_I {A : Int → Int} {C D w a : Int} {s : Int × Int × Int} (hI : InvA A C D) (hw : inN w (A 2)) (ha : inN a (A 1)) (h : okT s) : okT (wiI A w a s) :=
  rfI_ind (P := okT) (lo := a + 1) (fun i s h1 h2 hs => okT_T hI hw ha (by omega) hs) (a + 1) (Int.le_refl _) (by omega) s h
section Mod
variable {G : GC} {X : JX} {m : HM} {κ p t τ w x y z i k q b : Int} {A N S g F : Int → Int} {H C D : Int}
theorem gt_cmp {x y : Int} : 0 < cmpI x y ↔ y < x := by
  unfold cmpI
  split
  · constructor <;> intro <;> omega
  · split
    · constructor <;> intro <;> omega
    · constructor <;> intro <;> omega
theorem l_with1 {m0 : HM} {s0 : Int × Int × Int} {a : Int} (hX : Ok_X10_with G X 5) (hA : m0 42 0 0 = A) (hI : InvA A C D) (hw : inN w (A 2)) (hκ : aW A w 0 = 3) (ha : inN a (A 1)) (K153 : ∀ M s c, FrM T48 m0 M → okT s → wiI A w a s0 = s → J G X 153 [vr 40 0 0, vi w, vi s.1, vi s.2.1, vi s.2.2, vi a, c] [] M) : ∀ i, a + 1 ≤ i → i ≤ A 1 → ∀ M s, FrM T48 m0 M → okT s → wiI A w a s0 = rfI (fun b s => wiT A w a b s) i (A 1) s → J G X 59 [vr 40 0 0, vi w, vi s.1, vi s.2.1, vi s.2.2, vi a, vi i] [] M := by
  have h0 := hI.1
  refine up_to (fun i h1 h2 ih M s hfr hs he => ?_)
  have hA' := hfr.a42 hA T48_42
  refine J_iload hX rfl dX10_with_59 ?_
  refine J_aloadN hX rfl rfl dX10_with_61 ?_
  refine G_HalfHereModel_s hX dX10_with_62 mF_X10_13 ?_
  refine J_iconst hX (by decide) dX10_with_65 ?_
  refine L_42 hX (by omega) dX10_with_66 ?_
  rw [hA']
  refine J_icmp_ge (tgt := 153) hX (by decide) dX10_with_67 (fun h3 => ?_) (fun h3 => ?_)
  · exact K153 M s _ hfr hs (by rw [he, rfI_0 (by omega)])
  · have hi : inN i (A 1) := ⟨by omega, by omega⟩
    have ga := (hI.2.2.1 a ha).2.2
    have gi := (hI.2.2.1 i hi).2.2
    have ok := wi_ok hI hw ha hi
    have wb := wiW_b hI hw ha hi
    have okn := okT_T hI hw ha hi hs
    rw [rfI_s (by omega)] at he
    have nx := fun M' hfr' => ih (by omega) M' _ hfr' okn he
    have K127 : ∀ M', FrM T48 m0 M' → M' 40 0 0 12 = (wiW A w a i).1 → M' 40 0 0 13 = (wiW A w a i).2 → ¬ (0 ≤ s.1 ∧ (wiW A w a i).1 * s.2.2 ≤ s.2.1 * (wiW A w a i).2) → J G X 127 [vr 40 0 0, vi w, vi s.1, vi s.2.1, vi s.2.2, vi a, vi i] [] M' := fun M' hfr' e1 e2 hn => by
      have e : wiT A w a i s = (10 * a + i, (wiW A w a i).1, (wiW A w a i).2) := if_neg hn
      have nx' := nx M' hfr'
      rw [e] at nx'
      refine J_bipush hX (by decide) dX10_with_127 ?_
      refine J_iload hX rfl dX10_with_129 ?_
      refine J_imul hX (fun _ _ => by omega) dX10_with_131 ?_
      refine J_iload hX rfl dX10_with_132 ?_
      refine J_iadd hX (fun _ _ => by omega) dX10_with_134 ?_
      refine siN_2 hX dX10_with_135 ?_
      refine J_aloadN hX rfl rfl dX10_with_136 ?_
      refine G_HalfHereModel_above hX dX10_with_137 mF_X10_165 ?_
      refine siN_3 hX dX10_with_140 ?_
      refine J_aloadN hX rfl rfl dX10_with_141 ?_
      refine G_HalfHereModel_below hX dX10_with_142 mF_X10_168 ?_
      refine si_4 hX dX10_with_145 ?_
      rw [e1, e2]
      refine sinc_6 hX (fun _ => by omega) dX10_with_147 ?_
      refine J_goto (tgt := 59) hX (by decide) dX10_with_150 ?_
      exact nx'
    refine J_aloadN hX rfl rfl dX10_with_70 ?_
    refine cV0u hX cb_X10_begins mL_X10_151 dX10_with_71 (c_begins) (fun m2 hm2 => ?_)
    have hfr2 := hfr.tr hm2.1
    refine J_aloadN hX rfl rfl dX10_with_74 ?_
    refine J_iconst hX (by decide) dX10_with_75 ?_
    refine J_iload hX rfl dX10_with_76 ?_
    refine J_bipush hX (by decide) dX10_with_78 ?_
    refine J_iconst hX (by decide) dX10_with_80 ?_
    refine cV4u hX cb_X10_gives mL_X10_154 dX10_with_81 (c_gives (hfr2.a42 hA T48_42) hm2.2 (fun k hk => by omega) (by omega) (by omega) ga (by omega) (by omega)) (fun m3 hm3 => ?_)
    have hfr3 := hfr2.tr hm3.1
    refine J_aloadN hX rfl rfl dX10_with_84 ?_
    refine J_iconst hX (by decide) dX10_with_85 ?_
    refine J_iload hX rfl dX10_with_86 ?_
    refine J_bipush hX (by decide) dX10_with_88 ?_
    refine J_iconst hX (by decide) dX10_with_90 ?_
    refine cV4u hX cb_X10_gives mL_X10_154 dX10_with_91 (c_gives (hfr3.a42 hA T48_42) hm3.2 (fun k hk => by have := gv_b (κ := 3) (w := k) (ga k hk) (t := 12) (by omega) (τ := 0) (by omega); show 0 ≤ 0 + gv 3 k (aG A a k) 12 0 ∧ 0 + gv 3 k (aG A a k) 12 0 ≤ 38000; omega) (orI_b (by omega) (p2_b (by omega)).1) (by omega) gi (by omega) (by omega)) (fun m4 hm4 => ?_)
    have hfr4 := hfr3.tr hm4.1
    have hr4 : RelM m4 (wiS A (aW A w 0) a i) (wiH a i) := ⟨hm4.2.1, fun k hk => by rw [hm4.2.2 k hk, hκ]; unfold wiS; show 0 + gv 3 k (aG A a k) 12 0 + gv 3 k (aG A i k) 12 0 = _; omega⟩
    refine J_aloadN hX rfl rfl dX10_with_94 ?_
    refine J_iloadN hX rfl rfl dX10_with_95 ?_
    refine cV1u hX cb_X10_findsWell mL_X10_171 dX10_with_96 (c_findsWell (hfr4.a42 hA T48_42) hr4 (by omega) ok.1 ok.2) (fun m5 hm5 => ?_)
    have hfr5 := hfr4.tr hm5.1
    have e1 : m5 40 0 0 12 = (wiW A w a i).1 := hm5.2.2.1
    have e2 : m5 40 0 0 13 = (wiW A w a i).2 := hm5.2.2.2
    refine J_iloadN hX rfl rfl dX10_with_99 ?_
    refine J_if_lt (tgt := 127) hX (by decide) dX10_with_100 (fun h4 => ?_) (fun h4 => ?_)
    · exact K127 m5 hfr5 e1 e2 (fun q => by have := q.1; omega)
    · have p1 := mul_b (x := (wiW A w a i).1) (y := s.2.2) (a := 60000) (b := 2400) wb.1 ⟨by have := hs.2.2; omega, hs.2.2.2⟩
      have p2' := mul_b (x := s.2.1) (y := (wiW A w a i).2) (a := 60000) (b := 2400) hs.2.1 ⟨by have := wb.2; omega, wb.2.2⟩
      refine J_aloadN hX rfl rfl dX10_with_103 ?_
      refine G_HalfHereModel_above hX dX10_with_104 mF_X10_165 ?_
      rw [e1]
      refine J_i2l hX dX10_with_107 ?_
      refine J_iload hX rfl dX10_with_108 ?_
      refine J_i2l hX dX10_with_110 ?_
      refine J_lmul hX (fun _ _ => by omega) dX10_with_111 ?_
      refine J_iloadN hX rfl rfl dX10_with_112 ?_
      refine J_i2l hX dX10_with_113 ?_
      refine J_aloadN hX rfl rfl dX10_with_114 ?_
      refine G_HalfHereModel_below hX dX10_with_115 mF_X10_168 ?_
      rw [e2]
      refine J_i2l hX dX10_with_118 ?_
      refine J_lmul hX (fun _ _ => by omega) dX10_with_119 ?_
      refine J_lcmp hX dX10_with_120 ?_
      refine J_if_gt (tgt := 127) hX (by decide) dX10_with_121 (fun h5 => ?_) (fun h5 => ?_)
      · exact K127 m5 hfr5 e1 e2 (fun q => by have := gt_cmp.mp h5; omega)
      · have e : wiT A w a i s = s := if_pos ⟨by omega, by have := gt_cmp (x := (wiW A w a i).1 * s.2.2) (y := s.2.1 * (wiW A w a i).2); omega⟩
        have nx' := nx m5 hfr5
        rw [e] at nx'
        refine J_goto (tgt := 147) hX (by decide) dX10_with_124 ?_
        refine sinc_6 hX (fun _ => by omega) dX10_with_147 ?_
        refine J_goto (tgt := 59) hX (by decide) dX10_with_150 ?_
        exact nx'
theorem l_with2 {m0 : HM} (hX : Ok_X10_with G X 5) (hA : m0 42 0 0 = A) (hI : InvA A C D) (hw : inN w (A 2)) (hκ : aW A w 0 = 3) (hR0 : JRt G X (pi (anQ m0 (rfWith A w) (withA A w) (FrQ m0))) (some .int)) : ∀ i, 0 ≤ i → i ≤ A 1 → ∀ M s c, FrM T48 m0 M → okT s → rfI (fun a s => wiI A w a s) 0 (A 1) (-9, 0, 1) = rfI (fun a s => wiI A w a s) i (A 1) s → J G X 42 [vr 40 0 0, vi w, vi s.1, vi s.2.1, vi s.2.2, vi i, c] [] M := by
  have h0 := hI.1
  refine up_to (fun i h1 h2 ih M s c hfr hs he => ?_)
  have hA' := hfr.a42 hA T48_42
  refine J_iload hX rfl dX10_with_42 ?_
  refine J_aloadN hX rfl rfl dX10_with_44 ?_
  refine G_HalfHereModel_s hX dX10_with_45 mF_X10_13 ?_
  refine J_iconst hX (by decide) dX10_with_48 ?_
  refine L_42 hX (by omega) dX10_with_49 ?_
  rw [hA']
  refine J_icmp_ge (tgt := 159) hX (by decide) dX10_with_50 (fun h3 => ?_) (fun h3 => ?_)
  · refine J_iloadN hX rfl rfl dX10_with_159 ?_
    exact J_iret hX hR0 dX10_with_160 (anQ.yes (by unfold rfWith; rw [if_pos hw, if_pos hκ]) (by unfold withA; rw [he, rfI_0 (by omega)]) (hfr.q T48q))
  · have hi : inN i (A 1) := ⟨by omega, by omega⟩
    rw [rfI_s (i := i) (by omega)] at he
    refine J_iload hX rfl dX10_with_53 ?_
    refine J_iconst hX (by decide) dX10_with_55 ?_
    refine J_iadd hX (fun _ _ => by omega) dX10_with_56 ?_
    refine si_6 hX dX10_with_57 ?_
    refine l_with1 (s0 := s) hX hA hI hw hκ hi (fun M' s' c' hfr' hs' e' => ?_) (i + 1) (by omega) (by omega) M s hfr hs rfl
    rw [e'] at he
    refine sinc_5 hX (fun _ => by omega) dX10_with_153 ?_
    refine J_goto (tgt := 42) hX (by decide) dX10_with_156 ?_
    exact ih (by omega) M' s' _ hfr' hs' he
theorem c_mwith (hA : m 42 0 0 = A) (hI : InvA A C D) (hf : few41 m) : K_X10_with G [vr 40 0 0, vi w] m (pi (anQ m (rfWith A w) (withA A w) (FrQ m))) := by
  refine E_X10_with (fun X hX hR0 _ _ => ?_)
  have h0 := hI.1
  refine J_aloadN hX rfl rfl dX10_with_0 ?_
  refine J_iloadN hX rfl rfl dX10_with_1 ?_
  refine cV1w hX cb_X10_isWork mL_X10_115 dX10_with_2 (c_isWork hA) ?_
  refine J_ifb_ne (tgt := 14) hX (by decide) dX10_with_5 (fun h1 => ?_) (fun h1 => ?_)
  · refine J_aloadN hX rfl rfl dX10_with_14 ?_
    refine J_iloadN hX rfl rfl dX10_with_15 ?_
    refine J_iconst hX (by decide) dX10_with_16 ?_
    refine cV2w hX cb_X10_of mL_X10_118 dX10_with_17 (c_of hA (by omega) (by omega)) ?_
    refine J_iconst hX (by decide) dX10_with_20 ?_
    refine J_icmp_eq (tgt := 31) hX (by decide) dX10_with_21 (fun h2 => ?_) (fun h2 => ?_)
    · refine J_bipush hX (by decide) dX10_with_31 ?_
      refine siN_2 hX dX10_with_33 ?_
      refine J_iconst hX (by decide) dX10_with_34 ?_
      refine siN_3 hX dX10_with_35 ?_
      refine J_iconst hX (by decide) dX10_with_36 ?_
      refine si_4 hX dX10_with_37 ?_
      refine J_iconst hX (by decide) dX10_with_39 ?_
      refine si_5 hX dX10_with_40 ?_
      exact l_with2 hX hA hI h1 h2 hR0 0 (by omega) (by omega) m (-9, 0, 1) _ FrM.rf ⟨by show (-9 : Int) ≤ -9 ∧ (-9 : Int) ≤ 60; omega, by show (0 : Int) ≤ 0 ∧ (0 : Int) ≤ 60000; omega, by show (1 : Int) ≤ 1 ∧ (1 : Int) ≤ 2400; omega⟩ rfl
    · refine J_aloadN hX rfl rfl dX10_with_24 ?_
      refine J_bipush hX (by decide) dX10_with_25 ?_
      refine cV1w hX cb_X10_refuse mL_X10_62 dX10_with_27 (c_mrefuse (by omega) (hf _ (by omega))) ?_
      exact J_iret hX hR0 dX10_with_30 (anQ.no (by unfold rfWith; rw [if_pos h1, if_neg h2]) (by omega))
  · refine J_aloadN hX rfl rfl dX10_with_8 ?_
    refine J_iconst hX (by decide) dX10_with_9 ?_
    refine cV1w hX cb_X10_refuse mL_X10_62 dX10_with_10 (c_mrefuse (by omega) (hf _ (by omega))) ?_
    exact J_iret hX hR0 dX10_with_13 (anQ.no (by unfold rfWith; rw [if_neg h1]) (by omega))
def rfThin (A : Int → Int) (p : Int) : Int := if inN p (A 1) then 0 else -1
theorem c_mthin (hA : m 42 0 0 = A) (hI : InvA A C D) (hf : few41 m) : K_X10_thin G [vr 40 0 0, vi p] m (pi (anQ m (rfThin A p) (12 / aG A p 3) (FrQ m))) := by
  refine E_X10_thin (fun X hX hR0 _ _ => ?_)
  have h0 := hI.1
  refine J_aloadN hX rfl rfl dX10_thin_0 ?_
  refine J_iloadN hX rfl rfl dX10_thin_1 ?_
  refine cV1w hX cb_X10_isPerson mL_X10_103 dX10_thin_2 (c_isPerson hA) ?_
  refine J_ifb_eq (tgt := 20) hX (by decide) dX10_thin_5 (fun h1 => ?_) (fun h1 => ?_)
  · refine J_aloadN hX rfl rfl dX10_thin_20 ?_
    refine J_iconst hX (by decide) dX10_thin_21 ?_
    refine cV1w hX cb_X10_refuse mL_X10_62 dX10_thin_22 (c_mrefuse (by omega) (hf _ (by omega))) ?_
    exact J_iret hX hR0 dX10_thin_25 (anQ.no (if_neg h1) (by omega))
  · have hl := hI.2.2.1 p h1
    have hd : (12 : Int).tdiv (aG A p 3) = 12 / aG A p 3 := Int.tdiv_eq_ediv_of_nonneg (by omega)
    have hb1 := Int.ediv_nonneg (show (0 : Int) ≤ 12 by omega) (show 0 ≤ aG A p 3 by omega)
    have hb2 := Int.ediv_le_self (aG A p 3) (show (0 : Int) ≤ 12 by omega)
    refine J_bipush hX (by decide) dX10_thin_8 ?_
    refine J_aloadN hX rfl rfl dX10_thin_10 ?_
    refine J_iloadN hX rfl rfl dX10_thin_11 ?_
    refine J_iconst hX (by decide) dX10_thin_12 ?_
    refine cV2w hX cb_X10_get mL_X10_106 dX10_thin_13 (c_get hA (by omega) (by omega)) ?_
    refine J_idiv hX (fun _ _ => by omega) (fun _ _ => by rw [hd]; omega) dX10_thin_16 ?_
    refine J_goto (tgt := 25) hX (by decide) dX10_thin_17 ?_
    exact J_iret hX hR0 dX10_thin_25 (anQ.yes (if_pos h1) hd FrQ.rf)
def fewP (A : Int → Int) (p w t : Int) : Prop := doneS (aW A w 0) (nW A w) (fun k => gv 0 k (aG A p k) t 0) (orI 0 (p2 p))
noncomputable def fewA (A : Int → Int) (p w : Int) : Int := fstI (fewP A p w) (-9) (aG A p 3) 13
def rfFew (A : Int → Int) (p w : Int) : Int := if inN p (A 1) ∧ inN w (A 2) then (if aW A w 0 = 0 then 0 else -2) else -1
theorem l_few (hX : Ok_X10_few G X 6) (hA : m 42 0 0 = A) (hI : InvA A C D) (hp : inN p (A 1)) (hw : inN w (A 2)) (hR0 : JRt G X (pi (anQ m (rfFew A p w) (fewA A p w) (FrQ m))) (some .int)) (hrf : rfFew A p w = 0) : ∀ i, aG A p 3 ≤ i → i ≤ 13 → ∀ M, FrM T48 m M → fewA A p w = fstI (fewP A p w) (-9) i 13 → J G X 45 [vr 40 0 0, vi p, vi w, vi i] [] M := by
  have h0 := hI.1
  have hl := hI.2.2.1 p hp
  refine up_to (fun i h1 h2 ih M hfr he => ?_)
  refine J_iloadN hX rfl rfl dX10_few_45 ?_
  refine J_bipush hX (by decide) dX10_few_46 ?_
  refine J_icmp_gt (tgt := 79) hX (by decide) dX10_few_48 (fun h3 => ?_) (fun h3 => ?_)
  · refine J_bipush hX (by decide) dX10_few_79 ?_
    exact J_iret hX hR0 dX10_few_81 (anQ.yes hrf (by rw [he, fstI_0 (by omega)]) (hfr.q T48q))
  · have gb := fun k hk => gv_b (κ := 0) (w := k) (hl.2.2 k hk) (t := i) (by omega) (τ := 0) (by omega)
    have hN := fun k hk => (hI.2.2.2.1 w hw).2.2.2 k hk
    refine J_aloadN hX rfl rfl dX10_few_51 ?_
    refine cV0u hX cb_X10_begins mL_X10_151 dX10_few_52 (c_begins) (fun m2 hm2 => ?_)
    have hfr2 := hfr.tr hm2.1
    refine J_aloadN hX rfl rfl dX10_few_55 ?_
    refine J_iconst hX (by decide) dX10_few_56 ?_
    refine J_iloadN hX rfl rfl dX10_few_57 ?_
    refine J_iloadN hX rfl rfl dX10_few_58 ?_
    refine J_iconst hX (by decide) dX10_few_59 ?_
    refine cV4u hX cb_X10_gives mL_X10_154 dX10_few_60 (c_gives (hfr2.a42 hA T48_42) hm2.2 (fun k hk => by omega) (by omega) (by omega) hl.2.2 (by omega) (by omega)) (fun m3 hm3 => ?_)
    have hfr3 := hfr2.tr hm3.1
    have hr3 : RelM m3 (fun k => gv 0 k (aG A p k) i 0) (orI 0 (p2 p)) := ⟨hm3.2.1, fun k hk => by rw [hm3.2.2 k hk]; exact Int.zero_add _⟩
    refine J_aloadN hX rfl rfl dX10_few_63 ?_
    refine J_iloadN hX rfl rfl dX10_few_64 ?_
    refine cV1i hX cb_X10_isDoneNow mL_X10_180 dX10_few_65 (c_isDoneNow (hfr3.a42 hA T48_42) hr3 (by omega) (fun k hk => ⟨hN k hk, by have := gb k hk; omega⟩) (orI_b (by omega) (p2_b (by omega)).1)) (fun r m4 hm4 => ?_)
    obtain ⟨rfl, hf4, -⟩ := hm4
    have eP : doneS (aW A w 0) (nW A w) (fun k => gv 0 k (aG A p k) i 0) (orI 0 (p2 p)) = fewP A p w i := rfl
    rw [eP]
    refine J_ifb_eq (tgt := 73) hX (by decide) dX10_few_68 (fun h4 => ?_) (fun h4 => ?_)
    · refine sinc_3 hX (fun _ => by omega) dX10_few_73 ?_
      refine J_goto (tgt := 45) hX (by decide) dX10_few_76 ?_
      exact ih (by omega) m4 (hfr3.tr hf4) (by rw [he, fstI_f (by omega) h4])
    · refine J_iloadN hX rfl rfl dX10_few_71 ?_
      exact J_iret hX hR0 dX10_few_72 (anQ.yes hrf (by rw [he, fstI_t (by omega) h4]) ((hfr3.tr hf4).q T48q))
theorem c_mfew (hA : m 42 0 0 = A) (hI : InvA A C D) (hf : few41 m) : K_X10_few G [vr 40 0 0, vi p, vi w] m (pi (anQ m (rfFew A p w) (fewA A p w) (FrQ m))) := by
  refine E_X10_few (fun X hX hR0 _ _ => ?_)
  have h0 := hI.1
  have no : ¬ (inN p (A 1) ∧ inN w (A 2)) → J G X 16 [vr 40 0 0, vi p, vi w, vx] [] m := fun h2 => by
    refine J_aloadN hX rfl rfl dX10_few_16 ?_
    refine J_iconst hX (by decide) dX10_few_17 ?_
    refine cV1w hX cb_X10_refuse mL_X10_62 dX10_few_18 (c_mrefuse (by omega) (hf _ (by omega))) ?_
    exact J_iret hX hR0 dX10_few_21 (anQ.no (by unfold rfFew; rw [if_neg h2]) (by omega))
  refine J_aloadN hX rfl rfl dX10_few_0 ?_
  refine J_iloadN hX rfl rfl dX10_few_1 ?_
  refine cV1w hX cb_X10_isPerson mL_X10_103 dX10_few_2 (c_isPerson hA) ?_
  refine J_ifb_eq (tgt := 16) hX (by decide) dX10_few_5 (fun h2 => ?_) (fun h2 => ?_)
  · exact no (fun q => h2 q.1)
  · refine J_aloadN hX rfl rfl dX10_few_8 ?_
    refine J_iloadN hX rfl rfl dX10_few_9 ?_
    refine cV1w hX cb_X10_isWork mL_X10_115 dX10_few_10 (c_isWork hA) ?_
    refine J_ifb_ne (tgt := 22) hX (by decide) dX10_few_13 (fun h3 => ?_) (fun h3 => ?_)
    · have hl := hI.2.2.1 p h2
      refine J_aloadN hX rfl rfl dX10_few_22 ?_
      refine J_iloadN hX rfl rfl dX10_few_23 ?_
      refine J_iconst hX (by decide) dX10_few_24 ?_
      refine cV2w hX cb_X10_of mL_X10_118 dX10_few_25 (c_of hA (by omega) (by omega)) ?_
      refine J_if_eq (tgt := 38) hX (by decide) dX10_few_28 (fun h4 => ?_) (fun h4 => ?_)
      · refine J_aloadN hX rfl rfl dX10_few_38 ?_
        refine J_iloadN hX rfl rfl dX10_few_39 ?_
        refine J_iconst hX (by decide) dX10_few_40 ?_
        refine cV2w hX cb_X10_get mL_X10_106 dX10_few_41 (c_get hA (by omega) (by omega)) ?_
        refine siN_3 hX dX10_few_44 ?_
        exact l_few hX hA hI h2 h3 hR0 (by unfold rfFew; rw [if_pos ⟨h2, h3⟩, if_pos h4]) (aG A p 3) (Int.le_refl _) (by omega) m FrM.rf rfl
      · refine J_aloadN hX rfl rfl dX10_few_31 ?_
        refine J_bipush hX (by decide) dX10_few_32 ?_
        refine cV1w hX cb_X10_refuse mL_X10_62 dX10_few_34 (c_mrefuse (by omega) (hf _ (by omega))) ?_
        exact J_iret hX hR0 dX10_few_37 (anQ.no (by unfold rfFew; rw [if_pos ⟨h2, h3⟩, if_neg h4]) (by omega))
    · exact no (fun q => h3 q.2)
end Mod
