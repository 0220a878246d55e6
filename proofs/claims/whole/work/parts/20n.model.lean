/-! ===== 20n: the reference: together, known, chance ===== -/
noncomputable def rfKT (A : Int → Int) (p x : Int) : Int := if inN p (A 1) then (if inN x 2 then (if cntI (fun i => aOf A i p) 24 = 0 then -3 else 0) else -2) else -1
noncomputable def tgT (A : Int → Int) (p y : Int) (s : Int × Int) : Int × Int := if 1000000 ≤ momA A p y ∨ (0 ≤ s.1 ∧ s.2 ≤ momA A p y) then s else (y, momA A p y)
noncomputable def tgW (A : Int → Int) (p : Int) : Int × Int := rfI (tgT A p) 0 (A 0) (-9, 0)
noncomputable def tgA (A : Int → Int) (p x : Int) : Int := if (tgW A p).1 < 0 ∨ x = 1 then (tgW A p).1 else (tgW A p).2
noncomputable def knN (A : Int → Int) (op : Int → Int → Int) (z p : Int) : Nat → Int
  | 0 => z
  | n + 1 => ifP (aOf A n p) (op (knN A op z p n) (aP A n 6)) (knN A op z p n)
noncomputable def knI (A : Int → Int) (op : Int → Int → Int) (z p n : Int) : Int := knN A op z p n.toNat
theorem knI_s {A : Int → Int} {op : Int → Int → Int} {z p n : Int} (h : 0 ≤ n) : knI A op z p (n + 1) = ifP (aOf A n p) (op (knI A op z p n) (aP A n 6)) (knI A op z p n) := by
  unfold knI
  rw [show (n + 1).toNat = n.toNat + 1 by omega]
  show ifP (aOf A (n.toNat : Int) p) (op (knN A op z p n.toNat) (aP A (n.toNat : Int) 6)) (knN A op z p n.toNat) = _
  rw [Int.toNat_of_nonneg h]
theorem knI_b {A : Int → Int} {C D z p n : Int} {op : Int → Int → Int} (hI : InvA A C D) (hop : ∀ a b, inN a 64 → inN b 64 → inN (op a b) 64) (hz : inN z 64) (h : 0 ≤ n) (h2 : n ≤ 24) : inN (knI A op z p n) 64 := by
  obtain ⟨j, rfl⟩ : ∃ j : Nat, n = j := ⟨n.toNat, by omega⟩
  clear h
  induction j with
  | zero => exact hz
  | succ j ih =>
    have := ih (by omega)
    rw [show ((j + 1 : Nat) : Int) = (j : Int) + 1 by omega, knI_s (by omega)]
    by_cases q : aOf A j p
    · rw [ifP_pos q]
      have h1 := (hI.part q.1).2.2.2.2.2.2
      exact hop _ _ this (by omega)
    · rw [ifP_neg q]
      exact this
noncomputable def knA (A : Int → Int) (p x : Int) : Int := if x = 0 then knI A orI 0 p 24 else knI A anI 63 p 24
section Mod
variable {G : GC} {X : JX} {m : HM} {κ p t τ w x y z i k q b : Int} {A N S g F B W : Int → Int} {H C D : Int}
theorem l_mknown (hX : Ok_X10_known G X 4) (hA : m 42 0 0 = A) (hI : InvA A C D) (hp : inN p (A 1)) (hrf : rfKT A p x = 0) (hx : inN x 2) (hR0 : JRt G X (pi (anQ m (rfKT A p x) (knA A p x) (FrQ m))) (some .int)) : ∀ i, 0 ≤ i → i ≤ 24 → J G X 60 [vr 40 0 0, vi p, vi x, vi 0, vi (knI A orI 0 p i), vi (knI A anI 63 p i), vi i] [] m := by
  have h0 := hI.1
  refine up_to (fun i h1 h2 ih => ?_)
  have b1 := knI_b (z := 0) (p := p) hI (fun a b ha hb => orI_b ha hb) (by omega) h1 h2
  have b2 := knI_b (z := 63) (p := p) hI (fun a b ha hb => anI_b ha hb) (by omega) h1 h2
  refine J_iload hX rfl dX10_known_60 ?_
  refine J_bipush hX (by decide) dX10_known_62 ?_
  refine J_icmp_ge (tgt := 115) hX (by decide) dX10_known_64 (fun h3 => ?_) (fun h3 => ?_)
  · have e : i = 24 := by omega
    subst e
    refine J_iloadN hX rfl rfl dX10_known_115 ?_
    refine J_if_ne (tgt := 124) hX (by decide) dX10_known_116 (fun h4 => ?_) (fun h4 => ?_)
    · refine J_iload hX rfl dX10_known_124 ?_
      exact J_iret hX hR0 dX10_known_126 (anQ.yes hrf (by unfold knA; rw [if_neg h4]) FrQ.rf)
    · refine J_iload hX rfl dX10_known_119 ?_
      refine J_goto (tgt := 126) hX (by decide) dX10_known_121 ?_
      exact J_iret hX hR0 dX10_known_126 (anQ.yes hrf (by unfold knA; rw [if_pos h4]) FrQ.rf)
  · have hi : inN i 24 := ⟨h1, h3⟩
    have nx := ih h3
    rw [knI_s h1, knI_s h1] at nx
    refine J_aloadN hX rfl rfl dX10_known_67 ?_
    refine J_iload hX rfl dX10_known_68 ?_
    refine J_iconst hX (by decide) dX10_known_70 ?_
    refine cV2w hX cb_X10_part mL_X10_50 dX10_known_71 (c_part hA hi (by omega)) ?_
    refine J_iloadN hX rfl rfl dX10_known_74 ?_
    refine J_iconst hX (by decide) dX10_known_75 ?_
    refine J_iadd hX (fun _ _ => by omega) dX10_known_76 ?_
    refine J_icmp_eq (tgt := 83) hX (by decide) dX10_known_77 (fun h4 => ?_) (fun h4 => ?_)
    · have ho : aOf A i p := (aOf_iff hp.1 hi).mpr h4
      rw [ifP_pos ho, ifP_pos ho] at nx
      have h5 := (hI.part ho.1).2.2.2.2.2.2
      refine J_iload hX rfl dX10_known_83 ?_
      refine J_aloadN hX rfl rfl dX10_known_85 ?_
      refine J_iload hX rfl dX10_known_86 ?_
      refine J_bipush hX (by decide) dX10_known_88 ?_
      refine cV2w hX cb_X10_part mL_X10_50 dX10_known_90 (c_part hA hi (by omega)) ?_
      refine J_ior hX (fun _ _ => sd_or b1 (by omega)) dX10_known_93 ?_
      refine si_4 hX dX10_known_94 ?_
      refine J_iload hX rfl dX10_known_96 ?_
      refine J_aloadN hX rfl rfl dX10_known_98 ?_
      refine J_iload hX rfl dX10_known_99 ?_
      refine J_bipush hX (by decide) dX10_known_101 ?_
      refine cV2w hX cb_X10_part mL_X10_50 dX10_known_103 (c_part hA hi (by omega)) ?_
      refine J_iand hX (fun _ _ => sd_and b2 (by omega)) dX10_known_106 ?_
      refine si_5 hX dX10_known_107 ?_
      refine sinc_6 hX (fun _ => by omega) dX10_known_109 ?_
      refine J_goto (tgt := 60) hX (by decide) dX10_known_112 ?_
      exact nx
    · have ho : ¬ aOf A i p := fun q => h4 ((aOf_iff hp.1 hi).mp q)
      rw [ifP_neg ho, ifP_neg ho] at nx
      refine J_goto (tgt := 109) hX (by decide) dX10_known_80 ?_
      refine sinc_6 hX (fun _ => by omega) dX10_known_109 ?_
      refine J_goto (tgt := 60) hX (by decide) dX10_known_112 ?_
      exact nx
theorem c_mknown (hA : m 42 0 0 = A) (hI : InvA A C D) (hf : few41 m) : K_X10_known G [vr 40 0 0, vi p, vi x] m (pi (anQ m (rfKT A p x) (knA A p x) (FrQ m))) := by
  refine E_X10_known (fun X hX hR0 _ _ => ?_)
  have h0 := hI.1
  have no : ∀ r, r = rfKT A p x → r ≠ 0 → -6 ≤ r ∧ r ≤ -1 → J G X 39 [vr 40 0 0, vi p, vi x, vx, vx, vx, vx] [vi r] m := fun r hr hr0 hrb => by
    refine siN_3 hX dX10_known_39 ?_
    refine J_iloadN hX rfl rfl dX10_known_40 ?_
    refine J_if_eq (tgt := 50) hX (by decide) dX10_known_41 (fun h1 => ?_) (fun h1 => ?_)
    · exact absurd h1 hr0
    · refine J_aloadN hX rfl rfl dX10_known_44 ?_
      refine J_iloadN hX rfl rfl dX10_known_45 ?_
      refine cV1w hX cb_X10_refuse mL_X10_62 dX10_known_46 (c_mrefuse (by omega) (hf _ (by omega))) ?_
      exact J_iret hX hR0 dX10_known_49 (anQ.no hr.symm hr0)
  refine J_aloadN hX rfl rfl dX10_known_0 ?_
  refine J_iloadN hX rfl rfl dX10_known_1 ?_
  refine cV1w hX cb_X10_isPerson mL_X10_103 dX10_known_2 (c_isPerson hA) ?_
  refine J_ifb_ne (tgt := 12) hX (by decide) dX10_known_5 (fun h1 => ?_) (fun h1 => ?_)
  · refine J_iloadN hX rfl rfl dX10_known_12 ?_
    refine J_iconst hX (by decide) dX10_known_13 ?_
    refine cS2w hX cb_X10_isIn mL_X10_46 dX10_known_14 (c_isIn) ?_
    refine J_ifb_ne (tgt := 25) hX (by decide) dX10_known_17 (fun h2 => ?_) (fun h2 => ?_)
    · refine J_aloadN hX rfl rfl dX10_known_25 ?_
      refine J_iloadN hX rfl rfl dX10_known_26 ?_
      refine cV1w hX cb_X10_partsOf mL_X10_112 dX10_known_27 (c_mpartsOf hA (by omega)) ?_
      refine J_if_ne (tgt := 38) hX (by decide) dX10_known_30 (fun h3 => ?_) (fun h3 => ?_)
      · refine J_iconst hX (by decide) dX10_known_38 ?_
        refine siN_3 hX dX10_known_39 ?_
        refine J_iloadN hX rfl rfl dX10_known_40 ?_
        refine J_if_eq (tgt := 50) hX (by decide) dX10_known_41 (fun h4 => ?_) (fun h4 => ?_)
        · refine J_iconst hX (by decide) dX10_known_50 ?_
          refine si_4 hX dX10_known_51 ?_
          refine J_bipush hX (by decide) dX10_known_53 ?_
          refine si_5 hX dX10_known_55 ?_
          refine J_iconst hX (by decide) dX10_known_57 ?_
          refine si_6 hX dX10_known_58 ?_
          refine l_mknown hX hA hI h1 (by unfold rfKT; rw [if_pos h1, if_pos h2, if_neg h3]) h2 hR0 0 (by omega) (by omega)
        · omega
      · refine J_bipush hX (by decide) dX10_known_33 ?_
        refine J_goto (tgt := 39) hX (by decide) dX10_known_35 ?_
        exact no _ (by unfold rfKT; rw [if_pos h1, if_pos h2, if_pos h3]) (by omega) (by omega)
    · refine J_bipush hX (by decide) dX10_known_20 ?_
      refine J_goto (tgt := 39) hX (by decide) dX10_known_22 ?_
      exact no _ (by unfold rfKT; rw [if_pos h1, if_neg h2]) (by omega) (by omega)
  · refine J_iconst hX (by decide) dX10_known_8 ?_
    refine J_goto (tgt := 39) hX (by decide) dX10_known_9 ?_
    exact no _ (by unfold rfKT; rw [if_neg h1]) (by omega) (by omega)
/-! together -/
theorem momF_b (hI : InvA A C D) (hC : C ≤ 900000) (hy : inN y 6) : 0 ≤ momF A p y i ∧ momF A p y i ≤ 1000000 := by
  unfold momF
  by_cases h : aOf A i p
  · rw [ifP_pos h]
    have h1 := hI.part h.1
    have h2 := okFn hI (n := 6) (by omega) (aP A i 2) y (hI.p6 h.1) hy
    by_cases q : 1000000 ≤ fwA A (aP A i 2) y
    · rw [ifP_pos q]; omega
    · rw [ifP_neg q]
      have h3 : fwA A (aP A i 2) y < 1000000 := by omega
      unfold fwA at *
      have := h2.2.2.1 h3
      omega
  · rw [ifP_neg h]; omega
theorem l_tog1 {s1 s2 : Int} (hX : Ok_X10_together G X 4) (hA : m 42 0 0 = A) (hI : InvA A C D) (hC : C ≤ 900000) (hp : inN p (A 1)) (hM : RelG m (fwA A)) (hy : inN y 6) (K159 : ∀ c d, J G X 159 [vr 40 0 0, vi p, vi x, vi 0, vi s1, vi s2, vi y, vi (momA A p y), c, d] [] m) : ∀ i, 0 ≤ i → i ≤ 24 → ∀ d, J G X 81 [vr 40 0 0, vi p, vi x, vi 0, vi s1, vi s2, vi y, vi (mxI (momF A p y) i), vi i, d] [] m := by
  have h0 := hI.1
  refine up_to (fun i h1 h2 ih d => ?_)
  refine J_iload hX rfl dX10_together_81 ?_
  refine J_bipush hX (by decide) dX10_together_83 ?_
  refine J_icmp_ge (tgt := 159) hX (by decide) dX10_together_85 (fun h3 => ?_) (fun h3 => ?_)
  · have e : i = 24 := by omega
    subst e
    exact K159 _ _
  · have hi : inN i 24 := ⟨h1, h3⟩
    have nx := ih h3
    have es : mxI (momF A p y) (i + 1) = max (mxI (momF A p y) i) (momF A p y i) := mxI_s h1
    rw [es] at nx
    have hn := mxI_nn (momF A p y) i
    refine J_aloadN hX rfl rfl dX10_together_88 ?_
    refine J_iload hX rfl dX10_together_89 ?_
    refine J_iconst hX (by decide) dX10_together_91 ?_
    refine cV2w hX cb_X10_part mL_X10_50 dX10_together_92 (c_part hA hi (by omega)) ?_
    refine J_iloadN hX rfl rfl dX10_together_95 ?_
    refine J_iconst hX (by decide) dX10_together_96 ?_
    refine J_iadd hX (fun _ _ => by omega) dX10_together_97 ?_
    refine J_icmp_eq (tgt := 104) hX (by decide) dX10_together_98 (fun h4 => ?_) (fun h4 => ?_)
    · have ho : aOf A i p := (aOf_iff hp.1 hi).mpr h4
      have hpt := hI.part ho.1
      have hp6 := hI.p6 ho.1
      have hfw := okFn hI (n := 6) (by omega) (aP A i 2) y hp6 hy
      have e : m 47 0 0 (6 * aP A i 2 + y) = fwA A (aP A i 2) y := hM _ _ hp6 hy
      have hfwe : fwA A = fwK A 6 := rfl
      rw [← hfwe] at hfw
      refine J_aloadN hX rfl rfl dX10_together_104 ?_
      refine G_HalfHereModel_far hX dX10_together_105 mF_X10_28 ?_
      refine J_bipush hX (by decide) dX10_together_108 ?_
      refine J_aloadN hX rfl rfl dX10_together_110 ?_
      refine J_iload hX rfl dX10_together_111 ?_
      refine J_iconst hX (by decide) dX10_together_113 ?_
      refine cV2w hX cb_X10_part mL_X10_50 dX10_together_114 (c_part hA hi (by omega)) ?_
      refine J_imul hX (fun _ _ => by omega) dX10_together_117 ?_
      refine J_iload hX rfl dX10_together_118 ?_
      refine J_iadd hX (fun _ _ => by omega) dX10_together_120 ?_
      refine L_47 hX (by omega) dX10_together_121 ?_
      rw [e]
      refine si_9 hX dX10_together_122 ?_
      refine J_iload hX rfl dX10_together_124 ?_
      refine J_iload hX rfl dX10_together_126 ?_
      refine J_ldc (n := 1000000) hX mQ_X10_121 rfl rfl (by decide) dX10_together_128 ?_
      refine J_icmp_lt (tgt := 138) hX (by decide) dX10_together_130 (fun h5 => ?_) (fun h5 => ?_)
      · refine J_aloadN hX rfl rfl dX10_together_138 ?_
        refine J_iload hX rfl dX10_together_139 ?_
        refine J_iconst hX (by decide) dX10_together_141 ?_
        refine cV2w hX cb_X10_part mL_X10_50 dX10_together_142 (c_part hA hi (by omega)) ?_
        have em : momF A p y i = aP A i 4 + fwA A (aP A i 2) y := by unfold momF; rw [ifP_pos ho, ifP_neg (by omega)]
        rw [em] at nx
        refine J_iload hX rfl dX10_together_145 ?_
        refine J_iadd hX (fun _ _ => by omega) dX10_together_147 ?_
        refine cS2w hX cb_X10_greater mL_X10_141 dX10_together_148 (c_greater) ?_
        refine si_7 hX dX10_together_151 ?_
        refine sinc_8 hX (fun _ => by omega) dX10_together_153 ?_
        refine J_goto (tgt := 81) hX (by decide) dX10_together_156 ?_
        exact nx _
      · refine J_ldc (n := 1000000) hX mQ_X10_121 rfl rfl (by decide) dX10_together_133 ?_
        refine J_goto (tgt := 148) hX (by decide) dX10_together_135 ?_
        have em : momF A p y i = 1000000 := by unfold momF; rw [ifP_pos ho, ifP_pos (by omega)]
        rw [em] at nx
        refine cS2w hX cb_X10_greater mL_X10_141 dX10_together_148 (c_greater) ?_
        refine si_7 hX dX10_together_151 ?_
        refine sinc_8 hX (fun _ => by omega) dX10_together_153 ?_
        refine J_goto (tgt := 81) hX (by decide) dX10_together_156 ?_
        exact nx _
    · have em : momF A p y i = 0 := by unfold momF; rw [ifP_neg (fun q => h4 ((aOf_iff hp.1 hi).mp q))]
      rw [em, show max (mxI (momF A p y) i) 0 = mxI (momF A p y) i by omega] at nx
      refine J_goto (tgt := 153) hX (by decide) dX10_together_101 ?_
      refine sinc_8 hX (fun _ => by omega) dX10_together_153 ?_
      refine J_goto (tgt := 81) hX (by decide) dX10_together_156 ?_
      exact nx _
theorem l_tog2 {m0 : HM} (hX : Ok_X10_together G X 4) (hA : m 42 0 0 = A) (hI : InvA A C D) (hC : C ≤ 900000) (hp : inN p (A 1)) (hM : RelG m (fwA A)) (hfr : FrM T47 m0 m) (hrf : rfKT A p x = 0) (hR0 : JRt G X (pi (anQ m0 (rfKT A p x) (tgA A p x) (FrQ m0))) (some .int)) : ∀ i, 0 ≤ i → i ≤ A 0 → ∀ s b c d, (s.1 = -9 ∨ 0 ≤ s.1) → tgW A p = rfI (tgT A p) i (A 0) s → J G X 64 [vr 40 0 0, vi p, vi x, vi 0, vi s.1, vi s.2, vi i, b, c, d] [] m := by
  have h0 := hI.1
  refine up_to (fun i h1 h2 ih s b c d hs he => ?_)
  refine J_iload hX rfl dX10_together_64 ?_
  refine J_aloadN hX rfl rfl dX10_together_66 ?_
  refine G_HalfHereModel_s hX dX10_together_67 mF_X10_13 ?_
  refine J_iconst hX (by decide) dX10_together_70 ?_
  refine L_42 hX (by omega) dX10_together_71 ?_
  rw [hA]
  refine J_icmp_ge (tgt := 195) hX (by decide) dX10_together_72 (fun h3 => ?_) (fun h3 => ?_)
  · rw [rfI_0 h3] at he
    refine J_iload hX rfl dX10_together_195 ?_
    refine J_if_lt (tgt := 205) hX (by decide) dX10_together_197 (fun h4 => ?_) (fun h4 => ?_)
    · refine J_iload hX rfl dX10_together_205 ?_
      refine J_goto (tgt := 212) hX (by decide) dX10_together_207 ?_
      exact J_iret hX hR0 dX10_together_212 (anQ.yes hrf (by unfold tgA; rw [he, if_pos (Or.inl h4)]) (hfr.q T47q))
    · refine J_iloadN hX rfl rfl dX10_together_200 ?_
      refine J_iconst hX (by decide) dX10_together_201 ?_
      refine J_icmp_ne (tgt := 210) hX (by decide) dX10_together_202 (fun h5 => ?_) (fun h5 => ?_)
      · refine J_iload hX rfl dX10_together_210 ?_
        exact J_iret hX hR0 dX10_together_212 (anQ.yes hrf (by unfold tgA; rw [he, if_neg (by omega)]) (hfr.q T47q))
      · refine J_iload hX rfl dX10_together_205 ?_
        refine J_goto (tgt := 212) hX (by decide) dX10_together_207 ?_
        exact J_iret hX hR0 dX10_together_212 (anQ.yes hrf (by unfold tgA; rw [he, if_pos (Or.inr h5)]) (hfr.q T47q))
  · rw [rfI_s (by omega)] at he
    refine J_iconst hX (by decide) dX10_together_75 ?_
    refine si_7 hX dX10_together_76 ?_
    refine J_iconst hX (by decide) dX10_together_78 ?_
    refine si_8 hX dX10_together_79 ?_
    refine l_tog1 hX hA hI hC hp hM (show inN i 6 by omega) (fun c d => ?_) 0 (by omega) (by omega) d
    have nx := fun s' hs' he' => ih (by omega) s' (vi (momA A p i)) c d hs' he'
    have mb : 0 ≤ momA A p i := mxI_nn _ _
    have K189 : tgT A p i s = s → J G X 189 [vr 40 0 0, vi p, vi x, vi 0, vi s.1, vi s.2, vi i, vi (momA A p i), c, d] [] m := fun e => by
      rw [e] at he
      refine sinc_6 hX (fun _ => by omega) dX10_together_189 ?_
      refine J_goto (tgt := 64) hX (by decide) dX10_together_192 ?_
      exact nx s hs he
    have K181 : tgT A p i s = (i, momA A p i) → J G X 181 [vr 40 0 0, vi p, vi x, vi 0, vi s.1, vi s.2, vi i, vi (momA A p i), c, d] [] m := fun e => by
      rw [e] at he
      refine J_iload hX rfl dX10_together_181 ?_
      refine si_4 hX dX10_together_183 ?_
      refine J_iload hX rfl dX10_together_185 ?_
      refine si_5 hX dX10_together_187 ?_
      refine sinc_6 hX (fun _ => by omega) dX10_together_189 ?_
      refine J_goto (tgt := 64) hX (by decide) dX10_together_192 ?_
      exact nx (i, momA A p i) (Or.inr h1) he
    refine J_iload hX rfl dX10_together_159 ?_
    refine J_ldc (n := 1000000) hX mQ_X10_121 rfl rfl (by decide) dX10_together_161 ?_
    refine J_icmp_ge (tgt := 189) hX (by decide) dX10_together_163 (fun h4 => ?_) (fun h4 => ?_)
    · exact K189 (if_pos (Or.inl h4))
    · refine J_iload hX rfl dX10_together_166 ?_
      refine J_if_lt (tgt := 181) hX (by decide) dX10_together_168 (fun h5 => ?_) (fun h5 => ?_)
      · exact K181 (if_neg (by omega))
      · refine J_iload hX rfl dX10_together_171 ?_
        refine J_iload hX rfl dX10_together_173 ?_
        refine J_icmp_lt (tgt := 181) hX (by decide) dX10_together_175 (fun h6 => ?_) (fun h6 => ?_)
        · exact K181 (if_neg (by omega))
        · refine J_goto (tgt := 189) hX (by decide) dX10_together_178 ?_
          exact K189 (if_pos (Or.inr ⟨by omega, by omega⟩))
theorem c_mtogether (hA : m 42 0 0 = A) (hI : InvA A C D) (hC : C ≤ 900000) (hf : few41 m) : K_X10_together G [vr 40 0 0, vi p, vi x] m (pi (anQ m (rfKT A p x) (tgA A p x) (FrQ m))) := by
  refine E_X10_together (fun X hX hR0 _ _ => ?_)
  have h0 := hI.1
  have no : ∀ r, r = rfKT A p x → r ≠ 0 → -6 ≤ r ∧ r ≤ -1 → J G X 39 [vr 40 0 0, vi p, vi x, vx, vx, vx, vx, vx, vx, vx] [vi r] m := fun r hr hr0 hrb => by
    refine siN_3 hX dX10_together_39 ?_
    refine J_iloadN hX rfl rfl dX10_together_40 ?_
    refine J_if_eq (tgt := 50) hX (by decide) dX10_together_41 (fun h1 => ?_) (fun h1 => ?_)
    · exact absurd h1 hr0
    · refine J_aloadN hX rfl rfl dX10_together_44 ?_
      refine J_iloadN hX rfl rfl dX10_together_45 ?_
      refine cV1w hX cb_X10_refuse mL_X10_62 dX10_together_46 (c_mrefuse (by omega) (hf _ (by omega))) ?_
      exact J_iret hX hR0 dX10_together_49 (anQ.no hr.symm hr0)
  refine J_aloadN hX rfl rfl dX10_together_0 ?_
  refine J_iloadN hX rfl rfl dX10_together_1 ?_
  refine cV1w hX cb_X10_isPerson mL_X10_103 dX10_together_2 (c_isPerson hA) ?_
  refine J_ifb_ne (tgt := 12) hX (by decide) dX10_together_5 (fun h1 => ?_) (fun h1 => ?_)
  · refine J_iloadN hX rfl rfl dX10_together_12 ?_
    refine J_iconst hX (by decide) dX10_together_13 ?_
    refine cS2w hX cb_X10_isIn mL_X10_46 dX10_together_14 (c_isIn) ?_
    refine J_ifb_ne (tgt := 25) hX (by decide) dX10_together_17 (fun h2 => ?_) (fun h2 => ?_)
    · refine J_aloadN hX rfl rfl dX10_together_25 ?_
      refine J_iloadN hX rfl rfl dX10_together_26 ?_
      refine cV1w hX cb_X10_partsOf mL_X10_112 dX10_together_27 (c_mpartsOf hA (by omega)) ?_
      refine J_if_ne (tgt := 38) hX (by decide) dX10_together_30 (fun h3 => ?_) (fun h3 => ?_)
      · refine J_iconst hX (by decide) dX10_together_38 ?_
        refine siN_3 hX dX10_together_39 ?_
        refine J_iloadN hX rfl rfl dX10_together_40 ?_
        refine J_if_eq (tgt := 50) hX (by decide) dX10_together_41 (fun h4 => ?_) (fun h4 => ?_)
        · refine J_aloadN hX rfl rfl dX10_together_50 ?_
          refine cV0u hX cb_X10_findsFar mL_X10_122 dX10_together_51 (c_findsFar hA hI) (fun m2 hm2 => ?_)
          refine J_bipush hX (by decide) dX10_together_54 ?_
          refine si_4 hX dX10_together_56 ?_
          refine J_iconst hX (by decide) dX10_together_58 ?_
          refine si_5 hX dX10_together_59 ?_
          refine J_iconst hX (by decide) dX10_together_61 ?_
          refine si_6 hX dX10_together_62 ?_
          refine l_tog2 hX (hm2.1.a42 hA T47_42) hI hC h1 hm2.2 hm2.1 (by unfold rfKT; rw [if_pos h1, if_pos h2, if_neg h3]) hR0 0 (by omega) (by omega) (-9, 0) _ _ _ (Or.inl rfl) rfl
        · omega
      · refine J_bipush hX (by decide) dX10_together_33 ?_
        refine J_goto (tgt := 39) hX (by decide) dX10_together_35 ?_
        exact no _ (by unfold rfKT; rw [if_pos h1, if_pos h2, if_pos h3]) (by omega) (by omega)
    · refine J_bipush hX (by decide) dX10_together_20 ?_
      refine J_goto (tgt := 39) hX (by decide) dX10_together_22 ?_
      exact no _ (by unfold rfKT; rw [if_pos h1, if_neg h2]) (by omega) (by omega)
  · refine J_iconst hX (by decide) dX10_together_8 ?_
    refine J_goto (tgt := 39) hX (by decide) dX10_together_9 ?_
    exact no _ (by unfold rfKT; rw [if_neg h1]) (by omega) (by omega)
end Mod
