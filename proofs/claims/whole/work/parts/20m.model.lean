/-! ===== 20m: the reference: split, feed, row, judge, image, on, count ===== -/
theorem lay_0 (A : Int → Int) (k : Int) (f : Int → Int) : lay A k 0 f = A := by
  funext j
  unfold lay
  rw [if_neg (by omega)]
theorem lay_s {A f : Int → Int} {k n : Int} (h : 0 ≤ n) : st1 (lay A k n f) (k + n) (f n) = lay A k (n + 1) f := by
  funext j
  by_cases q : j = k + n
  · rw [q, st1_eq, lay_in (by omega)]
  · rw [st1_ne q]
    unfold lay
    by_cases q2 : k ≤ j ∧ j < k + n
    · rw [if_pos q2, if_pos (by omega)]
    · rw [if_neg q2, if_neg (by omega)]
def rfFeed (l x : Int) : Int := if x < 0 then -4 else if 255 < x then -6 else if l = 64 then -6 else 0
def rfRow (l x : Int) : Int := if x < 0 then -4 else if 99 < x then -6 else if l = 12 then -6 else 0
def jdP (A W : Int → Int) (p i : Int) : Prop := W i < aG A p 3 ∨ 12 < sumI W (i + 1)
noncomputable def jdA (A W : Int → Int) (n p : Int) : Int := fstI (jdP A W p) (if sumI W n < 12 then n else -9) 0 n
noncomputable def wdA (A : Int → Int) (w : Int) : Prop := doneS (aW A w 0) (nW A w) (gaS A w 24) (gaH A w 24)
noncomputable def countA (A R : Int → Int) (rl tl x : Int) : Int := if 10 < x ∧ x < 17 then R (x - 10) else if x = 0 ∨ x = 1 ∨ x = 2 then A x else if x = 3 then cntI (aIs A) 24 else if x = 4 then cntI (wdA A) (A 2) else if x = 5 then rl else if x = 6 then tl else -9
section Mod
variable {G : GC} {X : JX} {m : HM} {κ p t τ w x y z i k q b : Int} {A N S g F B W : Int → Int} {H C D : Int}
theorem l_split (hX : Ok_X10_split G X 4) (hI : InvA A C D) (hIs : aIs A i) {to : Int} (hto : to = fpA A (-9)) (htn : inN to 24) (hle : spL A i ≤ x ∧ x ≤ aP A i 1 - spL A i) (hR0 : JRt G X (pi (anQ m (rfSplit A i x) (fpA A (-9)) (FrA m (spF A i x)))) (some .int)) : ∀ k, 0 ≤ k → k ≤ 7 → J G X 76 [vr 40 0 0, vi i, vi x, vi (spL A i), vi to, vi k] [] (upr m 42 0 0 (lay A (99 + 7 * to) k (fun k => aP A i k))) := by
  have hi : inN i 24 := ⟨hIs.1, hIs.2.1⟩
  have hp := hI.part hIs
  have hs := hI.share hIs
  have hpl := (hI.2.2.1 _ (hI.pers hIs)).1
  have hpl2 : spL A i = aG A (aP A i 0 - 1) 3 := rfl
  have hne : i ≠ to := fun q => by
    rcases fpA_cases A (-9) with ⟨e, -⟩ | ⟨-, h, -⟩
    · omega
    · rw [q, hto] at hIs; exact h hIs
  refine up_to (fun k h1 h2 ih => ?_)
  refine J_iload hX rfl dX10_split_76 ?_
  refine J_bipush hX (by decide) dX10_split_78 ?_
  refine J_icmp_ge (tgt := 104) hX (by decide) dX10_split_80 (fun h3 => ?_) (fun h3 => ?_)
  · have e : k = 7 := by omega
    subst e
    have es : aP (aS (aS (lay A (99 + 7 * to) 7 (fun k => aP A i k)) to 1 x) to 3 (-9)) i 1 = aP A i 1 := by
      rw [aS_ne (by omega), aS_ne (by omega)]
      exact lay_out (by omega)
    refine J_aloadN hX rfl rfl dX10_split_104 ?_
    refine J_iload hX rfl dX10_split_105 ?_
    refine J_iconst hX (by decide) dX10_split_107 ?_
    refine J_iloadN hX rfl rfl dX10_split_108 ?_
    refine cV3v hX cb_X10_puts mL_X10_134 dX10_split_109 (c_puts htn (by omega)) ?_
    rw [at42, up42]
    refine J_aloadN hX rfl rfl dX10_split_112 ?_
    refine J_iload hX rfl dX10_split_113 ?_
    refine J_iconst hX (by decide) dX10_split_115 ?_
    refine J_bipush hX (by decide) dX10_split_116 ?_
    refine cV3v hX cb_X10_puts mL_X10_134 dX10_split_118 (c_puts htn (by omega)) ?_
    rw [at42, up42]
    refine J_aloadN hX rfl rfl dX10_split_121 ?_
    refine J_iloadN hX rfl rfl dX10_split_122 ?_
    refine J_iconst hX (by decide) dX10_split_123 ?_
    refine J_aloadN hX rfl rfl dX10_split_124 ?_
    refine J_iloadN hX rfl rfl dX10_split_125 ?_
    refine J_iconst hX (by decide) dX10_split_126 ?_
    refine cV2w hX cb_X10_part mL_X10_50 dX10_split_127 (c_part (A := aS (aS (lay A (99 + 7 * to) 7 (fun k => aP A i k)) to 1 x) to 3 (-9)) (at42 _) hi (by omega)) ?_
    rw [es]
    refine J_iloadN hX rfl rfl dX10_split_130 ?_
    refine J_isub hX (fun _ _ => by omega) dX10_split_131 ?_
    refine cV3v hX cb_X10_puts mL_X10_134 dX10_split_132 (c_puts hi (by omega)) ?_
    rw [at42, up42]
    refine J_iload hX rfl dX10_split_135 ?_
    exact J_iret hX hR0 dX10_split_137 (anQ.yes (by unfold rfSplit; rw [ifP_pos hIs, if_neg (by omega), if_neg (by omega)]) hto (FrA.i (by rw [hto]; rfl)))
  · have hk : inN k 7 := ⟨h1, h3⟩
    have nx := ih h3
    rw [← lay_s h1] at nx
    have es : aP (lay A (99 + 7 * to) k (fun k => aP A i k)) i k = aP A i k := lay_out (by omega)
    refine J_aloadN hX rfl rfl dX10_split_83 ?_
    refine J_iload hX rfl dX10_split_84 ?_
    refine J_iload hX rfl dX10_split_86 ?_
    refine J_aloadN hX rfl rfl dX10_split_88 ?_
    refine J_iloadN hX rfl rfl dX10_split_89 ?_
    refine J_iload hX rfl dX10_split_90 ?_
    refine cV2w hX cb_X10_part mL_X10_50 dX10_split_92 (c_part (A := lay A (99 + 7 * to) k (fun k => aP A i k)) (at42 _) hi hk) ?_
    rw [es]
    refine cV3v hX cb_X10_puts mL_X10_134 dX10_split_95 (c_puts htn hk) ?_
    rw [at42, up42]
    refine sinc_5 hX (fun _ => by omega) dX10_split_98 ?_
    refine J_goto (tgt := 76) hX (by decide) dX10_split_101 ?_
    exact nx
theorem c_msplit (hA : m 42 0 0 = A) (hI : InvA A C D) (hf : few41 m) : K_X10_split G [vr 40 0 0, vi i, vi x] m (pi (anQ m (rfSplit A i x) (fpA A (-9)) (FrA m (spF A i x)))) := by
  refine E_X10_split (fun X hX hR0 _ _ => ?_)
  have h0 := hI.1
  refine J_aloadN hX rfl rfl dX10_split_0 ?_
  refine J_iloadN hX rfl rfl dX10_split_1 ?_
  refine cV1w hX cb_X10_isPart mL_X10_131 dX10_split_2 (c_isPart hA) ?_
  refine J_ifb_ne (tgt := 14) hX (by decide) dX10_split_5 (fun h1 => ?_) (fun h1 => ?_)
  · have hi : inN i 24 := ⟨h1.1, h1.2.1⟩
    have hp := hI.part h1
    have hs := hI.share h1
    have hq := hI.pers h1
    have hpl := (hI.2.2.1 _ hq).1
    have hpl2 : aG A (aP A i 0 - 1) 3 = spL A i := rfl
    have no : ¬ (spL A i ≤ x ∧ x ≤ aP A i 1 - spL A i) → ∀ b c, J G X 45 [vr 40 0 0, vi i, vi x, vi (spL A i), b, c] [] m := fun h2 b c => by
      refine J_aloadN hX rfl rfl dX10_split_45 ?_
      refine J_bipush hX (by decide) dX10_split_46 ?_
      refine cV1w hX cb_X10_refuse mL_X10_62 dX10_split_48 (c_mrefuse (by omega) (hf _ (by omega))) ?_
      exact J_iret hX hR0 dX10_split_51 (anQ.no (by unfold rfSplit; rw [ifP_pos h1, if_pos (by omega)]) (by omega))
    refine J_aloadN hX rfl rfl dX10_split_14 ?_
    refine J_aloadN hX rfl rfl dX10_split_15 ?_
    refine J_iloadN hX rfl rfl dX10_split_16 ?_
    refine J_iconst hX (by decide) dX10_split_17 ?_
    refine cV2w hX cb_X10_part mL_X10_50 dX10_split_18 (c_part hA hi (by omega)) ?_
    refine J_iconst hX (by decide) dX10_split_21 ?_
    refine J_isub hX (fun _ _ => by omega) dX10_split_22 ?_
    refine J_iconst hX (by decide) dX10_split_23 ?_
    refine cV2w hX cb_X10_get mL_X10_106 dX10_split_24 (c_get hA (by omega) (by omega)) ?_
    rw [hpl2]
    refine siN_3 hX dX10_split_27 ?_
    refine J_iloadN hX rfl rfl dX10_split_28 ?_
    refine J_iloadN hX rfl rfl dX10_split_29 ?_
    refine J_icmp_lt (tgt := 45) hX (by decide) dX10_split_30 (fun h2 => ?_) (fun h2 => ?_)
    · exact no (fun q => by have := q.1; omega) _ _
    · refine J_aloadN hX rfl rfl dX10_split_33 ?_
      refine J_iloadN hX rfl rfl dX10_split_34 ?_
      refine J_iconst hX (by decide) dX10_split_35 ?_
      refine cV2w hX cb_X10_part mL_X10_50 dX10_split_36 (c_part hA hi (by omega)) ?_
      refine J_iloadN hX rfl rfl dX10_split_39 ?_
      refine J_isub hX (fun _ _ => by omega) dX10_split_40 ?_
      refine J_iloadN hX rfl rfl dX10_split_41 ?_
      refine J_icmp_ge (tgt := 52) hX (by decide) dX10_split_42 (fun h3 => ?_) (fun h3 => ?_)
      · refine J_aloadN hX rfl rfl dX10_split_52 ?_
        refine G_HalfHereModel_s hX dX10_split_53 mF_X10_13 ?_
        refine cS1w hX cb_X10_free mL_X10_83 dX10_split_56 (c_free (Or.inl rfl) hA hI) ?_
        refine si_4 hX dX10_split_59 ?_
        refine J_iload hX rfl dX10_split_61 ?_
        rcases fpA_cases A (-9) with ⟨e, -⟩ | ⟨hn, -, -⟩
        · refine J_if_ge (tgt := 73) hX (by decide) dX10_split_63 (fun h4 => ?_) (fun h4 => ?_)
          · omega
          · refine J_aloadN hX rfl rfl dX10_split_66 ?_
            refine J_bipush hX (by decide) dX10_split_67 ?_
            refine cV1w hX cb_X10_refuse mL_X10_62 dX10_split_69 (c_mrefuse (by omega) (hf _ (by omega))) ?_
            exact J_iret hX hR0 dX10_split_72 (anQ.no (by unfold rfSplit; rw [ifP_pos h1, if_neg (by omega), if_pos (by omega)]) (by omega))
        · skip
          refine J_if_ge (tgt := 73) hX (by decide) dX10_split_63 (fun h4 => ?_) (fun h4 => ?_)
          · refine J_iconst hX (by decide) dX10_split_73 ?_
            refine si_5 hX dX10_split_74 ?_
            have := l_split (to := fpA A (-9)) hX hI h1 rfl hn ⟨by omega, by omega⟩ hR0 0 (by omega) (by omega)
            rw [lay_0, show upr m 42 0 0 A = m by rw [← hA]; exact upr_self _ _ _ _] at this
            exact this
          · omega
      · skip
        exact no (fun q => by have := q.2; omega) _ _
  · refine J_aloadN hX rfl rfl dX10_split_8 ?_
    refine J_iconst hX (by decide) dX10_split_9 ?_
    refine cV1w hX cb_X10_refuse mL_X10_62 dX10_split_10 (c_mrefuse (by omega) (hf _ (by omega))) ?_
    exact J_iret hX hR0 dX10_split_13 (anQ.no (by unfold rfSplit; rw [ifP_neg h1]) (by omega))
/-! feed, row -/
theorem c_mfeed {l : Int} (hl : m 40 0 0 7 = l) (hl2 : 0 ≤ l ∧ l ≤ 64) (hf : few41 m) : K_X10_feed G [vr 40 0 0, vi x] m (pi (anQ m (rfFeed l x) (l + 1) (fun m' => m' = upr (upr m 45 0 0 (st1 (m 45 0 0) l x)) 40 0 0 (st1 (m 40 0 0) 7 (l + 1))))) := by
  refine E_X10_feed (fun X hX hR0 _ _ => ?_)
  have hrb : -6 ≤ rfFeed l x ∧ rfFeed l x ≤ 0 := by
    unfold rfFeed
    split
    · omega
    · split
      · omega
      · split <;> omega
  have K25 : ∀ r, r = rfFeed l x → J G X 25 [vr 40 0 0, vi x, vi r] [] m := fun r hr => by
    refine J_iloadN hX rfl rfl dX10_feed_25 ?_
    refine J_if_eq (tgt := 35) hX (by decide) dX10_feed_26 (fun h1 => ?_) (fun h1 => ?_)
    · have hl3 : l ≠ 64 := fun q => by
        rw [hr] at h1
        unfold rfFeed at h1
        rw [if_pos q] at h1
        split at h1
        · omega
        · split at h1 <;> omega
      refine J_aloadN hX rfl rfl dX10_feed_35 ?_
      refine G_HalfHereModel_tape hX dX10_feed_36 mF_X10_22 ?_
      refine J_aloadN hX rfl rfl dX10_feed_39 ?_
      refine G_HalfHereModel_taped hX dX10_feed_40 mF_X10_58 ?_
      refine J_iloadN hX rfl rfl dX10_feed_43 ?_
      rw [hl]
      refine S_45 hX (by omega) dX10_feed_44 ?_
      refine J_aloadN hX rfl rfl dX10_feed_45 ?_
      refine J_dup hX rfl dX10_feed_46 ?_
      refine G_HalfHereModel_taped hX dX10_feed_47 mF_X10_58 ?_
      rw [upr_tag (by decide), hl]
      refine J_iconst hX (by decide) dX10_feed_50 ?_
      refine J_iadd hX (fun _ _ => by omega) dX10_feed_51 ?_
      refine P_HalfHereModel_taped hX dX10_feed_52 mF_X10_58 ?_
      refine J_aloadN hX rfl rfl dX10_feed_55 ?_
      refine G_HalfHereModel_taped hX dX10_feed_56 mF_X10_58 ?_
      rw [upr_eq, st1_eq]
      exact J_iret hX hR0 dX10_feed_59 (anQ.yes (by omega) rfl (by rw [upr_tag (by decide)]))
    · refine J_aloadN hX rfl rfl dX10_feed_29 ?_
      refine J_iloadN hX rfl rfl dX10_feed_30 ?_
      refine cV1w hX cb_X10_refuse mL_X10_62 dX10_feed_31 (c_mrefuse (by omega) (hf _ (by omega))) ?_
      exact J_iret hX hR0 dX10_feed_34 (anQ.no hr.symm h1)
  refine J_iloadN hX rfl rfl dX10_feed_0 ?_
  refine J_iconst hX (by decide) dX10_feed_1 ?_
  refine J_sipush hX (by decide) dX10_feed_2 ?_
  refine cS3w hX cb_X10_within mL_X10_54 dX10_feed_5 (c_within) ?_
  refine siN_2 hX dX10_feed_8 ?_
  refine J_iloadN hX rfl rfl dX10_feed_9 ?_
  have e0 : (if x < 0 then (-4 : Int) else if 255 < x then -6 else 0) ≠ 0 → (if x < 0 then (-4 : Int) else if 255 < x then -6 else 0) = rfFeed l x := fun q => by
    unfold rfFeed
    by_cases q1 : x < 0
    · rw [if_pos q1, if_pos q1]
    · by_cases q2 : 255 < x
      · rw [if_neg q1, if_pos q2, if_neg q1, if_pos q2]
      · rw [if_neg q1, if_neg q2] at q; omega
  refine J_if_ne (tgt := 25) hX (by decide) dX10_feed_10 (fun h2 => ?_) (fun h2 => ?_)
  · exact K25 _ (e0 h2)
  · have q1 : ¬ x < 0 := fun q => by rw [if_pos q] at h2; omega
    have q2 : ¬ 255 < x := fun q => by rw [if_neg q1, if_pos q] at h2; omega
    refine J_aloadN hX rfl rfl dX10_feed_13 ?_
    refine G_HalfHereModel_taped hX dX10_feed_14 mF_X10_58 ?_
    refine J_bipush hX (by decide) dX10_feed_17 ?_
    rw [hl]
    refine J_icmp_ne (tgt := 25) hX (by decide) dX10_feed_19 (fun h3 => ?_) (fun h3 => ?_)
    · exact K25 _ (by unfold rfFeed; rw [if_neg q1, if_neg q2, if_neg q1, if_neg q2, if_neg h3])
    · refine J_bipush hX (by decide) dX10_feed_22 ?_
      refine siN_2 hX dX10_feed_24 ?_
      exact K25 _ (by unfold rfFeed; rw [if_neg q1, if_neg q2, if_pos h3])
theorem c_mrow {l : Int} (hl : m 40 0 0 19 = l) (hl2 : 0 ≤ l ∧ l ≤ 12) (hf : few41 m) : K_X10_row G [vr 40 0 0, vi x] m (pi (anQ m (rfRow l x) (l + 1) (fun m' => m' = upr (upr m 52 0 0 (st1 (m 52 0 0) l x)) 40 0 0 (st1 (m 40 0 0) 19 (l + 1))))) := by
  refine E_X10_row (fun X hX hR0 _ _ => ?_)
  have hrb : -6 ≤ rfRow l x ∧ rfRow l x ≤ 0 := by
    unfold rfRow
    split
    · omega
    · split
      · omega
      · split <;> omega
  have K25 : ∀ r, r = rfRow l x → J G X 24 [vr 40 0 0, vi x, vi r] [] m := fun r hr => by
    refine J_iloadN hX rfl rfl dX10_row_24 ?_
    refine J_if_eq (tgt := 34) hX (by decide) dX10_row_25 (fun h1 => ?_) (fun h1 => ?_)
    · have hl3 : l ≠ 12 := fun q => by
        rw [hr] at h1
        unfold rfRow at h1
        rw [if_pos q] at h1
        split at h1
        · omega
        · split at h1 <;> omega
      refine J_aloadN hX rfl rfl dX10_row_34 ?_
      refine G_HalfHereModel_row hX dX10_row_35 mF_X10_43 ?_
      refine J_aloadN hX rfl rfl dX10_row_38 ?_
      refine G_HalfHereModel_rowed hX dX10_row_39 mF_X10_235 ?_
      refine J_iloadN hX rfl rfl dX10_row_42 ?_
      rw [hl]
      refine S_52 hX (by omega) dX10_row_43 ?_
      refine J_aloadN hX rfl rfl dX10_row_44 ?_
      refine J_dup hX rfl dX10_row_45 ?_
      refine G_HalfHereModel_rowed hX dX10_row_46 mF_X10_235 ?_
      rw [upr_tag (by decide), hl]
      refine J_iconst hX (by decide) dX10_row_49 ?_
      refine J_iadd hX (fun _ _ => by omega) dX10_row_50 ?_
      refine P_HalfHereModel_rowed hX dX10_row_51 mF_X10_235 ?_
      refine J_aloadN hX rfl rfl dX10_row_54 ?_
      refine G_HalfHereModel_rowed hX dX10_row_55 mF_X10_235 ?_
      rw [upr_eq, st1_eq]
      exact J_iret hX hR0 dX10_row_58 (anQ.yes (by omega) rfl (by rw [upr_tag (by decide)]))
    · refine J_aloadN hX rfl rfl dX10_row_28 ?_
      refine J_iloadN hX rfl rfl dX10_row_29 ?_
      refine cV1w hX cb_X10_refuse mL_X10_62 dX10_row_30 (c_mrefuse (by omega) (hf _ (by omega))) ?_
      exact J_iret hX hR0 dX10_row_33 (anQ.no hr.symm h1)
  refine J_iloadN hX rfl rfl dX10_row_0 ?_
  refine J_iconst hX (by decide) dX10_row_1 ?_
  refine J_bipush hX (by decide) dX10_row_2 ?_
  refine cS3w hX cb_X10_within mL_X10_54 dX10_row_4 (c_within) ?_
  refine siN_2 hX dX10_row_7 ?_
  refine J_iloadN hX rfl rfl dX10_row_8 ?_
  have e0 : (if x < 0 then (-4 : Int) else if 99 < x then -6 else 0) ≠ 0 → (if x < 0 then (-4 : Int) else if 99 < x then -6 else 0) = rfRow l x := fun q => by
    unfold rfRow
    by_cases q1 : x < 0
    · rw [if_pos q1, if_pos q1]
    · by_cases q2 : 99 < x
      · rw [if_neg q1, if_pos q2, if_neg q1, if_pos q2]
      · rw [if_neg q1, if_neg q2] at q; omega
  refine J_if_ne (tgt := 24) hX (by decide) dX10_row_9 (fun h2 => ?_) (fun h2 => ?_)
  · exact K25 _ (e0 h2)
  · have q1 : ¬ x < 0 := fun q => by rw [if_pos q] at h2; omega
    have q2 : ¬ 99 < x := fun q => by rw [if_neg q1, if_pos q] at h2; omega
    refine J_aloadN hX rfl rfl dX10_row_12 ?_
    refine G_HalfHereModel_rowed hX dX10_row_13 mF_X10_235 ?_
    refine J_bipush hX (by decide) dX10_row_16 ?_
    rw [hl]
    refine J_icmp_ne (tgt := 24) hX (by decide) dX10_row_18 (fun h3 => ?_) (fun h3 => ?_)
    · exact K25 _ (by unfold rfRow; rw [if_neg q1, if_neg q2, if_neg q1, if_neg q2, if_neg h3])
    · refine J_bipush hX (by decide) dX10_row_21 ?_
      refine siN_2 hX dX10_row_23 ?_
      exact K25 _ (by unfold rfRow; rw [if_neg q1, if_neg q2, if_pos h3])
/-! judge -/
theorem l_judge {n : Int} {m0 : HM} (hX : Ok_X10_judge G X 4) (hA : m 42 0 0 = A) (hI : InvA A C D) (hp : inN p (A 1)) (hn : 0 ≤ n ∧ n ≤ 12) (hW : ∀ k, inN k n → m 52 0 0 k = W k ∧ 0 ≤ W k ∧ W k ≤ 99) (hR0 : JRt G X (pi (anQ m0 (rfThin A p) (jdA A W n p) (fun m' => m' = m))) (some .int)) : ∀ i, 0 ≤ i → i ≤ n → jdA A W n p = fstI (jdP A W p) (if sumI W n < 12 then n else -9) i n → J G X 29 [vr 40 0 0, vi p, vi n, vi (sumI W i), vi i] [] m := by
  have h0 := hI.1
  refine up_to (fun i h1 h2 ih he => ?_)
  have hb := sumI_b (f := W) (lo := 0) (hi := 99) (n := i) h1 (fun j a b => (hW j (by omega)).2)
  refine J_iload hX rfl dX10_judge_29 ?_
  refine J_iloadN hX rfl rfl dX10_judge_31 ?_
  refine J_icmp_ge (tgt := 76) hX (by decide) dX10_judge_32 (fun h3 => ?_) (fun h3 => ?_)
  · have e : i = n := by omega
    subst e
    rw [fstI_0 (by omega)] at he
    refine J_iloadN hX rfl rfl dX10_judge_76 ?_
    refine J_bipush hX (by decide) dX10_judge_77 ?_
    refine J_icmp_ge (tgt := 86) hX (by decide) dX10_judge_79 (fun h4 => ?_) (fun h4 => ?_)
    · refine J_bipush hX (by decide) dX10_judge_86 ?_
      exact J_iret hX hR0 dX10_judge_88 (anQ.yes (if_pos hp) (by rw [he, if_neg (by omega)]) rfl)
    · refine J_iloadN hX rfl rfl dX10_judge_82 ?_
      refine J_goto (tgt := 88) hX (by decide) dX10_judge_83 ?_
      exact J_iret hX hR0 dX10_judge_88 (anQ.yes (if_pos hp) (by rw [he, if_pos (by omega)]) rfl)
  · have hw := hW i ⟨h1, by omega⟩
    have es : sumI W (i + 1) = sumI W i + W i := sumI_s h1
    have K67 : jdP A W p i → J G X 67 [vr 40 0 0, vi p, vi n, vi (sumI W i + W i), vi i] [] m := fun hj => by
      refine J_iload hX rfl dX10_judge_67 ?_
      exact J_iret hX hR0 dX10_judge_69 (anQ.yes (if_pos hp) (by rw [he, fstI_t (by omega) hj]) rfl)
    refine J_iloadN hX rfl rfl dX10_judge_35 ?_
    refine J_aloadN hX rfl rfl dX10_judge_36 ?_
    refine G_HalfHereModel_row hX dX10_judge_37 mF_X10_43 ?_
    refine J_iload hX rfl dX10_judge_40 ?_
    refine L_52 hX (by omega) dX10_judge_42 ?_
    rw [hw.1]
    refine J_iadd hX (fun _ _ => by omega) dX10_judge_43 ?_
    refine siN_3 hX dX10_judge_44 ?_
    refine J_aloadN hX rfl rfl dX10_judge_45 ?_
    refine G_HalfHereModel_row hX dX10_judge_46 mF_X10_43 ?_
    refine J_iload hX rfl dX10_judge_49 ?_
    refine L_52 hX (by omega) dX10_judge_51 ?_
    rw [hw.1]
    refine J_aloadN hX rfl rfl dX10_judge_52 ?_
    refine J_iloadN hX rfl rfl dX10_judge_53 ?_
    refine J_iconst hX (by decide) dX10_judge_54 ?_
    refine cV2w hX cb_X10_get mL_X10_106 dX10_judge_55 (c_get hA (by omega) (by omega)) ?_
    refine J_icmp_lt (tgt := 67) hX (by decide) dX10_judge_58 (fun h5 => ?_) (fun h5 => ?_)
    · exact K67 (Or.inl h5)
    · refine J_iloadN hX rfl rfl dX10_judge_61 ?_
      refine J_bipush hX (by decide) dX10_judge_62 ?_
      refine J_icmp_le (tgt := 70) hX (by decide) dX10_judge_64 (fun h6 => ?_) (fun h6 => ?_)
      · have nx := ih (by omega) (by rw [he, fstI_f (by omega) (fun q => by
          unfold jdP at q
          omega)])
        rw [es] at nx
        refine sinc_4 hX (fun _ => by omega) dX10_judge_70 ?_
        refine J_goto (tgt := 29) hX (by decide) dX10_judge_73 ?_
        exact nx
      · exact K67 (Or.inr (by omega))
theorem c_mjudge {n : Int} (hA : m 42 0 0 = A) (hI : InvA A C D) (hf : few41 m) (hn : m 40 0 0 19 = n) (hn2 : 0 ≤ n ∧ n ≤ 12) (hW : ∀ k, inN k n → m 52 0 0 k = W k ∧ 0 ≤ W k ∧ W k ≤ 99) : K_X10_judge G [vr 40 0 0, vi p] m (pi (anQ m (rfThin A p) (jdA A W n p) (fun m' => m' = upr m 40 0 0 (st1 (m 40 0 0) 19 0)))) := by
  refine E_X10_judge (fun X hX hR0 _ _ => ?_)
  refine J_aloadN hX rfl rfl dX10_judge_0 ?_
  refine J_iloadN hX rfl rfl dX10_judge_1 ?_
  refine cV1w hX cb_X10_isPerson mL_X10_103 dX10_judge_2 (c_isPerson hA) ?_
  refine J_ifb_ne (tgt := 14) hX (by decide) dX10_judge_5 (fun h1 => ?_) (fun h1 => ?_)
  · refine J_aloadN hX rfl rfl dX10_judge_14 ?_
    refine G_HalfHereModel_rowed hX dX10_judge_15 mF_X10_235 ?_
    rw [hn]
    refine siN_2 hX dX10_judge_18 ?_
    refine J_aloadN hX rfl rfl dX10_judge_19 ?_
    refine J_iconst hX (by decide) dX10_judge_20 ?_
    refine P_HalfHereModel_rowed hX dX10_judge_21 mF_X10_235 ?_
    refine J_iconst hX (by decide) dX10_judge_24 ?_
    refine siN_3 hX dX10_judge_25 ?_
    refine J_iconst hX (by decide) dX10_judge_26 ?_
    refine si_4 hX dX10_judge_27 ?_
    exact l_judge hX (m := upr m 40 0 0 (st1 (m 40 0 0) 19 0)) (by rw [upr_tag (by decide)]; exact hA) hI h1 hn2 (fun k hk => by rw [upr_tag (by decide)]; exact hW k hk) hR0 0 (by omega) (by omega) rfl
  · refine J_aloadN hX rfl rfl dX10_judge_8 ?_
    refine J_iconst hX (by decide) dX10_judge_9 ?_
    refine cV1w hX cb_X10_refuse mL_X10_62 dX10_judge_10 (c_mrefuse (by omega) (hf _ (by omega))) ?_
    exact J_iret hX hR0 dX10_judge_13 (anQ.no (if_neg h1) (by omega))
/-! image, on -/
theorem l_image (hX : Ok_X10_image G X 4) (hA : m 42 0 0 = A) (hB : m 43 0 0 = B) (hR0 : JRt G X (pi (fun r m' => r = cntI (aIs A) 24 ∧ m' = upr (upr m 43 0 0 (lay B 0 267 A)) 40 0 0 (st1 (m 40 0 0) 4 1))) (some .int)) : ∀ i, 0 ≤ i → i ≤ 267 → J G X 2 [vr 40 0 0, vi i] [] (upr m 43 0 0 (lay B 0 i A)) := by
  refine up_to (fun i h1 h2 ih => ?_)
  refine J_iloadN hX rfl rfl dX10_image_2 ?_
  refine J_sipush hX (by decide) dX10_image_3 ?_
  refine J_icmp_ge (tgt := 27) hX (by decide) dX10_image_6 (fun h3 => ?_) (fun h3 => ?_)
  · have e : i = 267 := by omega
    subst e
    refine J_aloadN hX rfl rfl dX10_image_27 ?_
    refine J_iconst hX (by decide) dX10_image_28 ?_
    refine P_HalfHereModel_isImage hX (by omega) dX10_image_29 mF_X10_238 ?_
    refine J_aloadN hX rfl rfl dX10_image_32 ?_
    refine cV0w hX cb_X10_parts mL_X10_242 dX10_image_33 (c_mparts (A := A) (by rw [upr_tag (by decide), upr_tag (by decide)]; exact hA)) ?_
    exact J_iret hX hR0 dX10_image_36 (⟨_, rfl, rfl, by rw [upr_tag (by decide)]⟩)
  · have nx := ih h3
    have e := lay_s (A := B) (f := A) (k := 0) h1
    rw [Int.zero_add] at e
    refine J_aloadN hX rfl rfl dX10_image_9 ?_
    refine G_HalfHereModel_image hX dX10_image_10 mF_X10_16 ?_
    refine J_iloadN hX rfl rfl dX10_image_13 ?_
    refine J_aloadN hX rfl rfl dX10_image_14 ?_
    refine G_HalfHereModel_s hX dX10_image_15 mF_X10_13 ?_
    refine J_iloadN hX rfl rfl dX10_image_18 ?_
    refine L_42 hX (by omega) dX10_image_19 ?_
    rw [upr_tag (by decide), hA]
    refine S_43 hX (by omega) dX10_image_20 ?_
    refine sinc_1 hX (fun _ => by omega) dX10_image_21 ?_
    refine J_goto (tgt := 2) hX (by decide) dX10_image_24 ?_
    rw [upr_eq, upr_upr, e]
    exact nx
theorem c_mimage (hA : m 42 0 0 = A) (hB : m 43 0 0 = B) : K_X10_image G [vr 40 0 0] m (pi (fun r m' => r = cntI (aIs A) 24 ∧ m' = upr (upr m 43 0 0 (lay B 0 267 A)) 40 0 0 (st1 (m 40 0 0) 4 1))) := by
  refine E_X10_image (fun X hX hR0 _ _ => ?_)
  refine J_iconst hX (by decide) dX10_image_0 ?_
  refine siN_1 hX dX10_image_1 ?_
  have := l_image hX hA hB hR0 0 (by omega) (by omega)
  rw [lay_0, show upr m 43 0 0 B = m by rw [← hB]; exact upr_self _ _ _ _] at this
  exact this
theorem l_on {m0 : HM} {rf : Int} (hX : Ok_X10_on G X 4) (hA : m 42 0 0 = A) (hB : m 43 0 0 = B) (hrf : rf = 0) (hR0 : JRt G X (pi (anQ m0 rf (cntI (aIs (lay A 0 267 B)) 24) (fun m' => m' = upr m 42 0 0 (lay A 0 267 B)))) (some .int)) : ∀ i, 0 ≤ i → i ≤ 267 → J G X 16 [vr 40 0 0, vi i] [] (upr m 42 0 0 (lay A 0 i B)) := by
  refine up_to (fun i h1 h2 ih => ?_)
  refine J_iloadN hX rfl rfl dX10_on_16 ?_
  refine J_sipush hX (by decide) dX10_on_17 ?_
  refine J_icmp_ge (tgt := 41) hX (by decide) dX10_on_20 (fun h3 => ?_) (fun h3 => ?_)
  · have e : i = 267 := by omega
    subst e
    refine J_aloadN hX rfl rfl dX10_on_41 ?_
    refine cV0w hX cb_X10_parts mL_X10_242 dX10_on_42 (c_mparts (A := lay A 0 267 B) (at42 _)) ?_
    exact J_iret hX hR0 dX10_on_45 (anQ.yes hrf rfl rfl)
  · have nx := ih h3
    have e := lay_s (A := A) (f := B) (k := 0) h1
    rw [Int.zero_add] at e
    refine J_aloadN hX rfl rfl dX10_on_23 ?_
    refine G_HalfHereModel_s hX dX10_on_24 mF_X10_13 ?_
    refine J_iloadN hX rfl rfl dX10_on_27 ?_
    refine J_aloadN hX rfl rfl dX10_on_28 ?_
    refine G_HalfHereModel_image hX dX10_on_29 mF_X10_16 ?_
    refine J_iloadN hX rfl rfl dX10_on_32 ?_
    refine L_43 hX (by omega) dX10_on_33 ?_
    rw [upr_tag (by decide), hB]
    refine S_42 hX (by omega) dX10_on_34 ?_
    refine sinc_1 hX (fun _ => by omega) dX10_on_35 ?_
    refine J_goto (tgt := 16) hX (by decide) dX10_on_38 ?_
    rw [upr_eq, upr_upr, e]
    exact nx
def rfOn (im : Int) : Int := if im = 0 then -3 else 0
theorem c_mon {im : Int} (hA : m 42 0 0 = A) (hB : m 43 0 0 = B) (him : m 40 0 0 4 = im) (hf : few41 m) : K_X10_on G [vr 40 0 0] m (pi (anQ m (rfOn im) (cntI (aIs (lay A 0 267 B)) 24) (fun m' => m' = upr m 42 0 0 (lay A 0 267 B)))) := by
  refine E_X10_on (fun X hX hR0 _ _ => ?_)
  refine J_aloadN hX rfl rfl dX10_on_0 ?_
  refine G_HalfHereModel_isImage hX dX10_on_1 mF_X10_238 ?_
  rw [him]
  refine J_if_ne (tgt := 14) hX (by decide) dX10_on_4 (fun h1 => ?_) (fun h1 => ?_)
  · refine J_iconst hX (by decide) dX10_on_14 ?_
    refine siN_1 hX dX10_on_15 ?_
    have := l_on hX hA hB (if_neg h1) hR0 0 (by omega) (by omega)
    rw [lay_0, show upr m 42 0 0 A = m by rw [← hA]; exact upr_self _ _ _ _] at this
    exact this
  · refine J_aloadN hX rfl rfl dX10_on_7 ?_
    refine J_bipush hX (by decide) dX10_on_8 ?_
    refine cV1w hX cb_X10_refuse mL_X10_62 dX10_on_10 (c_mrefuse (by omega) (hf _ (by omega))) ?_
    exact J_iret hX hR0 dX10_on_13 (anQ.no (if_pos h1) (by omega))
/-! count -/
theorem l_mcount (hX : Ok_X10_count G X 6) (hA : m 42 0 0 = A) (hI : InvA A C D) (hR0 : JRt G X (pi (fun r m' => r = cntI (wdA A) (A 2) ∧ FrQ m m')) (some .int)) : ∀ i, 0 ≤ i → i ≤ A 2 → ∀ M, FrM T48 m M → J G X 80 [vr 40 0 0, vi x, vi (cntI (wdA A) i), vi i] [] M := by
  have h0 := hI.1
  refine up_to (fun i h1 h2 ih M hfr => ?_)
  have hA' := hfr.a42 hA T48_42
  have hb := cntI_b (P := wdA A) h1
  refine J_iloadN hX rfl rfl dX10_count_80 ?_
  refine J_aloadN hX rfl rfl dX10_count_81 ?_
  refine G_HalfHereModel_s hX dX10_count_82 mF_X10_13 ?_
  refine J_iconst hX (by decide) dX10_count_85 ?_
  refine L_42 hX (by omega) dX10_count_86 ?_
  rw [hA']
  refine J_icmp_ge (tgt := 117) hX (by decide) dX10_count_87 (fun h3 => ?_) (fun h3 => ?_)
  · have e : i = A 2 := by omega
    subst e
    refine J_iloadN hX rfl rfl dX10_count_117 ?_
    exact J_iret hX hR0 dX10_count_118 (⟨_, rfl, rfl, hfr.q T48q⟩)
  · have hw : inN i (A 2) := ⟨h1, by omega⟩
    refine J_aloadN hX rfl rfl dX10_count_90 ?_
    refine J_iloadN hX rfl rfl dX10_count_91 ?_
    refine cV1u hX cb_X10_gathers mL_X10_158 dX10_count_92 (c_gathers hA' hI hw) (fun m2 hm2 => ?_)
    have hfr2 := hfr.tr hm2.1
    refine J_iloadN hX rfl rfl dX10_count_95 ?_
    refine J_aloadN hX rfl rfl dX10_count_96 ?_
    refine J_iloadN hX rfl rfl dX10_count_97 ?_
    refine cV1i hX cb_X10_isDoneNow mL_X10_180 dX10_count_98 (c_isDoneNow (hfr2.a42 hA T48_42) hm2.2 (by omega) (okNSg hI hw) (gaH_b hI (by omega))) (fun r m3 hm3 => ?_)
    obtain ⟨rfl, hf3, -⟩ := hm3
    have eq : doneS (aW A i 0) (nW A i) (gaS A i 24) (gaH A i 24) = wdA A i := rfl
    rw [eq]
    have nx := ih (by omega) m3 (hfr2.tr hf3)
    refine J_ifb_eq (tgt := 108) hX (by decide) dX10_count_101 (fun h4 => ?_) (fun h4 => ?_)
    · rw [cntI_f h1 h4] at nx
      refine J_iconst hX (by decide) dX10_count_108 ?_
      refine J_iadd hX (fun _ _ => by omega) dX10_count_109 ?_
      refine siN_2 hX dX10_count_110 ?_
      refine sinc_3 hX (fun _ => by omega) dX10_count_111 ?_
      refine J_goto (tgt := 80) hX (by decide) dX10_count_114 ?_
      rw [Int.add_zero]
      exact nx
    · rw [cntI_t h1 h4] at nx
      refine J_iconst hX (by decide) dX10_count_104 ?_
      refine J_goto (tgt := 109) hX (by decide) dX10_count_105 ?_
      refine J_iadd hX (fun _ _ => by omega) dX10_count_109 ?_
      refine siN_2 hX dX10_count_110 ?_
      refine sinc_3 hX (fun _ => by omega) dX10_count_111 ?_
      refine J_goto (tgt := 80) hX (by decide) dX10_count_114 ?_
      exact nx
theorem c_mcount {rl tl : Int} (hA : m 42 0 0 = A) (hI : InvA A C D) (hr : m 40 0 0 19 = rl) (ht : m 40 0 0 7 = tl) : K_X10_count G [vr 40 0 0, vi x] m (pi (fun r m' => r = countA A (m 41 0 0) rl tl x ∧ FrQ m m')) := by
  refine E_X10_count (fun X hX hR0 _ _ => ?_)
  have h0 := hI.1
  have K22 : ¬ (10 < x ∧ x < 17) → J G X 22 [vr 40 0 0, vi x, vx, vx] [] m := fun hn => by
    by_cases hx : inN x 7
    · rcases (show x = 0 ∨ x = 1 ∨ x = 2 ∨ x = 3 ∨ x = 4 ∨ x = 5 ∨ x = 6 by omega) with rfl | rfl | rfl | rfl | rfl | rfl | rfl
      · refine J_iloadN hX rfl rfl dX10_count_22 ?_
        refine J_tableIn (off := 41) (tgt := 64) hX (by omega) (by omega) rfl (by decide) dX10_count_23 ?_
        refine J_aloadN hX rfl rfl dX10_count_64 ?_
        refine G_HalfHereModel_s hX dX10_count_65 mF_X10_13 ?_
        refine J_iloadN hX rfl rfl dX10_count_68 ?_
        refine L_42 hX (by omega) dX10_count_69 ?_
        rw [hA]
        exact J_iret hX hR0 dX10_count_70 (⟨_, rfl, by unfold countA; rw [if_neg hn, if_pos (Or.inl rfl)], FrQ.rf⟩)
      · refine J_iloadN hX rfl rfl dX10_count_22 ?_
        refine J_tableIn (off := 41) (tgt := 64) hX (by omega) (by omega) rfl (by decide) dX10_count_23 ?_
        refine J_aloadN hX rfl rfl dX10_count_64 ?_
        refine G_HalfHereModel_s hX dX10_count_65 mF_X10_13 ?_
        refine J_iloadN hX rfl rfl dX10_count_68 ?_
        refine L_42 hX (by omega) dX10_count_69 ?_
        rw [hA]
        exact J_iret hX hR0 dX10_count_70 (⟨_, rfl, by unfold countA; rw [if_neg hn, if_pos (Or.inr (Or.inl rfl))], FrQ.rf⟩)
      · refine J_iloadN hX rfl rfl dX10_count_22 ?_
        refine J_tableIn (off := 41) (tgt := 64) hX (by omega) (by omega) rfl (by decide) dX10_count_23 ?_
        refine J_aloadN hX rfl rfl dX10_count_64 ?_
        refine G_HalfHereModel_s hX dX10_count_65 mF_X10_13 ?_
        refine J_iloadN hX rfl rfl dX10_count_68 ?_
        refine L_42 hX (by omega) dX10_count_69 ?_
        rw [hA]
        exact J_iret hX hR0 dX10_count_70 (⟨_, rfl, by unfold countA; rw [if_neg hn, if_pos (Or.inr (Or.inr rfl))], FrQ.rf⟩)
      · refine J_iloadN hX rfl rfl dX10_count_22 ?_
        refine J_tableIn (off := 48) (tgt := 71) hX (by omega) (by omega) rfl (by decide) dX10_count_23 ?_
        refine J_aloadN hX rfl rfl dX10_count_71 ?_
        refine cV0w hX cb_X10_parts mL_X10_242 dX10_count_72 (c_mparts hA) ?_
        exact J_iret hX hR0 dX10_count_75 (⟨_, rfl, by unfold countA; rw [if_neg hn, if_neg (by omega), if_pos rfl], FrQ.rf⟩)
      · refine J_iloadN hX rfl rfl dX10_count_22 ?_
        refine J_tableIn (off := 53) (tgt := 76) hX (by omega) (by omega) rfl (by decide) dX10_count_23 ?_
        refine J_iconst hX (by decide) dX10_count_76 ?_
        refine siN_2 hX dX10_count_77 ?_
        refine J_iconst hX (by decide) dX10_count_78 ?_
        refine siN_3 hX dX10_count_79 ?_
        refine l_mcount (A := A) hX hA hI (by
          have e : countA A (m 41 0 0) rl tl 4 = cntI (wdA A) (A 2) := by unfold countA; rw [if_neg hn, if_neg (by omega), if_neg (by omega), if_pos rfl]
          rw [e] at hR0
          exact hR0) 0 (by omega) (by omega) m FrM.rf
      · refine J_iloadN hX rfl rfl dX10_count_22 ?_
        refine J_tableIn (off := 96) (tgt := 119) hX (by omega) (by omega) rfl (by decide) dX10_count_23 ?_
        refine J_aloadN hX rfl rfl dX10_count_119 ?_
        refine G_HalfHereModel_rowed hX dX10_count_120 mF_X10_235 ?_
        exact J_iret hX hR0 dX10_count_123 (⟨_, rfl, by unfold countA; rw [if_neg hn, if_neg (by omega), if_neg (by omega), if_neg (by omega), if_pos rfl]; exact hr, FrQ.rf⟩)
      · refine J_iloadN hX rfl rfl dX10_count_22 ?_
        refine J_tableIn (off := 101) (tgt := 124) hX (by omega) (by omega) rfl (by decide) dX10_count_23 ?_
        refine J_aloadN hX rfl rfl dX10_count_124 ?_
        refine G_HalfHereModel_taped hX dX10_count_125 mF_X10_58 ?_
        exact J_iret hX hR0 dX10_count_128 (⟨_, rfl, by unfold countA; rw [if_neg hn, if_neg (by omega), if_neg (by omega), if_neg (by omega), if_neg (by omega), if_pos rfl]; exact ht, FrQ.rf⟩)
    · refine J_iloadN hX rfl rfl dX10_count_22 ?_
      refine J_tableOut (tgt := 129) hX (by omega) (by decide) dX10_count_23 ?_
      refine J_bipush hX (by decide) dX10_count_129 ?_
      exact J_iret hX hR0 dX10_count_131 (⟨_, rfl, by unfold countA; rw [if_neg hn, if_neg (by omega), if_neg (by omega), if_neg (by omega), if_neg (by omega), if_neg (by omega)], FrQ.rf⟩)
  refine J_iloadN hX rfl rfl dX10_count_0 ?_
  refine J_bipush hX (by decide) dX10_count_1 ?_
  refine J_icmp_le (tgt := 22) hX (by decide) dX10_count_3 (fun h1 => ?_) (fun h1 => ?_)
  · exact K22 (by omega)
  · refine J_iloadN hX rfl rfl dX10_count_6 ?_
    refine J_bipush hX (by decide) dX10_count_7 ?_
    refine J_icmp_ge (tgt := 22) hX (by decide) dX10_count_9 (fun h2 => ?_) (fun h2 => ?_)
    · exact K22 (by omega)
    · refine J_aloadN hX rfl rfl dX10_count_12 ?_
      refine G_HalfHereModel_refusals hX dX10_count_13 mF_X10_7 ?_
      refine J_iloadN hX rfl rfl dX10_count_16 ?_
      refine J_bipush hX (by decide) dX10_count_17 ?_
      refine J_isub hX (fun _ _ => by omega) dX10_count_19 ?_
      refine L_41 hX (by omega) dX10_count_20 ?_
      exact J_iret hX hR0 dX10_count_21 (⟨_, rfl, by unfold countA; rw [if_pos (by omega)], FrQ.rf⟩)
end Mod
