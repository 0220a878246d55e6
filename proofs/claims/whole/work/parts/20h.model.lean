/-! ===== 20h: the reference's search: quartersFrom, best, quarters ===== -/
section Mod
variable {G : GC} {X : JX} {m : HM} {κ p t τ w x y z i k q b : Int} {A N S g F : Int → Int} {H C D : Int}
theorem okB_9 (z : Int → Int) : okB (-9, z) := ⟨by show (-9 : Int) ≤ -9; omega, by show (-9 : Int) ≤ 594; omega⟩
/-- nothing is set from p, w on -/
def zFrom (F : Int → Int) (p w : Int) : Prop := ∀ j, 6 * p + w ≤ j → j < 36 → F j = 0
theorem RelB.frQ {m m' : HM} {s : Int × (Int → Int)} (h : RelB m s) (h17 : m' 40 0 0 17 = m 40 0 0 17) (h51 : m' 51 0 0 = m 51 0 0) : RelB m' s := ⟨h17.trans h.1, fun j hj => by rw [h51]; exact h.2 j hj⟩
/-- what a call from p, w on does -/
def QC (G : GC) (d : Nat) (A : Int → Int) (p w left : Int) (L : (Int → Int) → List (Int → Int)) : Prop := ∀ (m : HM) (F : Int → Int) (s : Int × (Int → Int)), m 42 0 0 = A → RelSh m F → okQ F → zFrom F p w → RelB m s → okB s → Kd_X10_quartersFrom G d [vr 40 0 0, vi p, vi w, vi left] m (pu (qfP m A F s (L F)))
theorem l_qf2 {s : Int × (Int → Int)} {d : Nat} {m0 : HM} {c : HV} {L : Int → (Int → Int) → List (Int → Int)} (hX : Ok_X10_quartersFrom G X d) (hd : 2 ≤ d) (hI : InvA A C D) (hp : inN p (A 1)) (hw : inN w (A 2)) (hl : 0 ≤ x ∧ x ≤ 4) (hA : m0 42 0 0 = A) (ho : okQ F) (hz : zFrom F p w)
    (hQ : ∀ n, 0 ≤ n → n ≤ x → QC G (d - 1) A p (w + 1) (x - n) (L n)) (hR0 : JRt G X (pu (fun m' => FrQ m0 m' ∧ RelSh m' F ∧ RelB m' (vsL A s (upL (fun n => L n (st1 F (6 * p + w) n)) 0 (x + 1).toNat)))) none) : ∀ i, 0 ≤ i → i ≤ x + 1 → ∀ M s', FrQ m0 M → (∀ j, inN j 36 → j ≠ 6 * p + w → M 49 0 0 j = F j) → RelB M s' → okB s' → vsL A s (upL (fun n => L n (st1 F (6 * p + w) n)) 0 (x + 1).toNat) = vsL A s' (upL (fun n => L n (st1 F (6 * p + w) n)) i (x + 1 - i).toNat) → J G X 86 [vr 40 0 0, vi p, vi w, vi x, vi i, c] [] M := by
  have h0 := hI.1
  have hF0 : F (6 * p + w) = 0 := hz _ (by omega) (by omega)
  refine up_to (fun i h1 h2 ih M s' hfr hF hB hb he => ?_)
  have hA' := hfr.a42 hA
  refine J_iload hX rfl dX10_quartersFrom_86 ?_
  refine J_iloadN hX rfl rfl dX10_quartersFrom_88 ?_
  refine J_icmp_gt (tgt := 123) hX (by decide) dX10_quartersFrom_89 (fun h3 => ?_) (fun h3 => ?_)
  · have e : (x + 1 - i).toNat = 0 := by omega
    rw [e] at he
    refine J_aloadN hX rfl rfl dX10_quartersFrom_123 ?_
    refine G_HalfHereModel_share hX dX10_quartersFrom_124 mF_X10_34 ?_
    refine J_bipush hX (by decide) dX10_quartersFrom_127 ?_
    refine J_iloadN hX rfl rfl dX10_quartersFrom_129 ?_
    refine J_imul hX (fun _ _ => by omega) dX10_quartersFrom_130 ?_
    refine J_iloadN hX rfl rfl dX10_quartersFrom_131 ?_
    refine J_iadd hX (fun _ _ => by omega) dX10_quartersFrom_132 ?_
    refine J_iconst hX (by decide) dX10_quartersFrom_133 ?_
    refine S_49 hX (by omega) dX10_quartersFrom_134 ?_
    refine J_vret hX hR0 dX10_quartersFrom_135 ?_
    refine puI ⟨hfr.up (by omega), fun j hj => ?_, ?_⟩
    · rw [upr_eq]
      by_cases q : j = 6 * p + w
      · rw [q, st1_eq, hF0]
      · rw [st1_ne q, hF j hj q]
    · rw [he]
      exact hB.frQ (by rw [upr_tag (by decide)]) (by rw [upr_tag (by decide)])
  · have e : (x + 1 - i).toNat = (x + 1 - (i + 1)).toNat + 1 := by omega
    rw [e] at he
    have hF2 : RelSh (upr M 49 0 0 (st1 (M 49 0 0) (6 * p + w) i)) (st1 F (6 * p + w) i) := fun j hj => by
      rw [upr_eq]
      by_cases q : j = 6 * p + w
      · rw [q, st1_eq, st1_eq]
      · rw [st1_ne q, st1_ne q, hF j hj q]
    refine J_aloadN hX rfl rfl dX10_quartersFrom_92 ?_
    refine G_HalfHereModel_share hX dX10_quartersFrom_93 mF_X10_34 ?_
    refine J_bipush hX (by decide) dX10_quartersFrom_96 ?_
    refine J_iloadN hX rfl rfl dX10_quartersFrom_98 ?_
    refine J_imul hX (fun _ _ => by omega) dX10_quartersFrom_99 ?_
    refine J_iloadN hX rfl rfl dX10_quartersFrom_100 ?_
    refine J_iadd hX (fun _ _ => by omega) dX10_quartersFrom_101 ?_
    refine J_iload hX rfl dX10_quartersFrom_102 ?_
    refine S_49 hX (by omega) dX10_quartersFrom_104 ?_
    refine J_aloadN hX rfl rfl dX10_quartersFrom_105 ?_
    refine J_iloadN hX rfl rfl dX10_quartersFrom_106 ?_
    refine J_iloadN hX rfl rfl dX10_quartersFrom_107 ?_
    refine J_iconst hX (by decide) dX10_quartersFrom_108 ?_
    refine J_iadd hX (fun _ _ => by omega) dX10_quartersFrom_109 ?_
    refine J_iloadN hX rfl rfl dX10_quartersFrom_110 ?_
    refine J_iload hX rfl dX10_quartersFrom_111 ?_
    refine J_isub hX (fun _ _ => by omega) dX10_quartersFrom_113 ?_
    refine cV3u hX cb_X10_quartersFrom mL_X10_215 dX10_quartersFrom_114 (hQ i h1 (by omega) _ _ s' (by rw [upr_tag (by decide)]; exact hA') hF2 (ho.st (by omega)) (fun j a b => by rw [st1_ne (by omega)]; exact hz j (by omega) b) (hB.frQ (by rw [upr_tag (by decide)]) (by rw [upr_tag (by decide)])) hb) (fun m2 hm2 => ?_)
    have hfr2 : FrQ m0 m2 := (hfr.up (t := 49) (by omega)).tr hm2.1
    refine sinc_4 hX (fun _ => by omega) dX10_quartersFrom_117 ?_
    refine J_goto (tgt := 86) hX (by decide) dX10_quartersFrom_120 ?_
    refine ih (by omega) m2 _ hfr2 (fun j hj q => ?_) hm2.2.2 (okB_vsL hI hb _) ?_
    · rw [hm2.2.1 j hj, st1_ne q]
    · rw [he, ← vsL_app]
      rfl
theorem c_qf : ∀ (j : Nat), ∀ p, p + j = A 1 → 0 ≤ p → InvA A C D → ∀ d, 8 * j + 8 ≤ d → QC G d A p 0 4 (qL (A 2).toNat j p) := by
  intro j
  induction j with
  | zero =>
    intro p hp h1 hI d hd m F s hA hF ho hz hB hb
    have e : p = A 1 := by omega
    subst e
    exact c_qf0 hd hA hI hF ho hB
  | succ j ihj =>
    intro p hp h1 hI d hd
    have h0 := hI.1
    have hpn : inN p (A 1) := by omega
    have row : ∀ (k : Nat), ∀ w x, w + k = A 2 → 0 ≤ w → 0 ≤ x → x ≤ 4 → ∀ d, 8 * j + 9 + k ≤ d → QC G d A p w x (rwL (qL (A 2).toNat j (p + 1)) p k w x) := by
      intro k
      induction k with
      | zero =>
        intro w x hw h2 h3 h4 d hd m F s hA hF ho hz hB hb
        refine E_X10_quartersFrom (fun X hX hR0 _ _ => ?_)
        refine J_iloadN hX rfl rfl dX10_quartersFrom_0 ?_
        refine J_aloadN hX rfl rfl dX10_quartersFrom_1 ?_
        refine G_HalfHereModel_s hX dX10_quartersFrom_2 mF_X10_13 ?_
        refine J_iconst hX (by decide) dX10_quartersFrom_5 ?_
        refine L_42 hX (by omega) dX10_quartersFrom_6 ?_
        rw [hA]
        refine J_icmp_ne (tgt := 63) hX (by decide) dX10_quartersFrom_7 (fun h5 => ?_) (fun h5 => ?_)
        · refine J_iloadN hX rfl rfl dX10_quartersFrom_63 ?_
          refine J_aloadN hX rfl rfl dX10_quartersFrom_64 ?_
          refine G_HalfHereModel_s hX dX10_quartersFrom_65 mF_X10_13 ?_
          refine J_iconst hX (by decide) dX10_quartersFrom_68 ?_
          refine L_42 hX (by omega) dX10_quartersFrom_69 ?_
          rw [hA]
          refine J_icmp_ne (tgt := 83) hX (by decide) dX10_quartersFrom_70 (fun h6 => ?_) (fun h6 => ?_)
          · omega
          · refine J_aloadN hX rfl rfl dX10_quartersFrom_73 ?_
            refine J_iloadN hX rfl rfl dX10_quartersFrom_74 ?_
            refine J_iconst hX (by decide) dX10_quartersFrom_75 ?_
            refine J_iadd hX (fun _ _ => by omega) dX10_quartersFrom_76 ?_
            refine J_iconst hX (by decide) dX10_quartersFrom_77 ?_
            refine J_iconst hX (by decide) dX10_quartersFrom_78 ?_
            refine cV3u hX cb_X10_quartersFrom mL_X10_215 dX10_quartersFrom_79 (ihj (p + 1) (by omega) (by omega) hI (d - 1) (by omega) m F s hA hF ho (fun j' a b => hz j' (by omega) b) hB hb) (fun m2 hm2 => ?_)
            exact J_vret hX hR0 dX10_quartersFrom_82 (puI hm2)
        · omega
      | succ k ihk =>
        intro w x hw h2 h3 h4 d hd m F s hA hF ho hz hB hb
        refine E_X10_quartersFrom (fun X hX hR0 _ _ => ?_)
        refine J_iloadN hX rfl rfl dX10_quartersFrom_0 ?_
        refine J_aloadN hX rfl rfl dX10_quartersFrom_1 ?_
        refine G_HalfHereModel_s hX dX10_quartersFrom_2 mF_X10_13 ?_
        refine J_iconst hX (by decide) dX10_quartersFrom_5 ?_
        refine L_42 hX (by omega) dX10_quartersFrom_6 ?_
        rw [hA]
        refine J_icmp_ne (tgt := 63) hX (by decide) dX10_quartersFrom_7 (fun h5 => ?_) (fun h5 => ?_)
        · refine J_iloadN hX rfl rfl dX10_quartersFrom_63 ?_
          refine J_aloadN hX rfl rfl dX10_quartersFrom_64 ?_
          refine G_HalfHereModel_s hX dX10_quartersFrom_65 mF_X10_13 ?_
          refine J_iconst hX (by decide) dX10_quartersFrom_68 ?_
          refine L_42 hX (by omega) dX10_quartersFrom_69 ?_
          rw [hA]
          refine J_icmp_ne (tgt := 83) hX (by decide) dX10_quartersFrom_70 (fun h6 => ?_) (fun h6 => ?_)
          · skip
            refine J_iconst hX (by decide) dX10_quartersFrom_83 ?_
            refine si_4 hX dX10_quartersFrom_84 ?_
            refine l_qf2 (s := s) (L := fun n => rwL (qL (A 2).toNat j (p + 1)) p k (w + 1) (x - n)) hX (by omega) hI hpn (by omega) ⟨h3, h4⟩ hA ho hz (fun n a b => ihk (w + 1) (x - n) (by omega) (by omega) (by omega) (by omega) (d - 1) (by omega)) hR0 0 (by omega) (by omega) m s FrQ.rf (fun j' hj' _ => hF j' hj') hB hb ?_
            rw [Int.sub_zero]
          · omega
        · omega
    have := row (A 2).toNat 0 4 (by omega) (by omega) (by omega) (by omega) d (by omega)
    exact this
/-- the best: its worth, its shares -/
noncomputable def bestF (A : Int → Int) (z : Int → Int) : Int × (Int → Int) := vsL A (-9, z) (qL (A 2).toNat (A 1).toNat 0 zF)
theorem l_findsBest (hX : Ok_X10_findsBest G X 51) (K21 : ∀ M b, FrQ m M → RelSh M zF → J G X 21 [vr 40 0 0, b] [] M) : ∀ i, 0 ≤ i → i ≤ 36 → ∀ M, FrQ m M → (∀ j, inN j i → M 49 0 0 j = 0) → J G X 2 [vr 40 0 0, vi i] [] M := by
  refine up_to (fun i h1 h2 ih M hfr hs => ?_)
  refine J_iloadN hX rfl rfl dX10_findsBest_2 ?_
  refine J_bipush hX (by decide) dX10_findsBest_3 ?_
  refine J_icmp_ge (tgt := 21) hX (by decide) dX10_findsBest_5 (fun h3 => ?_) (fun h3 => ?_)
  · exact K21 M _ hfr (fun j hj => hs j (by omega))
  · refine J_aloadN hX rfl rfl dX10_findsBest_8 ?_
    refine G_HalfHereModel_share hX dX10_findsBest_9 mF_X10_34 ?_
    refine J_iloadN hX rfl rfl dX10_findsBest_12 ?_
    refine J_iconst hX (by decide) dX10_findsBest_13 ?_
    refine S_49 hX (by omega) dX10_findsBest_14 ?_
    refine sinc_1 hX (fun _ => by omega) dX10_findsBest_15 ?_
    refine J_goto (tgt := 2) hX (by decide) dX10_findsBest_18 ?_
    refine ih h3 _ (hfr.up (by omega)) (fun j hj => ?_)
    rw [upr_eq]
    by_cases e : j = i
    · rw [e, st1_eq]
    · rw [st1_ne e]; exact hs j (by omega)
def few3 (A : Int → Int) : Prop := A 1 ≤ 3 ∧ A 2 ≤ 3
theorem c_findsBest (hA : m 42 0 0 = A) (hI : InvA A C D) (h3 : few3 A) : K_X10_findsBest G [vr 40 0 0] m (pu (fun m' => FrQ m m' ∧ ∃ z, RelB m' (bestF A z))) := by
  refine E_X10_findsBest (fun X hX hR0 _ _ => ?_)
  have h0 := hI.1
  obtain ⟨h31, h32⟩ := h3
  refine J_iconst hX (by decide) dX10_findsBest_0 ?_
  refine siN_1 hX dX10_findsBest_1 ?_
  refine l_findsBest hX (fun M b hfr hF => ?_) 0 (by omega) (by omega) m FrQ.rf (fun j hj => by omega)
  refine J_aloadN hX rfl rfl dX10_findsBest_21 ?_
  refine J_bipush hX (by decide) dX10_findsBest_22 ?_
  refine P_HalfHereModel_bestWorth hX dX10_findsBest_24 mF_X10_212 ?_
  refine J_aloadN hX rfl rfl dX10_findsBest_27 ?_
  refine J_iconst hX (by decide) dX10_findsBest_28 ?_
  refine J_iconst hX (by decide) dX10_findsBest_29 ?_
  refine J_iconst hX (by decide) dX10_findsBest_30 ?_
  refine cV3u hX cb_X10_quartersFrom mL_X10_215 dX10_findsBest_31 (c_qf (A 1).toNat 0 (by omega) (by omega) hI 50 (by omega) _ zF (-9, M 51 0 0) (by rw [upr_tag (by decide)]; exact hfr.a42 hA) (fun j hj => by rw [upr_tag (by decide)]; exact hF j hj) okQ_z (fun j a b => rfl) ⟨by rw [upr_eq, st1_eq], fun j hj => by rw [upr_tag (by decide)]⟩ (okB_9 _)) (fun m2 hm2 => ?_)
  exact J_vret hX hR0 dX10_findsBest_34 (puI ⟨(hfr.fld (by omega)).tr hm2.1, _, hm2.2.2⟩)
theorem c_areFew (hA : m 42 0 0 = A) : K_X10_areFew G [vr 40 0 0] m (pw (vi (bi (few3 A))) m) := by
  refine E_X10_areFew (fun X hX hR0 _ _ => ?_)
  refine J_aloadN hX rfl rfl dX10_areFew_0 ?_
  refine G_HalfHereModel_s hX dX10_areFew_1 mF_X10_13 ?_
  refine J_iconst hX (by decide) dX10_areFew_4 ?_
  refine L_42 hX (by omega) dX10_areFew_5 ?_
  refine J_iconst hX (by decide) dX10_areFew_6 ?_
  rw [hA]
  refine J_icmp_gt (tgt := 24) hX (by decide) dX10_areFew_7 (fun h1 => ?_) (fun h1 => ?_)
  · refine J_iconst hX (by decide) dX10_areFew_24 ?_
    exact J_zret hX hR0 dX10_areFew_25 (Or.inl rfl) (pwb0 (fun q => by have := q.1; omega))
  · refine J_aloadN hX rfl rfl dX10_areFew_10 ?_
    refine G_HalfHereModel_s hX dX10_areFew_11 mF_X10_13 ?_
    refine J_iconst hX (by decide) dX10_areFew_14 ?_
    refine L_42 hX (by omega) dX10_areFew_15 ?_
    rw [hA]
    refine J_iconst hX (by decide) dX10_areFew_16 ?_
    refine J_icmp_gt (tgt := 24) hX (by decide) dX10_areFew_17 (fun h2 => ?_) (fun h2 => ?_)
    · refine J_iconst hX (by decide) dX10_areFew_24 ?_
      exact J_zret hX hR0 dX10_areFew_25 (Or.inl rfl) (pwb0 (fun q => by have := q.2; omega))
    · refine J_iconst hX (by decide) dX10_areFew_20 ?_
      refine J_goto (tgt := 25) hX (by decide) dX10_areFew_21 ?_
      exact J_zret hX hR0 dX10_areFew_25 (Or.inr rfl) (pwb1 ⟨by omega, by omega⟩)
noncomputable def rfBest (A : Int → Int) : Int := ifP (few3 A) 0 (-6)
noncomputable def rfQuarters (A : Int → Int) (p w : Int) : Int := if inN p (A 1) ∧ inN w (A 2) then ifP (few3 A) 0 (-6) else -1
/-- an answer that the search finds -/
def anB (m : HM) (A : Int → Int) (ref : Int) (f : Int × (Int → Int) → Int) : Int → HM → Prop := fun r m' => (ref ≠ 0 ∧ r = ref ∧ FrQ (refM m 41 ref) m') ∨ (ref = 0 ∧ (∃ z, r = f (bestF A z)) ∧ FrQ m m')
theorem anB.no {A : Int → Int} {f : Int × (Int → Int) → Int} {m : HM} {ref x : Int} (h : ref = x) (hx : x ≠ 0) : pi (anB m A ref f) (some (vi x)) (refM m 41 x) := ⟨x, rfl, Or.inl ⟨by rw [h]; exact hx, h.symm, by rw [h]; exact FrQ.rf⟩⟩
theorem c_mbest (hA : m 42 0 0 = A) (hI : InvA A C D) (hf : few41 m) : K_X10_best G [vr 40 0 0] m (pi (anB m A (rfBest A) (fun s => s.1))) := by
  refine E_X10_best (fun X hX hR0 _ _ => ?_)
  refine J_aloadN hX rfl rfl dX10_best_0 ?_
  refine cV0w hX cb_X10_areFew mL_X10_218 dX10_best_1 (c_areFew hA) ?_
  refine J_ifb_ne (tgt := 14) hX (by decide) dX10_best_4 (fun h1 => ?_) (fun h1 => ?_)
  · refine J_aloadN hX rfl rfl dX10_best_14 ?_
    refine cV0u hX cb_X10_findsBest mL_X10_221 dX10_best_15 (c_findsBest hA hI h1) (fun m2 hm2 => ?_)
    obtain ⟨hfr, z, hB⟩ := hm2
    refine J_aloadN hX rfl rfl dX10_best_18 ?_
    refine G_HalfHereModel_bestWorth hX dX10_best_19 mF_X10_212 ?_
    exact J_iret hX hR0 dX10_best_22 (⟨_, rfl, Or.inr ⟨ifP_pos h1, ⟨z, hB.1⟩, hfr⟩⟩)
  · refine J_aloadN hX rfl rfl dX10_best_7 ?_
    refine J_bipush hX (by decide) dX10_best_8 ?_
    refine cV1w hX cb_X10_refuse mL_X10_62 dX10_best_10 (c_mrefuse (by omega) (hf _ (by omega))) ?_
    exact J_iret hX hR0 dX10_best_13 (anB.no (ifP_neg h1) (by omega))
theorem c_mquarters (hA : m 42 0 0 = A) (hI : InvA A C D) (hf : few41 m) : K_X10_quarters G [vr 40 0 0, vi p, vi w] m (pi (anB m A (rfQuarters A p w) (fun s => s.2 (6 * p + w)))) := by
  refine E_X10_quarters (fun X hX hR0 _ _ => ?_)
  have h0 := hI.1
  have no : ¬ (inN p (A 1) ∧ inN w (A 2)) → J G X 16 [vr 40 0 0, vi p, vi w, vx] [] m := fun h2 => by
    refine J_iconst hX (by decide) dX10_quarters_16 ?_
    refine J_goto (tgt := 33) hX (by decide) dX10_quarters_17 ?_
    refine siN_3 hX dX10_quarters_33 ?_
    refine J_iloadN hX rfl rfl dX10_quarters_34 ?_
    refine J_if_eq (tgt := 44) hX (by decide) dX10_quarters_35 (fun h9 => ?_) (fun h9 => ?_)
    · omega
    · refine J_aloadN hX rfl rfl dX10_quarters_38 ?_
      refine J_iloadN hX rfl rfl dX10_quarters_39 ?_
      refine cV1w hX cb_X10_refuse mL_X10_62 dX10_quarters_40 (c_mrefuse (by omega) (hf _ (by omega))) ?_
      exact J_iret hX hR0 dX10_quarters_43 (anB.no (by unfold rfQuarters; rw [if_neg h2]) (by omega))
  refine J_aloadN hX rfl rfl dX10_quarters_0 ?_
  refine J_iloadN hX rfl rfl dX10_quarters_1 ?_
  refine cV1w hX cb_X10_isPerson mL_X10_103 dX10_quarters_2 (c_isPerson hA) ?_
  refine J_ifb_eq (tgt := 16) hX (by decide) dX10_quarters_5 (fun h2 => ?_) (fun h2 => ?_)
  · exact no (fun q => h2 q.1)
  · refine J_aloadN hX rfl rfl dX10_quarters_8 ?_
    refine J_iloadN hX rfl rfl dX10_quarters_9 ?_
    refine cV1w hX cb_X10_isWork mL_X10_115 dX10_quarters_10 (c_isWork hA) ?_
    refine J_ifb_ne (tgt := 20) hX (by decide) dX10_quarters_13 (fun h3 => ?_) (fun h3 => ?_)
    · refine J_aloadN hX rfl rfl dX10_quarters_20 ?_
      refine cV0w hX cb_X10_areFew mL_X10_218 dX10_quarters_21 (c_areFew hA) ?_
      refine J_ifb_eq (tgt := 31) hX (by decide) dX10_quarters_24 (fun h1 => ?_) (fun h1 => ?_)
      · refine J_bipush hX (by decide) dX10_quarters_31 ?_
        refine siN_3 hX dX10_quarters_33 ?_
        refine J_iloadN hX rfl rfl dX10_quarters_34 ?_
        refine J_if_eq (tgt := 44) hX (by decide) dX10_quarters_35 (fun h9 => ?_) (fun h9 => ?_)
        · omega
        · refine J_aloadN hX rfl rfl dX10_quarters_38 ?_
          refine J_iloadN hX rfl rfl dX10_quarters_39 ?_
          refine cV1w hX cb_X10_refuse mL_X10_62 dX10_quarters_40 (c_mrefuse (by omega) (hf _ (by omega))) ?_
          exact J_iret hX hR0 dX10_quarters_43 (anB.no (by unfold rfQuarters; rw [if_pos ⟨h2, h3⟩, ifP_neg h1]) (by omega))
      · refine J_iconst hX (by decide) dX10_quarters_27 ?_
        refine J_goto (tgt := 33) hX (by decide) dX10_quarters_28 ?_
        refine siN_3 hX dX10_quarters_33 ?_
        refine J_iloadN hX rfl rfl dX10_quarters_34 ?_
        refine J_if_eq (tgt := 44) hX (by decide) dX10_quarters_35 (fun h9 => ?_) (fun h9 => ?_)
        · refine J_aloadN hX rfl rfl dX10_quarters_44 ?_
          refine cV0u hX cb_X10_findsBest mL_X10_221 dX10_quarters_45 (c_findsBest hA hI h1) (fun m2 hm2 => ?_)
          obtain ⟨hfr, z, hB⟩ := hm2
          refine J_aloadN hX rfl rfl dX10_quarters_48 ?_
          refine G_HalfHereModel_bestShare hX dX10_quarters_49 mF_X10_40 ?_
          refine J_bipush hX (by decide) dX10_quarters_52 ?_
          refine J_iloadN hX rfl rfl dX10_quarters_54 ?_
          refine J_imul hX (fun _ _ => by omega) dX10_quarters_55 ?_
          refine J_iloadN hX rfl rfl dX10_quarters_56 ?_
          refine J_iadd hX (fun _ _ => by omega) dX10_quarters_57 ?_
          refine L_51 hX (by omega) dX10_quarters_58 ?_
          exact J_iret hX hR0 dX10_quarters_59 (⟨_, rfl, Or.inr ⟨by unfold rfQuarters; rw [if_pos ⟨h2, h3⟩, ifP_pos h1], ⟨z, hB.2 _ (by omega)⟩, hfr⟩⟩)
        · omega
    · exact no (fun q => h3 q.2)
end Mod
