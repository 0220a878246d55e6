/-! ===== 20i: the reference: canAll, must ===== -/
theorem sd_shr {a p : Int} (ha : inN a 64) (hp : inN p 6) : Int32.ofInt a >>> (Int32.ofInt p &&& 31) = Int32.ofInt (a / p2 p) ∧ inR (a / p2 p) := by
  have h := bits_shr a.toNat (by omega) p.toNat (by omega)
  rw [Int.toNat_of_nonneg ha.1, Int.toNat_of_nonneg hp.1] at h
  have e : ((a.toNat / 2 ^ p.toNat : Nat) : Int) = a / p2 p := by
    unfold p2
    rw [Int.natCast_ediv, Int.toNat_of_nonneg ha.1]
  rw [e] at h
  refine ⟨h, ?_⟩
  have h2 := p2_b hp
  have h3 := Int.ediv_nonneg ha.1 (show 0 ≤ p2 p by omega)
  have h4 := Int.ediv_le_self (p2 p) ha.1
  omega
theorem shr_b {a p : Int} (ha : inN a 64) (hp : inN p 6) : inN (a / p2 p) 64 := by
  have h2 := p2_b hp
  have h3 := Int.ediv_nonneg ha.1 (show 0 ≤ p2 p by omega)
  have h4 := Int.ediv_le_self (p2 p) ha.1
  omega
/-- p is of the set -/
def inS (a p : Int) : Prop := a / p2 p % 2 = 1
def cA (A : Int → Int) (a : Int) : Nat → Int → (Int → Int) → Prop
  | 0, _, F => ∀ w, inN w (A 2) → aW A w 0 = 1 → dn0 A F w
  | j + 1, p, F => (¬ inS a p ∧ cA A a j (p + 1) F) ∨ (inS a p ∧ ∃ w, inN w (A 2) ∧ aW A w 0 = 1 ∧ cA A a j (p + 1) (st1 F (6 * p + w) 12))
section Mod
variable {G : GC} {X : JX} {m : HM} {κ p t τ w x y z i k q b : Int} {A N S g F : Int → Int} {H C D : Int}
def caP (m : HM) (F : Int → Int) (P : Prop) (r : Int) (m' : HM) : Prop := r = bi P ∧ FrQ m m' ∧ RelSh m' F
def CC (G : GC) (d : Nat) (A : Int → Int) (a p : Int) (P : (Int → Int) → Prop) : Prop := ∀ (m : HM) (F : Int → Int), m 42 0 0 = A → RelSh m F → okSh F → (∀ j, 6 * p ≤ j → j < 36 → F j = 0) → Kd_X10_canAll G d [vr 40 0 0, vi a, vi p] m (pi (caP m F (P F)))
theorem l_can0 {d : Nat} {m0 : HM} {c : HV} (hX : Ok_X10_canAll G X d) (hd : 7 ≤ d) (hA : m0 42 0 0 = A) (hI : InvA A C D) (hF : RelSh m0 F) (ho : okSh F) (hR0 : JRt G X (pi (caP m0 F (∀ w, inN w (A 2) → aW A w 0 = 1 → dn0 A F w))) (some .boolean)) : ∀ i, 0 ≤ i → i ≤ A 2 → ∀ M, FrM T48 m0 M → (∀ w, inN w i → aW A w 0 = 1 → dn0 A F w) → J G X 12 [vr 40 0 0, vi x, vi p, vi i, c] [] M := by
  have h0 := hI.1
  refine up_to (fun i h1 h2 ih M hfr hs => ?_)
  have hA' := hfr.a42 hA T48_42
  have nx : (aW A i 0 = 1 → dn0 A F i) → ∀ w, inN w (i + 1) → aW A w 0 = 1 → dn0 A F w := fun h w hw => by
    by_cases q : w = i
    · rw [q]; exact h
    · exact hs w (by omega)
  refine J_iloadN hX rfl rfl dX10_canAll_12 ?_
  refine J_aloadN hX rfl rfl dX10_canAll_13 ?_
  refine G_HalfHereModel_s hX dX10_canAll_14 mF_X10_13 ?_
  refine J_iconst hX (by decide) dX10_canAll_17 ?_
  refine L_42 hX (by omega) dX10_canAll_18 ?_
  rw [hA']
  refine J_icmp_ge (tgt := 50) hX (by decide) dX10_canAll_19 (fun h3 => ?_) (fun h3 => ?_)
  · have e : i = A 2 := by omega
    subst e
    refine J_iconst hX (by decide) dX10_canAll_50 ?_
    refine J_zret hX hR0 dX10_canAll_51 (Or.inr rfl) ?_
    exact ⟨1, rfl, (bi_pos hs).symm, hfr.q T48q, hF.fr hfr T48_49⟩
  · have hw : inN i (A 2) := ⟨h1, by omega⟩
    refine J_aloadN hX rfl rfl dX10_canAll_22 ?_
    refine J_iloadN hX rfl rfl dX10_canAll_23 ?_
    refine J_iconst hX (by decide) dX10_canAll_24 ?_
    refine cV2w hX cb_X10_of mL_X10_118 dX10_canAll_25 (c_of hA' (by omega) (by omega)) ?_
    refine J_iconst hX (by decide) dX10_canAll_28 ?_
    refine J_icmp_ne (tgt := 44) hX (by decide) dX10_canAll_29 (fun h4 => ?_) (fun h4 => ?_)
    · refine sinc_3 hX (fun _ => by omega) dX10_canAll_44 ?_
      refine J_goto (tgt := 12) hX (by decide) dX10_canAll_47 ?_
      exact ih (by omega) M hfr (nx (fun q => absurd q h4))
    · refine J_aloadN hX rfl rfl dX10_canAll_32 ?_
      refine J_iloadN hX rfl rfl dX10_canAll_33 ?_
      refine J_iconst hX (by decide) dX10_canAll_34 ?_
      refine J_iconst hX (by decide) dX10_canAll_35 ?_
      refine cV3i hX cb_X10_isDoneBy mL_X10_183 dX10_canAll_36 (c_isDoneBy hA' hI (hF.fr hfr T48_49) ho hw (by omega) (by omega)) (fun r m2 hm2 => ?_)
      obtain ⟨rfl, hf2⟩ := hm2
      rw [dnB_0 (by omega)]
      refine J_ifb_ne (tgt := 44) hX (by decide) dX10_canAll_39 (fun h5 => ?_) (fun h5 => ?_)
      · refine sinc_3 hX (fun _ => by omega) dX10_canAll_44 ?_
        refine J_goto (tgt := 12) hX (by decide) dX10_canAll_47 ?_
        exact ih (by omega) m2 (hfr.tr hf2) (nx (fun _ => h5))
      · refine J_iconst hX (by decide) dX10_canAll_42 ?_
        refine J_zret hX hR0 dX10_canAll_43 (Or.inl rfl) ?_
        exact ⟨0, rfl, (bi_neg (fun q => h5 (q i hw (by omega)))).symm, (hfr.tr hf2).q T48q, hF.fr (hfr.tr hf2) T48_49⟩
theorem l_can1 {d : Nat} {m0 : HM} {P : (Int → Int) → Prop} (hX : Ok_X10_canAll G X d) (hd : 4 ≤ d) (hA : m0 42 0 0 = A) (hI : InvA A C D) (hp : inN p (A 1)) (ho : okSh F) (hz : ∀ j, 6 * p ≤ j → j < 36 → F j = 0) (hC : CC G (d - 1) A x (p + 1) P)
    (hR0 : JRt G X (pi (caP m0 F (∃ w, inN w (A 2) ∧ aW A w 0 = 1 ∧ P (st1 F (6 * p + w) 12)))) (some .boolean)) : ∀ i, 0 ≤ i → i ≤ A 2 → ∀ M c, FrQ m0 M → RelSh M F → (∀ w, inN w i → aW A w 0 = 1 → ¬ P (st1 F (6 * p + w) 12)) → J G X 71 [vr 40 0 0, vi x, vi p, vi i, c] [] M := by
  have h0 := hI.1
  refine up_to (fun i h1 h2 ih M c hfr hF hs => ?_)
  have hA' := hfr.a42 hA
  have nx : (aW A i 0 = 1 → ¬ P (st1 F (6 * p + i) 12)) → ∀ w, inN w (i + 1) → aW A w 0 = 1 → ¬ P (st1 F (6 * p + w) 12) := fun h w hw => by
    by_cases q : w = i
    · rw [q]; exact h
    · exact hs w (by omega)
  refine J_iloadN hX rfl rfl dX10_canAll_71 ?_
  refine J_aloadN hX rfl rfl dX10_canAll_72 ?_
  refine G_HalfHereModel_s hX dX10_canAll_73 mF_X10_13 ?_
  refine J_iconst hX (by decide) dX10_canAll_76 ?_
  refine L_42 hX (by omega) dX10_canAll_77 ?_
  rw [hA']
  refine J_icmp_ge (tgt := 142) hX (by decide) dX10_canAll_78 (fun h3 => ?_) (fun h3 => ?_)
  · have e : i = A 2 := by omega
    subst e
    refine J_iconst hX (by decide) dX10_canAll_142 ?_
    refine J_zret hX hR0 dX10_canAll_143 (Or.inl rfl) ?_
    exact ⟨0, rfl, (bi_neg (fun ⟨w, a, b, c⟩ => hs w a b c)).symm, hfr, hF⟩
  · have hw : inN i (A 2) := ⟨h1, by omega⟩
    refine J_aloadN hX rfl rfl dX10_canAll_81 ?_
    refine J_iloadN hX rfl rfl dX10_canAll_82 ?_
    refine J_iconst hX (by decide) dX10_canAll_83 ?_
    refine cV2w hX cb_X10_of mL_X10_118 dX10_canAll_84 (c_of hA' (by omega) (by omega)) ?_
    refine J_iconst hX (by decide) dX10_canAll_87 ?_
    refine J_icmp_eq (tgt := 94) hX (by decide) dX10_canAll_88 (fun h4 => ?_) (fun h4 => ?_)
    · refine J_aloadN hX rfl rfl dX10_canAll_94 ?_
      refine G_HalfHereModel_share hX dX10_canAll_95 mF_X10_34 ?_
      refine J_bipush hX (by decide) dX10_canAll_98 ?_
      refine J_iloadN hX rfl rfl dX10_canAll_100 ?_
      refine J_imul hX (fun _ _ => by omega) dX10_canAll_101 ?_
      refine J_iloadN hX rfl rfl dX10_canAll_102 ?_
      refine J_iadd hX (fun _ _ => by omega) dX10_canAll_103 ?_
      refine J_bipush hX (by decide) dX10_canAll_104 ?_
      refine S_49 hX (by omega) dX10_canAll_106 ?_
      refine J_aloadN hX rfl rfl dX10_canAll_107 ?_
      refine J_iloadN hX rfl rfl dX10_canAll_108 ?_
      refine J_iloadN hX rfl rfl dX10_canAll_109 ?_
      refine J_iconst hX (by decide) dX10_canAll_110 ?_
      refine J_iadd hX (fun _ _ => by omega) dX10_canAll_111 ?_
      have hz0 : F (6 * p + i) = 0 := hz _ (by omega) (by omega)
      refine cV2i hX cb_X10_canAll mL_X10_224 dX10_canAll_112 (hC _ (st1 F (6 * p + i) 12) (by rw [upr_tag (by decide)]; exact hA') (hF.st _ _) (ho.st (by omega)) (fun j a b => by rw [st1_ne (by omega)]; exact hz j (by omega) b)) (fun r m2 hm2 => ?_)
      obtain ⟨rfl, hf2, hF2⟩ := hm2
      have hfr2 : FrQ m0 m2 := (hfr.up (t := 49) (by omega)).tr hf2
      have hF3 : RelSh (upr m2 49 0 0 (st1 (m2 49 0 0) (6 * p + i) 0)) F := fun j hj => by
        rw [hF2.st (6 * p + i) 0 j hj]
        by_cases q : j = 6 * p + i
        · rw [q, st1_eq, hz0]
        · rw [st1_ne q, st1_ne q]
      refine si_4 hX dX10_canAll_115 ?_
      refine J_aloadN hX rfl rfl dX10_canAll_117 ?_
      refine G_HalfHereModel_share hX dX10_canAll_118 mF_X10_34 ?_
      refine J_bipush hX (by decide) dX10_canAll_121 ?_
      refine J_iloadN hX rfl rfl dX10_canAll_123 ?_
      refine J_imul hX (fun _ _ => by omega) dX10_canAll_124 ?_
      refine J_iloadN hX rfl rfl dX10_canAll_125 ?_
      refine J_iadd hX (fun _ _ => by omega) dX10_canAll_126 ?_
      refine J_iconst hX (by decide) dX10_canAll_127 ?_
      refine S_49 hX (by omega) dX10_canAll_128 ?_
      refine J_iload hX rfl dX10_canAll_129 ?_
      refine J_ifb_eq (tgt := 136) hX (by decide) dX10_canAll_131 (fun h5 => ?_) (fun h5 => ?_)
      · refine sinc_3 hX (fun _ => by omega) dX10_canAll_136 ?_
        refine J_goto (tgt := 71) hX (by decide) dX10_canAll_139 ?_
        exact ih (by omega) _ _ (hfr2.up (by omega)) hF3 (nx (fun _ => h5))
      · refine J_iconst hX (by decide) dX10_canAll_134 ?_
        refine J_zret hX hR0 dX10_canAll_135 (Or.inr rfl) ?_
        exact ⟨1, rfl, (bi_pos ⟨i, hw, h4, h5⟩).symm, hfr2.up (by omega), hF3⟩
    · refine J_goto (tgt := 136) hX (by decide) dX10_canAll_91 ?_
      refine sinc_3 hX (fun _ => by omega) dX10_canAll_136 ?_
      refine J_goto (tgt := 71) hX (by decide) dX10_canAll_139 ?_
      exact ih (by omega) M _ hfr hF (nx (fun q => absurd q h4))
theorem c_can (hI : InvA A C D) (hx : inN x 64) : ∀ (j : Nat), ∀ p, p + j = A 1 → 0 ≤ p → ∀ d, j + 8 ≤ d → CC G d A x p (cA A x j p) := by
  have h0 := hI.1
  intro j
  induction j with
  | zero =>
    intro p hp h1 d hd m F hA hF ho hz
    have e : p = A 1 := by omega
    refine E_X10_canAll (fun X hX hR0 _ _ => ?_)
    refine J_iloadN hX rfl rfl dX10_canAll_0 ?_
    refine J_aloadN hX rfl rfl dX10_canAll_1 ?_
    refine G_HalfHereModel_s hX dX10_canAll_2 mF_X10_13 ?_
    refine J_iconst hX (by decide) dX10_canAll_5 ?_
    refine L_42 hX (by omega) dX10_canAll_6 ?_
    rw [hA]
    refine J_icmp_ne (tgt := 52) hX (by decide) dX10_canAll_7 (fun h2 => ?_) (fun h2 => ?_)
    · omega
    · refine J_iconst hX (by decide) dX10_canAll_10 ?_
      refine siN_3 hX dX10_canAll_11 ?_
      exact l_can0 hX (by omega) hA hI hF ho hR0 0 (by omega) (by omega) m FrM.rf (fun w hw => by omega)
  | succ j ih =>
    intro p hp h1 d hd m F hA hF ho hz
    have hpn : inN p (A 1) := by omega
    have hb := shr_b hx (show inN p 6 by omega)
    refine E_X10_canAll (fun X hX hR0 _ _ => ?_)
    have hr2 : ∀ {P : Prop}, (P ↔ cA A x (j + 1) p F) → JRt G X (pi (caP m F P)) (some .boolean) := fun h => by
      rw [propext h]
      exact hR0
    refine J_iloadN hX rfl rfl dX10_canAll_0 ?_
    refine J_aloadN hX rfl rfl dX10_canAll_1 ?_
    refine G_HalfHereModel_s hX dX10_canAll_2 mF_X10_13 ?_
    refine J_iconst hX (by decide) dX10_canAll_5 ?_
    refine L_42 hX (by omega) dX10_canAll_6 ?_
    rw [hA]
    refine J_icmp_ne (tgt := 52) hX (by decide) dX10_canAll_7 (fun h2 => ?_) (fun h2 => ?_)
    · refine J_iloadN hX rfl rfl dX10_canAll_52 ?_
      refine J_iloadN hX rfl rfl dX10_canAll_53 ?_
      refine J_ishr hX (fun _ _ => sd_shr hx (show inN p 6 by omega)) dX10_canAll_54 ?_
      refine J_iconst hX (by decide) dX10_canAll_55 ?_
      refine J_iand hX (fun _ _ => sd_and1 hb) dX10_canAll_56 ?_
      refine J_if_ne (tgt := 69) hX (by decide) dX10_canAll_57 (fun h3 => ?_) (fun h3 => ?_)
      · refine J_iconst hX (by decide) dX10_canAll_69 ?_
        refine siN_3 hX dX10_canAll_70 ?_
        refine l_can1 hX (by omega) hA hI hpn ho hz (ih (p + 1) (by omega) (by omega) (d - 1) (by omega)) (hr2 ⟨fun q => Or.inr ⟨by unfold inS; omega, q⟩, fun q => q.elim (fun q => absurd (show inS x p by unfold inS; omega) q.1) (fun q => q.2)⟩) 0 (by omega) (by omega) m _ FrQ.rf hF (fun w hw => by omega)
      · refine J_aloadN hX rfl rfl dX10_canAll_60 ?_
        refine J_iloadN hX rfl rfl dX10_canAll_61 ?_
        refine J_iloadN hX rfl rfl dX10_canAll_62 ?_
        refine J_iconst hX (by decide) dX10_canAll_63 ?_
        refine J_iadd hX (fun _ _ => by omega) dX10_canAll_64 ?_
        refine cV2i hX cb_X10_canAll mL_X10_224 dX10_canAll_65 (ih (p + 1) (by omega) (by omega) (d - 1) (by omega) m F hA hF ho (fun j' a b => hz j' (by omega) b)) (fun r m2 hm2 => ?_)
        obtain ⟨rfl, hf2, hF2⟩ := hm2
        refine J_zret hX hR0 dX10_canAll_68 (bi_01 _) ?_
        refine ⟨_, rfl, bi_congr ⟨fun q => Or.inl ⟨by unfold inS; omega, q⟩, fun q => q.elim (fun q => q.2) (fun q => absurd q.1 (by unfold inS; omega))⟩, hf2, hF2⟩
    · omega
/-! must -/
noncomputable def muN (A : Int → Int) : Nat → Int
  | 0 => -9
  | n + 1 => ifP ((muN A n < 0 ∨ pcI n < pcI (muN A n)) ∧ cA A n (A 1).toNat 0 zF) (n : Int) (muN A n)
noncomputable def muI (A : Int → Int) (n : Int) : Int := muN A n.toNat
theorem muI_s {A : Int → Int} {n : Int} (h : 0 ≤ n) : muI A (n + 1) = ifP ((muI A n < 0 ∨ pcI n < pcI (muI A n)) ∧ cA A n (A 1).toNat 0 zF) n (muI A n) := by
  unfold muI
  rw [show (n + 1).toNat = n.toNat + 1 by omega]
  show ifP ((muN A n.toNat < 0 ∨ pcI (n.toNat : Int) < pcI (muN A n.toNat)) ∧ cA A (n.toNat : Int) (A 1).toNat 0 zF) (n.toNat : Int) (muN A n.toNat) = _
  rw [Int.toNat_of_nonneg h]
theorem muI_b {A : Int → Int} {n : Int} (h : 0 ≤ n) : muI A n = -9 ∨ inN (muI A n) n := by
  obtain ⟨j, rfl⟩ : ∃ j : Nat, n = j := ⟨n.toNat, by omega⟩
  clear h
  induction j with
  | zero => exact Or.inl rfl
  | succ j ih =>
    rw [show ((j + 1 : Nat) : Int) = (j : Int) + 1 by omega, muI_s (by omega)]
    by_cases q : (muI A j < 0 ∨ pcI (j : Int) < pcI (muI A j)) ∧ cA A (j : Int) (A 1).toNat 0 zF
    · rw [ifP_pos q]; omega
    · rw [ifP_neg q]; omega
def some1 (A : Int → Int) (n : Int) : Prop := ∃ w, inN w n ∧ aW A w 0 = 1
noncomputable def mustA (A : Int → Int) : Int := ifP (some1 A (A 2)) (muI A (p2 (A 1))) 0
theorem l_must1 (hX : Ok_X10_must G X 41) (hA : m 42 0 0 = A) (hI : InvA A C D) (K41 : ∀ b, J G X 40 [vr 40 0 0, vi (bi (some1 A (A 2))), vi b, vx] [] m) : ∀ i, 0 ≤ i → i ≤ A 2 → J G X 4 [vr 40 0 0, vi (bi (some1 A i)), vi i, vx] [] m := by
  have h0 := hI.1
  refine up_to (fun i h1 h2 ih => ?_)
  refine J_iloadN hX rfl rfl dX10_must_4 ?_
  refine J_aloadN hX rfl rfl dX10_must_5 ?_
  refine G_HalfHereModel_s hX dX10_must_6 mF_X10_13 ?_
  refine J_iconst hX (by decide) dX10_must_9 ?_
  refine L_42 hX (by omega) dX10_must_10 ?_
  rw [hA]
  refine J_icmp_ge (tgt := 40) hX (by decide) dX10_must_11 (fun h3 => ?_) (fun h3 => ?_)
  · have e : i = A 2 := by omega
    subst e
    exact K41 _
  · have hw : inN i (A 2) := ⟨h1, by omega⟩
    have nx := ih (by omega)
    refine J_iloadN hX rfl rfl dX10_must_14 ?_
    refine J_ifb_ne (tgt := 28) hX (by decide) dX10_must_15 (fun h4 => ?_) (fun h4 => ?_)
    · have e : bi (some1 A (i + 1)) = 1 := bi_pos (h4.imp (fun w q => ⟨by omega, q.2⟩))
      rw [e] at nx
      refine J_iconst hX (by decide) dX10_must_28 ?_
      refine J_goto (tgt := 33) hX (by decide) dX10_must_29 ?_
      refine siN_1 hX dX10_must_33 ?_
      refine sinc_2 hX (fun _ => by omega) dX10_must_34 ?_
      refine J_goto (tgt := 4) hX (by decide) dX10_must_37 ?_
      exact nx
    · refine J_aloadN hX rfl rfl dX10_must_18 ?_
      refine J_iloadN hX rfl rfl dX10_must_19 ?_
      refine J_iconst hX (by decide) dX10_must_20 ?_
      refine cV2w hX cb_X10_of mL_X10_118 dX10_must_21 (c_of hA (by omega) (by omega)) ?_
      refine J_iconst hX (by decide) dX10_must_24 ?_
      refine J_icmp_ne (tgt := 32) hX (by decide) dX10_must_25 (fun h5 => ?_) (fun h5 => ?_)
      · have e : bi (some1 A (i + 1)) = 0 := bi_neg (fun ⟨w, q1, q2⟩ => by
          by_cases q : w = i
          · rw [q] at q2; exact h5 q2
          · exact h4 ⟨w, by omega, q2⟩)
        rw [e] at nx
        refine J_iconst hX (by decide) dX10_must_32 ?_
        refine siN_1 hX dX10_must_33 ?_
        refine sinc_2 hX (fun _ => by omega) dX10_must_34 ?_
        refine J_goto (tgt := 4) hX (by decide) dX10_must_37 ?_
        exact nx
      · have e : bi (some1 A (i + 1)) = 1 := bi_pos ⟨i, by omega, h5⟩
        rw [e] at nx
        refine J_iconst hX (by decide) dX10_must_28 ?_
        refine J_goto (tgt := 33) hX (by decide) dX10_must_29 ?_
        refine siN_1 hX dX10_must_33 ?_
        refine sinc_2 hX (fun _ => by omega) dX10_must_34 ?_
        refine J_goto (tgt := 4) hX (by decide) dX10_must_37 ?_
        exact nx
theorem l_must2 {c : Int} (hX : Ok_X10_must G X 41) (K67 : ∀ M b, FrQ m M → RelSh M zF → J G X 67 [vr 40 0 0, vi c, vi b, vx] [] M) : ∀ i, 0 ≤ i → i ≤ 36 → ∀ M, FrQ m M → (∀ j, inN j i → M 49 0 0 j = 0) → J G X 48 [vr 40 0 0, vi c, vi i, vx] [] M := by
  refine up_to (fun i h1 h2 ih M hfr hs => ?_)
  refine J_iloadN hX rfl rfl dX10_must_48 ?_
  refine J_bipush hX (by decide) dX10_must_49 ?_
  refine J_icmp_ge (tgt := 67) hX (by decide) dX10_must_51 (fun h3 => ?_) (fun h3 => ?_)
  · exact K67 M _ hfr (fun j hj => hs j (by omega))
  · refine J_aloadN hX rfl rfl dX10_must_54 ?_
    refine G_HalfHereModel_share hX dX10_must_55 mF_X10_34 ?_
    refine J_iloadN hX rfl rfl dX10_must_58 ?_
    refine J_iconst hX (by decide) dX10_must_59 ?_
    refine S_49 hX (by omega) dX10_must_60 ?_
    refine sinc_2 hX (fun _ => by omega) dX10_must_61 ?_
    refine J_goto (tgt := 48) hX (by decide) dX10_must_64 ?_
    refine ih h3 _ (hfr.up (by omega)) (fun j hj => ?_)
    rw [upr_eq]
    by_cases e : j = i
    · rw [e, st1_eq]
    · rw [st1_ne e]; exact hs j (by omega)
theorem l_must3 {c : Int} {m0 : HM} (hX : Ok_X10_must G X 41) (hA : m0 42 0 0 = A) (hI : InvA A C D) (hR0 : JRt G X (pi (fun r m' => r = muI A (p2 (A 1)) ∧ FrQ m0 m')) (some .int)) : ∀ i, 0 ≤ i → i ≤ p2 (A 1) → ∀ M, FrQ m0 M → RelSh M zF → J G X 72 [vr 40 0 0, vi c, vi (muI A i), vi i] [] M := by
  have h0 := hI.1
  have hp6 : p2 (A 1) ≤ 64 := by
    rcases (show A 1 = 0 ∨ A 1 = 1 ∨ A 1 = 2 ∨ A 1 = 3 ∨ A 1 = 4 ∨ A 1 = 5 ∨ A 1 = 6 by omega) with e | e | e | e | e | e | e <;> rw [e] <;> decide
  refine up_to (fun i h1 h2 ih M hfr hF => ?_)
  have hA' := hfr.a42 hA
  have hb := muI_b (A := A) h1
  have es := muI_s (A := A) h1
  refine J_iloadN hX rfl rfl dX10_must_72 ?_
  refine J_iconst hX (by decide) dX10_must_73 ?_
  refine J_aloadN hX rfl rfl dX10_must_74 ?_
  refine G_HalfHereModel_s hX dX10_must_75 mF_X10_13 ?_
  refine J_iconst hX (by decide) dX10_must_78 ?_
  refine L_42 hX (by omega) dX10_must_79 ?_
  rw [hA']
  refine J_ishl hX (fun _ _ => sd_shl ⟨by omega, by omega⟩) dX10_must_80 ?_
  refine J_icmp_ge (tgt := 116) hX (by decide) dX10_must_81 (fun h3 => ?_) (fun h3 => ?_)
  · have e : i = p2 (A 1) := by omega
    rw [e]
    refine J_iloadN hX rfl rfl dX10_must_116 ?_
    exact J_iret hX hR0 dX10_must_117 (⟨_, rfl, rfl, hfr⟩)
  · have nx := ih (by omega)
    have K110 : ∀ M', FrQ m0 M' → RelSh M' zF → muI A (i + 1) = muI A i → J G X 110 [vr 40 0 0, vi c, vi (muI A i), vi i] [] M' := fun M' a b e => by
      rw [e] at nx
      refine sinc_3 hX (fun _ => by omega) dX10_must_110 ?_
      refine J_goto (tgt := 72) hX (by decide) dX10_must_113 ?_
      exact nx M' a b
    have K99 : (muI A i < 0 ∨ pcI i < pcI (muI A i)) → J G X 99 [vr 40 0 0, vi c, vi (muI A i), vi i] [] M := fun hc => by
      refine J_aloadN hX rfl rfl dX10_must_99 ?_
      refine J_iloadN hX rfl rfl dX10_must_100 ?_
      refine J_iconst hX (by decide) dX10_must_101 ?_
      refine cV2i hX cb_X10_canAll mL_X10_224 dX10_must_102 (c_can hI (show inN i 64 by omega) (A 1).toNat 0 (by omega) (by omega) 40 (by omega) M zF hA' hF okSh_z (fun j a b => rfl)) (fun r m2 hm2 => ?_)
      obtain ⟨rfl, hf2, hF2⟩ := hm2
      refine J_ifb_eq (tgt := 110) hX (by decide) dX10_must_105 (fun h5 => ?_) (fun h5 => ?_)
      · exact K110 m2 (hfr.tr hf2) hF2 (by rw [es, ifP_neg (fun q => h5 q.2)])
      · have e : muI A (i + 1) = i := by rw [es, ifP_pos ⟨hc, h5⟩]
        rw [e] at nx
        refine J_iloadN hX rfl rfl dX10_must_108 ?_
        refine siN_2 hX dX10_must_109 ?_
        refine sinc_3 hX (fun _ => by omega) dX10_must_110 ?_
        refine J_goto (tgt := 72) hX (by decide) dX10_must_113 ?_
        exact nx m2 (hfr.tr hf2) hF2
    refine J_iloadN hX rfl rfl dX10_must_84 ?_
    refine J_if_lt (tgt := 99) hX (by decide) dX10_must_85 (fun h4 => ?_) (fun h4 => ?_)
    · exact K99 (Or.inl h4)
    · refine J_iloadN hX rfl rfl dX10_must_88 ?_
      refine cS1w hX cb_X10_bits mL_X10_138 dX10_must_89 (c_bits (by omega)) ?_
      refine J_iloadN hX rfl rfl dX10_must_92 ?_
      refine cS1w hX cb_X10_bits mL_X10_138 dX10_must_93 (c_bits (by omega)) ?_
      refine J_icmp_ge (tgt := 110) hX (by decide) dX10_must_96 (fun h6 => ?_) (fun h6 => ?_)
      · exact K110 M hfr hF (by rw [es, ifP_neg (fun q => by have := q.1; omega)])
      · exact K99 (Or.inr h6)
theorem c_mmust (hA : m 42 0 0 = A) (hI : InvA A C D) : K_X10_must G [vr 40 0 0] m (pi (fun r m' => r = mustA A ∧ FrQ m m')) := by
  refine E_X10_must (fun X hX hR0 _ _ => ?_)
  have h0 := hI.1
  have e0 : bi (some1 A 0) = 0 := bi_neg (fun ⟨w, q, _⟩ => by omega)
  have K40 : ∀ b, J G X 40 [vr 40 0 0, vi (bi (some1 A (A 2))), vi b, vx] [] m := fun b => by
    refine J_iloadN hX rfl rfl dX10_must_40 ?_
    refine J_ifb_ne (tgt := 46) hX (by decide) dX10_must_41 (fun h1 => ?_) (fun h1 => ?_)
    · refine J_iconst hX (by decide) dX10_must_46 ?_
      refine siN_2 hX dX10_must_47 ?_
      refine l_must2 hX (fun M b' hfr hF => ?_) 0 (by omega) (by omega) m FrQ.rf (fun j hj => by omega)
      have e : mustA A = muI A (p2 (A 1)) := ifP_pos h1
      refine J_bipush hX (by decide) dX10_must_67 ?_
      refine siN_2 hX dX10_must_69 ?_
      refine J_iconst hX (by decide) dX10_must_70 ?_
      refine siN_3 hX dX10_must_71 ?_
      rw [e] at hR0
      exact l_must3 hX hA hI hR0 0 (by omega) (Int.natCast_nonneg _) M hfr hF
    · refine J_iconst hX (by decide) dX10_must_44 ?_
      exact J_iret hX hR0 dX10_must_45 (⟨_, rfl, (ifP_neg h1).symm, FrQ.rf⟩)
  refine J_iconst hX (by decide) dX10_must_0 ?_
  refine siN_1 hX dX10_must_1 ?_
  refine J_iconst hX (by decide) dX10_must_2 ?_
  refine siN_2 hX dX10_must_3 ?_
  have k := l_must1 hX hA hI K40 0 (by omega) (by omega)
  rw [e0] at k
  exact k
end Mod
