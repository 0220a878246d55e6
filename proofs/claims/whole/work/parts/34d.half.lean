/-! ===== 34d: the class HalfHere: what may be, images, villages ===== -/
theorem sd_am1 {s : Int} (hs : inN s 64) : Int32.ofInt (-1) &&& Int32.ofInt s = Int32.ofInt s ∧ inR s := by
  have h : ∀ n, n < 64 → Int32.ofInt (-1) &&& Int32.ofInt ((n : Nat) : Int) = Int32.ofInt ((n : Nat) : Int) := by decide +kernel
  have h1 := h s.toNat (by omega)
  rw [Int.toNat_of_nonneg hs.1] at h1
  exact ⟨h1, by omega⟩
theorem an_63 {s : Int} (hs : inN s 64) : anI 63 s = s := by
  have h : ∀ n, n < 64 → (63 &&& n : Nat) = n := by decide +kernel
  have h1 := h s.toNat (by omega)
  show (((63 : Int).toNat &&& s.toNat : Nat) : Int) = s
  rw [show (63 : Int).toNat = 63 by rfl, h1]
  omega
theorem cntI_zero {P : Int → Prop} {n : Int} (hn : 0 ≤ n) (h : ∀ j, inN j n → ¬ P j) : cntI P n = 0 := by
  have := sumI_b (f := fun i => bi (P i)) (lo := 0) (hi := 0) (n := n) hn (fun i a b => by
    have e : bi (P i) = 0 := bi_neg (h i ⟨a, b⟩)
    show 0 ≤ bi (P i) ∧ bi (P i) ≤ 0
    omega)
  unfold cntI
  omega
section Hf
variable {G : GC} {X : JX} {m : HM} {κ p t τ w x y z i j k q b h l n v : Int} {A A' N S g F B W T R f : Int → Int} {H C D : Int}
theorem c_refusalOfParts (hR : RelV m 0 A) : K_X9_refusalOfParts G [vr 0 0 0, vi p, vi x] m (pw (vi (rfKT A p x)) m) := by
  refine E_X9_refusalOfParts (fun X hX hR0 _ _ => ?_)
  refine J_aloadN hX rfl rfl dX9_refusalOfParts_0 ?_
  refine G_HalfHere_now hX dX9_refusalOfParts_1 mF_X9_19 ?_
  refine J_iloadN hX rfl rfl dX9_refusalOfParts_4 ?_
  refine cV1w hX cb_X7_hasPerson mL_X9_97 dX9_refusalOfParts_5 (c_hasPerson hR) ?_
  refine J_ifb_ne (tgt := 13) hX (by decide) dX9_refusalOfParts_8 (fun h1 => ?_) (fun h1 => ?_)
  · have K22 : ¬ inN x 2 → J G X 22 [vr 0 0 0, vi p, vi x] [] m := fun q => by
      refine J_bipush hX (by decide) dX9_refusalOfParts_22 ?_
      exact J_iret hX hR0 dX9_refusalOfParts_24 (pwI (by unfold rfKT; rw [if_pos h1, if_neg q]))
    refine J_iloadN hX rfl rfl dX9_refusalOfParts_13 ?_
    refine J_if_lt (tgt := 22) hX (by decide) dX9_refusalOfParts_14 (fun h2 => ?_) (fun h2 => ?_)
    · exact K22 (fun q => by have := q.1; omega)
    · refine J_iloadN hX rfl rfl dX9_refusalOfParts_17 ?_
      refine J_iconst hX (by decide) dX9_refusalOfParts_18 ?_
      refine J_icmp_le (tgt := 25) hX (by decide) dX9_refusalOfParts_19 (fun h3 => ?_) (fun h3 => ?_)
      · refine J_aloadN hX rfl rfl dX9_refusalOfParts_25 ?_
        refine G_HalfHere_now hX dX9_refusalOfParts_26 mF_X9_19 ?_
        refine J_iloadN hX rfl rfl dX9_refusalOfParts_29 ?_
        refine cV1w hX cb_X7_partsOf mL_X9_116 dX9_refusalOfParts_30 (c_partsOf hR) ?_
        refine J_if_ne (tgt := 41) hX (by decide) dX9_refusalOfParts_33 (fun h4 => ?_) (fun h4 => ?_)
        · refine J_iconst hX (by decide) dX9_refusalOfParts_41 ?_
          exact J_iret hX hR0 dX9_refusalOfParts_42 (pwI (by unfold rfKT; rw [if_pos h1, if_pos ⟨h2, by omega⟩, if_neg h4]))
        · refine J_bipush hX (by decide) dX9_refusalOfParts_36 ?_
          refine J_goto (tgt := 42) hX (by decide) dX9_refusalOfParts_38 ?_
          exact J_iret hX hR0 dX9_refusalOfParts_42 (pwI (by unfold rfKT; rw [if_pos h1, if_pos ⟨h2, by omega⟩, if_pos h4]))
      · exact K22 (fun q => by have := q.2; omega)
  · refine J_iconst hX (by decide) dX9_refusalOfParts_11 ?_
    exact J_iret hX hR0 dX9_refusalOfParts_12 (pwI (by unfold rfKT; rw [if_neg h1]))
theorem c_refusalOfChance (hR : RelV m 0 A) (hI : InvA A C D) : K_X9_refusalOfChance G [vr 0 0 0, vi p, vi h, vi x, vi y] m (pw (vi (rfChance A p h x y)) m) := by
  refine E_X9_refusalOfChance (fun X hX hR0 _ _ => ?_)
  refine J_aloadN hX rfl rfl dX9_refusalOfChance_0 ?_
  refine G_HalfHere_now hX dX9_refusalOfChance_1 mF_X9_19 ?_
  refine J_iloadN hX rfl rfl dX9_refusalOfChance_4 ?_
  refine cV1w hX cb_X7_hasPerson mL_X9_97 dX9_refusalOfChance_5 (c_hasPerson hR) ?_
  refine J_ifb_ne (tgt := 13) hX (by decide) dX9_refusalOfChance_8 (fun h1 => ?_) (fun h1 => ?_)
  · have K33 : ¬ (inN x 2 ∧ inN y 2) → J G X 33 [vr 0 0 0, vi p, vi h, vi x, vi y] [] m := fun q => by
      refine J_bipush hX (by decide) dX9_refusalOfChance_33 ?_
      exact J_iret hX hR0 dX9_refusalOfChance_35 (pwI (by unfold rfChance; rw [if_pos h1, if_neg q]))
    refine J_iloadN hX rfl rfl dX9_refusalOfChance_13 ?_
    refine J_if_lt (tgt := 33) hX (by decide) dX9_refusalOfChance_14 (fun h2 => ?_) (fun h2 => ?_)
    · exact K33 (fun q => by have := q.1.1; omega)
    · refine J_iloadN hX rfl rfl dX9_refusalOfChance_17 ?_
      refine J_iconst hX (by decide) dX9_refusalOfChance_18 ?_
      refine J_icmp_gt (tgt := 33) hX (by decide) dX9_refusalOfChance_19 (fun h3 => ?_) (fun h3 => ?_)
      · exact K33 (fun q => by have := q.1.2; omega)
      · refine J_iload hX rfl dX9_refusalOfChance_22 ?_
        refine J_if_lt (tgt := 33) hX (by decide) dX9_refusalOfChance_24 (fun h4 => ?_) (fun h4 => ?_)
        · exact K33 (fun q => by have := q.2.1; omega)
        · refine J_iload hX rfl dX9_refusalOfChance_27 ?_
          refine J_iconst hX (by decide) dX9_refusalOfChance_29 ?_
          refine J_icmp_le (tgt := 36) hX (by decide) dX9_refusalOfChance_30 (fun h5 => ?_) (fun h5 => ?_)
          · have hxy : inN x 2 ∧ inN y 2 := ⟨⟨h2, by omega⟩, ⟨h4, by omega⟩⟩
            have e0 : rfChance A p h x y = if h < 0 then -4 else if 100 < h then -6 else if 9 < awA A p then -6 else if cntI (fun i => aOf A i p) 24 = 0 then -3 else 0 := by unfold rfChance; rw [if_pos h1, if_pos hxy]
            have K62 : ¬ h < 0 → (100 < h ∨ 9 < awA A p) → J G X 62 [vr 0 0 0, vi p, vi h, vi x, vi y] [] m := fun q1 q => by
              have e6 : (-6 : Int) = rfChance A p h x y := by
                rw [e0, if_neg q1]
                by_cases z : 100 < h
                · rw [if_pos z]
                · rw [if_neg z, if_pos (q.resolve_left z)]
              refine J_bipush hX (by decide) dX9_refusalOfChance_62 ?_
              exact J_iret hX hR0 dX9_refusalOfChance_64 (pwI e6)
            refine J_iloadN hX rfl rfl dX9_refusalOfChance_36 ?_
            refine J_if_ge (tgt := 43) hX (by decide) dX9_refusalOfChance_37 (fun h6 => ?_) (fun h6 => ?_)
            · refine J_iloadN hX rfl rfl dX9_refusalOfChance_43 ?_
              refine J_bipush hX (by decide) dX9_refusalOfChance_44 ?_
              refine J_icmp_gt (tgt := 62) hX (by decide) dX9_refusalOfChance_46 (fun h7 => ?_) (fun h7 => ?_)
              · exact K62 (by omega) (Or.inl h7)
              · refine J_aloadN hX rfl rfl dX9_refusalOfChance_49 ?_
                refine G_HalfHere_now hX dX9_refusalOfChance_50 mF_X9_19 ?_
                refine J_iloadN hX rfl rfl dX9_refusalOfChance_53 ?_
                refine cV1w hX cb_X7_partsAway mL_X9_300 dX9_refusalOfChance_54 (c_partsAway hR) ?_
                have ea : cntI (fun i => aOf A i p ∧ aP A i 2 ≠ 0) 24 = awA A p := rfl
                rw [ea]
                refine J_bipush hX (by decide) dX9_refusalOfChance_57 ?_
                refine J_icmp_le (tgt := 65) hX (by decide) dX9_refusalOfChance_59 (fun h8 => ?_) (fun h8 => ?_)
                · refine J_aloadN hX rfl rfl dX9_refusalOfChance_65 ?_
                  refine G_HalfHere_now hX dX9_refusalOfChance_66 mF_X9_19 ?_
                  refine J_iloadN hX rfl rfl dX9_refusalOfChance_69 ?_
                  refine cV1w hX cb_X7_partsOf mL_X9_116 dX9_refusalOfChance_70 (c_partsOf hR) ?_
                  refine J_if_ne (tgt := 81) hX (by decide) dX9_refusalOfChance_73 (fun h9 => ?_) (fun h9 => ?_)
                  · refine J_iconst hX (by decide) dX9_refusalOfChance_81 ?_
                    exact J_iret hX hR0 dX9_refusalOfChance_82 (pwI (by rw [e0, if_neg (by omega), if_neg (by omega), if_neg (by omega), if_neg h9]))
                  · refine J_bipush hX (by decide) dX9_refusalOfChance_76 ?_
                    refine J_goto (tgt := 82) hX (by decide) dX9_refusalOfChance_78 ?_
                    exact J_iret hX hR0 dX9_refusalOfChance_82 (pwI (by rw [e0, if_neg (by omega), if_neg (by omega), if_neg (by omega), if_pos h9]))
                · exact K62 (by omega) (Or.inr h8)
            · refine J_bipush hX (by decide) dX9_refusalOfChance_40 ?_
              exact J_iret hX hR0 dX9_refusalOfChance_42 (pwI (by rw [e0, if_pos h6]))
          · exact K33 (fun q => by have := q.2.2; omega)
  · refine J_iconst hX (by decide) dX9_refusalOfChance_11 ?_
    exact J_iret hX hR0 dX9_refusalOfChance_12 (pwI (by unfold rfChance; rw [if_neg h1]))
theorem c_meanLeft (hR : RelV m 0 A) (hI : InvA A C D) (hh : 0 ≤ h ∧ h ≤ 100) (hy : inN y 2) : K_X9_meanLeft G [vr 0 0 0, vi p, vi h, vi y] m (pw (vl (if y = 0 then mnA A p h / gcI (mnA A p h) 100 else 100 / gcI (mnA A p h) 100)) m) := by
  refine E_X9_meanLeft (fun X hX hR0 _ _ => ?_)
  have hb := tw_b (p := p) (i := 24) hI (by omega)
  have hm := mul_b (x := 100 - h) (y := sumI (twW A p) 24) (a := 100) (b := 288) (by omega) (by omega)
  have em : 100 * hmA A p 24 + (100 - h) * sumI (twW A p) 24 = mnA A p h := by
    unfold mnA
    rw [Int.mul_comm (100 - h)]
  have mb : 0 ≤ mnA A p h ∧ mnA A p h ≤ 100000 := by rw [← em]; omega
  have ehm : hmA A p 24 = sumI (twA A p) 24 - sumI (twW A p) 24 := rfl
  have hg := gcI_pos (a := mnA A p h) (b := 100) (Or.inr (by omega))
  have d1 : (mnA A p h).tdiv (gcI (mnA A p h) 100) = mnA A p h / gcI (mnA A p h) 100 := Int.tdiv_eq_ediv_of_nonneg mb.1
  have d2 : (100 : Int).tdiv (gcI (mnA A p h) 100) = 100 / gcI (mnA A p h) 100 := Int.tdiv_eq_ediv_of_nonneg (by omega)
  have r1 := Int.ediv_nonneg mb.1 (Int.le_of_lt hg)
  have r2 := Int.ediv_le_self (gcI (mnA A p h) 100) mb.1
  have r3 := Int.ediv_nonneg (show (0 : Int) ≤ 100 by omega) (Int.le_of_lt hg)
  have r4 := Int.ediv_le_self (gcI (mnA A p h) 100) (show (0 : Int) ≤ 100 by omega)
  refine J_aloadN hX rfl rfl dX9_meanLeft_0 ?_
  refine G_HalfHere_now hX dX9_meanLeft_1 mF_X9_19 ?_
  refine J_iloadN hX rfl rfl dX9_meanLeft_4 ?_
  refine cV1w hX cb_X7_twelfthsAway mL_X9_303 dX9_meanLeft_5 (c_twelfthsAway hR hI) ?_
  refine J_i2l hX dX9_meanLeft_8 ?_
  refine sl_4 hX dX9_meanLeft_9 ?_
  refine J_aloadN hX rfl rfl dX9_meanLeft_11 ?_
  refine G_HalfHere_now hX dX9_meanLeft_12 mF_X9_19 ?_
  refine J_iloadN hX rfl rfl dX9_meanLeft_15 ?_
  refine cV1w hX cb_X7_twelfthsOf mL_X9_113 dX9_meanLeft_16 (c_twelfthsOf hR hI) ?_
  refine J_i2l hX dX9_meanLeft_19 ?_
  refine J_lload hX rfl dX9_meanLeft_20 ?_
  refine J_lsub hX (fun _ _ => by omega) dX9_meanLeft_22 ?_
  rw [show sumI (twA A p) 24 - sumI (twW A p) 24 = hmA A p 24 from rfl]
  refine sl_6 hX dX9_meanLeft_23 ?_
  refine J_ldc2 (n := 100) hX mQ_X9_306 rfl rfl (by decide) dX9_meanLeft_25 ?_
  refine J_lload hX rfl dX9_meanLeft_28 ?_
  refine J_lmul hX (fun _ _ => by omega) dX9_meanLeft_30 ?_
  refine J_bipush hX (by decide) dX9_meanLeft_31 ?_
  refine J_iloadN hX rfl rfl dX9_meanLeft_33 ?_
  refine J_isub hX (fun _ _ => by omega) dX9_meanLeft_34 ?_
  refine J_i2l hX dX9_meanLeft_35 ?_
  refine J_lload hX rfl dX9_meanLeft_36 ?_
  refine J_lmul hX (fun _ _ => by omega) dX9_meanLeft_38 ?_
  refine J_ladd hX (fun _ _ => by omega) dX9_meanLeft_39 ?_
  rw [em]
  refine sl_8 hX dX9_meanLeft_40 ?_
  refine J_lconst (x := 1) hX rfl dX9_meanLeft_42 ?_
  refine J_lload hX rfl dX9_meanLeft_43 ?_
  refine J_ldc2 (n := 100) hX mQ_X9_306 rfl rfl (by decide) dX9_meanLeft_45 ?_
  refine cS2w hX cb_X9_commonDivisor mL_X9_308 dX9_meanLeft_48 (c_commonDivisor mb.1 (by omega)) ?_
  refine J_lmax hX rfl (by decide) (Nat.le_of_ble_eq_true rfl) dX9_meanLeft_51 mL_X9_312 ?_
  rw [show max 1 (gcI (mnA A p h) 100) = gcI (mnA A p h) 100 by omega]
  refine sl_10 hX dX9_meanLeft_54 ?_
  refine J_iloadN hX rfl rfl dX9_meanLeft_56 ?_
  refine J_if_ne (tgt := 68) hX (by decide) dX9_meanLeft_57 (fun h1 => ?_) (fun h1 => ?_)
  · refine J_ldc2 (n := 100) hX mQ_X9_306 rfl rfl (by decide) dX9_meanLeft_68 ?_
    refine J_lload hX rfl dX9_meanLeft_71 ?_
    refine J_ldiv hX (by omega) (fun _ _ => by rw [d2]; omega) dX9_meanLeft_73 ?_
    rw [d2]
    exact J_lret hX hR0 dX9_meanLeft_74 (pwL (by rw [if_neg h1]))
  · refine J_lload hX rfl dX9_meanLeft_60 ?_
    refine J_lload hX rfl dX9_meanLeft_62 ?_
    refine J_ldiv hX (by omega) (fun _ _ => by rw [d1]; omega) dX9_meanLeft_64 ?_
    rw [d1]
    refine J_goto (tgt := 74) hX (by decide) dX9_meanLeft_65 ?_
    exact J_lret hX hR0 dX9_meanLeft_74 (pwL (by rw [if_pos h1]))
theorem l_all {u : Int} (hX : Ok_X9_allLeft G X 5) (hu : 0 ≤ u ∧ u ≤ 100) (hw9 : 0 ≤ l ∧ l ≤ 9) (hR0 : JRt G X (pw (vl (u ^ l.toNat)) m) (some .long)) {b : HV} : ∀ i, 0 ≤ i → i ≤ l → J G X 56 [vr 0 0 0, vi p, vi h, vi y, b, vx, vl u, vx, vi l, vl (u ^ i.toNat), vx, vi i] [] m := by
  refine up_to (fun i h1 h2 ih => ?_)
  have hpw := powb hu.1 hu.2 i.toNat
  refine J_iload hX rfl dX9_allLeft_56 ?_
  refine J_iload hX rfl dX9_allLeft_58 ?_
  refine J_icmp_ge (tgt := 76) hX (by decide) dX9_allLeft_60 (fun h3 => ?_) (fun h3 => ?_)
  · have e : i = l := by omega
    subst e
    refine J_lload hX rfl dX9_allLeft_76 ?_
    exact J_lret hX hR0 dX9_allLeft_78 (pwL rfl)
  · have hp8 := pow100' (n := i.toNat) (by omega)
    have hpn := powb hu.1 hu.2 (i.toNat + 1)
    have hp9 := pow100 (n := i.toNat + 1) (by omega)
    have e : u ^ i.toNat * u = u ^ (i + 1).toNat := by
      rw [show (i + 1).toNat = i.toNat + 1 by omega]
      exact (Int.pow_succ u i.toNat).symm
    have e2 : (i + 1).toNat = i.toNat + 1 := by omega
    have nx := ih (by omega)
    rw [← e] at nx
    refine J_lload hX rfl dX9_allLeft_63 ?_
    refine J_lload hX rfl dX9_allLeft_65 ?_
    refine J_lmul hX (fun _ _ => by rw [e, e2]; omega) dX9_allLeft_67 ?_
    refine sl_9 hX dX9_allLeft_68 ?_
    refine sinc_11 hX (fun _ => by omega) dX9_allLeft_70 ?_
    refine J_goto (tgt := 56) hX (by decide) dX9_allLeft_73 ?_
    exact nx
theorem c_allLeft (hR : RelV m 0 A) (hh : 0 ≤ h ∧ h ≤ 100) (hy : inN y 2) (hw9 : awA A p ≤ 9) : K_X9_allLeft G [vr 0 0 0, vi p, vi h, vi y] m (pw (vl ((if y = 0 then cgU h else cgV h) ^ (awA A p).toNat)) m) := by
  refine E_X9_allLeft (fun X hX hR0 _ _ => ?_)
  have hc := cg_b hh
  have ha0 : 0 ≤ awA A p := (cntI_b (P := fun i => aOf A i p ∧ aP A i 2 ≠ 0) (n := 24) (by omega)).1
  have d1 : (100 - h).tdiv (gcI (100 - h) 100) = cgU h := Int.tdiv_eq_ediv_of_nonneg (by omega)
  have d2 : (100 : Int).tdiv (gcI (100 - h) 100) = cgV h := Int.tdiv_eq_ediv_of_nonneg (by omega)
  have K38 : ∀ u, u = (if y = 0 then cgU h else cgV h) → J G X 38 [vr 0 0 0, vi p, vi h, vi y, vl (gcI (100 - h) 100), vx, vx, vx, vx, vx, vx, vx] [vl u] m := fun u hu => by
    have hub : 0 ≤ u ∧ u ≤ 100 := by rw [hu]; split <;> omega
    rw [← hu] at hR0
    refine sl_6 hX dX9_allLeft_38 ?_
    refine J_aloadN hX rfl rfl dX9_allLeft_40 ?_
    refine G_HalfHere_now hX dX9_allLeft_41 mF_X9_19 ?_
    refine J_iloadN hX rfl rfl dX9_allLeft_44 ?_
    refine cV1w hX cb_X7_partsAway mL_X9_300 dX9_allLeft_45 (c_partsAway hR) ?_
    refine si_8 hX dX9_allLeft_48 ?_
    refine J_lconst (x := 1) hX rfl dX9_allLeft_50 ?_
    refine sl_9 hX dX9_allLeft_51 ?_
    refine J_iconst hX (by decide) dX9_allLeft_53 ?_
    refine si_11 hX dX9_allLeft_54 ?_
    have fin := l_all (p := p) (h := h) (y := y) (b := vl (gcI (100 - h) 100)) hX hub ⟨ha0, hw9⟩ hR0 0 (by omega) ha0
    rw [show (0 : Int).toNat = 0 from rfl, Int.pow_zero] at fin
    exact fin
  refine J_lconst (x := 1) hX rfl dX9_allLeft_0 ?_
  refine J_bipush hX (by decide) dX9_allLeft_1 ?_
  refine J_iloadN hX rfl rfl dX9_allLeft_3 ?_
  refine J_isub hX (fun _ _ => by omega) dX9_allLeft_4 ?_
  refine J_i2l hX dX9_allLeft_5 ?_
  refine J_ldc2 (n := 100) hX mQ_X9_306 rfl rfl (by decide) dX9_allLeft_6 ?_
  refine cS2w hX cb_X9_commonDivisor mL_X9_308 dX9_allLeft_9 (c_commonDivisor (by omega) (by omega)) ?_
  refine J_lmax hX rfl (by decide) (Nat.le_of_ble_eq_true rfl) dX9_allLeft_12 mL_X9_312 ?_
  rw [show max 1 (gcI (100 - h) 100) = gcI (100 - h) 100 by omega]
  refine sl_4 hX dX9_allLeft_15 ?_
  refine J_iloadN hX rfl rfl dX9_allLeft_17 ?_
  refine J_if_ne (tgt := 32) hX (by decide) dX9_allLeft_18 (fun h1 => ?_) (fun h1 => ?_)
  · refine J_ldc2 (n := 100) hX mQ_X9_306 rfl rfl (by decide) dX9_allLeft_32 ?_
    refine J_lload hX rfl dX9_allLeft_35 ?_
    refine J_ldiv hX (by omega) (fun _ _ => by rw [d2]; omega) dX9_allLeft_37 ?_
    rw [d2]
    exact K38 _ (by rw [if_neg h1])
  · refine J_bipush hX (by decide) dX9_allLeft_21 ?_
    refine J_iloadN hX rfl rfl dX9_allLeft_23 ?_
    refine J_isub hX (fun _ _ => by omega) dX9_allLeft_24 ?_
    refine J_i2l hX dX9_allLeft_25 ?_
    refine J_lload hX rfl dX9_allLeft_26 ?_
    refine J_ldiv hX (by omega) (fun _ _ => by rw [d1]; omega) dX9_allLeft_28 ?_
    rw [d1]
    refine J_goto (tgt := 38) hX (by decide) dX9_allLeft_29 ?_
    exact K38 _ (by rw [if_pos h1])
theorem c_xchance (hR : RelV m 0 A) (hI : InvA A C D) (hf : few33 m) : K_X9_chance G [vr 0 0 0, vi p, vi h, vi x, vi y] m (pw (vl (chR A p h x y)) (if rfChance A p h x y = 0 then m else refM m 33 (rfChance A p h x y))) := by
  refine E_X9_chance (fun X hX hR0 _ _ => ?_)
  have hrb : -6 ≤ rfChance A p h x y ∧ rfChance A p h x y ≤ 0 := by
    unfold rfChance
    repeat' split
    all_goals omega
  refine J_aloadN hX rfl rfl dX9_chance_0 ?_
  refine J_iloadN hX rfl rfl dX9_chance_1 ?_
  refine J_iloadN hX rfl rfl dX9_chance_2 ?_
  refine J_iloadN hX rfl rfl dX9_chance_3 ?_
  refine J_iload hX rfl dX9_chance_4 ?_
  refine cV4w hX cb_X9_refusalOfChance mL_X9_256 dX9_chance_6 (c_refusalOfChance hR hI) ?_
  refine si_5 hX dX9_chance_9 ?_
  refine J_iload hX rfl dX9_chance_11 ?_
  refine J_if_eq (tgt := 28) hX (by decide) dX9_chance_13 (fun h1 => ?_) (fun h1 => ?_)
  · have hp : inN p (A 1) := Classical.byContradiction fun q => by unfold rfChance at h1; rw [if_neg q] at h1; omega
    have hxy : inN x 2 ∧ inN y 2 := Classical.byContradiction fun q => by unfold rfChance at h1; rw [if_pos hp, if_neg q] at h1; omega
    have e0 : rfChance A p h x y = if h < 0 then -4 else if 100 < h then -6 else if 9 < awA A p then -6 else if cntI (fun i => aOf A i p) 24 = 0 then -3 else 0 := by unfold rfChance; rw [if_pos hp, if_pos hxy]
    have hh0 : ¬ h < 0 := fun q => by rw [e0, if_pos q] at h1; omega
    have hh1 : ¬ 100 < h := fun q => by rw [e0, if_neg hh0, if_pos q] at h1; omega
    have hw9 : ¬ 9 < awA A p := fun q => by rw [e0, if_neg hh0, if_neg hh1, if_pos q] at h1; omega
    refine J_iloadN hX rfl rfl dX9_chance_28 ?_
    refine J_if_ne (tgt := 41) hX (by decide) dX9_chance_29 (fun h2 => ?_) (fun h2 => ?_)
    · refine J_aloadN hX rfl rfl dX9_chance_41 ?_
      refine J_iloadN hX rfl rfl dX9_chance_42 ?_
      refine J_iloadN hX rfl rfl dX9_chance_43 ?_
      refine J_iload hX rfl dX9_chance_44 ?_
      refine cV3w hX cb_X9_allLeft mL_X9_266 dX9_chance_46 (c_allLeft hR (by omega) hxy.2 (by omega)) ?_
      refine J_lret hX hR0 dX9_chance_49 ⟨?_, by rw [if_pos h1]⟩
      unfold chR chA
      rw [if_pos h1, if_neg h2]
    · refine J_aloadN hX rfl rfl dX9_chance_32 ?_
      refine J_iloadN hX rfl rfl dX9_chance_33 ?_
      refine J_iloadN hX rfl rfl dX9_chance_34 ?_
      refine J_iload hX rfl dX9_chance_35 ?_
      refine cV3w hX cb_X9_meanLeft mL_X9_262 dX9_chance_37 (c_meanLeft hR hI (by omega) hxy.2) ?_
      refine J_lret hX hR0 dX9_chance_40 ⟨?_, by rw [if_pos h1]⟩
      unfold chR chA
      rw [if_pos h1, if_pos h2]
  · refine J_ldc2 (n := 4000000000000000000) hX mQ_X9_260 rfl rfl (by decide) dX9_chance_16 ?_
    refine J_aloadN hX rfl rfl dX9_chance_19 ?_
    refine J_iload hX rfl dX9_chance_20 ?_
    refine cV1w hX cb_X9_refuse mL_X9_72 dX9_chance_22 (c_xrefuse (by omega) hf) ?_
    refine J_i2l hX dX9_chance_25 ?_
    refine J_lsub hX (fun _ _ => by omega) dX9_chance_26 ?_
    refine J_lret hX hR0 dX9_chance_27 ⟨?_, by rw [if_neg h1]⟩
    unfold chR
    rw [if_neg h1]
theorem kt_ex (h : rfKT A p x = 0) : inN p (A 1) ∧ inN x 2 ∧ ∃ i, aOf A i p := by
  have hp : inN p (A 1) := Classical.byContradiction fun q => by unfold rfKT at h; rw [if_neg q] at h; omega
  have hx : inN x 2 := Classical.byContradiction fun q => by unfold rfKT at h; rw [if_pos hp, if_neg q] at h; omega
  refine ⟨hp, hx, Classical.byContradiction fun q => ?_⟩
  have : cntI (fun i => aOf A i p) 24 = 0 := cntI_zero (by omega) (fun j _ z => q ⟨j, z⟩)
  unfold rfKT at h
  rw [if_pos hp, if_pos hx, if_pos this] at h
  omega
theorem kt_b : -6 ≤ rfKT A p x ∧ rfKT A p x ≤ 0 := by
  unfold rfKT
  repeat' split
  all_goals omega
theorem l_xknown (hX : Ok_X9_known G X 6) (hR : RelV m 0 A) (hI : InvA A C D) (hrf : rfKT A p x = 0) (hR0 : JRt G X (pi (anX m (rfKT A p x) (knA A p x) (FrX m))) (some .int)) : ∀ i, 0 ≤ i → i ≤ 24 → ∀ al, (al = knI A anI 63 p i ∨ (al = -1 ∧ knI A anI 63 p i = 63 ∧ ∀ j, inN j i → ¬ aOf A j p)) → J G X 26 [vr 0 0 0, vi p, vi x, vi 0, vi (knI A orI 0 p i), vi al, vi i] [] m := by
  obtain ⟨hp, hx, ex⟩ := kt_ex hrf
  refine up_to (fun i h1 h2 ih al hal => ?_)
  have bo := knI_b (A := A) (z := 0) (p := p) (n := i) (op := orI) hI (fun a b ha hb => orI_b ha hb) (by omega) h1 h2
  have ba := knI_b (A := A) (z := 63) (p := p) (n := i) (op := anI) hI (fun a b ha hb => anI_b ha hb) (by omega) h1 h2
  refine J_iload hX rfl dX9_known_26 ?_
  refine J_bipush hX (by decide) dX9_known_28 ?_
  refine J_icmp_ge (tgt := 88) hX (by decide) dX9_known_30 (fun h3 => ?_) (fun h3 => ?_)
  · have e : i = 24 := by omega
    subst e
    have hal2 : al = knI A anI 63 p 24 := hal.resolve_right (fun q => by
      obtain ⟨j, hj⟩ := ex
      exact q.2.2 j ⟨hj.1.1, hj.1.2.1⟩ hj)
    refine J_iloadN hX rfl rfl dX9_known_88 ?_
    refine J_if_ne (tgt := 97) hX (by decide) dX9_known_89 (fun h4 => ?_) (fun h4 => ?_)
    · refine J_iload hX rfl dX9_known_97 ?_
      exact J_iret hX hR0 dX9_known_99 (anX.yes hrf (by unfold knA; rw [if_neg h4]; exact hal2) FrX.rf)
    · refine J_iload hX rfl dX9_known_92 ?_
      refine J_goto (tgt := 99) hX (by decide) dX9_known_94 ?_
      exact J_iret hX hR0 dX9_known_99 (anX.yes hrf (by unfold knA; rw [if_pos h4]) FrX.rf)
  · have eo := knI_s (A := A) (op := orI) (z := 0) (p := p) h1
    have ea := knI_s (A := A) (op := anI) (z := 63) (p := p) h1
    refine J_aloadN hX rfl rfl dX9_known_33 ?_
    refine G_HalfHere_now hX dX9_known_34 mF_X9_19 ?_
    refine J_iload hX rfl dX9_known_37 ?_
    refine J_iloadN hX rfl rfl dX9_known_39 ?_
    refine cV2w hX cb_X7_isPartOf mL_X9_278 dX9_known_40 (c_isPartOf hR) ?_
    refine J_ifb_eq (tgt := 82) hX (by decide) dX9_known_43 (fun h4 => ?_) (fun h4 => ?_)
    · rw [ifP_neg h4] at eo ea
      have nx := ih (by omega) al (hal.elim (fun q => Or.inl (by rw [ea]; exact q)) (fun q => Or.inr ⟨q.1, by rw [ea]; exact q.2.1, fun j hj => by
        by_cases z : j = i
        · rw [z]; exact h4
        · exact q.2.2 j (by omega)⟩))
      rw [eo] at nx
      refine sinc_6 hX (fun _ => by omega) dX9_known_82 ?_
      refine J_goto (tgt := 26) hX (by decide) dX9_known_85 ?_
      exact nx
    · rw [ifP_pos h4] at eo ea
      obtain ⟨v0, v1, v2, v3, v4, v5, v6⟩ := hR.part h4.1
      have h6 := (hI.part h4.1).2.2.2.2.2.2
      have i64 : inN (aP A i 6) 64 := by omega
      have bn := anI_b ba i64
      have key : Int32.ofInt al &&& Int32.ofInt (aP A i 6) = Int32.ofInt (anI (knI A anI 63 p i) (aP A i 6)) ∧ inR (anI (knI A anI 63 p i) (aP A i 6)) := by
        rcases hal with q | q
        · rw [q]; exact sd_and ba i64
        · rw [q.1, q.2.1, an_63 i64]; exact sd_am1 i64
      have nx := ih (by omega) _ (Or.inl ea.symm)
      rw [eo] at nx
      refine J_iload hX rfl dX9_known_46 ?_
      refine J_aloadN hX rfl rfl dX9_known_48 ?_
      refine G_HalfHere_now hX dX9_known_49 mF_X9_19 ?_
      refine G_Village_parts hX dX9_known_52 mF_X9_153 ?_
      refine J_iload hX rfl dX9_known_55 ?_
      refine A_8 hX (by omega) dX9_known_57 ?_
      refine G_Part_seen hX dX9_known_58 mF_X9_175 ?_
      rw [v6]
      refine J_ior hX (fun _ _ => sd_or bo i64) dX9_known_61 ?_
      refine si_4 hX dX9_known_62 ?_
      refine J_iload hX rfl dX9_known_64 ?_
      refine J_aloadN hX rfl rfl dX9_known_66 ?_
      refine G_HalfHere_now hX dX9_known_67 mF_X9_19 ?_
      refine G_Village_parts hX dX9_known_70 mF_X9_153 ?_
      refine J_iload hX rfl dX9_known_73 ?_
      refine A_8 hX (by omega) dX9_known_75 ?_
      refine G_Part_seen hX dX9_known_76 mF_X9_175 ?_
      rw [v6]
      refine J_iand hX (fun _ _ => key) dX9_known_79 ?_
      refine si_5 hX dX9_known_80 ?_
      refine sinc_6 hX (fun _ => by omega) dX9_known_82 ?_
      refine J_goto (tgt := 26) hX (by decide) dX9_known_85 ?_
      exact nx
theorem c_xknown (hR : RelV m 0 A) (hI : InvA A C D) (hf : few33 m) : K_X9_known G [vr 0 0 0, vi p, vi x] m (pi (anX m (rfKT A p x) (knA A p x) (FrX m))) := by
  refine E_X9_known (fun X hX hR0 _ _ => ?_)
  have hb := kt_b (A := A) (p := p) (x := x)
  refine J_aloadN hX rfl rfl dX9_known_0 ?_
  refine J_iloadN hX rfl rfl dX9_known_1 ?_
  refine J_iloadN hX rfl rfl dX9_known_2 ?_
  refine cV2w hX cb_X9_refusalOfParts mL_X9_269 dX9_known_3 (c_refusalOfParts hR) ?_
  refine siN_3 hX dX9_known_6 ?_
  refine J_iloadN hX rfl rfl dX9_known_7 ?_
  refine J_if_eq (tgt := 17) hX (by decide) dX9_known_8 (fun h1 => ?_) (fun h1 => ?_)
  · refine J_iconst hX (by decide) dX9_known_17 ?_
    refine si_4 hX dX9_known_18 ?_
    refine J_iconst hX (by decide) dX9_known_20 ?_
    refine si_5 hX dX9_known_21 ?_
    refine J_iconst hX (by decide) dX9_known_23 ?_
    refine si_6 hX dX9_known_24 ?_
    have fin := l_xknown hX hR hI h1 hR0 0 (by omega) (by omega) (-1) (Or.inr ⟨rfl, rfl, fun j hj => by have := hj.1; have := hj.2; omega⟩)
    rw [h1] at *
    exact fin
  · refine J_aloadN hX rfl rfl dX9_known_11 ?_
    refine J_iloadN hX rfl rfl dX9_known_12 ?_
    refine cV1w hX cb_X9_refuse mL_X9_72 dX9_known_13 (c_xrefuse (by omega) hf) ?_
    exact J_iret hX hR0 dX9_known_16 (anX.no rfl h1)
def clT (s : Int × Int) : Int := if s.1 < 0 then -9 else s.2
def cwT (s : Int × Int) : Int := if s.1 < 0 then -9 else s.1
def okTg (s : Int × Int) : Prop := s.1 = -9 ∨ (0 ≤ s.1 ∧ s.1 ≤ 6 ∧ 0 ≤ s.2 ∧ s.2 < 1000000)
theorem l_xtog {m0 : HM} (hX : Ok_X9_together G X 6) (hR : RelV m 0 A) (hI : InvA A C D) (hC : C ≤ 900000) (hM : RelF m 0 (fwA A)) (hfr : FrX m0 m) (hrf : rfKT A p x = 0) (hR0 : JRt G X (pi (anX m0 (rfKT A p x) (tgA A p x) (FrX m0))) (some .int)) : ∀ i, 0 ≤ i → i ≤ A 0 → ∀ s b, okTg s → tgW A p = rfI (tgT A p) i (A 0) s → J G X 35 [vr 0 0 0, vi p, vi x, vi 0, vi (clT s), vi (cwT s), vi i, b] [] m := by
  have h0 := hI.1
  obtain ⟨hp, hx, ex⟩ := kt_ex hrf
  refine up_to (fun i h1 h2 ih s b hs he => ?_)
  refine J_iload hX rfl dX9_together_35 ?_
  refine J_aloadN hX rfl rfl dX9_together_37 ?_
  refine G_HalfHere_now hX dX9_together_38 mF_X9_19 ?_
  refine G_Village_places hX dX9_together_41 mF_X9_272 ?_
  rw [hR.1.1]
  refine J_icmp_ge (tgt := 92) hX (by decide) dX9_together_44 (fun h3 => ?_) (fun h3 => ?_)
  · rw [rfI_0 (by omega)] at he
    refine J_iloadN hX rfl rfl dX9_together_92 ?_
    refine J_if_ne (tgt := 101) hX (by decide) dX9_together_93 (fun h4 => ?_) (fun h4 => ?_)
    · refine J_iload hX rfl dX9_together_101 ?_
      have ea : cwT s = tgA A p x := by
        unfold tgA cwT
        rw [he]
        by_cases q : s.1 < 0
        · rw [if_pos q, if_pos (Or.inl q)]; rcases hs with z | z <;> omega
        · rw [if_neg q, if_pos (Or.inr (by omega))]
      exact J_iret hX hR0 dX9_together_103 (anX.yes hrf ea hfr)
    · refine J_iload hX rfl dX9_together_96 ?_
      refine J_goto (tgt := 103) hX (by decide) dX9_together_98 ?_
      have ea : clT s = tgA A p x := by
        unfold tgA clT
        rw [he]
        by_cases q : s.1 < 0
        · rw [if_pos q, if_pos (Or.inl q)]; rcases hs with z | z <;> omega
        · rw [if_neg q, if_neg (by omega)]
      exact J_iret hX hR0 dX9_together_103 (anX.yes hrf ea hfr)
  · have hy6 : inN i 6 := by omega
    have mn := mxI_nn (momF A p i) 24
    have mm : 0 ≤ momA A p i := mn
    rw [rfI_s (by omega)] at he
    have ecl : s.1 = -9 → clT s = -9 := fun q => by unfold clT; rw [if_pos (by omega)]
    have ecl2 : 0 ≤ s.1 → clT s = s.2 := fun q => by unfold clT; rw [if_neg (by omega)]
    have K86 : ∀ c, tgT A p i s = s → J G X 86 [vr 0 0 0, vi p, vi x, vi 0, vi (clT s), vi (cwT s), vi i, c] [] m := fun c e => by
      rw [e] at he
      refine sinc_6 hX (fun _ => by omega) dX9_together_86 ?_
      refine J_goto (tgt := 35) hX (by decide) dX9_together_89 ?_
      exact ih (by omega) s _ hs he
    have K78 : tgT A p i s = (i, momA A p i) → momA A p i < 1000000 → J G X 78 [vr 0 0 0, vi p, vi x, vi 0, vi (clT s), vi (cwT s), vi i, vi (momA A p i)] [] m := fun e hlt => by
      rw [e] at he
      have nx := ih (by omega) (i, momA A p i) (vi (momA A p i)) (Or.inr ⟨h1, by show i ≤ 6; omega, mm, hlt⟩) he
      have e1 : clT (i, momA A p i) = momA A p i := by unfold clT; exact if_neg (by show ¬ i < 0; omega)
      have e2 : cwT (i, momA A p i) = i := by unfold cwT; exact if_neg (by show ¬ i < 0; omega)
      rw [e1, e2] at nx
      refine J_iload hX rfl dX9_together_78 ?_
      refine si_4 hX dX9_together_80 ?_
      refine J_iload hX rfl dX9_together_82 ?_
      refine si_5 hX dX9_together_84 ?_
      refine sinc_6 hX (fun _ => by omega) dX9_together_86 ?_
      refine J_goto (tgt := 35) hX (by decide) dX9_together_89 ?_
      exact nx
    refine J_aloadN hX rfl rfl dX9_together_47 ?_
    refine G_HalfHere_now hX dX9_together_48 mF_X9_19 ?_
    refine J_iloadN hX rfl rfl dX9_together_51 ?_
    refine J_iload hX rfl dX9_together_52 ?_
    refine cV2w hX cb_X7_minuteAt mL_X9_275 dX9_together_54 (c_minuteAt hR hI hC hM hy6 ex) ?_
    by_cases hge : 1000000 ≤ momA A p i
    · rw [gF_ge hge]
      refine si_7 hX dX9_together_57 ?_
      refine J_iload hX rfl dX9_together_59 ?_
      refine J_if_lt (tgt := 86) hX (by decide) dX9_together_61 (fun h4 => ?_) (fun h4 => ?_)
      · exact K86 _ (if_pos (Or.inl hge))
      · omega
    · rw [gF_lt (by omega)]
      refine si_7 hX dX9_together_57 ?_
      refine J_iload hX rfl dX9_together_59 ?_
      refine J_if_lt (tgt := 86) hX (by decide) dX9_together_61 (fun h4 => ?_) (fun h4 => ?_)
      · omega
      · refine J_iload hX rfl dX9_together_64 ?_
        refine J_bipush hX (by decide) dX9_together_66 ?_
        refine J_icmp_eq (tgt := 78) hX (by decide) dX9_together_68 (fun h5 => ?_) (fun h5 => ?_)
        · have hs1 : s.1 < 0 := by
            rcases hs with z | z
            · omega
            · have := ecl2 z.1; omega
          exact K78 (if_neg (by omega)) (by omega)
        · have hs1 : 0 ≤ s.1 := by
            rcases hs with z | z
            · exact absurd (ecl z) h5
            · omega
          refine J_iload hX rfl dX9_together_71 ?_
          refine J_iload hX rfl dX9_together_73 ?_
          refine J_icmp_ge (tgt := 86) hX (by decide) dX9_together_75 (fun h6 => ?_) (fun h6 => ?_)
          · exact K86 _ (if_pos (Or.inr ⟨hs1, by rw [← ecl2 hs1]; exact h6⟩))
          · exact K78 (if_neg (fun q => by rw [ecl2 hs1] at h6; omega)) (by omega)
theorem c_xtogether (hR : RelV m 0 A) (hI : InvA A C D) (hC : C ≤ 900000) (hf : few33 m) : K_X9_together G [vr 0 0 0, vi p, vi x] m (pi (anX m (rfKT A p x) (tgA A p x) (FrX m))) := by
  refine E_X9_together (fun X hX hR0 _ _ => ?_)
  have hb := kt_b (A := A) (p := p) (x := x)
  have h0 := hI.1
  refine J_aloadN hX rfl rfl dX9_together_0 ?_
  refine J_iloadN hX rfl rfl dX9_together_1 ?_
  refine J_iloadN hX rfl rfl dX9_together_2 ?_
  refine cV2w hX cb_X9_refusalOfParts mL_X9_269 dX9_together_3 (c_refusalOfParts hR) ?_
  refine siN_3 hX dX9_together_6 ?_
  refine J_iloadN hX rfl rfl dX9_together_7 ?_
  refine J_if_eq (tgt := 17) hX (by decide) dX9_together_8 (fun h1 => ?_) (fun h1 => ?_)
  · refine J_aloadN hX rfl rfl dX9_together_17 ?_
    refine G_HalfHere_now hX dX9_together_18 mF_X9_19 ?_
    refine cV0u hX cb_X7_measure mL_X9_143 dX9_together_21 (c_measure hR hI) (fun m2 hm2 => ?_)
    have hx := hm2.1.toX
    refine J_bipush hX (by decide) dX9_together_24 ?_
    refine si_4 hX dX9_together_26 ?_
    refine J_bipush hX (by decide) dX9_together_28 ?_
    refine si_5 hX dX9_together_30 ?_
    refine J_iconst hX (by decide) dX9_together_32 ?_
    refine si_6 hX dX9_together_33 ?_
    have fin := l_xtog (b := vx) hX (hR.frX hx) hI hC hm2.2 hx h1 hR0 0 (by omega) (by omega) (-9, 0) (Or.inl rfl) rfl
    rw [h1]
    exact fin
  · refine J_aloadN hX rfl rfl dX9_together_11 ?_
    refine J_iloadN hX rfl rfl dX9_together_12 ?_
    refine cV1w hX cb_X9_refuse mL_X9_72 dX9_together_13 (c_xrefuse (by omega) hf) ?_
    exact J_iret hX hR0 dX9_together_16 (anX.no rfl h1)
theorem c_ximage (hR : RelV m 0 A) (hI : InvA A C D) : K_X9_image G [vr 0 0 0] m (pi (fun r m' => r = cntI (aIs A) 24 ∧ (∀ t v i, ¬ (1 ≤ t ∧ t ≤ 13 ∧ v = 2) → t ≠ 0 → m' t v i = m t v i) ∧ m' 0 0 0 = st1 (m 0 0 0) 4 1 ∧ RelV m' 2 A)) := by
  refine E_X9_image (fun X hX hR0 _ _ => ?_)
  refine J_aloadN hX rfl rfl dX9_image_0 ?_
  refine G_HalfHere_kept hX dX9_image_1 mF_X9_26 ?_
  refine J_aloadN hX rfl rfl dX9_image_4 ?_
  refine G_HalfHere_now hX dX9_image_5 mF_X9_19 ?_
  refine cV1u hX cb_X7_become mL_X9_83 dX9_image_8 (c_Village_become (by decide)) (fun m2 hm2 => ?_)
  have hk : RelV (upr m2 0 0 0 (st1 (m2 0 0 0) 4 1)) 2 A := (hR.cpy hI hm2.2).keep (upr_t rfl) (fun i => upr_t rfl) (fun i => upr_t rfl) (fun i => upr_t rfl) (fun i => upr_t rfl) (fun i => upr_t rfl) (fun i => upr_t rfl)
  have h0' : RelV (upr m2 0 0 0 (st1 (m2 0 0 0) 4 1)) 0 A := hR.keep ((upr_t rfl).trans (hm2.1 1 0 0 (by omega))) (fun i => (upr_t rfl).trans (hm2.1 3 0 i (by omega))) (fun i => (upr_t rfl).trans (hm2.1 9 0 i (by omega))) (fun i => (upr_t rfl).trans (hm2.1 10 0 i (by omega))) (fun i => (upr_t rfl).trans (hm2.1 11 0 i (by omega))) (fun i => (upr_t rfl).trans (hm2.1 12 0 i (by omega))) (fun i => (upr_t rfl).trans (hm2.1 13 0 i (by omega)))
  refine J_aloadN hX rfl rfl dX9_image_11 ?_
  refine J_iconst hX (by decide) dX9_image_12 ?_
  refine P_HalfHere_isKept hX (by omega) dX9_image_13 mF_X9_29 ?_
  refine J_aloadN hX rfl rfl dX9_image_16 ?_
  refine G_HalfHere_now hX dX9_image_17 mF_X9_19 ?_
  refine cV0w hX cb_X7_partCount mL_X9_285 dX9_image_20 (c_partCount h0') ?_
  exact J_iret hX hR0 dX9_image_23 (⟨_, rfl, rfl, fun t v i a b => by rw [upr_tag b]; exact hm2.1 t v i a, by rw [upr_eq, hm2.1 0 0 0 (by omega)], hk⟩)
theorem c_xon (him : m 0 0 0 4 = x) (hB : x ≠ 0 → RelV m 2 B ∧ InvA B C D) (hf : few33 m) : K_X9_on G [vr 0 0 0] m (pi (anX m (rfOn x) (cntI (aIs B) 24) (fun m' => (∀ t v i, ¬ (1 ≤ t ∧ t ≤ 13 ∧ v = 0) → t ≠ 23 → m' t v i = m t v i) ∧ m' 23 0 0 6 = 0 ∧ RelV m' 0 B))) := by
  refine E_X9_on (fun X hX hR0 _ _ => ?_)
  refine J_aloadN hX rfl rfl dX9_on_0 ?_
  refine G_HalfHere_isKept hX dX9_on_1 mF_X9_29 ?_
  rw [him]
  refine J_if_ne (tgt := 14) hX (by decide) dX9_on_4 (fun h1 => ?_) (fun h1 => ?_)
  · obtain ⟨hR, hI⟩ := hB h1
    refine J_aloadN hX rfl rfl dX9_on_14 ?_
    refine G_HalfHere_now hX dX9_on_15 mF_X9_19 ?_
    refine J_aloadN hX rfl rfl dX9_on_18 ?_
    refine G_HalfHere_kept hX dX9_on_19 mF_X9_26 ?_
    refine cV1u hX cb_X7_become mL_X9_83 dX9_on_22 (c_Village_become (by decide)) (fun m2 hm2 => ?_)
    have hk := hR.cpy hI hm2.2
    refine J_aloadN hX rfl rfl dX9_on_25 ?_
    refine G_HalfHere_quartering hX dX9_on_26 mF_X9_50 ?_
    refine cV0v hX cb_X5_forget mL_X9_94 dX9_on_29 (c_forget) ?_
    have hk2 : RelV (upr m2 23 0 0 (st1 (m2 23 0 0) 6 0)) 0 B := hk.keep (upr_t rfl) (fun i => upr_t rfl) (fun i => upr_t rfl) (fun i => upr_t rfl) (fun i => upr_t rfl) (fun i => upr_t rfl) (fun i => upr_t rfl)
    refine J_aloadN hX rfl rfl dX9_on_32 ?_
    refine G_HalfHere_now hX dX9_on_33 mF_X9_19 ?_
    refine cV0w hX cb_X7_partCount mL_X9_285 dX9_on_36 (c_partCount hk2) ?_
    exact J_iret hX hR0 dX9_on_39 (anX.yes (by unfold rfOn; rw [if_neg h1]) rfl ⟨fun t v i a b => by rw [upr_tag b]; exact hm2.1 t v i a, by rw [upr_eq, st1_eq], hk2⟩)
  · refine J_aloadN hX rfl rfl dX9_on_7 ?_
    refine J_bipush hX (by decide) dX9_on_8 ?_
    refine cV1w hX cb_X9_refuse mL_X9_72 dX9_on_10 (c_xrefuse (by omega) hf) ?_
    exact J_iret hX hR0 dX9_on_13 (anX.no (by unfold rfOn; rw [if_pos h1]) (by decide))
/-- after a telling -/
def viP (m : HM) (T : Int → Int) (n : Int) (B : Int → Int) (C D : Int) (r : Int) (m' : HM) : Prop := r = (vil T n B).2.1 ∧ (∀ t v i, t ≠ 16 → t ≠ 14 → t ≠ 23 → ¬ (1 ≤ t ∧ t ≤ 13 ∧ (v = 0 ∨ v = 1)) → m' t v i = m t v i) ∧ m' 14 0 0 1 = 0 ∧ NN m' ∧ (((vil T n B).1 = true ∧ RelV m' 0 (vil T n B).2.2 ∧ InvA (vil T n B).2.2 C D ∧ InvS (vil T n B).2.2 ∧ m' 23 0 0 6 = 0) ∨ ((vil T n B).1 = false ∧ RelV m' 0 B ∧ ∀ i, m' 23 0 i = m 23 0 i))
theorem c_xvillage (hR : RelV m 0 B) (hI : InvA B C D) (hS : InvS B) (hT : TpC m T n) (hn : NN m) (hC : 0 ≤ C) (hD : 0 ≤ D) : K_X9_village G [vr 0 0 0] m (pi (viP m T n B C D)) := by
  refine E_X9_village (fun X hX hR0 _ _ => ?_)
  refine J_aloadN hX rfl rfl dX9_village_0 ?_
  refine G_HalfHere_trial hX dX9_village_1 mF_X9_23 ?_
  refine J_aloadN hX rfl rfl dX9_village_4 ?_
  refine G_HalfHere_now hX dX9_village_5 mF_X9_19 ?_
  refine cV1u hX cb_X7_become mL_X9_83 dX9_village_8 (c_Village_become (by decide)) (fun m2 hm2 => ?_)
  have hk := hR.cpy hI hm2.2
  have hT2 : TpC m2 T n := ⟨⟨by rw [hm2.1 14 0 0 (by omega)]; exact hT.1.1, fun j hj => by rw [hm2.1 15 0 0 (by omega)]; exact hT.1.2 j hj⟩, hT.2⟩
  have hn2 : NN m2 := hn.fv hm2.1
  refine J_aloadN hX rfl rfl dX9_village_11 ?_
  refine G_HalfHere_tape hX dX9_village_12 mF_X9_10 ?_
  refine J_aloadN hX rfl rfl dX9_village_15 ?_
  refine G_HalfHere_trial hX dX9_village_16 mF_X9_23 ?_
  refine cV1i hX cb_X6_tellAll mL_X9_87 dX9_village_19 (c_tellAll hT2 hn2 hk hI hS hC hD) (fun r m3 hm3 => ?_)
  obtain ⟨hr, hf3, hn3, hc3⟩ := hm3
  have hf : ∀ t v' i, t ≠ 16 → t ≠ 14 → ¬ (1 ≤ t ∧ t ≤ 13 ∧ v' = 1) → m3 t v' i = m t v' i := fun t v' i a b c => (hf3.1 t v' i a b c).trans (hm2.1 t v' i c)
  refine siN_1 hX dX9_village_22 ?_
  refine J_aloadN hX rfl rfl dX9_village_23 ?_
  refine G_HalfHere_tape hX dX9_village_24 mF_X9_10 ?_
  refine cV0v hX cb_X6_clear mL_X9_91 dX9_village_27 (c_tclear) ?_
  have hf4 : ∀ t v' i, t ≠ 16 → t ≠ 14 → ¬ (1 ≤ t ∧ t ≤ 13 ∧ v' = 1) → upr m3 14 0 0 (st1 (m3 14 0 0) 1 0) t v' i = m t v' i := fun t v' i a b c => by rw [upr_tag b]; exact hf t v' i a b c
  rcases hc3 with ⟨c1, c2, c3, c4, c5⟩ | ⟨c1, c2⟩
  · have c3' : RelV (upr m3 14 0 0 (st1 (m3 14 0 0) 1 0)) 1 (vil T n B).2.2 := c3.keep (upr_t rfl) (fun i => upr_t rfl) (fun i => upr_t rfl) (fun i => upr_t rfl) (fun i => upr_t rfl) (fun i => upr_t rfl) (fun i => upr_t rfl)
    refine J_iloadN hX rfl rfl dX9_village_30 ?_
    refine J_if_le (tgt := 52) hX (by decide) dX9_village_31 (fun h1 => ?_) (fun h1 => ?_)
    · omega
    · refine J_aloadN hX rfl rfl dX9_village_34 ?_
      refine G_HalfHere_now hX dX9_village_35 mF_X9_19 ?_
      refine J_aloadN hX rfl rfl dX9_village_38 ?_
      refine G_HalfHere_trial hX dX9_village_39 mF_X9_23 ?_
      refine cV1u hX cb_X7_become mL_X9_83 dX9_village_42 (c_Village_become (by decide)) (fun m5 hm5 => ?_)
      have k5 := c3'.cpy c4 hm5.2
      refine J_aloadN hX rfl rfl dX9_village_45 ?_
      refine G_HalfHere_quartering hX dX9_village_46 mF_X9_50 ?_
      refine cV0v hX cb_X5_forget mL_X9_94 dX9_village_49 (c_forget) ?_
      have k6 : RelV (upr m5 23 0 0 (st1 (m5 23 0 0) 6 0)) 0 (vil T n B).2.2 := k5.keep (upr_t rfl) (fun i => upr_t rfl) (fun i => upr_t rfl) (fun i => upr_t rfl) (fun i => upr_t rfl) (fun i => upr_t rfl) (fun i => upr_t rfl)
      refine J_iloadN hX rfl rfl dX9_village_52 ?_
      exact J_iret hX hR0 dX9_village_53 (⟨_, rfl, hr, fun t v i a b c d => by rw [upr_tag c, hm5.1 t v i (by omega)]; exact hf4 t v i a b (by omega), by rw [upr_tag (by decide), hm5.1 14 0 0 (by omega), upr_eq, st1_eq], fun j hj => by rw [upr_tag (by decide), hm5.1 16 0 0 (by omega)]; exact hn3.f14 j hj, Or.inl ⟨c1, k6, c4, c5, by rw [upr_eq, st1_eq]⟩⟩)
  · skip
    refine J_iloadN hX rfl rfl dX9_village_30 ?_
    refine J_if_le (tgt := 52) hX (by decide) dX9_village_31 (fun h1 => ?_) (fun h1 => ?_)
    · refine J_iloadN hX rfl rfl dX9_village_52 ?_
      exact J_iret hX hR0 dX9_village_53 (⟨_, rfl, hr, fun t v i a b c d => hf4 t v i a b (by omega), by rw [upr_eq, st1_eq], hn3.f14, Or.inr ⟨c1, hR.keep (hf4 1 0 0 (by decide) (by decide) (by omega)) (fun i => hf4 3 0 i (by decide) (by decide) (by omega)) (fun i => hf4 9 0 i (by decide) (by decide) (by omega)) (fun i => hf4 10 0 i (by decide) (by decide) (by omega)) (fun i => hf4 11 0 i (by decide) (by decide) (by omega)) (fun i => hf4 12 0 i (by decide) (by decide) (by omega)) (fun i => hf4 13 0 i (by decide) (by decide) (by omega)), fun i => hf4 23 0 i (by decide) (by decide) (by omega)⟩⟩)
    · omega
end Hf
