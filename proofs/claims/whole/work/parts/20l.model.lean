/-! ===== 20l: the reference: what changes parts ===== -/
def aS (A : Int → Int) (i k x : Int) : Int → Int := st1 A (99 + 7 * i + k) x
theorem aS_eq (A : Int → Int) (i k x : Int) : aP (aS A i k x) i k = x := st1_eq _ _ _
theorem aS_ne {A : Int → Int} {i k x j l : Int} (h : ¬ (99 + 7 * j + l = 99 + 7 * i + k)) : aP (aS A i k x) j l = aP A j l := st1_ne h
noncomputable def spF (A : Int → Int) (i t : Int) : Int → Int := aS (aS (aS (lay A (99 + 7 * fpA A (-9)) 7 (fun k => aP A i k)) (fpA A (-9)) 1 t) (fpA A (-9)) 3 (-9)) i 1 (aP A i 1 - t)
def spL (A : Int → Int) (i : Int) : Int := aG A (aP A i 0 - 1) 3
noncomputable def rfSplit (A : Int → Int) (i t : Int) : Int := ifP (aIs A i) (if t < spL A i ∨ aP A i 1 - spL A i < t then -3 else if fpA A (-9) < 0 then -6 else 0) (-1)
noncomputable def rfGo (A : Int → Int) (i y : Int) : Int := ifP (aIs A i ∧ inN y (A 0)) (if gF (fwA A (aP A i 2) y) < 0 then -3 else 0) (-1)
def goF (A : Int → Int) (i y : Int) : Int → Int := aS (aS (aS A i 4 (aP A i 4 + gF (fwA A (aP A i 2) y))) i 2 y) i 3 (-9)
noncomputable def rfIs (A : Int → Int) (i : Int) : Int := ifP (aIs A i) 0 (-1)
def seN (A : Int → Int) (i : Int) : Int := orI (aP A i 6) (p2 (aP A i 2))
noncomputable def rfJoin (A : Int → Int) (i j : Int) : Int := ifP (aIs A i ∧ aIs A j ∧ i ≠ j) (if aP A i 0 = aP A j 0 ∧ aP A i 2 = aP A j 2 then 0 else -3) (-1)
def joF (A : Int → Int) (i j : Int) : Int → Int := aS (aS (aS (aS (aS (aS A i 1 (aP A i 1 + aP A j 1)) i 4 (max (aP A i 4) (aP A j 4) + 1)) i 5 (max (aP A i 5) (aP A j 5))) i 6 (orI (aP A i 6) (aP A j 6))) i 3 (-9)) j 0 0
noncomputable def rfAt (A : Int → Int) (i w : Int) : Int := ifP (aIs A i ∧ (w = -1 ∨ inN w (A 2))) (if 0 ≤ w ∧ aW A w 1 ≠ aP A i 2 then -3 else 0) (-1)
def atF (A : Int → Int) (i w : Int) : Int → Int := aS A i 3 (if w < 0 then -9 else w)
noncomputable def rfToil (A : Int → Int) (i x : Int) : Int := ifP (aIs A i) (if x < 1 then -4 else if 600 < x then -6 else if aP A i 3 < 0 then -3 else 0) (-1)
def toF (A : Int → Int) (i x : Int) : Int → Int := aS (aS A i 4 (aP A i 4 + x)) i 5 (aP A i 5 + x * 12 / aP A i 1)
noncomputable def rfRest (A : Int → Int) (i x : Int) : Int := ifP (aIs A i) (if x < 1 then -4 else if 600 < x then -6 else 0) (-1)
def reF (A : Int → Int) (i x : Int) : Int → Int := aS (aS A i 4 (aP A i 4 + x)) i 5 (max 0 (aP A i 5 - 2 * x))
/-- the reference's s is A' now -/
def FrA (m : HM) (A' : Int → Int) (m' : HM) : Prop := FrQ (upr m 42 0 0 A') m'
theorem FrA.i {m m' : HM} {A' : Int → Int} (h : m' = upr m 42 0 0 A') : FrA m A' m' := by
  unfold FrA
  rw [h]
  exact FrQ.rf
section Mod
variable {G : GC} {X : JX} {m : HM} {κ p t τ w x y z i k q b : Int} {A N S g F : Int → Int} {H C D : Int}
theorem up42 (A B : Int → Int) : upr (upr m 42 0 0 A) 42 0 0 B = upr m 42 0 0 B := upr_upr _ _ _ _ _ _
theorem at42 (A : Int → Int) : upr m 42 0 0 A 42 0 0 = A := upr_eq _ _ _ _ _
theorem InvA.p6 (h : InvA A C D) (hi : aIs A i) : inN (aP A i 2) 6 := by
  have h0 := h.1
  have := (h.part hi).2.2.1
  omega
theorem c_mlose (hA : m 42 0 0 = A) (hf : few41 m) : K_X10_lose G [vr 40 0 0, vi i] m (pi (anQ m (rfIs A i) (aP A i 1) (FrA m (aS A i 0 0)))) := by
  refine E_X10_lose (fun X hX hR0 _ _ => ?_)
  refine J_aloadN hX rfl rfl dX10_lose_0 ?_
  refine J_iloadN hX rfl rfl dX10_lose_1 ?_
  refine cV1w hX cb_X10_isPart mL_X10_131 dX10_lose_2 (c_isPart hA) ?_
  refine J_ifb_ne (tgt := 14) hX (by decide) dX10_lose_5 (fun h1 => ?_) (fun h1 => ?_)
  · have hi : inN i 24 := ⟨h1.1, h1.2.1⟩
    refine J_aloadN hX rfl rfl dX10_lose_14 ?_
    refine J_iloadN hX rfl rfl dX10_lose_15 ?_
    refine J_iconst hX (by decide) dX10_lose_16 ?_
    refine J_iconst hX (by decide) dX10_lose_17 ?_
    refine cV3v hX cb_X10_puts mL_X10_134 dX10_lose_18 (c_puts hi (by omega)) ?_
    rw [hA]
    refine J_aloadN hX rfl rfl dX10_lose_21 ?_
    refine J_iloadN hX rfl rfl dX10_lose_22 ?_
    refine J_iconst hX (by decide) dX10_lose_23 ?_
    refine cV2w hX cb_X10_part mL_X10_50 dX10_lose_24 (c_part (at42 _) hi (by omega)) ?_
    exact J_iret hX hR0 dX10_lose_27 (anQ.yes (ifP_pos h1) (st1_ne (by omega)) (FrA.i rfl))
  · refine J_aloadN hX rfl rfl dX10_lose_8 ?_
    refine J_iconst hX (by decide) dX10_lose_9 ?_
    refine cV1w hX cb_X10_refuse mL_X10_62 dX10_lose_10 (c_mrefuse (by omega) (hf _ (by omega))) ?_
    exact J_iret hX hR0 dX10_lose_13 (anQ.no (ifP_neg h1) (by omega))
theorem c_msee (hA : m 42 0 0 = A) (hI : InvA A C D) (hf : few41 m) : K_X10_see G [vr 40 0 0, vi i] m (pi (anQ m (rfIs A i) (pcI (seN A i)) (FrA m (aS A i 6 (seN A i))))) := by
  refine E_X10_see (fun X hX hR0 _ _ => ?_)
  refine J_aloadN hX rfl rfl dX10_see_0 ?_
  refine J_iloadN hX rfl rfl dX10_see_1 ?_
  refine cV1w hX cb_X10_isPart mL_X10_131 dX10_see_2 (c_isPart hA) ?_
  refine J_ifb_ne (tgt := 14) hX (by decide) dX10_see_5 (fun h1 => ?_) (fun h1 => ?_)
  · have hi : inN i 24 := ⟨h1.1, h1.2.1⟩
    have hp := hI.part h1
    have hp2 := hI.p6 h1
    have hs : inN (seN A i) 64 := orI_b (by omega) (p2_b hp2).1
    refine J_aloadN hX rfl rfl dX10_see_14 ?_
    refine J_iloadN hX rfl rfl dX10_see_15 ?_
    refine J_bipush hX (by decide) dX10_see_16 ?_
    refine J_aloadN hX rfl rfl dX10_see_18 ?_
    refine J_iloadN hX rfl rfl dX10_see_19 ?_
    refine J_bipush hX (by decide) dX10_see_20 ?_
    refine cV2w hX cb_X10_part mL_X10_50 dX10_see_22 (c_part hA hi (by omega)) ?_
    refine J_iconst hX (by decide) dX10_see_25 ?_
    refine J_aloadN hX rfl rfl dX10_see_26 ?_
    refine J_iloadN hX rfl rfl dX10_see_27 ?_
    refine J_iconst hX (by decide) dX10_see_28 ?_
    refine cV2w hX cb_X10_part mL_X10_50 dX10_see_29 (c_part hA hi (by omega)) ?_
    refine J_ishl hX (fun _ _ => sd_shl ⟨hp2.1, by omega⟩) dX10_see_32 ?_
    refine J_ior hX (fun _ _ => sd_or (by omega) (p2_b hp2).1) dX10_see_33 ?_
    refine cV3v hX cb_X10_puts mL_X10_134 dX10_see_34 (c_puts hi (by omega)) ?_
    rw [hA]
    refine J_aloadN hX rfl rfl dX10_see_37 ?_
    refine J_iloadN hX rfl rfl dX10_see_38 ?_
    refine J_bipush hX (by decide) dX10_see_39 ?_
    refine cV2w hX cb_X10_part mL_X10_50 dX10_see_41 (c_part (A := aS A i 6 (seN A i)) (at42 _) hi (by omega)) ?_
    rw [aS_eq]
    refine cS1w hX cb_X10_bits mL_X10_138 dX10_see_44 (c_bits hs) ?_
    exact J_iret hX hR0 dX10_see_47 (anQ.yes (ifP_pos h1) rfl (FrA.i rfl))
  · refine J_aloadN hX rfl rfl dX10_see_8 ?_
    refine J_iconst hX (by decide) dX10_see_9 ?_
    refine cV1w hX cb_X10_refuse mL_X10_62 dX10_see_10 (c_mrefuse (by omega) (hf _ (by omega))) ?_
    exact J_iret hX hR0 dX10_see_13 (anQ.no (ifP_neg h1) (by omega))
theorem c_mgo (hA : m 42 0 0 = A) (hI : InvA A C D) (hC : C ≤ 900000) (hf : few41 m) : K_X10_go G [vr 40 0 0, vi i, vi y] m (pi (anQ m (rfGo A i y) (aP A i 4 + gF (fwA A (aP A i 2) y)) (FrA m (goF A i y)))) := by
  refine E_X10_go (fun X hX hR0 _ _ => ?_)
  have h0 := hI.1
  have no : ¬ (aIs A i ∧ inN y (A 0)) → J G X 16 [vr 40 0 0, vi i, vi y, vx] [] m := fun h2 => by
    refine J_aloadN hX rfl rfl dX10_go_16 ?_
    refine J_iconst hX (by decide) dX10_go_17 ?_
    refine cV1w hX cb_X10_refuse mL_X10_62 dX10_go_18 (c_mrefuse (by omega) (hf _ (by omega))) ?_
    exact J_iret hX hR0 dX10_go_21 (anQ.no (ifP_neg h2) (by omega))
  refine J_aloadN hX rfl rfl dX10_go_0 ?_
  refine J_iloadN hX rfl rfl dX10_go_1 ?_
  refine cV1w hX cb_X10_isPart mL_X10_131 dX10_go_2 (c_isPart hA) ?_
  refine J_ifb_eq (tgt := 16) hX (by decide) dX10_go_5 (fun h1 => ?_) (fun h1 => ?_)
  · exact no (fun q => h1 q.1)
  · have hi : inN i 24 := ⟨h1.1, h1.2.1⟩
    have hp := hI.part h1
    have hp2 := hI.p6 h1
    refine J_aloadN hX rfl rfl dX10_go_8 ?_
    refine J_iloadN hX rfl rfl dX10_go_9 ?_
    refine cV1w hX cb_X10_isSpot mL_X10_125 dX10_go_10 (c_isSpot hA) ?_
    refine J_ifb_ne (tgt := 22) hX (by decide) dX10_go_13 (fun h2 => ?_) (fun h2 => ?_)
    · have hfw := okFn hI (n := 6) (by omega) (aP A i 2) y hp2 (by omega)
      have hfb : gF (fwA A (aP A i 2) y) ≤ 3840 ∧ -9 ≤ gF (fwA A (aP A i 2) y) := by
        unfold gF
        split
        · rename_i q
          have := hfw.2.2.1 q
          have := hfw.1
          show fwA A (aP A i 2) y ≤ 3840 ∧ -9 ≤ fwA A (aP A i 2) y
          unfold fwA at *
          omega
        · omega
      refine J_aloadN hX rfl rfl dX10_go_22 ?_
      refine J_aloadN hX rfl rfl dX10_go_23 ?_
      refine J_iloadN hX rfl rfl dX10_go_24 ?_
      refine J_iconst hX (by decide) dX10_go_25 ?_
      refine cV2w hX cb_X10_part mL_X10_50 dX10_go_26 (c_part hA hi (by omega)) ?_
      refine J_iloadN hX rfl rfl dX10_go_29 ?_
      refine cV2i hX cb_X10_minutesOf mL_X10_128 dX10_go_30 (c_minutesOf hA hI hp2 (by omega)) (fun r m2 hm2 => ?_)
      obtain ⟨rfl, hfr⟩ := hm2
      have hA2 := hfr.a42 hA T47_42
      refine siN_3 hX dX10_go_33 ?_
      refine J_iloadN hX rfl rfl dX10_go_34 ?_
      refine J_if_ge (tgt := 45) hX (by decide) dX10_go_35 (fun h3 => ?_) (fun h3 => ?_)
      · refine J_aloadN hX rfl rfl dX10_go_45 ?_
        refine J_iloadN hX rfl rfl dX10_go_46 ?_
        refine J_iconst hX (by decide) dX10_go_47 ?_
        refine J_aloadN hX rfl rfl dX10_go_48 ?_
        refine J_iloadN hX rfl rfl dX10_go_49 ?_
        refine J_iconst hX (by decide) dX10_go_50 ?_
        refine cV2w hX cb_X10_part mL_X10_50 dX10_go_51 (c_part hA2 hi (by omega)) ?_
        refine J_iloadN hX rfl rfl dX10_go_54 ?_
        refine J_iadd hX (fun _ _ => by omega) dX10_go_55 ?_
        refine cV3v hX cb_X10_puts mL_X10_134 dX10_go_56 (c_puts hi (by omega)) ?_
        rw [hA2]
        refine J_aloadN hX rfl rfl dX10_go_59 ?_
        refine J_iloadN hX rfl rfl dX10_go_60 ?_
        refine J_iconst hX (by decide) dX10_go_61 ?_
        refine J_iloadN hX rfl rfl dX10_go_62 ?_
        refine cV3v hX cb_X10_puts mL_X10_134 dX10_go_63 (c_puts hi (by omega)) ?_
        rw [at42, up42]
        refine J_aloadN hX rfl rfl dX10_go_66 ?_
        refine J_iloadN hX rfl rfl dX10_go_67 ?_
        refine J_iconst hX (by decide) dX10_go_68 ?_
        refine J_bipush hX (by decide) dX10_go_69 ?_
        refine cV3v hX cb_X10_puts mL_X10_134 dX10_go_71 (c_puts hi (by omega)) ?_
        rw [at42, up42]
        refine J_aloadN hX rfl rfl dX10_go_74 ?_
        refine J_iloadN hX rfl rfl dX10_go_75 ?_
        refine J_iconst hX (by decide) dX10_go_76 ?_
        refine cV2w hX cb_X10_part mL_X10_50 dX10_go_77 (c_part (A := goF A i y) (at42 _) hi (by omega)) ?_
        refine J_iret hX hR0 dX10_go_80 ?_
        refine anQ.yes (by unfold rfGo; rw [ifP_pos ⟨h1, h2⟩, if_neg (by omega)]) ?_ ?_
        · unfold goF
          rw [aS_ne (by omega), aS_ne (by omega), aS_eq]
        · refine ⟨fun t v i' a b => ?_, fun k a => ?_⟩
          · by_cases q : t = 42 ∧ v = 0 ∧ i' = 0
            · obtain ⟨rfl, rfl, rfl⟩ := q
              rw [upr_eq, upr_eq]
              rfl
            · rw [upr_ne q, upr_ne q]
              exact hfr.1 t v i' (fun q => a (T47q t q)) b
          · rw [upr_tag (by decide), upr_tag (by decide)]
            exact hfr.2 k (by omega)
      · refine J_aloadN hX rfl rfl dX10_go_38 ?_
        refine J_bipush hX (by decide) dX10_go_39 ?_
        have hf2 : few41 m2 := fun k hk => by rw [hfr.1 41 0 0 (by unfold T47; decide) (by decide)]; exact hf k hk
        refine cV1w hX cb_X10_refuse mL_X10_62 dX10_go_41 (c_mrefuse (by omega) (hf2 _ (by omega))) ?_
        exact J_iret hX hR0 dX10_go_44 (anQ.no2 (hfr.q T47q) (by unfold rfGo; rw [ifP_pos ⟨h1, h2⟩, if_pos h3]) (by omega))
    · exact no (fun q => h2 q.2)
theorem c_mjoin {j : Int} (hA : m 42 0 0 = A) (hI : InvA A C D) (hC : C ≤ 900000) (hf : few41 m) : K_X10_join G [vr 40 0 0, vi i, vi j] m (pi (anQ m (rfJoin A i j) (aP A i 1 + aP A j 1) (FrA m (joF A i j)))) := by
  refine E_X10_join (fun X hX hR0 _ _ => ?_)
  have h0 := hI.1
  have no : ¬ (aIs A i ∧ aIs A j ∧ i ≠ j) → J G X 21 [vr 40 0 0, vi i, vi j] [] m := fun h2 => by
    refine J_aloadN hX rfl rfl dX10_join_21 ?_
    refine J_iconst hX (by decide) dX10_join_22 ?_
    refine cV1w hX cb_X10_refuse mL_X10_62 dX10_join_23 (c_mrefuse (by omega) (hf _ (by omega))) ?_
    exact J_iret hX hR0 dX10_join_26 (anQ.no (ifP_neg h2) (by omega))
  refine J_aloadN hX rfl rfl dX10_join_0 ?_
  refine J_iloadN hX rfl rfl dX10_join_1 ?_
  refine cV1w hX cb_X10_isPart mL_X10_131 dX10_join_2 (c_isPart hA) ?_
  refine J_ifb_eq (tgt := 21) hX (by decide) dX10_join_5 (fun h1 => ?_) (fun h1 => ?_)
  · exact no (fun q => h1 q.1)
  · have hi : inN i 24 := ⟨h1.1, h1.2.1⟩
    have hp := hI.part h1
    have hs1 := hI.share h1
    refine J_aloadN hX rfl rfl dX10_join_8 ?_
    refine J_iloadN hX rfl rfl dX10_join_9 ?_
    refine cV1w hX cb_X10_isPart mL_X10_131 dX10_join_10 (c_isPart hA) ?_
    refine J_ifb_eq (tgt := 21) hX (by decide) dX10_join_13 (fun h2 => ?_) (fun h2 => ?_)
    · exact no (fun q => h2 q.2.1)
    · have hj : inN j 24 := ⟨h2.1, h2.2.1⟩
      have hq := hI.part h2
      have hs2 := hI.share h2
      refine J_iloadN hX rfl rfl dX10_join_16 ?_
      refine J_iloadN hX rfl rfl dX10_join_17 ?_
      refine J_icmp_ne (tgt := 27) hX (by decide) dX10_join_18 (fun h3 => ?_) (fun h3 => ?_)
      · have no3 : ¬ (aP A i 0 = aP A j 0 ∧ aP A i 2 = aP A j 2) → J G X 57 [vr 40 0 0, vi i, vi j] [] m := fun h2' => by
          refine J_aloadN hX rfl rfl dX10_join_57 ?_
          refine J_bipush hX (by decide) dX10_join_58 ?_
          refine cV1w hX cb_X10_refuse mL_X10_62 dX10_join_60 (c_mrefuse (by omega) (hf _ (by omega))) ?_
          exact J_iret hX hR0 dX10_join_63 (anQ.no (by unfold rfJoin; rw [ifP_pos ⟨h1, h2, h3⟩, if_neg h2']) (by omega))
        refine J_aloadN hX rfl rfl dX10_join_27 ?_
        refine J_iloadN hX rfl rfl dX10_join_28 ?_
        refine J_iconst hX (by decide) dX10_join_29 ?_
        refine cV2w hX cb_X10_part mL_X10_50 dX10_join_30 (c_part hA hi (by omega)) ?_
        refine J_aloadN hX rfl rfl dX10_join_33 ?_
        refine J_iloadN hX rfl rfl dX10_join_34 ?_
        refine J_iconst hX (by decide) dX10_join_35 ?_
        refine cV2w hX cb_X10_part mL_X10_50 dX10_join_36 (c_part hA hj (by omega)) ?_
        refine J_icmp_ne (tgt := 57) hX (by decide) dX10_join_39 (fun h4 => ?_) (fun h4 => ?_)
        · exact no3 (fun q => h4 q.1)
        · refine J_aloadN hX rfl rfl dX10_join_42 ?_
          refine J_iloadN hX rfl rfl dX10_join_43 ?_
          refine J_iconst hX (by decide) dX10_join_44 ?_
          refine cV2w hX cb_X10_part mL_X10_50 dX10_join_45 (c_part hA hi (by omega)) ?_
          refine J_aloadN hX rfl rfl dX10_join_48 ?_
          refine J_iloadN hX rfl rfl dX10_join_49 ?_
          refine J_iconst hX (by decide) dX10_join_50 ?_
          refine cV2w hX cb_X10_part mL_X10_50 dX10_join_51 (c_part hA hj (by omega)) ?_
          refine J_icmp_eq (tgt := 64) hX (by decide) dX10_join_54 (fun h5 => ?_) (fun h5 => ?_)
          · have hor := orI_b (a := aP A i 6) (b := aP A j 6) (by omega) (by omega)
            refine J_aloadN hX rfl rfl dX10_join_64 ?_
            refine J_iloadN hX rfl rfl dX10_join_65 ?_
            refine J_iconst hX (by decide) dX10_join_66 ?_
            refine J_aloadN hX rfl rfl dX10_join_67 ?_
            refine J_iloadN hX rfl rfl dX10_join_68 ?_
            refine J_iconst hX (by decide) dX10_join_69 ?_
            refine cV2w hX cb_X10_part mL_X10_50 dX10_join_70 (c_part hA hi (by omega)) ?_
            refine J_aloadN hX rfl rfl dX10_join_73 ?_
            refine J_iloadN hX rfl rfl dX10_join_74 ?_
            refine J_iconst hX (by decide) dX10_join_75 ?_
            refine cV2w hX cb_X10_part mL_X10_50 dX10_join_76 (c_part hA hj (by omega)) ?_
            refine J_iadd hX (fun _ _ => by omega) dX10_join_79 ?_
            refine cV3v hX cb_X10_puts mL_X10_134 dX10_join_80 (c_puts hi (by omega)) ?_
            rw [hA]
            refine J_aloadN hX rfl rfl dX10_join_83 ?_
            refine J_iloadN hX rfl rfl dX10_join_84 ?_
            refine J_iconst hX (by decide) dX10_join_85 ?_
            refine J_aloadN hX rfl rfl dX10_join_86 ?_
            refine J_iloadN hX rfl rfl dX10_join_87 ?_
            refine J_iconst hX (by decide) dX10_join_88 ?_
            refine cV2w hX cb_X10_part mL_X10_50 dX10_join_89 (c_part (A := aS A i 1 (aP A i 1 + aP A j 1)) (at42 _) hi (by omega)) ?_
            rw [aS_ne (by omega)]
            refine J_aloadN hX rfl rfl dX10_join_92 ?_
            refine J_iloadN hX rfl rfl dX10_join_93 ?_
            refine J_iconst hX (by decide) dX10_join_94 ?_
            refine cV2w hX cb_X10_part mL_X10_50 dX10_join_95 (c_part (A := aS A i 1 (aP A i 1 + aP A j 1)) (at42 _) hj (by omega)) ?_
            rw [aS_ne (by omega)]
            refine cS2w hX cb_X10_greater mL_X10_141 dX10_join_98 (c_greater) ?_
            refine J_iconst hX (by decide) dX10_join_101 ?_
            refine J_iadd hX (fun _ _ => by omega) dX10_join_102 ?_
            refine cV3v hX cb_X10_puts mL_X10_134 dX10_join_103 (c_puts hi (by omega)) ?_
            rw [at42, up42]
            refine J_aloadN hX rfl rfl dX10_join_106 ?_
            refine J_iloadN hX rfl rfl dX10_join_107 ?_
            refine J_iconst hX (by decide) dX10_join_108 ?_
            refine J_aloadN hX rfl rfl dX10_join_109 ?_
            refine J_iloadN hX rfl rfl dX10_join_110 ?_
            refine J_iconst hX (by decide) dX10_join_111 ?_
            refine cV2w hX cb_X10_part mL_X10_50 dX10_join_112 (c_part (A := aS (aS A i 1 (aP A i 1 + aP A j 1)) i 4 (max (aP A i 4) (aP A j 4) + 1)) (at42 _) hi (by omega)) ?_
            rw [aS_ne (by omega), aS_ne (by omega)]
            refine J_aloadN hX rfl rfl dX10_join_115 ?_
            refine J_iloadN hX rfl rfl dX10_join_116 ?_
            refine J_iconst hX (by decide) dX10_join_117 ?_
            refine cV2w hX cb_X10_part mL_X10_50 dX10_join_118 (c_part (A := aS (aS A i 1 (aP A i 1 + aP A j 1)) i 4 (max (aP A i 4) (aP A j 4) + 1)) (at42 _) hj (by omega)) ?_
            rw [aS_ne (by omega), aS_ne (by omega)]
            refine cS2w hX cb_X10_greater mL_X10_141 dX10_join_121 (c_greater) ?_
            refine cV3v hX cb_X10_puts mL_X10_134 dX10_join_124 (c_puts hi (by omega)) ?_
            rw [at42, up42]
            refine J_aloadN hX rfl rfl dX10_join_127 ?_
            refine J_iloadN hX rfl rfl dX10_join_128 ?_
            refine J_bipush hX (by decide) dX10_join_129 ?_
            refine J_aloadN hX rfl rfl dX10_join_131 ?_
            refine J_iloadN hX rfl rfl dX10_join_132 ?_
            refine J_bipush hX (by decide) dX10_join_133 ?_
            refine cV2w hX cb_X10_part mL_X10_50 dX10_join_135 (c_part (A := aS (aS (aS A i 1 (aP A i 1 + aP A j 1)) i 4 (max (aP A i 4) (aP A j 4) + 1)) i 5 (max (aP A i 5) (aP A j 5))) (at42 _) hi (by omega)) ?_
            rw [aS_ne (by omega), aS_ne (by omega), aS_ne (by omega)]
            refine J_aloadN hX rfl rfl dX10_join_138 ?_
            refine J_iloadN hX rfl rfl dX10_join_139 ?_
            refine J_bipush hX (by decide) dX10_join_140 ?_
            refine cV2w hX cb_X10_part mL_X10_50 dX10_join_142 (c_part (A := aS (aS (aS A i 1 (aP A i 1 + aP A j 1)) i 4 (max (aP A i 4) (aP A j 4) + 1)) i 5 (max (aP A i 5) (aP A j 5))) (at42 _) hj (by omega)) ?_
            rw [aS_ne (by omega), aS_ne (by omega), aS_ne (by omega)]
            refine J_ior hX (fun _ _ => sd_or (by omega) (by omega)) dX10_join_145 ?_
            refine cV3v hX cb_X10_puts mL_X10_134 dX10_join_146 (c_puts hi (by omega)) ?_
            rw [at42, up42]
            refine J_aloadN hX rfl rfl dX10_join_149 ?_
            refine J_iloadN hX rfl rfl dX10_join_150 ?_
            refine J_iconst hX (by decide) dX10_join_151 ?_
            refine J_bipush hX (by decide) dX10_join_152 ?_
            refine cV3v hX cb_X10_puts mL_X10_134 dX10_join_154 (c_puts hi (by omega)) ?_
            rw [at42, up42]
            refine J_aloadN hX rfl rfl dX10_join_157 ?_
            refine J_iloadN hX rfl rfl dX10_join_158 ?_
            refine J_iconst hX (by decide) dX10_join_159 ?_
            refine J_iconst hX (by decide) dX10_join_160 ?_
            refine cV3v hX cb_X10_puts mL_X10_134 dX10_join_161 (c_puts hj (by omega)) ?_
            rw [at42, up42]
            refine J_aloadN hX rfl rfl dX10_join_164 ?_
            refine J_iloadN hX rfl rfl dX10_join_165 ?_
            refine J_iconst hX (by decide) dX10_join_166 ?_
            refine cV2w hX cb_X10_part mL_X10_50 dX10_join_167 (c_part (A := joF A i j) (at42 _) hi (by omega)) ?_
            refine J_iret hX hR0 dX10_join_170 ?_
            refine anQ.yes (by unfold rfJoin; rw [ifP_pos ⟨h1, h2, h3⟩, if_pos ⟨by omega, by omega⟩]) ?_ (FrA.i rfl)
            unfold joF
            rw [aS_ne (by omega), aS_ne (by omega), aS_ne (by omega), aS_ne (by omega), aS_ne (by omega), aS_eq]
          · exact no3 (fun q => h5 q.2)
      · skip
        exact no (fun q => q.2.2 h3)
theorem c_mat (hA : m 42 0 0 = A) (hI : InvA A C D) (hf : few41 m) : K_X10_at G [vr 40 0 0, vi i, vi w] m (pi (anQ m (rfAt A i w) (aP A i 3) (FrA m (atF A i w)))) := by
  refine E_X10_at (fun X hX hR0 _ _ => ?_)
  have h0 := hI.1
  have no : ¬ (aIs A i ∧ (w = -1 ∨ inN w (A 2))) → J G X 21 [vr 40 0 0, vi i, vi w, vx] [] m := fun h2 => by
    refine J_aloadN hX rfl rfl dX10_at_21 ?_
    refine J_iconst hX (by decide) dX10_at_22 ?_
    refine cV1w hX cb_X10_refuse mL_X10_62 dX10_at_23 (c_mrefuse (by omega) (hf _ (by omega))) ?_
    exact J_iret hX hR0 dX10_at_26 (anQ.no (ifP_neg h2) (by omega))
  refine J_aloadN hX rfl rfl dX10_at_0 ?_
  refine J_iloadN hX rfl rfl dX10_at_1 ?_
  refine cV1w hX cb_X10_isPart mL_X10_131 dX10_at_2 (c_isPart hA) ?_
  refine J_ifb_eq (tgt := 21) hX (by decide) dX10_at_5 (fun h1 => ?_) (fun h1 => ?_)
  · exact no (fun q => h1 q.1)
  · have hi : inN i 24 := ⟨h1.1, h1.2.1⟩
    have hp := hI.part h1
    have K53 : ¬ (0 ≤ w ∧ aW A w 1 ≠ aP A i 2) → (w = -1 ∨ inN w (A 2)) → J G X 53 [vr 40 0 0, vi i, vi w, vx] [] m := fun hn h2 => by
      have rf : rfAt A i w = 0 := by unfold rfAt; rw [ifP_pos ⟨h1, h2⟩, if_neg hn]
      refine J_aloadN hX rfl rfl dX10_at_53 ?_
      refine J_iloadN hX rfl rfl dX10_at_54 ?_
      refine J_iconst hX (by decide) dX10_at_55 ?_
      refine cV2w hX cb_X10_part mL_X10_50 dX10_at_56 (c_part hA hi (by omega)) ?_
      refine siN_3 hX dX10_at_59 ?_
      refine J_aloadN hX rfl rfl dX10_at_60 ?_
      refine J_iloadN hX rfl rfl dX10_at_61 ?_
      refine J_iconst hX (by decide) dX10_at_62 ?_
      refine J_iloadN hX rfl rfl dX10_at_63 ?_
      refine J_if_ge (tgt := 72) hX (by decide) dX10_at_64 (fun h6 => ?_) (fun h6 => ?_)
      · refine J_iloadN hX rfl rfl dX10_at_72 ?_
        refine cV3v hX cb_X10_puts mL_X10_134 dX10_at_73 (c_puts hi (by omega)) ?_
        rw [hA]
        refine J_iloadN hX rfl rfl dX10_at_76 ?_
        exact J_iret hX hR0 dX10_at_77 (anQ.yes rf rfl (FrA.i (by unfold atF; rw [if_neg (by omega)]; rfl)))
      · refine J_bipush hX (by decide) dX10_at_67 ?_
        refine J_goto (tgt := 73) hX (by decide) dX10_at_69 ?_
        refine cV3v hX cb_X10_puts mL_X10_134 dX10_at_73 (c_puts hi (by omega)) ?_
        rw [hA]
        refine J_iloadN hX rfl rfl dX10_at_76 ?_
        exact J_iret hX hR0 dX10_at_77 (anQ.yes rf rfl (FrA.i (by unfold atF; rw [if_pos (by omega)]; rfl)))
    have K27 : (w = -1 ∨ inN w (A 2)) → J G X 27 [vr 40 0 0, vi i, vi w, vx] [] m := fun h2 => by
      refine J_iloadN hX rfl rfl dX10_at_27 ?_
      refine J_if_lt (tgt := 53) hX (by decide) dX10_at_28 (fun h3 => ?_) (fun h3 => ?_)
      · exact K53 (fun q => by have := q.1; omega) h2
      · refine J_aloadN hX rfl rfl dX10_at_31 ?_
        refine J_iloadN hX rfl rfl dX10_at_32 ?_
        refine J_iconst hX (by decide) dX10_at_33 ?_
        refine cV2w hX cb_X10_of mL_X10_118 dX10_at_34 (c_of hA (by omega) (by omega)) ?_
        refine J_aloadN hX rfl rfl dX10_at_37 ?_
        refine J_iloadN hX rfl rfl dX10_at_38 ?_
        refine J_iconst hX (by decide) dX10_at_39 ?_
        refine cV2w hX cb_X10_part mL_X10_50 dX10_at_40 (c_part hA hi (by omega)) ?_
        refine J_icmp_eq (tgt := 53) hX (by decide) dX10_at_43 (fun h4 => ?_) (fun h4 => ?_)
        · exact K53 (fun q => q.2 h4) h2
        · refine J_aloadN hX rfl rfl dX10_at_46 ?_
          refine J_bipush hX (by decide) dX10_at_47 ?_
          refine cV1w hX cb_X10_refuse mL_X10_62 dX10_at_49 (c_mrefuse (by omega) (hf _ (by omega))) ?_
          exact J_iret hX hR0 dX10_at_52 (anQ.no (by unfold rfAt; rw [ifP_pos ⟨h1, h2⟩, if_pos ⟨by omega, h4⟩]) (by omega))
    refine J_iloadN hX rfl rfl dX10_at_8 ?_
    refine J_iconst hX (by decide) dX10_at_9 ?_
    refine J_icmp_eq (tgt := 27) hX (by decide) dX10_at_10 (fun h3 => ?_) (fun h3 => ?_)
    · exact K27 (Or.inl h3)
    · refine J_aloadN hX rfl rfl dX10_at_13 ?_
      refine J_iloadN hX rfl rfl dX10_at_14 ?_
      refine cV1w hX cb_X10_isWork mL_X10_115 dX10_at_15 (c_isWork hA) ?_
      refine J_ifb_ne (tgt := 27) hX (by decide) dX10_at_18 (fun h4 => ?_) (fun h4 => ?_)
      · exact K27 (Or.inr h4)
      · exact no (fun q => q.2.elim h3 h4)
theorem c_mtoil (hA : m 42 0 0 = A) (hI : InvA A C D) (hC : C ≤ 900000) (hD : D ≤ 10000000) (hf : few41 m) : K_X10_toil G [vr 40 0 0, vi i, vi x] m (pi (anQ m (rfToil A i x) (aP A i 5 + x * 12 / aP A i 1) (FrA m (toF A i x)))) := by
  refine E_X10_toil (fun X hX hR0 _ _ => ?_)
  have h0 := hI.1
  have K37 : ∀ r, r = rfToil A i x → J G X 37 [vr 40 0 0, vi i, vi x, vi r] [] m := fun r hr => by
    have hrb : -6 ≤ r ∧ r ≤ 0 := by
      rw [hr]
      unfold rfToil
      by_cases h1 : aIs A i
      · rw [ifP_pos h1]; split <;> try split
        all_goals first | omega | (split <;> omega)
      · rw [ifP_neg h1]; omega
    refine J_iloadN hX rfl rfl dX10_toil_37 ?_
    refine J_if_eq (tgt := 47) hX (by decide) dX10_toil_38 (fun h1 => ?_) (fun h1 => ?_)
    · have hn : ¬ (x < 1 ∨ 600 < x ∨ ¬ aIs A i ∨ aP A i 3 < 0) := fun q => by
        rw [hr] at h1
        unfold rfToil at h1
        by_cases hIs : aIs A i
        · rw [ifP_pos hIs] at h1
          rcases q with q | q | q | q
          · rw [if_pos q] at h1; omega
          · rw [if_neg (by omega), if_pos q] at h1; omega
          · exact q hIs
          · by_cases q1 : x < 1
            · rw [if_pos q1] at h1; omega
            · by_cases q2 : 600 < x
              · rw [if_neg q1, if_pos q2] at h1; omega
              · rw [if_neg q1, if_neg q2, if_pos q] at h1; omega
        · rw [ifP_neg hIs] at h1; omega
      have hIs : aIs A i := Classical.byContradiction (fun q => hn (Or.inr (Or.inr (Or.inl q))))
      have hi : inN i 24 := ⟨hIs.1, hIs.2.1⟩
      have hp := hI.part hIs
      have hs := hI.share hIs
      have hd : (x * 12).tdiv (aP A i 1) = x * 12 / aP A i 1 := Int.tdiv_eq_ediv_of_nonneg (by omega)
      have hb1 := Int.ediv_nonneg (show 0 ≤ x * 12 by omega) (show 0 ≤ aP A i 1 by omega)
      have hb2 := Int.ediv_le_self (aP A i 1) (show 0 ≤ x * 12 by omega)
      refine J_aloadN hX rfl rfl dX10_toil_47 ?_
      refine J_iloadN hX rfl rfl dX10_toil_48 ?_
      refine J_iconst hX (by decide) dX10_toil_49 ?_
      refine J_aloadN hX rfl rfl dX10_toil_50 ?_
      refine J_iloadN hX rfl rfl dX10_toil_51 ?_
      refine J_iconst hX (by decide) dX10_toil_52 ?_
      refine cV2w hX cb_X10_part mL_X10_50 dX10_toil_53 (c_part hA hi (by omega)) ?_
      refine J_iloadN hX rfl rfl dX10_toil_56 ?_
      refine J_iadd hX (fun _ _ => by omega) dX10_toil_57 ?_
      refine cV3v hX cb_X10_puts mL_X10_134 dX10_toil_58 (c_puts hi (by omega)) ?_
      rw [hA]
      refine J_aloadN hX rfl rfl dX10_toil_61 ?_
      refine J_iloadN hX rfl rfl dX10_toil_62 ?_
      refine J_iconst hX (by decide) dX10_toil_63 ?_
      refine J_aloadN hX rfl rfl dX10_toil_64 ?_
      refine J_iloadN hX rfl rfl dX10_toil_65 ?_
      refine J_iconst hX (by decide) dX10_toil_66 ?_
      refine cV2w hX cb_X10_part mL_X10_50 dX10_toil_67 (c_part (A := aS A i 4 (aP A i 4 + x)) (at42 _) hi (by omega)) ?_
      rw [aS_ne (by omega)]
      refine J_iloadN hX rfl rfl dX10_toil_70 ?_
      refine J_bipush hX (by decide) dX10_toil_71 ?_
      refine J_imul hX (fun _ _ => by omega) dX10_toil_73 ?_
      refine J_aloadN hX rfl rfl dX10_toil_74 ?_
      refine J_iloadN hX rfl rfl dX10_toil_75 ?_
      refine J_iconst hX (by decide) dX10_toil_76 ?_
      refine cV2w hX cb_X10_part mL_X10_50 dX10_toil_77 (c_part (A := aS A i 4 (aP A i 4 + x)) (at42 _) hi (by omega)) ?_
      rw [aS_ne (by omega)]
      refine J_idiv hX (fun _ _ => by omega) (fun _ _ => by rw [hd]; omega) dX10_toil_80 ?_
      rw [hd]
      refine J_iadd hX (fun _ _ => by omega) dX10_toil_81 ?_
      refine cV3v hX cb_X10_puts mL_X10_134 dX10_toil_82 (c_puts hi (by omega)) ?_
      rw [at42, up42]
      refine J_aloadN hX rfl rfl dX10_toil_85 ?_
      refine J_iloadN hX rfl rfl dX10_toil_86 ?_
      refine J_iconst hX (by decide) dX10_toil_87 ?_
      refine cV2w hX cb_X10_part mL_X10_50 dX10_toil_88 (c_part (A := toF A i x) (at42 _) hi (by omega)) ?_
      exact J_iret hX hR0 dX10_toil_91 (anQ.yes (by omega) (by unfold toF; rw [aS_eq]) (FrA.i rfl))
    · refine J_aloadN hX rfl rfl dX10_toil_41 ?_
      refine J_iloadN hX rfl rfl dX10_toil_42 ?_
      refine cV1w hX cb_X10_refuse mL_X10_62 dX10_toil_43 (c_mrefuse (by omega) (hf _ (by omega))) ?_
      exact J_iret hX hR0 dX10_toil_46 (anQ.no hr.symm h1)
  refine J_aloadN hX rfl rfl dX10_toil_0 ?_
  refine J_iloadN hX rfl rfl dX10_toil_1 ?_
  refine cV1w hX cb_X10_isPart mL_X10_131 dX10_toil_2 (c_isPart hA) ?_
  refine J_ifb_eq (tgt := 19) hX (by decide) dX10_toil_5 (fun h1 => ?_) (fun h1 => ?_)
  · refine J_iconst hX (by decide) dX10_toil_19 ?_
    refine siN_3 hX dX10_toil_20 ?_
    refine J_iloadN hX rfl rfl dX10_toil_21 ?_
    refine J_if_ne (tgt := 37) hX (by decide) dX10_toil_22 (fun h2 => ?_) (fun h2 => ?_)
    · exact K37 _ (by unfold rfToil; rw [ifP_neg h1])
    · omega
  · have hi : inN i 24 := ⟨h1.1, h1.2.1⟩
    refine J_iloadN hX rfl rfl dX10_toil_8 ?_
    refine J_iconst hX (by decide) dX10_toil_9 ?_
    refine J_sipush hX (by decide) dX10_toil_10 ?_
    refine cS3w hX cb_X10_within mL_X10_54 dX10_toil_13 (c_within) ?_
    refine J_goto (tgt := 20) hX (by decide) dX10_toil_16 ?_
    refine siN_3 hX dX10_toil_20 ?_
    refine J_iloadN hX rfl rfl dX10_toil_21 ?_
    refine J_if_ne (tgt := 37) hX (by decide) dX10_toil_22 (fun h2 => ?_) (fun h2 => ?_)
    · refine K37 _ ?_
      unfold rfToil
      rw [ifP_pos h1]
      by_cases q1 : x < 1
      · rw [if_pos q1, if_pos q1]
      · rw [if_neg q1] at h2 ⊢
        by_cases q2 : 600 < x
        · rw [if_pos q2, if_neg q1, if_pos q2]
        · rw [if_neg q2] at h2; omega
    · have q1 : ¬ x < 1 := fun q => by rw [if_pos q] at h2; omega
      have q2 : ¬ 600 < x := fun q => by rw [if_neg q1, if_pos q] at h2; omega
      refine J_aloadN hX rfl rfl dX10_toil_25 ?_
      refine J_iloadN hX rfl rfl dX10_toil_26 ?_
      refine J_iconst hX (by decide) dX10_toil_27 ?_
      refine cV2w hX cb_X10_part mL_X10_50 dX10_toil_28 (c_part hA hi (by omega)) ?_
      refine J_if_ge (tgt := 37) hX (by decide) dX10_toil_31 (fun h3 => ?_) (fun h3 => ?_)
      · exact K37 _ (by unfold rfToil; rw [ifP_pos h1, if_neg q1, if_neg q2, if_neg q1, if_neg q2, if_neg (by omega)])
      · refine J_bipush hX (by decide) dX10_toil_34 ?_
        refine siN_3 hX dX10_toil_36 ?_
        exact K37 _ (by unfold rfToil; rw [ifP_pos h1, if_neg q1, if_neg q2, if_pos h3])
theorem c_mrest (hA : m 42 0 0 = A) (hI : InvA A C D) (hC : C ≤ 900000) (hD : D ≤ 10000000) (hf : few41 m) : K_X10_rest G [vr 40 0 0, vi i, vi x] m (pi (anQ m (rfRest A i x) (max 0 (aP A i 5 - 2 * x)) (FrA m (reF A i x)))) := by
  refine E_X10_rest (fun X hX hR0 _ _ => ?_)
  have h0 := hI.1
  refine J_aloadN hX rfl rfl dX10_rest_0 ?_
  refine J_iloadN hX rfl rfl dX10_rest_1 ?_
  refine cV1w hX cb_X10_isPart mL_X10_131 dX10_rest_2 (c_isPart hA) ?_
  refine J_ifb_eq (tgt := 19) hX (by decide) dX10_rest_5 (fun h1 => ?_) (fun h1 => ?_)
  · refine J_iconst hX (by decide) dX10_rest_19 ?_
    refine siN_3 hX dX10_rest_20 ?_
    refine J_iloadN hX rfl rfl dX10_rest_21 ?_
    refine J_if_eq (tgt := 31) hX (by decide) dX10_rest_22 (fun h2 => ?_) (fun h2 => ?_)
    · omega
    · refine J_aloadN hX rfl rfl dX10_rest_25 ?_
      refine J_iloadN hX rfl rfl dX10_rest_26 ?_
      refine cV1w hX cb_X10_refuse mL_X10_62 dX10_rest_27 (c_mrefuse (by omega) (hf _ (by omega))) ?_
      exact J_iret hX hR0 dX10_rest_30 (anQ.no (by unfold rfRest; rw [ifP_neg h1]) (by omega))
  · have hi : inN i 24 := ⟨h1.1, h1.2.1⟩
    have hp := hI.part h1
    have e : rfRest A i x = if x < 1 then -4 else if 600 < x then -6 else 0 := by unfold rfRest; rw [ifP_pos h1]
    have hrb : -6 ≤ rfRest A i x ∧ rfRest A i x ≤ 0 := by
      rw [e]
      split
      · omega
      · split <;> omega
    refine J_iloadN hX rfl rfl dX10_rest_8 ?_
    refine J_iconst hX (by decide) dX10_rest_9 ?_
    refine J_sipush hX (by decide) dX10_rest_10 ?_
    refine cS3w hX cb_X10_within mL_X10_54 dX10_rest_13 (c_within) ?_
    rw [← e]
    refine J_goto (tgt := 20) hX (by decide) dX10_rest_16 ?_
    refine siN_3 hX dX10_rest_20 ?_
    refine J_iloadN hX rfl rfl dX10_rest_21 ?_
    refine J_if_eq (tgt := 31) hX (by decide) dX10_rest_22 (fun h2 => ?_) (fun h2 => ?_)
    · rw [e] at h2
      have q1 : ¬ x < 1 := fun q => by rw [if_pos q] at h2; omega
      have q2 : ¬ 600 < x := fun q => by rw [if_neg q1, if_pos q] at h2; omega
      refine J_aloadN hX rfl rfl dX10_rest_31 ?_
      refine J_iloadN hX rfl rfl dX10_rest_32 ?_
      refine J_iconst hX (by decide) dX10_rest_33 ?_
      refine J_aloadN hX rfl rfl dX10_rest_34 ?_
      refine J_iloadN hX rfl rfl dX10_rest_35 ?_
      refine J_iconst hX (by decide) dX10_rest_36 ?_
      refine cV2w hX cb_X10_part mL_X10_50 dX10_rest_37 (c_part hA hi (by omega)) ?_
      refine J_iloadN hX rfl rfl dX10_rest_40 ?_
      refine J_iadd hX (fun _ _ => by omega) dX10_rest_41 ?_
      refine cV3v hX cb_X10_puts mL_X10_134 dX10_rest_42 (c_puts hi (by omega)) ?_
      rw [hA]
      refine J_aloadN hX rfl rfl dX10_rest_45 ?_
      refine J_iloadN hX rfl rfl dX10_rest_46 ?_
      refine J_iconst hX (by decide) dX10_rest_47 ?_
      refine J_iconst hX (by decide) dX10_rest_48 ?_
      refine J_aloadN hX rfl rfl dX10_rest_49 ?_
      refine J_iloadN hX rfl rfl dX10_rest_50 ?_
      refine J_iconst hX (by decide) dX10_rest_51 ?_
      refine cV2w hX cb_X10_part mL_X10_50 dX10_rest_52 (c_part (A := aS A i 4 (aP A i 4 + x)) (at42 _) hi (by omega)) ?_
      rw [aS_ne (by omega)]
      refine J_iconst hX (by decide) dX10_rest_55 ?_
      refine J_iloadN hX rfl rfl dX10_rest_56 ?_
      refine J_imul hX (fun _ _ => by omega) dX10_rest_57 ?_
      refine J_isub hX (fun _ _ => by omega) dX10_rest_58 ?_
      refine cS2w hX cb_X10_greater mL_X10_141 dX10_rest_59 (c_greater) ?_
      refine cV3v hX cb_X10_puts mL_X10_134 dX10_rest_62 (c_puts hi (by omega)) ?_
      rw [at42, up42]
      refine J_aloadN hX rfl rfl dX10_rest_65 ?_
      refine J_iloadN hX rfl rfl dX10_rest_66 ?_
      refine J_iconst hX (by decide) dX10_rest_67 ?_
      refine cV2w hX cb_X10_part mL_X10_50 dX10_rest_68 (c_part (A := reF A i x) (at42 _) hi (by omega)) ?_
      exact J_iret hX hR0 dX10_rest_71 (anQ.yes (by rw [e, if_neg q1, if_neg q2]) (by unfold reF; rw [aS_eq]) (FrA.i rfl))
    · refine J_aloadN hX rfl rfl dX10_rest_25 ?_
      refine J_iloadN hX rfl rfl dX10_rest_26 ?_
      refine cV1w hX cb_X10_refuse mL_X10_62 dX10_rest_27 (c_mrefuse (by omega) (hf _ (by omega))) ?_
      exact J_iret hX hR0 dX10_rest_30 (anQ.no rfl h2)
end Mod
