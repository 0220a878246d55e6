/-! ===== 20k: the reference: person, work, minutes, partOf ===== -/
section Mod
variable {G : GC} {X : JX} {m : HM} {κ p t τ w x y z i k q b : Int} {A N S g F : Int → Int} {H C D : Int}
theorem aOf_iff (hp : 0 ≤ p) (hi : inN i 24) : aOf A i p ↔ aP A i 0 = p + 1 := ⟨fun h => h.2, fun h => ⟨⟨hi.1, hi.2, by omega⟩, h⟩⟩
theorem l_leftOf (hX : Ok_X10_leftOf G X 3) (hA : m 42 0 0 = A) (hI : InvA A C D) (hp : inN p 6) (hR0 : JRt G X (pw (vi (sumI (twA A p) 24)) m) (some .int)) : ∀ i, 0 ≤ i → i ≤ 24 → J G X 4 [vr 40 0 0, vi p, vi (sumI (twA A p) i), vi i] [] m := by
  refine up_to (fun i h1 h2 ih => ?_)
  have hb := sumI_b (f := twA A p) (lo := 0) (hi := 12) (n := i) h1 (fun i _ _ => twA_b hI)
  refine J_iloadN hX rfl rfl dX10_leftOf_4 ?_
  refine J_bipush hX (by decide) dX10_leftOf_5 ?_
  refine J_icmp_ge (tgt := 41) hX (by decide) dX10_leftOf_7 (fun h3 => ?_) (fun h3 => ?_)
  · have e : i = 24 := by omega
    subst e
    refine J_iloadN hX rfl rfl dX10_leftOf_41 ?_
    exact J_iret hX hR0 dX10_leftOf_42 (pwI rfl)
  · have hi : inN i 24 := ⟨h1, h3⟩
    have e : sumI (twA A p) (i + 1) = sumI (twA A p) i + twA A p i := sumI_s h1
    have ht := twA_b (p := p) (i := i) hI
    have nx := ih h3
    refine J_iloadN hX rfl rfl dX10_leftOf_10 ?_
    refine J_aloadN hX rfl rfl dX10_leftOf_11 ?_
    refine J_iloadN hX rfl rfl dX10_leftOf_12 ?_
    refine J_iconst hX (by decide) dX10_leftOf_13 ?_
    refine cV2w hX cb_X10_part mL_X10_50 dX10_leftOf_14 (c_part hA hi (by omega)) ?_
    refine J_iloadN hX rfl rfl dX10_leftOf_17 ?_
    refine J_iconst hX (by decide) dX10_leftOf_18 ?_
    refine J_iadd hX (fun _ _ => by omega) dX10_leftOf_19 ?_
    refine J_icmp_ne (tgt := 32) hX (by decide) dX10_leftOf_20 (fun h4 => ?_) (fun h4 => ?_)
    · have e2 : twA A p i = 0 := ifP_neg (fun q => h4 ((aOf_iff hp.1 hi).mp q))
      rw [e, e2] at nx
      refine J_iconst hX (by decide) dX10_leftOf_32 ?_
      refine J_iadd hX (fun _ _ => by omega) dX10_leftOf_33 ?_
      refine siN_2 hX dX10_leftOf_34 ?_
      refine sinc_3 hX (fun _ => by omega) dX10_leftOf_35 ?_
      refine J_goto (tgt := 4) hX (by decide) dX10_leftOf_38 ?_
      exact nx
    · have e2 : twA A p i = aP A i 1 := ifP_pos ((aOf_iff hp.1 hi).mpr h4)
      rw [e, e2] at nx
      refine J_aloadN hX rfl rfl dX10_leftOf_23 ?_
      refine J_iloadN hX rfl rfl dX10_leftOf_24 ?_
      refine J_iconst hX (by decide) dX10_leftOf_25 ?_
      refine cV2w hX cb_X10_part mL_X10_50 dX10_leftOf_26 (c_part hA hi (by omega)) ?_
      refine J_goto (tgt := 33) hX (by decide) dX10_leftOf_29 ?_
      refine J_iadd hX (fun _ _ => by omega) dX10_leftOf_33 ?_
      refine siN_2 hX dX10_leftOf_34 ?_
      refine sinc_3 hX (fun _ => by omega) dX10_leftOf_35 ?_
      refine J_goto (tgt := 4) hX (by decide) dX10_leftOf_38 ?_
      exact nx
theorem c_leftOf (hA : m 42 0 0 = A) (hI : InvA A C D) (hp : inN p 6) : K_X10_leftOf G [vr 40 0 0, vi p] m (pw (vi (sumI (twA A p) 24)) m) := by
  refine E_X10_leftOf (fun X hX hR0 _ _ => ?_)
  refine J_iconst hX (by decide) dX10_leftOf_0 ?_
  refine siN_2 hX dX10_leftOf_1 ?_
  refine J_iconst hX (by decide) dX10_leftOf_2 ?_
  refine siN_3 hX dX10_leftOf_3 ?_
  exact l_leftOf hX hA hI hp hR0 0 (by omega) (by omega)
theorem l_mpartsOf (hX : Ok_X10_partsOf G X 3) (hA : m 42 0 0 = A) (hp : inN p 6) (hR0 : JRt G X (pw (vi (cntI (fun i => aOf A i p) 24)) m) (some .int)) : ∀ i, 0 ≤ i → i ≤ 24 → J G X 4 [vr 40 0 0, vi p, vi (cntI (fun i => aOf A i p) i), vi i] [] m := by
  refine up_to (fun i h1 h2 ih => ?_)
  have hb := cntI_b (P := fun i => aOf A i p) h1
  refine J_iloadN hX rfl rfl dX10_partsOf_4 ?_
  refine J_bipush hX (by decide) dX10_partsOf_5 ?_
  refine J_icmp_ge (tgt := 36) hX (by decide) dX10_partsOf_7 (fun h3 => ?_) (fun h3 => ?_)
  · have e : i = 24 := by omega
    subst e
    refine J_iloadN hX rfl rfl dX10_partsOf_36 ?_
    exact J_iret hX hR0 dX10_partsOf_37 (pwI rfl)
  · have hi : inN i 24 := ⟨h1, h3⟩
    have nx := ih h3
    refine J_iloadN hX rfl rfl dX10_partsOf_10 ?_
    refine J_aloadN hX rfl rfl dX10_partsOf_11 ?_
    refine J_iloadN hX rfl rfl dX10_partsOf_12 ?_
    refine J_iconst hX (by decide) dX10_partsOf_13 ?_
    refine cV2w hX cb_X10_part mL_X10_50 dX10_partsOf_14 (c_part hA hi (by omega)) ?_
    refine J_iloadN hX rfl rfl dX10_partsOf_17 ?_
    refine J_iconst hX (by decide) dX10_partsOf_18 ?_
    refine J_iadd hX (fun _ _ => by omega) dX10_partsOf_19 ?_
    refine J_icmp_ne (tgt := 27) hX (by decide) dX10_partsOf_20 (fun h4 => ?_) (fun h4 => ?_)
    · rw [cntI_f h1 (fun q => h4 ((aOf_iff hp.1 hi).mp q))] at nx
      refine J_iconst hX (by decide) dX10_partsOf_27 ?_
      refine J_iadd hX (fun _ _ => by omega) dX10_partsOf_28 ?_
      refine siN_2 hX dX10_partsOf_29 ?_
      refine sinc_3 hX (fun _ => by omega) dX10_partsOf_30 ?_
      refine J_goto (tgt := 4) hX (by decide) dX10_partsOf_33 ?_
      rw [Int.add_zero]
      exact nx
    · rw [cntI_t h1 ((aOf_iff hp.1 hi).mpr h4)] at nx
      refine J_iconst hX (by decide) dX10_partsOf_23 ?_
      refine J_goto (tgt := 28) hX (by decide) dX10_partsOf_24 ?_
      refine J_iadd hX (fun _ _ => by omega) dX10_partsOf_28 ?_
      refine siN_2 hX dX10_partsOf_29 ?_
      refine sinc_3 hX (fun _ => by omega) dX10_partsOf_30 ?_
      refine J_goto (tgt := 4) hX (by decide) dX10_partsOf_33 ?_
      exact nx
theorem c_mpartsOf (hA : m 42 0 0 = A) (hp : inN p 6) : K_X10_partsOf G [vr 40 0 0, vi p] m (pw (vi (cntI (fun i => aOf A i p) 24)) m) := by
  refine E_X10_partsOf (fun X hX hR0 _ _ => ?_)
  refine J_iconst hX (by decide) dX10_partsOf_0 ?_
  refine siN_2 hX dX10_partsOf_1 ?_
  refine J_iconst hX (by decide) dX10_partsOf_2 ?_
  refine siN_3 hX dX10_partsOf_3 ?_
  exact l_mpartsOf hX hA hp hR0 0 (by omega) (by omega)
theorem l_mparts (hX : Ok_X10_parts G X 3) (hA : m 42 0 0 = A) (hR0 : JRt G X (pw (vi (cntI (aIs A) 24)) m) (some .int)) : ∀ i, 0 ≤ i → i ≤ 24 → J G X 4 [vr 40 0 0, vi (cntI (aIs A) i), vi i] [] m := by
  refine up_to (fun i h1 h2 ih => ?_)
  have hb := cntI_b (P := aIs A) h1
  refine J_iloadN hX rfl rfl dX10_parts_4 ?_
  refine J_bipush hX (by decide) dX10_parts_5 ?_
  refine J_icmp_ge (tgt := 33) hX (by decide) dX10_parts_7 (fun h3 => ?_) (fun h3 => ?_)
  · have e : i = 24 := by omega
    subst e
    refine J_iloadN hX rfl rfl dX10_parts_33 ?_
    exact J_iret hX hR0 dX10_parts_34 (pwI rfl)
  · have hi : inN i 24 := ⟨h1, h3⟩
    have nx := ih h3
    refine J_iloadN hX rfl rfl dX10_parts_10 ?_
    refine J_aloadN hX rfl rfl dX10_parts_11 ?_
    refine J_iloadN hX rfl rfl dX10_parts_12 ?_
    refine J_iconst hX (by decide) dX10_parts_13 ?_
    refine cV2w hX cb_X10_part mL_X10_50 dX10_parts_14 (c_part hA hi (by omega)) ?_
    refine J_if_le (tgt := 24) hX (by decide) dX10_parts_17 (fun h4 => ?_) (fun h4 => ?_)
    · rw [cntI_f h1 (fun q => by have := q.2.2; omega)] at nx
      refine J_iconst hX (by decide) dX10_parts_24 ?_
      refine J_iadd hX (fun _ _ => by omega) dX10_parts_25 ?_
      refine siN_1 hX dX10_parts_26 ?_
      refine sinc_2 hX (fun _ => by omega) dX10_parts_27 ?_
      refine J_goto (tgt := 4) hX (by decide) dX10_parts_30 ?_
      rw [Int.add_zero]
      exact nx
    · rw [cntI_t h1 (show aIs A i from ⟨h1, h3, by omega⟩)] at nx
      refine J_iconst hX (by decide) dX10_parts_20 ?_
      refine J_goto (tgt := 25) hX (by decide) dX10_parts_21 ?_
      refine J_iadd hX (fun _ _ => by omega) dX10_parts_25 ?_
      refine siN_1 hX dX10_parts_26 ?_
      refine sinc_2 hX (fun _ => by omega) dX10_parts_27 ?_
      refine J_goto (tgt := 4) hX (by decide) dX10_parts_30 ?_
      exact nx
theorem c_mparts (hA : m 42 0 0 = A) : K_X10_parts G [vr 40 0 0] m (pw (vi (cntI (aIs A) 24)) m) := by
  refine E_X10_parts (fun X hX hR0 _ _ => ?_)
  refine J_iconst hX (by decide) dX10_parts_0 ?_
  refine siN_1 hX dX10_parts_1 ?_
  refine J_iconst hX (by decide) dX10_parts_2 ?_
  refine siN_2 hX dX10_parts_3 ?_
  exact l_mparts hX hA hR0 0 (by omega) (by omega)
def rfPerson (A : Int → Int) (p x : Int) : Int := if inN p (A 1) then (if inN x 6 then 0 else -2) else -1
noncomputable def personA (A : Int → Int) (p x : Int) : Int := if inN x 4 then aG A p x else if x = 4 then sumI (twA A p) 24 else cntI (fun i => aOf A i p) 24
def rfWork (A : Int → Int) (w x : Int) : Int := if inN w (A 2) then (if inN x 6 then 0 else -2) else -1
theorem c_mperson (hA : m 42 0 0 = A) (hI : InvA A C D) (hf : few41 m) : K_X10_person G [vr 40 0 0, vi p, vi x] m (pi (anQ m (rfPerson A p x) (personA A p x) (FrQ m))) := by
  refine E_X10_person (fun X hX hR0 _ _ => ?_)
  have h0 := hI.1
  refine J_aloadN hX rfl rfl dX10_person_0 ?_
  refine J_iloadN hX rfl rfl dX10_person_1 ?_
  refine cV1w hX cb_X10_isPerson mL_X10_103 dX10_person_2 (c_isPerson hA) ?_
  refine J_ifb_ne (tgt := 16) hX (by decide) dX10_person_5 (fun h1 => ?_) (fun h1 => ?_)
  · refine J_iloadN hX rfl rfl dX10_person_16 ?_
    refine J_iconst hX (by decide) dX10_person_17 ?_
    refine cS2w hX cb_X10_isIn mL_X10_46 dX10_person_18 (c_isIn) ?_
    refine J_ifb_eq (tgt := 33) hX (by decide) dX10_person_21 (fun h2 => ?_) (fun h2 => ?_)
    · refine J_iloadN hX rfl rfl dX10_person_33 ?_
      refine J_iconst hX (by decide) dX10_person_34 ?_
      refine J_icmp_ne (tgt := 46) hX (by decide) dX10_person_35 (fun h3 => ?_) (fun h3 => ?_)
      · refine J_iloadN hX rfl rfl dX10_person_46 ?_
        refine J_iconst hX (by decide) dX10_person_47 ?_
        refine J_icmp_ne (tgt := 59) hX (by decide) dX10_person_48 (fun h4 => ?_) (fun h4 => ?_)
        · refine J_aloadN hX rfl rfl dX10_person_59 ?_
          refine J_bipush hX (by decide) dX10_person_60 ?_
          refine cV1w hX cb_X10_refuse mL_X10_62 dX10_person_62 (c_mrefuse (by omega) (hf _ (by omega))) ?_
          exact J_iret hX hR0 dX10_person_65 (anQ.no (by unfold rfPerson; rw [if_pos h1, if_neg (by omega)]) (by omega))
        · refine J_aloadN hX rfl rfl dX10_person_51 ?_
          refine J_iloadN hX rfl rfl dX10_person_52 ?_
          refine cV1w hX cb_X10_partsOf mL_X10_112 dX10_person_53 (c_mpartsOf hA (by omega)) ?_
          refine J_goto (tgt := 65) hX (by decide) dX10_person_56 ?_
          exact J_iret hX hR0 dX10_person_65 (anQ.yes (by unfold rfPerson; rw [if_pos h1, if_pos (by omega)]) (by unfold personA; rw [if_neg h2, if_neg h3]) FrQ.rf)
      · refine J_aloadN hX rfl rfl dX10_person_38 ?_
        refine J_iloadN hX rfl rfl dX10_person_39 ?_
        refine cV1w hX cb_X10_leftOf mL_X10_109 dX10_person_40 (c_leftOf hA hI (by omega)) ?_
        refine J_goto (tgt := 65) hX (by decide) dX10_person_43 ?_
        exact J_iret hX hR0 dX10_person_65 (anQ.yes (by unfold rfPerson; rw [if_pos h1, if_pos (by omega)]) (by unfold personA; rw [if_neg h2, if_pos h3]) FrQ.rf)
    · refine J_aloadN hX rfl rfl dX10_person_24 ?_
      refine J_iloadN hX rfl rfl dX10_person_25 ?_
      refine J_iloadN hX rfl rfl dX10_person_26 ?_
      refine cV2w hX cb_X10_get mL_X10_106 dX10_person_27 (c_get hA (by omega) h2) ?_
      refine J_goto (tgt := 65) hX (by decide) dX10_person_30 ?_
      exact J_iret hX hR0 dX10_person_65 (anQ.yes (by unfold rfPerson; rw [if_pos h1, if_pos (by omega)]) (by unfold personA; rw [if_pos h2]) FrQ.rf)
  · refine J_aloadN hX rfl rfl dX10_person_8 ?_
    refine J_iconst hX (by decide) dX10_person_9 ?_
    refine cV1w hX cb_X10_refuse mL_X10_62 dX10_person_10 (c_mrefuse (by omega) (hf _ (by omega))) ?_
    refine J_goto (tgt := 65) hX (by decide) dX10_person_13 ?_
    exact J_iret hX hR0 dX10_person_65 (anQ.no (by unfold rfPerson; rw [if_neg h1]) (by omega))
theorem c_mwork (hA : m 42 0 0 = A) (hI : InvA A C D) (hf : few41 m) : K_X10_work G [vr 40 0 0, vi w, vi x] m (pi (anQ m (rfWork A w x) (aW A w x) (FrQ m))) := by
  refine E_X10_work (fun X hX hR0 _ _ => ?_)
  have h0 := hI.1
  refine J_aloadN hX rfl rfl dX10_work_0 ?_
  refine J_iloadN hX rfl rfl dX10_work_1 ?_
  refine cV1w hX cb_X10_isWork mL_X10_115 dX10_work_2 (c_isWork hA) ?_
  refine J_ifb_ne (tgt := 16) hX (by decide) dX10_work_5 (fun h1 => ?_) (fun h1 => ?_)
  · refine J_iloadN hX rfl rfl dX10_work_16 ?_
    refine J_bipush hX (by decide) dX10_work_17 ?_
    refine cS2w hX cb_X10_isIn mL_X10_46 dX10_work_19 (c_isIn) ?_
    refine J_ifb_eq (tgt := 34) hX (by decide) dX10_work_22 (fun h2 => ?_) (fun h2 => ?_)
    · refine J_aloadN hX rfl rfl dX10_work_34 ?_
      refine J_bipush hX (by decide) dX10_work_35 ?_
      refine cV1w hX cb_X10_refuse mL_X10_62 dX10_work_37 (c_mrefuse (by omega) (hf _ (by omega))) ?_
      exact J_iret hX hR0 dX10_work_40 (anQ.no (by unfold rfWork; rw [if_pos h1, if_neg h2]) (by omega))
    · refine J_aloadN hX rfl rfl dX10_work_25 ?_
      refine J_iloadN hX rfl rfl dX10_work_26 ?_
      refine J_iloadN hX rfl rfl dX10_work_27 ?_
      refine cV2w hX cb_X10_of mL_X10_118 dX10_work_28 (c_of hA (by omega) h2) ?_
      refine J_goto (tgt := 40) hX (by decide) dX10_work_31 ?_
      exact J_iret hX hR0 dX10_work_40 (anQ.yes (by unfold rfWork; rw [if_pos h1, if_pos h2]) rfl FrQ.rf)
  · refine J_aloadN hX rfl rfl dX10_work_8 ?_
    refine J_iconst hX (by decide) dX10_work_9 ?_
    refine cV1w hX cb_X10_refuse mL_X10_62 dX10_work_10 (c_mrefuse (by omega) (hf _ (by omega))) ?_
    refine J_goto (tgt := 40) hX (by decide) dX10_work_13 ?_
    exact J_iret hX hR0 dX10_work_40 (anQ.no (by unfold rfWork; rw [if_neg h1]) (by omega))
/-! ways -/
def T47 (t : Nat) : Prop := t = 47
theorem T47_42 : ¬ T47 42 := by unfold T47; decide
theorem T47q : ∀ t, T47 t → (t = 44 ∨ (46 ≤ t ∧ t ≤ 51)) := fun t h => by unfold T47 at h; omega
def RelG (m : HM) (F : Int → Int → Int) : Prop := ∀ i j, inN i 6 → inN j 6 → m 47 0 0 (6 * i + j) = F i j
theorem RelG_c {m' : HM} {F F' : Int → Int → Int} (h : RelG m' F) (e : ∀ i j, inN i 6 → inN j 6 → F' i j = F i j) : RelG m' F' := fun i j hi hj => by rw [h i j hi hj, e i j hi hj]
/-- the rows before i, and of row i what is before j -/
def FWp (A : Int → Int) (M : HM) (i j : Int) : Prop := ∀ a b, inN a 6 → inN b 6 → (a < i ∨ (a = i ∧ b < j)) → M 47 0 0 (6 * a + b) = FW0 A a b
theorem l_far10 (hX : Ok_X10_findsFar G X 2) (hA : m 42 0 0 = A) (hI : InvA A C D) {i : Int} (hi : inN i 6) (K : ∀ M j c, FrM T47 m M → FWp A M (i + 1) 0 → J G X 66 [vr 40 0 0, vi i, j, c, vx] [] M) : ∀ j, 0 ≤ j → j ≤ 6 → ∀ M c, FrM T47 m M → FWp A M i j → J G X 10 [vr 40 0 0, vi i, vi j, c, vx] [] M := by
  refine up_to (fun j h1 h2 ih M c hfr hs => ?_)
  have hA' := hfr.a42 hA T47_42
  refine J_iloadN hX rfl rfl dX10_findsFar_10 ?_
  refine J_bipush hX (by decide) dX10_findsFar_11 ?_
  refine J_icmp_ge (tgt := 66) hX (by decide) dX10_findsFar_13 (fun h3 => ?_) (fun h3 => ?_)
  · exact K M _ _ hfr (fun a b ha hb hab => hs a b ha hb (by omega))
  · have done : ∀ x c, x = FW0 A i j → J G X 10 [vr 40 0 0, vi i, vi (j + 1), c, vx] [] (upr M 47 0 0 (st1 (M 47 0 0) (6 * i + j) x)) := fun x c hx => ih h3 _ _ (hfr.up rfl (by decide)) (fun a b ha hb hab => by
      rw [upr_eq]
      by_cases q : 6 * a + b = 6 * i + j
      · have qa : a = i := by omega
        have qb : b = j := by omega
        rw [q, st1_eq, hx, qa, qb]
      · rw [st1_ne q]
        exact hs a b ha hb (by omega))
    have e : M 42 0 0 (3 + 6 * i + j) = aY A i j := by rw [hA']; rfl
    have hy := hI.2.1 i j hi ⟨h1, h3⟩
    refine J_aloadN hX rfl rfl dX10_findsFar_16 ?_
    refine G_HalfHereModel_s hX dX10_findsFar_17 mF_X10_13 ?_
    refine J_iconst hX (by decide) dX10_findsFar_20 ?_
    refine J_bipush hX (by decide) dX10_findsFar_21 ?_
    refine J_iloadN hX rfl rfl dX10_findsFar_23 ?_
    refine J_imul hX (fun _ _ => by omega) dX10_findsFar_24 ?_
    refine J_iadd hX (fun _ _ => by omega) dX10_findsFar_25 ?_
    refine J_iloadN hX rfl rfl dX10_findsFar_26 ?_
    refine J_iadd hX (fun _ _ => by omega) dX10_findsFar_27 ?_
    refine L_42 hX (by omega) dX10_findsFar_28 ?_
    refine siN_3 hX dX10_findsFar_29 ?_
    refine J_aloadN hX rfl rfl dX10_findsFar_30 ?_
    refine G_HalfHereModel_far hX dX10_findsFar_31 mF_X10_28 ?_
    refine J_bipush hX (by decide) dX10_findsFar_34 ?_
    refine J_iloadN hX rfl rfl dX10_findsFar_36 ?_
    refine J_imul hX (fun _ _ => by omega) dX10_findsFar_37 ?_
    refine J_iloadN hX rfl rfl dX10_findsFar_38 ?_
    refine J_iadd hX (fun _ _ => by omega) dX10_findsFar_39 ?_
    refine J_iloadN hX rfl rfl dX10_findsFar_40 ?_
    refine J_iloadN hX rfl rfl dX10_findsFar_41 ?_
    rw [e]
    refine J_icmp_ne (tgt := 49) hX (by decide) dX10_findsFar_42 (fun h4 => ?_) (fun h4 => ?_)
    · refine J_iloadN hX rfl rfl dX10_findsFar_49 ?_
      refine J_if_le (tgt := 57) hX (by decide) dX10_findsFar_50 (fun h5 => ?_) (fun h5 => ?_)
      · refine J_ldc (n := 1000000) hX mQ_X10_121 rfl rfl (by decide) dX10_findsFar_57 ?_
        refine S_47 hX (by omega) dX10_findsFar_59 ?_
        refine sinc_2 hX (fun _ => by omega) dX10_findsFar_60 ?_
        refine J_goto (tgt := 10) hX (by decide) dX10_findsFar_63 ?_
        exact done _ _ (by unfold FW0; rw [if_neg h4, if_neg (by omega)])
      · refine J_iloadN hX rfl rfl dX10_findsFar_53 ?_
        refine J_goto (tgt := 59) hX (by decide) dX10_findsFar_54 ?_
        refine S_47 hX (by omega) dX10_findsFar_59 ?_
        refine sinc_2 hX (fun _ => by omega) dX10_findsFar_60 ?_
        refine J_goto (tgt := 10) hX (by decide) dX10_findsFar_63 ?_
        exact done _ _ (by unfold FW0; rw [if_neg h4, if_pos (by omega)])
    · refine J_iconst hX (by decide) dX10_findsFar_45 ?_
      refine J_goto (tgt := 59) hX (by decide) dX10_findsFar_46 ?_
      refine S_47 hX (by omega) dX10_findsFar_59 ?_
      refine sinc_2 hX (fun _ => by omega) dX10_findsFar_60 ?_
      refine J_goto (tgt := 10) hX (by decide) dX10_findsFar_63 ?_
      exact done _ _ (by unfold FW0; rw [if_pos h4])
theorem l_far2 (hX : Ok_X10_findsFar G X 2) (hA : m 42 0 0 = A) (hI : InvA A C D) (K : ∀ M i b c, FrM T47 m M → RelG M (FW0 A) → J G X 72 [vr 40 0 0, i, b, c, vx] [] M) : ∀ i, 0 ≤ i → i ≤ 6 → ∀ M b c, FrM T47 m M → FWp A M i 0 → J G X 2 [vr 40 0 0, vi i, b, c, vx] [] M := by
  refine up_to (fun i h1 h2 ih M b c hfr hs => ?_)
  refine J_iloadN hX rfl rfl dX10_findsFar_2 ?_
  refine J_bipush hX (by decide) dX10_findsFar_3 ?_
  refine J_icmp_ge (tgt := 72) hX (by decide) dX10_findsFar_5 (fun h3 => ?_) (fun h3 => ?_)
  · exact K M _ _ _ hfr (fun a b ha hb => hs a b ha hb (by omega))
  · refine J_iconst hX (by decide) dX10_findsFar_8 ?_
    refine siN_2 hX dX10_findsFar_9 ?_
    refine l_far10 hX hA hI ⟨h1, h3⟩ (fun M j c hfr hs => ?_) 0 (by omega) (by omega) M _ hfr hs
    refine sinc_1 hX (fun _ => by omega) dX10_findsFar_66 ?_
    refine J_goto (tgt := 2) hX (by decide) dX10_findsFar_69 ?_
    exact ih h3 _ _ _ hfr hs
theorem l_far90 (hX : Ok_X10_findsFar G X 2) {F : Int → Int → Int} {k a : Int} (hF : okF F 3840) (hk : inN k 6) (ha : inN a 6) (K : ∀ M b c, FrM T47 m M → RelG M (prF F k (a + 1) 0) → J G X 170 [vr 40 0 0, vi k, vi a, b, c] [] M) : ∀ b, 0 ≤ b → b ≤ 6 → ∀ M c, FrM T47 m M → RelG M (prF F k a b) → J G X 90 [vr 40 0 0, vi k, vi a, vi b, c] [] M := by
  refine up_to (fun b h1 h2 ih M c hfr hM => ?_)
  refine J_iloadN hX rfl rfl dX10_findsFar_90 ?_
  refine J_bipush hX (by decide) dX10_findsFar_91 ?_
  refine J_icmp_ge (tgt := 170) hX (by decide) dX10_findsFar_93 (fun h3 => ?_) (fun h3 => ?_)
  · have e : b = 6 := by omega
    subst e
    exact K M _ _ hfr (RelG_c hM (fun i j hi hj => (prF_row hj).symm))
  · have hb : inN b 6 := ⟨h1, h3⟩
    have e1 : M 47 0 0 (6 * a + k) = F a k := by rw [hM a k ha hk, prF_k1 hF hk ha]
    have e2 : M 47 0 0 (6 * k + b) = F k b := by rw [hM k b hk hb, prF_k2 hF hk hb]
    have e3 : M 47 0 0 (6 * a + b) = F a b := by rw [hM a b ha hb]; exact if_neg (by omega)
    have f1 := hF a k ha hk
    have f2 := hF k b hk hb
    have f3 := hF a b ha hb
    have done : ∀ x c, x = rdF F k a b → J G X 90 [vr 40 0 0, vi k, vi a, vi (b + 1), c] [] (upr M 47 0 0 (st1 (M 47 0 0) (6 * a + b) x)) := fun x c hx => ih h3 _ _ (hfr.up rfl (by decide)) (fun i j hi hj => by
      rw [upr_eq]
      by_cases q : 6 * i + j = 6 * a + b
      · have qa : i = a := by omega
        have qb : j = b := by omega
        rw [q, st1_eq, hx, qa, qb]
        unfold prF
        rw [if_pos (by omega)]
      · rw [st1_ne q, hM i j hi hj]
        unfold prF
        by_cases q2 : i < a ∨ (i = a ∧ j < b)
        · rw [if_pos q2, if_pos (by omega)]
        · rw [if_neg q2, if_neg (by omega)])
    refine J_aloadN hX rfl rfl dX10_findsFar_96 ?_
    refine G_HalfHereModel_far hX dX10_findsFar_97 mF_X10_28 ?_
    refine J_bipush hX (by decide) dX10_findsFar_100 ?_
    refine J_iloadN hX rfl rfl dX10_findsFar_102 ?_
    refine J_imul hX (fun _ _ => by omega) dX10_findsFar_103 ?_
    refine J_iloadN hX rfl rfl dX10_findsFar_104 ?_
    refine J_iadd hX (fun _ _ => by omega) dX10_findsFar_105 ?_
    refine L_47 hX (by omega) dX10_findsFar_106 ?_
    rw [e1]
    refine J_aloadN hX rfl rfl dX10_findsFar_107 ?_
    refine G_HalfHereModel_far hX dX10_findsFar_108 mF_X10_28 ?_
    refine J_bipush hX (by decide) dX10_findsFar_111 ?_
    refine J_iloadN hX rfl rfl dX10_findsFar_113 ?_
    refine J_imul hX (fun _ _ => by omega) dX10_findsFar_114 ?_
    refine J_iloadN hX rfl rfl dX10_findsFar_115 ?_
    refine J_iadd hX (fun _ _ => by omega) dX10_findsFar_116 ?_
    refine L_47 hX (by omega) dX10_findsFar_117 ?_
    rw [e2]
    refine J_iadd hX (fun _ _ => by omega) dX10_findsFar_118 ?_
    refine si_4 hX dX10_findsFar_119 ?_
    refine J_aloadN hX rfl rfl dX10_findsFar_121 ?_
    refine G_HalfHereModel_far hX dX10_findsFar_122 mF_X10_28 ?_
    refine J_bipush hX (by decide) dX10_findsFar_125 ?_
    refine J_iloadN hX rfl rfl dX10_findsFar_127 ?_
    refine J_imul hX (fun _ _ => by omega) dX10_findsFar_128 ?_
    refine J_iloadN hX rfl rfl dX10_findsFar_129 ?_
    refine J_iadd hX (fun _ _ => by omega) dX10_findsFar_130 ?_
    refine J_iload hX rfl dX10_findsFar_131 ?_
    refine J_aloadN hX rfl rfl dX10_findsFar_133 ?_
    refine G_HalfHereModel_far hX dX10_findsFar_134 mF_X10_28 ?_
    refine J_bipush hX (by decide) dX10_findsFar_137 ?_
    refine J_iloadN hX rfl rfl dX10_findsFar_139 ?_
    refine J_imul hX (fun _ _ => by omega) dX10_findsFar_140 ?_
    refine J_iloadN hX rfl rfl dX10_findsFar_141 ?_
    refine J_iadd hX (fun _ _ => by omega) dX10_findsFar_142 ?_
    refine L_47 hX (by omega) dX10_findsFar_143 ?_
    rw [e3]
    refine J_icmp_ge (tgt := 152) hX (by decide) dX10_findsFar_144 (fun h4 => ?_) (fun h4 => ?_)
    · refine J_aloadN hX rfl rfl dX10_findsFar_152 ?_
      refine G_HalfHereModel_far hX dX10_findsFar_153 mF_X10_28 ?_
      refine J_bipush hX (by decide) dX10_findsFar_156 ?_
      refine J_iloadN hX rfl rfl dX10_findsFar_158 ?_
      refine J_imul hX (fun _ _ => by omega) dX10_findsFar_159 ?_
      refine J_iloadN hX rfl rfl dX10_findsFar_160 ?_
      refine J_iadd hX (fun _ _ => by omega) dX10_findsFar_161 ?_
      refine L_47 hX (by omega) dX10_findsFar_162 ?_
      rw [e3]
      refine S_47 hX (by omega) dX10_findsFar_163 ?_
      refine sinc_3 hX (fun _ => by omega) dX10_findsFar_164 ?_
      refine J_goto (tgt := 90) hX (by decide) dX10_findsFar_167 ?_
      exact done _ _ (by unfold rdF; rw [if_neg (by omega)])
    · refine J_iload hX rfl dX10_findsFar_147 ?_
      refine J_goto (tgt := 163) hX (by decide) dX10_findsFar_149 ?_
      refine S_47 hX (by omega) dX10_findsFar_163 ?_
      refine sinc_3 hX (fun _ => by omega) dX10_findsFar_164 ?_
      refine J_goto (tgt := 90) hX (by decide) dX10_findsFar_167 ?_
      exact done _ _ (by unfold rdF; rw [if_pos (by omega)])
theorem l_far82 (hX : Ok_X10_findsFar G X 2) {F : Int → Int → Int} {k : Int} (hF : okF F 3840) (hk : inN k 6) (K : ∀ M a b c, FrM T47 m M → RelG M (rdF F k) → J G X 176 [vr 40 0 0, vi k, a, b, c] [] M) : ∀ a, 0 ≤ a → a ≤ 6 → ∀ M b c, FrM T47 m M → RelG M (prF F k a 0) → J G X 82 [vr 40 0 0, vi k, vi a, b, c] [] M := by
  refine up_to (fun a h1 h2 ih M b c hfr hM => ?_)
  refine J_iloadN hX rfl rfl dX10_findsFar_82 ?_
  refine J_bipush hX (by decide) dX10_findsFar_83 ?_
  refine J_icmp_ge (tgt := 176) hX (by decide) dX10_findsFar_85 (fun h3 => ?_) (fun h3 => ?_)
  · have e : a = 6 := by omega
    subst e
    exact K M _ _ _ hfr (RelG_c hM (fun i j hi hj => (prF_end hi).symm))
  · refine J_iconst hX (by decide) dX10_findsFar_88 ?_
    refine siN_3 hX dX10_findsFar_89 ?_
    refine l_far90 hX hF hk ⟨h1, h3⟩ (fun M b c hfr hM => ?_) 0 (by omega) (by omega) M _ hfr hM
    refine sinc_2 hX (fun _ => by omega) dX10_findsFar_170 ?_
    refine J_goto (tgt := 82) hX (by decide) dX10_findsFar_173 ?_
    exact ih h3 _ _ _ hfr hM
theorem l_far74 (hX : Ok_X10_findsFar G X 2) (hR0 : JRt G X (pu (fun m' => FrM T47 m m' ∧ RelG m' (fwA A))) none) (hI : InvA A C D) : ∀ k, 0 ≤ k → k ≤ 6 → ∀ M a b c, FrM T47 m M → RelG M (fwK A k.toNat) → J G X 74 [vr 40 0 0, vi k, a, b, c] [] M := by
  refine up_to (fun k h1 h2 ih M a b c hfr hM => ?_)
  refine J_iloadN hX rfl rfl dX10_findsFar_74 ?_
  refine J_bipush hX (by decide) dX10_findsFar_75 ?_
  refine J_icmp_ge (tgt := 182) hX (by decide) dX10_findsFar_77 (fun h3 => ?_) (fun h3 => ?_)
  · have e : k = 6 := by omega
    subst e
    exact J_vret hX hR0 dX10_findsFar_182 (puI ⟨hfr, hM⟩)
  · refine J_iconst hX (by decide) dX10_findsFar_80 ?_
    refine siN_2 hX dX10_findsFar_81 ?_
    refine l_far82 hX (okFn hI (n := k.toNat) (by omega)) ⟨h1, h3⟩ (fun M a b c hfr hM => ?_) 0 (by omega) (by omega) M _ _ hfr (RelG_c hM (fun i j hi hj => prF_00 _ _ hi.1 hj.1))
    refine sinc_1 hX (fun _ => by omega) dX10_findsFar_176 ?_
    refine J_goto (tgt := 74) hX (by decide) dX10_findsFar_179 ?_
    refine ih h3 _ _ _ _ hfr (RelG_c hM (fun i j hi hj => ?_))
    rw [show (k + 1).toNat = k.toNat + 1 by omega]
    show rdF (fwK A k.toNat) ((k.toNat : Nat) : Int) i j = _
    rw [Int.toNat_of_nonneg h1]
theorem c_findsFar (hA : m 42 0 0 = A) (hI : InvA A C D) : K_X10_findsFar G [vr 40 0 0] m (pu (fun m' => FrM T47 m m' ∧ RelG m' (fwA A))) := by
  refine E_X10_findsFar (fun X hX hR0 _ _ => ?_)
  refine J_iconst hX (by decide) dX10_findsFar_0 ?_
  refine siN_1 hX dX10_findsFar_1 ?_
  refine l_far2 hX hA hI (fun M i b c hfr hM => ?_) 0 (by omega) (by omega) m _ _ FrM.rf (fun a b ha hb hlt => by omega)
  refine J_iconst hX (by decide) dX10_findsFar_72 ?_
  refine siN_1 hX dX10_findsFar_73 ?_
  exact l_far74 hX hR0 hI 0 (by omega) (by omega) M _ _ _ hfr hM
theorem c_minutesOf (hA : m 42 0 0 = A) (hI : InvA A C D) (hx : inN x 6) (hy : inN y 6) : K_X10_minutesOf G [vr 40 0 0, vi x, vi y] m (pi (fun r m' => r = gF (fwA A x y) ∧ FrM T47 m m')) := by
  refine E_X10_minutesOf (fun X hX hR0 _ _ => ?_)
  refine J_aloadN hX rfl rfl dX10_minutesOf_0 ?_
  refine cV0u hX cb_X10_findsFar mL_X10_122 dX10_minutesOf_1 (c_findsFar hA hI) (fun m2 hm2 => ?_)
  have e := hm2.2 x y hx hy
  refine J_aloadN hX rfl rfl dX10_minutesOf_4 ?_
  refine G_HalfHereModel_far hX dX10_minutesOf_5 mF_X10_28 ?_
  refine J_bipush hX (by decide) dX10_minutesOf_8 ?_
  refine J_iloadN hX rfl rfl dX10_minutesOf_10 ?_
  refine J_imul hX (fun _ _ => by omega) dX10_minutesOf_11 ?_
  refine J_iloadN hX rfl rfl dX10_minutesOf_12 ?_
  refine J_iadd hX (fun _ _ => by omega) dX10_minutesOf_13 ?_
  refine L_47 hX (by omega) dX10_minutesOf_14 ?_
  rw [e]
  refine J_ldc (n := 1000000) hX mQ_X10_121 rfl rfl (by decide) dX10_minutesOf_15 ?_
  refine J_icmp_ge (tgt := 34) hX (by decide) dX10_minutesOf_17 (fun h1 => ?_) (fun h1 => ?_)
  · refine J_bipush hX (by decide) dX10_minutesOf_34 ?_
    exact J_iret hX hR0 dX10_minutesOf_36 (⟨_, rfl, (gF_ge (by omega)).symm, hm2.1⟩)
  · refine J_aloadN hX rfl rfl dX10_minutesOf_20 ?_
    refine G_HalfHereModel_far hX dX10_minutesOf_21 mF_X10_28 ?_
    refine J_bipush hX (by decide) dX10_minutesOf_24 ?_
    refine J_iloadN hX rfl rfl dX10_minutesOf_26 ?_
    refine J_imul hX (fun _ _ => by omega) dX10_minutesOf_27 ?_
    refine J_iloadN hX rfl rfl dX10_minutesOf_28 ?_
    refine J_iadd hX (fun _ _ => by omega) dX10_minutesOf_29 ?_
    refine L_47 hX (by omega) dX10_minutesOf_30 ?_
    rw [e]
    refine J_goto (tgt := 36) hX (by decide) dX10_minutesOf_31 ?_
    exact J_iret hX hR0 dX10_minutesOf_36 (⟨_, rfl, (gF_lt (by omega)).symm, hm2.1⟩)
def rfMin (A : Int → Int) (x y : Int) : Int := if inN x (A 0) ∧ inN y (A 0) then 0 else -1
theorem c_mminutes (hA : m 42 0 0 = A) (hI : InvA A C D) (hf : few41 m) : K_X10_minutes G [vr 40 0 0, vi x, vi y] m (pi (anQ m (rfMin A x y) (gF (fwA A x y)) (FrQ m))) := by
  refine E_X10_minutes (fun X hX hR0 _ _ => ?_)
  have h0 := hI.1
  have no : ¬ (inN x (A 0) ∧ inN y (A 0)) → J G X 25 [vr 40 0 0, vi x, vi y] [] m := fun h2 => by
    refine J_aloadN hX rfl rfl dX10_minutes_25 ?_
    refine J_iconst hX (by decide) dX10_minutes_26 ?_
    refine cV1w hX cb_X10_refuse mL_X10_62 dX10_minutes_27 (c_mrefuse (by omega) (hf _ (by omega))) ?_
    exact J_iret hX hR0 dX10_minutes_30 (anQ.no (if_neg h2) (by omega))
  refine J_aloadN hX rfl rfl dX10_minutes_0 ?_
  refine J_iloadN hX rfl rfl dX10_minutes_1 ?_
  refine cV1w hX cb_X10_isSpot mL_X10_125 dX10_minutes_2 (c_isSpot hA) ?_
  refine J_ifb_eq (tgt := 25) hX (by decide) dX10_minutes_5 (fun h1 => ?_) (fun h1 => ?_)
  · exact no (fun q => h1 q.1)
  · refine J_aloadN hX rfl rfl dX10_minutes_8 ?_
    refine J_iloadN hX rfl rfl dX10_minutes_9 ?_
    refine cV1w hX cb_X10_isSpot mL_X10_125 dX10_minutes_10 (c_isSpot hA) ?_
    refine J_ifb_eq (tgt := 25) hX (by decide) dX10_minutes_13 (fun h2 => ?_) (fun h2 => ?_)
    · exact no (fun q => h2 q.2)
    · refine J_aloadN hX rfl rfl dX10_minutes_16 ?_
      refine J_iloadN hX rfl rfl dX10_minutes_17 ?_
      refine J_iloadN hX rfl rfl dX10_minutes_18 ?_
      refine cV2i hX cb_X10_minutesOf mL_X10_128 dX10_minutes_19 (c_minutesOf hA hI (by omega) (by omega)) (fun r m2 hm2 => ?_)
      obtain ⟨rfl, hfr⟩ := hm2
      refine J_goto (tgt := 30) hX (by decide) dX10_minutes_22 ?_
      exact J_iret hX hR0 dX10_minutes_30 (anQ.yes (if_pos ⟨h1, h2⟩) rfl (hfr.q T47q))
noncomputable def rfPartOf (A : Int → Int) (i x : Int) : Int := ifP (aIs A i) (if inN x 7 then 0 else -2) (-1)
def partOfA (A : Int → Int) (i x : Int) : Int := if x = 0 then aP A i 0 - 1 else aP A i x
theorem c_mpartOf (hA : m 42 0 0 = A) (hI : InvA A C D) (hf : few41 m) : K_X10_partOf G [vr 40 0 0, vi i, vi x] m (pi (anQ m (rfPartOf A i x) (partOfA A i x) (FrQ m))) := by
  refine E_X10_partOf (fun X hX hR0 _ _ => ?_)
  have h0 := hI.1
  refine J_aloadN hX rfl rfl dX10_partOf_0 ?_
  refine J_iloadN hX rfl rfl dX10_partOf_1 ?_
  refine cV1w hX cb_X10_isPart mL_X10_131 dX10_partOf_2 (c_isPart hA) ?_
  refine J_ifb_ne (tgt := 14) hX (by decide) dX10_partOf_5 (fun h1 => ?_) (fun h1 => ?_)
  · have hq := hI.pers h1
    refine J_iloadN hX rfl rfl dX10_partOf_14 ?_
    refine J_bipush hX (by decide) dX10_partOf_15 ?_
    refine cS2w hX cb_X10_isIn mL_X10_46 dX10_partOf_17 (c_isIn) ?_
    refine J_ifb_ne (tgt := 30) hX (by decide) dX10_partOf_20 (fun h2 => ?_) (fun h2 => ?_)
    · refine J_iloadN hX rfl rfl dX10_partOf_30 ?_
      refine J_if_ne (tgt := 45) hX (by decide) dX10_partOf_31 (fun h3 => ?_) (fun h3 => ?_)
      · refine J_aloadN hX rfl rfl dX10_partOf_45 ?_
        refine J_iloadN hX rfl rfl dX10_partOf_46 ?_
        refine J_iloadN hX rfl rfl dX10_partOf_47 ?_
        refine cV2w hX cb_X10_part mL_X10_50 dX10_partOf_48 (c_part hA ⟨h1.1, h1.2.1⟩ h2) ?_
        exact J_iret hX hR0 dX10_partOf_51 (anQ.yes (by unfold rfPartOf; rw [ifP_pos h1, if_pos h2]) (by unfold partOfA; rw [if_neg h3]) FrQ.rf)
      · refine J_aloadN hX rfl rfl dX10_partOf_34 ?_
        refine J_iloadN hX rfl rfl dX10_partOf_35 ?_
        refine J_iconst hX (by decide) dX10_partOf_36 ?_
        refine cV2w hX cb_X10_part mL_X10_50 dX10_partOf_37 (c_part hA ⟨h1.1, h1.2.1⟩ (by omega)) ?_
        refine J_iconst hX (by decide) dX10_partOf_40 ?_
        refine J_isub hX (fun _ _ => by omega) dX10_partOf_41 ?_
        refine J_goto (tgt := 51) hX (by decide) dX10_partOf_42 ?_
        exact J_iret hX hR0 dX10_partOf_51 (anQ.yes (by unfold rfPartOf; rw [ifP_pos h1, if_pos h2]) (by unfold partOfA; rw [if_pos h3]) FrQ.rf)
    · refine J_aloadN hX rfl rfl dX10_partOf_23 ?_
      refine J_bipush hX (by decide) dX10_partOf_24 ?_
      refine cV1w hX cb_X10_refuse mL_X10_62 dX10_partOf_26 (c_mrefuse (by omega) (hf _ (by omega))) ?_
      exact J_iret hX hR0 dX10_partOf_29 (anQ.no (by unfold rfPartOf; rw [ifP_pos h1, if_neg h2]) (by omega))
  · refine J_aloadN hX rfl rfl dX10_partOf_8 ?_
    refine J_iconst hX (by decide) dX10_partOf_9 ?_
    refine cV1w hX cb_X10_refuse mL_X10_62 dX10_partOf_10 (c_mrefuse (by omega) (hf _ (by omega))) ?_
    exact J_iret hX hR0 dX10_partOf_13 (anQ.no (by unfold rfPartOf; rw [ifP_neg h1]) (by omega))
end Mod
