/-! ===== 34a: the class HalfHere: what is told, rows, persons, works ===== -/
section Hf
variable {G : GC} {X : JX} {m : HM} {κ p t τ w x y z i k q b h l n : Int} {A N S g F B W T R : Int → Int} {H C D : Int}
/-- the class's state stays but for its rooms of work -/
def FrX (m m' : HM) : Prop := ∀ t v i, ¬ (t = 5 ∨ (17 ≤ t ∧ t ≤ 19) ∨ t = 22 ∨ t = 27 ∨ t = 30 ∨ t = 31) → m' t v i = m t v i
theorem FrX.rf : FrX m m := fun _ _ _ _ => rfl
theorem FrX.tr {m' m2 : HM} (h : FrX m m') (h2 : FrX m' m2) : FrX m m2 := fun t v i a => (h2 t v i a).trans (h t v i a)
theorem FrE.toX {m' : HM} {e : Int} (h : FrE e m m') : FrX m m' := fun t v i a => h t v i (fun q => a (Or.inr (Or.inl ⟨q.1, q.2.1⟩)))
theorem FrP.toX {m' : HM} (h : FrP m m') : FrX m m' := fun t v i a => h t v i (fun q => a (Or.inr (Or.inl q))) (fun q => a (Or.inr (Or.inr (Or.inl q))))
theorem FrF.toX {m' : HM} (h : FrF m m') : FrX m m' := h.toP.toX
theorem FrK.toX {m' : HM} (h : FrK m m') : FrX m m' := fun t v i a => h t v i (fun q => a (Or.inr (Or.inl ⟨q.1, q.2.1⟩))) (fun q => a (by omega)) (fun q => a (by omega))
theorem FrT.toX {m' : HM} {v : Int} (h : FrT 5 v m m') : FrX m m' := fun t v' i a => h t v' i (fun q => a (Or.inl q.1))
theorem RelV.frX {m' : HM} {v : Int} (h : RelV m v A) (hf : FrX m m') : RelV m' v A := h.keep (hf 1 v 0 (by omega)) (fun i => hf 3 v i (by omega)) (fun i => hf 9 v i (by omega)) (fun i => hf 10 v i (by omega)) (fun i => hf 11 v i (by omega)) (fun i => hf 12 v i (by omega)) (fun i => hf 13 v i (by omega))
def anX (m : HM) (ref ans : Int) (P : HM → Prop) : Int → HM → Prop := fun r m' => (ref ≠ 0 ∧ r = ref ∧ FrX (refM m 33 ref) m') ∨ (ref = 0 ∧ r = ans ∧ P m')
theorem FrX.ref {m2 : HM} {x : Int} (h : FrX m m2) : FrX (refM m 33 x) (refM m2 33 x) := fun t v i a => by
  have e : m2 33 0 0 = m 33 0 0 := h 33 0 0 (by omega)
  unfold refM
  by_cases q : t = 33 ∧ v = 0 ∧ i = 0
  · obtain ⟨rfl, rfl, rfl⟩ := q
    rw [upr_eq, upr_eq, e]
  · rw [upr_ne q, upr_ne q]
    exact h t v i a
theorem anX.no2 {m2 : HM} {ref ans x : Int} {P : HM → Prop} (hf : FrX m m2) (h : ref = x) (hx : x ≠ 0) : pi (anX m ref ans P) (some (vi x)) (refM m2 33 x) := ⟨x, rfl, Or.inl ⟨by rw [h]; exact hx, h.symm, by rw [h]; exact hf.ref⟩⟩
theorem anX.no {ref ans x : Int} {P : HM → Prop} (h : ref = x) (hx : x ≠ 0) : pi (anX m ref ans P) (some (vi x)) (refM m 33 x) := anX.no2 FrX.rf h hx
theorem anX.yes {m' : HM} {ref ans x : Int} {P : HM → Prop} (h : ref = 0) (hx : x = ans) (hP : P m') : pi (anX m ref ans P) (some (vi x)) m' := ⟨x, rfl, Or.inr ⟨h, hx, hP⟩⟩
def few33 (m : HM) : Prop := ∀ k, inN k 7 → m 33 0 0 k < 2000000000
theorem few33.fx {m' : HM} (h : few33 m) (hf : FrX m m') : few33 m' := fun k hk => by rw [hf 33 0 0 (by omega)]; exact h k hk
theorem c_xrefuse (hx : -6 ≤ x ∧ x ≤ -1) (hb : few33 m) : K_X9_refuse G [vr 0 0 0, vi x] m (pw (vi x) (refM m 33 x)) := by
  refine E_X9_refuse (fun X hX hR0 _ _ => ?_)
  have hb' := hb (-x) (by omega)
  refine J_iloadN hX rfl rfl dX9_refuse_0 ?_
  refine J_ineg hX (fun _ => by omega) dX9_refuse_1 ?_
  refine siN_2 hX dX9_refuse_2 ?_
  refine J_iloadN hX rfl rfl dX9_refuse_3 ?_
  refine J_iconst hX (by decide) dX9_refuse_4 ?_
  refine J_icmp_lt (tgt := 24) hX (by decide) dX9_refuse_5 (fun h1 => ?_) (fun h1 => ?_)
  · omega
  · refine J_iloadN hX rfl rfl dX9_refuse_8 ?_
    refine J_bipush hX (by decide) dX9_refuse_9 ?_
    refine J_icmp_gt (tgt := 24) hX (by decide) dX9_refuse_11 (fun h2 => ?_) (fun h2 => ?_)
    · omega
    · refine J_aloadN hX rfl rfl dX9_refuse_14 ?_
      refine G_HalfHere_refusals hX dX9_refuse_15 mF_X9_69 ?_
      refine J_iloadN hX rfl rfl dX9_refuse_18 ?_
      refine J_dup2 hX rfl rfl dX9_refuse_19 ?_
      refine L_33 hX (by omega) dX9_refuse_20 ?_
      refine J_iconst hX (by decide) dX9_refuse_21 ?_
      refine J_iadd hX (fun _ _ => by omega) dX9_refuse_22 ?_
      refine S_33 hX (by omega) dX9_refuse_23 ?_
      refine J_iloadN hX rfl rfl dX9_refuse_24 ?_
      exact J_iret hX hR0 dX9_refuse_25 (pwI rfl)
theorem c_xfeed (hl : m 14 0 0 1 = l) (hl2 : 0 ≤ l ∧ l ≤ 64) (hf : few33 m) : K_X9_feed G [vr 0 0 0, vi x] m (pi (anX m (rfFeed l x) (l + 1) (fun m' => m' = upr (upr m 15 0 0 (st1 (m 15 0 0) l x)) 14 0 0 (st1 (m 14 0 0) 1 (l + 1))))) := by
  refine E_X9_feed (fun X hX hR0 _ _ => ?_)
  have K28 : rfFeed l x = -6 → J G X 28 [vr 0 0 0, vi x] [] m := fun e => by
    refine J_aloadN hX rfl rfl dX9_feed_28 ?_
    refine J_bipush hX (by decide) dX9_feed_29 ?_
    refine cV1w hX cb_X9_refuse mL_X9_72 dX9_feed_31 (c_xrefuse (by omega) hf) ?_
    exact J_iret hX hR0 dX9_feed_34 (anX.no e (by decide))
  refine J_iloadN hX rfl rfl dX9_feed_0 ?_
  refine J_if_ge (tgt := 11) hX (by decide) dX9_feed_1 (fun h1 => ?_) (fun h1 => ?_)
  · refine J_iloadN hX rfl rfl dX9_feed_11 ?_
    refine J_sipush hX (by decide) dX9_feed_12 ?_
    refine J_icmp_gt (tgt := 28) hX (by decide) dX9_feed_15 (fun h2 => ?_) (fun h2 => ?_)
    · exact K28 (by unfold rfFeed; rw [if_neg (by omega), if_pos h2])
    · refine J_aloadN hX rfl rfl dX9_feed_18 ?_
      refine G_HalfHere_tape hX dX9_feed_19 mF_X9_10 ?_
      refine cV0w hX cb_X6_isFull mL_X9_76 dX9_feed_22 (c_isFull hl) ?_
      refine J_ifb_eq (tgt := 35) hX (by decide) dX9_feed_25 (fun h3 => ?_) (fun h3 => ?_)
      · refine J_aloadN hX rfl rfl dX9_feed_35 ?_
        refine G_HalfHere_tape hX dX9_feed_36 mF_X9_10 ?_
        refine J_iloadN hX rfl rfl dX9_feed_39 ?_
        refine cV1w hX cb_X6_take mL_X9_80 dX9_feed_40 (c_take hl (by omega)) ?_
        exact J_iret hX hR0 dX9_feed_43 (anX.yes (by unfold rfFeed; rw [if_neg (by omega), if_neg (by omega), if_neg (by omega)]) rfl rfl)
      · exact K28 (by unfold rfFeed; rw [if_neg (by omega), if_neg (by omega), if_pos (by omega)])
  · refine J_aloadN hX rfl rfl dX9_feed_4 ?_
    refine J_bipush hX (by decide) dX9_feed_5 ?_
    refine cV1w hX cb_X9_refuse mL_X9_72 dX9_feed_7 (c_xrefuse (by omega) hf) ?_
    exact J_iret hX hR0 dX9_feed_10 (anX.no (by unfold rfFeed; rw [if_pos (by omega)]) (by decide))
theorem c_xrow (hl : m 0 0 0 10 = l) (hl2 : 0 ≤ l ∧ l ≤ 12) (hf : few33 m) : K_X9_row G [vr 0 0 0, vi x] m (pi (anX m (rfRow l x) (l + 1) (fun m' => m' = upr (upr m 32 0 0 (st1 (m 32 0 0) l x)) 0 0 0 (st1 (m 0 0 0) 10 (l + 1))))) := by
  refine E_X9_row (fun X hX hR0 _ _ => ?_)
  have K26 : rfRow l x = -6 → J G X 26 [vr 0 0 0, vi x] [] m := fun e => by
    refine J_aloadN hX rfl rfl dX9_row_26 ?_
    refine J_bipush hX (by decide) dX9_row_27 ?_
    refine cV1w hX cb_X9_refuse mL_X9_72 dX9_row_29 (c_xrefuse (by omega) hf) ?_
    exact J_iret hX hR0 dX9_row_32 (anX.no e (by decide))
  refine J_iloadN hX rfl rfl dX9_row_0 ?_
  refine J_if_ge (tgt := 11) hX (by decide) dX9_row_1 (fun h1 => ?_) (fun h1 => ?_)
  · refine J_iloadN hX rfl rfl dX9_row_11 ?_
    refine J_bipush hX (by decide) dX9_row_12 ?_
    refine J_icmp_gt (tgt := 26) hX (by decide) dX9_row_14 (fun h2 => ?_) (fun h2 => ?_)
    · exact K26 (by unfold rfRow; rw [if_neg (by omega), if_pos h2])
    · refine J_aloadN hX rfl rfl dX9_row_17 ?_
      refine G_HalfHere_rowLength hX dX9_row_18 mF_X9_65 ?_
      refine J_bipush hX (by decide) dX9_row_21 ?_
      rw [hl]
      refine J_icmp_lt (tgt := 33) hX (by decide) dX9_row_23 (fun h3 => ?_) (fun h3 => ?_)
      · refine J_aloadN hX rfl rfl dX9_row_33 ?_
        refine G_HalfHere_row hX dX9_row_34 mF_X9_61 ?_
        refine J_aloadN hX rfl rfl dX9_row_37 ?_
        refine G_HalfHere_rowLength hX dX9_row_38 mF_X9_65 ?_
        rw [hl]
        refine J_iloadN hX rfl rfl dX9_row_41 ?_
        refine S_32 hX (by omega) dX9_row_42 ?_
        refine J_aloadN hX rfl rfl dX9_row_43 ?_
        refine J_dup hX rfl dX9_row_44 ?_
        refine G_HalfHere_rowLength hX dX9_row_45 mF_X9_65 ?_
        simp only [upr_t, Nat.reduceBEq]
        rw [hl]
        refine J_iconst hX (by decide) dX9_row_48 ?_
        refine J_iadd hX (fun _ _ => by omega) dX9_row_49 ?_
        refine P_HalfHere_rowLength hX dX9_row_50 mF_X9_65 ?_
        refine J_aloadN hX rfl rfl dX9_row_53 ?_
        refine G_HalfHere_rowLength hX dX9_row_54 mF_X9_65 ?_
        simp only [upr_t, Nat.reduceBEq, upr_eq]
        exact J_iret hX hR0 dX9_row_57 (anX.yes (by unfold rfRow; rw [if_neg (by omega), if_neg (by omega), if_neg (by omega)]) (by rw [st1_eq]) rfl)
      · exact K26 (by unfold rfRow; rw [if_neg (by omega), if_neg (by omega), if_pos (by omega)])
  · refine J_aloadN hX rfl rfl dX9_row_4 ?_
    refine J_bipush hX (by decide) dX9_row_5 ?_
    refine cV1w hX cb_X9_refuse mL_X9_72 dX9_row_7 (c_xrefuse (by omega) hf) ?_
    exact J_iret hX hR0 dX9_row_10 (anX.no (by unfold rfRow; rw [if_pos (by omega)]) (by decide))
theorem l_judged (hX : Ok_X9_judged G X 2) (hn : m 0 0 0 10 = n) (hn2 : 0 ≤ n ∧ n ≤ 12) (hW : ∀ k, inN k n → m 32 0 0 k = W k ∧ 0 ≤ W k ∧ W k ≤ 99) (hR0 : JRt G X (pw (vi (jdA A W n p)) m) (some .int)) : ∀ i, 0 ≤ i → i ≤ n → jdA A W n p = fstI (jdP A W p) (if sumI W n < 12 then n else -9) i n → J G X 4 [vr 0 0 0, vi (aG A p 3), vi (sumI W i), vi i] [] m := by
  refine up_to (fun i h1 h2 ih he => ?_)
  have hb := sumI_b (f := W) (lo := 0) (hi := 99) (n := i) h1 (fun j a b => (hW j ⟨a, by omega⟩).2)
  refine J_iloadN hX rfl rfl dX9_judged_4 ?_
  refine J_aloadN hX rfl rfl dX9_judged_5 ?_
  refine G_HalfHere_rowLength hX dX9_judged_6 mF_X9_65 ?_
  rw [hn]
  refine J_icmp_ge (tgt := 45) hX (by decide) dX9_judged_9 (fun h3 => ?_) (fun h3 => ?_)
  · have e : i = n := by omega
    subst e
    rw [fstI_0 (by omega)] at he
    refine J_iloadN hX rfl rfl dX9_judged_45 ?_
    refine J_bipush hX (by decide) dX9_judged_46 ?_
    refine J_icmp_ge (tgt := 58) hX (by decide) dX9_judged_48 (fun h4 => ?_) (fun h4 => ?_)
    · refine J_bipush hX (by decide) dX9_judged_58 ?_
      exact J_iret hX hR0 dX9_judged_60 (pwI (by rw [he, if_neg (by omega)]))
    · refine J_aloadN hX rfl rfl dX9_judged_51 ?_
      refine G_HalfHere_rowLength hX dX9_judged_52 mF_X9_65 ?_
      rw [hn]
      refine J_goto (tgt := 60) hX (by decide) dX9_judged_55 ?_
      exact J_iret hX hR0 dX9_judged_60 (pwI (by rw [he, if_pos h4]))
  · have hi := hW i ⟨h1, h3⟩
    have es := sumI_s (f := W) h1
    have K37 : jdP A W p i → J G X 37 [vr 0 0 0, vi (aG A p 3), vi (sumI W i + W i), vi i] [] m := fun hj => by
      rw [fstI_t h3 hj] at he
      refine J_iloadN hX rfl rfl dX9_judged_37 ?_
      exact J_iret hX hR0 dX9_judged_38 (pwI he.symm)
    refine J_iloadN hX rfl rfl dX9_judged_12 ?_
    refine J_aloadN hX rfl rfl dX9_judged_13 ?_
    refine G_HalfHere_row hX dX9_judged_14 mF_X9_61 ?_
    refine J_iloadN hX rfl rfl dX9_judged_17 ?_
    refine L_32 hX (by omega) dX9_judged_18 ?_
    rw [hi.1]
    refine J_iadd hX (fun _ _ => by omega) dX9_judged_19 ?_
    refine siN_2 hX dX9_judged_20 ?_
    refine J_aloadN hX rfl rfl dX9_judged_21 ?_
    refine G_HalfHere_row hX dX9_judged_22 mF_X9_61 ?_
    refine J_iloadN hX rfl rfl dX9_judged_25 ?_
    refine L_32 hX (by omega) dX9_judged_26 ?_
    rw [hi.1]
    refine J_iloadN hX rfl rfl dX9_judged_27 ?_
    refine J_icmp_lt (tgt := 37) hX (by decide) dX9_judged_28 (fun h4 => ?_) (fun h4 => ?_)
    · exact K37 (Or.inl h4)
    · refine J_iloadN hX rfl rfl dX9_judged_31 ?_
      refine J_bipush hX (by decide) dX9_judged_32 ?_
      refine J_icmp_le (tgt := 39) hX (by decide) dX9_judged_34 (fun h5 => ?_) (fun h5 => ?_)
      · have nj : ¬ jdP A W p i := fun q => by
          rcases q with q | q
          · omega
          · rw [es] at q; omega
        rw [fstI_f h3 nj] at he
        have nx := ih h3 he
        rw [es] at nx
        refine sinc_3 hX (fun _ => by omega) dX9_judged_39 ?_
        refine J_goto (tgt := 4) hX (by decide) dX9_judged_42 ?_
        exact nx
      · exact K37 (Or.inr (by rw [es]; omega))
theorem c_judged (hn : m 0 0 0 10 = n) (hn2 : 0 ≤ n ∧ n ≤ 12) (hW : ∀ k, inN k n → m 32 0 0 k = W k ∧ 0 ≤ W k ∧ W k ≤ 99) : K_X9_judged G [vr 0 0 0, vi (aG A p 3)] m (pw (vi (jdA A W n p)) m) := by
  refine E_X9_judged (fun X hX hR0 _ _ => ?_)
  refine J_iconst hX (by decide) dX9_judged_0 ?_
  refine siN_2 hX dX9_judged_1 ?_
  refine J_iconst hX (by decide) dX9_judged_2 ?_
  refine siN_3 hX dX9_judged_3 ?_
  exact l_judged hX hn hn2 hW hR0 0 (by omega) (by omega) rfl
theorem c_xjudge (hR : RelV m 0 A) (hf : few33 m) (hn : m 0 0 0 10 = n) (hn2 : 0 ≤ n ∧ n ≤ 12) (hW : ∀ k, inN k n → m 32 0 0 k = W k ∧ 0 ≤ W k ∧ W k ≤ 99) (hI : InvA A C D) : K_X9_judge G [vr 0 0 0, vi p] m (pi (anX m (rfThin A p) (jdA A W n p) (fun m' => m' = upr m 0 0 0 (st1 (m 0 0 0) 10 0)))) := by
  refine E_X9_judge (fun X hX hR0 _ _ => ?_)
  have h0 := hI.1
  refine J_aloadN hX rfl rfl dX9_judge_0 ?_
  refine G_HalfHere_now hX dX9_judge_1 mF_X9_19 ?_
  refine J_iloadN hX rfl rfl dX9_judge_4 ?_
  refine cV1w hX cb_X7_hasPerson mL_X9_97 dX9_judge_5 (c_hasPerson hR) ?_
  refine J_ifb_ne (tgt := 17) hX (by decide) dX9_judge_8 (fun h1 => ?_) (fun h1 => ?_)
  · have hv := hR.2.2.1 p h1
    refine J_aloadN hX rfl rfl dX9_judge_17 ?_
    refine J_aloadN hX rfl rfl dX9_judge_18 ?_
    refine G_HalfHere_now hX dX9_judge_19 mF_X9_19 ?_
    refine G_Village_persons hX dX9_judge_22 mF_X9_101 ?_
    refine J_iloadN hX rfl rfl dX9_judge_25 ?_
    refine A_6 hX (by omega) dX9_judge_26 ?_
    refine G_Person_least hX dX9_judge_27 mF_X9_110 ?_
    rw [hv.1]
    refine cV1w hX cb_X9_judged mL_X9_282 dX9_judge_30 (c_judged hn hn2 hW) ?_
    refine siN_2 hX dX9_judge_33 ?_
    refine J_aloadN hX rfl rfl dX9_judge_34 ?_
    refine J_iconst hX (by decide) dX9_judge_35 ?_
    refine P_HalfHere_rowLength hX dX9_judge_36 mF_X9_65 ?_
    refine J_iloadN hX rfl rfl dX9_judge_39 ?_
    exact J_iret hX hR0 dX9_judge_40 (anX.yes (by unfold rfThin; rw [if_pos h1]) rfl rfl)
  · refine J_aloadN hX rfl rfl dX9_judge_11 ?_
    refine J_iconst hX (by decide) dX9_judge_12 ?_
    refine cV1w hX cb_X9_refuse mL_X9_72 dX9_judge_13 (c_xrefuse (by omega) hf) ?_
    exact J_iret hX hR0 dX9_judge_16 (anX.no (by unfold rfThin; rw [if_neg h1]) (by decide))
theorem c_xperson (hR : RelV m 0 A) (hI : InvA A C D) (hf : few33 m) : K_X9_person G [vr 0 0 0, vi p, vi x] m (pi (anX m (rfPerson A p x) (personA A p x) (FrX m))) := by
  refine E_X9_person (fun X hX hR0 _ _ => ?_)
  have h0 := hI.1
  refine J_aloadN hX rfl rfl dX9_person_0 ?_
  refine G_HalfHere_now hX dX9_person_1 mF_X9_19 ?_
  refine J_iloadN hX rfl rfl dX9_person_4 ?_
  refine cV1w hX cb_X7_hasPerson mL_X9_97 dX9_person_5 (c_hasPerson hR) ?_
  refine J_ifb_ne (tgt := 17) hX (by decide) dX9_person_8 (fun h1 => ?_) (fun h1 => ?_)
  · have hv := hR.2.2.1 p h1
    by_cases hx : inN x 6
    · have rf : rfPerson A p x = 0 := by unfold rfPerson; rw [if_pos h1, if_pos hx]
      rcases (show x = 0 ∨ x = 1 ∨ x = 2 ∨ x = 3 ∨ x = 4 ∨ x = 5 by omega) with rfl | rfl | rfl | rfl | rfl | rfl
      · refine J_iloadN hX rfl rfl dX9_person_17 ?_
        refine J_tableIn (off := 38) (tgt := 56) hX (by omega) (by omega) rfl (by decide) dX9_person_18 ?_
        refine J_aloadN hX rfl rfl dX9_person_56 ?_
        refine G_HalfHere_now hX dX9_person_57 mF_X9_19 ?_
        refine G_Village_persons hX dX9_person_60 mF_X9_101 ?_
        refine J_iloadN hX rfl rfl dX9_person_63 ?_
        refine A_6 hX (by omega) dX9_person_64 ?_
        refine G_Person_gifts hX dX9_person_65 mF_X9_105 ?_
        refine J_iloadN hX rfl rfl dX9_person_68 ?_
        refine L_10 hX (by omega) dX9_person_69 ?_
        rw [hv.2 0 (by omega)]
        exact J_iret hX hR0 dX9_person_70 (anX.yes rf (by unfold personA; rw [if_pos (by omega)]) FrX.rf)
      · refine J_iloadN hX rfl rfl dX9_person_17 ?_
        refine J_tableIn (off := 38) (tgt := 56) hX (by omega) (by omega) rfl (by decide) dX9_person_18 ?_
        refine J_aloadN hX rfl rfl dX9_person_56 ?_
        refine G_HalfHere_now hX dX9_person_57 mF_X9_19 ?_
        refine G_Village_persons hX dX9_person_60 mF_X9_101 ?_
        refine J_iloadN hX rfl rfl dX9_person_63 ?_
        refine A_6 hX (by omega) dX9_person_64 ?_
        refine G_Person_gifts hX dX9_person_65 mF_X9_105 ?_
        refine J_iloadN hX rfl rfl dX9_person_68 ?_
        refine L_10 hX (by omega) dX9_person_69 ?_
        rw [hv.2 1 (by omega)]
        exact J_iret hX hR0 dX9_person_70 (anX.yes rf (by unfold personA; rw [if_pos (by omega)]) FrX.rf)
      · refine J_iloadN hX rfl rfl dX9_person_17 ?_
        refine J_tableIn (off := 38) (tgt := 56) hX (by omega) (by omega) rfl (by decide) dX9_person_18 ?_
        refine J_aloadN hX rfl rfl dX9_person_56 ?_
        refine G_HalfHere_now hX dX9_person_57 mF_X9_19 ?_
        refine G_Village_persons hX dX9_person_60 mF_X9_101 ?_
        refine J_iloadN hX rfl rfl dX9_person_63 ?_
        refine A_6 hX (by omega) dX9_person_64 ?_
        refine G_Person_gifts hX dX9_person_65 mF_X9_105 ?_
        refine J_iloadN hX rfl rfl dX9_person_68 ?_
        refine L_10 hX (by omega) dX9_person_69 ?_
        rw [hv.2 2 (by omega)]
        exact J_iret hX hR0 dX9_person_70 (anX.yes rf (by unfold personA; rw [if_pos (by omega)]) FrX.rf)
      · refine J_iloadN hX rfl rfl dX9_person_17 ?_
        refine J_tableIn (off := 53) (tgt := 71) hX (by omega) (by omega) rfl (by decide) dX9_person_18 ?_
        refine J_aloadN hX rfl rfl dX9_person_71 ?_
        refine G_HalfHere_now hX dX9_person_72 mF_X9_19 ?_
        refine G_Village_persons hX dX9_person_75 mF_X9_101 ?_
        refine J_iloadN hX rfl rfl dX9_person_78 ?_
        refine A_6 hX (by omega) dX9_person_79 ?_
        refine G_Person_least hX dX9_person_80 mF_X9_110 ?_
        rw [hv.1]
        exact J_iret hX hR0 dX9_person_83 (anX.yes rf (by unfold personA; rw [if_pos (by omega)]) FrX.rf)
      · refine J_iloadN hX rfl rfl dX9_person_17 ?_
        refine J_tableIn (off := 66) (tgt := 84) hX (by omega) (by omega) rfl (by decide) dX9_person_18 ?_
        refine J_aloadN hX rfl rfl dX9_person_84 ?_
        refine G_HalfHere_now hX dX9_person_85 mF_X9_19 ?_
        refine J_iloadN hX rfl rfl dX9_person_88 ?_
        refine cV1w hX cb_X7_twelfthsOf mL_X9_113 dX9_person_89 (c_twelfthsOf hR hI) ?_
        exact J_iret hX hR0 dX9_person_92 (anX.yes rf (by unfold personA; rw [if_neg (by omega), if_pos rfl]) FrX.rf)
      · refine J_iloadN hX rfl rfl dX9_person_17 ?_
        refine J_tableIn (off := 75) (tgt := 93) hX (by omega) (by omega) rfl (by decide) dX9_person_18 ?_
        refine J_aloadN hX rfl rfl dX9_person_93 ?_
        refine G_HalfHere_now hX dX9_person_94 mF_X9_19 ?_
        refine J_iloadN hX rfl rfl dX9_person_97 ?_
        refine cV1w hX cb_X7_partsOf mL_X9_116 dX9_person_98 (c_partsOf hR) ?_
        exact J_iret hX hR0 dX9_person_101 (anX.yes rf (by unfold personA; rw [if_neg (by omega), if_neg (by omega)]) FrX.rf)
    · refine J_iloadN hX rfl rfl dX9_person_17 ?_
      refine J_tableOut (tgt := 102) hX (by omega) (by decide) dX9_person_18 ?_
      refine J_aloadN hX rfl rfl dX9_person_102 ?_
      refine J_bipush hX (by decide) dX9_person_103 ?_
      refine cV1w hX cb_X9_refuse mL_X9_72 dX9_person_105 (c_xrefuse (by omega) hf) ?_
      exact J_iret hX hR0 dX9_person_108 (anX.no (by unfold rfPerson; rw [if_pos h1, if_neg hx]) (by decide))
  · skip
    refine J_aloadN hX rfl rfl dX9_person_11 ?_
    refine J_iconst hX (by decide) dX9_person_12 ?_
    refine cV1w hX cb_X9_refuse mL_X9_72 dX9_person_13 (c_xrefuse (by omega) hf) ?_
    exact J_iret hX hR0 dX9_person_16 (anX.no (by unfold rfPerson; rw [if_neg h1]) (by decide))
theorem c_xwork (hR : RelV m 0 A) (hI : InvA A C D) (hf : few33 m) : K_X9_work G [vr 0 0 0, vi w, vi x] m (pi (anX m (rfWork A w x) (aW A w x) (FrX m))) := by
  refine E_X9_work (fun X hX hR0 _ _ => ?_)
  have h0 := hI.1
  refine J_aloadN hX rfl rfl dX9_work_0 ?_
  refine G_HalfHere_now hX dX9_work_1 mF_X9_19 ?_
  refine J_iloadN hX rfl rfl dX9_work_4 ?_
  refine cV1w hX cb_X7_hasWork mL_X9_119 dX9_work_5 (c_hasWork hR) ?_
  refine J_ifb_ne (tgt := 17) hX (by decide) dX9_work_8 (fun h1 => ?_) (fun h1 => ?_)
  · have hv := hR.2.2.2.1 w h1
    by_cases hx : inN x 6
    · have rf : rfWork A w x = 0 := by unfold rfWork; rw [if_pos h1, if_pos hx]
      rcases (show x = 0 ∨ x = 1 ∨ x = 2 ∨ x = 3 ∨ x = 4 ∨ x = 5 by omega) with rfl | rfl | rfl | rfl | rfl | rfl
      · refine J_aloadN hX rfl rfl dX9_work_17 ?_
        refine G_HalfHere_now hX dX9_work_18 mF_X9_19 ?_
        refine G_Village_works hX dX9_work_21 mF_X9_122 ?_
        refine J_iloadN hX rfl rfl dX9_work_24 ?_
        refine A_7 hX (by omega) dX9_work_25 ?_
        refine saN_3 hX dX9_work_26 ?_
        refine J_iloadN hX rfl rfl dX9_work_27 ?_
        refine J_tableIn (off := 40) (tgt := 68) hX (by omega) (by omega) rfl (by decide) dX9_work_28 ?_
        refine J_aloadN hX rfl rfl dX9_work_68 ?_
        refine G_Work_kind hX dX9_work_69 mF_X9_126 ?_
        exact J_iret hX hR0 dX9_work_72 (anX.yes rf hv.1 FrX.rf)
      · refine J_aloadN hX rfl rfl dX9_work_17 ?_
        refine G_HalfHere_now hX dX9_work_18 mF_X9_19 ?_
        refine G_Village_works hX dX9_work_21 mF_X9_122 ?_
        refine J_iloadN hX rfl rfl dX9_work_24 ?_
        refine A_7 hX (by omega) dX9_work_25 ?_
        refine saN_3 hX dX9_work_26 ?_
        refine J_iloadN hX rfl rfl dX9_work_27 ?_
        refine J_tableIn (off := 45) (tgt := 73) hX (by omega) (by omega) rfl (by decide) dX9_work_28 ?_
        refine J_aloadN hX rfl rfl dX9_work_73 ?_
        refine G_Work_place hX dX9_work_74 mF_X9_131 ?_
        exact J_iret hX hR0 dX9_work_77 (anX.yes rf hv.2.1 FrX.rf)
      · refine J_aloadN hX rfl rfl dX9_work_17 ?_
        refine G_HalfHere_now hX dX9_work_18 mF_X9_19 ?_
        refine G_Village_works hX dX9_work_21 mF_X9_122 ?_
        refine J_iloadN hX rfl rfl dX9_work_24 ?_
        refine A_7 hX (by omega) dX9_work_25 ?_
        refine saN_3 hX dX9_work_26 ?_
        refine J_iloadN hX rfl rfl dX9_work_27 ?_
        refine J_tableIn (off := 50) (tgt := 78) hX (by omega) (by omega) rfl (by decide) dX9_work_28 ?_
        refine J_aloadN hX rfl rfl dX9_work_78 ?_
        refine G_Work_needs hX dX9_work_79 mF_X9_134 ?_
        refine J_iloadN hX rfl rfl dX9_work_82 ?_
        refine J_iconst hX (by decide) dX9_work_83 ?_
        refine J_isub hX (fun _ _ => by omega) dX9_work_84 ?_
        refine L_12 hX (by omega) dX9_work_85 ?_
        exact J_iret hX hR0 dX9_work_86 (anX.yes rf (hv.2.2.2 0 (by omega)) FrX.rf)
      · refine J_aloadN hX rfl rfl dX9_work_17 ?_
        refine G_HalfHere_now hX dX9_work_18 mF_X9_19 ?_
        refine G_Village_works hX dX9_work_21 mF_X9_122 ?_
        refine J_iloadN hX rfl rfl dX9_work_24 ?_
        refine A_7 hX (by omega) dX9_work_25 ?_
        refine saN_3 hX dX9_work_26 ?_
        refine J_iloadN hX rfl rfl dX9_work_27 ?_
        refine J_tableIn (off := 50) (tgt := 78) hX (by omega) (by omega) rfl (by decide) dX9_work_28 ?_
        refine J_aloadN hX rfl rfl dX9_work_78 ?_
        refine G_Work_needs hX dX9_work_79 mF_X9_134 ?_
        refine J_iloadN hX rfl rfl dX9_work_82 ?_
        refine J_iconst hX (by decide) dX9_work_83 ?_
        refine J_isub hX (fun _ _ => by omega) dX9_work_84 ?_
        refine L_12 hX (by omega) dX9_work_85 ?_
        exact J_iret hX hR0 dX9_work_86 (anX.yes rf (hv.2.2.2 1 (by omega)) FrX.rf)
      · refine J_aloadN hX rfl rfl dX9_work_17 ?_
        refine G_HalfHere_now hX dX9_work_18 mF_X9_19 ?_
        refine G_Village_works hX dX9_work_21 mF_X9_122 ?_
        refine J_iloadN hX rfl rfl dX9_work_24 ?_
        refine A_7 hX (by omega) dX9_work_25 ?_
        refine saN_3 hX dX9_work_26 ?_
        refine J_iloadN hX rfl rfl dX9_work_27 ?_
        refine J_tableIn (off := 50) (tgt := 78) hX (by omega) (by omega) rfl (by decide) dX9_work_28 ?_
        refine J_aloadN hX rfl rfl dX9_work_78 ?_
        refine G_Work_needs hX dX9_work_79 mF_X9_134 ?_
        refine J_iloadN hX rfl rfl dX9_work_82 ?_
        refine J_iconst hX (by decide) dX9_work_83 ?_
        refine J_isub hX (fun _ _ => by omega) dX9_work_84 ?_
        refine L_12 hX (by omega) dX9_work_85 ?_
        exact J_iret hX hR0 dX9_work_86 (anX.yes rf (hv.2.2.2 2 (by omega)) FrX.rf)
      · refine J_aloadN hX rfl rfl dX9_work_17 ?_
        refine G_HalfHere_now hX dX9_work_18 mF_X9_19 ?_
        refine G_Village_works hX dX9_work_21 mF_X9_122 ?_
        refine J_iloadN hX rfl rfl dX9_work_24 ?_
        refine A_7 hX (by omega) dX9_work_25 ?_
        refine saN_3 hX dX9_work_26 ?_
        refine J_iloadN hX rfl rfl dX9_work_27 ?_
        refine J_tableIn (off := 59) (tgt := 87) hX (by omega) (by omega) rfl (by decide) dX9_work_28 ?_
        refine J_aloadN hX rfl rfl dX9_work_87 ?_
        refine G_Work_worth hX dX9_work_88 mF_X9_137 ?_
        exact J_iret hX hR0 dX9_work_91 (anX.yes rf hv.2.2.1 FrX.rf)
    · refine J_aloadN hX rfl rfl dX9_work_17 ?_
      refine G_HalfHere_now hX dX9_work_18 mF_X9_19 ?_
      refine G_Village_works hX dX9_work_21 mF_X9_122 ?_
      refine J_iloadN hX rfl rfl dX9_work_24 ?_
      refine A_7 hX (by omega) dX9_work_25 ?_
      refine saN_3 hX dX9_work_26 ?_
      refine J_iloadN hX rfl rfl dX9_work_27 ?_
      refine J_tableOut (tgt := 92) hX (by omega) (by decide) dX9_work_28 ?_
      refine J_aloadN hX rfl rfl dX9_work_92 ?_
      refine J_bipush hX (by decide) dX9_work_93 ?_
      refine cV1w hX cb_X9_refuse mL_X9_72 dX9_work_95 (c_xrefuse (by omega) hf) ?_
      exact J_iret hX hR0 dX9_work_98 (anX.no (by unfold rfWork; rw [if_pos h1, if_neg hx]) (by decide))
  · skip
    refine J_aloadN hX rfl rfl dX9_work_11 ?_
    refine J_iconst hX (by decide) dX9_work_12 ?_
    refine cV1w hX cb_X9_refuse mL_X9_72 dX9_work_13 (c_xrefuse (by omega) hf) ?_
    exact J_iret hX hR0 dX9_work_16 (anX.no (by unfold rfWork; rw [if_neg h1]) (by decide))
theorem c_xminutes (hR : RelV m 0 A) (hI : InvA A C D) (hf : few33 m) : K_X9_minutes G [vr 0 0 0, vi x, vi y] m (pi (anX m (rfMin A x y) (gF (fwA A x y)) (FrX m))) := by
  refine E_X9_minutes (fun X hX hR0 _ _ => ?_)
  have h0 := hI.1
  have K22 : ¬ (inN x (A 0) ∧ inN y (A 0)) → J G X 22 [vr 0 0 0, vi x, vi y] [] m := fun q => by
    refine J_aloadN hX rfl rfl dX9_minutes_22 ?_
    refine J_iconst hX (by decide) dX9_minutes_23 ?_
    refine cV1w hX cb_X9_refuse mL_X9_72 dX9_minutes_24 (c_xrefuse (by omega) hf) ?_
    exact J_iret hX hR0 dX9_minutes_27 (anX.no (by unfold rfMin; rw [if_neg q]) (by decide))
  refine J_aloadN hX rfl rfl dX9_minutes_0 ?_
  refine G_HalfHere_now hX dX9_minutes_1 mF_X9_19 ?_
  refine J_iloadN hX rfl rfl dX9_minutes_4 ?_
  refine cV1w hX cb_X7_hasPlace mL_X9_140 dX9_minutes_5 (c_hasPlace hR) ?_
  refine J_ifb_eq (tgt := 22) hX (by decide) dX9_minutes_8 (fun h1 => ?_) (fun h1 => ?_)
  · exact K22 (fun q => h1 q.1)
  · refine J_aloadN hX rfl rfl dX9_minutes_11 ?_
    refine G_HalfHere_now hX dX9_minutes_12 mF_X9_19 ?_
    refine J_iloadN hX rfl rfl dX9_minutes_15 ?_
    refine cV1w hX cb_X7_hasPlace mL_X9_140 dX9_minutes_16 (c_hasPlace hR) ?_
    refine J_ifb_ne (tgt := 28) hX (by decide) dX9_minutes_19 (fun h2 => ?_) (fun h2 => ?_)
    · refine J_aloadN hX rfl rfl dX9_minutes_28 ?_
      refine G_HalfHere_now hX dX9_minutes_29 mF_X9_19 ?_
      refine cV0u hX cb_X7_measure mL_X9_143 dX9_minutes_32 (c_measure hR hI) (fun m2 hm2 => ?_)
      refine J_aloadN hX rfl rfl dX9_minutes_35 ?_
      refine G_HalfHere_now hX dX9_minutes_36 mF_X9_19 ?_
      refine G_Village_far hX dX9_minutes_39 mF_X9_146 ?_
      refine J_iloadN hX rfl rfl dX9_minutes_42 ?_
      refine A_4 hX (by omega) dX9_minutes_43 ?_
      refine J_iloadN hX rfl rfl dX9_minutes_44 ?_
      refine L_5 hX (by omega) dX9_minutes_45 ?_
      rw [hm2.2 x y (by omega) (by omega)]
      exact J_iret hX hR0 dX9_minutes_46 (anX.yes (by unfold rfMin; rw [if_pos ⟨h1, h2⟩]) rfl hm2.1.toX)
    · exact K22 (fun q => h2 q.2)
theorem c_xpartOf (hR : RelV m 0 A) (hI : InvA A C D) (hf : few33 m) : K_X9_partOf G [vr 0 0 0, vi i, vi x] m (pi (anX m (rfPartOf A i x) (partOfA A i x) (FrX m))) := by
  refine E_X9_partOf (fun X hX hR0 _ _ => ?_)
  have h0 := hI.1
  refine J_aloadN hX rfl rfl dX9_partOf_0 ?_
  refine G_HalfHere_now hX dX9_partOf_1 mF_X9_19 ?_
  refine J_iloadN hX rfl rfl dX9_partOf_4 ?_
  refine cV1w hX cb_X7_hasPart mL_X9_150 dX9_partOf_5 (c_hasPart hR) ?_
  refine J_ifb_ne (tgt := 17) hX (by decide) dX9_partOf_8 (fun h1 => ?_) (fun h1 => ?_)
  · obtain ⟨v0, v1, v2, v3, v4, v5, v6⟩ := hR.part h1
    have hi := h1.1
    have hi2 := h1.2.1
    by_cases hx : inN x 7
    · have rf : rfPartOf A i x = 0 := by unfold rfPartOf; rw [ifP_pos h1, if_pos hx]
      rcases (show x = 0 ∨ x = 1 ∨ x = 2 ∨ x = 3 ∨ x = 4 ∨ x = 5 ∨ x = 6 by omega) with rfl | rfl | rfl | rfl | rfl | rfl | rfl
      · refine J_aloadN hX rfl rfl dX9_partOf_17 ?_
        refine G_HalfHere_now hX dX9_partOf_18 mF_X9_19 ?_
        refine G_Village_parts hX dX9_partOf_21 mF_X9_153 ?_
        refine J_iloadN hX rfl rfl dX9_partOf_24 ?_
        refine A_8 hX (by omega) dX9_partOf_25 ?_
        refine saN_3 hX dX9_partOf_26 ?_
        refine J_iloadN hX rfl rfl dX9_partOf_27 ?_
        refine J_tableIn (off := 44) (tgt := 72) hX (by omega) (by omega) rfl (by decide) dX9_partOf_28 ?_
        refine J_aloadN hX rfl rfl dX9_partOf_72 ?_
        refine G_Part_person hX dX9_partOf_73 mF_X9_157 ?_
        exact J_iret hX hR0 dX9_partOf_76 (anX.yes rf v0 FrX.rf)
      · refine J_aloadN hX rfl rfl dX9_partOf_17 ?_
        refine G_HalfHere_now hX dX9_partOf_18 mF_X9_19 ?_
        refine G_Village_parts hX dX9_partOf_21 mF_X9_153 ?_
        refine J_iloadN hX rfl rfl dX9_partOf_24 ?_
        refine A_8 hX (by omega) dX9_partOf_25 ?_
        refine saN_3 hX dX9_partOf_26 ?_
        refine J_iloadN hX rfl rfl dX9_partOf_27 ?_
        refine J_tableIn (off := 49) (tgt := 77) hX (by omega) (by omega) rfl (by decide) dX9_partOf_28 ?_
        refine J_aloadN hX rfl rfl dX9_partOf_77 ?_
        refine G_Part_twelfths hX dX9_partOf_78 mF_X9_162 ?_
        exact J_iret hX hR0 dX9_partOf_81 (anX.yes rf v1 FrX.rf)
      · refine J_aloadN hX rfl rfl dX9_partOf_17 ?_
        refine G_HalfHere_now hX dX9_partOf_18 mF_X9_19 ?_
        refine G_Village_parts hX dX9_partOf_21 mF_X9_153 ?_
        refine J_iloadN hX rfl rfl dX9_partOf_24 ?_
        refine A_8 hX (by omega) dX9_partOf_25 ?_
        refine saN_3 hX dX9_partOf_26 ?_
        refine J_iloadN hX rfl rfl dX9_partOf_27 ?_
        refine J_tableIn (off := 54) (tgt := 82) hX (by omega) (by omega) rfl (by decide) dX9_partOf_28 ?_
        refine J_aloadN hX rfl rfl dX9_partOf_82 ?_
        refine G_Part_place hX dX9_partOf_83 mF_X9_165 ?_
        exact J_iret hX hR0 dX9_partOf_86 (anX.yes rf v2 FrX.rf)
      · refine J_aloadN hX rfl rfl dX9_partOf_17 ?_
        refine G_HalfHere_now hX dX9_partOf_18 mF_X9_19 ?_
        refine G_Village_parts hX dX9_partOf_21 mF_X9_153 ?_
        refine J_iloadN hX rfl rfl dX9_partOf_24 ?_
        refine A_8 hX (by omega) dX9_partOf_25 ?_
        refine saN_3 hX dX9_partOf_26 ?_
        refine J_iloadN hX rfl rfl dX9_partOf_27 ?_
        refine J_tableIn (off := 59) (tgt := 87) hX (by omega) (by omega) rfl (by decide) dX9_partOf_28 ?_
        refine J_aloadN hX rfl rfl dX9_partOf_87 ?_
        refine G_Part_work hX dX9_partOf_88 mF_X9_166 ?_
        exact J_iret hX hR0 dX9_partOf_91 (anX.yes rf v3 FrX.rf)
      · refine J_aloadN hX rfl rfl dX9_partOf_17 ?_
        refine G_HalfHere_now hX dX9_partOf_18 mF_X9_19 ?_
        refine G_Village_parts hX dX9_partOf_21 mF_X9_153 ?_
        refine J_iloadN hX rfl rfl dX9_partOf_24 ?_
        refine A_8 hX (by omega) dX9_partOf_25 ?_
        refine saN_3 hX dX9_partOf_26 ?_
        refine J_iloadN hX rfl rfl dX9_partOf_27 ?_
        refine J_tableIn (off := 64) (tgt := 92) hX (by omega) (by omega) rfl (by decide) dX9_partOf_28 ?_
        refine J_aloadN hX rfl rfl dX9_partOf_92 ?_
        refine G_Part_clock hX dX9_partOf_93 mF_X9_169 ?_
        exact J_iret hX hR0 dX9_partOf_96 (anX.yes rf v4 FrX.rf)
      · refine J_aloadN hX rfl rfl dX9_partOf_17 ?_
        refine G_HalfHere_now hX dX9_partOf_18 mF_X9_19 ?_
        refine G_Village_parts hX dX9_partOf_21 mF_X9_153 ?_
        refine J_iloadN hX rfl rfl dX9_partOf_24 ?_
        refine A_8 hX (by omega) dX9_partOf_25 ?_
        refine saN_3 hX dX9_partOf_26 ?_
        refine J_iloadN hX rfl rfl dX9_partOf_27 ?_
        refine J_tableIn (off := 69) (tgt := 97) hX (by omega) (by omega) rfl (by decide) dX9_partOf_28 ?_
        refine J_aloadN hX rfl rfl dX9_partOf_97 ?_
        refine G_Part_tired hX dX9_partOf_98 mF_X9_172 ?_
        exact J_iret hX hR0 dX9_partOf_101 (anX.yes rf v5 FrX.rf)
      · refine J_aloadN hX rfl rfl dX9_partOf_17 ?_
        refine G_HalfHere_now hX dX9_partOf_18 mF_X9_19 ?_
        refine G_Village_parts hX dX9_partOf_21 mF_X9_153 ?_
        refine J_iloadN hX rfl rfl dX9_partOf_24 ?_
        refine A_8 hX (by omega) dX9_partOf_25 ?_
        refine saN_3 hX dX9_partOf_26 ?_
        refine J_iloadN hX rfl rfl dX9_partOf_27 ?_
        refine J_tableIn (off := 74) (tgt := 102) hX (by omega) (by omega) rfl (by decide) dX9_partOf_28 ?_
        refine J_aloadN hX rfl rfl dX9_partOf_102 ?_
        refine G_Part_seen hX dX9_partOf_103 mF_X9_175 ?_
        exact J_iret hX hR0 dX9_partOf_106 (anX.yes rf v6 FrX.rf)
    · refine J_aloadN hX rfl rfl dX9_partOf_17 ?_
      refine G_HalfHere_now hX dX9_partOf_18 mF_X9_19 ?_
      refine G_Village_parts hX dX9_partOf_21 mF_X9_153 ?_
      refine J_iloadN hX rfl rfl dX9_partOf_24 ?_
      refine A_8 hX (by omega) dX9_partOf_25 ?_
      refine saN_3 hX dX9_partOf_26 ?_
      refine J_iloadN hX rfl rfl dX9_partOf_27 ?_
      refine J_tableOut (tgt := 107) hX (by omega) (by decide) dX9_partOf_28 ?_
      refine J_aloadN hX rfl rfl dX9_partOf_107 ?_
      refine J_bipush hX (by decide) dX9_partOf_108 ?_
      refine cV1w hX cb_X9_refuse mL_X9_72 dX9_partOf_110 (c_xrefuse (by omega) hf) ?_
      exact J_iret hX hR0 dX9_partOf_113 (anX.no (by unfold rfPartOf; rw [ifP_pos h1, if_neg hx]) (by decide))
  · skip
    refine J_aloadN hX rfl rfl dX9_partOf_11 ?_
    refine J_iconst hX (by decide) dX9_partOf_12 ?_
    refine cV1w hX cb_X9_refuse mL_X9_72 dX9_partOf_13 (c_xrefuse (by omega) hf) ?_
    exact J_iret hX hR0 dX9_partOf_16 (anX.no (by unfold rfPartOf; rw [ifP_neg h1]) (by decide))
theorem c_xthin (hR : RelV m 0 A) (hI : InvA A C D) (hf : few33 m) : K_X9_thin G [vr 0 0 0, vi p] m (pi (anX m (rfThin A p) (12 / aG A p 3) (FrX m))) := by
  refine E_X9_thin (fun X hX hR0 _ _ => ?_)
  have h0 := hI.1
  refine J_aloadN hX rfl rfl dX9_thin_0 ?_
  refine G_HalfHere_now hX dX9_thin_1 mF_X9_19 ?_
  refine J_iloadN hX rfl rfl dX9_thin_4 ?_
  refine cV1w hX cb_X7_hasPerson mL_X9_97 dX9_thin_5 (c_hasPerson hR) ?_
  refine J_ifb_ne (tgt := 17) hX (by decide) dX9_thin_8 (fun h1 => ?_) (fun h1 => ?_)
  · have hv := hR.2.2.1 p h1
    have hl := hI.2.2.1 p h1
    have hd : (12 : Int).tdiv (aG A p 3) = 12 / aG A p 3 := Int.tdiv_eq_ediv_of_nonneg (by omega)
    have hb1 := Int.ediv_nonneg (show (0 : Int) ≤ 12 by omega) (show 0 ≤ aG A p 3 by omega)
    have hb2 := Int.ediv_le_self (aG A p 3) (show (0 : Int) ≤ 12 by omega)
    refine J_aloadN hX rfl rfl dX9_thin_17 ?_
    refine G_HalfHere_now hX dX9_thin_18 mF_X9_19 ?_
    refine G_Village_persons hX dX9_thin_21 mF_X9_101 ?_
    refine J_iloadN hX rfl rfl dX9_thin_24 ?_
    refine A_6 hX (by omega) dX9_thin_25 ?_
    refine G_Person_least hX dX9_thin_26 mF_X9_110 ?_
    rw [hv.1]
    refine siN_2 hX dX9_thin_29 ?_
    refine J_iloadN hX rfl rfl dX9_thin_30 ?_
    refine J_iconst hX (by decide) dX9_thin_31 ?_
    refine J_icmp_ge (tgt := 39) hX (by decide) dX9_thin_32 (fun h2 => ?_) (fun h2 => ?_)
    · refine J_bipush hX (by decide) dX9_thin_39 ?_
      refine J_iloadN hX rfl rfl dX9_thin_41 ?_
      refine J_idiv hX (fun _ _ => by omega) (fun _ _ => by rw [hd]; omega) dX9_thin_42 ?_
      rw [hd]
      exact J_iret hX hR0 dX9_thin_43 (anX.yes (by unfold rfThin; rw [if_pos h1]) rfl FrX.rf)
    · omega
  · refine J_aloadN hX rfl rfl dX9_thin_11 ?_
    refine J_iconst hX (by decide) dX9_thin_12 ?_
    refine cV1w hX cb_X9_refuse mL_X9_72 dX9_thin_13 (c_xrefuse (by omega) hf) ?_
    exact J_iret hX hR0 dX9_thin_16 (anX.no (by unfold rfThin; rw [if_neg h1]) (by decide))
end Hf
