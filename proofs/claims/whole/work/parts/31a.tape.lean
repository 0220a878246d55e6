/-! ===== 31a: the class's Tape: reading ===== -/
section Tp
variable {G : GC} {X : JX} {m : HM} {κ p t τ w x y z i k q b h c n a : Int} {A N S g F B W T f : Int → Int} {H C D : Int}
def FrC (m m' : HM) : Prop := (∀ t v i, t ≠ 16 → t ≠ 14 → m' t v i = m t v i) ∧ ∀ k, k ≠ 2 → k ≠ 4 → m' 14 0 0 k = m 14 0 0 k
theorem FrC.rf : FrC m m := ⟨fun _ _ _ _ _ => rfl, fun _ _ _ => rfl⟩
theorem FrC.tr {m' m2 : HM} (h : FrC m m') (h2 : FrC m' m2) : FrC m m2 := ⟨fun t v i a b => (h2.1 t v i a b).trans (h.1 t v i a b), fun k a b => (h2.2 k a b).trans (h.2 k a b)⟩
theorem FrC.t16 {m' : HM} (h : FrC m m') {v i : Int} {f : Int → Int} : FrC m (upr m' 16 v i f) := ⟨fun t' v' i' a b => by
    rw [upr_tag a]
    exact h.1 t' v' i' a b, fun k a b => by
    rw [upr_tag (by decide)]
    exact h.2 k a b⟩
theorem FrC.f14 {m' : HM} (h : FrC m m') {k x : Int} (hk : k = 2 ∨ k = 4) {F : Int → Int} (hF : F = m' 14 0 0) : FrC m (upr m' 14 0 0 (st1 F k x)) := ⟨fun t' v' i' a b => by
    rw [upr_tag b]
    exact h.1 t' v' i' a b, fun j a b => by
    rw [upr_eq, st1_ne (by omega), hF]
    exact h.2 j a b⟩
/-- the tape -/
def TpC (m : HM) (T : Int → Int) (n : Int) : Prop := (m 14 0 0 1 = n ∧ ∀ j, inN j n → m 15 0 0 j = T j) ∧ (0 ≤ n ∧ n ≤ 64) ∧ ∀ j, inN j n → 0 ≤ T j ∧ T j ≤ 255
theorem TpC.fr {m' : HM} (h : TpC m T n) (hf : FrC m m') : TpC m' T n := ⟨⟨(hf.2 1 (by omega) (by omega)).trans h.1.1, fun j hj => by rw [hf.1 15 0 0 (by decide) (by decide)]; exact h.1.2 j hj⟩, h.2⟩
def NN (m : HM) : Prop := ∀ j, inN j 6 → 0 ≤ m 16 0 0 j
theorem NN.f14 (h : NN m) {f : Int → Int} : NN (upr m 14 0 0 f) := fun j hj => by rw [upr_tag (by decide)]; exact h j hj
theorem NN.t16 (h : NN m) {k x : Int} (hx : 0 ≤ x) : NN (upr m 16 0 0 (st1 (m 16 0 0) k x)) := fun j hj => by
  rw [upr_eq]
  by_cases q : j = k
  · rw [q, st1_eq]; exact hx
  · rw [st1_ne q]; exact h j hj
def RdC (m : HM) (T : Int → Int) (n a k : Int) (f : Int → Int) : Prop := TpC m T n ∧ m 14 0 0 2 = a ∧ m 14 0 0 4 = k ∧ (∀ j, inN j k → m 16 0 0 j = f j) ∧ NN m ∧ okR n a k f
theorem sgn_bC (h : TpC m T n) (ha : 0 ≤ a) : -1 ≤ sgn T n a ∧ sgn T n a ≤ 255 := by
  unfold sgn
  by_cases q : a < n
  · rw [if_pos q]
    have := h.2.2 a ⟨ha, q⟩
    omega
  · rw [if_neg q]; omega
theorem c_letter (h : TpC m T n) (h8 : m 14 0 0 2 = a) (ha : 0 ≤ a) : K_X6_letter G [vr 14 0 0] m (pw (vi (sgn T n a)) m) := by
  refine E_X6_letter (fun X hX hR0 _ _ => ?_)
  have h64 := h.2.1
  refine J_aloadN hX rfl rfl dX6_letter_0 ?_
  refine G_Tape_reading hX dX6_letter_1 mF_X6_26 ?_
  rw [h8]
  refine J_if_lt (tgt := 30) hX (by decide) dX6_letter_4 (fun h1 => ?_) (fun h1 => ?_)
  · omega
  · refine J_aloadN hX rfl rfl dX6_letter_7 ?_
    refine G_Tape_reading hX dX6_letter_8 mF_X6_26 ?_
    refine J_aloadN hX rfl rfl dX6_letter_11 ?_
    refine G_Tape_length hX dX6_letter_12 mF_X6_18 ?_
    rw [h8, h.1.1]
    refine J_icmp_ge (tgt := 30) hX (by decide) dX6_letter_15 (fun h2 => ?_) (fun h2 => ?_)
    · refine J_iconst hX (by decide) dX6_letter_30 ?_
      exact J_iret hX hR0 dX6_letter_31 (pwI (by unfold sgn; rw [if_neg (by omega)]))
    · refine J_aloadN hX rfl rfl dX6_letter_18 ?_
      refine G_Tape_letters hX dX6_letter_19 mF_X6_11 ?_
      refine J_aloadN hX rfl rfl dX6_letter_22 ?_
      refine G_Tape_reading hX dX6_letter_23 mF_X6_26 ?_
      rw [h8]
      refine L_15 hX (by omega) dX6_letter_26 ?_
      refine J_goto (tgt := 31) hX (by decide) dX6_letter_27 ?_
      rw [h.1.2 a ⟨ha, h2⟩]
      exact J_iret hX hR0 dX6_letter_31 (pwI (by unfold sgn; rw [if_pos h2]))
theorem c_isAtDigit (h : TpC m T n) (h8 : m 14 0 0 2 = a) (ha : 0 ≤ a) : K_X6_isAtDigit G [vr 14 0 0] m (pw (vi (bi (isDg T n a))) m) := by
  refine E_X6_isAtDigit (fun X hX hR0 _ _ => ?_)
  have h64 := h.2.1
  have K50 : ¬ isDg T n a → J G X 50 [vr 14 0 0] [] m := fun q => by
    refine J_iconst hX (by decide) dX6_isAtDigit_50 ?_
    exact J_zret hX hR0 dX6_isAtDigit_51 (Or.inl rfl) (pwb0 q)
  refine J_aloadN hX rfl rfl dX6_isAtDigit_0 ?_
  refine G_Tape_reading hX dX6_isAtDigit_1 mF_X6_26 ?_
  rw [h8]
  refine J_if_lt (tgt := 50) hX (by decide) dX6_isAtDigit_4 (fun h1 => ?_) (fun h1 => ?_)
  · omega
  · refine J_aloadN hX rfl rfl dX6_isAtDigit_7 ?_
    refine G_Tape_reading hX dX6_isAtDigit_8 mF_X6_26 ?_
    refine J_aloadN hX rfl rfl dX6_isAtDigit_11 ?_
    refine G_Tape_length hX dX6_isAtDigit_12 mF_X6_18 ?_
    rw [h8, h.1.1]
    refine J_icmp_ge (tgt := 50) hX (by decide) dX6_isAtDigit_15 (fun h2 => ?_) (fun h2 => ?_)
    · exact K50 (fun q => by have := q.1; omega)
    · refine J_aloadN hX rfl rfl dX6_isAtDigit_18 ?_
      refine G_Tape_letters hX dX6_isAtDigit_19 mF_X6_11 ?_
      refine J_aloadN hX rfl rfl dX6_isAtDigit_22 ?_
      refine G_Tape_reading hX dX6_isAtDigit_23 mF_X6_26 ?_
      rw [h8]
      refine L_15 hX (by omega) dX6_isAtDigit_26 ?_
      refine J_bipush hX (by decide) dX6_isAtDigit_27 ?_
      rw [h.1.2 a ⟨ha, h2⟩]
      refine J_icmp_lt (tgt := 50) hX (by decide) dX6_isAtDigit_29 (fun h3 => ?_) (fun h3 => ?_)
      · exact K50 (fun q => by have := q.2.1; omega)
      · refine J_aloadN hX rfl rfl dX6_isAtDigit_32 ?_
        refine G_Tape_letters hX dX6_isAtDigit_33 mF_X6_11 ?_
        refine J_aloadN hX rfl rfl dX6_isAtDigit_36 ?_
        refine G_Tape_reading hX dX6_isAtDigit_37 mF_X6_26 ?_
        rw [h8]
        refine L_15 hX (by omega) dX6_isAtDigit_40 ?_
        refine J_bipush hX (by decide) dX6_isAtDigit_41 ?_
        rw [h.1.2 a ⟨ha, h2⟩]
        refine J_icmp_gt (tgt := 50) hX (by decide) dX6_isAtDigit_43 (fun h4 => ?_) (fun h4 => ?_)
        · exact K50 (fun q => by have := q.2.2; omega)
        · refine J_iconst hX (by decide) dX6_isAtDigit_46 ?_
          refine J_goto (tgt := 51) hX (by decide) dX6_isAtDigit_47 ?_
          exact J_zret hX hR0 dX6_isAtDigit_51 (Or.inr rfl) (pwb1 ⟨h2, by omega, by omega⟩)
theorem c_say (hk : m 14 0 0 4 = k) (h6 : inN k 6) : K_X6_say G [vr 14 0 0, vi x] m (pv (upr (upr m 16 0 0 (st1 (m 16 0 0) k x)) 14 0 0 (st1 (m 14 0 0) 4 (k + 1)))) := by
  refine E_X6_say (fun X hX hR0 _ _ => ?_)
  refine J_aloadN hX rfl rfl dX6_say_0 ?_
  refine G_Tape_saidCount hX dX6_say_1 mF_X6_39 ?_
  refine J_aloadN hX rfl rfl dX6_say_4 ?_
  refine G_Tape_said hX dX6_say_5 mF_X6_15 ?_
  refine J_alenG (n := 6) hX rfl rfl dX6_say_8 ?_
  rw [hk]
  refine J_icmp_ge (tgt := 32) hX (by decide) dX6_say_9 (fun h1 => ?_) (fun h1 => ?_)
  · omega
  · refine J_aloadN hX rfl rfl dX6_say_12 ?_
    refine G_Tape_said hX dX6_say_13 mF_X6_15 ?_
    refine J_aloadN hX rfl rfl dX6_say_16 ?_
    refine G_Tape_saidCount hX dX6_say_17 mF_X6_39 ?_
    rw [hk]
    refine J_iloadN hX rfl rfl dX6_say_20 ?_
    refine S_16 hX (by omega) dX6_say_21 ?_
    refine J_aloadN hX rfl rfl dX6_say_22 ?_
    refine J_dup hX rfl dX6_say_23 ?_
    refine G_Tape_saidCount hX dX6_say_24 mF_X6_39 ?_
    simp only [upr_t, Nat.reduceBEq]
    rw [hk]
    refine J_iconst hX (by decide) dX6_say_27 ?_
    refine J_iadd hX (fun _ _ => by omega) dX6_say_28 ?_
    refine P_Tape_saidCount hX dX6_say_29 mF_X6_39 ?_
    exact J_vret hX hR0 dX6_say_32 (pvI (by simp only [upr_t, Nat.reduceBEq]))
def opC (m : HM) (T : Int → Int) (n a k : Int) (f : Int → Int) (t : List Tok) (d : Int) (r : Int) (m' : HM) : Prop := FrC m m' ∧ NN m' ∧ ((r = 1 ∧ ∃ a' f', (∀ l, pT T n (t ++ l) a k f = pT T n l a' (k + d) f') ∧ RdC m' T n a' (k + d) f') ∨ (r = 0 ∧ ∃ a' f', (∀ l, pT T n (t ++ l) a k f = (false, a', f')) ∧ m' 14 0 0 2 = a' ∧ 0 ≤ a' ∧ a' ≤ n))
theorem opC.no {m' : HM} {tk : List Tok} {d r : Int} (h : opC m T n a k f tk d r m') (hz : r = 0) : FrC m m' ∧ NN m' ∧ ∃ a' f', (∀ l, pT T n (tk ++ l) a k f = (false, a', f')) ∧ m' 14 0 0 2 = a' ∧ 0 ≤ a' ∧ a' ≤ n :=
  ⟨h.1, h.2.1, h.2.2.elim (fun q => absurd (q.1.symm.trans hz) (by decide)) (fun q => q.2)⟩
theorem opC.ok {m' : HM} {tk : List Tok} {d r : Int} (h : opC m T n a k f tk d r m') (hz : r ≠ 0) : FrC m m' ∧ ∃ a' f', (∀ l, pT T n (tk ++ l) a k f = pT T n l a' (k + d) f') ∧ RdC m' T n a' (k + d) f' :=
  ⟨h.1, h.2.2.elim (fun q => q.2) (fun q => absurd q.1 hz)⟩
theorem c_readSign (h : RdC m T n a k f) (hc : c ≠ -1) : K_X6_readSign G [vr 14 0 0, vi c] m (pi (opC m T n a k f [tkS c] 0)) := by
  refine E_X6_readSign (fun X hX hR0 _ _ => ?_)
  obtain ⟨hT, h8, h4, hs, hn, ho⟩ := h
  have h64 := hT.2.1
  have ha := ho.1
  refine J_aloadN hX rfl rfl dX6_readSign_0 ?_
  refine cV0w hX cb_X6_letter mL_X6_42 dX6_readSign_1 (c_letter hT h8 ha.1) ?_
  refine J_iloadN hX rfl rfl dX6_readSign_4 ?_
  refine J_icmp_eq (tgt := 10) hX (by decide) dX6_readSign_5 (fun h1 => ?_) (fun h1 => ?_)
  · have hin : a < n := sgn_in (by rw [h1]; exact hc)
    refine J_aloadN hX rfl rfl dX6_readSign_10 ?_
    refine J_dup hX rfl dX6_readSign_11 ?_
    refine G_Tape_reading hX dX6_readSign_12 mF_X6_26 ?_
    rw [h8]
    refine J_iconst hX (by decide) dX6_readSign_15 ?_
    refine J_iadd hX (fun _ _ => by omega) dX6_readSign_16 ?_
    refine P_Tape_reading hX dX6_readSign_17 mF_X6_26 ?_
    refine J_iconst hX (by decide) dX6_readSign_20 ?_
    refine J_zret hX hR0 dX6_readSign_21 (Or.inr rfl) ?_
    refine ⟨1, rfl, FrC.rf.f14 (Or.inl rfl) rfl, hn.f14, Or.inl ⟨rfl, a + 1, f, fun l => ?_, hT.fr (FrC.rf.f14 (Or.inl rfl) rfl), ?_, ?_, fun j hj => ?_, hn.f14, ⟨by omega, by have := ho.2.1; omega, ho.2.2⟩⟩⟩
    · show (if sgn T n a = c then pT T n l (a + 1) k f else (false, a, f)) = _
      rw [if_pos h1, Int.add_zero]
    · rw [upr_eq, st1_eq]
    · rw [upr_eq, st1_ne (by decide), h4, Int.add_zero]
    · rw [upr_tag (by decide)]
      exact hs j (by omega)
  · refine J_iconst hX (by decide) dX6_readSign_8 ?_
    refine J_zret hX hR0 dX6_readSign_9 (Or.inl rfl) ?_
    refine ⟨0, rfl, FrC.rf, hn, Or.inr ⟨rfl, a, f, fun l => ?_, h8, ha.1, ha.2⟩⟩
    exact if_neg h1
theorem l_readNumber {m0 : HM} {a0 : Int} {mx : Nat} (hX : Ok_X6_readNumber G X 3) (h : RdC m0 T n a0 k f) (hk : inN k 6) (hmx : mx ≤ 3) (hd0 : isDg T n a0) (h1mx : 1 ≤ mx) (hR0 : JRt G X (pi (opC m0 T n a0 k f [tkN mx] 1)) (some .boolean)) : ∀ i, 0 ≤ i → i ≤ (mx : Int) → ∀ M v, FrC m0 M → M 14 0 0 2 = a0 + i → M 14 0 0 4 = k → M 16 0 0 = m0 16 0 0 → (0 ≤ v ∧ (i = 0 → v = 0) ∧ (i ≤ 1 → v ≤ 9) ∧ (i ≤ 2 → v ≤ 99) ∧ v ≤ 999) → a0 + i ≤ n → dgN T n mx a0 = i + dgN T n (mx - i.toNat) (a0 + i) → vlN T n mx a0 0 = vlN T n (mx - i.toNat) (a0 + i) v → J G X 13 [vr 14 0 0, vi (mx : Int), vi v, vi i] [] M := by
  have h64 := h.1.2.1
  have ho := h.2.2.2.2.2
  have ha := ho.1
  have hdn : dgN T n mx a0 ≠ 0 := by
    obtain ⟨r, er⟩ : ∃ r, mx = r + 1 := ⟨mx - 1, by omega⟩
    rw [er]
    have e : dgN T n (r + 1) a0 = 1 + dgN T n r (a0 + 1) := if_pos hd0
    have := dgN_b T n r (a0 + 1)
    omega
  refine up_to (fun i h1 h2 ih M v hfr s2 s4 s16 hv hin hd hvl => ?_)
  have hT := h.1.fr hfr
  have hsb := sgn_bC (a := a0 + i) hT (by omega)
  have hNN : NN M := fun j hj => by rw [s16]; exact h.2.2.2.2.1 j hj
  have K54 : dgN T n (mx - i.toNat) (a0 + i) = 0 → vlN T n (mx - i.toNat) (a0 + i) v = v → J G X 54 [vr 14 0 0, vi (mx : Int), vi v, vi i] [] M := fun e1 e2 => by
    refine J_aloadN hX rfl rfl dX6_readNumber_54 ?_
    refine J_iloadN hX rfl rfl dX6_readNumber_55 ?_
    refine cV1v hX cb_X6_say mL_X6_61 dX6_readNumber_56 (c_say s4 hk) ?_
    refine J_iconst hX (by decide) dX6_readNumber_59 ?_
    refine J_zret hX hR0 dX6_readNumber_60 (Or.inr rfl) ?_
    have fr2 : FrC M (upr (upr M 16 0 0 (st1 (M 16 0 0) k v)) 14 0 0 (st1 (M 14 0 0) 4 (k + 1))) := FrC.rf.t16.f14 (Or.inr rfl) (by rw [upr_tag (by decide)])
    refine ⟨1, rfl, hfr.tr fr2, (hNN.t16 hv.1).f14, Or.inl ⟨rfl, a0 + dgN T n mx a0, st1 f k (vlN T n mx a0 0), fun l => if_neg hdn, hT.fr fr2, ?_, ?_, fun j hj => ?_, (hNN.t16 hv.1).f14, ho.num (by omega) mx⟩⟩
    · rw [upr_eq, st1_ne (by decide), s2]; omega
    · rw [upr_eq, st1_eq]
    · rw [upr_tag (by decide), upr_eq]
      by_cases q : j = k
      · rw [q, st1_eq, st1_eq, hvl, e2]
      · rw [st1_ne q, st1_ne q, s16]
        exact h.2.2.2.1 j (by omega)
  refine J_iloadN hX rfl rfl dX6_readNumber_13 ?_
  refine J_iloadN hX rfl rfl dX6_readNumber_14 ?_
  refine J_icmp_ge (tgt := 54) hX (by decide) dX6_readNumber_15 (fun h3 => ?_) (fun h3 => ?_)
  · have e : mx - i.toNat = 0 := by omega
    rw [e] at K54
    exact K54 rfl rfl
  · obtain ⟨r, er⟩ : ∃ r : Nat, mx - i.toNat = r + 1 := ⟨mx - i.toNat - 1, by omega⟩
    have er2 : mx - (i + 1).toNat = r := by omega
    rw [er] at K54 hd hvl
    refine J_aloadN hX rfl rfl dX6_readNumber_18 ?_
    refine cV0w hX cb_X6_isAtDigit mL_X6_58 dX6_readNumber_19 (c_isAtDigit hT s2 (by omega)) ?_
    refine J_ifb_eq (tgt := 54) hX (by decide) dX6_readNumber_22 (fun h4 => ?_) (fun h4 => ?_)
    · exact K54 (if_neg h4) (if_neg h4)
    · have hlt := h4.1
      have hd9 := h4.2
      have es : sgn T n (a0 + i) = T (a0 + i) := if_pos hlt
      have e1 : dgN T n (r + 1) (a0 + i) = 1 + dgN T n r (a0 + i + 1) := if_pos h4
      have e2 : vlN T n (r + 1) (a0 + i) v = vlN T n r (a0 + i + 1) (10 * v + T (a0 + i) - 48) := if_pos h4
      rw [e1] at hd
      rw [e2] at hvl
      refine J_bipush hX (by decide) dX6_readNumber_25 ?_
      refine J_iloadN hX rfl rfl dX6_readNumber_27 ?_
      refine J_imul hX (fun _ _ => by omega) dX6_readNumber_28 ?_
      refine J_aloadN hX rfl rfl dX6_readNumber_29 ?_
      refine cV0w hX cb_X6_letter mL_X6_42 dX6_readNumber_30 (c_letter hT s2 (by omega)) ?_
      rw [es]
      refine J_iadd hX (fun _ _ => by omega) dX6_readNumber_33 ?_
      refine J_bipush hX (by decide) dX6_readNumber_34 ?_
      refine J_isub hX (fun _ _ => by omega) dX6_readNumber_36 ?_
      refine siN_2 hX dX6_readNumber_37 ?_
      refine J_aloadN hX rfl rfl dX6_readNumber_38 ?_
      refine J_dup hX rfl dX6_readNumber_39 ?_
      refine G_Tape_reading hX dX6_readNumber_40 mF_X6_26 ?_
      rw [s2]
      refine J_iconst hX (by decide) dX6_readNumber_43 ?_
      refine J_iadd hX (fun _ _ => by omega) dX6_readNumber_44 ?_
      refine P_Tape_reading hX dX6_readNumber_45 mF_X6_26 ?_
      refine sinc_3 hX (fun _ => by omega) dX6_readNumber_48 ?_
      refine J_goto (tgt := 13) hX (by decide) dX6_readNumber_51 ?_
      refine ih (by omega) _ (10 * v + T (a0 + i) - 48) (hfr.f14 (Or.inl rfl) rfl) ?_ ?_ ?_ ?_ (by omega) ?_ ?_
      · rw [upr_eq, st1_eq]; omega
      · rw [upr_eq, st1_ne (by decide)]; exact s4
      · rw [upr_tag (by decide)]; exact s16
      · omega
      · rw [er2, show a0 + (i + 1) = a0 + i + 1 by omega]; omega
      · rw [er2, show a0 + (i + 1) = a0 + i + 1 by omega]; exact hvl
theorem c_readNumber {mx : Nat} (h : RdC m T n a k f) (hk : inN k 6) (hmx : 1 ≤ mx ∧ mx ≤ 3) : K_X6_readNumber G [vr 14 0 0, vi (mx : Int)] m (pi (opC m T n a k f [tkN mx] 1)) := by
  refine E_X6_readNumber (fun X hX hR0 _ _ => ?_)
  have ha := h.2.2.2.2.2.1
  refine J_aloadN hX rfl rfl dX6_readNumber_0 ?_
  refine cV0w hX cb_X6_isAtDigit mL_X6_58 dX6_readNumber_1 (c_isAtDigit h.1 h.2.1 ha.1) ?_
  refine J_ifb_ne (tgt := 9) hX (by decide) dX6_readNumber_4 (fun h1 => ?_) (fun h1 => ?_)
  · refine J_iconst hX (by decide) dX6_readNumber_9 ?_
    refine siN_2 hX dX6_readNumber_10 ?_
    refine J_iconst hX (by decide) dX6_readNumber_11 ?_
    refine siN_3 hX dX6_readNumber_12 ?_
    refine l_readNumber hX h hk hmx.2 h1 hmx.1 hR0 0 (by omega) (by omega) m 0 FrC.rf ?_ h.2.2.1 rfl (by omega) (by omega) ?_ ?_
    · rw [h.2.1]; omega
    · rw [show mx - (0 : Int).toNat = mx by omega, Int.add_zero, Int.zero_add]
    · rw [show mx - (0 : Int).toNat = mx by omega, Int.add_zero]
  · refine J_iconst hX (by decide) dX6_readNumber_7 ?_
    refine J_zret hX hR0 dX6_readNumber_8 (Or.inl rfl) ?_
    refine ⟨0, rfl, FrC.rf, h.2.2.2.2.1, Or.inr ⟨rfl, a, f, fun l => ?_, h.2.1, ha.1, ha.2⟩⟩
    obtain ⟨r, er⟩ : ∃ r, mx = r + 1 := ⟨mx - 1, by omega⟩
    rw [er]
    exact if_pos (if_neg h1)
/-- so many numbers with a sign behind -/
def rp (mx : Nat) : Nat → List Tok
  | 0 => []
  | j + 1 => rp mx j ++ [tkN mx, tkS 44]
def rq (mx : Nat) : Nat → List Tok
  | 0 => []
  | j + 1 => tkN mx :: tkS 44 :: rq mx j
theorem rp_rq (mx : Nat) (l : List Tok) : ∀ i j : Nat, i + j = 3 → rp mx 3 ++ l = rp mx i ++ (rq mx j ++ l) := fun i j h => by
  rcases (show (i = 0 ∧ j = 3) ∨ (i = 1 ∧ j = 2) ∨ (i = 2 ∧ j = 1) ∨ (i = 3 ∧ j = 0) by omega) with ⟨rfl, rfl⟩ | ⟨rfl, rfl⟩ | ⟨rfl, rfl⟩ | ⟨rfl, rfl⟩ <;> rfl
theorem l_readThree {m0 : HM} {mx : Nat} (hX : Ok_X6_readThree G X 4) (hmx : 1 ≤ mx ∧ mx ≤ 3) (hk : 0 ≤ k ∧ k ≤ 3) (hR0 : JRt G X (pi (opC m0 T n a k f (rp mx 3) 3)) (some .boolean)) : ∀ i, 0 ≤ i → i ≤ 3 → ∀ M a1 f1, FrC m0 M → RdC M T n a1 (k + i) f1 → (∀ l, pT T n (rp mx i.toNat ++ l) a k f = pT T n l a1 (k + i) f1) → J G X 2 [vr 14 0 0, vi (mx : Int), vi i] [] M := by
  refine up_to (fun i h1 h2 ih M a1 f1 hfr hR he => ?_)
  have KF : ∀ M' a' f', FrC m0 M' → NN M' → (∀ l, pT T n (rp mx 3 ++ l) a k f = (false, a', f')) → M' 14 0 0 2 = a' → (0 ≤ a' ∧ a' ≤ n) → J G X 24 [vr 14 0 0, vi (mx : Int), vi i] [] M' := fun M' a' f' g1 g2 g3 g4 g5 => by
    refine J_iconst hX (by decide) dX6_readThree_24 ?_
    refine J_zret hX hR0 dX6_readThree_25 (Or.inl rfl) ?_
    exact ⟨0, rfl, g1, g2, Or.inr ⟨rfl, a', f', g3, g4, g5⟩⟩
  refine J_iloadN hX rfl rfl dX6_readThree_2 ?_
  refine J_iconst hX (by decide) dX6_readThree_3 ?_
  refine J_icmp_ge (tgt := 32) hX (by decide) dX6_readThree_4 (fun h3 => ?_) (fun h3 => ?_)
  · have e : i = 3 := by omega
    subst e
    refine J_iconst hX (by decide) dX6_readThree_32 ?_
    refine J_zret hX hR0 dX6_readThree_33 (Or.inr rfl) ?_
    exact ⟨1, rfl, hfr, hR.2.2.2.2.1, Or.inl ⟨rfl, a1, f1, he, hR⟩⟩
  · obtain ⟨j, hj⟩ : ∃ j : Nat, i.toNat + (j + 1) = 3 := ⟨2 - i.toNat, by omega⟩
    refine J_aloadN hX rfl rfl dX6_readThree_7 ?_
    refine J_iloadN hX rfl rfl dX6_readThree_8 ?_
    refine cV1i hX cb_X6_readNumber mL_X6_45 dX6_readThree_9 (c_readNumber hR (by omega) hmx) (fun r m2 h2' => ?_)
    refine J_if_eq (tgt := 24) hX (by decide) dX6_readThree_12 (fun z1 => ?_) (fun z1 => ?_)
    · obtain ⟨g1, g2, a2, f2, e2, s2, b2⟩ := h2'.no z1
      exact KF m2 a2 f2 (hfr.tr g1) g2 (fun l => by rw [rp_rq mx l i.toNat (j + 1) hj, he]; exact e2 (tkS 44 :: (rq mx j ++ l))) s2 b2
    · obtain ⟨g1, a2, f2, e2, hR2⟩ := h2'.ok z1
      refine J_aloadN hX rfl rfl dX6_readThree_15 ?_
      refine J_bipush hX (by decide) dX6_readThree_16 ?_
      refine cV1i hX cb_X6_readSign mL_X6_49 dX6_readThree_18 (c_readSign hR2 (by decide)) (fun r3 m3 h3' => ?_)
      refine J_if_ne (tgt := 26) hX (by decide) dX6_readThree_21 (fun z2 => ?_) (fun z2 => ?_)
      · obtain ⟨g3, a3, f3, e3, hR3⟩ := h3'.ok z2
        refine sinc_2 hX (fun _ => by omega) dX6_readThree_26 ?_
        refine J_goto (tgt := 2) hX (by decide) dX6_readThree_29 ?_
        rw [show k + i + 1 + 0 = k + (i + 1) by omega] at hR3
        refine ih h3 m3 a3 f3 ((hfr.tr g1).tr g3) hR3 (fun l => ?_)
        rw [show (i + 1).toNat = i.toNat + 1 by omega]
        show pT T n ((rp mx i.toNat ++ [tkN mx, tkS 44]) ++ l) a k f = _
        rw [List.append_assoc, he]
        have q1 := e2 (tkS 44 :: l)
        have q2 := e3 l
        rw [show k + i + 1 + 0 = k + (i + 1) by omega] at q2
        exact q1.trans q2
      · obtain ⟨g3, g4, a3, f3, e3, s3, b3⟩ := h3'.no z2
        exact KF m3 a3 f3 ((hfr.tr g1).tr g3) g4 (fun l => by rw [rp_rq mx l i.toNat (j + 1) hj, he]; exact (e2 (tkS 44 :: (rq mx j ++ l))).trans (e3 (rq mx j ++ l))) s3 b3
theorem c_readThree {mx : Nat} (h : RdC m T n a k f) (hk : 0 ≤ k ∧ k ≤ 3) (hmx : 1 ≤ mx ∧ mx ≤ 3) : K_X6_readThree G [vr 14 0 0, vi (mx : Int)] m (pi (opC m T n a k f (rp mx 3) 3)) := by
  refine E_X6_readThree (fun X hX hR0 _ _ => ?_)
  refine J_iconst hX (by decide) dX6_readThree_0 ?_
  refine siN_2 hX dX6_readThree_1 ?_
  exact l_readThree hX hmx hk hR0 0 (by omega) (by omega) m a f FrC.rf (by rw [Int.add_zero]; exact h) (fun l => by rw [Int.add_zero]; rfl)
theorem kd_hit {i x : Int} (h : inN i 6) (e : klf i.toNat = x) : kdOf x = i := by
  rw [← e]
  rcases (show i = 0 ∨ i = 1 ∨ i = 2 ∨ i = 3 ∨ i = 4 ∨ i = 5 by omega) with rfl | rfl | rfl | rfl | rfl | rfl <;> rfl
theorem kd_miss {x : Int} (h : ∀ j, inN j 6 → klf j.toNat ≠ x) : kdOf x = -9 := by
  have h0 : (112 : Int) ≠ x := h 0 (by omega)
  have h1 : (119 : Int) ≠ x := h 1 (by omega)
  have h2 : (108 : Int) ≠ x := h 2 (by omega)
  have h3 : (116 : Int) ≠ x := h 3 (by omega)
  have h4 : (115 : Int) ≠ x := h 4 (by omega)
  have h5 : (104 : Int) ≠ x := h 5 (by omega)
  unfold kdOf
  rw [if_neg (Ne.symm h0), if_neg (Ne.symm h1), if_neg (Ne.symm h2), if_neg (Ne.symm h3), if_neg (Ne.symm h4), if_neg (Ne.symm h5)]
theorem l_readKind (hX : Ok_X6_readKind G X 3) (h : RdC m T n a k f) (hk : inN k 6) (hR0 : JRt G X (pi (opC m T n a k f [tkK] 1)) (some .boolean)) : ∀ i, 0 ≤ i → i ≤ 6 → (∀ j, inN j i → klf j.toNat ≠ sgn T n a) → J G X 7 [vr 14 0 0, vi (sgn T n a), vi i] [] m := by
  obtain ⟨hT, h8, h4, hs, hn, ho⟩ := h
  have h64 := hT.2.1
  have ha := ho.1
  refine up_to (fun i h1 h2 ih hm => ?_)
  refine J_iloadN hX rfl rfl dX6_readKind_7 ?_
  refine J_gets60 hX dX6_readKind_8 mF_X6_65 ?_
  refine J_alen60 hX dX6_readKind_11 ?_
  refine J_icmp_ge (tgt := 47) hX (by decide) dX6_readKind_12 (fun h3 => ?_) (fun h3 => ?_)
  · have e : kdOf (sgn T n a) = -9 := kd_miss (fun j hj => hm j (by omega))
    refine J_iconst hX (by decide) dX6_readKind_47 ?_
    refine J_zret hX hR0 dX6_readKind_48 (Or.inl rfl) ?_
    exact ⟨0, rfl, FrC.rf, hn, Or.inr ⟨rfl, a, f, fun l => if_pos (by omega), h8, ha.1, ha.2⟩⟩
  · refine J_gets60 hX dX6_readKind_15 mF_X6_65 ?_
    refine J_iloadN hX rfl rfl dX6_readKind_18 ?_
    refine J_cald60 hX (by omega) dX6_readKind_19 ?_
    refine J_iloadN hX rfl rfl dX6_readKind_20 ?_
    refine J_icmp_ne (tgt := 41) hX (by decide) dX6_readKind_21 (fun h5 => ?_) (fun h5 => ?_)
    · refine sinc_2 hX (fun _ => by omega) dX6_readKind_41 ?_
      refine J_goto (tgt := 7) hX (by decide) dX6_readKind_44 ?_
      exact ih h3 (fun j hj => by
        by_cases q : j = i
        · rw [q]; exact h5
        · exact hm j (by omega))
    · have e := kd_hit ⟨h1, h3⟩ h5
      have hin : a < n := sgn_in (kdOf_in (c := sgn T n a) (by omega))
      refine J_aloadN hX rfl rfl dX6_readKind_24 ?_
      refine J_dup hX rfl dX6_readKind_25 ?_
      refine G_Tape_reading hX dX6_readKind_26 mF_X6_26 ?_
      rw [h8]
      refine J_iconst hX (by decide) dX6_readKind_29 ?_
      refine J_iadd hX (fun _ _ => by omega) dX6_readKind_30 ?_
      refine P_Tape_reading hX dX6_readKind_31 mF_X6_26 ?_
      refine J_aloadN hX rfl rfl dX6_readKind_34 ?_
      refine J_iloadN hX rfl rfl dX6_readKind_35 ?_
      refine cV1v hX cb_X6_say mL_X6_61 dX6_readKind_36 (c_say (k := k) (by rw [upr_eq, st1_ne (by decide)]; exact h4) hk) ?_
      refine J_iconst hX (by decide) dX6_readKind_39 ?_
      refine J_zret hX hR0 dX6_readKind_40 (Or.inr rfl) ?_
      have fr1 : FrC m (upr m 14 0 0 (st1 (m 14 0 0) 2 (a + 1))) := FrC.rf.f14 (Or.inl rfl) rfl
      have fr2 : FrC m (upr (upr (upr m 14 0 0 (st1 (m 14 0 0) 2 (a + 1))) 16 0 0 (st1 (upr m 14 0 0 (st1 (m 14 0 0) 2 (a + 1)) 16 0 0) k i)) 14 0 0 (st1 (upr m 14 0 0 (st1 (m 14 0 0) 2 (a + 1)) 14 0 0) 4 (k + 1))) := fr1.t16.f14 (Or.inr rfl) (upr_tag (by decide)).symm
      refine ⟨1, rfl, fr2, (hn.f14.t16 h1).f14, Or.inl ⟨rfl, a + 1, st1 f k (kdOf (sgn T n a)), fun l => if_neg (by omega), hT.fr fr2, ?_, ?_, fun j hj => ?_, (hn.f14.t16 h1).f14, ⟨by omega, by omega, fun j => ?_⟩⟩⟩
      · rw [upr_eq, st1_ne (by decide), upr_eq, st1_eq]
      · rw [upr_eq, st1_eq]
      · rw [upr_t rfl, upr_eq]
        by_cases q : j = k
        · rw [q, st1_eq, st1_eq, e]
        · rw [st1_ne q, st1_ne q, upr_t rfl]
          exact hs j (by omega)
      · by_cases q : j = k
        · rw [q, st1_eq]; omega
        · rw [st1_ne q]; exact ho.2.2 j
theorem c_readKind (h : RdC m T n a k f) (hk : inN k 6) : K_X6_readKind G [vr 14 0 0] m (pi (opC m T n a k f [tkK] 1)) := by
  refine E_X6_readKind (fun X hX hR0 _ _ => ?_)
  refine J_aloadN hX rfl rfl dX6_readKind_0 ?_
  refine cV0w hX cb_X6_letter mL_X6_42 dX6_readKind_1 (c_letter h.1 h.2.1 h.2.2.2.2.2.1.1) ?_
  refine siN_1 hX dX6_readKind_4 ?_
  refine J_iconst hX (by decide) dX6_readKind_5 ?_
  refine siN_2 hX dX6_readKind_6 ?_
  exact l_readKind hX h hk hR0 0 (by omega) (by omega) (fun j hj => by omega)
def rsC (m : HM) (T : Int → Int) (n a : Int) (r : Int) (m' : HM) : Prop := FrC m m' ∧ NN m' ∧ ((r = 1 ∧ (stP T n a).1 = true ∧ RdC m' T n (stP T n a).2.1 (cntS (sgn T n a)) (stP T n a).2.2) ∨ (r = 0 ∧ (stP T n a).1 = false ∧ m' 14 0 0 2 = (stP T n a).2.1 ∧ 0 ≤ (stP T n a).2.1 ∧ (stP T n a).2.1 ≤ n))
theorem rsC.no {m' : HM} {a' : Int} {f' : Int → Int} (hf : FrC m m') (hn : NN m') (he : stP T n a = (false, a', f')) (h8 : m' 14 0 0 2 = a') (hb : 0 ≤ a' ∧ a' ≤ n) : pi (rsC m T n a) (some (vi 0)) m' := ⟨0, rfl, hf, hn, Or.inr ⟨rfl, by rw [he], by rw [he]; exact h8, by rw [he]; exact hb⟩⟩
theorem rsC.yes {m' : HM} {a' k' : Int} {f' : Int → Int} (hf : FrC m m') (he : stP T n a = (true, a', f')) (hk : k' = cntS (sgn T n a)) (hR : RdC m' T n a' k' f') : pi (rsC m T n a) (some (vi 1)) m' := ⟨1, rfl, hf, hR.2.2.2.2.1, Or.inl ⟨rfl, by rw [he], by rw [he, ← hk]; exact hR⟩⟩
theorem lk_no {x : Int} (h : x ≠ 107 ∧ x ≠ 110 ∧ x ≠ 112 ∧ x ≠ 119) : Op.lookupswitch.offset [(107, 173), (110, 41), (112, 132), (119, 74)] 229 x = 229 := by
  obtain ⟨h1, h2, h3, h4⟩ := h
  simp [Op.lookupswitch.offset, Ne.symm h1, Ne.symm h2, Ne.symm h3, Ne.symm h4, h1, h2, h3, h4]
theorem c_readStatement6 (hT : TpC m T n) (h8 : m 14 0 0 2 = a) (hb : 0 ≤ a ∧ a ≤ n) (hn : NN m) : K_X6_readStatement G [vr 14 0 0] m (pi (rsC m T n a)) := by
  refine E_X6_readStatement (fun X hX hR0 _ _ => ?_)
  have h64 := hT.2.1
  have hf0 : FrC m (upr m 14 0 0 (st1 (m 14 0 0) 4 0)) := FrC.rf.f14 (Or.inr rfl) rfl
  have h80 : upr m 14 0 0 (st1 (m 14 0 0) 4 0) 14 0 0 2 = a := by rw [upr_eq, st1_ne (by decide)]; exact h8
  have fr0 : FrC m (upr m 14 0 0 (st1 (st1 (m 14 0 0) 4 0) 2 (a + 1))) := ⟨fun t v i q1 q2 => by rw [upr_tag q2], fun k q1 q2 => by rw [upr_eq, st1_ne q1, st1_ne q2]⟩
  have hn0 : NN (upr m 14 0 0 (st1 (st1 (m 14 0 0) 4 0) 2 (a + 1))) := hn.f14
  have R0 : a < n → RdC (upr m 14 0 0 (st1 (st1 (m 14 0 0) 4 0) 2 (a + 1))) T n (a + 1) 0 zS := fun hlt => ⟨hT.fr fr0, by rw [upr_eq, st1_eq], by rw [upr_eq, st1_ne (by decide), st1_eq], fun j hj => by omega, hn0, by omega, by omega, fun j => by unfold zS; omega⟩
  have go : ∀ c : Int, sgn T n a = c → c ≠ -1 → a < n := fun c e hc => sgn_in (by rw [e]; exact hc)
  have K11 : J G X 11 [vr 14 0 0, vi (sgn T n a)] [vi (sgn T n a)] (upr m 14 0 0 (st1 (m 14 0 0) 4 0)) := by
    by_cases hn1 : sgn T n a = 110
    · have e := hn1
      have hlt := go 110 e (by decide)
      have hR0' := R0 hlt
      have he0 : stP T n a = pT T n nToks (a + 1) 0 zS := by unfold stP; rw [if_pos e]
      have hfr0 := fr0
      have KF : ∀ M a' f', FrC m M → NN M → stP T n a = (false, a', f') → M 14 0 0 2 = a' → (0 ≤ a' ∧ a' ≤ n) → J G X 83 [vr 14 0 0, vi 110] [] M := fun M a' f' g0 g1 g2 g3 g4 => by
        refine J_iconst hX (by decide) dX6_readStatement_83 ?_
        refine J_zret hX hR0 dX6_readStatement_84 (Or.inl rfl) ?_
        exact rsC.no g0 g1 g2 g3 g4
      rw [e]
      refine J_lookup (off := 41) (tgt := 52) hX rfl (by decide +kernel) (by decide) dX6_readStatement_11 ?_
      refine J_aloadN hX rfl rfl dX6_readStatement_52 ?_
      refine J_dup hX rfl dX6_readStatement_53 ?_
      refine G_Tape_reading hX dX6_readStatement_54 mF_X6_26 ?_
      rw [h80]
      refine J_iconst hX (by decide) dX6_readStatement_57 ?_
      refine J_iadd hX (fun _ _ => by omega) dX6_readStatement_58 ?_
      refine P_Tape_reading hX dX6_readStatement_59 mF_X6_26 ?_
      refine J_aloadN hX rfl rfl dX6_readStatement_62 ?_
      refine J_iconst hX (by decide) dX6_readStatement_63 ?_
      simp only [upr_upr, upr_eq]
      refine cV1i hX cb_X6_readNumber mL_X6_45 dX6_readStatement_64 (c_readNumber (k := 0) (mx := 1) hR0' (by omega) (by omega)) (fun r1 m1 h1 => ?_)
      refine J_if_eq (tgt := 83) hX (by decide) dX6_readStatement_67 (fun z1 => ?_) (fun z1 => ?_)
      · obtain ⟨g, gn, a2, f2, e2, s2, b2⟩ := h1.no z1
        exact KF m1 a2 f2 (hfr0.tr g) gn (he0.trans (e2 [tkS 59])) s2 b2
      · obtain ⟨g1, a1, f1, e1, q1⟩ := h1.ok z1
        have hfr1 := hfr0.tr g1
        have hR1' : RdC m1 T n a1 1 f1 := q1
        have he1 : stP T n a = pT T n [tkS 59] a1 1 f1 := he0.trans (e1 [tkS 59])
        refine J_aloadN hX rfl rfl dX6_readStatement_70 ?_
        refine J_bipush hX (by decide) dX6_readStatement_71 ?_
        refine cV1i hX cb_X6_readSign mL_X6_49 dX6_readStatement_73 (c_readSign (k := 1) hR1' (by decide)) (fun r2 m2 h2 => ?_)
        refine J_if_eq (tgt := 83) hX (by decide) dX6_readStatement_76 (fun z2 => ?_) (fun z2 => ?_)
        · obtain ⟨g, gn, a2, f2, e2, s2, b2⟩ := h2.no z2
          exact KF m2 a2 f2 (hfr1.tr g) gn (he1.trans (e2 [])) s2 b2
        · obtain ⟨g2, a2, f2, e2, q2⟩ := h2.ok z2
          have hfr2 := hfr1.tr g2
          have hR2' : RdC m2 T n a2 1 f2 := q2
          have he2 : stP T n a = pT T n [] a2 1 f2 := he1.trans (e2 [])
          refine J_iconst hX (by decide) dX6_readStatement_79 ?_
          refine J_goto (tgt := 84) hX (by decide) dX6_readStatement_80 ?_
          refine J_zret hX hR0 dX6_readStatement_84 (Or.inr rfl) ?_
          exact rsC.yes hfr2 he2 (by rw [e]; rfl) hR2'
    · by_cases hw1 : sgn T n a = 119
      · have e := hw1
        have hlt := go 119 e (by decide)
        have hR0' := R0 hlt
        have he0 : stP T n a = pT T n wToks (a + 1) 0 zS := by unfold stP; rw [if_neg (by omega), if_pos e]
        have hfr0 := fr0
        have KF : ∀ M a' f', FrC m M → NN M → stP T n a = (false, a', f') → M 14 0 0 2 = a' → (0 ≤ a' ∧ a' ≤ n) → J G X 141 [vr 14 0 0, vi 119] [] M := fun M a' f' g0 g1 g2 g3 g4 => by
          refine J_iconst hX (by decide) dX6_readStatement_141 ?_
          refine J_zret hX hR0 dX6_readStatement_142 (Or.inl rfl) ?_
          exact rsC.no g0 g1 g2 g3 g4
        rw [e]
        refine J_lookup (off := 74) (tgt := 85) hX rfl (by decide +kernel) (by decide) dX6_readStatement_11 ?_
        refine J_aloadN hX rfl rfl dX6_readStatement_85 ?_
        refine J_dup hX rfl dX6_readStatement_86 ?_
        refine G_Tape_reading hX dX6_readStatement_87 mF_X6_26 ?_
        rw [h80]
        refine J_iconst hX (by decide) dX6_readStatement_90 ?_
        refine J_iadd hX (fun _ _ => by omega) dX6_readStatement_91 ?_
        refine P_Tape_reading hX dX6_readStatement_92 mF_X6_26 ?_
        refine J_aloadN hX rfl rfl dX6_readStatement_95 ?_
        refine J_iconst hX (by decide) dX6_readStatement_96 ?_
        simp only [upr_upr, upr_eq]
        refine cV1i hX cb_X6_readNumber mL_X6_45 dX6_readStatement_97 (c_readNumber (k := 0) (mx := 1) hR0' (by omega) (by omega)) (fun r1 m1 h1 => ?_)
        refine J_if_eq (tgt := 141) hX (by decide) dX6_readStatement_100 (fun z1 => ?_) (fun z1 => ?_)
        · obtain ⟨g, gn, a2, f2, e2, s2, b2⟩ := h1.no z1
          exact KF m1 a2 f2 (hfr0.tr g) gn (he0.trans (e2 [tkN 1, tkS 44, tkN 2, tkS 59])) s2 b2
        · obtain ⟨g1, a1, f1, e1, q1⟩ := h1.ok z1
          have hfr1 := hfr0.tr g1
          have hR1' : RdC m1 T n a1 1 f1 := q1
          have he1 : stP T n a = pT T n [tkN 1, tkS 44, tkN 2, tkS 59] a1 1 f1 := he0.trans (e1 [tkN 1, tkS 44, tkN 2, tkS 59])
          refine J_aloadN hX rfl rfl dX6_readStatement_103 ?_
          refine J_iconst hX (by decide) dX6_readStatement_104 ?_
          refine cV1i hX cb_X6_readNumber mL_X6_45 dX6_readStatement_105 (c_readNumber (k := 1) (mx := 1) hR1' (by omega) (by omega)) (fun r2 m2 h2 => ?_)
          refine J_if_eq (tgt := 141) hX (by decide) dX6_readStatement_108 (fun z2 => ?_) (fun z2 => ?_)
          · obtain ⟨g, gn, a2, f2, e2, s2, b2⟩ := h2.no z2
            exact KF m2 a2 f2 (hfr1.tr g) gn (he1.trans (e2 [tkS 44, tkN 2, tkS 59])) s2 b2
          · obtain ⟨g2, a2, f2, e2, q2⟩ := h2.ok z2
            have hfr2 := hfr1.tr g2
            have hR2' : RdC m2 T n a2 2 f2 := q2
            have he2 : stP T n a = pT T n [tkS 44, tkN 2, tkS 59] a2 2 f2 := he1.trans (e2 [tkS 44, tkN 2, tkS 59])
            refine J_aloadN hX rfl rfl dX6_readStatement_111 ?_
            refine J_bipush hX (by decide) dX6_readStatement_112 ?_
            refine cV1i hX cb_X6_readSign mL_X6_49 dX6_readStatement_114 (c_readSign (k := 2) hR2' (by decide)) (fun r3 m3 h3 => ?_)
            refine J_if_eq (tgt := 141) hX (by decide) dX6_readStatement_117 (fun z3 => ?_) (fun z3 => ?_)
            · obtain ⟨g, gn, a2, f2, e2, s2, b2⟩ := h3.no z3
              exact KF m3 a2 f2 (hfr2.tr g) gn (he2.trans (e2 [tkN 2, tkS 59])) s2 b2
            · obtain ⟨g3, a3, f3, e3, q3⟩ := h3.ok z3
              have hfr3 := hfr2.tr g3
              have hR3' : RdC m3 T n a3 2 f3 := q3
              have he3 : stP T n a = pT T n [tkN 2, tkS 59] a3 2 f3 := he2.trans (e3 [tkN 2, tkS 59])
              refine J_aloadN hX rfl rfl dX6_readStatement_120 ?_
              refine J_iconst hX (by decide) dX6_readStatement_121 ?_
              refine cV1i hX cb_X6_readNumber mL_X6_45 dX6_readStatement_122 (c_readNumber (k := 2) (mx := 2) hR3' (by omega) (by omega)) (fun r4 m4 h4 => ?_)
              refine J_if_eq (tgt := 141) hX (by decide) dX6_readStatement_125 (fun z4 => ?_) (fun z4 => ?_)
              · obtain ⟨g, gn, a2, f2, e2, s2, b2⟩ := h4.no z4
                exact KF m4 a2 f2 (hfr3.tr g) gn (he3.trans (e2 [tkS 59])) s2 b2
              · obtain ⟨g4, a4, f4, e4, q4⟩ := h4.ok z4
                have hfr4 := hfr3.tr g4
                have hR4' : RdC m4 T n a4 3 f4 := q4
                have he4 : stP T n a = pT T n [tkS 59] a4 3 f4 := he3.trans (e4 [tkS 59])
                refine J_aloadN hX rfl rfl dX6_readStatement_128 ?_
                refine J_bipush hX (by decide) dX6_readStatement_129 ?_
                refine cV1i hX cb_X6_readSign mL_X6_49 dX6_readStatement_131 (c_readSign (k := 3) hR4' (by decide)) (fun r5 m5 h5 => ?_)
                refine J_if_eq (tgt := 141) hX (by decide) dX6_readStatement_134 (fun z5 => ?_) (fun z5 => ?_)
                · obtain ⟨g, gn, a2, f2, e2, s2, b2⟩ := h5.no z5
                  exact KF m5 a2 f2 (hfr4.tr g) gn (he4.trans (e2 [])) s2 b2
                · obtain ⟨g5, a5, f5, e5, q5⟩ := h5.ok z5
                  have hfr5 := hfr4.tr g5
                  have hR5' : RdC m5 T n a5 3 f5 := q5
                  have he5 : stP T n a = pT T n [] a5 3 f5 := he4.trans (e5 [])
                  refine J_iconst hX (by decide) dX6_readStatement_137 ?_
                  refine J_goto (tgt := 142) hX (by decide) dX6_readStatement_138 ?_
                  refine J_zret hX hR0 dX6_readStatement_142 (Or.inr rfl) ?_
                  exact rsC.yes hfr5 he5 (by rw [e]; rfl) hR5'
      · by_cases hp1 : sgn T n a = 112
        · have e := hp1
          have hlt := go 112 e (by decide)
          have hR0' := R0 hlt
          have he0 : stP T n a = pT T n pToks (a + 1) 0 zS := by unfold stP; rw [if_neg (by omega), if_neg (by omega), if_pos e]
          have hfr0 := fr0
          have KF : ∀ M a' f', FrC m M → NN M → stP T n a = (false, a', f') → M 14 0 0 2 = a' → (0 ≤ a' ∧ a' ≤ n) → J G X 182 [vr 14 0 0, vi 112] [] M := fun M a' f' g0 g1 g2 g3 g4 => by
            refine J_iconst hX (by decide) dX6_readStatement_182 ?_
            refine J_zret hX hR0 dX6_readStatement_183 (Or.inl rfl) ?_
            exact rsC.no g0 g1 g2 g3 g4
          rw [e]
          refine J_lookup (off := 132) (tgt := 143) hX rfl (by decide +kernel) (by decide) dX6_readStatement_11 ?_
          refine J_aloadN hX rfl rfl dX6_readStatement_143 ?_
          refine J_dup hX rfl dX6_readStatement_144 ?_
          refine G_Tape_reading hX dX6_readStatement_145 mF_X6_26 ?_
          rw [h80]
          refine J_iconst hX (by decide) dX6_readStatement_148 ?_
          refine J_iadd hX (fun _ _ => by omega) dX6_readStatement_149 ?_
          refine P_Tape_reading hX dX6_readStatement_150 mF_X6_26 ?_
          refine J_aloadN hX rfl rfl dX6_readStatement_153 ?_
          refine J_iconst hX (by decide) dX6_readStatement_154 ?_
          simp only [upr_upr, upr_eq]
          refine cV1i hX cb_X6_readThree mL_X6_52 dX6_readStatement_155 (c_readThree (k := 0) (mx := 2) hR0' (by omega) (by omega)) (fun r1 m1 h1 => ?_)
          refine J_if_eq (tgt := 182) hX (by decide) dX6_readStatement_158 (fun z1 => ?_) (fun z1 => ?_)
          · obtain ⟨g, gn, a2, f2, e2, s2, b2⟩ := h1.no z1
            exact KF m1 a2 f2 (hfr0.tr g) gn (he0.trans (e2 [tkN 2, tkS 59])) s2 b2
          · obtain ⟨g1, a1, f1, e1, q1⟩ := h1.ok z1
            have hfr1 := hfr0.tr g1
            have hR1' : RdC m1 T n a1 3 f1 := q1
            have he1 : stP T n a = pT T n [tkN 2, tkS 59] a1 3 f1 := he0.trans (e1 [tkN 2, tkS 59])
            refine J_aloadN hX rfl rfl dX6_readStatement_161 ?_
            refine J_iconst hX (by decide) dX6_readStatement_162 ?_
            refine cV1i hX cb_X6_readNumber mL_X6_45 dX6_readStatement_163 (c_readNumber (k := 3) (mx := 2) hR1' (by omega) (by omega)) (fun r2 m2 h2 => ?_)
            refine J_if_eq (tgt := 182) hX (by decide) dX6_readStatement_166 (fun z2 => ?_) (fun z2 => ?_)
            · obtain ⟨g, gn, a2, f2, e2, s2, b2⟩ := h2.no z2
              exact KF m2 a2 f2 (hfr1.tr g) gn (he1.trans (e2 [tkS 59])) s2 b2
            · obtain ⟨g2, a2, f2, e2, q2⟩ := h2.ok z2
              have hfr2 := hfr1.tr g2
              have hR2' : RdC m2 T n a2 4 f2 := q2
              have he2 : stP T n a = pT T n [tkS 59] a2 4 f2 := he1.trans (e2 [tkS 59])
              refine J_aloadN hX rfl rfl dX6_readStatement_169 ?_
              refine J_bipush hX (by decide) dX6_readStatement_170 ?_
              refine cV1i hX cb_X6_readSign mL_X6_49 dX6_readStatement_172 (c_readSign (k := 4) hR2' (by decide)) (fun r3 m3 h3 => ?_)
              refine J_if_eq (tgt := 182) hX (by decide) dX6_readStatement_175 (fun z3 => ?_) (fun z3 => ?_)
              · obtain ⟨g, gn, a2, f2, e2, s2, b2⟩ := h3.no z3
                exact KF m3 a2 f2 (hfr2.tr g) gn (he2.trans (e2 [])) s2 b2
              · obtain ⟨g3, a3, f3, e3, q3⟩ := h3.ok z3
                have hfr3 := hfr2.tr g3
                have hR3' : RdC m3 T n a3 4 f3 := q3
                have he3 : stP T n a = pT T n [] a3 4 f3 := he2.trans (e3 [])
                refine J_iconst hX (by decide) dX6_readStatement_178 ?_
                refine J_goto (tgt := 183) hX (by decide) dX6_readStatement_179 ?_
                refine J_zret hX hR0 dX6_readStatement_183 (Or.inr rfl) ?_
                exact rsC.yes hfr3 he3 (by rw [e]; rfl) hR3'
        · by_cases hk1 : sgn T n a = 107
          · have e := hk1
            have hlt := go 107 e (by decide)
            have hR0' := R0 hlt
            have he0 : stP T n a = pT T n kToks (a + 1) 0 zS := by unfold stP; rw [if_neg (by omega), if_neg (by omega), if_neg (by omega), if_pos e]
            have hfr0 := fr0
            have KF : ∀ M a' f', FrC m M → NN M → stP T n a = (false, a', f') → M 14 0 0 2 = a' → (0 ≤ a' ∧ a' ≤ n) → J G X 238 [vr 14 0 0, vi 107] [] M := fun M a' f' g0 g1 g2 g3 g4 => by
              refine J_iconst hX (by decide) dX6_readStatement_238 ?_
              refine J_zret hX hR0 dX6_readStatement_239 (Or.inl rfl) ?_
              exact rsC.no g0 g1 g2 g3 g4
            rw [e]
            refine J_lookup (off := 173) (tgt := 184) hX rfl (by decide +kernel) (by decide) dX6_readStatement_11 ?_
            refine J_aloadN hX rfl rfl dX6_readStatement_184 ?_
            refine J_dup hX rfl dX6_readStatement_185 ?_
            refine G_Tape_reading hX dX6_readStatement_186 mF_X6_26 ?_
            rw [h80]
            refine J_iconst hX (by decide) dX6_readStatement_189 ?_
            refine J_iadd hX (fun _ _ => by omega) dX6_readStatement_190 ?_
            refine P_Tape_reading hX dX6_readStatement_191 mF_X6_26 ?_
            refine J_aloadN hX rfl rfl dX6_readStatement_194 ?_
            simp only [upr_upr, upr_eq]
            refine cV0i hX cb_X6_readKind mL_X6_55 dX6_readStatement_195 (c_readKind (k := 0) hR0' (by omega)) (fun r1 m1 h1 => ?_)
            refine J_if_eq (tgt := 238) hX (by decide) dX6_readStatement_198 (fun z1 => ?_) (fun z1 => ?_)
            · obtain ⟨g, gn, a2, f2, e2, s2, b2⟩ := h1.no z1
              exact KF m1 a2 f2 (hfr0.tr g) gn (he0.trans (e2 [tkN 1, tkN 3, tkS 44, tkN 3, tkS 44, tkN 3, tkS 44, tkN 2, tkS 59])) s2 b2
            · obtain ⟨g1, a1, f1, e1, q1⟩ := h1.ok z1
              have hfr1 := hfr0.tr g1
              have hR1' : RdC m1 T n a1 1 f1 := q1
              have he1 : stP T n a = pT T n [tkN 1, tkN 3, tkS 44, tkN 3, tkS 44, tkN 3, tkS 44, tkN 2, tkS 59] a1 1 f1 := he0.trans (e1 [tkN 1, tkN 3, tkS 44, tkN 3, tkS 44, tkN 3, tkS 44, tkN 2, tkS 59])
              refine J_aloadN hX rfl rfl dX6_readStatement_201 ?_
              refine J_iconst hX (by decide) dX6_readStatement_202 ?_
              refine cV1i hX cb_X6_readNumber mL_X6_45 dX6_readStatement_203 (c_readNumber (k := 1) (mx := 1) hR1' (by omega) (by omega)) (fun r2 m2 h2 => ?_)
              refine J_if_eq (tgt := 238) hX (by decide) dX6_readStatement_206 (fun z2 => ?_) (fun z2 => ?_)
              · obtain ⟨g, gn, a2, f2, e2, s2, b2⟩ := h2.no z2
                exact KF m2 a2 f2 (hfr1.tr g) gn (he1.trans (e2 [tkN 3, tkS 44, tkN 3, tkS 44, tkN 3, tkS 44, tkN 2, tkS 59])) s2 b2
              · obtain ⟨g2, a2, f2, e2, q2⟩ := h2.ok z2
                have hfr2 := hfr1.tr g2
                have hR2' : RdC m2 T n a2 2 f2 := q2
                have he2 : stP T n a = pT T n [tkN 3, tkS 44, tkN 3, tkS 44, tkN 3, tkS 44, tkN 2, tkS 59] a2 2 f2 := he1.trans (e2 [tkN 3, tkS 44, tkN 3, tkS 44, tkN 3, tkS 44, tkN 2, tkS 59])
                refine J_aloadN hX rfl rfl dX6_readStatement_209 ?_
                refine J_iconst hX (by decide) dX6_readStatement_210 ?_
                refine cV1i hX cb_X6_readThree mL_X6_52 dX6_readStatement_211 (c_readThree (k := 2) (mx := 3) hR2' (by omega) (by omega)) (fun r3 m3 h3 => ?_)
                refine J_if_eq (tgt := 238) hX (by decide) dX6_readStatement_214 (fun z3 => ?_) (fun z3 => ?_)
                · obtain ⟨g, gn, a2, f2, e2, s2, b2⟩ := h3.no z3
                  exact KF m3 a2 f2 (hfr2.tr g) gn (he2.trans (e2 [tkN 2, tkS 59])) s2 b2
                · obtain ⟨g3, a3, f3, e3, q3⟩ := h3.ok z3
                  have hfr3 := hfr2.tr g3
                  have hR3' : RdC m3 T n a3 5 f3 := q3
                  have he3 : stP T n a = pT T n [tkN 2, tkS 59] a3 5 f3 := he2.trans (e3 [tkN 2, tkS 59])
                  refine J_aloadN hX rfl rfl dX6_readStatement_217 ?_
                  refine J_iconst hX (by decide) dX6_readStatement_218 ?_
                  refine cV1i hX cb_X6_readNumber mL_X6_45 dX6_readStatement_219 (c_readNumber (k := 5) (mx := 2) hR3' (by omega) (by omega)) (fun r4 m4 h4 => ?_)
                  refine J_if_eq (tgt := 238) hX (by decide) dX6_readStatement_222 (fun z4 => ?_) (fun z4 => ?_)
                  · obtain ⟨g, gn, a2, f2, e2, s2, b2⟩ := h4.no z4
                    exact KF m4 a2 f2 (hfr3.tr g) gn (he3.trans (e2 [tkS 59])) s2 b2
                  · obtain ⟨g4, a4, f4, e4, q4⟩ := h4.ok z4
                    have hfr4 := hfr3.tr g4
                    have hR4' : RdC m4 T n a4 6 f4 := q4
                    have he4 : stP T n a = pT T n [tkS 59] a4 6 f4 := he3.trans (e4 [tkS 59])
                    refine J_aloadN hX rfl rfl dX6_readStatement_225 ?_
                    refine J_bipush hX (by decide) dX6_readStatement_226 ?_
                    refine cV1i hX cb_X6_readSign mL_X6_49 dX6_readStatement_228 (c_readSign (k := 6) hR4' (by decide)) (fun r5 m5 h5 => ?_)
                    refine J_if_eq (tgt := 238) hX (by decide) dX6_readStatement_231 (fun z5 => ?_) (fun z5 => ?_)
                    · obtain ⟨g, gn, a2, f2, e2, s2, b2⟩ := h5.no z5
                      exact KF m5 a2 f2 (hfr4.tr g) gn (he4.trans (e2 [])) s2 b2
                    · obtain ⟨g5, a5, f5, e5, q5⟩ := h5.ok z5
                      have hfr5 := hfr4.tr g5
                      have hR5' : RdC m5 T n a5 6 f5 := q5
                      have he5 : stP T n a = pT T n [] a5 6 f5 := he4.trans (e5 [])
                      refine J_iconst hX (by decide) dX6_readStatement_234 ?_
                      refine J_goto (tgt := 239) hX (by decide) dX6_readStatement_235 ?_
                      refine J_zret hX hR0 dX6_readStatement_239 (Or.inr rfl) ?_
                      exact rsC.yes hfr5 he5 (by rw [e]; rfl) hR5'
          · have es : stP T n a = (false, a, zS) := by unfold stP; rw [if_neg hn1, if_neg hw1, if_neg hp1, if_neg hk1]
            refine J_lookup (off := 229) (tgt := 240) hX rfl (lk_no ⟨hk1, hn1, hp1, hw1⟩) (by decide) dX6_readStatement_11 ?_
            refine J_iconst hX (by decide) dX6_readStatement_240 ?_
            refine J_zret hX hR0 dX6_readStatement_241 (Or.inl rfl) ?_
            exact rsC.no hf0 hn.f14 es h80 hb
  refine J_aloadN hX rfl rfl dX6_readStatement_0 ?_
  refine J_iconst hX (by decide) dX6_readStatement_1 ?_
  refine P_Tape_saidCount hX dX6_readStatement_2 mF_X6_39 ?_
  refine J_aloadN hX rfl rfl dX6_readStatement_5 ?_
  refine cV0w hX cb_X6_letter mL_X6_42 dX6_readStatement_6 (c_letter (hT.fr hf0) h80 hb.1) ?_
  refine siN_1 hX dX6_readStatement_9 ?_
  refine J_iloadN hX rfl rfl dX6_readStatement_10 ?_
  exact K11
end Tp
