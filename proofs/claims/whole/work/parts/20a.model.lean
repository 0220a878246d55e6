/-! ===== 20a: the reference's small methods ===== -/
/-- what the reference's gatherings may change -/
def FrM (T : Nat → Prop) (m m' : HM) : Prop := (∀ t v i, ¬ T t → t ≠ 40 → m' t v i = m t v i) ∧ (∀ k, ¬ (11 ≤ k ∧ k ≤ 13) → m' 40 0 0 k = m 40 0 0 k)
theorem FrM.rf {T : Nat → Prop} {m : HM} : FrM T m m := ⟨fun _ _ _ _ _ => rfl, fun _ _ => rfl⟩
theorem FrM.tr {T : Nat → Prop} {m m' m2 : HM} (h : FrM T m m') (h2 : FrM T m' m2) : FrM T m m2 := ⟨fun t v i a b => (h2.1 t v i a b).trans (h.1 t v i a b), fun k a => (h2.2 k a).trans (h.2 k a)⟩
theorem FrM.mono {T T' : Nat → Prop} {m m' : HM} (h : FrM T m m') (hT : ∀ t, T t → T' t) : FrM T' m m' := ⟨fun t v i a b => h.1 t v i (fun q => a (hT t q)) b, h.2⟩
theorem FrM.up {T : Nat → Prop} {m m' : HM} (h : FrM T m m') {t : Nat} (ht : T t) (h40 : t ≠ 40) {v i : Int} {f : Int → Int} : FrM T m (upr m' t v i f) := ⟨fun t' v' i' a b => by
    rw [upr_tag (show t' ≠ t from fun q => a (by rw [q]; exact ht))]
    exact h.1 t' v' i' a b, fun k a => by
    rw [upr_tag (Ne.symm h40)]
    exact h.2 k a⟩
theorem FrM.fld {T : Nat → Prop} {m m' : HM} (h : FrM T m m') {k x : Int} (hk : 11 ≤ k ∧ k ≤ 13) : FrM T m (upr m' 40 0 0 (st1 (m' 40 0 0) k x)) := ⟨fun t' v' i' a b => by
    rw [upr_tag b]
    exact h.1 t' v' i' a b, fun j a => by
    rw [upr_eq, st1_ne (show j ≠ k from fun q => a (by rw [q]; exact hk))]
    exact h.2 j a⟩
def T48 (t : Nat) : Prop := t = 48
def RelM (m : HM) (S : Int → Int) (H : Int) : Prop := m 40 0 0 11 = H ∧ ∀ k, inN k 3 → m 48 0 0 k = S k
section Mod
variable {G : GC} {X : JX} {m : HM} {κ p t τ w x y z i k : Int} {A N S g : Int → Int} {H C D : Int}
theorem c_isIn : K_X10_isIn G [vi x, vi y] m (pw (vi (bi (inN x y))) m) := by
  refine E_X10_isIn (fun X hX hR0 _ _ => ?_)
  refine J_iloadN hX rfl rfl dX10_isIn_0 ?_
  refine J_if_lt (tgt := 13) hX (by decide) dX10_isIn_1 (fun h1 => ?_) (fun h1 => ?_)
  · refine J_iconst hX (by decide) dX10_isIn_13 ?_
    exact J_zret hX hR0 dX10_isIn_14 (Or.inl rfl) (pwb0 (fun q => by have := q.1; omega))
  · refine J_iloadN hX rfl rfl dX10_isIn_4 ?_
    refine J_iloadN hX rfl rfl dX10_isIn_5 ?_
    refine J_icmp_ge (tgt := 13) hX (by decide) dX10_isIn_6 (fun h2 => ?_) (fun h2 => ?_)
    · refine J_iconst hX (by decide) dX10_isIn_13 ?_
      exact J_zret hX hR0 dX10_isIn_14 (Or.inl rfl) (pwb0 (fun q => by have := q.2; omega))
    · refine J_iconst hX (by decide) dX10_isIn_9 ?_
      refine J_goto (tgt := 14) hX (by decide) dX10_isIn_10 ?_
      exact J_zret hX hR0 dX10_isIn_14 (Or.inr rfl) (pwb1 ⟨h1, h2⟩)
theorem c_within : K_X10_within G [vi x, vi y, vi z] m (pw (vi (if x < y then -4 else if z < x then -6 else 0)) m) := by
  refine E_X10_within (fun X hX hR0 _ _ => ?_)
  refine J_iloadN hX rfl rfl dX10_within_0 ?_
  refine J_iloadN hX rfl rfl dX10_within_1 ?_
  refine J_icmp_ge (tgt := 10) hX (by decide) dX10_within_2 (fun h1 => ?_) (fun h1 => ?_)
  · refine J_iloadN hX rfl rfl dX10_within_10 ?_
    refine J_iloadN hX rfl rfl dX10_within_11 ?_
    refine J_icmp_le (tgt := 20) hX (by decide) dX10_within_12 (fun h2 => ?_) (fun h2 => ?_)
    · refine J_iconst hX (by decide) dX10_within_20 ?_
      exact J_iret hX hR0 dX10_within_21 (pwI (by rw [if_neg (by omega), if_neg (by omega)]))
    · refine J_bipush hX (by decide) dX10_within_15 ?_
      refine J_goto (tgt := 21) hX (by decide) dX10_within_17 ?_
      exact J_iret hX hR0 dX10_within_21 (pwI (by rw [if_neg (by omega), if_pos h2]))
  · refine J_bipush hX (by decide) dX10_within_5 ?_
    refine J_goto (tgt := 21) hX (by decide) dX10_within_7 ?_
    exact J_iret hX hR0 dX10_within_21 (pwI (by rw [if_pos h1]))
/-- a refusal is counted -/
def refM (m : HM) (t : Nat) (x : Int) : HM := upr m t 0 0 (st1 (m t 0 0) (-x) (m t 0 0 (-x) + 1))
theorem c_mrefuse (hx : -6 ≤ x ∧ x ≤ -1) (hb : m 41 0 0 (-x) < 2000000000) : K_X10_refuse G [vr 40 0 0, vi x] m (pw (vi x) (refM m 41 x)) := by
  refine E_X10_refuse (fun X hX hR0 hr _ => ?_)
  have := hr 41 0 0 (-x)
  refine J_aloadN hX rfl rfl dX10_refuse_0 ?_
  refine G_HalfHereModel_refusals hX dX10_refuse_1 mF_X10_7 ?_
  refine J_iloadN hX rfl rfl dX10_refuse_4 ?_
  refine J_ineg hX (fun _ => by omega) dX10_refuse_5 ?_
  refine J_dup2 hX rfl rfl dX10_refuse_6 ?_
  refine L_41 hX (by omega) dX10_refuse_7 ?_
  refine J_iconst hX (by decide) dX10_refuse_8 ?_
  refine J_iadd hX (fun _ _ => by omega) dX10_refuse_9 ?_
  refine S_41 hX (by omega) dX10_refuse_10 ?_
  refine J_iloadN hX rfl rfl dX10_refuse_11 ?_
  exact J_iret hX hR0 dX10_refuse_12 (pwM rfl rfl)
theorem c_isSpot (hA : m 42 0 0 = A) : K_X10_isSpot G [vr 40 0 0, vi x] m (pw (vi (bi (inN x (A 0)))) m) := by
  refine E_X10_isSpot (fun X hX hR0 _ _ => ?_)
  refine J_iloadN hX rfl rfl dX10_isSpot_0 ?_
  refine J_aloadN hX rfl rfl dX10_isSpot_1 ?_
  refine G_HalfHereModel_s hX dX10_isSpot_2 mF_X10_13 ?_
  refine J_iconst hX (by decide) dX10_isSpot_5 ?_
  refine L_42 hX (by omega) dX10_isSpot_6 ?_
  rw [hA]
  refine cS2w hX cb_X10_isIn mL_X10_46 dX10_isSpot_7 (c_isIn) ?_
  exact J_zret hX hR0 dX10_isSpot_10 (bi_01 _) (⟨rfl, rfl⟩)
theorem c_isPerson (hA : m 42 0 0 = A) : K_X10_isPerson G [vr 40 0 0, vi x] m (pw (vi (bi (inN x (A 1)))) m) := by
  refine E_X10_isPerson (fun X hX hR0 _ _ => ?_)
  refine J_iloadN hX rfl rfl dX10_isPerson_0 ?_
  refine J_aloadN hX rfl rfl dX10_isPerson_1 ?_
  refine G_HalfHereModel_s hX dX10_isPerson_2 mF_X10_13 ?_
  refine J_iconst hX (by decide) dX10_isPerson_5 ?_
  refine L_42 hX (by omega) dX10_isPerson_6 ?_
  rw [hA]
  refine cS2w hX cb_X10_isIn mL_X10_46 dX10_isPerson_7 (c_isIn) ?_
  exact J_zret hX hR0 dX10_isPerson_10 (bi_01 _) (⟨rfl, rfl⟩)
theorem c_isWork (hA : m 42 0 0 = A) : K_X10_isWork G [vr 40 0 0, vi x] m (pw (vi (bi (inN x (A 2)))) m) := by
  refine E_X10_isWork (fun X hX hR0 _ _ => ?_)
  refine J_iloadN hX rfl rfl dX10_isWork_0 ?_
  refine J_aloadN hX rfl rfl dX10_isWork_1 ?_
  refine G_HalfHereModel_s hX dX10_isWork_2 mF_X10_13 ?_
  refine J_iconst hX (by decide) dX10_isWork_5 ?_
  refine L_42 hX (by omega) dX10_isWork_6 ?_
  rw [hA]
  refine cS2w hX cb_X10_isIn mL_X10_46 dX10_isWork_7 (c_isIn) ?_
  exact J_zret hX hR0 dX10_isWork_10 (bi_01 _) (⟨rfl, rfl⟩)
theorem c_get (hA : m 42 0 0 = A) (hp : inN p 6) (hk : inN k 4) : K_X10_get G [vr 40 0 0, vi p, vi k] m (pw (vi (aG A p k)) m) := by
  refine E_X10_get (fun X hX hR0 _ _ => ?_)
  refine J_aloadN hX rfl rfl dX10_get_0 ?_
  refine G_HalfHereModel_s hX dX10_get_1 mF_X10_13 ?_
  refine J_bipush hX (by decide) dX10_get_4 ?_
  refine J_iconst hX (by decide) dX10_get_6 ?_
  refine J_iloadN hX rfl rfl dX10_get_7 ?_
  refine J_imul hX (fun _ _ => by omega) dX10_get_8 ?_
  refine J_iadd hX (fun _ _ => by omega) dX10_get_9 ?_
  refine J_iloadN hX rfl rfl dX10_get_10 ?_
  refine J_iadd hX (fun _ _ => by omega) dX10_get_11 ?_
  refine L_42 hX (by omega) dX10_get_12 ?_
  exact J_iret hX hR0 dX10_get_13 (pwI (by rw [hA]; rfl))
theorem c_of (hA : m 42 0 0 = A) (hp : inN p 6) (hk : inN k 6) : K_X10_of G [vr 40 0 0, vi p, vi k] m (pw (vi (aW A p k)) m) := by
  refine E_X10_of (fun X hX hR0 _ _ => ?_)
  refine J_aloadN hX rfl rfl dX10_of_0 ?_
  refine G_HalfHereModel_s hX dX10_of_1 mF_X10_13 ?_
  refine J_bipush hX (by decide) dX10_of_4 ?_
  refine J_bipush hX (by decide) dX10_of_6 ?_
  refine J_iloadN hX rfl rfl dX10_of_8 ?_
  refine J_imul hX (fun _ _ => by omega) dX10_of_9 ?_
  refine J_iadd hX (fun _ _ => by omega) dX10_of_10 ?_
  refine J_iloadN hX rfl rfl dX10_of_11 ?_
  refine J_iadd hX (fun _ _ => by omega) dX10_of_12 ?_
  refine L_42 hX (by omega) dX10_of_13 ?_
  exact J_iret hX hR0 dX10_of_14 (pwI (by rw [hA]; rfl))
theorem c_part (hA : m 42 0 0 = A) (hp : inN p 24) (hk : inN k 7) : K_X10_part G [vr 40 0 0, vi p, vi k] m (pw (vi (aP A p k)) m) := by
  refine E_X10_part (fun X hX hR0 _ _ => ?_)
  refine J_aloadN hX rfl rfl dX10_part_0 ?_
  refine G_HalfHereModel_s hX dX10_part_1 mF_X10_13 ?_
  refine J_bipush hX (by decide) dX10_part_4 ?_
  refine J_bipush hX (by decide) dX10_part_6 ?_
  refine J_iloadN hX rfl rfl dX10_part_8 ?_
  refine J_imul hX (fun _ _ => by omega) dX10_part_9 ?_
  refine J_iadd hX (fun _ _ => by omega) dX10_part_10 ?_
  refine J_iloadN hX rfl rfl dX10_part_11 ?_
  refine J_iadd hX (fun _ _ => by omega) dX10_part_12 ?_
  refine L_42 hX (by omega) dX10_part_13 ?_
  exact J_iret hX hR0 dX10_part_14 (pwI (by rw [hA]; rfl))
theorem c_puts (hp : inN p 24) (hk : inN k 7) : K_X10_puts G [vr 40 0 0, vi p, vi k, vi x] m (pv (upr m 42 0 0 (st1 (m 42 0 0) (99 + 7 * p + k) x))) := by
  refine E_X10_puts (fun X hX hR0 _ _ => ?_)
  refine J_aloadN hX rfl rfl dX10_puts_0 ?_
  refine G_HalfHereModel_s hX dX10_puts_1 mF_X10_13 ?_
  refine J_bipush hX (by decide) dX10_puts_4 ?_
  refine J_bipush hX (by decide) dX10_puts_6 ?_
  refine J_iloadN hX rfl rfl dX10_puts_8 ?_
  refine J_imul hX (fun _ _ => by omega) dX10_puts_9 ?_
  refine J_iadd hX (fun _ _ => by omega) dX10_puts_10 ?_
  refine J_iloadN hX rfl rfl dX10_puts_11 ?_
  refine J_iadd hX (fun _ _ => by omega) dX10_puts_12 ?_
  refine J_iloadN hX rfl rfl dX10_puts_13 ?_
  refine S_42 hX (by omega) dX10_puts_14 ?_
  exact J_vret hX hR0 dX10_puts_15 (pvI rfl)
theorem c_isPart (hA : m 42 0 0 = A) : K_X10_isPart G [vr 40 0 0, vi x] m (pw (vi (bi (aIs A x))) m) := by
  refine E_X10_isPart (fun X hX hR0 _ _ => ?_)
  refine J_iloadN hX rfl rfl dX10_isPart_0 ?_
  refine J_bipush hX (by decide) dX10_isPart_1 ?_
  refine cS2w hX cb_X10_isIn mL_X10_46 dX10_isPart_3 (c_isIn) ?_
  refine J_ifb_eq (tgt := 22) hX (by decide) dX10_isPart_6 (fun h1 => ?_) (fun h1 => ?_)
  · refine J_iconst hX (by decide) dX10_isPart_22 ?_
    exact J_zret hX hR0 dX10_isPart_23 (Or.inl rfl) (pwb0 (fun q => h1 ⟨q.1, q.2.1⟩))
  · refine J_aloadN hX rfl rfl dX10_isPart_9 ?_
    refine J_iloadN hX rfl rfl dX10_isPart_10 ?_
    refine J_iconst hX (by decide) dX10_isPart_11 ?_
    refine cV2w hX cb_X10_part mL_X10_50 dX10_isPart_12 (c_part hA h1 (by omega)) ?_
    refine J_if_le (tgt := 22) hX (by decide) dX10_isPart_15 (fun h2 => ?_) (fun h2 => ?_)
    · refine J_iconst hX (by decide) dX10_isPart_22 ?_
      exact J_zret hX hR0 dX10_isPart_23 (Or.inl rfl) (pwb0 (fun q => by have := q.2.2; omega))
    · refine J_iconst hX (by decide) dX10_isPart_18 ?_
      refine J_goto (tgt := 23) hX (by decide) dX10_isPart_19 ?_
      exact J_zret hX hR0 dX10_isPart_23 (Or.inr rfl) (pwb1 ⟨h1.1, h1.2, h2⟩)
theorem aIh42 : aI 42 = true := rfl
theorem aIh44 : aI 44 = true := rfl
theorem l_free {T : Nat} (hT : T = 42 ∨ T = 44) (hX : Ok_X10_free G X 2) (hA : m T 0 0 = A) (hI : InvA A C D) (hR0 : JRt G X (pw (vi (fpA A (-9))) m) (some .int)) : ∀ i, 0 ≤ i → i ≤ 24 → fpA A (-9) = fstI (fun i => ¬ aIs A i) (-9) i 24 → J G X 2 [vr T 0 0, vi i] [] m := by
  have aIh : aI T = true := by rcases hT with rfl | rfl <;> rfl
  have al : ((aln T : Nat) : Int) = 267 := by rcases hT with rfl | rfl <;> rfl
  refine up_to (fun i h1 h2 ih he => ?_)
  refine J_iloadN hX rfl rfl dX10_free_2 ?_
  refine J_bipush hX (by decide) dX10_free_3 ?_
  refine J_icmp_ge (tgt := 28) hX (by decide) dX10_free_5 (fun h3 => ?_) (fun h3 => ?_)
  · refine J_bipush hX (by decide) dX10_free_28 ?_
    exact J_iret hX hR0 dX10_free_30 (pwI (by rw [he, fstI_0 h3]))
  · have hi := (hI.2.2.2.2.1 i ⟨h1, h3⟩).1
    have e : m T 0 0 (99 + 7 * i) = aP A i 0 := by rw [hA]; unfold aP; rw [Int.add_zero]
    refine J_aloadN hX rfl rfl dX10_free_8 ?_
    refine J_bipush hX (by decide) dX10_free_9 ?_
    refine J_bipush hX (by decide) dX10_free_11 ?_
    refine J_iloadN hX rfl rfl dX10_free_13 ?_
    refine J_imul hX (fun _ _ => by omega) dX10_free_14 ?_
    refine J_iadd hX (fun _ _ => by omega) dX10_free_15 ?_
    refine J_ialdG hX aIh (by omega) dX10_free_16 ?_
    rw [e]
    refine J_if_ne (tgt := 22) hX (by decide) dX10_free_17 (fun h4 => ?_) (fun h4 => ?_)
    · refine sinc_1 hX (fun _ => by omega) dX10_free_22 ?_
      refine J_goto (tgt := 2) hX (by decide) dX10_free_25 ?_
      exact ih h3 (by rw [he, fstI_f h3 (fun q => q ⟨h1, h3, by omega⟩)])
    · refine J_iloadN hX rfl rfl dX10_free_20 ?_
      exact J_iret hX hR0 dX10_free_21 (pwI (by rw [he, fstI_t h3 (fun q => by have := q.2.2; omega)]))
theorem c_free {T : Nat} (hT : T = 42 ∨ T = 44) (hA : m T 0 0 = A) (hI : InvA A C D) : K_X10_free G [vr T 0 0] m (pw (vi (fpA A (-9))) m) := by
  refine E_X10_free (fun X hX hR0 _ _ => ?_)
  refine J_iconst hX (by decide) dX10_free_0 ?_
  refine siN_1 hX dX10_free_1 ?_
  exact l_free hT hX hA hI hR0 0 (by omega) (by omega) rfl
theorem l_bits (hX : Ok_X10_bits G X 2) (hR0 : JRt G X (pw (vi x) m) (some .int)) {b : Int} : ∀ (n : Nat) (v c : Int), inN v 64 → v.toNat ≤ n → 0 ≤ c → c + pcI v = x → x ≤ 6 → J G X 4 [vi b, vi c, vi v] [] m := by
  intro n
  induction n with
  | zero =>
    intro v c hv hn hc he h6
    have hv0 : v = 0 := by omega
    subst hv0
    refine J_iloadN hX rfl rfl dX10_bits_4 ?_
    refine J_if_le (tgt := 21) hX (by decide) dX10_bits_5 (fun h1 => ?_) (fun h1 => ?_)
    · refine J_iloadN hX rfl rfl dX10_bits_21 ?_
      refine J_iret hX hR0 dX10_bits_22 ?_
      refine pwI ?_
      have h0 : pcI 0 = 0 := rfl
      omega
    · omega
  | succ n ih =>
    intro v c hv hn hc he h6
    have hp := pcI_b hv.1
    refine J_iloadN hX rfl rfl dX10_bits_4 ?_
    refine J_if_le (tgt := 21) hX (by decide) dX10_bits_5 (fun h1 => ?_) (fun h1 => ?_)
    · have hv0 : v = 0 := by omega
      subst hv0
      refine J_iloadN hX rfl rfl dX10_bits_21 ?_
      refine J_iret hX hR0 dX10_bits_22 ?_
      refine pwI ?_
      have h0 : pcI 0 = 0 := rfl
      omega
    · refine J_iloadN hX rfl rfl dX10_bits_8 ?_
      refine J_iloadN hX rfl rfl dX10_bits_9 ?_
      refine J_iconst hX (by decide) dX10_bits_10 ?_
      refine J_iand hX (fun _ _ => sd_and1 hv) dX10_bits_11 ?_
      refine J_iadd hX (fun _ _ => by omega) dX10_bits_12 ?_
      refine siN_1 hX dX10_bits_13 ?_
      refine J_iloadN hX rfl rfl dX10_bits_14 ?_
      refine J_iconst hX (by decide) dX10_bits_15 ?_
      refine J_ishr hX (fun _ _ => sd_shr1 hv) dX10_bits_16 ?_
      refine siN_2 hX dX10_bits_17 ?_
      refine J_goto (tgt := 4) hX (by decide) dX10_bits_18 ?_
      refine ih (v / 2) _ (by omega) (by omega) (by omega) ?_ h6
      rw [← he]
      unfold pcI
      omega
theorem c_bits (hx : inN x 64) : K_X10_bits G [vi x] m (pw (vi (pcI x)) m) := by
  refine E_X10_bits (fun X hX hR0 _ _ => ?_)
  refine J_iconst hX (by decide) dX10_bits_0 ?_
  refine siN_1 hX dX10_bits_1 ?_
  refine J_iloadN hX rfl rfl dX10_bits_2 ?_
  refine siN_2 hX dX10_bits_3 ?_
  exact l_bits hX hR0 x.toNat x 0 hx (Nat.le_refl _) (by omega) (by omega) (pcI_b hx.1).2
theorem c_greater : K_X10_greater G [vi x, vi y] m (pw (vi (max x y)) m) := by
  refine E_X10_greater (fun X hX hR0 _ _ => ?_)
  refine J_iloadN hX rfl rfl dX10_greater_0 ?_
  refine J_iloadN hX rfl rfl dX10_greater_1 ?_
  refine J_icmp_le (tgt := 9) hX (by decide) dX10_greater_2 (fun h1 => ?_) (fun h1 => ?_)
  · refine J_iloadN hX rfl rfl dX10_greater_9 ?_
    exact J_iret hX hR0 dX10_greater_10 (pwI (by omega))
  · refine J_iloadN hX rfl rfl dX10_greater_5 ?_
    refine J_goto (tgt := 10) hX (by decide) dX10_greater_6 ?_
    exact J_iret hX hR0 dX10_greater_10 (pwI (by omega))
theorem l_begins (hX : Ok_X10_begins G X 2) (hR0 : JRt G X (pu (fun m' => FrM T48 m m' ∧ RelM m' (fun _ => 0) 0)) none) : ∀ i, 0 ≤ i → i ≤ 3 → ∀ M, FrM T48 m M → (∀ k, inN k i → M 48 0 0 k = 0) → J G X 2 [vr 40 0 0, vi i] [] M := by
  refine up_to (fun i h1 h2 ih M hfr hs => ?_)
  refine J_iloadN hX rfl rfl dX10_begins_2 ?_
  refine J_iconst hX (by decide) dX10_begins_3 ?_
  refine J_icmp_ge (tgt := 20) hX (by decide) dX10_begins_4 (fun h3 => ?_) (fun h3 => ?_)
  · refine J_aloadN hX rfl rfl dX10_begins_20 ?_
    refine J_iconst hX (by decide) dX10_begins_21 ?_
    refine P_HalfHereModel_there hX dX10_begins_22 mF_X10_144 ?_
    refine J_vret hX hR0 dX10_begins_25 ?_
    refine puI ⟨hfr.fld (by omega), ?_, fun k hk => ?_⟩
    · rw [upr_eq, st1_eq]
    · rw [upr_tag (by decide)]
      exact hs k (by omega)
  · refine J_aloadN hX rfl rfl dX10_begins_7 ?_
    refine G_HalfHereModel_sum hX dX10_begins_8 mF_X10_31 ?_
    refine J_iloadN hX rfl rfl dX10_begins_11 ?_
    refine J_iconst hX (by decide) dX10_begins_12 ?_
    refine S_48 hX (by omega) dX10_begins_13 ?_
    refine sinc_1 hX (fun _ => by omega) dX10_begins_14 ?_
    refine J_goto (tgt := 2) hX (by decide) dX10_begins_17 ?_
    refine ih h3 _ (hfr.up rfl (by decide)) (fun k hk => ?_)
    rw [upr_eq]
    by_cases q : k = i
    · rw [q, st1_eq]
    · rw [st1_ne q]
      exact hs k (by omega)
theorem c_begins : K_X10_begins G [vr 40 0 0] m (pu (fun m' => FrM T48 m m' ∧ RelM m' (fun _ => 0) 0)) := by
  refine E_X10_begins (fun X hX hR0 _ _ => ?_)
  refine J_iconst hX (by decide) dX10_begins_0 ?_
  refine siN_1 hX dX10_begins_1 ?_
  exact l_begins hX hR0 0 (by omega) (by omega) m FrM.rf (fun k hk => by omega)
theorem c_giftOf (hx : 0 ≤ x ∧ x ≤ 60) (ht : 0 ≤ t ∧ t ≤ 12) (hτ : 0 ≤ τ) : K_X10_giftOf G [vi κ, vi x, vi w, vi t, vi τ] m (pw (vi (gv κ w x t τ)) m) := by
  refine E_X10_giftOf (fun X hX hR0 _ _ => ?_)
  have K61 : ∀ z, z = (if κ = 5 ∧ w = 0 then max 0 (x - τ) else x) → ¬ 240 < τ → ¬ ((κ = 1 ∧ t < 12) ∨ ((κ = 2 ∨ κ = 5) ∧ t < 8)) → J G X 61 [vi κ, vi x, vi w, vi t, vi τ, vi z] [] m := by
    intro z hz h1 h2
    have hzb : 0 ≤ z ∧ z ≤ 120 := by rw [hz]; split <;> omega
    have fin : ∀ z', 0 ≤ z' → z' ≤ 120 → z' = (if κ = 5 ∧ w = 0 then max 0 (x - τ) else if κ = 4 ∧ w = 1 then 2 * x else x) → J G X 76 [vi κ, vi x, vi w, vi t, vi τ, vi z'] [] m := by
      intro z' b1 b2 e
      have hm := mul_b (x := z') (y := t) (a := 120) (b := 12) ⟨b1, b2⟩ ht
      refine J_iload hX rfl dX10_giftOf_76 ?_
      refine J_iloadN hX rfl rfl dX10_giftOf_78 ?_
      refine J_imul hX (fun _ _ => by omega) dX10_giftOf_79 ?_
      exact J_iret hX hR0 dX10_giftOf_80 (pwI (by unfold gv; rw [if_neg h1, if_neg h2, e]))
    refine J_iloadN hX rfl rfl dX10_giftOf_61 ?_
    refine J_iconst hX (by decide) dX10_giftOf_62 ?_
    refine J_icmp_ne (tgt := 76) hX (by decide) dX10_giftOf_63 (fun h3 => ?_) (fun h3 => ?_)
    · exact fin z hzb.1 hzb.2 (by rw [hz]; split <;> first | rfl | (rw [if_neg (fun q => h3 q.1)]))
    · refine J_iloadN hX rfl rfl dX10_giftOf_66 ?_
      refine J_iconst hX (by decide) dX10_giftOf_67 ?_
      refine J_icmp_ne (tgt := 76) hX (by decide) dX10_giftOf_68 (fun h4 => ?_) (fun h4 => ?_)
      · exact fin z hzb.1 hzb.2 (by rw [hz]; split <;> first | rfl | (rw [if_neg (fun q => h4 q.2)]))
      · refine J_iconst hX (by decide) dX10_giftOf_71 ?_
        refine J_iloadN hX rfl rfl dX10_giftOf_72 ?_
        refine J_imul hX (fun _ _ => by omega) dX10_giftOf_73 ?_
        refine si_5 hX dX10_giftOf_74 ?_
        exact fin _ (by omega) (by omega) (by rw [if_neg (by omega), if_pos ⟨h3, h4⟩])
  have K39 : ¬ 240 < τ → ¬ ((κ = 1 ∧ t < 12) ∨ ((κ = 2 ∨ κ = 5) ∧ t < 8)) → ∀ b, J G X 39 [vi κ, vi x, vi w, vi t, vi τ, b] [] m := by
    intro h1 h2 b
    refine J_iloadN hX rfl rfl dX10_giftOf_39 ?_
    refine si_5 hX dX10_giftOf_40 ?_
    refine J_iloadN hX rfl rfl dX10_giftOf_42 ?_
    refine J_iconst hX (by decide) dX10_giftOf_43 ?_
    refine J_icmp_ne (tgt := 61) hX (by decide) dX10_giftOf_44 (fun h3 => ?_) (fun h3 => ?_)
    · exact K61 _ (by rw [if_neg (fun q => h3 q.1)]) h1 h2
    · refine J_iloadN hX rfl rfl dX10_giftOf_47 ?_
      refine J_if_ne (tgt := 61) hX (by decide) dX10_giftOf_48 (fun h4 => ?_) (fun h4 => ?_)
      · exact K61 _ (by rw [if_neg (fun q => h4 q.2)]) h1 h2
      · refine J_iconst hX (by decide) dX10_giftOf_51 ?_
        refine J_iloadN hX rfl rfl dX10_giftOf_52 ?_
        refine J_iload hX rfl dX10_giftOf_53 ?_
        refine J_isub hX (fun _ _ => by omega) dX10_giftOf_55 ?_
        refine cS2w hX cb_X10_greater mL_X10_141 dX10_giftOf_56 (c_greater) ?_
        refine si_5 hX dX10_giftOf_59 ?_
        exact K61 _ (by rw [if_pos ⟨h3, h4⟩]) h1 h2
  refine J_iload hX rfl dX10_giftOf_0 ?_
  refine J_sipush hX (by decide) dX10_giftOf_2 ?_
  refine J_icmp_le (tgt := 10) hX (by decide) dX10_giftOf_5 (fun h1 => ?_) (fun h1 => ?_)
  · refine J_iloadN hX rfl rfl dX10_giftOf_10 ?_
    refine J_iconst hX (by decide) dX10_giftOf_11 ?_
    refine J_icmp_ne (tgt := 21) hX (by decide) dX10_giftOf_12 (fun h2 => ?_) (fun h2 => ?_)
    · refine J_iloadN hX rfl rfl dX10_giftOf_21 ?_
      refine J_iconst hX (by decide) dX10_giftOf_22 ?_
      refine J_icmp_eq (tgt := 31) hX (by decide) dX10_giftOf_23 (fun h3 => ?_) (fun h3 => ?_)
      · refine J_iloadN hX rfl rfl dX10_giftOf_31 ?_
        refine J_bipush hX (by decide) dX10_giftOf_32 ?_
        refine J_icmp_ge (tgt := 39) hX (by decide) dX10_giftOf_34 (fun h4 => ?_) (fun h4 => ?_)
        · exact K39 (by omega) (by omega) _
        · refine J_iconst hX (by decide) dX10_giftOf_37 ?_
          exact J_iret hX hR0 dX10_giftOf_38 (pwI (by unfold gv; rw [if_neg (by omega), if_pos (by omega)]))
      · refine J_iloadN hX rfl rfl dX10_giftOf_26 ?_
        refine J_iconst hX (by decide) dX10_giftOf_27 ?_
        refine J_icmp_ne (tgt := 39) hX (by decide) dX10_giftOf_28 (fun h4 => ?_) (fun h4 => ?_)
        · exact K39 (by omega) (by omega) _
        · refine J_iloadN hX rfl rfl dX10_giftOf_31 ?_
          refine J_bipush hX (by decide) dX10_giftOf_32 ?_
          refine J_icmp_ge (tgt := 39) hX (by decide) dX10_giftOf_34 (fun h5 => ?_) (fun h5 => ?_)
          · exact K39 (by omega) (by omega) _
          · refine J_iconst hX (by decide) dX10_giftOf_37 ?_
            exact J_iret hX hR0 dX10_giftOf_38 (pwI (by unfold gv; rw [if_neg (by omega), if_pos (by omega)]))
    · refine J_iloadN hX rfl rfl dX10_giftOf_15 ?_
      refine J_bipush hX (by decide) dX10_giftOf_16 ?_
      refine J_icmp_lt (tgt := 37) hX (by decide) dX10_giftOf_18 (fun h3 => ?_) (fun h3 => ?_)
      · refine J_iconst hX (by decide) dX10_giftOf_37 ?_
        exact J_iret hX hR0 dX10_giftOf_38 (pwI (by unfold gv; rw [if_neg (by omega), if_pos (by omega)]))
      · refine J_iloadN hX rfl rfl dX10_giftOf_21 ?_
        refine J_iconst hX (by decide) dX10_giftOf_22 ?_
        refine J_icmp_eq (tgt := 31) hX (by decide) dX10_giftOf_23 (fun h4 => ?_) (fun h4 => ?_)
        · refine J_iloadN hX rfl rfl dX10_giftOf_31 ?_
          refine J_bipush hX (by decide) dX10_giftOf_32 ?_
          refine J_icmp_ge (tgt := 39) hX (by decide) dX10_giftOf_34 (fun h5 => ?_) (fun h5 => ?_)
          · exact K39 (by omega) (by omega) _
          · refine J_iconst hX (by decide) dX10_giftOf_37 ?_
            omega
        · refine J_iloadN hX rfl rfl dX10_giftOf_26 ?_
          refine J_iconst hX (by decide) dX10_giftOf_27 ?_
          refine J_icmp_ne (tgt := 39) hX (by decide) dX10_giftOf_28 (fun h5 => ?_) (fun h5 => ?_)
          · exact K39 (by omega) (by omega) _
          · omega
  · refine J_iconst hX (by decide) dX10_giftOf_8 ?_
    exact J_iret hX hR0 dX10_giftOf_9 (pwI (by unfold gv; rw [if_pos h1]))
end Mod
