/-! ===== 11b: Euclid, thrice ===== -/
section Gcd
variable {G : GC} {X : JX} {m : HM}
/-- n steps are enough -/
def en : Nat → Int → Int → Prop
  | 0, _, b => b = 0
  | n + 1, a, b => b = 0 ∨ en n b (a.tmod b)
theorem en_0 : ∀ (n : Nat) (a : Int), en n a 0
  | 0, _ => rfl
  | _ + 1, _ => Or.inl rfl
theorem en_of : ∀ (k : Nat) (a b : Int), 0 ≤ a → 0 ≤ b → b < ((2 ^ k : Nat) : Int) → en (2 * k) a b := by
  intro k
  induction k with
  | zero =>
    intro a b ha hb h
    rw [Nat.pow_zero] at h
    show b = 0
    omega
  | succ k ih =>
    intro a b ha hb h
    show en (2 * k + 1 + 1) a b
    by_cases hb0 : b = 0
    · exact Or.inl hb0
    · refine Or.inr ?_
      have h1 := tmod_nn ha (by omega : 0 < b)
      by_cases hr0 : a.tmod b = 0
      · rw [hr0]
        exact en_0 _ _
      · refine Or.inr ?_
        have h2 := tmod_half ha (by omega : 0 < b) (by omega)
        have h3 := tmod_nn (a := b) (b := a.tmod b) hb (by omega)
        rw [Nat.pow_succ] at h
        exact ih _ _ (by omega) (by omega) (by omega)
theorem cmpI_eq {x y : Int} : cmpI x y = 0 ↔ x = y := by
  unfold cmpI
  split
  · constructor <;> intro <;> omega
  · split
    · constructor <;> intro <;> omega
    · constructor <;> intro <;> omega
theorem l_commonDivisor (hX : Ok_X9_commonDivisor G X 2) {g : Int} (hR0 : JRt G X (pw (vl g) m) (some .long)) {p q : Int} : ∀ i, 0 ≤ i → i ≤ 200 → ∀ a b w, 0 ≤ a → 0 ≤ b → en (200 - i).toNat a b → gcI a b = g → J G X 9 [vl p, vx, vl q, vx, vl a, vx, vl b, vx, vi i, w, vx] [] m := by
  refine up_to (fun i h1 h2 ih a b w ha hb hen hg => ?_)
  have fin : b = 0 → a = g := fun q => by rw [q, gcI_0 ha] at hg; exact hg
  refine J_iload hX rfl dX9_commonDivisor_9 ?_
  refine J_sipush hX (by decide) dX9_commonDivisor_11 ?_
  refine J_icmp_ge (tgt := 45) hX (by decide) dX9_commonDivisor_14 (fun h3 => ?_) (fun h3 => ?_)
  · refine J_lload hX rfl dX9_commonDivisor_45 ?_
    exact J_lret hX hR0 dX9_commonDivisor_47 (pwL (by rw [show (200 - i).toNat = 0 by omega] at hen; exact fin hen))
  · refine J_lload hX rfl dX9_commonDivisor_17 ?_
    refine J_lconst (x := 0) hX rfl dX9_commonDivisor_19 ?_
    refine J_lcmp hX dX9_commonDivisor_20 ?_
    refine J_if_eq (tgt := 45) hX (by decide) dX9_commonDivisor_21 (fun h4 => ?_) (fun h4 => ?_)
    · refine J_lload hX rfl dX9_commonDivisor_45 ?_
      exact J_lret hX hR0 dX9_commonDivisor_47 (pwL (fin (cmpI_eq.mp h4)))
    · have hb0 : b ≠ 0 := fun q => h4 (cmpI_eq.mpr q)
      have ht := tmod_nn ha (by omega : 0 < b)
      rw [show (200 - i).toNat = (200 - (i + 1)).toNat + 1 by omega] at hen
      refine J_lload hX rfl dX9_commonDivisor_24 ?_
      refine J_lload hX rfl dX9_commonDivisor_26 ?_
      refine J_lrem hX (hb0) dX9_commonDivisor_28 ?_
      refine sl_9 hX dX9_commonDivisor_29 ?_
      refine J_lload hX rfl dX9_commonDivisor_31 ?_
      refine sl_4 hX dX9_commonDivisor_33 ?_
      refine J_lload hX rfl dX9_commonDivisor_35 ?_
      refine sl_6 hX dX9_commonDivisor_37 ?_
      refine sinc_8 hX (fun _ => by omega) dX9_commonDivisor_39 ?_
      refine J_goto (tgt := 9) hX (by decide) dX9_commonDivisor_42 ?_
      exact ih h3 _ _ _ hb (by omega) (hen.resolve_left hb0) (by rw [gcI_s ha (by omega)]; exact hg)
theorem c_commonDivisor {a b : Int} (ha : 0 ≤ a) (hb : 0 ≤ b) : K_X9_commonDivisor G [vl a, vl b] m (pw (vl (gcI a b)) m) := by
  refine E_X9_commonDivisor (fun X hX hR0 _ hcn => ?_)
  have hr : inL b := hcn.tl.hd
  refine J_lloadN hX rfl rfl dX9_commonDivisor_0 ?_
  refine sl_4 hX dX9_commonDivisor_1 ?_
  refine J_lloadN hX rfl rfl dX9_commonDivisor_3 ?_
  refine sl_6 hX dX9_commonDivisor_4 ?_
  refine J_iconst hX (by decide) dX9_commonDivisor_6 ?_
  refine si_8 hX dX9_commonDivisor_7 ?_
  refine l_commonDivisor hX hR0 0 (by omega) (by omega) a b _ ha hb ?_ rfl
  exact en_of 100 a b ha hb (by omega)
theorem c_common : ∀ (n : Nat) (a b : Int), 0 ≤ a → 0 ≤ b → en n a b → ∀ d, n + 2 ≤ d → Kd_X10_common G d [vi a, vi b] m (pw (vi (gcI a b)) m) := by
  intro n
  induction n with
  | zero =>
    intro a b ha hb hen d hd
    refine E_X10_common (fun X hX hR0 _ _ => ?_)
    have hb0 : b = 0 := hen
    refine J_iloadN hX rfl rfl dX10_common_0 ?_
    refine J_if_ne (tgt := 8) hX (by decide) dX10_common_1 (fun h1 => ?_) (fun h1 => ?_)
    · exact absurd hb0 h1
    · refine J_iloadN hX rfl rfl dX10_common_4 ?_
      refine J_goto (tgt := 15) hX (by decide) dX10_common_5 ?_
      exact J_iret hX hR0 dX10_common_15 (pwI (by rw [hb0, gcI_0 ha]))
  | succ n ih =>
    intro a b ha hb hen d hd
    refine E_X10_common (fun X hX hR0 _ _ => ?_)
    refine J_iloadN hX rfl rfl dX10_common_0 ?_
    refine J_if_ne (tgt := 8) hX (by decide) dX10_common_1 (fun h1 => ?_) (fun h1 => ?_)
    · have ht := tmod_nn ha (by omega : 0 < b)
      refine J_iloadN hX rfl rfl dX10_common_8 ?_
      refine J_iloadN hX rfl rfl dX10_common_9 ?_
      refine J_iloadN hX rfl rfl dX10_common_10 ?_
      refine J_irem hX (fun _ _ => h1) dX10_common_11 ?_
      refine cS2w hX cb_X10_common mL_X10_174 dX10_common_12 (ih b (a.tmod b) hb (by omega) (hen.resolve_left h1) (d - 1) (by omega)) ?_
      exact J_iret hX hR0 dX10_common_15 (pwI (gcI_s ha (by omega)))
    · refine J_iloadN hX rfl rfl dX10_common_4 ?_
      refine J_goto (tgt := 15) hX (by decide) dX10_common_5 ?_
      exact J_iret hX hR0 dX10_common_15 (pwI (by rw [h1, gcI_0 ha]))
theorem c_commonLong : ∀ (n : Nat) (a b : Int), 0 ≤ a → 0 ≤ b → en n a b → ∀ d, n + 2 ≤ d → Kd_X10_commonLong G d [vl a, vl b] m (pw (vl (gcI a b)) m) := by
  intro n
  induction n with
  | zero =>
    intro a b ha hb hen d hd
    refine E_X10_commonLong (fun X hX hR0 _ _ => ?_)
    have hb0 : b = 0 := hen
    refine J_lloadN hX rfl rfl dX10_commonLong_0 ?_
    refine J_lconst (x := 0) hX rfl dX10_commonLong_1 ?_
    refine J_lcmp hX dX10_commonLong_2 ?_
    refine J_if_ne (tgt := 10) hX (by decide) dX10_commonLong_3 (fun h1 => ?_) (fun h1 => ?_)
    · exact absurd hb0 (fun q => h1 (cmpI_eq.mpr q))
    · refine J_lloadN hX rfl rfl dX10_commonLong_6 ?_
      refine J_goto (tgt := 17) hX (by decide) dX10_commonLong_7 ?_
      exact J_lret hX hR0 dX10_commonLong_17 (pwL (by rw [hb0, gcI_0 ha]))
  | succ n ih =>
    intro a b ha hb hen d hd
    refine E_X10_commonLong (fun X hX hR0 _ _ => ?_)
    refine J_lloadN hX rfl rfl dX10_commonLong_0 ?_
    refine J_lconst (x := 0) hX rfl dX10_commonLong_1 ?_
    refine J_lcmp hX dX10_commonLong_2 ?_
    refine J_if_ne (tgt := 10) hX (by decide) dX10_commonLong_3 (fun h1 => ?_) (fun h1 => ?_)
    · have hb0 : b ≠ 0 := fun q => h1 (cmpI_eq.mpr q)
      have ht := tmod_nn ha (by omega : 0 < b)
      refine J_lloadN hX rfl rfl dX10_commonLong_10 ?_
      refine J_lloadN hX rfl rfl dX10_commonLong_11 ?_
      refine J_lloadN hX rfl rfl dX10_commonLong_12 ?_
      refine J_lrem hX (hb0) dX10_commonLong_13 ?_
      refine cS2w hX cb_X10_commonLong mL_X10_227 dX10_commonLong_14 (ih b (a.tmod b) hb (by omega) (hen.resolve_left hb0) (d - 1) (by omega)) ?_
      exact J_lret hX hR0 dX10_commonLong_17 (pwL (gcI_s ha (by omega)))
    · refine J_lloadN hX rfl rfl dX10_commonLong_6 ?_
      refine J_goto (tgt := 17) hX (by decide) dX10_commonLong_7 ?_
      exact J_lret hX hR0 dX10_commonLong_17 (pwL (by rw [cmpI_eq.mp h1, gcI_0 ha]))
end Gcd
