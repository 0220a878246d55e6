/-! ===== 11a: bits; the greatest common divisor ===== -/
section Bits
variable {G : GC} {X : JX} {cc : ByteArray} {own : String} {nL d : Nat} {L S : List HV} {m : HM} {pc : Nat}
theorem toInt_r (z : Int32) : inR z.toInt := by
  have h1 := Int32.le_toInt z
  have h2 := Int32.toInt_lt z
  omega
theorem J_wadd (hX : JOk G X cc own nL d) {x y : Int} (dg : decode cc pc = .ok (.iadd, 1)) (k : J G X (pc + 1) L (vi (Int32.ofInt x + Int32.ofInt y).toInt :: S) m) : J G X pc L (vi y :: vi x :: S) m :=
  J_step (fun _ h _ => h.tl.tl.consI (toInt_r _)) k fun _ _ _ _ _ _ _ _ _ _ _ _ _ _ e0 H locs ls _ _ _ _ _ _ kk => lv_iadd (hX.x e0).1 (hX.x e0).2.1 dg (by rw [← Int32.ofInt_toInt (Int32.ofInt x + Int32.ofInt y)]; exact kk)
theorem J_wsub (hX : JOk G X cc own nL d) {x y : Int} (dg : decode cc pc = .ok (.isub, 1)) (k : J G X (pc + 1) L (vi (Int32.ofInt x - Int32.ofInt y).toInt :: S) m) : J G X pc L (vi y :: vi x :: S) m :=
  J_step (fun _ h _ => h.tl.tl.consI (toInt_r _)) k fun _ _ _ _ _ _ _ _ _ _ _ _ _ _ e0 H locs ls _ _ _ _ _ _ kk => lv_isub (hX.x e0).1 (hX.x e0).2.1 dg (by rw [← Int32.ofInt_toInt (Int32.ofInt x - Int32.ofInt y)]; exact kk)
theorem J_wand (hX : JOk G X cc own nL d) {x y : Int} (dg : decode cc pc = .ok (.iand, 1)) (k : J G X (pc + 1) L (vi (Int32.ofInt x &&& Int32.ofInt y).toInt :: S) m) : J G X pc L (vi y :: vi x :: S) m :=
  J_iand hX (fun _ _ => ⟨(Int32.ofInt_toInt _).symm, toInt_r _⟩) dg k
theorem J_wushr (hX : JOk G X cc own nL d) {x y : Int} (dg : decode cc pc = .ok (.iushr, 1)) (k : J G X (pc + 1) L (vi ((Int32.ofInt x).toUInt32 >>> ((Int32.ofInt y).toUInt32 &&& Int32.toUInt32 31)).toInt32.toInt :: S) m) : J G X pc L (vi y :: vi x :: S) m :=
  J_step (fun _ h _ => h.tl.tl.consI (toInt_r _)) k fun _ _ _ _ _ _ _ _ _ _ _ _ _ _ e0 H locs ls _ _ _ _ _ _ kk => lv_iushr (hX.x e0).1 (hX.x e0).2.1 dg rfl (by
    have e := Int32.ofInt_toInt ((Int32.ofInt x).toUInt32 >>> ((Int32.ofInt y).toUInt32 &&& Int32.toUInt32 31)).toInt32
    rw [← e]
    exact kk)
theorem J_ldcw (hX : JOk G X cc own nL d) {idx : Nat} {x : Int32} {n : Int} (hc : Cond.constant own idx x ∈ lw_tbl) (hg : goodWord (Cond.constant own idx x) = true) (hn : Int32.ofInt n = x) (hr : inR n) (dg : decode cc pc = .ok (.ldc_w idx, 3)) (k : J G X (pc + 3) L (vi n :: S) m) : J G X pc L S m := by
  subst hn
  exact J_step (fun _ h _ => h.consI hr) k fun _ _ _ _ _ _ _ _ _ _ _ _ _ _ e0 H locs ls _ _ _ _ _ _ kk => lv_ldcw (hX.x e0).1 (hX.x e0).2.1 (hX.x e0).2.2.2.1 ((hX.x e0).2.2.2.2.1 _ (mem_g hc hg)) dg kk
end Bits
/-- how many of the six bits -/
def pcI (x : Int) : Int := x % 2 + x / 2 % 2 + x / 4 % 2 + x / 8 % 2 + x / 16 % 2 + x / 32 % 2
def p2 (p : Int) : Int := ((2 ^ p.toNat : Nat) : Int)
def orI (a b : Int) : Int := ((a.toNat ||| b.toNat : Nat) : Int)
def anI (a b : Int) : Int := ((a.toNat &&& b.toNat : Nat) : Int)
theorem bits_or : ∀ a, a < 64 → ∀ b, b < 64 → Int32.ofInt ((a : Nat) : Int) ||| Int32.ofInt ((b : Nat) : Int) = Int32.ofInt ((a ||| b : Nat) : Int) ∧ (a ||| b) < 64 := by decide +kernel
theorem bits_and : ∀ a, a < 64 → ∀ b, b < 64 → Int32.ofInt ((a : Nat) : Int) &&& Int32.ofInt ((b : Nat) : Int) = Int32.ofInt ((a &&& b : Nat) : Int) ∧ (a &&& b) < 64 := by decide +kernel
theorem bits_shl : ∀ p, p < 7 → Int32.ofInt 1 <<< (Int32.ofInt ((p : Nat) : Int) &&& 31) = Int32.ofInt ((2 ^ p : Nat) : Int) := by decide +kernel
theorem bits_shr : ∀ a, a < 64 → ∀ p, p < 6 → Int32.ofInt ((a : Nat) : Int) >>> (Int32.ofInt ((p : Nat) : Int) &&& 31) = Int32.ofInt ((a / 2 ^ p : Nat) : Int) := by decide +kernel
theorem orI_b {a b : Int} (ha : inN a 64) (hb : inN b 64) : inN (orI a b) 64 := by
  have := (bits_or a.toNat (by omega) b.toNat (by omega)).2
  unfold orI
  omega
theorem sd_or {a b : Int} (ha : inN a 64) (hb : inN b 64) : Int32.ofInt a ||| Int32.ofInt b = Int32.ofInt (orI a b) ∧ inR (orI a b) := by
  have := (bits_or a.toNat (by omega) b.toNat (by omega)).1
  rw [Int.toNat_of_nonneg ha.1, Int.toNat_of_nonneg hb.1] at this
  have h2 := orI_b ha hb
  exact ⟨this, by omega⟩
theorem anI_b {a b : Int} (ha : inN a 64) (hb : inN b 64) : inN (anI a b) 64 := by
  have := (bits_and a.toNat (by omega) b.toNat (by omega)).2
  unfold anI
  omega
theorem sd_and {a b : Int} (ha : inN a 64) (hb : inN b 64) : Int32.ofInt a &&& Int32.ofInt b = Int32.ofInt (anI a b) ∧ inR (anI a b) := by
  have := (bits_and a.toNat (by omega) b.toNat (by omega)).1
  rw [Int.toNat_of_nonneg ha.1, Int.toNat_of_nonneg hb.1] at this
  have h2 := anI_b ha hb
  exact ⟨this, by omega⟩
theorem p2_b {p : Int} (hp : inN p 6) : inN (p2 p) 64 ∧ 1 ≤ p2 p := by
  rcases (show p = 0 ∨ p = 1 ∨ p = 2 ∨ p = 3 ∨ p = 4 ∨ p = 5 by omega) with rfl | rfl | rfl | rfl | rfl | rfl <;> decide
theorem sd_shl {p : Int} (hp : 0 ≤ p ∧ p < 7) : Int32.ofInt 1 <<< (Int32.ofInt p &&& 31) = Int32.ofInt (p2 p) ∧ inR (p2 p) := by
  have := bits_shl p.toNat (by omega)
  rw [Int.toNat_of_nonneg hp.1] at this
  refine ⟨this, ?_⟩
  rcases (show p = 0 ∨ p = 1 ∨ p = 2 ∨ p = 3 ∨ p = 4 ∨ p = 5 ∨ p = 6 by omega) with rfl | rfl | rfl | rfl | rfl | rfl | rfl <;> decide
theorem sd_shr1 {a : Int} (ha : inN a 64) : Int32.ofInt a >>> (Int32.ofInt 1 &&& 31) = Int32.ofInt (a / 2) ∧ inR (a / 2) := by
  have := bits_shr a.toNat (by omega) 1 (by omega)
  rw [Int.toNat_of_nonneg ha.1] at this
  refine ⟨?_, by omega⟩
  rw [show (((1 : Nat) : Nat) : Int) = 1 from rfl] at this
  rw [this]
  congr 1
  omega
theorem sd_and1 {a : Int} (ha : inN a 64) : Int32.ofInt a &&& Int32.ofInt 1 = Int32.ofInt (a % 2) ∧ inR (a % 2) := by
  have h := bits_and a.toNat (by omega) 1 (by omega)
  rw [Int.toNat_of_nonneg ha.1] at h
  refine ⟨?_, by omega⟩
  rw [show (((1 : Nat) : Nat) : Int) = 1 from rfl] at h
  rw [h.1, Nat.and_one_is_mod]
  congr 1
  omega
theorem orI_idem : ∀ a, a < 64 → ∀ p, p < 6 → ((a ||| 2 ^ p) ||| 2 ^ p : Nat) = a ||| 2 ^ p := by decide +kernel
theorem orI_twice {a p : Int} (ha : inN a 64) (hp : inN p 6) : orI (orI a (p2 p)) (p2 p) = orI a (p2 p) := by
  have := orI_idem a.toNat (by omega) p.toNat (by omega)
  unfold orI p2
  rw [Int.toNat_natCast, Int.toNat_natCast, this]
theorem pcI_b {x : Int} (h : 0 ≤ x) : 0 ≤ pcI x ∧ pcI x ≤ 6 := by
  unfold pcI
  omega
/-! Integer.bitCount -/
theorem cb_J6_bitCount_0f7a4 : CBS yJ6_bitCount_0f7a4 cJ6_bitCount_0f7a4 1 (some .int) 1 := ⟨⟨mC_J6_bitCount_0f7a4, mN_java_lang_Integer, ⟨by decide +kernel, by decide +kernel, by decide +kernel⟩, by decide⟩, mS_J6_bitCount_0f7a4⟩
theorem bitc : ∀ n, n < 64 → (fun x0 : Int32 => (fun x1 : Int32 => (fun x2 : Int32 => (fun x3 : Int32 => (fun x4 : Int32 => (fun x5 : Int32 => (x5 &&& Int32.ofInt 63).toInt) (x4 + (x4.toUInt32 >>> ((Int32.ofInt 16).toUInt32 &&& Int32.toUInt32 31)).toInt32)) (x3 + (x3.toUInt32 >>> ((Int32.ofInt 8).toUInt32 &&& Int32.toUInt32 31)).toInt32)) ((x2 + (x2.toUInt32 >>> ((Int32.ofInt 4).toUInt32 &&& Int32.toUInt32 31)).toInt32) &&& Int32.ofInt 252645135)) ((x1 &&& Int32.ofInt 858993459) + ((x1.toUInt32 >>> ((Int32.ofInt 2).toUInt32 &&& Int32.toUInt32 31)).toInt32 &&& Int32.ofInt 858993459))) (x0 - ((x0.toUInt32 >>> ((Int32.ofInt 1).toUInt32 &&& Int32.toUInt32 31)).toInt32 &&& Int32.ofInt 1431655765))) (Int32.ofInt ((n : Nat) : Int)) = pcI ((n : Nat) : Int) := by decide +kernel
theorem c_bitCount {G : GC} {m : HM} {x : Int} (hx : inN x 64) : Cn G yJ6_bitCount_0f7a4 cJ6_bitCount_0f7a4 1 (some .int) 2 [vi x] m (pw (vi (pcI x)) m) := by
  refine Cn.of [vi x] (by decide +kernel) rfl rfl (Nat.le_of_ble_eq_true rfl) rfl (fun h => h) (fun X hX hR0 _ _ => ?_)
  refine J_iloadN hX rfl rfl dJ6_bitCount_0f7a4_0 ?_
  refine J_iloadN hX rfl rfl dJ6_bitCount_0f7a4_1 ?_
  refine J_iconst hX (by decide) dJ6_bitCount_0f7a4_2 ?_
  refine J_wushr hX dJ6_bitCount_0f7a4_3 ?_
  refine J_ldcw (n := 1431655765) hX mQ_java_lang_Integer_265 rfl rfl (by decide) dJ6_bitCount_0f7a4_4 ?_
  refine J_wand hX dJ6_bitCount_0f7a4_7 ?_
  refine J_wsub hX dJ6_bitCount_0f7a4_8 ?_
  refine siN_0 hX dJ6_bitCount_0f7a4_9 ?_
  refine J_iloadN hX rfl rfl dJ6_bitCount_0f7a4_10 ?_
  refine J_ldcw (n := 858993459) hX mQ_java_lang_Integer_266 rfl rfl (by decide) dJ6_bitCount_0f7a4_11 ?_
  refine J_wand hX dJ6_bitCount_0f7a4_14 ?_
  refine J_iloadN hX rfl rfl dJ6_bitCount_0f7a4_15 ?_
  refine J_iconst hX (by decide) dJ6_bitCount_0f7a4_16 ?_
  refine J_wushr hX dJ6_bitCount_0f7a4_17 ?_
  refine J_ldcw (n := 858993459) hX mQ_java_lang_Integer_266 rfl rfl (by decide) dJ6_bitCount_0f7a4_18 ?_
  refine J_wand hX dJ6_bitCount_0f7a4_21 ?_
  refine J_wadd hX dJ6_bitCount_0f7a4_22 ?_
  refine siN_0 hX dJ6_bitCount_0f7a4_23 ?_
  refine J_iloadN hX rfl rfl dJ6_bitCount_0f7a4_24 ?_
  refine J_iloadN hX rfl rfl dJ6_bitCount_0f7a4_25 ?_
  refine J_iconst hX (by decide) dJ6_bitCount_0f7a4_26 ?_
  refine J_wushr hX dJ6_bitCount_0f7a4_27 ?_
  refine J_wadd hX dJ6_bitCount_0f7a4_28 ?_
  refine J_ldcw (n := 252645135) hX mQ_java_lang_Integer_267 rfl rfl (by decide) dJ6_bitCount_0f7a4_29 ?_
  refine J_wand hX dJ6_bitCount_0f7a4_32 ?_
  refine siN_0 hX dJ6_bitCount_0f7a4_33 ?_
  refine J_iloadN hX rfl rfl dJ6_bitCount_0f7a4_34 ?_
  refine J_iloadN hX rfl rfl dJ6_bitCount_0f7a4_35 ?_
  refine J_bipush hX (by decide) dJ6_bitCount_0f7a4_36 ?_
  refine J_wushr hX dJ6_bitCount_0f7a4_38 ?_
  refine J_wadd hX dJ6_bitCount_0f7a4_39 ?_
  refine siN_0 hX dJ6_bitCount_0f7a4_40 ?_
  refine J_iloadN hX rfl rfl dJ6_bitCount_0f7a4_41 ?_
  refine J_iloadN hX rfl rfl dJ6_bitCount_0f7a4_42 ?_
  refine J_bipush hX (by decide) dJ6_bitCount_0f7a4_43 ?_
  refine J_wushr hX dJ6_bitCount_0f7a4_45 ?_
  refine J_wadd hX dJ6_bitCount_0f7a4_46 ?_
  refine siN_0 hX dJ6_bitCount_0f7a4_47 ?_
  refine J_iloadN hX rfl rfl dJ6_bitCount_0f7a4_48 ?_
  refine J_bipush hX (by decide) dJ6_bitCount_0f7a4_49 ?_
  refine J_wand hX dJ6_bitCount_0f7a4_51 ?_
  refine J_iret hX hR0 dJ6_bitCount_0f7a4_52 (pwI ?_)
  simp only [Int32.ofInt_toInt]
  have h := bitc x.toNat (by omega)
  rw [Int.toNat_of_nonneg hx.1] at h
  exact h
/-! the greatest common divisor -/
def gcI (a b : Int) : Int := ((Nat.gcd a.toNat b.toNat : Nat) : Int)
theorem gcI_0 {a : Int} (h : 0 ≤ a) : gcI a 0 = a := by
  unfold gcI
  rw [show (0 : Int).toNat = 0 from rfl, Nat.gcd_zero_right]
  omega
theorem gcI_comm (a b : Int) : gcI a b = gcI b a := by
  unfold gcI
  rw [Nat.gcd_comm]
theorem tmod_nn {a b : Int} (ha : 0 ≤ a) (hb : 0 < b) : a.tmod b = a % b ∧ 0 ≤ a % b ∧ a % b < b := ⟨Int.tmod_eq_emod_of_nonneg ha, Int.emod_nonneg _ (by omega), Int.emod_lt_of_pos _ hb⟩
theorem gcI_s {a b : Int} (ha : 0 ≤ a) (hb : 0 < b) : gcI b (a.tmod b) = gcI a b := by
  obtain ⟨e, h1, h2⟩ := tmod_nn ha hb
  rw [e]
  unfold gcI
  have e2 : (a % b).toNat = a.toNat % b.toNat := by
    rw [Int.toNat_emod ha (by omega)]
  rw [e2, Nat.gcd_comm, ← Nat.gcd_rec, Nat.gcd_comm]
theorem gcI_pos {a b : Int} (h : 0 < a ∨ 0 < b) : 0 < gcI a b := by
  unfold gcI
  have : 0 < Nat.gcd a.toNat b.toNat := by
    rcases h with h | h
    · exact Nat.gcd_pos_of_pos_left _ (by omega)
    · exact Nat.gcd_pos_of_pos_right _ (by omega)
  omega
theorem gcI_nn (a b : Int) : 0 ≤ gcI a b := Int.natCast_nonneg _
theorem gcI_le {a b : Int} (ha : 0 ≤ a) (hb : 0 < b) : gcI a b ≤ b := by
  unfold gcI
  have := Nat.gcd_le_right a.toNat (n := b.toNat) (by omega)
  omega
/-- two steps halve -/
theorem tmod_half {a b : Int} (ha : 0 ≤ a) (hb : 0 < b) (hr : 0 < a.tmod b) : 2 * b.tmod (a.tmod b) < b := by
  obtain ⟨e, h1, h2⟩ := tmod_nn ha hb
  rw [e] at hr ⊢
  obtain ⟨e3, h3, h4⟩ := tmod_nn (a := b) (b := a % b) (by omega) hr
  rw [e3]
  by_cases q : 2 * (a % b) ≤ b
  · omega
  · have h5 : b % (a % b) = b - (a % b) := by
      have h6 : (b - (a % b)) % (a % b) = b - (a % b) := Int.emod_eq_of_lt (by omega) (by omega)
      rw [Int.sub_emod_right] at h6
      exact h6
    omega
