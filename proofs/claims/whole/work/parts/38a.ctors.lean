/-! ===== 38a: the constructors ===== -/
theorem ct_ret1 {G : GC} {X : XC} {cc : ByteArray} {own : String} {nL d k ci nc ns : Nat} {L : List HV} {fs : List Value} {len sl pc n : Nat} (hX : JCOk G X cc own nL d k nc ns) (hR : JCRt G X k n sl) (hn : len = n) (hE : fE G k = .inr (ci, fs)) (dg : decode cc pc = .ok (.return_, 1)) : JC G X k ci pc L [] fs (fE G) len sl :=
  ct_ret hX hR hn (fun j _ _ => by
    by_cases h : j = k
    · rw [h, hE, upE_eq]
    · rw [upE_ne h]) dg
def fv0 : List Value := [.null, .null, .null]
theorem fv0_ok : ∀ j, j < 3 → defaultValue (tyX0 j) = vp_V fv0 j := by
  intro j hj
  have : j = 0 ∨ j = 1 ∨ j = 2 := by omega
  rcases this with rfl | rfl | rfl <;> rfl
def fv1 : List Value := [.int (Int32.ofInt 0), .null, .null, .int (Int32.ofInt 0), .int (Int32.ofInt 0), .int (Int32.ofInt 0)]
theorem fv1_ok : ∀ j, j < 6 → defaultValue (tyX1 j) = vp_V fv1 j := by
  intro j hj
  have : j = 0 ∨ j = 1 ∨ j = 2 ∨ j = 3 ∨ j = 4 ∨ j = 5 := by omega
  rcases this with rfl | rfl | rfl | rfl | rfl | rfl <;> rfl
def fv2 : List Value := [.int (Int32.ofInt 0), .int (Int32.ofInt 0), .int (Int32.ofInt 0), .int (Int32.ofInt 0), .int (Int32.ofInt 0), .int (Int32.ofInt 0), .int (Int32.ofInt 0)]
theorem fv2_ok : ∀ j, j < 7 → defaultValue (tyX2 j) = vp_V fv2 j := by
  intro j hj
  have : j = 0 ∨ j = 1 ∨ j = 2 ∨ j = 3 ∨ j = 4 ∨ j = 5 ∨ j = 6 := by omega
  rcases this with rfl | rfl | rfl | rfl | rfl | rfl | rfl <;> rfl
def fv3 : List Value := [.null, .int (Int32.ofInt 0)]
theorem fv3_ok : ∀ j, j < 2 → defaultValue (tyX3 j) = vp_V fv3 j := by
  intro j hj
  have : j = 0 ∨ j = 1 := by omega
  rcases this with rfl | rfl <;> rfl
def fv4 : List Value := [.null, .null, .null]
theorem fv4_ok : ∀ j, j < 3 → defaultValue (tyX4 j) = vp_V fv4 j := by
  intro j hj
  have : j = 0 ∨ j = 1 ∨ j = 2 := by omega
  rcases this with rfl | rfl | rfl <;> rfl
def fv5 : List Value := [.null, .int (Int32.ofInt 0), .null, .null, .null, .int (Int32.ofInt 0), .int (Int32.ofInt 0)]
theorem fv5_ok : ∀ j, j < 7 → defaultValue (tyX5 j) = vp_V fv5 j := by
  intro j hj
  have : j = 0 ∨ j = 1 ∨ j = 2 ∨ j = 3 ∨ j = 4 ∨ j = 5 ∨ j = 6 := by omega
  rcases this with rfl | rfl | rfl | rfl | rfl | rfl | rfl <;> rfl
def fv6 : List Value := [.null, .int (Int32.ofInt 0), .int (Int32.ofInt 0), .null, .int (Int32.ofInt 0)]
theorem fv6_ok : ∀ j, j < 5 → defaultValue (tyX6 j) = vp_V fv6 j := by
  intro j hj
  have : j = 0 ∨ j = 1 ∨ j = 2 ∨ j = 3 ∨ j = 4 := by omega
  rcases this with rfl | rfl | rfl | rfl | rfl <;> rfl
def fv7 : List Value := [.int (Int32.ofInt 0), .int (Int32.ofInt 0), .int (Int32.ofInt 0), .null, .null, .null, .null, .null]
theorem fv7_ok : ∀ j, j < 8 → defaultValue (tyX7 j) = vp_V fv7 j := by
  intro j hj
  have : j = 0 ∨ j = 1 ∨ j = 2 ∨ j = 3 ∨ j = 4 ∨ j = 5 ∨ j = 6 ∨ j = 7 := by omega
  rcases this with rfl | rfl | rfl | rfl | rfl | rfl | rfl | rfl <;> rfl
def fv8 : List Value := [.int (Int32.ofInt 0), .int (Int32.ofInt 0), .null, .int (Int32.ofInt 0)]
theorem fv8_ok : ∀ j, j < 4 → defaultValue (tyX8 j) = vp_V fv8 j := by
  intro j hj
  have : j = 0 ∨ j = 1 ∨ j = 2 ∨ j = 3 := by omega
  rcases this with rfl | rfl | rfl | rfl <;> rfl
def fv9 : List Value := [.null, .null, .null, .null, .int (Int32.ofInt 0), .null, .null, .null, .null, .null, .int (Int32.ofInt 0), .null]
theorem fv9_ok : ∀ j, j < 12 → defaultValue (tyX9 j) = vp_V fv9 j := by
  intro j hj
  have : j = 0 ∨ j = 1 ∨ j = 2 ∨ j = 3 ∨ j = 4 ∨ j = 5 ∨ j = 6 ∨ j = 7 ∨ j = 8 ∨ j = 9 ∨ j = 10 ∨ j = 11 := by omega
  rcases this with rfl | rfl | rfl | rfl | rfl | rfl | rfl | rfl | rfl | rfl | rfl | rfl <;> rfl
def fv10 : List Value := [.null, .null, .null, .null, .int (Int32.ofInt 0), .null, .null, .int (Int32.ofInt 0), .int (Int32.ofInt 0), .null, .null, .int (Int32.ofInt 0), .int (Int32.ofInt 0), .int (Int32.ofInt 0), .null, .null, .null, .int (Int32.ofInt 0), .null, .int (Int32.ofInt 0)]
theorem fv10_ok : ∀ j, j < 20 → defaultValue (tyX10 j) = vp_V fv10 j := by
  intro j hj
  have : j = 0 ∨ j = 1 ∨ j = 2 ∨ j = 3 ∨ j = 4 ∨ j = 5 ∨ j = 6 ∨ j = 7 ∨ j = 8 ∨ j = 9 ∨ j = 10 ∨ j = 11 ∨ j = 12 ∨ j = 13 ∨ j = 14 ∨ j = 15 ∨ j = 16 ∨ j = 17 ∨ j = 18 ∨ j = 19 := by omega
  rcases this with rfl | rfl | rfl | rfl | rfl | rfl | rfl | rfl | rfl | rfl | rfl | rfl | rfl | rfl | rfl | rfl | rfl | rfl | rfl | rfl <;> rfl
theorem K_X1 {G : GC} {e : Int} (o0 : vok 17 e 0) (o1 : vok 18 e 0) (o2 : vok 19 e 0) (i1 : ix 18 e 0 = ix 17 e 0 + 1) (i2 : ix 19 e 0 = ix 17 e 0 + 2) : CK G yX1_init cX1_init 1 1 (ix 17 e 0) 1 fv1 3 6 (vr 17 e 0) := by
  refine CK.of [vr 17 e 0] (fE G) (by decide +kernel) rfl rfl rfl (Nat.le_of_ble_eq_true rfl) rfl (fun X hX hR => ?_)
  refine ct_aload hX rfl rfl dX1_init_0 ?_
  refine ct_obj hX mL_X1_3 rfl rfl (by decide) dX1_init_1 ?_
  refine ct_aload hX rfl rfl dX1_init_4 ?_
  refine ct_iconst hX dX1_init_5 ?_
  refine ct_newa (aty := .int) (N := 3) (c := 0) (t := 18) (v := e) (i := 0) hX (by omega) i1 mA_int (ty := .int) rfl rfl (by decide) rfl rfl (by decide) ((congrArg (fE G) i1).symm.trans (fE_at o1)) (by omega) (by omega) dX1_init_6 ?_
  refine ct_put (T := TX1) (N := 6) (C := RX1) (kf := 1) (ty0 := tyX1) (ty := (.array .int)) hX (by omega) rfl mY_X1 tyX1_ok nmX1 rfl (by decide) rfl (by decide +kernel) rfl rfl (Nat.le_of_ble_eq_true rfl) dX1_init_8 mF_X1_9 ?_
  refine ct_aload hX rfl rfl dX1_init_11 ?_
  refine ct_iconst hX dX1_init_12 ?_
  refine ct_newa (aty := .int) (N := 3) (c := 0) (t := 19) (v := e) (i := 0) hX (by omega) i2 mA_int (ty := .int) rfl rfl (by decide) rfl rfl (by decide) ((congrArg (fE G) i2).symm.trans (fE_at o2)) (by omega) (by omega) dX1_init_13 ?_
  refine ct_put (T := TX1) (N := 6) (C := RX1) (kf := 2) (ty0 := tyX1) (ty := (.array .int)) hX (by omega) rfl mY_X1 tyX1_ok nmX1 rfl (by decide) rfl (by decide +kernel) rfl rfl (Nat.le_of_ble_eq_true rfl) dX1_init_15 mF_X1_15 ?_
  refine ct_aload hX rfl rfl dX1_init_18 ?_
  refine ct_iconst hX dX1_init_19 ?_
  refine ct_put (T := TX1) (N := 6) (C := RX1) (kf := 5) (ty0 := tyX1) (ty := .int) hX (by omega) rfl mY_X1 tyX1_ok nmX1 rfl (by decide) rfl (by decide +kernel) rfl rfl (Nat.le_of_ble_eq_true rfl) dX1_init_20 mF_X1_18 ?_
  exact ct_ret1 hX hR rfl (fE_at o0) dX1_init_23
theorem K_X3 {G : GC} {v i : Int} (o0 : vok 9 v i) (o1 : vok 10 v i) : CK G yX3_init cX3_init 1 1 (ix 9 v i) 3 fv3 2 3 (vr 9 v i) := by
  have i1 : ix 10 v i = ix 9 v i + 1 := by
    show 23 + 66 * v.toNat + 2 * i.toNat = 22 + 66 * v.toNat + 2 * i.toNat + 1
    omega
  refine CK.of [vr 9 v i] (fE G) (by decide +kernel) rfl rfl rfl (Nat.le_of_ble_eq_true rfl) rfl (fun X hX hR => ?_)
  refine ct_aload hX rfl rfl dX3_init_0 ?_
  refine ct_obj hX mL_X3_3 rfl rfl (by decide) dX3_init_1 ?_
  refine ct_aload hX rfl rfl dX3_init_4 ?_
  refine ct_iconst hX dX3_init_5 ?_
  refine ct_newa (aty := .int) (N := 3) (c := 0) (t := 10) (v := v) (i := i) hX (by omega) i1 mA_int (ty := .int) rfl rfl (by decide) rfl rfl (by decide) ((congrArg (fE G) i1).symm.trans (fE_at o1)) (by omega) (by omega) dX3_init_6 ?_
  refine ct_put (T := TX3) (N := 2) (C := RX3) (kf := 0) (ty0 := tyX3) (ty := (.array .int)) hX (by omega) rfl mY_X3 tyX3_ok nmX3 rfl (by decide) rfl (by decide +kernel) rfl rfl (Nat.le_of_ble_eq_true rfl) dX3_init_8 mF_X3_9 ?_
  refine ct_aload hX rfl rfl dX3_init_11 ?_
  refine ct_iconst hX dX3_init_12 ?_
  refine ct_put (T := TX3) (N := 2) (C := RX3) (kf := 1) (ty0 := tyX3) (ty := .int) hX (by omega) rfl mY_X3 tyX3_ok nmX3 rfl (by decide) rfl (by decide +kernel) rfl rfl (Nat.le_of_ble_eq_true rfl) dX3_init_13 mF_X3_15 ?_
  exact ct_ret1 hX hR rfl (fE_at o0) dX3_init_16
theorem K_X8 {G : GC} {v i : Int} (o0 : vok 11 v i) (o1 : vok 12 v i) : CK G yX8_init cX8_init 1 1 (ix 11 v i) 8 fv8 2 3 (vr 11 v i) := by
  have i1 : ix 12 v i = ix 11 v i + 1 := by
    show 35 + 66 * v.toNat + 2 * i.toNat = 34 + 66 * v.toNat + 2 * i.toNat + 1
    omega
  refine CK.of [vr 11 v i] (fE G) (by decide +kernel) rfl rfl rfl (Nat.le_of_ble_eq_true rfl) rfl (fun X hX hR => ?_)
  refine ct_aload hX rfl rfl dX8_init_0 ?_
  refine ct_obj hX mL_X8_3 rfl rfl (by decide) dX8_init_1 ?_
  refine ct_aload hX rfl rfl dX8_init_4 ?_
  refine ct_iconst hX dX8_init_5 ?_
  refine ct_newa (aty := .int) (N := 3) (c := 0) (t := 12) (v := v) (i := i) hX (by omega) i1 mA_int (ty := .int) rfl rfl (by decide) rfl rfl (by decide) ((congrArg (fE G) i1).symm.trans (fE_at o1)) (by omega) (by omega) dX8_init_6 ?_
  refine ct_put (T := TX8) (N := 4) (C := RX8) (kf := 2) (ty0 := tyX8) (ty := (.array .int)) hX (by omega) rfl mY_X8 tyX8_ok nmX8 rfl (by decide) rfl (by decide +kernel) rfl rfl (Nat.le_of_ble_eq_true rfl) dX8_init_8 mF_X8_9 ?_
  exact ct_ret1 hX hR rfl (fE_at o0) dX8_init_11
theorem K_X2 {G : GC} {v i : Int} (o0 : vok 13 v i) : CK G yX2_init cX2_init 1 1 (ix 13 v i) 2 fv2 1 0 (vr 13 v i) := by
  refine CK.of [vr 13 v i] (fE G) (by decide +kernel) rfl rfl rfl (Nat.le_of_ble_eq_true rfl) rfl (fun X hX hR => ?_)
  refine ct_aload hX rfl rfl dX2_init_0 ?_
  refine ct_obj hX mL_X2_3 rfl rfl (by decide) dX2_init_1 ?_
  refine ct_aload hX rfl rfl dX2_init_4 ?_
  refine ct_bipush hX (by decide) dX2_init_5 ?_
  refine ct_put (T := TX2) (N := 7) (C := RX2) (kf := 3) (ty0 := tyX2) (ty := .int) hX (by omega) rfl mY_X2 tyX2_ok nmX2 rfl (by decide) rfl (by decide +kernel) rfl rfl (Nat.le_of_ble_eq_true rfl) dX2_init_7 mF_X2_9 ?_
  exact ct_ret1 hX hR rfl (fE_at o0) dX2_init_10
theorem K_X6 {G : GC} : CK G yX6_init cX6_init 1 1 (1) 6 fv6 3 70 (vr 14 0 0) := by
  refine CK.of [vr 14 0 0] (fE G) (by decide +kernel) rfl rfl rfl (Nat.le_of_ble_eq_true rfl) rfl (fun X hX hR => ?_)
  refine ct_aload hX rfl rfl dX6_init_0 ?_
  refine ct_obj hX mL_X6_3 rfl rfl (by decide) dX6_init_1 ?_
  refine ct_aload hX rfl rfl dX6_init_4 ?_
  refine ct_bipush hX (by decide) dX6_init_5 ?_
  refine ct_newa (aty := .int) (N := 64) (c := 0) (t := 15) (v := 0) (i := 0) hX (by omega) rfl mA_int (ty := .int) rfl rfl (by decide) rfl rfl (by decide) (fE_at (t := 15) (v := 0) (i := 0) (by unfold vok; decide +kernel)) (by omega) (by omega) dX6_init_7 ?_
  refine ct_put (T := TX6) (N := 5) (C := RX6) (kf := 0) (ty0 := tyX6) (ty := (.array .int)) hX (by omega) rfl mY_X6 tyX6_ok nmX6 rfl (by decide) rfl (by decide +kernel) rfl rfl (Nat.le_of_ble_eq_true rfl) dX6_init_9 mF_X6_11 ?_
  refine ct_aload hX rfl rfl dX6_init_12 ?_
  refine ct_bipush hX (by decide) dX6_init_13 ?_
  refine ct_newa (aty := .int) (N := 6) (c := 0) (t := 16) (v := 0) (i := 0) hX (by omega) rfl mA_int (ty := .int) rfl rfl (by decide) rfl rfl (by decide) (fE_at (t := 16) (v := 0) (i := 0) (by unfold vok; decide +kernel)) (by omega) (by omega) dX6_init_15 ?_
  refine ct_put (T := TX6) (N := 5) (C := RX6) (kf := 3) (ty0 := tyX6) (ty := (.array .int)) hX (by omega) rfl mY_X6 tyX6_ok nmX6 rfl (by decide) rfl (by decide +kernel) rfl rfl (Nat.le_of_ble_eq_true rfl) dX6_init_17 mF_X6_15 ?_
  exact ct_ret1 hX hR rfl (fE_at (t := 14) (v := 0) (i := 0) (by unfold vok; decide +kernel)) dX6_init_20
theorem K_X0 {G : GC} : CK G yX0_init cX0_init 1 2 264 0 fv0 6 140 (vr 29 0 0) := by
  refine CK.of [vr 29 0 0] (fE G) (by decide +kernel) rfl rfl rfl (Nat.le_of_ble_eq_true rfl) rfl (fun X hX hR => ?_)
  refine ct_aload hX rfl rfl dX0_init_0 ?_
  refine ct_obj hX mL_X0_3 rfl rfl (by decide) dX0_init_1 ?_
  refine ct_aload hX rfl rfl dX0_init_4 ?_
  refine ct_bipush hX (by decide) dX0_init_5 ?_
  refine ct_newa (aty := .boolean) (N := 64) (c := 1) (t := 30) (v := 0) (i := 0) hX (by omega) rfl mA_boolean (ty := .boolean) rfl rfl (by decide) rfl rfl (by decide) (fE_at (t := 30) (v := 0) (i := 0) (by unfold vok; decide +kernel)) (by omega) (by omega) dX0_init_7 ?_
  refine ct_put (T := TX0) (N := 3) (C := RX0) (kf := 0) (ty0 := tyX0) (ty := (.array .boolean)) hX (by omega) rfl mY_X0 tyX0_ok nmX0 rfl (by decide) rfl (by decide +kernel) rfl rfl (Nat.le_of_ble_eq_true rfl) dX0_init_9 mF_X0_11 ?_
  refine ct_aload hX rfl rfl dX0_init_12 ?_
  refine ct_bipush hX (by decide) dX0_init_13 ?_
  refine ct_newa (aty := .boolean) (N := 64) (c := 1) (t := 31) (v := 0) (i := 0) hX (by omega) rfl mA_boolean (ty := .boolean) rfl rfl (by decide) rfl rfl (by decide) (fE_at (t := 31) (v := 0) (i := 0) (by unfold vok; decide +kernel)) (by omega) (by omega) dX0_init_15 ?_
  refine ct_put (T := TX0) (N := 3) (C := RX0) (kf := 1) (ty0 := tyX0) (ty := (.array .boolean)) hX (by omega) rfl mY_X0 tyX0_ok nmX0 rfl (by decide) rfl (by decide +kernel) rfl rfl (Nat.le_of_ble_eq_true rfl) dX0_init_17 mF_X0_15 ?_
  refine ct_aload hX rfl rfl dX0_init_20 ?_
  refine ct_new (t := 17) (v := 4) (i := 0) (T := TX1) (N := 6) (ty := tyX1) hX (by omega) rfl (K_X1 (e := 4) (by unfold vok; decide +kernel) (by unfold vok; decide +kernel) (by unfold vok; decide +kernel) rfl rfl) (by decide) (by decide) (by decide) mY_X1 tyX1_ok rfl fv1_ok mK_X0_18 rfl mM_X1 mN_X1 rfl rfl mC_X1_init mL_X0_20 mI_X1_init (by decide +kernel) (fun _ _ _ => rfl) rfl (by decide) (by omega) (by omega) dX0_init_21 dX0_init_24 dX0_init_25 ?_
  refine ct_put (T := TX0) (N := 3) (C := RX0) (kf := 2) (ty0 := tyX0) (ty := (.object RX1)) hX (by omega) rfl mY_X0 tyX0_ok nmX0 rfl (by decide) rfl (by decide +kernel) rfl rfl (Nat.le_of_ble_eq_true rfl) dX0_init_28 mF_X0_21 ?_
  exact ct_ret1 hX hR rfl (fE_at (t := 29) (v := 0) (i := 0) (by unfold vok; decide +kernel)) dX0_init_31
theorem vok22 : ∀ j : Nat, j < 6 → vok 22 0 (j : Int) := by unfold vok; decide +kernel
theorem vok25 : ∀ j : Nat, j < 35 → vok 25 0 (j : Int) := by unfold vok; decide +kernel
theorem vok27 : ∀ j : Nat, j < 3 → vok 27 0 (j : Int) := by unfold vok; decide +kernel
theorem K_X4 {G : GC} : CK G yX4_init cX4_init 1 2 205 4 fv4 14 66 (vr 20 0 0) := by
  refine CK.of [vr 20 0 0] (fE G) (by decide +kernel) rfl rfl rfl (Nat.le_of_ble_eq_true rfl) rfl (fun X hX hR => ?_)
  refine ct_aload hX rfl rfl dX4_init_0 ?_
  refine ct_obj hX mL_X4_3 rfl rfl (by decide) dX4_init_1 ?_
  refine ct_aload hX rfl rfl dX4_init_4 ?_
  refine ct_bipush hX (by decide) dX4_init_5 ?_
  refine ct_bipush hX (by decide) dX4_init_7 ?_
  refine ct_multi (t := 21) (v := 0) (i := 0) (N := 6) (M := 6) (f := fun j => ad G 22 0 (j : Int)) hX (by omega) rfl mK_X4_9 rfl rfl rfl (by decide) (by decide) (fE_at (t := 21) (v := 0) (i := 0) (by unfold vok; decide +kernel)) (fun j hj => ad_this (by decide) (show 207 + (j : Int).toNat = _ by omega)) (fun j hj => (congrArg (fE G) (show 206 + 1 + j = ix 22 0 (j : Int) from (show 206 + 1 + j = 207 + (j : Int).toNat by omega))).trans (fE_at (vok22 j hj))) (by omega) (by omega) dX4_init_9 ?_
  refine ct_put (T := TX4) (N := 3) (C := RX4) (kf := 0) (ty0 := tyX4) (ty := (.array (.array .int))) hX (by omega) rfl mY_X4 tyX4_ok nmX4 rfl (by decide) rfl (by decide +kernel) rfl rfl (Nat.le_of_ble_eq_true rfl) dX4_init_13 mF_X4_11 ?_
  refine ct_aload hX rfl rfl dX4_init_16 ?_
  refine ct_new (t := 17) (v := 1) (i := 0) (T := TX1) (N := 6) (ty := tyX1) hX (by omega) rfl (K_X1 (e := 1) (by unfold vok; decide +kernel) (by unfold vok; decide +kernel) (by unfold vok; decide +kernel) rfl rfl) (by decide) (by decide) (by decide) mY_X1 tyX1_ok rfl fv1_ok mK_X4_16 rfl mM_X1 mN_X1 rfl rfl mC_X1_init mL_X4_18 mI_X1_init (by decide +kernel) (fun _ _ _ => rfl) rfl (by decide) (by omega) (by omega) dX4_init_17 dX4_init_20 dX4_init_21 ?_
  refine ct_put (T := TX4) (N := 3) (C := RX4) (kf := 1) (ty0 := tyX4) (ty := (.object RX1)) hX (by omega) rfl mY_X4 tyX4_ok nmX4 rfl (by decide) rfl (by decide +kernel) rfl rfl (Nat.le_of_ble_eq_true rfl) dX4_init_24 mF_X4_19 ?_
  refine ct_aload hX rfl rfl dX4_init_27 ?_
  refine ct_new (t := 17) (v := 2) (i := 0) (T := TX1) (N := 6) (ty := tyX1) hX (by omega) rfl (K_X1 (e := 2) (by unfold vok; decide +kernel) (by unfold vok; decide +kernel) (by unfold vok; decide +kernel) rfl rfl) (by decide) (by decide) (by decide) mY_X1 tyX1_ok rfl fv1_ok mK_X4_16 rfl mM_X1 mN_X1 rfl rfl mC_X1_init mL_X4_18 mI_X1_init (by decide +kernel) (fun _ _ _ => rfl) rfl (by decide) (by omega) (by omega) dX4_init_28 dX4_init_31 dX4_init_32 ?_
  refine ct_put (T := TX4) (N := 3) (C := RX4) (kf := 2) (ty0 := tyX4) (ty := (.object RX1)) hX (by omega) rfl mY_X4 tyX4_ok nmX4 rfl (by decide) rfl (by decide +kernel) rfl rfl (Nat.le_of_ble_eq_true rfl) dX4_init_35 mF_X4_23 ?_
  exact ct_ret1 hX hR rfl (fE_at (t := 20) (v := 0) (i := 0) (by unfold vok; decide +kernel)) dX4_init_38
theorem K_X5 {G : GC} : CK G yX5_init cX5_init 1 2 219 5 fv5 45 533 (vr 23 0 0) := by
  refine CK.of [vr 23 0 0] (fE G) (by decide +kernel) rfl rfl rfl (Nat.le_of_ble_eq_true rfl) rfl (fun X hX hR => ?_)
  refine ct_aload hX rfl rfl dX5_init_0 ?_
  refine ct_obj hX mL_X5_1 rfl rfl (by decide) dX5_init_1 ?_
  refine ct_aload hX rfl rfl dX5_init_4 ?_
  refine ct_bipush hX (by decide) dX5_init_5 ?_
  refine ct_iconst hX dX5_init_7 ?_
  refine ct_multi (t := 24) (v := 0) (i := 0) (N := 35) (M := 3) (f := fun j => ad G 25 0 (j : Int)) hX (by omega) rfl mK_X5_9 rfl rfl rfl (by decide) (by decide) (fE_at (t := 24) (v := 0) (i := 0) (by unfold vok; decide +kernel)) (fun j hj => ad_this (by decide) (show 221 + (j : Int).toNat = _ by omega)) (fun j hj => (congrArg (fE G) (show 220 + 1 + j = ix 25 0 (j : Int) from (show 220 + 1 + j = 221 + (j : Int).toNat by omega))).trans (fE_at (vok25 j hj))) (by omega) (by omega) dX5_init_8 ?_
  refine ct_put (T := TX5) (N := 7) (C := RX5) (kf := 0) (ty0 := tyX5) (ty := (.array (.array .int))) hX (by omega) rfl mY_X5 tyX5_ok nmX5 rfl (by decide) rfl (by decide +kernel) rfl rfl (Nat.le_of_ble_eq_true rfl) dX5_init_12 mF_X5_11 ?_
  refine ct_aload hX rfl rfl dX5_init_15 ?_
  refine ct_iconst hX dX5_init_16 ?_
  refine ct_bipush hX (by decide) dX5_init_17 ?_
  refine ct_multi (t := 26) (v := 0) (i := 0) (N := 3) (M := 125) (f := fun j => ad G 27 0 (j : Int)) hX (by omega) rfl mK_X5_9 rfl rfl rfl (by decide) (by decide) (fE_at (t := 26) (v := 0) (i := 0) (by unfold vok; decide +kernel)) (fun j hj => ad_this (by decide) (show 257 + (j : Int).toNat = _ by omega)) (fun j hj => (congrArg (fE G) (show 256 + 1 + j = ix 27 0 (j : Int) from (show 256 + 1 + j = 257 + (j : Int).toNat by omega))).trans (fE_at (vok27 j hj))) (by omega) (by omega) dX5_init_19 ?_
  refine ct_put (T := TX5) (N := 7) (C := RX5) (kf := 2) (ty0 := tyX5) (ty := (.array (.array .int))) hX (by omega) rfl mY_X5 tyX5_ok nmX5 rfl (by decide) rfl (by decide +kernel) rfl rfl (Nat.le_of_ble_eq_true rfl) dX5_init_23 mF_X5_14 ?_
  refine ct_aload hX rfl rfl dX5_init_26 ?_
  refine ct_iconst hX dX5_init_27 ?_
  refine ct_newa (aty := .int) (N := 3) (c := 0) (t := 28) (v := 0) (i := 0) hX (by omega) rfl mA_int (ty := .int) rfl rfl (by decide) rfl rfl (by decide) (fE_at (t := 28) (v := 0) (i := 0) (by unfold vok; decide +kernel)) (by omega) (by omega) dX5_init_28 ?_
  refine ct_put (T := TX5) (N := 7) (C := RX5) (kf := 3) (ty0 := tyX5) (ty := (.array .int)) hX (by omega) rfl mY_X5 tyX5_ok nmX5 rfl (by decide) rfl (by decide +kernel) rfl rfl (Nat.le_of_ble_eq_true rfl) dX5_init_30 mF_X5_17 ?_
  refine ct_aload hX rfl rfl dX5_init_33 ?_
  refine ct_new (t := 17) (v := 3) (i := 0) (T := TX1) (N := 6) (ty := tyX1) hX (by omega) rfl (K_X1 (e := 3) (by unfold vok; decide +kernel) (by unfold vok; decide +kernel) (by unfold vok; decide +kernel) rfl rfl) (by decide) (by decide) (by decide) mY_X1 tyX1_ok rfl fv1_ok mK_X5_21 rfl mM_X1 mN_X1 rfl rfl mC_X1_init mL_X5_23 mI_X1_init (by decide +kernel) (fun _ _ _ => rfl) rfl (by decide) (by omega) (by omega) dX5_init_34 dX5_init_37 dX5_init_38 ?_
  refine ct_put (T := TX5) (N := 7) (C := RX5) (kf := 4) (ty0 := tyX5) (ty := (.object RX1)) hX (by omega) rfl mY_X5 tyX5_ok nmX5 rfl (by decide) rfl (by decide +kernel) rfl rfl (Nat.le_of_ble_eq_true rfl) dX5_init_41 mF_X5_24 ?_
  exact ct_ret1 hX hR rfl (fE_at (t := 23) (v := 0) (i := 0) (by unfold vok; decide +kernel)) dX5_init_44
