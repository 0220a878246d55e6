/-! ===== 38c: the constructors of the model and of HalfHere ===== -/
def pE (G : GC) : Nat → va_E := upE (fE G) 274 (.inl (G.2.2.1 0, 267, .inl (fun _ => Int32.ofInt 0)))
theorem pE_o {G : GC} {j : Nat} (h : j ≠ 274) : fE G j = pE G j := (upE_ne h).symm
theorem pE_fin {G : GC} : fE G 274 = .inl (G.2.2.1 0, 267, .inl (upd (fun _ => Int32.ofInt 0) (0 : Int).toNat (Int32.ofInt 3))) := by
  rw [show (274 : Nat) = ix 42 0 0 from rfl, fE_at (t := 42) (v := 0) (i := 0) (by unfold vok; decide +kernel)]
  show Sum.inl _ = _
  refine congrArg (fun f => (Sum.inl (G.2.2.1 0, 267, Sum.inl f) : va_E)) (funext fun j => ?_)
  cases j with
  | zero => rfl
  | succ j =>
    show Int32.ofInt (m0 42 0 0 ((j + 1 : Nat) : Int)) = _
    have e1 : m0 42 0 0 ((j + 1 : Nat) : Int) = 0 := by
      show (if ((j + 1 : Nat) : Int) = 0 then (3 : Int) else 0) = 0
      rw [if_neg (by omega)]
    rw [e1]
    exact (if_neg (by show ¬ (j + 1 = 0); omega)).symm
theorem K_X10 {G : GC} : CK G yX10_init cX10_init 1 1 272 10 fv10 13 1004 (vr 40 0 0) := by
  refine CK.of [vr 40 0 0] (pE G) (by decide +kernel) rfl rfl rfl (Nat.le_of_ble_eq_true rfl) rfl (fun X hX hR => ?_)
  refine ct_aload hX rfl rfl dX10_init_0 ?_
  refine ct_obj hX mL_X10_1 rfl rfl (by decide) dX10_init_1 ?_
  refine ct_aload hX rfl rfl dX10_init_4 ?_
  refine ct_bipush hX (by decide) dX10_init_5 ?_
  refine ct_newa (aty := .int) (N := 7) (c := 0) (t := 41) (v := 0) (i := 0) hX (by omega) rfl mA_int (ty := .int) rfl rfl (by decide) rfl rfl (by decide) ((pE_o (by decide)).symm.trans (fE_at (t := 41) (v := 0) (i := 0) (by unfold vok; decide +kernel))) (by omega) (by omega) dX10_init_7 ?_
  refine ct_put (T := TX10) (N := 20) (C := RX10) (kf := 0) (ty0 := tyX10) (ty := (.array .int)) hX (by omega) rfl mY_X10 tyX10_ok nmX10 rfl (by decide) rfl (by decide +kernel) rfl rfl (Nat.le_of_ble_eq_true rfl) dX10_init_9 mF_X10_7 ?_
  refine ct_aload hX rfl rfl dX10_init_12 ?_
  refine ct_sipush hX (by decide) dX10_init_13 ?_
  refine ct_newa (aty := .int) (N := 267) (c := 0) (t := 42) (v := 0) (i := 0) hX (by omega) rfl mA_int (ty := .int) rfl rfl (by decide) rfl rfl (by decide) (upE_eq _ _ _) (by omega) (by omega) dX10_init_16 ?_
  refine ct_put (T := TX10) (N := 20) (C := RX10) (kf := 1) (ty0 := tyX10) (ty := (.array .int)) hX (by omega) rfl mY_X10 tyX10_ok nmX10 rfl (by decide) rfl (by decide +kernel) rfl rfl (Nat.le_of_ble_eq_true rfl) dX10_init_18 mF_X10_13 ?_
  refine ct_aload hX rfl rfl dX10_init_21 ?_
  refine ct_sipush hX (by decide) dX10_init_22 ?_
  refine ct_newa (aty := .int) (N := 267) (c := 0) (t := 43) (v := 0) (i := 0) hX (by omega) rfl mA_int (ty := .int) rfl rfl (by decide) rfl rfl (by decide) ((pE_o (by decide)).symm.trans (fE_at (t := 43) (v := 0) (i := 0) (by unfold vok; decide +kernel))) (by omega) (by omega) dX10_init_25 ?_
  refine ct_put (T := TX10) (N := 20) (C := RX10) (kf := 2) (ty0 := tyX10) (ty := (.array .int)) hX (by omega) rfl mY_X10 tyX10_ok nmX10 rfl (by decide) rfl (by decide +kernel) rfl rfl (Nat.le_of_ble_eq_true rfl) dX10_init_27 mF_X10_16 ?_
  refine ct_aload hX rfl rfl dX10_init_30 ?_
  refine ct_sipush hX (by decide) dX10_init_31 ?_
  refine ct_newa (aty := .int) (N := 267) (c := 0) (t := 44) (v := 0) (i := 0) hX (by omega) rfl mA_int (ty := .int) rfl rfl (by decide) rfl rfl (by decide) ((pE_o (by decide)).symm.trans (fE_at (t := 44) (v := 0) (i := 0) (by unfold vok; decide +kernel))) (by omega) (by omega) dX10_init_34 ?_
  refine ct_put (T := TX10) (N := 20) (C := RX10) (kf := 3) (ty0 := tyX10) (ty := (.array .int)) hX (by omega) rfl mY_X10 tyX10_ok nmX10 rfl (by decide) rfl (by decide +kernel) rfl rfl (Nat.le_of_ble_eq_true rfl) dX10_init_36 mF_X10_19 ?_
  refine ct_aload hX rfl rfl dX10_init_39 ?_
  refine ct_bipush hX (by decide) dX10_init_40 ?_
  refine ct_newa (aty := .int) (N := 64) (c := 0) (t := 45) (v := 0) (i := 0) hX (by omega) rfl mA_int (ty := .int) rfl rfl (by decide) rfl rfl (by decide) ((pE_o (by decide)).symm.trans (fE_at (t := 45) (v := 0) (i := 0) (by unfold vok; decide +kernel))) (by omega) (by omega) dX10_init_42 ?_
  refine ct_put (T := TX10) (N := 20) (C := RX10) (kf := 5) (ty0 := tyX10) (ty := (.array .int)) hX (by omega) rfl mY_X10 tyX10_ok nmX10 rfl (by decide) rfl (by decide +kernel) rfl rfl (Nat.le_of_ble_eq_true rfl) dX10_init_44 mF_X10_22 ?_
  refine ct_aload hX rfl rfl dX10_init_47 ?_
  refine ct_bipush hX (by decide) dX10_init_48 ?_
  refine ct_newa (aty := .int) (N := 6) (c := 0) (t := 46) (v := 0) (i := 0) hX (by omega) rfl mA_int (ty := .int) rfl rfl (by decide) rfl rfl (by decide) ((pE_o (by decide)).symm.trans (fE_at (t := 46) (v := 0) (i := 0) (by unfold vok; decide +kernel))) (by omega) (by omega) dX10_init_50 ?_
  refine ct_put (T := TX10) (N := 20) (C := RX10) (kf := 6) (ty0 := tyX10) (ty := (.array .int)) hX (by omega) rfl mY_X10 tyX10_ok nmX10 rfl (by decide) rfl (by decide +kernel) rfl rfl (Nat.le_of_ble_eq_true rfl) dX10_init_52 mF_X10_25 ?_
  refine ct_aload hX rfl rfl dX10_init_55 ?_
  refine ct_bipush hX (by decide) dX10_init_56 ?_
  refine ct_newa (aty := .int) (N := 36) (c := 0) (t := 47) (v := 0) (i := 0) hX (by omega) rfl mA_int (ty := .int) rfl rfl (by decide) rfl rfl (by decide) ((pE_o (by decide)).symm.trans (fE_at (t := 47) (v := 0) (i := 0) (by unfold vok; decide +kernel))) (by omega) (by omega) dX10_init_58 ?_
  refine ct_put (T := TX10) (N := 20) (C := RX10) (kf := 9) (ty0 := tyX10) (ty := (.array .int)) hX (by omega) rfl mY_X10 tyX10_ok nmX10 rfl (by decide) rfl (by decide +kernel) rfl rfl (Nat.le_of_ble_eq_true rfl) dX10_init_60 mF_X10_28 ?_
  refine ct_aload hX rfl rfl dX10_init_63 ?_
  refine ct_iconst hX dX10_init_64 ?_
  refine ct_newa (aty := .int) (N := 3) (c := 0) (t := 48) (v := 0) (i := 0) hX (by omega) rfl mA_int (ty := .int) rfl rfl (by decide) rfl rfl (by decide) ((pE_o (by decide)).symm.trans (fE_at (t := 48) (v := 0) (i := 0) (by unfold vok; decide +kernel))) (by omega) (by omega) dX10_init_65 ?_
  refine ct_put (T := TX10) (N := 20) (C := RX10) (kf := 10) (ty0 := tyX10) (ty := (.array .int)) hX (by omega) rfl mY_X10 tyX10_ok nmX10 rfl (by decide) rfl (by decide +kernel) rfl rfl (Nat.le_of_ble_eq_true rfl) dX10_init_67 mF_X10_31 ?_
  refine ct_aload hX rfl rfl dX10_init_70 ?_
  refine ct_bipush hX (by decide) dX10_init_71 ?_
  refine ct_newa (aty := .int) (N := 36) (c := 0) (t := 49) (v := 0) (i := 0) hX (by omega) rfl mA_int (ty := .int) rfl rfl (by decide) rfl rfl (by decide) ((pE_o (by decide)).symm.trans (fE_at (t := 49) (v := 0) (i := 0) (by unfold vok; decide +kernel))) (by omega) (by omega) dX10_init_73 ?_
  refine ct_put (T := TX10) (N := 20) (C := RX10) (kf := 14) (ty0 := tyX10) (ty := (.array .int)) hX (by omega) rfl mY_X10 tyX10_ok nmX10 rfl (by decide) rfl (by decide +kernel) rfl rfl (Nat.le_of_ble_eq_true rfl) dX10_init_75 mF_X10_34 ?_
  refine ct_aload hX rfl rfl dX10_init_78 ?_
  refine ct_iconst hX dX10_init_79 ?_
  refine ct_newa (aty := .int) (N := 3) (c := 0) (t := 50) (v := 0) (i := 0) hX (by omega) rfl mA_int (ty := .int) rfl rfl (by decide) rfl rfl (by decide) ((pE_o (by decide)).symm.trans (fE_at (t := 50) (v := 0) (i := 0) (by unfold vok; decide +kernel))) (by omega) (by omega) dX10_init_80 ?_
  refine ct_put (T := TX10) (N := 20) (C := RX10) (kf := 15) (ty0 := tyX10) (ty := (.array .int)) hX (by omega) rfl mY_X10 tyX10_ok nmX10 rfl (by decide) rfl (by decide +kernel) rfl rfl (Nat.le_of_ble_eq_true rfl) dX10_init_82 mF_X10_37 ?_
  refine ct_aload hX rfl rfl dX10_init_85 ?_
  refine ct_bipush hX (by decide) dX10_init_86 ?_
  refine ct_newa (aty := .int) (N := 36) (c := 0) (t := 51) (v := 0) (i := 0) hX (by omega) rfl mA_int (ty := .int) rfl rfl (by decide) rfl rfl (by decide) ((pE_o (by decide)).symm.trans (fE_at (t := 51) (v := 0) (i := 0) (by unfold vok; decide +kernel))) (by omega) (by omega) dX10_init_88 ?_
  refine ct_put (T := TX10) (N := 20) (C := RX10) (kf := 16) (ty0 := tyX10) (ty := (.array .int)) hX (by omega) rfl mY_X10 tyX10_ok nmX10 rfl (by decide) rfl (by decide +kernel) rfl rfl (Nat.le_of_ble_eq_true rfl) dX10_init_90 mF_X10_40 ?_
  refine ct_aload hX rfl rfl dX10_init_93 ?_
  refine ct_bipush hX (by decide) dX10_init_94 ?_
  refine ct_newa (aty := .int) (N := 12) (c := 0) (t := 52) (v := 0) (i := 0) hX (by omega) rfl mA_int (ty := .int) rfl rfl (by decide) rfl rfl (by decide) ((pE_o (by decide)).symm.trans (fE_at (t := 52) (v := 0) (i := 0) (by unfold vok; decide +kernel))) (by omega) (by omega) dX10_init_96 ?_
  refine ct_put (T := TX10) (N := 20) (C := RX10) (kf := 18) (ty0 := tyX10) (ty := (.array .int)) hX (by omega) rfl mY_X10 tyX10_ok nmX10 rfl (by decide) rfl (by decide +kernel) rfl rfl (Nat.le_of_ble_eq_true rfl) dX10_init_98 mF_X10_43 ?_
  refine ct_aload hX rfl rfl dX10_init_101 ?_
  refine ct_get (w := vr 42 0 0) (T := TX10) (N := 20) (C := RX10) (kf := 1) hX (by omega) rfl mY_X10 rfl (by decide) rfl dX10_init_102 mF_X10_13 ?_
  refine ct_iconst hX dX10_init_105 ?_
  refine ct_iconst hX dX10_init_106 ?_
  refine ct_iast (ja := 2) (n := 267) (E' := fE G) hX rfl (by omega) (by omega) (upE_eq _ _ _) (by decide) (by decide) (fun j hj => pE_o (by omega)) pE_fin dX10_init_107 ?_
  exact ct_ret1 hX hR rfl (fE_at (t := 40) (v := 0) (i := 0) (by unfold vok; decide +kernel)) dX10_init_108
theorem K_X9 {G : GC} : CK G yX9_init cX9_init 1 3 0 9 fv9 272 1962 (vr 0 0 0) := by
  refine CK.of [vr 0 0 0] (fE G) (by decide +kernel) rfl rfl rfl (Nat.le_of_ble_eq_true rfl) rfl (fun X hX hR => ?_)
  refine ct_aload hX rfl rfl dX9_init_0 ?_
  refine ct_obj hX mL_X9_1 rfl rfl (by decide) dX9_init_1 ?_
  refine ct_aload hX rfl rfl dX9_init_4 ?_
  refine ct_new (t := 14) (v := 0) (i := 0) (T := TX6) (N := 5) (ty := tyX6) hX (by omega) rfl K_X6 (by decide) (by decide) (by decide) mY_X6 tyX6_ok rfl fv6_ok mK_X9_7 rfl mM_X6 mN_X6 rfl rfl mC_X6_init mL_X9_9 mI_X6_init (by decide +kernel) (fun _ _ _ => rfl) rfl (by decide) (by omega) (by omega) dX9_init_5 dX9_init_8 dX9_init_9 ?_
  refine ct_put (T := TX9) (N := 12) (C := RX9) (kf := 0) (ty0 := tyX9) (ty := (.object RX6)) hX (by omega) rfl mY_X9 tyX9_ok nmX9 rfl (by decide) rfl (by decide +kernel) rfl rfl (Nat.le_of_ble_eq_true rfl) dX9_init_12 mF_X9_10 ?_
  refine ct_aload hX rfl rfl dX9_init_15 ?_
  refine ct_new (t := 1) (v := 0) (i := 0) (T := TX7) (N := 8) (ty := tyX7) hX (by omega) rfl (K_X7 (v := 0) (Or.inl rfl)) (by decide) (by decide) (by decide) mY_X7 tyX7_ok rfl fv7_ok mK_X9_16 rfl mM_X7 mN_X7 rfl rfl mC_X7_init mL_X9_18 mI_X7_init (by decide +kernel) (fun _ _ _ => rfl) rfl (by decide) (by omega) (by omega) dX9_init_16 dX9_init_19 dX9_init_20 ?_
  refine ct_put (T := TX9) (N := 12) (C := RX9) (kf := 1) (ty0 := tyX9) (ty := (.object RX7)) hX (by omega) rfl mY_X9 tyX9_ok nmX9 rfl (by decide) rfl (by decide +kernel) rfl rfl (Nat.le_of_ble_eq_true rfl) dX9_init_23 mF_X9_19 ?_
  refine ct_aload hX rfl rfl dX9_init_26 ?_
  refine ct_new (t := 1) (v := 1) (i := 0) (T := TX7) (N := 8) (ty := tyX7) hX (by omega) rfl (K_X7 (v := 1) (Or.inr (Or.inl rfl))) (by decide) (by decide) (by decide) mY_X7 tyX7_ok rfl fv7_ok mK_X9_16 rfl mM_X7 mN_X7 rfl rfl mC_X7_init mL_X9_18 mI_X7_init (by decide +kernel) (fun _ _ _ => rfl) rfl (by decide) (by omega) (by omega) dX9_init_27 dX9_init_30 dX9_init_31 ?_
  refine ct_put (T := TX9) (N := 12) (C := RX9) (kf := 2) (ty0 := tyX9) (ty := (.object RX7)) hX (by omega) rfl mY_X9 tyX9_ok nmX9 rfl (by decide) rfl (by decide +kernel) rfl rfl (Nat.le_of_ble_eq_true rfl) dX9_init_34 mF_X9_23 ?_
  refine ct_aload hX rfl rfl dX9_init_37 ?_
  refine ct_new (t := 1) (v := 2) (i := 0) (T := TX7) (N := 8) (ty := tyX7) hX (by omega) rfl (K_X7 (v := 2) (Or.inr (Or.inr rfl))) (by decide) (by decide) (by decide) mY_X7 tyX7_ok rfl fv7_ok mK_X9_16 rfl mM_X7 mN_X7 rfl rfl mC_X7_init mL_X9_18 mI_X7_init (by decide +kernel) (fun _ _ _ => rfl) rfl (by decide) (by omega) (by omega) dX9_init_38 dX9_init_41 dX9_init_42 ?_
  refine ct_put (T := TX9) (N := 12) (C := RX9) (kf := 3) (ty0 := tyX9) (ty := (.object RX7)) hX (by omega) rfl mY_X9 tyX9_ok nmX9 rfl (by decide) rfl (by decide +kernel) rfl rfl (Nat.le_of_ble_eq_true rfl) dX9_init_45 mF_X9_26 ?_
  refine ct_aload hX rfl rfl dX9_init_48 ?_
  refine ct_iconst hX dX9_init_49 ?_
  refine ct_put (T := TX9) (N := 12) (C := RX9) (kf := 4) (ty0 := tyX9) (ty := .boolean) hX (by omega) rfl mY_X9 tyX9_ok nmX9 rfl (by decide) rfl (by decide +kernel) rfl rfl (Nat.le_of_ble_eq_true rfl) dX9_init_50 mF_X9_29 ?_
  refine ct_aload hX rfl rfl dX9_init_53 ?_
  refine ct_new (t := 17) (v := 0) (i := 0) (T := TX1) (N := 6) (ty := tyX1) hX (by omega) rfl (K_X1 (e := 0) (by unfold vok; decide +kernel) (by unfold vok; decide +kernel) (by unfold vok; decide +kernel) rfl rfl) (by decide) (by decide) (by decide) mY_X1 tyX1_ok rfl fv1_ok mK_X9_33 rfl mM_X1 mN_X1 rfl rfl mC_X1_init mL_X9_35 mI_X1_init (by decide +kernel) (fun _ _ _ => rfl) rfl (by decide) (by omega) (by omega) dX9_init_54 dX9_init_57 dX9_init_58 ?_
  refine ct_put (T := TX9) (N := 12) (C := RX9) (kf := 5) (ty0 := tyX9) (ty := (.object RX1)) hX (by omega) rfl mY_X9 tyX9_ok nmX9 rfl (by decide) rfl (by decide +kernel) rfl rfl (Nat.le_of_ble_eq_true rfl) dX9_init_61 mF_X9_36 ?_
  refine ct_aload hX rfl rfl dX9_init_64 ?_
  refine ct_new (t := 20) (v := 0) (i := 0) (T := TX4) (N := 3) (ty := tyX4) hX (by omega) rfl K_X4 (by decide) (by decide) (by decide) mY_X4 tyX4_ok rfl fv4_ok mK_X9_40 rfl mM_X4 mN_X4 rfl rfl mC_X4_init mL_X9_42 mI_X4_init (by decide +kernel) (fun _ _ _ => rfl) rfl (by decide) (by omega) (by omega) dX9_init_65 dX9_init_68 dX9_init_69 ?_
  refine ct_put (T := TX9) (N := 12) (C := RX9) (kf := 6) (ty0 := tyX9) (ty := (.object RX4)) hX (by omega) rfl mY_X9 tyX9_ok nmX9 rfl (by decide) rfl (by decide +kernel) rfl rfl (Nat.le_of_ble_eq_true rfl) dX9_init_72 mF_X9_43 ?_
  refine ct_aload hX rfl rfl dX9_init_75 ?_
  refine ct_new (t := 23) (v := 0) (i := 0) (T := TX5) (N := 7) (ty := tyX5) hX (by omega) rfl K_X5 (by decide) (by decide) (by decide) mY_X5 tyX5_ok rfl fv5_ok mK_X9_47 rfl mM_X5 mN_X5 rfl rfl mC_X5_init mL_X9_49 mI_X5_init (by decide +kernel) (fun _ _ _ => rfl) rfl (by decide) (by omega) (by omega) dX9_init_76 dX9_init_79 dX9_init_80 ?_
  refine ct_put (T := TX9) (N := 12) (C := RX9) (kf := 7) (ty0 := tyX9) (ty := (.object RX5)) hX (by omega) rfl mY_X9 tyX9_ok nmX9 rfl (by decide) rfl (by decide +kernel) rfl rfl (Nat.le_of_ble_eq_true rfl) dX9_init_83 mF_X9_50 ?_
  refine ct_aload hX rfl rfl dX9_init_86 ?_
  refine ct_new (t := 29) (v := 0) (i := 0) (T := TX0) (N := 3) (ty := tyX0) hX (by omega) rfl K_X0 (by decide) (by decide) (by decide) mY_X0 tyX0_ok rfl fv0_ok mK_X9_54 rfl mM_X0 mN_X0 rfl rfl mC_X0_init mL_X9_56 mI_X0_init (by decide +kernel) (fun _ _ _ => rfl) rfl (by decide) (by omega) (by omega) dX9_init_87 dX9_init_90 dX9_init_91 ?_
  refine ct_put (T := TX9) (N := 12) (C := RX9) (kf := 8) (ty0 := tyX9) (ty := (.object RX0)) hX (by omega) rfl mY_X9 tyX9_ok nmX9 rfl (by decide) rfl (by decide +kernel) rfl rfl (Nat.le_of_ble_eq_true rfl) dX9_init_94 mF_X9_57 ?_
  refine ct_aload hX rfl rfl dX9_init_97 ?_
  refine ct_bipush hX (by decide) dX9_init_98 ?_
  refine ct_newa (aty := .int) (N := 12) (c := 0) (t := 32) (v := 0) (i := 0) hX (by omega) rfl mA_int (ty := .int) rfl rfl (by decide) rfl rfl (by decide) (fE_at (t := 32) (v := 0) (i := 0) (by unfold vok; decide +kernel)) (by omega) (by omega) dX9_init_100 ?_
  refine ct_put (T := TX9) (N := 12) (C := RX9) (kf := 9) (ty0 := tyX9) (ty := (.array .int)) hX (by omega) rfl mY_X9 tyX9_ok nmX9 rfl (by decide) rfl (by decide +kernel) rfl rfl (Nat.le_of_ble_eq_true rfl) dX9_init_102 mF_X9_61 ?_
  refine ct_aload hX rfl rfl dX9_init_105 ?_
  refine ct_iconst hX dX9_init_106 ?_
  refine ct_put (T := TX9) (N := 12) (C := RX9) (kf := 10) (ty0 := tyX9) (ty := .int) hX (by omega) rfl mY_X9 tyX9_ok nmX9 rfl (by decide) rfl (by decide +kernel) rfl rfl (Nat.le_of_ble_eq_true rfl) dX9_init_107 mF_X9_65 ?_
  refine ct_aload hX rfl rfl dX9_init_110 ?_
  refine ct_bipush hX (by decide) dX9_init_111 ?_
  refine ct_newa (aty := .int) (N := 7) (c := 0) (t := 33) (v := 0) (i := 0) hX (by omega) rfl mA_int (ty := .int) rfl rfl (by decide) rfl rfl (by decide) (fE_at (t := 33) (v := 0) (i := 0) (by unfold vok; decide +kernel)) (by omega) (by omega) dX9_init_113 ?_
  refine ct_put (T := TX9) (N := 12) (C := RX9) (kf := 11) (ty0 := tyX9) (ty := (.array .int)) hX (by omega) rfl mY_X9 tyX9_ok nmX9 rfl (by decide) rfl (by decide +kernel) rfl rfl (Nat.le_of_ble_eq_true rfl) dX9_init_115 mF_X9_69 ?_
  exact ct_ret1 hX hR rfl (fE_at (t := 0) (v := 0) (i := 0) (by unfold vok; decide +kernel)) dX9_init_118
