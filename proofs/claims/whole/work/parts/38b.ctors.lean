/-! ===== 38b: the constructors of Village, the model, HalfHere ===== -/
/-- the first a places know their cells -/
def vf (g : Nat → Nat) (a : Nat) : Nat → Option Nat := fun j => if j < a then some (g j) else none
theorem vf_0 (g : Nat → Nat) : vf g 0 = fun _ => none := by
  funext j
  exact if_neg (by omega)
theorem vf_s (g : Nat → Nat) (a : Nat) : va_up (vf g a) a (some (g a)) = vf g (a + 1) := by
  funext j
  unfold vf va_up
  by_cases h : j = a
  · subst h
    rw [if_pos rfl, if_pos (by omega)]
  · rw [if_neg h]
    show (if j < a then some (g j) else none) = _
    by_cases h2 : j < a
    · rw [if_pos h2, if_pos (by omega)]
    · rw [if_neg h2, if_neg (by omega)]
def vE (G : GC) (v : Int) (a b c : Nat) : Nat → va_E := fun j =>
  if j = 19 + 66 * v.toNat then .inl (G.2.2.1 4, 6, .inr (.inr (.inr (.inr (vf (fun j => ad G 9 v j) a)))))
  else if j = 20 + 66 * v.toNat then .inl (G.2.2.1 5, 6, .inr (.inr (.inr (.inr (vf (fun j => ad G 11 v j) b)))))
  else if j = 21 + 66 * v.toNat then .inl (G.2.2.1 6, 24, .inr (.inr (.inr (.inr (vf (fun j => ad G 13 v j) c)))))
  else fE G j
theorem vE_6 {G : GC} {v : Int} {a b c j : Nat} (h : j = 19 + 66 * v.toNat) : vE G v a b c j = .inl (G.2.2.1 4, 6, .inr (.inr (.inr (.inr (vf (fun j => ad G 9 v j) a))))) := if_pos h
theorem vE_7 {G : GC} {v : Int} {a b c j : Nat} (h : j = 20 + 66 * v.toNat) : vE G v a b c j = .inl (G.2.2.1 5, 6, .inr (.inr (.inr (.inr (vf (fun j => ad G 11 v j) b))))) := by
  unfold vE
  rw [if_neg (by omega), if_pos h]
theorem vE_8 {G : GC} {v : Int} {a b c j : Nat} (h : j = 21 + 66 * v.toNat) : vE G v a b c j = .inl (G.2.2.1 6, 24, .inr (.inr (.inr (.inr (vf (fun j => ad G 13 v j) c))))) := by
  unfold vE
  rw [if_neg (by omega), if_neg (by omega), if_pos h]
theorem vE_o {G : GC} {v : Int} {a b c j : Nat} (h : j < 19 + 66 * v.toNat ∨ 21 + 66 * v.toNat < j) : vE G v a b c j = fE G j := by
  unfold vE
  rw [if_neg (by omega), if_neg (by omega), if_neg (by omega)]
theorem vE_n6 {G : GC} {v : Int} {a a' b c j : Nat} (h : j ≠ 19 + 66 * v.toNat) : vE G v a' b c j = vE G v a b c j := by
  unfold vE
  rw [if_neg h, if_neg h]
theorem vE_n7 {G : GC} {v : Int} {a b b' c j : Nat} (h : j ≠ 20 + 66 * v.toNat) : vE G v a b' c j = vE G v a b c j := by
  unfold vE
  rw [if_neg h, if_neg h]
theorem vE_n8 {G : GC} {v : Int} {a b c c' j : Nat} (h : j ≠ 21 + 66 * v.toNat) : vE G v a b c' j = vE G v a b c j := by
  unfold vE
  rw [if_neg h, if_neg h]
/-- one of the three villages -/
def V3 (v : Int) : Prop := v = 0 ∨ v = 1 ∨ v = 2
theorem vok0 {t : Nat} (ht : t = 1 ∨ t = 2 ∨ t = 4 ∨ t = 6 ∨ t = 7 ∨ t = 8) {v : Int} (hv : V3 v) : vok t v 0 := by
  rcases hv with rfl | rfl | rfl <;> rcases ht with rfl | rfl | rfl | rfl | rfl | rfl <;> (unfold vok; decide +kernel)
theorem vok6 {t : Nat} (ht : t = 3 ∨ t = 5 ∨ t = 9 ∨ t = 10 ∨ t = 11 ∨ t = 12) {v : Int} (hv : V3 v) : ∀ j : Nat, j < 6 → vok t v (j : Int) := by
  rcases hv with rfl | rfl | rfl <;> rcases ht with rfl | rfl | rfl | rfl | rfl | rfl <;> (unfold vok; decide +kernel)
theorem vok13 {v : Int} (hv : V3 v) : ∀ j : Nat, j < 24 → vok 13 v (j : Int) := by
  rcases hv with rfl | rfl | rfl <;> (unfold vok; decide +kernel)
theorem fE_off {G : GC} {t : Nat} {v i : Int} {j : Nat} (h : vok t v i) (e : j = ix t v i) : fE G j = cellF G t v i (m0 t v i) := by rw [e]; exact fE_at h
theorem inlQ {D : va_G} {cl : List vw_C} {cA : ClassId} {n : Nat} {f g : Nat → Option Nat} (h : ∀ j, j < n → f j = g j) {a : Nat} {H : Heap} (hA : va_at D cl (a, .inl (cA, n, .inr (.inr (.inr (.inr f))))) H) : va_at D cl (a, .inl (cA, n, .inr (.inr (.inr (.inr g))))) H := by
  have h1 : H[a]? = some (vp_cell cA (n, .inr (.inr (.inr (.inr f))))) := hA
  show H[a]? = some (vp_cell cA (n, .inr (.inr (.inr (.inr g)))))
  rw [h1, vp_cell_q, vp_cell_q]
  exact congrArg some (arrV_cong fun j hj => by rw [h j hj])
section Vil
variable {G : GC} {X : XC} {v : Int} {k : Nat}
abbrev vilfs (G : GC) (v : Int) : List Value := [.int (Int32.ofInt 3), .int (Int32.ofInt 0), .int (Int32.ofInt 0), .ref (ad G 2 v 0), .ref (ad G 4 v 0), .ref (ad G 6 v 0), .ref (ad G 7 v 0), .ref (ad G 8 v 0)]
abbrev VJ (G : GC) (X : XC) (v : Int) (pc : Nat) (a b c : Nat) (i : Int) : Prop := JC G X (4 + 66 * v.toNat) 7 pc [vr 1 v 0, vi i] [] (vilfs G v) (vE G v a b c) (18 + 2 * a + 2 * b + c) (120 + 5 * a + 7 * b + 7 * c)
abbrev VX (G : GC) (X : XC) (v : Int) : Prop := JCOk G X cX7_init RX7 2 2 (4 + 66 * v.toNat) 65 360
theorem vil_p (hX : VX G X v) (hv : V3 v) (K : VJ G X v 87 6 0 0 6) : ∀ n a : Nat, a + n = 6 → VJ G X v 62 a 0 0 (a : Int) := by
  intro n
  induction n with
  | zero =>
    intro a ha
    have : a = 6 := by omega
    subst this
    refine ct_iload hX rfl rfl dX7_init_62 ?_
    refine ct_bipush hX (by decide) dX7_init_63 ?_
    exact ct_icmp_ge hX (by decide) (by decide) rfl dX7_init_65 (fun _ => K) (fun h => absurd h (by decide))
  | succ n ih =>
    intro a ha
    have hi : inR (a : Int) := by show -2147483648 ≤ (a : Int) ∧ (a : Int) ≤ 2147483647; omega
    refine ct_iload hX rfl rfl dX7_init_62 ?_
    refine ct_bipush hX (by decide) dX7_init_63 ?_
    refine ct_icmp_ge hX hi (by decide) rfl dX7_init_65 (fun h => absurd h (by omega)) (fun _ => ?_)
    refine ct_aload hX rfl rfl dX7_init_68 ?_
    refine ct_get (w := vr 6 v 0) (T := TX7) (N := 8) (C := RX7) (kf := 5) hX (by omega) rfl mY_X7 rfl (by decide) rfl dX7_init_69 mF_X7_25 ?_
    refine ct_iload hX rfl rfl dX7_init_72 ?_
    have hk : ix 9 v (a : Int) = 4 + 66 * v.toNat + (18 + 2 * a + 2 * 0 + 0) := by show 22 + 66 * v.toNat + 2 * (a : Int).toNat = _; omega
    refine ct_new (t := 9) (v := v) (i := (a : Int)) (T := TX3) (N := 2) (ty := tyX3) hX (by omega) hk (by rw [← hk]; exact K_X3 (vok6 (by decide) hv a (by omega)) (vok6 (by decide) hv a (by omega))) (by decide) (by decide) (by decide) mY_X3 tyX3_ok rfl fv3_ok mK_X7_23 rfl mM_X3 mN_X3 rfl rfl mC_X3_init mL_X7_41 mI_X3_init (by decide +kernel) (fun j h1 _ => vE_o (by omega)) rfl (Nat.le_of_ble_eq_true rfl) (by omega) (by omega) dX7_init_73 dX7_init_76 dX7_init_77 ?_
    refine ct_aast (C := RX3) (T := TX3) (n := 6) (c := 4) (cj := 3) (ja := 15) (jo := 18 + 2 * a + 2 * 0 + 0) (f := vf (fun j => ad G 9 v j) a) (fv := [.ref (ad G 10 v a), .int (Int32.ofInt 1)]) (E' := vE G v (a + 1) 0 0) hX (by show 19 + 66 * v.toNat = _; omega) hk (by omega) (by omega) (by omega) (by omega) rfl rfl (vE_6 (by omega)) ((vE_o (by omega)).trans (fE_off (vok6 (t := 9) (by decide) hv a (by omega)) hk.symm)) (by omega) (by decide) ?_ ?_ dX7_init_80 ?_
    · intro j hj
      exact vE_n6 (by omega)
    · rw [vE_6 (by omega), Int.toNat_natCast, vf_s]
    · refine ct_iinc hX rfl (by intro j a h1 h2; have : j = 0 := (by omega); subst this; cases h2; rfl) dX7_init_81 ?_
      refine ct_goto hX rfl dX7_init_84 ?_
      have h := ih (a + 1) (by omega)
      unfold VJ at h
      rw [show 18 + 2 * (a + 1) + 2 * 0 + 0 = 18 + 2 * a + 2 * 0 + 0 + 2 by omega, show 120 + 5 * (a + 1) + 7 * 0 + 7 * 0 = 120 + 5 * a + 7 * 0 + 7 * 0 + 2 + 3 by omega] at h
      exact h
theorem vil_w (hX : VX G X v) (hv : V3 v) (K : VJ G X v 114 6 6 0 6) : ∀ n a : Nat, a + n = 6 → VJ G X v 89 6 a 0 (a : Int) := by
  intro n
  induction n with
  | zero =>
    intro a ha
    have : a = 6 := by omega
    subst this
    refine ct_iload hX rfl rfl dX7_init_89 ?_
    refine ct_bipush hX (by decide) dX7_init_90 ?_
    exact ct_icmp_ge hX (by decide) (by decide) rfl dX7_init_92 (fun _ => K) (fun h => absurd h (by decide))
  | succ n ih =>
    intro a ha
    have hi : inR (a : Int) := by show -2147483648 ≤ (a : Int) ∧ (a : Int) ≤ 2147483647; omega
    refine ct_iload hX rfl rfl dX7_init_89 ?_
    refine ct_bipush hX (by decide) dX7_init_90 ?_
    refine ct_icmp_ge hX hi (by decide) rfl dX7_init_92 (fun h => absurd h (by omega)) (fun _ => ?_)
    refine ct_aload hX rfl rfl dX7_init_95 ?_
    refine ct_get (w := vr 7 v 0) (T := TX7) (N := 8) (C := RX7) (kf := 6) hX (by omega) rfl mY_X7 rfl (by decide) rfl dX7_init_96 mF_X7_31 ?_
    refine ct_iload hX rfl rfl dX7_init_99 ?_
    have hk : ix 11 v (a : Int) = 4 + 66 * v.toNat + (18 + 2 * 6 + 2 * a + 0) := by show 34 + 66 * v.toNat + 2 * (a : Int).toNat = _; omega
    refine ct_new (t := 11) (v := v) (i := (a : Int)) (T := TX8) (N := 4) (ty := tyX8) hX (by omega) hk (by rw [← hk]; exact K_X8 (vok6 (by decide) hv a (by omega)) (vok6 (by decide) hv a (by omega))) (by decide) (by decide) (by decide) mY_X8 tyX8_ok rfl fv8_ok mK_X7_29 rfl mM_X8 mN_X8 rfl rfl mC_X8_init mL_X7_42 mI_X8_init (by decide +kernel) (fun j h1 _ => vE_o (by omega)) rfl (Nat.le_of_ble_eq_true rfl) (by omega) (by omega) dX7_init_100 dX7_init_103 dX7_init_104 ?_
    refine ct_aast (C := RX8) (T := TX8) (n := 6) (c := 5) (cj := 8) (ja := 16) (jo := 18 + 2 * 6 + 2 * a + 0) (f := vf (fun j => ad G 11 v j) a) (fv := [.int (Int32.ofInt 0), .int (Int32.ofInt 0), .ref (ad G 12 v a), .int (Int32.ofInt 0)]) (E' := vE G v 6 (a + 1) 0) hX (by show 20 + 66 * v.toNat = _; omega) hk (by omega) (by omega) (by omega) (by omega) rfl rfl (vE_7 (by omega)) ((vE_o (by omega)).trans (fE_off (vok6 (t := 11) (by decide) hv a (by omega)) hk.symm)) (by omega) (by decide) ?_ ?_ dX7_init_107 ?_
    · intro j hj
      exact vE_n7 (by omega)
    · rw [vE_7 (by omega), Int.toNat_natCast, vf_s]
    · refine ct_iinc hX rfl (by intro j a h1 h2; have : j = 0 := (by omega); subst this; cases h2; rfl) dX7_init_108 ?_
      refine ct_goto hX rfl dX7_init_111 ?_
      have h := ih (a + 1) (by omega)
      unfold VJ at h
      rw [show 18 + 2 * 6 + 2 * (a + 1) + 0 = 18 + 2 * 6 + 2 * a + 0 + 2 by omega, show 120 + 5 * 6 + 7 * (a + 1) + 7 * 0 = 120 + 5 * 6 + 7 * a + 7 * 0 + 4 + 3 by omega] at h
      exact h
theorem vil_q (hX : VX G X v) (hv : V3 v) (K : VJ G X v 141 6 6 24 24) : ∀ n a : Nat, a + n = 24 → VJ G X v 116 6 6 a (a : Int) := by
  intro n
  induction n with
  | zero =>
    intro a ha
    have : a = 24 := by omega
    subst this
    refine ct_iload hX rfl rfl dX7_init_116 ?_
    refine ct_bipush hX (by decide) dX7_init_117 ?_
    exact ct_icmp_ge hX (by decide) (by decide) rfl dX7_init_119 (fun _ => K) (fun h => absurd h (by decide))
  | succ n ih =>
    intro a ha
    have hi : inR (a : Int) := by show -2147483648 ≤ (a : Int) ∧ (a : Int) ≤ 2147483647; omega
    refine ct_iload hX rfl rfl dX7_init_116 ?_
    refine ct_bipush hX (by decide) dX7_init_117 ?_
    refine ct_icmp_ge hX hi (by decide) rfl dX7_init_119 (fun h => absurd h (by omega)) (fun _ => ?_)
    refine ct_aload hX rfl rfl dX7_init_122 ?_
    refine ct_get (w := vr 8 v 0) (T := TX7) (N := 8) (C := RX7) (kf := 7) hX (by omega) rfl mY_X7 rfl (by decide) rfl dX7_init_123 mF_X7_37 ?_
    refine ct_iload hX rfl rfl dX7_init_126 ?_
    have hk : ix 13 v (a : Int) = 4 + 66 * v.toNat + (18 + 2 * 6 + 2 * 6 + a) := by show 46 + 66 * v.toNat + (a : Int).toNat = _; omega
    refine ct_new (t := 13) (v := v) (i := (a : Int)) (T := TX2) (N := 7) (ty := tyX2) hX (by omega) hk (by rw [← hk]; exact K_X2 (vok13 hv a (by omega))) (by decide) (by decide) (by decide) mY_X2 tyX2_ok rfl fv2_ok mK_X7_35 rfl mM_X2 mN_X2 rfl rfl mC_X2_init mL_X7_43 mI_X2_init (by decide +kernel) (fun j h1 _ => vE_o (by omega)) rfl (Nat.le_of_ble_eq_true rfl) (by omega) (by omega) dX7_init_127 dX7_init_130 dX7_init_131 ?_
    refine ct_aast (C := RX2) (T := TX2) (n := 24) (c := 6) (cj := 2) (ja := 17) (jo := 18 + 2 * 6 + 2 * 6 + a) (f := vf (fun j => ad G 13 v j) a) (fv := [.int (Int32.ofInt 0), .int (Int32.ofInt 0), .int (Int32.ofInt 0), .int (Int32.ofInt (-9)), .int (Int32.ofInt 0), .int (Int32.ofInt 0), .int (Int32.ofInt 0)]) (E' := vE G v 6 6 (a + 1)) hX (by show 21 + 66 * v.toNat = _; omega) hk (by omega) (by omega) (by omega) (by omega) rfl rfl (vE_8 (by omega)) ((vE_o (by omega)).trans (fE_off (vok13 hv a (by omega)) hk.symm)) (by omega) (by decide) ?_ ?_ dX7_init_134 ?_
    · intro j hj
      exact vE_n8 (by omega)
    · rw [vE_8 (by omega), Int.toNat_natCast, vf_s]
    · refine ct_iinc hX rfl (by intro j a h1 h2; have : j = 0 := (by omega); subst this; cases h2; rfl) dX7_init_135 ?_
      refine ct_goto hX rfl dX7_init_138 ?_
      have h := ih (a + 1) (by omega)
      unfold VJ at h
      rw [show 18 + 2 * 6 + 2 * 6 + (a + 1) = 18 + 2 * 6 + 2 * 6 + a + 1 by omega, show 120 + 5 * 6 + 7 * 6 + 7 * (a + 1) = 120 + 5 * 6 + 7 * 6 + 7 * a + 7 + 0 by omega] at h
      exact h
end Vil
theorem vE_fin {G : GC} {v : Int} (hv : V3 v) (j a : Nat) (H : Heap) (h : va_at G.2.1 vclasses (a, vE G v 6 6 24 j) H) : va_at G.2.1 vclasses (a, fE G j) H := by
  by_cases h1 : j = 19 + 66 * v.toNat
  · rw [vE_6 h1] at h
    rw [fE_off (vok0 (t := 6) (by decide) hv) h1]
    exact inlQ (fun j hj => if_pos hj) h
  by_cases h2 : j = 20 + 66 * v.toNat
  · rw [vE_7 h2] at h
    rw [fE_off (vok0 (t := 7) (by decide) hv) h2]
    exact inlQ (fun j hj => if_pos hj) h
  by_cases h3 : j = 21 + 66 * v.toNat
  · rw [vE_8 h3] at h
    rw [fE_off (vok0 (t := 8) (by decide) hv) h3]
    exact inlQ (fun j hj => if_pos hj) h
  · rw [vE_o (by omega)] at h
    exact h
theorem K_X7 {G : GC} {v : Int} (hv : V3 v) : CK G yX7_init cX7_init 2 2 (4 + 66 * v.toNat) 7 fv7 66 360 (vr 1 v 0) := by
  refine CK.of [vr 1 v 0, vx] (vE G v 0 0 0) (by decide +kernel) rfl rfl rfl (Nat.le_of_ble_eq_true rfl) rfl (fun X hX hR => ?_)
  have hp : ∀ (j : Nat) (a : HV), j + 1 = 1 → [vr 1 v 0, vx][j]? = some a → notl a = true := by intro j a h1 h2; have : j = 0 := (by omega); subst this; cases h2; rfl
  refine ct_aload hX rfl rfl dX7_init_0 ?_
  refine ct_obj hX mL_X7_3 rfl rfl (by decide) dX7_init_1 ?_
  refine ct_aload hX rfl rfl dX7_init_4 ?_
  refine ct_iconst hX dX7_init_5 ?_
  refine ct_put (T := TX7) (N := 8) (C := RX7) (kf := 0) (ty0 := tyX7) (ty := .int) hX (by omega) rfl mY_X7 tyX7_ok nmX7 rfl (by decide) rfl (by decide +kernel) rfl rfl (Nat.le_of_ble_eq_true rfl) dX7_init_6 mF_X7_9 ?_
  refine ct_aload hX rfl rfl dX7_init_9 ?_
  refine ct_bipush hX (by decide) dX7_init_10 ?_
  refine ct_bipush hX (by decide) dX7_init_12 ?_
  refine ct_multi (t := 2) (v := v) (i := 0) (N := 6) (M := 6) (f := fun j => ad G 3 v (j : Int)) hX (by omega) (by show 5 + 66 * v.toNat = _; omega) mK_X7_15 rfl rfl rfl (by decide) (by decide) ((vE_o (by omega)).trans (fE_off (t := 2) (vok0 (by decide) hv) (by show _ = 5 + 66 * v.toNat; omega))) (fun j hj => ad_this (by decide) (by show 6 + 66 * v.toNat + (j : Int).toNat = _; omega)) (fun j hj => (vE_o (by omega)).trans (fE_off (t := 3) (vok6 (by decide) hv j hj) (by show _ = 6 + 66 * v.toNat + (j : Int).toNat; omega))) (by omega) (by omega) dX7_init_14 ?_
  refine ct_put (T := TX7) (N := 8) (C := RX7) (kf := 3) (ty0 := tyX7) (ty := .array (.array .int)) hX (by omega) rfl mY_X7 tyX7_ok nmX7 rfl (by decide) rfl (by decide +kernel) rfl rfl (Nat.le_of_ble_eq_true rfl) dX7_init_18 mF_X7_17 ?_
  refine ct_aload hX rfl rfl dX7_init_21 ?_
  refine ct_bipush hX (by decide) dX7_init_22 ?_
  refine ct_bipush hX (by decide) dX7_init_24 ?_
  refine ct_multi (t := 4) (v := v) (i := 0) (N := 6) (M := 6) (f := fun j => ad G 5 v (j : Int)) hX (by omega) (by show 12 + 66 * v.toNat = _; omega) mK_X7_15 rfl rfl rfl (by decide) (by decide) ((vE_o (by omega)).trans (fE_off (t := 4) (vok0 (by decide) hv) (by show _ = 12 + 66 * v.toNat; omega))) (fun j hj => ad_this (by decide) (by show 13 + 66 * v.toNat + (j : Int).toNat = _; omega)) (fun j hj => (vE_o (by omega)).trans (fE_off (t := 5) (vok6 (by decide) hv j hj) (by show _ = 13 + 66 * v.toNat + (j : Int).toNat; omega))) (by omega) (by omega) dX7_init_26 ?_
  refine ct_put (T := TX7) (N := 8) (C := RX7) (kf := 4) (ty0 := tyX7) (ty := .array (.array .int)) hX (by omega) rfl mY_X7 tyX7_ok nmX7 rfl (by decide) rfl (by decide +kernel) rfl rfl (Nat.le_of_ble_eq_true rfl) dX7_init_30 mF_X7_20 ?_
  refine ct_aload hX rfl rfl dX7_init_33 ?_
  refine ct_bipush hX (by decide) dX7_init_34 ?_
  refine ct_anew (t := 6) (v := v) (i := 0) (N := 6) (c := 4) hX (by omega) (by show 19 + 66 * v.toNat = _; omega) mK_X7_23 rfl (fun U h => h.2.2.1) rfl rfl (by decide) ((vE_6 (by omega)).trans (by rw [vf_0])) (by omega) (by omega) dX7_init_36 ?_
  refine ct_put (T := TX7) (N := 8) (C := RX7) (kf := 5) (ty0 := tyX7) (ty := .array (.object RX3)) hX (by omega) rfl mY_X7 tyX7_ok nmX7 rfl (by decide) rfl (by decide +kernel) rfl rfl (Nat.le_of_ble_eq_true rfl) dX7_init_39 mF_X7_25 ?_
  refine ct_aload hX rfl rfl dX7_init_42 ?_
  refine ct_bipush hX (by decide) dX7_init_43 ?_
  refine ct_anew (t := 7) (v := v) (i := 0) (N := 6) (c := 5) hX (by omega) (by show 20 + 66 * v.toNat = _; omega) mK_X7_29 rfl (fun U h => h.2.2.2.1) rfl rfl (by decide) ((vE_7 (by omega)).trans (by rw [vf_0])) (by omega) (by omega) dX7_init_45 ?_
  refine ct_put (T := TX7) (N := 8) (C := RX7) (kf := 6) (ty0 := tyX7) (ty := .array (.object RX8)) hX (by omega) rfl mY_X7 tyX7_ok nmX7 rfl (by decide) rfl (by decide +kernel) rfl rfl (Nat.le_of_ble_eq_true rfl) dX7_init_48 mF_X7_31 ?_
  refine ct_aload hX rfl rfl dX7_init_51 ?_
  refine ct_bipush hX (by decide) dX7_init_52 ?_
  refine ct_anew (t := 8) (v := v) (i := 0) (N := 24) (c := 6) hX (by omega) (by show 21 + 66 * v.toNat = _; omega) mK_X7_35 rfl (fun U h => h.2.2.2.2) rfl rfl (by decide) ((vE_8 (by omega)).trans (by rw [vf_0])) (by omega) (by omega) dX7_init_54 ?_
  refine ct_put (T := TX7) (N := 8) (C := RX7) (kf := 7) (ty0 := tyX7) (ty := .array (.object RX2)) hX (by omega) rfl mY_X7 tyX7_ok nmX7 rfl (by decide) rfl (by decide +kernel) rfl rfl (Nat.le_of_ble_eq_true rfl) dX7_init_57 mF_X7_37 ?_
  refine ct_iconst hX dX7_init_60 ?_
  refine ct_istore hX rfl (Nat.le_of_ble_eq_true rfl) hp dX7_init_61 ?_
  have hp2 : ∀ (x : Int) (j : Nat) (a : HV), j + 1 = 1 → [vr 1 v 0, vi x][j]? = some a → notl a = true := by intro x j a h1 h2; have : j = 0 := (by omega); subst this; cases h2; rfl
  refine vil_p hX hv ?_ 6 0 rfl
  refine ct_iconst hX dX7_init_87 ?_
  refine ct_istore hX rfl (Nat.le_of_ble_eq_true rfl) (hp2 _) dX7_init_88 ?_
  refine vil_w hX hv ?_ 6 0 rfl
  refine ct_iconst hX dX7_init_114 ?_
  refine ct_istore hX rfl (Nat.le_of_ble_eq_true rfl) (hp2 _) dX7_init_115 ?_
  refine vil_q hX hv ?_ 24 0 rfl
  refine ct_cong (E' := fE G) (fun j _ _ a H h => vE_fin hv j a H h) ?_
  exact ct_ret1 hX hR rfl (fE_at (t := 1) (v := v) (i := 0) (vok0 (by decide) hv)) dX7_init_141
