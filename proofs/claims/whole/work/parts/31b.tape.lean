/-! ===== 31b: the class's Tape: telling ===== -/
section Tp
variable {G : GC} {X : JX} {m : HM} {κ p t τ w x y z i k q b h c n a v : Int} {A N S g F B W T f : Int → Int} {H C D : Int}
theorem c_isFull (h : m 14 0 0 1 = n) : K_X6_isFull G [vr 14 0 0] m (pw (vi (bi (64 ≤ n))) m) := by
  refine E_X6_isFull (fun X hX hR0 _ _ => ?_)
  refine J_aloadN hX rfl rfl dX6_isFull_0 ?_
  refine G_Tape_length hX dX6_isFull_1 mF_X6_18 ?_
  refine J_bipush hX (by decide) dX6_isFull_4 ?_
  rw [h]
  refine J_icmp_lt (tgt := 13) hX (by decide) dX6_isFull_6 (fun h1 => ?_) (fun h1 => ?_)
  · refine J_iconst hX (by decide) dX6_isFull_13 ?_
    exact J_zret hX hR0 dX6_isFull_14 (Or.inl rfl) (pwb0 (by omega))
  · refine J_iconst hX (by decide) dX6_isFull_9 ?_
    refine J_goto (tgt := 14) hX (by decide) dX6_isFull_10 ?_
    exact J_zret hX hR0 dX6_isFull_14 (Or.inr rfl) (pwb1 h1)
theorem c_take (h : m 14 0 0 1 = n) (hn : 0 ≤ n ∧ n < 64) : K_X6_take G [vr 14 0 0, vi x] m (pw (vi (n + 1)) (upr (upr m 15 0 0 (st1 (m 15 0 0) n x)) 14 0 0 (st1 (m 14 0 0) 1 (n + 1)))) := by
  refine E_X6_take (fun X hX hR0 _ _ => ?_)
  refine J_aloadN hX rfl rfl dX6_take_0 ?_
  refine G_Tape_length hX dX6_take_1 mF_X6_18 ?_
  refine J_bipush hX (by decide) dX6_take_4 ?_
  rw [h]
  refine J_icmp_ge (tgt := 29) hX (by decide) dX6_take_6 (fun h1 => ?_) (fun h1 => ?_)
  · omega
  · refine J_aloadN hX rfl rfl dX6_take_9 ?_
    refine G_Tape_letters hX dX6_take_10 mF_X6_11 ?_
    refine J_aloadN hX rfl rfl dX6_take_13 ?_
    refine G_Tape_length hX dX6_take_14 mF_X6_18 ?_
    rw [h]
    refine J_iloadN hX rfl rfl dX6_take_17 ?_
    refine S_15 hX (by omega) dX6_take_18 ?_
    refine J_aloadN hX rfl rfl dX6_take_19 ?_
    refine J_dup hX rfl dX6_take_20 ?_
    refine G_Tape_length hX dX6_take_21 mF_X6_18 ?_
    simp only [upr_t, Nat.reduceBEq]
    rw [h]
    refine J_iconst hX (by decide) dX6_take_24 ?_
    refine J_iadd hX (fun _ _ => by omega) dX6_take_25 ?_
    refine P_Tape_length hX dX6_take_26 mF_X6_18 ?_
    refine J_aloadN hX rfl rfl dX6_take_29 ?_
    refine G_Tape_length hX dX6_take_30 mF_X6_18 ?_
    exact J_iret hX hR0 dX6_take_33 (pwM (by rw [upr_eq, st1_eq]) (by simp only [upr_t, Nat.reduceBEq]))
theorem c_tclear : K_X6_clear G [vr 14 0 0] m (pv (upr m 14 0 0 (st1 (m 14 0 0) 1 0))) := by
  refine E_X6_clear (fun X hX hR0 _ _ => ?_)
  refine J_aloadN hX rfl rfl dX6_clear_0 ?_
  refine J_iconst hX (by decide) dX6_clear_1 ?_
  refine P_Tape_length hX dX6_clear_2 mF_X6_18 ?_
  exact J_vret hX hR0 dX6_clear_5 (pvI rfl)
def wrP (m : HM) (T : Int → Int) (n : Int) (r : Int) (m' : HM) : Prop := FrC m m' ∧ NN m' ∧ ((r = -1 ∧ (rd1 T n 65 0 0).1 = true) ∨ (0 ≤ r ∧ r ≤ 64 ∧ rd1 T n 65 0 0 = (false, -1000 - r)))
theorem l_wrong (hX : Ok_X6_wrongLetter G X 6) (hT : TpC m T n) (hR0 : JRt G X (pi (wrP m T n)) (some .int)) : ∀ (fu : Nat) (a c : Int) (M : HM), n - a < fu → (0 ≤ a ∧ a ≤ n) → M 14 0 0 2 = a → FrC m M → NN M → (0 ≤ c ∧ c ≤ a) → ((c = 0 ∨ a < n) → rd1 T n 65 0 0 = rd1 T n fu a c) → (c ≠ 0 → ¬ a < n → (rd1 T n 65 0 0).1 = true) → J G X 7 [vr 14 0 0, vi c] [] M := by
  have h64 := hT.2.1
  intro fu
  induction fu with
  | zero => intro a c M h1 h2; omega
  | succ fu ih =>
    intro a c M h1 h2 h8 hfr hn hc he1 he2
    have hT' := hT.fr hfr
    have e : rd1 T n (fu + 1) a c = if (stP T n a).1 = true then (if (stP T n a).2.1 < n then rd1 T n fu (stP T n a).2.1 (c + 1) else (true, c + 1)) else (false, -1000 - (stP T n a).2.1) := rfl
    rw [e] at he1
    have K46 : c ≠ 0 → ¬ a < n → J G X 46 [vr 14 0 0, vi c] [] M := fun q1 q2 => by
      refine J_iconst hX (by decide) dX6_wrongLetter_46 ?_
      exact J_iret hX hR0 dX6_wrongLetter_47 (⟨-1, rfl, hfr, hn, Or.inl ⟨rfl, he2 q1 q2⟩⟩)
    have K28 : (c = 0 ∨ a < n) → J G X 28 [vr 14 0 0, vi c] [] M := fun q => by
      have he := he1 q
      refine J_aloadN hX rfl rfl dX6_wrongLetter_28 ?_
      refine cV0i hX cb_X6_readStatement mL_X6_29 dX6_wrongLetter_29 (c_readStatement6 hT' h8 h2 hn) (fun r m2 hm2 => ?_)
      have hfr2 := hfr.tr hm2.1
      refine J_if_ne (tgt := 40) hX (by decide) dX6_wrongLetter_32 (fun h3 => ?_) (fun h3 => ?_)
      · obtain ⟨e1, e2, e3⟩ : r = 1 ∧ (stP T n a).1 = true ∧ RdC m2 T n (stP T n a).2.1 (cntS (sgn T n a)) (stP T n a).2.2 := hm2.2.2.elim id (fun q => absurd q.1 h3)
        rw [if_pos e2] at he
        have hmo := (stP_mono e2).1
        have hin := e3.2.2.2.2.2.1
        refine sinc_1 hX (fun _ => by omega) dX6_wrongLetter_40 ?_
        refine J_goto (tgt := 7) hX (by decide) dX6_wrongLetter_43 ?_
        refine ih _ (c + 1) m2 (by omega) hin e3.2.1 hfr2 hm2.2.1 (by omega) (fun q => ?_) (fun _ q => ?_)
        · rw [he, if_pos (by omega)]
        · rw [he, if_neg q]
      · obtain ⟨e1, e2, e3, e4, e5⟩ : r = 0 ∧ (stP T n a).1 = false ∧ m2 14 0 0 2 = (stP T n a).2.1 ∧ 0 ≤ (stP T n a).2.1 ∧ (stP T n a).2.1 ≤ n := hm2.2.2.elim (fun q => absurd h3 (by rw [q.1]; decide)) id
        rw [if_neg (by rw [e2]; decide)] at he
        refine J_aloadN hX rfl rfl dX6_wrongLetter_35 ?_
        refine G_Tape_reading hX dX6_wrongLetter_36 mF_X6_26 ?_
        rw [e3]
        exact J_iret hX hR0 dX6_wrongLetter_39 (⟨_, rfl, hfr2, hm2.2.1, Or.inr ⟨e4, by omega, he⟩⟩)
    refine J_iloadN hX rfl rfl dX6_wrongLetter_7 ?_
    refine J_bipush hX (by decide) dX6_wrongLetter_8 ?_
    refine J_icmp_ge (tgt := 46) hX (by decide) dX6_wrongLetter_10 (fun h3 => ?_) (fun h3 => ?_)
    · exact K46 (by omega) (by omega)
    · refine J_aloadN hX rfl rfl dX6_wrongLetter_13 ?_
      refine G_Tape_reading hX dX6_wrongLetter_14 mF_X6_26 ?_
      refine J_aloadN hX rfl rfl dX6_wrongLetter_17 ?_
      refine G_Tape_length hX dX6_wrongLetter_18 mF_X6_18 ?_
      rw [h8, hT'.1.1]
      refine J_icmp_lt (tgt := 28) hX (by decide) dX6_wrongLetter_21 (fun h4 => ?_) (fun h4 => ?_)
      · exact K28 (Or.inr h4)
      · refine J_iloadN hX rfl rfl dX6_wrongLetter_24 ?_
        refine J_if_ne (tgt := 46) hX (by decide) dX6_wrongLetter_25 (fun h5 => ?_) (fun h5 => ?_)
        · exact K46 h5 (by omega)
        · exact K28 (Or.inl h5)
theorem c_wrongLetter (hT : TpC m T n) (hn : NN m) : K_X6_wrongLetter G [vr 14 0 0] m (pi (wrP m T n)) := by
  refine E_X6_wrongLetter (fun X hX hR0 _ _ => ?_)
  have h64 := hT.2.1
  refine J_aloadN hX rfl rfl dX6_wrongLetter_0 ?_
  refine J_iconst hX (by decide) dX6_wrongLetter_1 ?_
  refine P_Tape_reading hX dX6_wrongLetter_2 mF_X6_26 ?_
  refine J_iconst hX (by decide) dX6_wrongLetter_5 ?_
  refine siN_1 hX dX6_wrongLetter_6 ?_
  exact l_wrong hX hT hR0 65 0 0 _ (by omega) (by omega) (by rw [upr_eq, st1_eq]) (FrC.rf.f14 (Or.inl rfl) rfl) hn.f14 (by omega) (fun _ => rfl) (fun q => absurd rfl q)
/-- the village told to changes, too -/
def FrCV (v : Int) (m m' : HM) : Prop := (∀ t v' i, t ≠ 16 → t ≠ 14 → ¬ (1 ≤ t ∧ t ≤ 13 ∧ v' = v) → m' t v' i = m t v' i) ∧ ∀ k, k ≠ 2 → k ≠ 4 → m' 14 0 0 k = m 14 0 0 k
theorem FrCV.fc {m' m2 : HM} (h : FrCV v m m') (h2 : FrC m' m2) : FrCV v m m2 := ⟨fun t v' i a b c => (h2.1 t v' i a b).trans (h.1 t v' i a b c), fun k a b => (h2.2 k a b).trans (h.2 k a b)⟩
theorem FrCV.fv {m' m2 : HM} (h : FrCV v m m') (h2 : FrV v m' m2) : FrCV v m m2 := ⟨fun t v' i a b c => (h2 t v' i c).trans (h.1 t v' i a b c), fun k a b => by rw [h2 14 0 0 (by omega)]; exact h.2 k a b⟩
theorem FrC.toCV {m' : HM} (h : FrC m m') : FrCV v m m' := ⟨fun t v' i a b _ => h.1 t v' i a b, h.2⟩
theorem TpC.frCV {m' : HM} (h : TpC m T n) (hf : FrCV v m m') : TpC m' T n := ⟨⟨(hf.2 1 (by omega) (by omega)).trans h.1.1, fun j hj => by rw [hf.1 15 0 0 (by decide) (by decide) (by omega)]; exact h.1.2 j hj⟩, h.2⟩
theorem NN.fv {m' : HM} (h : NN m) (hf : FrV v m m') : NN m' := fun j hj => by rw [hf 16 0 0 (by omega)]; exact h j hj
theorem RelV.fc {m' : HM} (h : RelV m v A) (hf : FrC m m') : RelV m' v A := h.keep (hf.1 1 v 0 (by decide) (by decide)) (fun i => hf.1 3 v i (by decide) (by decide)) (fun i => hf.1 9 v i (by decide) (by decide)) (fun i => hf.1 10 v i (by decide) (by decide)) (fun i => hf.1 11 v i (by decide) (by decide)) (fun i => hf.1 12 v i (by decide) (by decide)) (fun i => hf.1 13 v i (by decide) (by decide))
theorem rd1_ge {T : Int → Int} {n : Int} : ∀ (fu : Nat) (a c r : Int), rd1 T n fu a c = (true, r) → c ≤ r ∧ (fu ≠ 0 → c < r) := by
  intro fu
  induction fu with
  | zero =>
    intro a c r h
    have e : (true, c) = (true, r) := h
    have e2 : c = r := (Prod.mk.inj e).2
    exact ⟨by omega, fun q => absurd rfl q⟩
  | succ fu ih =>
    intro a c r h
    have e : rd1 T n (fu + 1) a c = if (stP T n a).1 = true then (if (stP T n a).2.1 < n then rd1 T n fu (stP T n a).2.1 (c + 1) else (true, c + 1)) else (false, -1000 - (stP T n a).2.1) := rfl
    rw [e] at h
    by_cases q : (stP T n a).1 = true
    · rw [if_pos q] at h
      by_cases q2 : (stP T n a).2.1 < n
      · rw [if_pos q2] at h
        have := (ih _ _ _ h).1
        exact ⟨by omega, fun _ => by omega⟩
      · rw [if_neg q2] at h
        have e2 : c + 1 = r := (Prod.mk.inj h).2
        exact ⟨by omega, fun _ => by omega⟩
    · rw [if_neg q] at h
      exact absurd (Prod.mk.inj h).1 (by decide)
def teP (m : HM) (v : Int) (T : Int → Int) (n : Int) (B : Int → Int) (C D : Int) (r : Int) (m' : HM) : Prop := r = (vil T n B).2.1 ∧ FrCV v m m' ∧ NN m' ∧ (((vil T n B).1 = true ∧ 0 < r ∧ RelV m' v (vil T n B).2.2 ∧ InvA (vil T n B).2.2 C D ∧ InvS (vil T n B).2.2) ∨ ((vil T n B).1 = false ∧ r < 0))
theorem l_tell {m0 : HM} {c : Int} (hX : Ok_X6_tellAll G X 7) (hT : TpC m0 T n) (hC : 0 ≤ C) (hD : 0 ≤ D) (h1r : rd1 T n 65 0 0 = (true, c)) (hR0 : JRt G X (pi (teP m0 v T n B C D)) (some .int)) : ∀ (fu : Nat) (a o : Int) (M : HM) (B' : Int → Int) (x4 : HV), n - a < fu → (0 ≤ a ∧ a ≤ n) → okTp T n fu a → M 14 0 0 2 = a → FrCV v m0 M → NN M → RelV M v B' → InvA B' C D → InvS B' → rd2 T n 65 0 B = rd2 T n fu a B' → (0 ≤ o ∧ o ≤ a) → (a < n → rd1 T n fu a o = (true, c)) → (¬ a < n → o = c) → J G X 22 [vr 14 0 0, vr 1 v 0, vi (-1), vi o, x4] [] M := by
  have h64 := hT.2.1
  intro fu
  induction fu with
  | zero => intro a o M B' x4 h1 h2; omega
  | succ fu ih =>
    intro a o M B' x4 h1 h2 hok h8 hfr hn hR hI hS he ho hr1 hr2
    have hT' := hT.frCV hfr
    have e : rd2 T n (fu + 1) a B' = if a < n then ifP (okS B' (sgn T n a) (stP T n a).2.2) (rd2 T n fu (stP T n a).2.1 (upS B' (sgn T n a) (stP T n a).2.2)) (false, -2000 - a, B') else (true, 0, B') := rfl
    rw [e] at he
    have K81 : ¬ a < n → J G X 81 [vr 14 0 0, vr 1 v 0, vi (-1), vi o, x4] [] M := fun q => by
      rw [if_neg q] at he
      have eo := hr2 q
      have ev : vil T n B = (true, c, B') := by
        unfold vil
        rw [h1r, he]
        exact (if_pos rfl).trans (if_pos rfl)
      have cp := (rd1_ge 65 0 0 c h1r).2 (by decide)
      refine J_iloadN hX rfl rfl dX6_tellAll_81 ?_
      refine J_iret hX hR0 dX6_tellAll_82 ⟨o, rfl, ?_⟩
      unfold teP
      rw [ev]
      exact ⟨eo, hfr, hn, Or.inl ⟨rfl, by omega, hR, hI, hS⟩⟩
    refine J_iloadN hX rfl rfl dX6_tellAll_22 ?_
    refine J_bipush hX (by decide) dX6_tellAll_23 ?_
    refine J_icmp_ge (tgt := 81) hX (by decide) dX6_tellAll_25 (fun h3 => ?_) (fun h3 => ?_)
    · exact K81 (by omega)
    · refine J_aloadN hX rfl rfl dX6_tellAll_28 ?_
      refine G_Tape_reading hX dX6_tellAll_29 mF_X6_26 ?_
      refine J_aloadN hX rfl rfl dX6_tellAll_32 ?_
      refine G_Tape_length hX dX6_tellAll_33 mF_X6_18 ?_
      rw [h8, hT'.1.1]
      refine J_icmp_ge (tgt := 81) hX (by decide) dX6_tellAll_36 (fun h4 => ?_) (fun h4 => ?_)
      · exact K81 (by omega)
      · have hlt : a < n := by omega
        obtain ⟨o1, o2⟩ := hok hlt
        obtain ⟨mo1, mo2⟩ := stP_mono o1
        have es : sgn T n a = T a := if_pos hlt
        have q1r := hr1 hlt
        have e1r : rd1 T n (fu + 1) a o = if (stP T n a).1 = true then (if (stP T n a).2.1 < n then rd1 T n fu (stP T n a).2.1 (o + 1) else (true, o + 1)) else (false, -1000 - (stP T n a).2.1) := rfl
        rw [e1r, if_pos o1] at q1r
        rw [if_pos hlt] at he
        refine J_aloadN hX rfl rfl dX6_tellAll_39 ?_
        refine G_Tape_reading hX dX6_tellAll_40 mF_X6_26 ?_
        rw [h8]
        refine si_4 hX dX6_tellAll_43 ?_
        refine J_aloadN hX rfl rfl dX6_tellAll_45 ?_
        refine cV0i hX cb_X6_readStatement mL_X6_29 dX6_tellAll_46 (c_readStatement6 hT' h8 h2 hn) (fun r m2 hm2 => ?_)
        obtain ⟨e1, e2, e3⟩ : r = 1 ∧ (stP T n a).1 = true ∧ RdC m2 T n (stP T n a).2.1 (cntS (sgn T n a)) (stP T n a).2.2 := hm2.2.2.elim id (fun q => absurd o1 (by rw [q.2.1]; decide))
        have hfr2 := hfr.fc hm2.1
        have hnn := stP_nn o1
        have hR2 := hR.fc hm2.1
        have hT2 := hT.frCV hfr2
        refine J_pop hX rfl dX6_tellAll_49 ?_
        refine J_aloadN hX rfl rfl dX6_tellAll_50 ?_
        refine J_aloadN hX rfl rfl dX6_tellAll_51 ?_
        refine G_Tape_letters hX dX6_tellAll_52 mF_X6_11 ?_
        refine J_iload hX rfl dX6_tellAll_55 ?_
        refine L_15 hX (by omega) dX6_tellAll_57 ?_
        rw [hT2.1.2 a ⟨h2.1, hlt⟩, ← es]
        refine J_aloadN hX rfl rfl dX6_tellAll_58 ?_
        refine G_Tape_said hX dX6_tellAll_59 mF_X6_15 ?_
        refine cV2i hX cb_X7_takesStatement mL_X6_33 dX6_tellAll_62 (c_takesStatement hR2 hI hm2.2.1 mo2) (fun r3 m3 hm3 => ?_)
        obtain ⟨cg1, cg2⟩ := okS_cg (A := B') (f := m2 16 0 0) (g := (stP T n a).2.2) (c := sgn T n a) (fun j a b => e3.2.2.2.1 j ⟨a, b⟩) mo2
        have hfr3 := hfr2.fv hm3.1
        have hn3 := hm2.2.1.fv hm3.1
        rcases hm3.2 with ⟨rfl, q1, q2⟩ | ⟨rfl, q1⟩
        · rw [ifP_pos (cg1.mp q1)] at he
          rw [cg2] at q2
          obtain ⟨hI3, hS3⟩ := InvA_S hI hS hC hD hnn (fun hc => ⟨(stP_k o1 hc).1, (stP_k o1 hc).2⟩) (cg1.mp q1)
          refine J_if_ne (tgt := 75) hX (by decide) dX6_tellAll_65 (fun h5 => ?_) (fun h5 => ?_)
          · refine sinc_3 hX (fun _ => by omega) dX6_tellAll_75 ?_
            refine J_goto (tgt := 22) hX (by decide) dX6_tellAll_78 ?_
            refine ih _ (o + 1) _ _ _ (by omega) e3.2.2.2.2.2.1 o2 (by rw [hm3.1 14 0 0 (by omega)]; exact e3.2.1) hfr3 hn3 q2 hI3 hS3 he (by omega) (fun z => ?_) (fun z => ?_)
            · rw [if_pos z] at q1r
              exact q1r
            · rw [if_neg z] at q1r
              exact (Prod.mk.inj q1r).2
          · omega
        · rw [ifP_neg (fun z => q1 (cg1.mpr z))] at he
          refine J_if_ne (tgt := 75) hX (by decide) dX6_tellAll_65 (fun h5 => ?_) (fun h5 => ?_)
          · omega
          · have ev : vil T n B = (false, -2000 - a, B) := by
              unfold vil
              rw [h1r, he]
              exact (if_pos rfl).trans (if_neg (fun q => by cases q))
            refine J_sipush hX (by decide) dX6_tellAll_68 ?_
            refine J_iload hX rfl dX6_tellAll_71 ?_
            refine J_isub hX (fun _ _ => by omega) dX6_tellAll_73 ?_
            refine J_iret hX hR0 dX6_tellAll_74 ⟨_, rfl, ?_⟩
            unfold teP
            rw [ev]
            exact ⟨rfl, hfr3, hn3, Or.inr ⟨rfl, by omega⟩⟩
theorem c_tellAll (hT : TpC m T n) (hn : NN m) (hR : RelV m v B) (hI : InvA B C D) (hS : InvS B) (hC : 0 ≤ C) (hD : 0 ≤ D) : K_X6_tellAll G [vr 14 0 0, vr 1 v 0] m (pi (teP m v T n B C D)) := by
  refine E_X6_tellAll (fun X hX hR0 _ _ => ?_)
  have h64 := hT.2.1
  refine J_aloadN hX rfl rfl dX6_tellAll_0 ?_
  refine cV0i hX cb_X6_wrongLetter mL_X6_22 dX6_tellAll_1 (c_wrongLetter hT hn) (fun r m2 h2 => ?_)
  obtain ⟨hf, hn2, h2⟩ := h2
  have hR2 := hR.fc hf
  refine siN_2 hX dX6_tellAll_4 ?_
  refine J_iloadN hX rfl rfl dX6_tellAll_5 ?_
  rcases h2 with ⟨rfl, h2⟩ | ⟨h2, h3, h4⟩
  · obtain ⟨c, hc⟩ : ∃ c, rd1 T n 65 0 0 = (true, c) := ⟨(rd1 T n 65 0 0).2, by rw [← h2]⟩
    have fr2 : FrC m (upr m2 14 0 0 (st1 (m2 14 0 0) 2 0)) := hf.f14 (Or.inl rfl) rfl
    refine J_if_lt (tgt := 15) hX (by decide) dX6_tellAll_6 (fun h5 => ?_) (fun h5 => ?_)
    · refine J_aloadN hX rfl rfl dX6_tellAll_15 ?_
      refine J_iconst hX (by decide) dX6_tellAll_16 ?_
      refine P_Tape_reading hX dX6_tellAll_17 mF_X6_26 ?_
      refine J_iconst hX (by decide) dX6_tellAll_20 ?_
      refine siN_3 hX dX6_tellAll_21 ?_
      exact l_tell hX hT hC hD hc hR0 65 0 0 _ B _ (by omega) (by omega) (rd1_okTp 65 0 0 h2) (by rw [upr_eq, st1_eq]) fr2.toCV hn2.f14 (hR.fc fr2) hI hS rfl (by omega) (fun _ => hc) (fun q => by
        have e : n = 0 := by omega
        exfalso
        have e1 : rd1 T n 65 0 0 = if (stP T n 0).1 = true then (if (stP T n 0).2.1 < n then rd1 T n 64 (stP T n 0).2.1 (0 + 1) else (true, 0 + 1)) else (false, -1000 - (stP T n 0).2.1) := rfl
        rw [e1] at h2
        by_cases z : (stP T n 0).1 = true
        · have zz := stP_mono z
          have : sgn T n 0 = -1 := if_neg (by omega)
          omega
        · rw [if_neg z] at h2
          exact absurd h2 (by simp))
    · omega
  · skip
    refine J_if_lt (tgt := 15) hX (by decide) dX6_tellAll_6 (fun h5 => ?_) (fun h5 => ?_)
    · omega
    · have ev : vil T n B = (false, -1000 - r, B) := by
        unfold vil
        rw [h4]
        exact if_neg (fun q => by cases q)
      refine J_sipush hX (by decide) dX6_tellAll_9 ?_
      refine J_iloadN hX rfl rfl dX6_tellAll_12 ?_
      refine J_isub hX (fun _ _ => by omega) dX6_tellAll_13 ?_
      refine J_iret hX hR0 dX6_tellAll_14 ⟨_, rfl, ?_⟩
      unfold teP
      rw [ev]
      exact ⟨rfl, hf.toCV, hn2, Or.inr ⟨rfl, by omega⟩⟩
theorem RelV_cg {A B : Int → Int} {C D : Int} (h : ∀ j, inN j 267 → B j = A j) (hI : InvA A C D) (hR : RelV m v A) : RelV m v B := by
  have eY : ∀ i j, inN i 6 → inN j 6 → aY B i j = aY A i j := fun i j a b => h _ (by omega)
  have eG : ∀ i k, inN i 6 → inN k 4 → aG B i k = aG A i k := fun i j a b => h _ (by omega)
  have eW : ∀ i k, inN i 6 → inN k 6 → aW B i k = aW A i k := fun i j a b => h _ (by omega)
  have eP : ∀ i k, inN i 24 → inN k 7 → aP B i k = aP A i k := fun i j a b => h _ (by omega)
  have hi := hI.1
  refine ⟨?_, fun i j hi hj => ?_, fun p hp => ?_, fun w hw => ?_, fun i hi => ?_⟩
  · rw [h 0 (by omega), h 1 (by omega), h 2 (by omega)]; exact hR.1
  · rw [eY i j hi hj]; exact hR.2.1 i j hi hj
  · rw [h 1 (by omega)] at hp
    have := hR.2.2.1 p hp
    rw [eG p 3 (by omega) (by omega)]
    refine ⟨this.1, fun k hk => ?_⟩
    rw [eG p k (by omega) (by omega)]
    exact this.2 k hk
  · rw [h 2 (by omega)] at hw
    have := hR.2.2.2.1 w hw
    rw [eW w 0 (by omega) (by omega), eW w 1 (by omega) (by omega), eW w 5 (by omega) (by omega)]
    refine ⟨this.1, this.2.1, this.2.2.1, fun k hk => ?_⟩
    rw [eW w (2 + k) (by omega) (by omega)]
    exact this.2.2.2 k hk
  · have hpi := hR.2.2.2.2 i hi
    rw [eP i 0 hi (by omega), eP i 1 hi (by omega), eP i 2 hi (by omega), eP i 3 hi (by omega), eP i 4 hi (by omega), eP i 5 hi (by omega), eP i 6 hi (by omega)]
    exact hpi
end Tp
