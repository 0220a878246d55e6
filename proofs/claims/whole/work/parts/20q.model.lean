/-! ===== 20q: how a village is read: the mathematics; the reference's readsStatement ===== -/
abbrev Tok := Nat ⊕ Int ⊕ Unit
abbrev tkN (m : Nat) : Tok := Sum.inl m
abbrev tkS (c : Int) : Tok := Sum.inr (Sum.inl c)
abbrev tkK : Tok := Sum.inr (Sum.inr ())
abbrev isDg (T : Int → Int) (n a : Int) : Prop := a < n ∧ 48 ≤ T a ∧ T a ≤ 57
def sgn (T : Int → Int) (n a : Int) : Int := if a < n then T a else -1
def dgN (T : Int → Int) (n : Int) : Nat → Int → Int
  | 0, _ => 0
  | m + 1, a => if isDg T n a then 1 + dgN T n m (a + 1) else 0
def vlN (T : Int → Int) (n : Int) : Nat → Int → Int → Int
  | 0, _, v => v
  | m + 1, a, v => if isDg T n a then vlN T n m (a + 1) (10 * v + T a - 48) else v
def kdOf (c : Int) : Int := if c = 112 then 0 else if c = 119 then 1 else if c = 108 then 2 else if c = 116 then 3 else if c = 115 then 4 else if c = 104 then 5 else -9
def pT (T : Int → Int) (n : Int) : List Tok → Int → Int → (Int → Int) → Bool × Int × (Int → Int)
  | [], a, _, f => (true, a, f)
  | Sum.inl m :: l, a, k, f => if dgN T n m a = 0 then (false, a, f) else pT T n l (a + dgN T n m a) (k + 1) (st1 f k (vlN T n m a 0))
  | Sum.inr (Sum.inl c) :: l, a, k, f => if sgn T n a = c then pT T n l (a + 1) k f else (false, a, f)
  | Sum.inr (Sum.inr ()) :: l, a, k, f => if kdOf (sgn T n a) < 0 then (false, a, f) else pT T n l (a + 1) (k + 1) (st1 f k (kdOf (sgn T n a)))
def nToks : List Tok := [tkN 1, tkS 59]
def wToks : List Tok := [tkN 1, tkN 1, tkS 44, tkN 2, tkS 59]
def pToks : List Tok := [tkN 2, tkS 44, tkN 2, tkS 44, tkN 2, tkS 44, tkN 2, tkS 59]
def kToks : List Tok := [tkK, tkN 1, tkN 3, tkS 44, tkN 3, tkS 44, tkN 3, tkS 44, tkN 2, tkS 59]
def zS : Int → Int := fun _ => 0
def stP (T : Int → Int) (n a : Int) : Bool × Int × (Int → Int) := if sgn T n a = 110 then pT T n nToks (a + 1) 0 zS else if sgn T n a = 119 then pT T n wToks (a + 1) 0 zS else if sgn T n a = 112 then pT T n pToks (a + 1) 0 zS else if sgn T n a = 107 then pT T n kToks (a + 1) 0 zS else (false, a, zS)
def cntS (c : Int) : Int := if c = 110 then 1 else if c = 119 then 3 else if c = 112 then 4 else 6
theorem dgN_b (T : Int → Int) (n : Int) : ∀ (m : Nat) (a : Int), 0 ≤ dgN T n m a ∧ dgN T n m a ≤ m ∧ (a ≤ n → a + dgN T n m a ≤ n) := by
  intro m
  induction m with
  | zero =>
    intro a
    show 0 ≤ (0 : Int) ∧ (0 : Int) ≤ ((0 : Nat) : Int) ∧ (a ≤ n → a + 0 ≤ n)
    omega
  | succ m ih =>
    intro a
    have := ih (a + 1)
    show 0 ≤ (if isDg T n a then 1 + dgN T n m (a + 1) else 0) ∧ (if isDg T n a then 1 + dgN T n m (a + 1) else 0) ≤ ((m + 1 : Nat) : Int) ∧ (a ≤ n → a + (if isDg T n a then 1 + dgN T n m (a + 1) else 0) ≤ n)
    by_cases q : isDg T n a
    · have := q.1
      rw [if_pos q]
      omega
    · rw [if_neg q]
      omega
theorem vlN_b (T : Int → Int) (n : Int) : ∀ (m : Nat) (a v : Int), 0 ≤ v → 0 ≤ vlN T n m a v := by
  intro m
  induction m with
  | zero => intro a v h; exact h
  | succ m ih =>
    intro a v h
    show 0 ≤ (if isDg T n a then vlN T n m (a + 1) (10 * v + T a - 48) else v)
    by_cases q : isDg T n a
    · have := q.2.1
      rw [if_pos q]
      exact ih _ _ (by omega)
    · rw [if_neg q]
      exact h
theorem kdOf_b (c : Int) : kdOf c = -9 ∨ (0 ≤ kdOf c ∧ kdOf c ≤ 5) := by
  unfold kdOf
  repeat' split
  all_goals omega
theorem kdOf_in {c : Int} (h : 0 ≤ kdOf c) : c ≠ -1 := by
  rintro rfl
  revert h
  decide
theorem sgn_in {T : Int → Int} {n a : Int} (h : sgn T n a ≠ -1) : a < n := by
  unfold sgn at h
  by_cases q : a < n
  · exact q
  · rw [if_neg q] at h; omega
/-- where it is well it goes on and stays in -/
theorem pT_mono (T : Int → Int) (n : Int) : ∀ (l : List Tok) (a k : Int) (f : Int → Int), (pT T n l a k f).1 = true → a ≤ (pT T n l a k f).2.1 := by
  intro l
  induction l with
  | nil => intro a k f _; exact Int.le_refl _
  | cons t l ih =>
    intro a k f
    rcases t with m | c | ⟨⟩
    · have hb := dgN_b T n m a
      unfold pT
      split
      · intro h; exact absurd h (by simp)
      · intro h
        have := ih _ _ _ h
        omega
    · unfold pT
      split
      · intro h
        have := ih _ _ _ h
        omega
      · intro h; exact absurd h (by simp)
    · unfold pT
      split
      · intro h; exact absurd h (by simp)
      · intro h
        have := ih _ _ _ h
        omega
theorem stP_mono {T : Int → Int} {n a : Int} (h : (stP T n a).1 = true) : a < (stP T n a).2.1 ∧ (sgn T n a = 110 ∨ sgn T n a = 119 ∨ sgn T n a = 112 ∨ sgn T n a = 107) := by
  unfold stP at *
  split at h
  · rename_i q
    rw [if_pos q]
    have := pT_mono T n _ _ _ _ h
    exact ⟨by omega, Or.inl q⟩
  · rename_i q
    rw [if_neg q]
    split at h
    · rename_i q
      rw [if_pos q]
      have := pT_mono T n _ _ _ _ h
      exact ⟨by omega, Or.inr (Or.inl q)⟩
    · rename_i q
      rw [if_neg q]
      split at h
      · rename_i q
        rw [if_pos q]
        have := pT_mono T n _ _ _ _ h
        exact ⟨by omega, Or.inr (Or.inr (Or.inl q))⟩
      · rename_i q
        rw [if_neg q]
        split at h
        · rename_i q
          rw [if_pos q]
          have := pT_mono T n _ _ _ _ h
          exact ⟨by omega, Or.inr (Or.inr (Or.inr q))⟩
        · exact absurd h (by simp)
/-- a reading stands at a, with k numbers f told -/
def okR (n a k : Int) (f : Int → Int) : Prop := (0 ≤ a ∧ a ≤ n) ∧ (0 ≤ k ∧ k ≤ 6) ∧ ∀ j, 0 ≤ f j
theorem okR.num {T : Int → Int} {n a k : Int} {f : Int → Int} (h : okR n a k f) (hk : k < 6) (m : Nat) : okR n (a + dgN T n m a) (k + 1) (st1 f k (vlN T n m a 0)) := by
  have hb := dgN_b T n m a
  have h1 := h.1
  have h2 := h.2.1
  refine ⟨by omega, by omega, fun j => ?_⟩
  by_cases q : j = k
  · rw [q, st1_eq]; exact vlN_b T n m a 0 (by omega)
  · rw [st1_ne q]; exact h.2.2 j
section Mod
variable {G : GC} {X : JX} {m : HM} {κ p t τ w x y z i k q b h c n a : Int} {A N S g F B W T f : Int → Int} {H C D : Int}
/-- what reading may change -/
def FrR (m m' : HM) : Prop := (∀ t v i, t ≠ 46 → t ≠ 40 → m' t v i = m t v i) ∧ ∀ k, k ≠ 8 → m' 40 0 0 k = m 40 0 0 k
theorem FrR.rf : FrR m m := ⟨fun _ _ _ _ _ => rfl, fun _ _ => rfl⟩
theorem FrR.tr {m' m2 : HM} (h : FrR m m') (h2 : FrR m' m2) : FrR m m2 := ⟨fun t v i a b => (h2.1 t v i a b).trans (h.1 t v i a b), fun k a => (h2.2 k a).trans (h.2 k a)⟩
theorem FrR.t46 {m' : HM} (h : FrR m m') {v i : Int} {f : Int → Int} : FrR m (upr m' 46 v i f) := ⟨fun t' v' i' a b => by
    rw [upr_tag a]
    exact h.1 t' v' i' a b, fun k a => by
    rw [upr_tag (by decide)]
    exact h.2 k a⟩
theorem FrR.f8 {m' : HM} (h : FrR m m') {x : Int} : FrR m (upr m' 40 0 0 (st1 (m' 40 0 0) 8 x)) := ⟨fun t' v' i' a b => by
    rw [upr_tag b]
    exact h.1 t' v' i' a b, fun j a => by
    rw [upr_eq, st1_ne a]
    exact h.2 j a⟩
/-- the tape -/
def TpM (m : HM) (T : Int → Int) (n : Int) : Prop := (m 40 0 0 7 = n ∧ ∀ j, inN j n → m 45 0 0 j = T j) ∧ (0 ≤ n ∧ n ≤ 64) ∧ ∀ j, inN j n → 0 ≤ T j ∧ T j ≤ 255
theorem TpM.fr {m' : HM} (h : TpM m T n) (hf : FrR m m') : TpM m' T n := ⟨⟨(hf.2 7 (by omega)).trans h.1.1, fun j hj => by rw [hf.1 45 0 0 (by decide) (by decide)]; exact h.1.2 j hj⟩, h.2⟩
def RdM (m : HM) (T : Int → Int) (n a k : Int) (f : Int → Int) : Prop := TpM m T n ∧ m 40 0 0 8 = a ∧ (∀ j, inN j k → m 46 0 0 j = f j) ∧ okR n a k f
theorem sgn_b (h : TpM m T n) (ha : 0 ≤ a) : -1 ≤ sgn T n a ∧ sgn T n a ≤ 255 := by
  unfold sgn
  by_cases q : a < n
  · rw [if_pos q]
    have := h.2.2 a ⟨ha, q⟩
    omega
  · rw [if_neg q]; omega
theorem c_sign (h : TpM m T n) (h8 : m 40 0 0 8 = a) (ha : 0 ≤ a) : K_X10_sign G [vr 40 0 0] m (pw (vi (sgn T n a)) m) := by
  refine E_X10_sign (fun X hX hR0 _ _ => ?_)
  have h64 := h.2.1
  refine J_aloadN hX rfl rfl dX10_sign_0 ?_
  refine G_HalfHereModel_at hX dX10_sign_1 mF_X10_66 ?_
  refine J_aloadN hX rfl rfl dX10_sign_4 ?_
  refine G_HalfHereModel_taped hX dX10_sign_5 mF_X10_58 ?_
  rw [h8, h.1.1]
  refine J_icmp_lt (tgt := 15) hX (by decide) dX10_sign_8 (fun h1 => ?_) (fun h1 => ?_)
  · refine J_aloadN hX rfl rfl dX10_sign_15 ?_
    refine G_HalfHereModel_tape hX dX10_sign_16 mF_X10_22 ?_
    refine J_aloadN hX rfl rfl dX10_sign_19 ?_
    refine G_HalfHereModel_at hX dX10_sign_20 mF_X10_66 ?_
    rw [h8]
    refine L_45 hX (by omega) dX10_sign_23 ?_
    rw [h.1.2 a ⟨ha, h1⟩]
    exact J_iret hX hR0 dX10_sign_24 (pwI (by unfold sgn; rw [if_pos h1]))
  · refine J_iconst hX (by decide) dX10_sign_11 ?_
    refine J_goto (tgt := 24) hX (by decide) dX10_sign_12 ?_
    exact J_iret hX hR0 dX10_sign_24 (pwI (by unfold sgn; rw [if_neg (by omega)]))
/-- what one step of reading gives: where it was well, where not -/
def opP (m : HM) (T : Int → Int) (n a k : Int) (f : Int → Int) (t : List Tok) (d : Int) (r : Int) (m' : HM) : Prop := FrR m m' ∧ ((r = 1 ∧ ∃ a' f', (∀ l, pT T n (t ++ l) a k f = pT T n l a' (k + d) f') ∧ RdM m' T n a' (k + d) f') ∨ (r = 0 ∧ ∃ a' f', (∀ l, pT T n (t ++ l) a k f = (false, a', f')) ∧ m' 40 0 0 8 = a' ∧ 0 ≤ a' ∧ a' ≤ n))
theorem opP.rr {m' : HM} {tk : List Tok} {d r : Int} (h : opP m T n a k f tk d r m') : r = 0 ∨ r = 1 := h.2.elim (fun q => Or.inr q.1) (fun q => Or.inl q.1)
theorem c_takes (h : RdM m T n a k f) (hc : c ≠ -1) : K_X10_takes G [vr 40 0 0, vi c] m (pi (opP m T n a k f [tkS c] 0)) := by
  refine E_X10_takes (fun X hX hR0 _ _ => ?_)
  have h64 := h.1.2.1
  have ho := h.2.2.2
  have ha := ho.1
  refine J_aloadN hX rfl rfl dX10_takes_0 ?_
  refine cV0w hX cb_X10_sign mL_X10_69 dX10_takes_1 (c_sign h.1 h.2.1 ha.1) ?_
  refine J_iloadN hX rfl rfl dX10_takes_4 ?_
  refine J_icmp_eq (tgt := 10) hX (by decide) dX10_takes_5 (fun h1 => ?_) (fun h1 => ?_)
  · have hin : a < n := sgn_in (by rw [h1]; exact hc)
    refine J_aloadN hX rfl rfl dX10_takes_10 ?_
    refine J_dup hX rfl dX10_takes_11 ?_
    refine G_HalfHereModel_at hX dX10_takes_12 mF_X10_66 ?_
    refine J_iconst hX (by decide) dX10_takes_15 ?_
    rw [h.2.1]
    refine J_iadd hX (fun _ _ => by omega) dX10_takes_16 ?_
    refine P_HalfHereModel_at hX dX10_takes_17 mF_X10_66 ?_
    refine J_iconst hX (by decide) dX10_takes_20 ?_
    refine J_zret hX hR0 dX10_takes_21 (Or.inr rfl) ?_
    refine ⟨1, rfl, FrR.rf.f8, Or.inl ⟨rfl, a + 1, f, fun l => ?_, h.1.fr FrR.rf.f8, ?_, fun j hj => ?_, ⟨by omega, by have := ho.2.1; omega, ho.2.2⟩⟩⟩
    · show (if sgn T n a = c then pT T n l (a + 1) k f else (false, a, f)) = _
      rw [if_pos h1, Int.add_zero]
    · rw [upr_eq, st1_eq]
    · rw [upr_tag (by decide)]
      exact h.2.2.1 j (by omega)
  · refine J_iconst hX (by decide) dX10_takes_8 ?_
    refine J_zret hX hR0 dX10_takes_9 (Or.inl rfl) ?_
    refine ⟨0, rfl, FrR.rf, Or.inr ⟨rfl, a, f, fun l => ?_, h.2.1, ha.1, ha.2⟩⟩
    exact if_neg h1
theorem l_readsNumber {m0 : HM} {a0 : Int} {mx : Nat} (hX : Ok_X10_readsNumber G X 3) (h : RdM m0 T n a0 k f) (hk : inN k 6) (hmx : mx ≤ 3) (hR0 : JRt G X (pi (opP m0 T n a0 k f [tkN mx] 1)) (some .boolean)) : ∀ i, 0 ≤ i → i ≤ (mx : Int) → ∀ M v, FrR m0 M → M 40 0 0 8 = a0 + i → (∀ j, inN j k → M 46 0 0 j = f j) → M 46 0 0 k = v → (0 ≤ v ∧ (i = 0 → v = 0) ∧ (i ≤ 1 → v ≤ 9) ∧ (i ≤ 2 → v ≤ 99) ∧ v ≤ 999) → a0 + i ≤ n → dgN T n mx a0 = i + dgN T n (mx - i.toNat) (a0 + i) → vlN T n mx a0 0 = vlN T n (mx - i.toNat) (a0 + i) v → J G X 9 [vr 40 0 0, vi k, vi (mx : Int), vi i] [] M := by
  have h64 := h.1.2.1
  have ho := h.2.2.2
  have ha := ho.1
  refine up_to (fun i h1 h2 ih M v hfr s8 s46 sv hv hin hd hvl => ?_)
  have hT := h.1.fr hfr
  have hsb := sgn_b (a := a0 + i) hT (by omega)
  have K71 : dgN T n (mx - i.toNat) (a0 + i) = 0 → vlN T n (mx - i.toNat) (a0 + i) v = v → J G X 71 [vr 40 0 0, vi k, vi (mx : Int), vi i] [] M := fun e1 e2 => by
    refine J_iloadN hX rfl rfl dX10_readsNumber_71 ?_
    have ed : dgN T n mx a0 = i := by omega
    refine J_if_le (tgt := 79) hX (by decide) dX10_readsNumber_72 (fun h3 => ?_) (fun h3 => ?_)
    · refine J_iconst hX (by decide) dX10_readsNumber_79 ?_
      refine J_zret hX hR0 dX10_readsNumber_80 (Or.inl rfl) ?_
      refine ⟨0, rfl, hfr, Or.inr ⟨rfl, a0, f, fun l => ?_, by omega, ha.1, ha.2⟩⟩
      exact if_pos (by omega)
    · refine J_iconst hX (by decide) dX10_readsNumber_75 ?_
      refine J_goto (tgt := 80) hX (by decide) dX10_readsNumber_76 ?_
      refine J_zret hX hR0 dX10_readsNumber_80 (Or.inr rfl) ?_
      have hd0 : dgN T n mx a0 ≠ 0 := by omega
      refine ⟨1, rfl, hfr, Or.inl ⟨rfl, a0 + dgN T n mx a0, st1 f k (vlN T n mx a0 0), fun l => ?_, hT, by omega, fun j hj => ?_, ho.num (by omega) mx⟩⟩
      · exact if_neg hd0
      · by_cases q : j = k
        · rw [q, st1_eq, sv, hvl, e2]
        · rw [st1_ne q]; exact s46 j (by omega)
  refine J_iloadN hX rfl rfl dX10_readsNumber_9 ?_
  refine J_iloadN hX rfl rfl dX10_readsNumber_10 ?_
  refine J_icmp_ge (tgt := 71) hX (by decide) dX10_readsNumber_11 (fun h3 => ?_) (fun h3 => ?_)
  · have e : mx - i.toNat = 0 := by omega
    rw [e] at K71
    exact K71 rfl rfl
  · obtain ⟨r, er⟩ : ∃ r : Nat, mx - i.toNat = r + 1 := ⟨mx - i.toNat - 1, by omega⟩
    have er2 : mx - (i + 1).toNat = r := by omega
    rw [er] at K71 hd hvl
    have nodg : ¬ isDg T n (a0 + i) → J G X 71 [vr 40 0 0, vi k, vi (mx : Int), vi i] [] M := fun q => K71 (if_neg q) (if_neg q)
    refine J_aloadN hX rfl rfl dX10_readsNumber_14 ?_
    refine cV0w hX cb_X10_sign mL_X10_69 dX10_readsNumber_15 (c_sign hT s8 (by omega)) ?_
    refine J_bipush hX (by decide) dX10_readsNumber_18 ?_
    refine J_icmp_lt (tgt := 71) hX (by decide) dX10_readsNumber_20 (fun h4 => ?_) (fun h4 => ?_)
    · exact nodg (fun q => by have e : sgn T n (a0 + i) = T (a0 + i) := if_pos q.1; have := q.2.1; omega)
    · refine J_aloadN hX rfl rfl dX10_readsNumber_23 ?_
      refine cV0w hX cb_X10_sign mL_X10_69 dX10_readsNumber_24 (c_sign hT s8 (by omega)) ?_
      refine J_bipush hX (by decide) dX10_readsNumber_27 ?_
      refine J_icmp_gt (tgt := 71) hX (by decide) dX10_readsNumber_29 (fun h5 => ?_) (fun h5 => ?_)
      · exact nodg (fun q => by have e : sgn T n (a0 + i) = T (a0 + i) := if_pos q.1; have := q.2.2; omega)
      · have hlt : a0 + i < n := sgn_in (T := T) (n := n) (a := a0 + i) (by omega)
        have es : sgn T n (a0 + i) = T (a0 + i) := if_pos hlt
        have hdg : isDg T n (a0 + i) := ⟨hlt, by omega, by omega⟩
        have e1 : dgN T n (r + 1) (a0 + i) = 1 + dgN T n r (a0 + i + 1) := if_pos hdg
        have e2 : vlN T n (r + 1) (a0 + i) v = vlN T n r (a0 + i + 1) (10 * v + T (a0 + i) - 48) := if_pos hdg
        rw [e1] at hd
        rw [e2] at hvl
        refine J_aloadN hX rfl rfl dX10_readsNumber_32 ?_
        refine G_HalfHereModel_told hX dX10_readsNumber_33 mF_X10_25 ?_
        refine J_iloadN hX rfl rfl dX10_readsNumber_36 ?_
        refine J_bipush hX (by decide) dX10_readsNumber_37 ?_
        refine J_aloadN hX rfl rfl dX10_readsNumber_39 ?_
        refine G_HalfHereModel_told hX dX10_readsNumber_40 mF_X10_25 ?_
        refine J_iloadN hX rfl rfl dX10_readsNumber_43 ?_
        refine L_46 hX (by omega) dX10_readsNumber_44 ?_
        rw [sv]
        refine J_imul hX (fun _ _ => by omega) dX10_readsNumber_45 ?_
        refine J_aloadN hX rfl rfl dX10_readsNumber_46 ?_
        refine cV0w hX cb_X10_sign mL_X10_69 dX10_readsNumber_47 (c_sign hT s8 (by omega)) ?_
        refine J_iadd hX (fun _ _ => by omega) dX10_readsNumber_50 ?_
        refine J_bipush hX (by decide) dX10_readsNumber_51 ?_
        refine J_isub hX (fun _ _ => by omega) dX10_readsNumber_53 ?_
        refine S_46 hX (by omega) dX10_readsNumber_54 ?_
        refine J_aloadN hX rfl rfl dX10_readsNumber_55 ?_
        refine J_dup hX rfl dX10_readsNumber_56 ?_
        refine G_HalfHereModel_at hX dX10_readsNumber_57 mF_X10_66 ?_
        refine J_iconst hX (by decide) dX10_readsNumber_60 ?_
        rw [upr_tag (by decide), s8]
        refine J_iadd hX (fun _ _ => by omega) dX10_readsNumber_61 ?_
        refine P_HalfHereModel_at hX dX10_readsNumber_62 mF_X10_66 ?_
        refine sinc_3 hX (fun _ => by omega) dX10_readsNumber_65 ?_
        refine J_goto (tgt := 9) hX (by decide) dX10_readsNumber_68 ?_
        refine ih (by omega) _ (10 * v + T (a0 + i) - 48) hfr.t46.f8 ?_ (fun j hj => ?_) ?_ ?_ (by omega) ?_ ?_
        · rw [upr_eq, st1_eq]; omega
        · rw [upr_tag (by decide), upr_eq, st1_ne (by omega)]; exact s46 j hj
        · rw [upr_tag (by decide), upr_eq, st1_eq, es]
        · omega
        · rw [er2, show a0 + (i + 1) = a0 + i + 1 by omega]; omega
        · rw [er2, show a0 + (i + 1) = a0 + i + 1 by omega]; exact hvl
theorem c_readsNumber {mx : Nat} (h : RdM m T n a k f) (hk : inN k 6) (hmx : mx ≤ 3) : K_X10_readsNumber G [vr 40 0 0, vi k, vi (mx : Int)] m (pi (opP m T n a k f [tkN mx] 1)) := by
  refine E_X10_readsNumber (fun X hX hR0 _ _ => ?_)
  have ha := h.2.2.2.1
  refine J_aloadN hX rfl rfl dX10_readsNumber_0 ?_
  refine G_HalfHereModel_told hX dX10_readsNumber_1 mF_X10_25 ?_
  refine J_iloadN hX rfl rfl dX10_readsNumber_4 ?_
  refine J_iconst hX (by decide) dX10_readsNumber_5 ?_
  refine S_46 hX (by omega) dX10_readsNumber_6 ?_
  refine J_iconst hX (by decide) dX10_readsNumber_7 ?_
  refine siN_3 hX dX10_readsNumber_8 ?_
  refine l_readsNumber hX h hk hmx hR0 0 (by omega) (by omega) _ 0 FrR.rf.t46 ?_ (fun j hj => ?_) ?_ (by omega) (by omega) ?_ ?_
  · rw [upr_tag (by decide), h.2.1]; omega
  · rw [upr_eq, st1_ne (by omega)]; exact h.2.2.1 j hj
  · rw [upr_eq, st1_eq]
  · rw [show mx - (0 : Int).toNat = mx by omega, Int.add_zero, Int.zero_add]
  · rw [show mx - (0 : Int).toNat = mx by omega, Int.add_zero]
theorem c_kindOf : K_X10_kindOf G [vi x] m (pw (vi (kdOf x)) m) := by
  refine E_X10_kindOf (fun X hX hR0 _ _ => ?_)
  have K91 : kdOf x = -9 → J G X 92 [vi x] [] m := fun e => by
    refine J_bipush hX (by decide) dX10_kindOf_92 ?_
    exact J_iret hX hR0 dX10_kindOf_94 (pwI e.symm)
  by_cases h1 : x = 112
  · subst h1
    refine J_iloadN hX rfl rfl dX10_kindOf_0 ?_
    refine J_tableIn (off := 79) (tgt := 80) hX (by omega) (by omega) rfl (by decide) dX10_kindOf_1 ?_
    refine J_iconst hX (by decide) dX10_kindOf_80 ?_
    exact J_iret hX hR0 dX10_kindOf_81 (pwI rfl)
  · by_cases h2 : x = 119
    · subst h2
      refine J_iloadN hX rfl rfl dX10_kindOf_0 ?_
      refine J_tableIn (off := 81) (tgt := 82) hX (by omega) (by omega) rfl (by decide) dX10_kindOf_1 ?_
      refine J_iconst hX (by decide) dX10_kindOf_82 ?_
      exact J_iret hX hR0 dX10_kindOf_83 (pwI rfl)
    · by_cases h3 : x = 108
      · subst h3
        refine J_iloadN hX rfl rfl dX10_kindOf_0 ?_
        refine J_tableIn (off := 83) (tgt := 84) hX (by omega) (by omega) rfl (by decide) dX10_kindOf_1 ?_
        refine J_iconst hX (by decide) dX10_kindOf_84 ?_
        exact J_iret hX hR0 dX10_kindOf_85 (pwI rfl)
      · by_cases h4 : x = 116
        · subst h4
          refine J_iloadN hX rfl rfl dX10_kindOf_0 ?_
          refine J_tableIn (off := 85) (tgt := 86) hX (by omega) (by omega) rfl (by decide) dX10_kindOf_1 ?_
          refine J_iconst hX (by decide) dX10_kindOf_86 ?_
          exact J_iret hX hR0 dX10_kindOf_87 (pwI rfl)
        · by_cases h5 : x = 115
          · subst h5
            refine J_iloadN hX rfl rfl dX10_kindOf_0 ?_
            refine J_tableIn (off := 87) (tgt := 88) hX (by omega) (by omega) rfl (by decide) dX10_kindOf_1 ?_
            refine J_iconst hX (by decide) dX10_kindOf_88 ?_
            exact J_iret hX hR0 dX10_kindOf_89 (pwI rfl)
          · by_cases h6 : x = 104
            · subst h6
              refine J_iloadN hX rfl rfl dX10_kindOf_0 ?_
              refine J_tableIn (off := 89) (tgt := 90) hX (by omega) (by omega) rfl (by decide) dX10_kindOf_1 ?_
              refine J_iconst hX (by decide) dX10_kindOf_90 ?_
              exact J_iret hX hR0 dX10_kindOf_91 (pwI rfl)
            · have e : kdOf x = -9 := by
                unfold kdOf
                rw [if_neg h1, if_neg h2, if_neg h3, if_neg h4, if_neg h5, if_neg h6]
              by_cases hx : 104 ≤ x ∧ x ≤ 119
              · refine J_iloadN hX rfl rfl dX10_kindOf_0 ?_
                rcases (show x = 105 ∨ x = 106 ∨ x = 107 ∨ x = 109 ∨ x = 110 ∨ x = 111 ∨ x = 113 ∨ x = 114 ∨ x = 117 ∨ x = 118 by omega) with rfl | rfl | rfl | rfl | rfl | rfl | rfl | rfl | rfl | rfl
                all_goals
                  refine J_tableIn (off := 91) (tgt := 92) hX (by omega) (by omega) rfl (by decide) dX10_kindOf_1 ?_
                  exact K91 rfl
              · refine J_iloadN hX rfl rfl dX10_kindOf_0 ?_
                refine J_tableOut (tgt := 92) hX (by omega) (by decide) dX10_kindOf_1 ?_
                exact K91 e
end Mod
