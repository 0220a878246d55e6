/-! ===== 11c: what is given to a work; how well: the mathematics, and the class's Effort ===== -/
def gv (κ w g t τ : Int) : Int := if 240 < τ then 0 else if (κ = 1 ∧ t < 12) ∨ ((κ = 2 ∨ κ = 5) ∧ t < 8) then 0 else (if κ = 5 ∧ w = 0 then max 0 (g - τ) else if κ = 4 ∧ w = 1 then 2 * g else g) * t
theorem mul_b {x y a b : Int} (hx : 0 ≤ x ∧ x ≤ a) (hy : 0 ≤ y ∧ y ≤ b) : 0 ≤ x * y ∧ x * y ≤ a * b :=
  ⟨Int.mul_nonneg hx.1 hy.1, Int.mul_le_mul hx.2 hy.2 hy.1 (by omega)⟩
theorem gv_b {κ w g t τ : Int} (hg : 0 ≤ g ∧ g ≤ 60) (ht : 0 ≤ t ∧ t ≤ 12) (hτ : 0 ≤ τ) : 0 ≤ gv κ w g t τ ∧ gv κ w g t τ ≤ 1440 := by
  unfold gv
  have key : ∀ z : Int, 0 ≤ z → z ≤ 120 → 0 ≤ z * t ∧ z * t ≤ 1440 := fun z h1 h2 => mul_b (a := 120) (b := 12) ⟨h1, h2⟩ ht
  split
  · omega
  · split
    · omega
    · split
      · exact key _ (by omega) (by omega)
      · split
        · exact key _ (by omega) (by omega)
        · exact key _ (by omega) (by omega)
def dS (κ : Int) (S : Int → Int) (H k : Int) : Int := if κ = 3 ∧ 2 ≤ pcI H then S k + S k / 2 else S k
def doneS (κ : Int) (N S : Int → Int) (H : Int) : Prop := ∀ k, inN k 3 → 12 * N k ≤ dS κ S H k
def wst (κ : Int) (N S : Int → Int) (H k : Int) (q : Int × Int) : Int × Int := if 0 < 12 * N k ∧ dS κ S H k * q.2 < q.1 * (12 * N k) then (dS κ S H k, 12 * N k) else q
def wlN (κ : Int) (N S : Int → Int) (H : Int) : Nat → Int × Int
  | 0 => (1, 1)
  | n + 1 => wst κ N S H n (wlN κ N S H n)
def wlI (κ : Int) (N S : Int → Int) (H n : Int) : Int × Int := wlN κ N S H n.toNat
theorem wlI_s {κ : Int} {N S : Int → Int} {H n : Int} (h : 0 ≤ n) : wlI κ N S H (n + 1) = wst κ N S H n (wlI κ N S H n) := by
  unfold wlI
  rw [show (n + 1).toNat = n.toNat + 1 by omega]
  show wst κ N S H ((n.toNat : Nat) : Int) _ = _
  rw [Int.toNat_of_nonneg h]
/-- needs and sums as they are -/
def okNS (N S : Int → Int) : Prop := ∀ k, inN k 3 → (0 ≤ N k ∧ N k ≤ 200) ∧ (0 ≤ S k ∧ S k ≤ 40000)
theorem dS_b {κ : Int} {N S : Int → Int} {H k : Int} (h : okNS N S) (hk : inN k 3) : 0 ≤ dS κ S H k ∧ dS κ S H k ≤ 60000 := by
  have := (h k hk).2
  unfold dS
  split <;> omega
theorem wlI_b {κ : Int} {N S : Int → Int} {H : Int} (h : okNS N S) : ∀ n, 0 ≤ n → n ≤ 3 → (0 ≤ (wlI κ N S H n).1 ∧ (wlI κ N S H n).1 ≤ 60000) ∧ (1 ≤ (wlI κ N S H n).2 ∧ (wlI κ N S H n).2 ≤ 2400) ∧ (((wlI κ N S H n).1 = (wlI κ N S H n).2 ∧ ∀ k, inN k n → 12 * N k ≤ dS κ S H k) ∨ ((wlI κ N S H n).1 < (wlI κ N S H n).2 ∧ ∃ k, inN k n ∧ dS κ S H k < 12 * N k)) := by
  intro n h0
  obtain ⟨j, rfl⟩ : ∃ j : Nat, n = j := ⟨n.toNat, by omega⟩
  clear h0
  induction j with
  | zero =>
    intro _
    show (0 ≤ (1 : Int) ∧ (1 : Int) ≤ 60000) ∧ (1 ≤ (1 : Int) ∧ (1 : Int) ≤ 2400) ∧ (((1 : Int) = 1 ∧ _) ∨ _)
    exact ⟨by omega, by omega, Or.inl ⟨rfl, fun k hk => by have := hk.1; have := hk.2; omega⟩⟩
  | succ j ih =>
    intro h3
    obtain ⟨i1, i2, i3⟩ := ih (by omega)
    have e : wlI κ N S H ((j + 1 : Nat) : Int) = wst κ N S H j (wlI κ N S H j) := by
      rw [show ((j + 1 : Nat) : Int) = (j : Int) + 1 by omega]
      exact wlI_s (by omega)
    rw [e]
    have hj : inN (j : Int) 3 := by omega
    have hd := dS_b (κ := κ) (H := H) h hj
    have hN := (h j hj).1
    unfold wst
    by_cases q : 0 < 12 * N j ∧ dS κ S H j * (wlI κ N S H j).2 < (wlI κ N S H j).1 * (12 * N j)
    · rw [if_pos q]
      have lt : dS κ S H j < 12 * N j := by
        have a1 : (wlI κ N S H j).1 * (12 * N j) ≤ (wlI κ N S H j).2 * (12 * N j) := by
          apply Int.mul_le_mul_of_nonneg_right _ (by omega)
          rcases i3 with i3 | i3 <;> omega
        have a2 : dS κ S H j * (wlI κ N S H j).2 < (12 * N j) * (wlI κ N S H j).2 := by
          rw [Int.mul_comm (12 * N j)]
          omega
        exact Int.lt_of_mul_lt_mul_right a2 (by omega)
      refine ⟨⟨hd.1, hd.2⟩, ⟨by show 1 ≤ 12 * N j; omega, by show 12 * N j ≤ 2400; omega⟩, Or.inr ⟨lt, j, by omega, lt⟩⟩
    · rw [if_neg q]
      refine ⟨i1, i2, ?_⟩
      rcases i3 with ⟨i3, i4⟩ | ⟨i3, k, hk, i4⟩
      · refine Or.inl ⟨i3, fun k hk => ?_⟩
        by_cases hkj : k = j
        · subst hkj
          by_cases h0 : 0 < 12 * N j
          · have q1 : ¬ dS κ S H j * (wlI κ N S H j).2 < (wlI κ N S H j).1 * (12 * N j) := fun z => q ⟨h0, z⟩
            have q2 : (12 * N j) * (wlI κ N S H j).2 ≤ dS κ S H j * (wlI κ N S H j).2 := by
              rw [i3] at q1
              rw [Int.mul_comm (12 * N j)]
              omega
            exact Int.le_of_mul_le_mul_right q2 (by omega)
          · omega
        · exact i4 k (by omega)
      · exact Or.inr ⟨i3, k, by omega, i4⟩
theorem done_wl {κ : Int} {N S : Int → Int} {H : Int} (h : okNS N S) : doneS κ N S H ↔ (wlI κ N S H 3).1 = (wlI κ N S H 3).2 := by
  obtain ⟨-, -, i3⟩ := wlI_b (κ := κ) (H := H) h 3 (by omega) (by omega)
  constructor
  · intro hd
    rcases i3 with i3 | ⟨-, k, hk, i4⟩
    · exact i3.1
    · have := hd k hk
      omega
  · intro he
    rcases i3 with i3 | ⟨i3, -⟩
    · exact i3.2
    · omega
/-! the class's Effort e -/
def RelE (m : HM) (e κ : Int) (N S : Int → Int) (H : Int) : Prop := m 17 e 0 0 = κ ∧ m 17 e 0 3 = H ∧ (∀ k, inN k 3 → m 18 e 0 k = N k) ∧ (∀ k, inN k 3 → m 19 e 0 k = S k)
def FrE (e : Int) (m m' : HM) : Prop := ∀ t v i, ¬ (17 ≤ t ∧ t ≤ 19 ∧ v = e) → m' t v i = m t v i
theorem FrE.rf {e : Int} {m : HM} : FrE e m m := fun _ _ _ _ => rfl
theorem FrE.tr {e : Int} {m m' m2 : HM} (h : FrE e m m') (h2 : FrE e m' m2) : FrE e m m2 := fun t v i hn => (h2 t v i hn).trans (h t v i hn)
theorem FrE.up {e : Int} {m m' : HM} (h : FrE e m m') {t : Nat} (ht : 17 ≤ t ∧ t ≤ 19) {i : Int} {f : Int → Int} : FrE e m (upr m' t e i f) := fun t' v' i' hn => by
  rw [upr_ne (fun q => hn ⟨by rw [q.1]; exact ht.1, by rw [q.1]; exact ht.2, q.2.1⟩)]
  exact h t' v' i' hn
section Eff
variable {G : GC} {X : JX} {m : HM} {e κ p t τ v w x : Int} {N S g : Int → Int} {H : Int}
theorem l_begin (hX : Ok_X1_begin G X 2) (hN : ∀ k, inN k 3 → m 12 v w k = N k) (hR0 : JRt G X (pu (fun m' => FrE e m m' ∧ RelE m' e κ N (fun _ => 0) 0)) none) : ∀ i, 0 ≤ i → i ≤ 3 → ∀ M, FrE e m M → M 17 e 0 0 = κ → M 17 e 0 3 = 0 → (∀ k, inN k i → M 18 e 0 k = N k ∧ M 19 e 0 k = 0) → J G X 15 [vr 17 e 0, vr 11 v w, vi i] [] M := by
  refine up_to (fun i h1 h2 ih M hfr s1 s2 s3 => ?_)
  refine J_iloadN hX rfl rfl dX1_begin_15 ?_
  refine J_iconst hX (by decide) dX1_begin_16 ?_
  refine J_icmp_ge (tgt := 45) hX (by decide) dX1_begin_17 (fun h3 => ?_) (fun h3 => ?_)
  · skip
    exact J_vret hX hR0 dX1_begin_45 (puI ⟨hfr, s1, s2, fun k hk => (s3 k (by omega)).1, fun k hk => (s3 k (by omega)).2⟩)
  · have e12 : M 12 v w i = N i := by rw [hfr 12 v w (by omega)]; exact hN i ⟨h1, h3⟩
    refine J_aloadN hX rfl rfl dX1_begin_20 ?_
    refine G_Effort_needs hX dX1_begin_21 mF_X1_9 ?_
    refine J_iloadN hX rfl rfl dX1_begin_24 ?_
    refine J_aloadN hX rfl rfl dX1_begin_25 ?_
    refine G_Work_needs hX dX1_begin_26 mF_X1_31 ?_
    refine J_iloadN hX rfl rfl dX1_begin_29 ?_
    refine L_12 hX (by omega) dX1_begin_30 ?_
    refine S_18 hX (by omega) dX1_begin_31 ?_
    refine J_aloadN hX rfl rfl dX1_begin_32 ?_
    refine G_Effort_given hX dX1_begin_33 mF_X1_15 ?_
    refine J_iloadN hX rfl rfl dX1_begin_36 ?_
    refine J_iconst hX (by decide) dX1_begin_37 ?_
    refine S_19 hX (by omega) dX1_begin_38 ?_
    refine sinc_2 hX (fun _ => by omega) dX1_begin_39 ?_
    refine J_goto (tgt := 15) hX (by decide) dX1_begin_42 ?_
    refine ih h3 _ ((hfr.up (by decide)).up (by decide)) ?_ ?_ (fun k hk => ?_)
    · simp only [upr_t, Nat.reduceBEq]; exact s1
    · simp only [upr_t, Nat.reduceBEq]; exact s2
    · simp only [upr_t, Nat.reduceBEq, upr_eq]
      by_cases q : k = i
      · subst q
        rw [st1_eq, st1_eq]
        exact ⟨e12, rfl⟩
      · rw [st1_ne q, st1_ne q]
        exact s3 k (by omega)
theorem c_begin (hκ : m 11 v w 0 = κ) (hN : ∀ k, inN k 3 → m 12 v w k = N k) : K_X1_begin G [vr 17 e 0, vr 11 v w] m (pu (fun m' => FrE e m m' ∧ RelE m' e κ N (fun _ => 0) 0)) := by
  refine E_X1_begin (fun X hX hR0 _ _ => ?_)
  refine J_aloadN hX rfl rfl dX1_begin_0 ?_
  refine J_aloadN hX rfl rfl dX1_begin_1 ?_
  refine G_Work_kind hX dX1_begin_2 mF_X1_22 ?_
  refine P_Effort_kind hX dX1_begin_5 mF_X1_27 ?_
  refine J_aloadN hX rfl rfl dX1_begin_8 ?_
  refine J_iconst hX (by decide) dX1_begin_9 ?_
  refine P_Effort_helpers hX dX1_begin_10 mF_X1_28 ?_
  refine J_iconst hX (by decide) dX1_begin_13 ?_
  refine siN_2 hX dX1_begin_14 ?_
  refine l_begin hX hN hR0 0 (by omega) (by omega) _ ((FrE.rf.up (by decide)).up (by decide)) ?_ ?_ (fun k hk => by omega)
  · simp only [upr_eq]
    exact hκ
  · simp only [upr_eq]
    rfl
theorem c_stand (hE : RelE m e κ N S H) (hp : inN p 6) (hH : inN H 64) : K_X1_stand G [vr 17 e 0, vi p] m (pu (fun m' => FrE e m m' ∧ RelE m' e κ N S (orI H (p2 p)))) := by
  refine E_X1_stand (fun X hX hR0 _ _ => ?_)
  refine J_aloadN hX rfl rfl dX1_stand_0 ?_
  refine J_dup hX rfl dX1_stand_1 ?_
  refine G_Effort_helpers hX dX1_stand_2 mF_X1_28 ?_
  refine J_iconst hX (by decide) dX1_stand_5 ?_
  refine J_iloadN hX rfl rfl dX1_stand_6 ?_
  refine J_ishl hX (fun _ _ => sd_shl ⟨hp.1, by omega⟩) dX1_stand_7 ?_
  refine J_ior hX (fun _ _ => by rw [hE.2.1]; exact sd_or hH (p2_b hp).1) dX1_stand_8 ?_
  refine P_Effort_helpers hX dX1_stand_9 mF_X1_28 ?_
  refine J_vret hX hR0 dX1_stand_12 ?_
  refine puI ⟨FrE.rf.up (by decide), ?_, ?_, ?_, ?_⟩
  · simp only [upr_eq]; exact hE.1
  · simp only [upr_eq, st1_eq]
  · simp only [upr_t, Nat.reduceBEq]; exact hE.2.2.1
  · simp only [upr_t, Nat.reduceBEq]; exact hE.2.2.2
theorem c_sum (hE : RelE m e κ N S H) (hS : okNS N S) (hk : inN x 3) (hH : inN H 64) : K_X1_sum G [vr 17 e 0, vi x] m (pw (vi (dS κ S H x)) m) := by
  refine E_X1_sum (fun X hX hR0 _ _ => ?_)
  have hb := (hS x hk).2
  have e19 := hE.2.2.2 x hk
  have td : (S x).tdiv 2 = S x / 2 := Int.tdiv_eq_ediv_of_nonneg hb.1
  refine J_aloadN hX rfl rfl dX1_sum_0 ?_
  refine G_Effort_kind hX dX1_sum_1 mF_X1_27 ?_
  refine J_iconst hX (by decide) dX1_sum_4 ?_
  refine J_icmp_ne (tgt := 35) hX (by decide) dX1_sum_5 (fun h1 => ?_) (fun h1 => ?_)
  · refine J_aloadN hX rfl rfl dX1_sum_35 ?_
    refine G_Effort_given hX dX1_sum_36 mF_X1_15 ?_
    refine J_iloadN hX rfl rfl dX1_sum_39 ?_
    refine L_19 hX (by omega) dX1_sum_40 ?_
    exact J_iret hX hR0 dX1_sum_41 (pwI (by unfold dS; rw [if_neg (fun q => h1 (by rw [hE.1]; exact q.1))]; exact e19))
  · refine J_aloadN hX rfl rfl dX1_sum_8 ?_
    refine G_Effort_helpers hX dX1_sum_9 mF_X1_28 ?_
    rw [hE.2.1]
    refine cS1w hX cb_J6_bitCount_0f7a4 mL_X1_40 dX1_sum_12 (c_bitCount hH) ?_
    refine J_iconst hX (by decide) dX1_sum_15 ?_
    refine J_icmp_lt (tgt := 35) hX (by decide) dX1_sum_16 (fun h2 => ?_) (fun h2 => ?_)
    · refine J_aloadN hX rfl rfl dX1_sum_35 ?_
      refine G_Effort_given hX dX1_sum_36 mF_X1_15 ?_
      refine J_iloadN hX rfl rfl dX1_sum_39 ?_
      refine L_19 hX (by omega) dX1_sum_40 ?_
      exact J_iret hX hR0 dX1_sum_41 (pwI (by unfold dS; rw [if_neg (by omega)]; exact e19))
    · refine J_aloadN hX rfl rfl dX1_sum_19 ?_
      refine G_Effort_given hX dX1_sum_20 mF_X1_15 ?_
      refine J_iloadN hX rfl rfl dX1_sum_23 ?_
      refine L_19 hX (by omega) dX1_sum_24 ?_
      refine J_aloadN hX rfl rfl dX1_sum_25 ?_
      refine G_Effort_given hX dX1_sum_26 mF_X1_15 ?_
      refine J_iloadN hX rfl rfl dX1_sum_29 ?_
      refine L_19 hX (by omega) dX1_sum_30 ?_
      rw [e19]
      refine J_iconst hX (by decide) dX1_sum_31 ?_
      refine J_idiv hX (fun _ _ => by omega) (fun _ _ => by rw [td]; omega) dX1_sum_32 ?_
      refine J_iadd hX (fun _ _ => by rw [td]; omega) dX1_sum_33 ?_
      exact J_iret hX hR0 dX1_sum_34 (pwI (by unfold dS; rw [if_pos ⟨by rw [← hE.1]; exact h1, h2⟩, td]))
end Eff
