/-! ===== 20v: what is told keeps what holds ===== -/
theorem pT_keep (T : Int → Int) (n : Int) : ∀ (l : List Tok) (a k : Int) (f : Int → Int), ∀ j, j < k → (pT T n l a k f).2.2 j = f j := by
  intro l
  induction l with
  | nil => intro a k f j _; rfl
  | cons t l ih =>
    intro a k f j hj
    rcases t with m | c | ⟨⟩
    · unfold pT
      split
      · rfl
      · rw [ih _ _ _ j (by omega), st1_ne (by omega)]
    · unfold pT
      split
      · exact ih _ _ _ j hj
      · rfl
    · unfold pT
      split
      · rfl
      · rw [ih _ _ _ j (by omega), st1_ne (by omega)]
theorem pT_num {T : Int → Int} {n : Int} {m : Nat} {l : List Tok} {a k : Int} {f : Int → Int} (h : (pT T n (tkN m :: l) a k f).1 = true) : ∃ a', pT T n (tkN m :: l) a k f = pT T n l a' (k + 1) (st1 f k (vlN T n m a 0)) := by
  have e : pT T n (tkN m :: l) a k f = (if dgN T n m a = 0 then (false, a, f) else pT T n l (a + dgN T n m a) (k + 1) (st1 f k (vlN T n m a 0))) := rfl
  rw [e] at h ⊢
  by_cases q : dgN T n m a = 0
  · rw [if_pos q] at h
    exact absurd h (by simp)
  · rw [if_neg q]
    exact ⟨_, rfl⟩
theorem pT_sg {T : Int → Int} {n : Int} {c : Int} {l : List Tok} {a k : Int} {f : Int → Int} (h : (pT T n (tkS c :: l) a k f).1 = true) : ∃ a', pT T n (tkS c :: l) a k f = pT T n l a' k f := by
  have e : pT T n (tkS c :: l) a k f = (if sgn T n a = c then pT T n l (a + 1) k f else (false, a, f)) := rfl
  rw [e] at h ⊢
  by_cases q : sgn T n a = c
  · rw [if_pos q]
    exact ⟨_, rfl⟩
  · rw [if_neg q] at h
    exact absurd h (by simp)
theorem pT_kd {T : Int → Int} {n : Int} {l : List Tok} {a k : Int} {f : Int → Int} (h : (pT T n (tkK :: l) a k f).1 = true) : 0 ≤ kdOf (sgn T n a) ∧ ∃ a', pT T n (tkK :: l) a k f = pT T n l a' (k + 1) (st1 f k (kdOf (sgn T n a))) := by
  have e : pT T n (tkK :: l) a k f = (if kdOf (sgn T n a) < 0 then (false, a, f) else pT T n l (a + 1) (k + 1) (st1 f k (kdOf (sgn T n a)))) := rfl
  rw [e] at h ⊢
  by_cases q : kdOf (sgn T n a) < 0
  · rw [if_pos q] at h
    exact absurd h (by simp)
  · rw [if_neg q]
    exact ⟨by omega, _, rfl⟩
theorem vlN_b2 (T : Int → Int) (n a : Int) : vlN T n 2 a 0 ≤ 99 := by
  show (if isDg T n a then (if isDg T n (a + 1) then 10 * (10 * 0 + T a - 48) + T (a + 1) - 48 else 10 * 0 + T a - 48) else 0) ≤ 99
  split
  · rename_i q1
    split
    · rename_i q2
      have := q1.2.2
      have := q2.2.2
      omega
    · have := q1.2.2
      omega
  · omega
theorem pT_nn (T : Int → Int) (n : Int) : ∀ (l : List Tok) (a k : Int) (f : Int → Int), (∀ j, 0 ≤ f j) → (pT T n l a k f).1 = true → ∀ j, 0 ≤ (pT T n l a k f).2.2 j := by
  intro l
  induction l with
  | nil => intro a k f hf _ j; exact hf j
  | cons t l ih =>
    intro a k f hf h j
    have up : ∀ x, 0 ≤ x → ∀ j, 0 ≤ st1 f k x j := fun x hx j => by
      by_cases q : j = k
      · rw [q, st1_eq]; exact hx
      · rw [st1_ne q]; exact hf j
    rcases t with m | c | ⟨⟩
    · obtain ⟨a', e⟩ := pT_num h
      rw [e] at h ⊢
      exact ih _ _ _ (up _ (vlN_b T n m a 0 (by omega))) h j
    · obtain ⟨a', e⟩ := pT_sg h
      rw [e] at h ⊢
      exact ih _ _ _ hf h j
    · obtain ⟨q, a', e⟩ := pT_kd h
      rw [e] at h ⊢
      exact ih _ _ _ (up _ q) h j
theorem stP_nn {T : Int → Int} {n a : Int} (h : (stP T n a).1 = true) : ∀ j, 0 ≤ (stP T n a).2.2 j := by
  have hz : ∀ j, 0 ≤ zS j := fun j => by unfold zS; omega
  unfold stP at *
  split at h
  · rename_i q; rw [if_pos q]; exact pT_nn T n _ _ _ _ hz h
  · rename_i q; rw [if_neg q]
    split at h
    · rename_i q; rw [if_pos q]; exact pT_nn T n _ _ _ _ hz h
    · rename_i q; rw [if_neg q]
      split at h
      · rename_i q; rw [if_pos q]; exact pT_nn T n _ _ _ _ hz h
      · rename_i q; rw [if_neg q]
        split at h
        · rename_i q; rw [if_pos q]; exact pT_nn T n _ _ _ _ hz h
        · exact absurd h (by simp)
theorem stP_k {T : Int → Int} {n a : Int} (h : (stP T n a).1 = true) (hc : sgn T n a = 107) : ((stP T n a).2.2 0 ≤ 5) ∧ (stP T n a).2.2 5 ≤ 99 := by
  have e0 : stP T n a = pT T n kToks (a + 1) 0 zS := by
    unfold stP
    rw [if_neg (by omega), if_neg (by omega), if_neg (by omega), if_pos hc]
  rw [e0] at h ⊢
  unfold kToks at h ⊢
  obtain ⟨q, a1, e1⟩ := pT_kd h
  have hk := kdOf_b (sgn T n (a + 1))
  rw [e1] at h ⊢
  refine ⟨?_, ?_⟩
  · rw [pT_keep T n _ _ _ _ 0 (by omega), st1_eq]
    omega
  · obtain ⟨a2, e2⟩ := pT_num h
    rw [e2] at h ⊢
    obtain ⟨a3, e3⟩ := pT_num h
    rw [e3] at h ⊢
    obtain ⟨a4, e4⟩ := pT_sg h
    rw [e4] at h ⊢
    obtain ⟨a5, e5⟩ := pT_num h
    rw [e5] at h ⊢
    obtain ⟨a6, e6⟩ := pT_sg h
    rw [e6] at h ⊢
    obtain ⟨a7, e7⟩ := pT_num h
    rw [e7] at h ⊢
    obtain ⟨a8, e8⟩ := pT_sg h
    rw [e8] at h ⊢
    obtain ⟨a9, e9⟩ := pT_num h
    rw [e9]
    rw [pT_keep T n _ _ _ _ 5 (by omega), show (5 : Int) = 0 + 1 + 1 + 1 + 1 + 1 by omega, st1_eq]
    exact vlN_b2 T n _
/-! what holds of a village stays with what is told -/
def InvS (A : Int → Int) : Prop := ∀ p, inN p (A 1) → sumI (twA A p) 24 ≤ 12
theorem twA_cg {A B : Int → Int} {p i : Int} (h0 : aP B i 0 = aP A i 0) (h1 : aP B i 1 = aP A i 1) : twA B p i = twA A p i := by
  unfold twA aOf
  rw [h1]
  refine ifP_congr ?_
  rw [aIs_congr h0, h0]
theorem InvA_pl {A : Int → Int} {C D x : Int} (hI : InvA A C D) (hS : InvS A) (ok : okPl A x) : InvA (upPl A x) C D ∧ InvS (upPl A x) := by
  have e0 : upPl A x 0 = x := st1_eq _ _ _
  have ek : ∀ k, k ≠ 0 → upPl A x k = A k := fun k hk => st1_ne hk
  have eP : ∀ i k, 0 ≤ i → 0 ≤ k → aP (upPl A x) i k = aP A i k := fun i k a b => ek _ (by omega)
  have hi := hI.1
  have o1 := ok.1
  have o2 := ok.2.1
  refine ⟨⟨⟨?_, ?_, ?_, ?_, ?_, ?_⟩, fun i j hi hj => ?_, fun p hp => ?_, fun w hw => ?_, fun i hi => ?_, ?_⟩, fun p hp => ?_⟩
  · rw [e0]; omega
  · rw [e0]; omega
  · rw [ek 1 (by omega)]; omega
  · rw [ek 1 (by omega)]; omega
  · rw [ek 2 (by omega)]; omega
  · rw [ek 2 (by omega)]; omega
  · have := hI.2.1 i j hi hj
    unfold aY at *
    rw [ek _ (by omega)]
    exact this
  · rw [ek 1 (by omega)] at hp
    have := hI.2.2.1 p hp
    unfold aG at *
    refine ⟨by rw [ek _ (by omega)]; exact this.1, by rw [ek _ (by omega)]; exact this.2.1, fun k hk => ?_⟩
    rw [ek _ (by omega)]
    exact this.2.2 k hk
  · rw [ek 2 (by omega)] at hw
    have := hI.2.2.2.1 w hw
    have lt := ok.2.2 _ (Or.inr (Or.inl ⟨w, hw, rfl⟩))
    unfold aW at *
    rw [e0]
    refine ⟨by rw [ek _ (by omega)]; exact this.1, by rw [ek _ (by omega)]; omega, by rw [ek _ (by omega)]; exact this.2.2.1, fun k hk => ?_⟩
    rw [ek _ (by omega)]
    exact this.2.2.2 k hk
  · have hpi := hI.2.2.2.2.1 i hi
    rw [eP i 0 hi.1 (by omega), eP i 1 hi.1 (by omega), eP i 2 hi.1 (by omega), eP i 3 hi.1 (by omega), eP i 4 hi.1 (by omega), eP i 5 hi.1 (by omega), eP i 6 hi.1 (by omega), e0, ek 1 (by omega), ek 2 (by omega)]
    refine ⟨hpi.1, fun h0 => ?_⟩
    have := hpi.2 h0
    have hIs : aIs A i := ⟨hi.1, hi.2, h0⟩
    have lt := ok.2.2 _ (Or.inr (Or.inr ⟨i, hIs, rfl⟩))
    have eG : aG (upPl A x) (aP A i 0 - 1) 3 = aG A (aP A i 0 - 1) 3 := ek _ (by omega)
    rw [eG]
    exact ⟨this.1, this.2.1, ⟨this.2.2.1.1, lt⟩, this.2.2.2⟩
  · rw [ek 1 (by omega)]
    have e : sumI (fun i => ifP (0 < aP (upPl A x) i 0) (aP (upPl A x) i 1) 0) 24 = sumI (fun i => ifP (0 < aP A i 0) (aP A i 1) 0) 24 := sumI_congr (fun i a b => by
      show ifP (0 < aP (upPl A x) i 0) (aP (upPl A x) i 1) 0 = _
      rw [eP i 0 a (by omega), eP i 1 a (by omega)])
    rw [e]
    exact hI.2.2.2.2.2
  · rw [ek 1 (by omega)] at hp
    have e : sumI (twA (upPl A x) p) 24 = sumI (twA A p) 24 := sumI_congr (fun i a b => twA_cg (eP i 0 a (by omega)) (eP i 1 a (by omega)))
    rw [e]
    exact hS p hp
theorem InvA_way {A : Int → Int} {C D x y t : Int} (hI : InvA A C D) (hS : InvS A) (hx : 0 ≤ x) (hy : 0 ≤ y) (ok : okWay A x y t) : InvA (upWay A x y t) C D ∧ InvS (upWay A x y t) := by
  obtain ⟨o1, o2, o3, o4, o5⟩ := ok
  have hi := hI.1
  have ek : ∀ k, (k < 3 ∨ 39 ≤ k) → upWay A x y t k = A k := fun k hk => by
    unfold upWay
    rw [st1_ne (by omega), st1_ne (by omega)]
  have eP : ∀ i k, 0 ≤ i → 0 ≤ k → aP (upWay A x y t) i k = aP A i k := fun i k a b => ek _ (by omega)
  have eG : ∀ i k, 0 ≤ i → 0 ≤ k → aG (upWay A x y t) i k = aG A i k := fun i k a b => ek _ (by omega)
  have eW : ∀ i k, 0 ≤ i → 0 ≤ k → aW (upWay A x y t) i k = aW A i k := fun i k a b => ek _ (by omega)
  refine ⟨⟨?_, fun i j hi hj => ?_, fun p hp => ?_, fun w hw => ?_, fun i hi => ?_, ?_⟩, fun p hp => ?_⟩
  · rw [ek 0 (by omega), ek 1 (by omega), ek 2 (by omega)]; exact hi
  · have := hI.2.1 i j hi hj
    unfold aY upWay at *
    by_cases q : 3 + 6 * i + j = 3 + 6 * y + x
    · rw [q, st1_eq]; omega
    · rw [st1_ne q]
      by_cases q2 : 3 + 6 * i + j = 3 + 6 * x + y
      · rw [q2, st1_eq]; omega
      · rw [st1_ne q2]; exact this
  · rw [ek 1 (by omega)] at hp
    have := hI.2.2.1 p hp
    rw [eG p 3 hp.1 (by omega)]
    refine ⟨this.1, this.2.1, fun k hk => ?_⟩
    rw [eG p k hp.1 hk.1]
    exact this.2.2 k hk
  · rw [ek 2 (by omega)] at hw
    have := hI.2.2.2.1 w hw
    rw [eW w 0 hw.1 (by omega), eW w 1 hw.1 (by omega), eW w 5 hw.1 (by omega), ek 0 (by omega)]
    refine ⟨this.1, this.2.1, this.2.2.1, fun k hk => ?_⟩
    rw [eW w (2 + k) hw.1 (by omega)]
    exact this.2.2.2 k hk
  · have hpi := hI.2.2.2.2.1 i hi
    rw [eP i 0 hi.1 (by omega), eP i 1 hi.1 (by omega), eP i 2 hi.1 (by omega), eP i 3 hi.1 (by omega), eP i 4 hi.1 (by omega), eP i 5 hi.1 (by omega), eP i 6 hi.1 (by omega), ek 0 (by omega), ek 1 (by omega), ek 2 (by omega)]
    refine ⟨hpi.1, fun h0 => ?_⟩
    rw [eG (aP A i 0 - 1) 3 (by omega) (by omega)]
    exact hpi.2 h0
  · rw [ek 1 (by omega)]
    have e : sumI (fun i => ifP (0 < aP (upWay A x y t) i 0) (aP (upWay A x y t) i 1) 0) 24 = sumI (fun i => ifP (0 < aP A i 0) (aP A i 1) 0) 24 := sumI_congr (fun i a b => by
      show ifP (0 < aP (upWay A x y t) i 0) (aP (upWay A x y t) i 1) 0 = _
      rw [eP i 0 a (by omega), eP i 1 a (by omega)])
    rw [e]
    exact hI.2.2.2.2.2
  · rw [ek 1 (by omega)] at hp
    have e : sumI (twA (upWay A x y t) p) 24 = sumI (twA A p) 24 := sumI_congr (fun i a b => twA_cg (eP i 0 a (by omega)) (eP i 1 a (by omega)))
    rw [e]
    exact hS p hp
theorem InvA_per {A f : Int → Int} {C D : Int} (hI : InvA A C D) (hS : InvS A) (hC : 0 ≤ C) (hD : 0 ≤ D) (hf : ∀ j, 0 ≤ f j) (ok : okPer A f) : InvA (upPer A f) C D ∧ InvS (upPer A f) := by
  have hi0 := hI.1
  obtain ⟨e0, e1, e2, eY, eG, eG2, hh⟩ := upPer_lo (f := f) hI ok.2.2.2
  obtain ⟨eW, eP, eP2⟩ := hh ok.2.2.1
  have hfp := ok.2.2.2
  have hno : ¬ aIs A (fpA A (-1)) := by
    rcases fpA_cases A (-1) with ⟨e, -⟩ | ⟨-, h, -⟩
    · omega
    · exact h
  have hz : aP A (fpA A (-1)) 0 = 0 := by
    have := (hI.2.2.2.2.1 _ hfp).1
    by_cases q : 0 < aP A (fpA A (-1)) 0
    · exact absurd ⟨hfp.1, hfp.2, q⟩ hno
    · omega
  have eo : ∀ i, inN i 24 → i ≠ fpA A (-1) → ∀ p, twA (upPer A f) p i = twA A p i := fun i hi hne p => twA_cg (eP i 0 hi hne (by omega)) (eP i 1 hi hne (by omega))
  have tz : ∀ p, twA A p (fpA A (-1)) = 0 := fun p => ifP_neg (fun q => hno q.1)
  have n0 : newP (A 1) 0 = A 1 + 1 := rfl
  have n1 : newP (A 1) 1 = 12 := rfl
  have tn : ∀ p, twA (upPer A f) p (fpA A (-1)) = if p = A 1 then 12 else 0 := fun p => by
    unfold twA aOf aIs
    rw [eP2 0 (by omega), eP2 1 (by omega), n0, n1]
    by_cases q : p = A 1
    · rw [if_pos q, ifP_pos ⟨⟨hfp.1, hfp.2, by omega⟩, by omega⟩]
    · rw [if_neg q, ifP_neg (fun z => q (by have := z.2; omega))]
  refine ⟨⟨?_, fun i j hi hj => ?_, fun p hp => ?_, fun w hw => ?_, fun i hi => ?_, ?_⟩, fun p hp => ?_⟩
  · rw [e0, e1, e2]
    have := ok.2.2.1
    omega
  · rw [eY i j hi hj]; exact hI.2.1 i j hi hj
  · rw [e1] at hp
    by_cases hp1 : p = A 1
    · subst hp1
      rw [eG 3 (by omega)]
      have o1 := ok.1
      have o2 := ok.2.1
      refine ⟨o2.1, o2.2, fun k hk => ?_⟩
      rw [eG k (by omega)]
      have := hf k
      rcases (show k = 0 ∨ k = 1 ∨ k = 2 by omega) with rfl | rfl | rfl <;> omega
    · have := hI.2.2.1 p (by omega)
      rw [eG2 p 3 (by omega) (by omega)]
      refine ⟨this.1, this.2.1, fun k hk => ?_⟩
      rw [eG2 p k (by omega) (by omega)]
      exact this.2.2 k hk
  · rw [e2] at hw
    have := hI.2.2.2.1 w hw
    rw [eW w 0 (by omega) (by omega), eW w 1 (by omega) (by omega), eW w 5 (by omega) (by omega), e0]
    refine ⟨this.1, this.2.1, this.2.2.1, fun k hk => ?_⟩
    rw [eW w (2 + k) (by omega) (by omega)]
    exact this.2.2.2 k hk
  · by_cases hif : i = fpA A (-1)
    · subst hif
      rw [eP2 0 (by omega), eP2 1 (by omega), eP2 2 (by omega), eP2 3 (by omega), eP2 4 (by omega), eP2 5 (by omega), eP2 6 (by omega), e0, e1, e2]
      have o2 := ok.2.1
      have n2 : newP (A 1) 2 = 0 := rfl
      have n3 : newP (A 1) 3 = -9 := rfl
      have n4 : newP (A 1) 4 = 0 := rfl
      have n5 : newP (A 1) 5 = 0 := rfl
      have n6 : newP (A 1) 6 = 0 := rfl
      rw [n0, n1, n2, n3, n4, n5, n6, Int.add_sub_cancel, eG 3 (by omega)]
      exact ⟨by omega, fun _ => ⟨by omega, by omega, by omega, Or.inl rfl, by omega, by omega, by omega⟩⟩
    · have hpi := hI.2.2.2.2.1 i hi
      rw [eP i 0 hi hif (by omega), eP i 1 hi hif (by omega), eP i 2 hi hif (by omega), eP i 3 hi hif (by omega), eP i 4 hi hif (by omega), eP i 5 hi hif (by omega), eP i 6 hi hif (by omega), e0, e1, e2]
      refine ⟨hpi.1, fun h0 => ?_⟩
      have h2 := hpi.2 h0
      rw [eG2 (aP A i 0 - 1) 3 (by omega) (by omega)]
      exact ⟨by omega, h2.2⟩
  · rw [e1]
    have hs := sumI_upd (f := fun i => ifP (0 < aP A i 0) (aP A i 1) 0) (g := fun i => ifP (0 < aP (upPer A f) i 0) (aP (upPer A f) i 1) 0) hfp (fun j hj hne => by
      show ifP (0 < aP (upPer A f) j 0) (aP (upPer A f) j 1) 0 = ifP (0 < aP A j 0) (aP A j 1) 0
      rw [eP j 0 hj hne (by omega), eP j 1 hj hne (by omega)])
    have hs2 := hI.2.2.2.2.2
    have g1 : ifP (0 < aP (upPer A f) (fpA A (-1)) 0) (aP (upPer A f) (fpA A (-1)) 1) 0 = 12 := by
      rw [eP2 0 (by omega), eP2 1 (by omega), n0, n1]
      exact ifP_pos (by omega)
    have g2 : ifP (0 < aP A (fpA A (-1)) 0) (aP A (fpA A (-1)) 1) 0 = 0 := ifP_neg (by omega)
    rw [hs]
    show sumI (fun i => ifP (0 < aP A i 0) (aP A i 1) 0) 24 + (ifP (0 < aP (upPer A f) (fpA A (-1)) 0) (aP (upPer A f) (fpA A (-1)) 1) 0 - ifP (0 < aP A (fpA A (-1)) 0) (aP A (fpA A (-1)) 1) 0) ≤ _
    rw [g1, g2]
    omega
  · rw [e1] at hp
    have hs := sumI_upd (f := twA A p) (g := twA (upPer A f) p) hfp (fun j hj hne => eo j hj hne p)
    rw [tn p, tz p] at hs
    rw [hs]
    by_cases q : p = A 1
    · rw [if_pos q]
      have z : sumI (twA A p) 24 = 0 := by
        have : sumI (twA A p) 24 = sumI (fun _ => 0) 24 := sumI_congr (fun i a b => ifP_neg (fun z => by
          have h1 := hI.pers z.1
          have h2 := z.2
          omega))
        rw [this]
        rfl
      omega
    · rw [if_neg q]
      have := hS p (by omega)
      omega
theorem InvA_wo {A f : Int → Int} {C D : Int} (hI : InvA A C D) (hS : InvS A) (hf : ∀ j, 0 ≤ f j) (h05 : f 0 ≤ 5 ∧ f 5 ≤ 99) (ok : okWo A f) : InvA (upWo A f) C D ∧ InvS (upWo A f) := by
  have hi0 := hI.1
  obtain ⟨e0, e1, e2, eY, eG, eW, eW2, eP⟩ := upWo_lo (f := f) hI ok.2.1
  have o3 := ok.2.2
  refine ⟨⟨?_, fun i j hi hj => ?_, fun p hp => ?_, fun w hw => ?_, fun i hi => ?_, ?_⟩, fun p hp => ?_⟩
  · rw [e0, e1, e2]
    have := ok.2.1
    omega
  · rw [eY i j hi hj]; exact hI.2.1 i j hi hj
  · rw [e1] at hp
    have := hI.2.2.1 p hp
    rw [eG p 3 (by omega) (by omega)]
    refine ⟨this.1, this.2.1, fun k hk => ?_⟩
    rw [eG p k (by omega) (by omega)]
    exact this.2.2 k hk
  · rw [e2] at hw
    by_cases hw2 : w = A 2
    · subst hw2
      rw [eW2 0 (by omega), eW2 1 (by omega), eW2 5 (by omega), e0]
      refine ⟨⟨hf 0, h05.1⟩, ⟨hf 1, ok.1⟩, ⟨hf 5, h05.2⟩, fun k hk => ?_⟩
      rw [eW2 (2 + k) (by omega)]
      have := hf (2 + k)
      rcases (show k = 0 ∨ k = 1 ∨ k = 2 by omega) with rfl | rfl | rfl
      · exact ⟨this, o3.1⟩
      · exact ⟨this, o3.2.1⟩
      · exact ⟨this, o3.2.2⟩
    · have := hI.2.2.2.1 w (by omega)
      rw [eW w 0 (by omega) hw2 (by omega), eW w 1 (by omega) hw2 (by omega), eW w 5 (by omega) hw2 (by omega), e0]
      refine ⟨this.1, this.2.1, this.2.2.1, fun k hk => ?_⟩
      rw [eW w (2 + k) (by omega) hw2 (by omega)]
      exact this.2.2.2 k hk
  · have hpi := hI.2.2.2.2.1 i hi
    rw [eP i 0 hi (by omega), eP i 1 hi (by omega), eP i 2 hi (by omega), eP i 3 hi (by omega), eP i 4 hi (by omega), eP i 5 hi (by omega), eP i 6 hi (by omega), e0, e1, e2]
    refine ⟨hpi.1, fun h0 => ?_⟩
    have h2 := hpi.2 h0
    rw [eG (aP A i 0 - 1) 3 (by omega) (by omega)]
    refine ⟨h2.1, h2.2.1, h2.2.2.1, ?_, h2.2.2.2.2⟩
    rcases h2.2.2.2.1 with q | q
    · exact Or.inl q
    · exact Or.inr ⟨q.1, by omega⟩
  · rw [e1]
    have e : sumI (fun i => ifP (0 < aP (upWo A f) i 0) (aP (upWo A f) i 1) 0) 24 = sumI (fun i => ifP (0 < aP A i 0) (aP A i 1) 0) 24 := sumI_congr (fun i a b => by
      show ifP (0 < aP (upWo A f) i 0) (aP (upWo A f) i 1) 0 = _
      rw [eP i 0 ⟨a, b⟩ (by omega), eP i 1 ⟨a, b⟩ (by omega)])
    rw [e]
    exact hI.2.2.2.2.2
  · rw [e1] at hp
    have e : sumI (twA (upWo A f) p) 24 = sumI (twA A p) 24 := sumI_congr (fun i a b => twA_cg (eP i 0 ⟨a, b⟩ (by omega)) (eP i 1 ⟨a, b⟩ (by omega)))
    rw [e]
    exact hS p hp
theorem InvA_S {A f : Int → Int} {C D c : Int} (hI : InvA A C D) (hS : InvS A) (hC : 0 ≤ C) (hD : 0 ≤ D) (hf : ∀ j, 0 ≤ f j) (h05 : c = 107 → f 0 ≤ 5 ∧ f 5 ≤ 99) (ok : okS A c f) : InvA (upS A c f) C D ∧ InvS (upS A c f) := by
  unfold upS
  rcases ok with ⟨rfl, ok⟩ | ⟨rfl, ok⟩ | ⟨rfl, ok⟩ | ⟨rfl, ok⟩
  · rw [if_pos rfl]; exact InvA_pl hI hS ok
  · rw [if_neg (by omega), if_pos rfl]; exact InvA_way hI hS (hf 0) (hf 1) ok
  · rw [if_neg (by omega), if_neg (by omega), if_pos rfl]; exact InvA_per hI hS hC hD hf ok
  · rw [if_neg (by omega), if_neg (by omega), if_neg (by omega)]; exact InvA_wo hI hS hf (h05 rfl) ok
