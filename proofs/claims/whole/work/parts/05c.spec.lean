/-! ===== 05c: what a statement does to a village ===== -/
theorem aY_st {A : Int → Int} {k x i j : Int} (h : 3 + 6 * i + j ≠ k) : aY (st1 A k x) i j = aY A i j := st1_ne h
theorem aG_st {A : Int → Int} {k x i j : Int} (h : 39 + 4 * i + j ≠ k) : aG (st1 A k x) i j = aG A i j := st1_ne h
theorem aW_st {A : Int → Int} {k x i j : Int} (h : 63 + 6 * i + j ≠ k) : aW (st1 A k x) i j = aW A i j := st1_ne h
theorem aP_st {A : Int → Int} {k x i j : Int} (h : 99 + 7 * i + j ≠ k) : aP (st1 A k x) i j = aP A i j := st1_ne h
theorem aY_lay {A f : Int → Int} {k n i j : Int} (h : 3 + 6 * i + j < k ∨ k + n ≤ 3 + 6 * i + j) : aY (lay A k n f) i j = aY A i j := lay_out h
theorem aG_lay {A f : Int → Int} {k n i j : Int} (h : 39 + 4 * i + j < k ∨ k + n ≤ 39 + 4 * i + j) : aG (lay A k n f) i j = aG A i j := lay_out h
theorem aW_lay {A f : Int → Int} {k n i j : Int} (h : 63 + 6 * i + j < k ∨ k + n ≤ 63 + 6 * i + j) : aW (lay A k n f) i j = aW A i j := lay_out h
theorem aP_lay {A f : Int → Int} {k n i j : Int} (h : 99 + 7 * i + j < k ∨ k + n ≤ 99 + 7 * i + j) : aP (lay A k n f) i j = aP A i j := lay_out h
theorem aIs_congr {A B : Int → Int} {i : Int} (h : aP B i 0 = aP A i 0) : aIs B i ↔ aIs A i := by
  unfold aIs
  rw [h]
def tkP (v : Int) (m : HM) (ok : Prop) (A' : Int → Int) : Int → HM → Prop := fun r m' => FrV v m m' ∧ ((r = 1 ∧ ok ∧ RelV m' v A') ∨ (r = 0 ∧ ¬ ok))
theorem tkP.n {v : Int} {m m' : HM} {ok : Prop} {A' : Int → Int} (h : ¬ ok) (hf : FrV v m m') : pi (tkP v m ok A') (some (vi 0)) m' := ⟨0, rfl, hf, Or.inr ⟨rfl, h⟩⟩
theorem tkP.y {v : Int} {m m' : HM} {ok : Prop} {A' : Int → Int} (h : ok) (hf : FrV v m m') (hR : RelV m' v A') : pi (tkP v m ok A') (some (vi 1)) m' := ⟨1, rfl, hf, Or.inl ⟨rfl, h, hR⟩⟩
theorem RelV_pl {m : HM} {v : Int} {A : Int → Int} (h : RelV m v A) (x : Int) : RelV (upr m 1 v 0 (st1 (m 1 v 0) 0 x)) v (upPl A x) := by
  have e1 : upPl A x 1 = A 1 := st1_ne (by decide)
  have e2 : upPl A x 2 = A 2 := st1_ne (by decide)
  refine ⟨⟨?_, ?_, ?_⟩, fun i j hi hj => ?_, fun p hp => ?_, fun w hw => ?_, fun i hi => ?_⟩
  · rw [upr_eq]; rfl
  · rw [upr_eq, e1, st1_ne (by decide)]; exact h.1.2.1
  · rw [upr_eq, e2, st1_ne (by decide)]; exact h.1.2.2
  · rw [upr_tag (by decide)]
    exact (h.2.1 i j hi hj).trans (aY_st (by omega)).symm
  · rw [e1] at hp
    have := h.2.2.1 p hp
    rw [upr_tag (by decide)]
    refine ⟨this.1.trans (aG_st (by omega)).symm, fun k hk => ?_⟩
    rw [upr_tag (by decide)]
    exact (this.2 k hk).trans (aG_st (by omega)).symm
  · rw [e2] at hw
    have := h.2.2.2.1 w hw
    rw [upr_tag (by decide)]
    refine ⟨this.1.trans (aW_st (by omega)).symm, this.2.1.trans (aW_st (by omega)).symm, this.2.2.1.trans (aW_st (by omega)).symm, fun k hk => ?_⟩
    rw [upr_tag (by decide)]
    exact (this.2.2.2 k hk).trans (aW_st (by omega)).symm
  · have := h.2.2.2.2 i hi
    have e : ∀ k, 0 ≤ k → aP (upPl A x) i k = aP A i k := fun k hk => aP_st (by omega)
    rw [upr_tag (by decide), e 0 (by omega), e 1 (by omega), e 2 (by omega), e 3 (by omega), e 4 (by omega), e 5 (by omega), e 6 (by omega)]
    exact this
theorem RelV_way {m : HM} {v : Int} {A : Int → Int} (h : RelV m v A) {a b t : Int} (ha : inN a 6) (hb : inN b 6) (hab : a ≠ b) : RelV (upr (upr m 3 v a (st1 (m 3 v a) b t)) 3 v b (st1 (upr m 3 v a (st1 (m 3 v a) b t) 3 v b) a t)) v (upWay A a b t) := by
  have elo : ∀ k, k < 3 → upWay A a b t k = A k := fun k hk => by
    unfold upWay
    rw [st1_ne (by omega), st1_ne (by omega)]
  have ehi : ∀ k, 39 ≤ k → upWay A a b t k = A k := fun k hk => by
    unfold upWay
    rw [st1_ne (by omega), st1_ne (by omega)]
  refine ⟨⟨?_, ?_, ?_⟩, fun i j hi hj => ?_, fun p hp => ?_, fun w hw => ?_, fun i hi => ?_⟩
  · rw [upr_tag (by decide), upr_tag (by decide), elo 0 (by omega)]; exact h.1.1
  · rw [upr_tag (by decide), upr_tag (by decide), elo 1 (by omega)]; exact h.1.2.1
  · rw [upr_tag (by decide), upr_tag (by decide), elo 2 (by omega)]; exact h.1.2.2
  · have e0 := h.2.1 i j hi hj
    have er : upr m 3 v a (st1 (m 3 v a) b t) 3 v b = m 3 v b := upr_ne (fun q => hab q.2.2.symm)
    rw [er]
    unfold aY at e0 ⊢
    unfold upWay
    by_cases hib : i = b
    · subst hib
      rw [upr_eq]
      by_cases hja : j = a
      · subst hja
        rw [st1_eq, st1_eq]
      · rw [st1_ne hja, st1_ne (by omega), st1_ne (by omega)]
        exact e0
    · rw [upr_ne (fun q => hib q.2.2)]
      by_cases hia : i = a
      · subst hia
        rw [upr_eq]
        by_cases hjb : j = b
        · subst hjb
          rw [st1_eq, st1_ne (by omega), st1_eq]
        · rw [st1_ne hjb, st1_ne (by omega), st1_ne (by omega)]
          exact e0
      · rw [upr_ne (fun q => hia q.2.2), st1_ne (by omega), st1_ne (by omega)]
        exact e0
  · rw [elo 1 (by omega)] at hp
    have := h.2.2.1 p hp
    have e : ∀ k, 0 ≤ k → aG (upWay A a b t) p k = aG A p k := fun k hk => ehi _ (by omega)
    rw [upr_tag (by decide), upr_tag (by decide), e 3 (by omega)]
    refine ⟨this.1, fun k hk => ?_⟩
    rw [upr_tag (by decide), upr_tag (by decide), e k hk.1]
    exact this.2 k hk
  · rw [elo 2 (by omega)] at hw
    have := h.2.2.2.1 w hw
    have e : ∀ k, 0 ≤ k → aW (upWay A a b t) w k = aW A w k := fun k hk => ehi _ (by omega)
    rw [upr_tag (by decide), upr_tag (by decide), e 0 (by omega), e 1 (by omega), e 5 (by omega)]
    refine ⟨this.1, this.2.1, this.2.2.1, fun k hk => ?_⟩
    rw [upr_tag (by decide), upr_tag (by decide), e (2 + k) (by omega)]
    exact this.2.2.2 k hk
  · have := h.2.2.2.2 i hi
    have e : ∀ k, 0 ≤ k → aP (upWay A a b t) i k = aP A i k := fun k hk => ehi _ (by omega)
    rw [upr_tag (by decide), upr_tag (by decide), e 0 (by omega), e 1 (by omega), e 2 (by omega), e 3 (by omega), e 4 (by omega), e 5 (by omega), e 6 (by omega)]
    exact this
theorem upPer_lo {A f : Int → Int} {C D : Int} (hI : InvA A C D) (hf : inN (fpA A (-1)) 24) : upPer A f 0 = A 0 ∧ upPer A f 1 = A 1 + 1 ∧ upPer A f 2 = A 2 ∧ (∀ i j, inN i 6 → inN j 6 → aY (upPer A f) i j = aY A i j) ∧ (∀ k, inN k 4 → aG (upPer A f) (A 1) k = f k) ∧ (∀ p k, inN p (A 1) → inN k 4 → aG (upPer A f) p k = aG A p k) ∧ (A 1 < 6 → (∀ w k, inN w 6 → inN k 6 → aW (upPer A f) w k = aW A w k) ∧ (∀ i k, inN i 24 → i ≠ fpA A (-1) → inN k 7 → aP (upPer A f) i k = aP A i k) ∧ (∀ k, inN k 7 → aP (upPer A f) (fpA A (-1)) k = newP (A 1) k)) := by
  have h0 := hI.1
  unfold upPer
  refine ⟨?_, st1_eq _ _ _, ?_, fun i j hi hj => ?_, fun k hk => ?_, fun p k hp hk => ?_, fun h6 => ⟨fun w k hw hk => ?_, fun i k hi hne hk => ?_, fun k hk => ?_⟩⟩
  · rw [st1_ne (by decide), lay_out (by omega), lay_out (by omega)]
  · rw [st1_ne (by decide), lay_out (by omega), lay_out (by omega)]
  · rw [aY_st (by omega), aY_lay (by omega), aY_lay (by omega)]
  · rw [aG_st (by omega), aG_lay (by omega)]
    exact lay_in hk
  · rw [aG_st (by omega), aG_lay (by omega), aG_lay (by omega)]
  · rw [aW_st (by omega), aW_lay (by omega), aW_lay (by omega)]
  · rw [aP_st (by omega), aP_lay (by omega), aP_lay (by omega)]
  · rw [aP_st (by omega)]
    exact lay_in hk
theorem RelV_per {m m' : HM} {v : Int} {A f : Int → Int} {C D : Int} (h : RelV m v A) (hI : InvA A C D) (hok : okPer A f) (h1 : m' 1 v 0 = st1 (m 1 v 0) 1 (A 1 + 1)) (h3 : ∀ i, m' 3 v i = m 3 v i)
    (h9 : ∀ p, p ≠ A 1 → m' 9 v p = m 9 v p) (h9' : m' 9 v (A 1) 1 = f 3) (h10 : ∀ p, p ≠ A 1 → m' 10 v p = m 10 v p) (h10' : ∀ k, inN k 3 → m' 10 v (A 1) k = f k) (h11 : ∀ w, m' 11 v w = m 11 v w) (h12 : ∀ w, m' 12 v w = m 12 v w)
    (h13 : ∀ i, i ≠ fpA A (-1) → m' 13 v i = m 13 v i) (h13' : ∀ k, inN k 7 → m' 13 v (fpA A (-1)) k = if k = 0 then A 1 else newP (A 1) k) : RelV m' v (upPer A f) := by
  obtain ⟨e0, e1, e2, eY, eG, eG2, hh⟩ := upPer_lo (f := f) hI hok.2.2.2
  obtain ⟨eW, eP, eP2⟩ := hh hok.2.2.1
  have hi0 := hI.1
  refine ⟨⟨?_, ?_, ?_⟩, fun i j hi hj => ?_, fun p hp => ?_, fun w hw => ?_, fun i hi => ?_⟩
  · rw [h1, st1_ne (by decide), e0]; exact h.1.1
  · rw [h1, st1_eq, e1]
  · rw [h1, st1_ne (by decide), e2]; exact h.1.2.2
  · rw [h3, eY i j hi hj]; exact h.2.1 i j hi hj
  · rw [e1] at hp
    by_cases hp1 : p = A 1
    · subst hp1
      refine ⟨by rw [h9', eG 3 (by omega)], fun k hk => by rw [h10' k hk, eG k (by omega)]⟩
    · have := h.2.2.1 p (by omega)
      rw [h9 p hp1, eG2 p 3 (by omega) (by omega)]
      refine ⟨this.1, fun k hk => ?_⟩
      rw [h10 p hp1, eG2 p k (by omega) (by omega)]
      exact this.2 k hk
  · rw [e2] at hw
    have := h.2.2.2.1 w hw
    rw [h11, eW w 0 (by omega) (by omega), eW w 1 (by omega) (by omega), eW w 5 (by omega) (by omega)]
    refine ⟨this.1, this.2.1, this.2.2.1, fun k hk => ?_⟩
    rw [h12, eW w (2 + k) (by omega) (by omega)]
    exact this.2.2.2 k hk
  · by_cases hif : i = fpA A (-1)
    · subst hif
      rw [h13' 0 (by omega), h13' 1 (by omega), h13' 2 (by omega), h13' 3 (by omega), h13' 4 (by omega), h13' 5 (by omega), h13' 6 (by omega), eP2 0 (by omega), eP2 1 (by omega), eP2 2 (by omega), eP2 3 (by omega), eP2 4 (by omega), eP2 5 (by omega), eP2 6 (by omega)]
      simp [newP]
      omega
    · have := h.2.2.2.2 i hi
      rw [h13 i hif, eP i 0 hi hif (by omega), eP i 1 hi hif (by omega), eP i 2 hi hif (by omega), eP i 3 hi hif (by omega), eP i 4 hi hif (by omega), eP i 5 hi hif (by omega), eP i 6 hi hif (by omega)]
      exact this
theorem upWo_lo {A f : Int → Int} {C D : Int} (hI : InvA A C D) (h6 : A 2 < 6) : upWo A f 0 = A 0 ∧ upWo A f 1 = A 1 ∧ upWo A f 2 = A 2 + 1 ∧ (∀ i j, inN i 6 → inN j 6 → aY (upWo A f) i j = aY A i j) ∧ (∀ p k, inN p 6 → inN k 4 → aG (upWo A f) p k = aG A p k) ∧ (∀ w k, inN w 6 → w ≠ A 2 → inN k 6 → aW (upWo A f) w k = aW A w k) ∧ (∀ k, inN k 6 → aW (upWo A f) (A 2) k = f k) ∧ (∀ i k, inN i 24 → inN k 7 → aP (upWo A f) i k = aP A i k) := by
  have h0 := hI.1
  unfold upWo
  refine ⟨?_, ?_, st1_eq _ _ _, fun i j hi hj => ?_, fun p k hp hk => ?_, fun w k hw hne hk => ?_, fun k hk => ?_, fun i k hi hk => ?_⟩
  · rw [st1_ne (by decide), lay_out (by omega)]
  · rw [st1_ne (by decide), lay_out (by omega)]
  · rw [aY_st (by omega), aY_lay (by omega)]
  · rw [aG_st (by omega), aG_lay (by omega)]
  · rw [aW_st (by omega), aW_lay (by omega)]
  · rw [aW_st (by omega)]
    exact lay_in hk
  · rw [aP_st (by omega), aP_lay (by omega)]
theorem RelV_wo {m m' : HM} {v : Int} {A f : Int → Int} {C D : Int} (h : RelV m v A) (hI : InvA A C D) (hok : okWo A f) (h1 : m' 1 v 0 = st1 (m 1 v 0) 2 (A 2 + 1)) (h3 : ∀ i, m' 3 v i = m 3 v i)
    (h9 : ∀ p, m' 9 v p = m 9 v p) (h10 : ∀ p, m' 10 v p = m 10 v p) (h11 : ∀ w, w ≠ A 2 → m' 11 v w = m 11 v w) (h11' : m' 11 v (A 2) 0 = f 0 ∧ m' 11 v (A 2) 1 = f 1 ∧ m' 11 v (A 2) 3 = f 5) (h12 : ∀ w, w ≠ A 2 → m' 12 v w = m 12 v w) (h12' : ∀ k, inN k 3 → m' 12 v (A 2) k = f (2 + k))
    (h13 : ∀ i, m' 13 v i = m 13 v i) : RelV m' v (upWo A f) := by
  obtain ⟨e0, e1, e2, eY, eG, eW, eW2, eP⟩ := upWo_lo (f := f) hI hok.2.1
  have hi0 := hI.1
  refine ⟨⟨?_, ?_, ?_⟩, fun i j hi hj => ?_, fun p hp => ?_, fun w hw => ?_, fun i hi => ?_⟩
  · rw [h1, st1_ne (by decide), e0]; exact h.1.1
  · rw [h1, st1_ne (by decide), e1]; exact h.1.2.1
  · rw [h1, st1_eq, e2]
  · rw [h3, eY i j hi hj]; exact h.2.1 i j hi hj
  · rw [e1] at hp
    have := h.2.2.1 p hp
    rw [h9, eG p 3 (by omega) (by omega)]
    refine ⟨this.1, fun k hk => ?_⟩
    rw [h10, eG p k (by omega) (by omega)]
    exact this.2 k hk
  · rw [e2] at hw
    by_cases hw2 : w = A 2
    · subst hw2
      rw [eW2 0 (by omega), eW2 1 (by omega), eW2 5 (by omega)]
      exact ⟨h11'.1, h11'.2.1, h11'.2.2, fun k hk => by rw [h12' k hk, eW2 (2 + k) (by omega)]⟩
    · have := h.2.2.2.1 w (by omega)
      rw [h11 w hw2, eW w 0 (by omega) hw2 (by omega), eW w 1 (by omega) hw2 (by omega), eW w 5 (by omega) hw2 (by omega)]
      refine ⟨this.1, this.2.1, this.2.2.1, fun k hk => ?_⟩
      rw [h12 w hw2, eW w (2 + k) (by omega) hw2 (by omega)]
      exact this.2.2.2 k hk
  · have := h.2.2.2.2 i hi
    rw [h13, eP i 0 hi (by omega), eP i 1 hi (by omega), eP i 2 hi (by omega), eP i 3 hi (by omega), eP i 4 hi (by omega), eP i 5 hi (by omega), eP i 6 hi (by omega)]
    exact this
/-! what holds of A stays -/
theorem sumN_upd {f g : Int → Int} {i : Int} {n : Nat} (h : ∀ j : Int, 0 ≤ j → j < n → j ≠ i → g j = f j) : sumN g n = sumN f n + (if 0 ≤ i ∧ i < n then g i - f i else 0) := by
  induction n with
  | zero =>
    show (0 : Int) = 0 + _
    rw [if_neg (by omega)]
    rfl
  | succ n ih =>
    have h1 := ih (fun j a b c => h j a (by omega) c)
    show sumN g n + g n = sumN f n + f n + _
    rw [h1]
    by_cases hi : i = n
    · subst hi
      rw [if_neg (by omega), if_pos (by omega)]
      omega
    · rw [h n (by omega) (by omega) (fun q => hi q.symm)]
      by_cases h2 : 0 ≤ i ∧ i < n
      · rw [if_pos h2, if_pos (by omega)]; omega
      · rw [if_neg h2, if_neg (by omega)]; omega
theorem sumI_upd {f g : Int → Int} {i n : Int} (hi : inN i n) (h : ∀ j, inN j n → j ≠ i → g j = f j) : sumI g n = sumI f n + (g i - f i) := by
  have := sumN_upd (f := f) (g := g) (i := i) (n := n.toNat) (fun j a b c => h j (by omega) c)
  rw [if_pos (by omega)] at this
  exact this
