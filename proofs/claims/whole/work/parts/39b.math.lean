/-! ===== 39b: what holds of A is kept by the calls that change parts ===== -/
theorem sumI_two {f g : Int → Int} {i j n : Int} (hi : inN i n) (hj : inN j n) (hij : i ≠ j) (h : ∀ k, inN k n → k ≠ i → k ≠ j → g k = f k) : sumI g n = sumI f n + (g i - f i) + (g j - f j) := by
  have h1 := sumI_upd (f := f) (g := st1 f i (g i)) hi (fun k _ hk => st1_ne hk)
  have h2 := sumI_upd (f := st1 f i (g i)) (g := g) hj (fun k hk hkj => by
    by_cases e : k = i
    · rw [e, st1_eq]
    · rw [st1_ne e]; exact h k hk e hkj)
  rw [st1_eq] at h1
  rw [st1_ne (Ne.symm hij)] at h2
  omega
theorem sumI_nn {f : Int → Int} : ∀ n : Nat, (∀ k, inN k n → 0 ≤ f k) → 0 ≤ sumI f n := by
  intro n
  induction n with
  | zero => intro _; exact Int.le_refl _
  | succ n ih =>
    intro h
    have h1 := ih (fun k hk => h k (by omega))
    have h2 := h n (by omega)
    rw [show ((n + 1 : Nat) : Int) = (n : Int) + 1 by omega, sumI_s (by omega)]
    omega
theorem sumI_ge2 {f : Int → Int} {i j : Int} {n : Nat} (hi : inN i n) (hj : inN j n) (hij : i ≠ j) (h : ∀ k, inN k n → 0 ≤ f k) : f i + f j ≤ sumI f n := by
  have h1 := sumI_two (f := f) (g := fun k => if k = i ∨ k = j then 0 else f k) hi hj hij (fun k _ a b => if_neg (by omega))
  have h2 := sumI_nn (f := fun k => if k = i ∨ k = j then 0 else f k) n (fun k hk => by
    have := h k hk
    show 0 ≤ (if k = i ∨ k = j then 0 else f k)
    split <;> omega)
  rw [if_pos (Or.inl rfl), if_pos (Or.inr rfl)] at h1
  omega
def okPt (A : Int → Int) (C D : Int) (f : Int → Int) : Prop := 0 ≤ f 0 ∧ (0 < f 0 → f 0 ≤ A 1 ∧ (aG A (f 0 - 1) 3 ≤ f 1 ∧ f 1 ≤ 12) ∧ (0 ≤ f 2 ∧ f 2 < A 0) ∧ (f 3 = -9 ∨ inN (f 3) (A 2)) ∧ (0 ≤ f 4 ∧ f 4 ≤ C) ∧ (0 ≤ f 5 ∧ f 5 ≤ D) ∧ (0 ≤ f 6 ∧ f 6 ≤ 63))
noncomputable def shPt (f : Int → Int) : Int := ifP (0 < f 0) (f 1) 0
noncomputable def twP (p : Int) (f : Int → Int) : Int := ifP (0 < f 0 ∧ f 0 = p + 1) (f 1) 0
theorem twP_at {A : Int → Int} {p i : Int} (hi : inN i 24) : twA A p i = twP p (aP A i) := ifP_congr ⟨fun h => ⟨h.1.2.2, h.2⟩, fun h => ⟨⟨hi.1, hi.2, h.1⟩, h.2⟩⟩
theorem twP_cg {p : Int} {f g : Int → Int} (h0 : f 0 = g 0) (h1 : f 1 = g 1) : twP p f = twP p g := by
  unfold twP
  rw [h0, h1]
theorem shPt_cg {f g : Int → Int} (h0 : f 0 = g 0) (h1 : f 1 = g 1) : shPt f = shPt g := by
  unfold shPt
  rw [h0, h1]
section Inv
variable {A A' : Int → Int} {C D C' D' i j x y w : Int}
theorem InvA.pt (hI : InvA A C D) (hi : inN i 24) : okPt A C D (aP A i) := hI.2.2.2.2.1 i hi
theorem okPt.mono {f : Int → Int} (h : okPt A C D f) (hC : C ≤ C') (hD : D ≤ D') : okPt A C' D' f := ⟨h.1, fun h0 => by
  obtain ⟨h1, h2, h3, h4, h5, h6, h7⟩ := h.2 h0
  exact ⟨h1, h2, h3, h4, ⟨h5.1, by omega⟩, ⟨h6.1, by omega⟩, h7⟩⟩
theorem InvA.mono (hI : InvA A C D) (hC : C ≤ C') (hD : D ≤ D') : InvA A C' D' := ⟨hI.1, hI.2.1, hI.2.2.1, hI.2.2.2.1, fun i hi => (hI.pt hi).mono hC hD, hI.2.2.2.2.2⟩
theorem Inv_2 (hI : InvA A C D) (hS : InvS A) (hC : C ≤ C') (hD : D ≤ D') (hA : ∀ k, k < 99 → A' k = A k) (hi : inN i 24) (hj : inN j 24) (hij : i ≠ j) (hP : ∀ l k, inN l 24 → l ≠ i → l ≠ j → inN k 7 → aP A' l k = aP A l k)
    (qi : okPt A C' D' (aP A' i)) (qj : okPt A C' D' (aP A' j)) (ht : ∀ p, twP p (aP A' i) + twP p (aP A' j) ≤ twP p (aP A i) + twP p (aP A j)) (hs : shPt (aP A' i) + shPt (aP A' j) ≤ shPt (aP A i) + shPt (aP A j)) : InvA A' C' D' ∧ InvS A' := by
  have hb := hI.1
  have eG : ∀ p k, p < 6 → inN k 4 → aG A' p k = aG A p k := fun p k a b => hA _ (by omega)
  have eW : ∀ p k, p < 6 → inN k 6 → aW A' p k = aW A p k := fun p k a b => hA _ (by omega)
  have cv : ∀ f, okPt A C' D' f → okPt A' C' D' f := fun f h => ⟨h.1, fun h0 => by
    obtain ⟨h1, h2, h3, h4, h5⟩ := h.2 h0
    rw [hA 1 (by omega), hA 0 (by omega), hA 2 (by omega), eG _ 3 (by omega) (by omega)]
    exact ⟨h1, h2, h3, h4, h5⟩⟩
  refine ⟨⟨?_, fun a b ha hb' => ?_, fun p hp => ?_, fun w hw => ?_, fun l hl => ?_, ?_⟩, fun p hp => ?_⟩
  · rw [hA 0 (by omega), hA 1 (by omega), hA 2 (by omega)]; exact hb
  · have := hI.2.1 a b ha hb'
    have e : aY A' a b = aY A a b := hA _ (by omega)
    rw [e]; exact this
  · rw [hA 1 (by omega)] at hp
    have h1 := hI.2.2.1 p hp
    rw [eG p 3 (by omega) (by omega)]
    exact ⟨h1.1, h1.2.1, fun k hk => by rw [eG p k (by omega) (by omega)]; exact h1.2.2 k hk⟩
  · rw [hA 2 (by omega)] at hw
    have h1 := hI.2.2.2.1 w hw
    rw [eW w 0 (by omega) (by omega), eW w 1 (by omega) (by omega), eW w 5 (by omega) (by omega), hA 0 (by omega)]
    exact ⟨h1.1, h1.2.1, h1.2.2.1, fun k hk => by rw [eW w (2 + k) (by omega) (by omega)]; exact h1.2.2.2 k hk⟩
  · show okPt A' C' D' (aP A' l)
    by_cases e1 : l = i
    · rw [e1]; exact cv _ qi
    by_cases e2 : l = j
    · rw [e2]; exact cv _ qj
    · have h1 := cv _ ((hI.pt hl).mono hC hD)
      have e : ∀ k, inN k 7 → aP A' l k = aP A l k := fun k hk => hP l k hl e1 e2 hk
      unfold okPt at h1 ⊢
      rw [e 0 (by omega), e 1 (by omega), e 2 (by omega), e 3 (by omega), e 4 (by omega), e 5 (by omega), e 6 (by omega)]
      exact h1
  · rw [hA 1 (by omega)]
    have h1 := sumI_two (f := fun i => shPt (aP A i)) (g := fun i => shPt (aP A' i)) hi hj hij (fun k hk a b => shPt_cg (hP k 0 hk a b (by omega)) (hP k 1 hk a b (by omega)))
    have h2 : sumI (fun i => shPt (aP A i)) 24 ≤ 12 * A 1 := hI.2.2.2.2.2
    show sumI (fun i => shPt (aP A' i)) 24 ≤ 12 * A 1
    rw [h1]
    omega
  · rw [hA 1 (by omega)] at hp
    have h0 := hS p hp
    have h1 := sumI_two (f := twA A p) (g := twA A' p) hi hj hij (fun k hk a b => twA_cg (hP k 0 hk a b (by omega)) (hP k 1 hk a b (by omega)))
    have h2 := ht p
    rw [h1, twP_at hi, twP_at hj, twP_at hi, twP_at hj]
    omega
/-- one part changes, but not whose it is, nor its twelfths -/
theorem Inv_1 (hI : InvA A C D) (hS : InvS A) (hC : C ≤ C') (hD : D ≤ D') (hi : inN i 24) (hA : ∀ k, ¬ (99 + 7 * i + 2 ≤ k ∧ k < 99 + 7 * i + 7) → A' k = A k) (qi : okPt A C' D' (aP A' i)) : InvA A' C' D' ∧ InvS A' := by
  have hj : ∃ j, inN j 24 ∧ i ≠ j := by
    by_cases h : i = 0
    · exact ⟨1, by omega, by omega⟩
    · exact ⟨0, by omega, h⟩
  obtain ⟨j, hj, hij⟩ := hj
  have e : ∀ l k, inN l 24 → l ≠ i → inN k 7 → aP A' l k = aP A l k := fun l k h1 h2 h3 => hA _ (by omega)
  have e0 : aP A' i 0 = aP A i 0 := hA _ (by omega)
  have e1 : aP A' i 1 = aP A i 1 := hA _ (by omega)
  refine Inv_2 hI hS hC hD (fun k hk => hA k (by omega)) hi hj hij (fun l k h1 h2 _ h4 => e l k h1 h2 h4) qi ?_ (fun p => ?_) ?_
  · have h1 := (hI.pt hj).mono hC hD
    unfold okPt at h1 ⊢
    rw [e j 0 hj hij.symm (by omega), e j 1 hj hij.symm (by omega), e j 2 hj hij.symm (by omega), e j 3 hj hij.symm (by omega), e j 4 hj hij.symm (by omega), e j 5 hj hij.symm (by omega), e j 6 hj hij.symm (by omega)]
    exact h1
  · rw [twP_cg e0 e1, twP_cg (e j 0 hj hij.symm (by omega)) (e j 1 hj hij.symm (by omega))]
    exact Int.le_refl _
  · rw [shPt_cg e0 e1, shPt_cg (e j 0 hj hij.symm (by omega)) (e j 1 hj hij.symm (by omega))]
    exact Int.le_refl _
theorem Inv_see (hI : InvA A C D) (hS : InvS A) (hi : aIs A i) (hC : C ≤ C') (hD : D ≤ D') : InvA (aS A i 6 (seN A i)) C' D' ∧ InvS (aS A i 6 (seN A i)) := by
  have hp := hI.part hi
  have h6 := hI.p6 hi
  have ho := orI_b (a := aP A i 6) (b := p2 (aP A i 2)) (by omega) (p2_b h6).1
  refine Inv_1 hI hS hC hD ⟨hi.1, hi.2.1⟩ (fun k hk => st1_ne (by omega)) ?_
  unfold okPt
  rw [aS_ne (by omega), aS_ne (by omega), aS_ne (by omega), aS_ne (by omega), aS_ne (by omega), aS_ne (by omega), aS_eq]
  unfold seN
  exact ⟨by have := hi.2.2; omega, fun _ => ⟨hp.1, hp.2.1, hp.2.2.1, hp.2.2.2.1, by omega, by omega, by omega⟩⟩
theorem Inv_go (hI : InvA A C D) (hS : InvS A) (h : rfGo A i y = 0) (hC : C + 600 ≤ C') (hD : D ≤ D') : InvA (goF A i y) C' D' ∧ InvS (goF A i y) := by
  unfold rfGo at h
  by_cases q : aIs A i ∧ inN y (A 0)
  · rw [ifP_pos q] at h
    obtain ⟨hi, hy⟩ := q
    have hp := hI.part hi
    have h0 := hI.1
    have h6 := hI.p6 hi
    have hg := gF_300 (i := aP A i 2) (j := y) hI h6 (by omega)
    unfold goF
    generalize gF (fwA A (aP A i 2) y) = g at *
    have hg2 : 0 ≤ g ∧ g ≤ 300 := by
      rcases hg with hg | hg
      · rw [if_pos (by omega)] at h; omega
      · exact hg
    refine Inv_1 hI hS (by omega) hD ⟨hi.1, hi.2.1⟩ (fun k hk => by unfold aS; rw [st1_ne (by omega), st1_ne (by omega), st1_ne (by omega)]) ?_
    have e : ∀ k, inN k 7 → k ≠ 2 → k ≠ 3 → k ≠ 4 → aP (aS (aS (aS A i 4 (aP A i 4 + g)) i 2 y) i 3 (-9)) i k = aP A i k := fun k _ _ _ _ => by rw [aS_ne (by omega), aS_ne (by omega), aS_ne (by omega)]
    have e2 : aP (aS (aS (aS A i 4 (aP A i 4 + g)) i 2 y) i 3 (-9)) i 2 = y := by rw [aS_ne (by omega), aS_eq]
    have e3 : aP (aS (aS (aS A i 4 (aP A i 4 + g)) i 2 y) i 3 (-9)) i 3 = -9 := by rw [aS_eq]
    have e4 : aP (aS (aS (aS A i 4 (aP A i 4 + g)) i 2 y) i 3 (-9)) i 4 = aP A i 4 + g := by rw [aS_ne (by omega), aS_ne (by omega), aS_eq]
    unfold okPt
    rw [e 0 (by omega) (by omega) (by omega) (by omega), e 1 (by omega) (by omega) (by omega) (by omega), e2, e3, e4, e 5 (by omega) (by omega) (by omega) (by omega), e 6 (by omega) (by omega) (by omega) (by omega)]
    exact ⟨by have := hi.2.2; omega, fun _ => ⟨hp.1, hp.2.1, hy, Or.inl rfl, by omega, by omega, by omega⟩⟩
  · rw [ifP_neg q] at h
    omega
theorem Inv_at (hI : InvA A C D) (hS : InvS A) (h : rfAt A i w = 0) (hC : C ≤ C') (hD : D ≤ D') : InvA (atF A i w) C' D' ∧ InvS (atF A i w) := by
  unfold rfAt at h
  by_cases q : aIs A i ∧ (w = -1 ∨ inN w (A 2))
  · obtain ⟨hi, hw⟩ := q
    have hp := hI.part hi
    unfold atF
    refine Inv_1 hI hS hC hD ⟨hi.1, hi.2.1⟩ (fun k hk => st1_ne (by omega)) ?_
    unfold okPt
    rw [aS_ne (by omega), aS_ne (by omega), aS_ne (by omega), aS_eq, aS_ne (by omega), aS_ne (by omega), aS_ne (by omega)]
    exact ⟨by have := hi.2.2; omega, fun _ => ⟨hp.1, hp.2.1, hp.2.2.1, by split <;> omega, by omega, by omega, by omega⟩⟩
  · rw [ifP_neg q] at h
    omega
theorem Inv_cl {c t : Int} (hI : InvA A C D) (hS : InvS A) (hi : aIs A i) (hC : C ≤ C') (hD : D ≤ D') (hc : 0 ≤ c ∧ c ≤ C') (ht : 0 ≤ t ∧ t ≤ D') : InvA (aS (aS A i 4 c) i 5 t) C' D' ∧ InvS (aS (aS A i 4 c) i 5 t) := by
  have hp := hI.part hi
  refine Inv_1 hI hS hC hD ⟨hi.1, hi.2.1⟩ (fun k hk => by unfold aS; rw [st1_ne (by omega), st1_ne (by omega)]) ?_
  have e : ∀ k, inN k 4 ∨ k = 6 → aP (aS (aS A i 4 c) i 5 t) i k = aP A i k := fun k _ => by rw [aS_ne (by omega), aS_ne (by omega)]
  have e4 : aP (aS (aS A i 4 c) i 5 t) i 4 = c := by rw [aS_ne (by omega), aS_eq]
  unfold okPt
  rw [e 0 (by omega), e 1 (by omega), e 2 (by omega), e 3 (by omega), e4, aS_eq, e 6 (by omega)]
  exact ⟨by have := hi.2.2; omega, fun _ => ⟨hp.1, hp.2.1, hp.2.2.1, hp.2.2.2.1, hc, ht, by omega⟩⟩
theorem Inv_toil (hI : InvA A C D) (hS : InvS A) (h : rfToil A i x = 0) (hC : C + 600 ≤ C') (hD : D + 7200 ≤ D') : InvA (toF A i x) C' D' ∧ InvS (toF A i x) := by
  unfold rfToil at h
  by_cases q : aIs A i
  · rw [ifP_pos q] at h
    have hp := hI.part q
    have hs := hI.share q
    have hx : 1 ≤ x ∧ x ≤ 600 := by
      split at h
      · omega
      · split at h <;> omega
    have h1 : 0 ≤ x * 12 / aP A i 1 := Int.ediv_nonneg (by omega) (by omega)
    have h2 : x * 12 / aP A i 1 ≤ x * 12 := Int.ediv_le_self _ (by omega)
    exact Inv_cl hI hS q (by omega) (by omega) (by omega) (by omega)
  · rw [ifP_neg q] at h
    omega
theorem Inv_rest (hI : InvA A C D) (hS : InvS A) (h : rfRest A i x = 0) (hC : C + 600 ≤ C') (hD : D ≤ D') : InvA (reF A i x) C' D' ∧ InvS (reF A i x) := by
  unfold rfRest at h
  by_cases q : aIs A i
  · rw [ifP_pos q] at h
    have hp := hI.part q
    have hx : 1 ≤ x ∧ x ≤ 600 := by
      split at h
      · omega
      · split at h <;> omega
    exact Inv_cl hI hS q (by omega) (by omega) (by omega) (by omega)
  · rw [ifP_neg q] at h
    omega
theorem shPt_no {f : Int → Int} (h : f 0 = 0) : shPt f = 0 := ifP_neg (by omega)
theorem twP_no {p : Int} {f : Int → Int} (h : f 0 = 0) : twP p f = 0 := ifP_neg (by omega)
theorem shPt_is {f : Int → Int} (h : 0 < f 0) : shPt f = f 1 := ifP_pos h
theorem twP_is {p : Int} {f : Int → Int} (h : 0 < f 0) (h2 : f 0 = p + 1) : twP p f = f 1 := ifP_pos ⟨h, h2⟩
theorem twP_ot {p : Int} {f : Int → Int} (h2 : f 0 ≠ p + 1) : twP p f = 0 := ifP_neg (fun q => h2 q.2)
theorem okPt_no {f : Int → Int} (h : f 0 = 0) : okPt A C D f := ⟨by omega, fun q => absurd q (by omega)⟩
theorem twP_nn (hI : InvA A C D) (hi : inN i 24) (p : Int) : 0 ≤ twP p (aP A i) := by
  by_cases h : 0 < aP A i 0 ∧ aP A i 0 = p + 1
  · rw [twP_is h.1 h.2]
    have := hI.share (i := i) ⟨hi.1, hi.2, h.1⟩
    omega
  · have e : twP p (aP A i) = 0 := ifP_neg h
    rw [e]
    exact Int.le_refl _
theorem Inv_lose (hI : InvA A C D) (hS : InvS A) (hi : aIs A i) (hC : C ≤ C') (hD : D ≤ D') : InvA (aS A i 0 0) C' D' ∧ InvS (aS A i 0 0) := by
  have hj : ∃ j, inN j 24 ∧ i ≠ j := by
    by_cases h : i = 0
    · exact ⟨1, by omega, by omega⟩
    · exact ⟨0, by omega, h⟩
  obtain ⟨j, hj, hij⟩ := hj
  have hi2 : inN i 24 := ⟨hi.1, hi.2.1⟩
  have e : ∀ l k, inN l 24 → l ≠ i → inN k 7 → aP (aS A i 0 0) l k = aP A l k := fun l k h1 h2 h3 => aS_ne (by omega)
  refine Inv_2 hI hS hC hD (fun k hk => st1_ne (by omega)) hi2 hj hij (fun l k h1 h2 _ h4 => e l k h1 h2 h4) (okPt_no (aS_eq _ _ _ _)) ?_ (fun p => ?_) ?_
  · have h1 := (hI.pt hj).mono hC hD
    unfold okPt at h1 ⊢
    rw [e j 0 hj hij.symm (by omega), e j 1 hj hij.symm (by omega), e j 2 hj hij.symm (by omega), e j 3 hj hij.symm (by omega), e j 4 hj hij.symm (by omega), e j 5 hj hij.symm (by omega), e j 6 hj hij.symm (by omega)]
    exact h1
  · rw [twP_no (aS_eq _ _ _ _), twP_cg (e j 0 hj hij.symm (by omega)) (e j 1 hj hij.symm (by omega))]
    have := twP_nn hI hi2 p
    omega
  · rw [shPt_no (aS_eq _ _ _ _), shPt_cg (e j 0 hj hij.symm (by omega)) (e j 1 hj hij.symm (by omega)), shPt_is hi.2.2]
    have := hI.share hi
    omega
end Inv
