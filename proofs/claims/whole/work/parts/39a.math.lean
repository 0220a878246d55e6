/-! ===== 39a: no way is longer than five ways of 60 ===== -/
theorem rd_le {F : Int → Int → Int} {k i j : Int} : rdF F k i j ≤ F i j ∧ rdF F k i j ≤ F i k + F k j := by
  unfold rdF
  split <;> omega
theorem rd_or (F : Int → Int → Int) (k i j : Int) : rdF F k i j = F i j ∨ rdF F k i j = F i k + F k j := by
  unfold rdF
  split
  · exact Or.inr rfl
  · exact Or.inl rfl
theorem cl_step {F R : Int → Int → Int} {k : Int} (hk : inN k 6) (ok : okF F 3840) (le : ∀ i j, R i j ≤ F i j ∧ R i j ≤ F i k + F k j) (ro : ∀ i j, R i j = F i j ∨ R i j = F i k + F k j)
    (cl : ∀ i j l, inN i 6 → inN j 6 → 0 ≤ l → l < k → F i j ≤ F i l + F l j) : ∀ i j l, inN i 6 → inN j 6 → 0 ≤ l → l < k + 1 → R i j ≤ R i l + R l j := by
  intro i j l hi hj hl0 hln
  have hl6 : inN l 6 := by omega
  have h1 := le i j
  by_cases hln2 : l = k
  · subst hln2
    have h2 := (ok l l hk hk).2.2.2
    have e1 : R i l = F i l := by
      rcases ro i l with h | h <;> omega
    have e2 : R l j = F l j := by
      rcases ro l j with h | h <;> omega
    rw [e1, e2]
    exact h1.2
  · have hlt : l < k := by omega
    have a1 := cl i j l hi hj hl0 hlt
    have a2 := cl k j l hk hj hl0 hlt
    have a3 := cl i k l hi hk hl0 hlt
    have p1 := (ok k l hk hl6).1
    have p2 := (ok l k hl6 hk).1
    have p3 := (ok i l hi hl6).1
    have p4 := (ok l j hl6 hj).1
    rcases ro i l with e1 | e1 <;> rcases ro l j with e2 | e2 <;> omega
/-- the first k places are passed through as well as can be -/
theorem fw_cl {A : Int → Int} {C D : Int} (hI : InvA A C D) : ∀ n : Nat, n ≤ 6 → ∀ i j l, inN i 6 → inN j 6 → 0 ≤ l → l < (n : Int) → fwK A n i j ≤ fwK A n i l + fwK A n l j := by
  intro n
  induction n with
  | zero => intro _ i j l _ _ h1 h; exact absurd h (by omega)
  | succ n ih =>
    intro hn i j l hi hj hl0 hln
    exact cl_step (F := fwK A n) (R := rdF (fwK A n) n) (k := (n : Int)) (by omega) (okFn hI (by omega)) (fun i j => rd_le) (fun i j => rd_or _ _ _ _) (ih (by omega)) i j l hi hj hl0 (by omega)
theorem fw_dec (A : Int → Int) : ∀ n : Nat, ∀ i j, fwK A n i j ≤ FW0 A i j := by
  intro n
  induction n with
  | zero => intro i j; exact Int.le_refl _
  | succ n ih =>
    intro i j
    exact Int.le_trans (rd_le (F := fwK A n) (k := n) (i := i) (j := j)).1 (ih i j)
theorem fin_step {F R : Int → Int → Int} {k : Int} {P : Int → Prop} (hk : inN k 6) (ok : okF F 3840) (ro : ∀ i j, R i j = F i j ∨ R i j = F i k + F k j) (ih : ∀ i j, inN i 6 → inN j 6 → P i → F i j < 1000000 → P j) : ∀ i j, inN i 6 → inN j 6 → P i → R i j < 1000000 → P j := by
  intro i j hi hj h0 h
  have p1 := (ok i k hi hk).1
  have p2 := (ok k j hk hj).1
  rcases ro i j with e | e
  · exact ih i j hi hj h0 (by omega)
  · exact ih k j hk hj (ih i k hi hk h0 (by omega)) (by omega)
/-- what is reached lies in every set that is closed under ways -/
theorem fw_fin {A : Int → Int} {C D : Int} (hI : InvA A C D) {P : Int → Prop} (hP : ∀ a b, inN a 6 → inN b 6 → P a → FW0 A a b < 1000000 → P b) : ∀ n : Nat, n ≤ 6 → ∀ i j, inN i 6 → inN j 6 → P i → fwK A n i j < 1000000 → P j := by
  intro n
  induction n with
  | zero => intro _ i j hi hj h0 h; exact hP i j hi hj h0 h
  | succ n ih =>
    intro hn
    exact fin_step (F := fwK A n) (R := rdF (fwK A n) n) (k := (n : Int)) (by omega) (okFn hI (by omega)) (fun i j => rd_or _ _ _ _) (ih (by omega))
theorem cntI_le {P Q : Int → Prop} : ∀ n : Nat, (∀ j, inN j n → P j → Q j) → cntI P n ≤ cntI Q n := by
  intro n
  induction n with
  | zero => intro _; exact Int.le_refl _
  | succ n ih =>
    intro h
    have h1 := ih (fun j hj hp => h j (by omega) hp)
    have hn : (0 : Int) ≤ n := by omega
    rw [show ((n + 1 : Nat) : Int) = (n : Int) + 1 by omega]
    by_cases hp : P n
    · rw [cntI_t hn hp, cntI_t hn (h n (by omega) hp)]; omega
    · rw [cntI_f hn hp]
      by_cases hq : Q n
      · rw [cntI_t hn hq]; omega
      · rw [cntI_f hn hq]; exact h1
theorem cntI_lt {P Q : Int → Prop} {b : Int} (hb : Q b ∧ ¬ P b) : ∀ n : Nat, inN b n → (∀ j, inN j n → P j → Q j) → cntI P n + 1 ≤ cntI Q n := by
  intro n
  induction n with
  | zero => intro h; omega
  | succ n ih =>
    intro hbn h
    have hn : (0 : Int) ≤ n := by omega
    rw [show ((n + 1 : Nat) : Int) = (n : Int) + 1 by omega]
    by_cases e : b = n
    · subst e
      have h1 := cntI_le n (fun j hj hp => h j (by omega) hp)
      rw [cntI_f hn hb.2, cntI_t hn hb.1]; omega
    · have h1 := ih (by omega) (fun j hj hp => h j (by omega) hp)
      by_cases hp : P n
      · rw [cntI_t hn hp, cntI_t hn (h n (by omega) hp)]; omega
      · rw [cntI_f hn hp]
        by_cases hq : Q n
        · rw [cntI_t hn hq]; omega
        · rw [cntI_f hn hq]; exact h1
theorem layer {f : Int → Int} {E : Int → Int → Prop} {i : Int} (hi : inN i 6) (h0 : f i = 0) (step : ∀ a b, inN a 6 → inN b 6 → E a b → f b ≤ f a + 60)
    (fin : ∀ j, inN j 6 → f j < 1000000 → ∀ P : Int → Prop, P i → (∀ a b, inN a 6 → inN b 6 → P a → E a b → P b) → P j) : ∀ j, inN j 6 → f j < 1000000 → f j ≤ 300 := by
  have key : ∀ n : Nat, (∀ j, inN j 6 → f j < 1000000 → f j ≤ 60 * (n : Int)) ∨ (n : Int) + 1 ≤ cntI (fun j => f j ≤ 60 * (n : Int)) ((6 : Nat) : Int) := by
    intro n
    induction n with
    | zero =>
      refine Or.inr ?_
      have h2 := cntI_lt (P := fun _ => False) (Q := fun j => f j ≤ 60 * ((0 : Nat) : Int)) (b := i) ⟨by show f i ≤ _; omega, fun h => h⟩ 6 hi (fun _ _ h => h.elim)
      have h1 := (cntI_b (P := fun _ => False) (n := ((6 : Nat) : Int)) (by omega)).1
      omega
    | succ n ih =>
      rcases ih with ih | ih
      · exact Or.inl (fun j hj hf => by have := ih j hj hf; omega)
      · by_cases hc : ∀ a b, inN a 6 → inN b 6 → f a ≤ 60 * (n : Int) → E a b → f b ≤ 60 * (n : Int)
        · refine Or.inl (fun j hj hf => ?_)
          have h2 : f j ≤ 60 * (n : Int) := fin j hj hf (fun a => f a ≤ 60 * (n : Int)) (show f i ≤ 60 * (n : Int) by omega) hc
          omega
        · refine Or.inr ?_
          have hc2 : ∃ b, inN b 6 ∧ f b ≤ 60 * ((n : Int) + 1) ∧ ¬ f b ≤ 60 * (n : Int) := by
            apply Classical.byContradiction
            intro hno
            refine hc (fun a b ha hb h1 h2 => ?_)
            apply Classical.byContradiction
            intro h3
            have h4 := step a b ha hb h2
            exact hno ⟨b, hb, by omega, h3⟩
          obtain ⟨b, hb, hb1, hb2⟩ := hc2
          have h5 := cntI_lt (P := fun j => f j ≤ 60 * (n : Int)) (Q := fun j => f j ≤ 60 * ((n + 1 : Nat) : Int)) (b := b) ⟨by show f b ≤ _; omega, hb2⟩ 6 hb (fun j _ hp => by
            have hp' : f j ≤ 60 * (n : Int) := hp
            show f j ≤ 60 * ((n + 1 : Nat) : Int)
            omega)
          omega
  intro j hj h
  rcases key 5 with h5 | h5
  · have := h5 j hj h
    omega
  · apply Classical.byContradiction
    intro hno
    have h7 := cntI_lt (P := fun j => f j ≤ 60 * ((5 : Nat) : Int)) (Q := fun _ => True) (b := j) ⟨trivial, by show ¬ f j ≤ _; omega⟩ 6 hj (fun _ _ _ => trivial)
    have h6 := (cntI_b (P := fun _ => True) (n := ((6 : Nat) : Int)) (by omega)).2
    omega
theorem fw_300 {A : Int → Int} {C D i j : Int} (hI : InvA A C D) (hi : inN i 6) (hj : inN j 6) (h : fwK A 6 i j < 1000000) : 0 ≤ fwK A 6 i j ∧ fwK A 6 i j ≤ 300 := by
  have ok := okFn hI (n := 6) (by omega)
  have ok0 := okF0 hI
  have cl := fw_cl hI 6 (by omega)
  have dec := fw_dec A 6
  have fn := fun (P : Int → Prop) hP => fw_fin hI (P := P) hP 6 (by omega)
  generalize fwK A 6 = F at *
  refine ⟨(ok i j hi hj).1, layer (f := F i) (E := fun a b => FW0 A a b < 1000000) hi (ok i i hi hi).2.2.2 (fun a b ha hb hE => ?_) (fun j hj hf P hP hcl => fn P hcl i j hi hj hP hf) j hj h⟩
  have h1 := cl i b a hi hb ha.1 (by omega)
  have h2 := dec a b
  have h3 := (ok0 a b ha hb).2.2.1 hE
  omega
theorem gF_300 {A : Int → Int} {C D i j : Int} (hI : InvA A C D) (hi : inN i 6) (hj : inN j 6) : gF (fwA A i j) = -9 ∨ (0 ≤ gF (fwA A i j) ∧ gF (fwA A i j) ≤ 300) := by
  have h := fw_300 hI hi hj
  show gF (fwK A 6 i j) = -9 ∨ (0 ≤ gF (fwK A 6 i j) ∧ gF (fwK A 6 i j) ≤ 300)
  generalize fwK A 6 i j = x at *
  by_cases hx : x < 1000000
  · rw [gF_lt hx]
    exact Or.inr (h hx)
  · rw [gF_ge (by omega)]
    exact Or.inl rfl
