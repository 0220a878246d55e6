/-! ===== 05: what a village is: the model's own row A; what the class's cells have to do with it ===== -/
/-- of a part, a work, a person -/
def aP (A : Int → Int) (i k : Int) : Int := A (99 + 7 * i + k)
def aW (A : Int → Int) (w k : Int) : Int := A (63 + 6 * w + k)
def aG (A : Int → Int) (p k : Int) : Int := A (39 + 4 * p + k)
def aY (A : Int → Int) (a b : Int) : Int := A (3 + 6 * a + b)
def aIs (A : Int → Int) (i : Int) : Prop := 0 ≤ i ∧ i < 24 ∧ 0 < aP A i 0
def aOf (A : Int → Int) (i p : Int) : Prop := aIs A i ∧ aP A i 0 = p + 1
abbrev inN (x n : Int) : Prop := 0 ≤ x ∧ x < n
/-- the cells of village v stand for A -/
def RelV (m : HM) (v : Int) (A : Int → Int) : Prop :=
  (m 1 v 0 0 = A 0 ∧ m 1 v 0 1 = A 1 ∧ m 1 v 0 2 = A 2) ∧
  (∀ i j, inN i 6 → inN j 6 → m 3 v i j = aY A i j) ∧
  (∀ p, inN p (A 1) → m 9 v p 1 = aG A p 3 ∧ ∀ k, inN k 3 → m 10 v p k = aG A p k) ∧
  (∀ w, inN w (A 2) → m 11 v w 0 = aW A w 0 ∧ m 11 v w 1 = aW A w 1 ∧ m 11 v w 3 = aW A w 5 ∧ ∀ k, inN k 3 → m 12 v w k = aW A w (2 + k)) ∧
  (∀ i, inN i 24 → (0 < m 13 v i 1 ↔ 0 < aP A i 0) ∧ (0 < aP A i 0 → m 13 v i 0 = aP A i 0 - 1 ∧ m 13 v i 1 = aP A i 1 ∧ m 13 v i 2 = aP A i 2 ∧ m 13 v i 3 = aP A i 3 ∧ m 13 v i 4 = aP A i 4 ∧ m 13 v i 5 = aP A i 5 ∧ m 13 v i 6 = aP A i 6))
/-- what holds of A; clocks are C at most, tiredness is D at most -/
def InvA (A : Int → Int) (C D : Int) : Prop :=
  (1 ≤ A 0 ∧ A 0 ≤ 6 ∧ 0 ≤ A 1 ∧ A 1 ≤ 6 ∧ 0 ≤ A 2 ∧ A 2 ≤ 6) ∧
  (∀ i j, inN i 6 → inN j 6 → 0 ≤ aY A i j ∧ aY A i j ≤ 60) ∧
  (∀ p, inN p (A 1) → 1 ≤ aG A p 3 ∧ aG A p 3 ≤ 12 ∧ ∀ k, inN k 3 → 0 ≤ aG A p k ∧ aG A p k ≤ 60) ∧
  (∀ w, inN w (A 2) → (0 ≤ aW A w 0 ∧ aW A w 0 ≤ 5) ∧ (0 ≤ aW A w 1 ∧ aW A w 1 < A 0) ∧ (0 ≤ aW A w 5 ∧ aW A w 5 ≤ 99) ∧ ∀ k, inN k 3 → 0 ≤ aW A w (2 + k) ∧ aW A w (2 + k) ≤ 200) ∧
  (∀ i, inN i 24 → 0 ≤ aP A i 0 ∧ (0 < aP A i 0 → aP A i 0 ≤ A 1 ∧ (aG A (aP A i 0 - 1) 3 ≤ aP A i 1 ∧ aP A i 1 ≤ 12) ∧ (0 ≤ aP A i 2 ∧ aP A i 2 < A 0) ∧ (aP A i 3 = -9 ∨ inN (aP A i 3) (A 2)) ∧ (0 ≤ aP A i 4 ∧ aP A i 4 ≤ C) ∧ (0 ≤ aP A i 5 ∧ aP A i 5 ≤ D) ∧ (0 ≤ aP A i 6 ∧ aP A i 6 ≤ 63))) ∧
  sumI (fun i => ifP (0 < aP A i 0) (aP A i 1) 0) 24 ≤ 12 * A 1
theorem RelV.part {m : HM} {v : Int} {A : Int → Int} (h : RelV m v A) {i : Int} (hi : aIs A i) : m 13 v i 0 = aP A i 0 - 1 ∧ m 13 v i 1 = aP A i 1 ∧ m 13 v i 2 = aP A i 2 ∧ m 13 v i 3 = aP A i 3 ∧ m 13 v i 4 = aP A i 4 ∧ m 13 v i 5 = aP A i 5 ∧ m 13 v i 6 = aP A i 6 := (h.2.2.2.2 i ⟨hi.1, hi.2.1⟩).2 hi.2.2
theorem RelV.is {m : HM} {v : Int} {A : Int → Int} (h : RelV m v A) {i : Int} (hi : inN i 24) : 0 < m 13 v i 1 ↔ 0 < aP A i 0 := (h.2.2.2.2 i hi).1
theorem InvA.part {A : Int → Int} {C D : Int} (h : InvA A C D) {i : Int} (hi : aIs A i) : aP A i 0 ≤ A 1 ∧ (aG A (aP A i 0 - 1) 3 ≤ aP A i 1 ∧ aP A i 1 ≤ 12) ∧ (0 ≤ aP A i 2 ∧ aP A i 2 < A 0) ∧ (aP A i 3 = -9 ∨ inN (aP A i 3) (A 2)) ∧ (0 ≤ aP A i 4 ∧ aP A i 4 ≤ C) ∧ (0 ≤ aP A i 5 ∧ aP A i 5 ≤ D) ∧ (0 ≤ aP A i 6 ∧ aP A i 6 ≤ 63) := (h.2.2.2.2.1 i ⟨hi.1, hi.2.1⟩).2 hi.2.2
theorem InvA.pers {A : Int → Int} {C D : Int} (h : InvA A C D) {i : Int} (hi : aIs A i) : inN (aP A i 0 - 1) (A 1) := by
  have h1 := (h.part hi).1
  have h2 := hi.2.2
  exact ⟨by omega, by omega⟩
theorem InvA.share {A : Int → Int} {C D : Int} (h : InvA A C D) {i : Int} (hi : aIs A i) : 1 ≤ aP A i 1 ∧ aP A i 1 ≤ 12 := by
  have h1 := (h.part hi).2.1
  have h2 := (h.2.2.1 _ (h.pers hi)).1
  omega
/-- village v's cells, and the tags of a village -/
theorem RelV.keep {m m' : HM} {v : Int} {A : Int → Int} (h : RelV m v A) (h1 : m' 1 v 0 = m 1 v 0) (h3 : ∀ i, m' 3 v i = m 3 v i) (h9 : ∀ i, m' 9 v i = m 9 v i) (h10 : ∀ i, m' 10 v i = m 10 v i) (h11 : ∀ i, m' 11 v i = m 11 v i) (h12 : ∀ i, m' 12 v i = m 12 v i) (h13 : ∀ i, m' 13 v i = m 13 v i) : RelV m' v A := by
  unfold RelV
  simp only [h1, h3, h9, h10, h11, h12, h13]
  exact h
theorem RelV.sm {P : Nat → Prop} {m m' : HM} {v : Int} {A : Int → Int} (h : RelV m v A) (hs : Sm P m m') (hP : ∀ t : Nat, 1 ≤ t → t ≤ 13 → P t) : RelV m' v A :=
  h.keep (by rw [hs 1 (hP 1 (by omega) (by omega))]) (fun i => by rw [hs 3 (hP 3 (by omega) (by omega))]) (fun i => by rw [hs 9 (hP 9 (by omega) (by omega))]) (fun i => by rw [hs 10 (hP 10 (by omega) (by omega))]) (fun i => by rw [hs 11 (hP 11 (by omega) (by omega))]) (fun i => by rw [hs 12 (hP 12 (by omega) (by omega))]) (fun i => by rw [hs 13 (hP 13 (by omega) (by omega))])
