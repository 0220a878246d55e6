/-! ===== 05b: what is told, ways, moments: the mathematics ===== -/
theorem upr_upr (m : HM) (t : Nat) (v i : Int) (f g : Int → Int) : upr (upr m t v i f) t v i g = upr m t v i g := by
  funext t' v' i'
  unfold upr
  split <;> rfl
theorem upr_t {m : HM} {t t' : Nat} {v i v' i' : Int} {f : Int → Int} (h : (t' == t) = false) : upr m t v i f t' v' i' = m t' v' i' := upr_tag (by simpa using h)
theorem upr_i {m : HM} {t : Nat} {v i v' i' : Int} {f : Int → Int} (h : i' ≠ i) : upr m t v i f t v' i' = m t v' i' := upr_ne (fun q => h q.2.2)
theorem upr_v {m : HM} {t : Nat} {v i v' i' : Int} {f : Int → Int} (h : v' ≠ v) : upr m t v i f t v' i' = m t v' i' := upr_ne (fun q => h q.2.1)
/-- village v's cells alone change -/
def FrV (v : Int) (m m' : HM) : Prop := ∀ t v' i', ¬ (1 ≤ t ∧ t ≤ 13 ∧ v' = v) → m' t v' i' = m t v' i'
theorem FrV.rf {v : Int} {m : HM} : FrV v m m := fun _ _ _ _ => rfl
theorem FrV.tr {v : Int} {m m' m2 : HM} (h : FrV v m m') (h2 : FrV v m' m2) : FrV v m m2 := fun t v' i' hn => (h2 t v' i' hn).trans (h t v' i' hn)
theorem FrV.up {v : Int} {m m' : HM} (h : FrV v m m') {t : Nat} (ht : 1 ≤ t ∧ t ≤ 13) {i : Int} {f : Int → Int} : FrV v m (upr m' t v i f) := fun t' v' i' hn => by
  rw [upr_ne (fun e => hn ⟨by rw [e.1]; exact ht.1, by rw [e.1]; exact ht.2, e.2.1⟩)]
  exact h t' v' i' hn
/-- of tag t of owner v alone -/
def FrT (t0 : Nat) (v : Int) (m m' : HM) : Prop := ∀ t v' i', ¬ (t = t0 ∧ v' = v) → m' t v' i' = m t v' i'
theorem FrT.rf {t0 : Nat} {v : Int} {m : HM} : FrT t0 v m m := fun _ _ _ _ => rfl
theorem FrT.tr {t0 : Nat} {v : Int} {m m' m2 : HM} (h : FrT t0 v m m') (h2 : FrT t0 v m' m2) : FrT t0 v m m2 := fun t v' i' hn => (h2 t v' i' hn).trans (h t v' i' hn)
theorem FrT.up {t0 : Nat} {v : Int} {m m' : HM} (h : FrT t0 v m m') {i : Int} {f : Int → Int} : FrT t0 v m (upr m' t0 v i f) := fun t' v' i' hn => by
  rw [upr_ne (fun e => hn ⟨e.1, e.2.1⟩)]
  exact h t' v' i' hn
theorem FrT.toV {t0 : Nat} {v : Int} {m m' : HM} (h : FrT t0 v m m') (ht : 1 ≤ t0 ∧ t0 ≤ 13) : FrV v m m' := fun t v' i' hn => h t v' i' (fun e => hn ⟨by rw [e.1]; exact ht.1, by rw [e.1]; exact ht.2, e.2⟩)
noncomputable def fpA (A : Int → Int) (z : Int) : Int := fstI (fun i => ¬ aIs A i) z 0 24
def usedA (A : Int → Int) (x : Int) : Prop := (∃ i j, inN i 6 ∧ inN j 6 ∧ 0 < aY A i j ∧ x = i) ∨ (∃ w, inN w (A 2) ∧ x = aW A w 1) ∨ (∃ i, aIs A i ∧ x = aP A i 2)
theorem usedA.b {A : Int → Int} {C D x : Int} (hI : InvA A C D) (h : usedA A x) : 0 ≤ x ∧ x ≤ 5 := by
  have h0 := hI.1
  rcases h with ⟨i, j, h1, -, -, rfl⟩ | ⟨w, h1, rfl⟩ | ⟨i, h1, rfl⟩
  · omega
  · have := (hI.2.2.2.1 w h1).2.1
    omega
  · have := (hI.part h1).2.2.1
    omega
def okPl (A : Int → Int) (a : Int) : Prop := 1 ≤ a ∧ a ≤ 6 ∧ ∀ x, usedA A x → x < a
def okWay (A : Int → Int) (a b t : Int) : Prop := a < A 0 ∧ b < A 0 ∧ a ≠ b ∧ 1 ≤ t ∧ t ≤ 60
def okPer (A f : Int → Int) : Prop := (f 0 ≤ 60 ∧ f 1 ≤ 60 ∧ f 2 ≤ 60) ∧ (1 ≤ f 3 ∧ f 3 ≤ 12) ∧ A 1 < 6 ∧ inN (fpA A (-1)) 24
def okWo (A f : Int → Int) : Prop := f 1 < A 0 ∧ A 2 < 6 ∧ (f 2 ≤ 200 ∧ f 3 ≤ 200 ∧ f 4 ≤ 200)
def upPl (A : Int → Int) (a : Int) : Int → Int := st1 A 0 a
def upWay (A : Int → Int) (a b t : Int) : Int → Int := st1 (st1 A (3 + 6 * a + b) t) (3 + 6 * b + a) t
/-- n numbers of f laid in from k on -/
def lay (A : Int → Int) (k n : Int) (f : Int → Int) : Int → Int := fun j => if k ≤ j ∧ j < k + n then f (j - k) else A j
theorem lay_in {A f : Int → Int} {k n j : Int} (h : inN j n) : lay A k n f (k + j) = f j := by
  unfold lay
  rw [if_pos (by omega), show k + j - k = j by omega]
theorem lay_out {A f : Int → Int} {k n j : Int} (h : j < k ∨ k + n ≤ j) : lay A k n f j = A j := if_neg (by omega)
def newP (p : Int) : Int → Int := fun k => if k = 0 then p + 1 else if k = 1 then 12 else if k = 3 then -9 else 0
noncomputable def upPer (A f : Int → Int) : Int → Int := st1 (lay (lay A (39 + 4 * A 1) 4 f) (99 + 7 * fpA A (-1)) 7 (newP (A 1))) 1 (A 1 + 1)
def upWo (A f : Int → Int) : Int → Int := st1 (lay A (63 + 6 * A 2) 6 f) 2 (A 2 + 1)
theorem fpA_cases (A : Int → Int) (z : Int) : (fpA A z = z ∧ ∀ j, inN j 24 → aIs A j) ∨ (inN (fpA A z) 24 ∧ ¬ aIs A (fpA A z) ∧ ∀ j, 0 ≤ j → j < fpA A z → aIs A j) := by
  rcases fstI_spec (P := fun i => ¬ aIs A i) (z := z) (lo := 0) (hi := 24) 0 (by omega) (by omega) with ⟨h1, h2⟩ | ⟨h1, h2, h3, h4⟩
  · exact Or.inl ⟨h1, fun j hj => Classical.not_not.mp (h2 j hj.1 hj.2)⟩
  · exact Or.inr ⟨⟨h1, h2⟩, h3, fun j a b => Classical.not_not.mp (h4 j a b)⟩
/-! ways -/
def FW0 (A : Int → Int) (i j : Int) : Int := if i = j then 0 else if 0 < aY A i j then aY A i j else 1000000
def rdF (F : Int → Int → Int) (k i j : Int) : Int := if F i k + F k j < F i j then F i k + F k j else F i j
def fwK (A : Int → Int) : Nat → Int → Int → Int
  | 0 => FW0 A
  | n + 1 => rdF (fwK A n) n
def fwA (A : Int → Int) : Int → Int → Int := fwK A 6
/-- as the class writes it: none is -9 -/
def gF (x : Int) : Int := if x < 1000000 then x else -9
theorem gF_lt {x : Int} (h : x < 1000000) : gF x = x := if_pos h
theorem gF_ge {x : Int} (h : 1000000 ≤ x) : gF x = -9 := if_neg (by omega)
/-- a matrix as it should be; what is finite is B at most -/
def okF (F : Int → Int → Int) (B : Int) : Prop := ∀ i j, inN i 6 → inN j 6 → 0 ≤ F i j ∧ F i j ≤ 1000000 ∧ (F i j < 1000000 → F i j ≤ B) ∧ F i i = 0
theorem okF0 {A : Int → Int} {C D : Int} (hI : InvA A C D) : okF (FW0 A) 60 := by
  intro i j hi hj
  have := hI.2.1 i j hi hj
  unfold FW0
  refine ⟨?_, ?_, ?_, by simp⟩ <;> split <;> try split
  all_goals omega
theorem okF_rd {F : Int → Int → Int} {B k : Int} (h : okF F B) (hk : inN k 6) (hB : 0 ≤ B) : okF (rdF F k) (2 * B) := by
  intro i j hi hj
  have h1 := h i j hi hj
  have h2 := h i k hi hk
  have h3 := h k j hk hj
  have h4 := h i i hi hi
  have h5 := h k i hk hi
  unfold rdF
  refine ⟨?_, ?_, ?_, ?_⟩ <;> split <;> omega
theorem okFK {A : Int → Int} {C D : Int} (hI : InvA A C D) : okF (fwK A 0) 60 ∧ okF (fwK A 1) 120 ∧ okF (fwK A 2) 240 ∧ okF (fwK A 3) 480 ∧ okF (fwK A 4) 960 ∧ okF (fwK A 5) 1920 ∧ okF (fwK A 6) 3840 := by
  have h0 := okF0 hI
  have h1 := okF_rd h0 (k := 0) (by omega) (by omega)
  have h2 := okF_rd h1 (k := 1) (by omega) (by omega)
  have h3 := okF_rd h2 (k := 2) (by omega) (by omega)
  have h4 := okF_rd h3 (k := 3) (by omega) (by omega)
  have h5 := okF_rd h4 (k := 4) (by omega) (by omega)
  have h6 := okF_rd h5 (k := 5) (by omega) (by omega)
  exact ⟨h0, h1, h2, h3, h4, h5, h6⟩
theorem okFn {A : Int → Int} {C D : Int} (hI : InvA A C D) {n : Nat} (hn : n ≤ 6) : okF (fwK A n) 3840 := by
  have h := okFK hI
  have mono : ∀ {F : Int → Int → Int} {B : Int}, B ≤ 3840 → okF F B → okF F 3840 := fun hB hF i j hi hj => by
    have := hF i j hi hj
    exact ⟨this.1, this.2.1, fun h => by have := this.2.2.1 h; omega, this.2.2.2⟩
  rcases n with _ | _ | _ | _ | _ | _ | _ | n
  · exact mono (by omega) h.1
  · exact mono (by omega) h.2.1
  · exact mono (by omega) h.2.2.1
  · exact mono (by omega) h.2.2.2.1
  · exact mono (by omega) h.2.2.2.2.1
  · exact mono (by omega) h.2.2.2.2.2.1
  · exact mono (by omega) h.2.2.2.2.2.2
  · omega
/-- a round half done: the rows before a, and of row a what is before b -/
def prF (F : Int → Int → Int) (k a b i j : Int) : Int := if i < a ∨ (i = a ∧ j < b) then rdF F k i j else F i j
theorem prF_00 (F : Int → Int → Int) (k : Int) {i j : Int} (hi : 0 ≤ i) (hj : 0 ≤ j) : prF F k 0 0 i j = F i j := if_neg (by omega)
theorem prF_row {F : Int → Int → Int} {k a i j : Int} (hj : inN j 6) : prF F k a 6 i j = prF F k (a + 1) 0 i j := by
  unfold prF
  split <;> split <;> first | rfl | omega
theorem prF_end {F : Int → Int → Int} {k i j : Int} (hi : inN i 6) : prF F k 6 0 i j = rdF F k i j := if_pos (by omega)
theorem prF_k1 {F : Int → Int → Int} {B k a b i : Int} (h : okF F B) (hk : inN k 6) (hi : inN i 6) : prF F k a b i k = F i k := by
  have h1 := (h k k hk hk).2.2.2
  unfold prF rdF
  split
  · rw [if_neg (by omega)]
  · rfl
theorem prF_k2 {F : Int → Int → Int} {B k a b j : Int} (h : okF F B) (hk : inN k 6) (hj : inN j 6) : prF F k a b k j = F k j := by
  have h1 := (h k k hk hk).2.2.2
  unfold prF rdF
  split
  · rw [if_neg (by omega)]
  · rfl
/-! moments -/
def mxN (f : Int → Int) : Nat → Int
  | 0 => 0
  | n + 1 => max (mxN f n) (f n)
def mxI (f : Int → Int) (n : Int) : Int := mxN f n.toNat
theorem mxI_0 (f : Int → Int) : mxI f 0 = 0 := rfl
theorem mxI_s {f : Int → Int} {n : Int} (h : 0 ≤ n) : mxI f (n + 1) = max (mxI f n) (f n) := by
  unfold mxI
  rw [show (n + 1).toNat = n.toNat + 1 by omega]
  show max (mxN f n.toNat) (f (n.toNat : Int)) = _
  rw [Int.toNat_of_nonneg h]
theorem mxI_nn (f : Int → Int) (n : Int) : 0 ≤ mxI f n := by
  unfold mxI
  induction n.toNat with
  | zero => exact Int.le_refl 0
  | succ n ih => exact Int.le_trans ih (Int.le_max_left _ _)
theorem mxI_mono {f : Int → Int} {lo hi : Int} (h0 : 0 ≤ lo) (h : lo ≤ hi) : mxI f lo ≤ mxI f hi := by
  obtain ⟨k, rfl⟩ : ∃ k : Nat, hi = lo + k := ⟨(hi - lo).toNat, by omega⟩
  clear h
  induction k with
  | zero => simp
  | succ k ih =>
    have e : mxI f (lo + ((k + 1 : Nat) : Int)) = max (mxI f (lo + k)) (f (lo + k)) := by
      rw [show lo + ((k + 1 : Nat) : Int) = (lo + k) + 1 by omega, mxI_s (by omega)]
    rw [e]
    omega
theorem mxI_get {f : Int → Int} {i n : Int} (hi : inN i n) : f i ≤ mxI f n := by
  have h1 := mxI_mono (f := f) (lo := i + 1) (hi := n) (by omega) (by omega)
  have h2 := mxI_s (f := f) hi.1
  omega
/-- when a part can be at a place -/
noncomputable def momF (A : Int → Int) (p place : Int) (i : Int) : Int := ifP (aOf A i p) (ifP (1000000 ≤ fwA A (aP A i 2) place) 1000000 (aP A i 4 + fwA A (aP A i 2) place)) 0
noncomputable def momA (A : Int → Int) (p place : Int) : Int := mxI (momF A p place) 24
/-- the sums of twelfths -/
noncomputable def twA (A : Int → Int) (p : Int) (i : Int) : Int := ifP (aOf A i p) (aP A i 1) 0
noncomputable def twW (A : Int → Int) (p : Int) (i : Int) : Int := ifP (aOf A i p ∧ aP A i 2 ≠ 0) (aP A i 1) 0
theorem twA_b {A : Int → Int} {C D p i : Int} (hI : InvA A C D) : 0 ≤ twA A p i ∧ twA A p i ≤ 12 := by
  unfold twA
  by_cases h : aOf A i p
  · rw [ifP_pos h]
    have := hI.share h.1
    omega
  · rw [ifP_neg h]
    omega
theorem twW_b {A : Int → Int} {C D p i : Int} (hI : InvA A C D) : 0 ≤ twW A p i ∧ twW A p i ≤ twA A p i := by
  have h1 := twA_b (p := p) (i := i) hI
  unfold twW
  by_cases h : aOf A i p ∧ aP A i 2 ≠ 0
  · rw [ifP_pos h]
    unfold twA
    rw [ifP_pos h.1]
    have := hI.share h.1.1
    omega
  · rw [ifP_neg h]
    omega
