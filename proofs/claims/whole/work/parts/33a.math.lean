/-! ===== 33a: persons in quarters: the list of what the class tries ===== -/
def stR (p : Int) : List Int → Int → (Int → Int) → (Int → Int)
  | [], _, F => F
  | n :: t, w, F => stR p t (w + 1) (st1 F (6 * p + w) n)
def hrL : Nat → Int → List (List Int)
  | 0, _ => [[]]
  | k + 1, left => upL (fun n => (hrL k (left - n)).map (fun t => n :: t)) 0 (left + 1).toNat
theorem upL_fm {α β : Type} (f : Int → List α) (g : α → List β) : ∀ (c : Nat) (lo : Int), upL (fun n => (f n).flatMap g) lo c = (upL f lo c).flatMap g := by
  intro c
  induction c with
  | zero => intro lo; rfl
  | succ c ih =>
    intro lo
    show (f lo).flatMap g ++ upL (fun n => (f n).flatMap g) (lo + 1) c = (f lo ++ upL f (lo + 1) c).flatMap g
    rw [ih, List.flatMap_append]
theorem rwL_hr (cont : (Int → Int) → List (Int → Int)) (p : Int) : ∀ (k : Nat) (w left : Int) (F : Int → Int), rwL cont p k w left F = (hrL k left).flatMap (fun t => cont (stR p t w F)) := by
  intro k
  induction k with
  | zero => intro w left F; simp [rwL, hrL, stR]
  | succ k ih =>
    intro w left F
    have e : (fun n => rwL cont p k (w + 1) (left - n) (st1 F (6 * p + w) n)) = fun n => ((hrL k (left - n)).map (fun t => n :: t)).flatMap (fun t => cont (stR p t w F)) := by
      funext n
      rw [ih, List.flatMap_map]
      rfl
    show upL (fun n => rwL cont p k (w + 1) (left - n) (st1 F (6 * p + w) n)) 0 (left + 1).toNat = _
    rw [e, upL_fm]
    rfl
def RwL (A : Int → Int) (p : Int) : List (List Int) := if p < A 1 then hrL (A 2).toNat 4 else [[]]
def qL2 (A : Int → Int) (F : Int → Int) : List (Int → Int) := (RwL A 2).map (fun t => stR 2 t 0 F)
def qL1 (A : Int → Int) (F : Int → Int) : List (Int → Int) := (RwL A 1).flatMap (fun t => qL2 A (stR 1 t 0 F))
def qL0 (A : Int → Int) : List (Int → Int) := (RwL A 0).flatMap (fun t => qL1 A (stR 0 t 0 zF))
theorem qL_L0 {A : Int → Int} {C D : Int} (hI : InvA A C D) (h3 : few3 A) : qL (A 2).toNat (A 1).toNat 0 zF = qL0 A := by
  have h0 := hI.1
  have h3' := h3.1
  have m1 : ∀ (f : List Int → Int → Int), (hrL (A 2).toNat 4).map f = (hrL (A 2).toNat 4).flatMap (fun t => [f t]) := fun f => List.map_eq_flatMap
  have R : ∀ p, p < A 1 → RwL A p = hrL (A 2).toNat 4 := fun p h => if_pos h
  have N : ∀ p, ¬ p < A 1 → RwL A p = [[]] := fun p h => if_neg h
  rcases (show A 1 = 0 ∨ A 1 = 1 ∨ A 1 = 2 ∨ A 1 = 3 by omega) with e | e | e | e
  · simp only [qL0, qL1, qL2, N 0 (by omega), N 1 (by omega), N 2 (by omega)]
    rw [show (A 1).toNat = 0 by omega]
    rfl
  · simp only [qL0, qL1, qL2, R 0 (by omega), N 1 (by omega), N 2 (by omega)]
    rw [show (A 1).toNat = 1 by omega]
    show rwL (qL (A 2).toNat 0 (0 + 1)) 0 (A 2).toNat 0 4 zF = _
    rw [rwL_hr]
    rfl
  · simp only [qL0, qL1, qL2, R 0 (by omega), R 1 (by omega), N 2 (by omega)]
    rw [show (A 1).toNat = 2 by omega]
    show rwL (qL (A 2).toNat 1 (0 + 1)) 0 (A 2).toNat 0 4 zF = _
    rw [rwL_hr]
    congr 1
    funext t
    show rwL (qL (A 2).toNat 0 (0 + 1 + 1)) (0 + 1) (A 2).toNat 0 4 (stR 0 t 0 zF) = _
    rw [rwL_hr]
    rfl
  · simp only [qL0, qL1, qL2, R 0 (by omega), R 1 (by omega), R 2 (by omega)]
    rw [show (A 1).toNat = 3 by omega]
    show rwL (qL (A 2).toNat 2 (0 + 1)) 0 (A 2).toNat 0 4 zF = _
    rw [rwL_hr]
    congr 1
    funext t
    show rwL (qL (A 2).toNat 1 (0 + 1 + 1)) (0 + 1) (A 2).toNat 0 4 (stR 0 t 0 zF) = _
    rw [rwL_hr]
    congr 1
    funext t2
    show rwL (qL (A 2).toNat 0 (0 + 1 + 1 + 1)) (0 + 1 + 1) (A 2).toNat 0 4 (stR 1 t2 0 (stR 0 t 0 zF)) = _
    rw [rwL_hr, m1]
    rfl
theorem vsL_id {A : Int → Int} {s : Int × (Int → Int)} : ∀ l : List (Int → Int), (∀ F ∈ l, qW A F (A 2) ≤ s.1) → vsL A s l = s := by
  intro l
  induction l with
  | nil => intro _; rfl
  | cons F l ih =>
    intro h
    show vsL A (vs A s F) l = s
    have e : vs A s F = s := if_pos (h F List.mem_cons_self)
    rw [e]
    exact ih (fun G hG => h G (List.mem_cons_of_mem _ hG))
/-- of a row -/
def cp (k : Int) (t : List Int) : Int := t.getD k.toNat 0
theorem stR_out {p : Int} : ∀ (t : List Int) (w : Int) (F : Int → Int) (j : Int), (j < 6 * p + w ∨ 6 * p + w + t.length ≤ j) → stR p t w F j = F j := by
  intro t
  induction t with
  | nil => intro w F j _; rfl
  | cons n t ih =>
    intro w F j h
    rw [List.length_cons] at h
    show stR p t (w + 1) (st1 F (6 * p + w) n) j = F j
    rw [ih _ _ _ (by omega), st1_ne (by omega)]
theorem stR_in {p : Int} : ∀ (t : List Int) (w : Int) (F : Int → Int) (j : Int), 0 ≤ j → j < t.length → stR p t w F (6 * p + w + j) = t.getD j.toNat 0 := by
  intro t
  induction t with
  | nil => intro w F j h1 h2; simp at h2; omega
  | cons n t ih =>
    intro w F j h1 h2
    rw [List.length_cons] at h2
    show stR p t (w + 1) (st1 F (6 * p + w) n) (6 * p + w + j) = _
    by_cases q : j = 0
    · subst q
      rw [stR_out _ _ _ _ (by omega), show 6 * p + w + 0 = 6 * p + w by omega, st1_eq]
      rfl
    · have := ih (w + 1) (st1 F (6 * p + w) n) (j - 1) (by omega) (by omega)
      rw [show 6 * p + (w + 1) + (j - 1) = 6 * p + w + j by omega] at this
      rw [this, show j.toNat = (j - 1).toNat + 1 by omega]
      rfl
def Fq (t0 t1 t2 : List Int) : Int → Int := stR 2 t2 0 (stR 1 t1 0 (stR 0 t0 0 zF))
theorem hrL_ok : ∀ W, W < 4 → (hrL W 4).all (fun t => decide (t.length = W) && (decide (0 ≤ cp 0 t ∧ cp 0 t ≤ 4) && (decide (0 ≤ cp 1 t ∧ cp 1 t ≤ 4) && decide (0 ≤ cp 2 t ∧ cp 2 t ≤ 4)))) = true := by decide +kernel
theorem hrL_0 : ∀ W, W < 4 → ∃ t l, hrL W 4 = t :: l ∧ cp 0 t = 0 ∧ cp 1 t = 0 ∧ cp 2 t = 0 := fun W hW => by
  rcases (show W = 0 ∨ W = 1 ∨ W = 2 ∨ W = 3 by omega) with rfl | rfl | rfl | rfl
  · exact ⟨_, _, rfl, by decide, by decide, by decide⟩
  · exact ⟨_, _, rfl, by decide, by decide, by decide⟩
  · exact ⟨_, _, rfl, by decide, by decide, by decide⟩
  · exact ⟨_, _, rfl, by decide, by decide, by decide⟩
theorem Rw_ok {A : Int → Int} {C D p : Int} {t : List Int} (hI : InvA A C D) (h3 : few3 A) (ht : t ∈ RwL A p) : (t.length ≤ 3) ∧ (p < A 1 → (t.length : Int) = A 2) ∧ ∀ k, inN k 3 → 0 ≤ cp k t ∧ cp k t ≤ 4 := by
  have h0 := hI.1
  have h3' := h3.2
  unfold RwL at ht
  by_cases q : p < A 1
  · rw [if_pos q] at ht
    have := List.all_eq_true.mp (hrL_ok (A 2).toNat (by omega)) t ht
    simp only [Bool.and_eq_true, decide_eq_true_eq] at this
    obtain ⟨a, b, c, d⟩ := this
    refine ⟨by omega, fun _ => by omega, fun k hk => ?_⟩
    rcases (show k = 0 ∨ k = 1 ∨ k = 2 by omega) with rfl | rfl | rfl
    · exact b
    · exact c
    · exact d
  · rw [if_neg q] at ht
    have e : t = [] := by simpa using ht
    subst e
    refine ⟨by simp, fun z => absurd z q, fun k hk => ?_⟩
    have : cp k [] = 0 := rfl
    omega
theorem Fq_at {A : Int → Int} {C D w : Int} {t0 t1 t2 : List Int} (hI : InvA A C D) (h3 : few3 A) (h0 : t0 ∈ RwL A 0) (h1 : t1 ∈ RwL A 1) (h2 : t2 ∈ RwL A 2) (hw : inN w (A 2)) : (0 < A 1 → Fq t0 t1 t2 w = cp w t0) ∧ (1 < A 1 → Fq t0 t1 t2 (6 + w) = cp w t1) ∧ (2 < A 1 → Fq t0 t1 t2 (12 + w) = cp w t2) := by
  have k0 := Rw_ok hI h3 h0
  have k1 := Rw_ok hI h3 h1
  have k2 := Rw_ok hI h3 h2
  have h3' := h3.2
  unfold Fq
  refine ⟨fun q => ?_, fun q => ?_, fun q => ?_⟩
  · rw [stR_out _ _ _ _ (by omega), stR_out _ _ _ _ (by omega)]
    have := stR_in (p := 0) t0 0 zF w hw.1 (by have := k0.2.1 q; have := hw.2; omega)
    rw [show 6 * 0 + 0 + w = w by omega] at this
    exact this
  · rw [stR_out _ _ _ _ (by omega)]
    have := stR_in (p := 1) t1 0 (stR 0 t0 0 zF) w hw.1 (by have := k1.2.1 q; have := hw.2; omega)
    rw [show 6 * 1 + 0 + w = 6 + w by omega] at this
    exact this
  · have := stR_in (p := 2) t2 0 (stR 1 t1 0 (stR 0 t0 0 zF)) w hw.1 (by have := k2.2.1 q; have := hw.2; omega)
    rw [show 6 * 2 + 0 + w = 12 + w by omega] at this
    exact this
theorem oI_cg {P Q : Int → Prop} {f : Int → Int} {n : Int} (hn : 0 ≤ n) (h : ∀ i, inN i n → (P i ↔ Q i)) : oI P f n = oI Q f n := by
  obtain ⟨j, rfl⟩ : ∃ j : Nat, n = j := ⟨n.toNat, by omega⟩
  induction j with
  | zero => rfl
  | succ j ih =>
    have ih' := ih (by omega) (fun i hi => h i ⟨hi.1, by have := hi.2; omega⟩)
    have hj := h j ⟨by omega, by omega⟩
    rw [show ((j + 1 : Nat) : Int) = (j : Int) + 1 by omega]
    by_cases q : P j
    · rw [oI_t (by omega) q, oI_t (by omega) (hj.mp q), ih']
    · rw [oI_f (by omega) q, oI_f (by omega) (fun z => q (hj.mpr z)), ih']
theorem qdn_cg {A F F' : Int → Int} {C D w : Int} (hI : InvA A C D) (h : ∀ p, inN p (A 1) → F (6 * p + w) = F' (6 * p + w)) : qdn A F w ↔ qdn A F' w := by
  have h0 := hI.1
  have e1 : qS A F w (A 1) = qS A F' w (A 1) := by
    funext k
    unfold qS
    refine sP_cg (by omega) (fun p hp => ?_)
    unfold qgP
    rw [h p hp]
    exact ⟨Iff.rfl, fun _ => rfl⟩
  have e2 : byH F w (A 1) = byH F' w (A 1) := by
    unfold byH
    refine oI_cg (by omega) (fun p hp => ?_)
    unfold shP
    rw [h p hp]
  unfold qdn
  rw [e1, e2]
def mq (x p : Int) : Int := if p = 0 then x / 25 else if p = 1 then x / 5 % 5 else x % 5
def mqF (x : Int) : Int → Int := fun j => mq x (j / 6)
def mxq (f s t : Int) : Int := (f * 5 + s) * 5 + t
noncomputable def gwv (A : Int → Int) (w x : Int) : Int := if w < A 2 then ifP (qdn A (mqF x) w) (aW A w 5) 0 else 0
theorem gwv_b {A : Int → Int} {C D w x : Int} (hI : InvA A C D) (hw : 0 ≤ w) : 0 ≤ gwv A w x ∧ gwv A w x ≤ 99 := by
  unfold gwv
  by_cases q : w < A 2
  · rw [if_pos q]
    have := (hI.2.2.2.1 w ⟨hw, q⟩).2.2.1
    by_cases z : qdn A (mqF x) w
    · rw [ifP_pos z]; omega
    · rw [ifP_neg z]; omega
  · rw [if_neg q]; omega
noncomputable def cV (A : Int → Int) (t0 t1 t2 : List Int) : Int := gwv A 0 (mxq (cp 0 t0) (cp 0 t1) (cp 0 t2)) + gwv A 1 (mxq (cp 1 t0) (cp 1 t1) (cp 1 t2)) + gwv A 2 (mxq (cp 2 t0) (cp 2 t1) (cp 2 t2))
theorem mxq_b {f s t : Int} (hf : 0 ≤ f ∧ f ≤ 4) (hs : 0 ≤ s ∧ s ≤ 4) (ht : 0 ≤ t ∧ t ≤ 4) : inN (mxq f s t) 125 ∧ mq (mxq f s t) 0 = f ∧ mq (mxq f s t) 1 = s ∧ mq (mxq f s t) 2 = t := by
  unfold mq mxq
  refine ⟨by omega, ?_, ?_, ?_⟩
  · rw [if_pos rfl]; omega
  · rw [if_neg (by omega), if_pos rfl]; omega
  · rw [if_neg (by omega), if_neg (by omega)]; omega
theorem val_eq {A : Int → Int} {C D : Int} {t0 t1 t2 : List Int} (hI : InvA A C D) (h3 : few3 A) (h0 : t0 ∈ RwL A 0) (h1 : t1 ∈ RwL A 1) (h2 : t2 ∈ RwL A 2) : qW A (Fq t0 t1 t2) (A 2) = cV A t0 t1 t2 := by
  have k0 := Rw_ok hI h3 h0
  have k1 := Rw_ok hI h3 h1
  have k2 := Rw_ok hI h3 h2
  have hi0 := hI.1
  have h31 := h3.1
  have h32 := h3.2
  have key : ∀ w, inN w (A 2) → ifP (qdn A (Fq t0 t1 t2) w) (aW A w 5) 0 = gwv A w (mxq (cp w t0) (cp w t1) (cp w t2)) := fun w hw => by
    have hb := mxq_b (k0.2.2 w (by omega)) (k1.2.2 w (by omega)) (k2.2.2 w (by omega))
    have hF := Fq_at hI h3 h0 h1 h2 hw
    unfold gwv
    rw [if_pos hw.2]
    refine ifP_congr (qdn_cg hI (fun p hp => ?_))
    unfold mqF
    rw [show (6 * p + w) / 6 = p by omega]
    rcases (show p = 0 ∨ p = 1 ∨ p = 2 by omega) with rfl | rfl | rfl
    · rw [hb.2.1, show 6 * 0 + w = w by omega]; exact hF.1 hp.2
    · rw [hb.2.2.1]; exact hF.2.1 hp.2
    · rw [hb.2.2.2]; exact hF.2.2 hp.2
  have z : ∀ w, A 2 ≤ w → gwv A w (mxq (cp w t0) (cp w t1) (cp w t2)) = 0 := fun w hw => by unfold gwv; rw [if_neg (by omega)]
  unfold qW cV
  rcases (show A 2 = 0 ∨ A 2 = 1 ∨ A 2 = 2 ∨ A 2 = 3 by omega) with e | e | e | e
  · rw [z 0 (by omega), z 1 (by omega), z 2 (by omega), e]; rfl
  · rw [z 1 (by omega), z 2 (by omega), ← key 0 (by omega), e]
    show 0 + _ = _
    rw [Int.zero_add, Int.add_zero, Int.add_zero]; rfl
  · rw [z 2 (by omega), ← key 0 (by omega), ← key 1 (by omega), e]
    show 0 + _ + _ = _
    rw [Int.zero_add, Int.add_zero]; rfl
  · rw [← key 0 (by omega), ← key 1 (by omega), ← key 2 (by omega), e]
    show 0 + _ + _ + _ = _
    rw [Int.zero_add]; rfl
noncomputable def mst (A : Int → Int) (n : Int) : Int := sumI (fun w => mxI (gwv A w) 125) n
theorem cV_b {A : Int → Int} {C D : Int} {t0 t1 t2 : List Int} (hI : InvA A C D) (h3 : few3 A) (h0 : t0 ∈ RwL A 0) (h1 : t1 ∈ RwL A 1) (h2 : t2 ∈ RwL A 2) : 0 ≤ cV A t0 t1 t2 ∧ cV A t0 t1 t2 ≤ mst A 3 ∧ cV A t0 t1 t2 ≤ 297 := by
  have k0 := Rw_ok hI h3 h0
  have k1 := Rw_ok hI h3 h1
  have k2 := Rw_ok hI h3 h2
  have g := fun w (hw : inN w 3) => mxI_get (f := gwv A w) (mxq_b (k0.2.2 w hw) (k1.2.2 w hw) (k2.2.2 w hw)).1
  have b := fun w (hw : inN w 3) => gwv_b (x := mxq (cp w t0) (cp w t1) (cp w t2)) hI hw.1
  have g0 := g 0 (by omega); have g1 := g 1 (by omega); have g2 := g 2 (by omega)
  have b0 := b 0 (by omega); have b1 := b 1 (by omega); have b2 := b 2 (by omega)
  have e : mst A 3 = 0 + mxI (gwv A 0) 125 + mxI (gwv A 1) 125 + mxI (gwv A 2) 125 := rfl
  rw [e]
  unfold cV
  omega
theorem mem_q2 {A F G : Int → Int} (h : G ∈ qL2 A F) : ∃ t2, t2 ∈ RwL A 2 ∧ G = stR 2 t2 0 F := by
  obtain ⟨t, h1, h2⟩ := List.mem_map.mp h
  exact ⟨t, h1, h2.symm⟩
