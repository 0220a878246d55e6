/-! ===== 39d: what best says hangs on the persons and the works alone; the law's invariant ===== -/
theorem bestF_cg {A A' : Int → Int} {C D : Int} {z : Int → Int} (hI : InvA A C D) (hA : ∀ k, k < 99 → A' k = A k) : bestF A' z = bestF A z := by
  have h0 := hI.1
  have e1 := hA 1 (by omega)
  have e2 := hA 2 (by omega)
  have eW : ∀ w k, w < 6 → k < 6 → aW A' w k = aW A w k := fun w k a b => hA _ (by omega)
  have eG : ∀ p k, p < 6 → k < 4 → aG A' p k = aG A p k := fun w k a b => hA _ (by omega)
  have eq1 : ∀ F, qW A' F (A 2) = qW A F (A 2) := fun F => by
    unfold qW
    refine sumI_congr (fun w a b => ?_)
    show ifP (qdn A' F w) (aW A' w 5) 0 = ifP (qdn A F w) (aW A w 5) 0
    rw [eW w 5 (by omega) (by omega)]
    refine ifP_congr ?_
    have key : ∀ k, inN k 3 → (12 * nW A' w k ≤ dS (aW A' w 0) (qS A' F w (A' 1)) (byH F w (A' 1)) k ↔ 12 * nW A w k ≤ dS (aW A w 0) (qS A F w (A 1)) (byH F w (A 1)) k) := fun k hk => by
      have e3 : qS A' F w (A 1) k = qS A F w (A 1) k := by
        unfold qS
        refine sP_cg (by omega) (fun p hp => ?_)
        have g3 := eG p 3 (by omega) (by omega)
        have gk := eG p k (by omega) (by omega)
        refine ⟨by unfold qgP; rw [g3], fun _ => ?_⟩
        show gv (aW A' w 0) k (aG A' p k) _ 0 = gv (aW A w 0) k (aG A p k) _ 0
        rw [gk, eW w 0 (by omega) (by omega)]
      have e4 : nW A' w k = nW A w k := eW w (2 + k) (by omega) (by omega)
      unfold dS
      rw [e1, e3, e4, eW w 0 (by omega) (by omega)]
    exact ⟨fun h k hk => (key k hk).mp (h k hk), fun h k hk => (key k hk).mpr (h k hk)⟩
  have eq2 : vs A' = vs A := by
    funext s F
    unfold vs
    rw [e2, eq1]
  unfold bestF vsL
  rw [eq2, e1, e2]
theorem QV.cg {m m' : HM} {A A' : Int → Int} {C D : Int} (hI : InvA A C D) (hA : ∀ k, k < 99 → A' k = A k) (h : QV m A) (h23 : m' 23 0 0 = m 23 0 0) (h25 : ∀ i, m' 25 0 i = m 25 0 i) (h28 : m' 28 0 0 = m 28 0 0) : QV m' A' := by
  obtain ⟨q1, q2, q3⟩ := h
  refine ⟨by rw [h23]; exact q1, by rw [h23, bestF_cg hI hA]; exact q2, fun p w hp hw => ?_⟩
  rw [hA 1 (by omega)] at hp
  rw [hA 2 (by omega)] at hw
  have := q3 p w hp hw
  rw [h28, h25, bestF_cg hI hA]
  exact this
/-- the class's side -/
def LC (m : HM) (A B T W R : Int → Int) (tl rl im : Int) : Prop :=
  (RelV m 0 A) ∧ (TpC m T tl) ∧ (NN m) ∧ (m 0 0 0 10 = rl) ∧ (∀ k, inN k rl → m 32 0 0 k = W k) ∧ (m 33 0 0 = R) ∧ (m 0 0 0 4 = im) ∧ (im ≠ 0 → RelV m 2 B) ∧ (m 23 0 0 6 = 0 ∨ QV m A)
theorem LC.rel {m : HM} {A B T W R : Int → Int} {tl rl im : Int} (h : LC m A B T W R tl rl im) : RelV m 0 A := h.1
theorem LC.tp {m : HM} {A B T W R : Int → Int} {tl rl im : Int} (h : LC m A B T W R tl rl im) : TpC m T tl := h.2.1
theorem LC.nn {m : HM} {A B T W R : Int → Int} {tl rl im : Int} (h : LC m A B T W R tl rl im) : NN m := h.2.2.1
theorem LC.rw1 {m : HM} {A B T W R : Int → Int} {tl rl im : Int} (h : LC m A B T W R tl rl im) : m 0 0 0 10 = rl := h.2.2.2.1
theorem LC.rw2 {m : HM} {A B T W R : Int → Int} {tl rl im : Int} (h : LC m A B T W R tl rl im) : ∀ k, inN k rl → m 32 0 0 k = W k := h.2.2.2.2.1
theorem LC.rf {m : HM} {A B T W R : Int → Int} {tl rl im : Int} (h : LC m A B T W R tl rl im) : m 33 0 0 = R := h.2.2.2.2.2.1
theorem LC.im1 {m : HM} {A B T W R : Int → Int} {tl rl im : Int} (h : LC m A B T W R tl rl im) : m 0 0 0 4 = im := h.2.2.2.2.2.2.1
theorem LC.im2 {m : HM} {A B T W R : Int → Int} {tl rl im : Int} (h : LC m A B T W R tl rl im) : im ≠ 0 → RelV m 2 B := h.2.2.2.2.2.2.2.1
theorem LC.qv {m : HM} {A B T W R : Int → Int} {tl rl im : Int} (h : LC m A B T W R tl rl im) : m 23 0 0 6 = 0 ∨ QV m A := h.2.2.2.2.2.2.2.2
/-- the reference's side -/
def LM (m : HM) (A B T W R : Int → Int) (tl rl im : Int) : Prop :=
  (m 42 0 0 = A) ∧ (m 43 0 0 = B) ∧ (TpM m T tl) ∧ (m 40 0 0 19 = rl) ∧ (∀ k, inN k rl → m 52 0 0 k = W k) ∧ (m 41 0 0 = R) ∧ (m 40 0 0 4 = im)
theorem LM.s {m : HM} {A B T W R : Int → Int} {tl rl im : Int} (h : LM m A B T W R tl rl im) : m 42 0 0 = A := h.1
theorem LM.b {m : HM} {A B T W R : Int → Int} {tl rl im : Int} (h : LM m A B T W R tl rl im) : m 43 0 0 = B := h.2.1
theorem LM.tp {m : HM} {A B T W R : Int → Int} {tl rl im : Int} (h : LM m A B T W R tl rl im) : TpM m T tl := h.2.2.1
theorem LM.rw1 {m : HM} {A B T W R : Int → Int} {tl rl im : Int} (h : LM m A B T W R tl rl im) : m 40 0 0 19 = rl := h.2.2.2.1
theorem LM.rw2 {m : HM} {A B T W R : Int → Int} {tl rl im : Int} (h : LM m A B T W R tl rl im) : ∀ k, inN k rl → m 52 0 0 k = W k := h.2.2.2.2.1
theorem LM.rf {m : HM} {A B T W R : Int → Int} {tl rl im : Int} (h : LM m A B T W R tl rl im) : m 41 0 0 = R := h.2.2.2.2.2.1
theorem LM.im1 {m : HM} {A B T W R : Int → Int} {tl rl im : Int} (h : LM m A B T W R tl rl im) : m 40 0 0 4 = im := h.2.2.2.2.2.2
/-- what holds of both after q calls -/
def LK (A B W R : Int → Int) (rl im q : Int) : Prop :=
  (InvA A (600 * q) (7200 * q)) ∧ (InvS A) ∧ (im ≠ 0 → InvA B (600 * q) (7200 * q) ∧ InvS B) ∧ (∀ k, inN k rl → 0 ≤ W k ∧ W k ≤ 99) ∧ (0 ≤ rl ∧ rl ≤ 12) ∧ (∀ k, R k ≤ q) ∧ (0 ≤ q ∧ q ≤ 520)
theorem LK.ia {A B W R : Int → Int} {rl im q : Int} (h : LK A B W R rl im q) : InvA A (600 * q) (7200 * q) := h.1
theorem LK.is {A B W R : Int → Int} {rl im q : Int} (h : LK A B W R rl im q) : InvS A := h.2.1
theorem LK.ib {A B W R : Int → Int} {rl im q : Int} (h : LK A B W R rl im q) : im ≠ 0 → InvA B (600 * q) (7200 * q) ∧ InvS B := h.2.2.1
theorem LK.wb {A B W R : Int → Int} {rl im q : Int} (h : LK A B W R rl im q) : ∀ k, inN k rl → 0 ≤ W k ∧ W k ≤ 99 := h.2.2.2.1
theorem LK.rl1 {A B W R : Int → Int} {rl im q : Int} (h : LK A B W R rl im q) : 0 ≤ rl ∧ rl ≤ 12 := h.2.2.2.2.1
theorem LK.rb {A B W R : Int → Int} {rl im q : Int} (h : LK A B W R rl im q) : ∀ k, R k ≤ q := h.2.2.2.2.2.1
theorem LK.q1 {A B W R : Int → Int} {rl im q : Int} (h : LK A B W R rl im q) : 0 ≤ q ∧ q ≤ 520 := h.2.2.2.2.2.2
def LI (q : Int) (m : HM) : Prop := ∃ (A B T W R : Int → Int) (tl rl im : Int), LK A B W R rl im q ∧ LC m A B T W R tl rl im ∧ LM m A B T W R tl rl im
/-- cells of the reference as they were -/
def KM (m m' : HM) : Prop := ∀ t v i, 40 ≤ t → m' t v i = m t v i
/-- cells of the class as they were -/
def KC (m m' : HM) : Prop := ∀ t v i, t < 40 → m' t v i = m t v i
section LL
variable {m m' m1 m2 : HM} {A B T W R A' B' T' W' R' : Int → Int} {tl rl im q C D : Int}
theorem LM.keep (h : LM m A B T W R tl rl im) (k : KM m m') : LM m' A B T W R tl rl im :=
  ⟨by rw [k 42 0 0 (by omega)]; exact h.s, by rw [k 43 0 0 (by omega)]; exact h.b, ⟨⟨by rw [k 40 0 0 (by omega)]; exact h.tp.1.1, fun j hj => by rw [k 45 0 0 (by omega)]; exact h.tp.1.2 j hj⟩, h.tp.2⟩, by rw [k 40 0 0 (by omega)]; exact h.rw1, fun j hj => by rw [k 52 0 0 (by omega)]; exact h.rw2 j hj, by rw [k 41 0 0 (by omega)]; exact h.rf, by rw [k 40 0 0 (by omega)]; exact h.im1⟩
theorem RelV.keepC {v : Int} (h : RelV m v A) (k : ∀ t i, t < 14 → m' t v i = m t v i) : RelV m' v A := h.keep (k 1 0 (by omega)) (fun i => k 3 i (by omega)) (fun i => k 9 i (by omega)) (fun i => k 10 i (by omega)) (fun i => k 11 i (by omega)) (fun i => k 12 i (by omega)) (fun i => k 13 i (by omega))
theorem LC.keep (h : LC m A B T W R tl rl im) (k : KC m m') : LC m' A B T W R tl rl im :=
  ⟨h.rel.keepC (fun t i ht => k t 0 i (by omega)), ⟨⟨by rw [k 14 0 0 (by omega)]; exact h.tp.1.1, fun j hj => by rw [k 15 0 0 (by omega)]; exact h.tp.1.2 j hj⟩, h.tp.2⟩, fun j hj => by rw [k 16 0 0 (by omega)]; exact h.nn j hj, by rw [k 0 0 0 (by omega)]; exact h.rw1, fun j hj => by rw [k 32 0 0 (by omega)]; exact h.rw2 j hj, by rw [k 33 0 0 (by omega)]; exact h.rf, by rw [k 0 0 0 (by omega)]; exact h.im1, fun hi => (h.im2 hi).keepC (fun t i ht => k t 2 i (by omega)), by
    rw [k 23 0 0 (by omega)]
    exact h.qv.imp id (fun hq => by unfold QV at *; rw [k 23 0 0 (by omega), k 28 0 0 (by omega)]; exact ⟨hq.1, hq.2.1, fun p w hp hw => by rw [k 25 0 _ (by omega)]; exact hq.2.2 p w hp hw⟩)⟩
theorem LK.mono (h : LK A B W R rl im q) (hq : q < 520) : LK A B W R rl im (q + 1) :=
  ⟨h.ia.mono (by omega) (by omega), h.is, fun hi => ⟨(h.ib hi).1.mono (by omega) (by omega), (h.ib hi).2⟩, h.wb, h.rl1, fun k => by have := h.rb k; omega, by have := h.q1; omega⟩
theorem LC.few (h : LC m A B T W R tl rl im) (hk : LK A B W R rl im q) : few33 m := fun k _ => by rw [h.rf]; have := hk.rb k; have := hk.q1; omega
theorem LM.few (h : LM m A B T W R tl rl im) (hk : LK A B W R rl im q) : few41 m := fun k _ => by rw [h.rf]; have := hk.rb k; have := hk.q1; omega
/-- the refusals after one more -/
def rfU (R : Int → Int) (x : Int) : Int → Int := st1 R (-x) (R (-x) + 1)
theorem LK.ref (h : LK A B W R rl im q) (hq : q < 520) (x : Int) : LK A B W (rfU R x) rl im (q + 1) := by
  have h1 := h.mono hq
  refine ⟨h1.ia, h1.is, h1.ib, h1.wb, h1.rl1, fun k => ?_, h1.q1⟩
  unfold rfU
  by_cases e : k = -x
  · rw [e, st1_eq]; have := h.rb (-x); omega
  · rw [st1_ne e]; have := h.rb k; omega
theorem LC.frx (h : LC m A B T W R tl rl im) (f : FrX m m') : LC m' A B T W R tl rl im := by
  have k : ∀ t v i, ¬ (t = 5 ∨ (17 ≤ t ∧ t ≤ 19) ∨ t = 22 ∨ t = 27 ∨ t = 30 ∨ t = 31) → m' t v i = m t v i := f
  exact ⟨h.rel.frX f, ⟨⟨by rw [k 14 0 0 (by omega)]; exact h.tp.1.1, fun j hj => by rw [k 15 0 0 (by omega)]; exact h.tp.1.2 j hj⟩, h.tp.2⟩, fun j hj => by rw [k 16 0 0 (by omega)]; exact h.nn j hj, by rw [k 0 0 0 (by omega)]; exact h.rw1, fun j hj => by rw [k 32 0 0 (by omega)]; exact h.rw2 j hj, by rw [k 33 0 0 (by omega)]; exact h.rf, by rw [k 0 0 0 (by omega)]; exact h.im1, fun hi => (h.im2 hi).frX f, by
    rw [k 23 0 0 (by omega)]
    exact h.qv.imp id (fun hq => by unfold QV at *; rw [k 23 0 0 (by omega), k 28 0 0 (by omega)]; exact ⟨hq.1, hq.2.1, fun p w hp hw => by rw [k 25 0 _ (by omega)]; exact hq.2.2 p w hp hw⟩)⟩
theorem LC.ref (h : LC m A B T W R tl rl im) (x : Int) : LC (refM m 33 x) A B T W (rfU R x) tl rl im := by
  have k : ∀ t v i, t ≠ 33 → refM m 33 x t v i = m t v i := fun t v i ht => upr_tag ht
  exact ⟨h.rel.keepC (fun t i ht => k t 0 i (by omega)), ⟨⟨by rw [k 14 0 0 (by omega)]; exact h.tp.1.1, fun j hj => by rw [k 15 0 0 (by omega)]; exact h.tp.1.2 j hj⟩, h.tp.2⟩, fun j hj => by rw [k 16 0 0 (by omega)]; exact h.nn j hj, by rw [k 0 0 0 (by omega)]; exact h.rw1, fun j hj => by rw [k 32 0 0 (by omega)]; exact h.rw2 j hj, by
    unfold refM
    rw [upr_eq, h.rf]
    rfl, by rw [k 0 0 0 (by omega)]; exact h.im1, fun hi => (h.im2 hi).keepC (fun t i ht => k t 2 i (by omega)), by
    rw [k 23 0 0 (by omega)]
    exact h.qv.imp id (fun hq => by unfold QV at *; rw [k 23 0 0 (by omega), k 28 0 0 (by omega)]; exact ⟨hq.1, hq.2.1, fun p w hp hw => by rw [k 25 0 _ (by omega)]; exact hq.2.2 p w hp hw⟩)⟩
theorem LM.frq (h : LM m A B T W R tl rl im) (f : FrQ m m') : LM m' A B T W R tl rl im := by
  have k : ∀ t v i, ¬ (t = 44 ∨ (46 ≤ t ∧ t ≤ 51)) → t ≠ 40 → m' t v i = m t v i := f.1
  exact ⟨by rw [k 42 0 0 (by omega) (by omega)]; exact h.s, by rw [k 43 0 0 (by omega) (by omega)]; exact h.b, ⟨⟨by rw [f.2 7 (by omega)]; exact h.tp.1.1, fun j hj => by rw [k 45 0 0 (by omega) (by omega)]; exact h.tp.1.2 j hj⟩, h.tp.2⟩, by rw [f.2 19 (by omega)]; exact h.rw1, fun j hj => by rw [k 52 0 0 (by omega) (by omega)]; exact h.rw2 j hj, by rw [k 41 0 0 (by omega) (by omega)]; exact h.rf, by rw [f.2 4 (by omega)]; exact h.im1⟩
theorem LM.ref (h : LM m A B T W R tl rl im) (x : Int) : LM (refM m 41 x) A B T W (rfU R x) tl rl im := by
  have k : ∀ t v i, t ≠ 41 → refM m 41 x t v i = m t v i := fun t v i ht => upr_tag ht
  exact ⟨by rw [k 42 0 0 (by omega)]; exact h.s, by rw [k 43 0 0 (by omega)]; exact h.b, ⟨⟨by rw [k 40 0 0 (by omega)]; exact h.tp.1.1, fun j hj => by rw [k 45 0 0 (by omega)]; exact h.tp.1.2 j hj⟩, h.tp.2⟩, by rw [k 40 0 0 (by omega)]; exact h.rw1, fun j hj => by rw [k 52 0 0 (by omega)]; exact h.rw2 j hj, by
    unfold refM
    rw [upr_eq, h.rf]
    rfl, by rw [k 40 0 0 (by omega)]; exact h.im1⟩
theorem FrX.km (f : FrX m m') : KM m m' := fun t v i ht => f t v i (by omega)
theorem KM.tr (h : KM m m1) (h2 : KM m1 m') : KM m m' := fun t v i ht => (h2 t v i ht).trans (h t v i ht)
theorem KC.tr (h : KC m m1) (h2 : KC m1 m') : KC m m' := fun t v i ht => (h2 t v i ht).trans (h t v i ht)
theorem KM.ref {x : Int} : KM m (refM m 33 x) := fun t v i ht => upr_tag (by omega)
theorem KC.ref {x : Int} : KC m (refM m 41 x) := fun t v i ht => upr_tag (by omega)
theorem FrQ.kc (f : FrQ m m') : KC m m' := fun t v i ht => f.1 t v i (by omega) (by omega)
/-- both sides, from what each call leaves -/
theorem LI.mk2 (hk : LK A' B' W' R' rl im (q + 1)) (hc : LC m1 A' B' T' W' R' tl rl im) (km : KM m m1) (kc : KC m1 m2) (hm : LM m2 A' B' T' W' R' tl rl im) : LI (q + 1) m2 :=
  ⟨A', B', T', W', R', tl, rl, im, hk, hc.keep kc, hm⟩
/-- both refuse -/
theorem LI_ref {x : Int} (hk : LK A B W R rl im q) (hq : q < 520) (hc : LC m A B T W R tl rl im) (hm : LM m A B T W R tl rl im) (f1 : FrX (refM m 33 x) m1) (f2 : FrQ (refM m1 41 x) m2) : LI (q + 1) m2 :=
  LI.mk2 (hk.ref hq x) ((hc.ref x).frx f1) (KM.ref.tr f1.km) (KC.ref.tr f2.kc) (((hm.keep (KM.ref.tr f1.km)).ref x).frq f2)
/-- a question -/
theorem LI_q {ref ans r1 r2 : Int} (hk : LK A B W R rl im q) (hq : q < 520) (hc : LC m A B T W R tl rl im) (hm : LM m A B T W R tl rl im) (p1 : anX m ref ans (FrX m) r1 m1) (p2 : anQ m1 ref ans (FrQ m1) r2 m2) : r1 = r2 ∧ LI (q + 1) m2 := by
  rcases p1 with ⟨h0, rfl, f1⟩ | ⟨h0, rfl, f1⟩ <;> rcases p2 with ⟨g0, rfl, f2⟩ | ⟨g0, rfl, f2⟩
  · exact ⟨rfl, LI_ref hk hq hc hm f1 f2⟩
  · exact absurd g0 h0
  · exact absurd h0 g0
  · exact ⟨rfl, LI.mk2 (hk.mono hq) (hc.frx f1) f1.km f2.kc ((hm.keep f1.km).frq f2)⟩
theorem FrXV.km (f : FrXV m m') : KM m m' := fun t v i ht => f t v i (by omega) (by omega)
theorem LC.ptP (h : LC m A B T W R tl rl im) (hI : InvA A C D) (hA : ∀ k, k < 99 → A' k = A k) (p : ptP m A' m') : LC m' A' B T W R tl rl im := by
  obtain ⟨f, hr⟩ := p
  have k : ∀ t v i, ¬ (t = 5 ∨ (17 ≤ t ∧ t ≤ 19) ∨ t = 22 ∨ t = 27 ∨ t = 30 ∨ t = 31) → ¬ (1 ≤ t ∧ t ≤ 13 ∧ v = 0) → m' t v i = m t v i := f
  have k14 : ∀ t v i, 14 ≤ t → ¬ ((17 ≤ t ∧ t ≤ 19) ∨ t = 22 ∨ t = 27 ∨ t = 30 ∨ t = 31) → m' t v i = m t v i := fun t v i a b => k t v i (by omega) (by omega)
  exact ⟨hr, ⟨⟨by rw [k14 14 0 0 (by omega) (by omega)]; exact h.tp.1.1, fun j hj => by rw [k14 15 0 0 (by omega) (by omega)]; exact h.tp.1.2 j hj⟩, h.tp.2⟩, fun j hj => by rw [k14 16 0 0 (by omega) (by omega)]; exact h.nn j hj, by rw [k 0 0 0 (by omega) (by omega)]; exact h.rw1, fun j hj => by rw [k14 32 0 0 (by omega) (by omega)]; exact h.rw2 j hj, by rw [k14 33 0 0 (by omega) (by omega)]; exact h.rf, by rw [k 0 0 0 (by omega) (by omega)]; exact h.im1, fun hi => (h.im2 hi).keep (k 1 2 0 (by omega) (by omega)) (fun i => k 3 2 i (by omega) (by omega)) (fun i => k 9 2 i (by omega) (by omega)) (fun i => k 10 2 i (by omega) (by omega)) (fun i => k 11 2 i (by omega) (by omega)) (fun i => k 12 2 i (by omega) (by omega)) (fun i => k 13 2 i (by omega) (by omega)), by
    rcases h.qv with h1 | h1
    · exact Or.inl (by rw [k14 23 0 0 (by omega) (by omega)]; exact h1)
    · exact Or.inr (h1.cg hI hA (k14 23 0 0 (by omega) (by omega)) (fun i => k14 25 0 i (by omega) (by omega)) (k14 28 0 0 (by omega) (by omega)))⟩
theorem LM.fra (h : LM m A B T W R tl rl im) (p : FrA m A' m') : LM m' A' B T W R tl rl im := by
  have k : ∀ t v i, t ≠ 42 → upr m 42 0 0 A' t v i = m t v i := fun t v i ht => upr_tag ht
  have h1 : LM (upr m 42 0 0 A') A' B T W R tl rl im := ⟨upr_eq _ _ _ _ _, by rw [k 43 0 0 (by omega)]; exact h.b, ⟨⟨by rw [k 40 0 0 (by omega)]; exact h.tp.1.1, fun j hj => by rw [k 45 0 0 (by omega)]; exact h.tp.1.2 j hj⟩, h.tp.2⟩, by rw [k 40 0 0 (by omega)]; exact h.rw1, fun j hj => by rw [k 52 0 0 (by omega)]; exact h.rw2 j hj, by rw [k 41 0 0 (by omega)]; exact h.rf, by rw [k 40 0 0 (by omega)]; exact h.im1⟩
  exact h1.frq p
/-- a call that changes parts -/
theorem LI_p {ref ans r1 r2 : Int} (hk : LK A B W R rl im q) (hq : q < 520) (hc : LC m A B T W R tl rl im) (hm : LM m A B T W R tl rl im) (hA : ref = 0 → ∀ k, k < 99 → A' k = A k) (hI' : ref = 0 → InvA A' (600 * (q + 1)) (7200 * (q + 1)) ∧ InvS A') (p1 : anX m ref ans (ptP m A') r1 m1) (p2 : anQ m1 ref ans (FrA m1 A') r2 m2) : r1 = r2 ∧ LI (q + 1) m2 := by
  rcases p1 with ⟨h0, rfl, f1⟩ | ⟨h0, rfl, f1⟩ <;> rcases p2 with ⟨g0, rfl, f2⟩ | ⟨g0, rfl, f2⟩
  · exact ⟨rfl, LI_ref hk hq hc hm f1 f2⟩
  · exact absurd g0 h0
  · exact absurd h0 g0
  · have k2 : KC m1 m2 := fun t v i ht => (f2.1 t v i (by omega) (by omega)).trans (upr_tag (by omega))
    have hk1 := hk.mono hq
    exact ⟨rfl, LI.mk2 ⟨(hI' h0).1, (hI' h0).2, hk1.ib, hk1.wb, hk1.rl1, hk1.rb, hk1.q1⟩ (hc.ptP hk.ia (hA h0) f1) f1.1.km k2 ((hm.keep f1.1.km).fra f2)⟩
end LL
