/-! ===== 39e: the law's invariant over the other calls ===== -/
section LL
variable {m m' m1 m2 : HM} {A B T W R A' B' T' W' R' : Int → Int} {tl rl im q C D : Int}
theorem RelV.keepC' {v : Int} (h : RelV m v A) (k : ∀ t i, 1 ≤ t → t < 14 → m' t v i = m t v i) : RelV m' v A := h.keep (k 1 0 (by omega) (by omega)) (fun i => k 3 i (by omega) (by omega)) (fun i => k 9 i (by omega) (by omega)) (fun i => k 10 i (by omega) (by omega)) (fun i => k 11 i (by omega) (by omega)) (fun i => k 12 i (by omega) (by omega)) (fun i => k 13 i (by omega) (by omega))
theorem FrQu.km (f : FrQu m m') : KM m m' := fun t v i ht => f t v i (by omega) (by omega) (by omega) (by omega) (by omega)
theorem LC.frqu (h : LC m A B T W R tl rl im) (f : FrQu m m') (hq : QV m' A) : LC m' A B T W R tl rl im := by
  have k : ∀ t v i, ¬ (17 ≤ t ∧ t ≤ 28) → m' t v i = m t v i := fun t v i ht => f t v i (by omega) (by omega) (by omega) (by omega) (by omega)
  exact ⟨h.rel.frQu f, ⟨⟨by rw [k 14 0 0 (by omega)]; exact h.tp.1.1, fun j hj => by rw [k 15 0 0 (by omega)]; exact h.tp.1.2 j hj⟩, h.tp.2⟩, fun j hj => by rw [k 16 0 0 (by omega)]; exact h.nn j hj, by rw [k 0 0 0 (by omega)]; exact h.rw1, fun j hj => by rw [k 32 0 0 (by omega)]; exact h.rw2 j hj, by rw [k 33 0 0 (by omega)]; exact h.rf, by rw [k 0 0 0 (by omega)]; exact h.im1, fun hi => (h.im2 hi).frQu f, Or.inr hq⟩
/-- best and quarters -/
theorem LI_b {ref r1 r2 : Int} {f : Int × (Int → Int) → Int} (hk : LK A B W R rl im q) (hq : q < 520) (hc : LC m A B T W R tl rl im) (hm : LM m A B T W R tl rl im) (h3 : ref = 0 → few3 A) (p1 : anXB m A ref f r1 m1) (p2 : anB m1 A ref f r2 m2) : r1 = r2 ∧ LI (q + 1) m2 := by
  rcases p1 with ⟨h0, rfl, f1⟩ | ⟨h0, rfl, f1, hqv⟩ <;> rcases p2 with ⟨g0, rfl, f2⟩ | ⟨g0, ⟨z, rfl⟩, f2⟩
  · exact ⟨rfl, LI_ref hk hq hc hm f1 f2⟩
  · exact absurd g0 h0
  · exact absurd h0 g0
  · exact ⟨by rw [bestF_z (z := zF) (z' := z) hk.ia (h3 h0)], LI.mk2 (hk.mono hq) (hc.frqu f1 hqv) f1.km f2.kc ((hm.keep f1.km).frq f2)⟩
/-- a question that is never refused -/
theorem LI_n {ans ans2 r1 r2 : Int} (hk : LK A B W R rl im q) (hq : q < 520) (hc : LC m A B T W R tl rl im) (hm : LM m A B T W R tl rl im) (he : ans = ans2) (p1 : r1 = ans ∧ FrX m m1) (p2 : r2 = ans2 ∧ FrQ m1 m2) : r1 = r2 ∧ LI (q + 1) m2 :=
  ⟨by rw [p1.1, p2.1, he], LI.mk2 (hk.mono hq) (hc.frx p1.2) p1.2.km p2.2.kc ((hm.keep p1.2.km).frq p2.2)⟩
theorem LI_ch {x : Int} (hk : LK A B W R rl im q) (hq : q < 520) (hc : LC m A B T W R tl rl im) (hm : LM m A B T W R tl rl im) (e1 : m1 = if x = 0 then m else refM m 33 x) (e2 : m2 = chM m1 x) : LI (q + 1) m2 := by
  unfold chM at e2
  by_cases h : x = 0
  · rw [if_pos h] at e1 e2
    subst e1; subst e2
    exact ⟨A, B, T, W, R, tl, rl, im, hk.mono hq, hc, hm⟩
  · rw [if_neg h] at e1 e2
    subst e1; subst e2
    exact LI_ref hk hq hc hm FrX.rf FrQ.rf
theorem LI_feed {x r1 r2 : Int} (hk : LK A B W R rl im q) (hq : q < 520) (hc : LC m A B T W R tl rl im) (hm : LM m A B T W R tl rl im) (p1 : anX m (rfFeed tl x) (tl + 1) (fun m' => m' = upr (upr m 15 0 0 (st1 (m 15 0 0) tl x)) 14 0 0 (st1 (m 14 0 0) 1 (tl + 1))) r1 m1) (p2 : anQ m1 (rfFeed tl x) (tl + 1) (fun m' => m' = upr (upr m1 45 0 0 (st1 (m1 45 0 0) tl x)) 40 0 0 (st1 (m1 40 0 0) 7 (tl + 1))) r2 m2) : r1 = r2 ∧ LI (q + 1) m2 := by
  rcases p1 with ⟨h0, rfl, f1⟩ | ⟨h0, rfl, f1⟩ <;> rcases p2 with ⟨g0, rfl, f2⟩ | ⟨g0, rfl, f2⟩
  · exact ⟨rfl, LI_ref hk hq hc hm f1 f2⟩
  · exact absurd g0 h0
  · exact absurd h0 g0
  · refine ⟨rfl, ?_⟩
    have hx : 0 ≤ x ∧ x ≤ 255 ∧ tl ≠ 64 := by
      unfold rfFeed at h0
      split at h0
      · omega
      · split at h0
        · omega
        · split at h0 <;> omega
    have ht := hc.tp.2
    have k1 : ∀ t v i, t ≠ 14 → t ≠ 15 → m1 t v i = m t v i := fun t v i a b => by rw [f1, upr_tag a, upr_tag b]
    have k2 : ∀ t v i, t ≠ 40 → t ≠ 45 → m2 t v i = m1 t v i := fun t v i a b => by rw [f2, upr_tag a, upr_tag b]
    have e14 : m1 14 0 0 = st1 (m 14 0 0) 1 (tl + 1) := by rw [f1, upr_eq]
    have e15 : m1 15 0 0 = st1 (m 15 0 0) tl x := by rw [f1, upr_tag (by decide), upr_eq]
    have e40 : m2 40 0 0 = st1 (m1 40 0 0) 7 (tl + 1) := by rw [f2, upr_eq]
    have e45 : m2 45 0 0 = st1 (m1 45 0 0) tl x := by rw [f2, upr_tag (by decide), upr_eq]
    have hT : ∀ F : Int → Int, (∀ j, inN j tl → F j = T j) → ∀ j, inN j (tl + 1) → st1 F tl x j = st1 T tl x j := fun F hF j hj => by
      by_cases e : j = tl
      · rw [e, st1_eq, st1_eq]
      · rw [st1_ne e, st1_ne e]; exact hF j (by omega)
    have tp2 : (0 ≤ tl + 1 ∧ tl + 1 ≤ 64) ∧ ∀ j, inN j (tl + 1) → 0 ≤ st1 T tl x j ∧ st1 T tl x j ≤ 255 := ⟨by omega, fun j hj => by
      by_cases e : j = tl
      · rw [e, st1_eq]; omega
      · rw [st1_ne e]; exact ht.2 j (by omega)⟩
    refine LI.mk2 (T' := st1 T tl x) (tl := tl + 1) (hk.mono hq) (m := m) (m1 := m1) ⟨hc.rel.keepC (fun t i h => k1 t 0 i (by omega) (by omega)), ⟨⟨by rw [e14, st1_eq], fun j hj => by rw [e15]; exact hT _ hc.tp.1.2 j hj⟩, tp2⟩, fun j hj => by rw [k1 16 0 0 (by omega) (by omega)]; exact hc.nn j hj, by rw [k1 0 0 0 (by omega) (by omega)]; exact hc.rw1, fun j hj => by rw [k1 32 0 0 (by omega) (by omega)]; exact hc.rw2 j hj, by rw [k1 33 0 0 (by omega) (by omega)]; exact hc.rf, by rw [k1 0 0 0 (by omega) (by omega)]; exact hc.im1, fun hi => (hc.im2 hi).keepC (fun t i h => k1 t 2 i (by omega) (by omega)), ?_⟩ (fun t v i h => k1 t v i (by omega) (by omega)) (fun t v i h => k2 t v i (by omega) (by omega)) ?_
    · exact hc.qv.imp (fun h => by rw [k1 23 0 0 (by omega) (by omega)]; exact h) (fun h => by unfold QV at *; rw [k1 23 0 0 (by omega) (by omega), k1 28 0 0 (by omega) (by omega)]; exact ⟨h.1, h.2.1, fun p w hp hw => by rw [k1 25 0 _ (by omega) (by omega)]; exact h.2.2 p w hp hw⟩)
    · have hm1 : LM m1 A B T W R tl rl im := hm.keep (fun t v i h => k1 t v i (by omega) (by omega))
      exact ⟨by rw [k2 42 0 0 (by omega) (by omega)]; exact hm1.s, by rw [k2 43 0 0 (by omega) (by omega)]; exact hm1.b, ⟨⟨by rw [e40, st1_eq], fun j hj => by rw [e45]; exact hT _ hm1.tp.1.2 j hj⟩, tp2⟩, by rw [e40, st1_ne (by omega)]; exact hm1.rw1, fun j hj => by rw [k2 52 0 0 (by omega) (by omega)]; exact hm1.rw2 j hj, by rw [k2 41 0 0 (by omega) (by omega)]; exact hm1.rf, by rw [e40, st1_ne (by omega)]; exact hm1.im1⟩
theorem LI_row {x r1 r2 : Int} (hk : LK A B W R rl im q) (hq : q < 520) (hc : LC m A B T W R tl rl im) (hm : LM m A B T W R tl rl im) (p1 : anX m (rfRow rl x) (rl + 1) (fun m' => m' = upr (upr m 32 0 0 (st1 (m 32 0 0) rl x)) 0 0 0 (st1 (m 0 0 0) 10 (rl + 1))) r1 m1) (p2 : anQ m1 (rfRow rl x) (rl + 1) (fun m' => m' = upr (upr m1 52 0 0 (st1 (m1 52 0 0) rl x)) 40 0 0 (st1 (m1 40 0 0) 19 (rl + 1))) r2 m2) : r1 = r2 ∧ LI (q + 1) m2 := by
  rcases p1 with ⟨h0, rfl, f1⟩ | ⟨h0, rfl, f1⟩ <;> rcases p2 with ⟨g0, rfl, f2⟩ | ⟨g0, rfl, f2⟩
  · exact ⟨rfl, LI_ref hk hq hc hm f1 f2⟩
  · exact absurd g0 h0
  · exact absurd h0 g0
  · refine ⟨rfl, ?_⟩
    have hx : 0 ≤ x ∧ x ≤ 99 ∧ rl ≠ 12 := by
      unfold rfRow at h0
      split at h0
      · omega
      · split at h0
        · omega
        · split at h0 <;> omega
    have hl := hk.rl1
    have k1 : ∀ t v i, t ≠ 0 → t ≠ 32 → m1 t v i = m t v i := fun t v i a b => by rw [f1, upr_tag a, upr_tag b]
    have k2 : ∀ t v i, t ≠ 40 → t ≠ 52 → m2 t v i = m1 t v i := fun t v i a b => by rw [f2, upr_tag a, upr_tag b]
    have e0 : m1 0 0 0 = st1 (m 0 0 0) 10 (rl + 1) := by rw [f1, upr_eq]
    have e32 : m1 32 0 0 = st1 (m 32 0 0) rl x := by rw [f1, upr_tag (by decide), upr_eq]
    have e40 : m2 40 0 0 = st1 (m1 40 0 0) 19 (rl + 1) := by rw [f2, upr_eq]
    have e52 : m2 52 0 0 = st1 (m1 52 0 0) rl x := by rw [f2, upr_tag (by decide), upr_eq]
    have hT : ∀ F : Int → Int, (∀ j, inN j rl → F j = W j) → ∀ j, inN j (rl + 1) → st1 F rl x j = st1 W rl x j := fun F hF j hj => by
      by_cases e : j = rl
      · rw [e, st1_eq, st1_eq]
      · rw [st1_ne e, st1_ne e]; exact hF j (by omega)
    have hk1 := hk.mono hq
    have hm1 : LM m1 A B T W R tl rl im := hm.keep (fun t v i h => k1 t v i (by omega) (by omega))
    refine LI.mk2 (W' := st1 W rl x) (rl := rl + 1) (m := m) (m1 := m1) ⟨hk1.ia, hk1.is, hk1.ib, fun j hj => ?_, by omega, hk1.rb, hk1.q1⟩ ⟨hc.rel.keepC' (fun t i h h2 => k1 t 0 i (by omega) (by omega)), ⟨⟨by rw [k1 14 0 0 (by omega) (by omega)]; exact hc.tp.1.1, fun j hj => by rw [k1 15 0 0 (by omega) (by omega)]; exact hc.tp.1.2 j hj⟩, hc.tp.2⟩, fun j hj => by rw [k1 16 0 0 (by omega) (by omega)]; exact hc.nn j hj, by rw [e0, st1_eq], fun j hj => by rw [e32]; exact hT _ hc.rw2 j hj, by rw [k1 33 0 0 (by omega) (by omega)]; exact hc.rf, by rw [e0, st1_ne (by omega)]; exact hc.im1, fun hi => (hc.im2 hi).keepC' (fun t i h h2 => k1 t 2 i (by omega) (by omega)), ?_⟩ (fun t v i h => k1 t v i (by omega) (by omega)) (fun t v i h => k2 t v i (by omega) (by omega)) ?_
    · by_cases e : j = rl
      · rw [e, st1_eq]; omega
      · rw [st1_ne e]; exact hk.wb j (by omega)
    · exact hc.qv.imp (fun h => by rw [k1 23 0 0 (by omega) (by omega)]; exact h) (fun h => by unfold QV at *; rw [k1 23 0 0 (by omega) (by omega), k1 28 0 0 (by omega) (by omega)]; exact ⟨h.1, h.2.1, fun p w hp hw => by rw [k1 25 0 _ (by omega) (by omega)]; exact h.2.2 p w hp hw⟩)
    · exact ⟨by rw [k2 42 0 0 (by omega) (by omega)]; exact hm1.s, by rw [k2 43 0 0 (by omega) (by omega)]; exact hm1.b, ⟨⟨by rw [e40, st1_ne (by omega)]; exact hm1.tp.1.1, fun j hj => by rw [k2 45 0 0 (by omega) (by omega)]; exact hm1.tp.1.2 j hj⟩, hm1.tp.2⟩, by rw [e40, st1_eq], fun j hj => by rw [e52]; exact hT _ hm1.rw2 j hj, by rw [k2 41 0 0 (by omega) (by omega)]; exact hm1.rf, by rw [e40, st1_ne (by omega)]; exact hm1.im1⟩
theorem LI_judge {ref ans r1 r2 : Int} (hk : LK A B W R rl im q) (hq : q < 520) (hc : LC m A B T W R tl rl im) (hm : LM m A B T W R tl rl im) (p1 : anX m ref ans (fun m' => m' = upr m 0 0 0 (st1 (m 0 0 0) 10 0)) r1 m1) (p2 : anQ m1 ref ans (fun m' => m' = upr m1 40 0 0 (st1 (m1 40 0 0) 19 0)) r2 m2) : r1 = r2 ∧ LI (q + 1) m2 := by
  rcases p1 with ⟨h0, rfl, f1⟩ | ⟨h0, rfl, f1⟩ <;> rcases p2 with ⟨g0, rfl, f2⟩ | ⟨g0, rfl, f2⟩
  · exact ⟨rfl, LI_ref hk hq hc hm f1 f2⟩
  · exact absurd g0 h0
  · exact absurd h0 g0
  · refine ⟨rfl, ?_⟩
    have k1 : ∀ t v i, t ≠ 0 → m1 t v i = m t v i := fun t v i a => by rw [f1, upr_tag a]
    have k2 : ∀ t v i, t ≠ 40 → m2 t v i = m1 t v i := fun t v i a => by rw [f2, upr_tag a]
    have e0 : m1 0 0 0 = st1 (m 0 0 0) 10 0 := by rw [f1, upr_eq]
    have e40 : m2 40 0 0 = st1 (m1 40 0 0) 19 0 := by rw [f2, upr_eq]
    have hk1 := hk.mono hq
    have hm1 : LM m1 A B T W R tl rl im := hm.keep (fun t v i h => k1 t v i (by omega))
    refine LI.mk2 (W' := W) (rl := 0) (m := m) (m1 := m1) ⟨hk1.ia, hk1.is, hk1.ib, fun j hj => by omega, by omega, hk1.rb, hk1.q1⟩ ⟨hc.rel.keepC' (fun t i h h2 => k1 t 0 i (by omega)), ⟨⟨by rw [k1 14 0 0 (by omega)]; exact hc.tp.1.1, fun j hj => by rw [k1 15 0 0 (by omega)]; exact hc.tp.1.2 j hj⟩, hc.tp.2⟩, fun j hj => by rw [k1 16 0 0 (by omega)]; exact hc.nn j hj, by rw [e0, st1_eq], fun j hj => by omega, by rw [k1 33 0 0 (by omega)]; exact hc.rf, by rw [e0, st1_ne (by omega)]; exact hc.im1, fun hi => (hc.im2 hi).keepC' (fun t i h h2 => k1 t 2 i (by omega)), ?_⟩ (fun t v i h => k1 t v i (by omega)) (fun t v i h => k2 t v i (by omega)) ?_
    · exact hc.qv.imp (fun h => by rw [k1 23 0 0 (by omega)]; exact h) (fun h => by unfold QV at *; rw [k1 23 0 0 (by omega), k1 28 0 0 (by omega)]; exact ⟨h.1, h.2.1, fun p w hp hw => by rw [k1 25 0 _ (by omega)]; exact h.2.2 p w hp hw⟩)
    · exact ⟨by rw [k2 42 0 0 (by omega)]; exact hm1.s, by rw [k2 43 0 0 (by omega)]; exact hm1.b, ⟨⟨by rw [e40, st1_ne (by omega)]; exact hm1.tp.1.1, fun j hj => by rw [k2 45 0 0 (by omega)]; exact hm1.tp.1.2 j hj⟩, hm1.tp.2⟩, by rw [e40, st1_eq], fun j hj => by omega, by rw [k2 41 0 0 (by omega)]; exact hm1.rf, by rw [e40, st1_ne (by omega)]; exact hm1.im1⟩
end LL
