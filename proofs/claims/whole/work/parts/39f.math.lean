/-! ===== 39f: the law's invariant over image, on, village; at the start ===== -/
section LL
variable {m m' m1 m2 : HM} {A B T W R A' B' T' W' R' : Int → Int} {tl rl im q C D : Int}
theorem LI_image {r1 r2 : Int} (hk : LK A B W R rl im q) (hq : q < 520) (hc : LC m A B T W R tl rl im) (hm : LM m A B T W R tl rl im) (p1 : r1 = cntI (aIs A) 24 ∧ (∀ t v i, ¬ (1 ≤ t ∧ t ≤ 13 ∧ v = 2) → t ≠ 0 → m1 t v i = m t v i) ∧ m1 0 0 0 = st1 (m 0 0 0) 4 1 ∧ RelV m1 2 A) (p2 : r2 = cntI (aIs A) 24 ∧ m2 = upr (upr m1 43 0 0 (lay B 0 267 A)) 40 0 0 (st1 (m1 40 0 0) 4 1)) : r1 = r2 ∧ LI (q + 1) m2 := by
  obtain ⟨rfl, k1, e0, hR⟩ := p1
  obtain ⟨rfl, f2⟩ := p2
  refine ⟨rfl, ?_⟩
  have k2 : ∀ t v i, t ≠ 40 → t ≠ 43 → m2 t v i = m1 t v i := fun t v i a b => by rw [f2, upr_tag a, upr_tag b]
  have e40 : m2 40 0 0 = st1 (m1 40 0 0) 4 1 := by rw [f2, upr_eq]
  have e43 : m2 43 0 0 = lay B 0 267 A := by rw [f2, upr_tag (by decide), upr_eq]
  have hk1 := hk.mono hq
  have cg := lay_267 B A
  have hm1 : LM m1 A B T W R tl rl im := hm.keep (fun t v i h => k1 t v i (by omega) (by omega))
  refine LI.mk2 (B' := lay B 0 267 A) (im := 1) (m := m) (m1 := m1) ⟨hk1.ia, hk1.is, fun _ => ⟨InvA_cg cg hk1.ia, InvS_cg cg hk1.ia hk1.is⟩, hk1.wb, hk1.rl1, hk1.rb, hk1.q1⟩ ⟨hc.rel.keepC' (fun t i h h2 => k1 t 0 i (by omega) (by omega)), ⟨⟨by rw [k1 14 0 0 (by omega) (by omega)]; exact hc.tp.1.1, fun j hj => by rw [k1 15 0 0 (by omega) (by omega)]; exact hc.tp.1.2 j hj⟩, hc.tp.2⟩, fun j hj => by rw [k1 16 0 0 (by omega) (by omega)]; exact hc.nn j hj, by rw [e0, st1_ne (by omega)]; exact hc.rw1, fun j hj => by rw [k1 32 0 0 (by omega) (by omega)]; exact hc.rw2 j hj, by rw [k1 33 0 0 (by omega) (by omega)]; exact hc.rf, by rw [e0, st1_eq], fun _ => RelV_cg cg hk.ia hR, ?_⟩ (fun t v i h => k1 t v i (by omega) (by omega)) (fun t v i h => k2 t v i (by omega) (by omega)) ?_
  · exact hc.qv.imp (fun h => by rw [k1 23 0 0 (by omega) (by omega)]; exact h) (fun h => by unfold QV at *; rw [k1 23 0 0 (by omega) (by omega), k1 28 0 0 (by omega) (by omega)]; exact ⟨h.1, h.2.1, fun p w hp hw => by rw [k1 25 0 _ (by omega) (by omega)]; exact h.2.2 p w hp hw⟩)
  · exact ⟨by rw [k2 42 0 0 (by omega) (by omega)]; exact hm1.s, e43, ⟨⟨by rw [e40, st1_ne (by omega)]; exact hm1.tp.1.1, fun j hj => by rw [k2 45 0 0 (by omega) (by omega)]; exact hm1.tp.1.2 j hj⟩, hm1.tp.2⟩, by rw [e40, st1_ne (by omega)]; exact hm1.rw1, fun j hj => by rw [k2 52 0 0 (by omega) (by omega)]; exact hm1.rw2 j hj, by rw [k2 41 0 0 (by omega) (by omega)]; exact hm1.rf, by rw [e40, st1_eq]⟩
theorem LI_on {r1 r2 : Int} (hk : LK A B W R rl im q) (hq : q < 520) (hc : LC m A B T W R tl rl im) (hm : LM m A B T W R tl rl im) (p1 : anX m (rfOn im) (cntI (aIs B) 24) (fun m' => (∀ t v i, ¬ (1 ≤ t ∧ t ≤ 13 ∧ v = 0) → t ≠ 23 → m' t v i = m t v i) ∧ m' 23 0 0 6 = 0 ∧ RelV m' 0 B) r1 m1) (p2 : anQ m1 (rfOn im) (cntI (aIs (lay A 0 267 B)) 24) (fun m' => m' = upr m1 42 0 0 (lay A 0 267 B)) r2 m2) : r1 = r2 ∧ LI (q + 1) m2 := by
  have cg := lay_267 A B
  have he : cntI (aIs (lay A 0 267 B)) 24 = cntI (aIs B) 24 := cntI_congr (fun i a b => by
    have e : aP (lay A 0 267 B) i 0 = aP B i 0 := cg _ (by omega)
    unfold aIs
    rw [e])
  rcases p1 with ⟨h0, rfl, f1⟩ | ⟨h0, rfl, k1, e23, hR⟩ <;> rcases p2 with ⟨g0, rfl, f2⟩ | ⟨g0, rfl, f2⟩
  · exact ⟨rfl, LI_ref hk hq hc hm f1 f2⟩
  · exact absurd g0 h0
  · exact absurd h0 g0
  · refine ⟨he.symm, ?_⟩
    have hi : im ≠ 0 := by
      intro e
      unfold rfOn at h0
      rw [if_pos e] at h0
      omega
    have k2 : ∀ t v i, t ≠ 42 → m2 t v i = m1 t v i := fun t v i a => by rw [f2, upr_tag a]
    have e42 : m2 42 0 0 = lay A 0 267 B := by rw [f2, upr_eq]
    have hk1 := hk.mono hq
    have hb := hk1.ib hi
    have hm1 : LM m1 A B T W R tl rl im := hm.keep (fun t v i h => k1 t v i (by omega) (by omega))
    refine LI.mk2 (A' := lay A 0 267 B) (m := m) (m1 := m1) ⟨InvA_cg cg hb.1, InvS_cg cg hb.1 hb.2, hk1.ib, hk1.wb, hk1.rl1, hk1.rb, hk1.q1⟩ ⟨RelV_cg cg hb.1 hR, ⟨⟨by rw [k1 14 0 0 (by omega) (by omega)]; exact hc.tp.1.1, fun j hj => by rw [k1 15 0 0 (by omega) (by omega)]; exact hc.tp.1.2 j hj⟩, hc.tp.2⟩, fun j hj => by rw [k1 16 0 0 (by omega) (by omega)]; exact hc.nn j hj, by rw [k1 0 0 0 (by omega) (by omega)]; exact hc.rw1, fun j hj => by rw [k1 32 0 0 (by omega) (by omega)]; exact hc.rw2 j hj, by rw [k1 33 0 0 (by omega) (by omega)]; exact hc.rf, by rw [k1 0 0 0 (by omega) (by omega)]; exact hc.im1, fun hi => (hc.im2 hi).keepC' (fun t i h h2 => k1 t 2 i (by omega) (by omega)), Or.inl e23⟩ (fun t v i h => k1 t v i (by omega) (by omega)) (fun t v i h => k2 t v i (by omega)) ?_
    exact ⟨e42, by rw [k2 43 0 0 (by omega)]; exact hm1.b, ⟨⟨by rw [k2 40 0 0 (by omega)]; exact hm1.tp.1.1, fun j hj => by rw [k2 45 0 0 (by omega)]; exact hm1.tp.1.2 j hj⟩, hm1.tp.2⟩, by rw [k2 40 0 0 (by omega)]; exact hm1.rw1, fun j hj => by rw [k2 52 0 0 (by omega)]; exact hm1.rw2 j hj, by rw [k2 41 0 0 (by omega)]; exact hm1.rf, by rw [k2 40 0 0 (by omega)]; exact hm1.im1⟩
/-- village: B0 is A on its 267 numbers -/
theorem LI_vil {r1 r2 : Int} {B0 : Int → Int} (hk : LK A B W R rl im q) (hq : q < 520) (hc : LC m A B T W R tl rl im) (hm : LM m A B T W R tl rl im) (h0 : ∀ j, inN j 267 → B0 j = A j) (p1 : viP m T tl B0 (600 * (q + 1)) (7200 * (q + 1)) r1 m1) (p2 : r2 = (vil T tl B0).2.1 ∧ FrQ (upr (upr m1 42 0 0 (if (vil T tl B0).1 = true then lay A 0 267 (vil T tl B0).2.2 else A)) 40 0 0 (st1 (m1 40 0 0) 7 0)) m2) : r1 = r2 ∧ LI (q + 1) m2 := by
  obtain ⟨rfl, k1, e14, hn, hv⟩ := p1
  obtain ⟨rfl, f2⟩ := p2
  refine ⟨rfl, ?_⟩
  have hk1 := hk.mono hq
  have k2 : KC m1 m2 := fun t v i h => (f2.1 t v i (by omega) (by omega)).trans (by rw [upr_tag (by omega), upr_tag (by omega)])
  have km : KM m m1 := fun t v i h => k1 t v i (by omega) (by omega) (by omega) (by omega)
  have hm1 : LM m1 A B T W R tl rl im := hm.keep km
  have hm2 : ∀ A1, LM (upr (upr m1 42 0 0 A1) 40 0 0 (st1 (m1 40 0 0) 7 0)) A1 B T W R 0 rl im := fun A1 => by
    have e40 : upr (upr m1 42 0 0 A1) 40 0 0 (st1 (m1 40 0 0) 7 0) 40 0 0 = st1 (m1 40 0 0) 7 0 := upr_eq _ _ _ _ _
    have ko : ∀ t v i, t ≠ 40 → t ≠ 42 → upr (upr m1 42 0 0 A1) 40 0 0 (st1 (m1 40 0 0) 7 0) t v i = m1 t v i := fun t v i a b => by rw [upr_tag a, upr_tag b]
    exact ⟨by rw [upr_tag (by decide), upr_eq], by rw [ko 43 0 0 (by omega) (by omega)]; exact hm1.b, ⟨⟨by rw [e40, st1_eq], fun j hj => by omega⟩, by omega, fun j hj => by omega⟩, by rw [e40, st1_ne (by omega)]; exact hm1.rw1, fun j hj => by rw [ko 52 0 0 (by omega) (by omega)]; exact hm1.rw2 j hj, by rw [ko 41 0 0 (by omega) (by omega)]; exact hm1.rf, by rw [e40, st1_ne (by omega)]; exact hm1.im1⟩
  have kc : ∀ A1, RelV m1 0 A1 → (m1 23 0 0 6 = 0 ∨ QV m1 A1) → LC m1 A1 B T W R 0 rl im := fun A1 hR hqv =>
    ⟨hR, ⟨⟨e14, fun j hj => by omega⟩, by omega, fun j hj => by omega⟩, hn, by rw [k1 0 0 0 (by omega) (by omega) (by omega) (by omega)]; exact hc.rw1, fun j hj => by rw [k1 32 0 0 (by omega) (by omega) (by omega) (by omega)]; exact hc.rw2 j hj, by rw [k1 33 0 0 (by omega) (by omega) (by omega) (by omega)]; exact hc.rf, by rw [k1 0 0 0 (by omega) (by omega) (by omega) (by omega)]; exact hc.im1, fun hi => (hc.im2 hi).keepC' (fun t i h h2 => k1 t 2 i (by omega) (by omega) (by omega) (by omega)), hqv⟩
  rcases hv with ⟨ok, hR, hI, hS, e23⟩ | ⟨no, hR, e23⟩
  · rw [if_pos ok] at f2
    have cg := lay_267 A (vil T tl B0).2.2
    generalize (vil T tl B0).2.2 = V at *
    exact LI.mk2 (A' := lay A 0 267 V) (m := m) (m1 := m1) ⟨InvA_cg cg hI, InvS_cg cg hI hS, hk1.ib, hk1.wb, hk1.rl1, hk1.rb, hk1.q1⟩ (kc _ (RelV_cg cg hI hR) (Or.inl e23)) km k2 ((hm2 _).frq f2)
  · rw [if_neg (by rw [no]; decide)] at f2
    have hB : InvA B0 (600 * q) (7200 * q) := InvA_cg h0 hk.ia
    have hR1 : RelV m1 0 A := RelV_cg (fun j hj => (h0 j hj).symm) hB hR
    refine LI.mk2 (A' := A) (m := m) (m1 := m1) hk1 (kc _ hR1 ?_) km k2 ((hm2 _).frq f2)
    exact hc.qv.imp (fun h => by rw [e23 0]; exact h) (fun h => by unfold QV at *; rw [e23 0, k1 28 0 0 (by omega) (by omega) (by omega) (by omega)]; exact ⟨h.1, h.2.1, fun p w hp hw => by rw [k1 25 0 _ (by omega) (by omega) (by omega) (by omega)]; exact h.2.2 p w hp hw⟩)
end LL
theorem LI_0 : LI 0 m0 := by
  have z : ∀ k, k ≠ 0 → m0 42 0 0 k = 0 := fun k hk => by
    show (if k = 0 then (3 : Int) else 0) = 0
    rw [if_neg hk]
  have e0 : m0 42 0 0 0 = 3 := rfl
  refine ⟨m0 42 0 0, m0 43 0 0, fun _ => 0, fun _ => 0, fun _ => 0, 0, 0, 0, ⟨?_, ?_, fun h => absurd rfl h, fun k hk => by omega, by omega, fun k => Int.le_refl _, by omega⟩, ⟨?_, ⟨⟨rfl, fun j hj => by omega⟩, by omega, fun j hj => by omega⟩, fun j hj => Int.le_refl _, rfl, fun j hj => by omega, rfl, rfl, fun h => absurd rfl h, Or.inl rfl⟩, ⟨rfl, rfl, ⟨⟨rfl, fun j hj => by omega⟩, by omega, fun j hj => by omega⟩, rfl, fun j hj => by omega, rfl, rfl⟩⟩
  · refine ⟨?_, fun i j hi hj => ?_, fun p hp => ?_, fun w hw => ?_, fun i hi => ?_, ?_⟩
    · rw [e0, z 1 (by omega), z 2 (by omega)]; omega
    · have e : aY (m0 42 0 0) i j = 0 := z _ (by omega)
      rw [e]; omega
    · rw [z 1 (by omega)] at hp; omega
    · rw [z 2 (by omega)] at hw; omega
    · have e : aP (m0 42 0 0) i 0 = 0 := z _ (by omega)
      rw [e]
      exact ⟨by omega, fun h => by omega⟩
    · have e : sumI (fun i => ifP (0 < aP (m0 42 0 0) i 0) (aP (m0 42 0 0) i 1) 0) 24 ≤ 0 * 24 := (sumI_b (lo := 0) (hi := 0) (by omega) (fun i a b => by
        have e : aP (m0 42 0 0) i 0 = 0 := z _ (by omega)
        show 0 ≤ ifP (0 < aP (m0 42 0 0) i 0) (aP (m0 42 0 0) i 1) 0 ∧ ifP (0 < aP (m0 42 0 0) i 0) (aP (m0 42 0 0) i 1) 0 ≤ 0
        rw [ifP_neg (by omega)]
        omega)).2
      rw [z 1 (by omega)]
      omega
  · intro p hp
    rw [z 1 (by omega)] at hp
    omega
  · refine ⟨⟨rfl, rfl, rfl⟩, fun i j hi hj => ?_, fun p hp => ?_, fun w hw => ?_, fun i hi => ?_⟩
    · have e : aY (m0 42 0 0) i j = 0 := z _ (by omega)
      rw [e]
      rfl
    · rw [z 1 (by omega)] at hp; omega
    · rw [z 2 (by omega)] at hw; omega
    · have e : aP (m0 42 0 0) i 0 = 0 := z _ (by omega)
      rw [e]
      exact ⟨⟨fun h => absurd h (by show ¬ (0 : Int) < 0; omega), fun h => absurd h (by omega)⟩, fun h => absurd h (by omega)⟩
