/-! ===== 20w: the reference: village ===== -/
theorem lay_cg {A f g : Int → Int} {k n : Int} (h : ∀ j, inN j n → f j = g j) : lay A k n f = lay A k n g := by
  funext j
  unfold lay
  by_cases q : k ≤ j ∧ j < k + n
  · rw [if_pos q, if_pos q, h _ (by omega)]
  · rw [if_neg q, if_neg q]
theorem okS_cg {A f g : Int → Int} {c : Int} (h : ∀ j, 0 ≤ j → j < cntS c → f j = g j) (hc : c = 110 ∨ c = 119 ∨ c = 112 ∨ c = 107) : (okS A c f ↔ okS A c g) ∧ upS A c f = upS A c g := by
  unfold upS
  rcases hc with rfl | rfl | rfl | rfl
  · have e0 := h 0 (by omega) (by decide)
    rw [okS_n, okS_n, if_pos rfl, if_pos rfl, e0]
    exact ⟨Iff.rfl, rfl⟩
  · have e0 := h 0 (by omega) (by decide)
    have e1 := h 1 (by omega) (by decide)
    have e2 := h 2 (by omega) (by decide)
    rw [okS_w, okS_w, if_neg (by omega), if_pos rfl, if_neg (by omega), if_pos rfl, e0, e1, e2]
    exact ⟨Iff.rfl, rfl⟩
  · have e0 := h 0 (by omega) (by decide)
    have e1 := h 1 (by omega) (by decide)
    have e2 := h 2 (by omega) (by decide)
    have e3 := h 3 (by omega) (by decide)
    rw [okS_p, okS_p, if_neg (by omega), if_neg (by omega), if_pos rfl, if_neg (by omega), if_neg (by omega), if_pos rfl]
    unfold okPer upPer
    rw [e0, e1, e2, e3, lay_cg (f := f) (g := g) (fun j hj => h j hj.1 (by show j < 4; omega))]
    exact ⟨Iff.rfl, rfl⟩
  · have e1 := h 1 (by omega) (by decide)
    have e2 := h 2 (by omega) (by decide)
    have e3 := h 3 (by omega) (by decide)
    have e4 := h 4 (by omega) (by decide)
    rw [okS_k, okS_k, if_neg (by omega), if_neg (by omega), if_neg (by omega), if_neg (by omega), if_neg (by omega), if_neg (by omega)]
    unfold okWo upWo
    rw [e1, e2, e3, e4, lay_cg (f := f) (g := g) (fun j hj => h j hj.1 (by show j < 6; omega))]
    exact ⟨Iff.rfl, rfl⟩
def rd1 (T : Int → Int) (n : Int) : Nat → Int → Int → Bool × Int
  | 0, _, c => (true, c)
  | fu + 1, a, c => if (stP T n a).1 = true then (if (stP T n a).2.1 < n then rd1 T n fu (stP T n a).2.1 (c + 1) else (true, c + 1)) else (false, -1000 - (stP T n a).2.1)
noncomputable def rd2 (T : Int → Int) (n : Int) : Nat → Int → (Int → Int) → Bool × Int × (Int → Int)
  | 0, _, B => (true, 0, B)
  | fu + 1, a, B => if a < n then ifP (okS B (sgn T n a) (stP T n a).2.2) (rd2 T n fu (stP T n a).2.1 (upS B (sgn T n a) (stP T n a).2.2)) (false, -2000 - a, B) else (true, 0, B)
def okTp (T : Int → Int) (n : Int) : Nat → Int → Prop
  | 0, _ => True
  | fu + 1, a => a < n → (stP T n a).1 = true ∧ okTp T n fu (stP T n a).2.1
theorem okTp_v {T : Int → Int} {n : Int} {fu : Nat} {a : Int} (h : n ≤ a) : okTp T n fu a := by
  cases fu with
  | zero => trivial
  | succ fu => intro q; omega
theorem rd1_okTp {T : Int → Int} {n : Int} : ∀ (fu : Nat) (a c : Int), (rd1 T n fu a c).1 = true → okTp T n fu a := by
  intro fu
  induction fu with
  | zero => intro a c _; trivial
  | succ fu ih =>
    intro a c h hlt
    have e : rd1 T n (fu + 1) a c = if (stP T n a).1 = true then (if (stP T n a).2.1 < n then rd1 T n fu (stP T n a).2.1 (c + 1) else (true, c + 1)) else (false, -1000 - (stP T n a).2.1) := rfl
    rw [e] at h
    by_cases q : (stP T n a).1 = true
    · rw [if_pos q] at h
      refine ⟨q, ?_⟩
      by_cases q2 : (stP T n a).2.1 < n
      · rw [if_pos q2] at h
        exact ih _ _ h
      · exact okTp_v (by omega)
    · rw [if_neg q] at h
      exact absurd h (by simp)
noncomputable def vil (T : Int → Int) (n : Int) (B : Int → Int) : Bool × Int × (Int → Int) := if (rd1 T n 65 0 0).1 = true then (if (rd2 T n 65 0 B).1 = true then (true, (rd1 T n 65 0 0).2, (rd2 T n 65 0 B).2.2) else (false, (rd2 T n 65 0 B).2.1, B)) else (false, (rd1 T n 65 0 0).2, B)
section Mod
variable {G : GC} {X : JX} {m : HM} {κ p t τ w x y z i k q b h c n a : Int} {A N S g F B W T f : Int → Int} {H C D : Int}
/-- what the whole reading may change before it is taken over -/
def FrW (m m' : HM) : Prop := (∀ t v i, t ≠ 44 → t ≠ 46 → t ≠ 40 → m' t v i = m t v i) ∧ ∀ k, k ≠ 8 → m' 40 0 0 k = m 40 0 0 k
theorem FrW.rf : FrW m m := ⟨fun _ _ _ _ _ _ => rfl, fun _ _ => rfl⟩
theorem FrW.r {m' m2 : HM} (h : FrW m m') (h2 : FrR m' m2) : FrW m m2 := ⟨fun t v i a b c => (h2.1 t v i b c).trans (h.1 t v i a b c), fun k a => (h2.2 k a).trans (h.2 k a)⟩
theorem FrW.t44 {m' : HM} (h : FrW m m') {f : Int → Int} : FrW m (upr m' 44 0 0 f) := ⟨fun t' v' i' a b c => by
    rw [upr_tag a]
    exact h.1 t' v' i' a b c, fun k a => by
    rw [upr_tag (by decide)]
    exact h.2 k a⟩
theorem TpM.frW {m' : HM} (h : TpM m T n) (hf : FrW m m') : TpM m' T n := ⟨⟨(hf.2 7 (by omega)).trans h.1.1, fun j hj => by rw [hf.1 45 0 0 (by decide) (by decide) (by decide)]; exact h.1.2 j hj⟩, h.2⟩
def rdsP (m : HM) (T : Int → Int) (n : Int) (A : Int → Int) (r : Int) (m' : HM) : Prop := r = (vil T n (lay (m 44 0 0) 0 267 A)).2.1 ∧ FrQ (upr m 42 0 0 (if (vil T n (lay (m 44 0 0) 0 267 A)).1 = true then lay A 0 267 (vil T n (lay (m 44 0 0) 0 267 A)).2.2 else A)) m'
theorem FrW.toQ {m' : HM} (h : FrW m m') : FrQ m m' := ⟨fun t v i a b => h.1 t v i (fun q => a (Or.inl q)) (fun q => a (by omega)) b, fun k a => h.2 k (by omega)⟩
theorem l_rd1 (hX : Ok_X10_reads G X 5) (hT : TpM m T n) (hR0 : JRt G X (pi (rdsP m T n A)) (some .int)) (hA : m 42 0 0 = A) (K37 : ∀ M c, FrR m M → rd1 T n 65 0 0 = (true, c) → 0 ≤ c ∧ c ≤ 1000 → J G X 37 [vr 40 0 0, vi c, vx, vx, vx] [] M) : ∀ (fu : Nat) (a c : Int) (M : HM), n - a < fu → (0 ≤ a ∧ a ≤ n) → M 40 0 0 8 = a → FrR m M → (0 ≤ c ∧ c ≤ a) → rd1 T n 65 0 0 = rd1 T n fu a c → J G X 7 [vr 40 0 0, vi c, vx, vx, vx] [] M := by
  have h64 := hT.2.1
  intro fu
  induction fu with
  | zero => intro a c M h1 h2; omega
  | succ fu ih =>
    intro a c M h1 h2 h8 hfr hc he
    have hT' := hT.fr hfr
    have e : rd1 T n (fu + 1) a c = if (stP T n a).1 = true then (if (stP T n a).2.1 < n then rd1 T n fu (stP T n a).2.1 (c + 1) else (true, c + 1)) else (false, -1000 - (stP T n a).2.1) := rfl
    rw [e] at he
    refine J_aloadN hX rfl rfl dX10_reads_7 ?_
    refine cV0i hX cb_X10_readsStatement mL_X10_94 dX10_reads_8 (c_readsStatement (a := a) (f0 := zS) ⟨hT', h8, fun j hj => by omega, h2, by omega, fun j => by unfold zS; omega⟩) (fun r m2 hm2 => ?_)
    have hfr2 := hfr.tr hm2.1
    have hT2 := hT.fr hfr2
    refine J_if_ne (tgt := 23) hX (by decide) dX10_reads_11 (fun h3 => ?_) (fun h3 => ?_)
    · obtain ⟨e1, e2, e3⟩ : r = 1 ∧ (stP T n a).1 = true ∧ RdM m2 T n (stP T n a).2.1 (cntS (sgn T n a)) (stP T n a).2.2 := hm2.2.elim id (fun q => absurd q.1 h3)
      rw [if_pos e2] at he
      have hmo := (stP_mono e2).1
      have hin := e3.2.2.2.1
      refine sinc_1 hX (fun _ => by omega) dX10_reads_23 ?_
      refine J_aloadN hX rfl rfl dX10_reads_26 ?_
      refine G_HalfHereModel_at hX dX10_reads_27 mF_X10_66 ?_
      refine J_aloadN hX rfl rfl dX10_reads_30 ?_
      refine G_HalfHereModel_taped hX dX10_reads_31 mF_X10_58 ?_
      rw [e3.2.1, hT2.1.1]
      refine J_icmp_lt (tgt := 7) hX (by decide) dX10_reads_34 (fun h4 => ?_) (fun h4 => ?_)
      · rw [if_pos h4] at he
        exact ih _ (c + 1) m2 (by omega) hin e3.2.1 hfr2 (by omega) he
      · rw [if_neg (by omega)] at he
        exact K37 m2 _ hfr2 he (by omega)
    · obtain ⟨e1, e2, e3, e4, e5⟩ : r = 0 ∧ (stP T n a).1 = false ∧ m2 40 0 0 8 = (stP T n a).2.1 ∧ 0 ≤ (stP T n a).2.1 ∧ (stP T n a).2.1 ≤ n := hm2.2.elim (fun q => absurd h3 (by rw [q.1]; decide)) id
      rw [if_neg (by rw [e2]; decide)] at he
      refine J_sipush hX (by decide) dX10_reads_14 ?_
      refine J_aloadN hX rfl rfl dX10_reads_17 ?_
      refine G_HalfHereModel_at hX dX10_reads_18 mF_X10_66 ?_
      rw [e3]
      refine J_isub hX (fun _ _ => by omega) dX10_reads_21 ?_
      refine J_iret hX hR0 dX10_reads_22 ?_
      have ev : vil T n (lay (m 44 0 0) 0 267 A) = (false, -1000 - (stP T n a).2.1, lay (m 44 0 0) 0 267 A) := by
        unfold vil
        rw [he]
        exact if_neg (fun q => by cases q)
      refine ⟨_, rfl, by rw [ev], ?_⟩
      rw [ev, if_neg (show ¬ ((false : Bool) = true) by decide), show upr m 42 0 0 A = m by rw [← hA]; exact upr_self _ _ _ _]
      exact (FrW.rf.r hfr2).toQ
theorem l_rdc {c : Int} (hX : Ok_X10_reads G X 5) (hA : m 42 0 0 = A) (K : J G X 64 [vr 40 0 0, vi c, vi 267, vx, vx] [] (upr m 44 0 0 (lay (m 44 0 0) 0 267 A))) : ∀ k, 0 ≤ k → k ≤ 267 → J G X 39 [vr 40 0 0, vi c, vi k, vx, vx] [] (upr m 44 0 0 (lay (m 44 0 0) 0 k A)) := by
  refine up_to (fun k h1 h2 ih => ?_)
  refine J_iloadN hX rfl rfl dX10_reads_39 ?_
  refine J_sipush hX (by decide) dX10_reads_40 ?_
  refine J_icmp_ge (tgt := 64) hX (by decide) dX10_reads_43 (fun h3 => ?_) (fun h3 => ?_)
  · have e : k = 267 := by omega
    subst e
    exact K
  · have nx := ih h3
    have e := lay_s (A := m 44 0 0) (f := A) (k := 0) h1
    rw [Int.zero_add] at e
    rw [← e] at nx
    refine J_aloadN hX rfl rfl dX10_reads_46 ?_
    refine G_HalfHereModel_read hX dX10_reads_47 mF_X10_19 ?_
    refine J_iloadN hX rfl rfl dX10_reads_50 ?_
    refine J_aloadN hX rfl rfl dX10_reads_51 ?_
    refine G_HalfHereModel_s hX dX10_reads_52 mF_X10_13 ?_
    refine J_iloadN hX rfl rfl dX10_reads_55 ?_
    refine L_42 hX (by omega) dX10_reads_56 ?_
    rw [upr_tag (by decide), hA]
    refine S_44 hX (by omega) dX10_reads_57 ?_
    refine sinc_2 hX (fun _ => by omega) dX10_reads_58 ?_
    refine J_goto (tgt := 39) hX (by decide) dX10_reads_61 ?_
    simp only [at44, up44]
    exact nx
theorem l_rds {c : Int} {m0 : HM} {x3 x4 : HV} (hX : Ok_X10_reads G X 5) (hA : m 42 0 0 = A) (hB : m 44 0 0 = B) (hR0 : JRt G X (pi (rdsP m0 T n A)) (some .int)) (hq : rdsP m0 T n A c (upr m 42 0 0 (lay A 0 267 B))) : ∀ k, 0 ≤ k → k ≤ 267 → J G X 115 [vr 40 0 0, vi c, vi k, x3, x4] [] (upr m 42 0 0 (lay A 0 k B)) := by
  refine up_to (fun k h1 h2 ih => ?_)
  refine J_iloadN hX rfl rfl dX10_reads_115 ?_
  refine J_sipush hX (by decide) dX10_reads_116 ?_
  refine J_icmp_ge (tgt := 140) hX (by decide) dX10_reads_119 (fun h3 => ?_) (fun h3 => ?_)
  · have e : k = 267 := by omega
    subst e
    refine J_iloadN hX rfl rfl dX10_reads_140 ?_
    exact J_iret hX hR0 dX10_reads_141 (⟨c, rfl, hq⟩)
  · have nx := ih h3
    have e := lay_s (A := A) (f := B) (k := 0) h1
    rw [Int.zero_add] at e
    rw [← e] at nx
    refine J_aloadN hX rfl rfl dX10_reads_122 ?_
    refine G_HalfHereModel_s hX dX10_reads_123 mF_X10_13 ?_
    refine J_iloadN hX rfl rfl dX10_reads_126 ?_
    refine J_aloadN hX rfl rfl dX10_reads_127 ?_
    refine G_HalfHereModel_read hX dX10_reads_128 mF_X10_19 ?_
    refine J_iloadN hX rfl rfl dX10_reads_131 ?_
    refine L_44 hX (by omega) dX10_reads_132 ?_
    rw [upr_tag (by decide), hB]
    refine S_42 hX (by omega) dX10_reads_133 ?_
    refine sinc_2 hX (fun _ => by omega) dX10_reads_134 ?_
    refine J_goto (tgt := 115) hX (by decide) dX10_reads_137 ?_
    simp only [at42, up42]
    exact nx
theorem l_rd2 {m0 : HM} {c : Int} (hX : Ok_X10_reads G X 5) (hT : TpM m0 T n) (hA : m0 42 0 0 = A) (hC : 0 ≤ C) (hD : 0 ≤ D) (h1r : rd1 T n 65 0 0 = (true, c)) (hR0 : JRt G X (pi (rdsP m0 T n A)) (some .int)) : ∀ (fu : Nat) (a : Int) (M : HM) (B : Int → Int) (x2 x3 x4 : HV), n - a < fu → (0 ≤ a ∧ a ≤ n) → okTp T n fu a → M 40 0 0 8 = a → FrW m0 M → M 44 0 0 = B → InvA B C D → InvS B → rd2 T n 65 0 (lay (m0 44 0 0) 0 267 A) = rd2 T n fu a B → J G X 69 [vr 40 0 0, vi c, x2, x3, x4] [] M := by
  have h64 := hT.2.1
  intro fu
  induction fu with
  | zero => intro a M B x2 x3 x4 h1 h2; omega
  | succ fu ih =>
    intro a M B x2 x3 x4 h1 h2 hok h8 hfr hB hI hS he
    have hT' := hT.frW hfr
    have hA' : M 42 0 0 = A := (hfr.1 42 0 0 (by decide) (by decide) (by decide)).trans hA
    have e : rd2 T n (fu + 1) a B = if a < n then ifP (okS B (sgn T n a) (stP T n a).2.2) (rd2 T n fu (stP T n a).2.1 (upS B (sgn T n a) (stP T n a).2.2)) (false, -2000 - a, B) else (true, 0, B) := rfl
    rw [e] at he
    refine J_aloadN hX rfl rfl dX10_reads_69 ?_
    refine G_HalfHereModel_at hX dX10_reads_70 mF_X10_66 ?_
    refine J_aloadN hX rfl rfl dX10_reads_73 ?_
    refine G_HalfHereModel_taped hX dX10_reads_74 mF_X10_58 ?_
    rw [h8, hT'.1.1]
    refine J_icmp_ge (tgt := 113) hX (by decide) dX10_reads_77 (fun h3 => ?_) (fun h3 => ?_)
    · rw [if_neg (by omega)] at he
      have ev : vil T n (lay (m0 44 0 0) 0 267 A) = (true, c, B) := by
        unfold vil
        rw [h1r, he]
        exact (if_pos rfl).trans (if_pos rfl)
      refine J_iconst hX (by decide) dX10_reads_113 ?_
      refine siN_2 hX dX10_reads_114 ?_
      have fin := l_rds (m := M) (m0 := m0) (c := c) (x3 := x3) (x4 := x4) hX hA' hB hR0 (by
        unfold rdsP
        rw [ev]
        refine ⟨rfl, ?_⟩
        rw [if_pos rfl]
        refine ⟨fun t v i a b => ?_, fun k a => ?_⟩
        · by_cases q : t = 42 ∧ v = 0 ∧ i = 0
          · obtain ⟨rfl, rfl, rfl⟩ := q
            rw [upr_eq, upr_eq]
          · rw [upr_ne q, upr_ne q]
            exact hfr.1 t v i (fun z => a (Or.inl z)) (fun z => a (by omega)) b
        · rw [upr_tag (by decide), upr_tag (by decide)]
          exact hfr.2 k (by omega)) 0 (by omega) (by omega)
      rw [lay_0, show upr M 42 0 0 A = M by rw [← hA']; exact upr_self _ _ _ _] at fin
      exact fin
    · have hlt : a < n := by omega
      obtain ⟨o1, o2⟩ := hok hlt
      obtain ⟨mo1, mo2⟩ := stP_mono o1
      rw [if_pos hlt] at he
      refine J_aloadN hX rfl rfl dX10_reads_80 ?_
      refine G_HalfHereModel_at hX dX10_reads_81 mF_X10_66 ?_
      refine siN_2 hX dX10_reads_84 ?_
      refine J_aloadN hX rfl rfl dX10_reads_85 ?_
      rw [h8]
      refine cV0w hX cb_X10_sign mL_X10_69 dX10_reads_86 (c_sign hT' h8 h2.1) ?_
      refine siN_3 hX dX10_reads_89 ?_
      refine J_aloadN hX rfl rfl dX10_reads_90 ?_
      refine cV0i hX cb_X10_readsStatement mL_X10_94 dX10_reads_91 (c_readsStatement (a := a) (f0 := zS) ⟨hT', h8, fun j hj => by omega, h2, by omega, fun j => by unfold zS; omega⟩) (fun r m2 hm2 => ?_)
      obtain ⟨e1, e2, e3⟩ : r = 1 ∧ (stP T n a).1 = true ∧ RdM m2 T n (stP T n a).2.1 (cntS (sgn T n a)) (stP T n a).2.2 := hm2.2.elim id (fun q => absurd o1 (by rw [q.2.1]; decide))
      have hB2 : m2 44 0 0 = B := (hm2.1.1 44 0 0 (by decide) (by decide)).trans hB
      have hfr2 := hfr.r hm2.1
      have hnn := stP_nn o1
      refine si_4 hX dX10_reads_94 ?_
      refine J_aloadN hX rfl rfl dX10_reads_96 ?_
      refine J_iloadN hX rfl rfl dX10_reads_97 ?_
      refine cV1i hX cb_X10_comes mL_X10_97 dX10_reads_98 (c_comes hB2 hI (fun k a b => by rw [e3.2.2.1 k ⟨a, b⟩]; exact hnn k) mo2) (fun r3 m3 hm3 => ?_)
      obtain ⟨cg1, cg2⟩ := okS_cg (A := B) (f := m2 46 0 0) (g := (stP T n a).2.2) (c := sgn T n a) (fun j a b => e3.2.2.1 j ⟨a, b⟩) mo2
      rcases hm3 with ⟨rfl, q1, q2⟩ | ⟨rfl, q1, q2⟩
      · rw [ifP_pos (cg1.mp q1)] at he
        rw [cg2] at q2
        obtain ⟨hI3, hS3⟩ := InvA_S hI hS hC hD hnn (fun hc => ⟨(stP_k o1 hc).1, (stP_k o1 hc).2⟩) (cg1.mp q1)
        subst q2
        refine J_if_ne (tgt := 110) hX (by decide) dX10_reads_101 (fun h4 => ?_) (fun h4 => ?_)
        · refine J_goto (tgt := 69) hX (by decide) dX10_reads_110 ?_
          exact ih _ _ _ _ _ _ (by omega) e3.2.2.2.1 o2 (by rw [upr_tag (by decide)]; exact e3.2.1) hfr2.t44 (at44 _) hI3 hS3 he
        · omega
      · rw [ifP_neg (fun z => q1 (cg1.mpr z))] at he
        subst q2
        refine J_if_ne (tgt := 110) hX (by decide) dX10_reads_101 (fun h4 => ?_) (fun h4 => ?_)
        · omega
        · refine J_sipush hX (by decide) dX10_reads_104 ?_
          refine J_iloadN hX rfl rfl dX10_reads_107 ?_
          refine J_isub hX (fun _ _ => by omega) dX10_reads_108 ?_
          refine J_iret hX hR0 dX10_reads_109 ?_
          have ev : vil T n (lay (m0 44 0 0) 0 267 A) = (false, -2000 - a, lay (m0 44 0 0) 0 267 A) := by
            unfold vil
            rw [h1r, he]
            exact (if_pos rfl).trans (if_neg (fun q => by cases q))
          refine ⟨_, rfl, by rw [ev], ?_⟩
          rw [ev, if_neg (show ¬ ((false : Bool) = true) by decide), show upr m0 42 0 0 A = m0 by rw [← hA]; exact upr_self _ _ _ _]
          exact hfr2.toQ
theorem InvA_cg {A B : Int → Int} {C D : Int} (h : ∀ j, inN j 267 → B j = A j) (hI : InvA A C D) : InvA B C D := by
  have eY : ∀ i j, inN i 6 → inN j 6 → aY B i j = aY A i j := fun i j a b => h _ (by omega)
  have eG : ∀ i k, inN i 6 → inN k 4 → aG B i k = aG A i k := fun i j a b => h _ (by omega)
  have eW : ∀ i k, inN i 6 → inN k 6 → aW B i k = aW A i k := fun i j a b => h _ (by omega)
  have eP : ∀ i k, inN i 24 → inN k 7 → aP B i k = aP A i k := fun i j a b => h _ (by omega)
  have hi := hI.1
  refine ⟨?_, fun i j hi hj => ?_, fun p hp => ?_, fun w hw => ?_, fun i hi => ?_, ?_⟩
  · rw [h 0 (by omega), h 1 (by omega), h 2 (by omega)]; exact hi
  · rw [eY i j hi hj]; exact hI.2.1 i j hi hj
  · rw [h 1 (by omega)] at hp
    have := hI.2.2.1 p hp
    rw [eG p 3 (by omega) (by omega)]
    refine ⟨this.1, this.2.1, fun k hk => ?_⟩
    rw [eG p k (by omega) (by omega)]
    exact this.2.2 k hk
  · rw [h 2 (by omega)] at hw
    have := hI.2.2.2.1 w hw
    rw [eW w 0 (by omega) (by omega), eW w 1 (by omega) (by omega), eW w 5 (by omega) (by omega), h 0 (by omega)]
    refine ⟨this.1, this.2.1, this.2.2.1, fun k hk => ?_⟩
    rw [eW w (2 + k) (by omega) (by omega)]
    exact this.2.2.2 k hk
  · have hpi := hI.2.2.2.2.1 i hi
    rw [eP i 0 hi (by omega), eP i 1 hi (by omega), eP i 2 hi (by omega), eP i 3 hi (by omega), eP i 4 hi (by omega), eP i 5 hi (by omega), eP i 6 hi (by omega), h 0 (by omega), h 1 (by omega), h 2 (by omega)]
    refine ⟨hpi.1, fun h0 => ?_⟩
    have h2 := hpi.2 h0
    rw [eG (aP A i 0 - 1) 3 (by omega) (by omega)]
    exact h2
  · rw [h 1 (by omega)]
    have e : sumI (fun i => ifP (0 < aP B i 0) (aP B i 1) 0) 24 = sumI (fun i => ifP (0 < aP A i 0) (aP A i 1) 0) 24 := sumI_congr (fun i a b => by
      show ifP (0 < aP B i 0) (aP B i 1) 0 = _
      rw [eP i 0 ⟨a, b⟩ (by omega), eP i 1 ⟨a, b⟩ (by omega)])
    rw [e]
    exact hI.2.2.2.2.2
theorem InvS_cg {A B : Int → Int} {C D : Int} (h : ∀ j, inN j 267 → B j = A j) (hI : InvA A C D) (hS : InvS A) : InvS B := fun p hp => by
  have eP : ∀ i k, inN i 24 → inN k 7 → aP B i k = aP A i k := fun i j a b => h _ (by omega)
  rw [h 1 (by omega)] at hp
  have e : sumI (twA B p) 24 = sumI (twA A p) 24 := sumI_congr (fun i a b => twA_cg (eP i 0 ⟨a, b⟩ (by omega)) (eP i 1 ⟨a, b⟩ (by omega)))
  rw [e]
  exact hS p hp
theorem lay_267 (A B : Int → Int) : ∀ j, inN j 267 → lay A 0 267 B j = B j := fun j hj => by
  have := lay_in (A := A) (f := B) (k := 0) hj
  rw [Int.zero_add] at this
  exact this
theorem c_reads (hT : TpM m T n) (hA : m 42 0 0 = A) (hI : InvA A C D) (hS : InvS A) (hC : 0 ≤ C) (hD : 0 ≤ D) : K_X10_reads G [vr 40 0 0] m (pi (rdsP m T n A)) := by
  refine E_X10_reads (fun X hX hR0 _ _ => ?_)
  have h64 := hT.2.1
  refine J_aloadN hX rfl rfl dX10_reads_0 ?_
  refine J_iconst hX (by decide) dX10_reads_1 ?_
  refine P_HalfHereModel_at hX dX10_reads_2 mF_X10_66 ?_
  refine J_iconst hX (by decide) dX10_reads_5 ?_
  refine siN_1 hX dX10_reads_6 ?_
  refine l_rd1 hX hT hR0 hA (fun M c hfr he hc => ?_) 65 0 0 _ (by omega) (by omega) (by rw [upr_eq, st1_eq]) FrR.rf.f8 (by omega) rfl
  have hA' : M 42 0 0 = A := (hfr.1 42 0 0 (by decide) (by decide)).trans hA
  have e44 : M 44 0 0 = m 44 0 0 := hfr.1 44 0 0 (by decide) (by decide)
  have hok : okTp T n 65 0 := rd1_okTp 65 0 0 (by rw [he])
  have hW : FrW m M := FrW.rf.r hfr
  have fin := l_rdc (m := M) (c := c) hX hA' (by
    refine J_aloadN hX rfl rfl dX10_reads_64 ?_
    refine J_iconst hX (by decide) dX10_reads_65 ?_
    refine P_HalfHereModel_at hX dX10_reads_66 mF_X10_66 ?_
    refine l_rd2 (c := c) hX hT hA hC hD he hR0 65 0 _ (lay (m 44 0 0) 0 267 A) _ _ _ (by omega) (by omega) hok (by rw [upr_eq, st1_eq]) ?_ ?_ (InvA_cg (lay_267 _ _) hI) (InvS_cg (lay_267 _ _) hI hS) rfl
    · exact hW.t44.r FrR.rf.f8
    · rw [upr_tag (by decide), at44, e44]) 0 (by omega) (by omega)
  rw [lay_0, upr_self] at fin
  refine J_iconst hX (by decide) dX10_reads_37 ?_
  refine siN_2 hX dX10_reads_38 ?_
  exact fin
theorem c_mvillage (hT : TpM m T n) (hA : m 42 0 0 = A) (hI : InvA A C D) (hS : InvS A) (hC : 0 ≤ C) (hD : 0 ≤ D) : K_X10_village G [vr 40 0 0] m (pi (fun r m' => r = (vil T n (lay (m 44 0 0) 0 267 A)).2.1 ∧ FrQ (upr (upr m 42 0 0 (if (vil T n (lay (m 44 0 0) 0 267 A)).1 = true then lay A 0 267 (vil T n (lay (m 44 0 0) 0 267 A)).2.2 else A)) 40 0 0 (st1 (m 40 0 0) 7 0)) m')) := by
  refine E_X10_village (fun X hX hR0 _ _ => ?_)
  refine J_aloadN hX rfl rfl dX10_village_0 ?_
  refine cV0i hX cb_X10_reads mL_X10_100 dX10_village_1 (c_reads hT hA hI hS hC hD) (fun r m2 h2 => ?_)
  obtain ⟨rfl, h2⟩ := h2
  refine siN_1 hX dX10_village_4 ?_
  refine J_aloadN hX rfl rfl dX10_village_5 ?_
  refine J_iconst hX (by decide) dX10_village_6 ?_
  refine P_HalfHereModel_taped hX dX10_village_7 mF_X10_58 ?_
  refine J_iloadN hX rfl rfl dX10_village_10 ?_
  refine J_iret hX hR0 dX10_village_11 ?_
  refine ⟨_, rfl, rfl, fun t v i a b => ?_, fun k a => ?_⟩
  · rw [upr_tag b, upr_tag b]
    exact h2.1 t v i a b
  · rw [upr_eq, upr_eq]
    by_cases q : k = 7
    · rw [q, st1_eq, st1_eq]
    · rw [st1_ne q, st1_ne q]
      have := h2.2 k a
      rw [upr_tag (by decide)] at this
      exact this
end Mod
