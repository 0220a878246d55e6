section JRows
variable {G : GC} {X : JX} {cc : ByteArray} {own : String} {nL d : Nat} {L S : List HV} {m : HM} {pc : Nat}
theorem J_lookup (hX : JOk G X cc own nL d) {dflt : Int} {ps : Array (Int × Int)} {len : Nat} {x off : Int} {tgt : Nat} (hp : (ps.toList.zip (ps.toList.drop 1)).all (fun (a, next) => a.1 < next.1) = true) (ho : Op.lookupswitch.offset ps.toList dflt x = off) (ht : (pc : Int) + off = (tgt : Int)) (dg : decode cc pc = .ok (.lookupswitch dflt ps, len)) (k : J G X tgt L S m) : J G X pc L (vi x :: S) m :=
  J_step (fun _ h _ => h.tl) k fun _ _ _ _ _ _ _ _ _ _ _ _ _ _ e0 H locs ls _ hs _ _ _ _ kk => lv_lookup (hX.x e0).1 (hX.x e0).2.1 dg hp (by rw [rI_toInt hs.hd]; exact ho) ht kk
theorem J_tableOut (hX : JOk G X cc own nL d) {dflt lo hi : Int} {offs : Array Int} {len : Nat} {x : Int} {tgt : Nat} (h : x < lo ∨ hi < x) (ht : (pc : Int) + dflt = (tgt : Int)) (dg : decode cc pc = .ok (.tableswitch dflt lo hi offs, len)) (k : J G X tgt L S m) : J G X pc L (vi x :: S) m :=
  J_step (fun _ h _ => h.tl) k fun _ _ _ _ _ _ _ _ _ _ _ _ _ _ e0 H locs ls _ hs _ _ _ _ kk => lv_tableOut (hX.x e0).1 (hX.x e0).2.1 dg (by rw [rI_toInt hs.hd]; exact h) ht kk
theorem J_tableIn (hX : JOk G X cc own nL d) {dflt lo hi : Int} {offs : Array Int} {len : Nat} {x off : Int} {tgt : Nat} (h1 : lo ≤ x) (h2 : x ≤ hi) (ho : offs[(x - lo).toNat]? = some off) (ht : (pc : Int) + off = (tgt : Int)) (dg : decode cc pc = .ok (.tableswitch dflt lo hi offs, len)) (k : J G X tgt L S m) : J G X pc L (vi x :: S) m :=
  J_step (fun _ h _ => h.tl) k fun _ _ _ _ _ _ _ _ _ _ _ _ _ _ e0 H locs ls _ hs _ _ _ _ kk => lv_tableIn (hX.x e0).1 (hX.x e0).2.1 dg (by rw [rI_toInt hs.hd]; omega) (by rw [rI_toInt hs.hd]; omega) (by rw [rI_toInt hs.hd]; exact ho) ht kk
/-! cells -/
theorem fl_good {a : String} {n : Nat} {b c d : String} : goodWord (Cond.fieldLink a n b c d) = true := rfl
theorem JOk.fl (hX : JOk G X cc own nL d) {p : Program} {l : Launch} {e : Env} {R : Room} {s : State} {mi : MethodId} {args : Array Value} {below : List Frame} {meth : Method} {c : Code} {cells slots : Nat} {Q : State → Prop} {H0 : Heap} (e0 : X = (p, l, e, R, s, mi, args, below, meth, c, cells, slots, Q, H0)) {w : Cond} (h : w ∈ lw_tbl) (hg : goodWord w = true) : w.before args s = true := (hX.x e0).2.2.2.2.1 _ (mem_g h hg)
theorem uws_good (C : String) (T : u_T) (N : Nat) : (u_ws C T N).all goodWord = true := by
  apply List.all_eq_true.mpr
  intro w hw
  obtain ⟨k, -, rfl⟩ := List.mem_map.mp hw
  unfold u_lay
  split <;> rfl
theorem J_get (hX : JOk G X cc own nL d) {t : Nat} {v i : Int} {idx ci N kf : Nat} {C : String} {T : u_T} {f : (Int → Int) → HV} (hY : ∀ w ∈ u_ws C T N, w ∈ lw_tbl) (hc : vclasses[ci]? = some (C, T, N)) (hk : kf < N)
    (hF : ∀ g, ∃ fs, cellF G t v i g = .inr (ci, fs) ∧ fs[kf]? = some (tv G (f g))) (hcn : cn (vr t v i) → Rng m → cn (f (m t v i))) (dg : decode cc pc = .ok (.getfield idx, 3)) (hl : Cond.fieldLink own idx (T kf).1 (T kf).2.1 (T kf).2.2.1 ∈ lw_tbl)
    (k : J G X (pc + 3) L (f (m t v i) :: S) m) (ht : t < 60 := by decide) : J G X pc L (vr t v i :: S) m := by
  refine J_step (fun _ h hr => h.tl.cons (hcn h.hd hr)) k fun _ _ _ _ _ _ _ _ _ _ _ _ _ _ e0 H locs ls _ hs _ hH _ _ kk => ?_
  have hv : vok t v i := vok_of hs.hd ht
  obtain ⟨fs, h1, h2⟩ := hF (m t v i)
  have hg := allc_get (G := G) (m := m) hv
  rw [h1] at hg
  exact va_get (hX.x e0).1 (hX.x e0).2.1 (hX.x e0).2.2.2.2.1 (good_g hY (uws_good C T N)) (hX.x e0).2.2.2.1 (hX.x e0).2.2.2.2.2.1 hH (ix t v i) hg hc kf hk (hX.fl e0 hl rfl) (fun _ h => h) h2 dg kk
theorem J_put (hX : JOk G X cc own nL d) {t : Nat} {v i x : Int} {idx ci N kf : Nat} {C : String} {T : u_T} (hY : ∀ w ∈ u_ws C T N, w ∈ lw_tbl) {ty0 : Nat → FieldType} {ty : FieldType} (hty : ∀ k, k < N → parseFieldDescriptor (T k).2.2.1 = some (ty0 k)) (hnm : ∀ a, a < N → ∀ b, b < N → a ≠ b → (T a).2.1 ≠ (T b).2.1) (hc : vclasses[ci]? = some (C, T, N)) (hk : kf < N) (hfin : (T kf).2.2.2 = false) (hd : parseFieldDescriptor (T kf).2.2.1 = some ty) (hn : narrow ty (.int (Int32.ofInt x)) = .int (Int32.ofInt x)) (hfit : fits ty (.int (Int32.ofInt x)) = true)
    (hF : ∀ g, ∃ fs, cellF G t v i g = .inr (ci, fs) ∧ kf < fs.length ∧ cellF G t v i (st1 g kf x) = .inr (ci, fs.set kf (.int (Int32.ofInt x)))) (ht : t < 60) (dg : decode cc pc = .ok (.putfield idx, 3)) (hl : Cond.fieldLink own idx (T kf).1 (T kf).2.1 (T kf).2.2.1 ∈ lw_tbl)
    (k : J G X (pc + 3) L S (upr m t v i (st1 (m t v i) kf x))) : J G X pc L (vi x :: vr t v i :: S) m := by
  obtain ⟨p, l, e, R, s, mi, args, below, meth, c, cells, slots, Q, H0⟩ := X
  intro h1 h2 h3 H locs ls hH hS0 hLh
  have hv : vok t v i := vok_of h2.tl.hd ht
  obtain ⟨fs, f1, f2, f3⟩ := hF (m t v i)
  have hg := allc_get (G := G) (m := m) hv
  rw [f1] at hg
  refine va_put (ty := ty) (hX.x rfl).1 (hX.x rfl).2.1 (hX.x rfl).2.2.2.2.1 (good_g hY (uws_good C T N)) ty0 hty hnm (hX.x rfl).2.2.2.1 (hX.x rfl).2.2.2.2.2.1 hH (allc_D G m) hS0 (ix t v i) hg hc kf hk (hX.fl rfl hl rfl) (fun _ h => h) hfin hd hn hfit f2 dg fun H1 locs1 hP hD hS => ?_
  rw [show tv G (vi x) = Value.int (Int32.ofInt x) from rfl, ← f3, allc_set hv] at hP
  exact k h1 h2.tl.tl (h3.up h2.hd) H1 locs1 ls hP hS hLh
def aln (t : Nat) : Nat := match t with
  | 2 => 6
  | 3 => 6
  | 4 => 6
  | 5 => 6
  | 6 => 6
  | 7 => 6
  | 8 => 24
  | 10 => 3
  | 12 => 3
  | 15 => 64
  | 16 => 6
  | 18 => 3
  | 19 => 3
  | 21 => 6
  | 22 => 6
  | 24 => 35
  | 25 => 3
  | 26 => 3
  | 27 => 125
  | 28 => 3
  | 30 => 64
  | 31 => 64
  | 32 => 12
  | 33 => 7
  | 41 => 7
  | 42 => 267
  | 43 => 267
  | 44 => 267
  | 45 => 64
  | 46 => 6
  | 47 => 36
  | 48 => 3
  | 49 => 36
  | 50 => 3
  | 51 => 36
  | 52 => 12
  | _ => 0
theorem aI_ok : ∀ t ∈ [3, 5, 10, 12, 15, 16, 18, 19, 22, 25, 27, 28, 32, 33, 41, 42, 43, 44, 45, 46, 47, 48, 49, 50, 51, 52], ∀ (G : GC) (v i : Int) (f : Int → Int), cellF G t v i f = .inl (G.2.2.1 0, aln t, .inl (fun j => Int32.ofInt (f j))) := by
  intro t ht G v i f
  simp only [List.mem_cons, List.not_mem_nil, or_false] at ht
  rcases ht with rfl | rfl | rfl | rfl | rfl | rfl | rfl | rfl | rfl | rfl | rfl | rfl | rfl | rfl | rfl | rfl | rfl | rfl | rfl | rfl | rfl | rfl | rfl | rfl | rfl | rfl <;> rfl
def aI (t : Nat) : Bool := [3, 5, 10, 12, 15, 16, 18, 19, 22, 25, 27, 28, 32, 33, 41, 42, 43, 44, 45, 46, 47, 48, 49, 50, 51, 52].contains t
theorem aI_of {t : Nat} (h : aI t = true) : t ∈ [3, 5, 10, 12, 15, 16, 18, 19, 22, 25, 27, 28, 32, 33, 41, 42, 43, 44, 45, 46, 47, 48, 49, 50, 51, 52] := by simpa [aI] using h
theorem aI_lt {t : Nat} (h : aI t = true) : t < 60 := by
  have h1 := aI_of h
  simp only [List.mem_cons, List.not_mem_nil, or_false] at h1
  omega
theorem J_ialdG (hX : JOk G X cc own nL d) {t : Nat} {v i x : Int} (ha : aI t = true) (hx : 0 ≤ x ∧ x < aln t) (dg : decode cc pc = .ok (.iaload, 1)) (k : J G X (pc + 1) L (vi (m t v i x) :: S) m) : J G X pc L (vi x :: vr t v i :: S) m := by
  refine J_step (fun _ h hr => h.tl.tl.consI (show inR _ from hr _ _ _ _)) k fun _ _ _ _ _ _ _ _ _ _ _ _ _ _ e0 H locs ls _ hs _ hH _ _ kk => ?_
  have hv : vok t v i := vok_of hs.tl.hd (aI_lt ha)
  have hg := allc_get (G := G) (m := m) hv
  rw [aI_ok t (aI_of ha)] at hg
  have hr : inR x := hs.hd
  refine va_iald (hX.x e0).1 (hX.x e0).2.1 (hX.x e0).2.2.2.2.2.1 hH (ix t v i) 0 hg rfl (rI_in hr hx.1 hx.2) dg ?_
  rw [rI_clamp hr hx.1, Int.toNat_of_nonneg hx.1]
  exact kk
theorem upd_st1 {f : Int → Int} {x y : Int} (h0 : 0 ≤ x) : (upd (fun j : Nat => Int32.ofInt (f j)) x.toNat (Int32.ofInt y)) = fun j : Nat => Int32.ofInt (st1 f x y j) := by
  funext j
  unfold upd st1
  by_cases h : j = x.toNat
  · rw [if_pos h, if_pos (by omega)]
  · rw [if_neg h, if_neg (by omega)]
theorem J_iastG (hX : JOk G X cc own nL d) {t : Nat} {v i x y : Int} (ha : aI t = true) (hx : 0 ≤ x ∧ x < aln t) (dg : decode cc pc = .ok (.iastore, 1)) (k : J G X (pc + 1) L S (upr m t v i (st1 (m t v i) x y))) : J G X pc L (vi y :: vi x :: vr t v i :: S) m := by
  obtain ⟨p, l, e, R, s, mi, args, below, meth, c, cells, slots, Q, H0⟩ := X
  intro h1 h2 h3 H locs ls hH hS0 hLh
  have hv : vok t v i := vok_of h2.tl.tl.hd (aI_lt ha)
  have hg := allc_get (G := G) (m := m) hv
  rw [aI_ok t (aI_of ha)] at hg
  have hr : inR x := h2.tl.hd
  refine va_iast (hX.x rfl).1 (hX.x rfl).2.1 (hX.x rfl).2.2.2.2.2.1 hH (allc_D G m) hS0 (ix t v i) 0 hg rfl (rI_in hr hx.1 hx.2) dg fun H1 locs1 hP hD hS => ?_
  rw [rI_clamp hr hx.1, upd_st1 hx.1, ← aI_ok t (aI_of ha) G v i (st1 (m t v i) x y), allc_set hv] at hP
  exact k h1 h2.tl.tl.tl (h3.up h2.hd) H1 locs1 ls hP hS hLh
theorem J_zald (hX : JOk G X cc own nL d) {t : Nat} {v i x : Int} (ht : t = 30 ∨ t = 31) (hx : 0 ≤ x ∧ x < 64) (dg : decode cc pc = .ok (.baload, 1)) (k : J G X (pc + 1) L (vi (m t v i x) :: S) m) : J G X pc L (vi x :: vr t v i :: S) m := by
  refine J_step (fun _ h hr => h.tl.tl.consI (show inR _ from hr _ _ _ _)) k fun _ _ _ _ _ _ _ _ _ _ _ _ _ _ e0 H locs ls _ hs _ hH _ _ kk => ?_
  have hv : vok t v i := vok_of hs.tl.hd (by omega)
  have hg := allc_get (G := G) (m := m) hv
  rw [show cellF G t v i (m t v i) = .inl (G.2.2.1 1, 64, .inl (fun j => Int32.ofInt (m t v i j))) by rcases ht with rfl | rfl <;> rfl] at hg
  have hr : inR x := hs.hd
  refine va_zald (hX.x e0).1 (hX.x e0).2.1 (hX.x e0).2.2.2.2.2.1 hH (ix t v i) 1 hg rfl (rI_in hr hx.1 hx.2) dg ?_
  rw [rI_clamp hr hx.1, Int.toNat_of_nonneg hx.1]
  exact kk
theorem nar_boolI {x : Int} (h : x = 0 ∨ x = 1) : vp_nar .boolean (Int32.ofInt x) = Int32.ofInt x := by
  rcases h with rfl | rfl <;> rfl
theorem J_zast (hX : JOk G X cc own nL d) {t : Nat} {v i x y : Int} (ht : t = 30 ∨ t = 31) (hx : 0 ≤ x ∧ x < 64) (hy : y = 0 ∨ y = 1) (dg : decode cc pc = .ok (.bastore, 1)) (k : J G X (pc + 1) L S (upr m t v i (st1 (m t v i) x y))) : J G X pc L (vi y :: vi x :: vr t v i :: S) m := by
  obtain ⟨p, l, e, R, s, mi, args, below, meth, c, cells, slots, Q, H0⟩ := X
  intro h1 h2 h3 H locs ls hH hS0 hLh
  have hv : vok t v i := vok_of h2.tl.tl.hd (by omega)
  have hg := allc_get (G := G) (m := m) hv
  have hc : ∀ f : Int → Int, cellF G t v i f = .inl (G.2.2.1 1, 64, .inl (fun j => Int32.ofInt (f j))) := fun f => by rcases ht with rfl | rfl <;> rfl
  rw [hc] at hg
  have hr : inR x := h2.tl.hd
  refine va_zast (hX.x rfl).1 (hX.x rfl).2.1 (hX.x rfl).2.2.2.2.2.1 hH (allc_D G m) hS0 (ix t v i) 1 hg rfl (rI_in hr hx.1 hx.2) dg fun H1 locs1 hP hD hS => ?_
  rw [nar_boolI hy, rI_clamp hr hx.1, upd_st1 hx.1, ← hc (st1 (m t v i) x y), allc_set hv] at hP
  exact k h1 h2.tl.tl.tl (h3.up h2.hd) H1 locs1 ls hP hS hLh
theorem clo_arr {n t t2 : Nat} {F : Int → Int} {v i x : Int} (ht : t < 60) (hP : (cellsL.all fun q => !(q.1 == t) || (List.range n).all fun k => cellsL[ix t2 (F q.2.1) (k : Int)]? == some (t2, F q.2.1, (k : Int))) = true) (h : cn (vr t v i)) (hx : 0 ≤ x ∧ x < n) : cn (vr t2 (F v) x) := by
  refine Or.inr ?_
  have hv : vok t v i := vok_of h (by omega)
  have h1 := List.all_eq_true.mp hP _ (vok_mem hv)
  simp only [beq_self_eq_true, Bool.not_true, Bool.false_or] at h1
  have h2 := List.all_eq_true.mp h1 x.toNat (List.mem_range.mpr (by omega))
  rw [Int.toNat_of_nonneg hx.1] at h2
  exact beq_iff_eq.mp h2
theorem J_aald (hX : JOk G X cc own nL d) {t : Nat} {v i x : Int} {n c t2 : Nat} {v2 : Int} {ty : FieldType} (ht : t < 60) (hty : (tysG G)[c]? = some (G.2.2.1 c, ty)) (hr : ty.isReference = true) (hF : ∀ g, cellF G t v i g = .inl (G.2.2.1 c, n, .inr (.inr (.inr (.inr (fun j => some (ad G t2 v2 j))))))) (hx : 0 ≤ x ∧ x < n) (hcn : cn (vr t v i) → cn (vr t2 v2 x)) (dg : decode cc pc = .ok (.aaload, 1)) (k : J G X (pc + 1) L (vr t2 v2 x :: S) m) : J G X pc L (vi x :: vr t v i :: S) m := by
  refine J_step (fun _ h _ => h.tl.tl.cons (hcn h.tl.hd)) k fun _ _ _ _ _ _ _ _ _ _ _ _ _ _ e0 H locs ls _ hs _ hH _ _ kk => ?_
  have hv : vok t v i := vok_of hs.tl.hd (by omega)
  have hg := allc_get (G := G) (m := m) hv
  rw [hF] at hg
  have hrx : inR x := hs.hd
  have hlt : (Int32.ofInt x).toNatClampNeg < n := by rw [rI_clamp hrx hx.1]; omega
  refine W.aald (v := .ref (ad G t2 v2 x)) (hX.x e0).1 (hX.x e0).2.1 (hH (ix t v i) _ hg) (((hX.x e0).2.2.2.2.2.1.2 c _ hty).1 n (fun j => va_rf (some (ad G t2 v2 j)))) hr (fun q => by cases q) (by show ¬ (_ < 0 ∨ (arrV _ _ _).slots.size ≤ _); rw [arrV_size]; exact rI_in hrx hx.1 hx.2) (by
    show (arrV _ _ _).slots[_]? = _
    rw [arrV_read _ _ hlt, rI_clamp hrx hx.1]
    show some (Value.ref (ad G t2 v2 (x.toNat : Int))) = _
    rw [Int.toNat_of_nonneg hx.1]) rfl rfl dg kk
theorem A_2 (hX : JOk G X cc own nL d) {v i x : Int} (hx : 0 ≤ x ∧ x < 6) (dg : decode cc pc = .ok (.aaload, 1)) (k : J G X (pc + 1) L (vr 3 v x :: S) m) : J G X pc L (vi x :: vr 2 v i :: S) m :=
  J_aald (ty := .array .int) (n := 6) (c := 3) (t2 := 3) (v2 := v) hX (by decide) rfl rfl (fun _ => rfl) hx (fun h => clo_arr (n := 6) (t := 2) (F := fun v => v) (t2 := 3) (by decide) (by decide +kernel) h hx) dg k
theorem A_4 (hX : JOk G X cc own nL d) {v i x : Int} (hx : 0 ≤ x ∧ x < 6) (dg : decode cc pc = .ok (.aaload, 1)) (k : J G X (pc + 1) L (vr 5 v x :: S) m) : J G X pc L (vi x :: vr 4 v i :: S) m :=
  J_aald (ty := .array .int) (n := 6) (c := 3) (t2 := 5) (v2 := v) hX (by decide) rfl rfl (fun _ => rfl) hx (fun h => clo_arr (n := 6) (t := 4) (F := fun v => v) (t2 := 5) (by decide) (by decide +kernel) h hx) dg k
theorem A_6 (hX : JOk G X cc own nL d) {v i x : Int} (hx : 0 ≤ x ∧ x < 6) (dg : decode cc pc = .ok (.aaload, 1)) (k : J G X (pc + 1) L (vr 9 v x :: S) m) : J G X pc L (vi x :: vr 6 v i :: S) m :=
  J_aald (ty := .object RX3) (n := 6) (c := 4) (t2 := 9) (v2 := v) hX (by decide) rfl rfl (fun _ => rfl) hx (fun h => clo_arr (n := 6) (t := 6) (F := fun v => v) (t2 := 9) (by decide) (by decide +kernel) h hx) dg k
theorem A_7 (hX : JOk G X cc own nL d) {v i x : Int} (hx : 0 ≤ x ∧ x < 6) (dg : decode cc pc = .ok (.aaload, 1)) (k : J G X (pc + 1) L (vr 11 v x :: S) m) : J G X pc L (vi x :: vr 7 v i :: S) m :=
  J_aald (ty := .object RX8) (n := 6) (c := 5) (t2 := 11) (v2 := v) hX (by decide) rfl rfl (fun _ => rfl) hx (fun h => clo_arr (n := 6) (t := 7) (F := fun v => v) (t2 := 11) (by decide) (by decide +kernel) h hx) dg k
theorem A_8 (hX : JOk G X cc own nL d) {v i x : Int} (hx : 0 ≤ x ∧ x < 24) (dg : decode cc pc = .ok (.aaload, 1)) (k : J G X (pc + 1) L (vr 13 v x :: S) m) : J G X pc L (vi x :: vr 8 v i :: S) m :=
  J_aald (ty := .object RX2) (n := 24) (c := 6) (t2 := 13) (v2 := v) hX (by decide) rfl rfl (fun _ => rfl) hx (fun h => clo_arr (n := 24) (t := 8) (F := fun v => v) (t2 := 13) (by decide) (by decide +kernel) h hx) dg k
theorem A_21 (hX : JOk G X cc own nL d) {v i x : Int} (hx : 0 ≤ x ∧ x < 6) (dg : decode cc pc = .ok (.aaload, 1)) (k : J G X (pc + 1) L (vr 22 0 x :: S) m) : J G X pc L (vi x :: vr 21 v i :: S) m :=
  J_aald (ty := .array .int) (n := 6) (c := 3) (t2 := 22) (v2 := 0) hX (by decide) rfl rfl (fun _ => rfl) hx (fun h => clo_arr (n := 6) (t := 21) (F := fun v => 0) (t2 := 22) (by decide) (by decide +kernel) h hx) dg k
theorem A_24 (hX : JOk G X cc own nL d) {v i x : Int} (hx : 0 ≤ x ∧ x < 35) (dg : decode cc pc = .ok (.aaload, 1)) (k : J G X (pc + 1) L (vr 25 0 x :: S) m) : J G X pc L (vi x :: vr 24 v i :: S) m :=
  J_aald (ty := .array .int) (n := 35) (c := 3) (t2 := 25) (v2 := 0) hX (by decide) rfl rfl (fun _ => rfl) hx (fun h => clo_arr (n := 35) (t := 24) (F := fun v => 0) (t2 := 25) (by decide) (by decide +kernel) h hx) dg k
theorem A_26 (hX : JOk G X cc own nL d) {v i x : Int} (hx : 0 ≤ x ∧ x < 3) (dg : decode cc pc = .ok (.aaload, 1)) (k : J G X (pc + 1) L (vr 27 0 x :: S) m) : J G X pc L (vi x :: vr 26 v i :: S) m :=
  J_aald (ty := .array .int) (n := 3) (c := 3) (t2 := 27) (v2 := 0) hX (by decide) rfl rfl (fun _ => rfl) hx (fun h => clo_arr (n := 3) (t := 26) (F := fun v => 0) (t2 := 27) (by decide) (by decide +kernel) h hx) dg k
/-! the two static tables -/
theorem J_gets60 (hX : JOk G X cc own nL d) {idx : Nat} (dg : decode cc pc = .ok (.getstatic idx, 3)) (hl : Cond.fieldLink own idx RX6 "KIND_LETTERS" "[C" ∈ lw_tbl) (k : J G X (pc + 3) L (vr 60 0 0 :: S) m) : J G X pc L S m := by
  refine J_step (fun _ h _ => h.cons (a := vr 60 0 0) (Or.inl (by decide))) k fun _ _ _ _ _ _ _ _ _ _ _ _ _ _ e0 H locs ls _ hs _ hH hS _ kk => ?_
  obtain ⟨cf, kf, fi, f, a, cell, h1, h2, h3, h4, h5, h6, h7, h8⟩ := (hX.x e0).2.2.2.2.2.2.1.1
  exact W.gets (hX.x e0).1 (hX.x e0).2.1 (hX.x e0).2.2.2.1 (hX.fl e0 hl rfl) h1 h2 h3 h4 (by rw [hS.2.1 a (Array.getElem?_eq_some_iff.mp h5).1 h8]; exact h5) (fun e => by rw [e] at h6; cases h6) h7 rfl dg kk
theorem J_gets61 (hX : JOk G X cc own nL d) {idx : Nat} (dg : decode cc pc = .ok (.getstatic idx, 3)) (hl : Cond.fieldLink own idx RX1 "LEAST_TO_GIVE" "[I" ∈ lw_tbl) (k : J G X (pc + 3) L (vr 61 0 0 :: S) m) : J G X pc L S m := by
  refine J_step (fun _ h _ => h.cons (a := vr 61 0 0) (Or.inl (by decide))) k fun _ _ _ _ _ _ _ _ _ _ _ _ _ _ e0 H locs ls _ hs _ hH hS _ kk => ?_
  obtain ⟨cf, kf, fi, f, a, cell, h1, h2, h3, h4, h5, h6, h7, h8⟩ := (hX.x e0).2.2.2.2.2.2.1.2.1
  exact W.gets (hX.x e0).1 (hX.x e0).2.1 (hX.x e0).2.2.2.1 (hX.fl e0 hl rfl) h1 h2 h3 h4 (by rw [hS.2.1 a (Array.getElem?_eq_some_iff.mp h5).1 h8]; exact h5) (fun e => by rw [e] at h6; cases h6) h7 rfl dg kk
theorem klf_r (j : Nat) : inR (klf j) := by
  unfold klf
  rcases j with _ | _ | _ | _ | _ | _ | j <;> simp <;> decide
theorem lgf_r (j : Nat) : inR (lgf j) := by
  unfold lgf
  rcases j with _ | _ | _ | _ | _ | _ | j <;> simp <;> decide
theorem J_cald60 (hX : JOk G X cc own nL d) {x : Int} (hx : 0 ≤ x ∧ x < 6) (dg : decode cc pc = .ok (.caload, 1)) (k : J G X (pc + 1) L (vi (klf x.toNat) :: S) m) : J G X pc L (vi x :: vr 60 0 0 :: S) m := by
  refine J_step (fun _ h _ => h.tl.tl.consI (klf_r _)) k fun _ _ _ _ _ _ _ _ _ _ _ _ _ _ e0 H locs ls _ hs _ hH hS _ kk => ?_
  obtain ⟨cell, h1, h2, h3, h4, h5, h6, h7⟩ := (hX.x e0).2.2.2.2.2.2.1.2.2.1
  have hr : inR x := hs.hd
  have hH1 : H[G.2.2.2.1 60]? = some cell := by rw [hS.2.1 _ (Array.getElem?_eq_some_iff.mp h1).1 h7]; exact h1
  have hc := rI_clamp hr hx.1
  refine W.cald (hX.x e0).1 (hX.x e0).2.1 hH1 h2 h3 ?_ (by rw [hc]; exact h6 _ (by omega)) rfl rfl dg kk
  rintro (q | q)
  · rw [← rI_0, rI_lt hr (by decide)] at q
    omega
  · rw [hc] at q
    omega
theorem J_iald61 (hX : JOk G X cc own nL d) {x : Int} (hx : 0 ≤ x ∧ x < 6) (dg : decode cc pc = .ok (.iaload, 1)) (k : J G X (pc + 1) L (vi (lgf x.toNat) :: S) m) : J G X pc L (vi x :: vr 61 0 0 :: S) m := by
  refine J_step (fun _ h _ => h.tl.tl.consI (lgf_r _)) k fun _ _ _ _ _ _ _ _ _ _ _ _ _ _ e0 H locs ls _ hs _ hH hS _ kk => ?_
  obtain ⟨cell, h1, h2, h3, h4, h5, h6, h7⟩ := (hX.x e0).2.2.2.2.2.2.1.2.2.2.1
  have hr : inR x := hs.hd
  have hH1 : H[G.2.2.2.1 61]? = some cell := by rw [hS.2.1 _ (Array.getElem?_eq_some_iff.mp h1).1 h7]; exact h1
  have hc := rI_clamp hr hx.1
  refine W.iald (hX.x e0).1 (hX.x e0).2.1 hH1 h2 h3 ?_ (by rw [hc]; exact h6 _ (by omega)) rfl rfl dg kk
  rintro (q | q)
  · rw [← rI_0, rI_lt hr (by decide)] at q
    omega
  · rw [hc] at q
    omega
theorem J_alen60 (hX : JOk G X cc own nL d) (dg : decode cc pc = .ok (.arraylength, 1)) (k : J G X (pc + 1) L (vi 6 :: S) m) : J G X pc L (vr 60 0 0 :: S) m := by
  refine J_step (fun _ h _ => h.tl.consI (by show inR 6; decide)) k fun _ _ _ _ _ _ _ _ _ _ _ _ _ _ e0 H locs ls _ hs _ hH hS _ kk => ?_
  obtain ⟨cell, h1, h2, h3, h4, h5, h6, h7⟩ := (hX.x e0).2.2.2.2.2.2.1.2.2.1
  have hH1 : H[G.2.2.2.1 60]? = some cell := by rw [hS.2.1 _ (Array.getElem?_eq_some_iff.mp h1).1 h7]; exact h1
  exact W.alen (n := Int32.ofInt 6) (hX.x e0).1 (hX.x e0).2.1 hH1 h2 (by rw [h5]; rfl) rfl rfl dg kk
theorem J_alenG (hX : JOk G X cc own nL d) {t : Nat} {v i : Int} {n : Int} (ha : aI t = true) (hn : n = aln t) (dg : decode cc pc = .ok (.arraylength, 1)) (k : J G X (pc + 1) L (vi n :: S) m) : J G X pc L (vr t v i :: S) m := by
  have hb : ∀ t, aln t ≤ 267 := by
    intro t
    unfold aln
    split <;> omega
  have hb1 := hb t
  refine J_step (fun _ h _ => h.tl.consI (by show inR n; omega)) k fun _ _ _ _ _ _ _ _ _ _ _ _ _ _ e0 H locs ls _ hs _ hH _ _ kk => ?_
  have hv : vok t v i := vok_of hs.hd (aI_lt ha)
  have hg := allc_get (G := G) (m := m) hv
  rw [aI_ok t (aI_of ha)] at hg
  exact va_alen (v := Int32.ofInt n) (hX.x e0).1 (hX.x e0).2.1 (hX.x e0).2.2.2.2.2.1 hH (ix t v i) 0 hg (ty := .int) rfl (by rw [hn]; exact (Int32.ofInt_eq_ofNat).symm) dg kk
/-! Math and System -/
theorem JOk.w1 (hX : JOk G X cc own nL d) {p : Program} {l : Launch} {e : Env} {R : Room} {s : State} {mi : MethodId} {args : Array Value} {below : List Frame} {meth : Method} {c : Code} {cells slots : Nat} {Q : State → Prop} {H0 : Heap} (e0 : X = (p, l, e, R, s, mi, args, below, meth, c, cells, slots, Q, H0)) {k : Nat} (hd : 1 ≤ d) (hk : k ≤ 64) : k ≤ R.locals := by
  have h := (hX.x e0).2.2.2.2.2.2.2.2.2.1
  omega
theorem JOk.f1 (hX : JOk G X cc own nL d) {p : Program} {l : Launch} {e : Env} {R : Room} {s : State} {mi : MethodId} {args : Array Value} {below : List Frame} {meth : Method} {c : Code} {cells slots : Nat} {Q : State → Prop} {H0 : Heap} (e0 : X = (p, l, e, R, s, mi, args, below, meth, c, cells, slots, Q, H0)) (hd : 1 ≤ d) : 1 ≤ R.frames := Nat.le_trans hd (hX.x e0).2.2.2.2.2.2.2.2.1
theorem JOk.ci (hX : JOk G X cc own nL d) {p : Program} {l : Launch} {e : Env} {R : Room} {s : State} {mi : MethodId} {args : Array Value} {below : List Frame} {meth : Method} {c : Code} {cells slots : Nat} {Q : State → Prop} {H0 : Heap} (e0 : X = (p, l, e, R, s, mi, args, below, meth, c, cells, slots, Q, H0)) : cells ≤ R.cells ∧ slots ≤ R.slots := (hX.x e0).2.2.2.2.2.2.2.2.2.2
/-- the words of the operands -/
def wd : List HV → Nat
  | [] => 0
  | w :: r => (if notl w then 1 else 2) + wd r
theorem wd_sum {G : GC} : ∀ S : List HV, ((S.map (tv G)).map fun v => v.category).sum = wd S
  | [] => rfl
  | w :: r => by
    have h := wd_sum (G := G) r
    rw [List.map_cons, List.map_cons, List.sum_cons, h]
    show _ = (if notl w then 1 else 2) + wd r
    congr 1
    rcases w with x | x | x | x <;> rfl
theorem J_mmax (hX : JOk G X cc own nL d) {idx : Nat} {x y : Int} (hL : L.length = nL) (hd : 1 ≤ d) (hS : wd S ≤ 8) (dg : decode cc pc = .ok (.invokestatic idx, 3)) (hl : Cond.methodLink own idx yJ9_max_7cf53 ∈ lw_tbl) (k : J G X (pc + 3) L (vi (max x y) :: S) m) : J G X pc L (vi y :: vi x :: S) m := by
  refine J_step (fun _ h _ => h.tl.tl.consI (by have h1 : inR y := h.hd; have h2 : inR x := h.tl.hd; exact (show inR (max x y) by omega))) k fun _ _ _ _ _ _ _ _ _ _ _ _ _ _ e0 H locs ls _ hs _ hH _ hLh kk => ?_
  refine va_mmax (hX.x e0).1 (hX.x e0).2.1 (by rw [(hX.x e0).2.2.1, hLh.1]; exact hL.symm) (hX.x e0).2.2.2.1 (hX.fl e0 hl rfl) (hX.fl e0 mS_J9_max_7cf53 rfl) (hX.fl e0 mN_java_lang_Math rfl) (hX.fl e0 mC_J9_max_7cf53 rfl) (hX.f1 e0 hd) (by rw [wd_sum]; exact hX.w1 e0 hd (by omega)) (hX.ci e0).1 (hX.ci e0).2 dg ?_
  have e : (if Int32.ofInt x < Int32.ofInt y then Int32.ofInt y else Int32.ofInt x) = Int32.ofInt (max x y) := by
    by_cases h : x < y
    · rw [if_pos ((rI_lt hs.tl.hd hs.hd).mpr h), show max x y = y by omega]
    · rw [if_neg (fun q => h ((rI_lt hs.tl.hd hs.hd).mp q)), show max x y = x by omega]
  rw [e]
  exact kk
theorem J_mmin (hX : JOk G X cc own nL d) {idx : Nat} {x y : Int} (hL : L.length = nL) (hd : 1 ≤ d) (hS : wd S ≤ 8) (dg : decode cc pc = .ok (.invokestatic idx, 3)) (hl : Cond.methodLink own idx yJ9_min_7cf53 ∈ lw_tbl) (k : J G X (pc + 3) L (vi (min x y) :: S) m) : J G X pc L (vi y :: vi x :: S) m := by
  refine J_step (fun _ h _ => h.tl.tl.consI (by have h1 : inR y := h.hd; have h2 : inR x := h.tl.hd; exact (show inR (min x y) by omega))) k fun _ _ _ _ _ _ _ _ _ _ _ _ _ _ e0 H locs ls _ hs _ hH _ hLh kk => ?_
  refine va_mmin (hX.x e0).1 (hX.x e0).2.1 (by rw [(hX.x e0).2.2.1, hLh.1]; exact hL.symm) (hX.x e0).2.2.2.1 (hX.fl e0 hl rfl) (hX.fl e0 mS_J9_min_7cf53 rfl) (hX.fl e0 mN_java_lang_Math rfl) (hX.fl e0 mC_J9_min_7cf53 rfl) (hX.f1 e0 hd) (by rw [wd_sum]; exact hX.w1 e0 hd (by omega)) (hX.ci e0).1 (hX.ci e0).2 dg ?_
  have e : (if Int32.ofInt y < Int32.ofInt x then Int32.ofInt y else Int32.ofInt x) = Int32.ofInt (min x y) := by
    by_cases h : y < x
    · rw [if_pos ((rI_lt hs.hd hs.tl.hd).mpr h), show min x y = y by omega]
    · rw [if_neg (fun q => h ((rI_lt hs.hd hs.tl.hd).mp q)), show min x y = x by omega]
  rw [e]
  exact kk
theorem J_lmax (hX : JOk G X cc own nL d) {idx : Nat} {x y : Int} (hL : L.length = nL) (hd : 1 ≤ d) (hS : wd S ≤ 8) (dg : decode cc pc = .ok (.invokestatic idx, 3)) (hl : Cond.methodLink own idx yJ9_max_f86c9 ∈ lw_tbl) (k : J G X (pc + 3) L (vl (max x y) :: S) m) : J G X pc L (vl y :: vl x :: S) m := by
  refine J_step (fun _ h _ => h.tl.tl.consL (by have h1 : inL y := h.hd; have h2 : inL x := h.tl.hd; exact (show inL (max x y) by omega))) k fun _ _ _ _ _ _ _ _ _ _ _ _ _ _ e0 H locs ls _ hs _ hH _ hLh kk => ?_
  refine va_mmax_long (hX.x e0).1 (hX.x e0).2.1 (by rw [(hX.x e0).2.2.1, hLh.1]; exact hL.symm) (hX.x e0).2.2.2.1 (hX.fl e0 hl rfl) (hX.fl e0 mS_J9_max_f86c9 rfl) (hX.fl e0 mN_java_lang_Math rfl) (hX.fl e0 mC_J9_max_f86c9 rfl) (hX.f1 e0 hd) (by rw [wd_sum]; exact hX.w1 e0 hd (by omega)) (hX.ci e0).1 (hX.ci e0).2 dg ?_
  have e : (if Int64.ofInt y < Int64.ofInt x then Int64.ofInt x else Int64.ofInt y) = Int64.ofInt (max x y) := by
    by_cases h : y < x
    · rw [if_pos ((rL_lt hs.hd hs.tl.hd).mpr h), show max x y = x by omega]
    · rw [if_neg (fun q => h ((rL_lt hs.hd hs.tl.hd).mp q)), show max x y = y by omega]
  rw [e]
  exact kk
theorem nfw : nativeFrameWords "java/lang/System" "arraycopy" 5 = 7 := by decide +kernel
/-- n numbers of f, then those of g -/
def cpr (f g : Int → Int) (n : Int) : Int → Int := fun j => if 0 ≤ j ∧ j < n then f j else g j
theorem J_copy (hX : JOk G X cc own nL d) {idx t1 t2 : Nat} {v1 i1 v2 i2 n : Int} (ha1 : aI t1 = true) (ha2 : aI t2 = true) (hn : 0 ≤ n ∧ n ≤ aln t1 ∧ n ≤ aln t2) (hL : L.length = nL) (hd : 1 ≤ d) (hS : wd S ≤ 8) (dg : decode cc pc = .ok (.invokestatic idx, 3)) (hl : Cond.methodLink own idx arraycopyName ∈ lw_tbl) (k : J G X (pc + 3) L S (upr m t2 v2 i2 (cpr (m t1 v1 i1) (m t2 v2 i2) n))) : J G X pc L (vi n :: vi 0 :: vr t2 v2 i2 :: vi 0 :: vr t1 v1 i1 :: S) m := by
  obtain ⟨p, l, e, R, s, mi, args, below, meth, c, cells, slots, Q, H0⟩ := X
  intro h1 h2 h3 H locs ls hH hS0 hLh
  have hv2 : vok t2 v2 i2 := vok_of h2.tl.tl.hd (aI_lt ha2)
  have hv1 : vok t1 v1 i1 := vok_of h2.tl.tl.tl.tl.hd (aI_lt ha1)
  have hg1 := allc_get (G := G) (m := m) hv1
  rw [aI_ok t1 (aI_of ha1)] at hg1
  have hg2 := allc_get (G := G) (m := m) hv2
  rw [aI_ok t2 (aI_of ha2)] at hg2
  have hr : inR n := h2.hd
  have hcn := rI_clamp hr hn.1
  have hc0 : (Int32.ofInt 0).toNatClampNeg = 0 := rfl
  refine va_copyi (hX.x rfl).1 (hX.x rfl).2.1 (by rw [(hX.x rfl).2.2.1, hLh.1]; exact hL.symm) (hX.x rfl).2.2.2.1 (hX.fl rfl hl rfl) (hX.fl rfl mAC_native rfl) (hX.fl rfl mS_arraycopy rfl) (hX.fl rfl mN_java_lang_System rfl) (hX.x rfl).2.2.2.2.2.1 hH (allc_D G m) hS0 (ix t1 v1 i1) (ix t2 v2 i2) 0 0 hg1 hg2 (ty := .int) rfl rfl rfl
    (by decide) (by decide) (by rw [← rI_0, rI_lt hr (by decide)]; omega) (by rw [hcn, hc0]; omega) (by rw [hcn, hc0]; omega) (fun i _ => rfl) (hX.f1 rfl hd) (by rw [wd_sum]; exact hX.w1 rfl hd (by rw [nfw]; omega)) dg fun H1 locs1 hP hD hS1 => ?_
  rw [hcn, hc0] at hP
  have e : (va_cpy (fun j : Nat => Int32.ofInt (m t1 v1 i1 j)) (fun j : Nat => Int32.ofInt (m t2 v2 i2 j)) 0 0 n.toNat) = fun j : Nat => Int32.ofInt (cpr (m t1 v1 i1) (m t2 v2 i2) n j) := by
    funext j
    unfold va_cpy cpr
    by_cases h : j < n.toNat
    · rw [if_pos (by omega), if_pos (by omega)]
      simp
    · rw [if_neg (by omega), if_neg (by omega)]
  rw [e, ← aI_ok t2 (aI_of ha2) G v2 i2 (cpr (m t1 v1 i1) (m t2 v2 i2) n), allc_set hv2] at hP
  refine k h1 h2.tl.tl.tl.tl.tl (fun t v i j => ?_) H1 locs1 ls hP hS1 hLh
  unfold upr
  split
  · unfold cpr
    split <;> exact h3 _ _ _ _
  · exact h3 _ _ _ _
/-! a method's end -/
theorem J_iret {Post : Option HV → HM → Prop} {x : Int} (hX : JOk G X cc own nL d) (hR : JRt G X Post (some .int)) (dg : decode cc pc = .ok (.ireturn, 1)) (h : Post (some (vi x)) m) : J G X pc L [vi x] m := by
  obtain ⟨p, l, e, R, s, mi, args, below, meth, c, cells, slots, Q, H0⟩ := X
  intro h1 h2 h3 H locs ls hH hS0 hLh
  obtain ⟨rfl, rfl, hrt, hlk⟩ := hR
  exact W.iret (hX.x rfl).1 (hX.x rfl).2.1 hrt (fun t ht hW => ⟨⟨some (vi x), m, rfl, h, fun w hw => by cases hw; exact h2.hd, h3, by rw [ht]; exact hH⟩, hS0.F ht⟩) hS0.2.2 dg hlk
theorem J_zret {Post : Option HV → HM → Prop} {x : Int} (hX : JOk G X cc own nL d) (hR : JRt G X Post (some .boolean)) (dg : decode cc pc = .ok (.ireturn, 1)) (hx : x = 0 ∨ x = 1) (h : Post (some (vi x)) m) : J G X pc L [vi x] m := by
  obtain ⟨p, l, e, R, s, mi, args, below, meth, c, cells, slots, Q, H0⟩ := X
  intro h1 h2 h3 H locs ls hH hS0 hLh
  obtain ⟨rfl, rfl, hrt, hlk⟩ := hR
  exact W.zret (hX.x rfl).1 (hX.x rfl).2.1 hrt (nar_bool hx) (fun t ht hW => ⟨⟨some (vi x), m, rfl, h, fun w hw => by cases hw; exact h2.hd, h3, by rw [ht]; exact hH⟩, hS0.F ht⟩) hS0.2.2 dg hlk
theorem J_lret {Post : Option HV → HM → Prop} {x : Int} (hX : JOk G X cc own nL d) (hR : JRt G X Post (some .long)) (dg : decode cc pc = .ok (.lreturn, 1)) (h : Post (some (vl x)) m) : J G X pc L [vl x] m := by
  obtain ⟨p, l, e, R, s, mi, args, below, meth, c, cells, slots, Q, H0⟩ := X
  intro h1 h2 h3 H locs ls hH hS0 hLh
  obtain ⟨rfl, rfl, hrt, hlk⟩ := hR
  exact W.lret (hX.x rfl).1 (hX.x rfl).2.1 hrt (fun t ht hW => ⟨⟨some (vl x), m, rfl, h, fun w hw => by cases hw; exact h2.hd, h3, by rw [ht]; exact hH⟩, hS0.F ht⟩) hS0.2.2 dg hlk
theorem J_vret {Post : Option HV → HM → Prop} (hX : JOk G X cc own nL d) (hR : JRt G X Post none) (dg : decode cc pc = .ok (.return_, 1)) (h : Post none m) : J G X pc L [] m := by
  obtain ⟨p, l, e, R, s, mi, args, below, meth, c, cells, slots, Q, H0⟩ := X
  intro h1 h2 h3 H locs ls hH hS0 hLh
  obtain ⟨rfl, rfl, hrt, hlk⟩ := hR
  exact W.vret (hX.x rfl).1 (hX.x rfl).2.1 hrt (fun t ht hW => ⟨⟨none, m, rfl, h, (fun w hw => by cases hw), h3, by rw [ht]; exact hH⟩, hS0.F ht⟩) hS0.2.2 dg hlk
/-! calls -/
def CBd (y : MethodName) (cc : ByteArray) (nL : Nat) (rt : Option FieldType) (n : Nat) : Prop := Cond.code y cc nL rt ∈ lw_tbl ∧ Cond.initialized y.cls ∈ lw_tbl ∧ (y.cls ≠ "java/lang/invoke/MethodHandle" ∧ y.cls ≠ "java/lang/invoke/VarHandle" ∧ (parseMethodDescriptor y.desc).map (fun d => d.parameters.length) = some n) ∧ nL ≤ 45
def CBV (y : MethodName) (cc : ByteArray) (nL : Nat) (rt : Option FieldType) (n : Nat) : Prop := CBd y cc nL rt n ∧ Cond.instanceMethod y ∈ lw_tbl ∧ Cond.selects y.cls y y ∈ lw_tbl
def CBS (y : MethodName) (cc : ByteArray) (nL : Nat) (rt : Option FieldType) (n : Nat) : Prop := CBd y cc nL rt n ∧ Cond.static y ∈ lw_tbl
theorem good_lw {y : MethodName} {cc : ByteArray} {nL : Nat} {rt : Option FieldType} (h : Cond.code y cc nL rt ∈ lw_tbl) : GoodIn lw_g (.code y cc nL rt :: lw_g) := by
  intro w hw
  rcases List.mem_cons.mp hw with rfl | h1
  · exact ⟨mem_g h rfl, good_of_word rfl⟩
  · exact ⟨h1, good_of_word (List.mem_filter.mp h1).2⟩
theorem blind_va {G : GC} {m : HM} {av : List Value} : FrameBlind (va_Pc av (World G m)) := by
  intro a U g mk q
  exact ⟨q.1, q.2.1, va_K.moved (u := U) (U := U.calling g mk a) (Vm.Alike.refl U.vm) q.2.2.1, Spc.moved (u := U) (U := U.calling g mk a) (Vm.Alike.refl U.vm) (va_Nw.same (by rfl) (by rfl)) q.2.2.2⟩
theorem world_at {G : GC} {m : HM} {s U : State} {H0 H : Heap} {locs : List Loc} (hT : Tabs G s) (hSp : Spc G s H0) (hH : Holds G m H) (hS : va_S (fr G) H0 H locs) (hU : U.heap = H) (hW : s.WarmedH U.vm) : World G m U :=
  ⟨by rw [hU]; exact hH, va_K.moved hW.alike hT, by rw [hU]; exact (hSp.moved hW.alike (va_Nw.warmM hW)).kept (fun a h1 h2 => hS.2.1 a h1 h2)⟩
/-- behind a call -/
theorem J_run {p : Program} {l : Launch} {e : Env} {R : Room} {s : State} {mi : MethodId} {args : Array Value} {below : List Frame} {meth : Method} {c : Code} {cells slots : Nat} {Q : State → Prop} {H0 H : Heap} {locs : List Loc} {ls : Array Slot} {st0 : List Value} {a : Array Value} {Post : Option HV → HM → Prop} (hr : va_Run p l e R s mi args below meth c H locs cells slots 0 0 (F0 mi pc ls st0) (S.map (tv G)) (Qm G Post a) (fr G)) (hS0 : va_S (fr G) H0 H locs) (hLh : Lh G ls L) (hcL : cnL L) (hcS : cnL S)
    (k : ∀ r m', Post r m' → (∀ w, r = some w → cn w) → J G (p, l, e, R, s, mi, args, below, meth, c, cells, slots, Q, H0) (pc + 3) L (r.toList ++ S) m') : W p l e R s mi args below meth c H locs cells slots Q (F0 mi pc ls st0) := by
  intro T hT Xs
  obtain ⟨v, st₀, t, T', L1, h0, X', hL1, e1, e2, ⟨⟨r, m', hv, hP, hcr, hrng, hH⟩, hz, hk⟩, st⟩ := hr T hT Xs
  rw [h0] at hz hk
  have hv' : v = r.map (tv G) := by cases hv; rfl
  have hS1 : va_S (fr G) H0 T'.heap (locs ++ L1) := ⟨Nat.le_trans hS0.1 (by rw [e1]; exact hz), fun q g1 g2 => by rw [e1, hk q (Nat.lt_of_lt_of_le g1 hS0.1) g2]; exact hS0.2.1 q g1 g2, fun q hq => by
    rcases List.mem_append.mp hq with h | h
    · exact hS0.2.2 q h
    · exact hL1 q h⟩
  have hcS' : cnL (r.toList ++ S) := by
    intro w hw
    rcases List.mem_append.mp hw with h | h
    · exact hcr w (Option.mem_toList.mp h)
    · exact hcS w h
  have K := k r m' hP hcr hcL hcS' hrng T'.heap (locs ++ L1) ls (by rw [e1]; exact hH) hS1 hLh
  have es : (r.toList ++ S).map (tv G) = v.toList ++ S.map (tv G) := by
    rw [hv']
    cases r <;> simp
  rw [es] at K
  obtain ⟨t2, a1, b1⟩ := K T' rfl X'
  exact ⟨t2, st t2 a1, b1⟩
def oc (t : Nat) : Option Nat := match t with
  | 0 => some 9
  | 1 => some 7
  | 9 => some 3
  | 11 => some 8
  | 13 => some 2
  | 14 => some 6
  | 17 => some 1
  | 20 => some 4
  | 23 => some 5
  | 29 => some 0
  | 40 => some 10
  | _ => none
theorem oc_ok {t ci : Nat} (h : oc t = some ci) : t < 60 ∧ ∀ (G : GC) (v i : Int) (f : Int → Int), ∃ fs, cellF G t v i f = .inr (ci, fs) := by
  unfold oc at h
  split at h <;> first | (cases h; exact ⟨by decide, fun G v i f => ⟨_, rfl⟩⟩) | cases h
end JRows
