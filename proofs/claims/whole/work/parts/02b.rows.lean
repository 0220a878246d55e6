section JRows
variable {G : GC} {X : JX} {cc : ByteArray} {own : String} {nL d : Nat} {L S : List HV} {m : HM} {pc : Nat}
/-- what is known of the things at hand -/
theorem J_know (k : cnL L → cnL S → Rng m → J G X pc L S m) : J G X pc L S m := by
  obtain ⟨p, l, e, R, s, mi, args, below, meth, c, cells, slots, Q, H0⟩ := X
  intro h1 h2 h3
  exact k h1 h2 h3 h1 h2 h3
theorem J_rng {x : Int} (k : inR x → J G X pc L (vi x :: S) m) : J G X pc L (vi x :: S) m := J_know fun _ h _ => k h.hd
theorem J_rngM (k : Rng m → J G X pc L S m) : J G X pc L S m := J_know fun _ _ h => k h
/-- a straight step -/
theorem J_step {pc' : Nat} {S' : List HV} (hS : cnL L → cnL S → Rng m → cnL S') (k : J G X pc' L S' m)
    (hw : ∀ (p : Program) (l : Launch) (e : Env) (R : Room) (s : State) (mi : MethodId) (args : Array Value) (below : List Frame) (meth : Method) (c : Code) (cells slots : Nat) (Q : State → Prop) (H0 : Heap), X = (p, l, e, R, s, mi, args, below, meth, c, cells, slots, Q, H0) →
      ∀ (H : Heap) (locs : List Loc) (ls : Array Slot), cnL L → cnL S → Rng m → Holds G m H → va_S (fr G) H0 H locs → Lh G ls L → W p l e R s mi args below meth c H locs cells slots Q (F0 mi pc' ls (S'.map (tv G))) → W p l e R s mi args below meth c H locs cells slots Q (F0 mi pc ls (S.map (tv G)))) : J G X pc L S m := by
  obtain ⟨p, l, e, R, s, mi, args, below, meth, c, cells, slots, Q, H0⟩ := X
  intro h1 h2 h3 H locs ls hH hS0 hl
  exact hw _ _ _ _ _ _ _ _ _ _ _ _ _ _ rfl H locs ls h1 h2 h3 hH hS0 hl (k h1 (hS h1 h2 h3) h3 H locs ls hH hS0 hl)
theorem JOk.x {p : Program} {l : Launch} {e : Env} {R : Room} {s : State} {mi : MethodId} {args : Array Value} {below : List Frame} {meth : Method} {c : Code} {cells slots : Nat} {Q : State → Prop} {H0 : Heap} (hX : JOk G X cc own nL d) (e0 : X = (p, l, e, R, s, mi, args, below, meth, c, cells, slots, Q, H0)) : p.tables.exec = Jvm.exec ∧ c.code = cc ∧ c.maxLocals = nL ∧ s.vm.findClass own = some mi.cls ∧ (∀ w ∈ lw_g, w.before args s = true) ∧ Tabs G s ∧ Spc G s H0 ∧ G.2.2.2.2.2 = l ∧ d ≤ R.frames ∧ 64 * d ≤ R.locals ∧ cells ≤ R.cells ∧ slots ≤ R.slots := by
  subst e0
  exact hX
theorem J_iconst (hX : JOk G X cc own nL d) {n : Int} (hn : inR n) (dg : decode cc pc = .ok (.iconst n, 1)) (k : J G X (pc + 1) L (vi n :: S) m) : J G X pc L S m :=
  J_step (fun _ h _ => h.consI hn) k fun _ _ _ _ _ _ _ _ _ _ _ _ _ _ e0 H locs ls _ _ _ _ _ _ kk => lv_iconst (hX.x e0).1 (hX.x e0).2.1 dg rfl kk
theorem J_bipush (hX : JOk G X cc own nL d) {n : Int} (hn : -128 ≤ n ∧ n ≤ 127) (dg : decode cc pc = .ok (.bipush n, 2)) (k : J G X (pc + 2) L (vi n :: S) m) : J G X pc L S m :=
  J_step (fun _ h _ => h.consI (show inR n by omega)) k fun _ _ _ _ _ _ _ _ _ _ _ _ _ _ e0 H locs ls _ _ _ _ _ _ kk => lv_bipush (hX.x e0).1 (hX.x e0).2.1 dg (Int8.toInt32_ofInt (by have : Int8.minValue.toInt = -128 := rfl; omega) (by have : Int8.maxValue.toInt = 127 := rfl; omega)) kk
theorem J_sipush (hX : JOk G X cc own nL d) {n : Int} (hn : -32768 ≤ n ∧ n ≤ 32767) (dg : decode cc pc = .ok (.sipush n, 3)) (k : J G X (pc + 3) L (vi n :: S) m) : J G X pc L S m :=
  J_step (fun _ h _ => h.consI (show inR n by omega)) k fun _ _ _ _ _ _ _ _ _ _ _ _ _ _ e0 H locs ls _ _ _ _ _ _ kk => lv_sipush (hX.x e0).1 (hX.x e0).2.1 dg (Int16.toInt32_ofInt (by have : Int16.minValue.toInt = -32768 := rfl; omega) (by have : Int16.maxValue.toInt = 32767 := rfl; omega)) kk
theorem J_lconst (hX : JOk G X cc own nL d) {n : Fin 2} {x : Int} (hx : x = ((n : Nat) : Int)) (dg : decode cc pc = .ok (.lconst n, 1)) (k : J G X (pc + 1) L (vl x :: S) m) : J G X pc L S m :=
  J_step (fun _ h _ => h.consL (show inL x by omega)) k fun _ _ _ _ _ _ _ _ _ _ _ _ _ _ e0 H locs ls _ _ _ _ _ _ kk => lv_lconst (hX.x e0).1 (hX.x e0).2.1 dg (by rw [hx]; exact (Int64.ofInt_eq_ofNat).symm) kk
theorem J_ldc (hX : JOk G X cc own nL d) {idx : Nat} {x : Int32} {n : Int} (hc : Cond.constant own idx x ∈ lw_tbl) (hg : goodWord (Cond.constant own idx x) = true) (hn : Int32.ofInt n = x) (hr : inR n) (dg : decode cc pc = .ok (.ldc idx, 2)) (k : J G X (pc + 2) L (vi n :: S) m) : J G X pc L S m := by
  subst hn
  exact J_step (fun _ h _ => h.consI hr) k fun _ _ _ _ _ _ _ _ _ _ _ _ _ _ e0 H locs ls _ _ _ _ _ _ kk => lv_ldc (hX.x e0).1 (hX.x e0).2.1 (hX.x e0).2.2.2.1 ((hX.x e0).2.2.2.2.1 _ (mem_g hc hg)) dg kk
theorem J_ldc2 (hX : JOk G X cc own nL d) {idx : Nat} {x : Int64} {n : Int} (hc : Cond.constantLong own idx x ∈ lw_tbl) (hg : goodWord (Cond.constantLong own idx x) = true) (hn : Int64.ofInt n = x) (hr : inL n) (dg : decode cc pc = .ok (.ldc2_w idx, 3)) (k : J G X (pc + 3) L (vl n :: S) m) : J G X pc L S m := by
  subst hn
  exact J_step (fun _ h _ => h.consL hr) k fun _ _ _ _ _ _ _ _ _ _ _ _ _ _ e0 H locs ls _ _ _ _ _ _ kk => lv_ldc2 (hX.x e0).1 (hX.x e0).2.1 (hX.x e0).2.2.2.1 ((hX.x e0).2.2.2.2.1 _ (mem_g hc hg)) dg kk
theorem vi_ne {x : Int} : vi x ≠ vx := by intro h; cases h
theorem vl_ne {x : Int} : vl x ≠ vx := by intro h; cases h
theorem vr_ne {t : Nat} {v i : Int} : vr t v i ≠ vx := by intro h; cases h
theorem J_iloadN (hX : JOk G X cc own nL d) {f : Fin 4} {i : Nat} {x : Int} (hi : (f : Nat) = i) (h : L[i]? = some (vi x)) (dg : decode cc pc = .ok (.iload_n f, 1)) (k : J G X (pc + 1) L (vi x :: S) m) : J G X pc L S m :=
  J_step (fun h1 h2 _ => h2.cons (h1.at h)) k fun _ _ _ _ _ _ _ _ _ _ _ _ _ _ e0 H locs ls _ _ _ _ _ hl kk => lv_iload_n (hX.x e0).1 (hX.x e0).2.1 dg hi (hl.at h vi_ne) kk
theorem J_iload (hX : JOk G X cc own nL d) {i : Nat} {x : Int} (h : L[i]? = some (vi x)) (dg : decode cc pc = .ok (.iload i, 2)) (k : J G X (pc + 2) L (vi x :: S) m) : J G X pc L S m :=
  J_step (fun h1 h2 _ => h2.cons (h1.at h)) k fun _ _ _ _ _ _ _ _ _ _ _ _ _ _ e0 H locs ls _ _ _ _ _ hl kk => lv_iload (hX.x e0).1 (hX.x e0).2.1 dg (hl.at h vi_ne) kk
theorem J_lloadN (hX : JOk G X cc own nL d) {f : Fin 4} {i : Nat} {x : Int} (hi : (f : Nat) = i) (h : L[i]? = some (vl x)) (dg : decode cc pc = .ok (.lload_n f, 1)) (k : J G X (pc + 1) L (vl x :: S) m) : J G X pc L S m :=
  J_step (fun h1 h2 _ => h2.cons (h1.at h)) k fun _ _ _ _ _ _ _ _ _ _ _ _ _ _ e0 H locs ls _ _ _ _ _ hl kk => lv_lload_n (hX.x e0).1 (hX.x e0).2.1 dg hi (hl.at h vl_ne) kk
theorem J_lload (hX : JOk G X cc own nL d) {i : Nat} {x : Int} (h : L[i]? = some (vl x)) (dg : decode cc pc = .ok (.lload i, 2)) (k : J G X (pc + 2) L (vl x :: S) m) : J G X pc L S m :=
  J_step (fun h1 h2 _ => h2.cons (h1.at h)) k fun _ _ _ _ _ _ _ _ _ _ _ _ _ _ e0 H locs ls _ _ _ _ _ hl kk => lv_lload (hX.x e0).1 (hX.x e0).2.1 dg (hl.at h vl_ne) kk
theorem J_aloadN (hX : JOk G X cc own nL d) {f : Fin 4} {i : Nat} {t : Nat} {v j : Int} (hi : (f : Nat) = i) (h : L[i]? = some (vr t v j)) (dg : decode cc pc = .ok (.aload_n f, 1)) (k : J G X (pc + 1) L (vr t v j :: S) m) : J G X pc L S m :=
  J_step (fun h1 h2 _ => h2.cons (h1.at h)) k fun _ _ _ _ _ _ _ _ _ _ _ _ _ _ e0 H locs ls _ _ _ _ _ hl kk => lv_aload_n (hX.x e0).1 (hX.x e0).2.1 dg hi (hl.at h vr_ne) kk
theorem J_aload (hX : JOk G X cc own nL d) {i : Nat} {t : Nat} {v j : Int} (h : L[i]? = some (vr t v j)) (dg : decode cc pc = .ok (.aload i, 2)) (k : J G X (pc + 2) L (vr t v j :: S) m) : J G X pc L S m :=
  J_step (fun h1 h2 _ => h2.cons (h1.at h)) k fun _ _ _ _ _ _ _ _ _ _ _ _ _ _ e0 H locs ls _ _ _ _ _ hl kk => lv_aload (hX.x e0).1 (hX.x e0).2.1 dg (hl.at h vr_ne) kk
theorem Lh_of {G : GC} {ls : Array Slot} {L : List HV} {n : Nat} {l : List (Nat × Value)} (hn : n = L.length) (h : lv_has ls n l) (hs : ∀ q ∈ lp G 0 L, q ∈ l) : Lh G ls L := by
  subst hn
  exact ⟨h.1, h.2.1, fun q hq => h.2.2 q (hs q hq)⟩
/-- a step that stores into a place of the locals -/
theorem J_store {pc' : Nat} {S' L' : List HV} (hS : cnL L → cnL S → cnL S') (hL : cnL L → cnL S → cnL L') (k : J G X pc' L' S' m)
    (hw : ∀ (p : Program) (l : Launch) (e : Env) (R : Room) (s : State) (mi : MethodId) (args : Array Value) (below : List Frame) (meth : Method) (c : Code) (cells slots : Nat) (Q : State → Prop) (H0 : Heap), X = (p, l, e, R, s, mi, args, below, meth, c, cells, slots, Q, H0) →
      ∀ (H : Heap) (locs : List Loc) (ls : Array Slot), Lh G ls L → (∀ ls', Lh G ls' L' → W p l e R s mi args below meth c H locs cells slots Q (F0 mi pc' ls' (S'.map (tv G)))) → W p l e R s mi args below meth c H locs cells slots Q (F0 mi pc ls (S.map (tv G)))) : J G X pc L S m := by
  obtain ⟨p, l, e, R, s, mi, args, below, meth, c, cells, slots, Q, H0⟩ := X
  intro h1 h2 h3 H locs ls hH hS0 hl
  exact hw _ _ _ _ _ _ _ _ _ _ _ _ _ _ rfl H locs ls hl (fun ls' hl' => k (hL h1 h2) (hS h1 h2) h3 H locs ls' hH hS0 hl')
theorem J_istoreN (hX : JOk G X cc own nL d) {f : Fin 4} {i : Nat} {x : Int} (hi : (f : Nat) = i) (hl : i < L.length) (hp : ∀ j a, j + 1 = i → L[j]? = some a → notl a = true) (dg : decode cc pc = .ok (.istore_n f, 1)) (k : J G X (pc + 1) (L.set i (vi x)) S m) : J G X pc L (vi x :: S) m :=
  J_store (fun _ h => h.tl) (fun h1 h2 => h1.set h2.hd) k fun _ _ _ _ _ _ _ _ _ _ _ _ _ _ e0 H locs ls hL kk => lv_istore_n (hX.x e0).1 (hX.x e0).2.1 dg hi hL hl rfl (fun ls' h' => kk ls' (Lh_of (by simp) h' (lp_set1 vi_ne hl hp)))
theorem J_istore (hX : JOk G X cc own nL d) {i : Nat} {x : Int} (hl : i < L.length) (hp : ∀ j a, j + 1 = i → L[j]? = some a → notl a = true) (dg : decode cc pc = .ok (.istore i, 2)) (k : J G X (pc + 2) (L.set i (vi x)) S m) : J G X pc L (vi x :: S) m :=
  J_store (fun _ h => h.tl) (fun h1 h2 => h1.set h2.hd) k fun _ _ _ _ _ _ _ _ _ _ _ _ _ _ e0 H locs ls hL kk => lv_istore (hX.x e0).1 (hX.x e0).2.1 dg hL hl rfl (fun ls' h' => kk ls' (Lh_of (by simp) h' (lp_set1 vi_ne hl hp)))
theorem J_astoreN (hX : JOk G X cc own nL d) {f : Fin 4} {i : Nat} {t : Nat} {v u : Int} (hi : (f : Nat) = i) (hl : i < L.length) (hp : ∀ j a, j + 1 = i → L[j]? = some a → notl a = true) (dg : decode cc pc = .ok (.astore_n f, 1)) (k : J G X (pc + 1) (L.set i (vr t v u)) S m) : J G X pc L (vr t v u :: S) m :=
  J_store (fun _ h => h.tl) (fun h1 h2 => h1.set h2.hd) k fun _ _ _ _ _ _ _ _ _ _ _ _ _ _ e0 H locs ls hL kk => lv_astore_n (hX.x e0).1 (hX.x e0).2.1 dg hi hL hl rfl (fun ls' h' => kk ls' (Lh_of (by simp) h' (lp_set1 vr_ne hl hp)))
theorem J_astore (hX : JOk G X cc own nL d) {i : Nat} {t : Nat} {v u : Int} (hl : i < L.length) (hp : ∀ j a, j + 1 = i → L[j]? = some a → notl a = true) (dg : decode cc pc = .ok (.astore i, 2)) (k : J G X (pc + 2) (L.set i (vr t v u)) S m) : J G X pc L (vr t v u :: S) m :=
  J_store (fun _ h => h.tl) (fun h1 h2 => h1.set h2.hd) k fun _ _ _ _ _ _ _ _ _ _ _ _ _ _ e0 H locs ls hL kk => lv_astore (hX.x e0).1 (hX.x e0).2.1 dg hL hl rfl (fun ls' h' => kk ls' (Lh_of (by simp) h' (lp_set1 vr_ne hl hp)))
theorem J_lstoreN (hX : JOk G X cc own nL d) {f : Fin 4} {i : Nat} {x : Int} (hi : (f : Nat) = i) (hl : i + 1 < L.length) (hp : ∀ j a, j + 1 = i → L[j]? = some a → notl a = true) (dg : decode cc pc = .ok (.lstore_n f, 1)) (k : J G X (pc + 1) ((L.set i (vl x)).set (i + 1) vx) S m) : J G X pc L (vl x :: S) m :=
  J_store (fun _ h => h.tl) (fun h1 h2 => (h1.set h2.hd).set (w := vx) trivial) k fun _ _ _ _ _ _ _ _ _ _ _ _ _ _ e0 H locs ls hL kk => lv_lstore_n (hX.x e0).1 (hX.x e0).2.1 dg hi hL hl rfl (fun ls' h' => kk ls' (Lh_of (by simp) h' (lp_set2 hl hp)))
theorem J_lstore (hX : JOk G X cc own nL d) {i : Nat} {x : Int} (hl : i + 1 < L.length) (hp : ∀ j a, j + 1 = i → L[j]? = some a → notl a = true) (dg : decode cc pc = .ok (.lstore i, 2)) (k : J G X (pc + 2) ((L.set i (vl x)).set (i + 1) vx) S m) : J G X pc L (vl x :: S) m :=
  J_store (fun _ h => h.tl) (fun h1 h2 => (h1.set h2.hd).set (w := vx) trivial) k fun _ _ _ _ _ _ _ _ _ _ _ _ _ _ e0 H locs ls hL kk => lv_lstore (hX.x e0).1 (hX.x e0).2.1 dg hL hl rfl (fun ls' h' => kk ls' (Lh_of (by simp) h' (lp_set2 hl hp)))
theorem J_iincG (hX : JOk G X cc own nL d) {i : Nat} {x n : Int} (h : L[i]? = some (vi x)) (hr : inR x → inR (x + n)) (hp : ∀ j a, j + 1 = i → L[j]? = some a → notl a = true) (dg : decode cc pc = .ok (.iinc i n, 3)) (k : J G X (pc + 3) (L.set i (vi (x + n))) S m) : J G X pc L S m := by
  have hl : i < L.length := (List.getElem?_eq_some_iff.mp h).1
  refine J_store (fun _ h => h) (fun h1 h2 => h1.set (w := vi (x + n)) (hr (h1.at h))) k fun _ _ _ _ _ _ _ _ _ _ _ _ _ _ e0 H locs ls hL kk => ?_
  have h2 : (i, tv G (vi x)) ∈ lp G 0 L := lp_mem.mpr ⟨i, vi x, h, vi_ne, by simp⟩
  obtain ⟨k0, hk0⟩ := List.getElem?_of_mem h2
  exact lv_iinc (k := k0) (v := Int32.ofInt (x + n)) (hX.x e0).1 (hX.x e0).2.1 dg hL hk0 (Int32.ofInt_add _ _).symm hl rfl (fun ls' h' => kk ls' (Lh_of (by simp) h' (lp_set1 (w := vi (x + n)) vi_ne hl hp)))
theorem J_iadd (hX : JOk G X cc own nL d) {x y : Int} (hr : inR x → inR y → inR (x + y)) (dg : decode cc pc = .ok (.iadd, 1)) (k : J G X (pc + 1) L (vi (x + y) :: S) m) : J G X pc L (vi y :: vi x :: S) m :=
  J_step (fun _ h _ => h.tl.tl.consI (hr h.tl.hd h.hd)) k fun _ _ _ _ _ _ _ _ _ _ _ _ _ _ e0 H locs ls _ _ _ _ _ _ kk => lv_iadd (hX.x e0).1 (hX.x e0).2.1 dg (by rw [← Int32.ofInt_add]; exact kk)
theorem J_isub (hX : JOk G X cc own nL d) {x y : Int} (hr : inR x → inR y → inR (x - y)) (dg : decode cc pc = .ok (.isub, 1)) (k : J G X (pc + 1) L (vi (x - y) :: S) m) : J G X pc L (vi y :: vi x :: S) m :=
  J_step (fun _ h _ => h.tl.tl.consI (hr h.tl.hd h.hd)) k fun _ _ _ _ _ _ _ _ _ _ _ _ _ _ e0 H locs ls _ _ _ _ _ _ kk => lv_isub (hX.x e0).1 (hX.x e0).2.1 dg (by rw [← Int32.ofInt_sub]; exact kk)
theorem J_imul (hX : JOk G X cc own nL d) {x y : Int} (hr : inR x → inR y → inR (x * y)) (dg : decode cc pc = .ok (.imul, 1)) (k : J G X (pc + 1) L (vi (x * y) :: S) m) : J G X pc L (vi y :: vi x :: S) m :=
  J_step (fun _ h _ => h.tl.tl.consI (hr h.tl.hd h.hd)) k fun _ _ _ _ _ _ _ _ _ _ _ _ _ _ e0 H locs ls _ _ _ _ _ _ kk => lv_imul (hX.x e0).1 (hX.x e0).2.1 dg (by rw [← Int32.ofInt_mul]; exact kk)
theorem J_ineg (hX : JOk G X cc own nL d) {x : Int} (hr : inR x → inR (-x)) (dg : decode cc pc = .ok (.ineg, 1)) (k : J G X (pc + 1) L (vi (-x) :: S) m) : J G X pc L (vi x :: S) m :=
  J_step (fun _ h _ => h.tl.consI (hr h.hd)) k fun _ _ _ _ _ _ _ _ _ _ _ _ _ _ e0 H locs ls _ _ _ _ _ _ kk => lv_ineg (hX.x e0).1 (hX.x e0).2.1 dg (by rw [← Int32.ofInt_neg]; exact kk)
theorem rI_ne0 {y : Int} (hy : inR y) (h : y ≠ 0) : ¬ Int32.ofInt y = 0 := by rw [← rI_0, rI_eq hy (by decide)]; exact h
theorem rL_eq {x y : Int} (hx : inL x) (hy : inL y) : Int64.ofInt x = Int64.ofInt y ↔ x = y := by rw [← Int64.toInt_inj, rL_toInt hx, rL_toInt hy]
theorem rL_lt {x y : Int} (hx : inL x) (hy : inL y) : Int64.ofInt x < Int64.ofInt y ↔ x < y := by rw [Int64.lt_iff_toInt_lt, rL_toInt hx, rL_toInt hy]
theorem rL_ne0 {y : Int} (hy : inL y) (h : y ≠ 0) : ¬ Int64.ofInt y = 0 := by rw [← rL_0, rL_eq hy (by decide)]; exact h
theorem J_idiv (hX : JOk G X cc own nL d) {x y : Int} (h0 : inR x → inR y → y ≠ 0) (hr : inR x → inR y → inR (x.tdiv y)) (dg : decode cc pc = .ok (.idiv, 1)) (k : J G X (pc + 1) L (vi (x.tdiv y) :: S) m) : J G X pc L (vi y :: vi x :: S) m :=
  J_step (fun _ h _ => h.tl.tl.consI (hr h.tl.hd h.hd)) k fun _ _ _ _ _ _ _ _ _ _ _ _ _ _ e0 H locs ls _ hs _ _ _ _ kk => lv_idiv (hX.x e0).1 (hX.x e0).2.1 dg (rI_ne0 hs.hd (h0 hs.tl.hd hs.hd)) (by rw [rI_tdiv hs.tl.hd hs.hd (hr hs.tl.hd hs.hd)]; exact kk)
theorem J_irem (hX : JOk G X cc own nL d) {x y : Int} (h0 : inR x → inR y → y ≠ 0) (dg : decode cc pc = .ok (.irem, 1)) (k : J G X (pc + 1) L (vi (x.tmod y) :: S) m) : J G X pc L (vi y :: vi x :: S) m := by
  have hm : inR x → inR (x.tmod y) := fun hx => tmod_rng hx.1 hx.2 (by decide) (by decide)
  exact J_step (fun _ h _ => h.tl.tl.consI (hm h.tl.hd)) k fun _ _ _ _ _ _ _ _ _ _ _ _ _ _ e0 H locs ls _ hs _ _ _ _ kk => lv_irem (hX.x e0).1 (hX.x e0).2.1 dg (rI_ne0 hs.hd (h0 hs.tl.hd hs.hd)) (by rw [rI_tmod hs.tl.hd hs.hd]; exact kk)
theorem J_ladd (hX : JOk G X cc own nL d) {x y : Int} (hr : inL x → inL y → inL (x + y)) (dg : decode cc pc = .ok (.ladd, 1)) (k : J G X (pc + 1) L (vl (x + y) :: S) m) : J G X pc L (vl y :: vl x :: S) m :=
  J_step (fun _ h _ => h.tl.tl.consL (hr h.tl.hd h.hd)) k fun _ _ _ _ _ _ _ _ _ _ _ _ _ _ e0 H locs ls _ _ _ _ _ _ kk => lv_ladd (hX.x e0).1 (hX.x e0).2.1 dg (by rw [← Int64.ofInt_add]; exact kk)
theorem J_lsub (hX : JOk G X cc own nL d) {x y : Int} (hr : inL x → inL y → inL (x - y)) (dg : decode cc pc = .ok (.lsub, 1)) (k : J G X (pc + 1) L (vl (x - y) :: S) m) : J G X pc L (vl y :: vl x :: S) m :=
  J_step (fun _ h _ => h.tl.tl.consL (hr h.tl.hd h.hd)) k fun _ _ _ _ _ _ _ _ _ _ _ _ _ _ e0 H locs ls _ _ _ _ _ _ kk => lv_lsub (hX.x e0).1 (hX.x e0).2.1 dg (by rw [← Int64.ofInt_sub]; exact kk)
theorem J_lmul (hX : JOk G X cc own nL d) {x y : Int} (hr : inL x → inL y → inL (x * y)) (dg : decode cc pc = .ok (.lmul, 1)) (k : J G X (pc + 1) L (vl (x * y) :: S) m) : J G X pc L (vl y :: vl x :: S) m :=
  J_step (fun _ h _ => h.tl.tl.consL (hr h.tl.hd h.hd)) k fun _ _ _ _ _ _ _ _ _ _ _ _ _ _ e0 H locs ls _ _ _ _ _ _ kk => lv_lmul (hX.x e0).1 (hX.x e0).2.1 dg (by rw [← Int64.ofInt_mul]; exact kk)
theorem J_ldiv (hX : JOk G X cc own nL d) {x y : Int} (h0 : y ≠ 0) (hr : inL x → inL y → inL (x.tdiv y)) (dg : decode cc pc = .ok (.ldiv, 1)) (k : J G X (pc + 1) L (vl (x.tdiv y) :: S) m) : J G X pc L (vl y :: vl x :: S) m :=
  J_step (fun _ h _ => h.tl.tl.consL (hr h.tl.hd h.hd)) k fun _ _ _ _ _ _ _ _ _ _ _ _ _ _ e0 H locs ls _ hs _ _ _ _ kk => lv_ldiv (hX.x e0).1 (hX.x e0).2.1 dg (rL_ne0 hs.hd h0) (by rw [rL_tdiv hs.tl.hd hs.hd (hr hs.tl.hd hs.hd)]; exact kk)
theorem rL_tmod {x y : Int} (hx : inL x) (hy : inL y) : Int64.ofInt x - Int64.ofInt x / Int64.ofInt y * Int64.ofInt y = Int64.ofInt (x.tmod y) := by
  apply Int64.toInt_inj.mp
  have hm : inL (x.tmod y) := tmod_rng hx.1 hx.2 (by decide) (by decide)
  rw [rL_toInt hm, Int64.toInt_sub, Int64.toInt_mul, Int64.toInt_div, rL_toInt hx, rL_toInt hy]
  have e : x.tmod y = x - y * x.tdiv y := Int.tmod_def x y
  have e2 : (x - ((x.tdiv y).bmod (2 ^ 64) * y).bmod (2 ^ 64)).bmod (2 ^ 64) = (x - y * x.tdiv y).bmod (2 ^ 64) := by
    rw [Int.sub_bmod_bmod, Int.mul_comm y, ← Int.sub_bmod_bmod (x := x) (y := (x.tdiv y).bmod (2 ^ 64) * y), Int.bmod_mul_bmod, Int.sub_bmod_bmod]
  rw [e2, ← e]
  exact Int.bmod_eq_of_le (by omega) (by omega)
theorem J_lrem (hX : JOk G X cc own nL d) {x y : Int} (h0 : y ≠ 0) (dg : decode cc pc = .ok (.lrem, 1)) (k : J G X (pc + 1) L (vl (x.tmod y) :: S) m) : J G X pc L (vl y :: vl x :: S) m := by
  have hm : inL x → inL (x.tmod y) := fun hx => tmod_rng hx.1 hx.2 (by decide) (by decide)
  exact J_step (fun _ h _ => h.tl.tl.consL (hm h.tl.hd)) k fun _ _ _ _ _ _ _ _ _ _ _ _ _ _ e0 H locs ls _ hs _ _ _ _ kk => lv_lrem (hX.x e0).1 (hX.x e0).2.1 dg (rL_ne0 hs.hd h0) (by rw [rL_tmod hs.tl.hd hs.hd]; exact kk)
theorem J_i2l (hX : JOk G X cc own nL d) {x : Int} (dg : decode cc pc = .ok (.i2l, 1)) (k : J G X (pc + 1) L (vl x :: S) m) : J G X pc L (vi x :: S) m :=
  J_step (fun _ h _ => h.tl.consL (by have : inR x := h.hd; exact (show inL x by omega))) k fun _ _ _ _ _ _ _ _ _ _ _ _ _ _ e0 H locs ls _ hs _ _ _ _ kk => lv_i2l (hX.x e0).1 (hX.x e0).2.1 dg (by
    have : inR x := hs.hd
    exact Int32.toInt64_ofInt (by have : Int32.minValue.toInt = -2147483648 := rfl; omega) (by have : Int32.maxValue.toInt = 2147483647 := rfl; omega)) kk
theorem J_l2i (hX : JOk G X cc own nL d) {x : Int} (hr : inR x) (dg : decode cc pc = .ok (.l2i, 1)) (k : J G X (pc + 1) L (vi x :: S) m) : J G X pc L (vl x :: S) m :=
  J_step (fun _ h _ => h.tl.consI hr) k fun _ _ _ _ _ _ _ _ _ _ _ _ _ _ e0 H locs ls _ hs _ _ _ _ kk => lv_l2i (hX.x e0).1 (hX.x e0).2.1 dg Int64.toInt32_ofInt kk
def cmpI (x y : Int) : Int := if x < y then -1 else if x = y then 0 else 1
theorem J_lcmp (hX : JOk G X cc own nL d) {x y : Int} (dg : decode cc pc = .ok (.lcmp, 1)) (k : J G X (pc + 1) L (vi (cmpI x y) :: S) m) : J G X pc L (vl y :: vl x :: S) m := by
  have hc : inR (cmpI x y) := by unfold cmpI; split; · decide
                                 split <;> decide
  refine J_step (fun _ h _ => h.tl.tl.consI hc) k fun _ _ _ _ _ _ _ _ _ _ _ _ _ _ e0 H locs ls _ hs _ _ _ _ kk => W.lcmp (hX.x e0).1 (hX.x e0).2.1 dg ?_
  have e : lg_cmp (Int64.ofInt x) (Int64.ofInt y) = Int32.ofInt (cmpI x y) := by
    have hx : inL x := hs.tl.hd
    have hy : inL y := hs.hd
    unfold lg_cmp cmpI
    simp only [rL_lt hy hx, rL_eq hx hy]
    by_cases h1 : y < x
    · rw [if_pos h1, if_neg (by omega), if_neg (by omega)]; rfl
    · rw [if_neg h1]
      by_cases h2 : x = y
      · rw [if_pos h2, if_neg (by omega), if_pos h2]; rfl
      · rw [if_neg h2, if_pos (by omega)]; rfl
  rw [e]
  exact kk
theorem J_iand (hX : JOk G X cc own nL d) {x y z : Int} (hz : inR x → inR y → Int32.ofInt x &&& Int32.ofInt y = Int32.ofInt z ∧ inR z) (dg : decode cc pc = .ok (.iand, 1)) (k : J G X (pc + 1) L (vi z :: S) m) : J G X pc L (vi y :: vi x :: S) m :=
  J_step (fun _ h _ => h.tl.tl.consI (hz h.tl.hd h.hd).2) k fun _ _ _ _ _ _ _ _ _ _ _ _ _ _ e0 H locs ls _ hs _ _ _ _ kk => lv_iand (hX.x e0).1 (hX.x e0).2.1 dg (by rw [(hz hs.tl.hd hs.hd).1]; exact kk)
theorem J_ior (hX : JOk G X cc own nL d) {x y z : Int} (hz : inR x → inR y → Int32.ofInt x ||| Int32.ofInt y = Int32.ofInt z ∧ inR z) (dg : decode cc pc = .ok (.ior, 1)) (k : J G X (pc + 1) L (vi z :: S) m) : J G X pc L (vi y :: vi x :: S) m :=
  J_step (fun _ h _ => h.tl.tl.consI (hz h.tl.hd h.hd).2) k fun _ _ _ _ _ _ _ _ _ _ _ _ _ _ e0 H locs ls _ hs _ _ _ _ kk => lv_ior (hX.x e0).1 (hX.x e0).2.1 dg (by rw [(hz hs.tl.hd hs.hd).1]; exact kk)
theorem J_ixor (hX : JOk G X cc own nL d) {x y z : Int} (hz : inR x → inR y → Int32.ofInt x ^^^ Int32.ofInt y = Int32.ofInt z ∧ inR z) (dg : decode cc pc = .ok (.ixor, 1)) (k : J G X (pc + 1) L (vi z :: S) m) : J G X pc L (vi y :: vi x :: S) m :=
  J_step (fun _ h _ => h.tl.tl.consI (hz h.tl.hd h.hd).2) k fun _ _ _ _ _ _ _ _ _ _ _ _ _ _ e0 H locs ls _ hs _ _ _ _ kk => lv_ixor (hX.x e0).1 (hX.x e0).2.1 dg (by rw [(hz hs.tl.hd hs.hd).1]; exact kk)
theorem J_ishl (hX : JOk G X cc own nL d) {x y z : Int} (hz : inR x → inR y → Int32.ofInt x <<< (Int32.ofInt y &&& 31) = Int32.ofInt z ∧ inR z) (dg : decode cc pc = .ok (.ishl, 1)) (k : J G X (pc + 1) L (vi z :: S) m) : J G X pc L (vi y :: vi x :: S) m :=
  J_step (fun _ h _ => h.tl.tl.consI (hz h.tl.hd h.hd).2) k fun _ _ _ _ _ _ _ _ _ _ _ _ _ _ e0 H locs ls _ hs _ _ _ _ kk => lv_ishl (hX.x e0).1 (hX.x e0).2.1 dg (by rw [(hz hs.tl.hd hs.hd).1]; exact kk)
theorem J_ishr (hX : JOk G X cc own nL d) {x y z : Int} (hz : inR x → inR y → Int32.ofInt x >>> (Int32.ofInt y &&& 31) = Int32.ofInt z ∧ inR z) (dg : decode cc pc = .ok (.ishr, 1)) (k : J G X (pc + 1) L (vi z :: S) m) : J G X pc L (vi y :: vi x :: S) m :=
  J_step (fun _ h _ => h.tl.tl.consI (hz h.tl.hd h.hd).2) k fun _ _ _ _ _ _ _ _ _ _ _ _ _ _ e0 H locs ls _ hs _ _ _ _ kk => lv_ishr (hX.x e0).1 (hX.x e0).2.1 dg (by rw [(hz hs.tl.hd hs.hd).1]; exact kk)
theorem J_dup (hX : JOk G X cc own nL d) {a : HV} (ha : notl a = true) (dg : decode cc pc = .ok (.dup, 1)) (k : J G X (pc + 1) L (a :: a :: S) m) : J G X pc L (a :: S) m :=
  J_step (fun _ h _ => h.cons h.hd) k fun _ _ _ _ _ _ _ _ _ _ _ _ _ _ e0 H locs ls _ hs _ _ _ _ kk => lv_dup (hX.x e0).1 (hX.x e0).2.1 dg (tv_cat ha) kk
theorem J_dup2 (hX : JOk G X cc own nL d) {a b : HV} (ha : notl a = true) (hb : notl b = true) (dg : decode cc pc = .ok (.dup2, 1)) (k : J G X (pc + 1) L (a :: b :: a :: b :: S) m) : J G X pc L (a :: b :: S) m :=
  J_step (fun _ h _ => (h.cons h.tl.hd).cons h.hd) k fun _ _ _ _ _ _ _ _ _ _ _ _ _ _ e0 H locs ls _ hs _ _ _ _ kk => lv_dup2_11 (hX.x e0).1 (hX.x e0).2.1 dg (tv_cat ha) (tv_cat hb) kk
theorem J_pop (hX : JOk G X cc own nL d) {a : HV} (ha : notl a = true) (dg : decode cc pc = .ok (.pop, 1)) (k : J G X (pc + 1) L S m) : J G X pc L (a :: S) m :=
  J_step (fun _ h _ => h.tl) k fun _ _ _ _ _ _ _ _ _ _ _ _ _ _ e0 H locs ls _ hs _ _ _ _ kk => lv_pop (hX.x e0).1 (hX.x e0).2.1 dg (tv_cat ha) kk
theorem J_goto (hX : JOk G X cc own nL d) {off : Int} {tgt : Nat} (ht : (pc : Int) + off = (tgt : Int)) (dg : decode cc pc = .ok (.goto off, 3)) (k : J G X tgt L S m) : J G X pc L S m :=
  J_step (fun _ h _ => h) k fun _ _ _ _ _ _ _ _ _ _ _ _ _ _ e0 H locs ls _ hs _ _ _ _ kk => lv_goto (hX.x e0).1 (hX.x e0).2.1 dg ht kk
/-- two ways on -/
theorem J_two {S' : List HV} {A B : Prop} {p1 p2 : Nat} (hS : cnL S → cnL S') (k1 : A → J G X p1 L S' m) (k2 : B → J G X p2 L S' m)
    (hw : ∀ (p : Program) (l : Launch) (e : Env) (R : Room) (s : State) (mi : MethodId) (args : Array Value) (below : List Frame) (meth : Method) (c : Code) (cells slots : Nat) (Q : State → Prop) (H0 : Heap), X = (p, l, e, R, s, mi, args, below, meth, c, cells, slots, Q, H0) →
      ∀ (H : Heap) (locs : List Loc) (ls : Array Slot), cnL S → (A → W p l e R s mi args below meth c H locs cells slots Q (F0 mi p1 ls (S'.map (tv G)))) → (B → W p l e R s mi args below meth c H locs cells slots Q (F0 mi p2 ls (S'.map (tv G)))) → W p l e R s mi args below meth c H locs cells slots Q (F0 mi pc ls (S.map (tv G)))) : J G X pc L S m := by
  obtain ⟨p, l, e, R, s, mi, args, below, meth, c, cells, slots, Q, H0⟩ := X
  intro h1 h2 h3 H locs ls hH hS0 hl
  exact hw _ _ _ _ _ _ _ _ _ _ _ _ _ _ rfl H locs ls h2 (fun a => k1 a h1 (hS h2) h3 H locs ls hH hS0 hl) (fun b => k2 b h1 (hS h2) h3 H locs ls hH hS0 hl)
theorem J_if_eq (hX : JOk G X cc own nL d) {x : Int} {off : Int} {tgt : Nat} (ht : (pc : Int) + off = (tgt : Int)) (dg : decode cc pc = .ok (.ifCond .eq off, 3)) (k1 : x = 0 → J G X tgt L S m) (k2 : x ≠ 0 → J G X (pc + 3) L S m) : J G X pc L (vi x :: S) m :=
  J_two (fun h => h.tl) k1 k2 fun _ _ _ _ _ _ _ _ _ _ _ _ _ _ e0 H locs ls hs kt kf => lv_if_eq (hX.x e0).1 (hX.x e0).2.1 dg ht (fun h => kt (by rw [← rI_0] at h; exact (rI_eq hs.hd (by decide)).mp h)) (fun h => kf (by rw [← rI_0] at h; exact fun q => h ((rI_eq hs.hd (by decide)).mpr q)))
theorem J_icmp_eq (hX : JOk G X cc own nL d) {x y : Int} {off : Int} {tgt : Nat} (ht : (pc : Int) + off = (tgt : Int)) (dg : decode cc pc = .ok (.if_icmp .eq off, 3)) (k1 : x = y → J G X tgt L S m) (k2 : x ≠ y → J G X (pc + 3) L S m) : J G X pc L (vi y :: vi x :: S) m :=
  J_two (fun h => h.tl.tl) k1 k2 fun _ _ _ _ _ _ _ _ _ _ _ _ _ _ e0 H locs ls hs kt kf => lv_icmp_eq (hX.x e0).1 (hX.x e0).2.1 dg ht (fun h => kt ((rI_eq hs.tl.hd hs.hd).mp h)) (fun h => kf (fun q => h ((rI_eq hs.tl.hd hs.hd).mpr q)))
theorem J_if_ne (hX : JOk G X cc own nL d) {x : Int} {off : Int} {tgt : Nat} (ht : (pc : Int) + off = (tgt : Int)) (dg : decode cc pc = .ok (.ifCond .ne off, 3)) (k1 : x ≠ 0 → J G X tgt L S m) (k2 : x = 0 → J G X (pc + 3) L S m) : J G X pc L (vi x :: S) m :=
  J_two (fun h => h.tl) k1 k2 fun _ _ _ _ _ _ _ _ _ _ _ _ _ _ e0 H locs ls hs kt kf => lv_if_ne (hX.x e0).1 (hX.x e0).2.1 dg ht (fun h => kt (by rw [← rI_0] at h; exact fun q => h ((rI_eq hs.hd (by decide)).mpr q))) (fun h => kf (by rw [← rI_0] at h; exact (rI_eq hs.hd (by decide)).mp h))
theorem J_icmp_ne (hX : JOk G X cc own nL d) {x y : Int} {off : Int} {tgt : Nat} (ht : (pc : Int) + off = (tgt : Int)) (dg : decode cc pc = .ok (.if_icmp .ne off, 3)) (k1 : x ≠ y → J G X tgt L S m) (k2 : x = y → J G X (pc + 3) L S m) : J G X pc L (vi y :: vi x :: S) m :=
  J_two (fun h => h.tl.tl) k1 k2 fun _ _ _ _ _ _ _ _ _ _ _ _ _ _ e0 H locs ls hs kt kf => lv_icmp_ne (hX.x e0).1 (hX.x e0).2.1 dg ht (fun h => kt (fun q => h ((rI_eq hs.tl.hd hs.hd).mpr q))) (fun h => kf ((rI_eq hs.tl.hd hs.hd).mp h))
theorem J_if_lt (hX : JOk G X cc own nL d) {x : Int} {off : Int} {tgt : Nat} (ht : (pc : Int) + off = (tgt : Int)) (dg : decode cc pc = .ok (.ifCond .lt off, 3)) (k1 : x < 0 → J G X tgt L S m) (k2 : 0 ≤ x → J G X (pc + 3) L S m) : J G X pc L (vi x :: S) m :=
  J_two (fun h => h.tl) k1 k2 fun _ _ _ _ _ _ _ _ _ _ _ _ _ _ e0 H locs ls hs kt kf => lv_if_lt (hX.x e0).1 (hX.x e0).2.1 dg ht (fun h => kt (by rw [← rI_0] at h; exact (rI_lt hs.hd (by decide)).mp h)) (fun h => kf (by rw [← rI_0] at h; exact Int.not_lt.mp (fun q => h ((rI_lt hs.hd (by decide)).mpr q))))
theorem J_icmp_lt (hX : JOk G X cc own nL d) {x y : Int} {off : Int} {tgt : Nat} (ht : (pc : Int) + off = (tgt : Int)) (dg : decode cc pc = .ok (.if_icmp .lt off, 3)) (k1 : x < y → J G X tgt L S m) (k2 : y ≤ x → J G X (pc + 3) L S m) : J G X pc L (vi y :: vi x :: S) m :=
  J_two (fun h => h.tl.tl) k1 k2 fun _ _ _ _ _ _ _ _ _ _ _ _ _ _ e0 H locs ls hs kt kf => lv_icmp_lt (hX.x e0).1 (hX.x e0).2.1 dg ht (fun h => kt ((rI_lt hs.tl.hd hs.hd).mp h)) (fun h => kf (Int.not_lt.mp (fun q => h ((rI_lt hs.tl.hd hs.hd).mpr q))))
theorem J_if_ge (hX : JOk G X cc own nL d) {x : Int} {off : Int} {tgt : Nat} (ht : (pc : Int) + off = (tgt : Int)) (dg : decode cc pc = .ok (.ifCond .ge off, 3)) (k1 : 0 ≤ x → J G X tgt L S m) (k2 : x < 0 → J G X (pc + 3) L S m) : J G X pc L (vi x :: S) m :=
  J_two (fun h => h.tl) k1 k2 fun _ _ _ _ _ _ _ _ _ _ _ _ _ _ e0 H locs ls hs kt kf => lv_if_ge (hX.x e0).1 (hX.x e0).2.1 dg ht (fun h => kt (by rw [← rI_0] at h; exact (rI_le (by decide) hs.hd).mp h)) (fun h => kf (by rw [← rI_0] at h; exact Int.not_le.mp (fun q => h ((rI_le (by decide) hs.hd).mpr q))))
theorem J_icmp_ge (hX : JOk G X cc own nL d) {x y : Int} {off : Int} {tgt : Nat} (ht : (pc : Int) + off = (tgt : Int)) (dg : decode cc pc = .ok (.if_icmp .ge off, 3)) (k1 : y ≤ x → J G X tgt L S m) (k2 : x < y → J G X (pc + 3) L S m) : J G X pc L (vi y :: vi x :: S) m :=
  J_two (fun h => h.tl.tl) k1 k2 fun _ _ _ _ _ _ _ _ _ _ _ _ _ _ e0 H locs ls hs kt kf => lv_icmp_ge (hX.x e0).1 (hX.x e0).2.1 dg ht (fun h => kt ((rI_le hs.hd hs.tl.hd).mp h)) (fun h => kf (Int.not_le.mp (fun q => h ((rI_le hs.hd hs.tl.hd).mpr q))))
theorem J_if_gt (hX : JOk G X cc own nL d) {x : Int} {off : Int} {tgt : Nat} (ht : (pc : Int) + off = (tgt : Int)) (dg : decode cc pc = .ok (.ifCond .gt off, 3)) (k1 : 0 < x → J G X tgt L S m) (k2 : x ≤ 0 → J G X (pc + 3) L S m) : J G X pc L (vi x :: S) m :=
  J_two (fun h => h.tl) k1 k2 fun _ _ _ _ _ _ _ _ _ _ _ _ _ _ e0 H locs ls hs kt kf => lv_if_gt (hX.x e0).1 (hX.x e0).2.1 dg ht (fun h => kt (by rw [← rI_0] at h; exact (rI_lt (by decide) hs.hd).mp h)) (fun h => kf (by rw [← rI_0] at h; exact Int.not_lt.mp (fun q => h ((rI_lt (by decide) hs.hd).mpr q))))
theorem J_icmp_gt (hX : JOk G X cc own nL d) {x y : Int} {off : Int} {tgt : Nat} (ht : (pc : Int) + off = (tgt : Int)) (dg : decode cc pc = .ok (.if_icmp .gt off, 3)) (k1 : y < x → J G X tgt L S m) (k2 : x ≤ y → J G X (pc + 3) L S m) : J G X pc L (vi y :: vi x :: S) m :=
  J_two (fun h => h.tl.tl) k1 k2 fun _ _ _ _ _ _ _ _ _ _ _ _ _ _ e0 H locs ls hs kt kf => lv_icmp_gt (hX.x e0).1 (hX.x e0).2.1 dg ht (fun h => kt ((rI_lt hs.hd hs.tl.hd).mp h)) (fun h => kf (Int.not_lt.mp (fun q => h ((rI_lt hs.hd hs.tl.hd).mpr q))))
theorem J_if_le (hX : JOk G X cc own nL d) {x : Int} {off : Int} {tgt : Nat} (ht : (pc : Int) + off = (tgt : Int)) (dg : decode cc pc = .ok (.ifCond .le off, 3)) (k1 : x ≤ 0 → J G X tgt L S m) (k2 : 0 < x → J G X (pc + 3) L S m) : J G X pc L (vi x :: S) m :=
  J_two (fun h => h.tl) k1 k2 fun _ _ _ _ _ _ _ _ _ _ _ _ _ _ e0 H locs ls hs kt kf => lv_if_le (hX.x e0).1 (hX.x e0).2.1 dg ht (fun h => kt (by rw [← rI_0] at h; exact (rI_le hs.hd (by decide)).mp h)) (fun h => kf (by rw [← rI_0] at h; exact Int.not_le.mp (fun q => h ((rI_le hs.hd (by decide)).mpr q))))
theorem J_icmp_le (hX : JOk G X cc own nL d) {x y : Int} {off : Int} {tgt : Nat} (ht : (pc : Int) + off = (tgt : Int)) (dg : decode cc pc = .ok (.if_icmp .le off, 3)) (k1 : x ≤ y → J G X tgt L S m) (k2 : y < x → J G X (pc + 3) L S m) : J G X pc L (vi y :: vi x :: S) m :=
  J_two (fun h => h.tl.tl) k1 k2 fun _ _ _ _ _ _ _ _ _ _ _ _ _ _ e0 H locs ls hs kt kf => lv_icmp_le (hX.x e0).1 (hX.x e0).2.1 dg ht (fun h => kt ((rI_le hs.tl.hd hs.hd).mp h)) (fun h => kf (Int.not_le.mp (fun q => h ((rI_le hs.tl.hd hs.hd).mpr q))))
end JRows
