/-! ===== 37a: constructors: a judgement over the cells made so far ===== -/
def m0 : HM := fun t _ _ k => match t with
  | 13 => if k = 3 then -9 else 0
  | 9 => if k = 1 then 1 else 0
  | 1 => if k = 0 then 3 else 0
  | 17 => if k = 5 then 1 else 0
  | 42 => if k = 0 then 3 else 0
  | _ => 0
def fE (G : GC) (j : Nat) : va_E := match cellsL[j]? with
  | some q => cellF G q.1 q.2.1 q.2.2 (m0 q.1 q.2.1 q.2.2)
  | none => .inr (0, [])
theorem fE_at {G : GC} {t : Nat} {v i : Int} (h : vok t v i) : fE G (ix t v i) = cellF G t v i (m0 t v i) := by
  unfold fE
  rw [show cellsL[ix t v i]? = some (t, v, i) from h]
def upE (E : Nat → va_E) (x : Nat) (e : va_E) : Nat → va_E := fun j => if j = x then e else E j
theorem upE_eq (E : Nat → va_E) (x : Nat) (e : va_E) : upE E x e x = e := if_pos rfl
theorem upE_ne {E : Nat → va_E} {x j : Nat} {e : va_E} (h : j ≠ x) : upE E x e j = E j := if_neg h
theorem upE_up (E : Nat → va_E) (x : Nat) (a b : va_E) : upE (upE E x a) x b = upE E x b := by
  funext j
  unfold upE
  split <;> rfl
def WP (G : GC) (k len : Nat) (E : Nat → va_E) (H : Heap) : Prop := ∀ i, i < len → va_at G.2.1 vclasses (G.1 + k + i, E (k + i)) H
def wl (G : GC) (k len : Nat) (E : Nat → va_E) : va_W := (List.range len).map (fun i => (G.1 + k + i, E (k + i)))
theorem wl_at {G : GC} {k len i : Nat} {E : Nat → va_E} (h : i < len) : (wl G k len E)[i]? = some (G.1 + k + i, E (k + i)) := by
  unfold wl
  rw [List.getElem?_map, List.getElem?_range h]
  rfl
theorem wl_len {G : GC} {k len : Nat} {E : Nat → va_E} : (wl G k len E).length = len := by simp [wl]
theorem wl_of {G : GC} {k len i : Nat} {E : Nat → va_E} {q : Nat × va_E} (h : (wl G k len E)[i]? = some q) : i < len ∧ q = (G.1 + k + i, E (k + i)) := by
  have h1 : i < len := by
    have := (List.getElem?_eq_some_iff.mp h).1
    rwa [wl_len] at this
  rw [wl_at h1] at h
  exact ⟨h1, (Option.some.inj h).symm⟩
theorem WP.P {G : GC} {k len : Nat} {E : Nat → va_E} {H : Heap} (h : WP G k len E H) : va_P G.2.1 vclasses (wl G k len E) H := by
  intro i q hq
  obtain ⟨h1, rfl⟩ := wl_of hq
  exact h i h1
theorem WP.of {G : GC} {k len : Nat} {E : Nat → va_E} {H : Heap} (h : va_P G.2.1 vclasses (wl G k len E) H) : WP G k len E H := fun i hi => h i _ (wl_at hi)
theorem wl_D {G : GC} {k len : Nat} {E : Nat → va_E} : va_D (fun q => G.1 + k ≤ q) (wl G k len E) := by
  refine ⟨fun i j p q hi hj e => ?_, fun i q hq => ?_⟩
  · obtain ⟨-, rfl⟩ := wl_of hi
    obtain ⟨-, rfl⟩ := wl_of hj
    have : G.1 + k + i = G.1 + k + j := e
    omega
  · obtain ⟨-, rfl⟩ := wl_of hq
    show G.1 + k ≤ G.1 + k + i
    omega
theorem wl_set {G : GC} {k len i : Nat} {E : Nat → va_E} {e : va_E} : (wl G k len E).set i (G.1 + k + i, e) = wl G k len (upE E (k + i) e) := by
  apply List.ext_getElem?
  intro j
  by_cases hl : j < len
  · rw [wl_at hl]
    by_cases hj : i = j
    · subst hj
      rw [List.getElem?_set_self (by rw [wl_len]; exact hl), upE_eq]
    · rw [List.getElem?_set_ne hj, wl_at hl, upE_ne (by omega)]
  · rw [List.getElem?_eq_none (by rw [List.length_set, wl_len]; omega), List.getElem?_eq_none (by rw [wl_len]; omega)]
theorem WP.cong {G : GC} {k len : Nat} {E E' : Nat → va_E} {H : Heap} (h : WP G k len E H) (he : ∀ j, k ≤ j → j < k + len → E' j = E j) : WP G k len E' H := by
  intro i hi
  rw [he (k + i) (by omega) (by omega)]
  exact h i hi
theorem WP.low {G : GC} {k len : Nat} {E : Nat → va_E} {H : Heap} (h : WP G k len E H) (hl : 1 ≤ len) : G.1 + k + len ≤ H.size := by
  have h1 := (h (len - 1) (by omega)).lt
  have h2 : G.1 + k + (len - 1) < H.size := h1
  omega
/-- the new cell lies next -/
theorem WP.new {G : GC} {k len q : Nat} {E : Nat → va_E} {e : va_E} {H1 : Heap} (hP : va_P G.2.1 vclasses (wl G k len E ++ [(q, e)]) H1) (hD : va_D (fun q => G.1 + k ≤ q) (wl G k len E ++ [(q, e)])) (hz : H1.size ≤ G.1 + k + len + 1) (hE : E (k + len) = e) : q = G.1 + k + len ∧ WP G k (len + 1) E H1 := by
  have hq : (wl G k len E ++ [(q, e)])[len]? = some (q, e) := by
    rw [List.getElem?_append_right (by rw [wl_len]; exact Nat.le_refl _), wl_len, Nat.sub_self]
    rfl
  have hi : ∀ i, i < len → (wl G k len E ++ [(q, e)])[i]? = some (G.1 + k + i, E (k + i)) := fun i h => by
    rw [List.getElem?_append_left (by rw [wl_len]; exact h)]
    exact wl_at h
  have h1 : q < H1.size := (hP _ _ hq).lt
  have h2 : G.1 + k ≤ q := hD.2 _ _ hq
  have h3 : q = G.1 + k + len := by
    rcases Nat.lt_or_ge q (G.1 + k + len) with h | h
    · have := hD.1 (q - (G.1 + k)) len _ _ (hi (q - (G.1 + k)) (by omega)) hq (show G.1 + k + (q - (G.1 + k)) = q by omega)
      omega
    · omega
  subst h3
  refine ⟨rfl, fun i h => ?_⟩
  rcases Nat.lt_or_ge i len with h4 | h4
  · exact hP _ _ (hi i h4)
  · have : i = len := by omega
    subst this
    rw [hE]
    exact hP _ _ hq
abbrev XC : Type := Program × Launch × Env × Room × State × MethodId × Array Value × List Frame × Method × Code × (State → Prop)
def TabsC (G : GC) (U : State) : Prop := Tabs G U ∧ AoI U ∧ va_AO RX3 U ∧ va_AO RX8 U ∧ va_AO RX2 U
theorem TabsC.moved {G : GC} {u U : State} (hvm : u.vm.Alike U.vm) (h : TabsC G u) : TabsC G U := ⟨va_K.moved hvm h.1, h.2.1.moved hvm, h.2.2.1.moved hvm, h.2.2.2.1.moved hvm, h.2.2.2.2.moved hvm⟩
def JC (G : GC) (X : XC) (k ci pc : Nat) (L S : List HV) (fs : List Value) (E : Nat → va_E) (len sl : Nat) : Prop := match X with
  | (p, l, e, R, s, mi, args, below, meth, c, Q) =>
    ∀ (H : Heap) (locs : List Loc) (ls : Array Slot), WP G k len (upE E k (.inr (ci, fs))) H → va_S (fun q => G.1 + k ≤ q) s.heap H locs → Lh G ls L →
      W p l e R s mi args below meth c H locs (len - 1) sl Q (F0 mi pc ls (S.map (tv G)))
def JCOk (G : GC) (X : XC) (cc : ByteArray) (own : String) (nL d k nc ns : Nat) : Prop := match X with
  | (p, l, e, R, s, mi, args, below, meth, c, Q) =>
    p.tables.exec = Jvm.exec ∧ c.code = cc ∧ c.maxLocals = nL ∧ s.vm.findClass own = some mi.cls ∧ (∀ w ∈ lw_g, w.before args s = true) ∧ TabsC G s ∧ s.heap.size = G.1 + k + 1 ∧ meth.name = "<init>" ∧ d ≤ R.frames ∧ 64 * d ≤ R.locals ∧ nc ≤ R.cells ∧ ns ≤ R.slots ∧ G.2.2.2.2.2 = l
def QCn (G : GC) (k n : Nat) : Array Value → State → Outcome → State → Prop := va_Qv (S := Unit) (fun _ => True) (fun _ t => WP G k n (fE G) t.heap) (fun q => G.1 + k ≤ q)
def JCRt (G : GC) (X : XC) (k n sl : Nat) : Prop := match X with
  | (p, l, e, R, s, mi, args, below, meth, c, Q) => Q = MQ below (QCn G k n) args s (n - 1) sl (fun q => G.1 + k ≤ q) ∧ meth.sig.returnType = none ∧ meth.locks = false
def rmC (d nc ns : Nat) : Room := { frames := d, cells := nc, slots := ns, locals := 64 * d }
/-- what a constructor finds: its object, blank, as the last cell -/
def BC (G : GC) (k ci : Nat) (fs : List Value) (U : State) : Prop := TabsC G U ∧ U.heap.size = G.1 + k + 1 ∧ va_at G.2.1 vclasses (G.1 + k, .inr (ci, fs)) U.heap
/-- a constructor's contract: the cells k .. k + n - 1 stand behind it -/
def CK (G : GC) (y : MethodName) (cc : ByteArray) (nL d k ci : Nat) (fs : List Value) (n sl : Nat) (w : HV) : Prop :=
  Met G.2.2.2.2.2 y (.code y cc nL none :: lw_g) (rmC d (n - 1) sl) (va_Pc [tv G w] (BC G k ci fs)) (QCn G k n) (n - 1) sl (fun q => G.1 + k ≤ q)
theorem CK.of {G : GC} {y : MethodName} {cc : ByteArray} {nL d k ci n sl : Nat} {fs : List Value} {w : HV} {own : String} (L : List HV) (E : Nat → va_E) (hy : plainName y.cls = true) (hcl : y.cls = own) (hnm : y.name = "<init>")
    (hlen : L.length = nL) (hsz : (lg_sl [tv G w]).length ≤ nL) (hL : lp G 0 L = lv_args 0 [tv G w])
    (body : ∀ X : XC, JCOk G X cc own nL d k (n - 1) sl → JCRt G X k n sl → JC G X k ci 0 L [] fs E 1 0) : CK G y cc nL d k ci fs n sl w := by
  refine Met.ofW (cc := cc) (maxL := nL) (ret := none) hy rfl ?_
  intro p e s mi a0 below meth c s₁ B hml hv
  obtain ⟨rfl, hT, hz, hA⟩ := hv
  have hts0 := atoms_spec (ws := .code y cc nL none :: lw_g) B.pre
  have hts : ∀ w' ∈ lw_g, w'.before [tv G w].toArray s = true := fun w' hw => hts0 w' (List.mem_cons_of_mem _ hw)
  have hown : s.vm.findClass own = some mi.cls := hcl ▸ findClass_of_methodNamed B.named
  have hname : meth.name = "<init>" := (name_of_methodNamed B.named B.method).1.trans hnm
  have K := body (p, G.2.2.2.2.2, e, rmC d (n - 1) sl, s, mi, [tv G w].toArray, below, meth, c, MQ below (QCn G k n) [tv G w].toArray s (n - 1) sl (fun q => G.1 + k ≤ q))
    ⟨B.exec, B.bytes, hml, hown, hts, hT, hz, hname, Nat.le_refl _, Nat.le_refl _, Nat.le_refl _, Nat.le_refl _, rfl⟩ ⟨rfl, B.returns, B.notSynchronized⟩
  have hl := lv_entry [tv G w] (n := nL) hsz
  rw [lg_entry_eq]
  refine K s.heap [] _ ?_ va_S.rf (by unfold Lh; rw [hlen, hL]; exact hl)
  intro i hi
  have : i = 0 := by omega
  subst this
  rw [Nat.add_zero, Nat.add_zero, upE_eq]
  exact hA
section JCRows
variable {G : GC} {X : XC} {cc : ByteArray} {own : String} {nL d k ci nc ns : Nat} {L S : List HV} {fs : List Value} {E : Nat → va_E} {len sl pc : Nat}
theorem JCOk.x {p : Program} {l : Launch} {e : Env} {R : Room} {s : State} {mi : MethodId} {args : Array Value} {below : List Frame} {meth : Method} {c : Code} {Q : State → Prop} (hX : JCOk G X cc own nL d k nc ns) (e0 : X = (p, l, e, R, s, mi, args, below, meth, c, Q)) : p.tables.exec = Jvm.exec ∧ c.code = cc ∧ c.maxLocals = nL ∧ s.vm.findClass own = some mi.cls ∧ (∀ w ∈ lw_g, w.before args s = true) ∧ TabsC G s ∧ s.heap.size = G.1 + k + 1 ∧ meth.name = "<init>" ∧ d ≤ R.frames ∧ 64 * d ≤ R.locals ∧ nc ≤ R.cells ∧ ns ≤ R.slots ∧ G.2.2.2.2.2 = l := by
  subst e0
  exact hX
theorem W.size {p : Program} {l : Launch} {e : Env} {R : Room} {s : State} {m : MethodId} {args : Array Value} {below : List Frame} {meth : Method} {c : Code} {H : Heap} {locs : List Loc} {cells slots : Nat} {Q : State → Prop} {g : JFrame}
    (kk : H.size ≤ s.heap.size + cells → W p l e R s m args below meth c H locs cells slots Q g) : W p l e R s m args below meth c H locs cells slots Q g := by
  intro T hT Xs
  exact kk (by rw [← hT]; exact Xs.same.2.2.1) T hT Xs
/-- a step that leaves the cells alone -/
theorem ct_step {pc' : Nat} {S' : List HV} (k1 : JC G X k ci pc' L S' fs E len sl)
    (hw : ∀ (p : Program) (l : Launch) (e : Env) (R : Room) (s : State) (mi : MethodId) (args : Array Value) (below : List Frame) (meth : Method) (c : Code) (Q : State → Prop), X = (p, l, e, R, s, mi, args, below, meth, c, Q) →
      ∀ (H : Heap) (locs : List Loc) (ls : Array Slot), Lh G ls L → W p l e R s mi args below meth c H locs (len - 1) sl Q (F0 mi pc' ls (S'.map (tv G))) → W p l e R s mi args below meth c H locs (len - 1) sl Q (F0 mi pc ls (S.map (tv G)))) : JC G X k ci pc L S fs E len sl := by
  obtain ⟨p, l, e, R, s, mi, args, below, meth, c, Q⟩ := X
  intro H locs ls hH hS0 hl
  exact hw _ _ _ _ _ _ _ _ _ _ _ rfl H locs ls hl (k1 H locs ls hH hS0 hl)
theorem ct_aload (hX : JCOk G X cc own nL d k nc ns) {f : Fin 4} {i : Nat} {t : Nat} {v j : Int} (hi : (f : Nat) = i) (h : L[i]? = some (vr t v j)) (dg : decode cc pc = .ok (.aload_n f, 1)) (k1 : JC G X k ci (pc + 1) L (vr t v j :: S) fs E len sl) : JC G X k ci pc L S fs E len sl :=
  ct_step k1 fun _ _ _ _ _ _ _ _ _ _ _ e0 H locs ls hl kk => lv_aload_n (hX.x e0).1 (hX.x e0).2.1 dg hi (hl.at h vr_ne) kk
theorem ct_iload (hX : JCOk G X cc own nL d k nc ns) {f : Fin 4} {i : Nat} {x : Int} (hi : (f : Nat) = i) (h : L[i]? = some (vi x)) (dg : decode cc pc = .ok (.iload_n f, 1)) (k1 : JC G X k ci (pc + 1) L (vi x :: S) fs E len sl) : JC G X k ci pc L S fs E len sl :=
  ct_step k1 fun _ _ _ _ _ _ _ _ _ _ _ e0 H locs ls hl kk => lv_iload_n (hX.x e0).1 (hX.x e0).2.1 dg hi (hl.at h vi_ne) kk
theorem ct_iconst (hX : JCOk G X cc own nL d k nc ns) {n : Int} (dg : decode cc pc = .ok (.iconst n, 1)) (k1 : JC G X k ci (pc + 1) L (vi n :: S) fs E len sl) : JC G X k ci pc L S fs E len sl :=
  ct_step k1 fun _ _ _ _ _ _ _ _ _ _ _ e0 H locs ls hl kk => lv_iconst (hX.x e0).1 (hX.x e0).2.1 dg rfl kk
theorem ct_bipush (hX : JCOk G X cc own nL d k nc ns) {n : Int} (hn : -128 ≤ n ∧ n ≤ 127) (dg : decode cc pc = .ok (.bipush n, 2)) (k1 : JC G X k ci (pc + 2) L (vi n :: S) fs E len sl) : JC G X k ci pc L S fs E len sl :=
  ct_step k1 fun _ _ _ _ _ _ _ _ _ _ _ e0 H locs ls hl kk => lv_bipush (hX.x e0).1 (hX.x e0).2.1 dg (Int8.toInt32_ofInt (by have : Int8.minValue.toInt = -128 := rfl; omega) (by have : Int8.maxValue.toInt = 127 := rfl; omega)) kk
theorem ct_sipush (hX : JCOk G X cc own nL d k nc ns) {n : Int} (hn : -32768 ≤ n ∧ n ≤ 32767) (dg : decode cc pc = .ok (.sipush n, 3)) (k1 : JC G X k ci (pc + 3) L (vi n :: S) fs E len sl) : JC G X k ci pc L S fs E len sl :=
  ct_step k1 fun _ _ _ _ _ _ _ _ _ _ _ e0 H locs ls hl kk => lv_sipush (hX.x e0).1 (hX.x e0).2.1 dg (Int16.toInt32_ofInt (by have : Int16.minValue.toInt = -32768 := rfl; omega) (by have : Int16.maxValue.toInt = 32767 := rfl; omega)) kk
theorem ct_goto (hX : JCOk G X cc own nL d k nc ns) {off : Int} {tgt : Nat} (ht : (pc : Int) + off = (tgt : Int)) (dg : decode cc pc = .ok (.goto off, 3)) (k1 : JC G X k ci tgt L S fs E len sl) : JC G X k ci pc L S fs E len sl :=
  ct_step k1 fun _ _ _ _ _ _ _ _ _ _ _ e0 H locs ls hl kk => lv_goto (hX.x e0).1 (hX.x e0).2.1 dg ht kk
theorem ct_istore (hX : JCOk G X cc own nL d k nc ns) {f : Fin 4} {i : Nat} {x : Int} (hi : (f : Nat) = i) (hl : i < L.length) (hp : ∀ j a, j + 1 = i → L[j]? = some a → notl a = true) (dg : decode cc pc = .ok (.istore_n f, 1)) (k1 : JC G X k ci (pc + 1) (L.set i (vi x)) S fs E len sl) : JC G X k ci pc L (vi x :: S) fs E len sl := by
  obtain ⟨p, l, e, R, s, mi, args, below, meth, c, Q⟩ := X
  intro H locs ls hH hS0 hL
  exact lv_istore_n (hX.x rfl).1 (hX.x rfl).2.1 dg hi hL hl rfl (fun ls' h' => k1 H locs ls' hH hS0 (Lh_of (by simp) h' (lp_set1 vi_ne hl hp)))
theorem ct_iinc (hX : JCOk G X cc own nL d k nc ns) {i : Nat} {x n : Int} (h : L[i]? = some (vi x)) (hp : ∀ j a, j + 1 = i → L[j]? = some a → notl a = true) (dg : decode cc pc = .ok (.iinc i n, 3)) (k1 : JC G X k ci (pc + 3) (L.set i (vi (x + n))) S fs E len sl) : JC G X k ci pc L S fs E len sl := by
  obtain ⟨p, l, e, R, s, mi, args, below, meth, c, Q⟩ := X
  intro H locs ls hH hS0 hL
  have hl : i < L.length := (List.getElem?_eq_some_iff.mp h).1
  have h2 : (i, tv G (vi x)) ∈ lp G 0 L := lp_mem.mpr ⟨i, vi x, h, vi_ne, by simp⟩
  obtain ⟨k0, hk0⟩ := List.getElem?_of_mem h2
  exact lv_iinc (k := k0) (v := Int32.ofInt (x + n)) (hX.x rfl).1 (hX.x rfl).2.1 dg hL hk0 (Int32.ofInt_add _ _).symm hl rfl (fun ls' h' => k1 H locs ls' hH hS0 (Lh_of (by simp) h' (lp_set1 (w := vi (x + n)) vi_ne hl hp)))
theorem ct_icmp_ge (hX : JCOk G X cc own nL d k nc ns) {x y : Int} {off : Int} {tgt : Nat} (hx : inR x) (hy : inR y) (ht : (pc : Int) + off = (tgt : Int)) (dg : decode cc pc = .ok (.if_icmp .ge off, 3)) (k1 : y ≤ x → JC G X k ci tgt L S fs E len sl) (k2 : x < y → JC G X k ci (pc + 3) L S fs E len sl) : JC G X k ci pc L (vi y :: vi x :: S) fs E len sl := by
  obtain ⟨p, l, e, R, s, mi, args, below, meth, c, Q⟩ := X
  intro H locs ls hH hS0 hL
  exact lv_icmp_ge (hX.x rfl).1 (hX.x rfl).2.1 dg ht (fun h => k1 ((rI_le hy hx).mp h) H locs ls hH hS0 hL) (fun h => k2 (Int.not_le.mp (fun q => h ((rI_le hy hx).mpr q))) H locs ls hH hS0 hL)
theorem wg {w : Cond} (hX : JCOk G X cc own nL d k nc ns) {p : Program} {l : Launch} {e : Env} {R : Room} {s : State} {mi : MethodId} {args : Array Value} {below : List Frame} {meth : Method} {c : Code} {Q : State → Prop} (e0 : X = (p, l, e, R, s, mi, args, below, meth, c, Q)) (h : w ∈ lw_tbl) (hg : goodWord w = true) : w.before args s = true := (hX.x e0).2.2.2.2.1 _ (mem_g h hg)
theorem ad_this {t : Nat} {v i : Int} {j : Nat} (ht : t < 60) (h : ix t v i = j) : ad G t v i = G.1 + j := by
  unfold ad
  rw [if_neg (by omega), h]
theorem ct_obj (hX : JCOk G X cc own nL d k nc ns) {idx : Nat} {t : Nat} {v i : Int} (hl : Cond.methodLink own idx ⟨"java/lang/Object", "<init>", "()V"⟩ ∈ lw_tbl) (hg : goodWord (Cond.methodLink own idx ⟨"java/lang/Object", "<init>", "()V"⟩) = true) (hnL : L.length = nL) (hd : 1 ≤ d) (dg : decode cc pc = .ok (.invokespecial idx, 3)) (k1 : JC G X k ci (pc + 3) L [] fs E len sl) : JC G X k ci pc L [vr t v i] fs E len sl :=
  ct_step k1 fun _ _ _ _ _ _ _ _ _ _ _ e0 H locs ls hL kk => W.objInit (hX.x e0).1 (hX.x e0).2.1 (hX.x e0).2.2.2.1 (wg hX e0 hl hg) (wg hX e0 mI_objectInit rfl) (wg hX e0 mC_objectInit rfl) rfl (by rw [(hX.x e0).2.2.1, ← hnL]; exact hL.1) rfl dg (Nat.le_trans hd (hX.x e0).2.2.2.2.2.2.2.2.1) (by show 2 * 0 + 0 + 12 ≤ _; have := (hX.x e0).2.2.2.2.2.2.2.2.2.1; omega) kk
theorem ct_put (hX : JCOk G X cc own nL d k nc ns) {t : Nat} {v i : Int} {w : HV} {idx N kf : Nat} {C : String} {T : u_T} (hlen : 1 ≤ len) (hk : ix t v i = k) (hY : ∀ w ∈ u_ws C T N, w ∈ lw_tbl) {ty0 : Nat → FieldType} {ty : FieldType} (hty : ∀ k, k < N → parseFieldDescriptor (T k).2.2.1 = some (ty0 k)) (hnm : ∀ a, a < N → ∀ b, b < N → a ≠ b → (T a).2.1 ≠ (T b).2.1) (hc : vclasses[ci]? = some (C, T, N)) (hkf : kf < N) (hdecl : (T kf).1 = own) (hd : parseFieldDescriptor (T kf).2.2.1 = some ty) (hn : narrow ty (tv G w) = tv G w) (hfit : fits ty (tv G w) = true) (hl2 : kf < fs.length)
    (dg : decode cc pc = .ok (.putfield idx, 3)) (hl : Cond.fieldLink own idx (T kf).1 (T kf).2.1 (T kf).2.2.1 ∈ lw_tbl) (k1 : JC G X k ci (pc + 3) L S (fs.set kf (tv G w)) E len sl) (ht : t < 60 := by decide) : JC G X k ci pc L (w :: vr t v i :: S) fs E len sl := by
  obtain ⟨p, l, e, R, s, mi, args, below, meth, c, Q⟩ := X
  intro H locs ls hH hS0 hL
  have ha : tv G (vr t v i) = .ref (G.1 + k) := by show Value.ref (ad G t v i) = _; rw [ad_this ht hk]
  have he : (wl G k len (upE E k (.inr (ci, fs))))[0]? = some (G.1 + k, .inr (ci, fs)) := by rw [wl_at hlen, Nat.add_zero, Nat.add_zero, upE_eq]
  have fin : ∀ (H1 : Heap) (locs1 : List Loc), va_P G.2.1 vclasses ((wl G k len (upE E k (.inr (ci, fs)))).set 0 (G.1 + k, .inr (ci, fs.set kf (tv G w)))) H1 → va_S (fun q => G.1 + k ≤ q) s.heap H1 locs1 → W p l e R s mi args below meth c H1 locs1 (len - 1) sl Q (F0 mi (pc + 3) ls (S.map (tv G))) := by
    intro H1 locs1 hP1 hS1
    refine k1 H1 locs1 ls (WP.of ?_) hS1 hL
    have h1 := wl_set (G := G) (k := k) (len := len) (i := 0) (E := upE E k (.inr (ci, fs))) (e := .inr (ci, fs.set kf (tv G w)))
    rw [Nat.add_zero, Nat.add_zero, upE_up] at h1
    rw [← h1]
    exact hP1
  show W p l e R s mi args below meth c H locs (len - 1) sl Q (F0 mi pc ls (tv G w :: tv G (vr t v i) :: S.map (tv G)))
  rw [ha]
  cases hfin : (T kf).2.2.2 with
  | false => exact va_put (hX.x rfl).1 (hX.x rfl).2.1 (hX.x rfl).2.2.2.2.1 (good_g hY (uws_good C T N)) ty0 hty hnm (hX.x rfl).2.2.2.1 (hX.x rfl).2.2.2.2.2.1.1 hH.P wl_D hS0 0 he hc kf hkf (wg hX rfl hl rfl) (fun _ h => h) hfin hd hn hfit hl2 dg (fun H1 locs1 hP1 _ hS1 => fin H1 locs1 hP1 hS1)
  | true => exact va_putF (hX.x rfl).1 (hX.x rfl).2.1 (hX.x rfl).2.2.2.2.1 (good_g hY (uws_good C T N)) ty0 hty hnm (hX.x rfl).2.2.2.1 (hX.x rfl).2.2.2.2.2.1.1 hH.P wl_D hS0 0 he hc kf hkf (wg hX rfl hl rfl) (fun _ h => h) hfin (hX.x rfl).2.2.2.2.2.2.2.1 hdecl hd hn hfit hl2 dg (fun H1 locs1 hP1 _ hS1 => fin H1 locs1 hP1 hS1)
theorem ct_get (hX : JCOk G X cc own nL d k nc ns) {t : Nat} {v i : Int} {w : HV} {idx N kf : Nat} {C : String} {T : u_T} (hlen : 1 ≤ len) (hk : ix t v i = k) (hY : ∀ w ∈ u_ws C T N, w ∈ lw_tbl) (hc : vclasses[ci]? = some (C, T, N)) (hkf : kf < N) (hv : fs[kf]? = some (tv G w))
    (dg : decode cc pc = .ok (.getfield idx, 3)) (hl : Cond.fieldLink own idx (T kf).1 (T kf).2.1 (T kf).2.2.1 ∈ lw_tbl) (k1 : JC G X k ci (pc + 3) L (w :: S) fs E len sl) (ht : t < 60 := by decide) : JC G X k ci pc L (vr t v i :: S) fs E len sl := by
  obtain ⟨p, l, e, R, s, mi, args, below, meth, c, Q⟩ := X
  intro H locs ls hH hS0 hL
  have ha : tv G (vr t v i) = .ref (G.1 + k) := by show Value.ref (ad G t v i) = _; rw [ad_this ht hk]
  have he : (wl G k len (upE E k (.inr (ci, fs))))[0]? = some (G.1 + k, .inr (ci, fs)) := by rw [wl_at hlen, Nat.add_zero, Nat.add_zero, upE_eq]
  show W p l e R s mi args below meth c H locs (len - 1) sl Q (F0 mi pc ls (tv G (vr t v i) :: S.map (tv G)))
  rw [ha]
  exact va_get (hX.x rfl).1 (hX.x rfl).2.1 (hX.x rfl).2.2.2.2.1 (good_g hY (uws_good C T N)) (hX.x rfl).2.2.2.1 (hX.x rfl).2.2.2.2.2.1.1 hH.P 0 he hc kf hkf (wg hX rfl hl rfl) (fun _ h => h) hv dg (k1 H locs ls hH hS0 hL)
theorem ct_ret {n : Nat} (hX : JCOk G X cc own nL d k nc ns) (hR : JCRt G X k n sl) (hn : len = n) (hE : ∀ j, k ≤ j → j < k + n → fE G j = upE E k (.inr (ci, fs)) j) (dg : decode cc pc = .ok (.return_, 1)) : JC G X k ci pc L [] fs E len sl := by
  subst hn
  obtain ⟨p, l, e, R, s, mi, args, below, meth, c, Q⟩ := X
  intro H locs ls hH hS0 hL
  obtain ⟨rfl, hrt, hlk⟩ := hR
  exact W.vret (hX.x rfl).1 (hX.x rfl).2.1 hrt (fun t ht hW => ⟨⟨(), rfl, trivial, by show WP G k len (fE G) t.heap; rw [ht]; exact hH.cong hE⟩, hS0.F ht⟩) hS0.2.2 dg hlk
/-- a cell read as another that is the same in the heap -/
theorem ct_cong {E' : Nat → va_E} (he : ∀ j, k < j → j < k + len → ∀ (a : Nat) (H : Heap), va_at G.2.1 vclasses (a, E j) H → va_at G.2.1 vclasses (a, E' j) H) (k1 : JC G X k ci pc L S fs E' len sl) : JC G X k ci pc L S fs E len sl := by
  obtain ⟨p, l, e, R, s, mi, args, below, meth, c, Q⟩ := X
  intro H locs ls hH hS0 hL
  refine k1 H locs ls (fun i hi => ?_) hS0 hL
  have h := hH i hi
  by_cases h0 : i = 0
  · subst h0
    rw [Nat.add_zero, Nat.add_zero, upE_eq] at h ⊢
    exact h
  · rw [upE_ne (by omega)] at h ⊢
    exact he (k + i) (by omega) (by omega) _ _ h
end JCRows
