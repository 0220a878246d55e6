/-! ===== 36a: an int array of int arrays is made ===== -/
/-- after i of the N rows: the outer array knows them -/
def mvS (cA cI : ClassId) (N M : Nat) (u : State) : Nat → State
  | 0 => u.pushCell (arrV cA N (fun _ => .null))
  | i + 1 => ((mvS cA cI N M u i).pushCell (arrV cI M (fun _ => .int 0))).setCell u.heap.size (arrV cA N (fun j => if j < i + 1 then .ref (u.heap.size + 1 + j) else .null))
def mvO (cA : ClassId) (N a i : Nat) : Cell := arrV cA N (fun j => if j < i then .ref (a + 1 + j) else .null)
theorem mvO_0 (cA : ClassId) (N a : Nat) : mvO cA N a 0 = arrV cA N (fun _ => .null) := by
  unfold mvO
  congr 1
theorem mvO_s (cA : ClassId) (N a i : Nat) : (mvO cA N a i).setSlot i (.ref (a + 1 + i)) = mvO cA N a (i + 1) := by
  unfold mvO
  rw [arrV_store]
  congr 1
  funext j
  unfold updV
  by_cases h : j = i
  · rw [if_pos h, if_pos (by omega), h]
  · rw [if_neg h]
    show (if j < i then Value.ref (a + 1 + j) else Value.null) = _
    by_cases h2 : j < i
    · rw [if_pos h2, if_pos (by omega)]
    · rw [if_neg h2, if_neg (by omega)]
theorem mvS_s (cA cI : ClassId) (N M : Nat) (u : State) (i : Nat) : mvS cA cI N M u (i + 1) = ((mvS cA cI N M u i).pushCell (arrV cI M (fun _ => .int 0))).setCell u.heap.size (mvO cA N u.heap.size (i + 1)) := rfl
/-- what stands where after i rows -/
theorem mvS_at (cA cI : ClassId) (N M : Nat) (u : State) : ∀ i, (mvS cA cI N M u i).heap.size = u.heap.size + 1 + i ∧ (mvS cA cI N M u i).heap[u.heap.size]? = some (mvO cA N u.heap.size i) ∧ (mvS cA cI N M u i).vm = u.vm ∧ (mvS cA cI N M u i).slotsUsed = u.slotsUsed + N + i * M ∧
    (∀ q, q < u.heap.size → (mvS cA cI N M u i).heap[q]? = u.heap[q]?) ∧ ∀ j, j < i → (mvS cA cI N M u i).heap[u.heap.size + 1 + j]? = some (arrV cI M (fun _ => .int 0)) := by
  intro i
  induction i with
  | zero =>
    refine ⟨by simp [mvS], by rw [mvO_0]; simp [mvS], rfl, ?_, fun q hq => State.heap_pushCell_of_lt _ _ hq, fun j hj => absurd hj (Nat.not_lt_zero _)⟩
    simp [mvS, arrV_size]
  | succ i ih =>
    obtain ⟨a1, a2, a3, a4, a5, a6⟩ := ih
    have lt0 : u.heap.size < (mvS cA cI N M u i).heap.size := by rw [a1]; omega
    have lt1 : u.heap.size < ((mvS cA cI N M u i).pushCell (arrV cI M (fun _ => .int 0))).heap.size := by simp; omega
    have sz : ((mvS cA cI N M u i).pushCell (arrV cI M (fun _ => .int 0))).heap.size = u.heap.size + 1 + (i + 1) := by simp [a1]; omega
    refine ⟨?_, ?_, ?_, ?_, fun q hq => ?_, fun j hj => ?_⟩
    · rw [mvS_s, size_setCell, sz]
    · rw [mvS_s, heapAt_setCell_self _ lt1]
    · rw [mvS_s]
      simp [a3]
    · rw [mvS_s]
      simp [a4, arrV_size, Nat.succ_mul]
      omega
    · rw [mvS_s, heapAt_setCell_ne _ (Nat.ne_of_gt hq), State.heap_pushCell_of_lt _ _ (Nat.lt_trans hq lt0)]
      exact a5 q hq
    · rw [mvS_s, heapAt_setCell_ne _ (show u.heap.size ≠ u.heap.size + 1 + j by omega)]
      by_cases h : j = i
      · subst h
        rw [← a1]
        exact State.heap_pushCell_size _ _
      · rw [State.heap_pushCell_of_lt _ _ (show u.heap.size + 1 + j < (mvS cA cI N M u i).heap.size by rw [a1]; omega)]
        exact a6 j (by omega)
theorem mvS_top (cA cI : ClassId) (N M : Nat) (u : State) (f : JFrame) : ∀ i, mvS cA cI N M (u.setTop f) i = (mvS cA cI N M u i).setTop f := by
  intro i
  induction i with
  | zero => rfl
  | succ i ih =>
    rw [mvS_s, mvS_s, ih]
    rfl
section MvWp
variable {E : CtlPost} {e : Env} {d : Bool} {acts : List Action} {s : State}
theorem mv_new {c comp : ClassId} {k : Class} {ty : FieldType} {n : Nat} {x : Value} (hk : s.vm.classes[c]? = some k) (hkind : k.kind = .array comp ty)
    (hl : ¬ n > e.platform.arrayLengthLimit) (hh : ¬ n * componentBytes ty > e.platform.maxHeapBytes) (hf : fits ty x = true) (hd : x.isDefault = true) {Q : Addr → Pre}
    (h1 : s.heap.size < e.platform.maxCells) (h2 : s.slotsUsed + n ≤ e.platform.maxSlots) (hq : Q s.heap.size d acts (s.pushCell (arrV c n (fun _ => x)))) :
    wp (Jvm.newArray c n x) Q E e d acts s := by
  rw [← arrV_new] at hq
  have hfs : ∀ i v, (Array.replicate n x)[i]? = some v → s.fitsSlot c .none i v = true := by
    intro i v hv
    rw [Array.getElem?_replicate] at hv
    split at hv
    · cases hv
      simp [State.fitsSlot, State.slotType?, hk, hkind, hf]
    · cases hv
  have hact : allocActs (Array.replicate n x) s.heap.size acts = acts := by
    have : ((Array.replicate n x).all (·.isDefault)) = true := by
      rw [Array.all_replicate]
      split <;> simp [hd]
    unfold allocActs
    rw [if_pos this]
  simp only [Jvm.newArray, Jvm.arrayFits, wp_bind', W.ask, W.ite, hl, if_false, wp_pure', W.theClass, hk, hkind, hh, W.alloc, W.stop, Option.some.injEq, exists_eq_left', Array.size_replicate, hact]
  rw [if_neg (by omega)]
  exact ⟨h1, h2, hfs, hq⟩
theorem mv_make {cA cI cc : ClassId} {kA kI : Class} {n m : Int32} {N M : Nat} (hN : n.toNatClampNeg = N) (hM : m.toNatClampNeg = M) (hkA : s.vm.classes[cA]? = some kA) (hkindA : kA.kind = .array cI (.array .int)) (hkI : s.vm.classes[cI]? = some kI) (hkindI : kI.kind = .array cc .int) (hn : ¬ n < 0) (hm : ¬ m < 0)
    (l1 : ¬ N > e.platform.arrayLengthLimit) (b1 : ¬ N * componentBytes (.array .int) > e.platform.maxHeapBytes) (l2 : ¬ M > e.platform.arrayLengthLimit) (b2 : ¬ M * componentBytes .int > e.platform.maxHeapBytes)
    (hc : s.heap.size + 1 + N ≤ e.platform.maxCells) (hs : s.slotsUsed + N + N * M ≤ e.platform.maxSlots) {Q : Addr → Pre} (hq : ∀ d' acts', Q s.heap.size d' acts' (mvS cA cI N M s N)) :
    wp (multianewarray.make cA [n, m]) Q E e d acts s := by
  subst hN
  subst hM
  have hbad : ([m].find? (· < 0)) = none := by simp [hm]
  rw [multianewarray.make]
  simp only [wp_bind', W.ite, hn, if_false, wp_pure', W.theClass, hkA, hkindA, Option.some.injEq, exists_eq_left']
  refine mv_new hkA hkindA l1 b1 rfl rfl (by omega) (by have := Nat.zero_le (n.toNatClampNeg * m.toNatClampNeg); omega) ?_
  simp only [hbad]
  rw [ite_self, wp_bind', Std.Legacy.Range.forIn_eq_forIn_range']
  rw [show ([:n.toNatClampNeg] : Std.Legacy.Range).size = n.toNatClampNeg by simp [Std.Legacy.Range.size]]
  show wp (forIn (List.range' 0 n.toNatClampNeg 1) PUnit.unit _) _ E e d acts _
  refine wp_forIn_inv (fun rest u => ∃ i, i ≤ n.toNatClampNeg ∧ rest = List.range' i (n.toNatClampNeg - i) ∧ u = mvS cA cI n.toNatClampNeg m.toNatClampNeg s i) _ _ ⟨0, Nat.zero_le _, rfl, rfl⟩ ?_ ?_
  · rintro x rest u d' acts' Q' ⟨i, hi, hl, rfl⟩ hnext
    have hlt : i < n.toNatClampNeg := by
      rcases Nat.lt_or_ge i n.toNatClampNeg with h | h
      · exact h
      · rw [show n.toNatClampNeg - i = 0 by omega] at hl; simp at hl
    rw [show n.toNatClampNeg - i = (n.toNatClampNeg - (i + 1)) + 1 by omega, List.range'_succ] at hl
    obtain ⟨rfl, hrest⟩ := List.cons.inj hl
    obtain ⟨f1, f2, f3, f4, -, -⟩ := mvS_at cA cI n.toNatClampNeg m.toNatClampNeg s x
    have hmul : x * m.toNatClampNeg + m.toNatClampNeg ≤ n.toNatClampNeg * m.toNatClampNeg := by
      have := Nat.mul_le_mul_right m.toNatClampNeg (show x + 1 ≤ n.toNatClampNeg from hlt)
      rw [Nat.succ_mul] at this
      exact this
    have lt0 : s.heap.size < (mvS cA cI n.toNatClampNeg m.toNatClampNeg s x).heap.size := by rw [f1]; omega
    simp only [wp_bind']
    rw [multianewarray.make]
    simp only [wp_bind', W.ite, hm, if_false, wp_pure', W.theClass, f3, hkI, hkindI, Option.some.injEq, exists_eq_left']
    refine mv_new (by rw [f3]; exact hkI) hkindI l2 b2 rfl rfl (by rw [f1]; omega) (by rw [f4]; omega) ?_
    simp only [wp_bind', W.writeLoc, wp_pure']
    refine ⟨mvO cA n.toNatClampNeg s.heap.size x, by rw [State.heap_pushCell_of_lt (h := lt0)]; exact f2, (fun h => by cases h), by rw [show (mvO cA n.toNatClampNeg s.heap.size x).slots.size = n.toNatClampNeg from arrV_size _ _ _]; exact hlt, ?_, hnext _ _ _ ⟨x + 1, hlt, hrest, ?_⟩⟩
    · show State.fitsSlot _ cA .none x (.ref _) = true
      simp [State.fitsSlot, State.slotType?, f3, hkA, hkindA]
      rfl
    · rw [f1, mvO_s]
      rfl
  · rintro u d' acts' ⟨i, hi, hl, rfl⟩
    have e0 : i = n.toNatClampNeg := by
      rcases Nat.lt_or_ge i n.toNatClampNeg with h | h
      · rw [show n.toNatClampNeg - i = (n.toNatClampNeg - (i + 1)) + 1 by omega, List.range'_succ] at hl; cases hl
      · omega
    subst e0
    simp only [wp_pure']
    exact hq _ _
end MvWp
/-- what the tables say of an int array of int arrays -/
def AoI (U : State) : Prop := ∃ (comp cA : ClassId) (kA : Class), U.vm.findClass "[I" = some comp ∧ U.vm.classes[cA]? = some kA ∧ kA.kind = .array comp (.array .int) ∧ U.vm.findClass "[[I" = some cA
theorem AoI.moved {u U : State} (hvm : u.vm.Alike U.vm) (h : AoI u) : AoI U := by
  obtain ⟨comp, cA, kA, h1, h2, h3, h4⟩ := h
  obtain ⟨k', hk', he⟩ := hvm.2.2 _ _ h2
  exact ⟨comp, cA, k', by rw [hvm.findClass]; exact h1, hk', by rw [he]; exact h3, by rw [hvm.findClass]; exact h4⟩
theorem AoI.of {args : Array Value} {s : State} (hover : (Cond.arrayOver (.array .int)).before args s = true) : AoI s := by
  obtain ⟨comp, cA, kA, hcomp, -, hkA, hkindA, hnameA⟩ := arrayOverA_spec hover
  exact ⟨comp, cA, kA, hcomp, hkA, hkindA, hnameA⟩
section MvW
variable {p : Program} {l : Launch} {e : Env} {R : Room} {s : State} {m : MethodId} {args : Array Value} {below : List Frame} {meth : Method} {c : Code} {T : State} {H : Heap} {locs : List Loc} {cells slots : Nat} {Q : State → Prop}
theorem mv_stand (X : Stand p l e R s m args below meth c T locs cells slots) (cA cI : ClassId) (N M : Nat) : ∀ i, ∃ locs', (∀ q ∈ locs', q ∈ locs ∨ q.base = T.heap.size) ∧ Stand p l e R s m args below meth c (mvS cA cI N M T i) locs' (cells + 1 + i) (slots + N + i * M) := by
  intro i
  induction i with
  | zero =>
    have h := X.pushed (arrV cA N (fun _ => .null))
    rw [arrV_size] at h
    exact ⟨locs, fun q hq => Or.inl hq, by simpa [mvS] using h⟩
  | succ i ih =>
    obtain ⟨locs', hl, Xi⟩ := ih
    obtain ⟨f1, f2, -, -, -, -⟩ := mvS_at cA cI N M T i
    have lt0 : T.heap.size < (mvS cA cI N M T i).heap.size := by rw [f1]; omega
    have hc : ((mvS cA cI N M T i).pushCell (arrV cI M (fun _ => .int 0))).heap[T.heap.size]? = some (mvO cA N T.heap.size i) := by rw [State.heap_pushCell_of_lt (h := lt0)]; exact f2
    have h := (Xi.pushed (arrV cI M (fun _ => .int 0))).stored hc i (.ref (T.heap.size + 1 + i))
    rw [mvO_s, arrV_size] at h
    refine ⟨locs' ++ [⟨T.heap.size, i⟩], fun q hq => ?_, ?_⟩
    · rcases List.mem_append.mp hq with h1 | h1
      · exact hl q h1
      · rw [List.mem_singleton.mp h1]; exact Or.inr rfl
    · rw [show slots + N + (i + 1) * M = slots + N + i * M + M by rw [Nat.succ_mul]; omega]
      exact h
/-- the row: two dimensions of ints -/
theorem W_multi {cc : ByteArray} (hexec : p.tables.exec = Jvm.exec) (hb : c.code = cc) {own : String} {index : Nat} (hown : s.vm.findClass own = some m.cls) (hclink : (Cond.classLink own index "[[I").before args s = true)
    (hover : AoI s) (harr : (Cond.arrayClass .int).before args s = true) {g : JFrame} (hg : g.method = m) (hdg : decode cc g.pc = .ok (.multianewarray index 2, 4)) {n k : Int32} {N M : Nat} {rest : List Value} (hstack : g.stack = .int k :: .int n :: rest)
    (hn : ¬ n < 0) (hk : ¬ k < 0) (hN : n.toNatClampNeg = N) (hM : k.toNatClampNeg = M) (hN2 : N ≤ 1000) (hM2 : M ≤ 1000) (hcells : cells + (1 + N) ≤ R.cells) (hslots : slots + (N + N * M) ≤ R.slots)
    (kk : ∀ (cA cI : ClassId) (H' : Heap) (locs' : List Loc), s.vm.findClass "[[I" = some cA → s.vm.findClass "[I" = some cI → H'.size = H.size + 1 + N → H'[H.size]? = some (arrV cA N (fun j => if j < N then .ref (H.size + 1 + j) else .null)) → (∀ j, j < N → H'[H.size + 1 + j]? = some (arrV cI M (fun _ => .int 0))) → (∀ q, q < H.size → H'[q]? = H[q]?) → (∀ q ∈ locs', q ∈ locs ∨ q.base = H.size) →
      W p l e R s m args below meth c H' locs' (cells + 1 + N) (slots + N + N * M) Q { g with pc := g.pc + 4, stack := .ref H.size :: rest }) : W p l e R s m args below meth c H locs cells slots Q g := by
  intro T hT X
  subst hT; subst hb; subst hg
  have hpl : e.platform.magicAccessors = ({} : Platform).magicAccessors := by rw [X.admits.platform]
  obtain ⟨comp, cA, kA, hcomp, hkA, hkindA, hnameA⟩ := hover
  obtain ⟨comp', kC, cc', hcomp', hkC, hkindC⟩ := Cond.arrayClass_spec harr
  obtain rfl : comp' = comp := Option.some.inj (hcomp'.symm.trans hcomp)
  obtain ⟨c0, hfc0, hcl⟩ := Cond.classLink_spec hown hclink e.platform hpl
  obtain rfl : cA = c0 := Option.some.inj (hnameA.symm.trans hfc0)
  obtain ⟨hg₁, hwarm₁, hready₁⟩ := State.classEntry (e := e) X.warmed hcl
  generalize T.vm.noted g.method.cls index (.cls cA) = vm₁ at hg₁ hwarm₁ hready₁
  have hal : s.vm.Alike vm₁ := hwarm₁.alike
  obtain ⟨kA₁, hkA₁, heA⟩ := hal.2.2 _ _ hkA
  obtain ⟨kC₁, hkC₁, heC⟩ := hal.2.2 _ _ hkC
  have hkindA₁ : kA₁.kind = .array comp' (.array .int) := by rw [heA]; exact hkindA
  have hkindC₁ : kC₁.kind = .array cc' .int := by rw [heC]; exact hkindC
  have X₁ := X.noted hwarm₁
  obtain ⟨hr1, hr2⟩ := X.roomAbove hcells hslots
  obtain ⟨locs', hl', XF⟩ := mv_stand X₁ cA comp' N M N
  obtain ⟨f1, f2, -, -, f5, f6⟩ := mvS_at cA comp' N M (T.setVm vm₁) N
  obtain ⟨t, a1, b1⟩ := kk cA comp' _ locs' hnameA hcomp f1 f2 f6 f5 hl' _ rfl XF
  refine ⟨t, ?_, b1⟩
  have hl1 : ¬ N > e.platform.arrayLengthLimit := by rw [Launch.admits_arrayLengthLimit X.admits]; omega
  have hh1 : ¬ N * componentBytes (.array .int) > e.platform.maxHeapBytes := by rw [Launch.admits_maxHeapBytes X.admits]; show ¬ N * 4 > 536870912; omega
  have hl2 : ¬ M > e.platform.arrayLengthLimit := by rw [Launch.admits_arrayLengthLimit X.admits]; omega
  have hh2 : ¬ M * componentBytes .int > e.platform.maxHeapBytes := by rw [Launch.admits_maxHeapBytes X.admits]; show ¬ M * 4 > 536870912; omega
  jvm_step X.here [hexec, hdg]
  simp only [multianewarray.sem, wp_bind', W.resolveClassAt_links (State.method?_setTop g X.here.top) hg₁]
  rw [W.popN, if_neg (by decide)]
  refine ⟨g, State.topJava?_setTop' (s := T.setVm vm₁) g X.here.top, [.int n, .int k], rest, rfl, hstack, ?_⟩
  simp only [List.mapM_cons, List.mapM_nil, wp_bind', wp_pure']
  refine mv_make hN hM hkA₁ hkindA₁ hkC₁ hkindC₁ hn hk hl1 hh1 hl2 hh2 (by show T.heap.size + 1 + _ ≤ _; omega) (by show T.slotsUsed + _ + _ ≤ _; omega) (fun d' acts' => ?_)
  have eS : ((T.setTop g).setVm vm₁).setTop { g with stack := rest } = (T.setVm vm₁).setTop { g with stack := rest } := by
    show ((T.setVm vm₁).setTop g).setTop _ = _
    rw [State.setTop_setTop]
  rw [eS, mvS_top]
  simp only [wp_bind', W.mark, W.pushRef, State.topJava?_setTop' _ XF.here.top, Option.some.injEq, exists_eq_left', State.setTop_setTop, State.heap_setTop]
  intro acts
  simp [jvm, XF.here.top]
  exact a1
end MvW
