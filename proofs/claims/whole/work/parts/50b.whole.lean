/-! THE CLAIM OUT OF ONE WALK OF THE LAW'S BODY. Your part is whole_start (and what it stands on); all else here is the same for every law, but numbers. -/
def R_law : String := "HalfHereLaw"
def lw_P (b : Addr) (xs : List Int32) (args : Array Value) (s : State) : Prop := args = #[.ref b] ∧ s.IntsAt b xs ∧ xs.length ≤ 2560 ∧ (Jvm.Cond.and given_1 narrow_1).before args s = true
def lw_Q (_ : Array Value) (s : State) (o : Outcome) (t : State) : Prop := o = .returned (some (.int 1)) ∧ Framed s o t [] 600000 7302250
def lw_Z (below : List Frame) (a : Array Value) (s : State) : State → Prop := fun t => ∃ o, t.status = .running ∧ Ended t below o ∧ lw_Q a s o t
/-- the law's own end, with 1 on the stack, nothing written that was there before, its room as the claim has it -/
theorem lw_ret {p : Program} {l : Launch} {e : Env} {s : State} {m : MethodId} {below : List Frame} {meth : Method} {c : Code} {b : Nat} (hx : p.tables.exec = Jvm.exec) (hb : c.code = code) (hr : meth.sig.returnType = ret) (hlocks : meth.locks = false) {pc : Nat} {H : Heap} {ls : Array Slot} (hdg : decode code pc = .ok (.ireturn, 1)) : W p l e room_1 s m #[Value.ref b] below meth c H [] 600000 7302250 (lw_Z below #[Value.ref b] s) (F0 m pc ls [.int 1]) := by
  intro T hT X
  obtain ⟨fs, hret, hrun, hended, hW, hframe⟩ := X.leave (v := some (.int 1)) (hlocks := hlocks) (fun h => by rw [hr] at h; cases h)
  have hmeth' : T.vm.method? m = some meth := X.method'
  refine ⟨T.setFrames fs, ?_, .returned (some (.int 1)), hrun, hended, rfl, ⟨_, rfl⟩, hW, hframe⟩
  jvm_step X.here [X.here.top, hx, hb, hdg, hmeth', hr, ret, narrow_b1]
  (try refine ⟨rfl, ?_⟩); (try refine ⟨rfl, ?_⟩)
  first | (intro acts; rw [hret _ acts rfl rfl rfl]) | rw [hret _ _ rfl rfl rfl]
  exact Steps.refl _
/-- what holds at the law's entry: the machine, the code, the tables' words (any of lw_tbl by 'hts w (by decide +kernel)'), the script of L ints xs at the cell b, what the Statement gives of the start (any of its parts by flat_of_before) -/
def lw_At (p : Program) (s : State) (m : MethodId) (meth : Method) (c : Code) (b L : Nat) (xs : Nat → Int32) : Prop :=
  p.tables.exec = Jvm.exec ∧ c.code = code ∧ meth.sig.returnType = ret ∧ c.maxLocals = 4 ∧ s.vm.findClass R_law = some m.cls ∧ (∀ w ∈ lw_tbl, w.before #[Value.ref b] s = true) ∧ va_X b L xs s s.heap ∧ b < s.heap.size ∧ meth.locks = false ∧ (Jvm.Cond.and given_1 narrow_1).before #[Value.ref b] s = true
theorem whole_start {p : Program} {e : Env} {s : State} {m : MethodId} {below : List Frame} {meth : Method} {c : Code} (l : Launch) (hflags : l.flags = flags0) {b L : Nat} {xs : Nat → Int32} (hL : L ≤ 2560) (C0 : lw_At p s m meth c b L xs) : W p l e room_1 s m #[Value.ref b] below meth c s.heap [] 0 0 (lw_Z below #[Value.ref b] s) (entryFrame m ([Value.ref b] : List Value).toArray 4) := by
  obtain ⟨hx, hb, hret, hml, hown, hts, hXs, hbl, hlk, hgv⟩ := C0
  obtain ⟨D, hD⟩ := st_classes hts
  obtain ⟨T, t0, t1, t2, t3, t4, t5, t6⟩ := st_types hts
  have hs := flat_of_before _ hgv
  have hA : ∀ a : Nat, a < s.heap.size → ¬ (s.heap.size ≤ a ∧ a < s.heap.size + 285) := fun a h q => by omega
  have six : ∀ (P : Nat → Prop), P 0 → P 1 → P 2 → P 3 → P 4 → P 5 → ∀ j : Nat, j < 6 → P j := by
    intro P p0 p1 p2 p3 p4 p5 j hj
    have : j = 0 ∨ j = 1 ∨ j = 2 ∨ j = 3 ∨ j = 4 ∨ j = 5 := by omega
    rcases this with rfl | rfl | rfl | rfl | rfl | rfl <;> assumption
  obtain ⟨a60, z60, ta60⟩ := st_tab (C := RX6) (n := "KIND_LETTERS") (d := "[C") (ty := .char) (f := fun j => klf j) (A := fun q => s.heap.size ≤ q ∧ q < s.heap.size + 285) (hts _ mZ_KIND_LETTERS) (hts _ mN_X6) (hs _ (by decide +kernel)) (hs _ (by decide +kernel)) (six _ (hs _ (by decide +kernel)) (hs _ (by decide +kernel)) (hs _ (by decide +kernel)) (hs _ (by decide +kernel)) (hs _ (by decide +kernel)) (hs _ (by decide +kernel))) hA
  obtain ⟨a61, z61, ta61⟩ := st_tab (C := RX1) (n := "LEAST_TO_GIVE") (d := "[I") (ty := .int) (f := fun j => lgf j) (A := fun q => s.heap.size ≤ q ∧ q < s.heap.size + 285) (hts _ mZ_LEAST_TO_GIVE) (hts _ mN_X1) (hs _ (by decide +kernel)) (hs _ (by decide +kernel)) (six _ (hs _ (by decide +kernel)) (hs _ (by decide +kernel)) (hs _ (by decide +kernel)) (hs _ (by decide +kernel)) (hs _ (by decide +kernel)) (hs _ (by decide +kernel))) hA
  obtain ⟨G, g1, g2, g3, g60, g61, g62, gl⟩ : ∃ G : GC, G.1 = s.heap.size ∧ G.2.1 = D ∧ G.2.2.1 = T ∧ G.2.2.2.1 60 = a60 ∧ G.2.2.2.1 61 = a61 ∧ G.2.2.2.1 62 = b ∧ G.2.2.2.2.2 = l := ⟨(s.heap.size, D, T, fun t => if t = 60 then a60 else if t = 61 then a61 else b, L, l), rfl, rfl, rfl, rfl, rfl, rfl, rfl⟩
  subst g2
  subst g3
  subst g60
  subst g61
  have hfr : fr G = fun q => s.heap.size ≤ q ∧ q < s.heap.size + 285 := by
    funext q
    unfold fr
    rw [g1]
  rw [← hfr] at z60 z61 ta60 ta61
  have hTabs : Tabs G s := by
    refine ⟨hD, fun k q hk => ?_⟩
    have hk7 : k < 7 := (List.getElem?_eq_some_iff.mp hk).1
    have : k = 0 ∨ k = 1 ∨ k = 2 ∨ k = 3 ∨ k = 4 ∨ k = 5 ∨ k = 6 := by omega
    rcases this with rfl | rfl | rfl | rfl | rfl | rfl | rfl
    · obtain rfl := Option.some.inj (show some (G.2.2.1 0, FieldType.int) = some q from hk); exact t0
    · obtain rfl := Option.some.inj (show some (G.2.2.1 1, FieldType.boolean) = some q from hk); exact t1
    · obtain rfl := Option.some.inj (show some (G.2.2.1 2, FieldType.char) = some q from hk); exact t2
    · obtain rfl := Option.some.inj (show some (G.2.2.1 3, FieldType.array .int) = some q from hk); exact t3
    · obtain rfl := Option.some.inj (show some (G.2.2.1 4, FieldType.object RX3) = some q from hk); exact t4
    · obtain rfl := Option.some.inj (show some (G.2.2.1 5, FieldType.object RX8) = some q from hk); exact t5
    · obtain rfl := Option.some.inj (show some (G.2.2.1 6, FieldType.object RX2) = some q from hk); exact t6
  have hSpc : Spc G s s.heap := ⟨z60, z61, ta60, ta61, va_Nw.of rfl (hts _ mLN_X1_52)⟩
  have hTC : TabsC G s := ⟨hTabs, AoI.of (hts _ mO_ii), va_AO.of (hts _ mO_X3), va_AO.of (hts _ mO_X8), va_AO.of (hts _ mO_X2)⟩
  have hlw : ∀ w ∈ lw_g, w.before #[Value.ref b] s = true := fun w hw => hts w (List.mem_filter.mp hw).1
  have hl := lv_entry [Value.ref b] (n := 4) (Nat.le_of_ble_eq_true rfl)
  rw [lg_entry_eq]
  refine w_new (own := RL) (t := 0) (v := 0) (i := 0) (len := 0) (sl := 0) (T := TX9) (N := 12) (ty := tyX9) hx hb hml hown hlw hTC g1.symm gl (by decide) (by decide) (by decide) rfl K_X9 (by decide) mY_X9 tyX9_ok rfl fv9_ok mK_L_7 rfl mM_X9 mN_X9 rfl rfl mC_X9_init mL_L_9 mI_X9_init (by decide +kernel) hl.1 (by decide) (by decide) dL_law_0 dL_law_3 dL_law_4 (fun i hi => absurd hi (by omega)) va_S.rf (fun H2 locs2 hW2 hS2 => ?_)
  refine lv_astore_n (x := ad G 0 0 0) hx hb dL_law_7 rfl hl (by decide) rfl (fun ls1 hl1 => ?_)
  refine w_new (own := RL) (t := 40) (v := 0) (i := 0) (len := 0 + 272) (T := TX10) (N := 20) (ty := tyX10) hx hb hml hown hlw hTC g1.symm gl (by decide) (by decide) (by decide) rfl K_X10 (by decide) mY_X10 tyX10_ok rfl fv10_ok mK_L_10 rfl mM_X10 mN_X10 rfl rfl mC_X10_init mL_L_12 mI_X10_init (by decide +kernel) hl1.1 (by decide) (by decide) dL_law_8 dL_law_11 dL_law_12 hW2 hS2 (fun H3 locs3 hW3 hS3 => ?_)
  refine lv_astore_n (x := ad G 40 0 0) hx hb dL_law_15 rfl hl1 (by decide) rfl (fun ls2 hl2 => ?_)
  refine lv_iconst hx hb dL_law_16 rfl ?_
  refine lv_istore_n hx hb dL_law_17 rfl hl2 (by decide) rfl (fun ls3 hl3 => ?_)
  have hLh : Lh G ls3 [vr 62 0 0, vr 0 0 0, vr 40 0 0, vi 0] := by
    refine Lh_of rfl hl3 (fun q hq => ?_)
    have e62 : ad G 62 0 0 = b := g62
    have hq' : q = (0, Value.ref b) ∨ q = (1, Value.ref (ad G 0 0 0)) ∨ q = (2, Value.ref (ad G 40 0 0)) ∨ q = (3, Value.int (Int32.ofInt 0)) := by
      have h1 : q ∈ [(0, Value.ref (ad G 62 0 0)), (1, Value.ref (ad G 0 0 0)), (2, Value.ref (ad G 40 0 0)), (3, Value.int (Int32.ofInt 0))] := hq
      rw [e62] at h1
      simpa using h1
    rcases hq' with rfl | rfl | rfl | rfl
    · exact List.mem_cons_of_mem _ (List.mem_filter.mpr ⟨List.mem_cons_of_mem _ (List.mem_filter.mpr ⟨List.mem_cons_of_mem _ (List.mem_filter.mpr ⟨List.mem_cons_self, rfl⟩), rfl⟩), rfl⟩)
    · exact List.mem_cons_of_mem _ (List.mem_filter.mpr ⟨List.mem_cons_of_mem _ (List.mem_filter.mpr ⟨List.mem_cons_self, rfl⟩), rfl⟩)
    · exact List.mem_cons_of_mem _ (List.mem_filter.mpr ⟨List.mem_cons_self, rfl⟩)
    · exact List.mem_cons_self
  refine W.widen (k := 600000) (n := 7302250) (by decide) (by decide) ?_
  refine va_forget (fun q hq => by have h : G.1 + 0 ≤ q.base := hS3.2.2 q hq; omega) ?_
  have hX : LX G (p, l, e, room_1, s, m, #[Value.ref b], below, meth, c, 600000, 7302250, lw_Z below #[Value.ref b] s, s.heap) := ⟨hx, hb, hml, hown, hlw, hTabs, hSpc, gl, by decide, by decide, by decide, by decide⟩
  have hSX : SX G (p, l, e, room_1, s, m, #[Value.ref b], below, meth, c, 600000, 7302250, lw_Z below #[Value.ref b] s, s.heap) L xs := by
    refine ⟨by rw [g62]; exact hXs, by rw [g62]; exact hbl, ?_⟩
    rw [g62, hfr]
    exact hA b hbl
  have KX : ∀ i m', LN G (p, l, e, room_1, s, m, #[Value.ref b], below, meth, c, 600000, 7302250, lw_Z below #[Value.ref b] s, s.heap) 1079 i m' := by
    intro i m' h1 h2 h3 H locs ls hH hS hLs
    refine lv_iconst hx hb dL_law_1079 (v := 1) rfl ?_
    refine va_forget (fun q hq => by have h : fr G q.base := hS.2.2 q hq; have h' := h.1; omega) ?_
    exact lw_ret hx hb hret hlk dL_law_1080
  have KJ := lw_loop hX hSX hL KX (L + 1) 0 0 m0 (by omega) (by omega) (by omega) (by omega) LI_0
  refine KJ (cnL.cons (Or.inl (by decide)) (cnL.cons (Or.inr (by unfold vok; decide +kernel)) (cnL.cons (Or.inr (by unfold vok; decide +kernel)) (cnL.consI (fun w h => by cases h) (by decide))))) (fun w h => by cases h) rng_0 H3 [] ls3 ?_ ⟨hS3.1, fun q h1 h2 => hS3.2.1 q h1 (by omega), fun q hq => by cases hq⟩ hLh
  unfold Holds
  rw [allc_0]
  exact WP.P hW3
set_option maxHeartbeats 4000000 in
theorem lw_walk (l : Launch) (hflags : l.flags = flags0) (b : Addr) (xs : List Int32) : MetFree l x (headSpec (Jvm.Cond.code x code maxLocals ret :: tables_1) room_1) (lw_P b xs) (fun _ _ _ _ _ => True) lw_Q := by
  refine MetFree.of_bodyS (code := code) (maxLocals := maxLocals) (ret := ret) (by decide) ?_ ?_
  · intro args s m h hn
    obtain ⟨meth, c, h1, h2, h3, h4, h5, h6, -, -⟩ := Cond.code_spec hn (atoms_spec (ws := Jvm.Cond.code x code maxLocals ret :: tables_1) h _ List.mem_cons_self)
    exact ⟨meth, c, h1, h2, h3, h4, h5, h6⟩
  · intro p e s m args below meth c s₁ B hml0 hP _
    obtain ⟨rfl, hx, hbd, hgv⟩ := hP
    obtain ⟨scr, harrAt, hlist, hof, hsmall⟩ := hx
    obtain ⟨hcb, hkn, -, -⟩ := State.arrayAt?_spec harrAt
    have hown : s.vm.findClass R_law = some m.cls := findClass_of_methodNamed B.named
    have hts0 : ∀ c ∈ (Jvm.Cond.code x code maxLocals ret :: tables_1), c.before #[Value.ref b] s = true := atoms_spec (ws := Jvm.Cond.code x code maxLocals ret :: tables_1) B.pre
    have hts : ∀ w ∈ lw_tbl, w.before #[Value.ref b] s = true := k2_hts_sels lw_privs (fun w hw => hts0 w (List.mem_cons_of_mem _ hw)) lw_privs_ok
    have hml : c.maxLocals = 4 := B.maxLocals_eq (hts0 _ List.mem_cons_self)
    have X₀ : Stand p l e room_1 s m #[Value.ref b] below meth c s₁ [] 0 0 := Stand.of_body B
    have hh0 : s₁.heap = s.heap := by rw [B.state]; rfl
    have hsz : scr.slots.size = xs.length := by rw [← Array.length_toList, hlist, List.length_map]
    have hval : ∀ j : Nat, j < xs.length → scr.slots[j]? = some (.int (xs.getD j 0)) := fun j hj => by
      rw [← Array.getElem?_toList, hlist]
      simp [hj]
    have hbl : b < s.heap.size := (Array.getElem?_eq_some_iff.mp hcb).1
    have hX : va_X b xs.length (fun j => xs.getD j 0) s s.heap := ⟨scr, hcb, hof, hkn, hsz, hval⟩
    have K : W p l e room_1 s m #[Value.ref b] below meth c s₁.heap [] 0 0 (lw_Z below #[Value.ref b] s) (entryFrame m ([Value.ref b] : List Value).toArray 4) := by
      rw [hh0]
      exact whole_start l hflags hbd ⟨B.exec, B.bytes, B.returns, hml, hown, hts, hX, hbl, B.notSynchronized, hgv⟩
    obtain ⟨t, a1, o, b1, b2, b3⟩ := K s₁ rfl X₀
    exact ⟨t, o, a1, b1, b2, b3⟩
theorem lw_pre_spec {args : Array Value} {s : State} (h : (Jvm.Cond.and given_1 narrow_1).before args s = true) (hr : rest_1_c.before args s = true) : ∃ (b : Addr) (xs : List Int32), lw_P b xs args s := by
  have hs := flat_of_before _ h
  have hq := flat_of_before _ hr
  have hc : (Cond.count 1).before args s = true := hs _ (by decide +kernel)
  have harr : (Cond.arrayOf (.arg 0) .int).before args s = true := hs _ (by decide +kernel)
  have hle : (Cond.le (.length (.arg 0)) (.int 2560)).before args s = true := hs _ (by decide +kernel)
  have hlen : (Cond.isInt (.length (.arg 0))).before args s = true := hq _ (by decide +kernel)
  have hall : (Cond.all (.arg 0) (.isInt (.elem (.arg 0) (.index 0)))).before args s = true := hq _ (by decide +kernel)
  obtain ⟨b, xs, hb, hx⟩ := State.ints_of_pre rfl harr hlen hall
  have hsm : xs.length < 2 ^ 31 := hx.choose_spec.2.2.2
  have hev : (Term.length (.arg 0)).eval args s none [] s = some (.int xs.length.toInt32) := hx.length_eval hb
  have hv := Cond.le_ints hev (show (Term.int 2560).eval args s none [] s = some (.int 2560) from rfl)
  have hd : xs.length.toInt32 ≤ 2560 := by
    simpa [Cond.before, Cond.holds, hv] using hle
  have hN : xs.length ≤ 2560 := (Int32.ofNat_le_ofNat hsm (by decide)).mp (show Int32.ofNat xs.length ≤ Int32.ofNat 2560 from hd)
  exact ⟨b, xs, Cond.one_arg hc (show args[0]? = some (.ref b) from hb), hx, hN, h⟩
theorem lw_comes (l : Launch) (hflags : l.flags = flags0) : Comes l x (Jvm.Cond.code x code maxLocals ret :: tables_1) room_1 (fun tb e args s => Calls_1 tb e args s ∧ rest_1 tb e args s ∧ Pre_1 tb e args s)
    (fun _ _ args s o t => lw_Q args s o t) := by
  intro p e ha hc hk s m args below hf hfit hheap happ hpre
  obtain ⟨b, xs, hP⟩ := lw_pre_spec hpre.2.2 hpre.2.1
  obtain ⟨k, o, h1, h2, h3, hQ⟩ := lw_walk l hflags b xs p e ha hc hk s m args below hf ((Spec.applies_iff_loose hf).mp happ).1 hP trivial
  exact ⟨k, o, h1, h2, h3, hQ⟩
theorem lw_frame {s t : State} {o : Outcome} {args : Array Value} (h : Framed s o t [] 600000 7302250) :
    Framed s o t (fieldLocs frame_1_writes args s ++ arrayLocs frame_1_arrays args s ++ staticLocs frame_1_statics s) 600000 7302250 := h
theorem lw_limb (L : Cond) (hL : ∀ (args : Array Value) (s t : State), L.after args s (.returned (some (.int 1))) t = true) :
    ArmFor flags0 classFile x code maxLocals ret World_1 tables_1 room_1 Calls_1 rest_1 Pre_1
      (fun tb e a s o t => postC L tb e a s o t ∧ Framed s o t (fieldLocs frame_1_writes a s ++ arrayLocs frame_1_arrays a s ++ staticLocs frame_1_statics s) 600000 7302250) := by
  intro l hflags _ _ p e ha hc hk s m args below hf hfit hheap happ hpre
  obtain ⟨k, o, h1, h2, h3, rfl, hF⟩ := lw_comes l hflags p e ha hc hk s m args below hf hfit hheap happ hpre
  exact ⟨k, _, h1, h2, h3, hL args s _, lw_frame hF⟩
theorem i_vc : Claimed_1_1 ∧ Claimed_1_2 := ⟨lw_limb limb_1_1 (fun args s t => by simp [limb_1_1, Cond.after, Cond.holds, Cond.value]), lw_limb limb_1_2 (fun args s t => Cond.after_iff.mpr (by
  first | (rw [show limb_1_2 = Cond.eq .result (.int 1) from rfl, Cond.eq_ints (x := 1) (y := 1) rfl rfl]; simp; done) | (simp [limb_1_2, Cond.value, Term.eval]; done)))⟩
