/-! ===== 37b: constructors: rows that make cells ===== -/
theorem arrV_cong {c : ClassId} {n : Nat} {f g : Nat → Value} (h : ∀ j, j < n → f j = g j) : arrV c n f = arrV c n g := by
  unfold arrV
  congr 1
  congr 1
  funext j
  exact h j.1 j.2
def aN : FieldType → Nat → va_E → ClassId → Prop := fun ty n e cA => (ty = .int ∨ ty = .boolean) ∧ e = .inl (cA, n, .inl (fun _ => Int32.ofInt 0))
section JCRows2
variable {G : GC} {X : XC} {cc : ByteArray} {own : String} {nL d k ci nc ns : Nat} {L S : List HV} {fs : List Value} {E : Nat → va_E} {len sl pc : Nat}
theorem tyG_name {s : State} (h : Tabs G s) {c : Nat} {cA : ClassId} {ty : FieldType} (hc : (tysG G)[c]? = some (cA, ty)) : s.vm.findClass ("[" ++ ty.toString) = some cA := by
  have h1 := (h.2 c _ hc).2
  cases ty with
  | object C =>
    obtain ⟨kA, comp, -, -, -, h4⟩ := h1
    exact h4
  | _ => exact h1
theorem ct_newa (hX : JCOk G X cc own nL d k nc ns) {t : Nat} {v i : Int} {x : Int} {N c : Nat} {aty : ArrayType} {ty : FieldType} {cA : ClassId} (hlen : 1 ≤ len) (hk : ix t v i = k + len) (harr : Cond.arrayClass (newarray.typeOf aty) ∈ lw_tbl) (hty : newarray.typeOf aty = ty) (hz : defaultValue ty = .int 0) (hcb : componentBytes ty ≤ 4) (hc : (tysG G)[c]? = some (cA, ty)) (hx : x = (N : Int)) (hN : N ≤ 300) (hE : E (k + len) = .inl (cA, N, .inl (fun _ => Int32.ofInt 0))) (hnc : len ≤ nc) (hns : sl + N ≤ ns)
    (dg : decode cc pc = .ok (.newarray aty, 2)) (k1 : JC G X k ci (pc + 2) L (vr t v i :: S) fs E (len + 1) (sl + N)) (ht : t < 60 := by decide) : JC G X k ci pc L (vi x :: S) fs E len sl := by
  obtain ⟨p, l, e, R, s, mi, args, below, meth, c0, Q⟩ := X
  intro H locs ls hH hS0 hL
  have hxr : inR x := by rw [hx]; exact (show inR (N : Int) by omega)
  have hx0 : ¬ Int32.ofInt x < 0 := by rw [← rI_0, rI_lt hxr (by decide)]; omega
  have hxn : (Int32.ofInt x).toNatClampNeg = N := by rw [rI_clamp hxr (by omega), hx]; omega
  obtain ⟨z1, z2, z3, z4, z5, z6, z7, z8, z9, z10, z11, z12, z13⟩ := hX.x rfl
  refine va_newa z1 z2 (z5 _ (mem_g harr rfl)) hty z6.1 hH.P wl_D hS0 (fun q hq => by show G.1 + k ≤ q; omega) (a0 := (N, .inl (fun _ => Int32.ofInt 0))) (N' := N) (fun cA' => by rw [hz]; rfl) hx0 hxn (by have := Nat.mul_le_mul hN hcb; omega) (by omega) (by omega) dg (fun q cA' H1 hK1 hP1 hD1 hS1 => ?_)
  have hcA : cA' = cA := by
    have h1 := tyG_name (G := G) z6.1 hc
    have h2 : va_RA s cA' ty := (hK1.2 7 (cA', ty) rfl).2
    have h3 : s.vm.findClass ("[" ++ ty.toString) = some cA' := by
      cases ty with
      | object C =>
        obtain ⟨kA, comp, -, -, -, h4⟩ := h2
        exact h4
      | _ => exact h2
    exact Option.some.inj (h3.symm.trans h1)
  subst hcA
  refine W.size (fun hz1 => ?_)
  obtain ⟨rfl, hW⟩ := WP.new hP1 hD1 (by rw [z7] at hz1; omega) (by rw [upE_ne (by omega)]; exact hE)
  rw [show len - 1 + 1 = len + 1 - 1 by omega]
  have ha : tv G (vr t v i) = .ref (G.1 + k + len) := by show Value.ref (ad G t v i) = _; rw [ad_this ht hk, Nat.add_assoc]
  have h := k1 H1 locs ls hW hS1 hL
  rw [List.map_cons, ha] at h
  exact h
theorem ct_anew (hX : JCOk G X cc own nL d k nc ns) {t : Nat} {v i : Int} {x : Int} {N c idx : Nat} {C : String} {cA : ClassId} (hlen : 1 ≤ len) (hk : ix t v i = k + len) (hlk : Cond.classLink own idx C ∈ lw_tbl) (hg : goodWord (Cond.classLink own idx C) = true) (hAO : ∀ U, TabsC G U → va_AO C U) (hc : (tysG G)[c]? = some (cA, .object C)) (hx : x = (N : Int)) (hN : N ≤ 300) (hE : E (k + len) = .inl (cA, N, .inr (.inr (.inr (.inr (fun _ => none)))))) (hnc : len ≤ nc) (hns : sl + N ≤ ns)
    (dg : decode cc pc = .ok (.anewarray idx, 3)) (k1 : JC G X k ci (pc + 3) L (vr t v i :: S) fs E (len + 1) (sl + N)) (ht : t < 60 := by decide) : JC G X k ci pc L (vi x :: S) fs E len sl := by
  obtain ⟨p, l, e, R, s, mi, args, below, meth, c0, Q⟩ := X
  intro H locs ls hH hS0 hL
  have hxr : inR x := by rw [hx]; exact (show inR (N : Int) by omega)
  have hx0 : ¬ Int32.ofInt x < 0 := by rw [← rI_0, rI_lt hxr (by decide)]; omega
  have hxn : (Int32.ofInt x).toNatClampNeg = N := by rw [rI_clamp hxr (by omega), hx]; omega
  obtain ⟨z1, z2, z3, z4, z5, z6, z7, z8, z9, z10, z11, z12, z13⟩ := hX.x rfl
  refine va_newq z1 z2 z4 (z5 _ (mem_g hlk hg)) (hAO s z6) z6.1 hH.P wl_D hS0 (fun q hq => by show G.1 + k ≤ q; omega) (N' := N) hx0 hxn (by omega) (by omega) (by omega) dg (fun q cA' H1 hK1 hP1 hD1 hS1 => ?_)
  have hcA : cA' = cA := by
    have h1 := tyG_name (G := G) z6.1 hc
    obtain ⟨kA, comp, -, -, -, h4⟩ : va_RA s cA' (.object C) := (hK1.2 7 (cA', .object C) rfl).2
    exact Option.some.inj (h4.symm.trans h1)
  subst hcA
  refine W.size (fun hz1 => ?_)
  obtain ⟨rfl, hW⟩ := WP.new hP1 hD1 (by rw [z7] at hz1; omega) (by rw [upE_ne (by omega)]; exact hE)
  rw [show len - 1 + 1 = len + 1 - 1 by omega]
  have ha : tv G (vr t v i) = .ref (G.1 + k + len) := by show Value.ref (ad G t v i) = _; rw [ad_this ht hk, Nat.add_assoc]
  have h := k1 H1 locs ls hW hS1 hL
  rw [List.map_cons, ha] at h
  exact h
theorem ct_multi (hX : JCOk G X cc own nL d k nc ns) {t : Nat} {v i : Int} {x y : Int} {N M idx : Nat} {f : Nat → Nat} (hlen : 1 ≤ len) (hk : ix t v i = k + len) (hlk : Cond.classLink own idx "[[I" ∈ lw_tbl) (hg : goodWord (Cond.classLink own idx "[[I") = true) (hx : x = (N : Int)) (hy : y = (M : Int)) (hN : N ≤ 300) (hM : M ≤ 300)
    (hE : E (k + len) = .inl (G.2.2.1 3, N, .inr (.inr (.inr (.inr (fun j => some (f j))))))) (hf : ∀ j, j < N → f j = G.1 + (k + len + 1 + j)) (hE2 : ∀ j, j < N → E (k + len + 1 + j) = .inl (G.2.2.1 0, M, .inl (fun _ => Int32.ofInt 0))) (hnc : len + N ≤ nc) (hns : sl + N + N * M ≤ ns)
    (dg : decode cc pc = .ok (.multianewarray idx 2, 4)) (k1 : JC G X k ci (pc + 4) L (vr t v i :: S) fs E (len + 1 + N) (sl + N + N * M)) (ht : t < 60 := by decide) : JC G X k ci pc L (vi y :: vi x :: S) fs E len sl := by
  obtain ⟨p, l, e, R, s, mi, args, below, meth, c0, Q⟩ := X
  intro H locs ls hH hS0 hL
  have hxr : inR x := by rw [hx]; exact (show inR (N : Int) by omega)
  have hx0 : ¬ Int32.ofInt x < 0 := by rw [← rI_0, rI_lt hxr (by decide)]; omega
  have hxn : (Int32.ofInt x).toNatClampNeg = N := by rw [rI_clamp hxr (by omega), hx]; omega
  have hyr : inR y := by rw [hy]; exact (show inR (M : Int) by omega)
  have hy0 : ¬ Int32.ofInt y < 0 := by rw [← rI_0, rI_lt hyr (by decide)]; omega
  have hyn : (Int32.ofInt y).toNatClampNeg = M := by rw [rI_clamp hyr (by omega), hy]; omega
  obtain ⟨z1, z2, z3, z4, z5, z6, z7, z8, z9, z10, z11, z12, z13⟩ := hX.x rfl
  refine W.size (fun hz1 => ?_)
  have hz : H.size = G.1 + k + len := by
    have h1 := hH.low hlen
    rw [z7] at hz1
    omega
  refine W_multi z1 z2 z4 (z5 _ (mem_g hlk hg)) z6.2.1 (z5 _ (mem_g mA_int rfl)) rfl dg (n := Int32.ofInt x) (k := Int32.ofInt y) (N := N) (M := M) (rest := S.map (tv G)) rfl hx0 hy0 hxn hyn (by omega) (by omega) (by omega) (by omega) (fun cA cI H1 locs1 hA hI g1 g2 g3 g4 g5 => ?_)
  obtain rfl : cA = G.2.2.1 3 := Option.some.inj (hA.symm.trans (tyG_name (G := G) z6.1 (c := 3) (cA := G.2.2.1 3) (ty := .array .int) rfl))
  obtain rfl : cI = G.2.2.1 0 := Option.some.inj (hI.symm.trans (tyG_name (G := G) z6.1 (c := 0) (cA := G.2.2.1 0) (ty := .int) rfl))
  have ha : tv G (vr t v i) = .ref H.size := by show Value.ref (ad G t v i) = _; rw [ad_this ht hk, hz, Nat.add_assoc]
  have hW : WP G k (len + 1 + N) (upE E k (.inr (ci, fs))) H1 := by
    intro j hj
    rcases Nat.lt_or_ge j len with h | h
    · exact (hH j h).kept (g4 _ (by show G.1 + k + j < H.size; omega))
    · rw [upE_ne (by omega)]
      rcases Nat.eq_or_lt_of_le h with h2 | h2
      · subst h2
        rw [hE]
        show H1[G.1 + k + len]? = some (vp_cell _ _)
        rw [← hz, g2, vp_cell_q]
        congr 1
        refine arrV_cong fun j hj2 => ?_
        rw [if_pos hj2, hf j hj2, hz]
        exact congrArg Value.ref (show (G.1 + k + len + 1 + j : Nat) = G.1 + (k + len + 1 + j) by omega)
      · obtain ⟨u, rfl⟩ : ∃ u, j = len + 1 + u := ⟨j - (len + 1), by omega⟩
        have hu : u < N := by omega
        rw [show k + (len + 1 + u) = k + len + 1 + u by omega, hE2 u hu]
        show H1[G.1 + k + (len + 1 + u)]? = some (vp_cell _ _)
        rw [show G.1 + k + (len + 1 + u) = H.size + 1 + u by omega, g3 u hu]
        rfl
  have h := k1 H1 locs1 ls hW ⟨Nat.le_trans hS0.1 (by omega), fun q h1 h2 => by rw [g4 q (Nat.lt_of_lt_of_le h1 hS0.1)]; exact hS0.2.1 q h1 h2, fun q hq => (g5 q hq).elim (hS0.2.2 q) (fun e => by show G.1 + k ≤ q.base; rw [e]; omega)⟩ hL
  rw [List.map_cons, ha] at h
  rw [show len - 1 + 1 + N = len + 1 + N - 1 by omega]
  exact h
theorem blind_c {av : List Value} {j cj : Nat} {fv : List Value} : FrameBlind (va_Pc av (BC G j cj fv)) := by
  intro a U g mk q
  exact ⟨q.1, TabsC.moved (u := U) (U := U.calling g mk a) (Vm.Alike.refl U.vm) q.2.1, q.2.2.1, q.2.2.2⟩
/-- new, dup, the constructor -/
theorem ct_new (hX : JCOk G X cc own nL d k nc ns) {t : Nat} {v i : Int} {y : MethodName} {cc' : ByteArray} {nL' d' cj N n' sl' i1 i2 : Nat} {C : String} {T : u_T} {fv : List Value} (hlen : 1 ≤ len) (hk : ix t v i = k + len) (hC : CK G y cc' nL' d' (k + len) cj fv n' sl' (vr t v i)) (hd : d' + 1 ≤ d) (hn' : 1 ≤ n') (hnL : nL' ≤ 45)
    (hY : ∀ w ∈ u_ws C T N, w ∈ lw_tbl) {ty : Nat → FieldType} (hty : ∀ k, k < N → parseFieldDescriptor (T k).2.2.1 = some (ty k)) (hc : vclasses[cj]? = some (C, T, N)) (hfv : ∀ j, j < N → defaultValue (ty j) = vp_V fv j) (hlk : Cond.classLink own i1 C ∈ lw_tbl) (hg : goodWord (Cond.classLink own i1 C) = true) (hinst : Cond.instantiable C N ∈ lw_tbl) (hini : Cond.initialized C ∈ lw_tbl)
    (hyc : y.cls = C) (hy1 : y.name = "<init>") (hcode : Cond.code y cc' nL' none ∈ lw_tbl) (hml : Cond.methodLink own i2 y ∈ lw_tbl) (him : Cond.instanceMethod y ∈ lw_tbl) (hyd : y.cls ≠ "java/lang/invoke/MethodHandle" ∧ y.cls ≠ "java/lang/invoke/VarHandle" ∧ (parseMethodDescriptor y.desc).map (fun d => d.parameters.length) = some 0)
    (hE : ∀ j, k + len ≤ j → j < k + len + n' → E j = fE G j) (hLL : L.length = nL) (hwd : wd S ≤ 7) (hnc : len + n' ≤ nc + 1) (hns : sl + N + sl' ≤ ns)
    (d1 : decode cc pc = .ok (.new i1, 3)) (d2 : decode cc (pc + 3) = .ok (.dup, 1)) (d3 : decode cc (pc + 4) = .ok (.invokespecial i2, 3)) (k1 : JC G X k ci (pc + 7) L (vr t v i :: S) fs E (len + n') (sl + N + sl')) (ht : t < 60 := by decide) : JC G X k ci pc L S fs E len sl := by
  obtain ⟨p, l, e, R, s, mi, args, below, meth, c0, Q⟩ := X
  intro H locs ls hH hS0 hL
  obtain ⟨z1, z2, z3, z4, z5, z6, z7, z8, z9, z10, z11, z12, z13⟩ := hX.x rfl
  have hA : ∀ q, s.heap.size ≤ q → G.1 + k ≤ q := fun q hq => by omega
  refine va_new z1 z2 z5 (good_g hY (uws_good C T N)) ty hty z4 (z5 _ (mem_g hlk hg)) (z5 _ (mem_g hinst rfl)) (z5 _ (mem_g hini rfl)) z6.1 hH.P wl_D hS0 hA hc hfv (by omega) (by omega) d1 (fun q H1 hP1 hD1 hS1 => ?_)
  refine W.size (fun hz1 => ?_)
  have hP2 : va_P G.2.1 vclasses (wl G k len (upE (upE E (k + len) (.inr (cj, fv))) k (.inr (ci, fs))) ++ [(q, .inr (cj, fv))]) H1 ∧ va_D (fun q => G.1 + k ≤ q) (wl G k len (upE (upE E (k + len) (.inr (cj, fv))) k (.inr (ci, fs))) ++ [(q, .inr (cj, fv))]) := by
    have he : wl G k len (upE (upE E (k + len) (.inr (cj, fv))) k (.inr (ci, fs))) = wl G k len (upE E k (.inr (ci, fs))) := by
      unfold wl
      apply List.map_congr_left
      intro j hj
      have hj' := List.mem_range.mp hj
      by_cases h0 : j = 0
      · subst h0
        rw [Nat.add_zero, Nat.add_zero, upE_eq, upE_eq]
      · rw [upE_ne (by omega), upE_ne (by omega), upE_ne (by omega)]
    rw [he]
    exact ⟨hP1, hD1⟩
  obtain ⟨rfl, hW⟩ := WP.new hP2.1 hP2.2 (by rw [z7] at hz1; omega) (by rw [upE_ne (by omega), upE_eq])
  have hz : H1.size = G.1 + k + len + 1 := by
    have h1 := hW.low (by omega)
    rw [z7] at hz1
    omega
  have hnew : va_at G.2.1 vclasses (G.1 + k + len, .inr (cj, fv)) H1 := by
    have h := hW len (by omega)
    rw [upE_ne (by omega), upE_eq] at h
    exact h
  have ha : tv G (vr t v i) = .ref (G.1 + (k + len)) := by show Value.ref (ad G t v i) = _; rw [ad_this ht hk]
  refine lv_dup z1 z2 d2 rfl ?_
  have hM := hC
  unfold CK at hM
  rw [z13] at hM
  have hGI : GoodIn lw_g (.code y cc' nL' none :: lw_g) := good_lw hcode
  have hrun := va_runI (b := G.1 + (k + len)) (As := []) (rest := .ref (G.1 + k + len) :: S.map (tv G)) (g := F0 mi (pc + 3 + 1) ls (.ref (G.1 + k + len) :: .ref (G.1 + k + len) :: S.map (tv G))) (locs := locs) (l := l) (e := e) (below := below) (meth := meth) (cells := len - 1 + 1) (slots := sl + N) (H := H1) (nL := nL) (Ts := lw_g) (n := 0) ⟨z1, z2, z3, z4, z5⟩ hM
    (cwI 0 z5 hGI rfl rfl rfl (by rw [hyc]; exact z5 _ (mem_g hini rfl)) (z5 _ (mem_g hml rfl)) (z5 _ (mem_g him rfl)) hy1 hyd ⟨Nat.le_trans hd z9, by show 8 + (nL' + 11) + 64 * d' ≤ _; omega⟩)
    ⟨blind_c, fun U hU hWm => ⟨by rw [ha], z6.moved hWm.alike, by rw [hU, hz]; omega, by rw [hU, ← Nat.add_assoc]; exact hnew⟩⟩
    rfl rfl (by show ls.size = nL; rw [hL.1]; exact hLL) (by rw [← Nat.add_assoc]; rfl) (lv_room (by
      show (Value.category (.ref _)) + _ ≤ 8
      have h := wd_sum (G := G) S
      show 1 + ((S.map (tv G)).map fun v => v.category).sum ≤ 8
      omega)) d3 ⟨by omega, by omega⟩
  refine va_callv hrun hS1 (fun q _ h => by show G.1 + k ≤ q; have h' : G.1 + (k + len) ≤ q := h; omega) (fun q h => by show G.1 + k ≤ q; have h' : G.1 + (k + len) ≤ q := h; omega) (fun u t2 H2 locs2 ht2 hal _ hB hsz hkeep hS2 => ?_)
  have hB' : WP G (k + len) n' (fE G) H2 := by
    rw [← ht2]
    exact hB
  have hW2 : WP G k (len + n') (upE E k (.inr (ci, fs))) H2 := by
    intro j hj
    rcases Nat.lt_or_ge j len with h | h
    · have h1 := hW j (by omega)
      have h2 := h1.kept (H1 := H2) (hkeep _ (by show G.1 + k + j < H1.size; omega) (by show ¬ (G.1 + (k + len) ≤ G.1 + k + j); omega))
      by_cases h0 : j = 0
      · subst h0
        rw [Nat.add_zero, Nat.add_zero, upE_eq] at h2 ⊢
        exact h2
      · rw [upE_ne (by omega), upE_ne (by omega)] at h2
        rw [upE_ne (by omega)]
        exact h2
    · obtain ⟨u, rfl⟩ : ∃ u, j = len + u := ⟨j - len, by omega⟩
      rw [upE_ne (by omega), hE _ (by omega) (by omega)]
      have h1 := hB' u (by omega)
      rw [show G.1 + k + (len + u) = G.1 + (k + len) + u by omega, show k + (len + u) = k + len + u by omega]
      exact h1
  have h := k1 H2 locs2 ls hW2 hS2 hL
  rw [List.map_cons, ha] at h
  rw [show len - 1 + 1 + (n' - 1) = len + n' - 1 by omega]
  rw [← Nat.add_assoc] at h
  exact h
/-- a made object into the array at xa -/
theorem ct_aast (hX : JCOk G X cc own nL d k nc ns) {t ta : Nat} {v i va ia : Int} {x : Int} {N c ja jo cj n : Nat} {C : String} {T : u_T} {cA : ClassId} {f : Nat → Option Nat} {fv : List Value} {E' : Nat → va_E} (hja : ix ta va ia = k + ja) (hjo : ix t v i = k + jo) (h0 : 0 < ja) (h1 : ja < len) (h2 : 0 < jo) (h3 : jo < len) (hc : (tysG G)[c]? = some (cA, .object C)) (hcj : vclasses[cj]? = some (C, T, N))
    (hEa : E (k + ja) = .inl (cA, n, .inr (.inr (.inr (.inr f))))) (hEo : E (k + jo) = .inr (cj, fv)) (hx : 0 ≤ x ∧ x < n) (hn : n ≤ 300) (hE' : ∀ j, j ≠ k + ja → E' j = E j) (hEa' : E' (k + ja) = .inl (cA, n, .inr (.inr (.inr (.inr (va_up f x.toNat (some (ad G t v i))))))))
    (dg : decode cc pc = .ok (.aastore, 1)) (k1 : JC G X k ci (pc + 1) L S fs E' len sl) (ht : t < 60 := by decide) (hta : ta < 60 := by decide) : JC G X k ci pc L (vr t v i :: vi x :: vr ta va ia :: S) fs E len sl := by
  obtain ⟨p, l, e, R, s, mi, args, below, meth, c0, Q⟩ := X
  intro H locs ls hH hS0 hL
  obtain ⟨z1, z2, z3, z4, z5, z6, z7, z8, z9, z10, z11, z12, z13⟩ := hX.x rfl
  have hxr : inR x := (show inR x by omega)
  have hxn : (Int32.ofInt x).toNatClampNeg = x.toNat := rI_clamp hxr hx.1
  have ha : tv G (vr ta va ia) = .ref (G.1 + k + ja) := by show Value.ref (ad G ta va ia) = _; rw [ad_this hta hja, Nat.add_assoc]
  have ho : tv G (vr t v i) = .ref (G.1 + k + jo) := by show Value.ref (ad G t v i) = _; rw [ad_this ht hjo, Nat.add_assoc]
  have hoN : ad G t v i = G.1 + k + jo := by rw [ad_this ht hjo, Nat.add_assoc]
  have w1 : (wl G k len (upE E k (.inr (ci, fs))))[ja]? = some (G.1 + k + ja, .inl (cA, n, .inr (.inr (.inr (.inr f))))) := by rw [wl_at h1, upE_ne (by omega), hEa]
  have w2 : (wl G k len (upE E k (.inr (ci, fs))))[jo]? = some (G.1 + k + jo, .inr (cj, fv)) := by rw [wl_at h3, upE_ne (by omega), hEo]
  show W p l e R s mi args below meth c0 H locs (len - 1) sl Q (F0 mi pc ls (tv G (vr t v i) :: tv G (vi x) :: tv G (vr ta va ia) :: S.map (tv G)))
  rw [ha, ho]
  refine va_astq z1 z2 z6.1 hH.P wl_D hS0 ja c jo cj w1 hc w2 hcj (rI_in hxr hx.1 hx.2) dg (fun H1 locs1 hP1 _ hS1 => k1 H1 locs1 ls (WP.of ?_) hS1 hL)
  rw [wl_set, hxn, ← hoN] at hP1
  have he : wl G k len (upE E' k (.inr (ci, fs))) = wl G k len (upE (upE E k (.inr (ci, fs))) (k + ja) (.inl (cA, n, .inr (.inr (.inr (.inr (va_up f x.toNat (some (ad G t v i))))))))) := by
    unfold wl
    apply List.map_congr_left
    intro j hj
    by_cases h4 : j = ja
    · subst h4
      rw [upE_ne (by omega), upE_eq, hEa']
    · by_cases h5 : j = 0
      · subst h5
        rw [upE_ne (E := upE E k _) (by omega), Nat.add_zero, Nat.add_zero, upE_eq, upE_eq]
      · rw [upE_ne (by omega), upE_ne (E := upE E k _) (by omega), upE_ne (by omega), hE' _ (by omega)]
  rw [he]
  exact hP1
theorem ct_iast (hX : JCOk G X cc own nL d k nc ns) {ta : Nat} {va ia : Int} {x y : Int} {ja n : Nat} {f : Nat → Int32} {E' : Nat → va_E} (hja : ix ta va ia = k + ja) (h0 : 0 < ja) (h1 : ja < len)
    (hEa : E (k + ja) = .inl (G.2.2.1 0, n, .inl f)) (hx : 0 ≤ x ∧ x < n) (hn : n ≤ 300) (hE' : ∀ j, j ≠ k + ja → E' j = E j) (hEa' : E' (k + ja) = .inl (G.2.2.1 0, n, .inl (upd f x.toNat (Int32.ofInt y))))
    (dg : decode cc pc = .ok (.iastore, 1)) (k1 : JC G X k ci (pc + 1) L S fs E' len sl) (hta : ta < 60 := by decide) : JC G X k ci pc L (vi y :: vi x :: vr ta va ia :: S) fs E len sl := by
  obtain ⟨p, l, e, R, s, mi, args, below, meth, c0, Q⟩ := X
  intro H locs ls hH hS0 hL
  obtain ⟨z1, z2, z3, z4, z5, z6, z7, z8, z9, z10, z11, z12, z13⟩ := hX.x rfl
  have hxr : inR x := (show inR x by omega)
  have hxn : (Int32.ofInt x).toNatClampNeg = x.toNat := rI_clamp hxr hx.1
  have ha : tv G (vr ta va ia) = .ref (G.1 + k + ja) := by show Value.ref (ad G ta va ia) = _; rw [ad_this hta hja, Nat.add_assoc]
  have w1 : (wl G k len (upE E k (.inr (ci, fs))))[ja]? = some (G.1 + k + ja, .inl (G.2.2.1 0, n, .inl f)) := by rw [wl_at h1, upE_ne (by omega), hEa]
  show W p l e R s mi args below meth c0 H locs (len - 1) sl Q (F0 mi pc ls (tv G (vi y) :: tv G (vi x) :: tv G (vr ta va ia) :: S.map (tv G)))
  rw [ha]
  refine va_iast z1 z2 z6.1 hH.P wl_D hS0 ja 0 w1 rfl (rI_in hxr hx.1 hx.2) dg (fun H1 locs1 hP1 _ hS1 => k1 H1 locs1 ls (WP.of ?_) hS1 hL)
  rw [wl_set, hxn] at hP1
  have he : wl G k len (upE E' k (.inr (ci, fs))) = wl G k len (upE (upE E k (.inr (ci, fs))) (k + ja) (.inl (G.2.2.1 0, n, .inl (upd f x.toNat (Int32.ofInt y))))) := by
    unfold wl
    apply List.map_congr_left
    intro j hj
    by_cases h4 : j = ja
    · subst h4
      rw [upE_ne (by omega), upE_eq, hEa']
    · by_cases h5 : j = 0
      · subst h5
        rw [upE_ne (E := upE E k _) (by omega), Nat.add_zero, Nat.add_zero, upE_eq, upE_eq]
      · rw [upE_ne (by omega), upE_ne (E := upE E k _) (by omega), upE_ne (by omega), hE' _ (by omega)]
  rw [he]
  exact hP1
end JCRows2
