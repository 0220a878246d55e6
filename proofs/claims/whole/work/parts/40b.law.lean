/-! ===== 40b: the law's loop; its start ===== -/
section Law
variable {G : GC} {X : JX} {n : Nat} {xs : Nat → Int32}
theorem LI.mono {q : Int} {m : HM} (h : LI q m) (hq : q < 520) : LI (q + 1) m := by
  obtain ⟨A, B, T, W, R, tl, rl, im, hk, hc, hm⟩ := h
  exact ⟨A, B, T, W, R, tl, rl, im, hk.mono hq, hc, hm⟩
theorem lw_sw {i q : Int} {m : HM} (hX : LX G X) (hSX : SX G X n xs) (hn : n ≤ 2560) (hi : 0 ≤ i ∧ i + 5 ≤ (n : Int)) (hq : q < 520) (hI : LI q m) (K : ∀ m', LI (q + 1) m' → LN G X 1073 i m') : LN G X 26 i m := by
  refine J_aloadN hX rfl rfl dL_law_26 ?_
  refine J_iloadN hX rfl rfl dL_law_27 ?_
  refine J_sld hX hSX (by omega) dL_law_28 ?_
  refine J_bipush hX (by decide) dL_law_29 ?_
  refine J_iand (z := (Int32.ofInt (sx xs i) &&& Int32.ofInt 31).toInt) hX (fun _ _ => ⟨by rw [Int32.ofInt_toInt], ⟨Int32.le_toInt _, by have := Int32.toInt_lt (Int32.ofInt (sx xs i) &&& Int32.ofInt 31); omega⟩⟩) dL_law_31 ?_
  generalize (Int32.ofInt (sx xs i) &&& Int32.ofInt 31).toInt = z
  by_cases hz : 0 ≤ z ∧ z ≤ 31
  · have hzz : z = 0 ∨ z = 1 ∨ z = 2 ∨ z = 3 ∨ z = 4 ∨ z = 5 ∨ z = 6 ∨ z = 7 ∨ z = 8 ∨ z = 9 ∨ z = 10 ∨ z = 11 ∨ z = 12 ∨ z = 13 ∨ z = 14 ∨ z = 15 ∨ z = 16 ∨ z = 17 ∨ z = 18 ∨ z = 19 ∨ z = 20 ∨ z = 21 ∨ z = 22 ∨ z = 23 ∨ z = 24 ∨ z = 25 ∨ z = 26 ∨ z = 27 ∨ z = 28 ∨ z = 29 ∨ z = 30 ∨ z = 31 := by omega
    rcases hzz with rfl | rfl | rfl | rfl | rfl | rfl | rfl | rfl | rfl | rfl | rfl | rfl | rfl | rfl | rfl | rfl | rfl | rfl | rfl | rfl | rfl | rfl | rfl | rfl | rfl | rfl | rfl | rfl | rfl | rfl | rfl | rfl
    · exact J_tableIn (tgt := 176) hX (by decide) (by decide) rfl (by decide) dL_law_32 (lw_c0 hX hSX hn hi hq hI K)
    · exact J_tableIn (tgt := 199) hX (by decide) (by decide) rfl (by decide) dL_law_32 (lw_c1 hX hSX hn hi hq hI K)
    · exact J_tableIn (tgt := 212) hX (by decide) (by decide) rfl (by decide) dL_law_32 (lw_c2 hX hSX hn hi hq hI K)
    · exact J_tableIn (tgt := 245) hX (by decide) (by decide) rfl (by decide) dL_law_32 (lw_c3 hX hSX hn hi hq hI K)
    · exact J_tableIn (tgt := 278) hX (by decide) (by decide) rfl (by decide) dL_law_32 (lw_c4 hX hSX hn hi hq hI K)
    · exact J_tableIn (tgt := 311) hX (by decide) (by decide) rfl (by decide) dL_law_32 (lw_c5 hX hSX hn hi hq hI K)
    · exact J_tableIn (tgt := 344) hX (by decide) (by decide) rfl (by decide) dL_law_32 (lw_c6 hX hSX hn hi hq hI K)
    · exact J_tableIn (tgt := 377) hX (by decide) (by decide) rfl (by decide) dL_law_32 (lw_c7 hX hSX hn hi hq hI K)
    · exact J_tableIn (tgt := 410) hX (by decide) (by decide) rfl (by decide) dL_law_32 (lw_c8 hX hSX hn hi hq hI K)
    · exact J_tableIn (tgt := 433) hX (by decide) (by decide) rfl (by decide) dL_law_32 (lw_c9 hX hSX hn hi hq hI K)
    · exact J_tableIn (tgt := 466) hX (by decide) (by decide) rfl (by decide) dL_law_32 (lw_c10 hX hSX hn hi hq hI K)
    · exact J_tableIn (tgt := 499) hX (by decide) (by decide) rfl (by decide) dL_law_32 (lw_c11 hX hSX hn hi hq hI K)
    · exact J_tableIn (tgt := 532) hX (by decide) (by decide) rfl (by decide) dL_law_32 (lw_c12 hX hSX hn hi hq hI K)
    · exact J_tableIn (tgt := 565) hX (by decide) (by decide) rfl (by decide) dL_law_32 (lw_c13 hX hSX hn hi hq hI K)
    · exact J_tableIn (tgt := 588) hX (by decide) (by decide) rfl (by decide) dL_law_32 (lw_c14 hX hSX hn hi hq hI K)
    · exact J_tableIn (tgt := 621) hX (by decide) (by decide) rfl (by decide) dL_law_32 (lw_c15 hX hSX hn hi hq hI K)
    · exact J_tableIn (tgt := 654) hX (by decide) (by decide) rfl (by decide) dL_law_32 (lw_c16 hX hSX hn hi hq hI K)
    · exact J_tableIn (tgt := 677) hX (by decide) (by decide) rfl (by decide) dL_law_32 (lw_c17 hX hSX hn hi hq hI K)
    · exact J_tableIn (tgt := 720) hX (by decide) (by decide) rfl (by decide) dL_law_32 (lw_c18 hX hSX hn hi hq hI K)
    · exact J_tableIn (tgt := 733) hX (by decide) (by decide) rfl (by decide) dL_law_32 (lw_c19 hX hSX hn hi hq hI K)
    · exact J_tableIn (tgt := 766) hX (by decide) (by decide) rfl (by decide) dL_law_32 (lw_c20 hX hSX hn hi hq hI K)
    · exact J_tableIn (tgt := 779) hX (by decide) (by decide) rfl (by decide) dL_law_32 (lw_c21 hX hSX hn hi hq hI K)
    · exact J_tableIn (tgt := 802) hX (by decide) (by decide) rfl (by decide) dL_law_32 (lw_c22 hX hSX hn hi hq hI K)
    · exact J_tableIn (tgt := 825) hX (by decide) (by decide) rfl (by decide) dL_law_32 (lw_c23 hX hSX hn hi hq hI K)
    · exact J_tableIn (tgt := 858) hX (by decide) (by decide) rfl (by decide) dL_law_32 (lw_c24 hX hSX hn hi hq hI K)
    · exact J_tableIn (tgt := 912) hX (by decide) (by decide) rfl (by decide) dL_law_32 (lw_c25 hX hSX hn hi hq hI K)
    · exact J_tableIn (tgt := 945) hX (by decide) (by decide) rfl (by decide) dL_law_32 (lw_c26 hX hSX hn hi hq hI K)
    · exact J_tableIn (tgt := 978) hX (by decide) (by decide) rfl (by decide) dL_law_32 (lw_c27 hX hSX hn hi hq hI K)
    · exact J_tableIn (tgt := 1001) hX (by decide) (by decide) rfl (by decide) dL_law_32 (lw_c28 hX hSX hn hi hq hI K)
    · exact J_tableIn (tgt := 1024) hX (by decide) (by decide) rfl (by decide) dL_law_32 (lw_c29 hX hSX hn hi hq hI K)
    · exact J_tableIn (tgt := 1037) hX (by decide) (by decide) rfl (by decide) dL_law_32 (lw_c30 hX hSX hn hi hq hI K)
    · exact J_tableIn (tgt := 1050) hX (by decide) (by decide) rfl (by decide) dL_law_32 (lw_c31 hX hSX hn hi hq hI K)
  · exact J_tableOut (tgt := 1073) hX (by omega) (by decide) dL_law_32 (K _ (hI.mono hq))
theorem lw_loop (hX : LX G X) (hSX : SX G X n xs) (hn : n ≤ 2560) (KX : ∀ i m, LN G X 1079 i m) : ∀ k : Nat, ∀ i q m, 0 ≤ q → i = 5 * q → (n : Int) < i + 5 * k → i ≤ (n : Int) + 5 → LI q m → LN G X 18 i m := by
  have top : ∀ (i : Int) m, 0 ≤ i → i ≤ (n : Int) + 5 → ((i ≤ (n : Int) - 5) → LN G X 26 i m) → LN G X 18 i m := by
    intro i m h0 h1 h2
    refine J_iloadN hX rfl rfl dL_law_18 ?_
    refine J_aloadN hX rfl rfl dL_law_19 ?_
    refine J_sln hX hSX hn dL_law_20 ?_
    refine J_iconst hX (by decide) dL_law_21 ?_
    refine J_isub hX (fun _ _ => by omega) dL_law_22 ?_
    exact J_icmp_gt (tgt := 1079) hX (by decide) dL_law_23 (fun _ => KX i m) (fun h => h2 h)
  intro k
  induction k with
  | zero => intro i q m hq hi hk hn5 hI; exact top i m (by omega) hn5 (fun h => absurd h (by omega))
  | succ k ih =>
    intro i q m hq hi hk hn5 hI
    refine top i m (by omega) hn5 (fun h => lw_sw hX hSX hn (by omega) (by omega) hI (fun m' hI' => ?_))
    refine J_iincG hX (by rfl) (fun _ => by omega) (by intro j a h1 h2; have : j = 2 := (by omega); subst this; cases h2; rfl) dL_law_1073 ?_
    refine J_goto (tgt := 18) hX (by decide) dL_law_1076 ?_
    exact ih (i + 5) (q + 1) m' (by omega) (by omega) (by omega) (by omega) hI'
end Law
theorem allc_0 (G : GC) : allc G m0 = wl G 0 285 (fE G) := by
  apply List.ext_getElem?
  intro j
  unfold allc
  rw [List.getElem?_map]
  cases hc : cellsL[j]? with
  | none =>
    have hl : 285 ≤ j := by
      apply Classical.byContradiction
      intro hno
      have := List.getElem?_eq_none_iff.mp hc
      rw [cells_len] at this
      omega
    rw [List.getElem?_eq_none (by rw [wl_len]; exact hl)]
    rfl
  | some q =>
    obtain ⟨h1, h2, h3⟩ := cells_at hc
    rw [wl_at h3]
    show some (ad G q.1 q.2.1 q.2.2, _) = _
    unfold fE ad
    rw [if_neg (by omega), h1, Nat.add_zero, Nat.zero_add, hc]
theorem rng_0 : Rng m0 := by
  intro t v i k
  show -2147483648 ≤ m0 t v i k ∧ m0 t v i k ≤ 2147483647
  unfold m0
  split <;> (try split) <;> omega
/-- new, dup, the constructor, with nothing but whole cells before -/
theorem w_new {G : GC} {p : Program} {l : Launch} {e : Env} {R : Room} {s : State} {m : MethodId} {args : Array Value} {below : List Frame} {meth : Method} {c0 : Code} {H : Heap} {locs : List Loc} {Q : State → Prop} {cc : ByteArray} {own : String} {pc nL len sl : Nat} {ls : Array Slot} {y : MethodName} {cc' : ByteArray} {nL' d' cj N n' sl' i1 i2 t : Nat} {v i : Int} {C : String} {T : u_T} {fv : List Value}
    (z1 : p.tables.exec = Jvm.exec) (z2 : c0.code = cc) (z3 : c0.maxLocals = nL) (z4 : s.vm.findClass own = some m.cls) (z5 : ∀ w ∈ lw_g, w.before args s = true) (z6 : TabsC G s) (z7 : s.heap.size = G.1) (z13 : G.2.2.2.2.2 = l) (hf : d' + 1 ≤ R.frames) (hlo : 8 + (nL' + 11) + 64 * d' ≤ R.locals)
    (ht : t < 60) (hk : ix t v i = 0 + len) (hC : CK G y cc' nL' d' (0 + len) cj fv n' sl' (vr t v i)) (hn' : 1 ≤ n')
    (hY : ∀ w ∈ u_ws C T N, w ∈ lw_tbl) {ty : Nat → FieldType} (hty : ∀ k, k < N → parseFieldDescriptor (T k).2.2.1 = some (ty k)) (hc : vclasses[cj]? = some (C, T, N)) (hfv : ∀ j, j < N → defaultValue (ty j) = vp_V fv j) (hlk : Cond.classLink own i1 C ∈ lw_tbl) (hg : goodWord (Cond.classLink own i1 C) = true) (hinst : Cond.instantiable C N ∈ lw_tbl) (hini : Cond.initialized C ∈ lw_tbl)
    (hyc : y.cls = C) (hy1 : y.name = "<init>") (hcode : Cond.code y cc' nL' none ∈ lw_tbl) (hml : Cond.methodLink own i2 y ∈ lw_tbl) (him : Cond.instanceMethod y ∈ lw_tbl) (hyd : y.cls ≠ "java/lang/invoke/MethodHandle" ∧ y.cls ≠ "java/lang/invoke/VarHandle" ∧ (parseMethodDescriptor y.desc).map (fun d => d.parameters.length) = some 0)
    (hls : ls.size = nL) (hnc : len + n' ≤ R.cells) (hns : sl + N + sl' ≤ R.slots)
    (d1 : decode cc pc = .ok (.new i1, 3)) (d2 : decode cc (pc + 3) = .ok (.dup, 1)) (d3 : decode cc (pc + 4) = .ok (.invokespecial i2, 3))
    (hH : WP G 0 len (fE G) H) (hS0 : va_S (fun q => G.1 + 0 ≤ q) s.heap H locs)
    (k1 : ∀ (H2 : Heap) (locs2 : List Loc), WP G 0 (len + n') (fE G) H2 → va_S (fun q => G.1 + 0 ≤ q) s.heap H2 locs2 → W p l e R s m args below meth c0 H2 locs2 (len + n') (sl + N + sl') Q (F0 m (pc + 7) ls [tv G (vr t v i)])) :
    W p l e R s m args below meth c0 H locs len sl Q (F0 m pc ls []) := by
  have hA : ∀ q, s.heap.size ≤ q → G.1 + 0 ≤ q := fun q hq => by omega
  refine va_new z1 z2 z5 (good_g hY (uws_good C T N)) ty hty z4 (z5 _ (mem_g hlk hg)) (z5 _ (mem_g hinst rfl)) (z5 _ (mem_g hini rfl)) z6.1 hH.P wl_D hS0 hA hc hfv (by omega) (by omega) d1 (fun q H1 hP1 hD1 hS1 => ?_)
  refine W.size (fun hz1 => ?_)
  have he : wl G 0 len (upE (fE G) (0 + len) (.inr (cj, fv))) = wl G 0 len (fE G) := by
    unfold wl
    apply List.map_congr_left
    intro j hj
    have hj' := List.mem_range.mp hj
    rw [upE_ne (by omega)]
  obtain ⟨rfl, hW⟩ := WP.new (E := upE (fE G) (0 + len) (.inr (cj, fv))) (by rw [he]; exact hP1) (by rw [he]; exact hD1) (by rw [z7] at hz1; omega) (by rw [upE_eq])
  have hz : H1.size = G.1 + 0 + len + 1 := by
    have h1 := hW.low (by omega)
    rw [z7] at hz1
    omega
  have hnew : va_at G.2.1 vclasses (G.1 + 0 + len, .inr (cj, fv)) H1 := by
    have h := hW len (by omega)
    rw [upE_eq] at h
    exact h
  have ha : tv G (vr t v i) = .ref (G.1 + (0 + len)) := by show Value.ref (ad G t v i) = _; rw [ad_this ht hk]
  refine lv_dup z1 z2 d2 rfl ?_
  have hM := hC
  unfold CK at hM
  rw [z13] at hM
  have hGI : GoodIn lw_g (.code y cc' nL' none :: lw_g) := good_lw hcode
  have hrun := va_runI (b := G.1 + (0 + len)) (As := []) (rest := [.ref (G.1 + 0 + len)]) (g := F0 m (pc + 3 + 1) ls [.ref (G.1 + 0 + len), .ref (G.1 + 0 + len)]) (locs := locs) (l := l) (e := e) (below := below) (meth := meth) (cells := len + 1) (slots := sl + N) (H := H1) (nL := nL) (Ts := lw_g) (n := 0) ⟨z1, z2, z3, z4, z5⟩ hM
    (cwI 0 z5 hGI rfl rfl rfl (by rw [hyc]; exact z5 _ (mem_g hini rfl)) (z5 _ (mem_g hml rfl)) (z5 _ (mem_g him rfl)) hy1 hyd ⟨hf, hlo⟩)
    ⟨blind_c, fun U hU hWm => ⟨by rw [ha], z6.moved hWm.alike, by rw [hU, hz]; omega, by rw [hU, ← Nat.add_assoc]; exact hnew⟩⟩
    rfl rfl hls (by rw [← Nat.add_assoc]; rfl) (lv_room (by show (Value.category (.ref _)) + 0 ≤ 8; exact Nat.le_of_ble_eq_true rfl)) d3 ⟨by omega, by omega⟩
  refine va_callv hrun hS1 (fun q _ h => by show G.1 + 0 ≤ q; have h' : G.1 + (0 + len) ≤ q := h; omega) (fun q h => by show G.1 + 0 ≤ q; have h' : G.1 + (0 + len) ≤ q := h; omega) (fun u t2 H2 locs2 ht2 hal _ hB hsz hkeep hS2 => ?_)
  have hB' : WP G (0 + len) n' (fE G) H2 := by
    rw [← ht2]
    exact hB
  have hW2 : WP G 0 (len + n') (fE G) H2 := by
    intro j hj
    rcases Nat.lt_or_ge j len with h | h
    · have h1 := hW j (by omega)
      have h2 := h1.kept (H1 := H2) (hkeep _ (by show G.1 + 0 + j < H1.size; omega) (by show ¬ (G.1 + (0 + len) ≤ G.1 + 0 + j); omega))
      rw [upE_ne (by omega)] at h2
      exact h2
    · obtain ⟨u, rfl⟩ : ∃ u, j = len + u := ⟨j - len, by omega⟩
      have h1 := hB' u (by omega)
      rw [show G.1 + 0 + (len + u) = G.1 + (0 + len) + u by omega, show 0 + (len + u) = 0 + len + u by omega]
      exact h1
  have h := k1 H2 locs2 hW2 hS2
  rw [ha] at h
  rw [show len + 1 + (n' - 1) = len + n' by omega]
  rw [← Nat.add_assoc] at h
  exact h
