/-! ===== 40a: the law: rows of the script, the cases ===== -/
def SX (G : GC) (X : JX) (n : Nat) (xs : Nat → Int32) : Prop := match X with
  | (p, l, e, R, s, mi, args, below, meth, c, cells, slots, Q, H0) => va_X (G.2.2.2.1 62) n xs s H0 ∧ G.2.2.2.1 62 < H0.size ∧ ¬ fr G (G.2.2.2.1 62)
/-- the script's number at j -/
def sx (xs : Nat → Int32) (j : Int) : Int := (xs j.toNat).toInt
theorem sx_r (xs : Nat → Int32) (j : Int) : inR (sx xs j) := ⟨Int32.le_toInt _, by have := Int32.toInt_lt (xs j.toNat); unfold sx; omega⟩
section JSc
variable {G : GC} {X : JX} {cc : ByteArray} {own : String} {nL d : Nat} {L S : List HV} {m : HM} {pc n : Nat} {xs : Nat → Int32}
theorem SX.x {p : Program} {l : Launch} {e : Env} {R : Room} {s : State} {mi : MethodId} {args : Array Value} {below : List Frame} {meth : Method} {c : Code} {cells slots : Nat} {Q : State → Prop} {H0 : Heap} (h : SX G X n xs) (e0 : X = (p, l, e, R, s, mi, args, below, meth, c, cells, slots, Q, H0)) : va_X (G.2.2.2.1 62) n xs s H0 ∧ G.2.2.2.1 62 < H0.size ∧ ¬ fr G (G.2.2.2.1 62) := by
  subst e0
  exact h
theorem J_sld (hX : JOk G X cc own nL d) (hSX : SX G X n xs) {x : Int} (hx : 0 ≤ x ∧ x < n) (dg : decode cc pc = .ok (.iaload, 1)) (k : J G X (pc + 1) L (vi (sx xs x) :: S) m) : J G X pc L (vi x :: vr 62 0 0 :: S) m := by
  refine J_step (fun _ h _ => h.tl.tl.consI (sx_r xs x)) k fun _ _ _ _ _ _ _ _ _ _ _ _ _ _ e0 H locs ls _ hs _ hH hS _ kk => ?_
  obtain ⟨h1, h2, h3⟩ := hSX.x e0
  have hr : inR x := hs.hd
  have hc := rI_clamp hr hx.1
  refine va_sld (hX.x e0).1 (hX.x e0).2.1 h1 h2 h3 hS (rI_in hr hx.1 hx.2) dg ?_
  rw [hc]
  have e : tv G (vi (sx xs x)) = .int (xs x.toNat) := by
    show Value.int (Int32.ofInt (xs x.toNat).toInt) = _
    rw [Int32.ofInt_toInt]
  rw [List.map_cons, e] at kk
  exact kk
theorem J_sln (hX : JOk G X cc own nL d) (hSX : SX G X n xs) (hn : n ≤ 2560) (dg : decode cc pc = .ok (.arraylength, 1)) (k : J G X (pc + 1) L (vi (n : Int) :: S) m) : J G X pc L (vr 62 0 0 :: S) m := by
  refine J_step (fun _ h _ => h.tl.consI (by show inR (n : Int); omega)) k fun _ _ _ _ _ _ _ _ _ _ _ _ _ _ e0 H locs ls _ hs _ hH hS _ kk => ?_
  obtain ⟨h1, h2, h3⟩ := hSX.x e0
  refine va_slen (hX.x e0).1 (hX.x e0).2.1 h1 h2 h3 hS dg ?_
  rw [← Int32.ofInt_eq_ofNat]
  exact kk
end JSc
section Low
variable {m m' m1 : HM} {A A' : Int → Int} {i j x y w t r ref ans k : Int} {f : Int × (Int → Int) → Int}
theorem anX.km {P : HM → Prop} (p : anX m ref ans P r m1) (h : ∀ m', P m' → KM m m') : KM m m1 := by
  rcases p with ⟨-, -, f1⟩ | ⟨-, -, f1⟩
  · exact KM.ref.tr f1.km
  · exact h _ f1
theorem kmQ (p : anX m ref ans (FrX m) r m1) : KM m m1 := p.km (fun _ h => h.km)
theorem kmP (p : anX m ref ans (ptP m A') r m1) : KM m m1 := p.km (fun _ h => h.1.km)
theorem kmB (p : anXB m A ref f r m1) : KM m m1 := by
  rcases p with ⟨-, -, f1⟩ | ⟨-, -, f1, -⟩
  · exact KM.ref.tr f1.km
  · exact f1.km
theorem kmN (p : r = ans ∧ FrX m m1) : KM m m1 := p.2.km
theorem aIs_go (h : rfGo A i y = 0) : aIs A i := by
  unfold rfGo at h
  by_cases q : aIs A i ∧ inN y (A 0)
  · exact q.1
  · rw [ifP_neg q] at h; omega
theorem aIs_is (h : rfIs A i = 0) : aIs A i := by
  unfold rfIs at h
  by_cases q : aIs A i
  · exact q
  · rw [ifP_neg q] at h; omega
theorem aIs_at (h : rfAt A i w = 0) : aIs A i := by
  unfold rfAt at h
  by_cases q : aIs A i ∧ (w = -1 ∨ inN w (A 2))
  · exact q.1
  · rw [ifP_neg q] at h; omega
theorem aIs_toil (h : rfToil A i x = 0) : aIs A i := by
  unfold rfToil at h
  by_cases q : aIs A i
  · exact q
  · rw [ifP_neg q] at h; omega
theorem aIs_rest (h : rfRest A i x = 0) : aIs A i := by
  unfold rfRest at h
  by_cases q : aIs A i
  · exact q
  · rw [ifP_neg q] at h; omega
theorem aIs_join (h : rfJoin A i j = 0) : aIs A i ∧ aIs A j := by
  unfold rfJoin at h
  by_cases q : aIs A i ∧ aIs A j ∧ i ≠ j
  · exact ⟨q.1, q.2.1⟩
  · rw [ifP_neg q] at h; omega
theorem aIs_split (h : rfSplit A i t = 0) : aIs A i ∧ inN (fpA A (-9)) 24 := by
  unfold rfSplit at h
  by_cases q : aIs A i
  · rw [ifP_pos q] at h
    refine ⟨q, ?_⟩
    rcases fpA_cases A (-9) with ⟨h1, -⟩ | ⟨h1, h2, -⟩
    · split at h
      · omega
      · split at h <;> omega
    · exact h1
  · rw [ifP_neg q] at h; omega
theorem aS_low {a : Int} (hi : 0 ≤ i) (ha : 0 ≤ a) (h : k < 99) : aS A i a x k = A k := st1_ne (by omega)
theorem lw_go (h : rfGo A i y = 0) : ∀ k, k < 99 → goF A i y k = A k := fun k hk => by
  have := (aIs_go h).1
  unfold goF
  rw [aS_low this (by omega) hk, aS_low this (by omega) hk, aS_low this (by omega) hk]
theorem lw_see (h : rfIs A i = 0) : ∀ k, k < 99 → aS A i 6 (seN A i) k = A k := fun k hk => aS_low (aIs_is h).1 (by omega) hk
theorem lw_lose (h : rfIs A i = 0) : ∀ k, k < 99 → aS A i 0 0 k = A k := fun k hk => aS_low (aIs_is h).1 (by omega) hk
theorem lw_at (h : rfAt A i w = 0) : ∀ k, k < 99 → atF A i w k = A k := fun k hk => aS_low (aIs_at h).1 (by omega) hk
theorem lw_toil (h : rfToil A i x = 0) : ∀ k, k < 99 → toF A i x k = A k := fun k hk => by
  have := (aIs_toil h).1
  unfold toF
  rw [aS_low this (by omega) hk, aS_low this (by omega) hk]
theorem lw_rest (h : rfRest A i x = 0) : ∀ k, k < 99 → reF A i x k = A k := fun k hk => by
  have := (aIs_rest h).1
  unfold reF
  rw [aS_low this (by omega) hk, aS_low this (by omega) hk]
theorem lw_join (h : rfJoin A i j = 0) : ∀ k, k < 99 → joF A i j k = A k := fun k hk => by
  have h1 := (aIs_join h).1.1
  have h2 := (aIs_join h).2.1
  unfold joF
  rw [aS_low h2 (by omega) hk, aS_low h1 (by omega) hk, aS_low h1 (by omega) hk, aS_low h1 (by omega) hk, aS_low h1 (by omega) hk, aS_low h1 (by omega) hk]
theorem lw_split (h : rfSplit A i t = 0) : ∀ k, k < 99 → spF A i t k = A k := fun k hk => by
  obtain ⟨h1, h2⟩ := aIs_split h
  unfold spF
  rw [aS_low h1.1 (by omega) hk, aS_low h2.1 (by omega) hk, aS_low h2.1 (by omega) hk, lay_out (by omega)]
theorem few3_b (h : rfBest A = 0) : few3 A := by
  unfold rfBest at h
  by_cases q : few3 A
  · exact q
  · rw [ifP_neg q] at h; omega
theorem few3_q {p : Int} (h : rfQuarters A p w = 0) : few3 A := by
  unfold rfQuarters at h
  split at h
  · exact few3_b h
  · omega
theorem cmpI_rf (x : Int) : cmpI x x = 0 := by
  unfold cmpI
  rw [if_neg (by omega), if_pos rfl]
end Low
section Law
variable {G : GC} {X : JX} {m : HM} {n : Nat} {xs : Nat → Int32} {i q : Int}
abbrev LX (G : GC) (X : JX) : Prop := JOk G X cL_law RL 4 200
abbrev LN (G : GC) (X : JX) (pc : Nat) (i : Int) (m : HM) : Prop := J G X pc [vr 62 0 0, vr 0 0 0, vr 40 0 0, vi i] [] m
theorem lw_c0 (hX : LX G X) (hSX : SX G X n xs) (hn : n ≤ 2560) (hi : 0 ≤ i ∧ i + 5 ≤ (n : Int)) (hq : q < 520) (hI : LI q m) (K : ∀ m', LI (q + 1) m' → LN G X 1073 i m') : LN G X 176 i m := by
  obtain ⟨A, B, T, W, R, tl, rl, im, hk, hc, hm⟩ := hI
  have hf1 := hc.few hk
  have hq0 := hk.q1
  refine J_aloadN hX rfl rfl dL_law_176 ?_
  refine J_aloadN hX rfl rfl dL_law_177 ?_
  refine J_iloadN hX rfl rfl dL_law_178 ?_
  refine J_iconst hX (by decide) dL_law_179 ?_
  refine J_iadd hX (fun _ _ => by omega) dL_law_180 ?_
  refine J_sld hX hSX (by omega) dL_law_181 ?_
  refine cV1i hX cb_X9_feed mL_L_13 dL_law_182 (c_xfeed hc.tp.1.1 hc.tp.2.1 hf1) (fun r1 m1 p1 => ?_)
  have km : KM m m1 := p1.km (fun m' h t v i ht => by rw [h, upr_tag (by omega), upr_tag (by omega)])
  have hm1 := hm.keep km
  have hf2 := hm1.few hk
  refine J_aloadN hX rfl rfl dL_law_185 ?_
  refine J_aloadN hX rfl rfl dL_law_186 ?_
  refine J_iloadN hX rfl rfl dL_law_187 ?_
  refine J_iconst hX (by decide) dL_law_188 ?_
  refine J_iadd hX (fun _ _ => by omega) dL_law_189 ?_
  refine J_sld hX hSX (by omega) dL_law_190 ?_
  refine cV1i hX cb_X10_feed mL_L_17 dL_law_191 (c_mfeed hm1.tp.1.1 hm1.tp.2.1 hf2) (fun r2 m2 p2 => ?_)
  obtain ⟨e, hI2⟩ := LI_feed hk hq hc hm p1 p2
  exact J_icmp_eq (tgt := 1073) hX (by decide) dL_law_194 (fun _ => K _ hI2) (fun h => absurd e h)
theorem lw_c1 (hX : LX G X) (hSX : SX G X n xs) (hn : n ≤ 2560) (hi : 0 ≤ i ∧ i + 5 ≤ (n : Int)) (hq : q < 520) (hI : LI q m) (K : ∀ m', LI (q + 1) m' → LN G X 1073 i m') : LN G X 199 i m := by
  obtain ⟨A, B, T, W, R, tl, rl, im, hk, hc, hm⟩ := hI
  have hf1 := hc.few hk
  have hq0 := hk.q1
  have cg := lay_267 (m 44 0 0) A
  have hk1 := hk.mono hq
  refine J_aloadN hX rfl rfl dL_law_199 ?_
  refine cV0i hX cb_X9_village mL_L_18 dL_law_200 (c_xvillage (C := 600 * (q + 1)) (D := 7200 * (q + 1)) (RelV_cg cg hk.ia hc.rel) (InvA_cg cg hk1.ia) (InvS_cg cg hk.ia hk.is) hc.tp hc.nn (by omega) (by omega)) (fun r1 m1 p1 => ?_)
  have km : KM m m1 := fun t v i h => p1.2.1 t v i (by omega) (by omega) (by omega) (by omega)
  have hm1 := hm.keep km
  refine J_aloadN hX rfl rfl dL_law_203 ?_
  refine cV0i hX cb_X10_village mL_L_22 dL_law_204 (c_mvillage hm1.tp hm1.s hk.ia hk.is (by omega) (by omega)) (fun r2 m2 p2 => ?_)
  rw [km 44 0 0 (by omega)] at p2
  obtain ⟨e, hI2⟩ := LI_vil hk hq hc hm cg p1 p2
  exact J_icmp_eq (tgt := 1073) hX (by decide) dL_law_207 (fun _ => K _ hI2) (fun h => absurd e h)
theorem lw_c2 (hX : LX G X) (hSX : SX G X n xs) (hn : n ≤ 2560) (hi : 0 ≤ i ∧ i + 5 ≤ (n : Int)) (hq : q < 520) (hI : LI q m) (K : ∀ m', LI (q + 1) m' → LN G X 1073 i m') : LN G X 212 i m := by
  obtain ⟨A, B, T, W, R, tl, rl, im, hk, hc, hm⟩ := hI
  have hf1 := hc.few hk
  have hq0 := hk.q1
  refine J_aloadN hX rfl rfl dL_law_212 ?_
  refine J_aloadN hX rfl rfl dL_law_213 ?_
  refine J_iloadN hX rfl rfl dL_law_214 ?_
  refine J_iconst hX (by decide) dL_law_215 ?_
  refine J_iadd hX (fun _ _ => by omega) dL_law_216 ?_
  refine J_sld hX hSX (by omega) dL_law_217 ?_
  refine J_aloadN hX rfl rfl dL_law_218 ?_
  refine J_iloadN hX rfl rfl dL_law_219 ?_
  refine J_iconst hX (by decide) dL_law_220 ?_
  refine J_iadd hX (fun _ _ => by omega) dL_law_221 ?_
  refine J_sld hX hSX (by omega) dL_law_222 ?_
  refine cV2i hX cb_X9_person mL_L_23 dL_law_223 (c_xperson hc.rel hk.ia hf1) (fun r1 m1 p1 => ?_)
  have km : KM m m1 := kmQ p1
  have hm1 := hm.keep km
  have hf2 := hm1.few hk
  refine J_aloadN hX rfl rfl dL_law_226 ?_
  refine J_aloadN hX rfl rfl dL_law_227 ?_
  refine J_iloadN hX rfl rfl dL_law_228 ?_
  refine J_iconst hX (by decide) dL_law_229 ?_
  refine J_iadd hX (fun _ _ => by omega) dL_law_230 ?_
  refine J_sld hX hSX (by omega) dL_law_231 ?_
  refine J_aloadN hX rfl rfl dL_law_232 ?_
  refine J_iloadN hX rfl rfl dL_law_233 ?_
  refine J_iconst hX (by decide) dL_law_234 ?_
  refine J_iadd hX (fun _ _ => by omega) dL_law_235 ?_
  refine J_sld hX hSX (by omega) dL_law_236 ?_
  refine cV2i hX cb_X10_person mL_L_27 dL_law_237 (c_mperson hm1.s hk.ia hf2) (fun r2 m2 p2 => ?_)
  obtain ⟨e, hI2⟩ := LI_q hk hq hc hm p1 p2
  exact J_icmp_eq (tgt := 1073) hX (by decide) dL_law_240 (fun _ => K _ hI2) (fun h => absurd e h)
theorem lw_c3 (hX : LX G X) (hSX : SX G X n xs) (hn : n ≤ 2560) (hi : 0 ≤ i ∧ i + 5 ≤ (n : Int)) (hq : q < 520) (hI : LI q m) (K : ∀ m', LI (q + 1) m' → LN G X 1073 i m') : LN G X 245 i m := by
  obtain ⟨A, B, T, W, R, tl, rl, im, hk, hc, hm⟩ := hI
  have hf1 := hc.few hk
  have hq0 := hk.q1
  refine J_aloadN hX rfl rfl dL_law_245 ?_
  refine J_aloadN hX rfl rfl dL_law_246 ?_
  refine J_iloadN hX rfl rfl dL_law_247 ?_
  refine J_iconst hX (by decide) dL_law_248 ?_
  refine J_iadd hX (fun _ _ => by omega) dL_law_249 ?_
  refine J_sld hX hSX (by omega) dL_law_250 ?_
  refine J_aloadN hX rfl rfl dL_law_251 ?_
  refine J_iloadN hX rfl rfl dL_law_252 ?_
  refine J_iconst hX (by decide) dL_law_253 ?_
  refine J_iadd hX (fun _ _ => by omega) dL_law_254 ?_
  refine J_sld hX hSX (by omega) dL_law_255 ?_
  refine cV2i hX cb_X9_work mL_L_28 dL_law_256 (c_xwork hc.rel hk.ia hf1) (fun r1 m1 p1 => ?_)
  have km : KM m m1 := kmQ p1
  have hm1 := hm.keep km
  have hf2 := hm1.few hk
  refine J_aloadN hX rfl rfl dL_law_259 ?_
  refine J_aloadN hX rfl rfl dL_law_260 ?_
  refine J_iloadN hX rfl rfl dL_law_261 ?_
  refine J_iconst hX (by decide) dL_law_262 ?_
  refine J_iadd hX (fun _ _ => by omega) dL_law_263 ?_
  refine J_sld hX hSX (by omega) dL_law_264 ?_
  refine J_aloadN hX rfl rfl dL_law_265 ?_
  refine J_iloadN hX rfl rfl dL_law_266 ?_
  refine J_iconst hX (by decide) dL_law_267 ?_
  refine J_iadd hX (fun _ _ => by omega) dL_law_268 ?_
  refine J_sld hX hSX (by omega) dL_law_269 ?_
  refine cV2i hX cb_X10_work mL_L_31 dL_law_270 (c_mwork hm1.s hk.ia hf2) (fun r2 m2 p2 => ?_)
  obtain ⟨e, hI2⟩ := LI_q hk hq hc hm p1 p2
  exact J_icmp_eq (tgt := 1073) hX (by decide) dL_law_273 (fun _ => K _ hI2) (fun h => absurd e h)
theorem lw_c4 (hX : LX G X) (hSX : SX G X n xs) (hn : n ≤ 2560) (hi : 0 ≤ i ∧ i + 5 ≤ (n : Int)) (hq : q < 520) (hI : LI q m) (K : ∀ m', LI (q + 1) m' → LN G X 1073 i m') : LN G X 278 i m := by
  obtain ⟨A, B, T, W, R, tl, rl, im, hk, hc, hm⟩ := hI
  have hf1 := hc.few hk
  have hq0 := hk.q1
  refine J_aloadN hX rfl rfl dL_law_278 ?_
  refine J_aloadN hX rfl rfl dL_law_279 ?_
  refine J_iloadN hX rfl rfl dL_law_280 ?_
  refine J_iconst hX (by decide) dL_law_281 ?_
  refine J_iadd hX (fun _ _ => by omega) dL_law_282 ?_
  refine J_sld hX hSX (by omega) dL_law_283 ?_
  refine J_aloadN hX rfl rfl dL_law_284 ?_
  refine J_iloadN hX rfl rfl dL_law_285 ?_
  refine J_iconst hX (by decide) dL_law_286 ?_
  refine J_iadd hX (fun _ _ => by omega) dL_law_287 ?_
  refine J_sld hX hSX (by omega) dL_law_288 ?_
  refine cV2i hX cb_X9_minutes mL_L_32 dL_law_289 (c_xminutes hc.rel hk.ia hf1) (fun r1 m1 p1 => ?_)
  have km : KM m m1 := kmQ p1
  have hm1 := hm.keep km
  have hf2 := hm1.few hk
  refine J_aloadN hX rfl rfl dL_law_292 ?_
  refine J_aloadN hX rfl rfl dL_law_293 ?_
  refine J_iloadN hX rfl rfl dL_law_294 ?_
  refine J_iconst hX (by decide) dL_law_295 ?_
  refine J_iadd hX (fun _ _ => by omega) dL_law_296 ?_
  refine J_sld hX hSX (by omega) dL_law_297 ?_
  refine J_aloadN hX rfl rfl dL_law_298 ?_
  refine J_iloadN hX rfl rfl dL_law_299 ?_
  refine J_iconst hX (by decide) dL_law_300 ?_
  refine J_iadd hX (fun _ _ => by omega) dL_law_301 ?_
  refine J_sld hX hSX (by omega) dL_law_302 ?_
  refine cV2i hX cb_X10_minutes mL_L_35 dL_law_303 (c_mminutes hm1.s hk.ia hf2) (fun r2 m2 p2 => ?_)
  obtain ⟨e, hI2⟩ := LI_q hk hq hc hm p1 p2
  exact J_icmp_eq (tgt := 1073) hX (by decide) dL_law_306 (fun _ => K _ hI2) (fun h => absurd e h)
theorem lw_c5 (hX : LX G X) (hSX : SX G X n xs) (hn : n ≤ 2560) (hi : 0 ≤ i ∧ i + 5 ≤ (n : Int)) (hq : q < 520) (hI : LI q m) (K : ∀ m', LI (q + 1) m' → LN G X 1073 i m') : LN G X 311 i m := by
  obtain ⟨A, B, T, W, R, tl, rl, im, hk, hc, hm⟩ := hI
  have hf1 := hc.few hk
  have hq0 := hk.q1
  refine J_aloadN hX rfl rfl dL_law_311 ?_
  refine J_aloadN hX rfl rfl dL_law_312 ?_
  refine J_iloadN hX rfl rfl dL_law_313 ?_
  refine J_iconst hX (by decide) dL_law_314 ?_
  refine J_iadd hX (fun _ _ => by omega) dL_law_315 ?_
  refine J_sld hX hSX (by omega) dL_law_316 ?_
  refine J_aloadN hX rfl rfl dL_law_317 ?_
  refine J_iloadN hX rfl rfl dL_law_318 ?_
  refine J_iconst hX (by decide) dL_law_319 ?_
  refine J_iadd hX (fun _ _ => by omega) dL_law_320 ?_
  refine J_sld hX hSX (by omega) dL_law_321 ?_
  refine cV2i hX cb_X9_partOf mL_L_36 dL_law_322 (c_xpartOf hc.rel hk.ia hf1) (fun r1 m1 p1 => ?_)
  have km : KM m m1 := kmQ p1
  have hm1 := hm.keep km
  have hf2 := hm1.few hk
  refine J_aloadN hX rfl rfl dL_law_325 ?_
  refine J_aloadN hX rfl rfl dL_law_326 ?_
  refine J_iloadN hX rfl rfl dL_law_327 ?_
  refine J_iconst hX (by decide) dL_law_328 ?_
  refine J_iadd hX (fun _ _ => by omega) dL_law_329 ?_
  refine J_sld hX hSX (by omega) dL_law_330 ?_
  refine J_aloadN hX rfl rfl dL_law_331 ?_
  refine J_iloadN hX rfl rfl dL_law_332 ?_
  refine J_iconst hX (by decide) dL_law_333 ?_
  refine J_iadd hX (fun _ _ => by omega) dL_law_334 ?_
  refine J_sld hX hSX (by omega) dL_law_335 ?_
  refine cV2i hX cb_X10_partOf mL_L_39 dL_law_336 (c_mpartOf hm1.s hk.ia hf2) (fun r2 m2 p2 => ?_)
  obtain ⟨e, hI2⟩ := LI_q hk hq hc hm p1 p2
  exact J_icmp_eq (tgt := 1073) hX (by decide) dL_law_339 (fun _ => K _ hI2) (fun h => absurd e h)
theorem lw_c6 (hX : LX G X) (hSX : SX G X n xs) (hn : n ≤ 2560) (hi : 0 ≤ i ∧ i + 5 ≤ (n : Int)) (hq : q < 520) (hI : LI q m) (K : ∀ m', LI (q + 1) m' → LN G X 1073 i m') : LN G X 344 i m := by
  obtain ⟨A, B, T, W, R, tl, rl, im, hk, hc, hm⟩ := hI
  have hf1 := hc.few hk
  have hq0 := hk.q1
  refine J_aloadN hX rfl rfl dL_law_344 ?_
  refine J_aloadN hX rfl rfl dL_law_345 ?_
  refine J_iloadN hX rfl rfl dL_law_346 ?_
  refine J_iconst hX (by decide) dL_law_347 ?_
  refine J_iadd hX (fun _ _ => by omega) dL_law_348 ?_
  refine J_sld hX hSX (by omega) dL_law_349 ?_
  refine J_aloadN hX rfl rfl dL_law_350 ?_
  refine J_iloadN hX rfl rfl dL_law_351 ?_
  refine J_iconst hX (by decide) dL_law_352 ?_
  refine J_iadd hX (fun _ _ => by omega) dL_law_353 ?_
  refine J_sld hX hSX (by omega) dL_law_354 ?_
  refine cV2i hX cb_X9_split mL_L_40 dL_law_355 (c_xsplit hc.rel hk.ia hf1) (fun r1 m1 p1 => ?_)
  have km : KM m m1 := kmP p1
  have hm1 := hm.keep km
  have hf2 := hm1.few hk
  refine J_aloadN hX rfl rfl dL_law_358 ?_
  refine J_aloadN hX rfl rfl dL_law_359 ?_
  refine J_iloadN hX rfl rfl dL_law_360 ?_
  refine J_iconst hX (by decide) dL_law_361 ?_
  refine J_iadd hX (fun _ _ => by omega) dL_law_362 ?_
  refine J_sld hX hSX (by omega) dL_law_363 ?_
  refine J_aloadN hX rfl rfl dL_law_364 ?_
  refine J_iloadN hX rfl rfl dL_law_365 ?_
  refine J_iconst hX (by decide) dL_law_366 ?_
  refine J_iadd hX (fun _ _ => by omega) dL_law_367 ?_
  refine J_sld hX hSX (by omega) dL_law_368 ?_
  refine cV2i hX cb_X10_split mL_L_43 dL_law_369 (c_msplit hm1.s hk.ia hf2) (fun r2 m2 p2 => ?_)
  obtain ⟨e, hI2⟩ := LI_p hk hq hc hm (fun h => lw_split h) (fun h => Inv_split hk.ia hk.is h (by omega) (by omega)) p1 p2
  exact J_icmp_eq (tgt := 1073) hX (by decide) dL_law_372 (fun _ => K _ hI2) (fun h => absurd e h)
theorem lw_c7 (hX : LX G X) (hSX : SX G X n xs) (hn : n ≤ 2560) (hi : 0 ≤ i ∧ i + 5 ≤ (n : Int)) (hq : q < 520) (hI : LI q m) (K : ∀ m', LI (q + 1) m' → LN G X 1073 i m') : LN G X 377 i m := by
  obtain ⟨A, B, T, W, R, tl, rl, im, hk, hc, hm⟩ := hI
  have hf1 := hc.few hk
  have hq0 := hk.q1
  refine J_aloadN hX rfl rfl dL_law_377 ?_
  refine J_aloadN hX rfl rfl dL_law_378 ?_
  refine J_iloadN hX rfl rfl dL_law_379 ?_
  refine J_iconst hX (by decide) dL_law_380 ?_
  refine J_iadd hX (fun _ _ => by omega) dL_law_381 ?_
  refine J_sld hX hSX (by omega) dL_law_382 ?_
  refine J_aloadN hX rfl rfl dL_law_383 ?_
  refine J_iloadN hX rfl rfl dL_law_384 ?_
  refine J_iconst hX (by decide) dL_law_385 ?_
  refine J_iadd hX (fun _ _ => by omega) dL_law_386 ?_
  refine J_sld hX hSX (by omega) dL_law_387 ?_
  refine cV2i hX cb_X9_go mL_L_44 dL_law_388 (c_xgo hc.rel hk.ia (by have := hk.q1; omega) hf1) (fun r1 m1 p1 => ?_)
  have km : KM m m1 := kmP p1
  have hm1 := hm.keep km
  have hf2 := hm1.few hk
  refine J_aloadN hX rfl rfl dL_law_391 ?_
  refine J_aloadN hX rfl rfl dL_law_392 ?_
  refine J_iloadN hX rfl rfl dL_law_393 ?_
  refine J_iconst hX (by decide) dL_law_394 ?_
  refine J_iadd hX (fun _ _ => by omega) dL_law_395 ?_
  refine J_sld hX hSX (by omega) dL_law_396 ?_
  refine J_aloadN hX rfl rfl dL_law_397 ?_
  refine J_iloadN hX rfl rfl dL_law_398 ?_
  refine J_iconst hX (by decide) dL_law_399 ?_
  refine J_iadd hX (fun _ _ => by omega) dL_law_400 ?_
  refine J_sld hX hSX (by omega) dL_law_401 ?_
  refine cV2i hX cb_X10_go mL_L_47 dL_law_402 (c_mgo hm1.s hk.ia (by have := hk.q1; omega) hf2) (fun r2 m2 p2 => ?_)
  obtain ⟨e, hI2⟩ := LI_p hk hq hc hm (fun h => lw_go h) (fun h => Inv_go hk.ia hk.is h (by omega) (by omega)) p1 p2
  exact J_icmp_eq (tgt := 1073) hX (by decide) dL_law_405 (fun _ => K _ hI2) (fun h => absurd e h)
theorem lw_c8 (hX : LX G X) (hSX : SX G X n xs) (hn : n ≤ 2560) (hi : 0 ≤ i ∧ i + 5 ≤ (n : Int)) (hq : q < 520) (hI : LI q m) (K : ∀ m', LI (q + 1) m' → LN G X 1073 i m') : LN G X 410 i m := by
  obtain ⟨A, B, T, W, R, tl, rl, im, hk, hc, hm⟩ := hI
  have hf1 := hc.few hk
  have hq0 := hk.q1
  refine J_aloadN hX rfl rfl dL_law_410 ?_
  refine J_aloadN hX rfl rfl dL_law_411 ?_
  refine J_iloadN hX rfl rfl dL_law_412 ?_
  refine J_iconst hX (by decide) dL_law_413 ?_
  refine J_iadd hX (fun _ _ => by omega) dL_law_414 ?_
  refine J_sld hX hSX (by omega) dL_law_415 ?_
  refine cV1i hX cb_X9_see mL_L_48 dL_law_416 (c_xsee hc.rel hk.ia hf1) (fun r1 m1 p1 => ?_)
  have km : KM m m1 := kmP p1
  have hm1 := hm.keep km
  have hf2 := hm1.few hk
  refine J_aloadN hX rfl rfl dL_law_419 ?_
  refine J_aloadN hX rfl rfl dL_law_420 ?_
  refine J_iloadN hX rfl rfl dL_law_421 ?_
  refine J_iconst hX (by decide) dL_law_422 ?_
  refine J_iadd hX (fun _ _ => by omega) dL_law_423 ?_
  refine J_sld hX hSX (by omega) dL_law_424 ?_
  refine cV1i hX cb_X10_see mL_L_51 dL_law_425 (c_msee hm1.s hk.ia hf2) (fun r2 m2 p2 => ?_)
  obtain ⟨e, hI2⟩ := LI_p hk hq hc hm (fun h => lw_see h) (fun h => Inv_see hk.ia hk.is (aIs_is h) (by omega) (by omega)) p1 p2
  exact J_icmp_eq (tgt := 1073) hX (by decide) dL_law_428 (fun _ => K _ hI2) (fun h => absurd e h)
theorem lw_c9 (hX : LX G X) (hSX : SX G X n xs) (hn : n ≤ 2560) (hi : 0 ≤ i ∧ i + 5 ≤ (n : Int)) (hq : q < 520) (hI : LI q m) (K : ∀ m', LI (q + 1) m' → LN G X 1073 i m') : LN G X 433 i m := by
  obtain ⟨A, B, T, W, R, tl, rl, im, hk, hc, hm⟩ := hI
  have hf1 := hc.few hk
  have hq0 := hk.q1
  refine J_aloadN hX rfl rfl dL_law_433 ?_
  refine J_aloadN hX rfl rfl dL_law_434 ?_
  refine J_iloadN hX rfl rfl dL_law_435 ?_
  refine J_iconst hX (by decide) dL_law_436 ?_
  refine J_iadd hX (fun _ _ => by omega) dL_law_437 ?_
  refine J_sld hX hSX (by omega) dL_law_438 ?_
  refine J_aloadN hX rfl rfl dL_law_439 ?_
  refine J_iloadN hX rfl rfl dL_law_440 ?_
  refine J_iconst hX (by decide) dL_law_441 ?_
  refine J_iadd hX (fun _ _ => by omega) dL_law_442 ?_
  refine J_sld hX hSX (by omega) dL_law_443 ?_
  refine cV2i hX cb_X9_join mL_L_52 dL_law_444 (c_xjoin hc.rel hk.ia (by have := hk.q1; omega) hf1) (fun r1 m1 p1 => ?_)
  have km : KM m m1 := kmP p1
  have hm1 := hm.keep km
  have hf2 := hm1.few hk
  refine J_aloadN hX rfl rfl dL_law_447 ?_
  refine J_aloadN hX rfl rfl dL_law_448 ?_
  refine J_iloadN hX rfl rfl dL_law_449 ?_
  refine J_iconst hX (by decide) dL_law_450 ?_
  refine J_iadd hX (fun _ _ => by omega) dL_law_451 ?_
  refine J_sld hX hSX (by omega) dL_law_452 ?_
  refine J_aloadN hX rfl rfl dL_law_453 ?_
  refine J_iloadN hX rfl rfl dL_law_454 ?_
  refine J_iconst hX (by decide) dL_law_455 ?_
  refine J_iadd hX (fun _ _ => by omega) dL_law_456 ?_
  refine J_sld hX hSX (by omega) dL_law_457 ?_
  refine cV2i hX cb_X10_join mL_L_55 dL_law_458 (c_mjoin hm1.s hk.ia (by have := hk.q1; omega) hf2) (fun r2 m2 p2 => ?_)
  obtain ⟨e, hI2⟩ := LI_p hk hq hc hm (fun h => lw_join h) (fun h => Inv_join hk.ia hk.is h (by omega) (by omega)) p1 p2
  exact J_icmp_eq (tgt := 1073) hX (by decide) dL_law_461 (fun _ => K _ hI2) (fun h => absurd e h)
theorem lw_c10 (hX : LX G X) (hSX : SX G X n xs) (hn : n ≤ 2560) (hi : 0 ≤ i ∧ i + 5 ≤ (n : Int)) (hq : q < 520) (hI : LI q m) (K : ∀ m', LI (q + 1) m' → LN G X 1073 i m') : LN G X 466 i m := by
  obtain ⟨A, B, T, W, R, tl, rl, im, hk, hc, hm⟩ := hI
  have hf1 := hc.few hk
  have hq0 := hk.q1
  refine J_aloadN hX rfl rfl dL_law_466 ?_
  refine J_aloadN hX rfl rfl dL_law_467 ?_
  refine J_iloadN hX rfl rfl dL_law_468 ?_
  refine J_iconst hX (by decide) dL_law_469 ?_
  refine J_iadd hX (fun _ _ => by omega) dL_law_470 ?_
  refine J_sld hX hSX (by omega) dL_law_471 ?_
  refine J_aloadN hX rfl rfl dL_law_472 ?_
  refine J_iloadN hX rfl rfl dL_law_473 ?_
  refine J_iconst hX (by decide) dL_law_474 ?_
  refine J_iadd hX (fun _ _ => by omega) dL_law_475 ?_
  refine J_sld hX hSX (by omega) dL_law_476 ?_
  refine cV2i hX cb_X9_at mL_L_56 dL_law_477 (c_xat hc.rel hk.ia hf1) (fun r1 m1 p1 => ?_)
  have km : KM m m1 := kmP p1
  have hm1 := hm.keep km
  have hf2 := hm1.few hk
  refine J_aloadN hX rfl rfl dL_law_480 ?_
  refine J_aloadN hX rfl rfl dL_law_481 ?_
  refine J_iloadN hX rfl rfl dL_law_482 ?_
  refine J_iconst hX (by decide) dL_law_483 ?_
  refine J_iadd hX (fun _ _ => by omega) dL_law_484 ?_
  refine J_sld hX hSX (by omega) dL_law_485 ?_
  refine J_aloadN hX rfl rfl dL_law_486 ?_
  refine J_iloadN hX rfl rfl dL_law_487 ?_
  refine J_iconst hX (by decide) dL_law_488 ?_
  refine J_iadd hX (fun _ _ => by omega) dL_law_489 ?_
  refine J_sld hX hSX (by omega) dL_law_490 ?_
  refine cV2i hX cb_X10_at mL_L_59 dL_law_491 (c_mat hm1.s hk.ia hf2) (fun r2 m2 p2 => ?_)
  obtain ⟨e, hI2⟩ := LI_p hk hq hc hm (fun h => lw_at h) (fun h => Inv_at hk.ia hk.is h (by omega) (by omega)) p1 p2
  exact J_icmp_eq (tgt := 1073) hX (by decide) dL_law_494 (fun _ => K _ hI2) (fun h => absurd e h)
theorem lw_c11 (hX : LX G X) (hSX : SX G X n xs) (hn : n ≤ 2560) (hi : 0 ≤ i ∧ i + 5 ≤ (n : Int)) (hq : q < 520) (hI : LI q m) (K : ∀ m', LI (q + 1) m' → LN G X 1073 i m') : LN G X 499 i m := by
  obtain ⟨A, B, T, W, R, tl, rl, im, hk, hc, hm⟩ := hI
  have hf1 := hc.few hk
  have hq0 := hk.q1
  refine J_aloadN hX rfl rfl dL_law_499 ?_
  refine J_aloadN hX rfl rfl dL_law_500 ?_
  refine J_iloadN hX rfl rfl dL_law_501 ?_
  refine J_iconst hX (by decide) dL_law_502 ?_
  refine J_iadd hX (fun _ _ => by omega) dL_law_503 ?_
  refine J_sld hX hSX (by omega) dL_law_504 ?_
  refine J_aloadN hX rfl rfl dL_law_505 ?_
  refine J_iloadN hX rfl rfl dL_law_506 ?_
  refine J_iconst hX (by decide) dL_law_507 ?_
  refine J_iadd hX (fun _ _ => by omega) dL_law_508 ?_
  refine J_sld hX hSX (by omega) dL_law_509 ?_
  refine cV2i hX cb_X9_toil mL_L_60 dL_law_510 (c_xtoil hc.rel hk.ia (by have := hk.q1; omega) (by have := hk.q1; omega) hf1) (fun r1 m1 p1 => ?_)
  have km : KM m m1 := kmP p1
  have hm1 := hm.keep km
  have hf2 := hm1.few hk
  refine J_aloadN hX rfl rfl dL_law_513 ?_
  refine J_aloadN hX rfl rfl dL_law_514 ?_
  refine J_iloadN hX rfl rfl dL_law_515 ?_
  refine J_iconst hX (by decide) dL_law_516 ?_
  refine J_iadd hX (fun _ _ => by omega) dL_law_517 ?_
  refine J_sld hX hSX (by omega) dL_law_518 ?_
  refine J_aloadN hX rfl rfl dL_law_519 ?_
  refine J_iloadN hX rfl rfl dL_law_520 ?_
  refine J_iconst hX (by decide) dL_law_521 ?_
  refine J_iadd hX (fun _ _ => by omega) dL_law_522 ?_
  refine J_sld hX hSX (by omega) dL_law_523 ?_
  refine cV2i hX cb_X10_toil mL_L_63 dL_law_524 (c_mtoil hm1.s hk.ia (by have := hk.q1; omega) (by have := hk.q1; omega) hf2) (fun r2 m2 p2 => ?_)
  obtain ⟨e, hI2⟩ := LI_p hk hq hc hm (fun h => lw_toil h) (fun h => Inv_toil hk.ia hk.is h (by omega) (by omega)) p1 p2
  exact J_icmp_eq (tgt := 1073) hX (by decide) dL_law_527 (fun _ => K _ hI2) (fun h => absurd e h)
theorem lw_c12 (hX : LX G X) (hSX : SX G X n xs) (hn : n ≤ 2560) (hi : 0 ≤ i ∧ i + 5 ≤ (n : Int)) (hq : q < 520) (hI : LI q m) (K : ∀ m', LI (q + 1) m' → LN G X 1073 i m') : LN G X 532 i m := by
  obtain ⟨A, B, T, W, R, tl, rl, im, hk, hc, hm⟩ := hI
  have hf1 := hc.few hk
  have hq0 := hk.q1
  refine J_aloadN hX rfl rfl dL_law_532 ?_
  refine J_aloadN hX rfl rfl dL_law_533 ?_
  refine J_iloadN hX rfl rfl dL_law_534 ?_
  refine J_iconst hX (by decide) dL_law_535 ?_
  refine J_iadd hX (fun _ _ => by omega) dL_law_536 ?_
  refine J_sld hX hSX (by omega) dL_law_537 ?_
  refine J_aloadN hX rfl rfl dL_law_538 ?_
  refine J_iloadN hX rfl rfl dL_law_539 ?_
  refine J_iconst hX (by decide) dL_law_540 ?_
  refine J_iadd hX (fun _ _ => by omega) dL_law_541 ?_
  refine J_sld hX hSX (by omega) dL_law_542 ?_
  refine cV2i hX cb_X9_rest mL_L_64 dL_law_543 (c_xrest hc.rel hk.ia (by have := hk.q1; omega) (by have := hk.q1; omega) hf1) (fun r1 m1 p1 => ?_)
  have km : KM m m1 := kmP p1
  have hm1 := hm.keep km
  have hf2 := hm1.few hk
  refine J_aloadN hX rfl rfl dL_law_546 ?_
  refine J_aloadN hX rfl rfl dL_law_547 ?_
  refine J_iloadN hX rfl rfl dL_law_548 ?_
  refine J_iconst hX (by decide) dL_law_549 ?_
  refine J_iadd hX (fun _ _ => by omega) dL_law_550 ?_
  refine J_sld hX hSX (by omega) dL_law_551 ?_
  refine J_aloadN hX rfl rfl dL_law_552 ?_
  refine J_iloadN hX rfl rfl dL_law_553 ?_
  refine J_iconst hX (by decide) dL_law_554 ?_
  refine J_iadd hX (fun _ _ => by omega) dL_law_555 ?_
  refine J_sld hX hSX (by omega) dL_law_556 ?_
  refine cV2i hX cb_X10_rest mL_L_67 dL_law_557 (c_mrest hm1.s hk.ia (by have := hk.q1; omega) (by have := hk.q1; omega) hf2) (fun r2 m2 p2 => ?_)
  obtain ⟨e, hI2⟩ := LI_p hk hq hc hm (fun h => lw_rest h) (fun h => Inv_rest hk.ia hk.is h (by omega) (by omega)) p1 p2
  exact J_icmp_eq (tgt := 1073) hX (by decide) dL_law_560 (fun _ => K _ hI2) (fun h => absurd e h)
theorem lw_c13 (hX : LX G X) (hSX : SX G X n xs) (hn : n ≤ 2560) (hi : 0 ≤ i ∧ i + 5 ≤ (n : Int)) (hq : q < 520) (hI : LI q m) (K : ∀ m', LI (q + 1) m' → LN G X 1073 i m') : LN G X 565 i m := by
  obtain ⟨A, B, T, W, R, tl, rl, im, hk, hc, hm⟩ := hI
  have hf1 := hc.few hk
  have hq0 := hk.q1
  refine J_aloadN hX rfl rfl dL_law_565 ?_
  refine J_aloadN hX rfl rfl dL_law_566 ?_
  refine J_iloadN hX rfl rfl dL_law_567 ?_
  refine J_iconst hX (by decide) dL_law_568 ?_
  refine J_iadd hX (fun _ _ => by omega) dL_law_569 ?_
  refine J_sld hX hSX (by omega) dL_law_570 ?_
  refine cV1i hX cb_X9_lose mL_L_68 dL_law_571 (c_xlose hc.rel hk.ia hf1) (fun r1 m1 p1 => ?_)
  have km : KM m m1 := kmP p1
  have hm1 := hm.keep km
  have hf2 := hm1.few hk
  refine J_aloadN hX rfl rfl dL_law_574 ?_
  refine J_aloadN hX rfl rfl dL_law_575 ?_
  refine J_iloadN hX rfl rfl dL_law_576 ?_
  refine J_iconst hX (by decide) dL_law_577 ?_
  refine J_iadd hX (fun _ _ => by omega) dL_law_578 ?_
  refine J_sld hX hSX (by omega) dL_law_579 ?_
  refine cV1i hX cb_X10_lose mL_L_71 dL_law_580 (c_mlose hm1.s hf2) (fun r2 m2 p2 => ?_)
  obtain ⟨e, hI2⟩ := LI_p hk hq hc hm (fun h => lw_lose h) (fun h => Inv_lose hk.ia hk.is (aIs_is h) (by omega) (by omega)) p1 p2
  exact J_icmp_eq (tgt := 1073) hX (by decide) dL_law_583 (fun _ => K _ hI2) (fun h => absurd e h)
theorem lw_c14 (hX : LX G X) (hSX : SX G X n xs) (hn : n ≤ 2560) (hi : 0 ≤ i ∧ i + 5 ≤ (n : Int)) (hq : q < 520) (hI : LI q m) (K : ∀ m', LI (q + 1) m' → LN G X 1073 i m') : LN G X 588 i m := by
  obtain ⟨A, B, T, W, R, tl, rl, im, hk, hc, hm⟩ := hI
  have hf1 := hc.few hk
  have hq0 := hk.q1
  refine J_aloadN hX rfl rfl dL_law_588 ?_
  refine J_aloadN hX rfl rfl dL_law_589 ?_
  refine J_iloadN hX rfl rfl dL_law_590 ?_
  refine J_iconst hX (by decide) dL_law_591 ?_
  refine J_iadd hX (fun _ _ => by omega) dL_law_592 ?_
  refine J_sld hX hSX (by omega) dL_law_593 ?_
  refine J_aloadN hX rfl rfl dL_law_594 ?_
  refine J_iloadN hX rfl rfl dL_law_595 ?_
  refine J_iconst hX (by decide) dL_law_596 ?_
  refine J_iadd hX (fun _ _ => by omega) dL_law_597 ?_
  refine J_sld hX hSX (by omega) dL_law_598 ?_
  refine cV2i hX cb_X9_does mL_L_72 dL_law_599 (c_xdoes hc.rel hk.ia hf1) (fun r1 m1 p1 => ?_)
  have km : KM m m1 := kmQ p1
  have hm1 := hm.keep km
  have hf2 := hm1.few hk
  refine J_aloadN hX rfl rfl dL_law_602 ?_
  refine J_aloadN hX rfl rfl dL_law_603 ?_
  refine J_iloadN hX rfl rfl dL_law_604 ?_
  refine J_iconst hX (by decide) dL_law_605 ?_
  refine J_iadd hX (fun _ _ => by omega) dL_law_606 ?_
  refine J_sld hX hSX (by omega) dL_law_607 ?_
  refine J_aloadN hX rfl rfl dL_law_608 ?_
  refine J_iloadN hX rfl rfl dL_law_609 ?_
  refine J_iconst hX (by decide) dL_law_610 ?_
  refine J_iadd hX (fun _ _ => by omega) dL_law_611 ?_
  refine J_sld hX hSX (by omega) dL_law_612 ?_
  refine cV2i hX cb_X10_does mL_L_75 dL_law_613 (c_mdoes hm1.s hk.ia hf2) (fun r2 m2 p2 => ?_)
  obtain ⟨e, hI2⟩ := LI_q hk hq hc hm p1 p2
  exact J_icmp_eq (tgt := 1073) hX (by decide) dL_law_616 (fun _ => K _ hI2) (fun h => absurd e h)
theorem lw_c15 (hX : LX G X) (hSX : SX G X n xs) (hn : n ≤ 2560) (hi : 0 ≤ i ∧ i + 5 ≤ (n : Int)) (hq : q < 520) (hI : LI q m) (K : ∀ m', LI (q + 1) m' → LN G X 1073 i m') : LN G X 621 i m := by
  obtain ⟨A, B, T, W, R, tl, rl, im, hk, hc, hm⟩ := hI
  have hf1 := hc.few hk
  have hq0 := hk.q1
  refine J_aloadN hX rfl rfl dL_law_621 ?_
  refine J_aloadN hX rfl rfl dL_law_622 ?_
  refine J_iloadN hX rfl rfl dL_law_623 ?_
  refine J_iconst hX (by decide) dL_law_624 ?_
  refine J_iadd hX (fun _ _ => by omega) dL_law_625 ?_
  refine J_sld hX hSX (by omega) dL_law_626 ?_
  refine J_aloadN hX rfl rfl dL_law_627 ?_
  refine J_iloadN hX rfl rfl dL_law_628 ?_
  refine J_iconst hX (by decide) dL_law_629 ?_
  refine J_iadd hX (fun _ _ => by omega) dL_law_630 ?_
  refine J_sld hX hSX (by omega) dL_law_631 ?_
  refine cV2i hX cb_X9_well mL_L_76 dL_law_632 (c_xwell hc.rel hk.ia hf1) (fun r1 m1 p1 => ?_)
  have km : KM m m1 := kmQ p1
  have hm1 := hm.keep km
  have hf2 := hm1.few hk
  refine J_aloadN hX rfl rfl dL_law_635 ?_
  refine J_aloadN hX rfl rfl dL_law_636 ?_
  refine J_iloadN hX rfl rfl dL_law_637 ?_
  refine J_iconst hX (by decide) dL_law_638 ?_
  refine J_iadd hX (fun _ _ => by omega) dL_law_639 ?_
  refine J_sld hX hSX (by omega) dL_law_640 ?_
  refine J_aloadN hX rfl rfl dL_law_641 ?_
  refine J_iloadN hX rfl rfl dL_law_642 ?_
  refine J_iconst hX (by decide) dL_law_643 ?_
  refine J_iadd hX (fun _ _ => by omega) dL_law_644 ?_
  refine J_sld hX hSX (by omega) dL_law_645 ?_
  refine cV2i hX cb_X10_well mL_L_79 dL_law_646 (c_mwell hm1.s hk.ia hf2) (fun r2 m2 p2 => ?_)
  obtain ⟨e, hI2⟩ := LI_q hk hq hc hm p1 p2
  exact J_icmp_eq (tgt := 1073) hX (by decide) dL_law_649 (fun _ => K _ hI2) (fun h => absurd e h)
theorem lw_c16 (hX : LX G X) (hSX : SX G X n xs) (hn : n ≤ 2560) (hi : 0 ≤ i ∧ i + 5 ≤ (n : Int)) (hq : q < 520) (hI : LI q m) (K : ∀ m', LI (q + 1) m' → LN G X 1073 i m') : LN G X 654 i m := by
  obtain ⟨A, B, T, W, R, tl, rl, im, hk, hc, hm⟩ := hI
  have hf1 := hc.few hk
  have hq0 := hk.q1
  refine J_aloadN hX rfl rfl dL_law_654 ?_
  refine J_aloadN hX rfl rfl dL_law_655 ?_
  refine J_iloadN hX rfl rfl dL_law_656 ?_
  refine J_iconst hX (by decide) dL_law_657 ?_
  refine J_iadd hX (fun _ _ => by omega) dL_law_658 ?_
  refine J_sld hX hSX (by omega) dL_law_659 ?_
  refine cV1i hX cb_X9_plan mL_L_80 dL_law_660 (c_xplan hc.rel hk.ia hf1) (fun r1 m1 p1 => ?_)
  have km : KM m m1 := kmQ p1
  have hm1 := hm.keep km
  have hf2 := hm1.few hk
  refine J_aloadN hX rfl rfl dL_law_663 ?_
  refine J_aloadN hX rfl rfl dL_law_664 ?_
  refine J_iloadN hX rfl rfl dL_law_665 ?_
  refine J_iconst hX (by decide) dL_law_666 ?_
  refine J_iadd hX (fun _ _ => by omega) dL_law_667 ?_
  refine J_sld hX hSX (by omega) dL_law_668 ?_
  refine cV1i hX cb_X10_plan mL_L_83 dL_law_669 (c_mplan hm1.s hk.ia hf2) (fun r2 m2 p2 => ?_)
  obtain ⟨e, hI2⟩ := LI_q hk hq hc hm p1 p2
  exact J_icmp_eq (tgt := 1073) hX (by decide) dL_law_672 (fun _ => K _ hI2) (fun h => absurd e h)
theorem lw_c17 (hX : LX G X) (hSX : SX G X n xs) (hn : n ≤ 2560) (hi : 0 ≤ i ∧ i + 5 ≤ (n : Int)) (hq : q < 520) (hI : LI q m) (K : ∀ m', LI (q + 1) m' → LN G X 1073 i m') : LN G X 677 i m := by
  obtain ⟨A, B, T, W, R, tl, rl, im, hk, hc, hm⟩ := hI
  have hf1 := hc.few hk
  have hq0 := hk.q1
  refine J_aloadN hX rfl rfl dL_law_677 ?_
  refine J_aloadN hX rfl rfl dL_law_678 ?_
  refine J_iloadN hX rfl rfl dL_law_679 ?_
  refine J_iconst hX (by decide) dL_law_680 ?_
  refine J_iadd hX (fun _ _ => by omega) dL_law_681 ?_
  refine J_sld hX hSX (by omega) dL_law_682 ?_
  refine J_aloadN hX rfl rfl dL_law_683 ?_
  refine J_iloadN hX rfl rfl dL_law_684 ?_
  refine J_iconst hX (by decide) dL_law_685 ?_
  refine J_iadd hX (fun _ _ => by omega) dL_law_686 ?_
  refine J_sld hX hSX (by omega) dL_law_687 ?_
  refine J_aloadN hX rfl rfl dL_law_688 ?_
  refine J_iloadN hX rfl rfl dL_law_689 ?_
  refine J_iconst hX (by decide) dL_law_690 ?_
  refine J_iadd hX (fun _ _ => by omega) dL_law_691 ?_
  refine J_sld hX hSX (by omega) dL_law_692 ?_
  refine cV3i hX cb_X9_planned mL_L_84 dL_law_693 (c_xplanned hc.rel hk.ia hf1) (fun r1 m1 p1 => ?_)
  have km : KM m m1 := kmQ p1
  have hm1 := hm.keep km
  have hf2 := hm1.few hk
  refine J_aloadN hX rfl rfl dL_law_696 ?_
  refine J_aloadN hX rfl rfl dL_law_697 ?_
  refine J_iloadN hX rfl rfl dL_law_698 ?_
  refine J_iconst hX (by decide) dL_law_699 ?_
  refine J_iadd hX (fun _ _ => by omega) dL_law_700 ?_
  refine J_sld hX hSX (by omega) dL_law_701 ?_
  refine J_aloadN hX rfl rfl dL_law_702 ?_
  refine J_iloadN hX rfl rfl dL_law_703 ?_
  refine J_iconst hX (by decide) dL_law_704 ?_
  refine J_iadd hX (fun _ _ => by omega) dL_law_705 ?_
  refine J_sld hX hSX (by omega) dL_law_706 ?_
  refine J_aloadN hX rfl rfl dL_law_707 ?_
  refine J_iloadN hX rfl rfl dL_law_708 ?_
  refine J_iconst hX (by decide) dL_law_709 ?_
  refine J_iadd hX (fun _ _ => by omega) dL_law_710 ?_
  refine J_sld hX hSX (by omega) dL_law_711 ?_
  refine cV3i hX cb_X10_planned mL_L_88 dL_law_712 (c_mplanned hm1.s hk.ia hf2) (fun r2 m2 p2 => ?_)
  obtain ⟨e, hI2⟩ := LI_q hk hq hc hm p1 p2
  exact J_icmp_eq (tgt := 1073) hX (by decide) dL_law_715 (fun _ => K _ hI2) (fun h => absurd e h)
theorem lw_c18 (hX : LX G X) (hSX : SX G X n xs) (hn : n ≤ 2560) (hi : 0 ≤ i ∧ i + 5 ≤ (n : Int)) (hq : q < 520) (hI : LI q m) (K : ∀ m', LI (q + 1) m' → LN G X 1073 i m') : LN G X 720 i m := by
  obtain ⟨A, B, T, W, R, tl, rl, im, hk, hc, hm⟩ := hI
  have hf1 := hc.few hk
  have hq0 := hk.q1
  refine J_aloadN hX rfl rfl dL_law_720 ?_
  refine cV0i hX cb_X9_best mL_L_89 dL_law_721 (c_xbest hc.rel hk.ia hf1 hc.qv) (fun r1 m1 p1 => ?_)
  have km : KM m m1 := kmB p1
  have hm1 := hm.keep km
  have hf2 := hm1.few hk
  refine J_aloadN hX rfl rfl dL_law_724 ?_
  refine cV0i hX cb_X10_best mL_L_92 dL_law_725 (c_mbest hm1.s hk.ia hf2) (fun r2 m2 p2 => ?_)
  obtain ⟨e, hI2⟩ := LI_b hk hq hc hm few3_b p1 p2
  exact J_icmp_eq (tgt := 1073) hX (by decide) dL_law_728 (fun _ => K _ hI2) (fun h => absurd e h)
theorem lw_c19 (hX : LX G X) (hSX : SX G X n xs) (hn : n ≤ 2560) (hi : 0 ≤ i ∧ i + 5 ≤ (n : Int)) (hq : q < 520) (hI : LI q m) (K : ∀ m', LI (q + 1) m' → LN G X 1073 i m') : LN G X 733 i m := by
  obtain ⟨A, B, T, W, R, tl, rl, im, hk, hc, hm⟩ := hI
  have hf1 := hc.few hk
  have hq0 := hk.q1
  refine J_aloadN hX rfl rfl dL_law_733 ?_
  refine J_aloadN hX rfl rfl dL_law_734 ?_
  refine J_iloadN hX rfl rfl dL_law_735 ?_
  refine J_iconst hX (by decide) dL_law_736 ?_
  refine J_iadd hX (fun _ _ => by omega) dL_law_737 ?_
  refine J_sld hX hSX (by omega) dL_law_738 ?_
  refine J_aloadN hX rfl rfl dL_law_739 ?_
  refine J_iloadN hX rfl rfl dL_law_740 ?_
  refine J_iconst hX (by decide) dL_law_741 ?_
  refine J_iadd hX (fun _ _ => by omega) dL_law_742 ?_
  refine J_sld hX hSX (by omega) dL_law_743 ?_
  refine cV2i hX cb_X9_quarters mL_L_93 dL_law_744 (c_xquarters hc.rel hk.ia hf1 hc.qv) (fun r1 m1 p1 => ?_)
  have km : KM m m1 := kmB p1
  have hm1 := hm.keep km
  have hf2 := hm1.few hk
  refine J_aloadN hX rfl rfl dL_law_747 ?_
  refine J_aloadN hX rfl rfl dL_law_748 ?_
  refine J_iloadN hX rfl rfl dL_law_749 ?_
  refine J_iconst hX (by decide) dL_law_750 ?_
  refine J_iadd hX (fun _ _ => by omega) dL_law_751 ?_
  refine J_sld hX hSX (by omega) dL_law_752 ?_
  refine J_aloadN hX rfl rfl dL_law_753 ?_
  refine J_iloadN hX rfl rfl dL_law_754 ?_
  refine J_iconst hX (by decide) dL_law_755 ?_
  refine J_iadd hX (fun _ _ => by omega) dL_law_756 ?_
  refine J_sld hX hSX (by omega) dL_law_757 ?_
  refine cV2i hX cb_X10_quarters mL_L_96 dL_law_758 (c_mquarters hm1.s hk.ia hf2) (fun r2 m2 p2 => ?_)
  obtain ⟨e, hI2⟩ := LI_b hk hq hc hm few3_q p1 p2
  exact J_icmp_eq (tgt := 1073) hX (by decide) dL_law_761 (fun _ => K _ hI2) (fun h => absurd e h)
theorem lw_c20 (hX : LX G X) (hSX : SX G X n xs) (hn : n ≤ 2560) (hi : 0 ≤ i ∧ i + 5 ≤ (n : Int)) (hq : q < 520) (hI : LI q m) (K : ∀ m', LI (q + 1) m' → LN G X 1073 i m') : LN G X 766 i m := by
  obtain ⟨A, B, T, W, R, tl, rl, im, hk, hc, hm⟩ := hI
  have hf1 := hc.few hk
  have hq0 := hk.q1
  refine J_aloadN hX rfl rfl dL_law_766 ?_
  refine cV0i hX cb_X9_must mL_L_97 dL_law_767 (c_xmust hc.rel hk.ia) (fun r1 m1 p1 => ?_)
  have km : KM m m1 := kmN p1
  have hm1 := hm.keep km
  have hf2 := hm1.few hk
  refine J_aloadN hX rfl rfl dL_law_770 ?_
  refine cV0i hX cb_X10_must mL_L_100 dL_law_771 (c_mmust hm1.s hk.ia) (fun r2 m2 p2 => ?_)
  obtain ⟨e, hI2⟩ := LI_n hk hq hc hm rfl p1 p2
  exact J_icmp_eq (tgt := 1073) hX (by decide) dL_law_774 (fun _ => K _ hI2) (fun h => absurd e h)
theorem lw_c21 (hX : LX G X) (hSX : SX G X n xs) (hn : n ≤ 2560) (hi : 0 ≤ i ∧ i + 5 ≤ (n : Int)) (hq : q < 520) (hI : LI q m) (K : ∀ m', LI (q + 1) m' → LN G X 1073 i m') : LN G X 779 i m := by
  obtain ⟨A, B, T, W, R, tl, rl, im, hk, hc, hm⟩ := hI
  have hf1 := hc.few hk
  have hq0 := hk.q1
  refine J_aloadN hX rfl rfl dL_law_779 ?_
  refine J_aloadN hX rfl rfl dL_law_780 ?_
  refine J_iloadN hX rfl rfl dL_law_781 ?_
  refine J_iconst hX (by decide) dL_law_782 ?_
  refine J_iadd hX (fun _ _ => by omega) dL_law_783 ?_
  refine J_sld hX hSX (by omega) dL_law_784 ?_
  refine cV1i hX cb_X9_with mL_L_101 dL_law_785 (c_xwith hc.rel hk.ia hf1) (fun r1 m1 p1 => ?_)
  have km : KM m m1 := kmQ p1
  have hm1 := hm.keep km
  have hf2 := hm1.few hk
  refine J_aloadN hX rfl rfl dL_law_788 ?_
  refine J_aloadN hX rfl rfl dL_law_789 ?_
  refine J_iloadN hX rfl rfl dL_law_790 ?_
  refine J_iconst hX (by decide) dL_law_791 ?_
  refine J_iadd hX (fun _ _ => by omega) dL_law_792 ?_
  refine J_sld hX hSX (by omega) dL_law_793 ?_
  refine cV1i hX cb_X10_with mL_L_104 dL_law_794 (c_mwith hm1.s hk.ia hf2) (fun r2 m2 p2 => ?_)
  obtain ⟨e, hI2⟩ := LI_q hk hq hc hm p1 p2
  exact J_icmp_eq (tgt := 1073) hX (by decide) dL_law_797 (fun _ => K _ hI2) (fun h => absurd e h)
theorem lw_c22 (hX : LX G X) (hSX : SX G X n xs) (hn : n ≤ 2560) (hi : 0 ≤ i ∧ i + 5 ≤ (n : Int)) (hq : q < 520) (hI : LI q m) (K : ∀ m', LI (q + 1) m' → LN G X 1073 i m') : LN G X 802 i m := by
  obtain ⟨A, B, T, W, R, tl, rl, im, hk, hc, hm⟩ := hI
  have hf1 := hc.few hk
  have hq0 := hk.q1
  refine J_aloadN hX rfl rfl dL_law_802 ?_
  refine J_aloadN hX rfl rfl dL_law_803 ?_
  refine J_iloadN hX rfl rfl dL_law_804 ?_
  refine J_iconst hX (by decide) dL_law_805 ?_
  refine J_iadd hX (fun _ _ => by omega) dL_law_806 ?_
  refine J_sld hX hSX (by omega) dL_law_807 ?_
  refine cV1i hX cb_X9_thin mL_L_105 dL_law_808 (c_xthin hc.rel hk.ia hf1) (fun r1 m1 p1 => ?_)
  have km : KM m m1 := kmQ p1
  have hm1 := hm.keep km
  have hf2 := hm1.few hk
  refine J_aloadN hX rfl rfl dL_law_811 ?_
  refine J_aloadN hX rfl rfl dL_law_812 ?_
  refine J_iloadN hX rfl rfl dL_law_813 ?_
  refine J_iconst hX (by decide) dL_law_814 ?_
  refine J_iadd hX (fun _ _ => by omega) dL_law_815 ?_
  refine J_sld hX hSX (by omega) dL_law_816 ?_
  refine cV1i hX cb_X10_thin mL_L_108 dL_law_817 (c_mthin hm1.s hk.ia hf2) (fun r2 m2 p2 => ?_)
  obtain ⟨e, hI2⟩ := LI_q hk hq hc hm p1 p2
  exact J_icmp_eq (tgt := 1073) hX (by decide) dL_law_820 (fun _ => K _ hI2) (fun h => absurd e h)
theorem lw_c23 (hX : LX G X) (hSX : SX G X n xs) (hn : n ≤ 2560) (hi : 0 ≤ i ∧ i + 5 ≤ (n : Int)) (hq : q < 520) (hI : LI q m) (K : ∀ m', LI (q + 1) m' → LN G X 1073 i m') : LN G X 825 i m := by
  obtain ⟨A, B, T, W, R, tl, rl, im, hk, hc, hm⟩ := hI
  have hf1 := hc.few hk
  have hq0 := hk.q1
  refine J_aloadN hX rfl rfl dL_law_825 ?_
  refine J_aloadN hX rfl rfl dL_law_826 ?_
  refine J_iloadN hX rfl rfl dL_law_827 ?_
  refine J_iconst hX (by decide) dL_law_828 ?_
  refine J_iadd hX (fun _ _ => by omega) dL_law_829 ?_
  refine J_sld hX hSX (by omega) dL_law_830 ?_
  refine J_aloadN hX rfl rfl dL_law_831 ?_
  refine J_iloadN hX rfl rfl dL_law_832 ?_
  refine J_iconst hX (by decide) dL_law_833 ?_
  refine J_iadd hX (fun _ _ => by omega) dL_law_834 ?_
  refine J_sld hX hSX (by omega) dL_law_835 ?_
  refine cV2i hX cb_X9_few mL_L_109 dL_law_836 (c_xfew hc.rel hk.ia hf1) (fun r1 m1 p1 => ?_)
  have km : KM m m1 := kmQ p1
  have hm1 := hm.keep km
  have hf2 := hm1.few hk
  refine J_aloadN hX rfl rfl dL_law_839 ?_
  refine J_aloadN hX rfl rfl dL_law_840 ?_
  refine J_iloadN hX rfl rfl dL_law_841 ?_
  refine J_iconst hX (by decide) dL_law_842 ?_
  refine J_iadd hX (fun _ _ => by omega) dL_law_843 ?_
  refine J_sld hX hSX (by omega) dL_law_844 ?_
  refine J_aloadN hX rfl rfl dL_law_845 ?_
  refine J_iloadN hX rfl rfl dL_law_846 ?_
  refine J_iconst hX (by decide) dL_law_847 ?_
  refine J_iadd hX (fun _ _ => by omega) dL_law_848 ?_
  refine J_sld hX hSX (by omega) dL_law_849 ?_
  refine cV2i hX cb_X10_few mL_L_112 dL_law_850 (c_mfew hm1.s hk.ia hf2) (fun r2 m2 p2 => ?_)
  obtain ⟨e, hI2⟩ := LI_q hk hq hc hm p1 p2
  exact J_icmp_eq (tgt := 1073) hX (by decide) dL_law_853 (fun _ => K _ hI2) (fun h => absurd e h)
theorem lw_c24 (hX : LX G X) (hSX : SX G X n xs) (hn : n ≤ 2560) (hi : 0 ≤ i ∧ i + 5 ≤ (n : Int)) (hq : q < 520) (hI : LI q m) (K : ∀ m', LI (q + 1) m' → LN G X 1073 i m') : LN G X 858 i m := by
  obtain ⟨A, B, T, W, R, tl, rl, im, hk, hc, hm⟩ := hI
  have hf1 := hc.few hk
  have hq0 := hk.q1
  refine J_aloadN hX rfl rfl dL_law_858 ?_
  refine J_aloadN hX rfl rfl dL_law_859 ?_
  refine J_iloadN hX rfl rfl dL_law_860 ?_
  refine J_iconst hX (by decide) dL_law_861 ?_
  refine J_iadd hX (fun _ _ => by omega) dL_law_862 ?_
  refine J_sld hX hSX (by omega) dL_law_863 ?_
  refine J_aloadN hX rfl rfl dL_law_864 ?_
  refine J_iloadN hX rfl rfl dL_law_865 ?_
  refine J_iconst hX (by decide) dL_law_866 ?_
  refine J_iadd hX (fun _ _ => by omega) dL_law_867 ?_
  refine J_sld hX hSX (by omega) dL_law_868 ?_
  refine J_aloadN hX rfl rfl dL_law_869 ?_
  refine J_iloadN hX rfl rfl dL_law_870 ?_
  refine J_iconst hX (by decide) dL_law_871 ?_
  refine J_iadd hX (fun _ _ => by omega) dL_law_872 ?_
  refine J_sld hX hSX (by omega) dL_law_873 ?_
  refine J_aloadN hX rfl rfl dL_law_874 ?_
  refine J_iloadN hX rfl rfl dL_law_875 ?_
  refine J_iconst hX (by decide) dL_law_876 ?_
  refine J_iadd hX (fun _ _ => by omega) dL_law_877 ?_
  refine J_sld hX hSX (by omega) dL_law_878 ?_
  refine cV4w hX cb_X9_chance mL_L_113 dL_law_879 (c_xchance hc.rel hk.ia hf1) ?_
  generalize hm1e : (if rfChance A (sx xs (i + 1)) (sx xs (i + 2)) (sx xs (i + 3)) (sx xs (i + 4)) = 0 then m else refM m 33 (rfChance A (sx xs (i + 1)) (sx xs (i + 2)) (sx xs (i + 3)) (sx xs (i + 4)))) = m1
  have km : KM m m1 := by
    rw [← hm1e]
    split
    · exact fun t v i ht => rfl
    · exact KM.ref
  have hm1 := hm.keep km
  have hf2 := hm1.few hk
  refine J_aloadN hX rfl rfl dL_law_882 ?_
  refine J_aloadN hX rfl rfl dL_law_883 ?_
  refine J_iloadN hX rfl rfl dL_law_884 ?_
  refine J_iconst hX (by decide) dL_law_885 ?_
  refine J_iadd hX (fun _ _ => by omega) dL_law_886 ?_
  refine J_sld hX hSX (by omega) dL_law_887 ?_
  refine J_aloadN hX rfl rfl dL_law_888 ?_
  refine J_iloadN hX rfl rfl dL_law_889 ?_
  refine J_iconst hX (by decide) dL_law_890 ?_
  refine J_iadd hX (fun _ _ => by omega) dL_law_891 ?_
  refine J_sld hX hSX (by omega) dL_law_892 ?_
  refine J_aloadN hX rfl rfl dL_law_893 ?_
  refine J_iloadN hX rfl rfl dL_law_894 ?_
  refine J_iconst hX (by decide) dL_law_895 ?_
  refine J_iadd hX (fun _ _ => by omega) dL_law_896 ?_
  refine J_sld hX hSX (by omega) dL_law_897 ?_
  refine J_aloadN hX rfl rfl dL_law_898 ?_
  refine J_iloadN hX rfl rfl dL_law_899 ?_
  refine J_iconst hX (by decide) dL_law_900 ?_
  refine J_iadd hX (fun _ _ => by omega) dL_law_901 ?_
  refine J_sld hX hSX (by omega) dL_law_902 ?_
  refine cV4w hX cb_X10_chance mL_L_117 dL_law_903 (c_mchance hm1.s hk.ia hf2) ?_
  refine J_lcmp hX dL_law_906 ?_
  have hI2 : LI (q + 1) (chM m1 (rfChance A (sx xs (i + 1)) (sx xs (i + 2)) (sx xs (i + 3)) (sx xs (i + 4)))) := LI_ch hk hq hc hm hm1e.symm rfl
  exact J_if_eq (tgt := 1073) hX (by decide) dL_law_907 (fun _ => K _ hI2) (fun h => absurd (cmpI_rf _) h)
theorem lw_c25 (hX : LX G X) (hSX : SX G X n xs) (hn : n ≤ 2560) (hi : 0 ≤ i ∧ i + 5 ≤ (n : Int)) (hq : q < 520) (hI : LI q m) (K : ∀ m', LI (q + 1) m' → LN G X 1073 i m') : LN G X 912 i m := by
  obtain ⟨A, B, T, W, R, tl, rl, im, hk, hc, hm⟩ := hI
  have hf1 := hc.few hk
  have hq0 := hk.q1
  refine J_aloadN hX rfl rfl dL_law_912 ?_
  refine J_aloadN hX rfl rfl dL_law_913 ?_
  refine J_iloadN hX rfl rfl dL_law_914 ?_
  refine J_iconst hX (by decide) dL_law_915 ?_
  refine J_iadd hX (fun _ _ => by omega) dL_law_916 ?_
  refine J_sld hX hSX (by omega) dL_law_917 ?_
  refine J_aloadN hX rfl rfl dL_law_918 ?_
  refine J_iloadN hX rfl rfl dL_law_919 ?_
  refine J_iconst hX (by decide) dL_law_920 ?_
  refine J_iadd hX (fun _ _ => by omega) dL_law_921 ?_
  refine J_sld hX hSX (by omega) dL_law_922 ?_
  refine cV2i hX cb_X9_together mL_L_118 dL_law_923 (c_xtogether hc.rel hk.ia (by have := hk.q1; omega) hf1) (fun r1 m1 p1 => ?_)
  have km : KM m m1 := kmQ p1
  have hm1 := hm.keep km
  have hf2 := hm1.few hk
  refine J_aloadN hX rfl rfl dL_law_926 ?_
  refine J_aloadN hX rfl rfl dL_law_927 ?_
  refine J_iloadN hX rfl rfl dL_law_928 ?_
  refine J_iconst hX (by decide) dL_law_929 ?_
  refine J_iadd hX (fun _ _ => by omega) dL_law_930 ?_
  refine J_sld hX hSX (by omega) dL_law_931 ?_
  refine J_aloadN hX rfl rfl dL_law_932 ?_
  refine J_iloadN hX rfl rfl dL_law_933 ?_
  refine J_iconst hX (by decide) dL_law_934 ?_
  refine J_iadd hX (fun _ _ => by omega) dL_law_935 ?_
  refine J_sld hX hSX (by omega) dL_law_936 ?_
  refine cV2i hX cb_X10_together mL_L_121 dL_law_937 (c_mtogether hm1.s hk.ia (by have := hk.q1; omega) hf2) (fun r2 m2 p2 => ?_)
  obtain ⟨e, hI2⟩ := LI_q hk hq hc hm p1 p2
  exact J_icmp_eq (tgt := 1073) hX (by decide) dL_law_940 (fun _ => K _ hI2) (fun h => absurd e h)
theorem lw_c26 (hX : LX G X) (hSX : SX G X n xs) (hn : n ≤ 2560) (hi : 0 ≤ i ∧ i + 5 ≤ (n : Int)) (hq : q < 520) (hI : LI q m) (K : ∀ m', LI (q + 1) m' → LN G X 1073 i m') : LN G X 945 i m := by
  obtain ⟨A, B, T, W, R, tl, rl, im, hk, hc, hm⟩ := hI
  have hf1 := hc.few hk
  have hq0 := hk.q1
  refine J_aloadN hX rfl rfl dL_law_945 ?_
  refine J_aloadN hX rfl rfl dL_law_946 ?_
  refine J_iloadN hX rfl rfl dL_law_947 ?_
  refine J_iconst hX (by decide) dL_law_948 ?_
  refine J_iadd hX (fun _ _ => by omega) dL_law_949 ?_
  refine J_sld hX hSX (by omega) dL_law_950 ?_
  refine J_aloadN hX rfl rfl dL_law_951 ?_
  refine J_iloadN hX rfl rfl dL_law_952 ?_
  refine J_iconst hX (by decide) dL_law_953 ?_
  refine J_iadd hX (fun _ _ => by omega) dL_law_954 ?_
  refine J_sld hX hSX (by omega) dL_law_955 ?_
  refine cV2i hX cb_X9_known mL_L_122 dL_law_956 (c_xknown hc.rel hk.ia hf1) (fun r1 m1 p1 => ?_)
  have km : KM m m1 := kmQ p1
  have hm1 := hm.keep km
  have hf2 := hm1.few hk
  refine J_aloadN hX rfl rfl dL_law_959 ?_
  refine J_aloadN hX rfl rfl dL_law_960 ?_
  refine J_iloadN hX rfl rfl dL_law_961 ?_
  refine J_iconst hX (by decide) dL_law_962 ?_
  refine J_iadd hX (fun _ _ => by omega) dL_law_963 ?_
  refine J_sld hX hSX (by omega) dL_law_964 ?_
  refine J_aloadN hX rfl rfl dL_law_965 ?_
  refine J_iloadN hX rfl rfl dL_law_966 ?_
  refine J_iconst hX (by decide) dL_law_967 ?_
  refine J_iadd hX (fun _ _ => by omega) dL_law_968 ?_
  refine J_sld hX hSX (by omega) dL_law_969 ?_
  refine cV2i hX cb_X10_known mL_L_125 dL_law_970 (c_mknown hm1.s hk.ia hf2) (fun r2 m2 p2 => ?_)
  obtain ⟨e, hI2⟩ := LI_q hk hq hc hm p1 p2
  exact J_icmp_eq (tgt := 1073) hX (by decide) dL_law_973 (fun _ => K _ hI2) (fun h => absurd e h)
theorem lw_c27 (hX : LX G X) (hSX : SX G X n xs) (hn : n ≤ 2560) (hi : 0 ≤ i ∧ i + 5 ≤ (n : Int)) (hq : q < 520) (hI : LI q m) (K : ∀ m', LI (q + 1) m' → LN G X 1073 i m') : LN G X 978 i m := by
  obtain ⟨A, B, T, W, R, tl, rl, im, hk, hc, hm⟩ := hI
  have hf1 := hc.few hk
  have hq0 := hk.q1
  refine J_aloadN hX rfl rfl dL_law_978 ?_
  refine J_aloadN hX rfl rfl dL_law_979 ?_
  refine J_iloadN hX rfl rfl dL_law_980 ?_
  refine J_iconst hX (by decide) dL_law_981 ?_
  refine J_iadd hX (fun _ _ => by omega) dL_law_982 ?_
  refine J_sld hX hSX (by omega) dL_law_983 ?_
  refine cV1i hX cb_X9_row mL_L_126 dL_law_984 (c_xrow hc.rw1 hk.rl1 hf1) (fun r1 m1 p1 => ?_)
  have km : KM m m1 := p1.km (fun m' h t v i ht => by rw [h, upr_tag (by omega), upr_tag (by omega)])
  have hm1 := hm.keep km
  have hf2 := hm1.few hk
  refine J_aloadN hX rfl rfl dL_law_987 ?_
  refine J_aloadN hX rfl rfl dL_law_988 ?_
  refine J_iloadN hX rfl rfl dL_law_989 ?_
  refine J_iconst hX (by decide) dL_law_990 ?_
  refine J_iadd hX (fun _ _ => by omega) dL_law_991 ?_
  refine J_sld hX hSX (by omega) dL_law_992 ?_
  refine cV1i hX cb_X10_row mL_L_129 dL_law_993 (c_mrow hm1.rw1 hk.rl1 hf2) (fun r2 m2 p2 => ?_)
  obtain ⟨e, hI2⟩ := LI_row hk hq hc hm p1 p2
  exact J_icmp_eq (tgt := 1073) hX (by decide) dL_law_996 (fun _ => K _ hI2) (fun h => absurd e h)
theorem lw_c28 (hX : LX G X) (hSX : SX G X n xs) (hn : n ≤ 2560) (hi : 0 ≤ i ∧ i + 5 ≤ (n : Int)) (hq : q < 520) (hI : LI q m) (K : ∀ m', LI (q + 1) m' → LN G X 1073 i m') : LN G X 1001 i m := by
  obtain ⟨A, B, T, W, R, tl, rl, im, hk, hc, hm⟩ := hI
  have hf1 := hc.few hk
  have hq0 := hk.q1
  refine J_aloadN hX rfl rfl dL_law_1001 ?_
  refine J_aloadN hX rfl rfl dL_law_1002 ?_
  refine J_iloadN hX rfl rfl dL_law_1003 ?_
  refine J_iconst hX (by decide) dL_law_1004 ?_
  refine J_iadd hX (fun _ _ => by omega) dL_law_1005 ?_
  refine J_sld hX hSX (by omega) dL_law_1006 ?_
  refine cV1i hX cb_X9_judge mL_L_130 dL_law_1007 (c_xjudge hc.rel hf1 hc.rw1 hk.rl1 (fun k h => ⟨hc.rw2 k h, hk.wb k h⟩) hk.ia) (fun r1 m1 p1 => ?_)
  have km : KM m m1 := p1.km (fun m' h t v i ht => by rw [h, upr_tag (by omega)])
  have hm1 := hm.keep km
  have hf2 := hm1.few hk
  refine J_aloadN hX rfl rfl dL_law_1010 ?_
  refine J_aloadN hX rfl rfl dL_law_1011 ?_
  refine J_iloadN hX rfl rfl dL_law_1012 ?_
  refine J_iconst hX (by decide) dL_law_1013 ?_
  refine J_iadd hX (fun _ _ => by omega) dL_law_1014 ?_
  refine J_sld hX hSX (by omega) dL_law_1015 ?_
  refine cV1i hX cb_X10_judge mL_L_133 dL_law_1016 (c_mjudge hm1.s hk.ia hf2 hm1.rw1 hk.rl1 (fun k h => ⟨hm1.rw2 k h, hk.wb k h⟩)) (fun r2 m2 p2 => ?_)
  obtain ⟨e, hI2⟩ := LI_judge hk hq hc hm p1 p2
  exact J_icmp_eq (tgt := 1073) hX (by decide) dL_law_1019 (fun _ => K _ hI2) (fun h => absurd e h)
theorem lw_c29 (hX : LX G X) (hSX : SX G X n xs) (hn : n ≤ 2560) (hi : 0 ≤ i ∧ i + 5 ≤ (n : Int)) (hq : q < 520) (hI : LI q m) (K : ∀ m', LI (q + 1) m' → LN G X 1073 i m') : LN G X 1024 i m := by
  obtain ⟨A, B, T, W, R, tl, rl, im, hk, hc, hm⟩ := hI
  have hf1 := hc.few hk
  have hq0 := hk.q1
  refine J_aloadN hX rfl rfl dL_law_1024 ?_
  refine cV0i hX cb_X9_image mL_L_134 dL_law_1025 (c_ximage hc.rel hk.ia) (fun r1 m1 p1 => ?_)
  have km : KM m m1 := (fun t v i ht => p1.2.1 t v i (by omega) (by omega))
  have hm1 := hm.keep km
  have hf2 := hm1.few hk
  refine J_aloadN hX rfl rfl dL_law_1028 ?_
  refine cV0i hX cb_X10_image mL_L_137 dL_law_1029 (c_mimage hm1.s hm1.b) (fun r2 m2 p2 => ?_)
  obtain ⟨e, hI2⟩ := LI_image hk hq hc hm p1 p2
  exact J_icmp_eq (tgt := 1073) hX (by decide) dL_law_1032 (fun _ => K _ hI2) (fun h => absurd e h)
theorem lw_c30 (hX : LX G X) (hSX : SX G X n xs) (hn : n ≤ 2560) (hi : 0 ≤ i ∧ i + 5 ≤ (n : Int)) (hq : q < 520) (hI : LI q m) (K : ∀ m', LI (q + 1) m' → LN G X 1073 i m') : LN G X 1037 i m := by
  obtain ⟨A, B, T, W, R, tl, rl, im, hk, hc, hm⟩ := hI
  have hf1 := hc.few hk
  have hq0 := hk.q1
  refine J_aloadN hX rfl rfl dL_law_1037 ?_
  refine cV0i hX cb_X9_on mL_L_138 dL_law_1038 (c_xon hc.im1 (fun h => ⟨hc.im2 h, (hk.ib h).1⟩) hf1) (fun r1 m1 p1 => ?_)
  have km : KM m m1 := p1.km (fun m' h t v i ht => h.1 t v i (by omega) (by omega))
  have hm1 := hm.keep km
  have hf2 := hm1.few hk
  refine J_aloadN hX rfl rfl dL_law_1041 ?_
  refine cV0i hX cb_X10_on mL_L_141 dL_law_1042 (c_mon hm1.s hm1.b hm1.im1 hf2) (fun r2 m2 p2 => ?_)
  obtain ⟨e, hI2⟩ := LI_on hk hq hc hm p1 p2
  exact J_icmp_eq (tgt := 1073) hX (by decide) dL_law_1045 (fun _ => K _ hI2) (fun h => absurd e h)
theorem lw_c31 (hX : LX G X) (hSX : SX G X n xs) (hn : n ≤ 2560) (hi : 0 ≤ i ∧ i + 5 ≤ (n : Int)) (hq : q < 520) (hI : LI q m) (K : ∀ m', LI (q + 1) m' → LN G X 1073 i m') : LN G X 1050 i m := by
  obtain ⟨A, B, T, W, R, tl, rl, im, hk, hc, hm⟩ := hI
  have hf1 := hc.few hk
  have hq0 := hk.q1
  refine J_aloadN hX rfl rfl dL_law_1050 ?_
  refine J_aloadN hX rfl rfl dL_law_1051 ?_
  refine J_iloadN hX rfl rfl dL_law_1052 ?_
  refine J_iconst hX (by decide) dL_law_1053 ?_
  refine J_iadd hX (fun _ _ => by omega) dL_law_1054 ?_
  refine J_sld hX hSX (by omega) dL_law_1055 ?_
  refine cV1i hX cb_X9_count mL_L_142 dL_law_1056 (c_xcount hc.rel hk.ia hc.rw1 hc.tp.1.1) (fun r1 m1 p1 => ?_)
  have km : KM m m1 := kmN p1
  have hm1 := hm.keep km
  have hf2 := hm1.few hk
  refine J_aloadN hX rfl rfl dL_law_1059 ?_
  refine J_aloadN hX rfl rfl dL_law_1060 ?_
  refine J_iloadN hX rfl rfl dL_law_1061 ?_
  refine J_iconst hX (by decide) dL_law_1062 ?_
  refine J_iadd hX (fun _ _ => by omega) dL_law_1063 ?_
  refine J_sld hX hSX (by omega) dL_law_1064 ?_
  refine cV1i hX cb_X10_count mL_L_145 dL_law_1065 (c_mcount hm1.s hk.ia hm1.rw1 hm1.tp.1.1) (fun r2 m2 p2 => ?_)
  obtain ⟨e, hI2⟩ := LI_n hk hq hc hm (by rw [hc.rf, hm1.rf]) p1 p2
  exact J_icmp_eq (tgt := 1073) hX (by decide) dL_law_1068 (fun _ => K _ hI2) (fun h => absurd e h)
end Law
