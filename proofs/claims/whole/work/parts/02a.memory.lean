/-! ===== 02: the cells of this claim; memory; the judgement J and its rows ===== -/
abbrev HM : Type := Nat → Int → Int → Int → Int
abbrev HV : Type := Int ⊕ (Int ⊕ ((Nat × Int × Int) ⊕ Unit))
/-- an int, a long, a reference (tag of the cell, owner, index), nothing known -/
def vi (x : Int) : HV := Sum.inl x
def vl (x : Int) : HV := Sum.inr (Sum.inl x)
def vr (t : Nat) (v i : Int) : HV := Sum.inr (Sum.inr (Sum.inl (t, v, i)))
def vx : HV := Sum.inr (Sum.inr (Sum.inr ()))
abbrev inR (x : Int) : Prop := -2147483648 ≤ x ∧ x ≤ 2147483647
abbrev inL (x : Int) : Prop := -9223372036854775808 ≤ x ∧ x ≤ 9223372036854775807
/-- where the cells begin; the classes; the arrays' classes; where the three cells lie that were there before; the script's length; the launch -/
abbrev GC : Type := Nat × va_G × (Nat → ClassId) × (Nat → Nat) × Nat × Launch
def cellsL : List (Nat × Int × Int) := [(0, 0, 0), (14, 0, 0), (15, 0, 0), (16, 0, 0), (1, 0, 0), (2, 0, 0), (3, 0, 0), (3, 0, 1), (3, 0, 2), (3, 0, 3), (3, 0, 4), (3, 0, 5), (4, 0, 0), (5, 0, 0), (5, 0, 1), (5, 0, 2), (5, 0, 3), (5, 0, 4), (5, 0, 5), (6, 0, 0), (7, 0, 0), (8, 0, 0), (9, 0, 0), (10, 0, 0), (9, 0, 1), (10, 0, 1), (9, 0, 2), (10, 0, 2), (9, 0, 3), (10, 0, 3), (9, 0, 4), (10, 0, 4), (9, 0, 5), (10, 0, 5), (11, 0, 0), (12, 0, 0), (11, 0, 1), (12, 0, 1), (11, 0, 2), (12, 0, 2), (11, 0, 3), (12, 0, 3), (11, 0, 4), (12, 0, 4), (11, 0, 5), (12, 0, 5), (13, 0, 0), (13, 0, 1), (13, 0, 2), (13, 0, 3), (13, 0, 4), (13, 0, 5), (13, 0, 6), (13, 0, 7), (13, 0, 8), (13, 0, 9), (13, 0, 10), (13, 0, 11), (13, 0, 12), (13, 0, 13), (13, 0, 14), (13, 0, 15), (13, 0, 16), (13, 0, 17), (13, 0, 18), (13, 0, 19), (13, 0, 20), (13, 0, 21), (13, 0, 22), (13, 0, 23), (1, 1, 0), (2, 1, 0), (3, 1, 0), (3, 1, 1), (3, 1, 2), (3, 1, 3), (3, 1, 4), (3, 1, 5), (4, 1, 0), (5, 1, 0), (5, 1, 1), (5, 1, 2), (5, 1, 3), (5, 1, 4), (5, 1, 5), (6, 1, 0), (7, 1, 0), (8, 1, 0), (9, 1, 0), (10, 1, 0), (9, 1, 1), (10, 1, 1), (9, 1, 2), (10, 1, 2), (9, 1, 3), (10, 1, 3), (9, 1, 4), (10, 1, 4), (9, 1, 5), (10, 1, 5), (11, 1, 0), (12, 1, 0), (11, 1, 1), (12, 1, 1), (11, 1, 2), (12, 1, 2), (11, 1, 3), (12, 1, 3), (11, 1, 4), (12, 1, 4), (11, 1, 5), (12, 1, 5), (13, 1, 0), (13, 1, 1), (13, 1, 2), (13, 1, 3), (13, 1, 4), (13, 1, 5), (13, 1, 6), (13, 1, 7), (13, 1, 8), (13, 1, 9), (13, 1, 10), (13, 1, 11), (13, 1, 12), (13, 1, 13), (13, 1, 14), (13, 1, 15), (13, 1, 16), (13, 1, 17), (13, 1, 18), (13, 1, 19), (13, 1, 20), (13, 1, 21), (13, 1, 22), (13, 1, 23), (1, 2, 0), (2, 2, 0), (3, 2, 0), (3, 2, 1), (3, 2, 2), (3, 2, 3), (3, 2, 4), (3, 2, 5), (4, 2, 0), (5, 2, 0), (5, 2, 1), (5, 2, 2), (5, 2, 3), (5, 2, 4), (5, 2, 5), (6, 2, 0), (7, 2, 0), (8, 2, 0), (9, 2, 0), (10, 2, 0), (9, 2, 1), (10, 2, 1), (9, 2, 2), (10, 2, 2), (9, 2, 3), (10, 2, 3), (9, 2, 4), (10, 2, 4), (9, 2, 5), (10, 2, 5), (11, 2, 0), (12, 2, 0), (11, 2, 1), (12, 2, 1), (11, 2, 2), (12, 2, 2), (11, 2, 3), (12, 2, 3), (11, 2, 4), (12, 2, 4), (11, 2, 5), (12, 2, 5), (13, 2, 0), (13, 2, 1), (13, 2, 2), (13, 2, 3), (13, 2, 4), (13, 2, 5), (13, 2, 6), (13, 2, 7), (13, 2, 8), (13, 2, 9), (13, 2, 10), (13, 2, 11), (13, 2, 12), (13, 2, 13), (13, 2, 14), (13, 2, 15), (13, 2, 16), (13, 2, 17), (13, 2, 18), (13, 2, 19), (13, 2, 20), (13, 2, 21), (13, 2, 22), (13, 2, 23), (17, 0, 0), (18, 0, 0), (19, 0, 0), (20, 0, 0), (21, 0, 0), (22, 0, 0), (22, 0, 1), (22, 0, 2), (22, 0, 3), (22, 0, 4), (22, 0, 5), (17, 1, 0), (18, 1, 0), (19, 1, 0), (17, 2, 0), (18, 2, 0), (19, 2, 0), (23, 0, 0), (24, 0, 0), (25, 0, 0), (25, 0, 1), (25, 0, 2), (25, 0, 3), (25, 0, 4), (25, 0, 5), (25, 0, 6), (25, 0, 7), (25, 0, 8), (25, 0, 9), (25, 0, 10), (25, 0, 11), (25, 0, 12), (25, 0, 13), (25, 0, 14), (25, 0, 15), (25, 0, 16), (25, 0, 17), (25, 0, 18), (25, 0, 19), (25, 0, 20), (25, 0, 21), (25, 0, 22), (25, 0, 23), (25, 0, 24), (25, 0, 25), (25, 0, 26), (25, 0, 27), (25, 0, 28), (25, 0, 29), (25, 0, 30), (25, 0, 31), (25, 0, 32), (25, 0, 33), (25, 0, 34), (26, 0, 0), (27, 0, 0), (27, 0, 1), (27, 0, 2), (28, 0, 0), (17, 3, 0), (18, 3, 0), (19, 3, 0), (29, 0, 0), (30, 0, 0), (31, 0, 0), (17, 4, 0), (18, 4, 0), (19, 4, 0), (32, 0, 0), (33, 0, 0), (40, 0, 0), (41, 0, 0), (42, 0, 0), (43, 0, 0), (44, 0, 0), (45, 0, 0), (46, 0, 0), (47, 0, 0), (48, 0, 0), (49, 0, 0), (50, 0, 0), (51, 0, 0), (52, 0, 0)]
def ix : Nat → Int → Int → Nat
  | 0, _, _ => 0
  | 1, v, _ => 4 + 66 * v.toNat
  | 2, v, _ => 5 + 66 * v.toNat
  | 3, v, i => 6 + 66 * v.toNat + i.toNat
  | 4, v, _ => 12 + 66 * v.toNat
  | 5, v, i => 13 + 66 * v.toNat + i.toNat
  | 6, v, _ => 19 + 66 * v.toNat
  | 7, v, _ => 20 + 66 * v.toNat
  | 8, v, _ => 21 + 66 * v.toNat
  | 9, v, i => 22 + 66 * v.toNat + 2 * i.toNat
  | 10, v, i => 23 + 66 * v.toNat + 2 * i.toNat
  | 11, v, i => 34 + 66 * v.toNat + 2 * i.toNat
  | 12, v, i => 35 + 66 * v.toNat + 2 * i.toNat
  | 13, v, i => 46 + 66 * v.toNat + i.toNat
  | 14, _, _ => 1
  | 15, _, _ => 2
  | 16, _, _ => 3
  | 17, v, _ => [202, 213, 216, 261, 267].getD v.toNat 0
  | 18, v, _ => [203, 214, 217, 262, 268].getD v.toNat 0
  | 19, v, _ => [204, 215, 218, 263, 269].getD v.toNat 0
  | 20, _, _ => 205
  | 21, _, _ => 206
  | 22, _, i => 207 + i.toNat
  | 23, _, _ => 219
  | 24, _, _ => 220
  | 25, _, i => 221 + i.toNat
  | 26, _, _ => 256
  | 27, _, i => 257 + i.toNat
  | 28, _, _ => 260
  | 29, _, _ => 264
  | 30, _, _ => 265
  | 31, _, _ => 266
  | 32, _, _ => 270
  | 33, _, _ => 271
  | 40, _, _ => 272
  | 41, _, _ => 273
  | 42, _, _ => 274
  | 43, _, _ => 275
  | 44, _, _ => 276
  | 45, _, _ => 277
  | 46, _, _ => 278
  | 47, _, _ => 279
  | 48, _, _ => 280
  | 49, _, _ => 281
  | 50, _, _ => 282
  | 51, _, _ => 283
  | 52, _, _ => 284
  | _, _, _ => 1000
def ad (G : GC) (t : Nat) (v i : Int) : Nat := if 60 ≤ t then G.2.2.2.1 t else G.1 + ix t v i
abbrev vclasses : List vw_C := [(RX0, TX0, 3), (RX1, TX1, 6), (RX2, TX2, 7), (RX3, TX3, 2), (RX4, TX4, 3), (RX5, TX5, 7), (RX6, TX6, 5), (RX7, TX7, 8), (RX8, TX8, 4), (RX9, TX9, 12), (RX10, TX10, 20)]
/-- what a cell is, by its tag and its row of numbers -/
def cellF (G : GC) : Nat → Int → Int → (Int → Int) → va_E
  | 0, _, _, f => .inr (9, [.ref (ad G 14 0 0), .ref (ad G 1 0 0), .ref (ad G 1 1 0), .ref (ad G 1 2 0), .int (Int32.ofInt (f 4)), .ref (ad G 17 0 0), .ref (ad G 20 0 0), .ref (ad G 23 0 0), .ref (ad G 29 0 0), .ref (ad G 32 0 0), .int (Int32.ofInt (f 10)), .ref (ad G 33 0 0)])
  | 1, v, _, f => .inr (7, [.int (Int32.ofInt (f 0)), .int (Int32.ofInt (f 1)), .int (Int32.ofInt (f 2)), .ref (ad G 2 v 0), .ref (ad G 4 v 0), .ref (ad G 6 v 0), .ref (ad G 7 v 0), .ref (ad G 8 v 0)])
  | 2, v, _, _ => .inl (G.2.2.1 3, 6, .inr (.inr (.inr (.inr (fun j => some (ad G 3 v j))))))
  | 3, _, _, f => .inl (G.2.2.1 0, 6, .inl (fun j => Int32.ofInt (f j)))
  | 4, v, _, _ => .inl (G.2.2.1 3, 6, .inr (.inr (.inr (.inr (fun j => some (ad G 5 v j))))))
  | 5, _, _, f => .inl (G.2.2.1 0, 6, .inl (fun j => Int32.ofInt (f j)))
  | 6, v, _, _ => .inl (G.2.2.1 4, 6, .inr (.inr (.inr (.inr (fun j => some (ad G 9 v j))))))
  | 7, v, _, _ => .inl (G.2.2.1 5, 6, .inr (.inr (.inr (.inr (fun j => some (ad G 11 v j))))))
  | 8, v, _, _ => .inl (G.2.2.1 6, 24, .inr (.inr (.inr (.inr (fun j => some (ad G 13 v j))))))
  | 9, v, i, f => .inr (3, [.ref (ad G 10 v i), .int (Int32.ofInt (f 1))])
  | 10, _, _, f => .inl (G.2.2.1 0, 3, .inl (fun j => Int32.ofInt (f j)))
  | 11, v, i, f => .inr (8, [.int (Int32.ofInt (f 0)), .int (Int32.ofInt (f 1)), .ref (ad G 12 v i), .int (Int32.ofInt (f 3))])
  | 12, _, _, f => .inl (G.2.2.1 0, 3, .inl (fun j => Int32.ofInt (f j)))
  | 13, _, _, f => .inr (2, [.int (Int32.ofInt (f 0)), .int (Int32.ofInt (f 1)), .int (Int32.ofInt (f 2)), .int (Int32.ofInt (f 3)), .int (Int32.ofInt (f 4)), .int (Int32.ofInt (f 5)), .int (Int32.ofInt (f 6))])
  | 14, _, _, f => .inr (6, [.ref (ad G 15 0 0), .int (Int32.ofInt (f 1)), .int (Int32.ofInt (f 2)), .ref (ad G 16 0 0), .int (Int32.ofInt (f 4))])
  | 15, _, _, f => .inl (G.2.2.1 0, 64, .inl (fun j => Int32.ofInt (f j)))
  | 16, _, _, f => .inl (G.2.2.1 0, 6, .inl (fun j => Int32.ofInt (f j)))
  | 17, v, _, f => .inr (1, [.int (Int32.ofInt (f 0)), .ref (ad G 18 v 0), .ref (ad G 19 v 0), .int (Int32.ofInt (f 3)), .int (Int32.ofInt (f 4)), .int (Int32.ofInt (f 5))])
  | 18, _, _, f => .inl (G.2.2.1 0, 3, .inl (fun j => Int32.ofInt (f j)))
  | 19, _, _, f => .inl (G.2.2.1 0, 3, .inl (fun j => Int32.ofInt (f j)))
  | 20, _, _, f => .inr (4, [.ref (ad G 21 0 0), .ref (ad G 17 1 0), .ref (ad G 17 2 0)])
  | 21, _, _, _ => .inl (G.2.2.1 3, 6, .inr (.inr (.inr (.inr (fun j => some (ad G 22 0 j))))))
  | 22, _, _, f => .inl (G.2.2.1 0, 6, .inl (fun j => Int32.ofInt (f j)))
  | 23, _, _, f => .inr (5, [.ref (ad G 24 0 0), .int (Int32.ofInt (f 1)), .ref (ad G 26 0 0), .ref (ad G 28 0 0), .ref (ad G 17 3 0), .int (Int32.ofInt (f 5)), .int (Int32.ofInt (f 6))])
  | 24, _, _, _ => .inl (G.2.2.1 3, 35, .inr (.inr (.inr (.inr (fun j => some (ad G 25 0 j))))))
  | 25, _, _, f => .inl (G.2.2.1 0, 3, .inl (fun j => Int32.ofInt (f j)))
  | 26, _, _, _ => .inl (G.2.2.1 3, 3, .inr (.inr (.inr (.inr (fun j => some (ad G 27 0 j))))))
  | 27, _, _, f => .inl (G.2.2.1 0, 125, .inl (fun j => Int32.ofInt (f j)))
  | 28, _, _, f => .inl (G.2.2.1 0, 3, .inl (fun j => Int32.ofInt (f j)))
  | 29, _, _, f => .inr (0, [.ref (ad G 30 0 0), .ref (ad G 31 0 0), .ref (ad G 17 4 0)])
  | 30, _, _, f => .inl (G.2.2.1 1, 64, .inl (fun j => Int32.ofInt (f j)))
  | 31, _, _, f => .inl (G.2.2.1 1, 64, .inl (fun j => Int32.ofInt (f j)))
  | 32, _, _, f => .inl (G.2.2.1 0, 12, .inl (fun j => Int32.ofInt (f j)))
  | 33, _, _, f => .inl (G.2.2.1 0, 7, .inl (fun j => Int32.ofInt (f j)))
  | 40, _, _, f => .inr (10, [.ref (ad G 41 0 0), .ref (ad G 42 0 0), .ref (ad G 43 0 0), .ref (ad G 44 0 0), .int (Int32.ofInt (f 4)), .ref (ad G 45 0 0), .ref (ad G 46 0 0), .int (Int32.ofInt (f 7)), .int (Int32.ofInt (f 8)), .ref (ad G 47 0 0), .ref (ad G 48 0 0), .int (Int32.ofInt (f 11)), .int (Int32.ofInt (f 12)), .int (Int32.ofInt (f 13)), .ref (ad G 49 0 0), .ref (ad G 50 0 0), .ref (ad G 51 0 0), .int (Int32.ofInt (f 17)), .ref (ad G 52 0 0), .int (Int32.ofInt (f 19))])
  | 41, _, _, f => .inl (G.2.2.1 0, 7, .inl (fun j => Int32.ofInt (f j)))
  | 42, _, _, f => .inl (G.2.2.1 0, 267, .inl (fun j => Int32.ofInt (f j)))
  | 43, _, _, f => .inl (G.2.2.1 0, 267, .inl (fun j => Int32.ofInt (f j)))
  | 44, _, _, f => .inl (G.2.2.1 0, 267, .inl (fun j => Int32.ofInt (f j)))
  | 45, _, _, f => .inl (G.2.2.1 0, 64, .inl (fun j => Int32.ofInt (f j)))
  | 46, _, _, f => .inl (G.2.2.1 0, 6, .inl (fun j => Int32.ofInt (f j)))
  | 47, _, _, f => .inl (G.2.2.1 0, 36, .inl (fun j => Int32.ofInt (f j)))
  | 48, _, _, f => .inl (G.2.2.1 0, 3, .inl (fun j => Int32.ofInt (f j)))
  | 49, _, _, f => .inl (G.2.2.1 0, 36, .inl (fun j => Int32.ofInt (f j)))
  | 50, _, _, f => .inl (G.2.2.1 0, 3, .inl (fun j => Int32.ofInt (f j)))
  | 51, _, _, f => .inl (G.2.2.1 0, 36, .inl (fun j => Int32.ofInt (f j)))
  | 52, _, _, f => .inl (G.2.2.1 0, 12, .inl (fun j => Int32.ofInt (f j)))
  | _, _, _, _ => .inr (0, [])
def vok (t : Nat) (v i : Int) : Prop := cellsL[ix t v i]? = some (t, v, i)
def cn : HV → Prop
  | .inl x => inR x
  | .inr (.inl x) => inL x
  | .inr (.inr (.inl (t, v, i))) => 60 ≤ t ∨ vok t v i
  | .inr (.inr (.inr _)) => True
def tv (G : GC) : HV → Value
  | .inl x => .int (Int32.ofInt x)
  | .inr (.inl x) => .long (Int64.ofInt x)
  | .inr (.inr (.inl (t, v, i))) => .ref (ad G t v i)
  | .inr (.inr (.inr _)) => .null
theorem cells_ok : (List.range 286).all (fun j => match cellsL[j]? with
    | some q => decide (ix q.1 q.2.1 q.2.2 = j) && decide (q.1 < 60) && decide (j < 285)
    | none => decide (j = 285)) = true := by decide +kernel
theorem cells_len : cellsL.length = 285 := by decide +kernel
theorem cells_at {j : Nat} {q : Nat × Int × Int} (h : cellsL[j]? = some q) : ix q.1 q.2.1 q.2.2 = j ∧ q.1 < 60 ∧ j < 285 := by
  have hj : j < 285 := by
    have := (List.getElem?_eq_some_iff.mp h).1
    rwa [cells_len] at this
  have h1 := List.all_eq_true.mp cells_ok j (List.mem_range.mpr (by omega))
  rw [h] at h1
  simp only [Bool.and_eq_true, decide_eq_true_eq] at h1
  exact ⟨h1.1.1, h1.1.2, h1.2⟩
theorem vok_mem {t : Nat} {v i : Int} (h : vok t v i) : (t, v, i) ∈ cellsL := List.mem_of_getElem? h
theorem vok_ad {G : GC} {t : Nat} {v i : Int} (h : vok t v i) : ad G t v i = G.1 + ix t v i ∧ ix t v i < 285 := by
  obtain ⟨-, h2, h3⟩ := cells_at h
  refine ⟨?_, h3⟩
  unfold ad
  rw [if_neg (by omega)]
theorem vok_of {t : Nat} {v i : Int} (h : cn (vr t v i)) (ht : t < 60) : vok t v i := by
  have h1 : 60 ≤ t ∨ vok t v i := h
  exact h1.resolve_left (by omega)
theorem clo {t : Nat} {v i : Int} (P : Int → Int → Prop) (ht : t < 60) (hP : ∀ q ∈ cellsL, q.1 = t → P q.2.1 q.2.2) (h : cn (vr t v i)) : P v i := by
  have h1 : 60 ≤ t ∨ vok t v i := h
  rcases h1 with h1 | h1
  · omega
  · exact hP _ (vok_mem h1) rfl
/-- f with x at k -/
def st1 (f : Int → Int) (k x : Int) : Int → Int := fun j => if j = k then x else f j
theorem st1_eq (f : Int → Int) (k x : Int) : st1 f k x k = x := if_pos rfl
theorem st1_ne {f : Int → Int} {k x j : Int} (h : j ≠ k) : st1 f k x j = f j := if_neg h
/-- the memory with another row at one cell -/
def upr (m : HM) (t : Nat) (v i : Int) (f : Int → Int) : HM := fun t' v' i' => if t' = t ∧ v' = v ∧ i' = i then f else m t' v' i'
theorem upr_eq (m : HM) (t : Nat) (v i : Int) (f : Int → Int) : upr m t v i f t v i = f := if_pos ⟨rfl, rfl, rfl⟩
theorem upr_ne {m : HM} {t t' : Nat} {v i v' i' : Int} {f : Int → Int} (h : ¬ (t' = t ∧ v' = v ∧ i' = i)) : upr m t v i f t' v' i' = m t' v' i' := if_neg h
theorem upr_tag {m : HM} {t t' : Nat} {v i v' i' : Int} {f : Int → Int} (h : t' ≠ t) : upr m t v i f t' v' i' = m t' v' i' := if_neg (fun q => h q.1)
def Rng (m : HM) : Prop := ∀ t v i k, inR (m t v i k)
theorem Rng.up {m : HM} (h : Rng m) {t : Nat} {v i k x : Int} (hx : inR x) : Rng (upr m t v i (st1 (m t v i) k x)) := by
  intro t' v' i' k'
  unfold upr
  split
  · unfold st1
    split
    · exact hx
    · exact h _ _ _ _
  · exact h _ _ _ _
def allc (G : GC) (m : HM) : va_W := cellsL.map (fun q => (ad G q.1 q.2.1 q.2.2, cellF G q.1 q.2.1 q.2.2 (m q.1 q.2.1 q.2.2)))
theorem allc_get {G : GC} {m : HM} {t : Nat} {v i : Int} (h : vok t v i) : (allc G m)[ix t v i]? = some (ad G t v i, cellF G t v i (m t v i)) := by
  unfold allc
  rw [List.getElem?_map, h]
  rfl
def fr (G : GC) (q : Nat) : Prop := G.1 ≤ q ∧ q < G.1 + 285
theorem allc_D (G : GC) (m : HM) : va_D (fr G) (allc G m) := by
  have key : ∀ (k : Nat) (p : Nat × va_E), (allc G m)[k]? = some p → p.1 = G.1 + k ∧ k < 285 := by
    intro k p h
    unfold allc at h
    rw [List.getElem?_map] at h
    cases hc : cellsL[k]? with
    | none => rw [hc] at h; cases h
    | some q =>
      rw [hc] at h
      cases h
      obtain ⟨h1, h2, h3⟩ := cells_at hc
      refine ⟨?_, h3⟩
      show ad G q.1 q.2.1 q.2.2 = _
      unfold ad
      rw [if_neg (by omega), h1]
  refine ⟨fun i j p q hi hj e => ?_, fun k q hk => ?_⟩
  · have h1 := (key i p hi).1
    have h2 := (key j q hj).1
    omega
  · obtain ⟨h1, h2⟩ := key k q hk
    show G.1 ≤ q.1 ∧ q.1 < G.1 + 285
    omega
theorem allc_set {G : GC} {m : HM} {t : Nat} {v i : Int} {f : Int → Int} (h : vok t v i) : (allc G m).set (ix t v i) (ad G t v i, cellF G t v i f) = allc G (upr m t v i f) := by
  apply List.ext_getElem?
  intro j
  by_cases hj : j = ix t v i
  · subst hj
    have hl : ix t v i < (allc G m).length := (List.getElem?_eq_some_iff.mp (allc_get (G := G) (m := m) h)).1
    rw [List.getElem?_set_self hl, allc_get h, upr_eq]
  · rw [List.getElem?_set_ne (Ne.symm hj)]
    unfold allc
    rw [List.getElem?_map, List.getElem?_map]
    cases hc : cellsL[j]? with
    | none => rfl
    | some q =>
      obtain ⟨h1, -, -⟩ := cells_at hc
      show some _ = some _
      dsimp only
      rw [upr_ne]
      rintro ⟨e1, e2, e3⟩
      apply hj
      rw [← h1, e1, e2, e3]
def lw_g : List Cond := lw_tbl.filter goodWord
theorem mem_g {w : Cond} (h : w ∈ lw_tbl) (hg : goodWord w = true) : w ∈ lw_g := List.mem_filter.mpr ⟨h, hg⟩
theorem good_g {ws : List Cond} (h : ∀ w ∈ ws, w ∈ lw_tbl) (hg : ws.all goodWord = true) : ∀ w ∈ ws, w ∈ lw_g := fun w hw => mem_g (h w hw) (List.all_eq_true.mp hg w hw)
def tysG (G : GC) : List (ClassId × FieldType) := [(G.2.2.1 0, .int), (G.2.2.1 1, .boolean), (G.2.2.1 2, .char), (G.2.2.1 3, .array .int), (G.2.2.1 4, .object RX3), (G.2.2.1 5, .object RX8), (G.2.2.1 6, .object RX2)]
def Tabs (G : GC) (U : State) : Prop := va_K G.2.1 vclasses (tysG G) U
def klf (j : Nat) : Int := [112, 119, 108, 116, 115, 104].getD j 0
def lgf (j : Nat) : Int := [1, 12, 8, 1, 1, 8].getD j 0
def nestW : Cond := .methodLinkNest RX1 52 yX9_commonDivisor RX9
def Spc (G : GC) (U : State) (H : Heap) : Prop :=
  va_Z RX6 "KIND_LETTERS" "[C" (.ref (G.2.2.2.1 60)) (fr G) U H ∧ va_Z RX1 "LEAST_TO_GIVE" "[I" (.ref (G.2.2.2.1 61)) (fr G) U H ∧
  va_T .char (G.2.2.2.1 60) 6 (fun j => .int (Int32.ofInt (klf j))) (fr G) U H ∧ va_T .int (G.2.2.2.1 61) 6 (fun j => .int (Int32.ofInt (lgf j))) (fr G) U H ∧ va_Nw nestW U
theorem Spc.moved {G : GC} {u U : State} {H : Heap} (hvm : u.vm.Alike U.vm) (hn : va_Nw nestW u → va_Nw nestW U) (h : Spc G u H) : Spc G U H := ⟨h.1.moved hvm, h.2.1.moved hvm, h.2.2.1.moved hvm, h.2.2.2.1.moved hvm, hn h.2.2.2.2⟩
theorem Spc.kept {G : GC} {U : State} {H H1 : Heap} (h : Spc G U H) (hq : ∀ a : Nat, a < H.size → ¬ fr G a → H1[a]? = H[a]?) : Spc G U H1 := ⟨h.1.kept hq, h.2.1.kept hq, h.2.2.1.kept hq, h.2.2.2.1.kept hq, h.2.2.2.2⟩
def Holds (G : GC) (m : HM) (H : Heap) : Prop := va_P G.2.1 vclasses (allc G m) H
def World (G : GC) (m : HM) (U : State) : Prop := Holds G m U.heap ∧ Tabs G U ∧ Spc G U U.heap
/-! ===== the judgement ===== -/
abbrev JX : Type := Program × Launch × Env × Room × State × MethodId × Array Value × List Frame × Method × Code × Nat × Nat × (State → Prop) × Heap
/-- the locals' list -/
def lp (G : GC) : Nat → List HV → List (Nat × Value)
  | _, [] => []
  | k, .inl x :: r => (k, tv G (.inl x)) :: lp G (k + 1) r
  | k, .inr (.inl x) :: r => (k, tv G (.inr (.inl x))) :: lp G (k + 1) r
  | k, .inr (.inr (.inl x)) :: r => (k, tv G (.inr (.inr (.inl x)))) :: lp G (k + 1) r
  | k, .inr (.inr (.inr _)) :: r => lp G (k + 1) r
theorem lp_mem {G : GC} {q : Nat × Value} : ∀ {L : List HV} {k : Nat}, q ∈ lp G k L ↔ ∃ (j : Nat) (w : HV), L[j]? = some w ∧ w ≠ vx ∧ q = (k + j, tv G w) := by
  intro L
  induction L with
  | nil => intro k; simp [lp]
  | cons a r ih =>
    intro k
    have tail : (q ∈ lp G (k + 1) r) ↔ ∃ (j : Nat) (w : HV), (a :: r)[j + 1]? = some w ∧ w ≠ vx ∧ q = (k + (j + 1), tv G w) := by
      rw [ih]
      constructor
      · rintro ⟨j, w, h1, h2, h3⟩
        exact ⟨j, w, by simpa using h1, h2, by rw [h3]; congr 1; omega⟩
      · rintro ⟨j, w, h1, h2, h3⟩
        exact ⟨j, w, by simpa using h1, h2, by rw [h3]; congr 1; omega⟩
    have split : (∃ (j : Nat) (w : HV), (a :: r)[j]? = some w ∧ w ≠ vx ∧ q = (k + j, tv G w)) ↔ ((a ≠ vx ∧ q = (k, tv G a)) ∨ ∃ (j : Nat) (w : HV), (a :: r)[j + 1]? = some w ∧ w ≠ vx ∧ q = (k + (j + 1), tv G w)) := by
      constructor
      · rintro ⟨j, w, h1, h2, h3⟩
        cases j with
        | zero =>
          simp at h1
          subst h1
          exact Or.inl ⟨h2, h3⟩
        | succ j => exact Or.inr ⟨j, w, h1, h2, h3⟩
      · rintro (⟨h2, h3⟩ | ⟨j, w, h1, h2, h3⟩)
        · exact ⟨0, a, by simp, h2, h3⟩
        · exact ⟨j + 1, w, h1, h2, h3⟩
    rw [split, ← tail]
    rcases a with x | x | x | x
    · simp [lp, vx]
    · simp [lp, vx]
    · simp [lp, vx]
    · simp [lp, vx]
def Lh (G : GC) (ls : Array Slot) (L : List HV) : Prop := lv_has ls L.length (lp G 0 L)
theorem Lh.at {G : GC} {ls : Array Slot} {L : List HV} (h : Lh G ls L) {i : Nat} {w : HV} (hi : L[i]? = some w) (hw : w ≠ vx) : ls[i]? = some (.val (tv G w)) := by
  have := h.2.2 (i, tv G w) (lp_mem.mpr ⟨i, w, hi, hw, by simp⟩)
  exact this
def notl : HV → Bool
  | .inr (.inl _) => false
  | _ => true
theorem tv_cat {G : GC} {w : HV} (h : notl w = true) : (tv G w).category = 1 := by
  rcases w with x | x | x | x
  · rfl
  · cases h
  · rfl
  · rfl
theorem lp_set1 {G : GC} {L : List HV} {i : Nat} {w : HV} (hw : w ≠ vx) (hi : i < L.length) (hp : ∀ j a, j + 1 = i → L[j]? = some a → notl a = true) : ∀ q ∈ lp G 0 (L.set i w), q ∈ (i, tv G w) :: (lp G 0 L).filter (fun q => !(q.1 == i) && !(q.1 + 1 == i && q.2.category == 2)) := by
  intro q hq
  obtain ⟨j, a, h1, h2, rfl⟩ := lp_mem.mp hq
  by_cases hj : j = i
  · subst hj
    rw [List.getElem?_set_self hi] at h1
    cases h1
    simp
  · rw [List.getElem?_set_ne (Ne.symm hj)] at h1
    refine List.mem_cons_of_mem _ (List.mem_filter.mpr ⟨lp_mem.mpr ⟨j, a, h1, h2, rfl⟩, ?_⟩)
    by_cases hj1 : j + 1 = i
    · have hc := tv_cat (G := G) (hp j a hj1 h1)
      simp [hc, hj]
    · simp [hj, hj1]
theorem lp_set2 {G : GC} {L : List HV} {i : Nat} {x : Int} (hi : i + 1 < L.length) (hp : ∀ j a, j + 1 = i → L[j]? = some a → notl a = true) : ∀ q ∈ lp G 0 ((L.set i (vl x)).set (i + 1) vx), q ∈ (i, tv G (vl x)) :: (lp G 0 L).filter (fun q => !(q.1 == i) && (!(q.1 == i + 1) && !(q.1 + 1 == i && q.2.category == 2))) := by
  intro q hq
  obtain ⟨j, a, h1, h2, rfl⟩ := lp_mem.mp hq
  by_cases hj2 : j = i + 1
  · subst hj2
    rw [List.getElem?_set_self (by rw [List.length_set]; exact hi)] at h1
    cases h1
    exact absurd rfl h2
  · rw [List.getElem?_set_ne (Ne.symm hj2)] at h1
    by_cases hj : j = i
    · subst hj
      rw [List.getElem?_set_self (by omega)] at h1
      cases h1
      simp
    · rw [List.getElem?_set_ne (Ne.symm hj)] at h1
      refine List.mem_cons_of_mem _ (List.mem_filter.mpr ⟨lp_mem.mpr ⟨j, a, h1, h2, rfl⟩, ?_⟩)
      by_cases hj1 : j + 1 = i
      · have hc := tv_cat (G := G) (hp j a hj1 h1)
        simp [hc, hj, hj2]
      · simp [hj, hj1, hj2]
def cnL (L : List HV) : Prop := ∀ w ∈ L, cn w
theorem cnL.cons {a : HV} {L : List HV} (h : cn a) (hL : cnL L) : cnL (a :: L) := by
  intro w hw
  rcases List.mem_cons.mp hw with rfl | h1
  · exact h
  · exact hL w h1
theorem cnL.consI {x : Int} {L : List HV} (hL : cnL L) (h : inR x) : cnL (vi x :: L) := cnL.cons (a := vi x) h hL
theorem cnL.consL {x : Int} {L : List HV} (hL : cnL L) (h : inL x) : cnL (vl x :: L) := cnL.cons (a := vl x) h hL
theorem cnL.hd {a : HV} {L : List HV} (h : cnL (a :: L)) : cn a := h a List.mem_cons_self
theorem cnL.tl {a : HV} {L : List HV} (h : cnL (a :: L)) : cnL L := fun w hw => h w (List.mem_cons_of_mem _ hw)
theorem cnL.at {L : List HV} (h : cnL L) {i : Nat} {w : HV} (hi : L[i]? = some w) : cn w := h w (List.mem_of_getElem? hi)
theorem cnL.set {L : List HV} (h : cnL L) {i : Nat} {w : HV} (hw : cn w) : cnL (L.set i w) := by
  intro a ha
  rcases List.mem_or_eq_of_mem_set ha with h1 | rfl
  · exact h a h1
  · exact hw
def J (G : GC) (X : JX) (pc : Nat) (L S : List HV) (m : HM) : Prop := match X with
  | (p, l, e, R, s, mi, args, below, meth, c, cells, slots, Q, H0) =>
    cnL L → cnL S → Rng m → ∀ (H : Heap) (locs : List Loc) (ls : Array Slot), Holds G m H → va_S (fr G) H0 H locs → Lh G ls L →
      W p l e R s mi args below meth c H locs cells slots Q (F0 mi pc ls (S.map (tv G)))
def JOk (G : GC) (X : JX) (cc : ByteArray) (own : String) (nL d : Nat) : Prop := match X with
  | (p, l, e, R, s, mi, args, below, meth, c, cells, slots, Q, H0) =>
    p.tables.exec = Jvm.exec ∧ c.code = cc ∧ c.maxLocals = nL ∧ s.vm.findClass own = some mi.cls ∧ (∀ w ∈ lw_g, w.before args s = true) ∧ Tabs G s ∧ Spc G s H0 ∧ G.2.2.2.2.2 = l ∧ d ≤ R.frames ∧ 64 * d ≤ R.locals ∧ cells ≤ R.cells ∧ slots ≤ R.slots
def rmH (d : Nat) : Room := { frames := d, cells := 0, slots := 0, locals := 64 * d }
/-- a method's end -/
def Qm (G : GC) (Post : Option HV → HM → Prop) : Array Value → State → Outcome → State → Prop := fun _ st o t =>
  (∃ (r : Option HV) (m : HM), o = .returned (r.map (tv G)) ∧ Post r m ∧ (∀ w, r = some w → cn w) ∧ Rng m ∧ Holds G m t.heap) ∧ va_F (fr G) st t
def JRt (G : GC) (X : JX) (Post : Option HV → HM → Prop) (rt : Option FieldType) : Prop := match X with
  | (p, l, e, R, s, mi, args, below, meth, c, cells, slots, Q, H0) => Q = MQ below (Qm G Post) args s cells slots (fr G) ∧ H0 = s.heap ∧ meth.sig.returnType = rt ∧ meth.locks = false
/-- a method's contract: from this memory, with these arguments, it ends with Post -/
def Cn (G : GC) (y : MethodName) (cc : ByteArray) (nL : Nat) (rt : Option FieldType) (d : Nat) (args : List HV) (m : HM) (Post : Option HV → HM → Prop) : Prop :=
  cnL args → Rng m → Met G.2.2.2.2.2 y (.code y cc nL rt :: lw_g) (rmH d) (va_Pc (args.map (tv G)) (World G m)) (Qm G Post) 0 0 (fr G)
theorem Cn.mono {G : GC} {y : MethodName} {cc : ByteArray} {nL : Nat} {rt : Option FieldType} {d : Nat} {args : List HV} {m : HM} {P Q : Option HV → HM → Prop} (hPQ : ∀ r m', P r m' → Q r m') (h : Cn G y cc nL rt d args m P) : Cn G y cc nL rt d args m Q := by
  intro h1 h2
  have H := h h1 h2
  unfold Met at H ⊢
  intro p e ha hc hk s mi args0 below hf hsp hP hK
  obtain ⟨n, o, a1, a2, a3, ⟨⟨⟨r, m', b1, b2, b3, b4, b5⟩, b6⟩, b7⟩⟩ := H p e ha hc hk s mi args0 below hf hsp hP hK
  exact ⟨n, o, a1, a2, a3, ⟨⟨r, m', b1, hPQ _ _ b2, b3, b4, b5⟩, b6⟩, b7⟩
theorem Cn.of {G : GC} {y : MethodName} {cc : ByteArray} {nL : Nat} {rt : Option FieldType} {d : Nat} {args : List HV} {m : HM} {Post : Option HV → HM → Prop} {own : String} (L : List HV) (hy : plainName y.cls = true) (hcl : y.cls = own)
    (hlen : L.length = nL) (hsz : (lg_sl (args.map (tv G))).length ≤ nL) (hL : lp G 0 L = lv_args 0 (args.map (tv G))) (hcn : cnL args → cnL L)
    (body : ∀ X : JX, JOk G X cc own nL d → JRt G X Post rt → Rng m → cnL args → J G X 0 L [] m) : Cn G y cc nL rt d args m Post := by
  intro hca hrng
  refine Met.ofW (cc := cc) (maxL := nL) (ret := rt) hy rfl ?_
  intro p e s mi a0 below meth c s₁ B hml hv
  obtain ⟨rfl, hH, hT, hS⟩ := hv
  have hts0 := atoms_spec (ws := .code y cc nL rt :: lw_g) B.pre
  have hts : ∀ w ∈ lw_g, w.before (args.map (tv G)).toArray s = true := fun w hw => hts0 w (List.mem_cons_of_mem _ hw)
  have hown : s.vm.findClass own = some mi.cls := hcl ▸ findClass_of_methodNamed B.named
  have K := body (p, G.2.2.2.2.2, e, rmH d, s, mi, (args.map (tv G)).toArray, below, meth, c, 0, 0, MQ below (Qm G Post) (args.map (tv G)).toArray s 0 0 (fr G), s.heap)
    ⟨B.exec, B.bytes, hml, hown, hts, hT, hS, rfl, Nat.le_refl _, Nat.le_refl _, Nat.zero_le _, Nat.zero_le _⟩ ⟨rfl, rfl, B.returns, B.notSynchronized⟩ hrng hca
  have hl := lv_entry (args.map (tv G)) (n := nL) hsz
  rw [lg_entry_eq]
  exact K (hcn hca) (fun w h => by cases h) hrng s.heap [] _ hH va_S.rf (by unfold Lh; rw [hlen, hL]; exact hl)
/-! ===== rows ===== -/
theorem rI_toInt {x : Int} (h : inR x) : (Int32.ofInt x).toInt = x := Int32.toInt_ofInt_of_le (by omega) (by omega)
theorem rL_toInt {x : Int} (h : inL x) : (Int64.ofInt x).toInt = x := Int64.toInt_ofInt_of_le (by omega) (by omega)
theorem rI_lt {x y : Int} (hx : inR x) (hy : inR y) : Int32.ofInt x < Int32.ofInt y ↔ x < y := by rw [Int32.lt_iff_toInt_lt, rI_toInt hx, rI_toInt hy]
theorem rI_le {x y : Int} (hx : inR x) (hy : inR y) : Int32.ofInt x ≤ Int32.ofInt y ↔ x ≤ y := by rw [Int32.le_iff_toInt_le, rI_toInt hx, rI_toInt hy]
theorem rI_eq {x y : Int} (hx : inR x) (hy : inR y) : Int32.ofInt x = Int32.ofInt y ↔ x = y := by rw [← Int32.toInt_inj, rI_toInt hx, rI_toInt hy]
theorem rI_0 : Int32.ofInt 0 = 0 := rfl
theorem rL_0 : Int64.ofInt 0 = 0 := rfl
theorem rI_clamp {x : Int} (h : inR x) (h0 : 0 ≤ x) : (Int32.ofInt x).toNatClampNeg = x.toNat := by
  show (Int32.ofInt x).toInt.toNat = _
  rw [rI_toInt h]
theorem rI_in {x : Int} {n : Nat} (h : inR x) (h0 : 0 ≤ x) (hn : x < n) : vp_in (Int32.ofInt x) n := by
  unfold vp_in
  rw [rI_clamp h h0]
  rintro (h1 | h1)
  · rw [← rI_0, rI_lt h (by decide)] at h1
    omega
  · omega
theorem rI_tdiv {x y : Int} (hx : inR x) (hy : inR y) (hr : inR (x.tdiv y)) : Int32.ofInt x / Int32.ofInt y = Int32.ofInt (x.tdiv y) := by
  apply Int32.toInt_inj.mp
  rw [Int32.toInt_div, rI_toInt hx, rI_toInt hy, rI_toInt hr]
  exact Int.bmod_eq_of_le (by omega) (by omega)
theorem rL_tdiv {x y : Int} (hx : inL x) (hy : inL y) (hr : inL (x.tdiv y)) : Int64.ofInt x / Int64.ofInt y = Int64.ofInt (x.tdiv y) := by
  apply Int64.toInt_inj.mp
  rw [Int64.toInt_div, rL_toInt hx, rL_toInt hy, rL_toInt hr]
  exact Int.bmod_eq_of_le (by omega) (by omega)
theorem tmod_rng {x y lo hi : Int} (h1 : lo ≤ x) (h2 : x ≤ hi) (h3 : lo ≤ 0) (h4 : 0 ≤ hi) : lo ≤ x.tmod y ∧ x.tmod y ≤ hi := by
  have h := Int.natAbs_tmod x y
  have h5 : (x.tmod y).natAbs ≤ x.natAbs := by rw [h]; exact Nat.mod_le _ _
  by_cases hx : 0 ≤ x
  · have := Int.tmod_nonneg y hx
    omega
  · have h6 := Int.tmod_nonneg (a := -x) y (by omega)
    rw [Int.neg_tmod] at h6
    omega
theorem rI_tmod {x y : Int} (hx : inR x) (hy : inR y) : Int32.ofInt x - Int32.ofInt x / Int32.ofInt y * Int32.ofInt y = Int32.ofInt (x.tmod y) := by
  apply Int32.toInt_inj.mp
  rw [rem_toInt, rI_toInt hx, rI_toInt hy, rI_toInt]
  exact tmod_rng hx.1 hx.2 (by decide) (by decide)
theorem nar_bool {x : Int} (h : x = 0 ∨ x = 1) : narrow .boolean (.int (Int32.ofInt x)) = .int (Int32.ofInt x) := by
  rcases h with rfl | rfl <;> rfl
theorem fits_bool {x : Int} (h : x = 0 ∨ x = 1) : fits .boolean (.int (Int32.ofInt x)) = true := by
  rcases h with rfl | rfl <;> rfl
