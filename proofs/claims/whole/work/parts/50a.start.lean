/-! ===== 50a: the tables at the law's entry ===== -/
section St
variable {s : State} {args : Array Value} {l : Launch} {b : Nat}
theorem st_classes (hts : ∀ w ∈ lw_tbl, w.before args s = true) : ∃ D : va_G, ∀ (c : Nat) (q : vw_C), vclasses[c]? = some q → u_Kn s q.1 q.2.1 q.2.2 (D.1 c) (D.2 c) := by
  have key : ∀ c : Nat, ∃ (cC : ClassId) (iS : Nat → Nat), ∀ q : vw_C, vclasses[c]? = some q → u_Kn s q.1 q.2.1 q.2.2 cC iS := by
    intro c
    have one : ∀ {C : String} {T : u_T} {N : Nat}, (∀ w ∈ u_ws C T N, w ∈ lw_tbl) → Cond.instantiable C N ∈ lw_tbl → ∀ (hc : vclasses[c]? = some (C, T, N)), ∃ (cC : ClassId) (iS : Nat → Nat), ∀ q : vw_C, vclasses[c]? = some q → u_Kn s q.1 q.2.1 q.2.2 cC iS := by
      intro C T N h1 h2 hc
      obtain ⟨cC, iS, h3⟩ := u_known (ws := lw_tbl) hts h1 (hts _ h2)
      refine ⟨cC, iS, fun q hq => ?_⟩
      obtain rfl : (C, T, N) = q := Option.some.inj (hc.symm.trans hq)
      exact h3
    by_cases h : c < 11
    · have : c = 0 ∨ c = 1 ∨ c = 2 ∨ c = 3 ∨ c = 4 ∨ c = 5 ∨ c = 6 ∨ c = 7 ∨ c = 8 ∨ c = 9 ∨ c = 10 := by omega
      rcases this with rfl | rfl | rfl | rfl | rfl | rfl | rfl | rfl | rfl | rfl | rfl
      · exact one mY_X0 mM_X0 rfl
      · exact one mY_X1 mM_X1 rfl
      · exact one mY_X2 mM_X2 rfl
      · exact one mY_X3 mM_X3 rfl
      · exact one mY_X4 mM_X4 rfl
      · exact one mY_X5 mM_X5 rfl
      · exact one mY_X6 mM_X6 rfl
      · exact one mY_X7 mM_X7 rfl
      · exact one mY_X8 mM_X8 rfl
      · exact one mY_X9 mM_X9 rfl
      · exact one mY_X10 mM_X10 rfl
    · refine ⟨0, fun _ => 0, fun q hq => ?_⟩
      have h1 : c < 11 := (List.getElem?_eq_some_iff.mp hq).1
      exact absurd h1 h
  exact ⟨(fun c => Classical.choose (key c), fun c => Classical.choose (Classical.choose_spec (key c))), fun c q hq => Classical.choose_spec (Classical.choose_spec (key c)) q hq⟩
def TyOk (s : State) (cA : ClassId) (ty : FieldType) : Prop := ArrOfT s cA ty ∧ va_RA s cA ty
theorem ty_prim {ty : FieldType} (hr : ∀ cA, s.vm.findClass ("[" ++ ty.toString) = some cA → va_RA s cA ty) (h : (Cond.arrayClass ty).before args s = true) : ∃ cA, TyOk s cA ty := by
  obtain ⟨cA, kA, comp, h1, h2, h3⟩ := Cond.arrayClass_spec h
  exact ⟨cA, fun n z => ⟨fun k h => (by cases h), kA, h2, comp, h3⟩, hr cA h1⟩
theorem ty_obj {C : String} (h : (Cond.arrayOver (.object C)).before args s = true) : ∃ cA, TyOk s cA (.object C) := by
  obtain ⟨comp, c, k, h1, h2, h3, h4, h5⟩ := Cond.arrayOver_spec h
  exact ⟨c, fun n z => ⟨fun k h => (by cases h), k, h3, comp, h4⟩, k, comp, h3, h4, h1, h5⟩
theorem ty_ii (h : AoI s) : ∃ cA, TyOk s cA (.array .int) := by
  obtain ⟨comp, cA, kA, h1, h2, h3, h4⟩ := h
  exact ⟨cA, fun n z => ⟨fun k h => (by cases h), kA, h2, comp, h3⟩, h4⟩
theorem st_types (hts : ∀ w ∈ lw_tbl, w.before args s = true) : ∃ T : Nat → ClassId, TyOk s (T 0) .int ∧ TyOk s (T 1) .boolean ∧ TyOk s (T 2) .char ∧ TyOk s (T 3) (.array .int) ∧ TyOk s (T 4) (.object RX3) ∧ TyOk s (T 5) (.object RX8) ∧ TyOk s (T 6) (.object RX2) := by
  obtain ⟨c0, h0⟩ := ty_prim (ty := .int) (fun _ h => h) (hts _ mA_int)
  obtain ⟨c1, h1⟩ := ty_prim (ty := .boolean) (fun _ h => h) (hts _ mA_boolean)
  obtain ⟨c2, h2⟩ := ty_prim (ty := .char) (fun _ h => h) (hts _ mA_char)
  obtain ⟨c3, h3⟩ := ty_ii (AoI.of (hts _ mO_ii))
  obtain ⟨c4, h4⟩ := ty_obj (hts _ mO_X3)
  obtain ⟨c5, h5⟩ := ty_obj (hts _ mO_X8)
  obtain ⟨c6, h6⟩ := ty_obj (hts _ mO_X2)
  exact ⟨fun k => match k with | 0 => c0 | 1 => c1 | 2 => c2 | 3 => c3 | 4 => c4 | 5 => c5 | _ => c6, h0, h1, h2, h3, h4, h5, h6⟩
theorem st_tab {C n d : String} {ty : FieldType} {f : Nat → Int} {A : Nat → Prop} (hl : (Cond.laysStatic C n d).before args s = true) (hini : (Cond.initialized C).before args s = true) (harr : (Cond.arrayOf (.static C n d) ty).before args s = true) (hlen : (Cond.eq (.length (.static C n d)) (.int 6)).before args s = true)
    (hel : ∀ j : Nat, j < 6 → (Cond.eq (.elem (.static C n d) (.int (Int32.ofNat j))) (.int (Int32.ofInt (f j)))).before args s = true) (hA : ∀ a : Nat, a < s.heap.size → ¬ A a) : ∃ t : Nat, va_Z C n d (.ref t) A s s.heap ∧ va_T ty t 6 (fun j => .int (Int32.ofInt (f j))) A s s.heap := by
  obtain ⟨t, ht, hT⟩ := va_Tof (f := fun j => .int (Int32.ofInt (f j))) (N := 6) (A := A) (by decide) harr (va_eqt hlen) (fun j hj => va_eqt (hel j hj)) hA
  exact ⟨t, va_Zref hl hini ht hA, hT⟩
end St
