/-! ===== 39c: join and split ===== -/
section Inv
variable {A A' : Int → Int} {C D C' D' i j x y w t : Int}
theorem Inv_join (hI : InvA A C D) (hS : InvS A) (h : rfJoin A i j = 0) (hC : C + 600 ≤ C') (hD : D ≤ D') : InvA (joF A i j) C' D' ∧ InvS (joF A i j) := by
  unfold rfJoin at h
  by_cases q : aIs A i ∧ aIs A j ∧ i ≠ j
  · rw [ifP_pos q] at h
    obtain ⟨hi, hj, hij⟩ := q
    have hq : aP A i 0 = aP A j 0 ∧ aP A i 2 = aP A j 2 := by
      by_cases q2 : aP A i 0 = aP A j 0 ∧ aP A i 2 = aP A j 2
      · exact q2
      · rw [if_neg q2] at h; omega
    have pi' := hI.part hi
    have pj := hI.part hj
    have hi2 : inN i 24 := ⟨hi.1, hi.2.1⟩
    have hj2 : inN j 24 := ⟨hj.1, hj.2.1⟩
    have si := hI.share hi
    have sj := hI.share hj
    have hp := hI.pers hi
    have ho := orI_b (a := aP A i 6) (b := aP A j 6) (by omega) (by omega)
    have e0 : aP (joF A i j) i 0 = aP A i 0 := by unfold joF; rw [aS_ne (by omega), aS_ne (by omega), aS_ne (by omega), aS_ne (by omega), aS_ne (by omega), aS_ne (by omega)]
    have e1 : aP (joF A i j) i 1 = aP A i 1 + aP A j 1 := by unfold joF; rw [aS_ne (by omega), aS_ne (by omega), aS_ne (by omega), aS_ne (by omega), aS_ne (by omega), aS_eq]
    have e2 : aP (joF A i j) i 2 = aP A i 2 := by unfold joF; rw [aS_ne (by omega), aS_ne (by omega), aS_ne (by omega), aS_ne (by omega), aS_ne (by omega), aS_ne (by omega)]
    have e3 : aP (joF A i j) i 3 = -9 := by unfold joF; rw [aS_ne (by omega), aS_eq]
    have e4 : aP (joF A i j) i 4 = max (aP A i 4) (aP A j 4) + 1 := by unfold joF; rw [aS_ne (by omega), aS_ne (by omega), aS_ne (by omega), aS_ne (by omega), aS_eq]
    have e5 : aP (joF A i j) i 5 = max (aP A i 5) (aP A j 5) := by unfold joF; rw [aS_ne (by omega), aS_ne (by omega), aS_ne (by omega), aS_eq]
    have e6 : aP (joF A i j) i 6 = orI (aP A i 6) (aP A j 6) := by unfold joF; rw [aS_ne (by omega), aS_ne (by omega), aS_eq]
    have ej : aP (joF A i j) j 0 = 0 := by unfold joF; rw [aS_eq]
    have hsum : aP A i 1 + aP A j 1 ≤ 12 := by
      have h1 := hS (aP A i 0 - 1) hp
      have h2 := sumI_ge2 (f := twA A (aP A i 0 - 1)) (n := 24) hi2 hj2 hij (fun k hk => (twA_b hI).1)
      have h3 : twA A (aP A i 0 - 1) i = aP A i 1 := by rw [twP_at hi2]; exact twP_is hi.2.2 (by omega)
      have h4 : twA A (aP A i 0 - 1) j = aP A j 1 := by rw [twP_at hj2]; exact twP_is hj.2.2 (by omega)
      have h5 : sumI (twA A (aP A i 0 - 1)) ((24 : Nat) : Int) = sumI (twA A (aP A i 0 - 1)) 24 := rfl
      omega
    refine Inv_2 hI hS (by omega) hD (fun k hk => by unfold joF aS; rw [st1_ne (by omega), st1_ne (by omega), st1_ne (by omega), st1_ne (by omega), st1_ne (by omega), st1_ne (by omega)]) hi2 hj2 hij (fun l k h1 h2 h3 h4 => by unfold joF; rw [aS_ne (by omega), aS_ne (by omega), aS_ne (by omega), aS_ne (by omega), aS_ne (by omega), aS_ne (by omega)]) ?_ (okPt_no ej) (fun p => ?_) ?_
    · unfold okPt
      rw [e0, e1, e2, e3, e4, e5, e6]
      exact ⟨by omega, fun _ => ⟨pi'.1, by omega, pi'.2.2.1, Or.inl rfl, by omega, by omega, by omega⟩⟩
    · rw [twP_no ej]
      by_cases hpp : aP A i 0 = p + 1
      · rw [twP_is (by rw [e0]; exact hi.2.2) (by rw [e0]; exact hpp), e1, twP_is hi.2.2 hpp, twP_is hj.2.2 (by omega)]
        omega
      · rw [twP_ot (by rw [e0]; exact hpp), twP_ot hpp, twP_ot (by omega)]
        omega
    · rw [shPt_no ej, shPt_is (by rw [e0]; exact hi.2.2), e1, shPt_is hi.2.2, shPt_is hj.2.2]
      omega
  · rw [ifP_neg q] at h
    omega
theorem Inv_split (hI : InvA A C D) (hS : InvS A) (h : rfSplit A i t = 0) (hC : C ≤ C') (hD : D ≤ D') : InvA (spF A i t) C' D' ∧ InvS (spF A i t) := by
  unfold rfSplit at h
  by_cases q : aIs A i
  · rw [ifP_pos q] at h
    have hl : spL A i ≤ t ∧ t ≤ aP A i 1 - spL A i := by
      apply Classical.byContradiction
      intro hno
      rw [if_pos (by omega)] at h
      omega
    rw [if_neg (by omega)] at h
    have hn : inN (fpA A (-9)) 24 ∧ ¬ aIs A (fpA A (-9)) := by
      rcases fpA_cases A (-9) with ⟨h1, -⟩ | ⟨h1, h2, -⟩
      · rw [if_pos (by omega)] at h; omega
      · exact ⟨h1, h2⟩
    have hsp : 1 ≤ spL A i := by
      have := (hI.2.2.1 _ (hI.pers q)).1
      exact this
    unfold spF
    generalize fpA A (-9) = n at *
    obtain ⟨hn1, hn2⟩ := hn
    have hin : i ≠ n := fun e => hn2 (e ▸ q)
    have hn0 : aP A n 0 = 0 := by
      have h1 := (hI.pt hn1).1
      apply Classical.byContradiction
      intro h2
      exact hn2 ⟨hn1.1, hn1.2, by omega⟩
    have hp := hI.part q
    have hi2 : inN i 24 := ⟨q.1, q.2.1⟩
    have lo : ∀ l k, inN l 24 → l ≠ n → inN k 7 → aP (lay A (99 + 7 * n) 7 (fun k => aP A i k)) l k = aP A l k := fun l k h1 h2 h3 => lay_out (by omega)
    have li : ∀ k, inN k 7 → aP (lay A (99 + 7 * n) 7 (fun k => aP A i k)) n k = aP A i k := fun k hk => lay_in hk
    generalize hB : lay A (99 + 7 * n) 7 (fun k => aP A i k) = B at *
    have eA : ∀ k, k < 99 → aS (aS (aS B n 1 t) n 3 (-9)) i 1 (aP A i 1 - t) k = A k := fun k hk => by
      unfold aS
      rw [st1_ne (by omega), st1_ne (by omega), st1_ne (by omega), ← hB]
      exact lay_out (by omega)
    have ei : ∀ k, inN k 7 → k ≠ 1 → aP (aS (aS (aS B n 1 t) n 3 (-9)) i 1 (aP A i 1 - t)) i k = aP A i k := fun k hk h1 => by
      rw [aS_ne (by omega), aS_ne (by omega), aS_ne (by omega)]
      exact lo i k hi2 hin hk
    have ei1 : aP (aS (aS (aS B n 1 t) n 3 (-9)) i 1 (aP A i 1 - t)) i 1 = aP A i 1 - t := aS_eq _ _ _ _
    have en : ∀ k, inN k 7 → k ≠ 1 → k ≠ 3 → aP (aS (aS (aS B n 1 t) n 3 (-9)) i 1 (aP A i 1 - t)) n k = aP A i k := fun k hk h1 h3 => by
      rw [aS_ne (by omega), aS_ne (by omega), aS_ne (by omega)]
      exact li k hk
    have en1 : aP (aS (aS (aS B n 1 t) n 3 (-9)) i 1 (aP A i 1 - t)) n 1 = t := by rw [aS_ne (by omega), aS_ne (by omega), aS_eq]
    have en3 : aP (aS (aS (aS B n 1 t) n 3 (-9)) i 1 (aP A i 1 - t)) n 3 = -9 := by rw [aS_ne (by omega), aS_eq]
    have eo : ∀ l k, inN l 24 → l ≠ i → l ≠ n → inN k 7 → aP (aS (aS (aS B n 1 t) n 3 (-9)) i 1 (aP A i 1 - t)) l k = aP A l k := fun l k h1 h2 h3 h4 => by
      rw [aS_ne (by omega), aS_ne (by omega), aS_ne (by omega)]
      exact lo l k h1 h3 h4
    generalize aS (aS (aS B n 1 t) n 3 (-9)) i 1 (aP A i 1 - t) = A' at *
    have hsl : spL A i = aG A (aP A i 0 - 1) 3 := rfl
    have q2 := q.2.2
    refine Inv_2 hI hS hC hD eA hi2 hn1 hin eo ?_ ?_ (fun p => ?_) ?_
    · unfold okPt
      rw [ei 0 (by omega) (by omega), ei1, ei 2 (by omega) (by omega), ei 3 (by omega) (by omega), ei 4 (by omega) (by omega), ei 5 (by omega) (by omega), ei 6 (by omega) (by omega)]
      exact ⟨by omega, fun _ => ⟨hp.1, by omega, hp.2.2.1, hp.2.2.2.1, by omega, by omega, by omega⟩⟩
    · unfold okPt
      rw [en 0 (by omega) (by omega) (by omega), en1, en 2 (by omega) (by omega) (by omega), en3, en 4 (by omega) (by omega) (by omega), en 5 (by omega) (by omega) (by omega), en 6 (by omega) (by omega) (by omega)]
      exact ⟨by omega, fun _ => ⟨hp.1, by omega, hp.2.2.1, Or.inl rfl, by omega, by omega, by omega⟩⟩
    · have f0 := ei 0 (by omega) (by omega)
      have g0 := en 0 (by omega) (by omega) (by omega)
      by_cases hpp : aP A i 0 = p + 1
      · rw [twP_is (f := aP A' i) (by omega) (by omega), twP_is (f := aP A' n) (by omega) (by omega), ei1, en1, twP_is q2 hpp, twP_no hn0]
        omega
      · rw [twP_ot (f := aP A' i) (by omega), twP_ot (f := aP A' n) (by omega), twP_ot hpp, twP_no hn0]
        omega
    · have f0 := ei 0 (by omega) (by omega)
      have g0 := en 0 (by omega) (by omega) (by omega)
      rw [shPt_is (f := aP A' i) (by omega), shPt_is (f := aP A' n) (by omega), ei1, en1, shPt_is q2, shPt_no hn0]
      omega
  · rw [ifP_neg q] at h
    omega
/-! best asks for the persons and works alone -/
theorem few_low {k : Int} (hA : ∀ k, k < 99 → A' k = A k) (h : k < 99) : A' k = A k := hA k h
end Inv
