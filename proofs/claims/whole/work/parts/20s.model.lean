/-! ===== 20s: the reference: what comes with a statement ===== -/
theorem fp_z (A : Int → Int) : (fpA A (-9) = -9 ∧ fpA A (-1) = -1) ∨ (inN (fpA A (-9)) 24 ∧ fpA A (-1) = fpA A (-9)) := by
  rcases fpA_cases A (-9) with ⟨e, h⟩ | ⟨h1, h2, h3⟩
  · rcases fpA_cases A (-1) with ⟨e', h'⟩ | ⟨h1', h2', h3'⟩
    · exact Or.inl ⟨e, e'⟩
    · exact absurd (h _ h1') h2'
  · rcases fpA_cases A (-1) with ⟨e', h'⟩ | ⟨h1', h2', h3'⟩
    · exact absurd (h' _ h1) h2
    · refine Or.inr ⟨h1, ?_⟩
      by_cases q : fpA A (-1) < fpA A (-9)
      · exact absurd (h3 _ h1'.1 q) h2'
      · by_cases q2 : fpA A (-9) < fpA A (-1)
        · exact absurd (h3' _ h1.1 q2) h2
        · omega
def tdP (A : Int → Int) (r : Int) : Prop := (1 ≤ r ∧ r ≤ 6) ∧ (∀ x, usedA A x → x < r) ∧ (r = 1 ∨ usedA A (r - 1))
theorem tdP.ok {A : Int → Int} {r x : Int} (h : tdP A r) (h6 : x ≤ 6) : okPl A x ↔ r ≤ x := by
  constructor
  · intro q
    rcases h.2.2 with e | e
    · have := q.1; omega
    · have := q.2.2 _ e; omega
  · intro q
    exact ⟨by have := h.1; omega, h6, fun y hy => by have := h.2.1 y hy; omega⟩
/-- so far: n is beyond all looked at, and is needed -/
def tdI (A : Int → Int) (P : Int → Prop) (n : Int) : Prop := (1 ≤ n ∧ n ≤ 6) ∧ (∀ x, P x → x < n) ∧ (n = 1 ∨ usedA A (n - 1))
theorem tdI.no {A : Int → Int} {P P' : Int → Prop} {n : Int} (h : tdI A P n) (hp : ∀ x, P' x → P x ∨ x < n) : tdI A P' n := ⟨h.1, fun x hx => (hp x hx).elim (h.2.1 x) id, h.2.2⟩
theorem tdI.up {A : Int → Int} {P P' : Int → Prop} {n y : Int} (h : tdI A P n) (hy : n ≤ y) (hy5 : y ≤ 5) (hu : usedA A y) (hp : ∀ x, P' x → P x ∨ x = y) : tdI A P' (y + 1) := ⟨by have := h.1; omega, fun x hx => (hp x hx).elim (fun q => by have := h.2.1 x q; omega) (fun q => by omega), Or.inr (by rw [Int.add_sub_cancel]; exact hu)⟩
def tP1 (A : Int → Int) (a b x : Int) : Prop := ∃ i j, inN i 6 ∧ inN j 6 ∧ (i < a ∨ (i = a ∧ j < b)) ∧ 0 < aY A i j ∧ x = i
def tP2 (A : Int → Int) (w x : Int) : Prop := tP1 A 6 0 x ∨ ∃ u, inN u w ∧ x = aW A u 1
def tP3 (A : Int → Int) (i x : Int) : Prop := tP2 A (A 2) x ∨ ∃ u, aIs A u ∧ u < i ∧ x = aP A u 2
section Mod
variable {G : GC} {X : JX} {m : HM} {κ p t τ w x y z i k q b h c n a : Int} {A N S g F B W T f : Int → Int} {H C D : Int}
theorem l_told1 {d : HV} (hX : Ok_X10_toldOf G X 2) (hA : m 44 0 0 = A) (hI : InvA A C D) (ha : inN a 6) (K49 : ∀ n b, tdI A (tP1 A (a + 1) 0) n → J G X 49 [vr 40 0 0, vi n, vi a, b] [] m) : ∀ i, 0 ≤ i → i ≤ 6 → ∀ n, tdI A (tP1 A a i) n → J G X 12 [vr 40 0 0, vi n, vi a, vi i] [] m := by
  refine up_to (fun i h1 h2 ih n hn => ?_)
  refine J_iloadN hX rfl rfl dX10_toldOf_12 ?_
  refine J_bipush hX (by decide) dX10_toldOf_13 ?_
  refine J_icmp_ge (tgt := 49) hX (by decide) dX10_toldOf_15 (fun h3 => ?_) (fun h3 => ?_)
  · exact K49 n _ (hn.no (fun x ⟨i', j', q1, q2, q3, q4, q5⟩ => Or.inl ⟨i', j', q1, q2, by omega, q4, q5⟩))
  · have e : m 44 0 0 (3 + 6 * a + i) = aY A a i := by rw [hA]; rfl
    have hn1 := hn.1
    have K43 : ∀ n', tdI A (tP1 A a (i + 1)) n' → J G X 43 [vr 40 0 0, vi n', vi a, vi i] [] m := fun n' hn' => by
      refine sinc_3 hX (fun _ => by omega) dX10_toldOf_43 ?_
      refine J_goto (tgt := 12) hX (by decide) dX10_toldOf_46 ?_
      exact ih h3 n' hn'
    have old : ∀ x, tP1 A a (i + 1) x → tP1 A a i x ∨ (x = a ∧ 0 < aY A a i) := fun x ⟨i', j', q1, q2, q3, q4, q5⟩ => by
      by_cases q : i' = a ∧ j' = i
      · obtain ⟨rfl, rfl⟩ := q
        exact Or.inr ⟨q5, q4⟩
      · exact Or.inl ⟨i', j', q1, q2, by omega, q4, q5⟩
    refine J_aloadN hX rfl rfl dX10_toldOf_18 ?_
    refine G_HalfHereModel_read hX dX10_toldOf_19 mF_X10_19 ?_
    refine J_iconst hX (by decide) dX10_toldOf_22 ?_
    refine J_bipush hX (by decide) dX10_toldOf_23 ?_
    refine J_iloadN hX rfl rfl dX10_toldOf_25 ?_
    refine J_imul hX (fun _ _ => by omega) dX10_toldOf_26 ?_
    refine J_iadd hX (fun _ _ => by omega) dX10_toldOf_27 ?_
    refine J_iloadN hX rfl rfl dX10_toldOf_28 ?_
    refine J_iadd hX (fun _ _ => by omega) dX10_toldOf_29 ?_
    refine L_44 hX (by omega) dX10_toldOf_30 ?_
    rw [e]
    refine J_if_le (tgt := 43) hX (by decide) dX10_toldOf_31 (fun h4 => ?_) (fun h4 => ?_)
    · exact K43 n (hn.no (fun x hx => (old x hx).elim Or.inl (fun q => by have := q.2; omega)))
    · refine J_iloadN hX rfl rfl dX10_toldOf_34 ?_
      refine J_iloadN hX rfl rfl dX10_toldOf_35 ?_
      refine J_icmp_lt (tgt := 43) hX (by decide) dX10_toldOf_36 (fun h5 => ?_) (fun h5 => ?_)
      · exact K43 n (hn.no (fun x hx => (old x hx).elim Or.inl (fun q => Or.inr (by have := q.1; omega))))
      · refine J_iloadN hX rfl rfl dX10_toldOf_39 ?_
        refine J_iconst hX (by decide) dX10_toldOf_40 ?_
        refine J_iadd hX (fun _ _ => by omega) dX10_toldOf_41 ?_
        refine siN_1 hX dX10_toldOf_42 ?_
        exact K43 _ (hn.up (by omega) (by omega) (Or.inl ⟨a, i, ha, ⟨h1, h3⟩, by omega, rfl⟩) (fun x hx => (old x hx).imp id (fun q => q.1)))
theorem l_told2 (hX : Ok_X10_toldOf G X 2) (hA : m 44 0 0 = A) (hI : InvA A C D) (K55 : ∀ n a b, tdI A (tP1 A 6 0) n → J G X 55 [vr 40 0 0, vi n, a, b] [] m) : ∀ a, 0 ≤ a → a ≤ 6 → ∀ n b, tdI A (tP1 A a 0) n → J G X 4 [vr 40 0 0, vi n, vi a, b] [] m := by
  refine up_to (fun a h1 h2 ih n b hn => ?_)
  refine J_iloadN hX rfl rfl dX10_toldOf_4 ?_
  refine J_bipush hX (by decide) dX10_toldOf_5 ?_
  refine J_icmp_ge (tgt := 55) hX (by decide) dX10_toldOf_7 (fun h3 => ?_) (fun h3 => ?_)
  · have e : a = 6 := by omega
    subst e
    exact K55 n _ _ hn
  · refine J_iconst hX (by decide) dX10_toldOf_10 ?_
    refine siN_3 hX dX10_toldOf_11 ?_
    refine l_told1 (d := b) hX hA hI ⟨h1, h3⟩ (fun n b hn => ?_) 0 (by omega) (by omega) n hn
    refine sinc_2 hX (fun _ => by omega) dX10_toldOf_49 ?_
    refine J_goto (tgt := 4) hX (by decide) dX10_toldOf_52 ?_
    exact ih h3 n _ hn
theorem l_told3 (hX : Ok_X10_toldOf G X 2) (hA : m 44 0 0 = A) (hI : InvA A C D) (K108 : ∀ n a b, tdI A (tP2 A (A 2)) n → J G X 108 [vr 40 0 0, vi n, a, b] [] m) : ∀ i, 0 ≤ i → i ≤ A 2 → ∀ n b, tdI A (tP2 A i) n → J G X 57 [vr 40 0 0, vi n, vi i, b] [] m := by
  have h0 := hI.1
  refine up_to (fun i h1 h2 ih n b hn => ?_)
  refine J_iloadN hX rfl rfl dX10_toldOf_57 ?_
  refine J_aloadN hX rfl rfl dX10_toldOf_58 ?_
  refine G_HalfHereModel_read hX dX10_toldOf_59 mF_X10_19 ?_
  refine J_iconst hX (by decide) dX10_toldOf_62 ?_
  refine L_44 hX (by omega) dX10_toldOf_63 ?_
  rw [hA]
  refine J_icmp_ge (tgt := 108) hX (by decide) dX10_toldOf_64 (fun h3 => ?_) (fun h3 => ?_)
  · have e : i = A 2 := by omega
    subst e
    exact K108 n _ _ hn
  · have e : m 44 0 0 (63 + 6 * i + 1) = aW A i 1 := by rw [hA]; rfl
    have hw := (hI.2.2.2.1 i ⟨h1, by omega⟩).2.1
    have hn1 := hn.1
    have K102 : ∀ n', tdI A (tP2 A (i + 1)) n' → J G X 102 [vr 40 0 0, vi n', vi i, b] [] m := fun n' hn' => by
      refine sinc_2 hX (fun _ => by omega) dX10_toldOf_102 ?_
      refine J_goto (tgt := 57) hX (by decide) dX10_toldOf_105 ?_
      exact ih (by omega) n' _ hn'
    have old : ∀ x, tP2 A (i + 1) x → tP2 A i x ∨ x = aW A i 1 := fun x hx => by
      rcases hx with hx | ⟨u, q1, q2⟩
      · exact Or.inl (Or.inl hx)
      · by_cases q : u = i
        · rw [q] at q2; exact Or.inr q2
        · exact Or.inl (Or.inr ⟨u, by omega, q2⟩)
    refine J_aloadN hX rfl rfl dX10_toldOf_67 ?_
    refine G_HalfHereModel_read hX dX10_toldOf_68 mF_X10_19 ?_
    refine J_bipush hX (by decide) dX10_toldOf_71 ?_
    refine J_bipush hX (by decide) dX10_toldOf_73 ?_
    refine J_iloadN hX rfl rfl dX10_toldOf_75 ?_
    refine J_imul hX (fun _ _ => by omega) dX10_toldOf_76 ?_
    refine J_iadd hX (fun _ _ => by omega) dX10_toldOf_77 ?_
    refine J_iconst hX (by decide) dX10_toldOf_78 ?_
    refine J_iadd hX (fun _ _ => by omega) dX10_toldOf_79 ?_
    refine L_44 hX (by omega) dX10_toldOf_80 ?_
    rw [e]
    refine J_iloadN hX rfl rfl dX10_toldOf_81 ?_
    refine J_icmp_lt (tgt := 102) hX (by decide) dX10_toldOf_82 (fun h4 => ?_) (fun h4 => ?_)
    · exact K102 n (hn.no (fun x hx => (old x hx).imp id (fun q => by omega)))
    · refine J_aloadN hX rfl rfl dX10_toldOf_85 ?_
      refine G_HalfHereModel_read hX dX10_toldOf_86 mF_X10_19 ?_
      refine J_bipush hX (by decide) dX10_toldOf_89 ?_
      refine J_bipush hX (by decide) dX10_toldOf_91 ?_
      refine J_iloadN hX rfl rfl dX10_toldOf_93 ?_
      refine J_imul hX (fun _ _ => by omega) dX10_toldOf_94 ?_
      refine J_iadd hX (fun _ _ => by omega) dX10_toldOf_95 ?_
      refine J_iconst hX (by decide) dX10_toldOf_96 ?_
      refine J_iadd hX (fun _ _ => by omega) dX10_toldOf_97 ?_
      refine L_44 hX (by omega) dX10_toldOf_98 ?_
      rw [e]
      refine J_iconst hX (by decide) dX10_toldOf_99 ?_
      refine J_iadd hX (fun _ _ => by omega) dX10_toldOf_100 ?_
      refine siN_1 hX dX10_toldOf_101 ?_
      exact K102 _ (hn.up (by omega) (by omega) (Or.inr (Or.inl ⟨i, ⟨h1, by omega⟩, rfl⟩)) old)
theorem l_told4 (hX : Ok_X10_toldOf G X 2) (hA : m 44 0 0 = A) (hI : InvA A C D) (hR0 : JRt G X (pi (fun r m' => tdP A r ∧ m' = m)) (some .int)) : ∀ i, 0 ≤ i → i ≤ 24 → ∀ n b, tdI A (tP3 A i) n → J G X 110 [vr 40 0 0, vi n, vi i, b] [] m := by
  have h0 := hI.1
  refine up_to (fun i h1 h2 ih n b hn => ?_)
  refine J_iloadN hX rfl rfl dX10_toldOf_110 ?_
  refine J_bipush hX (by decide) dX10_toldOf_111 ?_
  refine J_icmp_ge (tgt := 172) hX (by decide) dX10_toldOf_113 (fun h3 => ?_) (fun h3 => ?_)
  · have e : i = 24 := by omega
    subst e
    refine J_iloadN hX rfl rfl dX10_toldOf_172 ?_
    refine J_iret hX hR0 dX10_toldOf_173 ?_
    exact ⟨n, rfl, ⟨hn.1, fun x hx => hn.2.1 x (by
      rcases hx with ⟨i', j', q1, q2, q3, q4⟩ | ⟨u, q1, q2⟩ | ⟨u, q1, q2⟩
      · exact Or.inl (Or.inl ⟨i', j', q1, q2, by omega, q3, q4⟩)
      · exact Or.inl (Or.inr ⟨u, q1, q2⟩)
      · exact Or.inr ⟨u, q1, q1.2.1, q2⟩), hn.2.2⟩, rfl⟩
  · have e0 : m 44 0 0 (99 + 7 * i) = aP A i 0 := by rw [hA]; unfold aP; rw [Int.add_zero]
    have e2 : m 44 0 0 (99 + 7 * i + 2) = aP A i 2 := by rw [hA]; rfl
    have hn1 := hn.1
    have K166 : ∀ n', tdI A (tP3 A (i + 1)) n' → J G X 166 [vr 40 0 0, vi n', vi i, b] [] m := fun n' hn' => by
      refine sinc_2 hX (fun _ => by omega) dX10_toldOf_166 ?_
      refine J_goto (tgt := 110) hX (by decide) dX10_toldOf_169 ?_
      exact ih h3 n' _ hn'
    have old : ∀ x, tP3 A (i + 1) x → tP3 A i x ∨ (x = aP A i 2 ∧ aIs A i) := fun x hx => by
      rcases hx with hx | ⟨u, q1, q3, q2⟩
      · exact Or.inl (Or.inl hx)
      · by_cases q : u = i
        · rw [q] at q1 q2; exact Or.inr ⟨q2, q1⟩
        · exact Or.inl (Or.inr ⟨u, q1, by omega, q2⟩)
    refine J_aloadN hX rfl rfl dX10_toldOf_116 ?_
    refine G_HalfHereModel_read hX dX10_toldOf_117 mF_X10_19 ?_
    refine J_bipush hX (by decide) dX10_toldOf_120 ?_
    refine J_bipush hX (by decide) dX10_toldOf_122 ?_
    refine J_iloadN hX rfl rfl dX10_toldOf_124 ?_
    refine J_imul hX (fun _ _ => by omega) dX10_toldOf_125 ?_
    refine J_iadd hX (fun _ _ => by omega) dX10_toldOf_126 ?_
    refine L_44 hX (by omega) dX10_toldOf_127 ?_
    rw [e0]
    refine J_if_le (tgt := 166) hX (by decide) dX10_toldOf_128 (fun h4 => ?_) (fun h4 => ?_)
    · exact K166 n (hn.no (fun x hx => (old x hx).imp id (fun q => by have := q.2.2.2; omega)))
    · have hIs : aIs A i := ⟨h1, h3, by omega⟩
      have hp2 := (hI.part hIs).2.2.1
      refine J_aloadN hX rfl rfl dX10_toldOf_131 ?_
      refine G_HalfHereModel_read hX dX10_toldOf_132 mF_X10_19 ?_
      refine J_bipush hX (by decide) dX10_toldOf_135 ?_
      refine J_bipush hX (by decide) dX10_toldOf_137 ?_
      refine J_iloadN hX rfl rfl dX10_toldOf_139 ?_
      refine J_imul hX (fun _ _ => by omega) dX10_toldOf_140 ?_
      refine J_iadd hX (fun _ _ => by omega) dX10_toldOf_141 ?_
      refine J_iconst hX (by decide) dX10_toldOf_142 ?_
      refine J_iadd hX (fun _ _ => by omega) dX10_toldOf_143 ?_
      refine L_44 hX (by omega) dX10_toldOf_144 ?_
      rw [e2]
      refine J_iloadN hX rfl rfl dX10_toldOf_145 ?_
      refine J_icmp_lt (tgt := 166) hX (by decide) dX10_toldOf_146 (fun h5 => ?_) (fun h5 => ?_)
      · exact K166 n (hn.no (fun x hx => (old x hx).imp id (fun q => by omega)))
      · refine J_aloadN hX rfl rfl dX10_toldOf_149 ?_
        refine G_HalfHereModel_read hX dX10_toldOf_150 mF_X10_19 ?_
        refine J_bipush hX (by decide) dX10_toldOf_153 ?_
        refine J_bipush hX (by decide) dX10_toldOf_155 ?_
        refine J_iloadN hX rfl rfl dX10_toldOf_157 ?_
        refine J_imul hX (fun _ _ => by omega) dX10_toldOf_158 ?_
        refine J_iadd hX (fun _ _ => by omega) dX10_toldOf_159 ?_
        refine J_iconst hX (by decide) dX10_toldOf_160 ?_
        refine J_iadd hX (fun _ _ => by omega) dX10_toldOf_161 ?_
        refine L_44 hX (by omega) dX10_toldOf_162 ?_
        rw [e2]
        refine J_iconst hX (by decide) dX10_toldOf_163 ?_
        refine J_iadd hX (fun _ _ => by omega) dX10_toldOf_164 ?_
        refine siN_1 hX dX10_toldOf_165 ?_
        exact K166 _ (hn.up (by omega) (by omega) (Or.inr (Or.inr ⟨i, hIs, rfl⟩)) (fun x hx => (old x hx).imp id (fun q => q.1)))
theorem c_toldOf (hA : m 44 0 0 = A) (hI : InvA A C D) : K_X10_toldOf G [vr 40 0 0] m (pi (fun r m' => tdP A r ∧ m' = m)) := by
  refine E_X10_toldOf (fun X hX hR0 _ _ => ?_)
  have h0 := hI.1
  refine J_iconst hX (by decide) dX10_toldOf_0 ?_
  refine siN_1 hX dX10_toldOf_1 ?_
  refine J_iconst hX (by decide) dX10_toldOf_2 ?_
  refine siN_2 hX dX10_toldOf_3 ?_
  refine l_told2 hX hA hI (fun n a b hn => ?_) 0 (by omega) (by omega) 1 _ ⟨by omega, fun x ⟨i', j', q1, q2, q3, _⟩ => by omega, Or.inl rfl⟩
  refine J_iconst hX (by decide) dX10_toldOf_55 ?_
  refine siN_2 hX dX10_toldOf_56 ?_
  refine l_told3 hX hA hI (fun n a b hn => ?_) 0 (by omega) (by omega) n _ (hn.no (fun x hx => hx.elim Or.inl (fun ⟨u, q, _⟩ => by omega)))
  refine J_iconst hX (by decide) dX10_toldOf_108 ?_
  refine siN_2 hX dX10_toldOf_109 ?_
  exact l_told4 hX hA hI hR0 0 (by omega) (by omega) n _ (hn.no (fun x hx => hx.elim Or.inl (fun ⟨u, q, q2, _⟩ => by have := q.1; omega)))
end Mod
