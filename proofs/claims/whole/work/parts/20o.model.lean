/-! ===== 20o: the reference: chance ===== -/
noncomputable def awA (A : Int → Int) (p : Int) : Int := cntI (fun i => aOf A i p ∧ aP A i 2 ≠ 0) 24
noncomputable def rfChance (A : Int → Int) (p h x y : Int) : Int := if inN p (A 1) then (if inN x 2 ∧ inN y 2 then (if h < 0 then -4 else if 100 < h then -6 else if 9 < awA A p then -6 else if cntI (fun i => aOf A i p) 24 = 0 then -3 else 0) else -2) else -1
noncomputable def hmA (A : Int → Int) (p n : Int) : Int := sumI (twA A p) n - sumI (twW A p) n
noncomputable def mnA (A : Int → Int) (p h : Int) : Int := 100 * hmA A p 24 + sumI (twW A p) 24 * (100 - h)
def cgU (h : Int) : Int := (100 - h) / gcI (100 - h) 100
def cgV (h : Int) : Int := 100 / gcI (100 - h) 100
noncomputable def chA (A : Int → Int) (p h x y : Int) : Int := if x = 0 then (if y = 0 then mnA A p h / gcI (mnA A p h) 100 else 100 / gcI (mnA A p h) 100) else (if y = 0 then cgU h else cgV h) ^ (awA A p).toNat
noncomputable def chR (A : Int → Int) (p h x y : Int) : Int := if rfChance A p h x y = 0 then chA A p h x y else 4000000000000000000 - rfChance A p h x y
theorem powb {a : Int} (h0 : 0 ≤ a) (h1 : a ≤ 100) : ∀ n : Nat, 0 ≤ a ^ n ∧ a ^ n ≤ 100 ^ n := by
  intro n
  induction n with
  | zero => exact ⟨by rw [Int.pow_zero]; omega, by rw [Int.pow_zero, Int.pow_zero]; omega⟩
  | succ n ih =>
    rw [Int.pow_succ, Int.pow_succ]
    exact ⟨Int.mul_nonneg ih.1 h0, Int.mul_le_mul ih.2 h1 h0 (by omega)⟩
theorem pow100 {n : Nat} (h : n ≤ 9) : (100 : Int) ^ n ≤ 1000000000000000000 := by
  rcases (show n = 0 ∨ n = 1 ∨ n = 2 ∨ n = 3 ∨ n = 4 ∨ n = 5 ∨ n = 6 ∨ n = 7 ∨ n = 8 ∨ n = 9 by omega) with rfl | rfl | rfl | rfl | rfl | rfl | rfl | rfl | rfl | rfl <;> decide
theorem pow100' {n : Nat} (h : n ≤ 8) : (100 : Int) ^ n ≤ 10000000000000000 := by
  rcases (show n = 0 ∨ n = 1 ∨ n = 2 ∨ n = 3 ∨ n = 4 ∨ n = 5 ∨ n = 6 ∨ n = 7 ∨ n = 8 by omega) with rfl | rfl | rfl | rfl | rfl | rfl | rfl | rfl | rfl <;> decide
theorem cg_all : ∀ u : Nat, u ≤ 100 → 1 ≤ Nat.gcd u 100 ∧ Nat.gcd u 100 * (u / Nat.gcd u 100) = u ∧ Nat.gcd u 100 * (100 / Nat.gcd u 100) = 100 ∧ Nat.gcd (100 / Nat.gcd u 100) (u / Nat.gcd u 100) = 1 ∧ u / Nat.gcd u 100 ≤ 100 ∧ 100 / Nat.gcd u 100 ≤ 100 ∧ 1 ≤ 100 / Nat.gcd u 100 := by decide +kernel
theorem cg_b {h : Int} (hh : 0 ≤ h ∧ h ≤ 100) : 1 ≤ gcI (100 - h) 100 ∧ cgU h * gcI (100 - h) 100 = 100 - h ∧ cgV h * gcI (100 - h) 100 = 100 ∧ Nat.gcd (cgV h).toNat (cgU h).toNat = 1 ∧ (0 ≤ cgU h ∧ cgU h ≤ 100) ∧ (1 ≤ cgV h ∧ cgV h ≤ 100) := by
  obtain ⟨u, hu⟩ : ∃ u : Nat, (100 - h : Int) = u := ⟨(100 - h).toNat, by omega⟩
  obtain ⟨c1, c2, c3, c4, c5, c6, c7⟩ := cg_all u (by omega)
  have e1 : gcI (100 - h) 100 = ((Nat.gcd u 100 : Nat) : Int) := by
    unfold gcI
    rw [hu]
    rfl
  have e2 : cgU h = ((u / Nat.gcd u 100 : Nat) : Int) := by
    unfold cgU
    rw [e1, hu, Int.natCast_ediv]
  have e3 : cgV h = ((100 / Nat.gcd u 100 : Nat) : Int) := by
    unfold cgV
    rw [e1, Int.natCast_ediv]
    rfl
  rw [e1, e2, e3, Int.toNat_natCast, Int.toNat_natCast]
  refine ⟨by omega, ?_, ?_, c4, ⟨Int.natCast_nonneg _, by exact_mod_cast c5⟩, ⟨by exact_mod_cast c7, by exact_mod_cast c6⟩⟩
  · rw [hu, ← Int.natCast_mul, Nat.mul_comm, c2]
  · rw [← Int.natCast_mul, Nat.mul_comm, c3]
    rfl
theorem gc_pow {h : Int} (hh : 0 ≤ h ∧ h ≤ 100) (n : Nat) : gcI (cgV h ^ n) (cgU h ^ n) = 1 := by
  obtain ⟨c1, c2, c3, c4, c5, c6⟩ := cg_b hh
  unfold gcI
  have e1 : (cgV h ^ n).toNat = (cgV h).toNat ^ n := by
    rw [← Int.toNat_natCast ((cgV h).toNat ^ n), Int.natCast_pow, Int.toNat_of_nonneg (by omega)]
  have e2 : (cgU h ^ n).toNat = (cgU h).toNat ^ n := by
    rw [← Int.toNat_natCast ((cgU h).toNat ^ n), Int.natCast_pow, Int.toNat_of_nonneg (by omega)]
  have e3 : Nat.gcd ((cgV h).toNat ^ n) ((cgU h).toNat ^ n) = 1 := Nat.Coprime.pow n n c4
  rw [e1, e2, e3]
  rfl
theorem gc_mul {a b g : Int} (ha : 0 ≤ a) (hb : 0 ≤ b) (hg : 0 ≤ g) : gcI (a * g) (b * g) = gcI a b * g := by
  unfold gcI
  rw [Int.toNat_mul ha hg, Int.toNat_mul hb hg, Nat.gcd_mul_right, Int.natCast_mul, Int.toNat_of_nonneg hg]
theorem gc_step {h : Int} (hh : 0 ≤ h ∧ h ≤ 100) (n : Nat) : gcI (cgV h ^ n * 100) (cgU h ^ n * (100 - h)) = gcI (100 - h) 100 ∧ (cgU h ^ n * (100 - h)) / gcI (100 - h) 100 = cgU h ^ (n + 1) ∧ (cgV h ^ n * 100) / gcI (100 - h) 100 = cgV h ^ (n + 1) := by
  obtain ⟨c1, c2, c3, c4, c5, c6⟩ := cg_b hh
  have e1 : cgU h ^ n * (100 - h) = cgU h ^ (n + 1) * gcI (100 - h) 100 := by
    rw [Int.pow_succ, Int.mul_assoc, c2]
  have e2 : cgV h ^ n * 100 = cgV h ^ (n + 1) * gcI (100 - h) 100 := by
    rw [Int.pow_succ, Int.mul_assoc, c3]
  have p1 := powb c5.1 c5.2 (n + 1)
  have p2 := powb (show 0 ≤ cgV h by omega) c6.2 (n + 1)
  rw [e1, e2, gc_mul p2.1 p1.1 (by omega), gc_pow hh, Int.one_mul]
  exact ⟨rfl, Int.mul_ediv_cancel _ (by omega), Int.mul_ediv_cancel _ (by omega)⟩
section Mod
variable {G : GC} {X : JX} {m : HM} {κ p t τ w x y z i k q b h : Int} {A N S g F B W : Int → Int} {H C D : Int}
theorem tw_b (hI : InvA A C D) (hi : 0 ≤ i) : (0 ≤ sumI (twW A p) i ∧ sumI (twW A p) i ≤ 12 * i) ∧ (0 ≤ hmA A p i ∧ hmA A p i ≤ 12 * i) := by
  obtain ⟨j, rfl⟩ : ∃ j : Nat, i = j := ⟨i.toNat, by omega⟩
  clear hi
  induction j with
  | zero =>
    show (0 ≤ (0 : Int) ∧ (0 : Int) ≤ 12 * 0) ∧ (0 ≤ (0 : Int) - 0 ∧ (0 : Int) - 0 ≤ 12 * 0)
    omega
  | succ j ih =>
    have h1 := twA_b (p := p) (i := (j : Int)) hI
    have h2 := twW_b (p := p) (i := (j : Int)) hI
    unfold hmA at *
    rw [show ((j + 1 : Nat) : Int) = (j : Int) + 1 by omega, sumI_s (by omega), sumI_s (by omega)]
    omega
theorem cmp_0 {a : Int} : a = 0 → True := fun _ => trivial
theorem l_ch1 (hX : Ok_X10_chance G X 131) (hA : m 42 0 0 = A) (hI : InvA A C D) (hp : inN p (A 1)) (K163 : ∀ i b, J G X 163 [vr 40 0 0, vi p, vi h, vi x, vi y, vi 0, vi (hmA A p 24), vi (sumI (twW A p) 24), vi (awA A p), i, b, vx, vx, vx, vx, vx] [] m) : ∀ i, 0 ≤ i → i ≤ 24 → ∀ b, J G X 55 [vr 40 0 0, vi p, vi h, vi x, vi y, vi 0, vi (hmA A p i), vi (sumI (twW A p) i), vi (cntI (fun i => aOf A i p ∧ aP A i 2 ≠ 0) i), vi i, b, vx, vx, vx, vx, vx] [] m := by
  have h0 := hI.1
  refine up_to (fun i h1 h2 ih b => ?_)
  obtain ⟨b1, b2⟩ := tw_b (p := p) hI h1
  have b3 := cntI_b (P := fun i => aOf A i p ∧ aP A i 2 ≠ 0) h1
  refine J_iload hX rfl dX10_chance_55 ?_
  refine J_bipush hX (by decide) dX10_chance_57 ?_
  refine J_icmp_ge (tgt := 163) hX (by decide) dX10_chance_59 (fun h3 => ?_) (fun h3 => ?_)
  · have e : i = 24 := by omega
    subst e
    exact K163 _ _
  · have hi : inN i 24 := ⟨h1, h3⟩
    have nx := ih h3
    have e1 : hmA A p (i + 1) = hmA A p i + (twA A p i - twW A p i) := by unfold hmA; rw [sumI_s h1, sumI_s h1]; omega
    rw [e1, sumI_s h1] at nx
    refine J_iload hX rfl dX10_chance_62 ?_
    refine J_if_ne (tgt := 163) hX (by decide) dX10_chance_64 (fun h9 => ?_) (fun h9 => ?_)
    · omega
    · refine J_aloadN hX rfl rfl dX10_chance_67 ?_
      refine J_iload hX rfl dX10_chance_68 ?_
      refine J_iconst hX (by decide) dX10_chance_70 ?_
      refine cV2w hX cb_X10_part mL_X10_50 dX10_chance_71 (c_part hA hi (by omega)) ?_
      refine J_iloadN hX rfl rfl dX10_chance_74 ?_
      refine J_iconst hX (by decide) dX10_chance_75 ?_
      refine J_iadd hX (fun _ _ => by omega) dX10_chance_76 ?_
      refine J_icmp_eq (tgt := 83) hX (by decide) dX10_chance_77 (fun h4 => ?_) (fun h4 => ?_)
      · have ho : aOf A i p := (aOf_iff hp.1 hi).mpr h4
        have hs := hI.share ho.1
        have ea : twA A p i = aP A i 1 := ifP_pos ho
        refine J_aloadN hX rfl rfl dX10_chance_83 ?_
        refine J_iload hX rfl dX10_chance_84 ?_
        refine J_iconst hX (by decide) dX10_chance_86 ?_
        refine cV2w hX cb_X10_part mL_X10_50 dX10_chance_87 (c_part hA hi (by omega)) ?_
        refine J_if_ne (tgt := 97) hX (by decide) dX10_chance_90 (fun h5 => ?_) (fun h5 => ?_)
        · have ew : twW A p i = aP A i 1 := ifP_pos ⟨ho, h5⟩
          rw [cntI_t h1 ⟨ho, h5⟩, ea, ew, Int.sub_self, Int.add_zero] at nx
          refine J_iconst hX (by decide) dX10_chance_97 ?_
          refine si_10 hX dX10_chance_98 ?_
          refine J_iload hX rfl dX10_chance_100 ?_
          refine J_iload hX rfl dX10_chance_102 ?_
          refine J_if_eq (tgt := 117) hX (by decide) dX10_chance_104 (fun h6 => ?_) (fun h6 => ?_)
          · refine J_iconst hX (by decide) dX10_chance_117 ?_
            refine J_iadd hX (fun _ _ => by omega) dX10_chance_118 ?_
            refine si_6 hX dX10_chance_119 ?_
            refine J_iload hX rfl dX10_chance_121 ?_
            refine J_iload hX rfl dX10_chance_123 ?_
            refine J_if_eq (tgt := 132) hX (by decide) dX10_chance_125 (fun h7 => ?_) (fun h7 => ?_)
            · refine J_aloadN hX rfl rfl dX10_chance_132 ?_
              refine J_iload hX rfl dX10_chance_133 ?_
              refine J_iconst hX (by decide) dX10_chance_135 ?_
              refine cV2w hX cb_X10_part mL_X10_50 dX10_chance_136 (c_part hA hi (by omega)) ?_
              refine J_iadd hX (fun _ _ => by omega) dX10_chance_139 ?_
              refine si_7 hX dX10_chance_140 ?_
              refine J_iload hX rfl dX10_chance_142 ?_
              refine J_iload hX rfl dX10_chance_144 ?_
              refine J_if_eq (tgt := 153) hX (by decide) dX10_chance_146 (fun h8 => ?_) (fun h8 => ?_)
              · refine J_iconst hX (by decide) dX10_chance_153 ?_
                refine J_iadd hX (fun _ _ => by omega) dX10_chance_154 ?_
                refine si_8 hX dX10_chance_155 ?_
                refine sinc_9 hX (fun _ => by omega) dX10_chance_157 ?_
                refine J_goto (tgt := 55) hX (by decide) dX10_chance_160 ?_
                rw [Int.add_zero]
                exact nx _
              · omega
            · omega
          · omega
        · have ew : twW A p i = 0 := ifP_neg (fun q => q.2 h5)
          rw [cntI_f h1 (fun q => q.2 h5), ea, ew, Int.sub_zero, Int.add_zero] at nx
          refine J_iconst hX (by decide) dX10_chance_93 ?_
          refine J_goto (tgt := 98) hX (by decide) dX10_chance_94 ?_
          refine si_10 hX dX10_chance_98 ?_
          refine J_iload hX rfl dX10_chance_100 ?_
          refine J_iload hX rfl dX10_chance_102 ?_
          refine J_if_eq (tgt := 117) hX (by decide) dX10_chance_104 (fun h6 => ?_) (fun h6 => ?_)
          · omega
          · refine J_aloadN hX rfl rfl dX10_chance_107 ?_
            refine J_iload hX rfl dX10_chance_108 ?_
            refine J_iconst hX (by decide) dX10_chance_110 ?_
            refine cV2w hX cb_X10_part mL_X10_50 dX10_chance_111 (c_part hA hi (by omega)) ?_
            refine J_goto (tgt := 118) hX (by decide) dX10_chance_114 ?_
            refine J_iadd hX (fun _ _ => by omega) dX10_chance_118 ?_
            refine si_6 hX dX10_chance_119 ?_
            refine J_iload hX rfl dX10_chance_121 ?_
            refine J_iload hX rfl dX10_chance_123 ?_
            refine J_if_eq (tgt := 132) hX (by decide) dX10_chance_125 (fun h7 => ?_) (fun h7 => ?_)
            · omega
            · refine J_iconst hX (by decide) dX10_chance_128 ?_
              refine J_goto (tgt := 139) hX (by decide) dX10_chance_129 ?_
              refine J_iadd hX (fun _ _ => by omega) dX10_chance_139 ?_
              refine si_7 hX dX10_chance_140 ?_
              refine J_iload hX rfl dX10_chance_142 ?_
              refine J_iload hX rfl dX10_chance_144 ?_
              refine J_if_eq (tgt := 153) hX (by decide) dX10_chance_146 (fun h8 => ?_) (fun h8 => ?_)
              · omega
              · refine J_iconst hX (by decide) dX10_chance_149 ?_
                refine J_goto (tgt := 154) hX (by decide) dX10_chance_150 ?_
                refine J_iadd hX (fun _ _ => by omega) dX10_chance_154 ?_
                refine si_8 hX dX10_chance_155 ?_
                refine sinc_9 hX (fun _ => by omega) dX10_chance_157 ?_
                refine J_goto (tgt := 55) hX (by decide) dX10_chance_160 ?_
                rw [Int.add_zero, Int.add_zero]
                exact nx _
      · have ho : ¬ aOf A i p := fun q => h4 ((aOf_iff hp.1 hi).mp q)
        have ea : twA A p i = 0 := ifP_neg ho
        have ew : twW A p i = 0 := ifP_neg (fun q => ho q.1)
        rw [cntI_f h1 (fun q => ho q.1), ea, ew, Int.sub_zero, Int.add_zero, Int.add_zero] at nx
        refine J_goto (tgt := 157) hX (by decide) dX10_chance_80 ?_
        refine sinc_9 hX (fun _ => by omega) dX10_chance_157 ?_
        refine J_goto (tgt := 55) hX (by decide) dX10_chance_160 ?_
        exact nx _
/-- the powers -/
theorem l_ch2 (hX : Ok_X10_chance G X 131) {a6 a7 k9 : Int} (hh : 0 ≤ h ∧ h ≤ 100) (hk9 : 0 ≤ k9 ∧ k9 ≤ 9) (K315 : ∀ i e, J G X 315 [vr 40 0 0, vi p, vi h, vi 1, vi y, vi 0, vi a6, vi a7, vi k9, vl (cgU h ^ k9.toNat), vx, vl (cgV h ^ k9.toNat), vx, vi i, e, vx] [] m) : ∀ i, 0 ≤ i → i ≤ k9 → ∀ e, J G X 256 [vr 40 0 0, vi p, vi h, vi 1, vi y, vi 0, vi a6, vi a7, vi k9, vl (cgU h ^ i.toNat), vx, vl (cgV h ^ i.toNat), vx, vi i, e, vx] [] m := by
  obtain ⟨c1, c2, c3, c4, c5, c6⟩ := cg_b hh
  have cl : gcI (100 - h) 100 ≤ 100 := gcI_le (by omega) (by omega)
  refine up_to (fun i h1 h2 ih e => ?_)
  refine J_iload hX rfl dX10_chance_256 ?_
  refine J_iload hX rfl dX10_chance_258 ?_
  refine J_icmp_ge (tgt := 315) hX (by decide) dX10_chance_260 (fun h3 => ?_) (fun h3 => ?_)
  · have e : i = k9 := by omega
    subst e
    exact K315 _ _
  · refine J_iloadN hX rfl rfl dX10_chance_263 ?_
    refine J_iconst hX (by decide) dX10_chance_264 ?_
    refine J_icmp_ne (tgt := 315) hX (by decide) dX10_chance_265 (fun h4 => ?_) (fun h4 => ?_)
    · omega
    · have n8 : i.toNat ≤ 8 := by omega
      have p1 := powb c5.1 c5.2 i.toNat
      have p2 := powb (show 0 ≤ cgV h by omega) c6.2 i.toNat
      have p3 := pow100' n8
      have q1 := mul_b (x := cgU h ^ i.toNat) (y := 100 - h) (a := 10000000000000000) (b := 100) ⟨p1.1, by omega⟩ ⟨by omega, by omega⟩
      obtain ⟨s1, s2, s3⟩ := gc_step hh i.toNat
      have q3 := powb c5.1 c5.2 (i.toNat + 1)
      have q4 := powb (show 0 ≤ cgV h by omega) c6.2 (i.toNat + 1)
      have q5 := pow100 (show i.toNat + 1 ≤ 9 by omega)
      have d1 : (cgU h ^ i.toNat * (100 - h)).tdiv (gcI (100 - h) 100) = cgU h ^ (i.toNat + 1) := by rw [Int.tdiv_eq_ediv_of_nonneg q1.1, s2]
      have d2 : (cgV h ^ i.toNat * 100).tdiv (gcI (100 - h) 100) = cgV h ^ (i.toNat + 1) := by rw [Int.tdiv_eq_ediv_of_nonneg (by omega), s3]
      have nx := ih (by omega)
      rw [show (i + 1).toNat = i.toNat + 1 by omega] at nx
      refine J_lload hX rfl dX10_chance_268 ?_
      refine J_bipush hX (by decide) dX10_chance_270 ?_
      refine J_iloadN hX rfl rfl dX10_chance_272 ?_
      refine J_isub hX (fun _ _ => by omega) dX10_chance_273 ?_
      refine J_i2l hX dX10_chance_274 ?_
      refine J_lmul hX (fun _ _ => by omega) dX10_chance_275 ?_
      refine sl_9 hX dX10_chance_276 ?_
      refine J_lload hX rfl dX10_chance_278 ?_
      refine J_ldc2 (n := 100) hX mQ_X10_233 rfl rfl (by decide) dX10_chance_280 ?_
      refine J_lmul hX (fun _ _ => by omega) dX10_chance_283 ?_
      refine sl_11 hX dX10_chance_284 ?_
      refine J_lload hX rfl dX10_chance_286 ?_
      refine J_lload hX rfl dX10_chance_288 ?_
      refine cS2w hX cb_X10_commonLong mL_X10_227 dX10_chance_290 (c_commonLong 120 _ _ (by omega) q1.1 (en_of 60 _ _ (by omega) q1.1 (by have : ((2 ^ 60 : Nat) : Int) = 1152921504606846976 := rfl; omega)) 130 (by omega)) ?_
      rw [s1]
      refine sl_14 hX dX10_chance_293 ?_
      refine J_lload hX rfl dX10_chance_295 ?_
      refine J_lload hX rfl dX10_chance_297 ?_
      refine J_ldiv hX (by omega) (fun _ _ => by rw [d1]; omega) dX10_chance_299 ?_
      rw [d1]
      refine sl_9 hX dX10_chance_300 ?_
      refine J_lload hX rfl dX10_chance_302 ?_
      refine J_lload hX rfl dX10_chance_304 ?_
      refine J_ldiv hX (by omega) (fun _ _ => by rw [d2]; omega) dX10_chance_306 ?_
      rw [d2]
      refine sl_11 hX dX10_chance_307 ?_
      refine sinc_13 hX (fun _ => by omega) dX10_chance_309 ?_
      refine J_goto (tgt := 256) hX (by decide) dX10_chance_312 ?_
      exact nx _
def chM (m : HM) (r : Int) : HM := if r = 0 then m else refM m 41 r
theorem l_ch3 (hX : Ok_X10_chance G X 131) (hI : InvA A C D) (hrf : rfChance A p h x y = 0) (hh : 0 ≤ h ∧ h ≤ 100) (hx : inN x 2) (hy : inN y 2) (hw9 : awA A p ≤ 9) (hR0 : JRt G X (pw (vl (chR A p h x y)) (chM m (rfChance A p h x y))) (some .long)) : ∀ i b, J G X 213 [vr 40 0 0, vi p, vi h, vi x, vi y, vi 0, vi (hmA A p 24), vi (sumI (twW A p) 24), vi (awA A p), i, b, vx, vx, vx, vx, vx] [] m := by
  intro i b
  obtain ⟨b1, b2⟩ := tw_b (p := p) (i := 24) hI (by omega)
  have b3 : 0 ≤ awA A p := (cntI_b (P := fun i => aOf A i p ∧ aP A i 2 ≠ 0) (n := 24) (by omega)).1
  have er : chR A p h x y = chA A p h x y := if_pos hrf
  have em : chM m (rfChance A p h x y) = m := if_pos hrf
  rw [er, em] at hR0
  rcases (show x = 0 ∨ x = 1 by omega) with rfl | rfl
  · have q1 := mul_b (x := sumI (twW A p) 24) (y := 100 - h) (a := 288) (b := 100) ⟨b1.1, by omega⟩ ⟨by omega, by omega⟩
    have mb : 0 ≤ mnA A p h ∧ mnA A p h ≤ 57600 := by unfold mnA; omega
    have hmn : 100 * hmA A p 24 + sumI (twW A p) 24 * (100 - h) = mnA A p h := rfl
    have hg := gcI_pos (a := mnA A p h) (b := 100) (Or.inr (by omega))
    have hg2 := gcI_le (a := mnA A p h) (b := 100) mb.1 (by omega)
    have d1 : (mnA A p h).tdiv (gcI (mnA A p h) 100) = mnA A p h / gcI (mnA A p h) 100 := Int.tdiv_eq_ediv_of_nonneg mb.1
    have d2 : (100 : Int).tdiv (gcI (mnA A p h) 100) = 100 / gcI (mnA A p h) 100 := Int.tdiv_eq_ediv_of_nonneg (by omega)
    have r1 := Int.ediv_nonneg mb.1 (Int.le_of_lt hg)
    have r2 := Int.ediv_le_self (gcI (mnA A p h) 100) mb.1
    have r3 := Int.ediv_nonneg (show (0 : Int) ≤ 100 by omega) (Int.le_of_lt hg)
    have r4 := Int.ediv_le_self (gcI (mnA A p h) 100) (show (0 : Int) ≤ 100 by omega)
    refine J_iloadN hX rfl rfl dX10_chance_213 ?_
    refine J_if_ne (tgt := 237) hX (by decide) dX10_chance_214 (fun h1 => ?_) (fun h1 => ?_)
    · omega
    · refine J_ldc2 (n := 100) hX mQ_X10_233 rfl rfl (by decide) dX10_chance_217 ?_
      refine J_iload hX rfl dX10_chance_220 ?_
      refine J_i2l hX dX10_chance_222 ?_
      refine J_lmul hX (fun _ _ => by omega) dX10_chance_223 ?_
      refine J_iload hX rfl dX10_chance_224 ?_
      refine J_i2l hX dX10_chance_226 ?_
      refine J_bipush hX (by decide) dX10_chance_227 ?_
      refine J_iloadN hX rfl rfl dX10_chance_229 ?_
      refine J_isub hX (fun _ _ => by omega) dX10_chance_230 ?_
      refine J_i2l hX dX10_chance_231 ?_
      refine J_lmul hX (fun _ _ => by omega) dX10_chance_232 ?_
      refine J_ladd hX (fun _ _ => by omega) dX10_chance_233 ?_
      refine J_goto (tgt := 238) hX (by decide) dX10_chance_234 ?_
      rw [hmn]
      refine sl_9 hX dX10_chance_238 ?_
      refine J_iloadN hX rfl rfl dX10_chance_240 ?_
      refine J_if_ne (tgt := 250) hX (by decide) dX10_chance_241 (fun h2 => ?_) (fun h2 => ?_)
      · omega
      · have K315 : ∀ i e, J G X 315 [vr 40 0 0, vi p, vi h, vi 0, vi y, vi 0, vi (hmA A p 24), vi (sumI (twW A p) 24), vi (awA A p), vl (mnA A p h), vx, vl 100, vx, vi i, e, vx] [] m := fun i e => by
          refine J_lload hX rfl dX10_chance_315 ?_
          refine J_lload hX rfl dX10_chance_317 ?_
          refine cS2w hX cb_X10_commonLong mL_X10_227 dX10_chance_319 (c_commonLong 32 _ _ (by omega) mb.1 (en_of 16 _ _ (by omega) mb.1 (by omega)) 130 (by omega)) ?_
          rw [gcI_comm]
          refine sl_13 hX dX10_chance_322 ?_
          refine J_iload hX rfl dX10_chance_324 ?_
          refine J_if_ne (tgt := 337) hX (by decide) dX10_chance_326 (fun h3 => ?_) (fun h3 => ?_)
          · refine J_lload hX rfl dX10_chance_337 ?_
            refine J_lload hX rfl dX10_chance_339 ?_
            refine J_ldiv hX (by omega) (fun _ _ => by rw [d2]; omega) dX10_chance_341 ?_
            rw [d2]
            exact J_lret hX hR0 dX10_chance_342 (pwL (by unfold chA; rw [if_pos rfl, if_neg h3]))
          · refine J_lload hX rfl dX10_chance_329 ?_
            refine J_lload hX rfl dX10_chance_331 ?_
            refine J_ldiv hX (by omega) (fun _ _ => by rw [d1]; omega) dX10_chance_333 ?_
            refine J_goto (tgt := 342) hX (by decide) dX10_chance_334 ?_
            rw [d1]
            exact J_lret hX hR0 dX10_chance_342 (pwL (by unfold chA; rw [if_pos rfl, if_pos h3]))
        refine J_ldc2 (n := 100) hX mQ_X10_233 rfl rfl (by decide) dX10_chance_244 ?_
        refine J_goto (tgt := 251) hX (by decide) dX10_chance_247 ?_
        refine sl_11 hX dX10_chance_251 ?_
        refine J_iconst hX (by decide) dX10_chance_253 ?_
        refine si_13 hX dX10_chance_254 ?_
        refine J_iload hX rfl dX10_chance_256 ?_
        refine J_iload hX rfl dX10_chance_258 ?_
        refine J_icmp_ge (tgt := 315) hX (by decide) dX10_chance_260 (fun h4 => ?_) (fun h4 => ?_)
        · exact K315 _ _
        · refine J_iloadN hX rfl rfl dX10_chance_263 ?_
          refine J_iconst hX (by decide) dX10_chance_264 ?_
          refine J_icmp_ne (tgt := 315) hX (by decide) dX10_chance_265 (fun h5 => ?_) (fun h5 => ?_)
          · exact K315 _ _
          · omega
  · obtain ⟨c1, c2, c3, c4, c5, c6⟩ := cg_b hh
    have p1 := powb c5.1 c5.2 (awA A p).toNat
    have p2 := powb (show 0 ≤ cgV h by omega) c6.2 (awA A p).toNat
    have p3 := pow100 (n := (awA A p).toNat) (by omega)
    have gp := gc_pow hh (awA A p).toNat
    have d1 : (cgU h ^ (awA A p).toNat).tdiv 1 = cgU h ^ (awA A p).toNat := Int.tdiv_one _
    have d2 : (cgV h ^ (awA A p).toNat).tdiv 1 = cgV h ^ (awA A p).toNat := Int.tdiv_one _
    refine J_iloadN hX rfl rfl dX10_chance_213 ?_
    refine J_if_ne (tgt := 237) hX (by decide) dX10_chance_214 (fun h1 => ?_) (fun h1 => ?_)
    · refine J_lconst (x := 1) hX rfl dX10_chance_237 ?_
      refine sl_9 hX dX10_chance_238 ?_
      refine J_iloadN hX rfl rfl dX10_chance_240 ?_
      refine J_if_ne (tgt := 250) hX (by decide) dX10_chance_241 (fun h2 => ?_) (fun h2 => ?_)
      · refine J_lconst (x := 1) hX rfl dX10_chance_250 ?_
        refine sl_11 hX dX10_chance_251 ?_
        refine J_iconst hX (by decide) dX10_chance_253 ?_
        refine si_13 hX dX10_chance_254 ?_
        have K315 : ∀ i e, J G X 315 [vr 40 0 0, vi p, vi h, vi 1, vi y, vi 0, vi (hmA A p 24), vi (sumI (twW A p) 24), vi (awA A p), vl (cgU h ^ (awA A p).toNat), vx, vl (cgV h ^ (awA A p).toNat), vx, vi i, e, vx] [] m := fun i e => by
          refine J_lload hX rfl dX10_chance_315 ?_
          refine J_lload hX rfl dX10_chance_317 ?_
          refine cS2w hX cb_X10_commonLong mL_X10_227 dX10_chance_319 (c_commonLong 120 _ _ p2.1 p1.1 (en_of 60 _ _ p2.1 p1.1 (by have : ((2 ^ 60 : Nat) : Int) = 1152921504606846976 := rfl; omega)) 130 (by omega)) ?_
          rw [gp]
          refine sl_13 hX dX10_chance_322 ?_
          refine J_iload hX rfl dX10_chance_324 ?_
          refine J_if_ne (tgt := 337) hX (by decide) dX10_chance_326 (fun h3 => ?_) (fun h3 => ?_)
          · refine J_lload hX rfl dX10_chance_337 ?_
            refine J_lload hX rfl dX10_chance_339 ?_
            refine J_ldiv hX (by omega) (fun _ _ => by rw [d2]; omega) dX10_chance_341 ?_
            rw [d2]
            exact J_lret hX hR0 dX10_chance_342 (pwL (by unfold chA; rw [if_neg (by omega), if_neg h3]))
          · refine J_lload hX rfl dX10_chance_329 ?_
            refine J_lload hX rfl dX10_chance_331 ?_
            refine J_ldiv hX (by omega) (fun _ _ => by rw [d1]; omega) dX10_chance_333 ?_
            refine J_goto (tgt := 342) hX (by decide) dX10_chance_334 ?_
            rw [d1]
            exact J_lret hX hR0 dX10_chance_342 (pwL (by unfold chA; rw [if_neg (by omega), if_pos h3]))
        have fin := l_ch2 (m := m) (y := y) (p := p) (a6 := hmA A p 24) (a7 := sumI (twW A p) 24) hX hh ⟨b3, hw9⟩ K315 0 (by omega) (by omega) vx
        rw [show (0 : Int).toNat = 0 from rfl, Int.pow_zero, Int.pow_zero] at fin
        exact fin
      · omega
    · omega
end Mod
