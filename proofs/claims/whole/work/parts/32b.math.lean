/-! ===== 32b: who must be whole: the mathematics ===== -/
theorem sP_cg {P Q : Int → Prop} {f g : Int → Int} {n : Int} (hn : 0 ≤ n) (h : ∀ i, inN i n → (P i ↔ Q i) ∧ (P i → f i = g i)) : sP P f n = sP Q g n := by
  unfold sP
  refine sumI_congr (fun i a b => ?_)
  have := h i ⟨a, b⟩
  by_cases q : P i
  · rw [ifP_pos q, ifP_pos (this.1.mp q), this.2 q]
  · rw [ifP_neg q, ifP_neg (fun z => q (this.1.mpr z))]
theorem sP_mono {P Q : Int → Prop} {f : Int → Int} {n : Int} (hn : 0 ≤ n) (h : ∀ i, inN i n → (P i → Q i) ∧ 0 ≤ f i) : sP P f n ≤ sP Q f n := by
  obtain ⟨j, rfl⟩ : ∃ j : Nat, n = j := ⟨n.toNat, by omega⟩
  induction j with
  | zero => exact Int.le_refl _
  | succ j ih =>
    have ih' := ih (by omega) (fun i hi => h i ⟨hi.1, by have := hi.2; omega⟩)
    have hj := h j ⟨by omega, by omega⟩
    have e : ((j + 1 : Nat) : Int) = (j : Int) + 1 := by omega
    rw [e]
    by_cases q : P j
    · rw [sP_t (by omega) q, sP_t (by omega) (hj.1 q)]; omega
    · rw [sP_f (by omega) q]
      by_cases q2 : Q j
      · rw [sP_t (by omega) q2]; omega
      · rw [sP_f (by omega) q2]; exact ih'
/-- persons, whole at one work, are enough -/
noncomputable def gs (A : Int → Int) (S : Int → Prop) (k : Int) : Int := sP S (fun p => aG A p k * 12) (A 1)
def en1 (A : Int → Int) (w : Int) (S : Int → Prop) : Prop := ∀ k, inN k 3 → 12 * nW A w k ≤ gs A S k
theorem en1_mono {A : Int → Int} {C D w : Int} {S S' : Int → Prop} (hI : InvA A C D) (h : ∀ p, inN p (A 1) → S p → S' p) (he : en1 A w S) : en1 A w S' := fun k hk => by
  have h0 := hI.1
  have h1 := he k hk
  have h2 : gs A S k ≤ gs A S' k := sP_mono (by omega) (fun p hp => ⟨h p hp, by have := (hI.2.2.1 p hp).2.2 k hk; omega⟩)
  omega
theorem en1_cg {A : Int → Int} {C D w : Int} {S S' : Int → Prop} (hI : InvA A C D) (h : ∀ p, inN p (A 1) → (S p ↔ S' p)) : en1 A w S ↔ en1 A w S' :=
  ⟨en1_mono hI (fun p hp => (h p hp).mp), en1_mono hI (fun p hp => (h p hp).mpr)⟩
theorem gv_1 {k g : Int} : gv 1 k g 12 0 = g * 12 := by
  unfold gv
  rw [if_neg (by omega), if_neg (by omega), if_neg (by omega), if_neg (by omega)]
theorem done_en {A : Int → Int} {C D w H : Int} {S : Int → Int} {P : Int → Prop} (hκ : aW A w 0 = 1) (hS : ∀ k, inN k 3 → S k = gs A P k) : doneS (aW A w 0) (nW A w) S H ↔ en1 A w P := by
  have e : ∀ k, inN k 3 → dS (aW A w 0) S H k = gs A P k := fun k hk => by
    unfold dS
    rw [if_neg (by omega), hS k hk]
  exact ⟨fun h k hk => by have := h k hk; rw [e k hk] at this; exact this, fun h k hk => by rw [e k hk]; exact h k hk⟩
theorem dn0_en {A F : Int → Int} {C D w : Int} (hI : InvA A C D) (hκ : aW A w 0 = 1) (hF : ∀ p, inN p (A 1) → F (6 * p + w) = 0 ∨ F (6 * p + w) = 12) : dn0 A F w ↔ en1 A w (fun p => F (6 * p + w) = 12) := by
  have h0 := hI.1
  refine done_en (C := C) (D := D) hκ (fun k hk => ?_)
  unfold byS gs
  refine sP_cg (by omega) (fun p hp => ?_)
  have := hF p hp
  unfold shP
  refine ⟨⟨fun h => by omega, fun h => by omega⟩, fun h => ?_⟩
  have e : F (6 * p + w) = 12 := by omega
  show gv (aW A w 0) k (aG A p k) (F (6 * p + w)) 0 = _
  rw [e, hκ, gv_1]
/-! bits -/
theorem bits_df : ∀ a, a < 64 → ∀ s, s < 64 → Int32.ofInt ((a : Nat) : Int) &&& Int32.ofInt (-1 - ((s : Nat) : Int)) = Int32.ofInt ((a &&& (63 - s) : Nat) : Int) ∧ (a &&& (63 - s)) < 64 := by decide +kernel
theorem bits_nx : ∀ s, s < 64 → Int32.ofInt ((s : Nat) : Int) ^^^ Int32.ofInt (-1) = Int32.ofInt (-1 - ((s : Nat) : Int)) := by decide +kernel
theorem bits_db : ∀ p, p < 6 → ∀ a, a < 64 → ∀ s, s < 64 → ((a &&& (63 - s) : Nat) / 2 ^ p % 2 = 1 ↔ (a / 2 ^ p % 2 = 1 ∧ ¬ s / 2 ^ p % 2 = 1)) := by decide +kernel
theorem bits_dl : ∀ a, a < 64 → ∀ s, s < 64 → (a &&& (63 - s) : Nat) ≤ a ∧ ((s &&& (63 - a) : Nat) = 0 → s ≤ a) := by decide +kernel
theorem bits_d0 : ∀ a, a < 64 → ((∀ p, p < 6 → ¬ a / 2 ^ p % 2 = 1) ↔ a = 0) := by decide +kernel
def dfI (a s : Int) : Int := ((a.toNat &&& (63 - s.toNat) : Nat) : Int)
theorem dfI_b {a s : Int} (ha : inN a 64) (hs : inN s 64) : inN (dfI a s) 64 ∧ dfI a s ≤ a := by
  have h := (bits_df a.toNat (by omega) s.toNat (by omega)).2
  have h2 := (bits_dl a.toNat (by omega) s.toNat (by omega)).1
  unfold dfI
  omega
theorem sd_nx {s : Int} (hs : inN s 64) : Int32.ofInt s ^^^ Int32.ofInt (-1) = Int32.ofInt (-1 - s) ∧ inR (-1 - s) := by
  have h := bits_nx s.toNat (by omega)
  rw [Int.toNat_of_nonneg hs.1] at h
  exact ⟨h, by omega⟩
theorem sd_df {a s : Int} (ha : inN a 64) (hs : inN s 64) : Int32.ofInt a &&& Int32.ofInt (-1 - s) = Int32.ofInt (dfI a s) ∧ inR (dfI a s) := by
  have h := (bits_df a.toNat (by omega) s.toNat (by omega)).1
  rw [Int.toNat_of_nonneg ha.1, Int.toNat_of_nonneg hs.1] at h
  have h2 := dfI_b ha hs
  exact ⟨h, by omega⟩
theorem inS_n {a p : Int} (ha : inN a 64) (hp : inN p 6) : inS a p ↔ a.toNat / 2 ^ p.toNat % 2 = 1 := by
  unfold inS p2
  have e : a / ((2 ^ p.toNat : Nat) : Int) % 2 = ((a.toNat / 2 ^ p.toNat % 2 : Nat) : Int) := by
    rw [Int.natCast_emod, Int.natCast_ediv, Int.toNat_of_nonneg ha.1]
    rfl
  rw [e]
  omega
theorem inS_df {a s p : Int} (ha : inN a 64) (hs : inN s 64) (hp : inN p 6) : inS (dfI a s) p ↔ inS a p ∧ ¬ inS s p := by
  rw [inS_n (dfI_b ha hs).1 hp, inS_n ha hp, inS_n hs hp]
  exact bits_db p.toNat (by omega) a.toNat (by omega) s.toNat (by omega)
theorem sub_iff {a s : Int} (ha : inN a 64) (hs : inN s 64) : dfI s a = 0 ↔ ∀ p, inN p 6 → inS s p → inS a p := by
  constructor
  · intro h p hp h1
    rcases Classical.em (inS a p) with h2 | h2
    · exact h2
    · have := (inS_df hs ha hp).mpr ⟨h1, h2⟩
      rw [h, inS_n (by omega) hp] at this
      exact absurd this (by simp)
  · intro h
    have hb := (dfI_b hs ha).1
    have := (bits_d0 (dfI s a).toNat (by omega)).mp (fun p hp q => by
      have h1 : inS (dfI s a) (p : Int) := (inS_n hb (by omega)).mpr (by rw [Int.toNat_natCast]; exact q)
      have h2 := (inS_df hs ha (by omega)).mp h1
      exact h2.2 (h _ (by omega) h2.1))
    omega
theorem sub_le {a s : Int} (ha : inN a 64) (hs : inN s 64) (h : dfI s a = 0) : s ≤ a := by
  have h2 := (bits_dl a.toNat (by omega) s.toNat (by omega)).2
  unfold dfI at h
  have := h2 (by omega)
  omega
/-- a set of persons as a number -/
theorem set_of (P : Int → Prop) : ∃ s, inN s 64 ∧ ∀ p, inN p 6 → (inS s p ↔ P p) := by
  have b := fun i => bi_01 (P i)
  refine ⟨bi (P 0) + 2 * bi (P 1) + 4 * bi (P 2) + 8 * bi (P 3) + 16 * bi (P 4) + 32 * bi (P 5), ?_, fun p hp => ?_⟩
  · have := b 0; have := b 1; have := b 2; have := b 3; have := b 4; have := b 5; omega
  · have hb : bi (P p) = 1 ↔ P p := ⟨fun h => Classical.byContradiction fun q => by rw [bi_neg q] at h; omega, fun h => bi_pos h⟩
    rw [← hb]
    unfold inS
    have := b 0; have := b 1; have := b 2; have := b 3; have := b 4; have := b 5
    rcases (show p = 0 ∨ p = 1 ∨ p = 2 ∨ p = 3 ∨ p = 4 ∨ p = 5 by omega) with rfl | rfl | rfl | rfl | rfl | rfl
    · rw [show p2 0 = 1 by rfl]; omega
    · rw [show p2 1 = 2 by rfl]; omega
    · rw [show p2 2 = 4 by rfl]; omega
    · rw [show p2 3 = 8 by rfl]; omega
    · rw [show p2 4 = 16 by rfl]; omega
    · rw [show p2 5 = 32 by rfl]; omega
/-! work by work -/
def abN (A : Int → Int) : Nat → Int → Prop
  | 0, _ => True
  | i + 1, a => (aW A i 0 = 1 ∧ ∃ s, inN s 64 ∧ dfI s a = 0 ∧ en1 A i (inS s) ∧ abN A i (dfI a s)) ∨ (aW A i 0 ≠ 1 ∧ abN A i a)
def abI (A : Int → Int) (i a : Int) : Prop := abN A i.toNat a
theorem abI_s {A : Int → Int} {i a : Int} (h : 0 ≤ i) : abI A (i + 1) a ↔ (aW A i 0 = 1 ∧ ∃ s, inN s 64 ∧ dfI s a = 0 ∧ en1 A i (inS s) ∧ abI A i (dfI a s)) ∨ (aW A i 0 ≠ 1 ∧ abI A i a) := by
  unfold abI
  rw [show (i + 1).toNat = i.toNat + 1 by omega]
  show ((aW A (i.toNat : Int) 0 = 1 ∧ ∃ s, inN s 64 ∧ dfI s a = 0 ∧ en1 A (i.toNat : Int) (inS s) ∧ abN A i.toNat (dfI a s)) ∨ _) ↔ _
  rw [Int.toNat_of_nonneg h]
theorem ab_as {A : Int → Int} {C D : Int} (hI : InvA A C D) : ∀ (i : Nat) (a : Int), inN a 64 → (abN A i a ↔ ∃ φ : Int → Int, ∀ w, inN w i → aW A w 0 = 1 → en1 A w (fun p => inS a p ∧ φ p = w)) := by
  have h0 := hI.1
  intro i
  induction i with
  | zero => intro a ha; exact ⟨fun _ => ⟨fun _ => 0, fun w hw => by omega⟩, fun _ => trivial⟩
  | succ i ih =>
    intro a ha
    show ((aW A i 0 = 1 ∧ ∃ s, inN s 64 ∧ dfI s a = 0 ∧ en1 A i (inS s) ∧ abN A i (dfI a s)) ∨ (aW A i 0 ≠ 1 ∧ abN A i a)) ↔ _
    constructor
    · rintro (⟨h1, s, hs, hsub, he, hab⟩ | ⟨h1, hab⟩)
      · have hd := (dfI_b ha hs).1
        obtain ⟨φ, hφ⟩ := (ih _ hd).mp hab
        refine ⟨fun p => if s / p2 p % 2 = 1 then i else φ p, fun w hw hk => ?_⟩
        by_cases q : w = i
        · subst q
          refine en1_mono hI (fun p hp hz => ?_) he
          have hp6 : inN p 6 := by omega
          exact ⟨(sub_iff ha hs).mp hsub p hp6 hz, if_pos hz⟩
        · refine en1_mono hI (fun p hp hz => ?_) (hφ w (by omega) hk)
          have hp6 : inN p 6 := by omega
          have := (inS_df ha hs hp6).mp hz.1
          refine ⟨this.1, ?_⟩
          show (if s / p2 p % 2 = 1 then (i : Int) else φ p) = w
          rw [if_neg (show ¬ s / p2 p % 2 = 1 from this.2)]
          exact hz.2
      · obtain ⟨φ, hφ⟩ := (ih _ ha).mp hab
        refine ⟨φ, fun w hw hk => ?_⟩
        by_cases q : w = i
        · rw [q] at hk; exact absurd hk h1
        · exact hφ w (by omega) hk
    · rintro ⟨φ, hφ⟩
      by_cases h1 : aW A i 0 = 1
      · obtain ⟨s, hs, hsp⟩ := set_of (fun p => inS a p ∧ φ p = i)
        have hd := (dfI_b ha hs).1
        refine Or.inl ⟨h1, s, hs, (sub_iff ha hs).mpr (fun p hp hz => ((hsp p hp).mp hz).1), ?_, (ih _ hd).mpr ⟨φ, fun w hw hk => ?_⟩⟩
        · exact en1_mono hI (fun p hp hz => (hsp p (by omega)).mpr hz) (hφ i (by omega) h1)
        · refine en1_mono hI (fun p hp hz => ?_) (hφ w (by omega) hk)
          have hp6 : inN p 6 := by omega
          exact ⟨(inS_df ha hs hp6).mpr ⟨hz.1, fun z => by have := ((hsp p hp6).mp z).2; have := hz.2; omega⟩, hz.2⟩
      · exact Or.inr ⟨h1, (ih _ ha).mpr ⟨φ, fun w hw hk => hφ w (by omega) hk⟩⟩
/-! person by person -/
def wh1 (A : Int → Int) (w : Int) : Prop := inN w (A 2) ∧ aW A w 0 = 1
noncomputable def fiF (A : Int → Int) (a p : Int) (φ : Int → Int) (F : Int → Int) : Int → Int := fun j => ifP (p ≤ j / 6 ∧ j / 6 < A 1 ∧ inS a (j / 6) ∧ φ (j / 6) = j % 6) 12 (F j)
theorem cA_as {A : Int → Int} {C D a : Int} (hI : InvA A C D) : ∀ (j : Nat) (p : Int) (F : Int → Int), p + j = A 1 → 0 ≤ p → (cA A a j p F ↔ ∃ φ : Int → Int, (∀ q, p ≤ q → q < A 1 → inS a q → wh1 A (φ q)) ∧ ∀ w, wh1 A w → dn0 A (fiF A a p φ F) w) := by
  have h0 := hI.1
  intro j
  induction j with
  | zero =>
    intro p F hp h1
    have e : ∀ φ, fiF A a p φ F = F := fun φ => by
      funext i
      unfold fiF
      exact ifP_neg (by omega)
    show (∀ w, inN w (A 2) → aW A w 0 = 1 → dn0 A F w) ↔ _
    constructor
    · intro h
      exact ⟨fun _ => 0, fun q a b => by omega, fun w hw => by rw [e]; exact h w hw.1 hw.2⟩
    · rintro ⟨φ, -, h⟩ w hw hk
      have := h w ⟨hw, hk⟩
      rw [e] at this
      exact this
  | succ j ih =>
    intro p F hp h1
    show ((¬ inS a p ∧ cA A a j (p + 1) F) ∨ (inS a p ∧ ∃ w, inN w (A 2) ∧ aW A w 0 = 1 ∧ cA A a j (p + 1) (st1 F (6 * p + w) 12))) ↔ _
    have eN : ∀ φ, ¬ inS a p → fiF A a (p + 1) φ F = fiF A a p φ F := fun φ hn => by
      funext i
      unfold fiF
      refine ifP_congr ⟨fun q => ⟨by omega, q.2⟩, fun q => ⟨?_, q.2⟩⟩
      rcases Int.lt_or_le p (i / 6) with z | z
      · omega
      · exact absurd (show inS a p by rw [show p = i / 6 by omega]; exact q.2.2.1) hn
    have eY : ∀ φ w, inS a p → inN w 6 → φ p = w → fiF A a (p + 1) φ (st1 F (6 * p + w) 12) = fiF A a p φ F := fun φ w hy hw hφ => by
      funext i
      unfold fiF
      by_cases q : p + 1 ≤ i / 6 ∧ i / 6 < A 1 ∧ inS a (i / 6) ∧ φ (i / 6) = i % 6
      · rw [ifP_pos q, ifP_pos ⟨by omega, q.2⟩]
      · rw [ifP_neg q]
        by_cases q2 : i = 6 * p + w
        · rw [q2, st1_eq, ifP_pos ⟨by omega, by omega, by rw [show (6 * p + w) / 6 = p by omega]; exact hy, by rw [show (6 * p + w) / 6 = p by omega]; omega⟩]
        · rw [st1_ne q2, ifP_neg]
          rintro ⟨z1, z2, z3, z4⟩
          by_cases q3 : i / 6 = p
          · rw [q3, hφ] at z4; omega
          · exact q ⟨by omega, z2, z3, z4⟩
    constructor
    · rintro (⟨hn, hc⟩ | ⟨hy, w, hw, hk, hc⟩)
      · obtain ⟨φ, f1, f2⟩ := (ih (p + 1) F (by omega) (by omega)).mp hc
        refine ⟨φ, fun q a1 b1 c1 => ?_, fun w hw => by rw [← eN φ hn]; exact f2 w hw⟩
        by_cases z : q = p
        · rw [z] at c1; exact absurd c1 hn
        · exact f1 q (by omega) b1 c1
      · obtain ⟨φ, f1, f2⟩ := (ih (p + 1) _ (by omega) (by omega)).mp hc
        have e2 : fiF A a (p + 1) φ (st1 F (6 * p + w) 12) = fiF A a (p + 1) (st1 φ p w) (st1 F (6 * p + w) 12) := by
          funext i
          unfold fiF
          refine ifP_congr ⟨fun q => ⟨q.1, q.2.1, q.2.2.1, by rw [st1_ne (by omega)]; exact q.2.2.2⟩, fun q => ⟨q.1, q.2.1, q.2.2.1, by have := q.2.2.2; rw [st1_ne (by omega)] at this; exact this⟩⟩
        refine ⟨st1 φ p w, fun q a1 b1 c1 => ?_, fun u hu => ?_⟩
        · by_cases z : q = p
          · rw [z, st1_eq]; exact ⟨hw, hk⟩
          · rw [st1_ne z]; exact f1 q (by omega) b1 c1
        · rw [← eY (st1 φ p w) w hy (by omega) (st1_eq _ _ _), ← e2]
          exact f2 u hu
    · rintro ⟨φ, f1, f2⟩
      by_cases hy : inS a p
      · have hw := f1 p (Int.le_refl _) (by omega) hy
        refine Or.inr ⟨hy, φ p, hw.1, hw.2, (ih (p + 1) _ (by omega) (by omega)).mpr ⟨φ, fun q a1 b1 c1 => f1 q (by omega) b1 c1, fun u hu => ?_⟩⟩
        rw [eY φ (φ p) hy (by have := hw.1; omega) rfl]
        exact f2 u hu
      · refine Or.inl ⟨hy, (ih (p + 1) F (by omega) (by omega)).mpr ⟨φ, fun q a1 b1 c1 => f1 q (by omega) b1 c1, fun u hu => ?_⟩⟩
        rw [eN φ hy]
        exact f2 u hu
theorem cA_ab {A : Int → Int} {C D a : Int} (hI : InvA A C D) (ha : inN a 64) (hs : some1 A (A 2)) : cA A a (A 1).toNat 0 zF ↔ abI A (A 2) a := by
  have h0 := hI.1
  rw [cA_as hI (A 1).toNat 0 zF (by omega) (by omega)]
  unfold abI
  rw [ab_as hI (A 2).toNat a ha, Int.toNat_of_nonneg (by omega : 0 ≤ A 2)]
  have dn : ∀ φ w, wh1 A w → (dn0 A (fiF A a 0 φ zF) w ↔ en1 A w (fun p => inS a p ∧ φ p = w)) := fun φ w hw => by
    have hw6 : inN w 6 := by have := hw.1; omega
    have e : ∀ p, inN p (A 1) → ((inS a p ∧ φ p = w) → fiF A a 0 φ zF (6 * p + w) = 12) ∧ (¬ (inS a p ∧ φ p = w) → fiF A a 0 φ zF (6 * p + w) = 0) := fun p hp => by
      unfold fiF
      rw [show (6 * p + w) / 6 = p by omega, show (6 * p + w) % 6 = w by omega]
      exact ⟨fun q => ifP_pos ⟨hp.1, hp.2, q.1, q.2⟩, fun q => ifP_neg (fun z => q ⟨z.2.2.1, z.2.2.2⟩)⟩
    rw [dn0_en hI hw.2 (fun p hp => by
      by_cases q : inS a p ∧ φ p = w
      · exact Or.inr ((e p hp).1 q)
      · exact Or.inl ((e p hp).2 q))]
    refine en1_cg hI (fun p hp => ⟨fun h => Classical.byContradiction fun q => by rw [(e p hp).2 q] at h; omega, (e p hp).1⟩)
  constructor
  · rintro ⟨φ, -, f2⟩
    exact ⟨φ, fun w hw hk => (dn φ w ⟨hw, hk⟩).mp (f2 w ⟨hw, hk⟩)⟩
  · rintro ⟨φ, hφ⟩
    obtain ⟨w0, hw0, hk0⟩ := hs
    refine ⟨fun p => ifP (wh1 A (φ p)) (φ p) w0, fun q _ _ _ => ?_, fun w hw => (dn _ w hw).mpr (en1_mono hI (fun p hp hz => ⟨hz.1, ?_⟩) (hφ w hw.1 hw.2))⟩
    · by_cases z : wh1 A (φ q)
      · show wh1 A (ifP (wh1 A (φ q)) (φ q) w0)
        rw [ifP_pos z]; exact z
      · show wh1 A (ifP (wh1 A (φ q)) (φ q) w0)
        rw [ifP_neg z]; exact ⟨hw0, hk0⟩
    · show ifP (wh1 A (φ p)) (φ p) w0 = w
      rw [ifP_pos (by rw [hz.2]; exact hw)]
      exact hz.2
/-- the class's choice -/
noncomputable def fwN (P : Int → Prop) : Nat → Int
  | 0 => -9
  | n + 1 => ifP (P n ∧ (fwN P n = -9 ∨ pcI n < pcI (fwN P n))) (n : Int) (fwN P n)
noncomputable def fwI (P : Int → Prop) (n : Int) : Int := fwN P n.toNat
theorem fwI_s {P : Int → Prop} {n : Int} (h : 0 ≤ n) : fwI P (n + 1) = ifP (P n ∧ (fwI P n = -9 ∨ pcI n < pcI (fwI P n))) n (fwI P n) := by
  unfold fwI
  rw [show (n + 1).toNat = n.toNat + 1 by omega]
  show ifP (P (n.toNat : Int) ∧ (fwN P n.toNat = -9 ∨ pcI (n.toNat : Int) < pcI (fwN P n.toNat))) (n.toNat : Int) (fwN P n.toNat) = _
  rw [Int.toNat_of_nonneg h]
theorem fwI_b {P : Int → Prop} {n : Int} (h : 0 ≤ n) : fwI P n = -9 ∨ inN (fwI P n) n := by
  obtain ⟨j, rfl⟩ : ∃ j : Nat, n = j := ⟨n.toNat, by omega⟩
  clear h
  induction j with
  | zero => exact Or.inl rfl
  | succ j ih =>
    rw [show ((j + 1 : Nat) : Int) = (j : Int) + 1 by omega, fwI_s (by omega)]
    by_cases q : P j ∧ (fwI P j = -9 ∨ pcI (j : Int) < pcI (fwI P j))
    · rw [ifP_pos q]; omega
    · rw [ifP_neg q]; omega
theorem fw_must {A : Int → Int} {C D : Int} (hI : InvA A C D) : fwI (fun a => a < p2 (A 1) ∧ abI A (A 2) a) 64 = mustA A := by
  have h0 := hI.1
  have hp6 : 1 ≤ p2 (A 1) ∧ p2 (A 1) ≤ 64 := by
    rcases (show A 1 = 0 ∨ A 1 = 1 ∨ A 1 = 2 ∨ A 1 = 3 ∨ A 1 = 4 ∨ A 1 = 5 ∨ A 1 = 6 by omega) with e | e | e | e | e | e | e <;> rw [e] <;> decide
  have tail : ∀ (j : Nat), p2 (A 1) + j ≤ 64 → fwI (fun a => a < p2 (A 1) ∧ abI A (A 2) a) (p2 (A 1) + j) = fwI (fun a => a < p2 (A 1) ∧ abI A (A 2) a) (p2 (A 1)) := by
    intro j
    induction j with
    | zero => intro _; rw [show p2 (A 1) + ((0 : Nat) : Int) = p2 (A 1) by omega]
    | succ j ih =>
      intro hj
      rw [show p2 (A 1) + ((j + 1 : Nat) : Int) = (p2 (A 1) + j) + 1 by omega, fwI_s (by omega), ifP_neg (fun q => by have := q.1.1; omega)]
      exact ih (by omega)
  have e64 := tail (64 - p2 (A 1)).toNat (by omega)
  rw [show p2 (A 1) + ((64 - p2 (A 1)).toNat : Int) = 64 by omega] at e64
  rw [e64]
  unfold mustA
  by_cases hs : some1 A (A 2)
  · rw [ifP_pos hs]
    have key : ∀ (j : Nat), (j : Int) ≤ p2 (A 1) → fwI (fun a => a < p2 (A 1) ∧ abI A (A 2) a) j = muI A j := by
      intro j
      induction j with
      | zero => intro _; rfl
      | succ j ih =>
        intro hj
        have hb := muI_b (A := A) (show (0 : Int) ≤ j by omega)
        have hc := cA_ab (a := j) hI (by omega) hs
        rw [show ((j + 1 : Nat) : Int) = (j : Int) + 1 by omega, fwI_s (by omega), muI_s (by omega), ih (by omega)]
        refine ifP_congr ⟨fun q => ⟨q.2.imp (fun z => by omega) id, hc.mpr q.1.2⟩, fun q => ⟨⟨by omega, hc.mp q.2⟩, q.1.imp (fun z => by omega) id⟩⟩
    have := key (p2 (A 1)).toNat (by omega)
    rw [Int.toNat_of_nonneg (by omega)] at this
    exact this
  · rw [ifP_neg hs]
    have ab : ∀ a, abI A (A 2) a := by
      have : ∀ (i : Nat) (a : Int), (i : Int) ≤ A 2 → abN A i a := by
        intro i
        induction i with
        | zero => intro a _; trivial
        | succ i ih => intro a hi; exact Or.inr ⟨fun q => hs ⟨i, by omega, q⟩, ih a (by omega)⟩
      exact fun a => this _ a (by omega)
    have key : ∀ (j : Nat), ((j : Int) + 1) ≤ p2 (A 1) → fwI (fun a => a < p2 (A 1) ∧ abI A (A 2) a) (j + 1) = 0 := by
      intro j
      induction j with
      | zero =>
        intro _
        rw [fwI_s (by omega)]
        exact ifP_pos ⟨⟨by omega, ab _⟩, Or.inl rfl⟩
      | succ j ih =>
        intro hj
        rw [fwI_s (by omega), show ((j + 1 : Nat) : Int) = (j : Int) + 1 by omega, ih (by omega)]
        refine ifP_neg (fun q => ?_)
        have h1 := (pcI_b (x := (j : Int) + 1) (by omega)).1
        have h2 : pcI 0 = 0 := rfl
        rcases q.2 with z | z <;> omega
    have := key (p2 (A 1) - 1).toNat (by omega)
    rw [show (((p2 (A 1) - 1).toNat : Int) + 1) = p2 (A 1) by omega] at this
    exact this
