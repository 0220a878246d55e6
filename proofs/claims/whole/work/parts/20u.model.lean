/-! ===== 20u: the reference: comes ===== -/
section Mod
variable {G : GC} {X : JX} {m : HM} {κ p t τ w x y z i k q b h c n a : Int} {A N S g F B W T f : Int → Int} {H C D : Int}
theorem cmP.r {m' : HM} {ok : Prop} {A' : Int → Int} {r : Int} (h : cmP m ok A' r m') : r = 0 ∨ r = 1 := h.elim (fun q => Or.inr q.1) (fun q => Or.inl q.1)
theorem cmP.cv {m' : HM} {ok ok' : Prop} {A' A2 : Int → Int} {r : Int} (h : cmP m ok A' r m') (ho : ok ↔ ok') (ha : ok → A' = A2) : cmP m ok' A2 r m' := by
  rcases h with ⟨h1, h2, h3⟩ | ⟨h1, h2, h3⟩
  · exact Or.inl ⟨h1, ho.mp h2, by rw [h3, ha h2]⟩
  · exact Or.inr ⟨h1, fun q => h2 (ho.mpr q), h3⟩
theorem okS_n {A f : Int → Int} : okS A 110 f ↔ okPl A (f 0) := ⟨fun h => by simpa [okS] using h, fun h => Or.inl ⟨rfl, h⟩⟩
theorem okS_w {A f : Int → Int} : okS A 119 f ↔ okWay A (f 0) (f 1) (f 2) := ⟨fun h => by simpa [okS] using h, fun h => Or.inr (Or.inl ⟨rfl, h⟩)⟩
theorem okS_p {A f : Int → Int} : okS A 112 f ↔ okPer A f := ⟨fun h => by simpa [okS] using h, fun h => Or.inr (Or.inr (Or.inl ⟨rfl, h⟩))⟩
theorem okS_k {A f : Int → Int} : okS A 107 f ↔ okWo A f := ⟨fun h => by simpa [okS] using h, fun h => Or.inr (Or.inr (Or.inr ⟨rfl, h⟩))⟩
theorem cmP.yes {ok : Prop} {A' : Int → Int} (hy : ok) : pi (cmP m ok A') (some (vi 1)) (upr m 44 0 0 A') := ⟨1, rfl, Or.inl ⟨rfl, hy, rfl⟩⟩
theorem l_cw1 {d0 d1 : Int} (hX : Ok_X10_comes G X 4) (hA : m 44 0 0 = A) (K234 : ∀ b, J G X 234 [vr 40 0 0, vi 107, vi d0, vi d1, vi (bi (okWo A (m 46 0 0))), b] [] m) : ∀ i, 2 ≤ i → i ≤ 5 → J G X 197 [vr 40 0 0, vi 107, vi d0, vi d1, vi (bi (m 46 0 0 1 < A 0 ∧ A 2 < 6 ∧ ∀ j, 2 ≤ j → j < i → m 46 0 0 j ≤ 200)), vi i] [] m := by
  have e5 : bi (m 46 0 0 1 < A 0 ∧ A 2 < 6 ∧ ∀ j, 2 ≤ j → j < 5 → m 46 0 0 j ≤ 200) = bi (okWo A (m 46 0 0)) := bi_congr ⟨fun q => ⟨q.1, q.2.1, q.2.2 2 (by omega) (by omega), q.2.2 3 (by omega) (by omega), q.2.2 4 (by omega) (by omega)⟩, fun q => ⟨q.1, q.2.1, fun j a b => by
    have := q.2.2
    rcases (show j = 2 ∨ j = 3 ∨ j = 4 by omega) with rfl | rfl | rfl <;> omega⟩⟩
  refine up_to (fun i h1 h2 ih => ?_)
  refine J_iload hX rfl dX10_comes_197 ?_
  refine J_iconst hX (by decide) dX10_comes_199 ?_
  refine J_icmp_ge (tgt := 234) hX (by decide) dX10_comes_200 (fun h3 => ?_) (fun h3 => ?_)
  · have e : i = 5 := by omega
    subst e
    rw [e5]
    exact K234 _
  · have nx := ih h3
    refine J_iload hX rfl dX10_comes_203 ?_
    refine J_ifb_eq (tgt := 225) hX (by decide) dX10_comes_205 (fun h4 => ?_) (fun h4 => ?_)
    · have e : bi (m 46 0 0 1 < A 0 ∧ A 2 < 6 ∧ ∀ j, 2 ≤ j → j < i + 1 → m 46 0 0 j ≤ 200) = 0 := bi_neg (fun q => h4 ⟨q.1, q.2.1, fun j a b => q.2.2 j a (by omega)⟩)
      rw [e] at nx
      refine J_iconst hX (by decide) dX10_comes_225 ?_
      refine si_4 hX dX10_comes_226 ?_
      refine sinc_5 hX (fun _ => by omega) dX10_comes_228 ?_
      refine J_goto (tgt := 197) hX (by decide) dX10_comes_231 ?_
      exact nx
    · refine J_aloadN hX rfl rfl dX10_comes_208 ?_
      refine G_HalfHereModel_told hX dX10_comes_209 mF_X10_25 ?_
      refine J_iload hX rfl dX10_comes_212 ?_
      refine L_46 hX (by omega) dX10_comes_214 ?_
      refine J_sipush hX (by decide) dX10_comes_215 ?_
      refine J_icmp_gt (tgt := 225) hX (by decide) dX10_comes_218 (fun h5 => ?_) (fun h5 => ?_)
      · have e : bi (m 46 0 0 1 < A 0 ∧ A 2 < 6 ∧ ∀ j, 2 ≤ j → j < i + 1 → m 46 0 0 j ≤ 200) = 0 := bi_neg (fun q => by have := q.2.2 i h1 (by omega); omega)
        rw [e] at nx
        refine J_iconst hX (by decide) dX10_comes_225 ?_
        refine si_4 hX dX10_comes_226 ?_
        refine sinc_5 hX (fun _ => by omega) dX10_comes_228 ?_
        refine J_goto (tgt := 197) hX (by decide) dX10_comes_231 ?_
        exact nx
      · have e : bi (m 46 0 0 1 < A 0 ∧ A 2 < 6 ∧ ∀ j, 2 ≤ j → j < i + 1 → m 46 0 0 j ≤ 200) = 1 := bi_pos ⟨h4.1, h4.2.1, fun j a b => by
          by_cases q : j = i
          · rw [q]; omega
          · exact h4.2.2 j a (by omega)⟩
        rw [e] at nx
        refine J_iconst hX (by decide) dX10_comes_221 ?_
        refine J_goto (tgt := 226) hX (by decide) dX10_comes_222 ?_
        refine si_4 hX dX10_comes_226 ?_
        refine sinc_5 hX (fun _ => by omega) dX10_comes_228 ?_
        refine J_goto (tgt := 197) hX (by decide) dX10_comes_231 ?_
        exact nx
theorem l_cw2 {d0 d1 d2 : Int} (hX : Ok_X10_comes G X 4) (hA : m 44 0 0 = A) (h2A : 0 ≤ A 2 ∧ A 2 < 6) (K : ∀ b, J G X 284 [vr 40 0 0, vi 107, vi d0, vi d1, vi d2, b] [] (upr m 44 0 0 (lay A (63 + 6 * A 2) 6 (m 46 0 0)))) : ∀ k, 0 ≤ k → k ≤ 6 → J G X 244 [vr 40 0 0, vi 107, vi d0, vi d1, vi d2, vi k] [] (upr m 44 0 0 (lay A (63 + 6 * A 2) k (m 46 0 0))) := by
  refine up_to (fun k h1 h2 ih => ?_)
  have e2 : upr m 44 0 0 (lay A (63 + 6 * A 2) k (m 46 0 0)) 44 0 0 2 = A 2 := by rw [at44]; exact lay_out (by omega)
  refine J_iload hX rfl dX10_comes_244 ?_
  refine J_bipush hX (by decide) dX10_comes_246 ?_
  refine J_icmp_ge (tgt := 284) hX (by decide) dX10_comes_248 (fun h3 => ?_) (fun h3 => ?_)
  · have e : k = 6 := by omega
    subst e
    exact K _
  · have nx := ih h3
    rw [← lay_s h1] at nx
    refine J_aloadN hX rfl rfl dX10_comes_251 ?_
    refine G_HalfHereModel_read hX dX10_comes_252 mF_X10_19 ?_
    refine J_bipush hX (by decide) dX10_comes_255 ?_
    refine J_bipush hX (by decide) dX10_comes_257 ?_
    refine J_aloadN hX rfl rfl dX10_comes_259 ?_
    refine G_HalfHereModel_read hX dX10_comes_260 mF_X10_19 ?_
    refine J_iconst hX (by decide) dX10_comes_263 ?_
    refine L_44 hX (by omega) dX10_comes_264 ?_
    rw [e2]
    refine J_imul hX (fun _ _ => by omega) dX10_comes_265 ?_
    refine J_iadd hX (fun _ _ => by omega) dX10_comes_266 ?_
    refine J_iload hX rfl dX10_comes_267 ?_
    refine J_iadd hX (fun _ _ => by omega) dX10_comes_269 ?_
    refine J_aloadN hX rfl rfl dX10_comes_270 ?_
    refine G_HalfHereModel_told hX dX10_comes_271 mF_X10_25 ?_
    refine J_iload hX rfl dX10_comes_274 ?_
    refine L_46 hX (by omega) dX10_comes_276 ?_
    refine S_44 hX (by omega) dX10_comes_277 ?_
    refine sinc_5 hX (fun _ => by omega) dX10_comes_278 ?_
    refine J_goto (tgt := 244) hX (by decide) dX10_comes_281 ?_
    simp only [at44, up44]
    rw [upr_tag (by decide)]
    exact nx
theorem c_comes (hA : m 44 0 0 = A) (hI : InvA A C D) (hf : ∀ k, 0 ≤ k → k < cntS x → 0 ≤ m 46 0 0 k) (hc : x = 110 ∨ x = 119 ∨ x = 112 ∨ x = 107) : K_X10_comes G [vr 40 0 0, vi x] m (pi (cmP m (okS A x (m 46 0 0)) (upS A x (m 46 0 0)))) := by
  refine E_X10_comes (fun X hX hR0 hr _ => ?_)
  have h0 := hI.1
  rcases hc with rfl | rfl | rfl | rfl
  · have no : ¬ okS A 110 (m 46 0 0) → ∀ a b c d, J G X 62 [vr 40 0 0, a, b, c, d, vx] [] m := fun hn a b c d => by
      refine J_iconst hX (by decide) dX10_comes_62 ?_
      refine J_zret hX hR0 dX10_comes_63 (Or.inl rfl) ?_
      exact cmP.no hn
    refine J_aloadN hX rfl rfl dX10_comes_0 ?_
    refine G_HalfHereModel_told hX dX10_comes_1 mF_X10_25 ?_
    refine J_iconst hX (by decide) dX10_comes_4 ?_
    refine L_46 hX (by omega) dX10_comes_5 ?_
    refine siN_2 hX dX10_comes_6 ?_
    refine J_aloadN hX rfl rfl dX10_comes_7 ?_
    refine G_HalfHereModel_told hX dX10_comes_8 mF_X10_25 ?_
    refine J_iconst hX (by decide) dX10_comes_11 ?_
    refine L_46 hX (by omega) dX10_comes_12 ?_
    refine siN_3 hX dX10_comes_13 ?_
    refine J_iloadN hX rfl rfl dX10_comes_14 ?_
    refine J_lookup (off := 33) (tgt := 48) hX rfl (by decide +kernel) (by decide) dX10_comes_15 ?_
    refine J_iloadN hX rfl rfl dX10_comes_48 ?_
    refine J_bipush hX (by decide) dX10_comes_49 ?_
    refine J_icmp_gt (tgt := 62) hX (by decide) dX10_comes_51 (fun h1 => ?_) (fun h1 => ?_)
    · exact no (fun q => by have := (okS_n.mp q).2.1; omega) _ _ _ _
    · refine J_iloadN hX rfl rfl dX10_comes_54 ?_
      refine J_aloadN hX rfl rfl dX10_comes_55 ?_
      refine cV0i hX cb_X10_toldOf mL_X10_87 dX10_comes_56 (c_toldOf hA hI) (fun r m2 h2 => ?_)
      obtain ⟨h2, rfl⟩ := h2
      refine J_icmp_ge (tgt := 64) hX (by decide) dX10_comes_59 (fun h3 => ?_) (fun h3 => ?_)
      · skip
        refine J_aloadN hX rfl rfl dX10_comes_64 ?_
        refine G_HalfHereModel_read hX dX10_comes_65 mF_X10_19 ?_
        refine J_iconst hX (by decide) dX10_comes_68 ?_
        refine J_iloadN hX rfl rfl dX10_comes_69 ?_
        refine S_44 hX (by omega) dX10_comes_70 ?_
        refine J_iconst hX (by decide) dX10_comes_71 ?_
        refine J_zret hX hR0 dX10_comes_72 (Or.inr rfl) ?_
        rw [hA]
        exact cmP.yes (okS_n.mpr ((h2.ok (by omega)).mpr h3))
      · exact no (fun q => by have := (h2.ok (by omega)).mp (okS_n.mp q); omega) _ _ _ _
  · have no : ¬ okS A 119 (m 46 0 0) → ∀ a b c d, J G X 119 [vr 40 0 0, a, b, c, d, vx] [] m := fun hn a b c d => by
      refine J_iconst hX (by decide) dX10_comes_119 ?_
      refine J_zret hX hR0 dX10_comes_120 (Or.inl rfl) ?_
      exact cmP.no hn
    have f0 := hf 0 (by omega) (by decide)
    have f1 := hf 1 (by omega) (by decide)
    refine J_aloadN hX rfl rfl dX10_comes_0 ?_
    refine G_HalfHereModel_told hX dX10_comes_1 mF_X10_25 ?_
    refine J_iconst hX (by decide) dX10_comes_4 ?_
    refine L_46 hX (by omega) dX10_comes_5 ?_
    refine siN_2 hX dX10_comes_6 ?_
    refine J_aloadN hX rfl rfl dX10_comes_7 ?_
    refine G_HalfHereModel_told hX dX10_comes_8 mF_X10_25 ?_
    refine J_iconst hX (by decide) dX10_comes_11 ?_
    refine L_46 hX (by omega) dX10_comes_12 ?_
    refine siN_3 hX dX10_comes_13 ?_
    refine J_iloadN hX rfl rfl dX10_comes_14 ?_
    refine J_lookup (off := 58) (tgt := 73) hX rfl (by decide +kernel) (by decide) dX10_comes_15 ?_
    refine J_iloadN hX rfl rfl dX10_comes_73 ?_
    refine J_aloadN hX rfl rfl dX10_comes_74 ?_
    refine G_HalfHereModel_read hX dX10_comes_75 mF_X10_19 ?_
    refine J_iconst hX (by decide) dX10_comes_78 ?_
    refine L_44 hX (by omega) dX10_comes_79 ?_
    rw [hA]
    refine J_icmp_ge (tgt := 119) hX (by decide) dX10_comes_80 (fun h1 => ?_) (fun h1 => ?_)
    · exact no (fun q => by have := (okS_w.mp q).1; omega) _ _ _ _
    · refine J_iloadN hX rfl rfl dX10_comes_83 ?_
      refine J_aloadN hX rfl rfl dX10_comes_84 ?_
      refine G_HalfHereModel_read hX dX10_comes_85 mF_X10_19 ?_
      refine J_iconst hX (by decide) dX10_comes_88 ?_
      refine L_44 hX (by omega) dX10_comes_89 ?_
      rw [hA]
      refine J_icmp_ge (tgt := 119) hX (by decide) dX10_comes_90 (fun h2 => ?_) (fun h2 => ?_)
      · exact no (fun q => by have := (okS_w.mp q).2.1; omega) _ _ _ _
      · refine J_iloadN hX rfl rfl dX10_comes_93 ?_
        refine J_iloadN hX rfl rfl dX10_comes_94 ?_
        refine J_icmp_eq (tgt := 119) hX (by decide) dX10_comes_95 (fun h3 => ?_) (fun h3 => ?_)
        · exact no (fun q => (okS_w.mp q).2.2.1 h3) _ _ _ _
        · refine J_aloadN hX rfl rfl dX10_comes_98 ?_
          refine G_HalfHereModel_told hX dX10_comes_99 mF_X10_25 ?_
          refine J_iconst hX (by decide) dX10_comes_102 ?_
          refine L_46 hX (by omega) dX10_comes_103 ?_
          refine J_iconst hX (by decide) dX10_comes_104 ?_
          refine J_icmp_lt (tgt := 119) hX (by decide) dX10_comes_105 (fun h4 => ?_) (fun h4 => ?_)
          · exact no (fun q => by have := (okS_w.mp q).2.2.2.1; omega) _ _ _ _
          · refine J_aloadN hX rfl rfl dX10_comes_108 ?_
            refine G_HalfHereModel_told hX dX10_comes_109 mF_X10_25 ?_
            refine J_iconst hX (by decide) dX10_comes_112 ?_
            refine L_46 hX (by omega) dX10_comes_113 ?_
            refine J_bipush hX (by decide) dX10_comes_114 ?_
            refine J_icmp_le (tgt := 121) hX (by decide) dX10_comes_116 (fun h5 => ?_) (fun h5 => ?_)
            · refine J_aloadN hX rfl rfl dX10_comes_121 ?_
              refine G_HalfHereModel_read hX dX10_comes_122 mF_X10_19 ?_
              refine J_iconst hX (by decide) dX10_comes_125 ?_
              refine J_bipush hX (by decide) dX10_comes_126 ?_
              refine J_iloadN hX rfl rfl dX10_comes_128 ?_
              refine J_imul hX (fun _ _ => by omega) dX10_comes_129 ?_
              refine J_iadd hX (fun _ _ => by omega) dX10_comes_130 ?_
              refine J_iloadN hX rfl rfl dX10_comes_131 ?_
              refine J_iadd hX (fun _ _ => by omega) dX10_comes_132 ?_
              refine J_aloadN hX rfl rfl dX10_comes_133 ?_
              refine G_HalfHereModel_told hX dX10_comes_134 mF_X10_25 ?_
              refine J_iconst hX (by decide) dX10_comes_137 ?_
              refine L_46 hX (by omega) dX10_comes_138 ?_
              refine S_44 hX (by omega) dX10_comes_139 ?_
              refine J_aloadN hX rfl rfl dX10_comes_140 ?_
              refine G_HalfHereModel_read hX dX10_comes_141 mF_X10_19 ?_
              refine J_iconst hX (by decide) dX10_comes_144 ?_
              refine J_bipush hX (by decide) dX10_comes_145 ?_
              refine J_iloadN hX rfl rfl dX10_comes_147 ?_
              refine J_imul hX (fun _ _ => by omega) dX10_comes_148 ?_
              refine J_iadd hX (fun _ _ => by omega) dX10_comes_149 ?_
              refine J_iloadN hX rfl rfl dX10_comes_150 ?_
              refine J_iadd hX (fun _ _ => by omega) dX10_comes_151 ?_
              refine J_aloadN hX rfl rfl dX10_comes_152 ?_
              refine G_HalfHereModel_told hX dX10_comes_153 mF_X10_25 ?_
              refine J_iconst hX (by decide) dX10_comes_156 ?_
              refine L_46 hX (by omega) dX10_comes_157 ?_
              refine S_44 hX (by omega) dX10_comes_158 ?_
              refine J_iconst hX (by decide) dX10_comes_159 ?_
              simp only [at44, up44]
              rw [upr_tag (by decide), hA]
              refine J_zret hX hR0 dX10_comes_160 (Or.inr rfl) ?_
              exact cmP.yes (okS_w.mpr ⟨h1, h2, h3, by omega, h5⟩)
            · exact no (fun q => by have := (okS_w.mp q).2.2.2.2; omega) _ _ _ _
  · skip
    refine J_aloadN hX rfl rfl dX10_comes_0 ?_
    refine G_HalfHereModel_told hX dX10_comes_1 mF_X10_25 ?_
    refine J_iconst hX (by decide) dX10_comes_4 ?_
    refine L_46 hX (by omega) dX10_comes_5 ?_
    refine siN_2 hX dX10_comes_6 ?_
    refine J_aloadN hX rfl rfl dX10_comes_7 ?_
    refine G_HalfHereModel_told hX dX10_comes_8 mF_X10_25 ?_
    refine J_iconst hX (by decide) dX10_comes_11 ?_
    refine L_46 hX (by omega) dX10_comes_12 ?_
    refine siN_3 hX dX10_comes_13 ?_
    refine J_iloadN hX rfl rfl dX10_comes_14 ?_
    refine J_lookup (off := 146) (tgt := 161) hX rfl (by decide +kernel) (by decide) dX10_comes_15 ?_
    refine J_aloadN hX rfl rfl dX10_comes_161 ?_
    refine cV0i hX cb_X10_comesPerson mL_X10_90 dX10_comes_162 (c_comesPerson hA hI) (fun r m2 h2 => ?_)
    exact J_zret hX hR0 dX10_comes_165 (cmP.r h2 ) ( ⟨r, rfl, h2.cv okS_p.symm (fun _ => rfl)⟩)
  · have f1 := hf 1 (by omega) (by decide)
    have K1 : ∀ b, J G X 234 [vr 40 0 0, vi 107, vi (m 46 0 0 0), vi (m 46 0 0 1), vi (bi (okWo A (m 46 0 0))), b] [] m := fun b => by
      refine J_iload hX rfl dX10_comes_234 ?_
      refine J_ifb_ne (tgt := 241) hX (by decide) dX10_comes_236 (fun h1 => ?_) (fun h1 => ?_)
      · refine J_iconst hX (by decide) dX10_comes_241 ?_
        refine si_5 hX dX10_comes_242 ?_
        have k2 := l_cw2 (d0 := m 46 0 0 0) (d1 := m 46 0 0 1) (d2 := bi (okWo A (m 46 0 0))) hX hA ⟨h0.2.2.2.2.1, h1.2.1⟩ (fun b => by
          have e2 : upr m 44 0 0 (lay A (63 + 6 * A 2) 6 (m 46 0 0)) 44 0 0 2 = A 2 := by rw [at44]; exact lay_out (by omega)
          have q2 := h1.2.1
          refine J_aloadN hX rfl rfl dX10_comes_284 ?_
          refine G_HalfHereModel_read hX dX10_comes_285 mF_X10_19 ?_
          refine J_iconst hX (by decide) dX10_comes_288 ?_
          refine J_dup2 hX rfl rfl dX10_comes_289 ?_
          refine L_44 hX (by omega) dX10_comes_290 ?_
          refine J_iconst hX (by decide) dX10_comes_291 ?_
          refine J_iadd hX (fun _ _ => by omega) dX10_comes_292 ?_
          refine S_44 hX (by omega) dX10_comes_293 ?_
          refine J_iconst hX (by decide) dX10_comes_294 ?_
          simp only [at44, up44]
          rw [lay_out (by omega)]
          refine J_zret hX hR0 dX10_comes_295 (Or.inr rfl) ?_
          exact cmP.yes (okS_k.mpr h1)) 0 (by omega) (by omega)
        rw [lay_0, show upr m 44 0 0 A = m by rw [← hA]; exact upr_self _ _ _ _] at k2
        exact k2
      · refine J_iconst hX (by decide) dX10_comes_239 ?_
        refine J_zret hX hR0 dX10_comes_240 (Or.inl rfl) ?_
        exact cmP.no (fun q => h1 (okS_k.mp q))
    have k1 := l_cw1 (d0 := m 46 0 0 0) (d1 := m 46 0 0 1) hX hA K1 2 (by omega) (by omega)
    have K192 : ∀ z, z = bi (m 46 0 0 1 < A 0 ∧ A 2 < 6 ∧ ∀ j, 2 ≤ j → j < 2 → m 46 0 0 j ≤ 200) → J G X 192 [vr 40 0 0, vi 107, vi (m 46 0 0 0), vi (m 46 0 0 1), vx, vx] [vi z] m := fun z hz => by
      rw [hz]
      refine si_4 hX dX10_comes_192 ?_
      refine J_iconst hX (by decide) dX10_comes_194 ?_
      refine si_5 hX dX10_comes_195 ?_
      exact k1
    refine J_aloadN hX rfl rfl dX10_comes_0 ?_
    refine G_HalfHereModel_told hX dX10_comes_1 mF_X10_25 ?_
    refine J_iconst hX (by decide) dX10_comes_4 ?_
    refine L_46 hX (by omega) dX10_comes_5 ?_
    refine siN_2 hX dX10_comes_6 ?_
    refine J_aloadN hX rfl rfl dX10_comes_7 ?_
    refine G_HalfHereModel_told hX dX10_comes_8 mF_X10_25 ?_
    refine J_iconst hX (by decide) dX10_comes_11 ?_
    refine L_46 hX (by omega) dX10_comes_12 ?_
    refine siN_3 hX dX10_comes_13 ?_
    refine J_iloadN hX rfl rfl dX10_comes_14 ?_
    refine J_lookup (off := 151) (tgt := 166) hX rfl (by decide +kernel) (by decide) dX10_comes_15 ?_
    refine J_iloadN hX rfl rfl dX10_comes_166 ?_
    refine J_aloadN hX rfl rfl dX10_comes_167 ?_
    refine G_HalfHereModel_read hX dX10_comes_168 mF_X10_19 ?_
    refine J_iconst hX (by decide) dX10_comes_171 ?_
    refine L_44 hX (by omega) dX10_comes_172 ?_
    rw [hA]
    refine J_icmp_ge (tgt := 191) hX (by decide) dX10_comes_173 (fun h1 => ?_) (fun h1 => ?_)
    · refine J_iconst hX (by decide) dX10_comes_191 ?_
      exact K192 _ (bi_neg (fun q => by have := q.1; omega)).symm
    · refine J_aloadN hX rfl rfl dX10_comes_176 ?_
      refine G_HalfHereModel_read hX dX10_comes_177 mF_X10_19 ?_
      refine J_iconst hX (by decide) dX10_comes_180 ?_
      refine L_44 hX (by omega) dX10_comes_181 ?_
      refine J_bipush hX (by decide) dX10_comes_182 ?_
      rw [hA]
      refine J_icmp_ge (tgt := 191) hX (by decide) dX10_comes_184 (fun h2 => ?_) (fun h2 => ?_)
      · refine J_iconst hX (by decide) dX10_comes_191 ?_
        exact K192 _ (bi_neg (fun q => by have := q.2.1; omega)).symm
      · refine J_iconst hX (by decide) dX10_comes_187 ?_
        refine J_goto (tgt := 192) hX (by decide) dX10_comes_188 ?_
        exact K192 _ (bi_pos ⟨h1, h2, fun j a b => by omega⟩).symm
end Mod
