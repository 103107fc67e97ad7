/-! what the law's questions answer -/
theorem il_13 : (13 : Int32) = nI 13 := rfl
theorem sfc1_i {α γ : Type} {x : Option γ} {k : γ → Option α} {R : Option α} {a : γ} (h : x = some a) (h2 : k a = R) : sf_c1 x k = R := by subst h; exact h2
theorem sfc2_i {α γ δ : Type} {x : Option (γ × δ)} {k : γ → δ → Option α} {R : Option α} {a : γ} {b : δ} (h : x = some (a, b)) (h2 : k a b = R) : sf_c2 x k = R := by subst h; exact h2
theorem sfc3_i {α γ δ ε : Type} {x : Option (γ × δ × ε)} {k : γ → δ → ε → Option α} {R : Option α} {a : γ} {b : δ} {c : ε} (h : x = some (a, b, c)) (h2 : k a b c = R) : sf_c3 x k = R := by subst h; exact h2
theorem sfb_t {α : Type} {c : Prop} [Decidable c] {a b R : Option α} (h : c) (h2 : a = R) : sf_b c a b = R := by rw [sf_b, if_pos h]; exact h2
theorem sfb_f {α : Type} {c : Prop} [Decidable c] {a b R : Option α} (h : ¬ c) (h2 : b = R) : sf_b c a b = R := by rw [sf_b, if_neg h]; exact h2
theorem sfn_r {α β : Type} {x y : β} {k : β → Option α} {R : Option α} (h : x = y) (h2 : k y = R) : sf_n x k = R := by subst h; exact h2
theorem sfj_i {κ ρ : Type} {K : κ} {B : κ → Option ρ} {R : Option ρ} (h : B K = R) : sf_j K B = R := h
section ASK
variable {M : Nat → Nat} {U : Nat} {on ot op os sc gc bc fc : Int32} {sd sp sw gp gr bg bs bt be ql qg fg fs fm : Nat → Int32}
theorem a_duration (hV : VW M U) (hr : RO M on ot op os sc sd sp sw gc gp gr bc bg bs bt be ql qg fc fg fs fm) {j : Nat} (hj : j < M 0) : f_X11_duration sc sd (nI j) = some (nI (zD M j)) ∧ f_L_duration sc sd (nI j) = some (nI (zD M j)) := by
  have hv := hV
  obtain ⟨⟨v0, v1, v2, v4, v3, vU⟩, hS, hR, hVQ, hVB, hD, hVF, hC⟩ := hv
  have hr' := hr
  obtain ⟨⟨n1, n2, n3, n4⟩, oS, oG, oB, oQ, oF⟩ := hr'
  have s0 := oS.1
  have g0 := oG.1
  have b0 := oB.1
  have f0 := oF.1
  have x1 : f_X10_has (nI (M 0)) (nI j) = some (nI 1) := fh_1 (by omega) ⟨j, hj, rfl⟩
  have hj' : j < 4 := by omega
  have w := (oS.2 j hj).1
  constructor
  · simp (disch := omega) only [sf_g, sf_b, sf_n, sf_c0, sf_c1, sf_c2, sf_c3, sf_c4, sf_c5, sf_c6, il_0, il_1, il_2, il_3, il_4, il_5, il_6, il_7, il_8, il_9, il_10, il_11, il_12, il_16, il_20, il_32, il_44, il_45, il_48, il_50, il_57, il_59, il_60, il_64, il_74, il_98, il_99, il_100, il_108, il_109, il_110, il_111, il_112, il_113, il_115, il_119, il_120, il_158, il_255, il_1106, il_2147483647, nI_add, nI_mul, nI_sub, nI_clamp, nI_inT, nI_eqP, nI_leP, nI_ltP, nI_neP, nI_nnP, nI_nlP, nI_nltP, nI_nleP, nI_div, nI_subneg, nI_if, if_true, if_false, ite_true, ite_false, ↓reduceIte, nI_spos, nI_szero, Nat.add_zero, sf_t1, sf_c7, sf_c8, sf_c9, n1_0, n4_0, n4_1, il_13, f_X11_duration, f_X11_checkSlide, s0, x1, w]
  · simp (disch := omega) only [sf_g, sf_b, sf_n, sf_c0, sf_c1, sf_c2, sf_c3, sf_c4, sf_c5, sf_c6, il_0, il_1, il_2, il_3, il_4, il_5, il_6, il_7, il_8, il_9, il_10, il_11, il_12, il_16, il_20, il_32, il_44, il_45, il_48, il_50, il_57, il_59, il_60, il_64, il_74, il_98, il_99, il_100, il_108, il_109, il_110, il_111, il_112, il_113, il_115, il_119, il_120, il_158, il_255, il_1106, il_2147483647, nI_add, nI_mul, nI_sub, nI_clamp, nI_inT, nI_eqP, nI_leP, nI_ltP, nI_neP, nI_nnP, nI_nlP, nI_nltP, nI_nleP, nI_div, nI_subneg, nI_if, if_true, if_false, ite_true, ite_false, ↓reduceIte, nI_spos, nI_szero, Nat.add_zero, sf_t1, sf_c7, sf_c8, sf_c9, n1_0, n4_0, n4_1, il_13, f_L_duration, f_TX11_duration, f_X11_duration, f_TX11_checkSlide, f_X11_checkSlide, s0, x1, w]
theorem x_duration (hV : VW M U) (hr : RO M on ot op os sc sd sp sw gc gp gr bc bg bs bt be ql qg fc fg fs fm) {p : Int32} (c : ¬ zin (M 0) p) : f_L_duration sc sd p = some (-11) := by
  have hv := hV
  obtain ⟨⟨v0, v1, v2, v4, v3, vU⟩, hS, hR, hVQ, hVB, hD, hVF, hC⟩ := hv
  have hr' := hr
  obtain ⟨⟨n1, n2, n3, n4⟩, oS, oG, oB, oQ, oF⟩ := hr'
  have s0 := oS.1
  have g0 := oG.1
  have b0 := oB.1
  have f0 := oF.1
  have x1 : f_X10_has (nI (M 0)) p = some (nI 0) := fh_0 (by omega) c
  simp (disch := omega) only [sf_g, sf_b, sf_n, sf_c0, sf_c1, sf_c2, sf_c3, sf_c4, sf_c5, sf_c6, il_0, il_1, il_2, il_3, il_4, il_5, il_6, il_7, il_8, il_9, il_10, il_11, il_12, il_16, il_20, il_32, il_44, il_45, il_48, il_50, il_57, il_59, il_60, il_64, il_74, il_98, il_99, il_100, il_108, il_109, il_110, il_111, il_112, il_113, il_115, il_119, il_120, il_158, il_255, il_1106, il_2147483647, nI_add, nI_mul, nI_sub, nI_clamp, nI_inT, nI_eqP, nI_leP, nI_ltP, nI_neP, nI_nnP, nI_nlP, nI_nltP, nI_nleP, nI_div, nI_subneg, nI_if, if_true, if_false, ite_true, ite_false, ↓reduceIte, nI_spos, nI_szero, Nat.add_zero, sf_t1, sf_c7, sf_c8, sf_c9, n1_0, n4_0, n4_1, il_13, f_L_duration, f_TX11_duration, f_TX11_checkSlide, s0, x1]
theorem a_price (hV : VW M U) (hr : RO M on ot op os sc sd sp sw gc gp gr bc bg bs bt be ql qg fc fg fs fm) {j : Nat} (hj : j < M 0) : f_X11_price sc sp (nI j) = some (nI (zP M j)) ∧ f_L_price sc sp (nI j) = some (nI (zP M j)) := by
  have hv := hV
  obtain ⟨⟨v0, v1, v2, v4, v3, vU⟩, hS, hR, hVQ, hVB, hD, hVF, hC⟩ := hv
  have hr' := hr
  obtain ⟨⟨n1, n2, n3, n4⟩, oS, oG, oB, oQ, oF⟩ := hr'
  have s0 := oS.1
  have g0 := oG.1
  have b0 := oB.1
  have f0 := oF.1
  have x1 : f_X10_has (nI (M 0)) (nI j) = some (nI 1) := fh_1 (by omega) ⟨j, hj, rfl⟩
  have hj' : j < 4 := by omega
  have w := (oS.2 j hj).2.1
  constructor
  · simp (disch := omega) only [sf_g, sf_b, sf_n, sf_c0, sf_c1, sf_c2, sf_c3, sf_c4, sf_c5, sf_c6, il_0, il_1, il_2, il_3, il_4, il_5, il_6, il_7, il_8, il_9, il_10, il_11, il_12, il_16, il_20, il_32, il_44, il_45, il_48, il_50, il_57, il_59, il_60, il_64, il_74, il_98, il_99, il_100, il_108, il_109, il_110, il_111, il_112, il_113, il_115, il_119, il_120, il_158, il_255, il_1106, il_2147483647, nI_add, nI_mul, nI_sub, nI_clamp, nI_inT, nI_eqP, nI_leP, nI_ltP, nI_neP, nI_nnP, nI_nlP, nI_nltP, nI_nleP, nI_div, nI_subneg, nI_if, if_true, if_false, ite_true, ite_false, ↓reduceIte, nI_spos, nI_szero, Nat.add_zero, sf_t1, sf_c7, sf_c8, sf_c9, n1_0, n4_0, n4_1, il_13, f_X11_price, f_X11_checkSlide, s0, x1, w]
  · simp (disch := omega) only [sf_g, sf_b, sf_n, sf_c0, sf_c1, sf_c2, sf_c3, sf_c4, sf_c5, sf_c6, il_0, il_1, il_2, il_3, il_4, il_5, il_6, il_7, il_8, il_9, il_10, il_11, il_12, il_16, il_20, il_32, il_44, il_45, il_48, il_50, il_57, il_59, il_60, il_64, il_74, il_98, il_99, il_100, il_108, il_109, il_110, il_111, il_112, il_113, il_115, il_119, il_120, il_158, il_255, il_1106, il_2147483647, nI_add, nI_mul, nI_sub, nI_clamp, nI_inT, nI_eqP, nI_leP, nI_ltP, nI_neP, nI_nnP, nI_nlP, nI_nltP, nI_nleP, nI_div, nI_subneg, nI_if, if_true, if_false, ite_true, ite_false, ↓reduceIte, nI_spos, nI_szero, Nat.add_zero, sf_t1, sf_c7, sf_c8, sf_c9, n1_0, n4_0, n4_1, il_13, f_L_price, f_TX11_price, f_X11_price, f_TX11_checkSlide, f_X11_checkSlide, s0, x1, w]
theorem x_price (hV : VW M U) (hr : RO M on ot op os sc sd sp sw gc gp gr bc bg bs bt be ql qg fc fg fs fm) {p : Int32} (c : ¬ zin (M 0) p) : f_L_price sc sp p = some (-11) := by
  have hv := hV
  obtain ⟨⟨v0, v1, v2, v4, v3, vU⟩, hS, hR, hVQ, hVB, hD, hVF, hC⟩ := hv
  have hr' := hr
  obtain ⟨⟨n1, n2, n3, n4⟩, oS, oG, oB, oQ, oF⟩ := hr'
  have s0 := oS.1
  have g0 := oG.1
  have b0 := oB.1
  have f0 := oF.1
  have x1 : f_X10_has (nI (M 0)) p = some (nI 0) := fh_0 (by omega) c
  simp (disch := omega) only [sf_g, sf_b, sf_n, sf_c0, sf_c1, sf_c2, sf_c3, sf_c4, sf_c5, sf_c6, il_0, il_1, il_2, il_3, il_4, il_5, il_6, il_7, il_8, il_9, il_10, il_11, il_12, il_16, il_20, il_32, il_44, il_45, il_48, il_50, il_57, il_59, il_60, il_64, il_74, il_98, il_99, il_100, il_108, il_109, il_110, il_111, il_112, il_113, il_115, il_119, il_120, il_158, il_255, il_1106, il_2147483647, nI_add, nI_mul, nI_sub, nI_clamp, nI_inT, nI_eqP, nI_leP, nI_ltP, nI_neP, nI_nnP, nI_nlP, nI_nltP, nI_nleP, nI_div, nI_subneg, nI_if, if_true, if_false, ite_true, ite_false, ↓reduceIte, nI_spos, nI_szero, Nat.add_zero, sf_t1, sf_c7, sf_c8, sf_c9, n1_0, n4_0, n4_1, il_13, f_L_price, f_TX11_price, f_TX11_checkSlide, s0, x1]
theorem a_wetness (hV : VW M U) (hr : RO M on ot op os sc sd sp sw gc gp gr bc bg bs bt be ql qg fc fg fs fm) {j : Nat} (hj : j < M 0) : f_X11_wetness sc sw (nI j) = some (nI (zW M j)) ∧ f_L_wetness sc sw (nI j) = some (nI (zW M j)) := by
  have hv := hV
  obtain ⟨⟨v0, v1, v2, v4, v3, vU⟩, hS, hR, hVQ, hVB, hD, hVF, hC⟩ := hv
  have hr' := hr
  obtain ⟨⟨n1, n2, n3, n4⟩, oS, oG, oB, oQ, oF⟩ := hr'
  have s0 := oS.1
  have g0 := oG.1
  have b0 := oB.1
  have f0 := oF.1
  have x1 : f_X10_has (nI (M 0)) (nI j) = some (nI 1) := fh_1 (by omega) ⟨j, hj, rfl⟩
  have hj' : j < 4 := by omega
  have w := (oS.2 j hj).2.2
  constructor
  · simp (disch := omega) only [sf_g, sf_b, sf_n, sf_c0, sf_c1, sf_c2, sf_c3, sf_c4, sf_c5, sf_c6, il_0, il_1, il_2, il_3, il_4, il_5, il_6, il_7, il_8, il_9, il_10, il_11, il_12, il_16, il_20, il_32, il_44, il_45, il_48, il_50, il_57, il_59, il_60, il_64, il_74, il_98, il_99, il_100, il_108, il_109, il_110, il_111, il_112, il_113, il_115, il_119, il_120, il_158, il_255, il_1106, il_2147483647, nI_add, nI_mul, nI_sub, nI_clamp, nI_inT, nI_eqP, nI_leP, nI_ltP, nI_neP, nI_nnP, nI_nlP, nI_nltP, nI_nleP, nI_div, nI_subneg, nI_if, if_true, if_false, ite_true, ite_false, ↓reduceIte, nI_spos, nI_szero, Nat.add_zero, sf_t1, sf_c7, sf_c8, sf_c9, n1_0, n4_0, n4_1, il_13, f_X11_wetness, f_X11_checkSlide, s0, x1, w]
  · simp (disch := omega) only [sf_g, sf_b, sf_n, sf_c0, sf_c1, sf_c2, sf_c3, sf_c4, sf_c5, sf_c6, il_0, il_1, il_2, il_3, il_4, il_5, il_6, il_7, il_8, il_9, il_10, il_11, il_12, il_16, il_20, il_32, il_44, il_45, il_48, il_50, il_57, il_59, il_60, il_64, il_74, il_98, il_99, il_100, il_108, il_109, il_110, il_111, il_112, il_113, il_115, il_119, il_120, il_158, il_255, il_1106, il_2147483647, nI_add, nI_mul, nI_sub, nI_clamp, nI_inT, nI_eqP, nI_leP, nI_ltP, nI_neP, nI_nnP, nI_nlP, nI_nltP, nI_nleP, nI_div, nI_subneg, nI_if, if_true, if_false, ite_true, ite_false, ↓reduceIte, nI_spos, nI_szero, Nat.add_zero, sf_t1, sf_c7, sf_c8, sf_c9, n1_0, n4_0, n4_1, il_13, f_L_wetness, f_TX11_wetness, f_X11_wetness, f_TX11_checkSlide, f_X11_checkSlide, s0, x1, w]
theorem x_wetness (hV : VW M U) (hr : RO M on ot op os sc sd sp sw gc gp gr bc bg bs bt be ql qg fc fg fs fm) {p : Int32} (c : ¬ zin (M 0) p) : f_L_wetness sc sw p = some (-11) := by
  have hv := hV
  obtain ⟨⟨v0, v1, v2, v4, v3, vU⟩, hS, hR, hVQ, hVB, hD, hVF, hC⟩ := hv
  have hr' := hr
  obtain ⟨⟨n1, n2, n3, n4⟩, oS, oG, oB, oQ, oF⟩ := hr'
  have s0 := oS.1
  have g0 := oG.1
  have b0 := oB.1
  have f0 := oF.1
  have x1 : f_X10_has (nI (M 0)) p = some (nI 0) := fh_0 (by omega) c
  simp (disch := omega) only [sf_g, sf_b, sf_n, sf_c0, sf_c1, sf_c2, sf_c3, sf_c4, sf_c5, sf_c6, il_0, il_1, il_2, il_3, il_4, il_5, il_6, il_7, il_8, il_9, il_10, il_11, il_12, il_16, il_20, il_32, il_44, il_45, il_48, il_50, il_57, il_59, il_60, il_64, il_74, il_98, il_99, il_100, il_108, il_109, il_110, il_111, il_112, il_113, il_115, il_119, il_120, il_158, il_255, il_1106, il_2147483647, nI_add, nI_mul, nI_sub, nI_clamp, nI_inT, nI_eqP, nI_leP, nI_ltP, nI_neP, nI_nnP, nI_nlP, nI_nltP, nI_nleP, nI_div, nI_subneg, nI_if, if_true, if_false, ite_true, ite_false, ↓reduceIte, nI_spos, nI_szero, Nat.add_zero, sf_t1, sf_c7, sf_c8, sf_c9, n1_0, n4_0, n4_1, il_13, f_L_wetness, f_TX11_wetness, f_TX11_checkSlide, s0, x1]
theorem a_queueLength (hV : VW M U) (hr : RO M on ot op os sc sd sp sw gc gp gr bc bg bs bt be ql qg fc fg fs fm) {j : Nat} (hj : j < M 0) : f_X11_queueLength sc ql (nI j) = some (nI (zQ M j)) ∧ f_L_queueLength sc ql (nI j) = some (nI (zQ M j)) := by
  have hv := hV
  obtain ⟨⟨v0, v1, v2, v4, v3, vU⟩, hS, hR, hVQ, hVB, hD, hVF, hC⟩ := hv
  have hr' := hr
  obtain ⟨⟨n1, n2, n3, n4⟩, oS, oG, oB, oQ, oF⟩ := hr'
  have s0 := oS.1
  have g0 := oG.1
  have b0 := oB.1
  have f0 := oF.1
  have x1 : f_X10_has (nI (M 0)) (nI j) = some (nI 1) := fh_1 (by omega) ⟨j, hj, rfl⟩
  have hj' : j < 4 := by omega
  have w := (oQ j (by omega)).1
  constructor
  · simp (disch := omega) only [sf_g, sf_b, sf_n, sf_c0, sf_c1, sf_c2, sf_c3, sf_c4, sf_c5, sf_c6, il_0, il_1, il_2, il_3, il_4, il_5, il_6, il_7, il_8, il_9, il_10, il_11, il_12, il_16, il_20, il_32, il_44, il_45, il_48, il_50, il_57, il_59, il_60, il_64, il_74, il_98, il_99, il_100, il_108, il_109, il_110, il_111, il_112, il_113, il_115, il_119, il_120, il_158, il_255, il_1106, il_2147483647, nI_add, nI_mul, nI_sub, nI_clamp, nI_inT, nI_eqP, nI_leP, nI_ltP, nI_neP, nI_nnP, nI_nlP, nI_nltP, nI_nleP, nI_div, nI_subneg, nI_if, if_true, if_false, ite_true, ite_false, ↓reduceIte, nI_spos, nI_szero, Nat.add_zero, sf_t1, sf_c7, sf_c8, sf_c9, n1_0, n4_0, n4_1, il_13, f_X11_queueLength, f_X11_checkSlide, s0, x1, w]
  · simp (disch := omega) only [sf_g, sf_b, sf_n, sf_c0, sf_c1, sf_c2, sf_c3, sf_c4, sf_c5, sf_c6, il_0, il_1, il_2, il_3, il_4, il_5, il_6, il_7, il_8, il_9, il_10, il_11, il_12, il_16, il_20, il_32, il_44, il_45, il_48, il_50, il_57, il_59, il_60, il_64, il_74, il_98, il_99, il_100, il_108, il_109, il_110, il_111, il_112, il_113, il_115, il_119, il_120, il_158, il_255, il_1106, il_2147483647, nI_add, nI_mul, nI_sub, nI_clamp, nI_inT, nI_eqP, nI_leP, nI_ltP, nI_neP, nI_nnP, nI_nlP, nI_nltP, nI_nleP, nI_div, nI_subneg, nI_if, if_true, if_false, ite_true, ite_false, ↓reduceIte, nI_spos, nI_szero, Nat.add_zero, sf_t1, sf_c7, sf_c8, sf_c9, n1_0, n4_0, n4_1, il_13, f_L_queueLength, f_TX11_queueLength, f_X11_queueLength, f_TX11_checkSlide, f_X11_checkSlide, s0, x1, w]
theorem x_queueLength (hV : VW M U) (hr : RO M on ot op os sc sd sp sw gc gp gr bc bg bs bt be ql qg fc fg fs fm) {p : Int32} (c : ¬ zin (M 0) p) : f_L_queueLength sc ql p = some (-11) := by
  have hv := hV
  obtain ⟨⟨v0, v1, v2, v4, v3, vU⟩, hS, hR, hVQ, hVB, hD, hVF, hC⟩ := hv
  have hr' := hr
  obtain ⟨⟨n1, n2, n3, n4⟩, oS, oG, oB, oQ, oF⟩ := hr'
  have s0 := oS.1
  have g0 := oG.1
  have b0 := oB.1
  have f0 := oF.1
  have x1 : f_X10_has (nI (M 0)) p = some (nI 0) := fh_0 (by omega) c
  simp (disch := omega) only [sf_g, sf_b, sf_n, sf_c0, sf_c1, sf_c2, sf_c3, sf_c4, sf_c5, sf_c6, il_0, il_1, il_2, il_3, il_4, il_5, il_6, il_7, il_8, il_9, il_10, il_11, il_12, il_16, il_20, il_32, il_44, il_45, il_48, il_50, il_57, il_59, il_60, il_64, il_74, il_98, il_99, il_100, il_108, il_109, il_110, il_111, il_112, il_113, il_115, il_119, il_120, il_158, il_255, il_1106, il_2147483647, nI_add, nI_mul, nI_sub, nI_clamp, nI_inT, nI_eqP, nI_leP, nI_ltP, nI_neP, nI_nnP, nI_nlP, nI_nltP, nI_nleP, nI_div, nI_subneg, nI_if, if_true, if_false, ite_true, ite_false, ↓reduceIte, nI_spos, nI_szero, Nat.add_zero, sf_t1, sf_c7, sf_c8, sf_c9, n1_0, n4_0, n4_1, il_13, f_L_queueLength, f_TX11_queueLength, f_TX11_checkSlide, s0, x1]
theorem a_coins (hV : VW M U) (hr : RO M on ot op os sc sd sp sw gc gp gr bc bg bs bt be ql qg fc fg fs fm) {j : Nat} (hj : j < M 1) : f_X11_coins gc gp (nI j) = some (nI (zC M j)) ∧ f_L_coins gc gp (nI j) = some (nI (zC M j)) := by
  have hv := hV
  obtain ⟨⟨v0, v1, v2, v4, v3, vU⟩, hS, hR, hVQ, hVB, hD, hVF, hC⟩ := hv
  have hr' := hr
  obtain ⟨⟨n1, n2, n3, n4⟩, oS, oG, oB, oQ, oF⟩ := hr'
  have s0 := oS.1
  have g0 := oG.1
  have b0 := oB.1
  have f0 := oF.1
  have x1 : f_X6_has (nI (M 1)) (nI j) = some (nI 1) := fh_1 (by omega) ⟨j, hj, rfl⟩
  have hj' : j < 10 := by omega
  have w := (oG.2 j hj).1
  constructor
  · simp (disch := omega) only [sf_g, sf_b, sf_n, sf_c0, sf_c1, sf_c2, sf_c3, sf_c4, sf_c5, sf_c6, il_0, il_1, il_2, il_3, il_4, il_5, il_6, il_7, il_8, il_9, il_10, il_11, il_12, il_16, il_20, il_32, il_44, il_45, il_48, il_50, il_57, il_59, il_60, il_64, il_74, il_98, il_99, il_100, il_108, il_109, il_110, il_111, il_112, il_113, il_115, il_119, il_120, il_158, il_255, il_1106, il_2147483647, nI_add, nI_mul, nI_sub, nI_clamp, nI_inT, nI_eqP, nI_leP, nI_ltP, nI_neP, nI_nnP, nI_nlP, nI_nltP, nI_nleP, nI_div, nI_subneg, nI_if, if_true, if_false, ite_true, ite_false, ↓reduceIte, nI_spos, nI_szero, Nat.add_zero, sf_t1, sf_c7, sf_c8, sf_c9, n1_0, n4_0, n4_1, il_13, f_X11_coins, f_X11_checkGuest, g0, x1, w]
  · simp (disch := omega) only [sf_g, sf_b, sf_n, sf_c0, sf_c1, sf_c2, sf_c3, sf_c4, sf_c5, sf_c6, il_0, il_1, il_2, il_3, il_4, il_5, il_6, il_7, il_8, il_9, il_10, il_11, il_12, il_16, il_20, il_32, il_44, il_45, il_48, il_50, il_57, il_59, il_60, il_64, il_74, il_98, il_99, il_100, il_108, il_109, il_110, il_111, il_112, il_113, il_115, il_119, il_120, il_158, il_255, il_1106, il_2147483647, nI_add, nI_mul, nI_sub, nI_clamp, nI_inT, nI_eqP, nI_leP, nI_ltP, nI_neP, nI_nnP, nI_nlP, nI_nltP, nI_nleP, nI_div, nI_subneg, nI_if, if_true, if_false, ite_true, ite_false, ↓reduceIte, nI_spos, nI_szero, Nat.add_zero, sf_t1, sf_c7, sf_c8, sf_c9, n1_0, n4_0, n4_1, il_13, f_L_coins, f_TX11_coins, f_X11_coins, f_TX11_checkGuest, f_X11_checkGuest, g0, x1, w]
theorem x_coins (hV : VW M U) (hr : RO M on ot op os sc sd sp sw gc gp gr bc bg bs bt be ql qg fc fg fs fm) {p : Int32} (c : ¬ zin (M 1) p) : f_L_coins gc gp p = some (-11) := by
  have hv := hV
  obtain ⟨⟨v0, v1, v2, v4, v3, vU⟩, hS, hR, hVQ, hVB, hD, hVF, hC⟩ := hv
  have hr' := hr
  obtain ⟨⟨n1, n2, n3, n4⟩, oS, oG, oB, oQ, oF⟩ := hr'
  have s0 := oS.1
  have g0 := oG.1
  have b0 := oB.1
  have f0 := oF.1
  have x1 : f_X6_has (nI (M 1)) p = some (nI 0) := fh_0 (by omega) c
  simp (disch := omega) only [sf_g, sf_b, sf_n, sf_c0, sf_c1, sf_c2, sf_c3, sf_c4, sf_c5, sf_c6, il_0, il_1, il_2, il_3, il_4, il_5, il_6, il_7, il_8, il_9, il_10, il_11, il_12, il_16, il_20, il_32, il_44, il_45, il_48, il_50, il_57, il_59, il_60, il_64, il_74, il_98, il_99, il_100, il_108, il_109, il_110, il_111, il_112, il_113, il_115, il_119, il_120, il_158, il_255, il_1106, il_2147483647, nI_add, nI_mul, nI_sub, nI_clamp, nI_inT, nI_eqP, nI_leP, nI_ltP, nI_neP, nI_nnP, nI_nlP, nI_nltP, nI_nleP, nI_div, nI_subneg, nI_if, if_true, if_false, ite_true, ite_false, ↓reduceIte, nI_spos, nI_szero, Nat.add_zero, sf_t1, sf_c7, sf_c8, sf_c9, n1_0, n4_0, n4_1, il_13, f_L_coins, f_TX11_coins, f_TX11_checkGuest, g0, x1]
theorem a_rides (hV : VW M U) (hr : RO M on ot op os sc sd sp sw gc gp gr bc bg bs bt be ql qg fc fg fs fm) {j : Nat} (hj : j < M 1) : f_X11_rides gc gr (nI j) = some (nI (zR M j)) ∧ f_L_rides gc gr (nI j) = some (nI (zR M j)) := by
  have hv := hV
  obtain ⟨⟨v0, v1, v2, v4, v3, vU⟩, hS, hR, hVQ, hVB, hD, hVF, hC⟩ := hv
  have hr' := hr
  obtain ⟨⟨n1, n2, n3, n4⟩, oS, oG, oB, oQ, oF⟩ := hr'
  have s0 := oS.1
  have g0 := oG.1
  have b0 := oB.1
  have f0 := oF.1
  have x1 : f_X6_has (nI (M 1)) (nI j) = some (nI 1) := fh_1 (by omega) ⟨j, hj, rfl⟩
  have hj' : j < 10 := by omega
  have w := (oG.2 j hj).2
  constructor
  · simp (disch := omega) only [sf_g, sf_b, sf_n, sf_c0, sf_c1, sf_c2, sf_c3, sf_c4, sf_c5, sf_c6, il_0, il_1, il_2, il_3, il_4, il_5, il_6, il_7, il_8, il_9, il_10, il_11, il_12, il_16, il_20, il_32, il_44, il_45, il_48, il_50, il_57, il_59, il_60, il_64, il_74, il_98, il_99, il_100, il_108, il_109, il_110, il_111, il_112, il_113, il_115, il_119, il_120, il_158, il_255, il_1106, il_2147483647, nI_add, nI_mul, nI_sub, nI_clamp, nI_inT, nI_eqP, nI_leP, nI_ltP, nI_neP, nI_nnP, nI_nlP, nI_nltP, nI_nleP, nI_div, nI_subneg, nI_if, if_true, if_false, ite_true, ite_false, ↓reduceIte, nI_spos, nI_szero, Nat.add_zero, sf_t1, sf_c7, sf_c8, sf_c9, n1_0, n4_0, n4_1, il_13, f_X11_rides, f_X11_checkGuest, g0, x1, w]
  · simp (disch := omega) only [sf_g, sf_b, sf_n, sf_c0, sf_c1, sf_c2, sf_c3, sf_c4, sf_c5, sf_c6, il_0, il_1, il_2, il_3, il_4, il_5, il_6, il_7, il_8, il_9, il_10, il_11, il_12, il_16, il_20, il_32, il_44, il_45, il_48, il_50, il_57, il_59, il_60, il_64, il_74, il_98, il_99, il_100, il_108, il_109, il_110, il_111, il_112, il_113, il_115, il_119, il_120, il_158, il_255, il_1106, il_2147483647, nI_add, nI_mul, nI_sub, nI_clamp, nI_inT, nI_eqP, nI_leP, nI_ltP, nI_neP, nI_nnP, nI_nlP, nI_nltP, nI_nleP, nI_div, nI_subneg, nI_if, if_true, if_false, ite_true, ite_false, ↓reduceIte, nI_spos, nI_szero, Nat.add_zero, sf_t1, sf_c7, sf_c8, sf_c9, n1_0, n4_0, n4_1, il_13, f_L_rides, f_TX11_rides, f_X11_rides, f_TX11_checkGuest, f_X11_checkGuest, g0, x1, w]
theorem x_rides (hV : VW M U) (hr : RO M on ot op os sc sd sp sw gc gp gr bc bg bs bt be ql qg fc fg fs fm) {p : Int32} (c : ¬ zin (M 1) p) : f_L_rides gc gr p = some (-11) := by
  have hv := hV
  obtain ⟨⟨v0, v1, v2, v4, v3, vU⟩, hS, hR, hVQ, hVB, hD, hVF, hC⟩ := hv
  have hr' := hr
  obtain ⟨⟨n1, n2, n3, n4⟩, oS, oG, oB, oQ, oF⟩ := hr'
  have s0 := oS.1
  have g0 := oG.1
  have b0 := oB.1
  have f0 := oF.1
  have x1 : f_X6_has (nI (M 1)) p = some (nI 0) := fh_0 (by omega) c
  simp (disch := omega) only [sf_g, sf_b, sf_n, sf_c0, sf_c1, sf_c2, sf_c3, sf_c4, sf_c5, sf_c6, il_0, il_1, il_2, il_3, il_4, il_5, il_6, il_7, il_8, il_9, il_10, il_11, il_12, il_16, il_20, il_32, il_44, il_45, il_48, il_50, il_57, il_59, il_60, il_64, il_74, il_98, il_99, il_100, il_108, il_109, il_110, il_111, il_112, il_113, il_115, il_119, il_120, il_158, il_255, il_1106, il_2147483647, nI_add, nI_mul, nI_sub, nI_clamp, nI_inT, nI_eqP, nI_leP, nI_ltP, nI_neP, nI_nnP, nI_nlP, nI_nltP, nI_nleP, nI_div, nI_subneg, nI_if, if_true, if_false, ite_true, ite_false, ↓reduceIte, nI_spos, nI_szero, Nat.add_zero, sf_t1, sf_c7, sf_c8, sf_c9, n1_0, n4_0, n4_1, il_13, f_L_rides, f_TX11_rides, f_TX11_checkGuest, g0, x1]
theorem a_bookedGuest (hV : VW M U) (hr : RO M on ot op os sc sd sp sw gc gp gr bc bg bs bt be ql qg fc fg fs fm) {j : Nat} (hj : j < M 2) : f_X11_bookedGuest bc bg (nI j) = some (nI (zG M j)) ∧ f_L_guestOf bc bg (nI j) = some (nI (zG M j)) := by
  have hv := hV
  obtain ⟨⟨v0, v1, v2, v4, v3, vU⟩, hS, hR, hVQ, hVB, hD, hVF, hC⟩ := hv
  have hr' := hr
  obtain ⟨⟨n1, n2, n3, n4⟩, oS, oG, oB, oQ, oF⟩ := hr'
  have s0 := oS.1
  have g0 := oG.1
  have b0 := oB.1
  have f0 := oF.1
  have x1 : f_X1_has (nI (M 2)) (nI j) = some (nI 1) := fh_1 (by omega) ⟨j, hj, rfl⟩
  have hj' : j < 12 := by omega
  have w := (oB.2 j hj).1
  constructor
  · simp (disch := omega) only [sf_g, sf_b, sf_n, sf_c0, sf_c1, sf_c2, sf_c3, sf_c4, sf_c5, sf_c6, il_0, il_1, il_2, il_3, il_4, il_5, il_6, il_7, il_8, il_9, il_10, il_11, il_12, il_16, il_20, il_32, il_44, il_45, il_48, il_50, il_57, il_59, il_60, il_64, il_74, il_98, il_99, il_100, il_108, il_109, il_110, il_111, il_112, il_113, il_115, il_119, il_120, il_158, il_255, il_1106, il_2147483647, nI_add, nI_mul, nI_sub, nI_clamp, nI_inT, nI_eqP, nI_leP, nI_ltP, nI_neP, nI_nnP, nI_nlP, nI_nltP, nI_nleP, nI_div, nI_subneg, nI_if, if_true, if_false, ite_true, ite_false, ↓reduceIte, nI_spos, nI_szero, Nat.add_zero, sf_t1, sf_c7, sf_c8, sf_c9, n1_0, n4_0, n4_1, il_13, f_X11_bookedGuest, f_X11_checkBooking, b0, x1, w]
  · simp (disch := omega) only [sf_g, sf_b, sf_n, sf_c0, sf_c1, sf_c2, sf_c3, sf_c4, sf_c5, sf_c6, il_0, il_1, il_2, il_3, il_4, il_5, il_6, il_7, il_8, il_9, il_10, il_11, il_12, il_16, il_20, il_32, il_44, il_45, il_48, il_50, il_57, il_59, il_60, il_64, il_74, il_98, il_99, il_100, il_108, il_109, il_110, il_111, il_112, il_113, il_115, il_119, il_120, il_158, il_255, il_1106, il_2147483647, nI_add, nI_mul, nI_sub, nI_clamp, nI_inT, nI_eqP, nI_leP, nI_ltP, nI_neP, nI_nnP, nI_nlP, nI_nltP, nI_nleP, nI_div, nI_subneg, nI_if, if_true, if_false, ite_true, ite_false, ↓reduceIte, nI_spos, nI_szero, Nat.add_zero, sf_t1, sf_c7, sf_c8, sf_c9, n1_0, n4_0, n4_1, il_13, f_L_guestOf, f_TX11_bookedGuest, f_X11_bookedGuest, f_TX11_checkBooking, f_X11_checkBooking, b0, x1, w]
theorem x_bookedGuest (hV : VW M U) (hr : RO M on ot op os sc sd sp sw gc gp gr bc bg bs bt be ql qg fc fg fs fm) {p : Int32} (c : ¬ zin (M 2) p) : f_L_guestOf bc bg p = some (-11) := by
  have hv := hV
  obtain ⟨⟨v0, v1, v2, v4, v3, vU⟩, hS, hR, hVQ, hVB, hD, hVF, hC⟩ := hv
  have hr' := hr
  obtain ⟨⟨n1, n2, n3, n4⟩, oS, oG, oB, oQ, oF⟩ := hr'
  have s0 := oS.1
  have g0 := oG.1
  have b0 := oB.1
  have f0 := oF.1
  have x1 : f_X1_has (nI (M 2)) p = some (nI 0) := fh_0 (by omega) c
  simp (disch := omega) only [sf_g, sf_b, sf_n, sf_c0, sf_c1, sf_c2, sf_c3, sf_c4, sf_c5, sf_c6, il_0, il_1, il_2, il_3, il_4, il_5, il_6, il_7, il_8, il_9, il_10, il_11, il_12, il_16, il_20, il_32, il_44, il_45, il_48, il_50, il_57, il_59, il_60, il_64, il_74, il_98, il_99, il_100, il_108, il_109, il_110, il_111, il_112, il_113, il_115, il_119, il_120, il_158, il_255, il_1106, il_2147483647, nI_add, nI_mul, nI_sub, nI_clamp, nI_inT, nI_eqP, nI_leP, nI_ltP, nI_neP, nI_nnP, nI_nlP, nI_nltP, nI_nleP, nI_div, nI_subneg, nI_if, if_true, if_false, ite_true, ite_false, ↓reduceIte, nI_spos, nI_szero, Nat.add_zero, sf_t1, sf_c7, sf_c8, sf_c9, n1_0, n4_0, n4_1, il_13, f_L_guestOf, f_TX11_bookedGuest, f_TX11_checkBooking, b0, x1]
theorem a_bookedSlide (hV : VW M U) (hr : RO M on ot op os sc sd sp sw gc gp gr bc bg bs bt be ql qg fc fg fs fm) {j : Nat} (hj : j < M 2) : f_X11_bookedSlide bc bs (nI j) = some (nI (zS M j)) ∧ f_L_slideOf bc bs (nI j) = some (nI (zS M j)) := by
  have hv := hV
  obtain ⟨⟨v0, v1, v2, v4, v3, vU⟩, hS, hR, hVQ, hVB, hD, hVF, hC⟩ := hv
  have hr' := hr
  obtain ⟨⟨n1, n2, n3, n4⟩, oS, oG, oB, oQ, oF⟩ := hr'
  have s0 := oS.1
  have g0 := oG.1
  have b0 := oB.1
  have f0 := oF.1
  have x1 : f_X1_has (nI (M 2)) (nI j) = some (nI 1) := fh_1 (by omega) ⟨j, hj, rfl⟩
  have hj' : j < 12 := by omega
  have w := (oB.2 j hj).2.1
  constructor
  · simp (disch := omega) only [sf_g, sf_b, sf_n, sf_c0, sf_c1, sf_c2, sf_c3, sf_c4, sf_c5, sf_c6, il_0, il_1, il_2, il_3, il_4, il_5, il_6, il_7, il_8, il_9, il_10, il_11, il_12, il_16, il_20, il_32, il_44, il_45, il_48, il_50, il_57, il_59, il_60, il_64, il_74, il_98, il_99, il_100, il_108, il_109, il_110, il_111, il_112, il_113, il_115, il_119, il_120, il_158, il_255, il_1106, il_2147483647, nI_add, nI_mul, nI_sub, nI_clamp, nI_inT, nI_eqP, nI_leP, nI_ltP, nI_neP, nI_nnP, nI_nlP, nI_nltP, nI_nleP, nI_div, nI_subneg, nI_if, if_true, if_false, ite_true, ite_false, ↓reduceIte, nI_spos, nI_szero, Nat.add_zero, sf_t1, sf_c7, sf_c8, sf_c9, n1_0, n4_0, n4_1, il_13, f_X11_bookedSlide, f_X11_checkBooking, b0, x1, w]
  · simp (disch := omega) only [sf_g, sf_b, sf_n, sf_c0, sf_c1, sf_c2, sf_c3, sf_c4, sf_c5, sf_c6, il_0, il_1, il_2, il_3, il_4, il_5, il_6, il_7, il_8, il_9, il_10, il_11, il_12, il_16, il_20, il_32, il_44, il_45, il_48, il_50, il_57, il_59, il_60, il_64, il_74, il_98, il_99, il_100, il_108, il_109, il_110, il_111, il_112, il_113, il_115, il_119, il_120, il_158, il_255, il_1106, il_2147483647, nI_add, nI_mul, nI_sub, nI_clamp, nI_inT, nI_eqP, nI_leP, nI_ltP, nI_neP, nI_nnP, nI_nlP, nI_nltP, nI_nleP, nI_div, nI_subneg, nI_if, if_true, if_false, ite_true, ite_false, ↓reduceIte, nI_spos, nI_szero, Nat.add_zero, sf_t1, sf_c7, sf_c8, sf_c9, n1_0, n4_0, n4_1, il_13, f_L_slideOf, f_TX11_bookedSlide, f_X11_bookedSlide, f_TX11_checkBooking, f_X11_checkBooking, b0, x1, w]
theorem x_bookedSlide (hV : VW M U) (hr : RO M on ot op os sc sd sp sw gc gp gr bc bg bs bt be ql qg fc fg fs fm) {p : Int32} (c : ¬ zin (M 2) p) : f_L_slideOf bc bs p = some (-11) := by
  have hv := hV
  obtain ⟨⟨v0, v1, v2, v4, v3, vU⟩, hS, hR, hVQ, hVB, hD, hVF, hC⟩ := hv
  have hr' := hr
  obtain ⟨⟨n1, n2, n3, n4⟩, oS, oG, oB, oQ, oF⟩ := hr'
  have s0 := oS.1
  have g0 := oG.1
  have b0 := oB.1
  have f0 := oF.1
  have x1 : f_X1_has (nI (M 2)) p = some (nI 0) := fh_0 (by omega) c
  simp (disch := omega) only [sf_g, sf_b, sf_n, sf_c0, sf_c1, sf_c2, sf_c3, sf_c4, sf_c5, sf_c6, il_0, il_1, il_2, il_3, il_4, il_5, il_6, il_7, il_8, il_9, il_10, il_11, il_12, il_16, il_20, il_32, il_44, il_45, il_48, il_50, il_57, il_59, il_60, il_64, il_74, il_98, il_99, il_100, il_108, il_109, il_110, il_111, il_112, il_113, il_115, il_119, il_120, il_158, il_255, il_1106, il_2147483647, nI_add, nI_mul, nI_sub, nI_clamp, nI_inT, nI_eqP, nI_leP, nI_ltP, nI_neP, nI_nnP, nI_nlP, nI_nltP, nI_nleP, nI_div, nI_subneg, nI_if, if_true, if_false, ite_true, ite_false, ↓reduceIte, nI_spos, nI_szero, Nat.add_zero, sf_t1, sf_c7, sf_c8, sf_c9, n1_0, n4_0, n4_1, il_13, f_L_slideOf, f_TX11_bookedSlide, f_TX11_checkBooking, b0, x1]
theorem a_start (hV : VW M U) (hr : RO M on ot op os sc sd sp sw gc gp gr bc bg bs bt be ql qg fc fg fs fm) {j : Nat} (hj : j < M 2) : f_X11_start bc bt (nI j) = some (nI (zT M j)) ∧ f_L_startOf bc bt (nI j) = some (nI (zT M j)) := by
  have hv := hV
  obtain ⟨⟨v0, v1, v2, v4, v3, vU⟩, hS, hR, hVQ, hVB, hD, hVF, hC⟩ := hv
  have hr' := hr
  obtain ⟨⟨n1, n2, n3, n4⟩, oS, oG, oB, oQ, oF⟩ := hr'
  have s0 := oS.1
  have g0 := oG.1
  have b0 := oB.1
  have f0 := oF.1
  have x1 : f_X1_has (nI (M 2)) (nI j) = some (nI 1) := fh_1 (by omega) ⟨j, hj, rfl⟩
  have hj' : j < 12 := by omega
  have w := (oB.2 j hj).2.2.1
  constructor
  · simp (disch := omega) only [sf_g, sf_b, sf_n, sf_c0, sf_c1, sf_c2, sf_c3, sf_c4, sf_c5, sf_c6, il_0, il_1, il_2, il_3, il_4, il_5, il_6, il_7, il_8, il_9, il_10, il_11, il_12, il_16, il_20, il_32, il_44, il_45, il_48, il_50, il_57, il_59, il_60, il_64, il_74, il_98, il_99, il_100, il_108, il_109, il_110, il_111, il_112, il_113, il_115, il_119, il_120, il_158, il_255, il_1106, il_2147483647, nI_add, nI_mul, nI_sub, nI_clamp, nI_inT, nI_eqP, nI_leP, nI_ltP, nI_neP, nI_nnP, nI_nlP, nI_nltP, nI_nleP, nI_div, nI_subneg, nI_if, if_true, if_false, ite_true, ite_false, ↓reduceIte, nI_spos, nI_szero, Nat.add_zero, sf_t1, sf_c7, sf_c8, sf_c9, n1_0, n4_0, n4_1, il_13, f_X11_start, f_X11_checkBooking, b0, x1, w]
  · simp (disch := omega) only [sf_g, sf_b, sf_n, sf_c0, sf_c1, sf_c2, sf_c3, sf_c4, sf_c5, sf_c6, il_0, il_1, il_2, il_3, il_4, il_5, il_6, il_7, il_8, il_9, il_10, il_11, il_12, il_16, il_20, il_32, il_44, il_45, il_48, il_50, il_57, il_59, il_60, il_64, il_74, il_98, il_99, il_100, il_108, il_109, il_110, il_111, il_112, il_113, il_115, il_119, il_120, il_158, il_255, il_1106, il_2147483647, nI_add, nI_mul, nI_sub, nI_clamp, nI_inT, nI_eqP, nI_leP, nI_ltP, nI_neP, nI_nnP, nI_nlP, nI_nltP, nI_nleP, nI_div, nI_subneg, nI_if, if_true, if_false, ite_true, ite_false, ↓reduceIte, nI_spos, nI_szero, Nat.add_zero, sf_t1, sf_c7, sf_c8, sf_c9, n1_0, n4_0, n4_1, il_13, f_L_startOf, f_TX11_start, f_X11_start, f_TX11_checkBooking, f_X11_checkBooking, b0, x1, w]
theorem x_start (hV : VW M U) (hr : RO M on ot op os sc sd sp sw gc gp gr bc bg bs bt be ql qg fc fg fs fm) {p : Int32} (c : ¬ zin (M 2) p) : f_L_startOf bc bt p = some (-11) := by
  have hv := hV
  obtain ⟨⟨v0, v1, v2, v4, v3, vU⟩, hS, hR, hVQ, hVB, hD, hVF, hC⟩ := hv
  have hr' := hr
  obtain ⟨⟨n1, n2, n3, n4⟩, oS, oG, oB, oQ, oF⟩ := hr'
  have s0 := oS.1
  have g0 := oG.1
  have b0 := oB.1
  have f0 := oF.1
  have x1 : f_X1_has (nI (M 2)) p = some (nI 0) := fh_0 (by omega) c
  simp (disch := omega) only [sf_g, sf_b, sf_n, sf_c0, sf_c1, sf_c2, sf_c3, sf_c4, sf_c5, sf_c6, il_0, il_1, il_2, il_3, il_4, il_5, il_6, il_7, il_8, il_9, il_10, il_11, il_12, il_16, il_20, il_32, il_44, il_45, il_48, il_50, il_57, il_59, il_60, il_64, il_74, il_98, il_99, il_100, il_108, il_109, il_110, il_111, il_112, il_113, il_115, il_119, il_120, il_158, il_255, il_1106, il_2147483647, nI_add, nI_mul, nI_sub, nI_clamp, nI_inT, nI_eqP, nI_leP, nI_ltP, nI_neP, nI_nnP, nI_nlP, nI_nltP, nI_nleP, nI_div, nI_subneg, nI_if, if_true, if_false, ite_true, ite_false, ↓reduceIte, nI_spos, nI_szero, Nat.add_zero, sf_t1, sf_c7, sf_c8, sf_c9, n1_0, n4_0, n4_1, il_13, f_L_startOf, f_TX11_start, f_TX11_checkBooking, b0, x1]
theorem a_hasStarted (hV : VW M U) (hr : RO M on ot op os sc sd sp sw gc gp gr bc bg bs bt be ql qg fc fg fs fm) {j : Nat} (hj : j < M 2) : f_L_hasStarted on bc bt (nI j) = some (nI (if M 3 < zT M j then 0 else 1)) := by
  have hv := hV
  obtain ⟨⟨v0, v1, v2, v4, v3, vU⟩, hS, hR, hVQ, hVB, hD, hVF, hC⟩ := hv
  have hr' := hr
  obtain ⟨⟨n1, n2, n3, n4⟩, oS, oG, oB, oQ, oF⟩ := hr'
  have s0 := oS.1
  have g0 := oG.1
  have b0 := oB.1
  have f0 := oF.1
  have x1 : f_X1_has (nI (M 2)) (nI j) = some (nI 1) := fh_1 (by omega) ⟨j, hj, rfl⟩
  have hj' : j < 12 := by omega
  have w := (oB.2 j hj).2.2.1
  have hT := (hVB j hj).2.2.1
  by_cases d : M 3 < zT M j
  · simp (disch := omega) only [sf_g, sf_b, sf_n, sf_c0, sf_c1, sf_c2, sf_c3, sf_c4, sf_c5, sf_c6, il_0, il_1, il_2, il_3, il_4, il_5, il_6, il_7, il_8, il_9, il_10, il_11, il_12, il_16, il_20, il_32, il_44, il_45, il_48, il_50, il_57, il_59, il_60, il_64, il_74, il_98, il_99, il_100, il_108, il_109, il_110, il_111, il_112, il_113, il_115, il_119, il_120, il_158, il_255, il_1106, il_2147483647, nI_add, nI_mul, nI_sub, nI_clamp, nI_inT, nI_eqP, nI_leP, nI_ltP, nI_neP, nI_nnP, nI_nlP, nI_nltP, nI_nleP, nI_div, nI_subneg, nI_if, if_true, if_false, ite_true, ite_false, ↓reduceIte, nI_spos, nI_szero, Nat.add_zero, sf_t1, sf_c7, sf_c8, sf_c9, n1_0, n4_0, n4_1, il_13, f_L_hasStarted, f_TX11_hasStarted, f_X11_hasStarted, f_TX11_checkBooking, f_X11_checkBooking, b0, n1, x1, w, d]
  · simp (disch := omega) only [sf_g, sf_b, sf_n, sf_c0, sf_c1, sf_c2, sf_c3, sf_c4, sf_c5, sf_c6, il_0, il_1, il_2, il_3, il_4, il_5, il_6, il_7, il_8, il_9, il_10, il_11, il_12, il_16, il_20, il_32, il_44, il_45, il_48, il_50, il_57, il_59, il_60, il_64, il_74, il_98, il_99, il_100, il_108, il_109, il_110, il_111, il_112, il_113, il_115, il_119, il_120, il_158, il_255, il_1106, il_2147483647, nI_add, nI_mul, nI_sub, nI_clamp, nI_inT, nI_eqP, nI_leP, nI_ltP, nI_neP, nI_nnP, nI_nlP, nI_nltP, nI_nleP, nI_div, nI_subneg, nI_if, if_true, if_false, ite_true, ite_false, ↓reduceIte, nI_spos, nI_szero, Nat.add_zero, sf_t1, sf_c7, sf_c8, sf_c9, n1_0, n4_0, n4_1, il_13, f_L_hasStarted, f_TX11_hasStarted, f_X11_hasStarted, f_TX11_checkBooking, f_X11_checkBooking, b0, n1, x1, w, d]
theorem x_hasStarted (hV : VW M U) (hr : RO M on ot op os sc sd sp sw gc gp gr bc bg bs bt be ql qg fc fg fs fm) {p : Int32} (c : ¬ zin (M 2) p) : f_L_hasStarted on bc bt p = some (-11) := by
  have hv := hV
  obtain ⟨⟨v0, v1, v2, v4, v3, vU⟩, hS, hR, hVQ, hVB, hD, hVF, hC⟩ := hv
  have hr' := hr
  obtain ⟨⟨n1, n2, n3, n4⟩, oS, oG, oB, oQ, oF⟩ := hr'
  have s0 := oS.1
  have g0 := oG.1
  have b0 := oB.1
  have f0 := oF.1
  have x1 : f_X1_has (nI (M 2)) p = some (nI 0) := fh_0 (by omega) c
  simp (disch := omega) only [sf_g, sf_b, sf_n, sf_c0, sf_c1, sf_c2, sf_c3, sf_c4, sf_c5, sf_c6, il_0, il_1, il_2, il_3, il_4, il_5, il_6, il_7, il_8, il_9, il_10, il_11, il_12, il_16, il_20, il_32, il_44, il_45, il_48, il_50, il_57, il_59, il_60, il_64, il_74, il_98, il_99, il_100, il_108, il_109, il_110, il_111, il_112, il_113, il_115, il_119, il_120, il_158, il_255, il_1106, il_2147483647, nI_add, nI_mul, nI_sub, nI_clamp, nI_inT, nI_eqP, nI_leP, nI_ltP, nI_neP, nI_nnP, nI_nlP, nI_nltP, nI_nleP, nI_div, nI_subneg, nI_if, if_true, if_false, ite_true, ite_false, ↓reduceIte, nI_spos, nI_szero, Nat.add_zero, sf_t1, sf_c7, sf_c8, sf_c9, n1_0, n4_0, n4_1, il_13, f_L_hasStarted, f_TX11_hasStarted, f_TX11_checkBooking, b0, x1]
theorem a_rider (hV : VW M U) (hr : RO M on ot op os sc sd sp sw gc gp gr bc bg bs bt be ql qg fc fg fs fm) {j : Nat} (hj : j < M 0) : f_L_rider on sc bc bg bs bt be (nI j) = some (if zla (zPo (zS M) (zT M) (zE M) j (M 3)) (M 2) = 99 then -nI 13 else nI (zG M (zla (zPo (zS M) (zT M) (zE M) j (M 3)) (M 2)))) := by
  have hv := hV
  obtain ⟨⟨v0, v1, v2, v4, v3, vU⟩, hS, hR, hVQ, hVB, hD, hVF, hC⟩ := hv
  have hr' := hr
  obtain ⟨⟨n1, n2, n3, n4⟩, oS, oG, oB, oQ, oF⟩ := hr'
  have s0 := oS.1
  have g0 := oG.1
  have b0 := oB.1
  have f0 := oF.1
  have x1 : f_X10_has (nI (M 0)) (nI j) = some (nI 1) := fh_1 (by omega) ⟨j, hj, rfl⟩
  have hon := of_on hV oB (s := j) (t := M 3) (by omega) (by omega)
  rcases zla_lt (P := zPo (zS M) (zT M) (zE M) j (M 3)) (n := M 2) with y | ⟨y, _⟩
  · rw [y, zio_n] at hon
    rw [if_pos y]
    simp (disch := omega) only [sf_g, sf_b, sf_n, sf_c0, sf_c1, sf_c2, sf_c3, sf_c4, sf_c5, sf_c6, il_0, il_1, il_2, il_3, il_4, il_5, il_6, il_7, il_8, il_9, il_10, il_11, il_12, il_16, il_20, il_32, il_44, il_45, il_48, il_50, il_57, il_59, il_60, il_64, il_74, il_98, il_99, il_100, il_108, il_109, il_110, il_111, il_112, il_113, il_115, il_119, il_120, il_158, il_255, il_1106, il_2147483647, nI_add, nI_mul, nI_sub, nI_clamp, nI_inT, nI_eqP, nI_leP, nI_ltP, nI_neP, nI_nnP, nI_nlP, nI_nltP, nI_nleP, nI_div, nI_subneg, nI_if, if_true, if_false, ite_true, ite_false, ↓reduceIte, nI_spos, nI_szero, Nat.add_zero, sf_t1, sf_c7, sf_c8, sf_c9, n1_0, n4_0, n4_1, il_13, f_L_rider, f_TX11_rider, f_TX11_checkSlide, f_X11_checkSlide, s0, b0, n1, x1, hon, (by decide : ¬ (4 : Nat) = 0)]
  · rw [zio_c (by omega)] at hon
    have w := (oB.2 _ y).1
    rw [if_neg (by omega)]
    simp (disch := omega) only [sf_g, sf_b, sf_n, sf_c0, sf_c1, sf_c2, sf_c3, sf_c4, sf_c5, sf_c6, il_0, il_1, il_2, il_3, il_4, il_5, il_6, il_7, il_8, il_9, il_10, il_11, il_12, il_16, il_20, il_32, il_44, il_45, il_48, il_50, il_57, il_59, il_60, il_64, il_74, il_98, il_99, il_100, il_108, il_109, il_110, il_111, il_112, il_113, il_115, il_119, il_120, il_158, il_255, il_1106, il_2147483647, nI_add, nI_mul, nI_sub, nI_clamp, nI_inT, nI_eqP, nI_leP, nI_ltP, nI_neP, nI_nnP, nI_nlP, nI_nltP, nI_nleP, nI_div, nI_subneg, nI_if, if_true, if_false, ite_true, ite_false, ↓reduceIte, nI_spos, nI_szero, Nat.add_zero, sf_t1, sf_c7, sf_c8, sf_c9, n1_0, n4_0, n4_1, il_13, f_L_rider, f_TX11_rider, f_X11_rider, f_TX11_checkSlide, f_X11_checkSlide, s0, b0, n1, x1, hon, w]
theorem x_rider (hV : VW M U) (hr : RO M on ot op os sc sd sp sw gc gp gr bc bg bs bt be ql qg fc fg fs fm) {p : Int32} (c : ¬ zin (M 0) p) : f_L_rider on sc bc bg bs bt be p = some (-11) := by
  have hv := hV
  obtain ⟨⟨v0, v1, v2, v4, v3, vU⟩, hS, hR, hVQ, hVB, hD, hVF, hC⟩ := hv
  have hr' := hr
  obtain ⟨⟨n1, n2, n3, n4⟩, oS, oG, oB, oQ, oF⟩ := hr'
  have s0 := oS.1
  have g0 := oG.1
  have b0 := oB.1
  have f0 := oF.1
  have x1 : f_X10_has (nI (M 0)) p = some (nI 0) := fh_0 (by omega) c
  simp (disch := omega) only [sf_g, sf_b, sf_n, sf_c0, sf_c1, sf_c2, sf_c3, sf_c4, sf_c5, sf_c6, il_0, il_1, il_2, il_3, il_4, il_5, il_6, il_7, il_8, il_9, il_10, il_11, il_12, il_16, il_20, il_32, il_44, il_45, il_48, il_50, il_57, il_59, il_60, il_64, il_74, il_98, il_99, il_100, il_108, il_109, il_110, il_111, il_112, il_113, il_115, il_119, il_120, il_158, il_255, il_1106, il_2147483647, nI_add, nI_mul, nI_sub, nI_clamp, nI_inT, nI_eqP, nI_leP, nI_ltP, nI_neP, nI_nnP, nI_nlP, nI_nltP, nI_nleP, nI_div, nI_subneg, nI_if, if_true, if_false, ite_true, ite_false, ↓reduceIte, nI_spos, nI_szero, Nat.add_zero, sf_t1, sf_c7, sf_c8, sf_c9, n1_0, n4_0, n4_1, il_13, f_L_rider, f_TX11_rider, f_TX11_checkSlide, s0, x1]
theorem a_queueOf (hV : VW M U) (hr : RO M on ot op os sc sd sp sw gc gp gr bc bg bs bt be ql qg fc fg fs fm) {j : Nat} (hj : j < M 1) : f_L_queueOf gc ql qg (nI j) = some (if zV M j = 0 then -nI 13 else nI (zV M j - 1)) := by
  have hv := hV
  obtain ⟨⟨v0, v1, v2, v4, v3, vU⟩, hS, hR, hVQ, hVB, hD, hVF, hC⟩ := hv
  have hr' := hr
  obtain ⟨⟨n1, n2, n3, n4⟩, oS, oG, oB, oQ, oF⟩ := hr'
  have s0 := oS.1
  have g0 := oG.1
  have b0 := oB.1
  have f0 := oF.1
  have x1 : f_X6_has (nI (M 1)) (nI j) = some (nI 1) := fh_1 (by omega) ⟨j, hj, rfl⟩
  have hso := of_so hV oQ hj
  have hg4 := (hVQ.2.2.2 j hj).1
  by_cases d : zV M j = 0
  · rw [if_pos d] at hso
    rw [if_pos d]
    simp (disch := omega) only [sf_g, sf_b, sf_n, sf_c0, sf_c1, sf_c2, sf_c3, sf_c4, sf_c5, sf_c6, il_0, il_1, il_2, il_3, il_4, il_5, il_6, il_7, il_8, il_9, il_10, il_11, il_12, il_16, il_20, il_32, il_44, il_45, il_48, il_50, il_57, il_59, il_60, il_64, il_74, il_98, il_99, il_100, il_108, il_109, il_110, il_111, il_112, il_113, il_115, il_119, il_120, il_158, il_255, il_1106, il_2147483647, nI_add, nI_mul, nI_sub, nI_clamp, nI_inT, nI_eqP, nI_leP, nI_ltP, nI_neP, nI_nnP, nI_nlP, nI_nltP, nI_nleP, nI_div, nI_subneg, nI_if, if_true, if_false, ite_true, ite_false, ↓reduceIte, nI_spos, nI_szero, Nat.add_zero, sf_t1, sf_c7, sf_c8, sf_c9, n1_0, n4_0, n4_1, il_13, f_L_queueOf, f_TX11_queueOf, f_TX11_checkGuest, f_X11_checkGuest, g0, x1, hso, (by decide : ¬ (4 : Nat) = 0)]
  · rw [if_neg d] at hso
    rw [if_neg d]
    simp (disch := omega) only [sf_g, sf_b, sf_n, sf_c0, sf_c1, sf_c2, sf_c3, sf_c4, sf_c5, sf_c6, il_0, il_1, il_2, il_3, il_4, il_5, il_6, il_7, il_8, il_9, il_10, il_11, il_12, il_16, il_20, il_32, il_44, il_45, il_48, il_50, il_57, il_59, il_60, il_64, il_74, il_98, il_99, il_100, il_108, il_109, il_110, il_111, il_112, il_113, il_115, il_119, il_120, il_158, il_255, il_1106, il_2147483647, nI_add, nI_mul, nI_sub, nI_clamp, nI_inT, nI_eqP, nI_leP, nI_ltP, nI_neP, nI_nnP, nI_nlP, nI_nltP, nI_nleP, nI_div, nI_subneg, nI_if, if_true, if_false, ite_true, ite_false, ↓reduceIte, nI_spos, nI_szero, Nat.add_zero, sf_t1, sf_c7, sf_c8, sf_c9, n1_0, n4_0, n4_1, il_13, f_L_queueOf, f_TX11_queueOf, f_X11_queueOf, f_TX11_checkGuest, f_X11_checkGuest, g0, x1, hso]
theorem x_queueOf (hV : VW M U) (hr : RO M on ot op os sc sd sp sw gc gp gr bc bg bs bt be ql qg fc fg fs fm) {p : Int32} (c : ¬ zin (M 1) p) : f_L_queueOf gc ql qg p = some (-11) := by
  have hv := hV
  obtain ⟨⟨v0, v1, v2, v4, v3, vU⟩, hS, hR, hVQ, hVB, hD, hVF, hC⟩ := hv
  have hr' := hr
  obtain ⟨⟨n1, n2, n3, n4⟩, oS, oG, oB, oQ, oF⟩ := hr'
  have s0 := oS.1
  have g0 := oG.1
  have b0 := oB.1
  have f0 := oF.1
  have x1 : f_X6_has (nI (M 1)) p = some (nI 0) := fh_0 (by omega) c
  simp (disch := omega) only [sf_g, sf_b, sf_n, sf_c0, sf_c1, sf_c2, sf_c3, sf_c4, sf_c5, sf_c6, il_0, il_1, il_2, il_3, il_4, il_5, il_6, il_7, il_8, il_9, il_10, il_11, il_12, il_16, il_20, il_32, il_44, il_45, il_48, il_50, il_57, il_59, il_60, il_64, il_74, il_98, il_99, il_100, il_108, il_109, il_110, il_111, il_112, il_113, il_115, il_119, il_120, il_158, il_255, il_1106, il_2147483647, nI_add, nI_mul, nI_sub, nI_clamp, nI_inT, nI_eqP, nI_leP, nI_ltP, nI_neP, nI_nnP, nI_nlP, nI_nltP, nI_nleP, nI_div, nI_subneg, nI_if, if_true, if_false, ite_true, ite_false, ↓reduceIte, nI_spos, nI_szero, Nat.add_zero, sf_t1, sf_c7, sf_c8, sf_c9, n1_0, n4_0, n4_1, il_13, f_L_queueOf, f_TX11_queueOf, f_TX11_checkGuest, g0, x1]
theorem a_queued (hV : VW M U) (hr : RO M on ot op os sc sd sp sw gc gp gr bc bg bs bt be ql qg fc fg fs fm) {j i : Nat} (hj : j < M 0) (hi : i < zQ M j) : f_X11_queuedGuest sc ql qg (nI j) (nI i) = some (nI (zq M j i)) ∧ f_L_queued sc ql qg (nI j) (nI i) = some (nI (zq M j i)) := by
  have hv := hV
  obtain ⟨⟨v0, v1, v2, v4, v3, vU⟩, hS, hR, hVQ, hVB, hD, hVF, hC⟩ := hv
  have hr' := hr
  obtain ⟨⟨n1, n2, n3, n4⟩, oS, oG, oB, oQ, oF⟩ := hr'
  have s0 := oS.1
  have g0 := oG.1
  have b0 := oB.1
  have f0 := oF.1
  have x1 : f_X10_has (nI (M 0)) (nI j) = some (nI 1) := fh_1 (by omega) ⟨j, hj, rfl⟩
  have hj' : j < 4 := by omega
  have q0 := (oQ j hj').1
  have q5 := (hVQ.1 j hj').1
  have qe := (oQ j hj').2 i hi
  have d0 : ¬ i < 0 := Nat.not_lt_zero i
  constructor
  · simp (disch := omega) only [sf_g, sf_b, sf_n, sf_c0, sf_c1, sf_c2, sf_c3, sf_c4, sf_c5, sf_c6, il_0, il_1, il_2, il_3, il_4, il_5, il_6, il_7, il_8, il_9, il_10, il_11, il_12, il_16, il_20, il_32, il_44, il_45, il_48, il_50, il_57, il_59, il_60, il_64, il_74, il_98, il_99, il_100, il_108, il_109, il_110, il_111, il_112, il_113, il_115, il_119, il_120, il_158, il_255, il_1106, il_2147483647, nI_add, nI_mul, nI_sub, nI_clamp, nI_inT, nI_eqP, nI_leP, nI_ltP, nI_neP, nI_nnP, nI_nlP, nI_nltP, nI_nleP, nI_div, nI_subneg, nI_if, if_true, if_false, ite_true, ite_false, ↓reduceIte, nI_spos, nI_szero, Nat.add_zero, sf_t1, sf_c7, sf_c8, sf_c9, n1_0, n4_0, n4_1, il_13, f_X11_queuedGuest, f_X11_checkSlide, f_X9_guestAt, s0, x1, q0, d0, hi, qe]
  · simp (disch := omega) only [sf_g, sf_b, sf_n, sf_c0, sf_c1, sf_c2, sf_c3, sf_c4, sf_c5, sf_c6, il_0, il_1, il_2, il_3, il_4, il_5, il_6, il_7, il_8, il_9, il_10, il_11, il_12, il_16, il_20, il_32, il_44, il_45, il_48, il_50, il_57, il_59, il_60, il_64, il_74, il_98, il_99, il_100, il_108, il_109, il_110, il_111, il_112, il_113, il_115, il_119, il_120, il_158, il_255, il_1106, il_2147483647, nI_add, nI_mul, nI_sub, nI_clamp, nI_inT, nI_eqP, nI_leP, nI_ltP, nI_neP, nI_nnP, nI_nlP, nI_nltP, nI_nleP, nI_div, nI_subneg, nI_if, if_true, if_false, ite_true, ite_false, ↓reduceIte, nI_spos, nI_szero, Nat.add_zero, sf_t1, sf_c7, sf_c8, sf_c9, n1_0, n4_0, n4_1, il_13, f_L_queued, f_TX11_queuedGuest, f_X11_queuedGuest, f_TX11_checkSlide, f_X11_checkSlide, f_X9_guestAt, s0, x1, q0, d0, hi, qe]
theorem x_queued (hV : VW M U) (hr : RO M on ot op os sc sd sp sw gc gp gr bc bg bs bt be ql qg fc fg fs fm) {j : Nat} (hj : j < M 0) {p : Int32} (d : ¬ zin (zQ M j) p) : f_L_queued sc ql qg (nI j) p = some (-13) := by
  have hv := hV
  obtain ⟨⟨v0, v1, v2, v4, v3, vU⟩, hS, hR, hVQ, hVB, hD, hVF, hC⟩ := hv
  have hr' := hr
  obtain ⟨⟨n1, n2, n3, n4⟩, oS, oG, oB, oQ, oF⟩ := hr'
  have s0 := oS.1
  have g0 := oG.1
  have b0 := oB.1
  have f0 := oF.1
  have x1 : f_X10_has (nI (M 0)) (nI j) = some (nI 1) := fh_1 (by omega) ⟨j, hj, rfl⟩
  have hj' : j < 4 := by omega
  have q0 := (oQ j hj').1
  have q5 := (hVQ.1 j hj').1
  by_cases e : p < 0
  · have e' : p < nI 0 := e
    simp (disch := omega) only [sf_g, sf_b, sf_n, sf_c0, sf_c1, sf_c2, sf_c3, sf_c4, sf_c5, sf_c6, il_0, il_1, il_2, il_3, il_4, il_5, il_6, il_7, il_8, il_9, il_10, il_11, il_12, il_16, il_20, il_32, il_44, il_45, il_48, il_50, il_57, il_59, il_60, il_64, il_74, il_98, il_99, il_100, il_108, il_109, il_110, il_111, il_112, il_113, il_115, il_119, il_120, il_158, il_255, il_1106, il_2147483647, nI_add, nI_mul, nI_sub, nI_clamp, nI_inT, nI_eqP, nI_leP, nI_ltP, nI_neP, nI_nnP, nI_nlP, nI_nltP, nI_nleP, nI_div, nI_subneg, nI_if, if_true, if_false, ite_true, ite_false, ↓reduceIte, nI_spos, nI_szero, Nat.add_zero, sf_t1, sf_c7, sf_c8, sf_c9, n1_0, n4_0, n4_1, il_13, f_L_queued, f_TX11_queuedGuest, f_TX11_checkSlide, f_X11_checkSlide, s0, x1, e', (by decide : ¬ (4 : Nat) = 0)]
  · obtain ⟨i, hi, rfl⟩ := nI_of e
    have d0 : ¬ i < 0 := Nat.not_lt_zero i
    have d1 : ¬ i < zQ M j := fun x => d ⟨i, x, rfl⟩
    simp (disch := omega) only [sf_g, sf_b, sf_n, sf_c0, sf_c1, sf_c2, sf_c3, sf_c4, sf_c5, sf_c6, il_0, il_1, il_2, il_3, il_4, il_5, il_6, il_7, il_8, il_9, il_10, il_11, il_12, il_16, il_20, il_32, il_44, il_45, il_48, il_50, il_57, il_59, il_60, il_64, il_74, il_98, il_99, il_100, il_108, il_109, il_110, il_111, il_112, il_113, il_115, il_119, il_120, il_158, il_255, il_1106, il_2147483647, nI_add, nI_mul, nI_sub, nI_clamp, nI_inT, nI_eqP, nI_leP, nI_ltP, nI_neP, nI_nnP, nI_nlP, nI_nltP, nI_nleP, nI_div, nI_subneg, nI_if, if_true, if_false, ite_true, ite_false, ↓reduceIte, nI_spos, nI_szero, Nat.add_zero, sf_t1, sf_c7, sf_c8, sf_c9, n1_0, n4_0, n4_1, il_13, f_L_queued, f_TX11_queuedGuest, f_TX11_checkSlide, f_X11_checkSlide, s0, x1, q0, d0, d1, (by decide : ¬ (4 : Nat) = 0)]
theorem x_queued2 (hV : VW M U) (hr : RO M on ot op os sc sd sp sw gc gp gr bc bg bs bt be ql qg fc fg fs fm) {p q : Int32} (c : ¬ zin (M 0) p) : f_L_queued sc ql qg p q = some (-11) := by
  have hv := hV
  obtain ⟨⟨v0, v1, v2, v4, v3, vU⟩, hS, hR, hVQ, hVB, hD, hVF, hC⟩ := hv
  have hr' := hr
  obtain ⟨⟨n1, n2, n3, n4⟩, oS, oG, oB, oQ, oF⟩ := hr'
  have s0 := oS.1
  have g0 := oG.1
  have b0 := oB.1
  have f0 := oF.1
  have x1 : f_X10_has (nI (M 0)) p = some (nI 0) := fh_0 (by omega) c
  simp (disch := omega) only [sf_g, sf_b, sf_n, sf_c0, sf_c1, sf_c2, sf_c3, sf_c4, sf_c5, sf_c6, il_0, il_1, il_2, il_3, il_4, il_5, il_6, il_7, il_8, il_9, il_10, il_11, il_12, il_16, il_20, il_32, il_44, il_45, il_48, il_50, il_57, il_59, il_60, il_64, il_74, il_98, il_99, il_100, il_108, il_109, il_110, il_111, il_112, il_113, il_115, il_119, il_120, il_158, il_255, il_1106, il_2147483647, nI_add, nI_mul, nI_sub, nI_clamp, nI_inT, nI_eqP, nI_leP, nI_ltP, nI_neP, nI_nnP, nI_nlP, nI_nltP, nI_nleP, nI_div, nI_subneg, nI_if, if_true, if_false, ite_true, ite_false, ↓reduceIte, nI_spos, nI_szero, Nat.add_zero, sf_t1, sf_c7, sf_c8, sf_c9, n1_0, n4_0, n4_1, il_13, f_L_queued, f_TX11_queuedGuest, f_TX11_checkSlide, s0, x1]
theorem a_finishedGuest (hV : VW M U) (hr : RO M on ot op os sc sd sp sw gc gp gr bc bg bs bt be ql qg fc fg fs fm) {j : Nat} (hj : j < M 4) : f_X11_finishedGuest fc fg (nI j) = some (nI (zFG M j)) ∧ f_L_finishedGuest fc fg (nI j) = some (nI (zFG M j)) := by
  have hv := hV
  obtain ⟨⟨v0, v1, v2, v4, v3, vU⟩, hS, hR, hVQ, hVB, hD, hVF, hC⟩ := hv
  have hr' := hr
  obtain ⟨⟨n1, n2, n3, n4⟩, oS, oG, oB, oQ, oF⟩ := hr'
  have s0 := oS.1
  have g0 := oG.1
  have b0 := oB.1
  have f0 := oF.1
  have d0 : ¬ j < 0 := Nat.not_lt_zero j
  have w := (oF.2 (M 4 - 1 - j) (by omega)).1
  rw [show M 4 - 1 - (M 4 - 1 - j) = j by omega] at w
  constructor
  · simp (disch := omega) only [sf_g, sf_b, sf_n, sf_c0, sf_c1, sf_c2, sf_c3, sf_c4, sf_c5, sf_c6, il_0, il_1, il_2, il_3, il_4, il_5, il_6, il_7, il_8, il_9, il_10, il_11, il_12, il_16, il_20, il_32, il_44, il_45, il_48, il_50, il_57, il_59, il_60, il_64, il_74, il_98, il_99, il_100, il_108, il_109, il_110, il_111, il_112, il_113, il_115, il_119, il_120, il_158, il_255, il_1106, il_2147483647, nI_add, nI_mul, nI_sub, nI_clamp, nI_inT, nI_eqP, nI_leP, nI_ltP, nI_neP, nI_nnP, nI_nlP, nI_nltP, nI_nleP, nI_div, nI_subneg, nI_if, if_true, if_false, ite_true, ite_false, ↓reduceIte, nI_spos, nI_szero, Nat.add_zero, sf_t1, sf_c7, sf_c8, sf_c9, n1_0, n4_0, n4_1, il_13, f_X11_finishedGuest, f_X11_checkFinish, f_X5_rowOf, f0, d0, hj, w]
  · simp (disch := omega) only [sf_g, sf_b, sf_n, sf_c0, sf_c1, sf_c2, sf_c3, sf_c4, sf_c5, sf_c6, il_0, il_1, il_2, il_3, il_4, il_5, il_6, il_7, il_8, il_9, il_10, il_11, il_12, il_16, il_20, il_32, il_44, il_45, il_48, il_50, il_57, il_59, il_60, il_64, il_74, il_98, il_99, il_100, il_108, il_109, il_110, il_111, il_112, il_113, il_115, il_119, il_120, il_158, il_255, il_1106, il_2147483647, nI_add, nI_mul, nI_sub, nI_clamp, nI_inT, nI_eqP, nI_leP, nI_ltP, nI_neP, nI_nnP, nI_nlP, nI_nltP, nI_nleP, nI_div, nI_subneg, nI_if, if_true, if_false, ite_true, ite_false, ↓reduceIte, nI_spos, nI_szero, Nat.add_zero, sf_t1, sf_c7, sf_c8, sf_c9, n1_0, n4_0, n4_1, il_13, f_L_finishedGuest, f_TX11_finishedGuest, f_X11_finishedGuest, f_TX11_checkFinish, f_X11_checkFinish, f_X5_rowOf, f0, d0, hj, w]
theorem x_finishedGuest (hV : VW M U) (hr : RO M on ot op os sc sd sp sw gc gp gr bc bg bs bt be ql qg fc fg fs fm) {p : Int32} (c : ¬ zin (M 4) p) : f_L_finishedGuest fc fg p = some (-13) := by
  have hv := hV
  obtain ⟨⟨v0, v1, v2, v4, v3, vU⟩, hS, hR, hVQ, hVB, hD, hVF, hC⟩ := hv
  have hr' := hr
  obtain ⟨⟨n1, n2, n3, n4⟩, oS, oG, oB, oQ, oF⟩ := hr'
  have s0 := oS.1
  have g0 := oG.1
  have b0 := oB.1
  have f0 := oF.1
  by_cases e : p < 0
  · have e' : p < nI 0 := e
    simp (disch := omega) only [sf_g, sf_b, sf_n, sf_c0, sf_c1, sf_c2, sf_c3, sf_c4, sf_c5, sf_c6, il_0, il_1, il_2, il_3, il_4, il_5, il_6, il_7, il_8, il_9, il_10, il_11, il_12, il_16, il_20, il_32, il_44, il_45, il_48, il_50, il_57, il_59, il_60, il_64, il_74, il_98, il_99, il_100, il_108, il_109, il_110, il_111, il_112, il_113, il_115, il_119, il_120, il_158, il_255, il_1106, il_2147483647, nI_add, nI_mul, nI_sub, nI_clamp, nI_inT, nI_eqP, nI_leP, nI_ltP, nI_neP, nI_nnP, nI_nlP, nI_nltP, nI_nleP, nI_div, nI_subneg, nI_if, if_true, if_false, ite_true, ite_false, ↓reduceIte, nI_spos, nI_szero, Nat.add_zero, sf_t1, sf_c7, sf_c8, sf_c9, n1_0, n4_0, n4_1, il_13, f_L_finishedGuest, f_TX11_finishedGuest, f_TX11_checkFinish, e']
  · obtain ⟨i, hi, rfl⟩ := nI_of e
    have d0 : ¬ i < 0 := Nat.not_lt_zero i
    have d1 : ¬ i < M 4 := fun x => c ⟨i, x, rfl⟩
    simp (disch := omega) only [sf_g, sf_b, sf_n, sf_c0, sf_c1, sf_c2, sf_c3, sf_c4, sf_c5, sf_c6, il_0, il_1, il_2, il_3, il_4, il_5, il_6, il_7, il_8, il_9, il_10, il_11, il_12, il_16, il_20, il_32, il_44, il_45, il_48, il_50, il_57, il_59, il_60, il_64, il_74, il_98, il_99, il_100, il_108, il_109, il_110, il_111, il_112, il_113, il_115, il_119, il_120, il_158, il_255, il_1106, il_2147483647, nI_add, nI_mul, nI_sub, nI_clamp, nI_inT, nI_eqP, nI_leP, nI_ltP, nI_neP, nI_nnP, nI_nlP, nI_nltP, nI_nleP, nI_div, nI_subneg, nI_if, if_true, if_false, ite_true, ite_false, ↓reduceIte, nI_spos, nI_szero, Nat.add_zero, sf_t1, sf_c7, sf_c8, sf_c9, n1_0, n4_0, n4_1, il_13, f_L_finishedGuest, f_TX11_finishedGuest, f_TX11_checkFinish, f0, d0, d1]
theorem a_finishedSlide (hV : VW M U) (hr : RO M on ot op os sc sd sp sw gc gp gr bc bg bs bt be ql qg fc fg fs fm) {j : Nat} (hj : j < M 4) : f_X11_finishedSlide fc fs (nI j) = some (nI (zFS M j)) ∧ f_L_finishedSlide fc fs (nI j) = some (nI (zFS M j)) := by
  have hv := hV
  obtain ⟨⟨v0, v1, v2, v4, v3, vU⟩, hS, hR, hVQ, hVB, hD, hVF, hC⟩ := hv
  have hr' := hr
  obtain ⟨⟨n1, n2, n3, n4⟩, oS, oG, oB, oQ, oF⟩ := hr'
  have s0 := oS.1
  have g0 := oG.1
  have b0 := oB.1
  have f0 := oF.1
  have d0 : ¬ j < 0 := Nat.not_lt_zero j
  have w := (oF.2 (M 4 - 1 - j) (by omega)).2.1
  rw [show M 4 - 1 - (M 4 - 1 - j) = j by omega] at w
  constructor
  · simp (disch := omega) only [sf_g, sf_b, sf_n, sf_c0, sf_c1, sf_c2, sf_c3, sf_c4, sf_c5, sf_c6, il_0, il_1, il_2, il_3, il_4, il_5, il_6, il_7, il_8, il_9, il_10, il_11, il_12, il_16, il_20, il_32, il_44, il_45, il_48, il_50, il_57, il_59, il_60, il_64, il_74, il_98, il_99, il_100, il_108, il_109, il_110, il_111, il_112, il_113, il_115, il_119, il_120, il_158, il_255, il_1106, il_2147483647, nI_add, nI_mul, nI_sub, nI_clamp, nI_inT, nI_eqP, nI_leP, nI_ltP, nI_neP, nI_nnP, nI_nlP, nI_nltP, nI_nleP, nI_div, nI_subneg, nI_if, if_true, if_false, ite_true, ite_false, ↓reduceIte, nI_spos, nI_szero, Nat.add_zero, sf_t1, sf_c7, sf_c8, sf_c9, n1_0, n4_0, n4_1, il_13, f_X11_finishedSlide, f_X11_checkFinish, f_X5_rowOf, f0, d0, hj, w]
  · simp (disch := omega) only [sf_g, sf_b, sf_n, sf_c0, sf_c1, sf_c2, sf_c3, sf_c4, sf_c5, sf_c6, il_0, il_1, il_2, il_3, il_4, il_5, il_6, il_7, il_8, il_9, il_10, il_11, il_12, il_16, il_20, il_32, il_44, il_45, il_48, il_50, il_57, il_59, il_60, il_64, il_74, il_98, il_99, il_100, il_108, il_109, il_110, il_111, il_112, il_113, il_115, il_119, il_120, il_158, il_255, il_1106, il_2147483647, nI_add, nI_mul, nI_sub, nI_clamp, nI_inT, nI_eqP, nI_leP, nI_ltP, nI_neP, nI_nnP, nI_nlP, nI_nltP, nI_nleP, nI_div, nI_subneg, nI_if, if_true, if_false, ite_true, ite_false, ↓reduceIte, nI_spos, nI_szero, Nat.add_zero, sf_t1, sf_c7, sf_c8, sf_c9, n1_0, n4_0, n4_1, il_13, f_L_finishedSlide, f_TX11_finishedSlide, f_X11_finishedSlide, f_TX11_checkFinish, f_X11_checkFinish, f_X5_rowOf, f0, d0, hj, w]
theorem x_finishedSlide (hV : VW M U) (hr : RO M on ot op os sc sd sp sw gc gp gr bc bg bs bt be ql qg fc fg fs fm) {p : Int32} (c : ¬ zin (M 4) p) : f_L_finishedSlide fc fs p = some (-13) := by
  have hv := hV
  obtain ⟨⟨v0, v1, v2, v4, v3, vU⟩, hS, hR, hVQ, hVB, hD, hVF, hC⟩ := hv
  have hr' := hr
  obtain ⟨⟨n1, n2, n3, n4⟩, oS, oG, oB, oQ, oF⟩ := hr'
  have s0 := oS.1
  have g0 := oG.1
  have b0 := oB.1
  have f0 := oF.1
  by_cases e : p < 0
  · have e' : p < nI 0 := e
    simp (disch := omega) only [sf_g, sf_b, sf_n, sf_c0, sf_c1, sf_c2, sf_c3, sf_c4, sf_c5, sf_c6, il_0, il_1, il_2, il_3, il_4, il_5, il_6, il_7, il_8, il_9, il_10, il_11, il_12, il_16, il_20, il_32, il_44, il_45, il_48, il_50, il_57, il_59, il_60, il_64, il_74, il_98, il_99, il_100, il_108, il_109, il_110, il_111, il_112, il_113, il_115, il_119, il_120, il_158, il_255, il_1106, il_2147483647, nI_add, nI_mul, nI_sub, nI_clamp, nI_inT, nI_eqP, nI_leP, nI_ltP, nI_neP, nI_nnP, nI_nlP, nI_nltP, nI_nleP, nI_div, nI_subneg, nI_if, if_true, if_false, ite_true, ite_false, ↓reduceIte, nI_spos, nI_szero, Nat.add_zero, sf_t1, sf_c7, sf_c8, sf_c9, n1_0, n4_0, n4_1, il_13, f_L_finishedSlide, f_TX11_finishedSlide, f_TX11_checkFinish, e']
  · obtain ⟨i, hi, rfl⟩ := nI_of e
    have d0 : ¬ i < 0 := Nat.not_lt_zero i
    have d1 : ¬ i < M 4 := fun x => c ⟨i, x, rfl⟩
    simp (disch := omega) only [sf_g, sf_b, sf_n, sf_c0, sf_c1, sf_c2, sf_c3, sf_c4, sf_c5, sf_c6, il_0, il_1, il_2, il_3, il_4, il_5, il_6, il_7, il_8, il_9, il_10, il_11, il_12, il_16, il_20, il_32, il_44, il_45, il_48, il_50, il_57, il_59, il_60, il_64, il_74, il_98, il_99, il_100, il_108, il_109, il_110, il_111, il_112, il_113, il_115, il_119, il_120, il_158, il_255, il_1106, il_2147483647, nI_add, nI_mul, nI_sub, nI_clamp, nI_inT, nI_eqP, nI_leP, nI_ltP, nI_neP, nI_nnP, nI_nlP, nI_nltP, nI_nleP, nI_div, nI_subneg, nI_if, if_true, if_false, ite_true, ite_false, ↓reduceIte, nI_spos, nI_szero, Nat.add_zero, sf_t1, sf_c7, sf_c8, sf_c9, n1_0, n4_0, n4_1, il_13, f_L_finishedSlide, f_TX11_finishedSlide, f_TX11_checkFinish, f0, d0, d1]
theorem a_finishMinute (hV : VW M U) (hr : RO M on ot op os sc sd sp sw gc gp gr bc bg bs bt be ql qg fc fg fs fm) {j : Nat} (hj : j < M 4) : f_X11_finishMinute fc fm (nI j) = some (nI (zFM M j)) ∧ f_L_finishMinute fc fm (nI j) = some (nI (zFM M j)) := by
  have hv := hV
  obtain ⟨⟨v0, v1, v2, v4, v3, vU⟩, hS, hR, hVQ, hVB, hD, hVF, hC⟩ := hv
  have hr' := hr
  obtain ⟨⟨n1, n2, n3, n4⟩, oS, oG, oB, oQ, oF⟩ := hr'
  have s0 := oS.1
  have g0 := oG.1
  have b0 := oB.1
  have f0 := oF.1
  have d0 : ¬ j < 0 := Nat.not_lt_zero j
  have w := (oF.2 (M 4 - 1 - j) (by omega)).2.2
  rw [show M 4 - 1 - (M 4 - 1 - j) = j by omega] at w
  constructor
  · simp (disch := omega) only [sf_g, sf_b, sf_n, sf_c0, sf_c1, sf_c2, sf_c3, sf_c4, sf_c5, sf_c6, il_0, il_1, il_2, il_3, il_4, il_5, il_6, il_7, il_8, il_9, il_10, il_11, il_12, il_16, il_20, il_32, il_44, il_45, il_48, il_50, il_57, il_59, il_60, il_64, il_74, il_98, il_99, il_100, il_108, il_109, il_110, il_111, il_112, il_113, il_115, il_119, il_120, il_158, il_255, il_1106, il_2147483647, nI_add, nI_mul, nI_sub, nI_clamp, nI_inT, nI_eqP, nI_leP, nI_ltP, nI_neP, nI_nnP, nI_nlP, nI_nltP, nI_nleP, nI_div, nI_subneg, nI_if, if_true, if_false, ite_true, ite_false, ↓reduceIte, nI_spos, nI_szero, Nat.add_zero, sf_t1, sf_c7, sf_c8, sf_c9, n1_0, n4_0, n4_1, il_13, f_X11_finishMinute, f_X11_checkFinish, f_X5_rowOf, f0, d0, hj, w]
  · simp (disch := omega) only [sf_g, sf_b, sf_n, sf_c0, sf_c1, sf_c2, sf_c3, sf_c4, sf_c5, sf_c6, il_0, il_1, il_2, il_3, il_4, il_5, il_6, il_7, il_8, il_9, il_10, il_11, il_12, il_16, il_20, il_32, il_44, il_45, il_48, il_50, il_57, il_59, il_60, il_64, il_74, il_98, il_99, il_100, il_108, il_109, il_110, il_111, il_112, il_113, il_115, il_119, il_120, il_158, il_255, il_1106, il_2147483647, nI_add, nI_mul, nI_sub, nI_clamp, nI_inT, nI_eqP, nI_leP, nI_ltP, nI_neP, nI_nnP, nI_nlP, nI_nltP, nI_nleP, nI_div, nI_subneg, nI_if, if_true, if_false, ite_true, ite_false, ↓reduceIte, nI_spos, nI_szero, Nat.add_zero, sf_t1, sf_c7, sf_c8, sf_c9, n1_0, n4_0, n4_1, il_13, f_L_finishMinute, f_TX11_finishMinute, f_X11_finishMinute, f_TX11_checkFinish, f_X11_checkFinish, f_X5_rowOf, f0, d0, hj, w]
theorem x_finishMinute (hV : VW M U) (hr : RO M on ot op os sc sd sp sw gc gp gr bc bg bs bt be ql qg fc fg fs fm) {p : Int32} (c : ¬ zin (M 4) p) : f_L_finishMinute fc fm p = some (-13) := by
  have hv := hV
  obtain ⟨⟨v0, v1, v2, v4, v3, vU⟩, hS, hR, hVQ, hVB, hD, hVF, hC⟩ := hv
  have hr' := hr
  obtain ⟨⟨n1, n2, n3, n4⟩, oS, oG, oB, oQ, oF⟩ := hr'
  have s0 := oS.1
  have g0 := oG.1
  have b0 := oB.1
  have f0 := oF.1
  by_cases e : p < 0
  · have e' : p < nI 0 := e
    simp (disch := omega) only [sf_g, sf_b, sf_n, sf_c0, sf_c1, sf_c2, sf_c3, sf_c4, sf_c5, sf_c6, il_0, il_1, il_2, il_3, il_4, il_5, il_6, il_7, il_8, il_9, il_10, il_11, il_12, il_16, il_20, il_32, il_44, il_45, il_48, il_50, il_57, il_59, il_60, il_64, il_74, il_98, il_99, il_100, il_108, il_109, il_110, il_111, il_112, il_113, il_115, il_119, il_120, il_158, il_255, il_1106, il_2147483647, nI_add, nI_mul, nI_sub, nI_clamp, nI_inT, nI_eqP, nI_leP, nI_ltP, nI_neP, nI_nnP, nI_nlP, nI_nltP, nI_nleP, nI_div, nI_subneg, nI_if, if_true, if_false, ite_true, ite_false, ↓reduceIte, nI_spos, nI_szero, Nat.add_zero, sf_t1, sf_c7, sf_c8, sf_c9, n1_0, n4_0, n4_1, il_13, f_L_finishMinute, f_TX11_finishMinute, f_TX11_checkFinish, e']
  · obtain ⟨i, hi, rfl⟩ := nI_of e
    have d0 : ¬ i < 0 := Nat.not_lt_zero i
    have d1 : ¬ i < M 4 := fun x => c ⟨i, x, rfl⟩
    simp (disch := omega) only [sf_g, sf_b, sf_n, sf_c0, sf_c1, sf_c2, sf_c3, sf_c4, sf_c5, sf_c6, il_0, il_1, il_2, il_3, il_4, il_5, il_6, il_7, il_8, il_9, il_10, il_11, il_12, il_16, il_20, il_32, il_44, il_45, il_48, il_50, il_57, il_59, il_60, il_64, il_74, il_98, il_99, il_100, il_108, il_109, il_110, il_111, il_112, il_113, il_115, il_119, il_120, il_158, il_255, il_1106, il_2147483647, nI_add, nI_mul, nI_sub, nI_clamp, nI_inT, nI_eqP, nI_leP, nI_ltP, nI_neP, nI_nnP, nI_nlP, nI_nltP, nI_nleP, nI_div, nI_subneg, nI_if, if_true, if_false, ite_true, ite_false, ↓reduceIte, nI_spos, nI_szero, Nat.add_zero, sf_t1, sf_c7, sf_c8, sf_c9, n1_0, n4_0, n4_1, il_13, f_L_finishMinute, f_TX11_finishMinute, f_TX11_checkFinish, f0, d0, d1]
/-- numbers that are no place of a row -/
theorem zin_n {n : Nat} (h : n < 100) : ¬ zin n (nI n) := fun ⟨j, h1, h2⟩ => by
  rw [nI_eq (by omega) (by omega)] at h2
  omega
theorem zin_m {n k : Nat} (h : n < 100) (h1 : 0 < k) (h2 : k < 100) : ¬ zin n (-nI k) := fun ⟨j, h3, h4⟩ => by
  have e := nI_neP (a := j) k (by omega) h1 (by omega)
  rw [← h4] at e
  exact e.mp rfl
end ASK
