/-! the seven commands: office and model do the same, or both refuse -/
section CMD
variable {M : Nat → Nat} {ms : Nat → Int32} {U : Nat} {on ot op os sc gc bc fc : Int32} {sd sp sw gp gr bg bs bt be ql qg fg fs fm : Nat → Int32}
theorem rng {p lo hi : Int32} {a b : Nat} (hlo : lo = nI a) (hhi : hi = nI b) (ha : a < 2 ^ 31) (hb : b < 2 ^ 31) (h1 : ¬ p < lo) (h2 : ¬ hi < p) : ∃ d, a ≤ d ∧ d ≤ b ∧ p = nI d := by
  subst hlo; subst hhi
  have c0 : ¬ p < 0 := fun e => h1 (by
    rw [Int32.lt_iff_toInt_lt] at e ⊢
    rw [nI_toInt ha]
    have : (0 : Int32).toInt = 0 := by decide
    omega)
  obtain ⟨j, hj, rfl⟩ := nI_of c0
  rw [nI_ltP hj ha] at h1
  rw [nI_ltP hb hj] at h2
  exact ⟨j, by omega, by omega, rfl⟩
theorem sfc1_s {α γ : Type} (a : γ) (k : γ → Option α) : sf_c1 (some a) k = k a := rfl
theorem VW_of {M' : Nat → Nat} (h : VP M' U (12 * M 3) (M 3 + 1)) (e : M' 3 = M 3) : VW M' U := by unfold VW; rw [e]; exact h
theorem sim_build (hV : VW M U) (hm : MR M ms) (hr : RO M on ot op os sc sd sp sw gc gp gr bc bg bs bt be ql qg fc fg fs fm) (p0 p1 : Int32) (mt : Int32) : (∃ c o : Nat, (c = 1 ∧ o = 2 ∨ c = 2 ∧ o = 3) ∧ f_X8_tryBuild sc sd sp sw p0 p1 = some (-nI o, sc, sd, sp, sw) ∧ f_X12_doBuildSlide ms mt p0 p1 = some (0, ms, nI c)) ∨ (∃ (a : Nat) (M' : Nat → Nat) (ms' : Nat → Int32), ∃ sc' sd' sp' sw', f_X8_tryBuild sc sd sp sw p0 p1 = some (nI a, sc', sd', sp', sw') ∧ f_X12_doBuildSlide ms mt p0 p1 = some (nI a, ms', mt) ∧ a < 2 ^ 31 ∧ VW M' U ∧ MR M' ms' ∧ RO M' on ot op os sc' sd' sp' sw' gc gp gr bc bg bs bt be ql qg fc fg fs fm) := by
  have h0 : ∀ k, k < 158 → ms k = nI (M k) := hm
  have hv := hV
  obtain ⟨⟨v0, v1, v2, v4, v3, vU⟩, hS, hR, hVQ, hVB, hD, hVF, hC⟩ := hv
  have s0 := hr.2.1.1
  have e0 : ms (0 : Int32).toNatClampNeg = nI (M 0) := h0 0 (by omega)
  have i0 : (sf_in (0 : Int32) 158 = true) = True := eq_true (by decide)
  have z1 : ((0 : Int32) = 0) = True := eq_true rfl
  have z2 : ((1 : Int32) = 0) = False := eq_false (by decide)
  by_cases c1 : p0 < 1
  · left
    refine ⟨1, 2, Or.inl ⟨rfl, rfl⟩, ?_, ?_⟩
    · rw [f_X8_tryBuild, sf_b, if_pos c1]; rfl
    · simp only [f_X12_doBuildSlide, f_X12_in, f_X12_fails, sf_g, sf_b, sf_n, sf_c1, sf_c2, i0, c1, z1, if_true]; rfl
  by_cases c2 : 9 < p0
  · left
    refine ⟨1, 2, Or.inl ⟨rfl, rfl⟩, ?_, ?_⟩
    · rw [f_X8_tryBuild, sf_b, if_neg c1, sf_b, if_pos c2]; rfl
    · simp only [f_X12_doBuildSlide, f_X12_in, f_X12_fails, sf_g, sf_b, sf_n, sf_c1, sf_c2, i0, c1, c2, z1, if_true, if_false]; rfl
  by_cases c3 : p1 < 1
  · left
    refine ⟨1, 2, Or.inl ⟨rfl, rfl⟩, ?_, ?_⟩
    · rw [f_X8_tryBuild, sf_b, if_neg c1, sf_b, if_neg c2, sf_b, if_pos c3]; rfl
    · simp only [f_X12_doBuildSlide, f_X12_in, f_X12_fails, sf_g, sf_b, sf_n, sf_c1, sf_c2, i0, c1, c2, c3, z1, z2, if_true, if_false]; rfl
  by_cases c4 : 9 < p1
  · have c5 : ¬ p1 ≤ 9 := by
      rw [Int32.lt_iff_toInt_lt] at c4
      rw [Int32.le_iff_toInt_le]
      omega
    left
    refine ⟨1, 2, Or.inl ⟨rfl, rfl⟩, ?_, ?_⟩
    · rw [f_X8_tryBuild, sf_b, if_neg c1, sf_b, if_neg c2, sf_b, if_neg c3, sf_b, if_neg c5]; rfl
    · simp only [f_X12_doBuildSlide, f_X12_in, f_X12_fails, sf_g, sf_b, sf_n, sf_c1, sf_c2, i0, c1, c2, c3, c4, z1, z2, if_true, if_false]; rfl
  obtain ⟨d, d1, d2, rfl⟩ := rng (a := 1) (b := 9) rfl rfl (by omega) (by omega) c1 c2
  obtain ⟨p, p1', p2', rfl⟩ := rng (a := 1) (b := 9) rfl rfl (by omega) (by omega) c3 c4
  rcases Nat.lt_or_ge (M 0) 4 with z | z
  · right
    obtain ⟨sc', sd', sp', sw', g1, g2⟩ := of_build hV hr ⟨d1, d2⟩ ⟨p1', p2'⟩ z
    obtain ⟨ms', g3, g4⟩ := fm_build hm ⟨d1, d2⟩ ⟨p1', p2'⟩ z mt
    exact ⟨M 0, _, ms', sc', sd', sp', sw', g1, g3, by omega, VW_of (V_bd hV ⟨d1, d2⟩ ⟨p1', p2'⟩ z) (bd_3 z), g4, g2⟩
  · left
    have e4 : M 0 = 4 := by omega
    have d3 : ¬ d < 1 := by omega
    have d4 : ¬ 9 < d := by omega
    have p3 : ¬ p < 1 := by omega
    have p4 : ¬ 9 < p := by omega
    refine ⟨2, 3, Or.inr ⟨rfl, rfl⟩, ?_, ?_⟩
    · simp (disch := omega) only [sf_g, sf_b, sf_n, sf_c0, sf_c1, sf_c2, sf_c3, sf_c4, sf_c5, sf_c6, il_0, il_1, il_2, il_3, il_4, il_5, il_6, il_7, il_8, il_9, il_10, il_11, il_12, il_16, il_20, il_32, il_44, il_45, il_48, il_50, il_57, il_59, il_60, il_64, il_74, il_98, il_99, il_100, il_108, il_109, il_110, il_111, il_112, il_113, il_115, il_119, il_120, il_158, il_255, il_1106, il_2147483647, nI_add, nI_mul, nI_sub, nI_clamp, nI_inT, nI_eqP, nI_leP, nI_ltP, nI_neP, nI_nnP, nI_nlP, nI_nltP, nI_nleP, nI_div, nI_subneg, nI_if, if_true, if_false, ite_true, ite_false, ↓reduceIte, nI_spos, nI_szero, Nat.add_zero, sf_t1, sf_c7, sf_c8, sf_c9, n1_0, n4_0, n4_1, f_X8_tryBuild, s0, d3, d4, p3, p2', e4, (by decide : ¬ (4 : Nat) < 4)]
    · simp (disch := omega) only [sf_g, sf_b, sf_n, sf_c0, sf_c1, sf_c2, sf_c3, sf_c4, sf_c5, sf_c6, il_0, il_1, il_2, il_3, il_4, il_5, il_6, il_7, il_8, il_9, il_10, il_11, il_12, il_16, il_20, il_32, il_44, il_45, il_48, il_50, il_57, il_59, il_60, il_64, il_74, il_98, il_99, il_100, il_108, il_109, il_110, il_111, il_112, il_113, il_115, il_119, il_120, il_158, il_255, il_1106, il_2147483647, nI_add, nI_mul, nI_sub, nI_clamp, nI_inT, nI_eqP, nI_leP, nI_ltP, nI_neP, nI_nnP, nI_nlP, nI_nltP, nI_nleP, nI_div, nI_subneg, nI_if, if_true, if_false, ite_true, ite_false, ↓reduceIte, nI_spos, nI_szero, Nat.add_zero, sf_t1, sf_c7, sf_c8, sf_c9, n1_0, n4_0, n4_1, f_X12_doBuildSlide, f_X12_in, f_X12_fails, h0, d3, d4, p3, p4, e4]
theorem sim_guest (hV : VW M U) (hm : MR M ms) (hr : RO M on ot op os sc sd sp sw gc gp gr bc bg bs bt be ql qg fc fg fs fm) (mt : Int32) : (∃ c o : Nat, (c = 1 ∧ o = 3) ∧ f_X8_tryGuest gc gp gr = some (-nI o, gc, gp, gr) ∧ f_X12_doAddGuest ms mt = some (0, ms, nI c)) ∨ (∃ (a : Nat) (M' : Nat → Nat) (ms' : Nat → Int32), ∃ gc' gp' gr', f_X8_tryGuest gc gp gr = some (nI a, gc', gp', gr') ∧ f_X12_doAddGuest ms mt = some (nI a, ms', mt) ∧ a < 2 ^ 31 ∧ VW M' U ∧ MR M' ms' ∧ RO M' on ot op os sc sd sp sw gc' gp' gr' bc bg bs bt be ql qg fc fg fs fm) := by
  have h0 : ∀ k, k < 158 → ms k = nI (M k) := hm
  have hv := hV
  obtain ⟨⟨v0, v1, v2, v4, v3, vU⟩, hS, hR, hVQ, hVB, hD, hVF, hC⟩ := hv
  have s0 := hr.2.2.1.1
  rcases Nat.lt_or_ge (M 1) 10 with z | z
  · right
    obtain ⟨gc', gp', gr', g1, g2⟩ := of_guest hV hr z
    obtain ⟨ms', g3, g4⟩ := fm_guest hm z mt
    exact ⟨M 1, _, ms', gc', gp', gr', g1, g3, by omega, VW_of (V_gu hV z) (gu_3 z), g4, g2⟩
  · left
    have e4 : M 1 = 10 := by omega
    refine ⟨1, 3, ⟨rfl, rfl⟩, ?_, ?_⟩
    · simp (disch := omega) only [sf_g, sf_b, sf_n, sf_c0, sf_c1, sf_c2, sf_c3, sf_c4, sf_c5, sf_c6, il_0, il_1, il_2, il_3, il_4, il_5, il_6, il_7, il_8, il_9, il_10, il_11, il_12, il_16, il_20, il_32, il_44, il_45, il_48, il_50, il_57, il_59, il_60, il_64, il_74, il_98, il_99, il_100, il_108, il_109, il_110, il_111, il_112, il_113, il_115, il_119, il_120, il_158, il_255, il_1106, il_2147483647, nI_add, nI_mul, nI_sub, nI_clamp, nI_inT, nI_eqP, nI_leP, nI_ltP, nI_neP, nI_nnP, nI_nlP, nI_nltP, nI_nleP, nI_div, nI_subneg, nI_if, if_true, if_false, ite_true, ite_false, ↓reduceIte, nI_spos, nI_szero, Nat.add_zero, sf_t1, sf_c7, sf_c8, sf_c9, n1_0, n4_0, n4_1, f_X8_tryGuest, s0, e4, (by decide : ¬ (10 : Nat) < 10)]
    · simp (disch := omega) only [sf_g, sf_b, sf_n, sf_c0, sf_c1, sf_c2, sf_c3, sf_c4, sf_c5, sf_c6, il_0, il_1, il_2, il_3, il_4, il_5, il_6, il_7, il_8, il_9, il_10, il_11, il_12, il_16, il_20, il_32, il_44, il_45, il_48, il_50, il_57, il_59, il_60, il_64, il_74, il_98, il_99, il_100, il_108, il_109, il_110, il_111, il_112, il_113, il_115, il_119, il_120, il_158, il_255, il_1106, il_2147483647, nI_add, nI_mul, nI_sub, nI_clamp, nI_inT, nI_eqP, nI_leP, nI_ltP, nI_neP, nI_nnP, nI_nlP, nI_nltP, nI_nleP, nI_div, nI_subneg, nI_if, if_true, if_false, ite_true, ite_false, ↓reduceIte, nI_spos, nI_szero, Nat.add_zero, sf_t1, sf_c7, sf_c8, sf_c9, n1_0, n4_0, n4_1, f_X12_doAddGuest, f_X12_fails, h0, e4]
theorem sim_book (hV : VW M U) (hm : MR M ms) (hr : RO M on ot op os sc sd sp sw gc gp gr bc bg bs bt be ql qg fc fg fs fm) (p0 p1 p2 : Int32) (mt : Int32) : (∃ c o : Nat, (c = 1 ∧ o = 1 ∧ ¬ (zin (M 1) p0 ∧ zin (M 0) p1) ∨ c = 2 ∧ o = 2 ∨ c = 3 ∧ o = 3 ∨ c = 4 ∧ o = 4) ∧ f_X8_tryBook on ot sc sd sp gc gp bc bg bs bt be p0 p1 p2 = some (-nI o, ot, gp, bc, bg, bs, bt, be) ∧ f_X12_doBook ms mt p0 p1 p2 = some (0, ms, nI c)) ∨ (∃ (a : Nat) (M' : Nat → Nat) (ms' : Nat → Int32), ∃ ot' gp' bc' bg' bs' bt' be', f_X8_tryBook on ot sc sd sp gc gp bc bg bs bt be p0 p1 p2 = some (nI a, ot', gp', bc', bg', bs', bt', be') ∧ f_X12_doBook ms mt p0 p1 p2 = some (nI a, ms', mt) ∧ a < 2 ^ 31 ∧ VW M' U ∧ MR M' ms' ∧ RO M' on ot' op os sc sd sp sw gc gp' gr bc' bg' bs' bt' be' ql qg fc fg fs fm) := by
  obtain ⟨h0, a1, a2, a3, a4, a5, a6, a7, a8, a9, a10, a11, a12⟩ := fm_all hm
  have hv := hV
  obtain ⟨⟨v0, v1, v2, v4, v3, vU⟩, hS, hR, hVQ, hVB, hD, hVF, hC⟩ := hv
  have hr' := hr
  obtain ⟨⟨n1, n2, n3, n4⟩, oS, oG, oB, oQ, oF⟩ := hr'
  have s0 := oS.1
  have g0 := oG.1
  have b0 := oB.1
  have z1 : ((0 : Int32) = 0) = True := eq_true rfl
  have z2 : (nI 1 = (0 : Int32)) = False := eq_false (by decide)
  have z3 : (nI 0 = (0 : Int32)) = True := eq_true rfl
  by_cases c1 : zin (M 1) p0
  case neg =>
    left
    refine ⟨1, 1, Or.inl ⟨rfl, rfl, fun h => c1 h.1⟩, ?_, ?_⟩
    · have x : f_X6_has (nI (M 1)) p0 = some (nI 0) := fh_0 (by omega) c1
      simp only [f_X8_tryBook, g0, x, sf_c1, sf_b, z3, if_true]; rfl
    · simp only [f_X12_doBook, (fm_isG hm v1 p0).2 c1, f_X12_fails, sf_c1, sf_c2, sf_b, z3, if_true]; rfl
  have x1 : f_X6_has (nI (M 1)) p0 = some (nI 1) := fh_1 (by omega) c1
  have y1 := (fm_isG hm v1 p0).1 c1
  by_cases c2 : zin (M 0) p1
  case neg =>
    left
    refine ⟨1, 1, Or.inl ⟨rfl, rfl, fun h => c2 h.2⟩, ?_, ?_⟩
    · have x : f_X10_has (nI (M 0)) p1 = some (nI 0) := fh_0 (by omega) c2
      simp only [f_X8_tryBook, g0, x1, s0, x, sf_c1, sf_b, z2, z3, if_true, if_false]; rfl
    · simp only [f_X12_doBook, y1, (fm_isS hm v0 p1).2 c2, f_X12_fails, sf_c1, sf_c2, sf_b, z2, z3, if_true, if_false]; rfl
  have x2 : f_X10_has (nI (M 0)) p1 = some (nI 1) := fh_1 (by omega) c2
  have y2 := (fm_isS hm v0 p1).1 c2
  by_cases c3 : zbk M p2
  case neg =>
    left
    refine ⟨2, 2, Or.inr (Or.inl ⟨rfl, rfl⟩), ?_, ?_⟩
    · have x := (fk_0 (by omega) c3).2
      simp only [f_X8_tryBook, g0, x1, s0, x2, n1, x, sf_c1, sf_b, z2, z3, if_true, if_false]; rfl
    · simp only [f_X12_doBook, y1, y2, (fm_isT hm (by omega) p2).2 c3, f_X12_fails, sf_c1, sf_c2, sf_b, z2, z3, if_true, if_false]; rfl
  have x3 := (fk_1 (by omega) c3).2
  have y3 := (fm_isT hm (by omega) p2).1 c3
  obtain ⟨g, hg, rfl⟩ := c1
  obtain ⟨s, hs, rfl⟩ := c2
  obtain ⟨t, ht1, ht2, rfl⟩ := c3
  have hg' : g < 10 := by omega
  have hs' : s < 4 := by omega
  obtain ⟨s1, s2, s3⟩ := oS.2 s hs
  obtain ⟨g1, g2⟩ := oG.2 g hg
  have hSs := hS s hs
  have hCg := zC_le hV hg
  by_cases c4 : M 2 < 12
  case neg =>
    left
    have e12 : M 2 = 12 := by omega
    refine ⟨3, 3, Or.inr (Or.inr (Or.inl ⟨rfl, rfl⟩)), ?_, ?_⟩
    · simp (disch := omega) only [sf_g, sf_b, sf_n, sf_c0, sf_c1, sf_c2, sf_c3, sf_c4, sf_c5, sf_c6, il_0, il_1, il_2, il_3, il_4, il_5, il_6, il_7, il_8, il_9, il_10, il_11, il_12, il_16, il_20, il_32, il_44, il_45, il_48, il_50, il_57, il_59, il_60, il_64, il_74, il_98, il_99, il_100, il_108, il_109, il_110, il_111, il_112, il_113, il_115, il_119, il_120, il_158, il_255, il_1106, il_2147483647, nI_add, nI_mul, nI_sub, nI_clamp, nI_inT, nI_eqP, nI_leP, nI_ltP, nI_neP, nI_nnP, nI_nlP, nI_nltP, nI_nleP, nI_div, nI_subneg, nI_if, if_true, if_false, ite_true, ite_false, ↓reduceIte, nI_spos, nI_szero, Nat.add_zero, sf_t1, sf_c7, sf_c8, sf_c9, n1_0, n4_0, n4_1, f_X8_tryBook, f_X1_isFull, g0, x1, s0, x2, n1, x3, b0, c4]
    · simp (disch := omega) only [sf_g, sf_b, sf_n, sf_c0, sf_c1, sf_c2, sf_c3, sf_c4, sf_c5, sf_c6, il_0, il_1, il_2, il_3, il_4, il_5, il_6, il_7, il_8, il_9, il_10, il_11, il_12, il_16, il_20, il_32, il_44, il_45, il_48, il_50, il_57, il_59, il_60, il_64, il_74, il_98, il_99, il_100, il_108, il_109, il_110, il_111, il_112, il_113, il_115, il_119, il_120, il_158, il_255, il_1106, il_2147483647, nI_add, nI_mul, nI_sub, nI_clamp, nI_inT, nI_eqP, nI_leP, nI_ltP, nI_neP, nI_nnP, nI_nlP, nI_nltP, nI_nleP, nI_div, nI_subneg, nI_if, if_true, if_false, ite_true, ite_false, ↓reduceIte, nI_spos, nI_szero, Nat.add_zero, sf_t1, sf_c7, sf_c8, sf_c9, n1_0, n4_0, n4_1, f_X12_doBook, f_X12_fails, y1, y2, y3, h0, e12]
  have hbf : f_X1_isFull (nI (M 2)) = some (nI 0) := by simp (disch := omega) only [sf_g, sf_b, sf_n, sf_c0, sf_c1, sf_c2, sf_c3, sf_c4, sf_c5, sf_c6, il_0, il_1, il_2, il_3, il_4, il_5, il_6, il_7, il_8, il_9, il_10, il_11, il_12, il_16, il_20, il_32, il_44, il_45, il_48, il_50, il_57, il_59, il_60, il_64, il_74, il_98, il_99, il_100, il_108, il_109, il_110, il_111, il_112, il_113, il_115, il_119, il_120, il_158, il_255, il_1106, il_2147483647, nI_add, nI_mul, nI_sub, nI_clamp, nI_inT, nI_eqP, nI_leP, nI_ltP, nI_neP, nI_nnP, nI_nlP, nI_nltP, nI_nleP, nI_div, nI_subneg, nI_if, if_true, if_false, ite_true, ite_false, ↓reduceIte, nI_spos, nI_szero, Nat.add_zero, sf_t1, sf_c7, sf_c8, sf_c9, n1_0, n4_0, n4_1, f_X1_isFull, c4]
  have e12 : ¬ M 2 = 12 := by omega
  by_cases c5 : zP M s ≤ zC M g
  case neg =>
    left
    refine ⟨3, 3, Or.inr (Or.inr (Or.inl ⟨rfl, rfl⟩)), ?_, ?_⟩
    · simp (disch := omega) only [sf_g, sf_b, sf_n, sf_c0, sf_c1, sf_c2, sf_c3, sf_c4, sf_c5, sf_c6, il_0, il_1, il_2, il_3, il_4, il_5, il_6, il_7, il_8, il_9, il_10, il_11, il_12, il_16, il_20, il_32, il_44, il_45, il_48, il_50, il_57, il_59, il_60, il_64, il_74, il_98, il_99, il_100, il_108, il_109, il_110, il_111, il_112, il_113, il_115, il_119, il_120, il_158, il_255, il_1106, il_2147483647, nI_add, nI_mul, nI_sub, nI_clamp, nI_inT, nI_eqP, nI_leP, nI_ltP, nI_neP, nI_nnP, nI_nlP, nI_nltP, nI_nleP, nI_div, nI_subneg, nI_if, if_true, if_false, ite_true, ite_false, ↓reduceIte, nI_spos, nI_szero, Nat.add_zero, sf_t1, sf_c7, sf_c8, sf_c9, n1_0, n4_0, n4_1, f_X8_tryBook, g0, x1, s0, x2, n1, x3, b0, hbf, s2, g1, c5]
    · simp (disch := omega) only [sf_g, sf_b, sf_n, sf_c0, sf_c1, sf_c2, sf_c3, sf_c4, sf_c5, sf_c6, il_0, il_1, il_2, il_3, il_4, il_5, il_6, il_7, il_8, il_9, il_10, il_11, il_12, il_16, il_20, il_32, il_44, il_45, il_48, il_50, il_57, il_59, il_60, il_64, il_74, il_98, il_99, il_100, il_108, il_109, il_110, il_111, il_112, il_113, il_115, il_119, il_120, il_158, il_255, il_1106, il_2147483647, nI_add, nI_mul, nI_sub, nI_clamp, nI_inT, nI_eqP, nI_leP, nI_ltP, nI_neP, nI_nnP, nI_nlP, nI_nltP, nI_nleP, nI_div, nI_subneg, nI_if, if_true, if_false, ite_true, ite_false, ↓reduceIte, nI_spos, nI_szero, Nat.add_zero, sf_t1, sf_c7, sf_c8, sf_c9, n1_0, n4_0, n4_1, f_X12_doBook, f_X12_fails, y1, y2, y3, h0, e12, a6, a2, c5]
  have hfr := of_free hV oB (g := g) (s := s) (t := t) (by omega) hs' (by omega) (by omega)
  have hcl := fm_clash hm (zMB_of hV) (g := g) (s := s) (t := t) (p0 := nI g) (fun x hx => nI_eqP (by omega) (by omega)) hs' (by omega) (by omega)
  by_cases c6 : zc (zPa (zG M) (zS M) (zT M) (zE M) g s t (t + zD M s)) (M 2) = 0
  · right
    rw [if_pos c6] at hfr hcl
    obtain ⟨ot', gp', bc', bg', bs', bt', be', k1, k2⟩ := of_sell hV hr (t := t) hg hs c4 c5
    obtain ⟨ms', k3, k4⟩ := fm_makes hm (t := t) hg' hs' c4 c5
    refine ⟨M 2, _, ms', ot', gp', bc', bg', bs', bt', be', ?_, ?_, by omega, VW_of (V_mk hV (Nat.le_refl _) hg hs c4 ht1 ht2 c5 (zc_free c6)) (mk_3 c4 hg' hs'), k4, k2⟩
    · simp (disch := omega) only [sf_g, sf_b, sf_n, sf_c0, sf_c1, sf_c2, sf_c3, sf_c4, sf_c5, sf_c6, il_0, il_1, il_2, il_3, il_4, il_5, il_6, il_7, il_8, il_9, il_10, il_11, il_12, il_16, il_20, il_32, il_44, il_45, il_48, il_50, il_57, il_59, il_60, il_64, il_74, il_98, il_99, il_100, il_108, il_109, il_110, il_111, il_112, il_113, il_115, il_119, il_120, il_158, il_255, il_1106, il_2147483647, nI_add, nI_mul, nI_sub, nI_clamp, nI_inT, nI_eqP, nI_leP, nI_ltP, nI_neP, nI_nnP, nI_nlP, nI_nltP, nI_nleP, nI_div, nI_subneg, nI_if, if_true, if_false, ite_true, ite_false, ↓reduceIte, nI_spos, nI_szero, Nat.add_zero, sf_t1, sf_c7, sf_c8, sf_c9, n1_0, n4_0, n4_1, sf_c8, f_X8_tryBook, f_X8_endFrom, g0, x1, s0, x2, n1, x3, b0, hbf, s1, s2, g1, c5, hfr]
      rw [s0, n1, g0, b0] at *
      simp only [k1]
    · simp (disch := omega) only [sf_g, sf_b, sf_n, sf_c0, sf_c1, sf_c2, sf_c3, sf_c4, sf_c5, sf_c6, il_0, il_1, il_2, il_3, il_4, il_5, il_6, il_7, il_8, il_9, il_10, il_11, il_12, il_16, il_20, il_32, il_44, il_45, il_48, il_50, il_57, il_59, il_60, il_64, il_74, il_98, il_99, il_100, il_108, il_109, il_110, il_111, il_112, il_113, il_115, il_119, il_120, il_158, il_255, il_1106, il_2147483647, nI_add, nI_mul, nI_sub, nI_clamp, nI_inT, nI_eqP, nI_leP, nI_ltP, nI_neP, nI_nnP, nI_nlP, nI_nltP, nI_nleP, nI_div, nI_subneg, nI_if, if_true, if_false, ite_true, ite_false, ↓reduceIte, nI_spos, nI_szero, Nat.add_zero, sf_t1, sf_c7, sf_c8, sf_c9, n1_0, n4_0, n4_1, f_X12_doBook, y1, y2, y3, h0, e12, a6, a2, c5, hcl, k3]
  · left
    rw [if_neg c6] at hfr hcl
    refine ⟨4, 4, Or.inr (Or.inr (Or.inr ⟨rfl, rfl⟩)), ?_, ?_⟩
    · simp (disch := omega) only [sf_g, sf_b, sf_n, sf_c0, sf_c1, sf_c2, sf_c3, sf_c4, sf_c5, sf_c6, il_0, il_1, il_2, il_3, il_4, il_5, il_6, il_7, il_8, il_9, il_10, il_11, il_12, il_16, il_20, il_32, il_44, il_45, il_48, il_50, il_57, il_59, il_60, il_64, il_74, il_98, il_99, il_100, il_108, il_109, il_110, il_111, il_112, il_113, il_115, il_119, il_120, il_158, il_255, il_1106, il_2147483647, nI_add, nI_mul, nI_sub, nI_clamp, nI_inT, nI_eqP, nI_leP, nI_ltP, nI_neP, nI_nnP, nI_nlP, nI_nltP, nI_nleP, nI_div, nI_subneg, nI_if, if_true, if_false, ite_true, ite_false, ↓reduceIte, nI_spos, nI_szero, Nat.add_zero, sf_t1, sf_c7, sf_c8, sf_c9, n1_0, n4_0, n4_1, f_X8_tryBook, f_X8_endFrom, g0, x1, s0, x2, n1, x3, b0, hbf, s1, s2, g1, c5, hfr]
    · simp (disch := omega) only [sf_g, sf_b, sf_n, sf_c0, sf_c1, sf_c2, sf_c3, sf_c4, sf_c5, sf_c6, il_0, il_1, il_2, il_3, il_4, il_5, il_6, il_7, il_8, il_9, il_10, il_11, il_12, il_16, il_20, il_32, il_44, il_45, il_48, il_50, il_57, il_59, il_60, il_64, il_74, il_98, il_99, il_100, il_108, il_109, il_110, il_111, il_112, il_113, il_115, il_119, il_120, il_158, il_255, il_1106, il_2147483647, nI_add, nI_mul, nI_sub, nI_clamp, nI_inT, nI_eqP, nI_leP, nI_ltP, nI_neP, nI_nnP, nI_nlP, nI_nltP, nI_nleP, nI_div, nI_subneg, nI_if, if_true, if_false, ite_true, ite_false, ↓reduceIte, nI_spos, nI_szero, Nat.add_zero, sf_t1, sf_c7, sf_c8, sf_c9, n1_0, n4_0, n4_1, f_X12_doBook, f_X12_fails, y1, y2, y3, h0, e12, a6, a2, c5, hcl]
theorem sim_cancel (hV : VW M U) (hm : MR M ms) (hr : RO M on ot op os sc sd sp sw gc gp gr bc bg bs bt be ql qg fc fg fs fm) (p0 : Int32) (mt : Int32) : (∃ c o : Nat, (c = 1 ∧ o = 1 ∨ c = 2 ∧ o = 3) ∧ f_X8_tryCancel on ot op sp gp bc bg bs bt be p0 = some (-nI o, ot, op, gp, bc, bg, bs, bt, be) ∧ f_X12_doCancel ms mt p0 = some (0, ms, nI c)) ∨ (∃ (a : Nat) (M' : Nat → Nat) (ms' : Nat → Int32), ∃ ot' op' gp' bc' bg' bs' bt' be', f_X8_tryCancel on ot op sp gp bc bg bs bt be p0 = some (nI a, ot', op', gp', bc', bg', bs', bt', be') ∧ f_X12_doCancel ms mt p0 = some (nI a, ms', mt) ∧ a < 2 ^ 31 ∧ VW M' U ∧ MR M' ms' ∧ RO M' on ot' op' os sc sd sp sw gc gp' gr bc' bg' bs' bt' be' ql qg fc fg fs fm) := by
  obtain ⟨h0, a1, a2, a3, a4, a5, a6, a7, a8, a9, a10, a11, a12⟩ := fm_all hm
  have hv := hV
  obtain ⟨⟨v0, v1, v2, v4, v3, vU⟩, hS, hR, hVQ, hVB, hD, hVF, hC⟩ := hv
  have hr' := hr
  obtain ⟨⟨n1, n2, n3, n4⟩, oS, oG, oB, oQ, oF⟩ := hr'
  have b0 := oB.1
  have z2 : (nI 1 = (0 : Int32)) = False := eq_false (by decide)
  have z3 : (nI 0 = (0 : Int32)) = True := eq_true rfl
  by_cases c1 : zin (M 2) p0
  case neg =>
    left
    refine ⟨1, 1, Or.inl ⟨rfl, rfl⟩, ?_, ?_⟩
    · have x : f_X1_has (nI (M 2)) p0 = some (nI 0) := fh_0 (by omega) c1
      simp only [f_X8_tryCancel, b0, x, sf_c1, sf_b, z3, if_true]; rfl
    · simp only [f_X12_doCancel, (fm_isB hm v2 p0).2 c1, f_X12_fails, sf_c1, sf_c2, sf_b, z3, if_true]; rfl
  have x1 : f_X1_has (nI (M 2)) p0 = some (nI 1) := fh_1 (by omega) c1
  have y1 := (fm_isB hm v2 p0).1 c1
  obtain ⟨b, hb, rfl⟩ := c1
  obtain ⟨b1, b2, b3, b4⟩ := oB.2 b hb
  obtain ⟨w1, w2, w3, w4⟩ := hVB b hb
  have hSs := hS _ w2
  have hCg := zC_le hV w1
  by_cases c2 : M 3 < zT M b
  · right
    obtain ⟨ot', op', gp', bc', bg', bs', bt', be', k1, k2⟩ := of_cancel hV hr hb c2
    obtain ⟨ms', k3, k4⟩ := fm_cancel hm v2 hb (by omega) (by omega) v1 c2 (by omega) (V_open hV hb) mt
    exact ⟨_, _, ms', ot', op', gp', bc', bg', bs', bt', be', k1, k3, by omega, VW_of (V_cn hV hb) (cn_3 v2 hb (by omega) (by omega)), k4, k2⟩
  · left
    refine ⟨2, 3, Or.inr ⟨rfl, rfl⟩, ?_, ?_⟩
    · simp (disch := omega) only [sf_g, sf_b, sf_n, sf_c0, sf_c1, sf_c2, sf_c3, sf_c4, sf_c5, sf_c6, il_0, il_1, il_2, il_3, il_4, il_5, il_6, il_7, il_8, il_9, il_10, il_11, il_12, il_16, il_20, il_32, il_44, il_45, il_48, il_50, il_57, il_59, il_60, il_64, il_74, il_98, il_99, il_100, il_108, il_109, il_110, il_111, il_112, il_113, il_115, il_119, il_120, il_158, il_255, il_1106, il_2147483647, nI_add, nI_mul, nI_sub, nI_clamp, nI_inT, nI_eqP, nI_leP, nI_ltP, nI_neP, nI_nnP, nI_nlP, nI_nltP, nI_nleP, nI_div, nI_subneg, nI_if, if_true, if_false, ite_true, ite_false, ↓reduceIte, nI_spos, nI_szero, Nat.add_zero, sf_t1, sf_c7, sf_c8, sf_c9, n1_0, n4_0, n4_1, f_X8_tryCancel, b0, x1, b3, n1, c2]
    · simp (disch := omega) only [sf_g, sf_b, sf_n, sf_c0, sf_c1, sf_c2, sf_c3, sf_c4, sf_c5, sf_c6, il_0, il_1, il_2, il_3, il_4, il_5, il_6, il_7, il_8, il_9, il_10, il_11, il_12, il_16, il_20, il_32, il_44, il_45, il_48, il_50, il_57, il_59, il_60, il_64, il_74, il_98, il_99, il_100, il_108, il_109, il_110, il_111, il_112, il_113, il_115, il_119, il_120, il_158, il_255, il_1106, il_2147483647, nI_add, nI_mul, nI_sub, nI_clamp, nI_inT, nI_eqP, nI_leP, nI_ltP, nI_neP, nI_nnP, nI_nlP, nI_nltP, nI_nleP, nI_div, nI_subneg, nI_if, if_true, if_false, ite_true, ite_false, ↓reduceIte, nI_spos, nI_szero, Nat.add_zero, sf_t1, sf_c7, sf_c8, sf_c9, n1_0, n4_0, n4_1, f_X12_doCancel, f_X12_fails, y1, a11, h0, c2]
theorem sim_join (hV : VW M U) (hm : MR M ms) (hr : RO M on ot op os sc sd sp sw gc gp gr bc bg bs bt be ql qg fc fg fs fm) (p0 p1 : Int32) (mt : Int32) : (∃ c o : Nat, (c = 1 ∧ o = 1 ∧ ¬ (zin (M 1) p0 ∧ zin (M 0) p1) ∨ c = 2 ∧ o = 3 ∨ c = 3 ∧ o = 4) ∧ f_X8_tryQueue sc gc ql qg p0 p1 = some (-nI o, ql, qg) ∧ f_X12_doJoin ms mt p0 p1 = some (0, ms, nI c)) ∨ (∃ (a : Nat) (M' : Nat → Nat) (ms' : Nat → Int32), ∃ ql' qg', f_X8_tryQueue sc gc ql qg p0 p1 = some (nI a, ql', qg') ∧ f_X12_doJoin ms mt p0 p1 = some (nI a, ms', mt) ∧ a < 2 ^ 31 ∧ VW M' U ∧ MR M' ms' ∧ RO M' on ot op os sc sd sp sw gc gp gr bc bg bs bt be ql' qg' fc fg fs fm) := by
  obtain ⟨h0, a1, a2, a3, a4, a5, a6, a7, a8, a9, a10, a11, a12⟩ := fm_all hm
  have hv := hV
  obtain ⟨⟨v0, v1, v2, v4, v3, vU⟩, hS, hR, hVQ, hVB, hD, hVF, hC⟩ := hv
  have hr' := hr
  obtain ⟨⟨n1, n2, n3, n4⟩, oS, oG, oB, oQ, oF⟩ := hr'
  have s0 := oS.1
  have g0 := oG.1
  have z2 : (nI 1 = (0 : Int32)) = False := eq_false (by decide)
  have z3 : (nI 0 = (0 : Int32)) = True := eq_true rfl
  by_cases c1 : zin (M 1) p0
  case neg =>
    left
    refine ⟨1, 1, Or.inl ⟨rfl, rfl, fun h => c1 h.1⟩, ?_, ?_⟩
    · have x : f_X6_has (nI (M 1)) p0 = some (nI 0) := fh_0 (by omega) c1
      simp only [f_X8_tryQueue, g0, x, sf_c1, sf_b, z3, if_true]; rfl
    · simp only [f_X12_doJoin, (fm_isG hm v1 p0).2 c1, f_X12_fails, sf_c1, sf_c2, sf_b, z3, if_true]; rfl
  have x1 : f_X6_has (nI (M 1)) p0 = some (nI 1) := fh_1 (by omega) c1
  have y1 := (fm_isG hm v1 p0).1 c1
  by_cases c2 : zin (M 0) p1
  case neg =>
    left
    refine ⟨1, 1, Or.inl ⟨rfl, rfl, fun h => c2 h.2⟩, ?_, ?_⟩
    · have x : f_X10_has (nI (M 0)) p1 = some (nI 0) := fh_0 (by omega) c2
      simp only [f_X8_tryQueue, g0, x1, s0, x, sf_c1, sf_b, z2, z3, if_true, if_false]; rfl
    · simp only [f_X12_doJoin, y1, (fm_isS hm v0 p1).2 c2, f_X12_fails, sf_c1, sf_c2, sf_b, z2, z3, if_true, if_false]; rfl
  have x2 : f_X10_has (nI (M 0)) p1 = some (nI 1) := fh_1 (by omega) c2
  have y2 := (fm_isS hm v0 p1).1 c2
  obtain ⟨g, hg, rfl⟩ := c1
  obtain ⟨s, hs, rfl⟩ := c2
  have hs' : s < 4 := by omega
  have hso := of_so hV oQ hg
  have hg4 := (hVQ.2.2.2 g hg).1
  have q0 := (oQ s hs').1
  have q5 := (hVQ.1 s hs').1
  by_cases c3 : zV M g = 0
  case neg =>
    left
    rw [if_neg c3] at hso
    have c3' : ¬ zV M g ≤ 0 := by omega
    refine ⟨2, 3, Or.inr (Or.inl ⟨rfl, rfl⟩), ?_, ?_⟩
    · simp (disch := omega) only [sf_g, sf_b, sf_n, sf_c0, sf_c1, sf_c2, sf_c3, sf_c4, sf_c5, sf_c6, il_0, il_1, il_2, il_3, il_4, il_5, il_6, il_7, il_8, il_9, il_10, il_11, il_12, il_16, il_20, il_32, il_44, il_45, il_48, il_50, il_57, il_59, il_60, il_64, il_74, il_98, il_99, il_100, il_108, il_109, il_110, il_111, il_112, il_113, il_115, il_119, il_120, il_158, il_255, il_1106, il_2147483647, nI_add, nI_mul, nI_sub, nI_clamp, nI_inT, nI_eqP, nI_leP, nI_ltP, nI_neP, nI_nnP, nI_nlP, nI_nltP, nI_nleP, nI_div, nI_subneg, nI_if, if_true, if_false, ite_true, ite_false, ↓reduceIte, nI_spos, nI_szero, Nat.add_zero, sf_t1, sf_c7, sf_c8, sf_c9, n1_0, n4_0, n4_1, f_X8_tryQueue, g0, x1, s0, x2, hso]
    · simp (disch := omega) only [sf_g, sf_b, sf_n, sf_c0, sf_c1, sf_c2, sf_c3, sf_c4, sf_c5, sf_c6, il_0, il_1, il_2, il_3, il_4, il_5, il_6, il_7, il_8, il_9, il_10, il_11, il_12, il_16, il_20, il_32, il_44, il_45, il_48, il_50, il_57, il_59, il_60, il_64, il_74, il_98, il_99, il_100, il_108, il_109, il_110, il_111, il_112, il_113, il_115, il_119, il_120, il_158, il_255, il_1106, il_2147483647, nI_add, nI_mul, nI_sub, nI_clamp, nI_inT, nI_eqP, nI_leP, nI_ltP, nI_neP, nI_nnP, nI_nlP, nI_nltP, nI_nleP, nI_div, nI_subneg, nI_if, if_true, if_false, ite_true, ite_false, ↓reduceIte, nI_spos, nI_szero, Nat.add_zero, sf_t1, sf_c7, sf_c8, sf_c9, n1_0, n4_0, n4_1, f_X12_doJoin, f_X12_fails, y1, y2, a8, c3']
  by_cases c4 : zQ M s < 5
  · right
    obtain ⟨ql', qg', k1, k2⟩ := of_join hV hr hg hs c3 c4
    obtain ⟨ms', k3, k4⟩ := fm_join hm v1 v0 hg hs c3 c4 mt
    exact ⟨_, _, ms', ql', qg', k1, k3, by omega, VW_of (V_jn hV hg hs c3 c4) (jn_3 (by omega) hs' c4), k4, k2⟩
  · left
    rw [if_pos c3] at hso
    have c5 : zQ M s = 5 := by omega
    refine ⟨3, 4, Or.inr (Or.inr ⟨rfl, rfl⟩), ?_, ?_⟩
    · simp (disch := omega) only [sf_g, sf_b, sf_n, sf_c0, sf_c1, sf_c2, sf_c3, sf_c4, sf_c5, sf_c6, il_0, il_1, il_2, il_3, il_4, il_5, il_6, il_7, il_8, il_9, il_10, il_11, il_12, il_16, il_20, il_32, il_44, il_45, il_48, il_50, il_57, il_59, il_60, il_64, il_74, il_98, il_99, il_100, il_108, il_109, il_110, il_111, il_112, il_113, il_115, il_119, il_120, il_158, il_255, il_1106, il_2147483647, nI_add, nI_mul, nI_sub, nI_clamp, nI_inT, nI_eqP, nI_leP, nI_ltP, nI_neP, nI_nnP, nI_nlP, nI_nltP, nI_nleP, nI_div, nI_subneg, nI_if, if_true, if_false, ite_true, ite_false, ↓reduceIte, nI_spos, nI_szero, Nat.add_zero, sf_t1, sf_c7, sf_c8, sf_c9, n1_0, n4_0, n4_1, f_X8_tryQueue, f_X9_isFull, g0, x1, s0, x2, hso, q0, c4]
    · simp (disch := omega) only [sf_g, sf_b, sf_n, sf_c0, sf_c1, sf_c2, sf_c3, sf_c4, sf_c5, sf_c6, il_0, il_1, il_2, il_3, il_4, il_5, il_6, il_7, il_8, il_9, il_10, il_11, il_12, il_16, il_20, il_32, il_44, il_45, il_48, il_50, il_57, il_59, il_60, il_64, il_74, il_98, il_99, il_100, il_108, il_109, il_110, il_111, il_112, il_113, il_115, il_119, il_120, il_158, il_255, il_1106, il_2147483647, nI_add, nI_mul, nI_sub, nI_clamp, nI_inT, nI_eqP, nI_leP, nI_ltP, nI_neP, nI_nnP, nI_nlP, nI_nltP, nI_nleP, nI_div, nI_subneg, nI_if, if_true, if_false, ite_true, ite_false, ↓reduceIte, nI_spos, nI_szero, Nat.add_zero, sf_t1, sf_c7, sf_c8, sf_c9, n1_0, n4_0, n4_1, f_X12_doJoin, f_X12_fails, y1, y2, a8, c3, Nat.le_refl, a4, c5]
theorem sim_leave (hV : VW M U) (hm : MR M ms) (hr : RO M on ot op os sc sd sp sw gc gp gr bc bg bs bt be ql qg fc fg fs fm) (p0 : Int32) (mt : Int32) : (∃ c o : Nat, (c = 1 ∧ o = 1 ∨ c = 2 ∧ o = 5) ∧ f_X8_tryLeave gc ql qg p0 = some (-nI o, ql, qg) ∧ f_X12_doLeave ms mt p0 = some (0, ms, nI c)) ∨ (∃ (a : Nat) (M' : Nat → Nat) (ms' : Nat → Int32), ∃ ql' qg', f_X8_tryLeave gc ql qg p0 = some (nI a, ql', qg') ∧ f_X12_doLeave ms mt p0 = some (nI a, ms', mt) ∧ a < 2 ^ 31 ∧ VW M' U ∧ MR M' ms' ∧ RO M' on ot op os sc sd sp sw gc gp gr bc bg bs bt be ql' qg' fc fg fs fm) := by
  obtain ⟨h0, a1, a2, a3, a4, a5, a6, a7, a8, a9, a10, a11, a12⟩ := fm_all hm
  have hv := hV
  obtain ⟨⟨v0, v1, v2, v4, v3, vU⟩, hS, hR, hVQ, hVB, hD, hVF, hC⟩ := hv
  have hr' := hr
  obtain ⟨⟨n1, n2, n3, n4⟩, oS, oG, oB, oQ, oF⟩ := hr'
  have g0 := oG.1
  have z2 : (nI 1 = (0 : Int32)) = False := eq_false (by decide)
  have z3 : (nI 0 = (0 : Int32)) = True := eq_true rfl
  by_cases c1 : zin (M 1) p0
  case neg =>
    left
    refine ⟨1, 1, Or.inl ⟨rfl, rfl⟩, ?_, ?_⟩
    · have x : f_X6_has (nI (M 1)) p0 = some (nI 0) := fh_0 (by omega) c1
      simp only [f_X8_tryLeave, g0, x, sf_c1, sf_b, z3, if_true]; rfl
    · rw [f_X12_doLeave, (fm_isG hm v1 p0).2 c1]
      show sf_b (nI 0 = (0 : Int32)) _ _ = _
      rw [sf_b, if_pos (by decide)]; rfl
  have x1 : f_X6_has (nI (M 1)) p0 = some (nI 1) := fh_1 (by omega) c1
  have y1 := (fm_isG hm v1 p0).1 c1
  obtain ⟨g, hg, rfl⟩ := c1
  have hso := of_so hV oQ hg
  obtain ⟨hg4, hgj⟩ := hVQ.2.2.2 g hg
  by_cases c3 : zV M g = 0
  · left
    rw [if_pos c3] at hso
    refine ⟨2, 5, Or.inr ⟨rfl, rfl⟩, ?_, ?_⟩
    · simp (disch := omega) only [sf_g, sf_b, sf_n, sf_c0, sf_c1, sf_c2, sf_c3, sf_c4, sf_c5, sf_c6, il_0, il_1, il_2, il_3, il_4, il_5, il_6, il_7, il_8, il_9, il_10, il_11, il_12, il_16, il_20, il_32, il_44, il_45, il_48, il_50, il_57, il_59, il_60, il_64, il_74, il_98, il_99, il_100, il_108, il_109, il_110, il_111, il_112, il_113, il_115, il_119, il_120, il_158, il_255, il_1106, il_2147483647, nI_add, nI_mul, nI_sub, nI_clamp, nI_inT, nI_eqP, nI_leP, nI_ltP, nI_neP, nI_nnP, nI_nlP, nI_nltP, nI_nleP, nI_div, nI_subneg, nI_if, if_true, if_false, ite_true, ite_false, ↓reduceIte, nI_spos, nI_szero, Nat.add_zero, sf_t1, sf_c7, sf_c8, sf_c9, n1_0, n4_0, n4_1, f_X8_tryLeave, g0, x1, hso]
    · have g2 : f_X12_guest ms (nI g) (2 : Int32) = some (nI 0) := by rw [← c3]; exact a8 g (by omega)
      rw [f_X12_doLeave, y1]
      show sf_b (nI 1 = (0 : Int32)) _ _ = _
      rw [sf_b, if_neg (by decide), g2]
      rw [sfc1_s]
      refine sfn_i (fun x hx => ?_)
      rw [sf_b, if_neg (by rw [hx]; decide)]; rfl
  · right
    rw [if_neg c3] at hso
    obtain ⟨p, hp, hpg⟩ := hgj c3
    have hs4 : zV M g - 1 < 4 := by omega
    have hd : ∀ j, j < zQ M (zV M g - 1) → zq M (zV M g - 1) j = g → j = p := fun j hj e2 => by
      rcases Nat.lt_or_ge j p with z | z
      · exact absurd (by omega) (hVQ.2.2.1 _ hs4 j p z hp)
      · rcases Nat.lt_or_ge p j with y | y
        · exact absurd (by omega) (hVQ.2.2.1 _ hs4 p j y hj)
        · omega
    obtain ⟨ql', qg', k1, k2⟩ := of_leaveQ hV hr hs4 hp hpg
    obtain ⟨ms', k3, k4⟩ := fm_leave hm v1 hg hs4 (by omega) (hVQ.1 _ hs4).1 hp hpg hd (fun j hj => by have := (hVQ.2.1 _ hs4 j hj).1; omega) mt
    refine ⟨_, _, ms', ql', qg', ?_, k3, by omega, VW_of (V_lv hV hs4 hp hpg) (qv_3 (by omega) hs4 (hVQ.1 _ hs4).1 hp), k4, k2⟩
    simp (disch := omega) only [sf_g, sf_b, sf_n, sf_c0, sf_c1, sf_c2, sf_c3, sf_c4, sf_c5, sf_c6, il_0, il_1, il_2, il_3, il_4, il_5, il_6, il_7, il_8, il_9, il_10, il_11, il_12, il_16, il_20, il_32, il_44, il_45, il_48, il_50, il_57, il_59, il_60, il_64, il_74, il_98, il_99, il_100, il_108, il_109, il_110, il_111, il_112, il_113, il_115, il_119, il_120, il_158, il_255, il_1106, il_2147483647, nI_add, nI_mul, nI_sub, nI_clamp, nI_inT, nI_eqP, nI_leP, nI_ltP, nI_neP, nI_nnP, nI_nlP, nI_nltP, nI_nleP, nI_div, nI_subneg, nI_if, if_true, if_false, ite_true, ite_false, ↓reduceIte, nI_spos, nI_szero, Nat.add_zero, sf_t1, sf_c7, sf_c8, sf_c9, n1_0, n4_0, n4_1, f_X8_tryLeave, g0, x1, hso, k1]
theorem sim_wait (hV : VW M U) (hU : U + 60 ≤ 4000000) (hm : MR M ms) (hr : RO M on ot op os sc sd sp sw gc gp gr bc bg bs bt be ql qg fc fg fs fm) (p0 : Int32) (mt : Int32) : (∃ c o : Nat, (c = 1 ∧ o = 2 ∧ (p0 < 1 ∨ 60 < p0)) ∧ f_X8_tryWait on ot op os sc sd sp sw gp gr bc bg bs bt be ql qg fc fg fs fm p0 = some (-nI o, on, ot, op, os, sw, gp, gr, bc, bg, bs, bt, be, ql, qg, fc, fg, fs, fm) ∧ f_X12_doPass ms mt p0 = some (0, ms, nI c)) ∨ (∃ (a : Nat) (M' : Nat → Nat) (ms' : Nat → Int32), ∃ on' ot' op' os' sw' gp' gr' bc' bg' bs' bt' be' ql' qg' fc' fg' fs' fm', f_X8_tryWait on ot op os sc sd sp sw gp gr bc bg bs bt be ql qg fc fg fs fm p0 = some (nI a, on', ot', op', os', sw', gp', gr', bc', bg', bs', bt', be', ql', qg', fc', fg', fs', fm') ∧ f_X12_doPass ms mt p0 = some (nI a, ms', mt) ∧ a < 2 ^ 31 ∧ VW M' (U + 60) ∧ MR M' ms' ∧ RO M' on' ot' op' os' sc sd sp sw' gc gp' gr' bc' bg' bs' bt' be' ql' qg' fc' fg' fs' fm') := by
  have z1 : ((0 : Int32) = 0) = True := eq_true rfl
  by_cases c1 : p0 < 1
  · left
    refine ⟨1, 2, ⟨rfl, rfl, Or.inl c1⟩, ?_, ?_⟩
    · rw [f_X8_tryWait, sf_b, if_pos c1]; rfl
    · simp only [f_X12_doPass, f_X12_in, f_X12_fails, sf_b, sf_c1, sf_c2, c1, z1, if_true]; rfl
  by_cases c2 : 60 < p0
  · have c3 : ¬ p0 ≤ 60 := by
      rw [Int32.lt_iff_toInt_lt] at c2
      rw [Int32.le_iff_toInt_le]
      omega
    left
    refine ⟨1, 2, ⟨rfl, rfl, Or.inr c2⟩, ?_, ?_⟩
    · rw [f_X8_tryWait, sf_b, if_neg c1, sf_b, if_neg c3]; rfl
    · simp only [f_X12_doPass, f_X12_in, f_X12_fails, sf_b, sf_c1, sf_c2, c1, c2, z1, if_true, if_false]; rfl
  obtain ⟨n, d1, d2, rfl⟩ := rng (a := 1) (b := 60) rfl rfl (by omega) (by omega) c1 c2
  right
  have c3 : nI n ≤ (60 : Int32) := by rw [il_60, nI_leP (by omega) (by omega)]; exact d2
  have z2 : ((1 : Int32) = 0) = False := eq_false (by decide)
  obtain ⟨M', ms', c', on', ot', op', os', sw', gp', gr', bc', bg', bs', bt', be', ql', qg', fc', fg', fs', fm', e1, e2, e3, e4, e5, e6⟩ := sim_waits d2 mt 2000 0 M ms U 0 on ot op os sw gp gr bc bg bs bt be ql qg fc fg fs fm (Nat.zero_le _) (by omega) hV (by omega) (Nat.zero_le _) hm hr
  refine ⟨c', M', ms', on', ot', op', os', sw', gp', gr', bc', bg', bs', bt', be', ql', qg', fc', fg', fs', fm', ?_, ?_, by omega, ?_, e5, e6⟩
  · rw [f_X8_tryWait, sf_b, if_neg c1, sf_b, if_pos c3]
    exact e1 _
  · simp only [f_X12_doPass, f_X12_in, sf_b, sf_c1, c1, c2, z2, if_false]
    exact e2 _
  · obtain ⟨⟨x1, x2, x3, x4, x5, x6⟩, x7⟩ := e3
    exact ⟨⟨x1, x2, x3, x4, by omega, by omega⟩, x7⟩
end CMD
