/-! the model: what its methods that change the row make of it -/
def zin (n : Nat) (p : Int32) : Prop := ∃ j, j < n ∧ p = nI j
def zbk (M : Nat → Nat) (p : Int32) : Prop := ∃ t, M 3 ≤ t ∧ t ≤ M 3 + 120 ∧ p = nI t
theorem fm_in1 {n : Nat} {p : Int32} (hn : n ≤ 16) (h : zin n p) : f_X12_in p (nI 0) (nI n - nI 1) = some (nI 1) := by
  obtain ⟨j, hj, rfl⟩ := h
  simp (disch := omega) only [sf_g, sf_b, sf_n, sf_c0, sf_c1, sf_c2, sf_c3, sf_c4, sf_c5, sf_c6, il_0, il_1, il_2, il_3, il_4, il_5, il_6, il_7, il_8, il_9, il_10, il_11, il_12, il_16, il_20, il_32, il_44, il_45, il_48, il_50, il_57, il_59, il_60, il_64, il_74, il_98, il_99, il_100, il_108, il_109, il_110, il_111, il_112, il_113, il_115, il_119, il_120, il_158, il_255, il_1106, il_2147483647, nI_add, nI_mul, nI_sub, nI_clamp, nI_inT, nI_eqP, nI_leP, nI_ltP, nI_neP, nI_nnP, nI_nlP, nI_nltP, nI_nleP, nI_div, nI_subneg, nI_if, if_true, if_false, ite_true, ite_false, ↓reduceIte, nI_spos, nI_szero, Nat.add_zero, sf_t1, sf_c7, sf_c8, sf_c9, n1_0, n4_0, n4_1, f_X12_in]
  rw [if_neg (by omega), if_neg (by omega)]
theorem fm_in0 {n : Nat} {p : Int32} (hn : n ≤ 16) (h : ¬ zin n p) : f_X12_in p (nI 0) (nI n - nI 1) = some (nI 0) := by
  rw [f_X12_in, sf_b, sf_b]
  by_cases c : p < nI 0
  · rw [if_pos c, il_0]
  · rw [if_neg c]
    obtain ⟨j, hj, rfl⟩ := nI_of c
    have h1 : ¬ j < n := fun e => h ⟨j, e, rfl⟩
    have h2 : nI n - nI 1 < nI j := by
      rw [Int32.lt_iff_toInt_lt, nI_stoInt (by omega) (by omega), nI_toInt hj]
      omega
    rw [if_pos h2, il_0]
theorem fh_1 {n : Nat} {p : Int32} (hn : n ≤ 16) (h : zin n p) : sf_b (p < 0) (some (0 : Int32)) (sf_b (nI n ≤ p) (some 0) (some 1)) = some (nI 1) := by
  obtain ⟨j, hj, rfl⟩ := h
  simp (disch := omega) only [sf_g, sf_b, sf_n, sf_c0, sf_c1, sf_c2, sf_c3, sf_c4, sf_c5, sf_c6, il_0, il_1, il_2, il_3, il_4, il_5, il_6, il_7, il_8, il_9, il_10, il_11, il_12, il_16, il_20, il_32, il_44, il_45, il_48, il_50, il_57, il_59, il_60, il_64, il_74, il_98, il_99, il_100, il_108, il_109, il_110, il_111, il_112, il_113, il_115, il_119, il_120, il_158, il_255, il_1106, il_2147483647, nI_add, nI_mul, nI_sub, nI_clamp, nI_inT, nI_eqP, nI_leP, nI_ltP, nI_neP, nI_nnP, nI_nlP, nI_nltP, nI_nleP, nI_div, nI_subneg, nI_if, if_true, if_false, ite_true, ite_false, ↓reduceIte, nI_spos, nI_szero, Nat.add_zero, sf_t1, sf_c7, sf_c8, sf_c9, n1_0, n4_0, n4_1]
  rw [if_neg (by omega), if_neg (by omega)]
theorem fh_0 {n : Nat} {p : Int32} (hn : n ≤ 16) (h : ¬ zin n p) : sf_b (p < 0) (some (0 : Int32)) (sf_b (nI n ≤ p) (some 0) (some 1)) = some (nI 0) := by
  rw [sf_b, sf_b]
  by_cases c : p < 0
  · rw [if_pos c]; rfl
  · rw [if_neg c]
    obtain ⟨j, hj, rfl⟩ := nI_of c
    have h1 : ¬ j < n := fun e => h ⟨j, e, rfl⟩
    rw [if_pos (by rw [nI_leP (by omega) (by omega)]; omega)]; rfl
theorem fk_1 {M : Nat → Nat} {p : Int32} (hU : M 3 ≤ 4000000) (h : zbk M p) : f_X12_in p (nI (M 3)) (nI (M 3) + nI 120) = some (nI 1) ∧ f_X8_isBookable (nI (M 3)) p = some (nI 1) := by
  obtain ⟨t, h1, h2, rfl⟩ := h
  constructor
  · simp (disch := omega) only [sf_g, sf_b, sf_n, sf_c0, sf_c1, sf_c2, sf_c3, sf_c4, sf_c5, sf_c6, il_0, il_1, il_2, il_3, il_4, il_5, il_6, il_7, il_8, il_9, il_10, il_11, il_12, il_16, il_20, il_32, il_44, il_45, il_48, il_50, il_57, il_59, il_60, il_64, il_74, il_98, il_99, il_100, il_108, il_109, il_110, il_111, il_112, il_113, il_115, il_119, il_120, il_158, il_255, il_1106, il_2147483647, nI_add, nI_mul, nI_sub, nI_clamp, nI_inT, nI_eqP, nI_leP, nI_ltP, nI_neP, nI_nnP, nI_nlP, nI_nltP, nI_nleP, nI_div, nI_subneg, nI_if, if_true, if_false, ite_true, ite_false, ↓reduceIte, nI_spos, nI_szero, Nat.add_zero, sf_t1, sf_c7, sf_c8, sf_c9, n1_0, n4_0, n4_1, f_X12_in]
    rw [if_neg (by omega), if_neg (by omega)]
  · simp (disch := omega) only [sf_g, sf_b, sf_n, sf_c0, sf_c1, sf_c2, sf_c3, sf_c4, sf_c5, sf_c6, il_0, il_1, il_2, il_3, il_4, il_5, il_6, il_7, il_8, il_9, il_10, il_11, il_12, il_16, il_20, il_32, il_44, il_45, il_48, il_50, il_57, il_59, il_60, il_64, il_74, il_98, il_99, il_100, il_108, il_109, il_110, il_111, il_112, il_113, il_115, il_119, il_120, il_158, il_255, il_1106, il_2147483647, nI_add, nI_mul, nI_sub, nI_clamp, nI_inT, nI_eqP, nI_leP, nI_ltP, nI_neP, nI_nnP, nI_nlP, nI_nltP, nI_nleP, nI_div, nI_subneg, nI_if, if_true, if_false, ite_true, ite_false, ↓reduceIte, nI_spos, nI_szero, Nat.add_zero, sf_t1, sf_c7, sf_c8, sf_c9, n1_0, n4_0, n4_1, f_X8_isBookable]
    rw [if_neg (by omega), if_neg (by omega)]
theorem fk_0 {M : Nat → Nat} {p : Int32} (hU : M 3 ≤ 4000000) (h : ¬ zbk M p) : f_X12_in p (nI (M 3)) (nI (M 3) + nI 120) = some (nI 0) ∧ f_X8_isBookable (nI (M 3)) p = some (nI 0) := by
  rw [f_X12_in, f_X8_isBookable, sf_b, sf_b, sf_b, sf_b, il_120, nI_add, il_0]
  by_cases c : p < nI (M 3)
  · rw [if_pos c]; exact ⟨rfl, rfl⟩
  · rw [if_neg c]
    have c0 : ¬ p < 0 := fun e => c (by
      rw [Int32.lt_iff_toInt_lt] at e ⊢
      rw [nI_toInt (by omega)]
      have : (0 : Int32).toInt = 0 := by decide
      omega)
    obtain ⟨j, hj, rfl⟩ := nI_of c0
    rw [nI_ltP hj (by omega)] at c
    have c1 : nI (M 3 + 120) < nI j := by
      rw [nI_ltP (by omega) hj]
      rcases Nat.lt_or_ge (M 3 + 120) j with y | y
      · exact y
      · exact absurd ⟨j, by omega, y, rfl⟩ h
    rw [if_pos c1]; exact ⟨rfl, rfl⟩
section MOD2
variable {M : Nat → Nat} {ms : Nat → Int32}
theorem fm_isG (h : MR M ms) (hn : M 1 ≤ 10) (p : Int32) : (zin (M 1) p → f_X12_isGuest ms p = some (nI 1)) ∧ (¬ zin (M 1) p → f_X12_isGuest ms p = some (nI 0)) := by
  have h0 : ∀ k, k < 158 → ms k = nI (M k) := h
  constructor
  · intro z
    have := fm_in1 (by omega) z
    simp (disch := omega) only [sf_g, sf_b, sf_n, sf_c0, sf_c1, sf_c2, sf_c3, sf_c4, sf_c5, sf_c6, il_0, il_1, il_2, il_3, il_4, il_5, il_6, il_7, il_8, il_9, il_10, il_11, il_12, il_16, il_20, il_32, il_44, il_45, il_48, il_50, il_57, il_59, il_60, il_64, il_74, il_98, il_99, il_100, il_108, il_109, il_110, il_111, il_112, il_113, il_115, il_119, il_120, il_158, il_255, il_1106, il_2147483647, nI_add, nI_mul, nI_sub, nI_clamp, nI_inT, nI_eqP, nI_leP, nI_ltP, nI_neP, nI_nnP, nI_nlP, nI_nltP, nI_nleP, nI_div, nI_subneg, nI_if, if_true, if_false, ite_true, ite_false, ↓reduceIte, nI_spos, nI_szero, Nat.add_zero, sf_t1, sf_c7, sf_c8, sf_c9, n1_0, n4_0, n4_1, f_X12_isGuest, h0] at this ⊢
    rw [this]; rfl
  · intro z
    have := fm_in0 (by omega) z
    simp (disch := omega) only [sf_g, sf_b, sf_n, sf_c0, sf_c1, sf_c2, sf_c3, sf_c4, sf_c5, sf_c6, il_0, il_1, il_2, il_3, il_4, il_5, il_6, il_7, il_8, il_9, il_10, il_11, il_12, il_16, il_20, il_32, il_44, il_45, il_48, il_50, il_57, il_59, il_60, il_64, il_74, il_98, il_99, il_100, il_108, il_109, il_110, il_111, il_112, il_113, il_115, il_119, il_120, il_158, il_255, il_1106, il_2147483647, nI_add, nI_mul, nI_sub, nI_clamp, nI_inT, nI_eqP, nI_leP, nI_ltP, nI_neP, nI_nnP, nI_nlP, nI_nltP, nI_nleP, nI_div, nI_subneg, nI_if, if_true, if_false, ite_true, ite_false, ↓reduceIte, nI_spos, nI_szero, Nat.add_zero, sf_t1, sf_c7, sf_c8, sf_c9, n1_0, n4_0, n4_1, f_X12_isGuest, h0] at this ⊢
    rw [this]; rfl
theorem fm_isS (h : MR M ms) (hn : M 0 ≤ 4) (p : Int32) : (zin (M 0) p → f_X12_isSlide ms p = some (nI 1)) ∧ (¬ zin (M 0) p → f_X12_isSlide ms p = some (nI 0)) := by
  have h0 : ∀ k, k < 158 → ms k = nI (M k) := h
  constructor
  · intro z
    have := fm_in1 (by omega) z
    simp (disch := omega) only [sf_g, sf_b, sf_n, sf_c0, sf_c1, sf_c2, sf_c3, sf_c4, sf_c5, sf_c6, il_0, il_1, il_2, il_3, il_4, il_5, il_6, il_7, il_8, il_9, il_10, il_11, il_12, il_16, il_20, il_32, il_44, il_45, il_48, il_50, il_57, il_59, il_60, il_64, il_74, il_98, il_99, il_100, il_108, il_109, il_110, il_111, il_112, il_113, il_115, il_119, il_120, il_158, il_255, il_1106, il_2147483647, nI_add, nI_mul, nI_sub, nI_clamp, nI_inT, nI_eqP, nI_leP, nI_ltP, nI_neP, nI_nnP, nI_nlP, nI_nltP, nI_nleP, nI_div, nI_subneg, nI_if, if_true, if_false, ite_true, ite_false, ↓reduceIte, nI_spos, nI_szero, Nat.add_zero, sf_t1, sf_c7, sf_c8, sf_c9, n1_0, n4_0, n4_1, f_X12_isSlide, h0] at this ⊢
    rw [this]; rfl
  · intro z
    have := fm_in0 (by omega) z
    simp (disch := omega) only [sf_g, sf_b, sf_n, sf_c0, sf_c1, sf_c2, sf_c3, sf_c4, sf_c5, sf_c6, il_0, il_1, il_2, il_3, il_4, il_5, il_6, il_7, il_8, il_9, il_10, il_11, il_12, il_16, il_20, il_32, il_44, il_45, il_48, il_50, il_57, il_59, il_60, il_64, il_74, il_98, il_99, il_100, il_108, il_109, il_110, il_111, il_112, il_113, il_115, il_119, il_120, il_158, il_255, il_1106, il_2147483647, nI_add, nI_mul, nI_sub, nI_clamp, nI_inT, nI_eqP, nI_leP, nI_ltP, nI_neP, nI_nnP, nI_nlP, nI_nltP, nI_nleP, nI_div, nI_subneg, nI_if, if_true, if_false, ite_true, ite_false, ↓reduceIte, nI_spos, nI_szero, Nat.add_zero, sf_t1, sf_c7, sf_c8, sf_c9, n1_0, n4_0, n4_1, f_X12_isSlide, h0] at this ⊢
    rw [this]; rfl
theorem fm_isB (h : MR M ms) (hn : M 2 ≤ 12) (p : Int32) : (zin (M 2) p → f_X12_isBooking ms p = some (nI 1)) ∧ (¬ zin (M 2) p → f_X12_isBooking ms p = some (nI 0)) := by
  have h0 : ∀ k, k < 158 → ms k = nI (M k) := h
  constructor
  · intro z
    have := fm_in1 (by omega) z
    simp (disch := omega) only [sf_g, sf_b, sf_n, sf_c0, sf_c1, sf_c2, sf_c3, sf_c4, sf_c5, sf_c6, il_0, il_1, il_2, il_3, il_4, il_5, il_6, il_7, il_8, il_9, il_10, il_11, il_12, il_16, il_20, il_32, il_44, il_45, il_48, il_50, il_57, il_59, il_60, il_64, il_74, il_98, il_99, il_100, il_108, il_109, il_110, il_111, il_112, il_113, il_115, il_119, il_120, il_158, il_255, il_1106, il_2147483647, nI_add, nI_mul, nI_sub, nI_clamp, nI_inT, nI_eqP, nI_leP, nI_ltP, nI_neP, nI_nnP, nI_nlP, nI_nltP, nI_nleP, nI_div, nI_subneg, nI_if, if_true, if_false, ite_true, ite_false, ↓reduceIte, nI_spos, nI_szero, Nat.add_zero, sf_t1, sf_c7, sf_c8, sf_c9, n1_0, n4_0, n4_1, f_X12_isBooking, h0] at this ⊢
    rw [this]; rfl
  · intro z
    have := fm_in0 (by omega) z
    simp (disch := omega) only [sf_g, sf_b, sf_n, sf_c0, sf_c1, sf_c2, sf_c3, sf_c4, sf_c5, sf_c6, il_0, il_1, il_2, il_3, il_4, il_5, il_6, il_7, il_8, il_9, il_10, il_11, il_12, il_16, il_20, il_32, il_44, il_45, il_48, il_50, il_57, il_59, il_60, il_64, il_74, il_98, il_99, il_100, il_108, il_109, il_110, il_111, il_112, il_113, il_115, il_119, il_120, il_158, il_255, il_1106, il_2147483647, nI_add, nI_mul, nI_sub, nI_clamp, nI_inT, nI_eqP, nI_leP, nI_ltP, nI_neP, nI_nnP, nI_nlP, nI_nltP, nI_nleP, nI_div, nI_subneg, nI_if, if_true, if_false, ite_true, ite_false, ↓reduceIte, nI_spos, nI_szero, Nat.add_zero, sf_t1, sf_c7, sf_c8, sf_c9, n1_0, n4_0, n4_1, f_X12_isBooking, h0] at this ⊢
    rw [this]; rfl
theorem fm_isT (h : MR M ms) (hU : M 3 ≤ 4000000) (p : Int32) : (zbk M p → f_X12_isStart ms p = some (nI 1)) ∧ (¬ zbk M p → f_X12_isStart ms p = some (nI 0)) := by
  have h0 : ∀ k, k < 158 → ms k = nI (M k) := h
  constructor
  · intro z
    have := (fk_1 hU z).1
    simp (disch := omega) only [sf_g, sf_b, sf_n, sf_c0, sf_c1, sf_c2, sf_c3, sf_c4, sf_c5, sf_c6, il_0, il_1, il_2, il_3, il_4, il_5, il_6, il_7, il_8, il_9, il_10, il_11, il_12, il_16, il_20, il_32, il_44, il_45, il_48, il_50, il_57, il_59, il_60, il_64, il_74, il_98, il_99, il_100, il_108, il_109, il_110, il_111, il_112, il_113, il_115, il_119, il_120, il_158, il_255, il_1106, il_2147483647, nI_add, nI_mul, nI_sub, nI_clamp, nI_inT, nI_eqP, nI_leP, nI_ltP, nI_neP, nI_nnP, nI_nlP, nI_nltP, nI_nleP, nI_div, nI_subneg, nI_if, if_true, if_false, ite_true, ite_false, ↓reduceIte, nI_spos, nI_szero, Nat.add_zero, sf_t1, sf_c7, sf_c8, sf_c9, n1_0, n4_0, n4_1, f_X12_isStart, h0] at this ⊢
    rw [this]; rfl
  · intro z
    have := (fk_0 hU z).1
    simp (disch := omega) only [sf_g, sf_b, sf_n, sf_c0, sf_c1, sf_c2, sf_c3, sf_c4, sf_c5, sf_c6, il_0, il_1, il_2, il_3, il_4, il_5, il_6, il_7, il_8, il_9, il_10, il_11, il_12, il_16, il_20, il_32, il_44, il_45, il_48, il_50, il_57, il_59, il_60, il_64, il_74, il_98, il_99, il_100, il_108, il_109, il_110, il_111, il_112, il_113, il_115, il_119, il_120, il_158, il_255, il_1106, il_2147483647, nI_add, nI_mul, nI_sub, nI_clamp, nI_inT, nI_eqP, nI_leP, nI_ltP, nI_neP, nI_nnP, nI_nlP, nI_nltP, nI_nleP, nI_div, nI_subneg, nI_if, if_true, if_false, ite_true, ite_false, ↓reduceIte, nI_spos, nI_szero, Nat.add_zero, sf_t1, sf_c7, sf_c8, sf_c9, n1_0, n4_0, n4_1, f_X12_isStart, h0] at this ⊢
    rw [this]; rfl
theorem fm_makes (h : MR M ms) {g s t : Nat} (hg : g < 10) (hs : s < 4) (hn : M 2 < 12) (hp : zP M s ≤ zC M g) : ∃ ms', f_X12_makes ms (nI g) (nI s) (nI t) = some (nI (M 2), ms') ∧ MR (zmk M g s t) ms' := by
  obtain ⟨h0, a1, a2, a3, a4, a5, a6, a7, a8, a9, a10, a11, a12⟩ := fm_all h
  have eC : M (44 + 3 * g) = zC M g := rfl
  simp (disch := omega) only [sf_g, sf_b, sf_n, sf_c0, sf_c1, sf_c2, sf_c3, sf_c4, sf_c5, sf_c6, il_0, il_1, il_2, il_3, il_4, il_5, il_6, il_7, il_8, il_9, il_10, il_11, il_12, il_16, il_20, il_32, il_44, il_45, il_48, il_50, il_57, il_59, il_60, il_64, il_74, il_98, il_99, il_100, il_108, il_109, il_110, il_111, il_112, il_113, il_115, il_119, il_120, il_158, il_255, il_1106, il_2147483647, nI_add, nI_mul, nI_sub, nI_clamp, nI_inT, nI_eqP, nI_leP, nI_ltP, nI_neP, nI_nnP, nI_nlP, nI_nltP, nI_nleP, nI_div, nI_subneg, nI_if, if_true, if_false, ite_true, ite_false, ↓reduceIte, nI_spos, nI_szero, Nat.add_zero, sf_t1, sf_c7, sf_c8, sf_c9, n1_0, n4_0, n4_1, f_X12_makes, f_X12_pays, h0, a2, upd_eqP, upd_neP, eC]
  refine ⟨_, rfl, ?_⟩
  unfold zmk
  exact (((((h.upd _ _).upd _ _).upd _ _).upd _ _).upd _ _).upd _ _
theorem fm_drops (h : MR M ms) {b : Nat} (hn : M 2 ≤ 12) (hb : b < M 2) : f_X12_drops ms (nI b) = some (va_cpy (upd ms 2 (nI (M 2 - 1))) (upd ms 2 (nI (M 2 - 1))) (74 + 3 * b + 3) (74 + 3 * b) (3 * (M 2 - 1 - b))) := by
  have h0 : ∀ k, k < 158 → ms k = nI (M k) := h
  have c1 : (nI (74 + 3 * b + 3) < nI 0) = False := eq_false (by rw [nI_ltP (by omega) (by omega)]; omega)
  have c2 : (nI (74 + 3 * b) < nI 0) = False := eq_false (by rw [nI_ltP (by omega) (by omega)]; omega)
  have c3 : (nI (3 * (M 2 - 1 - b)) < nI 0) = False := eq_false (by rw [nI_ltP (by omega) (by omega)]; omega)
  simp (disch := omega) only [sf_g, sf_b, sf_n, sf_c0, sf_c1, sf_c2, sf_c3, sf_c4, sf_c5, sf_c6, il_0, il_1, il_2, il_3, il_4, il_5, il_6, il_7, il_8, il_9, il_10, il_11, il_12, il_16, il_20, il_32, il_44, il_45, il_48, il_50, il_57, il_59, il_60, il_64, il_74, il_98, il_99, il_100, il_108, il_109, il_110, il_111, il_112, il_113, il_115, il_119, il_120, il_158, il_255, il_1106, il_2147483647, nI_add, nI_mul, nI_sub, nI_clamp, nI_inT, nI_eqP, nI_leP, nI_ltP, nI_neP, nI_nnP, nI_nlP, nI_nltP, nI_nleP, nI_div, nI_subneg, nI_if, if_true, if_false, ite_true, ite_false, ↓reduceIte, nI_spos, nI_szero, Nat.add_zero, sf_t1, sf_c7, sf_c8, sf_c9, n1_0, n4_0, n4_1, f_X12_drops, h0, upd_eqP, c1, c2, c3, not_false_eq_true, true_and]
  rw [if_pos (by omega)]
theorem MRdrop (h : MR M ms) {b n : Nat} (hn : 74 + 3 * b + 3 + 3 * (n - b) ≤ 158) : MR (zcp (zu M 2 n) (74 + 3 * b + 3) (74 + 3 * b) (3 * (n - b))) (va_cpy (upd ms 2 (nI n)) (upd ms 2 (nI n)) (74 + 3 * b + 3) (74 + 3 * b) (3 * (n - b))) := (h.upd 2 n).cpy hn
theorem lm_bd47 (h : MR M ms) {n : Nat} (hn : n < 4) {k : (Nat → Int32) → Option (Int32 × (Nat → Int32) × Int32)} : ∀ m v, v ≤ 9 → 9 - v < m → f_X12_doBuildSlide_L47 (nI n) k m (nI v) (fun i => if 8 + 9 * n ≤ i ∧ i < 8 + 9 * n + v then nI 0 else ms i) = k (fun i => if 8 + 9 * n ≤ i ∧ i < 8 + 9 * n + 9 then nI 0 else ms i) := by
  intro m
  induction m with
  | zero => intro v hv hm; omega
  | succ m ih =>
    intro v hv hm
    rw [f_X12_doBuildSlide_L47]
    rcases Nat.lt_or_ge v 9 with z | z
    · have ih1 := ih (v + 1) (by omega) (by omega)
      have e : upd (fun i => if 8 + 9 * n ≤ i ∧ i < 8 + 9 * n + v then nI 0 else ms i) (8 + 9 * n + v) (nI 0) = (fun i => if 8 + 9 * n ≤ i ∧ i < 8 + 9 * n + (v + 1) then nI 0 else ms i) := funext fun i => by
        by_cases c : i = 8 + 9 * n + v
        · rw [upd_eqP c, if_pos (by omega)]
        · rw [upd_neP c]
          by_cases d : 8 + 9 * n ≤ i ∧ i < 8 + 9 * n + v
          · rw [if_pos d, if_pos (by omega)]
          · rw [if_neg d, if_neg (by omega)]
      have c : ¬ 9 ≤ v := by omega
      simp (disch := omega) only [sf_g, sf_b, sf_n, sf_c0, sf_c1, sf_c2, sf_c3, sf_c4, sf_c5, sf_c6, il_0, il_1, il_2, il_3, il_4, il_5, il_6, il_7, il_8, il_9, il_10, il_11, il_12, il_16, il_20, il_32, il_44, il_45, il_48, il_50, il_57, il_59, il_60, il_64, il_74, il_98, il_99, il_100, il_108, il_109, il_110, il_111, il_112, il_113, il_115, il_119, il_120, il_158, il_255, il_1106, il_2147483647, nI_add, nI_mul, nI_sub, nI_clamp, nI_inT, nI_eqP, nI_leP, nI_ltP, nI_neP, nI_nnP, nI_nlP, nI_nltP, nI_nleP, nI_div, nI_subneg, nI_if, if_true, if_false, ite_true, ite_false, ↓reduceIte, nI_spos, nI_szero, Nat.add_zero, sf_t1, sf_c7, sf_c8, sf_c9, n1_0, n4_0, n4_1, c, e]
      exact ih1
    · have e : v = 9 := by omega
      subst e
      simp (disch := omega) only [sf_g, sf_b, sf_n, sf_c0, sf_c1, sf_c2, sf_c3, sf_c4, sf_c5, sf_c6, il_0, il_1, il_2, il_3, il_4, il_5, il_6, il_7, il_8, il_9, il_10, il_11, il_12, il_16, il_20, il_32, il_44, il_45, il_48, il_50, il_57, il_59, il_60, il_64, il_74, il_98, il_99, il_100, il_108, il_109, il_110, il_111, il_112, il_113, il_115, il_119, il_120, il_158, il_255, il_1106, il_2147483647, nI_add, nI_mul, nI_sub, nI_clamp, nI_inT, nI_eqP, nI_leP, nI_ltP, nI_neP, nI_nnP, nI_nlP, nI_nltP, nI_nleP, nI_div, nI_subneg, nI_if, if_true, if_false, ite_true, ite_false, ↓reduceIte, nI_spos, nI_szero, Nat.add_zero, sf_t1, sf_c7, sf_c8, sf_c9, n1_0, n4_0, n4_1, Nat.le_refl]
theorem fm_build (h : MR M ms) {d p : Nat} (hd : 1 ≤ d ∧ d ≤ 9) (hp : 1 ≤ p ∧ p ≤ 9) (hn : M 0 < 4) (mt : Int32) : ∃ ms', f_X12_doBuildSlide ms mt (nI d) (nI p) = some (nI (M 0), ms', mt) ∧ MR (zbd M d p) ms' := by
  have h0 : ∀ k, k < 158 → ms k = nI (M k) := h
  have h8 := lm_bd47 h hn (k := fun z_10 => sf_g (sf_in (8 + (9 * nI (M 0))) 158 = true) (sf_n (upd z_10 (8 + (9 * nI (M 0))).toNatClampNeg (nI d)) (fun a_11 => sf_g (sf_in ((8 + (9 * nI (M 0))) + 1) 158 = true) (sf_n (upd a_11 ((8 + (9 * nI (M 0))) + 1).toNatClampNeg (nI p)) (fun a_12 => sf_g (sf_in 0 158 = true) (sf_g (sf_in 0 158 = true) (sf_n (upd a_12 (0 : Int32).toNatClampNeg ((a_12 (0 : Int32).toNatClampNeg) + 1)) (fun a_13 => some (nI (M 0), a_13, mt))))))))) 2000 0 (Nat.zero_le _) (by omega)
  have e0 : (fun i => if 8 + 9 * M 0 ≤ i ∧ i < 8 + 9 * M 0 + 0 then nI 0 else ms i) = ms := funext fun i => if_neg (by omega)
  rw [e0] at h8
  have hc : ¬ M 0 = 4 := by omega
  have d1 : ¬ d < 1 := by omega
  have d2 : ¬ 9 < d := by omega
  have p1 : ¬ p < 1 := by omega
  have p2 : ¬ 9 < p := by omega
  have c1 : f_X12_in (nI d) 1 9 = some (nI 1) := by simp (disch := omega) only [sf_g, sf_b, sf_n, sf_c0, sf_c1, sf_c2, sf_c3, sf_c4, sf_c5, sf_c6, il_0, il_1, il_2, il_3, il_4, il_5, il_6, il_7, il_8, il_9, il_10, il_11, il_12, il_16, il_20, il_32, il_44, il_45, il_48, il_50, il_57, il_59, il_60, il_64, il_74, il_98, il_99, il_100, il_108, il_109, il_110, il_111, il_112, il_113, il_115, il_119, il_120, il_158, il_255, il_1106, il_2147483647, nI_add, nI_mul, nI_sub, nI_clamp, nI_inT, nI_eqP, nI_leP, nI_ltP, nI_neP, nI_nnP, nI_nlP, nI_nltP, nI_nleP, nI_div, nI_subneg, nI_if, if_true, if_false, ite_true, ite_false, ↓reduceIte, nI_spos, nI_szero, Nat.add_zero, sf_t1, sf_c7, sf_c8, sf_c9, n1_0, n4_0, n4_1, f_X12_in, d1, d2]
  have c2 : f_X12_in (nI p) 1 9 = some (nI 1) := by simp (disch := omega) only [sf_g, sf_b, sf_n, sf_c0, sf_c1, sf_c2, sf_c3, sf_c4, sf_c5, sf_c6, il_0, il_1, il_2, il_3, il_4, il_5, il_6, il_7, il_8, il_9, il_10, il_11, il_12, il_16, il_20, il_32, il_44, il_45, il_48, il_50, il_57, il_59, il_60, il_64, il_74, il_98, il_99, il_100, il_108, il_109, il_110, il_111, il_112, il_113, il_115, il_119, il_120, il_158, il_255, il_1106, il_2147483647, nI_add, nI_mul, nI_sub, nI_clamp, nI_inT, nI_eqP, nI_leP, nI_ltP, nI_neP, nI_nnP, nI_nlP, nI_nltP, nI_nleP, nI_div, nI_subneg, nI_if, if_true, if_false, ite_true, ite_false, ↓reduceIte, nI_spos, nI_szero, Nat.add_zero, sf_t1, sf_c7, sf_c8, sf_c9, n1_0, n4_0, n4_1, f_X12_in, p1, p2]
  have c3 : ms (0 : Int32).toNatClampNeg = nI (M 0) := h0 0 (by omega)
  have c4 : (nI 1 = (0 : Int32)) = False := eq_false (by decide)
  have c5 : (nI (M 0) = (4 : Int32)) = False := eq_false (by rw [il_4, nI_eqP (by omega) (by omega)]; exact hc)
  have c6 : (sf_in (0 : Int32) 158 = true) = True := eq_true (by decide)
  rw [f_X12_doBuildSlide]
  simp only [sf_g, c6, if_true, sf_n, c3, c1, c2, sf_c1, sf_b, c4, c5, if_false] at h8 ⊢
  rw [show f_X12_doBuildSlide_L47 (nI (M 0)) _ 2000 0 ms = _ from h8]
  simp (disch := omega) only [sf_g, sf_b, sf_n, sf_c0, sf_c1, sf_c2, sf_c3, sf_c4, sf_c5, sf_c6, il_0, il_1, il_2, il_3, il_4, il_5, il_6, il_7, il_8, il_9, il_10, il_11, il_12, il_16, il_20, il_32, il_44, il_45, il_48, il_50, il_57, il_59, il_60, il_64, il_74, il_98, il_99, il_100, il_108, il_109, il_110, il_111, il_112, il_113, il_115, il_119, il_120, il_158, il_255, il_1106, il_2147483647, nI_add, nI_mul, nI_sub, nI_clamp, nI_inT, nI_eqP, nI_leP, nI_ltP, nI_neP, nI_nnP, nI_nlP, nI_nltP, nI_nleP, nI_div, nI_subneg, nI_if, if_true, if_false, ite_true, ite_false, ↓reduceIte, nI_spos, nI_szero, Nat.add_zero, sf_t1, sf_c7, sf_c8, sf_c9, n1_0, n4_0, n4_1, upd_neP, h0, if_neg]
  refine ⟨_, rfl, ?_⟩
  have e1 : MR (fun i => if 8 + 9 * M 0 ≤ i ∧ i < 17 + 9 * M 0 then 0 else M i) (fun i => if 8 + 9 * M 0 ≤ i ∧ i < 8 + 9 * M 0 + 9 then nI 0 else ms i) := fun i hi => by
    by_cases c : 8 + 9 * M 0 ≤ i ∧ i < 8 + 9 * M 0 + 9
    · show (if _ then nI 0 else ms i) = nI (if _ then 0 else M i)
      rw [if_pos c, if_pos (by omega)]
    · show (if _ then nI 0 else ms i) = nI (if _ then 0 else M i)
      rw [if_neg c, if_neg (by omega)]
      exact h i hi
  unfold zbd
  exact ((e1.upd _ _).upd _ _).upd _ _
theorem fm_guest (h : MR M ms) (hn : M 1 < 10) (mt : Int32) : ∃ ms', f_X12_doAddGuest ms mt = some (nI (M 1), ms', mt) ∧ MR (zgu M) ms' := by
  have h0 : ∀ k, k < 158 → ms k = nI (M k) := h
  have hc : ¬ M 1 = 10 := by omega
  simp (disch := omega) only [sf_g, sf_b, sf_n, sf_c0, sf_c1, sf_c2, sf_c3, sf_c4, sf_c5, sf_c6, il_0, il_1, il_2, il_3, il_4, il_5, il_6, il_7, il_8, il_9, il_10, il_11, il_12, il_16, il_20, il_32, il_44, il_45, il_48, il_50, il_57, il_59, il_60, il_64, il_74, il_98, il_99, il_100, il_108, il_109, il_110, il_111, il_112, il_113, il_115, il_119, il_120, il_158, il_255, il_1106, il_2147483647, nI_add, nI_mul, nI_sub, nI_clamp, nI_inT, nI_eqP, nI_leP, nI_ltP, nI_neP, nI_nnP, nI_nlP, nI_nltP, nI_nleP, nI_div, nI_subneg, nI_if, if_true, if_false, ite_true, ite_false, ↓reduceIte, nI_spos, nI_szero, Nat.add_zero, sf_t1, sf_c7, sf_c8, sf_c9, n1_0, n4_0, n4_1, f_X12_doAddGuest, h0, hc, upd_eqP, upd_neP]
  refine ⟨_, rfl, ?_⟩
  unfold zgu
  exact (((h.upd _ _).upd _ _).upd _ _).upd _ _
theorem fm_cancel (h : MR M ms) {b : Nat} (hn : M 2 ≤ 12) (hb : b < M 2) (hg : zG M b < 10) (hs : zS M b < 4) (hM1 : M 1 ≤ 10) (hs2 : M 3 < zT M b) (hT : zT M b < 2 ^ 31) (hc : zP M (zS M b) ≤ M 7) (mt : Int32) : ∃ ms', f_X12_doCancel ms mt (nI b) = some (nI (zC M (zG M b) + zP M (zS M b)), ms', mt) ∧ MR (zcn M b) ms' := by
  obtain ⟨h0, a1, a2, a3, a4, a5, a6, a7, a8, a9, a10, a11, a12⟩ := fm_all h
  have hb1 := (fm_isB h hn (nI b)).1 ⟨b, hb, rfl⟩
  have eC : M (44 + 3 * zG M b) = zC M (zG M b) := rfl
  have hm : MR (zu (zu (zu M (44 + 3 * zG M b) (zC M (zG M b) + zP M (zS M b))) 7 (M 7 - zP M (zS M b))) 6 (M 6 + zP M (zS M b))) (upd (upd (upd ms (44 + 3 * zG M b) (nI (zC M (zG M b) + zP M (zS M b)))) 7 (nI (M 7 - zP M (zS M b)))) 6 (nI (M 6 + zP M (zS M b)))) := ((h.upd _ _).upd _ _).upd _ _
  have e2 : zu (zu (zu M (44 + 3 * zG M b) (zC M (zG M b) + zP M (zS M b))) 7 (M 7 - zP M (zS M b))) 6 (M 6 + zP M (zS M b)) 2 = M 2 := by simp (disch := omega) only [zu_ne]
  have hd := fm_drops hm (b := b) (by rw [e2]; exact hn) (by rw [e2]; exact hb)
  rw [e2] at hd
  have hr : MR (zcn M b) _ := MRdrop hm (b := b) (n := M 2 - 1) (by omega)
  have hgu := (fm_all hr).2.2.2.2.2.2.1 (zG M b) hg
  rw [cn_zCn hn hb hg hs] at hgu
  simp (disch := omega) only [sf_g, sf_b, sf_n, sf_c0, sf_c1, sf_c2, sf_c3, sf_c4, sf_c5, sf_c6, il_0, il_1, il_2, il_3, il_4, il_5, il_6, il_7, il_8, il_9, il_10, il_11, il_12, il_16, il_20, il_32, il_44, il_45, il_48, il_50, il_57, il_59, il_60, il_64, il_74, il_98, il_99, il_100, il_108, il_109, il_110, il_111, il_112, il_113, il_115, il_119, il_120, il_158, il_255, il_1106, il_2147483647, nI_add, nI_mul, nI_sub, nI_clamp, nI_inT, nI_eqP, nI_leP, nI_ltP, nI_neP, nI_nnP, nI_nlP, nI_nltP, nI_nleP, nI_div, nI_subneg, nI_if, if_true, if_false, ite_true, ite_false, ↓reduceIte, nI_spos, nI_szero, Nat.add_zero, sf_t1, sf_c7, sf_c8, sf_c9, n1_0, n4_0, n4_1, f_X12_doCancel, f_X12_pays, hb1, h0, a11, a9, a10, a2, upd_eqP, upd_neP, eC, nI_addneg, hd, hgu, hs2]
  exact ⟨_, rfl, hr⟩
theorem fm_join (h : MR M ms) {g s : Nat} (hM1 : M 1 ≤ 10) (hM0 : M 0 ≤ 4) (hg : g < M 1) (hs : s < M 0) (hv : zV M g = 0) (hq : zQ M s < 5) (mt : Int32) : ∃ ms', f_X12_doJoin ms mt (nI g) (nI s) = some (nI (zQ M s + 1), ms', mt) ∧ MR (zjn M g s) ms' := by
  obtain ⟨h0, a1, a2, a3, a4, a5, a6, a7, a8, a9, a10, a11, a12⟩ := fm_all h
  have hb1 := (fm_isG h hM1 (nI g)).1 ⟨g, hg, rfl⟩
  have hb2 := (fm_isS h hM0 (nI s)).1 ⟨s, hs, rfl⟩
  have hq5 : ¬ zQ M s = 5 := by omega
  have eQ : M (8 + 9 * s + 3) = zQ M s := rfl
  simp (disch := omega) only [sf_g, sf_b, sf_n, sf_c0, sf_c1, sf_c2, sf_c3, sf_c4, sf_c5, sf_c6, il_0, il_1, il_2, il_3, il_4, il_5, il_6, il_7, il_8, il_9, il_10, il_11, il_12, il_16, il_20, il_32, il_44, il_45, il_48, il_50, il_57, il_59, il_60, il_64, il_74, il_98, il_99, il_100, il_108, il_109, il_110, il_111, il_112, il_113, il_115, il_119, il_120, il_158, il_255, il_1106, il_2147483647, nI_add, nI_mul, nI_sub, nI_clamp, nI_inT, nI_eqP, nI_leP, nI_ltP, nI_neP, nI_nnP, nI_nlP, nI_nltP, nI_nleP, nI_div, nI_subneg, nI_if, if_true, if_false, ite_true, ite_false, ↓reduceIte, nI_spos, nI_szero, Nat.add_zero, sf_t1, sf_c7, sf_c8, sf_c9, n1_0, n4_0, n4_1, f_X12_doJoin, hb1, hb2, a8, hv, a4, hq5, h0, upd_eqP, upd_neP, eQ, Nat.le_refl]
  refine ⟨_, rfl, ?_⟩
  unfold zjn
  exact ((h.upd _ _).upd _ _).upd _ _
theorem lm_lv47 (h : MR M ms) {g s p : Nat} (hg : g < 100) (hs : s < 4) (hq : zQ M s ≤ 5) (hp : p < zQ M s) (hpg : zq M s p = g) (hd : ∀ j, j < zQ M s → zq M s j = g → j = p) (hb : ∀ j, j < zQ M s → zq M s j < 100) {k : Int32 → (Nat → Int32) → Option (Int32 × (Nat → Int32) × Int32)} : ∀ m j, j ≤ zQ M s → zQ M s - j < m → f_X12_doLeave_L47 (nI g) (nI (8 + 9 * s)) k m (nI j) (nI (if j ≤ p then j else j - 1)) (if j ≤ p then ms else zsh ms (8 + 9 * s + 4 + p) (8 + 9 * s + 4 + j)) = k (nI (zQ M s - 1)) (zsh ms (8 + 9 * s + 4 + p) (8 + 9 * s + 4 + zQ M s)) := by
  have h0 : ∀ k, k < 158 → ms k = nI (M k) := h
  have eQ : ms (8 + 9 * s + 3) = nI (zQ M s) := h0 _ (by omega)
  have eq' : ∀ j, j < 5 → ms (8 + 9 * s + 4 + j) = nI (zq M s j) := fun j hj => by
    rw [h0 _ (by omega), zq, show 8 + 9 * s + 4 + j = 8 + 9 * s + (4 + j) by omega]
  have eZ : ∀ j, zsh ms (8 + 9 * s + 4 + p) (8 + 9 * s + 4 + j) (8 + 9 * s + 3) = nI (zQ M s) := fun j => by
    rw [zsh, if_neg (by omega), eQ]
  intro m
  induction m with
  | zero => intro j hj hm; omega
  | succ m ih =>
    intro j hj hm
    rw [f_X12_doLeave_L47]
    rcases Nat.lt_or_ge j (zQ M s) with z | z
    · have g1 := eq' j (by omega)
      have g2 := hb j z
      have hnj : ¬ zQ M s ≤ j := by omega
      have ih1 := ih (j + 1) (by omega) (by omega)
      rcases Nat.lt_or_ge p j with y | y
      · have c1 : ¬ j ≤ p := by omega
        have c2 : ¬ j + 1 ≤ p := by omega
        have c3 : ¬ zq M s j = g := fun e => by have := hd j z e; omega
        have c4 : zsh ms (8 + 9 * s + 4 + p) (8 + 9 * s + 4 + j) (8 + 9 * s + 4 + j) = nI (zq M s j) := by rw [← g1]; exact zsh_at
        have c5 : upd (zsh ms (8 + 9 * s + 4 + p) (8 + 9 * s + 4 + j)) (8 + 9 * s + 4 + (j - 1)) (nI (zq M s j)) = zsh ms (8 + 9 * s + 4 + p) (8 + 9 * s + 4 + (j + 1)) := by
          rw [← g1, show 8 + 9 * s + 4 + (j - 1) = 8 + 9 * s + 4 + j - 1 by omega]
          exact zsh_s (by omega)
        have c6 : j - 1 + 1 = j + 1 - 1 := by omega
        have c7 : zsh ms (8 + 9 * s + 4 + p) (8 + 9 * s + 4 + (j + 1)) (8 + 9 * s + 4 + j) = nI (zq M s j) := by
          rw [← g1, zsh, if_neg (by omega)]
        simp only [c2, if_false] at ih1
        simp only [c1, if_false]
        simp (disch := omega) only [sf_g, sf_b, sf_n, sf_c0, sf_c1, sf_c2, sf_c3, sf_c4, sf_c5, sf_c6, il_0, il_1, il_2, il_3, il_4, il_5, il_6, il_7, il_8, il_9, il_10, il_11, il_12, il_16, il_20, il_32, il_44, il_45, il_48, il_50, il_57, il_59, il_60, il_64, il_74, il_98, il_99, il_100, il_108, il_109, il_110, il_111, il_112, il_113, il_115, il_119, il_120, il_158, il_255, il_1106, il_2147483647, nI_add, nI_mul, nI_sub, nI_clamp, nI_inT, nI_eqP, nI_leP, nI_ltP, nI_neP, nI_nnP, nI_nlP, nI_nltP, nI_nleP, nI_div, nI_subneg, nI_if, if_true, if_false, ite_true, ite_false, ↓reduceIte, nI_spos, nI_szero, Nat.add_zero, sf_t1, sf_c7, sf_c8, sf_c9, n1_0, n4_0, n4_1, hnj, eZ, c4, c5, c7, c3, c6]
        exact ih1
      · have c1 : j ≤ p := y
        have c8 : upd ms (8 + 9 * s + 4 + j) (nI (zq M s j)) = ms := by rw [← g1]; exact upd_same
        simp only [c1, if_true]
        rcases Nat.decEq j p with e | e
        · have c2 : j + 1 ≤ p := by omega
          have c3 : ¬ zq M s j = g := fun e2 => by have := hd j z e2; omega
          simp only [c2, if_true] at ih1
          simp (disch := omega) only [sf_g, sf_b, sf_n, sf_c0, sf_c1, sf_c2, sf_c3, sf_c4, sf_c5, sf_c6, il_0, il_1, il_2, il_3, il_4, il_5, il_6, il_7, il_8, il_9, il_10, il_11, il_12, il_16, il_20, il_32, il_44, il_45, il_48, il_50, il_57, il_59, il_60, il_64, il_74, il_98, il_99, il_100, il_108, il_109, il_110, il_111, il_112, il_113, il_115, il_119, il_120, il_158, il_255, il_1106, il_2147483647, nI_add, nI_mul, nI_sub, nI_clamp, nI_inT, nI_eqP, nI_leP, nI_ltP, nI_neP, nI_nnP, nI_nlP, nI_nltP, nI_nleP, nI_div, nI_subneg, nI_if, if_true, if_false, ite_true, ite_false, ↓reduceIte, nI_spos, nI_szero, Nat.add_zero, sf_t1, sf_c7, sf_c8, sf_c9, n1_0, n4_0, n4_1, hnj, eQ, g1, c8, c3]
          exact ih1
        · subst e
          have c2 : ¬ j + 1 ≤ j := by omega
          have c6 : j + 1 - 1 = j := by omega
          have c7 : zsh ms (8 + 9 * s + 4 + j) (8 + 9 * s + 4 + (j + 1)) = ms := zsh_0
          simp only [c2, if_false, c6, c7] at ih1
          rw [hpg] at g1 c8
          simp (disch := omega) only [sf_g, sf_b, sf_n, sf_c0, sf_c1, sf_c2, sf_c3, sf_c4, sf_c5, sf_c6, il_0, il_1, il_2, il_3, il_4, il_5, il_6, il_7, il_8, il_9, il_10, il_11, il_12, il_16, il_20, il_32, il_44, il_45, il_48, il_50, il_57, il_59, il_60, il_64, il_74, il_98, il_99, il_100, il_108, il_109, il_110, il_111, il_112, il_113, il_115, il_119, il_120, il_158, il_255, il_1106, il_2147483647, nI_add, nI_mul, nI_sub, nI_clamp, nI_inT, nI_eqP, nI_leP, nI_ltP, nI_neP, nI_nnP, nI_nlP, nI_nltP, nI_nleP, nI_div, nI_subneg, nI_if, if_true, if_false, ite_true, ite_false, ↓reduceIte, nI_spos, nI_szero, Nat.add_zero, sf_t1, sf_c7, sf_c8, sf_c9, n1_0, n4_0, n4_1, hnj, eQ, g1, c8]
          exact ih1
    · have e : j = zQ M s := by omega
      subst e
      have c1 : ¬ zQ M s ≤ p := by omega
      simp only [c1, if_false]
      simp (disch := omega) only [sf_g, sf_b, sf_n, sf_c0, sf_c1, sf_c2, sf_c3, sf_c4, sf_c5, sf_c6, il_0, il_1, il_2, il_3, il_4, il_5, il_6, il_7, il_8, il_9, il_10, il_11, il_12, il_16, il_20, il_32, il_44, il_45, il_48, il_50, il_57, il_59, il_60, il_64, il_74, il_98, il_99, il_100, il_108, il_109, il_110, il_111, il_112, il_113, il_115, il_119, il_120, il_158, il_255, il_1106, il_2147483647, nI_add, nI_mul, nI_sub, nI_clamp, nI_inT, nI_eqP, nI_leP, nI_ltP, nI_neP, nI_nnP, nI_nlP, nI_nltP, nI_nleP, nI_div, nI_subneg, nI_if, if_true, if_false, ite_true, ite_false, ↓reduceIte, nI_spos, nI_szero, Nat.add_zero, sf_t1, sf_c7, sf_c8, sf_c9, n1_0, n4_0, n4_1, eZ, Nat.le_refl]
theorem fm_leave (h : MR M ms) {g s p : Nat} (hM1 : M 1 ≤ 10) (hg : g < M 1) (hs : s < 4) (hv : zV M g = s + 1) (hq : zQ M s ≤ 5) (hp : p < zQ M s) (hpg : zq M s p = g) (hd : ∀ j, j < zQ M s → zq M s j = g → j = p) (hb : ∀ j, j < zQ M s → zq M s j < 100) (mt : Int32) : ∃ ms', f_X12_doLeave ms mt (nI g) = some (nI s, ms', mt) ∧ MR (zlv M s p g) ms' := by
  obtain ⟨h0, a1, a2, a3, a4, a5, a6, a7, a8, a9, a10, a11, a12⟩ := fm_all h
  have hb1 := (fm_isG h hM1 (nI g)).1 ⟨g, hg, rfl⟩
  have hsub : s + 1 - 1 = s := by omega
  have h8 := lm_lv47 h (by omega) hs hq hp hpg hd hb (k := fun y_13 z_14 => sf_g (sf_in (nI (8 + 9 * s) + 3) 158 = true) (sf_n (upd z_14 (nI (8 + 9 * s) + 3).toNatClampNeg y_13) (fun a_15 => sf_g (sf_in ((44 + (3 * nI g)) + 2) 158 = true) (sf_n (upd a_15 ((44 + (3 * nI g)) + 2).toNatClampNeg 0) (fun a_16 => some (nI s, a_16, mt)))))) 2000 0 (Nat.zero_le _) (by omega)
  simp only [Nat.zero_le, if_true] at h8
  have c1 : (nI 1 = (0 : Int32)) = False := eq_false (by decide)
  have c2 : nI (s + 1) - 1 = nI s := nI_pred s
  have c3 : ((0 : Int32) ≤ nI s) = True := eq_true (nI_pos' (by omega))
  have c4 : (8 : Int32) + 9 * nI s = nI (8 + 9 * s) := by rw [il_8, il_9, nI_mul, nI_add]
  rw [f_X12_doLeave, hb1]
  simp only [sf_c1, sf_b, c1, if_false]
  rw [show f_X12_guest ms (nI g) 2 = some (nI (zV M g)) from a8 g (by omega), hv]
  simp only [sf_n, c2, c3, if_true, c4] at h8 ⊢
  rw [show f_X12_doLeave_L47 (nI g) (nI (8 + 9 * s)) _ 2000 0 0 ms = _ from h8]
  simp (disch := omega) only [sf_g, sf_b, sf_n, sf_c0, sf_c1, sf_c2, sf_c3, sf_c4, sf_c5, sf_c6, il_0, il_1, il_2, il_3, il_4, il_5, il_6, il_7, il_8, il_9, il_10, il_11, il_12, il_16, il_20, il_32, il_44, il_45, il_48, il_50, il_57, il_59, il_60, il_64, il_74, il_98, il_99, il_100, il_108, il_109, il_110, il_111, il_112, il_113, il_115, il_119, il_120, il_158, il_255, il_1106, il_2147483647, nI_add, nI_mul, nI_sub, nI_clamp, nI_inT, nI_eqP, nI_leP, nI_ltP, nI_neP, nI_nnP, nI_nlP, nI_nltP, nI_nleP, nI_div, nI_subneg, nI_if, if_true, if_false, ite_true, ite_false, ↓reduceIte, nI_spos, nI_szero, Nat.add_zero, sf_t1, sf_c7, sf_c8, sf_c9, n1_0, n4_0, n4_1]
  refine ⟨_, rfl, ?_⟩
  have e1 : MR (zqs M (8 + 9 * s + 4 + p) (8 + 9 * s + 4 + zQ M s)) (zsh ms (8 + 9 * s + 4 + p) (8 + 9 * s + 4 + zQ M s)) := fun i hi => by
    by_cases c : 8 + 9 * s + 4 + p ≤ i ∧ i + 1 < 8 + 9 * s + 4 + zQ M s
    · rw [zqsI c, zsh, if_pos c]; exact h _ (by omega)
    · rw [zqsO (by omega), zsh, if_neg c]; exact h i hi
  unfold zlv
  exact (e1.upd _ _).upd _ _
theorem fm_wet9 (ns : Nat → Int32) {s w : Nat} (hs : s < 4) (hw : w ≤ 9) : f_X12_wets ns (nI s) (nI (w + 2)) = some (upd ns (8 + 9 * s + 2) (nI (zfw w))) := by
  by_cases c : w + 2 < 9
  · have c0 : 0 < w + 2 := by omega
    simp (disch := omega) only [sf_g, sf_b, sf_n, sf_c0, sf_c1, sf_c2, sf_c3, sf_c4, sf_c5, sf_c6, il_0, il_1, il_2, il_3, il_4, il_5, il_6, il_7, il_8, il_9, il_10, il_11, il_12, il_16, il_20, il_32, il_44, il_45, il_48, il_50, il_57, il_59, il_60, il_64, il_74, il_98, il_99, il_100, il_108, il_109, il_110, il_111, il_112, il_113, il_115, il_119, il_120, il_158, il_255, il_1106, il_2147483647, nI_add, nI_mul, nI_sub, nI_clamp, nI_inT, nI_eqP, nI_leP, nI_ltP, nI_neP, nI_nnP, nI_nlP, nI_nltP, nI_nleP, nI_div, nI_subneg, nI_if, if_true, if_false, ite_true, ite_false, ↓reduceIte, nI_spos, nI_szero, Nat.add_zero, sf_t1, sf_c7, sf_c8, sf_c9, n1_0, n4_0, n4_1, f_X12_wets, zfw, c, c0]
  · have c0 : 0 < 9 := by omega
    simp (disch := omega) only [sf_g, sf_b, sf_n, sf_c0, sf_c1, sf_c2, sf_c3, sf_c4, sf_c5, sf_c6, il_0, il_1, il_2, il_3, il_4, il_5, il_6, il_7, il_8, il_9, il_10, il_11, il_12, il_16, il_20, il_32, il_44, il_45, il_48, il_50, il_57, il_59, il_60, il_64, il_74, il_98, il_99, il_100, il_108, il_109, il_110, il_111, il_112, il_113, il_115, il_119, il_120, il_158, il_255, il_1106, il_2147483647, nI_add, nI_mul, nI_sub, nI_clamp, nI_inT, nI_eqP, nI_leP, nI_ltP, nI_neP, nI_nnP, nI_nlP, nI_nltP, nI_nleP, nI_div, nI_subneg, nI_if, if_true, if_false, ite_true, ite_false, ↓reduceIte, nI_spos, nI_szero, Nat.add_zero, sf_t1, sf_c7, sf_c8, sf_c9, n1_0, n4_0, n4_1, f_X12_wets, zfw, c, c0]
def zfv (M : Nat → Nat) (ns : Nat → Int32) (b : Nat) : Nat → Int32 := upd (upd (upd (upd (upd (va_cpy (upd ns (8 + 9 * zS M b + 2) (nI (zfw (zW M (zS M b))))) (upd ns (8 + 9 * zS M b + 2) (nI (zfw (zW M (zS M b))))) 110 113 45) 110 (nI (zG M b))) 111 (nI (zS M b))) 112 (nI (M 3))) 4 (nI (if M 4 + 1 < 16 then M 4 + 1 else 16))) (44 + 3 * zG M b + 1) (nI (zR M (zG M b) + 1))
def zfN (M N : Nat → Nat) (b : Nat) : Nat → Nat := zu (zu (zu (zu (zu (zcp (zu N (8 + 9 * zS M b + 2) (zfw (zW M (zS M b)))) 110 113 45) 110 (zG M b)) 111 (zS M b)) 112 (M 3)) 4 (if M 4 + 1 < 16 then M 4 + 1 else 16)) (44 + 3 * zG M b + 1) (zR M (zG M b) + 1)
theorem MR_zfN {N : Nat → Nat} {ns : Nat → Int32} (hN : MR N ns) (b : Nat) : MR (zfN M N b) (zfv M ns b) := by
  have h1 : MR (zcp (zu N (8 + 9 * zS M b + 2) (zfw (zW M (zS M b)))) 110 113 45) (va_cpy (upd ns (8 + 9 * zS M b + 2) (nI (zfw (zW M (zS M b))))) (upd ns (8 + 9 * zS M b + 2) (nI (zfw (zW M (zS M b))))) 110 113 45) := (hN.upd _ _).cpy (by omega)
  have h2 := h1.upd 110 (zG M b)
  have h3 := h2.upd 111 (zS M b)
  have h4 := h3.upd 112 (M 3)
  have h5 := h4.upd 4 (if M 4 + 1 < 16 then M 4 + 1 else 16)
  exact h5.upd (44 + 3 * zG M b + 1) (zR M (zG M b) + 1)
theorem zfN_2 {N : Nat → Nat} {b : Nat} (hs : zS M b < 4) (e2 : N 2 = M 2) : zfN M N b 2 = M 2 := by
  unfold zfN
  simp (disch := omega) only [zu_ne, zcpO, e2]
theorem fm_drop9 {N : Nat → Nat} {ns : Nat → Int32} (hN : MR N ns) {b : Nat} (hn : M 2 ≤ 12) (hb : b < M 2) (hs : zS M b < 4) (e2 : N 2 = M 2) : ∃ ms', f_X12_drops (zfv M ns b) (nI b) = some ms' ∧ MR (zfa M N b) ms' := by
  have h1 := MR_zfN hN (M := M) b
  have h2 := zfN_2 (M := M) (N := N) hs e2
  have h3 := fm_drops h1 (b := b) (by omega) (by omega)
  rw [h2] at h3
  refine ⟨_, h3, ?_⟩
  exact MRdrop h1 (b := b) (n := M 2 - 1) (by omega)
/-- the rest of a finish, behind the wetness -/
def zTL (p0 r_1 r_2 : Int32) (a_4 : Nat → Int32) : Option (Nat → Int32) := sf_n (va_cpy a_4 a_4 (110 : Int32).toNatClampNeg (113 : Int32).toNatClampNeg (45 : Int32).toNatClampNeg) (fun a_5 => sf_g (sf_in (110 : Int32) 158 = true) (sf_n (upd a_5 (110 : Int32).toNatClampNeg r_1) (fun a_6 => sf_g (sf_in (111 : Int32) 158 = true) (sf_n (upd a_6 (111 : Int32).toNatClampNeg r_2) (fun a_7 => sf_g (sf_in (3 : Int32) 158 = true) (sf_g (sf_in (112 : Int32) 158 = true) (sf_n (upd a_7 (112 : Int32).toNatClampNeg (a_7 (3 : Int32).toNatClampNeg)) (fun a_8 => sf_g (sf_in (4 : Int32) 158 = true) (sf_g (sf_in (4 : Int32) 158 = true) (sf_n (upd a_8 (4 : Int32).toNatClampNeg (if ((a_8 (4 : Int32).toNatClampNeg) + (1 : Int32)) < (16 : Int32) then ((a_8 (4 : Int32).toNatClampNeg) + (1 : Int32)) else (16 : Int32))) (fun a_9 => sf_g (sf_in (((44 : Int32) + ((3 : Int32) * r_1)) + (1 : Int32)) 158 = true) (sf_g (sf_in (((44 : Int32) + ((3 : Int32) * r_1)) + (1 : Int32)) 158 = true) (sf_n (upd a_9 (((44 : Int32) + ((3 : Int32) * r_1)) + (1 : Int32)).toNatClampNeg ((a_9 (((44 : Int32) + ((3 : Int32) * r_1)) + (1 : Int32)).toNatClampNeg) + (1 : Int32))) (fun a_10 => sf_c1 (f_X12_drops a_10 p0) (fun a_11 => some a_11)))))))))))))))
theorem sfn_i {α β : Type} {x : β} {k : β → Option α} {R : Option α} (h : ∀ y, y = x → k y = R) : sf_n x k = R := h x rfl
theorem sfg_i {α : Type} {c : Prop} [Decidable c] {k R : Option α} (hc : c) (h : k = R) : sf_g c k = R := by rw [sf_g, if_pos hc]; exact h
theorem zTL_eq {a : Nat → Int32} {p0 : Int32} {g s n3 n4 r : Nat} (hg : g < 10) (h3 : a 3 = nI n3) (h4 : a 4 = nI n4) (hn4 : n4 ≤ 16) (hr : a (44 + 3 * g + 1) = nI r) : zTL p0 (nI g) (nI s) a = f_X12_drops (upd (upd (upd (upd (upd (va_cpy a a 110 113 45) 110 (nI g)) 111 (nI s)) 112 (nI n3)) 4 (nI (if n4 + 1 < 16 then n4 + 1 else 16))) (44 + 3 * g + 1) (nI (r + 1))) p0 := by
  have c110 : (110 : Int32).toNatClampNeg = 110 := by decide
  have c111 : (111 : Int32).toNatClampNeg = 111 := by decide
  have c112 : (112 : Int32).toNatClampNeg = 112 := by decide
  have c113 : (113 : Int32).toNatClampNeg = 113 := by decide
  have c45 : (45 : Int32).toNatClampNeg = 45 := by decide
  have c3 : (3 : Int32).toNatClampNeg = 3 := by decide
  have c4 : (4 : Int32).toNatClampNeg = 4 := by decide
  have eg : (44 : Int32) + (3 : Int32) * nI g + (1 : Int32) = nI (44 + 3 * g + 1) := by rw [il_44, il_3, il_1, nI_mul, nI_add, nI_add]
  have ig : sf_in (nI (44 + 3 * g + 1)) 158 = true := of_eq_true (nI_inT (by omega) (by omega))
  have cg : (nI (44 + 3 * g + 1)).toNatClampNeg = 44 + 3 * g + 1 := nI_clamp (by omega)
  unfold zTL
  rw [eg, cg, c110, c111, c112, c113, c45, c3, c4]
  refine sfn_i (fun a5 h5 => ?_)
  have f3 : a5 3 = nI n3 := by rw [h5, cpyO (by omega), h3]
  have f4 : a5 4 = nI n4 := by rw [h5, cpyO (by omega), h4]
  have fr : a5 (44 + 3 * g + 1) = nI r := by rw [h5, cpyO (by omega), hr]
  refine sfg_i (by decide) (sfn_i (fun a6 h6 => ?_))
  have g3 : a6 3 = nI n3 := by rw [h6, upd_neP (by omega), f3]
  have g4 : a6 4 = nI n4 := by rw [h6, upd_neP (by omega), f4]
  have gr : a6 (44 + 3 * g + 1) = nI r := by rw [h6, upd_neP (by omega), fr]
  refine sfg_i (by decide) (sfn_i (fun a7 h7 => ?_))
  have k3 : a7 3 = nI n3 := by rw [h7, upd_neP (by omega), g3]
  have k4 : a7 4 = nI n4 := by rw [h7, upd_neP (by omega), g4]
  have kr : a7 (44 + 3 * g + 1) = nI r := by rw [h7, upd_neP (by omega), gr]
  refine sfg_i (by decide) (sfg_i (by decide) (sfn_i (fun a8 h8 => ?_)))
  rw [k3] at h8
  have l4 : a8 4 = nI n4 := by rw [h8, upd_neP (by omega), k4]
  have lr : a8 (44 + 3 * g + 1) = nI r := by rw [h8, upd_neP (by omega), kr]
  refine sfg_i (by decide) (sfg_i (by decide) (sfn_i (fun a9 h9 => ?_)))
  have hif : (if nI n4 + (1 : Int32) < (16 : Int32) then nI n4 + (1 : Int32) else (16 : Int32)) = nI (if n4 + 1 < 16 then n4 + 1 else 16) := by
    by_cases c : n4 + 1 < 16
    · rw [if_pos c, if_pos (by rw [il_1, nI_add, il_16, nI_ltP (by omega) (by omega)]; exact c), il_1, nI_add]
    · rw [if_neg c, if_neg (by rw [il_1, nI_add, il_16, nI_ltP (by omega) (by omega)]; exact c), il_16]
  rw [l4, hif] at h9
  have mr : a9 (44 + 3 * g + 1) = nI r := by rw [h9, upd_neP (by omega), lr]
  refine sfg_i ig (sfg_i ig (sfn_i (fun a10 h10 => ?_)))
  rw [mr, il_1, nI_add] at h10
  rw [h10, h9, h8, h7, h6, h5]
  generalize f_X12_drops _ p0 = z
  cases z <;> rfl
/-- a booking finishes -/
theorem fm_fin0 (h : MR M ms) {b : Nat} (hn : M 2 ≤ 12) (hb : b < M 2) (hg : zG M b < 10) (hs : zS M b < 4) (hw : zW M (zS M b) ≤ 9) (hF : M 4 ≤ 16) (z : zW M (zS M b) < 5) : f_X12_finishes ms (nI b) = f_X12_drops (zfv M ms b) (nI b) := by
  obtain ⟨h0, a1, a2, a3, a4, a5, a6, a7, a8, a9, a10, a11, a12⟩ := fm_all h
  have hwt := fm_wet9 ms hs hw
  have z1 : (nI (zW M (zS M b)) < (5 : Int32)) = True := eq_true (by rw [il_5, nI_ltP (by omega) (by omega)]; exact z)
  have e2 : nI (zW M (zS M b)) + (2 : Int32) = nI (zW M (zS M b) + 2) := by rw [il_2, nI_add]
  have hT := zTL_eq (p0 := nI b) (s := zS M b) (a := upd ms (8 + 9 * zS M b + 2) (nI (zfw (zW M (zS M b))))) hg ((upd_neP (by omega)).trans (h0 3 (by omega))) ((upd_neP (by omega)).trans (h0 4 (by omega))) hF ((upd_neP (by omega)).trans (h0 (44 + 3 * zG M b + 1) (by omega)))
  refine Eq.trans ?_ hT
  have b9 : f_X12_booking ms (nI b) (0 : Int32) = some (nI (zG M b)) := a9 b (by omega)
  have b10 : f_X12_booking ms (nI b) (1 : Int32) = some (nI (zS M b)) := a10 b (by omega)
  have b3 : f_X12_slide ms (nI (zS M b)) (2 : Int32) = some (nI (zW M (zS M b))) := a3 _ hs
  rw [f_X12_finishes, b9]
  simp only [sf_c1]
  rw [b10]
  simp only []
  rw [b3]
  simp only [sf_b, z1, if_true]
  rw [e2, hwt]
  rfl
theorem fm_fin1 (h : MR M ms) {b : Nat} (hn : M 2 ≤ 12) (hb : b < M 2) (hg : zG M b < 10) (hs : zS M b < 4) (hw : zW M (zS M b) ≤ 9) (hp : zP M (zS M b) ≤ 9) (hc : zP M (zS M b) ≤ M 7) (hF : M 4 ≤ 16) (z : ¬ zW M (zS M b) < 5) : f_X12_finishes ms (nI b) = f_X12_drops (zfv M (upd (upd (upd (upd ms (44 + 3 * zG M b) (nI (zC M (zG M b) + zP M (zS M b) / 2))) 7 (nI (M 7 - zP M (zS M b) / 2))) 6 (nI (M 6 + zP M (zS M b) / 2))) 5 (nI (M 5 + 1))) b) (nI b) := by
  obtain ⟨h0, a1, a2, a3, a4, a5, a6, a7, a8, a9, a10, a11, a12⟩ := fm_all h
  have eC : M (44 + 3 * zG M b) = zC M (zG M b) := rfl
  have hdv : zP M (zS M b) / 2 ≤ M 7 := by omega
  have hwt := fun ns => fm_wet9 ns hs hw
  have z1 : (nI (zW M (zS M b)) < (5 : Int32)) = False := eq_false (by rw [il_5, nI_ltP (by omega) (by omega)]; exact z)
  have e2 : nI (zW M (zS M b)) + (2 : Int32) = nI (zW M (zS M b) + 2) := by rw [il_2, nI_add]
  have hpay : f_X12_pays ms (nI (zG M b)) (-(nI (zP M (zS M b) / 2))) = some (upd (upd ms (44 + 3 * zG M b) (nI (zC M (zG M b) + zP M (zS M b) / 2))) 7 (nI (M 7 - zP M (zS M b) / 2))) := by
    simp (disch := omega) only [sf_g, sf_b, sf_n, sf_c0, sf_c1, sf_c2, sf_c3, sf_c4, sf_c5, sf_c6, il_0, il_1, il_2, il_3, il_4, il_5, il_6, il_7, il_8, il_9, il_10, il_11, il_12, il_16, il_20, il_32, il_44, il_45, il_48, il_50, il_57, il_59, il_60, il_64, il_74, il_98, il_99, il_100, il_108, il_109, il_110, il_111, il_112, il_113, il_115, il_119, il_120, il_158, il_255, il_1106, il_2147483647, nI_add, nI_mul, nI_sub, nI_clamp, nI_inT, nI_eqP, nI_leP, nI_ltP, nI_neP, nI_nnP, nI_nlP, nI_nltP, nI_nleP, nI_div, nI_subneg, nI_if, if_true, if_false, ite_true, ite_false, ↓reduceIte, nI_spos, nI_szero, Nat.add_zero, sf_t1, sf_c7, sf_c8, sf_c9, n1_0, n4_0, n4_1, f_X12_pays, upd_eqP, upd_neP, h0, eC, nI_addneg]
  generalize hN : upd (upd (upd (upd ms (44 + 3 * zG M b) (nI (zC M (zG M b) + zP M (zS M b) / 2))) 7 (nI (M 7 - zP M (zS M b) / 2))) 6 (nI (M 6 + zP M (zS M b) / 2))) 5 (nI (M 5 + 1)) = ns
  have k3 : ns 3 = nI (M 3) := by rw [← hN]; simp (disch := omega) only [upd_neP, h0]
  have k4 : ns 4 = nI (M 4) := by rw [← hN]; simp (disch := omega) only [upd_neP, h0]
  have kr : ns (44 + 3 * zG M b + 1) = nI (zR M (zG M b)) := by rw [← hN]; simp (disch := omega) only [upd_neP, h0, zR]
  have hT := zTL_eq (p0 := nI b) (s := zS M b) (a := upd ns (8 + 9 * zS M b + 2) (nI (zfw (zW M (zS M b))))) hg ((upd_neP (by omega)).trans k3) ((upd_neP (by omega)).trans k4) hF ((upd_neP (by omega)).trans kr)
  refine Eq.trans ?_ hT
  have b9 : f_X12_booking ms (nI b) (0 : Int32) = some (nI (zG M b)) := a9 b (by omega)
  have b10 : f_X12_booking ms (nI b) (1 : Int32) = some (nI (zS M b)) := a10 b (by omega)
  have b3 : f_X12_slide ms (nI (zS M b)) (2 : Int32) = some (nI (zW M (zS M b))) := a3 _ hs
  have b2 : f_X12_slide ms (nI (zS M b)) (1 : Int32) = some (nI (zP M (zS M b))) := a2 _ hs
  have hdiv : nI (zP M (zS M b)) / (2 : Int32) = nI (zP M (zS M b) / 2) := by rw [il_2, nI_div (by omega) (by omega) (by omega)]
  rw [f_X12_finishes, b9]
  simp only [sf_c1]
  rw [b10]
  simp only []
  rw [b3]
  simp only [sf_b, z1, if_false]
  rw [b2]
  simp only [sf_n]
  rw [hdiv, hpay]
  have i6 : (sf_in (6 : Int32) 158 = true) = True := eq_true (by decide)
  have i5 : (sf_in (5 : Int32) 158 = true) = True := eq_true (by decide)
  have c6 : (6 : Int32).toNatClampNeg = 6 := by decide
  have c5 : (5 : Int32).toNatClampNeg = 5 := by decide
  have r6 : upd (upd ms (44 + 3 * zG M b) (nI (zC M (zG M b) + zP M (zS M b) / 2))) 7 (nI (M 7 - zP M (zS M b) / 2)) 6 = nI (M 6) := by simp (disch := omega) only [upd_neP, h0]
  have r5 : upd (upd (upd ms (44 + 3 * zG M b) (nI (zC M (zG M b) + zP M (zS M b) / 2))) 7 (nI (M 7 - zP M (zS M b) / 2))) 6 (nI (M 6 + zP M (zS M b) / 2)) 5 = nI (M 5) := by simp (disch := omega) only [upd_neP, h0]
  simp only [sf_g, i6, i5, if_true, c6, c5, r6, nI_add]
  rw [r5, il_1, nI_add, hN, e2, hwt]
  rfl
theorem fm_fin (h : MR M ms) {b : Nat} (hn : M 2 ≤ 12) (hb : b < M 2) (hg : zG M b < 10) (hs : zS M b < 4) (hw : zW M (zS M b) ≤ 9) (hp : zP M (zS M b) ≤ 9) (hc : zP M (zS M b) ≤ M 7) (hF : M 4 ≤ 16) : ∃ ms', f_X12_finishes ms (nI b) = some ms' ∧ MR (zfn M b) ms' := by
  by_cases z : zW M (zS M b) < 5
  · rw [fm_fin0 h hn hb hg hs hw hF z, zfn, if_pos z]
    exact fm_drop9 h hn hb hs rfl
  · rw [fm_fin1 h hn hb hg hs hw hp hc hF z, zfn, if_neg z]
    have hs' : MR (zfs M b) (upd (upd (upd (upd ms (44 + 3 * zG M b) (nI (zC M (zG M b) + zP M (zS M b) / 2))) 7 (nI (M 7 - zP M (zS M b) / 2))) 6 (nI (M 6 + zP M (zS M b) / 2))) 5 (nI (M 5 + 1))) := (((h.upd _ _).upd _ _).upd _ _).upd _ _
    have e2 : zfs M b 2 = M 2 := by simp (disch := omega) only [zfs, zu_ne]
    exact fm_drop9 hs' hn hb hs e2
end MOD2
