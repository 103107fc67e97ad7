/-! the model: what its small methods answer -/
theorem fm_all {M : Nat → Nat} {ms : Nat → Int32} (h : MR M ms) : (∀ k, k < 158 → ms k = nI (M k)) ∧ (∀ s, s < 4 → f_X12_slide ms (nI s) (nI 0) = some (nI (zD M s))) ∧ (∀ s, s < 4 → f_X12_slide ms (nI s) (nI 1) = some (nI (zP M s))) ∧ (∀ s, s < 4 → f_X12_slide ms (nI s) (nI 2) = some (nI (zW M s))) ∧ (∀ s, s < 4 → f_X12_slide ms (nI s) (nI 3) = some (nI (zQ M s))) ∧ (∀ s j, s < 4 → j < 5 → f_X12_queued ms (nI s) (nI j) = some (nI (zq M s j))) ∧ (∀ g, g < 10 → f_X12_guest ms (nI g) (nI 0) = some (nI (zC M g))) ∧ (∀ g, g < 10 → f_X12_guest ms (nI g) (nI 1) = some (nI (zR M g))) ∧ (∀ g, g < 10 → f_X12_guest ms (nI g) (nI 2) = some (nI (zV M g))) ∧ (∀ k, k < 12 → f_X12_booking ms (nI k) (nI 0) = some (nI (zG M k))) ∧ (∀ k, k < 12 → f_X12_booking ms (nI k) (nI 1) = some (nI (zS M k))) ∧ (∀ k, k < 12 → f_X12_startOf ms (nI k) = some (nI (zT M k))) ∧ (∀ k, k < 12 → zS M k < 4 → f_X12_endOf ms (nI k) = some (nI (zE M k))) := by
  have h0 : ∀ k, k < 158 → ms k = nI (M k) := h
  refine ⟨h0, fun s hs => ?_, fun s hs => ?_, fun s hs => ?_, fun s hs => ?_, fun s j hs hj => ?_, fun s hs => ?_, fun s hs => ?_, fun s hs => ?_, fun s hs => ?_, fun s hs => ?_, fun s hs => ?_, fun s hs h4 => ?_⟩
  · simp (disch := omega) only [sf_g, sf_b, sf_n, sf_c0, sf_c1, sf_c2, sf_c3, sf_c4, sf_c5, sf_c6, il_0, il_1, il_2, il_3, il_4, il_5, il_6, il_7, il_8, il_9, il_10, il_11, il_12, il_16, il_20, il_32, il_44, il_45, il_48, il_50, il_57, il_59, il_60, il_64, il_74, il_98, il_99, il_100, il_108, il_109, il_110, il_111, il_112, il_113, il_115, il_119, il_120, il_158, il_255, il_1106, il_2147483647, nI_add, nI_mul, nI_sub, nI_clamp, nI_inT, nI_eqP, nI_leP, nI_ltP, nI_neP, nI_nnP, nI_nlP, nI_nltP, nI_nleP, nI_div, nI_subneg, nI_if, if_true, if_false, ite_true, ite_false, ↓reduceIte, nI_spos, nI_szero, Nat.add_zero, sf_t1, sf_c7, sf_c8, sf_c9, n1_0, n4_0, n4_1, f_X12_slide, h0, zD]
  · simp (disch := omega) only [sf_g, sf_b, sf_n, sf_c0, sf_c1, sf_c2, sf_c3, sf_c4, sf_c5, sf_c6, il_0, il_1, il_2, il_3, il_4, il_5, il_6, il_7, il_8, il_9, il_10, il_11, il_12, il_16, il_20, il_32, il_44, il_45, il_48, il_50, il_57, il_59, il_60, il_64, il_74, il_98, il_99, il_100, il_108, il_109, il_110, il_111, il_112, il_113, il_115, il_119, il_120, il_158, il_255, il_1106, il_2147483647, nI_add, nI_mul, nI_sub, nI_clamp, nI_inT, nI_eqP, nI_leP, nI_ltP, nI_neP, nI_nnP, nI_nlP, nI_nltP, nI_nleP, nI_div, nI_subneg, nI_if, if_true, if_false, ite_true, ite_false, ↓reduceIte, nI_spos, nI_szero, Nat.add_zero, sf_t1, sf_c7, sf_c8, sf_c9, n1_0, n4_0, n4_1, f_X12_slide, h0, zP]
  · simp (disch := omega) only [sf_g, sf_b, sf_n, sf_c0, sf_c1, sf_c2, sf_c3, sf_c4, sf_c5, sf_c6, il_0, il_1, il_2, il_3, il_4, il_5, il_6, il_7, il_8, il_9, il_10, il_11, il_12, il_16, il_20, il_32, il_44, il_45, il_48, il_50, il_57, il_59, il_60, il_64, il_74, il_98, il_99, il_100, il_108, il_109, il_110, il_111, il_112, il_113, il_115, il_119, il_120, il_158, il_255, il_1106, il_2147483647, nI_add, nI_mul, nI_sub, nI_clamp, nI_inT, nI_eqP, nI_leP, nI_ltP, nI_neP, nI_nnP, nI_nlP, nI_nltP, nI_nleP, nI_div, nI_subneg, nI_if, if_true, if_false, ite_true, ite_false, ↓reduceIte, nI_spos, nI_szero, Nat.add_zero, sf_t1, sf_c7, sf_c8, sf_c9, n1_0, n4_0, n4_1, f_X12_slide, h0, zW]
  · simp (disch := omega) only [sf_g, sf_b, sf_n, sf_c0, sf_c1, sf_c2, sf_c3, sf_c4, sf_c5, sf_c6, il_0, il_1, il_2, il_3, il_4, il_5, il_6, il_7, il_8, il_9, il_10, il_11, il_12, il_16, il_20, il_32, il_44, il_45, il_48, il_50, il_57, il_59, il_60, il_64, il_74, il_98, il_99, il_100, il_108, il_109, il_110, il_111, il_112, il_113, il_115, il_119, il_120, il_158, il_255, il_1106, il_2147483647, nI_add, nI_mul, nI_sub, nI_clamp, nI_inT, nI_eqP, nI_leP, nI_ltP, nI_neP, nI_nnP, nI_nlP, nI_nltP, nI_nleP, nI_div, nI_subneg, nI_if, if_true, if_false, ite_true, ite_false, ↓reduceIte, nI_spos, nI_szero, Nat.add_zero, sf_t1, sf_c7, sf_c8, sf_c9, n1_0, n4_0, n4_1, f_X12_slide, h0, zQ]
  · simp (disch := omega) only [sf_g, sf_b, sf_n, sf_c0, sf_c1, sf_c2, sf_c3, sf_c4, sf_c5, sf_c6, il_0, il_1, il_2, il_3, il_4, il_5, il_6, il_7, il_8, il_9, il_10, il_11, il_12, il_16, il_20, il_32, il_44, il_45, il_48, il_50, il_57, il_59, il_60, il_64, il_74, il_98, il_99, il_100, il_108, il_109, il_110, il_111, il_112, il_113, il_115, il_119, il_120, il_158, il_255, il_1106, il_2147483647, nI_add, nI_mul, nI_sub, nI_clamp, nI_inT, nI_eqP, nI_leP, nI_ltP, nI_neP, nI_nnP, nI_nlP, nI_nltP, nI_nleP, nI_div, nI_subneg, nI_if, if_true, if_false, ite_true, ite_false, ↓reduceIte, nI_spos, nI_szero, Nat.add_zero, sf_t1, sf_c7, sf_c8, sf_c9, n1_0, n4_0, n4_1, f_X12_queued, f_X12_slide, h0, zq]
  · simp (disch := omega) only [sf_g, sf_b, sf_n, sf_c0, sf_c1, sf_c2, sf_c3, sf_c4, sf_c5, sf_c6, il_0, il_1, il_2, il_3, il_4, il_5, il_6, il_7, il_8, il_9, il_10, il_11, il_12, il_16, il_20, il_32, il_44, il_45, il_48, il_50, il_57, il_59, il_60, il_64, il_74, il_98, il_99, il_100, il_108, il_109, il_110, il_111, il_112, il_113, il_115, il_119, il_120, il_158, il_255, il_1106, il_2147483647, nI_add, nI_mul, nI_sub, nI_clamp, nI_inT, nI_eqP, nI_leP, nI_ltP, nI_neP, nI_nnP, nI_nlP, nI_nltP, nI_nleP, nI_div, nI_subneg, nI_if, if_true, if_false, ite_true, ite_false, ↓reduceIte, nI_spos, nI_szero, Nat.add_zero, sf_t1, sf_c7, sf_c8, sf_c9, n1_0, n4_0, n4_1, f_X12_guest, h0, zC]
  · simp (disch := omega) only [sf_g, sf_b, sf_n, sf_c0, sf_c1, sf_c2, sf_c3, sf_c4, sf_c5, sf_c6, il_0, il_1, il_2, il_3, il_4, il_5, il_6, il_7, il_8, il_9, il_10, il_11, il_12, il_16, il_20, il_32, il_44, il_45, il_48, il_50, il_57, il_59, il_60, il_64, il_74, il_98, il_99, il_100, il_108, il_109, il_110, il_111, il_112, il_113, il_115, il_119, il_120, il_158, il_255, il_1106, il_2147483647, nI_add, nI_mul, nI_sub, nI_clamp, nI_inT, nI_eqP, nI_leP, nI_ltP, nI_neP, nI_nnP, nI_nlP, nI_nltP, nI_nleP, nI_div, nI_subneg, nI_if, if_true, if_false, ite_true, ite_false, ↓reduceIte, nI_spos, nI_szero, Nat.add_zero, sf_t1, sf_c7, sf_c8, sf_c9, n1_0, n4_0, n4_1, f_X12_guest, h0, zR]
  · simp (disch := omega) only [sf_g, sf_b, sf_n, sf_c0, sf_c1, sf_c2, sf_c3, sf_c4, sf_c5, sf_c6, il_0, il_1, il_2, il_3, il_4, il_5, il_6, il_7, il_8, il_9, il_10, il_11, il_12, il_16, il_20, il_32, il_44, il_45, il_48, il_50, il_57, il_59, il_60, il_64, il_74, il_98, il_99, il_100, il_108, il_109, il_110, il_111, il_112, il_113, il_115, il_119, il_120, il_158, il_255, il_1106, il_2147483647, nI_add, nI_mul, nI_sub, nI_clamp, nI_inT, nI_eqP, nI_leP, nI_ltP, nI_neP, nI_nnP, nI_nlP, nI_nltP, nI_nleP, nI_div, nI_subneg, nI_if, if_true, if_false, ite_true, ite_false, ↓reduceIte, nI_spos, nI_szero, Nat.add_zero, sf_t1, sf_c7, sf_c8, sf_c9, n1_0, n4_0, n4_1, f_X12_guest, h0, zV]
  · simp (disch := omega) only [sf_g, sf_b, sf_n, sf_c0, sf_c1, sf_c2, sf_c3, sf_c4, sf_c5, sf_c6, il_0, il_1, il_2, il_3, il_4, il_5, il_6, il_7, il_8, il_9, il_10, il_11, il_12, il_16, il_20, il_32, il_44, il_45, il_48, il_50, il_57, il_59, il_60, il_64, il_74, il_98, il_99, il_100, il_108, il_109, il_110, il_111, il_112, il_113, il_115, il_119, il_120, il_158, il_255, il_1106, il_2147483647, nI_add, nI_mul, nI_sub, nI_clamp, nI_inT, nI_eqP, nI_leP, nI_ltP, nI_neP, nI_nnP, nI_nlP, nI_nltP, nI_nleP, nI_div, nI_subneg, nI_if, if_true, if_false, ite_true, ite_false, ↓reduceIte, nI_spos, nI_szero, Nat.add_zero, sf_t1, sf_c7, sf_c8, sf_c9, n1_0, n4_0, n4_1, f_X12_booking, h0, zG]
  · simp (disch := omega) only [sf_g, sf_b, sf_n, sf_c0, sf_c1, sf_c2, sf_c3, sf_c4, sf_c5, sf_c6, il_0, il_1, il_2, il_3, il_4, il_5, il_6, il_7, il_8, il_9, il_10, il_11, il_12, il_16, il_20, il_32, il_44, il_45, il_48, il_50, il_57, il_59, il_60, il_64, il_74, il_98, il_99, il_100, il_108, il_109, il_110, il_111, il_112, il_113, il_115, il_119, il_120, il_158, il_255, il_1106, il_2147483647, nI_add, nI_mul, nI_sub, nI_clamp, nI_inT, nI_eqP, nI_leP, nI_ltP, nI_neP, nI_nnP, nI_nlP, nI_nltP, nI_nleP, nI_div, nI_subneg, nI_if, if_true, if_false, ite_true, ite_false, ↓reduceIte, nI_spos, nI_szero, Nat.add_zero, sf_t1, sf_c7, sf_c8, sf_c9, n1_0, n4_0, n4_1, f_X12_booking, h0, zS]
  · simp (disch := omega) only [sf_g, sf_b, sf_n, sf_c0, sf_c1, sf_c2, sf_c3, sf_c4, sf_c5, sf_c6, il_0, il_1, il_2, il_3, il_4, il_5, il_6, il_7, il_8, il_9, il_10, il_11, il_12, il_16, il_20, il_32, il_44, il_45, il_48, il_50, il_57, il_59, il_60, il_64, il_74, il_98, il_99, il_100, il_108, il_109, il_110, il_111, il_112, il_113, il_115, il_119, il_120, il_158, il_255, il_1106, il_2147483647, nI_add, nI_mul, nI_sub, nI_clamp, nI_inT, nI_eqP, nI_leP, nI_ltP, nI_neP, nI_nnP, nI_nlP, nI_nltP, nI_nleP, nI_div, nI_subneg, nI_if, if_true, if_false, ite_true, ite_false, ↓reduceIte, nI_spos, nI_szero, Nat.add_zero, sf_t1, sf_c7, sf_c8, sf_c9, n1_0, n4_0, n4_1, f_X12_startOf, f_X12_booking, h0, zT]
  · rw [zS] at h4
    simp (disch := omega) only [sf_g, sf_b, sf_n, sf_c0, sf_c1, sf_c2, sf_c3, sf_c4, sf_c5, sf_c6, il_0, il_1, il_2, il_3, il_4, il_5, il_6, il_7, il_8, il_9, il_10, il_11, il_12, il_16, il_20, il_32, il_44, il_45, il_48, il_50, il_57, il_59, il_60, il_64, il_74, il_98, il_99, il_100, il_108, il_109, il_110, il_111, il_112, il_113, il_115, il_119, il_120, il_158, il_255, il_1106, il_2147483647, nI_add, nI_mul, nI_sub, nI_clamp, nI_inT, nI_eqP, nI_leP, nI_ltP, nI_neP, nI_nnP, nI_nlP, nI_nltP, nI_nleP, nI_div, nI_subneg, nI_if, if_true, if_false, ite_true, ite_false, ↓reduceIte, nI_spos, nI_szero, Nat.add_zero, sf_t1, sf_c7, sf_c8, sf_c9, n1_0, n4_0, n4_1, f_X12_endOf, f_X12_startOf, f_X12_booking, f_X12_slide, h0, zE, zT, zD, zS]
theorem fm_ri {x a b : Nat} (hx : x < 2 ^ 31) (ha : a < 2 ^ 31) (hb : b < 2 ^ 31) : ((a ≤ x ∧ x ≤ b) → f_X12_in (nI x) (nI a) (nI b) = some (nI 1)) ∧ (¬ (a ≤ x ∧ x ≤ b) → f_X12_in (nI x) (nI a) (nI b) = some (nI 0)) := by
  constructor
  · intro c
    have c1 : ¬ x < a := by omega
    have c2 : ¬ b < x := by omega
    simp (disch := omega) only [sf_g, sf_b, sf_n, sf_c0, sf_c1, sf_c2, sf_c3, sf_c4, sf_c5, sf_c6, il_0, il_1, il_2, il_3, il_4, il_5, il_6, il_7, il_8, il_9, il_10, il_11, il_12, il_16, il_20, il_32, il_44, il_45, il_48, il_50, il_57, il_59, il_60, il_64, il_74, il_98, il_99, il_100, il_108, il_109, il_110, il_111, il_112, il_113, il_115, il_119, il_120, il_158, il_255, il_1106, il_2147483647, nI_add, nI_mul, nI_sub, nI_clamp, nI_inT, nI_eqP, nI_leP, nI_ltP, nI_neP, nI_nnP, nI_nlP, nI_nltP, nI_nleP, nI_div, nI_subneg, nI_if, if_true, if_false, ite_true, ite_false, ↓reduceIte, nI_spos, nI_szero, Nat.add_zero, sf_t1, sf_c7, sf_c8, sf_c9, n1_0, n4_0, n4_1, f_X12_in, c1, c2]
  · intro c
    by_cases c1 : x < a
    · simp (disch := omega) only [sf_g, sf_b, sf_n, sf_c0, sf_c1, sf_c2, sf_c3, sf_c4, sf_c5, sf_c6, il_0, il_1, il_2, il_3, il_4, il_5, il_6, il_7, il_8, il_9, il_10, il_11, il_12, il_16, il_20, il_32, il_44, il_45, il_48, il_50, il_57, il_59, il_60, il_64, il_74, il_98, il_99, il_100, il_108, il_109, il_110, il_111, il_112, il_113, il_115, il_119, il_120, il_158, il_255, il_1106, il_2147483647, nI_add, nI_mul, nI_sub, nI_clamp, nI_inT, nI_eqP, nI_leP, nI_ltP, nI_neP, nI_nnP, nI_nlP, nI_nltP, nI_nleP, nI_div, nI_subneg, nI_if, if_true, if_false, ite_true, ite_false, ↓reduceIte, nI_spos, nI_szero, Nat.add_zero, sf_t1, sf_c7, sf_c8, sf_c9, n1_0, n4_0, n4_1, f_X12_in, c1]
    · have c2 : b < x := by omega
      simp (disch := omega) only [sf_g, sf_b, sf_n, sf_c0, sf_c1, sf_c2, sf_c3, sf_c4, sf_c5, sf_c6, il_0, il_1, il_2, il_3, il_4, il_5, il_6, il_7, il_8, il_9, il_10, il_11, il_12, il_16, il_20, il_32, il_44, il_45, il_48, il_50, il_57, il_59, il_60, il_64, il_74, il_98, il_99, il_100, il_108, il_109, il_110, il_111, il_112, il_113, il_115, il_119, il_120, il_158, il_255, il_1106, il_2147483647, nI_add, nI_mul, nI_sub, nI_clamp, nI_inT, nI_eqP, nI_leP, nI_ltP, nI_neP, nI_nnP, nI_nlP, nI_nltP, nI_nleP, nI_div, nI_subneg, nI_if, if_true, if_false, ite_true, ite_false, ↓reduceIte, nI_spos, nI_szero, Nat.add_zero, sf_t1, sf_c7, sf_c8, sf_c9, n1_0, n4_0, n4_1, f_X12_in, c1, c2]
def zMB (M : Nat → Nat) : Prop := M 2 ≤ 12 ∧ ∀ k, k < M 2 → zG M k < 100 ∧ zS M k < 4 ∧ zT M k < 100000000 ∧ zE M k < 100000000 ∧ zT M k < zE M k
/-- the last number below n that satisfies P, or 99 -/
def zla (P : Nat → Bool) : Nat → Nat
  | 0 => 99
  | j + 1 => if P j = true then j else zla P j
theorem zla_lt {P : Nat → Bool} : ∀ {n : Nat}, zla P n = 99 ∨ zla P n < n ∧ P (zla P n) = true
  | 0 => Or.inl rfl
  | n + 1 => by
    rw [zla]
    split
    · rename_i h; exact Or.inr ⟨by omega, h⟩
    · rcases zla_lt (P := P) (n := n) with h | h
      · exact Or.inl h
      · exact Or.inr ⟨by omega, h.2⟩
theorem zla_none {P : Nat → Bool} : ∀ {n : Nat}, (∀ k, k < n → P k = false) → zla P n = 99
  | 0, _ => rfl
  | n + 1, h => by
    rw [zla, if_neg (by simp [h n (by omega)])]
    exact zla_none (fun k hk => h k (by omega))
theorem zla_one {P : Nat → Bool} : ∀ {n b : Nat}, b < n → P b = true → (∀ k, k < n → P k = true → k = b) → zla P n = b
  | 0, b, h, _, _ => absurd h (Nat.not_lt_zero b)
  | n + 1, b, h, hb, hu => by
    rw [zla]
    split
    · rename_i hn; exact hu n (by omega) hn
    · rename_i hn
      refine zla_one ?_ hb (fun k hk => hu k (by omega))
      rcases Nat.lt_or_ge b n with z | z
      · exact z
      · have : b = n := by omega
        subst this; exact absurd hb hn
section MODB
variable {M : Nat → Nat} {ms : Nat → Int32}
set_option maxHeartbeats 2000000 in
theorem lm_clash (h : MR M ms) (hB : zMB M) {g s t e : Nat} {p0 : Int32} (hp : ∀ x, x < 100 → (nI x = p0) = (x = g)) (hs : s < 100) (ht : t < 100000000) (he : e < 100000000) {k : Int32 → Option Int32} : ∀ m j, j ≤ M 2 → M 2 - j < m → f_X12_clashes_L16 ms p0 (nI s) (nI t) (nI e) k m (nI j) (nI (if zc (zPa (zG M) (zS M) (zT M) (zE M) g s t e) j = 0 then 0 else 1)) = k (nI (if zc (zPa (zG M) (zS M) (zT M) (zE M) g s t e) (M 2) = 0 then 0 else 1)) := by
  obtain ⟨h0, a1, a2, a3, a4, a5, a6, a7, a8, a9, a10, a11, a12⟩ := fm_all h
  have hn := hB.1
  intro m
  induction m with
  | zero => intro j hj hm; omega
  | succ m ih =>
    intro j hj hm
    rw [f_X12_clashes_L16]
    rcases Nat.lt_or_ge j (M 2) with z | z
    · obtain ⟨b1, b2, b3, b4, b5⟩ := hB.2 j z
      have hnj : ¬ M 2 ≤ j := by omega
      have hpj := hp (zG M j) b1
      have ih1 := ih (j + 1) (by omega) (by omega)
      rcases Nat.eq_zero_or_pos (zc (zPa (zG M) (zS M) (zT M) (zE M) g s t e) j) with y | y
      · rw [if_pos y]
        have no : zPa (zG M) (zS M) (zT M) (zE M) g s t e j = false → f_X12_clashes_L16 ms p0 (nI s) (nI t) (nI e) k m (nI (j + 1)) (nI 0) = k (nI (if zc (zPa (zG M) (zS M) (zT M) (zE M) g s t e) (M 2) = 0 then 0 else 1)) := fun hf => by rw [← ih1, zc_f (P := zPa (zG M) (zS M) (zT M) (zE M) g s t e) hf, if_pos y]
        have yes : zPa (zG M) (zS M) (zT M) (zE M) g s t e j = true → f_X12_clashes_L16 ms p0 (nI s) (nI t) (nI e) k m (nI (j + 1)) (nI 1) = k (nI (if zc (zPa (zG M) (zS M) (zT M) (zE M) g s t e) (M 2) = 0 then 0 else 1)) := fun hf => by rw [← ih1, zc_t (P := zPa (zG M) (zS M) (zT M) (zE M) g s t e) hf, if_neg (by omega)]
        generalize k (nI (if zc (zPa (zG M) (zS M) (zT M) (zE M) g s t e) (M 2) = 0 then 0 else 1)) = Z at no yes ⊢
        simp (disch := omega) only [sf_g, sf_b, sf_n, sf_c0, sf_c1, sf_c2, sf_c3, sf_c4, sf_c5, sf_c6, il_0, il_1, il_2, il_3, il_4, il_5, il_6, il_7, il_8, il_9, il_10, il_11, il_12, il_16, il_20, il_32, il_44, il_45, il_48, il_50, il_57, il_59, il_60, il_64, il_74, il_98, il_99, il_100, il_108, il_109, il_110, il_111, il_112, il_113, il_115, il_119, il_120, il_158, il_255, il_1106, il_2147483647, nI_add, nI_mul, nI_sub, nI_clamp, nI_inT, nI_eqP, nI_leP, nI_ltP, nI_neP, nI_nnP, nI_nlP, nI_nltP, nI_nleP, nI_div, nI_subneg, nI_if, if_true, if_false, ite_true, ite_false, ↓reduceIte, nI_spos, nI_szero, Nat.add_zero, sf_t1, sf_c7, sf_c8, sf_c9, n1_0, n4_0, n4_1, hnj, h0, a10, a11, a12, a9, hpj]
        repeat' split
        all_goals first
          | exact no (decide_eq_false (by omega))
          | exact yes (decide_eq_true (by omega))
      · have hy : zc (zPa (zG M) (zS M) (zT M) (zE M) g s t e) (j + 1) ≠ 0 := by
          rw [zc]; omega
        rw [if_neg (by omega)]
        rw [if_neg hy] at ih1
        generalize k (nI (if zc (zPa (zG M) (zS M) (zT M) (zE M) g s t e) (M 2) = 0 then 0 else 1)) = Z at ih1 ⊢
        simp (disch := omega) only [sf_g, sf_b, sf_n, sf_c0, sf_c1, sf_c2, sf_c3, sf_c4, sf_c5, sf_c6, il_0, il_1, il_2, il_3, il_4, il_5, il_6, il_7, il_8, il_9, il_10, il_11, il_12, il_16, il_20, il_32, il_44, il_45, il_48, il_50, il_57, il_59, il_60, il_64, il_74, il_98, il_99, il_100, il_108, il_109, il_110, il_111, il_112, il_113, il_115, il_119, il_120, il_158, il_255, il_1106, il_2147483647, nI_add, nI_mul, nI_sub, nI_clamp, nI_inT, nI_eqP, nI_leP, nI_ltP, nI_neP, nI_nnP, nI_nlP, nI_nltP, nI_nleP, nI_div, nI_subneg, nI_if, if_true, if_false, ite_true, ite_false, ↓reduceIte, nI_spos, nI_szero, Nat.add_zero, sf_t1, sf_c7, sf_c8, sf_c9, n1_0, n4_0, n4_1, hnj, h0, a10, a9, hpj, (by decide : ¬ (1 : Nat) = 0)]
        repeat' split
        all_goals exact ih1
    · have e : j = M 2 := by omega
      rw [e]
      simp (disch := omega) only [sf_g, sf_b, sf_n, sf_c0, sf_c1, sf_c2, sf_c3, sf_c4, sf_c5, sf_c6, il_0, il_1, il_2, il_3, il_4, il_5, il_6, il_7, il_8, il_9, il_10, il_11, il_12, il_16, il_20, il_32, il_44, il_45, il_48, il_50, il_57, il_59, il_60, il_64, il_74, il_98, il_99, il_100, il_108, il_109, il_110, il_111, il_112, il_113, il_115, il_119, il_120, il_158, il_255, il_1106, il_2147483647, nI_add, nI_mul, nI_sub, nI_clamp, nI_inT, nI_eqP, nI_leP, nI_ltP, nI_neP, nI_nnP, nI_nlP, nI_nltP, nI_nleP, nI_div, nI_subneg, nI_if, if_true, if_false, ite_true, ite_false, ↓reduceIte, nI_spos, nI_szero, Nat.add_zero, sf_t1, sf_c7, sf_c8, sf_c9, n1_0, n4_0, n4_1, h0, Nat.le_refl]
theorem fm_clash (h : MR M ms) (hB : zMB M) {g s t : Nat} {p0 : Int32} (hp : ∀ x, x < 100 → (nI x = p0) = (x = g)) (hs : s < 4) (ht : t < 90000000) (hd : zD M s < 100) : f_X12_clashes ms p0 (nI s) (nI t) = some (nI (if zc (zPa (zG M) (zS M) (zT M) (zE M) g s t (t + zD M s)) (M 2) = 0 then 0 else 1)) := by
  obtain ⟨h0, a1, a2, a3, a4, a5, a6, a7, a8, a9, a10, a11, a12⟩ := fm_all h
  have hn := hB.1
  rw [f_X12_clashes, il_0, a1 s hs]
  simp only [sf_c1, sf_n, nI_add]
  have h8 := lm_clash h hB hp (s := s) (t := t) (e := t + zD M s) (by omega) (by omega) (by omega) (k := fun y_21 => sf_g (y_21 = nI 0 ∨ y_21 = 1) (some y_21)) 2000 0 (Nat.zero_le _) (by omega)
  refine Eq.trans h8 ?_
  split <;> rfl
set_option maxHeartbeats 1000000 in
theorem lm_during (h : MR M ms) (hB : zMB M) {s t : Nat} (hs : s < 100) (ht : t < 100000000) {k : Int32 → Option Int32} : ∀ m j, j ≤ M 2 → M 2 - j < m → f_X12_during_L5 ms (nI s) (nI t) k m (nI j) (zio (zla (zPo (zS M) (zT M) (zE M) s t) j)) = k (zio (zla (zPo (zS M) (zT M) (zE M) s t) (M 2))) := by
  obtain ⟨h0, a1, a2, a3, a4, a5, a6, a7, a8, a9, a10, a11, a12⟩ := fm_all h
  have hn := hB.1
  intro m
  induction m with
  | zero => intro j hj hm; omega
  | succ m ih =>
    intro j hj hm
    rw [f_X12_during_L5]
    rcases Nat.lt_or_ge j (M 2) with z | z
    · obtain ⟨b1, b2, b3, b4, b5⟩ := hB.2 j z
      have hnj : ¬ M 2 ≤ j := by omega
      have ih1 := ih (j + 1) (by omega) (by omega)
      have no : zPo (zS M) (zT M) (zE M) s t j = false → f_X12_during_L5 ms (nI s) (nI t) k m (nI (j + 1)) (zio (zla (zPo (zS M) (zT M) (zE M) s t) j)) = k (zio (zla (zPo (zS M) (zT M) (zE M) s t) (M 2))) := fun hf => by rw [← ih1, zla, if_neg (by simp [hf])]
      have yes : zPo (zS M) (zT M) (zE M) s t j = true → f_X12_during_L5 ms (nI s) (nI t) k m (nI (j + 1)) (nI j) = k (zio (zla (zPo (zS M) (zT M) (zE M) s t) (M 2))) := fun hf => by rw [← ih1, zla, if_pos hf, zio_c (by omega)]
      by_cases c : zT M j ≤ t ∧ t ≤ zE M j - 1
      · have hmt := (fm_ri (x := t) (a := zT M j) (b := zE M j - 1) (by omega) (by omega) (by omega)).1 c
        simp (disch := omega) only [sf_g, sf_b, sf_n, sf_c0, sf_c1, sf_c2, sf_c3, sf_c4, sf_c5, sf_c6, il_0, il_1, il_2, il_3, il_4, il_5, il_6, il_7, il_8, il_9, il_10, il_11, il_12, il_16, il_20, il_32, il_44, il_45, il_48, il_50, il_57, il_59, il_60, il_64, il_74, il_98, il_99, il_100, il_108, il_109, il_110, il_111, il_112, il_113, il_115, il_119, il_120, il_158, il_255, il_1106, il_2147483647, nI_add, nI_mul, nI_sub, nI_clamp, nI_inT, nI_eqP, nI_leP, nI_ltP, nI_neP, nI_nnP, nI_nlP, nI_nltP, nI_nleP, nI_div, nI_subneg, nI_if, if_true, if_false, ite_true, ite_false, ↓reduceIte, nI_spos, nI_szero, Nat.add_zero, sf_t1, sf_c7, sf_c8, sf_c9, n1_0, n4_0, n4_1, hmt, hnj, h0, a10, a11, a12]
        repeat' split
        all_goals first
          | exact no (decide_eq_false (by omega))
          | exact yes (decide_eq_true (by omega))
      · have hmt := (fm_ri (x := t) (a := zT M j) (b := zE M j - 1) (by omega) (by omega) (by omega)).2 c
        simp (disch := omega) only [sf_g, sf_b, sf_n, sf_c0, sf_c1, sf_c2, sf_c3, sf_c4, sf_c5, sf_c6, il_0, il_1, il_2, il_3, il_4, il_5, il_6, il_7, il_8, il_9, il_10, il_11, il_12, il_16, il_20, il_32, il_44, il_45, il_48, il_50, il_57, il_59, il_60, il_64, il_74, il_98, il_99, il_100, il_108, il_109, il_110, il_111, il_112, il_113, il_115, il_119, il_120, il_158, il_255, il_1106, il_2147483647, nI_add, nI_mul, nI_sub, nI_clamp, nI_inT, nI_eqP, nI_leP, nI_ltP, nI_neP, nI_nnP, nI_nlP, nI_nltP, nI_nleP, nI_div, nI_subneg, nI_if, if_true, if_false, ite_true, ite_false, ↓reduceIte, nI_spos, nI_szero, Nat.add_zero, sf_t1, sf_c7, sf_c8, sf_c9, n1_0, n4_0, n4_1, hmt, hnj, h0, a10, a11, a12]
        repeat' split
        all_goals first
          | exact no (decide_eq_false (by omega))
          | exact yes (decide_eq_true (by omega))
    · have e : j = M 2 := by omega
      rw [e]
      simp (disch := omega) only [sf_g, sf_b, sf_n, sf_c0, sf_c1, sf_c2, sf_c3, sf_c4, sf_c5, sf_c6, il_0, il_1, il_2, il_3, il_4, il_5, il_6, il_7, il_8, il_9, il_10, il_11, il_12, il_16, il_20, il_32, il_44, il_45, il_48, il_50, il_57, il_59, il_60, il_64, il_74, il_98, il_99, il_100, il_108, il_109, il_110, il_111, il_112, il_113, il_115, il_119, il_120, il_158, il_255, il_1106, il_2147483647, nI_add, nI_mul, nI_sub, nI_clamp, nI_inT, nI_eqP, nI_leP, nI_ltP, nI_neP, nI_nnP, nI_nlP, nI_nltP, nI_nleP, nI_div, nI_subneg, nI_if, if_true, if_false, ite_true, ite_false, ↓reduceIte, nI_spos, nI_szero, Nat.add_zero, sf_t1, sf_c7, sf_c8, sf_c9, n1_0, n4_0, n4_1, h0, Nat.le_refl]
theorem fm_during (h : MR M ms) (hB : zMB M) {s t : Nat} (hs : s < 100) (ht : t < 100000000) : f_X12_during ms (nI s) (nI t) = some (zio (zla (zPo (zS M) (zT M) (zE M) s t) (M 2))) := lm_during h hB hs ht 2000 0 (Nat.zero_le _) (by have := hB.1; omega)
set_option maxHeartbeats 1000000 in
theorem lm_rk1 (h : MR M ms) (hB : zMB M) {b : Nat} (hb : b < M 2) {k : Int32 → Option Int32} : ∀ m j, j ≤ M 2 → M 2 - j < m → f_X12_ranked_L20 ms (nI b) k m (nI j) (nI (zc (fun i => zbf (zS M) (zT M) i b) j)) = k (nI (zrk (zbf (zS M) (zT M)) (M 2) b)) := by
  obtain ⟨h0, a1, a2, a3, a4, a5, a6, a7, a8, a9, a10, a11, a12⟩ := fm_all h
  have hn := hB.1
  obtain ⟨c1, c2, c3, c4, c5⟩ := hB.2 b hb
  intro m
  induction m with
  | zero => intro j hj hm; omega
  | succ m ih =>
    intro j hj hm
    rw [f_X12_ranked_L20]
    rcases Nat.lt_or_ge j (M 2) with z | z
    · obtain ⟨b1, b2, b3, b4, b5⟩ := hB.2 j z
      have hnj : ¬ M 2 ≤ j := by omega
      have ih1 := ih (j + 1) (by omega) (by omega)
      have no : zbf (zS M) (zT M) j b = false → f_X12_ranked_L20 ms (nI b) k m (nI (j + 1)) (nI (zc (fun i => zbf (zS M) (zT M) i b) j)) = k (nI (zrk (zbf (zS M) (zT M)) (M 2) b)) := fun hf => by rw [← ih1, zc_f (P := fun i => zbf (zS M) (zT M) i b) hf]
      have yes : zbf (zS M) (zT M) j b = true → f_X12_ranked_L20 ms (nI b) k m (nI (j + 1)) (nI (zc (fun i => zbf (zS M) (zT M) i b) j + 1)) = k (nI (zrk (zbf (zS M) (zT M)) (M 2) b)) := fun hf => by rw [← ih1, zc_t (P := fun i => zbf (zS M) (zT M) i b) hf]
      generalize k (nI (zrk (zbf (zS M) (zT M)) (M 2) b)) = Z at no yes ⊢
      simp (disch := omega) only [sf_g, sf_b, sf_n, sf_c1, il_0, il_1, il_2, nI_add, nI_clamp, nI_inT, nI_leP, nI_spos, nI_szero, Nat.add_zero, if_true, if_false, hnj, h0, a10, a11]
      repeat' split
      all_goals first
        | exact no (decide_eq_false (by omega))
        | exact yes (decide_eq_true (by omega))
    · have e : j = M 2 := by omega
      rw [e]
      simp (disch := omega) only [sf_g, sf_b, sf_n, sf_c0, sf_c1, sf_c2, sf_c3, sf_c4, sf_c5, sf_c6, il_0, il_1, il_2, il_3, il_4, il_5, il_6, il_7, il_8, il_9, il_10, il_11, il_12, il_16, il_20, il_32, il_44, il_45, il_48, il_50, il_57, il_59, il_60, il_64, il_74, il_98, il_99, il_100, il_108, il_109, il_110, il_111, il_112, il_113, il_115, il_119, il_120, il_158, il_255, il_1106, il_2147483647, nI_add, nI_mul, nI_sub, nI_clamp, nI_inT, nI_eqP, nI_leP, nI_ltP, nI_neP, nI_nnP, nI_nlP, nI_nltP, nI_nleP, nI_div, nI_subneg, nI_if, if_true, if_false, ite_true, ite_false, ↓reduceIte, nI_spos, nI_szero, Nat.add_zero, sf_t1, sf_c7, sf_c8, sf_c9, n1_0, n4_0, n4_1, h0, Nat.le_refl]
      rfl
theorem lm_rk2 (h : MR M ms) (hB : zMB M) {r : Nat} (hr : r < 100) {k : Int32 → Option Int32} : ∀ m j, j ≤ M 2 → M 2 - j < m → f_X12_ranked_L4 ms (nI r) k m (nI j) (zio (zla (fun b => decide (zrk (zbf (zS M) (zT M)) (M 2) b = r)) j)) = k (zio (zla (fun b => decide (zrk (zbf (zS M) (zT M)) (M 2) b = r)) (M 2))) := by
  have h0 : ∀ k, k < 158 → ms k = nI (M k) := h
  have hn := hB.1
  intro m
  induction m with
  | zero => intro j hj hm; omega
  | succ m ih =>
    intro j hj hm
    rw [f_X12_ranked_L4]
    rcases Nat.lt_or_ge j (M 2) with z | z
    · have hnj : ¬ M 2 ≤ j := by omega
      have ih1 := ih (j + 1) (by omega) (by omega)
      have hrk : zrk (zbf (zS M) (zT M)) (M 2) j ≤ 12 := Nat.le_trans zc_le hn
      have h8 := lm_rk1 h hB z (k := fun y_18 => sf_b (y_18 = nI r) (sf_n (nI j + 1) (fun x_20 => f_X12_ranked_L4 ms (nI r) k m x_20 (nI j))) (sf_n (nI j + 1) (fun x_19 => f_X12_ranked_L4 ms (nI r) k m x_19 (zio (zla (fun b => decide (zrk (zbf (zS M) (zT M)) (M 2) b = r)) j))))) 2000 0 (Nat.zero_le _) (by omega)
      have hc : (ms (2 : Int32).toNatClampNeg ≤ nI j) = False := eq_false (by rw [il_2, nI_clamp (by omega), h0 2 (by omega), nI_leP (by omega) (by omega)]; omega)
      rw [sf_g, if_pos (by decide), sf_b]
      simp only [hc, if_false]
      refine Eq.trans h8 ?_
      rw [zla] at ih1
      have e3 : (nI (zrk (zbf (zS M) (zT M)) (M 2) j) = nI r) = (zrk (zbf (zS M) (zT M)) (M 2) j = r) := nI_eqP (by omega) (by omega)
      simp only [sf_b, sf_n, il_1, nI_add, e3]
      split
      · rename_i e
        rw [if_pos (decide_eq_true e), zio_c (by omega)] at ih1
        exact ih1
      · rename_i e
        rw [if_neg (by simp [e])] at ih1
        exact ih1
    · have e : j = M 2 := by omega
      rw [e]
      simp (disch := omega) only [sf_g, sf_b, sf_n, sf_c0, sf_c1, sf_c2, sf_c3, sf_c4, sf_c5, sf_c6, il_0, il_1, il_2, il_3, il_4, il_5, il_6, il_7, il_8, il_9, il_10, il_11, il_12, il_16, il_20, il_32, il_44, il_45, il_48, il_50, il_57, il_59, il_60, il_64, il_74, il_98, il_99, il_100, il_108, il_109, il_110, il_111, il_112, il_113, il_115, il_119, il_120, il_158, il_255, il_1106, il_2147483647, nI_add, nI_mul, nI_sub, nI_clamp, nI_inT, nI_eqP, nI_leP, nI_ltP, nI_neP, nI_nnP, nI_nlP, nI_nltP, nI_nleP, nI_div, nI_subneg, nI_if, if_true, if_false, ite_true, ite_false, ↓reduceIte, nI_spos, nI_szero, Nat.add_zero, sf_t1, sf_c7, sf_c8, sf_c9, n1_0, n4_0, n4_1, h0, Nat.le_refl]
theorem fm_ranked (h : MR M ms) (hB : zMB M) (hz : zo (zbf (zS M) (zT M)) (M 2)) {b : Nat} (hb : b < M 2) : f_X12_ranked ms (nI (zrk (zbf (zS M) (zT M)) (M 2) b)) = some (nI b) := by
  have hn := hB.1
  have hr := zrk_lt hz hb
  have h8 := lm_rk2 h hB (r := zrk (zbf (zS M) (zT M)) (M 2) b) (by omega) (k := fun y => some y) 2000 0 (Nat.zero_le _) (by omega)
  have e1 := zla_one (P := fun k => decide (zrk (zbf (zS M) (zT M)) (M 2) k = zrk (zbf (zS M) (zT M)) (M 2) b)) hb (by simp) (fun k hk hp => zrk_inj hz hk hb (of_decide_eq_true hp))
  rw [e1, zio_c (c := b) (by omega)] at h8
  exact h8
set_option maxHeartbeats 1000000 in
theorem lm_w22 (h : MR M ms) (hB : zMB M) {e : Nat} {p : Int32} (hp : ∀ x, x < 2 ^ 31 → (nI x < p) = (x < e)) {k : Int32 → Option (Int32 × Int32)} : ∀ m j, j ≤ M 2 → M 2 - j < m → f_X12_mostWatched_L22 ms p k m (nI j) (nI (zne (zT M) (zE M) e j)) = k (nI (zne (zT M) (zE M) e (M 2))) := by
  obtain ⟨h0, a1, a2, a3, a4, a5, a6, a7, a8, a9, a10, a11, a12⟩ := fm_all h
  have hn := hB.1
  intro m
  induction m with
  | zero => intro j hj hm; omega
  | succ m ih =>
    intro j hj hm
    rw [f_X12_mostWatched_L22]
    rcases Nat.lt_or_ge j (M 2) with z | z
    · obtain ⟨b1, b2, b3, b4, b5⟩ := hB.2 j z
      have hnj : ¬ M 2 ≤ j := by omega
      have ih1 := ih (j + 1) (by omega) (by omega)
      have hpj := hp (zT M j) (by omega)
      have hI : zne (zT M) (zE M) e j < 2 ^ 31 := by
        rcases zeb_ne (T := zT M) (E := zE M) (u := e) (j := j) (by omega) (fun i hi => by have := (hB.2 i (by omega)).2; unfold zI; omega) with ⟨_, x⟩ | ⟨_, _, x⟩
        · rw [x]; unfold zI; omega
        · unfold zI at x; omega
      rw [zne] at ih1
      generalize k (nI (zne (zT M) (zE M) e (M 2))) = Z at ih1 ⊢
      simp (disch := omega) only [sf_g, sf_b, sf_n, sf_c0, sf_c1, sf_c2, sf_c3, sf_c4, sf_c5, sf_c6, il_0, il_1, il_2, il_3, il_4, il_5, il_6, il_7, il_8, il_9, il_10, il_11, il_12, il_16, il_20, il_32, il_44, il_45, il_48, il_50, il_57, il_59, il_60, il_64, il_74, il_98, il_99, il_100, il_108, il_109, il_110, il_111, il_112, il_113, il_115, il_119, il_120, il_158, il_255, il_1106, il_2147483647, nI_add, nI_mul, nI_sub, nI_clamp, nI_inT, nI_eqP, nI_leP, nI_ltP, nI_neP, nI_nnP, nI_nlP, nI_nltP, nI_nleP, nI_div, nI_subneg, nI_if, if_true, if_false, ite_true, ite_false, ↓reduceIte, nI_spos, nI_szero, Nat.add_zero, sf_t1, sf_c7, sf_c8, sf_c9, n1_0, n4_0, n4_1, hnj, h0, a11, a12, hpj]
      split
      · rename_i c
        rw [if_neg (by omega)] at ih1
        exact ih1
      · rename_i c
        rw [if_pos (by omega)] at ih1
        exact ih1
    · have e : j = M 2 := by omega
      rw [e]
      simp (disch := omega) only [sf_g, sf_b, sf_n, sf_c0, sf_c1, sf_c2, sf_c3, sf_c4, sf_c5, sf_c6, il_0, il_1, il_2, il_3, il_4, il_5, il_6, il_7, il_8, il_9, il_10, il_11, il_12, il_16, il_20, il_32, il_44, il_45, il_48, il_50, il_57, il_59, il_60, il_64, il_74, il_98, il_99, il_100, il_108, il_109, il_110, il_111, il_112, il_113, il_115, il_119, il_120, il_158, il_255, il_1106, il_2147483647, nI_add, nI_mul, nI_sub, nI_clamp, nI_inT, nI_eqP, nI_leP, nI_ltP, nI_neP, nI_nnP, nI_nlP, nI_nltP, nI_nleP, nI_div, nI_subneg, nI_if, if_true, if_false, ite_true, ite_false, ↓reduceIte, nI_spos, nI_szero, Nat.add_zero, sf_t1, sf_c7, sf_c8, sf_c9, n1_0, n4_0, n4_1, h0, Nat.le_refl]
theorem lm_w11 (h : MR M ms) (hB : zMB M) {c : Nat} (hc : c ≤ M 2) (hg : zgc (zT M) (zE M) (M 2) c) {k : Int32 → Option (Int32 × Int32)} : ∀ m i, i ≤ c → c - i + 1 < m → ∀ p, (∀ x, x < 2 ^ 31 → (nI x < p) = (x < zes (zT M) (zE M) (M 2) i)) → f_X12_mostWatched_L11 ms k m (nI 1) p (nI i) = k (nI c) := by
  have hn := hB.1
  have hI : ∀ k, k < M 2 → zE M k < zI := fun i hi => by have := (hB.2 i hi).2; unfold zI; omega
  intro m
  induction m with
  | zero => intro i hi hm; omega
  | succ m ih =>
    intro i hi hm p hp
    rw [f_X12_mostWatched_L11]
    have h8 := lm_w22 h hB hp (k := fun y_11 => sf_b (2147483647 ≤ y_11) (sf_n (nI i + 0) (fun x_12 => f_X12_mostWatched_L11 ms k m 0 y_11 x_12)) (sf_n (nI i + 1) (fun x_13 => f_X12_mostWatched_L11 ms k m 1 y_11 x_13))) 2000 0 (Nat.zero_le _) (by omega)
    rw [sf_b, if_neg (by decide)]
    refine Eq.trans h8 ?_
    have hle : zne (zT M) (zE M) (zes (zT M) (zE M) (M 2) i) (M 2) ≤ zI := by
      rcases zeb_ne (T := zT M) (E := zE M) (u := zes (zT M) (zE M) (M 2) i) (j := M 2) (by omega) hI with ⟨_, x⟩ | ⟨_, _, x⟩ <;> omega
    have hlt : zne (zT M) (zE M) (zes (zT M) (zE M) (M 2) i) (M 2) < 2 ^ 31 := by unfold zI at hle; omega
    have e1 : (nI 2147483647 ≤ nI (zne (zT M) (zE M) (zes (zT M) (zE M) (M 2) i) (M 2))) = (2147483647 ≤ zne (zT M) (zE M) (zes (zT M) (zE M) (M 2) i) (M 2)) := nI_leP (by omega) hlt
    simp only [sf_b, sf_n, il_2147483647, e1]
    rcases Nat.lt_or_ge i c with y | y
    · have h9 : zne (zT M) (zE M) (zes (zT M) (zE M) (M 2) i) (M 2) ≠ zI := hg.1 i y
      rw [if_neg (by unfold zI at h9 hle; omega), il_1, nI_add]
      exact ih (i + 1) (by omega) (by omega) _ (fun x hx => nI_ltP hx hlt)
    · have : i = c := by omega
      subst this
      have h9 : zne (zT M) (zE M) (zes (zT M) (zE M) (M 2) i) (M 2) = zI := hg.2
      rw [if_pos (by rw [h9]; exact Nat.le_refl _)]
      cases m with
      | zero => omega
      | succ m =>
        rw [f_X12_mostWatched_L11, sf_b, if_pos rfl, il_0, nI_add]
        rfl
theorem fm_watch (h : MR M ms) (hB : zMB M) {c : Nat} (hc : c ≤ M 2) (hg : zgc (zT M) (zE M) (M 2) c) (mt : Int32) : f_X12_mostWatched ms mt = some (nI c, 0) := by
  have hn := hB.1
  exact lm_w11 h hB hc hg (k := fun y_14 => some (y_14, 0)) 2000 0 (Nat.zero_le _) (by omega) (-1) (fun x hx => by
    have e : (nI x < -1) = False := eq_false (fun e => by
      rw [Int32.lt_iff_toInt_lt, nI_toInt hx] at e
      have : (-1 : Int32).toInt = -1 := by decide
      omega)
    rw [e]
    exact (eq_false (Nat.not_lt_zero x)).symm)
set_option maxHeartbeats 1000000 in
theorem lm_o24 (h : MR M ms) (hB : zMB M) {b : Nat} (hb : b < M 2) {k : Int32 → Option (Int32 × Int32)} : ∀ m j, j ≤ M 2 → M 2 - j < m → f_X12_mostAtOnce_L24 ms (nI b) k m (nI j) (nI (zA (zT M) (zE M) j (zT M b))) = k (nI (zA (zT M) (zE M) (M 2) (zT M b))) := by
  obtain ⟨h0, a1, a2, a3, a4, a5, a6, a7, a8, a9, a10, a11, a12⟩ := fm_all h
  have hn := hB.1
  obtain ⟨c1, c2, c3, c4, c5⟩ := hB.2 b hb
  intro m
  induction m with
  | zero => intro j hj hm; omega
  | succ m ih =>
    intro j hj hm
    rw [f_X12_mostAtOnce_L24]
    rcases Nat.lt_or_ge j (M 2) with z | z
    · obtain ⟨b1, b2, b3, b4, b5⟩ := hB.2 j z
      have hnj : ¬ M 2 ≤ j := by omega
      have ih1 := ih (j + 1) (by omega) (by omega)
      have no : ¬ (zT M j ≤ zT M b ∧ zT M b < zE M j) → f_X12_mostAtOnce_L24 ms (nI b) k m (nI (j + 1)) (nI (zA (zT M) (zE M) j (zT M b))) = k (nI (zA (zT M) (zE M) (M 2) (zT M b))) := fun hf => by rw [← ih1, zA, zA, zc_f (P := fun k => decide (zT M k ≤ zT M b ∧ zT M b < zE M k)) (decide_eq_false hf)]
      have yes : (zT M j ≤ zT M b ∧ zT M b < zE M j) → f_X12_mostAtOnce_L24 ms (nI b) k m (nI (j + 1)) (nI (zA (zT M) (zE M) j (zT M b) + 1)) = k (nI (zA (zT M) (zE M) (M 2) (zT M b))) := fun hf => by rw [← ih1, zA, zA, zc_t (P := fun k => decide (zT M k ≤ zT M b ∧ zT M b < zE M k)) (decide_eq_true hf)]
      generalize k (nI (zA (zT M) (zE M) (M 2) (zT M b))) = Z at no yes ⊢
      by_cases c : zT M j ≤ zT M b ∧ zT M b ≤ zE M j - 1
      · have hmt := (fm_ri (x := zT M b) (a := zT M j) (b := zE M j - 1) (by omega) (by omega) (by omega)).1 c
        simp (disch := omega) only [sf_g, sf_b, sf_n, sf_c0, sf_c1, sf_c2, sf_c3, sf_c4, sf_c5, sf_c6, il_0, il_1, il_2, il_3, il_4, il_5, il_6, il_7, il_8, il_9, il_10, il_11, il_12, il_16, il_20, il_32, il_44, il_45, il_48, il_50, il_57, il_59, il_60, il_64, il_74, il_98, il_99, il_100, il_108, il_109, il_110, il_111, il_112, il_113, il_115, il_119, il_120, il_158, il_255, il_1106, il_2147483647, nI_add, nI_mul, nI_sub, nI_clamp, nI_inT, nI_eqP, nI_leP, nI_ltP, nI_neP, nI_nnP, nI_nlP, nI_nltP, nI_nleP, nI_div, nI_subneg, nI_if, if_true, if_false, ite_true, ite_false, ↓reduceIte, nI_spos, nI_szero, Nat.add_zero, sf_t1, sf_c7, sf_c8, sf_c9, n1_0, n4_0, n4_1, hmt, hnj, h0, a11, a12]
        exact yes (by omega)
      · have hmt := (fm_ri (x := zT M b) (a := zT M j) (b := zE M j - 1) (by omega) (by omega) (by omega)).2 c
        simp (disch := omega) only [sf_g, sf_b, sf_n, sf_c0, sf_c1, sf_c2, sf_c3, sf_c4, sf_c5, sf_c6, il_0, il_1, il_2, il_3, il_4, il_5, il_6, il_7, il_8, il_9, il_10, il_11, il_12, il_16, il_20, il_32, il_44, il_45, il_48, il_50, il_57, il_59, il_60, il_64, il_74, il_98, il_99, il_100, il_108, il_109, il_110, il_111, il_112, il_113, il_115, il_119, il_120, il_158, il_255, il_1106, il_2147483647, nI_add, nI_mul, nI_sub, nI_clamp, nI_inT, nI_eqP, nI_leP, nI_ltP, nI_neP, nI_nnP, nI_nlP, nI_nltP, nI_nleP, nI_div, nI_subneg, nI_if, if_true, if_false, ite_true, ite_false, ↓reduceIte, nI_spos, nI_szero, Nat.add_zero, sf_t1, sf_c7, sf_c8, sf_c9, n1_0, n4_0, n4_1, hmt, hnj, h0, a11, a12]
        exact no (by omega)
    · have e : j = M 2 := by omega
      rw [e]
      simp (disch := omega) only [sf_g, sf_b, sf_n, sf_c0, sf_c1, sf_c2, sf_c3, sf_c4, sf_c5, sf_c6, il_0, il_1, il_2, il_3, il_4, il_5, il_6, il_7, il_8, il_9, il_10, il_11, il_12, il_16, il_20, il_32, il_44, il_45, il_48, il_50, il_57, il_59, il_60, il_64, il_74, il_98, il_99, il_100, il_108, il_109, il_110, il_111, il_112, il_113, il_115, il_119, il_120, il_158, il_255, il_1106, il_2147483647, nI_add, nI_mul, nI_sub, nI_clamp, nI_inT, nI_eqP, nI_leP, nI_ltP, nI_neP, nI_nnP, nI_nlP, nI_nltP, nI_nleP, nI_div, nI_subneg, nI_if, if_true, if_false, ite_true, ite_false, ↓reduceIte, nI_spos, nI_szero, Nat.add_zero, sf_t1, sf_c7, sf_c8, sf_c9, n1_0, n4_0, n4_1, h0, Nat.le_refl]
theorem lm_o9 (h : MR M ms) (hB : zMB M) {k : Int32 → Option (Int32 × Int32)} : ∀ m j, j ≤ M 2 → M 2 - j < m → f_X12_mostAtOnce_L9 ms k m (nI j) (nI (zm (fun i => zA (zT M) (zE M) (M 2) (zT M i)) j)) = k (nI (zm (fun i => zA (zT M) (zE M) (M 2) (zT M i)) (M 2))) := by
  have h0 : ∀ k, k < 158 → ms k = nI (M k) := h
  have hn := hB.1
  have hA : ∀ t, zA (zT M) (zE M) (M 2) t ≤ 12 := fun t => by have := zc_le (P := fun k => decide (zT M k ≤ t ∧ t < zE M k)) (n := M 2); unfold zA; omega
  intro m
  induction m with
  | zero => intro j hj hm; omega
  | succ m ih =>
    intro j hj hm
    rw [f_X12_mostAtOnce_L9]
    rcases Nat.lt_or_ge j (M 2) with z | z
    · have ih1 := ih (j + 1) (by omega) (by omega)
      have h8 := lm_o24 h hB z (k := fun y_13 => sf_n (if nI (zm (fun i => zA (zT M) (zE M) (M 2) (zT M i)) j) < y_13 then y_13 else nI (zm (fun i => zA (zT M) (zE M) (M 2) (zT M i)) j)) (fun x_14 => sf_n (nI j + 1) (fun x_15 => f_X12_mostAtOnce_L9 ms k m x_15 x_14))) 2000 0 (Nat.zero_le _) (by omega)
      have hc : (ms (2 : Int32).toNatClampNeg ≤ nI j) = False := eq_false (by rw [il_2, nI_clamp (by omega), h0 2 (by omega), nI_leP (by omega) (by omega)]; omega)
      have m1 : zm (fun i => zA (zT M) (zE M) (M 2) (zT M i)) j ≤ 12 := zm_le (fun i _ => hA (zT M i))
      have m2 := hA (zT M j)
      rw [sf_g, if_pos (by decide), sf_b]
      simp only [hc, if_false]
      refine Eq.trans h8 ?_
      simp only [sf_n]
      simp (disch := omega) only [nI_ltP, nI_if, il_1, nI_add]
      rw [zm] at ih1
      exact ih1
    · have e : j = M 2 := by omega
      rw [e]
      simp (disch := omega) only [sf_g, sf_b, sf_n, sf_c0, sf_c1, sf_c2, sf_c3, sf_c4, sf_c5, sf_c6, il_0, il_1, il_2, il_3, il_4, il_5, il_6, il_7, il_8, il_9, il_10, il_11, il_12, il_16, il_20, il_32, il_44, il_45, il_48, il_50, il_57, il_59, il_60, il_64, il_74, il_98, il_99, il_100, il_108, il_109, il_110, il_111, il_112, il_113, il_115, il_119, il_120, il_158, il_255, il_1106, il_2147483647, nI_add, nI_mul, nI_sub, nI_clamp, nI_inT, nI_eqP, nI_leP, nI_ltP, nI_neP, nI_nnP, nI_nlP, nI_nltP, nI_nleP, nI_div, nI_subneg, nI_if, if_true, if_false, ite_true, ite_false, ↓reduceIte, nI_spos, nI_szero, Nat.add_zero, sf_t1, sf_c7, sf_c8, sf_c9, n1_0, n4_0, n4_1, h0, Nat.le_refl]
theorem fm_once (h : MR M ms) (hB : zMB M) (mt : Int32) : f_X12_mostAtOnce ms mt = some (nI (zm (fun i => zA (zT M) (zE M) (M 2) (zT M i)) (M 2)), 0) := lm_o9 h hB (k := fun y_16 => some (y_16, 0)) 2000 0 (Nat.zero_le _) (by have := hB.1; omega)
set_option maxHeartbeats 1000000 in
theorem lm_p21 (h : MR M ms) {n b a : Nat} (hn : n ≤ 16) (hF : ∀ k, k < n → zFM M k < 2 ^ 31) (hb : b < n) {k : Int32 → Option (Int32 × Int32)} : ∀ m j, j ≤ b → b - j < m → f_X12_photoFinishes_L21 ms (nI b) k m (nI j) (nI (a + zc (fun i => decide (zFM M i = zFM M b)) j)) = k (nI (a + zc (fun i => decide (zFM M i = zFM M b)) b)) := by
  have h0 : ∀ k, k < 158 → ms k = nI (M k) := h
  have g1 := hF b hb
  have eM : ∀ k, M (110 + 3 * k + 2) = zFM M k := fun _ => rfl
  intro m
  induction m with
  | zero => intro j hj hm; omega
  | succ m ih =>
    intro j hj hm
    rw [f_X12_photoFinishes_L21]
    rcases Nat.lt_or_ge j b with z | z
    · have h1 := hF j (by omega)
      have hnj : ¬ b ≤ j := by omega
      have ih1 := ih (j + 1) (by omega) (by omega)
      rw [zc] at ih1
      simp (disch := omega) only [sf_g, sf_b, sf_n, sf_c0, sf_c1, sf_c2, sf_c3, sf_c4, sf_c5, sf_c6, il_0, il_1, il_2, il_3, il_4, il_5, il_6, il_7, il_8, il_9, il_10, il_11, il_12, il_16, il_20, il_32, il_44, il_45, il_48, il_50, il_57, il_59, il_60, il_64, il_74, il_98, il_99, il_100, il_108, il_109, il_110, il_111, il_112, il_113, il_115, il_119, il_120, il_158, il_255, il_1106, il_2147483647, nI_add, nI_mul, nI_sub, nI_clamp, nI_inT, nI_eqP, nI_leP, nI_ltP, nI_neP, nI_nnP, nI_nlP, nI_nltP, nI_nleP, nI_div, nI_subneg, nI_if, if_true, if_false, ite_true, ite_false, ↓reduceIte, nI_spos, nI_szero, Nat.add_zero, sf_t1, sf_c7, sf_c8, sf_c9, n1_0, n4_0, n4_1, hnj, h0, eM]
      split
      · rename_i e
        rw [if_pos (decide_eq_true e.symm)] at ih1
        exact ih1
      · rename_i e
        rw [if_neg (by simp [Ne.symm e])] at ih1
        exact ih1
    · have e : j = b := by omega
      rw [e]
      simp (disch := omega) only [sf_g, sf_b, sf_n, sf_c0, sf_c1, sf_c2, sf_c3, sf_c4, sf_c5, sf_c6, il_0, il_1, il_2, il_3, il_4, il_5, il_6, il_7, il_8, il_9, il_10, il_11, il_12, il_16, il_20, il_32, il_44, il_45, il_48, il_50, il_57, il_59, il_60, il_64, il_74, il_98, il_99, il_100, il_108, il_109, il_110, il_111, il_112, il_113, il_115, il_119, il_120, il_158, il_255, il_1106, il_2147483647, nI_add, nI_mul, nI_sub, nI_clamp, nI_inT, nI_eqP, nI_leP, nI_ltP, nI_neP, nI_nnP, nI_nlP, nI_nltP, nI_nleP, nI_div, nI_subneg, nI_if, if_true, if_false, ite_true, ite_false, ↓reduceIte, nI_spos, nI_szero, Nat.add_zero, sf_t1, sf_c7, sf_c8, sf_c9, n1_0, n4_0, n4_1, Nat.le_refl]
theorem lm_p9 (h : MR M ms) (hn : M 4 ≤ 16) (hF : ∀ k, k < M 4 → zFM M k < 2 ^ 31) {k : Int32 → Option (Int32 × Int32)} : ∀ m j, j ≤ M 4 → M 4 - j < m → f_X12_photoFinishes_L9 ms k m (nI j) (nI (zpp (zFM M) j)) = k (nI (zpp (zFM M) (M 4))) := by
  have h0 : ∀ k, k < 158 → ms k = nI (M k) := h
  intro m
  induction m with
  | zero => intro j hj hm; omega
  | succ m ih =>
    intro j hj hm
    rw [f_X12_photoFinishes_L9]
    rcases Nat.lt_or_ge j (M 4) with z | z
    · have ih1 := ih (j + 1) (by omega) (by omega)
      have h8 := lm_p21 h hn hF z (a := zpp (zFM M) j) (k := fun y_9 => sf_n (nI j + 1) (fun x_10 => f_X12_photoFinishes_L9 ms k m x_10 y_9)) 2000 0 (Nat.zero_le _) (by omega)
      have hc : (ms (4 : Int32).toNatClampNeg ≤ nI j) = False := eq_false (by rw [il_4, nI_clamp (by omega), h0 4 (by omega), nI_leP (by omega) (by omega)]; omega)
      rw [sf_g, if_pos (by decide), sf_b]
      simp only [hc, if_false]
      refine Eq.trans h8 ?_
      simp only [sf_n, il_1, nI_add]
      rw [zpp_s] at ih1
      exact ih1
    · have e : j = M 4 := by omega
      rw [e]
      simp (disch := omega) only [sf_g, sf_b, sf_n, sf_c0, sf_c1, sf_c2, sf_c3, sf_c4, sf_c5, sf_c6, il_0, il_1, il_2, il_3, il_4, il_5, il_6, il_7, il_8, il_9, il_10, il_11, il_12, il_16, il_20, il_32, il_44, il_45, il_48, il_50, il_57, il_59, il_60, il_64, il_74, il_98, il_99, il_100, il_108, il_109, il_110, il_111, il_112, il_113, il_115, il_119, il_120, il_158, il_255, il_1106, il_2147483647, nI_add, nI_mul, nI_sub, nI_clamp, nI_inT, nI_eqP, nI_leP, nI_ltP, nI_neP, nI_nnP, nI_nlP, nI_nltP, nI_nleP, nI_div, nI_subneg, nI_if, if_true, if_false, ite_true, ite_false, ↓reduceIte, nI_spos, nI_szero, Nat.add_zero, sf_t1, sf_c7, sf_c8, sf_c9, n1_0, n4_0, n4_1, h0, Nat.le_refl]
theorem fm_photo (h : MR M ms) (hn : M 4 ≤ 16) (hF : ∀ k, k < M 4 → zFM M k < 2 ^ 31) (mt : Int32) : f_X12_photoFinishes ms mt = some (nI (zpp (zFM M) (M 4)), 0) := lm_p9 h hn hF (k := fun y_11 => some (y_11, 0)) 2000 0 (Nat.zero_le _) (by omega)
end MODB
