/-! slides, guests, queues, finishes, the table of chains: each loop's answer -/
def zbw (W : Nat → Nat) (i j : Nat) : Bool := decide (W j < W i ∨ W i = W j ∧ i < j)
theorem zbw_o (W : Nat → Nat) (n : Nat) : zo (zbw W) n := ⟨fun i _ => decide_eq_false (by omega), fun i j k _ _ _ h1 h2 => decide_eq_true (by
  have h1 := of_decide_eq_true h1
  have h2 := of_decide_eq_true h2
  omega), fun i j _ _ h => by
  by_cases c : W j < W i ∨ W i = W j ∧ i < j
  · exact Or.inl (decide_eq_true c)
  · exact Or.inr (decide_eq_true (by omega))⟩
set_option maxHeartbeats 1000000 in
theorem lo_wet {n : Nat} {sw : Nat → Int32} {W : Nat → Nat} (hn : n ≤ 4) (h : ∀ k, k < n → sw k = nI (W k) ∧ W k < 100) {b : Nat} (hb : b < n) {k : Int32 → Option Int32} : ∀ m j, j ≤ n → n - j < m → f_X10_rankByWetness_L4 (nI n) sw (nI b) k m (nI j) (nI (zc (fun i => zbw W i b) j)) = k (nI (zrk (zbw W) n b)) := by
  obtain ⟨g1, g2⟩ := h b hb
  intro m
  induction m with
  | zero => intro j hj hm; omega
  | succ m ih =>
    intro j hj hm
    rw [f_X10_rankByWetness_L4]
    rcases Nat.lt_or_ge j n with z | z
    · obtain ⟨h1, h2⟩ := h j z
      have hnj : ¬ n ≤ j := by omega
      have ih1 := ih (j + 1) (by omega) (by omega)
      have no : zbw W j b = false → f_X10_rankByWetness_L4 (nI n) sw (nI b) k m (nI (j + 1)) (nI (zc (fun i => zbw W i b) j)) = k (nI (zrk (zbw W) n b)) := fun hf => by rw [← ih1, zc_f (P := fun i => zbw W i b) hf]
      have yes : zbw W j b = true → f_X10_rankByWetness_L4 (nI n) sw (nI b) k m (nI (j + 1)) (nI (zc (fun i => zbw W i b) j + 1)) = k (nI (zrk (zbw W) n b)) := fun hf => by rw [← ih1, zc_t (P := fun i => zbw W i b) hf]
      simp (disch := omega) only [sf_g, sf_b, sf_n, sf_c0, sf_c1, sf_c2, sf_c3, sf_c4, sf_c5, sf_c6, il_0, il_1, il_2, il_3, il_4, il_5, il_6, il_7, il_8, il_9, il_10, il_11, il_12, il_16, il_20, il_32, il_44, il_45, il_48, il_50, il_57, il_59, il_60, il_64, il_74, il_98, il_99, il_100, il_108, il_109, il_110, il_111, il_112, il_113, il_115, il_119, il_120, il_158, il_255, il_1106, il_2147483647, nI_add, nI_mul, nI_sub, nI_clamp, nI_inT, nI_eqP, nI_leP, nI_ltP, nI_neP, nI_nnP, nI_nlP, nI_nltP, nI_nleP, nI_div, nI_subneg, nI_if, if_true, if_false, ite_true, ite_false, ↓reduceIte, nI_spos, nI_szero, Nat.add_zero, sf_t1, sf_c7, sf_c8, sf_c9, n1_0, n4_0, n4_1, hnj, h1, g1]
      repeat' split
      all_goals first
        | exact no (decide_eq_false (by omega))
        | exact yes (decide_eq_true (by omega))
    · have e : j = n := by omega
      subst e
      simp (disch := omega) only [sf_g, sf_b, sf_n, sf_c0, sf_c1, sf_c2, sf_c3, sf_c4, sf_c5, sf_c6, il_0, il_1, il_2, il_3, il_4, il_5, il_6, il_7, il_8, il_9, il_10, il_11, il_12, il_16, il_20, il_32, il_44, il_45, il_48, il_50, il_57, il_59, il_60, il_64, il_74, il_98, il_99, il_100, il_108, il_109, il_110, il_111, il_112, il_113, il_115, il_119, il_120, il_158, il_255, il_1106, il_2147483647, nI_add, nI_mul, nI_sub, nI_clamp, nI_inT, nI_eqP, nI_leP, nI_ltP, nI_neP, nI_nnP, nI_nlP, nI_nltP, nI_nleP, nI_div, nI_subneg, nI_if, if_true, if_false, ite_true, ite_false, ↓reduceIte, nI_spos, nI_szero, Nat.add_zero, sf_t1, sf_c7, sf_c8, sf_c9, n1_0, n4_0, n4_1, Nat.le_refl]
      rfl
theorem fs_wet {n : Nat} {sw : Nat → Int32} {W : Nat → Nat} (hn : n ≤ 4) (h : ∀ k, k < n → sw k = nI (W k) ∧ W k < 100) {b : Nat} (hb : b < n) : f_X10_rankByWetness (nI n) sw (nI b) = some (nI (zrk (zbw W) n b)) := lo_wet hn h hb 2000 0 (Nat.zero_le _) (by omega)
def zbr (R C : Nat → Nat) (i j : Nat) : Bool := decide (R j < R i ∨ R i = R j ∧ (C j < C i ∨ C i = C j ∧ i < j))
theorem zbr_o (R C : Nat → Nat) (n : Nat) : zo (zbr R C) n := ⟨fun i _ => decide_eq_false (by omega), fun i j k _ _ _ h1 h2 => decide_eq_true (by
  have h1 := of_decide_eq_true h1
  have h2 := of_decide_eq_true h2
  omega), fun i j _ _ h => by
  by_cases c : R j < R i ∨ R i = R j ∧ (C j < C i ∨ C i = C j ∧ i < j)
  · exact Or.inl (decide_eq_true c)
  · exact Or.inr (decide_eq_true (by omega))⟩
def zHG (n : Nat) (gp gr : Nat → Int32) (C R : Nat → Nat) : Prop := n ≤ 10 ∧ ∀ k, k < n → gp k = nI (C k) ∧ gr k = nI (R k) ∧ C k < 2 ^ 31 ∧ R k < 2 ^ 31
set_option maxHeartbeats 1000000 in
theorem fg_bef {n : Nat} {gp gr : Nat → Int32} {C R : Nat → Nat} (h : zHG n gp gr C R) {i j : Nat} (hi : i < n) (hj : j < n) : f_X6_isBefore gp gr (nI i) (nI j) = some (if zbr R C i j = true then nI 1 else nI 0) := by
  have hn := h.1
  obtain ⟨h1, h2, h3, h4⟩ := h.2 i hi
  obtain ⟨g1, g2, g3, g4⟩ := h.2 j hj
  rw [f_X6_isBefore]
  have no : zbr R C i j = false → some (nI 0) = some (if zbr R C i j = true then nI 1 else nI 0) := fun e => by rw [e]; rfl
  have yes : zbr R C i j = true → some (nI 1) = some (if zbr R C i j = true then nI 1 else nI 0) := fun e => by rw [e]; rfl
  generalize some (if zbr R C i j = true then nI 1 else nI 0) = Z at no yes ⊢
  simp (disch := omega) only [sf_g, sf_b, sf_n, sf_c0, sf_c1, sf_c2, sf_c3, sf_c4, sf_c5, sf_c6, il_0, il_1, il_2, il_3, il_4, il_5, il_6, il_7, il_8, il_9, il_10, il_11, il_12, il_16, il_20, il_32, il_44, il_45, il_48, il_50, il_57, il_59, il_60, il_64, il_74, il_98, il_99, il_100, il_108, il_109, il_110, il_111, il_112, il_113, il_115, il_119, il_120, il_158, il_255, il_1106, il_2147483647, nI_add, nI_mul, nI_sub, nI_clamp, nI_inT, nI_eqP, nI_leP, nI_ltP, nI_neP, nI_nnP, nI_nlP, nI_nltP, nI_nleP, nI_div, nI_subneg, nI_if, if_true, if_false, ite_true, ite_false, ↓reduceIte, nI_spos, nI_szero, Nat.add_zero, sf_t1, sf_c7, sf_c8, sf_c9, n1_0, n4_0, n4_1, h1, h2, g1, g2]
  repeat' split
  all_goals first
    | exact no (decide_eq_false (by omega))
    | exact yes (decide_eq_true (by omega))
theorem lo_ridden {n : Nat} {gp gr : Nat → Int32} {C R : Nat → Nat} (h : zHG n gp gr C R) {b : Nat} (hb : b < n) {k : Int32 → Option Int32} : ∀ m j, j ≤ n → n - j < m → f_X6_rankByRidden_L4 (nI n) gp gr (nI b) k m (nI j) (nI (zc (fun i => zbr R C i b) j)) = k (nI (zrk (zbr R C) n b)) := by
  have hn := h.1
  intro m
  induction m with
  | zero => intro j hj hm; omega
  | succ m ih =>
    intro j hj hm
    rw [f_X6_rankByRidden_L4]
    rcases Nat.lt_or_ge j n with z | z
    · have hnj : ¬ n ≤ j := by omega
      have ih1 := ih (j + 1) (by omega) (by omega)
      rw [fg_bef h z hb]
      rcases Bool.eq_false_or_eq_true (zbr R C j b) with e | e
      · rw [zc_t (P := fun i => zbr R C i b) e] at ih1
        simp (disch := omega) only [sf_g, sf_b, sf_n, sf_c0, sf_c1, sf_c2, sf_c3, sf_c4, sf_c5, sf_c6, il_0, il_1, il_2, il_3, il_4, il_5, il_6, il_7, il_8, il_9, il_10, il_11, il_12, il_16, il_20, il_32, il_44, il_45, il_48, il_50, il_57, il_59, il_60, il_64, il_74, il_98, il_99, il_100, il_108, il_109, il_110, il_111, il_112, il_113, il_115, il_119, il_120, il_158, il_255, il_1106, il_2147483647, nI_add, nI_mul, nI_sub, nI_clamp, nI_inT, nI_eqP, nI_leP, nI_ltP, nI_neP, nI_nnP, nI_nlP, nI_nltP, nI_nleP, nI_div, nI_subneg, nI_if, if_true, if_false, ite_true, ite_false, ↓reduceIte, nI_spos, nI_szero, Nat.add_zero, sf_t1, sf_c7, sf_c8, sf_c9, n1_0, n4_0, n4_1, hnj, e]
        exact ih1
      · rw [zc_f (P := fun i => zbr R C i b) e] at ih1
        simp (disch := omega) only [sf_g, sf_b, sf_n, sf_c0, sf_c1, sf_c2, sf_c3, sf_c4, sf_c5, sf_c6, il_0, il_1, il_2, il_3, il_4, il_5, il_6, il_7, il_8, il_9, il_10, il_11, il_12, il_16, il_20, il_32, il_44, il_45, il_48, il_50, il_57, il_59, il_60, il_64, il_74, il_98, il_99, il_100, il_108, il_109, il_110, il_111, il_112, il_113, il_115, il_119, il_120, il_158, il_255, il_1106, il_2147483647, nI_add, nI_mul, nI_sub, nI_clamp, nI_inT, nI_eqP, nI_leP, nI_ltP, nI_neP, nI_nnP, nI_nlP, nI_nltP, nI_nleP, nI_div, nI_subneg, nI_if, if_true, if_false, ite_true, ite_false, ↓reduceIte, nI_spos, nI_szero, Nat.add_zero, sf_t1, sf_c7, sf_c8, sf_c9, n1_0, n4_0, n4_1, hnj, e, Bool.false_eq_true]
        exact ih1
    · have e : j = n := by omega
      subst e
      simp (disch := omega) only [sf_g, sf_b, sf_n, sf_c0, sf_c1, sf_c2, sf_c3, sf_c4, sf_c5, sf_c6, il_0, il_1, il_2, il_3, il_4, il_5, il_6, il_7, il_8, il_9, il_10, il_11, il_12, il_16, il_20, il_32, il_44, il_45, il_48, il_50, il_57, il_59, il_60, il_64, il_74, il_98, il_99, il_100, il_108, il_109, il_110, il_111, il_112, il_113, il_115, il_119, il_120, il_158, il_255, il_1106, il_2147483647, nI_add, nI_mul, nI_sub, nI_clamp, nI_inT, nI_eqP, nI_leP, nI_ltP, nI_neP, nI_nnP, nI_nlP, nI_nltP, nI_nleP, nI_div, nI_subneg, nI_if, if_true, if_false, ite_true, ite_false, ↓reduceIte, nI_spos, nI_szero, Nat.add_zero, sf_t1, sf_c7, sf_c8, sf_c9, n1_0, n4_0, n4_1, Nat.le_refl]
      rfl
theorem fg_ridden {n : Nat} {gp gr : Nat → Int32} {C R : Nat → Nat} (h : zHG n gp gr C R) {b : Nat} (hb : b < n) : f_X6_rankByRidden (nI n) gp gr (nI b) = some (nI (zrk (zbr R C) n b)) := lo_ridden h hb 2000 0 (Nat.zero_le _) (by have := h.1; omega)
theorem lo_coins {n : Nat} {gp gr : Nat → Int32} {C R : Nat → Nat} (h : zHG n gp gr C R) {k : Int32 → Option Int32} : ∀ m j, j ≤ n → n - j < m → f_X6_allCoins_L4 (nI n) gp k m (nI j) (nI (zs C j)) = k (nI (zs C n)) := by
  have hn := h.1
  intro m
  induction m with
  | zero => intro j hj hm; omega
  | succ m ih =>
    intro j hj hm
    rw [f_X6_allCoins_L4]
    rcases Nat.lt_or_ge j n with z | z
    · obtain ⟨h1, h2, h3, h4⟩ := h.2 j z
      have hnj : ¬ n ≤ j := by omega
      have ih1 := ih (j + 1) (by omega) (by omega)
      rw [zs] at ih1
      simp (disch := omega) only [sf_g, sf_b, sf_n, sf_c0, sf_c1, sf_c2, sf_c3, sf_c4, sf_c5, sf_c6, il_0, il_1, il_2, il_3, il_4, il_5, il_6, il_7, il_8, il_9, il_10, il_11, il_12, il_16, il_20, il_32, il_44, il_45, il_48, il_50, il_57, il_59, il_60, il_64, il_74, il_98, il_99, il_100, il_108, il_109, il_110, il_111, il_112, il_113, il_115, il_119, il_120, il_158, il_255, il_1106, il_2147483647, nI_add, nI_mul, nI_sub, nI_clamp, nI_inT, nI_eqP, nI_leP, nI_ltP, nI_neP, nI_nnP, nI_nlP, nI_nltP, nI_nleP, nI_div, nI_subneg, nI_if, if_true, if_false, ite_true, ite_false, ↓reduceIte, nI_spos, nI_szero, Nat.add_zero, sf_t1, sf_c7, sf_c8, sf_c9, n1_0, n4_0, n4_1, hnj, h1]
      exact ih1
    · have e : j = n := by omega
      subst e
      simp (disch := omega) only [sf_g, sf_b, sf_n, sf_c0, sf_c1, sf_c2, sf_c3, sf_c4, sf_c5, sf_c6, il_0, il_1, il_2, il_3, il_4, il_5, il_6, il_7, il_8, il_9, il_10, il_11, il_12, il_16, il_20, il_32, il_44, il_45, il_48, il_50, il_57, il_59, il_60, il_64, il_74, il_98, il_99, il_100, il_108, il_109, il_110, il_111, il_112, il_113, il_115, il_119, il_120, il_158, il_255, il_1106, il_2147483647, nI_add, nI_mul, nI_sub, nI_clamp, nI_inT, nI_eqP, nI_leP, nI_ltP, nI_neP, nI_nnP, nI_nlP, nI_nltP, nI_nleP, nI_div, nI_subneg, nI_if, if_true, if_false, ite_true, ite_false, ↓reduceIte, nI_spos, nI_szero, Nat.add_zero, sf_t1, sf_c7, sf_c8, sf_c9, n1_0, n4_0, n4_1, Nat.le_refl]
theorem fg_coins {n : Nat} {gp gr : Nat → Int32} {C R : Nat → Nat} (h : zHG n gp gr C R) : f_X6_allCoins (nI n) gp = some (nI (zs C n)) := lo_coins h 2000 0 (Nat.zero_le _) (by have := h.1; omega)
/-! queues -/
def zHQ (ql qg : Nat → Int32) (Q : Nat → Nat) (q : Nat → Nat → Nat) : Prop := ∀ k, k < 4 → ql k = nI (Q k) ∧ Q k ≤ 5 ∧ ∀ j, j < Q k → qg (k * 5 + j) = nI (q k j) ∧ q k j < 100
set_option maxHeartbeats 1000000 in
theorem lo_so9 {ql qg : Nat → Int32} {Q : Nat → Nat} {q : Nat → Nat → Nat} (h : zHQ ql qg Q q) {g s : Nat} (hg : g < 100) (hs : s < 4) {k : Unit → Option Int32} {R : Option Int32} (hR : ∀ j, j < Q s → q s j = g → some (nI s) = R) (hN : (∀ j, j < Q s → q s j ≠ g) → k () = R) : ∀ m j, j ≤ Q s → Q s - j < m → (∀ i, i < j → q s i ≠ g) → f_X9_slideOf_L9 ql qg (nI g) (nI s) k m (nI j) = R := by
  obtain ⟨h1, h2, h3⟩ := h s hs
  intro m
  induction m with
  | zero => intro j hj hm; omega
  | succ m ih =>
    intro j hj hm hno
    rw [f_X9_slideOf_L9]
    rcases Nat.lt_or_ge j (Q s) with z | z
    · obtain ⟨g1, g2⟩ := h3 j z
      have hnj : ¬ Q s ≤ j := by omega
      simp (disch := omega) only [sf_g, sf_b, sf_n, sf_c0, sf_c1, sf_c2, sf_c3, sf_c4, sf_c5, sf_c6, il_0, il_1, il_2, il_3, il_4, il_5, il_6, il_7, il_8, il_9, il_10, il_11, il_12, il_16, il_20, il_32, il_44, il_45, il_48, il_50, il_57, il_59, il_60, il_64, il_74, il_98, il_99, il_100, il_108, il_109, il_110, il_111, il_112, il_113, il_115, il_119, il_120, il_158, il_255, il_1106, il_2147483647, nI_add, nI_mul, nI_sub, nI_clamp, nI_inT, nI_eqP, nI_leP, nI_ltP, nI_neP, nI_nnP, nI_nlP, nI_nltP, nI_nleP, nI_div, nI_subneg, nI_if, if_true, if_false, ite_true, ite_false, ↓reduceIte, nI_spos, nI_szero, Nat.add_zero, sf_t1, sf_c7, sf_c8, sf_c9, n1_0, n4_0, n4_1, f_X9_guestAt, hnj, h1, g1]
      split
      · rename_i e
        exact hR j z e
      · rename_i e
        refine ih (j + 1) (by omega) (by omega) (fun i hi => ?_)
        rcases Nat.lt_or_ge i j with y | y
        · exact hno i y
        · have : i = j := by omega
          subst this; exact e
    · simp (disch := omega) only [sf_g, sf_b, sf_n, sf_c0, sf_c1, sf_c2, sf_c3, sf_c4, sf_c5, sf_c6, il_0, il_1, il_2, il_3, il_4, il_5, il_6, il_7, il_8, il_9, il_10, il_11, il_12, il_16, il_20, il_32, il_44, il_45, il_48, il_50, il_57, il_59, il_60, il_64, il_74, il_98, il_99, il_100, il_108, il_109, il_110, il_111, il_112, il_113, il_115, il_119, il_120, il_158, il_255, il_1106, il_2147483647, nI_add, nI_mul, nI_sub, nI_clamp, nI_inT, nI_eqP, nI_leP, nI_ltP, nI_neP, nI_nnP, nI_nlP, nI_nltP, nI_nleP, nI_div, nI_subneg, nI_if, if_true, if_false, ite_true, ite_false, ↓reduceIte, nI_spos, nI_szero, Nat.add_zero, sf_t1, sf_c7, sf_c8, sf_c9, n1_0, n4_0, n4_1, h1, z]
      exact hN (fun i hi => hno i (by omega))
theorem lo_so2 {ql qg : Nat → Int32} {Q : Nat → Nat} {q : Nat → Nat → Nat} (h : zHQ ql qg Q q) {g : Nat} (hg : g < 100) {k : Unit → Option Int32} {R : Option Int32} (hR : ∀ s j, s < 4 → j < Q s → q s j = g → some (nI s) = R) (hN : (∀ s j, s < 4 → j < Q s → q s j ≠ g) → k () = R) : ∀ m s, s ≤ 4 → 4 - s < m → (∀ s' j, s' < s → j < Q s' → q s' j ≠ g) → f_X9_slideOf_L2 ql qg (nI g) k m (nI s) = R := by
  intro m
  induction m with
  | zero => intro j hj hm; omega
  | succ m ih =>
    intro s hs hm hno
    rw [f_X9_slideOf_L2]
    rcases Nat.lt_or_ge s 4 with z | z
    · have hns : (4 ≤ nI s) = False := eq_false (by rw [il_4, nI_leP (by omega) (by omega)]; omega)
      rw [sf_b]
      simp only [hns, if_false]
      have h9 := (h s z).2.1
      refine lo_so9 h hg z (hR s · z) (fun hn => ?_) 2000 0 (Nat.zero_le _) (by omega) (fun i hi => absurd hi (Nat.not_lt_zero i))
      simp only [sf_n, il_1, nI_add]
      refine ih (s + 1) (by omega) (by omega) (fun s' j h1 h2 => ?_)
      rcases Nat.lt_or_ge s' s with y | y
      · exact hno s' j y h2
      · have : s' = s := by omega
        subst this
        exact hn j h2
    · have e : s = 4 := by omega
      subst e
      have hns : ((4 : Int32) ≤ nI 4) = True := eq_true (by decide)
      rw [sf_b]
      simp only [hns, if_true]
      exact hN (fun s j h1 => hno s j h1)
theorem fq_so {ql qg : Nat → Int32} {Q : Nat → Nat} {q : Nat → Nat → Nat} (h : zHQ ql qg Q q) {g : Nat} (hg : g < 100) {R : Option Int32} (hR : ∀ s j, s < 4 → j < Q s → q s j = g → some (nI s) = R) (hN : (∀ s j, s < 4 → j < Q s → q s j ≠ g) → some (-nI 1) = R) : f_X9_slideOf ql qg (nI g) = R := lo_so2 h hg (k := fun _ => some (-1 : Int32)) hR hN 2000 0 (Nat.zero_le _) (by omega) (fun s j h1 => absurd h1 (Nat.not_lt_zero s))
theorem upd_same {f : Nat → Int32} {i : Nat} : upd f i (f i) = f := funext fun k => by
  by_cases e : k = i
  · rw [upd_eqP e, e]
  · rw [upd_neP e]
set_option maxHeartbeats 1000000 in
theorem lo_qrem {ql qg : Nat → Int32} {Q : Nat → Nat} {q : Nat → Nat → Nat} (h : zHQ ql qg Q q) {g s p : Nat} (hg : g < 100) (hs : s < 4) (hp : p < Q s) (hpg : q s p = g) (hd : ∀ j, j < Q s → q s j = g → j = p) {k : Int32 → (Nat → Int32) → Option ((Nat → Int32) × (Nat → Int32))} : ∀ m j, j ≤ Q s → Q s - j < m → f_X9_remove_L10 ql (nI s) (nI g) (nI (s * 5)) k m (nI j) (nI (if j ≤ p then j else j - 1)) (if j ≤ p then qg else zsh qg (s * 5 + p) (s * 5 + j)) = k (nI (Q s - 1)) (zsh qg (s * 5 + p) (s * 5 + Q s)) := by
  obtain ⟨h1, h2, h3⟩ := h s hs
  intro m
  induction m with
  | zero => intro j hj hm; omega
  | succ m ih =>
    intro j hj hm
    rw [f_X9_remove_L10]
    rcases Nat.lt_or_ge j (Q s) with z | z
    · obtain ⟨g1, g2⟩ := h3 j z
      have hnj : ¬ Q s ≤ j := by omega
      have ih1 := ih (j + 1) (by omega) (by omega)
      rcases Nat.lt_or_ge p j with y | y
      · have c1 : ¬ j ≤ p := by omega
        have c2 : ¬ j + 1 ≤ p := by omega
        have c3 : ¬ q s j = g := fun e => by have := hd j z e; omega
        have c4 : zsh qg (s * 5 + p) (s * 5 + j) (s * 5 + j) = qg (s * 5 + j) := zsh_at
        simp only [c2, if_false] at ih1
        simp only [c1, if_false]
        have c5 : upd (zsh qg (s * 5 + p) (s * 5 + j)) (s * 5 + (j - 1)) (nI (q s j)) = zsh qg (s * 5 + p) (s * 5 + (j + 1)) := by
          rw [← g1, show s * 5 + (j - 1) = s * 5 + j - 1 by omega]
          exact zsh_s (by omega)
        have c6 : j - 1 + 1 = j + 1 - 1 := by omega
        simp (disch := omega) only [sf_g, sf_b, sf_n, sf_c0, sf_c1, sf_c2, sf_c3, sf_c4, sf_c5, sf_c6, il_0, il_1, il_2, il_3, il_4, il_5, il_6, il_7, il_8, il_9, il_10, il_11, il_12, il_16, il_20, il_32, il_44, il_45, il_48, il_50, il_57, il_59, il_60, il_64, il_74, il_98, il_99, il_100, il_108, il_109, il_110, il_111, il_112, il_113, il_115, il_119, il_120, il_158, il_255, il_1106, il_2147483647, nI_add, nI_mul, nI_sub, nI_clamp, nI_inT, nI_eqP, nI_leP, nI_ltP, nI_neP, nI_nnP, nI_nlP, nI_nltP, nI_nleP, nI_div, nI_subneg, nI_if, if_true, if_false, ite_true, ite_false, ↓reduceIte, nI_spos, nI_szero, Nat.add_zero, sf_t1, sf_c7, sf_c8, sf_c9, n1_0, n4_0, n4_1, hnj, h1, c4, g1, c3, c5, c6]
        exact ih1
      · have c1 : j ≤ p := y
        simp only [c1, if_true]
        rcases Nat.decEq j p with e | e
        · have c2 : j + 1 ≤ p := by omega
          have c3 : ¬ q s j = g := fun e2 => by have := hd j z e2; omega
          have c5 : upd qg (s * 5 + j) (nI (q s j)) = qg := by rw [← g1]; exact upd_same
          simp only [c2, if_true] at ih1
          simp (disch := omega) only [sf_g, sf_b, sf_n, sf_c0, sf_c1, sf_c2, sf_c3, sf_c4, sf_c5, sf_c6, il_0, il_1, il_2, il_3, il_4, il_5, il_6, il_7, il_8, il_9, il_10, il_11, il_12, il_16, il_20, il_32, il_44, il_45, il_48, il_50, il_57, il_59, il_60, il_64, il_74, il_98, il_99, il_100, il_108, il_109, il_110, il_111, il_112, il_113, il_115, il_119, il_120, il_158, il_255, il_1106, il_2147483647, nI_add, nI_mul, nI_sub, nI_clamp, nI_inT, nI_eqP, nI_leP, nI_ltP, nI_neP, nI_nnP, nI_nlP, nI_nltP, nI_nleP, nI_div, nI_subneg, nI_if, if_true, if_false, ite_true, ite_false, ↓reduceIte, nI_spos, nI_szero, Nat.add_zero, sf_t1, sf_c7, sf_c8, sf_c9, n1_0, n4_0, n4_1, hnj, h1, g1, c3, c5]
          exact ih1
        · subst e
          have c2 : ¬ j + 1 ≤ j := by omega
          have c6 : j + 1 - 1 = j := by omega
          have c7 : zsh qg (s * 5 + j) (s * 5 + (j + 1)) = qg := zsh_0
          simp only [c2, if_false, c6, c7] at ih1
          simp (disch := omega) only [sf_g, sf_b, sf_n, sf_c0, sf_c1, sf_c2, sf_c3, sf_c4, sf_c5, sf_c6, il_0, il_1, il_2, il_3, il_4, il_5, il_6, il_7, il_8, il_9, il_10, il_11, il_12, il_16, il_20, il_32, il_44, il_45, il_48, il_50, il_57, il_59, il_60, il_64, il_74, il_98, il_99, il_100, il_108, il_109, il_110, il_111, il_112, il_113, il_115, il_119, il_120, il_158, il_255, il_1106, il_2147483647, nI_add, nI_mul, nI_sub, nI_clamp, nI_inT, nI_eqP, nI_leP, nI_ltP, nI_neP, nI_nnP, nI_nlP, nI_nltP, nI_nleP, nI_div, nI_subneg, nI_if, if_true, if_false, ite_true, ite_false, ↓reduceIte, nI_spos, nI_szero, Nat.add_zero, sf_t1, sf_c7, sf_c8, sf_c9, n1_0, n4_0, n4_1, hnj, h1, g1, hpg]
          exact ih1
    · have e : j = Q s := by omega
      subst e
      have c1 : ¬ Q s ≤ p := by omega
      simp only [c1, if_false]
      simp (disch := omega) only [sf_g, sf_b, sf_n, sf_c0, sf_c1, sf_c2, sf_c3, sf_c4, sf_c5, sf_c6, il_0, il_1, il_2, il_3, il_4, il_5, il_6, il_7, il_8, il_9, il_10, il_11, il_12, il_16, il_20, il_32, il_44, il_45, il_48, il_50, il_57, il_59, il_60, il_64, il_74, il_98, il_99, il_100, il_108, il_109, il_110, il_111, il_112, il_113, il_115, il_119, il_120, il_158, il_255, il_1106, il_2147483647, nI_add, nI_mul, nI_sub, nI_clamp, nI_inT, nI_eqP, nI_leP, nI_ltP, nI_neP, nI_nnP, nI_nlP, nI_nltP, nI_nleP, nI_div, nI_subneg, nI_if, if_true, if_false, ite_true, ite_false, ↓reduceIte, nI_spos, nI_szero, Nat.add_zero, sf_t1, sf_c7, sf_c8, sf_c9, n1_0, n4_0, n4_1, h1, Nat.le_refl]
theorem fq_rem {ql qg : Nat → Int32} {Q : Nat → Nat} {q : Nat → Nat → Nat} (h : zHQ ql qg Q q) {g s p : Nat} (hg : g < 100) (hs : s < 4) (hp : p < Q s) (hpg : q s p = g) (hd : ∀ j, j < Q s → q s j = g → j = p) : f_X9_remove ql qg (nI s) (nI g) = some (upd ql s (nI (Q s - 1)), zsh qg (s * 5 + p) (s * 5 + Q s)) := by
  have h9 := (h s hs).2.1
  have h8 := lo_qrem h hg hs hp hpg hd (k := fun y_9 z_10 => sf_g (sf_in (nI s) 4 = true) (sf_n (upd ql (nI s).toNatClampNeg y_9) (fun a_11 => some (a_11, z_10)))) 2000 0 (Nat.zero_le _) (by omega)
  rw [f_X9_remove, sf_n]
  simp only [il_5, nI_mul]
  simp only [Nat.zero_le, if_true] at h8
  refine Eq.trans h8 ?_
  simp (disch := omega) only [sf_g, sf_b, sf_n, sf_c0, sf_c1, sf_c2, sf_c3, sf_c4, sf_c5, sf_c6, il_0, il_1, il_2, il_3, il_4, il_5, il_6, il_7, il_8, il_9, il_10, il_11, il_12, il_16, il_20, il_32, il_44, il_45, il_48, il_50, il_57, il_59, il_60, il_64, il_74, il_98, il_99, il_100, il_108, il_109, il_110, il_111, il_112, il_113, il_115, il_119, il_120, il_158, il_255, il_1106, il_2147483647, nI_add, nI_mul, nI_sub, nI_clamp, nI_inT, nI_eqP, nI_leP, nI_ltP, nI_neP, nI_nnP, nI_nlP, nI_nltP, nI_nleP, nI_div, nI_subneg, nI_if, if_true, if_false, ite_true, ite_false, ↓reduceIte, nI_spos, nI_szero, Nat.add_zero, sf_t1, sf_c7, sf_c8, sf_c9, n1_0, n4_0, n4_1]
/-! finishes -/
theorem lo_fapp {fc : Nat} (hc : fc ≤ 16) {fg fs fm : Nat → Int32} {k : (Nat → Int32) → (Nat → Int32) → (Nat → Int32) → Option (Int32 × (Nat → Int32) × (Nat → Int32) × (Nat → Int32))} : ∀ m j, 1 ≤ j → j ≤ fc → fc - j < m → f_X5_append_L12 (nI fc) k m (nI j) (zsh fg 0 j) (zsh fs 0 j) (zsh fm 0 j) = k (zsh fg 0 fc) (zsh fs 0 fc) (zsh fm 0 fc) := by
  intro m
  induction m with
  | zero => intro j hj hj2 hm; omega
  | succ m ih =>
    intro j hj hj2 hm
    rw [f_X5_append_L12]
    rcases Nat.lt_or_ge j fc with z | z
    · have hnj : ¬ fc ≤ j := by omega
      have ih1 := ih (j + 1) (by omega) (by omega) (by omega)
      rw [← zsh_s (b := 0) hj, ← zsh_s (b := 0) hj, ← zsh_s (b := 0) hj] at ih1
      simp (disch := omega) only [sf_g, sf_b, sf_n, sf_c0, sf_c1, sf_c2, sf_c3, sf_c4, sf_c5, sf_c6, il_0, il_1, il_2, il_3, il_4, il_5, il_6, il_7, il_8, il_9, il_10, il_11, il_12, il_16, il_20, il_32, il_44, il_45, il_48, il_50, il_57, il_59, il_60, il_64, il_74, il_98, il_99, il_100, il_108, il_109, il_110, il_111, il_112, il_113, il_115, il_119, il_120, il_158, il_255, il_1106, il_2147483647, nI_add, nI_mul, nI_sub, nI_clamp, nI_inT, nI_eqP, nI_leP, nI_ltP, nI_neP, nI_nnP, nI_nlP, nI_nltP, nI_nleP, nI_div, nI_subneg, nI_if, if_true, if_false, ite_true, ite_false, ↓reduceIte, nI_spos, nI_szero, Nat.add_zero, sf_t1, sf_c7, sf_c8, sf_c9, n1_0, n4_0, n4_1, hnj, zsh_at]
      exact ih1
    · have e : j = fc := by omega
      subst e
      simp (disch := omega) only [sf_g, sf_b, sf_n, sf_c0, sf_c1, sf_c2, sf_c3, sf_c4, sf_c5, sf_c6, il_0, il_1, il_2, il_3, il_4, il_5, il_6, il_7, il_8, il_9, il_10, il_11, il_12, il_16, il_20, il_32, il_44, il_45, il_48, il_50, il_57, il_59, il_60, il_64, il_74, il_98, il_99, il_100, il_108, il_109, il_110, il_111, il_112, il_113, il_115, il_119, il_120, il_158, il_255, il_1106, il_2147483647, nI_add, nI_mul, nI_sub, nI_clamp, nI_inT, nI_eqP, nI_leP, nI_ltP, nI_neP, nI_nnP, nI_nlP, nI_nltP, nI_nleP, nI_div, nI_subneg, nI_if, if_true, if_false, ite_true, ite_false, ↓reduceIte, nI_spos, nI_szero, Nat.add_zero, sf_t1, sf_c7, sf_c8, sf_c9, n1_0, n4_0, n4_1, Nat.le_refl]
/-- the rows behind an append -/
def zap (c : Nat) (f : Nat → Int32) (x : Int32) : Nat → Int32 := if c < 16 then upd f c x else upd (zsh f 0 16) 15 x
theorem ff_app {fc : Nat} (hc : fc ≤ 16) {fg fs fm : Nat → Int32} {g s t : Int32} : f_X5_append (nI fc) fg fs fm g s t = some (nI (if fc < 16 then fc + 1 else 16), zap fc fg g, zap fc fs s, zap fc fm t) := by
  rw [f_X5_append]
  rcases Nat.lt_or_ge fc 16 with z | z
  · simp (disch := omega) only [sf_g, sf_b, sf_n, sf_c0, sf_c1, sf_c2, sf_c3, sf_c4, sf_c5, sf_c6, il_0, il_1, il_2, il_3, il_4, il_5, il_6, il_7, il_8, il_9, il_10, il_11, il_12, il_16, il_20, il_32, il_44, il_45, il_48, il_50, il_57, il_59, il_60, il_64, il_74, il_98, il_99, il_100, il_108, il_109, il_110, il_111, il_112, il_113, il_115, il_119, il_120, il_158, il_255, il_1106, il_2147483647, nI_add, nI_mul, nI_sub, nI_clamp, nI_inT, nI_eqP, nI_leP, nI_ltP, nI_neP, nI_nnP, nI_nlP, nI_nltP, nI_nleP, nI_div, nI_subneg, nI_if, if_true, if_false, ite_true, ite_false, ↓reduceIte, nI_spos, nI_szero, Nat.add_zero, sf_t1, sf_c7, sf_c8, sf_c9, n1_0, n4_0, n4_1, zap, z]
  · have e : fc = 16 := by omega
    subst e
    have h8 := lo_fapp (fg := fg) (fs := fs) (fm := fm) (Nat.le_refl 16) (k := fun z_13 z_14 z_15 => sf_n ((nI 16 - 1)) (fun x_16 => sf_g (sf_in x_16 16 = true) (sf_n (upd z_13 x_16.toNatClampNeg g) (fun a_17 => sf_g (sf_in x_16 16 = true) (sf_n (upd z_14 x_16.toNatClampNeg s) (fun a_18 => sf_g (sf_in x_16 16 = true) (sf_n (upd z_15 x_16.toNatClampNeg t) (fun a_19 => sf_n ((x_16 + 1)) (fun x_20 => some (x_20, a_17, a_18, a_19)))))))))) 2000 1 (Nat.le_refl 1) (by omega) (by omega)
    rw [show zsh fg 0 1 = fg from zsh_0, show zsh fs 0 1 = fs from zsh_0, show zsh fm 0 1 = fm from zsh_0] at h8
    have c : (nI 16 < 16) = False := eq_false (by decide)
    rw [sf_b]
    simp only [c, if_false]
    refine Eq.trans h8 ?_
    simp (disch := omega) only [sf_g, sf_b, sf_n, sf_c0, sf_c1, sf_c2, sf_c3, sf_c4, sf_c5, sf_c6, il_0, il_1, il_2, il_3, il_4, il_5, il_6, il_7, il_8, il_9, il_10, il_11, il_12, il_16, il_20, il_32, il_44, il_45, il_48, il_50, il_57, il_59, il_60, il_64, il_74, il_98, il_99, il_100, il_108, il_109, il_110, il_111, il_112, il_113, il_115, il_119, il_120, il_158, il_255, il_1106, il_2147483647, nI_add, nI_mul, nI_sub, nI_clamp, nI_inT, nI_eqP, nI_leP, nI_ltP, nI_neP, nI_nnP, nI_nlP, nI_nltP, nI_nleP, nI_div, nI_subneg, nI_if, if_true, if_false, ite_true, ite_false, ↓reduceIte, nI_spos, nI_szero, Nat.add_zero, sf_t1, sf_c7, sf_c8, sf_c9, n1_0, n4_0, n4_1, zap, Nat.lt_irrefl]
section FIN
variable {n : Nat} {fm : Nat → Int32} {R : Nat → Nat}
def zHF (n : Nat) (fm : Nat → Int32) (R : Nat → Nat) : Prop := n ≤ 16 ∧ ∀ k, k < n → fm k = nI (R k) ∧ R k < 2 ^ 31
set_option maxHeartbeats 1000000 in
theorem lo_ep1 (h : zHF n fm R) {b : Nat} (hb : b < n) {a : Nat} {k : Int32 → Option Int32} : ∀ m j, b + 1 ≤ j → j ≤ n → n - j < m → f_X5_equalPairs_L16 (nI n) fm (nI b) k m (nI j) (nI (a + zph R n b j)) = k (nI (a + zph R n b n)) := by
  have hn := h.1
  obtain ⟨g1, g2⟩ := h.2 b hb
  intro m
  induction m with
  | zero => intro j hj hj2 hm; omega
  | succ m ih =>
    intro j hj hj2 hm
    rw [f_X5_equalPairs_L16]
    rcases Nat.lt_or_ge j n with z | z
    · obtain ⟨h1, h2⟩ := h.2 j z
      have hnj : ¬ n ≤ j := by omega
      have ih1 := ih (j + 1) (by omega) (by omega) (by omega)
      rw [zph] at ih1
      simp (disch := omega) only [sf_g, sf_b, sf_n, sf_c0, sf_c1, sf_c2, sf_c3, sf_c4, sf_c5, sf_c6, il_0, il_1, il_2, il_3, il_4, il_5, il_6, il_7, il_8, il_9, il_10, il_11, il_12, il_16, il_20, il_32, il_44, il_45, il_48, il_50, il_57, il_59, il_60, il_64, il_74, il_98, il_99, il_100, il_108, il_109, il_110, il_111, il_112, il_113, il_115, il_119, il_120, il_158, il_255, il_1106, il_2147483647, nI_add, nI_mul, nI_sub, nI_clamp, nI_inT, nI_eqP, nI_leP, nI_ltP, nI_neP, nI_nnP, nI_nlP, nI_nltP, nI_nleP, nI_div, nI_subneg, nI_if, if_true, if_false, ite_true, ite_false, ↓reduceIte, nI_spos, nI_szero, Nat.add_zero, sf_t1, sf_c7, sf_c8, sf_c9, n1_0, n4_0, n4_1, hnj, h1, g1]
      split
      · rename_i e
        rw [if_pos ⟨by omega, e⟩] at ih1
        exact ih1
      · rename_i e
        rw [if_neg (fun x => e x.2)] at ih1
        exact ih1
    · have e : j = n := by omega
      subst e
      simp (disch := omega) only [sf_g, sf_b, sf_n, sf_c0, sf_c1, sf_c2, sf_c3, sf_c4, sf_c5, sf_c6, il_0, il_1, il_2, il_3, il_4, il_5, il_6, il_7, il_8, il_9, il_10, il_11, il_12, il_16, il_20, il_32, il_44, il_45, il_48, il_50, il_57, il_59, il_60, il_64, il_74, il_98, il_99, il_100, il_108, il_109, il_110, il_111, il_112, il_113, il_115, il_119, il_120, il_158, il_255, il_1106, il_2147483647, nI_add, nI_mul, nI_sub, nI_clamp, nI_inT, nI_eqP, nI_leP, nI_ltP, nI_neP, nI_nnP, nI_nlP, nI_nltP, nI_nleP, nI_div, nI_subneg, nI_if, if_true, if_false, ite_true, ite_false, ↓reduceIte, nI_spos, nI_szero, Nat.add_zero, sf_t1, sf_c7, sf_c8, sf_c9, n1_0, n4_0, n4_1, Nat.le_refl]
theorem lo_ep2 (h : zHF n fm R) {k : Int32 → Option Int32} : ∀ m j, j ≤ n → n - j < m → f_X5_equalPairs_L4 (nI n) fm k m (nI j) (nI (zs (fun i => zph R n i n) j)) = k (nI (zpo R n)) := by
  have hn := h.1
  intro m
  induction m with
  | zero => intro j hj hm; omega
  | succ m ih =>
    intro j hj hm
    rw [f_X5_equalPairs_L4]
    rcases Nat.lt_or_ge j n with z | z
    · have hnj : ¬ n ≤ j := by omega
      have ih1 := ih (j + 1) (by omega) (by omega)
      have h9 := lo_ep1 h z (a := zs (fun i => zph R n i n) j) (k := fun y_9 => sf_n (nI j + 1) (fun x_10 => f_X5_equalPairs_L4 (nI n) fm k m x_10 y_9)) 2000 (j + 1) (Nat.le_refl _) (by omega) (by omega)
      rw [zph_lo (Nat.le_refl _)] at h9
      have hc : (nI n ≤ nI j) = False := eq_false (by rw [nI_leP (by omega) (by omega)]; omega)
      simp only [sf_b, hc, if_false, sf_n, il_1, nI_add] at h9 ⊢
      refine Eq.trans h9 ?_
      rw [zs] at ih1
      exact ih1
    · have e : j = n := by omega
      subst e
      simp (disch := omega) only [sf_g, sf_b, sf_n, sf_c0, sf_c1, sf_c2, sf_c3, sf_c4, sf_c5, sf_c6, il_0, il_1, il_2, il_3, il_4, il_5, il_6, il_7, il_8, il_9, il_10, il_11, il_12, il_16, il_20, il_32, il_44, il_45, il_48, il_50, il_57, il_59, il_60, il_64, il_74, il_98, il_99, il_100, il_108, il_109, il_110, il_111, il_112, il_113, il_115, il_119, il_120, il_158, il_255, il_1106, il_2147483647, nI_add, nI_mul, nI_sub, nI_clamp, nI_inT, nI_eqP, nI_leP, nI_ltP, nI_neP, nI_nnP, nI_nlP, nI_nltP, nI_nleP, nI_div, nI_subneg, nI_if, if_true, if_false, ite_true, ite_false, ↓reduceIte, nI_spos, nI_szero, Nat.add_zero, sf_t1, sf_c7, sf_c8, sf_c9, n1_0, n4_0, n4_1, Nat.le_refl]
      rfl
theorem ff_ep (h : zHF n fm R) : f_X5_equalPairs (nI n) fm = some (nI (zpo R n)) := lo_ep2 h 2000 0 (Nat.zero_le _) (by have := h.1; omega)
set_option maxHeartbeats 1000000 in
theorem lo_runs (h : zHF n fm R) (hm : ∀ i j, i ≤ j → j < n → R i ≤ R j) {k : Int32 → Option Int32} : ∀ m v, v ≤ n → n - v < m → ∀ r p, r ≤ v → zru R n v r p → f_X5_equalPairsFromRuns_L6 (nI n) fm k m (nI v) (nI r) (nI p) = k (nI (zpp R n)) := by
  have hn := h.1
  intro m
  induction m with
  | zero => intro j hj hm; omega
  | succ m ih =>
    intro v hv hm2 r p hr hz
    rw [f_X5_equalPairsFromRuns_L6]
    rcases Nat.lt_or_ge v n with z | z
    · have hnv : ¬ n ≤ v := by omega
      obtain ⟨h1, h2⟩ := h.2 v z
      have ht : (r + 1) * r < 2 ^ 31 := by
        have : (r + 1) * r ≤ 17 * 16 := Nat.mul_le_mul (by omega) (by omega)
        omega
      have htr : (r + 1) * r / 2 = ztri (r + 1) := rfl
      rcases Nat.decEq (v + 1) n with e | e
      · have hvn : ¬ v + 1 = n := e
        obtain ⟨g1, g2⟩ := h.2 (v + 1) (by omega)
        by_cases c : R (v + 1) = R v
        · have h3 := ih (v + 1) (by omega) (by omega) _ _ (by omega) (zru_same hz z (by omega) c)
          simp (disch := omega) only [sf_g, sf_b, sf_n, sf_c0, sf_c1, sf_c2, sf_c3, sf_c4, sf_c5, sf_c6, il_0, il_1, il_2, il_3, il_4, il_5, il_6, il_7, il_8, il_9, il_10, il_11, il_12, il_16, il_20, il_32, il_44, il_45, il_48, il_50, il_57, il_59, il_60, il_64, il_74, il_98, il_99, il_100, il_108, il_109, il_110, il_111, il_112, il_113, il_115, il_119, il_120, il_158, il_255, il_1106, il_2147483647, nI_add, nI_mul, nI_sub, nI_clamp, nI_inT, nI_eqP, nI_leP, nI_ltP, nI_neP, nI_nnP, nI_nlP, nI_nltP, nI_nleP, nI_div, nI_subneg, nI_if, if_true, if_false, ite_true, ite_false, ↓reduceIte, nI_spos, nI_szero, Nat.add_zero, sf_t1, sf_c7, sf_c8, sf_c9, n1_0, n4_0, n4_1, hnv, hvn, h1, g1, c, Nat.add_sub_cancel]
          exact h3
        · have h3 := ih (v + 1) (by omega) (by omega) _ _ (Nat.zero_le _) (zru_next hm hz z (Or.inr c))
          simp (disch := omega) only [sf_g, sf_b, sf_n, sf_c0, sf_c1, sf_c2, sf_c3, sf_c4, sf_c5, sf_c6, il_0, il_1, il_2, il_3, il_4, il_5, il_6, il_7, il_8, il_9, il_10, il_11, il_12, il_16, il_20, il_32, il_44, il_45, il_48, il_50, il_57, il_59, il_60, il_64, il_74, il_98, il_99, il_100, il_108, il_109, il_110, il_111, il_112, il_113, il_115, il_119, il_120, il_158, il_255, il_1106, il_2147483647, nI_add, nI_mul, nI_sub, nI_clamp, nI_inT, nI_eqP, nI_leP, nI_ltP, nI_neP, nI_nnP, nI_nlP, nI_nltP, nI_nleP, nI_div, nI_subneg, nI_if, if_true, if_false, ite_true, ite_false, ↓reduceIte, nI_spos, nI_szero, Nat.add_zero, sf_t1, sf_c7, sf_c8, sf_c9, n1_0, n4_0, n4_1, hnv, hvn, h1, g1, c, Nat.add_sub_cancel, htr]
          exact h3
      · have h3 := ih (v + 1) (by omega) (by omega) _ _ (Nat.zero_le _) (zru_next hm hz z (Or.inl e))
        simp (disch := omega) only [sf_g, sf_b, sf_n, sf_c0, sf_c1, sf_c2, sf_c3, sf_c4, sf_c5, sf_c6, il_0, il_1, il_2, il_3, il_4, il_5, il_6, il_7, il_8, il_9, il_10, il_11, il_12, il_16, il_20, il_32, il_44, il_45, il_48, il_50, il_57, il_59, il_60, il_64, il_74, il_98, il_99, il_100, il_108, il_109, il_110, il_111, il_112, il_113, il_115, il_119, il_120, il_158, il_255, il_1106, il_2147483647, nI_add, nI_mul, nI_sub, nI_clamp, nI_inT, nI_eqP, nI_leP, nI_ltP, nI_neP, nI_nnP, nI_nlP, nI_nltP, nI_nleP, nI_div, nI_subneg, nI_if, if_true, if_false, ite_true, ite_false, ↓reduceIte, nI_spos, nI_szero, Nat.add_zero, sf_t1, sf_c7, sf_c8, sf_c9, n1_0, n4_0, n4_1, hnv, e, Nat.add_sub_cancel, htr]
        rw [e] at h3
        exact h3
    · have e : v = n := by omega
      subst e
      simp (disch := omega) only [sf_g, sf_b, sf_n, sf_c0, sf_c1, sf_c2, sf_c3, sf_c4, sf_c5, sf_c6, il_0, il_1, il_2, il_3, il_4, il_5, il_6, il_7, il_8, il_9, il_10, il_11, il_12, il_16, il_20, il_32, il_44, il_45, il_48, il_50, il_57, il_59, il_60, il_64, il_74, il_98, il_99, il_100, il_108, il_109, il_110, il_111, il_112, il_113, il_115, il_119, il_120, il_158, il_255, il_1106, il_2147483647, nI_add, nI_mul, nI_sub, nI_clamp, nI_inT, nI_eqP, nI_leP, nI_ltP, nI_neP, nI_nnP, nI_nlP, nI_nltP, nI_nleP, nI_div, nI_subneg, nI_if, if_true, if_false, ite_true, ite_false, ↓reduceIte, nI_spos, nI_szero, Nat.add_zero, sf_t1, sf_c7, sf_c8, sf_c9, n1_0, n4_0, n4_1, Nat.le_refl]
      rw [zru_end hz]
theorem ff_runs (h : zHF n fm R) (hm : ∀ i j, i ≤ j → j < n → R i ≤ R j) : f_X5_equalPairsFromRuns (nI n) fm = some (nI (zpp R n)) := lo_runs h hm 2000 0 (Nat.zero_le _) (by have := h.1; omega) 0 0 (Nat.le_refl 0) zru_0
end FIN
/-! the table of chains -/
section CHN
variable {n : Nat} {bg bs bt be : Nat → Int32} {G S T E : Nat → Nat}
set_option maxHeartbeats 1000000 in
theorem lo_lb (h : zHB n bg bs bt be G S T E) {ko kl : Nat → Int32} {o l : Nat → Nat} {r : Nat} (hr : r < n) (ho : ∀ i, i < n → ko i = nI (o i) ∧ o i < n) (hl : ∀ i, i < r → kl i = nI (l i) ∧ l i ≤ i + 1) {k : Int32 → Option Int32} : ∀ m j, j ≤ r → r - j < m → f_X2_longestBefore_L5 ko kl bt be (nI r) k m (nI j) (nI (zmb (fun r => T (o r)) (fun r => E (o r)) l r j)) = k (nI (zmb (fun r => T (o r)) (fun r => E (o r)) l r r)) := by
  have hn := h.1
  obtain ⟨o1, o2⟩ := ho r hr
  obtain ⟨⟨g1, g2, g3, g4⟩, c1, c2, c3, c4, c5⟩ := h.2 (o r) o2
  have hb : ∀ j, j ≤ r → zmb (fun r => T (o r)) (fun r => E (o r)) l r j ≤ 100 := fun j => by
    induction j with
    | zero => intro _; exact Nat.zero_le _
    | succ j ihj =>
      intro hj
      have h1 := ihj (by omega)
      have h2 := (hl j (by omega)).2
      rw [zmb]
      split
      · exact h1
      · split <;> omega
  intro m
  induction m with
  | zero => intro j hj hm; omega
  | succ m ih =>
    intro j hj hm
    rw [f_X2_longestBefore_L5]
    rcases Nat.lt_or_ge j r with z | z
    · obtain ⟨o3, o4⟩ := ho j (by omega)
      obtain ⟨⟨h1, h2, h3, h4⟩, b1, b2, b3, b4, b5⟩ := h.2 (o j) o4
      obtain ⟨l1, l2⟩ := hl j z
      have hbj := hb j (by omega)
      have hnj : ¬ r ≤ j := by omega
      have ih1 := ih (j + 1) (by omega) (by omega)
      rw [zmb] at ih1
      simp (disch := omega) only [sf_g, sf_b, sf_n, sf_c0, sf_c1, sf_c2, sf_c3, sf_c4, sf_c5, sf_c6, il_0, il_1, il_2, il_3, il_4, il_5, il_6, il_7, il_8, il_9, il_10, il_11, il_12, il_16, il_20, il_32, il_44, il_45, il_48, il_50, il_57, il_59, il_60, il_64, il_74, il_98, il_99, il_100, il_108, il_109, il_110, il_111, il_112, il_113, il_115, il_119, il_120, il_158, il_255, il_1106, il_2147483647, nI_add, nI_mul, nI_sub, nI_clamp, nI_inT, nI_eqP, nI_leP, nI_ltP, nI_neP, nI_nnP, nI_nlP, nI_nltP, nI_nleP, nI_div, nI_subneg, nI_if, if_true, if_false, ite_true, ite_false, ↓reduceIte, nI_spos, nI_szero, Nat.add_zero, sf_t1, sf_c7, sf_c8, sf_c9, n1_0, n4_0, n4_1, hnj, o1, o3, g3, h4, l1]
      split
      · rename_i e
        rw [if_pos e] at ih1
        exact ih1
      · rename_i e
        rw [if_neg e] at ih1
        exact ih1
    · have e : j = r := by omega
      subst e
      simp (disch := omega) only [sf_g, sf_b, sf_n, sf_c0, sf_c1, sf_c2, sf_c3, sf_c4, sf_c5, sf_c6, il_0, il_1, il_2, il_3, il_4, il_5, il_6, il_7, il_8, il_9, il_10, il_11, il_12, il_16, il_20, il_32, il_44, il_45, il_48, il_50, il_57, il_59, il_60, il_64, il_74, il_98, il_99, il_100, il_108, il_109, il_110, il_111, il_112, il_113, il_115, il_119, il_120, il_158, il_255, il_1106, il_2147483647, nI_add, nI_mul, nI_sub, nI_clamp, nI_inT, nI_eqP, nI_leP, nI_ltP, nI_neP, nI_nnP, nI_nlP, nI_nltP, nI_nleP, nI_div, nI_subneg, nI_if, if_true, if_false, ite_true, ite_false, ↓reduceIte, nI_spos, nI_szero, Nat.add_zero, sf_t1, sf_c7, sf_c8, sf_c9, n1_0, n4_0, n4_1, Nat.le_refl]
theorem lo_lc2 (h : zHB n bg bs bt be G S T E) (hz : zo (zbf S T) n) {k : (Nat → Int32) → Option (Int32 × (Nat → Int32) × (Nat → Int32))} : ∀ m j, j ≤ n → n - j < m → ∀ w, (∀ b, b < j → w (zrk (zbf S T) n b) = nI b) → ∃ w', (∀ b, b < n → w' (zrk (zbf S T) n b) = nI b) ∧ f_X2_longestChain_L2 (nI n) bs bt k m (nI j) w = k w' := by
  have hn := h.1
  intro m
  induction m with
  | zero => intro j hj hm; omega
  | succ m ih =>
    intro j hj hm w hw
    rw [f_X2_longestChain_L2]
    rcases Nat.lt_or_ge j n with z | z
    · have hnj : ¬ n ≤ j := by omega
      have hr := zrk_lt hz z
      obtain ⟨w', h1, h2⟩ := ih (j + 1) (by omega) (by omega) (upd w (zrk (zbf S T) n j) (nI j)) (fun b hb => by
        rcases Nat.lt_or_ge b j with y | y
        · rw [upd_neP (fun e => by have := zrk_inj hz (by omega) z e; omega)]
          exact hw b y
        · have : b = j := by omega
          subst this
          exact upd_eqP rfl)
      refine ⟨w', h1, ?_⟩
      rw [← h2, fb_rank h z]
      simp (disch := omega) only [sf_g, sf_b, sf_n, sf_c0, sf_c1, sf_c2, sf_c3, sf_c4, sf_c5, sf_c6, il_0, il_1, il_2, il_3, il_4, il_5, il_6, il_7, il_8, il_9, il_10, il_11, il_12, il_16, il_20, il_32, il_44, il_45, il_48, il_50, il_57, il_59, il_60, il_64, il_74, il_98, il_99, il_100, il_108, il_109, il_110, il_111, il_112, il_113, il_115, il_119, il_120, il_158, il_255, il_1106, il_2147483647, nI_add, nI_mul, nI_sub, nI_clamp, nI_inT, nI_eqP, nI_leP, nI_ltP, nI_neP, nI_nnP, nI_nlP, nI_nltP, nI_nleP, nI_div, nI_subneg, nI_if, if_true, if_false, ite_true, ite_false, ↓reduceIte, nI_spos, nI_szero, Nat.add_zero, sf_t1, sf_c7, sf_c8, sf_c9, n1_0, n4_0, n4_1, hnj]
    · have e : j = n := by omega
      subst e
      refine ⟨w, hw, ?_⟩
      simp (disch := omega) only [sf_g, sf_b, sf_n, sf_c0, sf_c1, sf_c2, sf_c3, sf_c4, sf_c5, sf_c6, il_0, il_1, il_2, il_3, il_4, il_5, il_6, il_7, il_8, il_9, il_10, il_11, il_12, il_16, il_20, il_32, il_44, il_45, il_48, il_50, il_57, il_59, il_60, il_64, il_74, il_98, il_99, il_100, il_108, il_109, il_110, il_111, il_112, il_113, il_115, il_119, il_120, il_158, il_255, il_1106, il_2147483647, nI_add, nI_mul, nI_sub, nI_clamp, nI_inT, nI_eqP, nI_leP, nI_ltP, nI_neP, nI_nnP, nI_nlP, nI_nltP, nI_nleP, nI_div, nI_subneg, nI_if, if_true, if_false, ite_true, ite_false, ↓reduceIte, nI_spos, nI_szero, Nat.add_zero, sf_t1, sf_c7, sf_c8, sf_c9, n1_0, n4_0, n4_1, Nat.le_refl]
theorem lo_lc31 (h : zHB n bg bs bt be G S T E) {ko : Nat → Int32} {o : Nat → Nat} (ho : ∀ i, i < n → ko i = nI (o i) ∧ o i < n) {k : Int32 → (Nat → Int32) → Option (Int32 × (Nat → Int32) × (Nat → Int32))} : ∀ m r, r ≤ n → n - r < m → ∀ w, (∀ i, i < r → w i = nI (zl (fun r => T (o r)) (fun r => E (o r)) i)) → ∃ w', f_X2_longestChain_L31 (nI n) bt be ko k m (nI r) (nI (zm (zl (fun r => T (o r)) (fun r => E (o r))) r)) w = k (nI (zm (zl (fun r => T (o r)) (fun r => E (o r))) n)) w' := by
  have hn := h.1
  intro m
  induction m with
  | zero => intro j hj hm; omega
  | succ m ih =>
    intro r hr hm w hw
    rw [f_X2_longestChain_L31]
    rcases Nat.lt_or_ge r n with z | z
    · have hnr : ¬ n ≤ r := by omega
      have hlb := lo_lb h z ho (kl := w) (l := zl (fun r => T (o r)) (fun r => E (o r))) (fun i hi => ⟨hw i hi, zl_le (i + 1) i (by omega)⟩) (k := fun y => some y) 2000 0 (Nat.zero_le _) (by omega)
      have hlb2 : f_X2_longestBefore ko w bt be (nI r) = some (nI (zmb (fun r => T (o r)) (fun r => E (o r)) (zl (fun r => T (o r)) (fun r => E (o r))) r r)) := hlb
      have hle := zl_le (t := fun r => T (o r)) (f := fun r => E (o r)) (r + 1) r (by omega)
      have heq := zl_eq (t := fun r => T (o r)) (f := fun r => E (o r)) r
      have hzm : zm (zl (fun r => T (o r)) (fun r => E (o r))) r ≤ 12 := zm_le (fun i hi => by
        have := zl_le (t := fun r => T (o r)) (f := fun r => E (o r)) (i + 1) i (by omega)
        omega)
      obtain ⟨w', h1⟩ := ih (r + 1) (by omega) (by omega) (upd w r (nI (zl (fun r => T (o r)) (fun r => E (o r)) r))) (fun i hi => by
        rcases Nat.lt_or_ge i r with y | y
        · rw [upd_neP (by omega)]
          exact hw i y
        · have : i = r := by omega
          subst this
          exact upd_eqP rfl)
      refine ⟨w', ?_⟩
      rw [← h1, hlb2]
      have e1 : nI 1 + nI (zmb (fun r => T (o r)) (fun r => E (o r)) (zl (fun r => T (o r)) (fun r => E (o r))) r r) = nI (zl (fun r => T (o r)) (fun r => E (o r)) r) := by rw [nI_add, ← heq]
      have e2 : upd w r (nI (zl (fun r => T (o r)) (fun r => E (o r)) r)) r = nI (zl (fun r => T (o r)) (fun r => E (o r)) r) := upd_eqP rfl
      have e3 : (nI n ≤ nI r) = False := eq_false (by rw [nI_leP (by omega) (by omega)]; omega)
      have e4 : (sf_in (nI r) 12 = true) = True := nI_inT (by omega) (by omega)
      have e5 : (nI r).toNatClampNeg = r := nI_clamp (by omega)
      simp only [sf_b, sf_c1, sf_g, sf_n, e3, e4, e5, if_false, if_true, il_1, e1, e2]
      simp (disch := omega) only [nI_ltP, nI_if, nI_add, zm]
    · have e : r = n := by omega
      subst e
      refine ⟨w, ?_⟩
      simp (disch := omega) only [sf_g, sf_b, sf_n, sf_c0, sf_c1, sf_c2, sf_c3, sf_c4, sf_c5, sf_c6, il_0, il_1, il_2, il_3, il_4, il_5, il_6, il_7, il_8, il_9, il_10, il_11, il_12, il_16, il_20, il_32, il_44, il_45, il_48, il_50, il_57, il_59, il_60, il_64, il_74, il_98, il_99, il_100, il_108, il_109, il_110, il_111, il_112, il_113, il_115, il_119, il_120, il_158, il_255, il_1106, il_2147483647, nI_add, nI_mul, nI_sub, nI_clamp, nI_inT, nI_eqP, nI_leP, nI_ltP, nI_neP, nI_nnP, nI_nlP, nI_nltP, nI_nleP, nI_div, nI_subneg, nI_if, if_true, if_false, ite_true, ite_false, ↓reduceIte, nI_spos, nI_szero, Nat.add_zero, sf_t1, sf_c7, sf_c8, sf_c9, n1_0, n4_0, n4_1, Nat.le_refl]
theorem zch_of (h : zHB n bg bs bt be G S T E) (hz : zo (zbf S T) n) {o : Nat → Nat} (ho : ∀ r, r < n → o r < n ∧ zrk (zbf S T) n (o r) = r) : zch T E n o := by
  refine ⟨fun k hk => ?_, fun r hr => (ho r hr).1, fun k hk => ?_, fun r r' h1 h2 => ?_⟩
  · have := (h.2 k hk).2
    unfold zI
    omega
  · have h1 := zrk_lt hz hk
    exact ⟨_, h1, zrk_inj hz (ho _ h1).1 hk (ho _ h1).2⟩
  · have h3 := ho r (by omega)
    have h4 := ho r' h2
    have h5 := of_decide_eq_true (zrk_back hz h3.1 h4.1 (by omega))
    omega
/-- both ways: c bookings can be watched -/
theorem fc_both (h : zHB n bg bs bt be G S T E) (hz : zo (zbf S T) n) (ko kl : Nat → Int32) : ∃ c, c ≤ n ∧ zgc T E n c ∧ f_X1_watchedByEarliestEnd (nI n) bt be = some (nI c) ∧ ∃ ko' kl', f_X2_longestChain ko kl (nI n) bs bt be = some (nI c, ko', kl') := by
  obtain ⟨o, ho⟩ := zrk_ord hz
  have hc := zch_of h hz ho
  obtain ⟨c, c1, c2⟩ := zgc_ex hc
  refine ⟨c, c1, c2, fb_watch h c1 c2, ?_⟩
  obtain ⟨w, w1, w2⟩ := lo_lc2 h hz (k := fun z_6 => f_X2_longestChain_L31 (nI n) bt be z_6 (fun y_14 z_15 => some (y_14, z_6, z_15)) 2000 0 0 kl) 2000 0 (Nat.zero_le _) (by have := h.1; omega) ko (fun b hb => absurd hb (Nat.not_lt_zero b))
  have hw : ∀ i, i < n → w i = nI (o i) ∧ o i < n := fun i hi => by
    obtain ⟨a1, a2⟩ := ho i hi
    refine ⟨?_, a1⟩
    have := w1 (o i) a1
    rw [a2] at this
    exact this
  obtain ⟨w', h3⟩ := lo_lc31 h hw (k := fun y_14 z_15 => some (y_14, w, z_15)) 2000 0 (Nat.zero_le _) (by have := h.1; omega) kl (fun i hi => absurd hi (Nat.not_lt_zero i))
  rw [zgc_zm hc c2] at h3
  exact ⟨w, w', Eq.trans w2 h3⟩
end CHN
