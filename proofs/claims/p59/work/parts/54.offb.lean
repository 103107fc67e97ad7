/-! the office's bookings: each loop's answer -/
def zHB (n : Nat) (bg bs bt be : Nat → Int32) (G S T E : Nat → Nat) : Prop := n ≤ 12 ∧ ∀ k, k < n → (bg k = nI (G k) ∧ bs k = nI (S k) ∧ bt k = nI (T k) ∧ be k = nI (E k)) ∧ G k < 100 ∧ S k < 100 ∧ T k < 100000000 ∧ E k < 100000000 ∧ T k < E k
theorem lt_ext {P : Nat → Bool} {j : Nat} {b : Bool} (h : ∀ i, i < j → P i = b) (hj : P j = b) : ∀ i, i < j + 1 → P i = b := fun i hi => by
  rcases Nat.lt_or_ge i j with y | y
  · exact h i y
  · have : i = j := by omega
    subst this; exact hj
section OFFB
variable {n : Nat} {bg bs bt be : Nat → Int32} {G S T E : Nat → Nat}
theorem fb_meets (h : zHB n bg bs bt be G S T E) {j t e : Nat} (hj : j < n) (ht : t < 100000000) (he : e < 100000000) : ((T j < e ∧ t < E j) → f_X1_meets bt be (nI j) (nI t) (nI e) = some (nI 1)) ∧ (¬ (T j < e ∧ t < E j) → f_X1_meets bt be (nI j) (nI t) (nI e) = some (nI 0)) := by
  have hn := h.1
  obtain ⟨⟨h1, h2, h3, h4⟩, b1, b2, b3, b4, b5⟩ := h.2 j hj
  constructor
  · intro ⟨c1, c2⟩
    have c1' : ¬ e ≤ T j := by omega
    have c2' : ¬ E j ≤ t := by omega
    simp (disch := omega) only [sf_g, sf_b, sf_n, sf_c0, sf_c1, sf_c2, sf_c3, sf_c4, sf_c5, sf_c6, il_0, il_1, il_2, il_3, il_4, il_5, il_6, il_7, il_8, il_9, il_10, il_11, il_12, il_16, il_20, il_32, il_44, il_45, il_48, il_50, il_57, il_59, il_60, il_64, il_74, il_98, il_99, il_100, il_108, il_109, il_110, il_111, il_112, il_113, il_115, il_119, il_120, il_158, il_255, il_1106, il_2147483647, nI_add, nI_mul, nI_sub, nI_clamp, nI_inT, nI_eqP, nI_leP, nI_ltP, nI_neP, nI_nnP, nI_nlP, nI_nltP, nI_nleP, nI_div, nI_subneg, nI_if, if_true, if_false, ite_true, ite_false, ↓reduceIte, nI_spos, nI_szero, Nat.add_zero, sf_t1, sf_c7, sf_c8, sf_c9, n1_0, n4_0, n4_1, f_X1_meets, h3, h4, c1', c2']
  · intro c
    by_cases c1 : e ≤ T j
    · simp (disch := omega) only [sf_g, sf_b, sf_n, sf_c0, sf_c1, sf_c2, sf_c3, sf_c4, sf_c5, sf_c6, il_0, il_1, il_2, il_3, il_4, il_5, il_6, il_7, il_8, il_9, il_10, il_11, il_12, il_16, il_20, il_32, il_44, il_45, il_48, il_50, il_57, il_59, il_60, il_64, il_74, il_98, il_99, il_100, il_108, il_109, il_110, il_111, il_112, il_113, il_115, il_119, il_120, il_158, il_255, il_1106, il_2147483647, nI_add, nI_mul, nI_sub, nI_clamp, nI_inT, nI_eqP, nI_leP, nI_ltP, nI_neP, nI_nnP, nI_nlP, nI_nltP, nI_nleP, nI_div, nI_subneg, nI_if, if_true, if_false, ite_true, ite_false, ↓reduceIte, nI_spos, nI_szero, Nat.add_zero, sf_t1, sf_c7, sf_c8, sf_c9, n1_0, n4_0, n4_1, f_X1_meets, h3, h4, c1]
    · have c2 : E j ≤ t := by omega
      simp (disch := omega) only [sf_g, sf_b, sf_n, sf_c0, sf_c1, sf_c2, sf_c3, sf_c4, sf_c5, sf_c6, il_0, il_1, il_2, il_3, il_4, il_5, il_6, il_7, il_8, il_9, il_10, il_11, il_12, il_16, il_20, il_32, il_44, il_45, il_48, il_50, il_57, il_59, il_60, il_64, il_74, il_98, il_99, il_100, il_108, il_109, il_110, il_111, il_112, il_113, il_115, il_119, il_120, il_158, il_255, il_1106, il_2147483647, nI_add, nI_mul, nI_sub, nI_clamp, nI_inT, nI_eqP, nI_leP, nI_ltP, nI_neP, nI_nnP, nI_nlP, nI_nltP, nI_nleP, nI_div, nI_subneg, nI_if, if_true, if_false, ite_true, ite_false, ↓reduceIte, nI_spos, nI_szero, Nat.add_zero, sf_t1, sf_c7, sf_c8, sf_c9, n1_0, n4_0, n4_1, f_X1_meets, h3, h4, c1, c2]
theorem fb_takes (h : zHB n bg bs bt be G S T E) {j t : Nat} (hj : j < n) (ht : t < 100000000) : ((T j ≤ t ∧ t < E j) → f_X1_takesPlaceAt bt be (nI j) (nI t) = some (nI 1)) ∧ (¬ (T j ≤ t ∧ t < E j) → f_X1_takesPlaceAt bt be (nI j) (nI t) = some (nI 0)) := by
  have hn := h.1
  obtain ⟨⟨h1, h2, h3, h4⟩, b1, b2, b3, b4, b5⟩ := h.2 j hj
  constructor
  · intro ⟨c1, c2⟩
    have c1' : ¬ t < T j := by omega
    have c2' : ¬ E j ≤ t := by omega
    simp (disch := omega) only [sf_g, sf_b, sf_n, sf_c0, sf_c1, sf_c2, sf_c3, sf_c4, sf_c5, sf_c6, il_0, il_1, il_2, il_3, il_4, il_5, il_6, il_7, il_8, il_9, il_10, il_11, il_12, il_16, il_20, il_32, il_44, il_45, il_48, il_50, il_57, il_59, il_60, il_64, il_74, il_98, il_99, il_100, il_108, il_109, il_110, il_111, il_112, il_113, il_115, il_119, il_120, il_158, il_255, il_1106, il_2147483647, nI_add, nI_mul, nI_sub, nI_clamp, nI_inT, nI_eqP, nI_leP, nI_ltP, nI_neP, nI_nnP, nI_nlP, nI_nltP, nI_nleP, nI_div, nI_subneg, nI_if, if_true, if_false, ite_true, ite_false, ↓reduceIte, nI_spos, nI_szero, Nat.add_zero, sf_t1, sf_c7, sf_c8, sf_c9, n1_0, n4_0, n4_1, f_X1_takesPlaceAt, h3, h4, c1', c2']
  · intro c
    by_cases c1 : t < T j
    · simp (disch := omega) only [sf_g, sf_b, sf_n, sf_c0, sf_c1, sf_c2, sf_c3, sf_c4, sf_c5, sf_c6, il_0, il_1, il_2, il_3, il_4, il_5, il_6, il_7, il_8, il_9, il_10, il_11, il_12, il_16, il_20, il_32, il_44, il_45, il_48, il_50, il_57, il_59, il_60, il_64, il_74, il_98, il_99, il_100, il_108, il_109, il_110, il_111, il_112, il_113, il_115, il_119, il_120, il_158, il_255, il_1106, il_2147483647, nI_add, nI_mul, nI_sub, nI_clamp, nI_inT, nI_eqP, nI_leP, nI_ltP, nI_neP, nI_nnP, nI_nlP, nI_nltP, nI_nleP, nI_div, nI_subneg, nI_if, if_true, if_false, ite_true, ite_false, ↓reduceIte, nI_spos, nI_szero, Nat.add_zero, sf_t1, sf_c7, sf_c8, sf_c9, n1_0, n4_0, n4_1, f_X1_takesPlaceAt, h3, h4, c1]
    · have c2 : E j ≤ t := by omega
      simp (disch := omega) only [sf_g, sf_b, sf_n, sf_c0, sf_c1, sf_c2, sf_c3, sf_c4, sf_c5, sf_c6, il_0, il_1, il_2, il_3, il_4, il_5, il_6, il_7, il_8, il_9, il_10, il_11, il_12, il_16, il_20, il_32, il_44, il_45, il_48, il_50, il_57, il_59, il_60, il_64, il_74, il_98, il_99, il_100, il_108, il_109, il_110, il_111, il_112, il_113, il_115, il_119, il_120, il_158, il_255, il_1106, il_2147483647, nI_add, nI_mul, nI_sub, nI_clamp, nI_inT, nI_eqP, nI_leP, nI_ltP, nI_neP, nI_nnP, nI_nlP, nI_nltP, nI_nleP, nI_div, nI_subneg, nI_if, if_true, if_false, ite_true, ite_false, ↓reduceIte, nI_spos, nI_szero, Nat.add_zero, sf_t1, sf_c7, sf_c8, sf_c9, n1_0, n4_0, n4_1, f_X1_takesPlaceAt, h3, h4, c1, c2]
def zPf (S T E : Nat → Nat) (s t e i : Nat) : Bool := decide (S i = s ∧ T i < e ∧ t < E i)
set_option maxHeartbeats 1000000 in
theorem lo_isSlideFree (h : zHB n bg bs bt be G S T E) {s t e : Nat} (hs : s < 100) (ht : t < 100000000) (he : e < 100000000) {k : Unit → Option Int32} {R : Option Int32} (hR : ∀ b, b < n → zPf S T E s t e b = true → some (nI 0) = R) (hN : (∀ i, i < n → zPf S T E s t e i = false) → k () = R) : ∀ m j, j ≤ n → n - j < m → (∀ i, i < j → zPf S T E s t e i = false) → f_X1_isSlideFree_L3 (nI n) bs bt be (nI s) (nI t) (nI e) k m (nI j) = R := by
  have hn := h.1
  intro m
  induction m with
  | zero => intro j hj hm; omega
  | succ m ih =>
    intro j hj hm hno
    rw [f_X1_isSlideFree_L3]
    rcases Nat.lt_or_ge j n with z | z
    · obtain ⟨⟨h1, h2, h3, h4⟩, b1, b2, b3, b4, b5⟩ := h.2 j z
      have hnj : ¬ n ≤ j := by omega
      have no : zPf S T E s t e j = false → f_X1_isSlideFree_L3 (nI n) bs bt be (nI s) (nI t) (nI e) k m (nI (j + 1)) = R := fun hf => ih (j + 1) (by omega) (by omega) (lt_ext hno hf)
      have yes : zPf S T E s t e j = true → some (nI 0) = R := hR j z
      by_cases c : T j < e ∧ t < E j
      · have hmt := (fb_meets h z ht he).1 c
        simp (disch := omega) only [sf_g, sf_b, sf_n, sf_c0, sf_c1, sf_c2, sf_c3, sf_c4, sf_c5, sf_c6, il_0, il_1, il_2, il_3, il_4, il_5, il_6, il_7, il_8, il_9, il_10, il_11, il_12, il_16, il_20, il_32, il_44, il_45, il_48, il_50, il_57, il_59, il_60, il_64, il_74, il_98, il_99, il_100, il_108, il_109, il_110, il_111, il_112, il_113, il_115, il_119, il_120, il_158, il_255, il_1106, il_2147483647, nI_add, nI_mul, nI_sub, nI_clamp, nI_inT, nI_eqP, nI_leP, nI_ltP, nI_neP, nI_nnP, nI_nlP, nI_nltP, nI_nleP, nI_div, nI_subneg, nI_if, if_true, if_false, ite_true, ite_false, ↓reduceIte, nI_spos, nI_szero, Nat.add_zero, sf_t1, sf_c7, sf_c8, sf_c9, n1_0, n4_0, n4_1, hmt, hnj, h1, h2, h3, h4]
        repeat' split
        all_goals first
          | exact no (decide_eq_false (by omega))
          | exact yes (decide_eq_true (by omega))
      · have hmt := (fb_meets h z ht he).2 c
        simp (disch := omega) only [sf_g, sf_b, sf_n, sf_c0, sf_c1, sf_c2, sf_c3, sf_c4, sf_c5, sf_c6, il_0, il_1, il_2, il_3, il_4, il_5, il_6, il_7, il_8, il_9, il_10, il_11, il_12, il_16, il_20, il_32, il_44, il_45, il_48, il_50, il_57, il_59, il_60, il_64, il_74, il_98, il_99, il_100, il_108, il_109, il_110, il_111, il_112, il_113, il_115, il_119, il_120, il_158, il_255, il_1106, il_2147483647, nI_add, nI_mul, nI_sub, nI_clamp, nI_inT, nI_eqP, nI_leP, nI_ltP, nI_neP, nI_nnP, nI_nlP, nI_nltP, nI_nleP, nI_div, nI_subneg, nI_if, if_true, if_false, ite_true, ite_false, ↓reduceIte, nI_spos, nI_szero, Nat.add_zero, sf_t1, sf_c7, sf_c8, sf_c9, n1_0, n4_0, n4_1, hmt, hnj, h1, h2, h3, h4]
        repeat' split
        all_goals first
          | exact no (decide_eq_false (by omega))
          | exact yes (decide_eq_true (by omega))
    · have e : j = n := by omega
      subst e
      simp (disch := omega) only [sf_g, sf_b, sf_n, sf_c0, sf_c1, sf_c2, sf_c3, sf_c4, sf_c5, sf_c6, il_0, il_1, il_2, il_3, il_4, il_5, il_6, il_7, il_8, il_9, il_10, il_11, il_12, il_16, il_20, il_32, il_44, il_45, il_48, il_50, il_57, il_59, il_60, il_64, il_74, il_98, il_99, il_100, il_108, il_109, il_110, il_111, il_112, il_113, il_115, il_119, il_120, il_158, il_255, il_1106, il_2147483647, nI_add, nI_mul, nI_sub, nI_clamp, nI_inT, nI_eqP, nI_leP, nI_ltP, nI_neP, nI_nnP, nI_nlP, nI_nltP, nI_nleP, nI_div, nI_subneg, nI_if, if_true, if_false, ite_true, ite_false, ↓reduceIte, nI_spos, nI_szero, Nat.add_zero, sf_t1, sf_c7, sf_c8, sf_c9, n1_0, n4_0, n4_1, Nat.le_refl]
      exact hN hno
def zPa (G S T E : Nat → Nat) (g s t e i : Nat) : Bool := decide ((G i = g ∨ S i = s) ∧ T i < e ∧ t < E i)
set_option maxHeartbeats 1000000 in
theorem lo_areFree (h : zHB n bg bs bt be G S T E) {g s t e : Nat} (hg : g < 100) (hs : s < 100) (ht : t < 100000000) (he : e < 100000000) {k : Unit → Option Int32} {R : Option Int32} (hR : ∀ b, b < n → zPa G S T E g s t e b = true → some (nI 0) = R) (hN : (∀ i, i < n → zPa G S T E g s t e i = false) → k () = R) : ∀ m j, j ≤ n → n - j < m → (∀ i, i < j → zPa G S T E g s t e i = false) → f_X1_areFree_L3 (nI n) bg bs bt be (nI g) (nI s) (nI t) (nI e) k m (nI j) = R := by
  have hn := h.1
  intro m
  induction m with
  | zero => intro j hj hm; omega
  | succ m ih =>
    intro j hj hm hno
    rw [f_X1_areFree_L3]
    rcases Nat.lt_or_ge j n with z | z
    · obtain ⟨⟨h1, h2, h3, h4⟩, b1, b2, b3, b4, b5⟩ := h.2 j z
      have hnj : ¬ n ≤ j := by omega
      have no : zPa G S T E g s t e j = false → f_X1_areFree_L3 (nI n) bg bs bt be (nI g) (nI s) (nI t) (nI e) k m (nI (j + 1)) = R := fun hf => ih (j + 1) (by omega) (by omega) (lt_ext hno hf)
      have yes : zPa G S T E g s t e j = true → some (nI 0) = R := hR j z
      by_cases c : T j < e ∧ t < E j
      · have hmt := (fb_meets h z ht he).1 c
        simp (disch := omega) only [sf_g, sf_b, sf_n, sf_c0, sf_c1, sf_c2, sf_c3, sf_c4, sf_c5, sf_c6, il_0, il_1, il_2, il_3, il_4, il_5, il_6, il_7, il_8, il_9, il_10, il_11, il_12, il_16, il_20, il_32, il_44, il_45, il_48, il_50, il_57, il_59, il_60, il_64, il_74, il_98, il_99, il_100, il_108, il_109, il_110, il_111, il_112, il_113, il_115, il_119, il_120, il_158, il_255, il_1106, il_2147483647, nI_add, nI_mul, nI_sub, nI_clamp, nI_inT, nI_eqP, nI_leP, nI_ltP, nI_neP, nI_nnP, nI_nlP, nI_nltP, nI_nleP, nI_div, nI_subneg, nI_if, if_true, if_false, ite_true, ite_false, ↓reduceIte, nI_spos, nI_szero, Nat.add_zero, sf_t1, sf_c7, sf_c8, sf_c9, n1_0, n4_0, n4_1, hmt, hnj, h1, h2, h3, h4]
        repeat' split
        all_goals first
          | exact no (decide_eq_false (by omega))
          | exact yes (decide_eq_true (by omega))
      · have hmt := (fb_meets h z ht he).2 c
        simp (disch := omega) only [sf_g, sf_b, sf_n, sf_c0, sf_c1, sf_c2, sf_c3, sf_c4, sf_c5, sf_c6, il_0, il_1, il_2, il_3, il_4, il_5, il_6, il_7, il_8, il_9, il_10, il_11, il_12, il_16, il_20, il_32, il_44, il_45, il_48, il_50, il_57, il_59, il_60, il_64, il_74, il_98, il_99, il_100, il_108, il_109, il_110, il_111, il_112, il_113, il_115, il_119, il_120, il_158, il_255, il_1106, il_2147483647, nI_add, nI_mul, nI_sub, nI_clamp, nI_inT, nI_eqP, nI_leP, nI_ltP, nI_neP, nI_nnP, nI_nlP, nI_nltP, nI_nleP, nI_div, nI_subneg, nI_if, if_true, if_false, ite_true, ite_false, ↓reduceIte, nI_spos, nI_szero, Nat.add_zero, sf_t1, sf_c7, sf_c8, sf_c9, n1_0, n4_0, n4_1, hmt, hnj, h1, h2, h3, h4]
        repeat' split
        all_goals first
          | exact no (decide_eq_false (by omega))
          | exact yes (decide_eq_true (by omega))
    · have e : j = n := by omega
      subst e
      simp (disch := omega) only [sf_g, sf_b, sf_n, sf_c0, sf_c1, sf_c2, sf_c3, sf_c4, sf_c5, sf_c6, il_0, il_1, il_2, il_3, il_4, il_5, il_6, il_7, il_8, il_9, il_10, il_11, il_12, il_16, il_20, il_32, il_44, il_45, il_48, il_50, il_57, il_59, il_60, il_64, il_74, il_98, il_99, il_100, il_108, il_109, il_110, il_111, il_112, il_113, il_115, il_119, il_120, il_158, il_255, il_1106, il_2147483647, nI_add, nI_mul, nI_sub, nI_clamp, nI_inT, nI_eqP, nI_leP, nI_ltP, nI_neP, nI_nnP, nI_nlP, nI_nltP, nI_nleP, nI_div, nI_subneg, nI_if, if_true, if_false, ite_true, ite_false, ↓reduceIte, nI_spos, nI_szero, Nat.add_zero, sf_t1, sf_c7, sf_c8, sf_c9, n1_0, n4_0, n4_1, Nat.le_refl]
      exact hN hno
def zPo (S T E : Nat → Nat) (s t i : Nat) : Bool := decide (S i = s ∧ T i ≤ t ∧ t < E i)
set_option maxHeartbeats 1000000 in
theorem lo_onSlideAt (h : zHB n bg bs bt be G S T E) {s t : Nat} (hs : s < 100) (ht : t < 100000000) {k : Unit → Option Int32} {R : Option Int32} (hR : ∀ b, b < n → zPo S T E s t b = true → some (nI b) = R) (hN : (∀ i, i < n → zPo S T E s t i = false) → k () = R) : ∀ m j, j ≤ n → n - j < m → (∀ i, i < j → zPo S T E s t i = false) → f_X1_onSlideAt_L2 (nI n) bs bt be (nI s) (nI t) k m (nI j) = R := by
  have hn := h.1
  intro m
  induction m with
  | zero => intro j hj hm; omega
  | succ m ih =>
    intro j hj hm hno
    rw [f_X1_onSlideAt_L2]
    rcases Nat.lt_or_ge j n with z | z
    · obtain ⟨⟨h1, h2, h3, h4⟩, b1, b2, b3, b4, b5⟩ := h.2 j z
      have hnj : ¬ n ≤ j := by omega
      have no : zPo S T E s t j = false → f_X1_onSlideAt_L2 (nI n) bs bt be (nI s) (nI t) k m (nI (j + 1)) = R := fun hf => ih (j + 1) (by omega) (by omega) (lt_ext hno hf)
      have yes : zPo S T E s t j = true → some (nI j) = R := hR j z
      by_cases c : T j ≤ t ∧ t < E j
      · have hmt := (fb_takes h z ht).1 c
        simp (disch := omega) only [sf_g, sf_b, sf_n, sf_c0, sf_c1, sf_c2, sf_c3, sf_c4, sf_c5, sf_c6, il_0, il_1, il_2, il_3, il_4, il_5, il_6, il_7, il_8, il_9, il_10, il_11, il_12, il_16, il_20, il_32, il_44, il_45, il_48, il_50, il_57, il_59, il_60, il_64, il_74, il_98, il_99, il_100, il_108, il_109, il_110, il_111, il_112, il_113, il_115, il_119, il_120, il_158, il_255, il_1106, il_2147483647, nI_add, nI_mul, nI_sub, nI_clamp, nI_inT, nI_eqP, nI_leP, nI_ltP, nI_neP, nI_nnP, nI_nlP, nI_nltP, nI_nleP, nI_div, nI_subneg, nI_if, if_true, if_false, ite_true, ite_false, ↓reduceIte, nI_spos, nI_szero, Nat.add_zero, sf_t1, sf_c7, sf_c8, sf_c9, n1_0, n4_0, n4_1, hmt, hnj, h1, h2, h3, h4]
        repeat' split
        all_goals first
          | exact no (decide_eq_false (by omega))
          | exact yes (decide_eq_true (by omega))
      · have hmt := (fb_takes h z ht).2 c
        simp (disch := omega) only [sf_g, sf_b, sf_n, sf_c0, sf_c1, sf_c2, sf_c3, sf_c4, sf_c5, sf_c6, il_0, il_1, il_2, il_3, il_4, il_5, il_6, il_7, il_8, il_9, il_10, il_11, il_12, il_16, il_20, il_32, il_44, il_45, il_48, il_50, il_57, il_59, il_60, il_64, il_74, il_98, il_99, il_100, il_108, il_109, il_110, il_111, il_112, il_113, il_115, il_119, il_120, il_158, il_255, il_1106, il_2147483647, nI_add, nI_mul, nI_sub, nI_clamp, nI_inT, nI_eqP, nI_leP, nI_ltP, nI_neP, nI_nnP, nI_nlP, nI_nltP, nI_nleP, nI_div, nI_subneg, nI_if, if_true, if_false, ite_true, ite_false, ↓reduceIte, nI_spos, nI_szero, Nat.add_zero, sf_t1, sf_c7, sf_c8, sf_c9, n1_0, n4_0, n4_1, hmt, hnj, h1, h2, h3, h4]
        repeat' split
        all_goals first
          | exact no (decide_eq_false (by omega))
          | exact yes (decide_eq_true (by omega))
    · have e : j = n := by omega
      subst e
      simp (disch := omega) only [sf_g, sf_b, sf_n, sf_c0, sf_c1, sf_c2, sf_c3, sf_c4, sf_c5, sf_c6, il_0, il_1, il_2, il_3, il_4, il_5, il_6, il_7, il_8, il_9, il_10, il_11, il_12, il_16, il_20, il_32, il_44, il_45, il_48, il_50, il_57, il_59, il_60, il_64, il_74, il_98, il_99, il_100, il_108, il_109, il_110, il_111, il_112, il_113, il_115, il_119, il_120, il_158, il_255, il_1106, il_2147483647, nI_add, nI_mul, nI_sub, nI_clamp, nI_inT, nI_eqP, nI_leP, nI_ltP, nI_neP, nI_nnP, nI_nlP, nI_nltP, nI_nleP, nI_div, nI_subneg, nI_if, if_true, if_false, ite_true, ite_false, ↓reduceIte, nI_spos, nI_szero, Nat.add_zero, sf_t1, sf_c7, sf_c8, sf_c9, n1_0, n4_0, n4_1, Nat.le_refl]
      exact hN hno
/-- a row that is there: its rank by start, then by slide -/
def zbf (S T : Nat → Nat) (i j : Nat) : Bool := decide (T i < T j ∨ T i = T j ∧ S i < S j)
set_option maxHeartbeats 1000000 in
theorem lo_rank (h : zHB n bg bs bt be G S T E) {b : Nat} (hb : b < n) {k : Int32 → Option Int32} : ∀ m j, j ≤ n → n - j < m → f_X1_rankByStart_L4 (nI n) bs bt (nI b) k m (nI j) (nI (zc (fun i => zbf S T i b) j)) = k (nI (zrk (zbf S T) n b)) := by
  have hn := h.1
  obtain ⟨⟨g1, g2, g3, g4⟩, c1, c2, c3, c4, c5⟩ := h.2 b hb
  intro m
  induction m with
  | zero => intro j hj hm; omega
  | succ m ih =>
    intro j hj hm
    rw [f_X1_rankByStart_L4]
    rcases Nat.lt_or_ge j n with z | z
    · obtain ⟨⟨h1, h2, h3, h4⟩, b1, b2, b3, b4, b5⟩ := h.2 j z
      have hnj : ¬ n ≤ j := by omega
      have ih1 := ih (j + 1) (by omega) (by omega)
      have no : zbf S T j b = false → f_X1_rankByStart_L4 (nI n) bs bt (nI b) k m (nI (j + 1)) (nI (zc (fun i => zbf S T i b) j)) = k (nI (zrk (zbf S T) n b)) := fun hf => by rw [← ih1, zc_f (P := fun i => zbf S T i b) hf]
      have yes : zbf S T j b = true → f_X1_rankByStart_L4 (nI n) bs bt (nI b) k m (nI (j + 1)) (nI (zc (fun i => zbf S T i b) j + 1)) = k (nI (zrk (zbf S T) n b)) := fun hf => by rw [← ih1, zc_t (P := fun i => zbf S T i b) hf]
      simp (disch := omega) only [sf_g, sf_b, sf_n, sf_c0, sf_c1, sf_c2, sf_c3, sf_c4, sf_c5, sf_c6, il_0, il_1, il_2, il_3, il_4, il_5, il_6, il_7, il_8, il_9, il_10, il_11, il_12, il_16, il_20, il_32, il_44, il_45, il_48, il_50, il_57, il_59, il_60, il_64, il_74, il_98, il_99, il_100, il_108, il_109, il_110, il_111, il_112, il_113, il_115, il_119, il_120, il_158, il_255, il_1106, il_2147483647, nI_add, nI_mul, nI_sub, nI_clamp, nI_inT, nI_eqP, nI_leP, nI_ltP, nI_neP, nI_nnP, nI_nlP, nI_nltP, nI_nleP, nI_div, nI_subneg, nI_if, if_true, if_false, ite_true, ite_false, ↓reduceIte, nI_spos, nI_szero, Nat.add_zero, sf_t1, sf_c7, sf_c8, sf_c9, n1_0, n4_0, n4_1, hnj, h1, h2, h3, h4, g1, g2, g3, g4]
      repeat' split
      all_goals first
        | exact no (decide_eq_false (by omega))
        | exact yes (decide_eq_true (by omega))
    · have e : j = n := by omega
      subst e
      simp (disch := omega) only [sf_g, sf_b, sf_n, sf_c0, sf_c1, sf_c2, sf_c3, sf_c4, sf_c5, sf_c6, il_0, il_1, il_2, il_3, il_4, il_5, il_6, il_7, il_8, il_9, il_10, il_11, il_12, il_16, il_20, il_32, il_44, il_45, il_48, il_50, il_57, il_59, il_60, il_64, il_74, il_98, il_99, il_100, il_108, il_109, il_110, il_111, il_112, il_113, il_115, il_119, il_120, il_158, il_255, il_1106, il_2147483647, nI_add, nI_mul, nI_sub, nI_clamp, nI_inT, nI_eqP, nI_leP, nI_ltP, nI_neP, nI_nnP, nI_nlP, nI_nltP, nI_nleP, nI_div, nI_subneg, nI_if, if_true, if_false, ite_true, ite_false, ↓reduceIte, nI_spos, nI_szero, Nat.add_zero, sf_t1, sf_c7, sf_c8, sf_c9, n1_0, n4_0, n4_1, Nat.le_refl]
      rfl
theorem fb_rank (h : zHB n bg bs bt be G S T E) {b : Nat} (hb : b < n) : f_X1_rankByStart (nI n) bs bt (nI b) = some (nI (zrk (zbf S T) n b)) := lo_rank h hb 2000 0 (Nat.zero_le _) (by have := h.1; omega)
/-- the loops that look for a booking: c is the one found so far, 99 where there is none -/
def zio (c : Nat) : Int32 := if c = 99 then -nI 1 else nI c
theorem zio_n : zio 99 = -nI 1 := if_pos rfl
theorem zio_c {c : Nat} (h : c < 99) : zio c = nI c := if_neg (by omega)
/-- p is the number before u -/
theorem nI_lep {p : Int32} {u x : Nat} (hp : p.toInt = (u : Int) - 1) (hx : x < 2 ^ 31) : (nI x ≤ p) = (x < u) := by
  rw [Int32.le_iff_toInt_le, nI_toInt hx, hp]
  exact propext ⟨fun _ => by omega, fun _ => by omega⟩
theorem nI_bef {u : Nat} (h : u < 2 ^ 31) : (nI u).toInt = ((u + 1 : Nat) : Int) - 1 := by rw [nI_toInt h]; omega
theorem nI_bef0 : (-nI 1).toInt = ((0 : Nat) : Int) - 1 := by rw [nI_m1 (by omega) (by omega)]; rfl
def znb (S T : Nat → Nat) (s u : Nat) : Nat → Nat
  | 0 => 99
  | j + 1 => if S j = s ∧ u ≤ T j ∧ (znb S T s u j = 99 ∨ T j < T (znb S T s u j)) then j else znb S T s u j
theorem znb_lt {S T : Nat → Nat} {s u : Nat} : ∀ j, znb S T s u j = 99 ∨ znb S T s u j < j
  | 0 => Or.inl rfl
  | j + 1 => by
    rw [znb]
    split
    · right; omega
    · rcases znb_lt j with h | h
      · exact Or.inl h
      · right; omega
theorem znb_none {S T : Nat → Nat} {s u : Nat} : ∀ {j : Nat}, j < 99 → znb S T s u j = 99 → ∀ k, k < j → S k = s → T k < u
  | 0, _, _, k, hk, _ => absurd hk (Nat.not_lt_zero k)
  | j + 1, hj, h, k, hk, hs => by
    rw [znb] at h
    split at h
    · omega
    · rename_i hc
      rcases Nat.lt_or_ge k j with z | z
      · exact znb_none (by omega) h k z hs
      · have : k = j := by omega
        subst this
        rcases Nat.lt_or_ge (T k) u with y | y
        · exact y
        · exact absurd ⟨hs, y, Or.inl h⟩ hc
theorem znb_some {S T : Nat → Nat} {s u : Nat} : ∀ {j : Nat}, j ≤ 99 → znb S T s u j ≠ 99 → zfi (fun k => decide (S k = s)) T j u (znb S T s u j)
  | 0, _, h => absurd rfl h
  | j + 1, hj, h => by
    rw [znb] at h ⊢
    split
    · rename_i hc
      obtain ⟨c1, c2, c3⟩ := hc
      refine ⟨by omega, decide_eq_true c1, c2, fun k k1 k2 k3 => ?_⟩
      rcases Nat.lt_or_ge k j with z | z
      · by_cases e : znb S T s u j = 99
        · have h2 := of_decide_eq_true k2
          have := znb_none (by omega) e k z h2
          omega
        · have h4 := (znb_some (by omega) e).2.2.2 k z k2 k3
          rcases c3 with c3 | c3
          · exact absurd c3 e
          · omega
      · have : k = j := by omega
        subst this; exact Nat.le_refl _
    · rename_i hc
      rw [if_neg hc] at h
      obtain ⟨g1, g2, g3, g4⟩ := znb_some (by omega) h
      refine ⟨by omega, g2, g3, fun k k1 k2 k3 => ?_⟩
      rcases Nat.lt_or_ge k j with z | z
      · exact g4 k z k2 k3
      · have : k = j := by omega
        subst this
        have h2 := of_decide_eq_true k2
        rcases Nat.lt_or_ge (T k) (T (znb S T s u k)) with y | y
        · exact absurd ⟨h2, k3, Or.inr y⟩ hc
        · exact y
set_option maxHeartbeats 1000000 in
theorem lo_next (h : zHB n bg bs bt be G S T E) {s u : Nat} (hs : s < 100) {p : Int32} (hp : p.toInt = (u : Int) - 1) {k : Int32 → Option Int32} : ∀ m j, j ≤ n → n - j < m → f_X1_nextOnSlide_L5 (nI n) bs bt (nI s) p k m (nI j) (zio (znb S T s u j)) = k (zio (znb S T s u n)) := by
  have hn := h.1
  intro m
  induction m with
  | zero => intro j hj hm; omega
  | succ m ih =>
    intro j hj hm
    rw [f_X1_nextOnSlide_L5]
    rcases Nat.lt_or_ge j n with z | z
    · obtain ⟨⟨h1, h2, h3, h4⟩, b1, b2, b3, b4, b5⟩ := h.2 j z
      have hnj : ¬ n ≤ j := by omega
      have ih1 := ih (j + 1) (by omega) (by omega)
      have hpj : (nI (T j) ≤ p) = (T j < u) := nI_lep hp (by omega)
      have no : ¬ (S j = s ∧ u ≤ T j ∧ (znb S T s u j = 99 ∨ T j < T (znb S T s u j))) → f_X1_nextOnSlide_L5 (nI n) bs bt (nI s) p k m (nI (j + 1)) (zio (znb S T s u j)) = k (zio (znb S T s u n)) := fun hf => by rw [← ih1, znb, if_neg hf]
      have yes : (S j = s ∧ u ≤ T j ∧ (znb S T s u j = 99 ∨ T j < T (znb S T s u j))) → f_X1_nextOnSlide_L5 (nI n) bs bt (nI s) p k m (nI (j + 1)) (nI j) = k (zio (znb S T s u n)) := fun hf => by rw [← ih1, znb, if_pos hf, zio_c (by omega)]
      rcases znb_lt (S := S) (T := T) (s := s) (u := u) j with e | e
      · rw [e, zio_n] at no ⊢
        rw [e] at yes
        simp (disch := omega) only [sf_g, sf_b, sf_n, sf_c0, sf_c1, sf_c2, sf_c3, sf_c4, sf_c5, sf_c6, il_0, il_1, il_2, il_3, il_4, il_5, il_6, il_7, il_8, il_9, il_10, il_11, il_12, il_16, il_20, il_32, il_44, il_45, il_48, il_50, il_57, il_59, il_60, il_64, il_74, il_98, il_99, il_100, il_108, il_109, il_110, il_111, il_112, il_113, il_115, il_119, il_120, il_158, il_255, il_1106, il_2147483647, nI_add, nI_mul, nI_sub, nI_clamp, nI_inT, nI_eqP, nI_leP, nI_ltP, nI_neP, nI_nnP, nI_nlP, nI_nltP, nI_nleP, nI_div, nI_subneg, nI_if, if_true, if_false, ite_true, ite_false, ↓reduceIte, nI_spos, nI_szero, Nat.add_zero, sf_t1, sf_c7, sf_c8, sf_c9, n1_0, n4_0, n4_1, hnj, h1, h2, h3, h4, hpj]
        repeat' split
        all_goals first
          | exact no (by omega)
          | exact yes (by omega)
      · obtain ⟨⟨g1, g2, g3, g4⟩, c1, c2, c3, c4, c5⟩ := h.2 (znb S T s u j) (by omega)
        rw [zio_c (by omega)] at no ⊢
        simp (disch := omega) only [sf_g, sf_b, sf_n, sf_c0, sf_c1, sf_c2, sf_c3, sf_c4, sf_c5, sf_c6, il_0, il_1, il_2, il_3, il_4, il_5, il_6, il_7, il_8, il_9, il_10, il_11, il_12, il_16, il_20, il_32, il_44, il_45, il_48, il_50, il_57, il_59, il_60, il_64, il_74, il_98, il_99, il_100, il_108, il_109, il_110, il_111, il_112, il_113, il_115, il_119, il_120, il_158, il_255, il_1106, il_2147483647, nI_add, nI_mul, nI_sub, nI_clamp, nI_inT, nI_eqP, nI_leP, nI_ltP, nI_neP, nI_nnP, nI_nlP, nI_nltP, nI_nleP, nI_div, nI_subneg, nI_if, if_true, if_false, ite_true, ite_false, ↓reduceIte, nI_spos, nI_szero, Nat.add_zero, sf_t1, sf_c7, sf_c8, sf_c9, n1_0, n4_0, n4_1, hnj, h1, h2, h3, h4, g1, g2, g3, g4, hpj]
        repeat' split
        all_goals first
          | exact no (by omega)
          | exact yes (by omega)
    · have e : j = n := by omega
      subst e
      simp (disch := omega) only [sf_g, sf_b, sf_n, sf_c0, sf_c1, sf_c2, sf_c3, sf_c4, sf_c5, sf_c6, il_0, il_1, il_2, il_3, il_4, il_5, il_6, il_7, il_8, il_9, il_10, il_11, il_12, il_16, il_20, il_32, il_44, il_45, il_48, il_50, il_57, il_59, il_60, il_64, il_74, il_98, il_99, il_100, il_108, il_109, il_110, il_111, il_112, il_113, il_115, il_119, il_120, il_158, il_255, il_1106, il_2147483647, nI_add, nI_mul, nI_sub, nI_clamp, nI_inT, nI_eqP, nI_leP, nI_ltP, nI_neP, nI_nnP, nI_nlP, nI_nltP, nI_nleP, nI_div, nI_subneg, nI_if, if_true, if_false, ite_true, ite_false, ↓reduceIte, nI_spos, nI_szero, Nat.add_zero, sf_t1, sf_c7, sf_c8, sf_c9, n1_0, n4_0, n4_1, Nat.le_refl]
theorem fb_next (h : zHB n bg bs bt be G S T E) {s u : Nat} (hs : s < 100) {p : Int32} (hp : p.toInt = (u : Int) - 1) : f_X1_nextOnSlide (nI n) bs bt (nI s) p = some (zio (znb S T s u n)) := lo_next h hs hp 2000 0 (Nat.zero_le _) (by have := h.1; omega)
def zeb (T E : Nat → Nat) (u : Nat) : Nat → Nat
  | 0 => 99
  | j + 1 => if u ≤ T j ∧ (zeb T E u j = 99 ∨ E j < E (zeb T E u j)) then j else zeb T E u j
theorem zeb_ne {T E : Nat → Nat} {u : Nat} : ∀ {j : Nat}, j < 99 → (∀ k, k < j → E k < zI) → (zeb T E u j = 99 ∧ zne T E u j = zI) ∨ (zeb T E u j < j ∧ E (zeb T E u j) = zne T E u j ∧ zne T E u j < zI)
  | 0, _, _ => Or.inl ⟨rfl, rfl⟩
  | j + 1, hj, h => by
    have hh := h j (by omega)
    rcases zeb_ne (T := T) (E := E) (u := u) (j := j) (by omega) (fun k hk => h k (by omega)) with ⟨e1, e2⟩ | ⟨e1, e2, e3⟩
    · rw [zeb, zne, e1, e2]
      by_cases c : u ≤ T j
      · rw [if_pos ⟨c, Or.inl rfl⟩, if_pos c, if_pos hh]
        exact Or.inr ⟨by omega, rfl, hh⟩
      · rw [if_neg (fun x => c x.1), if_neg c]
        exact Or.inl ⟨rfl, rfl⟩
    · rw [zeb, zne]
      by_cases c : u ≤ T j
      · rw [if_pos c]
        by_cases d : E j < zne T E u j
        · rw [if_pos d, if_pos ⟨c, Or.inr (by omega)⟩]
          exact Or.inr ⟨by omega, rfl, hh⟩
        · rw [if_neg d, if_neg (fun x => by rcases x.2 with x | x <;> omega)]
          exact Or.inr ⟨by omega, e2, e3⟩
      · rw [if_neg c, if_neg (fun x => c x.1)]
        exact Or.inr ⟨by omega, e2, e3⟩
set_option maxHeartbeats 1000000 in
theorem lo_early (h : zHB n bg bs bt be G S T E) {u : Nat} (hu : u < 2 ^ 31) {k : Int32 → Option Int32} : ∀ m j, j ≤ n → n - j < m → f_X1_earliestEndFrom_L4 (nI n) bt be (nI u) k m (nI j) (zio (zeb T E u j)) = k (zio (zeb T E u n)) := by
  have hn := h.1
  intro m
  induction m with
  | zero => intro j hj hm; omega
  | succ m ih =>
    intro j hj hm
    rw [f_X1_earliestEndFrom_L4]
    rcases Nat.lt_or_ge j n with z | z
    · obtain ⟨⟨h1, h2, h3, h4⟩, b1, b2, b3, b4, b5⟩ := h.2 j z
      have hnj : ¬ n ≤ j := by omega
      have ih1 := ih (j + 1) (by omega) (by omega)
      have no : ¬ (u ≤ T j ∧ (zeb T E u j = 99 ∨ E j < E (zeb T E u j))) → f_X1_earliestEndFrom_L4 (nI n) bt be (nI u) k m (nI (j + 1)) (zio (zeb T E u j)) = k (zio (zeb T E u n)) := fun hf => by rw [← ih1, zeb, if_neg hf]
      have yes : (u ≤ T j ∧ (zeb T E u j = 99 ∨ E j < E (zeb T E u j))) → f_X1_earliestEndFrom_L4 (nI n) bt be (nI u) k m (nI (j + 1)) (nI j) = k (zio (zeb T E u n)) := fun hf => by rw [← ih1, zeb, if_pos hf, zio_c (by omega)]
      rcases zeb_ne (T := T) (E := E) (u := u) (j := j) (by omega) (fun i hi => by have := (h.2 i (by omega)).2; unfold zI; omega) with ⟨e, _⟩ | ⟨e, _, _⟩
      · rw [e, zio_n] at no ⊢
        rw [e] at yes
        simp (disch := omega) only [sf_g, sf_b, sf_n, sf_c0, sf_c1, sf_c2, sf_c3, sf_c4, sf_c5, sf_c6, il_0, il_1, il_2, il_3, il_4, il_5, il_6, il_7, il_8, il_9, il_10, il_11, il_12, il_16, il_20, il_32, il_44, il_45, il_48, il_50, il_57, il_59, il_60, il_64, il_74, il_98, il_99, il_100, il_108, il_109, il_110, il_111, il_112, il_113, il_115, il_119, il_120, il_158, il_255, il_1106, il_2147483647, nI_add, nI_mul, nI_sub, nI_clamp, nI_inT, nI_eqP, nI_leP, nI_ltP, nI_neP, nI_nnP, nI_nlP, nI_nltP, nI_nleP, nI_div, nI_subneg, nI_if, if_true, if_false, ite_true, ite_false, ↓reduceIte, nI_spos, nI_szero, Nat.add_zero, sf_t1, sf_c7, sf_c8, sf_c9, n1_0, n4_0, n4_1, hnj, h1, h2, h3, h4]
        repeat' split
        all_goals first
          | exact no (by omega)
          | exact yes (by omega)
      · obtain ⟨⟨g1, g2, g3, g4⟩, c1, c2, c3, c4, c5⟩ := h.2 (zeb T E u j) (by omega)
        rw [zio_c (by omega)] at no ⊢
        simp (disch := omega) only [sf_g, sf_b, sf_n, sf_c0, sf_c1, sf_c2, sf_c3, sf_c4, sf_c5, sf_c6, il_0, il_1, il_2, il_3, il_4, il_5, il_6, il_7, il_8, il_9, il_10, il_11, il_12, il_16, il_20, il_32, il_44, il_45, il_48, il_50, il_57, il_59, il_60, il_64, il_74, il_98, il_99, il_100, il_108, il_109, il_110, il_111, il_112, il_113, il_115, il_119, il_120, il_158, il_255, il_1106, il_2147483647, nI_add, nI_mul, nI_sub, nI_clamp, nI_inT, nI_eqP, nI_leP, nI_ltP, nI_neP, nI_nnP, nI_nlP, nI_nltP, nI_nleP, nI_div, nI_subneg, nI_if, if_true, if_false, ite_true, ite_false, ↓reduceIte, nI_spos, nI_szero, Nat.add_zero, sf_t1, sf_c7, sf_c8, sf_c9, n1_0, n4_0, n4_1, hnj, h1, h2, h3, h4, g1, g2, g3, g4]
        repeat' split
        all_goals first
          | exact no (by omega)
          | exact yes (by omega)
    · have e : j = n := by omega
      subst e
      simp (disch := omega) only [sf_g, sf_b, sf_n, sf_c0, sf_c1, sf_c2, sf_c3, sf_c4, sf_c5, sf_c6, il_0, il_1, il_2, il_3, il_4, il_5, il_6, il_7, il_8, il_9, il_10, il_11, il_12, il_16, il_20, il_32, il_44, il_45, il_48, il_50, il_57, il_59, il_60, il_64, il_74, il_98, il_99, il_100, il_108, il_109, il_110, il_111, il_112, il_113, il_115, il_119, il_120, il_158, il_255, il_1106, il_2147483647, nI_add, nI_mul, nI_sub, nI_clamp, nI_inT, nI_eqP, nI_leP, nI_ltP, nI_neP, nI_nnP, nI_nlP, nI_nltP, nI_nleP, nI_div, nI_subneg, nI_if, if_true, if_false, ite_true, ite_false, ↓reduceIte, nI_spos, nI_szero, Nat.add_zero, sf_t1, sf_c7, sf_c8, sf_c9, n1_0, n4_0, n4_1, Nat.le_refl]
theorem fb_early (h : zHB n bg bs bt be G S T E) {u : Nat} (hu : u < 2 ^ 31) : f_X1_earliestEndFrom (nI n) bt be (nI u) = some (zio (zeb T E u n)) := lo_early h hu 2000 0 (Nat.zero_le _) (by have := h.1; omega)
theorem lo_watch (h : zHB n bg bs bt be G S T E) {c : Nat} (hc : c ≤ n) (hg : zgc T E n c) {k : Int32 → Option Int32} (hk : ∀ y, k y = some y) : ∀ m i, i ≤ c → n - i < m → f_X1_watchedByEarliestEnd_L6 (nI n) bt be k m (nI i) (nI (zes T E n i)) (nI i) = some (nI c) := by
  have hn := h.1
  have hI : ∀ k, k < n → E k < zI := fun i hi => by have := (h.2 i hi).2; unfold zI; omega
  intro m
  induction m with
  | zero => intro i hi hm; omega
  | succ m ih =>
    intro i hi hm
    rw [f_X1_watchedByEarliestEnd_L6]
    rcases Nat.lt_or_ge i n with z | z
    · have hni : ¬ n ≤ i := by omega
      have hlt : zes T E n i < 2 ^ 31 := by
        cases i with
        | zero => exact Nat.lt_of_le_of_lt (Nat.le_refl 0) (by omega)
        | succ i =>
          have : zne T E (zes T E n i) n ≤ zI := by
            rcases zeb_ne (T := T) (E := E) (u := zes T E n i) (j := n) (by omega) hI with ⟨_, e⟩ | ⟨_, _, e⟩ <;> omega
          show zne T E (zes T E n i) n < 2 ^ 31
          unfold zI at this; omega
      rw [fb_early h hlt]
      rcases zeb_ne (T := T) (E := E) (u := zes T E n i) (j := n) (by omega) hI with ⟨e1, e2⟩ | ⟨e1, e2, e3⟩
      · have : i = c := by
          rcases Nat.lt_or_ge i c with y | y
          · exact absurd e2 (hg.1 i y)
          · omega
        subst this
        rw [e1, zio_n]
        simp (disch := omega) only [sf_g, sf_b, sf_n, sf_c0, sf_c1, sf_c2, sf_c3, sf_c4, sf_c5, sf_c6, il_0, il_1, il_2, il_3, il_4, il_5, il_6, il_7, il_8, il_9, il_10, il_11, il_12, il_16, il_20, il_32, il_44, il_45, il_48, il_50, il_57, il_59, il_60, il_64, il_74, il_98, il_99, il_100, il_108, il_109, il_110, il_111, il_112, il_113, il_115, il_119, il_120, il_158, il_255, il_1106, il_2147483647, nI_add, nI_mul, nI_sub, nI_clamp, nI_inT, nI_eqP, nI_leP, nI_ltP, nI_neP, nI_nnP, nI_nlP, nI_nltP, nI_nleP, nI_div, nI_subneg, nI_if, if_true, if_false, ite_true, ite_false, ↓reduceIte, nI_spos, nI_szero, Nat.add_zero, sf_t1, sf_c7, sf_c8, sf_c9, n1_0, n4_0, n4_1, hni]
      · obtain ⟨⟨g1, g2, g3, g4⟩, c1, c2, c3, c4, c5⟩ := h.2 (zeb T E (zes T E n i) n) e1
        have hic : i < c := by
          rcases Nat.lt_or_ge i c with y | y
          · exact y
          · have : i = c := by omega
            subst this
            have h9 : zne T E (zes T E n i) n = zI := hg.2
            omega
        have ih1 := ih (i + 1) (by omega) (by omega)
        have h8 : zes T E n (i + 1) = E (zeb T E (zes T E n i) n) := e2.symm
        rw [h8] at ih1
        rw [zio_c (by omega)]
        simp (disch := omega) only [sf_g, sf_b, sf_n, sf_c0, sf_c1, sf_c2, sf_c3, sf_c4, sf_c5, sf_c6, il_0, il_1, il_2, il_3, il_4, il_5, il_6, il_7, il_8, il_9, il_10, il_11, il_12, il_16, il_20, il_32, il_44, il_45, il_48, il_50, il_57, il_59, il_60, il_64, il_74, il_98, il_99, il_100, il_108, il_109, il_110, il_111, il_112, il_113, il_115, il_119, il_120, il_158, il_255, il_1106, il_2147483647, nI_add, nI_mul, nI_sub, nI_clamp, nI_inT, nI_eqP, nI_leP, nI_ltP, nI_neP, nI_nnP, nI_nlP, nI_nltP, nI_nleP, nI_div, nI_subneg, nI_if, if_true, if_false, ite_true, ite_false, ↓reduceIte, nI_spos, nI_szero, Nat.add_zero, sf_t1, sf_c7, sf_c8, sf_c9, n1_0, n4_0, n4_1, hni, g4]
        exact ih1
    · have : i = c := by omega
      subst this
      simp (disch := omega) only [sf_g, sf_b, sf_n, sf_c0, sf_c1, sf_c2, sf_c3, sf_c4, sf_c5, sf_c6, il_0, il_1, il_2, il_3, il_4, il_5, il_6, il_7, il_8, il_9, il_10, il_11, il_12, il_16, il_20, il_32, il_44, il_45, il_48, il_50, il_57, il_59, il_60, il_64, il_74, il_98, il_99, il_100, il_108, il_109, il_110, il_111, il_112, il_113, il_115, il_119, il_120, il_158, il_255, il_1106, il_2147483647, nI_add, nI_mul, nI_sub, nI_clamp, nI_inT, nI_eqP, nI_leP, nI_ltP, nI_neP, nI_nnP, nI_nlP, nI_nltP, nI_nleP, nI_div, nI_subneg, nI_if, if_true, if_false, ite_true, ite_false, ↓reduceIte, nI_spos, nI_szero, Nat.add_zero, sf_t1, sf_c7, sf_c8, sf_c9, n1_0, n4_0, n4_1, z]
      exact hk _
theorem fb_watch (h : zHB n bg bs bt be G S T E) {c : Nat} (hc : c ≤ n) (hg : zgc T E n c) : f_X1_watchedByEarliestEnd (nI n) bt be = some (nI c) := lo_watch h hc hg (fun _ => rfl) 2000 0 (Nat.zero_le _) (by have := h.1; omega)
set_option maxHeartbeats 1000000 in
theorem lo_at1 (h : zHB n bg bs bt be G S T E) {b : Nat} (hb : b < n) {k : Int32 → Option Int32} : ∀ m j, j ≤ n → n - j < m → f_X1_atOnceByStarts_L17 (nI n) bt be (nI b) k m (nI j) (nI (zA T E j (T b))) = k (nI (zA T E n (T b))) := by
  have hn := h.1
  obtain ⟨⟨g1, g2, g3, g4⟩, c1, c2, c3, c4, c5⟩ := h.2 b hb
  intro m
  induction m with
  | zero => intro j hj hm; omega
  | succ m ih =>
    intro j hj hm
    rw [f_X1_atOnceByStarts_L17]
    rcases Nat.lt_or_ge j n with z | z
    · obtain ⟨⟨h1, h2, h3, h4⟩, b1, b2, b3, b4, b5⟩ := h.2 j z
      have hnj : ¬ n ≤ j := by omega
      have ih1 := ih (j + 1) (by omega) (by omega)
      have no : ¬ (T j ≤ T b ∧ T b < E j) → f_X1_atOnceByStarts_L17 (nI n) bt be (nI b) k m (nI (j + 1)) (nI (zA T E j (T b))) = k (nI (zA T E n (T b))) := fun hf => by rw [← ih1, zA, zA, zc_f (P := fun k => decide (T k ≤ T b ∧ T b < E k)) (decide_eq_false hf)]
      have yes : (T j ≤ T b ∧ T b < E j) → f_X1_atOnceByStarts_L17 (nI n) bt be (nI b) k m (nI (j + 1)) (nI (zA T E j (T b) + 1)) = k (nI (zA T E n (T b))) := fun hf => by rw [← ih1, zA, zA, zc_t (P := fun k => decide (T k ≤ T b ∧ T b < E k)) (decide_eq_true hf)]
      by_cases c : T j ≤ T b ∧ T b < E j
      · have hmt := (fb_takes h z (t := T b) (by omega)).1 c
        simp (disch := omega) only [sf_g, sf_b, sf_n, sf_c0, sf_c1, sf_c2, sf_c3, sf_c4, sf_c5, sf_c6, il_0, il_1, il_2, il_3, il_4, il_5, il_6, il_7, il_8, il_9, il_10, il_11, il_12, il_16, il_20, il_32, il_44, il_45, il_48, il_50, il_57, il_59, il_60, il_64, il_74, il_98, il_99, il_100, il_108, il_109, il_110, il_111, il_112, il_113, il_115, il_119, il_120, il_158, il_255, il_1106, il_2147483647, nI_add, nI_mul, nI_sub, nI_clamp, nI_inT, nI_eqP, nI_leP, nI_ltP, nI_neP, nI_nnP, nI_nlP, nI_nltP, nI_nleP, nI_div, nI_subneg, nI_if, if_true, if_false, ite_true, ite_false, ↓reduceIte, nI_spos, nI_szero, Nat.add_zero, sf_t1, sf_c7, sf_c8, sf_c9, n1_0, n4_0, n4_1, hmt, hnj, g3]
        exact yes c
      · have hmt := (fb_takes h z (t := T b) (by omega)).2 c
        simp (disch := omega) only [sf_g, sf_b, sf_n, sf_c0, sf_c1, sf_c2, sf_c3, sf_c4, sf_c5, sf_c6, il_0, il_1, il_2, il_3, il_4, il_5, il_6, il_7, il_8, il_9, il_10, il_11, il_12, il_16, il_20, il_32, il_44, il_45, il_48, il_50, il_57, il_59, il_60, il_64, il_74, il_98, il_99, il_100, il_108, il_109, il_110, il_111, il_112, il_113, il_115, il_119, il_120, il_158, il_255, il_1106, il_2147483647, nI_add, nI_mul, nI_sub, nI_clamp, nI_inT, nI_eqP, nI_leP, nI_ltP, nI_neP, nI_nnP, nI_nlP, nI_nltP, nI_nleP, nI_div, nI_subneg, nI_if, if_true, if_false, ite_true, ite_false, ↓reduceIte, nI_spos, nI_szero, Nat.add_zero, sf_t1, sf_c7, sf_c8, sf_c9, n1_0, n4_0, n4_1, hmt, hnj, g3]
        exact no c
    · have e : j = n := by omega
      subst e
      simp (disch := omega) only [sf_g, sf_b, sf_n, sf_c0, sf_c1, sf_c2, sf_c3, sf_c4, sf_c5, sf_c6, il_0, il_1, il_2, il_3, il_4, il_5, il_6, il_7, il_8, il_9, il_10, il_11, il_12, il_16, il_20, il_32, il_44, il_45, il_48, il_50, il_57, il_59, il_60, il_64, il_74, il_98, il_99, il_100, il_108, il_109, il_110, il_111, il_112, il_113, il_115, il_119, il_120, il_158, il_255, il_1106, il_2147483647, nI_add, nI_mul, nI_sub, nI_clamp, nI_inT, nI_eqP, nI_leP, nI_ltP, nI_neP, nI_nnP, nI_nlP, nI_nltP, nI_nleP, nI_div, nI_subneg, nI_if, if_true, if_false, ite_true, ite_false, ↓reduceIte, nI_spos, nI_szero, Nat.add_zero, sf_t1, sf_c7, sf_c8, sf_c9, n1_0, n4_0, n4_1, Nat.le_refl]
theorem lo_at2 (h : zHB n bg bs bt be G S T E) {k : Int32 → Option Int32} : ∀ m j, j ≤ n → n - j < m → f_X1_atOnceByStarts_L4 (nI n) bt be k m (nI j) (nI (zm (fun i => zA T E n (T i)) j)) = k (nI (zm (fun i => zA T E n (T i)) n)) := by
  have hn := h.1
  have hA : ∀ t, zA T E n t ≤ 12 := fun t => by have := zc_le (P := fun k => decide (T k ≤ t ∧ t < E k)) (n := n); unfold zA; omega
  intro m
  induction m with
  | zero => intro j hj hm; omega
  | succ m ih =>
    intro j hj hm
    rw [f_X1_atOnceByStarts_L4]
    rcases Nat.lt_or_ge j n with z | z
    · have hnj : ¬ n ≤ j := by omega
      have ih1 := ih (j + 1) (by omega) (by omega)
      have h9 := lo_at1 h z (k := fun y_9 => sf_n (if nI (zm (fun i => zA T E n (T i)) j) < y_9 then y_9 else nI (zm (fun i => zA T E n (T i)) j)) (fun x_10 => sf_n (nI j + 1) (fun x_11 => f_X1_atOnceByStarts_L4 (nI n) bt be k m x_11 x_10))) 2000 0 (Nat.zero_le _) (by omega)
      have e0 : nI (zA T E 0 (T j)) = 0 := rfl
      rw [e0] at h9
      rw [show f_X1_atOnceByStarts_L17 (nI n) bt be (nI j) _ 2000 0 0 = _ from h9]
      have m1 : zm (fun i => zA T E n (T i)) j ≤ 12 := zm_le (fun i _ => hA (T i))
      have m2 := hA (T j)
      simp (disch := omega) only [sf_g, sf_b, sf_n, sf_c0, sf_c1, sf_c2, sf_c3, sf_c4, sf_c5, sf_c6, il_0, il_1, il_2, il_3, il_4, il_5, il_6, il_7, il_8, il_9, il_10, il_11, il_12, il_16, il_20, il_32, il_44, il_45, il_48, il_50, il_57, il_59, il_60, il_64, il_74, il_98, il_99, il_100, il_108, il_109, il_110, il_111, il_112, il_113, il_115, il_119, il_120, il_158, il_255, il_1106, il_2147483647, nI_add, nI_mul, nI_sub, nI_clamp, nI_inT, nI_eqP, nI_leP, nI_ltP, nI_neP, nI_nnP, nI_nlP, nI_nltP, nI_nleP, nI_div, nI_subneg, nI_if, if_true, if_false, ite_true, ite_false, ↓reduceIte, nI_spos, nI_szero, Nat.add_zero, sf_t1, sf_c7, sf_c8, sf_c9, n1_0, n4_0, n4_1, hnj]
      rw [zm] at ih1
      exact ih1
    · have e : j = n := by omega
      subst e
      simp (disch := omega) only [sf_g, sf_b, sf_n, sf_c0, sf_c1, sf_c2, sf_c3, sf_c4, sf_c5, sf_c6, il_0, il_1, il_2, il_3, il_4, il_5, il_6, il_7, il_8, il_9, il_10, il_11, il_12, il_16, il_20, il_32, il_44, il_45, il_48, il_50, il_57, il_59, il_60, il_64, il_74, il_98, il_99, il_100, il_108, il_109, il_110, il_111, il_112, il_113, il_115, il_119, il_120, il_158, il_255, il_1106, il_2147483647, nI_add, nI_mul, nI_sub, nI_clamp, nI_inT, nI_eqP, nI_leP, nI_ltP, nI_neP, nI_nnP, nI_nlP, nI_nltP, nI_nleP, nI_div, nI_subneg, nI_if, if_true, if_false, ite_true, ite_false, ↓reduceIte, nI_spos, nI_szero, Nat.add_zero, sf_t1, sf_c7, sf_c8, sf_c9, n1_0, n4_0, n4_1, Nat.le_refl]
theorem fb_once (h : zHB n bg bs bt be G S T E) : f_X1_atOnceByStarts (nI n) bt be = some (nI (zm (fun i => zA T E n (T i)) n)) := lo_at2 h 2000 0 (Nat.zero_le _) (by have := h.1; omega)
end OFFB
