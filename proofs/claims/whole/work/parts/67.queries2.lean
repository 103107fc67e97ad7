/-! questions about ranks, and about free minutes -/
section RNK
variable {n : Nat} {bg bs bt be : Nat → Int32} {G S T E : Nat → Nat}
/-- the office looks for the rank p -/
theorem lo_bbs (h : zHB n bg bs bt be G S T E) {p : Int32} {k : Unit → Option Int32} {R : Option Int32} (hR : ∀ b, b < n → nI (zrk (zbf S T) n b) = p → some (nI b) = R) (hN : (∀ b, b < n → ¬ nI (zrk (zbf S T) n b) = p) → k () = R) : ∀ m j, j ≤ n → n - j < m → (∀ i, i < j → ¬ nI (zrk (zbf S T) n i) = p) → f_X11_bookingByStart_L2 (nI n) bs bt p k m (nI j) = R := by
  have hn := h.1
  intro m
  induction m with
  | zero => intro j hj hm; omega
  | succ m ih =>
    intro j hj hm hno
    rw [f_X11_bookingByStart_L2]
    rcases Nat.lt_or_ge j n with z | z
    · have hnj : (nI n ≤ nI j) = False := eq_false (by rw [nI_leP (by omega) (by omega)]; omega)
      rw [fb_rank h z]
      simp only [sf_b, sf_c1, sf_n, hnj, if_false, il_1, nI_add]
      split
      · rename_i e; exact hR j z e
      · rename_i e
        refine ih (j + 1) (by omega) (by omega) (fun i hi => ?_)
        rcases Nat.lt_or_ge i j with y | y
        · exact hno i y
        · have : i = j := by omega
          subst this; exact e
    · have e : j = n := by omega
      subst e
      simp (disch := omega) only [sf_b, nI_leP, Nat.le_refl, if_true]
      exact hN hno
theorem lo_bbt (h : zHB n bg bs bt be G S T E) {p : Int32} {k : Unit → Option Nat} {R : Option Nat} (hR : ∀ b, b < n → nI (zrk (zbf S T) n b) = p → none = R) (hN : (∀ b, b < n → ¬ nI (zrk (zbf S T) n b) = p) → k () = R) : ∀ m j, j ≤ n → n - j < m → (∀ i, i < j → ¬ nI (zrk (zbf S T) n i) = p) → f_TX11_bookingByStart_L2 (nI n) bs bt p k m (nI j) = R := by
  have hn := h.1
  intro m
  induction m with
  | zero => intro j hj hm; omega
  | succ m ih =>
    intro j hj hm hno
    rw [f_TX11_bookingByStart_L2]
    rcases Nat.lt_or_ge j n with z | z
    · have hnj : (nI n ≤ nI j) = False := eq_false (by rw [nI_leP (by omega) (by omega)]; omega)
      rw [fb_rank h z]
      simp only [sf_b, sf_c1, sf_n, hnj, if_false, il_1, nI_add]
      split
      · rename_i e; exact hR j z e
      · rename_i e
        refine ih (j + 1) (by omega) (by omega) (fun i hi => ?_)
        rcases Nat.lt_or_ge i j with y | y
        · exact hno i y
        · have : i = j := by omega
          subst this; exact e
    · have e : j = n := by omega
      subst e
      simp (disch := omega) only [sf_b, nI_leP, Nat.le_refl, if_true]
      exact hN hno
end RNK
section RNKG
variable {n : Nat} {gp gr : Nat → Int32} {C R : Nat → Nat}
theorem lo_gbr (h : zHG n gp gr C R) {p : Int32} {k : Unit → Option Int32} {Z : Option Int32} (hR : ∀ b, b < n → nI (zrk (zbr R C) n b) = p → some (nI b) = Z) (hN : (∀ b, b < n → ¬ nI (zrk (zbr R C) n b) = p) → k () = Z) : ∀ m j, j ≤ n → n - j < m → (∀ i, i < j → ¬ nI (zrk (zbr R C) n i) = p) → f_X11_guestByRides_L2 (nI n) gp gr p k m (nI j) = Z := by
  have hn := h.1
  intro m
  induction m with
  | zero => intro j hj hm; omega
  | succ m ih =>
    intro j hj hm hno
    rw [f_X11_guestByRides_L2]
    rcases Nat.lt_or_ge j n with z | z
    · have hnj : (nI n ≤ nI j) = False := eq_false (by rw [nI_leP (by omega) (by omega)]; omega)
      rw [fg_ridden h z]
      simp only [sf_b, sf_c1, sf_n, hnj, if_false, il_1, nI_add]
      split
      · rename_i e; exact hR j z e
      · rename_i e
        refine ih (j + 1) (by omega) (by omega) (fun i hi => ?_)
        rcases Nat.lt_or_ge i j with y | y
        · exact hno i y
        · have : i = j := by omega
          subst this; exact e
    · have e : j = n := by omega
      subst e
      simp (disch := omega) only [sf_b, nI_leP, Nat.le_refl, if_true]
      exact hN hno
theorem lo_gbt (h : zHG n gp gr C R) {p : Int32} {k : Unit → Option Nat} {Z : Option Nat} (hR : ∀ b, b < n → nI (zrk (zbr R C) n b) = p → none = Z) (hN : (∀ b, b < n → ¬ nI (zrk (zbr R C) n b) = p) → k () = Z) : ∀ m j, j ≤ n → n - j < m → (∀ i, i < j → ¬ nI (zrk (zbr R C) n i) = p) → f_TX11_guestByRides_L2 (nI n) gp gr p k m (nI j) = Z := by
  have hn := h.1
  intro m
  induction m with
  | zero => intro j hj hm; omega
  | succ m ih =>
    intro j hj hm hno
    rw [f_TX11_guestByRides_L2]
    rcases Nat.lt_or_ge j n with z | z
    · have hnj : (nI n ≤ nI j) = False := eq_false (by rw [nI_leP (by omega) (by omega)]; omega)
      rw [fg_ridden h z]
      simp only [sf_b, sf_c1, sf_n, hnj, if_false, il_1, nI_add]
      split
      · rename_i e; exact hR j z e
      · rename_i e
        refine ih (j + 1) (by omega) (by omega) (fun i hi => ?_)
        rcases Nat.lt_or_ge i j with y | y
        · exact hno i y
        · have : i = j := by omega
          subst this; exact e
    · have e : j = n := by omega
      subst e
      simp (disch := omega) only [sf_b, nI_leP, Nat.le_refl, if_true]
      exact hN hno
end RNKG
section RNKS
variable {n : Nat} {sw : Nat → Int32} {W : Nat → Nat}
theorem lo_sbw (hn : n ≤ 4) (h : ∀ k, k < n → sw k = nI (W k) ∧ W k < 100) {p : Int32} {k : Unit → Option Int32} {Z : Option Int32} (hR : ∀ b, b < n → nI (zrk (zbw W) n b) = p → some (nI b) = Z) (hN : (∀ b, b < n → ¬ nI (zrk (zbw W) n b) = p) → k () = Z) : ∀ m j, j ≤ n → n - j < m → (∀ i, i < j → ¬ nI (zrk (zbw W) n i) = p) → f_X11_slideByWetness_L2 (nI n) sw p k m (nI j) = Z := by
  intro m
  induction m with
  | zero => intro j hj hm; omega
  | succ m ih =>
    intro j hj hm hno
    rw [f_X11_slideByWetness_L2]
    rcases Nat.lt_or_ge j n with z | z
    · have hnj : (nI n ≤ nI j) = False := eq_false (by rw [nI_leP (by omega) (by omega)]; omega)
      rw [fs_wet hn h z]
      simp only [sf_b, sf_c1, sf_n, hnj, if_false, il_1, nI_add]
      split
      · rename_i e; exact hR j z e
      · rename_i e
        refine ih (j + 1) (by omega) (by omega) (fun i hi => ?_)
        rcases Nat.lt_or_ge i j with y | y
        · exact hno i y
        · have : i = j := by omega
          subst this; exact e
    · have e : j = n := by omega
      subst e
      simp (disch := omega) only [sf_b, nI_leP, Nat.le_refl, if_true]
      exact hN hno
theorem lo_sbt (hn : n ≤ 4) (h : ∀ k, k < n → sw k = nI (W k) ∧ W k < 100) {p : Int32} {k : Unit → Option Nat} {Z : Option Nat} (hR : ∀ b, b < n → nI (zrk (zbw W) n b) = p → none = Z) (hN : (∀ b, b < n → ¬ nI (zrk (zbw W) n b) = p) → k () = Z) : ∀ m j, j ≤ n → n - j < m → (∀ i, i < j → ¬ nI (zrk (zbw W) n i) = p) → f_TX11_slideByWetness_L2 (nI n) sw p k m (nI j) = Z := by
  intro m
  induction m with
  | zero => intro j hj hm; omega
  | succ m ih =>
    intro j hj hm hno
    rw [f_TX11_slideByWetness_L2]
    rcases Nat.lt_or_ge j n with z | z
    · have hnj : (nI n ≤ nI j) = False := eq_false (by rw [nI_leP (by omega) (by omega)]; omega)
      rw [fs_wet hn h z]
      simp only [sf_b, sf_c1, sf_n, hnj, if_false, il_1, nI_add]
      split
      · rename_i e; exact hR j z e
      · rename_i e
        refine ih (j + 1) (by omega) (by omega) (fun i hi => ?_)
        rcases Nat.lt_or_ge i j with y | y
        · exact hno i y
        · have : i = j := by omega
          subst this; exact e
    · have e : j = n := by omega
      subst e
      simp (disch := omega) only [sf_b, nI_leP, Nat.le_refl, if_true]
      exact hN hno
end RNKS
/-- the last number below n that satisfies P, or 0 -/
def zlb (P : Nat → Bool) : Nat → Nat
  | 0 => 0
  | j + 1 => if P j = true then j else zlb P j
theorem zlb_one {P : Nat → Bool} : ∀ {n b : Nat}, b < n → P b = true → (∀ k, k < n → P k = true → k = b) → zlb P n = b
  | 0, b, h, _, _ => absurd h (Nat.not_lt_zero b)
  | n + 1, b, h, hb, hu => by
    rw [zlb]
    split
    · rename_i hn; exact hu n (by omega) hn
    · rename_i hn
      refine zlb_one ?_ hb (fun k hk => hu k (by omega))
      rcases Nat.lt_or_ge b n with z | z
      · exact z
      · have : b = n := by omega
        subst this; exact absurd hb hn
section MRK
variable {M : Nat → Nat} {ms : Nat → Int32}
set_option maxHeartbeats 1000000 in
theorem lm_g36 (h : MR M ms) (hn : M 1 ≤ 10) (hC : ∀ k, k < M 1 → zC M k < 1000 ∧ zR M k < 100000000) {b : Nat} (hb : b < M 1) {k : Int32 → Option (Int32 × Int32)} : ∀ m j, j ≤ M 1 → M 1 - j < m → f_X12_guestByRides_L36 ms (nI b) k m (nI j) (nI (zc (fun i => zbr (zR M) (zC M) i b) j)) = k (nI (zrk (zbr (zR M) (zC M)) (M 1) b)) := by
  obtain ⟨h0, a1, a2, a3, a4, a5, a6, a7, a8, a9, a10, a11, a12⟩ := fm_all h
  obtain ⟨c1, c2⟩ := hC b hb
  intro m
  induction m with
  | zero => intro j hj hm; omega
  | succ m ih =>
    intro j hj hm
    rw [f_X12_guestByRides_L36]
    rcases Nat.lt_or_ge j (M 1) with z | z
    · obtain ⟨b1, b2⟩ := hC j z
      have hnj : ¬ M 1 ≤ j := by omega
      have ih1 := ih (j + 1) (by omega) (by omega)
      have no : zbr (zR M) (zC M) j b = false → f_X12_guestByRides_L36 ms (nI b) k m (nI (j + 1)) (nI (zc (fun i => zbr (zR M) (zC M) i b) j)) = k (nI (zrk (zbr (zR M) (zC M)) (M 1) b)) := fun hf => by rw [← ih1, zc_f (P := fun i => zbr (zR M) (zC M) i b) hf]
      have yes : zbr (zR M) (zC M) j b = true → f_X12_guestByRides_L36 ms (nI b) k m (nI (j + 1)) (nI (zc (fun i => zbr (zR M) (zC M) i b) j + 1)) = k (nI (zrk (zbr (zR M) (zC M)) (M 1) b)) := fun hf => by rw [← ih1, zc_t (P := fun i => zbr (zR M) (zC M) i b) hf]
      generalize k (nI (zrk (zbr (zR M) (zC M)) (M 1) b)) = Z at no yes ⊢
      simp (disch := omega) only [sf_g, sf_b, sf_n, sf_c1, il_0, il_1, nI_add, nI_clamp, nI_inT, nI_leP, nI_spos, nI_szero, Nat.add_zero, if_true, if_false, hnj, h0, a6, a7]
      repeat' split
      all_goals first
        | exact no (decide_eq_false (by omega))
        | exact yes (decide_eq_true (by omega))
    · have e : j = M 1 := by omega
      rw [e]
      simp (disch := omega) only [sf_g, sf_b, sf_n, sf_c0, sf_c1, sf_c2, sf_c3, sf_c4, sf_c5, sf_c6, il_0, il_1, il_2, il_3, il_4, il_5, il_6, il_7, il_8, il_9, il_10, il_11, il_12, il_16, il_20, il_32, il_44, il_45, il_48, il_50, il_57, il_59, il_60, il_64, il_74, il_98, il_99, il_100, il_108, il_109, il_110, il_111, il_112, il_113, il_115, il_119, il_120, il_158, il_255, il_1106, il_2147483647, nI_add, nI_mul, nI_sub, nI_clamp, nI_inT, nI_eqP, nI_leP, nI_ltP, nI_neP, nI_nnP, nI_nlP, nI_nltP, nI_nleP, nI_div, nI_subneg, nI_if, if_true, if_false, ite_true, ite_false, ↓reduceIte, nI_spos, nI_szero, Nat.add_zero, sf_t1, sf_c7, sf_c8, sf_c9, n1_0, n4_0, n4_1, h0, Nat.le_refl]
      rfl
theorem lm_g15 (h : MR M ms) (hn : M 1 ≤ 10) (hC : ∀ k, k < M 1 → zC M k < 1000 ∧ zR M k < 100000000) {r : Nat} (hr : r < 100) {k : Int32 → Option (Int32 × Int32)} : ∀ m j, j ≤ M 1 → M 1 - j < m → f_X12_guestByRides_L15 ms (nI r) (nI 1) k m (nI j) (nI (zlb (fun b => decide (zrk (zbr (zR M) (zC M)) (M 1) b = r)) j)) = k (nI (zlb (fun b => decide (zrk (zbr (zR M) (zC M)) (M 1) b = r)) (M 1))) := by
  have h0 : ∀ k, k < 158 → ms k = nI (M k) := h
  intro m
  induction m with
  | zero => intro j hj hm; omega
  | succ m ih =>
    intro j hj hm
    rw [f_X12_guestByRides_L15]
    rcases Nat.lt_or_ge j (M 1) with z | z
    · have ih1 := ih (j + 1) (by omega) (by omega)
      have hrk : zrk (zbr (zR M) (zC M)) (M 1) j ≤ 10 := Nat.le_trans zc_le hn
      have h8 := lm_g36 h hn hC z (k := fun y_26 => sf_b (y_26 = nI r) (sf_n (nI j + 1) (fun x_28 => f_X12_guestByRides_L15 ms (nI r) (nI 1) k m x_28 (nI j))) (sf_n (nI j + 1) (fun x_27 => f_X12_guestByRides_L15 ms (nI r) (nI 1) k m x_27 (nI (zlb (fun b => decide (zrk (zbr (zR M) (zC M)) (M 1) b = r)) j))))) 2000 0 (Nat.zero_le _) (by omega)
      have hc : (ms (1 : Int32).toNatClampNeg ≤ nI j) = False := eq_false (by rw [il_1, nI_clamp (by omega), h0 1 (by omega), nI_leP (by omega) (by omega)]; omega)
      have hc1 : (nI 1 = (0 : Int32)) = False := eq_false (by decide)
      rw [sf_g, if_pos (by decide), sf_b]
      simp only [hc, if_false]
      rw [sf_b]
      simp only [hc1, if_false]
      refine Eq.trans h8 ?_
      rw [zlb] at ih1
      have e3 : (nI (zrk (zbr (zR M) (zC M)) (M 1) j) = nI r) = (zrk (zbr (zR M) (zC M)) (M 1) j = r) := nI_eqP (by omega) (by omega)
      simp only [sf_b, sf_n, il_1, nI_add, e3]
      split
      · rename_i e
        rw [if_pos (decide_eq_true e)] at ih1
        exact ih1
      · rename_i e
        rw [if_neg (by simp [e])] at ih1
        exact ih1
    · have e : j = M 1 := by omega
      rw [e]
      simp (disch := omega) only [sf_g, sf_b, sf_n, sf_c0, sf_c1, sf_c2, sf_c3, sf_c4, sf_c5, sf_c6, il_0, il_1, il_2, il_3, il_4, il_5, il_6, il_7, il_8, il_9, il_10, il_11, il_12, il_16, il_20, il_32, il_44, il_45, il_48, il_50, il_57, il_59, il_60, il_64, il_74, il_98, il_99, il_100, il_108, il_109, il_110, il_111, il_112, il_113, il_115, il_119, il_120, il_158, il_255, il_1106, il_2147483647, nI_add, nI_mul, nI_sub, nI_clamp, nI_inT, nI_eqP, nI_leP, nI_ltP, nI_neP, nI_nnP, nI_nlP, nI_nltP, nI_nleP, nI_div, nI_subneg, nI_if, if_true, if_false, ite_true, ite_false, ↓reduceIte, nI_spos, nI_szero, Nat.add_zero, sf_t1, sf_c7, sf_c8, sf_c9, n1_0, n4_0, n4_1, h0, Nat.le_refl]
set_option maxHeartbeats 1000000 in
theorem lm_s36 (h : MR M ms) (hn : M 0 ≤ 4) (hC : ∀ k, k < M 0 → zW M k < 100) {b : Nat} (hb : b < M 0) {k : Int32 → Option (Int32 × Int32)} : ∀ m j, j ≤ M 0 → M 0 - j < m → f_X12_slideByWetness_L36 ms (nI b) k m (nI j) (nI (zc (fun i => zbw (zW M) i b) j)) = k (nI (zrk (zbw (zW M)) (M 0) b)) := by
  obtain ⟨h0, a1, a2, a3, a4, a5, a6, a7, a8, a9, a10, a11, a12⟩ := fm_all h
  have c1 := hC b hb
  intro m
  induction m with
  | zero => intro j hj hm; omega
  | succ m ih =>
    intro j hj hm
    rw [f_X12_slideByWetness_L36]
    rcases Nat.lt_or_ge j (M 0) with z | z
    · have b1 := hC j z
      have hnj : ¬ M 0 ≤ j := by omega
      have ih1 := ih (j + 1) (by omega) (by omega)
      have no : zbw (zW M) j b = false → f_X12_slideByWetness_L36 ms (nI b) k m (nI (j + 1)) (nI (zc (fun i => zbw (zW M) i b) j)) = k (nI (zrk (zbw (zW M)) (M 0) b)) := fun hf => by rw [← ih1, zc_f (P := fun i => zbw (zW M) i b) hf]
      have yes : zbw (zW M) j b = true → f_X12_slideByWetness_L36 ms (nI b) k m (nI (j + 1)) (nI (zc (fun i => zbw (zW M) i b) j + 1)) = k (nI (zrk (zbw (zW M)) (M 0) b)) := fun hf => by rw [← ih1, zc_t (P := fun i => zbw (zW M) i b) hf]
      generalize k (nI (zrk (zbw (zW M)) (M 0) b)) = Z at no yes ⊢
      simp (disch := omega) only [sf_g, sf_b, sf_n, sf_c1, il_0, il_1, il_2, nI_add, nI_clamp, nI_inT, nI_leP, nI_spos, nI_szero, Nat.add_zero, if_true, if_false, hnj, h0, a3]
      repeat' split
      all_goals first
        | exact no (decide_eq_false (by omega))
        | exact yes (decide_eq_true (by omega))
    · have e : j = M 0 := by omega
      rw [e]
      simp (disch := omega) only [sf_g, sf_b, sf_n, sf_c0, sf_c1, sf_c2, sf_c3, sf_c4, sf_c5, sf_c6, il_0, il_1, il_2, il_3, il_4, il_5, il_6, il_7, il_8, il_9, il_10, il_11, il_12, il_16, il_20, il_32, il_44, il_45, il_48, il_50, il_57, il_59, il_60, il_64, il_74, il_98, il_99, il_100, il_108, il_109, il_110, il_111, il_112, il_113, il_115, il_119, il_120, il_158, il_255, il_1106, il_2147483647, nI_add, nI_mul, nI_sub, nI_clamp, nI_inT, nI_eqP, nI_leP, nI_ltP, nI_neP, nI_nnP, nI_nlP, nI_nltP, nI_nleP, nI_div, nI_subneg, nI_if, if_true, if_false, ite_true, ite_false, ↓reduceIte, nI_spos, nI_szero, Nat.add_zero, sf_t1, sf_c7, sf_c8, sf_c9, n1_0, n4_0, n4_1, h0, Nat.le_refl]
      rfl
theorem lm_s15 (h : MR M ms) (hn : M 0 ≤ 4) (hC : ∀ k, k < M 0 → zW M k < 100) {r : Nat} (hr : r < 100) {k : Int32 → Option (Int32 × Int32)} : ∀ m j, j ≤ M 0 → M 0 - j < m → f_X12_slideByWetness_L15 ms (nI r) (nI 1) k m (nI j) (nI (zlb (fun b => decide (zrk (zbw (zW M)) (M 0) b = r)) j)) = k (nI (zlb (fun b => decide (zrk (zbw (zW M)) (M 0) b = r)) (M 0))) := by
  have h0 : ∀ k, k < 158 → ms k = nI (M k) := h
  intro m
  induction m with
  | zero => intro j hj hm; omega
  | succ m ih =>
    intro j hj hm
    rw [f_X12_slideByWetness_L15]
    rcases Nat.lt_or_ge j (M 0) with z | z
    · have ih1 := ih (j + 1) (by omega) (by omega)
      have hrk : zrk (zbw (zW M)) (M 0) j ≤ 4 := Nat.le_trans zc_le hn
      have h8 := lm_s36 h hn hC z (k := fun y_19 => sf_b (y_19 = nI r) (sf_n (nI j + 1) (fun x_21 => f_X12_slideByWetness_L15 ms (nI r) (nI 1) k m x_21 (nI j))) (sf_n (nI j + 1) (fun x_20 => f_X12_slideByWetness_L15 ms (nI r) (nI 1) k m x_20 (nI (zlb (fun b => decide (zrk (zbw (zW M)) (M 0) b = r)) j))))) 2000 0 (Nat.zero_le _) (by omega)
      have hc : (ms (0 : Int32).toNatClampNeg ≤ nI j) = False := eq_false (by rw [il_0, nI_clamp (by omega), h0 0 (by omega), nI_leP (by omega) (by omega)]; omega)
      have hc1 : (nI 1 = (0 : Int32)) = False := eq_false (by decide)
      rw [sf_g, if_pos (by decide), sf_b]
      simp only [hc, if_false]
      rw [sf_b]
      simp only [hc1, if_false]
      refine Eq.trans h8 ?_
      rw [zlb] at ih1
      have e3 : (nI (zrk (zbw (zW M)) (M 0) j) = nI r) = (zrk (zbw (zW M)) (M 0) j = r) := nI_eqP (by omega) (by omega)
      simp only [sf_b, sf_n, il_1, nI_add, e3]
      split
      · rename_i e
        rw [if_pos (decide_eq_true e)] at ih1
        exact ih1
      · rename_i e
        rw [if_neg (by simp [e])] at ih1
        exact ih1
    · have e : j = M 0 := by omega
      rw [e]
      simp (disch := omega) only [sf_g, sf_b, sf_n, sf_c0, sf_c1, sf_c2, sf_c3, sf_c4, sf_c5, sf_c6, il_0, il_1, il_2, il_3, il_4, il_5, il_6, il_7, il_8, il_9, il_10, il_11, il_12, il_16, il_20, il_32, il_44, il_45, il_48, il_50, il_57, il_59, il_60, il_64, il_74, il_98, il_99, il_100, il_108, il_109, il_110, il_111, il_112, il_113, il_115, il_119, il_120, il_158, il_255, il_1106, il_2147483647, nI_add, nI_mul, nI_sub, nI_clamp, nI_inT, nI_eqP, nI_leP, nI_ltP, nI_neP, nI_nnP, nI_nlP, nI_nltP, nI_nleP, nI_div, nI_subneg, nI_if, if_true, if_false, ite_true, ite_false, ↓reduceIte, nI_spos, nI_szero, Nat.add_zero, sf_t1, sf_c7, sf_c8, sf_c9, n1_0, n4_0, n4_1, h0, Nat.le_refl]
end MRK
