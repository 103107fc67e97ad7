/-! ranks, free minutes, numbers: what the law is told -/
section RNK
variable {n : Nat} {bg bs bt be : Nat → Int32} {G S T E : Nat → Nat}
/-- the office looks for the rank p -/
theorem lo_bbs (h : zHB n bg bs bt be G S T E) {p : Int32} {k : Unit → Option Int32} {R : Option Int32} (hR : ∀ b, b < n → nI (zrk (zbf S T) n b) = p → some (nI b) = R) (hN : (∀ b, b < n → ¬ nI (zrk (zbf S T) n b) = p) → k () = R) : ∀ m j, j ≤ n → n - j < m → (∀ i, i < j → ¬ nI (zrk (zbf S T) n i) = p) → f_X11_bookingByStart_L2 (nI n) bs bt p k m (nI j) = R := by
  have hn := h.1
  intro m
  induction m with
  | zero => intro j hj hm; omega
  | succ m ih =>
    intro j hj hm hno
    rw [f_X11_bookingByStart_L2]
    rcases Nat.lt_or_ge j n with z | z
    · have hnj : (nI n ≤ nI j) = False := eq_false (by rw [nI_leP (by omega) (by omega)]; omega)
      rw [fb_rank h z]
      simp only [sf_b, sf_c1, sf_n, hnj, if_false, il_1, nI_add]
      split
      · rename_i e; exact hR j z e
      · rename_i e
        refine ih (j + 1) (by omega) (by omega) (fun i hi => ?_)
        rcases Nat.lt_or_ge i j with y | y
        · exact hno i y
        · have : i = j := by omega
          subst this; exact e
    · have e : j = n := by omega
      subst e
      simp (disch := omega) only [sf_b, nI_leP, Nat.le_refl, if_true]
      exact hN hno
theorem lo_bbt (h : zHB n bg bs bt be G S T E) {p : Int32} {k : Unit → Option Nat} {R : Option Nat} (hR : ∀ b, b < n → nI (zrk (zbf S T) n b) = p → none = R) (hN : (∀ b, b < n → ¬ nI (zrk (zbf S T) n b) = p) → k () = R) : ∀ m j, j ≤ n → n - j < m → (∀ i, i < j → ¬ nI (zrk (zbf S T) n i) = p) → f_TX11_bookingByStart_L2 (nI n) bs bt p k m (nI j) = R := by
  have hn := h.1
  intro m
  induction m with
  | zero => intro j hj hm; omega
  | succ m ih =>
    intro j hj hm hno
    rw [f_TX11_bookingByStart_L2]
    rcases Nat.lt_or_ge j n with z | z
    · have hnj : (nI n ≤ nI j) = False := eq_false (by rw [nI_leP (by omega) (by omega)]; omega)
      rw [fb_rank h z]
      simp only [sf_b, sf_c1, sf_n, hnj, if_false, il_1, nI_add]
      split
      · rename_i e; exact hR j z e
      · rename_i e
        refine ih (j + 1) (by omega) (by omega) (fun i hi => ?_)
        rcases Nat.lt_or_ge i j with y | y
        · exact hno i y
        · have : i = j := by omega
          subst this; exact e
    · have e : j = n := by omega
      subst e
      simp (disch := omega) only [sf_b, nI_leP, Nat.le_refl, if_true]
      exact hN hno
end RNK
section RNKG
variable {n : Nat} {gp gr : Nat → Int32} {C R : Nat → Nat}
theorem lo_gbr (h : zHG n gp gr C R) {p : Int32} {k : Unit → Option Int32} {Z : Option Int32} (hR : ∀ b, b < n → nI (zrk (zbr R C) n b) = p → some (nI b) = Z) (hN : (∀ b, b < n → ¬ nI (zrk (zbr R C) n b) = p) → k () = Z) : ∀ m j, j ≤ n → n - j < m → (∀ i, i < j → ¬ nI (zrk (zbr R C) n i) = p) → f_X11_guestByRides_L2 (nI n) gp gr p k m (nI j) = Z := by
  have hn := h.1
  intro m
  induction m with
  | zero => intro j hj hm; omega
  | succ m ih =>
    intro j hj hm hno
    rw [f_X11_guestByRides_L2]
    rcases Nat.lt_or_ge j n with z | z
    · have hnj : (nI n ≤ nI j) = False := eq_false (by rw [nI_leP (by omega) (by omega)]; omega)
      rw [fg_ridden h z]
      simp only [sf_b, sf_c1, sf_n, hnj, if_false, il_1, nI_add]
      split
      · rename_i e; exact hR j z e
      · rename_i e
        refine ih (j + 1) (by omega) (by omega) (fun i hi => ?_)
        rcases Nat.lt_or_ge i j with y | y
        · exact hno i y
        · have : i = j := by omega
          subst this; exact e
    · have e : j = n := by omega
      subst e
      simp (disch := omega) only [sf_b, nI_leP, Nat.le_refl, if_true]
      exact hN hno
theorem lo_gbt (h : zHG n gp gr C R) {p : Int32} {k : Unit → Option Nat} {Z : Option Nat} (hR : ∀ b, b < n → nI (zrk (zbr R C) n b) = p → none = Z) (hN : (∀ b, b < n → ¬ nI (zrk (zbr R C) n b) = p) → k () = Z) : ∀ m j, j ≤ n → n - j < m → (∀ i, i < j → ¬ nI (zrk (zbr R C) n i) = p) → f_TX11_guestByRides_L2 (nI n) gp gr p k m (nI j) = Z := by
  have hn := h.1
  intro m
  induction m with
  | zero => intro j hj hm; omega
  | succ m ih =>
    intro j hj hm hno
    rw [f_TX11_guestByRides_L2]
    rcases Nat.lt_or_ge j n with z | z
    · have hnj : (nI n ≤ nI j) = False := eq_false (by rw [nI_leP (by omega) (by omega)]; omega)
      rw [fg_ridden h z]
      simp only [sf_b, sf_c1, sf_n, hnj, if_false, il_1, nI_add]
      split
      · rename_i e; exact hR j z e
      · rename_i e
        refine ih (j + 1) (by omega) (by omega) (fun i hi => ?_)
        rcases Nat.lt_or_ge i j with y | y
        · exact hno i y
        · have : i = j := by omega
          subst this; exact e
    · have e : j = n := by omega
      subst e
      simp (disch := omega) only [sf_b, nI_leP, Nat.le_refl, if_true]
      exact hN hno
end RNKG
section RNKS
variable {n : Nat} {sw : Nat → Int32} {W : Nat → Nat}
theorem lo_sbw (hn : n ≤ 4) (h : ∀ k, k < n → sw k = nI (W k) ∧ W k < 100) {p : Int32} {k : Unit → Option Int32} {Z : Option Int32} (hR : ∀ b, b < n → nI (zrk (zbw W) n b) = p → some (nI b) = Z) (hN : (∀ b, b < n → ¬ nI (zrk (zbw W) n b) = p) → k () = Z) : ∀ m j, j ≤ n → n - j < m → (∀ i, i < j → ¬ nI (zrk (zbw W) n i) = p) → f_X11_slideByWetness_L2 (nI n) sw p k m (nI j) = Z := by
  intro m
  induction m with
  | zero => intro j hj hm; omega
  | succ m ih =>
    intro j hj hm hno
    rw [f_X11_slideByWetness_L2]
    rcases Nat.lt_or_ge j n with z | z
    · have hnj : (nI n ≤ nI j) = False := eq_false (by rw [nI_leP (by omega) (by omega)]; omega)
      rw [fs_wet hn h z]
      simp only [sf_b, sf_c1, sf_n, hnj, if_false, il_1, nI_add]
      split
      · rename_i e; exact hR j z e
      · rename_i e
        refine ih (j + 1) (by omega) (by omega) (fun i hi => ?_)
        rcases Nat.lt_or_ge i j with y | y
        · exact hno i y
        · have : i = j := by omega
          subst this; exact e
    · have e : j = n := by omega
      subst e
      simp (disch := omega) only [sf_b, nI_leP, Nat.le_refl, if_true]
      exact hN hno
theorem lo_sbt (hn : n ≤ 4) (h : ∀ k, k < n → sw k = nI (W k) ∧ W k < 100) {p : Int32} {k : Unit → Option Nat} {Z : Option Nat} (hR : ∀ b, b < n → nI (zrk (zbw W) n b) = p → none = Z) (hN : (∀ b, b < n → ¬ nI (zrk (zbw W) n b) = p) → k () = Z) : ∀ m j, j ≤ n → n - j < m → (∀ i, i < j → ¬ nI (zrk (zbw W) n i) = p) → f_TX11_slideByWetness_L2 (nI n) sw p k m (nI j) = Z := by
  intro m
  induction m with
  | zero => intro j hj hm; omega
  | succ m ih =>
    intro j hj hm hno
    rw [f_TX11_slideByWetness_L2]
    rcases Nat.lt_or_ge j n with z | z
    · have hnj : (nI n ≤ nI j) = False := eq_false (by rw [nI_leP (by omega) (by omega)]; omega)
      rw [fs_wet hn h z]
      simp only [sf_b, sf_c1, sf_n, hnj, if_false, il_1, nI_add]
      split
      · rename_i e; exact hR j z e
      · rename_i e
        refine ih (j + 1) (by omega) (by omega) (fun i hi => ?_)
        rcases Nat.lt_or_ge i j with y | y
        · exact hno i y
        · have : i = j := by omega
          subst this; exact e
    · have e : j = n := by omega
      subst e
      simp (disch := omega) only [sf_b, nI_leP, Nat.le_refl, if_true]
      exact hN hno
end RNKS
section AS2
variable {M : Nat → Nat} {ms : Nat → Int32} {U : Nat} {on ot op os sc gc bc fc : Int32} {sd sp sw gp gr bg bs bt be ql qg fg fs fm : Nat → Int32}
theorem rk_in {b : Nat → Nat → Bool} {n : Nat} (h : zo b n) (hn : n ≤ 16) {p : Int32} (hp : zin n p) : ∃ k, k < n ∧ p = nI (zrk b n k) := by
  obtain ⟨r, hr, rfl⟩ := hp
  obtain ⟨k, hk, e⟩ := zrk_onto h hr
  exact ⟨k, hk, by rw [e]⟩
theorem rk_out {b : Nat → Nat → Bool} {n : Nat} (h : zo b n) {p : Int32} (hp : ¬ zin n p) : ∀ k, k < n → ¬ nI (zrk b n k) = p := fun k hk e => hp ⟨_, zrk_lt h hk, e.symm⟩
theorem rk_eq {b : Nat → Nat → Bool} {n : Nat} (h : zo b n) (hn : n ≤ 16) {i k : Nat} (hi : i < n) (hk : k < n) (e : nI (zrk b n i) = nI (zrk b n k)) : i = k := by
  have h1 := zrk_lt h hi
  have h2 := zrk_lt h hk
  rw [nI_eq (by omega) (by omega)] at e
  exact zrk_inj h hi hk e
def zfm (M : Nat → Nat) (s t : Nat) : Prop := zc (zPa (zG M) (zS M) (zT M) (zE M) 1000 s t (t + zD M s)) (M 2) = 0
theorem of_sfree (hV : VW M U) (oB : OB M bc bg bs bt be) (oS : OS M sc sd sp sw) {s t : Nat} (hs : s < M 0) (ht : t < 90000000) : f_X8_isSlideFree sd (nI (M 2)) bs bt be (nI s) (nI t) = some (nI (if zc (zPa (zG M) (zS M) (zT M) (zE M) 1000 s t (t + zD M s)) (M 2) = 0 then 1 else 0)) := by
  have hb := zHB_of hV oB
  have hS := hV.2.1 s hs
  have v0 := hV.1.1
  have e1 : f_X1_isSlideFree (nI (M 2)) bs bt be (nI s) (nI t) (nI (t + zD M s)) = some (nI (if zc (zPa (zG M) (zS M) (zT M) (zE M) 1000 s t (t + zD M s)) (M 2) = 0 then 1 else 0)) := by
    have hp : ∀ i, i < M 2 → zPf (zS M) (zT M) (zE M) s t (t + zD M s) i = zPa (zG M) (zS M) (zT M) (zE M) 1000 s t (t + zD M s) i := fun i hi => by
      have := (hb.2 i hi).2.1
      rw [zPf, zPa, decide_eq_decide]
      omega
    refine lo_isSlideFree hb (by omega) (by omega) (by omega) (k := fun _ => some 1) (fun b h1 h2 => ?_) (fun h1 => ?_) 2000 0 (Nat.zero_le _) (by have := hb.1; omega) (fun i hi => absurd hi (Nat.not_lt_zero i))
    · rw [if_neg (by rw [hp b h1] at h2; have := zc_pos b h1 h2; omega)]
    · rw [if_pos (zc_none (fun i hi => by rw [← hp i hi]; exact h1 i hi))]; rfl
  have s1 := (oS.2 s hs).1
  simp (disch := omega) only [sf_g, sf_c1, f_X8_isSlideFree, f_X8_endFrom, nI_inT, nI_clamp, nI_add, s1, e1, if_true]
  split <;> rfl
theorem fm_cl1 (hV : VW M U) (hm : MR M ms) {s t : Nat} (hs : s < M 0) (ht : t < 90000000) : f_X12_clashes ms (-nI 1) (nI s) (nI t) = some (nI (if zc (zPa (zG M) (zS M) (zT M) (zE M) 1000 s t (t + zD M s)) (M 2) = 0 then 0 else 1)) := by
  have hS := hV.2.1 s hs
  have v0 := hV.1.1
  exact fm_clash hm (zMB_of hV) (g := 1000) (fun x hx => by
    rw [nI_neP 1 (by omega) (by omega) (by omega)]
    exact (eq_false (by omega)).symm) (by omega) ht (by omega)
theorem lo_try (hV : VW M U) (hm : MR M ms) (oB : OB M bc bg bs bt be) (oS : OS M sc sd sp sw) {s : Nat} (hs : s < M 0) {ko : Unit → Option Int32} {km : Int32 → Option (Int32 × Int32)} : ∀ m t, M 3 ≤ t → t ≤ M 3 + 121 → M 3 + 121 - t < m → (∃ f, t ≤ f ∧ f ≤ M 3 + 120 ∧ zfm M s f ∧ (∀ x, t ≤ x → x < f → ¬ zfm M s x) ∧ f_X8_freeMinuteByTrying_L2 (nI (M 3)) sd (nI (M 2)) bs bt be (nI s) ko m (nI t) = some (nI f) ∧ f_X12_firstFree_L40 ms (nI s) km m (nI t) = km (nI f)) ∨ ((∀ x, t ≤ x → x ≤ M 3 + 120 → ¬ zfm M s x) ∧ f_X8_freeMinuteByTrying_L2 (nI (M 3)) sd (nI (M 2)) bs bt be (nI s) ko m (nI t) = ko () ∧ f_X12_firstFree_L40 ms (nI s) km m (nI t) = km (nI (M 3 + 121))) := by
  have hU := hV.1.2.2.2.2
  intro m
  induction m with
  | zero => intro t h1 h2 hm2; omega
  | succ m ih =>
    intro t h1 h2 hm2
    rw [f_X8_freeMinuteByTrying_L2, f_X12_firstFree_L40]
    rcases Nat.lt_or_ge (M 3 + 120) t with z | z
    · right
      have e : t = M 3 + 121 := by omega
      subst e
      have y := (fm_isT hm (by omega) (nI (M 3 + 121))).2 (fun ⟨u, u1, u2, u3⟩ => by
        rw [nI_eq (by omega) (by omega)] at u3
        omega)
      refine ⟨fun x x1 x2 => by omega, ?_, ?_⟩
      · simp (disch := omega) only [sf_g, sf_b, sf_n, sf_c0, sf_c1, sf_c2, sf_c3, sf_c4, sf_c5, sf_c6, il_0, il_1, il_2, il_3, il_4, il_5, il_6, il_7, il_8, il_9, il_10, il_11, il_12, il_16, il_20, il_32, il_44, il_45, il_48, il_50, il_57, il_59, il_60, il_64, il_74, il_98, il_99, il_100, il_108, il_109, il_110, il_111, il_112, il_113, il_115, il_119, il_120, il_158, il_255, il_1106, il_2147483647, nI_add, nI_mul, nI_sub, nI_clamp, nI_inT, nI_eqP, nI_leP, nI_ltP, nI_neP, nI_nnP, nI_nlP, nI_nltP, nI_nleP, nI_div, nI_subneg, nI_if, if_true, if_false, ite_true, ite_false, ↓reduceIte, nI_spos, nI_szero, Nat.add_zero, sf_t1, sf_c7, sf_c8, sf_c9, n1_0, n4_0, n4_1, z]
      · simp (disch := omega) only [sf_g, sf_b, sf_n, sf_c0, sf_c1, sf_c2, sf_c3, sf_c4, sf_c5, sf_c6, il_0, il_1, il_2, il_3, il_4, il_5, il_6, il_7, il_8, il_9, il_10, il_11, il_12, il_16, il_20, il_32, il_44, il_45, il_48, il_50, il_57, il_59, il_60, il_64, il_74, il_98, il_99, il_100, il_108, il_109, il_110, il_111, il_112, il_113, il_115, il_119, il_120, il_158, il_255, il_1106, il_2147483647, nI_add, nI_mul, nI_sub, nI_clamp, nI_inT, nI_eqP, nI_leP, nI_ltP, nI_neP, nI_nnP, nI_nlP, nI_nltP, nI_nleP, nI_div, nI_subneg, nI_if, if_true, if_false, ite_true, ite_false, ↓reduceIte, nI_spos, nI_szero, Nat.add_zero, sf_t1, sf_c7, sf_c8, sf_c9, n1_0, n4_0, n4_1, y]
    · have z' : ¬ M 3 + 120 < t := by omega
      have y := (fm_isT hm (by omega) (nI t)).1 ⟨t, h1, z, rfl⟩
      have e1 := of_sfree hV oB oS (t := t) hs (by omega)
      have e2 := fm_cl1 hV hm (t := t) hs (by omega)
      by_cases f : zfm M s t
      · left
        have f' : zc (zPa (zG M) (zS M) (zT M) (zE M) 1000 s t (t + zD M s)) (M 2) = 0 := f
        rw [if_pos f'] at e1 e2
        refine ⟨t, Nat.le_refl _, z, f, fun x x1 x2 => by omega, ?_, ?_⟩
        · simp (disch := omega) only [sf_g, sf_b, sf_n, sf_c0, sf_c1, sf_c2, sf_c3, sf_c4, sf_c5, sf_c6, il_0, il_1, il_2, il_3, il_4, il_5, il_6, il_7, il_8, il_9, il_10, il_11, il_12, il_16, il_20, il_32, il_44, il_45, il_48, il_50, il_57, il_59, il_60, il_64, il_74, il_98, il_99, il_100, il_108, il_109, il_110, il_111, il_112, il_113, il_115, il_119, il_120, il_158, il_255, il_1106, il_2147483647, nI_add, nI_mul, nI_sub, nI_clamp, nI_inT, nI_eqP, nI_leP, nI_ltP, nI_neP, nI_nnP, nI_nlP, nI_nltP, nI_nleP, nI_div, nI_subneg, nI_if, if_true, if_false, ite_true, ite_false, ↓reduceIte, nI_spos, nI_szero, Nat.add_zero, sf_t1, sf_c7, sf_c8, sf_c9, n1_0, n4_0, n4_1, z', e1]
        · simp (disch := omega) only [sf_g, sf_b, sf_n, sf_c0, sf_c1, sf_c2, sf_c3, sf_c4, sf_c5, sf_c6, il_0, il_1, il_2, il_3, il_4, il_5, il_6, il_7, il_8, il_9, il_10, il_11, il_12, il_16, il_20, il_32, il_44, il_45, il_48, il_50, il_57, il_59, il_60, il_64, il_74, il_98, il_99, il_100, il_108, il_109, il_110, il_111, il_112, il_113, il_115, il_119, il_120, il_158, il_255, il_1106, il_2147483647, nI_add, nI_mul, nI_sub, nI_clamp, nI_inT, nI_eqP, nI_leP, nI_ltP, nI_neP, nI_nnP, nI_nlP, nI_nltP, nI_nleP, nI_div, nI_subneg, nI_if, if_true, if_false, ite_true, ite_false, ↓reduceIte, nI_spos, nI_szero, Nat.add_zero, sf_t1, sf_c7, sf_c8, sf_c9, n1_0, n4_0, n4_1, y, e2]
      · have f' : ¬ zc (zPa (zG M) (zS M) (zT M) (zE M) 1000 s t (t + zD M s)) (M 2) = 0 := f
        rw [if_neg f'] at e1 e2
        have ec : f_X8_freeMinuteByTrying_L2 (nI (M 3)) sd (nI (M 2)) bs bt be (nI s) ko m (nI (t + 1)) = (sf_b (nI (M 3) + 120 < nI t) (ko ()) (sf_c1 (f_X8_isSlideFree sd (nI (M 2)) bs bt be (nI s) (nI t)) (fun r_2 => sf_b (r_2 = 0) (sf_n (nI t + 1) (fun x_3 => f_X8_freeMinuteByTrying_L2 (nI (M 3)) sd (nI (M 2)) bs bt be (nI s) ko m x_3)) (some (nI t))))) := by
          simp (disch := omega) only [sf_g, sf_b, sf_n, sf_c0, sf_c1, sf_c2, sf_c3, sf_c4, sf_c5, sf_c6, il_0, il_1, il_2, il_3, il_4, il_5, il_6, il_7, il_8, il_9, il_10, il_11, il_12, il_16, il_20, il_32, il_44, il_45, il_48, il_50, il_57, il_59, il_60, il_64, il_74, il_98, il_99, il_100, il_108, il_109, il_110, il_111, il_112, il_113, il_115, il_119, il_120, il_158, il_255, il_1106, il_2147483647, nI_add, nI_mul, nI_sub, nI_clamp, nI_inT, nI_eqP, nI_leP, nI_ltP, nI_neP, nI_nnP, nI_nlP, nI_nltP, nI_nleP, nI_div, nI_subneg, nI_if, if_true, if_false, ite_true, ite_false, ↓reduceIte, nI_spos, nI_szero, Nat.add_zero, sf_t1, sf_c7, sf_c8, sf_c9, n1_0, n4_0, n4_1, z', e1]
        have em : f_X12_firstFree_L40 ms (nI s) km m (nI (t + 1)) = (sf_c1 (f_X12_isStart ms (nI t)) (fun r_4 => sf_b (r_4 = 0) (km (nI t)) (sf_c1 (f_X12_clashes ms (-1 : Int32) (nI s) (nI t)) (fun r_5 => sf_b (r_5 = 0) (km (nI t)) (sf_n (nI t + 1) (fun x_6 => f_X12_firstFree_L40 ms (nI s) km m x_6)))))) := by
          simp (disch := omega) only [sf_g, sf_b, sf_n, sf_c0, sf_c1, sf_c2, sf_c3, sf_c4, sf_c5, sf_c6, il_0, il_1, il_2, il_3, il_4, il_5, il_6, il_7, il_8, il_9, il_10, il_11, il_12, il_16, il_20, il_32, il_44, il_45, il_48, il_50, il_57, il_59, il_60, il_64, il_74, il_98, il_99, il_100, il_108, il_109, il_110, il_111, il_112, il_113, il_115, il_119, il_120, il_158, il_255, il_1106, il_2147483647, nI_add, nI_mul, nI_sub, nI_clamp, nI_inT, nI_eqP, nI_leP, nI_ltP, nI_neP, nI_nnP, nI_nlP, nI_nltP, nI_nleP, nI_div, nI_subneg, nI_if, if_true, if_false, ite_true, ite_false, ↓reduceIte, nI_spos, nI_szero, Nat.add_zero, sf_t1, sf_c7, sf_c8, sf_c9, n1_0, n4_0, n4_1, y, e2]
        rw [← ec, ← em]
        rcases ih (t + 1) (by omega) (by omega) (by omega) with ⟨g, g1, g2, g3, g4, g5, g6⟩ | ⟨g1, g2, g3⟩
        · left
          refine ⟨g, by omega, g2, g3, fun x x1 x2 => ?_, g5, g6⟩
          rcases Nat.decEq x t with w | w
          · exact g4 x (by omega) x2
          · rw [w]; exact f
        · right
          refine ⟨fun x x1 x2 => ?_, g2, g3⟩
          rcases Nat.decEq x t with w | w
          · exact g1 x (by omega) x2
          · rw [w]; exact f
theorem lo_gaps (hV : VW M U) (oB : OB M bc bg bs bt be) (oS : OS M sc sd sp sw) {s f : Nat} (hs : s < M 0) (hf : f < 50000000) {k : Int32 → Option Int32} : ∀ (m i u x : Nat) (p : Int32), p.toInt = (u : Int) - 1 → i ≤ M 2 → M 2 - i < m → x < 50000000 → zga (fun k => decide (zS M k = s)) (zT M) (zE M) (M 2) (zD M s) f i u x → ∃ y, f ≤ y ∧ y < 50000000 ∧ (∀ x, f ≤ x → x < y → zcl (fun k => decide (zS M k = s)) (zT M) (zE M) (M 2) (zD M s) x) ∧ ¬ zcl (fun k => decide (zS M k = s)) (zT M) (zE M) (M 2) (zD M s) y ∧ f_X8_freeMinuteByGaps_L8 sd (nI (M 2)) bs bt be (nI s) k m (nI i) p (nI x) = k (nI y) := by
  have hb := zHB_of hV oB
  have hU := hV.1.2.2.2.2
  have hS := hV.2.1 s hs
  have v0 := hV.1.1
  have v2 := hV.1.2.2.1
  have s1 := (oS.2 s hs).1
  have hE : ∀ k, k < M 2 → decide (zS M k = s) = true → zE M k = zT M k + zD M s := fun k _ hk => by
    rw [zE, of_decide_eq_true hk]
  intro m
  induction m with
  | zero => intro i u x p hp hi hm2; omega
  | succ m ih =>
    intro i u x p hp hi hm2 hx hz
    rw [f_X8_freeMinuteByGaps_L8]
    rcases Nat.lt_or_ge i (M 2) with z | z
    · have hni : ¬ M 2 ≤ i := by omega
      have hnx := fb_next hb (s := s) (by omega) hp
      rcases znb_lt (S := zS M) (T := zT M) (s := s) (u := u) (M 2) with e | e
      · rw [e, zio_n] at hnx
        refine ⟨x, hz.1, hx, hz.2.1, zga_free hz (fun k h1 h2 h3 => by
          have := znb_none (by omega) e k h1 (of_decide_eq_true h2)
          omega), ?_⟩
        simp (disch := omega) only [sf_g, sf_b, sf_n, sf_c0, sf_c1, sf_c2, sf_c3, sf_c4, sf_c5, sf_c6, il_0, il_1, il_2, il_3, il_4, il_5, il_6, il_7, il_8, il_9, il_10, il_11, il_12, il_16, il_20, il_32, il_44, il_45, il_48, il_50, il_57, il_59, il_60, il_64, il_74, il_98, il_99, il_100, il_108, il_109, il_110, il_111, il_112, il_113, il_115, il_119, il_120, il_158, il_255, il_1106, il_2147483647, nI_add, nI_mul, nI_sub, nI_clamp, nI_inT, nI_eqP, nI_leP, nI_ltP, nI_neP, nI_nnP, nI_nlP, nI_nltP, nI_nleP, nI_div, nI_subneg, nI_if, if_true, if_false, ite_true, ite_false, ↓reduceIte, nI_spos, nI_szero, Nat.add_zero, sf_t1, sf_c7, sf_c8, sf_c9, n1_0, n4_0, n4_1, hni, hnx]
      · have hfi := znb_some (S := zS M) (T := zT M) (s := s) (u := u) (j := M 2) (by omega) (by omega)
        obtain ⟨⟨g1, g2, g3, g4⟩, c1, c2, c3, c4, c5⟩ := hb.2 _ e
        have hEb := hE _ e hfi.2.1
        rw [zio_c (by omega)] at hnx
        have hTb : zT M (znb (zS M) (zT M) s u (M 2)) ≤ 4000120 := by have := (hV.2.2.2.2.1 _ e).2.2.1; omega
        by_cases c : zT M (znb (zS M) (zT M) s u (M 2)) < x + zD M s
        · obtain ⟨y, y1, y2, y3, y4, y5⟩ := ih (i + 1) (zT M (znb (zS M) (zT M) s u (M 2)) + 1) (if x < zE M (znb (zS M) (zT M) s u (M 2)) then zE M (znb (zS M) (zT M) s u (M 2)) else x) (nI (zT M (znb (zS M) (zT M) s u (M 2)))) (nI_bef (by omega)) (by omega) (by omega) (by split <;> omega) (zga_s hE hz hfi c)
          refine ⟨y, y1, y2, y3, y4, ?_⟩
          rw [← y5]
          simp (disch := omega) only [sf_g, sf_b, sf_n, sf_c0, sf_c1, sf_c2, sf_c3, sf_c4, sf_c5, sf_c6, il_0, il_1, il_2, il_3, il_4, il_5, il_6, il_7, il_8, il_9, il_10, il_11, il_12, il_16, il_20, il_32, il_44, il_45, il_48, il_50, il_57, il_59, il_60, il_64, il_74, il_98, il_99, il_100, il_108, il_109, il_110, il_111, il_112, il_113, il_115, il_119, il_120, il_158, il_255, il_1106, il_2147483647, nI_add, nI_mul, nI_sub, nI_clamp, nI_inT, nI_eqP, nI_leP, nI_ltP, nI_neP, nI_nnP, nI_nlP, nI_nltP, nI_nleP, nI_div, nI_subneg, nI_if, if_true, if_false, ite_true, ite_false, ↓reduceIte, nI_spos, nI_szero, Nat.add_zero, sf_t1, sf_c7, sf_c8, sf_c9, n1_0, n4_0, n4_1, f_X8_endFrom, hni, hnx, s1, g3, g4, c]
        · refine ⟨x, hz.1, hx, hz.2.1, zga_free hz (fun k h1 h2 h3 => by
            have := hfi.2.2.2 k h1 h2 h3
            omega), ?_⟩
          simp (disch := omega) only [sf_g, sf_b, sf_n, sf_c0, sf_c1, sf_c2, sf_c3, sf_c4, sf_c5, sf_c6, il_0, il_1, il_2, il_3, il_4, il_5, il_6, il_7, il_8, il_9, il_10, il_11, il_12, il_16, il_20, il_32, il_44, il_45, il_48, il_50, il_57, il_59, il_60, il_64, il_74, il_98, il_99, il_100, il_108, il_109, il_110, il_111, il_112, il_113, il_115, il_119, il_120, il_158, il_255, il_1106, il_2147483647, nI_add, nI_mul, nI_sub, nI_clamp, nI_inT, nI_eqP, nI_leP, nI_ltP, nI_neP, nI_nnP, nI_nlP, nI_nltP, nI_nleP, nI_div, nI_subneg, nI_if, if_true, if_false, ite_true, ite_false, ↓reduceIte, nI_spos, nI_szero, Nat.add_zero, sf_t1, sf_c7, sf_c8, sf_c9, n1_0, n4_0, n4_1, f_X8_endFrom, hni, hnx, s1, g3, c]
    · have e : i = M 2 := by omega
      rw [e] at hz
      refine ⟨x, hz.1, hx, hz.2.1, zga_free hz (fun k h1 h2 h3 => absurd h3 (zga_full hz k h1 h2)), ?_⟩
      simp (disch := omega) only [sf_g, sf_b, sf_n, sf_c0, sf_c1, sf_c2, sf_c3, sf_c4, sf_c5, sf_c6, il_0, il_1, il_2, il_3, il_4, il_5, il_6, il_7, il_8, il_9, il_10, il_11, il_12, il_16, il_20, il_32, il_44, il_45, il_48, il_50, il_57, il_59, il_60, il_64, il_74, il_98, il_99, il_100, il_108, il_109, il_110, il_111, il_112, il_113, il_115, il_119, il_120, il_158, il_255, il_1106, il_2147483647, nI_add, nI_mul, nI_sub, nI_clamp, nI_inT, nI_eqP, nI_leP, nI_ltP, nI_neP, nI_nnP, nI_nlP, nI_nltP, nI_nleP, nI_div, nI_subneg, nI_if, if_true, if_false, ite_true, ite_false, ↓reduceIte, nI_spos, nI_szero, Nat.add_zero, sf_t1, sf_c7, sf_c8, sf_c9, n1_0, n4_0, n4_1, z]
theorem zfm_cl {s t : Nat} (hB : zMB M) : zfm M s t ↔ ¬ zcl (fun k => decide (zS M k = s)) (zT M) (zE M) (M 2) (zD M s) t := by
  constructor
  · intro h ⟨k, h1, h2, h3, h4⟩
    have h5 := of_decide_eq_false (zc_all0 h k h1)
    have h6 := of_decide_eq_true h2
    exact h5 ⟨Or.inr h6, h3, h4⟩
  · intro h
    refine zc_none (fun k hk => decide_eq_false (fun ⟨e1, e2, e3⟩ => h ⟨k, hk, decide_eq_true ?_, e2, e3⟩))
    have := (hB.2 k hk).1
    omega
end AS2
section AS3
variable {M : Nat → Nat} {U : Nat} {on ot op os sc gc bc fc : Int32} {sd sp sw gp gr bg bs bt be ql qg fg fs fm : Nat → Int32}
theorem a_byStart (hV : VW M U) (hr : RO M on ot op os sc sd sp sw gc gp gr bc bg bs bt be ql qg fc fg fs fm) {b : Nat} (hbn : b < M 2) : f_X11_bookingByStart bc bs bt (nI (zrk (zbf (zS M) (zT M)) (M 2) b)) = some (nI b) ∧ f_L_byStart bc bs bt (nI (zrk (zbf (zS M) (zT M)) (M 2) b)) = some (nI b) := by
  have hv := hV
  obtain ⟨⟨v0, v1, v2, v4, v3, vU⟩, hS, hR, hVQ, hVB, hD, hVF, hC⟩ := hv
  have hr' := hr
  obtain ⟨⟨n1, n2, n3, n4⟩, oS, oG, oB, oQ, oF⟩ := hr'
  have s0 := oS.1
  have g0 := oG.1
  have b0 := oB.1
  have f0 := oF.1
  have hz := zo_of hV
  have hb := zHB_of hV oB
  have e1 : f_X11_bookingByStart (nI (M 2)) bs bt (nI (zrk (zbf (zS M) (zT M)) (M 2) b)) = some (nI b) := lo_bbs hb (k := fun _ => none) (fun i hi e => by rw [rk_eq hz (by omega) hi hbn e]) (fun hno => absurd rfl (hno b hbn)) 2000 0 (Nat.zero_le _) (by omega) (fun i hi => absurd hi (Nat.not_lt_zero i))
  have e2 : f_TX11_bookingByStart (nI (M 2)) bs bt (nI (zrk (zbf (zS M) (zT M)) (M 2) b)) = none := lo_bbt hb (k := fun _ => some 4) (fun i hi e => rfl) (fun hno => absurd rfl (hno b hbn)) 2000 0 (Nat.zero_le _) (by omega) (fun i hi => absurd hi (Nat.not_lt_zero i))
  rw [b0]
  exact ⟨e1, by simp only [sf_c1, sf_t1, f_L_byStart, e1, e2]⟩
theorem x_byStart (hV : VW M U) (hr : RO M on ot op os sc sd sp sw gc gp gr bc bg bs bt be ql qg fc fg fs fm) {p : Int32} (c : ¬ zin (M 2) p) : f_L_byStart bc bs bt p = some (-13) := by
  have hv := hV
  obtain ⟨⟨v0, v1, v2, v4, v3, vU⟩, hS, hR, hVQ, hVB, hD, hVF, hC⟩ := hv
  have hr' := hr
  obtain ⟨⟨n1, n2, n3, n4⟩, oS, oG, oB, oQ, oF⟩ := hr'
  have s0 := oS.1
  have g0 := oG.1
  have b0 := oB.1
  have f0 := oF.1
  have hz := zo_of hV
  have hb := zHB_of hV oB
  have hno := rk_out hz c
  have e2 : f_TX11_bookingByStart (nI (M 2)) bs bt p = some 4 := lo_bbt hb (k := fun _ => some 4) (fun i hi e => absurd e (hno i hi)) (fun _ => rfl) 2000 0 (Nat.zero_le _) (by omega) (fun i hi => absurd hi (Nat.not_lt_zero i))
  rw [b0]
  simp only [sf_b, sf_t1, f_L_byStart, e2, if_true]
theorem a_byRides (hV : VW M U) (hr : RO M on ot op os sc sd sp sw gc gp gr bc bg bs bt be ql qg fc fg fs fm) {b : Nat} (hbn : b < M 1) : f_X11_guestByRides gc gp gr (nI (zrk (zbr (zR M) (zC M)) (M 1) b)) = some (nI b) ∧ f_L_byRides gc gp gr (nI (zrk (zbr (zR M) (zC M)) (M 1) b)) = some (nI b) := by
  have hv := hV
  obtain ⟨⟨v0, v1, v2, v4, v3, vU⟩, hS, hR, hVQ, hVB, hD, hVF, hC⟩ := hv
  have hr' := hr
  obtain ⟨⟨n1, n2, n3, n4⟩, oS, oG, oB, oQ, oF⟩ := hr'
  have s0 := oS.1
  have g0 := oG.1
  have b0 := oB.1
  have f0 := oF.1
  have hz := zbr_o (zR M) (zC M) (M 1)
  have hb := zHG_of hV (by omega) oG
  have e1 : f_X11_guestByRides (nI (M 1)) gp gr (nI (zrk (zbr (zR M) (zC M)) (M 1) b)) = some (nI b) := lo_gbr hb (k := fun _ => none) (fun i hi e => by rw [rk_eq hz (by omega) hi hbn e]) (fun hno => absurd rfl (hno b hbn)) 2000 0 (Nat.zero_le _) (by omega) (fun i hi => absurd hi (Nat.not_lt_zero i))
  have e2 : f_TX11_guestByRides (nI (M 1)) gp gr (nI (zrk (zbr (zR M) (zC M)) (M 1) b)) = none := lo_gbt hb (k := fun _ => some 4) (fun i hi e => rfl) (fun hno => absurd rfl (hno b hbn)) 2000 0 (Nat.zero_le _) (by omega) (fun i hi => absurd hi (Nat.not_lt_zero i))
  rw [g0]
  exact ⟨e1, by simp only [sf_c1, sf_t1, f_L_byRides, e1, e2]⟩
theorem x_byRides (hV : VW M U) (hr : RO M on ot op os sc sd sp sw gc gp gr bc bg bs bt be ql qg fc fg fs fm) {p : Int32} (c : ¬ zin (M 1) p) : f_L_byRides gc gp gr p = some (-13) := by
  have hv := hV
  obtain ⟨⟨v0, v1, v2, v4, v3, vU⟩, hS, hR, hVQ, hVB, hD, hVF, hC⟩ := hv
  have hr' := hr
  obtain ⟨⟨n1, n2, n3, n4⟩, oS, oG, oB, oQ, oF⟩ := hr'
  have s0 := oS.1
  have g0 := oG.1
  have b0 := oB.1
  have f0 := oF.1
  have hz := zbr_o (zR M) (zC M) (M 1)
  have hb := zHG_of hV (by omega) oG
  have hno := rk_out hz c
  have e2 : f_TX11_guestByRides (nI (M 1)) gp gr p = some 4 := lo_gbt hb (k := fun _ => some 4) (fun i hi e => absurd e (hno i hi)) (fun _ => rfl) 2000 0 (Nat.zero_le _) (by omega) (fun i hi => absurd hi (Nat.not_lt_zero i))
  rw [g0]
  simp only [sf_b, sf_t1, f_L_byRides, e2, if_true]
theorem a_byWetness (hV : VW M U) (hr : RO M on ot op os sc sd sp sw gc gp gr bc bg bs bt be ql qg fc fg fs fm) {b : Nat} (hbn : b < M 0) : f_X11_slideByWetness sc sw (nI (zrk (zbw (zW M)) (M 0) b)) = some (nI b) ∧ f_L_byWetness sc sw (nI (zrk (zbw (zW M)) (M 0) b)) = some (nI b) := by
  have hv := hV
  obtain ⟨⟨v0, v1, v2, v4, v3, vU⟩, hS, hR, hVQ, hVB, hD, hVF, hC⟩ := hv
  have hr' := hr
  obtain ⟨⟨n1, n2, n3, n4⟩, oS, oG, oB, oQ, oF⟩ := hr'
  have s0 := oS.1
  have g0 := oG.1
  have b0 := oB.1
  have f0 := oF.1
  have hz := zbw_o (zW M) (M 0)
  have hb := (fun k hk => ⟨(oS.2 k hk).2.2, by have := hS k hk; omega⟩ : ∀ k, k < M 0 → sw k = nI (zW M k) ∧ zW M k < 100)
  have e1 : f_X11_slideByWetness (nI (M 0)) sw (nI (zrk (zbw (zW M)) (M 0) b)) = some (nI b) := lo_sbw v0 hb (k := fun _ => none) (fun i hi e => by rw [rk_eq hz (by omega) hi hbn e]) (fun hno => absurd rfl (hno b hbn)) 2000 0 (Nat.zero_le _) (by omega) (fun i hi => absurd hi (Nat.not_lt_zero i))
  have e2 : f_TX11_slideByWetness (nI (M 0)) sw (nI (zrk (zbw (zW M)) (M 0) b)) = none := lo_sbt v0 hb (k := fun _ => some 4) (fun i hi e => rfl) (fun hno => absurd rfl (hno b hbn)) 2000 0 (Nat.zero_le _) (by omega) (fun i hi => absurd hi (Nat.not_lt_zero i))
  rw [s0]
  exact ⟨e1, by simp only [sf_c1, sf_t1, f_L_byWetness, e1, e2]⟩
theorem x_byWetness (hV : VW M U) (hr : RO M on ot op os sc sd sp sw gc gp gr bc bg bs bt be ql qg fc fg fs fm) {p : Int32} (c : ¬ zin (M 0) p) : f_L_byWetness sc sw p = some (-13) := by
  have hv := hV
  obtain ⟨⟨v0, v1, v2, v4, v3, vU⟩, hS, hR, hVQ, hVB, hD, hVF, hC⟩ := hv
  have hr' := hr
  obtain ⟨⟨n1, n2, n3, n4⟩, oS, oG, oB, oQ, oF⟩ := hr'
  have s0 := oS.1
  have g0 := oG.1
  have b0 := oB.1
  have f0 := oF.1
  have hz := zbw_o (zW M) (M 0)
  have hb := (fun k hk => ⟨(oS.2 k hk).2.2, by have := hS k hk; omega⟩ : ∀ k, k < M 0 → sw k = nI (zW M k) ∧ zW M k < 100)
  have hno := rk_out hz c
  have e2 : f_TX11_slideByWetness (nI (M 0)) sw p = some 4 := lo_sbt v0 hb (k := fun _ => some 4) (fun i hi e => absurd e (hno i hi)) (fun _ => rfl) 2000 0 (Nat.zero_le _) (by omega) (fun i hi => absurd hi (Nat.not_lt_zero i))
  rw [s0]
  simp only [sf_b, sf_t1, f_L_byWetness, e2, if_true]
theorem a_isFree (hV : VW M U) (hr : RO M on ot op os sc sd sp sw gc gp gr bc bg bs bt be ql qg fc fg fs fm) {s t : Nat} (hs : s < M 0) (t1 : M 3 ≤ t) (t2 : t ≤ M 3 + 120) : f_L_isFree on sc sd bc bs bt be (nI s) (nI t) = some (nI (if zc (zPa (zG M) (zS M) (zT M) (zE M) 1000 s t (t + zD M s)) (M 2) = 0 then 1 else 0)) := by
  have hv := hV
  obtain ⟨⟨v0, v1, v2, v4, v3, vU⟩, hS, hR, hVQ, hVB, hD, hVF, hC⟩ := hv
  have hr' := hr
  obtain ⟨⟨n1, n2, n3, n4⟩, oS, oG, oB, oQ, oF⟩ := hr'
  have s0 := oS.1
  have g0 := oG.1
  have b0 := oB.1
  have f0 := oF.1
  have x1 : f_X10_has (nI (M 0)) (nI s) = some (nI 1) := fh_1 (by omega) ⟨s, hs, rfl⟩
  have x2 := (fk_1 (M := M) (by omega) ⟨t, t1, t2, rfl⟩).2
  have e1 := of_sfree hV oB oS (t := t) hs (by omega)
  by_cases f : zc (zPa (zG M) (zS M) (zT M) (zE M) 1000 s t (t + zD M s)) (M 2) = 0
  · rw [if_pos f] at e1
    rw [if_pos f]
    simp (disch := omega) only [sf_g, sf_b, sf_n, sf_c0, sf_c1, sf_c2, sf_c3, sf_c4, sf_c5, sf_c6, il_0, il_1, il_2, il_3, il_4, il_5, il_6, il_7, il_8, il_9, il_10, il_11, il_12, il_16, il_20, il_32, il_44, il_45, il_48, il_50, il_57, il_59, il_60, il_64, il_74, il_98, il_99, il_100, il_108, il_109, il_110, il_111, il_112, il_113, il_115, il_119, il_120, il_158, il_255, il_1106, il_2147483647, nI_add, nI_mul, nI_sub, nI_clamp, nI_inT, nI_eqP, nI_leP, nI_ltP, nI_neP, nI_nnP, nI_nlP, nI_nltP, nI_nleP, nI_div, nI_subneg, nI_if, if_true, if_false, ite_true, ite_false, ↓reduceIte, nI_spos, nI_szero, Nat.add_zero, sf_t1, sf_c7, sf_c8, sf_c9, n1_0, n4_0, n4_1, il_13, f_L_isFree, f_TX11_isFree, f_X11_isFree, f_TX11_checkSlide, f_X11_checkSlide, f_TX11_checkBookableMinute, f_X11_checkBookableMinute, s0, n1, b0, x1, x2, e1]
    rw [if_pos (Or.inr trivial)]
    exact if_neg (by decide)
  · rw [if_neg f] at e1
    rw [if_neg f]
    simp (disch := omega) only [sf_g, sf_b, sf_n, sf_c0, sf_c1, sf_c2, sf_c3, sf_c4, sf_c5, sf_c6, il_0, il_1, il_2, il_3, il_4, il_5, il_6, il_7, il_8, il_9, il_10, il_11, il_12, il_16, il_20, il_32, il_44, il_45, il_48, il_50, il_57, il_59, il_60, il_64, il_74, il_98, il_99, il_100, il_108, il_109, il_110, il_111, il_112, il_113, il_115, il_119, il_120, il_158, il_255, il_1106, il_2147483647, nI_add, nI_mul, nI_sub, nI_clamp, nI_inT, nI_eqP, nI_leP, nI_ltP, nI_neP, nI_nnP, nI_nlP, nI_nltP, nI_nleP, nI_div, nI_subneg, nI_if, if_true, if_false, ite_true, ite_false, ↓reduceIte, nI_spos, nI_szero, Nat.add_zero, sf_t1, sf_c7, sf_c8, sf_c9, n1_0, n4_0, n4_1, il_13, f_L_isFree, f_TX11_isFree, f_X11_isFree, f_TX11_checkSlide, f_X11_checkSlide, f_TX11_checkBookableMinute, f_X11_checkBookableMinute, s0, n1, b0, x1, x2, e1]
    rw [if_pos (Or.inl trivial)]
    exact if_pos rfl
theorem y_isFree (hV : VW M U) (hr : RO M on ot op os sc sd sp sw gc gp gr bc bg bs bt be ql qg fc fg fs fm) {s : Nat} (hs : s < M 0) {p : Int32} (d : ¬ zbk M p) : f_L_isFree on sc sd bc bs bt be (nI s) p = some (-12) := by
  have hv := hV
  obtain ⟨⟨v0, v1, v2, v4, v3, vU⟩, hS, hR, hVQ, hVB, hD, hVF, hC⟩ := hv
  have hr' := hr
  obtain ⟨⟨n1, n2, n3, n4⟩, oS, oG, oB, oQ, oF⟩ := hr'
  have s0 := oS.1
  have g0 := oG.1
  have b0 := oB.1
  have f0 := oF.1
  have x1 : f_X10_has (nI (M 0)) (nI s) = some (nI 1) := fh_1 (by omega) ⟨s, hs, rfl⟩
  have x2 := (fk_0 (by omega) d).2
  simp (disch := omega) only [sf_g, sf_b, sf_n, sf_c0, sf_c1, sf_c2, sf_c3, sf_c4, sf_c5, sf_c6, il_0, il_1, il_2, il_3, il_4, il_5, il_6, il_7, il_8, il_9, il_10, il_11, il_12, il_16, il_20, il_32, il_44, il_45, il_48, il_50, il_57, il_59, il_60, il_64, il_74, il_98, il_99, il_100, il_108, il_109, il_110, il_111, il_112, il_113, il_115, il_119, il_120, il_158, il_255, il_1106, il_2147483647, nI_add, nI_mul, nI_sub, nI_clamp, nI_inT, nI_eqP, nI_leP, nI_ltP, nI_neP, nI_nnP, nI_nlP, nI_nltP, nI_nleP, nI_div, nI_subneg, nI_if, if_true, if_false, ite_true, ite_false, ↓reduceIte, nI_spos, nI_szero, Nat.add_zero, sf_t1, sf_c7, sf_c8, sf_c9, n1_0, n4_0, n4_1, il_13, f_L_isFree, f_TX11_isFree, f_TX11_checkSlide, f_X11_checkSlide, f_TX11_checkBookableMinute, s0, n1, x1, x2, (by decide : ¬ (1 : Nat) = 0)]
theorem x_isFree (hV : VW M U) (hr : RO M on ot op os sc sd sp sw gc gp gr bc bg bs bt be ql qg fc fg fs fm) {p q : Int32} (c : ¬ zin (M 0) p) : f_L_isFree on sc sd bc bs bt be p q = some (-11) := by
  have hv := hV
  obtain ⟨⟨v0, v1, v2, v4, v3, vU⟩, hS, hR, hVQ, hVB, hD, hVF, hC⟩ := hv
  have hr' := hr
  obtain ⟨⟨n1, n2, n3, n4⟩, oS, oG, oB, oQ, oF⟩ := hr'
  have s0 := oS.1
  have g0 := oG.1
  have b0 := oB.1
  have f0 := oF.1
  have x1 : f_X10_has (nI (M 0)) p = some (nI 0) := fh_0 (by omega) c
  simp (disch := omega) only [sf_g, sf_b, sf_n, sf_c0, sf_c1, sf_c2, sf_c3, sf_c4, sf_c5, sf_c6, il_0, il_1, il_2, il_3, il_4, il_5, il_6, il_7, il_8, il_9, il_10, il_11, il_12, il_16, il_20, il_32, il_44, il_45, il_48, il_50, il_57, il_59, il_60, il_64, il_74, il_98, il_99, il_100, il_108, il_109, il_110, il_111, il_112, il_113, il_115, il_119, il_120, il_158, il_255, il_1106, il_2147483647, nI_add, nI_mul, nI_sub, nI_clamp, nI_inT, nI_eqP, nI_leP, nI_ltP, nI_neP, nI_nnP, nI_nlP, nI_nltP, nI_nleP, nI_div, nI_subneg, nI_if, if_true, if_false, ite_true, ite_false, ↓reduceIte, nI_spos, nI_szero, Nat.add_zero, sf_t1, sf_c7, sf_c8, sf_c9, n1_0, n4_0, n4_1, il_13, f_L_isFree, f_TX11_isFree, f_TX11_checkSlide, s0, x1]
theorem y_firstFree (hV : VW M U) (hr : RO M on ot op os sc sd sp sw gc gp gr bc bg bs bt be ql qg fc fg fs fm) {s : Nat} (hs : s < M 0) {p : Int32} (d : ¬ zbk M p) : f_L_firstFree on sc sd bc bs bt be (nI s) p = some (-12) := by
  have hv := hV
  obtain ⟨⟨v0, v1, v2, v4, v3, vU⟩, hS, hR, hVQ, hVB, hD, hVF, hC⟩ := hv
  have hr' := hr
  obtain ⟨⟨n1, n2, n3, n4⟩, oS, oG, oB, oQ, oF⟩ := hr'
  have s0 := oS.1
  have g0 := oG.1
  have b0 := oB.1
  have f0 := oF.1
  have x1 : f_X10_has (nI (M 0)) (nI s) = some (nI 1) := fh_1 (by omega) ⟨s, hs, rfl⟩
  have x2 := (fk_0 (by omega) d).2
  simp (disch := omega) only [sf_g, sf_b, sf_n, sf_c0, sf_c1, sf_c2, sf_c3, sf_c4, sf_c5, sf_c6, il_0, il_1, il_2, il_3, il_4, il_5, il_6, il_7, il_8, il_9, il_10, il_11, il_12, il_16, il_20, il_32, il_44, il_45, il_48, il_50, il_57, il_59, il_60, il_64, il_74, il_98, il_99, il_100, il_108, il_109, il_110, il_111, il_112, il_113, il_115, il_119, il_120, il_158, il_255, il_1106, il_2147483647, nI_add, nI_mul, nI_sub, nI_clamp, nI_inT, nI_eqP, nI_leP, nI_ltP, nI_neP, nI_nnP, nI_nlP, nI_nltP, nI_nleP, nI_div, nI_subneg, nI_if, if_true, if_false, ite_true, ite_false, ↓reduceIte, nI_spos, nI_szero, Nat.add_zero, sf_t1, sf_c7, sf_c8, sf_c9, n1_0, n4_0, n4_1, il_13, f_L_firstFree, f_TX11_firstFree, f_TX11_checkSlide, f_X11_checkSlide, f_TX11_checkBookableMinute, s0, n1, x1, x2, (by decide : ¬ (1 : Nat) = 0)]
theorem x_firstFree (hV : VW M U) (hr : RO M on ot op os sc sd sp sw gc gp gr bc bg bs bt be ql qg fc fg fs fm) {p q : Int32} (c : ¬ zin (M 0) p) : f_L_firstFree on sc sd bc bs bt be p q = some (-11) := by
  have hv := hV
  obtain ⟨⟨v0, v1, v2, v4, v3, vU⟩, hS, hR, hVQ, hVB, hD, hVF, hC⟩ := hv
  have hr' := hr
  obtain ⟨⟨n1, n2, n3, n4⟩, oS, oG, oB, oQ, oF⟩ := hr'
  have s0 := oS.1
  have g0 := oG.1
  have b0 := oB.1
  have f0 := oF.1
  have x1 : f_X10_has (nI (M 0)) p = some (nI 0) := fh_0 (by omega) c
  simp (disch := omega) only [sf_g, sf_b, sf_n, sf_c0, sf_c1, sf_c2, sf_c3, sf_c4, sf_c5, sf_c6, il_0, il_1, il_2, il_3, il_4, il_5, il_6, il_7, il_8, il_9, il_10, il_11, il_12, il_16, il_20, il_32, il_44, il_45, il_48, il_50, il_57, il_59, il_60, il_64, il_74, il_98, il_99, il_100, il_108, il_109, il_110, il_111, il_112, il_113, il_115, il_119, il_120, il_158, il_255, il_1106, il_2147483647, nI_add, nI_mul, nI_sub, nI_clamp, nI_inT, nI_eqP, nI_leP, nI_ltP, nI_neP, nI_nnP, nI_nlP, nI_nltP, nI_nleP, nI_div, nI_subneg, nI_if, if_true, if_false, ite_true, ite_false, ↓reduceIte, nI_spos, nI_szero, Nat.add_zero, sf_t1, sf_c7, sf_c8, sf_c9, n1_0, n4_0, n4_1, il_13, f_L_firstFree, f_TX11_firstFree, f_TX11_checkSlide, s0, x1]
theorem y_byGaps (hV : VW M U) (hr : RO M on ot op os sc sd sp sw gc gp gr bc bg bs bt be ql qg fc fg fs fm) {s : Nat} (hs : s < M 0) {p : Int32} (d : ¬ zbk M p) : f_L_byGaps on sc sd bc bs bt be (nI s) p = some (-12) := by
  have hv := hV
  obtain ⟨⟨v0, v1, v2, v4, v3, vU⟩, hS, hR, hVQ, hVB, hD, hVF, hC⟩ := hv
  have hr' := hr
  obtain ⟨⟨n1, n2, n3, n4⟩, oS, oG, oB, oQ, oF⟩ := hr'
  have s0 := oS.1
  have g0 := oG.1
  have b0 := oB.1
  have f0 := oF.1
  have x1 : f_X10_has (nI (M 0)) (nI s) = some (nI 1) := fh_1 (by omega) ⟨s, hs, rfl⟩
  have x2 := (fk_0 (by omega) d).2
  simp (disch := omega) only [sf_g, sf_b, sf_n, sf_c0, sf_c1, sf_c2, sf_c3, sf_c4, sf_c5, sf_c6, il_0, il_1, il_2, il_3, il_4, il_5, il_6, il_7, il_8, il_9, il_10, il_11, il_12, il_16, il_20, il_32, il_44, il_45, il_48, il_50, il_57, il_59, il_60, il_64, il_74, il_98, il_99, il_100, il_108, il_109, il_110, il_111, il_112, il_113, il_115, il_119, il_120, il_158, il_255, il_1106, il_2147483647, nI_add, nI_mul, nI_sub, nI_clamp, nI_inT, nI_eqP, nI_leP, nI_ltP, nI_neP, nI_nnP, nI_nlP, nI_nltP, nI_nleP, nI_div, nI_subneg, nI_if, if_true, if_false, ite_true, ite_false, ↓reduceIte, nI_spos, nI_szero, Nat.add_zero, sf_t1, sf_c7, sf_c8, sf_c9, n1_0, n4_0, n4_1, il_13, f_L_byGaps, f_TX11_firstFreeByGaps, f_TX11_checkSlide, f_X11_checkSlide, f_TX11_checkBookableMinute, s0, n1, x1, x2, (by decide : ¬ (1 : Nat) = 0)]
theorem x_byGaps (hV : VW M U) (hr : RO M on ot op os sc sd sp sw gc gp gr bc bg bs bt be ql qg fc fg fs fm) {p q : Int32} (c : ¬ zin (M 0) p) : f_L_byGaps on sc sd bc bs bt be p q = some (-11) := by
  have hv := hV
  obtain ⟨⟨v0, v1, v2, v4, v3, vU⟩, hS, hR, hVQ, hVB, hD, hVF, hC⟩ := hv
  have hr' := hr
  obtain ⟨⟨n1, n2, n3, n4⟩, oS, oG, oB, oQ, oF⟩ := hr'
  have s0 := oS.1
  have g0 := oG.1
  have b0 := oB.1
  have f0 := oF.1
  have x1 : f_X10_has (nI (M 0)) p = some (nI 0) := fh_0 (by omega) c
  simp (disch := omega) only [sf_g, sf_b, sf_n, sf_c0, sf_c1, sf_c2, sf_c3, sf_c4, sf_c5, sf_c6, il_0, il_1, il_2, il_3, il_4, il_5, il_6, il_7, il_8, il_9, il_10, il_11, il_12, il_16, il_20, il_32, il_44, il_45, il_48, il_50, il_57, il_59, il_60, il_64, il_74, il_98, il_99, il_100, il_108, il_109, il_110, il_111, il_112, il_113, il_115, il_119, il_120, il_158, il_255, il_1106, il_2147483647, nI_add, nI_mul, nI_sub, nI_clamp, nI_inT, nI_eqP, nI_leP, nI_ltP, nI_neP, nI_nnP, nI_nlP, nI_nltP, nI_nleP, nI_div, nI_subneg, nI_if, if_true, if_false, ite_true, ite_false, ↓reduceIte, nI_spos, nI_szero, Nat.add_zero, sf_t1, sf_c7, sf_c8, sf_c9, n1_0, n4_0, n4_1, il_13, f_L_byGaps, f_TX11_firstFreeByGaps, f_TX11_checkSlide, s0, x1]
/-- the first free minute from t on, by both ways -/
theorem a_free (hV : VW M U) (hr : RO M on ot op os sc sd sp sw gc gp gr bc bg bs bt be ql qg fc fg fs fm) {s t : Nat} (hs : s < M 0) (t1 : M 3 ≤ t) (t2 : t ≤ M 3 + 120) : (∃ f, t ≤ f ∧ f ≤ M 3 + 120 ∧ zfm M s f ∧ (∀ x, t ≤ x → x < f → ¬ zfm M s x) ∧ f_L_firstFree on sc sd bc bs bt be (nI s) (nI t) = some (nI f) ∧ f_L_byGaps on sc sd bc bs bt be (nI s) (nI t) = some (nI f)) ∨ ((∀ x, t ≤ x → x ≤ M 3 + 120 → ¬ zfm M s x) ∧ f_L_firstFree on sc sd bc bs bt be (nI s) (nI t) = some (-13) ∧ f_L_byGaps on sc sd bc bs bt be (nI s) (nI t) = some (-13)) := by
  have hv := hV
  obtain ⟨⟨v0, v1, v2, v4, v3, vU⟩, hS, hR, hVQ, hVB, hD, hVF, hC⟩ := hv
  have hr' := hr
  obtain ⟨⟨n1, n2, n3, n4⟩, oS, oG, oB, oQ, oF⟩ := hr'
  have s0 := oS.1
  have g0 := oG.1
  have b0 := oB.1
  have f0 := oF.1
  have x1 : f_X10_has (nI (M 0)) (nI s) = some (nI 1) := fh_1 (by omega) ⟨s, hs, rfl⟩
  have x2 := (fk_1 (M := M) (by omega) ⟨t, t1, t2, rfl⟩).2
  have hm : MR M (fun k => nI (M k)) := fun k _ => rfl
  have tr := lo_try hV hm oB oS hs (ko := fun _ => some (-1 : Int32)) (km := fun y_7 => none) 2000 t t1 (by omega) (by omega)
  obtain ⟨y, g1, g2, g3, g4, g5⟩ := lo_gaps hV oB oS hs (f := t) (by omega) (k := fun y_9 => sf_b (nI (M 3) + 120 < y_9) (some (-1 : Int32)) (some y_9)) 2000 0 0 t (-nI 1) nI_bef0 (Nat.zero_le _) (by omega) (by omega) zga_0
  have hB := zMB_of hV
  rcases tr with ⟨f, f1, f2, f3, f4, f5, _⟩ | ⟨f1, f2, _⟩
  · left
    have e1 : f_X8_freeMinuteByTrying (nI (M 3)) sd (nI (M 2)) bs bt be (nI s) (nI t) = some (nI f) := f5
    have hy : y = f := by
      rcases Nat.lt_or_ge y f with z | z
      · exact absurd ((zfm_cl hB).mpr g4) (f4 y g1 z)
      · rcases Nat.lt_or_ge f y with w | w
        · exact absurd (g3 f f1 w) ((zfm_cl hB).mp f3)
        · omega
    have hny : ¬ M 3 + 120 < f := by omega
    have e2 : f_X8_freeMinuteByGaps (nI (M 3)) sd (nI (M 2)) bs bt be (nI s) (nI t) = some (nI f) := by
      refine Eq.trans g5 ?_
      rw [hy]
      simp (disch := omega) only [sf_g, sf_b, sf_n, sf_c0, sf_c1, sf_c2, sf_c3, sf_c4, sf_c5, sf_c6, il_0, il_1, il_2, il_3, il_4, il_5, il_6, il_7, il_8, il_9, il_10, il_11, il_12, il_16, il_20, il_32, il_44, il_45, il_48, il_50, il_57, il_59, il_60, il_64, il_74, il_98, il_99, il_100, il_108, il_109, il_110, il_111, il_112, il_113, il_115, il_119, il_120, il_158, il_255, il_1106, il_2147483647, nI_add, nI_mul, nI_sub, nI_clamp, nI_inT, nI_eqP, nI_leP, nI_ltP, nI_neP, nI_nnP, nI_nlP, nI_nltP, nI_nleP, nI_div, nI_subneg, nI_if, if_true, if_false, ite_true, ite_false, ↓reduceIte, nI_spos, nI_szero, Nat.add_zero, sf_t1, sf_c7, sf_c8, sf_c9, n1_0, n4_0, n4_1, il_13, hny]
    refine ⟨f, f1, f2, f3, f4, ?_, ?_⟩
    · simp (disch := omega) only [sf_g, sf_b, sf_n, sf_c0, sf_c1, sf_c2, sf_c3, sf_c4, sf_c5, sf_c6, il_0, il_1, il_2, il_3, il_4, il_5, il_6, il_7, il_8, il_9, il_10, il_11, il_12, il_16, il_20, il_32, il_44, il_45, il_48, il_50, il_57, il_59, il_60, il_64, il_74, il_98, il_99, il_100, il_108, il_109, il_110, il_111, il_112, il_113, il_115, il_119, il_120, il_158, il_255, il_1106, il_2147483647, nI_add, nI_mul, nI_sub, nI_clamp, nI_inT, nI_eqP, nI_leP, nI_ltP, nI_neP, nI_nnP, nI_nlP, nI_nltP, nI_nleP, nI_div, nI_subneg, nI_if, if_true, if_false, ite_true, ite_false, ↓reduceIte, nI_spos, nI_szero, Nat.add_zero, sf_t1, sf_c7, sf_c8, sf_c9, n1_0, n4_0, n4_1, il_13, f_L_firstFree, f_TX11_firstFree, f_X11_firstFree, f_TX11_checkSlide, f_X11_checkSlide, f_TX11_checkBookableMinute, f_X11_checkBookableMinute, f_TX11_found, f_X11_found, s0, n1, b0, x1, x2, e1]
    · simp (disch := omega) only [sf_g, sf_b, sf_n, sf_c0, sf_c1, sf_c2, sf_c3, sf_c4, sf_c5, sf_c6, il_0, il_1, il_2, il_3, il_4, il_5, il_6, il_7, il_8, il_9, il_10, il_11, il_12, il_16, il_20, il_32, il_44, il_45, il_48, il_50, il_57, il_59, il_60, il_64, il_74, il_98, il_99, il_100, il_108, il_109, il_110, il_111, il_112, il_113, il_115, il_119, il_120, il_158, il_255, il_1106, il_2147483647, nI_add, nI_mul, nI_sub, nI_clamp, nI_inT, nI_eqP, nI_leP, nI_ltP, nI_neP, nI_nnP, nI_nlP, nI_nltP, nI_nleP, nI_div, nI_subneg, nI_if, if_true, if_false, ite_true, ite_false, ↓reduceIte, nI_spos, nI_szero, Nat.add_zero, sf_t1, sf_c7, sf_c8, sf_c9, n1_0, n4_0, n4_1, il_13, f_L_byGaps, f_TX11_firstFreeByGaps, f_X11_firstFreeByGaps, f_TX11_checkSlide, f_X11_checkSlide, f_TX11_checkBookableMinute, f_X11_checkBookableMinute, f_TX11_found, f_X11_found, s0, n1, b0, x1, x2, e2]
  · right
    have e1 : f_X8_freeMinuteByTrying (nI (M 3)) sd (nI (M 2)) bs bt be (nI s) (nI t) = some (-nI 1) := f2
    have hy : M 3 + 120 < y := by
      rcases Nat.lt_or_ge (M 3 + 120) y with z | z
      · exact z
      · exact absurd ((zfm_cl hB).mpr g4) (f1 y g1 z)
    have e2 : f_X8_freeMinuteByGaps (nI (M 3)) sd (nI (M 2)) bs bt be (nI s) (nI t) = some (-nI 1) := by
      refine Eq.trans g5 ?_
      simp (disch := omega) only [sf_g, sf_b, sf_n, sf_c0, sf_c1, sf_c2, sf_c3, sf_c4, sf_c5, sf_c6, il_0, il_1, il_2, il_3, il_4, il_5, il_6, il_7, il_8, il_9, il_10, il_11, il_12, il_16, il_20, il_32, il_44, il_45, il_48, il_50, il_57, il_59, il_60, il_64, il_74, il_98, il_99, il_100, il_108, il_109, il_110, il_111, il_112, il_113, il_115, il_119, il_120, il_158, il_255, il_1106, il_2147483647, nI_add, nI_mul, nI_sub, nI_clamp, nI_inT, nI_eqP, nI_leP, nI_ltP, nI_neP, nI_nnP, nI_nlP, nI_nltP, nI_nleP, nI_div, nI_subneg, nI_if, if_true, if_false, ite_true, ite_false, ↓reduceIte, nI_spos, nI_szero, Nat.add_zero, sf_t1, sf_c7, sf_c8, sf_c9, n1_0, n4_0, n4_1, il_13, hy]
    refine ⟨f1, ?_, ?_⟩
    · simp (disch := omega) only [sf_g, sf_b, sf_n, sf_c0, sf_c1, sf_c2, sf_c3, sf_c4, sf_c5, sf_c6, il_0, il_1, il_2, il_3, il_4, il_5, il_6, il_7, il_8, il_9, il_10, il_11, il_12, il_16, il_20, il_32, il_44, il_45, il_48, il_50, il_57, il_59, il_60, il_64, il_74, il_98, il_99, il_100, il_108, il_109, il_110, il_111, il_112, il_113, il_115, il_119, il_120, il_158, il_255, il_1106, il_2147483647, nI_add, nI_mul, nI_sub, nI_clamp, nI_inT, nI_eqP, nI_leP, nI_ltP, nI_neP, nI_nnP, nI_nlP, nI_nltP, nI_nleP, nI_div, nI_subneg, nI_if, if_true, if_false, ite_true, ite_false, ↓reduceIte, nI_spos, nI_szero, Nat.add_zero, sf_t1, sf_c7, sf_c8, sf_c9, n1_0, n4_0, n4_1, il_13, f_L_firstFree, f_TX11_firstFree, f_TX11_checkSlide, f_X11_checkSlide, f_TX11_checkBookableMinute, f_X11_checkBookableMinute, f_TX11_found, s0, n1, b0, x1, x2, e1, (by decide : ¬ (4 : Nat) = 0), (by decide : ¬ (4 : Nat) = 1)]
    · simp (disch := omega) only [sf_g, sf_b, sf_n, sf_c0, sf_c1, sf_c2, sf_c3, sf_c4, sf_c5, sf_c6, il_0, il_1, il_2, il_3, il_4, il_5, il_6, il_7, il_8, il_9, il_10, il_11, il_12, il_16, il_20, il_32, il_44, il_45, il_48, il_50, il_57, il_59, il_60, il_64, il_74, il_98, il_99, il_100, il_108, il_109, il_110, il_111, il_112, il_113, il_115, il_119, il_120, il_158, il_255, il_1106, il_2147483647, nI_add, nI_mul, nI_sub, nI_clamp, nI_inT, nI_eqP, nI_leP, nI_ltP, nI_neP, nI_nnP, nI_nlP, nI_nltP, nI_nleP, nI_div, nI_subneg, nI_if, if_true, if_false, ite_true, ite_false, ↓reduceIte, nI_spos, nI_szero, Nat.add_zero, sf_t1, sf_c7, sf_c8, sf_c9, n1_0, n4_0, n4_1, il_13, f_L_byGaps, f_TX11_firstFreeByGaps, f_TX11_checkSlide, f_X11_checkSlide, f_TX11_checkBookableMinute, f_X11_checkBookableMinute, f_TX11_found, s0, n1, b0, x1, x2, e2, (by decide : ¬ (4 : Nat) = 0), (by decide : ¬ (4 : Nat) = 1)]
/-- the numbers -/
theorem a_pairs (hV : VW M U) (hr : RO M on ot op os sc sd sp sw gc gp gr bc bg bs bt be ql qg fc fg fs fm) : f_X5_equalPairs fc fm = some (nI (zpp (zFM M) (M 4))) ∧ f_X5_equalPairsFromRuns fc fm = some (nI (zpp (zFM M) (M 4))) := by
  have oF := hr.2.2.2.2.2
  have hF := zHF_of hV oF
  have hVF := hV.2.2.2.2.2.2.1
  have v4 := hV.1.2.2.2.1
  have hU := hV.1.2.2.2.2
  rw [oF.1]
  have e1 := zpp_rev (R := zFM M) (n := M 4)
  constructor
  · rw [ff_ep hF, zpo_eq, e1]
  · rw [ff_runs hF (fun i j h1 h2 => hVF.2.1 (M 4 - 1 - j) (M 4 - 1 - i) (by omega) (by omega)), e1]
theorem a_once (hV : VW M U) (hr : RO M on ot op os sc sd sp sw gc gp gr bc bg bs bt be ql qg fc fg fs fm) : f_X1_atOnceByStarts bc bt be = some (nI (zm (fun i => zA (zT M) (zE M) (M 2) (zT M i)) (M 2))) ∧ f_X1_atOnceBySweeping bc bt be = some (nI (zm (fun i => zA (zT M) (zE M) (M 2) (zT M i)) (M 2))) := by
  have oB := hr.2.2.2.1
  have hb := zHB_of hV oB
  rw [oB.1]
  exact ⟨fb_once hb, fb_sweep hb⟩
theorem a_watch (hV : VW M U) (hr : RO M on ot op os sc sd sp sw gc gp gr bc bg bs bt be ql qg fc fg fs fm) (ko kl : Nat → Int32) : ∃ (c : Nat) (ko' kl' : Nat → Int32), c ≤ M 2 ∧ zgc (zT M) (zE M) (M 2) c ∧ f_X1_watchedByEarliestEnd bc bt be = some (nI c) ∧ f_X2_longestChain ko kl bc bs bt be = some (nI c, ko', kl') := by
  have oB := hr.2.2.2.1
  have hb := zHB_of hV oB
  rw [oB.1]
  obtain ⟨c, c1, c2, c3, ko', kl', c4⟩ := fc_both hb (zo_of hV) ko kl
  exact ⟨c, ko', kl', c1, c2, c3, c4⟩
theorem a_consistent (hV : VW M U) (hr : RO M on ot op os sc sd sp sw gc gp gr bc bg bs bt be ql qg fc fg fs fm) (ko kl : Nat → Int32) : ∃ (ko' kl' : Nat → Int32), f_X11_isConsistent ot gc gp bc bs bt be fc fm ko kl = some (1, ko', kl') := by
  obtain ⟨c, ko', kl', _, _, w1, w2⟩ := a_watch hV hr ko kl
  obtain ⟨d1, d2⟩ := a_once hV hr
  obtain ⟨e1, e2⟩ := a_pairs hV hr
  have hU := hV.1.2.2.2.2
  have oG := hr.2.2.1
  have hG := zHG_of hV (by omega) oG
  have hC := hV.2.2.2.2.2.2.2.1
  have g0 := oG.1
  have n2 := hr.1.2.1
  have hs := fg_coins hG
  have hsum : nI (zs (zC M) (M 1)) + ot = nI 50 * nI (M 1) := by rw [n2, nI_add, nI_mul, hC]
  refine ⟨ko', kl', ?_⟩
  rw [← g0] at hs hsum
  simp only [f_X11_isConsistent, f_X11_mostWatched, f_X11_mostWatchedByTable, f_X11_mostAtOnce, f_X11_mostAtOnceBySweep, f_X11_photoFinishes, f_X11_photoFinishesByRuns, sf_c1, sf_c3, sf_n, sf_b, hs, il_50, hsum, w1, w2, d1, d2, e1, e2, if_true]
theorem fl_d : ((List.range 501).all fun s => (List.range 11).all fun g => g == 0 || (sf_n64 (FP.ddiv (FP.i2d (nI s)) (FP.i2d (nI g))) && decide (Op.cmpValue (FP.dcmp (FP.ddiv (FP.i2d (nI s)) (FP.i2d (nI g))) (FP.ddiv (FP.i2d (nI s)) (FP.i2d (nI g)))) .l = 0))) = true := by decide +kernel
theorem fl_f : ((List.range 5).all fun s => (List.range 5).all fun g => g == 0 || (sf_n32 (FP.fdiv (FP.i2f (nI s)) (FP.i2f (nI g))) && sf_n64 (FP.f2d (FP.fdiv (FP.i2f (nI s)) (FP.i2f (nI g)))) && decide (Op.cmpValue (FP.dcmp (FP.f2d (FP.fdiv (FP.i2f (nI s)) (FP.i2f (nI g)))) (FP.f2d (FP.fdiv (FP.i2f (nI s)) (FP.i2f (nI g))))) .l = 0))) = true := by decide +kernel
end AS3
