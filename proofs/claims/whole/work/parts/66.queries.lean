/-! the questions: class and model answer alike -/
def zQm (A : Option (Int32 × (Nat → Int64))) (B : Option (Int32 × Int32)) : Prop := ∃ (k : Nat) (q : Nat → Int64) (b : Int32), k < 100 ∧ A = some (nI k, q) ∧ B = some (b, nI k) ∧ (k = 0 → q 0 = b.toInt64)
theorem zQm_t {A : Option (Int32 × (Nat → Int64))} {B : Option (Int32 × Int32)} {q : Nat → Int64} {b : Int32} (k : Nat) (hk : 0 < k ∧ k < 100) (h1 : A = some (nI k, q)) (h2 : B = some (b, nI k)) : zQm A B := ⟨k, q, b, hk.2, h1, h2, fun e => by omega⟩
theorem zQm_n {A : Option (Int32 × (Nat → Int64))} {B : Option (Int32 × Int32)} {q : Nat → Int64} {b : Int32} (h1 : A = some (nI 0, vp_updL q 0 b.toInt64)) (h2 : B = some (b, nI 0)) : zQm A B := ⟨0, _, b, by omega, h1, h2, fun _ => rfl⟩
theorem lgc (x : Int64) : (lg_cmp x x = 0) = True := eq_true (by
  have h : ¬ x > x := by
    show ¬ x < x
    rw [Int64.lt_iff_toInt_lt]; omega
  rw [lg_cmp, if_neg h, if_pos rfl])
theorem law_q {A : Option (Int32 × (Nat → Int64))} {B : Option (Int32 × Int32)} (h : zQm A B) : ∃ x q, sf_c2 A (fun r_1 q_2 => sf_c2 B (fun r_3 x_4 => sf_c1 (f_X12_thrown x_4) (fun r_5 => sf_b (r_5 = r_1) (sf_b (r_1 = (0 : Int32)) (sf_g (sf_in (0 : Int32) 1 = true) (sf_b ((lg_cmp (q_2 (0 : Int32).toNatClampNeg) r_3.toInt64) = (0 : Int32)) (some (x_4, q_2)) (none))) (some (x_4, q_2))) (none)))) = some (x, q) := by
  obtain ⟨k, q, b, h0, h1, h2, h3⟩ := h
  have e0 : (nI k = (0 : Int32)) = (k = 0) := by rw [il_0, nI_eqP (by omega) (by omega)]
  have e1 : (sf_in (0 : Int32) 1 = true) = True := eq_true (by decide)
  have e2 : (0 : Int32).toNatClampNeg = 0 := by decide
  refine ⟨nI k, q, ?_⟩
  subst h1; subst h2
  by_cases c : k = 0
  · have e3 : (nI 0 = (0 : Int32)) = True := eq_true rfl
    simp only [sf_c2, sf_c1, sf_b, sf_g, f_X12_thrown, e3, e1, e2, c, h3 c, lgc, if_true]
  · simp only [sf_c2, sf_c1, sf_b, sf_g, f_X12_thrown, e0, e1, c, if_true, if_false]
/-- a yes or a no -/
def zQb (A : Option (Int32 × (Nat → Int64))) (B : Option (Int32 × Int32)) : Prop := ∃ (k : Nat) (q : Nat → Int64) (b : Int32), k < 100 ∧ A = some (nI k, q) ∧ B = some (b, nI k) ∧ (k = 0 → b = nI 0 ∧ q 0 = 0 ∨ b = nI 1 ∧ q 0 = 1)
theorem zQb_t {A : Option (Int32 × (Nat → Int64))} {B : Option (Int32 × Int32)} {q : Nat → Int64} {b : Int32} (k : Nat) (hk : 0 < k ∧ k < 100) (h1 : A = some (nI k, q)) (h2 : B = some (b, nI k)) : zQb A B := ⟨k, q, b, hk.2, h1, h2, fun e => by omega⟩
theorem zQb_0 {A : Option (Int32 × (Nat → Int64))} {B : Option (Int32 × Int32)} {q : Nat → Int64} (h1 : A = some (nI 0, vp_updL q 0 0)) (h2 : B = some (nI 0, nI 0)) : zQb A B := ⟨0, _, _, by omega, h1, h2, fun _ => Or.inl ⟨rfl, rfl⟩⟩
theorem zQb_1 {A : Option (Int32 × (Nat → Int64))} {B : Option (Int32 × Int32)} {q : Nat → Int64} (h1 : A = some (nI 0, vp_updL q 0 1)) (h2 : B = some (nI 1, nI 0)) : zQb A B := ⟨0, _, _, by omega, h1, h2, fun _ => Or.inr ⟨rfl, rfl⟩⟩
theorem law_qb {A : Option (Int32 × (Nat → Int64))} {B : Option (Int32 × Int32)} (h : zQb A B) : ∃ x q, sf_c2 A (fun r_1 q_2 => sf_c2 B (fun r_3 x_4 => sf_c1 (f_X12_thrown x_4) (fun r_5 => sf_b (r_5 = r_1) (sf_b (r_1 = (0 : Int32)) (sf_g (sf_in (0 : Int32) 1 = true) (sf_b (r_3 = (0 : Int32)) (sf_b ((lg_cmp (q_2 (0 : Int32).toNatClampNeg) 0) = (0 : Int32)) (some (x_4, q_2)) (none)) (sf_b ((lg_cmp (q_2 (0 : Int32).toNatClampNeg) 1) = (0 : Int32)) (some (x_4, q_2)) (none)))) (some (x_4, q_2))) (none)))) = some (x, q) := by
  obtain ⟨k, q, b, h0, h1, h2, h3⟩ := h
  have e0 : (nI k = (0 : Int32)) = (k = 0) := by rw [il_0, nI_eqP (by omega) (by omega)]
  have e1 : (sf_in (0 : Int32) 1 = true) = True := eq_true (by decide)
  have e2 : (0 : Int32).toNatClampNeg = 0 := by decide
  have e3 : (nI 0 = (0 : Int32)) = True := eq_true rfl
  have e4 : (nI 1 = (0 : Int32)) = False := eq_false (by decide)
  refine ⟨nI k, q, ?_⟩
  subst h1; subst h2
  by_cases c : k = 0
  · rcases h3 c with ⟨x1, x2⟩ | ⟨x1, x2⟩
    · simp only [sf_c2, sf_c1, sf_b, sf_g, f_X12_thrown, e0, e1, e2, e3, c, x1, x2, lgc, if_true]
    · simp only [sf_c2, sf_c1, sf_b, sf_g, f_X12_thrown, e3, e1, e2, e4, c, x1, x2, lgc, if_true, if_false]
  · simp only [sf_c2, sf_c1, sf_b, sf_g, f_X12_thrown, e0, e1, c, if_true, if_false]
/-- two numbers compared at once -/
theorem law_i {A : Option Int32} {B : Option (Int32 × Int32)} {r x : Int32} (h1 : A = some r) (h2 : B = some (r, x)) : ∃ q, sf_c1 A (fun r_1 => sf_c2 B (fun r_2 x_3 => sf_b (r_1 = r_2) (some x_3) (none))) = some q := ⟨x, by subst h1; subst h2; simp only [sf_c1, sf_c2, sf_b, if_true]⟩
section QUE
variable {M : Nat → Nat} {ms : Nat → Int32} {U : Nat} {on ot op os sc gc bc fc : Int32} {sd sp sw gp gr bg bs bt be ql qg fg fs fm : Nat → Int32}
theorem q_duration (hV : VW M U) (hm : MR M ms) (hr : RO M on ot op os sc sd sp sw gc gp gr bc bg bs bt be ql qg fc fg fs fm) (oL : Nat → Int64) (mt : Int32) (p1 : Int32) : zQm (f_L_duration sc sd oL p1) (f_X12_duration ms mt p1) := by
  obtain ⟨h0, a1, a2, a3, a4, a5, a6, a7, a8, a9, a10, a11, a12⟩ := fm_all hm
  have hv := hV
  obtain ⟨⟨v0, v1, v2, v4, v3, vU⟩, hS, hR, hVQ, hVB, hD, hVF, hC⟩ := hv
  have hr' := hr
  obtain ⟨⟨n1, n2, n3, n4⟩, oS, oG, oB, oQ, oF⟩ := hr'
  have s0 := oS.1
  have g0 := oG.1
  have b0 := oB.1
  have f0 := oF.1
  by_cases c : zin (M 0) p1
  · have x1 : f_X10_has (nI (M 0)) p1 = some (nI 1) := fh_1 (by omega) c
    have y1 := (fm_isS hm v0 p1).1 c
    obtain ⟨j, hj, rfl⟩ := c
    have hj' : j < 4 := by omega
    have w := (oS.2 j hj).1
    refine zQm_n (q := oL) (b := nI (zD M j)) ?_ ?_
    · simp (disch := omega) only [sf_g, sf_b, sf_n, sf_c0, sf_c1, sf_c2, sf_c3, sf_c4, sf_c5, sf_c6, il_0, il_1, il_2, il_3, il_4, il_5, il_6, il_7, il_8, il_9, il_10, il_11, il_12, il_16, il_20, il_32, il_44, il_45, il_48, il_50, il_57, il_59, il_60, il_64, il_74, il_98, il_99, il_100, il_108, il_109, il_110, il_111, il_112, il_113, il_115, il_119, il_120, il_158, il_255, il_1106, il_2147483647, nI_add, nI_mul, nI_sub, nI_clamp, nI_inT, nI_eqP, nI_leP, nI_ltP, nI_neP, nI_nnP, nI_nlP, nI_nltP, nI_nleP, nI_div, nI_subneg, nI_if, if_true, if_false, ite_true, ite_false, ↓reduceIte, nI_spos, nI_szero, Nat.add_zero, sf_t1, sf_c7, sf_c8, sf_c9, n1_0, n4_0, n4_1, f_L_duration, f_TX11_duration, f_X11_duration, f_TX11_checkSlide, f_X11_checkSlide, s0, x1, w]
    · simp (disch := omega) only [sf_g, sf_b, sf_n, sf_c0, sf_c1, sf_c2, sf_c3, sf_c4, sf_c5, sf_c6, il_0, il_1, il_2, il_3, il_4, il_5, il_6, il_7, il_8, il_9, il_10, il_11, il_12, il_16, il_20, il_32, il_44, il_45, il_48, il_50, il_57, il_59, il_60, il_64, il_74, il_98, il_99, il_100, il_108, il_109, il_110, il_111, il_112, il_113, il_115, il_119, il_120, il_158, il_255, il_1106, il_2147483647, nI_add, nI_mul, nI_sub, nI_clamp, nI_inT, nI_eqP, nI_leP, nI_ltP, nI_neP, nI_nnP, nI_nlP, nI_nltP, nI_nleP, nI_div, nI_subneg, nI_if, if_true, if_false, ite_true, ite_false, ↓reduceIte, nI_spos, nI_szero, Nat.add_zero, sf_t1, sf_c7, sf_c8, sf_c9, n1_0, n4_0, n4_1, f_X12_duration, f_X12_isThere, y1, a1, or_true, true_or]
  · have x1 : f_X10_has (nI (M 0)) p1 = some (nI 0) := fh_0 (by omega) c
    have y1 := (fm_isS hm v0 p1).2 c
    refine zQm_t (q := oL) (b := nI 0) 1 (by omega) ?_ ?_
    · simp (disch := omega) only [sf_g, sf_b, sf_n, sf_c0, sf_c1, sf_c2, sf_c3, sf_c4, sf_c5, sf_c6, il_0, il_1, il_2, il_3, il_4, il_5, il_6, il_7, il_8, il_9, il_10, il_11, il_12, il_16, il_20, il_32, il_44, il_45, il_48, il_50, il_57, il_59, il_60, il_64, il_74, il_98, il_99, il_100, il_108, il_109, il_110, il_111, il_112, il_113, il_115, il_119, il_120, il_158, il_255, il_1106, il_2147483647, nI_add, nI_mul, nI_sub, nI_clamp, nI_inT, nI_eqP, nI_leP, nI_ltP, nI_neP, nI_nnP, nI_nlP, nI_nltP, nI_nleP, nI_div, nI_subneg, nI_if, if_true, if_false, ite_true, ite_false, ↓reduceIte, nI_spos, nI_szero, Nat.add_zero, sf_t1, sf_c7, sf_c8, sf_c9, n1_0, n4_0, n4_1, f_L_duration, f_TX11_duration, f_TX11_checkSlide, s0, x1]
    · simp (disch := omega) only [sf_g, sf_b, sf_n, sf_c0, sf_c1, sf_c2, sf_c3, sf_c4, sf_c5, sf_c6, il_0, il_1, il_2, il_3, il_4, il_5, il_6, il_7, il_8, il_9, il_10, il_11, il_12, il_16, il_20, il_32, il_44, il_45, il_48, il_50, il_57, il_59, il_60, il_64, il_74, il_98, il_99, il_100, il_108, il_109, il_110, il_111, il_112, il_113, il_115, il_119, il_120, il_158, il_255, il_1106, il_2147483647, nI_add, nI_mul, nI_sub, nI_clamp, nI_inT, nI_eqP, nI_leP, nI_ltP, nI_neP, nI_nnP, nI_nlP, nI_nltP, nI_nleP, nI_div, nI_subneg, nI_if, if_true, if_false, ite_true, ite_false, ↓reduceIte, nI_spos, nI_szero, Nat.add_zero, sf_t1, sf_c7, sf_c8, sf_c9, n1_0, n4_0, n4_1, f_X12_duration, f_X12_isThere, y1, or_true, true_or]
theorem q_price (hV : VW M U) (hm : MR M ms) (hr : RO M on ot op os sc sd sp sw gc gp gr bc bg bs bt be ql qg fc fg fs fm) (oL : Nat → Int64) (mt : Int32) (p1 : Int32) : zQm (f_L_price sc sp oL p1) (f_X12_price ms mt p1) := by
  obtain ⟨h0, a1, a2, a3, a4, a5, a6, a7, a8, a9, a10, a11, a12⟩ := fm_all hm
  have hv := hV
  obtain ⟨⟨v0, v1, v2, v4, v3, vU⟩, hS, hR, hVQ, hVB, hD, hVF, hC⟩ := hv
  have hr' := hr
  obtain ⟨⟨n1, n2, n3, n4⟩, oS, oG, oB, oQ, oF⟩ := hr'
  have s0 := oS.1
  have g0 := oG.1
  have b0 := oB.1
  have f0 := oF.1
  by_cases c : zin (M 0) p1
  · have x1 : f_X10_has (nI (M 0)) p1 = some (nI 1) := fh_1 (by omega) c
    have y1 := (fm_isS hm v0 p1).1 c
    obtain ⟨j, hj, rfl⟩ := c
    have hj' : j < 4 := by omega
    have w := (oS.2 j hj).2.1
    refine zQm_n (q := oL) (b := nI (zP M j)) ?_ ?_
    · simp (disch := omega) only [sf_g, sf_b, sf_n, sf_c0, sf_c1, sf_c2, sf_c3, sf_c4, sf_c5, sf_c6, il_0, il_1, il_2, il_3, il_4, il_5, il_6, il_7, il_8, il_9, il_10, il_11, il_12, il_16, il_20, il_32, il_44, il_45, il_48, il_50, il_57, il_59, il_60, il_64, il_74, il_98, il_99, il_100, il_108, il_109, il_110, il_111, il_112, il_113, il_115, il_119, il_120, il_158, il_255, il_1106, il_2147483647, nI_add, nI_mul, nI_sub, nI_clamp, nI_inT, nI_eqP, nI_leP, nI_ltP, nI_neP, nI_nnP, nI_nlP, nI_nltP, nI_nleP, nI_div, nI_subneg, nI_if, if_true, if_false, ite_true, ite_false, ↓reduceIte, nI_spos, nI_szero, Nat.add_zero, sf_t1, sf_c7, sf_c8, sf_c9, n1_0, n4_0, n4_1, f_L_price, f_TX11_price, f_X11_price, f_TX11_checkSlide, f_X11_checkSlide, s0, x1, w]
    · simp (disch := omega) only [sf_g, sf_b, sf_n, sf_c0, sf_c1, sf_c2, sf_c3, sf_c4, sf_c5, sf_c6, il_0, il_1, il_2, il_3, il_4, il_5, il_6, il_7, il_8, il_9, il_10, il_11, il_12, il_16, il_20, il_32, il_44, il_45, il_48, il_50, il_57, il_59, il_60, il_64, il_74, il_98, il_99, il_100, il_108, il_109, il_110, il_111, il_112, il_113, il_115, il_119, il_120, il_158, il_255, il_1106, il_2147483647, nI_add, nI_mul, nI_sub, nI_clamp, nI_inT, nI_eqP, nI_leP, nI_ltP, nI_neP, nI_nnP, nI_nlP, nI_nltP, nI_nleP, nI_div, nI_subneg, nI_if, if_true, if_false, ite_true, ite_false, ↓reduceIte, nI_spos, nI_szero, Nat.add_zero, sf_t1, sf_c7, sf_c8, sf_c9, n1_0, n4_0, n4_1, f_X12_price, f_X12_isThere, y1, a2, or_true, true_or]
  · have x1 : f_X10_has (nI (M 0)) p1 = some (nI 0) := fh_0 (by omega) c
    have y1 := (fm_isS hm v0 p1).2 c
    refine zQm_t (q := oL) (b := nI 0) 1 (by omega) ?_ ?_
    · simp (disch := omega) only [sf_g, sf_b, sf_n, sf_c0, sf_c1, sf_c2, sf_c3, sf_c4, sf_c5, sf_c6, il_0, il_1, il_2, il_3, il_4, il_5, il_6, il_7, il_8, il_9, il_10, il_11, il_12, il_16, il_20, il_32, il_44, il_45, il_48, il_50, il_57, il_59, il_60, il_64, il_74, il_98, il_99, il_100, il_108, il_109, il_110, il_111, il_112, il_113, il_115, il_119, il_120, il_158, il_255, il_1106, il_2147483647, nI_add, nI_mul, nI_sub, nI_clamp, nI_inT, nI_eqP, nI_leP, nI_ltP, nI_neP, nI_nnP, nI_nlP, nI_nltP, nI_nleP, nI_div, nI_subneg, nI_if, if_true, if_false, ite_true, ite_false, ↓reduceIte, nI_spos, nI_szero, Nat.add_zero, sf_t1, sf_c7, sf_c8, sf_c9, n1_0, n4_0, n4_1, f_L_price, f_TX11_price, f_TX11_checkSlide, s0, x1]
    · simp (disch := omega) only [sf_g, sf_b, sf_n, sf_c0, sf_c1, sf_c2, sf_c3, sf_c4, sf_c5, sf_c6, il_0, il_1, il_2, il_3, il_4, il_5, il_6, il_7, il_8, il_9, il_10, il_11, il_12, il_16, il_20, il_32, il_44, il_45, il_48, il_50, il_57, il_59, il_60, il_64, il_74, il_98, il_99, il_100, il_108, il_109, il_110, il_111, il_112, il_113, il_115, il_119, il_120, il_158, il_255, il_1106, il_2147483647, nI_add, nI_mul, nI_sub, nI_clamp, nI_inT, nI_eqP, nI_leP, nI_ltP, nI_neP, nI_nnP, nI_nlP, nI_nltP, nI_nleP, nI_div, nI_subneg, nI_if, if_true, if_false, ite_true, ite_false, ↓reduceIte, nI_spos, nI_szero, Nat.add_zero, sf_t1, sf_c7, sf_c8, sf_c9, n1_0, n4_0, n4_1, f_X12_price, f_X12_isThere, y1, or_true, true_or]
theorem q_wetness (hV : VW M U) (hm : MR M ms) (hr : RO M on ot op os sc sd sp sw gc gp gr bc bg bs bt be ql qg fc fg fs fm) (oL : Nat → Int64) (mt : Int32) (p1 : Int32) : zQm (f_L_wetness sc sw oL p1) (f_X12_wetness ms mt p1) := by
  obtain ⟨h0, a1, a2, a3, a4, a5, a6, a7, a8, a9, a10, a11, a12⟩ := fm_all hm
  have hv := hV
  obtain ⟨⟨v0, v1, v2, v4, v3, vU⟩, hS, hR, hVQ, hVB, hD, hVF, hC⟩ := hv
  have hr' := hr
  obtain ⟨⟨n1, n2, n3, n4⟩, oS, oG, oB, oQ, oF⟩ := hr'
  have s0 := oS.1
  have g0 := oG.1
  have b0 := oB.1
  have f0 := oF.1
  by_cases c : zin (M 0) p1
  · have x1 : f_X10_has (nI (M 0)) p1 = some (nI 1) := fh_1 (by omega) c
    have y1 := (fm_isS hm v0 p1).1 c
    obtain ⟨j, hj, rfl⟩ := c
    have hj' : j < 4 := by omega
    have w := (oS.2 j hj).2.2
    refine zQm_n (q := oL) (b := nI (zW M j)) ?_ ?_
    · simp (disch := omega) only [sf_g, sf_b, sf_n, sf_c0, sf_c1, sf_c2, sf_c3, sf_c4, sf_c5, sf_c6, il_0, il_1, il_2, il_3, il_4, il_5, il_6, il_7, il_8, il_9, il_10, il_11, il_12, il_16, il_20, il_32, il_44, il_45, il_48, il_50, il_57, il_59, il_60, il_64, il_74, il_98, il_99, il_100, il_108, il_109, il_110, il_111, il_112, il_113, il_115, il_119, il_120, il_158, il_255, il_1106, il_2147483647, nI_add, nI_mul, nI_sub, nI_clamp, nI_inT, nI_eqP, nI_leP, nI_ltP, nI_neP, nI_nnP, nI_nlP, nI_nltP, nI_nleP, nI_div, nI_subneg, nI_if, if_true, if_false, ite_true, ite_false, ↓reduceIte, nI_spos, nI_szero, Nat.add_zero, sf_t1, sf_c7, sf_c8, sf_c9, n1_0, n4_0, n4_1, f_L_wetness, f_TX11_wetness, f_X11_wetness, f_TX11_checkSlide, f_X11_checkSlide, s0, x1, w]
    · simp (disch := omega) only [sf_g, sf_b, sf_n, sf_c0, sf_c1, sf_c2, sf_c3, sf_c4, sf_c5, sf_c6, il_0, il_1, il_2, il_3, il_4, il_5, il_6, il_7, il_8, il_9, il_10, il_11, il_12, il_16, il_20, il_32, il_44, il_45, il_48, il_50, il_57, il_59, il_60, il_64, il_74, il_98, il_99, il_100, il_108, il_109, il_110, il_111, il_112, il_113, il_115, il_119, il_120, il_158, il_255, il_1106, il_2147483647, nI_add, nI_mul, nI_sub, nI_clamp, nI_inT, nI_eqP, nI_leP, nI_ltP, nI_neP, nI_nnP, nI_nlP, nI_nltP, nI_nleP, nI_div, nI_subneg, nI_if, if_true, if_false, ite_true, ite_false, ↓reduceIte, nI_spos, nI_szero, Nat.add_zero, sf_t1, sf_c7, sf_c8, sf_c9, n1_0, n4_0, n4_1, f_X12_wetness, f_X12_isThere, y1, a3, or_true, true_or]
  · have x1 : f_X10_has (nI (M 0)) p1 = some (nI 0) := fh_0 (by omega) c
    have y1 := (fm_isS hm v0 p1).2 c
    refine zQm_t (q := oL) (b := nI 0) 1 (by omega) ?_ ?_
    · simp (disch := omega) only [sf_g, sf_b, sf_n, sf_c0, sf_c1, sf_c2, sf_c3, sf_c4, sf_c5, sf_c6, il_0, il_1, il_2, il_3, il_4, il_5, il_6, il_7, il_8, il_9, il_10, il_11, il_12, il_16, il_20, il_32, il_44, il_45, il_48, il_50, il_57, il_59, il_60, il_64, il_74, il_98, il_99, il_100, il_108, il_109, il_110, il_111, il_112, il_113, il_115, il_119, il_120, il_158, il_255, il_1106, il_2147483647, nI_add, nI_mul, nI_sub, nI_clamp, nI_inT, nI_eqP, nI_leP, nI_ltP, nI_neP, nI_nnP, nI_nlP, nI_nltP, nI_nleP, nI_div, nI_subneg, nI_if, if_true, if_false, ite_true, ite_false, ↓reduceIte, nI_spos, nI_szero, Nat.add_zero, sf_t1, sf_c7, sf_c8, sf_c9, n1_0, n4_0, n4_1, f_L_wetness, f_TX11_wetness, f_TX11_checkSlide, s0, x1]
    · simp (disch := omega) only [sf_g, sf_b, sf_n, sf_c0, sf_c1, sf_c2, sf_c3, sf_c4, sf_c5, sf_c6, il_0, il_1, il_2, il_3, il_4, il_5, il_6, il_7, il_8, il_9, il_10, il_11, il_12, il_16, il_20, il_32, il_44, il_45, il_48, il_50, il_57, il_59, il_60, il_64, il_74, il_98, il_99, il_100, il_108, il_109, il_110, il_111, il_112, il_113, il_115, il_119, il_120, il_158, il_255, il_1106, il_2147483647, nI_add, nI_mul, nI_sub, nI_clamp, nI_inT, nI_eqP, nI_leP, nI_ltP, nI_neP, nI_nnP, nI_nlP, nI_nltP, nI_nleP, nI_div, nI_subneg, nI_if, if_true, if_false, ite_true, ite_false, ↓reduceIte, nI_spos, nI_szero, Nat.add_zero, sf_t1, sf_c7, sf_c8, sf_c9, n1_0, n4_0, n4_1, f_X12_wetness, f_X12_isThere, y1, or_true, true_or]
theorem q_queueLength (hV : VW M U) (hm : MR M ms) (hr : RO M on ot op os sc sd sp sw gc gp gr bc bg bs bt be ql qg fc fg fs fm) (oL : Nat → Int64) (mt : Int32) (p1 : Int32) : zQm (f_L_queueLength sc ql oL p1) (f_X12_queueLength ms mt p1) := by
  obtain ⟨h0, a1, a2, a3, a4, a5, a6, a7, a8, a9, a10, a11, a12⟩ := fm_all hm
  have hv := hV
  obtain ⟨⟨v0, v1, v2, v4, v3, vU⟩, hS, hR, hVQ, hVB, hD, hVF, hC⟩ := hv
  have hr' := hr
  obtain ⟨⟨n1, n2, n3, n4⟩, oS, oG, oB, oQ, oF⟩ := hr'
  have s0 := oS.1
  have g0 := oG.1
  have b0 := oB.1
  have f0 := oF.1
  by_cases c : zin (M 0) p1
  · have x1 : f_X10_has (nI (M 0)) p1 = some (nI 1) := fh_1 (by omega) c
    have y1 := (fm_isS hm v0 p1).1 c
    obtain ⟨j, hj, rfl⟩ := c
    have hj' : j < 4 := by omega
    have w := (oQ j (by omega)).1
    refine zQm_n (q := oL) (b := nI (zQ M j)) ?_ ?_
    · simp (disch := omega) only [sf_g, sf_b, sf_n, sf_c0, sf_c1, sf_c2, sf_c3, sf_c4, sf_c5, sf_c6, il_0, il_1, il_2, il_3, il_4, il_5, il_6, il_7, il_8, il_9, il_10, il_11, il_12, il_16, il_20, il_32, il_44, il_45, il_48, il_50, il_57, il_59, il_60, il_64, il_74, il_98, il_99, il_100, il_108, il_109, il_110, il_111, il_112, il_113, il_115, il_119, il_120, il_158, il_255, il_1106, il_2147483647, nI_add, nI_mul, nI_sub, nI_clamp, nI_inT, nI_eqP, nI_leP, nI_ltP, nI_neP, nI_nnP, nI_nlP, nI_nltP, nI_nleP, nI_div, nI_subneg, nI_if, if_true, if_false, ite_true, ite_false, ↓reduceIte, nI_spos, nI_szero, Nat.add_zero, sf_t1, sf_c7, sf_c8, sf_c9, n1_0, n4_0, n4_1, f_L_queueLength, f_TX11_queueLength, f_X11_queueLength, f_TX11_checkSlide, f_X11_checkSlide, s0, x1, w]
    · simp (disch := omega) only [sf_g, sf_b, sf_n, sf_c0, sf_c1, sf_c2, sf_c3, sf_c4, sf_c5, sf_c6, il_0, il_1, il_2, il_3, il_4, il_5, il_6, il_7, il_8, il_9, il_10, il_11, il_12, il_16, il_20, il_32, il_44, il_45, il_48, il_50, il_57, il_59, il_60, il_64, il_74, il_98, il_99, il_100, il_108, il_109, il_110, il_111, il_112, il_113, il_115, il_119, il_120, il_158, il_255, il_1106, il_2147483647, nI_add, nI_mul, nI_sub, nI_clamp, nI_inT, nI_eqP, nI_leP, nI_ltP, nI_neP, nI_nnP, nI_nlP, nI_nltP, nI_nleP, nI_div, nI_subneg, nI_if, if_true, if_false, ite_true, ite_false, ↓reduceIte, nI_spos, nI_szero, Nat.add_zero, sf_t1, sf_c7, sf_c8, sf_c9, n1_0, n4_0, n4_1, f_X12_queueLength, f_X12_isThere, y1, a4, or_true, true_or]
  · have x1 : f_X10_has (nI (M 0)) p1 = some (nI 0) := fh_0 (by omega) c
    have y1 := (fm_isS hm v0 p1).2 c
    refine zQm_t (q := oL) (b := nI 0) 1 (by omega) ?_ ?_
    · simp (disch := omega) only [sf_g, sf_b, sf_n, sf_c0, sf_c1, sf_c2, sf_c3, sf_c4, sf_c5, sf_c6, il_0, il_1, il_2, il_3, il_4, il_5, il_6, il_7, il_8, il_9, il_10, il_11, il_12, il_16, il_20, il_32, il_44, il_45, il_48, il_50, il_57, il_59, il_60, il_64, il_74, il_98, il_99, il_100, il_108, il_109, il_110, il_111, il_112, il_113, il_115, il_119, il_120, il_158, il_255, il_1106, il_2147483647, nI_add, nI_mul, nI_sub, nI_clamp, nI_inT, nI_eqP, nI_leP, nI_ltP, nI_neP, nI_nnP, nI_nlP, nI_nltP, nI_nleP, nI_div, nI_subneg, nI_if, if_true, if_false, ite_true, ite_false, ↓reduceIte, nI_spos, nI_szero, Nat.add_zero, sf_t1, sf_c7, sf_c8, sf_c9, n1_0, n4_0, n4_1, f_L_queueLength, f_TX11_queueLength, f_TX11_checkSlide, s0, x1]
    · simp (disch := omega) only [sf_g, sf_b, sf_n, sf_c0, sf_c1, sf_c2, sf_c3, sf_c4, sf_c5, sf_c6, il_0, il_1, il_2, il_3, il_4, il_5, il_6, il_7, il_8, il_9, il_10, il_11, il_12, il_16, il_20, il_32, il_44, il_45, il_48, il_50, il_57, il_59, il_60, il_64, il_74, il_98, il_99, il_100, il_108, il_109, il_110, il_111, il_112, il_113, il_115, il_119, il_120, il_158, il_255, il_1106, il_2147483647, nI_add, nI_mul, nI_sub, nI_clamp, nI_inT, nI_eqP, nI_leP, nI_ltP, nI_neP, nI_nnP, nI_nlP, nI_nltP, nI_nleP, nI_div, nI_subneg, nI_if, if_true, if_false, ite_true, ite_false, ↓reduceIte, nI_spos, nI_szero, Nat.add_zero, sf_t1, sf_c7, sf_c8, sf_c9, n1_0, n4_0, n4_1, f_X12_queueLength, f_X12_isThere, y1, or_true, true_or]
theorem q_coins (hV : VW M U) (hm : MR M ms) (hr : RO M on ot op os sc sd sp sw gc gp gr bc bg bs bt be ql qg fc fg fs fm) (oL : Nat → Int64) (mt : Int32) (p1 : Int32) : zQm (f_L_coins gc gp oL p1) (f_X12_coins ms mt p1) := by
  obtain ⟨h0, a1, a2, a3, a4, a5, a6, a7, a8, a9, a10, a11, a12⟩ := fm_all hm
  have hv := hV
  obtain ⟨⟨v0, v1, v2, v4, v3, vU⟩, hS, hR, hVQ, hVB, hD, hVF, hC⟩ := hv
  have hr' := hr
  obtain ⟨⟨n1, n2, n3, n4⟩, oS, oG, oB, oQ, oF⟩ := hr'
  have s0 := oS.1
  have g0 := oG.1
  have b0 := oB.1
  have f0 := oF.1
  by_cases c : zin (M 1) p1
  · have x1 : f_X6_has (nI (M 1)) p1 = some (nI 1) := fh_1 (by omega) c
    have y1 := (fm_isG hm v1 p1).1 c
    obtain ⟨j, hj, rfl⟩ := c
    have hj' : j < 10 := by omega
    have w := (oG.2 j hj).1
    refine zQm_n (q := oL) (b := nI (zC M j)) ?_ ?_
    · simp (disch := omega) only [sf_g, sf_b, sf_n, sf_c0, sf_c1, sf_c2, sf_c3, sf_c4, sf_c5, sf_c6, il_0, il_1, il_2, il_3, il_4, il_5, il_6, il_7, il_8, il_9, il_10, il_11, il_12, il_16, il_20, il_32, il_44, il_45, il_48, il_50, il_57, il_59, il_60, il_64, il_74, il_98, il_99, il_100, il_108, il_109, il_110, il_111, il_112, il_113, il_115, il_119, il_120, il_158, il_255, il_1106, il_2147483647, nI_add, nI_mul, nI_sub, nI_clamp, nI_inT, nI_eqP, nI_leP, nI_ltP, nI_neP, nI_nnP, nI_nlP, nI_nltP, nI_nleP, nI_div, nI_subneg, nI_if, if_true, if_false, ite_true, ite_false, ↓reduceIte, nI_spos, nI_szero, Nat.add_zero, sf_t1, sf_c7, sf_c8, sf_c9, n1_0, n4_0, n4_1, f_L_coins, f_TX11_coins, f_X11_coins, f_TX11_checkGuest, f_X11_checkGuest, g0, x1, w]
    · simp (disch := omega) only [sf_g, sf_b, sf_n, sf_c0, sf_c1, sf_c2, sf_c3, sf_c4, sf_c5, sf_c6, il_0, il_1, il_2, il_3, il_4, il_5, il_6, il_7, il_8, il_9, il_10, il_11, il_12, il_16, il_20, il_32, il_44, il_45, il_48, il_50, il_57, il_59, il_60, il_64, il_74, il_98, il_99, il_100, il_108, il_109, il_110, il_111, il_112, il_113, il_115, il_119, il_120, il_158, il_255, il_1106, il_2147483647, nI_add, nI_mul, nI_sub, nI_clamp, nI_inT, nI_eqP, nI_leP, nI_ltP, nI_neP, nI_nnP, nI_nlP, nI_nltP, nI_nleP, nI_div, nI_subneg, nI_if, if_true, if_false, ite_true, ite_false, ↓reduceIte, nI_spos, nI_szero, Nat.add_zero, sf_t1, sf_c7, sf_c8, sf_c9, n1_0, n4_0, n4_1, f_X12_coins, f_X12_isThere, y1, a6, or_true, true_or]
  · have x1 : f_X6_has (nI (M 1)) p1 = some (nI 0) := fh_0 (by omega) c
    have y1 := (fm_isG hm v1 p1).2 c
    refine zQm_t (q := oL) (b := nI 0) 1 (by omega) ?_ ?_
    · simp (disch := omega) only [sf_g, sf_b, sf_n, sf_c0, sf_c1, sf_c2, sf_c3, sf_c4, sf_c5, sf_c6, il_0, il_1, il_2, il_3, il_4, il_5, il_6, il_7, il_8, il_9, il_10, il_11, il_12, il_16, il_20, il_32, il_44, il_45, il_48, il_50, il_57, il_59, il_60, il_64, il_74, il_98, il_99, il_100, il_108, il_109, il_110, il_111, il_112, il_113, il_115, il_119, il_120, il_158, il_255, il_1106, il_2147483647, nI_add, nI_mul, nI_sub, nI_clamp, nI_inT, nI_eqP, nI_leP, nI_ltP, nI_neP, nI_nnP, nI_nlP, nI_nltP, nI_nleP, nI_div, nI_subneg, nI_if, if_true, if_false, ite_true, ite_false, ↓reduceIte, nI_spos, nI_szero, Nat.add_zero, sf_t1, sf_c7, sf_c8, sf_c9, n1_0, n4_0, n4_1, f_L_coins, f_TX11_coins, f_TX11_checkGuest, g0, x1]
    · simp (disch := omega) only [sf_g, sf_b, sf_n, sf_c0, sf_c1, sf_c2, sf_c3, sf_c4, sf_c5, sf_c6, il_0, il_1, il_2, il_3, il_4, il_5, il_6, il_7, il_8, il_9, il_10, il_11, il_12, il_16, il_20, il_32, il_44, il_45, il_48, il_50, il_57, il_59, il_60, il_64, il_74, il_98, il_99, il_100, il_108, il_109, il_110, il_111, il_112, il_113, il_115, il_119, il_120, il_158, il_255, il_1106, il_2147483647, nI_add, nI_mul, nI_sub, nI_clamp, nI_inT, nI_eqP, nI_leP, nI_ltP, nI_neP, nI_nnP, nI_nlP, nI_nltP, nI_nleP, nI_div, nI_subneg, nI_if, if_true, if_false, ite_true, ite_false, ↓reduceIte, nI_spos, nI_szero, Nat.add_zero, sf_t1, sf_c7, sf_c8, sf_c9, n1_0, n4_0, n4_1, f_X12_coins, f_X12_isThere, y1, or_true, true_or]
theorem q_rides (hV : VW M U) (hm : MR M ms) (hr : RO M on ot op os sc sd sp sw gc gp gr bc bg bs bt be ql qg fc fg fs fm) (oL : Nat → Int64) (mt : Int32) (p1 : Int32) : zQm (f_L_rides gc gr oL p1) (f_X12_rides ms mt p1) := by
  obtain ⟨h0, a1, a2, a3, a4, a5, a6, a7, a8, a9, a10, a11, a12⟩ := fm_all hm
  have hv := hV
  obtain ⟨⟨v0, v1, v2, v4, v3, vU⟩, hS, hR, hVQ, hVB, hD, hVF, hC⟩ := hv
  have hr' := hr
  obtain ⟨⟨n1, n2, n3, n4⟩, oS, oG, oB, oQ, oF⟩ := hr'
  have s0 := oS.1
  have g0 := oG.1
  have b0 := oB.1
  have f0 := oF.1
  by_cases c : zin (M 1) p1
  · have x1 : f_X6_has (nI (M 1)) p1 = some (nI 1) := fh_1 (by omega) c
    have y1 := (fm_isG hm v1 p1).1 c
    obtain ⟨j, hj, rfl⟩ := c
    have hj' : j < 10 := by omega
    have w := (oG.2 j hj).2
    refine zQm_n (q := oL) (b := nI (zR M j)) ?_ ?_
    · simp (disch := omega) only [sf_g, sf_b, sf_n, sf_c0, sf_c1, sf_c2, sf_c3, sf_c4, sf_c5, sf_c6, il_0, il_1, il_2, il_3, il_4, il_5, il_6, il_7, il_8, il_9, il_10, il_11, il_12, il_16, il_20, il_32, il_44, il_45, il_48, il_50, il_57, il_59, il_60, il_64, il_74, il_98, il_99, il_100, il_108, il_109, il_110, il_111, il_112, il_113, il_115, il_119, il_120, il_158, il_255, il_1106, il_2147483647, nI_add, nI_mul, nI_sub, nI_clamp, nI_inT, nI_eqP, nI_leP, nI_ltP, nI_neP, nI_nnP, nI_nlP, nI_nltP, nI_nleP, nI_div, nI_subneg, nI_if, if_true, if_false, ite_true, ite_false, ↓reduceIte, nI_spos, nI_szero, Nat.add_zero, sf_t1, sf_c7, sf_c8, sf_c9, n1_0, n4_0, n4_1, f_L_rides, f_TX11_rides, f_X11_rides, f_TX11_checkGuest, f_X11_checkGuest, g0, x1, w]
    · simp (disch := omega) only [sf_g, sf_b, sf_n, sf_c0, sf_c1, sf_c2, sf_c3, sf_c4, sf_c5, sf_c6, il_0, il_1, il_2, il_3, il_4, il_5, il_6, il_7, il_8, il_9, il_10, il_11, il_12, il_16, il_20, il_32, il_44, il_45, il_48, il_50, il_57, il_59, il_60, il_64, il_74, il_98, il_99, il_100, il_108, il_109, il_110, il_111, il_112, il_113, il_115, il_119, il_120, il_158, il_255, il_1106, il_2147483647, nI_add, nI_mul, nI_sub, nI_clamp, nI_inT, nI_eqP, nI_leP, nI_ltP, nI_neP, nI_nnP, nI_nlP, nI_nltP, nI_nleP, nI_div, nI_subneg, nI_if, if_true, if_false, ite_true, ite_false, ↓reduceIte, nI_spos, nI_szero, Nat.add_zero, sf_t1, sf_c7, sf_c8, sf_c9, n1_0, n4_0, n4_1, f_X12_rides, f_X12_isThere, y1, a7, or_true, true_or]
  · have x1 : f_X6_has (nI (M 1)) p1 = some (nI 0) := fh_0 (by omega) c
    have y1 := (fm_isG hm v1 p1).2 c
    refine zQm_t (q := oL) (b := nI 0) 1 (by omega) ?_ ?_
    · simp (disch := omega) only [sf_g, sf_b, sf_n, sf_c0, sf_c1, sf_c2, sf_c3, sf_c4, sf_c5, sf_c6, il_0, il_1, il_2, il_3, il_4, il_5, il_6, il_7, il_8, il_9, il_10, il_11, il_12, il_16, il_20, il_32, il_44, il_45, il_48, il_50, il_57, il_59, il_60, il_64, il_74, il_98, il_99, il_100, il_108, il_109, il_110, il_111, il_112, il_113, il_115, il_119, il_120, il_158, il_255, il_1106, il_2147483647, nI_add, nI_mul, nI_sub, nI_clamp, nI_inT, nI_eqP, nI_leP, nI_ltP, nI_neP, nI_nnP, nI_nlP, nI_nltP, nI_nleP, nI_div, nI_subneg, nI_if, if_true, if_false, ite_true, ite_false, ↓reduceIte, nI_spos, nI_szero, Nat.add_zero, sf_t1, sf_c7, sf_c8, sf_c9, n1_0, n4_0, n4_1, f_L_rides, f_TX11_rides, f_TX11_checkGuest, g0, x1]
    · simp (disch := omega) only [sf_g, sf_b, sf_n, sf_c0, sf_c1, sf_c2, sf_c3, sf_c4, sf_c5, sf_c6, il_0, il_1, il_2, il_3, il_4, il_5, il_6, il_7, il_8, il_9, il_10, il_11, il_12, il_16, il_20, il_32, il_44, il_45, il_48, il_50, il_57, il_59, il_60, il_64, il_74, il_98, il_99, il_100, il_108, il_109, il_110, il_111, il_112, il_113, il_115, il_119, il_120, il_158, il_255, il_1106, il_2147483647, nI_add, nI_mul, nI_sub, nI_clamp, nI_inT, nI_eqP, nI_leP, nI_ltP, nI_neP, nI_nnP, nI_nlP, nI_nltP, nI_nleP, nI_div, nI_subneg, nI_if, if_true, if_false, ite_true, ite_false, ↓reduceIte, nI_spos, nI_szero, Nat.add_zero, sf_t1, sf_c7, sf_c8, sf_c9, n1_0, n4_0, n4_1, f_X12_rides, f_X12_isThere, y1, or_true, true_or]
theorem q_bookedGuest (hV : VW M U) (hm : MR M ms) (hr : RO M on ot op os sc sd sp sw gc gp gr bc bg bs bt be ql qg fc fg fs fm) (oL : Nat → Int64) (mt : Int32) (p1 : Int32) : zQm (f_L_bookedGuest bc bg oL p1) (f_X12_bookedGuest ms mt p1) := by
  obtain ⟨h0, a1, a2, a3, a4, a5, a6, a7, a8, a9, a10, a11, a12⟩ := fm_all hm
  have hv := hV
  obtain ⟨⟨v0, v1, v2, v4, v3, vU⟩, hS, hR, hVQ, hVB, hD, hVF, hC⟩ := hv
  have hr' := hr
  obtain ⟨⟨n1, n2, n3, n4⟩, oS, oG, oB, oQ, oF⟩ := hr'
  have s0 := oS.1
  have g0 := oG.1
  have b0 := oB.1
  have f0 := oF.1
  by_cases c : zin (M 2) p1
  · have x1 : f_X1_has (nI (M 2)) p1 = some (nI 1) := fh_1 (by omega) c
    have y1 := (fm_isB hm v2 p1).1 c
    obtain ⟨j, hj, rfl⟩ := c
    have hj' : j < 12 := by omega
    have w := (oB.2 j hj).1
    refine zQm_n (q := oL) (b := nI (zG M j)) ?_ ?_
    · simp (disch := omega) only [sf_g, sf_b, sf_n, sf_c0, sf_c1, sf_c2, sf_c3, sf_c4, sf_c5, sf_c6, il_0, il_1, il_2, il_3, il_4, il_5, il_6, il_7, il_8, il_9, il_10, il_11, il_12, il_16, il_20, il_32, il_44, il_45, il_48, il_50, il_57, il_59, il_60, il_64, il_74, il_98, il_99, il_100, il_108, il_109, il_110, il_111, il_112, il_113, il_115, il_119, il_120, il_158, il_255, il_1106, il_2147483647, nI_add, nI_mul, nI_sub, nI_clamp, nI_inT, nI_eqP, nI_leP, nI_ltP, nI_neP, nI_nnP, nI_nlP, nI_nltP, nI_nleP, nI_div, nI_subneg, nI_if, if_true, if_false, ite_true, ite_false, ↓reduceIte, nI_spos, nI_szero, Nat.add_zero, sf_t1, sf_c7, sf_c8, sf_c9, n1_0, n4_0, n4_1, f_L_bookedGuest, f_TX11_bookedGuest, f_X11_bookedGuest, f_TX11_checkBooking, f_X11_checkBooking, b0, x1, w]
    · simp (disch := omega) only [sf_g, sf_b, sf_n, sf_c0, sf_c1, sf_c2, sf_c3, sf_c4, sf_c5, sf_c6, il_0, il_1, il_2, il_3, il_4, il_5, il_6, il_7, il_8, il_9, il_10, il_11, il_12, il_16, il_20, il_32, il_44, il_45, il_48, il_50, il_57, il_59, il_60, il_64, il_74, il_98, il_99, il_100, il_108, il_109, il_110, il_111, il_112, il_113, il_115, il_119, il_120, il_158, il_255, il_1106, il_2147483647, nI_add, nI_mul, nI_sub, nI_clamp, nI_inT, nI_eqP, nI_leP, nI_ltP, nI_neP, nI_nnP, nI_nlP, nI_nltP, nI_nleP, nI_div, nI_subneg, nI_if, if_true, if_false, ite_true, ite_false, ↓reduceIte, nI_spos, nI_szero, Nat.add_zero, sf_t1, sf_c7, sf_c8, sf_c9, n1_0, n4_0, n4_1, f_X12_bookedGuest, f_X12_isThere, y1, a9, or_true, true_or]
  · have x1 : f_X1_has (nI (M 2)) p1 = some (nI 0) := fh_0 (by omega) c
    have y1 := (fm_isB hm v2 p1).2 c
    refine zQm_t (q := oL) (b := nI 0) 1 (by omega) ?_ ?_
    · simp (disch := omega) only [sf_g, sf_b, sf_n, sf_c0, sf_c1, sf_c2, sf_c3, sf_c4, sf_c5, sf_c6, il_0, il_1, il_2, il_3, il_4, il_5, il_6, il_7, il_8, il_9, il_10, il_11, il_12, il_16, il_20, il_32, il_44, il_45, il_48, il_50, il_57, il_59, il_60, il_64, il_74, il_98, il_99, il_100, il_108, il_109, il_110, il_111, il_112, il_113, il_115, il_119, il_120, il_158, il_255, il_1106, il_2147483647, nI_add, nI_mul, nI_sub, nI_clamp, nI_inT, nI_eqP, nI_leP, nI_ltP, nI_neP, nI_nnP, nI_nlP, nI_nltP, nI_nleP, nI_div, nI_subneg, nI_if, if_true, if_false, ite_true, ite_false, ↓reduceIte, nI_spos, nI_szero, Nat.add_zero, sf_t1, sf_c7, sf_c8, sf_c9, n1_0, n4_0, n4_1, f_L_bookedGuest, f_TX11_bookedGuest, f_TX11_checkBooking, b0, x1]
    · simp (disch := omega) only [sf_g, sf_b, sf_n, sf_c0, sf_c1, sf_c2, sf_c3, sf_c4, sf_c5, sf_c6, il_0, il_1, il_2, il_3, il_4, il_5, il_6, il_7, il_8, il_9, il_10, il_11, il_12, il_16, il_20, il_32, il_44, il_45, il_48, il_50, il_57, il_59, il_60, il_64, il_74, il_98, il_99, il_100, il_108, il_109, il_110, il_111, il_112, il_113, il_115, il_119, il_120, il_158, il_255, il_1106, il_2147483647, nI_add, nI_mul, nI_sub, nI_clamp, nI_inT, nI_eqP, nI_leP, nI_ltP, nI_neP, nI_nnP, nI_nlP, nI_nltP, nI_nleP, nI_div, nI_subneg, nI_if, if_true, if_false, ite_true, ite_false, ↓reduceIte, nI_spos, nI_szero, Nat.add_zero, sf_t1, sf_c7, sf_c8, sf_c9, n1_0, n4_0, n4_1, f_X12_bookedGuest, f_X12_isThere, y1, or_true, true_or]
theorem q_bookedSlide (hV : VW M U) (hm : MR M ms) (hr : RO M on ot op os sc sd sp sw gc gp gr bc bg bs bt be ql qg fc fg fs fm) (oL : Nat → Int64) (mt : Int32) (p1 : Int32) : zQm (f_L_bookedSlide bc bs oL p1) (f_X12_bookedSlide ms mt p1) := by
  obtain ⟨h0, a1, a2, a3, a4, a5, a6, a7, a8, a9, a10, a11, a12⟩ := fm_all hm
  have hv := hV
  obtain ⟨⟨v0, v1, v2, v4, v3, vU⟩, hS, hR, hVQ, hVB, hD, hVF, hC⟩ := hv
  have hr' := hr
  obtain ⟨⟨n1, n2, n3, n4⟩, oS, oG, oB, oQ, oF⟩ := hr'
  have s0 := oS.1
  have g0 := oG.1
  have b0 := oB.1
  have f0 := oF.1
  by_cases c : zin (M 2) p1
  · have x1 : f_X1_has (nI (M 2)) p1 = some (nI 1) := fh_1 (by omega) c
    have y1 := (fm_isB hm v2 p1).1 c
    obtain ⟨j, hj, rfl⟩ := c
    have hj' : j < 12 := by omega
    have w := (oB.2 j hj).2.1
    refine zQm_n (q := oL) (b := nI (zS M j)) ?_ ?_
    · simp (disch := omega) only [sf_g, sf_b, sf_n, sf_c0, sf_c1, sf_c2, sf_c3, sf_c4, sf_c5, sf_c6, il_0, il_1, il_2, il_3, il_4, il_5, il_6, il_7, il_8, il_9, il_10, il_11, il_12, il_16, il_20, il_32, il_44, il_45, il_48, il_50, il_57, il_59, il_60, il_64, il_74, il_98, il_99, il_100, il_108, il_109, il_110, il_111, il_112, il_113, il_115, il_119, il_120, il_158, il_255, il_1106, il_2147483647, nI_add, nI_mul, nI_sub, nI_clamp, nI_inT, nI_eqP, nI_leP, nI_ltP, nI_neP, nI_nnP, nI_nlP, nI_nltP, nI_nleP, nI_div, nI_subneg, nI_if, if_true, if_false, ite_true, ite_false, ↓reduceIte, nI_spos, nI_szero, Nat.add_zero, sf_t1, sf_c7, sf_c8, sf_c9, n1_0, n4_0, n4_1, f_L_bookedSlide, f_TX11_bookedSlide, f_X11_bookedSlide, f_TX11_checkBooking, f_X11_checkBooking, b0, x1, w]
    · simp (disch := omega) only [sf_g, sf_b, sf_n, sf_c0, sf_c1, sf_c2, sf_c3, sf_c4, sf_c5, sf_c6, il_0, il_1, il_2, il_3, il_4, il_5, il_6, il_7, il_8, il_9, il_10, il_11, il_12, il_16, il_20, il_32, il_44, il_45, il_48, il_50, il_57, il_59, il_60, il_64, il_74, il_98, il_99, il_100, il_108, il_109, il_110, il_111, il_112, il_113, il_115, il_119, il_120, il_158, il_255, il_1106, il_2147483647, nI_add, nI_mul, nI_sub, nI_clamp, nI_inT, nI_eqP, nI_leP, nI_ltP, nI_neP, nI_nnP, nI_nlP, nI_nltP, nI_nleP, nI_div, nI_subneg, nI_if, if_true, if_false, ite_true, ite_false, ↓reduceIte, nI_spos, nI_szero, Nat.add_zero, sf_t1, sf_c7, sf_c8, sf_c9, n1_0, n4_0, n4_1, f_X12_bookedSlide, f_X12_isThere, y1, a10, or_true, true_or]
  · have x1 : f_X1_has (nI (M 2)) p1 = some (nI 0) := fh_0 (by omega) c
    have y1 := (fm_isB hm v2 p1).2 c
    refine zQm_t (q := oL) (b := nI 0) 1 (by omega) ?_ ?_
    · simp (disch := omega) only [sf_g, sf_b, sf_n, sf_c0, sf_c1, sf_c2, sf_c3, sf_c4, sf_c5, sf_c6, il_0, il_1, il_2, il_3, il_4, il_5, il_6, il_7, il_8, il_9, il_10, il_11, il_12, il_16, il_20, il_32, il_44, il_45, il_48, il_50, il_57, il_59, il_60, il_64, il_74, il_98, il_99, il_100, il_108, il_109, il_110, il_111, il_112, il_113, il_115, il_119, il_120, il_158, il_255, il_1106, il_2147483647, nI_add, nI_mul, nI_sub, nI_clamp, nI_inT, nI_eqP, nI_leP, nI_ltP, nI_neP, nI_nnP, nI_nlP, nI_nltP, nI_nleP, nI_div, nI_subneg, nI_if, if_true, if_false, ite_true, ite_false, ↓reduceIte, nI_spos, nI_szero, Nat.add_zero, sf_t1, sf_c7, sf_c8, sf_c9, n1_0, n4_0, n4_1, f_L_bookedSlide, f_TX11_bookedSlide, f_TX11_checkBooking, b0, x1]
    · simp (disch := omega) only [sf_g, sf_b, sf_n, sf_c0, sf_c1, sf_c2, sf_c3, sf_c4, sf_c5, sf_c6, il_0, il_1, il_2, il_3, il_4, il_5, il_6, il_7, il_8, il_9, il_10, il_11, il_12, il_16, il_20, il_32, il_44, il_45, il_48, il_50, il_57, il_59, il_60, il_64, il_74, il_98, il_99, il_100, il_108, il_109, il_110, il_111, il_112, il_113, il_115, il_119, il_120, il_158, il_255, il_1106, il_2147483647, nI_add, nI_mul, nI_sub, nI_clamp, nI_inT, nI_eqP, nI_leP, nI_ltP, nI_neP, nI_nnP, nI_nlP, nI_nltP, nI_nleP, nI_div, nI_subneg, nI_if, if_true, if_false, ite_true, ite_false, ↓reduceIte, nI_spos, nI_szero, Nat.add_zero, sf_t1, sf_c7, sf_c8, sf_c9, n1_0, n4_0, n4_1, f_X12_bookedSlide, f_X12_isThere, y1, or_true, true_or]
theorem q_start (hV : VW M U) (hm : MR M ms) (hr : RO M on ot op os sc sd sp sw gc gp gr bc bg bs bt be ql qg fc fg fs fm) (oL : Nat → Int64) (mt : Int32) (p1 : Int32) : zQm (f_L_start bc bt oL p1) (f_X12_start ms mt p1) := by
  obtain ⟨h0, a1, a2, a3, a4, a5, a6, a7, a8, a9, a10, a11, a12⟩ := fm_all hm
  have hv := hV
  obtain ⟨⟨v0, v1, v2, v4, v3, vU⟩, hS, hR, hVQ, hVB, hD, hVF, hC⟩ := hv
  have hr' := hr
  obtain ⟨⟨n1, n2, n3, n4⟩, oS, oG, oB, oQ, oF⟩ := hr'
  have s0 := oS.1
  have g0 := oG.1
  have b0 := oB.1
  have f0 := oF.1
  by_cases c : zin (M 2) p1
  · have x1 : f_X1_has (nI (M 2)) p1 = some (nI 1) := fh_1 (by omega) c
    have y1 := (fm_isB hm v2 p1).1 c
    obtain ⟨j, hj, rfl⟩ := c
    have hj' : j < 12 := by omega
    have w := (oB.2 j hj).2.2.1
    refine zQm_n (q := oL) (b := nI (zT M j)) ?_ ?_
    · simp (disch := omega) only [sf_g, sf_b, sf_n, sf_c0, sf_c1, sf_c2, sf_c3, sf_c4, sf_c5, sf_c6, il_0, il_1, il_2, il_3, il_4, il_5, il_6, il_7, il_8, il_9, il_10, il_11, il_12, il_16, il_20, il_32, il_44, il_45, il_48, il_50, il_57, il_59, il_60, il_64, il_74, il_98, il_99, il_100, il_108, il_109, il_110, il_111, il_112, il_113, il_115, il_119, il_120, il_158, il_255, il_1106, il_2147483647, nI_add, nI_mul, nI_sub, nI_clamp, nI_inT, nI_eqP, nI_leP, nI_ltP, nI_neP, nI_nnP, nI_nlP, nI_nltP, nI_nleP, nI_div, nI_subneg, nI_if, if_true, if_false, ite_true, ite_false, ↓reduceIte, nI_spos, nI_szero, Nat.add_zero, sf_t1, sf_c7, sf_c8, sf_c9, n1_0, n4_0, n4_1, f_L_start, f_TX11_start, f_X11_start, f_TX11_checkBooking, f_X11_checkBooking, b0, x1, w]
    · simp (disch := omega) only [sf_g, sf_b, sf_n, sf_c0, sf_c1, sf_c2, sf_c3, sf_c4, sf_c5, sf_c6, il_0, il_1, il_2, il_3, il_4, il_5, il_6, il_7, il_8, il_9, il_10, il_11, il_12, il_16, il_20, il_32, il_44, il_45, il_48, il_50, il_57, il_59, il_60, il_64, il_74, il_98, il_99, il_100, il_108, il_109, il_110, il_111, il_112, il_113, il_115, il_119, il_120, il_158, il_255, il_1106, il_2147483647, nI_add, nI_mul, nI_sub, nI_clamp, nI_inT, nI_eqP, nI_leP, nI_ltP, nI_neP, nI_nnP, nI_nlP, nI_nltP, nI_nleP, nI_div, nI_subneg, nI_if, if_true, if_false, ite_true, ite_false, ↓reduceIte, nI_spos, nI_szero, Nat.add_zero, sf_t1, sf_c7, sf_c8, sf_c9, n1_0, n4_0, n4_1, f_X12_start, f_X12_isThere, y1, a11, or_true, true_or]
  · have x1 : f_X1_has (nI (M 2)) p1 = some (nI 0) := fh_0 (by omega) c
    have y1 := (fm_isB hm v2 p1).2 c
    refine zQm_t (q := oL) (b := nI 0) 1 (by omega) ?_ ?_
    · simp (disch := omega) only [sf_g, sf_b, sf_n, sf_c0, sf_c1, sf_c2, sf_c3, sf_c4, sf_c5, sf_c6, il_0, il_1, il_2, il_3, il_4, il_5, il_6, il_7, il_8, il_9, il_10, il_11, il_12, il_16, il_20, il_32, il_44, il_45, il_48, il_50, il_57, il_59, il_60, il_64, il_74, il_98, il_99, il_100, il_108, il_109, il_110, il_111, il_112, il_113, il_115, il_119, il_120, il_158, il_255, il_1106, il_2147483647, nI_add, nI_mul, nI_sub, nI_clamp, nI_inT, nI_eqP, nI_leP, nI_ltP, nI_neP, nI_nnP, nI_nlP, nI_nltP, nI_nleP, nI_div, nI_subneg, nI_if, if_true, if_false, ite_true, ite_false, ↓reduceIte, nI_spos, nI_szero, Nat.add_zero, sf_t1, sf_c7, sf_c8, sf_c9, n1_0, n4_0, n4_1, f_L_start, f_TX11_start, f_TX11_checkBooking, b0, x1]
    · simp (disch := omega) only [sf_g, sf_b, sf_n, sf_c0, sf_c1, sf_c2, sf_c3, sf_c4, sf_c5, sf_c6, il_0, il_1, il_2, il_3, il_4, il_5, il_6, il_7, il_8, il_9, il_10, il_11, il_12, il_16, il_20, il_32, il_44, il_45, il_48, il_50, il_57, il_59, il_60, il_64, il_74, il_98, il_99, il_100, il_108, il_109, il_110, il_111, il_112, il_113, il_115, il_119, il_120, il_158, il_255, il_1106, il_2147483647, nI_add, nI_mul, nI_sub, nI_clamp, nI_inT, nI_eqP, nI_leP, nI_ltP, nI_neP, nI_nnP, nI_nlP, nI_nltP, nI_nleP, nI_div, nI_subneg, nI_if, if_true, if_false, ite_true, ite_false, ↓reduceIte, nI_spos, nI_szero, Nat.add_zero, sf_t1, sf_c7, sf_c8, sf_c9, n1_0, n4_0, n4_1, f_X12_start, f_X12_isThere, y1, or_true, true_or]
theorem q_hasStarted (hV : VW M U) (hm : MR M ms) (hr : RO M on ot op os sc sd sp sw gc gp gr bc bg bs bt be ql qg fc fg fs fm) (oL : Nat → Int64) (mt : Int32) (p1 : Int32) : zQb (f_L_hasStarted on bc bt oL p1) (f_X12_hasStarted ms mt p1) := by
  obtain ⟨h0, a1, a2, a3, a4, a5, a6, a7, a8, a9, a10, a11, a12⟩ := fm_all hm
  have hv := hV
  obtain ⟨⟨v0, v1, v2, v4, v3, vU⟩, hS, hR, hVQ, hVB, hD, hVF, hC⟩ := hv
  have hr' := hr
  obtain ⟨⟨n1, n2, n3, n4⟩, oS, oG, oB, oQ, oF⟩ := hr'
  have s0 := oS.1
  have g0 := oG.1
  have b0 := oB.1
  have f0 := oF.1
  by_cases c : zin (M 2) p1
  · have x1 : f_X1_has (nI (M 2)) p1 = some (nI 1) := fh_1 (by omega) c
    have y1 := (fm_isB hm v2 p1).1 c
    obtain ⟨j, hj, rfl⟩ := c
    have hj' : j < 12 := by omega
    have w := (oB.2 j hj).2.2.1
    have hT := (hVB j hj).2.2.1
    by_cases d : M 3 < zT M j
    · refine zQb_0 (q := oL) ?_ ?_
      · simp (disch := omega) only [sf_g, sf_b, sf_n, sf_c0, sf_c1, sf_c2, sf_c3, sf_c4, sf_c5, sf_c6, il_0, il_1, il_2, il_3, il_4, il_5, il_6, il_7, il_8, il_9, il_10, il_11, il_12, il_16, il_20, il_32, il_44, il_45, il_48, il_50, il_57, il_59, il_60, il_64, il_74, il_98, il_99, il_100, il_108, il_109, il_110, il_111, il_112, il_113, il_115, il_119, il_120, il_158, il_255, il_1106, il_2147483647, nI_add, nI_mul, nI_sub, nI_clamp, nI_inT, nI_eqP, nI_leP, nI_ltP, nI_neP, nI_nnP, nI_nlP, nI_nltP, nI_nleP, nI_div, nI_subneg, nI_if, if_true, if_false, ite_true, ite_false, ↓reduceIte, nI_spos, nI_szero, Nat.add_zero, sf_t1, sf_c7, sf_c8, sf_c9, n1_0, n4_0, n4_1, f_L_hasStarted, f_TX11_hasStarted, f_X11_hasStarted, f_TX11_checkBooking, f_X11_checkBooking, b0, n1, x1, w, d]
      · simp (disch := omega) only [sf_g, sf_b, sf_n, sf_c0, sf_c1, sf_c2, sf_c3, sf_c4, sf_c5, sf_c6, il_0, il_1, il_2, il_3, il_4, il_5, il_6, il_7, il_8, il_9, il_10, il_11, il_12, il_16, il_20, il_32, il_44, il_45, il_48, il_50, il_57, il_59, il_60, il_64, il_74, il_98, il_99, il_100, il_108, il_109, il_110, il_111, il_112, il_113, il_115, il_119, il_120, il_158, il_255, il_1106, il_2147483647, nI_add, nI_mul, nI_sub, nI_clamp, nI_inT, nI_eqP, nI_leP, nI_ltP, nI_neP, nI_nnP, nI_nlP, nI_nltP, nI_nleP, nI_div, nI_subneg, nI_if, if_true, if_false, ite_true, ite_false, ↓reduceIte, nI_spos, nI_szero, Nat.add_zero, sf_t1, sf_c7, sf_c8, sf_c9, n1_0, n4_0, n4_1, f_X12_hasStarted, f_X12_isThere, y1, a11, h0, d, or_true, true_or]
    · refine zQb_1 (q := oL) ?_ ?_
      · simp (disch := omega) only [sf_g, sf_b, sf_n, sf_c0, sf_c1, sf_c2, sf_c3, sf_c4, sf_c5, sf_c6, il_0, il_1, il_2, il_3, il_4, il_5, il_6, il_7, il_8, il_9, il_10, il_11, il_12, il_16, il_20, il_32, il_44, il_45, il_48, il_50, il_57, il_59, il_60, il_64, il_74, il_98, il_99, il_100, il_108, il_109, il_110, il_111, il_112, il_113, il_115, il_119, il_120, il_158, il_255, il_1106, il_2147483647, nI_add, nI_mul, nI_sub, nI_clamp, nI_inT, nI_eqP, nI_leP, nI_ltP, nI_neP, nI_nnP, nI_nlP, nI_nltP, nI_nleP, nI_div, nI_subneg, nI_if, if_true, if_false, ite_true, ite_false, ↓reduceIte, nI_spos, nI_szero, Nat.add_zero, sf_t1, sf_c7, sf_c8, sf_c9, n1_0, n4_0, n4_1, f_L_hasStarted, f_TX11_hasStarted, f_X11_hasStarted, f_TX11_checkBooking, f_X11_checkBooking, b0, n1, x1, w, d]
      · simp (disch := omega) only [sf_g, sf_b, sf_n, sf_c0, sf_c1, sf_c2, sf_c3, sf_c4, sf_c5, sf_c6, il_0, il_1, il_2, il_3, il_4, il_5, il_6, il_7, il_8, il_9, il_10, il_11, il_12, il_16, il_20, il_32, il_44, il_45, il_48, il_50, il_57, il_59, il_60, il_64, il_74, il_98, il_99, il_100, il_108, il_109, il_110, il_111, il_112, il_113, il_115, il_119, il_120, il_158, il_255, il_1106, il_2147483647, nI_add, nI_mul, nI_sub, nI_clamp, nI_inT, nI_eqP, nI_leP, nI_ltP, nI_neP, nI_nnP, nI_nlP, nI_nltP, nI_nleP, nI_div, nI_subneg, nI_if, if_true, if_false, ite_true, ite_false, ↓reduceIte, nI_spos, nI_szero, Nat.add_zero, sf_t1, sf_c7, sf_c8, sf_c9, n1_0, n4_0, n4_1, f_X12_hasStarted, f_X12_isThere, y1, a11, h0, d, or_true, true_or]
  · have x1 : f_X1_has (nI (M 2)) p1 = some (nI 0) := fh_0 (by omega) c
    have y1 := (fm_isB hm v2 p1).2 c
    refine zQb_t (q := oL) (b := nI 0) 1 (by omega) ?_ ?_
    · simp (disch := omega) only [sf_g, sf_b, sf_n, sf_c0, sf_c1, sf_c2, sf_c3, sf_c4, sf_c5, sf_c6, il_0, il_1, il_2, il_3, il_4, il_5, il_6, il_7, il_8, il_9, il_10, il_11, il_12, il_16, il_20, il_32, il_44, il_45, il_48, il_50, il_57, il_59, il_60, il_64, il_74, il_98, il_99, il_100, il_108, il_109, il_110, il_111, il_112, il_113, il_115, il_119, il_120, il_158, il_255, il_1106, il_2147483647, nI_add, nI_mul, nI_sub, nI_clamp, nI_inT, nI_eqP, nI_leP, nI_ltP, nI_neP, nI_nnP, nI_nlP, nI_nltP, nI_nleP, nI_div, nI_subneg, nI_if, if_true, if_false, ite_true, ite_false, ↓reduceIte, nI_spos, nI_szero, Nat.add_zero, sf_t1, sf_c7, sf_c8, sf_c9, n1_0, n4_0, n4_1, f_L_hasStarted, f_TX11_hasStarted, f_TX11_checkBooking, b0, x1]
    · simp (disch := omega) only [sf_g, sf_b, sf_n, sf_c0, sf_c1, sf_c2, sf_c3, sf_c4, sf_c5, sf_c6, il_0, il_1, il_2, il_3, il_4, il_5, il_6, il_7, il_8, il_9, il_10, il_11, il_12, il_16, il_20, il_32, il_44, il_45, il_48, il_50, il_57, il_59, il_60, il_64, il_74, il_98, il_99, il_100, il_108, il_109, il_110, il_111, il_112, il_113, il_115, il_119, il_120, il_158, il_255, il_1106, il_2147483647, nI_add, nI_mul, nI_sub, nI_clamp, nI_inT, nI_eqP, nI_leP, nI_ltP, nI_neP, nI_nnP, nI_nlP, nI_nltP, nI_nleP, nI_div, nI_subneg, nI_if, if_true, if_false, ite_true, ite_false, ↓reduceIte, nI_spos, nI_szero, Nat.add_zero, sf_t1, sf_c7, sf_c8, sf_c9, n1_0, n4_0, n4_1, f_X12_hasStarted, f_X12_isThere, y1, or_true, true_or]
theorem q_rider (hV : VW M U) (hm : MR M ms) (hr : RO M on ot op os sc sd sp sw gc gp gr bc bg bs bt be ql qg fc fg fs fm) (oL : Nat → Int64) (mt : Int32) (p1 : Int32) : zQm (f_L_rider on sc bc bg bs bt be oL p1) (f_X12_rider ms mt p1) := by
  obtain ⟨h0, a1, a2, a3, a4, a5, a6, a7, a8, a9, a10, a11, a12⟩ := fm_all hm
  have hv := hV
  obtain ⟨⟨v0, v1, v2, v4, v3, vU⟩, hS, hR, hVQ, hVB, hD, hVF, hC⟩ := hv
  have hr' := hr
  obtain ⟨⟨n1, n2, n3, n4⟩, oS, oG, oB, oQ, oF⟩ := hr'
  have s0 := oS.1
  have g0 := oG.1
  have b0 := oB.1
  have f0 := oF.1
  by_cases c : zin (M 0) p1
  · have x1 : f_X10_has (nI (M 0)) p1 = some (nI 1) := fh_1 (by omega) c
    have y1 := (fm_isS hm v0 p1).1 c
    obtain ⟨j, hj, rfl⟩ := c
    have hon := of_on hV oB (s := j) (t := M 3) (by omega) (by omega)
    have hdu := fm_during hm (zMB_of hV) (s := j) (t := M 3) (by omega) (by omega)
    rcases zla_lt (P := zPo (zS M) (zT M) (zE M) j (M 3)) (n := M 2) with y | ⟨y, _⟩
    · rw [y, zio_n] at hon hdu
      have x0 : (nI 0 ≤ -nI 1) = False := eq_false (by decide)
      refine zQm_t (q := oL) (b := nI 0) 2 (by omega) ?_ ?_
      · simp (disch := omega) only [sf_g, sf_b, sf_n, sf_c0, sf_c1, sf_c2, sf_c3, sf_c4, sf_c5, sf_c6, il_0, il_1, il_2, il_3, il_4, il_5, il_6, il_7, il_8, il_9, il_10, il_11, il_12, il_16, il_20, il_32, il_44, il_45, il_48, il_50, il_57, il_59, il_60, il_64, il_74, il_98, il_99, il_100, il_108, il_109, il_110, il_111, il_112, il_113, il_115, il_119, il_120, il_158, il_255, il_1106, il_2147483647, nI_add, nI_mul, nI_sub, nI_clamp, nI_inT, nI_eqP, nI_leP, nI_ltP, nI_neP, nI_nnP, nI_nlP, nI_nltP, nI_nleP, nI_div, nI_subneg, nI_if, if_true, if_false, ite_true, ite_false, ↓reduceIte, nI_spos, nI_szero, Nat.add_zero, sf_t1, sf_c7, sf_c8, sf_c9, n1_0, n4_0, n4_1, f_L_rider, f_TX11_rider, f_TX11_checkSlide, f_X11_checkSlide, s0, b0, n1, x1, hon, (by decide : ¬ (4 : Nat) = 0)]
      · simp (disch := omega) only [sf_g, sf_b, sf_n, sf_c0, sf_c1, sf_c2, sf_c3, sf_c4, sf_c5, sf_c6, il_0, il_1, il_2, il_3, il_4, il_5, il_6, il_7, il_8, il_9, il_10, il_11, il_12, il_16, il_20, il_32, il_44, il_45, il_48, il_50, il_57, il_59, il_60, il_64, il_74, il_98, il_99, il_100, il_108, il_109, il_110, il_111, il_112, il_113, il_115, il_119, il_120, il_158, il_255, il_1106, il_2147483647, nI_add, nI_mul, nI_sub, nI_clamp, nI_inT, nI_eqP, nI_leP, nI_ltP, nI_neP, nI_nnP, nI_nlP, nI_nltP, nI_nleP, nI_div, nI_subneg, nI_if, if_true, if_false, ite_true, ite_false, ↓reduceIte, nI_spos, nI_szero, Nat.add_zero, sf_t1, sf_c7, sf_c8, sf_c9, n1_0, n4_0, n4_1, f_X12_rider, y1, h0, hdu, x0]
    · rw [zio_c (by omega)] at hon hdu
      have w := (oB.2 _ y).1
      refine zQm_n (q := oL) (b := nI (zG M (zla (zPo (zS M) (zT M) (zE M) j (M 3)) (M 2)))) ?_ ?_
      · simp (disch := omega) only [sf_g, sf_b, sf_n, sf_c0, sf_c1, sf_c2, sf_c3, sf_c4, sf_c5, sf_c6, il_0, il_1, il_2, il_3, il_4, il_5, il_6, il_7, il_8, il_9, il_10, il_11, il_12, il_16, il_20, il_32, il_44, il_45, il_48, il_50, il_57, il_59, il_60, il_64, il_74, il_98, il_99, il_100, il_108, il_109, il_110, il_111, il_112, il_113, il_115, il_119, il_120, il_158, il_255, il_1106, il_2147483647, nI_add, nI_mul, nI_sub, nI_clamp, nI_inT, nI_eqP, nI_leP, nI_ltP, nI_neP, nI_nnP, nI_nlP, nI_nltP, nI_nleP, nI_div, nI_subneg, nI_if, if_true, if_false, ite_true, ite_false, ↓reduceIte, nI_spos, nI_szero, Nat.add_zero, sf_t1, sf_c7, sf_c8, sf_c9, n1_0, n4_0, n4_1, f_L_rider, f_TX11_rider, f_X11_rider, f_TX11_checkSlide, f_X11_checkSlide, s0, b0, n1, x1, hon, w]
      · simp (disch := omega) only [sf_g, sf_b, sf_n, sf_c0, sf_c1, sf_c2, sf_c3, sf_c4, sf_c5, sf_c6, il_0, il_1, il_2, il_3, il_4, il_5, il_6, il_7, il_8, il_9, il_10, il_11, il_12, il_16, il_20, il_32, il_44, il_45, il_48, il_50, il_57, il_59, il_60, il_64, il_74, il_98, il_99, il_100, il_108, il_109, il_110, il_111, il_112, il_113, il_115, il_119, il_120, il_158, il_255, il_1106, il_2147483647, nI_add, nI_mul, nI_sub, nI_clamp, nI_inT, nI_eqP, nI_leP, nI_ltP, nI_neP, nI_nnP, nI_nlP, nI_nltP, nI_nleP, nI_div, nI_subneg, nI_if, if_true, if_false, ite_true, ite_false, ↓reduceIte, nI_spos, nI_szero, Nat.add_zero, sf_t1, sf_c7, sf_c8, sf_c9, n1_0, n4_0, n4_1, f_X12_rider, y1, h0, hdu, Nat.zero_le, a9]
  · have x1 : f_X10_has (nI (M 0)) p1 = some (nI 0) := fh_0 (by omega) c
    have y1 := (fm_isS hm v0 p1).2 c
    refine zQm_t (q := oL) (b := nI 0) 1 (by omega) ?_ ?_
    · simp (disch := omega) only [sf_g, sf_b, sf_n, sf_c0, sf_c1, sf_c2, sf_c3, sf_c4, sf_c5, sf_c6, il_0, il_1, il_2, il_3, il_4, il_5, il_6, il_7, il_8, il_9, il_10, il_11, il_12, il_16, il_20, il_32, il_44, il_45, il_48, il_50, il_57, il_59, il_60, il_64, il_74, il_98, il_99, il_100, il_108, il_109, il_110, il_111, il_112, il_113, il_115, il_119, il_120, il_158, il_255, il_1106, il_2147483647, nI_add, nI_mul, nI_sub, nI_clamp, nI_inT, nI_eqP, nI_leP, nI_ltP, nI_neP, nI_nnP, nI_nlP, nI_nltP, nI_nleP, nI_div, nI_subneg, nI_if, if_true, if_false, ite_true, ite_false, ↓reduceIte, nI_spos, nI_szero, Nat.add_zero, sf_t1, sf_c7, sf_c8, sf_c9, n1_0, n4_0, n4_1, f_L_rider, f_TX11_rider, f_TX11_checkSlide, s0, x1]
    · simp (disch := omega) only [sf_g, sf_b, sf_n, sf_c0, sf_c1, sf_c2, sf_c3, sf_c4, sf_c5, sf_c6, il_0, il_1, il_2, il_3, il_4, il_5, il_6, il_7, il_8, il_9, il_10, il_11, il_12, il_16, il_20, il_32, il_44, il_45, il_48, il_50, il_57, il_59, il_60, il_64, il_74, il_98, il_99, il_100, il_108, il_109, il_110, il_111, il_112, il_113, il_115, il_119, il_120, il_158, il_255, il_1106, il_2147483647, nI_add, nI_mul, nI_sub, nI_clamp, nI_inT, nI_eqP, nI_leP, nI_ltP, nI_neP, nI_nnP, nI_nlP, nI_nltP, nI_nleP, nI_div, nI_subneg, nI_if, if_true, if_false, ite_true, ite_false, ↓reduceIte, nI_spos, nI_szero, Nat.add_zero, sf_t1, sf_c7, sf_c8, sf_c9, n1_0, n4_0, n4_1, f_X12_rider, y1]
theorem q_queueOf (hV : VW M U) (hm : MR M ms) (hr : RO M on ot op os sc sd sp sw gc gp gr bc bg bs bt be ql qg fc fg fs fm) (oL : Nat → Int64) (mt : Int32) (p1 : Int32) : zQm (f_L_queueOf gc ql qg oL p1) (f_X12_queueOf ms mt p1) := by
  obtain ⟨h0, a1, a2, a3, a4, a5, a6, a7, a8, a9, a10, a11, a12⟩ := fm_all hm
  have hv := hV
  obtain ⟨⟨v0, v1, v2, v4, v3, vU⟩, hS, hR, hVQ, hVB, hD, hVF, hC⟩ := hv
  have hr' := hr
  obtain ⟨⟨n1, n2, n3, n4⟩, oS, oG, oB, oQ, oF⟩ := hr'
  have s0 := oS.1
  have g0 := oG.1
  have b0 := oB.1
  have f0 := oF.1
  by_cases c : zin (M 1) p1
  · have x1 : f_X6_has (nI (M 1)) p1 = some (nI 1) := fh_1 (by omega) c
    have y1 := (fm_isG hm v1 p1).1 c
    obtain ⟨j, hj, rfl⟩ := c
    have hso := of_so hV oQ hj
    have hg4 := (hVQ.2.2.2 j hj).1
    by_cases d : zV M j = 0
    · rw [if_pos d] at hso
      refine zQm_t (q := oL) (b := nI 0) 2 (by omega) ?_ ?_
      · simp (disch := omega) only [sf_g, sf_b, sf_n, sf_c0, sf_c1, sf_c2, sf_c3, sf_c4, sf_c5, sf_c6, il_0, il_1, il_2, il_3, il_4, il_5, il_6, il_7, il_8, il_9, il_10, il_11, il_12, il_16, il_20, il_32, il_44, il_45, il_48, il_50, il_57, il_59, il_60, il_64, il_74, il_98, il_99, il_100, il_108, il_109, il_110, il_111, il_112, il_113, il_115, il_119, il_120, il_158, il_255, il_1106, il_2147483647, nI_add, nI_mul, nI_sub, nI_clamp, nI_inT, nI_eqP, nI_leP, nI_ltP, nI_neP, nI_nnP, nI_nlP, nI_nltP, nI_nleP, nI_div, nI_subneg, nI_if, if_true, if_false, ite_true, ite_false, ↓reduceIte, nI_spos, nI_szero, Nat.add_zero, sf_t1, sf_c7, sf_c8, sf_c9, n1_0, n4_0, n4_1, f_L_queueOf, f_TX11_queueOf, f_TX11_checkGuest, f_X11_checkGuest, g0, x1, hso, (by decide : ¬ (4 : Nat) = 0)]
      · simp (disch := omega) only [sf_g, sf_b, sf_n, sf_c0, sf_c1, sf_c2, sf_c3, sf_c4, sf_c5, sf_c6, il_0, il_1, il_2, il_3, il_4, il_5, il_6, il_7, il_8, il_9, il_10, il_11, il_12, il_16, il_20, il_32, il_44, il_45, il_48, il_50, il_57, il_59, il_60, il_64, il_74, il_98, il_99, il_100, il_108, il_109, il_110, il_111, il_112, il_113, il_115, il_119, il_120, il_158, il_255, il_1106, il_2147483647, nI_add, nI_mul, nI_sub, nI_clamp, nI_inT, nI_eqP, nI_leP, nI_ltP, nI_neP, nI_nnP, nI_nlP, nI_nltP, nI_nleP, nI_div, nI_subneg, nI_if, if_true, if_false, ite_true, ite_false, ↓reduceIte, nI_spos, nI_szero, Nat.add_zero, sf_t1, sf_c7, sf_c8, sf_c9, n1_0, n4_0, n4_1, f_X12_queueOf, y1, a8, d]
    · rw [if_neg d] at hso
      refine zQm_n (q := oL) (b := nI (zV M j - 1)) ?_ ?_
      · simp (disch := omega) only [sf_g, sf_b, sf_n, sf_c0, sf_c1, sf_c2, sf_c3, sf_c4, sf_c5, sf_c6, il_0, il_1, il_2, il_3, il_4, il_5, il_6, il_7, il_8, il_9, il_10, il_11, il_12, il_16, il_20, il_32, il_44, il_45, il_48, il_50, il_57, il_59, il_60, il_64, il_74, il_98, il_99, il_100, il_108, il_109, il_110, il_111, il_112, il_113, il_115, il_119, il_120, il_158, il_255, il_1106, il_2147483647, nI_add, nI_mul, nI_sub, nI_clamp, nI_inT, nI_eqP, nI_leP, nI_ltP, nI_neP, nI_nnP, nI_nlP, nI_nltP, nI_nleP, nI_div, nI_subneg, nI_if, if_true, if_false, ite_true, ite_false, ↓reduceIte, nI_spos, nI_szero, Nat.add_zero, sf_t1, sf_c7, sf_c8, sf_c9, n1_0, n4_0, n4_1, f_L_queueOf, f_TX11_queueOf, f_X11_queueOf, f_TX11_checkGuest, f_X11_checkGuest, g0, x1, hso]
      · simp (disch := omega) only [sf_g, sf_b, sf_n, sf_c0, sf_c1, sf_c2, sf_c3, sf_c4, sf_c5, sf_c6, il_0, il_1, il_2, il_3, il_4, il_5, il_6, il_7, il_8, il_9, il_10, il_11, il_12, il_16, il_20, il_32, il_44, il_45, il_48, il_50, il_57, il_59, il_60, il_64, il_74, il_98, il_99, il_100, il_108, il_109, il_110, il_111, il_112, il_113, il_115, il_119, il_120, il_158, il_255, il_1106, il_2147483647, nI_add, nI_mul, nI_sub, nI_clamp, nI_inT, nI_eqP, nI_leP, nI_ltP, nI_neP, nI_nnP, nI_nlP, nI_nltP, nI_nleP, nI_div, nI_subneg, nI_if, if_true, if_false, ite_true, ite_false, ↓reduceIte, nI_spos, nI_szero, Nat.add_zero, sf_t1, sf_c7, sf_c8, sf_c9, n1_0, n4_0, n4_1, f_X12_queueOf, y1, a8, d]
  · have x1 : f_X6_has (nI (M 1)) p1 = some (nI 0) := fh_0 (by omega) c
    have y1 := (fm_isG hm v1 p1).2 c
    refine zQm_t (q := oL) (b := nI 0) 1 (by omega) ?_ ?_
    · simp (disch := omega) only [sf_g, sf_b, sf_n, sf_c0, sf_c1, sf_c2, sf_c3, sf_c4, sf_c5, sf_c6, il_0, il_1, il_2, il_3, il_4, il_5, il_6, il_7, il_8, il_9, il_10, il_11, il_12, il_16, il_20, il_32, il_44, il_45, il_48, il_50, il_57, il_59, il_60, il_64, il_74, il_98, il_99, il_100, il_108, il_109, il_110, il_111, il_112, il_113, il_115, il_119, il_120, il_158, il_255, il_1106, il_2147483647, nI_add, nI_mul, nI_sub, nI_clamp, nI_inT, nI_eqP, nI_leP, nI_ltP, nI_neP, nI_nnP, nI_nlP, nI_nltP, nI_nleP, nI_div, nI_subneg, nI_if, if_true, if_false, ite_true, ite_false, ↓reduceIte, nI_spos, nI_szero, Nat.add_zero, sf_t1, sf_c7, sf_c8, sf_c9, n1_0, n4_0, n4_1, f_L_queueOf, f_TX11_queueOf, f_TX11_checkGuest, g0, x1]
    · simp (disch := omega) only [sf_g, sf_b, sf_n, sf_c0, sf_c1, sf_c2, sf_c3, sf_c4, sf_c5, sf_c6, il_0, il_1, il_2, il_3, il_4, il_5, il_6, il_7, il_8, il_9, il_10, il_11, il_12, il_16, il_20, il_32, il_44, il_45, il_48, il_50, il_57, il_59, il_60, il_64, il_74, il_98, il_99, il_100, il_108, il_109, il_110, il_111, il_112, il_113, il_115, il_119, il_120, il_158, il_255, il_1106, il_2147483647, nI_add, nI_mul, nI_sub, nI_clamp, nI_inT, nI_eqP, nI_leP, nI_ltP, nI_neP, nI_nnP, nI_nlP, nI_nltP, nI_nleP, nI_div, nI_subneg, nI_if, if_true, if_false, ite_true, ite_false, ↓reduceIte, nI_spos, nI_szero, Nat.add_zero, sf_t1, sf_c7, sf_c8, sf_c9, n1_0, n4_0, n4_1, f_X12_queueOf, y1]
theorem q_queuedGuest (hV : VW M U) (hm : MR M ms) (hr : RO M on ot op os sc sd sp sw gc gp gr bc bg bs bt be ql qg fc fg fs fm) (oL : Nat → Int64) (mt : Int32) (p1 p2 : Int32) : zQm (f_L_queuedGuest sc ql qg oL p1 p2) (f_X12_queuedGuest ms mt p1 p2) := by
  obtain ⟨h0, a1, a2, a3, a4, a5, a6, a7, a8, a9, a10, a11, a12⟩ := fm_all hm
  have hv := hV
  obtain ⟨⟨v0, v1, v2, v4, v3, vU⟩, hS, hR, hVQ, hVB, hD, hVF, hC⟩ := hv
  have hr' := hr
  obtain ⟨⟨n1, n2, n3, n4⟩, oS, oG, oB, oQ, oF⟩ := hr'
  have s0 := oS.1
  have g0 := oG.1
  have b0 := oB.1
  have f0 := oF.1
  by_cases c : zin (M 0) p1
  · have x1 : f_X10_has (nI (M 0)) p1 = some (nI 1) := fh_1 (by omega) c
    have y1 := (fm_isS hm v0 p1).1 c
    obtain ⟨j, hj, rfl⟩ := c
    have hj' : j < 4 := by omega
    have q0 := (oQ j hj').1
    have q5 := (hVQ.1 j hj').1
    by_cases d : zin (zQ M j) p2
    · have z1 := fm_in1 (n := zQ M j) (by omega) d
      obtain ⟨i, hi, rfl⟩ := d
      have qe := (oQ j hj').2 i hi
      have d0 : ¬ i < 0 := Nat.not_lt_zero i
      refine zQm_n (q := oL) (b := nI (zq M j i)) ?_ ?_
      · simp (disch := omega) only [sf_g, sf_b, sf_n, sf_c0, sf_c1, sf_c2, sf_c3, sf_c4, sf_c5, sf_c6, il_0, il_1, il_2, il_3, il_4, il_5, il_6, il_7, il_8, il_9, il_10, il_11, il_12, il_16, il_20, il_32, il_44, il_45, il_48, il_50, il_57, il_59, il_60, il_64, il_74, il_98, il_99, il_100, il_108, il_109, il_110, il_111, il_112, il_113, il_115, il_119, il_120, il_158, il_255, il_1106, il_2147483647, nI_add, nI_mul, nI_sub, nI_clamp, nI_inT, nI_eqP, nI_leP, nI_ltP, nI_neP, nI_nnP, nI_nlP, nI_nltP, nI_nleP, nI_div, nI_subneg, nI_if, if_true, if_false, ite_true, ite_false, ↓reduceIte, nI_spos, nI_szero, Nat.add_zero, sf_t1, sf_c7, sf_c8, sf_c9, n1_0, n4_0, n4_1, f_L_queuedGuest, f_TX11_queuedGuest, f_X11_queuedGuest, f_TX11_checkSlide, f_X11_checkSlide, f_X9_guestAt, s0, x1, q0, d0, hi, qe]
      · simp (disch := omega) only [sf_b, sf_c1, f_X12_queuedGuest, il_0, il_1, il_2, il_3, nI_eqP, y1, a4, z1, a5, (by decide : ¬ (1 : Nat) = 0), if_false]
    · have z1 := fm_in0 (n := zQ M j) (by omega) d
      refine zQm_t (q := oL) (b := nI 0) 2 (by omega) ?_ ?_
      · by_cases e : p2 < 0
        · have e' : p2 < nI 0 := e
          simp (disch := omega) only [sf_g, sf_b, sf_n, sf_c0, sf_c1, sf_c2, sf_c3, sf_c4, sf_c5, sf_c6, il_0, il_1, il_2, il_3, il_4, il_5, il_6, il_7, il_8, il_9, il_10, il_11, il_12, il_16, il_20, il_32, il_44, il_45, il_48, il_50, il_57, il_59, il_60, il_64, il_74, il_98, il_99, il_100, il_108, il_109, il_110, il_111, il_112, il_113, il_115, il_119, il_120, il_158, il_255, il_1106, il_2147483647, nI_add, nI_mul, nI_sub, nI_clamp, nI_inT, nI_eqP, nI_leP, nI_ltP, nI_neP, nI_nnP, nI_nlP, nI_nltP, nI_nleP, nI_div, nI_subneg, nI_if, if_true, if_false, ite_true, ite_false, ↓reduceIte, nI_spos, nI_szero, Nat.add_zero, sf_t1, sf_c7, sf_c8, sf_c9, n1_0, n4_0, n4_1, f_L_queuedGuest, f_TX11_queuedGuest, f_TX11_checkSlide, f_X11_checkSlide, s0, x1, e', (by decide : ¬ (4 : Nat) = 0)]
        · obtain ⟨i, hi, rfl⟩ := nI_of e
          have d0 : ¬ i < 0 := Nat.not_lt_zero i
          have d1 : ¬ i < zQ M j := fun x => d ⟨i, x, rfl⟩
          simp (disch := omega) only [sf_g, sf_b, sf_n, sf_c0, sf_c1, sf_c2, sf_c3, sf_c4, sf_c5, sf_c6, il_0, il_1, il_2, il_3, il_4, il_5, il_6, il_7, il_8, il_9, il_10, il_11, il_12, il_16, il_20, il_32, il_44, il_45, il_48, il_50, il_57, il_59, il_60, il_64, il_74, il_98, il_99, il_100, il_108, il_109, il_110, il_111, il_112, il_113, il_115, il_119, il_120, il_158, il_255, il_1106, il_2147483647, nI_add, nI_mul, nI_sub, nI_clamp, nI_inT, nI_eqP, nI_leP, nI_ltP, nI_neP, nI_nnP, nI_nlP, nI_nltP, nI_nleP, nI_div, nI_subneg, nI_if, if_true, if_false, ite_true, ite_false, ↓reduceIte, nI_spos, nI_szero, Nat.add_zero, sf_t1, sf_c7, sf_c8, sf_c9, n1_0, n4_0, n4_1, f_L_queuedGuest, f_TX11_queuedGuest, f_TX11_checkSlide, f_X11_checkSlide, s0, x1, q0, d0, d1, (by decide : ¬ (4 : Nat) = 0)]
      · simp (disch := omega) only [sf_b, sf_c1, f_X12_queuedGuest, il_0, il_1, il_2, il_3, nI_eqP, y1, a4, z1, (by decide : ¬ (1 : Nat) = 0), if_true, if_false]
  · have x1 : f_X10_has (nI (M 0)) p1 = some (nI 0) := fh_0 (by omega) c
    have y1 := (fm_isS hm v0 p1).2 c
    refine zQm_t (q := oL) (b := nI 0) 1 (by omega) ?_ ?_
    · simp (disch := omega) only [sf_g, sf_b, sf_n, sf_c0, sf_c1, sf_c2, sf_c3, sf_c4, sf_c5, sf_c6, il_0, il_1, il_2, il_3, il_4, il_5, il_6, il_7, il_8, il_9, il_10, il_11, il_12, il_16, il_20, il_32, il_44, il_45, il_48, il_50, il_57, il_59, il_60, il_64, il_74, il_98, il_99, il_100, il_108, il_109, il_110, il_111, il_112, il_113, il_115, il_119, il_120, il_158, il_255, il_1106, il_2147483647, nI_add, nI_mul, nI_sub, nI_clamp, nI_inT, nI_eqP, nI_leP, nI_ltP, nI_neP, nI_nnP, nI_nlP, nI_nltP, nI_nleP, nI_div, nI_subneg, nI_if, if_true, if_false, ite_true, ite_false, ↓reduceIte, nI_spos, nI_szero, Nat.add_zero, sf_t1, sf_c7, sf_c8, sf_c9, n1_0, n4_0, n4_1, f_L_queuedGuest, f_TX11_queuedGuest, f_TX11_checkSlide, s0, x1]
    · simp (disch := omega) only [sf_g, sf_b, sf_n, sf_c0, sf_c1, sf_c2, sf_c3, sf_c4, sf_c5, sf_c6, il_0, il_1, il_2, il_3, il_4, il_5, il_6, il_7, il_8, il_9, il_10, il_11, il_12, il_16, il_20, il_32, il_44, il_45, il_48, il_50, il_57, il_59, il_60, il_64, il_74, il_98, il_99, il_100, il_108, il_109, il_110, il_111, il_112, il_113, il_115, il_119, il_120, il_158, il_255, il_1106, il_2147483647, nI_add, nI_mul, nI_sub, nI_clamp, nI_inT, nI_eqP, nI_leP, nI_ltP, nI_neP, nI_nnP, nI_nlP, nI_nltP, nI_nleP, nI_div, nI_subneg, nI_if, if_true, if_false, ite_true, ite_false, ↓reduceIte, nI_spos, nI_szero, Nat.add_zero, sf_t1, sf_c7, sf_c8, sf_c9, n1_0, n4_0, n4_1, f_X12_queuedGuest, y1]
theorem q_finishedGuest (hV : VW M U) (hm : MR M ms) (hr : RO M on ot op os sc sd sp sw gc gp gr bc bg bs bt be ql qg fc fg fs fm) (oL : Nat → Int64) (mt : Int32) (p1 : Int32) : zQm (f_L_finishedGuest fc fg oL p1) (f_X12_finishedGuest ms mt p1) := by
  obtain ⟨h0, a1, a2, a3, a4, a5, a6, a7, a8, a9, a10, a11, a12⟩ := fm_all hm
  have hv := hV
  obtain ⟨⟨v0, v1, v2, v4, v3, vU⟩, hS, hR, hVQ, hVB, hD, hVF, hC⟩ := hv
  have hr' := hr
  obtain ⟨⟨n1, n2, n3, n4⟩, oS, oG, oB, oQ, oF⟩ := hr'
  have s0 := oS.1
  have g0 := oG.1
  have b0 := oB.1
  have f0 := oF.1
  by_cases c : zin (M 4) p1
  · have z1 := fm_in1 (n := M 4) (by omega) c
    obtain ⟨j, hj, rfl⟩ := c
    have d0 : ¬ j < 0 := Nat.not_lt_zero j
    have w := (oF.2 (M 4 - 1 - j) (by omega)).1
    rw [show M 4 - 1 - (M 4 - 1 - j) = j by omega] at w
    have hi : ms (110 + 3 * j) = nI (zFG M j) := h0 _ (by omega)
    refine zQm_n (q := oL) (b := nI (zFG M j)) ?_ ?_
    · simp (disch := omega) only [sf_g, sf_b, sf_n, sf_c0, sf_c1, sf_c2, sf_c3, sf_c4, sf_c5, sf_c6, il_0, il_1, il_2, il_3, il_4, il_5, il_6, il_7, il_8, il_9, il_10, il_11, il_12, il_16, il_20, il_32, il_44, il_45, il_48, il_50, il_57, il_59, il_60, il_64, il_74, il_98, il_99, il_100, il_108, il_109, il_110, il_111, il_112, il_113, il_115, il_119, il_120, il_158, il_255, il_1106, il_2147483647, nI_add, nI_mul, nI_sub, nI_clamp, nI_inT, nI_eqP, nI_leP, nI_ltP, nI_neP, nI_nnP, nI_nlP, nI_nltP, nI_nleP, nI_div, nI_subneg, nI_if, if_true, if_false, ite_true, ite_false, ↓reduceIte, nI_spos, nI_szero, Nat.add_zero, sf_t1, sf_c7, sf_c8, sf_c9, n1_0, n4_0, n4_1, f_L_finishedGuest, f_TX11_finishedGuest, f_X11_finishedGuest, f_TX11_checkFinish, f_X11_checkFinish, f_X5_rowOf, f0, d0, hj, w]
    · have h4 : ms 4 = nI (M 4) := h0 4 (by omega)
      simp (disch := omega) only [sf_g, sf_b, sf_c1, sf_c2, f_X12_finishedGuest, f_X12_finish, f_X12_isThere, il_0, il_1, il_2, il_3, il_4, il_110, nI_inT, nI_clamp, nI_eqP, nI_mul, nI_add, Nat.add_zero, h4, z1, hi, (by decide : ¬ (1 : Nat) = 0), if_true, if_false, or_true, true_or]
  · have z1 := fm_in0 (n := M 4) (by omega) c
    refine zQm_t (q := oL) (b := nI 0) 1 (by omega) ?_ ?_
    · by_cases e : p1 < 0
      · have e' : p1 < nI 0 := e
        simp (disch := omega) only [sf_g, sf_b, sf_n, sf_c0, sf_c1, sf_c2, sf_c3, sf_c4, sf_c5, sf_c6, il_0, il_1, il_2, il_3, il_4, il_5, il_6, il_7, il_8, il_9, il_10, il_11, il_12, il_16, il_20, il_32, il_44, il_45, il_48, il_50, il_57, il_59, il_60, il_64, il_74, il_98, il_99, il_100, il_108, il_109, il_110, il_111, il_112, il_113, il_115, il_119, il_120, il_158, il_255, il_1106, il_2147483647, nI_add, nI_mul, nI_sub, nI_clamp, nI_inT, nI_eqP, nI_leP, nI_ltP, nI_neP, nI_nnP, nI_nlP, nI_nltP, nI_nleP, nI_div, nI_subneg, nI_if, if_true, if_false, ite_true, ite_false, ↓reduceIte, nI_spos, nI_szero, Nat.add_zero, sf_t1, sf_c7, sf_c8, sf_c9, n1_0, n4_0, n4_1, f_L_finishedGuest, f_TX11_finishedGuest, f_TX11_checkFinish, e']
      · obtain ⟨i, hi, rfl⟩ := nI_of e
        have d0 : ¬ i < 0 := Nat.not_lt_zero i
        have d1 : ¬ i < M 4 := fun x => c ⟨i, x, rfl⟩
        simp (disch := omega) only [sf_g, sf_b, sf_n, sf_c0, sf_c1, sf_c2, sf_c3, sf_c4, sf_c5, sf_c6, il_0, il_1, il_2, il_3, il_4, il_5, il_6, il_7, il_8, il_9, il_10, il_11, il_12, il_16, il_20, il_32, il_44, il_45, il_48, il_50, il_57, il_59, il_60, il_64, il_74, il_98, il_99, il_100, il_108, il_109, il_110, il_111, il_112, il_113, il_115, il_119, il_120, il_158, il_255, il_1106, il_2147483647, nI_add, nI_mul, nI_sub, nI_clamp, nI_inT, nI_eqP, nI_leP, nI_ltP, nI_neP, nI_nnP, nI_nlP, nI_nltP, nI_nleP, nI_div, nI_subneg, nI_if, if_true, if_false, ite_true, ite_false, ↓reduceIte, nI_spos, nI_szero, Nat.add_zero, sf_t1, sf_c7, sf_c8, sf_c9, n1_0, n4_0, n4_1, f_L_finishedGuest, f_TX11_finishedGuest, f_TX11_checkFinish, f0, d0, d1]
    · have h4 : ms 4 = nI (M 4) := h0 4 (by omega)
      simp (disch := omega) only [sf_g, sf_b, sf_c1, sf_c2, f_X12_finishedGuest, f_X12_finish, f_X12_isThere, il_0, il_1, il_2, il_4, nI_inT, nI_clamp, nI_eqP, h4, z1, if_true, true_or]
theorem q_finishedSlide (hV : VW M U) (hm : MR M ms) (hr : RO M on ot op os sc sd sp sw gc gp gr bc bg bs bt be ql qg fc fg fs fm) (oL : Nat → Int64) (mt : Int32) (p1 : Int32) : zQm (f_L_finishedSlide fc fs oL p1) (f_X12_finishedSlide ms mt p1) := by
  obtain ⟨h0, a1, a2, a3, a4, a5, a6, a7, a8, a9, a10, a11, a12⟩ := fm_all hm
  have hv := hV
  obtain ⟨⟨v0, v1, v2, v4, v3, vU⟩, hS, hR, hVQ, hVB, hD, hVF, hC⟩ := hv
  have hr' := hr
  obtain ⟨⟨n1, n2, n3, n4⟩, oS, oG, oB, oQ, oF⟩ := hr'
  have s0 := oS.1
  have g0 := oG.1
  have b0 := oB.1
  have f0 := oF.1
  by_cases c : zin (M 4) p1
  · have z1 := fm_in1 (n := M 4) (by omega) c
    obtain ⟨j, hj, rfl⟩ := c
    have d0 : ¬ j < 0 := Nat.not_lt_zero j
    have w := (oF.2 (M 4 - 1 - j) (by omega)).2.1
    rw [show M 4 - 1 - (M 4 - 1 - j) = j by omega] at w
    have hi : ms (110 + 3 * j + 1) = nI (zFS M j) := h0 _ (by omega)
    refine zQm_n (q := oL) (b := nI (zFS M j)) ?_ ?_
    · simp (disch := omega) only [sf_g, sf_b, sf_n, sf_c0, sf_c1, sf_c2, sf_c3, sf_c4, sf_c5, sf_c6, il_0, il_1, il_2, il_3, il_4, il_5, il_6, il_7, il_8, il_9, il_10, il_11, il_12, il_16, il_20, il_32, il_44, il_45, il_48, il_50, il_57, il_59, il_60, il_64, il_74, il_98, il_99, il_100, il_108, il_109, il_110, il_111, il_112, il_113, il_115, il_119, il_120, il_158, il_255, il_1106, il_2147483647, nI_add, nI_mul, nI_sub, nI_clamp, nI_inT, nI_eqP, nI_leP, nI_ltP, nI_neP, nI_nnP, nI_nlP, nI_nltP, nI_nleP, nI_div, nI_subneg, nI_if, if_true, if_false, ite_true, ite_false, ↓reduceIte, nI_spos, nI_szero, Nat.add_zero, sf_t1, sf_c7, sf_c8, sf_c9, n1_0, n4_0, n4_1, f_L_finishedSlide, f_TX11_finishedSlide, f_X11_finishedSlide, f_TX11_checkFinish, f_X11_checkFinish, f_X5_rowOf, f0, d0, hj, w]
    · have h4 : ms 4 = nI (M 4) := h0 4 (by omega)
      simp (disch := omega) only [sf_g, sf_b, sf_c1, sf_c2, f_X12_finishedSlide, f_X12_finish, f_X12_isThere, il_0, il_1, il_2, il_3, il_4, il_110, nI_inT, nI_clamp, nI_eqP, nI_mul, nI_add, Nat.add_zero, h4, z1, hi, (by decide : ¬ (1 : Nat) = 0), if_true, if_false, or_true, true_or]
  · have z1 := fm_in0 (n := M 4) (by omega) c
    refine zQm_t (q := oL) (b := nI 0) 1 (by omega) ?_ ?_
    · by_cases e : p1 < 0
      · have e' : p1 < nI 0 := e
        simp (disch := omega) only [sf_g, sf_b, sf_n, sf_c0, sf_c1, sf_c2, sf_c3, sf_c4, sf_c5, sf_c6, il_0, il_1, il_2, il_3, il_4, il_5, il_6, il_7, il_8, il_9, il_10, il_11, il_12, il_16, il_20, il_32, il_44, il_45, il_48, il_50, il_57, il_59, il_60, il_64, il_74, il_98, il_99, il_100, il_108, il_109, il_110, il_111, il_112, il_113, il_115, il_119, il_120, il_158, il_255, il_1106, il_2147483647, nI_add, nI_mul, nI_sub, nI_clamp, nI_inT, nI_eqP, nI_leP, nI_ltP, nI_neP, nI_nnP, nI_nlP, nI_nltP, nI_nleP, nI_div, nI_subneg, nI_if, if_true, if_false, ite_true, ite_false, ↓reduceIte, nI_spos, nI_szero, Nat.add_zero, sf_t1, sf_c7, sf_c8, sf_c9, n1_0, n4_0, n4_1, f_L_finishedSlide, f_TX11_finishedSlide, f_TX11_checkFinish, e']
      · obtain ⟨i, hi, rfl⟩ := nI_of e
        have d0 : ¬ i < 0 := Nat.not_lt_zero i
        have d1 : ¬ i < M 4 := fun x => c ⟨i, x, rfl⟩
        simp (disch := omega) only [sf_g, sf_b, sf_n, sf_c0, sf_c1, sf_c2, sf_c3, sf_c4, sf_c5, sf_c6, il_0, il_1, il_2, il_3, il_4, il_5, il_6, il_7, il_8, il_9, il_10, il_11, il_12, il_16, il_20, il_32, il_44, il_45, il_48, il_50, il_57, il_59, il_60, il_64, il_74, il_98, il_99, il_100, il_108, il_109, il_110, il_111, il_112, il_113, il_115, il_119, il_120, il_158, il_255, il_1106, il_2147483647, nI_add, nI_mul, nI_sub, nI_clamp, nI_inT, nI_eqP, nI_leP, nI_ltP, nI_neP, nI_nnP, nI_nlP, nI_nltP, nI_nleP, nI_div, nI_subneg, nI_if, if_true, if_false, ite_true, ite_false, ↓reduceIte, nI_spos, nI_szero, Nat.add_zero, sf_t1, sf_c7, sf_c8, sf_c9, n1_0, n4_0, n4_1, f_L_finishedSlide, f_TX11_finishedSlide, f_TX11_checkFinish, f0, d0, d1]
    · have h4 : ms 4 = nI (M 4) := h0 4 (by omega)
      simp (disch := omega) only [sf_g, sf_b, sf_c1, sf_c2, f_X12_finishedSlide, f_X12_finish, f_X12_isThere, il_0, il_1, il_2, il_4, nI_inT, nI_clamp, nI_eqP, h4, z1, if_true, true_or]
theorem q_finishMinute (hV : VW M U) (hm : MR M ms) (hr : RO M on ot op os sc sd sp sw gc gp gr bc bg bs bt be ql qg fc fg fs fm) (oL : Nat → Int64) (mt : Int32) (p1 : Int32) : zQm (f_L_finishMinute fc fm oL p1) (f_X12_finishMinute ms mt p1) := by
  obtain ⟨h0, a1, a2, a3, a4, a5, a6, a7, a8, a9, a10, a11, a12⟩ := fm_all hm
  have hv := hV
  obtain ⟨⟨v0, v1, v2, v4, v3, vU⟩, hS, hR, hVQ, hVB, hD, hVF, hC⟩ := hv
  have hr' := hr
  obtain ⟨⟨n1, n2, n3, n4⟩, oS, oG, oB, oQ, oF⟩ := hr'
  have s0 := oS.1
  have g0 := oG.1
  have b0 := oB.1
  have f0 := oF.1
  by_cases c : zin (M 4) p1
  · have z1 := fm_in1 (n := M 4) (by omega) c
    obtain ⟨j, hj, rfl⟩ := c
    have d0 : ¬ j < 0 := Nat.not_lt_zero j
    have w := (oF.2 (M 4 - 1 - j) (by omega)).2.2
    rw [show M 4 - 1 - (M 4 - 1 - j) = j by omega] at w
    have hi : ms (110 + 3 * j + 2) = nI (zFM M j) := h0 _ (by omega)
    refine zQm_n (q := oL) (b := nI (zFM M j)) ?_ ?_
    · simp (disch := omega) only [sf_g, sf_b, sf_n, sf_c0, sf_c1, sf_c2, sf_c3, sf_c4, sf_c5, sf_c6, il_0, il_1, il_2, il_3, il_4, il_5, il_6, il_7, il_8, il_9, il_10, il_11, il_12, il_16, il_20, il_32, il_44, il_45, il_48, il_50, il_57, il_59, il_60, il_64, il_74, il_98, il_99, il_100, il_108, il_109, il_110, il_111, il_112, il_113, il_115, il_119, il_120, il_158, il_255, il_1106, il_2147483647, nI_add, nI_mul, nI_sub, nI_clamp, nI_inT, nI_eqP, nI_leP, nI_ltP, nI_neP, nI_nnP, nI_nlP, nI_nltP, nI_nleP, nI_div, nI_subneg, nI_if, if_true, if_false, ite_true, ite_false, ↓reduceIte, nI_spos, nI_szero, Nat.add_zero, sf_t1, sf_c7, sf_c8, sf_c9, n1_0, n4_0, n4_1, f_L_finishMinute, f_TX11_finishMinute, f_X11_finishMinute, f_TX11_checkFinish, f_X11_checkFinish, f_X5_rowOf, f0, d0, hj, w]
    · have h4 : ms 4 = nI (M 4) := h0 4 (by omega)
      simp (disch := omega) only [sf_g, sf_b, sf_c1, sf_c2, f_X12_finishMinute, f_X12_finish, f_X12_isThere, il_0, il_1, il_2, il_3, il_4, il_110, nI_inT, nI_clamp, nI_eqP, nI_mul, nI_add, Nat.add_zero, h4, z1, hi, (by decide : ¬ (1 : Nat) = 0), if_true, if_false, or_true, true_or]
  · have z1 := fm_in0 (n := M 4) (by omega) c
    refine zQm_t (q := oL) (b := nI 0) 1 (by omega) ?_ ?_
    · by_cases e : p1 < 0
      · have e' : p1 < nI 0 := e
        simp (disch := omega) only [sf_g, sf_b, sf_n, sf_c0, sf_c1, sf_c2, sf_c3, sf_c4, sf_c5, sf_c6, il_0, il_1, il_2, il_3, il_4, il_5, il_6, il_7, il_8, il_9, il_10, il_11, il_12, il_16, il_20, il_32, il_44, il_45, il_48, il_50, il_57, il_59, il_60, il_64, il_74, il_98, il_99, il_100, il_108, il_109, il_110, il_111, il_112, il_113, il_115, il_119, il_120, il_158, il_255, il_1106, il_2147483647, nI_add, nI_mul, nI_sub, nI_clamp, nI_inT, nI_eqP, nI_leP, nI_ltP, nI_neP, nI_nnP, nI_nlP, nI_nltP, nI_nleP, nI_div, nI_subneg, nI_if, if_true, if_false, ite_true, ite_false, ↓reduceIte, nI_spos, nI_szero, Nat.add_zero, sf_t1, sf_c7, sf_c8, sf_c9, n1_0, n4_0, n4_1, f_L_finishMinute, f_TX11_finishMinute, f_TX11_checkFinish, e']
      · obtain ⟨i, hi, rfl⟩ := nI_of e
        have d0 : ¬ i < 0 := Nat.not_lt_zero i
        have d1 : ¬ i < M 4 := fun x => c ⟨i, x, rfl⟩
        simp (disch := omega) only [sf_g, sf_b, sf_n, sf_c0, sf_c1, sf_c2, sf_c3, sf_c4, sf_c5, sf_c6, il_0, il_1, il_2, il_3, il_4, il_5, il_6, il_7, il_8, il_9, il_10, il_11, il_12, il_16, il_20, il_32, il_44, il_45, il_48, il_50, il_57, il_59, il_60, il_64, il_74, il_98, il_99, il_100, il_108, il_109, il_110, il_111, il_112, il_113, il_115, il_119, il_120, il_158, il_255, il_1106, il_2147483647, nI_add, nI_mul, nI_sub, nI_clamp, nI_inT, nI_eqP, nI_leP, nI_ltP, nI_neP, nI_nnP, nI_nlP, nI_nltP, nI_nleP, nI_div, nI_subneg, nI_if, if_true, if_false, ite_true, ite_false, ↓reduceIte, nI_spos, nI_szero, Nat.add_zero, sf_t1, sf_c7, sf_c8, sf_c9, n1_0, n4_0, n4_1, f_L_finishMinute, f_TX11_finishMinute, f_TX11_checkFinish, f0, d0, d1]
    · have h4 : ms 4 = nI (M 4) := h0 4 (by omega)
      simp (disch := omega) only [sf_g, sf_b, sf_c1, sf_c2, f_X12_finishMinute, f_X12_finish, f_X12_isThere, il_0, il_1, il_2, il_4, nI_inT, nI_clamp, nI_eqP, h4, z1, if_true, true_or]
end QUE
