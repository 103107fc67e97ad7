/-! a minute passes, in the office and in the model -/
section MINUTE
variable {M : Nat → Nat} {ms : Nat → Int32} {U r e : Nat} {on ot op os sc gc bc fc : Int32} {sd sp sw gp gr bg bs bt be ql qg fg fs fm : Nat → Int32}
/-- no booking in the way: both see it -/
theorem zc_free {g s t : Nat} (hf : zc (zPa (zG M) (zS M) (zT M) (zE M) g s t (t + zD M s)) (M 2) = 0) : zfr M g s t := fun k hk hs => by
  have := of_decide_eq_false (zc_all0 hf k hk)
  omega
theorem of_free (h : VP M U r e) (hB : OB M bc bg bs bt be) {g s t : Nat} (hg : g < 100) (hs : s < 4) (ht : t < 90000000) (hd : zD M s < 100) : f_X1_areFree (nI (M 2)) bg bs bt be (nI g) (nI s) (nI t) (nI (t + zD M s)) = some (nI (if zc (zPa (zG M) (zS M) (zT M) (zE M) g s t (t + zD M s)) (M 2) = 0 then 1 else 0)) := by
  have hb := zHB_of h hB
  refine lo_areFree hb hg (by omega) (by omega) (by omega) (k := fun _ => some 1) (fun b h1 h2 => ?_) (fun h1 => ?_) 2000 0 (Nat.zero_le _) (by have := hb.1; omega) (fun i hi => absurd hi (Nat.not_lt_zero i))
  · rw [if_neg (by have := zc_pos b h1 h2; omega)]
  · rw [if_pos (zc_none h1)]; rfl
theorem sim_call (h : VP M U r (M 3 + 1)) (hm : MR M ms) (hr : RO M on ot op os sc sd sp sw gc gp gr bc bg bs bt be ql qg fc fg fs fm) {s : Nat} (hs : s < M 0) (mt : Int32) : ∃ M' ms' ot' gp' bc' bg' bs' bt' be' ql' qg', f_X8_serveQueue on ot sd sp gp bc bg bs bt be ql qg (nI s) = some (ot', gp', bc', bg', bs', bt', be', ql', qg') ∧ f_X12_calls ms mt (nI s) = some (ms', mt) ∧ VP M' U r (M' 3 + 1) ∧ MR M' ms' ∧ RO M' on ot' op os sc sd sp sw gc gp' gr bc' bg' bs' bt' be' ql' qg' fc fg fs fm ∧ M' 0 = M 0 ∧ M' 3 = M 3 := by
  have hV := h
  have hr' := hr
  have hB := zMB_of h
  obtain ⟨h0, a1, a2, a3, a4, a5, a6, a7, a8, a9, a10, a11, a12⟩ := fm_all hm
  obtain ⟨⟨v0, v1, v2, v4, v3, vU⟩, hS, hR, hVQ, hVB, hD, hVF, hC⟩ := h
  obtain ⟨⟨n1, n2, n3, n4⟩, oS, oG, oB, oQ, oF⟩ := hr
  have hs' : s < 4 := by omega
  have q0 := (oQ s hs').1
  have hq5 := (hVQ.1 s hs').1
  have hSs := hS s hs
  obtain ⟨s1, s2, s3⟩ := oS.2 s hs
  rcases Nat.eq_zero_or_pos (zQ M s) with z | z
  · refine ⟨M, ms, ot, gp, bc, bg, bs, bt, be, ql, qg, ?_, ?_, hV, hm, hr', rfl, rfl⟩
    · simp (disch := omega) only [sf_g, sf_b, sf_n, sf_c0, sf_c1, sf_c2, sf_c3, sf_c4, sf_c5, sf_c6, il_0, il_1, il_2, il_3, il_4, il_5, il_6, il_7, il_8, il_9, il_10, il_11, il_12, il_16, il_20, il_32, il_44, il_45, il_48, il_50, il_57, il_59, il_60, il_64, il_74, il_98, il_99, il_100, il_108, il_109, il_110, il_111, il_112, il_113, il_115, il_119, il_120, il_158, il_255, il_1106, il_2147483647, nI_add, nI_mul, nI_sub, nI_clamp, nI_inT, nI_eqP, nI_leP, nI_ltP, nI_neP, nI_nnP, nI_nlP, nI_nltP, nI_nleP, nI_div, nI_subneg, nI_if, if_true, if_false, ite_true, ite_false, ↓reduceIte, nI_spos, nI_szero, Nat.add_zero, sf_t1, sf_c7, sf_c8, sf_c9, n1_0, n4_0, n4_1, f_X8_serveQueue, q0, z]
    · simp (disch := omega) only [sf_g, sf_b, sf_n, sf_c0, sf_c1, sf_c2, sf_c3, sf_c4, sf_c5, sf_c6, il_0, il_1, il_2, il_3, il_4, il_5, il_6, il_7, il_8, il_9, il_10, il_11, il_12, il_16, il_20, il_32, il_44, il_45, il_48, il_50, il_57, il_59, il_60, il_64, il_74, il_98, il_99, il_100, il_108, il_109, il_110, il_111, il_112, il_113, il_115, il_119, il_120, il_158, il_255, il_1106, il_2147483647, nI_add, nI_mul, nI_sub, nI_clamp, nI_inT, nI_eqP, nI_leP, nI_ltP, nI_neP, nI_nnP, nI_nlP, nI_nltP, nI_nleP, nI_div, nI_subneg, nI_if, if_true, if_false, ite_true, ite_false, ↓reduceIte, nI_spos, nI_szero, Nat.add_zero, sf_t1, sf_c7, sf_c8, sf_c9, n1_0, n4_0, n4_1, f_X12_calls, a4, z]
  · have z0 : ¬ zQ M s = 0 := by omega
    have hg := hVQ.2.1 s hs' 0 z
    have hqg : qg (s * 5) = nI (zq M s 0) := (oQ s hs').2 0 z
    have hg10 : zq M s 0 < 10 := by omega
    obtain ⟨g1, g2⟩ := oG.2 _ hg.1
    have hc5 : zC M (zq M s 0) ≤ 500 := zC_le hV hg.1
    have hd : ∀ j, j < zQ M s → zq M s j = zq M s 0 → j = 0 := fun j hj e2 => by
      rcases Nat.eq_zero_or_pos j with y | y
      · exact y
      · exact absurd e2.symm (hVQ.2.2.1 s hs' 0 j y hj)
    obtain ⟨ql', qg', hrem, hrQ⟩ := of_leaveQ hV hr' hs' z rfl
    obtain ⟨ms1, hlv, hm1⟩ := fm_leave hm v1 hg.1 hs' hg.2 hq5 z rfl hd (fun j hj => by have := (hVQ.2.1 s hs' j hj).1; omega) mt
    have hV1 := V_lv hV hs' z rfl
    have l0 : zlv M s 0 (zq M s 0) 0 = M 0 := qv_0 hg10 hs' hq5 z
    have l1 : zlv M s 0 (zq M s 0) 1 = M 1 := qv_1 hg10 hs' hq5 z
    have l2 : zlv M s 0 (zq M s 0) 2 = M 2 := qv_2 hg10 hs' hq5 z
    have l3 : zlv M s 0 (zq M s 0) 3 = M 3 := qv_3 hg10 hs' hq5 z
    by_cases c : zP M s ≤ zC M (zq M s 0)
    · by_cases f : M 2 < 12
      · have hfr := of_free hV oB (g := zq M s 0) (s := s) (t := M 3) (by omega) hs' (by omega) (by omega)
        have hcl := fm_clash hm hB (g := zq M s 0) (s := s) (t := M 3) (p0 := nI (zq M s 0)) (fun x hx => nI_eqP (by omega) (by omega)) hs' (by omega) (by omega)
        have hbf : f_X1_isFull (nI (M 2)) = some (nI 0) := by simp (disch := omega) only [sf_g, sf_b, sf_n, sf_c0, sf_c1, sf_c2, sf_c3, sf_c4, sf_c5, sf_c6, il_0, il_1, il_2, il_3, il_4, il_5, il_6, il_7, il_8, il_9, il_10, il_11, il_12, il_16, il_20, il_32, il_44, il_45, il_48, il_50, il_57, il_59, il_60, il_64, il_74, il_98, il_99, il_100, il_108, il_109, il_110, il_111, il_112, il_113, il_115, il_119, il_120, il_158, il_255, il_1106, il_2147483647, nI_add, nI_mul, nI_sub, nI_clamp, nI_inT, nI_eqP, nI_leP, nI_ltP, nI_neP, nI_nnP, nI_nlP, nI_nltP, nI_nleP, nI_div, nI_subneg, nI_if, if_true, if_false, ite_true, ite_false, ↓reduceIte, nI_spos, nI_szero, Nat.add_zero, sf_t1, sf_c7, sf_c8, sf_c9, n1_0, n4_0, n4_1, f_X1_isFull, f]
        have b0 := oB.1
        have f12 : ¬ 12 ≤ M 2 := by omega
        by_cases k : zc (zPa (zG M) (zS M) (zT M) (zE M) (zq M s 0) s (M 3) (M 3 + zD M s)) (M 2) = 0
        · rw [if_pos k] at hfr hcl
          have lP : zP (zlv M s 0 (zq M s 0)) s = zP M s := qv_zP hg10 hs' hq5 z hs'
          have lC : zC (zlv M s 0 (zq M s 0)) (zq M s 0) = zC M (zq M s 0) := qv_zC hg10 hs' hq5 z hg10
          have hfree : zfr (zlv M s 0 (zq M s 0)) (zq M s 0) s (M 3) := fun i hi hsm => by
            rw [l2] at hi
            have hi2 : i < 12 := by omega
            have hSi := (hVB i hi).2.1
            rw [qv_zG hg10 hs' hq5 z hi2, qv_zS hg10 hs' hq5 z hi2] at hsm
            rw [zE, qv_zS hg10 hs' hq5 z hi2, qv_zT hg10 hs' hq5 z hi2, qv_zD hg10 hs' hq5 z (by omega), qv_zD hg10 hs' hq5 z hs']
            exact zc_free k i hi hsm
          obtain ⟨ot', gp', bc', bg', bs', bt', be', hsell, hrS⟩ := of_sell hV1 hrQ (g := zq M s 0) (s := s) (t := M 3) (by rw [l1]; exact hg.1) (by rw [l0]; exact hs) (by rw [l2]; exact f) (by rw [lP, lC]; exact c)
          obtain ⟨ms2, hmk, hm2⟩ := fm_makes hm1 (g := zq M s 0) (s := s) (t := M 3) hg10 hs' (by rw [l2]; exact f) (by rw [lP, lC]; exact c)
          have hV2 := V_mk hV1 (g := zq M s 0) (s := s) (t := M 3) (by rw [l3]; exact Nat.le_refl _) (by rw [l1]; exact hg.1) (by rw [l0]; exact hs) (by rw [l2]; exact f) (by rw [l3]; exact Nat.le_refl _) (by rw [l3]; omega) (by rw [lP, lC]; exact c) hfree
          have k0 : zmk (zlv M s 0 (zq M s 0)) (zq M s 0) s (M 3) 0 = M 0 := (mk_0 (by rw [l2]; exact f) hg10 hs').trans l0
          have k3 : zmk (zlv M s 0 (zq M s 0)) (zq M s 0) s (M 3) 3 = M 3 := (mk_3 (by rw [l2]; exact f) hg10 hs').trans l3
          have m3 : ms1 3 = nI (M 3) := by rw [hm1 3 (by omega), l3]
          rw [b0] at hsell
          refine ⟨zmk (zlv M s 0 (zq M s 0)) (zq M s 0) s (M 3), ms2, ot', gp', bc', bg', bs', bt', be', ql', qg', ?_, ?_, by rw [k3]; exact hV2, hm2, hrS, k0, k3⟩
          · simp (disch := omega) only [sf_g, sf_b, sf_n, sf_c0, sf_c1, sf_c2, sf_c3, sf_c4, sf_c5, sf_c6, il_0, il_1, il_2, il_3, il_4, il_5, il_6, il_7, il_8, il_9, il_10, il_11, il_12, il_16, il_20, il_32, il_44, il_45, il_48, il_50, il_57, il_59, il_60, il_64, il_74, il_98, il_99, il_100, il_108, il_109, il_110, il_111, il_112, il_113, il_115, il_119, il_120, il_158, il_255, il_1106, il_2147483647, nI_add, nI_mul, nI_sub, nI_clamp, nI_inT, nI_eqP, nI_leP, nI_ltP, nI_neP, nI_nnP, nI_nlP, nI_nltP, nI_nleP, nI_div, nI_subneg, nI_if, if_true, if_false, ite_true, ite_false, ↓reduceIte, nI_spos, nI_szero, Nat.add_zero, sf_t1, sf_c7, sf_c8, sf_c9, n1_0, n4_0, n4_1, sf_c8, f_X8_serveQueue, f_X9_guestAt, f_X8_endFrom, n1, b0, q0, z0, hqg, g1, s1, s2, c, hbf, hfr, hrem, hsell]
          · simp (disch := omega) only [sf_g, sf_b, sf_n, sf_c0, sf_c1, sf_c2, sf_c3, sf_c4, sf_c5, sf_c6, il_0, il_1, il_2, il_3, il_4, il_5, il_6, il_7, il_8, il_9, il_10, il_11, il_12, il_16, il_20, il_32, il_44, il_45, il_48, il_50, il_57, il_59, il_60, il_64, il_74, il_98, il_99, il_100, il_108, il_109, il_110, il_111, il_112, il_113, il_115, il_119, il_120, il_158, il_255, il_1106, il_2147483647, nI_add, nI_mul, nI_sub, nI_clamp, nI_inT, nI_eqP, nI_leP, nI_ltP, nI_neP, nI_nnP, nI_nlP, nI_nltP, nI_nleP, nI_div, nI_subneg, nI_if, if_true, if_false, ite_true, ite_false, ↓reduceIte, nI_spos, nI_szero, Nat.add_zero, sf_t1, sf_c7, sf_c8, sf_c9, n1_0, n4_0, n4_1, f_X12_calls, a4, a5, a6, a2, z0, c, f12, h0, hcl, hlv, m3, hmk]
        · rw [if_neg k] at hfr hcl
          refine ⟨M, ms, ot, gp, bc, bg, bs, bt, be, ql, qg, ?_, ?_, hV, hm, hr', rfl, rfl⟩
          · simp (disch := omega) only [sf_g, sf_b, sf_n, sf_c0, sf_c1, sf_c2, sf_c3, sf_c4, sf_c5, sf_c6, il_0, il_1, il_2, il_3, il_4, il_5, il_6, il_7, il_8, il_9, il_10, il_11, il_12, il_16, il_20, il_32, il_44, il_45, il_48, il_50, il_57, il_59, il_60, il_64, il_74, il_98, il_99, il_100, il_108, il_109, il_110, il_111, il_112, il_113, il_115, il_119, il_120, il_158, il_255, il_1106, il_2147483647, nI_add, nI_mul, nI_sub, nI_clamp, nI_inT, nI_eqP, nI_leP, nI_ltP, nI_neP, nI_nnP, nI_nlP, nI_nltP, nI_nleP, nI_div, nI_subneg, nI_if, if_true, if_false, ite_true, ite_false, ↓reduceIte, nI_spos, nI_szero, Nat.add_zero, sf_t1, sf_c7, sf_c8, sf_c9, n1_0, n4_0, n4_1, f_X8_serveQueue, f_X9_guestAt, f_X8_endFrom, n1, b0, q0, z0, hqg, g1, s1, s2, c, hbf, hfr]
          · simp (disch := omega) only [sf_g, sf_b, sf_n, sf_c0, sf_c1, sf_c2, sf_c3, sf_c4, sf_c5, sf_c6, il_0, il_1, il_2, il_3, il_4, il_5, il_6, il_7, il_8, il_9, il_10, il_11, il_12, il_16, il_20, il_32, il_44, il_45, il_48, il_50, il_57, il_59, il_60, il_64, il_74, il_98, il_99, il_100, il_108, il_109, il_110, il_111, il_112, il_113, il_115, il_119, il_120, il_158, il_255, il_1106, il_2147483647, nI_add, nI_mul, nI_sub, nI_clamp, nI_inT, nI_eqP, nI_leP, nI_ltP, nI_neP, nI_nnP, nI_nlP, nI_nltP, nI_nleP, nI_div, nI_subneg, nI_if, if_true, if_false, ite_true, ite_false, ↓reduceIte, nI_spos, nI_szero, Nat.add_zero, sf_t1, sf_c7, sf_c8, sf_c9, n1_0, n4_0, n4_1, f_X12_calls, a4, a5, a6, a2, z0, c, f12, h0, hcl]
      · have f2 : M 2 = 12 := by omega
        have hbf : f_X1_isFull (nI (M 2)) = some (nI 1) := by simp (disch := omega) only [sf_g, sf_b, sf_n, sf_c0, sf_c1, sf_c2, sf_c3, sf_c4, sf_c5, sf_c6, il_0, il_1, il_2, il_3, il_4, il_5, il_6, il_7, il_8, il_9, il_10, il_11, il_12, il_16, il_20, il_32, il_44, il_45, il_48, il_50, il_57, il_59, il_60, il_64, il_74, il_98, il_99, il_100, il_108, il_109, il_110, il_111, il_112, il_113, il_115, il_119, il_120, il_158, il_255, il_1106, il_2147483647, nI_add, nI_mul, nI_sub, nI_clamp, nI_inT, nI_eqP, nI_leP, nI_ltP, nI_neP, nI_nnP, nI_nlP, nI_nltP, nI_nleP, nI_div, nI_subneg, nI_if, if_true, if_false, ite_true, ite_false, ↓reduceIte, nI_spos, nI_szero, Nat.add_zero, sf_t1, sf_c7, sf_c8, sf_c9, n1_0, n4_0, n4_1, f_X1_isFull, f]
        have b0 := oB.1
        have f12 : 12 ≤ M 2 := by omega
        refine ⟨M, ms, ot, gp, bc, bg, bs, bt, be, ql, qg, ?_, ?_, hV, hm, hr', rfl, rfl⟩
        · simp (disch := omega) only [sf_g, sf_b, sf_n, sf_c0, sf_c1, sf_c2, sf_c3, sf_c4, sf_c5, sf_c6, il_0, il_1, il_2, il_3, il_4, il_5, il_6, il_7, il_8, il_9, il_10, il_11, il_12, il_16, il_20, il_32, il_44, il_45, il_48, il_50, il_57, il_59, il_60, il_64, il_74, il_98, il_99, il_100, il_108, il_109, il_110, il_111, il_112, il_113, il_115, il_119, il_120, il_158, il_255, il_1106, il_2147483647, nI_add, nI_mul, nI_sub, nI_clamp, nI_inT, nI_eqP, nI_leP, nI_ltP, nI_neP, nI_nnP, nI_nlP, nI_nltP, nI_nleP, nI_div, nI_subneg, nI_if, if_true, if_false, ite_true, ite_false, ↓reduceIte, nI_spos, nI_szero, Nat.add_zero, sf_t1, sf_c7, sf_c8, sf_c9, n1_0, n4_0, n4_1, f_X8_serveQueue, f_X9_guestAt, b0, q0, z0, hqg, g1, s2, c, hbf]
        · simp (disch := omega) only [sf_g, sf_b, sf_n, sf_c0, sf_c1, sf_c2, sf_c3, sf_c4, sf_c5, sf_c6, il_0, il_1, il_2, il_3, il_4, il_5, il_6, il_7, il_8, il_9, il_10, il_11, il_12, il_16, il_20, il_32, il_44, il_45, il_48, il_50, il_57, il_59, il_60, il_64, il_74, il_98, il_99, il_100, il_108, il_109, il_110, il_111, il_112, il_113, il_115, il_119, il_120, il_158, il_255, il_1106, il_2147483647, nI_add, nI_mul, nI_sub, nI_clamp, nI_inT, nI_eqP, nI_leP, nI_ltP, nI_neP, nI_nnP, nI_nlP, nI_nltP, nI_nleP, nI_div, nI_subneg, nI_if, if_true, if_false, ite_true, ite_false, ↓reduceIte, nI_spos, nI_szero, Nat.add_zero, sf_t1, sf_c7, sf_c8, sf_c9, n1_0, n4_0, n4_1, f_X12_calls, a4, a5, a6, a2, z0, c, f12, h0]
    · refine ⟨zlv M s 0 (zq M s 0), ms1, ot, gp, bc, bg, bs, bt, be, ql', qg', ?_, ?_, by rw [l3]; exact hV1, hm1, hrQ, l0, l3⟩
      · simp (disch := omega) only [sf_g, sf_b, sf_n, sf_c0, sf_c1, sf_c2, sf_c3, sf_c4, sf_c5, sf_c6, il_0, il_1, il_2, il_3, il_4, il_5, il_6, il_7, il_8, il_9, il_10, il_11, il_12, il_16, il_20, il_32, il_44, il_45, il_48, il_50, il_57, il_59, il_60, il_64, il_74, il_98, il_99, il_100, il_108, il_109, il_110, il_111, il_112, il_113, il_115, il_119, il_120, il_158, il_255, il_1106, il_2147483647, nI_add, nI_mul, nI_sub, nI_clamp, nI_inT, nI_eqP, nI_leP, nI_ltP, nI_neP, nI_nnP, nI_nlP, nI_nltP, nI_nleP, nI_div, nI_subneg, nI_if, if_true, if_false, ite_true, ite_false, ↓reduceIte, nI_spos, nI_szero, Nat.add_zero, sf_t1, sf_c7, sf_c8, sf_c9, n1_0, n4_0, n4_1, f_X8_serveQueue, f_X9_guestAt, q0, z0, hqg, g1, s2, c, hrem]
      · simp (disch := omega) only [sf_g, sf_b, sf_n, sf_c0, sf_c1, sf_c2, sf_c3, sf_c4, sf_c5, sf_c6, il_0, il_1, il_2, il_3, il_4, il_5, il_6, il_7, il_8, il_9, il_10, il_11, il_12, il_16, il_20, il_32, il_44, il_45, il_48, il_50, il_57, il_59, il_60, il_64, il_74, il_98, il_99, il_100, il_108, il_109, il_110, il_111, il_112, il_113, il_115, il_119, il_120, il_158, il_255, il_1106, il_2147483647, nI_add, nI_mul, nI_sub, nI_clamp, nI_inT, nI_eqP, nI_leP, nI_ltP, nI_neP, nI_nnP, nI_nlP, nI_nltP, nI_nleP, nI_div, nI_subneg, nI_if, if_true, if_false, ite_true, ite_false, ↓reduceIte, nI_spos, nI_szero, Nat.add_zero, sf_t1, sf_c7, sf_c8, sf_c9, n1_0, n4_0, n4_1, f_X12_calls, a4, a5, a6, a2, z0, c, hlv]
end MINUTE
section MIN2
variable {U r : Nat} {on op os sc gc fc : Int32} {sd sp sw gr fg fs fm : Nat → Int32}
/-- first: the queues -/
theorem sim_calls (mt : Int32) : ∀ (m j : Nat) (M : Nat → Nat) (ms : Nat → Int32) (ot : Int32) (gp : Nat → Int32) (bc : Int32) (bg : Nat → Int32) (bs : Nat → Int32) (bt : Nat → Int32) (be : Nat → Int32) (ql : Nat → Int32) (qg : Nat → Int32), j ≤ M 0 → M 0 - j < m → VP M U r (M 3 + 1) → MR M ms → RO M on ot op os sc sd sp sw gc gp gr bc bg bs bt be ql qg fc fg fs fm → ∃ M' ms' ot' gp' bc' bg' bs' bt' be' ql' qg', (∀ k, f_X8_passOneMinute_L2 on sc sd sp k m (nI j) ot gp bc bg bs bt be ql qg = k ot' gp' bc' bg' bs' bt' be' ql' qg') ∧ (∀ k, f_X12_passesOne_L2 k m (nI j) mt ms = k mt ms') ∧ VP M' U r (M' 3 + 1) ∧ MR M' ms' ∧ RO M' on ot' op os sc sd sp sw gc gp' gr bc' bg' bs' bt' be' ql' qg' fc fg fs fm ∧ M' 0 = M 0 ∧ M' 3 = M 3 := by
  intro m
  induction m with
  | zero => intro j M ms ot gp bc bg bs bt be ql qg hj hm2; omega
  | succ m ih =>
    intro j M ms ot gp bc bg bs bt be ql qg hj hm2 hV hm hr
    have v0 := hV.1.1
    have h0 : ∀ k, k < 158 → ms k = nI (M k) := hm
    have s0 := hr.2.1.1
    rcases Nat.lt_or_ge j (M 0) with z | z
    · obtain ⟨M1, ms1, ot1, gp1, bc1, bg1, bs1, bt1, be1, ql1, qg1, c1, c2, c3, c4, c5, c6, c7⟩ := sim_call hV hm hr z mt
      obtain ⟨M', ms', ot', gp', bc', bg', bs', bt', be', ql', qg', d1, d2, d3, d4, d5, d6, d7⟩ := ih (j + 1) M1 ms1 ot1 gp1 bc1 bg1 bs1 bt1 be1 ql1 qg1 (by omega) (by omega) c3 c4 c5
      have hnj : ¬ M 0 ≤ j := by omega
      refine ⟨M', ms', ot', gp', bc', bg', bs', bt', be', ql', qg', fun k => ?_, fun k => ?_, d3, d4, d5, by omega, by omega⟩
      · rw [f_X8_passOneMinute_L2, ← d1 k, c1]
        simp (disch := omega) only [sf_g, sf_b, sf_n, sf_c0, sf_c1, sf_c2, sf_c3, sf_c4, sf_c5, sf_c6, il_0, il_1, il_2, il_3, il_4, il_5, il_6, il_7, il_8, il_9, il_10, il_11, il_12, il_16, il_20, il_32, il_44, il_45, il_48, il_50, il_57, il_59, il_60, il_64, il_74, il_98, il_99, il_100, il_108, il_109, il_110, il_111, il_112, il_113, il_115, il_119, il_120, il_158, il_255, il_1106, il_2147483647, nI_add, nI_mul, nI_sub, nI_clamp, nI_inT, nI_eqP, nI_leP, nI_ltP, nI_neP, nI_nnP, nI_nlP, nI_nltP, nI_nleP, nI_div, nI_subneg, nI_if, if_true, if_false, ite_true, ite_false, ↓reduceIte, nI_spos, nI_szero, Nat.add_zero, sf_t1, sf_c7, sf_c8, sf_c9, n1_0, n4_0, n4_1, sf_c9, s0, hnj]
      · rw [f_X12_passesOne_L2, ← d2 k, c2]
        simp (disch := omega) only [sf_g, sf_b, sf_n, sf_c0, sf_c1, sf_c2, sf_c3, sf_c4, sf_c5, sf_c6, il_0, il_1, il_2, il_3, il_4, il_5, il_6, il_7, il_8, il_9, il_10, il_11, il_12, il_16, il_20, il_32, il_44, il_45, il_48, il_50, il_57, il_59, il_60, il_64, il_74, il_98, il_99, il_100, il_108, il_109, il_110, il_111, il_112, il_113, il_115, il_119, il_120, il_158, il_255, il_1106, il_2147483647, nI_add, nI_mul, nI_sub, nI_clamp, nI_inT, nI_eqP, nI_leP, nI_ltP, nI_neP, nI_nnP, nI_nlP, nI_nltP, nI_nleP, nI_div, nI_subneg, nI_if, if_true, if_false, ite_true, ite_false, ↓reduceIte, nI_spos, nI_szero, Nat.add_zero, sf_t1, sf_c7, sf_c8, sf_c9, n1_0, n4_0, n4_1, h0, hnj]
    · have e : j = M 0 := by omega
      refine ⟨M, ms, ot, gp, bc, bg, bs, bt, be, ql, qg, fun k => ?_, fun k => ?_, hV, hm, hr, rfl, rfl⟩
      · rw [f_X8_passOneMinute_L2]
        simp (disch := omega) only [sf_g, sf_b, sf_n, sf_c0, sf_c1, sf_c2, sf_c3, sf_c4, sf_c5, sf_c6, il_0, il_1, il_2, il_3, il_4, il_5, il_6, il_7, il_8, il_9, il_10, il_11, il_12, il_16, il_20, il_32, il_44, il_45, il_48, il_50, il_57, il_59, il_60, il_64, il_74, il_98, il_99, il_100, il_108, il_109, il_110, il_111, il_112, il_113, il_115, il_119, il_120, il_158, il_255, il_1106, il_2147483647, nI_add, nI_mul, nI_sub, nI_clamp, nI_inT, nI_eqP, nI_leP, nI_ltP, nI_neP, nI_nnP, nI_nlP, nI_nltP, nI_nleP, nI_div, nI_subneg, nI_if, if_true, if_false, ite_true, ite_false, ↓reduceIte, nI_spos, nI_szero, Nat.add_zero, sf_t1, sf_c7, sf_c8, sf_c9, n1_0, n4_0, n4_1, s0, z]
      · rw [f_X12_passesOne_L2]
        simp (disch := omega) only [sf_g, sf_b, sf_n, sf_c0, sf_c1, sf_c2, sf_c3, sf_c4, sf_c5, sf_c6, il_0, il_1, il_2, il_3, il_4, il_5, il_6, il_7, il_8, il_9, il_10, il_11, il_12, il_16, il_20, il_32, il_44, il_45, il_48, il_50, il_57, il_59, il_60, il_64, il_74, il_98, il_99, il_100, il_108, il_109, il_110, il_111, il_112, il_113, il_115, il_119, il_120, il_158, il_255, il_1106, il_2147483647, nI_add, nI_mul, nI_sub, nI_clamp, nI_inT, nI_eqP, nI_leP, nI_ltP, nI_neP, nI_nnP, nI_nlP, nI_nltP, nI_nleP, nI_div, nI_subneg, nI_if, if_true, if_false, ite_true, ite_false, ↓reduceIte, nI_spos, nI_szero, Nat.add_zero, sf_t1, sf_c7, sf_c8, sf_c9, n1_0, n4_0, n4_1, h0, z]
end MIN2
section MIN3
variable {U r : Nat} {ot op os sc gc bc fc : Int32} {sd sp gp gr bg bs bt be ql qg fg fs fm : Nat → Int32}
/-- third: the slides dry; n: the minute that has passed -/
theorem sim_dry {n : Nat} : ∀ (m j : Nat) (M : Nat → Nat) (ms sw : Nat → Int32), j ≤ M 0 → M 0 - j < m → M 3 = n + 1 → VP M U r (M 3) → MR M ms → RO M (nI (n + 1)) ot op os sc sd sp sw gc gp gr bc bg bs bt be ql qg fc fg fs fm → ∃ M' ms' sw', (∀ k, f_X8_passOneMinute_L41 (nI n) sc bc bs bt be k m (nI j) sw = k sw') ∧ (∀ k, f_X12_passesOne_L35 k m (nI j) ms = k ms') ∧ VP M' U r (M' 3) ∧ MR M' ms' ∧ RO M' (nI (n + 1)) ot op os sc sd sp sw' gc gp gr bc bg bs bt be ql qg fc fg fs fm ∧ M' 2 = M 2 ∧ M' 3 = M 3 := by
  intro m
  induction m with
  | zero => intro j M ms sw hj hm2; omega
  | succ m ih =>
    intro j M ms sw hj hm2 h3 hV hm hr
    have v0 := hV.1.1
    obtain ⟨h0, a1, a2, a3, a4, a5, a6, a7, a8, a9, a10, a11, a12⟩ := fm_all hm
    have s0 := hr.2.1.1
    have b0 := hr.2.2.2.1.1
    have hU := hV.1.2.2.2.2
    have v2 := hV.1.2.2.1
    rcases Nat.lt_or_ge j (M 0) with z | z
    · have hnj : ¬ M 0 ≤ j := by omega
      have hon := of_on hV hr.2.2.2.1 (s := j) (t := n) (by omega) (by omega)
      have hdu := fm_during hm (zMB_of hV) (s := j) (t := n) (by omega) (by omega)
      have e3 : ms 3 = nI (n + 1) := by rw [h0 3 (by omega), h3]
      rcases zla_lt (P := zPo (zS M) (zT M) (zE M) j n) (n := M 2) with y | ⟨y, _⟩
      · rw [y, zio_n] at hon hdu
        obtain ⟨sw1, c1, c2⟩ := of_dry hV hr z
        have hVd := V_dy hV (s := j) (w := zW M j - 1) z (by have := (hV.2.1 j z).2.2.2.2; omega)
        have hw9 := (hV.2.1 j z).2.2.2.2
        have d3 : zdy M j (zW M j - 1) 3 = M 3 := dy_3 (by omega)
        have d0 : zdy M j (zW M j - 1) 0 = M 0 := dy_0 (by omega)
        have d2 : zdy M j (zW M j - 1) 2 = M 2 := dy_2 (by omega)
        have hmd : MR (zdy M j (zW M j - 1)) (upd ms (8 + 9 * j + 2) (nI (zW M j - 1))) := hm.upd _ _
        obtain ⟨M', ms', sw', e1, e2, e4, e5, e6, e7, e8⟩ := ih (j + 1) (zdy M j (zW M j - 1)) _ sw1 (by omega) (by omega) (by omega) (by rw [d3]; exact hVd) hmd c2
        have hwets : f_X12_wets ms (nI j) (nI (zW M j) - nI 1) = some (upd ms (8 + 9 * j + 2) (nI (zW M j - 1))) := by
          rcases Nat.eq_zero_or_pos (zW M j) with x | x
          · have x1 : (nI 0 - nI 1 < nI 9) = True := eq_true (by decide)
            have x2 : (nI 0 < nI 0 - nI 1) = False := eq_false (by decide)
            rw [x]
            simp (disch := omega) only [sf_g, sf_n, f_X12_wets, il_0, il_2, il_8, il_9, nI_mul, nI_add, nI_inT, nI_clamp, x1, x2, if_true, if_false]
          · have x1 : zW M j - 1 < 9 := by omega
            have x2 : 0 < zW M j - 1 ∨ zW M j - 1 = 0 := by omega
            rw [nI_sub x]
            rcases x2 with x2 | x2
            · simp (disch := omega) only [sf_g, sf_b, sf_n, sf_c0, sf_c1, sf_c2, sf_c3, sf_c4, sf_c5, sf_c6, il_0, il_1, il_2, il_3, il_4, il_5, il_6, il_7, il_8, il_9, il_10, il_11, il_12, il_16, il_20, il_32, il_44, il_45, il_48, il_50, il_57, il_59, il_60, il_64, il_74, il_98, il_99, il_100, il_108, il_109, il_110, il_111, il_112, il_113, il_115, il_119, il_120, il_158, il_255, il_1106, il_2147483647, nI_add, nI_mul, nI_sub, nI_clamp, nI_inT, nI_eqP, nI_leP, nI_ltP, nI_neP, nI_nnP, nI_nlP, nI_nltP, nI_nleP, nI_div, nI_subneg, nI_if, if_true, if_false, ite_true, ite_false, ↓reduceIte, nI_spos, nI_szero, Nat.add_zero, sf_t1, sf_c7, sf_c8, sf_c9, n1_0, n4_0, n4_1, f_X12_wets, x1, x2]
            · simp (disch := omega) only [sf_g, sf_b, sf_n, sf_c0, sf_c1, sf_c2, sf_c3, sf_c4, sf_c5, sf_c6, il_0, il_1, il_2, il_3, il_4, il_5, il_6, il_7, il_8, il_9, il_10, il_11, il_12, il_16, il_20, il_32, il_44, il_45, il_48, il_50, il_57, il_59, il_60, il_64, il_74, il_98, il_99, il_100, il_108, il_109, il_110, il_111, il_112, il_113, il_115, il_119, il_120, il_158, il_255, il_1106, il_2147483647, nI_add, nI_mul, nI_sub, nI_clamp, nI_inT, nI_eqP, nI_leP, nI_ltP, nI_neP, nI_nnP, nI_nlP, nI_nltP, nI_nleP, nI_div, nI_subneg, nI_if, if_true, if_false, ite_true, ite_false, ↓reduceIte, nI_spos, nI_szero, Nat.add_zero, sf_t1, sf_c7, sf_c8, sf_c9, n1_0, n4_0, n4_1, f_X12_wets, x1, x2, (by decide : ¬ 0 < 0)]
              rfl
        refine ⟨M', ms', sw', fun k => ?_, fun k => ?_, e4, e5, e6, by omega, by omega⟩
        · rw [f_X8_passOneMinute_L41, ← e1 k]
          simp (disch := omega) only [sf_g, sf_b, sf_n, sf_c0, sf_c1, sf_c2, sf_c3, sf_c4, sf_c5, sf_c6, il_0, il_1, il_2, il_3, il_4, il_5, il_6, il_7, il_8, il_9, il_10, il_11, il_12, il_16, il_20, il_32, il_44, il_45, il_48, il_50, il_57, il_59, il_60, il_64, il_74, il_98, il_99, il_100, il_108, il_109, il_110, il_111, il_112, il_113, il_115, il_119, il_120, il_158, il_255, il_1106, il_2147483647, nI_add, nI_mul, nI_sub, nI_clamp, nI_inT, nI_eqP, nI_leP, nI_ltP, nI_neP, nI_nnP, nI_nlP, nI_nltP, nI_nleP, nI_div, nI_subneg, nI_if, if_true, if_false, ite_true, ite_false, ↓reduceIte, nI_spos, nI_szero, Nat.add_zero, sf_t1, sf_c7, sf_c8, sf_c9, n1_0, n4_0, n4_1, s0, b0, hnj, hon, c1]
        · rw [f_X12_passesOne_L35, ← e2 k]
          have x0 : (nI 0 ≤ -nI 1) = False := eq_false (by decide)
          simp (disch := omega) only [sf_g, sf_b, sf_n, sf_c1, il_0, il_1, il_2, il_3, nI_inT, nI_clamp, nI_leP, nI_add, e3, h0, hnj, nI_sub, Nat.add_sub_cancel, hdu, x0, if_true, if_false, a3, hwets]
      · rw [zio_c (by omega)] at hon hdu
        obtain ⟨M', ms', sw', e1, e2, e4, e5, e6, e7, e8⟩ := ih (j + 1) M ms sw (by omega) (by omega) h3 hV hm hr
        refine ⟨M', ms', sw', fun k => ?_, fun k => ?_, e4, e5, e6, e7, e8⟩
        · rw [f_X8_passOneMinute_L41, ← e1 k]
          simp (disch := omega) only [sf_g, sf_b, sf_n, sf_c0, sf_c1, sf_c2, sf_c3, sf_c4, sf_c5, sf_c6, il_0, il_1, il_2, il_3, il_4, il_5, il_6, il_7, il_8, il_9, il_10, il_11, il_12, il_16, il_20, il_32, il_44, il_45, il_48, il_50, il_57, il_59, il_60, il_64, il_74, il_98, il_99, il_100, il_108, il_109, il_110, il_111, il_112, il_113, il_115, il_119, il_120, il_158, il_255, il_1106, il_2147483647, nI_add, nI_mul, nI_sub, nI_clamp, nI_inT, nI_eqP, nI_leP, nI_ltP, nI_neP, nI_nnP, nI_nlP, nI_nltP, nI_nleP, nI_div, nI_subneg, nI_if, if_true, if_false, ite_true, ite_false, ↓reduceIte, nI_spos, nI_szero, Nat.add_zero, sf_t1, sf_c7, sf_c8, sf_c9, n1_0, n4_0, n4_1, s0, b0, hnj, hon]
        · rw [f_X12_passesOne_L35, ← e2 k]
          simp (disch := omega) only [sf_g, sf_b, sf_n, sf_c0, sf_c1, sf_c2, sf_c3, sf_c4, sf_c5, sf_c6, il_0, il_1, il_2, il_3, il_4, il_5, il_6, il_7, il_8, il_9, il_10, il_11, il_12, il_16, il_20, il_32, il_44, il_45, il_48, il_50, il_57, il_59, il_60, il_64, il_74, il_98, il_99, il_100, il_108, il_109, il_110, il_111, il_112, il_113, il_115, il_119, il_120, il_158, il_255, il_1106, il_2147483647, nI_add, nI_mul, nI_sub, nI_clamp, nI_inT, nI_eqP, nI_leP, nI_ltP, nI_neP, nI_nnP, nI_nlP, nI_nltP, nI_nleP, nI_div, nI_subneg, nI_if, if_true, if_false, ite_true, ite_false, ↓reduceIte, nI_spos, nI_szero, Nat.add_zero, sf_t1, sf_c7, sf_c8, sf_c9, n1_0, n4_0, n4_1, e3, h0, hnj, Nat.add_sub_cancel, hdu, Nat.zero_le]
    · have e : j = M 0 := by omega
      refine ⟨M, ms, sw, fun k => ?_, fun k => ?_, hV, hm, hr, rfl, rfl⟩
      · rw [f_X8_passOneMinute_L41]
        simp (disch := omega) only [sf_g, sf_b, sf_n, sf_c0, sf_c1, sf_c2, sf_c3, sf_c4, sf_c5, sf_c6, il_0, il_1, il_2, il_3, il_4, il_5, il_6, il_7, il_8, il_9, il_10, il_11, il_12, il_16, il_20, il_32, il_44, il_45, il_48, il_50, il_57, il_59, il_60, il_64, il_74, il_98, il_99, il_100, il_108, il_109, il_110, il_111, il_112, il_113, il_115, il_119, il_120, il_158, il_255, il_1106, il_2147483647, nI_add, nI_mul, nI_sub, nI_clamp, nI_inT, nI_eqP, nI_leP, nI_ltP, nI_neP, nI_nnP, nI_nlP, nI_nltP, nI_nleP, nI_div, nI_subneg, nI_if, if_true, if_false, ite_true, ite_false, ↓reduceIte, nI_spos, nI_szero, Nat.add_zero, sf_t1, sf_c7, sf_c8, sf_c9, n1_0, n4_0, n4_1, s0, z]
      · rw [f_X12_passesOne_L35]
        simp (disch := omega) only [sf_g, sf_b, sf_n, sf_c0, sf_c1, sf_c2, sf_c3, sf_c4, sf_c5, sf_c6, il_0, il_1, il_2, il_3, il_4, il_5, il_6, il_7, il_8, il_9, il_10, il_11, il_12, il_16, il_20, il_32, il_44, il_45, il_48, il_50, il_57, il_59, il_60, il_64, il_74, il_98, il_99, il_100, il_108, il_109, il_110, il_111, il_112, il_113, il_115, il_119, il_120, il_158, il_255, il_1106, il_2147483647, nI_add, nI_mul, nI_sub, nI_clamp, nI_inT, nI_eqP, nI_leP, nI_ltP, nI_neP, nI_nnP, nI_nlP, nI_nltP, nI_nleP, nI_div, nI_subneg, nI_if, if_true, if_false, ite_true, ite_false, ↓reduceIte, nI_spos, nI_szero, Nat.add_zero, sf_t1, sf_c7, sf_c8, sf_c9, n1_0, n4_0, n4_1, h0, z]
end MIN3
section MIN4
variable {U r0 n0 : Nat} {on sc gc : Int32} {sd sp ql qg : Nat → Int32}
/-- fourth: bookings finish; i seen, f of them finished -/
theorem sim_fins : ∀ (m i f : Nat) (M : Nat → Nat) (ms : Nat → Int32) (ot : Int32) (op : Int32) (os : Int32) (sw : Nat → Int32) (gp : Nat → Int32) (gr : Nat → Int32) (bc : Int32) (bg : Nat → Int32) (bs : Nat → Int32) (bt : Nat → Int32) (be : Nat → Int32) (fc : Int32) (fg : Nat → Int32) (fs : Nat → Int32) (fm : Nat → Int32), i ≤ n0 → n0 - i < m → f ≤ i → M 2 + f = n0 → n0 ≤ 12 → VP M U (r0 + f) (M 3) → (∀ k, k < i - f → M 3 + 1 ≤ zE M k) → MR M ms → RO M on ot op os sc sd sp sw gc gp gr bc bg bs bt be ql qg fc fg fs fm → ∃ M' ms' f' ot' op' os' sw' gp' gr' bc' bg' bs' bt' be' fc' fg' fs' fm', (∀ k, f_X8_finishBookings_L12 on sp (nI n0) k m (nI i) (nI f) ot op os sw gp gr bc bg bs bt be fc fg fs fm = k (nI f') ot' op' os' sw' gp' gr' bc' bg' bs' bt' be' fc' fg' fs' fm') ∧ (∀ k, f_X12_passesOne_L84 k m (nI (i - f)) (nI f) ms = k (nI f') ms') ∧ VP M' U (r0 + f') (M' 3 + 1) ∧ f' ≤ 12 ∧ MR M' ms' ∧ RO M' on ot' op' os' sc sd sp sw' gc gp' gr' bc' bg' bs' bt' be' ql qg fc' fg' fs' fm' ∧ M' 3 = M 3 := by
  intro m
  induction m with
  | zero => intro i f M ms ot op os sw gp gr bc bg bs bt be fc fg fs fm hi hm2; omega
  | succ m ih =>
    intro i f M ms ot op os sw gp gr bc bg bs bt be fc fg fs fm hi hm2 hf h2 hn0 hV hE hm hr
    have h0 : ∀ k, k < 158 → ms k = nI (M k) := hm
    have hU := hV.1.2.2.2.2
    have n1 := hr.1.1
    have hB := zMB_of hV
    rcases Nat.lt_or_ge i n0 with z | z
    · have hb : i - f < M 2 := by omega
      have hni : ¬ n0 ≤ i := by omega
      have hn2 : ¬ M 2 ≤ i - f := by omega
      have hbe := (hr.2.2.2.1.2 (i - f) hb).2.2.2
      have hVB := hV.2.2.2.2.1 (i - f) hb
      have hEb := (hB.2 (i - f) hb)
      have hen := (fm_all hm).2.2.2.2.2.2.2.2.2.2.2.2 (i - f) (by omega) hEb.2.1
      by_cases c : M 3 < zE M (i - f)
      · have c2 : ¬ zE M (i - f) = M 3 := by omega
        obtain ⟨M', ms', f', ot', op', os', sw', gp', gr', bc', bg', bs', bt', be', fc', fg', fs', fm', d1, d2, d3, d4, d5, d6, d7⟩ := ih (i + 1) f M ms ot op os sw gp gr bc bg bs bt be fc fg fs fm (by omega) (by omega) (by omega) h2 hn0 hV (fun k hk => by
          rcases Nat.lt_or_ge k (i - f) with y | y
          · exact hE k y
          · have : k = i - f := by omega
            rw [this]; omega) hm hr
        refine ⟨M', ms', f', ot', op', os', sw', gp', gr', bc', bg', bs', bt', be', fc', fg', fs', fm', fun k => ?_, fun k => ?_, d3, d4, d5, d6, d7⟩
        · rw [f_X8_finishBookings_L12, ← d1 k]
          simp (disch := omega) only [sf_g, sf_b, sf_n, sf_c0, sf_c1, sf_c2, sf_c3, sf_c4, sf_c5, sf_c6, il_0, il_1, il_2, il_3, il_4, il_5, il_6, il_7, il_8, il_9, il_10, il_11, il_12, il_16, il_20, il_32, il_44, il_45, il_48, il_50, il_57, il_59, il_60, il_64, il_74, il_98, il_99, il_100, il_108, il_109, il_110, il_111, il_112, il_113, il_115, il_119, il_120, il_158, il_255, il_1106, il_2147483647, nI_add, nI_mul, nI_sub, nI_clamp, nI_inT, nI_eqP, nI_leP, nI_ltP, nI_neP, nI_nnP, nI_nlP, nI_nltP, nI_nleP, nI_div, nI_subneg, nI_if, if_true, if_false, ite_true, ite_false, ↓reduceIte, nI_spos, nI_szero, Nat.add_zero, sf_t1, sf_c7, sf_c8, sf_c9, n1_0, n4_0, n4_1, hni, n1, hbe, c]
        · rw [f_X12_passesOne_L84, ← d2 k]
          rw [show i + 1 - f = i - f + 1 by omega]
          simp (disch := omega) only [sf_g, sf_b, sf_n, sf_c0, sf_c1, sf_c2, sf_c3, sf_c4, sf_c5, sf_c6, il_0, il_1, il_2, il_3, il_4, il_5, il_6, il_7, il_8, il_9, il_10, il_11, il_12, il_16, il_20, il_32, il_44, il_45, il_48, il_50, il_57, il_59, il_60, il_64, il_74, il_98, il_99, il_100, il_108, il_109, il_110, il_111, il_112, il_113, il_115, il_119, il_120, il_158, il_255, il_1106, il_2147483647, nI_add, nI_mul, nI_sub, nI_clamp, nI_inT, nI_eqP, nI_leP, nI_ltP, nI_neP, nI_nnP, nI_nlP, nI_nltP, nI_nleP, nI_div, nI_subneg, nI_if, if_true, if_false, ite_true, ite_false, ↓reduceIte, nI_spos, nI_szero, Nat.add_zero, sf_t1, sf_c7, sf_c8, sf_c9, n1_0, n4_0, n4_1, h0, hn2, hen, c2]
      · have c2 : zE M (i - f) = M 3 := by omega
        obtain ⟨ot1, op1, os1, sw1, gp1, gr1, bc1, bg1, bs1, bt1, be1, fc1, fg1, fs1, fm1, c3, c4⟩ := of_fin hV hr hb
        have hS := hV.2.1 _ hVB.2.1
        obtain ⟨ms1, c5, c6⟩ := fm_fin hm hV.1.2.2.1 hb (by have := hV.1.2.1; omega) hEb.2.1 hS.2.2.2.2 hS.2.2.2.1 (V_open hV hb) hV.1.2.2.2.1
        obtain ⟨w1, w2, w3, w4⟩ := V_fn hV hb
        obtain ⟨M', ms', f', ot', op', os', sw', gp', gr', bc', bg', bs', bt', be', fc', fg', fs', fm', d1, d2, d3, d4, d5, d6, d7⟩ := ih (i + 1) (f + 1) (zfn M (i - f)) ms1 ot1 op1 os1 sw1 gp1 gr1 bc1 bg1 bs1 bt1 be1 fc1 fg1 fs1 fm1 (by omega) (by omega) (by omega) (by omega) hn0 (by rw [w3, ← Nat.add_assoc]; exact w1) (fun k hk => by
          rw [w3, w4 k (by omega), if_pos (by omega)]
          exact hE k (by omega)) c6 c4
        refine ⟨M', ms', f', ot', op', os', sw', gp', gr', bc', bg', bs', bt', be', fc', fg', fs', fm', fun k => ?_, fun k => ?_, d3, d4, d5, d6, by omega⟩
        · rw [f_X8_finishBookings_L12, ← d1 k]
          simp (disch := omega) only [sf_g, sf_b, sf_n, sf_c0, sf_c1, sf_c2, sf_c3, sf_c4, sf_c5, sf_c6, il_0, il_1, il_2, il_3, il_4, il_5, il_6, il_7, il_8, il_9, il_10, il_11, il_12, il_16, il_20, il_32, il_44, il_45, il_48, il_50, il_57, il_59, il_60, il_64, il_74, il_98, il_99, il_100, il_108, il_109, il_110, il_111, il_112, il_113, il_115, il_119, il_120, il_158, il_255, il_1106, il_2147483647, nI_add, nI_mul, nI_sub, nI_clamp, nI_inT, nI_eqP, nI_leP, nI_ltP, nI_neP, nI_nnP, nI_nlP, nI_nltP, nI_nleP, nI_div, nI_subneg, nI_if, if_true, if_false, ite_true, ite_false, ↓reduceIte, nI_spos, nI_szero, Nat.add_zero, sf_t1, sf_c7, sf_c8, sf_c9, n1_0, n4_0, n4_1, sf_c15, hni, n1, hbe, c]
          rw [n1] at c3
          rw [c3]
        · rw [f_X12_passesOne_L84, ← d2 k]
          rw [show i + 1 - (f + 1) = i - f by omega]
          simp (disch := omega) only [sf_g, sf_b, sf_n, sf_c0, sf_c1, sf_c2, sf_c3, sf_c4, sf_c5, sf_c6, il_0, il_1, il_2, il_3, il_4, il_5, il_6, il_7, il_8, il_9, il_10, il_11, il_12, il_16, il_20, il_32, il_44, il_45, il_48, il_50, il_57, il_59, il_60, il_64, il_74, il_98, il_99, il_100, il_108, il_109, il_110, il_111, il_112, il_113, il_115, il_119, il_120, il_158, il_255, il_1106, il_2147483647, nI_add, nI_mul, nI_sub, nI_clamp, nI_inT, nI_eqP, nI_leP, nI_ltP, nI_neP, nI_nnP, nI_nlP, nI_nltP, nI_nleP, nI_div, nI_subneg, nI_if, if_true, if_false, ite_true, ite_false, ↓reduceIte, nI_spos, nI_szero, Nat.add_zero, sf_t1, sf_c7, sf_c8, sf_c9, n1_0, n4_0, n4_1, h0, hn2, hen, c2, c5]
    · have e : i = n0 := by omega
      have hV' : VP M U (r0 + f) (M 3 + 1) := by
        obtain ⟨x1, x2, x3, x4, x5, x6, x7, x8⟩ := hV
        refine ⟨x1, x2, x3, x4, fun k hk => ?_, x6, x7, x8⟩
        obtain ⟨y1, y2, y3, y4⟩ := x5 k hk
        exact ⟨y1, y2, y3, hE k (by omega)⟩
      have hn2 : M 2 ≤ i - f := by omega
      refine ⟨M, ms, f, ot, op, os, sw, gp, gr, bc, bg, bs, bt, be, fc, fg, fs, fm, fun k => ?_, fun k => ?_, hV', by omega, hm, hr, rfl⟩
      · rw [f_X8_finishBookings_L12]
        simp (disch := omega) only [sf_g, sf_b, sf_n, sf_c0, sf_c1, sf_c2, sf_c3, sf_c4, sf_c5, sf_c6, il_0, il_1, il_2, il_3, il_4, il_5, il_6, il_7, il_8, il_9, il_10, il_11, il_12, il_16, il_20, il_32, il_44, il_45, il_48, il_50, il_57, il_59, il_60, il_64, il_74, il_98, il_99, il_100, il_108, il_109, il_110, il_111, il_112, il_113, il_115, il_119, il_120, il_158, il_255, il_1106, il_2147483647, nI_add, nI_mul, nI_sub, nI_clamp, nI_inT, nI_eqP, nI_leP, nI_ltP, nI_neP, nI_nnP, nI_nlP, nI_nltP, nI_nleP, nI_div, nI_subneg, nI_if, if_true, if_false, ite_true, ite_false, ↓reduceIte, nI_spos, nI_szero, Nat.add_zero, sf_t1, sf_c7, sf_c8, sf_c9, n1_0, n4_0, n4_1, z]
      · rw [f_X12_passesOne_L84]
        simp (disch := omega) only [sf_g, sf_b, sf_n, sf_c0, sf_c1, sf_c2, sf_c3, sf_c4, sf_c5, sf_c6, il_0, il_1, il_2, il_3, il_4, il_5, il_6, il_7, il_8, il_9, il_10, il_11, il_12, il_16, il_20, il_32, il_44, il_45, il_48, il_50, il_57, il_59, il_60, il_64, il_74, il_98, il_99, il_100, il_108, il_109, il_110, il_111, il_112, il_113, il_115, il_119, il_120, il_158, il_255, il_1106, il_2147483647, nI_add, nI_mul, nI_sub, nI_clamp, nI_inT, nI_eqP, nI_leP, nI_ltP, nI_neP, nI_nnP, nI_nlP, nI_nltP, nI_nleP, nI_div, nI_subneg, nI_if, if_true, if_false, ite_true, ite_false, ↓reduceIte, nI_spos, nI_szero, Nat.add_zero, sf_t1, sf_c7, sf_c8, sf_c9, n1_0, n4_0, n4_1, h0, hn2]
end MIN4
section MIN5
variable {M : Nat → Nat} {ms : Nat → Int32} {U : Nat} {on ot op os sc gc bc fc : Int32} {sd sp sw gp gr bg bs bt be ql qg fg fs fm : Nat → Int32}
def VW (M : Nat → Nat) (U : Nat) : Prop := VP M U (12 * M 3) (M 3 + 1)
theorem sim_minute (hV : VW M U) (hU : U + 1 ≤ 4000000) (hm : MR M ms) (hr : RO M on ot op os sc sd sp sw gc gp gr bc bg bs bt be ql qg fc fg fs fm) (mt : Int32) : ∃ M' ms' c on' ot' op' os' sw' gp' gr' bc' bg' bs' bt' be' ql' qg' fc' fg' fs' fm', f_X8_passOneMinute on ot op os sc sd sp sw gp gr bc bg bs bt be ql qg fc fg fs fm = some (nI c, on', ot', op', os', sw', gp', gr', bc', bg', bs', bt', be', ql', qg', fc', fg', fs', fm') ∧ f_X12_passesOne ms mt = some (nI c, ms', mt) ∧ VW M' (U + 1) ∧ c ≤ 12 ∧ MR M' ms' ∧ RO M' on' ot' op' os' sc sd sp sw' gc gp' gr' bc' bg' bs' bt' be' ql' qg' fc' fg' fs' fm' := by
  obtain ⟨M1, ms1, ot1, gp1, bc1, bg1, bs1, bt1, be1, ql1, qg1, c1, c2, c3, c4, c5, c6, c7⟩ := sim_calls (r := 12 * M 3) mt 2000 0 M ms ot gp bc bg bs bt be ql qg (Nat.zero_le _) (by have := hV.1.1; omega) hV hm hr
  have hT : VP (ztk M1) (U + 1) (12 * M 3) (M1 3 + 1) := by
    rcases V_tk c3 with x | x
    · exact x
    · omega
  have n1 := c5.1.1
  have hm2 : MR (ztk M1) (upd ms1 3 (nI (M1 3 + 1))) := c4.upd _ _
  have hr2 := of_tick c3 c5
  have e1 : on + 1 = nI (M1 3 + 1) := by rw [n1, il_1, nI_add]
  rw [e1] at hr2
  have t3 : ztk M1 3 = M1 3 + 1 := tk_3
  have t2 : ztk M1 2 = M1 2 := tk_2
  have t0 : ztk M1 0 = M1 0 := tk_0
  have hv0 := c3.1.1
  have hv2 := c3.1.2.2.1
  obtain ⟨M2, ms2, sw2, d1, d2, d3, d4, d5, d6, d7⟩ := sim_dry (n := M1 3) 2000 0 (ztk M1) _ sw (Nat.zero_le _) (by omega) t3 (by rw [t3]; exact hT) hm2 hr2
  have b0 := d5.2.2.2.1.1
  have b01 := c5.2.2.2.1.1
  have hb2 : bc1 = nI (M2 2) := b0
  obtain ⟨M', ms', f, ot3, op3, os3, sw3, gp3, gr3, bc3, bg3, bs3, bt3, be3, fc3, fg3, fs3, fm3, g1, g2, g3, g4, g5, g6, g7⟩ := sim_fins (U := U + 1) (r0 := 12 * M 3) (n0 := M2 2) 2000 0 0 M2 ms2 ot1 op os sw2 gp1 gr bc1 bg1 bs1 bt1 be1 fc fg fs fm (Nat.zero_le _) (by have := d3.1.2.2.1; omega) (Nat.le_refl 0) rfl d3.1.2.2.1 d3 (fun k hk => absurd hk (Nat.not_lt_zero k)) d4 d5
  rw [← hb2] at g1
  have hfin : f_X8_finishBookings (nI (M1 3 + 1)) ot1 op os sp sw2 gp1 gr bc1 bg1 bs1 bt1 be1 fc fg fs fm = some (nI f, ot3, op3, os3, sw3, gp3, gr3, bc3, bg3, bs3, bt3, be3, fc3, fg3, fs3, fm3) := g1 _
  have m3 : M' 3 = M 3 + 1 := by omega
  refine ⟨M', ms', f, nI (M1 3 + 1), ot3, op3, os3, sw3, gp3, gr3, bc3, bg3, bs3, bt3, be3, ql1, qg1, fc3, fg3, fs3, fm3, ?_, ?_, ?_, g4, g5, g6⟩
  · rw [f_X8_passOneMinute]
    rw [show f_X8_passOneMinute_L2 on sc sd sp _ 2000 0 ot gp bc bg bs bt be ql qg = _ from c1 _]
    simp only [sf_n, e1]
    have d1' := d1 (fun z_37 => sf_c16 (f_X8_finishBookings (nI (M1 3 + 1)) ot1 op os sp z_37 gp1 gr bc1 bg1 bs1 bt1 be1 fc fg fs fm) (fun r_38 x_39 x_40 x_41 a_42 a_43 a_44 x_45 a_46 a_47 a_48 a_49 x_50 a_51 a_52 a_53 => some (r_38, nI (M1 3 + 1), x_39, x_40, x_41, a_42, a_43, a_44, x_45, a_46, a_47, a_48, a_49, ql1, qg1, x_50, a_51, a_52, a_53)))
    rw [← n1] at d1'
    refine Eq.trans d1' ?_
    rw [hfin]
    rfl
  · rw [f_X12_passesOne]
    rw [show f_X12_passesOne_L2 _ 2000 0 mt ms = _ from c2 _]
    have h3 : ms1 3 = nI (M1 3) := c4 3 (by omega)
    have d2' := d2 (fun z_17 => f_X12_passesOne_L84 (fun y_27 z_28 => some (y_27, z_28, mt)) 2000 0 0 z_17)
    simp (disch := omega) only [sf_g, sf_n, il_3, il_1, nI_inT, nI_clamp, h3, nI_add, if_true]
    refine Eq.trans d2' ?_
    exact g2 (fun y_27 z_28 => some (y_27, z_28, mt))
  · unfold VW
    rw [m3]
    rw [g7, d7, t3, c7] at g3
    obtain ⟨x1, x2, x3, x4, x5, x6, x7, x8⟩ := g3
    exact ⟨x1, x2, fun g hg => Nat.le_trans (x3 g hg) (by omega), x4, x5, x6, x7, x8⟩
end MIN5
section MIN6
variable {sc gc : Int32} {sd sp : Nat → Int32}
theorem sim_waits {n : Nat} (hn : n ≤ 60) (mt : Int32) : ∀ (m j : Nat) (M : Nat → Nat) (ms : Nat → Int32) (U c : Nat) (on : Int32) (ot : Int32) (op : Int32) (os : Int32) (sw : Nat → Int32) (gp : Nat → Int32) (gr : Nat → Int32) (bc : Int32) (bg : Nat → Int32) (bs : Nat → Int32) (bt : Nat → Int32) (be : Nat → Int32) (ql : Nat → Int32) (qg : Nat → Int32) (fc : Int32) (fg : Nat → Int32) (fs : Nat → Int32) (fm : Nat → Int32), j ≤ n → n - j < m → VW M U → U + (n - j) ≤ 4000000 → c ≤ 12 * j → MR M ms → RO M on ot op os sc sd sp sw gc gp gr bc bg bs bt be ql qg fc fg fs fm → ∃ M' ms' c' on' ot' op' os' sw' gp' gr' bc' bg' bs' bt' be' ql' qg' fc' fg' fs' fm', (∀ k, f_X8_tryWait_L18 sc sd sp (nI n) k m (nI j) (nI c) on ot op os sw gp gr bc bg bs bt be ql qg fc fg fs fm = k (nI c') on' ot' op' os' sw' gp' gr' bc' bg' bs' bt' be' ql' qg' fc' fg' fs' fm') ∧ (∀ k, f_X12_doPass_L20 (nI n) k m (nI j) (nI c) mt ms = k (nI c') mt ms') ∧ VW M' (U + (n - j)) ∧ c' ≤ 720 ∧ MR M' ms' ∧ RO M' on' ot' op' os' sc sd sp sw' gc gp' gr' bc' bg' bs' bt' be' ql' qg' fc' fg' fs' fm' := by
  intro m
  induction m with
  | zero => intro j M ms U c on ot op os sw gp gr bc bg bs bt be ql qg fc fg fs fm hj hm2; omega
  | succ m ih =>
    intro j M ms U c on ot op os sw gp gr bc bg bs bt be ql qg fc fg fs fm hj hm2 hV hU hc hm hr
    rcases Nat.lt_or_ge j n with z | z
    · have hnj : ¬ n ≤ j := by omega
      obtain ⟨M1, ms1, c1, on1, ot1, op1, os1, sw1, gp1, gr1, bc1, bg1, bs1, bt1, be1, ql1, qg1, fc1, fg1, fs1, fm1, d1, d2, d3, d4, d5, d6⟩ := sim_minute hV (by omega) hm hr mt
      obtain ⟨M', ms', c', on', ot', op', os', sw', gp', gr', bc', bg', bs', bt', be', ql', qg', fc', fg', fs', fm', e1, e2, e3, e4, e5, e6⟩ := ih (j + 1) M1 ms1 (U + 1) (c + c1) on1 ot1 op1 os1 sw1 gp1 gr1 bc1 bg1 bs1 bt1 be1 ql1 qg1 fc1 fg1 fs1 fm1 (by omega) (by omega) d3 (by omega) (by omega) d5 d6
      refine ⟨M', ms', c', on', ot', op', os', sw', gp', gr', bc', bg', bs', bt', be', ql', qg', fc', fg', fs', fm', fun k => ?_, fun k => ?_, ?_, e4, e5, e6⟩
      · rw [f_X8_tryWait_L18, ← e1 k, d1]
        simp (disch := omega) only [sf_g, sf_b, sf_n, sf_c0, sf_c1, sf_c2, sf_c3, sf_c4, sf_c5, sf_c6, il_0, il_1, il_2, il_3, il_4, il_5, il_6, il_7, il_8, il_9, il_10, il_11, il_12, il_16, il_20, il_32, il_44, il_45, il_48, il_50, il_57, il_59, il_60, il_64, il_74, il_98, il_99, il_100, il_108, il_109, il_110, il_111, il_112, il_113, il_115, il_119, il_120, il_158, il_255, il_1106, il_2147483647, nI_add, nI_mul, nI_sub, nI_clamp, nI_inT, nI_eqP, nI_leP, nI_ltP, nI_neP, nI_nnP, nI_nlP, nI_nltP, nI_nleP, nI_div, nI_subneg, nI_if, if_true, if_false, ite_true, ite_false, ↓reduceIte, nI_spos, nI_szero, Nat.add_zero, sf_t1, sf_c7, sf_c8, sf_c9, n1_0, n4_0, n4_1, sf_c19, hnj]
      · rw [f_X12_doPass_L20, ← e2 k, d2]
        simp (disch := omega) only [sf_g, sf_b, sf_n, sf_c0, sf_c1, sf_c2, sf_c3, sf_c4, sf_c5, sf_c6, il_0, il_1, il_2, il_3, il_4, il_5, il_6, il_7, il_8, il_9, il_10, il_11, il_12, il_16, il_20, il_32, il_44, il_45, il_48, il_50, il_57, il_59, il_60, il_64, il_74, il_98, il_99, il_100, il_108, il_109, il_110, il_111, il_112, il_113, il_115, il_119, il_120, il_158, il_255, il_1106, il_2147483647, nI_add, nI_mul, nI_sub, nI_clamp, nI_inT, nI_eqP, nI_leP, nI_ltP, nI_neP, nI_nnP, nI_nlP, nI_nltP, nI_nleP, nI_div, nI_subneg, nI_if, if_true, if_false, ite_true, ite_false, ↓reduceIte, nI_spos, nI_szero, Nat.add_zero, sf_t1, sf_c7, sf_c8, sf_c9, n1_0, n4_0, n4_1, hnj]
      · rw [show U + (n - j) = U + 1 + (n - (j + 1)) by omega]; exact e3
    · have e : j = n := by omega
      refine ⟨M, ms, c, on, ot, op, os, sw, gp, gr, bc, bg, bs, bt, be, ql, qg, fc, fg, fs, fm, fun k => ?_, fun k => ?_, ?_, by omega, hm, hr⟩
      · rw [f_X8_tryWait_L18]
        simp (disch := omega) only [sf_g, sf_b, sf_n, sf_c0, sf_c1, sf_c2, sf_c3, sf_c4, sf_c5, sf_c6, il_0, il_1, il_2, il_3, il_4, il_5, il_6, il_7, il_8, il_9, il_10, il_11, il_12, il_16, il_20, il_32, il_44, il_45, il_48, il_50, il_57, il_59, il_60, il_64, il_74, il_98, il_99, il_100, il_108, il_109, il_110, il_111, il_112, il_113, il_115, il_119, il_120, il_158, il_255, il_1106, il_2147483647, nI_add, nI_mul, nI_sub, nI_clamp, nI_inT, nI_eqP, nI_leP, nI_ltP, nI_neP, nI_nnP, nI_nlP, nI_nltP, nI_nleP, nI_div, nI_subneg, nI_if, if_true, if_false, ite_true, ite_false, ↓reduceIte, nI_spos, nI_szero, Nat.add_zero, sf_t1, sf_c7, sf_c8, sf_c9, n1_0, n4_0, n4_1, z]
      · rw [f_X12_doPass_L20]
        simp (disch := omega) only [sf_g, sf_b, sf_n, sf_c0, sf_c1, sf_c2, sf_c3, sf_c4, sf_c5, sf_c6, il_0, il_1, il_2, il_3, il_4, il_5, il_6, il_7, il_8, il_9, il_10, il_11, il_12, il_16, il_20, il_32, il_44, il_45, il_48, il_50, il_57, il_59, il_60, il_64, il_74, il_98, il_99, il_100, il_108, il_109, il_110, il_111, il_112, il_113, il_115, il_119, il_120, il_158, il_255, il_1106, il_2147483647, nI_add, nI_mul, nI_sub, nI_clamp, nI_inT, nI_eqP, nI_leP, nI_ltP, nI_neP, nI_nnP, nI_nlP, nI_nltP, nI_nleP, nI_div, nI_subneg, nI_if, if_true, if_false, ite_true, ite_false, ↓reduceIte, nI_spos, nI_szero, Nat.add_zero, sf_t1, sf_c7, sf_c8, sf_c9, n1_0, n4_0, n4_1, z]
      · rw [show U + (n - j) = U by omega]; exact hV
end MIN6
