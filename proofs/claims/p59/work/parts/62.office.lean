/-! the office: what its methods make of its rows -/
def RO (M : Nat → Nat) (on ot op os sc : Int32) (sd sp sw : Nat → Int32) (gc : Int32) (gp gr : Nat → Int32) (bc : Int32) (bg bs bt be ql qg : Nat → Int32) (fc : Int32) (fg fs fm : Nat → Int32) : Prop := ON M on ot op os ∧ OS M sc sd sp sw ∧ OG M gc gp gr ∧ OB M bc bg bs bt be ∧ OQ M ql qg ∧ OF M fc fg fs fm
section OFF2
variable {M : Nat → Nat} {U r e : Nat} {on ot op os sc gc bc fc : Int32} {sd sp sw gp gr bg bs bt be ql qg fg fs fm : Nat → Int32}
theorem of_sell (h : VP M U r e) (hr : RO M on ot op os sc sd sp sw gc gp gr bc bg bs bt be ql qg fc fg fs fm) {g s t : Nat} (hg : g < M 1) (hs : s < M 0) (hn : M 2 < 12) (hp : zP M s ≤ zC M g) : ∃ ot' gp' bc' bg' bs' bt' be', f_X8_sellBooking ot sd sp gp bc bg bs bt be (nI g) (nI s) (nI t) = some (nI (M 2), ot', gp', bc', bg', bs', bt', be') ∧ RO (zmk M g s t) on ot' op os sc sd sp sw gc gp' gr bc' bg' bs' bt' be' ql qg fc fg fs fm := by
  obtain ⟨⟨v0, v1, v2, v4, v3, vU⟩, hS, hR, hVQ, hVB, hD, hVF, hC⟩ := h
  obtain ⟨⟨n1, n2, n3, n4⟩, oS, oG, oB, oQ, oF⟩ := hr
  have hg' : g < 10 := by omega
  have hs' : s < 4 := by omega
  obtain ⟨s1, s2, s3⟩ := oS.2 s hs
  obtain ⟨g1, g2⟩ := oG.2 g hg
  have b0 := oB.1
  refine ⟨nI (M 7 + zP M s), upd gp g (nI (zC M g - zP M s)), nI (M 2 + 1), upd bg (M 2) (nI g), upd bs (M 2) (nI s), upd bt (M 2) (nI t), upd be (M 2) (nI (t + zD M s)), ?_, ⟨?_, ⟨?_, ?_⟩, ⟨?_, ?_⟩, ⟨?_, ?_⟩, ?_, ?_⟩⟩
  · simp (disch := omega) only [sf_g, sf_b, sf_n, sf_c0, sf_c1, sf_c2, sf_c3, sf_c4, sf_c5, sf_c6, il_0, il_1, il_2, il_3, il_4, il_5, il_6, il_7, il_8, il_9, il_10, il_11, il_12, il_16, il_20, il_32, il_44, il_45, il_48, il_50, il_57, il_59, il_60, il_64, il_74, il_98, il_99, il_100, il_108, il_109, il_110, il_111, il_112, il_113, il_115, il_119, il_120, il_158, il_255, il_1106, il_2147483647, nI_add, nI_mul, nI_sub, nI_clamp, nI_inT, nI_eqP, nI_leP, nI_ltP, nI_neP, nI_nnP, nI_nlP, nI_nltP, nI_nleP, nI_div, nI_subneg, nI_if, if_true, if_false, ite_true, ite_false, ↓reduceIte, nI_spos, nI_szero, Nat.add_zero, sf_t1, sf_c7, sf_c8, sf_c9, n1_0, n4_0, n4_1, f_X8_sellBooking, f_X8_endFrom, f_X1_append, s1, s2, g1, n2, b0, Nat.add_sub_cancel]
  · exact ⟨by rw [mk_3 hn hg' hs']; exact n1, by rw [mk_7 hn hg' hs'], by rw [mk_6 hn hg' hs']; exact n3, by rw [mk_5 hn hg' hs']; exact n4⟩
  · exact (OS_c oS v0 (mk_0 hn hg' hs') (fun x hx => mk_zD hn hg' hs' hx) (fun x hx => mk_zP hn hg' hs' hx) (fun x hx => mk_zW hn hg' hs' hx)).1
  · exact (OS_c oS v0 (mk_0 hn hg' hs') (fun x hx => mk_zD hn hg' hs' hx) (fun x hx => mk_zP hn hg' hs' hx) (fun x hx => mk_zW hn hg' hs' hx)).2
  · rw [mk_1 hn hg' hs']; exact oG.1
  · intro k hk
    rw [mk_1 hn hg' hs'] at hk
    have h1 := oG.2 k hk
    rw [mk_zR hn hg' hs' (by omega)]
    refine ⟨?_, h1.2⟩
    rcases Nat.decEq k g with z | z
    · rw [upd_neP z, mk_zCo hn hg' hs' (by omega) z]; exact h1.1
    · rw [upd_eqP z, z, mk_zCn hn hg' hs']
  · rw [mk_2 hn hg' hs']
  · intro k hk
    rw [mk_2 hn hg' hs'] at hk
    rcases Nat.lt_or_ge k (M 2) with z | z
    · rw [upd_neP (by omega), upd_neP (by omega), upd_neP (by omega), upd_neP (by omega), zE, mk_zGo hn hg' hs' (by omega) (by omega), mk_zSo hn hg' hs' (by omega) (by omega), mk_zTo hn hg' hs' (by omega) (by omega), mk_zD hn hg' hs' (by have := (hVB k z).2.1; omega)]
      exact oB.2 k z
    · have z2 : k = M 2 := by omega
      rw [upd_eqP z2, upd_eqP z2, upd_eqP z2, upd_eqP z2, z2, zE, mk_zGn hn hg' hs', mk_zSn hn hg' hs', mk_zTn hn hg' hs', mk_zD hn hg' hs' hs']
      exact ⟨rfl, rfl, rfl, rfl⟩
  · exact OQ_c oQ (fun k hk => (hVQ.1 k hk).1) (fun x hx => mk_zQ hn hg' hs' hx) (fun x y hx hy => mk_zq hn hg' hs' hx hy)
  · exact OF_c oF v4 (mk_4 hn hg' hs') (fun x hx => mk_zFG hn hg' hs' hx) (fun x hx => mk_zFS hn hg' hs' hx) (fun x hx => mk_zFM hn hg' hs' hx)
/-- a booking less, in the office's rows -/
theorem OB_drop {M' : Nat → Nat} {b : Nat} (hn : M 2 ≤ 12) (hb : b < M 2) (oB : OB M bc bg bs bt be) (e2 : M' 2 = M 2 - 1) (hall : ∀ x, x < M 2 - 1 → zG M' x = zG M (if x < b then x else x + 1) ∧ zS M' x = zS M (if x < b then x else x + 1) ∧ zT M' x = zT M (if x < b then x else x + 1) ∧ zE M' x = zE M (if x < b then x else x + 1)) : OB M' (nI (M 2 - 1)) (zsh bg b (M 2)) (zsh bs b (M 2)) (zsh bt b (M 2)) (zsh be b (M 2)) := by
  refine ⟨by rw [e2], fun k hk => ?_⟩
  rw [e2] at hk
  obtain ⟨a1, a2, a3, a4⟩ := hall k hk
  rw [a1, a2, a3, a4]
  rcases Nat.lt_or_ge k b with z | z
  · rw [if_pos z, zsh, zsh, zsh, zsh, if_neg (by omega), if_neg (by omega), if_neg (by omega), if_neg (by omega)]
    exact oB.2 k (by omega)
  · rw [if_neg (by omega : ¬ k < b), zsh, zsh, zsh, zsh, if_pos (by omega), if_pos (by omega), if_pos (by omega), if_pos (by omega)]
    exact oB.2 (k + 1) (by omega)
theorem of_cancel (h : VP M U r e) (hr : RO M on ot op os sc sd sp sw gc gp gr bc bg bs bt be ql qg fc fg fs fm) {b : Nat} (hb : b < M 2) (ht : M 3 < zT M b) : ∃ ot' op' gp' bc' bg' bs' bt' be', f_X8_tryCancel on ot op sp gp bc bg bs bt be (nI b) = some (nI (zC M (zG M b) + zP M (zS M b)), ot', op', gp', bc', bg', bs', bt', be') ∧ RO (zcn M b) on ot' op' os sc sd sp sw gc gp' gr bc' bg' bs' bt' be' ql qg fc fg fs fm := by
  have ho := V_open h hb
  obtain ⟨⟨v0, v1, v2, v4, v3, vU⟩, hS, hR, hVQ, hVB, hD, hVF, hC⟩ := h
  obtain ⟨⟨n1, n2, n3, n4⟩, oS, oG, oB, oQ, oF⟩ := hr
  have hg : zG M b < 10 := by have := (hVB b hb).1; omega
  have hs : zS M b < 4 := by have := (hVB b hb).2.1; omega
  have hT := (hVB b hb).2.2.1
  obtain ⟨s1, s2, s3⟩ := oS.2 _ (hVB b hb).2.1
  obtain ⟨g1, g2⟩ := oG.2 _ (hVB b hb).1
  obtain ⟨b1, b2, b3, b4⟩ := oB.2 b hb
  have b0 := oB.1
  have hhas : f_X1_has (nI (M 2)) (nI b) = some (nI 1) := fh_1 (by omega) ⟨b, hb, rfl⟩
  have hrem := fb_rem (bg := bg) (bs := bs) (bt := bt) (be := be) v2 hb
  obtain ⟨B1, B2, B3, B4⟩ := VB_drop (M' := zcn M b) v2 hb v0 hVB hD (cn_0 v2 hb hg hs) (cn_1 v2 hb hg hs) (cn_2 v2 hb hg hs) (cn_3 v2 hb hg hs) (fun x hx => cn_zD v2 hb hg hs hx) (fun x hx => cn_zP v2 hb hg hs hx) (fun x hx => cn_zGl v2 hb hg hs hx) (fun x hx => cn_zSl v2 hb hg hs hx) (fun x hx => cn_zTl v2 hb hg hs hx) (fun x h1 h2 => cn_zGh v2 hb hg hs h1 h2) (fun x h1 h2 => cn_zSh v2 hb hg hs h1 h2) (fun x h1 h2 => cn_zTh v2 hb hg hs h1 h2)
  refine ⟨nI (M 7 - zP M (zS M b)), nI (M 6 + zP M (zS M b)), upd gp (zG M b) (nI (zC M (zG M b) + zP M (zS M b))), nI (M 2 - 1), zsh bg b (M 2), zsh bs b (M 2), zsh bt b (M 2), zsh be b (M 2), ?_, ⟨?_, ?_, ⟨?_, ?_⟩, ?_, ?_, ?_⟩⟩
  · simp (disch := omega) only [sf_g, sf_b, sf_n, sf_c0, sf_c1, sf_c2, sf_c3, sf_c4, sf_c5, sf_c6, il_0, il_1, il_2, il_3, il_4, il_5, il_6, il_7, il_8, il_9, il_10, il_11, il_12, il_16, il_20, il_32, il_44, il_45, il_48, il_50, il_57, il_59, il_60, il_64, il_74, il_98, il_99, il_100, il_108, il_109, il_110, il_111, il_112, il_113, il_115, il_119, il_120, il_158, il_255, il_1106, il_2147483647, nI_add, nI_mul, nI_sub, nI_clamp, nI_inT, nI_eqP, nI_leP, nI_ltP, nI_neP, nI_nnP, nI_nlP, nI_nltP, nI_nleP, nI_div, nI_subneg, nI_if, if_true, if_false, ite_true, ite_false, ↓reduceIte, nI_spos, nI_szero, Nat.add_zero, sf_t1, sf_c7, sf_c8, sf_c9, n1_0, n4_0, n4_1, f_X8_tryCancel, f_X8_payBack, b0, hhas, hrem, b1, b2, b3, n1, n2, n3, ht, s2, g1, upd_eqP]
  · exact ⟨by rw [cn_3 v2 hb hg hs]; exact n1, by rw [cn_7 v2 hb hg hs], by rw [cn_6 v2 hb hg hs], by rw [cn_5 v2 hb hg hs]; exact n4⟩
  · exact OS_c oS v0 (cn_0 v2 hb hg hs) (fun x hx => cn_zD v2 hb hg hs hx) (fun x hx => cn_zP v2 hb hg hs hx) (fun x hx => cn_zW v2 hb hg hs hx)
  · rw [cn_1 v2 hb hg hs]; exact oG.1
  · intro k hk
    rw [cn_1 v2 hb hg hs] at hk
    have h1 := oG.2 k hk
    rw [cn_zR v2 hb hg hs (by omega)]
    refine ⟨?_, h1.2⟩
    rcases Nat.decEq k (zG M b) with z | z
    · rw [upd_neP z, cn_zCo v2 hb hg hs (by omega) z]; exact h1.1
    · rw [upd_eqP z, z, cn_zCn v2 hb hg hs]
  · exact OB_drop v2 hb oB (cn_2 v2 hb hg hs) B4
  · exact OQ_c oQ (fun k hk => (hVQ.1 k hk).1) (fun x hx => cn_zQ v2 hb hg hs hx) (fun x y hx hy => cn_zq v2 hb hg hs hx hy)
  · exact OF_c oF v4 (cn_4 v2 hb hg hs) (fun x hx => cn_zFG v2 hb hg hs hx) (fun x hx => cn_zFS v2 hb hg hs hx) (fun x hx => cn_zFM v2 hb hg hs hx)
theorem of_build (h : VP M U r e) (hr : RO M on ot op os sc sd sp sw gc gp gr bc bg bs bt be ql qg fc fg fs fm) {d p : Nat} (hd : 1 ≤ d ∧ d ≤ 9) (hp : 1 ≤ p ∧ p ≤ 9) (hn : M 0 < 4) : ∃ sc' sd' sp' sw', f_X8_tryBuild sc sd sp sw (nI d) (nI p) = some (nI (M 0), sc', sd', sp', sw') ∧ RO (zbd M d p) on ot op os sc' sd' sp' sw' gc gp gr bc bg bs bt be ql qg fc fg fs fm := by
  obtain ⟨⟨v0, v1, v2, v4, v3, vU⟩, hS, hR, hVQ, hVB, hD, hVF, hC⟩ := h
  obtain ⟨⟨n1, n2, n3, n4⟩, oS, oG, oB, oQ, oF⟩ := hr
  have s0 := oS.1
  have d1 : ¬ d < 1 := by omega
  have d2 : ¬ 9 < d := by omega
  have p1 : ¬ p < 1 := by omega
  have p2 : p ≤ 9 := hp.2
  have q0 : zQ M (M 0) = 0 := (hVQ.1 (M 0) hn).2 (Nat.le_refl _)
  refine ⟨nI (M 0 + 1), upd sd (M 0) (nI d), upd sp (M 0) (nI p), upd sw (M 0) (nI 0), ?_, ⟨?_, ⟨?_, ?_⟩, ?_, ?_, ?_, ?_⟩⟩
  · simp (disch := omega) only [sf_g, sf_b, sf_n, sf_c0, sf_c1, sf_c2, sf_c3, sf_c4, sf_c5, sf_c6, il_0, il_1, il_2, il_3, il_4, il_5, il_6, il_7, il_8, il_9, il_10, il_11, il_12, il_16, il_20, il_32, il_44, il_45, il_48, il_50, il_57, il_59, il_60, il_64, il_74, il_98, il_99, il_100, il_108, il_109, il_110, il_111, il_112, il_113, il_115, il_119, il_120, il_158, il_255, il_1106, il_2147483647, nI_add, nI_mul, nI_sub, nI_clamp, nI_inT, nI_eqP, nI_leP, nI_ltP, nI_neP, nI_nnP, nI_nlP, nI_nltP, nI_nleP, nI_div, nI_subneg, nI_if, if_true, if_false, ite_true, ite_false, ↓reduceIte, nI_spos, nI_szero, Nat.add_zero, sf_t1, sf_c7, sf_c8, sf_c9, n1_0, n4_0, n4_1, f_X8_tryBuild, f_X10_append, s0, d1, d2, p1, p2, hn, Nat.add_sub_cancel]
  · exact ⟨by rw [bd_3 hn]; exact n1, by rw [bd_7 hn]; exact n2, by rw [bd_6 hn]; exact n3, by rw [bd_5 hn]; exact n4⟩
  · rw [bd_0 hn]
  · intro k hk
    rw [bd_0 hn] at hk
    rcases Nat.lt_or_ge k (M 0) with z | z
    · rw [upd_neP (by omega), upd_neP (by omega), upd_neP (by omega), bd_zDo hn (by omega) (by omega), bd_zPo hn (by omega) (by omega), bd_zWo hn (by omega) (by omega)]
      exact oS.2 k z
    · have z2 : k = M 0 := by omega
      rw [upd_eqP z2, upd_eqP z2, upd_eqP z2, z2, bd_zDn hn, bd_zPn hn, bd_zWn hn]
      exact ⟨rfl, rfl, rfl⟩
  · exact OG_c oG v1 (bd_1 hn) (fun x hx => bd_zC hn hx) (fun x hx => bd_zR hn hx)
  · exact OB_c oB v2 (bd_2 hn) (fun x hx => bd_zG hn hx) (fun x hx => bd_zS hn hx) (fun x hx => bd_zT hn hx) (fun x hx => bd_zDo hn (by have := (hVB x hx).2.1; omega) (by have := (hVB x hx).2.1; omega))
  · intro k hk
    have h1 := oQ k hk
    rcases Nat.decEq k (M 0) with z | z
    · rw [bd_zQo hn hk z]
      refine ⟨h1.1, fun j hj => ?_⟩
      have := (hVQ.1 k hk).1
      rw [bd_zqo hn hk (by omega) z]
      exact h1.2 j hj
    · rw [z, bd_zQn hn]
      rw [z, q0] at h1
      exact ⟨h1.1, fun j hj => absurd hj (Nat.not_lt_zero j)⟩
  · exact OF_c oF v4 (bd_4 hn) (fun x hx => bd_zFG hn hx) (fun x hx => bd_zFS hn hx) (fun x hx => bd_zFM hn hx)
theorem of_guest (h : VP M U r e) (hr : RO M on ot op os sc sd sp sw gc gp gr bc bg bs bt be ql qg fc fg fs fm) (hn : M 1 < 10) : ∃ gc' gp' gr', f_X8_tryGuest gc gp gr = some (nI (M 1), gc', gp', gr') ∧ RO (zgu M) on ot op os sc sd sp sw gc' gp' gr' bc bg bs bt be ql qg fc fg fs fm := by
  obtain ⟨⟨v0, v1, v2, v4, v3, vU⟩, hS, hR, hVQ, hVB, hD, hVF, hC⟩ := h
  obtain ⟨⟨n1, n2, n3, n4⟩, oS, oG, oB, oQ, oF⟩ := hr
  have s0 := oG.1
  refine ⟨nI (M 1 + 1), upd gp (M 1) (nI 50), upd gr (M 1) (nI 0), ?_, ⟨?_, ?_, ⟨?_, ?_⟩, ?_, ?_, ?_⟩⟩
  · simp (disch := omega) only [sf_g, sf_b, sf_n, sf_c0, sf_c1, sf_c2, sf_c3, sf_c4, sf_c5, sf_c6, il_0, il_1, il_2, il_3, il_4, il_5, il_6, il_7, il_8, il_9, il_10, il_11, il_12, il_16, il_20, il_32, il_44, il_45, il_48, il_50, il_57, il_59, il_60, il_64, il_74, il_98, il_99, il_100, il_108, il_109, il_110, il_111, il_112, il_113, il_115, il_119, il_120, il_158, il_255, il_1106, il_2147483647, nI_add, nI_mul, nI_sub, nI_clamp, nI_inT, nI_eqP, nI_leP, nI_ltP, nI_neP, nI_nnP, nI_nlP, nI_nltP, nI_nleP, nI_div, nI_subneg, nI_if, if_true, if_false, ite_true, ite_false, ↓reduceIte, nI_spos, nI_szero, Nat.add_zero, sf_t1, sf_c7, sf_c8, sf_c9, n1_0, n4_0, n4_1, f_X8_tryGuest, f_X6_append, s0, hn, Nat.add_sub_cancel]
  · exact ⟨by rw [gu_3 hn]; exact n1, by rw [gu_7 hn]; exact n2, by rw [gu_6 hn]; exact n3, by rw [gu_5 hn]; exact n4⟩
  · exact OS_c oS v0 (gu_0 hn) (fun x hx => gu_zD hn hx) (fun x hx => gu_zP hn hx) (fun x hx => gu_zW hn hx)
  · rw [gu_1 hn]
  · intro k hk
    rw [gu_1 hn] at hk
    rcases Nat.lt_or_ge k (M 1) with z | z
    · rw [upd_neP (by omega), upd_neP (by omega), gu_zCo hn (by omega) (by omega), gu_zRo hn (by omega) (by omega)]
      exact oG.2 k z
    · have z2 : k = M 1 := by omega
      rw [upd_eqP z2, upd_eqP z2, z2, gu_zCn hn, gu_zRn hn]
      exact ⟨rfl, rfl⟩
  · exact OB_c oB v2 (gu_2 hn) (fun x hx => gu_zG hn hx) (fun x hx => gu_zS hn hx) (fun x hx => gu_zT hn hx) (fun x hx => gu_zD hn (by have := (hVB x hx).2.1; omega))
  · exact OQ_c oQ (fun k hk => (hVQ.1 k hk).1) (fun x hx => gu_zQ hn hx) (fun x y hx hy => gu_zq hn hx hy)
  · exact OF_c oF v4 (gu_4 hn) (fun x hx => gu_zFG hn hx) (fun x hx => gu_zFS hn hx) (fun x hx => gu_zFM hn hx)
/-- where a guest waits, the office finds it -/
theorem of_so (h : VP M U r e) (oQ : OQ M ql qg) {g : Nat} (hg : g < M 1) : f_X9_slideOf ql qg (nI g) = some (if zV M g = 0 then -nI 1 else nI (zV M g - 1)) := by
  have hq := zHQ_of h oQ
  obtain ⟨⟨v0, v1, v2, v4, v3, vU⟩, hS, hR, hVQ, hVB, hD, hVF, hC⟩ := h
  refine fq_so hq (by omega) (fun s j hs hj hz => ?_) (fun hno => ?_)
  · have h1 := (hVQ.2.1 s hs j hj).2
    rw [hz] at h1
    rw [if_neg (by omega), h1, show s + 1 - 1 = s by omega]
  · rcases Nat.eq_zero_or_pos (zV M g) with z | z
    · rw [if_pos z]
    · have h2 := hVQ.2.2.2 g hg
      obtain ⟨j, h3, h4⟩ := h2.2 (by omega)
      exact absurd h4 (hno _ j (by omega) h3)
theorem of_leaveQ (h : VP M U r e) (hr : RO M on ot op os sc sd sp sw gc gp gr bc bg bs bt be ql qg fc fg fs fm) {g s p : Nat} (hs : s < 4) (hp : p < zQ M s) (hpg : zq M s p = g) : ∃ ql' qg', f_X9_remove ql qg (nI s) (nI g) = some (ql', qg') ∧ RO (zlv M s p g) on ot op os sc sd sp sw gc gp gr bc bg bs bt be ql' qg' fc fg fs fm := by
  have hq := zHQ_of h hr.2.2.2.2.1
  obtain ⟨⟨v0, v1, v2, v4, v3, vU⟩, hS, hR, hVQ, hVB, hD, hVF, hC⟩ := h
  obtain ⟨⟨n1, n2, n3, n4⟩, oS, oG, oB, oQ, oF⟩ := hr
  have hq5 := (hVQ.1 s hs).1
  have hgg := hVQ.2.1 s hs p hp
  rw [hpg] at hgg
  have hg' : g < 10 := by omega
  have hd : ∀ j, j < zQ M s → zq M s j = g → j = p := fun j hj e2 => by
    rcases Nat.lt_or_ge j p with z | z
    · exact absurd (by omega) (hVQ.2.2.1 s hs j p z hp)
    · rcases Nat.lt_or_ge p j with y | y
      · exact absurd (by omega) (hVQ.2.2.1 s hs p j y hj)
      · omega
  refine ⟨_, _, fq_rem hq (by omega) hs hp hpg hd, ⟨?_, ?_, ?_, ?_, ?_, ?_⟩⟩
  · exact ⟨by rw [qv_3 hg' hs hq5 hp]; exact n1, by rw [qv_7 hg' hs hq5 hp]; exact n2, by rw [qv_6 hg' hs hq5 hp]; exact n3, by rw [qv_5 hg' hs hq5 hp]; exact n4⟩
  · exact OS_c oS v0 (qv_0 hg' hs hq5 hp) (fun x hx => qv_zD hg' hs hq5 hp hx) (fun x hx => qv_zP hg' hs hq5 hp hx) (fun x hx => qv_zW hg' hs hq5 hp hx)
  · exact OG_c oG v1 (qv_1 hg' hs hq5 hp) (fun x hx => qv_zC hg' hs hq5 hp hx) (fun x hx => qv_zR hg' hs hq5 hp hx)
  · exact OB_c oB v2 (qv_2 hg' hs hq5 hp) (fun x hx => qv_zG hg' hs hq5 hp hx) (fun x hx => qv_zS hg' hs hq5 hp hx) (fun x hx => qv_zT hg' hs hq5 hp hx) (fun x hx => qv_zD hg' hs hq5 hp (by have := (hVB x hx).2.1; omega))
  · intro k hk
    have h1 := oQ k hk
    have h5 := (hVQ.1 k hk).1
    rcases Nat.decEq k s with z | z
    · rw [upd_neP z, qv_zQo hg' hs hq5 hp hk z]
      refine ⟨h1.1, fun j hj => ?_⟩
      rw [qv_zqo hg' hs hq5 hp hk (by omega) (Or.inl z), zsh, if_neg (by omega)]
      exact h1.2 j hj
    · rw [upd_eqP z, z, qv_zQn hg' hs hq5 hp]
      rw [z] at h1
      refine ⟨rfl, fun j hj => ?_⟩
      rcases Nat.lt_or_ge j p with y | y
      · rw [qv_zqo hg' hs hq5 hp hs (by omega) (Or.inr (Or.inl y)), zsh, if_neg (by omega)]
        exact h1.2 j (by omega)
      · rw [qv_zqh hg' hs hq5 hp y (by omega), zsh, if_pos (by omega), show s * 5 + j + 1 = s * 5 + (j + 1) by omega]
        exact h1.2 (j + 1) (by omega)
  · exact OF_c oF v4 (qv_4 hg' hs hq5 hp) (fun x hx => qv_zFG hg' hs hq5 hp hx) (fun x hx => qv_zFS hg' hs hq5 hp hx) (fun x hx => qv_zFM hg' hs hq5 hp hx)
theorem of_join (h : VP M U r e) (hr : RO M on ot op os sc sd sp sw gc gp gr bc bg bs bt be ql qg fc fg fs fm) {g s : Nat} (hg : g < M 1) (hs : s < M 0) (hv : zV M g = 0) (hq : zQ M s < 5) : ∃ ql' qg', f_X8_tryQueue sc gc ql qg (nI g) (nI s) = some (nI (zQ M s + 1), ql', qg') ∧ RO (zjn M g s) on ot op os sc sd sp sw gc gp gr bc bg bs bt be ql' qg' fc fg fs fm := by
  have hso := of_so h hr.2.2.2.2.1 hg
  obtain ⟨⟨v0, v1, v2, v4, v3, vU⟩, hS, hR, hVQ, hVB, hD, hVF, hC⟩ := h
  obtain ⟨⟨n1, n2, n3, n4⟩, oS, oG, oB, oQ, oF⟩ := hr
  have hg' : g < 10 := by omega
  have hs' : s < 4 := by omega
  have s0 := oS.1
  have g0 := oG.1
  have q0 := (oQ s hs').1
  have hh1 : f_X6_has (nI (M 1)) (nI g) = some (nI 1) := fh_1 (by omega) ⟨g, hg, rfl⟩
  have hh2 : f_X10_has (nI (M 0)) (nI s) = some (nI 1) := fh_1 (by omega) ⟨s, hs, rfl⟩
  rw [hv, if_pos rfl] at hso
  refine ⟨upd ql s (nI (zQ M s + 1)), upd qg (s * 5 + zQ M s) (nI g), ?_, ⟨?_, ?_, ?_, ?_, ?_, ?_⟩⟩
  · simp (disch := omega) only [sf_g, sf_b, sf_n, sf_c0, sf_c1, sf_c2, sf_c3, sf_c4, sf_c5, sf_c6, il_0, il_1, il_2, il_3, il_4, il_5, il_6, il_7, il_8, il_9, il_10, il_11, il_12, il_16, il_20, il_32, il_44, il_45, il_48, il_50, il_57, il_59, il_60, il_64, il_74, il_98, il_99, il_100, il_108, il_109, il_110, il_111, il_112, il_113, il_115, il_119, il_120, il_158, il_255, il_1106, il_2147483647, nI_add, nI_mul, nI_sub, nI_clamp, nI_inT, nI_eqP, nI_leP, nI_ltP, nI_neP, nI_nnP, nI_nlP, nI_nltP, nI_nleP, nI_div, nI_subneg, nI_if, if_true, if_false, ite_true, ite_false, ↓reduceIte, nI_spos, nI_szero, Nat.add_zero, sf_t1, sf_c7, sf_c8, sf_c9, n1_0, n4_0, n4_1, f_X8_tryQueue, f_X9_isFull, f_X9_append, s0, g0, hh1, hh2, hso, q0, hq, upd_eqP]
  · exact ⟨by rw [jn_3 hg' hs' hq]; exact n1, by rw [jn_7 hg' hs' hq]; exact n2, by rw [jn_6 hg' hs' hq]; exact n3, by rw [jn_5 hg' hs' hq]; exact n4⟩
  · exact OS_c oS v0 (jn_0 hg' hs' hq) (fun x hx => jn_zD hg' hs' hq hx) (fun x hx => jn_zP hg' hs' hq hx) (fun x hx => jn_zW hg' hs' hq hx)
  · exact OG_c oG v1 (jn_1 hg' hs' hq) (fun x hx => jn_zC hg' hs' hq hx) (fun x hx => jn_zR hg' hs' hq hx)
  · exact OB_c oB v2 (jn_2 hg' hs' hq) (fun x hx => jn_zG hg' hs' hq hx) (fun x hx => jn_zS hg' hs' hq hx) (fun x hx => jn_zT hg' hs' hq hx) (fun x hx => jn_zD hg' hs' hq (by have := (hVB x hx).2.1; omega))
  · intro k hk
    have h1 := oQ k hk
    have h5 := (hVQ.1 k hk).1
    rcases Nat.decEq k s with z | z
    · rw [upd_neP z, jn_zQo hg' hs' hq hk z]
      refine ⟨h1.1, fun j hj => ?_⟩
      rw [jn_zqo hg' hs' hq hk (by omega) (Or.inl z), upd_neP (by omega)]
      exact h1.2 j hj
    · rw [upd_eqP z, z, jn_zQn hg' hs' hq]
      rw [z] at h1
      refine ⟨rfl, fun j hj => ?_⟩
      rcases Nat.lt_or_ge j (zQ M s) with y | y
      · rw [jn_zqo hg' hs' hq hs' (by omega) (Or.inr (by omega)), upd_neP (by omega)]
        exact h1.2 j y
      · have : j = zQ M s := by omega
        rw [this, jn_zqn hg' hs' hq, upd_eqP rfl]
  · exact OF_c oF v4 (jn_4 hg' hs' hq) (fun x hx => jn_zFG hg' hs' hq hx) (fun x hx => jn_zFS hg' hs' hq hx) (fun x hx => jn_zFM hg' hs' hq hx)
theorem of_dry (h : VP M U r e) (hr : RO M on ot op os sc sd sp sw gc gp gr bc bg bs bt be ql qg fc fg fs fm) {s : Nat} (hs : s < M 0) : ∃ sw', f_X10_dry sw (nI s) = some sw' ∧ RO (zdy M s (zW M s - 1)) on ot op os sc sd sp sw' gc gp gr bc bg bs bt be ql qg fc fg fs fm := by
  obtain ⟨⟨v0, v1, v2, v4, v3, vU⟩, hS, hR, hVQ, hVB, hD, hVF, hC⟩ := h
  obtain ⟨⟨n1, n2, n3, n4⟩, oS, oG, oB, oQ, oF⟩ := hr
  have hs' : s < 4 := by omega
  obtain ⟨s1, s2, s3⟩ := oS.2 s hs
  have hw := hS s hs
  have hrest : ∀ sw', (∀ k, k < M 0 → sw' k = nI (zW (zdy M s (zW M s - 1)) k)) → RO (zdy M s (zW M s - 1)) on ot op os sc sd sp sw' gc gp gr bc bg bs bt be ql qg fc fg fs fm := fun sw' hsw => by
    refine ⟨⟨by rw [dy_3 hs']; exact n1, by rw [dy_7 hs']; exact n2, by rw [dy_6 hs']; exact n3, by rw [dy_5 hs']; exact n4⟩, ⟨by rw [dy_0 hs']; exact oS.1, fun k hk => ?_⟩, OG_c oG v1 (dy_1 hs') (fun x hx => dy_zC hs' hx) (fun x hx => dy_zR hs' hx), OB_c oB v2 (dy_2 hs') (fun x hx => dy_zG hs' hx) (fun x hx => dy_zS hs' hx) (fun x hx => dy_zT hs' hx) (fun x hx => dy_zD hs' (by have := (hVB x hx).2.1; omega)), OQ_c oQ (fun k hk => (hVQ.1 k hk).1) (fun x hx => dy_zQ hs' hx) (fun x y hx hy => dy_zq hs' hx hy), OF_c oF v4 (dy_4 hs') (fun x hx => dy_zFG hs' hx) (fun x hx => dy_zFS hs' hx) (fun x hx => dy_zFM hs' hx)⟩
    rw [dy_0 hs'] at hk
    have h1 := oS.2 k hk
    rw [dy_zD hs' (by omega), dy_zP hs' (by omega)]
    exact ⟨h1.1, h1.2.1, hsw k hk⟩
  rcases Nat.eq_zero_or_pos (zW M s) with z | z
  · refine ⟨sw, ?_, hrest sw (fun k hk => ?_)⟩
    · simp (disch := omega) only [sf_g, sf_b, sf_n, sf_c0, sf_c1, sf_c2, sf_c3, sf_c4, sf_c5, sf_c6, il_0, il_1, il_2, il_3, il_4, il_5, il_6, il_7, il_8, il_9, il_10, il_11, il_12, il_16, il_20, il_32, il_44, il_45, il_48, il_50, il_57, il_59, il_60, il_64, il_74, il_98, il_99, il_100, il_108, il_109, il_110, il_111, il_112, il_113, il_115, il_119, il_120, il_158, il_255, il_1106, il_2147483647, nI_add, nI_mul, nI_sub, nI_clamp, nI_inT, nI_eqP, nI_leP, nI_ltP, nI_neP, nI_nnP, nI_nlP, nI_nltP, nI_nleP, nI_div, nI_subneg, nI_if, if_true, if_false, ite_true, ite_false, ↓reduceIte, nI_spos, nI_szero, Nat.add_zero, sf_t1, sf_c7, sf_c8, sf_c9, n1_0, n4_0, n4_1, f_X10_dry, s3, z, Nat.le_refl]
    · rcases Nat.decEq k s with y | y
      · rw [dy_zWo hs' (by omega) y]; exact (oS.2 k hk).2.2
      · rw [y, dy_zWn hs', s3, z]
  · refine ⟨upd sw s (nI (zW M s - 1)), ?_, hrest _ (fun k hk => ?_)⟩
    · have z2 : ¬ zW M s ≤ 0 := by omega
      simp (disch := omega) only [sf_g, sf_b, sf_n, sf_c0, sf_c1, sf_c2, sf_c3, sf_c4, sf_c5, sf_c6, il_0, il_1, il_2, il_3, il_4, il_5, il_6, il_7, il_8, il_9, il_10, il_11, il_12, il_16, il_20, il_32, il_44, il_45, il_48, il_50, il_57, il_59, il_60, il_64, il_74, il_98, il_99, il_100, il_108, il_109, il_110, il_111, il_112, il_113, il_115, il_119, il_120, il_158, il_255, il_1106, il_2147483647, nI_add, nI_mul, nI_sub, nI_clamp, nI_inT, nI_eqP, nI_leP, nI_ltP, nI_neP, nI_nnP, nI_nlP, nI_nltP, nI_nleP, nI_div, nI_subneg, nI_if, if_true, if_false, ite_true, ite_false, ↓reduceIte, nI_spos, nI_szero, Nat.add_zero, sf_t1, sf_c7, sf_c8, sf_c9, n1_0, n4_0, n4_1, f_X10_dry, s3, z2]
    · rcases Nat.decEq k s with y | y
      · rw [upd_neP y, dy_zWo hs' (by omega) y]; exact (oS.2 k hk).2.2
      · rw [upd_eqP y, y, dy_zWn hs']
theorem of_tick (h : VP M U r e) (hr : RO M on ot op os sc sd sp sw gc gp gr bc bg bs bt be ql qg fc fg fs fm) : RO (ztk M) (on + 1) ot op os sc sd sp sw gc gp gr bc bg bs bt be ql qg fc fg fs fm := by
  obtain ⟨⟨v0, v1, v2, v4, v3, vU⟩, hS, hR, hVQ, hVB, hD, hVF, hC⟩ := h
  obtain ⟨⟨n1, n2, n3, n4⟩, oS, oG, oB, oQ, oF⟩ := hr
  exact ⟨⟨by rw [tk_3, n1, il_1, nI_add], by rw [tk_7]; exact n2, by rw [tk_6]; exact n3, by rw [tk_5]; exact n4⟩, OS_c oS v0 tk_0 (fun x hx => tk_zD hx) (fun x hx => tk_zP hx) (fun x hx => tk_zW hx), OG_c oG v1 tk_1 (fun x hx => tk_zC hx) (fun x hx => tk_zR hx), OB_c oB v2 tk_2 (fun x hx => tk_zG hx) (fun x hx => tk_zS hx) (fun x hx => tk_zT hx) (fun x hx => tk_zD (by have := (hVB x hx).2.1; omega)), OQ_c oQ (fun k hk => (hVQ.1 k hk).1) (fun x hx => tk_zQ hx) (fun x y hx hy => tk_zq hx hy), OF_c oF v4 tk_4 (fun x hx => tk_zFG hx) (fun x hx => tk_zFS hx) (fun x hx => tk_zFM hx)⟩
end OFF2
