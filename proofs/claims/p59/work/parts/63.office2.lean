/-! the office: a booking finishes -/
section OFF3
variable {M : Nat → Nat} {U r e : Nat} {on ot op os sc gc bc fc : Int32} {sd sp sw gp gr bg bs bt be ql qg fg fs fm : Nat → Int32}
theorem of_wet {s w : Nat} (hs : s < 4) (hw : w ≤ 9) (h : sw s = nI w) : f_X10_wet sw (nI s) = some (upd sw s (nI (zfw w))) := by
  have e : zfw w = if w + 2 ≤ 9 then w + 2 else 9 := by unfold zfw; split <;> split <;> omega
  rw [e]
  simp (disch := omega) only [sf_g, sf_b, sf_n, sf_c0, sf_c1, sf_c2, sf_c3, sf_c4, sf_c5, sf_c6, il_0, il_1, il_2, il_3, il_4, il_5, il_6, il_7, il_8, il_9, il_10, il_11, il_12, il_16, il_20, il_32, il_44, il_45, il_48, il_50, il_57, il_59, il_60, il_64, il_74, il_98, il_99, il_100, il_108, il_109, il_110, il_111, il_112, il_113, il_115, il_119, il_120, il_158, il_255, il_1106, il_2147483647, nI_add, nI_mul, nI_sub, nI_clamp, nI_inT, nI_eqP, nI_leP, nI_ltP, nI_neP, nI_nnP, nI_nlP, nI_nltP, nI_nleP, nI_div, nI_subneg, nI_if, if_true, if_false, ite_true, ite_false, ↓reduceIte, nI_spos, nI_szero, Nat.add_zero, sf_t1, sf_c7, sf_c8, sf_c9, n1_0, n4_0, n4_1, f_X10_wet, h]
  split <;> rfl
theorem OF_app {M' : Nat → Nat} {g s t : Nat} (oF : OF M fc fg fs fm) (hn : M 4 ≤ 16) (e4 : M' 4 = (if M 4 + 1 < 16 then M 4 + 1 else 16)) (hG0 : zFG M' 0 = g) (hS0 : zFS M' 0 = s) (hT0 : zFM M' 0 = t) (hG : ∀ x, x + 1 < 16 → zFG M' (x + 1) = zFG M x) (hS : ∀ x, x + 1 < 16 → zFS M' (x + 1) = zFS M x) (hT : ∀ x, x + 1 < 16 → zFM M' (x + 1) = zFM M x) : OF M' (nI (if M 4 < 16 then M 4 + 1 else 16)) (zap (M 4) fg (nI g)) (zap (M 4) fs (nI s)) (zap (M 4) fm (nI t)) := by
  have e4' : M' 4 = if M 4 < 16 then M 4 + 1 else 16 := by rw [e4]; split <;> split <;> omega
  refine ⟨by rw [e4'], fun k hk => ?_⟩
  rw [e4'] at hk ⊢
  rcases Nat.lt_or_ge (M 4) 16 with z | z
  · rw [if_pos z] at hk ⊢
    rw [zap, zap, zap, if_pos z, if_pos z, if_pos z]
    rcases Nat.lt_or_ge k (M 4) with y | y
    · rw [upd_neP (by omega), upd_neP (by omega), upd_neP (by omega), show M 4 + 1 - 1 - k = (M 4 - 1 - k) + 1 by omega, hG _ (by omega), hS _ (by omega), hT _ (by omega)]
      exact oF.2 k y
    · have : k = M 4 := by omega
      rw [upd_eqP this, upd_eqP this, upd_eqP this, show M 4 + 1 - 1 - k = 0 by omega, hG0, hS0, hT0]
      exact ⟨rfl, rfl, rfl⟩
  · have z2 : ¬ M 4 < 16 := by omega
    rw [if_neg z2] at hk ⊢
    rw [zap, zap, zap, if_neg z2, if_neg z2, if_neg z2]
    rcases Nat.lt_or_ge k 15 with y | y
    · rw [upd_neP (by omega), upd_neP (by omega), upd_neP (by omega), show 16 - 1 - k = (14 - k) + 1 by omega, hG _ (by omega), hS _ (by omega), hT _ (by omega), zsh, zsh, zsh, if_pos (by omega), if_pos (by omega), if_pos (by omega)]
      have h1 := oF.2 (k + 1) (by omega)
      rw [show M 4 - 1 - (k + 1) = 14 - k by omega] at h1
      exact h1
    · have : k = 15 := by omega
      rw [upd_eqP this, upd_eqP this, upd_eqP this, show 16 - 1 - k = 0 by omega, hG0, hS0, hT0]
      exact ⟨rfl, rfl, rfl⟩
theorem of_fa (h : VP M U r e) (hr : RO M on ot op os sc sd sp sw gc gp gr bc bg bs bt be ql qg fc fg fs fm) {b : Nat} (hb : b < M 2) (hw : zW M (zS M b) < 5) : ∃ ot' op' os' sw' gp' gr' bc' bg' bs' bt' be' fc' fg' fs' fm', f_X8_finishBooking on ot op os sp sw gp gr bc bg bs bt be fc fg fs fm (nI b) = some (ot', op', os', sw', gp', gr', bc', bg', bs', bt', be', fc', fg', fs', fm') ∧ RO (zfa M M b) on ot' op' os' sc sd sp sw' gc gp' gr' bc' bg' bs' bt' be' ql qg fc' fg' fs' fm' := by
  have ho := V_open h hb
  obtain ⟨⟨v0, v1, v2, v4, v3, vU⟩, hS, hR, hVQ, hVB, hD, hVF, hC⟩ := h
  obtain ⟨⟨n1, n2, n3, n4⟩, oS, oG, oB, oQ, oF⟩ := hr
  have hg : zG M b < 10 := by have := (hVB b hb).1; omega
  have hs : zS M b < 4 := by have := (hVB b hb).2.1; omega
  obtain ⟨s1, s2, s3⟩ := oS.2 _ (hVB b hb).2.1
  obtain ⟨g1, g2⟩ := oG.2 _ (hVB b hb).1
  obtain ⟨b1, b2, b3, b4⟩ := oB.2 b hb
  have b0 := oB.1
  have f0 := oF.1
  have hSs := hS _ (hVB b hb).2.1
  have hrem := fb_rem (bg := bg) (bs := bs) (bt := bt) (be := be) v2 hb
  have hwet := of_wet (sw := sw) hs hSs.2.2.2.2 s3
  have happ := ff_app (fg := fg) (fs := fs) (fm := fm) (g := nI (zG M b)) (s := nI (zS M b)) (t := nI (M 3)) v4
  obtain ⟨B1, B2, B3, B4⟩ := VB_drop (M' := zfa M M b) v2 hb v0 hVB hD (fa_0 v2 hb hg hs) (fa_1 v2 hb hg hs) (fa_2 v2 hb hg hs) (fa_3 v2 hb hg hs) (fun x hx => fa_zD v2 hb hg hs hx) (fun x hx => fa_zP v2 hb hg hs hx) (fun x hx => fa_zGl v2 hb hg hs hx) (fun x hx => fa_zSl v2 hb hg hs hx) (fun x hx => fa_zTl v2 hb hg hs hx) (fun x h1 h2 => fa_zGh v2 hb hg hs h1 h2) (fun x h1 h2 => fa_zSh v2 hb hg hs h1 h2) (fun x h1 h2 => fa_zTh v2 hb hg hs h1 h2)
  refine ⟨ot, op, os, upd sw (zS M b) (nI (zfw (zW M (zS M b)))), gp, upd gr (zG M b) (nI (zR M (zG M b) + 1)), nI (M 2 - 1), zsh bg b (M 2), zsh bs b (M 2), zsh bt b (M 2), zsh be b (M 2), nI (if M 4 < 16 then M 4 + 1 else 16), zap (M 4) fg (nI (zG M b)), zap (M 4) fs (nI (zS M b)), zap (M 4) fm (nI (M 3)), ?_, ⟨?_, ⟨?_, ?_⟩, ⟨?_, ?_⟩, ?_, ?_, ?_⟩⟩
  · have hdv : zP M (zS M b) / 2 ≤ M 7 := by omega
    simp (disch := omega) only [sf_g, sf_b, sf_n, sf_c0, sf_c1, sf_c2, sf_c3, sf_c4, sf_c5, sf_c6, il_0, il_1, il_2, il_3, il_4, il_5, il_6, il_7, il_8, il_9, il_10, il_11, il_12, il_16, il_20, il_32, il_44, il_45, il_48, il_50, il_57, il_59, il_60, il_64, il_74, il_98, il_99, il_100, il_108, il_109, il_110, il_111, il_112, il_113, il_115, il_119, il_120, il_158, il_255, il_1106, il_2147483647, nI_add, nI_mul, nI_sub, nI_clamp, nI_inT, nI_eqP, nI_leP, nI_ltP, nI_neP, nI_nnP, nI_nlP, nI_nltP, nI_nleP, nI_div, nI_subneg, nI_if, if_true, if_false, ite_true, ite_false, ↓reduceIte, nI_spos, nI_szero, Nat.add_zero, sf_t1, sf_c7, sf_c8, sf_c9, n1_0, n4_0, n4_1, sf_c15, f_X8_finishBooking, f_X8_payBack, b0, f0, b1, b2, s2, s3, g1, g2, n1, n2, n3, n4, hw, hwet, happ, hrem]
  · exact ⟨by rw [fa_3 v2 hb hg hs]; exact n1, by rw [fa_7 v2 hb hg hs]; exact n2, by rw [fa_6 v2 hb hg hs]; exact n3, by rw [fa_5 v2 hb hg hs]; exact n4⟩
  · rw [fa_0 v2 hb hg hs]; exact oS.1
  · intro k hk
    rw [fa_0 v2 hb hg hs] at hk
    have h1 := oS.2 k hk
    rw [fa_zD v2 hb hg hs (by omega), fa_zP v2 hb hg hs (by omega)]
    refine ⟨h1.1, h1.2.1, ?_⟩
    rcases Nat.decEq k (zS M b) with z | z
    · rw [upd_neP z, fa_zWo v2 hb hg hs (by omega) z]; exact h1.2.2
    · rw [upd_eqP z, z, fa_zWn v2 hb hg hs]
  · rw [fa_1 v2 hb hg hs]; exact oG.1
  · intro k hk
    rw [fa_1 v2 hb hg hs] at hk
    have h1 := oG.2 k hk
    rw [fa_zC v2 hb hg hs (by omega)]
    refine ⟨h1.1, ?_⟩
    rcases Nat.decEq k (zG M b) with z | z
    · rw [upd_neP z, fa_zRo v2 hb hg hs (by omega) z]; exact h1.2
    · rw [upd_eqP z, z, fa_zRn v2 hb hg hs]
  · exact OB_drop v2 hb oB (fa_2 v2 hb hg hs) B4
  · exact OQ_c oQ (fun k hk => (hVQ.1 k hk).1) (fun x hx => fa_zQ v2 hb hg hs hx) (fun x y hx hy => fa_zq v2 hb hg hs hx hy)
  · exact OF_app oF v4 (fa_4 v2 hb hg hs) (fa_zFG0 v2 hb hg hs) (fa_zFS0 v2 hb hg hs) (fa_zFM0 v2 hb hg hs) (fun x hx => fa_zFGs v2 hb hg hs hx) (fun x hx => fa_zFSs v2 hb hg hs hx) (fun x hx => fa_zFMs v2 hb hg hs hx)
theorem of_fb (h : VP M U r e) (hr : RO M on ot op os sc sd sp sw gc gp gr bc bg bs bt be ql qg fc fg fs fm) {b : Nat} (hb : b < M 2) (hw : ¬ zW M (zS M b) < 5) : ∃ ot' op' os' sw' gp' gr' bc' bg' bs' bt' be' fc' fg' fs' fm', f_X8_finishBooking on ot op os sp sw gp gr bc bg bs bt be fc fg fs fm (nI b) = some (ot', op', os', sw', gp', gr', bc', bg', bs', bt', be', fc', fg', fs', fm') ∧ RO (zfa M (zfs M b) b) on ot' op' os' sc sd sp sw' gc gp' gr' bc' bg' bs' bt' be' ql qg fc' fg' fs' fm' := by
  have ho := V_open h hb
  obtain ⟨⟨v0, v1, v2, v4, v3, vU⟩, hS, hR, hVQ, hVB, hD, hVF, hC⟩ := h
  obtain ⟨⟨n1, n2, n3, n4⟩, oS, oG, oB, oQ, oF⟩ := hr
  have hg : zG M b < 10 := by have := (hVB b hb).1; omega
  have hs : zS M b < 4 := by have := (hVB b hb).2.1; omega
  obtain ⟨s1, s2, s3⟩ := oS.2 _ (hVB b hb).2.1
  obtain ⟨g1, g2⟩ := oG.2 _ (hVB b hb).1
  obtain ⟨b1, b2, b3, b4⟩ := oB.2 b hb
  have b0 := oB.1
  have f0 := oF.1
  have hSs := hS _ (hVB b hb).2.1
  have hrem := fb_rem (bg := bg) (bs := bs) (bt := bt) (be := be) v2 hb
  have hwet := of_wet (sw := sw) hs hSs.2.2.2.2 s3
  have happ := ff_app (fg := fg) (fs := fs) (fm := fm) (g := nI (zG M b)) (s := nI (zS M b)) (t := nI (M 3)) v4
  obtain ⟨B1, B2, B3, B4⟩ := VB_drop (M' := zfa M (zfs M b) b) v2 hb v0 hVB hD (fb_0 v2 hb hg hs) (fb_1 v2 hb hg hs) (fb_2 v2 hb hg hs) (fb_3 v2 hb hg hs) (fun x hx => fb_zD v2 hb hg hs hx) (fun x hx => fb_zP v2 hb hg hs hx) (fun x hx => fb_zGl v2 hb hg hs hx) (fun x hx => fb_zSl v2 hb hg hs hx) (fun x hx => fb_zTl v2 hb hg hs hx) (fun x h1 h2 => fb_zGh v2 hb hg hs h1 h2) (fun x h1 h2 => fb_zSh v2 hb hg hs h1 h2) (fun x h1 h2 => fb_zTh v2 hb hg hs h1 h2)
  refine ⟨nI (M 7 - zP M (zS M b) / 2), nI (M 6 + zP M (zS M b) / 2), nI (M 5 + 1), upd sw (zS M b) (nI (zfw (zW M (zS M b)))), upd gp (zG M b) (nI (zC M (zG M b) + zP M (zS M b) / 2)), upd gr (zG M b) (nI (zR M (zG M b) + 1)), nI (M 2 - 1), zsh bg b (M 2), zsh bs b (M 2), zsh bt b (M 2), zsh be b (M 2), nI (if M 4 < 16 then M 4 + 1 else 16), zap (M 4) fg (nI (zG M b)), zap (M 4) fs (nI (zS M b)), zap (M 4) fm (nI (M 3)), ?_, ⟨?_, ⟨?_, ?_⟩, ⟨?_, ?_⟩, ?_, ?_, ?_⟩⟩
  · have hdv : zP M (zS M b) / 2 ≤ M 7 := by omega
    simp (disch := omega) only [sf_g, sf_b, sf_n, sf_c0, sf_c1, sf_c2, sf_c3, sf_c4, sf_c5, sf_c6, il_0, il_1, il_2, il_3, il_4, il_5, il_6, il_7, il_8, il_9, il_10, il_11, il_12, il_16, il_20, il_32, il_44, il_45, il_48, il_50, il_57, il_59, il_60, il_64, il_74, il_98, il_99, il_100, il_108, il_109, il_110, il_111, il_112, il_113, il_115, il_119, il_120, il_158, il_255, il_1106, il_2147483647, nI_add, nI_mul, nI_sub, nI_clamp, nI_inT, nI_eqP, nI_leP, nI_ltP, nI_neP, nI_nnP, nI_nlP, nI_nltP, nI_nleP, nI_div, nI_subneg, nI_if, if_true, if_false, ite_true, ite_false, ↓reduceIte, nI_spos, nI_szero, Nat.add_zero, sf_t1, sf_c7, sf_c8, sf_c9, n1_0, n4_0, n4_1, sf_c15, f_X8_finishBooking, f_X8_payBack, b0, f0, b1, b2, s2, s3, g1, g2, n1, n2, n3, n4, hw, hwet, happ, hrem]
  · exact ⟨by rw [fb_3 v2 hb hg hs]; exact n1, by rw [fb_7 v2 hb hg hs], by rw [fb_6 v2 hb hg hs], by rw [fb_5 v2 hb hg hs]⟩
  · rw [fb_0 v2 hb hg hs]; exact oS.1
  · intro k hk
    rw [fb_0 v2 hb hg hs] at hk
    have h1 := oS.2 k hk
    rw [fb_zD v2 hb hg hs (by omega), fb_zP v2 hb hg hs (by omega)]
    refine ⟨h1.1, h1.2.1, ?_⟩
    rcases Nat.decEq k (zS M b) with z | z
    · rw [upd_neP z, fb_zWo v2 hb hg hs (by omega) z]; exact h1.2.2
    · rw [upd_eqP z, z, fb_zWn v2 hb hg hs]
  · rw [fb_1 v2 hb hg hs]; exact oG.1
  · intro k hk
    rw [fb_1 v2 hb hg hs] at hk
    have h1 := oG.2 k hk
    rcases Nat.decEq k (zG M b) with z | z
    · rw [upd_neP z, upd_neP z, fb_zCo v2 hb hg hs (by omega) z, fb_zRo v2 hb hg hs (by omega) z]; exact h1
    · rw [upd_eqP z, upd_eqP z, z, fb_zCn v2 hb hg hs, fb_zRn v2 hb hg hs]
      exact ⟨rfl, rfl⟩
  · exact OB_drop v2 hb oB (fb_2 v2 hb hg hs) B4
  · exact OQ_c oQ (fun k hk => (hVQ.1 k hk).1) (fun x hx => fb_zQ v2 hb hg hs hx) (fun x y hx hy => fb_zq v2 hb hg hs hx hy)
  · exact OF_app oF v4 (fb_4 v2 hb hg hs) (fb_zFG0 v2 hb hg hs) (fb_zFS0 v2 hb hg hs) (fb_zFM0 v2 hb hg hs) (fun x hx => fb_zFGs v2 hb hg hs hx) (fun x hx => fb_zFSs v2 hb hg hs hx) (fun x hx => fb_zFMs v2 hb hg hs hx)
theorem of_fin (h : VP M U r e) (hr : RO M on ot op os sc sd sp sw gc gp gr bc bg bs bt be ql qg fc fg fs fm) {b : Nat} (hb : b < M 2) : ∃ ot' op' os' sw' gp' gr' bc' bg' bs' bt' be' fc' fg' fs' fm', f_X8_finishBooking on ot op os sp sw gp gr bc bg bs bt be fc fg fs fm (nI b) = some (ot', op', os', sw', gp', gr', bc', bg', bs', bt', be', fc', fg', fs', fm') ∧ RO (zfn M b) on ot' op' os' sc sd sp sw' gc gp' gr' bc' bg' bs' bt' be' ql qg fc' fg' fs' fm' := by
  by_cases z : zW M (zS M b) < 5
  · rw [zfn, if_pos z]; exact of_fa h hr hb z
  · rw [zfn, if_neg z]; exact of_fb h hr hb z
end OFF3
