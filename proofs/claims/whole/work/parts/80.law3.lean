/-! feeding, running, taking back, saving, restoring -/
theorem ch_of (p : Int32) : ∃ c : Nat, c < 65536 ∧ (p.toUInt32 % 65536).toInt32 = nI c ∧ vp_nar .char (nI c) = nI c := by
  refine ⟨(p.toUInt32 % 65536).toNat, ?_, ?_, ?_⟩
  · rw [UInt32.toNat_mod]
    exact Nat.mod_lt _ (by decide)
  · apply Int32.toBitVec_inj.mp
    apply BitVec.eq_of_toNat_eq
    simp [nI]
    have e : p.toBitVec.toNat = p.toUInt32.toNat := rfl
    rw [e]
    omega
  · rw [vp_nar_char]
    apply Int32.toBitVec_inj.mp
    apply BitVec.eq_of_toNat_eq
    simp [nI]
theorem t46 : ∀ (i : Nat) (on : Int32) (ot : Int32) (op : Int32) (os : Int32) (sc : Int32) (sd : Nat → Int32) (sp : Nat → Int32) (sw : Nat → Int32) (gc : Int32) (gp : Nat → Int32) (gr : Nat → Int32) (bc : Int32) (bg : Nat → Int32) (bs : Nat → Int32) (bt : Nat → Int32) (be : Nat → Int32) (ql : Nat → Int32) (qg : Nat → Int32) (fc : Int32) (fg : Nat → Int32) (fs : Nat → Int32) (fm : Nat → Int32) (s_on : Int32) (s_ot : Int32) (s_op : Int32) (s_os : Int32) (s_sc : Int32) (s_sd : Nat → Int32) (s_sp : Nat → Int32) (s_sw : Nat → Int32) (s_gc : Int32) (s_gp : Nat → Int32) (s_gr : Nat → Int32) (s_bc : Int32) (s_bg : Nat → Int32) (s_bs : Nat → Int32) (s_bt : Nat → Int32) (s_be : Nat → Int32) (s_ql : Nat → Int32) (s_qg : Nat → Int32) (s_fc : Int32) (s_fg : Nat → Int32) (s_fs : Nat → Int32) (s_fm : Nat → Int32) (xi : Int32) (yv : Nat → OffT) (yn : Int32) (yc : Int32) (ko : Nat → Int32) (kl : Nat → Int32) (ts : Nat → Int32) (tl : Int32) (tp : Int32) (tn : Nat → Int32) (sv : Nat → Int32) (sK : Nat) (sm : Int32) (sn : Int32) (xe : Int32) (xf : Int32) (ms : Nat → Int32) (mb : Nat → Int32) (mv : Nat → Int32) (mi : Int32) (mp : Nat → Int32) (mn : Int32) (mt : Int32) (mo : Nat → Int32) (mO : Int32) (mI : Nat → Int32) (mL : Int32) (mA : Int32) (mW : Int32) (mE : Int32) (mF : Int32) (mc : Nat → Int32) (mM : Int32) (oL : Nat → Int64) (oD : Nat → UInt64) (p1 p2 p3 : Int32), i < 512 → JB i on ot op os sc sd sp sw gc gp gr bc bg bs bt be ql qg fc fg fs fm s_on s_ot s_op s_os s_sc s_sd s_sp s_sw s_gc s_gp s_gr s_bc s_bg s_bs s_bt s_be s_ql s_qg s_fc s_fg s_fs s_fm xi yv yn yc ko kl ts tl tp tn sv sK sm sn xe xf ms mb mv mi mp mn mt mo mO mI mL mA mW mE mF mc mM oL oD → ∃ (q_ts : Nat → Int32) (q_tl : Int32) (q_mt : Int32) (q_mI : Nat → Int32) (q_mL : Int32) (q_oL : Nat → Int64), f_law46 ts tl mt mI mL oL p1 = some (q_ts, q_tl, q_mt, q_mI, q_mL, q_oL) ∧ JB (i + 1) on ot op os sc sd sp sw gc gp gr bc bg bs bt be ql qg fc fg fs fm s_on s_ot s_op s_os s_sc s_sd s_sp s_sw s_gc s_gp s_gr s_bc s_bg s_bs s_bt s_be s_ql s_qg s_fc s_fg s_fs s_fm xi yv yn yc ko kl q_ts q_tl tp tn sv sK sm sn xe xf ms mb mv mi mp mn q_mt mo mO q_mI q_mL mA mW mE mF mc mM q_oL oD := by
  intro i on ot op os sc sd sp sw gc gp gr bc bg bs bt be ql qg fc fg fs fm s_on s_ot s_op s_os s_sc s_sd s_sp s_sw s_gc s_gp s_gr s_bc s_bg s_bs s_bt s_be s_ql s_qg s_fc s_fg s_fs s_fm xi yv yn yc ko kl ts tl tp tn sv sK sm sn xe xf ms mb mv mi mp mn mt mo mO mI mL mA mW mE mF mc mM oL oD p1 p2 p3 hi hJ
  obtain ⟨ch, hc1, hc2, hc3⟩ := ch_of p1
  obtain ⟨jp, js, jh, ⟨c, l, x1, x2, x3, x4⟩, jr⟩ := hJ
  rcases Nat.lt_or_ge l 60 with y | y
  · have h3 : (nI l).toNatClampNeg = l := nI_clamp (by omega)
    have hi60 : sf_in (nI l) 60 = true := of_eq_true (nI_inT y (by omega))
    have hJ' : JB (i + 1) on ot op os sc sd sp sw gc gp gr bc bg bs bt be ql qg fc fg fs fm s_on s_ot s_op s_os s_sc s_sd s_sp s_sw s_gc s_gp s_gr s_bc s_bg s_bs s_bt s_be s_ql s_qg s_fc s_fg s_fs s_fm xi yv yn yc ko kl (upd ts l (nI ch)) (nI (l + 1)) tp tn sv sK sm sn xe xf ms mb mv mi mp mn 0 mo mO (upd mI l (nI ch)) (nI (l + 1)) mA mW mE mF mc mM (vp_updL oL (0 : Int32).toNatClampNeg (nI (l + 1)).toInt64) oD := by
      refine ⟨JP_up jp (by omega) (by omega), JS_up js (by omega) (by omega), HH_up jh (by omega) (by omega), ⟨fun k => if k = l then ch else c k, l + 1, rfl, rfl, by omega, fun k hk => ?_⟩, jr⟩
      rcases Nat.decEq k l with z | z
      · simp only [upd, if_neg z]
        exact x4 k (by omega)
      · simp only [upd, if_pos z]
        exact ⟨trivial, trivial, hc1⟩
    refine ⟨upd ts l (nI ch), nI (l + 1), 0, upd mI l (nI ch), nI (l + 1), _, ?_, hJ'⟩
    rw [f_law46, hc2, x1, x2]
    have ha : f_X4_append ts (nI l) (nI ch) = some (upd ts l (nI ch), nI (l + 1)) := by
      rw [f_X4_append]
      refine sfg_i hi60 ?_
      rw [hc3, h3]
      exact sfn_r rfl (sfn_r (nI_1 l) rfl)
    have hlt : nI l < (60 : Int32) := by
      rw [show (60 : Int32) = nI 60 from rfl, nI_ltP (by omega) (by omega)]; exact y
    have hL : f_L_feed ts (nI l) oL (nI ch) = some (0, upd ts l (nI ch), nI (l + 1), vp_updL oL (0 : Int32).toNatClampNeg (nI (l + 1)).toInt64) := by
      rw [f_L_feed]
      refine sft3_n ?_ (sfc3_i (a := nI (l + 1)) ?_ (sfg_i (by decide) (sfn_r rfl rfl)))
      · rw [f_TX11_feed]; exact sfb_t hlt (sfc2_i ha rfl)
      · rw [f_X11_feed]; exact sfb_t hlt (sfc2_i ha rfl)
    have hM : f_X12_feed mt mI (nI l) (nI ch) = some (nI (l + 1), 0, upd mI l (nI ch), nI (l + 1)) := by
      rw [f_X12_feed]
      refine sfb_f (by rw [show (60 : Int32) = nI 60 from rfl, nI_eqP (by omega) (by omega)]; omega) (sfg_i hi60 ?_)
      rw [hc3, h3]
      exact sfn_r rfl (sfn_r (nI_1 l) rfl)
    exact sfc4_i hL (sfc4_i hM (sfc1_i rfl (sfb_t rfl (sfb_t rfl (sfg_i (by decide) (sfb_t lgq rfl))))))
  · have e : l = 60 := by omega
    have hJ' : JB (i + 1) on ot op os sc sd sp sw gc gp gr bc bg bs bt be ql qg fc fg fs fm s_on s_ot s_op s_os s_sc s_sd s_sp s_sw s_gc s_gp s_gr s_bc s_bg s_bs s_bt s_be s_ql s_qg s_fc s_fg s_fs s_fm xi yv yn yc ko kl ts (nI l) tp tn sv sK sm sn xe xf ms mb mv mi mp mn 1 mo mO mI (nI l) mA mW mE mF mc mM oL oD := ⟨JP_up jp (by omega) (by omega), JS_up js (by omega) (by omega), HH_up jh (by omega) (by omega), ⟨c, l, rfl, rfl, x3, x4⟩, jr⟩
    refine ⟨ts, nI l, 1, mI, nI l, oL, ?_, hJ'⟩
    rw [f_law46, hc2, x1, x2, e]
    have hL : f_L_feed ts (nI 60) oL (nI ch) = some (1, ts, nI 60, oL) := by
      rw [f_L_feed]
      exact sft3_s (a0 := 2) (by rw [f_TX11_feed]; exact sfb_f (by decide) rfl) (sfb_t rfl rfl)
    have hM : f_X12_feed mt mI (nI 60) (nI ch) = some (0, 1, mI, nI 60) := by
      rw [f_X12_feed]
      exact sfb_t (by decide) rfl
    exact sfc4_i hL (sfc4_i hM (sfc1_i rfl (sfb_t rfl (sfb_f (by decide) rfl))))
theorem t53 : ∀ (i : Nat) (on : Int32) (ot : Int32) (op : Int32) (os : Int32) (sc : Int32) (sd : Nat → Int32) (sp : Nat → Int32) (sw : Nat → Int32) (gc : Int32) (gp : Nat → Int32) (gr : Nat → Int32) (bc : Int32) (bg : Nat → Int32) (bs : Nat → Int32) (bt : Nat → Int32) (be : Nat → Int32) (ql : Nat → Int32) (qg : Nat → Int32) (fc : Int32) (fg : Nat → Int32) (fs : Nat → Int32) (fm : Nat → Int32) (s_on : Int32) (s_ot : Int32) (s_op : Int32) (s_os : Int32) (s_sc : Int32) (s_sd : Nat → Int32) (s_sp : Nat → Int32) (s_sw : Nat → Int32) (s_gc : Int32) (s_gp : Nat → Int32) (s_gr : Nat → Int32) (s_bc : Int32) (s_bg : Nat → Int32) (s_bs : Nat → Int32) (s_bt : Nat → Int32) (s_be : Nat → Int32) (s_ql : Nat → Int32) (s_qg : Nat → Int32) (s_fc : Int32) (s_fg : Nat → Int32) (s_fs : Nat → Int32) (s_fm : Nat → Int32) (xi : Int32) (yv : Nat → OffT) (yn : Int32) (yc : Int32) (ko : Nat → Int32) (kl : Nat → Int32) (ts : Nat → Int32) (tl : Int32) (tp : Int32) (tn : Nat → Int32) (sv : Nat → Int32) (sK : Nat) (sm : Int32) (sn : Int32) (xe : Int32) (xf : Int32) (ms : Nat → Int32) (mb : Nat → Int32) (mv : Nat → Int32) (mi : Int32) (mp : Nat → Int32) (mn : Int32) (mt : Int32) (mo : Nat → Int32) (mO : Int32) (mI : Nat → Int32) (mL : Int32) (mA : Int32) (mW : Int32) (mE : Int32) (mF : Int32) (mc : Nat → Int32) (mM : Int32) (oL : Nat → Int64) (oD : Nat → UInt64) (p1 p2 p3 : Int32), i < 512 → JB i on ot op os sc sd sp sw gc gp gr bc bg bs bt be ql qg fc fg fs fm s_on s_ot s_op s_os s_sc s_sd s_sp s_sw s_gc s_gp s_gr s_bc s_bg s_bs s_bt s_be s_ql s_qg s_fc s_fg s_fs s_fm xi yv yn yc ko kl ts tl tp tn sv sK sm sn xe xf ms mb mv mi mp mn mt mo mO mI mL mA mW mE mF mc mM oL oD → ∃ (q_on : Int32) (q_ot : Int32) (q_op : Int32) (q_os : Int32) (q_sc : Int32) (q_sd : Nat → Int32) (q_sp : Nat → Int32) (q_sw : Nat → Int32) (q_gc : Int32) (q_gp : Nat → Int32) (q_gr : Nat → Int32) (q_bc : Int32) (q_bg : Nat → Int32) (q_bs : Nat → Int32) (q_bt : Nat → Int32) (q_be : Nat → Int32) (q_ql : Nat → Int32) (q_qg : Nat → Int32) (q_fc : Int32) (q_fg : Nat → Int32) (q_fs : Nat → Int32) (q_fm : Nat → Int32) (q_yn : Int32) (q_yc : Int32) (q_ms : Nat → Int32) (q_mn : Int32) (q_mt : Int32) (q_oL : Nat → Int64), f_law53 on ot op os sc sd sp sw gc gp gr bc bg bs bt be ql qg fc fg fs fm yv yn yc ms mp mn mt oL = some (q_on, q_ot, q_op, q_os, q_sc, q_sd, q_sp, q_sw, q_gc, q_gp, q_gr, q_bc, q_bg, q_bs, q_bt, q_be, q_ql, q_qg, q_fc, q_fg, q_fs, q_fm, q_yn, q_yc, q_ms, q_mn, q_mt, q_oL) ∧ JB (i + 1) q_on q_ot q_op q_os q_sc q_sd q_sp q_sw q_gc q_gp q_gr q_bc q_bg q_bs q_bt q_be q_ql q_qg q_fc q_fg q_fs q_fm s_on s_ot s_op s_os s_sc s_sd s_sp s_sw s_gc s_gp s_gr s_bc s_bg s_bs s_bt s_be s_ql s_qg s_fc s_fg s_fs s_fm xi yv q_yn q_yc ko kl ts tl tp tn sv sK sm sn xe xf q_ms mb mv mi mp q_mn q_mt mo mO mI mL mA mW mE mF mc mM q_oL oD := by
  intro i on ot op os sc sd sp sw gc gp gr bc bg bs bt be ql qg fc fg fs fm s_on s_ot s_op s_os s_sc s_sd s_sp s_sw s_gc s_gp s_gr s_bc s_bg s_bs s_bt s_be s_ql s_qg s_fc s_fg s_fs s_fm xi yv yn yc ko kl ts tl tp tn sv sK sm sn xe xf ms mb mv mi mp mn mt mo mO mI mL mA mW mE mF mc mM oL oD p1 p2 p3 hi hJ
  obtain ⟨jp, js, ⟨n, c, x1, x2, x3, x4, x5, x6⟩, jr⟩ := hJ
  have hh : HH (3600 * i) yv yn yc mp mn := ⟨n, c, x1, x2, x3, x4, x5, x6⟩
  rcases Nat.decEq c 0 with y | y
  · obtain ⟨M, hV, hm, hr⟩ := x6 (c - 1) (by omega)
    rw [show (n + 9 - c + (c - 1)) % 9 = (n + 8) % 9 by omega] at hr
    obtain ⟨on', ot', op', os', sc', sd', sp', sw', gc', gp', gr', bc', bg', bs', bt', be', ql', qg', fc', fg', fs', fm', hv⟩ : ∃ on' ot' op' os' sc' sd' sp' sw' gc' gp' gr' bc' bg' bs' bt' be' ql' qg' fc' fg' fs' fm', yv ((n + 8) % 9) = (on', ot', op', os', sc', sd', sp', sw', gc', gp', gr', bc', bg', bs', bt', be', ql', qg', fc', fg', fs', fm') := ⟨_, _, _, _, _, _, _, _, _, _, _, _, _, _, _, _, _, _, _, _, _, _, rfl⟩
    rw [hv] at hr
    have hJ' : JB (i + 1) on' ot' op' os' sc' sd' sp' sw' gc' gp' gr' bc' bg' bs' bt' be' ql' qg' fc' fg' fs' fm' s_on s_ot s_op s_os s_sc s_sd s_sp s_sw s_gc s_gp s_gr s_bc s_bg s_bs s_bt s_be s_ql s_qg s_fc s_fg s_fs s_fm xi yv (nI ((n + 8) % 9)) (nI (c - 1)) ko kl ts tl tp tn sv sK sm sn xe xf (va_cpy mp ms (158 * (c - 1)) 0 158) mb mv mi mp (nI (c - 1)) 0 mo mO mI mL mA mW mE mF mc mM (vp_updL oL (0 : Int32).toNatClampNeg (nI (c - 1)).toInt64) oD := by
      refine ⟨⟨M, VW_up hV (by omega) (by omega), fun k hk => ?_, hr⟩, JS_up js (by omega) (by omega), HH_up ⟨(n + 8) % 9, c - 1, by omega, by omega, rfl, rfl, rfl, fun p hp => ?_⟩ (by omega : 3600 * i ≤ 3600 * (i + 1)) (by omega), jr⟩
      · rw [va_cpy, if_pos (by omega), show 158 * (c - 1) + (k - 0) = 158 * (c - 1) + k by omega]; exact hm k hk
      · rw [show ((n + 8) % 9 + 9 - (c - 1) + p) % 9 = (n + 9 - c + p) % 9 by omega]; exact x6 p (by omega)
    refine ⟨on', ot', op', os', sc', sd', sp', sw', gc', gp', gr', bc', bg', bs', bt', be', ql', qg', fc', fg', fs', fm', nI ((n + 8) % 9), nI (c - 1), _, nI (c - 1), 0, _, ?_, hJ'⟩
    have hyc : ¬ yc = (0 : Int32) := by rw [x4, show (0 : Int32) = nI 0 from rfl, nI_eqP (by omega) (by omega)]; exact y
    have e1 : (if yn = 0 then (8 : Int32) else yn - 1) = nI ((n + 8) % 9) := by
      rw [x3]
      rcases Nat.decEq n 0 with z | z
      · rw [if_neg (by rw [show (0 : Int32) = nI 0 from rfl, nI_eqP (by omega) (by omega)]; exact z), show (n + 8) % 9 = n - 1 by omega, show (1 : Int32) = nI 1 from rfl, nI_sub (by omega)]
      · rw [if_pos (by rw [z]; rfl), z]; rfl
    have e2 : ∀ a : Int32, a = nI c → a - 1 = nI (c - 1) := fun a ha => by
      rw [ha, show (1 : Int32) = nI 1 from rfl, nI_sub (by omega)]
    have hT : f_X7_takeBack yv yn yc on ot op os sc sd sp sw gc gp gr bc bg bs bt be ql qg fc fg fs fm = some (nI ((n + 8) % 9), nI (c - 1), on', ot', op', os', sc', sd', sp', sw', gc', gp', gr', bc', bg', bs', bt', be', ql', qg', fc', fg', fs', fm') := by
      rw [f_X7_takeBack]
      refine sfn_r e1 (sfn_r (e2 yc x4) (sfg_i (of_eq_true (nI_inT (by omega) (by omega))) ?_))
      rw [nI_clamp (by omega), hv]
    have hL : f_L_undo on ot op os sc sd sp sw gc gp gr bc bg bs bt be ql qg fc fg fs fm yv yn yc oL = some (0, on', ot', op', os', sc', sd', sp', sw', gc', gp', gr', bc', bg', bs', bt', be', ql', qg', fc', fg', fs', fm', nI ((n + 8) % 9), nI (c - 1), vp_updL oL (0 : Int32).toNatClampNeg (nI (c - 1)).toInt64) := by
      rw [f_L_undo]
      refine sft25_n ?_ (sfc25_i (a0 := nI (c - 1)) ?_ (sfg_i (by decide) (sfn_r rfl rfl)))
      · rw [f_TX11_undo]; exact sfb_f hyc (sfc24_i hT rfl)
      · rw [f_X11_undo]; exact sfb_f hyc (sfc24_i hT rfl)
    have e3 : (158 : Int32) * nI (c - 1) = nI (158 * (c - 1)) := by rw [il_158, nI_mul]
    have hM : f_X12_undo ms mp mn mt = some (nI (c - 1), va_cpy mp ms (158 * (c - 1)) 0 158, nI (c - 1), 0) := by
      rw [f_X12_undo]
      refine sfb_f (by rw [x5, show (0 : Int32) = nI 0 from rfl, nI_eqP (by omega) (by omega)]; exact y) (sfn_r (e2 mn x5) ?_)
      rw [e3]
      refine sfg_i ?_ (sfn_r ?_ rfl)
      · rw [nI_clamp (by omega)]
        refine ⟨⟨nI_pos (by omega), by decide, by decide⟩, ?_, by decide⟩
        have : (158 : Int32).toNatClampNeg = 158 := by decide
        omega
      · rw [nI_clamp (by omega)]; rfl
    rw [f_law53]
    exact sfc26_i hL (sfc4_i hM (sfc1_i rfl (sfb_t rfl (sfb_t rfl (sfg_i (by decide) (sfb_t lgq rfl))))))
  · have hJ' : JB (i + 1) on ot op os sc sd sp sw gc gp gr bc bg bs bt be ql qg fc fg fs fm s_on s_ot s_op s_os s_sc s_sd s_sp s_sw s_gc s_gp s_gr s_bc s_bg s_bs s_bt s_be s_ql s_qg s_fc s_fg s_fs s_fm xi yv yn yc ko kl ts tl tp tn sv sK sm sn xe xf ms mb mv mi mp mn 1 mo mO mI mL mA mW mE mF mc mM oL oD := ⟨JP_up jp (by omega) (by omega), JS_up js (by omega) (by omega), HH_up hh (by omega) (by omega), jr⟩
    refine ⟨on, ot, op, os, sc, sd, sp, sw, gc, gp, gr, bc, bg, bs, bt, be, ql, qg, fc, fg, fs, fm, yn, yc, ms, mn, 1, oL, ?_, hJ'⟩
    have hyc : yc = (0 : Int32) := by rw [x4, y]; rfl
    have hL : f_L_undo on ot op os sc sd sp sw gc gp gr bc bg bs bt be ql qg fc fg fs fm yv yn yc oL = some (1, on, ot, op, os, sc, sd, sp, sw, gc, gp, gr, bc, bg, bs, bt, be, ql, qg, fc, fg, fs, fm, yn, yc, oL) := by
      rw [f_L_undo]
      exact sft25_s (a0 := 2) (by rw [f_TX11_undo]; exact sfb_t hyc rfl) (sfb_t rfl rfl)
    have hM : f_X12_undo ms mp mn mt = some (0, ms, mn, 1) := by
      rw [f_X12_undo]; exact sfb_t (by rw [x5, y]; rfl) rfl
    rw [f_law53]
    exact sfc26_i hL (sfc4_i hM (sfc1_i rfl (sfb_t rfl (sfb_f (by decide) rfl))))
theorem copy_8 {on : Int32} {ot : Int32} {op : Int32} {os : Int32} {sc : Int32} {sd : Nat → Int32} {sp : Nat → Int32} {sw : Nat → Int32} {gc : Int32} {gp : Nat → Int32} {gr : Nat → Int32} {bc : Int32} {bg : Nat → Int32} {bs : Nat → Int32} {bt : Nat → Int32} {be : Nat → Int32} {ql : Nat → Int32} {qg : Nat → Int32} {fc : Int32} {fg : Nat → Int32} {fs : Nat → Int32} {fm : Nat → Int32} {s_on : Int32} {s_ot : Int32} {s_op : Int32} {s_os : Int32} {s_sc : Int32} {s_sd : Nat → Int32} {s_sp : Nat → Int32} {s_sw : Nat → Int32} {s_gc : Int32} {s_gp : Nat → Int32} {s_gr : Nat → Int32} {s_bc : Int32} {s_bg : Nat → Int32} {s_bs : Nat → Int32} {s_bt : Nat → Int32} {s_be : Nat → Int32} {s_ql : Nat → Int32} {s_qg : Nat → Int32} {s_fc : Int32} {s_fg : Nat → Int32} {s_fs : Nat → Int32} {s_fm : Nat → Int32} : f_X8_copyFrom on ot op os sc sd sp sw gc gp gr bc bg bs bt be ql qg fc fg fs fm s_on s_ot s_op s_os s_sc s_sd s_sp s_sw s_gc s_gp s_gr s_bc s_bg s_bs s_bt s_be s_ql s_qg s_fc s_fg s_fs s_fm = some (s_on, s_ot, s_op, s_os, s_sc, s_sd, s_sp, s_sw, s_gc, s_gp, s_gr, s_bc, s_bg, s_bs, s_bt, s_be, s_ql, s_qg, s_fc, s_fg, s_fs, s_fm) := by
  rw [f_X8_copyFrom]
  exact sfc4_i rfl (sfc3_i rfl (sfc5_i rfl (sfc2_i rfl (sfc4_i rfl rfl))))
theorem t54 : ∀ (i : Nat) (on : Int32) (ot : Int32) (op : Int32) (os : Int32) (sc : Int32) (sd : Nat → Int32) (sp : Nat → Int32) (sw : Nat → Int32) (gc : Int32) (gp : Nat → Int32) (gr : Nat → Int32) (bc : Int32) (bg : Nat → Int32) (bs : Nat → Int32) (bt : Nat → Int32) (be : Nat → Int32) (ql : Nat → Int32) (qg : Nat → Int32) (fc : Int32) (fg : Nat → Int32) (fs : Nat → Int32) (fm : Nat → Int32) (s_on : Int32) (s_ot : Int32) (s_op : Int32) (s_os : Int32) (s_sc : Int32) (s_sd : Nat → Int32) (s_sp : Nat → Int32) (s_sw : Nat → Int32) (s_gc : Int32) (s_gp : Nat → Int32) (s_gr : Nat → Int32) (s_bc : Int32) (s_bg : Nat → Int32) (s_bs : Nat → Int32) (s_bt : Nat → Int32) (s_be : Nat → Int32) (s_ql : Nat → Int32) (s_qg : Nat → Int32) (s_fc : Int32) (s_fg : Nat → Int32) (s_fs : Nat → Int32) (s_fm : Nat → Int32) (xi : Int32) (yv : Nat → OffT) (yn : Int32) (yc : Int32) (ko : Nat → Int32) (kl : Nat → Int32) (ts : Nat → Int32) (tl : Int32) (tp : Int32) (tn : Nat → Int32) (sv : Nat → Int32) (sK : Nat) (sm : Int32) (sn : Int32) (xe : Int32) (xf : Int32) (ms : Nat → Int32) (mb : Nat → Int32) (mv : Nat → Int32) (mi : Int32) (mp : Nat → Int32) (mn : Int32) (mt : Int32) (mo : Nat → Int32) (mO : Int32) (mI : Nat → Int32) (mL : Int32) (mA : Int32) (mW : Int32) (mE : Int32) (mF : Int32) (mc : Nat → Int32) (mM : Int32) (oL : Nat → Int64) (oD : Nat → UInt64) (p1 p2 p3 : Int32), i < 512 → JB i on ot op os sc sd sp sw gc gp gr bc bg bs bt be ql qg fc fg fs fm s_on s_ot s_op s_os s_sc s_sd s_sp s_sw s_gc s_gp s_gr s_bc s_bg s_bs s_bt s_be s_ql s_qg s_fc s_fg s_fs s_fm xi yv yn yc ko kl ts tl tp tn sv sK sm sn xe xf ms mb mv mi mp mn mt mo mO mI mL mA mW mE mF mc mM oL oD → ∃ (q_s_on : Int32) (q_s_ot : Int32) (q_s_op : Int32) (q_s_os : Int32) (q_s_sc : Int32) (q_s_sd : Nat → Int32) (q_s_sp : Nat → Int32) (q_s_sw : Nat → Int32) (q_s_gc : Int32) (q_s_gp : Nat → Int32) (q_s_gr : Nat → Int32) (q_s_bc : Int32) (q_s_bg : Nat → Int32) (q_s_bs : Nat → Int32) (q_s_bt : Nat → Int32) (q_s_be : Nat → Int32) (q_s_ql : Nat → Int32) (q_s_qg : Nat → Int32) (q_s_fc : Int32) (q_s_fg : Nat → Int32) (q_s_fs : Nat → Int32) (q_s_fm : Nat → Int32) (q_xi : Int32) (q_mv : Nat → Int32) (q_mi : Int32) (q_mt : Int32), f_law54 on ot op os sc sd sp sw gc gp gr bc bg bs bt be ql qg fc fg fs fm s_on s_ot s_op s_os s_sc s_sd s_sp s_sw s_gc s_gp s_gr s_bc s_bg s_bs s_bt s_be s_ql s_qg s_fc s_fg s_fs s_fm xi ms mv mi mt = some (q_s_on, q_s_ot, q_s_op, q_s_os, q_s_sc, q_s_sd, q_s_sp, q_s_sw, q_s_gc, q_s_gp, q_s_gr, q_s_bc, q_s_bg, q_s_bs, q_s_bt, q_s_be, q_s_ql, q_s_qg, q_s_fc, q_s_fg, q_s_fs, q_s_fm, q_xi, q_mv, q_mi, q_mt) ∧ JB (i + 1) on ot op os sc sd sp sw gc gp gr bc bg bs bt be ql qg fc fg fs fm q_s_on q_s_ot q_s_op q_s_os q_s_sc q_s_sd q_s_sp q_s_sw q_s_gc q_s_gp q_s_gr q_s_bc q_s_bg q_s_bs q_s_bt q_s_be q_s_ql q_s_qg q_s_fc q_s_fg q_s_fs q_s_fm q_xi yv yn yc ko kl ts tl tp tn sv sK sm sn xe xf ms mb q_mv q_mi mp mn q_mt mo mO mI mL mA mW mE mF mc mM oL oD := by
  intro i on ot op os sc sd sp sw gc gp gr bc bg bs bt be ql qg fc fg fs fm s_on s_ot s_op s_os s_sc s_sd s_sp s_sw s_gc s_gp s_gr s_bc s_bg s_bs s_bt s_be s_ql s_qg s_fc s_fg s_fs s_fm xi yv yn yc ko kl ts tl tp tn sv sK sm sn xe xf ms mb mv mi mp mn mt mo mO mI mL mA mW mE mF mc mM oL oD p1 p2 p3 hi hJ
  obtain ⟨⟨M, hV, hm, hr⟩, js, jh, jr⟩ := hJ
  have hJ' : JB (i + 1) on ot op os sc sd sp sw gc gp gr bc bg bs bt be ql qg fc fg fs fm on ot op os sc sd sp sw gc gp gr bc bg bs bt be ql qg fc fg fs fm 1 yv yn yc ko kl ts tl tp tn sv sK sm sn xe xf ms mb ms 1 mp mn 0 mo mO mI mL mA mW mE mF mc mM oL oD := ⟨⟨M, VW_up hV (by omega) (by omega), hm, hr⟩, ⟨rfl, Or.inr ⟨rfl, M, VW_up hV (by omega) (by omega), hm, hr⟩⟩, HH_up jh (by omega) (by omega), jr⟩
  refine ⟨on, ot, op, os, sc, sd, sp, sw, gc, gp, gr, bc, bg, bs, bt, be, ql, qg, fc, fg, fs, fm, 1, ms, 1, 0, ?_, hJ'⟩
  have e : ms (2 : Int32).toNatClampNeg = bc := by rw [at_i hm (k := 2) (by decide) (by omega)]; exact hr.2.2.2.1.1.symm
  have hL : f_X11_save on ot op os sc sd sp sw gc gp gr bc bg bs bt be ql qg fc fg fs fm s_on s_ot s_op s_os s_sc s_sd s_sp s_sw s_gc s_gp s_gr s_bc s_bg s_bs s_bt s_be s_ql s_qg s_fc s_fg s_fs s_fm xi = some (bc, on, ot, op, os, sc, sd, sp, sw, gc, gp, gr, bc, bg, bs, bt, be, ql, qg, fc, fg, fs, fm, 1) := by
    rw [f_X11_save]; exact sfc22_i copy_8 rfl
  have hM : f_X12_save ms mv mi mt = some (bc, ms, 1, 0) := by
    rw [f_X12_save]; exact sfg_i (by decide) (by rw [e])
  rw [f_law54]
  exact sfc24_i hL (sfc4_i hM (sfb_t rfl rfl))
theorem t55 : ∀ (i : Nat) (on : Int32) (ot : Int32) (op : Int32) (os : Int32) (sc : Int32) (sd : Nat → Int32) (sp : Nat → Int32) (sw : Nat → Int32) (gc : Int32) (gp : Nat → Int32) (gr : Nat → Int32) (bc : Int32) (bg : Nat → Int32) (bs : Nat → Int32) (bt : Nat → Int32) (be : Nat → Int32) (ql : Nat → Int32) (qg : Nat → Int32) (fc : Int32) (fg : Nat → Int32) (fs : Nat → Int32) (fm : Nat → Int32) (s_on : Int32) (s_ot : Int32) (s_op : Int32) (s_os : Int32) (s_sc : Int32) (s_sd : Nat → Int32) (s_sp : Nat → Int32) (s_sw : Nat → Int32) (s_gc : Int32) (s_gp : Nat → Int32) (s_gr : Nat → Int32) (s_bc : Int32) (s_bg : Nat → Int32) (s_bs : Nat → Int32) (s_bt : Nat → Int32) (s_be : Nat → Int32) (s_ql : Nat → Int32) (s_qg : Nat → Int32) (s_fc : Int32) (s_fg : Nat → Int32) (s_fs : Nat → Int32) (s_fm : Nat → Int32) (xi : Int32) (yv : Nat → OffT) (yn : Int32) (yc : Int32) (ko : Nat → Int32) (kl : Nat → Int32) (ts : Nat → Int32) (tl : Int32) (tp : Int32) (tn : Nat → Int32) (sv : Nat → Int32) (sK : Nat) (sm : Int32) (sn : Int32) (xe : Int32) (xf : Int32) (ms : Nat → Int32) (mb : Nat → Int32) (mv : Nat → Int32) (mi : Int32) (mp : Nat → Int32) (mn : Int32) (mt : Int32) (mo : Nat → Int32) (mO : Int32) (mI : Nat → Int32) (mL : Int32) (mA : Int32) (mW : Int32) (mE : Int32) (mF : Int32) (mc : Nat → Int32) (mM : Int32) (oL : Nat → Int64) (oD : Nat → UInt64) (p1 p2 p3 : Int32), i < 512 → JB i on ot op os sc sd sp sw gc gp gr bc bg bs bt be ql qg fc fg fs fm s_on s_ot s_op s_os s_sc s_sd s_sp s_sw s_gc s_gp s_gr s_bc s_bg s_bs s_bt s_be s_ql s_qg s_fc s_fg s_fs s_fm xi yv yn yc ko kl ts tl tp tn sv sK sm sn xe xf ms mb mv mi mp mn mt mo mO mI mL mA mW mE mF mc mM oL oD → ∃ (q_on : Int32) (q_ot : Int32) (q_op : Int32) (q_os : Int32) (q_sc : Int32) (q_sd : Nat → Int32) (q_sp : Nat → Int32) (q_sw : Nat → Int32) (q_gc : Int32) (q_gp : Nat → Int32) (q_gr : Nat → Int32) (q_bc : Int32) (q_bg : Nat → Int32) (q_bs : Nat → Int32) (q_bt : Nat → Int32) (q_be : Nat → Int32) (q_ql : Nat → Int32) (q_qg : Nat → Int32) (q_fc : Int32) (q_fg : Nat → Int32) (q_fs : Nat → Int32) (q_fm : Nat → Int32) (q_yc : Int32) (q_ms : Nat → Int32) (q_mn : Int32) (q_mt : Int32) (q_oL : Nat → Int64), f_law55 on ot op os sc sd sp sw gc gp gr bc bg bs bt be ql qg fc fg fs fm s_on s_ot s_op s_os s_sc s_sd s_sp s_sw s_gc s_gp s_gr s_bc s_bg s_bs s_bt s_be s_ql s_qg s_fc s_fg s_fs s_fm xi yc ms mv mi mn mt oL = some (q_on, q_ot, q_op, q_os, q_sc, q_sd, q_sp, q_sw, q_gc, q_gp, q_gr, q_bc, q_bg, q_bs, q_bt, q_be, q_ql, q_qg, q_fc, q_fg, q_fs, q_fm, q_yc, q_ms, q_mn, q_mt, q_oL) ∧ JB (i + 1) q_on q_ot q_op q_os q_sc q_sd q_sp q_sw q_gc q_gp q_gr q_bc q_bg q_bs q_bt q_be q_ql q_qg q_fc q_fg q_fs q_fm s_on s_ot s_op s_os s_sc s_sd s_sp s_sw s_gc s_gp s_gr s_bc s_bg s_bs s_bt s_be s_ql s_qg s_fc s_fg s_fs s_fm xi yv yn q_yc ko kl ts tl tp tn sv sK sm sn xe xf q_ms mb mv mi mp q_mn q_mt mo mO mI mL mA mW mE mF mc mM q_oL oD := by
  intro i on ot op os sc sd sp sw gc gp gr bc bg bs bt be ql qg fc fg fs fm s_on s_ot s_op s_os s_sc s_sd s_sp s_sw s_gc s_gp s_gr s_bc s_bg s_bs s_bt s_be s_ql s_qg s_fc s_fg s_fs s_fm xi yv yn yc ko kl ts tl tp tn sv sK sm sn xe xf ms mb mv mi mp mn mt mo mO mI mL mA mW mE mF mc mM oL oD p1 p2 p3 hi hJ
  obtain ⟨jp, js, jh, jr⟩ := hJ
  have js2 := js
  obtain ⟨z1, z2 | ⟨z2, M, hV, hm, hr⟩⟩ := js2
  · have hJ' : JB (i + 1) on ot op os sc sd sp sw gc gp gr bc bg bs bt be ql qg fc fg fs fm s_on s_ot s_op s_os s_sc s_sd s_sp s_sw s_gc s_gp s_gr s_bc s_bg s_bs s_bt s_be s_ql s_qg s_fc s_fg s_fs s_fm xi yv yn yc ko kl ts tl tp tn sv sK sm sn xe xf ms mb mv mi mp mn 1 mo mO mI mL mA mW mE mF mc mM oL oD := ⟨JP_up jp (by omega) (by omega), JS_up js (by omega) (by omega), HH_up jh (by omega) (by omega), jr⟩
    refine ⟨on, ot, op, os, sc, sd, sp, sw, gc, gp, gr, bc, bg, bs, bt, be, ql, qg, fc, fg, fs, fm, yc, ms, mn, 1, oL, ?_, hJ'⟩
    have hL : f_L_restore on ot op os sc sd sp sw gc gp gr bc bg bs bt be ql qg fc fg fs fm s_on s_ot s_op s_os s_sc s_sd s_sp s_sw s_gc s_gp s_gr s_bc s_bg s_bs s_bt s_be s_ql s_qg s_fc s_fg s_fs s_fm xi yc oL = some (1, on, ot, op, os, sc, sd, sp, sw, gc, gp, gr, bc, bg, bs, bt, be, ql, qg, fc, fg, fs, fm, yc, oL) := by
      rw [f_L_restore]
      exact sft24_s (a0 := 2) (by rw [f_TX11_restore]; exact sfb_t z2 rfl) (sfb_t rfl rfl)
    have hM : f_X12_restore ms mv mi mn mt = some (0, ms, mn, 1) := by
      rw [f_X12_restore]; exact sfb_t (by rw [← z1]; exact z2) rfl
    rw [f_law55]
    exact sfc25_i hL (sfc4_i hM (sfc1_i rfl (sfb_t rfl (sfb_f (by decide) rfl))))
  · have hJ' : JB (i + 1) s_on s_ot s_op s_os s_sc s_sd s_sp s_sw s_gc s_gp s_gr s_bc s_bg s_bs s_bt s_be s_ql s_qg s_fc s_fg s_fs s_fm s_on s_ot s_op s_os s_sc s_sd s_sp s_sw s_gc s_gp s_gr s_bc s_bg s_bs s_bt s_be s_ql s_qg s_fc s_fg s_fs s_fm xi yv yn 0 ko kl ts tl tp tn sv sK sm sn xe xf mv mb mv mi mp 0 0 mo mO mI mL mA mW mE mF mc mM (vp_updL oL (0 : Int32).toNatClampNeg s_bc.toInt64) oD := by
      obtain ⟨n, c, x1, x2, x3, x4, x5, x6⟩ := jh
      exact ⟨⟨M, VW_up hV (by omega) (by omega), hm, hr⟩, JS_up js (by omega) (by omega), ⟨n, 0, x1, by omega, x3, rfl, rfl, fun p hp => absurd hp (by omega)⟩, jr⟩
    refine ⟨s_on, s_ot, s_op, s_os, s_sc, s_sd, s_sp, s_sw, s_gc, s_gp, s_gr, s_bc, s_bg, s_bs, s_bt, s_be, s_ql, s_qg, s_fc, s_fg, s_fs, s_fm, 0, mv, 0, 0, _, ?_, hJ'⟩
    have hxi : ¬ xi = (0 : Int32) := by rw [z2]; decide
    have e : mv (2 : Int32).toNatClampNeg = s_bc := by rw [at_i hm (k := 2) (by decide) (by omega)]; exact hr.2.2.2.1.1.symm
    have hL : f_L_restore on ot op os sc sd sp sw gc gp gr bc bg bs bt be ql qg fc fg fs fm s_on s_ot s_op s_os s_sc s_sd s_sp s_sw s_gc s_gp s_gr s_bc s_bg s_bs s_bt s_be s_ql s_qg s_fc s_fg s_fs s_fm xi yc oL = some (0, s_on, s_ot, s_op, s_os, s_sc, s_sd, s_sp, s_sw, s_gc, s_gp, s_gr, s_bc, s_bg, s_bs, s_bt, s_be, s_ql, s_qg, s_fc, s_fg, s_fs, s_fm, 0, vp_updL oL (0 : Int32).toNatClampNeg s_bc.toInt64) := by
      rw [f_L_restore]
      refine sft24_n ?_ (sfc24_i (a0 := s_bc) ?_ (sfg_i (by decide) (sfn_r rfl rfl)))
      · rw [f_TX11_restore]; exact sfb_f hxi (sfc22_i copy_8 (sfc1_i (a := (0 : Int32)) rfl rfl))
      · rw [f_X11_restore]; exact sfb_f hxi (sfc22_i copy_8 (sfc1_i (a := (0 : Int32)) rfl rfl))
    have hM : f_X12_restore ms mv mi mn mt = some (s_bc, mv, 0, 0) := by
      rw [f_X12_restore]; exact sfb_f (by rw [← z1]; exact hxi) (sfg_i (by decide) (by rw [e]))
    rw [f_law55]
    exact sfc25_i hL (sfc4_i hM (sfc1_i rfl (sfb_t rfl (sfb_t rfl (sfg_i (by decide) (sfb_t lgq rfl))))))
