/-! the calls that change the park -/
theorem t00 : ∀ (i : Nat) (on : Int32) (ot : Int32) (op : Int32) (os : Int32) (sc : Int32) (sd : Nat → Int32) (sp : Nat → Int32) (sw : Nat → Int32) (gc : Int32) (gp : Nat → Int32) (gr : Nat → Int32) (bc : Int32) (bg : Nat → Int32) (bs : Nat → Int32) (bt : Nat → Int32) (be : Nat → Int32) (ql : Nat → Int32) (qg : Nat → Int32) (fc : Int32) (fg : Nat → Int32) (fs : Nat → Int32) (fm : Nat → Int32) (s_on : Int32) (s_ot : Int32) (s_op : Int32) (s_os : Int32) (s_sc : Int32) (s_sd : Nat → Int32) (s_sp : Nat → Int32) (s_sw : Nat → Int32) (s_gc : Int32) (s_gp : Nat → Int32) (s_gr : Nat → Int32) (s_bc : Int32) (s_bg : Nat → Int32) (s_bs : Nat → Int32) (s_bt : Nat → Int32) (s_be : Nat → Int32) (s_ql : Nat → Int32) (s_qg : Nat → Int32) (s_fc : Int32) (s_fg : Nat → Int32) (s_fs : Nat → Int32) (s_fm : Nat → Int32) (xi : Int32) (yv : Nat → OffT) (yn : Int32) (yc : Int32) (ko : Nat → Int32) (kl : Nat → Int32) (ts : Nat → Int32) (tl : Int32) (tp : Int32) (tn : Nat → Int32) (sv : Nat → Int32) (sK : Nat) (sm : Int32) (sn : Int32) (xe : Int32) (xf : Int32) (ms : Nat → Int32) (mb : Nat → Int32) (mv : Nat → Int32) (mi : Int32) (mp : Nat → Int32) (mn : Int32) (mt : Int32) (mo : Nat → Int32) (mO : Int32) (mI : Nat → Int32) (mL : Int32) (mA : Int32) (mW : Int32) (mE : Int32) (mF : Int32) (mc : Nat → Int32) (mM : Int32) (oL : Nat → Int64) (oD : Nat → UInt64) (p1 p2 p3 : Int32), i < 512 → JB i on ot op os sc sd sp sw gc gp gr bc bg bs bt be ql qg fc fg fs fm s_on s_ot s_op s_os s_sc s_sd s_sp s_sw s_gc s_gp s_gr s_bc s_bg s_bs s_bt s_be s_ql s_qg s_fc s_fg s_fs s_fm xi yv yn yc ko kl ts tl tp tn sv sK sm sn xe xf ms mb mv mi mp mn mt mo mO mI mL mA mW mE mF mc mM oL oD → ∃ (q_sc : Int32) (q_sd : Nat → Int32) (q_sp : Nat → Int32) (q_sw : Nat → Int32) (q_yv : Nat → OffT) (q_yn : Int32) (q_yc : Int32) (q_ms : Nat → Int32) (q_mb : Nat → Int32) (q_mp : Nat → Int32) (q_mn : Int32) (q_mt : Int32) (q_oL : Nat → Int64), f_law00 on ot op os sc sd sp sw gc gp gr bc bg bs bt be ql qg fc fg fs fm yv yn yc ms mb mp mn mt oL p1 p2 = some (q_sc, q_sd, q_sp, q_sw, q_yv, q_yn, q_yc, q_ms, q_mb, q_mp, q_mn, q_mt, q_oL) ∧ JB (i + 1) on ot op os q_sc q_sd q_sp q_sw gc gp gr bc bg bs bt be ql qg fc fg fs fm s_on s_ot s_op s_os s_sc s_sd s_sp s_sw s_gc s_gp s_gr s_bc s_bg s_bs s_bt s_be s_ql s_qg s_fc s_fg s_fs s_fm xi q_yv q_yn q_yc ko kl ts tl tp tn sv sK sm sn xe xf q_ms q_mb mv mi q_mp q_mn q_mt mo mO mI mL mA mW mE mF mc mM q_oL oD := by
  intro i on ot op os sc sd sp sw gc gp gr bc bg bs bt be ql qg fc fg fs fm s_on s_ot s_op s_os s_sc s_sd s_sp s_sw s_gc s_gp s_gr s_bc s_bg s_bs s_bt s_be s_ql s_qg s_fc s_fg s_fs s_fm xi yv yn yc ko kl ts tl tp tn sv sK sm sn xe xf ms mb mv mi mp mn mt mo mO mI mL mA mW mE mF mc mM oL oD p1 p2 p3 hi hJ
  have hK := hJ
  obtain ⟨⟨M, hV, hm, hr⟩, _⟩ := hK
  obtain ⟨yv', hp, _, hH, hy⟩ := HH_prep hJ.2.2.1 on ot op os sc sd sp sw gc gp gr bc bg bs bt be ql qg fc fg fs fm
  rcases sim_build hV hm hr p1 p2 0 with ⟨c, o, hco, h1, h2⟩ | ⟨a, M', ms', sc', sd', sp', sw', h1, h2, h3, h4, h5, h6⟩
  · have hJ' : JB (i + 1) on ot op os sc sd sp sw gc gp gr bc bg bs bt be ql qg fc fg fs fm s_on s_ot s_op s_os s_sc s_sd s_sp s_sw s_gc s_gp s_gr s_bc s_bg s_bs s_bt s_be s_ql s_qg s_fc s_fg s_fs s_fm xi yv' yn yc ko kl ts tl tp tn sv sK sm sn xe xf ms ms mv mi mp mn (nI c) mo mO mI mL mA mW mE mF mc mM oL oD := by
      obtain ⟨a, b, c, d⟩ := hJ
      exact ⟨JP_up a (by omega) (by omega), JS_up b (by omega) (by omega), HH_up hH (by omega) (by omega), d⟩
    refine ⟨sc, sd, sp, sw, yv', yn, yc, ms, ms, mp, mn, nI c, oL, ?_, hJ'⟩
    have hc : 1 ≤ c ∧ c < 100 := by omega
    have hL : f_L_buildSlide on ot op os sc sd sp sw gc gp gr bc bg bs bt be ql qg fc fg fs fm yv yn yc oL p1 p2 = some (nI c, sc, sd, sp, sw, yv', yn, yc, oL) := by
      rw [f_L_buildSlide]
      rcases hco with ⟨rfl, rfl⟩ | ⟨rfl, rfl⟩
      · refine sft8_s (a0 := 1) ?_ (sfb_t rfl rfl)
        rw [f_TX11_buildSlide]
        exact sfc1_i hp (sfc5_i h1 (sft3_s rec_2 rfl))
      · refine sft8_s (a0 := 2) ?_ (sfb_f (by decide) (sfb_t rfl rfl))
        rw [f_TX11_buildSlide]
        exact sfc1_i hp (sfc5_i h1 (sft3_s rec_3 rfl))
    have hM : f_X12_buildSlide ms mb mp mn mt p1 p2 = some (0, ms, ms, mp, mn, nI c) := by
      rw [f_X12_buildSlide]
      exact sfc2_i (a := ms) (b := 0) rfl (sfc3_i h2 (sfc4_i (ends_f hc.1 hc.2) rfl))
    rw [f_law00]
    refine sfc9_i hL (sfc6_i hM (sfc1_i rfl (sfb_t rfl (sfb_f ?_ rfl))))
    rw [show (0 : Int32) = nI 0 from rfl, nI_eqP (by omega) (by omega)]
    omega
  · obtain ⟨yn', yc', mp', mn', k1, k2, k3⟩ := HH_keep hH hV hm (by rw [hy]; exact hr)
    have hJ' : JB (i + 1) on ot op os sc' sd' sp' sw' gc gp gr bc bg bs bt be ql qg fc fg fs fm s_on s_ot s_op s_os s_sc s_sd s_sp s_sw s_gc s_gp s_gr s_bc s_bg s_bs s_bt s_be s_ql s_qg s_fc s_fg s_fs s_fm xi yv' yn' yc' ko kl ts tl tp tn sv sK sm sn xe xf ms' ms mv mi mp' mn' 0 mo mO mI mL mA mW mE mF mc mM (vp_updL oL (0 : Int32).toNatClampNeg (nI a).toInt64) oD := by
      obtain ⟨a, b, c, d⟩ := hJ
      exact ⟨⟨M', VW_up h4 (by omega) (by omega), h5, h6⟩, JS_up b (by omega) (by omega), HH_up k3 (by omega) (by omega), d⟩
    refine ⟨sc', sd', sp', sw', yv', yn', yc', ms', ms, mp', mn', 0, vp_updL oL (0 : Int32).toNatClampNeg (nI a).toInt64, ?_, hJ'⟩
    have hL : f_L_buildSlide on ot op os sc sd sp sw gc gp gr bc bg bs bt be ql qg fc fg fs fm yv yn yc oL p1 p2 = some (0, sc', sd', sp', sw', yv', yn', yc', vp_updL oL (0 : Int32).toNatClampNeg (nI a).toInt64) := by
      rw [f_L_buildSlide]
      refine sft8_n ?_ (sfc8_i (a0 := nI a) ?_ (sfg_i (by decide) (sfn_r rfl rfl)))
      · rw [f_TX11_buildSlide]
        exact sfc1_i hp (sfc5_i h1 (sft3_n (rec_s h3 k1).2 (sfc3_i (rec_s h3 k1).1 rfl)))
      · rw [f_X11_buildSlide]
        exact sfc1_i hp (sfc5_i h1 (sfc3_i (rec_s h3 k1).1 rfl))
    have hM : f_X12_buildSlide ms mb mp mn mt p1 p2 = some (nI a, ms', ms, mp', mn', 0) := by
      rw [f_X12_buildSlide]
      exact sfc2_i (a := ms) (b := 0) rfl (sfc3_i h2 (sfc4_i (k2 _ _) rfl))
    rw [f_law00]
    exact sfc9_i hL (sfc6_i hM (sfc1_i rfl (sfb_t rfl (sfb_t rfl (sfg_i (by decide) (sfb_t lgq rfl))))))
theorem t01 : ∀ (i : Nat) (on : Int32) (ot : Int32) (op : Int32) (os : Int32) (sc : Int32) (sd : Nat → Int32) (sp : Nat → Int32) (sw : Nat → Int32) (gc : Int32) (gp : Nat → Int32) (gr : Nat → Int32) (bc : Int32) (bg : Nat → Int32) (bs : Nat → Int32) (bt : Nat → Int32) (be : Nat → Int32) (ql : Nat → Int32) (qg : Nat → Int32) (fc : Int32) (fg : Nat → Int32) (fs : Nat → Int32) (fm : Nat → Int32) (s_on : Int32) (s_ot : Int32) (s_op : Int32) (s_os : Int32) (s_sc : Int32) (s_sd : Nat → Int32) (s_sp : Nat → Int32) (s_sw : Nat → Int32) (s_gc : Int32) (s_gp : Nat → Int32) (s_gr : Nat → Int32) (s_bc : Int32) (s_bg : Nat → Int32) (s_bs : Nat → Int32) (s_bt : Nat → Int32) (s_be : Nat → Int32) (s_ql : Nat → Int32) (s_qg : Nat → Int32) (s_fc : Int32) (s_fg : Nat → Int32) (s_fs : Nat → Int32) (s_fm : Nat → Int32) (xi : Int32) (yv : Nat → OffT) (yn : Int32) (yc : Int32) (ko : Nat → Int32) (kl : Nat → Int32) (ts : Nat → Int32) (tl : Int32) (tp : Int32) (tn : Nat → Int32) (sv : Nat → Int32) (sK : Nat) (sm : Int32) (sn : Int32) (xe : Int32) (xf : Int32) (ms : Nat → Int32) (mb : Nat → Int32) (mv : Nat → Int32) (mi : Int32) (mp : Nat → Int32) (mn : Int32) (mt : Int32) (mo : Nat → Int32) (mO : Int32) (mI : Nat → Int32) (mL : Int32) (mA : Int32) (mW : Int32) (mE : Int32) (mF : Int32) (mc : Nat → Int32) (mM : Int32) (oL : Nat → Int64) (oD : Nat → UInt64) (p1 p2 p3 : Int32), i < 512 → JB i on ot op os sc sd sp sw gc gp gr bc bg bs bt be ql qg fc fg fs fm s_on s_ot s_op s_os s_sc s_sd s_sp s_sw s_gc s_gp s_gr s_bc s_bg s_bs s_bt s_be s_ql s_qg s_fc s_fg s_fs s_fm xi yv yn yc ko kl ts tl tp tn sv sK sm sn xe xf ms mb mv mi mp mn mt mo mO mI mL mA mW mE mF mc mM oL oD → ∃ (q_gc : Int32) (q_gp : Nat → Int32) (q_gr : Nat → Int32) (q_yv : Nat → OffT) (q_yn : Int32) (q_yc : Int32) (q_ms : Nat → Int32) (q_mb : Nat → Int32) (q_mp : Nat → Int32) (q_mn : Int32) (q_mt : Int32) (q_oL : Nat → Int64), f_law01 on ot op os sc sd sp sw gc gp gr bc bg bs bt be ql qg fc fg fs fm yv yn yc ms mb mp mn mt oL = some (q_gc, q_gp, q_gr, q_yv, q_yn, q_yc, q_ms, q_mb, q_mp, q_mn, q_mt, q_oL) ∧ JB (i + 1) on ot op os sc sd sp sw q_gc q_gp q_gr bc bg bs bt be ql qg fc fg fs fm s_on s_ot s_op s_os s_sc s_sd s_sp s_sw s_gc s_gp s_gr s_bc s_bg s_bs s_bt s_be s_ql s_qg s_fc s_fg s_fs s_fm xi q_yv q_yn q_yc ko kl ts tl tp tn sv sK sm sn xe xf q_ms q_mb mv mi q_mp q_mn q_mt mo mO mI mL mA mW mE mF mc mM q_oL oD := by
  intro i on ot op os sc sd sp sw gc gp gr bc bg bs bt be ql qg fc fg fs fm s_on s_ot s_op s_os s_sc s_sd s_sp s_sw s_gc s_gp s_gr s_bc s_bg s_bs s_bt s_be s_ql s_qg s_fc s_fg s_fs s_fm xi yv yn yc ko kl ts tl tp tn sv sK sm sn xe xf ms mb mv mi mp mn mt mo mO mI mL mA mW mE mF mc mM oL oD p1 p2 p3 hi hJ
  have hK := hJ
  obtain ⟨⟨M, hV, hm, hr⟩, _⟩ := hK
  obtain ⟨yv', hp, _, hH, hy⟩ := HH_prep hJ.2.2.1 on ot op os sc sd sp sw gc gp gr bc bg bs bt be ql qg fc fg fs fm
  rcases sim_guest hV hm hr 0 with ⟨c, o, hco, h1, h2⟩ | ⟨a, M', ms', gc', gp', gr', h1, h2, h3, h4, h5, h6⟩
  · have hJ' : JB (i + 1) on ot op os sc sd sp sw gc gp gr bc bg bs bt be ql qg fc fg fs fm s_on s_ot s_op s_os s_sc s_sd s_sp s_sw s_gc s_gp s_gr s_bc s_bg s_bs s_bt s_be s_ql s_qg s_fc s_fg s_fs s_fm xi yv' yn yc ko kl ts tl tp tn sv sK sm sn xe xf ms ms mv mi mp mn (nI c) mo mO mI mL mA mW mE mF mc mM oL oD := by
      obtain ⟨a, b, c, d⟩ := hJ
      exact ⟨JP_up a (by omega) (by omega), JS_up b (by omega) (by omega), HH_up hH (by omega) (by omega), d⟩
    refine ⟨gc, gp, gr, yv', yn, yc, ms, ms, mp, mn, nI c, oL, ?_, hJ'⟩
    have hc : 1 ≤ c ∧ c < 100 := by omega
    have hL : f_L_addGuest on ot op os sc sd sp sw gc gp gr bc bg bs bt be ql qg fc fg fs fm yv yn yc oL = some (nI c, gc, gp, gr, yv', yn, yc, oL) := by
      rw [f_L_addGuest]
      rcases hco with ⟨rfl, rfl⟩
      · refine sft7_s (a0 := 2) ?_ (sfb_t rfl rfl)
        rw [f_TX11_addGuest]
        exact sfc1_i hp (sfc4_i h1 (sft3_s rec_3 rfl))
    have hM : f_X12_addGuest ms mb mp mn mt = some (0, ms, ms, mp, mn, nI c) := by
      rw [f_X12_addGuest]
      exact sfc2_i (a := ms) (b := 0) rfl (sfc3_i h2 (sfc4_i (ends_f hc.1 hc.2) rfl))
    rw [f_law01]
    refine sfc8_i hL (sfc6_i hM (sfc1_i rfl (sfb_t rfl (sfb_f ?_ rfl))))
    rw [show (0 : Int32) = nI 0 from rfl, nI_eqP (by omega) (by omega)]
    omega
  · obtain ⟨yn', yc', mp', mn', k1, k2, k3⟩ := HH_keep hH hV hm (by rw [hy]; exact hr)
    have hJ' : JB (i + 1) on ot op os sc sd sp sw gc' gp' gr' bc bg bs bt be ql qg fc fg fs fm s_on s_ot s_op s_os s_sc s_sd s_sp s_sw s_gc s_gp s_gr s_bc s_bg s_bs s_bt s_be s_ql s_qg s_fc s_fg s_fs s_fm xi yv' yn' yc' ko kl ts tl tp tn sv sK sm sn xe xf ms' ms mv mi mp' mn' 0 mo mO mI mL mA mW mE mF mc mM (vp_updL oL (0 : Int32).toNatClampNeg (nI a).toInt64) oD := by
      obtain ⟨a, b, c, d⟩ := hJ
      exact ⟨⟨M', VW_up h4 (by omega) (by omega), h5, h6⟩, JS_up b (by omega) (by omega), HH_up k3 (by omega) (by omega), d⟩
    refine ⟨gc', gp', gr', yv', yn', yc', ms', ms, mp', mn', 0, vp_updL oL (0 : Int32).toNatClampNeg (nI a).toInt64, ?_, hJ'⟩
    have hL : f_L_addGuest on ot op os sc sd sp sw gc gp gr bc bg bs bt be ql qg fc fg fs fm yv yn yc oL = some (0, gc', gp', gr', yv', yn', yc', vp_updL oL (0 : Int32).toNatClampNeg (nI a).toInt64) := by
      rw [f_L_addGuest]
      refine sft7_n ?_ (sfc7_i (a0 := nI a) ?_ (sfg_i (by decide) (sfn_r rfl rfl)))
      · rw [f_TX11_addGuest]
        exact sfc1_i hp (sfc4_i h1 (sft3_n (rec_s h3 k1).2 (sfc3_i (rec_s h3 k1).1 rfl)))
      · rw [f_X11_addGuest]
        exact sfc1_i hp (sfc4_i h1 (sfc3_i (rec_s h3 k1).1 rfl))
    have hM : f_X12_addGuest ms mb mp mn mt = some (nI a, ms', ms, mp', mn', 0) := by
      rw [f_X12_addGuest]
      exact sfc2_i (a := ms) (b := 0) rfl (sfc3_i h2 (sfc4_i (k2 _ _) rfl))
    rw [f_law01]
    exact sfc8_i hL (sfc6_i hM (sfc1_i rfl (sfb_t rfl (sfb_t rfl (sfg_i (by decide) (sfb_t lgq rfl))))))
theorem t02 : ∀ (i : Nat) (on : Int32) (ot : Int32) (op : Int32) (os : Int32) (sc : Int32) (sd : Nat → Int32) (sp : Nat → Int32) (sw : Nat → Int32) (gc : Int32) (gp : Nat → Int32) (gr : Nat → Int32) (bc : Int32) (bg : Nat → Int32) (bs : Nat → Int32) (bt : Nat → Int32) (be : Nat → Int32) (ql : Nat → Int32) (qg : Nat → Int32) (fc : Int32) (fg : Nat → Int32) (fs : Nat → Int32) (fm : Nat → Int32) (s_on : Int32) (s_ot : Int32) (s_op : Int32) (s_os : Int32) (s_sc : Int32) (s_sd : Nat → Int32) (s_sp : Nat → Int32) (s_sw : Nat → Int32) (s_gc : Int32) (s_gp : Nat → Int32) (s_gr : Nat → Int32) (s_bc : Int32) (s_bg : Nat → Int32) (s_bs : Nat → Int32) (s_bt : Nat → Int32) (s_be : Nat → Int32) (s_ql : Nat → Int32) (s_qg : Nat → Int32) (s_fc : Int32) (s_fg : Nat → Int32) (s_fs : Nat → Int32) (s_fm : Nat → Int32) (xi : Int32) (yv : Nat → OffT) (yn : Int32) (yc : Int32) (ko : Nat → Int32) (kl : Nat → Int32) (ts : Nat → Int32) (tl : Int32) (tp : Int32) (tn : Nat → Int32) (sv : Nat → Int32) (sK : Nat) (sm : Int32) (sn : Int32) (xe : Int32) (xf : Int32) (ms : Nat → Int32) (mb : Nat → Int32) (mv : Nat → Int32) (mi : Int32) (mp : Nat → Int32) (mn : Int32) (mt : Int32) (mo : Nat → Int32) (mO : Int32) (mI : Nat → Int32) (mL : Int32) (mA : Int32) (mW : Int32) (mE : Int32) (mF : Int32) (mc : Nat → Int32) (mM : Int32) (oL : Nat → Int64) (oD : Nat → UInt64) (p1 p2 p3 : Int32), i < 512 → JB i on ot op os sc sd sp sw gc gp gr bc bg bs bt be ql qg fc fg fs fm s_on s_ot s_op s_os s_sc s_sd s_sp s_sw s_gc s_gp s_gr s_bc s_bg s_bs s_bt s_be s_ql s_qg s_fc s_fg s_fs s_fm xi yv yn yc ko kl ts tl tp tn sv sK sm sn xe xf ms mb mv mi mp mn mt mo mO mI mL mA mW mE mF mc mM oL oD → ∃ (q_ot : Int32) (q_gp : Nat → Int32) (q_bc : Int32) (q_bg : Nat → Int32) (q_bs : Nat → Int32) (q_bt : Nat → Int32) (q_be : Nat → Int32) (q_yv : Nat → OffT) (q_yn : Int32) (q_yc : Int32) (q_ms : Nat → Int32) (q_mb : Nat → Int32) (q_mp : Nat → Int32) (q_mn : Int32) (q_mt : Int32) (q_oL : Nat → Int64), f_law02 on ot op os sc sd sp sw gc gp gr bc bg bs bt be ql qg fc fg fs fm yv yn yc ms mb mp mn mt oL p1 p2 p3 = some (q_ot, q_gp, q_bc, q_bg, q_bs, q_bt, q_be, q_yv, q_yn, q_yc, q_ms, q_mb, q_mp, q_mn, q_mt, q_oL) ∧ JB (i + 1) on q_ot op os sc sd sp sw gc q_gp gr q_bc q_bg q_bs q_bt q_be ql qg fc fg fs fm s_on s_ot s_op s_os s_sc s_sd s_sp s_sw s_gc s_gp s_gr s_bc s_bg s_bs s_bt s_be s_ql s_qg s_fc s_fg s_fs s_fm xi q_yv q_yn q_yc ko kl ts tl tp tn sv sK sm sn xe xf q_ms q_mb mv mi q_mp q_mn q_mt mo mO mI mL mA mW mE mF mc mM q_oL oD := by
  intro i on ot op os sc sd sp sw gc gp gr bc bg bs bt be ql qg fc fg fs fm s_on s_ot s_op s_os s_sc s_sd s_sp s_sw s_gc s_gp s_gr s_bc s_bg s_bs s_bt s_be s_ql s_qg s_fc s_fg s_fs s_fm xi yv yn yc ko kl ts tl tp tn sv sK sm sn xe xf ms mb mv mi mp mn mt mo mO mI mL mA mW mE mF mc mM oL oD p1 p2 p3 hi hJ
  have hK := hJ
  obtain ⟨⟨M, hV, hm, hr⟩, _⟩ := hK
  obtain ⟨yv', hp, _, hH, hy⟩ := HH_prep hJ.2.2.1 on ot op os sc sd sp sw gc gp gr bc bg bs bt be ql qg fc fg fs fm
  rcases sim_book hV hm hr p1 p2 p3 0 with ⟨c, o, hco, h1, h2⟩ | ⟨a, M', ms', ot', gp', bc', bg', bs', bt', be', h1, h2, h3, h4, h5, h6⟩
  · have hJ' : JB (i + 1) on ot op os sc sd sp sw gc gp gr bc bg bs bt be ql qg fc fg fs fm s_on s_ot s_op s_os s_sc s_sd s_sp s_sw s_gc s_gp s_gr s_bc s_bg s_bs s_bt s_be s_ql s_qg s_fc s_fg s_fs s_fm xi yv' yn yc ko kl ts tl tp tn sv sK sm sn xe xf ms ms mv mi mp mn (nI c) mo mO mI mL mA mW mE mF mc mM oL oD := by
      obtain ⟨a, b, c, d⟩ := hJ
      exact ⟨JP_up a (by omega) (by omega), JS_up b (by omega) (by omega), HH_up hH (by omega) (by omega), d⟩
    refine ⟨ot, gp, bc, bg, bs, bt, be, yv', yn, yc, ms, ms, mp, mn, nI c, oL, ?_, hJ'⟩
    have hc : 1 ≤ c ∧ c < 100 := by omega
    have hL : f_L_book on ot op os sc sd sp sw gc gp gr bc bg bs bt be ql qg fc fg fs fm yv yn yc oL p1 p2 p3 = some (nI c, ot, gp, bc, bg, bs, bt, be, yv', yn, yc, oL) := by
      rw [f_L_book]
      rcases hco with ⟨rfl, rfl⟩ | ⟨rfl, rfl⟩ | ⟨rfl, rfl⟩ | ⟨rfl, rfl⟩
      · refine sft11_s (a0 := 0) ?_ (sfb_t rfl rfl)
        rw [f_TX11_book]
        exact sfc1_i hp (sfc8_i h1 (sft3_s rec_1 rfl))
      · refine sft11_s (a0 := 1) ?_ (sfb_f (by decide) (sfb_t rfl rfl))
        rw [f_TX11_book]
        exact sfc1_i hp (sfc8_i h1 (sft3_s rec_2 rfl))
      · refine sft11_s (a0 := 2) ?_ (sfb_f (by decide) (sfb_f (by decide) (sfb_t rfl rfl)))
        rw [f_TX11_book]
        exact sfc1_i hp (sfc8_i h1 (sft3_s rec_3 rfl))
      · refine sft11_s (a0 := 3) ?_ (sfb_f (by decide) (sfb_f (by decide) (sfb_f (by decide) (sfb_t rfl rfl))))
        rw [f_TX11_book]
        exact sfc1_i hp (sfc8_i h1 (sft3_s rec_4 rfl))
    have hM : f_X12_book ms mb mp mn mt p1 p2 p3 = some (0, ms, ms, mp, mn, nI c) := by
      rw [f_X12_book]
      exact sfc2_i (a := ms) (b := 0) rfl (sfc3_i h2 (sfc4_i (ends_f hc.1 hc.2) rfl))
    rw [f_law02]
    refine sfc12_i hL (sfc6_i hM (sfc1_i rfl (sfb_t rfl (sfb_f ?_ rfl))))
    rw [show (0 : Int32) = nI 0 from rfl, nI_eqP (by omega) (by omega)]
    omega
  · obtain ⟨yn', yc', mp', mn', k1, k2, k3⟩ := HH_keep hH hV hm (by rw [hy]; exact hr)
    have hJ' : JB (i + 1) on ot' op os sc sd sp sw gc gp' gr bc' bg' bs' bt' be' ql qg fc fg fs fm s_on s_ot s_op s_os s_sc s_sd s_sp s_sw s_gc s_gp s_gr s_bc s_bg s_bs s_bt s_be s_ql s_qg s_fc s_fg s_fs s_fm xi yv' yn' yc' ko kl ts tl tp tn sv sK sm sn xe xf ms' ms mv mi mp' mn' 0 mo mO mI mL mA mW mE mF mc mM (vp_updL oL (0 : Int32).toNatClampNeg (nI a).toInt64) oD := by
      obtain ⟨a, b, c, d⟩ := hJ
      exact ⟨⟨M', VW_up h4 (by omega) (by omega), h5, h6⟩, JS_up b (by omega) (by omega), HH_up k3 (by omega) (by omega), d⟩
    refine ⟨ot', gp', bc', bg', bs', bt', be', yv', yn', yc', ms', ms, mp', mn', 0, vp_updL oL (0 : Int32).toNatClampNeg (nI a).toInt64, ?_, hJ'⟩
    have hL : f_L_book on ot op os sc sd sp sw gc gp gr bc bg bs bt be ql qg fc fg fs fm yv yn yc oL p1 p2 p3 = some (0, ot', gp', bc', bg', bs', bt', be', yv', yn', yc', vp_updL oL (0 : Int32).toNatClampNeg (nI a).toInt64) := by
      rw [f_L_book]
      refine sft11_n ?_ (sfc11_i (a0 := nI a) ?_ (sfg_i (by decide) (sfn_r rfl rfl)))
      · rw [f_TX11_book]
        exact sfc1_i hp (sfc8_i h1 (sft3_n (rec_s h3 k1).2 (sfc3_i (rec_s h3 k1).1 rfl)))
      · rw [f_X11_book]
        exact sfc1_i hp (sfc8_i h1 (sfc3_i (rec_s h3 k1).1 rfl))
    have hM : f_X12_book ms mb mp mn mt p1 p2 p3 = some (nI a, ms', ms, mp', mn', 0) := by
      rw [f_X12_book]
      exact sfc2_i (a := ms) (b := 0) rfl (sfc3_i h2 (sfc4_i (k2 _ _) rfl))
    rw [f_law02]
    exact sfc12_i hL (sfc6_i hM (sfc1_i rfl (sfb_t rfl (sfb_t rfl (sfg_i (by decide) (sfb_t lgq rfl))))))
theorem t03 : ∀ (i : Nat) (on : Int32) (ot : Int32) (op : Int32) (os : Int32) (sc : Int32) (sd : Nat → Int32) (sp : Nat → Int32) (sw : Nat → Int32) (gc : Int32) (gp : Nat → Int32) (gr : Nat → Int32) (bc : Int32) (bg : Nat → Int32) (bs : Nat → Int32) (bt : Nat → Int32) (be : Nat → Int32) (ql : Nat → Int32) (qg : Nat → Int32) (fc : Int32) (fg : Nat → Int32) (fs : Nat → Int32) (fm : Nat → Int32) (s_on : Int32) (s_ot : Int32) (s_op : Int32) (s_os : Int32) (s_sc : Int32) (s_sd : Nat → Int32) (s_sp : Nat → Int32) (s_sw : Nat → Int32) (s_gc : Int32) (s_gp : Nat → Int32) (s_gr : Nat → Int32) (s_bc : Int32) (s_bg : Nat → Int32) (s_bs : Nat → Int32) (s_bt : Nat → Int32) (s_be : Nat → Int32) (s_ql : Nat → Int32) (s_qg : Nat → Int32) (s_fc : Int32) (s_fg : Nat → Int32) (s_fs : Nat → Int32) (s_fm : Nat → Int32) (xi : Int32) (yv : Nat → OffT) (yn : Int32) (yc : Int32) (ko : Nat → Int32) (kl : Nat → Int32) (ts : Nat → Int32) (tl : Int32) (tp : Int32) (tn : Nat → Int32) (sv : Nat → Int32) (sK : Nat) (sm : Int32) (sn : Int32) (xe : Int32) (xf : Int32) (ms : Nat → Int32) (mb : Nat → Int32) (mv : Nat → Int32) (mi : Int32) (mp : Nat → Int32) (mn : Int32) (mt : Int32) (mo : Nat → Int32) (mO : Int32) (mI : Nat → Int32) (mL : Int32) (mA : Int32) (mW : Int32) (mE : Int32) (mF : Int32) (mc : Nat → Int32) (mM : Int32) (oL : Nat → Int64) (oD : Nat → UInt64) (p1 p2 p3 : Int32), i < 512 → JB i on ot op os sc sd sp sw gc gp gr bc bg bs bt be ql qg fc fg fs fm s_on s_ot s_op s_os s_sc s_sd s_sp s_sw s_gc s_gp s_gr s_bc s_bg s_bs s_bt s_be s_ql s_qg s_fc s_fg s_fs s_fm xi yv yn yc ko kl ts tl tp tn sv sK sm sn xe xf ms mb mv mi mp mn mt mo mO mI mL mA mW mE mF mc mM oL oD → ∃ (q_ot : Int32) (q_op : Int32) (q_gp : Nat → Int32) (q_bc : Int32) (q_bg : Nat → Int32) (q_bs : Nat → Int32) (q_bt : Nat → Int32) (q_be : Nat → Int32) (q_yv : Nat → OffT) (q_yn : Int32) (q_yc : Int32) (q_ms : Nat → Int32) (q_mb : Nat → Int32) (q_mp : Nat → Int32) (q_mn : Int32) (q_mt : Int32) (q_oL : Nat → Int64), f_law03 on ot op os sc sd sp sw gc gp gr bc bg bs bt be ql qg fc fg fs fm yv yn yc ms mb mp mn mt oL p1 = some (q_ot, q_op, q_gp, q_bc, q_bg, q_bs, q_bt, q_be, q_yv, q_yn, q_yc, q_ms, q_mb, q_mp, q_mn, q_mt, q_oL) ∧ JB (i + 1) on q_ot q_op os sc sd sp sw gc q_gp gr q_bc q_bg q_bs q_bt q_be ql qg fc fg fs fm s_on s_ot s_op s_os s_sc s_sd s_sp s_sw s_gc s_gp s_gr s_bc s_bg s_bs s_bt s_be s_ql s_qg s_fc s_fg s_fs s_fm xi q_yv q_yn q_yc ko kl ts tl tp tn sv sK sm sn xe xf q_ms q_mb mv mi q_mp q_mn q_mt mo mO mI mL mA mW mE mF mc mM q_oL oD := by
  intro i on ot op os sc sd sp sw gc gp gr bc bg bs bt be ql qg fc fg fs fm s_on s_ot s_op s_os s_sc s_sd s_sp s_sw s_gc s_gp s_gr s_bc s_bg s_bs s_bt s_be s_ql s_qg s_fc s_fg s_fs s_fm xi yv yn yc ko kl ts tl tp tn sv sK sm sn xe xf ms mb mv mi mp mn mt mo mO mI mL mA mW mE mF mc mM oL oD p1 p2 p3 hi hJ
  have hK := hJ
  obtain ⟨⟨M, hV, hm, hr⟩, _⟩ := hK
  obtain ⟨yv', hp, _, hH, hy⟩ := HH_prep hJ.2.2.1 on ot op os sc sd sp sw gc gp gr bc bg bs bt be ql qg fc fg fs fm
  rcases sim_cancel hV hm hr p1 0 with ⟨c, o, hco, h1, h2⟩ | ⟨a, M', ms', ot', op', gp', bc', bg', bs', bt', be', h1, h2, h3, h4, h5, h6⟩
  · have hJ' : JB (i + 1) on ot op os sc sd sp sw gc gp gr bc bg bs bt be ql qg fc fg fs fm s_on s_ot s_op s_os s_sc s_sd s_sp s_sw s_gc s_gp s_gr s_bc s_bg s_bs s_bt s_be s_ql s_qg s_fc s_fg s_fs s_fm xi yv' yn yc ko kl ts tl tp tn sv sK sm sn xe xf ms ms mv mi mp mn (nI c) mo mO mI mL mA mW mE mF mc mM oL oD := by
      obtain ⟨a, b, c, d⟩ := hJ
      exact ⟨JP_up a (by omega) (by omega), JS_up b (by omega) (by omega), HH_up hH (by omega) (by omega), d⟩
    refine ⟨ot, op, gp, bc, bg, bs, bt, be, yv', yn, yc, ms, ms, mp, mn, nI c, oL, ?_, hJ'⟩
    have hc : 1 ≤ c ∧ c < 100 := by omega
    have hL : f_L_cancel on ot op os sc sd sp sw gc gp gr bc bg bs bt be ql qg fc fg fs fm yv yn yc oL p1 = some (nI c, ot, op, gp, bc, bg, bs, bt, be, yv', yn, yc, oL) := by
      rw [f_L_cancel]
      rcases hco with ⟨rfl, rfl⟩ | ⟨rfl, rfl⟩
      · refine sft12_s (a0 := 0) ?_ (sfb_t rfl rfl)
        rw [f_TX11_cancel]
        exact sfc1_i hp (sfc9_i h1 (sft3_s rec_1 rfl))
      · refine sft12_s (a0 := 2) ?_ (sfb_f (by decide) (sfb_t rfl rfl))
        rw [f_TX11_cancel]
        exact sfc1_i hp (sfc9_i h1 (sft3_s rec_3 rfl))
    have hM : f_X12_cancel ms mb mp mn mt p1 = some (0, ms, ms, mp, mn, nI c) := by
      rw [f_X12_cancel]
      exact sfc2_i (a := ms) (b := 0) rfl (sfc3_i h2 (sfc4_i (ends_f hc.1 hc.2) rfl))
    rw [f_law03]
    refine sfc13_i hL (sfc6_i hM (sfc1_i rfl (sfb_t rfl (sfb_f ?_ rfl))))
    rw [show (0 : Int32) = nI 0 from rfl, nI_eqP (by omega) (by omega)]
    omega
  · obtain ⟨yn', yc', mp', mn', k1, k2, k3⟩ := HH_keep hH hV hm (by rw [hy]; exact hr)
    have hJ' : JB (i + 1) on ot' op' os sc sd sp sw gc gp' gr bc' bg' bs' bt' be' ql qg fc fg fs fm s_on s_ot s_op s_os s_sc s_sd s_sp s_sw s_gc s_gp s_gr s_bc s_bg s_bs s_bt s_be s_ql s_qg s_fc s_fg s_fs s_fm xi yv' yn' yc' ko kl ts tl tp tn sv sK sm sn xe xf ms' ms mv mi mp' mn' 0 mo mO mI mL mA mW mE mF mc mM (vp_updL oL (0 : Int32).toNatClampNeg (nI a).toInt64) oD := by
      obtain ⟨a, b, c, d⟩ := hJ
      exact ⟨⟨M', VW_up h4 (by omega) (by omega), h5, h6⟩, JS_up b (by omega) (by omega), HH_up k3 (by omega) (by omega), d⟩
    refine ⟨ot', op', gp', bc', bg', bs', bt', be', yv', yn', yc', ms', ms, mp', mn', 0, vp_updL oL (0 : Int32).toNatClampNeg (nI a).toInt64, ?_, hJ'⟩
    have hL : f_L_cancel on ot op os sc sd sp sw gc gp gr bc bg bs bt be ql qg fc fg fs fm yv yn yc oL p1 = some (0, ot', op', gp', bc', bg', bs', bt', be', yv', yn', yc', vp_updL oL (0 : Int32).toNatClampNeg (nI a).toInt64) := by
      rw [f_L_cancel]
      refine sft12_n ?_ (sfc12_i (a0 := nI a) ?_ (sfg_i (by decide) (sfn_r rfl rfl)))
      · rw [f_TX11_cancel]
        exact sfc1_i hp (sfc9_i h1 (sft3_n (rec_s h3 k1).2 (sfc3_i (rec_s h3 k1).1 rfl)))
      · rw [f_X11_cancel]
        exact sfc1_i hp (sfc9_i h1 (sfc3_i (rec_s h3 k1).1 rfl))
    have hM : f_X12_cancel ms mb mp mn mt p1 = some (nI a, ms', ms, mp', mn', 0) := by
      rw [f_X12_cancel]
      exact sfc2_i (a := ms) (b := 0) rfl (sfc3_i h2 (sfc4_i (k2 _ _) rfl))
    rw [f_law03]
    exact sfc13_i hL (sfc6_i hM (sfc1_i rfl (sfb_t rfl (sfb_t rfl (sfg_i (by decide) (sfb_t lgq rfl))))))
theorem t04 : ∀ (i : Nat) (on : Int32) (ot : Int32) (op : Int32) (os : Int32) (sc : Int32) (sd : Nat → Int32) (sp : Nat → Int32) (sw : Nat → Int32) (gc : Int32) (gp : Nat → Int32) (gr : Nat → Int32) (bc : Int32) (bg : Nat → Int32) (bs : Nat → Int32) (bt : Nat → Int32) (be : Nat → Int32) (ql : Nat → Int32) (qg : Nat → Int32) (fc : Int32) (fg : Nat → Int32) (fs : Nat → Int32) (fm : Nat → Int32) (s_on : Int32) (s_ot : Int32) (s_op : Int32) (s_os : Int32) (s_sc : Int32) (s_sd : Nat → Int32) (s_sp : Nat → Int32) (s_sw : Nat → Int32) (s_gc : Int32) (s_gp : Nat → Int32) (s_gr : Nat → Int32) (s_bc : Int32) (s_bg : Nat → Int32) (s_bs : Nat → Int32) (s_bt : Nat → Int32) (s_be : Nat → Int32) (s_ql : Nat → Int32) (s_qg : Nat → Int32) (s_fc : Int32) (s_fg : Nat → Int32) (s_fs : Nat → Int32) (s_fm : Nat → Int32) (xi : Int32) (yv : Nat → OffT) (yn : Int32) (yc : Int32) (ko : Nat → Int32) (kl : Nat → Int32) (ts : Nat → Int32) (tl : Int32) (tp : Int32) (tn : Nat → Int32) (sv : Nat → Int32) (sK : Nat) (sm : Int32) (sn : Int32) (xe : Int32) (xf : Int32) (ms : Nat → Int32) (mb : Nat → Int32) (mv : Nat → Int32) (mi : Int32) (mp : Nat → Int32) (mn : Int32) (mt : Int32) (mo : Nat → Int32) (mO : Int32) (mI : Nat → Int32) (mL : Int32) (mA : Int32) (mW : Int32) (mE : Int32) (mF : Int32) (mc : Nat → Int32) (mM : Int32) (oL : Nat → Int64) (oD : Nat → UInt64) (p1 p2 p3 : Int32), i < 512 → JB i on ot op os sc sd sp sw gc gp gr bc bg bs bt be ql qg fc fg fs fm s_on s_ot s_op s_os s_sc s_sd s_sp s_sw s_gc s_gp s_gr s_bc s_bg s_bs s_bt s_be s_ql s_qg s_fc s_fg s_fs s_fm xi yv yn yc ko kl ts tl tp tn sv sK sm sn xe xf ms mb mv mi mp mn mt mo mO mI mL mA mW mE mF mc mM oL oD → ∃ (q_ql : Nat → Int32) (q_qg : Nat → Int32) (q_yv : Nat → OffT) (q_yn : Int32) (q_yc : Int32) (q_ms : Nat → Int32) (q_mb : Nat → Int32) (q_mp : Nat → Int32) (q_mn : Int32) (q_mt : Int32) (q_oL : Nat → Int64), f_law04 on ot op os sc sd sp sw gc gp gr bc bg bs bt be ql qg fc fg fs fm yv yn yc ms mb mp mn mt oL p1 p2 = some (q_ql, q_qg, q_yv, q_yn, q_yc, q_ms, q_mb, q_mp, q_mn, q_mt, q_oL) ∧ JB (i + 1) on ot op os sc sd sp sw gc gp gr bc bg bs bt be q_ql q_qg fc fg fs fm s_on s_ot s_op s_os s_sc s_sd s_sp s_sw s_gc s_gp s_gr s_bc s_bg s_bs s_bt s_be s_ql s_qg s_fc s_fg s_fs s_fm xi q_yv q_yn q_yc ko kl ts tl tp tn sv sK sm sn xe xf q_ms q_mb mv mi q_mp q_mn q_mt mo mO mI mL mA mW mE mF mc mM q_oL oD := by
  intro i on ot op os sc sd sp sw gc gp gr bc bg bs bt be ql qg fc fg fs fm s_on s_ot s_op s_os s_sc s_sd s_sp s_sw s_gc s_gp s_gr s_bc s_bg s_bs s_bt s_be s_ql s_qg s_fc s_fg s_fs s_fm xi yv yn yc ko kl ts tl tp tn sv sK sm sn xe xf ms mb mv mi mp mn mt mo mO mI mL mA mW mE mF mc mM oL oD p1 p2 p3 hi hJ
  have hK := hJ
  obtain ⟨⟨M, hV, hm, hr⟩, _⟩ := hK
  obtain ⟨yv', hp, _, hH, hy⟩ := HH_prep hJ.2.2.1 on ot op os sc sd sp sw gc gp gr bc bg bs bt be ql qg fc fg fs fm
  rcases sim_join hV hm hr p1 p2 0 with ⟨c, o, hco, h1, h2⟩ | ⟨a, M', ms', ql', qg', h1, h2, h3, h4, h5, h6⟩
  · have hJ' : JB (i + 1) on ot op os sc sd sp sw gc gp gr bc bg bs bt be ql qg fc fg fs fm s_on s_ot s_op s_os s_sc s_sd s_sp s_sw s_gc s_gp s_gr s_bc s_bg s_bs s_bt s_be s_ql s_qg s_fc s_fg s_fs s_fm xi yv' yn yc ko kl ts tl tp tn sv sK sm sn xe xf ms ms mv mi mp mn (nI c) mo mO mI mL mA mW mE mF mc mM oL oD := by
      obtain ⟨a, b, c, d⟩ := hJ
      exact ⟨JP_up a (by omega) (by omega), JS_up b (by omega) (by omega), HH_up hH (by omega) (by omega), d⟩
    refine ⟨ql, qg, yv', yn, yc, ms, ms, mp, mn, nI c, oL, ?_, hJ'⟩
    have hc : 1 ≤ c ∧ c < 100 := by omega
    have hL : f_L_joinQueue on ot op os sc sd sp sw gc gp gr bc bg bs bt be ql qg fc fg fs fm yv yn yc oL p1 p2 = some (nI c, ql, qg, yv', yn, yc, oL) := by
      rw [f_L_joinQueue]
      rcases hco with ⟨rfl, rfl⟩ | ⟨rfl, rfl⟩ | ⟨rfl, rfl⟩
      · refine sft6_s (a0 := 0) ?_ (sfb_t rfl rfl)
        rw [f_TX11_joinQueue]
        exact sfc1_i hp (sfc3_i h1 (sft3_s rec_1 rfl))
      · refine sft6_s (a0 := 2) ?_ (sfb_f (by decide) (sfb_t rfl rfl))
        rw [f_TX11_joinQueue]
        exact sfc1_i hp (sfc3_i h1 (sft3_s rec_3 rfl))
      · refine sft6_s (a0 := 3) ?_ (sfb_f (by decide) (sfb_f (by decide) (sfb_t rfl rfl)))
        rw [f_TX11_joinQueue]
        exact sfc1_i hp (sfc3_i h1 (sft3_s rec_4 rfl))
    have hM : f_X12_joinQueue ms mb mp mn mt p1 p2 = some (0, ms, ms, mp, mn, nI c) := by
      rw [f_X12_joinQueue]
      exact sfc2_i (a := ms) (b := 0) rfl (sfc3_i h2 (sfc4_i (ends_f hc.1 hc.2) rfl))
    rw [f_law04]
    refine sfc7_i hL (sfc6_i hM (sfc1_i rfl (sfb_t rfl (sfb_f ?_ rfl))))
    rw [show (0 : Int32) = nI 0 from rfl, nI_eqP (by omega) (by omega)]
    omega
  · obtain ⟨yn', yc', mp', mn', k1, k2, k3⟩ := HH_keep hH hV hm (by rw [hy]; exact hr)
    have hJ' : JB (i + 1) on ot op os sc sd sp sw gc gp gr bc bg bs bt be ql' qg' fc fg fs fm s_on s_ot s_op s_os s_sc s_sd s_sp s_sw s_gc s_gp s_gr s_bc s_bg s_bs s_bt s_be s_ql s_qg s_fc s_fg s_fs s_fm xi yv' yn' yc' ko kl ts tl tp tn sv sK sm sn xe xf ms' ms mv mi mp' mn' 0 mo mO mI mL mA mW mE mF mc mM (vp_updL oL (0 : Int32).toNatClampNeg (nI a).toInt64) oD := by
      obtain ⟨a, b, c, d⟩ := hJ
      exact ⟨⟨M', VW_up h4 (by omega) (by omega), h5, h6⟩, JS_up b (by omega) (by omega), HH_up k3 (by omega) (by omega), d⟩
    refine ⟨ql', qg', yv', yn', yc', ms', ms, mp', mn', 0, vp_updL oL (0 : Int32).toNatClampNeg (nI a).toInt64, ?_, hJ'⟩
    have hL : f_L_joinQueue on ot op os sc sd sp sw gc gp gr bc bg bs bt be ql qg fc fg fs fm yv yn yc oL p1 p2 = some (0, ql', qg', yv', yn', yc', vp_updL oL (0 : Int32).toNatClampNeg (nI a).toInt64) := by
      rw [f_L_joinQueue]
      refine sft6_n ?_ (sfc6_i (a0 := nI a) ?_ (sfg_i (by decide) (sfn_r rfl rfl)))
      · rw [f_TX11_joinQueue]
        exact sfc1_i hp (sfc3_i h1 (sft3_n (rec_s h3 k1).2 (sfc3_i (rec_s h3 k1).1 rfl)))
      · rw [f_X11_joinQueue]
        exact sfc1_i hp (sfc3_i h1 (sfc3_i (rec_s h3 k1).1 rfl))
    have hM : f_X12_joinQueue ms mb mp mn mt p1 p2 = some (nI a, ms', ms, mp', mn', 0) := by
      rw [f_X12_joinQueue]
      exact sfc2_i (a := ms) (b := 0) rfl (sfc3_i h2 (sfc4_i (k2 _ _) rfl))
    rw [f_law04]
    exact sfc7_i hL (sfc6_i hM (sfc1_i rfl (sfb_t rfl (sfb_t rfl (sfg_i (by decide) (sfb_t lgq rfl))))))
theorem t05 : ∀ (i : Nat) (on : Int32) (ot : Int32) (op : Int32) (os : Int32) (sc : Int32) (sd : Nat → Int32) (sp : Nat → Int32) (sw : Nat → Int32) (gc : Int32) (gp : Nat → Int32) (gr : Nat → Int32) (bc : Int32) (bg : Nat → Int32) (bs : Nat → Int32) (bt : Nat → Int32) (be : Nat → Int32) (ql : Nat → Int32) (qg : Nat → Int32) (fc : Int32) (fg : Nat → Int32) (fs : Nat → Int32) (fm : Nat → Int32) (s_on : Int32) (s_ot : Int32) (s_op : Int32) (s_os : Int32) (s_sc : Int32) (s_sd : Nat → Int32) (s_sp : Nat → Int32) (s_sw : Nat → Int32) (s_gc : Int32) (s_gp : Nat → Int32) (s_gr : Nat → Int32) (s_bc : Int32) (s_bg : Nat → Int32) (s_bs : Nat → Int32) (s_bt : Nat → Int32) (s_be : Nat → Int32) (s_ql : Nat → Int32) (s_qg : Nat → Int32) (s_fc : Int32) (s_fg : Nat → Int32) (s_fs : Nat → Int32) (s_fm : Nat → Int32) (xi : Int32) (yv : Nat → OffT) (yn : Int32) (yc : Int32) (ko : Nat → Int32) (kl : Nat → Int32) (ts : Nat → Int32) (tl : Int32) (tp : Int32) (tn : Nat → Int32) (sv : Nat → Int32) (sK : Nat) (sm : Int32) (sn : Int32) (xe : Int32) (xf : Int32) (ms : Nat → Int32) (mb : Nat → Int32) (mv : Nat → Int32) (mi : Int32) (mp : Nat → Int32) (mn : Int32) (mt : Int32) (mo : Nat → Int32) (mO : Int32) (mI : Nat → Int32) (mL : Int32) (mA : Int32) (mW : Int32) (mE : Int32) (mF : Int32) (mc : Nat → Int32) (mM : Int32) (oL : Nat → Int64) (oD : Nat → UInt64) (p1 p2 p3 : Int32), i < 512 → JB i on ot op os sc sd sp sw gc gp gr bc bg bs bt be ql qg fc fg fs fm s_on s_ot s_op s_os s_sc s_sd s_sp s_sw s_gc s_gp s_gr s_bc s_bg s_bs s_bt s_be s_ql s_qg s_fc s_fg s_fs s_fm xi yv yn yc ko kl ts tl tp tn sv sK sm sn xe xf ms mb mv mi mp mn mt mo mO mI mL mA mW mE mF mc mM oL oD → ∃ (q_ql : Nat → Int32) (q_qg : Nat → Int32) (q_yv : Nat → OffT) (q_yn : Int32) (q_yc : Int32) (q_ms : Nat → Int32) (q_mb : Nat → Int32) (q_mp : Nat → Int32) (q_mn : Int32) (q_mt : Int32) (q_oL : Nat → Int64), f_law05 on ot op os sc sd sp sw gc gp gr bc bg bs bt be ql qg fc fg fs fm yv yn yc ms mb mp mn mt oL p1 = some (q_ql, q_qg, q_yv, q_yn, q_yc, q_ms, q_mb, q_mp, q_mn, q_mt, q_oL) ∧ JB (i + 1) on ot op os sc sd sp sw gc gp gr bc bg bs bt be q_ql q_qg fc fg fs fm s_on s_ot s_op s_os s_sc s_sd s_sp s_sw s_gc s_gp s_gr s_bc s_bg s_bs s_bt s_be s_ql s_qg s_fc s_fg s_fs s_fm xi q_yv q_yn q_yc ko kl ts tl tp tn sv sK sm sn xe xf q_ms q_mb mv mi q_mp q_mn q_mt mo mO mI mL mA mW mE mF mc mM q_oL oD := by
  intro i on ot op os sc sd sp sw gc gp gr bc bg bs bt be ql qg fc fg fs fm s_on s_ot s_op s_os s_sc s_sd s_sp s_sw s_gc s_gp s_gr s_bc s_bg s_bs s_bt s_be s_ql s_qg s_fc s_fg s_fs s_fm xi yv yn yc ko kl ts tl tp tn sv sK sm sn xe xf ms mb mv mi mp mn mt mo mO mI mL mA mW mE mF mc mM oL oD p1 p2 p3 hi hJ
  have hK := hJ
  obtain ⟨⟨M, hV, hm, hr⟩, _⟩ := hK
  obtain ⟨yv', hp, _, hH, hy⟩ := HH_prep hJ.2.2.1 on ot op os sc sd sp sw gc gp gr bc bg bs bt be ql qg fc fg fs fm
  rcases sim_leave hV hm hr p1 0 with ⟨c, o, hco, h1, h2⟩ | ⟨a, M', ms', ql', qg', h1, h2, h3, h4, h5, h6⟩
  · have hJ' : JB (i + 1) on ot op os sc sd sp sw gc gp gr bc bg bs bt be ql qg fc fg fs fm s_on s_ot s_op s_os s_sc s_sd s_sp s_sw s_gc s_gp s_gr s_bc s_bg s_bs s_bt s_be s_ql s_qg s_fc s_fg s_fs s_fm xi yv' yn yc ko kl ts tl tp tn sv sK sm sn xe xf ms ms mv mi mp mn (nI c) mo mO mI mL mA mW mE mF mc mM oL oD := by
      obtain ⟨a, b, c, d⟩ := hJ
      exact ⟨JP_up a (by omega) (by omega), JS_up b (by omega) (by omega), HH_up hH (by omega) (by omega), d⟩
    refine ⟨ql, qg, yv', yn, yc, ms, ms, mp, mn, nI c, oL, ?_, hJ'⟩
    have hc : 1 ≤ c ∧ c < 100 := by omega
    have hL : f_L_leaveQueue on ot op os sc sd sp sw gc gp gr bc bg bs bt be ql qg fc fg fs fm yv yn yc oL p1 = some (nI c, ql, qg, yv', yn, yc, oL) := by
      rw [f_L_leaveQueue]
      rcases hco with ⟨rfl, rfl⟩ | ⟨rfl, rfl⟩
      · refine sft6_s (a0 := 0) ?_ (sfb_t rfl rfl)
        rw [f_TX11_leaveQueue]
        exact sfc1_i hp (sfc3_i h1 (sft3_s rec_1 rfl))
      · refine sft6_s (a0 := 4) ?_ (sfb_f (by decide) (sfb_t rfl rfl))
        rw [f_TX11_leaveQueue]
        exact sfc1_i hp (sfc3_i h1 (sft3_s rec_5 rfl))
    have hM : f_X12_leaveQueue ms mb mp mn mt p1 = some (0, ms, ms, mp, mn, nI c) := by
      rw [f_X12_leaveQueue]
      exact sfc2_i (a := ms) (b := 0) rfl (sfc3_i h2 (sfc4_i (ends_f hc.1 hc.2) rfl))
    rw [f_law05]
    refine sfc7_i hL (sfc6_i hM (sfc1_i rfl (sfb_t rfl (sfb_f ?_ rfl))))
    rw [show (0 : Int32) = nI 0 from rfl, nI_eqP (by omega) (by omega)]
    omega
  · obtain ⟨yn', yc', mp', mn', k1, k2, k3⟩ := HH_keep hH hV hm (by rw [hy]; exact hr)
    have hJ' : JB (i + 1) on ot op os sc sd sp sw gc gp gr bc bg bs bt be ql' qg' fc fg fs fm s_on s_ot s_op s_os s_sc s_sd s_sp s_sw s_gc s_gp s_gr s_bc s_bg s_bs s_bt s_be s_ql s_qg s_fc s_fg s_fs s_fm xi yv' yn' yc' ko kl ts tl tp tn sv sK sm sn xe xf ms' ms mv mi mp' mn' 0 mo mO mI mL mA mW mE mF mc mM (vp_updL oL (0 : Int32).toNatClampNeg (nI a).toInt64) oD := by
      obtain ⟨a, b, c, d⟩ := hJ
      exact ⟨⟨M', VW_up h4 (by omega) (by omega), h5, h6⟩, JS_up b (by omega) (by omega), HH_up k3 (by omega) (by omega), d⟩
    refine ⟨ql', qg', yv', yn', yc', ms', ms, mp', mn', 0, vp_updL oL (0 : Int32).toNatClampNeg (nI a).toInt64, ?_, hJ'⟩
    have hL : f_L_leaveQueue on ot op os sc sd sp sw gc gp gr bc bg bs bt be ql qg fc fg fs fm yv yn yc oL p1 = some (0, ql', qg', yv', yn', yc', vp_updL oL (0 : Int32).toNatClampNeg (nI a).toInt64) := by
      rw [f_L_leaveQueue]
      refine sft6_n ?_ (sfc6_i (a0 := nI a) ?_ (sfg_i (by decide) (sfn_r rfl rfl)))
      · rw [f_TX11_leaveQueue]
        exact sfc1_i hp (sfc3_i h1 (sft3_n (rec_s h3 k1).2 (sfc3_i (rec_s h3 k1).1 rfl)))
      · rw [f_X11_leaveQueue]
        exact sfc1_i hp (sfc3_i h1 (sfc3_i (rec_s h3 k1).1 rfl))
    have hM : f_X12_leaveQueue ms mb mp mn mt p1 = some (nI a, ms', ms, mp', mn', 0) := by
      rw [f_X12_leaveQueue]
      exact sfc2_i (a := ms) (b := 0) rfl (sfc3_i h2 (sfc4_i (k2 _ _) rfl))
    rw [f_law05]
    exact sfc7_i hL (sfc6_i hM (sfc1_i rfl (sfb_t rfl (sfb_t rfl (sfg_i (by decide) (sfb_t lgq rfl))))))
theorem t06 : ∀ (i : Nat) (on : Int32) (ot : Int32) (op : Int32) (os : Int32) (sc : Int32) (sd : Nat → Int32) (sp : Nat → Int32) (sw : Nat → Int32) (gc : Int32) (gp : Nat → Int32) (gr : Nat → Int32) (bc : Int32) (bg : Nat → Int32) (bs : Nat → Int32) (bt : Nat → Int32) (be : Nat → Int32) (ql : Nat → Int32) (qg : Nat → Int32) (fc : Int32) (fg : Nat → Int32) (fs : Nat → Int32) (fm : Nat → Int32) (s_on : Int32) (s_ot : Int32) (s_op : Int32) (s_os : Int32) (s_sc : Int32) (s_sd : Nat → Int32) (s_sp : Nat → Int32) (s_sw : Nat → Int32) (s_gc : Int32) (s_gp : Nat → Int32) (s_gr : Nat → Int32) (s_bc : Int32) (s_bg : Nat → Int32) (s_bs : Nat → Int32) (s_bt : Nat → Int32) (s_be : Nat → Int32) (s_ql : Nat → Int32) (s_qg : Nat → Int32) (s_fc : Int32) (s_fg : Nat → Int32) (s_fs : Nat → Int32) (s_fm : Nat → Int32) (xi : Int32) (yv : Nat → OffT) (yn : Int32) (yc : Int32) (ko : Nat → Int32) (kl : Nat → Int32) (ts : Nat → Int32) (tl : Int32) (tp : Int32) (tn : Nat → Int32) (sv : Nat → Int32) (sK : Nat) (sm : Int32) (sn : Int32) (xe : Int32) (xf : Int32) (ms : Nat → Int32) (mb : Nat → Int32) (mv : Nat → Int32) (mi : Int32) (mp : Nat → Int32) (mn : Int32) (mt : Int32) (mo : Nat → Int32) (mO : Int32) (mI : Nat → Int32) (mL : Int32) (mA : Int32) (mW : Int32) (mE : Int32) (mF : Int32) (mc : Nat → Int32) (mM : Int32) (oL : Nat → Int64) (oD : Nat → UInt64) (p1 p2 p3 : Int32), i < 512 → JB i on ot op os sc sd sp sw gc gp gr bc bg bs bt be ql qg fc fg fs fm s_on s_ot s_op s_os s_sc s_sd s_sp s_sw s_gc s_gp s_gr s_bc s_bg s_bs s_bt s_be s_ql s_qg s_fc s_fg s_fs s_fm xi yv yn yc ko kl ts tl tp tn sv sK sm sn xe xf ms mb mv mi mp mn mt mo mO mI mL mA mW mE mF mc mM oL oD → ∃ (q_on : Int32) (q_ot : Int32) (q_op : Int32) (q_os : Int32) (q_sw : Nat → Int32) (q_gp : Nat → Int32) (q_gr : Nat → Int32) (q_bc : Int32) (q_bg : Nat → Int32) (q_bs : Nat → Int32) (q_bt : Nat → Int32) (q_be : Nat → Int32) (q_ql : Nat → Int32) (q_qg : Nat → Int32) (q_fc : Int32) (q_fg : Nat → Int32) (q_fs : Nat → Int32) (q_fm : Nat → Int32) (q_yv : Nat → OffT) (q_yn : Int32) (q_yc : Int32) (q_ms : Nat → Int32) (q_mb : Nat → Int32) (q_mp : Nat → Int32) (q_mn : Int32) (q_mt : Int32) (q_oL : Nat → Int64), f_law06 on ot op os sc sd sp sw gc gp gr bc bg bs bt be ql qg fc fg fs fm yv yn yc ms mb mp mn mt oL p1 = some (q_on, q_ot, q_op, q_os, q_sw, q_gp, q_gr, q_bc, q_bg, q_bs, q_bt, q_be, q_ql, q_qg, q_fc, q_fg, q_fs, q_fm, q_yv, q_yn, q_yc, q_ms, q_mb, q_mp, q_mn, q_mt, q_oL) ∧ JB (i + 1) q_on q_ot q_op q_os sc sd sp q_sw gc q_gp q_gr q_bc q_bg q_bs q_bt q_be q_ql q_qg q_fc q_fg q_fs q_fm s_on s_ot s_op s_os s_sc s_sd s_sp s_sw s_gc s_gp s_gr s_bc s_bg s_bs s_bt s_be s_ql s_qg s_fc s_fg s_fs s_fm xi q_yv q_yn q_yc ko kl ts tl tp tn sv sK sm sn xe xf q_ms q_mb mv mi q_mp q_mn q_mt mo mO mI mL mA mW mE mF mc mM q_oL oD := by
  intro i on ot op os sc sd sp sw gc gp gr bc bg bs bt be ql qg fc fg fs fm s_on s_ot s_op s_os s_sc s_sd s_sp s_sw s_gc s_gp s_gr s_bc s_bg s_bs s_bt s_be s_ql s_qg s_fc s_fg s_fs s_fm xi yv yn yc ko kl ts tl tp tn sv sK sm sn xe xf ms mb mv mi mp mn mt mo mO mI mL mA mW mE mF mc mM oL oD p1 p2 p3 hi hJ
  have hK := hJ
  obtain ⟨⟨M, hV, hm, hr⟩, _⟩ := hK
  obtain ⟨yv', hp, _, hH, hy⟩ := HH_prep hJ.2.2.1 on ot op os sc sd sp sw gc gp gr bc bg bs bt be ql qg fc fg fs fm
  rcases sim_wait hV (by omega) hm hr p1 0 with ⟨c, o, hco, h1, h2⟩ | ⟨a, M', ms', on', ot', op', os', sw', gp', gr', bc', bg', bs', bt', be', ql', qg', fc', fg', fs', fm', h1, h2, h3, h4, h5, h6⟩
  · have hJ' : JB (i + 1) on ot op os sc sd sp sw gc gp gr bc bg bs bt be ql qg fc fg fs fm s_on s_ot s_op s_os s_sc s_sd s_sp s_sw s_gc s_gp s_gr s_bc s_bg s_bs s_bt s_be s_ql s_qg s_fc s_fg s_fs s_fm xi yv' yn yc ko kl ts tl tp tn sv sK sm sn xe xf ms ms mv mi mp mn (nI c) mo mO mI mL mA mW mE mF mc mM oL oD := by
      obtain ⟨a, b, c, d⟩ := hJ
      exact ⟨JP_up a (by omega) (by omega), JS_up b (by omega) (by omega), HH_up hH (by omega) (by omega), d⟩
    refine ⟨on, ot, op, os, sw, gp, gr, bc, bg, bs, bt, be, ql, qg, fc, fg, fs, fm, yv', yn, yc, ms, ms, mp, mn, nI c, oL, ?_, hJ'⟩
    have hc : 1 ≤ c ∧ c < 100 := by omega
    have hL : f_L_passMinutes on ot op os sc sd sp sw gc gp gr bc bg bs bt be ql qg fc fg fs fm yv yn yc oL p1 = some (nI c, on, ot, op, os, sw, gp, gr, bc, bg, bs, bt, be, ql, qg, fc, fg, fs, fm, yv', yn, yc, oL) := by
      rw [f_L_passMinutes]
      rcases hco with ⟨rfl, rfl⟩
      · refine sft22_s (a0 := 1) ?_ (sfb_t rfl rfl)
        rw [f_TX11_passMinutes]
        exact sfc1_i hp (sfc19_i h1 (sft3_s rec_2 rfl))
    have hM : f_X12_passMinutes ms mb mp mn mt p1 = some (0, ms, ms, mp, mn, nI c) := by
      rw [f_X12_passMinutes]
      exact sfc2_i (a := ms) (b := 0) rfl (sfc3_i h2 (sfc4_i (ends_f hc.1 hc.2) rfl))
    rw [f_law06]
    refine sfc23_i hL (sfc6_i hM (sfc1_i rfl (sfb_t rfl (sfb_f ?_ rfl))))
    rw [show (0 : Int32) = nI 0 from rfl, nI_eqP (by omega) (by omega)]
    omega
  · obtain ⟨yn', yc', mp', mn', k1, k2, k3⟩ := HH_keep hH hV hm (by rw [hy]; exact hr)
    have hJ' : JB (i + 1) on' ot' op' os' sc sd sp sw' gc gp' gr' bc' bg' bs' bt' be' ql' qg' fc' fg' fs' fm' s_on s_ot s_op s_os s_sc s_sd s_sp s_sw s_gc s_gp s_gr s_bc s_bg s_bs s_bt s_be s_ql s_qg s_fc s_fg s_fs s_fm xi yv' yn' yc' ko kl ts tl tp tn sv sK sm sn xe xf ms' ms mv mi mp' mn' 0 mo mO mI mL mA mW mE mF mc mM (vp_updL oL (0 : Int32).toNatClampNeg (nI a).toInt64) oD := by
      obtain ⟨a, b, c, d⟩ := hJ
      exact ⟨⟨M', VW_up h4 (by omega) (by omega), h5, h6⟩, JS_up b (by omega) (by omega), HH_up k3 (by omega) (by omega), d⟩
    refine ⟨on', ot', op', os', sw', gp', gr', bc', bg', bs', bt', be', ql', qg', fc', fg', fs', fm', yv', yn', yc', ms', ms, mp', mn', 0, vp_updL oL (0 : Int32).toNatClampNeg (nI a).toInt64, ?_, hJ'⟩
    have hL : f_L_passMinutes on ot op os sc sd sp sw gc gp gr bc bg bs bt be ql qg fc fg fs fm yv yn yc oL p1 = some (0, on', ot', op', os', sw', gp', gr', bc', bg', bs', bt', be', ql', qg', fc', fg', fs', fm', yv', yn', yc', vp_updL oL (0 : Int32).toNatClampNeg (nI a).toInt64) := by
      rw [f_L_passMinutes]
      refine sft22_n ?_ (sfc22_i (a0 := nI a) ?_ (sfg_i (by decide) (sfn_r rfl rfl)))
      · rw [f_TX11_passMinutes]
        exact sfc1_i hp (sfc19_i h1 (sft3_n (rec_s h3 k1).2 (sfc3_i (rec_s h3 k1).1 rfl)))
      · rw [f_X11_passMinutes]
        exact sfc1_i hp (sfc19_i h1 (sfc3_i (rec_s h3 k1).1 rfl))
    have hM : f_X12_passMinutes ms mb mp mn mt p1 = some (nI a, ms', ms, mp', mn', 0) := by
      rw [f_X12_passMinutes]
      exact sfc2_i (a := ms) (b := 0) rfl (sfc3_i h2 (sfc4_i (k2 _ _) rfl))
    rw [f_law06]
    exact sfc23_i hL (sfc6_i hM (sfc1_i rfl (sfb_t rfl (sfb_t rfl (sfg_i (by decide) (sfb_t lgq rfl))))))
