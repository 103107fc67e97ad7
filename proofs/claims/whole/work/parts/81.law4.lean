/-! a whole text of commands is run, by both -/
def zkm (ms mb mp : Nat → Int32) (mn mt mL mE mF : Int32) : Int32 → Int32 → Int32 → (Nat → Int32) → Option (Int32 × (Nat → Int32) × (Nat → Int32) × (Nat → Int32) × Int32 × Int32 × Int32 × Int32 × Int32 × Int32 × Int32 × (Nat → Int32) × Int32) := fun y_15 y_16 y_17 z_18 => sf_b (y_16 = (0 : Int32)) (sf_b (mL ≤ y_15) (sf_c2 (f_X12_keep ms mb mt) (fun a_21 x_22 => f_X12_runCommands_L125 mE y_15 y_17 z_18 a_21 (fun y_38 y_39 y_40 z_41 z_42 => sf_c4 (f_X12_ends z_41 a_21 z_42 y_38 y_39 y_17) (fun r_43 a_44 a_45 x_46 => some (r_43, a_44, a_21, a_45, x_46, y_39, (0 : Int32), y_15, (0 : Int32), mE, y_40, z_18, y_17))) 2000 (0 : Int32) mn x_22 mF ms mp)) (sf_c2 (f_X12_fails mt (1 : Int32)) (fun r_47 x_48 => some (r_47, ms, mb, mp, mn, x_48, (0 : Int32), y_15, (1 : Int32), y_15, mF, z_18, y_17)))) (sf_c2 (f_X12_fails mt (1 : Int32)) (fun r_19 x_20 => some (r_19, ms, mb, mp, mn, x_20, (0 : Int32), y_15, (1 : Int32), y_15, mF, z_18, y_17)))
theorem run_km {ms mb mp mI mc : Nat → Int32} {mn mt mL mA mW mE mF mM x1 x2 x4 : Int32} {a3 : Nat → Int32} {R : Option (Int32 × (Nat → Int32) × (Nat → Int32) × (Nat → Int32) × Int32 × Int32 × Int32 × Int32 × Int32 × Int32 × Int32 × (Nat → Int32) × Int32)} (h1 : f_X12_readCommand mI mL 0 0 mc 0 = some (x1, x2, a3, x4)) (h2 : f_X12_runCommands_L19 mI mL (zkm ms mb mp mn mt mL mE mF) 2000 x1 x2 x4 a3 = R) : f_X12_runCommands ms mb mp mn mt mI mL mA mW mE mF mc mM = R := by
  rw [f_X12_runCommands]
  exact sfc4_i h1 h2
theorem fl1 {mt : Int32} : f_X12_fails mt 1 = some (0, 1) := rfl
theorem km_0 {ms mb mp a : Nat → Int32} {mn mt mE mF : Int32} {e l n : Nat} (he : e < l) (hl : l ≤ 60) : zkm ms mb mp mn mt (nI l) mE mF (nI e) (nI 0) (nI n) a = some (0, ms, mb, mp, mn, 1, 0, nI e, 1, nI e, mF, a, nI n) := by
  rw [zkm]
  refine sfb_t (by decide) (sfb_f (by rw [nI_leP (by omega) (by omega)]; omega) ?_)
  exact sfc2_i fl1 rfl
theorem km_1 {ms mb mp a : Nat → Int32} {mn mt mL mE mF : Int32} {e n : Nat} : zkm ms mb mp mn mt mL mE mF (nI e) (nI 1) (nI n) a = some (0, ms, mb, mp, mn, 1, 0, nI e, 1, nI e, mF, a, nI n) := by
  rw [zkm]
  exact sfb_f (by decide) (sfc2_i fl1 rfl)
theorem t47 : ∀ (i : Nat) (on : Int32) (ot : Int32) (op : Int32) (os : Int32) (sc : Int32) (sd : Nat → Int32) (sp : Nat → Int32) (sw : Nat → Int32) (gc : Int32) (gp : Nat → Int32) (gr : Nat → Int32) (bc : Int32) (bg : Nat → Int32) (bs : Nat → Int32) (bt : Nat → Int32) (be : Nat → Int32) (ql : Nat → Int32) (qg : Nat → Int32) (fc : Int32) (fg : Nat → Int32) (fs : Nat → Int32) (fm : Nat → Int32) (s_on : Int32) (s_ot : Int32) (s_op : Int32) (s_os : Int32) (s_sc : Int32) (s_sd : Nat → Int32) (s_sp : Nat → Int32) (s_sw : Nat → Int32) (s_gc : Int32) (s_gp : Nat → Int32) (s_gr : Nat → Int32) (s_bc : Int32) (s_bg : Nat → Int32) (s_bs : Nat → Int32) (s_bt : Nat → Int32) (s_be : Nat → Int32) (s_ql : Nat → Int32) (s_qg : Nat → Int32) (s_fc : Int32) (s_fg : Nat → Int32) (s_fs : Nat → Int32) (s_fm : Nat → Int32) (xi : Int32) (yv : Nat → OffT) (yn : Int32) (yc : Int32) (ko : Nat → Int32) (kl : Nat → Int32) (ts : Nat → Int32) (tl : Int32) (tp : Int32) (tn : Nat → Int32) (sv : Nat → Int32) (sK : Nat) (sm : Int32) (sn : Int32) (xe : Int32) (xf : Int32) (ms : Nat → Int32) (mb : Nat → Int32) (mv : Nat → Int32) (mi : Int32) (mp : Nat → Int32) (mn : Int32) (mt : Int32) (mo : Nat → Int32) (mO : Int32) (mI : Nat → Int32) (mL : Int32) (mA : Int32) (mW : Int32) (mE : Int32) (mF : Int32) (mc : Nat → Int32) (mM : Int32) (oL : Nat → Int64) (oD : Nat → UInt64) (p1 p2 p3 : Int32), i < 512 → JB i on ot op os sc sd sp sw gc gp gr bc bg bs bt be ql qg fc fg fs fm s_on s_ot s_op s_os s_sc s_sd s_sp s_sw s_gc s_gp s_gr s_bc s_bg s_bs s_bt s_be s_ql s_qg s_fc s_fg s_fs s_fm xi yv yn yc ko kl ts tl tp tn sv sK sm sn xe xf ms mb mv mi mp mn mt mo mO mI mL mA mW mE mF mc mM oL oD → ∃ (q_on : Int32) (q_ot : Int32) (q_op : Int32) (q_os : Int32) (q_sc : Int32) (q_sd : Nat → Int32) (q_sp : Nat → Int32) (q_sw : Nat → Int32) (q_gc : Int32) (q_gp : Nat → Int32) (q_gr : Nat → Int32) (q_bc : Int32) (q_bg : Nat → Int32) (q_bs : Nat → Int32) (q_bt : Nat → Int32) (q_be : Nat → Int32) (q_ql : Nat → Int32) (q_qg : Nat → Int32) (q_fc : Int32) (q_fg : Nat → Int32) (q_fs : Nat → Int32) (q_fm : Nat → Int32) (q_yv : Nat → OffT) (q_yn : Int32) (q_yc : Int32) (q_tl : Int32) (q_tp : Int32) (q_tn : Nat → Int32) (q_xe : Int32) (q_xf : Int32) (q_ms : Nat → Int32) (q_mb : Nat → Int32) (q_mp : Nat → Int32) (q_mn : Int32) (q_mt : Int32) (q_mL : Int32) (q_mA : Int32) (q_mW : Int32) (q_mE : Int32) (q_mF : Int32) (q_mc : Nat → Int32) (q_mM : Int32) (q_oL : Nat → Int64), f_law47 on ot op os sc sd sp sw gc gp gr bc bg bs bt be ql qg fc fg fs fm yv yn yc ts tl tp tn xe xf ms mb mp mn mt mI mL mA mW mE mF mc mM oL = some (q_on, q_ot, q_op, q_os, q_sc, q_sd, q_sp, q_sw, q_gc, q_gp, q_gr, q_bc, q_bg, q_bs, q_bt, q_be, q_ql, q_qg, q_fc, q_fg, q_fs, q_fm, q_yv, q_yn, q_yc, q_tl, q_tp, q_tn, q_xe, q_xf, q_ms, q_mb, q_mp, q_mn, q_mt, q_mL, q_mA, q_mW, q_mE, q_mF, q_mc, q_mM, q_oL) ∧ JB (i + 1) q_on q_ot q_op q_os q_sc q_sd q_sp q_sw q_gc q_gp q_gr q_bc q_bg q_bs q_bt q_be q_ql q_qg q_fc q_fg q_fs q_fm s_on s_ot s_op s_os s_sc s_sd s_sp s_sw s_gc s_gp s_gr s_bc s_bg s_bs s_bt s_be s_ql s_qg s_fc s_fg s_fs s_fm xi q_yv q_yn q_yc ko kl ts q_tl q_tp q_tn sv sK sm sn q_xe q_xf q_ms q_mb mv mi q_mp q_mn q_mt mo mO mI q_mL q_mA q_mW q_mE q_mF q_mc q_mM q_oL oD := by
  intro i on ot op os sc sd sp sw gc gp gr bc bg bs bt be ql qg fc fg fs fm s_on s_ot s_op s_os s_sc s_sd s_sp s_sw s_gc s_gp s_gr s_bc s_bg s_bs s_bt s_be s_ql s_qg s_fc s_fg s_fs s_fm xi yv yn yc ko kl ts tl tp tn sv sK sm sn xe xf ms mb mv mi mp mn mt mo mO mI mL mA mW mE mF mc mM oL oD p1 p2 p3 hi hJ
  obtain ⟨jp, js, jh, ⟨c, l, x1, x2, x3⟩, je1, je2, jw⟩ := hJ
  have x4 : l ≤ 60 := x3.1
  have nt : JT (nI 0) (nI 0) ts mI := ⟨c, 0, rfl, rfl, by omega, fun k hk => absurd hk (by omega)⟩
  subst x1 x2
  rcases fx_parse x3 mc (km := zkm ms mb mp mn mt (nI l) mE mF) with ⟨n, P, I, V, mc', p1', p2', p3', p4', p5', p6', a1, a2, a3, a4, p7', p8'⟩ | ⟨e, n, w, mc', p1', p2', p3', a1, a2, a3, a4, p7', p8'⟩
  · obtain ⟨tn', p6⟩ := p6' tp tn
    obtain ⟨M, hV, hm, hr⟩ := jp
    obtain ⟨yv', hp, hd, hH, hy⟩ := HH_prep jh on ot op os sc sd sp sw gc gp gr bc bg bs bt be ql qg fc fg fs fm
    have hr1 : ¬ nI n = (-1 : Int32) := fun h => by
      have h2 := congrArg Int32.toInt h
      rw [nI_toInt (by omega), show (-1 : Int32).toInt = -1 by decide] at h2
      omega
    have hrw : f_X4_rewind (nI l) = some (nI (P 0)) := by rw [p3']; rfl
    have hem : f_X4_empty (nI l) = some (nI 0) := rfl
    obtain ⟨on', ot', op', os', sc', sd', sp', sw', gc', gp', gr', bc', bg', bs', bt', be', ql', qg', fc', fg', fs', fm', tn2, q⟩ := lo_exec p5' p2' (mE := mE) (y15 := nI l) (mn := mn) (mF := mF) (a21 := ms) (mp := mp) n 0 M ms (3600 * i) tn' on ot op os sc sd sp sw gc gp gr bc bg bs bt be ql qg fc fg fs fm (by omega) hV (by omega) hm hr 2000 (by omega)
    rcases q with ⟨M', ms', q1, q2, q3, q4, q5, q6⟩ | ⟨e, pl, q1, q2, q3, q4⟩
    · obtain ⟨yn', yc', mp', mn', k1, k2, k3⟩ := HH_keep hH hV hm (by rw [hy]; exact hr)
      have hJ' : JB (i + 1) on' ot' op' os' sc' sd' sp' sw' gc' gp' gr' bc' bg' bs' bt' be' ql' qg' fc' fg' fs' fm' s_on s_ot s_op s_os s_sc s_sd s_sp s_sw s_gc s_gp s_gr s_bc s_bg s_bs s_bt s_be s_ql s_qg s_fc s_fg s_fs s_fm xi yv' yn' yc' ko kl ts (nI 0) (nI (P n)) tn2 sv sK sm sn xe xf ms' ms mv mi mp' mn' (nI 0) mo mO mI (nI 0) (nI l) 0 mE mF mc' (nI n) (vp_updL oL (0 : Int32).toNatClampNeg (nI n).toInt64) oD :=
        ⟨⟨M', VW_up q1 (by omega) (by omega), q2, q3⟩, JS_up js (by omega) (by omega), HH_up k3 (by omega) (by omega), nt, je1, je2, jw⟩
      refine ⟨on', ot', op', os', sc', sd', sp', sw', gc', gp', gr', bc', bg', bs', bt', be', ql', qg', fc', fg', fs', fm', yv', yn', yc', nI 0, nI (P n), tn2, xe, xf, ms', ms, mp', mn', nI 0, nI 0, nI l, 0, mE, mF, mc', nI n, _, ?_, hJ'⟩
      have hL : f_L_runCommands on ot op os sc sd sp sw gc gp gr bc bg bs bt be ql qg fc fg fs fm yv yn yc ts (nI l) tp tn xe xf oL = some (0, on', ot', op', os', sc', sd', sp', sw', gc', gp', gr', bc', bg', bs', bt', be', ql', qg', fc', fg', fs', fm', yv', yn', yc', nI 0, nI (P n), tn2, xe, xf, vp_updL oL (0 : Int32).toNatClampNeg (nI n).toInt64) := by
        rw [f_L_runCommands]
        refine sft31_n ?_ (sfc31_i (a0 := nI n) ?_ (sfg_i (by decide) (sfn_r rfl rfl)))
        · rw [f_TX11_runCommands]
          refine sfc3_i p6 (sfb_f hr1 (sfc1_i hp (sfc1_i hrw ((q5 _).trans ?_))))
          exact sfc1_i hem (sfb_t (by rw [nI_leP (by omega) (by omega)]; exact Nat.le_refl _) (sfc2_i k1 rfl))
        · rw [f_X11_runCommands]
          refine sfc3_i p6 (sfb_f hr1 (sfc1_i hp (sfc1_i hrw ((q4 _).trans ?_))))
          exact sfc1_i hem (sfb_t (by rw [nI_leP (by omega) (by omega)]; exact Nat.le_refl _) (sfc2_i k1 rfl))
      have hM : f_X12_runCommands ms mb mp mn mt mI (nI l) mA mW mE mF mc mM = some (nI n, ms', ms, mp', mn', nI 0, nI 0, nI l, 0, mE, mF, mc', nI n) := by
        refine run_km p7' (p8'.trans ?_)
        rw [zkm]
        refine sfb_t (by decide) (sfb_t (by rw [nI_leP (by omega) (by omega)]; exact Nat.le_refl _) ?_)
        refine sfc2_i (a := ms) (b := 0) rfl ((q6 _).trans ?_)
        exact sfc4_i (k2 _ _) rfl
      rw [f_law47]
      exact sfc32_i hL (sfc13_i hM (sfc1_i rfl (sfb_t rfl (sfb_t rfl (sfg_i (by decide) (sfb_t lgq rfl))))))
    · have hJ' : JB (i + 1) on ot op os sc sd sp sw gc gp gr bc bg bs bt be ql qg fc fg fs fm s_on s_ot s_op s_os s_sc s_sd s_sp s_sw s_gc s_gp s_gr s_bc s_bg s_bs s_bt s_be s_ql s_qg s_fc s_fg s_fs s_fm xi yv' yn yc ko kl ts (nI 0) pl tn2 sv sK sm sn xe (nI e) ms ms mv mi mp mn 2 mo mO mI (nI 0) (nI l) 0 mE (nI e) mc' (nI n) oL oD :=
        ⟨⟨M, VW_up hV (by omega) (by omega), hm, hr⟩, JS_up js (by omega) (by omega), HH_up hH (by omega) (by omega), nt, je1, ⟨rfl, Or.inr ⟨e, by omega, rfl⟩⟩, jw⟩
      refine ⟨on, ot, op, os, sc, sd, sp, sw, gc, gp, gr, bc, bg, bs, bt, be, ql, qg, fc, fg, fs, fm, yv', yn, yc, nI 0, pl, tn2, xe, nI e, ms, ms, mp, mn, 2, nI 0, nI l, 0, mE, nI e, mc', nI n, oL, ?_, hJ'⟩
      have hle : ¬ nI n ≤ nI e := by rw [nI_leP (by omega) (by omega)]; omega
      have hL : f_L_runCommands on ot op os sc sd sp sw gc gp gr bc bg bs bt be ql qg fc fg fs fm yv yn yc ts (nI l) tp tn xe xf oL = some (2, on, ot, op, os, sc, sd, sp, sw, gc, gp, gr, bc, bg, bs, bt, be, ql, qg, fc, fg, fs, fm, yv', yn, yc, nI 0, pl, tn2, xe, nI e, oL) := by
        rw [f_L_runCommands]
        refine sft31_s (a0 := 3) ?_ (sfb_f (by decide) (sfb_t (by decide) rfl))
        rw [f_TX11_runCommands]
        refine sfc3_i p6 (sfb_f hr1 (sfc1_i hp (sfc1_i hrw ((q3 _).trans ?_))))
        exact sfc1_i hem (sfb_f hle (sfc22_i (hd on' ot' op' os' sc' sd' sp' sw' gc' gp' gr' bc' bg' bs' bt' be' ql' qg' fc' fg' fs' fm') rfl))
      have hM : f_X12_runCommands ms mb mp mn mt mI (nI l) mA mW mE mF mc mM = some (0, ms, ms, mp, mn, 2, nI 0, nI l, 0, mE, nI e, mc', nI n) := by
        refine run_km p7' (p8'.trans ?_)
        rw [zkm]
        refine sfb_t (by decide) (sfb_t (by rw [nI_leP (by omega) (by omega)]; exact Nat.le_refl _) ?_)
        exact sfc2_i (a := ms) (b := 0) rfl (q4 _)
      rw [f_law47]
      exact sfc32_i hL (sfc13_i hM (sfc1_i rfl (sfb_t rfl (sfb_f (by decide) rfl))))
  · obtain ⟨tn', p6⟩ := p3' tp tn
    have hJ' : JB (i + 1) on ot op os sc sd sp sw gc gp gr bc bg bs bt be ql qg fc fg fs fm s_on s_ot s_op s_os s_sc s_sd s_sp s_sw s_gc s_gp s_gr s_bc s_bg s_bs s_bt s_be s_ql s_qg s_fc s_fg s_fs s_fm xi yv yn yc ko kl ts (nI 0) (nI e) tn' sv sK sm sn (nI e) xf ms mb mv mi mp mn 1 mo mO mI (nI 0) (nI e) 1 (nI e) mF mc' (nI n) oL oD :=
      ⟨JP_up jp (by omega) (by omega), JS_up js (by omega) (by omega), HH_up jh (by omega) (by omega), nt, ⟨rfl, Or.inr ⟨e, by omega, rfl⟩⟩, je2, jw⟩
    refine ⟨on, ot, op, os, sc, sd, sp, sw, gc, gp, gr, bc, bg, bs, bt, be, ql, qg, fc, fg, fs, fm, yv, yn, yc, nI 0, nI e, tn', nI e, xf, ms, mb, mp, mn, 1, nI 0, nI e, 1, nI e, mF, mc', nI n, oL, ?_, hJ'⟩
    have hem : f_X4_empty (nI l) = some (nI 0) := rfl
    have hL : f_L_runCommands on ot op os sc sd sp sw gc gp gr bc bg bs bt be ql qg fc fg fs fm yv yn yc ts (nI l) tp tn xe xf oL = some (1, on, ot, op, os, sc, sd, sp, sw, gc, gp, gr, bc, bg, bs, bt, be, ql, qg, fc, fg, fs, fm, yv, yn, yc, nI 0, nI e, tn', nI e, xf, oL) := by
      rw [f_L_runCommands]
      refine sft31_s (a0 := 1) ?_ (sfb_t (by decide) rfl)
      rw [f_TX11_runCommands]
      exact sfc3_i p6 (sfb_t (by decide) (sfc1_i hem rfl))
    have hM : f_X12_runCommands ms mb mp mn mt mI (nI l) mA mW mE mF mc mM = some (0, ms, mb, mp, mn, 1, nI 0, nI e, 1, nI e, mF, mc', nI n) := by
      refine run_km p7' (p8'.trans ?_)
      rcases p2' with rfl | ⟨rfl, h⟩
      · exact km_1
      · exact km_0 h x4
    rw [f_law47]
    exact sfc32_i hL (sfc13_i hM (sfc1_i rfl (sfb_t rfl (sfb_f (by decide) rfl))))
