/-! shares: mean and busy -/
theorem fl_d1 {s g : Nat} (hs : s ≤ 500) (h0 : g ≠ 0) (hg : g ≤ 10) : sf_n64 (FP.ddiv (FP.i2d (nI s)) (FP.i2d (nI g))) = true ∧ Op.cmpValue (FP.dcmp (FP.ddiv (FP.i2d (nI s)) (FP.i2d (nI g))) (FP.ddiv (FP.i2d (nI s)) (FP.i2d (nI g)))) .l = 0 := by
  have h := List.all_eq_true.mp (List.all_eq_true.mp fl_d s (List.mem_range.mpr (by omega))) g (List.mem_range.mpr (by omega))
  rw [Bool.or_eq_true, Bool.and_eq_true] at h
  rcases h with h | ⟨h1, h2⟩
  · exact absurd (eq_of_beq h) h0
  · exact ⟨h1, of_decide_eq_true h2⟩
theorem fl_f1 {s g : Nat} (hs : s ≤ 4) (h0 : g ≠ 0) (hg : g ≤ 4) : sf_n32 (FP.fdiv (FP.i2f (nI s)) (FP.i2f (nI g))) = true ∧ sf_n64 (FP.f2d (FP.fdiv (FP.i2f (nI s)) (FP.i2f (nI g)))) = true ∧ Op.cmpValue (FP.dcmp (FP.f2d (FP.fdiv (FP.i2f (nI s)) (FP.i2f (nI g)))) (FP.f2d (FP.fdiv (FP.i2f (nI s)) (FP.i2f (nI g))))) .l = 0 := by
  have h := List.all_eq_true.mp (List.all_eq_true.mp fl_f s (List.mem_range.mpr (by omega))) g (List.mem_range.mpr (by omega))
  rw [Bool.or_eq_true, Bool.and_eq_true, Bool.and_eq_true] at h
  rcases h with h | ⟨⟨h1, h3⟩, h2⟩
  · exact absurd (eq_of_beq h) h0
  · exact ⟨h1, h3, of_decide_eq_true h2⟩
section SHR
variable {M : Nat → Nat} {ms : Nat → Int32} {U : Nat} {on ot op os sc gc bc fc : Int32} {sd sp sw gp gr bg bs bt be ql qg fg fs fm : Nat → Int32}
theorem lo_mean (hm : MR M ms) (hg : M 1 ≤ 10) {k : Int32 → Option (UInt64 × Int32)} : ∀ m j, j ≤ M 1 → M 1 - j < m → f_X12_meanCoins_L11 ms (nI (M 1)) k m (nI j) (nI (zs (zC M) j)) = k (nI (zs (zC M) (M 1))) := by
  obtain ⟨h0, a1, a2, a3, a4, a5, a6, _⟩ := fm_all hm
  intro m
  induction m with
  | zero => intro j hj h; omega
  | succ m ih =>
    intro j hj h
    rw [f_X12_meanCoins_L11]
    rcases Nat.lt_or_ge j (M 1) with z | z
    · refine sfb_f (by rw [nI_leP (by omega) (by omega)]; omega) (sfc1_i (a6 j (by omega)) ?_)
      exact sfn_r (nI_add _ _) (sfn_r (nI_1 j) (ih (j + 1) (by omega) (by omega)))
    · have e : j = M 1 := by omega
      rw [e]
      exact sfb_t (by rw [nI_leP (by omega) (by omega)]; exact Nat.le_refl _) rfl
theorem lo_share (hV : VW M U) (hm : MR M ms) {k : Int32 → Option (UInt32 × Int32)} : ∀ m j, j ≤ M 0 → M 0 - j < m → f_X12_busyShare_L11 ms (nI (M 0)) k m (nI j) (nI (zc (fun s => decide (zla (zPo (zS M) (zT M) (zE M) s (M 3)) (M 2) ≠ 99)) j)) = k (nI (zc (fun s => decide (zla (zPo (zS M) (zT M) (zE M) s (M 3)) (M 2) ≠ 99)) (M 0))) := by
  have v0 := hV.1.1
  have v3 := hV.1.2.2.2.2
  have e3 : ms (3 : Int32).toNatClampNeg = nI (M 3) := at_i hm (by decide) (by omega)
  intro m
  induction m with
  | zero => intro j hj h; omega
  | succ m ih =>
    intro j hj h
    rw [f_X12_busyShare_L11]
    rcases Nat.lt_or_ge j (M 0) with z | z
    · have ih1 := ih (j + 1) (by omega) (by omega)
      have hdu := fm_during hm (zMB_of hV) (s := j) (t := M 3) (by omega) (by omega)
      rw [← e3] at hdu
      refine sfb_f (by rw [nI_leP (by omega) (by omega)]; omega) (sfg_i (by decide) (sfc1_i hdu ?_))
      rcases zla_lt (P := zPo (zS M) (zT M) (zE M) j (M 3)) (n := M 2) with y | ⟨y, _⟩
      · rw [zc_f (P := (fun s => decide (zla (zPo (zS M) (zT M) (zE M) s (M 3)) (M 2) ≠ 99))) (n := j) (decide_eq_false (fun c => c y))] at ih1
        rw [y, zio_n]
        exact sfb_t (by decide) (sfn_r (Int32.add_zero _) (sfn_r (nI_1 j) ih1))
      · have v2 := hV.1.2.2.1
        rw [zc_t (P := (fun s => decide (zla (zPo (zS M) (zT M) (zE M) s (M 3)) (M 2) ≠ 99))) (n := j) (decide_eq_true (by omega))] at ih1
        rw [zio_c (by omega)]
        exact sfb_f (nI_pos (by omega)) (sfn_r (nI_1 _) (sfn_r (nI_1 j) ih1))
    · have e : j = M 0 := by omega
      rw [e]
      exact sfb_t (by rw [nI_leP (by omega) (by omega)]; exact Nat.le_refl _) rfl
theorem lo_busy (hV : VW M U) (hB : OB M bc bg bs bt be) {k : Int32 → Option Int32} : ∀ m j, j ≤ M 0 → M 0 - j < m → f_X8_busySlides_L4 (nI (M 3)) (nI (M 0)) (nI (M 2)) bs bt be k m (nI j) (nI (zc (fun s => decide (zla (zPo (zS M) (zT M) (zE M) s (M 3)) (M 2) ≠ 99)) j)) = k (nI (zc (fun s => decide (zla (zPo (zS M) (zT M) (zE M) s (M 3)) (M 2) ≠ 99)) (M 0))) := by
  have v0 := hV.1.1
  have v3 := hV.1.2.2.2.2
  intro m
  induction m with
  | zero => intro j hj h; omega
  | succ m ih =>
    intro j hj h
    rw [f_X8_busySlides_L4]
    rcases Nat.lt_or_ge j (M 0) with z | z
    · have ih1 := ih (j + 1) (by omega) (by omega)
      have hon := of_on hV hB (s := j) (t := M 3) (by omega) (by omega)
      refine sfb_f (by rw [nI_leP (by omega) (by omega)]; omega) (sfc1_i hon ?_)
      rcases zla_lt (P := zPo (zS M) (zT M) (zE M) j (M 3)) (n := M 2) with y | ⟨y, _⟩
      · rw [zc_f (P := (fun s => decide (zla (zPo (zS M) (zT M) (zE M) s (M 3)) (M 2) ≠ 99))) (n := j) (decide_eq_false (fun c => c y))] at ih1
        rw [y, zio_n]
        exact sfb_t (by decide) (sfn_r (nI_1 j) ih1)
      · have v2 := hV.1.2.2.1
        rw [zc_t (P := (fun s => decide (zla (zPo (zS M) (zT M) (zE M) s (M 3)) (M 2) ≠ 99))) (n := j) (decide_eq_true (by omega))] at ih1
        rw [zio_c (by omega)]
        refine sfb_f (fun h => ?_) (sfn_r (nI_1 _) (sfn_r (nI_1 j) ih1))
        have h2 := congrArg Int32.toInt h
        rw [nI_toInt (by omega), show (-1 : Int32).toInt = -1 by decide] at h2
        omega
    · have e : j = M 0 := by omega
      rw [e]
      exact sfb_t (by rw [nI_leP (by omega) (by omega)]; exact Nat.le_refl _) rfl
end SHR
theorem n0p {a : Nat} (ha : a < 2 ^ 31) : (nI a ≤ (0 : Int32)) = (a ≤ 0) := by rw [show (0 : Int32) = nI 0 from rfl, nI_leP ha (by omega)]
theorem n0e {a : Nat} (ha : a < 2 ^ 31) : (nI a = (0 : Int32)) = (a = 0) := by rw [show (0 : Int32) = nI 0 from rfl, nI_eqP ha (by omega)]
theorem t43 : ∀ (i : Nat) (on : Int32) (ot : Int32) (op : Int32) (os : Int32) (sc : Int32) (sd : Nat → Int32) (sp : Nat → Int32) (sw : Nat → Int32) (gc : Int32) (gp : Nat → Int32) (gr : Nat → Int32) (bc : Int32) (bg : Nat → Int32) (bs : Nat → Int32) (bt : Nat → Int32) (be : Nat → Int32) (ql : Nat → Int32) (qg : Nat → Int32) (fc : Int32) (fg : Nat → Int32) (fs : Nat → Int32) (fm : Nat → Int32) (s_on : Int32) (s_ot : Int32) (s_op : Int32) (s_os : Int32) (s_sc : Int32) (s_sd : Nat → Int32) (s_sp : Nat → Int32) (s_sw : Nat → Int32) (s_gc : Int32) (s_gp : Nat → Int32) (s_gr : Nat → Int32) (s_bc : Int32) (s_bg : Nat → Int32) (s_bs : Nat → Int32) (s_bt : Nat → Int32) (s_be : Nat → Int32) (s_ql : Nat → Int32) (s_qg : Nat → Int32) (s_fc : Int32) (s_fg : Nat → Int32) (s_fs : Nat → Int32) (s_fm : Nat → Int32) (xi : Int32) (yv : Nat → OffT) (yn : Int32) (yc : Int32) (ko : Nat → Int32) (kl : Nat → Int32) (ts : Nat → Int32) (tl : Int32) (tp : Int32) (tn : Nat → Int32) (sv : Nat → Int32) (sK : Nat) (sm : Int32) (sn : Int32) (xe : Int32) (xf : Int32) (ms : Nat → Int32) (mb : Nat → Int32) (mv : Nat → Int32) (mi : Int32) (mp : Nat → Int32) (mn : Int32) (mt : Int32) (mo : Nat → Int32) (mO : Int32) (mI : Nat → Int32) (mL : Int32) (mA : Int32) (mW : Int32) (mE : Int32) (mF : Int32) (mc : Nat → Int32) (mM : Int32) (oL : Nat → Int64) (oD : Nat → UInt64) (p1 p2 p3 : Int32), i < 512 → JB i on ot op os sc sd sp sw gc gp gr bc bg bs bt be ql qg fc fg fs fm s_on s_ot s_op s_os s_sc s_sd s_sp s_sw s_gc s_gp s_gr s_bc s_bg s_bs s_bt s_be s_ql s_qg s_fc s_fg s_fs s_fm xi yv yn yc ko kl ts tl tp tn sv sK sm sn xe xf ms mb mv mi mp mn mt mo mO mI mL mA mW mE mF mc mM oL oD → ∃ (q_mt : Int32) (q_oD : Nat → UInt64), f_law43 gc gp ms mt oD = some (q_mt, q_oD) ∧ JB (i + 1) on ot op os sc sd sp sw gc gp gr bc bg bs bt be ql qg fc fg fs fm s_on s_ot s_op s_os s_sc s_sd s_sp s_sw s_gc s_gp s_gr s_bc s_bg s_bs s_bt s_be s_ql s_qg s_fc s_fg s_fs s_fm xi yv yn yc ko kl ts tl tp tn sv sK sm sn xe xf ms mb mv mi mp mn q_mt mo mO mI mL mA mW mE mF mc mM oL q_oD := by
  intro i on ot op os sc sd sp sw gc gp gr bc bg bs bt be ql qg fc fg fs fm s_on s_ot s_op s_os s_sc s_sd s_sp s_sw s_gc s_gp s_gr s_bc s_bg s_bs s_bt s_be s_ql s_qg s_fc s_fg s_fs s_fm xi yv yn yc ko kl ts tl tp tn sv sK sm sn xe xf ms mb mv mi mp mn mt mo mO mI mL mA mW mE mF mc mM oL oD p1 p2 p3 hi hJ
  have hK := hJ
  obtain ⟨⟨M, hV, hm, hr⟩, _⟩ := hK
  have hU := hV.1.2.2.2.2
  have v1 := hV.1.2.1
  have hC := hV.2.2.2.2.2.2.2.1
  have e : gc = nI (M 1) := hr.2.2.1.1
  have hs := fg_coins (zHG_of hV (by omega) hr.2.2.1)
  have c1 : ms (1 : Int32).toNatClampNeg = nI (M 1) := at_i hm (by decide) (by omega)
  rcases Nat.decEq (M 1) 0 with y | y
  · obtain ⟨f1, f2⟩ := fl_d1 (s := zs (zC M) (M 1)) (g := M 1) (by omega) y v1
    have hL : f_L_meanCoins gc gp oD = some (0, vf_upd oD (0 : Int32).toNatClampNeg (FP.ddiv (FP.i2d (nI (zs (zC M) (M 1)))) (FP.i2d (nI (M 1))))) := by
      rw [f_L_meanCoins, e]
      have hn : ¬ nI (M 1) = (0 : Int32) := by rw [n0e (by omega)]; exact y
      refine sft1_n ?_ (sfc1_i (a := (FP.ddiv (FP.i2d (nI (zs (zC M) (M 1)))) (FP.i2d (nI (M 1))))) ?_ (sfg_i (by decide) (sfn_r rfl rfl)))
      · rw [f_TX11_meanCoins]; exact sfb_f hn (sfc1_i hs (sfg_i f1 rfl))
      · rw [f_X11_meanCoins]; exact sfb_f hn (sfc1_i hs (sfg_i f1 rfl))
    have hM : f_X12_meanCoins ms mt = some ((FP.ddiv (FP.i2d (nI (zs (zC M) (M 1)))) (FP.i2d (nI (M 1)))), 0) := by
      rw [f_X12_meanCoins]
      refine sfg_i (by decide) (sfn_r c1 ((lo_mean hm v1 2000 0 (Nat.zero_le _) (by omega)).trans ?_))
      refine sfb_f (by rw [n0p (by omega)]; omega) (sfc2_i (isTh1 mt) (sfb_f (by decide) (sfg_i f1 rfl)))
    refine ⟨0, vf_upd oD (0 : Int32).toNatClampNeg (FP.ddiv (FP.i2d (nI (zs (zC M) (M 1)))) (FP.i2d (nI (M 1)))), ?_, JB_keep hi hJ⟩
    rw [f_law43]
    exact sfc2_i hL (sfc2_i hM (sfc1_i rfl (sfb_t rfl (sfb_t rfl (sfg_i (by decide) (sfb_t f2 rfl))))))
  · have hL : f_L_meanCoins gc gp oD = some (1, oD) := by
      rw [f_L_meanCoins, e]
      exact sft1_s (a0 := 5) (by rw [f_TX11_meanCoins]; exact sfb_t (by rw [n0e (by omega)]; exact y) rfl) (sfb_t rfl rfl)
    have hM : f_X12_meanCoins ms mt = some (FP.dconst0, 1) := by
      rw [f_X12_meanCoins]
      refine sfg_i (by decide) (sfn_r c1 ((lo_mean hm v1 2000 0 (Nat.zero_le _) (by omega)).trans ?_))
      refine sfb_t (by rw [n0p (by omega)]; omega) (sfc2_i (isTh0 mt) (sfb_t (by decide) rfl))
    refine ⟨1, oD, ?_, JB_keep hi hJ⟩
    rw [f_law43]
    exact sfc2_i hL (sfc2_i hM (sfc1_i rfl (sfb_t rfl (sfb_f (by decide) rfl))))
theorem t44 : ∀ (i : Nat) (on : Int32) (ot : Int32) (op : Int32) (os : Int32) (sc : Int32) (sd : Nat → Int32) (sp : Nat → Int32) (sw : Nat → Int32) (gc : Int32) (gp : Nat → Int32) (gr : Nat → Int32) (bc : Int32) (bg : Nat → Int32) (bs : Nat → Int32) (bt : Nat → Int32) (be : Nat → Int32) (ql : Nat → Int32) (qg : Nat → Int32) (fc : Int32) (fg : Nat → Int32) (fs : Nat → Int32) (fm : Nat → Int32) (s_on : Int32) (s_ot : Int32) (s_op : Int32) (s_os : Int32) (s_sc : Int32) (s_sd : Nat → Int32) (s_sp : Nat → Int32) (s_sw : Nat → Int32) (s_gc : Int32) (s_gp : Nat → Int32) (s_gr : Nat → Int32) (s_bc : Int32) (s_bg : Nat → Int32) (s_bs : Nat → Int32) (s_bt : Nat → Int32) (s_be : Nat → Int32) (s_ql : Nat → Int32) (s_qg : Nat → Int32) (s_fc : Int32) (s_fg : Nat → Int32) (s_fs : Nat → Int32) (s_fm : Nat → Int32) (xi : Int32) (yv : Nat → OffT) (yn : Int32) (yc : Int32) (ko : Nat → Int32) (kl : Nat → Int32) (ts : Nat → Int32) (tl : Int32) (tp : Int32) (tn : Nat → Int32) (sv : Nat → Int32) (sK : Nat) (sm : Int32) (sn : Int32) (xe : Int32) (xf : Int32) (ms : Nat → Int32) (mb : Nat → Int32) (mv : Nat → Int32) (mi : Int32) (mp : Nat → Int32) (mn : Int32) (mt : Int32) (mo : Nat → Int32) (mO : Int32) (mI : Nat → Int32) (mL : Int32) (mA : Int32) (mW : Int32) (mE : Int32) (mF : Int32) (mc : Nat → Int32) (mM : Int32) (oL : Nat → Int64) (oD : Nat → UInt64) (p1 p2 p3 : Int32), i < 512 → JB i on ot op os sc sd sp sw gc gp gr bc bg bs bt be ql qg fc fg fs fm s_on s_ot s_op s_os s_sc s_sd s_sp s_sw s_gc s_gp s_gr s_bc s_bg s_bs s_bt s_be s_ql s_qg s_fc s_fg s_fs s_fm xi yv yn yc ko kl ts tl tp tn sv sK sm sn xe xf ms mb mv mi mp mn mt mo mO mI mL mA mW mE mF mc mM oL oD → ∃ (q_mt : Int32) (q_oD : Nat → UInt64), f_law44 on sc bc bs bt be ms mt oD = some (q_mt, q_oD) ∧ JB (i + 1) on ot op os sc sd sp sw gc gp gr bc bg bs bt be ql qg fc fg fs fm s_on s_ot s_op s_os s_sc s_sd s_sp s_sw s_gc s_gp s_gr s_bc s_bg s_bs s_bt s_be s_ql s_qg s_fc s_fg s_fs s_fm xi yv yn yc ko kl ts tl tp tn sv sK sm sn xe xf ms mb mv mi mp mn q_mt mo mO mI mL mA mW mE mF mc mM oL q_oD := by
  intro i on ot op os sc sd sp sw gc gp gr bc bg bs bt be ql qg fc fg fs fm s_on s_ot s_op s_os s_sc s_sd s_sp s_sw s_gc s_gp s_gr s_bc s_bg s_bs s_bt s_be s_ql s_qg s_fc s_fg s_fs s_fm xi yv yn yc ko kl ts tl tp tn sv sK sm sn xe xf ms mb mv mi mp mn mt mo mO mI mL mA mW mE mF mc mM oL oD p1 p2 p3 hi hJ
  have hK := hJ
  obtain ⟨⟨M, hV, hm, hr⟩, _⟩ := hK
  have v0 := hV.1.1
  have e0 : sc = nI (M 0) := hr.2.1.1
  have e3 : on = nI (M 3) := hr.1.1
  have e2 : bc = nI (M 2) := hr.2.2.2.1.1
  have hs : f_X8_busySlides (nI (M 3)) (nI (M 0)) (nI (M 2)) bs bt be = some (nI (zc (fun s => decide (zla (zPo (zS M) (zT M) (zE M) s (M 3)) (M 2) ≠ 99)) (M 0))) := by
    rw [f_X8_busySlides]
    exact lo_busy hV hr.2.2.2.1 2000 0 (Nat.zero_le _) (by omega)
  have hle : zc (fun s => decide (zla (zPo (zS M) (zT M) (zE M) s (M 3)) (M 2) ≠ 99)) (M 0) ≤ M 0 := zc_le
  have c0 : ms (0 : Int32).toNatClampNeg = nI (M 0) := at_i hm (by decide) (by omega)
  rcases Nat.decEq (M 0) 0 with y | y
  · obtain ⟨f1, f3, f2⟩ := fl_f1 (s := zc (fun s => decide (zla (zPo (zS M) (zT M) (zE M) s (M 3)) (M 2) ≠ 99)) (M 0)) (g := M 0) (by omega) y v0
    have hL : f_L_busyShare on sc bc bs bt be oD = some (0, vf_upd oD (0 : Int32).toNatClampNeg (FP.f2d (FP.fdiv (FP.i2f (nI (zc (fun s => decide (zla (zPo (zS M) (zT M) (zE M) s (M 3)) (M 2) ≠ 99)) (M 0)))) (FP.i2f (nI (M 0)))))) := by
      rw [f_L_busyShare, e0, e3, e2]
      have hn : ¬ nI (M 0) = (0 : Int32) := by rw [n0e (by omega)]; exact y
      refine sft1_n ?_ (sfc1_i (a := (FP.fdiv (FP.i2f (nI (zc (fun s => decide (zla (zPo (zS M) (zT M) (zE M) s (M 3)) (M 2) ≠ 99)) (M 0)))) (FP.i2f (nI (M 0))))) ?_ (sfg_i f3 (sfg_i (by decide) (sfn_r rfl rfl))))
      · rw [f_TX11_busyShare]; exact sfb_f hn (sfc1_i hs (sfg_i f1 rfl))
      · rw [f_X11_busyShare]; exact sfb_f hn (sfc1_i hs (sfg_i f1 rfl))
    have hM : f_X12_busyShare ms mt = some ((FP.fdiv (FP.i2f (nI (zc (fun s => decide (zla (zPo (zS M) (zT M) (zE M) s (M 3)) (M 2) ≠ 99)) (M 0)))) (FP.i2f (nI (M 0)))), 0) := by
      rw [f_X12_busyShare]
      refine sfg_i (by decide) (sfn_r c0 ((lo_share hV hm 2000 0 (Nat.zero_le _) (by omega)).trans ?_))
      refine sfb_f (by rw [n0p (by omega)]; omega) (sfc2_i (isTh1 mt) (sfb_f (by decide) (sfg_i f1 rfl)))
    refine ⟨0, vf_upd oD (0 : Int32).toNatClampNeg (FP.f2d (FP.fdiv (FP.i2f (nI (zc (fun s => decide (zla (zPo (zS M) (zT M) (zE M) s (M 3)) (M 2) ≠ 99)) (M 0)))) (FP.i2f (nI (M 0))))), ?_, JB_keep hi hJ⟩
    rw [f_law44]
    exact sfc2_i hL (sfc2_i hM (sfc1_i rfl (sfb_t rfl (sfb_t rfl (sfg_i (by decide) (sfg_i f3 (sfb_t f2 rfl)))))))
  · have hL : f_L_busyShare on sc bc bs bt be oD = some (1, oD) := by
      rw [f_L_busyShare, e0]
      exact sft1_s (a0 := 5) (by rw [f_TX11_busyShare]; exact sfb_t (by rw [n0e (by omega)]; exact y) rfl) (sfb_t rfl rfl)
    have hM : f_X12_busyShare ms mt = some (FP.fconst0, 1) := by
      rw [f_X12_busyShare]
      refine sfg_i (by decide) (sfn_r c0 ((lo_share hV hm 2000 0 (Nat.zero_le _) (by omega)).trans ?_))
      refine sfb_t (by rw [n0p (by omega)]; omega) (sfc2_i (isTh0 mt) (sfb_t (by decide) rfl))
    refine ⟨1, oD, ?_, JB_keep hi hJ⟩
    rw [f_law44]
    exact sfc2_i hL (sfc2_i hM (sfc1_i rfl (sfb_t rfl (sfb_f (by decide) rfl))))
