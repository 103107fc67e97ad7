theorem ch_small : ∀ c, c < 128 → vp_nar .char (nI c) = nI c := by decide +kernel
/-! the calls that change the park: what they answer, what they keep -/
section OPZ
variable {M : Nat → Nat} {H : Nat → Nat → Nat} {c : Nat} {yv : Nat → OffT} {yn yc : Int32} {U : Nat} {on ot op os sc gc bc fc : Int32} {sd sp sw gp gr bg bs bt be ql qg fg fs fm : Nat → Int32}
theorem nn_le {a : Nat} (h : a < 2 ^ 31) : (0 : Int32) ≤ nI a := by rw [il_0, nI_leP (by omega) h]; omega
set_option maxHeartbeats 1000000 in
theorem st_build (hV : VW M U) (hr : RO M on ot op os sc sd sp sw gc gp gr bc bg bs bt be ql qg fc fg fs fm) (hU : U + 60 ≤ 4000000) (hz : HZ U yv yn yc H c) (p1 p2 : Int32) : ∃ (r : Int32) (sc' : Int32) (sd' : Nat → Int32) (sp' : Nat → Int32) (sw' : Nat → Int32) (yv' : Nat → OffT) (yn' yc' : Int32), f_L_build on ot op os sc sd sp sw gc gp gr bc bg bs bt be ql qg fc fg fs fm yv yn yc p1 p2 = some (r, sc', sd', sp', sw', yv', yn', yc') ∧ ((r < 0 ∧ RO M on ot op os sc' sd' sp' sw' gc gp gr bc bg bs bt be ql qg fc fg fs fm ∧ HZ U yv' yn' yc' H c) ∨ (0 ≤ r ∧ ∃ M', VW M' (U + 60) ∧ RO M' on ot op os sc' sd' sp' sw' gc gp gr bc bg bs bt be ql qg fc fg fs fm ∧ HZ (U + 60) yv' yn' yc' (zpu M H) (zc8 c))) := by
  obtain ⟨yv', hp, _, hH, hy⟩ := HZ_prep hz on ot op os sc sd sp sw gc gp gr bc bg bs bt be ql qg fc fg fs fm
  have hm : MR M (fun k => nI (M k)) := fun k _ => rfl
  rcases sim_build hV hm hr p1 p2 0 with ⟨c0, o, hco, h1, _⟩ | ⟨a, M', ms', sc', sd', sp', sw', h1, _, h3, h4, _, h6⟩
  · rcases hco with ⟨rfl, rfl⟩ | ⟨rfl, rfl⟩
    · refine ⟨-1, sc, sd, sp, sw, yv', yn, yc, ?_, Or.inl ⟨by decide, hr, hH⟩⟩
      rw [f_L_build]
      refine sft8_s (a0 := 1) ?_ (sfb_t rfl rfl)
      rw [f_TX11_buildSlide]
      exact sfc1_i hp (sfc5_i h1 (sft3_s rec_2 rfl))
    · refine ⟨-2, sc, sd, sp, sw, yv', yn, yc, ?_, Or.inl ⟨by decide, hr, hH⟩⟩
      rw [f_L_build]
      refine sft8_s (a0 := 2) ?_ (sfb_f (by decide) (sfb_t rfl rfl))
      rw [f_TX11_buildSlide]
      exact sfc1_i hp (sfc5_i h1 (sft3_s rec_3 rfl))
  · obtain ⟨yn', yc', k1, k3⟩ := HZ_keep hH hV (by rw [hy]; exact hr)
    refine ⟨nI a, sc', sd', sp', sw', yv', yn', yc', ?_, Or.inr ⟨nn_le h3, M', VW_up h4 (by omega) (by omega), h6, HZ_up k3 (by omega) (by omega)⟩⟩
    rw [f_L_build]
    refine sft8_n ?_ (sfc8_i (a0 := nI a) ?_ rfl)
    · rw [f_TX11_buildSlide]
      exact sfc1_i hp (sfc5_i h1 (sft3_n (rec_s h3 k1).2 (sfc3_i (rec_s h3 k1).1 rfl)))
    · rw [f_X11_buildSlide]
      exact sfc1_i hp (sfc5_i h1 (sfc3_i (rec_s h3 k1).1 rfl))
set_option maxHeartbeats 1000000 in
theorem st_addGuest (hV : VW M U) (hr : RO M on ot op os sc sd sp sw gc gp gr bc bg bs bt be ql qg fc fg fs fm) (hU : U + 60 ≤ 4000000) (hz : HZ U yv yn yc H c) : ∃ (r : Int32) (gc' : Int32) (gp' : Nat → Int32) (gr' : Nat → Int32) (yv' : Nat → OffT) (yn' yc' : Int32), f_L_addGuest on ot op os sc sd sp sw gc gp gr bc bg bs bt be ql qg fc fg fs fm yv yn yc = some (r, gc', gp', gr', yv', yn', yc') ∧ ((r < 0 ∧ RO M on ot op os sc sd sp sw gc' gp' gr' bc bg bs bt be ql qg fc fg fs fm ∧ HZ U yv' yn' yc' H c) ∨ (0 ≤ r ∧ ∃ M', VW M' (U + 60) ∧ RO M' on ot op os sc sd sp sw gc' gp' gr' bc bg bs bt be ql qg fc fg fs fm ∧ HZ (U + 60) yv' yn' yc' (zpu M H) (zc8 c))) := by
  obtain ⟨yv', hp, _, hH, hy⟩ := HZ_prep hz on ot op os sc sd sp sw gc gp gr bc bg bs bt be ql qg fc fg fs fm
  have hm : MR M (fun k => nI (M k)) := fun k _ => rfl
  rcases sim_guest hV hm hr 0 with ⟨c0, o, hco, h1, _⟩ | ⟨a, M', ms', gc', gp', gr', h1, _, h3, h4, _, h6⟩
  · rcases hco with ⟨rfl, rfl⟩
    · refine ⟨-1, gc, gp, gr, yv', yn, yc, ?_, Or.inl ⟨by decide, hr, hH⟩⟩
      rw [f_L_addGuest]
      refine sft7_s (a0 := 2) ?_ (sfb_t rfl rfl)
      rw [f_TX11_addGuest]
      exact sfc1_i hp (sfc4_i h1 (sft3_s rec_3 rfl))
  · obtain ⟨yn', yc', k1, k3⟩ := HZ_keep hH hV (by rw [hy]; exact hr)
    refine ⟨nI a, gc', gp', gr', yv', yn', yc', ?_, Or.inr ⟨nn_le h3, M', VW_up h4 (by omega) (by omega), h6, HZ_up k3 (by omega) (by omega)⟩⟩
    rw [f_L_addGuest]
    refine sft7_n ?_ (sfc7_i (a0 := nI a) ?_ rfl)
    · rw [f_TX11_addGuest]
      exact sfc1_i hp (sfc4_i h1 (sft3_n (rec_s h3 k1).2 (sfc3_i (rec_s h3 k1).1 rfl)))
    · rw [f_X11_addGuest]
      exact sfc1_i hp (sfc4_i h1 (sfc3_i (rec_s h3 k1).1 rfl))
set_option maxHeartbeats 1000000 in
theorem st_book (hV : VW M U) (hr : RO M on ot op os sc sd sp sw gc gp gr bc bg bs bt be ql qg fc fg fs fm) (hU : U + 60 ≤ 4000000) (hz : HZ U yv yn yc H c) (p1 p2 p3 : Int32) : ∃ (r : Int32) (ot' : Int32) (gp' : Nat → Int32) (bc' : Int32) (bg' : Nat → Int32) (bs' : Nat → Int32) (bt' : Nat → Int32) (be' : Nat → Int32) (yv' : Nat → OffT) (yn' yc' : Int32), f_L_book on ot op os sc sd sp sw gc gp gr bc bg bs bt be ql qg fc fg fs fm yv yn yc p1 p2 p3 = some (r, ot', gp', bc', bg', bs', bt', be', yv', yn', yc') ∧ ((r < 0 ∧ (r = -1 → ¬ (zin (M 1) p1 ∧ zin (M 0) p2)) ∧ RO M on ot' op os sc sd sp sw gc gp' gr bc' bg' bs' bt' be' ql qg fc fg fs fm ∧ HZ U yv' yn' yc' H c) ∨ (0 ≤ r ∧ ∃ M', VW M' (U + 60) ∧ RO M' on ot' op os sc sd sp sw gc gp' gr bc' bg' bs' bt' be' ql qg fc fg fs fm ∧ HZ (U + 60) yv' yn' yc' (zpu M H) (zc8 c))) := by
  obtain ⟨yv', hp, _, hH, hy⟩ := HZ_prep hz on ot op os sc sd sp sw gc gp gr bc bg bs bt be ql qg fc fg fs fm
  have hm : MR M (fun k => nI (M k)) := fun k _ => rfl
  rcases sim_book hV hm hr p1 p2 p3 0 with ⟨c0, o, hco, h1, _⟩ | ⟨a, M', ms', ot', gp', bc', bg', bs', bt', be', h1, _, h3, h4, _, h6⟩
  · rcases hco with ⟨rfl, rfl, hx⟩ | ⟨rfl, rfl⟩ | ⟨rfl, rfl⟩ | ⟨rfl, rfl⟩
    · refine ⟨-1, ot, gp, bc, bg, bs, bt, be, yv', yn, yc, ?_, Or.inl ⟨by decide, fun _ => hx, hr, hH⟩⟩
      rw [f_L_book]
      refine sft11_s (a0 := 0) ?_ (sfb_t rfl rfl)
      rw [f_TX11_book]
      exact sfc1_i hp (sfc8_i h1 (sft3_s rec_1 rfl))
    · refine ⟨-2, ot, gp, bc, bg, bs, bt, be, yv', yn, yc, ?_, Or.inl ⟨by decide, fun h => absurd h (by decide), hr, hH⟩⟩
      rw [f_L_book]
      refine sft11_s (a0 := 1) ?_ (sfb_f (by decide) (sfb_t rfl rfl))
      rw [f_TX11_book]
      exact sfc1_i hp (sfc8_i h1 (sft3_s rec_2 rfl))
    · refine ⟨-3, ot, gp, bc, bg, bs, bt, be, yv', yn, yc, ?_, Or.inl ⟨by decide, fun h => absurd h (by decide), hr, hH⟩⟩
      rw [f_L_book]
      refine sft11_s (a0 := 2) ?_ (sfb_f (by decide) (sfb_f (by decide) (sfb_t rfl rfl)))
      rw [f_TX11_book]
      exact sfc1_i hp (sfc8_i h1 (sft3_s rec_3 rfl))
    · refine ⟨-4, ot, gp, bc, bg, bs, bt, be, yv', yn, yc, ?_, Or.inl ⟨by decide, fun h => absurd h (by decide), hr, hH⟩⟩
      rw [f_L_book]
      refine sft11_s (a0 := 3) ?_ (sfb_f (by decide) (sfb_f (by decide) (sfb_f (by decide) (sfb_t rfl rfl))))
      rw [f_TX11_book]
      exact sfc1_i hp (sfc8_i h1 (sft3_s rec_4 rfl))
  · obtain ⟨yn', yc', k1, k3⟩ := HZ_keep hH hV (by rw [hy]; exact hr)
    refine ⟨nI a, ot', gp', bc', bg', bs', bt', be', yv', yn', yc', ?_, Or.inr ⟨nn_le h3, M', VW_up h4 (by omega) (by omega), h6, HZ_up k3 (by omega) (by omega)⟩⟩
    rw [f_L_book]
    refine sft11_n ?_ (sfc11_i (a0 := nI a) ?_ rfl)
    · rw [f_TX11_book]
      exact sfc1_i hp (sfc8_i h1 (sft3_n (rec_s h3 k1).2 (sfc3_i (rec_s h3 k1).1 rfl)))
    · rw [f_X11_book]
      exact sfc1_i hp (sfc8_i h1 (sfc3_i (rec_s h3 k1).1 rfl))
set_option maxHeartbeats 1000000 in
theorem st_cancel (hV : VW M U) (hr : RO M on ot op os sc sd sp sw gc gp gr bc bg bs bt be ql qg fc fg fs fm) (hU : U + 60 ≤ 4000000) (hz : HZ U yv yn yc H c) (p1 : Int32) : ∃ (r : Int32) (ot' : Int32) (op' : Int32) (gp' : Nat → Int32) (bc' : Int32) (bg' : Nat → Int32) (bs' : Nat → Int32) (bt' : Nat → Int32) (be' : Nat → Int32) (yv' : Nat → OffT) (yn' yc' : Int32), f_L_cancel on ot op os sc sd sp sw gc gp gr bc bg bs bt be ql qg fc fg fs fm yv yn yc p1 = some (r, ot', op', gp', bc', bg', bs', bt', be', yv', yn', yc') ∧ ((r < 0 ∧ RO M on ot' op' os sc sd sp sw gc gp' gr bc' bg' bs' bt' be' ql qg fc fg fs fm ∧ HZ U yv' yn' yc' H c) ∨ (0 ≤ r ∧ ∃ M', VW M' (U + 60) ∧ RO M' on ot' op' os sc sd sp sw gc gp' gr bc' bg' bs' bt' be' ql qg fc fg fs fm ∧ HZ (U + 60) yv' yn' yc' (zpu M H) (zc8 c))) := by
  obtain ⟨yv', hp, _, hH, hy⟩ := HZ_prep hz on ot op os sc sd sp sw gc gp gr bc bg bs bt be ql qg fc fg fs fm
  have hm : MR M (fun k => nI (M k)) := fun k _ => rfl
  rcases sim_cancel hV hm hr p1 0 with ⟨c0, o, hco, h1, _⟩ | ⟨a, M', ms', ot', op', gp', bc', bg', bs', bt', be', h1, _, h3, h4, _, h6⟩
  · rcases hco with ⟨rfl, rfl⟩ | ⟨rfl, rfl⟩
    · refine ⟨-1, ot, op, gp, bc, bg, bs, bt, be, yv', yn, yc, ?_, Or.inl ⟨by decide, hr, hH⟩⟩
      rw [f_L_cancel]
      refine sft12_s (a0 := 0) ?_ (sfb_t rfl rfl)
      rw [f_TX11_cancel]
      exact sfc1_i hp (sfc9_i h1 (sft3_s rec_1 rfl))
    · refine ⟨-2, ot, op, gp, bc, bg, bs, bt, be, yv', yn, yc, ?_, Or.inl ⟨by decide, hr, hH⟩⟩
      rw [f_L_cancel]
      refine sft12_s (a0 := 2) ?_ (sfb_f (by decide) (sfb_t rfl rfl))
      rw [f_TX11_cancel]
      exact sfc1_i hp (sfc9_i h1 (sft3_s rec_3 rfl))
  · obtain ⟨yn', yc', k1, k3⟩ := HZ_keep hH hV (by rw [hy]; exact hr)
    refine ⟨nI a, ot', op', gp', bc', bg', bs', bt', be', yv', yn', yc', ?_, Or.inr ⟨nn_le h3, M', VW_up h4 (by omega) (by omega), h6, HZ_up k3 (by omega) (by omega)⟩⟩
    rw [f_L_cancel]
    refine sft12_n ?_ (sfc12_i (a0 := nI a) ?_ rfl)
    · rw [f_TX11_cancel]
      exact sfc1_i hp (sfc9_i h1 (sft3_n (rec_s h3 k1).2 (sfc3_i (rec_s h3 k1).1 rfl)))
    · rw [f_X11_cancel]
      exact sfc1_i hp (sfc9_i h1 (sfc3_i (rec_s h3 k1).1 rfl))
set_option maxHeartbeats 1000000 in
theorem st_join (hV : VW M U) (hr : RO M on ot op os sc sd sp sw gc gp gr bc bg bs bt be ql qg fc fg fs fm) (hU : U + 60 ≤ 4000000) (hz : HZ U yv yn yc H c) (p1 p2 : Int32) : ∃ (r : Int32) (ql' : Nat → Int32) (qg' : Nat → Int32) (yv' : Nat → OffT) (yn' yc' : Int32), f_L_join on ot op os sc sd sp sw gc gp gr bc bg bs bt be ql qg fc fg fs fm yv yn yc p1 p2 = some (r, ql', qg', yv', yn', yc') ∧ ((r < 0 ∧ (r = -1 → ¬ (zin (M 1) p1 ∧ zin (M 0) p2)) ∧ RO M on ot op os sc sd sp sw gc gp gr bc bg bs bt be ql' qg' fc fg fs fm ∧ HZ U yv' yn' yc' H c) ∨ (0 ≤ r ∧ ∃ M', VW M' (U + 60) ∧ RO M' on ot op os sc sd sp sw gc gp gr bc bg bs bt be ql' qg' fc fg fs fm ∧ HZ (U + 60) yv' yn' yc' (zpu M H) (zc8 c))) := by
  obtain ⟨yv', hp, _, hH, hy⟩ := HZ_prep hz on ot op os sc sd sp sw gc gp gr bc bg bs bt be ql qg fc fg fs fm
  have hm : MR M (fun k => nI (M k)) := fun k _ => rfl
  rcases sim_join hV hm hr p1 p2 0 with ⟨c0, o, hco, h1, _⟩ | ⟨a, M', ms', ql', qg', h1, _, h3, h4, _, h6⟩
  · rcases hco with ⟨rfl, rfl, hx⟩ | ⟨rfl, rfl⟩ | ⟨rfl, rfl⟩
    · refine ⟨-1, ql, qg, yv', yn, yc, ?_, Or.inl ⟨by decide, fun _ => hx, hr, hH⟩⟩
      rw [f_L_join]
      refine sft6_s (a0 := 0) ?_ (sfb_t rfl rfl)
      rw [f_TX11_joinQueue]
      exact sfc1_i hp (sfc3_i h1 (sft3_s rec_1 rfl))
    · refine ⟨-2, ql, qg, yv', yn, yc, ?_, Or.inl ⟨by decide, fun h => absurd h (by decide), hr, hH⟩⟩
      rw [f_L_join]
      refine sft6_s (a0 := 2) ?_ (sfb_f (by decide) (sfb_t rfl rfl))
      rw [f_TX11_joinQueue]
      exact sfc1_i hp (sfc3_i h1 (sft3_s rec_3 rfl))
    · refine ⟨-3, ql, qg, yv', yn, yc, ?_, Or.inl ⟨by decide, fun h => absurd h (by decide), hr, hH⟩⟩
      rw [f_L_join]
      refine sft6_s (a0 := 3) ?_ (sfb_f (by decide) (sfb_f (by decide) (sfb_t rfl rfl)))
      rw [f_TX11_joinQueue]
      exact sfc1_i hp (sfc3_i h1 (sft3_s rec_4 rfl))
  · obtain ⟨yn', yc', k1, k3⟩ := HZ_keep hH hV (by rw [hy]; exact hr)
    refine ⟨nI a, ql', qg', yv', yn', yc', ?_, Or.inr ⟨nn_le h3, M', VW_up h4 (by omega) (by omega), h6, HZ_up k3 (by omega) (by omega)⟩⟩
    rw [f_L_join]
    refine sft6_n ?_ (sfc6_i (a0 := nI a) ?_ rfl)
    · rw [f_TX11_joinQueue]
      exact sfc1_i hp (sfc3_i h1 (sft3_n (rec_s h3 k1).2 (sfc3_i (rec_s h3 k1).1 rfl)))
    · rw [f_X11_joinQueue]
      exact sfc1_i hp (sfc3_i h1 (sfc3_i (rec_s h3 k1).1 rfl))
set_option maxHeartbeats 1000000 in
theorem st_leave (hV : VW M U) (hr : RO M on ot op os sc sd sp sw gc gp gr bc bg bs bt be ql qg fc fg fs fm) (hU : U + 60 ≤ 4000000) (hz : HZ U yv yn yc H c) (p1 : Int32) : ∃ (r : Int32) (ql' : Nat → Int32) (qg' : Nat → Int32) (yv' : Nat → OffT) (yn' yc' : Int32), f_L_leave on ot op os sc sd sp sw gc gp gr bc bg bs bt be ql qg fc fg fs fm yv yn yc p1 = some (r, ql', qg', yv', yn', yc') ∧ ((r < 0 ∧ RO M on ot op os sc sd sp sw gc gp gr bc bg bs bt be ql' qg' fc fg fs fm ∧ HZ U yv' yn' yc' H c) ∨ (0 ≤ r ∧ ∃ M', VW M' (U + 60) ∧ RO M' on ot op os sc sd sp sw gc gp gr bc bg bs bt be ql' qg' fc fg fs fm ∧ HZ (U + 60) yv' yn' yc' (zpu M H) (zc8 c))) := by
  obtain ⟨yv', hp, _, hH, hy⟩ := HZ_prep hz on ot op os sc sd sp sw gc gp gr bc bg bs bt be ql qg fc fg fs fm
  have hm : MR M (fun k => nI (M k)) := fun k _ => rfl
  rcases sim_leave hV hm hr p1 0 with ⟨c0, o, hco, h1, _⟩ | ⟨a, M', ms', ql', qg', h1, _, h3, h4, _, h6⟩
  · rcases hco with ⟨rfl, rfl⟩ | ⟨rfl, rfl⟩
    · refine ⟨-1, ql, qg, yv', yn, yc, ?_, Or.inl ⟨by decide, hr, hH⟩⟩
      rw [f_L_leave]
      refine sft6_s (a0 := 0) ?_ (sfb_t rfl rfl)
      rw [f_TX11_leaveQueue]
      exact sfc1_i hp (sfc3_i h1 (sft3_s rec_1 rfl))
    · refine ⟨-2, ql, qg, yv', yn, yc, ?_, Or.inl ⟨by decide, hr, hH⟩⟩
      rw [f_L_leave]
      refine sft6_s (a0 := 4) ?_ (sfb_f (by decide) (sfb_t rfl rfl))
      rw [f_TX11_leaveQueue]
      exact sfc1_i hp (sfc3_i h1 (sft3_s rec_5 rfl))
  · obtain ⟨yn', yc', k1, k3⟩ := HZ_keep hH hV (by rw [hy]; exact hr)
    refine ⟨nI a, ql', qg', yv', yn', yc', ?_, Or.inr ⟨nn_le h3, M', VW_up h4 (by omega) (by omega), h6, HZ_up k3 (by omega) (by omega)⟩⟩
    rw [f_L_leave]
    refine sft6_n ?_ (sfc6_i (a0 := nI a) ?_ rfl)
    · rw [f_TX11_leaveQueue]
      exact sfc1_i hp (sfc3_i h1 (sft3_n (rec_s h3 k1).2 (sfc3_i (rec_s h3 k1).1 rfl)))
    · rw [f_X11_leaveQueue]
      exact sfc1_i hp (sfc3_i h1 (sfc3_i (rec_s h3 k1).1 rfl))
set_option maxHeartbeats 1000000 in
theorem st_pass (hV : VW M U) (hr : RO M on ot op os sc sd sp sw gc gp gr bc bg bs bt be ql qg fc fg fs fm) (hU : U + 60 ≤ 4000000) (hz : HZ U yv yn yc H c) (p1 : Int32) : ∃ (r : Int32) (on' : Int32) (ot' : Int32) (op' : Int32) (os' : Int32) (sw' : Nat → Int32) (gp' : Nat → Int32) (gr' : Nat → Int32) (bc' : Int32) (bg' : Nat → Int32) (bs' : Nat → Int32) (bt' : Nat → Int32) (be' : Nat → Int32) (ql' : Nat → Int32) (qg' : Nat → Int32) (fc' : Int32) (fg' : Nat → Int32) (fs' : Nat → Int32) (fm' : Nat → Int32) (yv' : Nat → OffT) (yn' yc' : Int32), f_L_pass on ot op os sc sd sp sw gc gp gr bc bg bs bt be ql qg fc fg fs fm yv yn yc p1 = some (r, on', ot', op', os', sw', gp', gr', bc', bg', bs', bt', be', ql', qg', fc', fg', fs', fm', yv', yn', yc') ∧ ((r < 0 ∧ (p1 < 1 ∨ 60 < p1) ∧ RO M on' ot' op' os' sc sd sp sw' gc gp' gr' bc' bg' bs' bt' be' ql' qg' fc' fg' fs' fm' ∧ HZ U yv' yn' yc' H c) ∨ (0 ≤ r ∧ ∃ M', VW M' (U + 60) ∧ RO M' on' ot' op' os' sc sd sp sw' gc gp' gr' bc' bg' bs' bt' be' ql' qg' fc' fg' fs' fm' ∧ HZ (U + 60) yv' yn' yc' (zpu M H) (zc8 c))) := by
  obtain ⟨yv', hp, _, hH, hy⟩ := HZ_prep hz on ot op os sc sd sp sw gc gp gr bc bg bs bt be ql qg fc fg fs fm
  have hm : MR M (fun k => nI (M k)) := fun k _ => rfl
  rcases sim_wait hV hU hm hr p1 0 with ⟨c0, o, hco, h1, _⟩ | ⟨a, M', ms', on', ot', op', os', sw', gp', gr', bc', bg', bs', bt', be', ql', qg', fc', fg', fs', fm', h1, _, h3, h4, _, h6⟩
  · rcases hco with ⟨rfl, rfl, hx⟩
    · refine ⟨-1, on, ot, op, os, sw, gp, gr, bc, bg, bs, bt, be, ql, qg, fc, fg, fs, fm, yv', yn, yc, ?_, Or.inl ⟨by decide, hx, hr, hH⟩⟩
      rw [f_L_pass]
      refine sft22_s (a0 := 1) ?_ (sfb_t rfl rfl)
      rw [f_TX11_passMinutes]
      exact sfc1_i hp (sfc19_i h1 (sft3_s rec_2 rfl))
  · obtain ⟨yn', yc', k1, k3⟩ := HZ_keep hH hV (by rw [hy]; exact hr)
    refine ⟨nI a, on', ot', op', os', sw', gp', gr', bc', bg', bs', bt', be', ql', qg', fc', fg', fs', fm', yv', yn', yc', ?_, Or.inr ⟨nn_le h3, M', h4, h6, HZ_up k3 (by omega) (by omega)⟩⟩
    rw [f_L_pass]
    refine sft22_n ?_ (sfc22_i (a0 := nI a) ?_ rfl)
    · rw [f_TX11_passMinutes]
      exact sfc1_i hp (sfc19_i h1 (sft3_n (rec_s h3 k1).2 (sfc3_i (rec_s h3 k1).1 rfl)))
    · rw [f_X11_passMinutes]
      exact sfc1_i hp (sfc19_i h1 (sfc3_i (rec_s h3 k1).1 rfl))
theorem st_undo (hz : HZ U yv yn yc H c) (hc : 0 < c) : ∃ (on' : Int32) (ot' : Int32) (op' : Int32) (os' : Int32) (sc' : Int32) (sd' : Nat → Int32) (sp' : Nat → Int32) (sw' : Nat → Int32) (gc' : Int32) (gp' : Nat → Int32) (gr' : Nat → Int32) (bc' : Int32) (bg' : Nat → Int32) (bs' : Nat → Int32) (bt' : Nat → Int32) (be' : Nat → Int32) (ql' : Nat → Int32) (qg' : Nat → Int32) (fc' : Int32) (fg' : Nat → Int32) (fs' : Nat → Int32) (fm' : Nat → Int32) (yn' : Int32), f_L_undo on ot op os sc sd sp sw gc gp gr bc bg bs bt be ql qg fc fg fs fm yv yn yc = some (nI (c - 1), on', ot', op', os', sc', sd', sp', sw', gc', gp', gr', bc', bg', bs', bt', be', ql', qg', fc', fg', fs', fm', yn', nI (c - 1)) ∧ VW (H 0) U ∧ RO (H 0) on' ot' op' os' sc' sd' sp' sw' gc' gp' gr' bc' bg' bs' bt' be' ql' qg' fc' fg' fs' fm' ∧ HZ U yv yn' (nI (c - 1)) (fun j => H (j + 1)) (c - 1) := by
  obtain ⟨n, x1, x2, x3, x4, x6⟩ := hz
  obtain ⟨hV, hr⟩ := x6 0 hc
  rw [show (n + 8 - 0) % 9 = (n + 8) % 9 by omega] at hr
  obtain ⟨on', ot', op', os', sc', sd', sp', sw', gc', gp', gr', bc', bg', bs', bt', be', ql', qg', fc', fg', fs', fm', hv⟩ : ∃ on' ot' op' os' sc' sd' sp' sw' gc' gp' gr' bc' bg' bs' bt' be' ql' qg' fc' fg' fs' fm', yv ((n + 8) % 9) = (on', ot', op', os', sc', sd', sp', sw', gc', gp', gr', bc', bg', bs', bt', be', ql', qg', fc', fg', fs', fm') := ⟨_, _, _, _, _, _, _, _, _, _, _, _, _, _, _, _, _, _, _, _, _, _, rfl⟩
  rw [hv] at hr
  have hyc : ¬ yc = (0 : Int32) := by rw [x4, show (0 : Int32) = nI 0 from rfl, nI_eqP (by omega) (by omega)]; omega
  have e1 : (if yn = 0 then (8 : Int32) else yn - 1) = nI ((n + 8) % 9) := by
    rw [x3]
    rcases Nat.decEq n 0 with z | z
    · rw [if_neg (by rw [show (0 : Int32) = nI 0 from rfl, nI_eqP (by omega) (by omega)]; exact z), show (n + 8) % 9 = n - 1 by omega, show (1 : Int32) = nI 1 from rfl, nI_sub (by omega)]
    · rw [if_pos (by rw [z]; rfl), z]; rfl
  have e2 : ∀ a : Int32, a = nI c → a - 1 = nI (c - 1) := fun a ha => by
    rw [ha, show (1 : Int32) = nI 1 from rfl, nI_sub (by omega)]
  have hT : f_X7_takeBack yv yn yc on ot op os sc sd sp sw gc gp gr bc bg bs bt be ql qg fc fg fs fm = some (nI ((n + 8) % 9), nI (c - 1), on', ot', op', os', sc', sd', sp', sw', gc', gp', gr', bc', bg', bs', bt', be', ql', qg', fc', fg', fs', fm') := by
    rw [f_X7_takeBack]
    refine sfn_r e1 (sfn_r (e2 yc x4) (sfg_i (of_eq_true (nI_inT (by omega) (by omega))) ?_))
    rw [nI_clamp (by omega), hv]
  refine ⟨on', ot', op', os', sc', sd', sp', sw', gc', gp', gr', bc', bg', bs', bt', be', ql', qg', fc', fg', fs', fm', nI ((n + 8) % 9), ?_, hV, hr, (n + 8) % 9, by omega, by omega, rfl, rfl, fun j hj => ?_⟩
  · rw [f_L_undo]
    refine sft25_n ?_ (sfc25_i (a0 := nI (c - 1)) ?_ rfl)
    · rw [f_TX11_undo]; exact sfb_f hyc (sfc24_i hT rfl)
    · rw [f_X11_undo]; exact sfb_f hyc (sfc24_i hT rfl)
  · rw [show ((n + 8) % 9 + 8 - j) % 9 = (n + 8 - (j + 1)) % 9 by omega]
    exact x6 (j + 1) (by omega)
set_option maxHeartbeats 1000000 in
theorem st_runs (hV : VW M U) (hr : RO M on ot op os sc sd sp sw gc gp gr bc bg bs bt be ql qg fc fg fs fm) (hU : U + 3600 ≤ 4000000) (hz : HZ U yv yn yc H c) {ch : Nat → Nat} {l : Nat} {ts : Nat → Int32} (x3 : TT ch l ts ts) (tp : Int32) (tn : Nat → Int32) (xe xf : Int32) : ∃ (r : Int32) (on' : Int32) (ot' : Int32) (op' : Int32) (os' : Int32) (sc' : Int32) (sd' : Nat → Int32) (sp' : Nat → Int32) (sw' : Nat → Int32) (gc' : Int32) (gp' : Nat → Int32) (gr' : Nat → Int32) (bc' : Int32) (bg' : Nat → Int32) (bs' : Nat → Int32) (bt' : Nat → Int32) (be' : Nat → Int32) (ql' : Nat → Int32) (qg' : Nat → Int32) (fc' : Int32) (fg' : Nat → Int32) (fs' : Nat → Int32) (fm' : Nat → Int32) (yv' : Nat → OffT) (yn' yc' tp' : Int32) (tn' : Nat → Int32) (xe' xf' : Int32), f_L_runs on ot op os sc sd sp sw gc gp gr bc bg bs bt be ql qg fc fg fs fm yv yn yc ts (nI l) tp tn xe xf = some (r, on', ot', op', os', sc', sd', sp', sw', gc', gp', gr', bc', bg', bs', bt', be', ql', qg', fc', fg', fs', fm', yv', yn', yc', nI 0, tp', tn', xe', xf') ∧ ((r < 0 ∧ RO M on' ot' op' os' sc' sd' sp' sw' gc' gp' gr' bc' bg' bs' bt' be' ql' qg' fc' fg' fs' fm' ∧ HZ U yv' yn' yc' H c) ∨ (0 ≤ r ∧ ∃ M', VW M' (U + 3600) ∧ RO M' on' ot' op' os' sc' sd' sp' sw' gc' gp' gr' bc' bg' bs' bt' be' ql' qg' fc' fg' fs' fm' ∧ HZ (U + 3600) yv' yn' yc' (zpu M H) (zc8 c))) := by
  have x4 : l ≤ 60 := x3.1
  have hm : MR M (fun k => nI (M k)) := fun k _ => rfl
  have hem : f_X4_empty (nI l) = some (nI 0) := rfl
  rcases fx_parse x3 (fun _ => 0) (km := fun _ _ _ _ => none) with ⟨n, P, I, V, mc', p1', p2', p3', p4', p5', p6', _⟩ | ⟨e, n, w, mc', p1', p2', p3', _⟩
  · obtain ⟨tn', p6⟩ := p6' tp tn
    obtain ⟨yv', hp, hd, hH, hy⟩ := HZ_prep hz on ot op os sc sd sp sw gc gp gr bc bg bs bt be ql qg fc fg fs fm
    have hr1 : ¬ nI n = (-1 : Int32) := fun h => by
      have h2 := congrArg Int32.toInt h
      rw [nI_toInt (by omega), show (-1 : Int32).toInt = -1 by decide] at h2
      omega
    have hrw : f_X4_rewind (nI l) = some (nI (P 0)) := by rw [p3']; rfl
    obtain ⟨on', ot', op', os', sc', sd', sp', sw', gc', gp', gr', bc', bg', bs', bt', be', ql', qg', fc', fg', fs', fm', tn2, q⟩ := lo_exec p5' p2' (mE := 0) (y15 := 0) (mn := 0) (mF := 0) (a21 := fun _ => 0) (mp := fun _ => 0) n 0 M (fun k => nI (M k)) U tn' on ot op os sc sd sp sw gc gp gr bc bg bs bt be ql qg fc fg fs fm (by omega) hV (by omega) hm hr 2000 (by omega)
    rcases q with ⟨M', ms', q1, q2, q3, q4, q5, _⟩ | ⟨e, pl, q1, q2, q3, _⟩
    · obtain ⟨yn', yc', k1, k3⟩ := HZ_keep hH hV (by rw [hy]; exact hr)
      refine ⟨nI n, on', ot', op', os', sc', sd', sp', sw', gc', gp', gr', bc', bg', bs', bt', be', ql', qg', fc', fg', fs', fm', yv', yn', yc', nI (P n), tn2, xe, xf, ?_, Or.inr ⟨nn_le (by omega), M', VW_up q1 (by omega) (by omega), q3, HZ_up k3 (by omega) (by omega)⟩⟩
      rw [f_L_runs]
      refine sft31_n ?_ (sfc31_i (a0 := nI n) ?_ rfl)
      · rw [f_TX11_runCommands]
        refine sfc3_i p6 (sfb_f hr1 (sfc1_i hp (sfc1_i hrw ((q5 _).trans ?_))))
        exact sfc1_i hem (sfb_t (by rw [nI_leP (by omega) (by omega)]; exact Nat.le_refl _) (sfc2_i k1 rfl))
      · rw [f_X11_runCommands]
        refine sfc3_i p6 (sfb_f hr1 (sfc1_i hp (sfc1_i hrw ((q4 _).trans ?_))))
        exact sfc1_i hem (sfb_t (by rw [nI_leP (by omega) (by omega)]; exact Nat.le_refl _) (sfc2_i k1 rfl))
    · refine ⟨-2, on, ot, op, os, sc, sd, sp, sw, gc, gp, gr, bc, bg, bs, bt, be, ql, qg, fc, fg, fs, fm, yv', yn, yc, pl, tn2, xe, nI e, ?_, Or.inl ⟨by decide, hr, hH⟩⟩
      have hle : ¬ nI n ≤ nI e := by rw [nI_leP (by omega) (by omega)]; omega
      rw [f_L_runs]
      refine sft31_s (a0 := 3) ?_ (sfb_f (by decide) (sfb_t (by decide) rfl))
      rw [f_TX11_runCommands]
      refine sfc3_i p6 (sfb_f hr1 (sfc1_i hp (sfc1_i hrw ((q3 _).trans ?_))))
      exact sfc1_i hem (sfb_f hle (sfc22_i (hd on' ot' op' os' sc' sd' sp' sw' gc' gp' gr' bc' bg' bs' bt' be' ql' qg' fc' fg' fs' fm') rfl))
  · obtain ⟨tn', p6⟩ := p3' tp tn
    refine ⟨-1, on, ot, op, os, sc, sd, sp, sw, gc, gp, gr, bc, bg, bs, bt, be, ql, qg, fc, fg, fs, fm, yv, yn, yc, nI e, tn', nI e, xf, ?_, Or.inl ⟨by decide, hr, hz⟩⟩
    rw [f_L_runs]
    refine sft31_s (a0 := 1) ?_ (sfb_t (by decide) rfl)
    rw [f_TX11_runCommands]
    exact sfc3_i p6 (sfb_t (by decide) (sfc1_i hem rfl))
/-- a character is fed -/
theorem a_feed {ts : Nat → Int32} {l x : Nat} (hl : l < 60) (hx : x < 128) : f_L_feed ts (nI l) (nI x) = some (nI (l + 1), upd ts l (nI x), nI (l + 1)) := by
  have h3 : (nI l).toNatClampNeg = l := nI_clamp (by omega)
  have hi60 : sf_in (nI l) 60 = true := of_eq_true (nI_inT hl (by omega))
  have ha : f_X4_append ts (nI l) (nI x) = some (upd ts l (nI x), nI (l + 1)) := by
    rw [f_X4_append]
    refine sfg_i hi60 ?_
    rw [ch_small x hx, h3]
    exact sfn_r rfl (sfn_r (nI_1 l) rfl)
  have hlt : nI l < (60 : Int32) := by
    rw [show (60 : Int32) = nI 60 from rfl, nI_ltP (by omega) (by omega)]; exact hl
  rw [f_L_feed]
  refine sft3_n ?_ (sfc3_i (a := nI (l + 1)) ?_ rfl)
  · rw [f_TX11_feed]; exact sfb_t hlt (sfc2_i ha rfl)
  · rw [f_X11_feed]; exact sfb_t hlt (sfc2_i ha rfl)
theorem lr2 {t : List Nat} {tK : Nat} {tv : Nat → Int32} (ht : TS t tK tv) (h60 : t.length ≤ 60) (tp : Int32) (tn : Nat → Int32) (xe xf : Int32) : ∀ m j (ts : Nat → Int32), j ≤ t.length → t.length - j < m → (∀ k, k < j → ts k = nI (t.getD k 0)) → ∃ ts' : Nat → Int32, (∀ k, k < t.length → ts' k = nI (t.getD k 0)) ∧ ∀ kk, f_L_run_L2 on ot op os sc sd sp sw gc gp gr bc bg bs bt be ql qg fc fg fs fm yv yn yc tp tn xe xf tv tK kk m (nI j) (nI j) ts = kk (nI t.length) ts' := by
  have hL := ht.2.1
  have eK := ht.1
  intro m
  induction m with
  | zero => intro j ts hj hm; omega
  | succ m ih =>
    intro j ts hj hm hts
    rcases Nat.lt_or_ge j t.length with z | z
    · have hx := (ht.2.2 j z).2
      obtain ⟨ts', h1, h2⟩ := ih (j + 1) (upd ts j (nI (t.getD j 0))) (by omega) (by omega) (fun k hk => by
        rcases Nat.decEq k j with y | y
        · rw [upd_neP y]; exact hts k (by omega)
        · rw [upd_eqP y, y])
      refine ⟨ts', h1, fun kk => ?_⟩
      rw [f_L_run_L2]
      refine sfc1_i (len_r _) (sfb_f (by rw [nI_leP (by omega) (by omega)]; omega) (sfc1_i (a_char ht z) (sfc3_i (a_feed (by omega) hx) (sfb_t (nI_1 j).symm (sfn_r (nI_1 j) (h2 kk))))))
    · have e : j = t.length := by omega
      subst e
      refine ⟨ts, hts, fun kk => ?_⟩
      rw [f_L_run_L2]
      exact sfc1_i (len_r _) (sfb_t (by rw [nI_leP (by omega) (by omega)]; omega) rfl)
/-- a text is fed and run; the park's own text is empty before and behind -/
theorem st_run (hV : VW M U) (hr : RO M on ot op os sc sd sp sw gc gp gr bc bg bs bt be ql qg fc fg fs fm) (hU : U + 3600 ≤ 4000000) (hz : HZ U yv yn yc H c) {t : List Nat} {tK : Nat} {tv : Nat → Int32} (ht : TS t tK tv) (h60 : t.length ≤ 60) (ts : Nat → Int32) (tp : Int32) (tn : Nat → Int32) (xe xf : Int32) : ∃ (r : Int32) (on' : Int32) (ot' : Int32) (op' : Int32) (os' : Int32) (sc' : Int32) (sd' : Nat → Int32) (sp' : Nat → Int32) (sw' : Nat → Int32) (gc' : Int32) (gp' : Nat → Int32) (gr' : Nat → Int32) (bc' : Int32) (bg' : Nat → Int32) (bs' : Nat → Int32) (bt' : Nat → Int32) (be' : Nat → Int32) (ql' : Nat → Int32) (qg' : Nat → Int32) (fc' : Int32) (fg' : Nat → Int32) (fs' : Nat → Int32) (fm' : Nat → Int32) (yv' : Nat → OffT) (yn' yc' : Int32) (ts' : Nat → Int32) (tp' : Int32) (tn' : Nat → Int32) (xe' xf' : Int32), f_L_run on ot op os sc sd sp sw gc gp gr bc bg bs bt be ql qg fc fg fs fm yv yn yc ts 0 tp tn xe xf tv tK = some (r, on', ot', op', os', sc', sd', sp', sw', gc', gp', gr', bc', bg', bs', bt', be', ql', qg', fc', fg', fs', fm', yv', yn', yc', ts', 0, tp', tn', xe', xf') ∧ ((r < 0 ∧ RO M on' ot' op' os' sc' sd' sp' sw' gc' gp' gr' bc' bg' bs' bt' be' ql' qg' fc' fg' fs' fm' ∧ HZ U yv' yn' yc' H c) ∨ (0 ≤ r ∧ ∃ M', VW M' (U + 3600) ∧ RO M' on' ot' op' os' sc' sd' sp' sw' gc' gp' gr' bc' bg' bs' bt' be' ql' qg' fc' fg' fs' fm' ∧ HZ (U + 3600) yv' yn' yc' (zpu M H) (zc8 c))) := by
  obtain ⟨ts', h1, h2⟩ := lr2 (yv := yv) (yn := yn) (yc := yc) (on := on) (ot := ot) (op := op) (os := os) (sc := sc) (sd := sd) (sp := sp) (sw := sw) (gc := gc) (gp := gp) (gr := gr) (bc := bc) (bg := bg) (bs := bs) (bt := bt) (be := be) (ql := ql) (qg := qg) (fc := fc) (fg := fg) (fs := fs) (fm := fm) ht h60 tp tn xe xf 64 0 ts (Nat.zero_le _) (by omega) (fun k hk => absurd hk (Nat.not_lt_zero k))
  have hTT : TT (fun k => t.getD k 0) t.length ts' ts' := ⟨h60, fun k hk => ⟨h1 k hk, h1 k hk, by have := (ht.2.2 k hk).2; show t.getD k 0 < 65536; omega⟩⟩
  obtain ⟨r, on', ot', op', os', sc', sd', sp', sw', gc', gp', gr', bc', bg', bs', bt', be', ql', qg', fc', fg', fs', fm', yv', yn', yc', tp', tn', xe', xf', g1, g2⟩ := st_runs hV hr hU hz hTT tp tn xe xf
  refine ⟨r, on', ot', op', os', sc', sd', sp', sw', gc', gp', gr', bc', bg', bs', bt', be', ql', qg', fc', fg', fs', fm', yv', yn', yc', ts', tp', tn', xe', xf', ?_, g2⟩
  rw [f_L_run]
  exact (h2 _).trans (sfc31_i g1 rfl)
end OPZ
