def f_TX11_passMinutes (on : Int32) (ot : Int32) (op : Int32) (os : Int32) (sc : Int32) (sd : Nat → Int32) (sp : Nat → Int32) (sw : Nat → Int32) (gc : Int32) (gp : Nat → Int32) (gr : Nat → Int32) (bc : Int32) (bg : Nat → Int32) (bs : Nat → Int32) (bt : Nat → Int32) (be : Nat → Int32) (ql : Nat → Int32) (qg : Nat → Int32) (fc : Int32) (fg : Nat → Int32) (fs : Nat → Int32) (fm : Nat → Int32) (yv : Nat → OffT) (yn : Int32) (yc : Int32) (p0 : Int32) : Option (Nat × Int32 × Int32 × Int32 × Int32 × (Nat → Int32) × (Nat → Int32) × (Nat → Int32) × Int32 × (Nat → Int32) × (Nat → Int32) × (Nat → Int32) × (Nat → Int32) × (Nat → Int32) × (Nat → Int32) × Int32 × (Nat → Int32) × (Nat → Int32) × (Nat → Int32) × (Nat → OffT) × Int32 × Int32) :=
  sf_c1 (f_X7_prepare yv yn on ot op os sc sd sp sw gc gp gr bc bg bs bt be ql qg fc fg fs fm) (fun g_1 => sf_c19 (f_X8_tryWait on ot op os sc sd sp sw gp gr bc bg bs bt be ql qg fc fg fs fm p0) (fun r_2 x_3 x_4 x_5 x_6 a_7 a_8 a_9 x_10 a_11 a_12 a_13 a_14 a_15 a_16 x_17 a_18 a_19 a_20 => sf_t3 (f_TX11_recorded yn yc r_2) (fun k_21 x_22 x_23 => some (k_21, x_3, x_4, x_5, x_6, a_7, a_8, a_9, x_10, a_11, a_12, a_13, a_14, a_15, a_16, x_17, a_18, a_19, a_20, g_1, x_22, x_23)) (sf_c3 (f_X11_recorded yn yc r_2) (fun r_24 x_25 x_26 => none))))
theorem yd_TX11_passMinutes : yX11_passMinutes.cls = RX11 ∧ yX11_passMinutes.cls ≠ "java/lang/invoke/MethodHandle" ∧ yX11_passMinutes.cls ≠ "java/lang/invoke/VarHandle" ∧ (parseMethodDescriptor yX11_passMinutes.desc).map (fun d => d.parameters.length) = some 1 := ⟨rfl, by decide, by decide, by decide +kernel⟩
set_option maxRecDepth 100000 in
set_option maxHeartbeats 4000000 in
theorem c_TX11_passMinutes (l : Launch) (D : va_G) (dA : Nat → ClassId) (cA : Nat → Nat) (hst : l.stackTraces = false) (h0 h1 h2 h3 h4 h5 h6 h7 h8 h9 h10 h11 h12 h13 h14 h15 h16 h17 h18 h19 h20 h21 h41 h42 h43 h46 h49 : Nat) (aH : Nat → Nat) (sz : Nat) (on : Int32) (ot : Int32) (op : Int32) (os : Int32) (sc : Int32) (sd : Nat → Int32) (sp : Nat → Int32) (sw : Nat → Int32) (gc : Int32) (gp : Nat → Int32) (gr : Nat → Int32) (bc : Int32) (bg : Nat → Int32) (bs : Nat → Int32) (bt : Nat → Int32) (be : Nat → Int32) (ql : Nat → Int32) (qg : Nat → Int32) (fc : Int32) (fg : Nat → Int32) (fs : Nat → Int32) (fm : Nat → Int32) (xi : Int32) (yv : Nat → OffT) (yn : Int32) (yc : Int32) (xe : Int32) (xf : Int32) (p0 : Int32) (rx : Nat) (q_on : Int32) (q_ot : Int32) (q_op : Int32) (q_os : Int32) (q_sw : Nat → Int32) (q_gp : Nat → Int32) (q_gr : Nat → Int32) (q_bc : Int32) (q_bg : Nat → Int32) (q_bs : Nat → Int32) (q_bt : Nat → Int32) (q_be : Nat → Int32) (q_ql : Nat → Int32) (q_qg : Nat → Int32) (q_fc : Int32) (q_fg : Nat → Int32) (q_fs : Nat → Int32) (q_fm : Nat → Int32) (q_yv : Nat → OffT) (q_yn : Int32) (q_yc : Int32) (hf : f_TX11_passMinutes on ot op os sc sd sp sw gc gp gr bc bg bs bt be ql qg fc fg fs fm yv yn yc p0 = some (rx, q_on, q_ot, q_op, q_os, q_sw, q_gp, q_gr, q_bc, q_bg, q_bs, q_bt, q_be, q_ql, q_qg, q_fc, q_fg, q_fs, q_fm, q_yv, q_yn, q_yc)) : vx_Met l yX11_passMinutes (wo (.code yX11_passMinutes cX11_passMinutes 2 (some .int))) ({ frames := 8, cells := 1, slots := 6, locals := 153 } : Room) (preX D dA cA [.ref h0, .int p0] sz (([(h0, .inr (9, [.ref h1, .ref h21, .int xi, .ref h41, .ref h43, .ref h46, .ref h49, .int xe, .int xf])), (h1, .inr (6, [.int on, .int ot, .int op, .int os, .ref h2, .ref h6, .ref h9, .ref h14, .ref h17])), (h2, .inr (8, [.int sc, .ref h3, .ref h4, .ref h5])), (h3, .inl (dA 0, 4, .inl sd)), (h4, .inl (dA 0, 4, .inl sp)), (h5, .inl (dA 0, 4, .inl sw)), (h6, .inr (4, [.int gc, .ref h7, .ref h8])), (h7, .inl (dA 0, 10, .inl gp)), (h8, .inl (dA 0, 10, .inl gr)), (h9, .inr (0, [.int bc, .ref h10, .ref h11, .ref h12, .ref h13])), (h10, .inl (dA 0, 12, .inl bg)), (h11, .inl (dA 0, 12, .inl bs)), (h12, .inl (dA 0, 12, .inl bt)), (h13, .inl (dA 0, 12, .inl be)), (h14, .inr (7, [.ref h15, .ref h16])), (h15, .inl (dA 0, 4, .inl ql)), (h16, .inl (dA 0, 20, .inl qg)), (h17, .inr (3, [.int fc, .ref h18, .ref h19, .ref h20])), (h18, .inl (dA 0, 16, .inl fg)), (h19, .inl (dA 0, 16, .inl fs)), (h20, .inl (dA 0, 16, .inl fm)), (h41, .inr (5, [.ref h42, .int yn, .int yc])), (h42, .inl (dA 3, 9, .inr (.inr (.inr (.inr (fun i => some (aH (20 * i))))))))] : va_W) ++ rowsC dA aH yv)) noQ (xcQ D (exs rx) (([(h0, .inr (9, [.ref h1, .ref h21, .int xi, .ref h41, .ref h43, .ref h46, .ref h49, .int xe, .int xf])), (h1, .inr (6, [.int q_on, .int q_ot, .int q_op, .int q_os, .ref h2, .ref h6, .ref h9, .ref h14, .ref h17])), (h2, .inr (8, [.int sc, .ref h3, .ref h4, .ref h5])), (h3, .inl (dA 0, 4, .inl sd)), (h4, .inl (dA 0, 4, .inl sp)), (h5, .inl (dA 0, 4, .inl q_sw)), (h6, .inr (4, [.int gc, .ref h7, .ref h8])), (h7, .inl (dA 0, 10, .inl q_gp)), (h8, .inl (dA 0, 10, .inl q_gr)), (h9, .inr (0, [.int q_bc, .ref h10, .ref h11, .ref h12, .ref h13])), (h10, .inl (dA 0, 12, .inl q_bg)), (h11, .inl (dA 0, 12, .inl q_bs)), (h12, .inl (dA 0, 12, .inl q_bt)), (h13, .inl (dA 0, 12, .inl q_be)), (h14, .inr (7, [.ref h15, .ref h16])), (h15, .inl (dA 0, 4, .inl q_ql)), (h16, .inl (dA 0, 20, .inl q_qg)), (h17, .inr (3, [.int q_fc, .ref h18, .ref h19, .ref h20])), (h18, .inl (dA 0, 16, .inl q_fg)), (h19, .inl (dA 0, 16, .inl q_fs)), (h20, .inl (dA 0, 16, .inl q_fm)), (h41, .inr (5, [.ref h42, .int q_yn, .int q_yc])), (h42, .inl (dA 3, 9, .inr (.inr (.inr (.inr (fun i => some (aH (20 * i))))))))] : va_W) ++ rowsC dA aH q_yv) (va_A (([(h0, .inr (9, [.ref h1, .ref h21, .int xi, .ref h41, .ref h43, .ref h46, .ref h49, .int xe, .int xf])), (h1, .inr (6, [.int on, .int ot, .int op, .int os, .ref h2, .ref h6, .ref h9, .ref h14, .ref h17])), (h2, .inr (8, [.int sc, .ref h3, .ref h4, .ref h5])), (h3, .inl (dA 0, 4, .inl sd)), (h4, .inl (dA 0, 4, .inl sp)), (h5, .inl (dA 0, 4, .inl sw)), (h6, .inr (4, [.int gc, .ref h7, .ref h8])), (h7, .inl (dA 0, 10, .inl gp)), (h8, .inl (dA 0, 10, .inl gr)), (h9, .inr (0, [.int bc, .ref h10, .ref h11, .ref h12, .ref h13])), (h10, .inl (dA 0, 12, .inl bg)), (h11, .inl (dA 0, 12, .inl bs)), (h12, .inl (dA 0, 12, .inl bt)), (h13, .inl (dA 0, 12, .inl be)), (h14, .inr (7, [.ref h15, .ref h16])), (h15, .inl (dA 0, 4, .inl ql)), (h16, .inl (dA 0, 20, .inl qg)), (h17, .inr (3, [.int fc, .ref h18, .ref h19, .ref h20])), (h18, .inl (dA 0, 16, .inl fg)), (h19, .inl (dA 0, 16, .inl fs)), (h20, .inl (dA 0, 16, .inl fm)), (h41, .inr (5, [.ref h42, .int yn, .int yc])), (h42, .inl (dA 3, 9, .inr (.inr (.inr (.inr (fun i => some (aH (20 * i))))))))] : va_W) ++ rowsC dA aH yv) sz)) 1 6 (va_A (([(h0, .inr (9, [.ref h1, .ref h21, .int xi, .ref h41, .ref h43, .ref h46, .ref h49, .int xe, .int xf])), (h1, .inr (6, [.int on, .int ot, .int op, .int os, .ref h2, .ref h6, .ref h9, .ref h14, .ref h17])), (h2, .inr (8, [.int sc, .ref h3, .ref h4, .ref h5])), (h3, .inl (dA 0, 4, .inl sd)), (h4, .inl (dA 0, 4, .inl sp)), (h5, .inl (dA 0, 4, .inl sw)), (h6, .inr (4, [.int gc, .ref h7, .ref h8])), (h7, .inl (dA 0, 10, .inl gp)), (h8, .inl (dA 0, 10, .inl gr)), (h9, .inr (0, [.int bc, .ref h10, .ref h11, .ref h12, .ref h13])), (h10, .inl (dA 0, 12, .inl bg)), (h11, .inl (dA 0, 12, .inl bs)), (h12, .inl (dA 0, 12, .inl bt)), (h13, .inl (dA 0, 12, .inl be)), (h14, .inr (7, [.ref h15, .ref h16])), (h15, .inl (dA 0, 4, .inl ql)), (h16, .inl (dA 0, 20, .inl qg)), (h17, .inr (3, [.int fc, .ref h18, .ref h19, .ref h20])), (h18, .inl (dA 0, 16, .inl fg)), (h19, .inl (dA 0, 16, .inl fs)), (h20, .inl (dA 0, 16, .inl fm)), (h41, .inr (5, [.ref h42, .int yn, .int yc])), (h42, .inl (dA 3, 9, .inr (.inr (.inr (.inr (fun i => some (aH (20 * i))))))))] : va_W) ++ rowsC dA aH yv) sz) := by
  refine of_Z (y := yX11_passMinutes) (cc := cX11_passMinutes) (maxL := 2) (ret := (some .int)) (av := [.ref h0, .int p0]) (ws := (([(h0, .inr (9, [.ref h1, .ref h21, .int xi, .ref h41, .ref h43, .ref h46, .ref h49, .int xe, .int xf])), (h1, .inr (6, [.int on, .int ot, .int op, .int os, .ref h2, .ref h6, .ref h9, .ref h14, .ref h17])), (h2, .inr (8, [.int sc, .ref h3, .ref h4, .ref h5])), (h3, .inl (dA 0, 4, .inl sd)), (h4, .inl (dA 0, 4, .inl sp)), (h5, .inl (dA 0, 4, .inl sw)), (h6, .inr (4, [.int gc, .ref h7, .ref h8])), (h7, .inl (dA 0, 10, .inl gp)), (h8, .inl (dA 0, 10, .inl gr)), (h9, .inr (0, [.int bc, .ref h10, .ref h11, .ref h12, .ref h13])), (h10, .inl (dA 0, 12, .inl bg)), (h11, .inl (dA 0, 12, .inl bs)), (h12, .inl (dA 0, 12, .inl bt)), (h13, .inl (dA 0, 12, .inl be)), (h14, .inr (7, [.ref h15, .ref h16])), (h15, .inl (dA 0, 4, .inl ql)), (h16, .inl (dA 0, 20, .inl qg)), (h17, .inr (3, [.int fc, .ref h18, .ref h19, .ref h20])), (h18, .inl (dA 0, 16, .inl fg)), (h19, .inl (dA 0, 16, .inl fs)), (h20, .inl (dA 0, 16, .inl fm)), (h41, .inr (5, [.ref h42, .int yn, .int yc])), (h42, .inl (dA 3, 9, .inr (.inr (.inr (.inr (fun i => some (aH (20 * i))))))))] : va_W) ++ rowsC dA aH yv)) (sz := sz) (own := RX11) (XC := fun A => xcQ D (exs rx) (([(h0, .inr (9, [.ref h1, .ref h21, .int xi, .ref h41, .ref h43, .ref h46, .ref h49, .int xe, .int xf])), (h1, .inr (6, [.int q_on, .int q_ot, .int q_op, .int q_os, .ref h2, .ref h6, .ref h9, .ref h14, .ref h17])), (h2, .inr (8, [.int sc, .ref h3, .ref h4, .ref h5])), (h3, .inl (dA 0, 4, .inl sd)), (h4, .inl (dA 0, 4, .inl sp)), (h5, .inl (dA 0, 4, .inl q_sw)), (h6, .inr (4, [.int gc, .ref h7, .ref h8])), (h7, .inl (dA 0, 10, .inl q_gp)), (h8, .inl (dA 0, 10, .inl q_gr)), (h9, .inr (0, [.int q_bc, .ref h10, .ref h11, .ref h12, .ref h13])), (h10, .inl (dA 0, 12, .inl q_bg)), (h11, .inl (dA 0, 12, .inl q_bs)), (h12, .inl (dA 0, 12, .inl q_bt)), (h13, .inl (dA 0, 12, .inl q_be)), (h14, .inr (7, [.ref h15, .ref h16])), (h15, .inl (dA 0, 4, .inl q_ql)), (h16, .inl (dA 0, 20, .inl q_qg)), (h17, .inr (3, [.int q_fc, .ref h18, .ref h19, .ref h20])), (h18, .inl (dA 0, 16, .inl q_fg)), (h19, .inl (dA 0, 16, .inl q_fs)), (h20, .inl (dA 0, 16, .inl q_fm)), (h41, .inr (5, [.ref h42, .int q_yn, .int q_yc])), (h42, .inl (dA 3, 9, .inr (.inr (.inr (.inr (fun i => some (aH (20 * i))))))))] : va_W) ++ rowsC dA aH q_yv) A) (by decide) rfl (Nat.le_of_ble_eq_true rfl) ?_
  intro p e s m below meth c A hx hb hr ha hown hml hlocks hin hno hP hK hD hX hS hA ls hl
  have hC := hX.1
  have hl : lv_has ls 2 [(0, .ref h0), (1, .int p0)] := hl
  rw [f_TX11_passMinutes] at hf
  refine lv_aload_n hx hb dX11_passMinutes_0 rfl (lv_at hl 0 rfl) ?_
  refine gt_f (C := RX11) (T := TX11) (N := 9) hx hb ha in_X11 hown hK hP 0 rfl rfl 3 (by decide) m_335 rfl dX11_passMinutes_1 ?_
  refine lv_aload_n hx hb dX11_passMinutes_4 rfl (lv_at hl 0 rfl) ?_
  refine gt_f (C := RX11) (T := TX11) (N := 9) hx hb ha in_X11 hown hK hP 0 rfl rfl 0 (by decide) m_332 rfl dX11_passMinutes_5 ?_
  obtain ⟨g_1, hc1, hf⟩ := sf_c1e hf
  refine k_UMv (wr := [(h0, .inr (9, [.ref h1, .ref h21, .int xi, .ref h41, .ref h43, .ref h46, .ref h49, .int xe, .int xf]))]) (run_MVT (As := [.ref h1]) (rest := []) ⟨hx, hb, hml, hown, ha⟩ (c_X7_prepare l D dA h41 h42 h1 h2 h3 h4 h5 h6 h7 h8 h9 h10 h11 h12 h13 h14 h15 h16 h17 h18 h19 h20 aH _ yv yn yc on ot op os sc sd sp sw gc gp gr bc bg bs bt be ql qg fc fg fs fm  _ hc1) (gi_V m_373 m_374 m_375 m_38 m_376) yd_X7_prepare ⟨Nat.le_of_ble_eq_true rfl, Nat.le_of_ble_eq_true rfl⟩ ⟨rfl, rfl⟩ hK hP hD [21, 22, 1, 2, 3, 4, 5, 6, 7, 8, 9, 10, 11, 12, 13, 14, 15, 16, 17, 18, 19, 20] (by decide) rfl (va_recv hK hP (q0 := 21) rfl rfl) rfl hl.1 rfl (Nat.le_of_ble_eq_true rfl) dX11_passMinutes_8 ⟨Nat.le_of_ble_eq_true rfl, Nat.le_of_ble_eq_true rfl⟩) hP hD hS hA [21, 22, 1, 2, 3, 4, 5, 6, 7, 8, 9, 10, 11, 12, 13, 14, 15, 16, 17, 18, 19, 20] [0] rfl rfl (by decide) (by decide) (fun H locs hP hD hS => ?_)
  refine lv_aload_n hx hb dX11_passMinutes_11 rfl (lv_at hl 0 rfl) ?_
  refine lv_aload_n hx hb dX11_passMinutes_12 rfl (lv_at hl 0 rfl) ?_
  refine gt_f (C := RX11) (T := TX11) (N := 9) hx hb ha in_X11 hown hK hP 0 rfl rfl 0 (by decide) m_332 rfl dX11_passMinutes_13 ?_
  refine lv_iload_n hx hb dX11_passMinutes_16 rfl (lv_at hl 1 rfl) ?_
  obtain ⟨r_2, x_3, x_4, x_5, x_6, a_7, a_8, a_9, x_10, a_11, a_12, a_13, a_14, a_15, a_16, x_17, a_18, a_19, a_20, hc20, hf⟩ := sf_c19e hf
  refine k_TMi (wr := [(h0, .inr (9, [.ref h1, .ref h21, .int xi, .ref h41, .ref h43, .ref h46, .ref h49, .int xe, .int xf])), (h41, .inr (5, [.ref h42, .int yn, .int yc])), (h42, .inl (dA 3, 9, .inr (.inr (.inr (.inr (fun i => some (aH (20 * i))))))))]) (run_MV (As := [.int p0]) (rest := [.ref h0]) ⟨hx, hb, hml, hown, ha⟩ (c_X8_tryWait l D dA h1 h2 h3 h4 h5 h6 h7 h8 h9 h10 h11 h12 h13 h14 h15 h16 h17 h18 h19 h20  _ on ot op os sc sd sp sw gc gp gr bc bg bs bt be ql qg fc fg fs fm p0 _ _ _ _ _ _ _ _ _ _ _ _ _ _ _ _ _ _ _ hc20) (gi_V m_688 m_689 m_690 m_32 m_691) yd_X8_tryWait ⟨Nat.le_of_ble_eq_true rfl, Nat.le_of_ble_eq_true rfl⟩ ⟨rfl, rfl⟩ hK hP hD [3, 4, 5, 6, 7, 8, 9, 10, 11, 12, 13, 14, 15, 16, 17, 18, 19, 20, 21, 22] (by decide) rfl 3 6 rfl rfl rfl rfl hl.1 rfl (Nat.le_of_ble_eq_true rfl) dX11_passMinutes_17 ⟨Nat.le_of_ble_eq_true rfl, Nat.le_of_ble_eq_true rfl⟩) hP hD hS hA [3, 4, 5, 6, 7, 8, 9, 10, 11, 12, 13, 14, 15, 16, 17, 18, 19, 20, 21, 22] [0, 1, 2] rfl rfl (by decide) (by decide) (fun H locs hP hD hS => ?_)
  rcases sf_t3e hf with ⟨hnt, hf⟩ | ⟨k_21, x_22, x_23, hc23, hf⟩
  · skip
    obtain ⟨r_24, x_25, x_26, hc26, hf⟩ := sf_c3e hf
    refine k_TMi (wr := [(h42, .inl (dA 3, 9, .inr (.inr (.inr (.inr (fun i => some (aH (20 * i)))))))), (h1, .inr (6, [.int x_3, .int x_4, .int x_5, .int x_6, .ref h2, .ref h6, .ref h9, .ref h14, .ref h17])), (h2, .inr (8, [.int sc, .ref h3, .ref h4, .ref h5])), (h3, .inl (dA 0, 4, .inl sd)), (h4, .inl (dA 0, 4, .inl sp)), (h5, .inl (dA 0, 4, .inl a_7)), (h6, .inr (4, [.int gc, .ref h7, .ref h8])), (h7, .inl (dA 0, 10, .inl a_8)), (h8, .inl (dA 0, 10, .inl a_9)), (h9, .inr (0, [.int x_10, .ref h10, .ref h11, .ref h12, .ref h13])), (h10, .inl (dA 0, 12, .inl a_11)), (h11, .inl (dA 0, 12, .inl a_12)), (h12, .inl (dA 0, 12, .inl a_13)), (h13, .inl (dA 0, 12, .inl a_14)), (h14, .inr (7, [.ref h15, .ref h16])), (h15, .inl (dA 0, 4, .inl a_15)), (h16, .inl (dA 0, 20, .inl a_16)), (h17, .inr (3, [.int x_17, .ref h18, .ref h19, .ref h20])), (h18, .inl (dA 0, 16, .inl a_18)), (h19, .inl (dA 0, 16, .inl a_19)), (h20, .inl (dA 0, 16, .inl a_20))]) (run_XV (As := [.int r_2]) (rest := []) ⟨hx, hb, hml, hown, ha⟩ (c_X11_recorded l D dA cA h0 h1 h21 h41 h42 h43 h46 h49  _ xi yn yc xe xf r_2 _ _ _ hc26) (gi_V m_416 m_418 m_0 m_31 m_419) yd_X11_recorded ⟨Nat.le_of_ble_eq_true rfl, Nat.le_of_ble_eq_true rfl⟩ ⟨rfl, rfl⟩ hK hX hS hA hP hD [0, 1] (by decide) rfl (va_recv hK hP (q0 := 0) rfl rfl) rfl hl.1 rfl (Nat.le_of_ble_eq_true rfl) dX11_passMinutes_20 ⟨Nat.le_of_ble_eq_true rfl, Nat.le_of_ble_eq_true rfl⟩) hP hD hS hA [0, 1] [2, 3, 4, 5, 6, 7, 8, 9, 10, 11, 12, 13, 14, 15, 16, 17, 18, 19, 20, 21, 22] rfl rfl (by decide) (by decide) (fun H locs hP hD hS => ?_)
    cases hf
  · skip
    refine k_TZ (wr := [(h42, .inl (dA 3, 9, .inr (.inr (.inr (.inr (fun i => some (aH (20 * i)))))))), (h1, .inr (6, [.int x_3, .int x_4, .int x_5, .int x_6, .ref h2, .ref h6, .ref h9, .ref h14, .ref h17])), (h2, .inr (8, [.int sc, .ref h3, .ref h4, .ref h5])), (h3, .inl (dA 0, 4, .inl sd)), (h4, .inl (dA 0, 4, .inl sp)), (h5, .inl (dA 0, 4, .inl a_7)), (h6, .inr (4, [.int gc, .ref h7, .ref h8])), (h7, .inl (dA 0, 10, .inl a_8)), (h8, .inl (dA 0, 10, .inl a_9)), (h9, .inr (0, [.int x_10, .ref h10, .ref h11, .ref h12, .ref h13])), (h10, .inl (dA 0, 12, .inl a_11)), (h11, .inl (dA 0, 12, .inl a_12)), (h12, .inl (dA 0, 12, .inl a_13)), (h13, .inl (dA 0, 12, .inl a_14)), (h14, .inr (7, [.ref h15, .ref h16])), (h15, .inl (dA 0, 4, .inl a_15)), (h16, .inl (dA 0, 20, .inl a_16)), (h17, .inr (3, [.int x_17, .ref h18, .ref h19, .ref h20])), (h18, .inl (dA 0, 16, .inl a_18)), (h19, .inl (dA 0, 16, .inl a_19)), (h20, .inl (dA 0, 16, .inl a_20))]) (run_ZV (As := [.int r_2]) (rest := []) ⟨hx, hb, hml, hown, ha⟩ (c_TX11_recorded l D dA cA hst h0 h1 h21 h41 h42 h43 h46 h49  _ xi yn yc xe xf r_2 _ _ _ hc23) (gi_V m_416 m_418 m_0 m_31 m_419) yd_TX11_recorded ⟨Nat.le_of_ble_eq_true rfl, Nat.le_of_ble_eq_true rfl⟩ ⟨rfl, rfl⟩ hK hX hS hA hP hD [0, 1] (by decide) rfl (va_recv hK hP (q0 := 0) rfl rfl) rfl hl.1 rfl (Nat.le_of_ble_eq_true rfl) dX11_passMinutes_20 ⟨Nat.le_of_ble_eq_true rfl, Nat.le_of_ble_eq_true rfl⟩) hP hD hS hA [0, 1] [2, 3, 4, 5, 6, 7, 8, 9, 10, 11, 12, 13, 14, 15, 16, 17, 18, 19, 20, 21, 22] rfl rfl (by decide) (by decide) (fun q9 H locs hP hD hS ht9 => ?_)
    cases hf
    exact px_o hno hlocks ht9 (hP.part [21, 1, 2, 3, 4, 5, 6, 7, 8, 9, 10, 11, 12, 13, 14, 15, 16, 17, 18, 19, 20, 22, 0] rfl) (hD.part [21, 1, 2, 3, 4, 5, 6, 7, 8, 9, 10, 11, 12, 13, 14, 15, 16, 17, 18, 19, 20, 22, 0] (by decide) rfl) hS (by decide) (by decide)

def f_X11_minute (on : Int32) : Option Int32 :=
  some on
theorem yd_X11_minute : yX11_minute.cls = RX11 ∧ yX11_minute.cls ≠ "java/lang/invoke/MethodHandle" ∧ yX11_minute.cls ≠ "java/lang/invoke/VarHandle" ∧ (parseMethodDescriptor yX11_minute.desc).map (fun d => d.parameters.length) = some 0 := ⟨rfl, by decide, by decide, by decide +kernel⟩
set_option maxRecDepth 100000 in
set_option maxHeartbeats 4000000 in
theorem c_X11_minute (l : Launch) (D : va_G) (dA : Nat → ClassId) (cA : Nat → Nat) (h0 h1 h2 h6 h9 h14 h17 h21 h41 h43 h46 h49 : Nat) (on : Int32) (ot : Int32) (op : Int32) (os : Int32) (xi : Int32) (xe : Int32) (xf : Int32) (rr : Int32) (hf : f_X11_minute on = some rr) : Met l yX11_minute (wo (.code yX11_minute cX11_minute 1 (some .int))) ({ frames := 0, cells := 0, slots := 0, locals := 0 } : Room) (preY D dA cA [.ref h0] [(h0, .inr (9, [.ref h1, .ref h21, .int xi, .ref h41, .ref h43, .ref h46, .ref h49, .int xe, .int xf])), (h1, .inr (6, [.int on, .int ot, .int op, .int os, .ref h2, .ref h6, .ref h9, .ref h14, .ref h17]))]) (poPi rr) 0 0 noA := by
  refine of_Y (y := yX11_minute) (cc := cX11_minute) (maxL := 1) (ret := (some .int)) (av := [.ref h0]) (ws := [(h0, .inr (9, [.ref h1, .ref h21, .int xi, .ref h41, .ref h43, .ref h46, .ref h49, .int xe, .int xf])), (h1, .inr (6, [.int on, .int ot, .int op, .int os, .ref h2, .ref h6, .ref h9, .ref h14, .ref h17]))]) (own := RX11) (by decide) rfl (Nat.le_of_ble_eq_true rfl) ?_
  intro p e s m below meth c hx hb hr ha hown hml hlocks hP hK hX hS ls hl
  have hC := hX.1
  have hl : lv_has ls 1 [(0, .ref h0)] := hl
  rw [f_X11_minute] at hf
  refine lv_aload_n hx hb dX11_minute_0 rfl (lv_at hl 0 rfl) ?_
  refine gt_f (C := RX11) (T := TX11) (N := 9) hx hb ha in_X11 hown hK hP 0 rfl rfl 0 (by decide) m_332 rfl dX11_minute_1 ?_
  refine gt_f (C := RX8) (T := TX8) (N := 9) hx hb ha in_X8 hown hK hP 1 rfl rfl 0 (by decide) m_207 rfl dX11_minute_4 ?_
  exact rt_Pi hx hb hr hlocks (Option.some.inj hf) hS dX11_minute_7

def f_X11_slideCount (sc : Int32) : Option Int32 :=
  some sc
theorem yd_X11_slideCount : yX11_slideCount.cls = RX11 ∧ yX11_slideCount.cls ≠ "java/lang/invoke/MethodHandle" ∧ yX11_slideCount.cls ≠ "java/lang/invoke/VarHandle" ∧ (parseMethodDescriptor yX11_slideCount.desc).map (fun d => d.parameters.length) = some 0 := ⟨rfl, by decide, by decide, by decide +kernel⟩
set_option maxRecDepth 100000 in
set_option maxHeartbeats 4000000 in
theorem c_X11_slideCount (l : Launch) (D : va_G) (dA : Nat → ClassId) (cA : Nat → Nat) (h0 h1 h2 h3 h4 h5 h6 h9 h14 h17 h21 h41 h43 h46 h49 : Nat) (on : Int32) (ot : Int32) (op : Int32) (os : Int32) (sc : Int32) (xi : Int32) (xe : Int32) (xf : Int32) (rr : Int32) (hf : f_X11_slideCount sc = some rr) : Met l yX11_slideCount (wo (.code yX11_slideCount cX11_slideCount 1 (some .int))) ({ frames := 0, cells := 0, slots := 0, locals := 0 } : Room) (preY D dA cA [.ref h0] [(h0, .inr (9, [.ref h1, .ref h21, .int xi, .ref h41, .ref h43, .ref h46, .ref h49, .int xe, .int xf])), (h1, .inr (6, [.int on, .int ot, .int op, .int os, .ref h2, .ref h6, .ref h9, .ref h14, .ref h17])), (h2, .inr (8, [.int sc, .ref h3, .ref h4, .ref h5]))]) (poPi rr) 0 0 noA := by
  refine of_Y (y := yX11_slideCount) (cc := cX11_slideCount) (maxL := 1) (ret := (some .int)) (av := [.ref h0]) (ws := [(h0, .inr (9, [.ref h1, .ref h21, .int xi, .ref h41, .ref h43, .ref h46, .ref h49, .int xe, .int xf])), (h1, .inr (6, [.int on, .int ot, .int op, .int os, .ref h2, .ref h6, .ref h9, .ref h14, .ref h17])), (h2, .inr (8, [.int sc, .ref h3, .ref h4, .ref h5]))]) (own := RX11) (by decide) rfl (Nat.le_of_ble_eq_true rfl) ?_
  intro p e s m below meth c hx hb hr ha hown hml hlocks hP hK hX hS ls hl
  have hC := hX.1
  have hl : lv_has ls 1 [(0, .ref h0)] := hl
  rw [f_X11_slideCount] at hf
  refine lv_aload_n hx hb dX11_slideCount_0 rfl (lv_at hl 0 rfl) ?_
  refine gt_f (C := RX11) (T := TX11) (N := 9) hx hb ha in_X11 hown hK hP 0 rfl rfl 0 (by decide) m_332 rfl dX11_slideCount_1 ?_
  refine gt_f (C := RX8) (T := TX8) (N := 9) hx hb ha in_X8 hown hK hP 1 rfl rfl 4 (by decide) m_215 rfl dX11_slideCount_4 ?_
  refine gt_f (C := RX10) (T := TX10) (N := 4) hx hb ha in_X10 hown hK hP 2 rfl rfl 0 (by decide) m_92 rfl dX11_slideCount_7 ?_
  exact rt_Pi hx hb hr hlocks (Option.some.inj hf) hS dX11_slideCount_10

def f_X11_checkSlide (sc : Int32) (p0 : Int32) : Option Unit :=
  sf_c1 (f_X10_has sc p0) (fun r_1 => sf_b (r_1 = (0 : Int32)) (none) (some ()))
theorem yd_X11_checkSlide : yX11_checkSlide.cls = RX11 ∧ yX11_checkSlide.cls ≠ "java/lang/invoke/MethodHandle" ∧ yX11_checkSlide.cls ≠ "java/lang/invoke/VarHandle" ∧ (parseMethodDescriptor yX11_checkSlide.desc).map (fun d => d.parameters.length) = some 1 := ⟨rfl, by decide, by decide, by decide +kernel⟩
set_option maxRecDepth 100000 in
set_option maxHeartbeats 4000000 in
theorem c_X11_checkSlide (l : Launch) (D : va_G) (dA : Nat → ClassId) (cA : Nat → Nat) (h0 h1 h2 h3 h4 h5 h6 h9 h14 h17 h21 h41 h43 h46 h49 : Nat) (on : Int32) (ot : Int32) (op : Int32) (os : Int32) (sc : Int32) (sd : Nat → Int32) (sp : Nat → Int32) (sw : Nat → Int32) (xi : Int32) (xe : Int32) (xf : Int32) (p0 : Int32) (hf : f_X11_checkSlide sc p0 = some ()) : Met l yX11_checkSlide (wo (.code yX11_checkSlide cX11_checkSlide 2 none)) ({ frames := 1, cells := 0, slots := 0, locals := 21 } : Room) (preY D dA cA [.ref h0, .int p0] [(h0, .inr (9, [.ref h1, .ref h21, .int xi, .ref h41, .ref h43, .ref h46, .ref h49, .int xe, .int xf])), (h1, .inr (6, [.int on, .int ot, .int op, .int os, .ref h2, .ref h6, .ref h9, .ref h14, .ref h17])), (h2, .inr (8, [.int sc, .ref h3, .ref h4, .ref h5])), (h3, .inl (dA 0, 4, .inl sd)), (h4, .inl (dA 0, 4, .inl sp)), (h5, .inl (dA 0, 4, .inl sw))]) (poPv) 0 0 noA := by
  refine of_Y (y := yX11_checkSlide) (cc := cX11_checkSlide) (maxL := 2) (ret := none) (av := [.ref h0, .int p0]) (ws := [(h0, .inr (9, [.ref h1, .ref h21, .int xi, .ref h41, .ref h43, .ref h46, .ref h49, .int xe, .int xf])), (h1, .inr (6, [.int on, .int ot, .int op, .int os, .ref h2, .ref h6, .ref h9, .ref h14, .ref h17])), (h2, .inr (8, [.int sc, .ref h3, .ref h4, .ref h5])), (h3, .inl (dA 0, 4, .inl sd)), (h4, .inl (dA 0, 4, .inl sp)), (h5, .inl (dA 0, 4, .inl sw))]) (own := RX11) (by decide) rfl (Nat.le_of_ble_eq_true rfl) ?_
  intro p e s m below meth c hx hb hr ha hown hml hlocks hP hK hX hS ls hl
  have hC := hX.1
  have hl : lv_has ls 2 [(0, .ref h0), (1, .int p0)] := hl
  rw [f_X11_checkSlide] at hf
  refine lv_aload_n hx hb dX11_checkSlide_0 rfl (lv_at hl 0 rfl) ?_
  refine gt_f (C := RX11) (T := TX11) (N := 9) hx hb ha in_X11 hown hK hP 0 rfl rfl 0 (by decide) m_332 rfl dX11_checkSlide_1 ?_
  refine gt_f (C := RX8) (T := TX8) (N := 9) hx hb ha in_X8 hown hK hP 1 rfl rfl 4 (by decide) m_215 rfl dX11_checkSlide_4 ?_
  refine lv_iload_n hx hb dX11_checkSlide_7 rfl (lv_at hl 1 rfl) ?_
  obtain ⟨r_1, hc1, hf⟩ := sf_c1e hf
  refine k_Pi (run_PV (As := [.int p0]) (rest := []) ⟨hx, hb, hml, hown, ha⟩ (c_X10_has l D dA h2 h3 h4 h5   sc sd sp sw p0 _ hc1) (gi_V m_780 m_623 m_624 m_33 m_625) yd_X10_has ⟨Nat.le_of_ble_eq_true rfl, Nat.le_of_ble_eq_true rfl⟩ ⟨rfl, rfl⟩ hK hP [2, 3, 4, 5] rfl 2 8 rfl rfl rfl rfl hl.1 rfl (Nat.le_of_ble_eq_true rfl) dX11_checkSlide_8 ⟨Nat.le_of_ble_eq_true rfl, Nat.le_of_ble_eq_true rfl⟩) hP hS (fun H locs hP hS => ?_)
  refine lv_if_ne (tgt := 25) hx hb dX11_checkSlide_11 (by decide) (fun hc => ?_) (fun hc => ?_)
  · have hf := sf_bn hf hc
    exact rt_Pv hx hb hr hlocks hS dX11_checkSlide_25
  · have hf := sf_bp hf hc
    cases hf

def f_TX11_checkSlide (sc : Int32) (p0 : Int32) : Option Nat :=
  sf_c1 (f_X10_has sc p0) (fun r_1 => sf_b (r_1 = (0 : Int32)) (some 0) (none))
theorem yd_TX11_checkSlide : yX11_checkSlide.cls = RX11 ∧ yX11_checkSlide.cls ≠ "java/lang/invoke/MethodHandle" ∧ yX11_checkSlide.cls ≠ "java/lang/invoke/VarHandle" ∧ (parseMethodDescriptor yX11_checkSlide.desc).map (fun d => d.parameters.length) = some 1 := ⟨rfl, by decide, by decide, by decide +kernel⟩
set_option maxRecDepth 100000 in
set_option maxHeartbeats 4000000 in
theorem c_TX11_checkSlide (l : Launch) (D : va_G) (dA : Nat → ClassId) (cA : Nat → Nat) (hst : l.stackTraces = false) (h0 h1 h2 h3 h4 h5 h6 h9 h14 h17 h21 h41 h43 h46 h49 : Nat) (sz : Nat) (on : Int32) (ot : Int32) (op : Int32) (os : Int32) (sc : Int32) (sd : Nat → Int32) (sp : Nat → Int32) (sw : Nat → Int32) (xi : Int32) (xe : Int32) (xf : Int32) (p0 : Int32) (rx : Nat) (hf : f_TX11_checkSlide sc p0 = some rx) : vx_Met l yX11_checkSlide (wo (.code yX11_checkSlide cX11_checkSlide 2 none)) ({ frames := 6, cells := 1, slots := 6, locals := 100 } : Room) (preX D dA cA [.ref h0, .int p0] sz [(h0, .inr (9, [.ref h1, .ref h21, .int xi, .ref h41, .ref h43, .ref h46, .ref h49, .int xe, .int xf])), (h1, .inr (6, [.int on, .int ot, .int op, .int os, .ref h2, .ref h6, .ref h9, .ref h14, .ref h17])), (h2, .inr (8, [.int sc, .ref h3, .ref h4, .ref h5])), (h3, .inl (dA 0, 4, .inl sd)), (h4, .inl (dA 0, 4, .inl sp)), (h5, .inl (dA 0, 4, .inl sw))]) noQ (xcQ D (exs rx) [(h0, .inr (9, [.ref h1, .ref h21, .int xi, .ref h41, .ref h43, .ref h46, .ref h49, .int xe, .int xf])), (h1, .inr (6, [.int on, .int ot, .int op, .int os, .ref h2, .ref h6, .ref h9, .ref h14, .ref h17])), (h2, .inr (8, [.int sc, .ref h3, .ref h4, .ref h5])), (h3, .inl (dA 0, 4, .inl sd)), (h4, .inl (dA 0, 4, .inl sp)), (h5, .inl (dA 0, 4, .inl sw))] (va_A [(h0, .inr (9, [.ref h1, .ref h21, .int xi, .ref h41, .ref h43, .ref h46, .ref h49, .int xe, .int xf])), (h1, .inr (6, [.int on, .int ot, .int op, .int os, .ref h2, .ref h6, .ref h9, .ref h14, .ref h17])), (h2, .inr (8, [.int sc, .ref h3, .ref h4, .ref h5])), (h3, .inl (dA 0, 4, .inl sd)), (h4, .inl (dA 0, 4, .inl sp)), (h5, .inl (dA 0, 4, .inl sw))] sz)) 1 6 (va_A [(h0, .inr (9, [.ref h1, .ref h21, .int xi, .ref h41, .ref h43, .ref h46, .ref h49, .int xe, .int xf])), (h1, .inr (6, [.int on, .int ot, .int op, .int os, .ref h2, .ref h6, .ref h9, .ref h14, .ref h17])), (h2, .inr (8, [.int sc, .ref h3, .ref h4, .ref h5])), (h3, .inl (dA 0, 4, .inl sd)), (h4, .inl (dA 0, 4, .inl sp)), (h5, .inl (dA 0, 4, .inl sw))] sz) := by
  refine of_Z (y := yX11_checkSlide) (cc := cX11_checkSlide) (maxL := 2) (ret := none) (av := [.ref h0, .int p0]) (ws := [(h0, .inr (9, [.ref h1, .ref h21, .int xi, .ref h41, .ref h43, .ref h46, .ref h49, .int xe, .int xf])), (h1, .inr (6, [.int on, .int ot, .int op, .int os, .ref h2, .ref h6, .ref h9, .ref h14, .ref h17])), (h2, .inr (8, [.int sc, .ref h3, .ref h4, .ref h5])), (h3, .inl (dA 0, 4, .inl sd)), (h4, .inl (dA 0, 4, .inl sp)), (h5, .inl (dA 0, 4, .inl sw))]) (sz := sz) (own := RX11) (XC := fun A => xcQ D (exs rx) [(h0, .inr (9, [.ref h1, .ref h21, .int xi, .ref h41, .ref h43, .ref h46, .ref h49, .int xe, .int xf])), (h1, .inr (6, [.int on, .int ot, .int op, .int os, .ref h2, .ref h6, .ref h9, .ref h14, .ref h17])), (h2, .inr (8, [.int sc, .ref h3, .ref h4, .ref h5])), (h3, .inl (dA 0, 4, .inl sd)), (h4, .inl (dA 0, 4, .inl sp)), (h5, .inl (dA 0, 4, .inl sw))] A) (by decide) rfl (Nat.le_of_ble_eq_true rfl) ?_
  intro p e s m below meth c A hx hb hr ha hown hml hlocks hin hno hP hK hD hX hS hA ls hl
  have hC := hX.1
  have hl : lv_has ls 2 [(0, .ref h0), (1, .int p0)] := hl
  rw [f_TX11_checkSlide] at hf
  refine lv_aload_n hx hb dX11_checkSlide_0 rfl (lv_at hl 0 rfl) ?_
  refine gt_f (C := RX11) (T := TX11) (N := 9) hx hb ha in_X11 hown hK hP 0 rfl rfl 0 (by decide) m_332 rfl dX11_checkSlide_1 ?_
  refine gt_f (C := RX8) (T := TX8) (N := 9) hx hb ha in_X8 hown hK hP 1 rfl rfl 4 (by decide) m_215 rfl dX11_checkSlide_4 ?_
  refine lv_iload_n hx hb dX11_checkSlide_7 rfl (lv_at hl 1 rfl) ?_
  obtain ⟨r_1, hc1, hf⟩ := sf_c1e hf
  refine k_Pi (run_PV (As := [.int p0]) (rest := []) ⟨hx, hb, hml, hown, ha⟩ (c_X10_has l D dA h2 h3 h4 h5   sc sd sp sw p0 _ hc1) (gi_V m_780 m_623 m_624 m_33 m_625) yd_X10_has ⟨Nat.le_of_ble_eq_true rfl, Nat.le_of_ble_eq_true rfl⟩ ⟨rfl, rfl⟩ hK hP [2, 3, 4, 5] rfl 2 8 rfl rfl rfl rfl hl.1 rfl (Nat.le_of_ble_eq_true rfl) dX11_checkSlide_8 ⟨Nat.le_of_ble_eq_true rfl, Nat.le_of_ble_eq_true rfl⟩) hP hS (fun H locs hP hS => ?_)
  refine lv_if_ne (tgt := 25) hx hb dX11_checkSlide_11 (by decide) (fun hc => ?_) (fun hc => ?_)
  · have hf := sf_bn hf hc
    cases hf
  · have hf := sf_bp hf hc
    cases hf
    exact th_SW (E := exs 0) (text := "there is no such slide") (sa := cA 38) hx hb hst hown ha hX hS (hP.sub [0, 1, 2, 3, 4, 5] rfl) (hD.sub [0, 1, 2, 3, 4, 5] (by decide) rfl) hlocks hno (hl.1.trans hml.symm) m_423 m_49 (hC.2.2.1 (RX11, 386, "there is no such slide", 38) (List.mem_of_getElem? (i := 15) rfl)) exg_352 exb_352 exo_352 exf_352 dX11_checkSlide_14 dX11_checkSlide_17 dX11_checkSlide_18 dX11_checkSlide_21 dX11_checkSlide_24 ⟨by decide, by decide, by decide, by decide⟩ ⟨by decide, by decide⟩

def f_X11_duration (sc : Int32) (sd : Nat → Int32) (p0 : Int32) : Option Int32 :=
  sf_c0 (f_X11_checkSlide sc p0) (fun _ => sf_g (sf_in p0 4 = true) (some (sd p0.toNatClampNeg)))
theorem yd_X11_duration : yX11_duration.cls = RX11 ∧ yX11_duration.cls ≠ "java/lang/invoke/MethodHandle" ∧ yX11_duration.cls ≠ "java/lang/invoke/VarHandle" ∧ (parseMethodDescriptor yX11_duration.desc).map (fun d => d.parameters.length) = some 1 := ⟨rfl, by decide, by decide, by decide +kernel⟩
set_option maxRecDepth 100000 in
set_option maxHeartbeats 4000000 in
theorem c_X11_duration (l : Launch) (D : va_G) (dA : Nat → ClassId) (cA : Nat → Nat) (h0 h1 h2 h3 h4 h5 h6 h9 h14 h17 h21 h41 h43 h46 h49 : Nat) (on : Int32) (ot : Int32) (op : Int32) (os : Int32) (sc : Int32) (sd : Nat → Int32) (sp : Nat → Int32) (sw : Nat → Int32) (xi : Int32) (xe : Int32) (xf : Int32) (p0 : Int32) (rr : Int32) (hf : f_X11_duration sc sd p0 = some rr) : Met l yX11_duration (wo (.code yX11_duration cX11_duration 2 (some .int))) ({ frames := 2, cells := 0, slots := 0, locals := 42 } : Room) (preY D dA cA [.ref h0, .int p0] [(h0, .inr (9, [.ref h1, .ref h21, .int xi, .ref h41, .ref h43, .ref h46, .ref h49, .int xe, .int xf])), (h1, .inr (6, [.int on, .int ot, .int op, .int os, .ref h2, .ref h6, .ref h9, .ref h14, .ref h17])), (h2, .inr (8, [.int sc, .ref h3, .ref h4, .ref h5])), (h3, .inl (dA 0, 4, .inl sd)), (h4, .inl (dA 0, 4, .inl sp)), (h5, .inl (dA 0, 4, .inl sw))]) (poPi rr) 0 0 noA := by
  refine of_Y (y := yX11_duration) (cc := cX11_duration) (maxL := 2) (ret := (some .int)) (av := [.ref h0, .int p0]) (ws := [(h0, .inr (9, [.ref h1, .ref h21, .int xi, .ref h41, .ref h43, .ref h46, .ref h49, .int xe, .int xf])), (h1, .inr (6, [.int on, .int ot, .int op, .int os, .ref h2, .ref h6, .ref h9, .ref h14, .ref h17])), (h2, .inr (8, [.int sc, .ref h3, .ref h4, .ref h5])), (h3, .inl (dA 0, 4, .inl sd)), (h4, .inl (dA 0, 4, .inl sp)), (h5, .inl (dA 0, 4, .inl sw))]) (own := RX11) (by decide) rfl (Nat.le_of_ble_eq_true rfl) ?_
  intro p e s m below meth c hx hb hr ha hown hml hlocks hP hK hX hS ls hl
  have hC := hX.1
  have hl : lv_has ls 2 [(0, .ref h0), (1, .int p0)] := hl
  rw [f_X11_duration] at hf
  refine lv_aload_n hx hb dX11_duration_0 rfl (lv_at hl 0 rfl) ?_
  refine lv_iload_n hx hb dX11_duration_1 rfl (lv_at hl 1 rfl) ?_
  obtain ⟨hc0, hf⟩ := sf_c0e hf
  refine k_Pv (run_YV (As := [.int p0]) (rest := []) ⟨hx, hb, hml, hown, ha⟩ (c_X11_checkSlide l D dA cA h0 h1 h2 h3 h4 h5 h6 h9 h14 h17 h21 h41 h43 h46 h49   on ot op os sc sd sp sw xi xe xf p0  hc0) (gi_V m_776 m_778 m_12 m_31 m_779) yd_X11_checkSlide ⟨Nat.le_of_ble_eq_true rfl, Nat.le_of_ble_eq_true rfl⟩ ⟨rfl, rfl⟩ hK hX hS hP [0, 1, 2, 3, 4, 5] rfl (va_recv hK hP (q0 := 0) rfl rfl) rfl hl.1 rfl (Nat.le_of_ble_eq_true rfl) dX11_duration_2 ⟨Nat.le_of_ble_eq_true rfl, Nat.le_of_ble_eq_true rfl⟩) hP hS (fun H locs hP hS => ?_)
  refine lv_aload_n hx hb dX11_duration_5 rfl (lv_at hl 0 rfl) ?_
  refine gt_f (C := RX11) (T := TX11) (N := 9) hx hb ha in_X11 hown hK hP 0 rfl rfl 0 (by decide) m_332 rfl dX11_duration_6 ?_
  refine gt_f (C := RX8) (T := TX8) (N := 9) hx hb ha in_X8 hown hK hP 1 rfl rfl 4 (by decide) m_215 rfl dX11_duration_9 ?_
  refine gt_f (C := RX10) (T := TX10) (N := 4) hx hb ha in_X10 hown hK hP 2 rfl rfl 1 (by decide) m_94 rfl dX11_duration_12 ?_
  refine lv_iload_n hx hb dX11_duration_15 rfl (lv_at hl 1 rfl) ?_
  obtain ⟨hi, hf⟩ := sf_ge hf
  refine ia_ld hx hb hK hP 3 rfl hi dX11_duration_16 ?_
  exact rt_Pi hx hb hr hlocks (Option.some.inj hf) hS dX11_duration_17

def f_TX11_duration (sc : Int32) (p0 : Int32) : Option Nat :=
  sf_t1 (f_TX11_checkSlide sc p0) (fun k_1 => some k_1) (sf_c0 (f_X11_checkSlide sc p0) (fun _ => sf_g (sf_in p0 4 = true) (none)))
theorem yd_TX11_duration : yX11_duration.cls = RX11 ∧ yX11_duration.cls ≠ "java/lang/invoke/MethodHandle" ∧ yX11_duration.cls ≠ "java/lang/invoke/VarHandle" ∧ (parseMethodDescriptor yX11_duration.desc).map (fun d => d.parameters.length) = some 1 := ⟨rfl, by decide, by decide, by decide +kernel⟩
set_option maxRecDepth 100000 in
set_option maxHeartbeats 4000000 in
theorem c_TX11_duration (l : Launch) (D : va_G) (dA : Nat → ClassId) (cA : Nat → Nat) (hst : l.stackTraces = false) (h0 h1 h2 h3 h4 h5 h6 h9 h14 h17 h21 h41 h43 h46 h49 : Nat) (sz : Nat) (on : Int32) (ot : Int32) (op : Int32) (os : Int32) (sc : Int32) (sd : Nat → Int32) (sp : Nat → Int32) (sw : Nat → Int32) (xi : Int32) (xe : Int32) (xf : Int32) (p0 : Int32) (rx : Nat) (hf : f_TX11_duration sc p0 = some rx) : vx_Met l yX11_duration (wo (.code yX11_duration cX11_duration 2 (some .int))) ({ frames := 7, cells := 1, slots := 6, locals := 121 } : Room) (preX D dA cA [.ref h0, .int p0] sz [(h0, .inr (9, [.ref h1, .ref h21, .int xi, .ref h41, .ref h43, .ref h46, .ref h49, .int xe, .int xf])), (h1, .inr (6, [.int on, .int ot, .int op, .int os, .ref h2, .ref h6, .ref h9, .ref h14, .ref h17])), (h2, .inr (8, [.int sc, .ref h3, .ref h4, .ref h5])), (h3, .inl (dA 0, 4, .inl sd)), (h4, .inl (dA 0, 4, .inl sp)), (h5, .inl (dA 0, 4, .inl sw))]) noQ (xcQ D (exs rx) [(h0, .inr (9, [.ref h1, .ref h21, .int xi, .ref h41, .ref h43, .ref h46, .ref h49, .int xe, .int xf])), (h1, .inr (6, [.int on, .int ot, .int op, .int os, .ref h2, .ref h6, .ref h9, .ref h14, .ref h17])), (h2, .inr (8, [.int sc, .ref h3, .ref h4, .ref h5])), (h3, .inl (dA 0, 4, .inl sd)), (h4, .inl (dA 0, 4, .inl sp)), (h5, .inl (dA 0, 4, .inl sw))] (va_A [(h0, .inr (9, [.ref h1, .ref h21, .int xi, .ref h41, .ref h43, .ref h46, .ref h49, .int xe, .int xf])), (h1, .inr (6, [.int on, .int ot, .int op, .int os, .ref h2, .ref h6, .ref h9, .ref h14, .ref h17])), (h2, .inr (8, [.int sc, .ref h3, .ref h4, .ref h5])), (h3, .inl (dA 0, 4, .inl sd)), (h4, .inl (dA 0, 4, .inl sp)), (h5, .inl (dA 0, 4, .inl sw))] sz)) 1 6 (va_A [(h0, .inr (9, [.ref h1, .ref h21, .int xi, .ref h41, .ref h43, .ref h46, .ref h49, .int xe, .int xf])), (h1, .inr (6, [.int on, .int ot, .int op, .int os, .ref h2, .ref h6, .ref h9, .ref h14, .ref h17])), (h2, .inr (8, [.int sc, .ref h3, .ref h4, .ref h5])), (h3, .inl (dA 0, 4, .inl sd)), (h4, .inl (dA 0, 4, .inl sp)), (h5, .inl (dA 0, 4, .inl sw))] sz) := by
  refine of_Z (y := yX11_duration) (cc := cX11_duration) (maxL := 2) (ret := (some .int)) (av := [.ref h0, .int p0]) (ws := [(h0, .inr (9, [.ref h1, .ref h21, .int xi, .ref h41, .ref h43, .ref h46, .ref h49, .int xe, .int xf])), (h1, .inr (6, [.int on, .int ot, .int op, .int os, .ref h2, .ref h6, .ref h9, .ref h14, .ref h17])), (h2, .inr (8, [.int sc, .ref h3, .ref h4, .ref h5])), (h3, .inl (dA 0, 4, .inl sd)), (h4, .inl (dA 0, 4, .inl sp)), (h5, .inl (dA 0, 4, .inl sw))]) (sz := sz) (own := RX11) (XC := fun A => xcQ D (exs rx) [(h0, .inr (9, [.ref h1, .ref h21, .int xi, .ref h41, .ref h43, .ref h46, .ref h49, .int xe, .int xf])), (h1, .inr (6, [.int on, .int ot, .int op, .int os, .ref h2, .ref h6, .ref h9, .ref h14, .ref h17])), (h2, .inr (8, [.int sc, .ref h3, .ref h4, .ref h5])), (h3, .inl (dA 0, 4, .inl sd)), (h4, .inl (dA 0, 4, .inl sp)), (h5, .inl (dA 0, 4, .inl sw))] A) (by decide) rfl (Nat.le_of_ble_eq_true rfl) ?_
  intro p e s m below meth c A hx hb hr ha hown hml hlocks hin hno hP hK hD hX hS hA ls hl
  have hC := hX.1
  have hl : lv_has ls 2 [(0, .ref h0), (1, .int p0)] := hl
  rw [f_TX11_duration] at hf
  refine lv_aload_n hx hb dX11_duration_0 rfl (lv_at hl 0 rfl) ?_
  refine lv_iload_n hx hb dX11_duration_1 rfl (lv_at hl 1 rfl) ?_
  rcases sf_t1e hf with ⟨hnt, hf⟩ | ⟨k_1, hc1, hf⟩
  · skip
    obtain ⟨hc1, hf⟩ := sf_c0e hf
    refine k_Pv (run_YV (As := [.int p0]) (rest := []) ⟨hx, hb, hml, hown, ha⟩ (c_X11_checkSlide l D dA cA h0 h1 h2 h3 h4 h5 h6 h9 h14 h17 h21 h41 h43 h46 h49   on ot op os sc sd sp sw xi xe xf p0  hc1) (gi_V m_776 m_778 m_12 m_31 m_779) yd_X11_checkSlide ⟨Nat.le_of_ble_eq_true rfl, Nat.le_of_ble_eq_true rfl⟩ ⟨rfl, rfl⟩ hK hX hS hP [0, 1, 2, 3, 4, 5] rfl (va_recv hK hP (q0 := 0) rfl rfl) rfl hl.1 rfl (Nat.le_of_ble_eq_true rfl) dX11_duration_2 ⟨Nat.le_of_ble_eq_true rfl, Nat.le_of_ble_eq_true rfl⟩) hP hS (fun H locs hP hS => ?_)
    refine lv_aload_n hx hb dX11_duration_5 rfl (lv_at hl 0 rfl) ?_
    refine gt_f (C := RX11) (T := TX11) (N := 9) hx hb ha in_X11 hown hK hP 0 rfl rfl 0 (by decide) m_332 rfl dX11_duration_6 ?_
    refine gt_f (C := RX8) (T := TX8) (N := 9) hx hb ha in_X8 hown hK hP 1 rfl rfl 4 (by decide) m_215 rfl dX11_duration_9 ?_
    refine gt_f (C := RX10) (T := TX10) (N := 4) hx hb ha in_X10 hown hK hP 2 rfl rfl 1 (by decide) m_94 rfl dX11_duration_12 ?_
    refine lv_iload_n hx hb dX11_duration_15 rfl (lv_at hl 1 rfl) ?_
    obtain ⟨hi, hf⟩ := sf_ge hf
    refine ia_ld hx hb hK hP 3 rfl hi dX11_duration_16 ?_
    cases hf
  · skip
    refine k_Z (wr := []) (run_ZV (As := [.int p0]) (rest := []) ⟨hx, hb, hml, hown, ha⟩ (c_TX11_checkSlide l D dA cA hst h0 h1 h2 h3 h4 h5 h6 h9 h14 h17 h21 h41 h43 h46 h49  _ on ot op os sc sd sp sw xi xe xf p0 _ hc1) (gi_V m_776 m_778 m_12 m_31 m_779) yd_TX11_checkSlide ⟨Nat.le_of_ble_eq_true rfl, Nat.le_of_ble_eq_true rfl⟩ ⟨rfl, rfl⟩ hK hX hS hA hP hD [0, 1, 2, 3, 4, 5] (by decide) rfl (va_recv hK hP (q0 := 0) rfl rfl) rfl hl.1 rfl (Nat.le_of_ble_eq_true rfl) dX11_duration_2 ⟨Nat.le_of_ble_eq_true rfl, Nat.le_of_ble_eq_true rfl⟩) hP hD hS hA [0, 1, 2, 3, 4, 5] [] rfl rfl (by decide) (by decide) (fun q9 H locs hP hD hS ht9 => ?_)
    cases hf
    exact px_o hno hlocks ht9 (hP.sub [0, 1, 2, 3, 4, 5] rfl) (hD.sub [0, 1, 2, 3, 4, 5] (by decide) rfl) hS (by decide) (by decide)

def f_X11_price (sc : Int32) (sp : Nat → Int32) (p0 : Int32) : Option Int32 :=
  sf_c0 (f_X11_checkSlide sc p0) (fun _ => sf_g (sf_in p0 4 = true) (some (sp p0.toNatClampNeg)))
theorem yd_X11_price : yX11_price.cls = RX11 ∧ yX11_price.cls ≠ "java/lang/invoke/MethodHandle" ∧ yX11_price.cls ≠ "java/lang/invoke/VarHandle" ∧ (parseMethodDescriptor yX11_price.desc).map (fun d => d.parameters.length) = some 1 := ⟨rfl, by decide, by decide, by decide +kernel⟩
set_option maxRecDepth 100000 in
set_option maxHeartbeats 4000000 in
theorem c_X11_price (l : Launch) (D : va_G) (dA : Nat → ClassId) (cA : Nat → Nat) (h0 h1 h2 h3 h4 h5 h6 h9 h14 h17 h21 h41 h43 h46 h49 : Nat) (on : Int32) (ot : Int32) (op : Int32) (os : Int32) (sc : Int32) (sd : Nat → Int32) (sp : Nat → Int32) (sw : Nat → Int32) (xi : Int32) (xe : Int32) (xf : Int32) (p0 : Int32) (rr : Int32) (hf : f_X11_price sc sp p0 = some rr) : Met l yX11_price (wo (.code yX11_price cX11_price 2 (some .int))) ({ frames := 2, cells := 0, slots := 0, locals := 42 } : Room) (preY D dA cA [.ref h0, .int p0] [(h0, .inr (9, [.ref h1, .ref h21, .int xi, .ref h41, .ref h43, .ref h46, .ref h49, .int xe, .int xf])), (h1, .inr (6, [.int on, .int ot, .int op, .int os, .ref h2, .ref h6, .ref h9, .ref h14, .ref h17])), (h2, .inr (8, [.int sc, .ref h3, .ref h4, .ref h5])), (h3, .inl (dA 0, 4, .inl sd)), (h4, .inl (dA 0, 4, .inl sp)), (h5, .inl (dA 0, 4, .inl sw))]) (poPi rr) 0 0 noA := by
  refine of_Y (y := yX11_price) (cc := cX11_price) (maxL := 2) (ret := (some .int)) (av := [.ref h0, .int p0]) (ws := [(h0, .inr (9, [.ref h1, .ref h21, .int xi, .ref h41, .ref h43, .ref h46, .ref h49, .int xe, .int xf])), (h1, .inr (6, [.int on, .int ot, .int op, .int os, .ref h2, .ref h6, .ref h9, .ref h14, .ref h17])), (h2, .inr (8, [.int sc, .ref h3, .ref h4, .ref h5])), (h3, .inl (dA 0, 4, .inl sd)), (h4, .inl (dA 0, 4, .inl sp)), (h5, .inl (dA 0, 4, .inl sw))]) (own := RX11) (by decide) rfl (Nat.le_of_ble_eq_true rfl) ?_
  intro p e s m below meth c hx hb hr ha hown hml hlocks hP hK hX hS ls hl
  have hC := hX.1
  have hl : lv_has ls 2 [(0, .ref h0), (1, .int p0)] := hl
  rw [f_X11_price] at hf
  refine lv_aload_n hx hb dX11_price_0 rfl (lv_at hl 0 rfl) ?_
  refine lv_iload_n hx hb dX11_price_1 rfl (lv_at hl 1 rfl) ?_
  obtain ⟨hc0, hf⟩ := sf_c0e hf
  refine k_Pv (run_YV (As := [.int p0]) (rest := []) ⟨hx, hb, hml, hown, ha⟩ (c_X11_checkSlide l D dA cA h0 h1 h2 h3 h4 h5 h6 h9 h14 h17 h21 h41 h43 h46 h49   on ot op os sc sd sp sw xi xe xf p0  hc0) (gi_V m_776 m_778 m_12 m_31 m_779) yd_X11_checkSlide ⟨Nat.le_of_ble_eq_true rfl, Nat.le_of_ble_eq_true rfl⟩ ⟨rfl, rfl⟩ hK hX hS hP [0, 1, 2, 3, 4, 5] rfl (va_recv hK hP (q0 := 0) rfl rfl) rfl hl.1 rfl (Nat.le_of_ble_eq_true rfl) dX11_price_2 ⟨Nat.le_of_ble_eq_true rfl, Nat.le_of_ble_eq_true rfl⟩) hP hS (fun H locs hP hS => ?_)
  refine lv_aload_n hx hb dX11_price_5 rfl (lv_at hl 0 rfl) ?_
  refine gt_f (C := RX11) (T := TX11) (N := 9) hx hb ha in_X11 hown hK hP 0 rfl rfl 0 (by decide) m_332 rfl dX11_price_6 ?_
  refine gt_f (C := RX8) (T := TX8) (N := 9) hx hb ha in_X8 hown hK hP 1 rfl rfl 4 (by decide) m_215 rfl dX11_price_9 ?_
  refine gt_f (C := RX10) (T := TX10) (N := 4) hx hb ha in_X10 hown hK hP 2 rfl rfl 2 (by decide) m_98 rfl dX11_price_12 ?_
  refine lv_iload_n hx hb dX11_price_15 rfl (lv_at hl 1 rfl) ?_
  obtain ⟨hi, hf⟩ := sf_ge hf
  refine ia_ld hx hb hK hP 4 rfl hi dX11_price_16 ?_
  exact rt_Pi hx hb hr hlocks (Option.some.inj hf) hS dX11_price_17

def f_TX11_price (sc : Int32) (p0 : Int32) : Option Nat :=
  sf_t1 (f_TX11_checkSlide sc p0) (fun k_1 => some k_1) (sf_c0 (f_X11_checkSlide sc p0) (fun _ => sf_g (sf_in p0 4 = true) (none)))
theorem yd_TX11_price : yX11_price.cls = RX11 ∧ yX11_price.cls ≠ "java/lang/invoke/MethodHandle" ∧ yX11_price.cls ≠ "java/lang/invoke/VarHandle" ∧ (parseMethodDescriptor yX11_price.desc).map (fun d => d.parameters.length) = some 1 := ⟨rfl, by decide, by decide, by decide +kernel⟩
set_option maxRecDepth 100000 in
set_option maxHeartbeats 4000000 in
theorem c_TX11_price (l : Launch) (D : va_G) (dA : Nat → ClassId) (cA : Nat → Nat) (hst : l.stackTraces = false) (h0 h1 h2 h3 h4 h5 h6 h9 h14 h17 h21 h41 h43 h46 h49 : Nat) (sz : Nat) (on : Int32) (ot : Int32) (op : Int32) (os : Int32) (sc : Int32) (sd : Nat → Int32) (sp : Nat → Int32) (sw : Nat → Int32) (xi : Int32) (xe : Int32) (xf : Int32) (p0 : Int32) (rx : Nat) (hf : f_TX11_price sc p0 = some rx) : vx_Met l yX11_price (wo (.code yX11_price cX11_price 2 (some .int))) ({ frames := 7, cells := 1, slots := 6, locals := 121 } : Room) (preX D dA cA [.ref h0, .int p0] sz [(h0, .inr (9, [.ref h1, .ref h21, .int xi, .ref h41, .ref h43, .ref h46, .ref h49, .int xe, .int xf])), (h1, .inr (6, [.int on, .int ot, .int op, .int os, .ref h2, .ref h6, .ref h9, .ref h14, .ref h17])), (h2, .inr (8, [.int sc, .ref h3, .ref h4, .ref h5])), (h3, .inl (dA 0, 4, .inl sd)), (h4, .inl (dA 0, 4, .inl sp)), (h5, .inl (dA 0, 4, .inl sw))]) noQ (xcQ D (exs rx) [(h0, .inr (9, [.ref h1, .ref h21, .int xi, .ref h41, .ref h43, .ref h46, .ref h49, .int xe, .int xf])), (h1, .inr (6, [.int on, .int ot, .int op, .int os, .ref h2, .ref h6, .ref h9, .ref h14, .ref h17])), (h2, .inr (8, [.int sc, .ref h3, .ref h4, .ref h5])), (h3, .inl (dA 0, 4, .inl sd)), (h4, .inl (dA 0, 4, .inl sp)), (h5, .inl (dA 0, 4, .inl sw))] (va_A [(h0, .inr (9, [.ref h1, .ref h21, .int xi, .ref h41, .ref h43, .ref h46, .ref h49, .int xe, .int xf])), (h1, .inr (6, [.int on, .int ot, .int op, .int os, .ref h2, .ref h6, .ref h9, .ref h14, .ref h17])), (h2, .inr (8, [.int sc, .ref h3, .ref h4, .ref h5])), (h3, .inl (dA 0, 4, .inl sd)), (h4, .inl (dA 0, 4, .inl sp)), (h5, .inl (dA 0, 4, .inl sw))] sz)) 1 6 (va_A [(h0, .inr (9, [.ref h1, .ref h21, .int xi, .ref h41, .ref h43, .ref h46, .ref h49, .int xe, .int xf])), (h1, .inr (6, [.int on, .int ot, .int op, .int os, .ref h2, .ref h6, .ref h9, .ref h14, .ref h17])), (h2, .inr (8, [.int sc, .ref h3, .ref h4, .ref h5])), (h3, .inl (dA 0, 4, .inl sd)), (h4, .inl (dA 0, 4, .inl sp)), (h5, .inl (dA 0, 4, .inl sw))] sz) := by
  refine of_Z (y := yX11_price) (cc := cX11_price) (maxL := 2) (ret := (some .int)) (av := [.ref h0, .int p0]) (ws := [(h0, .inr (9, [.ref h1, .ref h21, .int xi, .ref h41, .ref h43, .ref h46, .ref h49, .int xe, .int xf])), (h1, .inr (6, [.int on, .int ot, .int op, .int os, .ref h2, .ref h6, .ref h9, .ref h14, .ref h17])), (h2, .inr (8, [.int sc, .ref h3, .ref h4, .ref h5])), (h3, .inl (dA 0, 4, .inl sd)), (h4, .inl (dA 0, 4, .inl sp)), (h5, .inl (dA 0, 4, .inl sw))]) (sz := sz) (own := RX11) (XC := fun A => xcQ D (exs rx) [(h0, .inr (9, [.ref h1, .ref h21, .int xi, .ref h41, .ref h43, .ref h46, .ref h49, .int xe, .int xf])), (h1, .inr (6, [.int on, .int ot, .int op, .int os, .ref h2, .ref h6, .ref h9, .ref h14, .ref h17])), (h2, .inr (8, [.int sc, .ref h3, .ref h4, .ref h5])), (h3, .inl (dA 0, 4, .inl sd)), (h4, .inl (dA 0, 4, .inl sp)), (h5, .inl (dA 0, 4, .inl sw))] A) (by decide) rfl (Nat.le_of_ble_eq_true rfl) ?_
  intro p e s m below meth c A hx hb hr ha hown hml hlocks hin hno hP hK hD hX hS hA ls hl
  have hC := hX.1
  have hl : lv_has ls 2 [(0, .ref h0), (1, .int p0)] := hl
  rw [f_TX11_price] at hf
  refine lv_aload_n hx hb dX11_price_0 rfl (lv_at hl 0 rfl) ?_
  refine lv_iload_n hx hb dX11_price_1 rfl (lv_at hl 1 rfl) ?_
  rcases sf_t1e hf with ⟨hnt, hf⟩ | ⟨k_1, hc1, hf⟩
  · skip
    obtain ⟨hc1, hf⟩ := sf_c0e hf
    refine k_Pv (run_YV (As := [.int p0]) (rest := []) ⟨hx, hb, hml, hown, ha⟩ (c_X11_checkSlide l D dA cA h0 h1 h2 h3 h4 h5 h6 h9 h14 h17 h21 h41 h43 h46 h49   on ot op os sc sd sp sw xi xe xf p0  hc1) (gi_V m_776 m_778 m_12 m_31 m_779) yd_X11_checkSlide ⟨Nat.le_of_ble_eq_true rfl, Nat.le_of_ble_eq_true rfl⟩ ⟨rfl, rfl⟩ hK hX hS hP [0, 1, 2, 3, 4, 5] rfl (va_recv hK hP (q0 := 0) rfl rfl) rfl hl.1 rfl (Nat.le_of_ble_eq_true rfl) dX11_price_2 ⟨Nat.le_of_ble_eq_true rfl, Nat.le_of_ble_eq_true rfl⟩) hP hS (fun H locs hP hS => ?_)
    refine lv_aload_n hx hb dX11_price_5 rfl (lv_at hl 0 rfl) ?_
    refine gt_f (C := RX11) (T := TX11) (N := 9) hx hb ha in_X11 hown hK hP 0 rfl rfl 0 (by decide) m_332 rfl dX11_price_6 ?_
    refine gt_f (C := RX8) (T := TX8) (N := 9) hx hb ha in_X8 hown hK hP 1 rfl rfl 4 (by decide) m_215 rfl dX11_price_9 ?_
    refine gt_f (C := RX10) (T := TX10) (N := 4) hx hb ha in_X10 hown hK hP 2 rfl rfl 2 (by decide) m_98 rfl dX11_price_12 ?_
    refine lv_iload_n hx hb dX11_price_15 rfl (lv_at hl 1 rfl) ?_
    obtain ⟨hi, hf⟩ := sf_ge hf
    refine ia_ld hx hb hK hP 4 rfl hi dX11_price_16 ?_
    cases hf
  · skip
    refine k_Z (wr := []) (run_ZV (As := [.int p0]) (rest := []) ⟨hx, hb, hml, hown, ha⟩ (c_TX11_checkSlide l D dA cA hst h0 h1 h2 h3 h4 h5 h6 h9 h14 h17 h21 h41 h43 h46 h49  _ on ot op os sc sd sp sw xi xe xf p0 _ hc1) (gi_V m_776 m_778 m_12 m_31 m_779) yd_TX11_checkSlide ⟨Nat.le_of_ble_eq_true rfl, Nat.le_of_ble_eq_true rfl⟩ ⟨rfl, rfl⟩ hK hX hS hA hP hD [0, 1, 2, 3, 4, 5] (by decide) rfl (va_recv hK hP (q0 := 0) rfl rfl) rfl hl.1 rfl (Nat.le_of_ble_eq_true rfl) dX11_price_2 ⟨Nat.le_of_ble_eq_true rfl, Nat.le_of_ble_eq_true rfl⟩) hP hD hS hA [0, 1, 2, 3, 4, 5] [] rfl rfl (by decide) (by decide) (fun q9 H locs hP hD hS ht9 => ?_)
    cases hf
    exact px_o hno hlocks ht9 (hP.sub [0, 1, 2, 3, 4, 5] rfl) (hD.sub [0, 1, 2, 3, 4, 5] (by decide) rfl) hS (by decide) (by decide)

def f_X11_wetness (sc : Int32) (sw : Nat → Int32) (p0 : Int32) : Option Int32 :=
  sf_c0 (f_X11_checkSlide sc p0) (fun _ => sf_g (sf_in p0 4 = true) (some (sw p0.toNatClampNeg)))
theorem yd_X11_wetness : yX11_wetness.cls = RX11 ∧ yX11_wetness.cls ≠ "java/lang/invoke/MethodHandle" ∧ yX11_wetness.cls ≠ "java/lang/invoke/VarHandle" ∧ (parseMethodDescriptor yX11_wetness.desc).map (fun d => d.parameters.length) = some 1 := ⟨rfl, by decide, by decide, by decide +kernel⟩
set_option maxRecDepth 100000 in
set_option maxHeartbeats 4000000 in
theorem c_X11_wetness (l : Launch) (D : va_G) (dA : Nat → ClassId) (cA : Nat → Nat) (h0 h1 h2 h3 h4 h5 h6 h9 h14 h17 h21 h41 h43 h46 h49 : Nat) (on : Int32) (ot : Int32) (op : Int32) (os : Int32) (sc : Int32) (sd : Nat → Int32) (sp : Nat → Int32) (sw : Nat → Int32) (xi : Int32) (xe : Int32) (xf : Int32) (p0 : Int32) (rr : Int32) (hf : f_X11_wetness sc sw p0 = some rr) : Met l yX11_wetness (wo (.code yX11_wetness cX11_wetness 2 (some .int))) ({ frames := 2, cells := 0, slots := 0, locals := 42 } : Room) (preY D dA cA [.ref h0, .int p0] [(h0, .inr (9, [.ref h1, .ref h21, .int xi, .ref h41, .ref h43, .ref h46, .ref h49, .int xe, .int xf])), (h1, .inr (6, [.int on, .int ot, .int op, .int os, .ref h2, .ref h6, .ref h9, .ref h14, .ref h17])), (h2, .inr (8, [.int sc, .ref h3, .ref h4, .ref h5])), (h3, .inl (dA 0, 4, .inl sd)), (h4, .inl (dA 0, 4, .inl sp)), (h5, .inl (dA 0, 4, .inl sw))]) (poPi rr) 0 0 noA := by
  refine of_Y (y := yX11_wetness) (cc := cX11_wetness) (maxL := 2) (ret := (some .int)) (av := [.ref h0, .int p0]) (ws := [(h0, .inr (9, [.ref h1, .ref h21, .int xi, .ref h41, .ref h43, .ref h46, .ref h49, .int xe, .int xf])), (h1, .inr (6, [.int on, .int ot, .int op, .int os, .ref h2, .ref h6, .ref h9, .ref h14, .ref h17])), (h2, .inr (8, [.int sc, .ref h3, .ref h4, .ref h5])), (h3, .inl (dA 0, 4, .inl sd)), (h4, .inl (dA 0, 4, .inl sp)), (h5, .inl (dA 0, 4, .inl sw))]) (own := RX11) (by decide) rfl (Nat.le_of_ble_eq_true rfl) ?_
  intro p e s m below meth c hx hb hr ha hown hml hlocks hP hK hX hS ls hl
  have hC := hX.1
  have hl : lv_has ls 2 [(0, .ref h0), (1, .int p0)] := hl
  rw [f_X11_wetness] at hf
  refine lv_aload_n hx hb dX11_wetness_0 rfl (lv_at hl 0 rfl) ?_
  refine lv_iload_n hx hb dX11_wetness_1 rfl (lv_at hl 1 rfl) ?_
  obtain ⟨hc0, hf⟩ := sf_c0e hf
  refine k_Pv (run_YV (As := [.int p0]) (rest := []) ⟨hx, hb, hml, hown, ha⟩ (c_X11_checkSlide l D dA cA h0 h1 h2 h3 h4 h5 h6 h9 h14 h17 h21 h41 h43 h46 h49   on ot op os sc sd sp sw xi xe xf p0  hc0) (gi_V m_776 m_778 m_12 m_31 m_779) yd_X11_checkSlide ⟨Nat.le_of_ble_eq_true rfl, Nat.le_of_ble_eq_true rfl⟩ ⟨rfl, rfl⟩ hK hX hS hP [0, 1, 2, 3, 4, 5] rfl (va_recv hK hP (q0 := 0) rfl rfl) rfl hl.1 rfl (Nat.le_of_ble_eq_true rfl) dX11_wetness_2 ⟨Nat.le_of_ble_eq_true rfl, Nat.le_of_ble_eq_true rfl⟩) hP hS (fun H locs hP hS => ?_)
  refine lv_aload_n hx hb dX11_wetness_5 rfl (lv_at hl 0 rfl) ?_
  refine gt_f (C := RX11) (T := TX11) (N := 9) hx hb ha in_X11 hown hK hP 0 rfl rfl 0 (by decide) m_332 rfl dX11_wetness_6 ?_
  refine gt_f (C := RX8) (T := TX8) (N := 9) hx hb ha in_X8 hown hK hP 1 rfl rfl 4 (by decide) m_215 rfl dX11_wetness_9 ?_
  refine gt_f (C := RX10) (T := TX10) (N := 4) hx hb ha in_X10 hown hK hP 2 rfl rfl 3 (by decide) m_100 rfl dX11_wetness_12 ?_
  refine lv_iload_n hx hb dX11_wetness_15 rfl (lv_at hl 1 rfl) ?_
  obtain ⟨hi, hf⟩ := sf_ge hf
  refine ia_ld hx hb hK hP 5 rfl hi dX11_wetness_16 ?_
  exact rt_Pi hx hb hr hlocks (Option.some.inj hf) hS dX11_wetness_17

def f_TX11_wetness (sc : Int32) (p0 : Int32) : Option Nat :=
  sf_t1 (f_TX11_checkSlide sc p0) (fun k_1 => some k_1) (sf_c0 (f_X11_checkSlide sc p0) (fun _ => sf_g (sf_in p0 4 = true) (none)))
theorem yd_TX11_wetness : yX11_wetness.cls = RX11 ∧ yX11_wetness.cls ≠ "java/lang/invoke/MethodHandle" ∧ yX11_wetness.cls ≠ "java/lang/invoke/VarHandle" ∧ (parseMethodDescriptor yX11_wetness.desc).map (fun d => d.parameters.length) = some 1 := ⟨rfl, by decide, by decide, by decide +kernel⟩
set_option maxRecDepth 100000 in
set_option maxHeartbeats 4000000 in
theorem c_TX11_wetness (l : Launch) (D : va_G) (dA : Nat → ClassId) (cA : Nat → Nat) (hst : l.stackTraces = false) (h0 h1 h2 h3 h4 h5 h6 h9 h14 h17 h21 h41 h43 h46 h49 : Nat) (sz : Nat) (on : Int32) (ot : Int32) (op : Int32) (os : Int32) (sc : Int32) (sd : Nat → Int32) (sp : Nat → Int32) (sw : Nat → Int32) (xi : Int32) (xe : Int32) (xf : Int32) (p0 : Int32) (rx : Nat) (hf : f_TX11_wetness sc p0 = some rx) : vx_Met l yX11_wetness (wo (.code yX11_wetness cX11_wetness 2 (some .int))) ({ frames := 7, cells := 1, slots := 6, locals := 121 } : Room) (preX D dA cA [.ref h0, .int p0] sz [(h0, .inr (9, [.ref h1, .ref h21, .int xi, .ref h41, .ref h43, .ref h46, .ref h49, .int xe, .int xf])), (h1, .inr (6, [.int on, .int ot, .int op, .int os, .ref h2, .ref h6, .ref h9, .ref h14, .ref h17])), (h2, .inr (8, [.int sc, .ref h3, .ref h4, .ref h5])), (h3, .inl (dA 0, 4, .inl sd)), (h4, .inl (dA 0, 4, .inl sp)), (h5, .inl (dA 0, 4, .inl sw))]) noQ (xcQ D (exs rx) [(h0, .inr (9, [.ref h1, .ref h21, .int xi, .ref h41, .ref h43, .ref h46, .ref h49, .int xe, .int xf])), (h1, .inr (6, [.int on, .int ot, .int op, .int os, .ref h2, .ref h6, .ref h9, .ref h14, .ref h17])), (h2, .inr (8, [.int sc, .ref h3, .ref h4, .ref h5])), (h3, .inl (dA 0, 4, .inl sd)), (h4, .inl (dA 0, 4, .inl sp)), (h5, .inl (dA 0, 4, .inl sw))] (va_A [(h0, .inr (9, [.ref h1, .ref h21, .int xi, .ref h41, .ref h43, .ref h46, .ref h49, .int xe, .int xf])), (h1, .inr (6, [.int on, .int ot, .int op, .int os, .ref h2, .ref h6, .ref h9, .ref h14, .ref h17])), (h2, .inr (8, [.int sc, .ref h3, .ref h4, .ref h5])), (h3, .inl (dA 0, 4, .inl sd)), (h4, .inl (dA 0, 4, .inl sp)), (h5, .inl (dA 0, 4, .inl sw))] sz)) 1 6 (va_A [(h0, .inr (9, [.ref h1, .ref h21, .int xi, .ref h41, .ref h43, .ref h46, .ref h49, .int xe, .int xf])), (h1, .inr (6, [.int on, .int ot, .int op, .int os, .ref h2, .ref h6, .ref h9, .ref h14, .ref h17])), (h2, .inr (8, [.int sc, .ref h3, .ref h4, .ref h5])), (h3, .inl (dA 0, 4, .inl sd)), (h4, .inl (dA 0, 4, .inl sp)), (h5, .inl (dA 0, 4, .inl sw))] sz) := by
  refine of_Z (y := yX11_wetness) (cc := cX11_wetness) (maxL := 2) (ret := (some .int)) (av := [.ref h0, .int p0]) (ws := [(h0, .inr (9, [.ref h1, .ref h21, .int xi, .ref h41, .ref h43, .ref h46, .ref h49, .int xe, .int xf])), (h1, .inr (6, [.int on, .int ot, .int op, .int os, .ref h2, .ref h6, .ref h9, .ref h14, .ref h17])), (h2, .inr (8, [.int sc, .ref h3, .ref h4, .ref h5])), (h3, .inl (dA 0, 4, .inl sd)), (h4, .inl (dA 0, 4, .inl sp)), (h5, .inl (dA 0, 4, .inl sw))]) (sz := sz) (own := RX11) (XC := fun A => xcQ D (exs rx) [(h0, .inr (9, [.ref h1, .ref h21, .int xi, .ref h41, .ref h43, .ref h46, .ref h49, .int xe, .int xf])), (h1, .inr (6, [.int on, .int ot, .int op, .int os, .ref h2, .ref h6, .ref h9, .ref h14, .ref h17])), (h2, .inr (8, [.int sc, .ref h3, .ref h4, .ref h5])), (h3, .inl (dA 0, 4, .inl sd)), (h4, .inl (dA 0, 4, .inl sp)), (h5, .inl (dA 0, 4, .inl sw))] A) (by decide) rfl (Nat.le_of_ble_eq_true rfl) ?_
  intro p e s m below meth c A hx hb hr ha hown hml hlocks hin hno hP hK hD hX hS hA ls hl
  have hC := hX.1
  have hl : lv_has ls 2 [(0, .ref h0), (1, .int p0)] := hl
  rw [f_TX11_wetness] at hf
  refine lv_aload_n hx hb dX11_wetness_0 rfl (lv_at hl 0 rfl) ?_
  refine lv_iload_n hx hb dX11_wetness_1 rfl (lv_at hl 1 rfl) ?_
  rcases sf_t1e hf with ⟨hnt, hf⟩ | ⟨k_1, hc1, hf⟩
  · skip
    obtain ⟨hc1, hf⟩ := sf_c0e hf
    refine k_Pv (run_YV (As := [.int p0]) (rest := []) ⟨hx, hb, hml, hown, ha⟩ (c_X11_checkSlide l D dA cA h0 h1 h2 h3 h4 h5 h6 h9 h14 h17 h21 h41 h43 h46 h49   on ot op os sc sd sp sw xi xe xf p0  hc1) (gi_V m_776 m_778 m_12 m_31 m_779) yd_X11_checkSlide ⟨Nat.le_of_ble_eq_true rfl, Nat.le_of_ble_eq_true rfl⟩ ⟨rfl, rfl⟩ hK hX hS hP [0, 1, 2, 3, 4, 5] rfl (va_recv hK hP (q0 := 0) rfl rfl) rfl hl.1 rfl (Nat.le_of_ble_eq_true rfl) dX11_wetness_2 ⟨Nat.le_of_ble_eq_true rfl, Nat.le_of_ble_eq_true rfl⟩) hP hS (fun H locs hP hS => ?_)
    refine lv_aload_n hx hb dX11_wetness_5 rfl (lv_at hl 0 rfl) ?_
    refine gt_f (C := RX11) (T := TX11) (N := 9) hx hb ha in_X11 hown hK hP 0 rfl rfl 0 (by decide) m_332 rfl dX11_wetness_6 ?_
    refine gt_f (C := RX8) (T := TX8) (N := 9) hx hb ha in_X8 hown hK hP 1 rfl rfl 4 (by decide) m_215 rfl dX11_wetness_9 ?_
    refine gt_f (C := RX10) (T := TX10) (N := 4) hx hb ha in_X10 hown hK hP 2 rfl rfl 3 (by decide) m_100 rfl dX11_wetness_12 ?_
    refine lv_iload_n hx hb dX11_wetness_15 rfl (lv_at hl 1 rfl) ?_
    obtain ⟨hi, hf⟩ := sf_ge hf
    refine ia_ld hx hb hK hP 5 rfl hi dX11_wetness_16 ?_
    cases hf
  · skip
    refine k_Z (wr := []) (run_ZV (As := [.int p0]) (rest := []) ⟨hx, hb, hml, hown, ha⟩ (c_TX11_checkSlide l D dA cA hst h0 h1 h2 h3 h4 h5 h6 h9 h14 h17 h21 h41 h43 h46 h49  _ on ot op os sc sd sp sw xi xe xf p0 _ hc1) (gi_V m_776 m_778 m_12 m_31 m_779) yd_TX11_checkSlide ⟨Nat.le_of_ble_eq_true rfl, Nat.le_of_ble_eq_true rfl⟩ ⟨rfl, rfl⟩ hK hX hS hA hP hD [0, 1, 2, 3, 4, 5] (by decide) rfl (va_recv hK hP (q0 := 0) rfl rfl) rfl hl.1 rfl (Nat.le_of_ble_eq_true rfl) dX11_wetness_2 ⟨Nat.le_of_ble_eq_true rfl, Nat.le_of_ble_eq_true rfl⟩) hP hD hS hA [0, 1, 2, 3, 4, 5] [] rfl rfl (by decide) (by decide) (fun q9 H locs hP hD hS ht9 => ?_)
    cases hf
    exact px_o hno hlocks ht9 (hP.sub [0, 1, 2, 3, 4, 5] rfl) (hD.sub [0, 1, 2, 3, 4, 5] (by decide) rfl) hS (by decide) (by decide)

def f_X11_rider (on : Int32) (sc : Int32) (bc : Int32) (bg : Nat → Int32) (bs : Nat → Int32) (bt : Nat → Int32) (be : Nat → Int32) (p0 : Int32) : Option Int32 :=
  sf_c0 (f_X11_checkSlide sc p0) (fun _ => sf_c1 (f_X1_onSlideAt bc bs bt be p0 on) (fun r_1 => sf_b (r_1 = (-1 : Int32)) (none) (sf_g (sf_in r_1 12 = true) (some (bg r_1.toNatClampNeg)))))
theorem yd_X11_rider : yX11_rider.cls = RX11 ∧ yX11_rider.cls ≠ "java/lang/invoke/MethodHandle" ∧ yX11_rider.cls ≠ "java/lang/invoke/VarHandle" ∧ (parseMethodDescriptor yX11_rider.desc).map (fun d => d.parameters.length) = some 1 := ⟨rfl, by decide, by decide, by decide +kernel⟩
set_option maxRecDepth 100000 in
set_option maxHeartbeats 4000000 in
theorem c_X11_rider (l : Launch) (D : va_G) (dA : Nat → ClassId) (cA : Nat → Nat) (h0 h1 h2 h3 h4 h5 h6 h9 h10 h11 h12 h13 h14 h17 h21 h41 h43 h46 h49 : Nat) (on : Int32) (ot : Int32) (op : Int32) (os : Int32) (sc : Int32) (sd : Nat → Int32) (sp : Nat → Int32) (sw : Nat → Int32) (bc : Int32) (bg : Nat → Int32) (bs : Nat → Int32) (bt : Nat → Int32) (be : Nat → Int32) (xi : Int32) (xe : Int32) (xf : Int32) (p0 : Int32) (rr : Int32) (hf : f_X11_rider on sc bc bg bs bt be p0 = some rr) : Met l yX11_rider (wo (.code yX11_rider cX11_rider 3 (some .int))) ({ frames := 2, cells := 0, slots := 0, locals := 45 } : Room) (preY D dA cA [.ref h0, .int p0] [(h0, .inr (9, [.ref h1, .ref h21, .int xi, .ref h41, .ref h43, .ref h46, .ref h49, .int xe, .int xf])), (h1, .inr (6, [.int on, .int ot, .int op, .int os, .ref h2, .ref h6, .ref h9, .ref h14, .ref h17])), (h2, .inr (8, [.int sc, .ref h3, .ref h4, .ref h5])), (h3, .inl (dA 0, 4, .inl sd)), (h4, .inl (dA 0, 4, .inl sp)), (h5, .inl (dA 0, 4, .inl sw)), (h9, .inr (0, [.int bc, .ref h10, .ref h11, .ref h12, .ref h13])), (h10, .inl (dA 0, 12, .inl bg)), (h11, .inl (dA 0, 12, .inl bs)), (h12, .inl (dA 0, 12, .inl bt)), (h13, .inl (dA 0, 12, .inl be))]) (poPi rr) 0 0 noA := by
  refine of_Y (y := yX11_rider) (cc := cX11_rider) (maxL := 3) (ret := (some .int)) (av := [.ref h0, .int p0]) (ws := [(h0, .inr (9, [.ref h1, .ref h21, .int xi, .ref h41, .ref h43, .ref h46, .ref h49, .int xe, .int xf])), (h1, .inr (6, [.int on, .int ot, .int op, .int os, .ref h2, .ref h6, .ref h9, .ref h14, .ref h17])), (h2, .inr (8, [.int sc, .ref h3, .ref h4, .ref h5])), (h3, .inl (dA 0, 4, .inl sd)), (h4, .inl (dA 0, 4, .inl sp)), (h5, .inl (dA 0, 4, .inl sw)), (h9, .inr (0, [.int bc, .ref h10, .ref h11, .ref h12, .ref h13])), (h10, .inl (dA 0, 12, .inl bg)), (h11, .inl (dA 0, 12, .inl bs)), (h12, .inl (dA 0, 12, .inl bt)), (h13, .inl (dA 0, 12, .inl be))]) (own := RX11) (by decide) rfl (Nat.le_of_ble_eq_true rfl) ?_
  intro p e s m below meth c hx hb hr ha hown hml hlocks hP hK hX hS ls hl
  have hC := hX.1
  have hl : lv_has ls 3 [(0, .ref h0), (1, .int p0)] := hl
  rw [f_X11_rider] at hf
  refine lv_aload_n hx hb dX11_rider_0 rfl (lv_at hl 0 rfl) ?_
  refine lv_iload_n hx hb dX11_rider_1 rfl (lv_at hl 1 rfl) ?_
  obtain ⟨hc0, hf⟩ := sf_c0e hf
  refine k_Pv (run_YV (As := [.int p0]) (rest := []) ⟨hx, hb, hml, hown, ha⟩ (c_X11_checkSlide l D dA cA h0 h1 h2 h3 h4 h5 h6 h9 h14 h17 h21 h41 h43 h46 h49   on ot op os sc sd sp sw xi xe xf p0  hc0) (gi_V m_776 m_778 m_12 m_31 m_779) yd_X11_checkSlide ⟨Nat.le_of_ble_eq_true rfl, Nat.le_of_ble_eq_true rfl⟩ ⟨rfl, rfl⟩ hK hX hS hP [0, 1, 2, 3, 4, 5] rfl (va_recv hK hP (q0 := 0) rfl rfl) rfl hl.1 rfl (Nat.le_of_ble_eq_true rfl) dX11_rider_2 ⟨Nat.le_of_ble_eq_true rfl, Nat.le_of_ble_eq_true rfl⟩) hP hS (fun H locs hP hS => ?_)
  refine lv_aload_n hx hb dX11_rider_5 rfl (lv_at hl 0 rfl) ?_
  refine gt_f (C := RX11) (T := TX11) (N := 9) hx hb ha in_X11 hown hK hP 0 rfl rfl 0 (by decide) m_332 rfl dX11_rider_6 ?_
  refine gt_f (C := RX8) (T := TX8) (N := 9) hx hb ha in_X8 hown hK hP 1 rfl rfl 6 (by decide) m_219 rfl dX11_rider_9 ?_
  refine lv_iload_n hx hb dX11_rider_12 rfl (lv_at hl 1 rfl) ?_
  refine lv_aload_n hx hb dX11_rider_13 rfl (lv_at hl 0 rfl) ?_
  refine gt_f (C := RX11) (T := TX11) (N := 9) hx hb ha in_X11 hown hK hP 0 rfl rfl 0 (by decide) m_332 rfl dX11_rider_14 ?_
  refine gt_f (C := RX8) (T := TX8) (N := 9) hx hb ha in_X8 hown hK hP 1 rfl rfl 0 (by decide) m_207 rfl dX11_rider_17 ?_
  obtain ⟨r_1, hc1, hf⟩ := sf_c1e hf
  refine k_Pi (run_PV (As := [.int p0, .int on]) (rest := []) ⟨hx, hb, hml, hown, ha⟩ (c_X1_onSlideAt l D dA h9 h10 h11 h12 h13   bc bg bs bt be p0 on _ hc1) (gi_V m_918 m_706 m_707 m_35 m_708) yd_X1_onSlideAt ⟨Nat.le_of_ble_eq_true rfl, Nat.le_of_ble_eq_true rfl⟩ ⟨rfl, rfl⟩ hK hP [6, 7, 8, 9, 10] rfl 6 0 rfl rfl rfl rfl hl.1 rfl (Nat.le_of_ble_eq_true rfl) dX11_rider_20 ⟨Nat.le_of_ble_eq_true rfl, Nat.le_of_ble_eq_true rfl⟩) hP hS (fun H locs hP hS => ?_)
  refine lv_istore_n (lv' := [(2, .int r_1), (0, .ref h0), (1, .int p0)]) hx hb dX11_rider_23 rfl hl (by decide) rfl (fun ls hl => ?_)
  refine lv_iload_n hx hb dX11_rider_24 rfl (lv_at hl 0 rfl) ?_
  refine lv_iconst (v := -1) hx hb dX11_rider_25 (by decide) ?_
  refine lv_icmp_ne (tgt := 39) hx hb dX11_rider_26 (by decide) (fun hc => ?_) (fun hc => ?_)
  · have hf := sf_bn hf hc
    refine lv_aload_n hx hb dX11_rider_39 rfl (lv_at hl 1 rfl) ?_
    refine gt_f (C := RX11) (T := TX11) (N := 9) hx hb ha in_X11 hown hK hP 0 rfl rfl 0 (by decide) m_332 rfl dX11_rider_40 ?_
    refine gt_f (C := RX8) (T := TX8) (N := 9) hx hb ha in_X8 hown hK hP 1 rfl rfl 6 (by decide) m_219 rfl dX11_rider_43 ?_
    refine gt_f (C := RX1) (T := TX1) (N := 5) hx hb ha in_X1 hown hK hP 6 rfl rfl 1 (by decide) m_146 rfl dX11_rider_46 ?_
    refine lv_iload_n hx hb dX11_rider_49 rfl (lv_at hl 0 rfl) ?_
    obtain ⟨hi, hf⟩ := sf_ge hf
    refine ia_ld hx hb hK hP 7 rfl hi dX11_rider_50 ?_
    exact rt_Pi hx hb hr hlocks (Option.some.inj hf) hS dX11_rider_51
  · have hf := sf_bp hf hc
    cases hf

def f_TX11_rider (on : Int32) (sc : Int32) (bc : Int32) (bs : Nat → Int32) (bt : Nat → Int32) (be : Nat → Int32) (p0 : Int32) : Option Nat :=
  sf_t1 (f_TX11_checkSlide sc p0) (fun k_1 => some k_1) (sf_c0 (f_X11_checkSlide sc p0) (fun _ => sf_c1 (f_X1_onSlideAt bc bs bt be p0 on) (fun r_2 => sf_b (r_2 = (-1 : Int32)) (some 4) (sf_g (sf_in r_2 12 = true) (none)))))
theorem yd_TX11_rider : yX11_rider.cls = RX11 ∧ yX11_rider.cls ≠ "java/lang/invoke/MethodHandle" ∧ yX11_rider.cls ≠ "java/lang/invoke/VarHandle" ∧ (parseMethodDescriptor yX11_rider.desc).map (fun d => d.parameters.length) = some 1 := ⟨rfl, by decide, by decide, by decide +kernel⟩
set_option maxRecDepth 100000 in
set_option maxHeartbeats 4000000 in
theorem c_TX11_rider (l : Launch) (D : va_G) (dA : Nat → ClassId) (cA : Nat → Nat) (hst : l.stackTraces = false) (h0 h1 h2 h3 h4 h5 h6 h9 h10 h11 h12 h13 h14 h17 h21 h41 h43 h46 h49 : Nat) (sz : Nat) (on : Int32) (ot : Int32) (op : Int32) (os : Int32) (sc : Int32) (sd : Nat → Int32) (sp : Nat → Int32) (sw : Nat → Int32) (bc : Int32) (bg : Nat → Int32) (bs : Nat → Int32) (bt : Nat → Int32) (be : Nat → Int32) (xi : Int32) (xe : Int32) (xf : Int32) (p0 : Int32) (rx : Nat) (hf : f_TX11_rider on sc bc bs bt be p0 = some rx) : vx_Met l yX11_rider (wo (.code yX11_rider cX11_rider 3 (some .int))) ({ frames := 7, cells := 1, slots := 6, locals := 121 } : Room) (preX D dA cA [.ref h0, .int p0] sz [(h0, .inr (9, [.ref h1, .ref h21, .int xi, .ref h41, .ref h43, .ref h46, .ref h49, .int xe, .int xf])), (h1, .inr (6, [.int on, .int ot, .int op, .int os, .ref h2, .ref h6, .ref h9, .ref h14, .ref h17])), (h2, .inr (8, [.int sc, .ref h3, .ref h4, .ref h5])), (h3, .inl (dA 0, 4, .inl sd)), (h4, .inl (dA 0, 4, .inl sp)), (h5, .inl (dA 0, 4, .inl sw)), (h9, .inr (0, [.int bc, .ref h10, .ref h11, .ref h12, .ref h13])), (h10, .inl (dA 0, 12, .inl bg)), (h11, .inl (dA 0, 12, .inl bs)), (h12, .inl (dA 0, 12, .inl bt)), (h13, .inl (dA 0, 12, .inl be))]) noQ (xcQ D (exs rx) [(h0, .inr (9, [.ref h1, .ref h21, .int xi, .ref h41, .ref h43, .ref h46, .ref h49, .int xe, .int xf])), (h1, .inr (6, [.int on, .int ot, .int op, .int os, .ref h2, .ref h6, .ref h9, .ref h14, .ref h17])), (h2, .inr (8, [.int sc, .ref h3, .ref h4, .ref h5])), (h3, .inl (dA 0, 4, .inl sd)), (h4, .inl (dA 0, 4, .inl sp)), (h5, .inl (dA 0, 4, .inl sw)), (h9, .inr (0, [.int bc, .ref h10, .ref h11, .ref h12, .ref h13])), (h10, .inl (dA 0, 12, .inl bg)), (h11, .inl (dA 0, 12, .inl bs)), (h12, .inl (dA 0, 12, .inl bt)), (h13, .inl (dA 0, 12, .inl be))] (va_A [(h0, .inr (9, [.ref h1, .ref h21, .int xi, .ref h41, .ref h43, .ref h46, .ref h49, .int xe, .int xf])), (h1, .inr (6, [.int on, .int ot, .int op, .int os, .ref h2, .ref h6, .ref h9, .ref h14, .ref h17])), (h2, .inr (8, [.int sc, .ref h3, .ref h4, .ref h5])), (h3, .inl (dA 0, 4, .inl sd)), (h4, .inl (dA 0, 4, .inl sp)), (h5, .inl (dA 0, 4, .inl sw)), (h9, .inr (0, [.int bc, .ref h10, .ref h11, .ref h12, .ref h13])), (h10, .inl (dA 0, 12, .inl bg)), (h11, .inl (dA 0, 12, .inl bs)), (h12, .inl (dA 0, 12, .inl bt)), (h13, .inl (dA 0, 12, .inl be))] sz)) 1 6 (va_A [(h0, .inr (9, [.ref h1, .ref h21, .int xi, .ref h41, .ref h43, .ref h46, .ref h49, .int xe, .int xf])), (h1, .inr (6, [.int on, .int ot, .int op, .int os, .ref h2, .ref h6, .ref h9, .ref h14, .ref h17])), (h2, .inr (8, [.int sc, .ref h3, .ref h4, .ref h5])), (h3, .inl (dA 0, 4, .inl sd)), (h4, .inl (dA 0, 4, .inl sp)), (h5, .inl (dA 0, 4, .inl sw)), (h9, .inr (0, [.int bc, .ref h10, .ref h11, .ref h12, .ref h13])), (h10, .inl (dA 0, 12, .inl bg)), (h11, .inl (dA 0, 12, .inl bs)), (h12, .inl (dA 0, 12, .inl bt)), (h13, .inl (dA 0, 12, .inl be))] sz) := by
  refine of_Z (y := yX11_rider) (cc := cX11_rider) (maxL := 3) (ret := (some .int)) (av := [.ref h0, .int p0]) (ws := [(h0, .inr (9, [.ref h1, .ref h21, .int xi, .ref h41, .ref h43, .ref h46, .ref h49, .int xe, .int xf])), (h1, .inr (6, [.int on, .int ot, .int op, .int os, .ref h2, .ref h6, .ref h9, .ref h14, .ref h17])), (h2, .inr (8, [.int sc, .ref h3, .ref h4, .ref h5])), (h3, .inl (dA 0, 4, .inl sd)), (h4, .inl (dA 0, 4, .inl sp)), (h5, .inl (dA 0, 4, .inl sw)), (h9, .inr (0, [.int bc, .ref h10, .ref h11, .ref h12, .ref h13])), (h10, .inl (dA 0, 12, .inl bg)), (h11, .inl (dA 0, 12, .inl bs)), (h12, .inl (dA 0, 12, .inl bt)), (h13, .inl (dA 0, 12, .inl be))]) (sz := sz) (own := RX11) (XC := fun A => xcQ D (exs rx) [(h0, .inr (9, [.ref h1, .ref h21, .int xi, .ref h41, .ref h43, .ref h46, .ref h49, .int xe, .int xf])), (h1, .inr (6, [.int on, .int ot, .int op, .int os, .ref h2, .ref h6, .ref h9, .ref h14, .ref h17])), (h2, .inr (8, [.int sc, .ref h3, .ref h4, .ref h5])), (h3, .inl (dA 0, 4, .inl sd)), (h4, .inl (dA 0, 4, .inl sp)), (h5, .inl (dA 0, 4, .inl sw)), (h9, .inr (0, [.int bc, .ref h10, .ref h11, .ref h12, .ref h13])), (h10, .inl (dA 0, 12, .inl bg)), (h11, .inl (dA 0, 12, .inl bs)), (h12, .inl (dA 0, 12, .inl bt)), (h13, .inl (dA 0, 12, .inl be))] A) (by decide) rfl (Nat.le_of_ble_eq_true rfl) ?_
  intro p e s m below meth c A hx hb hr ha hown hml hlocks hin hno hP hK hD hX hS hA ls hl
  have hC := hX.1
  have hl : lv_has ls 3 [(0, .ref h0), (1, .int p0)] := hl
  rw [f_TX11_rider] at hf
  refine lv_aload_n hx hb dX11_rider_0 rfl (lv_at hl 0 rfl) ?_
  refine lv_iload_n hx hb dX11_rider_1 rfl (lv_at hl 1 rfl) ?_
  rcases sf_t1e hf with ⟨hnt, hf⟩ | ⟨k_1, hc1, hf⟩
  · skip
    obtain ⟨hc1, hf⟩ := sf_c0e hf
    refine k_Pv (run_YV (As := [.int p0]) (rest := []) ⟨hx, hb, hml, hown, ha⟩ (c_X11_checkSlide l D dA cA h0 h1 h2 h3 h4 h5 h6 h9 h14 h17 h21 h41 h43 h46 h49   on ot op os sc sd sp sw xi xe xf p0  hc1) (gi_V m_776 m_778 m_12 m_31 m_779) yd_X11_checkSlide ⟨Nat.le_of_ble_eq_true rfl, Nat.le_of_ble_eq_true rfl⟩ ⟨rfl, rfl⟩ hK hX hS hP [0, 1, 2, 3, 4, 5] rfl (va_recv hK hP (q0 := 0) rfl rfl) rfl hl.1 rfl (Nat.le_of_ble_eq_true rfl) dX11_rider_2 ⟨Nat.le_of_ble_eq_true rfl, Nat.le_of_ble_eq_true rfl⟩) hP hS (fun H locs hP hS => ?_)
    refine lv_aload_n hx hb dX11_rider_5 rfl (lv_at hl 0 rfl) ?_
    refine gt_f (C := RX11) (T := TX11) (N := 9) hx hb ha in_X11 hown hK hP 0 rfl rfl 0 (by decide) m_332 rfl dX11_rider_6 ?_
    refine gt_f (C := RX8) (T := TX8) (N := 9) hx hb ha in_X8 hown hK hP 1 rfl rfl 6 (by decide) m_219 rfl dX11_rider_9 ?_
    refine lv_iload_n hx hb dX11_rider_12 rfl (lv_at hl 1 rfl) ?_
    refine lv_aload_n hx hb dX11_rider_13 rfl (lv_at hl 0 rfl) ?_
    refine gt_f (C := RX11) (T := TX11) (N := 9) hx hb ha in_X11 hown hK hP 0 rfl rfl 0 (by decide) m_332 rfl dX11_rider_14 ?_
    refine gt_f (C := RX8) (T := TX8) (N := 9) hx hb ha in_X8 hown hK hP 1 rfl rfl 0 (by decide) m_207 rfl dX11_rider_17 ?_
    obtain ⟨r_2, hc2, hf⟩ := sf_c1e hf
    refine k_Pi (run_PV (As := [.int p0, .int on]) (rest := []) ⟨hx, hb, hml, hown, ha⟩ (c_X1_onSlideAt l D dA h9 h10 h11 h12 h13   bc bg bs bt be p0 on _ hc2) (gi_V m_918 m_706 m_707 m_35 m_708) yd_X1_onSlideAt ⟨Nat.le_of_ble_eq_true rfl, Nat.le_of_ble_eq_true rfl⟩ ⟨rfl, rfl⟩ hK hP [6, 7, 8, 9, 10] rfl 6 0 rfl rfl rfl rfl hl.1 rfl (Nat.le_of_ble_eq_true rfl) dX11_rider_20 ⟨Nat.le_of_ble_eq_true rfl, Nat.le_of_ble_eq_true rfl⟩) hP hS (fun H locs hP hS => ?_)
    refine lv_istore_n (lv' := [(2, .int r_2), (0, .ref h0), (1, .int p0)]) hx hb dX11_rider_23 rfl hl (by decide) rfl (fun ls hl => ?_)
    refine lv_iload_n hx hb dX11_rider_24 rfl (lv_at hl 0 rfl) ?_
    refine lv_iconst (v := -1) hx hb dX11_rider_25 (by decide) ?_
    refine lv_icmp_ne (tgt := 39) hx hb dX11_rider_26 (by decide) (fun hc => ?_) (fun hc => ?_)
    · have hf := sf_bn hf hc
      refine lv_aload_n hx hb dX11_rider_39 rfl (lv_at hl 1 rfl) ?_
      refine gt_f (C := RX11) (T := TX11) (N := 9) hx hb ha in_X11 hown hK hP 0 rfl rfl 0 (by decide) m_332 rfl dX11_rider_40 ?_
      refine gt_f (C := RX8) (T := TX8) (N := 9) hx hb ha in_X8 hown hK hP 1 rfl rfl 6 (by decide) m_219 rfl dX11_rider_43 ?_
      refine gt_f (C := RX1) (T := TX1) (N := 5) hx hb ha in_X1 hown hK hP 6 rfl rfl 1 (by decide) m_146 rfl dX11_rider_46 ?_
      refine lv_iload_n hx hb dX11_rider_49 rfl (lv_at hl 0 rfl) ?_
      obtain ⟨hi, hf⟩ := sf_ge hf
      refine ia_ld hx hb hK hP 7 rfl hi dX11_rider_50 ?_
      cases hf
    · have hf := sf_bp hf hc
      cases hf
      exact th_SX (E := exs 4) (text := "no booking of this slide takes place now") (sa := cA 40) nsx_4_0 nsx_4_1 nsx_4_2 nsx_4_5 hx hb hst hown ha hX hS (hP.sub [0, 1, 2, 3, 4, 5, 6, 7, 8, 9, 10] rfl) (hD.sub [0, 1, 2, 3, 4, 5, 6, 7, 8, 9, 10] (by decide) rfl) hlocks hno (hl.1.trans hml.symm) m_543 m_53 (hC.2.2.1 (RX11, 127, "no booking of this slide takes place now", 40) (List.mem_of_getElem? (i := 17) rfl)) exg_129 exb_129 exo_129 exf_129 dX11_rider_29 dX11_rider_32 dX11_rider_33 dX11_rider_35 dX11_rider_38 ⟨by decide, by decide, by decide, by decide⟩ ⟨by decide, by decide⟩
  · skip
    refine k_Z (wr := [(h9, .inr (0, [.int bc, .ref h10, .ref h11, .ref h12, .ref h13])), (h10, .inl (dA 0, 12, .inl bg)), (h11, .inl (dA 0, 12, .inl bs)), (h12, .inl (dA 0, 12, .inl bt)), (h13, .inl (dA 0, 12, .inl be))]) (run_ZV (As := [.int p0]) (rest := []) ⟨hx, hb, hml, hown, ha⟩ (c_TX11_checkSlide l D dA cA hst h0 h1 h2 h3 h4 h5 h6 h9 h14 h17 h21 h41 h43 h46 h49  _ on ot op os sc sd sp sw xi xe xf p0 _ hc1) (gi_V m_776 m_778 m_12 m_31 m_779) yd_TX11_checkSlide ⟨Nat.le_of_ble_eq_true rfl, Nat.le_of_ble_eq_true rfl⟩ ⟨rfl, rfl⟩ hK hX hS hA hP hD [0, 1, 2, 3, 4, 5] (by decide) rfl (va_recv hK hP (q0 := 0) rfl rfl) rfl hl.1 rfl (Nat.le_of_ble_eq_true rfl) dX11_rider_2 ⟨Nat.le_of_ble_eq_true rfl, Nat.le_of_ble_eq_true rfl⟩) hP hD hS hA [0, 1, 2, 3, 4, 5] [6, 7, 8, 9, 10] rfl rfl (by decide) (by decide) (fun q9 H locs hP hD hS ht9 => ?_)
    cases hf
    exact px_o hno hlocks ht9 (hP.sub [5, 6, 7, 8, 9, 10, 0, 1, 2, 3, 4] rfl) (hD.sub [5, 6, 7, 8, 9, 10, 0, 1, 2, 3, 4] (by decide) rfl) hS (by decide) (by decide)

def f_X11_guestCount (gc : Int32) : Option Int32 :=
  some gc
theorem yd_X11_guestCount : yX11_guestCount.cls = RX11 ∧ yX11_guestCount.cls ≠ "java/lang/invoke/MethodHandle" ∧ yX11_guestCount.cls ≠ "java/lang/invoke/VarHandle" ∧ (parseMethodDescriptor yX11_guestCount.desc).map (fun d => d.parameters.length) = some 0 := ⟨rfl, by decide, by decide, by decide +kernel⟩
set_option maxRecDepth 100000 in
set_option maxHeartbeats 4000000 in
theorem c_X11_guestCount (l : Launch) (D : va_G) (dA : Nat → ClassId) (cA : Nat → Nat) (h0 h1 h2 h6 h7 h8 h9 h14 h17 h21 h41 h43 h46 h49 : Nat) (on : Int32) (ot : Int32) (op : Int32) (os : Int32) (gc : Int32) (xi : Int32) (xe : Int32) (xf : Int32) (rr : Int32) (hf : f_X11_guestCount gc = some rr) : Met l yX11_guestCount (wo (.code yX11_guestCount cX11_guestCount 1 (some .int))) ({ frames := 0, cells := 0, slots := 0, locals := 0 } : Room) (preY D dA cA [.ref h0] [(h0, .inr (9, [.ref h1, .ref h21, .int xi, .ref h41, .ref h43, .ref h46, .ref h49, .int xe, .int xf])), (h1, .inr (6, [.int on, .int ot, .int op, .int os, .ref h2, .ref h6, .ref h9, .ref h14, .ref h17])), (h6, .inr (4, [.int gc, .ref h7, .ref h8]))]) (poPi rr) 0 0 noA := by
  refine of_Y (y := yX11_guestCount) (cc := cX11_guestCount) (maxL := 1) (ret := (some .int)) (av := [.ref h0]) (ws := [(h0, .inr (9, [.ref h1, .ref h21, .int xi, .ref h41, .ref h43, .ref h46, .ref h49, .int xe, .int xf])), (h1, .inr (6, [.int on, .int ot, .int op, .int os, .ref h2, .ref h6, .ref h9, .ref h14, .ref h17])), (h6, .inr (4, [.int gc, .ref h7, .ref h8]))]) (own := RX11) (by decide) rfl (Nat.le_of_ble_eq_true rfl) ?_
  intro p e s m below meth c hx hb hr ha hown hml hlocks hP hK hX hS ls hl
  have hC := hX.1
  have hl : lv_has ls 1 [(0, .ref h0)] := hl
  rw [f_X11_guestCount] at hf
  refine lv_aload_n hx hb dX11_guestCount_0 rfl (lv_at hl 0 rfl) ?_
  refine gt_f (C := RX11) (T := TX11) (N := 9) hx hb ha in_X11 hown hK hP 0 rfl rfl 0 (by decide) m_332 rfl dX11_guestCount_1 ?_
  refine gt_f (C := RX8) (T := TX8) (N := 9) hx hb ha in_X8 hown hK hP 1 rfl rfl 5 (by decide) m_217 rfl dX11_guestCount_4 ?_
  refine gt_f (C := RX6) (T := TX6) (N := 3) hx hb ha in_X6 hown hK hP 2 rfl rfl 0 (by decide) m_120 rfl dX11_guestCount_7 ?_
  exact rt_Pi hx hb hr hlocks (Option.some.inj hf) hS dX11_guestCount_10

def f_X11_checkGuest (gc : Int32) (p0 : Int32) : Option Unit :=
  sf_c1 (f_X6_has gc p0) (fun r_1 => sf_b (r_1 = (0 : Int32)) (none) (some ()))
theorem yd_X11_checkGuest : yX11_checkGuest.cls = RX11 ∧ yX11_checkGuest.cls ≠ "java/lang/invoke/MethodHandle" ∧ yX11_checkGuest.cls ≠ "java/lang/invoke/VarHandle" ∧ (parseMethodDescriptor yX11_checkGuest.desc).map (fun d => d.parameters.length) = some 1 := ⟨rfl, by decide, by decide, by decide +kernel⟩
set_option maxRecDepth 100000 in
set_option maxHeartbeats 4000000 in
theorem c_X11_checkGuest (l : Launch) (D : va_G) (dA : Nat → ClassId) (cA : Nat → Nat) (h0 h1 h2 h6 h7 h8 h9 h14 h17 h21 h41 h43 h46 h49 : Nat) (on : Int32) (ot : Int32) (op : Int32) (os : Int32) (gc : Int32) (gp : Nat → Int32) (gr : Nat → Int32) (xi : Int32) (xe : Int32) (xf : Int32) (p0 : Int32) (hf : f_X11_checkGuest gc p0 = some ()) : Met l yX11_checkGuest (wo (.code yX11_checkGuest cX11_checkGuest 2 none)) ({ frames := 1, cells := 0, slots := 0, locals := 21 } : Room) (preY D dA cA [.ref h0, .int p0] [(h0, .inr (9, [.ref h1, .ref h21, .int xi, .ref h41, .ref h43, .ref h46, .ref h49, .int xe, .int xf])), (h1, .inr (6, [.int on, .int ot, .int op, .int os, .ref h2, .ref h6, .ref h9, .ref h14, .ref h17])), (h6, .inr (4, [.int gc, .ref h7, .ref h8])), (h7, .inl (dA 0, 10, .inl gp)), (h8, .inl (dA 0, 10, .inl gr))]) (poPv) 0 0 noA := by
  refine of_Y (y := yX11_checkGuest) (cc := cX11_checkGuest) (maxL := 2) (ret := none) (av := [.ref h0, .int p0]) (ws := [(h0, .inr (9, [.ref h1, .ref h21, .int xi, .ref h41, .ref h43, .ref h46, .ref h49, .int xe, .int xf])), (h1, .inr (6, [.int on, .int ot, .int op, .int os, .ref h2, .ref h6, .ref h9, .ref h14, .ref h17])), (h6, .inr (4, [.int gc, .ref h7, .ref h8])), (h7, .inl (dA 0, 10, .inl gp)), (h8, .inl (dA 0, 10, .inl gr))]) (own := RX11) (by decide) rfl (Nat.le_of_ble_eq_true rfl) ?_
  intro p e s m below meth c hx hb hr ha hown hml hlocks hP hK hX hS ls hl
  have hC := hX.1
  have hl : lv_has ls 2 [(0, .ref h0), (1, .int p0)] := hl
  rw [f_X11_checkGuest] at hf
  refine lv_aload_n hx hb dX11_checkGuest_0 rfl (lv_at hl 0 rfl) ?_
  refine gt_f (C := RX11) (T := TX11) (N := 9) hx hb ha in_X11 hown hK hP 0 rfl rfl 0 (by decide) m_332 rfl dX11_checkGuest_1 ?_
  refine gt_f (C := RX8) (T := TX8) (N := 9) hx hb ha in_X8 hown hK hP 1 rfl rfl 5 (by decide) m_217 rfl dX11_checkGuest_4 ?_
  refine lv_iload_n hx hb dX11_checkGuest_7 rfl (lv_at hl 1 rfl) ?_
  obtain ⟨r_1, hc1, hf⟩ := sf_c1e hf
  refine k_Pi (run_PV (As := [.int p0]) (rest := []) ⟨hx, hb, hml, hown, ha⟩ (c_X6_has l D dA h6 h7 h8   gc gp gr p0 _ hc1) (gi_V m_1360 m_619 m_620 m_34 m_621) yd_X6_has ⟨Nat.le_of_ble_eq_true rfl, Nat.le_of_ble_eq_true rfl⟩ ⟨rfl, rfl⟩ hK hP [2, 3, 4] rfl 2 4 rfl rfl rfl rfl hl.1 rfl (Nat.le_of_ble_eq_true rfl) dX11_checkGuest_8 ⟨Nat.le_of_ble_eq_true rfl, Nat.le_of_ble_eq_true rfl⟩) hP hS (fun H locs hP hS => ?_)
  refine lv_if_ne (tgt := 25) hx hb dX11_checkGuest_11 (by decide) (fun hc => ?_) (fun hc => ?_)
  · have hf := sf_bn hf hc
    exact rt_Pv hx hb hr hlocks hS dX11_checkGuest_25
  · have hf := sf_bp hf hc
    cases hf

def f_TX11_checkGuest (gc : Int32) (p0 : Int32) : Option Nat :=
  sf_c1 (f_X6_has gc p0) (fun r_1 => sf_b (r_1 = (0 : Int32)) (some 0) (none))
theorem yd_TX11_checkGuest : yX11_checkGuest.cls = RX11 ∧ yX11_checkGuest.cls ≠ "java/lang/invoke/MethodHandle" ∧ yX11_checkGuest.cls ≠ "java/lang/invoke/VarHandle" ∧ (parseMethodDescriptor yX11_checkGuest.desc).map (fun d => d.parameters.length) = some 1 := ⟨rfl, by decide, by decide, by decide +kernel⟩
set_option maxRecDepth 100000 in
set_option maxHeartbeats 4000000 in
theorem c_TX11_checkGuest (l : Launch) (D : va_G) (dA : Nat → ClassId) (cA : Nat → Nat) (hst : l.stackTraces = false) (h0 h1 h2 h6 h7 h8 h9 h14 h17 h21 h41 h43 h46 h49 : Nat) (sz : Nat) (on : Int32) (ot : Int32) (op : Int32) (os : Int32) (gc : Int32) (gp : Nat → Int32) (gr : Nat → Int32) (xi : Int32) (xe : Int32) (xf : Int32) (p0 : Int32) (rx : Nat) (hf : f_TX11_checkGuest gc p0 = some rx) : vx_Met l yX11_checkGuest (wo (.code yX11_checkGuest cX11_checkGuest 2 none)) ({ frames := 6, cells := 1, slots := 6, locals := 100 } : Room) (preX D dA cA [.ref h0, .int p0] sz [(h0, .inr (9, [.ref h1, .ref h21, .int xi, .ref h41, .ref h43, .ref h46, .ref h49, .int xe, .int xf])), (h1, .inr (6, [.int on, .int ot, .int op, .int os, .ref h2, .ref h6, .ref h9, .ref h14, .ref h17])), (h6, .inr (4, [.int gc, .ref h7, .ref h8])), (h7, .inl (dA 0, 10, .inl gp)), (h8, .inl (dA 0, 10, .inl gr))]) noQ (xcQ D (exs rx) [(h0, .inr (9, [.ref h1, .ref h21, .int xi, .ref h41, .ref h43, .ref h46, .ref h49, .int xe, .int xf])), (h1, .inr (6, [.int on, .int ot, .int op, .int os, .ref h2, .ref h6, .ref h9, .ref h14, .ref h17])), (h6, .inr (4, [.int gc, .ref h7, .ref h8])), (h7, .inl (dA 0, 10, .inl gp)), (h8, .inl (dA 0, 10, .inl gr))] (va_A [(h0, .inr (9, [.ref h1, .ref h21, .int xi, .ref h41, .ref h43, .ref h46, .ref h49, .int xe, .int xf])), (h1, .inr (6, [.int on, .int ot, .int op, .int os, .ref h2, .ref h6, .ref h9, .ref h14, .ref h17])), (h6, .inr (4, [.int gc, .ref h7, .ref h8])), (h7, .inl (dA 0, 10, .inl gp)), (h8, .inl (dA 0, 10, .inl gr))] sz)) 1 6 (va_A [(h0, .inr (9, [.ref h1, .ref h21, .int xi, .ref h41, .ref h43, .ref h46, .ref h49, .int xe, .int xf])), (h1, .inr (6, [.int on, .int ot, .int op, .int os, .ref h2, .ref h6, .ref h9, .ref h14, .ref h17])), (h6, .inr (4, [.int gc, .ref h7, .ref h8])), (h7, .inl (dA 0, 10, .inl gp)), (h8, .inl (dA 0, 10, .inl gr))] sz) := by
  refine of_Z (y := yX11_checkGuest) (cc := cX11_checkGuest) (maxL := 2) (ret := none) (av := [.ref h0, .int p0]) (ws := [(h0, .inr (9, [.ref h1, .ref h21, .int xi, .ref h41, .ref h43, .ref h46, .ref h49, .int xe, .int xf])), (h1, .inr (6, [.int on, .int ot, .int op, .int os, .ref h2, .ref h6, .ref h9, .ref h14, .ref h17])), (h6, .inr (4, [.int gc, .ref h7, .ref h8])), (h7, .inl (dA 0, 10, .inl gp)), (h8, .inl (dA 0, 10, .inl gr))]) (sz := sz) (own := RX11) (XC := fun A => xcQ D (exs rx) [(h0, .inr (9, [.ref h1, .ref h21, .int xi, .ref h41, .ref h43, .ref h46, .ref h49, .int xe, .int xf])), (h1, .inr (6, [.int on, .int ot, .int op, .int os, .ref h2, .ref h6, .ref h9, .ref h14, .ref h17])), (h6, .inr (4, [.int gc, .ref h7, .ref h8])), (h7, .inl (dA 0, 10, .inl gp)), (h8, .inl (dA 0, 10, .inl gr))] A) (by decide) rfl (Nat.le_of_ble_eq_true rfl) ?_
  intro p e s m below meth c A hx hb hr ha hown hml hlocks hin hno hP hK hD hX hS hA ls hl
  have hC := hX.1
  have hl : lv_has ls 2 [(0, .ref h0), (1, .int p0)] := hl
  rw [f_TX11_checkGuest] at hf
  refine lv_aload_n hx hb dX11_checkGuest_0 rfl (lv_at hl 0 rfl) ?_
  refine gt_f (C := RX11) (T := TX11) (N := 9) hx hb ha in_X11 hown hK hP 0 rfl rfl 0 (by decide) m_332 rfl dX11_checkGuest_1 ?_
  refine gt_f (C := RX8) (T := TX8) (N := 9) hx hb ha in_X8 hown hK hP 1 rfl rfl 5 (by decide) m_217 rfl dX11_checkGuest_4 ?_
  refine lv_iload_n hx hb dX11_checkGuest_7 rfl (lv_at hl 1 rfl) ?_
  obtain ⟨r_1, hc1, hf⟩ := sf_c1e hf
  refine k_Pi (run_PV (As := [.int p0]) (rest := []) ⟨hx, hb, hml, hown, ha⟩ (c_X6_has l D dA h6 h7 h8   gc gp gr p0 _ hc1) (gi_V m_1360 m_619 m_620 m_34 m_621) yd_X6_has ⟨Nat.le_of_ble_eq_true rfl, Nat.le_of_ble_eq_true rfl⟩ ⟨rfl, rfl⟩ hK hP [2, 3, 4] rfl 2 4 rfl rfl rfl rfl hl.1 rfl (Nat.le_of_ble_eq_true rfl) dX11_checkGuest_8 ⟨Nat.le_of_ble_eq_true rfl, Nat.le_of_ble_eq_true rfl⟩) hP hS (fun H locs hP hS => ?_)
  refine lv_if_ne (tgt := 25) hx hb dX11_checkGuest_11 (by decide) (fun hc => ?_) (fun hc => ?_)
  · have hf := sf_bn hf hc
    cases hf
  · have hf := sf_bp hf hc
    cases hf
    exact th_SW (E := exs 0) (text := "there is no such guest") (sa := cA 45) hx hb hst hown ha hX hS (hP.sub [0, 1, 2, 3, 4] rfl) (hD.sub [0, 1, 2, 3, 4] (by decide) rfl) hlocks hno (hl.1.trans hml.symm) m_423 m_49 (hC.2.2.1 (RX11, 389, "there is no such guest", 45) (List.mem_of_getElem? (i := 22) rfl)) exg_352 exb_352 exo_352 exf_352 dX11_checkGuest_14 dX11_checkGuest_17 dX11_checkGuest_18 dX11_checkGuest_21 dX11_checkGuest_24 ⟨by decide, by decide, by decide, by decide⟩ ⟨by decide, by decide⟩

def f_X11_coins (gc : Int32) (gp : Nat → Int32) (p0 : Int32) : Option Int32 :=
  sf_c0 (f_X11_checkGuest gc p0) (fun _ => sf_g (sf_in p0 10 = true) (some (gp p0.toNatClampNeg)))
theorem yd_X11_coins : yX11_coins.cls = RX11 ∧ yX11_coins.cls ≠ "java/lang/invoke/MethodHandle" ∧ yX11_coins.cls ≠ "java/lang/invoke/VarHandle" ∧ (parseMethodDescriptor yX11_coins.desc).map (fun d => d.parameters.length) = some 1 := ⟨rfl, by decide, by decide, by decide +kernel⟩
set_option maxRecDepth 100000 in
set_option maxHeartbeats 4000000 in
theorem c_X11_coins (l : Launch) (D : va_G) (dA : Nat → ClassId) (cA : Nat → Nat) (h0 h1 h2 h6 h7 h8 h9 h14 h17 h21 h41 h43 h46 h49 : Nat) (on : Int32) (ot : Int32) (op : Int32) (os : Int32) (gc : Int32) (gp : Nat → Int32) (gr : Nat → Int32) (xi : Int32) (xe : Int32) (xf : Int32) (p0 : Int32) (rr : Int32) (hf : f_X11_coins gc gp p0 = some rr) : Met l yX11_coins (wo (.code yX11_coins cX11_coins 2 (some .int))) ({ frames := 2, cells := 0, slots := 0, locals := 42 } : Room) (preY D dA cA [.ref h0, .int p0] [(h0, .inr (9, [.ref h1, .ref h21, .int xi, .ref h41, .ref h43, .ref h46, .ref h49, .int xe, .int xf])), (h1, .inr (6, [.int on, .int ot, .int op, .int os, .ref h2, .ref h6, .ref h9, .ref h14, .ref h17])), (h6, .inr (4, [.int gc, .ref h7, .ref h8])), (h7, .inl (dA 0, 10, .inl gp)), (h8, .inl (dA 0, 10, .inl gr))]) (poPi rr) 0 0 noA := by
  refine of_Y (y := yX11_coins) (cc := cX11_coins) (maxL := 2) (ret := (some .int)) (av := [.ref h0, .int p0]) (ws := [(h0, .inr (9, [.ref h1, .ref h21, .int xi, .ref h41, .ref h43, .ref h46, .ref h49, .int xe, .int xf])), (h1, .inr (6, [.int on, .int ot, .int op, .int os, .ref h2, .ref h6, .ref h9, .ref h14, .ref h17])), (h6, .inr (4, [.int gc, .ref h7, .ref h8])), (h7, .inl (dA 0, 10, .inl gp)), (h8, .inl (dA 0, 10, .inl gr))]) (own := RX11) (by decide) rfl (Nat.le_of_ble_eq_true rfl) ?_
  intro p e s m below meth c hx hb hr ha hown hml hlocks hP hK hX hS ls hl
  have hC := hX.1
  have hl : lv_has ls 2 [(0, .ref h0), (1, .int p0)] := hl
  rw [f_X11_coins] at hf
  refine lv_aload_n hx hb dX11_coins_0 rfl (lv_at hl 0 rfl) ?_
  refine lv_iload_n hx hb dX11_coins_1 rfl (lv_at hl 1 rfl) ?_
  obtain ⟨hc0, hf⟩ := sf_c0e hf
  refine k_Pv (run_YV (As := [.int p0]) (rest := []) ⟨hx, hb, hml, hown, ha⟩ (c_X11_checkGuest l D dA cA h0 h1 h2 h6 h7 h8 h9 h14 h17 h21 h41 h43 h46 h49   on ot op os gc gp gr xi xe xf p0  hc0) (gi_V m_1356 m_1358 m_19 m_31 m_1359) yd_X11_checkGuest ⟨Nat.le_of_ble_eq_true rfl, Nat.le_of_ble_eq_true rfl⟩ ⟨rfl, rfl⟩ hK hX hS hP [0, 1, 2, 3, 4] rfl (va_recv hK hP (q0 := 0) rfl rfl) rfl hl.1 rfl (Nat.le_of_ble_eq_true rfl) dX11_coins_2 ⟨Nat.le_of_ble_eq_true rfl, Nat.le_of_ble_eq_true rfl⟩) hP hS (fun H locs hP hS => ?_)
  refine lv_aload_n hx hb dX11_coins_5 rfl (lv_at hl 0 rfl) ?_
  refine gt_f (C := RX11) (T := TX11) (N := 9) hx hb ha in_X11 hown hK hP 0 rfl rfl 0 (by decide) m_332 rfl dX11_coins_6 ?_
  refine gt_f (C := RX8) (T := TX8) (N := 9) hx hb ha in_X8 hown hK hP 1 rfl rfl 5 (by decide) m_217 rfl dX11_coins_9 ?_
  refine gt_f (C := RX6) (T := TX6) (N := 3) hx hb ha in_X6 hown hK hP 2 rfl rfl 1 (by decide) m_123 rfl dX11_coins_12 ?_
  refine lv_iload_n hx hb dX11_coins_15 rfl (lv_at hl 1 rfl) ?_
  obtain ⟨hi, hf⟩ := sf_ge hf
  refine ia_ld hx hb hK hP 3 rfl hi dX11_coins_16 ?_
  exact rt_Pi hx hb hr hlocks (Option.some.inj hf) hS dX11_coins_17

def f_TX11_coins (gc : Int32) (p0 : Int32) : Option Nat :=
  sf_t1 (f_TX11_checkGuest gc p0) (fun k_1 => some k_1) (sf_c0 (f_X11_checkGuest gc p0) (fun _ => sf_g (sf_in p0 10 = true) (none)))
theorem yd_TX11_coins : yX11_coins.cls = RX11 ∧ yX11_coins.cls ≠ "java/lang/invoke/MethodHandle" ∧ yX11_coins.cls ≠ "java/lang/invoke/VarHandle" ∧ (parseMethodDescriptor yX11_coins.desc).map (fun d => d.parameters.length) = some 1 := ⟨rfl, by decide, by decide, by decide +kernel⟩
set_option maxRecDepth 100000 in
set_option maxHeartbeats 4000000 in
theorem c_TX11_coins (l : Launch) (D : va_G) (dA : Nat → ClassId) (cA : Nat → Nat) (hst : l.stackTraces = false) (h0 h1 h2 h6 h7 h8 h9 h14 h17 h21 h41 h43 h46 h49 : Nat) (sz : Nat) (on : Int32) (ot : Int32) (op : Int32) (os : Int32) (gc : Int32) (gp : Nat → Int32) (gr : Nat → Int32) (xi : Int32) (xe : Int32) (xf : Int32) (p0 : Int32) (rx : Nat) (hf : f_TX11_coins gc p0 = some rx) : vx_Met l yX11_coins (wo (.code yX11_coins cX11_coins 2 (some .int))) ({ frames := 7, cells := 1, slots := 6, locals := 121 } : Room) (preX D dA cA [.ref h0, .int p0] sz [(h0, .inr (9, [.ref h1, .ref h21, .int xi, .ref h41, .ref h43, .ref h46, .ref h49, .int xe, .int xf])), (h1, .inr (6, [.int on, .int ot, .int op, .int os, .ref h2, .ref h6, .ref h9, .ref h14, .ref h17])), (h6, .inr (4, [.int gc, .ref h7, .ref h8])), (h7, .inl (dA 0, 10, .inl gp)), (h8, .inl (dA 0, 10, .inl gr))]) noQ (xcQ D (exs rx) [(h0, .inr (9, [.ref h1, .ref h21, .int xi, .ref h41, .ref h43, .ref h46, .ref h49, .int xe, .int xf])), (h1, .inr (6, [.int on, .int ot, .int op, .int os, .ref h2, .ref h6, .ref h9, .ref h14, .ref h17])), (h6, .inr (4, [.int gc, .ref h7, .ref h8])), (h7, .inl (dA 0, 10, .inl gp)), (h8, .inl (dA 0, 10, .inl gr))] (va_A [(h0, .inr (9, [.ref h1, .ref h21, .int xi, .ref h41, .ref h43, .ref h46, .ref h49, .int xe, .int xf])), (h1, .inr (6, [.int on, .int ot, .int op, .int os, .ref h2, .ref h6, .ref h9, .ref h14, .ref h17])), (h6, .inr (4, [.int gc, .ref h7, .ref h8])), (h7, .inl (dA 0, 10, .inl gp)), (h8, .inl (dA 0, 10, .inl gr))] sz)) 1 6 (va_A [(h0, .inr (9, [.ref h1, .ref h21, .int xi, .ref h41, .ref h43, .ref h46, .ref h49, .int xe, .int xf])), (h1, .inr (6, [.int on, .int ot, .int op, .int os, .ref h2, .ref h6, .ref h9, .ref h14, .ref h17])), (h6, .inr (4, [.int gc, .ref h7, .ref h8])), (h7, .inl (dA 0, 10, .inl gp)), (h8, .inl (dA 0, 10, .inl gr))] sz) := by
  refine of_Z (y := yX11_coins) (cc := cX11_coins) (maxL := 2) (ret := (some .int)) (av := [.ref h0, .int p0]) (ws := [(h0, .inr (9, [.ref h1, .ref h21, .int xi, .ref h41, .ref h43, .ref h46, .ref h49, .int xe, .int xf])), (h1, .inr (6, [.int on, .int ot, .int op, .int os, .ref h2, .ref h6, .ref h9, .ref h14, .ref h17])), (h6, .inr (4, [.int gc, .ref h7, .ref h8])), (h7, .inl (dA 0, 10, .inl gp)), (h8, .inl (dA 0, 10, .inl gr))]) (sz := sz) (own := RX11) (XC := fun A => xcQ D (exs rx) [(h0, .inr (9, [.ref h1, .ref h21, .int xi, .ref h41, .ref h43, .ref h46, .ref h49, .int xe, .int xf])), (h1, .inr (6, [.int on, .int ot, .int op, .int os, .ref h2, .ref h6, .ref h9, .ref h14, .ref h17])), (h6, .inr (4, [.int gc, .ref h7, .ref h8])), (h7, .inl (dA 0, 10, .inl gp)), (h8, .inl (dA 0, 10, .inl gr))] A) (by decide) rfl (Nat.le_of_ble_eq_true rfl) ?_
  intro p e s m below meth c A hx hb hr ha hown hml hlocks hin hno hP hK hD hX hS hA ls hl
  have hC := hX.1
  have hl : lv_has ls 2 [(0, .ref h0), (1, .int p0)] := hl
  rw [f_TX11_coins] at hf
  refine lv_aload_n hx hb dX11_coins_0 rfl (lv_at hl 0 rfl) ?_
  refine lv_iload_n hx hb dX11_coins_1 rfl (lv_at hl 1 rfl) ?_
  rcases sf_t1e hf with ⟨hnt, hf⟩ | ⟨k_1, hc1, hf⟩
  · skip
    obtain ⟨hc1, hf⟩ := sf_c0e hf
    refine k_Pv (run_YV (As := [.int p0]) (rest := []) ⟨hx, hb, hml, hown, ha⟩ (c_X11_checkGuest l D dA cA h0 h1 h2 h6 h7 h8 h9 h14 h17 h21 h41 h43 h46 h49   on ot op os gc gp gr xi xe xf p0  hc1) (gi_V m_1356 m_1358 m_19 m_31 m_1359) yd_X11_checkGuest ⟨Nat.le_of_ble_eq_true rfl, Nat.le_of_ble_eq_true rfl⟩ ⟨rfl, rfl⟩ hK hX hS hP [0, 1, 2, 3, 4] rfl (va_recv hK hP (q0 := 0) rfl rfl) rfl hl.1 rfl (Nat.le_of_ble_eq_true rfl) dX11_coins_2 ⟨Nat.le_of_ble_eq_true rfl, Nat.le_of_ble_eq_true rfl⟩) hP hS (fun H locs hP hS => ?_)
    refine lv_aload_n hx hb dX11_coins_5 rfl (lv_at hl 0 rfl) ?_
    refine gt_f (C := RX11) (T := TX11) (N := 9) hx hb ha in_X11 hown hK hP 0 rfl rfl 0 (by decide) m_332 rfl dX11_coins_6 ?_
    refine gt_f (C := RX8) (T := TX8) (N := 9) hx hb ha in_X8 hown hK hP 1 rfl rfl 5 (by decide) m_217 rfl dX11_coins_9 ?_
    refine gt_f (C := RX6) (T := TX6) (N := 3) hx hb ha in_X6 hown hK hP 2 rfl rfl 1 (by decide) m_123 rfl dX11_coins_12 ?_
    refine lv_iload_n hx hb dX11_coins_15 rfl (lv_at hl 1 rfl) ?_
    obtain ⟨hi, hf⟩ := sf_ge hf
    refine ia_ld hx hb hK hP 3 rfl hi dX11_coins_16 ?_
    cases hf
  · skip
    refine k_Z (wr := []) (run_ZV (As := [.int p0]) (rest := []) ⟨hx, hb, hml, hown, ha⟩ (c_TX11_checkGuest l D dA cA hst h0 h1 h2 h6 h7 h8 h9 h14 h17 h21 h41 h43 h46 h49  _ on ot op os gc gp gr xi xe xf p0 _ hc1) (gi_V m_1356 m_1358 m_19 m_31 m_1359) yd_TX11_checkGuest ⟨Nat.le_of_ble_eq_true rfl, Nat.le_of_ble_eq_true rfl⟩ ⟨rfl, rfl⟩ hK hX hS hA hP hD [0, 1, 2, 3, 4] (by decide) rfl (va_recv hK hP (q0 := 0) rfl rfl) rfl hl.1 rfl (Nat.le_of_ble_eq_true rfl) dX11_coins_2 ⟨Nat.le_of_ble_eq_true rfl, Nat.le_of_ble_eq_true rfl⟩) hP hD hS hA [0, 1, 2, 3, 4] [] rfl rfl (by decide) (by decide) (fun q9 H locs hP hD hS ht9 => ?_)
    cases hf
    exact px_o hno hlocks ht9 (hP.sub [0, 1, 2, 3, 4] rfl) (hD.sub [0, 1, 2, 3, 4] (by decide) rfl) hS (by decide) (by decide)

def f_X11_queueOf (gc : Int32) (ql : Nat → Int32) (qg : Nat → Int32) (p0 : Int32) : Option Int32 :=
  sf_c0 (f_X11_checkGuest gc p0) (fun _ => sf_c1 (f_X9_slideOf ql qg p0) (fun r_1 => sf_b (r_1 = (-1 : Int32)) (none) (some r_1)))
theorem yd_X11_queueOf : yX11_queueOf.cls = RX11 ∧ yX11_queueOf.cls ≠ "java/lang/invoke/MethodHandle" ∧ yX11_queueOf.cls ≠ "java/lang/invoke/VarHandle" ∧ (parseMethodDescriptor yX11_queueOf.desc).map (fun d => d.parameters.length) = some 1 := ⟨rfl, by decide, by decide, by decide +kernel⟩
set_option maxRecDepth 100000 in
set_option maxHeartbeats 4000000 in
theorem c_X11_queueOf (l : Launch) (D : va_G) (dA : Nat → ClassId) (cA : Nat → Nat) (h0 h1 h2 h6 h7 h8 h9 h14 h15 h16 h17 h21 h41 h43 h46 h49 : Nat) (on : Int32) (ot : Int32) (op : Int32) (os : Int32) (gc : Int32) (gp : Nat → Int32) (gr : Nat → Int32) (ql : Nat → Int32) (qg : Nat → Int32) (xi : Int32) (xe : Int32) (xf : Int32) (p0 : Int32) (rr : Int32) (hf : f_X11_queueOf gc ql qg p0 = some rr) : Met l yX11_queueOf (wo (.code yX11_queueOf cX11_queueOf 3 (some .int))) ({ frames := 2, cells := 0, slots := 0, locals := 45 } : Room) (preY D dA cA [.ref h0, .int p0] [(h0, .inr (9, [.ref h1, .ref h21, .int xi, .ref h41, .ref h43, .ref h46, .ref h49, .int xe, .int xf])), (h1, .inr (6, [.int on, .int ot, .int op, .int os, .ref h2, .ref h6, .ref h9, .ref h14, .ref h17])), (h6, .inr (4, [.int gc, .ref h7, .ref h8])), (h7, .inl (dA 0, 10, .inl gp)), (h8, .inl (dA 0, 10, .inl gr)), (h14, .inr (7, [.ref h15, .ref h16])), (h15, .inl (dA 0, 4, .inl ql)), (h16, .inl (dA 0, 20, .inl qg))]) (poPi rr) 0 0 noA := by
  refine of_Y (y := yX11_queueOf) (cc := cX11_queueOf) (maxL := 3) (ret := (some .int)) (av := [.ref h0, .int p0]) (ws := [(h0, .inr (9, [.ref h1, .ref h21, .int xi, .ref h41, .ref h43, .ref h46, .ref h49, .int xe, .int xf])), (h1, .inr (6, [.int on, .int ot, .int op, .int os, .ref h2, .ref h6, .ref h9, .ref h14, .ref h17])), (h6, .inr (4, [.int gc, .ref h7, .ref h8])), (h7, .inl (dA 0, 10, .inl gp)), (h8, .inl (dA 0, 10, .inl gr)), (h14, .inr (7, [.ref h15, .ref h16])), (h15, .inl (dA 0, 4, .inl ql)), (h16, .inl (dA 0, 20, .inl qg))]) (own := RX11) (by decide) rfl (Nat.le_of_ble_eq_true rfl) ?_
  intro p e s m below meth c hx hb hr ha hown hml hlocks hP hK hX hS ls hl
  have hC := hX.1
  have hl : lv_has ls 3 [(0, .ref h0), (1, .int p0)] := hl
  rw [f_X11_queueOf] at hf
  refine lv_aload_n hx hb dX11_queueOf_0 rfl (lv_at hl 0 rfl) ?_
  refine lv_iload_n hx hb dX11_queueOf_1 rfl (lv_at hl 1 rfl) ?_
  obtain ⟨hc0, hf⟩ := sf_c0e hf
  refine k_Pv (run_YV (As := [.int p0]) (rest := []) ⟨hx, hb, hml, hown, ha⟩ (c_X11_checkGuest l D dA cA h0 h1 h2 h6 h7 h8 h9 h14 h17 h21 h41 h43 h46 h49   on ot op os gc gp gr xi xe xf p0  hc0) (gi_V m_1356 m_1358 m_19 m_31 m_1359) yd_X11_checkGuest ⟨Nat.le_of_ble_eq_true rfl, Nat.le_of_ble_eq_true rfl⟩ ⟨rfl, rfl⟩ hK hX hS hP [0, 1, 2, 3, 4] rfl (va_recv hK hP (q0 := 0) rfl rfl) rfl hl.1 rfl (Nat.le_of_ble_eq_true rfl) dX11_queueOf_2 ⟨Nat.le_of_ble_eq_true rfl, Nat.le_of_ble_eq_true rfl⟩) hP hS (fun H locs hP hS => ?_)
  refine lv_aload_n hx hb dX11_queueOf_5 rfl (lv_at hl 0 rfl) ?_
  refine gt_f (C := RX11) (T := TX11) (N := 9) hx hb ha in_X11 hown hK hP 0 rfl rfl 0 (by decide) m_332 rfl dX11_queueOf_6 ?_
  refine gt_f (C := RX8) (T := TX8) (N := 9) hx hb ha in_X8 hown hK hP 1 rfl rfl 7 (by decide) m_221 rfl dX11_queueOf_9 ?_
  refine lv_iload_n hx hb dX11_queueOf_12 rfl (lv_at hl 1 rfl) ?_
  obtain ⟨r_1, hc1, hf⟩ := sf_c1e hf
  refine k_Pi (run_PV (As := [.int p0]) (rest := []) ⟨hx, hb, hml, hown, ha⟩ (c_X9_slideOf l D dA h14 h15 h16   ql qg p0 _ hc1) (gi_V m_1362 m_666 m_667 m_36 m_668) yd_X9_slideOf ⟨Nat.le_of_ble_eq_true rfl, Nat.le_of_ble_eq_true rfl⟩ ⟨rfl, rfl⟩ hK hP [5, 6, 7] rfl 5 7 rfl rfl rfl rfl hl.1 rfl (Nat.le_of_ble_eq_true rfl) dX11_queueOf_13 ⟨Nat.le_of_ble_eq_true rfl, Nat.le_of_ble_eq_true rfl⟩) hP hS (fun H locs hP hS => ?_)
  refine lv_istore_n (lv' := [(2, .int r_1), (0, .ref h0), (1, .int p0)]) hx hb dX11_queueOf_16 rfl hl (by decide) rfl (fun ls hl => ?_)
  refine lv_iload_n hx hb dX11_queueOf_17 rfl (lv_at hl 0 rfl) ?_
  refine lv_iconst (v := -1) hx hb dX11_queueOf_18 (by decide) ?_
  refine lv_icmp_ne (tgt := 32) hx hb dX11_queueOf_19 (by decide) (fun hc => ?_) (fun hc => ?_)
  · have hf := sf_bn hf hc
    refine lv_iload_n hx hb dX11_queueOf_32 rfl (lv_at hl 0 rfl) ?_
    exact rt_Pi hx hb hr hlocks (Option.some.inj hf) hS dX11_queueOf_33
  · have hf := sf_bp hf hc
    cases hf

def f_TX11_queueOf (gc : Int32) (ql : Nat → Int32) (qg : Nat → Int32) (p0 : Int32) : Option Nat :=
  sf_t1 (f_TX11_checkGuest gc p0) (fun k_1 => some k_1) (sf_c0 (f_X11_checkGuest gc p0) (fun _ => sf_c1 (f_X9_slideOf ql qg p0) (fun r_2 => sf_b (r_2 = (-1 : Int32)) (some 4) (none))))
theorem yd_TX11_queueOf : yX11_queueOf.cls = RX11 ∧ yX11_queueOf.cls ≠ "java/lang/invoke/MethodHandle" ∧ yX11_queueOf.cls ≠ "java/lang/invoke/VarHandle" ∧ (parseMethodDescriptor yX11_queueOf.desc).map (fun d => d.parameters.length) = some 1 := ⟨rfl, by decide, by decide, by decide +kernel⟩
set_option maxRecDepth 100000 in
set_option maxHeartbeats 4000000 in
theorem c_TX11_queueOf (l : Launch) (D : va_G) (dA : Nat → ClassId) (cA : Nat → Nat) (hst : l.stackTraces = false) (h0 h1 h2 h6 h7 h8 h9 h14 h15 h16 h17 h21 h41 h43 h46 h49 : Nat) (sz : Nat) (on : Int32) (ot : Int32) (op : Int32) (os : Int32) (gc : Int32) (gp : Nat → Int32) (gr : Nat → Int32) (ql : Nat → Int32) (qg : Nat → Int32) (xi : Int32) (xe : Int32) (xf : Int32) (p0 : Int32) (rx : Nat) (hf : f_TX11_queueOf gc ql qg p0 = some rx) : vx_Met l yX11_queueOf (wo (.code yX11_queueOf cX11_queueOf 3 (some .int))) ({ frames := 7, cells := 1, slots := 6, locals := 121 } : Room) (preX D dA cA [.ref h0, .int p0] sz [(h0, .inr (9, [.ref h1, .ref h21, .int xi, .ref h41, .ref h43, .ref h46, .ref h49, .int xe, .int xf])), (h1, .inr (6, [.int on, .int ot, .int op, .int os, .ref h2, .ref h6, .ref h9, .ref h14, .ref h17])), (h6, .inr (4, [.int gc, .ref h7, .ref h8])), (h7, .inl (dA 0, 10, .inl gp)), (h8, .inl (dA 0, 10, .inl gr)), (h14, .inr (7, [.ref h15, .ref h16])), (h15, .inl (dA 0, 4, .inl ql)), (h16, .inl (dA 0, 20, .inl qg))]) noQ (xcQ D (exs rx) [(h0, .inr (9, [.ref h1, .ref h21, .int xi, .ref h41, .ref h43, .ref h46, .ref h49, .int xe, .int xf])), (h1, .inr (6, [.int on, .int ot, .int op, .int os, .ref h2, .ref h6, .ref h9, .ref h14, .ref h17])), (h6, .inr (4, [.int gc, .ref h7, .ref h8])), (h7, .inl (dA 0, 10, .inl gp)), (h8, .inl (dA 0, 10, .inl gr)), (h14, .inr (7, [.ref h15, .ref h16])), (h15, .inl (dA 0, 4, .inl ql)), (h16, .inl (dA 0, 20, .inl qg))] (va_A [(h0, .inr (9, [.ref h1, .ref h21, .int xi, .ref h41, .ref h43, .ref h46, .ref h49, .int xe, .int xf])), (h1, .inr (6, [.int on, .int ot, .int op, .int os, .ref h2, .ref h6, .ref h9, .ref h14, .ref h17])), (h6, .inr (4, [.int gc, .ref h7, .ref h8])), (h7, .inl (dA 0, 10, .inl gp)), (h8, .inl (dA 0, 10, .inl gr)), (h14, .inr (7, [.ref h15, .ref h16])), (h15, .inl (dA 0, 4, .inl ql)), (h16, .inl (dA 0, 20, .inl qg))] sz)) 1 6 (va_A [(h0, .inr (9, [.ref h1, .ref h21, .int xi, .ref h41, .ref h43, .ref h46, .ref h49, .int xe, .int xf])), (h1, .inr (6, [.int on, .int ot, .int op, .int os, .ref h2, .ref h6, .ref h9, .ref h14, .ref h17])), (h6, .inr (4, [.int gc, .ref h7, .ref h8])), (h7, .inl (dA 0, 10, .inl gp)), (h8, .inl (dA 0, 10, .inl gr)), (h14, .inr (7, [.ref h15, .ref h16])), (h15, .inl (dA 0, 4, .inl ql)), (h16, .inl (dA 0, 20, .inl qg))] sz) := by
  refine of_Z (y := yX11_queueOf) (cc := cX11_queueOf) (maxL := 3) (ret := (some .int)) (av := [.ref h0, .int p0]) (ws := [(h0, .inr (9, [.ref h1, .ref h21, .int xi, .ref h41, .ref h43, .ref h46, .ref h49, .int xe, .int xf])), (h1, .inr (6, [.int on, .int ot, .int op, .int os, .ref h2, .ref h6, .ref h9, .ref h14, .ref h17])), (h6, .inr (4, [.int gc, .ref h7, .ref h8])), (h7, .inl (dA 0, 10, .inl gp)), (h8, .inl (dA 0, 10, .inl gr)), (h14, .inr (7, [.ref h15, .ref h16])), (h15, .inl (dA 0, 4, .inl ql)), (h16, .inl (dA 0, 20, .inl qg))]) (sz := sz) (own := RX11) (XC := fun A => xcQ D (exs rx) [(h0, .inr (9, [.ref h1, .ref h21, .int xi, .ref h41, .ref h43, .ref h46, .ref h49, .int xe, .int xf])), (h1, .inr (6, [.int on, .int ot, .int op, .int os, .ref h2, .ref h6, .ref h9, .ref h14, .ref h17])), (h6, .inr (4, [.int gc, .ref h7, .ref h8])), (h7, .inl (dA 0, 10, .inl gp)), (h8, .inl (dA 0, 10, .inl gr)), (h14, .inr (7, [.ref h15, .ref h16])), (h15, .inl (dA 0, 4, .inl ql)), (h16, .inl (dA 0, 20, .inl qg))] A) (by decide) rfl (Nat.le_of_ble_eq_true rfl) ?_
  intro p e s m below meth c A hx hb hr ha hown hml hlocks hin hno hP hK hD hX hS hA ls hl
  have hC := hX.1
  have hl : lv_has ls 3 [(0, .ref h0), (1, .int p0)] := hl
  rw [f_TX11_queueOf] at hf
  refine lv_aload_n hx hb dX11_queueOf_0 rfl (lv_at hl 0 rfl) ?_
  refine lv_iload_n hx hb dX11_queueOf_1 rfl (lv_at hl 1 rfl) ?_
  rcases sf_t1e hf with ⟨hnt, hf⟩ | ⟨k_1, hc1, hf⟩
  · skip
    obtain ⟨hc1, hf⟩ := sf_c0e hf
    refine k_Pv (run_YV (As := [.int p0]) (rest := []) ⟨hx, hb, hml, hown, ha⟩ (c_X11_checkGuest l D dA cA h0 h1 h2 h6 h7 h8 h9 h14 h17 h21 h41 h43 h46 h49   on ot op os gc gp gr xi xe xf p0  hc1) (gi_V m_1356 m_1358 m_19 m_31 m_1359) yd_X11_checkGuest ⟨Nat.le_of_ble_eq_true rfl, Nat.le_of_ble_eq_true rfl⟩ ⟨rfl, rfl⟩ hK hX hS hP [0, 1, 2, 3, 4] rfl (va_recv hK hP (q0 := 0) rfl rfl) rfl hl.1 rfl (Nat.le_of_ble_eq_true rfl) dX11_queueOf_2 ⟨Nat.le_of_ble_eq_true rfl, Nat.le_of_ble_eq_true rfl⟩) hP hS (fun H locs hP hS => ?_)
    refine lv_aload_n hx hb dX11_queueOf_5 rfl (lv_at hl 0 rfl) ?_
    refine gt_f (C := RX11) (T := TX11) (N := 9) hx hb ha in_X11 hown hK hP 0 rfl rfl 0 (by decide) m_332 rfl dX11_queueOf_6 ?_
    refine gt_f (C := RX8) (T := TX8) (N := 9) hx hb ha in_X8 hown hK hP 1 rfl rfl 7 (by decide) m_221 rfl dX11_queueOf_9 ?_
    refine lv_iload_n hx hb dX11_queueOf_12 rfl (lv_at hl 1 rfl) ?_
    obtain ⟨r_2, hc2, hf⟩ := sf_c1e hf
    refine k_Pi (run_PV (As := [.int p0]) (rest := []) ⟨hx, hb, hml, hown, ha⟩ (c_X9_slideOf l D dA h14 h15 h16   ql qg p0 _ hc2) (gi_V m_1362 m_666 m_667 m_36 m_668) yd_X9_slideOf ⟨Nat.le_of_ble_eq_true rfl, Nat.le_of_ble_eq_true rfl⟩ ⟨rfl, rfl⟩ hK hP [5, 6, 7] rfl 5 7 rfl rfl rfl rfl hl.1 rfl (Nat.le_of_ble_eq_true rfl) dX11_queueOf_13 ⟨Nat.le_of_ble_eq_true rfl, Nat.le_of_ble_eq_true rfl⟩) hP hS (fun H locs hP hS => ?_)
    refine lv_istore_n (lv' := [(2, .int r_2), (0, .ref h0), (1, .int p0)]) hx hb dX11_queueOf_16 rfl hl (by decide) rfl (fun ls hl => ?_)
    refine lv_iload_n hx hb dX11_queueOf_17 rfl (lv_at hl 0 rfl) ?_
    refine lv_iconst (v := -1) hx hb dX11_queueOf_18 (by decide) ?_
    refine lv_icmp_ne (tgt := 32) hx hb dX11_queueOf_19 (by decide) (fun hc => ?_) (fun hc => ?_)
    · have hf := sf_bn hf hc
      refine lv_iload_n hx hb dX11_queueOf_32 rfl (lv_at hl 0 rfl) ?_
      cases hf
    · have hf := sf_bp hf hc
      cases hf
      exact th_SX (E := exs 4) (text := "the guest does not wait in a queue") (sa := cA 36) nsx_4_0 nsx_4_1 nsx_4_2 nsx_4_5 hx hb hst hown ha hX hS (hP.sub [0, 1, 2, 3, 4, 5, 6, 7] rfl) (hD.sub [0, 1, 2, 3, 4, 5, 6, 7] (by decide) rfl) hlocks hno (hl.1.trans hml.symm) m_543 m_53 (hC.2.2.1 (RX11, 156, "the guest does not wait in a queue", 36) (List.mem_of_getElem? (i := 13) rfl)) exg_129 exb_129 exo_129 exf_129 dX11_queueOf_22 dX11_queueOf_25 dX11_queueOf_26 dX11_queueOf_28 dX11_queueOf_31 ⟨by decide, by decide, by decide, by decide⟩ ⟨by decide, by decide⟩
  · skip
    refine k_Z (wr := [(h14, .inr (7, [.ref h15, .ref h16])), (h15, .inl (dA 0, 4, .inl ql)), (h16, .inl (dA 0, 20, .inl qg))]) (run_ZV (As := [.int p0]) (rest := []) ⟨hx, hb, hml, hown, ha⟩ (c_TX11_checkGuest l D dA cA hst h0 h1 h2 h6 h7 h8 h9 h14 h17 h21 h41 h43 h46 h49  _ on ot op os gc gp gr xi xe xf p0 _ hc1) (gi_V m_1356 m_1358 m_19 m_31 m_1359) yd_TX11_checkGuest ⟨Nat.le_of_ble_eq_true rfl, Nat.le_of_ble_eq_true rfl⟩ ⟨rfl, rfl⟩ hK hX hS hA hP hD [0, 1, 2, 3, 4] (by decide) rfl (va_recv hK hP (q0 := 0) rfl rfl) rfl hl.1 rfl (Nat.le_of_ble_eq_true rfl) dX11_queueOf_2 ⟨Nat.le_of_ble_eq_true rfl, Nat.le_of_ble_eq_true rfl⟩) hP hD hS hA [0, 1, 2, 3, 4] [5, 6, 7] rfl rfl (by decide) (by decide) (fun q9 H locs hP hD hS ht9 => ?_)
    cases hf
    exact px_o hno hlocks ht9 (hP.sub [3, 4, 5, 6, 7, 0, 1, 2] rfl) (hD.sub [3, 4, 5, 6, 7, 0, 1, 2] (by decide) rfl) hS (by decide) (by decide)

def f_X11_queueLength (sc : Int32) (ql : Nat → Int32) (p0 : Int32) : Option Int32 :=
  sf_c0 (f_X11_checkSlide sc p0) (fun _ => sf_g (sf_in p0 4 = true) (some (ql p0.toNatClampNeg)))
theorem yd_X11_queueLength : yX11_queueLength.cls = RX11 ∧ yX11_queueLength.cls ≠ "java/lang/invoke/MethodHandle" ∧ yX11_queueLength.cls ≠ "java/lang/invoke/VarHandle" ∧ (parseMethodDescriptor yX11_queueLength.desc).map (fun d => d.parameters.length) = some 1 := ⟨rfl, by decide, by decide, by decide +kernel⟩
set_option maxRecDepth 100000 in
set_option maxHeartbeats 4000000 in
theorem c_X11_queueLength (l : Launch) (D : va_G) (dA : Nat → ClassId) (cA : Nat → Nat) (h0 h1 h2 h3 h4 h5 h6 h9 h14 h15 h16 h17 h21 h41 h43 h46 h49 : Nat) (on : Int32) (ot : Int32) (op : Int32) (os : Int32) (sc : Int32) (sd : Nat → Int32) (sp : Nat → Int32) (sw : Nat → Int32) (ql : Nat → Int32) (xi : Int32) (xe : Int32) (xf : Int32) (p0 : Int32) (rr : Int32) (hf : f_X11_queueLength sc ql p0 = some rr) : Met l yX11_queueLength (wo (.code yX11_queueLength cX11_queueLength 2 (some .int))) ({ frames := 2, cells := 0, slots := 0, locals := 42 } : Room) (preY D dA cA [.ref h0, .int p0] [(h0, .inr (9, [.ref h1, .ref h21, .int xi, .ref h41, .ref h43, .ref h46, .ref h49, .int xe, .int xf])), (h1, .inr (6, [.int on, .int ot, .int op, .int os, .ref h2, .ref h6, .ref h9, .ref h14, .ref h17])), (h2, .inr (8, [.int sc, .ref h3, .ref h4, .ref h5])), (h3, .inl (dA 0, 4, .inl sd)), (h4, .inl (dA 0, 4, .inl sp)), (h5, .inl (dA 0, 4, .inl sw)), (h14, .inr (7, [.ref h15, .ref h16])), (h15, .inl (dA 0, 4, .inl ql))]) (poPi rr) 0 0 noA := by
  refine of_Y (y := yX11_queueLength) (cc := cX11_queueLength) (maxL := 2) (ret := (some .int)) (av := [.ref h0, .int p0]) (ws := [(h0, .inr (9, [.ref h1, .ref h21, .int xi, .ref h41, .ref h43, .ref h46, .ref h49, .int xe, .int xf])), (h1, .inr (6, [.int on, .int ot, .int op, .int os, .ref h2, .ref h6, .ref h9, .ref h14, .ref h17])), (h2, .inr (8, [.int sc, .ref h3, .ref h4, .ref h5])), (h3, .inl (dA 0, 4, .inl sd)), (h4, .inl (dA 0, 4, .inl sp)), (h5, .inl (dA 0, 4, .inl sw)), (h14, .inr (7, [.ref h15, .ref h16])), (h15, .inl (dA 0, 4, .inl ql))]) (own := RX11) (by decide) rfl (Nat.le_of_ble_eq_true rfl) ?_
  intro p e s m below meth c hx hb hr ha hown hml hlocks hP hK hX hS ls hl
  have hC := hX.1
  have hl : lv_has ls 2 [(0, .ref h0), (1, .int p0)] := hl
  rw [f_X11_queueLength] at hf
  refine lv_aload_n hx hb dX11_queueLength_0 rfl (lv_at hl 0 rfl) ?_
  refine lv_iload_n hx hb dX11_queueLength_1 rfl (lv_at hl 1 rfl) ?_
  obtain ⟨hc0, hf⟩ := sf_c0e hf
  refine k_Pv (run_YV (As := [.int p0]) (rest := []) ⟨hx, hb, hml, hown, ha⟩ (c_X11_checkSlide l D dA cA h0 h1 h2 h3 h4 h5 h6 h9 h14 h17 h21 h41 h43 h46 h49   on ot op os sc sd sp sw xi xe xf p0  hc0) (gi_V m_776 m_778 m_12 m_31 m_779) yd_X11_checkSlide ⟨Nat.le_of_ble_eq_true rfl, Nat.le_of_ble_eq_true rfl⟩ ⟨rfl, rfl⟩ hK hX hS hP [0, 1, 2, 3, 4, 5] rfl (va_recv hK hP (q0 := 0) rfl rfl) rfl hl.1 rfl (Nat.le_of_ble_eq_true rfl) dX11_queueLength_2 ⟨Nat.le_of_ble_eq_true rfl, Nat.le_of_ble_eq_true rfl⟩) hP hS (fun H locs hP hS => ?_)
  refine lv_aload_n hx hb dX11_queueLength_5 rfl (lv_at hl 0 rfl) ?_
  refine gt_f (C := RX11) (T := TX11) (N := 9) hx hb ha in_X11 hown hK hP 0 rfl rfl 0 (by decide) m_332 rfl dX11_queueLength_6 ?_
  refine gt_f (C := RX8) (T := TX8) (N := 9) hx hb ha in_X8 hown hK hP 1 rfl rfl 7 (by decide) m_221 rfl dX11_queueLength_9 ?_
  refine gt_f (C := RX9) (T := TX9) (N := 2) hx hb ha in_X9 hown hK hP 6 rfl rfl 0 (by decide) m_176 rfl dX11_queueLength_12 ?_
  refine lv_iload_n hx hb dX11_queueLength_15 rfl (lv_at hl 1 rfl) ?_
  obtain ⟨hi, hf⟩ := sf_ge hf
  refine ia_ld hx hb hK hP 7 rfl hi dX11_queueLength_16 ?_
  exact rt_Pi hx hb hr hlocks (Option.some.inj hf) hS dX11_queueLength_17

def f_TX11_queueLength (sc : Int32) (p0 : Int32) : Option Nat :=
  sf_t1 (f_TX11_checkSlide sc p0) (fun k_1 => some k_1) (sf_c0 (f_X11_checkSlide sc p0) (fun _ => sf_g (sf_in p0 4 = true) (none)))
theorem yd_TX11_queueLength : yX11_queueLength.cls = RX11 ∧ yX11_queueLength.cls ≠ "java/lang/invoke/MethodHandle" ∧ yX11_queueLength.cls ≠ "java/lang/invoke/VarHandle" ∧ (parseMethodDescriptor yX11_queueLength.desc).map (fun d => d.parameters.length) = some 1 := ⟨rfl, by decide, by decide, by decide +kernel⟩
set_option maxRecDepth 100000 in
set_option maxHeartbeats 4000000 in
theorem c_TX11_queueLength (l : Launch) (D : va_G) (dA : Nat → ClassId) (cA : Nat → Nat) (hst : l.stackTraces = false) (h0 h1 h2 h3 h4 h5 h6 h9 h14 h15 h16 h17 h21 h41 h43 h46 h49 : Nat) (sz : Nat) (on : Int32) (ot : Int32) (op : Int32) (os : Int32) (sc : Int32) (sd : Nat → Int32) (sp : Nat → Int32) (sw : Nat → Int32) (ql : Nat → Int32) (xi : Int32) (xe : Int32) (xf : Int32) (p0 : Int32) (rx : Nat) (hf : f_TX11_queueLength sc p0 = some rx) : vx_Met l yX11_queueLength (wo (.code yX11_queueLength cX11_queueLength 2 (some .int))) ({ frames := 7, cells := 1, slots := 6, locals := 121 } : Room) (preX D dA cA [.ref h0, .int p0] sz [(h0, .inr (9, [.ref h1, .ref h21, .int xi, .ref h41, .ref h43, .ref h46, .ref h49, .int xe, .int xf])), (h1, .inr (6, [.int on, .int ot, .int op, .int os, .ref h2, .ref h6, .ref h9, .ref h14, .ref h17])), (h2, .inr (8, [.int sc, .ref h3, .ref h4, .ref h5])), (h3, .inl (dA 0, 4, .inl sd)), (h4, .inl (dA 0, 4, .inl sp)), (h5, .inl (dA 0, 4, .inl sw)), (h14, .inr (7, [.ref h15, .ref h16])), (h15, .inl (dA 0, 4, .inl ql))]) noQ (xcQ D (exs rx) [(h0, .inr (9, [.ref h1, .ref h21, .int xi, .ref h41, .ref h43, .ref h46, .ref h49, .int xe, .int xf])), (h1, .inr (6, [.int on, .int ot, .int op, .int os, .ref h2, .ref h6, .ref h9, .ref h14, .ref h17])), (h2, .inr (8, [.int sc, .ref h3, .ref h4, .ref h5])), (h3, .inl (dA 0, 4, .inl sd)), (h4, .inl (dA 0, 4, .inl sp)), (h5, .inl (dA 0, 4, .inl sw)), (h14, .inr (7, [.ref h15, .ref h16])), (h15, .inl (dA 0, 4, .inl ql))] (va_A [(h0, .inr (9, [.ref h1, .ref h21, .int xi, .ref h41, .ref h43, .ref h46, .ref h49, .int xe, .int xf])), (h1, .inr (6, [.int on, .int ot, .int op, .int os, .ref h2, .ref h6, .ref h9, .ref h14, .ref h17])), (h2, .inr (8, [.int sc, .ref h3, .ref h4, .ref h5])), (h3, .inl (dA 0, 4, .inl sd)), (h4, .inl (dA 0, 4, .inl sp)), (h5, .inl (dA 0, 4, .inl sw)), (h14, .inr (7, [.ref h15, .ref h16])), (h15, .inl (dA 0, 4, .inl ql))] sz)) 1 6 (va_A [(h0, .inr (9, [.ref h1, .ref h21, .int xi, .ref h41, .ref h43, .ref h46, .ref h49, .int xe, .int xf])), (h1, .inr (6, [.int on, .int ot, .int op, .int os, .ref h2, .ref h6, .ref h9, .ref h14, .ref h17])), (h2, .inr (8, [.int sc, .ref h3, .ref h4, .ref h5])), (h3, .inl (dA 0, 4, .inl sd)), (h4, .inl (dA 0, 4, .inl sp)), (h5, .inl (dA 0, 4, .inl sw)), (h14, .inr (7, [.ref h15, .ref h16])), (h15, .inl (dA 0, 4, .inl ql))] sz) := by
  refine of_Z (y := yX11_queueLength) (cc := cX11_queueLength) (maxL := 2) (ret := (some .int)) (av := [.ref h0, .int p0]) (ws := [(h0, .inr (9, [.ref h1, .ref h21, .int xi, .ref h41, .ref h43, .ref h46, .ref h49, .int xe, .int xf])), (h1, .inr (6, [.int on, .int ot, .int op, .int os, .ref h2, .ref h6, .ref h9, .ref h14, .ref h17])), (h2, .inr (8, [.int sc, .ref h3, .ref h4, .ref h5])), (h3, .inl (dA 0, 4, .inl sd)), (h4, .inl (dA 0, 4, .inl sp)), (h5, .inl (dA 0, 4, .inl sw)), (h14, .inr (7, [.ref h15, .ref h16])), (h15, .inl (dA 0, 4, .inl ql))]) (sz := sz) (own := RX11) (XC := fun A => xcQ D (exs rx) [(h0, .inr (9, [.ref h1, .ref h21, .int xi, .ref h41, .ref h43, .ref h46, .ref h49, .int xe, .int xf])), (h1, .inr (6, [.int on, .int ot, .int op, .int os, .ref h2, .ref h6, .ref h9, .ref h14, .ref h17])), (h2, .inr (8, [.int sc, .ref h3, .ref h4, .ref h5])), (h3, .inl (dA 0, 4, .inl sd)), (h4, .inl (dA 0, 4, .inl sp)), (h5, .inl (dA 0, 4, .inl sw)), (h14, .inr (7, [.ref h15, .ref h16])), (h15, .inl (dA 0, 4, .inl ql))] A) (by decide) rfl (Nat.le_of_ble_eq_true rfl) ?_
  intro p e s m below meth c A hx hb hr ha hown hml hlocks hin hno hP hK hD hX hS hA ls hl
  have hC := hX.1
  have hl : lv_has ls 2 [(0, .ref h0), (1, .int p0)] := hl
  rw [f_TX11_queueLength] at hf
  refine lv_aload_n hx hb dX11_queueLength_0 rfl (lv_at hl 0 rfl) ?_
  refine lv_iload_n hx hb dX11_queueLength_1 rfl (lv_at hl 1 rfl) ?_
  rcases sf_t1e hf with ⟨hnt, hf⟩ | ⟨k_1, hc1, hf⟩
  · skip
    obtain ⟨hc1, hf⟩ := sf_c0e hf
    refine k_Pv (run_YV (As := [.int p0]) (rest := []) ⟨hx, hb, hml, hown, ha⟩ (c_X11_checkSlide l D dA cA h0 h1 h2 h3 h4 h5 h6 h9 h14 h17 h21 h41 h43 h46 h49   on ot op os sc sd sp sw xi xe xf p0  hc1) (gi_V m_776 m_778 m_12 m_31 m_779) yd_X11_checkSlide ⟨Nat.le_of_ble_eq_true rfl, Nat.le_of_ble_eq_true rfl⟩ ⟨rfl, rfl⟩ hK hX hS hP [0, 1, 2, 3, 4, 5] rfl (va_recv hK hP (q0 := 0) rfl rfl) rfl hl.1 rfl (Nat.le_of_ble_eq_true rfl) dX11_queueLength_2 ⟨Nat.le_of_ble_eq_true rfl, Nat.le_of_ble_eq_true rfl⟩) hP hS (fun H locs hP hS => ?_)
    refine lv_aload_n hx hb dX11_queueLength_5 rfl (lv_at hl 0 rfl) ?_
    refine gt_f (C := RX11) (T := TX11) (N := 9) hx hb ha in_X11 hown hK hP 0 rfl rfl 0 (by decide) m_332 rfl dX11_queueLength_6 ?_
    refine gt_f (C := RX8) (T := TX8) (N := 9) hx hb ha in_X8 hown hK hP 1 rfl rfl 7 (by decide) m_221 rfl dX11_queueLength_9 ?_
    refine gt_f (C := RX9) (T := TX9) (N := 2) hx hb ha in_X9 hown hK hP 6 rfl rfl 0 (by decide) m_176 rfl dX11_queueLength_12 ?_
    refine lv_iload_n hx hb dX11_queueLength_15 rfl (lv_at hl 1 rfl) ?_
    obtain ⟨hi, hf⟩ := sf_ge hf
    refine ia_ld hx hb hK hP 7 rfl hi dX11_queueLength_16 ?_
    cases hf
  · skip
    refine k_Z (wr := [(h14, .inr (7, [.ref h15, .ref h16])), (h15, .inl (dA 0, 4, .inl ql))]) (run_ZV (As := [.int p0]) (rest := []) ⟨hx, hb, hml, hown, ha⟩ (c_TX11_checkSlide l D dA cA hst h0 h1 h2 h3 h4 h5 h6 h9 h14 h17 h21 h41 h43 h46 h49  _ on ot op os sc sd sp sw xi xe xf p0 _ hc1) (gi_V m_776 m_778 m_12 m_31 m_779) yd_TX11_checkSlide ⟨Nat.le_of_ble_eq_true rfl, Nat.le_of_ble_eq_true rfl⟩ ⟨rfl, rfl⟩ hK hX hS hA hP hD [0, 1, 2, 3, 4, 5] (by decide) rfl (va_recv hK hP (q0 := 0) rfl rfl) rfl hl.1 rfl (Nat.le_of_ble_eq_true rfl) dX11_queueLength_2 ⟨Nat.le_of_ble_eq_true rfl, Nat.le_of_ble_eq_true rfl⟩) hP hD hS hA [0, 1, 2, 3, 4, 5] [6, 7] rfl rfl (by decide) (by decide) (fun q9 H locs hP hD hS ht9 => ?_)
    cases hf
    exact px_o hno hlocks ht9 (hP.sub [2, 3, 4, 5, 6, 7, 0, 1] rfl) (hD.sub [2, 3, 4, 5, 6, 7, 0, 1] (by decide) rfl) hS (by decide) (by decide)

def f_X11_queuedGuest (sc : Int32) (ql : Nat → Int32) (qg : Nat → Int32) (p0 : Int32) (p1 : Int32) : Option Int32 :=
  sf_c0 (f_X11_checkSlide sc p0) (fun _ => sf_b (p1 < (0 : Int32)) (none) (sf_g (sf_in p0 4 = true) (sf_b (p1 < (ql p0.toNatClampNeg)) (sf_c1 (f_X9_guestAt qg p0 p1) (fun r_1 => some r_1)) (none))))
theorem yd_X11_queuedGuest : yX11_queuedGuest.cls = RX11 ∧ yX11_queuedGuest.cls ≠ "java/lang/invoke/MethodHandle" ∧ yX11_queuedGuest.cls ≠ "java/lang/invoke/VarHandle" ∧ (parseMethodDescriptor yX11_queuedGuest.desc).map (fun d => d.parameters.length) = some 2 := ⟨rfl, by decide, by decide, by decide +kernel⟩
set_option maxRecDepth 100000 in
set_option maxHeartbeats 4000000 in
theorem c_X11_queuedGuest (l : Launch) (D : va_G) (dA : Nat → ClassId) (cA : Nat → Nat) (h0 h1 h2 h3 h4 h5 h6 h9 h14 h15 h16 h17 h21 h41 h43 h46 h49 : Nat) (on : Int32) (ot : Int32) (op : Int32) (os : Int32) (sc : Int32) (sd : Nat → Int32) (sp : Nat → Int32) (sw : Nat → Int32) (ql : Nat → Int32) (qg : Nat → Int32) (xi : Int32) (xe : Int32) (xf : Int32) (p0 : Int32) (p1 : Int32) (rr : Int32) (hf : f_X11_queuedGuest sc ql qg p0 p1 = some rr) : Met l yX11_queuedGuest (wo (.code yX11_queuedGuest cX11_queuedGuest 3 (some .int))) ({ frames := 2, cells := 0, slots := 0, locals := 42 } : Room) (preY D dA cA [.ref h0, .int p0, .int p1] [(h0, .inr (9, [.ref h1, .ref h21, .int xi, .ref h41, .ref h43, .ref h46, .ref h49, .int xe, .int xf])), (h1, .inr (6, [.int on, .int ot, .int op, .int os, .ref h2, .ref h6, .ref h9, .ref h14, .ref h17])), (h2, .inr (8, [.int sc, .ref h3, .ref h4, .ref h5])), (h3, .inl (dA 0, 4, .inl sd)), (h4, .inl (dA 0, 4, .inl sp)), (h5, .inl (dA 0, 4, .inl sw)), (h14, .inr (7, [.ref h15, .ref h16])), (h15, .inl (dA 0, 4, .inl ql)), (h16, .inl (dA 0, 20, .inl qg))]) (poPi rr) 0 0 noA := by
  refine of_Y (y := yX11_queuedGuest) (cc := cX11_queuedGuest) (maxL := 3) (ret := (some .int)) (av := [.ref h0, .int p0, .int p1]) (ws := [(h0, .inr (9, [.ref h1, .ref h21, .int xi, .ref h41, .ref h43, .ref h46, .ref h49, .int xe, .int xf])), (h1, .inr (6, [.int on, .int ot, .int op, .int os, .ref h2, .ref h6, .ref h9, .ref h14, .ref h17])), (h2, .inr (8, [.int sc, .ref h3, .ref h4, .ref h5])), (h3, .inl (dA 0, 4, .inl sd)), (h4, .inl (dA 0, 4, .inl sp)), (h5, .inl (dA 0, 4, .inl sw)), (h14, .inr (7, [.ref h15, .ref h16])), (h15, .inl (dA 0, 4, .inl ql)), (h16, .inl (dA 0, 20, .inl qg))]) (own := RX11) (by decide) rfl (Nat.le_of_ble_eq_true rfl) ?_
  intro p e s m below meth c hx hb hr ha hown hml hlocks hP hK hX hS ls hl
  have hC := hX.1
  have hl : lv_has ls 3 [(0, .ref h0), (1, .int p0), (2, .int p1)] := hl
  rw [f_X11_queuedGuest] at hf
  refine lv_aload_n hx hb dX11_queuedGuest_0 rfl (lv_at hl 0 rfl) ?_
  refine lv_iload_n hx hb dX11_queuedGuest_1 rfl (lv_at hl 1 rfl) ?_
  obtain ⟨hc0, hf⟩ := sf_c0e hf
  refine k_Pv (run_YV (As := [.int p0]) (rest := []) ⟨hx, hb, hml, hown, ha⟩ (c_X11_checkSlide l D dA cA h0 h1 h2 h3 h4 h5 h6 h9 h14 h17 h21 h41 h43 h46 h49   on ot op os sc sd sp sw xi xe xf p0  hc0) (gi_V m_776 m_778 m_12 m_31 m_779) yd_X11_checkSlide ⟨Nat.le_of_ble_eq_true rfl, Nat.le_of_ble_eq_true rfl⟩ ⟨rfl, rfl⟩ hK hX hS hP [0, 1, 2, 3, 4, 5] rfl (va_recv hK hP (q0 := 0) rfl rfl) rfl hl.1 rfl (Nat.le_of_ble_eq_true rfl) dX11_queuedGuest_2 ⟨Nat.le_of_ble_eq_true rfl, Nat.le_of_ble_eq_true rfl⟩) hP hS (fun H locs hP hS => ?_)
  refine lv_iload_n hx hb dX11_queuedGuest_5 rfl (lv_at hl 2 rfl) ?_
  refine lv_if_lt (tgt := 25) hx hb dX11_queuedGuest_6 (by decide) (fun hc => ?_) (fun hc => ?_)
  · have hf := sf_bp hf hc
    cases hf
  · have hf := sf_bn hf hc
    refine lv_iload_n hx hb dX11_queuedGuest_9 rfl (lv_at hl 2 rfl) ?_
    refine lv_aload_n hx hb dX11_queuedGuest_10 rfl (lv_at hl 0 rfl) ?_
    refine gt_f (C := RX11) (T := TX11) (N := 9) hx hb ha in_X11 hown hK hP 0 rfl rfl 0 (by decide) m_332 rfl dX11_queuedGuest_11 ?_
    refine gt_f (C := RX8) (T := TX8) (N := 9) hx hb ha in_X8 hown hK hP 1 rfl rfl 7 (by decide) m_221 rfl dX11_queuedGuest_14 ?_
    refine gt_f (C := RX9) (T := TX9) (N := 2) hx hb ha in_X9 hown hK hP 6 rfl rfl 0 (by decide) m_176 rfl dX11_queuedGuest_17 ?_
    refine lv_iload_n hx hb dX11_queuedGuest_20 rfl (lv_at hl 1 rfl) ?_
    obtain ⟨hi, hf⟩ := sf_ge hf
    refine ia_ld hx hb hK hP 7 rfl hi dX11_queuedGuest_21 ?_
    refine lv_icmp_lt (tgt := 35) hx hb dX11_queuedGuest_22 (by decide) (fun hc => ?_) (fun hc => ?_)
    · have hf := sf_bp hf hc
      refine lv_aload_n hx hb dX11_queuedGuest_35 rfl (lv_at hl 0 rfl) ?_
      refine gt_f (C := RX11) (T := TX11) (N := 9) hx hb ha in_X11 hown hK hP 0 rfl rfl 0 (by decide) m_332 rfl dX11_queuedGuest_36 ?_
      refine gt_f (C := RX8) (T := TX8) (N := 9) hx hb ha in_X8 hown hK hP 1 rfl rfl 7 (by decide) m_221 rfl dX11_queuedGuest_39 ?_
      refine lv_iload_n hx hb dX11_queuedGuest_42 rfl (lv_at hl 1 rfl) ?_
      refine lv_iload_n hx hb dX11_queuedGuest_43 rfl (lv_at hl 2 rfl) ?_
      obtain ⟨r_1, hc1, hf⟩ := sf_c1e hf
      refine k_Pi (run_PV (As := [.int p0, .int p1]) (rest := []) ⟨hx, hb, hml, hown, ha⟩ (c_X9_guestAt l D dA h14 h15 h16   ql qg p0 p1 _ hc1) (gi_V m_1348 m_670 m_671 m_36 m_672) yd_X9_guestAt ⟨Nat.le_of_ble_eq_true rfl, Nat.le_of_ble_eq_true rfl⟩ ⟨rfl, rfl⟩ hK hP [6, 7, 8] rfl 6 7 rfl rfl rfl rfl hl.1 rfl (Nat.le_of_ble_eq_true rfl) dX11_queuedGuest_44 ⟨Nat.le_of_ble_eq_true rfl, Nat.le_of_ble_eq_true rfl⟩) hP hS (fun H locs hP hS => ?_)
      exact rt_Pi hx hb hr hlocks (Option.some.inj hf) hS dX11_queuedGuest_47
    · have hf := sf_bn hf hc
      cases hf

def f_TX11_queuedGuest (sc : Int32) (ql : Nat → Int32) (qg : Nat → Int32) (p0 : Int32) (p1 : Int32) : Option Nat :=
  sf_t1 (f_TX11_checkSlide sc p0) (fun k_1 => some k_1) (sf_c0 (f_X11_checkSlide sc p0) (fun _ => sf_b (p1 < (0 : Int32)) (some 4) (sf_g (sf_in p0 4 = true) (sf_b (p1 < (ql p0.toNatClampNeg)) (sf_c1 (f_X9_guestAt qg p0 p1) (fun r_2 => none)) (some 4)))))
theorem yd_TX11_queuedGuest : yX11_queuedGuest.cls = RX11 ∧ yX11_queuedGuest.cls ≠ "java/lang/invoke/MethodHandle" ∧ yX11_queuedGuest.cls ≠ "java/lang/invoke/VarHandle" ∧ (parseMethodDescriptor yX11_queuedGuest.desc).map (fun d => d.parameters.length) = some 2 := ⟨rfl, by decide, by decide, by decide +kernel⟩
set_option maxRecDepth 100000 in
set_option maxHeartbeats 4000000 in
theorem c_TX11_queuedGuest (l : Launch) (D : va_G) (dA : Nat → ClassId) (cA : Nat → Nat) (hst : l.stackTraces = false) (h0 h1 h2 h3 h4 h5 h6 h9 h14 h15 h16 h17 h21 h41 h43 h46 h49 : Nat) (sz : Nat) (on : Int32) (ot : Int32) (op : Int32) (os : Int32) (sc : Int32) (sd : Nat → Int32) (sp : Nat → Int32) (sw : Nat → Int32) (ql : Nat → Int32) (qg : Nat → Int32) (xi : Int32) (xe : Int32) (xf : Int32) (p0 : Int32) (p1 : Int32) (rx : Nat) (hf : f_TX11_queuedGuest sc ql qg p0 p1 = some rx) : vx_Met l yX11_queuedGuest (wo (.code yX11_queuedGuest cX11_queuedGuest 3 (some .int))) ({ frames := 7, cells := 1, slots := 6, locals := 121 } : Room) (preX D dA cA [.ref h0, .int p0, .int p1] sz [(h0, .inr (9, [.ref h1, .ref h21, .int xi, .ref h41, .ref h43, .ref h46, .ref h49, .int xe, .int xf])), (h1, .inr (6, [.int on, .int ot, .int op, .int os, .ref h2, .ref h6, .ref h9, .ref h14, .ref h17])), (h2, .inr (8, [.int sc, .ref h3, .ref h4, .ref h5])), (h3, .inl (dA 0, 4, .inl sd)), (h4, .inl (dA 0, 4, .inl sp)), (h5, .inl (dA 0, 4, .inl sw)), (h14, .inr (7, [.ref h15, .ref h16])), (h15, .inl (dA 0, 4, .inl ql)), (h16, .inl (dA 0, 20, .inl qg))]) noQ (xcQ D (exs rx) [(h0, .inr (9, [.ref h1, .ref h21, .int xi, .ref h41, .ref h43, .ref h46, .ref h49, .int xe, .int xf])), (h1, .inr (6, [.int on, .int ot, .int op, .int os, .ref h2, .ref h6, .ref h9, .ref h14, .ref h17])), (h2, .inr (8, [.int sc, .ref h3, .ref h4, .ref h5])), (h3, .inl (dA 0, 4, .inl sd)), (h4, .inl (dA 0, 4, .inl sp)), (h5, .inl (dA 0, 4, .inl sw)), (h14, .inr (7, [.ref h15, .ref h16])), (h15, .inl (dA 0, 4, .inl ql)), (h16, .inl (dA 0, 20, .inl qg))] (va_A [(h0, .inr (9, [.ref h1, .ref h21, .int xi, .ref h41, .ref h43, .ref h46, .ref h49, .int xe, .int xf])), (h1, .inr (6, [.int on, .int ot, .int op, .int os, .ref h2, .ref h6, .ref h9, .ref h14, .ref h17])), (h2, .inr (8, [.int sc, .ref h3, .ref h4, .ref h5])), (h3, .inl (dA 0, 4, .inl sd)), (h4, .inl (dA 0, 4, .inl sp)), (h5, .inl (dA 0, 4, .inl sw)), (h14, .inr (7, [.ref h15, .ref h16])), (h15, .inl (dA 0, 4, .inl ql)), (h16, .inl (dA 0, 20, .inl qg))] sz)) 1 6 (va_A [(h0, .inr (9, [.ref h1, .ref h21, .int xi, .ref h41, .ref h43, .ref h46, .ref h49, .int xe, .int xf])), (h1, .inr (6, [.int on, .int ot, .int op, .int os, .ref h2, .ref h6, .ref h9, .ref h14, .ref h17])), (h2, .inr (8, [.int sc, .ref h3, .ref h4, .ref h5])), (h3, .inl (dA 0, 4, .inl sd)), (h4, .inl (dA 0, 4, .inl sp)), (h5, .inl (dA 0, 4, .inl sw)), (h14, .inr (7, [.ref h15, .ref h16])), (h15, .inl (dA 0, 4, .inl ql)), (h16, .inl (dA 0, 20, .inl qg))] sz) := by
  refine of_Z (y := yX11_queuedGuest) (cc := cX11_queuedGuest) (maxL := 3) (ret := (some .int)) (av := [.ref h0, .int p0, .int p1]) (ws := [(h0, .inr (9, [.ref h1, .ref h21, .int xi, .ref h41, .ref h43, .ref h46, .ref h49, .int xe, .int xf])), (h1, .inr (6, [.int on, .int ot, .int op, .int os, .ref h2, .ref h6, .ref h9, .ref h14, .ref h17])), (h2, .inr (8, [.int sc, .ref h3, .ref h4, .ref h5])), (h3, .inl (dA 0, 4, .inl sd)), (h4, .inl (dA 0, 4, .inl sp)), (h5, .inl (dA 0, 4, .inl sw)), (h14, .inr (7, [.ref h15, .ref h16])), (h15, .inl (dA 0, 4, .inl ql)), (h16, .inl (dA 0, 20, .inl qg))]) (sz := sz) (own := RX11) (XC := fun A => xcQ D (exs rx) [(h0, .inr (9, [.ref h1, .ref h21, .int xi, .ref h41, .ref h43, .ref h46, .ref h49, .int xe, .int xf])), (h1, .inr (6, [.int on, .int ot, .int op, .int os, .ref h2, .ref h6, .ref h9, .ref h14, .ref h17])), (h2, .inr (8, [.int sc, .ref h3, .ref h4, .ref h5])), (h3, .inl (dA 0, 4, .inl sd)), (h4, .inl (dA 0, 4, .inl sp)), (h5, .inl (dA 0, 4, .inl sw)), (h14, .inr (7, [.ref h15, .ref h16])), (h15, .inl (dA 0, 4, .inl ql)), (h16, .inl (dA 0, 20, .inl qg))] A) (by decide) rfl (Nat.le_of_ble_eq_true rfl) ?_
  intro p e s m below meth c A hx hb hr ha hown hml hlocks hin hno hP hK hD hX hS hA ls hl
  have hC := hX.1
  have hl : lv_has ls 3 [(0, .ref h0), (1, .int p0), (2, .int p1)] := hl
  rw [f_TX11_queuedGuest] at hf
  refine lv_aload_n hx hb dX11_queuedGuest_0 rfl (lv_at hl 0 rfl) ?_
  refine lv_iload_n hx hb dX11_queuedGuest_1 rfl (lv_at hl 1 rfl) ?_
  rcases sf_t1e hf with ⟨hnt, hf⟩ | ⟨k_1, hc1, hf⟩
  · skip
    obtain ⟨hc1, hf⟩ := sf_c0e hf
    refine k_Pv (run_YV (As := [.int p0]) (rest := []) ⟨hx, hb, hml, hown, ha⟩ (c_X11_checkSlide l D dA cA h0 h1 h2 h3 h4 h5 h6 h9 h14 h17 h21 h41 h43 h46 h49   on ot op os sc sd sp sw xi xe xf p0  hc1) (gi_V m_776 m_778 m_12 m_31 m_779) yd_X11_checkSlide ⟨Nat.le_of_ble_eq_true rfl, Nat.le_of_ble_eq_true rfl⟩ ⟨rfl, rfl⟩ hK hX hS hP [0, 1, 2, 3, 4, 5] rfl (va_recv hK hP (q0 := 0) rfl rfl) rfl hl.1 rfl (Nat.le_of_ble_eq_true rfl) dX11_queuedGuest_2 ⟨Nat.le_of_ble_eq_true rfl, Nat.le_of_ble_eq_true rfl⟩) hP hS (fun H locs hP hS => ?_)
    refine lv_iload_n hx hb dX11_queuedGuest_5 rfl (lv_at hl 2 rfl) ?_
    refine lv_if_lt (tgt := 25) hx hb dX11_queuedGuest_6 (by decide) (fun hc => ?_) (fun hc => ?_)
    · have hf := sf_bp hf hc
      cases hf
      exact th_SX (E := exs 4) (text := "there is no such position") (sa := cA 44) nsx_4_0 nsx_4_1 nsx_4_2 nsx_4_5 hx hb hst hown ha hX hS (hP.sub [0, 1, 2, 3, 4, 5, 6, 7, 8] rfl) (hD.sub [0, 1, 2, 3, 4, 5, 6, 7, 8] (by decide) rfl) hlocks hno (hl.1.trans hml.symm) m_543 m_53 (hC.2.2.1 (RX11, 161, "there is no such position", 44) (List.mem_of_getElem? (i := 21) rfl)) exg_129 exb_129 exo_129 exf_129 dX11_queuedGuest_25 dX11_queuedGuest_28 dX11_queuedGuest_29 dX11_queuedGuest_31 dX11_queuedGuest_34 ⟨by decide, by decide, by decide, by decide⟩ ⟨by decide, by decide⟩
    · have hf := sf_bn hf hc
      refine lv_iload_n hx hb dX11_queuedGuest_9 rfl (lv_at hl 2 rfl) ?_
      refine lv_aload_n hx hb dX11_queuedGuest_10 rfl (lv_at hl 0 rfl) ?_
      refine gt_f (C := RX11) (T := TX11) (N := 9) hx hb ha in_X11 hown hK hP 0 rfl rfl 0 (by decide) m_332 rfl dX11_queuedGuest_11 ?_
      refine gt_f (C := RX8) (T := TX8) (N := 9) hx hb ha in_X8 hown hK hP 1 rfl rfl 7 (by decide) m_221 rfl dX11_queuedGuest_14 ?_
      refine gt_f (C := RX9) (T := TX9) (N := 2) hx hb ha in_X9 hown hK hP 6 rfl rfl 0 (by decide) m_176 rfl dX11_queuedGuest_17 ?_
      refine lv_iload_n hx hb dX11_queuedGuest_20 rfl (lv_at hl 1 rfl) ?_
      obtain ⟨hi, hf⟩ := sf_ge hf
      refine ia_ld hx hb hK hP 7 rfl hi dX11_queuedGuest_21 ?_
      refine lv_icmp_lt (tgt := 35) hx hb dX11_queuedGuest_22 (by decide) (fun hc => ?_) (fun hc => ?_)
      · have hf := sf_bp hf hc
        refine lv_aload_n hx hb dX11_queuedGuest_35 rfl (lv_at hl 0 rfl) ?_
        refine gt_f (C := RX11) (T := TX11) (N := 9) hx hb ha in_X11 hown hK hP 0 rfl rfl 0 (by decide) m_332 rfl dX11_queuedGuest_36 ?_
        refine gt_f (C := RX8) (T := TX8) (N := 9) hx hb ha in_X8 hown hK hP 1 rfl rfl 7 (by decide) m_221 rfl dX11_queuedGuest_39 ?_
        refine lv_iload_n hx hb dX11_queuedGuest_42 rfl (lv_at hl 1 rfl) ?_
        refine lv_iload_n hx hb dX11_queuedGuest_43 rfl (lv_at hl 2 rfl) ?_
        obtain ⟨r_2, hc2, hf⟩ := sf_c1e hf
        refine k_Pi (run_PV (As := [.int p0, .int p1]) (rest := []) ⟨hx, hb, hml, hown, ha⟩ (c_X9_guestAt l D dA h14 h15 h16   ql qg p0 p1 _ hc2) (gi_V m_1348 m_670 m_671 m_36 m_672) yd_X9_guestAt ⟨Nat.le_of_ble_eq_true rfl, Nat.le_of_ble_eq_true rfl⟩ ⟨rfl, rfl⟩ hK hP [6, 7, 8] rfl 6 7 rfl rfl rfl rfl hl.1 rfl (Nat.le_of_ble_eq_true rfl) dX11_queuedGuest_44 ⟨Nat.le_of_ble_eq_true rfl, Nat.le_of_ble_eq_true rfl⟩) hP hS (fun H locs hP hS => ?_)
        cases hf
      · have hf := sf_bn hf hc
        cases hf
        exact th_SX (E := exs 4) (text := "there is no such position") (sa := cA 44) nsx_4_0 nsx_4_1 nsx_4_2 nsx_4_5 hx hb hst hown ha hX hS (hP.sub [0, 1, 2, 3, 4, 5, 6, 7, 8] rfl) (hD.sub [0, 1, 2, 3, 4, 5, 6, 7, 8] (by decide) rfl) hlocks hno (hl.1.trans hml.symm) m_543 m_53 (hC.2.2.1 (RX11, 161, "there is no such position", 44) (List.mem_of_getElem? (i := 21) rfl)) exg_129 exb_129 exo_129 exf_129 dX11_queuedGuest_25 dX11_queuedGuest_28 dX11_queuedGuest_29 dX11_queuedGuest_31 dX11_queuedGuest_34 ⟨by decide, by decide, by decide, by decide⟩ ⟨by decide, by decide⟩
  · skip
    refine k_Z (wr := [(h14, .inr (7, [.ref h15, .ref h16])), (h15, .inl (dA 0, 4, .inl ql)), (h16, .inl (dA 0, 20, .inl qg))]) (run_ZV (As := [.int p0]) (rest := []) ⟨hx, hb, hml, hown, ha⟩ (c_TX11_checkSlide l D dA cA hst h0 h1 h2 h3 h4 h5 h6 h9 h14 h17 h21 h41 h43 h46 h49  _ on ot op os sc sd sp sw xi xe xf p0 _ hc1) (gi_V m_776 m_778 m_12 m_31 m_779) yd_TX11_checkSlide ⟨Nat.le_of_ble_eq_true rfl, Nat.le_of_ble_eq_true rfl⟩ ⟨rfl, rfl⟩ hK hX hS hA hP hD [0, 1, 2, 3, 4, 5] (by decide) rfl (va_recv hK hP (q0 := 0) rfl rfl) rfl hl.1 rfl (Nat.le_of_ble_eq_true rfl) dX11_queuedGuest_2 ⟨Nat.le_of_ble_eq_true rfl, Nat.le_of_ble_eq_true rfl⟩) hP hD hS hA [0, 1, 2, 3, 4, 5] [6, 7, 8] rfl rfl (by decide) (by decide) (fun q9 H locs hP hD hS ht9 => ?_)
    cases hf
    exact px_o hno hlocks ht9 (hP.sub [3, 4, 5, 6, 7, 8, 0, 1, 2] rfl) (hD.sub [3, 4, 5, 6, 7, 8, 0, 1, 2] (by decide) rfl) hS (by decide) (by decide)

def f_X11_bookingCount (bc : Int32) : Option Int32 :=
  some bc
theorem yd_X11_bookingCount : yX11_bookingCount.cls = RX11 ∧ yX11_bookingCount.cls ≠ "java/lang/invoke/MethodHandle" ∧ yX11_bookingCount.cls ≠ "java/lang/invoke/VarHandle" ∧ (parseMethodDescriptor yX11_bookingCount.desc).map (fun d => d.parameters.length) = some 0 := ⟨rfl, by decide, by decide, by decide +kernel⟩
set_option maxRecDepth 100000 in
set_option maxHeartbeats 4000000 in
theorem c_X11_bookingCount (l : Launch) (D : va_G) (dA : Nat → ClassId) (cA : Nat → Nat) (h0 h1 h2 h6 h9 h10 h11 h12 h13 h14 h17 h21 h41 h43 h46 h49 : Nat) (on : Int32) (ot : Int32) (op : Int32) (os : Int32) (bc : Int32) (xi : Int32) (xe : Int32) (xf : Int32) (rr : Int32) (hf : f_X11_bookingCount bc = some rr) : Met l yX11_bookingCount (wo (.code yX11_bookingCount cX11_bookingCount 1 (some .int))) ({ frames := 0, cells := 0, slots := 0, locals := 0 } : Room) (preY D dA cA [.ref h0] [(h0, .inr (9, [.ref h1, .ref h21, .int xi, .ref h41, .ref h43, .ref h46, .ref h49, .int xe, .int xf])), (h1, .inr (6, [.int on, .int ot, .int op, .int os, .ref h2, .ref h6, .ref h9, .ref h14, .ref h17])), (h9, .inr (0, [.int bc, .ref h10, .ref h11, .ref h12, .ref h13]))]) (poPi rr) 0 0 noA := by
  refine of_Y (y := yX11_bookingCount) (cc := cX11_bookingCount) (maxL := 1) (ret := (some .int)) (av := [.ref h0]) (ws := [(h0, .inr (9, [.ref h1, .ref h21, .int xi, .ref h41, .ref h43, .ref h46, .ref h49, .int xe, .int xf])), (h1, .inr (6, [.int on, .int ot, .int op, .int os, .ref h2, .ref h6, .ref h9, .ref h14, .ref h17])), (h9, .inr (0, [.int bc, .ref h10, .ref h11, .ref h12, .ref h13]))]) (own := RX11) (by decide) rfl (Nat.le_of_ble_eq_true rfl) ?_
  intro p e s m below meth c hx hb hr ha hown hml hlocks hP hK hX hS ls hl
  have hC := hX.1
  have hl : lv_has ls 1 [(0, .ref h0)] := hl
  rw [f_X11_bookingCount] at hf
  refine lv_aload_n hx hb dX11_bookingCount_0 rfl (lv_at hl 0 rfl) ?_
  refine gt_f (C := RX11) (T := TX11) (N := 9) hx hb ha in_X11 hown hK hP 0 rfl rfl 0 (by decide) m_332 rfl dX11_bookingCount_1 ?_
  refine gt_f (C := RX8) (T := TX8) (N := 9) hx hb ha in_X8 hown hK hP 1 rfl rfl 6 (by decide) m_219 rfl dX11_bookingCount_4 ?_
  refine gt_f (C := RX1) (T := TX1) (N := 5) hx hb ha in_X1 hown hK hP 2 rfl rfl 0 (by decide) m_143 rfl dX11_bookingCount_7 ?_
  exact rt_Pi hx hb hr hlocks (Option.some.inj hf) hS dX11_bookingCount_10

def f_X11_checkBooking (bc : Int32) (p0 : Int32) : Option Unit :=
  sf_c1 (f_X1_has bc p0) (fun r_1 => sf_b (r_1 = (0 : Int32)) (none) (some ()))
theorem yd_X11_checkBooking : yX11_checkBooking.cls = RX11 ∧ yX11_checkBooking.cls ≠ "java/lang/invoke/MethodHandle" ∧ yX11_checkBooking.cls ≠ "java/lang/invoke/VarHandle" ∧ (parseMethodDescriptor yX11_checkBooking.desc).map (fun d => d.parameters.length) = some 1 := ⟨rfl, by decide, by decide, by decide +kernel⟩
set_option maxRecDepth 100000 in
set_option maxHeartbeats 4000000 in
theorem c_X11_checkBooking (l : Launch) (D : va_G) (dA : Nat → ClassId) (cA : Nat → Nat) (h0 h1 h2 h6 h9 h10 h11 h12 h13 h14 h17 h21 h41 h43 h46 h49 : Nat) (on : Int32) (ot : Int32) (op : Int32) (os : Int32) (bc : Int32) (bg : Nat → Int32) (bs : Nat → Int32) (bt : Nat → Int32) (be : Nat → Int32) (xi : Int32) (xe : Int32) (xf : Int32) (p0 : Int32) (hf : f_X11_checkBooking bc p0 = some ()) : Met l yX11_checkBooking (wo (.code yX11_checkBooking cX11_checkBooking 2 none)) ({ frames := 1, cells := 0, slots := 0, locals := 21 } : Room) (preY D dA cA [.ref h0, .int p0] [(h0, .inr (9, [.ref h1, .ref h21, .int xi, .ref h41, .ref h43, .ref h46, .ref h49, .int xe, .int xf])), (h1, .inr (6, [.int on, .int ot, .int op, .int os, .ref h2, .ref h6, .ref h9, .ref h14, .ref h17])), (h9, .inr (0, [.int bc, .ref h10, .ref h11, .ref h12, .ref h13])), (h10, .inl (dA 0, 12, .inl bg)), (h11, .inl (dA 0, 12, .inl bs)), (h12, .inl (dA 0, 12, .inl bt)), (h13, .inl (dA 0, 12, .inl be))]) (poPv) 0 0 noA := by
  refine of_Y (y := yX11_checkBooking) (cc := cX11_checkBooking) (maxL := 2) (ret := none) (av := [.ref h0, .int p0]) (ws := [(h0, .inr (9, [.ref h1, .ref h21, .int xi, .ref h41, .ref h43, .ref h46, .ref h49, .int xe, .int xf])), (h1, .inr (6, [.int on, .int ot, .int op, .int os, .ref h2, .ref h6, .ref h9, .ref h14, .ref h17])), (h9, .inr (0, [.int bc, .ref h10, .ref h11, .ref h12, .ref h13])), (h10, .inl (dA 0, 12, .inl bg)), (h11, .inl (dA 0, 12, .inl bs)), (h12, .inl (dA 0, 12, .inl bt)), (h13, .inl (dA 0, 12, .inl be))]) (own := RX11) (by decide) rfl (Nat.le_of_ble_eq_true rfl) ?_
  intro p e s m below meth c hx hb hr ha hown hml hlocks hP hK hX hS ls hl
  have hC := hX.1
  have hl : lv_has ls 2 [(0, .ref h0), (1, .int p0)] := hl
  rw [f_X11_checkBooking] at hf
  refine lv_aload_n hx hb dX11_checkBooking_0 rfl (lv_at hl 0 rfl) ?_
  refine gt_f (C := RX11) (T := TX11) (N := 9) hx hb ha in_X11 hown hK hP 0 rfl rfl 0 (by decide) m_332 rfl dX11_checkBooking_1 ?_
  refine gt_f (C := RX8) (T := TX8) (N := 9) hx hb ha in_X8 hown hK hP 1 rfl rfl 6 (by decide) m_219 rfl dX11_checkBooking_4 ?_
  refine lv_iload_n hx hb dX11_checkBooking_7 rfl (lv_at hl 1 rfl) ?_
  obtain ⟨r_1, hc1, hf⟩ := sf_c1e hf
  refine k_Pi (run_PV (As := [.int p0]) (rest := []) ⟨hx, hb, hml, hown, ha⟩ (c_X1_has l D dA h9 h10 h11 h12 h13   bc bg bs bt be p0 _ hc1) (gi_V m_756 m_757 m_758 m_35 m_759) yd_X1_has ⟨Nat.le_of_ble_eq_true rfl, Nat.le_of_ble_eq_true rfl⟩ ⟨rfl, rfl⟩ hK hP [2, 3, 4, 5, 6] rfl 2 0 rfl rfl rfl rfl hl.1 rfl (Nat.le_of_ble_eq_true rfl) dX11_checkBooking_8 ⟨Nat.le_of_ble_eq_true rfl, Nat.le_of_ble_eq_true rfl⟩) hP hS (fun H locs hP hS => ?_)
  refine lv_if_ne (tgt := 25) hx hb dX11_checkBooking_11 (by decide) (fun hc => ?_) (fun hc => ?_)
  · have hf := sf_bn hf hc
    exact rt_Pv hx hb hr hlocks hS dX11_checkBooking_25
  · have hf := sf_bp hf hc
    cases hf

def f_TX11_checkBooking (bc : Int32) (p0 : Int32) : Option Nat :=
  sf_c1 (f_X1_has bc p0) (fun r_1 => sf_b (r_1 = (0 : Int32)) (some 0) (none))
theorem yd_TX11_checkBooking : yX11_checkBooking.cls = RX11 ∧ yX11_checkBooking.cls ≠ "java/lang/invoke/MethodHandle" ∧ yX11_checkBooking.cls ≠ "java/lang/invoke/VarHandle" ∧ (parseMethodDescriptor yX11_checkBooking.desc).map (fun d => d.parameters.length) = some 1 := ⟨rfl, by decide, by decide, by decide +kernel⟩
set_option maxRecDepth 100000 in
set_option maxHeartbeats 4000000 in
theorem c_TX11_checkBooking (l : Launch) (D : va_G) (dA : Nat → ClassId) (cA : Nat → Nat) (hst : l.stackTraces = false) (h0 h1 h2 h6 h9 h10 h11 h12 h13 h14 h17 h21 h41 h43 h46 h49 : Nat) (sz : Nat) (on : Int32) (ot : Int32) (op : Int32) (os : Int32) (bc : Int32) (bg : Nat → Int32) (bs : Nat → Int32) (bt : Nat → Int32) (be : Nat → Int32) (xi : Int32) (xe : Int32) (xf : Int32) (p0 : Int32) (rx : Nat) (hf : f_TX11_checkBooking bc p0 = some rx) : vx_Met l yX11_checkBooking (wo (.code yX11_checkBooking cX11_checkBooking 2 none)) ({ frames := 6, cells := 1, slots := 6, locals := 100 } : Room) (preX D dA cA [.ref h0, .int p0] sz [(h0, .inr (9, [.ref h1, .ref h21, .int xi, .ref h41, .ref h43, .ref h46, .ref h49, .int xe, .int xf])), (h1, .inr (6, [.int on, .int ot, .int op, .int os, .ref h2, .ref h6, .ref h9, .ref h14, .ref h17])), (h9, .inr (0, [.int bc, .ref h10, .ref h11, .ref h12, .ref h13])), (h10, .inl (dA 0, 12, .inl bg)), (h11, .inl (dA 0, 12, .inl bs)), (h12, .inl (dA 0, 12, .inl bt)), (h13, .inl (dA 0, 12, .inl be))]) noQ (xcQ D (exs rx) [(h0, .inr (9, [.ref h1, .ref h21, .int xi, .ref h41, .ref h43, .ref h46, .ref h49, .int xe, .int xf])), (h1, .inr (6, [.int on, .int ot, .int op, .int os, .ref h2, .ref h6, .ref h9, .ref h14, .ref h17])), (h9, .inr (0, [.int bc, .ref h10, .ref h11, .ref h12, .ref h13])), (h10, .inl (dA 0, 12, .inl bg)), (h11, .inl (dA 0, 12, .inl bs)), (h12, .inl (dA 0, 12, .inl bt)), (h13, .inl (dA 0, 12, .inl be))] (va_A [(h0, .inr (9, [.ref h1, .ref h21, .int xi, .ref h41, .ref h43, .ref h46, .ref h49, .int xe, .int xf])), (h1, .inr (6, [.int on, .int ot, .int op, .int os, .ref h2, .ref h6, .ref h9, .ref h14, .ref h17])), (h9, .inr (0, [.int bc, .ref h10, .ref h11, .ref h12, .ref h13])), (h10, .inl (dA 0, 12, .inl bg)), (h11, .inl (dA 0, 12, .inl bs)), (h12, .inl (dA 0, 12, .inl bt)), (h13, .inl (dA 0, 12, .inl be))] sz)) 1 6 (va_A [(h0, .inr (9, [.ref h1, .ref h21, .int xi, .ref h41, .ref h43, .ref h46, .ref h49, .int xe, .int xf])), (h1, .inr (6, [.int on, .int ot, .int op, .int os, .ref h2, .ref h6, .ref h9, .ref h14, .ref h17])), (h9, .inr (0, [.int bc, .ref h10, .ref h11, .ref h12, .ref h13])), (h10, .inl (dA 0, 12, .inl bg)), (h11, .inl (dA 0, 12, .inl bs)), (h12, .inl (dA 0, 12, .inl bt)), (h13, .inl (dA 0, 12, .inl be))] sz) := by
  refine of_Z (y := yX11_checkBooking) (cc := cX11_checkBooking) (maxL := 2) (ret := none) (av := [.ref h0, .int p0]) (ws := [(h0, .inr (9, [.ref h1, .ref h21, .int xi, .ref h41, .ref h43, .ref h46, .ref h49, .int xe, .int xf])), (h1, .inr (6, [.int on, .int ot, .int op, .int os, .ref h2, .ref h6, .ref h9, .ref h14, .ref h17])), (h9, .inr (0, [.int bc, .ref h10, .ref h11, .ref h12, .ref h13])), (h10, .inl (dA 0, 12, .inl bg)), (h11, .inl (dA 0, 12, .inl bs)), (h12, .inl (dA 0, 12, .inl bt)), (h13, .inl (dA 0, 12, .inl be))]) (sz := sz) (own := RX11) (XC := fun A => xcQ D (exs rx) [(h0, .inr (9, [.ref h1, .ref h21, .int xi, .ref h41, .ref h43, .ref h46, .ref h49, .int xe, .int xf])), (h1, .inr (6, [.int on, .int ot, .int op, .int os, .ref h2, .ref h6, .ref h9, .ref h14, .ref h17])), (h9, .inr (0, [.int bc, .ref h10, .ref h11, .ref h12, .ref h13])), (h10, .inl (dA 0, 12, .inl bg)), (h11, .inl (dA 0, 12, .inl bs)), (h12, .inl (dA 0, 12, .inl bt)), (h13, .inl (dA 0, 12, .inl be))] A) (by decide) rfl (Nat.le_of_ble_eq_true rfl) ?_
  intro p e s m below meth c A hx hb hr ha hown hml hlocks hin hno hP hK hD hX hS hA ls hl
  have hC := hX.1
  have hl : lv_has ls 2 [(0, .ref h0), (1, .int p0)] := hl
  rw [f_TX11_checkBooking] at hf
  refine lv_aload_n hx hb dX11_checkBooking_0 rfl (lv_at hl 0 rfl) ?_
  refine gt_f (C := RX11) (T := TX11) (N := 9) hx hb ha in_X11 hown hK hP 0 rfl rfl 0 (by decide) m_332 rfl dX11_checkBooking_1 ?_
  refine gt_f (C := RX8) (T := TX8) (N := 9) hx hb ha in_X8 hown hK hP 1 rfl rfl 6 (by decide) m_219 rfl dX11_checkBooking_4 ?_
  refine lv_iload_n hx hb dX11_checkBooking_7 rfl (lv_at hl 1 rfl) ?_
  obtain ⟨r_1, hc1, hf⟩ := sf_c1e hf
  refine k_Pi (run_PV (As := [.int p0]) (rest := []) ⟨hx, hb, hml, hown, ha⟩ (c_X1_has l D dA h9 h10 h11 h12 h13   bc bg bs bt be p0 _ hc1) (gi_V m_756 m_757 m_758 m_35 m_759) yd_X1_has ⟨Nat.le_of_ble_eq_true rfl, Nat.le_of_ble_eq_true rfl⟩ ⟨rfl, rfl⟩ hK hP [2, 3, 4, 5, 6] rfl 2 0 rfl rfl rfl rfl hl.1 rfl (Nat.le_of_ble_eq_true rfl) dX11_checkBooking_8 ⟨Nat.le_of_ble_eq_true rfl, Nat.le_of_ble_eq_true rfl⟩) hP hS (fun H locs hP hS => ?_)
  refine lv_if_ne (tgt := 25) hx hb dX11_checkBooking_11 (by decide) (fun hc => ?_) (fun hc => ?_)
  · have hf := sf_bn hf hc
    cases hf
  · have hf := sf_bp hf hc
    cases hf
    exact th_SW (E := exs 0) (text := "there is no such booking") (sa := cA 37) hx hb hst hown ha hX hS (hP.sub [0, 1, 2, 3, 4, 5, 6] rfl) (hD.sub [0, 1, 2, 3, 4, 5, 6] (by decide) rfl) hlocks hno (hl.1.trans hml.symm) m_423 m_49 (hC.2.2.1 (RX11, 392, "there is no such booking", 37) (List.mem_of_getElem? (i := 14) rfl)) exg_352 exb_352 exo_352 exf_352 dX11_checkBooking_14 dX11_checkBooking_17 dX11_checkBooking_18 dX11_checkBooking_21 dX11_checkBooking_24 ⟨by decide, by decide, by decide, by decide⟩ ⟨by decide, by decide⟩

def f_X11_bookedGuest (bc : Int32) (bg : Nat → Int32) (p0 : Int32) : Option Int32 :=
  sf_c0 (f_X11_checkBooking bc p0) (fun _ => sf_g (sf_in p0 12 = true) (some (bg p0.toNatClampNeg)))
theorem yd_X11_bookedGuest : yX11_bookedGuest.cls = RX11 ∧ yX11_bookedGuest.cls ≠ "java/lang/invoke/MethodHandle" ∧ yX11_bookedGuest.cls ≠ "java/lang/invoke/VarHandle" ∧ (parseMethodDescriptor yX11_bookedGuest.desc).map (fun d => d.parameters.length) = some 1 := ⟨rfl, by decide, by decide, by decide +kernel⟩
set_option maxRecDepth 100000 in
set_option maxHeartbeats 4000000 in
theorem c_X11_bookedGuest (l : Launch) (D : va_G) (dA : Nat → ClassId) (cA : Nat → Nat) (h0 h1 h2 h6 h9 h10 h11 h12 h13 h14 h17 h21 h41 h43 h46 h49 : Nat) (on : Int32) (ot : Int32) (op : Int32) (os : Int32) (bc : Int32) (bg : Nat → Int32) (bs : Nat → Int32) (bt : Nat → Int32) (be : Nat → Int32) (xi : Int32) (xe : Int32) (xf : Int32) (p0 : Int32) (rr : Int32) (hf : f_X11_bookedGuest bc bg p0 = some rr) : Met l yX11_bookedGuest (wo (.code yX11_bookedGuest cX11_bookedGuest 2 (some .int))) ({ frames := 2, cells := 0, slots := 0, locals := 42 } : Room) (preY D dA cA [.ref h0, .int p0] [(h0, .inr (9, [.ref h1, .ref h21, .int xi, .ref h41, .ref h43, .ref h46, .ref h49, .int xe, .int xf])), (h1, .inr (6, [.int on, .int ot, .int op, .int os, .ref h2, .ref h6, .ref h9, .ref h14, .ref h17])), (h9, .inr (0, [.int bc, .ref h10, .ref h11, .ref h12, .ref h13])), (h10, .inl (dA 0, 12, .inl bg)), (h11, .inl (dA 0, 12, .inl bs)), (h12, .inl (dA 0, 12, .inl bt)), (h13, .inl (dA 0, 12, .inl be))]) (poPi rr) 0 0 noA := by
  refine of_Y (y := yX11_bookedGuest) (cc := cX11_bookedGuest) (maxL := 2) (ret := (some .int)) (av := [.ref h0, .int p0]) (ws := [(h0, .inr (9, [.ref h1, .ref h21, .int xi, .ref h41, .ref h43, .ref h46, .ref h49, .int xe, .int xf])), (h1, .inr (6, [.int on, .int ot, .int op, .int os, .ref h2, .ref h6, .ref h9, .ref h14, .ref h17])), (h9, .inr (0, [.int bc, .ref h10, .ref h11, .ref h12, .ref h13])), (h10, .inl (dA 0, 12, .inl bg)), (h11, .inl (dA 0, 12, .inl bs)), (h12, .inl (dA 0, 12, .inl bt)), (h13, .inl (dA 0, 12, .inl be))]) (own := RX11) (by decide) rfl (Nat.le_of_ble_eq_true rfl) ?_
  intro p e s m below meth c hx hb hr ha hown hml hlocks hP hK hX hS ls hl
  have hC := hX.1
  have hl : lv_has ls 2 [(0, .ref h0), (1, .int p0)] := hl
  rw [f_X11_bookedGuest] at hf
  refine lv_aload_n hx hb dX11_bookedGuest_0 rfl (lv_at hl 0 rfl) ?_
  refine lv_iload_n hx hb dX11_bookedGuest_1 rfl (lv_at hl 1 rfl) ?_
  obtain ⟨hc0, hf⟩ := sf_c0e hf
  refine k_Pv (run_YV (As := [.int p0]) (rest := []) ⟨hx, hb, hml, hown, ha⟩ (c_X11_checkBooking l D dA cA h0 h1 h2 h6 h9 h10 h11 h12 h13 h14 h17 h21 h41 h43 h46 h49   on ot op os bc bg bs bt be xi xe xf p0  hc0) (gi_V m_752 m_754 m_11 m_31 m_755) yd_X11_checkBooking ⟨Nat.le_of_ble_eq_true rfl, Nat.le_of_ble_eq_true rfl⟩ ⟨rfl, rfl⟩ hK hX hS hP [0, 1, 2, 3, 4, 5, 6] rfl (va_recv hK hP (q0 := 0) rfl rfl) rfl hl.1 rfl (Nat.le_of_ble_eq_true rfl) dX11_bookedGuest_2 ⟨Nat.le_of_ble_eq_true rfl, Nat.le_of_ble_eq_true rfl⟩) hP hS (fun H locs hP hS => ?_)
  refine lv_aload_n hx hb dX11_bookedGuest_5 rfl (lv_at hl 0 rfl) ?_
  refine gt_f (C := RX11) (T := TX11) (N := 9) hx hb ha in_X11 hown hK hP 0 rfl rfl 0 (by decide) m_332 rfl dX11_bookedGuest_6 ?_
  refine gt_f (C := RX8) (T := TX8) (N := 9) hx hb ha in_X8 hown hK hP 1 rfl rfl 6 (by decide) m_219 rfl dX11_bookedGuest_9 ?_
  refine gt_f (C := RX1) (T := TX1) (N := 5) hx hb ha in_X1 hown hK hP 2 rfl rfl 1 (by decide) m_146 rfl dX11_bookedGuest_12 ?_
  refine lv_iload_n hx hb dX11_bookedGuest_15 rfl (lv_at hl 1 rfl) ?_
  obtain ⟨hi, hf⟩ := sf_ge hf
  refine ia_ld hx hb hK hP 3 rfl hi dX11_bookedGuest_16 ?_
  exact rt_Pi hx hb hr hlocks (Option.some.inj hf) hS dX11_bookedGuest_17

def f_TX11_bookedGuest (bc : Int32) (p0 : Int32) : Option Nat :=
  sf_t1 (f_TX11_checkBooking bc p0) (fun k_1 => some k_1) (sf_c0 (f_X11_checkBooking bc p0) (fun _ => sf_g (sf_in p0 12 = true) (none)))
theorem yd_TX11_bookedGuest : yX11_bookedGuest.cls = RX11 ∧ yX11_bookedGuest.cls ≠ "java/lang/invoke/MethodHandle" ∧ yX11_bookedGuest.cls ≠ "java/lang/invoke/VarHandle" ∧ (parseMethodDescriptor yX11_bookedGuest.desc).map (fun d => d.parameters.length) = some 1 := ⟨rfl, by decide, by decide, by decide +kernel⟩
set_option maxRecDepth 100000 in
set_option maxHeartbeats 4000000 in
theorem c_TX11_bookedGuest (l : Launch) (D : va_G) (dA : Nat → ClassId) (cA : Nat → Nat) (hst : l.stackTraces = false) (h0 h1 h2 h6 h9 h10 h11 h12 h13 h14 h17 h21 h41 h43 h46 h49 : Nat) (sz : Nat) (on : Int32) (ot : Int32) (op : Int32) (os : Int32) (bc : Int32) (bg : Nat → Int32) (bs : Nat → Int32) (bt : Nat → Int32) (be : Nat → Int32) (xi : Int32) (xe : Int32) (xf : Int32) (p0 : Int32) (rx : Nat) (hf : f_TX11_bookedGuest bc p0 = some rx) : vx_Met l yX11_bookedGuest (wo (.code yX11_bookedGuest cX11_bookedGuest 2 (some .int))) ({ frames := 7, cells := 1, slots := 6, locals := 121 } : Room) (preX D dA cA [.ref h0, .int p0] sz [(h0, .inr (9, [.ref h1, .ref h21, .int xi, .ref h41, .ref h43, .ref h46, .ref h49, .int xe, .int xf])), (h1, .inr (6, [.int on, .int ot, .int op, .int os, .ref h2, .ref h6, .ref h9, .ref h14, .ref h17])), (h9, .inr (0, [.int bc, .ref h10, .ref h11, .ref h12, .ref h13])), (h10, .inl (dA 0, 12, .inl bg)), (h11, .inl (dA 0, 12, .inl bs)), (h12, .inl (dA 0, 12, .inl bt)), (h13, .inl (dA 0, 12, .inl be))]) noQ (xcQ D (exs rx) [(h0, .inr (9, [.ref h1, .ref h21, .int xi, .ref h41, .ref h43, .ref h46, .ref h49, .int xe, .int xf])), (h1, .inr (6, [.int on, .int ot, .int op, .int os, .ref h2, .ref h6, .ref h9, .ref h14, .ref h17])), (h9, .inr (0, [.int bc, .ref h10, .ref h11, .ref h12, .ref h13])), (h10, .inl (dA 0, 12, .inl bg)), (h11, .inl (dA 0, 12, .inl bs)), (h12, .inl (dA 0, 12, .inl bt)), (h13, .inl (dA 0, 12, .inl be))] (va_A [(h0, .inr (9, [.ref h1, .ref h21, .int xi, .ref h41, .ref h43, .ref h46, .ref h49, .int xe, .int xf])), (h1, .inr (6, [.int on, .int ot, .int op, .int os, .ref h2, .ref h6, .ref h9, .ref h14, .ref h17])), (h9, .inr (0, [.int bc, .ref h10, .ref h11, .ref h12, .ref h13])), (h10, .inl (dA 0, 12, .inl bg)), (h11, .inl (dA 0, 12, .inl bs)), (h12, .inl (dA 0, 12, .inl bt)), (h13, .inl (dA 0, 12, .inl be))] sz)) 1 6 (va_A [(h0, .inr (9, [.ref h1, .ref h21, .int xi, .ref h41, .ref h43, .ref h46, .ref h49, .int xe, .int xf])), (h1, .inr (6, [.int on, .int ot, .int op, .int os, .ref h2, .ref h6, .ref h9, .ref h14, .ref h17])), (h9, .inr (0, [.int bc, .ref h10, .ref h11, .ref h12, .ref h13])), (h10, .inl (dA 0, 12, .inl bg)), (h11, .inl (dA 0, 12, .inl bs)), (h12, .inl (dA 0, 12, .inl bt)), (h13, .inl (dA 0, 12, .inl be))] sz) := by
  refine of_Z (y := yX11_bookedGuest) (cc := cX11_bookedGuest) (maxL := 2) (ret := (some .int)) (av := [.ref h0, .int p0]) (ws := [(h0, .inr (9, [.ref h1, .ref h21, .int xi, .ref h41, .ref h43, .ref h46, .ref h49, .int xe, .int xf])), (h1, .inr (6, [.int on, .int ot, .int op, .int os, .ref h2, .ref h6, .ref h9, .ref h14, .ref h17])), (h9, .inr (0, [.int bc, .ref h10, .ref h11, .ref h12, .ref h13])), (h10, .inl (dA 0, 12, .inl bg)), (h11, .inl (dA 0, 12, .inl bs)), (h12, .inl (dA 0, 12, .inl bt)), (h13, .inl (dA 0, 12, .inl be))]) (sz := sz) (own := RX11) (XC := fun A => xcQ D (exs rx) [(h0, .inr (9, [.ref h1, .ref h21, .int xi, .ref h41, .ref h43, .ref h46, .ref h49, .int xe, .int xf])), (h1, .inr (6, [.int on, .int ot, .int op, .int os, .ref h2, .ref h6, .ref h9, .ref h14, .ref h17])), (h9, .inr (0, [.int bc, .ref h10, .ref h11, .ref h12, .ref h13])), (h10, .inl (dA 0, 12, .inl bg)), (h11, .inl (dA 0, 12, .inl bs)), (h12, .inl (dA 0, 12, .inl bt)), (h13, .inl (dA 0, 12, .inl be))] A) (by decide) rfl (Nat.le_of_ble_eq_true rfl) ?_
  intro p e s m below meth c A hx hb hr ha hown hml hlocks hin hno hP hK hD hX hS hA ls hl
  have hC := hX.1
  have hl : lv_has ls 2 [(0, .ref h0), (1, .int p0)] := hl
  rw [f_TX11_bookedGuest] at hf
  refine lv_aload_n hx hb dX11_bookedGuest_0 rfl (lv_at hl 0 rfl) ?_
  refine lv_iload_n hx hb dX11_bookedGuest_1 rfl (lv_at hl 1 rfl) ?_
  rcases sf_t1e hf with ⟨hnt, hf⟩ | ⟨k_1, hc1, hf⟩
  · skip
    obtain ⟨hc1, hf⟩ := sf_c0e hf
    refine k_Pv (run_YV (As := [.int p0]) (rest := []) ⟨hx, hb, hml, hown, ha⟩ (c_X11_checkBooking l D dA cA h0 h1 h2 h6 h9 h10 h11 h12 h13 h14 h17 h21 h41 h43 h46 h49   on ot op os bc bg bs bt be xi xe xf p0  hc1) (gi_V m_752 m_754 m_11 m_31 m_755) yd_X11_checkBooking ⟨Nat.le_of_ble_eq_true rfl, Nat.le_of_ble_eq_true rfl⟩ ⟨rfl, rfl⟩ hK hX hS hP [0, 1, 2, 3, 4, 5, 6] rfl (va_recv hK hP (q0 := 0) rfl rfl) rfl hl.1 rfl (Nat.le_of_ble_eq_true rfl) dX11_bookedGuest_2 ⟨Nat.le_of_ble_eq_true rfl, Nat.le_of_ble_eq_true rfl⟩) hP hS (fun H locs hP hS => ?_)
    refine lv_aload_n hx hb dX11_bookedGuest_5 rfl (lv_at hl 0 rfl) ?_
    refine gt_f (C := RX11) (T := TX11) (N := 9) hx hb ha in_X11 hown hK hP 0 rfl rfl 0 (by decide) m_332 rfl dX11_bookedGuest_6 ?_
    refine gt_f (C := RX8) (T := TX8) (N := 9) hx hb ha in_X8 hown hK hP 1 rfl rfl 6 (by decide) m_219 rfl dX11_bookedGuest_9 ?_
    refine gt_f (C := RX1) (T := TX1) (N := 5) hx hb ha in_X1 hown hK hP 2 rfl rfl 1 (by decide) m_146 rfl dX11_bookedGuest_12 ?_
    refine lv_iload_n hx hb dX11_bookedGuest_15 rfl (lv_at hl 1 rfl) ?_
    obtain ⟨hi, hf⟩ := sf_ge hf
    refine ia_ld hx hb hK hP 3 rfl hi dX11_bookedGuest_16 ?_
    cases hf
  · skip
    refine k_Z (wr := []) (run_ZV (As := [.int p0]) (rest := []) ⟨hx, hb, hml, hown, ha⟩ (c_TX11_checkBooking l D dA cA hst h0 h1 h2 h6 h9 h10 h11 h12 h13 h14 h17 h21 h41 h43 h46 h49  _ on ot op os bc bg bs bt be xi xe xf p0 _ hc1) (gi_V m_752 m_754 m_11 m_31 m_755) yd_TX11_checkBooking ⟨Nat.le_of_ble_eq_true rfl, Nat.le_of_ble_eq_true rfl⟩ ⟨rfl, rfl⟩ hK hX hS hA hP hD [0, 1, 2, 3, 4, 5, 6] (by decide) rfl (va_recv hK hP (q0 := 0) rfl rfl) rfl hl.1 rfl (Nat.le_of_ble_eq_true rfl) dX11_bookedGuest_2 ⟨Nat.le_of_ble_eq_true rfl, Nat.le_of_ble_eq_true rfl⟩) hP hD hS hA [0, 1, 2, 3, 4, 5, 6] [] rfl rfl (by decide) (by decide) (fun q9 H locs hP hD hS ht9 => ?_)
    cases hf
    exact px_o hno hlocks ht9 (hP.sub [0, 1, 2, 3, 4, 5, 6] rfl) (hD.sub [0, 1, 2, 3, 4, 5, 6] (by decide) rfl) hS (by decide) (by decide)

def f_X11_bookedSlide (bc : Int32) (bs : Nat → Int32) (p0 : Int32) : Option Int32 :=
  sf_c0 (f_X11_checkBooking bc p0) (fun _ => sf_g (sf_in p0 12 = true) (some (bs p0.toNatClampNeg)))
theorem yd_X11_bookedSlide : yX11_bookedSlide.cls = RX11 ∧ yX11_bookedSlide.cls ≠ "java/lang/invoke/MethodHandle" ∧ yX11_bookedSlide.cls ≠ "java/lang/invoke/VarHandle" ∧ (parseMethodDescriptor yX11_bookedSlide.desc).map (fun d => d.parameters.length) = some 1 := ⟨rfl, by decide, by decide, by decide +kernel⟩
set_option maxRecDepth 100000 in
set_option maxHeartbeats 4000000 in
theorem c_X11_bookedSlide (l : Launch) (D : va_G) (dA : Nat → ClassId) (cA : Nat → Nat) (h0 h1 h2 h6 h9 h10 h11 h12 h13 h14 h17 h21 h41 h43 h46 h49 : Nat) (on : Int32) (ot : Int32) (op : Int32) (os : Int32) (bc : Int32) (bg : Nat → Int32) (bs : Nat → Int32) (bt : Nat → Int32) (be : Nat → Int32) (xi : Int32) (xe : Int32) (xf : Int32) (p0 : Int32) (rr : Int32) (hf : f_X11_bookedSlide bc bs p0 = some rr) : Met l yX11_bookedSlide (wo (.code yX11_bookedSlide cX11_bookedSlide 2 (some .int))) ({ frames := 2, cells := 0, slots := 0, locals := 42 } : Room) (preY D dA cA [.ref h0, .int p0] [(h0, .inr (9, [.ref h1, .ref h21, .int xi, .ref h41, .ref h43, .ref h46, .ref h49, .int xe, .int xf])), (h1, .inr (6, [.int on, .int ot, .int op, .int os, .ref h2, .ref h6, .ref h9, .ref h14, .ref h17])), (h9, .inr (0, [.int bc, .ref h10, .ref h11, .ref h12, .ref h13])), (h10, .inl (dA 0, 12, .inl bg)), (h11, .inl (dA 0, 12, .inl bs)), (h12, .inl (dA 0, 12, .inl bt)), (h13, .inl (dA 0, 12, .inl be))]) (poPi rr) 0 0 noA := by
  refine of_Y (y := yX11_bookedSlide) (cc := cX11_bookedSlide) (maxL := 2) (ret := (some .int)) (av := [.ref h0, .int p0]) (ws := [(h0, .inr (9, [.ref h1, .ref h21, .int xi, .ref h41, .ref h43, .ref h46, .ref h49, .int xe, .int xf])), (h1, .inr (6, [.int on, .int ot, .int op, .int os, .ref h2, .ref h6, .ref h9, .ref h14, .ref h17])), (h9, .inr (0, [.int bc, .ref h10, .ref h11, .ref h12, .ref h13])), (h10, .inl (dA 0, 12, .inl bg)), (h11, .inl (dA 0, 12, .inl bs)), (h12, .inl (dA 0, 12, .inl bt)), (h13, .inl (dA 0, 12, .inl be))]) (own := RX11) (by decide) rfl (Nat.le_of_ble_eq_true rfl) ?_
  intro p e s m below meth c hx hb hr ha hown hml hlocks hP hK hX hS ls hl
  have hC := hX.1
  have hl : lv_has ls 2 [(0, .ref h0), (1, .int p0)] := hl
  rw [f_X11_bookedSlide] at hf
  refine lv_aload_n hx hb dX11_bookedSlide_0 rfl (lv_at hl 0 rfl) ?_
  refine lv_iload_n hx hb dX11_bookedSlide_1 rfl (lv_at hl 1 rfl) ?_
  obtain ⟨hc0, hf⟩ := sf_c0e hf
  refine k_Pv (run_YV (As := [.int p0]) (rest := []) ⟨hx, hb, hml, hown, ha⟩ (c_X11_checkBooking l D dA cA h0 h1 h2 h6 h9 h10 h11 h12 h13 h14 h17 h21 h41 h43 h46 h49   on ot op os bc bg bs bt be xi xe xf p0  hc0) (gi_V m_752 m_754 m_11 m_31 m_755) yd_X11_checkBooking ⟨Nat.le_of_ble_eq_true rfl, Nat.le_of_ble_eq_true rfl⟩ ⟨rfl, rfl⟩ hK hX hS hP [0, 1, 2, 3, 4, 5, 6] rfl (va_recv hK hP (q0 := 0) rfl rfl) rfl hl.1 rfl (Nat.le_of_ble_eq_true rfl) dX11_bookedSlide_2 ⟨Nat.le_of_ble_eq_true rfl, Nat.le_of_ble_eq_true rfl⟩) hP hS (fun H locs hP hS => ?_)
  refine lv_aload_n hx hb dX11_bookedSlide_5 rfl (lv_at hl 0 rfl) ?_
  refine gt_f (C := RX11) (T := TX11) (N := 9) hx hb ha in_X11 hown hK hP 0 rfl rfl 0 (by decide) m_332 rfl dX11_bookedSlide_6 ?_
  refine gt_f (C := RX8) (T := TX8) (N := 9) hx hb ha in_X8 hown hK hP 1 rfl rfl 6 (by decide) m_219 rfl dX11_bookedSlide_9 ?_
  refine gt_f (C := RX1) (T := TX1) (N := 5) hx hb ha in_X1 hown hK hP 2 rfl rfl 2 (by decide) m_149 rfl dX11_bookedSlide_12 ?_
  refine lv_iload_n hx hb dX11_bookedSlide_15 rfl (lv_at hl 1 rfl) ?_
  obtain ⟨hi, hf⟩ := sf_ge hf
  refine ia_ld hx hb hK hP 4 rfl hi dX11_bookedSlide_16 ?_
  exact rt_Pi hx hb hr hlocks (Option.some.inj hf) hS dX11_bookedSlide_17

def f_TX11_bookedSlide (bc : Int32) (p0 : Int32) : Option Nat :=
  sf_t1 (f_TX11_checkBooking bc p0) (fun k_1 => some k_1) (sf_c0 (f_X11_checkBooking bc p0) (fun _ => sf_g (sf_in p0 12 = true) (none)))
theorem yd_TX11_bookedSlide : yX11_bookedSlide.cls = RX11 ∧ yX11_bookedSlide.cls ≠ "java/lang/invoke/MethodHandle" ∧ yX11_bookedSlide.cls ≠ "java/lang/invoke/VarHandle" ∧ (parseMethodDescriptor yX11_bookedSlide.desc).map (fun d => d.parameters.length) = some 1 := ⟨rfl, by decide, by decide, by decide +kernel⟩
set_option maxRecDepth 100000 in
set_option maxHeartbeats 4000000 in
theorem c_TX11_bookedSlide (l : Launch) (D : va_G) (dA : Nat → ClassId) (cA : Nat → Nat) (hst : l.stackTraces = false) (h0 h1 h2 h6 h9 h10 h11 h12 h13 h14 h17 h21 h41 h43 h46 h49 : Nat) (sz : Nat) (on : Int32) (ot : Int32) (op : Int32) (os : Int32) (bc : Int32) (bg : Nat → Int32) (bs : Nat → Int32) (bt : Nat → Int32) (be : Nat → Int32) (xi : Int32) (xe : Int32) (xf : Int32) (p0 : Int32) (rx : Nat) (hf : f_TX11_bookedSlide bc p0 = some rx) : vx_Met l yX11_bookedSlide (wo (.code yX11_bookedSlide cX11_bookedSlide 2 (some .int))) ({ frames := 7, cells := 1, slots := 6, locals := 121 } : Room) (preX D dA cA [.ref h0, .int p0] sz [(h0, .inr (9, [.ref h1, .ref h21, .int xi, .ref h41, .ref h43, .ref h46, .ref h49, .int xe, .int xf])), (h1, .inr (6, [.int on, .int ot, .int op, .int os, .ref h2, .ref h6, .ref h9, .ref h14, .ref h17])), (h9, .inr (0, [.int bc, .ref h10, .ref h11, .ref h12, .ref h13])), (h10, .inl (dA 0, 12, .inl bg)), (h11, .inl (dA 0, 12, .inl bs)), (h12, .inl (dA 0, 12, .inl bt)), (h13, .inl (dA 0, 12, .inl be))]) noQ (xcQ D (exs rx) [(h0, .inr (9, [.ref h1, .ref h21, .int xi, .ref h41, .ref h43, .ref h46, .ref h49, .int xe, .int xf])), (h1, .inr (6, [.int on, .int ot, .int op, .int os, .ref h2, .ref h6, .ref h9, .ref h14, .ref h17])), (h9, .inr (0, [.int bc, .ref h10, .ref h11, .ref h12, .ref h13])), (h10, .inl (dA 0, 12, .inl bg)), (h11, .inl (dA 0, 12, .inl bs)), (h12, .inl (dA 0, 12, .inl bt)), (h13, .inl (dA 0, 12, .inl be))] (va_A [(h0, .inr (9, [.ref h1, .ref h21, .int xi, .ref h41, .ref h43, .ref h46, .ref h49, .int xe, .int xf])), (h1, .inr (6, [.int on, .int ot, .int op, .int os, .ref h2, .ref h6, .ref h9, .ref h14, .ref h17])), (h9, .inr (0, [.int bc, .ref h10, .ref h11, .ref h12, .ref h13])), (h10, .inl (dA 0, 12, .inl bg)), (h11, .inl (dA 0, 12, .inl bs)), (h12, .inl (dA 0, 12, .inl bt)), (h13, .inl (dA 0, 12, .inl be))] sz)) 1 6 (va_A [(h0, .inr (9, [.ref h1, .ref h21, .int xi, .ref h41, .ref h43, .ref h46, .ref h49, .int xe, .int xf])), (h1, .inr (6, [.int on, .int ot, .int op, .int os, .ref h2, .ref h6, .ref h9, .ref h14, .ref h17])), (h9, .inr (0, [.int bc, .ref h10, .ref h11, .ref h12, .ref h13])), (h10, .inl (dA 0, 12, .inl bg)), (h11, .inl (dA 0, 12, .inl bs)), (h12, .inl (dA 0, 12, .inl bt)), (h13, .inl (dA 0, 12, .inl be))] sz) := by
  refine of_Z (y := yX11_bookedSlide) (cc := cX11_bookedSlide) (maxL := 2) (ret := (some .int)) (av := [.ref h0, .int p0]) (ws := [(h0, .inr (9, [.ref h1, .ref h21, .int xi, .ref h41, .ref h43, .ref h46, .ref h49, .int xe, .int xf])), (h1, .inr (6, [.int on, .int ot, .int op, .int os, .ref h2, .ref h6, .ref h9, .ref h14, .ref h17])), (h9, .inr (0, [.int bc, .ref h10, .ref h11, .ref h12, .ref h13])), (h10, .inl (dA 0, 12, .inl bg)), (h11, .inl (dA 0, 12, .inl bs)), (h12, .inl (dA 0, 12, .inl bt)), (h13, .inl (dA 0, 12, .inl be))]) (sz := sz) (own := RX11) (XC := fun A => xcQ D (exs rx) [(h0, .inr (9, [.ref h1, .ref h21, .int xi, .ref h41, .ref h43, .ref h46, .ref h49, .int xe, .int xf])), (h1, .inr (6, [.int on, .int ot, .int op, .int os, .ref h2, .ref h6, .ref h9, .ref h14, .ref h17])), (h9, .inr (0, [.int bc, .ref h10, .ref h11, .ref h12, .ref h13])), (h10, .inl (dA 0, 12, .inl bg)), (h11, .inl (dA 0, 12, .inl bs)), (h12, .inl (dA 0, 12, .inl bt)), (h13, .inl (dA 0, 12, .inl be))] A) (by decide) rfl (Nat.le_of_ble_eq_true rfl) ?_
  intro p e s m below meth c A hx hb hr ha hown hml hlocks hin hno hP hK hD hX hS hA ls hl
  have hC := hX.1
  have hl : lv_has ls 2 [(0, .ref h0), (1, .int p0)] := hl
  rw [f_TX11_bookedSlide] at hf
  refine lv_aload_n hx hb dX11_bookedSlide_0 rfl (lv_at hl 0 rfl) ?_
  refine lv_iload_n hx hb dX11_bookedSlide_1 rfl (lv_at hl 1 rfl) ?_
  rcases sf_t1e hf with ⟨hnt, hf⟩ | ⟨k_1, hc1, hf⟩
  · skip
    obtain ⟨hc1, hf⟩ := sf_c0e hf
    refine k_Pv (run_YV (As := [.int p0]) (rest := []) ⟨hx, hb, hml, hown, ha⟩ (c_X11_checkBooking l D dA cA h0 h1 h2 h6 h9 h10 h11 h12 h13 h14 h17 h21 h41 h43 h46 h49   on ot op os bc bg bs bt be xi xe xf p0  hc1) (gi_V m_752 m_754 m_11 m_31 m_755) yd_X11_checkBooking ⟨Nat.le_of_ble_eq_true rfl, Nat.le_of_ble_eq_true rfl⟩ ⟨rfl, rfl⟩ hK hX hS hP [0, 1, 2, 3, 4, 5, 6] rfl (va_recv hK hP (q0 := 0) rfl rfl) rfl hl.1 rfl (Nat.le_of_ble_eq_true rfl) dX11_bookedSlide_2 ⟨Nat.le_of_ble_eq_true rfl, Nat.le_of_ble_eq_true rfl⟩) hP hS (fun H locs hP hS => ?_)
    refine lv_aload_n hx hb dX11_bookedSlide_5 rfl (lv_at hl 0 rfl) ?_
    refine gt_f (C := RX11) (T := TX11) (N := 9) hx hb ha in_X11 hown hK hP 0 rfl rfl 0 (by decide) m_332 rfl dX11_bookedSlide_6 ?_
    refine gt_f (C := RX8) (T := TX8) (N := 9) hx hb ha in_X8 hown hK hP 1 rfl rfl 6 (by decide) m_219 rfl dX11_bookedSlide_9 ?_
    refine gt_f (C := RX1) (T := TX1) (N := 5) hx hb ha in_X1 hown hK hP 2 rfl rfl 2 (by decide) m_149 rfl dX11_bookedSlide_12 ?_
    refine lv_iload_n hx hb dX11_bookedSlide_15 rfl (lv_at hl 1 rfl) ?_
    obtain ⟨hi, hf⟩ := sf_ge hf
    refine ia_ld hx hb hK hP 4 rfl hi dX11_bookedSlide_16 ?_
    cases hf
  · skip
    refine k_Z (wr := []) (run_ZV (As := [.int p0]) (rest := []) ⟨hx, hb, hml, hown, ha⟩ (c_TX11_checkBooking l D dA cA hst h0 h1 h2 h6 h9 h10 h11 h12 h13 h14 h17 h21 h41 h43 h46 h49  _ on ot op os bc bg bs bt be xi xe xf p0 _ hc1) (gi_V m_752 m_754 m_11 m_31 m_755) yd_TX11_checkBooking ⟨Nat.le_of_ble_eq_true rfl, Nat.le_of_ble_eq_true rfl⟩ ⟨rfl, rfl⟩ hK hX hS hA hP hD [0, 1, 2, 3, 4, 5, 6] (by decide) rfl (va_recv hK hP (q0 := 0) rfl rfl) rfl hl.1 rfl (Nat.le_of_ble_eq_true rfl) dX11_bookedSlide_2 ⟨Nat.le_of_ble_eq_true rfl, Nat.le_of_ble_eq_true rfl⟩) hP hD hS hA [0, 1, 2, 3, 4, 5, 6] [] rfl rfl (by decide) (by decide) (fun q9 H locs hP hD hS ht9 => ?_)
    cases hf
    exact px_o hno hlocks ht9 (hP.sub [0, 1, 2, 3, 4, 5, 6] rfl) (hD.sub [0, 1, 2, 3, 4, 5, 6] (by decide) rfl) hS (by decide) (by decide)

def f_X11_start (bc : Int32) (bt : Nat → Int32) (p0 : Int32) : Option Int32 :=
  sf_c0 (f_X11_checkBooking bc p0) (fun _ => sf_g (sf_in p0 12 = true) (some (bt p0.toNatClampNeg)))
theorem yd_X11_start : yX11_start.cls = RX11 ∧ yX11_start.cls ≠ "java/lang/invoke/MethodHandle" ∧ yX11_start.cls ≠ "java/lang/invoke/VarHandle" ∧ (parseMethodDescriptor yX11_start.desc).map (fun d => d.parameters.length) = some 1 := ⟨rfl, by decide, by decide, by decide +kernel⟩
set_option maxRecDepth 100000 in
set_option maxHeartbeats 4000000 in
theorem c_X11_start (l : Launch) (D : va_G) (dA : Nat → ClassId) (cA : Nat → Nat) (h0 h1 h2 h6 h9 h10 h11 h12 h13 h14 h17 h21 h41 h43 h46 h49 : Nat) (on : Int32) (ot : Int32) (op : Int32) (os : Int32) (bc : Int32) (bg : Nat → Int32) (bs : Nat → Int32) (bt : Nat → Int32) (be : Nat → Int32) (xi : Int32) (xe : Int32) (xf : Int32) (p0 : Int32) (rr : Int32) (hf : f_X11_start bc bt p0 = some rr) : Met l yX11_start (wo (.code yX11_start cX11_start 2 (some .int))) ({ frames := 2, cells := 0, slots := 0, locals := 42 } : Room) (preY D dA cA [.ref h0, .int p0] [(h0, .inr (9, [.ref h1, .ref h21, .int xi, .ref h41, .ref h43, .ref h46, .ref h49, .int xe, .int xf])), (h1, .inr (6, [.int on, .int ot, .int op, .int os, .ref h2, .ref h6, .ref h9, .ref h14, .ref h17])), (h9, .inr (0, [.int bc, .ref h10, .ref h11, .ref h12, .ref h13])), (h10, .inl (dA 0, 12, .inl bg)), (h11, .inl (dA 0, 12, .inl bs)), (h12, .inl (dA 0, 12, .inl bt)), (h13, .inl (dA 0, 12, .inl be))]) (poPi rr) 0 0 noA := by
  refine of_Y (y := yX11_start) (cc := cX11_start) (maxL := 2) (ret := (some .int)) (av := [.ref h0, .int p0]) (ws := [(h0, .inr (9, [.ref h1, .ref h21, .int xi, .ref h41, .ref h43, .ref h46, .ref h49, .int xe, .int xf])), (h1, .inr (6, [.int on, .int ot, .int op, .int os, .ref h2, .ref h6, .ref h9, .ref h14, .ref h17])), (h9, .inr (0, [.int bc, .ref h10, .ref h11, .ref h12, .ref h13])), (h10, .inl (dA 0, 12, .inl bg)), (h11, .inl (dA 0, 12, .inl bs)), (h12, .inl (dA 0, 12, .inl bt)), (h13, .inl (dA 0, 12, .inl be))]) (own := RX11) (by decide) rfl (Nat.le_of_ble_eq_true rfl) ?_
  intro p e s m below meth c hx hb hr ha hown hml hlocks hP hK hX hS ls hl
  have hC := hX.1
  have hl : lv_has ls 2 [(0, .ref h0), (1, .int p0)] := hl
  rw [f_X11_start] at hf
  refine lv_aload_n hx hb dX11_start_0 rfl (lv_at hl 0 rfl) ?_
  refine lv_iload_n hx hb dX11_start_1 rfl (lv_at hl 1 rfl) ?_
  obtain ⟨hc0, hf⟩ := sf_c0e hf
  refine k_Pv (run_YV (As := [.int p0]) (rest := []) ⟨hx, hb, hml, hown, ha⟩ (c_X11_checkBooking l D dA cA h0 h1 h2 h6 h9 h10 h11 h12 h13 h14 h17 h21 h41 h43 h46 h49   on ot op os bc bg bs bt be xi xe xf p0  hc0) (gi_V m_752 m_754 m_11 m_31 m_755) yd_X11_checkBooking ⟨Nat.le_of_ble_eq_true rfl, Nat.le_of_ble_eq_true rfl⟩ ⟨rfl, rfl⟩ hK hX hS hP [0, 1, 2, 3, 4, 5, 6] rfl (va_recv hK hP (q0 := 0) rfl rfl) rfl hl.1 rfl (Nat.le_of_ble_eq_true rfl) dX11_start_2 ⟨Nat.le_of_ble_eq_true rfl, Nat.le_of_ble_eq_true rfl⟩) hP hS (fun H locs hP hS => ?_)
  refine lv_aload_n hx hb dX11_start_5 rfl (lv_at hl 0 rfl) ?_
  refine gt_f (C := RX11) (T := TX11) (N := 9) hx hb ha in_X11 hown hK hP 0 rfl rfl 0 (by decide) m_332 rfl dX11_start_6 ?_
  refine gt_f (C := RX8) (T := TX8) (N := 9) hx hb ha in_X8 hown hK hP 1 rfl rfl 6 (by decide) m_219 rfl dX11_start_9 ?_
  refine gt_f (C := RX1) (T := TX1) (N := 5) hx hb ha in_X1 hown hK hP 2 rfl rfl 3 (by decide) m_153 rfl dX11_start_12 ?_
  refine lv_iload_n hx hb dX11_start_15 rfl (lv_at hl 1 rfl) ?_
  obtain ⟨hi, hf⟩ := sf_ge hf
  refine ia_ld hx hb hK hP 5 rfl hi dX11_start_16 ?_
  exact rt_Pi hx hb hr hlocks (Option.some.inj hf) hS dX11_start_17

def f_TX11_start (bc : Int32) (p0 : Int32) : Option Nat :=
  sf_t1 (f_TX11_checkBooking bc p0) (fun k_1 => some k_1) (sf_c0 (f_X11_checkBooking bc p0) (fun _ => sf_g (sf_in p0 12 = true) (none)))
theorem yd_TX11_start : yX11_start.cls = RX11 ∧ yX11_start.cls ≠ "java/lang/invoke/MethodHandle" ∧ yX11_start.cls ≠ "java/lang/invoke/VarHandle" ∧ (parseMethodDescriptor yX11_start.desc).map (fun d => d.parameters.length) = some 1 := ⟨rfl, by decide, by decide, by decide +kernel⟩
set_option maxRecDepth 100000 in
set_option maxHeartbeats 4000000 in
theorem c_TX11_start (l : Launch) (D : va_G) (dA : Nat → ClassId) (cA : Nat → Nat) (hst : l.stackTraces = false) (h0 h1 h2 h6 h9 h10 h11 h12 h13 h14 h17 h21 h41 h43 h46 h49 : Nat) (sz : Nat) (on : Int32) (ot : Int32) (op : Int32) (os : Int32) (bc : Int32) (bg : Nat → Int32) (bs : Nat → Int32) (bt : Nat → Int32) (be : Nat → Int32) (xi : Int32) (xe : Int32) (xf : Int32) (p0 : Int32) (rx : Nat) (hf : f_TX11_start bc p0 = some rx) : vx_Met l yX11_start (wo (.code yX11_start cX11_start 2 (some .int))) ({ frames := 7, cells := 1, slots := 6, locals := 121 } : Room) (preX D dA cA [.ref h0, .int p0] sz [(h0, .inr (9, [.ref h1, .ref h21, .int xi, .ref h41, .ref h43, .ref h46, .ref h49, .int xe, .int xf])), (h1, .inr (6, [.int on, .int ot, .int op, .int os, .ref h2, .ref h6, .ref h9, .ref h14, .ref h17])), (h9, .inr (0, [.int bc, .ref h10, .ref h11, .ref h12, .ref h13])), (h10, .inl (dA 0, 12, .inl bg)), (h11, .inl (dA 0, 12, .inl bs)), (h12, .inl (dA 0, 12, .inl bt)), (h13, .inl (dA 0, 12, .inl be))]) noQ (xcQ D (exs rx) [(h0, .inr (9, [.ref h1, .ref h21, .int xi, .ref h41, .ref h43, .ref h46, .ref h49, .int xe, .int xf])), (h1, .inr (6, [.int on, .int ot, .int op, .int os, .ref h2, .ref h6, .ref h9, .ref h14, .ref h17])), (h9, .inr (0, [.int bc, .ref h10, .ref h11, .ref h12, .ref h13])), (h10, .inl (dA 0, 12, .inl bg)), (h11, .inl (dA 0, 12, .inl bs)), (h12, .inl (dA 0, 12, .inl bt)), (h13, .inl (dA 0, 12, .inl be))] (va_A [(h0, .inr (9, [.ref h1, .ref h21, .int xi, .ref h41, .ref h43, .ref h46, .ref h49, .int xe, .int xf])), (h1, .inr (6, [.int on, .int ot, .int op, .int os, .ref h2, .ref h6, .ref h9, .ref h14, .ref h17])), (h9, .inr (0, [.int bc, .ref h10, .ref h11, .ref h12, .ref h13])), (h10, .inl (dA 0, 12, .inl bg)), (h11, .inl (dA 0, 12, .inl bs)), (h12, .inl (dA 0, 12, .inl bt)), (h13, .inl (dA 0, 12, .inl be))] sz)) 1 6 (va_A [(h0, .inr (9, [.ref h1, .ref h21, .int xi, .ref h41, .ref h43, .ref h46, .ref h49, .int xe, .int xf])), (h1, .inr (6, [.int on, .int ot, .int op, .int os, .ref h2, .ref h6, .ref h9, .ref h14, .ref h17])), (h9, .inr (0, [.int bc, .ref h10, .ref h11, .ref h12, .ref h13])), (h10, .inl (dA 0, 12, .inl bg)), (h11, .inl (dA 0, 12, .inl bs)), (h12, .inl (dA 0, 12, .inl bt)), (h13, .inl (dA 0, 12, .inl be))] sz) := by
  refine of_Z (y := yX11_start) (cc := cX11_start) (maxL := 2) (ret := (some .int)) (av := [.ref h0, .int p0]) (ws := [(h0, .inr (9, [.ref h1, .ref h21, .int xi, .ref h41, .ref h43, .ref h46, .ref h49, .int xe, .int xf])), (h1, .inr (6, [.int on, .int ot, .int op, .int os, .ref h2, .ref h6, .ref h9, .ref h14, .ref h17])), (h9, .inr (0, [.int bc, .ref h10, .ref h11, .ref h12, .ref h13])), (h10, .inl (dA 0, 12, .inl bg)), (h11, .inl (dA 0, 12, .inl bs)), (h12, .inl (dA 0, 12, .inl bt)), (h13, .inl (dA 0, 12, .inl be))]) (sz := sz) (own := RX11) (XC := fun A => xcQ D (exs rx) [(h0, .inr (9, [.ref h1, .ref h21, .int xi, .ref h41, .ref h43, .ref h46, .ref h49, .int xe, .int xf])), (h1, .inr (6, [.int on, .int ot, .int op, .int os, .ref h2, .ref h6, .ref h9, .ref h14, .ref h17])), (h9, .inr (0, [.int bc, .ref h10, .ref h11, .ref h12, .ref h13])), (h10, .inl (dA 0, 12, .inl bg)), (h11, .inl (dA 0, 12, .inl bs)), (h12, .inl (dA 0, 12, .inl bt)), (h13, .inl (dA 0, 12, .inl be))] A) (by decide) rfl (Nat.le_of_ble_eq_true rfl) ?_
  intro p e s m below meth c A hx hb hr ha hown hml hlocks hin hno hP hK hD hX hS hA ls hl
  have hC := hX.1
  have hl : lv_has ls 2 [(0, .ref h0), (1, .int p0)] := hl
  rw [f_TX11_start] at hf
  refine lv_aload_n hx hb dX11_start_0 rfl (lv_at hl 0 rfl) ?_
  refine lv_iload_n hx hb dX11_start_1 rfl (lv_at hl 1 rfl) ?_
  rcases sf_t1e hf with ⟨hnt, hf⟩ | ⟨k_1, hc1, hf⟩
  · skip
    obtain ⟨hc1, hf⟩ := sf_c0e hf
    refine k_Pv (run_YV (As := [.int p0]) (rest := []) ⟨hx, hb, hml, hown, ha⟩ (c_X11_checkBooking l D dA cA h0 h1 h2 h6 h9 h10 h11 h12 h13 h14 h17 h21 h41 h43 h46 h49   on ot op os bc bg bs bt be xi xe xf p0  hc1) (gi_V m_752 m_754 m_11 m_31 m_755) yd_X11_checkBooking ⟨Nat.le_of_ble_eq_true rfl, Nat.le_of_ble_eq_true rfl⟩ ⟨rfl, rfl⟩ hK hX hS hP [0, 1, 2, 3, 4, 5, 6] rfl (va_recv hK hP (q0 := 0) rfl rfl) rfl hl.1 rfl (Nat.le_of_ble_eq_true rfl) dX11_start_2 ⟨Nat.le_of_ble_eq_true rfl, Nat.le_of_ble_eq_true rfl⟩) hP hS (fun H locs hP hS => ?_)
    refine lv_aload_n hx hb dX11_start_5 rfl (lv_at hl 0 rfl) ?_
    refine gt_f (C := RX11) (T := TX11) (N := 9) hx hb ha in_X11 hown hK hP 0 rfl rfl 0 (by decide) m_332 rfl dX11_start_6 ?_
    refine gt_f (C := RX8) (T := TX8) (N := 9) hx hb ha in_X8 hown hK hP 1 rfl rfl 6 (by decide) m_219 rfl dX11_start_9 ?_
    refine gt_f (C := RX1) (T := TX1) (N := 5) hx hb ha in_X1 hown hK hP 2 rfl rfl 3 (by decide) m_153 rfl dX11_start_12 ?_
    refine lv_iload_n hx hb dX11_start_15 rfl (lv_at hl 1 rfl) ?_
    obtain ⟨hi, hf⟩ := sf_ge hf
    refine ia_ld hx hb hK hP 5 rfl hi dX11_start_16 ?_
    cases hf
  · skip
    refine k_Z (wr := []) (run_ZV (As := [.int p0]) (rest := []) ⟨hx, hb, hml, hown, ha⟩ (c_TX11_checkBooking l D dA cA hst h0 h1 h2 h6 h9 h10 h11 h12 h13 h14 h17 h21 h41 h43 h46 h49  _ on ot op os bc bg bs bt be xi xe xf p0 _ hc1) (gi_V m_752 m_754 m_11 m_31 m_755) yd_TX11_checkBooking ⟨Nat.le_of_ble_eq_true rfl, Nat.le_of_ble_eq_true rfl⟩ ⟨rfl, rfl⟩ hK hX hS hA hP hD [0, 1, 2, 3, 4, 5, 6] (by decide) rfl (va_recv hK hP (q0 := 0) rfl rfl) rfl hl.1 rfl (Nat.le_of_ble_eq_true rfl) dX11_start_2 ⟨Nat.le_of_ble_eq_true rfl, Nat.le_of_ble_eq_true rfl⟩) hP hD hS hA [0, 1, 2, 3, 4, 5, 6] [] rfl rfl (by decide) (by decide) (fun q9 H locs hP hD hS ht9 => ?_)
    cases hf
    exact px_o hno hlocks ht9 (hP.sub [0, 1, 2, 3, 4, 5, 6] rfl) (hD.sub [0, 1, 2, 3, 4, 5, 6] (by decide) rfl) hS (by decide) (by decide)

def f_X11_hasStarted (on : Int32) (bc : Int32) (bt : Nat → Int32) (p0 : Int32) : Option Int32 :=
  sf_c0 (f_X11_checkBooking bc p0) (fun _ => sf_g (sf_in p0 12 = true) (sf_b (on < (bt p0.toNatClampNeg)) (some (0 : Int32)) (some (1 : Int32))))
theorem yd_X11_hasStarted : yX11_hasStarted.cls = RX11 ∧ yX11_hasStarted.cls ≠ "java/lang/invoke/MethodHandle" ∧ yX11_hasStarted.cls ≠ "java/lang/invoke/VarHandle" ∧ (parseMethodDescriptor yX11_hasStarted.desc).map (fun d => d.parameters.length) = some 1 := ⟨rfl, by decide, by decide, by decide +kernel⟩
set_option maxRecDepth 100000 in
set_option maxHeartbeats 4000000 in
theorem c_X11_hasStarted (l : Launch) (D : va_G) (dA : Nat → ClassId) (cA : Nat → Nat) (h0 h1 h2 h6 h9 h10 h11 h12 h13 h14 h17 h21 h41 h43 h46 h49 : Nat) (on : Int32) (ot : Int32) (op : Int32) (os : Int32) (bc : Int32) (bg : Nat → Int32) (bs : Nat → Int32) (bt : Nat → Int32) (be : Nat → Int32) (xi : Int32) (xe : Int32) (xf : Int32) (p0 : Int32) (rr : Int32) (hf : f_X11_hasStarted on bc bt p0 = some rr) : Met l yX11_hasStarted (wo (.code yX11_hasStarted cX11_hasStarted 2 (some .boolean))) ({ frames := 2, cells := 0, slots := 0, locals := 42 } : Room) (preY D dA cA [.ref h0, .int p0] [(h0, .inr (9, [.ref h1, .ref h21, .int xi, .ref h41, .ref h43, .ref h46, .ref h49, .int xe, .int xf])), (h1, .inr (6, [.int on, .int ot, .int op, .int os, .ref h2, .ref h6, .ref h9, .ref h14, .ref h17])), (h9, .inr (0, [.int bc, .ref h10, .ref h11, .ref h12, .ref h13])), (h10, .inl (dA 0, 12, .inl bg)), (h11, .inl (dA 0, 12, .inl bs)), (h12, .inl (dA 0, 12, .inl bt)), (h13, .inl (dA 0, 12, .inl be))]) (poPi rr) 0 0 noA := by
  refine of_Y (y := yX11_hasStarted) (cc := cX11_hasStarted) (maxL := 2) (ret := (some .boolean)) (av := [.ref h0, .int p0]) (ws := [(h0, .inr (9, [.ref h1, .ref h21, .int xi, .ref h41, .ref h43, .ref h46, .ref h49, .int xe, .int xf])), (h1, .inr (6, [.int on, .int ot, .int op, .int os, .ref h2, .ref h6, .ref h9, .ref h14, .ref h17])), (h9, .inr (0, [.int bc, .ref h10, .ref h11, .ref h12, .ref h13])), (h10, .inl (dA 0, 12, .inl bg)), (h11, .inl (dA 0, 12, .inl bs)), (h12, .inl (dA 0, 12, .inl bt)), (h13, .inl (dA 0, 12, .inl be))]) (own := RX11) (by decide) rfl (Nat.le_of_ble_eq_true rfl) ?_
  intro p e s m below meth c hx hb hr ha hown hml hlocks hP hK hX hS ls hl
  have hC := hX.1
  have hl : lv_has ls 2 [(0, .ref h0), (1, .int p0)] := hl
  rw [f_X11_hasStarted] at hf
  refine lv_aload_n hx hb dX11_hasStarted_0 rfl (lv_at hl 0 rfl) ?_
  refine lv_iload_n hx hb dX11_hasStarted_1 rfl (lv_at hl 1 rfl) ?_
  obtain ⟨hc0, hf⟩ := sf_c0e hf
  refine k_Pv (run_YV (As := [.int p0]) (rest := []) ⟨hx, hb, hml, hown, ha⟩ (c_X11_checkBooking l D dA cA h0 h1 h2 h6 h9 h10 h11 h12 h13 h14 h17 h21 h41 h43 h46 h49   on ot op os bc bg bs bt be xi xe xf p0  hc0) (gi_V m_752 m_754 m_11 m_31 m_755) yd_X11_checkBooking ⟨Nat.le_of_ble_eq_true rfl, Nat.le_of_ble_eq_true rfl⟩ ⟨rfl, rfl⟩ hK hX hS hP [0, 1, 2, 3, 4, 5, 6] rfl (va_recv hK hP (q0 := 0) rfl rfl) rfl hl.1 rfl (Nat.le_of_ble_eq_true rfl) dX11_hasStarted_2 ⟨Nat.le_of_ble_eq_true rfl, Nat.le_of_ble_eq_true rfl⟩) hP hS (fun H locs hP hS => ?_)
  refine lv_aload_n hx hb dX11_hasStarted_5 rfl (lv_at hl 0 rfl) ?_
  refine gt_f (C := RX11) (T := TX11) (N := 9) hx hb ha in_X11 hown hK hP 0 rfl rfl 0 (by decide) m_332 rfl dX11_hasStarted_6 ?_
  refine gt_f (C := RX8) (T := TX8) (N := 9) hx hb ha in_X8 hown hK hP 1 rfl rfl 6 (by decide) m_219 rfl dX11_hasStarted_9 ?_
  refine gt_f (C := RX1) (T := TX1) (N := 5) hx hb ha in_X1 hown hK hP 2 rfl rfl 3 (by decide) m_153 rfl dX11_hasStarted_12 ?_
  refine lv_iload_n hx hb dX11_hasStarted_15 rfl (lv_at hl 1 rfl) ?_
  obtain ⟨hi, hf⟩ := sf_ge hf
  refine ia_ld hx hb hK hP 5 rfl hi dX11_hasStarted_16 ?_
  refine lv_aload_n hx hb dX11_hasStarted_17 rfl (lv_at hl 0 rfl) ?_
  refine gt_f (C := RX11) (T := TX11) (N := 9) hx hb ha in_X11 hown hK hP 0 rfl rfl 0 (by decide) m_332 rfl dX11_hasStarted_18 ?_
  refine gt_f (C := RX8) (T := TX8) (N := 9) hx hb ha in_X8 hown hK hP 1 rfl rfl 0 (by decide) m_207 rfl dX11_hasStarted_21 ?_
  refine lv_icmp_gt (tgt := 31) hx hb dX11_hasStarted_24 (by decide) (fun hc => ?_) (fun hc => ?_)
  · have hf := sf_bp hf hc
    refine lv_iconst (v := 0) hx hb dX11_hasStarted_31 (by decide) ?_
    exact rt_Pz hx hb hr hlocks (Option.some.inj hf) rfl hS dX11_hasStarted_32
  · have hf := sf_bn hf hc
    refine lv_iconst (v := 1) hx hb dX11_hasStarted_27 (by decide) ?_
    refine lv_goto (tgt := 32) hx hb dX11_hasStarted_28 (by decide) ?_
    exact rt_Pz hx hb hr hlocks (Option.some.inj hf) rfl hS dX11_hasStarted_32

def f_TX11_hasStarted (on : Int32) (bc : Int32) (bt : Nat → Int32) (p0 : Int32) : Option Nat :=
  sf_t1 (f_TX11_checkBooking bc p0) (fun k_1 => some k_1) (sf_c0 (f_X11_checkBooking bc p0) (fun _ => sf_g (sf_in p0 12 = true) (sf_b (on < (bt p0.toNatClampNeg)) (none) (none))))
theorem yd_TX11_hasStarted : yX11_hasStarted.cls = RX11 ∧ yX11_hasStarted.cls ≠ "java/lang/invoke/MethodHandle" ∧ yX11_hasStarted.cls ≠ "java/lang/invoke/VarHandle" ∧ (parseMethodDescriptor yX11_hasStarted.desc).map (fun d => d.parameters.length) = some 1 := ⟨rfl, by decide, by decide, by decide +kernel⟩
set_option maxRecDepth 100000 in
set_option maxHeartbeats 4000000 in
theorem c_TX11_hasStarted (l : Launch) (D : va_G) (dA : Nat → ClassId) (cA : Nat → Nat) (hst : l.stackTraces = false) (h0 h1 h2 h6 h9 h10 h11 h12 h13 h14 h17 h21 h41 h43 h46 h49 : Nat) (sz : Nat) (on : Int32) (ot : Int32) (op : Int32) (os : Int32) (bc : Int32) (bg : Nat → Int32) (bs : Nat → Int32) (bt : Nat → Int32) (be : Nat → Int32) (xi : Int32) (xe : Int32) (xf : Int32) (p0 : Int32) (rx : Nat) (hf : f_TX11_hasStarted on bc bt p0 = some rx) : vx_Met l yX11_hasStarted (wo (.code yX11_hasStarted cX11_hasStarted 2 (some .boolean))) ({ frames := 7, cells := 1, slots := 6, locals := 121 } : Room) (preX D dA cA [.ref h0, .int p0] sz [(h0, .inr (9, [.ref h1, .ref h21, .int xi, .ref h41, .ref h43, .ref h46, .ref h49, .int xe, .int xf])), (h1, .inr (6, [.int on, .int ot, .int op, .int os, .ref h2, .ref h6, .ref h9, .ref h14, .ref h17])), (h9, .inr (0, [.int bc, .ref h10, .ref h11, .ref h12, .ref h13])), (h10, .inl (dA 0, 12, .inl bg)), (h11, .inl (dA 0, 12, .inl bs)), (h12, .inl (dA 0, 12, .inl bt)), (h13, .inl (dA 0, 12, .inl be))]) noQ (xcQ D (exs rx) [(h0, .inr (9, [.ref h1, .ref h21, .int xi, .ref h41, .ref h43, .ref h46, .ref h49, .int xe, .int xf])), (h1, .inr (6, [.int on, .int ot, .int op, .int os, .ref h2, .ref h6, .ref h9, .ref h14, .ref h17])), (h9, .inr (0, [.int bc, .ref h10, .ref h11, .ref h12, .ref h13])), (h10, .inl (dA 0, 12, .inl bg)), (h11, .inl (dA 0, 12, .inl bs)), (h12, .inl (dA 0, 12, .inl bt)), (h13, .inl (dA 0, 12, .inl be))] (va_A [(h0, .inr (9, [.ref h1, .ref h21, .int xi, .ref h41, .ref h43, .ref h46, .ref h49, .int xe, .int xf])), (h1, .inr (6, [.int on, .int ot, .int op, .int os, .ref h2, .ref h6, .ref h9, .ref h14, .ref h17])), (h9, .inr (0, [.int bc, .ref h10, .ref h11, .ref h12, .ref h13])), (h10, .inl (dA 0, 12, .inl bg)), (h11, .inl (dA 0, 12, .inl bs)), (h12, .inl (dA 0, 12, .inl bt)), (h13, .inl (dA 0, 12, .inl be))] sz)) 1 6 (va_A [(h0, .inr (9, [.ref h1, .ref h21, .int xi, .ref h41, .ref h43, .ref h46, .ref h49, .int xe, .int xf])), (h1, .inr (6, [.int on, .int ot, .int op, .int os, .ref h2, .ref h6, .ref h9, .ref h14, .ref h17])), (h9, .inr (0, [.int bc, .ref h10, .ref h11, .ref h12, .ref h13])), (h10, .inl (dA 0, 12, .inl bg)), (h11, .inl (dA 0, 12, .inl bs)), (h12, .inl (dA 0, 12, .inl bt)), (h13, .inl (dA 0, 12, .inl be))] sz) := by
  refine of_Z (y := yX11_hasStarted) (cc := cX11_hasStarted) (maxL := 2) (ret := (some .boolean)) (av := [.ref h0, .int p0]) (ws := [(h0, .inr (9, [.ref h1, .ref h21, .int xi, .ref h41, .ref h43, .ref h46, .ref h49, .int xe, .int xf])), (h1, .inr (6, [.int on, .int ot, .int op, .int os, .ref h2, .ref h6, .ref h9, .ref h14, .ref h17])), (h9, .inr (0, [.int bc, .ref h10, .ref h11, .ref h12, .ref h13])), (h10, .inl (dA 0, 12, .inl bg)), (h11, .inl (dA 0, 12, .inl bs)), (h12, .inl (dA 0, 12, .inl bt)), (h13, .inl (dA 0, 12, .inl be))]) (sz := sz) (own := RX11) (XC := fun A => xcQ D (exs rx) [(h0, .inr (9, [.ref h1, .ref h21, .int xi, .ref h41, .ref h43, .ref h46, .ref h49, .int xe, .int xf])), (h1, .inr (6, [.int on, .int ot, .int op, .int os, .ref h2, .ref h6, .ref h9, .ref h14, .ref h17])), (h9, .inr (0, [.int bc, .ref h10, .ref h11, .ref h12, .ref h13])), (h10, .inl (dA 0, 12, .inl bg)), (h11, .inl (dA 0, 12, .inl bs)), (h12, .inl (dA 0, 12, .inl bt)), (h13, .inl (dA 0, 12, .inl be))] A) (by decide) rfl (Nat.le_of_ble_eq_true rfl) ?_
  intro p e s m below meth c A hx hb hr ha hown hml hlocks hin hno hP hK hD hX hS hA ls hl
  have hC := hX.1
  have hl : lv_has ls 2 [(0, .ref h0), (1, .int p0)] := hl
  rw [f_TX11_hasStarted] at hf
  refine lv_aload_n hx hb dX11_hasStarted_0 rfl (lv_at hl 0 rfl) ?_
  refine lv_iload_n hx hb dX11_hasStarted_1 rfl (lv_at hl 1 rfl) ?_
  rcases sf_t1e hf with ⟨hnt, hf⟩ | ⟨k_1, hc1, hf⟩
  · skip
    obtain ⟨hc1, hf⟩ := sf_c0e hf
    refine k_Pv (run_YV (As := [.int p0]) (rest := []) ⟨hx, hb, hml, hown, ha⟩ (c_X11_checkBooking l D dA cA h0 h1 h2 h6 h9 h10 h11 h12 h13 h14 h17 h21 h41 h43 h46 h49   on ot op os bc bg bs bt be xi xe xf p0  hc1) (gi_V m_752 m_754 m_11 m_31 m_755) yd_X11_checkBooking ⟨Nat.le_of_ble_eq_true rfl, Nat.le_of_ble_eq_true rfl⟩ ⟨rfl, rfl⟩ hK hX hS hP [0, 1, 2, 3, 4, 5, 6] rfl (va_recv hK hP (q0 := 0) rfl rfl) rfl hl.1 rfl (Nat.le_of_ble_eq_true rfl) dX11_hasStarted_2 ⟨Nat.le_of_ble_eq_true rfl, Nat.le_of_ble_eq_true rfl⟩) hP hS (fun H locs hP hS => ?_)
    refine lv_aload_n hx hb dX11_hasStarted_5 rfl (lv_at hl 0 rfl) ?_
    refine gt_f (C := RX11) (T := TX11) (N := 9) hx hb ha in_X11 hown hK hP 0 rfl rfl 0 (by decide) m_332 rfl dX11_hasStarted_6 ?_
    refine gt_f (C := RX8) (T := TX8) (N := 9) hx hb ha in_X8 hown hK hP 1 rfl rfl 6 (by decide) m_219 rfl dX11_hasStarted_9 ?_
    refine gt_f (C := RX1) (T := TX1) (N := 5) hx hb ha in_X1 hown hK hP 2 rfl rfl 3 (by decide) m_153 rfl dX11_hasStarted_12 ?_
    refine lv_iload_n hx hb dX11_hasStarted_15 rfl (lv_at hl 1 rfl) ?_
    obtain ⟨hi, hf⟩ := sf_ge hf
    refine ia_ld hx hb hK hP 5 rfl hi dX11_hasStarted_16 ?_
    refine lv_aload_n hx hb dX11_hasStarted_17 rfl (lv_at hl 0 rfl) ?_
    refine gt_f (C := RX11) (T := TX11) (N := 9) hx hb ha in_X11 hown hK hP 0 rfl rfl 0 (by decide) m_332 rfl dX11_hasStarted_18 ?_
    refine gt_f (C := RX8) (T := TX8) (N := 9) hx hb ha in_X8 hown hK hP 1 rfl rfl 0 (by decide) m_207 rfl dX11_hasStarted_21 ?_
    refine lv_icmp_gt (tgt := 31) hx hb dX11_hasStarted_24 (by decide) (fun hc => ?_) (fun hc => ?_)
    · have hf := sf_bp hf hc
      refine lv_iconst (v := 0) hx hb dX11_hasStarted_31 (by decide) ?_
      cases hf
    · have hf := sf_bn hf hc
      refine lv_iconst (v := 1) hx hb dX11_hasStarted_27 (by decide) ?_
      refine lv_goto (tgt := 32) hx hb dX11_hasStarted_28 (by decide) ?_
      cases hf
  · skip
    refine k_Z (wr := []) (run_ZV (As := [.int p0]) (rest := []) ⟨hx, hb, hml, hown, ha⟩ (c_TX11_checkBooking l D dA cA hst h0 h1 h2 h6 h9 h10 h11 h12 h13 h14 h17 h21 h41 h43 h46 h49  _ on ot op os bc bg bs bt be xi xe xf p0 _ hc1) (gi_V m_752 m_754 m_11 m_31 m_755) yd_TX11_checkBooking ⟨Nat.le_of_ble_eq_true rfl, Nat.le_of_ble_eq_true rfl⟩ ⟨rfl, rfl⟩ hK hX hS hA hP hD [0, 1, 2, 3, 4, 5, 6] (by decide) rfl (va_recv hK hP (q0 := 0) rfl rfl) rfl hl.1 rfl (Nat.le_of_ble_eq_true rfl) dX11_hasStarted_2 ⟨Nat.le_of_ble_eq_true rfl, Nat.le_of_ble_eq_true rfl⟩) hP hD hS hA [0, 1, 2, 3, 4, 5, 6] [] rfl rfl (by decide) (by decide) (fun q9 H locs hP hD hS ht9 => ?_)
    cases hf
    exact px_o hno hlocks ht9 (hP.sub [0, 1, 2, 3, 4, 5, 6] rfl) (hD.sub [0, 1, 2, 3, 4, 5, 6] (by decide) rfl) hS (by decide) (by decide)

def f_X11_bookingByStart_L2 (bc : Int32) (bs : Nat → Int32) (bt : Nat → Int32) (p0 : Int32) (k : Unit → Option Int32) : Nat → Int32 → Option Int32
  | 0, _ => none
  | n + 1, v_1 => sf_b (bc ≤ v_1) (k ()) (sf_c1 (f_X1_rankByStart bc bs bt v_1) (fun r_2 => sf_b (r_2 = p0) (some v_1) (sf_n (v_1 + (1 : Int32)) (fun x_3 => f_X11_bookingByStart_L2 bc bs bt p0 k n x_3))))
def f_X11_bookingByStart (bc : Int32) (bs : Nat → Int32) (bt : Nat → Int32) (p0 : Int32) : Option Int32 :=
  f_X11_bookingByStart_L2 bc bs bt p0 (fun _ => none) 2000 (0 : Int32)
theorem yd_X11_bookingByStart : yX11_bookingByStart.cls = RX11 ∧ yX11_bookingByStart.cls ≠ "java/lang/invoke/MethodHandle" ∧ yX11_bookingByStart.cls ≠ "java/lang/invoke/VarHandle" ∧ (parseMethodDescriptor yX11_bookingByStart.desc).map (fun d => d.parameters.length) = some 1 := ⟨rfl, by decide, by decide, by decide +kernel⟩
set_option maxRecDepth 100000 in
set_option maxHeartbeats 4000000 in
theorem c_X11_bookingByStart (l : Launch) (D : va_G) (dA : Nat → ClassId) (cA : Nat → Nat) (h0 h1 h2 h6 h9 h10 h11 h12 h13 h14 h17 h21 h41 h43 h46 h49 : Nat) (on : Int32) (ot : Int32) (op : Int32) (os : Int32) (bc : Int32) (bg : Nat → Int32) (bs : Nat → Int32) (bt : Nat → Int32) (be : Nat → Int32) (xi : Int32) (xe : Int32) (xf : Int32) (p0 : Int32) (rr : Int32) (hf : f_X11_bookingByStart bc bs bt p0 = some rr) : Met l yX11_bookingByStart (wo (.code yX11_bookingByStart cX11_bookingByStart 3 (some .int))) ({ frames := 1, cells := 0, slots := 0, locals := 23 } : Room) (preY D dA cA [.ref h0, .int p0] [(h0, .inr (9, [.ref h1, .ref h21, .int xi, .ref h41, .ref h43, .ref h46, .ref h49, .int xe, .int xf])), (h1, .inr (6, [.int on, .int ot, .int op, .int os, .ref h2, .ref h6, .ref h9, .ref h14, .ref h17])), (h9, .inr (0, [.int bc, .ref h10, .ref h11, .ref h12, .ref h13])), (h10, .inl (dA 0, 12, .inl bg)), (h11, .inl (dA 0, 12, .inl bs)), (h12, .inl (dA 0, 12, .inl bt)), (h13, .inl (dA 0, 12, .inl be))]) (poPi rr) 0 0 noA := by
  refine of_Y (y := yX11_bookingByStart) (cc := cX11_bookingByStart) (maxL := 3) (ret := (some .int)) (av := [.ref h0, .int p0]) (ws := [(h0, .inr (9, [.ref h1, .ref h21, .int xi, .ref h41, .ref h43, .ref h46, .ref h49, .int xe, .int xf])), (h1, .inr (6, [.int on, .int ot, .int op, .int os, .ref h2, .ref h6, .ref h9, .ref h14, .ref h17])), (h9, .inr (0, [.int bc, .ref h10, .ref h11, .ref h12, .ref h13])), (h10, .inl (dA 0, 12, .inl bg)), (h11, .inl (dA 0, 12, .inl bs)), (h12, .inl (dA 0, 12, .inl bt)), (h13, .inl (dA 0, 12, .inl be))]) (own := RX11) (by decide) rfl (Nat.le_of_ble_eq_true rfl) ?_
  intro p e s m below meth c hx hb hr ha hown hml hlocks hP hK hX hS ls hl
  have hC := hX.1
  have hl : lv_has ls 3 [(0, .ref h0), (1, .int p0)] := hl
  rw [f_X11_bookingByStart] at hf
  refine lv_iconst (v := 0) hx hb dX11_bookingByStart_0 (by decide) ?_
  refine lv_istore_n (lv' := [(2, .int (0 : Int32)), (0, .ref h0), (1, .int p0)]) hx hb dX11_bookingByStart_1 rfl hl (by decide) rfl (fun ls hl => ?_)
  have hL2 : ∀ (n : Nat) (k : Unit → Option Int32) (v_1 : Int32) (H : Heap) (locs : List Loc) (ls : Array Slot), va_P D cls [(h0, .inr (9, [.ref h1, .ref h21, .int xi, .ref h41, .ref h43, .ref h46, .ref h49, .int xe, .int xf])), (h1, .inr (6, [.int on, .int ot, .int op, .int os, .ref h2, .ref h6, .ref h9, .ref h14, .ref h17])), (h9, .inr (0, [.int bc, .ref h10, .ref h11, .ref h12, .ref h13])), (h10, .inl (dA 0, 12, .inl bg)), (h11, .inl (dA 0, 12, .inl bs)), (h12, .inl (dA 0, 12, .inl bt)), (h13, .inl (dA 0, 12, .inl be))] H → va_S noA s.heap H locs → lv_has ls 3 [(2, .int v_1), (0, .ref h0), (1, .int p0)] → f_X11_bookingByStart_L2 bc bs bt p0 k n v_1 = some rr → (∀ (H : Heap) (locs : List Loc) (ls : Array Slot), va_P D cls [(h0, .inr (9, [.ref h1, .ref h21, .int xi, .ref h41, .ref h43, .ref h46, .ref h49, .int xe, .int xf])), (h1, .inr (6, [.int on, .int ot, .int op, .int os, .ref h2, .ref h6, .ref h9, .ref h14, .ref h17])), (h9, .inr (0, [.int bc, .ref h10, .ref h11, .ref h12, .ref h13])), (h10, .inl (dA 0, 12, .inl bg)), (h11, .inl (dA 0, 12, .inl bs)), (h12, .inl (dA 0, 12, .inl bt)), (h13, .inl (dA 0, 12, .inl be))] H → va_S noA s.heap H locs → lv_has ls 3 [] → k () = some rr → W p l e ({ frames := 1, cells := 0, slots := 0, locals := 23 } : Room) s m ([.ref h0, .int p0] : List Value).toArray below meth c H locs 0 0 (MQ below (poPi rr) ([.ref h0, .int p0] : List Value).toArray s 0 0 noA) (F0 m 39 ls [])) → W p l e ({ frames := 1, cells := 0, slots := 0, locals := 23 } : Room) s m ([.ref h0, .int p0] : List Value).toArray below meth c H locs 0 0 (MQ below (poPi rr) ([.ref h0, .int p0] : List Value).toArray s 0 0 noA) (F0 m 2 ls []) := by
    intro n k
    induction n with
    | zero =>
      intro v_1 H locs ls hP hS hl hf hk
      rw [f_X11_bookingByStart_L2] at hf
      cases hf
    | succ n ih =>
      intro v_1 H locs ls hP hS hl hf hk
      rw [f_X11_bookingByStart_L2] at hf
      refine lv_iload_n hx hb dX11_bookingByStart_2 rfl (lv_at hl 0 rfl) ?_
      refine lv_aload_n hx hb dX11_bookingByStart_3 rfl (lv_at hl 1 rfl) ?_
      refine gt_f (C := RX11) (T := TX11) (N := 9) hx hb ha in_X11 hown hK hP 0 rfl rfl 0 (by decide) m_332 rfl dX11_bookingByStart_4 ?_
      refine gt_f (C := RX8) (T := TX8) (N := 9) hx hb ha in_X8 hown hK hP 1 rfl rfl 6 (by decide) m_219 rfl dX11_bookingByStart_7 ?_
      refine gt_f (C := RX1) (T := TX1) (N := 5) hx hb ha in_X1 hown hK hP 2 rfl rfl 0 (by decide) m_143 rfl dX11_bookingByStart_10 ?_
      refine lv_icmp_ge (tgt := 39) hx hb dX11_bookingByStart_13 (by decide) (fun hc => ?_) (fun hc => ?_)
      · have hf := sf_bp hf hc
        exact hk _ _ _ hP hS (lv_sub hl [] rfl) hf
      · have hf := sf_bn hf hc
        refine lv_aload_n hx hb dX11_bookingByStart_16 rfl (lv_at hl 1 rfl) ?_
        refine gt_f (C := RX11) (T := TX11) (N := 9) hx hb ha in_X11 hown hK hP 0 rfl rfl 0 (by decide) m_332 rfl dX11_bookingByStart_17 ?_
        refine gt_f (C := RX8) (T := TX8) (N := 9) hx hb ha in_X8 hown hK hP 1 rfl rfl 6 (by decide) m_219 rfl dX11_bookingByStart_20 ?_
        refine lv_iload_n hx hb dX11_bookingByStart_23 rfl (lv_at hl 0 rfl) ?_
        obtain ⟨r_2, hc2, hf⟩ := sf_c1e hf
        refine k_Pi (run_PV (As := [.int v_1]) (rest := []) ⟨hx, hb, hml, hown, ha⟩ (c_X1_rankByStart l D dA h9 h10 h11 h12 h13   bc bg bs bt be v_1 _ hc2) (gi_V m_796 m_797 m_798 m_35 m_799) yd_X1_rankByStart ⟨Nat.le_of_ble_eq_true rfl, Nat.le_of_ble_eq_true rfl⟩ ⟨rfl, rfl⟩ hK hP [2, 3, 4, 5, 6] rfl 2 0 rfl rfl rfl rfl hl.1 rfl (Nat.le_of_ble_eq_true rfl) dX11_bookingByStart_24 ⟨Nat.le_of_ble_eq_true rfl, Nat.le_of_ble_eq_true rfl⟩) hP hS (fun H locs hP hS => ?_)
        refine lv_iload_n hx hb dX11_bookingByStart_27 rfl (lv_at hl 2 rfl) ?_
        refine lv_icmp_ne (tgt := 33) hx hb dX11_bookingByStart_28 (by decide) (fun hc => ?_) (fun hc => ?_)
        · have hf := sf_bn hf hc
          obtain ⟨x_3, ex_3, hf⟩ := sf_ne hf
          refine ii_nc (lv' := [(2, .int x_3), (0, .ref h0), (1, .int p0)]) (k := 0) hx hb dX11_bookingByStart_33 hl rfl ex_3 (by decide) (by decide) rfl (fun ls hl => ?_)
          refine lv_goto (tgt := 2) hx hb dX11_bookingByStart_36 (by decide) ?_
          exact ih _ _ _ _ hP hS (lv_sub hl [0, 1, 2] rfl) hf hk
        · have hf := sf_bp hf hc
          refine lv_iload_n hx hb dX11_bookingByStart_31 rfl (lv_at hl 0 rfl) ?_
          exact rt_Pi hx hb hr hlocks (Option.some.inj hf) hS dX11_bookingByStart_32
  refine hL2 _ _ _ _ _ _ hP hS (lv_sub hl [0, 1, 2] rfl) hf (fun  H locs ls hP hS hl hf => ?_)
  cases hf

def f_TX11_bookingByStart_L2 (bc : Int32) (bs : Nat → Int32) (bt : Nat → Int32) (p0 : Int32) (k : Unit → Option Nat) : Nat → Int32 → Option Nat
  | 0, _ => none
  | n + 1, v_1 => sf_b (bc ≤ v_1) (k ()) (sf_c1 (f_X1_rankByStart bc bs bt v_1) (fun r_2 => sf_b (r_2 = p0) (none) (sf_n (v_1 + (1 : Int32)) (fun x_3 => f_TX11_bookingByStart_L2 bc bs bt p0 k n x_3))))
def f_TX11_bookingByStart (bc : Int32) (bs : Nat → Int32) (bt : Nat → Int32) (p0 : Int32) : Option Nat :=
  f_TX11_bookingByStart_L2 bc bs bt p0 (fun _ => some 4) 2000 (0 : Int32)
theorem yd_TX11_bookingByStart : yX11_bookingByStart.cls = RX11 ∧ yX11_bookingByStart.cls ≠ "java/lang/invoke/MethodHandle" ∧ yX11_bookingByStart.cls ≠ "java/lang/invoke/VarHandle" ∧ (parseMethodDescriptor yX11_bookingByStart.desc).map (fun d => d.parameters.length) = some 1 := ⟨rfl, by decide, by decide, by decide +kernel⟩
set_option maxRecDepth 100000 in
set_option maxHeartbeats 4000000 in
theorem c_TX11_bookingByStart (l : Launch) (D : va_G) (dA : Nat → ClassId) (cA : Nat → Nat) (hst : l.stackTraces = false) (h0 h1 h2 h6 h9 h10 h11 h12 h13 h14 h17 h21 h41 h43 h46 h49 : Nat) (sz : Nat) (on : Int32) (ot : Int32) (op : Int32) (os : Int32) (bc : Int32) (bg : Nat → Int32) (bs : Nat → Int32) (bt : Nat → Int32) (be : Nat → Int32) (xi : Int32) (xe : Int32) (xf : Int32) (p0 : Int32) (rx : Nat) (hf : f_TX11_bookingByStart bc bs bt p0 = some rx) : vx_Met l yX11_bookingByStart (wo (.code yX11_bookingByStart cX11_bookingByStart 3 (some .int))) ({ frames := 6, cells := 1, slots := 6, locals := 100 } : Room) (preX D dA cA [.ref h0, .int p0] sz [(h0, .inr (9, [.ref h1, .ref h21, .int xi, .ref h41, .ref h43, .ref h46, .ref h49, .int xe, .int xf])), (h1, .inr (6, [.int on, .int ot, .int op, .int os, .ref h2, .ref h6, .ref h9, .ref h14, .ref h17])), (h9, .inr (0, [.int bc, .ref h10, .ref h11, .ref h12, .ref h13])), (h10, .inl (dA 0, 12, .inl bg)), (h11, .inl (dA 0, 12, .inl bs)), (h12, .inl (dA 0, 12, .inl bt)), (h13, .inl (dA 0, 12, .inl be))]) noQ (xcQ D (exs rx) [(h0, .inr (9, [.ref h1, .ref h21, .int xi, .ref h41, .ref h43, .ref h46, .ref h49, .int xe, .int xf])), (h1, .inr (6, [.int on, .int ot, .int op, .int os, .ref h2, .ref h6, .ref h9, .ref h14, .ref h17])), (h9, .inr (0, [.int bc, .ref h10, .ref h11, .ref h12, .ref h13])), (h10, .inl (dA 0, 12, .inl bg)), (h11, .inl (dA 0, 12, .inl bs)), (h12, .inl (dA 0, 12, .inl bt)), (h13, .inl (dA 0, 12, .inl be))] (va_A [(h0, .inr (9, [.ref h1, .ref h21, .int xi, .ref h41, .ref h43, .ref h46, .ref h49, .int xe, .int xf])), (h1, .inr (6, [.int on, .int ot, .int op, .int os, .ref h2, .ref h6, .ref h9, .ref h14, .ref h17])), (h9, .inr (0, [.int bc, .ref h10, .ref h11, .ref h12, .ref h13])), (h10, .inl (dA 0, 12, .inl bg)), (h11, .inl (dA 0, 12, .inl bs)), (h12, .inl (dA 0, 12, .inl bt)), (h13, .inl (dA 0, 12, .inl be))] sz)) 1 6 (va_A [(h0, .inr (9, [.ref h1, .ref h21, .int xi, .ref h41, .ref h43, .ref h46, .ref h49, .int xe, .int xf])), (h1, .inr (6, [.int on, .int ot, .int op, .int os, .ref h2, .ref h6, .ref h9, .ref h14, .ref h17])), (h9, .inr (0, [.int bc, .ref h10, .ref h11, .ref h12, .ref h13])), (h10, .inl (dA 0, 12, .inl bg)), (h11, .inl (dA 0, 12, .inl bs)), (h12, .inl (dA 0, 12, .inl bt)), (h13, .inl (dA 0, 12, .inl be))] sz) := by
  refine of_Z (y := yX11_bookingByStart) (cc := cX11_bookingByStart) (maxL := 3) (ret := (some .int)) (av := [.ref h0, .int p0]) (ws := [(h0, .inr (9, [.ref h1, .ref h21, .int xi, .ref h41, .ref h43, .ref h46, .ref h49, .int xe, .int xf])), (h1, .inr (6, [.int on, .int ot, .int op, .int os, .ref h2, .ref h6, .ref h9, .ref h14, .ref h17])), (h9, .inr (0, [.int bc, .ref h10, .ref h11, .ref h12, .ref h13])), (h10, .inl (dA 0, 12, .inl bg)), (h11, .inl (dA 0, 12, .inl bs)), (h12, .inl (dA 0, 12, .inl bt)), (h13, .inl (dA 0, 12, .inl be))]) (sz := sz) (own := RX11) (XC := fun A => xcQ D (exs rx) [(h0, .inr (9, [.ref h1, .ref h21, .int xi, .ref h41, .ref h43, .ref h46, .ref h49, .int xe, .int xf])), (h1, .inr (6, [.int on, .int ot, .int op, .int os, .ref h2, .ref h6, .ref h9, .ref h14, .ref h17])), (h9, .inr (0, [.int bc, .ref h10, .ref h11, .ref h12, .ref h13])), (h10, .inl (dA 0, 12, .inl bg)), (h11, .inl (dA 0, 12, .inl bs)), (h12, .inl (dA 0, 12, .inl bt)), (h13, .inl (dA 0, 12, .inl be))] A) (by decide) rfl (Nat.le_of_ble_eq_true rfl) ?_
  intro p e s m below meth c A hx hb hr ha hown hml hlocks hin hno hP hK hD hX hS hA ls hl
  have hC := hX.1
  have hl : lv_has ls 3 [(0, .ref h0), (1, .int p0)] := hl
  rw [f_TX11_bookingByStart] at hf
  refine lv_iconst (v := 0) hx hb dX11_bookingByStart_0 (by decide) ?_
  refine lv_istore_n (lv' := [(2, .int (0 : Int32)), (0, .ref h0), (1, .int p0)]) hx hb dX11_bookingByStart_1 rfl hl (by decide) rfl (fun ls hl => ?_)
  have hL2 : ∀ (n : Nat) (k : Unit → Option Nat) (v_1 : Int32) (H : Heap) (locs : List Loc) (ls : Array Slot), va_P D cls [(h0, .inr (9, [.ref h1, .ref h21, .int xi, .ref h41, .ref h43, .ref h46, .ref h49, .int xe, .int xf])), (h1, .inr (6, [.int on, .int ot, .int op, .int os, .ref h2, .ref h6, .ref h9, .ref h14, .ref h17])), (h9, .inr (0, [.int bc, .ref h10, .ref h11, .ref h12, .ref h13])), (h10, .inl (dA 0, 12, .inl bg)), (h11, .inl (dA 0, 12, .inl bs)), (h12, .inl (dA 0, 12, .inl bt)), (h13, .inl (dA 0, 12, .inl be))] H → va_D A [(h0, .inr (9, [.ref h1, .ref h21, .int xi, .ref h41, .ref h43, .ref h46, .ref h49, .int xe, .int xf])), (h1, .inr (6, [.int on, .int ot, .int op, .int os, .ref h2, .ref h6, .ref h9, .ref h14, .ref h17])), (h9, .inr (0, [.int bc, .ref h10, .ref h11, .ref h12, .ref h13])), (h10, .inl (dA 0, 12, .inl bg)), (h11, .inl (dA 0, 12, .inl bs)), (h12, .inl (dA 0, 12, .inl bt)), (h13, .inl (dA 0, 12, .inl be))] → va_S A s.heap H locs → lv_has ls 3 [(2, .int v_1), (0, .ref h0), (1, .int p0)] → f_TX11_bookingByStart_L2 bc bs bt p0 k n v_1 = some rx → (∀ (H : Heap) (locs : List Loc) (ls : Array Slot), va_P D cls [(h0, .inr (9, [.ref h1, .ref h21, .int xi, .ref h41, .ref h43, .ref h46, .ref h49, .int xe, .int xf])), (h1, .inr (6, [.int on, .int ot, .int op, .int os, .ref h2, .ref h6, .ref h9, .ref h14, .ref h17])), (h9, .inr (0, [.int bc, .ref h10, .ref h11, .ref h12, .ref h13])), (h10, .inl (dA 0, 12, .inl bg)), (h11, .inl (dA 0, 12, .inl bs)), (h12, .inl (dA 0, 12, .inl bt)), (h13, .inl (dA 0, 12, .inl be))] H → va_D A [(h0, .inr (9, [.ref h1, .ref h21, .int xi, .ref h41, .ref h43, .ref h46, .ref h49, .int xe, .int xf])), (h1, .inr (6, [.int on, .int ot, .int op, .int os, .ref h2, .ref h6, .ref h9, .ref h14, .ref h17])), (h9, .inr (0, [.int bc, .ref h10, .ref h11, .ref h12, .ref h13])), (h10, .inl (dA 0, 12, .inl bg)), (h11, .inl (dA 0, 12, .inl bs)), (h12, .inl (dA 0, 12, .inl bt)), (h13, .inl (dA 0, 12, .inl be))] → va_S A s.heap H locs → lv_has ls 3 [] → k () = some rx → W p l e ({ frames := 6, cells := 1, slots := 6, locals := 100 } : Room) s m ([.ref h0, .int p0] : List Value).toArray below meth c H locs 0 0 (vx_MQ below noQ (xcQ D (exs rx) ([(h0, .inr (9, [.ref h1, .ref h21, .int xi, .ref h41, .ref h43, .ref h46, .ref h49, .int xe, .int xf])), (h1, .inr (6, [.int on, .int ot, .int op, .int os, .ref h2, .ref h6, .ref h9, .ref h14, .ref h17])), (h9, .inr (0, [.int bc, .ref h10, .ref h11, .ref h12, .ref h13])), (h10, .inl (dA 0, 12, .inl bg)), (h11, .inl (dA 0, 12, .inl bs)), (h12, .inl (dA 0, 12, .inl bt)), (h13, .inl (dA 0, 12, .inl be))]) A) ([.ref h0, .int p0] : List Value).toArray s 1 6 A) (F0 m 39 ls [])) → W p l e ({ frames := 6, cells := 1, slots := 6, locals := 100 } : Room) s m ([.ref h0, .int p0] : List Value).toArray below meth c H locs 0 0 (vx_MQ below noQ (xcQ D (exs rx) ([(h0, .inr (9, [.ref h1, .ref h21, .int xi, .ref h41, .ref h43, .ref h46, .ref h49, .int xe, .int xf])), (h1, .inr (6, [.int on, .int ot, .int op, .int os, .ref h2, .ref h6, .ref h9, .ref h14, .ref h17])), (h9, .inr (0, [.int bc, .ref h10, .ref h11, .ref h12, .ref h13])), (h10, .inl (dA 0, 12, .inl bg)), (h11, .inl (dA 0, 12, .inl bs)), (h12, .inl (dA 0, 12, .inl bt)), (h13, .inl (dA 0, 12, .inl be))]) A) ([.ref h0, .int p0] : List Value).toArray s 1 6 A) (F0 m 2 ls []) := by
    intro n k
    induction n with
    | zero =>
      intro v_1 H locs ls hP hD hS hl hf hk
      rw [f_TX11_bookingByStart_L2] at hf
      cases hf
    | succ n ih =>
      intro v_1 H locs ls hP hD hS hl hf hk
      rw [f_TX11_bookingByStart_L2] at hf
      refine lv_iload_n hx hb dX11_bookingByStart_2 rfl (lv_at hl 0 rfl) ?_
      refine lv_aload_n hx hb dX11_bookingByStart_3 rfl (lv_at hl 1 rfl) ?_
      refine gt_f (C := RX11) (T := TX11) (N := 9) hx hb ha in_X11 hown hK hP 0 rfl rfl 0 (by decide) m_332 rfl dX11_bookingByStart_4 ?_
      refine gt_f (C := RX8) (T := TX8) (N := 9) hx hb ha in_X8 hown hK hP 1 rfl rfl 6 (by decide) m_219 rfl dX11_bookingByStart_7 ?_
      refine gt_f (C := RX1) (T := TX1) (N := 5) hx hb ha in_X1 hown hK hP 2 rfl rfl 0 (by decide) m_143 rfl dX11_bookingByStart_10 ?_
      refine lv_icmp_ge (tgt := 39) hx hb dX11_bookingByStart_13 (by decide) (fun hc => ?_) (fun hc => ?_)
      · have hf := sf_bp hf hc
        exact hk _ _ _ (hP.sub [0, 1, 2, 3, 4, 5, 6] rfl) (hD.sub [0, 1, 2, 3, 4, 5, 6] (by decide) rfl) hS (lv_sub hl [] rfl) hf
      · have hf := sf_bn hf hc
        refine lv_aload_n hx hb dX11_bookingByStart_16 rfl (lv_at hl 1 rfl) ?_
        refine gt_f (C := RX11) (T := TX11) (N := 9) hx hb ha in_X11 hown hK hP 0 rfl rfl 0 (by decide) m_332 rfl dX11_bookingByStart_17 ?_
        refine gt_f (C := RX8) (T := TX8) (N := 9) hx hb ha in_X8 hown hK hP 1 rfl rfl 6 (by decide) m_219 rfl dX11_bookingByStart_20 ?_
        refine lv_iload_n hx hb dX11_bookingByStart_23 rfl (lv_at hl 0 rfl) ?_
        obtain ⟨r_2, hc2, hf⟩ := sf_c1e hf
        refine k_Pi (run_PV (As := [.int v_1]) (rest := []) ⟨hx, hb, hml, hown, ha⟩ (c_X1_rankByStart l D dA h9 h10 h11 h12 h13   bc bg bs bt be v_1 _ hc2) (gi_V m_796 m_797 m_798 m_35 m_799) yd_X1_rankByStart ⟨Nat.le_of_ble_eq_true rfl, Nat.le_of_ble_eq_true rfl⟩ ⟨rfl, rfl⟩ hK hP [2, 3, 4, 5, 6] rfl 2 0 rfl rfl rfl rfl hl.1 rfl (Nat.le_of_ble_eq_true rfl) dX11_bookingByStart_24 ⟨Nat.le_of_ble_eq_true rfl, Nat.le_of_ble_eq_true rfl⟩) hP hS (fun H locs hP hS => ?_)
        refine lv_iload_n hx hb dX11_bookingByStart_27 rfl (lv_at hl 2 rfl) ?_
        refine lv_icmp_ne (tgt := 33) hx hb dX11_bookingByStart_28 (by decide) (fun hc => ?_) (fun hc => ?_)
        · have hf := sf_bn hf hc
          obtain ⟨x_3, ex_3, hf⟩ := sf_ne hf
          refine ii_nc (lv' := [(2, .int x_3), (0, .ref h0), (1, .int p0)]) (k := 0) hx hb dX11_bookingByStart_33 hl rfl ex_3 (by decide) (by decide) rfl (fun ls hl => ?_)
          refine lv_goto (tgt := 2) hx hb dX11_bookingByStart_36 (by decide) ?_
          exact ih _ _ _ _ (hP.sub [0, 1, 2, 3, 4, 5, 6] rfl) (hD.sub [0, 1, 2, 3, 4, 5, 6] (by decide) rfl) hS (lv_sub hl [0, 1, 2] rfl) hf hk
        · have hf := sf_bp hf hc
          refine lv_iload_n hx hb dX11_bookingByStart_31 rfl (lv_at hl 0 rfl) ?_
          cases hf
  refine hL2 _ _ _ _ _ _ hP hD hS (lv_sub hl [0, 1, 2] rfl) hf (fun  H locs ls hP hD hS hl hf => ?_)
  cases hf
  exact th_SX (E := exs 4) (text := "there is no such rank") (sa := cA 39) nsx_4_0 nsx_4_1 nsx_4_2 nsx_4_5 hx hb hst hown ha hX hS (hP.sub [0, 1, 2, 3, 4, 5, 6] rfl) (hD.sub [0, 1, 2, 3, 4, 5, 6] (by decide) rfl) hlocks hno (hl.1.trans hml.symm) m_543 m_53 (hC.2.2.1 (RX11, 178, "there is no such rank", 39) (List.mem_of_getElem? (i := 16) rfl)) exg_129 exb_129 exo_129 exf_129 dX11_bookingByStart_39 dX11_bookingByStart_42 dX11_bookingByStart_43 dX11_bookingByStart_45 dX11_bookingByStart_48 ⟨by decide, by decide, by decide, by decide⟩ ⟨by decide, by decide⟩

def f_X11_checkBookableMinute (on : Int32) (p0 : Int32) : Option Unit :=
  sf_c1 (f_X8_isBookable on p0) (fun r_1 => sf_b (r_1 = (0 : Int32)) (none) (some ()))
theorem yd_X11_checkBookableMinute : yX11_checkBookableMinute.cls = RX11 ∧ yX11_checkBookableMinute.cls ≠ "java/lang/invoke/MethodHandle" ∧ yX11_checkBookableMinute.cls ≠ "java/lang/invoke/VarHandle" ∧ (parseMethodDescriptor yX11_checkBookableMinute.desc).map (fun d => d.parameters.length) = some 1 := ⟨rfl, by decide, by decide, by decide +kernel⟩
set_option maxRecDepth 100000 in
set_option maxHeartbeats 4000000 in
theorem c_X11_checkBookableMinute (l : Launch) (D : va_G) (dA : Nat → ClassId) (cA : Nat → Nat) (h0 h1 h2 h3 h4 h5 h6 h7 h8 h9 h10 h11 h12 h13 h14 h15 h16 h17 h18 h19 h20 h21 h41 h43 h46 h49 : Nat) (on : Int32) (ot : Int32) (op : Int32) (os : Int32) (sc : Int32) (sd : Nat → Int32) (sp : Nat → Int32) (sw : Nat → Int32) (gc : Int32) (gp : Nat → Int32) (gr : Nat → Int32) (bc : Int32) (bg : Nat → Int32) (bs : Nat → Int32) (bt : Nat → Int32) (be : Nat → Int32) (ql : Nat → Int32) (qg : Nat → Int32) (fc : Int32) (fg : Nat → Int32) (fs : Nat → Int32) (fm : Nat → Int32) (xi : Int32) (xe : Int32) (xf : Int32) (p0 : Int32) (hf : f_X11_checkBookableMinute on p0 = some ()) : Met l yX11_checkBookableMinute (wo (.code yX11_checkBookableMinute cX11_checkBookableMinute 2 none)) ({ frames := 1, cells := 0, slots := 0, locals := 21 } : Room) (preY D dA cA [.ref h0, .int p0] [(h0, .inr (9, [.ref h1, .ref h21, .int xi, .ref h41, .ref h43, .ref h46, .ref h49, .int xe, .int xf])), (h1, .inr (6, [.int on, .int ot, .int op, .int os, .ref h2, .ref h6, .ref h9, .ref h14, .ref h17])), (h2, .inr (8, [.int sc, .ref h3, .ref h4, .ref h5])), (h3, .inl (dA 0, 4, .inl sd)), (h4, .inl (dA 0, 4, .inl sp)), (h5, .inl (dA 0, 4, .inl sw)), (h6, .inr (4, [.int gc, .ref h7, .ref h8])), (h7, .inl (dA 0, 10, .inl gp)), (h8, .inl (dA 0, 10, .inl gr)), (h9, .inr (0, [.int bc, .ref h10, .ref h11, .ref h12, .ref h13])), (h10, .inl (dA 0, 12, .inl bg)), (h11, .inl (dA 0, 12, .inl bs)), (h12, .inl (dA 0, 12, .inl bt)), (h13, .inl (dA 0, 12, .inl be)), (h14, .inr (7, [.ref h15, .ref h16])), (h15, .inl (dA 0, 4, .inl ql)), (h16, .inl (dA 0, 20, .inl qg)), (h17, .inr (3, [.int fc, .ref h18, .ref h19, .ref h20])), (h18, .inl (dA 0, 16, .inl fg)), (h19, .inl (dA 0, 16, .inl fs)), (h20, .inl (dA 0, 16, .inl fm))]) (poPv) 0 0 noA := by
  refine of_Y (y := yX11_checkBookableMinute) (cc := cX11_checkBookableMinute) (maxL := 2) (ret := none) (av := [.ref h0, .int p0]) (ws := [(h0, .inr (9, [.ref h1, .ref h21, .int xi, .ref h41, .ref h43, .ref h46, .ref h49, .int xe, .int xf])), (h1, .inr (6, [.int on, .int ot, .int op, .int os, .ref h2, .ref h6, .ref h9, .ref h14, .ref h17])), (h2, .inr (8, [.int sc, .ref h3, .ref h4, .ref h5])), (h3, .inl (dA 0, 4, .inl sd)), (h4, .inl (dA 0, 4, .inl sp)), (h5, .inl (dA 0, 4, .inl sw)), (h6, .inr (4, [.int gc, .ref h7, .ref h8])), (h7, .inl (dA 0, 10, .inl gp)), (h8, .inl (dA 0, 10, .inl gr)), (h9, .inr (0, [.int bc, .ref h10, .ref h11, .ref h12, .ref h13])), (h10, .inl (dA 0, 12, .inl bg)), (h11, .inl (dA 0, 12, .inl bs)), (h12, .inl (dA 0, 12, .inl bt)), (h13, .inl (dA 0, 12, .inl be)), (h14, .inr (7, [.ref h15, .ref h16])), (h15, .inl (dA 0, 4, .inl ql)), (h16, .inl (dA 0, 20, .inl qg)), (h17, .inr (3, [.int fc, .ref h18, .ref h19, .ref h20])), (h18, .inl (dA 0, 16, .inl fg)), (h19, .inl (dA 0, 16, .inl fs)), (h20, .inl (dA 0, 16, .inl fm))]) (own := RX11) (by decide) rfl (Nat.le_of_ble_eq_true rfl) ?_
  intro p e s m below meth c hx hb hr ha hown hml hlocks hP hK hX hS ls hl
  have hC := hX.1
  have hl : lv_has ls 2 [(0, .ref h0), (1, .int p0)] := hl
  rw [f_X11_checkBookableMinute] at hf
  refine lv_aload_n hx hb dX11_checkBookableMinute_0 rfl (lv_at hl 0 rfl) ?_
  refine gt_f (C := RX11) (T := TX11) (N := 9) hx hb ha in_X11 hown hK hP 0 rfl rfl 0 (by decide) m_332 rfl dX11_checkBookableMinute_1 ?_
  refine lv_iload_n hx hb dX11_checkBookableMinute_4 rfl (lv_at hl 1 rfl) ?_
  obtain ⟨r_1, hc1, hf⟩ := sf_c1e hf
  refine k_Pi (run_PV (As := [.int p0]) (rest := []) ⟨hx, hb, hml, hown, ha⟩ (c_X8_isBookable l D dA h1 h2 h3 h4 h5 h6 h7 h8 h9 h10 h11 h12 h13 h14 h15 h16 h17 h18 h19 h20   on ot op os sc sd sp sw gc gp gr bc bg bs bt be ql qg fc fg fs fm p0 _ hc1) (gi_V m_941 m_627 m_628 m_32 m_629) yd_X8_isBookable ⟨Nat.le_of_ble_eq_true rfl, Nat.le_of_ble_eq_true rfl⟩ ⟨rfl, rfl⟩ hK hP [1, 2, 3, 4, 5, 6, 7, 8, 9, 10, 11, 12, 13, 14, 15, 16, 17, 18, 19, 20] rfl 1 6 rfl rfl rfl rfl hl.1 rfl (Nat.le_of_ble_eq_true rfl) dX11_checkBookableMinute_5 ⟨Nat.le_of_ble_eq_true rfl, Nat.le_of_ble_eq_true rfl⟩) hP hS (fun H locs hP hS => ?_)
  refine lv_if_ne (tgt := 22) hx hb dX11_checkBookableMinute_8 (by decide) (fun hc => ?_) (fun hc => ?_)
  · have hf := sf_bn hf hc
    exact rt_Pv hx hb hr hlocks hS dX11_checkBookableMinute_22
  · have hf := sf_bp hf hc
    cases hf

