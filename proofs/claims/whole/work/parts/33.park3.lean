def f_X11_firstFree (on : Int32) (sc : Int32) (sd : Nat → Int32) (bc : Int32) (bs : Nat → Int32) (bt : Nat → Int32) (be : Nat → Int32) (p0 : Int32) (p1 : Int32) : Option Int32 :=
  sf_c0 (f_X11_checkSlide sc p0) (fun _ => sf_c0 (f_X11_checkBookableMinute on p1) (fun _ => sf_c1 (f_X8_freeMinuteByTrying on sd bc bs bt be p0 p1) (fun r_1 => sf_c1 (f_X11_found r_1) (fun r_2 => some r_2))))
theorem yd_X11_firstFree : yX11_firstFree.cls = RX11 ∧ yX11_firstFree.cls ≠ "java/lang/invoke/MethodHandle" ∧ yX11_firstFree.cls ≠ "java/lang/invoke/VarHandle" ∧ (parseMethodDescriptor yX11_firstFree.desc).map (fun d => d.parameters.length) = some 2 := ⟨rfl, by decide, by decide, by decide +kernel⟩
set_option maxRecDepth 100000 in
set_option maxHeartbeats 4000000 in
theorem c_X11_firstFree (l : Launch) (D : va_G) (dA : Nat → ClassId) (cA : Nat → Nat) (h0 h1 h2 h3 h4 h5 h6 h7 h8 h9 h10 h11 h12 h13 h14 h15 h16 h17 h18 h19 h20 h21 h41 h43 h46 h49 : Nat) (on : Int32) (ot : Int32) (op : Int32) (os : Int32) (sc : Int32) (sd : Nat → Int32) (sp : Nat → Int32) (sw : Nat → Int32) (gc : Int32) (gp : Nat → Int32) (gr : Nat → Int32) (bc : Int32) (bg : Nat → Int32) (bs : Nat → Int32) (bt : Nat → Int32) (be : Nat → Int32) (ql : Nat → Int32) (qg : Nat → Int32) (fc : Int32) (fg : Nat → Int32) (fs : Nat → Int32) (fm : Nat → Int32) (xi : Int32) (xe : Int32) (xf : Int32) (p0 : Int32) (p1 : Int32) (rr : Int32) (hf : f_X11_firstFree on sc sd bc bs bt be p0 p1 = some rr) : Met l yX11_firstFree (wo (.code yX11_firstFree cX11_firstFree 3 (some .int))) ({ frames := 4, cells := 0, slots := 0, locals := 92 } : Room) (preY D dA cA [.ref h0, .int p0, .int p1] [(h0, .inr (9, [.ref h1, .ref h21, .int xi, .ref h41, .ref h43, .ref h46, .ref h49, .int xe, .int xf])), (h1, .inr (6, [.int on, .int ot, .int op, .int os, .ref h2, .ref h6, .ref h9, .ref h14, .ref h17])), (h2, .inr (8, [.int sc, .ref h3, .ref h4, .ref h5])), (h3, .inl (dA 0, 4, .inl sd)), (h4, .inl (dA 0, 4, .inl sp)), (h5, .inl (dA 0, 4, .inl sw)), (h6, .inr (4, [.int gc, .ref h7, .ref h8])), (h7, .inl (dA 0, 10, .inl gp)), (h8, .inl (dA 0, 10, .inl gr)), (h9, .inr (0, [.int bc, .ref h10, .ref h11, .ref h12, .ref h13])), (h10, .inl (dA 0, 12, .inl bg)), (h11, .inl (dA 0, 12, .inl bs)), (h12, .inl (dA 0, 12, .inl bt)), (h13, .inl (dA 0, 12, .inl be)), (h14, .inr (7, [.ref h15, .ref h16])), (h15, .inl (dA 0, 4, .inl ql)), (h16, .inl (dA 0, 20, .inl qg)), (h17, .inr (3, [.int fc, .ref h18, .ref h19, .ref h20])), (h18, .inl (dA 0, 16, .inl fg)), (h19, .inl (dA 0, 16, .inl fs)), (h20, .inl (dA 0, 16, .inl fm))]) (poPi rr) 0 0 noA := by
  refine of_Y (y := yX11_firstFree) (cc := cX11_firstFree) (maxL := 3) (ret := (some .int)) (av := [.ref h0, .int p0, .int p1]) (ws := [(h0, .inr (9, [.ref h1, .ref h21, .int xi, .ref h41, .ref h43, .ref h46, .ref h49, .int xe, .int xf])), (h1, .inr (6, [.int on, .int ot, .int op, .int os, .ref h2, .ref h6, .ref h9, .ref h14, .ref h17])), (h2, .inr (8, [.int sc, .ref h3, .ref h4, .ref h5])), (h3, .inl (dA 0, 4, .inl sd)), (h4, .inl (dA 0, 4, .inl sp)), (h5, .inl (dA 0, 4, .inl sw)), (h6, .inr (4, [.int gc, .ref h7, .ref h8])), (h7, .inl (dA 0, 10, .inl gp)), (h8, .inl (dA 0, 10, .inl gr)), (h9, .inr (0, [.int bc, .ref h10, .ref h11, .ref h12, .ref h13])), (h10, .inl (dA 0, 12, .inl bg)), (h11, .inl (dA 0, 12, .inl bs)), (h12, .inl (dA 0, 12, .inl bt)), (h13, .inl (dA 0, 12, .inl be)), (h14, .inr (7, [.ref h15, .ref h16])), (h15, .inl (dA 0, 4, .inl ql)), (h16, .inl (dA 0, 20, .inl qg)), (h17, .inr (3, [.int fc, .ref h18, .ref h19, .ref h20])), (h18, .inl (dA 0, 16, .inl fg)), (h19, .inl (dA 0, 16, .inl fs)), (h20, .inl (dA 0, 16, .inl fm))]) (own := RX11) (by decide) rfl (Nat.le_of_ble_eq_true rfl) ?_
  intro p e s m below meth c hx hb hr ha hown hml hlocks hP hK hX hS ls hl
  have hC := hX.1
  have hl : lv_has ls 3 [(0, .ref h0), (1, .int p0), (2, .int p1)] := hl
  rw [f_X11_firstFree] at hf
  refine lv_aload_n hx hb dX11_firstFree_0 rfl (lv_at hl 0 rfl) ?_
  refine lv_iload_n hx hb dX11_firstFree_1 rfl (lv_at hl 1 rfl) ?_
  obtain ⟨hc0, hf⟩ := sf_c0e hf
  refine k_Pv (run_YV (As := [.int p0]) (rest := []) ⟨hx, hb, hml, hown, ha⟩ (c_X11_checkSlide l D dA cA h0 h1 h2 h3 h4 h5 h6 h9 h14 h17 h21 h41 h43 h46 h49   on ot op os sc sd sp sw xi xe xf p0  hc0) (gi_V m_934 m_936 m_15 m_71 m_937) yd_X11_checkSlide ⟨Nat.le_of_ble_eq_true rfl, Nat.le_of_ble_eq_true rfl⟩ ⟨rfl, rfl⟩ hK hX hS hP [0, 1, 2, 3, 4, 5] rfl (va_recv hK hP (q0 := 0) rfl rfl) rfl hl.1 rfl (Nat.le_of_ble_eq_true rfl) dX11_firstFree_2 ⟨Nat.le_of_ble_eq_true rfl, Nat.le_of_ble_eq_true rfl⟩) hP hS (fun H locs hP hS => ?_)
  refine lv_aload_n hx hb dX11_firstFree_5 rfl (lv_at hl 0 rfl) ?_
  refine lv_iload_n hx hb dX11_firstFree_6 rfl (lv_at hl 2 rfl) ?_
  obtain ⟨hc0, hf⟩ := sf_c0e hf
  refine k_Pv (run_YV (As := [.int p1]) (rest := []) ⟨hx, hb, hml, hown, ha⟩ (c_X11_checkBookableMinute l D dA cA h0 h1 h2 h3 h4 h5 h6 h7 h8 h9 h10 h11 h12 h13 h14 h15 h16 h17 h18 h19 h20 h21 h41 h43 h46 h49   on ot op os sc sd sp sw gc gp gr bc bg bs bt be ql qg fc fg fs fm xi xe xf p1  hc0) (gi_V m_1050 m_1052 m_18 m_71 m_1053) yd_X11_checkBookableMinute ⟨Nat.le_of_ble_eq_true rfl, Nat.le_of_ble_eq_true rfl⟩ ⟨rfl, rfl⟩ hK hX hS hP [0, 1, 2, 3, 4, 5, 6, 7, 8, 9, 10, 11, 12, 13, 14, 15, 16, 17, 18, 19, 20] rfl (va_recv hK hP (q0 := 0) rfl rfl) rfl hl.1 rfl (Nat.le_of_ble_eq_true rfl) dX11_firstFree_7 ⟨Nat.le_of_ble_eq_true rfl, Nat.le_of_ble_eq_true rfl⟩) hP hS (fun H locs hP hS => ?_)
  refine lv_aload_n hx hb dX11_firstFree_10 rfl (lv_at hl 0 rfl) ?_
  refine gt_f (C := RX11) (T := TX11) (N := 9) hx hb ha in_X11 hown hK hP 0 rfl rfl 0 (by decide) m_370 rfl dX11_firstFree_11 ?_
  refine lv_iload_n hx hb dX11_firstFree_14 rfl (lv_at hl 1 rfl) ?_
  refine lv_iload_n hx hb dX11_firstFree_15 rfl (lv_at hl 2 rfl) ?_
  obtain ⟨r_1, hc1, hf⟩ := sf_c1e hf
  refine k_Pi (run_PV (As := [.int p0, .int p1]) (rest := []) ⟨hx, hb, hml, hown, ha⟩ (c_X8_freeMinuteByTrying l D dA h1 h2 h3 h4 h5 h6 h7 h8 h9 h10 h11 h12 h13 h14 h15 h16 h17 h18 h19 h20   on ot op os sc sd sp sw gc gp gr bc bg bs bt be ql qg fc fg fs fm p0 p1 _ hc1) (gi_V m_1071 m_1072 m_1073 m_72 m_1074) yd_X8_freeMinuteByTrying ⟨Nat.le_of_ble_eq_true rfl, Nat.le_of_ble_eq_true rfl⟩ ⟨rfl, rfl⟩ hK hP [1, 2, 3, 4, 5, 6, 7, 8, 9, 10, 11, 12, 13, 14, 15, 16, 17, 18, 19, 20] rfl 1 6 rfl rfl rfl rfl hl.1 rfl (Nat.le_of_ble_eq_true rfl) dX11_firstFree_16 ⟨Nat.le_of_ble_eq_true rfl, Nat.le_of_ble_eq_true rfl⟩) hP hS (fun H locs hP hS => ?_)
  obtain ⟨r_2, hc2, hf⟩ := sf_c1e hf
  refine k_Pi (run_YS (As := [.int r_1]) (rest := []) ⟨hx, hb, hml, hown, ha⟩ (c_X11_found l D dA cA     r_1 _ hc2) (gi_S2 m_1076 m_1077 m_71 m_1078) (yd_X11_found).2 ⟨Nat.le_of_ble_eq_true rfl, Nat.le_of_ble_eq_true rfl⟩ ⟨rfl, rfl⟩ hK hX hS hP [] rfl rfl hl.1 rfl (Nat.le_of_ble_eq_true rfl) dX11_firstFree_19 ⟨Nat.le_of_ble_eq_true rfl, Nat.le_of_ble_eq_true rfl⟩) hP hS (fun H locs hP hS => ?_)
  exact rt_Pi hx hb hr hlocks (Option.some.inj hf) hS dX11_firstFree_22

def f_TX11_firstFree (on : Int32) (sc : Int32) (sd : Nat → Int32) (bc : Int32) (bs : Nat → Int32) (bt : Nat → Int32) (be : Nat → Int32) (p0 : Int32) (p1 : Int32) : Option Nat :=
  sf_t1 (f_TX11_checkSlide sc p0) (fun k_1 => some k_1) (sf_c0 (f_X11_checkSlide sc p0) (fun _ => sf_t1 (f_TX11_checkBookableMinute on p1) (fun k_2 => some k_2) (sf_c0 (f_X11_checkBookableMinute on p1) (fun _ => sf_c1 (f_X8_freeMinuteByTrying on sd bc bs bt be p0 p1) (fun r_3 => sf_t1 (f_TX11_found r_3) (fun k_4 => some k_4) (sf_c1 (f_X11_found r_3) (fun r_5 => none)))))))
theorem yd_TX11_firstFree : yX11_firstFree.cls = RX11 ∧ yX11_firstFree.cls ≠ "java/lang/invoke/MethodHandle" ∧ yX11_firstFree.cls ≠ "java/lang/invoke/VarHandle" ∧ (parseMethodDescriptor yX11_firstFree.desc).map (fun d => d.parameters.length) = some 2 := ⟨rfl, by decide, by decide, by decide +kernel⟩
set_option maxRecDepth 100000 in
set_option maxHeartbeats 4000000 in
theorem c_TX11_firstFree (l : Launch) (D : va_G) (dA : Nat → ClassId) (cA : Nat → Nat) (hst : l.stackTraces = false) (h0 h1 h2 h3 h4 h5 h6 h7 h8 h9 h10 h11 h12 h13 h14 h15 h16 h17 h18 h19 h20 h21 h41 h43 h46 h49 : Nat) (sz : Nat) (on : Int32) (ot : Int32) (op : Int32) (os : Int32) (sc : Int32) (sd : Nat → Int32) (sp : Nat → Int32) (sw : Nat → Int32) (gc : Int32) (gp : Nat → Int32) (gr : Nat → Int32) (bc : Int32) (bg : Nat → Int32) (bs : Nat → Int32) (bt : Nat → Int32) (be : Nat → Int32) (ql : Nat → Int32) (qg : Nat → Int32) (fc : Int32) (fg : Nat → Int32) (fs : Nat → Int32) (fm : Nat → Int32) (xi : Int32) (xe : Int32) (xf : Int32) (p0 : Int32) (p1 : Int32) (rx : Nat) (hf : f_TX11_firstFree on sc sd bc bs bt be p0 p1 = some rx) : vx_Met l yX11_firstFree (wo (.code yX11_firstFree cX11_firstFree 3 (some .int))) ({ frames := 7, cells := 1, slots := 6, locals := 121 } : Room) (preX D dA cA [.ref h0, .int p0, .int p1] sz [(h0, .inr (9, [.ref h1, .ref h21, .int xi, .ref h41, .ref h43, .ref h46, .ref h49, .int xe, .int xf])), (h1, .inr (6, [.int on, .int ot, .int op, .int os, .ref h2, .ref h6, .ref h9, .ref h14, .ref h17])), (h2, .inr (8, [.int sc, .ref h3, .ref h4, .ref h5])), (h3, .inl (dA 0, 4, .inl sd)), (h4, .inl (dA 0, 4, .inl sp)), (h5, .inl (dA 0, 4, .inl sw)), (h6, .inr (4, [.int gc, .ref h7, .ref h8])), (h7, .inl (dA 0, 10, .inl gp)), (h8, .inl (dA 0, 10, .inl gr)), (h9, .inr (0, [.int bc, .ref h10, .ref h11, .ref h12, .ref h13])), (h10, .inl (dA 0, 12, .inl bg)), (h11, .inl (dA 0, 12, .inl bs)), (h12, .inl (dA 0, 12, .inl bt)), (h13, .inl (dA 0, 12, .inl be)), (h14, .inr (7, [.ref h15, .ref h16])), (h15, .inl (dA 0, 4, .inl ql)), (h16, .inl (dA 0, 20, .inl qg)), (h17, .inr (3, [.int fc, .ref h18, .ref h19, .ref h20])), (h18, .inl (dA 0, 16, .inl fg)), (h19, .inl (dA 0, 16, .inl fs)), (h20, .inl (dA 0, 16, .inl fm))]) noQ (xcQ D (exs rx) [(h0, .inr (9, [.ref h1, .ref h21, .int xi, .ref h41, .ref h43, .ref h46, .ref h49, .int xe, .int xf])), (h1, .inr (6, [.int on, .int ot, .int op, .int os, .ref h2, .ref h6, .ref h9, .ref h14, .ref h17])), (h2, .inr (8, [.int sc, .ref h3, .ref h4, .ref h5])), (h3, .inl (dA 0, 4, .inl sd)), (h4, .inl (dA 0, 4, .inl sp)), (h5, .inl (dA 0, 4, .inl sw)), (h6, .inr (4, [.int gc, .ref h7, .ref h8])), (h7, .inl (dA 0, 10, .inl gp)), (h8, .inl (dA 0, 10, .inl gr)), (h9, .inr (0, [.int bc, .ref h10, .ref h11, .ref h12, .ref h13])), (h10, .inl (dA 0, 12, .inl bg)), (h11, .inl (dA 0, 12, .inl bs)), (h12, .inl (dA 0, 12, .inl bt)), (h13, .inl (dA 0, 12, .inl be)), (h14, .inr (7, [.ref h15, .ref h16])), (h15, .inl (dA 0, 4, .inl ql)), (h16, .inl (dA 0, 20, .inl qg)), (h17, .inr (3, [.int fc, .ref h18, .ref h19, .ref h20])), (h18, .inl (dA 0, 16, .inl fg)), (h19, .inl (dA 0, 16, .inl fs)), (h20, .inl (dA 0, 16, .inl fm))] (va_A [(h0, .inr (9, [.ref h1, .ref h21, .int xi, .ref h41, .ref h43, .ref h46, .ref h49, .int xe, .int xf])), (h1, .inr (6, [.int on, .int ot, .int op, .int os, .ref h2, .ref h6, .ref h9, .ref h14, .ref h17])), (h2, .inr (8, [.int sc, .ref h3, .ref h4, .ref h5])), (h3, .inl (dA 0, 4, .inl sd)), (h4, .inl (dA 0, 4, .inl sp)), (h5, .inl (dA 0, 4, .inl sw)), (h6, .inr (4, [.int gc, .ref h7, .ref h8])), (h7, .inl (dA 0, 10, .inl gp)), (h8, .inl (dA 0, 10, .inl gr)), (h9, .inr (0, [.int bc, .ref h10, .ref h11, .ref h12, .ref h13])), (h10, .inl (dA 0, 12, .inl bg)), (h11, .inl (dA 0, 12, .inl bs)), (h12, .inl (dA 0, 12, .inl bt)), (h13, .inl (dA 0, 12, .inl be)), (h14, .inr (7, [.ref h15, .ref h16])), (h15, .inl (dA 0, 4, .inl ql)), (h16, .inl (dA 0, 20, .inl qg)), (h17, .inr (3, [.int fc, .ref h18, .ref h19, .ref h20])), (h18, .inl (dA 0, 16, .inl fg)), (h19, .inl (dA 0, 16, .inl fs)), (h20, .inl (dA 0, 16, .inl fm))] sz)) 1 6 (va_A [(h0, .inr (9, [.ref h1, .ref h21, .int xi, .ref h41, .ref h43, .ref h46, .ref h49, .int xe, .int xf])), (h1, .inr (6, [.int on, .int ot, .int op, .int os, .ref h2, .ref h6, .ref h9, .ref h14, .ref h17])), (h2, .inr (8, [.int sc, .ref h3, .ref h4, .ref h5])), (h3, .inl (dA 0, 4, .inl sd)), (h4, .inl (dA 0, 4, .inl sp)), (h5, .inl (dA 0, 4, .inl sw)), (h6, .inr (4, [.int gc, .ref h7, .ref h8])), (h7, .inl (dA 0, 10, .inl gp)), (h8, .inl (dA 0, 10, .inl gr)), (h9, .inr (0, [.int bc, .ref h10, .ref h11, .ref h12, .ref h13])), (h10, .inl (dA 0, 12, .inl bg)), (h11, .inl (dA 0, 12, .inl bs)), (h12, .inl (dA 0, 12, .inl bt)), (h13, .inl (dA 0, 12, .inl be)), (h14, .inr (7, [.ref h15, .ref h16])), (h15, .inl (dA 0, 4, .inl ql)), (h16, .inl (dA 0, 20, .inl qg)), (h17, .inr (3, [.int fc, .ref h18, .ref h19, .ref h20])), (h18, .inl (dA 0, 16, .inl fg)), (h19, .inl (dA 0, 16, .inl fs)), (h20, .inl (dA 0, 16, .inl fm))] sz) := by
  refine of_Z (y := yX11_firstFree) (cc := cX11_firstFree) (maxL := 3) (ret := (some .int)) (av := [.ref h0, .int p0, .int p1]) (ws := [(h0, .inr (9, [.ref h1, .ref h21, .int xi, .ref h41, .ref h43, .ref h46, .ref h49, .int xe, .int xf])), (h1, .inr (6, [.int on, .int ot, .int op, .int os, .ref h2, .ref h6, .ref h9, .ref h14, .ref h17])), (h2, .inr (8, [.int sc, .ref h3, .ref h4, .ref h5])), (h3, .inl (dA 0, 4, .inl sd)), (h4, .inl (dA 0, 4, .inl sp)), (h5, .inl (dA 0, 4, .inl sw)), (h6, .inr (4, [.int gc, .ref h7, .ref h8])), (h7, .inl (dA 0, 10, .inl gp)), (h8, .inl (dA 0, 10, .inl gr)), (h9, .inr (0, [.int bc, .ref h10, .ref h11, .ref h12, .ref h13])), (h10, .inl (dA 0, 12, .inl bg)), (h11, .inl (dA 0, 12, .inl bs)), (h12, .inl (dA 0, 12, .inl bt)), (h13, .inl (dA 0, 12, .inl be)), (h14, .inr (7, [.ref h15, .ref h16])), (h15, .inl (dA 0, 4, .inl ql)), (h16, .inl (dA 0, 20, .inl qg)), (h17, .inr (3, [.int fc, .ref h18, .ref h19, .ref h20])), (h18, .inl (dA 0, 16, .inl fg)), (h19, .inl (dA 0, 16, .inl fs)), (h20, .inl (dA 0, 16, .inl fm))]) (sz := sz) (own := RX11) (XC := fun A => xcQ D (exs rx) [(h0, .inr (9, [.ref h1, .ref h21, .int xi, .ref h41, .ref h43, .ref h46, .ref h49, .int xe, .int xf])), (h1, .inr (6, [.int on, .int ot, .int op, .int os, .ref h2, .ref h6, .ref h9, .ref h14, .ref h17])), (h2, .inr (8, [.int sc, .ref h3, .ref h4, .ref h5])), (h3, .inl (dA 0, 4, .inl sd)), (h4, .inl (dA 0, 4, .inl sp)), (h5, .inl (dA 0, 4, .inl sw)), (h6, .inr (4, [.int gc, .ref h7, .ref h8])), (h7, .inl (dA 0, 10, .inl gp)), (h8, .inl (dA 0, 10, .inl gr)), (h9, .inr (0, [.int bc, .ref h10, .ref h11, .ref h12, .ref h13])), (h10, .inl (dA 0, 12, .inl bg)), (h11, .inl (dA 0, 12, .inl bs)), (h12, .inl (dA 0, 12, .inl bt)), (h13, .inl (dA 0, 12, .inl be)), (h14, .inr (7, [.ref h15, .ref h16])), (h15, .inl (dA 0, 4, .inl ql)), (h16, .inl (dA 0, 20, .inl qg)), (h17, .inr (3, [.int fc, .ref h18, .ref h19, .ref h20])), (h18, .inl (dA 0, 16, .inl fg)), (h19, .inl (dA 0, 16, .inl fs)), (h20, .inl (dA 0, 16, .inl fm))] A) (by decide) rfl (Nat.le_of_ble_eq_true rfl) ?_
  intro p e s m below meth c A hx hb hr ha hown hml hlocks hin hno hP hK hD hX hS hA ls hl
  have hC := hX.1
  have hl : lv_has ls 3 [(0, .ref h0), (1, .int p0), (2, .int p1)] := hl
  rw [f_TX11_firstFree] at hf
  refine lv_aload_n hx hb dX11_firstFree_0 rfl (lv_at hl 0 rfl) ?_
  refine lv_iload_n hx hb dX11_firstFree_1 rfl (lv_at hl 1 rfl) ?_
  rcases sf_t1e hf with ⟨hnt, hf⟩ | ⟨k_1, hc1, hf⟩
  · skip
    obtain ⟨hc1, hf⟩ := sf_c0e hf
    refine k_Pv (run_YV (As := [.int p0]) (rest := []) ⟨hx, hb, hml, hown, ha⟩ (c_X11_checkSlide l D dA cA h0 h1 h2 h3 h4 h5 h6 h9 h14 h17 h21 h41 h43 h46 h49   on ot op os sc sd sp sw xi xe xf p0  hc1) (gi_V m_934 m_936 m_15 m_71 m_937) yd_X11_checkSlide ⟨Nat.le_of_ble_eq_true rfl, Nat.le_of_ble_eq_true rfl⟩ ⟨rfl, rfl⟩ hK hX hS hP [0, 1, 2, 3, 4, 5] rfl (va_recv hK hP (q0 := 0) rfl rfl) rfl hl.1 rfl (Nat.le_of_ble_eq_true rfl) dX11_firstFree_2 ⟨Nat.le_of_ble_eq_true rfl, Nat.le_of_ble_eq_true rfl⟩) hP hS (fun H locs hP hS => ?_)
    refine lv_aload_n hx hb dX11_firstFree_5 rfl (lv_at hl 0 rfl) ?_
    refine lv_iload_n hx hb dX11_firstFree_6 rfl (lv_at hl 2 rfl) ?_
    rcases sf_t1e hf with ⟨hnt, hf⟩ | ⟨k_2, hc2, hf⟩
    · skip
      obtain ⟨hc2, hf⟩ := sf_c0e hf
      refine k_Pv (run_YV (As := [.int p1]) (rest := []) ⟨hx, hb, hml, hown, ha⟩ (c_X11_checkBookableMinute l D dA cA h0 h1 h2 h3 h4 h5 h6 h7 h8 h9 h10 h11 h12 h13 h14 h15 h16 h17 h18 h19 h20 h21 h41 h43 h46 h49   on ot op os sc sd sp sw gc gp gr bc bg bs bt be ql qg fc fg fs fm xi xe xf p1  hc2) (gi_V m_1050 m_1052 m_18 m_71 m_1053) yd_X11_checkBookableMinute ⟨Nat.le_of_ble_eq_true rfl, Nat.le_of_ble_eq_true rfl⟩ ⟨rfl, rfl⟩ hK hX hS hP [0, 1, 2, 3, 4, 5, 6, 7, 8, 9, 10, 11, 12, 13, 14, 15, 16, 17, 18, 19, 20] rfl (va_recv hK hP (q0 := 0) rfl rfl) rfl hl.1 rfl (Nat.le_of_ble_eq_true rfl) dX11_firstFree_7 ⟨Nat.le_of_ble_eq_true rfl, Nat.le_of_ble_eq_true rfl⟩) hP hS (fun H locs hP hS => ?_)
      refine lv_aload_n hx hb dX11_firstFree_10 rfl (lv_at hl 0 rfl) ?_
      refine gt_f (C := RX11) (T := TX11) (N := 9) hx hb ha in_X11 hown hK hP 0 rfl rfl 0 (by decide) m_370 rfl dX11_firstFree_11 ?_
      refine lv_iload_n hx hb dX11_firstFree_14 rfl (lv_at hl 1 rfl) ?_
      refine lv_iload_n hx hb dX11_firstFree_15 rfl (lv_at hl 2 rfl) ?_
      obtain ⟨r_3, hc3, hf⟩ := sf_c1e hf
      refine k_Pi (run_PV (As := [.int p0, .int p1]) (rest := []) ⟨hx, hb, hml, hown, ha⟩ (c_X8_freeMinuteByTrying l D dA h1 h2 h3 h4 h5 h6 h7 h8 h9 h10 h11 h12 h13 h14 h15 h16 h17 h18 h19 h20   on ot op os sc sd sp sw gc gp gr bc bg bs bt be ql qg fc fg fs fm p0 p1 _ hc3) (gi_V m_1071 m_1072 m_1073 m_72 m_1074) yd_X8_freeMinuteByTrying ⟨Nat.le_of_ble_eq_true rfl, Nat.le_of_ble_eq_true rfl⟩ ⟨rfl, rfl⟩ hK hP [1, 2, 3, 4, 5, 6, 7, 8, 9, 10, 11, 12, 13, 14, 15, 16, 17, 18, 19, 20] rfl 1 6 rfl rfl rfl rfl hl.1 rfl (Nat.le_of_ble_eq_true rfl) dX11_firstFree_16 ⟨Nat.le_of_ble_eq_true rfl, Nat.le_of_ble_eq_true rfl⟩) hP hS (fun H locs hP hS => ?_)
      rcases sf_t1e hf with ⟨hnt, hf⟩ | ⟨k_4, hc4, hf⟩
      · skip
        obtain ⟨r_5, hc5, hf⟩ := sf_c1e hf
        refine k_Pi (run_YS (As := [.int r_3]) (rest := []) ⟨hx, hb, hml, hown, ha⟩ (c_X11_found l D dA cA     r_3 _ hc5) (gi_S2 m_1076 m_1077 m_71 m_1078) (yd_X11_found).2 ⟨Nat.le_of_ble_eq_true rfl, Nat.le_of_ble_eq_true rfl⟩ ⟨rfl, rfl⟩ hK hX hS hP [] rfl rfl hl.1 rfl (Nat.le_of_ble_eq_true rfl) dX11_firstFree_19 ⟨Nat.le_of_ble_eq_true rfl, Nat.le_of_ble_eq_true rfl⟩) hP hS (fun H locs hP hS => ?_)
        cases hf
      · skip
        refine k_Z (wr := [(h0, .inr (9, [.ref h1, .ref h21, .int xi, .ref h41, .ref h43, .ref h46, .ref h49, .int xe, .int xf])), (h1, .inr (6, [.int on, .int ot, .int op, .int os, .ref h2, .ref h6, .ref h9, .ref h14, .ref h17])), (h2, .inr (8, [.int sc, .ref h3, .ref h4, .ref h5])), (h3, .inl (dA 0, 4, .inl sd)), (h4, .inl (dA 0, 4, .inl sp)), (h5, .inl (dA 0, 4, .inl sw)), (h6, .inr (4, [.int gc, .ref h7, .ref h8])), (h7, .inl (dA 0, 10, .inl gp)), (h8, .inl (dA 0, 10, .inl gr)), (h9, .inr (0, [.int bc, .ref h10, .ref h11, .ref h12, .ref h13])), (h10, .inl (dA 0, 12, .inl bg)), (h11, .inl (dA 0, 12, .inl bs)), (h12, .inl (dA 0, 12, .inl bt)), (h13, .inl (dA 0, 12, .inl be)), (h14, .inr (7, [.ref h15, .ref h16])), (h15, .inl (dA 0, 4, .inl ql)), (h16, .inl (dA 0, 20, .inl qg)), (h17, .inr (3, [.int fc, .ref h18, .ref h19, .ref h20])), (h18, .inl (dA 0, 16, .inl fg)), (h19, .inl (dA 0, 16, .inl fs)), (h20, .inl (dA 0, 16, .inl fm))]) (run_ZS (As := [.int r_3]) (rest := []) ⟨hx, hb, hml, hown, ha⟩ (c_TX11_found l D dA cA hst   _  r_3 _ hc4) (gi_S2 m_1076 m_1077 m_71 m_1078) (yd_TX11_found).2 ⟨Nat.le_of_ble_eq_true rfl, Nat.le_of_ble_eq_true rfl⟩ ⟨rfl, rfl⟩ hK hX hS hA hP hD [] (by decide) rfl rfl hl.1 rfl (Nat.le_of_ble_eq_true rfl) dX11_firstFree_19 ⟨Nat.le_of_ble_eq_true rfl, Nat.le_of_ble_eq_true rfl⟩) hP hD hS hA [] [0, 1, 2, 3, 4, 5, 6, 7, 8, 9, 10, 11, 12, 13, 14, 15, 16, 17, 18, 19, 20] rfl rfl (by decide) (by decide) (fun q9 H locs hP hD hS ht9 => ?_)
        cases hf
        exact px_o hno hlocks ht9 (hP.sub [0, 1, 2, 3, 4, 5, 6, 7, 8, 9, 10, 11, 12, 13, 14, 15, 16, 17, 18, 19, 20] rfl) (hD.sub [0, 1, 2, 3, 4, 5, 6, 7, 8, 9, 10, 11, 12, 13, 14, 15, 16, 17, 18, 19, 20] (by decide) rfl) hS (by decide) (by decide)
    · skip
      refine k_Z (wr := []) (run_ZV (As := [.int p1]) (rest := []) ⟨hx, hb, hml, hown, ha⟩ (c_TX11_checkBookableMinute l D dA cA hst h0 h1 h2 h3 h4 h5 h6 h7 h8 h9 h10 h11 h12 h13 h14 h15 h16 h17 h18 h19 h20 h21 h41 h43 h46 h49  _ on ot op os sc sd sp sw gc gp gr bc bg bs bt be ql qg fc fg fs fm xi xe xf p1 _ hc2) (gi_V m_1050 m_1052 m_18 m_71 m_1053) yd_TX11_checkBookableMinute ⟨Nat.le_of_ble_eq_true rfl, Nat.le_of_ble_eq_true rfl⟩ ⟨rfl, rfl⟩ hK hX hS hA hP hD [0, 1, 2, 3, 4, 5, 6, 7, 8, 9, 10, 11, 12, 13, 14, 15, 16, 17, 18, 19, 20] (by decide) rfl (va_recv hK hP (q0 := 0) rfl rfl) rfl hl.1 rfl (Nat.le_of_ble_eq_true rfl) dX11_firstFree_7 ⟨Nat.le_of_ble_eq_true rfl, Nat.le_of_ble_eq_true rfl⟩) hP hD hS hA [0, 1, 2, 3, 4, 5, 6, 7, 8, 9, 10, 11, 12, 13, 14, 15, 16, 17, 18, 19, 20] [] rfl rfl (by decide) (by decide) (fun q9 H locs hP hD hS ht9 => ?_)
      cases hf
      exact px_o hno hlocks ht9 (hP.sub [0, 1, 2, 3, 4, 5, 6, 7, 8, 9, 10, 11, 12, 13, 14, 15, 16, 17, 18, 19, 20] rfl) (hD.sub [0, 1, 2, 3, 4, 5, 6, 7, 8, 9, 10, 11, 12, 13, 14, 15, 16, 17, 18, 19, 20] (by decide) rfl) hS (by decide) (by decide)
  · skip
    refine k_Z (wr := [(h6, .inr (4, [.int gc, .ref h7, .ref h8])), (h7, .inl (dA 0, 10, .inl gp)), (h8, .inl (dA 0, 10, .inl gr)), (h9, .inr (0, [.int bc, .ref h10, .ref h11, .ref h12, .ref h13])), (h10, .inl (dA 0, 12, .inl bg)), (h11, .inl (dA 0, 12, .inl bs)), (h12, .inl (dA 0, 12, .inl bt)), (h13, .inl (dA 0, 12, .inl be)), (h14, .inr (7, [.ref h15, .ref h16])), (h15, .inl (dA 0, 4, .inl ql)), (h16, .inl (dA 0, 20, .inl qg)), (h17, .inr (3, [.int fc, .ref h18, .ref h19, .ref h20])), (h18, .inl (dA 0, 16, .inl fg)), (h19, .inl (dA 0, 16, .inl fs)), (h20, .inl (dA 0, 16, .inl fm))]) (run_ZV (As := [.int p0]) (rest := []) ⟨hx, hb, hml, hown, ha⟩ (c_TX11_checkSlide l D dA cA hst h0 h1 h2 h3 h4 h5 h6 h9 h14 h17 h21 h41 h43 h46 h49  _ on ot op os sc sd sp sw xi xe xf p0 _ hc1) (gi_V m_934 m_936 m_15 m_71 m_937) yd_TX11_checkSlide ⟨Nat.le_of_ble_eq_true rfl, Nat.le_of_ble_eq_true rfl⟩ ⟨rfl, rfl⟩ hK hX hS hA hP hD [0, 1, 2, 3, 4, 5] (by decide) rfl (va_recv hK hP (q0 := 0) rfl rfl) rfl hl.1 rfl (Nat.le_of_ble_eq_true rfl) dX11_firstFree_2 ⟨Nat.le_of_ble_eq_true rfl, Nat.le_of_ble_eq_true rfl⟩) hP hD hS hA [0, 1, 2, 3, 4, 5] [6, 7, 8, 9, 10, 11, 12, 13, 14, 15, 16, 17, 18, 19, 20] rfl rfl (by decide) (by decide) (fun q9 H locs hP hD hS ht9 => ?_)
    cases hf
    exact px_o hno hlocks ht9 (hP.sub [15, 16, 17, 18, 19, 20, 0, 1, 2, 3, 4, 5, 6, 7, 8, 9, 10, 11, 12, 13, 14] rfl) (hD.sub [15, 16, 17, 18, 19, 20, 0, 1, 2, 3, 4, 5, 6, 7, 8, 9, 10, 11, 12, 13, 14] (by decide) rfl) hS (by decide) (by decide)

def f_X11_firstFreeByGaps (on : Int32) (sc : Int32) (sd : Nat → Int32) (bc : Int32) (bs : Nat → Int32) (bt : Nat → Int32) (be : Nat → Int32) (p0 : Int32) (p1 : Int32) : Option Int32 :=
  sf_c0 (f_X11_checkSlide sc p0) (fun _ => sf_c0 (f_X11_checkBookableMinute on p1) (fun _ => sf_c1 (f_X8_freeMinuteByGaps on sd bc bs bt be p0 p1) (fun r_1 => sf_c1 (f_X11_found r_1) (fun r_2 => some r_2))))
theorem yd_X11_firstFreeByGaps : yX11_firstFreeByGaps.cls = RX11 ∧ yX11_firstFreeByGaps.cls ≠ "java/lang/invoke/MethodHandle" ∧ yX11_firstFreeByGaps.cls ≠ "java/lang/invoke/VarHandle" ∧ (parseMethodDescriptor yX11_firstFreeByGaps.desc).map (fun d => d.parameters.length) = some 2 := ⟨rfl, by decide, by decide, by decide +kernel⟩
set_option maxRecDepth 100000 in
set_option maxHeartbeats 4000000 in
theorem c_X11_firstFreeByGaps (l : Launch) (D : va_G) (dA : Nat → ClassId) (cA : Nat → Nat) (h0 h1 h2 h3 h4 h5 h6 h7 h8 h9 h10 h11 h12 h13 h14 h15 h16 h17 h18 h19 h20 h21 h41 h43 h46 h49 : Nat) (on : Int32) (ot : Int32) (op : Int32) (os : Int32) (sc : Int32) (sd : Nat → Int32) (sp : Nat → Int32) (sw : Nat → Int32) (gc : Int32) (gp : Nat → Int32) (gr : Nat → Int32) (bc : Int32) (bg : Nat → Int32) (bs : Nat → Int32) (bt : Nat → Int32) (be : Nat → Int32) (ql : Nat → Int32) (qg : Nat → Int32) (fc : Int32) (fg : Nat → Int32) (fs : Nat → Int32) (fm : Nat → Int32) (xi : Int32) (xe : Int32) (xf : Int32) (p0 : Int32) (p1 : Int32) (rr : Int32) (hf : f_X11_firstFreeByGaps on sc sd bc bs bt be p0 p1 = some rr) : Met l yX11_firstFreeByGaps (wo (.code yX11_firstFreeByGaps cX11_firstFreeByGaps 3 (some .int))) ({ frames := 2, cells := 0, slots := 0, locals := 106 } : Room) (preY D dA cA [.ref h0, .int p0, .int p1] [(h0, .inr (9, [.ref h1, .ref h21, .int xi, .ref h41, .ref h43, .ref h46, .ref h49, .int xe, .int xf])), (h1, .inr (6, [.int on, .int ot, .int op, .int os, .ref h2, .ref h6, .ref h9, .ref h14, .ref h17])), (h2, .inr (8, [.int sc, .ref h3, .ref h4, .ref h5])), (h3, .inl (dA 0, 4, .inl sd)), (h4, .inl (dA 0, 4, .inl sp)), (h5, .inl (dA 0, 4, .inl sw)), (h6, .inr (4, [.int gc, .ref h7, .ref h8])), (h7, .inl (dA 0, 10, .inl gp)), (h8, .inl (dA 0, 10, .inl gr)), (h9, .inr (0, [.int bc, .ref h10, .ref h11, .ref h12, .ref h13])), (h10, .inl (dA 0, 12, .inl bg)), (h11, .inl (dA 0, 12, .inl bs)), (h12, .inl (dA 0, 12, .inl bt)), (h13, .inl (dA 0, 12, .inl be)), (h14, .inr (7, [.ref h15, .ref h16])), (h15, .inl (dA 0, 4, .inl ql)), (h16, .inl (dA 0, 20, .inl qg)), (h17, .inr (3, [.int fc, .ref h18, .ref h19, .ref h20])), (h18, .inl (dA 0, 16, .inl fg)), (h19, .inl (dA 0, 16, .inl fs)), (h20, .inl (dA 0, 16, .inl fm))]) (poPi rr) 0 0 noA := by
  refine of_Y (y := yX11_firstFreeByGaps) (cc := cX11_firstFreeByGaps) (maxL := 3) (ret := (some .int)) (av := [.ref h0, .int p0, .int p1]) (ws := [(h0, .inr (9, [.ref h1, .ref h21, .int xi, .ref h41, .ref h43, .ref h46, .ref h49, .int xe, .int xf])), (h1, .inr (6, [.int on, .int ot, .int op, .int os, .ref h2, .ref h6, .ref h9, .ref h14, .ref h17])), (h2, .inr (8, [.int sc, .ref h3, .ref h4, .ref h5])), (h3, .inl (dA 0, 4, .inl sd)), (h4, .inl (dA 0, 4, .inl sp)), (h5, .inl (dA 0, 4, .inl sw)), (h6, .inr (4, [.int gc, .ref h7, .ref h8])), (h7, .inl (dA 0, 10, .inl gp)), (h8, .inl (dA 0, 10, .inl gr)), (h9, .inr (0, [.int bc, .ref h10, .ref h11, .ref h12, .ref h13])), (h10, .inl (dA 0, 12, .inl bg)), (h11, .inl (dA 0, 12, .inl bs)), (h12, .inl (dA 0, 12, .inl bt)), (h13, .inl (dA 0, 12, .inl be)), (h14, .inr (7, [.ref h15, .ref h16])), (h15, .inl (dA 0, 4, .inl ql)), (h16, .inl (dA 0, 20, .inl qg)), (h17, .inr (3, [.int fc, .ref h18, .ref h19, .ref h20])), (h18, .inl (dA 0, 16, .inl fg)), (h19, .inl (dA 0, 16, .inl fs)), (h20, .inl (dA 0, 16, .inl fm))]) (own := RX11) (by decide) rfl (Nat.le_of_ble_eq_true rfl) ?_
  intro p e s m below meth c hx hb hr ha hown hml hlocks hP hK hX hS ls hl
  have hC := hX.1
  have hl : lv_has ls 3 [(0, .ref h0), (1, .int p0), (2, .int p1)] := hl
  rw [f_X11_firstFreeByGaps] at hf
  refine lv_aload_n hx hb dX11_firstFreeByGaps_0 rfl (lv_at hl 0 rfl) ?_
  refine lv_iload_n hx hb dX11_firstFreeByGaps_1 rfl (lv_at hl 1 rfl) ?_
  obtain ⟨hc0, hf⟩ := sf_c0e hf
  refine k_Pv (run_YV (As := [.int p0]) (rest := []) ⟨hx, hb, hml, hown, ha⟩ (c_X11_checkSlide l D dA cA h0 h1 h2 h3 h4 h5 h6 h9 h14 h17 h21 h41 h43 h46 h49   on ot op os sc sd sp sw xi xe xf p0  hc0) (gi_V m_934 m_936 m_15 m_71 m_937) yd_X11_checkSlide ⟨Nat.le_of_ble_eq_true rfl, Nat.le_of_ble_eq_true rfl⟩ ⟨rfl, rfl⟩ hK hX hS hP [0, 1, 2, 3, 4, 5] rfl (va_recv hK hP (q0 := 0) rfl rfl) rfl hl.1 rfl (Nat.le_of_ble_eq_true rfl) dX11_firstFreeByGaps_2 ⟨Nat.le_of_ble_eq_true rfl, Nat.le_of_ble_eq_true rfl⟩) hP hS (fun H locs hP hS => ?_)
  refine lv_aload_n hx hb dX11_firstFreeByGaps_5 rfl (lv_at hl 0 rfl) ?_
  refine lv_iload_n hx hb dX11_firstFreeByGaps_6 rfl (lv_at hl 2 rfl) ?_
  obtain ⟨hc0, hf⟩ := sf_c0e hf
  refine k_Pv (run_YV (As := [.int p1]) (rest := []) ⟨hx, hb, hml, hown, ha⟩ (c_X11_checkBookableMinute l D dA cA h0 h1 h2 h3 h4 h5 h6 h7 h8 h9 h10 h11 h12 h13 h14 h15 h16 h17 h18 h19 h20 h21 h41 h43 h46 h49   on ot op os sc sd sp sw gc gp gr bc bg bs bt be ql qg fc fg fs fm xi xe xf p1  hc0) (gi_V m_1050 m_1052 m_18 m_71 m_1053) yd_X11_checkBookableMinute ⟨Nat.le_of_ble_eq_true rfl, Nat.le_of_ble_eq_true rfl⟩ ⟨rfl, rfl⟩ hK hX hS hP [0, 1, 2, 3, 4, 5, 6, 7, 8, 9, 10, 11, 12, 13, 14, 15, 16, 17, 18, 19, 20] rfl (va_recv hK hP (q0 := 0) rfl rfl) rfl hl.1 rfl (Nat.le_of_ble_eq_true rfl) dX11_firstFreeByGaps_7 ⟨Nat.le_of_ble_eq_true rfl, Nat.le_of_ble_eq_true rfl⟩) hP hS (fun H locs hP hS => ?_)
  refine lv_aload_n hx hb dX11_firstFreeByGaps_10 rfl (lv_at hl 0 rfl) ?_
  refine gt_f (C := RX11) (T := TX11) (N := 9) hx hb ha in_X11 hown hK hP 0 rfl rfl 0 (by decide) m_370 rfl dX11_firstFreeByGaps_11 ?_
  refine lv_iload_n hx hb dX11_firstFreeByGaps_14 rfl (lv_at hl 1 rfl) ?_
  refine lv_iload_n hx hb dX11_firstFreeByGaps_15 rfl (lv_at hl 2 rfl) ?_
  obtain ⟨r_1, hc1, hf⟩ := sf_c1e hf
  refine k_Pi (run_PV (As := [.int p0, .int p1]) (rest := []) ⟨hx, hb, hml, hown, ha⟩ (c_X8_freeMinuteByGaps l D dA h1 h2 h3 h4 h5 h6 h7 h8 h9 h10 h11 h12 h13 h14 h15 h16 h17 h18 h19 h20   on ot op os sc sd sp sw gc gp gr bc bg bs bt be ql qg fc fg fs fm p0 p1 _ hc1) (gi_V m_1087 m_1088 m_1089 m_72 m_1090) yd_X8_freeMinuteByGaps ⟨Nat.le_of_ble_eq_true rfl, Nat.le_of_ble_eq_true rfl⟩ ⟨rfl, rfl⟩ hK hP [1, 2, 3, 4, 5, 6, 7, 8, 9, 10, 11, 12, 13, 14, 15, 16, 17, 18, 19, 20] rfl 1 6 rfl rfl rfl rfl hl.1 rfl (Nat.le_of_ble_eq_true rfl) dX11_firstFreeByGaps_16 ⟨Nat.le_of_ble_eq_true rfl, Nat.le_of_ble_eq_true rfl⟩) hP hS (fun H locs hP hS => ?_)
  obtain ⟨r_2, hc2, hf⟩ := sf_c1e hf
  refine k_Pi (run_YS (As := [.int r_1]) (rest := []) ⟨hx, hb, hml, hown, ha⟩ (c_X11_found l D dA cA     r_1 _ hc2) (gi_S2 m_1076 m_1077 m_71 m_1078) (yd_X11_found).2 ⟨Nat.le_of_ble_eq_true rfl, Nat.le_of_ble_eq_true rfl⟩ ⟨rfl, rfl⟩ hK hX hS hP [] rfl rfl hl.1 rfl (Nat.le_of_ble_eq_true rfl) dX11_firstFreeByGaps_19 ⟨Nat.le_of_ble_eq_true rfl, Nat.le_of_ble_eq_true rfl⟩) hP hS (fun H locs hP hS => ?_)
  exact rt_Pi hx hb hr hlocks (Option.some.inj hf) hS dX11_firstFreeByGaps_22

def f_TX11_firstFreeByGaps (on : Int32) (sc : Int32) (sd : Nat → Int32) (bc : Int32) (bs : Nat → Int32) (bt : Nat → Int32) (be : Nat → Int32) (p0 : Int32) (p1 : Int32) : Option Nat :=
  sf_t1 (f_TX11_checkSlide sc p0) (fun k_1 => some k_1) (sf_c0 (f_X11_checkSlide sc p0) (fun _ => sf_t1 (f_TX11_checkBookableMinute on p1) (fun k_2 => some k_2) (sf_c0 (f_X11_checkBookableMinute on p1) (fun _ => sf_c1 (f_X8_freeMinuteByGaps on sd bc bs bt be p0 p1) (fun r_3 => sf_t1 (f_TX11_found r_3) (fun k_4 => some k_4) (sf_c1 (f_X11_found r_3) (fun r_5 => none)))))))
theorem yd_TX11_firstFreeByGaps : yX11_firstFreeByGaps.cls = RX11 ∧ yX11_firstFreeByGaps.cls ≠ "java/lang/invoke/MethodHandle" ∧ yX11_firstFreeByGaps.cls ≠ "java/lang/invoke/VarHandle" ∧ (parseMethodDescriptor yX11_firstFreeByGaps.desc).map (fun d => d.parameters.length) = some 2 := ⟨rfl, by decide, by decide, by decide +kernel⟩
set_option maxRecDepth 100000 in
set_option maxHeartbeats 4000000 in
theorem c_TX11_firstFreeByGaps (l : Launch) (D : va_G) (dA : Nat → ClassId) (cA : Nat → Nat) (hst : l.stackTraces = false) (h0 h1 h2 h3 h4 h5 h6 h7 h8 h9 h10 h11 h12 h13 h14 h15 h16 h17 h18 h19 h20 h21 h41 h43 h46 h49 : Nat) (sz : Nat) (on : Int32) (ot : Int32) (op : Int32) (os : Int32) (sc : Int32) (sd : Nat → Int32) (sp : Nat → Int32) (sw : Nat → Int32) (gc : Int32) (gp : Nat → Int32) (gr : Nat → Int32) (bc : Int32) (bg : Nat → Int32) (bs : Nat → Int32) (bt : Nat → Int32) (be : Nat → Int32) (ql : Nat → Int32) (qg : Nat → Int32) (fc : Int32) (fg : Nat → Int32) (fs : Nat → Int32) (fm : Nat → Int32) (xi : Int32) (xe : Int32) (xf : Int32) (p0 : Int32) (p1 : Int32) (rx : Nat) (hf : f_TX11_firstFreeByGaps on sc sd bc bs bt be p0 p1 = some rx) : vx_Met l yX11_firstFreeByGaps (wo (.code yX11_firstFreeByGaps cX11_firstFreeByGaps 3 (some .int))) ({ frames := 7, cells := 1, slots := 6, locals := 121 } : Room) (preX D dA cA [.ref h0, .int p0, .int p1] sz [(h0, .inr (9, [.ref h1, .ref h21, .int xi, .ref h41, .ref h43, .ref h46, .ref h49, .int xe, .int xf])), (h1, .inr (6, [.int on, .int ot, .int op, .int os, .ref h2, .ref h6, .ref h9, .ref h14, .ref h17])), (h2, .inr (8, [.int sc, .ref h3, .ref h4, .ref h5])), (h3, .inl (dA 0, 4, .inl sd)), (h4, .inl (dA 0, 4, .inl sp)), (h5, .inl (dA 0, 4, .inl sw)), (h6, .inr (4, [.int gc, .ref h7, .ref h8])), (h7, .inl (dA 0, 10, .inl gp)), (h8, .inl (dA 0, 10, .inl gr)), (h9, .inr (0, [.int bc, .ref h10, .ref h11, .ref h12, .ref h13])), (h10, .inl (dA 0, 12, .inl bg)), (h11, .inl (dA 0, 12, .inl bs)), (h12, .inl (dA 0, 12, .inl bt)), (h13, .inl (dA 0, 12, .inl be)), (h14, .inr (7, [.ref h15, .ref h16])), (h15, .inl (dA 0, 4, .inl ql)), (h16, .inl (dA 0, 20, .inl qg)), (h17, .inr (3, [.int fc, .ref h18, .ref h19, .ref h20])), (h18, .inl (dA 0, 16, .inl fg)), (h19, .inl (dA 0, 16, .inl fs)), (h20, .inl (dA 0, 16, .inl fm))]) noQ (xcQ D (exs rx) [(h0, .inr (9, [.ref h1, .ref h21, .int xi, .ref h41, .ref h43, .ref h46, .ref h49, .int xe, .int xf])), (h1, .inr (6, [.int on, .int ot, .int op, .int os, .ref h2, .ref h6, .ref h9, .ref h14, .ref h17])), (h2, .inr (8, [.int sc, .ref h3, .ref h4, .ref h5])), (h3, .inl (dA 0, 4, .inl sd)), (h4, .inl (dA 0, 4, .inl sp)), (h5, .inl (dA 0, 4, .inl sw)), (h6, .inr (4, [.int gc, .ref h7, .ref h8])), (h7, .inl (dA 0, 10, .inl gp)), (h8, .inl (dA 0, 10, .inl gr)), (h9, .inr (0, [.int bc, .ref h10, .ref h11, .ref h12, .ref h13])), (h10, .inl (dA 0, 12, .inl bg)), (h11, .inl (dA 0, 12, .inl bs)), (h12, .inl (dA 0, 12, .inl bt)), (h13, .inl (dA 0, 12, .inl be)), (h14, .inr (7, [.ref h15, .ref h16])), (h15, .inl (dA 0, 4, .inl ql)), (h16, .inl (dA 0, 20, .inl qg)), (h17, .inr (3, [.int fc, .ref h18, .ref h19, .ref h20])), (h18, .inl (dA 0, 16, .inl fg)), (h19, .inl (dA 0, 16, .inl fs)), (h20, .inl (dA 0, 16, .inl fm))] (va_A [(h0, .inr (9, [.ref h1, .ref h21, .int xi, .ref h41, .ref h43, .ref h46, .ref h49, .int xe, .int xf])), (h1, .inr (6, [.int on, .int ot, .int op, .int os, .ref h2, .ref h6, .ref h9, .ref h14, .ref h17])), (h2, .inr (8, [.int sc, .ref h3, .ref h4, .ref h5])), (h3, .inl (dA 0, 4, .inl sd)), (h4, .inl (dA 0, 4, .inl sp)), (h5, .inl (dA 0, 4, .inl sw)), (h6, .inr (4, [.int gc, .ref h7, .ref h8])), (h7, .inl (dA 0, 10, .inl gp)), (h8, .inl (dA 0, 10, .inl gr)), (h9, .inr (0, [.int bc, .ref h10, .ref h11, .ref h12, .ref h13])), (h10, .inl (dA 0, 12, .inl bg)), (h11, .inl (dA 0, 12, .inl bs)), (h12, .inl (dA 0, 12, .inl bt)), (h13, .inl (dA 0, 12, .inl be)), (h14, .inr (7, [.ref h15, .ref h16])), (h15, .inl (dA 0, 4, .inl ql)), (h16, .inl (dA 0, 20, .inl qg)), (h17, .inr (3, [.int fc, .ref h18, .ref h19, .ref h20])), (h18, .inl (dA 0, 16, .inl fg)), (h19, .inl (dA 0, 16, .inl fs)), (h20, .inl (dA 0, 16, .inl fm))] sz)) 1 6 (va_A [(h0, .inr (9, [.ref h1, .ref h21, .int xi, .ref h41, .ref h43, .ref h46, .ref h49, .int xe, .int xf])), (h1, .inr (6, [.int on, .int ot, .int op, .int os, .ref h2, .ref h6, .ref h9, .ref h14, .ref h17])), (h2, .inr (8, [.int sc, .ref h3, .ref h4, .ref h5])), (h3, .inl (dA 0, 4, .inl sd)), (h4, .inl (dA 0, 4, .inl sp)), (h5, .inl (dA 0, 4, .inl sw)), (h6, .inr (4, [.int gc, .ref h7, .ref h8])), (h7, .inl (dA 0, 10, .inl gp)), (h8, .inl (dA 0, 10, .inl gr)), (h9, .inr (0, [.int bc, .ref h10, .ref h11, .ref h12, .ref h13])), (h10, .inl (dA 0, 12, .inl bg)), (h11, .inl (dA 0, 12, .inl bs)), (h12, .inl (dA 0, 12, .inl bt)), (h13, .inl (dA 0, 12, .inl be)), (h14, .inr (7, [.ref h15, .ref h16])), (h15, .inl (dA 0, 4, .inl ql)), (h16, .inl (dA 0, 20, .inl qg)), (h17, .inr (3, [.int fc, .ref h18, .ref h19, .ref h20])), (h18, .inl (dA 0, 16, .inl fg)), (h19, .inl (dA 0, 16, .inl fs)), (h20, .inl (dA 0, 16, .inl fm))] sz) := by
  refine of_Z (y := yX11_firstFreeByGaps) (cc := cX11_firstFreeByGaps) (maxL := 3) (ret := (some .int)) (av := [.ref h0, .int p0, .int p1]) (ws := [(h0, .inr (9, [.ref h1, .ref h21, .int xi, .ref h41, .ref h43, .ref h46, .ref h49, .int xe, .int xf])), (h1, .inr (6, [.int on, .int ot, .int op, .int os, .ref h2, .ref h6, .ref h9, .ref h14, .ref h17])), (h2, .inr (8, [.int sc, .ref h3, .ref h4, .ref h5])), (h3, .inl (dA 0, 4, .inl sd)), (h4, .inl (dA 0, 4, .inl sp)), (h5, .inl (dA 0, 4, .inl sw)), (h6, .inr (4, [.int gc, .ref h7, .ref h8])), (h7, .inl (dA 0, 10, .inl gp)), (h8, .inl (dA 0, 10, .inl gr)), (h9, .inr (0, [.int bc, .ref h10, .ref h11, .ref h12, .ref h13])), (h10, .inl (dA 0, 12, .inl bg)), (h11, .inl (dA 0, 12, .inl bs)), (h12, .inl (dA 0, 12, .inl bt)), (h13, .inl (dA 0, 12, .inl be)), (h14, .inr (7, [.ref h15, .ref h16])), (h15, .inl (dA 0, 4, .inl ql)), (h16, .inl (dA 0, 20, .inl qg)), (h17, .inr (3, [.int fc, .ref h18, .ref h19, .ref h20])), (h18, .inl (dA 0, 16, .inl fg)), (h19, .inl (dA 0, 16, .inl fs)), (h20, .inl (dA 0, 16, .inl fm))]) (sz := sz) (own := RX11) (XC := fun A => xcQ D (exs rx) [(h0, .inr (9, [.ref h1, .ref h21, .int xi, .ref h41, .ref h43, .ref h46, .ref h49, .int xe, .int xf])), (h1, .inr (6, [.int on, .int ot, .int op, .int os, .ref h2, .ref h6, .ref h9, .ref h14, .ref h17])), (h2, .inr (8, [.int sc, .ref h3, .ref h4, .ref h5])), (h3, .inl (dA 0, 4, .inl sd)), (h4, .inl (dA 0, 4, .inl sp)), (h5, .inl (dA 0, 4, .inl sw)), (h6, .inr (4, [.int gc, .ref h7, .ref h8])), (h7, .inl (dA 0, 10, .inl gp)), (h8, .inl (dA 0, 10, .inl gr)), (h9, .inr (0, [.int bc, .ref h10, .ref h11, .ref h12, .ref h13])), (h10, .inl (dA 0, 12, .inl bg)), (h11, .inl (dA 0, 12, .inl bs)), (h12, .inl (dA 0, 12, .inl bt)), (h13, .inl (dA 0, 12, .inl be)), (h14, .inr (7, [.ref h15, .ref h16])), (h15, .inl (dA 0, 4, .inl ql)), (h16, .inl (dA 0, 20, .inl qg)), (h17, .inr (3, [.int fc, .ref h18, .ref h19, .ref h20])), (h18, .inl (dA 0, 16, .inl fg)), (h19, .inl (dA 0, 16, .inl fs)), (h20, .inl (dA 0, 16, .inl fm))] A) (by decide) rfl (Nat.le_of_ble_eq_true rfl) ?_
  intro p e s m below meth c A hx hb hr ha hown hml hlocks hin hno hP hK hD hX hS hA ls hl
  have hC := hX.1
  have hl : lv_has ls 3 [(0, .ref h0), (1, .int p0), (2, .int p1)] := hl
  rw [f_TX11_firstFreeByGaps] at hf
  refine lv_aload_n hx hb dX11_firstFreeByGaps_0 rfl (lv_at hl 0 rfl) ?_
  refine lv_iload_n hx hb dX11_firstFreeByGaps_1 rfl (lv_at hl 1 rfl) ?_
  rcases sf_t1e hf with ⟨hnt, hf⟩ | ⟨k_1, hc1, hf⟩
  · skip
    obtain ⟨hc1, hf⟩ := sf_c0e hf
    refine k_Pv (run_YV (As := [.int p0]) (rest := []) ⟨hx, hb, hml, hown, ha⟩ (c_X11_checkSlide l D dA cA h0 h1 h2 h3 h4 h5 h6 h9 h14 h17 h21 h41 h43 h46 h49   on ot op os sc sd sp sw xi xe xf p0  hc1) (gi_V m_934 m_936 m_15 m_71 m_937) yd_X11_checkSlide ⟨Nat.le_of_ble_eq_true rfl, Nat.le_of_ble_eq_true rfl⟩ ⟨rfl, rfl⟩ hK hX hS hP [0, 1, 2, 3, 4, 5] rfl (va_recv hK hP (q0 := 0) rfl rfl) rfl hl.1 rfl (Nat.le_of_ble_eq_true rfl) dX11_firstFreeByGaps_2 ⟨Nat.le_of_ble_eq_true rfl, Nat.le_of_ble_eq_true rfl⟩) hP hS (fun H locs hP hS => ?_)
    refine lv_aload_n hx hb dX11_firstFreeByGaps_5 rfl (lv_at hl 0 rfl) ?_
    refine lv_iload_n hx hb dX11_firstFreeByGaps_6 rfl (lv_at hl 2 rfl) ?_
    rcases sf_t1e hf with ⟨hnt, hf⟩ | ⟨k_2, hc2, hf⟩
    · skip
      obtain ⟨hc2, hf⟩ := sf_c0e hf
      refine k_Pv (run_YV (As := [.int p1]) (rest := []) ⟨hx, hb, hml, hown, ha⟩ (c_X11_checkBookableMinute l D dA cA h0 h1 h2 h3 h4 h5 h6 h7 h8 h9 h10 h11 h12 h13 h14 h15 h16 h17 h18 h19 h20 h21 h41 h43 h46 h49   on ot op os sc sd sp sw gc gp gr bc bg bs bt be ql qg fc fg fs fm xi xe xf p1  hc2) (gi_V m_1050 m_1052 m_18 m_71 m_1053) yd_X11_checkBookableMinute ⟨Nat.le_of_ble_eq_true rfl, Nat.le_of_ble_eq_true rfl⟩ ⟨rfl, rfl⟩ hK hX hS hP [0, 1, 2, 3, 4, 5, 6, 7, 8, 9, 10, 11, 12, 13, 14, 15, 16, 17, 18, 19, 20] rfl (va_recv hK hP (q0 := 0) rfl rfl) rfl hl.1 rfl (Nat.le_of_ble_eq_true rfl) dX11_firstFreeByGaps_7 ⟨Nat.le_of_ble_eq_true rfl, Nat.le_of_ble_eq_true rfl⟩) hP hS (fun H locs hP hS => ?_)
      refine lv_aload_n hx hb dX11_firstFreeByGaps_10 rfl (lv_at hl 0 rfl) ?_
      refine gt_f (C := RX11) (T := TX11) (N := 9) hx hb ha in_X11 hown hK hP 0 rfl rfl 0 (by decide) m_370 rfl dX11_firstFreeByGaps_11 ?_
      refine lv_iload_n hx hb dX11_firstFreeByGaps_14 rfl (lv_at hl 1 rfl) ?_
      refine lv_iload_n hx hb dX11_firstFreeByGaps_15 rfl (lv_at hl 2 rfl) ?_
      obtain ⟨r_3, hc3, hf⟩ := sf_c1e hf
      refine k_Pi (run_PV (As := [.int p0, .int p1]) (rest := []) ⟨hx, hb, hml, hown, ha⟩ (c_X8_freeMinuteByGaps l D dA h1 h2 h3 h4 h5 h6 h7 h8 h9 h10 h11 h12 h13 h14 h15 h16 h17 h18 h19 h20   on ot op os sc sd sp sw gc gp gr bc bg bs bt be ql qg fc fg fs fm p0 p1 _ hc3) (gi_V m_1087 m_1088 m_1089 m_72 m_1090) yd_X8_freeMinuteByGaps ⟨Nat.le_of_ble_eq_true rfl, Nat.le_of_ble_eq_true rfl⟩ ⟨rfl, rfl⟩ hK hP [1, 2, 3, 4, 5, 6, 7, 8, 9, 10, 11, 12, 13, 14, 15, 16, 17, 18, 19, 20] rfl 1 6 rfl rfl rfl rfl hl.1 rfl (Nat.le_of_ble_eq_true rfl) dX11_firstFreeByGaps_16 ⟨Nat.le_of_ble_eq_true rfl, Nat.le_of_ble_eq_true rfl⟩) hP hS (fun H locs hP hS => ?_)
      rcases sf_t1e hf with ⟨hnt, hf⟩ | ⟨k_4, hc4, hf⟩
      · skip
        obtain ⟨r_5, hc5, hf⟩ := sf_c1e hf
        refine k_Pi (run_YS (As := [.int r_3]) (rest := []) ⟨hx, hb, hml, hown, ha⟩ (c_X11_found l D dA cA     r_3 _ hc5) (gi_S2 m_1076 m_1077 m_71 m_1078) (yd_X11_found).2 ⟨Nat.le_of_ble_eq_true rfl, Nat.le_of_ble_eq_true rfl⟩ ⟨rfl, rfl⟩ hK hX hS hP [] rfl rfl hl.1 rfl (Nat.le_of_ble_eq_true rfl) dX11_firstFreeByGaps_19 ⟨Nat.le_of_ble_eq_true rfl, Nat.le_of_ble_eq_true rfl⟩) hP hS (fun H locs hP hS => ?_)
        cases hf
      · skip
        refine k_Z (wr := [(h0, .inr (9, [.ref h1, .ref h21, .int xi, .ref h41, .ref h43, .ref h46, .ref h49, .int xe, .int xf])), (h1, .inr (6, [.int on, .int ot, .int op, .int os, .ref h2, .ref h6, .ref h9, .ref h14, .ref h17])), (h2, .inr (8, [.int sc, .ref h3, .ref h4, .ref h5])), (h3, .inl (dA 0, 4, .inl sd)), (h4, .inl (dA 0, 4, .inl sp)), (h5, .inl (dA 0, 4, .inl sw)), (h6, .inr (4, [.int gc, .ref h7, .ref h8])), (h7, .inl (dA 0, 10, .inl gp)), (h8, .inl (dA 0, 10, .inl gr)), (h9, .inr (0, [.int bc, .ref h10, .ref h11, .ref h12, .ref h13])), (h10, .inl (dA 0, 12, .inl bg)), (h11, .inl (dA 0, 12, .inl bs)), (h12, .inl (dA 0, 12, .inl bt)), (h13, .inl (dA 0, 12, .inl be)), (h14, .inr (7, [.ref h15, .ref h16])), (h15, .inl (dA 0, 4, .inl ql)), (h16, .inl (dA 0, 20, .inl qg)), (h17, .inr (3, [.int fc, .ref h18, .ref h19, .ref h20])), (h18, .inl (dA 0, 16, .inl fg)), (h19, .inl (dA 0, 16, .inl fs)), (h20, .inl (dA 0, 16, .inl fm))]) (run_ZS (As := [.int r_3]) (rest := []) ⟨hx, hb, hml, hown, ha⟩ (c_TX11_found l D dA cA hst   _  r_3 _ hc4) (gi_S2 m_1076 m_1077 m_71 m_1078) (yd_TX11_found).2 ⟨Nat.le_of_ble_eq_true rfl, Nat.le_of_ble_eq_true rfl⟩ ⟨rfl, rfl⟩ hK hX hS hA hP hD [] (by decide) rfl rfl hl.1 rfl (Nat.le_of_ble_eq_true rfl) dX11_firstFreeByGaps_19 ⟨Nat.le_of_ble_eq_true rfl, Nat.le_of_ble_eq_true rfl⟩) hP hD hS hA [] [0, 1, 2, 3, 4, 5, 6, 7, 8, 9, 10, 11, 12, 13, 14, 15, 16, 17, 18, 19, 20] rfl rfl (by decide) (by decide) (fun q9 H locs hP hD hS ht9 => ?_)
        cases hf
        exact px_o hno hlocks ht9 (hP.sub [0, 1, 2, 3, 4, 5, 6, 7, 8, 9, 10, 11, 12, 13, 14, 15, 16, 17, 18, 19, 20] rfl) (hD.sub [0, 1, 2, 3, 4, 5, 6, 7, 8, 9, 10, 11, 12, 13, 14, 15, 16, 17, 18, 19, 20] (by decide) rfl) hS (by decide) (by decide)
    · skip
      refine k_Z (wr := []) (run_ZV (As := [.int p1]) (rest := []) ⟨hx, hb, hml, hown, ha⟩ (c_TX11_checkBookableMinute l D dA cA hst h0 h1 h2 h3 h4 h5 h6 h7 h8 h9 h10 h11 h12 h13 h14 h15 h16 h17 h18 h19 h20 h21 h41 h43 h46 h49  _ on ot op os sc sd sp sw gc gp gr bc bg bs bt be ql qg fc fg fs fm xi xe xf p1 _ hc2) (gi_V m_1050 m_1052 m_18 m_71 m_1053) yd_TX11_checkBookableMinute ⟨Nat.le_of_ble_eq_true rfl, Nat.le_of_ble_eq_true rfl⟩ ⟨rfl, rfl⟩ hK hX hS hA hP hD [0, 1, 2, 3, 4, 5, 6, 7, 8, 9, 10, 11, 12, 13, 14, 15, 16, 17, 18, 19, 20] (by decide) rfl (va_recv hK hP (q0 := 0) rfl rfl) rfl hl.1 rfl (Nat.le_of_ble_eq_true rfl) dX11_firstFreeByGaps_7 ⟨Nat.le_of_ble_eq_true rfl, Nat.le_of_ble_eq_true rfl⟩) hP hD hS hA [0, 1, 2, 3, 4, 5, 6, 7, 8, 9, 10, 11, 12, 13, 14, 15, 16, 17, 18, 19, 20] [] rfl rfl (by decide) (by decide) (fun q9 H locs hP hD hS ht9 => ?_)
      cases hf
      exact px_o hno hlocks ht9 (hP.sub [0, 1, 2, 3, 4, 5, 6, 7, 8, 9, 10, 11, 12, 13, 14, 15, 16, 17, 18, 19, 20] rfl) (hD.sub [0, 1, 2, 3, 4, 5, 6, 7, 8, 9, 10, 11, 12, 13, 14, 15, 16, 17, 18, 19, 20] (by decide) rfl) hS (by decide) (by decide)
  · skip
    refine k_Z (wr := [(h6, .inr (4, [.int gc, .ref h7, .ref h8])), (h7, .inl (dA 0, 10, .inl gp)), (h8, .inl (dA 0, 10, .inl gr)), (h9, .inr (0, [.int bc, .ref h10, .ref h11, .ref h12, .ref h13])), (h10, .inl (dA 0, 12, .inl bg)), (h11, .inl (dA 0, 12, .inl bs)), (h12, .inl (dA 0, 12, .inl bt)), (h13, .inl (dA 0, 12, .inl be)), (h14, .inr (7, [.ref h15, .ref h16])), (h15, .inl (dA 0, 4, .inl ql)), (h16, .inl (dA 0, 20, .inl qg)), (h17, .inr (3, [.int fc, .ref h18, .ref h19, .ref h20])), (h18, .inl (dA 0, 16, .inl fg)), (h19, .inl (dA 0, 16, .inl fs)), (h20, .inl (dA 0, 16, .inl fm))]) (run_ZV (As := [.int p0]) (rest := []) ⟨hx, hb, hml, hown, ha⟩ (c_TX11_checkSlide l D dA cA hst h0 h1 h2 h3 h4 h5 h6 h9 h14 h17 h21 h41 h43 h46 h49  _ on ot op os sc sd sp sw xi xe xf p0 _ hc1) (gi_V m_934 m_936 m_15 m_71 m_937) yd_TX11_checkSlide ⟨Nat.le_of_ble_eq_true rfl, Nat.le_of_ble_eq_true rfl⟩ ⟨rfl, rfl⟩ hK hX hS hA hP hD [0, 1, 2, 3, 4, 5] (by decide) rfl (va_recv hK hP (q0 := 0) rfl rfl) rfl hl.1 rfl (Nat.le_of_ble_eq_true rfl) dX11_firstFreeByGaps_2 ⟨Nat.le_of_ble_eq_true rfl, Nat.le_of_ble_eq_true rfl⟩) hP hD hS hA [0, 1, 2, 3, 4, 5] [6, 7, 8, 9, 10, 11, 12, 13, 14, 15, 16, 17, 18, 19, 20] rfl rfl (by decide) (by decide) (fun q9 H locs hP hD hS ht9 => ?_)
    cases hf
    exact px_o hno hlocks ht9 (hP.sub [15, 16, 17, 18, 19, 20, 0, 1, 2, 3, 4, 5, 6, 7, 8, 9, 10, 11, 12, 13, 14] rfl) (hD.sub [15, 16, 17, 18, 19, 20, 0, 1, 2, 3, 4, 5, 6, 7, 8, 9, 10, 11, 12, 13, 14] (by decide) rfl) hS (by decide) (by decide)

def f_X11_mostWatched (bc : Int32) (bt : Nat → Int32) (be : Nat → Int32) : Option Int32 :=
  sf_c1 (f_X1_watchedByEarliestEnd bc bt be) (fun r_1 => some r_1)
theorem yd_X11_mostWatched : yX11_mostWatched.cls = RX11 ∧ yX11_mostWatched.cls ≠ "java/lang/invoke/MethodHandle" ∧ yX11_mostWatched.cls ≠ "java/lang/invoke/VarHandle" ∧ (parseMethodDescriptor yX11_mostWatched.desc).map (fun d => d.parameters.length) = some 0 := ⟨rfl, by decide, by decide, by decide +kernel⟩
set_option maxRecDepth 100000 in
set_option maxHeartbeats 4000000 in
theorem c_X11_mostWatched (l : Launch) (D : va_G) (dA : Nat → ClassId) (cA : Nat → Nat) (h0 h1 h2 h6 h9 h10 h11 h12 h13 h14 h17 h21 h41 h43 h46 h49 : Nat) (on : Int32) (ot : Int32) (op : Int32) (os : Int32) (bc : Int32) (bg : Nat → Int32) (bs : Nat → Int32) (bt : Nat → Int32) (be : Nat → Int32) (xi : Int32) (xe : Int32) (xf : Int32) (rr : Int32) (hf : f_X11_mostWatched bc bt be = some rr) : Met l yX11_mostWatched (wo (.code yX11_mostWatched cX11_mostWatched 1 (some .int))) ({ frames := 2, cells := 0, slots := 0, locals := 47 } : Room) (preY D dA cA [.ref h0] [(h0, .inr (9, [.ref h1, .ref h21, .int xi, .ref h41, .ref h43, .ref h46, .ref h49, .int xe, .int xf])), (h1, .inr (6, [.int on, .int ot, .int op, .int os, .ref h2, .ref h6, .ref h9, .ref h14, .ref h17])), (h9, .inr (0, [.int bc, .ref h10, .ref h11, .ref h12, .ref h13])), (h10, .inl (dA 0, 12, .inl bg)), (h11, .inl (dA 0, 12, .inl bs)), (h12, .inl (dA 0, 12, .inl bt)), (h13, .inl (dA 0, 12, .inl be))]) (poPi rr) 0 0 noA := by
  refine of_Y (y := yX11_mostWatched) (cc := cX11_mostWatched) (maxL := 1) (ret := (some .int)) (av := [.ref h0]) (ws := [(h0, .inr (9, [.ref h1, .ref h21, .int xi, .ref h41, .ref h43, .ref h46, .ref h49, .int xe, .int xf])), (h1, .inr (6, [.int on, .int ot, .int op, .int os, .ref h2, .ref h6, .ref h9, .ref h14, .ref h17])), (h9, .inr (0, [.int bc, .ref h10, .ref h11, .ref h12, .ref h13])), (h10, .inl (dA 0, 12, .inl bg)), (h11, .inl (dA 0, 12, .inl bs)), (h12, .inl (dA 0, 12, .inl bt)), (h13, .inl (dA 0, 12, .inl be))]) (own := RX11) (by decide) rfl (Nat.le_of_ble_eq_true rfl) ?_
  intro p e s m below meth c hx hb hr ha hown hml hlocks hP hK hX hS ls hl
  have hC := hX.1
  have hl : lv_has ls 1 [(0, .ref h0)] := hl
  rw [f_X11_mostWatched] at hf
  refine lv_aload_n hx hb dX11_mostWatched_0 rfl (lv_at hl 0 rfl) ?_
  refine gt_f (C := RX11) (T := TX11) (N := 9) hx hb ha in_X11 hown hK hP 0 rfl rfl 0 (by decide) m_370 rfl dX11_mostWatched_1 ?_
  refine gt_f (C := RX8) (T := TX8) (N := 9) hx hb ha in_X8 hown hK hP 1 rfl rfl 6 (by decide) m_257 rfl dX11_mostWatched_4 ?_
  obtain ⟨r_1, hc1, hf⟩ := sf_c1e hf
  refine k_Pi (run_PV (As := []) (rest := []) ⟨hx, hb, hml, hown, ha⟩ (c_X1_watchedByEarliestEnd l D dA h9 h10 h11 h12 h13   bc bg bs bt be  _ hc1) (gi_V m_418 m_419 m_420 m_75 m_421) yd_X1_watchedByEarliestEnd ⟨Nat.le_of_ble_eq_true rfl, Nat.le_of_ble_eq_true rfl⟩ ⟨rfl, rfl⟩ hK hP [2, 3, 4, 5, 6] rfl 2 0 rfl rfl rfl rfl hl.1 rfl (Nat.le_of_ble_eq_true rfl) dX11_mostWatched_7 ⟨Nat.le_of_ble_eq_true rfl, Nat.le_of_ble_eq_true rfl⟩) hP hS (fun H locs hP hS => ?_)
  exact rt_Pi hx hb hr hlocks (Option.some.inj hf) hS dX11_mostWatched_10

def f_X11_mostWatchedByTable (bc : Int32) (bs : Nat → Int32) (bt : Nat → Int32) (be : Nat → Int32) (ko : Nat → Int32) (kl : Nat → Int32) : Option (Int32 × (Nat → Int32) × (Nat → Int32)) :=
  sf_c3 (f_X2_longestChain ko kl bc bs bt be) (fun r_1 a_2 a_3 => some (r_1, a_2, a_3))
theorem yd_X11_mostWatchedByTable : yX11_mostWatchedByTable.cls = RX11 ∧ yX11_mostWatchedByTable.cls ≠ "java/lang/invoke/MethodHandle" ∧ yX11_mostWatchedByTable.cls ≠ "java/lang/invoke/VarHandle" ∧ (parseMethodDescriptor yX11_mostWatchedByTable.desc).map (fun d => d.parameters.length) = some 0 := ⟨rfl, by decide, by decide, by decide +kernel⟩
set_option maxRecDepth 100000 in
set_option maxHeartbeats 4000000 in
theorem c_X11_mostWatchedByTable (l : Launch) (D : va_G) (dA : Nat → ClassId) (cA : Nat → Nat) (h0 h1 h2 h6 h9 h10 h11 h12 h13 h14 h17 h21 h41 h43 h44 h45 h46 h49 : Nat) (sz : Nat) (on : Int32) (ot : Int32) (op : Int32) (os : Int32) (bc : Int32) (bg : Nat → Int32) (bs : Nat → Int32) (bt : Nat → Int32) (be : Nat → Int32) (xi : Int32) (ko : Nat → Int32) (kl : Nat → Int32) (xe : Int32) (xf : Int32) (rr : Int32) (q_ko : Nat → Int32) (q_kl : Nat → Int32) (hf : f_X11_mostWatchedByTable bc bs bt be ko kl = some (rr, q_ko, q_kl)) : Met l yX11_mostWatchedByTable (wo (.code yX11_mostWatchedByTable cX11_mostWatchedByTable 1 (some .int))) ({ frames := 3, cells := 0, slots := 0, locals := 127 } : Room) (preX D dA cA [.ref h0] sz [(h0, .inr (9, [.ref h1, .ref h21, .int xi, .ref h41, .ref h43, .ref h46, .ref h49, .int xe, .int xf])), (h1, .inr (6, [.int on, .int ot, .int op, .int os, .ref h2, .ref h6, .ref h9, .ref h14, .ref h17])), (h9, .inr (0, [.int bc, .ref h10, .ref h11, .ref h12, .ref h13])), (h10, .inl (dA 0, 12, .inl bg)), (h11, .inl (dA 0, 12, .inl bs)), (h12, .inl (dA 0, 12, .inl bt)), (h13, .inl (dA 0, 12, .inl be)), (h43, .inr (1, [.ref h44, .ref h45])), (h44, .inl (dA 0, 12, .inl ko)), (h45, .inl (dA 0, 12, .inl kl))]) (poMi D rr [(h0, .inr (9, [.ref h1, .ref h21, .int xi, .ref h41, .ref h43, .ref h46, .ref h49, .int xe, .int xf])), (h1, .inr (6, [.int on, .int ot, .int op, .int os, .ref h2, .ref h6, .ref h9, .ref h14, .ref h17])), (h9, .inr (0, [.int bc, .ref h10, .ref h11, .ref h12, .ref h13])), (h10, .inl (dA 0, 12, .inl bg)), (h11, .inl (dA 0, 12, .inl bs)), (h12, .inl (dA 0, 12, .inl bt)), (h13, .inl (dA 0, 12, .inl be)), (h43, .inr (1, [.ref h44, .ref h45])), (h44, .inl (dA 0, 12, .inl q_ko)), (h45, .inl (dA 0, 12, .inl q_kl))] (va_A [(h0, .inr (9, [.ref h1, .ref h21, .int xi, .ref h41, .ref h43, .ref h46, .ref h49, .int xe, .int xf])), (h1, .inr (6, [.int on, .int ot, .int op, .int os, .ref h2, .ref h6, .ref h9, .ref h14, .ref h17])), (h9, .inr (0, [.int bc, .ref h10, .ref h11, .ref h12, .ref h13])), (h10, .inl (dA 0, 12, .inl bg)), (h11, .inl (dA 0, 12, .inl bs)), (h12, .inl (dA 0, 12, .inl bt)), (h13, .inl (dA 0, 12, .inl be)), (h43, .inr (1, [.ref h44, .ref h45])), (h44, .inl (dA 0, 12, .inl ko)), (h45, .inl (dA 0, 12, .inl kl))] sz)) 0 0 (va_A [(h0, .inr (9, [.ref h1, .ref h21, .int xi, .ref h41, .ref h43, .ref h46, .ref h49, .int xe, .int xf])), (h1, .inr (6, [.int on, .int ot, .int op, .int os, .ref h2, .ref h6, .ref h9, .ref h14, .ref h17])), (h9, .inr (0, [.int bc, .ref h10, .ref h11, .ref h12, .ref h13])), (h10, .inl (dA 0, 12, .inl bg)), (h11, .inl (dA 0, 12, .inl bs)), (h12, .inl (dA 0, 12, .inl bt)), (h13, .inl (dA 0, 12, .inl be)), (h43, .inr (1, [.ref h44, .ref h45])), (h44, .inl (dA 0, 12, .inl ko)), (h45, .inl (dA 0, 12, .inl kl))] sz) := by
  refine of_X (y := yX11_mostWatchedByTable) (cc := cX11_mostWatchedByTable) (maxL := 1) (ret := (some .int)) (av := [.ref h0]) (ws := [(h0, .inr (9, [.ref h1, .ref h21, .int xi, .ref h41, .ref h43, .ref h46, .ref h49, .int xe, .int xf])), (h1, .inr (6, [.int on, .int ot, .int op, .int os, .ref h2, .ref h6, .ref h9, .ref h14, .ref h17])), (h9, .inr (0, [.int bc, .ref h10, .ref h11, .ref h12, .ref h13])), (h10, .inl (dA 0, 12, .inl bg)), (h11, .inl (dA 0, 12, .inl bs)), (h12, .inl (dA 0, 12, .inl bt)), (h13, .inl (dA 0, 12, .inl be)), (h43, .inr (1, [.ref h44, .ref h45])), (h44, .inl (dA 0, 12, .inl ko)), (h45, .inl (dA 0, 12, .inl kl))]) (sz := sz) (own := RX11) (Qc := poMi D rr [(h0, .inr (9, [.ref h1, .ref h21, .int xi, .ref h41, .ref h43, .ref h46, .ref h49, .int xe, .int xf])), (h1, .inr (6, [.int on, .int ot, .int op, .int os, .ref h2, .ref h6, .ref h9, .ref h14, .ref h17])), (h9, .inr (0, [.int bc, .ref h10, .ref h11, .ref h12, .ref h13])), (h10, .inl (dA 0, 12, .inl bg)), (h11, .inl (dA 0, 12, .inl bs)), (h12, .inl (dA 0, 12, .inl bt)), (h13, .inl (dA 0, 12, .inl be)), (h43, .inr (1, [.ref h44, .ref h45])), (h44, .inl (dA 0, 12, .inl q_ko)), (h45, .inl (dA 0, 12, .inl q_kl))]) (by decide) rfl (Nat.le_of_ble_eq_true rfl) ?_
  intro p e s m below meth c A hx hb hr ha hown hml hlocks hin hP hK hD hX hS hA ls hl
  have hC := hX.1
  have hl : lv_has ls 1 [(0, .ref h0)] := hl
  rw [f_X11_mostWatchedByTable] at hf
  refine lv_aload_n hx hb dX11_mostWatchedByTable_0 rfl (lv_at hl 0 rfl) ?_
  refine gt_f (C := RX11) (T := TX11) (N := 9) hx hb ha in_X11 hown hK hP 0 rfl rfl 4 (by decide) m_374 rfl dX11_mostWatchedByTable_1 ?_
  refine lv_aload_n hx hb dX11_mostWatchedByTable_4 rfl (lv_at hl 0 rfl) ?_
  refine gt_f (C := RX11) (T := TX11) (N := 9) hx hb ha in_X11 hown hK hP 0 rfl rfl 0 (by decide) m_370 rfl dX11_mostWatchedByTable_5 ?_
  refine gt_f (C := RX8) (T := TX8) (N := 9) hx hb ha in_X8 hown hK hP 1 rfl rfl 6 (by decide) m_257 rfl dX11_mostWatchedByTable_8 ?_
  obtain ⟨r_1, a_2, a_3, hc3, hf⟩ := sf_c3e hf
  refine k_Mi (wr := [(h0, .inr (9, [.ref h1, .ref h21, .int xi, .ref h41, .ref h43, .ref h46, .ref h49, .int xe, .int xf])), (h1, .inr (6, [.int on, .int ot, .int op, .int os, .ref h2, .ref h6, .ref h9, .ref h14, .ref h17]))]) (run_MV (As := [.ref h9]) (rest := []) ⟨hx, hb, hml, hown, ha⟩ (c_X2_longestChain l D dA h43 h44 h45 h9 h10 h11 h12 h13  _ ko kl bc bg bs bt be  _ _ _ hc3) (gi_V m_430 m_431 m_432 m_79 m_433) yd_X2_longestChain ⟨Nat.le_of_ble_eq_true rfl, Nat.le_of_ble_eq_true rfl⟩ ⟨rfl, rfl⟩ hK hP hD [7, 8, 9, 2, 3, 4, 5, 6] (by decide) rfl 7 1 rfl rfl rfl rfl hl.1 rfl (Nat.le_of_ble_eq_true rfl) dX11_mostWatchedByTable_11 ⟨Nat.le_of_ble_eq_true rfl, Nat.le_of_ble_eq_true rfl⟩) hP hD hS hA [7, 8, 9, 2, 3, 4, 5, 6] [0, 1] rfl rfl (by decide) (by decide) (fun H locs hP hD hS => ?_)
  cases hf
  exact rt_Mi hx hb hr hlocks (hP.sub [0, 1, 5, 6, 7, 8, 9, 2, 3, 4] rfl) (hD.sub [0, 1, 5, 6, 7, 8, 9, 2, 3, 4] (by decide) rfl) hS dX11_mostWatchedByTable_14

def f_X11_mostAtOnce (bc : Int32) (bt : Nat → Int32) (be : Nat → Int32) : Option Int32 :=
  sf_c1 (f_X1_atOnceByStarts bc bt be) (fun r_1 => some r_1)
theorem yd_X11_mostAtOnce : yX11_mostAtOnce.cls = RX11 ∧ yX11_mostAtOnce.cls ≠ "java/lang/invoke/MethodHandle" ∧ yX11_mostAtOnce.cls ≠ "java/lang/invoke/VarHandle" ∧ (parseMethodDescriptor yX11_mostAtOnce.desc).map (fun d => d.parameters.length) = some 0 := ⟨rfl, by decide, by decide, by decide +kernel⟩
set_option maxRecDepth 100000 in
set_option maxHeartbeats 4000000 in
theorem c_X11_mostAtOnce (l : Launch) (D : va_G) (dA : Nat → ClassId) (cA : Nat → Nat) (h0 h1 h2 h6 h9 h10 h11 h12 h13 h14 h17 h21 h41 h43 h46 h49 : Nat) (on : Int32) (ot : Int32) (op : Int32) (os : Int32) (bc : Int32) (bg : Nat → Int32) (bs : Nat → Int32) (bt : Nat → Int32) (be : Nat → Int32) (xi : Int32) (xe : Int32) (xf : Int32) (rr : Int32) (hf : f_X11_mostAtOnce bc bt be = some rr) : Met l yX11_mostAtOnce (wo (.code yX11_mostAtOnce cX11_mostAtOnce 1 (some .int))) ({ frames := 2, cells := 0, slots := 0, locals := 104 } : Room) (preY D dA cA [.ref h0] [(h0, .inr (9, [.ref h1, .ref h21, .int xi, .ref h41, .ref h43, .ref h46, .ref h49, .int xe, .int xf])), (h1, .inr (6, [.int on, .int ot, .int op, .int os, .ref h2, .ref h6, .ref h9, .ref h14, .ref h17])), (h9, .inr (0, [.int bc, .ref h10, .ref h11, .ref h12, .ref h13])), (h10, .inl (dA 0, 12, .inl bg)), (h11, .inl (dA 0, 12, .inl bs)), (h12, .inl (dA 0, 12, .inl bt)), (h13, .inl (dA 0, 12, .inl be))]) (poPi rr) 0 0 noA := by
  refine of_Y (y := yX11_mostAtOnce) (cc := cX11_mostAtOnce) (maxL := 1) (ret := (some .int)) (av := [.ref h0]) (ws := [(h0, .inr (9, [.ref h1, .ref h21, .int xi, .ref h41, .ref h43, .ref h46, .ref h49, .int xe, .int xf])), (h1, .inr (6, [.int on, .int ot, .int op, .int os, .ref h2, .ref h6, .ref h9, .ref h14, .ref h17])), (h9, .inr (0, [.int bc, .ref h10, .ref h11, .ref h12, .ref h13])), (h10, .inl (dA 0, 12, .inl bg)), (h11, .inl (dA 0, 12, .inl bs)), (h12, .inl (dA 0, 12, .inl bt)), (h13, .inl (dA 0, 12, .inl be))]) (own := RX11) (by decide) rfl (Nat.le_of_ble_eq_true rfl) ?_
  intro p e s m below meth c hx hb hr ha hown hml hlocks hP hK hX hS ls hl
  have hC := hX.1
  have hl : lv_has ls 1 [(0, .ref h0)] := hl
  rw [f_X11_mostAtOnce] at hf
  refine lv_aload_n hx hb dX11_mostAtOnce_0 rfl (lv_at hl 0 rfl) ?_
  refine gt_f (C := RX11) (T := TX11) (N := 9) hx hb ha in_X11 hown hK hP 0 rfl rfl 0 (by decide) m_370 rfl dX11_mostAtOnce_1 ?_
  refine gt_f (C := RX8) (T := TX8) (N := 9) hx hb ha in_X8 hown hK hP 1 rfl rfl 6 (by decide) m_257 rfl dX11_mostAtOnce_4 ?_
  obtain ⟨r_1, hc1, hf⟩ := sf_c1e hf
  refine k_Pi (run_PV (As := []) (rest := []) ⟨hx, hb, hml, hown, ha⟩ (c_X1_atOnceByStarts l D dA h9 h10 h11 h12 h13   bc bg bs bt be  _ hc1) (gi_V m_449 m_450 m_451 m_75 m_452) yd_X1_atOnceByStarts ⟨Nat.le_of_ble_eq_true rfl, Nat.le_of_ble_eq_true rfl⟩ ⟨rfl, rfl⟩ hK hP [2, 3, 4, 5, 6] rfl 2 0 rfl rfl rfl rfl hl.1 rfl (Nat.le_of_ble_eq_true rfl) dX11_mostAtOnce_7 ⟨Nat.le_of_ble_eq_true rfl, Nat.le_of_ble_eq_true rfl⟩) hP hS (fun H locs hP hS => ?_)
  exact rt_Pi hx hb hr hlocks (Option.some.inj hf) hS dX11_mostAtOnce_10

def f_X11_mostAtOnceBySweep (bc : Int32) (bt : Nat → Int32) (be : Nat → Int32) : Option Int32 :=
  sf_c1 (f_X1_atOnceBySweeping bc bt be) (fun r_1 => some r_1)
theorem yd_X11_mostAtOnceBySweep : yX11_mostAtOnceBySweep.cls = RX11 ∧ yX11_mostAtOnceBySweep.cls ≠ "java/lang/invoke/MethodHandle" ∧ yX11_mostAtOnceBySweep.cls ≠ "java/lang/invoke/VarHandle" ∧ (parseMethodDescriptor yX11_mostAtOnceBySweep.desc).map (fun d => d.parameters.length) = some 0 := ⟨rfl, by decide, by decide, by decide +kernel⟩
set_option maxRecDepth 100000 in
set_option maxHeartbeats 4000000 in
theorem c_X11_mostAtOnceBySweep (l : Launch) (D : va_G) (dA : Nat → ClassId) (cA : Nat → Nat) (h0 h1 h2 h6 h9 h10 h11 h12 h13 h14 h17 h21 h41 h43 h46 h49 : Nat) (on : Int32) (ot : Int32) (op : Int32) (os : Int32) (bc : Int32) (bg : Nat → Int32) (bs : Nat → Int32) (bt : Nat → Int32) (be : Nat → Int32) (xi : Int32) (xe : Int32) (xf : Int32) (rr : Int32) (hf : f_X11_mostAtOnceBySweep bc bt be = some rr) : Met l yX11_mostAtOnceBySweep (wo (.code yX11_mostAtOnceBySweep cX11_mostAtOnceBySweep 1 (some .int))) ({ frames := 3, cells := 0, slots := 0, locals := 127 } : Room) (preY D dA cA [.ref h0] [(h0, .inr (9, [.ref h1, .ref h21, .int xi, .ref h41, .ref h43, .ref h46, .ref h49, .int xe, .int xf])), (h1, .inr (6, [.int on, .int ot, .int op, .int os, .ref h2, .ref h6, .ref h9, .ref h14, .ref h17])), (h9, .inr (0, [.int bc, .ref h10, .ref h11, .ref h12, .ref h13])), (h10, .inl (dA 0, 12, .inl bg)), (h11, .inl (dA 0, 12, .inl bs)), (h12, .inl (dA 0, 12, .inl bt)), (h13, .inl (dA 0, 12, .inl be))]) (poPi rr) 0 0 noA := by
  refine of_Y (y := yX11_mostAtOnceBySweep) (cc := cX11_mostAtOnceBySweep) (maxL := 1) (ret := (some .int)) (av := [.ref h0]) (ws := [(h0, .inr (9, [.ref h1, .ref h21, .int xi, .ref h41, .ref h43, .ref h46, .ref h49, .int xe, .int xf])), (h1, .inr (6, [.int on, .int ot, .int op, .int os, .ref h2, .ref h6, .ref h9, .ref h14, .ref h17])), (h9, .inr (0, [.int bc, .ref h10, .ref h11, .ref h12, .ref h13])), (h10, .inl (dA 0, 12, .inl bg)), (h11, .inl (dA 0, 12, .inl bs)), (h12, .inl (dA 0, 12, .inl bt)), (h13, .inl (dA 0, 12, .inl be))]) (own := RX11) (by decide) rfl (Nat.le_of_ble_eq_true rfl) ?_
  intro p e s m below meth c hx hb hr ha hown hml hlocks hP hK hX hS ls hl
  have hC := hX.1
  have hl : lv_has ls 1 [(0, .ref h0)] := hl
  rw [f_X11_mostAtOnceBySweep] at hf
  refine lv_aload_n hx hb dX11_mostAtOnceBySweep_0 rfl (lv_at hl 0 rfl) ?_
  refine gt_f (C := RX11) (T := TX11) (N := 9) hx hb ha in_X11 hown hK hP 0 rfl rfl 0 (by decide) m_370 rfl dX11_mostAtOnceBySweep_1 ?_
  refine gt_f (C := RX8) (T := TX8) (N := 9) hx hb ha in_X8 hown hK hP 1 rfl rfl 6 (by decide) m_257 rfl dX11_mostAtOnceBySweep_4 ?_
  obtain ⟨r_1, hc1, hf⟩ := sf_c1e hf
  refine k_Pi (run_PV (As := []) (rest := []) ⟨hx, hb, hml, hown, ha⟩ (c_X1_atOnceBySweeping l D dA h9 h10 h11 h12 h13   bc bg bs bt be  _ hc1) (gi_V m_462 m_463 m_464 m_75 m_465) yd_X1_atOnceBySweeping ⟨Nat.le_of_ble_eq_true rfl, Nat.le_of_ble_eq_true rfl⟩ ⟨rfl, rfl⟩ hK hP [2, 3, 4, 5, 6] rfl 2 0 rfl rfl rfl rfl hl.1 rfl (Nat.le_of_ble_eq_true rfl) dX11_mostAtOnceBySweep_7 ⟨Nat.le_of_ble_eq_true rfl, Nat.le_of_ble_eq_true rfl⟩) hP hS (fun H locs hP hS => ?_)
  exact rt_Pi hx hb hr hlocks (Option.some.inj hf) hS dX11_mostAtOnceBySweep_10

def f_X11_finishCount (fc : Int32) : Option Int32 :=
  some fc
theorem yd_X11_finishCount : yX11_finishCount.cls = RX11 ∧ yX11_finishCount.cls ≠ "java/lang/invoke/MethodHandle" ∧ yX11_finishCount.cls ≠ "java/lang/invoke/VarHandle" ∧ (parseMethodDescriptor yX11_finishCount.desc).map (fun d => d.parameters.length) = some 0 := ⟨rfl, by decide, by decide, by decide +kernel⟩
set_option maxRecDepth 100000 in
set_option maxHeartbeats 4000000 in
theorem c_X11_finishCount (l : Launch) (D : va_G) (dA : Nat → ClassId) (cA : Nat → Nat) (h0 h1 h2 h6 h9 h14 h17 h18 h19 h20 h21 h41 h43 h46 h49 : Nat) (on : Int32) (ot : Int32) (op : Int32) (os : Int32) (fc : Int32) (xi : Int32) (xe : Int32) (xf : Int32) (rr : Int32) (hf : f_X11_finishCount fc = some rr) : Met l yX11_finishCount (wo (.code yX11_finishCount cX11_finishCount 1 (some .int))) ({ frames := 0, cells := 0, slots := 0, locals := 0 } : Room) (preY D dA cA [.ref h0] [(h0, .inr (9, [.ref h1, .ref h21, .int xi, .ref h41, .ref h43, .ref h46, .ref h49, .int xe, .int xf])), (h1, .inr (6, [.int on, .int ot, .int op, .int os, .ref h2, .ref h6, .ref h9, .ref h14, .ref h17])), (h17, .inr (3, [.int fc, .ref h18, .ref h19, .ref h20]))]) (poPi rr) 0 0 noA := by
  refine of_Y (y := yX11_finishCount) (cc := cX11_finishCount) (maxL := 1) (ret := (some .int)) (av := [.ref h0]) (ws := [(h0, .inr (9, [.ref h1, .ref h21, .int xi, .ref h41, .ref h43, .ref h46, .ref h49, .int xe, .int xf])), (h1, .inr (6, [.int on, .int ot, .int op, .int os, .ref h2, .ref h6, .ref h9, .ref h14, .ref h17])), (h17, .inr (3, [.int fc, .ref h18, .ref h19, .ref h20]))]) (own := RX11) (by decide) rfl (Nat.le_of_ble_eq_true rfl) ?_
  intro p e s m below meth c hx hb hr ha hown hml hlocks hP hK hX hS ls hl
  have hC := hX.1
  have hl : lv_has ls 1 [(0, .ref h0)] := hl
  rw [f_X11_finishCount] at hf
  refine lv_aload_n hx hb dX11_finishCount_0 rfl (lv_at hl 0 rfl) ?_
  refine gt_f (C := RX11) (T := TX11) (N := 9) hx hb ha in_X11 hown hK hP 0 rfl rfl 0 (by decide) m_370 rfl dX11_finishCount_1 ?_
  refine gt_f (C := RX8) (T := TX8) (N := 9) hx hb ha in_X8 hown hK hP 1 rfl rfl 8 (by decide) m_261 rfl dX11_finishCount_4 ?_
  refine gt_f (C := RX5) (T := TX5) (N := 4) hx hb ha in_X5 hown hK hP 2 rfl rfl 0 (by decide) m_228 rfl dX11_finishCount_7 ?_
  exact rt_Pi hx hb hr hlocks (Option.some.inj hf) hS dX11_finishCount_10

def f_X11_checkFinish (fc : Int32) (p0 : Int32) : Option Unit :=
  sf_b (p0 < (0 : Int32)) (none) (sf_b (p0 < fc) (some ()) (none))
theorem yd_X11_checkFinish : yX11_checkFinish.cls = RX11 ∧ yX11_checkFinish.cls ≠ "java/lang/invoke/MethodHandle" ∧ yX11_checkFinish.cls ≠ "java/lang/invoke/VarHandle" ∧ (parseMethodDescriptor yX11_checkFinish.desc).map (fun d => d.parameters.length) = some 1 := ⟨rfl, by decide, by decide, by decide +kernel⟩
set_option maxRecDepth 100000 in
set_option maxHeartbeats 4000000 in
theorem c_X11_checkFinish (l : Launch) (D : va_G) (dA : Nat → ClassId) (cA : Nat → Nat) (h0 h1 h2 h6 h9 h14 h17 h18 h19 h20 h21 h41 h43 h46 h49 : Nat) (on : Int32) (ot : Int32) (op : Int32) (os : Int32) (fc : Int32) (xi : Int32) (xe : Int32) (xf : Int32) (p0 : Int32) (hf : f_X11_checkFinish fc p0 = some ()) : Met l yX11_checkFinish (wo (.code yX11_checkFinish cX11_checkFinish 2 none)) ({ frames := 0, cells := 0, slots := 0, locals := 0 } : Room) (preY D dA cA [.ref h0, .int p0] [(h0, .inr (9, [.ref h1, .ref h21, .int xi, .ref h41, .ref h43, .ref h46, .ref h49, .int xe, .int xf])), (h1, .inr (6, [.int on, .int ot, .int op, .int os, .ref h2, .ref h6, .ref h9, .ref h14, .ref h17])), (h17, .inr (3, [.int fc, .ref h18, .ref h19, .ref h20]))]) (poPv) 0 0 noA := by
  refine of_Y (y := yX11_checkFinish) (cc := cX11_checkFinish) (maxL := 2) (ret := none) (av := [.ref h0, .int p0]) (ws := [(h0, .inr (9, [.ref h1, .ref h21, .int xi, .ref h41, .ref h43, .ref h46, .ref h49, .int xe, .int xf])), (h1, .inr (6, [.int on, .int ot, .int op, .int os, .ref h2, .ref h6, .ref h9, .ref h14, .ref h17])), (h17, .inr (3, [.int fc, .ref h18, .ref h19, .ref h20]))]) (own := RX11) (by decide) rfl (Nat.le_of_ble_eq_true rfl) ?_
  intro p e s m below meth c hx hb hr ha hown hml hlocks hP hK hX hS ls hl
  have hC := hX.1
  have hl : lv_has ls 2 [(0, .ref h0), (1, .int p0)] := hl
  rw [f_X11_checkFinish] at hf
  refine lv_iload_n hx hb dX11_checkFinish_0 rfl (lv_at hl 1 rfl) ?_
  refine lv_if_lt (tgt := 18) hx hb dX11_checkFinish_1 (by decide) (fun hc => ?_) (fun hc => ?_)
  · have hf := sf_bp hf hc
    cases hf
  · have hf := sf_bn hf hc
    refine lv_iload_n hx hb dX11_checkFinish_4 rfl (lv_at hl 1 rfl) ?_
    refine lv_aload_n hx hb dX11_checkFinish_5 rfl (lv_at hl 0 rfl) ?_
    refine gt_f (C := RX11) (T := TX11) (N := 9) hx hb ha in_X11 hown hK hP 0 rfl rfl 0 (by decide) m_370 rfl dX11_checkFinish_6 ?_
    refine gt_f (C := RX8) (T := TX8) (N := 9) hx hb ha in_X8 hown hK hP 1 rfl rfl 8 (by decide) m_261 rfl dX11_checkFinish_9 ?_
    refine gt_f (C := RX5) (T := TX5) (N := 4) hx hb ha in_X5 hown hK hP 2 rfl rfl 0 (by decide) m_228 rfl dX11_checkFinish_12 ?_
    refine lv_icmp_lt (tgt := 29) hx hb dX11_checkFinish_15 (by decide) (fun hc => ?_) (fun hc => ?_)
    · have hf := sf_bp hf hc
      exact rt_Pv hx hb hr hlocks hS dX11_checkFinish_29
    · have hf := sf_bn hf hc
      cases hf

def f_TX11_checkFinish (fc : Int32) (p0 : Int32) : Option Nat :=
  sf_b (p0 < (0 : Int32)) (some 4) (sf_b (p0 < fc) (none) (some 4))
theorem yd_TX11_checkFinish : yX11_checkFinish.cls = RX11 ∧ yX11_checkFinish.cls ≠ "java/lang/invoke/MethodHandle" ∧ yX11_checkFinish.cls ≠ "java/lang/invoke/VarHandle" ∧ (parseMethodDescriptor yX11_checkFinish.desc).map (fun d => d.parameters.length) = some 1 := ⟨rfl, by decide, by decide, by decide +kernel⟩
set_option maxRecDepth 100000 in
set_option maxHeartbeats 4000000 in
theorem c_TX11_checkFinish (l : Launch) (D : va_G) (dA : Nat → ClassId) (cA : Nat → Nat) (hst : l.stackTraces = false) (h0 h1 h2 h6 h9 h14 h17 h18 h19 h20 h21 h41 h43 h46 h49 : Nat) (sz : Nat) (on : Int32) (ot : Int32) (op : Int32) (os : Int32) (fc : Int32) (xi : Int32) (xe : Int32) (xf : Int32) (p0 : Int32) (rx : Nat) (hf : f_TX11_checkFinish fc p0 = some rx) : vx_Met l yX11_checkFinish (wo (.code yX11_checkFinish cX11_checkFinish 2 none)) ({ frames := 6, cells := 1, slots := 6, locals := 100 } : Room) (preX D dA cA [.ref h0, .int p0] sz [(h0, .inr (9, [.ref h1, .ref h21, .int xi, .ref h41, .ref h43, .ref h46, .ref h49, .int xe, .int xf])), (h1, .inr (6, [.int on, .int ot, .int op, .int os, .ref h2, .ref h6, .ref h9, .ref h14, .ref h17])), (h17, .inr (3, [.int fc, .ref h18, .ref h19, .ref h20]))]) noQ (xcQ D (exs rx) [(h0, .inr (9, [.ref h1, .ref h21, .int xi, .ref h41, .ref h43, .ref h46, .ref h49, .int xe, .int xf])), (h1, .inr (6, [.int on, .int ot, .int op, .int os, .ref h2, .ref h6, .ref h9, .ref h14, .ref h17])), (h17, .inr (3, [.int fc, .ref h18, .ref h19, .ref h20]))] (va_A [(h0, .inr (9, [.ref h1, .ref h21, .int xi, .ref h41, .ref h43, .ref h46, .ref h49, .int xe, .int xf])), (h1, .inr (6, [.int on, .int ot, .int op, .int os, .ref h2, .ref h6, .ref h9, .ref h14, .ref h17])), (h17, .inr (3, [.int fc, .ref h18, .ref h19, .ref h20]))] sz)) 1 6 (va_A [(h0, .inr (9, [.ref h1, .ref h21, .int xi, .ref h41, .ref h43, .ref h46, .ref h49, .int xe, .int xf])), (h1, .inr (6, [.int on, .int ot, .int op, .int os, .ref h2, .ref h6, .ref h9, .ref h14, .ref h17])), (h17, .inr (3, [.int fc, .ref h18, .ref h19, .ref h20]))] sz) := by
  refine of_Z (y := yX11_checkFinish) (cc := cX11_checkFinish) (maxL := 2) (ret := none) (av := [.ref h0, .int p0]) (ws := [(h0, .inr (9, [.ref h1, .ref h21, .int xi, .ref h41, .ref h43, .ref h46, .ref h49, .int xe, .int xf])), (h1, .inr (6, [.int on, .int ot, .int op, .int os, .ref h2, .ref h6, .ref h9, .ref h14, .ref h17])), (h17, .inr (3, [.int fc, .ref h18, .ref h19, .ref h20]))]) (sz := sz) (own := RX11) (XC := fun A => xcQ D (exs rx) [(h0, .inr (9, [.ref h1, .ref h21, .int xi, .ref h41, .ref h43, .ref h46, .ref h49, .int xe, .int xf])), (h1, .inr (6, [.int on, .int ot, .int op, .int os, .ref h2, .ref h6, .ref h9, .ref h14, .ref h17])), (h17, .inr (3, [.int fc, .ref h18, .ref h19, .ref h20]))] A) (by decide) rfl (Nat.le_of_ble_eq_true rfl) ?_
  intro p e s m below meth c A hx hb hr ha hown hml hlocks hin hno hP hK hD hX hS hA ls hl
  have hC := hX.1
  have hl : lv_has ls 2 [(0, .ref h0), (1, .int p0)] := hl
  rw [f_TX11_checkFinish] at hf
  refine lv_iload_n hx hb dX11_checkFinish_0 rfl (lv_at hl 1 rfl) ?_
  refine lv_if_lt (tgt := 18) hx hb dX11_checkFinish_1 (by decide) (fun hc => ?_) (fun hc => ?_)
  · have hf := sf_bp hf hc
    cases hf
    exact th_SXW (E := exs 4) (text := "no such finish is kept") (sa := cA 45) nsx_4_0 nsx_4_1 nsx_4_2 nsx_4_5 hx hb hst hown ha hX hS (hP.sub [0, 1, 2] rfl) (hD.sub [0, 1, 2] (by decide) rfl) hlocks hno (hl.1.trans hml.symm) m_712 m_94 (hC.2.2.1 (RX11, 399, "no such finish is kept", 45) (List.mem_of_getElem? (i := 21) rfl)) exg_129 exb_129 exo_129 exf_129 dX11_checkFinish_18 dX11_checkFinish_21 dX11_checkFinish_22 dX11_checkFinish_25 dX11_checkFinish_28 ⟨by decide, by decide, by decide, by decide⟩ ⟨by decide, by decide⟩
  · have hf := sf_bn hf hc
    refine lv_iload_n hx hb dX11_checkFinish_4 rfl (lv_at hl 1 rfl) ?_
    refine lv_aload_n hx hb dX11_checkFinish_5 rfl (lv_at hl 0 rfl) ?_
    refine gt_f (C := RX11) (T := TX11) (N := 9) hx hb ha in_X11 hown hK hP 0 rfl rfl 0 (by decide) m_370 rfl dX11_checkFinish_6 ?_
    refine gt_f (C := RX8) (T := TX8) (N := 9) hx hb ha in_X8 hown hK hP 1 rfl rfl 8 (by decide) m_261 rfl dX11_checkFinish_9 ?_
    refine gt_f (C := RX5) (T := TX5) (N := 4) hx hb ha in_X5 hown hK hP 2 rfl rfl 0 (by decide) m_228 rfl dX11_checkFinish_12 ?_
    refine lv_icmp_lt (tgt := 29) hx hb dX11_checkFinish_15 (by decide) (fun hc => ?_) (fun hc => ?_)
    · have hf := sf_bp hf hc
      cases hf
    · have hf := sf_bn hf hc
      cases hf
      exact th_SXW (E := exs 4) (text := "no such finish is kept") (sa := cA 45) nsx_4_0 nsx_4_1 nsx_4_2 nsx_4_5 hx hb hst hown ha hX hS (hP.sub [0, 1, 2] rfl) (hD.sub [0, 1, 2] (by decide) rfl) hlocks hno (hl.1.trans hml.symm) m_712 m_94 (hC.2.2.1 (RX11, 399, "no such finish is kept", 45) (List.mem_of_getElem? (i := 21) rfl)) exg_129 exb_129 exo_129 exf_129 dX11_checkFinish_18 dX11_checkFinish_21 dX11_checkFinish_22 dX11_checkFinish_25 dX11_checkFinish_28 ⟨by decide, by decide, by decide, by decide⟩ ⟨by decide, by decide⟩

def f_X11_finishedGuest (fc : Int32) (fg : Nat → Int32) (p0 : Int32) : Option Int32 :=
  sf_c0 (f_X11_checkFinish fc p0) (fun _ => sf_c1 (f_X5_rowOf fc p0) (fun r_1 => sf_g (sf_in r_1 16 = true) (some (fg r_1.toNatClampNeg))))
theorem yd_X11_finishedGuest : yX11_finishedGuest.cls = RX11 ∧ yX11_finishedGuest.cls ≠ "java/lang/invoke/MethodHandle" ∧ yX11_finishedGuest.cls ≠ "java/lang/invoke/VarHandle" ∧ (parseMethodDescriptor yX11_finishedGuest.desc).map (fun d => d.parameters.length) = some 1 := ⟨rfl, by decide, by decide, by decide +kernel⟩
set_option maxRecDepth 100000 in
set_option maxHeartbeats 4000000 in
theorem c_X11_finishedGuest (l : Launch) (D : va_G) (dA : Nat → ClassId) (cA : Nat → Nat) (h0 h1 h2 h6 h9 h14 h17 h18 h19 h20 h21 h41 h43 h46 h49 : Nat) (on : Int32) (ot : Int32) (op : Int32) (os : Int32) (fc : Int32) (fg : Nat → Int32) (fs : Nat → Int32) (fm : Nat → Int32) (xi : Int32) (xe : Int32) (xf : Int32) (p0 : Int32) (rr : Int32) (hf : f_X11_finishedGuest fc fg p0 = some rr) : Met l yX11_finishedGuest (wo (.code yX11_finishedGuest cX11_finishedGuest 2 (some .int))) ({ frames := 1, cells := 0, slots := 0, locals := 21 } : Room) (preY D dA cA [.ref h0, .int p0] [(h0, .inr (9, [.ref h1, .ref h21, .int xi, .ref h41, .ref h43, .ref h46, .ref h49, .int xe, .int xf])), (h1, .inr (6, [.int on, .int ot, .int op, .int os, .ref h2, .ref h6, .ref h9, .ref h14, .ref h17])), (h17, .inr (3, [.int fc, .ref h18, .ref h19, .ref h20])), (h18, .inl (dA 0, 16, .inl fg)), (h19, .inl (dA 0, 16, .inl fs)), (h20, .inl (dA 0, 16, .inl fm))]) (poPi rr) 0 0 noA := by
  refine of_Y (y := yX11_finishedGuest) (cc := cX11_finishedGuest) (maxL := 2) (ret := (some .int)) (av := [.ref h0, .int p0]) (ws := [(h0, .inr (9, [.ref h1, .ref h21, .int xi, .ref h41, .ref h43, .ref h46, .ref h49, .int xe, .int xf])), (h1, .inr (6, [.int on, .int ot, .int op, .int os, .ref h2, .ref h6, .ref h9, .ref h14, .ref h17])), (h17, .inr (3, [.int fc, .ref h18, .ref h19, .ref h20])), (h18, .inl (dA 0, 16, .inl fg)), (h19, .inl (dA 0, 16, .inl fs)), (h20, .inl (dA 0, 16, .inl fm))]) (own := RX11) (by decide) rfl (Nat.le_of_ble_eq_true rfl) ?_
  intro p e s m below meth c hx hb hr ha hown hml hlocks hP hK hX hS ls hl
  have hC := hX.1
  have hl : lv_has ls 2 [(0, .ref h0), (1, .int p0)] := hl
  rw [f_X11_finishedGuest] at hf
  refine lv_aload_n hx hb dX11_finishedGuest_0 rfl (lv_at hl 0 rfl) ?_
  refine lv_iload_n hx hb dX11_finishedGuest_1 rfl (lv_at hl 1 rfl) ?_
  obtain ⟨hc0, hf⟩ := sf_c0e hf
  refine k_Pv (run_YV (As := [.int p0]) (rest := []) ⟨hx, hb, hml, hown, ha⟩ (c_X11_checkFinish l D dA cA h0 h1 h2 h6 h9 h14 h17 h18 h19 h20 h21 h41 h43 h46 h49   on ot op os fc xi xe xf p0  hc0) (gi_V m_1103 m_1105 m_19 m_71 m_1106) yd_X11_checkFinish ⟨Nat.le_of_ble_eq_true rfl, Nat.le_of_ble_eq_true rfl⟩ ⟨rfl, rfl⟩ hK hX hS hP [0, 1, 2] rfl (va_recv hK hP (q0 := 0) rfl rfl) rfl hl.1 rfl (Nat.le_of_ble_eq_true rfl) dX11_finishedGuest_2 ⟨Nat.le_of_ble_eq_true rfl, Nat.le_of_ble_eq_true rfl⟩) hP hS (fun H locs hP hS => ?_)
  refine lv_aload_n hx hb dX11_finishedGuest_5 rfl (lv_at hl 0 rfl) ?_
  refine gt_f (C := RX11) (T := TX11) (N := 9) hx hb ha in_X11 hown hK hP 0 rfl rfl 0 (by decide) m_370 rfl dX11_finishedGuest_6 ?_
  refine gt_f (C := RX8) (T := TX8) (N := 9) hx hb ha in_X8 hown hK hP 1 rfl rfl 8 (by decide) m_261 rfl dX11_finishedGuest_9 ?_
  refine gt_f (C := RX5) (T := TX5) (N := 4) hx hb ha in_X5 hown hK hP 2 rfl rfl 1 (by decide) m_230 rfl dX11_finishedGuest_12 ?_
  refine lv_aload_n hx hb dX11_finishedGuest_15 rfl (lv_at hl 0 rfl) ?_
  refine gt_f (C := RX11) (T := TX11) (N := 9) hx hb ha in_X11 hown hK hP 0 rfl rfl 0 (by decide) m_370 rfl dX11_finishedGuest_16 ?_
  refine gt_f (C := RX8) (T := TX8) (N := 9) hx hb ha in_X8 hown hK hP 1 rfl rfl 8 (by decide) m_261 rfl dX11_finishedGuest_19 ?_
  refine lv_iload_n hx hb dX11_finishedGuest_22 rfl (lv_at hl 1 rfl) ?_
  obtain ⟨r_1, hc1, hf⟩ := sf_c1e hf
  refine k_Pi (run_PV (As := [.int p0]) (rest := [.ref h18]) ⟨hx, hb, hml, hown, ha⟩ (c_X5_rowOf l D dA h17 h18 h19 h20   fc fg fs fm p0 _ hc1) (gi_V m_1108 m_1109 m_1110 m_77 m_1111) yd_X5_rowOf ⟨Nat.le_of_ble_eq_true rfl, Nat.le_of_ble_eq_true rfl⟩ ⟨rfl, rfl⟩ hK hP [2, 3, 4, 5] rfl 2 3 rfl rfl rfl rfl hl.1 rfl (Nat.le_of_ble_eq_true rfl) dX11_finishedGuest_23 ⟨Nat.le_of_ble_eq_true rfl, Nat.le_of_ble_eq_true rfl⟩) hP hS (fun H locs hP hS => ?_)
  obtain ⟨hi, hf⟩ := sf_ge hf
  refine ia_ld hx hb hK hP 3 rfl hi dX11_finishedGuest_26 ?_
  exact rt_Pi hx hb hr hlocks (Option.some.inj hf) hS dX11_finishedGuest_27

def f_TX11_finishedGuest (fc : Int32) (p0 : Int32) : Option Nat :=
  sf_t1 (f_TX11_checkFinish fc p0) (fun k_1 => some k_1) (sf_c0 (f_X11_checkFinish fc p0) (fun _ => sf_c1 (f_X5_rowOf fc p0) (fun r_2 => sf_g (sf_in r_2 16 = true) (none))))
theorem yd_TX11_finishedGuest : yX11_finishedGuest.cls = RX11 ∧ yX11_finishedGuest.cls ≠ "java/lang/invoke/MethodHandle" ∧ yX11_finishedGuest.cls ≠ "java/lang/invoke/VarHandle" ∧ (parseMethodDescriptor yX11_finishedGuest.desc).map (fun d => d.parameters.length) = some 1 := ⟨rfl, by decide, by decide, by decide +kernel⟩
set_option maxRecDepth 100000 in
set_option maxHeartbeats 4000000 in
theorem c_TX11_finishedGuest (l : Launch) (D : va_G) (dA : Nat → ClassId) (cA : Nat → Nat) (hst : l.stackTraces = false) (h0 h1 h2 h6 h9 h14 h17 h18 h19 h20 h21 h41 h43 h46 h49 : Nat) (sz : Nat) (on : Int32) (ot : Int32) (op : Int32) (os : Int32) (fc : Int32) (fg : Nat → Int32) (fs : Nat → Int32) (fm : Nat → Int32) (xi : Int32) (xe : Int32) (xf : Int32) (p0 : Int32) (rx : Nat) (hf : f_TX11_finishedGuest fc p0 = some rx) : vx_Met l yX11_finishedGuest (wo (.code yX11_finishedGuest cX11_finishedGuest 2 (some .int))) ({ frames := 7, cells := 1, slots := 6, locals := 121 } : Room) (preX D dA cA [.ref h0, .int p0] sz [(h0, .inr (9, [.ref h1, .ref h21, .int xi, .ref h41, .ref h43, .ref h46, .ref h49, .int xe, .int xf])), (h1, .inr (6, [.int on, .int ot, .int op, .int os, .ref h2, .ref h6, .ref h9, .ref h14, .ref h17])), (h17, .inr (3, [.int fc, .ref h18, .ref h19, .ref h20])), (h18, .inl (dA 0, 16, .inl fg)), (h19, .inl (dA 0, 16, .inl fs)), (h20, .inl (dA 0, 16, .inl fm))]) noQ (xcQ D (exs rx) [(h0, .inr (9, [.ref h1, .ref h21, .int xi, .ref h41, .ref h43, .ref h46, .ref h49, .int xe, .int xf])), (h1, .inr (6, [.int on, .int ot, .int op, .int os, .ref h2, .ref h6, .ref h9, .ref h14, .ref h17])), (h17, .inr (3, [.int fc, .ref h18, .ref h19, .ref h20])), (h18, .inl (dA 0, 16, .inl fg)), (h19, .inl (dA 0, 16, .inl fs)), (h20, .inl (dA 0, 16, .inl fm))] (va_A [(h0, .inr (9, [.ref h1, .ref h21, .int xi, .ref h41, .ref h43, .ref h46, .ref h49, .int xe, .int xf])), (h1, .inr (6, [.int on, .int ot, .int op, .int os, .ref h2, .ref h6, .ref h9, .ref h14, .ref h17])), (h17, .inr (3, [.int fc, .ref h18, .ref h19, .ref h20])), (h18, .inl (dA 0, 16, .inl fg)), (h19, .inl (dA 0, 16, .inl fs)), (h20, .inl (dA 0, 16, .inl fm))] sz)) 1 6 (va_A [(h0, .inr (9, [.ref h1, .ref h21, .int xi, .ref h41, .ref h43, .ref h46, .ref h49, .int xe, .int xf])), (h1, .inr (6, [.int on, .int ot, .int op, .int os, .ref h2, .ref h6, .ref h9, .ref h14, .ref h17])), (h17, .inr (3, [.int fc, .ref h18, .ref h19, .ref h20])), (h18, .inl (dA 0, 16, .inl fg)), (h19, .inl (dA 0, 16, .inl fs)), (h20, .inl (dA 0, 16, .inl fm))] sz) := by
  refine of_Z (y := yX11_finishedGuest) (cc := cX11_finishedGuest) (maxL := 2) (ret := (some .int)) (av := [.ref h0, .int p0]) (ws := [(h0, .inr (9, [.ref h1, .ref h21, .int xi, .ref h41, .ref h43, .ref h46, .ref h49, .int xe, .int xf])), (h1, .inr (6, [.int on, .int ot, .int op, .int os, .ref h2, .ref h6, .ref h9, .ref h14, .ref h17])), (h17, .inr (3, [.int fc, .ref h18, .ref h19, .ref h20])), (h18, .inl (dA 0, 16, .inl fg)), (h19, .inl (dA 0, 16, .inl fs)), (h20, .inl (dA 0, 16, .inl fm))]) (sz := sz) (own := RX11) (XC := fun A => xcQ D (exs rx) [(h0, .inr (9, [.ref h1, .ref h21, .int xi, .ref h41, .ref h43, .ref h46, .ref h49, .int xe, .int xf])), (h1, .inr (6, [.int on, .int ot, .int op, .int os, .ref h2, .ref h6, .ref h9, .ref h14, .ref h17])), (h17, .inr (3, [.int fc, .ref h18, .ref h19, .ref h20])), (h18, .inl (dA 0, 16, .inl fg)), (h19, .inl (dA 0, 16, .inl fs)), (h20, .inl (dA 0, 16, .inl fm))] A) (by decide) rfl (Nat.le_of_ble_eq_true rfl) ?_
  intro p e s m below meth c A hx hb hr ha hown hml hlocks hin hno hP hK hD hX hS hA ls hl
  have hC := hX.1
  have hl : lv_has ls 2 [(0, .ref h0), (1, .int p0)] := hl
  rw [f_TX11_finishedGuest] at hf
  refine lv_aload_n hx hb dX11_finishedGuest_0 rfl (lv_at hl 0 rfl) ?_
  refine lv_iload_n hx hb dX11_finishedGuest_1 rfl (lv_at hl 1 rfl) ?_
  rcases sf_t1e hf with ⟨hnt, hf⟩ | ⟨k_1, hc1, hf⟩
  · skip
    obtain ⟨hc1, hf⟩ := sf_c0e hf
    refine k_Pv (run_YV (As := [.int p0]) (rest := []) ⟨hx, hb, hml, hown, ha⟩ (c_X11_checkFinish l D dA cA h0 h1 h2 h6 h9 h14 h17 h18 h19 h20 h21 h41 h43 h46 h49   on ot op os fc xi xe xf p0  hc1) (gi_V m_1103 m_1105 m_19 m_71 m_1106) yd_X11_checkFinish ⟨Nat.le_of_ble_eq_true rfl, Nat.le_of_ble_eq_true rfl⟩ ⟨rfl, rfl⟩ hK hX hS hP [0, 1, 2] rfl (va_recv hK hP (q0 := 0) rfl rfl) rfl hl.1 rfl (Nat.le_of_ble_eq_true rfl) dX11_finishedGuest_2 ⟨Nat.le_of_ble_eq_true rfl, Nat.le_of_ble_eq_true rfl⟩) hP hS (fun H locs hP hS => ?_)
    refine lv_aload_n hx hb dX11_finishedGuest_5 rfl (lv_at hl 0 rfl) ?_
    refine gt_f (C := RX11) (T := TX11) (N := 9) hx hb ha in_X11 hown hK hP 0 rfl rfl 0 (by decide) m_370 rfl dX11_finishedGuest_6 ?_
    refine gt_f (C := RX8) (T := TX8) (N := 9) hx hb ha in_X8 hown hK hP 1 rfl rfl 8 (by decide) m_261 rfl dX11_finishedGuest_9 ?_
    refine gt_f (C := RX5) (T := TX5) (N := 4) hx hb ha in_X5 hown hK hP 2 rfl rfl 1 (by decide) m_230 rfl dX11_finishedGuest_12 ?_
    refine lv_aload_n hx hb dX11_finishedGuest_15 rfl (lv_at hl 0 rfl) ?_
    refine gt_f (C := RX11) (T := TX11) (N := 9) hx hb ha in_X11 hown hK hP 0 rfl rfl 0 (by decide) m_370 rfl dX11_finishedGuest_16 ?_
    refine gt_f (C := RX8) (T := TX8) (N := 9) hx hb ha in_X8 hown hK hP 1 rfl rfl 8 (by decide) m_261 rfl dX11_finishedGuest_19 ?_
    refine lv_iload_n hx hb dX11_finishedGuest_22 rfl (lv_at hl 1 rfl) ?_
    obtain ⟨r_2, hc2, hf⟩ := sf_c1e hf
    refine k_Pi (run_PV (As := [.int p0]) (rest := [.ref h18]) ⟨hx, hb, hml, hown, ha⟩ (c_X5_rowOf l D dA h17 h18 h19 h20   fc fg fs fm p0 _ hc2) (gi_V m_1108 m_1109 m_1110 m_77 m_1111) yd_X5_rowOf ⟨Nat.le_of_ble_eq_true rfl, Nat.le_of_ble_eq_true rfl⟩ ⟨rfl, rfl⟩ hK hP [2, 3, 4, 5] rfl 2 3 rfl rfl rfl rfl hl.1 rfl (Nat.le_of_ble_eq_true rfl) dX11_finishedGuest_23 ⟨Nat.le_of_ble_eq_true rfl, Nat.le_of_ble_eq_true rfl⟩) hP hS (fun H locs hP hS => ?_)
    obtain ⟨hi, hf⟩ := sf_ge hf
    refine ia_ld hx hb hK hP 3 rfl hi dX11_finishedGuest_26 ?_
    cases hf
  · skip
    refine k_Z (wr := [(h18, .inl (dA 0, 16, .inl fg)), (h19, .inl (dA 0, 16, .inl fs)), (h20, .inl (dA 0, 16, .inl fm))]) (run_ZV (As := [.int p0]) (rest := []) ⟨hx, hb, hml, hown, ha⟩ (c_TX11_checkFinish l D dA cA hst h0 h1 h2 h6 h9 h14 h17 h18 h19 h20 h21 h41 h43 h46 h49  _ on ot op os fc xi xe xf p0 _ hc1) (gi_V m_1103 m_1105 m_19 m_71 m_1106) yd_TX11_checkFinish ⟨Nat.le_of_ble_eq_true rfl, Nat.le_of_ble_eq_true rfl⟩ ⟨rfl, rfl⟩ hK hX hS hA hP hD [0, 1, 2] (by decide) rfl (va_recv hK hP (q0 := 0) rfl rfl) rfl hl.1 rfl (Nat.le_of_ble_eq_true rfl) dX11_finishedGuest_2 ⟨Nat.le_of_ble_eq_true rfl, Nat.le_of_ble_eq_true rfl⟩) hP hD hS hA [0, 1, 2] [3, 4, 5] rfl rfl (by decide) (by decide) (fun q9 H locs hP hD hS ht9 => ?_)
    cases hf
    exact px_o hno hlocks ht9 (hP.sub [3, 4, 5, 0, 1, 2] rfl) (hD.sub [3, 4, 5, 0, 1, 2] (by decide) rfl) hS (by decide) (by decide)

def f_X11_finishedSlide (fc : Int32) (fs : Nat → Int32) (p0 : Int32) : Option Int32 :=
  sf_c0 (f_X11_checkFinish fc p0) (fun _ => sf_c1 (f_X5_rowOf fc p0) (fun r_1 => sf_g (sf_in r_1 16 = true) (some (fs r_1.toNatClampNeg))))
theorem yd_X11_finishedSlide : yX11_finishedSlide.cls = RX11 ∧ yX11_finishedSlide.cls ≠ "java/lang/invoke/MethodHandle" ∧ yX11_finishedSlide.cls ≠ "java/lang/invoke/VarHandle" ∧ (parseMethodDescriptor yX11_finishedSlide.desc).map (fun d => d.parameters.length) = some 1 := ⟨rfl, by decide, by decide, by decide +kernel⟩
set_option maxRecDepth 100000 in
set_option maxHeartbeats 4000000 in
theorem c_X11_finishedSlide (l : Launch) (D : va_G) (dA : Nat → ClassId) (cA : Nat → Nat) (h0 h1 h2 h6 h9 h14 h17 h18 h19 h20 h21 h41 h43 h46 h49 : Nat) (on : Int32) (ot : Int32) (op : Int32) (os : Int32) (fc : Int32) (fg : Nat → Int32) (fs : Nat → Int32) (fm : Nat → Int32) (xi : Int32) (xe : Int32) (xf : Int32) (p0 : Int32) (rr : Int32) (hf : f_X11_finishedSlide fc fs p0 = some rr) : Met l yX11_finishedSlide (wo (.code yX11_finishedSlide cX11_finishedSlide 2 (some .int))) ({ frames := 1, cells := 0, slots := 0, locals := 21 } : Room) (preY D dA cA [.ref h0, .int p0] [(h0, .inr (9, [.ref h1, .ref h21, .int xi, .ref h41, .ref h43, .ref h46, .ref h49, .int xe, .int xf])), (h1, .inr (6, [.int on, .int ot, .int op, .int os, .ref h2, .ref h6, .ref h9, .ref h14, .ref h17])), (h17, .inr (3, [.int fc, .ref h18, .ref h19, .ref h20])), (h18, .inl (dA 0, 16, .inl fg)), (h19, .inl (dA 0, 16, .inl fs)), (h20, .inl (dA 0, 16, .inl fm))]) (poPi rr) 0 0 noA := by
  refine of_Y (y := yX11_finishedSlide) (cc := cX11_finishedSlide) (maxL := 2) (ret := (some .int)) (av := [.ref h0, .int p0]) (ws := [(h0, .inr (9, [.ref h1, .ref h21, .int xi, .ref h41, .ref h43, .ref h46, .ref h49, .int xe, .int xf])), (h1, .inr (6, [.int on, .int ot, .int op, .int os, .ref h2, .ref h6, .ref h9, .ref h14, .ref h17])), (h17, .inr (3, [.int fc, .ref h18, .ref h19, .ref h20])), (h18, .inl (dA 0, 16, .inl fg)), (h19, .inl (dA 0, 16, .inl fs)), (h20, .inl (dA 0, 16, .inl fm))]) (own := RX11) (by decide) rfl (Nat.le_of_ble_eq_true rfl) ?_
  intro p e s m below meth c hx hb hr ha hown hml hlocks hP hK hX hS ls hl
  have hC := hX.1
  have hl : lv_has ls 2 [(0, .ref h0), (1, .int p0)] := hl
  rw [f_X11_finishedSlide] at hf
  refine lv_aload_n hx hb dX11_finishedSlide_0 rfl (lv_at hl 0 rfl) ?_
  refine lv_iload_n hx hb dX11_finishedSlide_1 rfl (lv_at hl 1 rfl) ?_
  obtain ⟨hc0, hf⟩ := sf_c0e hf
  refine k_Pv (run_YV (As := [.int p0]) (rest := []) ⟨hx, hb, hml, hown, ha⟩ (c_X11_checkFinish l D dA cA h0 h1 h2 h6 h9 h14 h17 h18 h19 h20 h21 h41 h43 h46 h49   on ot op os fc xi xe xf p0  hc0) (gi_V m_1103 m_1105 m_19 m_71 m_1106) yd_X11_checkFinish ⟨Nat.le_of_ble_eq_true rfl, Nat.le_of_ble_eq_true rfl⟩ ⟨rfl, rfl⟩ hK hX hS hP [0, 1, 2] rfl (va_recv hK hP (q0 := 0) rfl rfl) rfl hl.1 rfl (Nat.le_of_ble_eq_true rfl) dX11_finishedSlide_2 ⟨Nat.le_of_ble_eq_true rfl, Nat.le_of_ble_eq_true rfl⟩) hP hS (fun H locs hP hS => ?_)
  refine lv_aload_n hx hb dX11_finishedSlide_5 rfl (lv_at hl 0 rfl) ?_
  refine gt_f (C := RX11) (T := TX11) (N := 9) hx hb ha in_X11 hown hK hP 0 rfl rfl 0 (by decide) m_370 rfl dX11_finishedSlide_6 ?_
  refine gt_f (C := RX8) (T := TX8) (N := 9) hx hb ha in_X8 hown hK hP 1 rfl rfl 8 (by decide) m_261 rfl dX11_finishedSlide_9 ?_
  refine gt_f (C := RX5) (T := TX5) (N := 4) hx hb ha in_X5 hown hK hP 2 rfl rfl 2 (by decide) m_232 rfl dX11_finishedSlide_12 ?_
  refine lv_aload_n hx hb dX11_finishedSlide_15 rfl (lv_at hl 0 rfl) ?_
  refine gt_f (C := RX11) (T := TX11) (N := 9) hx hb ha in_X11 hown hK hP 0 rfl rfl 0 (by decide) m_370 rfl dX11_finishedSlide_16 ?_
  refine gt_f (C := RX8) (T := TX8) (N := 9) hx hb ha in_X8 hown hK hP 1 rfl rfl 8 (by decide) m_261 rfl dX11_finishedSlide_19 ?_
  refine lv_iload_n hx hb dX11_finishedSlide_22 rfl (lv_at hl 1 rfl) ?_
  obtain ⟨r_1, hc1, hf⟩ := sf_c1e hf
  refine k_Pi (run_PV (As := [.int p0]) (rest := [.ref h19]) ⟨hx, hb, hml, hown, ha⟩ (c_X5_rowOf l D dA h17 h18 h19 h20   fc fg fs fm p0 _ hc1) (gi_V m_1108 m_1109 m_1110 m_77 m_1111) yd_X5_rowOf ⟨Nat.le_of_ble_eq_true rfl, Nat.le_of_ble_eq_true rfl⟩ ⟨rfl, rfl⟩ hK hP [2, 3, 4, 5] rfl 2 3 rfl rfl rfl rfl hl.1 rfl (Nat.le_of_ble_eq_true rfl) dX11_finishedSlide_23 ⟨Nat.le_of_ble_eq_true rfl, Nat.le_of_ble_eq_true rfl⟩) hP hS (fun H locs hP hS => ?_)
  obtain ⟨hi, hf⟩ := sf_ge hf
  refine ia_ld hx hb hK hP 4 rfl hi dX11_finishedSlide_26 ?_
  exact rt_Pi hx hb hr hlocks (Option.some.inj hf) hS dX11_finishedSlide_27

def f_TX11_finishedSlide (fc : Int32) (p0 : Int32) : Option Nat :=
  sf_t1 (f_TX11_checkFinish fc p0) (fun k_1 => some k_1) (sf_c0 (f_X11_checkFinish fc p0) (fun _ => sf_c1 (f_X5_rowOf fc p0) (fun r_2 => sf_g (sf_in r_2 16 = true) (none))))
theorem yd_TX11_finishedSlide : yX11_finishedSlide.cls = RX11 ∧ yX11_finishedSlide.cls ≠ "java/lang/invoke/MethodHandle" ∧ yX11_finishedSlide.cls ≠ "java/lang/invoke/VarHandle" ∧ (parseMethodDescriptor yX11_finishedSlide.desc).map (fun d => d.parameters.length) = some 1 := ⟨rfl, by decide, by decide, by decide +kernel⟩
set_option maxRecDepth 100000 in
set_option maxHeartbeats 4000000 in
theorem c_TX11_finishedSlide (l : Launch) (D : va_G) (dA : Nat → ClassId) (cA : Nat → Nat) (hst : l.stackTraces = false) (h0 h1 h2 h6 h9 h14 h17 h18 h19 h20 h21 h41 h43 h46 h49 : Nat) (sz : Nat) (on : Int32) (ot : Int32) (op : Int32) (os : Int32) (fc : Int32) (fg : Nat → Int32) (fs : Nat → Int32) (fm : Nat → Int32) (xi : Int32) (xe : Int32) (xf : Int32) (p0 : Int32) (rx : Nat) (hf : f_TX11_finishedSlide fc p0 = some rx) : vx_Met l yX11_finishedSlide (wo (.code yX11_finishedSlide cX11_finishedSlide 2 (some .int))) ({ frames := 7, cells := 1, slots := 6, locals := 121 } : Room) (preX D dA cA [.ref h0, .int p0] sz [(h0, .inr (9, [.ref h1, .ref h21, .int xi, .ref h41, .ref h43, .ref h46, .ref h49, .int xe, .int xf])), (h1, .inr (6, [.int on, .int ot, .int op, .int os, .ref h2, .ref h6, .ref h9, .ref h14, .ref h17])), (h17, .inr (3, [.int fc, .ref h18, .ref h19, .ref h20])), (h18, .inl (dA 0, 16, .inl fg)), (h19, .inl (dA 0, 16, .inl fs)), (h20, .inl (dA 0, 16, .inl fm))]) noQ (xcQ D (exs rx) [(h0, .inr (9, [.ref h1, .ref h21, .int xi, .ref h41, .ref h43, .ref h46, .ref h49, .int xe, .int xf])), (h1, .inr (6, [.int on, .int ot, .int op, .int os, .ref h2, .ref h6, .ref h9, .ref h14, .ref h17])), (h17, .inr (3, [.int fc, .ref h18, .ref h19, .ref h20])), (h18, .inl (dA 0, 16, .inl fg)), (h19, .inl (dA 0, 16, .inl fs)), (h20, .inl (dA 0, 16, .inl fm))] (va_A [(h0, .inr (9, [.ref h1, .ref h21, .int xi, .ref h41, .ref h43, .ref h46, .ref h49, .int xe, .int xf])), (h1, .inr (6, [.int on, .int ot, .int op, .int os, .ref h2, .ref h6, .ref h9, .ref h14, .ref h17])), (h17, .inr (3, [.int fc, .ref h18, .ref h19, .ref h20])), (h18, .inl (dA 0, 16, .inl fg)), (h19, .inl (dA 0, 16, .inl fs)), (h20, .inl (dA 0, 16, .inl fm))] sz)) 1 6 (va_A [(h0, .inr (9, [.ref h1, .ref h21, .int xi, .ref h41, .ref h43, .ref h46, .ref h49, .int xe, .int xf])), (h1, .inr (6, [.int on, .int ot, .int op, .int os, .ref h2, .ref h6, .ref h9, .ref h14, .ref h17])), (h17, .inr (3, [.int fc, .ref h18, .ref h19, .ref h20])), (h18, .inl (dA 0, 16, .inl fg)), (h19, .inl (dA 0, 16, .inl fs)), (h20, .inl (dA 0, 16, .inl fm))] sz) := by
  refine of_Z (y := yX11_finishedSlide) (cc := cX11_finishedSlide) (maxL := 2) (ret := (some .int)) (av := [.ref h0, .int p0]) (ws := [(h0, .inr (9, [.ref h1, .ref h21, .int xi, .ref h41, .ref h43, .ref h46, .ref h49, .int xe, .int xf])), (h1, .inr (6, [.int on, .int ot, .int op, .int os, .ref h2, .ref h6, .ref h9, .ref h14, .ref h17])), (h17, .inr (3, [.int fc, .ref h18, .ref h19, .ref h20])), (h18, .inl (dA 0, 16, .inl fg)), (h19, .inl (dA 0, 16, .inl fs)), (h20, .inl (dA 0, 16, .inl fm))]) (sz := sz) (own := RX11) (XC := fun A => xcQ D (exs rx) [(h0, .inr (9, [.ref h1, .ref h21, .int xi, .ref h41, .ref h43, .ref h46, .ref h49, .int xe, .int xf])), (h1, .inr (6, [.int on, .int ot, .int op, .int os, .ref h2, .ref h6, .ref h9, .ref h14, .ref h17])), (h17, .inr (3, [.int fc, .ref h18, .ref h19, .ref h20])), (h18, .inl (dA 0, 16, .inl fg)), (h19, .inl (dA 0, 16, .inl fs)), (h20, .inl (dA 0, 16, .inl fm))] A) (by decide) rfl (Nat.le_of_ble_eq_true rfl) ?_
  intro p e s m below meth c A hx hb hr ha hown hml hlocks hin hno hP hK hD hX hS hA ls hl
  have hC := hX.1
  have hl : lv_has ls 2 [(0, .ref h0), (1, .int p0)] := hl
  rw [f_TX11_finishedSlide] at hf
  refine lv_aload_n hx hb dX11_finishedSlide_0 rfl (lv_at hl 0 rfl) ?_
  refine lv_iload_n hx hb dX11_finishedSlide_1 rfl (lv_at hl 1 rfl) ?_
  rcases sf_t1e hf with ⟨hnt, hf⟩ | ⟨k_1, hc1, hf⟩
  · skip
    obtain ⟨hc1, hf⟩ := sf_c0e hf
    refine k_Pv (run_YV (As := [.int p0]) (rest := []) ⟨hx, hb, hml, hown, ha⟩ (c_X11_checkFinish l D dA cA h0 h1 h2 h6 h9 h14 h17 h18 h19 h20 h21 h41 h43 h46 h49   on ot op os fc xi xe xf p0  hc1) (gi_V m_1103 m_1105 m_19 m_71 m_1106) yd_X11_checkFinish ⟨Nat.le_of_ble_eq_true rfl, Nat.le_of_ble_eq_true rfl⟩ ⟨rfl, rfl⟩ hK hX hS hP [0, 1, 2] rfl (va_recv hK hP (q0 := 0) rfl rfl) rfl hl.1 rfl (Nat.le_of_ble_eq_true rfl) dX11_finishedSlide_2 ⟨Nat.le_of_ble_eq_true rfl, Nat.le_of_ble_eq_true rfl⟩) hP hS (fun H locs hP hS => ?_)
    refine lv_aload_n hx hb dX11_finishedSlide_5 rfl (lv_at hl 0 rfl) ?_
    refine gt_f (C := RX11) (T := TX11) (N := 9) hx hb ha in_X11 hown hK hP 0 rfl rfl 0 (by decide) m_370 rfl dX11_finishedSlide_6 ?_
    refine gt_f (C := RX8) (T := TX8) (N := 9) hx hb ha in_X8 hown hK hP 1 rfl rfl 8 (by decide) m_261 rfl dX11_finishedSlide_9 ?_
    refine gt_f (C := RX5) (T := TX5) (N := 4) hx hb ha in_X5 hown hK hP 2 rfl rfl 2 (by decide) m_232 rfl dX11_finishedSlide_12 ?_
    refine lv_aload_n hx hb dX11_finishedSlide_15 rfl (lv_at hl 0 rfl) ?_
    refine gt_f (C := RX11) (T := TX11) (N := 9) hx hb ha in_X11 hown hK hP 0 rfl rfl 0 (by decide) m_370 rfl dX11_finishedSlide_16 ?_
    refine gt_f (C := RX8) (T := TX8) (N := 9) hx hb ha in_X8 hown hK hP 1 rfl rfl 8 (by decide) m_261 rfl dX11_finishedSlide_19 ?_
    refine lv_iload_n hx hb dX11_finishedSlide_22 rfl (lv_at hl 1 rfl) ?_
    obtain ⟨r_2, hc2, hf⟩ := sf_c1e hf
    refine k_Pi (run_PV (As := [.int p0]) (rest := [.ref h19]) ⟨hx, hb, hml, hown, ha⟩ (c_X5_rowOf l D dA h17 h18 h19 h20   fc fg fs fm p0 _ hc2) (gi_V m_1108 m_1109 m_1110 m_77 m_1111) yd_X5_rowOf ⟨Nat.le_of_ble_eq_true rfl, Nat.le_of_ble_eq_true rfl⟩ ⟨rfl, rfl⟩ hK hP [2, 3, 4, 5] rfl 2 3 rfl rfl rfl rfl hl.1 rfl (Nat.le_of_ble_eq_true rfl) dX11_finishedSlide_23 ⟨Nat.le_of_ble_eq_true rfl, Nat.le_of_ble_eq_true rfl⟩) hP hS (fun H locs hP hS => ?_)
    obtain ⟨hi, hf⟩ := sf_ge hf
    refine ia_ld hx hb hK hP 4 rfl hi dX11_finishedSlide_26 ?_
    cases hf
  · skip
    refine k_Z (wr := [(h18, .inl (dA 0, 16, .inl fg)), (h19, .inl (dA 0, 16, .inl fs)), (h20, .inl (dA 0, 16, .inl fm))]) (run_ZV (As := [.int p0]) (rest := []) ⟨hx, hb, hml, hown, ha⟩ (c_TX11_checkFinish l D dA cA hst h0 h1 h2 h6 h9 h14 h17 h18 h19 h20 h21 h41 h43 h46 h49  _ on ot op os fc xi xe xf p0 _ hc1) (gi_V m_1103 m_1105 m_19 m_71 m_1106) yd_TX11_checkFinish ⟨Nat.le_of_ble_eq_true rfl, Nat.le_of_ble_eq_true rfl⟩ ⟨rfl, rfl⟩ hK hX hS hA hP hD [0, 1, 2] (by decide) rfl (va_recv hK hP (q0 := 0) rfl rfl) rfl hl.1 rfl (Nat.le_of_ble_eq_true rfl) dX11_finishedSlide_2 ⟨Nat.le_of_ble_eq_true rfl, Nat.le_of_ble_eq_true rfl⟩) hP hD hS hA [0, 1, 2] [3, 4, 5] rfl rfl (by decide) (by decide) (fun q9 H locs hP hD hS ht9 => ?_)
    cases hf
    exact px_o hno hlocks ht9 (hP.sub [3, 4, 5, 0, 1, 2] rfl) (hD.sub [3, 4, 5, 0, 1, 2] (by decide) rfl) hS (by decide) (by decide)

def f_X11_finishMinute (fc : Int32) (fm : Nat → Int32) (p0 : Int32) : Option Int32 :=
  sf_c0 (f_X11_checkFinish fc p0) (fun _ => sf_c1 (f_X5_rowOf fc p0) (fun r_1 => sf_g (sf_in r_1 16 = true) (some (fm r_1.toNatClampNeg))))
theorem yd_X11_finishMinute : yX11_finishMinute.cls = RX11 ∧ yX11_finishMinute.cls ≠ "java/lang/invoke/MethodHandle" ∧ yX11_finishMinute.cls ≠ "java/lang/invoke/VarHandle" ∧ (parseMethodDescriptor yX11_finishMinute.desc).map (fun d => d.parameters.length) = some 1 := ⟨rfl, by decide, by decide, by decide +kernel⟩
set_option maxRecDepth 100000 in
set_option maxHeartbeats 4000000 in
theorem c_X11_finishMinute (l : Launch) (D : va_G) (dA : Nat → ClassId) (cA : Nat → Nat) (h0 h1 h2 h6 h9 h14 h17 h18 h19 h20 h21 h41 h43 h46 h49 : Nat) (on : Int32) (ot : Int32) (op : Int32) (os : Int32) (fc : Int32) (fg : Nat → Int32) (fs : Nat → Int32) (fm : Nat → Int32) (xi : Int32) (xe : Int32) (xf : Int32) (p0 : Int32) (rr : Int32) (hf : f_X11_finishMinute fc fm p0 = some rr) : Met l yX11_finishMinute (wo (.code yX11_finishMinute cX11_finishMinute 2 (some .int))) ({ frames := 1, cells := 0, slots := 0, locals := 21 } : Room) (preY D dA cA [.ref h0, .int p0] [(h0, .inr (9, [.ref h1, .ref h21, .int xi, .ref h41, .ref h43, .ref h46, .ref h49, .int xe, .int xf])), (h1, .inr (6, [.int on, .int ot, .int op, .int os, .ref h2, .ref h6, .ref h9, .ref h14, .ref h17])), (h17, .inr (3, [.int fc, .ref h18, .ref h19, .ref h20])), (h18, .inl (dA 0, 16, .inl fg)), (h19, .inl (dA 0, 16, .inl fs)), (h20, .inl (dA 0, 16, .inl fm))]) (poPi rr) 0 0 noA := by
  refine of_Y (y := yX11_finishMinute) (cc := cX11_finishMinute) (maxL := 2) (ret := (some .int)) (av := [.ref h0, .int p0]) (ws := [(h0, .inr (9, [.ref h1, .ref h21, .int xi, .ref h41, .ref h43, .ref h46, .ref h49, .int xe, .int xf])), (h1, .inr (6, [.int on, .int ot, .int op, .int os, .ref h2, .ref h6, .ref h9, .ref h14, .ref h17])), (h17, .inr (3, [.int fc, .ref h18, .ref h19, .ref h20])), (h18, .inl (dA 0, 16, .inl fg)), (h19, .inl (dA 0, 16, .inl fs)), (h20, .inl (dA 0, 16, .inl fm))]) (own := RX11) (by decide) rfl (Nat.le_of_ble_eq_true rfl) ?_
  intro p e s m below meth c hx hb hr ha hown hml hlocks hP hK hX hS ls hl
  have hC := hX.1
  have hl : lv_has ls 2 [(0, .ref h0), (1, .int p0)] := hl
  rw [f_X11_finishMinute] at hf
  refine lv_aload_n hx hb dX11_finishMinute_0 rfl (lv_at hl 0 rfl) ?_
  refine lv_iload_n hx hb dX11_finishMinute_1 rfl (lv_at hl 1 rfl) ?_
  obtain ⟨hc0, hf⟩ := sf_c0e hf
  refine k_Pv (run_YV (As := [.int p0]) (rest := []) ⟨hx, hb, hml, hown, ha⟩ (c_X11_checkFinish l D dA cA h0 h1 h2 h6 h9 h14 h17 h18 h19 h20 h21 h41 h43 h46 h49   on ot op os fc xi xe xf p0  hc0) (gi_V m_1103 m_1105 m_19 m_71 m_1106) yd_X11_checkFinish ⟨Nat.le_of_ble_eq_true rfl, Nat.le_of_ble_eq_true rfl⟩ ⟨rfl, rfl⟩ hK hX hS hP [0, 1, 2] rfl (va_recv hK hP (q0 := 0) rfl rfl) rfl hl.1 rfl (Nat.le_of_ble_eq_true rfl) dX11_finishMinute_2 ⟨Nat.le_of_ble_eq_true rfl, Nat.le_of_ble_eq_true rfl⟩) hP hS (fun H locs hP hS => ?_)
  refine lv_aload_n hx hb dX11_finishMinute_5 rfl (lv_at hl 0 rfl) ?_
  refine gt_f (C := RX11) (T := TX11) (N := 9) hx hb ha in_X11 hown hK hP 0 rfl rfl 0 (by decide) m_370 rfl dX11_finishMinute_6 ?_
  refine gt_f (C := RX8) (T := TX8) (N := 9) hx hb ha in_X8 hown hK hP 1 rfl rfl 8 (by decide) m_261 rfl dX11_finishMinute_9 ?_
  refine gt_f (C := RX5) (T := TX5) (N := 4) hx hb ha in_X5 hown hK hP 2 rfl rfl 3 (by decide) m_234 rfl dX11_finishMinute_12 ?_
  refine lv_aload_n hx hb dX11_finishMinute_15 rfl (lv_at hl 0 rfl) ?_
  refine gt_f (C := RX11) (T := TX11) (N := 9) hx hb ha in_X11 hown hK hP 0 rfl rfl 0 (by decide) m_370 rfl dX11_finishMinute_16 ?_
  refine gt_f (C := RX8) (T := TX8) (N := 9) hx hb ha in_X8 hown hK hP 1 rfl rfl 8 (by decide) m_261 rfl dX11_finishMinute_19 ?_
  refine lv_iload_n hx hb dX11_finishMinute_22 rfl (lv_at hl 1 rfl) ?_
  obtain ⟨r_1, hc1, hf⟩ := sf_c1e hf
  refine k_Pi (run_PV (As := [.int p0]) (rest := [.ref h20]) ⟨hx, hb, hml, hown, ha⟩ (c_X5_rowOf l D dA h17 h18 h19 h20   fc fg fs fm p0 _ hc1) (gi_V m_1108 m_1109 m_1110 m_77 m_1111) yd_X5_rowOf ⟨Nat.le_of_ble_eq_true rfl, Nat.le_of_ble_eq_true rfl⟩ ⟨rfl, rfl⟩ hK hP [2, 3, 4, 5] rfl 2 3 rfl rfl rfl rfl hl.1 rfl (Nat.le_of_ble_eq_true rfl) dX11_finishMinute_23 ⟨Nat.le_of_ble_eq_true rfl, Nat.le_of_ble_eq_true rfl⟩) hP hS (fun H locs hP hS => ?_)
  obtain ⟨hi, hf⟩ := sf_ge hf
  refine ia_ld hx hb hK hP 5 rfl hi dX11_finishMinute_26 ?_
  exact rt_Pi hx hb hr hlocks (Option.some.inj hf) hS dX11_finishMinute_27

def f_TX11_finishMinute (fc : Int32) (p0 : Int32) : Option Nat :=
  sf_t1 (f_TX11_checkFinish fc p0) (fun k_1 => some k_1) (sf_c0 (f_X11_checkFinish fc p0) (fun _ => sf_c1 (f_X5_rowOf fc p0) (fun r_2 => sf_g (sf_in r_2 16 = true) (none))))
theorem yd_TX11_finishMinute : yX11_finishMinute.cls = RX11 ∧ yX11_finishMinute.cls ≠ "java/lang/invoke/MethodHandle" ∧ yX11_finishMinute.cls ≠ "java/lang/invoke/VarHandle" ∧ (parseMethodDescriptor yX11_finishMinute.desc).map (fun d => d.parameters.length) = some 1 := ⟨rfl, by decide, by decide, by decide +kernel⟩
set_option maxRecDepth 100000 in
set_option maxHeartbeats 4000000 in
theorem c_TX11_finishMinute (l : Launch) (D : va_G) (dA : Nat → ClassId) (cA : Nat → Nat) (hst : l.stackTraces = false) (h0 h1 h2 h6 h9 h14 h17 h18 h19 h20 h21 h41 h43 h46 h49 : Nat) (sz : Nat) (on : Int32) (ot : Int32) (op : Int32) (os : Int32) (fc : Int32) (fg : Nat → Int32) (fs : Nat → Int32) (fm : Nat → Int32) (xi : Int32) (xe : Int32) (xf : Int32) (p0 : Int32) (rx : Nat) (hf : f_TX11_finishMinute fc p0 = some rx) : vx_Met l yX11_finishMinute (wo (.code yX11_finishMinute cX11_finishMinute 2 (some .int))) ({ frames := 7, cells := 1, slots := 6, locals := 121 } : Room) (preX D dA cA [.ref h0, .int p0] sz [(h0, .inr (9, [.ref h1, .ref h21, .int xi, .ref h41, .ref h43, .ref h46, .ref h49, .int xe, .int xf])), (h1, .inr (6, [.int on, .int ot, .int op, .int os, .ref h2, .ref h6, .ref h9, .ref h14, .ref h17])), (h17, .inr (3, [.int fc, .ref h18, .ref h19, .ref h20])), (h18, .inl (dA 0, 16, .inl fg)), (h19, .inl (dA 0, 16, .inl fs)), (h20, .inl (dA 0, 16, .inl fm))]) noQ (xcQ D (exs rx) [(h0, .inr (9, [.ref h1, .ref h21, .int xi, .ref h41, .ref h43, .ref h46, .ref h49, .int xe, .int xf])), (h1, .inr (6, [.int on, .int ot, .int op, .int os, .ref h2, .ref h6, .ref h9, .ref h14, .ref h17])), (h17, .inr (3, [.int fc, .ref h18, .ref h19, .ref h20])), (h18, .inl (dA 0, 16, .inl fg)), (h19, .inl (dA 0, 16, .inl fs)), (h20, .inl (dA 0, 16, .inl fm))] (va_A [(h0, .inr (9, [.ref h1, .ref h21, .int xi, .ref h41, .ref h43, .ref h46, .ref h49, .int xe, .int xf])), (h1, .inr (6, [.int on, .int ot, .int op, .int os, .ref h2, .ref h6, .ref h9, .ref h14, .ref h17])), (h17, .inr (3, [.int fc, .ref h18, .ref h19, .ref h20])), (h18, .inl (dA 0, 16, .inl fg)), (h19, .inl (dA 0, 16, .inl fs)), (h20, .inl (dA 0, 16, .inl fm))] sz)) 1 6 (va_A [(h0, .inr (9, [.ref h1, .ref h21, .int xi, .ref h41, .ref h43, .ref h46, .ref h49, .int xe, .int xf])), (h1, .inr (6, [.int on, .int ot, .int op, .int os, .ref h2, .ref h6, .ref h9, .ref h14, .ref h17])), (h17, .inr (3, [.int fc, .ref h18, .ref h19, .ref h20])), (h18, .inl (dA 0, 16, .inl fg)), (h19, .inl (dA 0, 16, .inl fs)), (h20, .inl (dA 0, 16, .inl fm))] sz) := by
  refine of_Z (y := yX11_finishMinute) (cc := cX11_finishMinute) (maxL := 2) (ret := (some .int)) (av := [.ref h0, .int p0]) (ws := [(h0, .inr (9, [.ref h1, .ref h21, .int xi, .ref h41, .ref h43, .ref h46, .ref h49, .int xe, .int xf])), (h1, .inr (6, [.int on, .int ot, .int op, .int os, .ref h2, .ref h6, .ref h9, .ref h14, .ref h17])), (h17, .inr (3, [.int fc, .ref h18, .ref h19, .ref h20])), (h18, .inl (dA 0, 16, .inl fg)), (h19, .inl (dA 0, 16, .inl fs)), (h20, .inl (dA 0, 16, .inl fm))]) (sz := sz) (own := RX11) (XC := fun A => xcQ D (exs rx) [(h0, .inr (9, [.ref h1, .ref h21, .int xi, .ref h41, .ref h43, .ref h46, .ref h49, .int xe, .int xf])), (h1, .inr (6, [.int on, .int ot, .int op, .int os, .ref h2, .ref h6, .ref h9, .ref h14, .ref h17])), (h17, .inr (3, [.int fc, .ref h18, .ref h19, .ref h20])), (h18, .inl (dA 0, 16, .inl fg)), (h19, .inl (dA 0, 16, .inl fs)), (h20, .inl (dA 0, 16, .inl fm))] A) (by decide) rfl (Nat.le_of_ble_eq_true rfl) ?_
  intro p e s m below meth c A hx hb hr ha hown hml hlocks hin hno hP hK hD hX hS hA ls hl
  have hC := hX.1
  have hl : lv_has ls 2 [(0, .ref h0), (1, .int p0)] := hl
  rw [f_TX11_finishMinute] at hf
  refine lv_aload_n hx hb dX11_finishMinute_0 rfl (lv_at hl 0 rfl) ?_
  refine lv_iload_n hx hb dX11_finishMinute_1 rfl (lv_at hl 1 rfl) ?_
  rcases sf_t1e hf with ⟨hnt, hf⟩ | ⟨k_1, hc1, hf⟩
  · skip
    obtain ⟨hc1, hf⟩ := sf_c0e hf
    refine k_Pv (run_YV (As := [.int p0]) (rest := []) ⟨hx, hb, hml, hown, ha⟩ (c_X11_checkFinish l D dA cA h0 h1 h2 h6 h9 h14 h17 h18 h19 h20 h21 h41 h43 h46 h49   on ot op os fc xi xe xf p0  hc1) (gi_V m_1103 m_1105 m_19 m_71 m_1106) yd_X11_checkFinish ⟨Nat.le_of_ble_eq_true rfl, Nat.le_of_ble_eq_true rfl⟩ ⟨rfl, rfl⟩ hK hX hS hP [0, 1, 2] rfl (va_recv hK hP (q0 := 0) rfl rfl) rfl hl.1 rfl (Nat.le_of_ble_eq_true rfl) dX11_finishMinute_2 ⟨Nat.le_of_ble_eq_true rfl, Nat.le_of_ble_eq_true rfl⟩) hP hS (fun H locs hP hS => ?_)
    refine lv_aload_n hx hb dX11_finishMinute_5 rfl (lv_at hl 0 rfl) ?_
    refine gt_f (C := RX11) (T := TX11) (N := 9) hx hb ha in_X11 hown hK hP 0 rfl rfl 0 (by decide) m_370 rfl dX11_finishMinute_6 ?_
    refine gt_f (C := RX8) (T := TX8) (N := 9) hx hb ha in_X8 hown hK hP 1 rfl rfl 8 (by decide) m_261 rfl dX11_finishMinute_9 ?_
    refine gt_f (C := RX5) (T := TX5) (N := 4) hx hb ha in_X5 hown hK hP 2 rfl rfl 3 (by decide) m_234 rfl dX11_finishMinute_12 ?_
    refine lv_aload_n hx hb dX11_finishMinute_15 rfl (lv_at hl 0 rfl) ?_
    refine gt_f (C := RX11) (T := TX11) (N := 9) hx hb ha in_X11 hown hK hP 0 rfl rfl 0 (by decide) m_370 rfl dX11_finishMinute_16 ?_
    refine gt_f (C := RX8) (T := TX8) (N := 9) hx hb ha in_X8 hown hK hP 1 rfl rfl 8 (by decide) m_261 rfl dX11_finishMinute_19 ?_
    refine lv_iload_n hx hb dX11_finishMinute_22 rfl (lv_at hl 1 rfl) ?_
    obtain ⟨r_2, hc2, hf⟩ := sf_c1e hf
    refine k_Pi (run_PV (As := [.int p0]) (rest := [.ref h20]) ⟨hx, hb, hml, hown, ha⟩ (c_X5_rowOf l D dA h17 h18 h19 h20   fc fg fs fm p0 _ hc2) (gi_V m_1108 m_1109 m_1110 m_77 m_1111) yd_X5_rowOf ⟨Nat.le_of_ble_eq_true rfl, Nat.le_of_ble_eq_true rfl⟩ ⟨rfl, rfl⟩ hK hP [2, 3, 4, 5] rfl 2 3 rfl rfl rfl rfl hl.1 rfl (Nat.le_of_ble_eq_true rfl) dX11_finishMinute_23 ⟨Nat.le_of_ble_eq_true rfl, Nat.le_of_ble_eq_true rfl⟩) hP hS (fun H locs hP hS => ?_)
    obtain ⟨hi, hf⟩ := sf_ge hf
    refine ia_ld hx hb hK hP 5 rfl hi dX11_finishMinute_26 ?_
    cases hf
  · skip
    refine k_Z (wr := [(h18, .inl (dA 0, 16, .inl fg)), (h19, .inl (dA 0, 16, .inl fs)), (h20, .inl (dA 0, 16, .inl fm))]) (run_ZV (As := [.int p0]) (rest := []) ⟨hx, hb, hml, hown, ha⟩ (c_TX11_checkFinish l D dA cA hst h0 h1 h2 h6 h9 h14 h17 h18 h19 h20 h21 h41 h43 h46 h49  _ on ot op os fc xi xe xf p0 _ hc1) (gi_V m_1103 m_1105 m_19 m_71 m_1106) yd_TX11_checkFinish ⟨Nat.le_of_ble_eq_true rfl, Nat.le_of_ble_eq_true rfl⟩ ⟨rfl, rfl⟩ hK hX hS hA hP hD [0, 1, 2] (by decide) rfl (va_recv hK hP (q0 := 0) rfl rfl) rfl hl.1 rfl (Nat.le_of_ble_eq_true rfl) dX11_finishMinute_2 ⟨Nat.le_of_ble_eq_true rfl, Nat.le_of_ble_eq_true rfl⟩) hP hD hS hA [0, 1, 2] [3, 4, 5] rfl rfl (by decide) (by decide) (fun q9 H locs hP hD hS ht9 => ?_)
    cases hf
    exact px_o hno hlocks ht9 (hP.sub [3, 4, 5, 0, 1, 2] rfl) (hD.sub [3, 4, 5, 0, 1, 2] (by decide) rfl) hS (by decide) (by decide)

def f_X11_photoFinishes (fc : Int32) (fm : Nat → Int32) : Option Int32 :=
  sf_c1 (f_X5_equalPairs fc fm) (fun r_1 => some r_1)
theorem yd_X11_photoFinishes : yX11_photoFinishes.cls = RX11 ∧ yX11_photoFinishes.cls ≠ "java/lang/invoke/MethodHandle" ∧ yX11_photoFinishes.cls ≠ "java/lang/invoke/VarHandle" ∧ (parseMethodDescriptor yX11_photoFinishes.desc).map (fun d => d.parameters.length) = some 0 := ⟨rfl, by decide, by decide, by decide +kernel⟩
set_option maxRecDepth 100000 in
set_option maxHeartbeats 4000000 in
theorem c_X11_photoFinishes (l : Launch) (D : va_G) (dA : Nat → ClassId) (cA : Nat → Nat) (h0 h1 h2 h6 h9 h14 h17 h18 h19 h20 h21 h41 h43 h46 h49 : Nat) (on : Int32) (ot : Int32) (op : Int32) (os : Int32) (fc : Int32) (fg : Nat → Int32) (fs : Nat → Int32) (fm : Nat → Int32) (xi : Int32) (xe : Int32) (xf : Int32) (rr : Int32) (hf : f_X11_photoFinishes fc fm = some rr) : Met l yX11_photoFinishes (wo (.code yX11_photoFinishes cX11_photoFinishes 1 (some .int))) ({ frames := 1, cells := 0, slots := 0, locals := 23 } : Room) (preY D dA cA [.ref h0] [(h0, .inr (9, [.ref h1, .ref h21, .int xi, .ref h41, .ref h43, .ref h46, .ref h49, .int xe, .int xf])), (h1, .inr (6, [.int on, .int ot, .int op, .int os, .ref h2, .ref h6, .ref h9, .ref h14, .ref h17])), (h17, .inr (3, [.int fc, .ref h18, .ref h19, .ref h20])), (h18, .inl (dA 0, 16, .inl fg)), (h19, .inl (dA 0, 16, .inl fs)), (h20, .inl (dA 0, 16, .inl fm))]) (poPi rr) 0 0 noA := by
  refine of_Y (y := yX11_photoFinishes) (cc := cX11_photoFinishes) (maxL := 1) (ret := (some .int)) (av := [.ref h0]) (ws := [(h0, .inr (9, [.ref h1, .ref h21, .int xi, .ref h41, .ref h43, .ref h46, .ref h49, .int xe, .int xf])), (h1, .inr (6, [.int on, .int ot, .int op, .int os, .ref h2, .ref h6, .ref h9, .ref h14, .ref h17])), (h17, .inr (3, [.int fc, .ref h18, .ref h19, .ref h20])), (h18, .inl (dA 0, 16, .inl fg)), (h19, .inl (dA 0, 16, .inl fs)), (h20, .inl (dA 0, 16, .inl fm))]) (own := RX11) (by decide) rfl (Nat.le_of_ble_eq_true rfl) ?_
  intro p e s m below meth c hx hb hr ha hown hml hlocks hP hK hX hS ls hl
  have hC := hX.1
  have hl : lv_has ls 1 [(0, .ref h0)] := hl
  rw [f_X11_photoFinishes] at hf
  refine lv_aload_n hx hb dX11_photoFinishes_0 rfl (lv_at hl 0 rfl) ?_
  refine gt_f (C := RX11) (T := TX11) (N := 9) hx hb ha in_X11 hown hK hP 0 rfl rfl 0 (by decide) m_370 rfl dX11_photoFinishes_1 ?_
  refine gt_f (C := RX8) (T := TX8) (N := 9) hx hb ha in_X8 hown hK hP 1 rfl rfl 8 (by decide) m_261 rfl dX11_photoFinishes_4 ?_
  obtain ⟨r_1, hc1, hf⟩ := sf_c1e hf
  refine k_Pi (run_PV (As := []) (rest := []) ⟨hx, hb, hml, hown, ha⟩ (c_X5_equalPairs l D dA h17 h18 h19 h20   fc fg fs fm  _ hc1) (gi_V m_486 m_487 m_488 m_77 m_489) yd_X5_equalPairs ⟨Nat.le_of_ble_eq_true rfl, Nat.le_of_ble_eq_true rfl⟩ ⟨rfl, rfl⟩ hK hP [2, 3, 4, 5] rfl 2 3 rfl rfl rfl rfl hl.1 rfl (Nat.le_of_ble_eq_true rfl) dX11_photoFinishes_7 ⟨Nat.le_of_ble_eq_true rfl, Nat.le_of_ble_eq_true rfl⟩) hP hS (fun H locs hP hS => ?_)
  exact rt_Pi hx hb hr hlocks (Option.some.inj hf) hS dX11_photoFinishes_10

def f_X11_photoFinishesByRuns (fc : Int32) (fm : Nat → Int32) : Option Int32 :=
  sf_c1 (f_X5_equalPairsFromRuns fc fm) (fun r_1 => some r_1)
theorem yd_X11_photoFinishesByRuns : yX11_photoFinishesByRuns.cls = RX11 ∧ yX11_photoFinishesByRuns.cls ≠ "java/lang/invoke/MethodHandle" ∧ yX11_photoFinishesByRuns.cls ≠ "java/lang/invoke/VarHandle" ∧ (parseMethodDescriptor yX11_photoFinishesByRuns.desc).map (fun d => d.parameters.length) = some 0 := ⟨rfl, by decide, by decide, by decide +kernel⟩
set_option maxRecDepth 100000 in
set_option maxHeartbeats 4000000 in
theorem c_X11_photoFinishesByRuns (l : Launch) (D : va_G) (dA : Nat → ClassId) (cA : Nat → Nat) (h0 h1 h2 h6 h9 h14 h17 h18 h19 h20 h21 h41 h43 h46 h49 : Nat) (on : Int32) (ot : Int32) (op : Int32) (os : Int32) (fc : Int32) (fg : Nat → Int32) (fs : Nat → Int32) (fm : Nat → Int32) (xi : Int32) (xe : Int32) (xf : Int32) (rr : Int32) (hf : f_X11_photoFinishesByRuns fc fm = some rr) : Met l yX11_photoFinishesByRuns (wo (.code yX11_photoFinishesByRuns cX11_photoFinishesByRuns 1 (some .int))) ({ frames := 1, cells := 0, slots := 0, locals := 23 } : Room) (preY D dA cA [.ref h0] [(h0, .inr (9, [.ref h1, .ref h21, .int xi, .ref h41, .ref h43, .ref h46, .ref h49, .int xe, .int xf])), (h1, .inr (6, [.int on, .int ot, .int op, .int os, .ref h2, .ref h6, .ref h9, .ref h14, .ref h17])), (h17, .inr (3, [.int fc, .ref h18, .ref h19, .ref h20])), (h18, .inl (dA 0, 16, .inl fg)), (h19, .inl (dA 0, 16, .inl fs)), (h20, .inl (dA 0, 16, .inl fm))]) (poPi rr) 0 0 noA := by
  refine of_Y (y := yX11_photoFinishesByRuns) (cc := cX11_photoFinishesByRuns) (maxL := 1) (ret := (some .int)) (av := [.ref h0]) (ws := [(h0, .inr (9, [.ref h1, .ref h21, .int xi, .ref h41, .ref h43, .ref h46, .ref h49, .int xe, .int xf])), (h1, .inr (6, [.int on, .int ot, .int op, .int os, .ref h2, .ref h6, .ref h9, .ref h14, .ref h17])), (h17, .inr (3, [.int fc, .ref h18, .ref h19, .ref h20])), (h18, .inl (dA 0, 16, .inl fg)), (h19, .inl (dA 0, 16, .inl fs)), (h20, .inl (dA 0, 16, .inl fm))]) (own := RX11) (by decide) rfl (Nat.le_of_ble_eq_true rfl) ?_
  intro p e s m below meth c hx hb hr ha hown hml hlocks hP hK hX hS ls hl
  have hC := hX.1
  have hl : lv_has ls 1 [(0, .ref h0)] := hl
  rw [f_X11_photoFinishesByRuns] at hf
  refine lv_aload_n hx hb dX11_photoFinishesByRuns_0 rfl (lv_at hl 0 rfl) ?_
  refine gt_f (C := RX11) (T := TX11) (N := 9) hx hb ha in_X11 hown hK hP 0 rfl rfl 0 (by decide) m_370 rfl dX11_photoFinishesByRuns_1 ?_
  refine gt_f (C := RX8) (T := TX8) (N := 9) hx hb ha in_X8 hown hK hP 1 rfl rfl 8 (by decide) m_261 rfl dX11_photoFinishesByRuns_4 ?_
  obtain ⟨r_1, hc1, hf⟩ := sf_c1e hf
  refine k_Pi (run_PV (As := []) (rest := []) ⟨hx, hb, hml, hown, ha⟩ (c_X5_equalPairsFromRuns l D dA h17 h18 h19 h20   fc fg fs fm  _ hc1) (gi_V m_494 m_495 m_496 m_77 m_497) yd_X5_equalPairsFromRuns ⟨Nat.le_of_ble_eq_true rfl, Nat.le_of_ble_eq_true rfl⟩ ⟨rfl, rfl⟩ hK hP [2, 3, 4, 5] rfl 2 3 rfl rfl rfl rfl hl.1 rfl (Nat.le_of_ble_eq_true rfl) dX11_photoFinishesByRuns_7 ⟨Nat.le_of_ble_eq_true rfl, Nat.le_of_ble_eq_true rfl⟩) hP hS (fun H locs hP hS => ?_)
  exact rt_Pi hx hb hr hlocks (Option.some.inj hf) hS dX11_photoFinishesByRuns_10

def f_X11_splashes (os : Int32) : Option Int32 :=
  some os
theorem yd_X11_splashes : yX11_splashes.cls = RX11 ∧ yX11_splashes.cls ≠ "java/lang/invoke/MethodHandle" ∧ yX11_splashes.cls ≠ "java/lang/invoke/VarHandle" ∧ (parseMethodDescriptor yX11_splashes.desc).map (fun d => d.parameters.length) = some 0 := ⟨rfl, by decide, by decide, by decide +kernel⟩
set_option maxRecDepth 100000 in
set_option maxHeartbeats 4000000 in
theorem c_X11_splashes (l : Launch) (D : va_G) (dA : Nat → ClassId) (cA : Nat → Nat) (h0 h1 h2 h6 h9 h14 h17 h21 h41 h43 h46 h49 : Nat) (on : Int32) (ot : Int32) (op : Int32) (os : Int32) (xi : Int32) (xe : Int32) (xf : Int32) (rr : Int32) (hf : f_X11_splashes os = some rr) : Met l yX11_splashes (wo (.code yX11_splashes cX11_splashes 1 (some .int))) ({ frames := 0, cells := 0, slots := 0, locals := 0 } : Room) (preY D dA cA [.ref h0] [(h0, .inr (9, [.ref h1, .ref h21, .int xi, .ref h41, .ref h43, .ref h46, .ref h49, .int xe, .int xf])), (h1, .inr (6, [.int on, .int ot, .int op, .int os, .ref h2, .ref h6, .ref h9, .ref h14, .ref h17]))]) (poPi rr) 0 0 noA := by
  refine of_Y (y := yX11_splashes) (cc := cX11_splashes) (maxL := 1) (ret := (some .int)) (av := [.ref h0]) (ws := [(h0, .inr (9, [.ref h1, .ref h21, .int xi, .ref h41, .ref h43, .ref h46, .ref h49, .int xe, .int xf])), (h1, .inr (6, [.int on, .int ot, .int op, .int os, .ref h2, .ref h6, .ref h9, .ref h14, .ref h17]))]) (own := RX11) (by decide) rfl (Nat.le_of_ble_eq_true rfl) ?_
  intro p e s m below meth c hx hb hr ha hown hml hlocks hP hK hX hS ls hl
  have hC := hX.1
  have hl : lv_has ls 1 [(0, .ref h0)] := hl
  rw [f_X11_splashes] at hf
  refine lv_aload_n hx hb dX11_splashes_0 rfl (lv_at hl 0 rfl) ?_
  refine gt_f (C := RX11) (T := TX11) (N := 9) hx hb ha in_X11 hown hK hP 0 rfl rfl 0 (by decide) m_370 rfl dX11_splashes_1 ?_
  refine gt_f (C := RX8) (T := TX8) (N := 9) hx hb ha in_X8 hown hK hP 1 rfl rfl 3 (by decide) m_251 rfl dX11_splashes_4 ?_
  exact rt_Pi hx hb hr hlocks (Option.some.inj hf) hS dX11_splashes_7

def f_X11_refundedCoins (op : Int32) : Option Int32 :=
  some op
theorem yd_X11_refundedCoins : yX11_refundedCoins.cls = RX11 ∧ yX11_refundedCoins.cls ≠ "java/lang/invoke/MethodHandle" ∧ yX11_refundedCoins.cls ≠ "java/lang/invoke/VarHandle" ∧ (parseMethodDescriptor yX11_refundedCoins.desc).map (fun d => d.parameters.length) = some 0 := ⟨rfl, by decide, by decide, by decide +kernel⟩
set_option maxRecDepth 100000 in
set_option maxHeartbeats 4000000 in
theorem c_X11_refundedCoins (l : Launch) (D : va_G) (dA : Nat → ClassId) (cA : Nat → Nat) (h0 h1 h2 h6 h9 h14 h17 h21 h41 h43 h46 h49 : Nat) (on : Int32) (ot : Int32) (op : Int32) (os : Int32) (xi : Int32) (xe : Int32) (xf : Int32) (rr : Int32) (hf : f_X11_refundedCoins op = some rr) : Met l yX11_refundedCoins (wo (.code yX11_refundedCoins cX11_refundedCoins 1 (some .int))) ({ frames := 0, cells := 0, slots := 0, locals := 0 } : Room) (preY D dA cA [.ref h0] [(h0, .inr (9, [.ref h1, .ref h21, .int xi, .ref h41, .ref h43, .ref h46, .ref h49, .int xe, .int xf])), (h1, .inr (6, [.int on, .int ot, .int op, .int os, .ref h2, .ref h6, .ref h9, .ref h14, .ref h17]))]) (poPi rr) 0 0 noA := by
  refine of_Y (y := yX11_refundedCoins) (cc := cX11_refundedCoins) (maxL := 1) (ret := (some .int)) (av := [.ref h0]) (ws := [(h0, .inr (9, [.ref h1, .ref h21, .int xi, .ref h41, .ref h43, .ref h46, .ref h49, .int xe, .int xf])), (h1, .inr (6, [.int on, .int ot, .int op, .int os, .ref h2, .ref h6, .ref h9, .ref h14, .ref h17]))]) (own := RX11) (by decide) rfl (Nat.le_of_ble_eq_true rfl) ?_
  intro p e s m below meth c hx hb hr ha hown hml hlocks hP hK hX hS ls hl
  have hC := hX.1
  have hl : lv_has ls 1 [(0, .ref h0)] := hl
  rw [f_X11_refundedCoins] at hf
  refine lv_aload_n hx hb dX11_refundedCoins_0 rfl (lv_at hl 0 rfl) ?_
  refine gt_f (C := RX11) (T := TX11) (N := 9) hx hb ha in_X11 hown hK hP 0 rfl rfl 0 (by decide) m_370 rfl dX11_refundedCoins_1 ?_
  refine gt_f (C := RX8) (T := TX8) (N := 9) hx hb ha in_X8 hown hK hP 1 rfl rfl 2 (by decide) m_249 rfl dX11_refundedCoins_4 ?_
  exact rt_Pi hx hb hr hlocks (Option.some.inj hf) hS dX11_refundedCoins_7

def f_X11_officeCoins (ot : Int32) : Option Int32 :=
  some ot
theorem yd_X11_officeCoins : yX11_officeCoins.cls = RX11 ∧ yX11_officeCoins.cls ≠ "java/lang/invoke/MethodHandle" ∧ yX11_officeCoins.cls ≠ "java/lang/invoke/VarHandle" ∧ (parseMethodDescriptor yX11_officeCoins.desc).map (fun d => d.parameters.length) = some 0 := ⟨rfl, by decide, by decide, by decide +kernel⟩
set_option maxRecDepth 100000 in
set_option maxHeartbeats 4000000 in
theorem c_X11_officeCoins (l : Launch) (D : va_G) (dA : Nat → ClassId) (cA : Nat → Nat) (h0 h1 h2 h6 h9 h14 h17 h21 h41 h43 h46 h49 : Nat) (on : Int32) (ot : Int32) (op : Int32) (os : Int32) (xi : Int32) (xe : Int32) (xf : Int32) (rr : Int32) (hf : f_X11_officeCoins ot = some rr) : Met l yX11_officeCoins (wo (.code yX11_officeCoins cX11_officeCoins 1 (some .int))) ({ frames := 0, cells := 0, slots := 0, locals := 0 } : Room) (preY D dA cA [.ref h0] [(h0, .inr (9, [.ref h1, .ref h21, .int xi, .ref h41, .ref h43, .ref h46, .ref h49, .int xe, .int xf])), (h1, .inr (6, [.int on, .int ot, .int op, .int os, .ref h2, .ref h6, .ref h9, .ref h14, .ref h17]))]) (poPi rr) 0 0 noA := by
  refine of_Y (y := yX11_officeCoins) (cc := cX11_officeCoins) (maxL := 1) (ret := (some .int)) (av := [.ref h0]) (ws := [(h0, .inr (9, [.ref h1, .ref h21, .int xi, .ref h41, .ref h43, .ref h46, .ref h49, .int xe, .int xf])), (h1, .inr (6, [.int on, .int ot, .int op, .int os, .ref h2, .ref h6, .ref h9, .ref h14, .ref h17]))]) (own := RX11) (by decide) rfl (Nat.le_of_ble_eq_true rfl) ?_
  intro p e s m below meth c hx hb hr ha hown hml hlocks hP hK hX hS ls hl
  have hC := hX.1
  have hl : lv_has ls 1 [(0, .ref h0)] := hl
  rw [f_X11_officeCoins] at hf
  refine lv_aload_n hx hb dX11_officeCoins_0 rfl (lv_at hl 0 rfl) ?_
  refine gt_f (C := RX11) (T := TX11) (N := 9) hx hb ha in_X11 hown hK hP 0 rfl rfl 0 (by decide) m_370 rfl dX11_officeCoins_1 ?_
  refine gt_f (C := RX8) (T := TX8) (N := 9) hx hb ha in_X8 hown hK hP 1 rfl rfl 1 (by decide) m_247 rfl dX11_officeCoins_4 ?_
  exact rt_Pi hx hb hr hlocks (Option.some.inj hf) hS dX11_officeCoins_7

def f_X11_rides (gc : Int32) (gr : Nat → Int32) (p0 : Int32) : Option Int32 :=
  sf_c0 (f_X11_checkGuest gc p0) (fun _ => sf_g (sf_in p0 10 = true) (some (gr p0.toNatClampNeg)))
theorem yd_X11_rides : yX11_rides.cls = RX11 ∧ yX11_rides.cls ≠ "java/lang/invoke/MethodHandle" ∧ yX11_rides.cls ≠ "java/lang/invoke/VarHandle" ∧ (parseMethodDescriptor yX11_rides.desc).map (fun d => d.parameters.length) = some 1 := ⟨rfl, by decide, by decide, by decide +kernel⟩
set_option maxRecDepth 100000 in
set_option maxHeartbeats 4000000 in
theorem c_X11_rides (l : Launch) (D : va_G) (dA : Nat → ClassId) (cA : Nat → Nat) (h0 h1 h2 h6 h7 h8 h9 h14 h17 h21 h41 h43 h46 h49 : Nat) (on : Int32) (ot : Int32) (op : Int32) (os : Int32) (gc : Int32) (gp : Nat → Int32) (gr : Nat → Int32) (xi : Int32) (xe : Int32) (xf : Int32) (p0 : Int32) (rr : Int32) (hf : f_X11_rides gc gr p0 = some rr) : Met l yX11_rides (wo (.code yX11_rides cX11_rides 2 (some .int))) ({ frames := 2, cells := 0, slots := 0, locals := 42 } : Room) (preY D dA cA [.ref h0, .int p0] [(h0, .inr (9, [.ref h1, .ref h21, .int xi, .ref h41, .ref h43, .ref h46, .ref h49, .int xe, .int xf])), (h1, .inr (6, [.int on, .int ot, .int op, .int os, .ref h2, .ref h6, .ref h9, .ref h14, .ref h17])), (h6, .inr (4, [.int gc, .ref h7, .ref h8])), (h7, .inl (dA 0, 10, .inl gp)), (h8, .inl (dA 0, 10, .inl gr))]) (poPi rr) 0 0 noA := by
  refine of_Y (y := yX11_rides) (cc := cX11_rides) (maxL := 2) (ret := (some .int)) (av := [.ref h0, .int p0]) (ws := [(h0, .inr (9, [.ref h1, .ref h21, .int xi, .ref h41, .ref h43, .ref h46, .ref h49, .int xe, .int xf])), (h1, .inr (6, [.int on, .int ot, .int op, .int os, .ref h2, .ref h6, .ref h9, .ref h14, .ref h17])), (h6, .inr (4, [.int gc, .ref h7, .ref h8])), (h7, .inl (dA 0, 10, .inl gp)), (h8, .inl (dA 0, 10, .inl gr))]) (own := RX11) (by decide) rfl (Nat.le_of_ble_eq_true rfl) ?_
  intro p e s m below meth c hx hb hr ha hown hml hlocks hP hK hX hS ls hl
  have hC := hX.1
  have hl : lv_has ls 2 [(0, .ref h0), (1, .int p0)] := hl
  rw [f_X11_rides] at hf
  refine lv_aload_n hx hb dX11_rides_0 rfl (lv_at hl 0 rfl) ?_
  refine lv_iload_n hx hb dX11_rides_1 rfl (lv_at hl 1 rfl) ?_
  obtain ⟨hc0, hf⟩ := sf_c0e hf
  refine k_Pv (run_YV (As := [.int p0]) (rest := []) ⟨hx, hb, hml, hown, ha⟩ (c_X11_checkGuest l D dA cA h0 h1 h2 h6 h7 h8 h9 h14 h17 h21 h41 h43 h46 h49   on ot op os gc gp gr xi xe xf p0  hc0) (gi_V m_970 m_972 m_16 m_71 m_973) yd_X11_checkGuest ⟨Nat.le_of_ble_eq_true rfl, Nat.le_of_ble_eq_true rfl⟩ ⟨rfl, rfl⟩ hK hX hS hP [0, 1, 2, 3, 4] rfl (va_recv hK hP (q0 := 0) rfl rfl) rfl hl.1 rfl (Nat.le_of_ble_eq_true rfl) dX11_rides_2 ⟨Nat.le_of_ble_eq_true rfl, Nat.le_of_ble_eq_true rfl⟩) hP hS (fun H locs hP hS => ?_)
  refine lv_aload_n hx hb dX11_rides_5 rfl (lv_at hl 0 rfl) ?_
  refine gt_f (C := RX11) (T := TX11) (N := 9) hx hb ha in_X11 hown hK hP 0 rfl rfl 0 (by decide) m_370 rfl dX11_rides_6 ?_
  refine gt_f (C := RX8) (T := TX8) (N := 9) hx hb ha in_X8 hown hK hP 1 rfl rfl 5 (by decide) m_255 rfl dX11_rides_9 ?_
  refine gt_f (C := RX6) (T := TX6) (N := 3) hx hb ha in_X6 hown hK hP 2 rfl rfl 2 (by decide) m_164 rfl dX11_rides_12 ?_
  refine lv_iload_n hx hb dX11_rides_15 rfl (lv_at hl 1 rfl) ?_
  obtain ⟨hi, hf⟩ := sf_ge hf
  refine ia_ld hx hb hK hP 4 rfl hi dX11_rides_16 ?_
  exact rt_Pi hx hb hr hlocks (Option.some.inj hf) hS dX11_rides_17

def f_TX11_rides (gc : Int32) (p0 : Int32) : Option Nat :=
  sf_t1 (f_TX11_checkGuest gc p0) (fun k_1 => some k_1) (sf_c0 (f_X11_checkGuest gc p0) (fun _ => sf_g (sf_in p0 10 = true) (none)))
theorem yd_TX11_rides : yX11_rides.cls = RX11 ∧ yX11_rides.cls ≠ "java/lang/invoke/MethodHandle" ∧ yX11_rides.cls ≠ "java/lang/invoke/VarHandle" ∧ (parseMethodDescriptor yX11_rides.desc).map (fun d => d.parameters.length) = some 1 := ⟨rfl, by decide, by decide, by decide +kernel⟩
set_option maxRecDepth 100000 in
set_option maxHeartbeats 4000000 in
theorem c_TX11_rides (l : Launch) (D : va_G) (dA : Nat → ClassId) (cA : Nat → Nat) (hst : l.stackTraces = false) (h0 h1 h2 h6 h7 h8 h9 h14 h17 h21 h41 h43 h46 h49 : Nat) (sz : Nat) (on : Int32) (ot : Int32) (op : Int32) (os : Int32) (gc : Int32) (gp : Nat → Int32) (gr : Nat → Int32) (xi : Int32) (xe : Int32) (xf : Int32) (p0 : Int32) (rx : Nat) (hf : f_TX11_rides gc p0 = some rx) : vx_Met l yX11_rides (wo (.code yX11_rides cX11_rides 2 (some .int))) ({ frames := 7, cells := 1, slots := 6, locals := 121 } : Room) (preX D dA cA [.ref h0, .int p0] sz [(h0, .inr (9, [.ref h1, .ref h21, .int xi, .ref h41, .ref h43, .ref h46, .ref h49, .int xe, .int xf])), (h1, .inr (6, [.int on, .int ot, .int op, .int os, .ref h2, .ref h6, .ref h9, .ref h14, .ref h17])), (h6, .inr (4, [.int gc, .ref h7, .ref h8])), (h7, .inl (dA 0, 10, .inl gp)), (h8, .inl (dA 0, 10, .inl gr))]) noQ (xcQ D (exs rx) [(h0, .inr (9, [.ref h1, .ref h21, .int xi, .ref h41, .ref h43, .ref h46, .ref h49, .int xe, .int xf])), (h1, .inr (6, [.int on, .int ot, .int op, .int os, .ref h2, .ref h6, .ref h9, .ref h14, .ref h17])), (h6, .inr (4, [.int gc, .ref h7, .ref h8])), (h7, .inl (dA 0, 10, .inl gp)), (h8, .inl (dA 0, 10, .inl gr))] (va_A [(h0, .inr (9, [.ref h1, .ref h21, .int xi, .ref h41, .ref h43, .ref h46, .ref h49, .int xe, .int xf])), (h1, .inr (6, [.int on, .int ot, .int op, .int os, .ref h2, .ref h6, .ref h9, .ref h14, .ref h17])), (h6, .inr (4, [.int gc, .ref h7, .ref h8])), (h7, .inl (dA 0, 10, .inl gp)), (h8, .inl (dA 0, 10, .inl gr))] sz)) 1 6 (va_A [(h0, .inr (9, [.ref h1, .ref h21, .int xi, .ref h41, .ref h43, .ref h46, .ref h49, .int xe, .int xf])), (h1, .inr (6, [.int on, .int ot, .int op, .int os, .ref h2, .ref h6, .ref h9, .ref h14, .ref h17])), (h6, .inr (4, [.int gc, .ref h7, .ref h8])), (h7, .inl (dA 0, 10, .inl gp)), (h8, .inl (dA 0, 10, .inl gr))] sz) := by
  refine of_Z (y := yX11_rides) (cc := cX11_rides) (maxL := 2) (ret := (some .int)) (av := [.ref h0, .int p0]) (ws := [(h0, .inr (9, [.ref h1, .ref h21, .int xi, .ref h41, .ref h43, .ref h46, .ref h49, .int xe, .int xf])), (h1, .inr (6, [.int on, .int ot, .int op, .int os, .ref h2, .ref h6, .ref h9, .ref h14, .ref h17])), (h6, .inr (4, [.int gc, .ref h7, .ref h8])), (h7, .inl (dA 0, 10, .inl gp)), (h8, .inl (dA 0, 10, .inl gr))]) (sz := sz) (own := RX11) (XC := fun A => xcQ D (exs rx) [(h0, .inr (9, [.ref h1, .ref h21, .int xi, .ref h41, .ref h43, .ref h46, .ref h49, .int xe, .int xf])), (h1, .inr (6, [.int on, .int ot, .int op, .int os, .ref h2, .ref h6, .ref h9, .ref h14, .ref h17])), (h6, .inr (4, [.int gc, .ref h7, .ref h8])), (h7, .inl (dA 0, 10, .inl gp)), (h8, .inl (dA 0, 10, .inl gr))] A) (by decide) rfl (Nat.le_of_ble_eq_true rfl) ?_
  intro p e s m below meth c A hx hb hr ha hown hml hlocks hin hno hP hK hD hX hS hA ls hl
  have hC := hX.1
  have hl : lv_has ls 2 [(0, .ref h0), (1, .int p0)] := hl
  rw [f_TX11_rides] at hf
  refine lv_aload_n hx hb dX11_rides_0 rfl (lv_at hl 0 rfl) ?_
  refine lv_iload_n hx hb dX11_rides_1 rfl (lv_at hl 1 rfl) ?_
  rcases sf_t1e hf with ⟨hnt, hf⟩ | ⟨k_1, hc1, hf⟩
  · skip
    obtain ⟨hc1, hf⟩ := sf_c0e hf
    refine k_Pv (run_YV (As := [.int p0]) (rest := []) ⟨hx, hb, hml, hown, ha⟩ (c_X11_checkGuest l D dA cA h0 h1 h2 h6 h7 h8 h9 h14 h17 h21 h41 h43 h46 h49   on ot op os gc gp gr xi xe xf p0  hc1) (gi_V m_970 m_972 m_16 m_71 m_973) yd_X11_checkGuest ⟨Nat.le_of_ble_eq_true rfl, Nat.le_of_ble_eq_true rfl⟩ ⟨rfl, rfl⟩ hK hX hS hP [0, 1, 2, 3, 4] rfl (va_recv hK hP (q0 := 0) rfl rfl) rfl hl.1 rfl (Nat.le_of_ble_eq_true rfl) dX11_rides_2 ⟨Nat.le_of_ble_eq_true rfl, Nat.le_of_ble_eq_true rfl⟩) hP hS (fun H locs hP hS => ?_)
    refine lv_aload_n hx hb dX11_rides_5 rfl (lv_at hl 0 rfl) ?_
    refine gt_f (C := RX11) (T := TX11) (N := 9) hx hb ha in_X11 hown hK hP 0 rfl rfl 0 (by decide) m_370 rfl dX11_rides_6 ?_
    refine gt_f (C := RX8) (T := TX8) (N := 9) hx hb ha in_X8 hown hK hP 1 rfl rfl 5 (by decide) m_255 rfl dX11_rides_9 ?_
    refine gt_f (C := RX6) (T := TX6) (N := 3) hx hb ha in_X6 hown hK hP 2 rfl rfl 2 (by decide) m_164 rfl dX11_rides_12 ?_
    refine lv_iload_n hx hb dX11_rides_15 rfl (lv_at hl 1 rfl) ?_
    obtain ⟨hi, hf⟩ := sf_ge hf
    refine ia_ld hx hb hK hP 4 rfl hi dX11_rides_16 ?_
    cases hf
  · skip
    refine k_Z (wr := []) (run_ZV (As := [.int p0]) (rest := []) ⟨hx, hb, hml, hown, ha⟩ (c_TX11_checkGuest l D dA cA hst h0 h1 h2 h6 h7 h8 h9 h14 h17 h21 h41 h43 h46 h49  _ on ot op os gc gp gr xi xe xf p0 _ hc1) (gi_V m_970 m_972 m_16 m_71 m_973) yd_TX11_checkGuest ⟨Nat.le_of_ble_eq_true rfl, Nat.le_of_ble_eq_true rfl⟩ ⟨rfl, rfl⟩ hK hX hS hA hP hD [0, 1, 2, 3, 4] (by decide) rfl (va_recv hK hP (q0 := 0) rfl rfl) rfl hl.1 rfl (Nat.le_of_ble_eq_true rfl) dX11_rides_2 ⟨Nat.le_of_ble_eq_true rfl, Nat.le_of_ble_eq_true rfl⟩) hP hD hS hA [0, 1, 2, 3, 4] [] rfl rfl (by decide) (by decide) (fun q9 H locs hP hD hS ht9 => ?_)
    cases hf
    exact px_o hno hlocks ht9 (hP.sub [0, 1, 2, 3, 4] rfl) (hD.sub [0, 1, 2, 3, 4] (by decide) rfl) hS (by decide) (by decide)

def f_X11_guestByRides_L2 (gc : Int32) (gp : Nat → Int32) (gr : Nat → Int32) (p0 : Int32) (k : Unit → Option Int32) : Nat → Int32 → Option Int32
  | 0, _ => none
  | n + 1, v_1 => sf_b (gc ≤ v_1) (k ()) (sf_c1 (f_X6_rankByRidden gc gp gr v_1) (fun r_2 => sf_b (r_2 = p0) (some v_1) (sf_n (v_1 + (1 : Int32)) (fun x_3 => f_X11_guestByRides_L2 gc gp gr p0 k n x_3))))
def f_X11_guestByRides (gc : Int32) (gp : Nat → Int32) (gr : Nat → Int32) (p0 : Int32) : Option Int32 :=
  f_X11_guestByRides_L2 gc gp gr p0 (fun _ => none) 2000 (0 : Int32)
theorem yd_X11_guestByRides : yX11_guestByRides.cls = RX11 ∧ yX11_guestByRides.cls ≠ "java/lang/invoke/MethodHandle" ∧ yX11_guestByRides.cls ≠ "java/lang/invoke/VarHandle" ∧ (parseMethodDescriptor yX11_guestByRides.desc).map (fun d => d.parameters.length) = some 1 := ⟨rfl, by decide, by decide, by decide +kernel⟩
set_option maxRecDepth 100000 in
set_option maxHeartbeats 4000000 in
theorem c_X11_guestByRides (l : Launch) (D : va_G) (dA : Nat → ClassId) (cA : Nat → Nat) (h0 h1 h2 h6 h7 h8 h9 h14 h17 h21 h41 h43 h46 h49 : Nat) (on : Int32) (ot : Int32) (op : Int32) (os : Int32) (gc : Int32) (gp : Nat → Int32) (gr : Nat → Int32) (xi : Int32) (xe : Int32) (xf : Int32) (p0 : Int32) (rr : Int32) (hf : f_X11_guestByRides gc gp gr p0 = some rr) : Met l yX11_guestByRides (wo (.code yX11_guestByRides cX11_guestByRides 3 (some .int))) ({ frames := 2, cells := 0, slots := 0, locals := 45 } : Room) (preY D dA cA [.ref h0, .int p0] [(h0, .inr (9, [.ref h1, .ref h21, .int xi, .ref h41, .ref h43, .ref h46, .ref h49, .int xe, .int xf])), (h1, .inr (6, [.int on, .int ot, .int op, .int os, .ref h2, .ref h6, .ref h9, .ref h14, .ref h17])), (h6, .inr (4, [.int gc, .ref h7, .ref h8])), (h7, .inl (dA 0, 10, .inl gp)), (h8, .inl (dA 0, 10, .inl gr))]) (poPi rr) 0 0 noA := by
  refine of_Y (y := yX11_guestByRides) (cc := cX11_guestByRides) (maxL := 3) (ret := (some .int)) (av := [.ref h0, .int p0]) (ws := [(h0, .inr (9, [.ref h1, .ref h21, .int xi, .ref h41, .ref h43, .ref h46, .ref h49, .int xe, .int xf])), (h1, .inr (6, [.int on, .int ot, .int op, .int os, .ref h2, .ref h6, .ref h9, .ref h14, .ref h17])), (h6, .inr (4, [.int gc, .ref h7, .ref h8])), (h7, .inl (dA 0, 10, .inl gp)), (h8, .inl (dA 0, 10, .inl gr))]) (own := RX11) (by decide) rfl (Nat.le_of_ble_eq_true rfl) ?_
  intro p e s m below meth c hx hb hr ha hown hml hlocks hP hK hX hS ls hl
  have hC := hX.1
  have hl : lv_has ls 3 [(0, .ref h0), (1, .int p0)] := hl
  rw [f_X11_guestByRides] at hf
  refine lv_iconst (v := 0) hx hb dX11_guestByRides_0 (by decide) ?_
  refine lv_istore_n (lv' := [(2, .int (0 : Int32)), (0, .ref h0), (1, .int p0)]) hx hb dX11_guestByRides_1 rfl hl (by decide) rfl (fun ls hl => ?_)
  have hL2 : ∀ (n : Nat) (k : Unit → Option Int32) (v_1 : Int32) (H : Heap) (locs : List Loc) (ls : Array Slot), va_P D cls [(h0, .inr (9, [.ref h1, .ref h21, .int xi, .ref h41, .ref h43, .ref h46, .ref h49, .int xe, .int xf])), (h1, .inr (6, [.int on, .int ot, .int op, .int os, .ref h2, .ref h6, .ref h9, .ref h14, .ref h17])), (h6, .inr (4, [.int gc, .ref h7, .ref h8])), (h7, .inl (dA 0, 10, .inl gp)), (h8, .inl (dA 0, 10, .inl gr))] H → va_S noA s.heap H locs → lv_has ls 3 [(2, .int v_1), (0, .ref h0), (1, .int p0)] → f_X11_guestByRides_L2 gc gp gr p0 k n v_1 = some rr → (∀ (H : Heap) (locs : List Loc) (ls : Array Slot), va_P D cls [(h0, .inr (9, [.ref h1, .ref h21, .int xi, .ref h41, .ref h43, .ref h46, .ref h49, .int xe, .int xf])), (h1, .inr (6, [.int on, .int ot, .int op, .int os, .ref h2, .ref h6, .ref h9, .ref h14, .ref h17])), (h6, .inr (4, [.int gc, .ref h7, .ref h8])), (h7, .inl (dA 0, 10, .inl gp)), (h8, .inl (dA 0, 10, .inl gr))] H → va_S noA s.heap H locs → lv_has ls 3 [] → k () = some rr → W p l e ({ frames := 2, cells := 0, slots := 0, locals := 45 } : Room) s m ([.ref h0, .int p0] : List Value).toArray below meth c H locs 0 0 (MQ below (poPi rr) ([.ref h0, .int p0] : List Value).toArray s 0 0 noA) (F0 m 39 ls [])) → W p l e ({ frames := 2, cells := 0, slots := 0, locals := 45 } : Room) s m ([.ref h0, .int p0] : List Value).toArray below meth c H locs 0 0 (MQ below (poPi rr) ([.ref h0, .int p0] : List Value).toArray s 0 0 noA) (F0 m 2 ls []) := by
    intro n k
    induction n with
    | zero =>
      intro v_1 H locs ls hP hS hl hf hk
      rw [f_X11_guestByRides_L2] at hf
      cases hf
    | succ n ih =>
      intro v_1 H locs ls hP hS hl hf hk
      rw [f_X11_guestByRides_L2] at hf
      refine lv_iload_n hx hb dX11_guestByRides_2 rfl (lv_at hl 0 rfl) ?_
      refine lv_aload_n hx hb dX11_guestByRides_3 rfl (lv_at hl 1 rfl) ?_
      refine gt_f (C := RX11) (T := TX11) (N := 9) hx hb ha in_X11 hown hK hP 0 rfl rfl 0 (by decide) m_370 rfl dX11_guestByRides_4 ?_
      refine gt_f (C := RX8) (T := TX8) (N := 9) hx hb ha in_X8 hown hK hP 1 rfl rfl 5 (by decide) m_255 rfl dX11_guestByRides_7 ?_
      refine gt_f (C := RX6) (T := TX6) (N := 3) hx hb ha in_X6 hown hK hP 2 rfl rfl 0 (by decide) m_158 rfl dX11_guestByRides_10 ?_
      refine lv_icmp_ge (tgt := 39) hx hb dX11_guestByRides_13 (by decide) (fun hc => ?_) (fun hc => ?_)
      · have hf := sf_bp hf hc
        exact hk _ _ _ hP hS (lv_sub hl [] rfl) hf
      · have hf := sf_bn hf hc
        refine lv_aload_n hx hb dX11_guestByRides_16 rfl (lv_at hl 1 rfl) ?_
        refine gt_f (C := RX11) (T := TX11) (N := 9) hx hb ha in_X11 hown hK hP 0 rfl rfl 0 (by decide) m_370 rfl dX11_guestByRides_17 ?_
        refine gt_f (C := RX8) (T := TX8) (N := 9) hx hb ha in_X8 hown hK hP 1 rfl rfl 5 (by decide) m_255 rfl dX11_guestByRides_20 ?_
        refine lv_iload_n hx hb dX11_guestByRides_23 rfl (lv_at hl 0 rfl) ?_
        obtain ⟨r_2, hc2, hf⟩ := sf_c1e hf
        refine k_Pi (run_PV (As := [.int v_1]) (rest := []) ⟨hx, hb, hml, hown, ha⟩ (c_X6_rankByRidden l D dA h6 h7 h8   gc gp gr v_1 _ hc2) (gi_V m_1140 m_1141 m_1142 m_74 m_1143) yd_X6_rankByRidden ⟨Nat.le_of_ble_eq_true rfl, Nat.le_of_ble_eq_true rfl⟩ ⟨rfl, rfl⟩ hK hP [2, 3, 4] rfl 2 4 rfl rfl rfl rfl hl.1 rfl (Nat.le_of_ble_eq_true rfl) dX11_guestByRides_24 ⟨Nat.le_of_ble_eq_true rfl, Nat.le_of_ble_eq_true rfl⟩) hP hS (fun H locs hP hS => ?_)
        refine lv_iload_n hx hb dX11_guestByRides_27 rfl (lv_at hl 2 rfl) ?_
        refine lv_icmp_ne (tgt := 33) hx hb dX11_guestByRides_28 (by decide) (fun hc => ?_) (fun hc => ?_)
        · have hf := sf_bn hf hc
          obtain ⟨x_3, ex_3, hf⟩ := sf_ne hf
          refine ii_nc (lv' := [(2, .int x_3), (0, .ref h0), (1, .int p0)]) (k := 0) hx hb dX11_guestByRides_33 hl rfl ex_3 (by decide) (by decide) rfl (fun ls hl => ?_)
          refine lv_goto (tgt := 2) hx hb dX11_guestByRides_36 (by decide) ?_
          exact ih _ _ _ _ hP hS (lv_sub hl [0, 1, 2] rfl) hf hk
        · have hf := sf_bp hf hc
          refine lv_iload_n hx hb dX11_guestByRides_31 rfl (lv_at hl 0 rfl) ?_
          exact rt_Pi hx hb hr hlocks (Option.some.inj hf) hS dX11_guestByRides_32
  refine hL2 _ _ _ _ _ _ hP hS (lv_sub hl [0, 1, 2] rfl) hf (fun  H locs ls hP hS hl hf => ?_)
  cases hf

def f_TX11_guestByRides_L2 (gc : Int32) (gp : Nat → Int32) (gr : Nat → Int32) (p0 : Int32) (k : Unit → Option Nat) : Nat → Int32 → Option Nat
  | 0, _ => none
  | n + 1, v_1 => sf_b (gc ≤ v_1) (k ()) (sf_c1 (f_X6_rankByRidden gc gp gr v_1) (fun r_2 => sf_b (r_2 = p0) (none) (sf_n (v_1 + (1 : Int32)) (fun x_3 => f_TX11_guestByRides_L2 gc gp gr p0 k n x_3))))
def f_TX11_guestByRides (gc : Int32) (gp : Nat → Int32) (gr : Nat → Int32) (p0 : Int32) : Option Nat :=
  f_TX11_guestByRides_L2 gc gp gr p0 (fun _ => some 4) 2000 (0 : Int32)
theorem yd_TX11_guestByRides : yX11_guestByRides.cls = RX11 ∧ yX11_guestByRides.cls ≠ "java/lang/invoke/MethodHandle" ∧ yX11_guestByRides.cls ≠ "java/lang/invoke/VarHandle" ∧ (parseMethodDescriptor yX11_guestByRides.desc).map (fun d => d.parameters.length) = some 1 := ⟨rfl, by decide, by decide, by decide +kernel⟩
set_option maxRecDepth 100000 in
set_option maxHeartbeats 4000000 in
theorem c_TX11_guestByRides (l : Launch) (D : va_G) (dA : Nat → ClassId) (cA : Nat → Nat) (hst : l.stackTraces = false) (h0 h1 h2 h6 h7 h8 h9 h14 h17 h21 h41 h43 h46 h49 : Nat) (sz : Nat) (on : Int32) (ot : Int32) (op : Int32) (os : Int32) (gc : Int32) (gp : Nat → Int32) (gr : Nat → Int32) (xi : Int32) (xe : Int32) (xf : Int32) (p0 : Int32) (rx : Nat) (hf : f_TX11_guestByRides gc gp gr p0 = some rx) : vx_Met l yX11_guestByRides (wo (.code yX11_guestByRides cX11_guestByRides 3 (some .int))) ({ frames := 6, cells := 1, slots := 6, locals := 100 } : Room) (preX D dA cA [.ref h0, .int p0] sz [(h0, .inr (9, [.ref h1, .ref h21, .int xi, .ref h41, .ref h43, .ref h46, .ref h49, .int xe, .int xf])), (h1, .inr (6, [.int on, .int ot, .int op, .int os, .ref h2, .ref h6, .ref h9, .ref h14, .ref h17])), (h6, .inr (4, [.int gc, .ref h7, .ref h8])), (h7, .inl (dA 0, 10, .inl gp)), (h8, .inl (dA 0, 10, .inl gr))]) noQ (xcQ D (exs rx) [(h0, .inr (9, [.ref h1, .ref h21, .int xi, .ref h41, .ref h43, .ref h46, .ref h49, .int xe, .int xf])), (h1, .inr (6, [.int on, .int ot, .int op, .int os, .ref h2, .ref h6, .ref h9, .ref h14, .ref h17])), (h6, .inr (4, [.int gc, .ref h7, .ref h8])), (h7, .inl (dA 0, 10, .inl gp)), (h8, .inl (dA 0, 10, .inl gr))] (va_A [(h0, .inr (9, [.ref h1, .ref h21, .int xi, .ref h41, .ref h43, .ref h46, .ref h49, .int xe, .int xf])), (h1, .inr (6, [.int on, .int ot, .int op, .int os, .ref h2, .ref h6, .ref h9, .ref h14, .ref h17])), (h6, .inr (4, [.int gc, .ref h7, .ref h8])), (h7, .inl (dA 0, 10, .inl gp)), (h8, .inl (dA 0, 10, .inl gr))] sz)) 1 6 (va_A [(h0, .inr (9, [.ref h1, .ref h21, .int xi, .ref h41, .ref h43, .ref h46, .ref h49, .int xe, .int xf])), (h1, .inr (6, [.int on, .int ot, .int op, .int os, .ref h2, .ref h6, .ref h9, .ref h14, .ref h17])), (h6, .inr (4, [.int gc, .ref h7, .ref h8])), (h7, .inl (dA 0, 10, .inl gp)), (h8, .inl (dA 0, 10, .inl gr))] sz) := by
  refine of_Z (y := yX11_guestByRides) (cc := cX11_guestByRides) (maxL := 3) (ret := (some .int)) (av := [.ref h0, .int p0]) (ws := [(h0, .inr (9, [.ref h1, .ref h21, .int xi, .ref h41, .ref h43, .ref h46, .ref h49, .int xe, .int xf])), (h1, .inr (6, [.int on, .int ot, .int op, .int os, .ref h2, .ref h6, .ref h9, .ref h14, .ref h17])), (h6, .inr (4, [.int gc, .ref h7, .ref h8])), (h7, .inl (dA 0, 10, .inl gp)), (h8, .inl (dA 0, 10, .inl gr))]) (sz := sz) (own := RX11) (XC := fun A => xcQ D (exs rx) [(h0, .inr (9, [.ref h1, .ref h21, .int xi, .ref h41, .ref h43, .ref h46, .ref h49, .int xe, .int xf])), (h1, .inr (6, [.int on, .int ot, .int op, .int os, .ref h2, .ref h6, .ref h9, .ref h14, .ref h17])), (h6, .inr (4, [.int gc, .ref h7, .ref h8])), (h7, .inl (dA 0, 10, .inl gp)), (h8, .inl (dA 0, 10, .inl gr))] A) (by decide) rfl (Nat.le_of_ble_eq_true rfl) ?_
  intro p e s m below meth c A hx hb hr ha hown hml hlocks hin hno hP hK hD hX hS hA ls hl
  have hC := hX.1
  have hl : lv_has ls 3 [(0, .ref h0), (1, .int p0)] := hl
  rw [f_TX11_guestByRides] at hf
  refine lv_iconst (v := 0) hx hb dX11_guestByRides_0 (by decide) ?_
  refine lv_istore_n (lv' := [(2, .int (0 : Int32)), (0, .ref h0), (1, .int p0)]) hx hb dX11_guestByRides_1 rfl hl (by decide) rfl (fun ls hl => ?_)
  have hL2 : ∀ (n : Nat) (k : Unit → Option Nat) (v_1 : Int32) (H : Heap) (locs : List Loc) (ls : Array Slot), va_P D cls [(h0, .inr (9, [.ref h1, .ref h21, .int xi, .ref h41, .ref h43, .ref h46, .ref h49, .int xe, .int xf])), (h1, .inr (6, [.int on, .int ot, .int op, .int os, .ref h2, .ref h6, .ref h9, .ref h14, .ref h17])), (h6, .inr (4, [.int gc, .ref h7, .ref h8])), (h7, .inl (dA 0, 10, .inl gp)), (h8, .inl (dA 0, 10, .inl gr))] H → va_D A [(h0, .inr (9, [.ref h1, .ref h21, .int xi, .ref h41, .ref h43, .ref h46, .ref h49, .int xe, .int xf])), (h1, .inr (6, [.int on, .int ot, .int op, .int os, .ref h2, .ref h6, .ref h9, .ref h14, .ref h17])), (h6, .inr (4, [.int gc, .ref h7, .ref h8])), (h7, .inl (dA 0, 10, .inl gp)), (h8, .inl (dA 0, 10, .inl gr))] → va_S A s.heap H locs → lv_has ls 3 [(2, .int v_1), (0, .ref h0), (1, .int p0)] → f_TX11_guestByRides_L2 gc gp gr p0 k n v_1 = some rx → (∀ (H : Heap) (locs : List Loc) (ls : Array Slot), va_P D cls [(h0, .inr (9, [.ref h1, .ref h21, .int xi, .ref h41, .ref h43, .ref h46, .ref h49, .int xe, .int xf])), (h1, .inr (6, [.int on, .int ot, .int op, .int os, .ref h2, .ref h6, .ref h9, .ref h14, .ref h17])), (h6, .inr (4, [.int gc, .ref h7, .ref h8])), (h7, .inl (dA 0, 10, .inl gp)), (h8, .inl (dA 0, 10, .inl gr))] H → va_D A [(h0, .inr (9, [.ref h1, .ref h21, .int xi, .ref h41, .ref h43, .ref h46, .ref h49, .int xe, .int xf])), (h1, .inr (6, [.int on, .int ot, .int op, .int os, .ref h2, .ref h6, .ref h9, .ref h14, .ref h17])), (h6, .inr (4, [.int gc, .ref h7, .ref h8])), (h7, .inl (dA 0, 10, .inl gp)), (h8, .inl (dA 0, 10, .inl gr))] → va_S A s.heap H locs → lv_has ls 3 [] → k () = some rx → W p l e ({ frames := 6, cells := 1, slots := 6, locals := 100 } : Room) s m ([.ref h0, .int p0] : List Value).toArray below meth c H locs 0 0 (vx_MQ below noQ (xcQ D (exs rx) ([(h0, .inr (9, [.ref h1, .ref h21, .int xi, .ref h41, .ref h43, .ref h46, .ref h49, .int xe, .int xf])), (h1, .inr (6, [.int on, .int ot, .int op, .int os, .ref h2, .ref h6, .ref h9, .ref h14, .ref h17])), (h6, .inr (4, [.int gc, .ref h7, .ref h8])), (h7, .inl (dA 0, 10, .inl gp)), (h8, .inl (dA 0, 10, .inl gr))]) A) ([.ref h0, .int p0] : List Value).toArray s 1 6 A) (F0 m 39 ls [])) → W p l e ({ frames := 6, cells := 1, slots := 6, locals := 100 } : Room) s m ([.ref h0, .int p0] : List Value).toArray below meth c H locs 0 0 (vx_MQ below noQ (xcQ D (exs rx) ([(h0, .inr (9, [.ref h1, .ref h21, .int xi, .ref h41, .ref h43, .ref h46, .ref h49, .int xe, .int xf])), (h1, .inr (6, [.int on, .int ot, .int op, .int os, .ref h2, .ref h6, .ref h9, .ref h14, .ref h17])), (h6, .inr (4, [.int gc, .ref h7, .ref h8])), (h7, .inl (dA 0, 10, .inl gp)), (h8, .inl (dA 0, 10, .inl gr))]) A) ([.ref h0, .int p0] : List Value).toArray s 1 6 A) (F0 m 2 ls []) := by
    intro n k
    induction n with
    | zero =>
      intro v_1 H locs ls hP hD hS hl hf hk
      rw [f_TX11_guestByRides_L2] at hf
      cases hf
    | succ n ih =>
      intro v_1 H locs ls hP hD hS hl hf hk
      rw [f_TX11_guestByRides_L2] at hf
      refine lv_iload_n hx hb dX11_guestByRides_2 rfl (lv_at hl 0 rfl) ?_
      refine lv_aload_n hx hb dX11_guestByRides_3 rfl (lv_at hl 1 rfl) ?_
      refine gt_f (C := RX11) (T := TX11) (N := 9) hx hb ha in_X11 hown hK hP 0 rfl rfl 0 (by decide) m_370 rfl dX11_guestByRides_4 ?_
      refine gt_f (C := RX8) (T := TX8) (N := 9) hx hb ha in_X8 hown hK hP 1 rfl rfl 5 (by decide) m_255 rfl dX11_guestByRides_7 ?_
      refine gt_f (C := RX6) (T := TX6) (N := 3) hx hb ha in_X6 hown hK hP 2 rfl rfl 0 (by decide) m_158 rfl dX11_guestByRides_10 ?_
      refine lv_icmp_ge (tgt := 39) hx hb dX11_guestByRides_13 (by decide) (fun hc => ?_) (fun hc => ?_)
      · have hf := sf_bp hf hc
        exact hk _ _ _ (hP.sub [0, 1, 2, 3, 4] rfl) (hD.sub [0, 1, 2, 3, 4] (by decide) rfl) hS (lv_sub hl [] rfl) hf
      · have hf := sf_bn hf hc
        refine lv_aload_n hx hb dX11_guestByRides_16 rfl (lv_at hl 1 rfl) ?_
        refine gt_f (C := RX11) (T := TX11) (N := 9) hx hb ha in_X11 hown hK hP 0 rfl rfl 0 (by decide) m_370 rfl dX11_guestByRides_17 ?_
        refine gt_f (C := RX8) (T := TX8) (N := 9) hx hb ha in_X8 hown hK hP 1 rfl rfl 5 (by decide) m_255 rfl dX11_guestByRides_20 ?_
        refine lv_iload_n hx hb dX11_guestByRides_23 rfl (lv_at hl 0 rfl) ?_
        obtain ⟨r_2, hc2, hf⟩ := sf_c1e hf
        refine k_Pi (run_PV (As := [.int v_1]) (rest := []) ⟨hx, hb, hml, hown, ha⟩ (c_X6_rankByRidden l D dA h6 h7 h8   gc gp gr v_1 _ hc2) (gi_V m_1140 m_1141 m_1142 m_74 m_1143) yd_X6_rankByRidden ⟨Nat.le_of_ble_eq_true rfl, Nat.le_of_ble_eq_true rfl⟩ ⟨rfl, rfl⟩ hK hP [2, 3, 4] rfl 2 4 rfl rfl rfl rfl hl.1 rfl (Nat.le_of_ble_eq_true rfl) dX11_guestByRides_24 ⟨Nat.le_of_ble_eq_true rfl, Nat.le_of_ble_eq_true rfl⟩) hP hS (fun H locs hP hS => ?_)
        refine lv_iload_n hx hb dX11_guestByRides_27 rfl (lv_at hl 2 rfl) ?_
        refine lv_icmp_ne (tgt := 33) hx hb dX11_guestByRides_28 (by decide) (fun hc => ?_) (fun hc => ?_)
        · have hf := sf_bn hf hc
          obtain ⟨x_3, ex_3, hf⟩ := sf_ne hf
          refine ii_nc (lv' := [(2, .int x_3), (0, .ref h0), (1, .int p0)]) (k := 0) hx hb dX11_guestByRides_33 hl rfl ex_3 (by decide) (by decide) rfl (fun ls hl => ?_)
          refine lv_goto (tgt := 2) hx hb dX11_guestByRides_36 (by decide) ?_
          exact ih _ _ _ _ (hP.sub [0, 1, 2, 3, 4] rfl) (hD.sub [0, 1, 2, 3, 4] (by decide) rfl) hS (lv_sub hl [0, 1, 2] rfl) hf hk
        · have hf := sf_bp hf hc
          refine lv_iload_n hx hb dX11_guestByRides_31 rfl (lv_at hl 0 rfl) ?_
          cases hf
  refine hL2 _ _ _ _ _ _ hP hD hS (lv_sub hl [0, 1, 2] rfl) hf (fun  H locs ls hP hD hS hl hf => ?_)
  cases hf
  exact th_SX (E := exs 4) (text := "there is no such rank") (sa := cA 42) nsx_4_0 nsx_4_1 nsx_4_2 nsx_4_5 hx hb hst hown ha hX hS (hP.sub [0, 1, 2, 3, 4] rfl) (hD.sub [0, 1, 2, 3, 4] (by decide) rfl) hlocks hno (hl.1.trans hml.symm) m_712 m_94 (hC.2.2.1 (RX11, 178, "there is no such rank", 42) (List.mem_of_getElem? (i := 18) rfl)) exg_129 exb_129 exo_129 exf_129 dX11_guestByRides_39 dX11_guestByRides_42 dX11_guestByRides_43 dX11_guestByRides_45 dX11_guestByRides_48 ⟨by decide, by decide, by decide, by decide⟩ ⟨by decide, by decide⟩

def f_X11_slideByWetness_L2 (sc : Int32) (sw : Nat → Int32) (p0 : Int32) (k : Unit → Option Int32) : Nat → Int32 → Option Int32
  | 0, _ => none
  | n + 1, v_1 => sf_b (sc ≤ v_1) (k ()) (sf_c1 (f_X10_rankByWetness sc sw v_1) (fun r_2 => sf_b (r_2 = p0) (some v_1) (sf_n (v_1 + (1 : Int32)) (fun x_3 => f_X11_slideByWetness_L2 sc sw p0 k n x_3))))
def f_X11_slideByWetness (sc : Int32) (sw : Nat → Int32) (p0 : Int32) : Option Int32 :=
  f_X11_slideByWetness_L2 sc sw p0 (fun _ => none) 2000 (0 : Int32)
theorem yd_X11_slideByWetness : yX11_slideByWetness.cls = RX11 ∧ yX11_slideByWetness.cls ≠ "java/lang/invoke/MethodHandle" ∧ yX11_slideByWetness.cls ≠ "java/lang/invoke/VarHandle" ∧ (parseMethodDescriptor yX11_slideByWetness.desc).map (fun d => d.parameters.length) = some 1 := ⟨rfl, by decide, by decide, by decide +kernel⟩
set_option maxRecDepth 100000 in
set_option maxHeartbeats 4000000 in
theorem c_X11_slideByWetness (l : Launch) (D : va_G) (dA : Nat → ClassId) (cA : Nat → Nat) (h0 h1 h2 h3 h4 h5 h6 h9 h14 h17 h21 h41 h43 h46 h49 : Nat) (on : Int32) (ot : Int32) (op : Int32) (os : Int32) (sc : Int32) (sd : Nat → Int32) (sp : Nat → Int32) (sw : Nat → Int32) (xi : Int32) (xe : Int32) (xf : Int32) (p0 : Int32) (rr : Int32) (hf : f_X11_slideByWetness sc sw p0 = some rr) : Met l yX11_slideByWetness (wo (.code yX11_slideByWetness cX11_slideByWetness 3 (some .int))) ({ frames := 1, cells := 0, slots := 0, locals := 24 } : Room) (preY D dA cA [.ref h0, .int p0] [(h0, .inr (9, [.ref h1, .ref h21, .int xi, .ref h41, .ref h43, .ref h46, .ref h49, .int xe, .int xf])), (h1, .inr (6, [.int on, .int ot, .int op, .int os, .ref h2, .ref h6, .ref h9, .ref h14, .ref h17])), (h2, .inr (8, [.int sc, .ref h3, .ref h4, .ref h5])), (h3, .inl (dA 0, 4, .inl sd)), (h4, .inl (dA 0, 4, .inl sp)), (h5, .inl (dA 0, 4, .inl sw))]) (poPi rr) 0 0 noA := by
  refine of_Y (y := yX11_slideByWetness) (cc := cX11_slideByWetness) (maxL := 3) (ret := (some .int)) (av := [.ref h0, .int p0]) (ws := [(h0, .inr (9, [.ref h1, .ref h21, .int xi, .ref h41, .ref h43, .ref h46, .ref h49, .int xe, .int xf])), (h1, .inr (6, [.int on, .int ot, .int op, .int os, .ref h2, .ref h6, .ref h9, .ref h14, .ref h17])), (h2, .inr (8, [.int sc, .ref h3, .ref h4, .ref h5])), (h3, .inl (dA 0, 4, .inl sd)), (h4, .inl (dA 0, 4, .inl sp)), (h5, .inl (dA 0, 4, .inl sw))]) (own := RX11) (by decide) rfl (Nat.le_of_ble_eq_true rfl) ?_
  intro p e s m below meth c hx hb hr ha hown hml hlocks hP hK hX hS ls hl
  have hC := hX.1
  have hl : lv_has ls 3 [(0, .ref h0), (1, .int p0)] := hl
  rw [f_X11_slideByWetness] at hf
  refine lv_iconst (v := 0) hx hb dX11_slideByWetness_0 (by decide) ?_
  refine lv_istore_n (lv' := [(2, .int (0 : Int32)), (0, .ref h0), (1, .int p0)]) hx hb dX11_slideByWetness_1 rfl hl (by decide) rfl (fun ls hl => ?_)
  have hL2 : ∀ (n : Nat) (k : Unit → Option Int32) (v_1 : Int32) (H : Heap) (locs : List Loc) (ls : Array Slot), va_P D cls [(h0, .inr (9, [.ref h1, .ref h21, .int xi, .ref h41, .ref h43, .ref h46, .ref h49, .int xe, .int xf])), (h1, .inr (6, [.int on, .int ot, .int op, .int os, .ref h2, .ref h6, .ref h9, .ref h14, .ref h17])), (h2, .inr (8, [.int sc, .ref h3, .ref h4, .ref h5])), (h3, .inl (dA 0, 4, .inl sd)), (h4, .inl (dA 0, 4, .inl sp)), (h5, .inl (dA 0, 4, .inl sw))] H → va_S noA s.heap H locs → lv_has ls 3 [(2, .int v_1), (0, .ref h0), (1, .int p0)] → f_X11_slideByWetness_L2 sc sw p0 k n v_1 = some rr → (∀ (H : Heap) (locs : List Loc) (ls : Array Slot), va_P D cls [(h0, .inr (9, [.ref h1, .ref h21, .int xi, .ref h41, .ref h43, .ref h46, .ref h49, .int xe, .int xf])), (h1, .inr (6, [.int on, .int ot, .int op, .int os, .ref h2, .ref h6, .ref h9, .ref h14, .ref h17])), (h2, .inr (8, [.int sc, .ref h3, .ref h4, .ref h5])), (h3, .inl (dA 0, 4, .inl sd)), (h4, .inl (dA 0, 4, .inl sp)), (h5, .inl (dA 0, 4, .inl sw))] H → va_S noA s.heap H locs → lv_has ls 3 [] → k () = some rr → W p l e ({ frames := 1, cells := 0, slots := 0, locals := 24 } : Room) s m ([.ref h0, .int p0] : List Value).toArray below meth c H locs 0 0 (MQ below (poPi rr) ([.ref h0, .int p0] : List Value).toArray s 0 0 noA) (F0 m 39 ls [])) → W p l e ({ frames := 1, cells := 0, slots := 0, locals := 24 } : Room) s m ([.ref h0, .int p0] : List Value).toArray below meth c H locs 0 0 (MQ below (poPi rr) ([.ref h0, .int p0] : List Value).toArray s 0 0 noA) (F0 m 2 ls []) := by
    intro n k
    induction n with
    | zero =>
      intro v_1 H locs ls hP hS hl hf hk
      rw [f_X11_slideByWetness_L2] at hf
      cases hf
    | succ n ih =>
      intro v_1 H locs ls hP hS hl hf hk
      rw [f_X11_slideByWetness_L2] at hf
      refine lv_iload_n hx hb dX11_slideByWetness_2 rfl (lv_at hl 0 rfl) ?_
      refine lv_aload_n hx hb dX11_slideByWetness_3 rfl (lv_at hl 1 rfl) ?_
      refine gt_f (C := RX11) (T := TX11) (N := 9) hx hb ha in_X11 hown hK hP 0 rfl rfl 0 (by decide) m_370 rfl dX11_slideByWetness_4 ?_
      refine gt_f (C := RX8) (T := TX8) (N := 9) hx hb ha in_X8 hown hK hP 1 rfl rfl 4 (by decide) m_253 rfl dX11_slideByWetness_7 ?_
      refine gt_f (C := RX10) (T := TX10) (N := 4) hx hb ha in_X10 hown hK hP 2 rfl rfl 0 (by decide) m_130 rfl dX11_slideByWetness_10 ?_
      refine lv_icmp_ge (tgt := 39) hx hb dX11_slideByWetness_13 (by decide) (fun hc => ?_) (fun hc => ?_)
      · have hf := sf_bp hf hc
        exact hk _ _ _ hP hS (lv_sub hl [] rfl) hf
      · have hf := sf_bn hf hc
        refine lv_aload_n hx hb dX11_slideByWetness_16 rfl (lv_at hl 1 rfl) ?_
        refine gt_f (C := RX11) (T := TX11) (N := 9) hx hb ha in_X11 hown hK hP 0 rfl rfl 0 (by decide) m_370 rfl dX11_slideByWetness_17 ?_
        refine gt_f (C := RX8) (T := TX8) (N := 9) hx hb ha in_X8 hown hK hP 1 rfl rfl 4 (by decide) m_253 rfl dX11_slideByWetness_20 ?_
        refine lv_iload_n hx hb dX11_slideByWetness_23 rfl (lv_at hl 0 rfl) ?_
        obtain ⟨r_2, hc2, hf⟩ := sf_c1e hf
        refine k_Pi (run_PV (As := [.int v_1]) (rest := []) ⟨hx, hb, hml, hown, ha⟩ (c_X10_rankByWetness l D dA h2 h3 h4 h5   sc sd sp sw v_1 _ hc2) (gi_V m_1155 m_1156 m_1157 m_73 m_1158) yd_X10_rankByWetness ⟨Nat.le_of_ble_eq_true rfl, Nat.le_of_ble_eq_true rfl⟩ ⟨rfl, rfl⟩ hK hP [2, 3, 4, 5] rfl 2 8 rfl rfl rfl rfl hl.1 rfl (Nat.le_of_ble_eq_true rfl) dX11_slideByWetness_24 ⟨Nat.le_of_ble_eq_true rfl, Nat.le_of_ble_eq_true rfl⟩) hP hS (fun H locs hP hS => ?_)
        refine lv_iload_n hx hb dX11_slideByWetness_27 rfl (lv_at hl 2 rfl) ?_
        refine lv_icmp_ne (tgt := 33) hx hb dX11_slideByWetness_28 (by decide) (fun hc => ?_) (fun hc => ?_)
        · have hf := sf_bn hf hc
          obtain ⟨x_3, ex_3, hf⟩ := sf_ne hf
          refine ii_nc (lv' := [(2, .int x_3), (0, .ref h0), (1, .int p0)]) (k := 0) hx hb dX11_slideByWetness_33 hl rfl ex_3 (by decide) (by decide) rfl (fun ls hl => ?_)
          refine lv_goto (tgt := 2) hx hb dX11_slideByWetness_36 (by decide) ?_
          exact ih _ _ _ _ hP hS (lv_sub hl [0, 1, 2] rfl) hf hk
        · have hf := sf_bp hf hc
          refine lv_iload_n hx hb dX11_slideByWetness_31 rfl (lv_at hl 0 rfl) ?_
          exact rt_Pi hx hb hr hlocks (Option.some.inj hf) hS dX11_slideByWetness_32
  refine hL2 _ _ _ _ _ _ hP hS (lv_sub hl [0, 1, 2] rfl) hf (fun  H locs ls hP hS hl hf => ?_)
  cases hf

def f_TX11_slideByWetness_L2 (sc : Int32) (sw : Nat → Int32) (p0 : Int32) (k : Unit → Option Nat) : Nat → Int32 → Option Nat
  | 0, _ => none
  | n + 1, v_1 => sf_b (sc ≤ v_1) (k ()) (sf_c1 (f_X10_rankByWetness sc sw v_1) (fun r_2 => sf_b (r_2 = p0) (none) (sf_n (v_1 + (1 : Int32)) (fun x_3 => f_TX11_slideByWetness_L2 sc sw p0 k n x_3))))
def f_TX11_slideByWetness (sc : Int32) (sw : Nat → Int32) (p0 : Int32) : Option Nat :=
  f_TX11_slideByWetness_L2 sc sw p0 (fun _ => some 4) 2000 (0 : Int32)
theorem yd_TX11_slideByWetness : yX11_slideByWetness.cls = RX11 ∧ yX11_slideByWetness.cls ≠ "java/lang/invoke/MethodHandle" ∧ yX11_slideByWetness.cls ≠ "java/lang/invoke/VarHandle" ∧ (parseMethodDescriptor yX11_slideByWetness.desc).map (fun d => d.parameters.length) = some 1 := ⟨rfl, by decide, by decide, by decide +kernel⟩
set_option maxRecDepth 100000 in
set_option maxHeartbeats 4000000 in
theorem c_TX11_slideByWetness (l : Launch) (D : va_G) (dA : Nat → ClassId) (cA : Nat → Nat) (hst : l.stackTraces = false) (h0 h1 h2 h3 h4 h5 h6 h9 h14 h17 h21 h41 h43 h46 h49 : Nat) (sz : Nat) (on : Int32) (ot : Int32) (op : Int32) (os : Int32) (sc : Int32) (sd : Nat → Int32) (sp : Nat → Int32) (sw : Nat → Int32) (xi : Int32) (xe : Int32) (xf : Int32) (p0 : Int32) (rx : Nat) (hf : f_TX11_slideByWetness sc sw p0 = some rx) : vx_Met l yX11_slideByWetness (wo (.code yX11_slideByWetness cX11_slideByWetness 3 (some .int))) ({ frames := 6, cells := 1, slots := 6, locals := 100 } : Room) (preX D dA cA [.ref h0, .int p0] sz [(h0, .inr (9, [.ref h1, .ref h21, .int xi, .ref h41, .ref h43, .ref h46, .ref h49, .int xe, .int xf])), (h1, .inr (6, [.int on, .int ot, .int op, .int os, .ref h2, .ref h6, .ref h9, .ref h14, .ref h17])), (h2, .inr (8, [.int sc, .ref h3, .ref h4, .ref h5])), (h3, .inl (dA 0, 4, .inl sd)), (h4, .inl (dA 0, 4, .inl sp)), (h5, .inl (dA 0, 4, .inl sw))]) noQ (xcQ D (exs rx) [(h0, .inr (9, [.ref h1, .ref h21, .int xi, .ref h41, .ref h43, .ref h46, .ref h49, .int xe, .int xf])), (h1, .inr (6, [.int on, .int ot, .int op, .int os, .ref h2, .ref h6, .ref h9, .ref h14, .ref h17])), (h2, .inr (8, [.int sc, .ref h3, .ref h4, .ref h5])), (h3, .inl (dA 0, 4, .inl sd)), (h4, .inl (dA 0, 4, .inl sp)), (h5, .inl (dA 0, 4, .inl sw))] (va_A [(h0, .inr (9, [.ref h1, .ref h21, .int xi, .ref h41, .ref h43, .ref h46, .ref h49, .int xe, .int xf])), (h1, .inr (6, [.int on, .int ot, .int op, .int os, .ref h2, .ref h6, .ref h9, .ref h14, .ref h17])), (h2, .inr (8, [.int sc, .ref h3, .ref h4, .ref h5])), (h3, .inl (dA 0, 4, .inl sd)), (h4, .inl (dA 0, 4, .inl sp)), (h5, .inl (dA 0, 4, .inl sw))] sz)) 1 6 (va_A [(h0, .inr (9, [.ref h1, .ref h21, .int xi, .ref h41, .ref h43, .ref h46, .ref h49, .int xe, .int xf])), (h1, .inr (6, [.int on, .int ot, .int op, .int os, .ref h2, .ref h6, .ref h9, .ref h14, .ref h17])), (h2, .inr (8, [.int sc, .ref h3, .ref h4, .ref h5])), (h3, .inl (dA 0, 4, .inl sd)), (h4, .inl (dA 0, 4, .inl sp)), (h5, .inl (dA 0, 4, .inl sw))] sz) := by
  refine of_Z (y := yX11_slideByWetness) (cc := cX11_slideByWetness) (maxL := 3) (ret := (some .int)) (av := [.ref h0, .int p0]) (ws := [(h0, .inr (9, [.ref h1, .ref h21, .int xi, .ref h41, .ref h43, .ref h46, .ref h49, .int xe, .int xf])), (h1, .inr (6, [.int on, .int ot, .int op, .int os, .ref h2, .ref h6, .ref h9, .ref h14, .ref h17])), (h2, .inr (8, [.int sc, .ref h3, .ref h4, .ref h5])), (h3, .inl (dA 0, 4, .inl sd)), (h4, .inl (dA 0, 4, .inl sp)), (h5, .inl (dA 0, 4, .inl sw))]) (sz := sz) (own := RX11) (XC := fun A => xcQ D (exs rx) [(h0, .inr (9, [.ref h1, .ref h21, .int xi, .ref h41, .ref h43, .ref h46, .ref h49, .int xe, .int xf])), (h1, .inr (6, [.int on, .int ot, .int op, .int os, .ref h2, .ref h6, .ref h9, .ref h14, .ref h17])), (h2, .inr (8, [.int sc, .ref h3, .ref h4, .ref h5])), (h3, .inl (dA 0, 4, .inl sd)), (h4, .inl (dA 0, 4, .inl sp)), (h5, .inl (dA 0, 4, .inl sw))] A) (by decide) rfl (Nat.le_of_ble_eq_true rfl) ?_
  intro p e s m below meth c A hx hb hr ha hown hml hlocks hin hno hP hK hD hX hS hA ls hl
  have hC := hX.1
  have hl : lv_has ls 3 [(0, .ref h0), (1, .int p0)] := hl
  rw [f_TX11_slideByWetness] at hf
  refine lv_iconst (v := 0) hx hb dX11_slideByWetness_0 (by decide) ?_
  refine lv_istore_n (lv' := [(2, .int (0 : Int32)), (0, .ref h0), (1, .int p0)]) hx hb dX11_slideByWetness_1 rfl hl (by decide) rfl (fun ls hl => ?_)
  have hL2 : ∀ (n : Nat) (k : Unit → Option Nat) (v_1 : Int32) (H : Heap) (locs : List Loc) (ls : Array Slot), va_P D cls [(h0, .inr (9, [.ref h1, .ref h21, .int xi, .ref h41, .ref h43, .ref h46, .ref h49, .int xe, .int xf])), (h1, .inr (6, [.int on, .int ot, .int op, .int os, .ref h2, .ref h6, .ref h9, .ref h14, .ref h17])), (h2, .inr (8, [.int sc, .ref h3, .ref h4, .ref h5])), (h3, .inl (dA 0, 4, .inl sd)), (h4, .inl (dA 0, 4, .inl sp)), (h5, .inl (dA 0, 4, .inl sw))] H → va_D A [(h0, .inr (9, [.ref h1, .ref h21, .int xi, .ref h41, .ref h43, .ref h46, .ref h49, .int xe, .int xf])), (h1, .inr (6, [.int on, .int ot, .int op, .int os, .ref h2, .ref h6, .ref h9, .ref h14, .ref h17])), (h2, .inr (8, [.int sc, .ref h3, .ref h4, .ref h5])), (h3, .inl (dA 0, 4, .inl sd)), (h4, .inl (dA 0, 4, .inl sp)), (h5, .inl (dA 0, 4, .inl sw))] → va_S A s.heap H locs → lv_has ls 3 [(2, .int v_1), (0, .ref h0), (1, .int p0)] → f_TX11_slideByWetness_L2 sc sw p0 k n v_1 = some rx → (∀ (H : Heap) (locs : List Loc) (ls : Array Slot), va_P D cls [(h0, .inr (9, [.ref h1, .ref h21, .int xi, .ref h41, .ref h43, .ref h46, .ref h49, .int xe, .int xf])), (h1, .inr (6, [.int on, .int ot, .int op, .int os, .ref h2, .ref h6, .ref h9, .ref h14, .ref h17])), (h2, .inr (8, [.int sc, .ref h3, .ref h4, .ref h5])), (h3, .inl (dA 0, 4, .inl sd)), (h4, .inl (dA 0, 4, .inl sp)), (h5, .inl (dA 0, 4, .inl sw))] H → va_D A [(h0, .inr (9, [.ref h1, .ref h21, .int xi, .ref h41, .ref h43, .ref h46, .ref h49, .int xe, .int xf])), (h1, .inr (6, [.int on, .int ot, .int op, .int os, .ref h2, .ref h6, .ref h9, .ref h14, .ref h17])), (h2, .inr (8, [.int sc, .ref h3, .ref h4, .ref h5])), (h3, .inl (dA 0, 4, .inl sd)), (h4, .inl (dA 0, 4, .inl sp)), (h5, .inl (dA 0, 4, .inl sw))] → va_S A s.heap H locs → lv_has ls 3 [] → k () = some rx → W p l e ({ frames := 6, cells := 1, slots := 6, locals := 100 } : Room) s m ([.ref h0, .int p0] : List Value).toArray below meth c H locs 0 0 (vx_MQ below noQ (xcQ D (exs rx) ([(h0, .inr (9, [.ref h1, .ref h21, .int xi, .ref h41, .ref h43, .ref h46, .ref h49, .int xe, .int xf])), (h1, .inr (6, [.int on, .int ot, .int op, .int os, .ref h2, .ref h6, .ref h9, .ref h14, .ref h17])), (h2, .inr (8, [.int sc, .ref h3, .ref h4, .ref h5])), (h3, .inl (dA 0, 4, .inl sd)), (h4, .inl (dA 0, 4, .inl sp)), (h5, .inl (dA 0, 4, .inl sw))]) A) ([.ref h0, .int p0] : List Value).toArray s 1 6 A) (F0 m 39 ls [])) → W p l e ({ frames := 6, cells := 1, slots := 6, locals := 100 } : Room) s m ([.ref h0, .int p0] : List Value).toArray below meth c H locs 0 0 (vx_MQ below noQ (xcQ D (exs rx) ([(h0, .inr (9, [.ref h1, .ref h21, .int xi, .ref h41, .ref h43, .ref h46, .ref h49, .int xe, .int xf])), (h1, .inr (6, [.int on, .int ot, .int op, .int os, .ref h2, .ref h6, .ref h9, .ref h14, .ref h17])), (h2, .inr (8, [.int sc, .ref h3, .ref h4, .ref h5])), (h3, .inl (dA 0, 4, .inl sd)), (h4, .inl (dA 0, 4, .inl sp)), (h5, .inl (dA 0, 4, .inl sw))]) A) ([.ref h0, .int p0] : List Value).toArray s 1 6 A) (F0 m 2 ls []) := by
    intro n k
    induction n with
    | zero =>
      intro v_1 H locs ls hP hD hS hl hf hk
      rw [f_TX11_slideByWetness_L2] at hf
      cases hf
    | succ n ih =>
      intro v_1 H locs ls hP hD hS hl hf hk
      rw [f_TX11_slideByWetness_L2] at hf
      refine lv_iload_n hx hb dX11_slideByWetness_2 rfl (lv_at hl 0 rfl) ?_
      refine lv_aload_n hx hb dX11_slideByWetness_3 rfl (lv_at hl 1 rfl) ?_
      refine gt_f (C := RX11) (T := TX11) (N := 9) hx hb ha in_X11 hown hK hP 0 rfl rfl 0 (by decide) m_370 rfl dX11_slideByWetness_4 ?_
      refine gt_f (C := RX8) (T := TX8) (N := 9) hx hb ha in_X8 hown hK hP 1 rfl rfl 4 (by decide) m_253 rfl dX11_slideByWetness_7 ?_
      refine gt_f (C := RX10) (T := TX10) (N := 4) hx hb ha in_X10 hown hK hP 2 rfl rfl 0 (by decide) m_130 rfl dX11_slideByWetness_10 ?_
      refine lv_icmp_ge (tgt := 39) hx hb dX11_slideByWetness_13 (by decide) (fun hc => ?_) (fun hc => ?_)
      · have hf := sf_bp hf hc
        exact hk _ _ _ (hP.sub [0, 1, 2, 3, 4, 5] rfl) (hD.sub [0, 1, 2, 3, 4, 5] (by decide) rfl) hS (lv_sub hl [] rfl) hf
      · have hf := sf_bn hf hc
        refine lv_aload_n hx hb dX11_slideByWetness_16 rfl (lv_at hl 1 rfl) ?_
        refine gt_f (C := RX11) (T := TX11) (N := 9) hx hb ha in_X11 hown hK hP 0 rfl rfl 0 (by decide) m_370 rfl dX11_slideByWetness_17 ?_
        refine gt_f (C := RX8) (T := TX8) (N := 9) hx hb ha in_X8 hown hK hP 1 rfl rfl 4 (by decide) m_253 rfl dX11_slideByWetness_20 ?_
        refine lv_iload_n hx hb dX11_slideByWetness_23 rfl (lv_at hl 0 rfl) ?_
        obtain ⟨r_2, hc2, hf⟩ := sf_c1e hf
        refine k_Pi (run_PV (As := [.int v_1]) (rest := []) ⟨hx, hb, hml, hown, ha⟩ (c_X10_rankByWetness l D dA h2 h3 h4 h5   sc sd sp sw v_1 _ hc2) (gi_V m_1155 m_1156 m_1157 m_73 m_1158) yd_X10_rankByWetness ⟨Nat.le_of_ble_eq_true rfl, Nat.le_of_ble_eq_true rfl⟩ ⟨rfl, rfl⟩ hK hP [2, 3, 4, 5] rfl 2 8 rfl rfl rfl rfl hl.1 rfl (Nat.le_of_ble_eq_true rfl) dX11_slideByWetness_24 ⟨Nat.le_of_ble_eq_true rfl, Nat.le_of_ble_eq_true rfl⟩) hP hS (fun H locs hP hS => ?_)
        refine lv_iload_n hx hb dX11_slideByWetness_27 rfl (lv_at hl 2 rfl) ?_
        refine lv_icmp_ne (tgt := 33) hx hb dX11_slideByWetness_28 (by decide) (fun hc => ?_) (fun hc => ?_)
        · have hf := sf_bn hf hc
          obtain ⟨x_3, ex_3, hf⟩ := sf_ne hf
          refine ii_nc (lv' := [(2, .int x_3), (0, .ref h0), (1, .int p0)]) (k := 0) hx hb dX11_slideByWetness_33 hl rfl ex_3 (by decide) (by decide) rfl (fun ls hl => ?_)
          refine lv_goto (tgt := 2) hx hb dX11_slideByWetness_36 (by decide) ?_
          exact ih _ _ _ _ (hP.sub [0, 1, 2, 3, 4, 5] rfl) (hD.sub [0, 1, 2, 3, 4, 5] (by decide) rfl) hS (lv_sub hl [0, 1, 2] rfl) hf hk
        · have hf := sf_bp hf hc
          refine lv_iload_n hx hb dX11_slideByWetness_31 rfl (lv_at hl 0 rfl) ?_
          cases hf
  refine hL2 _ _ _ _ _ _ hP hD hS (lv_sub hl [0, 1, 2] rfl) hf (fun  H locs ls hP hD hS hl hf => ?_)
  cases hf
  exact th_SX (E := exs 4) (text := "there is no such rank") (sa := cA 42) nsx_4_0 nsx_4_1 nsx_4_2 nsx_4_5 hx hb hst hown ha hX hS (hP.sub [0, 1, 2, 3, 4, 5] rfl) (hD.sub [0, 1, 2, 3, 4, 5] (by decide) rfl) hlocks hno (hl.1.trans hml.symm) m_712 m_94 (hC.2.2.1 (RX11, 178, "there is no such rank", 42) (List.mem_of_getElem? (i := 18) rfl)) exg_129 exb_129 exo_129 exf_129 dX11_slideByWetness_39 dX11_slideByWetness_42 dX11_slideByWetness_43 dX11_slideByWetness_45 dX11_slideByWetness_48 ⟨by decide, by decide, by decide, by decide⟩ ⟨by decide, by decide⟩

def f_X11_meanCoins (gc : Int32) (gp : Nat → Int32) : Option UInt64 :=
  sf_b (gc = (0 : Int32)) (none) (sf_c1 (f_X6_allCoins gc gp) (fun r_1 => sf_g (sf_n64 (FP.ddiv (FP.i2d r_1) (FP.i2d gc)) = true) (some (FP.ddiv (FP.i2d r_1) (FP.i2d gc)))))
theorem yd_X11_meanCoins : yX11_meanCoins.cls = RX11 ∧ yX11_meanCoins.cls ≠ "java/lang/invoke/MethodHandle" ∧ yX11_meanCoins.cls ≠ "java/lang/invoke/VarHandle" ∧ (parseMethodDescriptor yX11_meanCoins.desc).map (fun d => d.parameters.length) = some 0 := ⟨rfl, by decide, by decide, by decide +kernel⟩
set_option maxRecDepth 100000 in
set_option maxHeartbeats 4000000 in
theorem c_X11_meanCoins (l : Launch) (D : va_G) (dA : Nat → ClassId) (cA : Nat → Nat) (h0 h1 h2 h6 h7 h8 h9 h14 h17 h21 h41 h43 h46 h49 : Nat) (on : Int32) (ot : Int32) (op : Int32) (os : Int32) (gc : Int32) (gp : Nat → Int32) (gr : Nat → Int32) (xi : Int32) (xe : Int32) (xf : Int32) (rr : UInt64) (hf : f_X11_meanCoins gc gp = some rr) : Met l yX11_meanCoins (wo (.code yX11_meanCoins cX11_meanCoins 1 (some .double))) ({ frames := 1, cells := 0, slots := 0, locals := 22 } : Room) (preY D dA cA [.ref h0] [(h0, .inr (9, [.ref h1, .ref h21, .int xi, .ref h41, .ref h43, .ref h46, .ref h49, .int xe, .int xf])), (h1, .inr (6, [.int on, .int ot, .int op, .int os, .ref h2, .ref h6, .ref h9, .ref h14, .ref h17])), (h6, .inr (4, [.int gc, .ref h7, .ref h8])), (h7, .inl (dA 0, 10, .inl gp)), (h8, .inl (dA 0, 10, .inl gr))]) (poPd rr) 0 0 noA := by
  refine of_Y (y := yX11_meanCoins) (cc := cX11_meanCoins) (maxL := 1) (ret := (some .double)) (av := [.ref h0]) (ws := [(h0, .inr (9, [.ref h1, .ref h21, .int xi, .ref h41, .ref h43, .ref h46, .ref h49, .int xe, .int xf])), (h1, .inr (6, [.int on, .int ot, .int op, .int os, .ref h2, .ref h6, .ref h9, .ref h14, .ref h17])), (h6, .inr (4, [.int gc, .ref h7, .ref h8])), (h7, .inl (dA 0, 10, .inl gp)), (h8, .inl (dA 0, 10, .inl gr))]) (own := RX11) (by decide) rfl (Nat.le_of_ble_eq_true rfl) ?_
  intro p e s m below meth c hx hb hr ha hown hml hlocks hP hK hX hS ls hl
  have hC := hX.1
  have hl : lv_has ls 1 [(0, .ref h0)] := hl
  rw [f_X11_meanCoins] at hf
  refine lv_aload_n hx hb dX11_meanCoins_0 rfl (lv_at hl 0 rfl) ?_
  refine gt_f (C := RX11) (T := TX11) (N := 9) hx hb ha in_X11 hown hK hP 0 rfl rfl 0 (by decide) m_370 rfl dX11_meanCoins_1 ?_
  refine gt_f (C := RX8) (T := TX8) (N := 9) hx hb ha in_X8 hown hK hP 1 rfl rfl 5 (by decide) m_255 rfl dX11_meanCoins_4 ?_
  refine gt_f (C := RX6) (T := TX6) (N := 3) hx hb ha in_X6 hown hK hP 2 rfl rfl 0 (by decide) m_158 rfl dX11_meanCoins_7 ?_
  refine lv_if_ne (tgt := 23) hx hb dX11_meanCoins_10 (by decide) (fun hc => ?_) (fun hc => ?_)
  · have hf := sf_bn hf hc
    refine lv_aload_n hx hb dX11_meanCoins_23 rfl (lv_at hl 0 rfl) ?_
    refine gt_f (C := RX11) (T := TX11) (N := 9) hx hb ha in_X11 hown hK hP 0 rfl rfl 0 (by decide) m_370 rfl dX11_meanCoins_24 ?_
    refine gt_f (C := RX8) (T := TX8) (N := 9) hx hb ha in_X8 hown hK hP 1 rfl rfl 5 (by decide) m_255 rfl dX11_meanCoins_27 ?_
    obtain ⟨r_1, hc1, hf⟩ := sf_c1e hf
    refine k_Pi (run_PV (As := []) (rest := []) ⟨hx, hb, hml, hown, ha⟩ (c_X6_allCoins l D dA h6 h7 h8   gc gp gr  _ hc1) (gi_V m_514 m_515 m_516 m_74 m_517) yd_X6_allCoins ⟨Nat.le_of_ble_eq_true rfl, Nat.le_of_ble_eq_true rfl⟩ ⟨rfl, rfl⟩ hK hP [2, 3, 4] rfl 2 4 rfl rfl rfl rfl hl.1 rfl (Nat.le_of_ble_eq_true rfl) dX11_meanCoins_30 ⟨Nat.le_of_ble_eq_true rfl, Nat.le_of_ble_eq_true rfl⟩) hP hS (fun H locs hP hS => ?_)
    refine lv_i2d hx hb dX11_meanCoins_33 ?_
    refine lv_aload_n hx hb dX11_meanCoins_34 rfl (lv_at hl 0 rfl) ?_
    refine gt_f (C := RX11) (T := TX11) (N := 9) hx hb ha in_X11 hown hK hP 0 rfl rfl 0 (by decide) m_370 rfl dX11_meanCoins_35 ?_
    refine gt_f (C := RX8) (T := TX8) (N := 9) hx hb ha in_X8 hown hK hP 1 rfl rfl 5 (by decide) m_255 rfl dX11_meanCoins_38 ?_
    refine gt_f (C := RX6) (T := TX6) (N := 3) hx hb ha in_X6 hown hK hP 2 rfl rfl 0 (by decide) m_158 rfl dX11_meanCoins_41 ?_
    refine lv_i2d hx hb dX11_meanCoins_44 ?_
    obtain ⟨hi, hf⟩ := sf_ge hf
    refine lv_ddiv hx hb dX11_meanCoins_45 (sf_n64e hi) ?_
    exact rt_Pd hx hb hr hlocks (Option.some.inj hf) hS dX11_meanCoins_46
  · have hf := sf_bp hf hc
    cases hf

def f_TX11_meanCoins (gc : Int32) (gp : Nat → Int32) : Option Nat :=
  sf_b (gc = (0 : Int32)) (some 5) (sf_c1 (f_X6_allCoins gc gp) (fun r_1 => sf_g (sf_n64 (FP.ddiv (FP.i2d r_1) (FP.i2d gc)) = true) (none)))
theorem yd_TX11_meanCoins : yX11_meanCoins.cls = RX11 ∧ yX11_meanCoins.cls ≠ "java/lang/invoke/MethodHandle" ∧ yX11_meanCoins.cls ≠ "java/lang/invoke/VarHandle" ∧ (parseMethodDescriptor yX11_meanCoins.desc).map (fun d => d.parameters.length) = some 0 := ⟨rfl, by decide, by decide, by decide +kernel⟩
set_option maxRecDepth 100000 in
set_option maxHeartbeats 4000000 in
theorem c_TX11_meanCoins (l : Launch) (D : va_G) (dA : Nat → ClassId) (cA : Nat → Nat) (hst : l.stackTraces = false) (h0 h1 h2 h6 h7 h8 h9 h14 h17 h21 h41 h43 h46 h49 : Nat) (sz : Nat) (on : Int32) (ot : Int32) (op : Int32) (os : Int32) (gc : Int32) (gp : Nat → Int32) (gr : Nat → Int32) (xi : Int32) (xe : Int32) (xf : Int32) (rx : Nat) (hf : f_TX11_meanCoins gc gp = some rx) : vx_Met l yX11_meanCoins (wo (.code yX11_meanCoins cX11_meanCoins 1 (some .double))) ({ frames := 6, cells := 1, slots := 6, locals := 100 } : Room) (preX D dA cA [.ref h0] sz [(h0, .inr (9, [.ref h1, .ref h21, .int xi, .ref h41, .ref h43, .ref h46, .ref h49, .int xe, .int xf])), (h1, .inr (6, [.int on, .int ot, .int op, .int os, .ref h2, .ref h6, .ref h9, .ref h14, .ref h17])), (h6, .inr (4, [.int gc, .ref h7, .ref h8])), (h7, .inl (dA 0, 10, .inl gp)), (h8, .inl (dA 0, 10, .inl gr))]) noQ (xcQ D (exs rx) [(h0, .inr (9, [.ref h1, .ref h21, .int xi, .ref h41, .ref h43, .ref h46, .ref h49, .int xe, .int xf])), (h1, .inr (6, [.int on, .int ot, .int op, .int os, .ref h2, .ref h6, .ref h9, .ref h14, .ref h17])), (h6, .inr (4, [.int gc, .ref h7, .ref h8])), (h7, .inl (dA 0, 10, .inl gp)), (h8, .inl (dA 0, 10, .inl gr))] (va_A [(h0, .inr (9, [.ref h1, .ref h21, .int xi, .ref h41, .ref h43, .ref h46, .ref h49, .int xe, .int xf])), (h1, .inr (6, [.int on, .int ot, .int op, .int os, .ref h2, .ref h6, .ref h9, .ref h14, .ref h17])), (h6, .inr (4, [.int gc, .ref h7, .ref h8])), (h7, .inl (dA 0, 10, .inl gp)), (h8, .inl (dA 0, 10, .inl gr))] sz)) 1 6 (va_A [(h0, .inr (9, [.ref h1, .ref h21, .int xi, .ref h41, .ref h43, .ref h46, .ref h49, .int xe, .int xf])), (h1, .inr (6, [.int on, .int ot, .int op, .int os, .ref h2, .ref h6, .ref h9, .ref h14, .ref h17])), (h6, .inr (4, [.int gc, .ref h7, .ref h8])), (h7, .inl (dA 0, 10, .inl gp)), (h8, .inl (dA 0, 10, .inl gr))] sz) := by
  refine of_Z (y := yX11_meanCoins) (cc := cX11_meanCoins) (maxL := 1) (ret := (some .double)) (av := [.ref h0]) (ws := [(h0, .inr (9, [.ref h1, .ref h21, .int xi, .ref h41, .ref h43, .ref h46, .ref h49, .int xe, .int xf])), (h1, .inr (6, [.int on, .int ot, .int op, .int os, .ref h2, .ref h6, .ref h9, .ref h14, .ref h17])), (h6, .inr (4, [.int gc, .ref h7, .ref h8])), (h7, .inl (dA 0, 10, .inl gp)), (h8, .inl (dA 0, 10, .inl gr))]) (sz := sz) (own := RX11) (XC := fun A => xcQ D (exs rx) [(h0, .inr (9, [.ref h1, .ref h21, .int xi, .ref h41, .ref h43, .ref h46, .ref h49, .int xe, .int xf])), (h1, .inr (6, [.int on, .int ot, .int op, .int os, .ref h2, .ref h6, .ref h9, .ref h14, .ref h17])), (h6, .inr (4, [.int gc, .ref h7, .ref h8])), (h7, .inl (dA 0, 10, .inl gp)), (h8, .inl (dA 0, 10, .inl gr))] A) (by decide) rfl (Nat.le_of_ble_eq_true rfl) ?_
  intro p e s m below meth c A hx hb hr ha hown hml hlocks hin hno hP hK hD hX hS hA ls hl
  have hC := hX.1
  have hl : lv_has ls 1 [(0, .ref h0)] := hl
  rw [f_TX11_meanCoins] at hf
  refine lv_aload_n hx hb dX11_meanCoins_0 rfl (lv_at hl 0 rfl) ?_
  refine gt_f (C := RX11) (T := TX11) (N := 9) hx hb ha in_X11 hown hK hP 0 rfl rfl 0 (by decide) m_370 rfl dX11_meanCoins_1 ?_
  refine gt_f (C := RX8) (T := TX8) (N := 9) hx hb ha in_X8 hown hK hP 1 rfl rfl 5 (by decide) m_255 rfl dX11_meanCoins_4 ?_
  refine gt_f (C := RX6) (T := TX6) (N := 3) hx hb ha in_X6 hown hK hP 2 rfl rfl 0 (by decide) m_158 rfl dX11_meanCoins_7 ?_
  refine lv_if_ne (tgt := 23) hx hb dX11_meanCoins_10 (by decide) (fun hc => ?_) (fun hc => ?_)
  · have hf := sf_bn hf hc
    refine lv_aload_n hx hb dX11_meanCoins_23 rfl (lv_at hl 0 rfl) ?_
    refine gt_f (C := RX11) (T := TX11) (N := 9) hx hb ha in_X11 hown hK hP 0 rfl rfl 0 (by decide) m_370 rfl dX11_meanCoins_24 ?_
    refine gt_f (C := RX8) (T := TX8) (N := 9) hx hb ha in_X8 hown hK hP 1 rfl rfl 5 (by decide) m_255 rfl dX11_meanCoins_27 ?_
    obtain ⟨r_1, hc1, hf⟩ := sf_c1e hf
    refine k_Pi (run_PV (As := []) (rest := []) ⟨hx, hb, hml, hown, ha⟩ (c_X6_allCoins l D dA h6 h7 h8   gc gp gr  _ hc1) (gi_V m_514 m_515 m_516 m_74 m_517) yd_X6_allCoins ⟨Nat.le_of_ble_eq_true rfl, Nat.le_of_ble_eq_true rfl⟩ ⟨rfl, rfl⟩ hK hP [2, 3, 4] rfl 2 4 rfl rfl rfl rfl hl.1 rfl (Nat.le_of_ble_eq_true rfl) dX11_meanCoins_30 ⟨Nat.le_of_ble_eq_true rfl, Nat.le_of_ble_eq_true rfl⟩) hP hS (fun H locs hP hS => ?_)
    refine lv_i2d hx hb dX11_meanCoins_33 ?_
    refine lv_aload_n hx hb dX11_meanCoins_34 rfl (lv_at hl 0 rfl) ?_
    refine gt_f (C := RX11) (T := TX11) (N := 9) hx hb ha in_X11 hown hK hP 0 rfl rfl 0 (by decide) m_370 rfl dX11_meanCoins_35 ?_
    refine gt_f (C := RX8) (T := TX8) (N := 9) hx hb ha in_X8 hown hK hP 1 rfl rfl 5 (by decide) m_255 rfl dX11_meanCoins_38 ?_
    refine gt_f (C := RX6) (T := TX6) (N := 3) hx hb ha in_X6 hown hK hP 2 rfl rfl 0 (by decide) m_158 rfl dX11_meanCoins_41 ?_
    refine lv_i2d hx hb dX11_meanCoins_44 ?_
    obtain ⟨hi, hf⟩ := sf_ge hf
    refine lv_ddiv hx hb dX11_meanCoins_45 (sf_n64e hi) ?_
    cases hf
  · have hf := sf_bp hf hc
    cases hf
    exact th_S (E := exs 5) (text := "there are no guests") (sa := cA 46) hx hb hst hown ha hX hS (hP.sub [0, 1, 2, 3, 4] rfl) (hD.sub [0, 1, 2, 3, 4] (by decide) rfl) hlocks hno (hl.1.trans hml.symm) m_1180 m_97 (hC.2.2.1 (RX11, 253, "there are no guests", 46) (List.mem_of_getElem? (i := 22) rfl)) exg_255 exb_255 exo_255 exf_255 dX11_meanCoins_13 dX11_meanCoins_16 dX11_meanCoins_17 dX11_meanCoins_19 dX11_meanCoins_22 ⟨by decide, by decide, by decide, by decide⟩ ⟨by decide, by decide⟩

def f_X11_busyShare (on : Int32) (sc : Int32) (bc : Int32) (bs : Nat → Int32) (bt : Nat → Int32) (be : Nat → Int32) : Option UInt32 :=
  sf_b (sc = (0 : Int32)) (none) (sf_c1 (f_X8_busySlides on sc bc bs bt be) (fun r_1 => sf_g (sf_n32 (FP.fdiv (FP.i2f r_1) (FP.i2f sc)) = true) (some (FP.fdiv (FP.i2f r_1) (FP.i2f sc)))))
theorem yd_X11_busyShare : yX11_busyShare.cls = RX11 ∧ yX11_busyShare.cls ≠ "java/lang/invoke/MethodHandle" ∧ yX11_busyShare.cls ≠ "java/lang/invoke/VarHandle" ∧ (parseMethodDescriptor yX11_busyShare.desc).map (fun d => d.parameters.length) = some 0 := ⟨rfl, by decide, by decide, by decide +kernel⟩
set_option maxRecDepth 100000 in
set_option maxHeartbeats 4000000 in
theorem c_X11_busyShare (l : Launch) (D : va_G) (dA : Nat → ClassId) (cA : Nat → Nat) (h0 h1 h2 h3 h4 h5 h6 h7 h8 h9 h10 h11 h12 h13 h14 h15 h16 h17 h18 h19 h20 h21 h41 h43 h46 h49 : Nat) (on : Int32) (ot : Int32) (op : Int32) (os : Int32) (sc : Int32) (sd : Nat → Int32) (sp : Nat → Int32) (sw : Nat → Int32) (gc : Int32) (gp : Nat → Int32) (gr : Nat → Int32) (bc : Int32) (bg : Nat → Int32) (bs : Nat → Int32) (bt : Nat → Int32) (be : Nat → Int32) (ql : Nat → Int32) (qg : Nat → Int32) (fc : Int32) (fg : Nat → Int32) (fs : Nat → Int32) (fm : Nat → Int32) (xi : Int32) (xe : Int32) (xf : Int32) (rr : UInt32) (hf : f_X11_busyShare on sc bc bs bt be = some rr) : Met l yX11_busyShare (wo (.code yX11_busyShare cX11_busyShare 1 (some .float))) ({ frames := 3, cells := 0, slots := 0, locals := 67 } : Room) (preY D dA cA [.ref h0] [(h0, .inr (9, [.ref h1, .ref h21, .int xi, .ref h41, .ref h43, .ref h46, .ref h49, .int xe, .int xf])), (h1, .inr (6, [.int on, .int ot, .int op, .int os, .ref h2, .ref h6, .ref h9, .ref h14, .ref h17])), (h2, .inr (8, [.int sc, .ref h3, .ref h4, .ref h5])), (h3, .inl (dA 0, 4, .inl sd)), (h4, .inl (dA 0, 4, .inl sp)), (h5, .inl (dA 0, 4, .inl sw)), (h6, .inr (4, [.int gc, .ref h7, .ref h8])), (h7, .inl (dA 0, 10, .inl gp)), (h8, .inl (dA 0, 10, .inl gr)), (h9, .inr (0, [.int bc, .ref h10, .ref h11, .ref h12, .ref h13])), (h10, .inl (dA 0, 12, .inl bg)), (h11, .inl (dA 0, 12, .inl bs)), (h12, .inl (dA 0, 12, .inl bt)), (h13, .inl (dA 0, 12, .inl be)), (h14, .inr (7, [.ref h15, .ref h16])), (h15, .inl (dA 0, 4, .inl ql)), (h16, .inl (dA 0, 20, .inl qg)), (h17, .inr (3, [.int fc, .ref h18, .ref h19, .ref h20])), (h18, .inl (dA 0, 16, .inl fg)), (h19, .inl (dA 0, 16, .inl fs)), (h20, .inl (dA 0, 16, .inl fm))]) (poPf rr) 0 0 noA := by
  refine of_Y (y := yX11_busyShare) (cc := cX11_busyShare) (maxL := 1) (ret := (some .float)) (av := [.ref h0]) (ws := [(h0, .inr (9, [.ref h1, .ref h21, .int xi, .ref h41, .ref h43, .ref h46, .ref h49, .int xe, .int xf])), (h1, .inr (6, [.int on, .int ot, .int op, .int os, .ref h2, .ref h6, .ref h9, .ref h14, .ref h17])), (h2, .inr (8, [.int sc, .ref h3, .ref h4, .ref h5])), (h3, .inl (dA 0, 4, .inl sd)), (h4, .inl (dA 0, 4, .inl sp)), (h5, .inl (dA 0, 4, .inl sw)), (h6, .inr (4, [.int gc, .ref h7, .ref h8])), (h7, .inl (dA 0, 10, .inl gp)), (h8, .inl (dA 0, 10, .inl gr)), (h9, .inr (0, [.int bc, .ref h10, .ref h11, .ref h12, .ref h13])), (h10, .inl (dA 0, 12, .inl bg)), (h11, .inl (dA 0, 12, .inl bs)), (h12, .inl (dA 0, 12, .inl bt)), (h13, .inl (dA 0, 12, .inl be)), (h14, .inr (7, [.ref h15, .ref h16])), (h15, .inl (dA 0, 4, .inl ql)), (h16, .inl (dA 0, 20, .inl qg)), (h17, .inr (3, [.int fc, .ref h18, .ref h19, .ref h20])), (h18, .inl (dA 0, 16, .inl fg)), (h19, .inl (dA 0, 16, .inl fs)), (h20, .inl (dA 0, 16, .inl fm))]) (own := RX11) (by decide) rfl (Nat.le_of_ble_eq_true rfl) ?_
  intro p e s m below meth c hx hb hr ha hown hml hlocks hP hK hX hS ls hl
  have hC := hX.1
  have hl : lv_has ls 1 [(0, .ref h0)] := hl
  rw [f_X11_busyShare] at hf
  refine lv_aload_n hx hb dX11_busyShare_0 rfl (lv_at hl 0 rfl) ?_
  refine gt_f (C := RX11) (T := TX11) (N := 9) hx hb ha in_X11 hown hK hP 0 rfl rfl 0 (by decide) m_370 rfl dX11_busyShare_1 ?_
  refine gt_f (C := RX8) (T := TX8) (N := 9) hx hb ha in_X8 hown hK hP 1 rfl rfl 4 (by decide) m_253 rfl dX11_busyShare_4 ?_
  refine gt_f (C := RX10) (T := TX10) (N := 4) hx hb ha in_X10 hown hK hP 2 rfl rfl 0 (by decide) m_130 rfl dX11_busyShare_7 ?_
  refine lv_if_ne (tgt := 24) hx hb dX11_busyShare_10 (by decide) (fun hc => ?_) (fun hc => ?_)
  · have hf := sf_bn hf hc
    refine lv_aload_n hx hb dX11_busyShare_24 rfl (lv_at hl 0 rfl) ?_
    refine gt_f (C := RX11) (T := TX11) (N := 9) hx hb ha in_X11 hown hK hP 0 rfl rfl 0 (by decide) m_370 rfl dX11_busyShare_25 ?_
    obtain ⟨r_1, hc1, hf⟩ := sf_c1e hf
    refine k_Pi (run_PV (As := []) (rest := []) ⟨hx, hb, hml, hown, ha⟩ (c_X8_busySlides l D dA h1 h2 h3 h4 h5 h6 h7 h8 h9 h10 h11 h12 h13 h14 h15 h16 h17 h18 h19 h20   on ot op os sc sd sp sw gc gp gr bc bg bs bt be ql qg fc fg fs fm  _ hc1) (gi_V m_1191 m_1192 m_1193 m_72 m_1194) yd_X8_busySlides ⟨Nat.le_of_ble_eq_true rfl, Nat.le_of_ble_eq_true rfl⟩ ⟨rfl, rfl⟩ hK hP [1, 2, 3, 4, 5, 6, 7, 8, 9, 10, 11, 12, 13, 14, 15, 16, 17, 18, 19, 20] rfl 1 6 rfl rfl rfl rfl hl.1 rfl (Nat.le_of_ble_eq_true rfl) dX11_busyShare_28 ⟨Nat.le_of_ble_eq_true rfl, Nat.le_of_ble_eq_true rfl⟩) hP hS (fun H locs hP hS => ?_)
    refine lv_i2f hx hb dX11_busyShare_31 ?_
    refine lv_aload_n hx hb dX11_busyShare_32 rfl (lv_at hl 0 rfl) ?_
    refine gt_f (C := RX11) (T := TX11) (N := 9) hx hb ha in_X11 hown hK hP 0 rfl rfl 0 (by decide) m_370 rfl dX11_busyShare_33 ?_
    refine gt_f (C := RX8) (T := TX8) (N := 9) hx hb ha in_X8 hown hK hP 1 rfl rfl 4 (by decide) m_253 rfl dX11_busyShare_36 ?_
    refine gt_f (C := RX10) (T := TX10) (N := 4) hx hb ha in_X10 hown hK hP 2 rfl rfl 0 (by decide) m_130 rfl dX11_busyShare_39 ?_
    refine lv_i2f hx hb dX11_busyShare_42 ?_
    obtain ⟨hi, hf⟩ := sf_ge hf
    refine lv_fdiv hx hb dX11_busyShare_43 (sf_n32e hi) ?_
    exact rt_Pf hx hb hr hlocks (Option.some.inj hf) hS dX11_busyShare_44
  · have hf := sf_bp hf hc
    cases hf

def f_TX11_busyShare (on : Int32) (sc : Int32) (bc : Int32) (bs : Nat → Int32) (bt : Nat → Int32) (be : Nat → Int32) : Option Nat :=
  sf_b (sc = (0 : Int32)) (some 5) (sf_c1 (f_X8_busySlides on sc bc bs bt be) (fun r_1 => sf_g (sf_n32 (FP.fdiv (FP.i2f r_1) (FP.i2f sc)) = true) (none)))
theorem yd_TX11_busyShare : yX11_busyShare.cls = RX11 ∧ yX11_busyShare.cls ≠ "java/lang/invoke/MethodHandle" ∧ yX11_busyShare.cls ≠ "java/lang/invoke/VarHandle" ∧ (parseMethodDescriptor yX11_busyShare.desc).map (fun d => d.parameters.length) = some 0 := ⟨rfl, by decide, by decide, by decide +kernel⟩
set_option maxRecDepth 100000 in
set_option maxHeartbeats 4000000 in
theorem c_TX11_busyShare (l : Launch) (D : va_G) (dA : Nat → ClassId) (cA : Nat → Nat) (hst : l.stackTraces = false) (h0 h1 h2 h3 h4 h5 h6 h7 h8 h9 h10 h11 h12 h13 h14 h15 h16 h17 h18 h19 h20 h21 h41 h43 h46 h49 : Nat) (sz : Nat) (on : Int32) (ot : Int32) (op : Int32) (os : Int32) (sc : Int32) (sd : Nat → Int32) (sp : Nat → Int32) (sw : Nat → Int32) (gc : Int32) (gp : Nat → Int32) (gr : Nat → Int32) (bc : Int32) (bg : Nat → Int32) (bs : Nat → Int32) (bt : Nat → Int32) (be : Nat → Int32) (ql : Nat → Int32) (qg : Nat → Int32) (fc : Int32) (fg : Nat → Int32) (fs : Nat → Int32) (fm : Nat → Int32) (xi : Int32) (xe : Int32) (xf : Int32) (rx : Nat) (hf : f_TX11_busyShare on sc bc bs bt be = some rx) : vx_Met l yX11_busyShare (wo (.code yX11_busyShare cX11_busyShare 1 (some .float))) ({ frames := 6, cells := 1, slots := 6, locals := 100 } : Room) (preX D dA cA [.ref h0] sz [(h0, .inr (9, [.ref h1, .ref h21, .int xi, .ref h41, .ref h43, .ref h46, .ref h49, .int xe, .int xf])), (h1, .inr (6, [.int on, .int ot, .int op, .int os, .ref h2, .ref h6, .ref h9, .ref h14, .ref h17])), (h2, .inr (8, [.int sc, .ref h3, .ref h4, .ref h5])), (h3, .inl (dA 0, 4, .inl sd)), (h4, .inl (dA 0, 4, .inl sp)), (h5, .inl (dA 0, 4, .inl sw)), (h6, .inr (4, [.int gc, .ref h7, .ref h8])), (h7, .inl (dA 0, 10, .inl gp)), (h8, .inl (dA 0, 10, .inl gr)), (h9, .inr (0, [.int bc, .ref h10, .ref h11, .ref h12, .ref h13])), (h10, .inl (dA 0, 12, .inl bg)), (h11, .inl (dA 0, 12, .inl bs)), (h12, .inl (dA 0, 12, .inl bt)), (h13, .inl (dA 0, 12, .inl be)), (h14, .inr (7, [.ref h15, .ref h16])), (h15, .inl (dA 0, 4, .inl ql)), (h16, .inl (dA 0, 20, .inl qg)), (h17, .inr (3, [.int fc, .ref h18, .ref h19, .ref h20])), (h18, .inl (dA 0, 16, .inl fg)), (h19, .inl (dA 0, 16, .inl fs)), (h20, .inl (dA 0, 16, .inl fm))]) noQ (xcQ D (exs rx) [(h0, .inr (9, [.ref h1, .ref h21, .int xi, .ref h41, .ref h43, .ref h46, .ref h49, .int xe, .int xf])), (h1, .inr (6, [.int on, .int ot, .int op, .int os, .ref h2, .ref h6, .ref h9, .ref h14, .ref h17])), (h2, .inr (8, [.int sc, .ref h3, .ref h4, .ref h5])), (h3, .inl (dA 0, 4, .inl sd)), (h4, .inl (dA 0, 4, .inl sp)), (h5, .inl (dA 0, 4, .inl sw)), (h6, .inr (4, [.int gc, .ref h7, .ref h8])), (h7, .inl (dA 0, 10, .inl gp)), (h8, .inl (dA 0, 10, .inl gr)), (h9, .inr (0, [.int bc, .ref h10, .ref h11, .ref h12, .ref h13])), (h10, .inl (dA 0, 12, .inl bg)), (h11, .inl (dA 0, 12, .inl bs)), (h12, .inl (dA 0, 12, .inl bt)), (h13, .inl (dA 0, 12, .inl be)), (h14, .inr (7, [.ref h15, .ref h16])), (h15, .inl (dA 0, 4, .inl ql)), (h16, .inl (dA 0, 20, .inl qg)), (h17, .inr (3, [.int fc, .ref h18, .ref h19, .ref h20])), (h18, .inl (dA 0, 16, .inl fg)), (h19, .inl (dA 0, 16, .inl fs)), (h20, .inl (dA 0, 16, .inl fm))] (va_A [(h0, .inr (9, [.ref h1, .ref h21, .int xi, .ref h41, .ref h43, .ref h46, .ref h49, .int xe, .int xf])), (h1, .inr (6, [.int on, .int ot, .int op, .int os, .ref h2, .ref h6, .ref h9, .ref h14, .ref h17])), (h2, .inr (8, [.int sc, .ref h3, .ref h4, .ref h5])), (h3, .inl (dA 0, 4, .inl sd)), (h4, .inl (dA 0, 4, .inl sp)), (h5, .inl (dA 0, 4, .inl sw)), (h6, .inr (4, [.int gc, .ref h7, .ref h8])), (h7, .inl (dA 0, 10, .inl gp)), (h8, .inl (dA 0, 10, .inl gr)), (h9, .inr (0, [.int bc, .ref h10, .ref h11, .ref h12, .ref h13])), (h10, .inl (dA 0, 12, .inl bg)), (h11, .inl (dA 0, 12, .inl bs)), (h12, .inl (dA 0, 12, .inl bt)), (h13, .inl (dA 0, 12, .inl be)), (h14, .inr (7, [.ref h15, .ref h16])), (h15, .inl (dA 0, 4, .inl ql)), (h16, .inl (dA 0, 20, .inl qg)), (h17, .inr (3, [.int fc, .ref h18, .ref h19, .ref h20])), (h18, .inl (dA 0, 16, .inl fg)), (h19, .inl (dA 0, 16, .inl fs)), (h20, .inl (dA 0, 16, .inl fm))] sz)) 1 6 (va_A [(h0, .inr (9, [.ref h1, .ref h21, .int xi, .ref h41, .ref h43, .ref h46, .ref h49, .int xe, .int xf])), (h1, .inr (6, [.int on, .int ot, .int op, .int os, .ref h2, .ref h6, .ref h9, .ref h14, .ref h17])), (h2, .inr (8, [.int sc, .ref h3, .ref h4, .ref h5])), (h3, .inl (dA 0, 4, .inl sd)), (h4, .inl (dA 0, 4, .inl sp)), (h5, .inl (dA 0, 4, .inl sw)), (h6, .inr (4, [.int gc, .ref h7, .ref h8])), (h7, .inl (dA 0, 10, .inl gp)), (h8, .inl (dA 0, 10, .inl gr)), (h9, .inr (0, [.int bc, .ref h10, .ref h11, .ref h12, .ref h13])), (h10, .inl (dA 0, 12, .inl bg)), (h11, .inl (dA 0, 12, .inl bs)), (h12, .inl (dA 0, 12, .inl bt)), (h13, .inl (dA 0, 12, .inl be)), (h14, .inr (7, [.ref h15, .ref h16])), (h15, .inl (dA 0, 4, .inl ql)), (h16, .inl (dA 0, 20, .inl qg)), (h17, .inr (3, [.int fc, .ref h18, .ref h19, .ref h20])), (h18, .inl (dA 0, 16, .inl fg)), (h19, .inl (dA 0, 16, .inl fs)), (h20, .inl (dA 0, 16, .inl fm))] sz) := by
  refine of_Z (y := yX11_busyShare) (cc := cX11_busyShare) (maxL := 1) (ret := (some .float)) (av := [.ref h0]) (ws := [(h0, .inr (9, [.ref h1, .ref h21, .int xi, .ref h41, .ref h43, .ref h46, .ref h49, .int xe, .int xf])), (h1, .inr (6, [.int on, .int ot, .int op, .int os, .ref h2, .ref h6, .ref h9, .ref h14, .ref h17])), (h2, .inr (8, [.int sc, .ref h3, .ref h4, .ref h5])), (h3, .inl (dA 0, 4, .inl sd)), (h4, .inl (dA 0, 4, .inl sp)), (h5, .inl (dA 0, 4, .inl sw)), (h6, .inr (4, [.int gc, .ref h7, .ref h8])), (h7, .inl (dA 0, 10, .inl gp)), (h8, .inl (dA 0, 10, .inl gr)), (h9, .inr (0, [.int bc, .ref h10, .ref h11, .ref h12, .ref h13])), (h10, .inl (dA 0, 12, .inl bg)), (h11, .inl (dA 0, 12, .inl bs)), (h12, .inl (dA 0, 12, .inl bt)), (h13, .inl (dA 0, 12, .inl be)), (h14, .inr (7, [.ref h15, .ref h16])), (h15, .inl (dA 0, 4, .inl ql)), (h16, .inl (dA 0, 20, .inl qg)), (h17, .inr (3, [.int fc, .ref h18, .ref h19, .ref h20])), (h18, .inl (dA 0, 16, .inl fg)), (h19, .inl (dA 0, 16, .inl fs)), (h20, .inl (dA 0, 16, .inl fm))]) (sz := sz) (own := RX11) (XC := fun A => xcQ D (exs rx) [(h0, .inr (9, [.ref h1, .ref h21, .int xi, .ref h41, .ref h43, .ref h46, .ref h49, .int xe, .int xf])), (h1, .inr (6, [.int on, .int ot, .int op, .int os, .ref h2, .ref h6, .ref h9, .ref h14, .ref h17])), (h2, .inr (8, [.int sc, .ref h3, .ref h4, .ref h5])), (h3, .inl (dA 0, 4, .inl sd)), (h4, .inl (dA 0, 4, .inl sp)), (h5, .inl (dA 0, 4, .inl sw)), (h6, .inr (4, [.int gc, .ref h7, .ref h8])), (h7, .inl (dA 0, 10, .inl gp)), (h8, .inl (dA 0, 10, .inl gr)), (h9, .inr (0, [.int bc, .ref h10, .ref h11, .ref h12, .ref h13])), (h10, .inl (dA 0, 12, .inl bg)), (h11, .inl (dA 0, 12, .inl bs)), (h12, .inl (dA 0, 12, .inl bt)), (h13, .inl (dA 0, 12, .inl be)), (h14, .inr (7, [.ref h15, .ref h16])), (h15, .inl (dA 0, 4, .inl ql)), (h16, .inl (dA 0, 20, .inl qg)), (h17, .inr (3, [.int fc, .ref h18, .ref h19, .ref h20])), (h18, .inl (dA 0, 16, .inl fg)), (h19, .inl (dA 0, 16, .inl fs)), (h20, .inl (dA 0, 16, .inl fm))] A) (by decide) rfl (Nat.le_of_ble_eq_true rfl) ?_
  intro p e s m below meth c A hx hb hr ha hown hml hlocks hin hno hP hK hD hX hS hA ls hl
  have hC := hX.1
  have hl : lv_has ls 1 [(0, .ref h0)] := hl
  rw [f_TX11_busyShare] at hf
  refine lv_aload_n hx hb dX11_busyShare_0 rfl (lv_at hl 0 rfl) ?_
  refine gt_f (C := RX11) (T := TX11) (N := 9) hx hb ha in_X11 hown hK hP 0 rfl rfl 0 (by decide) m_370 rfl dX11_busyShare_1 ?_
  refine gt_f (C := RX8) (T := TX8) (N := 9) hx hb ha in_X8 hown hK hP 1 rfl rfl 4 (by decide) m_253 rfl dX11_busyShare_4 ?_
  refine gt_f (C := RX10) (T := TX10) (N := 4) hx hb ha in_X10 hown hK hP 2 rfl rfl 0 (by decide) m_130 rfl dX11_busyShare_7 ?_
  refine lv_if_ne (tgt := 24) hx hb dX11_busyShare_10 (by decide) (fun hc => ?_) (fun hc => ?_)
  · have hf := sf_bn hf hc
    refine lv_aload_n hx hb dX11_busyShare_24 rfl (lv_at hl 0 rfl) ?_
    refine gt_f (C := RX11) (T := TX11) (N := 9) hx hb ha in_X11 hown hK hP 0 rfl rfl 0 (by decide) m_370 rfl dX11_busyShare_25 ?_
    obtain ⟨r_1, hc1, hf⟩ := sf_c1e hf
    refine k_Pi (run_PV (As := []) (rest := []) ⟨hx, hb, hml, hown, ha⟩ (c_X8_busySlides l D dA h1 h2 h3 h4 h5 h6 h7 h8 h9 h10 h11 h12 h13 h14 h15 h16 h17 h18 h19 h20   on ot op os sc sd sp sw gc gp gr bc bg bs bt be ql qg fc fg fs fm  _ hc1) (gi_V m_1191 m_1192 m_1193 m_72 m_1194) yd_X8_busySlides ⟨Nat.le_of_ble_eq_true rfl, Nat.le_of_ble_eq_true rfl⟩ ⟨rfl, rfl⟩ hK hP [1, 2, 3, 4, 5, 6, 7, 8, 9, 10, 11, 12, 13, 14, 15, 16, 17, 18, 19, 20] rfl 1 6 rfl rfl rfl rfl hl.1 rfl (Nat.le_of_ble_eq_true rfl) dX11_busyShare_28 ⟨Nat.le_of_ble_eq_true rfl, Nat.le_of_ble_eq_true rfl⟩) hP hS (fun H locs hP hS => ?_)
    refine lv_i2f hx hb dX11_busyShare_31 ?_
    refine lv_aload_n hx hb dX11_busyShare_32 rfl (lv_at hl 0 rfl) ?_
    refine gt_f (C := RX11) (T := TX11) (N := 9) hx hb ha in_X11 hown hK hP 0 rfl rfl 0 (by decide) m_370 rfl dX11_busyShare_33 ?_
    refine gt_f (C := RX8) (T := TX8) (N := 9) hx hb ha in_X8 hown hK hP 1 rfl rfl 4 (by decide) m_253 rfl dX11_busyShare_36 ?_
    refine gt_f (C := RX10) (T := TX10) (N := 4) hx hb ha in_X10 hown hK hP 2 rfl rfl 0 (by decide) m_130 rfl dX11_busyShare_39 ?_
    refine lv_i2f hx hb dX11_busyShare_42 ?_
    obtain ⟨hi, hf⟩ := sf_ge hf
    refine lv_fdiv hx hb dX11_busyShare_43 (sf_n32e hi) ?_
    cases hf
  · have hf := sf_bp hf hc
    cases hf
    exact th_SW (E := exs 5) (text := "there are no slides") (sa := cA 47) hx hb hst hown ha hX hS (hP.sub [0, 1, 2, 3, 4, 5, 6, 7, 8, 9, 10, 11, 12, 13, 14, 15, 16, 17, 18, 19, 20] rfl) (hD.sub [0, 1, 2, 3, 4, 5, 6, 7, 8, 9, 10, 11, 12, 13, 14, 15, 16, 17, 18, 19, 20] (by decide) rfl) hlocks hno (hl.1.trans hml.symm) m_1180 m_97 (hC.2.2.1 (RX11, 259, "there are no slides", 47) (List.mem_of_getElem? (i := 23) rfl)) exg_255 exb_255 exo_255 exf_255 dX11_busyShare_13 dX11_busyShare_16 dX11_busyShare_17 dX11_busyShare_20 dX11_busyShare_23 ⟨by decide, by decide, by decide, by decide⟩ ⟨by decide, by decide⟩

def f_X11_isConsistent (ot : Int32) (gc : Int32) (gp : Nat → Int32) (bc : Int32) (bs : Nat → Int32) (bt : Nat → Int32) (be : Nat → Int32) (fc : Int32) (fm : Nat → Int32) (ko : Nat → Int32) (kl : Nat → Int32) : Option (Int32 × (Nat → Int32) × (Nat → Int32)) :=
  sf_c1 (f_X6_allCoins gc gp) (fun r_1 => sf_n ((r_1 + ot)) (fun x_2 => sf_b (x_2 = ((50 : Int32) * gc)) (sf_c1 (f_X11_mostWatched bc bt be) (fun r_3 => sf_c3 (f_X11_mostWatchedByTable bc bs bt be ko kl) (fun r_4 a_5 a_6 => sf_b (r_3 = r_4) (sf_c1 (f_X11_mostAtOnce bc bt be) (fun r_7 => sf_c1 (f_X11_mostAtOnceBySweep bc bt be) (fun r_8 => sf_b (r_7 = r_8) (sf_c1 (f_X11_photoFinishes fc fm) (fun r_9 => sf_c1 (f_X11_photoFinishesByRuns fc fm) (fun r_10 => sf_b (r_9 = r_10) (some ((1 : Int32), a_5, a_6)) (some ((0 : Int32), a_5, a_6))))) (some ((0 : Int32), a_5, a_6))))) (some ((0 : Int32), a_5, a_6))))) (some ((0 : Int32), ko, kl))))
theorem yd_X11_isConsistent : yX11_isConsistent.cls = RX11 ∧ yX11_isConsistent.cls ≠ "java/lang/invoke/MethodHandle" ∧ yX11_isConsistent.cls ≠ "java/lang/invoke/VarHandle" ∧ (parseMethodDescriptor yX11_isConsistent.desc).map (fun d => d.parameters.length) = some 0 := ⟨rfl, by decide, by decide, by decide +kernel⟩
set_option maxRecDepth 100000 in
set_option maxHeartbeats 4000000 in
theorem c_X11_isConsistent (l : Launch) (D : va_G) (dA : Nat → ClassId) (cA : Nat → Nat) (h0 h1 h2 h6 h7 h8 h9 h10 h11 h12 h13 h14 h17 h18 h19 h20 h21 h41 h43 h44 h45 h46 h49 : Nat) (sz : Nat) (on : Int32) (ot : Int32) (op : Int32) (os : Int32) (gc : Int32) (gp : Nat → Int32) (gr : Nat → Int32) (bc : Int32) (bg : Nat → Int32) (bs : Nat → Int32) (bt : Nat → Int32) (be : Nat → Int32) (fc : Int32) (fg : Nat → Int32) (fs : Nat → Int32) (fm : Nat → Int32) (xi : Int32) (ko : Nat → Int32) (kl : Nat → Int32) (xe : Int32) (xf : Int32) (rr : Int32) (q_ko : Nat → Int32) (q_kl : Nat → Int32) (hf : f_X11_isConsistent ot gc gp bc bs bt be fc fm ko kl = some (rr, q_ko, q_kl)) : Met l yX11_isConsistent (wo (.code yX11_isConsistent cX11_isConsistent 2 (some .boolean))) ({ frames := 4, cells := 0, slots := 0, locals := 147 } : Room) (preX D dA cA [.ref h0] sz [(h0, .inr (9, [.ref h1, .ref h21, .int xi, .ref h41, .ref h43, .ref h46, .ref h49, .int xe, .int xf])), (h1, .inr (6, [.int on, .int ot, .int op, .int os, .ref h2, .ref h6, .ref h9, .ref h14, .ref h17])), (h6, .inr (4, [.int gc, .ref h7, .ref h8])), (h7, .inl (dA 0, 10, .inl gp)), (h8, .inl (dA 0, 10, .inl gr)), (h9, .inr (0, [.int bc, .ref h10, .ref h11, .ref h12, .ref h13])), (h10, .inl (dA 0, 12, .inl bg)), (h11, .inl (dA 0, 12, .inl bs)), (h12, .inl (dA 0, 12, .inl bt)), (h13, .inl (dA 0, 12, .inl be)), (h17, .inr (3, [.int fc, .ref h18, .ref h19, .ref h20])), (h18, .inl (dA 0, 16, .inl fg)), (h19, .inl (dA 0, 16, .inl fs)), (h20, .inl (dA 0, 16, .inl fm)), (h43, .inr (1, [.ref h44, .ref h45])), (h44, .inl (dA 0, 12, .inl ko)), (h45, .inl (dA 0, 12, .inl kl))]) (poMi D rr [(h0, .inr (9, [.ref h1, .ref h21, .int xi, .ref h41, .ref h43, .ref h46, .ref h49, .int xe, .int xf])), (h1, .inr (6, [.int on, .int ot, .int op, .int os, .ref h2, .ref h6, .ref h9, .ref h14, .ref h17])), (h6, .inr (4, [.int gc, .ref h7, .ref h8])), (h7, .inl (dA 0, 10, .inl gp)), (h8, .inl (dA 0, 10, .inl gr)), (h9, .inr (0, [.int bc, .ref h10, .ref h11, .ref h12, .ref h13])), (h10, .inl (dA 0, 12, .inl bg)), (h11, .inl (dA 0, 12, .inl bs)), (h12, .inl (dA 0, 12, .inl bt)), (h13, .inl (dA 0, 12, .inl be)), (h17, .inr (3, [.int fc, .ref h18, .ref h19, .ref h20])), (h18, .inl (dA 0, 16, .inl fg)), (h19, .inl (dA 0, 16, .inl fs)), (h20, .inl (dA 0, 16, .inl fm)), (h43, .inr (1, [.ref h44, .ref h45])), (h44, .inl (dA 0, 12, .inl q_ko)), (h45, .inl (dA 0, 12, .inl q_kl))] (va_A [(h0, .inr (9, [.ref h1, .ref h21, .int xi, .ref h41, .ref h43, .ref h46, .ref h49, .int xe, .int xf])), (h1, .inr (6, [.int on, .int ot, .int op, .int os, .ref h2, .ref h6, .ref h9, .ref h14, .ref h17])), (h6, .inr (4, [.int gc, .ref h7, .ref h8])), (h7, .inl (dA 0, 10, .inl gp)), (h8, .inl (dA 0, 10, .inl gr)), (h9, .inr (0, [.int bc, .ref h10, .ref h11, .ref h12, .ref h13])), (h10, .inl (dA 0, 12, .inl bg)), (h11, .inl (dA 0, 12, .inl bs)), (h12, .inl (dA 0, 12, .inl bt)), (h13, .inl (dA 0, 12, .inl be)), (h17, .inr (3, [.int fc, .ref h18, .ref h19, .ref h20])), (h18, .inl (dA 0, 16, .inl fg)), (h19, .inl (dA 0, 16, .inl fs)), (h20, .inl (dA 0, 16, .inl fm)), (h43, .inr (1, [.ref h44, .ref h45])), (h44, .inl (dA 0, 12, .inl ko)), (h45, .inl (dA 0, 12, .inl kl))] sz)) 0 0 (va_A [(h0, .inr (9, [.ref h1, .ref h21, .int xi, .ref h41, .ref h43, .ref h46, .ref h49, .int xe, .int xf])), (h1, .inr (6, [.int on, .int ot, .int op, .int os, .ref h2, .ref h6, .ref h9, .ref h14, .ref h17])), (h6, .inr (4, [.int gc, .ref h7, .ref h8])), (h7, .inl (dA 0, 10, .inl gp)), (h8, .inl (dA 0, 10, .inl gr)), (h9, .inr (0, [.int bc, .ref h10, .ref h11, .ref h12, .ref h13])), (h10, .inl (dA 0, 12, .inl bg)), (h11, .inl (dA 0, 12, .inl bs)), (h12, .inl (dA 0, 12, .inl bt)), (h13, .inl (dA 0, 12, .inl be)), (h17, .inr (3, [.int fc, .ref h18, .ref h19, .ref h20])), (h18, .inl (dA 0, 16, .inl fg)), (h19, .inl (dA 0, 16, .inl fs)), (h20, .inl (dA 0, 16, .inl fm)), (h43, .inr (1, [.ref h44, .ref h45])), (h44, .inl (dA 0, 12, .inl ko)), (h45, .inl (dA 0, 12, .inl kl))] sz) := by
  refine of_X (y := yX11_isConsistent) (cc := cX11_isConsistent) (maxL := 2) (ret := (some .boolean)) (av := [.ref h0]) (ws := [(h0, .inr (9, [.ref h1, .ref h21, .int xi, .ref h41, .ref h43, .ref h46, .ref h49, .int xe, .int xf])), (h1, .inr (6, [.int on, .int ot, .int op, .int os, .ref h2, .ref h6, .ref h9, .ref h14, .ref h17])), (h6, .inr (4, [.int gc, .ref h7, .ref h8])), (h7, .inl (dA 0, 10, .inl gp)), (h8, .inl (dA 0, 10, .inl gr)), (h9, .inr (0, [.int bc, .ref h10, .ref h11, .ref h12, .ref h13])), (h10, .inl (dA 0, 12, .inl bg)), (h11, .inl (dA 0, 12, .inl bs)), (h12, .inl (dA 0, 12, .inl bt)), (h13, .inl (dA 0, 12, .inl be)), (h17, .inr (3, [.int fc, .ref h18, .ref h19, .ref h20])), (h18, .inl (dA 0, 16, .inl fg)), (h19, .inl (dA 0, 16, .inl fs)), (h20, .inl (dA 0, 16, .inl fm)), (h43, .inr (1, [.ref h44, .ref h45])), (h44, .inl (dA 0, 12, .inl ko)), (h45, .inl (dA 0, 12, .inl kl))]) (sz := sz) (own := RX11) (Qc := poMi D rr [(h0, .inr (9, [.ref h1, .ref h21, .int xi, .ref h41, .ref h43, .ref h46, .ref h49, .int xe, .int xf])), (h1, .inr (6, [.int on, .int ot, .int op, .int os, .ref h2, .ref h6, .ref h9, .ref h14, .ref h17])), (h6, .inr (4, [.int gc, .ref h7, .ref h8])), (h7, .inl (dA 0, 10, .inl gp)), (h8, .inl (dA 0, 10, .inl gr)), (h9, .inr (0, [.int bc, .ref h10, .ref h11, .ref h12, .ref h13])), (h10, .inl (dA 0, 12, .inl bg)), (h11, .inl (dA 0, 12, .inl bs)), (h12, .inl (dA 0, 12, .inl bt)), (h13, .inl (dA 0, 12, .inl be)), (h17, .inr (3, [.int fc, .ref h18, .ref h19, .ref h20])), (h18, .inl (dA 0, 16, .inl fg)), (h19, .inl (dA 0, 16, .inl fs)), (h20, .inl (dA 0, 16, .inl fm)), (h43, .inr (1, [.ref h44, .ref h45])), (h44, .inl (dA 0, 12, .inl q_ko)), (h45, .inl (dA 0, 12, .inl q_kl))]) (by decide) rfl (Nat.le_of_ble_eq_true rfl) ?_
  intro p e s m below meth c A hx hb hr ha hown hml hlocks hin hP hK hD hX hS hA ls hl
  have hC := hX.1
  have hl : lv_has ls 2 [(0, .ref h0)] := hl
  rw [f_X11_isConsistent] at hf
  refine lv_aload_n hx hb dX11_isConsistent_0 rfl (lv_at hl 0 rfl) ?_
  refine gt_f (C := RX11) (T := TX11) (N := 9) hx hb ha in_X11 hown hK hP 0 rfl rfl 0 (by decide) m_370 rfl dX11_isConsistent_1 ?_
  refine gt_f (C := RX8) (T := TX8) (N := 9) hx hb ha in_X8 hown hK hP 1 rfl rfl 5 (by decide) m_255 rfl dX11_isConsistent_4 ?_
  obtain ⟨r_1, hc1, hf⟩ := sf_c1e hf
  refine k_Pi (run_PV (As := []) (rest := []) ⟨hx, hb, hml, hown, ha⟩ (c_X6_allCoins l D dA h6 h7 h8   gc gp gr  _ hc1) (gi_V m_514 m_515 m_516 m_74 m_517) yd_X6_allCoins ⟨Nat.le_of_ble_eq_true rfl, Nat.le_of_ble_eq_true rfl⟩ ⟨rfl, rfl⟩ hK hP [2, 3, 4] rfl 2 4 rfl rfl rfl rfl hl.1 rfl (Nat.le_of_ble_eq_true rfl) dX11_isConsistent_7 ⟨Nat.le_of_ble_eq_true rfl, Nat.le_of_ble_eq_true rfl⟩) hP hS (fun H locs hP hS => ?_)
  refine lv_aload_n hx hb dX11_isConsistent_10 rfl (lv_at hl 0 rfl) ?_
  refine gt_f (C := RX11) (T := TX11) (N := 9) hx hb ha in_X11 hown hK hP 0 rfl rfl 0 (by decide) m_370 rfl dX11_isConsistent_11 ?_
  refine gt_f (C := RX8) (T := TX8) (N := 9) hx hb ha in_X8 hown hK hP 1 rfl rfl 1 (by decide) m_247 rfl dX11_isConsistent_14 ?_
  refine lv_iadd hx hb dX11_isConsistent_17 ?_
  obtain ⟨x_2, ex_2, hf⟩ := sf_ne hf
  refine tp_i ex_2 ?_
  refine lv_istore_n (lv' := [(1, .int x_2), (0, .ref h0)]) hx hb dX11_isConsistent_18 rfl hl (by decide) rfl (fun ls hl => ?_)
  refine lv_iload_n hx hb dX11_isConsistent_19 rfl (lv_at hl 0 rfl) ?_
  refine lv_bipush (v := 50) hx hb dX11_isConsistent_20 (by decide) ?_
  refine lv_aload_n hx hb dX11_isConsistent_22 rfl (lv_at hl 1 rfl) ?_
  refine gt_f (C := RX11) (T := TX11) (N := 9) hx hb ha in_X11 hown hK hP 0 rfl rfl 0 (by decide) m_370 rfl dX11_isConsistent_23 ?_
  refine gt_f (C := RX8) (T := TX8) (N := 9) hx hb ha in_X8 hown hK hP 1 rfl rfl 5 (by decide) m_255 rfl dX11_isConsistent_26 ?_
  refine gt_f (C := RX6) (T := TX6) (N := 3) hx hb ha in_X6 hown hK hP 2 rfl rfl 0 (by decide) m_158 rfl dX11_isConsistent_29 ?_
  refine lv_imul hx hb dX11_isConsistent_32 ?_
  refine lv_icmp_ne (tgt := 73) hx hb dX11_isConsistent_33 (by decide) (fun hc => ?_) (fun hc => ?_)
  · have hf := sf_bn hf hc
    refine lv_iconst (v := 0) hx hb dX11_isConsistent_73 (by decide) ?_
    cases hf
    exact rt_Mz hx hb hr hlocks rfl (hP.sub [0, 1, 2, 3, 4, 5, 6, 7, 8, 9, 10, 11, 12, 13, 14, 15, 16] rfl) (hD.sub [0, 1, 2, 3, 4, 5, 6, 7, 8, 9, 10, 11, 12, 13, 14, 15, 16] (by decide) rfl) hS dX11_isConsistent_74
  · have hf := sf_bp hf hc
    refine lv_aload_n hx hb dX11_isConsistent_36 rfl (lv_at hl 1 rfl) ?_
    obtain ⟨r_3, hc3, hf⟩ := sf_c1e hf
    refine k_Pi (run_YV (As := []) (rest := []) ⟨hx, hb, hml, hown, ha⟩ (c_X11_mostWatched l D dA cA h0 h1 h2 h6 h9 h10 h11 h12 h13 h14 h17 h21 h41 h43 h46 h49   on ot op os bc bg bs bt be xi xe xf  _ hc3) (gi_V m_518 m_415 m_416 m_71 m_417) yd_X11_mostWatched ⟨Nat.le_of_ble_eq_true rfl, Nat.le_of_ble_eq_true rfl⟩ ⟨rfl, rfl⟩ hK hX hS hP [0, 1, 5, 6, 7, 8, 9] rfl (va_recv hK hP (q0 := 0) rfl rfl) rfl hl.1 rfl (Nat.le_of_ble_eq_true rfl) dX11_isConsistent_37 ⟨Nat.le_of_ble_eq_true rfl, Nat.le_of_ble_eq_true rfl⟩) hP hS (fun H locs hP hS => ?_)
    refine lv_aload_n hx hb dX11_isConsistent_40 rfl (lv_at hl 1 rfl) ?_
    obtain ⟨r_4, a_5, a_6, hc6, hf⟩ := sf_c3e hf
    refine k_Mi (wr := [(h6, .inr (4, [.int gc, .ref h7, .ref h8])), (h7, .inl (dA 0, 10, .inl gp)), (h8, .inl (dA 0, 10, .inl gr)), (h17, .inr (3, [.int fc, .ref h18, .ref h19, .ref h20])), (h18, .inl (dA 0, 16, .inl fg)), (h19, .inl (dA 0, 16, .inl fs)), (h20, .inl (dA 0, 16, .inl fm))]) (run_XV (As := []) (rest := [.int r_3]) ⟨hx, hb, hml, hown, ha⟩ (c_X11_mostWatchedByTable l D dA cA h0 h1 h2 h6 h9 h10 h11 h12 h13 h14 h17 h21 h41 h43 h44 h45 h46 h49  _ on ot op os bc bg bs bt be xi ko kl xe xf  _ _ _ hc6) (gi_V m_519 m_427 m_428 m_71 m_429) yd_X11_mostWatchedByTable ⟨Nat.le_of_ble_eq_true rfl, Nat.le_of_ble_eq_true rfl⟩ ⟨rfl, rfl⟩ hK hX hS hA hP hD [0, 1, 5, 6, 7, 8, 9, 14, 15, 16] (by decide) rfl (va_recv hK hP (q0 := 0) rfl rfl) rfl hl.1 rfl (Nat.le_of_ble_eq_true rfl) dX11_isConsistent_41 ⟨Nat.le_of_ble_eq_true rfl, Nat.le_of_ble_eq_true rfl⟩) hP hD hS hA [0, 1, 5, 6, 7, 8, 9, 14, 15, 16] [2, 3, 4, 10, 11, 12, 13] rfl rfl (by decide) (by decide) (fun H locs hP hD hS => ?_)
    refine lv_icmp_ne (tgt := 73) hx hb dX11_isConsistent_44 (by decide) (fun hc => ?_) (fun hc => ?_)
    · have hf := sf_bn hf hc
      refine lv_iconst (v := 0) hx hb dX11_isConsistent_73 (by decide) ?_
      cases hf
      exact rt_Mz hx hb hr hlocks rfl (hP.sub [7, 8, 0, 1, 2, 9, 10, 11, 12, 13, 3, 4, 5, 6, 14, 15, 16] rfl) (hD.sub [7, 8, 0, 1, 2, 9, 10, 11, 12, 13, 3, 4, 5, 6, 14, 15, 16] (by decide) rfl) hS dX11_isConsistent_74
    · have hf := sf_bp hf hc
      refine lv_aload_n hx hb dX11_isConsistent_47 rfl (lv_at hl 1 rfl) ?_
      obtain ⟨r_7, hc7, hf⟩ := sf_c1e hf
      refine k_Pi (run_YV (As := []) (rest := []) ⟨hx, hb, hml, hown, ha⟩ (c_X11_mostAtOnce l D dA cA h0 h1 h2 h6 h9 h10 h11 h12 h13 h14 h17 h21 h41 h43 h46 h49   on ot op os bc bg bs bt be xi xe xf  _ hc7) (gi_V m_520 m_446 m_447 m_71 m_448) yd_X11_mostAtOnce ⟨Nat.le_of_ble_eq_true rfl, Nat.le_of_ble_eq_true rfl⟩ ⟨rfl, rfl⟩ hK hX hS hP [7, 8, 9, 10, 11, 12, 13] rfl (va_recv hK hP (q0 := 7) rfl rfl) rfl hl.1 rfl (Nat.le_of_ble_eq_true rfl) dX11_isConsistent_48 ⟨Nat.le_of_ble_eq_true rfl, Nat.le_of_ble_eq_true rfl⟩) hP hS (fun H locs hP hS => ?_)
      refine lv_aload_n hx hb dX11_isConsistent_51 rfl (lv_at hl 1 rfl) ?_
      obtain ⟨r_8, hc8, hf⟩ := sf_c1e hf
      refine k_Pi (run_YV (As := []) (rest := [.int r_7]) ⟨hx, hb, hml, hown, ha⟩ (c_X11_mostAtOnceBySweep l D dA cA h0 h1 h2 h6 h9 h10 h11 h12 h13 h14 h17 h21 h41 h43 h46 h49   on ot op os bc bg bs bt be xi xe xf  _ hc8) (gi_V m_521 m_459 m_460 m_71 m_461) yd_X11_mostAtOnceBySweep ⟨Nat.le_of_ble_eq_true rfl, Nat.le_of_ble_eq_true rfl⟩ ⟨rfl, rfl⟩ hK hX hS hP [7, 8, 9, 10, 11, 12, 13] rfl (va_recv hK hP (q0 := 7) rfl rfl) rfl hl.1 rfl (Nat.le_of_ble_eq_true rfl) dX11_isConsistent_52 ⟨Nat.le_of_ble_eq_true rfl, Nat.le_of_ble_eq_true rfl⟩) hP hS (fun H locs hP hS => ?_)
      refine lv_icmp_ne (tgt := 73) hx hb dX11_isConsistent_55 (by decide) (fun hc => ?_) (fun hc => ?_)
      · have hf := sf_bn hf hc
        refine lv_iconst (v := 0) hx hb dX11_isConsistent_73 (by decide) ?_
        cases hf
        exact rt_Mz hx hb hr hlocks rfl (hP.sub [7, 8, 0, 1, 2, 9, 10, 11, 12, 13, 3, 4, 5, 6, 14, 15, 16] rfl) (hD.sub [7, 8, 0, 1, 2, 9, 10, 11, 12, 13, 3, 4, 5, 6, 14, 15, 16] (by decide) rfl) hS dX11_isConsistent_74
      · have hf := sf_bp hf hc
        refine lv_aload_n hx hb dX11_isConsistent_58 rfl (lv_at hl 1 rfl) ?_
        obtain ⟨r_9, hc9, hf⟩ := sf_c1e hf
        refine k_Pi (run_YV (As := []) (rest := []) ⟨hx, hb, hml, hown, ha⟩ (c_X11_photoFinishes l D dA cA h0 h1 h2 h6 h9 h14 h17 h18 h19 h20 h21 h41 h43 h46 h49   on ot op os fc fg fs fm xi xe xf  _ hc9) (gi_V m_522 m_483 m_484 m_71 m_485) yd_X11_photoFinishes ⟨Nat.le_of_ble_eq_true rfl, Nat.le_of_ble_eq_true rfl⟩ ⟨rfl, rfl⟩ hK hX hS hP [7, 8, 3, 4, 5, 6] rfl (va_recv hK hP (q0 := 7) rfl rfl) rfl hl.1 rfl (Nat.le_of_ble_eq_true rfl) dX11_isConsistent_59 ⟨Nat.le_of_ble_eq_true rfl, Nat.le_of_ble_eq_true rfl⟩) hP hS (fun H locs hP hS => ?_)
        refine lv_aload_n hx hb dX11_isConsistent_62 rfl (lv_at hl 1 rfl) ?_
        obtain ⟨r_10, hc10, hf⟩ := sf_c1e hf
        refine k_Pi (run_YV (As := []) (rest := [.int r_9]) ⟨hx, hb, hml, hown, ha⟩ (c_X11_photoFinishesByRuns l D dA cA h0 h1 h2 h6 h9 h14 h17 h18 h19 h20 h21 h41 h43 h46 h49   on ot op os fc fg fs fm xi xe xf  _ hc10) (gi_V m_523 m_491 m_492 m_71 m_493) yd_X11_photoFinishesByRuns ⟨Nat.le_of_ble_eq_true rfl, Nat.le_of_ble_eq_true rfl⟩ ⟨rfl, rfl⟩ hK hX hS hP [7, 8, 3, 4, 5, 6] rfl (va_recv hK hP (q0 := 7) rfl rfl) rfl hl.1 rfl (Nat.le_of_ble_eq_true rfl) dX11_isConsistent_63 ⟨Nat.le_of_ble_eq_true rfl, Nat.le_of_ble_eq_true rfl⟩) hP hS (fun H locs hP hS => ?_)
        refine lv_icmp_ne (tgt := 73) hx hb dX11_isConsistent_66 (by decide) (fun hc => ?_) (fun hc => ?_)
        · have hf := sf_bn hf hc
          refine lv_iconst (v := 0) hx hb dX11_isConsistent_73 (by decide) ?_
          cases hf
          exact rt_Mz hx hb hr hlocks rfl (hP.sub [7, 8, 0, 1, 2, 9, 10, 11, 12, 13, 3, 4, 5, 6, 14, 15, 16] rfl) (hD.sub [7, 8, 0, 1, 2, 9, 10, 11, 12, 13, 3, 4, 5, 6, 14, 15, 16] (by decide) rfl) hS dX11_isConsistent_74
        · have hf := sf_bp hf hc
          refine lv_iconst (v := 1) hx hb dX11_isConsistent_69 (by decide) ?_
          refine lv_goto (tgt := 74) hx hb dX11_isConsistent_70 (by decide) ?_
          cases hf
          exact rt_Mz hx hb hr hlocks rfl (hP.sub [7, 8, 0, 1, 2, 9, 10, 11, 12, 13, 3, 4, 5, 6, 14, 15, 16] rfl) (hD.sub [7, 8, 0, 1, 2, 9, 10, 11, 12, 13, 3, 4, 5, 6, 14, 15, 16] (by decide) rfl) hS dX11_isConsistent_74

def f_X11_feed (ts : Nat → Int32) (tl : Int32) (p0 : Int32) : Option (Int32 × (Nat → Int32) × Int32) :=
  sf_b (tl < (60 : Int32)) (sf_c2 (f_X4_append ts tl p0) (fun a_1 x_2 => some (x_2, a_1, x_2))) (none)
theorem yd_X11_feed : yX11_feed.cls = RX11 ∧ yX11_feed.cls ≠ "java/lang/invoke/MethodHandle" ∧ yX11_feed.cls ≠ "java/lang/invoke/VarHandle" ∧ (parseMethodDescriptor yX11_feed.desc).map (fun d => d.parameters.length) = some 1 := ⟨rfl, by decide, by decide, by decide +kernel⟩
set_option maxRecDepth 100000 in
set_option maxHeartbeats 4000000 in
theorem c_X11_feed (l : Launch) (D : va_G) (dA : Nat → ClassId) (cA : Nat → Nat) (h0 h1 h21 h41 h43 h46 h47 h48 h49 : Nat) (sz : Nat) (xi : Int32) (ts : Nat → Int32) (tl : Int32) (tp : Int32) (tn : Nat → Int32) (xe : Int32) (xf : Int32) (p0 : Int32) (rr : Int32) (q_ts : Nat → Int32) (q_tl : Int32) (hf : f_X11_feed ts tl p0 = some (rr, q_ts, q_tl)) : Met l yX11_feed (wo (.code yX11_feed cX11_feed 2 (some .int))) ({ frames := 1, cells := 0, slots := 0, locals := 21 } : Room) (preX D dA cA [.ref h0, .int p0] sz [(h0, .inr (9, [.ref h1, .ref h21, .int xi, .ref h41, .ref h43, .ref h46, .ref h49, .int xe, .int xf])), (h46, .inr (2, [.ref h47, .int tl, .int tp, .ref h48])), (h47, .inl (dA 1, 60, .inl ts)), (h48, .inl (dA 0, 3, .inl tn))]) (poMi D rr [(h0, .inr (9, [.ref h1, .ref h21, .int xi, .ref h41, .ref h43, .ref h46, .ref h49, .int xe, .int xf])), (h46, .inr (2, [.ref h47, .int q_tl, .int tp, .ref h48])), (h47, .inl (dA 1, 60, .inl q_ts)), (h48, .inl (dA 0, 3, .inl tn))] (va_A [(h0, .inr (9, [.ref h1, .ref h21, .int xi, .ref h41, .ref h43, .ref h46, .ref h49, .int xe, .int xf])), (h46, .inr (2, [.ref h47, .int tl, .int tp, .ref h48])), (h47, .inl (dA 1, 60, .inl ts)), (h48, .inl (dA 0, 3, .inl tn))] sz)) 0 0 (va_A [(h0, .inr (9, [.ref h1, .ref h21, .int xi, .ref h41, .ref h43, .ref h46, .ref h49, .int xe, .int xf])), (h46, .inr (2, [.ref h47, .int tl, .int tp, .ref h48])), (h47, .inl (dA 1, 60, .inl ts)), (h48, .inl (dA 0, 3, .inl tn))] sz) := by
  refine of_X (y := yX11_feed) (cc := cX11_feed) (maxL := 2) (ret := (some .int)) (av := [.ref h0, .int p0]) (ws := [(h0, .inr (9, [.ref h1, .ref h21, .int xi, .ref h41, .ref h43, .ref h46, .ref h49, .int xe, .int xf])), (h46, .inr (2, [.ref h47, .int tl, .int tp, .ref h48])), (h47, .inl (dA 1, 60, .inl ts)), (h48, .inl (dA 0, 3, .inl tn))]) (sz := sz) (own := RX11) (Qc := poMi D rr [(h0, .inr (9, [.ref h1, .ref h21, .int xi, .ref h41, .ref h43, .ref h46, .ref h49, .int xe, .int xf])), (h46, .inr (2, [.ref h47, .int q_tl, .int tp, .ref h48])), (h47, .inl (dA 1, 60, .inl q_ts)), (h48, .inl (dA 0, 3, .inl tn))]) (by decide) rfl (Nat.le_of_ble_eq_true rfl) ?_
  intro p e s m below meth c A hx hb hr ha hown hml hlocks hin hP hK hD hX hS hA ls hl
  have hC := hX.1
  have hl : lv_has ls 2 [(0, .ref h0), (1, .int p0)] := hl
  rw [f_X11_feed] at hf
  refine lv_aload_n hx hb dX11_feed_0 rfl (lv_at hl 0 rfl) ?_
  refine gt_f (C := RX11) (T := TX11) (N := 9) hx hb ha in_X11 hown hK hP 0 rfl rfl 5 (by decide) m_375 rfl dX11_feed_1 ?_
  refine gt_f (C := RX4) (T := TX4) (N := 4) hx hb ha in_X4 hown hK hP 1 rfl rfl 1 (by decide) m_322 rfl dX11_feed_4 ?_
  refine lv_bipush (v := 60) hx hb dX11_feed_7 (by decide) ?_
  refine lv_icmp_lt (tgt := 23) hx hb dX11_feed_9 (by decide) (fun hc => ?_) (fun hc => ?_)
  · have hf := sf_bp hf hc
    refine lv_aload_n hx hb dX11_feed_23 rfl (lv_at hl 0 rfl) ?_
    refine gt_f (C := RX11) (T := TX11) (N := 9) hx hb ha in_X11 hown hK hP 0 rfl rfl 5 (by decide) m_375 rfl dX11_feed_24 ?_
    refine lv_iload_n hx hb dX11_feed_27 rfl (lv_at hl 1 rfl) ?_
    obtain ⟨a_1, x_2, hc2, hf⟩ := sf_c2e hf
    refine k_Mv (wr := [(h0, .inr (9, [.ref h1, .ref h21, .int xi, .ref h41, .ref h43, .ref h46, .ref h49, .int xe, .int xf]))]) (run_MV (As := [.int p0]) (rest := []) ⟨hx, hb, hml, hown, ha⟩ (c_X4_append l D dA h46 h47 h48  _ ts tl tp tn p0 _ _ hc2) (gi_V m_1203 m_1204 m_1205 m_80 m_1206) yd_X4_append ⟨Nat.le_of_ble_eq_true rfl, Nat.le_of_ble_eq_true rfl⟩ ⟨rfl, rfl⟩ hK hP hD [1, 2, 3] (by decide) rfl 1 2 rfl rfl rfl rfl hl.1 rfl (Nat.le_of_ble_eq_true rfl) dX11_feed_28 ⟨Nat.le_of_ble_eq_true rfl, Nat.le_of_ble_eq_true rfl⟩) hP hD hS hA [1, 2, 3] [0] rfl rfl (by decide) (by decide) (fun H locs hP hD hS => ?_)
    refine lv_aload_n hx hb dX11_feed_31 rfl (lv_at hl 0 rfl) ?_
    refine gt_f (C := RX11) (T := TX11) (N := 9) hx hb ha in_X11 hown hK hP 0 rfl rfl 5 (by decide) m_375 rfl dX11_feed_32 ?_
    refine gt_f (C := RX4) (T := TX4) (N := 4) hx hb ha in_X4 hown hK hP 1 rfl rfl 1 (by decide) m_322 rfl dX11_feed_35 ?_
    cases hf
    exact rt_Mi hx hb hr hlocks (hP.sub [0, 1, 2, 3] rfl) (hD.sub [0, 1, 2, 3] (by decide) rfl) hS dX11_feed_38
  · have hf := sf_bn hf hc
    cases hf

def f_TX11_feed (ts : Nat → Int32) (tl : Int32) (p0 : Int32) : Option (Nat × (Nat → Int32) × Int32) :=
  sf_b (tl < (60 : Int32)) (sf_c2 (f_X4_append ts tl p0) (fun a_1 x_2 => none)) (some (2, ts, tl))
theorem yd_TX11_feed : yX11_feed.cls = RX11 ∧ yX11_feed.cls ≠ "java/lang/invoke/MethodHandle" ∧ yX11_feed.cls ≠ "java/lang/invoke/VarHandle" ∧ (parseMethodDescriptor yX11_feed.desc).map (fun d => d.parameters.length) = some 1 := ⟨rfl, by decide, by decide, by decide +kernel⟩
set_option maxRecDepth 100000 in
set_option maxHeartbeats 4000000 in
theorem c_TX11_feed (l : Launch) (D : va_G) (dA : Nat → ClassId) (cA : Nat → Nat) (hst : l.stackTraces = false) (h0 h1 h21 h41 h43 h46 h47 h48 h49 : Nat) (sz : Nat) (xi : Int32) (ts : Nat → Int32) (tl : Int32) (tp : Int32) (tn : Nat → Int32) (xe : Int32) (xf : Int32) (p0 : Int32) (rx : Nat) (q_ts : Nat → Int32) (q_tl : Int32) (hf : f_TX11_feed ts tl p0 = some (rx, q_ts, q_tl)) : vx_Met l yX11_feed (wo (.code yX11_feed cX11_feed 2 (some .int))) ({ frames := 6, cells := 1, slots := 6, locals := 100 } : Room) (preX D dA cA [.ref h0, .int p0] sz [(h0, .inr (9, [.ref h1, .ref h21, .int xi, .ref h41, .ref h43, .ref h46, .ref h49, .int xe, .int xf])), (h46, .inr (2, [.ref h47, .int tl, .int tp, .ref h48])), (h47, .inl (dA 1, 60, .inl ts)), (h48, .inl (dA 0, 3, .inl tn))]) noQ (xcQ D (exs rx) [(h0, .inr (9, [.ref h1, .ref h21, .int xi, .ref h41, .ref h43, .ref h46, .ref h49, .int xe, .int xf])), (h46, .inr (2, [.ref h47, .int q_tl, .int tp, .ref h48])), (h47, .inl (dA 1, 60, .inl q_ts)), (h48, .inl (dA 0, 3, .inl tn))] (va_A [(h0, .inr (9, [.ref h1, .ref h21, .int xi, .ref h41, .ref h43, .ref h46, .ref h49, .int xe, .int xf])), (h46, .inr (2, [.ref h47, .int tl, .int tp, .ref h48])), (h47, .inl (dA 1, 60, .inl ts)), (h48, .inl (dA 0, 3, .inl tn))] sz)) 1 6 (va_A [(h0, .inr (9, [.ref h1, .ref h21, .int xi, .ref h41, .ref h43, .ref h46, .ref h49, .int xe, .int xf])), (h46, .inr (2, [.ref h47, .int tl, .int tp, .ref h48])), (h47, .inl (dA 1, 60, .inl ts)), (h48, .inl (dA 0, 3, .inl tn))] sz) := by
  refine of_Z (y := yX11_feed) (cc := cX11_feed) (maxL := 2) (ret := (some .int)) (av := [.ref h0, .int p0]) (ws := [(h0, .inr (9, [.ref h1, .ref h21, .int xi, .ref h41, .ref h43, .ref h46, .ref h49, .int xe, .int xf])), (h46, .inr (2, [.ref h47, .int tl, .int tp, .ref h48])), (h47, .inl (dA 1, 60, .inl ts)), (h48, .inl (dA 0, 3, .inl tn))]) (sz := sz) (own := RX11) (XC := fun A => xcQ D (exs rx) [(h0, .inr (9, [.ref h1, .ref h21, .int xi, .ref h41, .ref h43, .ref h46, .ref h49, .int xe, .int xf])), (h46, .inr (2, [.ref h47, .int q_tl, .int tp, .ref h48])), (h47, .inl (dA 1, 60, .inl q_ts)), (h48, .inl (dA 0, 3, .inl tn))] A) (by decide) rfl (Nat.le_of_ble_eq_true rfl) ?_
  intro p e s m below meth c A hx hb hr ha hown hml hlocks hin hno hP hK hD hX hS hA ls hl
  have hC := hX.1
  have hl : lv_has ls 2 [(0, .ref h0), (1, .int p0)] := hl
  rw [f_TX11_feed] at hf
  refine lv_aload_n hx hb dX11_feed_0 rfl (lv_at hl 0 rfl) ?_
  refine gt_f (C := RX11) (T := TX11) (N := 9) hx hb ha in_X11 hown hK hP 0 rfl rfl 5 (by decide) m_375 rfl dX11_feed_1 ?_
  refine gt_f (C := RX4) (T := TX4) (N := 4) hx hb ha in_X4 hown hK hP 1 rfl rfl 1 (by decide) m_322 rfl dX11_feed_4 ?_
  refine lv_bipush (v := 60) hx hb dX11_feed_7 (by decide) ?_
  refine lv_icmp_lt (tgt := 23) hx hb dX11_feed_9 (by decide) (fun hc => ?_) (fun hc => ?_)
  · have hf := sf_bp hf hc
    refine lv_aload_n hx hb dX11_feed_23 rfl (lv_at hl 0 rfl) ?_
    refine gt_f (C := RX11) (T := TX11) (N := 9) hx hb ha in_X11 hown hK hP 0 rfl rfl 5 (by decide) m_375 rfl dX11_feed_24 ?_
    refine lv_iload_n hx hb dX11_feed_27 rfl (lv_at hl 1 rfl) ?_
    obtain ⟨a_1, x_2, hc2, hf⟩ := sf_c2e hf
    refine k_Mv (wr := [(h0, .inr (9, [.ref h1, .ref h21, .int xi, .ref h41, .ref h43, .ref h46, .ref h49, .int xe, .int xf]))]) (run_MV (As := [.int p0]) (rest := []) ⟨hx, hb, hml, hown, ha⟩ (c_X4_append l D dA h46 h47 h48  _ ts tl tp tn p0 _ _ hc2) (gi_V m_1203 m_1204 m_1205 m_80 m_1206) yd_X4_append ⟨Nat.le_of_ble_eq_true rfl, Nat.le_of_ble_eq_true rfl⟩ ⟨rfl, rfl⟩ hK hP hD [1, 2, 3] (by decide) rfl 1 2 rfl rfl rfl rfl hl.1 rfl (Nat.le_of_ble_eq_true rfl) dX11_feed_28 ⟨Nat.le_of_ble_eq_true rfl, Nat.le_of_ble_eq_true rfl⟩) hP hD hS hA [1, 2, 3] [0] rfl rfl (by decide) (by decide) (fun H locs hP hD hS => ?_)
    refine lv_aload_n hx hb dX11_feed_31 rfl (lv_at hl 0 rfl) ?_
    refine gt_f (C := RX11) (T := TX11) (N := 9) hx hb ha in_X11 hown hK hP 0 rfl rfl 5 (by decide) m_375 rfl dX11_feed_32 ?_
    refine gt_f (C := RX4) (T := TX4) (N := 4) hx hb ha in_X4 hown hK hP 1 rfl rfl 1 (by decide) m_322 rfl dX11_feed_35 ?_
    cases hf
  · have hf := sf_bn hf hc
    cases hf
    exact th_SW (E := exs 2) (text := "the input buffer is full") (sa := cA 48) hx hb hst hown ha hX hS (hP.sub [0, 1, 2, 3] rfl) (hD.sub [0, 1, 2, 3] (by decide) rfl) hlocks hno (hl.1.trans hml.symm) m_680 m_92 (hC.2.2.1 (RX11, 287, "the input buffer is full", 48) (List.mem_of_getElem? (i := 24) rfl)) exg_289 exb_289 exo_289 exf_289 dX11_feed_12 dX11_feed_15 dX11_feed_16 dX11_feed_19 dX11_feed_22 ⟨by decide, by decide, by decide, by decide⟩ ⟨by decide, by decide⟩

def f_X11_perform (on : Int32) (ot : Int32) (op : Int32) (os : Int32) (sc : Int32) (sd : Nat → Int32) (sp : Nat → Int32) (sw : Nat → Int32) (gc : Int32) (gp : Nat → Int32) (gr : Nat → Int32) (bc : Int32) (bg : Nat → Int32) (bs : Nat → Int32) (bt : Nat → Int32) (be : Nat → Int32) (ql : Nat → Int32) (qg : Nat → Int32) (fc : Int32) (fg : Nat → Int32) (fs : Nat → Int32) (fm : Nat → Int32) (tn : Nat → Int32) (i1 : Nat) : Option (Int32 × Int32 × Int32 × Int32 × Int32 × Int32 × (Nat → Int32) × (Nat → Int32) × (Nat → Int32) × Int32 × (Nat → Int32) × (Nat → Int32) × Int32 × (Nat → Int32) × (Nat → Int32) × (Nat → Int32) × (Nat → Int32) × (Nat → Int32) × (Nat → Int32) × Int32 × (Nat → Int32) × (Nat → Int32) × (Nat → Int32)) :=
  sf_c1 (f_Jx29ce0_ordinal_8abf5 i1) (fun r_1 => sf_g (sf_in r_1 7 = true) (sf_b ((swm r_1.toNatClampNeg) = (1 : Int32)) (sf_g (sf_in (0 : Int32) 3 = true) (sf_g (sf_in (1 : Int32) 3 = true) (sf_c5 (f_X8_tryBuild sc sd sp sw (tn (0 : Int32).toNatClampNeg) (tn (1 : Int32).toNatClampNeg)) (fun r_3 x_4 a_5 a_6 a_7 => some (r_3, on, ot, op, os, x_4, a_5, a_6, a_7, gc, gp, gr, bc, bg, bs, bt, be, ql, qg, fc, fg, fs, fm))))) (sf_b ((swm r_1.toNatClampNeg) = (2 : Int32)) (sf_c4 (f_X8_tryGuest gc gp gr) (fun r_8 x_9 a_10 a_11 => some (r_8, on, ot, op, os, sc, sd, sp, sw, x_9, a_10, a_11, bc, bg, bs, bt, be, ql, qg, fc, fg, fs, fm))) (sf_b ((swm r_1.toNatClampNeg) = (3 : Int32)) (sf_g (sf_in (0 : Int32) 3 = true) (sf_g (sf_in (1 : Int32) 3 = true) (sf_g (sf_in (2 : Int32) 3 = true) (sf_c8 (f_X8_tryBook on ot sc sd sp gc gp bc bg bs bt be (tn (0 : Int32).toNatClampNeg) (tn (1 : Int32).toNatClampNeg) (tn (2 : Int32).toNatClampNeg)) (fun r_12 x_13 a_14 x_15 a_16 a_17 a_18 a_19 => some (r_12, on, x_13, op, os, sc, sd, sp, sw, gc, a_14, gr, x_15, a_16, a_17, a_18, a_19, ql, qg, fc, fg, fs, fm)))))) (sf_b ((swm r_1.toNatClampNeg) = (4 : Int32)) (sf_g (sf_in (0 : Int32) 3 = true) (sf_c9 (f_X8_tryCancel on ot op sp gp bc bg bs bt be (tn (0 : Int32).toNatClampNeg)) (fun r_20 x_21 x_22 a_23 x_24 a_25 a_26 a_27 a_28 => some (r_20, on, x_21, x_22, os, sc, sd, sp, sw, gc, a_23, gr, x_24, a_25, a_26, a_27, a_28, ql, qg, fc, fg, fs, fm)))) (sf_b ((swm r_1.toNatClampNeg) = (5 : Int32)) (sf_g (sf_in (0 : Int32) 3 = true) (sf_g (sf_in (1 : Int32) 3 = true) (sf_c3 (f_X8_tryQueue sc gc ql qg (tn (0 : Int32).toNatClampNeg) (tn (1 : Int32).toNatClampNeg)) (fun r_29 a_30 a_31 => some (r_29, on, ot, op, os, sc, sd, sp, sw, gc, gp, gr, bc, bg, bs, bt, be, a_30, a_31, fc, fg, fs, fm))))) (sf_b ((swm r_1.toNatClampNeg) = (6 : Int32)) (sf_g (sf_in (0 : Int32) 3 = true) (sf_c3 (f_X8_tryLeave gc ql qg (tn (0 : Int32).toNatClampNeg)) (fun r_32 a_33 a_34 => some (r_32, on, ot, op, os, sc, sd, sp, sw, gc, gp, gr, bc, bg, bs, bt, be, a_33, a_34, fc, fg, fs, fm)))) (sf_g (sf_in (0 : Int32) 3 = true) (sf_c19 (f_X8_tryWait on ot op os sc sd sp sw gp gr bc bg bs bt be ql qg fc fg fs fm (tn (0 : Int32).toNatClampNeg)) (fun r_35 x_36 x_37 x_38 x_39 a_40 a_41 a_42 x_43 a_44 a_45 a_46 a_47 a_48 a_49 x_50 a_51 a_52 a_53 => some (r_35, x_36, x_37, x_38, x_39, sc, sd, sp, a_40, gc, a_41, a_42, x_43, a_44, a_45, a_46, a_47, a_48, a_49, x_50, a_51, a_52, a_53)))))))))))
theorem yd_X11_perform : yX11_perform.cls = RX11 ∧ yX11_perform.cls ≠ "java/lang/invoke/MethodHandle" ∧ yX11_perform.cls ≠ "java/lang/invoke/VarHandle" ∧ (parseMethodDescriptor yX11_perform.desc).map (fun d => d.parameters.length) = some 1 := ⟨rfl, by decide, by decide, by decide +kernel⟩
set_option maxRecDepth 100000 in
set_option maxHeartbeats 4000000 in
theorem c_X11_perform (l : Launch) (D : va_G) (dA : Nat → ClassId) (cA : Nat → Nat) (h0 h1 h2 h3 h4 h5 h6 h7 h8 h9 h10 h11 h12 h13 h14 h15 h16 h17 h18 h19 h20 h21 h41 h43 h46 h47 h48 h49 : Nat) (sz : Nat) (on : Int32) (ot : Int32) (op : Int32) (os : Int32) (sc : Int32) (sd : Nat → Int32) (sp : Nat → Int32) (sw : Nat → Int32) (gc : Int32) (gp : Nat → Int32) (gr : Nat → Int32) (bc : Int32) (bg : Nat → Int32) (bs : Nat → Int32) (bt : Nat → Int32) (be : Nat → Int32) (ql : Nat → Int32) (qg : Nat → Int32) (fc : Int32) (fg : Nat → Int32) (fs : Nat → Int32) (fm : Nat → Int32) (xi : Int32) (tl : Int32) (tp : Int32) (tn : Nat → Int32) (xe : Int32) (xf : Int32) (i1 : Nat) (hi1 : i1 < 7) (rr : Int32) (q_on : Int32) (q_ot : Int32) (q_op : Int32) (q_os : Int32) (q_sc : Int32) (q_sd : Nat → Int32) (q_sp : Nat → Int32) (q_sw : Nat → Int32) (q_gc : Int32) (q_gp : Nat → Int32) (q_gr : Nat → Int32) (q_bc : Int32) (q_bg : Nat → Int32) (q_bs : Nat → Int32) (q_bt : Nat → Int32) (q_be : Nat → Int32) (q_ql : Nat → Int32) (q_qg : Nat → Int32) (q_fc : Int32) (q_fg : Nat → Int32) (q_fs : Nat → Int32) (q_fm : Nat → Int32) (hf : f_X11_perform on ot op os sc sd sp sw gc gp gr bc bg bs bt be ql qg fc fg fs fm tn i1 = some (rr, q_on, q_ot, q_op, q_os, q_sc, q_sd, q_sp, q_sw, q_gc, q_gp, q_gr, q_bc, q_bg, q_bs, q_bt, q_be, q_ql, q_qg, q_fc, q_fg, q_fs, q_fm)) : Met l yX11_perform (wo (.code yX11_perform cX11_perform 3 (some .int))) ({ frames := 5, cells := 0, slots := 0, locals := 116 } : Room) (preX D dA cA [.ref h0, .ref (cA (16 + i1))] sz [(h0, .inr (9, [.ref h1, .ref h21, .int xi, .ref h41, .ref h43, .ref h46, .ref h49, .int xe, .int xf])), (h1, .inr (6, [.int on, .int ot, .int op, .int os, .ref h2, .ref h6, .ref h9, .ref h14, .ref h17])), (h2, .inr (8, [.int sc, .ref h3, .ref h4, .ref h5])), (h3, .inl (dA 0, 4, .inl sd)), (h4, .inl (dA 0, 4, .inl sp)), (h5, .inl (dA 0, 4, .inl sw)), (h6, .inr (4, [.int gc, .ref h7, .ref h8])), (h7, .inl (dA 0, 10, .inl gp)), (h8, .inl (dA 0, 10, .inl gr)), (h9, .inr (0, [.int bc, .ref h10, .ref h11, .ref h12, .ref h13])), (h10, .inl (dA 0, 12, .inl bg)), (h11, .inl (dA 0, 12, .inl bs)), (h12, .inl (dA 0, 12, .inl bt)), (h13, .inl (dA 0, 12, .inl be)), (h14, .inr (7, [.ref h15, .ref h16])), (h15, .inl (dA 0, 4, .inl ql)), (h16, .inl (dA 0, 20, .inl qg)), (h17, .inr (3, [.int fc, .ref h18, .ref h19, .ref h20])), (h18, .inl (dA 0, 16, .inl fg)), (h19, .inl (dA 0, 16, .inl fs)), (h20, .inl (dA 0, 16, .inl fm)), (h46, .inr (2, [.ref h47, .int tl, .int tp, .ref h48])), (h48, .inl (dA 0, 3, .inl tn))]) (poMi D rr [(h0, .inr (9, [.ref h1, .ref h21, .int xi, .ref h41, .ref h43, .ref h46, .ref h49, .int xe, .int xf])), (h1, .inr (6, [.int q_on, .int q_ot, .int q_op, .int q_os, .ref h2, .ref h6, .ref h9, .ref h14, .ref h17])), (h2, .inr (8, [.int q_sc, .ref h3, .ref h4, .ref h5])), (h3, .inl (dA 0, 4, .inl q_sd)), (h4, .inl (dA 0, 4, .inl q_sp)), (h5, .inl (dA 0, 4, .inl q_sw)), (h6, .inr (4, [.int q_gc, .ref h7, .ref h8])), (h7, .inl (dA 0, 10, .inl q_gp)), (h8, .inl (dA 0, 10, .inl q_gr)), (h9, .inr (0, [.int q_bc, .ref h10, .ref h11, .ref h12, .ref h13])), (h10, .inl (dA 0, 12, .inl q_bg)), (h11, .inl (dA 0, 12, .inl q_bs)), (h12, .inl (dA 0, 12, .inl q_bt)), (h13, .inl (dA 0, 12, .inl q_be)), (h14, .inr (7, [.ref h15, .ref h16])), (h15, .inl (dA 0, 4, .inl q_ql)), (h16, .inl (dA 0, 20, .inl q_qg)), (h17, .inr (3, [.int q_fc, .ref h18, .ref h19, .ref h20])), (h18, .inl (dA 0, 16, .inl q_fg)), (h19, .inl (dA 0, 16, .inl q_fs)), (h20, .inl (dA 0, 16, .inl q_fm)), (h46, .inr (2, [.ref h47, .int tl, .int tp, .ref h48])), (h48, .inl (dA 0, 3, .inl tn))] (va_A [(h0, .inr (9, [.ref h1, .ref h21, .int xi, .ref h41, .ref h43, .ref h46, .ref h49, .int xe, .int xf])), (h1, .inr (6, [.int on, .int ot, .int op, .int os, .ref h2, .ref h6, .ref h9, .ref h14, .ref h17])), (h2, .inr (8, [.int sc, .ref h3, .ref h4, .ref h5])), (h3, .inl (dA 0, 4, .inl sd)), (h4, .inl (dA 0, 4, .inl sp)), (h5, .inl (dA 0, 4, .inl sw)), (h6, .inr (4, [.int gc, .ref h7, .ref h8])), (h7, .inl (dA 0, 10, .inl gp)), (h8, .inl (dA 0, 10, .inl gr)), (h9, .inr (0, [.int bc, .ref h10, .ref h11, .ref h12, .ref h13])), (h10, .inl (dA 0, 12, .inl bg)), (h11, .inl (dA 0, 12, .inl bs)), (h12, .inl (dA 0, 12, .inl bt)), (h13, .inl (dA 0, 12, .inl be)), (h14, .inr (7, [.ref h15, .ref h16])), (h15, .inl (dA 0, 4, .inl ql)), (h16, .inl (dA 0, 20, .inl qg)), (h17, .inr (3, [.int fc, .ref h18, .ref h19, .ref h20])), (h18, .inl (dA 0, 16, .inl fg)), (h19, .inl (dA 0, 16, .inl fs)), (h20, .inl (dA 0, 16, .inl fm)), (h46, .inr (2, [.ref h47, .int tl, .int tp, .ref h48])), (h48, .inl (dA 0, 3, .inl tn))] sz)) 0 0 (va_A [(h0, .inr (9, [.ref h1, .ref h21, .int xi, .ref h41, .ref h43, .ref h46, .ref h49, .int xe, .int xf])), (h1, .inr (6, [.int on, .int ot, .int op, .int os, .ref h2, .ref h6, .ref h9, .ref h14, .ref h17])), (h2, .inr (8, [.int sc, .ref h3, .ref h4, .ref h5])), (h3, .inl (dA 0, 4, .inl sd)), (h4, .inl (dA 0, 4, .inl sp)), (h5, .inl (dA 0, 4, .inl sw)), (h6, .inr (4, [.int gc, .ref h7, .ref h8])), (h7, .inl (dA 0, 10, .inl gp)), (h8, .inl (dA 0, 10, .inl gr)), (h9, .inr (0, [.int bc, .ref h10, .ref h11, .ref h12, .ref h13])), (h10, .inl (dA 0, 12, .inl bg)), (h11, .inl (dA 0, 12, .inl bs)), (h12, .inl (dA 0, 12, .inl bt)), (h13, .inl (dA 0, 12, .inl be)), (h14, .inr (7, [.ref h15, .ref h16])), (h15, .inl (dA 0, 4, .inl ql)), (h16, .inl (dA 0, 20, .inl qg)), (h17, .inr (3, [.int fc, .ref h18, .ref h19, .ref h20])), (h18, .inl (dA 0, 16, .inl fg)), (h19, .inl (dA 0, 16, .inl fs)), (h20, .inl (dA 0, 16, .inl fm)), (h46, .inr (2, [.ref h47, .int tl, .int tp, .ref h48])), (h48, .inl (dA 0, 3, .inl tn))] sz) := by
  refine of_X (y := yX11_perform) (cc := cX11_perform) (maxL := 3) (ret := (some .int)) (av := [.ref h0, .ref (cA (16 + i1))]) (ws := [(h0, .inr (9, [.ref h1, .ref h21, .int xi, .ref h41, .ref h43, .ref h46, .ref h49, .int xe, .int xf])), (h1, .inr (6, [.int on, .int ot, .int op, .int os, .ref h2, .ref h6, .ref h9, .ref h14, .ref h17])), (h2, .inr (8, [.int sc, .ref h3, .ref h4, .ref h5])), (h3, .inl (dA 0, 4, .inl sd)), (h4, .inl (dA 0, 4, .inl sp)), (h5, .inl (dA 0, 4, .inl sw)), (h6, .inr (4, [.int gc, .ref h7, .ref h8])), (h7, .inl (dA 0, 10, .inl gp)), (h8, .inl (dA 0, 10, .inl gr)), (h9, .inr (0, [.int bc, .ref h10, .ref h11, .ref h12, .ref h13])), (h10, .inl (dA 0, 12, .inl bg)), (h11, .inl (dA 0, 12, .inl bs)), (h12, .inl (dA 0, 12, .inl bt)), (h13, .inl (dA 0, 12, .inl be)), (h14, .inr (7, [.ref h15, .ref h16])), (h15, .inl (dA 0, 4, .inl ql)), (h16, .inl (dA 0, 20, .inl qg)), (h17, .inr (3, [.int fc, .ref h18, .ref h19, .ref h20])), (h18, .inl (dA 0, 16, .inl fg)), (h19, .inl (dA 0, 16, .inl fs)), (h20, .inl (dA 0, 16, .inl fm)), (h46, .inr (2, [.ref h47, .int tl, .int tp, .ref h48])), (h48, .inl (dA 0, 3, .inl tn))]) (sz := sz) (own := RX11) (Qc := poMi D rr [(h0, .inr (9, [.ref h1, .ref h21, .int xi, .ref h41, .ref h43, .ref h46, .ref h49, .int xe, .int xf])), (h1, .inr (6, [.int q_on, .int q_ot, .int q_op, .int q_os, .ref h2, .ref h6, .ref h9, .ref h14, .ref h17])), (h2, .inr (8, [.int q_sc, .ref h3, .ref h4, .ref h5])), (h3, .inl (dA 0, 4, .inl q_sd)), (h4, .inl (dA 0, 4, .inl q_sp)), (h5, .inl (dA 0, 4, .inl q_sw)), (h6, .inr (4, [.int q_gc, .ref h7, .ref h8])), (h7, .inl (dA 0, 10, .inl q_gp)), (h8, .inl (dA 0, 10, .inl q_gr)), (h9, .inr (0, [.int q_bc, .ref h10, .ref h11, .ref h12, .ref h13])), (h10, .inl (dA 0, 12, .inl q_bg)), (h11, .inl (dA 0, 12, .inl q_bs)), (h12, .inl (dA 0, 12, .inl q_bt)), (h13, .inl (dA 0, 12, .inl q_be)), (h14, .inr (7, [.ref h15, .ref h16])), (h15, .inl (dA 0, 4, .inl q_ql)), (h16, .inl (dA 0, 20, .inl q_qg)), (h17, .inr (3, [.int q_fc, .ref h18, .ref h19, .ref h20])), (h18, .inl (dA 0, 16, .inl q_fg)), (h19, .inl (dA 0, 16, .inl q_fs)), (h20, .inl (dA 0, 16, .inl q_fm)), (h46, .inr (2, [.ref h47, .int tl, .int tp, .ref h48])), (h48, .inl (dA 0, 3, .inl tn))]) (by decide) rfl (Nat.le_of_ble_eq_true rfl) ?_
  intro p e s m below meth c A hx hb hr ha hown hml hlocks hin hP hK hD hX hS hA ls hl
  have hC := hX.1
  have hl : lv_has ls 3 [(0, .ref h0), (1, .ref (cA (16 + i1)))] := hl
  rw [f_X11_perform] at hf
  refine lv_aload_n hx hb dX11_perform_0 rfl (lv_at hl 1 rfl) ?_
  refine lv_ifnonnull (tgt := 7) hx hb dX11_perform_1 (by decide) ?_
  refine lv_aload_n hx hb dX11_perform_7 rfl (lv_at hl 0 rfl) ?_
  refine gt_f (C := RX11) (T := TX11) (N := 9) hx hb ha in_X11 hown hK hP 0 rfl rfl 5 (by decide) m_375 rfl dX11_perform_8 ?_
  refine gt_f (C := RX4) (T := TX4) (N := 4) hx hb ha in_X4 hown hK hP 21 rfl rfl 3 (by decide) m_326 rfl dX11_perform_11 ?_
  refine lv_astore_n (lv' := [(2, .ref h48), (0, .ref h0), (1, .ref (cA (16 + i1)))]) hx hb dX11_perform_14 rfl hl (by decide) rfl (fun ls hl => ?_)
  refine va_gets hx hb hC.1.2.2.2.2.2.1 hS hown (ha _ m_1316) (fun _ h => h) dX11_perform_15 ?_
  refine lv_aload_n hx hb dX11_perform_18 rfl (lv_at hl 2 rfl) ?_
  obtain ⟨r_1, hc1, hf⟩ := sf_c1e hf
  refine k_Pi (run_QU (As := []) (rest := [.ref (cA 25)]) ⟨hx, hb, hml, hown, ha⟩ (c_Jx29ce0_ordinal_8abf5 l D dA cA    i1 hi1 _ hc1) (gi_U m_1318 m_1319 m_1321 m_1322 m_100 m_1323) yu_ordinal ⟨Nat.le_of_ble_eq_true rfl, Nat.le_of_ble_eq_true rfl⟩ ⟨rfl, rfl⟩ hK hC hS hP [] rfl (va_recvE (E := "SlidePark$Command") (ad := fun i => cA (16 + i)) (i := i1) hC.1.2.1 hi1 hS) rfl hl.1 rfl (Nat.le_of_ble_eq_true rfl) dX11_perform_19 ⟨Nat.le_of_ble_eq_true rfl, Nat.le_of_ble_eq_true rfl⟩) hP hS (fun H locs hP hS => ?_)
  obtain ⟨h_2, hf⟩ := sf_ge hf
  refine va_ti (v := .int (swm r_1.toNatClampNeg)) hx hb hC.1.2.2.2.2.2.2.1 hS (sf_inv h_2) rfl dX11_perform_22 ?_
  by_cases hs23_0 : (swm r_1.toNatClampNeg) = (1 : Int32)
  · have hf := sf_bp hf hs23_0
    refine lv_tableIn (off := 37) (tgt := 60) hx hb dX11_perform_23 (by rw [hs23_0]; decide) (by rw [hs23_0]; decide) (by rw [hs23_0]; rfl) (by decide) ?_
    refine lv_aload_n hx hb dX11_perform_60 rfl (lv_at hl 1 rfl) ?_
    refine gt_f (C := RX11) (T := TX11) (N := 9) hx hb ha in_X11 hown hK hP 0 rfl rfl 0 (by decide) m_370 rfl dX11_perform_61 ?_
    refine lv_aload_n hx hb dX11_perform_64 rfl (lv_at hl 0 rfl) ?_
    refine lv_iconst (v := 0) hx hb dX11_perform_65 (by decide) ?_
    obtain ⟨hi, hf⟩ := sf_ge hf
    refine ia_ld hx hb hK hP 22 rfl hi dX11_perform_66 ?_
    refine lv_aload_n hx hb dX11_perform_67 rfl (lv_at hl 0 rfl) ?_
    refine lv_iconst (v := 1) hx hb dX11_perform_68 (by decide) ?_
    obtain ⟨hi, hf⟩ := sf_ge hf
    refine ia_ld hx hb hK hP 22 rfl hi dX11_perform_69 ?_
    obtain ⟨r_3, x_4, a_5, a_6, a_7, hc7, hf⟩ := sf_c5e hf
    refine k_Mi (wr := [(h0, .inr (9, [.ref h1, .ref h21, .int xi, .ref h41, .ref h43, .ref h46, .ref h49, .int xe, .int xf])), (h46, .inr (2, [.ref h47, .int tl, .int tp, .ref h48])), (h48, .inl (dA 0, 3, .inl tn))]) (run_MV (As := [.int (tn (0 : Int32).toNatClampNeg), .int (tn (1 : Int32).toNatClampNeg)]) (rest := []) ⟨hx, hb, hml, hown, ha⟩ (c_X8_tryBuild l D dA h1 h2 h3 h4 h5 h6 h7 h8 h9 h10 h11 h12 h13 h14 h15 h16 h17 h18 h19 h20  _ on ot op os sc sd sp sw gc gp gr bc bg bs bt be ql qg fc fg fs fm (tn (0 : Int32).toNatClampNeg) (tn (1 : Int32).toNatClampNeg) _ _ _ _ _ hc7) (gi_V m_577 m_578 m_579 m_72 m_580) yd_X8_tryBuild ⟨Nat.le_of_ble_eq_true rfl, Nat.le_of_ble_eq_true rfl⟩ ⟨rfl, rfl⟩ hK hP hD [1, 2, 3, 4, 5, 6, 7, 8, 9, 10, 11, 12, 13, 14, 15, 16, 17, 18, 19, 20] (by decide) rfl 1 6 rfl rfl rfl rfl hl.1 rfl (Nat.le_of_ble_eq_true rfl) dX11_perform_70 ⟨Nat.le_of_ble_eq_true rfl, Nat.le_of_ble_eq_true rfl⟩) hP hD hS hA [1, 2, 3, 4, 5, 6, 7, 8, 9, 10, 11, 12, 13, 14, 15, 16, 17, 18, 19, 20] [0, 21, 22] rfl rfl (by decide) (by decide) (fun H locs hP hD hS => ?_)
    cases hf
    exact rt_Mi hx hb hr hlocks (hP.sub [0, 3, 4, 5, 6, 7, 8, 9, 10, 11, 12, 13, 14, 15, 16, 17, 18, 19, 20, 21, 22, 1, 2] rfl) (hD.sub [0, 3, 4, 5, 6, 7, 8, 9, 10, 11, 12, 13, 14, 15, 16, 17, 18, 19, 20, 21, 22, 1, 2] (by decide) rfl) hS dX11_perform_73
  · have hf := sf_bn hf hs23_0
    by_cases hs23_1 : (swm r_1.toNatClampNeg) = (2 : Int32)
    · have hf := sf_bp hf hs23_1
      refine lv_tableIn (off := 51) (tgt := 74) hx hb dX11_perform_23 (by rw [hs23_1]; decide) (by rw [hs23_1]; decide) (by rw [hs23_1]; rfl) (by decide) ?_
      refine lv_aload_n hx hb dX11_perform_74 rfl (lv_at hl 1 rfl) ?_
      refine gt_f (C := RX11) (T := TX11) (N := 9) hx hb ha in_X11 hown hK hP 0 rfl rfl 0 (by decide) m_370 rfl dX11_perform_75 ?_
      obtain ⟨r_8, x_9, a_10, a_11, hc11, hf⟩ := sf_c4e hf
      refine k_Mi (wr := [(h0, .inr (9, [.ref h1, .ref h21, .int xi, .ref h41, .ref h43, .ref h46, .ref h49, .int xe, .int xf])), (h46, .inr (2, [.ref h47, .int tl, .int tp, .ref h48])), (h48, .inl (dA 0, 3, .inl tn))]) (run_MV (As := []) (rest := []) ⟨hx, hb, hml, hown, ha⟩ (c_X8_tryGuest l D dA h1 h2 h3 h4 h5 h6 h7 h8 h9 h10 h11 h12 h13 h14 h15 h16 h17 h18 h19 h20  _ on ot op os sc sd sp sw gc gp gr bc bg bs bt be ql qg fc fg fs fm  _ _ _ _ hc11) (gi_V m_740 m_741 m_742 m_72 m_743) yd_X8_tryGuest ⟨Nat.le_of_ble_eq_true rfl, Nat.le_of_ble_eq_true rfl⟩ ⟨rfl, rfl⟩ hK hP hD [1, 2, 3, 4, 5, 6, 7, 8, 9, 10, 11, 12, 13, 14, 15, 16, 17, 18, 19, 20] (by decide) rfl 1 6 rfl rfl rfl rfl hl.1 rfl (Nat.le_of_ble_eq_true rfl) dX11_perform_78 ⟨Nat.le_of_ble_eq_true rfl, Nat.le_of_ble_eq_true rfl⟩) hP hD hS hA [1, 2, 3, 4, 5, 6, 7, 8, 9, 10, 11, 12, 13, 14, 15, 16, 17, 18, 19, 20] [0, 21, 22] rfl rfl (by decide) (by decide) (fun H locs hP hD hS => ?_)
      cases hf
      exact rt_Mi hx hb hr hlocks (hP.sub [0, 3, 4, 5, 6, 7, 8, 9, 10, 11, 12, 13, 14, 15, 16, 17, 18, 19, 20, 21, 22, 1, 2] rfl) (hD.sub [0, 3, 4, 5, 6, 7, 8, 9, 10, 11, 12, 13, 14, 15, 16, 17, 18, 19, 20, 21, 22, 1, 2] (by decide) rfl) hS dX11_perform_81
    · have hf := sf_bn hf hs23_1
      by_cases hs23_2 : (swm r_1.toNatClampNeg) = (3 : Int32)
      · have hf := sf_bp hf hs23_2
        refine lv_tableIn (off := 59) (tgt := 82) hx hb dX11_perform_23 (by rw [hs23_2]; decide) (by rw [hs23_2]; decide) (by rw [hs23_2]; rfl) (by decide) ?_
        refine lv_aload_n hx hb dX11_perform_82 rfl (lv_at hl 1 rfl) ?_
        refine gt_f (C := RX11) (T := TX11) (N := 9) hx hb ha in_X11 hown hK hP 0 rfl rfl 0 (by decide) m_370 rfl dX11_perform_83 ?_
        refine lv_aload_n hx hb dX11_perform_86 rfl (lv_at hl 0 rfl) ?_
        refine lv_iconst (v := 0) hx hb dX11_perform_87 (by decide) ?_
        obtain ⟨hi, hf⟩ := sf_ge hf
        refine ia_ld hx hb hK hP 22 rfl hi dX11_perform_88 ?_
        refine lv_aload_n hx hb dX11_perform_89 rfl (lv_at hl 0 rfl) ?_
        refine lv_iconst (v := 1) hx hb dX11_perform_90 (by decide) ?_
        obtain ⟨hi, hf⟩ := sf_ge hf
        refine ia_ld hx hb hK hP 22 rfl hi dX11_perform_91 ?_
        refine lv_aload_n hx hb dX11_perform_92 rfl (lv_at hl 0 rfl) ?_
        refine lv_iconst (v := 2) hx hb dX11_perform_93 (by decide) ?_
        obtain ⟨hi, hf⟩ := sf_ge hf
        refine ia_ld hx hb hK hP 22 rfl hi dX11_perform_94 ?_
        obtain ⟨r_12, x_13, a_14, x_15, a_16, a_17, a_18, a_19, hc19, hf⟩ := sf_c8e hf
        refine k_Mi (wr := [(h0, .inr (9, [.ref h1, .ref h21, .int xi, .ref h41, .ref h43, .ref h46, .ref h49, .int xe, .int xf])), (h46, .inr (2, [.ref h47, .int tl, .int tp, .ref h48])), (h48, .inl (dA 0, 3, .inl tn))]) (run_MV (As := [.int (tn (0 : Int32).toNatClampNeg), .int (tn (1 : Int32).toNatClampNeg), .int (tn (2 : Int32).toNatClampNeg)]) (rest := []) ⟨hx, hb, hml, hown, ha⟩ (c_X8_tryBook l D dA h1 h2 h3 h4 h5 h6 h7 h8 h9 h10 h11 h12 h13 h14 h15 h16 h17 h18 h19 h20  _ on ot op os sc sd sp sw gc gp gr bc bg bs bt be ql qg fc fg fs fm (tn (0 : Int32).toNatClampNeg) (tn (1 : Int32).toNatClampNeg) (tn (2 : Int32).toNatClampNeg) _ _ _ _ _ _ _ _ hc19) (gi_V m_777 m_778 m_779 m_72 m_780) yd_X8_tryBook ⟨Nat.le_of_ble_eq_true rfl, Nat.le_of_ble_eq_true rfl⟩ ⟨rfl, rfl⟩ hK hP hD [1, 2, 3, 4, 5, 6, 7, 8, 9, 10, 11, 12, 13, 14, 15, 16, 17, 18, 19, 20] (by decide) rfl 1 6 rfl rfl rfl rfl hl.1 rfl (Nat.le_of_ble_eq_true rfl) dX11_perform_95 ⟨Nat.le_of_ble_eq_true rfl, Nat.le_of_ble_eq_true rfl⟩) hP hD hS hA [1, 2, 3, 4, 5, 6, 7, 8, 9, 10, 11, 12, 13, 14, 15, 16, 17, 18, 19, 20] [0, 21, 22] rfl rfl (by decide) (by decide) (fun H locs hP hD hS => ?_)
        cases hf
        exact rt_Mi hx hb hr hlocks (hP.sub [0, 3, 4, 5, 6, 7, 8, 9, 10, 11, 12, 13, 14, 15, 16, 17, 18, 19, 20, 21, 22, 1, 2] rfl) (hD.sub [0, 3, 4, 5, 6, 7, 8, 9, 10, 11, 12, 13, 14, 15, 16, 17, 18, 19, 20, 21, 22, 1, 2] (by decide) rfl) hS dX11_perform_98
      · have hf := sf_bn hf hs23_2
        by_cases hs23_3 : (swm r_1.toNatClampNeg) = (4 : Int32)
        · have hf := sf_bp hf hs23_3
          refine lv_tableIn (off := 76) (tgt := 99) hx hb dX11_perform_23 (by rw [hs23_3]; decide) (by rw [hs23_3]; decide) (by rw [hs23_3]; rfl) (by decide) ?_
          refine lv_aload_n hx hb dX11_perform_99 rfl (lv_at hl 1 rfl) ?_
          refine gt_f (C := RX11) (T := TX11) (N := 9) hx hb ha in_X11 hown hK hP 0 rfl rfl 0 (by decide) m_370 rfl dX11_perform_100 ?_
          refine lv_aload_n hx hb dX11_perform_103 rfl (lv_at hl 0 rfl) ?_
          refine lv_iconst (v := 0) hx hb dX11_perform_104 (by decide) ?_
          obtain ⟨hi, hf⟩ := sf_ge hf
          refine ia_ld hx hb hK hP 22 rfl hi dX11_perform_105 ?_
          obtain ⟨r_20, x_21, x_22, a_23, x_24, a_25, a_26, a_27, a_28, hc28, hf⟩ := sf_c9e hf
          refine k_Mi (wr := [(h0, .inr (9, [.ref h1, .ref h21, .int xi, .ref h41, .ref h43, .ref h46, .ref h49, .int xe, .int xf])), (h46, .inr (2, [.ref h47, .int tl, .int tp, .ref h48])), (h48, .inl (dA 0, 3, .inl tn))]) (run_MV (As := [.int (tn (0 : Int32).toNatClampNeg)]) (rest := []) ⟨hx, hb, hml, hown, ha⟩ (c_X8_tryCancel l D dA h1 h2 h3 h4 h5 h6 h7 h8 h9 h10 h11 h12 h13 h14 h15 h16 h17 h18 h19 h20  _ on ot op os sc sd sp sw gc gp gr bc bg bs bt be ql qg fc fg fs fm (tn (0 : Int32).toNatClampNeg) _ _ _ _ _ _ _ _ _ hc28) (gi_V m_824 m_825 m_826 m_72 m_827) yd_X8_tryCancel ⟨Nat.le_of_ble_eq_true rfl, Nat.le_of_ble_eq_true rfl⟩ ⟨rfl, rfl⟩ hK hP hD [1, 2, 3, 4, 5, 6, 7, 8, 9, 10, 11, 12, 13, 14, 15, 16, 17, 18, 19, 20] (by decide) rfl 1 6 rfl rfl rfl rfl hl.1 rfl (Nat.le_of_ble_eq_true rfl) dX11_perform_106 ⟨Nat.le_of_ble_eq_true rfl, Nat.le_of_ble_eq_true rfl⟩) hP hD hS hA [1, 2, 3, 4, 5, 6, 7, 8, 9, 10, 11, 12, 13, 14, 15, 16, 17, 18, 19, 20] [0, 21, 22] rfl rfl (by decide) (by decide) (fun H locs hP hD hS => ?_)
          cases hf
          exact rt_Mi hx hb hr hlocks (hP.sub [0, 3, 4, 5, 6, 7, 8, 9, 10, 11, 12, 13, 14, 15, 16, 17, 18, 19, 20, 21, 22, 1, 2] rfl) (hD.sub [0, 3, 4, 5, 6, 7, 8, 9, 10, 11, 12, 13, 14, 15, 16, 17, 18, 19, 20, 21, 22, 1, 2] (by decide) rfl) hS dX11_perform_109
        · have hf := sf_bn hf hs23_3
          by_cases hs23_4 : (swm r_1.toNatClampNeg) = (5 : Int32)
          · have hf := sf_bp hf hs23_4
            refine lv_tableIn (off := 87) (tgt := 110) hx hb dX11_perform_23 (by rw [hs23_4]; decide) (by rw [hs23_4]; decide) (by rw [hs23_4]; rfl) (by decide) ?_
            refine lv_aload_n hx hb dX11_perform_110 rfl (lv_at hl 1 rfl) ?_
            refine gt_f (C := RX11) (T := TX11) (N := 9) hx hb ha in_X11 hown hK hP 0 rfl rfl 0 (by decide) m_370 rfl dX11_perform_111 ?_
            refine lv_aload_n hx hb dX11_perform_114 rfl (lv_at hl 0 rfl) ?_
            refine lv_iconst (v := 0) hx hb dX11_perform_115 (by decide) ?_
            obtain ⟨hi, hf⟩ := sf_ge hf
            refine ia_ld hx hb hK hP 22 rfl hi dX11_perform_116 ?_
            refine lv_aload_n hx hb dX11_perform_117 rfl (lv_at hl 0 rfl) ?_
            refine lv_iconst (v := 1) hx hb dX11_perform_118 (by decide) ?_
            obtain ⟨hi, hf⟩ := sf_ge hf
            refine ia_ld hx hb hK hP 22 rfl hi dX11_perform_119 ?_
            obtain ⟨r_29, a_30, a_31, hc31, hf⟩ := sf_c3e hf
            refine k_Mi (wr := [(h0, .inr (9, [.ref h1, .ref h21, .int xi, .ref h41, .ref h43, .ref h46, .ref h49, .int xe, .int xf])), (h46, .inr (2, [.ref h47, .int tl, .int tp, .ref h48])), (h48, .inl (dA 0, 3, .inl tn))]) (run_MV (As := [.int (tn (0 : Int32).toNatClampNeg), .int (tn (1 : Int32).toNatClampNeg)]) (rest := []) ⟨hx, hb, hml, hown, ha⟩ (c_X8_tryQueue l D dA h1 h2 h3 h4 h5 h6 h7 h8 h9 h10 h11 h12 h13 h14 h15 h16 h17 h18 h19 h20  _ on ot op os sc sd sp sw gc gp gr bc bg bs bt be ql qg fc fg fs fm (tn (0 : Int32).toNatClampNeg) (tn (1 : Int32).toNatClampNeg) _ _ _ hc31) (gi_V m_847 m_848 m_849 m_72 m_850) yd_X8_tryQueue ⟨Nat.le_of_ble_eq_true rfl, Nat.le_of_ble_eq_true rfl⟩ ⟨rfl, rfl⟩ hK hP hD [1, 2, 3, 4, 5, 6, 7, 8, 9, 10, 11, 12, 13, 14, 15, 16, 17, 18, 19, 20] (by decide) rfl 1 6 rfl rfl rfl rfl hl.1 rfl (Nat.le_of_ble_eq_true rfl) dX11_perform_120 ⟨Nat.le_of_ble_eq_true rfl, Nat.le_of_ble_eq_true rfl⟩) hP hD hS hA [1, 2, 3, 4, 5, 6, 7, 8, 9, 10, 11, 12, 13, 14, 15, 16, 17, 18, 19, 20] [0, 21, 22] rfl rfl (by decide) (by decide) (fun H locs hP hD hS => ?_)
            cases hf
            exact rt_Mi hx hb hr hlocks (hP.sub [0, 3, 4, 5, 6, 7, 8, 9, 10, 11, 12, 13, 14, 15, 16, 17, 18, 19, 20, 21, 22, 1, 2] rfl) (hD.sub [0, 3, 4, 5, 6, 7, 8, 9, 10, 11, 12, 13, 14, 15, 16, 17, 18, 19, 20, 21, 22, 1, 2] (by decide) rfl) hS dX11_perform_123
          · have hf := sf_bn hf hs23_4
            by_cases hs23_5 : (swm r_1.toNatClampNeg) = (6 : Int32)
            · have hf := sf_bp hf hs23_5
              refine lv_tableIn (off := 101) (tgt := 124) hx hb dX11_perform_23 (by rw [hs23_5]; decide) (by rw [hs23_5]; decide) (by rw [hs23_5]; rfl) (by decide) ?_
              refine lv_aload_n hx hb dX11_perform_124 rfl (lv_at hl 1 rfl) ?_
              refine gt_f (C := RX11) (T := TX11) (N := 9) hx hb ha in_X11 hown hK hP 0 rfl rfl 0 (by decide) m_370 rfl dX11_perform_125 ?_
              refine lv_aload_n hx hb dX11_perform_128 rfl (lv_at hl 0 rfl) ?_
              refine lv_iconst (v := 0) hx hb dX11_perform_129 (by decide) ?_
              obtain ⟨hi, hf⟩ := sf_ge hf
              refine ia_ld hx hb hK hP 22 rfl hi dX11_perform_130 ?_
              obtain ⟨r_32, a_33, a_34, hc34, hf⟩ := sf_c3e hf
              refine k_Mi (wr := [(h0, .inr (9, [.ref h1, .ref h21, .int xi, .ref h41, .ref h43, .ref h46, .ref h49, .int xe, .int xf])), (h46, .inr (2, [.ref h47, .int tl, .int tp, .ref h48])), (h48, .inl (dA 0, 3, .inl tn))]) (run_MV (As := [.int (tn (0 : Int32).toNatClampNeg)]) (rest := []) ⟨hx, hb, hml, hown, ha⟩ (c_X8_tryLeave l D dA h1 h2 h3 h4 h5 h6 h7 h8 h9 h10 h11 h12 h13 h14 h15 h16 h17 h18 h19 h20  _ on ot op os sc sd sp sw gc gp gr bc bg bs bt be ql qg fc fg fs fm (tn (0 : Int32).toNatClampNeg) _ _ _ hc34) (gi_V m_875 m_876 m_877 m_72 m_878) yd_X8_tryLeave ⟨Nat.le_of_ble_eq_true rfl, Nat.le_of_ble_eq_true rfl⟩ ⟨rfl, rfl⟩ hK hP hD [1, 2, 3, 4, 5, 6, 7, 8, 9, 10, 11, 12, 13, 14, 15, 16, 17, 18, 19, 20] (by decide) rfl 1 6 rfl rfl rfl rfl hl.1 rfl (Nat.le_of_ble_eq_true rfl) dX11_perform_131 ⟨Nat.le_of_ble_eq_true rfl, Nat.le_of_ble_eq_true rfl⟩) hP hD hS hA [1, 2, 3, 4, 5, 6, 7, 8, 9, 10, 11, 12, 13, 14, 15, 16, 17, 18, 19, 20] [0, 21, 22] rfl rfl (by decide) (by decide) (fun H locs hP hD hS => ?_)
              cases hf
              exact rt_Mi hx hb hr hlocks (hP.sub [0, 3, 4, 5, 6, 7, 8, 9, 10, 11, 12, 13, 14, 15, 16, 17, 18, 19, 20, 21, 22, 1, 2] rfl) (hD.sub [0, 3, 4, 5, 6, 7, 8, 9, 10, 11, 12, 13, 14, 15, 16, 17, 18, 19, 20, 21, 22, 1, 2] (by decide) rfl) hS dX11_perform_134
            · have hf := sf_bn hf hs23_5
              refine lv_tableOut (tgt := 135) hx hb dX11_perform_23 (by have := lv_neT hs23_0 (show ((1 : Int32)).toInt = 1 by decide); have := lv_neT hs23_1 (show ((2 : Int32)).toInt = 2 by decide); have := lv_neT hs23_2 (show ((3 : Int32)).toInt = 3 by decide); have := lv_neT hs23_3 (show ((4 : Int32)).toInt = 4 by decide); have := lv_neT hs23_4 (show ((5 : Int32)).toInt = 5 by decide); have := lv_neT hs23_5 (show ((6 : Int32)).toInt = 6 by decide); omega) (by decide) ?_
              refine lv_aload_n hx hb dX11_perform_135 rfl (lv_at hl 1 rfl) ?_
              refine gt_f (C := RX11) (T := TX11) (N := 9) hx hb ha in_X11 hown hK hP 0 rfl rfl 0 (by decide) m_370 rfl dX11_perform_136 ?_
              refine lv_aload_n hx hb dX11_perform_139 rfl (lv_at hl 0 rfl) ?_
              refine lv_iconst (v := 0) hx hb dX11_perform_140 (by decide) ?_
              obtain ⟨hi, hf⟩ := sf_ge hf
              refine ia_ld hx hb hK hP 22 rfl hi dX11_perform_141 ?_
              obtain ⟨r_35, x_36, x_37, x_38, x_39, a_40, a_41, a_42, x_43, a_44, a_45, a_46, a_47, a_48, a_49, x_50, a_51, a_52, a_53, hc53, hf⟩ := sf_c19e hf
              refine k_Mi (wr := [(h0, .inr (9, [.ref h1, .ref h21, .int xi, .ref h41, .ref h43, .ref h46, .ref h49, .int xe, .int xf])), (h46, .inr (2, [.ref h47, .int tl, .int tp, .ref h48])), (h48, .inl (dA 0, 3, .inl tn))]) (run_MV (As := [.int (tn (0 : Int32).toNatClampNeg)]) (rest := []) ⟨hx, hb, hml, hown, ha⟩ (c_X8_tryWait l D dA h1 h2 h3 h4 h5 h6 h7 h8 h9 h10 h11 h12 h13 h14 h15 h16 h17 h18 h19 h20  _ on ot op os sc sd sp sw gc gp gr bc bg bs bt be ql qg fc fg fs fm (tn (0 : Int32).toNatClampNeg) _ _ _ _ _ _ _ _ _ _ _ _ _ _ _ _ _ _ _ hc53) (gi_V m_890 m_891 m_892 m_72 m_893) yd_X8_tryWait ⟨Nat.le_of_ble_eq_true rfl, Nat.le_of_ble_eq_true rfl⟩ ⟨rfl, rfl⟩ hK hP hD [1, 2, 3, 4, 5, 6, 7, 8, 9, 10, 11, 12, 13, 14, 15, 16, 17, 18, 19, 20] (by decide) rfl 1 6 rfl rfl rfl rfl hl.1 rfl (Nat.le_of_ble_eq_true rfl) dX11_perform_142 ⟨Nat.le_of_ble_eq_true rfl, Nat.le_of_ble_eq_true rfl⟩) hP hD hS hA [1, 2, 3, 4, 5, 6, 7, 8, 9, 10, 11, 12, 13, 14, 15, 16, 17, 18, 19, 20] [0, 21, 22] rfl rfl (by decide) (by decide) (fun H locs hP hD hS => ?_)
              cases hf
              exact rt_Mi hx hb hr hlocks (hP.sub [0, 3, 4, 5, 6, 7, 8, 9, 10, 11, 12, 13, 14, 15, 16, 17, 18, 19, 20, 21, 22, 1, 2] rfl) (hD.sub [0, 3, 4, 5, 6, 7, 8, 9, 10, 11, 12, 13, 14, 15, 16, 17, 18, 19, 20, 21, 22, 1, 2] (by decide) rfl) hS dX11_perform_145

