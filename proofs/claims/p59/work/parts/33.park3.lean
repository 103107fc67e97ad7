def f_TX11_checkBookableMinute (on : Int32) (p0 : Int32) : Option Nat :=
  sf_c1 (f_X8_isBookable on p0) (fun r_1 => sf_b (r_1 = (0 : Int32)) (some 1) (none))
theorem yd_TX11_checkBookableMinute : yX11_checkBookableMinute.cls = RX11 ∧ yX11_checkBookableMinute.cls ≠ "java/lang/invoke/MethodHandle" ∧ yX11_checkBookableMinute.cls ≠ "java/lang/invoke/VarHandle" ∧ (parseMethodDescriptor yX11_checkBookableMinute.desc).map (fun d => d.parameters.length) = some 1 := ⟨rfl, by decide, by decide, by decide +kernel⟩
set_option maxRecDepth 100000 in
set_option maxHeartbeats 4000000 in
theorem c_TX11_checkBookableMinute (l : Launch) (D : va_G) (dA : Nat → ClassId) (cA : Nat → Nat) (hst : l.stackTraces = false) (h0 h1 h2 h3 h4 h5 h6 h7 h8 h9 h10 h11 h12 h13 h14 h15 h16 h17 h18 h19 h20 h21 h41 h43 h46 h49 : Nat) (sz : Nat) (on : Int32) (ot : Int32) (op : Int32) (os : Int32) (sc : Int32) (sd : Nat → Int32) (sp : Nat → Int32) (sw : Nat → Int32) (gc : Int32) (gp : Nat → Int32) (gr : Nat → Int32) (bc : Int32) (bg : Nat → Int32) (bs : Nat → Int32) (bt : Nat → Int32) (be : Nat → Int32) (ql : Nat → Int32) (qg : Nat → Int32) (fc : Int32) (fg : Nat → Int32) (fs : Nat → Int32) (fm : Nat → Int32) (xi : Int32) (xe : Int32) (xf : Int32) (p0 : Int32) (rx : Nat) (hf : f_TX11_checkBookableMinute on p0 = some rx) : vx_Met l yX11_checkBookableMinute (wo (.code yX11_checkBookableMinute cX11_checkBookableMinute 2 none)) ({ frames := 6, cells := 1, slots := 6, locals := 100 } : Room) (preX D dA cA [.ref h0, .int p0] sz [(h0, .inr (9, [.ref h1, .ref h21, .int xi, .ref h41, .ref h43, .ref h46, .ref h49, .int xe, .int xf])), (h1, .inr (6, [.int on, .int ot, .int op, .int os, .ref h2, .ref h6, .ref h9, .ref h14, .ref h17])), (h2, .inr (8, [.int sc, .ref h3, .ref h4, .ref h5])), (h3, .inl (dA 0, 4, .inl sd)), (h4, .inl (dA 0, 4, .inl sp)), (h5, .inl (dA 0, 4, .inl sw)), (h6, .inr (4, [.int gc, .ref h7, .ref h8])), (h7, .inl (dA 0, 10, .inl gp)), (h8, .inl (dA 0, 10, .inl gr)), (h9, .inr (0, [.int bc, .ref h10, .ref h11, .ref h12, .ref h13])), (h10, .inl (dA 0, 12, .inl bg)), (h11, .inl (dA 0, 12, .inl bs)), (h12, .inl (dA 0, 12, .inl bt)), (h13, .inl (dA 0, 12, .inl be)), (h14, .inr (7, [.ref h15, .ref h16])), (h15, .inl (dA 0, 4, .inl ql)), (h16, .inl (dA 0, 20, .inl qg)), (h17, .inr (3, [.int fc, .ref h18, .ref h19, .ref h20])), (h18, .inl (dA 0, 16, .inl fg)), (h19, .inl (dA 0, 16, .inl fs)), (h20, .inl (dA 0, 16, .inl fm))]) noQ (xcQ D (exs rx) [(h0, .inr (9, [.ref h1, .ref h21, .int xi, .ref h41, .ref h43, .ref h46, .ref h49, .int xe, .int xf])), (h1, .inr (6, [.int on, .int ot, .int op, .int os, .ref h2, .ref h6, .ref h9, .ref h14, .ref h17])), (h2, .inr (8, [.int sc, .ref h3, .ref h4, .ref h5])), (h3, .inl (dA 0, 4, .inl sd)), (h4, .inl (dA 0, 4, .inl sp)), (h5, .inl (dA 0, 4, .inl sw)), (h6, .inr (4, [.int gc, .ref h7, .ref h8])), (h7, .inl (dA 0, 10, .inl gp)), (h8, .inl (dA 0, 10, .inl gr)), (h9, .inr (0, [.int bc, .ref h10, .ref h11, .ref h12, .ref h13])), (h10, .inl (dA 0, 12, .inl bg)), (h11, .inl (dA 0, 12, .inl bs)), (h12, .inl (dA 0, 12, .inl bt)), (h13, .inl (dA 0, 12, .inl be)), (h14, .inr (7, [.ref h15, .ref h16])), (h15, .inl (dA 0, 4, .inl ql)), (h16, .inl (dA 0, 20, .inl qg)), (h17, .inr (3, [.int fc, .ref h18, .ref h19, .ref h20])), (h18, .inl (dA 0, 16, .inl fg)), (h19, .inl (dA 0, 16, .inl fs)), (h20, .inl (dA 0, 16, .inl fm))] (va_A [(h0, .inr (9, [.ref h1, .ref h21, .int xi, .ref h41, .ref h43, .ref h46, .ref h49, .int xe, .int xf])), (h1, .inr (6, [.int on, .int ot, .int op, .int os, .ref h2, .ref h6, .ref h9, .ref h14, .ref h17])), (h2, .inr (8, [.int sc, .ref h3, .ref h4, .ref h5])), (h3, .inl (dA 0, 4, .inl sd)), (h4, .inl (dA 0, 4, .inl sp)), (h5, .inl (dA 0, 4, .inl sw)), (h6, .inr (4, [.int gc, .ref h7, .ref h8])), (h7, .inl (dA 0, 10, .inl gp)), (h8, .inl (dA 0, 10, .inl gr)), (h9, .inr (0, [.int bc, .ref h10, .ref h11, .ref h12, .ref h13])), (h10, .inl (dA 0, 12, .inl bg)), (h11, .inl (dA 0, 12, .inl bs)), (h12, .inl (dA 0, 12, .inl bt)), (h13, .inl (dA 0, 12, .inl be)), (h14, .inr (7, [.ref h15, .ref h16])), (h15, .inl (dA 0, 4, .inl ql)), (h16, .inl (dA 0, 20, .inl qg)), (h17, .inr (3, [.int fc, .ref h18, .ref h19, .ref h20])), (h18, .inl (dA 0, 16, .inl fg)), (h19, .inl (dA 0, 16, .inl fs)), (h20, .inl (dA 0, 16, .inl fm))] sz)) 1 6 (va_A [(h0, .inr (9, [.ref h1, .ref h21, .int xi, .ref h41, .ref h43, .ref h46, .ref h49, .int xe, .int xf])), (h1, .inr (6, [.int on, .int ot, .int op, .int os, .ref h2, .ref h6, .ref h9, .ref h14, .ref h17])), (h2, .inr (8, [.int sc, .ref h3, .ref h4, .ref h5])), (h3, .inl (dA 0, 4, .inl sd)), (h4, .inl (dA 0, 4, .inl sp)), (h5, .inl (dA 0, 4, .inl sw)), (h6, .inr (4, [.int gc, .ref h7, .ref h8])), (h7, .inl (dA 0, 10, .inl gp)), (h8, .inl (dA 0, 10, .inl gr)), (h9, .inr (0, [.int bc, .ref h10, .ref h11, .ref h12, .ref h13])), (h10, .inl (dA 0, 12, .inl bg)), (h11, .inl (dA 0, 12, .inl bs)), (h12, .inl (dA 0, 12, .inl bt)), (h13, .inl (dA 0, 12, .inl be)), (h14, .inr (7, [.ref h15, .ref h16])), (h15, .inl (dA 0, 4, .inl ql)), (h16, .inl (dA 0, 20, .inl qg)), (h17, .inr (3, [.int fc, .ref h18, .ref h19, .ref h20])), (h18, .inl (dA 0, 16, .inl fg)), (h19, .inl (dA 0, 16, .inl fs)), (h20, .inl (dA 0, 16, .inl fm))] sz) := by
  refine of_Z (y := yX11_checkBookableMinute) (cc := cX11_checkBookableMinute) (maxL := 2) (ret := none) (av := [.ref h0, .int p0]) (ws := [(h0, .inr (9, [.ref h1, .ref h21, .int xi, .ref h41, .ref h43, .ref h46, .ref h49, .int xe, .int xf])), (h1, .inr (6, [.int on, .int ot, .int op, .int os, .ref h2, .ref h6, .ref h9, .ref h14, .ref h17])), (h2, .inr (8, [.int sc, .ref h3, .ref h4, .ref h5])), (h3, .inl (dA 0, 4, .inl sd)), (h4, .inl (dA 0, 4, .inl sp)), (h5, .inl (dA 0, 4, .inl sw)), (h6, .inr (4, [.int gc, .ref h7, .ref h8])), (h7, .inl (dA 0, 10, .inl gp)), (h8, .inl (dA 0, 10, .inl gr)), (h9, .inr (0, [.int bc, .ref h10, .ref h11, .ref h12, .ref h13])), (h10, .inl (dA 0, 12, .inl bg)), (h11, .inl (dA 0, 12, .inl bs)), (h12, .inl (dA 0, 12, .inl bt)), (h13, .inl (dA 0, 12, .inl be)), (h14, .inr (7, [.ref h15, .ref h16])), (h15, .inl (dA 0, 4, .inl ql)), (h16, .inl (dA 0, 20, .inl qg)), (h17, .inr (3, [.int fc, .ref h18, .ref h19, .ref h20])), (h18, .inl (dA 0, 16, .inl fg)), (h19, .inl (dA 0, 16, .inl fs)), (h20, .inl (dA 0, 16, .inl fm))]) (sz := sz) (own := RX11) (XC := fun A => xcQ D (exs rx) [(h0, .inr (9, [.ref h1, .ref h21, .int xi, .ref h41, .ref h43, .ref h46, .ref h49, .int xe, .int xf])), (h1, .inr (6, [.int on, .int ot, .int op, .int os, .ref h2, .ref h6, .ref h9, .ref h14, .ref h17])), (h2, .inr (8, [.int sc, .ref h3, .ref h4, .ref h5])), (h3, .inl (dA 0, 4, .inl sd)), (h4, .inl (dA 0, 4, .inl sp)), (h5, .inl (dA 0, 4, .inl sw)), (h6, .inr (4, [.int gc, .ref h7, .ref h8])), (h7, .inl (dA 0, 10, .inl gp)), (h8, .inl (dA 0, 10, .inl gr)), (h9, .inr (0, [.int bc, .ref h10, .ref h11, .ref h12, .ref h13])), (h10, .inl (dA 0, 12, .inl bg)), (h11, .inl (dA 0, 12, .inl bs)), (h12, .inl (dA 0, 12, .inl bt)), (h13, .inl (dA 0, 12, .inl be)), (h14, .inr (7, [.ref h15, .ref h16])), (h15, .inl (dA 0, 4, .inl ql)), (h16, .inl (dA 0, 20, .inl qg)), (h17, .inr (3, [.int fc, .ref h18, .ref h19, .ref h20])), (h18, .inl (dA 0, 16, .inl fg)), (h19, .inl (dA 0, 16, .inl fs)), (h20, .inl (dA 0, 16, .inl fm))] A) (by decide) rfl (Nat.le_of_ble_eq_true rfl) ?_
  intro p e s m below meth c A hx hb hr ha hown hml hlocks hin hno hP hK hD hX hS hA ls hl
  have hC := hX.1
  have hl : lv_has ls 2 [(0, .ref h0), (1, .int p0)] := hl
  rw [f_TX11_checkBookableMinute] at hf
  refine lv_aload_n hx hb dX11_checkBookableMinute_0 rfl (lv_at hl 0 rfl) ?_
  refine gt_f (C := RX11) (T := TX11) (N := 9) hx hb ha in_X11 hown hK hP 0 rfl rfl 0 (by decide) m_332 rfl dX11_checkBookableMinute_1 ?_
  refine lv_iload_n hx hb dX11_checkBookableMinute_4 rfl (lv_at hl 1 rfl) ?_
  obtain ⟨r_1, hc1, hf⟩ := sf_c1e hf
  refine k_Pi (run_PV (As := [.int p0]) (rest := []) ⟨hx, hb, hml, hown, ha⟩ (c_X8_isBookable l D dA h1 h2 h3 h4 h5 h6 h7 h8 h9 h10 h11 h12 h13 h14 h15 h16 h17 h18 h19 h20   on ot op os sc sd sp sw gc gp gr bc bg bs bt be ql qg fc fg fs fm p0 _ hc1) (gi_V m_941 m_627 m_628 m_32 m_629) yd_X8_isBookable ⟨Nat.le_of_ble_eq_true rfl, Nat.le_of_ble_eq_true rfl⟩ ⟨rfl, rfl⟩ hK hP [1, 2, 3, 4, 5, 6, 7, 8, 9, 10, 11, 12, 13, 14, 15, 16, 17, 18, 19, 20] rfl 1 6 rfl rfl rfl rfl hl.1 rfl (Nat.le_of_ble_eq_true rfl) dX11_checkBookableMinute_5 ⟨Nat.le_of_ble_eq_true rfl, Nat.le_of_ble_eq_true rfl⟩) hP hS (fun H locs hP hS => ?_)
  refine lv_if_ne (tgt := 22) hx hb dX11_checkBookableMinute_8 (by decide) (fun hc => ?_) (fun hc => ?_)
  · have hf := sf_bn hf hc
    cases hf
  · have hf := sf_bp hf hc
    cases hf
    exact th_SW (E := exs 1) (text := "the minute is out of range") (sa := cA 41) hx hb hst hown ha hX hS (hP.sub [0, 1, 2, 3, 4, 5, 6, 7, 8, 9, 10, 11, 12, 13, 14, 15, 16, 17, 18, 19, 20] rfl) (hD.sub [0, 1, 2, 3, 4, 5, 6, 7, 8, 9, 10, 11, 12, 13, 14, 15, 16, 17, 18, 19, 20] (by decide) rfl) hlocks hno (hl.1.trans hml.symm) m_495 m_50 (hC.2.2.1 (RX11, 397, "the minute is out of range", 41) (List.mem_of_getElem? (i := 18) rfl)) exg_307 exb_307 exo_307 exf_307 dX11_checkBookableMinute_11 dX11_checkBookableMinute_14 dX11_checkBookableMinute_15 dX11_checkBookableMinute_18 dX11_checkBookableMinute_21 ⟨by decide, by decide, by decide, by decide⟩ ⟨by decide, by decide⟩

def f_X11_isFree (on : Int32) (sc : Int32) (sd : Nat → Int32) (bc : Int32) (bs : Nat → Int32) (bt : Nat → Int32) (be : Nat → Int32) (p0 : Int32) (p1 : Int32) : Option Int32 :=
  sf_c0 (f_X11_checkSlide sc p0) (fun _ => sf_c0 (f_X11_checkBookableMinute on p1) (fun _ => sf_c1 (f_X8_isSlideFree sd bc bs bt be p0 p1) (fun r_1 => sf_g (r_1 = 0 ∨ r_1 = 1) (some r_1))))
theorem yd_X11_isFree : yX11_isFree.cls = RX11 ∧ yX11_isFree.cls ≠ "java/lang/invoke/MethodHandle" ∧ yX11_isFree.cls ≠ "java/lang/invoke/VarHandle" ∧ (parseMethodDescriptor yX11_isFree.desc).map (fun d => d.parameters.length) = some 2 := ⟨rfl, by decide, by decide, by decide +kernel⟩
set_option maxRecDepth 100000 in
set_option maxHeartbeats 4000000 in
theorem c_X11_isFree (l : Launch) (D : va_G) (dA : Nat → ClassId) (cA : Nat → Nat) (h0 h1 h2 h3 h4 h5 h6 h7 h8 h9 h10 h11 h12 h13 h14 h15 h16 h17 h18 h19 h20 h21 h41 h43 h46 h49 : Nat) (on : Int32) (ot : Int32) (op : Int32) (os : Int32) (sc : Int32) (sd : Nat → Int32) (sp : Nat → Int32) (sw : Nat → Int32) (gc : Int32) (gp : Nat → Int32) (gr : Nat → Int32) (bc : Int32) (bg : Nat → Int32) (bs : Nat → Int32) (bt : Nat → Int32) (be : Nat → Int32) (ql : Nat → Int32) (qg : Nat → Int32) (fc : Int32) (fg : Nat → Int32) (fs : Nat → Int32) (fm : Nat → Int32) (xi : Int32) (xe : Int32) (xf : Int32) (p0 : Int32) (p1 : Int32) (rr : Int32) (hf : f_X11_isFree on sc sd bc bs bt be p0 p1 = some rr) : Met l yX11_isFree (wo (.code yX11_isFree cX11_isFree 3 (some .boolean))) ({ frames := 3, cells := 0, slots := 0, locals := 69 } : Room) (preY D dA cA [.ref h0, .int p0, .int p1] [(h0, .inr (9, [.ref h1, .ref h21, .int xi, .ref h41, .ref h43, .ref h46, .ref h49, .int xe, .int xf])), (h1, .inr (6, [.int on, .int ot, .int op, .int os, .ref h2, .ref h6, .ref h9, .ref h14, .ref h17])), (h2, .inr (8, [.int sc, .ref h3, .ref h4, .ref h5])), (h3, .inl (dA 0, 4, .inl sd)), (h4, .inl (dA 0, 4, .inl sp)), (h5, .inl (dA 0, 4, .inl sw)), (h6, .inr (4, [.int gc, .ref h7, .ref h8])), (h7, .inl (dA 0, 10, .inl gp)), (h8, .inl (dA 0, 10, .inl gr)), (h9, .inr (0, [.int bc, .ref h10, .ref h11, .ref h12, .ref h13])), (h10, .inl (dA 0, 12, .inl bg)), (h11, .inl (dA 0, 12, .inl bs)), (h12, .inl (dA 0, 12, .inl bt)), (h13, .inl (dA 0, 12, .inl be)), (h14, .inr (7, [.ref h15, .ref h16])), (h15, .inl (dA 0, 4, .inl ql)), (h16, .inl (dA 0, 20, .inl qg)), (h17, .inr (3, [.int fc, .ref h18, .ref h19, .ref h20])), (h18, .inl (dA 0, 16, .inl fg)), (h19, .inl (dA 0, 16, .inl fs)), (h20, .inl (dA 0, 16, .inl fm))]) (poPi rr) 0 0 noA := by
  refine of_Y (y := yX11_isFree) (cc := cX11_isFree) (maxL := 3) (ret := (some .boolean)) (av := [.ref h0, .int p0, .int p1]) (ws := [(h0, .inr (9, [.ref h1, .ref h21, .int xi, .ref h41, .ref h43, .ref h46, .ref h49, .int xe, .int xf])), (h1, .inr (6, [.int on, .int ot, .int op, .int os, .ref h2, .ref h6, .ref h9, .ref h14, .ref h17])), (h2, .inr (8, [.int sc, .ref h3, .ref h4, .ref h5])), (h3, .inl (dA 0, 4, .inl sd)), (h4, .inl (dA 0, 4, .inl sp)), (h5, .inl (dA 0, 4, .inl sw)), (h6, .inr (4, [.int gc, .ref h7, .ref h8])), (h7, .inl (dA 0, 10, .inl gp)), (h8, .inl (dA 0, 10, .inl gr)), (h9, .inr (0, [.int bc, .ref h10, .ref h11, .ref h12, .ref h13])), (h10, .inl (dA 0, 12, .inl bg)), (h11, .inl (dA 0, 12, .inl bs)), (h12, .inl (dA 0, 12, .inl bt)), (h13, .inl (dA 0, 12, .inl be)), (h14, .inr (7, [.ref h15, .ref h16])), (h15, .inl (dA 0, 4, .inl ql)), (h16, .inl (dA 0, 20, .inl qg)), (h17, .inr (3, [.int fc, .ref h18, .ref h19, .ref h20])), (h18, .inl (dA 0, 16, .inl fg)), (h19, .inl (dA 0, 16, .inl fs)), (h20, .inl (dA 0, 16, .inl fm))]) (own := RX11) (by decide) rfl (Nat.le_of_ble_eq_true rfl) ?_
  intro p e s m below meth c hx hb hr ha hown hml hlocks hP hK hX hS ls hl
  have hC := hX.1
  have hl : lv_has ls 3 [(0, .ref h0), (1, .int p0), (2, .int p1)] := hl
  rw [f_X11_isFree] at hf
  refine lv_aload_n hx hb dX11_isFree_0 rfl (lv_at hl 0 rfl) ?_
  refine lv_iload_n hx hb dX11_isFree_1 rfl (lv_at hl 1 rfl) ?_
  obtain ⟨hc0, hf⟩ := sf_c0e hf
  refine k_Pv (run_YV (As := [.int p0]) (rest := []) ⟨hx, hb, hml, hown, ha⟩ (c_X11_checkSlide l D dA cA h0 h1 h2 h3 h4 h5 h6 h9 h14 h17 h21 h41 h43 h46 h49   on ot op os sc sd sp sw xi xe xf p0  hc0) (gi_V m_776 m_778 m_12 m_31 m_779) yd_X11_checkSlide ⟨Nat.le_of_ble_eq_true rfl, Nat.le_of_ble_eq_true rfl⟩ ⟨rfl, rfl⟩ hK hX hS hP [0, 1, 2, 3, 4, 5] rfl (va_recv hK hP (q0 := 0) rfl rfl) rfl hl.1 rfl (Nat.le_of_ble_eq_true rfl) dX11_isFree_2 ⟨Nat.le_of_ble_eq_true rfl, Nat.le_of_ble_eq_true rfl⟩) hP hS (fun H locs hP hS => ?_)
  refine lv_aload_n hx hb dX11_isFree_5 rfl (lv_at hl 0 rfl) ?_
  refine lv_iload_n hx hb dX11_isFree_6 rfl (lv_at hl 2 rfl) ?_
  obtain ⟨hc0, hf⟩ := sf_c0e hf
  refine k_Pv (run_YV (As := [.int p1]) (rest := []) ⟨hx, hb, hml, hown, ha⟩ (c_X11_checkBookableMinute l D dA cA h0 h1 h2 h3 h4 h5 h6 h7 h8 h9 h10 h11 h12 h13 h14 h15 h16 h17 h18 h19 h20 h21 h41 h43 h46 h49   on ot op os sc sd sp sw gc gp gr bc bg bs bt be ql qg fc fg fs fm xi xe xf p1  hc0) (gi_V m_937 m_939 m_17 m_31 m_940) yd_X11_checkBookableMinute ⟨Nat.le_of_ble_eq_true rfl, Nat.le_of_ble_eq_true rfl⟩ ⟨rfl, rfl⟩ hK hX hS hP [0, 1, 2, 3, 4, 5, 6, 7, 8, 9, 10, 11, 12, 13, 14, 15, 16, 17, 18, 19, 20] rfl (va_recv hK hP (q0 := 0) rfl rfl) rfl hl.1 rfl (Nat.le_of_ble_eq_true rfl) dX11_isFree_7 ⟨Nat.le_of_ble_eq_true rfl, Nat.le_of_ble_eq_true rfl⟩) hP hS (fun H locs hP hS => ?_)
  refine lv_aload_n hx hb dX11_isFree_10 rfl (lv_at hl 0 rfl) ?_
  refine gt_f (C := RX11) (T := TX11) (N := 9) hx hb ha in_X11 hown hK hP 0 rfl rfl 0 (by decide) m_332 rfl dX11_isFree_11 ?_
  refine lv_iload_n hx hb dX11_isFree_14 rfl (lv_at hl 1 rfl) ?_
  refine lv_iload_n hx hb dX11_isFree_15 rfl (lv_at hl 2 rfl) ?_
  obtain ⟨r_1, hc1, hf⟩ := sf_c1e hf
  refine k_Pi (run_PV (As := [.int p0, .int p1]) (rest := []) ⟨hx, hb, hml, hown, ha⟩ (c_X8_isSlideFree l D dA h1 h2 h3 h4 h5 h6 h7 h8 h9 h10 h11 h12 h13 h14 h15 h16 h17 h18 h19 h20   on ot op os sc sd sp sw gc gp gr bc bg bs bt be ql qg fc fg fs fm p0 p1 _ hc1) (gi_V m_943 m_944 m_945 m_32 m_946) yd_X8_isSlideFree ⟨Nat.le_of_ble_eq_true rfl, Nat.le_of_ble_eq_true rfl⟩ ⟨rfl, rfl⟩ hK hP [1, 2, 3, 4, 5, 6, 7, 8, 9, 10, 11, 12, 13, 14, 15, 16, 17, 18, 19, 20] rfl 1 6 rfl rfl rfl rfl hl.1 rfl (Nat.le_of_ble_eq_true rfl) dX11_isFree_16 ⟨Nat.le_of_ble_eq_true rfl, Nat.le_of_ble_eq_true rfl⟩) hP hS (fun H locs hP hS => ?_)
  obtain ⟨hz, hf⟩ := sf_ge hf
  exact rt_Pz hx hb hr hlocks (Option.some.inj hf) (sf_z1 hz) hS dX11_isFree_19

def f_TX11_isFree (on : Int32) (sc : Int32) (sd : Nat → Int32) (bc : Int32) (bs : Nat → Int32) (bt : Nat → Int32) (be : Nat → Int32) (p0 : Int32) (p1 : Int32) : Option Nat :=
  sf_t1 (f_TX11_checkSlide sc p0) (fun k_1 => some k_1) (sf_c0 (f_X11_checkSlide sc p0) (fun _ => sf_t1 (f_TX11_checkBookableMinute on p1) (fun k_2 => some k_2) (sf_c0 (f_X11_checkBookableMinute on p1) (fun _ => sf_c1 (f_X8_isSlideFree sd bc bs bt be p0 p1) (fun r_3 => none)))))
theorem yd_TX11_isFree : yX11_isFree.cls = RX11 ∧ yX11_isFree.cls ≠ "java/lang/invoke/MethodHandle" ∧ yX11_isFree.cls ≠ "java/lang/invoke/VarHandle" ∧ (parseMethodDescriptor yX11_isFree.desc).map (fun d => d.parameters.length) = some 2 := ⟨rfl, by decide, by decide, by decide +kernel⟩
set_option maxRecDepth 100000 in
set_option maxHeartbeats 4000000 in
theorem c_TX11_isFree (l : Launch) (D : va_G) (dA : Nat → ClassId) (cA : Nat → Nat) (hst : l.stackTraces = false) (h0 h1 h2 h3 h4 h5 h6 h7 h8 h9 h10 h11 h12 h13 h14 h15 h16 h17 h18 h19 h20 h21 h41 h43 h46 h49 : Nat) (sz : Nat) (on : Int32) (ot : Int32) (op : Int32) (os : Int32) (sc : Int32) (sd : Nat → Int32) (sp : Nat → Int32) (sw : Nat → Int32) (gc : Int32) (gp : Nat → Int32) (gr : Nat → Int32) (bc : Int32) (bg : Nat → Int32) (bs : Nat → Int32) (bt : Nat → Int32) (be : Nat → Int32) (ql : Nat → Int32) (qg : Nat → Int32) (fc : Int32) (fg : Nat → Int32) (fs : Nat → Int32) (fm : Nat → Int32) (xi : Int32) (xe : Int32) (xf : Int32) (p0 : Int32) (p1 : Int32) (rx : Nat) (hf : f_TX11_isFree on sc sd bc bs bt be p0 p1 = some rx) : vx_Met l yX11_isFree (wo (.code yX11_isFree cX11_isFree 3 (some .boolean))) ({ frames := 7, cells := 1, slots := 6, locals := 121 } : Room) (preX D dA cA [.ref h0, .int p0, .int p1] sz [(h0, .inr (9, [.ref h1, .ref h21, .int xi, .ref h41, .ref h43, .ref h46, .ref h49, .int xe, .int xf])), (h1, .inr (6, [.int on, .int ot, .int op, .int os, .ref h2, .ref h6, .ref h9, .ref h14, .ref h17])), (h2, .inr (8, [.int sc, .ref h3, .ref h4, .ref h5])), (h3, .inl (dA 0, 4, .inl sd)), (h4, .inl (dA 0, 4, .inl sp)), (h5, .inl (dA 0, 4, .inl sw)), (h6, .inr (4, [.int gc, .ref h7, .ref h8])), (h7, .inl (dA 0, 10, .inl gp)), (h8, .inl (dA 0, 10, .inl gr)), (h9, .inr (0, [.int bc, .ref h10, .ref h11, .ref h12, .ref h13])), (h10, .inl (dA 0, 12, .inl bg)), (h11, .inl (dA 0, 12, .inl bs)), (h12, .inl (dA 0, 12, .inl bt)), (h13, .inl (dA 0, 12, .inl be)), (h14, .inr (7, [.ref h15, .ref h16])), (h15, .inl (dA 0, 4, .inl ql)), (h16, .inl (dA 0, 20, .inl qg)), (h17, .inr (3, [.int fc, .ref h18, .ref h19, .ref h20])), (h18, .inl (dA 0, 16, .inl fg)), (h19, .inl (dA 0, 16, .inl fs)), (h20, .inl (dA 0, 16, .inl fm))]) noQ (xcQ D (exs rx) [(h0, .inr (9, [.ref h1, .ref h21, .int xi, .ref h41, .ref h43, .ref h46, .ref h49, .int xe, .int xf])), (h1, .inr (6, [.int on, .int ot, .int op, .int os, .ref h2, .ref h6, .ref h9, .ref h14, .ref h17])), (h2, .inr (8, [.int sc, .ref h3, .ref h4, .ref h5])), (h3, .inl (dA 0, 4, .inl sd)), (h4, .inl (dA 0, 4, .inl sp)), (h5, .inl (dA 0, 4, .inl sw)), (h6, .inr (4, [.int gc, .ref h7, .ref h8])), (h7, .inl (dA 0, 10, .inl gp)), (h8, .inl (dA 0, 10, .inl gr)), (h9, .inr (0, [.int bc, .ref h10, .ref h11, .ref h12, .ref h13])), (h10, .inl (dA 0, 12, .inl bg)), (h11, .inl (dA 0, 12, .inl bs)), (h12, .inl (dA 0, 12, .inl bt)), (h13, .inl (dA 0, 12, .inl be)), (h14, .inr (7, [.ref h15, .ref h16])), (h15, .inl (dA 0, 4, .inl ql)), (h16, .inl (dA 0, 20, .inl qg)), (h17, .inr (3, [.int fc, .ref h18, .ref h19, .ref h20])), (h18, .inl (dA 0, 16, .inl fg)), (h19, .inl (dA 0, 16, .inl fs)), (h20, .inl (dA 0, 16, .inl fm))] (va_A [(h0, .inr (9, [.ref h1, .ref h21, .int xi, .ref h41, .ref h43, .ref h46, .ref h49, .int xe, .int xf])), (h1, .inr (6, [.int on, .int ot, .int op, .int os, .ref h2, .ref h6, .ref h9, .ref h14, .ref h17])), (h2, .inr (8, [.int sc, .ref h3, .ref h4, .ref h5])), (h3, .inl (dA 0, 4, .inl sd)), (h4, .inl (dA 0, 4, .inl sp)), (h5, .inl (dA 0, 4, .inl sw)), (h6, .inr (4, [.int gc, .ref h7, .ref h8])), (h7, .inl (dA 0, 10, .inl gp)), (h8, .inl (dA 0, 10, .inl gr)), (h9, .inr (0, [.int bc, .ref h10, .ref h11, .ref h12, .ref h13])), (h10, .inl (dA 0, 12, .inl bg)), (h11, .inl (dA 0, 12, .inl bs)), (h12, .inl (dA 0, 12, .inl bt)), (h13, .inl (dA 0, 12, .inl be)), (h14, .inr (7, [.ref h15, .ref h16])), (h15, .inl (dA 0, 4, .inl ql)), (h16, .inl (dA 0, 20, .inl qg)), (h17, .inr (3, [.int fc, .ref h18, .ref h19, .ref h20])), (h18, .inl (dA 0, 16, .inl fg)), (h19, .inl (dA 0, 16, .inl fs)), (h20, .inl (dA 0, 16, .inl fm))] sz)) 1 6 (va_A [(h0, .inr (9, [.ref h1, .ref h21, .int xi, .ref h41, .ref h43, .ref h46, .ref h49, .int xe, .int xf])), (h1, .inr (6, [.int on, .int ot, .int op, .int os, .ref h2, .ref h6, .ref h9, .ref h14, .ref h17])), (h2, .inr (8, [.int sc, .ref h3, .ref h4, .ref h5])), (h3, .inl (dA 0, 4, .inl sd)), (h4, .inl (dA 0, 4, .inl sp)), (h5, .inl (dA 0, 4, .inl sw)), (h6, .inr (4, [.int gc, .ref h7, .ref h8])), (h7, .inl (dA 0, 10, .inl gp)), (h8, .inl (dA 0, 10, .inl gr)), (h9, .inr (0, [.int bc, .ref h10, .ref h11, .ref h12, .ref h13])), (h10, .inl (dA 0, 12, .inl bg)), (h11, .inl (dA 0, 12, .inl bs)), (h12, .inl (dA 0, 12, .inl bt)), (h13, .inl (dA 0, 12, .inl be)), (h14, .inr (7, [.ref h15, .ref h16])), (h15, .inl (dA 0, 4, .inl ql)), (h16, .inl (dA 0, 20, .inl qg)), (h17, .inr (3, [.int fc, .ref h18, .ref h19, .ref h20])), (h18, .inl (dA 0, 16, .inl fg)), (h19, .inl (dA 0, 16, .inl fs)), (h20, .inl (dA 0, 16, .inl fm))] sz) := by
  refine of_Z (y := yX11_isFree) (cc := cX11_isFree) (maxL := 3) (ret := (some .boolean)) (av := [.ref h0, .int p0, .int p1]) (ws := [(h0, .inr (9, [.ref h1, .ref h21, .int xi, .ref h41, .ref h43, .ref h46, .ref h49, .int xe, .int xf])), (h1, .inr (6, [.int on, .int ot, .int op, .int os, .ref h2, .ref h6, .ref h9, .ref h14, .ref h17])), (h2, .inr (8, [.int sc, .ref h3, .ref h4, .ref h5])), (h3, .inl (dA 0, 4, .inl sd)), (h4, .inl (dA 0, 4, .inl sp)), (h5, .inl (dA 0, 4, .inl sw)), (h6, .inr (4, [.int gc, .ref h7, .ref h8])), (h7, .inl (dA 0, 10, .inl gp)), (h8, .inl (dA 0, 10, .inl gr)), (h9, .inr (0, [.int bc, .ref h10, .ref h11, .ref h12, .ref h13])), (h10, .inl (dA 0, 12, .inl bg)), (h11, .inl (dA 0, 12, .inl bs)), (h12, .inl (dA 0, 12, .inl bt)), (h13, .inl (dA 0, 12, .inl be)), (h14, .inr (7, [.ref h15, .ref h16])), (h15, .inl (dA 0, 4, .inl ql)), (h16, .inl (dA 0, 20, .inl qg)), (h17, .inr (3, [.int fc, .ref h18, .ref h19, .ref h20])), (h18, .inl (dA 0, 16, .inl fg)), (h19, .inl (dA 0, 16, .inl fs)), (h20, .inl (dA 0, 16, .inl fm))]) (sz := sz) (own := RX11) (XC := fun A => xcQ D (exs rx) [(h0, .inr (9, [.ref h1, .ref h21, .int xi, .ref h41, .ref h43, .ref h46, .ref h49, .int xe, .int xf])), (h1, .inr (6, [.int on, .int ot, .int op, .int os, .ref h2, .ref h6, .ref h9, .ref h14, .ref h17])), (h2, .inr (8, [.int sc, .ref h3, .ref h4, .ref h5])), (h3, .inl (dA 0, 4, .inl sd)), (h4, .inl (dA 0, 4, .inl sp)), (h5, .inl (dA 0, 4, .inl sw)), (h6, .inr (4, [.int gc, .ref h7, .ref h8])), (h7, .inl (dA 0, 10, .inl gp)), (h8, .inl (dA 0, 10, .inl gr)), (h9, .inr (0, [.int bc, .ref h10, .ref h11, .ref h12, .ref h13])), (h10, .inl (dA 0, 12, .inl bg)), (h11, .inl (dA 0, 12, .inl bs)), (h12, .inl (dA 0, 12, .inl bt)), (h13, .inl (dA 0, 12, .inl be)), (h14, .inr (7, [.ref h15, .ref h16])), (h15, .inl (dA 0, 4, .inl ql)), (h16, .inl (dA 0, 20, .inl qg)), (h17, .inr (3, [.int fc, .ref h18, .ref h19, .ref h20])), (h18, .inl (dA 0, 16, .inl fg)), (h19, .inl (dA 0, 16, .inl fs)), (h20, .inl (dA 0, 16, .inl fm))] A) (by decide) rfl (Nat.le_of_ble_eq_true rfl) ?_
  intro p e s m below meth c A hx hb hr ha hown hml hlocks hin hno hP hK hD hX hS hA ls hl
  have hC := hX.1
  have hl : lv_has ls 3 [(0, .ref h0), (1, .int p0), (2, .int p1)] := hl
  rw [f_TX11_isFree] at hf
  refine lv_aload_n hx hb dX11_isFree_0 rfl (lv_at hl 0 rfl) ?_
  refine lv_iload_n hx hb dX11_isFree_1 rfl (lv_at hl 1 rfl) ?_
  rcases sf_t1e hf with ⟨hnt, hf⟩ | ⟨k_1, hc1, hf⟩
  · skip
    obtain ⟨hc1, hf⟩ := sf_c0e hf
    refine k_Pv (run_YV (As := [.int p0]) (rest := []) ⟨hx, hb, hml, hown, ha⟩ (c_X11_checkSlide l D dA cA h0 h1 h2 h3 h4 h5 h6 h9 h14 h17 h21 h41 h43 h46 h49   on ot op os sc sd sp sw xi xe xf p0  hc1) (gi_V m_776 m_778 m_12 m_31 m_779) yd_X11_checkSlide ⟨Nat.le_of_ble_eq_true rfl, Nat.le_of_ble_eq_true rfl⟩ ⟨rfl, rfl⟩ hK hX hS hP [0, 1, 2, 3, 4, 5] rfl (va_recv hK hP (q0 := 0) rfl rfl) rfl hl.1 rfl (Nat.le_of_ble_eq_true rfl) dX11_isFree_2 ⟨Nat.le_of_ble_eq_true rfl, Nat.le_of_ble_eq_true rfl⟩) hP hS (fun H locs hP hS => ?_)
    refine lv_aload_n hx hb dX11_isFree_5 rfl (lv_at hl 0 rfl) ?_
    refine lv_iload_n hx hb dX11_isFree_6 rfl (lv_at hl 2 rfl) ?_
    rcases sf_t1e hf with ⟨hnt, hf⟩ | ⟨k_2, hc2, hf⟩
    · skip
      obtain ⟨hc2, hf⟩ := sf_c0e hf
      refine k_Pv (run_YV (As := [.int p1]) (rest := []) ⟨hx, hb, hml, hown, ha⟩ (c_X11_checkBookableMinute l D dA cA h0 h1 h2 h3 h4 h5 h6 h7 h8 h9 h10 h11 h12 h13 h14 h15 h16 h17 h18 h19 h20 h21 h41 h43 h46 h49   on ot op os sc sd sp sw gc gp gr bc bg bs bt be ql qg fc fg fs fm xi xe xf p1  hc2) (gi_V m_937 m_939 m_17 m_31 m_940) yd_X11_checkBookableMinute ⟨Nat.le_of_ble_eq_true rfl, Nat.le_of_ble_eq_true rfl⟩ ⟨rfl, rfl⟩ hK hX hS hP [0, 1, 2, 3, 4, 5, 6, 7, 8, 9, 10, 11, 12, 13, 14, 15, 16, 17, 18, 19, 20] rfl (va_recv hK hP (q0 := 0) rfl rfl) rfl hl.1 rfl (Nat.le_of_ble_eq_true rfl) dX11_isFree_7 ⟨Nat.le_of_ble_eq_true rfl, Nat.le_of_ble_eq_true rfl⟩) hP hS (fun H locs hP hS => ?_)
      refine lv_aload_n hx hb dX11_isFree_10 rfl (lv_at hl 0 rfl) ?_
      refine gt_f (C := RX11) (T := TX11) (N := 9) hx hb ha in_X11 hown hK hP 0 rfl rfl 0 (by decide) m_332 rfl dX11_isFree_11 ?_
      refine lv_iload_n hx hb dX11_isFree_14 rfl (lv_at hl 1 rfl) ?_
      refine lv_iload_n hx hb dX11_isFree_15 rfl (lv_at hl 2 rfl) ?_
      obtain ⟨r_3, hc3, hf⟩ := sf_c1e hf
      refine k_Pi (run_PV (As := [.int p0, .int p1]) (rest := []) ⟨hx, hb, hml, hown, ha⟩ (c_X8_isSlideFree l D dA h1 h2 h3 h4 h5 h6 h7 h8 h9 h10 h11 h12 h13 h14 h15 h16 h17 h18 h19 h20   on ot op os sc sd sp sw gc gp gr bc bg bs bt be ql qg fc fg fs fm p0 p1 _ hc3) (gi_V m_943 m_944 m_945 m_32 m_946) yd_X8_isSlideFree ⟨Nat.le_of_ble_eq_true rfl, Nat.le_of_ble_eq_true rfl⟩ ⟨rfl, rfl⟩ hK hP [1, 2, 3, 4, 5, 6, 7, 8, 9, 10, 11, 12, 13, 14, 15, 16, 17, 18, 19, 20] rfl 1 6 rfl rfl rfl rfl hl.1 rfl (Nat.le_of_ble_eq_true rfl) dX11_isFree_16 ⟨Nat.le_of_ble_eq_true rfl, Nat.le_of_ble_eq_true rfl⟩) hP hS (fun H locs hP hS => ?_)
      cases hf
    · skip
      refine k_Z (wr := []) (run_ZV (As := [.int p1]) (rest := []) ⟨hx, hb, hml, hown, ha⟩ (c_TX11_checkBookableMinute l D dA cA hst h0 h1 h2 h3 h4 h5 h6 h7 h8 h9 h10 h11 h12 h13 h14 h15 h16 h17 h18 h19 h20 h21 h41 h43 h46 h49  _ on ot op os sc sd sp sw gc gp gr bc bg bs bt be ql qg fc fg fs fm xi xe xf p1 _ hc2) (gi_V m_937 m_939 m_17 m_31 m_940) yd_TX11_checkBookableMinute ⟨Nat.le_of_ble_eq_true rfl, Nat.le_of_ble_eq_true rfl⟩ ⟨rfl, rfl⟩ hK hX hS hA hP hD [0, 1, 2, 3, 4, 5, 6, 7, 8, 9, 10, 11, 12, 13, 14, 15, 16, 17, 18, 19, 20] (by decide) rfl (va_recv hK hP (q0 := 0) rfl rfl) rfl hl.1 rfl (Nat.le_of_ble_eq_true rfl) dX11_isFree_7 ⟨Nat.le_of_ble_eq_true rfl, Nat.le_of_ble_eq_true rfl⟩) hP hD hS hA [0, 1, 2, 3, 4, 5, 6, 7, 8, 9, 10, 11, 12, 13, 14, 15, 16, 17, 18, 19, 20] [] rfl rfl (by decide) (by decide) (fun q9 H locs hP hD hS ht9 => ?_)
      cases hf
      exact px_o hno hlocks ht9 (hP.sub [0, 1, 2, 3, 4, 5, 6, 7, 8, 9, 10, 11, 12, 13, 14, 15, 16, 17, 18, 19, 20] rfl) (hD.sub [0, 1, 2, 3, 4, 5, 6, 7, 8, 9, 10, 11, 12, 13, 14, 15, 16, 17, 18, 19, 20] (by decide) rfl) hS (by decide) (by decide)
  · skip
    refine k_Z (wr := [(h6, .inr (4, [.int gc, .ref h7, .ref h8])), (h7, .inl (dA 0, 10, .inl gp)), (h8, .inl (dA 0, 10, .inl gr)), (h9, .inr (0, [.int bc, .ref h10, .ref h11, .ref h12, .ref h13])), (h10, .inl (dA 0, 12, .inl bg)), (h11, .inl (dA 0, 12, .inl bs)), (h12, .inl (dA 0, 12, .inl bt)), (h13, .inl (dA 0, 12, .inl be)), (h14, .inr (7, [.ref h15, .ref h16])), (h15, .inl (dA 0, 4, .inl ql)), (h16, .inl (dA 0, 20, .inl qg)), (h17, .inr (3, [.int fc, .ref h18, .ref h19, .ref h20])), (h18, .inl (dA 0, 16, .inl fg)), (h19, .inl (dA 0, 16, .inl fs)), (h20, .inl (dA 0, 16, .inl fm))]) (run_ZV (As := [.int p0]) (rest := []) ⟨hx, hb, hml, hown, ha⟩ (c_TX11_checkSlide l D dA cA hst h0 h1 h2 h3 h4 h5 h6 h9 h14 h17 h21 h41 h43 h46 h49  _ on ot op os sc sd sp sw xi xe xf p0 _ hc1) (gi_V m_776 m_778 m_12 m_31 m_779) yd_TX11_checkSlide ⟨Nat.le_of_ble_eq_true rfl, Nat.le_of_ble_eq_true rfl⟩ ⟨rfl, rfl⟩ hK hX hS hA hP hD [0, 1, 2, 3, 4, 5] (by decide) rfl (va_recv hK hP (q0 := 0) rfl rfl) rfl hl.1 rfl (Nat.le_of_ble_eq_true rfl) dX11_isFree_2 ⟨Nat.le_of_ble_eq_true rfl, Nat.le_of_ble_eq_true rfl⟩) hP hD hS hA [0, 1, 2, 3, 4, 5] [6, 7, 8, 9, 10, 11, 12, 13, 14, 15, 16, 17, 18, 19, 20] rfl rfl (by decide) (by decide) (fun q9 H locs hP hD hS ht9 => ?_)
    cases hf
    exact px_o hno hlocks ht9 (hP.sub [15, 16, 17, 18, 19, 20, 0, 1, 2, 3, 4, 5, 6, 7, 8, 9, 10, 11, 12, 13, 14] rfl) (hD.sub [15, 16, 17, 18, 19, 20, 0, 1, 2, 3, 4, 5, 6, 7, 8, 9, 10, 11, 12, 13, 14] (by decide) rfl) hS (by decide) (by decide)

def f_X11_found (p0 : Int32) : Option Int32 :=
  sf_b (p0 = (-1 : Int32)) (none) (some p0)
theorem yd_X11_found : yX11_found.cls = RX11 ∧ yX11_found.cls ≠ "java/lang/invoke/MethodHandle" ∧ yX11_found.cls ≠ "java/lang/invoke/VarHandle" ∧ (parseMethodDescriptor yX11_found.desc).map (fun d => d.parameters.length) = some 1 := ⟨rfl, by decide, by decide, by decide +kernel⟩
set_option maxRecDepth 100000 in
set_option maxHeartbeats 4000000 in
theorem c_X11_found (l : Launch) (D : va_G) (dA : Nat → ClassId) (cA : Nat → Nat) (p0 : Int32) (rr : Int32) (hf : f_X11_found p0 = some rr) : Met l yX11_found (wo (.code yX11_found cX11_found 1 (some .int))) ({ frames := 0, cells := 0, slots := 0, locals := 0 } : Room) (preY D dA cA [.int p0] []) (poPi rr) 0 0 noA := by
  refine of_Y (y := yX11_found) (cc := cX11_found) (maxL := 1) (ret := (some .int)) (av := [.int p0]) (ws := []) (own := RX11) (by decide) rfl (Nat.le_of_ble_eq_true rfl) ?_
  intro p e s m below meth c hx hb hr ha hown hml hlocks hP hK hX hS ls hl
  have hC := hX.1
  have hl : lv_has ls 1 [(0, .int p0)] := hl
  rw [f_X11_found] at hf
  refine lv_iload_n hx hb dX11_found_0 rfl (lv_at hl 0 rfl) ?_
  refine lv_iconst (v := -1) hx hb dX11_found_1 (by decide) ?_
  refine lv_icmp_ne (tgt := 16) hx hb dX11_found_2 (by decide) (fun hc => ?_) (fun hc => ?_)
  · have hf := sf_bn hf hc
    refine lv_iload_n hx hb dX11_found_16 rfl (lv_at hl 0 rfl) ?_
    exact rt_Pi hx hb hr hlocks (Option.some.inj hf) hS dX11_found_17
  · have hf := sf_bp hf hc
    cases hf

def f_TX11_found (p0 : Int32) : Option Nat :=
  sf_b (p0 = (-1 : Int32)) (some 4) (none)
theorem yd_TX11_found : yX11_found.cls = RX11 ∧ yX11_found.cls ≠ "java/lang/invoke/MethodHandle" ∧ yX11_found.cls ≠ "java/lang/invoke/VarHandle" ∧ (parseMethodDescriptor yX11_found.desc).map (fun d => d.parameters.length) = some 1 := ⟨rfl, by decide, by decide, by decide +kernel⟩
set_option maxRecDepth 100000 in
set_option maxHeartbeats 4000000 in
theorem c_TX11_found (l : Launch) (D : va_G) (dA : Nat → ClassId) (cA : Nat → Nat) (hst : l.stackTraces = false) (sz : Nat) (p0 : Int32) (rx : Nat) (hf : f_TX11_found p0 = some rx) : vx_Met l yX11_found (wo (.code yX11_found cX11_found 1 (some .int))) ({ frames := 6, cells := 1, slots := 6, locals := 100 } : Room) (preX D dA cA [.int p0] sz []) noQ (xcQ D (exs rx) [] (va_A [] sz)) 1 6 (va_A [] sz) := by
  refine of_Z (y := yX11_found) (cc := cX11_found) (maxL := 1) (ret := (some .int)) (av := [.int p0]) (ws := []) (sz := sz) (own := RX11) (XC := fun A => xcQ D (exs rx) [] A) (by decide) rfl (Nat.le_of_ble_eq_true rfl) ?_
  intro p e s m below meth c A hx hb hr ha hown hml hlocks hin hno hP hK hD hX hS hA ls hl
  have hC := hX.1
  have hl : lv_has ls 1 [(0, .int p0)] := hl
  rw [f_TX11_found] at hf
  refine lv_iload_n hx hb dX11_found_0 rfl (lv_at hl 0 rfl) ?_
  refine lv_iconst (v := -1) hx hb dX11_found_1 (by decide) ?_
  refine lv_icmp_ne (tgt := 16) hx hb dX11_found_2 (by decide) (fun hc => ?_) (fun hc => ?_)
  · have hf := sf_bn hf hc
    refine lv_iload_n hx hb dX11_found_16 rfl (lv_at hl 0 rfl) ?_
    cases hf
  · have hf := sf_bp hf hc
    cases hf
    exact th_SXW (E := exs 4) (text := "there is no such minute") (sa := cA 42) nsx_4_0 nsx_4_1 nsx_4_2 nsx_4_5 hx hb hst hown ha hX hS (hP.sub [] rfl) (hD.sub [] (by decide) rfl) hlocks hno (hl.1.trans hml.symm) m_543 m_53 (hC.2.2.1 (RX11, 401, "there is no such minute", 42) (List.mem_of_getElem? (i := 19) rfl)) exg_129 exb_129 exo_129 exf_129 dX11_found_5 dX11_found_8 dX11_found_9 dX11_found_12 dX11_found_15 ⟨by decide, by decide, by decide, by decide⟩ ⟨by decide, by decide⟩

def f_X11_firstFree (on : Int32) (sc : Int32) (sd : Nat → Int32) (bc : Int32) (bs : Nat → Int32) (bt : Nat → Int32) (be : Nat → Int32) (p0 : Int32) (p1 : Int32) : Option Int32 :=
  sf_c0 (f_X11_checkSlide sc p0) (fun _ => sf_c0 (f_X11_checkBookableMinute on p1) (fun _ => sf_c1 (f_X8_freeMinuteByTrying on sd bc bs bt be p0 p1) (fun r_1 => sf_c1 (f_X11_found r_1) (fun r_2 => some r_2))))
theorem yd_X11_firstFree : yX11_firstFree.cls = RX11 ∧ yX11_firstFree.cls ≠ "java/lang/invoke/MethodHandle" ∧ yX11_firstFree.cls ≠ "java/lang/invoke/VarHandle" ∧ (parseMethodDescriptor yX11_firstFree.desc).map (fun d => d.parameters.length) = some 2 := ⟨rfl, by decide, by decide, by decide +kernel⟩
set_option maxRecDepth 100000 in
set_option maxHeartbeats 4000000 in
theorem c_X11_firstFree (l : Launch) (D : va_G) (dA : Nat → ClassId) (cA : Nat → Nat) (h0 h1 h2 h3 h4 h5 h6 h7 h8 h9 h10 h11 h12 h13 h14 h15 h16 h17 h18 h19 h20 h21 h41 h43 h46 h49 : Nat) (on : Int32) (ot : Int32) (op : Int32) (os : Int32) (sc : Int32) (sd : Nat → Int32) (sp : Nat → Int32) (sw : Nat → Int32) (gc : Int32) (gp : Nat → Int32) (gr : Nat → Int32) (bc : Int32) (bg : Nat → Int32) (bs : Nat → Int32) (bt : Nat → Int32) (be : Nat → Int32) (ql : Nat → Int32) (qg : Nat → Int32) (fc : Int32) (fg : Nat → Int32) (fs : Nat → Int32) (fm : Nat → Int32) (xi : Int32) (xe : Int32) (xf : Int32) (p0 : Int32) (p1 : Int32) (rr : Int32) (hf : f_X11_firstFree on sc sd bc bs bt be p0 p1 = some rr) : Met l yX11_firstFree (wo (.code yX11_firstFree cX11_firstFree 3 (some .int))) ({ frames := 4, cells := 0, slots := 0, locals := 92 } : Room) (preY D dA cA [.ref h0, .int p0, .int p1] [(h0, .inr (9, [.ref h1, .ref h21, .int xi, .ref h41, .ref h43, .ref h46, .ref h49, .int xe, .int xf])), (h1, .inr (6, [.int on, .int ot, .int op, .int os, .ref h2, .ref h6, .ref h9, .ref h14, .ref h17])), (h2, .inr (8, [.int sc, .ref h3, .ref h4, .ref h5])), (h3, .inl (dA 0, 4, .inl sd)), (h4, .inl (dA 0, 4, .inl sp)), (h5, .inl (dA 0, 4, .inl sw)), (h6, .inr (4, [.int gc, .ref h7, .ref h8])), (h7, .inl (dA 0, 10, .inl gp)), (h8, .inl (dA 0, 10, .inl gr)), (h9, .inr (0, [.int bc, .ref h10, .ref h11, .ref h12, .ref h13])), (h10, .inl (dA 0, 12, .inl bg)), (h11, .inl (dA 0, 12, .inl bs)), (h12, .inl (dA 0, 12, .inl bt)), (h13, .inl (dA 0, 12, .inl be)), (h14, .inr (7, [.ref h15, .ref h16])), (h15, .inl (dA 0, 4, .inl ql)), (h16, .inl (dA 0, 20, .inl qg)), (h17, .inr (3, [.int fc, .ref h18, .ref h19, .ref h20])), (h18, .inl (dA 0, 16, .inl fg)), (h19, .inl (dA 0, 16, .inl fs)), (h20, .inl (dA 0, 16, .inl fm))]) (poPi rr) 0 0 noA := by
  refine of_Y (y := yX11_firstFree) (cc := cX11_firstFree) (maxL := 3) (ret := (some .int)) (av := [.ref h0, .int p0, .int p1]) (ws := [(h0, .inr (9, [.ref h1, .ref h21, .int xi, .ref h41, .ref h43, .ref h46, .ref h49, .int xe, .int xf])), (h1, .inr (6, [.int on, .int ot, .int op, .int os, .ref h2, .ref h6, .ref h9, .ref h14, .ref h17])), (h2, .inr (8, [.int sc, .ref h3, .ref h4, .ref h5])), (h3, .inl (dA 0, 4, .inl sd)), (h4, .inl (dA 0, 4, .inl sp)), (h5, .inl (dA 0, 4, .inl sw)), (h6, .inr (4, [.int gc, .ref h7, .ref h8])), (h7, .inl (dA 0, 10, .inl gp)), (h8, .inl (dA 0, 10, .inl gr)), (h9, .inr (0, [.int bc, .ref h10, .ref h11, .ref h12, .ref h13])), (h10, .inl (dA 0, 12, .inl bg)), (h11, .inl (dA 0, 12, .inl bs)), (h12, .inl (dA 0, 12, .inl bt)), (h13, .inl (dA 0, 12, .inl be)), (h14, .inr (7, [.ref h15, .ref h16])), (h15, .inl (dA 0, 4, .inl ql)), (h16, .inl (dA 0, 20, .inl qg)), (h17, .inr (3, [.int fc, .ref h18, .ref h19, .ref h20])), (h18, .inl (dA 0, 16, .inl fg)), (h19, .inl (dA 0, 16, .inl fs)), (h20, .inl (dA 0, 16, .inl fm))]) (own := RX11) (by decide) rfl (Nat.le_of_ble_eq_true rfl) ?_
  intro p e s m below meth c hx hb hr ha hown hml hlocks hP hK hX hS ls hl
  have hC := hX.1
  have hl : lv_has ls 3 [(0, .ref h0), (1, .int p0), (2, .int p1)] := hl
  rw [f_X11_firstFree] at hf
  refine lv_aload_n hx hb dX11_firstFree_0 rfl (lv_at hl 0 rfl) ?_
  refine lv_iload_n hx hb dX11_firstFree_1 rfl (lv_at hl 1 rfl) ?_
  obtain ⟨hc0, hf⟩ := sf_c0e hf
  refine k_Pv (run_YV (As := [.int p0]) (rest := []) ⟨hx, hb, hml, hown, ha⟩ (c_X11_checkSlide l D dA cA h0 h1 h2 h3 h4 h5 h6 h9 h14 h17 h21 h41 h43 h46 h49   on ot op os sc sd sp sw xi xe xf p0  hc0) (gi_V m_776 m_778 m_12 m_31 m_779) yd_X11_checkSlide ⟨Nat.le_of_ble_eq_true rfl, Nat.le_of_ble_eq_true rfl⟩ ⟨rfl, rfl⟩ hK hX hS hP [0, 1, 2, 3, 4, 5] rfl (va_recv hK hP (q0 := 0) rfl rfl) rfl hl.1 rfl (Nat.le_of_ble_eq_true rfl) dX11_firstFree_2 ⟨Nat.le_of_ble_eq_true rfl, Nat.le_of_ble_eq_true rfl⟩) hP hS (fun H locs hP hS => ?_)
  refine lv_aload_n hx hb dX11_firstFree_5 rfl (lv_at hl 0 rfl) ?_
  refine lv_iload_n hx hb dX11_firstFree_6 rfl (lv_at hl 2 rfl) ?_
  obtain ⟨hc0, hf⟩ := sf_c0e hf
  refine k_Pv (run_YV (As := [.int p1]) (rest := []) ⟨hx, hb, hml, hown, ha⟩ (c_X11_checkBookableMinute l D dA cA h0 h1 h2 h3 h4 h5 h6 h7 h8 h9 h10 h11 h12 h13 h14 h15 h16 h17 h18 h19 h20 h21 h41 h43 h46 h49   on ot op os sc sd sp sw gc gp gr bc bg bs bt be ql qg fc fg fs fm xi xe xf p1  hc0) (gi_V m_937 m_939 m_17 m_31 m_940) yd_X11_checkBookableMinute ⟨Nat.le_of_ble_eq_true rfl, Nat.le_of_ble_eq_true rfl⟩ ⟨rfl, rfl⟩ hK hX hS hP [0, 1, 2, 3, 4, 5, 6, 7, 8, 9, 10, 11, 12, 13, 14, 15, 16, 17, 18, 19, 20] rfl (va_recv hK hP (q0 := 0) rfl rfl) rfl hl.1 rfl (Nat.le_of_ble_eq_true rfl) dX11_firstFree_7 ⟨Nat.le_of_ble_eq_true rfl, Nat.le_of_ble_eq_true rfl⟩) hP hS (fun H locs hP hS => ?_)
  refine lv_aload_n hx hb dX11_firstFree_10 rfl (lv_at hl 0 rfl) ?_
  refine gt_f (C := RX11) (T := TX11) (N := 9) hx hb ha in_X11 hown hK hP 0 rfl rfl 0 (by decide) m_332 rfl dX11_firstFree_11 ?_
  refine lv_iload_n hx hb dX11_firstFree_14 rfl (lv_at hl 1 rfl) ?_
  refine lv_iload_n hx hb dX11_firstFree_15 rfl (lv_at hl 2 rfl) ?_
  obtain ⟨r_1, hc1, hf⟩ := sf_c1e hf
  refine k_Pi (run_PV (As := [.int p0, .int p1]) (rest := []) ⟨hx, hb, hml, hown, ha⟩ (c_X8_freeMinuteByTrying l D dA h1 h2 h3 h4 h5 h6 h7 h8 h9 h10 h11 h12 h13 h14 h15 h16 h17 h18 h19 h20   on ot op os sc sd sp sw gc gp gr bc bg bs bt be ql qg fc fg fs fm p0 p1 _ hc1) (gi_V m_958 m_959 m_960 m_32 m_961) yd_X8_freeMinuteByTrying ⟨Nat.le_of_ble_eq_true rfl, Nat.le_of_ble_eq_true rfl⟩ ⟨rfl, rfl⟩ hK hP [1, 2, 3, 4, 5, 6, 7, 8, 9, 10, 11, 12, 13, 14, 15, 16, 17, 18, 19, 20] rfl 1 6 rfl rfl rfl rfl hl.1 rfl (Nat.le_of_ble_eq_true rfl) dX11_firstFree_16 ⟨Nat.le_of_ble_eq_true rfl, Nat.le_of_ble_eq_true rfl⟩) hP hS (fun H locs hP hS => ?_)
  obtain ⟨r_2, hc2, hf⟩ := sf_c1e hf
  refine k_Pi (run_YS (As := [.int r_1]) (rest := []) ⟨hx, hb, hml, hown, ha⟩ (c_X11_found l D dA cA     r_1 _ hc2) (gi_S2 m_963 m_964 m_31 m_965) (yd_X11_found).2 ⟨Nat.le_of_ble_eq_true rfl, Nat.le_of_ble_eq_true rfl⟩ ⟨rfl, rfl⟩ hK hX hS hP [] rfl rfl hl.1 rfl (Nat.le_of_ble_eq_true rfl) dX11_firstFree_19 ⟨Nat.le_of_ble_eq_true rfl, Nat.le_of_ble_eq_true rfl⟩) hP hS (fun H locs hP hS => ?_)
  exact rt_Pi hx hb hr hlocks (Option.some.inj hf) hS dX11_firstFree_22

def f_TX11_firstFree (on : Int32) (sc : Int32) (sd : Nat → Int32) (bc : Int32) (bs : Nat → Int32) (bt : Nat → Int32) (be : Nat → Int32) (p0 : Int32) (p1 : Int32) : Option Nat :=
  sf_t1 (f_TX11_checkSlide sc p0) (fun k_1 => some k_1) (sf_c0 (f_X11_checkSlide sc p0) (fun _ => sf_t1 (f_TX11_checkBookableMinute on p1) (fun k_2 => some k_2) (sf_c0 (f_X11_checkBookableMinute on p1) (fun _ => sf_c1 (f_X8_freeMinuteByTrying on sd bc bs bt be p0 p1) (fun r_3 => sf_t1 (f_TX11_found r_3) (fun k_4 => some k_4) (sf_c1 (f_X11_found r_3) (fun r_5 => none)))))))
theorem yd_TX11_firstFree : yX11_firstFree.cls = RX11 ∧ yX11_firstFree.cls ≠ "java/lang/invoke/MethodHandle" ∧ yX11_firstFree.cls ≠ "java/lang/invoke/VarHandle" ∧ (parseMethodDescriptor yX11_firstFree.desc).map (fun d => d.parameters.length) = some 2 := ⟨rfl, by decide, by decide, by decide +kernel⟩
set_option maxRecDepth 100000 in
set_option maxHeartbeats 4000000 in
theorem c_TX11_firstFree (l : Launch) (D : va_G) (dA : Nat → ClassId) (cA : Nat → Nat) (hst : l.stackTraces = false) (h0 h1 h2 h3 h4 h5 h6 h7 h8 h9 h10 h11 h12 h13 h14 h15 h16 h17 h18 h19 h20 h21 h41 h43 h46 h49 : Nat) (sz : Nat) (on : Int32) (ot : Int32) (op : Int32) (os : Int32) (sc : Int32) (sd : Nat → Int32) (sp : Nat → Int32) (sw : Nat → Int32) (gc : Int32) (gp : Nat → Int32) (gr : Nat → Int32) (bc : Int32) (bg : Nat → Int32) (bs : Nat → Int32) (bt : Nat → Int32) (be : Nat → Int32) (ql : Nat → Int32) (qg : Nat → Int32) (fc : Int32) (fg : Nat → Int32) (fs : Nat → Int32) (fm : Nat → Int32) (xi : Int32) (xe : Int32) (xf : Int32) (p0 : Int32) (p1 : Int32) (rx : Nat) (hf : f_TX11_firstFree on sc sd bc bs bt be p0 p1 = some rx) : vx_Met l yX11_firstFree (wo (.code yX11_firstFree cX11_firstFree 3 (some .int))) ({ frames := 7, cells := 1, slots := 6, locals := 121 } : Room) (preX D dA cA [.ref h0, .int p0, .int p1] sz [(h0, .inr (9, [.ref h1, .ref h21, .int xi, .ref h41, .ref h43, .ref h46, .ref h49, .int xe, .int xf])), (h1, .inr (6, [.int on, .int ot, .int op, .int os, .ref h2, .ref h6, .ref h9, .ref h14, .ref h17])), (h2, .inr (8, [.int sc, .ref h3, .ref h4, .ref h5])), (h3, .inl (dA 0, 4, .inl sd)), (h4, .inl (dA 0, 4, .inl sp)), (h5, .inl (dA 0, 4, .inl sw)), (h6, .inr (4, [.int gc, .ref h7, .ref h8])), (h7, .inl (dA 0, 10, .inl gp)), (h8, .inl (dA 0, 10, .inl gr)), (h9, .inr (0, [.int bc, .ref h10, .ref h11, .ref h12, .ref h13])), (h10, .inl (dA 0, 12, .inl bg)), (h11, .inl (dA 0, 12, .inl bs)), (h12, .inl (dA 0, 12, .inl bt)), (h13, .inl (dA 0, 12, .inl be)), (h14, .inr (7, [.ref h15, .ref h16])), (h15, .inl (dA 0, 4, .inl ql)), (h16, .inl (dA 0, 20, .inl qg)), (h17, .inr (3, [.int fc, .ref h18, .ref h19, .ref h20])), (h18, .inl (dA 0, 16, .inl fg)), (h19, .inl (dA 0, 16, .inl fs)), (h20, .inl (dA 0, 16, .inl fm))]) noQ (xcQ D (exs rx) [(h0, .inr (9, [.ref h1, .ref h21, .int xi, .ref h41, .ref h43, .ref h46, .ref h49, .int xe, .int xf])), (h1, .inr (6, [.int on, .int ot, .int op, .int os, .ref h2, .ref h6, .ref h9, .ref h14, .ref h17])), (h2, .inr (8, [.int sc, .ref h3, .ref h4, .ref h5])), (h3, .inl (dA 0, 4, .inl sd)), (h4, .inl (dA 0, 4, .inl sp)), (h5, .inl (dA 0, 4, .inl sw)), (h6, .inr (4, [.int gc, .ref h7, .ref h8])), (h7, .inl (dA 0, 10, .inl gp)), (h8, .inl (dA 0, 10, .inl gr)), (h9, .inr (0, [.int bc, .ref h10, .ref h11, .ref h12, .ref h13])), (h10, .inl (dA 0, 12, .inl bg)), (h11, .inl (dA 0, 12, .inl bs)), (h12, .inl (dA 0, 12, .inl bt)), (h13, .inl (dA 0, 12, .inl be)), (h14, .inr (7, [.ref h15, .ref h16])), (h15, .inl (dA 0, 4, .inl ql)), (h16, .inl (dA 0, 20, .inl qg)), (h17, .inr (3, [.int fc, .ref h18, .ref h19, .ref h20])), (h18, .inl (dA 0, 16, .inl fg)), (h19, .inl (dA 0, 16, .inl fs)), (h20, .inl (dA 0, 16, .inl fm))] (va_A [(h0, .inr (9, [.ref h1, .ref h21, .int xi, .ref h41, .ref h43, .ref h46, .ref h49, .int xe, .int xf])), (h1, .inr (6, [.int on, .int ot, .int op, .int os, .ref h2, .ref h6, .ref h9, .ref h14, .ref h17])), (h2, .inr (8, [.int sc, .ref h3, .ref h4, .ref h5])), (h3, .inl (dA 0, 4, .inl sd)), (h4, .inl (dA 0, 4, .inl sp)), (h5, .inl (dA 0, 4, .inl sw)), (h6, .inr (4, [.int gc, .ref h7, .ref h8])), (h7, .inl (dA 0, 10, .inl gp)), (h8, .inl (dA 0, 10, .inl gr)), (h9, .inr (0, [.int bc, .ref h10, .ref h11, .ref h12, .ref h13])), (h10, .inl (dA 0, 12, .inl bg)), (h11, .inl (dA 0, 12, .inl bs)), (h12, .inl (dA 0, 12, .inl bt)), (h13, .inl (dA 0, 12, .inl be)), (h14, .inr (7, [.ref h15, .ref h16])), (h15, .inl (dA 0, 4, .inl ql)), (h16, .inl (dA 0, 20, .inl qg)), (h17, .inr (3, [.int fc, .ref h18, .ref h19, .ref h20])), (h18, .inl (dA 0, 16, .inl fg)), (h19, .inl (dA 0, 16, .inl fs)), (h20, .inl (dA 0, 16, .inl fm))] sz)) 1 6 (va_A [(h0, .inr (9, [.ref h1, .ref h21, .int xi, .ref h41, .ref h43, .ref h46, .ref h49, .int xe, .int xf])), (h1, .inr (6, [.int on, .int ot, .int op, .int os, .ref h2, .ref h6, .ref h9, .ref h14, .ref h17])), (h2, .inr (8, [.int sc, .ref h3, .ref h4, .ref h5])), (h3, .inl (dA 0, 4, .inl sd)), (h4, .inl (dA 0, 4, .inl sp)), (h5, .inl (dA 0, 4, .inl sw)), (h6, .inr (4, [.int gc, .ref h7, .ref h8])), (h7, .inl (dA 0, 10, .inl gp)), (h8, .inl (dA 0, 10, .inl gr)), (h9, .inr (0, [.int bc, .ref h10, .ref h11, .ref h12, .ref h13])), (h10, .inl (dA 0, 12, .inl bg)), (h11, .inl (dA 0, 12, .inl bs)), (h12, .inl (dA 0, 12, .inl bt)), (h13, .inl (dA 0, 12, .inl be)), (h14, .inr (7, [.ref h15, .ref h16])), (h15, .inl (dA 0, 4, .inl ql)), (h16, .inl (dA 0, 20, .inl qg)), (h17, .inr (3, [.int fc, .ref h18, .ref h19, .ref h20])), (h18, .inl (dA 0, 16, .inl fg)), (h19, .inl (dA 0, 16, .inl fs)), (h20, .inl (dA 0, 16, .inl fm))] sz) := by
  refine of_Z (y := yX11_firstFree) (cc := cX11_firstFree) (maxL := 3) (ret := (some .int)) (av := [.ref h0, .int p0, .int p1]) (ws := [(h0, .inr (9, [.ref h1, .ref h21, .int xi, .ref h41, .ref h43, .ref h46, .ref h49, .int xe, .int xf])), (h1, .inr (6, [.int on, .int ot, .int op, .int os, .ref h2, .ref h6, .ref h9, .ref h14, .ref h17])), (h2, .inr (8, [.int sc, .ref h3, .ref h4, .ref h5])), (h3, .inl (dA 0, 4, .inl sd)), (h4, .inl (dA 0, 4, .inl sp)), (h5, .inl (dA 0, 4, .inl sw)), (h6, .inr (4, [.int gc, .ref h7, .ref h8])), (h7, .inl (dA 0, 10, .inl gp)), (h8, .inl (dA 0, 10, .inl gr)), (h9, .inr (0, [.int bc, .ref h10, .ref h11, .ref h12, .ref h13])), (h10, .inl (dA 0, 12, .inl bg)), (h11, .inl (dA 0, 12, .inl bs)), (h12, .inl (dA 0, 12, .inl bt)), (h13, .inl (dA 0, 12, .inl be)), (h14, .inr (7, [.ref h15, .ref h16])), (h15, .inl (dA 0, 4, .inl ql)), (h16, .inl (dA 0, 20, .inl qg)), (h17, .inr (3, [.int fc, .ref h18, .ref h19, .ref h20])), (h18, .inl (dA 0, 16, .inl fg)), (h19, .inl (dA 0, 16, .inl fs)), (h20, .inl (dA 0, 16, .inl fm))]) (sz := sz) (own := RX11) (XC := fun A => xcQ D (exs rx) [(h0, .inr (9, [.ref h1, .ref h21, .int xi, .ref h41, .ref h43, .ref h46, .ref h49, .int xe, .int xf])), (h1, .inr (6, [.int on, .int ot, .int op, .int os, .ref h2, .ref h6, .ref h9, .ref h14, .ref h17])), (h2, .inr (8, [.int sc, .ref h3, .ref h4, .ref h5])), (h3, .inl (dA 0, 4, .inl sd)), (h4, .inl (dA 0, 4, .inl sp)), (h5, .inl (dA 0, 4, .inl sw)), (h6, .inr (4, [.int gc, .ref h7, .ref h8])), (h7, .inl (dA 0, 10, .inl gp)), (h8, .inl (dA 0, 10, .inl gr)), (h9, .inr (0, [.int bc, .ref h10, .ref h11, .ref h12, .ref h13])), (h10, .inl (dA 0, 12, .inl bg)), (h11, .inl (dA 0, 12, .inl bs)), (h12, .inl (dA 0, 12, .inl bt)), (h13, .inl (dA 0, 12, .inl be)), (h14, .inr (7, [.ref h15, .ref h16])), (h15, .inl (dA 0, 4, .inl ql)), (h16, .inl (dA 0, 20, .inl qg)), (h17, .inr (3, [.int fc, .ref h18, .ref h19, .ref h20])), (h18, .inl (dA 0, 16, .inl fg)), (h19, .inl (dA 0, 16, .inl fs)), (h20, .inl (dA 0, 16, .inl fm))] A) (by decide) rfl (Nat.le_of_ble_eq_true rfl) ?_
  intro p e s m below meth c A hx hb hr ha hown hml hlocks hin hno hP hK hD hX hS hA ls hl
  have hC := hX.1
  have hl : lv_has ls 3 [(0, .ref h0), (1, .int p0), (2, .int p1)] := hl
  rw [f_TX11_firstFree] at hf
  refine lv_aload_n hx hb dX11_firstFree_0 rfl (lv_at hl 0 rfl) ?_
  refine lv_iload_n hx hb dX11_firstFree_1 rfl (lv_at hl 1 rfl) ?_
  rcases sf_t1e hf with ⟨hnt, hf⟩ | ⟨k_1, hc1, hf⟩
  · skip
    obtain ⟨hc1, hf⟩ := sf_c0e hf
    refine k_Pv (run_YV (As := [.int p0]) (rest := []) ⟨hx, hb, hml, hown, ha⟩ (c_X11_checkSlide l D dA cA h0 h1 h2 h3 h4 h5 h6 h9 h14 h17 h21 h41 h43 h46 h49   on ot op os sc sd sp sw xi xe xf p0  hc1) (gi_V m_776 m_778 m_12 m_31 m_779) yd_X11_checkSlide ⟨Nat.le_of_ble_eq_true rfl, Nat.le_of_ble_eq_true rfl⟩ ⟨rfl, rfl⟩ hK hX hS hP [0, 1, 2, 3, 4, 5] rfl (va_recv hK hP (q0 := 0) rfl rfl) rfl hl.1 rfl (Nat.le_of_ble_eq_true rfl) dX11_firstFree_2 ⟨Nat.le_of_ble_eq_true rfl, Nat.le_of_ble_eq_true rfl⟩) hP hS (fun H locs hP hS => ?_)
    refine lv_aload_n hx hb dX11_firstFree_5 rfl (lv_at hl 0 rfl) ?_
    refine lv_iload_n hx hb dX11_firstFree_6 rfl (lv_at hl 2 rfl) ?_
    rcases sf_t1e hf with ⟨hnt, hf⟩ | ⟨k_2, hc2, hf⟩
    · skip
      obtain ⟨hc2, hf⟩ := sf_c0e hf
      refine k_Pv (run_YV (As := [.int p1]) (rest := []) ⟨hx, hb, hml, hown, ha⟩ (c_X11_checkBookableMinute l D dA cA h0 h1 h2 h3 h4 h5 h6 h7 h8 h9 h10 h11 h12 h13 h14 h15 h16 h17 h18 h19 h20 h21 h41 h43 h46 h49   on ot op os sc sd sp sw gc gp gr bc bg bs bt be ql qg fc fg fs fm xi xe xf p1  hc2) (gi_V m_937 m_939 m_17 m_31 m_940) yd_X11_checkBookableMinute ⟨Nat.le_of_ble_eq_true rfl, Nat.le_of_ble_eq_true rfl⟩ ⟨rfl, rfl⟩ hK hX hS hP [0, 1, 2, 3, 4, 5, 6, 7, 8, 9, 10, 11, 12, 13, 14, 15, 16, 17, 18, 19, 20] rfl (va_recv hK hP (q0 := 0) rfl rfl) rfl hl.1 rfl (Nat.le_of_ble_eq_true rfl) dX11_firstFree_7 ⟨Nat.le_of_ble_eq_true rfl, Nat.le_of_ble_eq_true rfl⟩) hP hS (fun H locs hP hS => ?_)
      refine lv_aload_n hx hb dX11_firstFree_10 rfl (lv_at hl 0 rfl) ?_
      refine gt_f (C := RX11) (T := TX11) (N := 9) hx hb ha in_X11 hown hK hP 0 rfl rfl 0 (by decide) m_332 rfl dX11_firstFree_11 ?_
      refine lv_iload_n hx hb dX11_firstFree_14 rfl (lv_at hl 1 rfl) ?_
      refine lv_iload_n hx hb dX11_firstFree_15 rfl (lv_at hl 2 rfl) ?_
      obtain ⟨r_3, hc3, hf⟩ := sf_c1e hf
      refine k_Pi (run_PV (As := [.int p0, .int p1]) (rest := []) ⟨hx, hb, hml, hown, ha⟩ (c_X8_freeMinuteByTrying l D dA h1 h2 h3 h4 h5 h6 h7 h8 h9 h10 h11 h12 h13 h14 h15 h16 h17 h18 h19 h20   on ot op os sc sd sp sw gc gp gr bc bg bs bt be ql qg fc fg fs fm p0 p1 _ hc3) (gi_V m_958 m_959 m_960 m_32 m_961) yd_X8_freeMinuteByTrying ⟨Nat.le_of_ble_eq_true rfl, Nat.le_of_ble_eq_true rfl⟩ ⟨rfl, rfl⟩ hK hP [1, 2, 3, 4, 5, 6, 7, 8, 9, 10, 11, 12, 13, 14, 15, 16, 17, 18, 19, 20] rfl 1 6 rfl rfl rfl rfl hl.1 rfl (Nat.le_of_ble_eq_true rfl) dX11_firstFree_16 ⟨Nat.le_of_ble_eq_true rfl, Nat.le_of_ble_eq_true rfl⟩) hP hS (fun H locs hP hS => ?_)
      rcases sf_t1e hf with ⟨hnt, hf⟩ | ⟨k_4, hc4, hf⟩
      · skip
        obtain ⟨r_5, hc5, hf⟩ := sf_c1e hf
        refine k_Pi (run_YS (As := [.int r_3]) (rest := []) ⟨hx, hb, hml, hown, ha⟩ (c_X11_found l D dA cA     r_3 _ hc5) (gi_S2 m_963 m_964 m_31 m_965) (yd_X11_found).2 ⟨Nat.le_of_ble_eq_true rfl, Nat.le_of_ble_eq_true rfl⟩ ⟨rfl, rfl⟩ hK hX hS hP [] rfl rfl hl.1 rfl (Nat.le_of_ble_eq_true rfl) dX11_firstFree_19 ⟨Nat.le_of_ble_eq_true rfl, Nat.le_of_ble_eq_true rfl⟩) hP hS (fun H locs hP hS => ?_)
        cases hf
      · skip
        refine k_Z (wr := [(h0, .inr (9, [.ref h1, .ref h21, .int xi, .ref h41, .ref h43, .ref h46, .ref h49, .int xe, .int xf])), (h1, .inr (6, [.int on, .int ot, .int op, .int os, .ref h2, .ref h6, .ref h9, .ref h14, .ref h17])), (h2, .inr (8, [.int sc, .ref h3, .ref h4, .ref h5])), (h3, .inl (dA 0, 4, .inl sd)), (h4, .inl (dA 0, 4, .inl sp)), (h5, .inl (dA 0, 4, .inl sw)), (h6, .inr (4, [.int gc, .ref h7, .ref h8])), (h7, .inl (dA 0, 10, .inl gp)), (h8, .inl (dA 0, 10, .inl gr)), (h9, .inr (0, [.int bc, .ref h10, .ref h11, .ref h12, .ref h13])), (h10, .inl (dA 0, 12, .inl bg)), (h11, .inl (dA 0, 12, .inl bs)), (h12, .inl (dA 0, 12, .inl bt)), (h13, .inl (dA 0, 12, .inl be)), (h14, .inr (7, [.ref h15, .ref h16])), (h15, .inl (dA 0, 4, .inl ql)), (h16, .inl (dA 0, 20, .inl qg)), (h17, .inr (3, [.int fc, .ref h18, .ref h19, .ref h20])), (h18, .inl (dA 0, 16, .inl fg)), (h19, .inl (dA 0, 16, .inl fs)), (h20, .inl (dA 0, 16, .inl fm))]) (run_ZS (As := [.int r_3]) (rest := []) ⟨hx, hb, hml, hown, ha⟩ (c_TX11_found l D dA cA hst   _  r_3 _ hc4) (gi_S2 m_963 m_964 m_31 m_965) (yd_TX11_found).2 ⟨Nat.le_of_ble_eq_true rfl, Nat.le_of_ble_eq_true rfl⟩ ⟨rfl, rfl⟩ hK hX hS hA hP hD [] (by decide) rfl rfl hl.1 rfl (Nat.le_of_ble_eq_true rfl) dX11_firstFree_19 ⟨Nat.le_of_ble_eq_true rfl, Nat.le_of_ble_eq_true rfl⟩) hP hD hS hA [] [0, 1, 2, 3, 4, 5, 6, 7, 8, 9, 10, 11, 12, 13, 14, 15, 16, 17, 18, 19, 20] rfl rfl (by decide) (by decide) (fun q9 H locs hP hD hS ht9 => ?_)
        cases hf
        exact px_o hno hlocks ht9 (hP.sub [0, 1, 2, 3, 4, 5, 6, 7, 8, 9, 10, 11, 12, 13, 14, 15, 16, 17, 18, 19, 20] rfl) (hD.sub [0, 1, 2, 3, 4, 5, 6, 7, 8, 9, 10, 11, 12, 13, 14, 15, 16, 17, 18, 19, 20] (by decide) rfl) hS (by decide) (by decide)
    · skip
      refine k_Z (wr := []) (run_ZV (As := [.int p1]) (rest := []) ⟨hx, hb, hml, hown, ha⟩ (c_TX11_checkBookableMinute l D dA cA hst h0 h1 h2 h3 h4 h5 h6 h7 h8 h9 h10 h11 h12 h13 h14 h15 h16 h17 h18 h19 h20 h21 h41 h43 h46 h49  _ on ot op os sc sd sp sw gc gp gr bc bg bs bt be ql qg fc fg fs fm xi xe xf p1 _ hc2) (gi_V m_937 m_939 m_17 m_31 m_940) yd_TX11_checkBookableMinute ⟨Nat.le_of_ble_eq_true rfl, Nat.le_of_ble_eq_true rfl⟩ ⟨rfl, rfl⟩ hK hX hS hA hP hD [0, 1, 2, 3, 4, 5, 6, 7, 8, 9, 10, 11, 12, 13, 14, 15, 16, 17, 18, 19, 20] (by decide) rfl (va_recv hK hP (q0 := 0) rfl rfl) rfl hl.1 rfl (Nat.le_of_ble_eq_true rfl) dX11_firstFree_7 ⟨Nat.le_of_ble_eq_true rfl, Nat.le_of_ble_eq_true rfl⟩) hP hD hS hA [0, 1, 2, 3, 4, 5, 6, 7, 8, 9, 10, 11, 12, 13, 14, 15, 16, 17, 18, 19, 20] [] rfl rfl (by decide) (by decide) (fun q9 H locs hP hD hS ht9 => ?_)
      cases hf
      exact px_o hno hlocks ht9 (hP.sub [0, 1, 2, 3, 4, 5, 6, 7, 8, 9, 10, 11, 12, 13, 14, 15, 16, 17, 18, 19, 20] rfl) (hD.sub [0, 1, 2, 3, 4, 5, 6, 7, 8, 9, 10, 11, 12, 13, 14, 15, 16, 17, 18, 19, 20] (by decide) rfl) hS (by decide) (by decide)
  · skip
    refine k_Z (wr := [(h6, .inr (4, [.int gc, .ref h7, .ref h8])), (h7, .inl (dA 0, 10, .inl gp)), (h8, .inl (dA 0, 10, .inl gr)), (h9, .inr (0, [.int bc, .ref h10, .ref h11, .ref h12, .ref h13])), (h10, .inl (dA 0, 12, .inl bg)), (h11, .inl (dA 0, 12, .inl bs)), (h12, .inl (dA 0, 12, .inl bt)), (h13, .inl (dA 0, 12, .inl be)), (h14, .inr (7, [.ref h15, .ref h16])), (h15, .inl (dA 0, 4, .inl ql)), (h16, .inl (dA 0, 20, .inl qg)), (h17, .inr (3, [.int fc, .ref h18, .ref h19, .ref h20])), (h18, .inl (dA 0, 16, .inl fg)), (h19, .inl (dA 0, 16, .inl fs)), (h20, .inl (dA 0, 16, .inl fm))]) (run_ZV (As := [.int p0]) (rest := []) ⟨hx, hb, hml, hown, ha⟩ (c_TX11_checkSlide l D dA cA hst h0 h1 h2 h3 h4 h5 h6 h9 h14 h17 h21 h41 h43 h46 h49  _ on ot op os sc sd sp sw xi xe xf p0 _ hc1) (gi_V m_776 m_778 m_12 m_31 m_779) yd_TX11_checkSlide ⟨Nat.le_of_ble_eq_true rfl, Nat.le_of_ble_eq_true rfl⟩ ⟨rfl, rfl⟩ hK hX hS hA hP hD [0, 1, 2, 3, 4, 5] (by decide) rfl (va_recv hK hP (q0 := 0) rfl rfl) rfl hl.1 rfl (Nat.le_of_ble_eq_true rfl) dX11_firstFree_2 ⟨Nat.le_of_ble_eq_true rfl, Nat.le_of_ble_eq_true rfl⟩) hP hD hS hA [0, 1, 2, 3, 4, 5] [6, 7, 8, 9, 10, 11, 12, 13, 14, 15, 16, 17, 18, 19, 20] rfl rfl (by decide) (by decide) (fun q9 H locs hP hD hS ht9 => ?_)
    cases hf
    exact px_o hno hlocks ht9 (hP.sub [15, 16, 17, 18, 19, 20, 0, 1, 2, 3, 4, 5, 6, 7, 8, 9, 10, 11, 12, 13, 14] rfl) (hD.sub [15, 16, 17, 18, 19, 20, 0, 1, 2, 3, 4, 5, 6, 7, 8, 9, 10, 11, 12, 13, 14] (by decide) rfl) hS (by decide) (by decide)

def f_X11_firstFreeByGaps (on : Int32) (sc : Int32) (sd : Nat → Int32) (bc : Int32) (bs : Nat → Int32) (bt : Nat → Int32) (be : Nat → Int32) (p0 : Int32) (p1 : Int32) : Option Int32 :=
  sf_c0 (f_X11_checkSlide sc p0) (fun _ => sf_c0 (f_X11_checkBookableMinute on p1) (fun _ => sf_c1 (f_X8_freeMinuteByGaps on sd bc bs bt be p0 p1) (fun r_1 => sf_c1 (f_X11_found r_1) (fun r_2 => some r_2))))
theorem yd_X11_firstFreeByGaps : yX11_firstFreeByGaps.cls = RX11 ∧ yX11_firstFreeByGaps.cls ≠ "java/lang/invoke/MethodHandle" ∧ yX11_firstFreeByGaps.cls ≠ "java/lang/invoke/VarHandle" ∧ (parseMethodDescriptor yX11_firstFreeByGaps.desc).map (fun d => d.parameters.length) = some 2 := ⟨rfl, by decide, by decide, by decide +kernel⟩
set_option maxRecDepth 100000 in
set_option maxHeartbeats 4000000 in
theorem c_X11_firstFreeByGaps (l : Launch) (D : va_G) (dA : Nat → ClassId) (cA : Nat → Nat) (h0 h1 h2 h3 h4 h5 h6 h7 h8 h9 h10 h11 h12 h13 h14 h15 h16 h17 h18 h19 h20 h21 h41 h43 h46 h49 : Nat) (on : Int32) (ot : Int32) (op : Int32) (os : Int32) (sc : Int32) (sd : Nat → Int32) (sp : Nat → Int32) (sw : Nat → Int32) (gc : Int32) (gp : Nat → Int32) (gr : Nat → Int32) (bc : Int32) (bg : Nat → Int32) (bs : Nat → Int32) (bt : Nat → Int32) (be : Nat → Int32) (ql : Nat → Int32) (qg : Nat → Int32) (fc : Int32) (fg : Nat → Int32) (fs : Nat → Int32) (fm : Nat → Int32) (xi : Int32) (xe : Int32) (xf : Int32) (p0 : Int32) (p1 : Int32) (rr : Int32) (hf : f_X11_firstFreeByGaps on sc sd bc bs bt be p0 p1 = some rr) : Met l yX11_firstFreeByGaps (wo (.code yX11_firstFreeByGaps cX11_firstFreeByGaps 3 (some .int))) ({ frames := 2, cells := 0, slots := 0, locals := 106 } : Room) (preY D dA cA [.ref h0, .int p0, .int p1] [(h0, .inr (9, [.ref h1, .ref h21, .int xi, .ref h41, .ref h43, .ref h46, .ref h49, .int xe, .int xf])), (h1, .inr (6, [.int on, .int ot, .int op, .int os, .ref h2, .ref h6, .ref h9, .ref h14, .ref h17])), (h2, .inr (8, [.int sc, .ref h3, .ref h4, .ref h5])), (h3, .inl (dA 0, 4, .inl sd)), (h4, .inl (dA 0, 4, .inl sp)), (h5, .inl (dA 0, 4, .inl sw)), (h6, .inr (4, [.int gc, .ref h7, .ref h8])), (h7, .inl (dA 0, 10, .inl gp)), (h8, .inl (dA 0, 10, .inl gr)), (h9, .inr (0, [.int bc, .ref h10, .ref h11, .ref h12, .ref h13])), (h10, .inl (dA 0, 12, .inl bg)), (h11, .inl (dA 0, 12, .inl bs)), (h12, .inl (dA 0, 12, .inl bt)), (h13, .inl (dA 0, 12, .inl be)), (h14, .inr (7, [.ref h15, .ref h16])), (h15, .inl (dA 0, 4, .inl ql)), (h16, .inl (dA 0, 20, .inl qg)), (h17, .inr (3, [.int fc, .ref h18, .ref h19, .ref h20])), (h18, .inl (dA 0, 16, .inl fg)), (h19, .inl (dA 0, 16, .inl fs)), (h20, .inl (dA 0, 16, .inl fm))]) (poPi rr) 0 0 noA := by
  refine of_Y (y := yX11_firstFreeByGaps) (cc := cX11_firstFreeByGaps) (maxL := 3) (ret := (some .int)) (av := [.ref h0, .int p0, .int p1]) (ws := [(h0, .inr (9, [.ref h1, .ref h21, .int xi, .ref h41, .ref h43, .ref h46, .ref h49, .int xe, .int xf])), (h1, .inr (6, [.int on, .int ot, .int op, .int os, .ref h2, .ref h6, .ref h9, .ref h14, .ref h17])), (h2, .inr (8, [.int sc, .ref h3, .ref h4, .ref h5])), (h3, .inl (dA 0, 4, .inl sd)), (h4, .inl (dA 0, 4, .inl sp)), (h5, .inl (dA 0, 4, .inl sw)), (h6, .inr (4, [.int gc, .ref h7, .ref h8])), (h7, .inl (dA 0, 10, .inl gp)), (h8, .inl (dA 0, 10, .inl gr)), (h9, .inr (0, [.int bc, .ref h10, .ref h11, .ref h12, .ref h13])), (h10, .inl (dA 0, 12, .inl bg)), (h11, .inl (dA 0, 12, .inl bs)), (h12, .inl (dA 0, 12, .inl bt)), (h13, .inl (dA 0, 12, .inl be)), (h14, .inr (7, [.ref h15, .ref h16])), (h15, .inl (dA 0, 4, .inl ql)), (h16, .inl (dA 0, 20, .inl qg)), (h17, .inr (3, [.int fc, .ref h18, .ref h19, .ref h20])), (h18, .inl (dA 0, 16, .inl fg)), (h19, .inl (dA 0, 16, .inl fs)), (h20, .inl (dA 0, 16, .inl fm))]) (own := RX11) (by decide) rfl (Nat.le_of_ble_eq_true rfl) ?_
  intro p e s m below meth c hx hb hr ha hown hml hlocks hP hK hX hS ls hl
  have hC := hX.1
  have hl : lv_has ls 3 [(0, .ref h0), (1, .int p0), (2, .int p1)] := hl
  rw [f_X11_firstFreeByGaps] at hf
  refine lv_aload_n hx hb dX11_firstFreeByGaps_0 rfl (lv_at hl 0 rfl) ?_
  refine lv_iload_n hx hb dX11_firstFreeByGaps_1 rfl (lv_at hl 1 rfl) ?_
  obtain ⟨hc0, hf⟩ := sf_c0e hf
  refine k_Pv (run_YV (As := [.int p0]) (rest := []) ⟨hx, hb, hml, hown, ha⟩ (c_X11_checkSlide l D dA cA h0 h1 h2 h3 h4 h5 h6 h9 h14 h17 h21 h41 h43 h46 h49   on ot op os sc sd sp sw xi xe xf p0  hc0) (gi_V m_776 m_778 m_12 m_31 m_779) yd_X11_checkSlide ⟨Nat.le_of_ble_eq_true rfl, Nat.le_of_ble_eq_true rfl⟩ ⟨rfl, rfl⟩ hK hX hS hP [0, 1, 2, 3, 4, 5] rfl (va_recv hK hP (q0 := 0) rfl rfl) rfl hl.1 rfl (Nat.le_of_ble_eq_true rfl) dX11_firstFreeByGaps_2 ⟨Nat.le_of_ble_eq_true rfl, Nat.le_of_ble_eq_true rfl⟩) hP hS (fun H locs hP hS => ?_)
  refine lv_aload_n hx hb dX11_firstFreeByGaps_5 rfl (lv_at hl 0 rfl) ?_
  refine lv_iload_n hx hb dX11_firstFreeByGaps_6 rfl (lv_at hl 2 rfl) ?_
  obtain ⟨hc0, hf⟩ := sf_c0e hf
  refine k_Pv (run_YV (As := [.int p1]) (rest := []) ⟨hx, hb, hml, hown, ha⟩ (c_X11_checkBookableMinute l D dA cA h0 h1 h2 h3 h4 h5 h6 h7 h8 h9 h10 h11 h12 h13 h14 h15 h16 h17 h18 h19 h20 h21 h41 h43 h46 h49   on ot op os sc sd sp sw gc gp gr bc bg bs bt be ql qg fc fg fs fm xi xe xf p1  hc0) (gi_V m_937 m_939 m_17 m_31 m_940) yd_X11_checkBookableMinute ⟨Nat.le_of_ble_eq_true rfl, Nat.le_of_ble_eq_true rfl⟩ ⟨rfl, rfl⟩ hK hX hS hP [0, 1, 2, 3, 4, 5, 6, 7, 8, 9, 10, 11, 12, 13, 14, 15, 16, 17, 18, 19, 20] rfl (va_recv hK hP (q0 := 0) rfl rfl) rfl hl.1 rfl (Nat.le_of_ble_eq_true rfl) dX11_firstFreeByGaps_7 ⟨Nat.le_of_ble_eq_true rfl, Nat.le_of_ble_eq_true rfl⟩) hP hS (fun H locs hP hS => ?_)
  refine lv_aload_n hx hb dX11_firstFreeByGaps_10 rfl (lv_at hl 0 rfl) ?_
  refine gt_f (C := RX11) (T := TX11) (N := 9) hx hb ha in_X11 hown hK hP 0 rfl rfl 0 (by decide) m_332 rfl dX11_firstFreeByGaps_11 ?_
  refine lv_iload_n hx hb dX11_firstFreeByGaps_14 rfl (lv_at hl 1 rfl) ?_
  refine lv_iload_n hx hb dX11_firstFreeByGaps_15 rfl (lv_at hl 2 rfl) ?_
  obtain ⟨r_1, hc1, hf⟩ := sf_c1e hf
  refine k_Pi (run_PV (As := [.int p0, .int p1]) (rest := []) ⟨hx, hb, hml, hown, ha⟩ (c_X8_freeMinuteByGaps l D dA h1 h2 h3 h4 h5 h6 h7 h8 h9 h10 h11 h12 h13 h14 h15 h16 h17 h18 h19 h20   on ot op os sc sd sp sw gc gp gr bc bg bs bt be ql qg fc fg fs fm p0 p1 _ hc1) (gi_V m_974 m_975 m_976 m_32 m_977) yd_X8_freeMinuteByGaps ⟨Nat.le_of_ble_eq_true rfl, Nat.le_of_ble_eq_true rfl⟩ ⟨rfl, rfl⟩ hK hP [1, 2, 3, 4, 5, 6, 7, 8, 9, 10, 11, 12, 13, 14, 15, 16, 17, 18, 19, 20] rfl 1 6 rfl rfl rfl rfl hl.1 rfl (Nat.le_of_ble_eq_true rfl) dX11_firstFreeByGaps_16 ⟨Nat.le_of_ble_eq_true rfl, Nat.le_of_ble_eq_true rfl⟩) hP hS (fun H locs hP hS => ?_)
  obtain ⟨r_2, hc2, hf⟩ := sf_c1e hf
  refine k_Pi (run_YS (As := [.int r_1]) (rest := []) ⟨hx, hb, hml, hown, ha⟩ (c_X11_found l D dA cA     r_1 _ hc2) (gi_S2 m_963 m_964 m_31 m_965) (yd_X11_found).2 ⟨Nat.le_of_ble_eq_true rfl, Nat.le_of_ble_eq_true rfl⟩ ⟨rfl, rfl⟩ hK hX hS hP [] rfl rfl hl.1 rfl (Nat.le_of_ble_eq_true rfl) dX11_firstFreeByGaps_19 ⟨Nat.le_of_ble_eq_true rfl, Nat.le_of_ble_eq_true rfl⟩) hP hS (fun H locs hP hS => ?_)
  exact rt_Pi hx hb hr hlocks (Option.some.inj hf) hS dX11_firstFreeByGaps_22

def f_TX11_firstFreeByGaps (on : Int32) (sc : Int32) (sd : Nat → Int32) (bc : Int32) (bs : Nat → Int32) (bt : Nat → Int32) (be : Nat → Int32) (p0 : Int32) (p1 : Int32) : Option Nat :=
  sf_t1 (f_TX11_checkSlide sc p0) (fun k_1 => some k_1) (sf_c0 (f_X11_checkSlide sc p0) (fun _ => sf_t1 (f_TX11_checkBookableMinute on p1) (fun k_2 => some k_2) (sf_c0 (f_X11_checkBookableMinute on p1) (fun _ => sf_c1 (f_X8_freeMinuteByGaps on sd bc bs bt be p0 p1) (fun r_3 => sf_t1 (f_TX11_found r_3) (fun k_4 => some k_4) (sf_c1 (f_X11_found r_3) (fun r_5 => none)))))))
theorem yd_TX11_firstFreeByGaps : yX11_firstFreeByGaps.cls = RX11 ∧ yX11_firstFreeByGaps.cls ≠ "java/lang/invoke/MethodHandle" ∧ yX11_firstFreeByGaps.cls ≠ "java/lang/invoke/VarHandle" ∧ (parseMethodDescriptor yX11_firstFreeByGaps.desc).map (fun d => d.parameters.length) = some 2 := ⟨rfl, by decide, by decide, by decide +kernel⟩
set_option maxRecDepth 100000 in
set_option maxHeartbeats 4000000 in
theorem c_TX11_firstFreeByGaps (l : Launch) (D : va_G) (dA : Nat → ClassId) (cA : Nat → Nat) (hst : l.stackTraces = false) (h0 h1 h2 h3 h4 h5 h6 h7 h8 h9 h10 h11 h12 h13 h14 h15 h16 h17 h18 h19 h20 h21 h41 h43 h46 h49 : Nat) (sz : Nat) (on : Int32) (ot : Int32) (op : Int32) (os : Int32) (sc : Int32) (sd : Nat → Int32) (sp : Nat → Int32) (sw : Nat → Int32) (gc : Int32) (gp : Nat → Int32) (gr : Nat → Int32) (bc : Int32) (bg : Nat → Int32) (bs : Nat → Int32) (bt : Nat → Int32) (be : Nat → Int32) (ql : Nat → Int32) (qg : Nat → Int32) (fc : Int32) (fg : Nat → Int32) (fs : Nat → Int32) (fm : Nat → Int32) (xi : Int32) (xe : Int32) (xf : Int32) (p0 : Int32) (p1 : Int32) (rx : Nat) (hf : f_TX11_firstFreeByGaps on sc sd bc bs bt be p0 p1 = some rx) : vx_Met l yX11_firstFreeByGaps (wo (.code yX11_firstFreeByGaps cX11_firstFreeByGaps 3 (some .int))) ({ frames := 7, cells := 1, slots := 6, locals := 121 } : Room) (preX D dA cA [.ref h0, .int p0, .int p1] sz [(h0, .inr (9, [.ref h1, .ref h21, .int xi, .ref h41, .ref h43, .ref h46, .ref h49, .int xe, .int xf])), (h1, .inr (6, [.int on, .int ot, .int op, .int os, .ref h2, .ref h6, .ref h9, .ref h14, .ref h17])), (h2, .inr (8, [.int sc, .ref h3, .ref h4, .ref h5])), (h3, .inl (dA 0, 4, .inl sd)), (h4, .inl (dA 0, 4, .inl sp)), (h5, .inl (dA 0, 4, .inl sw)), (h6, .inr (4, [.int gc, .ref h7, .ref h8])), (h7, .inl (dA 0, 10, .inl gp)), (h8, .inl (dA 0, 10, .inl gr)), (h9, .inr (0, [.int bc, .ref h10, .ref h11, .ref h12, .ref h13])), (h10, .inl (dA 0, 12, .inl bg)), (h11, .inl (dA 0, 12, .inl bs)), (h12, .inl (dA 0, 12, .inl bt)), (h13, .inl (dA 0, 12, .inl be)), (h14, .inr (7, [.ref h15, .ref h16])), (h15, .inl (dA 0, 4, .inl ql)), (h16, .inl (dA 0, 20, .inl qg)), (h17, .inr (3, [.int fc, .ref h18, .ref h19, .ref h20])), (h18, .inl (dA 0, 16, .inl fg)), (h19, .inl (dA 0, 16, .inl fs)), (h20, .inl (dA 0, 16, .inl fm))]) noQ (xcQ D (exs rx) [(h0, .inr (9, [.ref h1, .ref h21, .int xi, .ref h41, .ref h43, .ref h46, .ref h49, .int xe, .int xf])), (h1, .inr (6, [.int on, .int ot, .int op, .int os, .ref h2, .ref h6, .ref h9, .ref h14, .ref h17])), (h2, .inr (8, [.int sc, .ref h3, .ref h4, .ref h5])), (h3, .inl (dA 0, 4, .inl sd)), (h4, .inl (dA 0, 4, .inl sp)), (h5, .inl (dA 0, 4, .inl sw)), (h6, .inr (4, [.int gc, .ref h7, .ref h8])), (h7, .inl (dA 0, 10, .inl gp)), (h8, .inl (dA 0, 10, .inl gr)), (h9, .inr (0, [.int bc, .ref h10, .ref h11, .ref h12, .ref h13])), (h10, .inl (dA 0, 12, .inl bg)), (h11, .inl (dA 0, 12, .inl bs)), (h12, .inl (dA 0, 12, .inl bt)), (h13, .inl (dA 0, 12, .inl be)), (h14, .inr (7, [.ref h15, .ref h16])), (h15, .inl (dA 0, 4, .inl ql)), (h16, .inl (dA 0, 20, .inl qg)), (h17, .inr (3, [.int fc, .ref h18, .ref h19, .ref h20])), (h18, .inl (dA 0, 16, .inl fg)), (h19, .inl (dA 0, 16, .inl fs)), (h20, .inl (dA 0, 16, .inl fm))] (va_A [(h0, .inr (9, [.ref h1, .ref h21, .int xi, .ref h41, .ref h43, .ref h46, .ref h49, .int xe, .int xf])), (h1, .inr (6, [.int on, .int ot, .int op, .int os, .ref h2, .ref h6, .ref h9, .ref h14, .ref h17])), (h2, .inr (8, [.int sc, .ref h3, .ref h4, .ref h5])), (h3, .inl (dA 0, 4, .inl sd)), (h4, .inl (dA 0, 4, .inl sp)), (h5, .inl (dA 0, 4, .inl sw)), (h6, .inr (4, [.int gc, .ref h7, .ref h8])), (h7, .inl (dA 0, 10, .inl gp)), (h8, .inl (dA 0, 10, .inl gr)), (h9, .inr (0, [.int bc, .ref h10, .ref h11, .ref h12, .ref h13])), (h10, .inl (dA 0, 12, .inl bg)), (h11, .inl (dA 0, 12, .inl bs)), (h12, .inl (dA 0, 12, .inl bt)), (h13, .inl (dA 0, 12, .inl be)), (h14, .inr (7, [.ref h15, .ref h16])), (h15, .inl (dA 0, 4, .inl ql)), (h16, .inl (dA 0, 20, .inl qg)), (h17, .inr (3, [.int fc, .ref h18, .ref h19, .ref h20])), (h18, .inl (dA 0, 16, .inl fg)), (h19, .inl (dA 0, 16, .inl fs)), (h20, .inl (dA 0, 16, .inl fm))] sz)) 1 6 (va_A [(h0, .inr (9, [.ref h1, .ref h21, .int xi, .ref h41, .ref h43, .ref h46, .ref h49, .int xe, .int xf])), (h1, .inr (6, [.int on, .int ot, .int op, .int os, .ref h2, .ref h6, .ref h9, .ref h14, .ref h17])), (h2, .inr (8, [.int sc, .ref h3, .ref h4, .ref h5])), (h3, .inl (dA 0, 4, .inl sd)), (h4, .inl (dA 0, 4, .inl sp)), (h5, .inl (dA 0, 4, .inl sw)), (h6, .inr (4, [.int gc, .ref h7, .ref h8])), (h7, .inl (dA 0, 10, .inl gp)), (h8, .inl (dA 0, 10, .inl gr)), (h9, .inr (0, [.int bc, .ref h10, .ref h11, .ref h12, .ref h13])), (h10, .inl (dA 0, 12, .inl bg)), (h11, .inl (dA 0, 12, .inl bs)), (h12, .inl (dA 0, 12, .inl bt)), (h13, .inl (dA 0, 12, .inl be)), (h14, .inr (7, [.ref h15, .ref h16])), (h15, .inl (dA 0, 4, .inl ql)), (h16, .inl (dA 0, 20, .inl qg)), (h17, .inr (3, [.int fc, .ref h18, .ref h19, .ref h20])), (h18, .inl (dA 0, 16, .inl fg)), (h19, .inl (dA 0, 16, .inl fs)), (h20, .inl (dA 0, 16, .inl fm))] sz) := by
  refine of_Z (y := yX11_firstFreeByGaps) (cc := cX11_firstFreeByGaps) (maxL := 3) (ret := (some .int)) (av := [.ref h0, .int p0, .int p1]) (ws := [(h0, .inr (9, [.ref h1, .ref h21, .int xi, .ref h41, .ref h43, .ref h46, .ref h49, .int xe, .int xf])), (h1, .inr (6, [.int on, .int ot, .int op, .int os, .ref h2, .ref h6, .ref h9, .ref h14, .ref h17])), (h2, .inr (8, [.int sc, .ref h3, .ref h4, .ref h5])), (h3, .inl (dA 0, 4, .inl sd)), (h4, .inl (dA 0, 4, .inl sp)), (h5, .inl (dA 0, 4, .inl sw)), (h6, .inr (4, [.int gc, .ref h7, .ref h8])), (h7, .inl (dA 0, 10, .inl gp)), (h8, .inl (dA 0, 10, .inl gr)), (h9, .inr (0, [.int bc, .ref h10, .ref h11, .ref h12, .ref h13])), (h10, .inl (dA 0, 12, .inl bg)), (h11, .inl (dA 0, 12, .inl bs)), (h12, .inl (dA 0, 12, .inl bt)), (h13, .inl (dA 0, 12, .inl be)), (h14, .inr (7, [.ref h15, .ref h16])), (h15, .inl (dA 0, 4, .inl ql)), (h16, .inl (dA 0, 20, .inl qg)), (h17, .inr (3, [.int fc, .ref h18, .ref h19, .ref h20])), (h18, .inl (dA 0, 16, .inl fg)), (h19, .inl (dA 0, 16, .inl fs)), (h20, .inl (dA 0, 16, .inl fm))]) (sz := sz) (own := RX11) (XC := fun A => xcQ D (exs rx) [(h0, .inr (9, [.ref h1, .ref h21, .int xi, .ref h41, .ref h43, .ref h46, .ref h49, .int xe, .int xf])), (h1, .inr (6, [.int on, .int ot, .int op, .int os, .ref h2, .ref h6, .ref h9, .ref h14, .ref h17])), (h2, .inr (8, [.int sc, .ref h3, .ref h4, .ref h5])), (h3, .inl (dA 0, 4, .inl sd)), (h4, .inl (dA 0, 4, .inl sp)), (h5, .inl (dA 0, 4, .inl sw)), (h6, .inr (4, [.int gc, .ref h7, .ref h8])), (h7, .inl (dA 0, 10, .inl gp)), (h8, .inl (dA 0, 10, .inl gr)), (h9, .inr (0, [.int bc, .ref h10, .ref h11, .ref h12, .ref h13])), (h10, .inl (dA 0, 12, .inl bg)), (h11, .inl (dA 0, 12, .inl bs)), (h12, .inl (dA 0, 12, .inl bt)), (h13, .inl (dA 0, 12, .inl be)), (h14, .inr (7, [.ref h15, .ref h16])), (h15, .inl (dA 0, 4, .inl ql)), (h16, .inl (dA 0, 20, .inl qg)), (h17, .inr (3, [.int fc, .ref h18, .ref h19, .ref h20])), (h18, .inl (dA 0, 16, .inl fg)), (h19, .inl (dA 0, 16, .inl fs)), (h20, .inl (dA 0, 16, .inl fm))] A) (by decide) rfl (Nat.le_of_ble_eq_true rfl) ?_
  intro p e s m below meth c A hx hb hr ha hown hml hlocks hin hno hP hK hD hX hS hA ls hl
  have hC := hX.1
  have hl : lv_has ls 3 [(0, .ref h0), (1, .int p0), (2, .int p1)] := hl
  rw [f_TX11_firstFreeByGaps] at hf
  refine lv_aload_n hx hb dX11_firstFreeByGaps_0 rfl (lv_at hl 0 rfl) ?_
  refine lv_iload_n hx hb dX11_firstFreeByGaps_1 rfl (lv_at hl 1 rfl) ?_
  rcases sf_t1e hf with ⟨hnt, hf⟩ | ⟨k_1, hc1, hf⟩
  · skip
    obtain ⟨hc1, hf⟩ := sf_c0e hf
    refine k_Pv (run_YV (As := [.int p0]) (rest := []) ⟨hx, hb, hml, hown, ha⟩ (c_X11_checkSlide l D dA cA h0 h1 h2 h3 h4 h5 h6 h9 h14 h17 h21 h41 h43 h46 h49   on ot op os sc sd sp sw xi xe xf p0  hc1) (gi_V m_776 m_778 m_12 m_31 m_779) yd_X11_checkSlide ⟨Nat.le_of_ble_eq_true rfl, Nat.le_of_ble_eq_true rfl⟩ ⟨rfl, rfl⟩ hK hX hS hP [0, 1, 2, 3, 4, 5] rfl (va_recv hK hP (q0 := 0) rfl rfl) rfl hl.1 rfl (Nat.le_of_ble_eq_true rfl) dX11_firstFreeByGaps_2 ⟨Nat.le_of_ble_eq_true rfl, Nat.le_of_ble_eq_true rfl⟩) hP hS (fun H locs hP hS => ?_)
    refine lv_aload_n hx hb dX11_firstFreeByGaps_5 rfl (lv_at hl 0 rfl) ?_
    refine lv_iload_n hx hb dX11_firstFreeByGaps_6 rfl (lv_at hl 2 rfl) ?_
    rcases sf_t1e hf with ⟨hnt, hf⟩ | ⟨k_2, hc2, hf⟩
    · skip
      obtain ⟨hc2, hf⟩ := sf_c0e hf
      refine k_Pv (run_YV (As := [.int p1]) (rest := []) ⟨hx, hb, hml, hown, ha⟩ (c_X11_checkBookableMinute l D dA cA h0 h1 h2 h3 h4 h5 h6 h7 h8 h9 h10 h11 h12 h13 h14 h15 h16 h17 h18 h19 h20 h21 h41 h43 h46 h49   on ot op os sc sd sp sw gc gp gr bc bg bs bt be ql qg fc fg fs fm xi xe xf p1  hc2) (gi_V m_937 m_939 m_17 m_31 m_940) yd_X11_checkBookableMinute ⟨Nat.le_of_ble_eq_true rfl, Nat.le_of_ble_eq_true rfl⟩ ⟨rfl, rfl⟩ hK hX hS hP [0, 1, 2, 3, 4, 5, 6, 7, 8, 9, 10, 11, 12, 13, 14, 15, 16, 17, 18, 19, 20] rfl (va_recv hK hP (q0 := 0) rfl rfl) rfl hl.1 rfl (Nat.le_of_ble_eq_true rfl) dX11_firstFreeByGaps_7 ⟨Nat.le_of_ble_eq_true rfl, Nat.le_of_ble_eq_true rfl⟩) hP hS (fun H locs hP hS => ?_)
      refine lv_aload_n hx hb dX11_firstFreeByGaps_10 rfl (lv_at hl 0 rfl) ?_
      refine gt_f (C := RX11) (T := TX11) (N := 9) hx hb ha in_X11 hown hK hP 0 rfl rfl 0 (by decide) m_332 rfl dX11_firstFreeByGaps_11 ?_
      refine lv_iload_n hx hb dX11_firstFreeByGaps_14 rfl (lv_at hl 1 rfl) ?_
      refine lv_iload_n hx hb dX11_firstFreeByGaps_15 rfl (lv_at hl 2 rfl) ?_
      obtain ⟨r_3, hc3, hf⟩ := sf_c1e hf
      refine k_Pi (run_PV (As := [.int p0, .int p1]) (rest := []) ⟨hx, hb, hml, hown, ha⟩ (c_X8_freeMinuteByGaps l D dA h1 h2 h3 h4 h5 h6 h7 h8 h9 h10 h11 h12 h13 h14 h15 h16 h17 h18 h19 h20   on ot op os sc sd sp sw gc gp gr bc bg bs bt be ql qg fc fg fs fm p0 p1 _ hc3) (gi_V m_974 m_975 m_976 m_32 m_977) yd_X8_freeMinuteByGaps ⟨Nat.le_of_ble_eq_true rfl, Nat.le_of_ble_eq_true rfl⟩ ⟨rfl, rfl⟩ hK hP [1, 2, 3, 4, 5, 6, 7, 8, 9, 10, 11, 12, 13, 14, 15, 16, 17, 18, 19, 20] rfl 1 6 rfl rfl rfl rfl hl.1 rfl (Nat.le_of_ble_eq_true rfl) dX11_firstFreeByGaps_16 ⟨Nat.le_of_ble_eq_true rfl, Nat.le_of_ble_eq_true rfl⟩) hP hS (fun H locs hP hS => ?_)
      rcases sf_t1e hf with ⟨hnt, hf⟩ | ⟨k_4, hc4, hf⟩
      · skip
        obtain ⟨r_5, hc5, hf⟩ := sf_c1e hf
        refine k_Pi (run_YS (As := [.int r_3]) (rest := []) ⟨hx, hb, hml, hown, ha⟩ (c_X11_found l D dA cA     r_3 _ hc5) (gi_S2 m_963 m_964 m_31 m_965) (yd_X11_found).2 ⟨Nat.le_of_ble_eq_true rfl, Nat.le_of_ble_eq_true rfl⟩ ⟨rfl, rfl⟩ hK hX hS hP [] rfl rfl hl.1 rfl (Nat.le_of_ble_eq_true rfl) dX11_firstFreeByGaps_19 ⟨Nat.le_of_ble_eq_true rfl, Nat.le_of_ble_eq_true rfl⟩) hP hS (fun H locs hP hS => ?_)
        cases hf
      · skip
        refine k_Z (wr := [(h0, .inr (9, [.ref h1, .ref h21, .int xi, .ref h41, .ref h43, .ref h46, .ref h49, .int xe, .int xf])), (h1, .inr (6, [.int on, .int ot, .int op, .int os, .ref h2, .ref h6, .ref h9, .ref h14, .ref h17])), (h2, .inr (8, [.int sc, .ref h3, .ref h4, .ref h5])), (h3, .inl (dA 0, 4, .inl sd)), (h4, .inl (dA 0, 4, .inl sp)), (h5, .inl (dA 0, 4, .inl sw)), (h6, .inr (4, [.int gc, .ref h7, .ref h8])), (h7, .inl (dA 0, 10, .inl gp)), (h8, .inl (dA 0, 10, .inl gr)), (h9, .inr (0, [.int bc, .ref h10, .ref h11, .ref h12, .ref h13])), (h10, .inl (dA 0, 12, .inl bg)), (h11, .inl (dA 0, 12, .inl bs)), (h12, .inl (dA 0, 12, .inl bt)), (h13, .inl (dA 0, 12, .inl be)), (h14, .inr (7, [.ref h15, .ref h16])), (h15, .inl (dA 0, 4, .inl ql)), (h16, .inl (dA 0, 20, .inl qg)), (h17, .inr (3, [.int fc, .ref h18, .ref h19, .ref h20])), (h18, .inl (dA 0, 16, .inl fg)), (h19, .inl (dA 0, 16, .inl fs)), (h20, .inl (dA 0, 16, .inl fm))]) (run_ZS (As := [.int r_3]) (rest := []) ⟨hx, hb, hml, hown, ha⟩ (c_TX11_found l D dA cA hst   _  r_3 _ hc4) (gi_S2 m_963 m_964 m_31 m_965) (yd_TX11_found).2 ⟨Nat.le_of_ble_eq_true rfl, Nat.le_of_ble_eq_true rfl⟩ ⟨rfl, rfl⟩ hK hX hS hA hP hD [] (by decide) rfl rfl hl.1 rfl (Nat.le_of_ble_eq_true rfl) dX11_firstFreeByGaps_19 ⟨Nat.le_of_ble_eq_true rfl, Nat.le_of_ble_eq_true rfl⟩) hP hD hS hA [] [0, 1, 2, 3, 4, 5, 6, 7, 8, 9, 10, 11, 12, 13, 14, 15, 16, 17, 18, 19, 20] rfl rfl (by decide) (by decide) (fun q9 H locs hP hD hS ht9 => ?_)
        cases hf
        exact px_o hno hlocks ht9 (hP.sub [0, 1, 2, 3, 4, 5, 6, 7, 8, 9, 10, 11, 12, 13, 14, 15, 16, 17, 18, 19, 20] rfl) (hD.sub [0, 1, 2, 3, 4, 5, 6, 7, 8, 9, 10, 11, 12, 13, 14, 15, 16, 17, 18, 19, 20] (by decide) rfl) hS (by decide) (by decide)
    · skip
      refine k_Z (wr := []) (run_ZV (As := [.int p1]) (rest := []) ⟨hx, hb, hml, hown, ha⟩ (c_TX11_checkBookableMinute l D dA cA hst h0 h1 h2 h3 h4 h5 h6 h7 h8 h9 h10 h11 h12 h13 h14 h15 h16 h17 h18 h19 h20 h21 h41 h43 h46 h49  _ on ot op os sc sd sp sw gc gp gr bc bg bs bt be ql qg fc fg fs fm xi xe xf p1 _ hc2) (gi_V m_937 m_939 m_17 m_31 m_940) yd_TX11_checkBookableMinute ⟨Nat.le_of_ble_eq_true rfl, Nat.le_of_ble_eq_true rfl⟩ ⟨rfl, rfl⟩ hK hX hS hA hP hD [0, 1, 2, 3, 4, 5, 6, 7, 8, 9, 10, 11, 12, 13, 14, 15, 16, 17, 18, 19, 20] (by decide) rfl (va_recv hK hP (q0 := 0) rfl rfl) rfl hl.1 rfl (Nat.le_of_ble_eq_true rfl) dX11_firstFreeByGaps_7 ⟨Nat.le_of_ble_eq_true rfl, Nat.le_of_ble_eq_true rfl⟩) hP hD hS hA [0, 1, 2, 3, 4, 5, 6, 7, 8, 9, 10, 11, 12, 13, 14, 15, 16, 17, 18, 19, 20] [] rfl rfl (by decide) (by decide) (fun q9 H locs hP hD hS ht9 => ?_)
      cases hf
      exact px_o hno hlocks ht9 (hP.sub [0, 1, 2, 3, 4, 5, 6, 7, 8, 9, 10, 11, 12, 13, 14, 15, 16, 17, 18, 19, 20] rfl) (hD.sub [0, 1, 2, 3, 4, 5, 6, 7, 8, 9, 10, 11, 12, 13, 14, 15, 16, 17, 18, 19, 20] (by decide) rfl) hS (by decide) (by decide)
  · skip
    refine k_Z (wr := [(h6, .inr (4, [.int gc, .ref h7, .ref h8])), (h7, .inl (dA 0, 10, .inl gp)), (h8, .inl (dA 0, 10, .inl gr)), (h9, .inr (0, [.int bc, .ref h10, .ref h11, .ref h12, .ref h13])), (h10, .inl (dA 0, 12, .inl bg)), (h11, .inl (dA 0, 12, .inl bs)), (h12, .inl (dA 0, 12, .inl bt)), (h13, .inl (dA 0, 12, .inl be)), (h14, .inr (7, [.ref h15, .ref h16])), (h15, .inl (dA 0, 4, .inl ql)), (h16, .inl (dA 0, 20, .inl qg)), (h17, .inr (3, [.int fc, .ref h18, .ref h19, .ref h20])), (h18, .inl (dA 0, 16, .inl fg)), (h19, .inl (dA 0, 16, .inl fs)), (h20, .inl (dA 0, 16, .inl fm))]) (run_ZV (As := [.int p0]) (rest := []) ⟨hx, hb, hml, hown, ha⟩ (c_TX11_checkSlide l D dA cA hst h0 h1 h2 h3 h4 h5 h6 h9 h14 h17 h21 h41 h43 h46 h49  _ on ot op os sc sd sp sw xi xe xf p0 _ hc1) (gi_V m_776 m_778 m_12 m_31 m_779) yd_TX11_checkSlide ⟨Nat.le_of_ble_eq_true rfl, Nat.le_of_ble_eq_true rfl⟩ ⟨rfl, rfl⟩ hK hX hS hA hP hD [0, 1, 2, 3, 4, 5] (by decide) rfl (va_recv hK hP (q0 := 0) rfl rfl) rfl hl.1 rfl (Nat.le_of_ble_eq_true rfl) dX11_firstFreeByGaps_2 ⟨Nat.le_of_ble_eq_true rfl, Nat.le_of_ble_eq_true rfl⟩) hP hD hS hA [0, 1, 2, 3, 4, 5] [6, 7, 8, 9, 10, 11, 12, 13, 14, 15, 16, 17, 18, 19, 20] rfl rfl (by decide) (by decide) (fun q9 H locs hP hD hS ht9 => ?_)
    cases hf
    exact px_o hno hlocks ht9 (hP.sub [15, 16, 17, 18, 19, 20, 0, 1, 2, 3, 4, 5, 6, 7, 8, 9, 10, 11, 12, 13, 14] rfl) (hD.sub [15, 16, 17, 18, 19, 20, 0, 1, 2, 3, 4, 5, 6, 7, 8, 9, 10, 11, 12, 13, 14] (by decide) rfl) hS (by decide) (by decide)

def f_X11_mostWatched (bc : Int32) (bt : Nat → Int32) (be : Nat → Int32) : Option Int32 :=
  sf_c1 (f_X1_watchedByEarliestEnd bc bt be) (fun r_1 => some r_1)
theorem yd_X11_mostWatched : yX11_mostWatched.cls = RX11 ∧ yX11_mostWatched.cls ≠ "java/lang/invoke/MethodHandle" ∧ yX11_mostWatched.cls ≠ "java/lang/invoke/VarHandle" ∧ (parseMethodDescriptor yX11_mostWatched.desc).map (fun d => d.parameters.length) = some 0 := ⟨rfl, by decide, by decide, by decide +kernel⟩
set_option maxRecDepth 100000 in
set_option maxHeartbeats 4000000 in
theorem c_X11_mostWatched (l : Launch) (D : va_G) (dA : Nat → ClassId) (cA : Nat → Nat) (h0 h1 h2 h6 h9 h10 h11 h12 h13 h14 h17 h21 h41 h43 h46 h49 : Nat) (on : Int32) (ot : Int32) (op : Int32) (os : Int32) (bc : Int32) (bg : Nat → Int32) (bs : Nat → Int32) (bt : Nat → Int32) (be : Nat → Int32) (xi : Int32) (xe : Int32) (xf : Int32) (rr : Int32) (hf : f_X11_mostWatched bc bt be = some rr) : Met l yX11_mostWatched (wo (.code yX11_mostWatched cX11_mostWatched 1 (some .int))) ({ frames := 2, cells := 0, slots := 0, locals := 47 } : Room) (preY D dA cA [.ref h0] [(h0, .inr (9, [.ref h1, .ref h21, .int xi, .ref h41, .ref h43, .ref h46, .ref h49, .int xe, .int xf])), (h1, .inr (6, [.int on, .int ot, .int op, .int os, .ref h2, .ref h6, .ref h9, .ref h14, .ref h17])), (h9, .inr (0, [.int bc, .ref h10, .ref h11, .ref h12, .ref h13])), (h10, .inl (dA 0, 12, .inl bg)), (h11, .inl (dA 0, 12, .inl bs)), (h12, .inl (dA 0, 12, .inl bt)), (h13, .inl (dA 0, 12, .inl be))]) (poPi rr) 0 0 noA := by
  refine of_Y (y := yX11_mostWatched) (cc := cX11_mostWatched) (maxL := 1) (ret := (some .int)) (av := [.ref h0]) (ws := [(h0, .inr (9, [.ref h1, .ref h21, .int xi, .ref h41, .ref h43, .ref h46, .ref h49, .int xe, .int xf])), (h1, .inr (6, [.int on, .int ot, .int op, .int os, .ref h2, .ref h6, .ref h9, .ref h14, .ref h17])), (h9, .inr (0, [.int bc, .ref h10, .ref h11, .ref h12, .ref h13])), (h10, .inl (dA 0, 12, .inl bg)), (h11, .inl (dA 0, 12, .inl bs)), (h12, .inl (dA 0, 12, .inl bt)), (h13, .inl (dA 0, 12, .inl be))]) (own := RX11) (by decide) rfl (Nat.le_of_ble_eq_true rfl) ?_
  intro p e s m below meth c hx hb hr ha hown hml hlocks hP hK hX hS ls hl
  have hC := hX.1
  have hl : lv_has ls 1 [(0, .ref h0)] := hl
  rw [f_X11_mostWatched] at hf
  refine lv_aload_n hx hb dX11_mostWatched_0 rfl (lv_at hl 0 rfl) ?_
  refine gt_f (C := RX11) (T := TX11) (N := 9) hx hb ha in_X11 hown hK hP 0 rfl rfl 0 (by decide) m_332 rfl dX11_mostWatched_1 ?_
  refine gt_f (C := RX8) (T := TX8) (N := 9) hx hb ha in_X8 hown hK hP 1 rfl rfl 6 (by decide) m_219 rfl dX11_mostWatched_4 ?_
  obtain ⟨r_1, hc1, hf⟩ := sf_c1e hf
  refine k_Pi (run_PV (As := []) (rest := []) ⟨hx, hb, hml, hown, ha⟩ (c_X1_watchedByEarliestEnd l D dA h9 h10 h11 h12 h13   bc bg bs bt be  _ hc1) (gi_V m_839 m_840 m_841 m_35 m_842) yd_X1_watchedByEarliestEnd ⟨Nat.le_of_ble_eq_true rfl, Nat.le_of_ble_eq_true rfl⟩ ⟨rfl, rfl⟩ hK hP [2, 3, 4, 5, 6] rfl 2 0 rfl rfl rfl rfl hl.1 rfl (Nat.le_of_ble_eq_true rfl) dX11_mostWatched_7 ⟨Nat.le_of_ble_eq_true rfl, Nat.le_of_ble_eq_true rfl⟩) hP hS (fun H locs hP hS => ?_)
  exact rt_Pi hx hb hr hlocks (Option.some.inj hf) hS dX11_mostWatched_10

def f_X11_mostWatchedByTable (bc : Int32) (bs : Nat → Int32) (bt : Nat → Int32) (be : Nat → Int32) (ko : Nat → Int32) (kl : Nat → Int32) : Option (Int32 × (Nat → Int32) × (Nat → Int32)) :=
  sf_c3 (f_X2_longestChain ko kl bc bs bt be) (fun r_1 a_2 a_3 => some (r_1, a_2, a_3))
theorem yd_X11_mostWatchedByTable : yX11_mostWatchedByTable.cls = RX11 ∧ yX11_mostWatchedByTable.cls ≠ "java/lang/invoke/MethodHandle" ∧ yX11_mostWatchedByTable.cls ≠ "java/lang/invoke/VarHandle" ∧ (parseMethodDescriptor yX11_mostWatchedByTable.desc).map (fun d => d.parameters.length) = some 0 := ⟨rfl, by decide, by decide, by decide +kernel⟩
set_option maxRecDepth 100000 in
set_option maxHeartbeats 4000000 in
theorem c_X11_mostWatchedByTable (l : Launch) (D : va_G) (dA : Nat → ClassId) (cA : Nat → Nat) (h0 h1 h2 h6 h9 h10 h11 h12 h13 h14 h17 h21 h41 h43 h44 h45 h46 h49 : Nat) (sz : Nat) (on : Int32) (ot : Int32) (op : Int32) (os : Int32) (bc : Int32) (bg : Nat → Int32) (bs : Nat → Int32) (bt : Nat → Int32) (be : Nat → Int32) (xi : Int32) (ko : Nat → Int32) (kl : Nat → Int32) (xe : Int32) (xf : Int32) (rr : Int32) (q_ko : Nat → Int32) (q_kl : Nat → Int32) (hf : f_X11_mostWatchedByTable bc bs bt be ko kl = some (rr, q_ko, q_kl)) : Met l yX11_mostWatchedByTable (wo (.code yX11_mostWatchedByTable cX11_mostWatchedByTable 1 (some .int))) ({ frames := 3, cells := 0, slots := 0, locals := 127 } : Room) (preX D dA cA [.ref h0] sz [(h0, .inr (9, [.ref h1, .ref h21, .int xi, .ref h41, .ref h43, .ref h46, .ref h49, .int xe, .int xf])), (h1, .inr (6, [.int on, .int ot, .int op, .int os, .ref h2, .ref h6, .ref h9, .ref h14, .ref h17])), (h9, .inr (0, [.int bc, .ref h10, .ref h11, .ref h12, .ref h13])), (h10, .inl (dA 0, 12, .inl bg)), (h11, .inl (dA 0, 12, .inl bs)), (h12, .inl (dA 0, 12, .inl bt)), (h13, .inl (dA 0, 12, .inl be)), (h43, .inr (1, [.ref h44, .ref h45])), (h44, .inl (dA 0, 12, .inl ko)), (h45, .inl (dA 0, 12, .inl kl))]) (poMi D rr [(h0, .inr (9, [.ref h1, .ref h21, .int xi, .ref h41, .ref h43, .ref h46, .ref h49, .int xe, .int xf])), (h1, .inr (6, [.int on, .int ot, .int op, .int os, .ref h2, .ref h6, .ref h9, .ref h14, .ref h17])), (h9, .inr (0, [.int bc, .ref h10, .ref h11, .ref h12, .ref h13])), (h10, .inl (dA 0, 12, .inl bg)), (h11, .inl (dA 0, 12, .inl bs)), (h12, .inl (dA 0, 12, .inl bt)), (h13, .inl (dA 0, 12, .inl be)), (h43, .inr (1, [.ref h44, .ref h45])), (h44, .inl (dA 0, 12, .inl q_ko)), (h45, .inl (dA 0, 12, .inl q_kl))] (va_A [(h0, .inr (9, [.ref h1, .ref h21, .int xi, .ref h41, .ref h43, .ref h46, .ref h49, .int xe, .int xf])), (h1, .inr (6, [.int on, .int ot, .int op, .int os, .ref h2, .ref h6, .ref h9, .ref h14, .ref h17])), (h9, .inr (0, [.int bc, .ref h10, .ref h11, .ref h12, .ref h13])), (h10, .inl (dA 0, 12, .inl bg)), (h11, .inl (dA 0, 12, .inl bs)), (h12, .inl (dA 0, 12, .inl bt)), (h13, .inl (dA 0, 12, .inl be)), (h43, .inr (1, [.ref h44, .ref h45])), (h44, .inl (dA 0, 12, .inl ko)), (h45, .inl (dA 0, 12, .inl kl))] sz)) 0 0 (va_A [(h0, .inr (9, [.ref h1, .ref h21, .int xi, .ref h41, .ref h43, .ref h46, .ref h49, .int xe, .int xf])), (h1, .inr (6, [.int on, .int ot, .int op, .int os, .ref h2, .ref h6, .ref h9, .ref h14, .ref h17])), (h9, .inr (0, [.int bc, .ref h10, .ref h11, .ref h12, .ref h13])), (h10, .inl (dA 0, 12, .inl bg)), (h11, .inl (dA 0, 12, .inl bs)), (h12, .inl (dA 0, 12, .inl bt)), (h13, .inl (dA 0, 12, .inl be)), (h43, .inr (1, [.ref h44, .ref h45])), (h44, .inl (dA 0, 12, .inl ko)), (h45, .inl (dA 0, 12, .inl kl))] sz) := by
  refine of_X (y := yX11_mostWatchedByTable) (cc := cX11_mostWatchedByTable) (maxL := 1) (ret := (some .int)) (av := [.ref h0]) (ws := [(h0, .inr (9, [.ref h1, .ref h21, .int xi, .ref h41, .ref h43, .ref h46, .ref h49, .int xe, .int xf])), (h1, .inr (6, [.int on, .int ot, .int op, .int os, .ref h2, .ref h6, .ref h9, .ref h14, .ref h17])), (h9, .inr (0, [.int bc, .ref h10, .ref h11, .ref h12, .ref h13])), (h10, .inl (dA 0, 12, .inl bg)), (h11, .inl (dA 0, 12, .inl bs)), (h12, .inl (dA 0, 12, .inl bt)), (h13, .inl (dA 0, 12, .inl be)), (h43, .inr (1, [.ref h44, .ref h45])), (h44, .inl (dA 0, 12, .inl ko)), (h45, .inl (dA 0, 12, .inl kl))]) (sz := sz) (own := RX11) (Qc := poMi D rr [(h0, .inr (9, [.ref h1, .ref h21, .int xi, .ref h41, .ref h43, .ref h46, .ref h49, .int xe, .int xf])), (h1, .inr (6, [.int on, .int ot, .int op, .int os, .ref h2, .ref h6, .ref h9, .ref h14, .ref h17])), (h9, .inr (0, [.int bc, .ref h10, .ref h11, .ref h12, .ref h13])), (h10, .inl (dA 0, 12, .inl bg)), (h11, .inl (dA 0, 12, .inl bs)), (h12, .inl (dA 0, 12, .inl bt)), (h13, .inl (dA 0, 12, .inl be)), (h43, .inr (1, [.ref h44, .ref h45])), (h44, .inl (dA 0, 12, .inl q_ko)), (h45, .inl (dA 0, 12, .inl q_kl))]) (by decide) rfl (Nat.le_of_ble_eq_true rfl) ?_
  intro p e s m below meth c A hx hb hr ha hown hml hlocks hin hP hK hD hX hS hA ls hl
  have hC := hX.1
  have hl : lv_has ls 1 [(0, .ref h0)] := hl
  rw [f_X11_mostWatchedByTable] at hf
  refine lv_aload_n hx hb dX11_mostWatchedByTable_0 rfl (lv_at hl 0 rfl) ?_
  refine gt_f (C := RX11) (T := TX11) (N := 9) hx hb ha in_X11 hown hK hP 0 rfl rfl 4 (by decide) m_336 rfl dX11_mostWatchedByTable_1 ?_
  refine lv_aload_n hx hb dX11_mostWatchedByTable_4 rfl (lv_at hl 0 rfl) ?_
  refine gt_f (C := RX11) (T := TX11) (N := 9) hx hb ha in_X11 hown hK hP 0 rfl rfl 0 (by decide) m_332 rfl dX11_mostWatchedByTable_5 ?_
  refine gt_f (C := RX8) (T := TX8) (N := 9) hx hb ha in_X8 hown hK hP 1 rfl rfl 6 (by decide) m_219 rfl dX11_mostWatchedByTable_8 ?_
  obtain ⟨r_1, a_2, a_3, hc3, hf⟩ := sf_c3e hf
  refine k_Mi (wr := [(h0, .inr (9, [.ref h1, .ref h21, .int xi, .ref h41, .ref h43, .ref h46, .ref h49, .int xe, .int xf])), (h1, .inr (6, [.int on, .int ot, .int op, .int os, .ref h2, .ref h6, .ref h9, .ref h14, .ref h17]))]) (run_MV (As := [.ref h9]) (rest := []) ⟨hx, hb, hml, hown, ha⟩ (c_X2_longestChain l D dA h43 h44 h45 h9 h10 h11 h12 h13  _ ko kl bc bg bs bt be  _ _ _ hc3) (gi_V m_854 m_855 m_856 m_39 m_857) yd_X2_longestChain ⟨Nat.le_of_ble_eq_true rfl, Nat.le_of_ble_eq_true rfl⟩ ⟨rfl, rfl⟩ hK hP hD [7, 8, 9, 2, 3, 4, 5, 6] (by decide) rfl 7 1 rfl rfl rfl rfl hl.1 rfl (Nat.le_of_ble_eq_true rfl) dX11_mostWatchedByTable_11 ⟨Nat.le_of_ble_eq_true rfl, Nat.le_of_ble_eq_true rfl⟩) hP hD hS hA [7, 8, 9, 2, 3, 4, 5, 6] [0, 1] rfl rfl (by decide) (by decide) (fun H locs hP hD hS => ?_)
  cases hf
  exact rt_Mi hx hb hr hlocks (hP.sub [0, 1, 5, 6, 7, 8, 9, 2, 3, 4] rfl) (hD.sub [0, 1, 5, 6, 7, 8, 9, 2, 3, 4] (by decide) rfl) hS dX11_mostWatchedByTable_14

def f_X11_mostAtOnce (bc : Int32) (bt : Nat → Int32) (be : Nat → Int32) : Option Int32 :=
  sf_c1 (f_X1_atOnceByStarts bc bt be) (fun r_1 => some r_1)
theorem yd_X11_mostAtOnce : yX11_mostAtOnce.cls = RX11 ∧ yX11_mostAtOnce.cls ≠ "java/lang/invoke/MethodHandle" ∧ yX11_mostAtOnce.cls ≠ "java/lang/invoke/VarHandle" ∧ (parseMethodDescriptor yX11_mostAtOnce.desc).map (fun d => d.parameters.length) = some 0 := ⟨rfl, by decide, by decide, by decide +kernel⟩
set_option maxRecDepth 100000 in
set_option maxHeartbeats 4000000 in
theorem c_X11_mostAtOnce (l : Launch) (D : va_G) (dA : Nat → ClassId) (cA : Nat → Nat) (h0 h1 h2 h6 h9 h10 h11 h12 h13 h14 h17 h21 h41 h43 h46 h49 : Nat) (on : Int32) (ot : Int32) (op : Int32) (os : Int32) (bc : Int32) (bg : Nat → Int32) (bs : Nat → Int32) (bt : Nat → Int32) (be : Nat → Int32) (xi : Int32) (xe : Int32) (xf : Int32) (rr : Int32) (hf : f_X11_mostAtOnce bc bt be = some rr) : Met l yX11_mostAtOnce (wo (.code yX11_mostAtOnce cX11_mostAtOnce 1 (some .int))) ({ frames := 2, cells := 0, slots := 0, locals := 104 } : Room) (preY D dA cA [.ref h0] [(h0, .inr (9, [.ref h1, .ref h21, .int xi, .ref h41, .ref h43, .ref h46, .ref h49, .int xe, .int xf])), (h1, .inr (6, [.int on, .int ot, .int op, .int os, .ref h2, .ref h6, .ref h9, .ref h14, .ref h17])), (h9, .inr (0, [.int bc, .ref h10, .ref h11, .ref h12, .ref h13])), (h10, .inl (dA 0, 12, .inl bg)), (h11, .inl (dA 0, 12, .inl bs)), (h12, .inl (dA 0, 12, .inl bt)), (h13, .inl (dA 0, 12, .inl be))]) (poPi rr) 0 0 noA := by
  refine of_Y (y := yX11_mostAtOnce) (cc := cX11_mostAtOnce) (maxL := 1) (ret := (some .int)) (av := [.ref h0]) (ws := [(h0, .inr (9, [.ref h1, .ref h21, .int xi, .ref h41, .ref h43, .ref h46, .ref h49, .int xe, .int xf])), (h1, .inr (6, [.int on, .int ot, .int op, .int os, .ref h2, .ref h6, .ref h9, .ref h14, .ref h17])), (h9, .inr (0, [.int bc, .ref h10, .ref h11, .ref h12, .ref h13])), (h10, .inl (dA 0, 12, .inl bg)), (h11, .inl (dA 0, 12, .inl bs)), (h12, .inl (dA 0, 12, .inl bt)), (h13, .inl (dA 0, 12, .inl be))]) (own := RX11) (by decide) rfl (Nat.le_of_ble_eq_true rfl) ?_
  intro p e s m below meth c hx hb hr ha hown hml hlocks hP hK hX hS ls hl
  have hC := hX.1
  have hl : lv_has ls 1 [(0, .ref h0)] := hl
  rw [f_X11_mostAtOnce] at hf
  refine lv_aload_n hx hb dX11_mostAtOnce_0 rfl (lv_at hl 0 rfl) ?_
  refine gt_f (C := RX11) (T := TX11) (N := 9) hx hb ha in_X11 hown hK hP 0 rfl rfl 0 (by decide) m_332 rfl dX11_mostAtOnce_1 ?_
  refine gt_f (C := RX8) (T := TX8) (N := 9) hx hb ha in_X8 hown hK hP 1 rfl rfl 6 (by decide) m_219 rfl dX11_mostAtOnce_4 ?_
  obtain ⟨r_1, hc1, hf⟩ := sf_c1e hf
  refine k_Pi (run_PV (As := []) (rest := []) ⟨hx, hb, hml, hown, ha⟩ (c_X1_atOnceByStarts l D dA h9 h10 h11 h12 h13   bc bg bs bt be  _ hc1) (gi_V m_812 m_813 m_814 m_35 m_815) yd_X1_atOnceByStarts ⟨Nat.le_of_ble_eq_true rfl, Nat.le_of_ble_eq_true rfl⟩ ⟨rfl, rfl⟩ hK hP [2, 3, 4, 5, 6] rfl 2 0 rfl rfl rfl rfl hl.1 rfl (Nat.le_of_ble_eq_true rfl) dX11_mostAtOnce_7 ⟨Nat.le_of_ble_eq_true rfl, Nat.le_of_ble_eq_true rfl⟩) hP hS (fun H locs hP hS => ?_)
  exact rt_Pi hx hb hr hlocks (Option.some.inj hf) hS dX11_mostAtOnce_10

def f_X11_mostAtOnceBySweep (bc : Int32) (bt : Nat → Int32) (be : Nat → Int32) : Option Int32 :=
  sf_c1 (f_X1_atOnceBySweeping bc bt be) (fun r_1 => some r_1)
theorem yd_X11_mostAtOnceBySweep : yX11_mostAtOnceBySweep.cls = RX11 ∧ yX11_mostAtOnceBySweep.cls ≠ "java/lang/invoke/MethodHandle" ∧ yX11_mostAtOnceBySweep.cls ≠ "java/lang/invoke/VarHandle" ∧ (parseMethodDescriptor yX11_mostAtOnceBySweep.desc).map (fun d => d.parameters.length) = some 0 := ⟨rfl, by decide, by decide, by decide +kernel⟩
set_option maxRecDepth 100000 in
set_option maxHeartbeats 4000000 in
theorem c_X11_mostAtOnceBySweep (l : Launch) (D : va_G) (dA : Nat → ClassId) (cA : Nat → Nat) (h0 h1 h2 h6 h9 h10 h11 h12 h13 h14 h17 h21 h41 h43 h46 h49 : Nat) (on : Int32) (ot : Int32) (op : Int32) (os : Int32) (bc : Int32) (bg : Nat → Int32) (bs : Nat → Int32) (bt : Nat → Int32) (be : Nat → Int32) (xi : Int32) (xe : Int32) (xf : Int32) (rr : Int32) (hf : f_X11_mostAtOnceBySweep bc bt be = some rr) : Met l yX11_mostAtOnceBySweep (wo (.code yX11_mostAtOnceBySweep cX11_mostAtOnceBySweep 1 (some .int))) ({ frames := 3, cells := 0, slots := 0, locals := 127 } : Room) (preY D dA cA [.ref h0] [(h0, .inr (9, [.ref h1, .ref h21, .int xi, .ref h41, .ref h43, .ref h46, .ref h49, .int xe, .int xf])), (h1, .inr (6, [.int on, .int ot, .int op, .int os, .ref h2, .ref h6, .ref h9, .ref h14, .ref h17])), (h9, .inr (0, [.int bc, .ref h10, .ref h11, .ref h12, .ref h13])), (h10, .inl (dA 0, 12, .inl bg)), (h11, .inl (dA 0, 12, .inl bs)), (h12, .inl (dA 0, 12, .inl bt)), (h13, .inl (dA 0, 12, .inl be))]) (poPi rr) 0 0 noA := by
  refine of_Y (y := yX11_mostAtOnceBySweep) (cc := cX11_mostAtOnceBySweep) (maxL := 1) (ret := (some .int)) (av := [.ref h0]) (ws := [(h0, .inr (9, [.ref h1, .ref h21, .int xi, .ref h41, .ref h43, .ref h46, .ref h49, .int xe, .int xf])), (h1, .inr (6, [.int on, .int ot, .int op, .int os, .ref h2, .ref h6, .ref h9, .ref h14, .ref h17])), (h9, .inr (0, [.int bc, .ref h10, .ref h11, .ref h12, .ref h13])), (h10, .inl (dA 0, 12, .inl bg)), (h11, .inl (dA 0, 12, .inl bs)), (h12, .inl (dA 0, 12, .inl bt)), (h13, .inl (dA 0, 12, .inl be))]) (own := RX11) (by decide) rfl (Nat.le_of_ble_eq_true rfl) ?_
  intro p e s m below meth c hx hb hr ha hown hml hlocks hP hK hX hS ls hl
  have hC := hX.1
  have hl : lv_has ls 1 [(0, .ref h0)] := hl
  rw [f_X11_mostAtOnceBySweep] at hf
  refine lv_aload_n hx hb dX11_mostAtOnceBySweep_0 rfl (lv_at hl 0 rfl) ?_
  refine gt_f (C := RX11) (T := TX11) (N := 9) hx hb ha in_X11 hown hK hP 0 rfl rfl 0 (by decide) m_332 rfl dX11_mostAtOnceBySweep_1 ?_
  refine gt_f (C := RX8) (T := TX8) (N := 9) hx hb ha in_X8 hown hK hP 1 rfl rfl 6 (by decide) m_219 rfl dX11_mostAtOnceBySweep_4 ?_
  obtain ⟨r_1, hc1, hf⟩ := sf_c1e hf
  refine k_Pi (run_PV (As := []) (rest := []) ⟨hx, hb, hml, hown, ha⟩ (c_X1_atOnceBySweeping l D dA h9 h10 h11 h12 h13   bc bg bs bt be  _ hc1) (gi_V m_821 m_822 m_823 m_35 m_824) yd_X1_atOnceBySweeping ⟨Nat.le_of_ble_eq_true rfl, Nat.le_of_ble_eq_true rfl⟩ ⟨rfl, rfl⟩ hK hP [2, 3, 4, 5, 6] rfl 2 0 rfl rfl rfl rfl hl.1 rfl (Nat.le_of_ble_eq_true rfl) dX11_mostAtOnceBySweep_7 ⟨Nat.le_of_ble_eq_true rfl, Nat.le_of_ble_eq_true rfl⟩) hP hS (fun H locs hP hS => ?_)
  exact rt_Pi hx hb hr hlocks (Option.some.inj hf) hS dX11_mostAtOnceBySweep_10

def f_X11_finishCount (fc : Int32) : Option Int32 :=
  some fc
theorem yd_X11_finishCount : yX11_finishCount.cls = RX11 ∧ yX11_finishCount.cls ≠ "java/lang/invoke/MethodHandle" ∧ yX11_finishCount.cls ≠ "java/lang/invoke/VarHandle" ∧ (parseMethodDescriptor yX11_finishCount.desc).map (fun d => d.parameters.length) = some 0 := ⟨rfl, by decide, by decide, by decide +kernel⟩
set_option maxRecDepth 100000 in
set_option maxHeartbeats 4000000 in
theorem c_X11_finishCount (l : Launch) (D : va_G) (dA : Nat → ClassId) (cA : Nat → Nat) (h0 h1 h2 h6 h9 h14 h17 h18 h19 h20 h21 h41 h43 h46 h49 : Nat) (on : Int32) (ot : Int32) (op : Int32) (os : Int32) (fc : Int32) (xi : Int32) (xe : Int32) (xf : Int32) (rr : Int32) (hf : f_X11_finishCount fc = some rr) : Met l yX11_finishCount (wo (.code yX11_finishCount cX11_finishCount 1 (some .int))) ({ frames := 0, cells := 0, slots := 0, locals := 0 } : Room) (preY D dA cA [.ref h0] [(h0, .inr (9, [.ref h1, .ref h21, .int xi, .ref h41, .ref h43, .ref h46, .ref h49, .int xe, .int xf])), (h1, .inr (6, [.int on, .int ot, .int op, .int os, .ref h2, .ref h6, .ref h9, .ref h14, .ref h17])), (h17, .inr (3, [.int fc, .ref h18, .ref h19, .ref h20]))]) (poPi rr) 0 0 noA := by
  refine of_Y (y := yX11_finishCount) (cc := cX11_finishCount) (maxL := 1) (ret := (some .int)) (av := [.ref h0]) (ws := [(h0, .inr (9, [.ref h1, .ref h21, .int xi, .ref h41, .ref h43, .ref h46, .ref h49, .int xe, .int xf])), (h1, .inr (6, [.int on, .int ot, .int op, .int os, .ref h2, .ref h6, .ref h9, .ref h14, .ref h17])), (h17, .inr (3, [.int fc, .ref h18, .ref h19, .ref h20]))]) (own := RX11) (by decide) rfl (Nat.le_of_ble_eq_true rfl) ?_
  intro p e s m below meth c hx hb hr ha hown hml hlocks hP hK hX hS ls hl
  have hC := hX.1
  have hl : lv_has ls 1 [(0, .ref h0)] := hl
  rw [f_X11_finishCount] at hf
  refine lv_aload_n hx hb dX11_finishCount_0 rfl (lv_at hl 0 rfl) ?_
  refine gt_f (C := RX11) (T := TX11) (N := 9) hx hb ha in_X11 hown hK hP 0 rfl rfl 0 (by decide) m_332 rfl dX11_finishCount_1 ?_
  refine gt_f (C := RX8) (T := TX8) (N := 9) hx hb ha in_X8 hown hK hP 1 rfl rfl 8 (by decide) m_223 rfl dX11_finishCount_4 ?_
  refine gt_f (C := RX5) (T := TX5) (N := 4) hx hb ha in_X5 hown hK hP 2 rfl rfl 0 (by decide) m_190 rfl dX11_finishCount_7 ?_
  exact rt_Pi hx hb hr hlocks (Option.some.inj hf) hS dX11_finishCount_10

def f_X11_checkFinish (fc : Int32) (p0 : Int32) : Option Unit :=
  sf_b (p0 < (0 : Int32)) (none) (sf_b (p0 < fc) (some ()) (none))
theorem yd_X11_checkFinish : yX11_checkFinish.cls = RX11 ∧ yX11_checkFinish.cls ≠ "java/lang/invoke/MethodHandle" ∧ yX11_checkFinish.cls ≠ "java/lang/invoke/VarHandle" ∧ (parseMethodDescriptor yX11_checkFinish.desc).map (fun d => d.parameters.length) = some 1 := ⟨rfl, by decide, by decide, by decide +kernel⟩
set_option maxRecDepth 100000 in
set_option maxHeartbeats 4000000 in
theorem c_X11_checkFinish (l : Launch) (D : va_G) (dA : Nat → ClassId) (cA : Nat → Nat) (h0 h1 h2 h6 h9 h14 h17 h18 h19 h20 h21 h41 h43 h46 h49 : Nat) (on : Int32) (ot : Int32) (op : Int32) (os : Int32) (fc : Int32) (xi : Int32) (xe : Int32) (xf : Int32) (p0 : Int32) (hf : f_X11_checkFinish fc p0 = some ()) : Met l yX11_checkFinish (wo (.code yX11_checkFinish cX11_checkFinish 2 none)) ({ frames := 0, cells := 0, slots := 0, locals := 0 } : Room) (preY D dA cA [.ref h0, .int p0] [(h0, .inr (9, [.ref h1, .ref h21, .int xi, .ref h41, .ref h43, .ref h46, .ref h49, .int xe, .int xf])), (h1, .inr (6, [.int on, .int ot, .int op, .int os, .ref h2, .ref h6, .ref h9, .ref h14, .ref h17])), (h17, .inr (3, [.int fc, .ref h18, .ref h19, .ref h20]))]) (poPv) 0 0 noA := by
  refine of_Y (y := yX11_checkFinish) (cc := cX11_checkFinish) (maxL := 2) (ret := none) (av := [.ref h0, .int p0]) (ws := [(h0, .inr (9, [.ref h1, .ref h21, .int xi, .ref h41, .ref h43, .ref h46, .ref h49, .int xe, .int xf])), (h1, .inr (6, [.int on, .int ot, .int op, .int os, .ref h2, .ref h6, .ref h9, .ref h14, .ref h17])), (h17, .inr (3, [.int fc, .ref h18, .ref h19, .ref h20]))]) (own := RX11) (by decide) rfl (Nat.le_of_ble_eq_true rfl) ?_
  intro p e s m below meth c hx hb hr ha hown hml hlocks hP hK hX hS ls hl
  have hC := hX.1
  have hl : lv_has ls 2 [(0, .ref h0), (1, .int p0)] := hl
  rw [f_X11_checkFinish] at hf
  refine lv_iload_n hx hb dX11_checkFinish_0 rfl (lv_at hl 1 rfl) ?_
  refine lv_if_lt (tgt := 18) hx hb dX11_checkFinish_1 (by decide) (fun hc => ?_) (fun hc => ?_)
  · have hf := sf_bp hf hc
    cases hf
  · have hf := sf_bn hf hc
    refine lv_iload_n hx hb dX11_checkFinish_4 rfl (lv_at hl 1 rfl) ?_
    refine lv_aload_n hx hb dX11_checkFinish_5 rfl (lv_at hl 0 rfl) ?_
    refine gt_f (C := RX11) (T := TX11) (N := 9) hx hb ha in_X11 hown hK hP 0 rfl rfl 0 (by decide) m_332 rfl dX11_checkFinish_6 ?_
    refine gt_f (C := RX8) (T := TX8) (N := 9) hx hb ha in_X8 hown hK hP 1 rfl rfl 8 (by decide) m_223 rfl dX11_checkFinish_9 ?_
    refine gt_f (C := RX5) (T := TX5) (N := 4) hx hb ha in_X5 hown hK hP 2 rfl rfl 0 (by decide) m_190 rfl dX11_checkFinish_12 ?_
    refine lv_icmp_lt (tgt := 29) hx hb dX11_checkFinish_15 (by decide) (fun hc => ?_) (fun hc => ?_)
    · have hf := sf_bp hf hc
      exact rt_Pv hx hb hr hlocks hS dX11_checkFinish_29
    · have hf := sf_bn hf hc
      cases hf

def f_TX11_checkFinish (fc : Int32) (p0 : Int32) : Option Nat :=
  sf_b (p0 < (0 : Int32)) (some 4) (sf_b (p0 < fc) (none) (some 4))
theorem yd_TX11_checkFinish : yX11_checkFinish.cls = RX11 ∧ yX11_checkFinish.cls ≠ "java/lang/invoke/MethodHandle" ∧ yX11_checkFinish.cls ≠ "java/lang/invoke/VarHandle" ∧ (parseMethodDescriptor yX11_checkFinish.desc).map (fun d => d.parameters.length) = some 1 := ⟨rfl, by decide, by decide, by decide +kernel⟩
set_option maxRecDepth 100000 in
set_option maxHeartbeats 4000000 in
theorem c_TX11_checkFinish (l : Launch) (D : va_G) (dA : Nat → ClassId) (cA : Nat → Nat) (hst : l.stackTraces = false) (h0 h1 h2 h6 h9 h14 h17 h18 h19 h20 h21 h41 h43 h46 h49 : Nat) (sz : Nat) (on : Int32) (ot : Int32) (op : Int32) (os : Int32) (fc : Int32) (xi : Int32) (xe : Int32) (xf : Int32) (p0 : Int32) (rx : Nat) (hf : f_TX11_checkFinish fc p0 = some rx) : vx_Met l yX11_checkFinish (wo (.code yX11_checkFinish cX11_checkFinish 2 none)) ({ frames := 6, cells := 1, slots := 6, locals := 100 } : Room) (preX D dA cA [.ref h0, .int p0] sz [(h0, .inr (9, [.ref h1, .ref h21, .int xi, .ref h41, .ref h43, .ref h46, .ref h49, .int xe, .int xf])), (h1, .inr (6, [.int on, .int ot, .int op, .int os, .ref h2, .ref h6, .ref h9, .ref h14, .ref h17])), (h17, .inr (3, [.int fc, .ref h18, .ref h19, .ref h20]))]) noQ (xcQ D (exs rx) [(h0, .inr (9, [.ref h1, .ref h21, .int xi, .ref h41, .ref h43, .ref h46, .ref h49, .int xe, .int xf])), (h1, .inr (6, [.int on, .int ot, .int op, .int os, .ref h2, .ref h6, .ref h9, .ref h14, .ref h17])), (h17, .inr (3, [.int fc, .ref h18, .ref h19, .ref h20]))] (va_A [(h0, .inr (9, [.ref h1, .ref h21, .int xi, .ref h41, .ref h43, .ref h46, .ref h49, .int xe, .int xf])), (h1, .inr (6, [.int on, .int ot, .int op, .int os, .ref h2, .ref h6, .ref h9, .ref h14, .ref h17])), (h17, .inr (3, [.int fc, .ref h18, .ref h19, .ref h20]))] sz)) 1 6 (va_A [(h0, .inr (9, [.ref h1, .ref h21, .int xi, .ref h41, .ref h43, .ref h46, .ref h49, .int xe, .int xf])), (h1, .inr (6, [.int on, .int ot, .int op, .int os, .ref h2, .ref h6, .ref h9, .ref h14, .ref h17])), (h17, .inr (3, [.int fc, .ref h18, .ref h19, .ref h20]))] sz) := by
  refine of_Z (y := yX11_checkFinish) (cc := cX11_checkFinish) (maxL := 2) (ret := none) (av := [.ref h0, .int p0]) (ws := [(h0, .inr (9, [.ref h1, .ref h21, .int xi, .ref h41, .ref h43, .ref h46, .ref h49, .int xe, .int xf])), (h1, .inr (6, [.int on, .int ot, .int op, .int os, .ref h2, .ref h6, .ref h9, .ref h14, .ref h17])), (h17, .inr (3, [.int fc, .ref h18, .ref h19, .ref h20]))]) (sz := sz) (own := RX11) (XC := fun A => xcQ D (exs rx) [(h0, .inr (9, [.ref h1, .ref h21, .int xi, .ref h41, .ref h43, .ref h46, .ref h49, .int xe, .int xf])), (h1, .inr (6, [.int on, .int ot, .int op, .int os, .ref h2, .ref h6, .ref h9, .ref h14, .ref h17])), (h17, .inr (3, [.int fc, .ref h18, .ref h19, .ref h20]))] A) (by decide) rfl (Nat.le_of_ble_eq_true rfl) ?_
  intro p e s m below meth c A hx hb hr ha hown hml hlocks hin hno hP hK hD hX hS hA ls hl
  have hC := hX.1
  have hl : lv_has ls 2 [(0, .ref h0), (1, .int p0)] := hl
  rw [f_TX11_checkFinish] at hf
  refine lv_iload_n hx hb dX11_checkFinish_0 rfl (lv_at hl 1 rfl) ?_
  refine lv_if_lt (tgt := 18) hx hb dX11_checkFinish_1 (by decide) (fun hc => ?_) (fun hc => ?_)
  · have hf := sf_bp hf hc
    cases hf
    exact th_SXW (E := exs 4) (text := "no such finish is kept") (sa := cA 48) nsx_4_0 nsx_4_1 nsx_4_2 nsx_4_5 hx hb hst hown ha hX hS (hP.sub [0, 1, 2] rfl) (hD.sub [0, 1, 2] (by decide) rfl) hlocks hno (hl.1.trans hml.symm) m_543 m_53 (hC.2.2.1 (RX11, 399, "no such finish is kept", 48) (List.mem_of_getElem? (i := 25) rfl)) exg_129 exb_129 exo_129 exf_129 dX11_checkFinish_18 dX11_checkFinish_21 dX11_checkFinish_22 dX11_checkFinish_25 dX11_checkFinish_28 ⟨by decide, by decide, by decide, by decide⟩ ⟨by decide, by decide⟩
  · have hf := sf_bn hf hc
    refine lv_iload_n hx hb dX11_checkFinish_4 rfl (lv_at hl 1 rfl) ?_
    refine lv_aload_n hx hb dX11_checkFinish_5 rfl (lv_at hl 0 rfl) ?_
    refine gt_f (C := RX11) (T := TX11) (N := 9) hx hb ha in_X11 hown hK hP 0 rfl rfl 0 (by decide) m_332 rfl dX11_checkFinish_6 ?_
    refine gt_f (C := RX8) (T := TX8) (N := 9) hx hb ha in_X8 hown hK hP 1 rfl rfl 8 (by decide) m_223 rfl dX11_checkFinish_9 ?_
    refine gt_f (C := RX5) (T := TX5) (N := 4) hx hb ha in_X5 hown hK hP 2 rfl rfl 0 (by decide) m_190 rfl dX11_checkFinish_12 ?_
    refine lv_icmp_lt (tgt := 29) hx hb dX11_checkFinish_15 (by decide) (fun hc => ?_) (fun hc => ?_)
    · have hf := sf_bp hf hc
      cases hf
    · have hf := sf_bn hf hc
      cases hf
      exact th_SXW (E := exs 4) (text := "no such finish is kept") (sa := cA 48) nsx_4_0 nsx_4_1 nsx_4_2 nsx_4_5 hx hb hst hown ha hX hS (hP.sub [0, 1, 2] rfl) (hD.sub [0, 1, 2] (by decide) rfl) hlocks hno (hl.1.trans hml.symm) m_543 m_53 (hC.2.2.1 (RX11, 399, "no such finish is kept", 48) (List.mem_of_getElem? (i := 25) rfl)) exg_129 exb_129 exo_129 exf_129 dX11_checkFinish_18 dX11_checkFinish_21 dX11_checkFinish_22 dX11_checkFinish_25 dX11_checkFinish_28 ⟨by decide, by decide, by decide, by decide⟩ ⟨by decide, by decide⟩

def f_X11_finishedGuest (fc : Int32) (fg : Nat → Int32) (p0 : Int32) : Option Int32 :=
  sf_c0 (f_X11_checkFinish fc p0) (fun _ => sf_c1 (f_X5_rowOf fc p0) (fun r_1 => sf_g (sf_in r_1 16 = true) (some (fg r_1.toNatClampNeg))))
theorem yd_X11_finishedGuest : yX11_finishedGuest.cls = RX11 ∧ yX11_finishedGuest.cls ≠ "java/lang/invoke/MethodHandle" ∧ yX11_finishedGuest.cls ≠ "java/lang/invoke/VarHandle" ∧ (parseMethodDescriptor yX11_finishedGuest.desc).map (fun d => d.parameters.length) = some 1 := ⟨rfl, by decide, by decide, by decide +kernel⟩
set_option maxRecDepth 100000 in
set_option maxHeartbeats 4000000 in
theorem c_X11_finishedGuest (l : Launch) (D : va_G) (dA : Nat → ClassId) (cA : Nat → Nat) (h0 h1 h2 h6 h9 h14 h17 h18 h19 h20 h21 h41 h43 h46 h49 : Nat) (on : Int32) (ot : Int32) (op : Int32) (os : Int32) (fc : Int32) (fg : Nat → Int32) (fs : Nat → Int32) (fm : Nat → Int32) (xi : Int32) (xe : Int32) (xf : Int32) (p0 : Int32) (rr : Int32) (hf : f_X11_finishedGuest fc fg p0 = some rr) : Met l yX11_finishedGuest (wo (.code yX11_finishedGuest cX11_finishedGuest 2 (some .int))) ({ frames := 1, cells := 0, slots := 0, locals := 21 } : Room) (preY D dA cA [.ref h0, .int p0] [(h0, .inr (9, [.ref h1, .ref h21, .int xi, .ref h41, .ref h43, .ref h46, .ref h49, .int xe, .int xf])), (h1, .inr (6, [.int on, .int ot, .int op, .int os, .ref h2, .ref h6, .ref h9, .ref h14, .ref h17])), (h17, .inr (3, [.int fc, .ref h18, .ref h19, .ref h20])), (h18, .inl (dA 0, 16, .inl fg)), (h19, .inl (dA 0, 16, .inl fs)), (h20, .inl (dA 0, 16, .inl fm))]) (poPi rr) 0 0 noA := by
  refine of_Y (y := yX11_finishedGuest) (cc := cX11_finishedGuest) (maxL := 2) (ret := (some .int)) (av := [.ref h0, .int p0]) (ws := [(h0, .inr (9, [.ref h1, .ref h21, .int xi, .ref h41, .ref h43, .ref h46, .ref h49, .int xe, .int xf])), (h1, .inr (6, [.int on, .int ot, .int op, .int os, .ref h2, .ref h6, .ref h9, .ref h14, .ref h17])), (h17, .inr (3, [.int fc, .ref h18, .ref h19, .ref h20])), (h18, .inl (dA 0, 16, .inl fg)), (h19, .inl (dA 0, 16, .inl fs)), (h20, .inl (dA 0, 16, .inl fm))]) (own := RX11) (by decide) rfl (Nat.le_of_ble_eq_true rfl) ?_
  intro p e s m below meth c hx hb hr ha hown hml hlocks hP hK hX hS ls hl
  have hC := hX.1
  have hl : lv_has ls 2 [(0, .ref h0), (1, .int p0)] := hl
  rw [f_X11_finishedGuest] at hf
  refine lv_aload_n hx hb dX11_finishedGuest_0 rfl (lv_at hl 0 rfl) ?_
  refine lv_iload_n hx hb dX11_finishedGuest_1 rfl (lv_at hl 1 rfl) ?_
  obtain ⟨hc0, hf⟩ := sf_c0e hf
  refine k_Pv (run_YV (As := [.int p0]) (rest := []) ⟨hx, hb, hml, hown, ha⟩ (c_X11_checkFinish l D dA cA h0 h1 h2 h6 h9 h14 h17 h18 h19 h20 h21 h41 h43 h46 h49   on ot op os fc xi xe xf p0  hc0) (gi_V m_1452 m_1454 m_21 m_31 m_1455) yd_X11_checkFinish ⟨Nat.le_of_ble_eq_true rfl, Nat.le_of_ble_eq_true rfl⟩ ⟨rfl, rfl⟩ hK hX hS hP [0, 1, 2] rfl (va_recv hK hP (q0 := 0) rfl rfl) rfl hl.1 rfl (Nat.le_of_ble_eq_true rfl) dX11_finishedGuest_2 ⟨Nat.le_of_ble_eq_true rfl, Nat.le_of_ble_eq_true rfl⟩) hP hS (fun H locs hP hS => ?_)
  refine lv_aload_n hx hb dX11_finishedGuest_5 rfl (lv_at hl 0 rfl) ?_
  refine gt_f (C := RX11) (T := TX11) (N := 9) hx hb ha in_X11 hown hK hP 0 rfl rfl 0 (by decide) m_332 rfl dX11_finishedGuest_6 ?_
  refine gt_f (C := RX8) (T := TX8) (N := 9) hx hb ha in_X8 hown hK hP 1 rfl rfl 8 (by decide) m_223 rfl dX11_finishedGuest_9 ?_
  refine gt_f (C := RX5) (T := TX5) (N := 4) hx hb ha in_X5 hown hK hP 2 rfl rfl 1 (by decide) m_192 rfl dX11_finishedGuest_12 ?_
  refine lv_aload_n hx hb dX11_finishedGuest_15 rfl (lv_at hl 0 rfl) ?_
  refine gt_f (C := RX11) (T := TX11) (N := 9) hx hb ha in_X11 hown hK hP 0 rfl rfl 0 (by decide) m_332 rfl dX11_finishedGuest_16 ?_
  refine gt_f (C := RX8) (T := TX8) (N := 9) hx hb ha in_X8 hown hK hP 1 rfl rfl 8 (by decide) m_223 rfl dX11_finishedGuest_19 ?_
  refine lv_iload_n hx hb dX11_finishedGuest_22 rfl (lv_at hl 1 rfl) ?_
  obtain ⟨r_1, hc1, hf⟩ := sf_c1e hf
  refine k_Pi (run_PV (As := [.int p0]) (rest := [.ref h18]) ⟨hx, hb, hml, hown, ha⟩ (c_X5_rowOf l D dA h17 h18 h19 h20   fc fg fs fm p0 _ hc1) (gi_V m_1457 m_1458 m_1459 m_37 m_1460) yd_X5_rowOf ⟨Nat.le_of_ble_eq_true rfl, Nat.le_of_ble_eq_true rfl⟩ ⟨rfl, rfl⟩ hK hP [2, 3, 4, 5] rfl 2 3 rfl rfl rfl rfl hl.1 rfl (Nat.le_of_ble_eq_true rfl) dX11_finishedGuest_23 ⟨Nat.le_of_ble_eq_true rfl, Nat.le_of_ble_eq_true rfl⟩) hP hS (fun H locs hP hS => ?_)
  obtain ⟨hi, hf⟩ := sf_ge hf
  refine ia_ld hx hb hK hP 3 rfl hi dX11_finishedGuest_26 ?_
  exact rt_Pi hx hb hr hlocks (Option.some.inj hf) hS dX11_finishedGuest_27

def f_TX11_finishedGuest (fc : Int32) (p0 : Int32) : Option Nat :=
  sf_t1 (f_TX11_checkFinish fc p0) (fun k_1 => some k_1) (sf_c0 (f_X11_checkFinish fc p0) (fun _ => sf_c1 (f_X5_rowOf fc p0) (fun r_2 => sf_g (sf_in r_2 16 = true) (none))))
theorem yd_TX11_finishedGuest : yX11_finishedGuest.cls = RX11 ∧ yX11_finishedGuest.cls ≠ "java/lang/invoke/MethodHandle" ∧ yX11_finishedGuest.cls ≠ "java/lang/invoke/VarHandle" ∧ (parseMethodDescriptor yX11_finishedGuest.desc).map (fun d => d.parameters.length) = some 1 := ⟨rfl, by decide, by decide, by decide +kernel⟩
set_option maxRecDepth 100000 in
set_option maxHeartbeats 4000000 in
theorem c_TX11_finishedGuest (l : Launch) (D : va_G) (dA : Nat → ClassId) (cA : Nat → Nat) (hst : l.stackTraces = false) (h0 h1 h2 h6 h9 h14 h17 h18 h19 h20 h21 h41 h43 h46 h49 : Nat) (sz : Nat) (on : Int32) (ot : Int32) (op : Int32) (os : Int32) (fc : Int32) (fg : Nat → Int32) (fs : Nat → Int32) (fm : Nat → Int32) (xi : Int32) (xe : Int32) (xf : Int32) (p0 : Int32) (rx : Nat) (hf : f_TX11_finishedGuest fc p0 = some rx) : vx_Met l yX11_finishedGuest (wo (.code yX11_finishedGuest cX11_finishedGuest 2 (some .int))) ({ frames := 7, cells := 1, slots := 6, locals := 121 } : Room) (preX D dA cA [.ref h0, .int p0] sz [(h0, .inr (9, [.ref h1, .ref h21, .int xi, .ref h41, .ref h43, .ref h46, .ref h49, .int xe, .int xf])), (h1, .inr (6, [.int on, .int ot, .int op, .int os, .ref h2, .ref h6, .ref h9, .ref h14, .ref h17])), (h17, .inr (3, [.int fc, .ref h18, .ref h19, .ref h20])), (h18, .inl (dA 0, 16, .inl fg)), (h19, .inl (dA 0, 16, .inl fs)), (h20, .inl (dA 0, 16, .inl fm))]) noQ (xcQ D (exs rx) [(h0, .inr (9, [.ref h1, .ref h21, .int xi, .ref h41, .ref h43, .ref h46, .ref h49, .int xe, .int xf])), (h1, .inr (6, [.int on, .int ot, .int op, .int os, .ref h2, .ref h6, .ref h9, .ref h14, .ref h17])), (h17, .inr (3, [.int fc, .ref h18, .ref h19, .ref h20])), (h18, .inl (dA 0, 16, .inl fg)), (h19, .inl (dA 0, 16, .inl fs)), (h20, .inl (dA 0, 16, .inl fm))] (va_A [(h0, .inr (9, [.ref h1, .ref h21, .int xi, .ref h41, .ref h43, .ref h46, .ref h49, .int xe, .int xf])), (h1, .inr (6, [.int on, .int ot, .int op, .int os, .ref h2, .ref h6, .ref h9, .ref h14, .ref h17])), (h17, .inr (3, [.int fc, .ref h18, .ref h19, .ref h20])), (h18, .inl (dA 0, 16, .inl fg)), (h19, .inl (dA 0, 16, .inl fs)), (h20, .inl (dA 0, 16, .inl fm))] sz)) 1 6 (va_A [(h0, .inr (9, [.ref h1, .ref h21, .int xi, .ref h41, .ref h43, .ref h46, .ref h49, .int xe, .int xf])), (h1, .inr (6, [.int on, .int ot, .int op, .int os, .ref h2, .ref h6, .ref h9, .ref h14, .ref h17])), (h17, .inr (3, [.int fc, .ref h18, .ref h19, .ref h20])), (h18, .inl (dA 0, 16, .inl fg)), (h19, .inl (dA 0, 16, .inl fs)), (h20, .inl (dA 0, 16, .inl fm))] sz) := by
  refine of_Z (y := yX11_finishedGuest) (cc := cX11_finishedGuest) (maxL := 2) (ret := (some .int)) (av := [.ref h0, .int p0]) (ws := [(h0, .inr (9, [.ref h1, .ref h21, .int xi, .ref h41, .ref h43, .ref h46, .ref h49, .int xe, .int xf])), (h1, .inr (6, [.int on, .int ot, .int op, .int os, .ref h2, .ref h6, .ref h9, .ref h14, .ref h17])), (h17, .inr (3, [.int fc, .ref h18, .ref h19, .ref h20])), (h18, .inl (dA 0, 16, .inl fg)), (h19, .inl (dA 0, 16, .inl fs)), (h20, .inl (dA 0, 16, .inl fm))]) (sz := sz) (own := RX11) (XC := fun A => xcQ D (exs rx) [(h0, .inr (9, [.ref h1, .ref h21, .int xi, .ref h41, .ref h43, .ref h46, .ref h49, .int xe, .int xf])), (h1, .inr (6, [.int on, .int ot, .int op, .int os, .ref h2, .ref h6, .ref h9, .ref h14, .ref h17])), (h17, .inr (3, [.int fc, .ref h18, .ref h19, .ref h20])), (h18, .inl (dA 0, 16, .inl fg)), (h19, .inl (dA 0, 16, .inl fs)), (h20, .inl (dA 0, 16, .inl fm))] A) (by decide) rfl (Nat.le_of_ble_eq_true rfl) ?_
  intro p e s m below meth c A hx hb hr ha hown hml hlocks hin hno hP hK hD hX hS hA ls hl
  have hC := hX.1
  have hl : lv_has ls 2 [(0, .ref h0), (1, .int p0)] := hl
  rw [f_TX11_finishedGuest] at hf
  refine lv_aload_n hx hb dX11_finishedGuest_0 rfl (lv_at hl 0 rfl) ?_
  refine lv_iload_n hx hb dX11_finishedGuest_1 rfl (lv_at hl 1 rfl) ?_
  rcases sf_t1e hf with ⟨hnt, hf⟩ | ⟨k_1, hc1, hf⟩
  · skip
    obtain ⟨hc1, hf⟩ := sf_c0e hf
    refine k_Pv (run_YV (As := [.int p0]) (rest := []) ⟨hx, hb, hml, hown, ha⟩ (c_X11_checkFinish l D dA cA h0 h1 h2 h6 h9 h14 h17 h18 h19 h20 h21 h41 h43 h46 h49   on ot op os fc xi xe xf p0  hc1) (gi_V m_1452 m_1454 m_21 m_31 m_1455) yd_X11_checkFinish ⟨Nat.le_of_ble_eq_true rfl, Nat.le_of_ble_eq_true rfl⟩ ⟨rfl, rfl⟩ hK hX hS hP [0, 1, 2] rfl (va_recv hK hP (q0 := 0) rfl rfl) rfl hl.1 rfl (Nat.le_of_ble_eq_true rfl) dX11_finishedGuest_2 ⟨Nat.le_of_ble_eq_true rfl, Nat.le_of_ble_eq_true rfl⟩) hP hS (fun H locs hP hS => ?_)
    refine lv_aload_n hx hb dX11_finishedGuest_5 rfl (lv_at hl 0 rfl) ?_
    refine gt_f (C := RX11) (T := TX11) (N := 9) hx hb ha in_X11 hown hK hP 0 rfl rfl 0 (by decide) m_332 rfl dX11_finishedGuest_6 ?_
    refine gt_f (C := RX8) (T := TX8) (N := 9) hx hb ha in_X8 hown hK hP 1 rfl rfl 8 (by decide) m_223 rfl dX11_finishedGuest_9 ?_
    refine gt_f (C := RX5) (T := TX5) (N := 4) hx hb ha in_X5 hown hK hP 2 rfl rfl 1 (by decide) m_192 rfl dX11_finishedGuest_12 ?_
    refine lv_aload_n hx hb dX11_finishedGuest_15 rfl (lv_at hl 0 rfl) ?_
    refine gt_f (C := RX11) (T := TX11) (N := 9) hx hb ha in_X11 hown hK hP 0 rfl rfl 0 (by decide) m_332 rfl dX11_finishedGuest_16 ?_
    refine gt_f (C := RX8) (T := TX8) (N := 9) hx hb ha in_X8 hown hK hP 1 rfl rfl 8 (by decide) m_223 rfl dX11_finishedGuest_19 ?_
    refine lv_iload_n hx hb dX11_finishedGuest_22 rfl (lv_at hl 1 rfl) ?_
    obtain ⟨r_2, hc2, hf⟩ := sf_c1e hf
    refine k_Pi (run_PV (As := [.int p0]) (rest := [.ref h18]) ⟨hx, hb, hml, hown, ha⟩ (c_X5_rowOf l D dA h17 h18 h19 h20   fc fg fs fm p0 _ hc2) (gi_V m_1457 m_1458 m_1459 m_37 m_1460) yd_X5_rowOf ⟨Nat.le_of_ble_eq_true rfl, Nat.le_of_ble_eq_true rfl⟩ ⟨rfl, rfl⟩ hK hP [2, 3, 4, 5] rfl 2 3 rfl rfl rfl rfl hl.1 rfl (Nat.le_of_ble_eq_true rfl) dX11_finishedGuest_23 ⟨Nat.le_of_ble_eq_true rfl, Nat.le_of_ble_eq_true rfl⟩) hP hS (fun H locs hP hS => ?_)
    obtain ⟨hi, hf⟩ := sf_ge hf
    refine ia_ld hx hb hK hP 3 rfl hi dX11_finishedGuest_26 ?_
    cases hf
  · skip
    refine k_Z (wr := [(h18, .inl (dA 0, 16, .inl fg)), (h19, .inl (dA 0, 16, .inl fs)), (h20, .inl (dA 0, 16, .inl fm))]) (run_ZV (As := [.int p0]) (rest := []) ⟨hx, hb, hml, hown, ha⟩ (c_TX11_checkFinish l D dA cA hst h0 h1 h2 h6 h9 h14 h17 h18 h19 h20 h21 h41 h43 h46 h49  _ on ot op os fc xi xe xf p0 _ hc1) (gi_V m_1452 m_1454 m_21 m_31 m_1455) yd_TX11_checkFinish ⟨Nat.le_of_ble_eq_true rfl, Nat.le_of_ble_eq_true rfl⟩ ⟨rfl, rfl⟩ hK hX hS hA hP hD [0, 1, 2] (by decide) rfl (va_recv hK hP (q0 := 0) rfl rfl) rfl hl.1 rfl (Nat.le_of_ble_eq_true rfl) dX11_finishedGuest_2 ⟨Nat.le_of_ble_eq_true rfl, Nat.le_of_ble_eq_true rfl⟩) hP hD hS hA [0, 1, 2] [3, 4, 5] rfl rfl (by decide) (by decide) (fun q9 H locs hP hD hS ht9 => ?_)
    cases hf
    exact px_o hno hlocks ht9 (hP.sub [3, 4, 5, 0, 1, 2] rfl) (hD.sub [3, 4, 5, 0, 1, 2] (by decide) rfl) hS (by decide) (by decide)

def f_X11_finishedSlide (fc : Int32) (fs : Nat → Int32) (p0 : Int32) : Option Int32 :=
  sf_c0 (f_X11_checkFinish fc p0) (fun _ => sf_c1 (f_X5_rowOf fc p0) (fun r_1 => sf_g (sf_in r_1 16 = true) (some (fs r_1.toNatClampNeg))))
theorem yd_X11_finishedSlide : yX11_finishedSlide.cls = RX11 ∧ yX11_finishedSlide.cls ≠ "java/lang/invoke/MethodHandle" ∧ yX11_finishedSlide.cls ≠ "java/lang/invoke/VarHandle" ∧ (parseMethodDescriptor yX11_finishedSlide.desc).map (fun d => d.parameters.length) = some 1 := ⟨rfl, by decide, by decide, by decide +kernel⟩
set_option maxRecDepth 100000 in
set_option maxHeartbeats 4000000 in
theorem c_X11_finishedSlide (l : Launch) (D : va_G) (dA : Nat → ClassId) (cA : Nat → Nat) (h0 h1 h2 h6 h9 h14 h17 h18 h19 h20 h21 h41 h43 h46 h49 : Nat) (on : Int32) (ot : Int32) (op : Int32) (os : Int32) (fc : Int32) (fg : Nat → Int32) (fs : Nat → Int32) (fm : Nat → Int32) (xi : Int32) (xe : Int32) (xf : Int32) (p0 : Int32) (rr : Int32) (hf : f_X11_finishedSlide fc fs p0 = some rr) : Met l yX11_finishedSlide (wo (.code yX11_finishedSlide cX11_finishedSlide 2 (some .int))) ({ frames := 1, cells := 0, slots := 0, locals := 21 } : Room) (preY D dA cA [.ref h0, .int p0] [(h0, .inr (9, [.ref h1, .ref h21, .int xi, .ref h41, .ref h43, .ref h46, .ref h49, .int xe, .int xf])), (h1, .inr (6, [.int on, .int ot, .int op, .int os, .ref h2, .ref h6, .ref h9, .ref h14, .ref h17])), (h17, .inr (3, [.int fc, .ref h18, .ref h19, .ref h20])), (h18, .inl (dA 0, 16, .inl fg)), (h19, .inl (dA 0, 16, .inl fs)), (h20, .inl (dA 0, 16, .inl fm))]) (poPi rr) 0 0 noA := by
  refine of_Y (y := yX11_finishedSlide) (cc := cX11_finishedSlide) (maxL := 2) (ret := (some .int)) (av := [.ref h0, .int p0]) (ws := [(h0, .inr (9, [.ref h1, .ref h21, .int xi, .ref h41, .ref h43, .ref h46, .ref h49, .int xe, .int xf])), (h1, .inr (6, [.int on, .int ot, .int op, .int os, .ref h2, .ref h6, .ref h9, .ref h14, .ref h17])), (h17, .inr (3, [.int fc, .ref h18, .ref h19, .ref h20])), (h18, .inl (dA 0, 16, .inl fg)), (h19, .inl (dA 0, 16, .inl fs)), (h20, .inl (dA 0, 16, .inl fm))]) (own := RX11) (by decide) rfl (Nat.le_of_ble_eq_true rfl) ?_
  intro p e s m below meth c hx hb hr ha hown hml hlocks hP hK hX hS ls hl
  have hC := hX.1
  have hl : lv_has ls 2 [(0, .ref h0), (1, .int p0)] := hl
  rw [f_X11_finishedSlide] at hf
  refine lv_aload_n hx hb dX11_finishedSlide_0 rfl (lv_at hl 0 rfl) ?_
  refine lv_iload_n hx hb dX11_finishedSlide_1 rfl (lv_at hl 1 rfl) ?_
  obtain ⟨hc0, hf⟩ := sf_c0e hf
  refine k_Pv (run_YV (As := [.int p0]) (rest := []) ⟨hx, hb, hml, hown, ha⟩ (c_X11_checkFinish l D dA cA h0 h1 h2 h6 h9 h14 h17 h18 h19 h20 h21 h41 h43 h46 h49   on ot op os fc xi xe xf p0  hc0) (gi_V m_1452 m_1454 m_21 m_31 m_1455) yd_X11_checkFinish ⟨Nat.le_of_ble_eq_true rfl, Nat.le_of_ble_eq_true rfl⟩ ⟨rfl, rfl⟩ hK hX hS hP [0, 1, 2] rfl (va_recv hK hP (q0 := 0) rfl rfl) rfl hl.1 rfl (Nat.le_of_ble_eq_true rfl) dX11_finishedSlide_2 ⟨Nat.le_of_ble_eq_true rfl, Nat.le_of_ble_eq_true rfl⟩) hP hS (fun H locs hP hS => ?_)
  refine lv_aload_n hx hb dX11_finishedSlide_5 rfl (lv_at hl 0 rfl) ?_
  refine gt_f (C := RX11) (T := TX11) (N := 9) hx hb ha in_X11 hown hK hP 0 rfl rfl 0 (by decide) m_332 rfl dX11_finishedSlide_6 ?_
  refine gt_f (C := RX8) (T := TX8) (N := 9) hx hb ha in_X8 hown hK hP 1 rfl rfl 8 (by decide) m_223 rfl dX11_finishedSlide_9 ?_
  refine gt_f (C := RX5) (T := TX5) (N := 4) hx hb ha in_X5 hown hK hP 2 rfl rfl 2 (by decide) m_194 rfl dX11_finishedSlide_12 ?_
  refine lv_aload_n hx hb dX11_finishedSlide_15 rfl (lv_at hl 0 rfl) ?_
  refine gt_f (C := RX11) (T := TX11) (N := 9) hx hb ha in_X11 hown hK hP 0 rfl rfl 0 (by decide) m_332 rfl dX11_finishedSlide_16 ?_
  refine gt_f (C := RX8) (T := TX8) (N := 9) hx hb ha in_X8 hown hK hP 1 rfl rfl 8 (by decide) m_223 rfl dX11_finishedSlide_19 ?_
  refine lv_iload_n hx hb dX11_finishedSlide_22 rfl (lv_at hl 1 rfl) ?_
  obtain ⟨r_1, hc1, hf⟩ := sf_c1e hf
  refine k_Pi (run_PV (As := [.int p0]) (rest := [.ref h19]) ⟨hx, hb, hml, hown, ha⟩ (c_X5_rowOf l D dA h17 h18 h19 h20   fc fg fs fm p0 _ hc1) (gi_V m_1457 m_1458 m_1459 m_37 m_1460) yd_X5_rowOf ⟨Nat.le_of_ble_eq_true rfl, Nat.le_of_ble_eq_true rfl⟩ ⟨rfl, rfl⟩ hK hP [2, 3, 4, 5] rfl 2 3 rfl rfl rfl rfl hl.1 rfl (Nat.le_of_ble_eq_true rfl) dX11_finishedSlide_23 ⟨Nat.le_of_ble_eq_true rfl, Nat.le_of_ble_eq_true rfl⟩) hP hS (fun H locs hP hS => ?_)
  obtain ⟨hi, hf⟩ := sf_ge hf
  refine ia_ld hx hb hK hP 4 rfl hi dX11_finishedSlide_26 ?_
  exact rt_Pi hx hb hr hlocks (Option.some.inj hf) hS dX11_finishedSlide_27

def f_TX11_finishedSlide (fc : Int32) (p0 : Int32) : Option Nat :=
  sf_t1 (f_TX11_checkFinish fc p0) (fun k_1 => some k_1) (sf_c0 (f_X11_checkFinish fc p0) (fun _ => sf_c1 (f_X5_rowOf fc p0) (fun r_2 => sf_g (sf_in r_2 16 = true) (none))))
theorem yd_TX11_finishedSlide : yX11_finishedSlide.cls = RX11 ∧ yX11_finishedSlide.cls ≠ "java/lang/invoke/MethodHandle" ∧ yX11_finishedSlide.cls ≠ "java/lang/invoke/VarHandle" ∧ (parseMethodDescriptor yX11_finishedSlide.desc).map (fun d => d.parameters.length) = some 1 := ⟨rfl, by decide, by decide, by decide +kernel⟩
set_option maxRecDepth 100000 in
set_option maxHeartbeats 4000000 in
theorem c_TX11_finishedSlide (l : Launch) (D : va_G) (dA : Nat → ClassId) (cA : Nat → Nat) (hst : l.stackTraces = false) (h0 h1 h2 h6 h9 h14 h17 h18 h19 h20 h21 h41 h43 h46 h49 : Nat) (sz : Nat) (on : Int32) (ot : Int32) (op : Int32) (os : Int32) (fc : Int32) (fg : Nat → Int32) (fs : Nat → Int32) (fm : Nat → Int32) (xi : Int32) (xe : Int32) (xf : Int32) (p0 : Int32) (rx : Nat) (hf : f_TX11_finishedSlide fc p0 = some rx) : vx_Met l yX11_finishedSlide (wo (.code yX11_finishedSlide cX11_finishedSlide 2 (some .int))) ({ frames := 7, cells := 1, slots := 6, locals := 121 } : Room) (preX D dA cA [.ref h0, .int p0] sz [(h0, .inr (9, [.ref h1, .ref h21, .int xi, .ref h41, .ref h43, .ref h46, .ref h49, .int xe, .int xf])), (h1, .inr (6, [.int on, .int ot, .int op, .int os, .ref h2, .ref h6, .ref h9, .ref h14, .ref h17])), (h17, .inr (3, [.int fc, .ref h18, .ref h19, .ref h20])), (h18, .inl (dA 0, 16, .inl fg)), (h19, .inl (dA 0, 16, .inl fs)), (h20, .inl (dA 0, 16, .inl fm))]) noQ (xcQ D (exs rx) [(h0, .inr (9, [.ref h1, .ref h21, .int xi, .ref h41, .ref h43, .ref h46, .ref h49, .int xe, .int xf])), (h1, .inr (6, [.int on, .int ot, .int op, .int os, .ref h2, .ref h6, .ref h9, .ref h14, .ref h17])), (h17, .inr (3, [.int fc, .ref h18, .ref h19, .ref h20])), (h18, .inl (dA 0, 16, .inl fg)), (h19, .inl (dA 0, 16, .inl fs)), (h20, .inl (dA 0, 16, .inl fm))] (va_A [(h0, .inr (9, [.ref h1, .ref h21, .int xi, .ref h41, .ref h43, .ref h46, .ref h49, .int xe, .int xf])), (h1, .inr (6, [.int on, .int ot, .int op, .int os, .ref h2, .ref h6, .ref h9, .ref h14, .ref h17])), (h17, .inr (3, [.int fc, .ref h18, .ref h19, .ref h20])), (h18, .inl (dA 0, 16, .inl fg)), (h19, .inl (dA 0, 16, .inl fs)), (h20, .inl (dA 0, 16, .inl fm))] sz)) 1 6 (va_A [(h0, .inr (9, [.ref h1, .ref h21, .int xi, .ref h41, .ref h43, .ref h46, .ref h49, .int xe, .int xf])), (h1, .inr (6, [.int on, .int ot, .int op, .int os, .ref h2, .ref h6, .ref h9, .ref h14, .ref h17])), (h17, .inr (3, [.int fc, .ref h18, .ref h19, .ref h20])), (h18, .inl (dA 0, 16, .inl fg)), (h19, .inl (dA 0, 16, .inl fs)), (h20, .inl (dA 0, 16, .inl fm))] sz) := by
  refine of_Z (y := yX11_finishedSlide) (cc := cX11_finishedSlide) (maxL := 2) (ret := (some .int)) (av := [.ref h0, .int p0]) (ws := [(h0, .inr (9, [.ref h1, .ref h21, .int xi, .ref h41, .ref h43, .ref h46, .ref h49, .int xe, .int xf])), (h1, .inr (6, [.int on, .int ot, .int op, .int os, .ref h2, .ref h6, .ref h9, .ref h14, .ref h17])), (h17, .inr (3, [.int fc, .ref h18, .ref h19, .ref h20])), (h18, .inl (dA 0, 16, .inl fg)), (h19, .inl (dA 0, 16, .inl fs)), (h20, .inl (dA 0, 16, .inl fm))]) (sz := sz) (own := RX11) (XC := fun A => xcQ D (exs rx) [(h0, .inr (9, [.ref h1, .ref h21, .int xi, .ref h41, .ref h43, .ref h46, .ref h49, .int xe, .int xf])), (h1, .inr (6, [.int on, .int ot, .int op, .int os, .ref h2, .ref h6, .ref h9, .ref h14, .ref h17])), (h17, .inr (3, [.int fc, .ref h18, .ref h19, .ref h20])), (h18, .inl (dA 0, 16, .inl fg)), (h19, .inl (dA 0, 16, .inl fs)), (h20, .inl (dA 0, 16, .inl fm))] A) (by decide) rfl (Nat.le_of_ble_eq_true rfl) ?_
  intro p e s m below meth c A hx hb hr ha hown hml hlocks hin hno hP hK hD hX hS hA ls hl
  have hC := hX.1
  have hl : lv_has ls 2 [(0, .ref h0), (1, .int p0)] := hl
  rw [f_TX11_finishedSlide] at hf
  refine lv_aload_n hx hb dX11_finishedSlide_0 rfl (lv_at hl 0 rfl) ?_
  refine lv_iload_n hx hb dX11_finishedSlide_1 rfl (lv_at hl 1 rfl) ?_
  rcases sf_t1e hf with ⟨hnt, hf⟩ | ⟨k_1, hc1, hf⟩
  · skip
    obtain ⟨hc1, hf⟩ := sf_c0e hf
    refine k_Pv (run_YV (As := [.int p0]) (rest := []) ⟨hx, hb, hml, hown, ha⟩ (c_X11_checkFinish l D dA cA h0 h1 h2 h6 h9 h14 h17 h18 h19 h20 h21 h41 h43 h46 h49   on ot op os fc xi xe xf p0  hc1) (gi_V m_1452 m_1454 m_21 m_31 m_1455) yd_X11_checkFinish ⟨Nat.le_of_ble_eq_true rfl, Nat.le_of_ble_eq_true rfl⟩ ⟨rfl, rfl⟩ hK hX hS hP [0, 1, 2] rfl (va_recv hK hP (q0 := 0) rfl rfl) rfl hl.1 rfl (Nat.le_of_ble_eq_true rfl) dX11_finishedSlide_2 ⟨Nat.le_of_ble_eq_true rfl, Nat.le_of_ble_eq_true rfl⟩) hP hS (fun H locs hP hS => ?_)
    refine lv_aload_n hx hb dX11_finishedSlide_5 rfl (lv_at hl 0 rfl) ?_
    refine gt_f (C := RX11) (T := TX11) (N := 9) hx hb ha in_X11 hown hK hP 0 rfl rfl 0 (by decide) m_332 rfl dX11_finishedSlide_6 ?_
    refine gt_f (C := RX8) (T := TX8) (N := 9) hx hb ha in_X8 hown hK hP 1 rfl rfl 8 (by decide) m_223 rfl dX11_finishedSlide_9 ?_
    refine gt_f (C := RX5) (T := TX5) (N := 4) hx hb ha in_X5 hown hK hP 2 rfl rfl 2 (by decide) m_194 rfl dX11_finishedSlide_12 ?_
    refine lv_aload_n hx hb dX11_finishedSlide_15 rfl (lv_at hl 0 rfl) ?_
    refine gt_f (C := RX11) (T := TX11) (N := 9) hx hb ha in_X11 hown hK hP 0 rfl rfl 0 (by decide) m_332 rfl dX11_finishedSlide_16 ?_
    refine gt_f (C := RX8) (T := TX8) (N := 9) hx hb ha in_X8 hown hK hP 1 rfl rfl 8 (by decide) m_223 rfl dX11_finishedSlide_19 ?_
    refine lv_iload_n hx hb dX11_finishedSlide_22 rfl (lv_at hl 1 rfl) ?_
    obtain ⟨r_2, hc2, hf⟩ := sf_c1e hf
    refine k_Pi (run_PV (As := [.int p0]) (rest := [.ref h19]) ⟨hx, hb, hml, hown, ha⟩ (c_X5_rowOf l D dA h17 h18 h19 h20   fc fg fs fm p0 _ hc2) (gi_V m_1457 m_1458 m_1459 m_37 m_1460) yd_X5_rowOf ⟨Nat.le_of_ble_eq_true rfl, Nat.le_of_ble_eq_true rfl⟩ ⟨rfl, rfl⟩ hK hP [2, 3, 4, 5] rfl 2 3 rfl rfl rfl rfl hl.1 rfl (Nat.le_of_ble_eq_true rfl) dX11_finishedSlide_23 ⟨Nat.le_of_ble_eq_true rfl, Nat.le_of_ble_eq_true rfl⟩) hP hS (fun H locs hP hS => ?_)
    obtain ⟨hi, hf⟩ := sf_ge hf
    refine ia_ld hx hb hK hP 4 rfl hi dX11_finishedSlide_26 ?_
    cases hf
  · skip
    refine k_Z (wr := [(h18, .inl (dA 0, 16, .inl fg)), (h19, .inl (dA 0, 16, .inl fs)), (h20, .inl (dA 0, 16, .inl fm))]) (run_ZV (As := [.int p0]) (rest := []) ⟨hx, hb, hml, hown, ha⟩ (c_TX11_checkFinish l D dA cA hst h0 h1 h2 h6 h9 h14 h17 h18 h19 h20 h21 h41 h43 h46 h49  _ on ot op os fc xi xe xf p0 _ hc1) (gi_V m_1452 m_1454 m_21 m_31 m_1455) yd_TX11_checkFinish ⟨Nat.le_of_ble_eq_true rfl, Nat.le_of_ble_eq_true rfl⟩ ⟨rfl, rfl⟩ hK hX hS hA hP hD [0, 1, 2] (by decide) rfl (va_recv hK hP (q0 := 0) rfl rfl) rfl hl.1 rfl (Nat.le_of_ble_eq_true rfl) dX11_finishedSlide_2 ⟨Nat.le_of_ble_eq_true rfl, Nat.le_of_ble_eq_true rfl⟩) hP hD hS hA [0, 1, 2] [3, 4, 5] rfl rfl (by decide) (by decide) (fun q9 H locs hP hD hS ht9 => ?_)
    cases hf
    exact px_o hno hlocks ht9 (hP.sub [3, 4, 5, 0, 1, 2] rfl) (hD.sub [3, 4, 5, 0, 1, 2] (by decide) rfl) hS (by decide) (by decide)

def f_X11_finishMinute (fc : Int32) (fm : Nat → Int32) (p0 : Int32) : Option Int32 :=
  sf_c0 (f_X11_checkFinish fc p0) (fun _ => sf_c1 (f_X5_rowOf fc p0) (fun r_1 => sf_g (sf_in r_1 16 = true) (some (fm r_1.toNatClampNeg))))
theorem yd_X11_finishMinute : yX11_finishMinute.cls = RX11 ∧ yX11_finishMinute.cls ≠ "java/lang/invoke/MethodHandle" ∧ yX11_finishMinute.cls ≠ "java/lang/invoke/VarHandle" ∧ (parseMethodDescriptor yX11_finishMinute.desc).map (fun d => d.parameters.length) = some 1 := ⟨rfl, by decide, by decide, by decide +kernel⟩
set_option maxRecDepth 100000 in
set_option maxHeartbeats 4000000 in
theorem c_X11_finishMinute (l : Launch) (D : va_G) (dA : Nat → ClassId) (cA : Nat → Nat) (h0 h1 h2 h6 h9 h14 h17 h18 h19 h20 h21 h41 h43 h46 h49 : Nat) (on : Int32) (ot : Int32) (op : Int32) (os : Int32) (fc : Int32) (fg : Nat → Int32) (fs : Nat → Int32) (fm : Nat → Int32) (xi : Int32) (xe : Int32) (xf : Int32) (p0 : Int32) (rr : Int32) (hf : f_X11_finishMinute fc fm p0 = some rr) : Met l yX11_finishMinute (wo (.code yX11_finishMinute cX11_finishMinute 2 (some .int))) ({ frames := 1, cells := 0, slots := 0, locals := 21 } : Room) (preY D dA cA [.ref h0, .int p0] [(h0, .inr (9, [.ref h1, .ref h21, .int xi, .ref h41, .ref h43, .ref h46, .ref h49, .int xe, .int xf])), (h1, .inr (6, [.int on, .int ot, .int op, .int os, .ref h2, .ref h6, .ref h9, .ref h14, .ref h17])), (h17, .inr (3, [.int fc, .ref h18, .ref h19, .ref h20])), (h18, .inl (dA 0, 16, .inl fg)), (h19, .inl (dA 0, 16, .inl fs)), (h20, .inl (dA 0, 16, .inl fm))]) (poPi rr) 0 0 noA := by
  refine of_Y (y := yX11_finishMinute) (cc := cX11_finishMinute) (maxL := 2) (ret := (some .int)) (av := [.ref h0, .int p0]) (ws := [(h0, .inr (9, [.ref h1, .ref h21, .int xi, .ref h41, .ref h43, .ref h46, .ref h49, .int xe, .int xf])), (h1, .inr (6, [.int on, .int ot, .int op, .int os, .ref h2, .ref h6, .ref h9, .ref h14, .ref h17])), (h17, .inr (3, [.int fc, .ref h18, .ref h19, .ref h20])), (h18, .inl (dA 0, 16, .inl fg)), (h19, .inl (dA 0, 16, .inl fs)), (h20, .inl (dA 0, 16, .inl fm))]) (own := RX11) (by decide) rfl (Nat.le_of_ble_eq_true rfl) ?_
  intro p e s m below meth c hx hb hr ha hown hml hlocks hP hK hX hS ls hl
  have hC := hX.1
  have hl : lv_has ls 2 [(0, .ref h0), (1, .int p0)] := hl
  rw [f_X11_finishMinute] at hf
  refine lv_aload_n hx hb dX11_finishMinute_0 rfl (lv_at hl 0 rfl) ?_
  refine lv_iload_n hx hb dX11_finishMinute_1 rfl (lv_at hl 1 rfl) ?_
  obtain ⟨hc0, hf⟩ := sf_c0e hf
  refine k_Pv (run_YV (As := [.int p0]) (rest := []) ⟨hx, hb, hml, hown, ha⟩ (c_X11_checkFinish l D dA cA h0 h1 h2 h6 h9 h14 h17 h18 h19 h20 h21 h41 h43 h46 h49   on ot op os fc xi xe xf p0  hc0) (gi_V m_1452 m_1454 m_21 m_31 m_1455) yd_X11_checkFinish ⟨Nat.le_of_ble_eq_true rfl, Nat.le_of_ble_eq_true rfl⟩ ⟨rfl, rfl⟩ hK hX hS hP [0, 1, 2] rfl (va_recv hK hP (q0 := 0) rfl rfl) rfl hl.1 rfl (Nat.le_of_ble_eq_true rfl) dX11_finishMinute_2 ⟨Nat.le_of_ble_eq_true rfl, Nat.le_of_ble_eq_true rfl⟩) hP hS (fun H locs hP hS => ?_)
  refine lv_aload_n hx hb dX11_finishMinute_5 rfl (lv_at hl 0 rfl) ?_
  refine gt_f (C := RX11) (T := TX11) (N := 9) hx hb ha in_X11 hown hK hP 0 rfl rfl 0 (by decide) m_332 rfl dX11_finishMinute_6 ?_
  refine gt_f (C := RX8) (T := TX8) (N := 9) hx hb ha in_X8 hown hK hP 1 rfl rfl 8 (by decide) m_223 rfl dX11_finishMinute_9 ?_
  refine gt_f (C := RX5) (T := TX5) (N := 4) hx hb ha in_X5 hown hK hP 2 rfl rfl 3 (by decide) m_196 rfl dX11_finishMinute_12 ?_
  refine lv_aload_n hx hb dX11_finishMinute_15 rfl (lv_at hl 0 rfl) ?_
  refine gt_f (C := RX11) (T := TX11) (N := 9) hx hb ha in_X11 hown hK hP 0 rfl rfl 0 (by decide) m_332 rfl dX11_finishMinute_16 ?_
  refine gt_f (C := RX8) (T := TX8) (N := 9) hx hb ha in_X8 hown hK hP 1 rfl rfl 8 (by decide) m_223 rfl dX11_finishMinute_19 ?_
  refine lv_iload_n hx hb dX11_finishMinute_22 rfl (lv_at hl 1 rfl) ?_
  obtain ⟨r_1, hc1, hf⟩ := sf_c1e hf
  refine k_Pi (run_PV (As := [.int p0]) (rest := [.ref h20]) ⟨hx, hb, hml, hown, ha⟩ (c_X5_rowOf l D dA h17 h18 h19 h20   fc fg fs fm p0 _ hc1) (gi_V m_1457 m_1458 m_1459 m_37 m_1460) yd_X5_rowOf ⟨Nat.le_of_ble_eq_true rfl, Nat.le_of_ble_eq_true rfl⟩ ⟨rfl, rfl⟩ hK hP [2, 3, 4, 5] rfl 2 3 rfl rfl rfl rfl hl.1 rfl (Nat.le_of_ble_eq_true rfl) dX11_finishMinute_23 ⟨Nat.le_of_ble_eq_true rfl, Nat.le_of_ble_eq_true rfl⟩) hP hS (fun H locs hP hS => ?_)
  obtain ⟨hi, hf⟩ := sf_ge hf
  refine ia_ld hx hb hK hP 5 rfl hi dX11_finishMinute_26 ?_
  exact rt_Pi hx hb hr hlocks (Option.some.inj hf) hS dX11_finishMinute_27

def f_TX11_finishMinute (fc : Int32) (p0 : Int32) : Option Nat :=
  sf_t1 (f_TX11_checkFinish fc p0) (fun k_1 => some k_1) (sf_c0 (f_X11_checkFinish fc p0) (fun _ => sf_c1 (f_X5_rowOf fc p0) (fun r_2 => sf_g (sf_in r_2 16 = true) (none))))
theorem yd_TX11_finishMinute : yX11_finishMinute.cls = RX11 ∧ yX11_finishMinute.cls ≠ "java/lang/invoke/MethodHandle" ∧ yX11_finishMinute.cls ≠ "java/lang/invoke/VarHandle" ∧ (parseMethodDescriptor yX11_finishMinute.desc).map (fun d => d.parameters.length) = some 1 := ⟨rfl, by decide, by decide, by decide +kernel⟩
set_option maxRecDepth 100000 in
set_option maxHeartbeats 4000000 in
theorem c_TX11_finishMinute (l : Launch) (D : va_G) (dA : Nat → ClassId) (cA : Nat → Nat) (hst : l.stackTraces = false) (h0 h1 h2 h6 h9 h14 h17 h18 h19 h20 h21 h41 h43 h46 h49 : Nat) (sz : Nat) (on : Int32) (ot : Int32) (op : Int32) (os : Int32) (fc : Int32) (fg : Nat → Int32) (fs : Nat → Int32) (fm : Nat → Int32) (xi : Int32) (xe : Int32) (xf : Int32) (p0 : Int32) (rx : Nat) (hf : f_TX11_finishMinute fc p0 = some rx) : vx_Met l yX11_finishMinute (wo (.code yX11_finishMinute cX11_finishMinute 2 (some .int))) ({ frames := 7, cells := 1, slots := 6, locals := 121 } : Room) (preX D dA cA [.ref h0, .int p0] sz [(h0, .inr (9, [.ref h1, .ref h21, .int xi, .ref h41, .ref h43, .ref h46, .ref h49, .int xe, .int xf])), (h1, .inr (6, [.int on, .int ot, .int op, .int os, .ref h2, .ref h6, .ref h9, .ref h14, .ref h17])), (h17, .inr (3, [.int fc, .ref h18, .ref h19, .ref h20])), (h18, .inl (dA 0, 16, .inl fg)), (h19, .inl (dA 0, 16, .inl fs)), (h20, .inl (dA 0, 16, .inl fm))]) noQ (xcQ D (exs rx) [(h0, .inr (9, [.ref h1, .ref h21, .int xi, .ref h41, .ref h43, .ref h46, .ref h49, .int xe, .int xf])), (h1, .inr (6, [.int on, .int ot, .int op, .int os, .ref h2, .ref h6, .ref h9, .ref h14, .ref h17])), (h17, .inr (3, [.int fc, .ref h18, .ref h19, .ref h20])), (h18, .inl (dA 0, 16, .inl fg)), (h19, .inl (dA 0, 16, .inl fs)), (h20, .inl (dA 0, 16, .inl fm))] (va_A [(h0, .inr (9, [.ref h1, .ref h21, .int xi, .ref h41, .ref h43, .ref h46, .ref h49, .int xe, .int xf])), (h1, .inr (6, [.int on, .int ot, .int op, .int os, .ref h2, .ref h6, .ref h9, .ref h14, .ref h17])), (h17, .inr (3, [.int fc, .ref h18, .ref h19, .ref h20])), (h18, .inl (dA 0, 16, .inl fg)), (h19, .inl (dA 0, 16, .inl fs)), (h20, .inl (dA 0, 16, .inl fm))] sz)) 1 6 (va_A [(h0, .inr (9, [.ref h1, .ref h21, .int xi, .ref h41, .ref h43, .ref h46, .ref h49, .int xe, .int xf])), (h1, .inr (6, [.int on, .int ot, .int op, .int os, .ref h2, .ref h6, .ref h9, .ref h14, .ref h17])), (h17, .inr (3, [.int fc, .ref h18, .ref h19, .ref h20])), (h18, .inl (dA 0, 16, .inl fg)), (h19, .inl (dA 0, 16, .inl fs)), (h20, .inl (dA 0, 16, .inl fm))] sz) := by
  refine of_Z (y := yX11_finishMinute) (cc := cX11_finishMinute) (maxL := 2) (ret := (some .int)) (av := [.ref h0, .int p0]) (ws := [(h0, .inr (9, [.ref h1, .ref h21, .int xi, .ref h41, .ref h43, .ref h46, .ref h49, .int xe, .int xf])), (h1, .inr (6, [.int on, .int ot, .int op, .int os, .ref h2, .ref h6, .ref h9, .ref h14, .ref h17])), (h17, .inr (3, [.int fc, .ref h18, .ref h19, .ref h20])), (h18, .inl (dA 0, 16, .inl fg)), (h19, .inl (dA 0, 16, .inl fs)), (h20, .inl (dA 0, 16, .inl fm))]) (sz := sz) (own := RX11) (XC := fun A => xcQ D (exs rx) [(h0, .inr (9, [.ref h1, .ref h21, .int xi, .ref h41, .ref h43, .ref h46, .ref h49, .int xe, .int xf])), (h1, .inr (6, [.int on, .int ot, .int op, .int os, .ref h2, .ref h6, .ref h9, .ref h14, .ref h17])), (h17, .inr (3, [.int fc, .ref h18, .ref h19, .ref h20])), (h18, .inl (dA 0, 16, .inl fg)), (h19, .inl (dA 0, 16, .inl fs)), (h20, .inl (dA 0, 16, .inl fm))] A) (by decide) rfl (Nat.le_of_ble_eq_true rfl) ?_
  intro p e s m below meth c A hx hb hr ha hown hml hlocks hin hno hP hK hD hX hS hA ls hl
  have hC := hX.1
  have hl : lv_has ls 2 [(0, .ref h0), (1, .int p0)] := hl
  rw [f_TX11_finishMinute] at hf
  refine lv_aload_n hx hb dX11_finishMinute_0 rfl (lv_at hl 0 rfl) ?_
  refine lv_iload_n hx hb dX11_finishMinute_1 rfl (lv_at hl 1 rfl) ?_
  rcases sf_t1e hf with ⟨hnt, hf⟩ | ⟨k_1, hc1, hf⟩
  · skip
    obtain ⟨hc1, hf⟩ := sf_c0e hf
    refine k_Pv (run_YV (As := [.int p0]) (rest := []) ⟨hx, hb, hml, hown, ha⟩ (c_X11_checkFinish l D dA cA h0 h1 h2 h6 h9 h14 h17 h18 h19 h20 h21 h41 h43 h46 h49   on ot op os fc xi xe xf p0  hc1) (gi_V m_1452 m_1454 m_21 m_31 m_1455) yd_X11_checkFinish ⟨Nat.le_of_ble_eq_true rfl, Nat.le_of_ble_eq_true rfl⟩ ⟨rfl, rfl⟩ hK hX hS hP [0, 1, 2] rfl (va_recv hK hP (q0 := 0) rfl rfl) rfl hl.1 rfl (Nat.le_of_ble_eq_true rfl) dX11_finishMinute_2 ⟨Nat.le_of_ble_eq_true rfl, Nat.le_of_ble_eq_true rfl⟩) hP hS (fun H locs hP hS => ?_)
    refine lv_aload_n hx hb dX11_finishMinute_5 rfl (lv_at hl 0 rfl) ?_
    refine gt_f (C := RX11) (T := TX11) (N := 9) hx hb ha in_X11 hown hK hP 0 rfl rfl 0 (by decide) m_332 rfl dX11_finishMinute_6 ?_
    refine gt_f (C := RX8) (T := TX8) (N := 9) hx hb ha in_X8 hown hK hP 1 rfl rfl 8 (by decide) m_223 rfl dX11_finishMinute_9 ?_
    refine gt_f (C := RX5) (T := TX5) (N := 4) hx hb ha in_X5 hown hK hP 2 rfl rfl 3 (by decide) m_196 rfl dX11_finishMinute_12 ?_
    refine lv_aload_n hx hb dX11_finishMinute_15 rfl (lv_at hl 0 rfl) ?_
    refine gt_f (C := RX11) (T := TX11) (N := 9) hx hb ha in_X11 hown hK hP 0 rfl rfl 0 (by decide) m_332 rfl dX11_finishMinute_16 ?_
    refine gt_f (C := RX8) (T := TX8) (N := 9) hx hb ha in_X8 hown hK hP 1 rfl rfl 8 (by decide) m_223 rfl dX11_finishMinute_19 ?_
    refine lv_iload_n hx hb dX11_finishMinute_22 rfl (lv_at hl 1 rfl) ?_
    obtain ⟨r_2, hc2, hf⟩ := sf_c1e hf
    refine k_Pi (run_PV (As := [.int p0]) (rest := [.ref h20]) ⟨hx, hb, hml, hown, ha⟩ (c_X5_rowOf l D dA h17 h18 h19 h20   fc fg fs fm p0 _ hc2) (gi_V m_1457 m_1458 m_1459 m_37 m_1460) yd_X5_rowOf ⟨Nat.le_of_ble_eq_true rfl, Nat.le_of_ble_eq_true rfl⟩ ⟨rfl, rfl⟩ hK hP [2, 3, 4, 5] rfl 2 3 rfl rfl rfl rfl hl.1 rfl (Nat.le_of_ble_eq_true rfl) dX11_finishMinute_23 ⟨Nat.le_of_ble_eq_true rfl, Nat.le_of_ble_eq_true rfl⟩) hP hS (fun H locs hP hS => ?_)
    obtain ⟨hi, hf⟩ := sf_ge hf
    refine ia_ld hx hb hK hP 5 rfl hi dX11_finishMinute_26 ?_
    cases hf
  · skip
    refine k_Z (wr := [(h18, .inl (dA 0, 16, .inl fg)), (h19, .inl (dA 0, 16, .inl fs)), (h20, .inl (dA 0, 16, .inl fm))]) (run_ZV (As := [.int p0]) (rest := []) ⟨hx, hb, hml, hown, ha⟩ (c_TX11_checkFinish l D dA cA hst h0 h1 h2 h6 h9 h14 h17 h18 h19 h20 h21 h41 h43 h46 h49  _ on ot op os fc xi xe xf p0 _ hc1) (gi_V m_1452 m_1454 m_21 m_31 m_1455) yd_TX11_checkFinish ⟨Nat.le_of_ble_eq_true rfl, Nat.le_of_ble_eq_true rfl⟩ ⟨rfl, rfl⟩ hK hX hS hA hP hD [0, 1, 2] (by decide) rfl (va_recv hK hP (q0 := 0) rfl rfl) rfl hl.1 rfl (Nat.le_of_ble_eq_true rfl) dX11_finishMinute_2 ⟨Nat.le_of_ble_eq_true rfl, Nat.le_of_ble_eq_true rfl⟩) hP hD hS hA [0, 1, 2] [3, 4, 5] rfl rfl (by decide) (by decide) (fun q9 H locs hP hD hS ht9 => ?_)
    cases hf
    exact px_o hno hlocks ht9 (hP.sub [3, 4, 5, 0, 1, 2] rfl) (hD.sub [3, 4, 5, 0, 1, 2] (by decide) rfl) hS (by decide) (by decide)

def f_X11_photoFinishes (fc : Int32) (fm : Nat → Int32) : Option Int32 :=
  sf_c1 (f_X5_equalPairs fc fm) (fun r_1 => some r_1)
theorem yd_X11_photoFinishes : yX11_photoFinishes.cls = RX11 ∧ yX11_photoFinishes.cls ≠ "java/lang/invoke/MethodHandle" ∧ yX11_photoFinishes.cls ≠ "java/lang/invoke/VarHandle" ∧ (parseMethodDescriptor yX11_photoFinishes.desc).map (fun d => d.parameters.length) = some 0 := ⟨rfl, by decide, by decide, by decide +kernel⟩
set_option maxRecDepth 100000 in
set_option maxHeartbeats 4000000 in
theorem c_X11_photoFinishes (l : Launch) (D : va_G) (dA : Nat → ClassId) (cA : Nat → Nat) (h0 h1 h2 h6 h9 h14 h17 h18 h19 h20 h21 h41 h43 h46 h49 : Nat) (on : Int32) (ot : Int32) (op : Int32) (os : Int32) (fc : Int32) (fg : Nat → Int32) (fs : Nat → Int32) (fm : Nat → Int32) (xi : Int32) (xe : Int32) (xf : Int32) (rr : Int32) (hf : f_X11_photoFinishes fc fm = some rr) : Met l yX11_photoFinishes (wo (.code yX11_photoFinishes cX11_photoFinishes 1 (some .int))) ({ frames := 1, cells := 0, slots := 0, locals := 23 } : Room) (preY D dA cA [.ref h0] [(h0, .inr (9, [.ref h1, .ref h21, .int xi, .ref h41, .ref h43, .ref h46, .ref h49, .int xe, .int xf])), (h1, .inr (6, [.int on, .int ot, .int op, .int os, .ref h2, .ref h6, .ref h9, .ref h14, .ref h17])), (h17, .inr (3, [.int fc, .ref h18, .ref h19, .ref h20])), (h18, .inl (dA 0, 16, .inl fg)), (h19, .inl (dA 0, 16, .inl fs)), (h20, .inl (dA 0, 16, .inl fm))]) (poPi rr) 0 0 noA := by
  refine of_Y (y := yX11_photoFinishes) (cc := cX11_photoFinishes) (maxL := 1) (ret := (some .int)) (av := [.ref h0]) (ws := [(h0, .inr (9, [.ref h1, .ref h21, .int xi, .ref h41, .ref h43, .ref h46, .ref h49, .int xe, .int xf])), (h1, .inr (6, [.int on, .int ot, .int op, .int os, .ref h2, .ref h6, .ref h9, .ref h14, .ref h17])), (h17, .inr (3, [.int fc, .ref h18, .ref h19, .ref h20])), (h18, .inl (dA 0, 16, .inl fg)), (h19, .inl (dA 0, 16, .inl fs)), (h20, .inl (dA 0, 16, .inl fm))]) (own := RX11) (by decide) rfl (Nat.le_of_ble_eq_true rfl) ?_
  intro p e s m below meth c hx hb hr ha hown hml hlocks hP hK hX hS ls hl
  have hC := hX.1
  have hl : lv_has ls 1 [(0, .ref h0)] := hl
  rw [f_X11_photoFinishes] at hf
  refine lv_aload_n hx hb dX11_photoFinishes_0 rfl (lv_at hl 0 rfl) ?_
  refine gt_f (C := RX11) (T := TX11) (N := 9) hx hb ha in_X11 hown hK hP 0 rfl rfl 0 (by decide) m_332 rfl dX11_photoFinishes_1 ?_
  refine gt_f (C := RX8) (T := TX8) (N := 9) hx hb ha in_X8 hown hK hP 1 rfl rfl 8 (by decide) m_223 rfl dX11_photoFinishes_4 ?_
  obtain ⟨r_1, hc1, hf⟩ := sf_c1e hf
  refine k_Pi (run_PV (As := []) (rest := []) ⟨hx, hb, hml, hown, ha⟩ (c_X5_equalPairs l D dA h17 h18 h19 h20   fc fg fs fm  _ hc1) (gi_V m_880 m_881 m_882 m_37 m_883) yd_X5_equalPairs ⟨Nat.le_of_ble_eq_true rfl, Nat.le_of_ble_eq_true rfl⟩ ⟨rfl, rfl⟩ hK hP [2, 3, 4, 5] rfl 2 3 rfl rfl rfl rfl hl.1 rfl (Nat.le_of_ble_eq_true rfl) dX11_photoFinishes_7 ⟨Nat.le_of_ble_eq_true rfl, Nat.le_of_ble_eq_true rfl⟩) hP hS (fun H locs hP hS => ?_)
  exact rt_Pi hx hb hr hlocks (Option.some.inj hf) hS dX11_photoFinishes_10

def f_X11_photoFinishesByRuns (fc : Int32) (fm : Nat → Int32) : Option Int32 :=
  sf_c1 (f_X5_equalPairsFromRuns fc fm) (fun r_1 => some r_1)
theorem yd_X11_photoFinishesByRuns : yX11_photoFinishesByRuns.cls = RX11 ∧ yX11_photoFinishesByRuns.cls ≠ "java/lang/invoke/MethodHandle" ∧ yX11_photoFinishesByRuns.cls ≠ "java/lang/invoke/VarHandle" ∧ (parseMethodDescriptor yX11_photoFinishesByRuns.desc).map (fun d => d.parameters.length) = some 0 := ⟨rfl, by decide, by decide, by decide +kernel⟩
set_option maxRecDepth 100000 in
set_option maxHeartbeats 4000000 in
theorem c_X11_photoFinishesByRuns (l : Launch) (D : va_G) (dA : Nat → ClassId) (cA : Nat → Nat) (h0 h1 h2 h6 h9 h14 h17 h18 h19 h20 h21 h41 h43 h46 h49 : Nat) (on : Int32) (ot : Int32) (op : Int32) (os : Int32) (fc : Int32) (fg : Nat → Int32) (fs : Nat → Int32) (fm : Nat → Int32) (xi : Int32) (xe : Int32) (xf : Int32) (rr : Int32) (hf : f_X11_photoFinishesByRuns fc fm = some rr) : Met l yX11_photoFinishesByRuns (wo (.code yX11_photoFinishesByRuns cX11_photoFinishesByRuns 1 (some .int))) ({ frames := 1, cells := 0, slots := 0, locals := 23 } : Room) (preY D dA cA [.ref h0] [(h0, .inr (9, [.ref h1, .ref h21, .int xi, .ref h41, .ref h43, .ref h46, .ref h49, .int xe, .int xf])), (h1, .inr (6, [.int on, .int ot, .int op, .int os, .ref h2, .ref h6, .ref h9, .ref h14, .ref h17])), (h17, .inr (3, [.int fc, .ref h18, .ref h19, .ref h20])), (h18, .inl (dA 0, 16, .inl fg)), (h19, .inl (dA 0, 16, .inl fs)), (h20, .inl (dA 0, 16, .inl fm))]) (poPi rr) 0 0 noA := by
  refine of_Y (y := yX11_photoFinishesByRuns) (cc := cX11_photoFinishesByRuns) (maxL := 1) (ret := (some .int)) (av := [.ref h0]) (ws := [(h0, .inr (9, [.ref h1, .ref h21, .int xi, .ref h41, .ref h43, .ref h46, .ref h49, .int xe, .int xf])), (h1, .inr (6, [.int on, .int ot, .int op, .int os, .ref h2, .ref h6, .ref h9, .ref h14, .ref h17])), (h17, .inr (3, [.int fc, .ref h18, .ref h19, .ref h20])), (h18, .inl (dA 0, 16, .inl fg)), (h19, .inl (dA 0, 16, .inl fs)), (h20, .inl (dA 0, 16, .inl fm))]) (own := RX11) (by decide) rfl (Nat.le_of_ble_eq_true rfl) ?_
  intro p e s m below meth c hx hb hr ha hown hml hlocks hP hK hX hS ls hl
  have hC := hX.1
  have hl : lv_has ls 1 [(0, .ref h0)] := hl
  rw [f_X11_photoFinishesByRuns] at hf
  refine lv_aload_n hx hb dX11_photoFinishesByRuns_0 rfl (lv_at hl 0 rfl) ?_
  refine gt_f (C := RX11) (T := TX11) (N := 9) hx hb ha in_X11 hown hK hP 0 rfl rfl 0 (by decide) m_332 rfl dX11_photoFinishesByRuns_1 ?_
  refine gt_f (C := RX8) (T := TX8) (N := 9) hx hb ha in_X8 hown hK hP 1 rfl rfl 8 (by decide) m_223 rfl dX11_photoFinishesByRuns_4 ?_
  obtain ⟨r_1, hc1, hf⟩ := sf_c1e hf
  refine k_Pi (run_PV (As := []) (rest := []) ⟨hx, hb, hml, hown, ha⟩ (c_X5_equalPairsFromRuns l D dA h17 h18 h19 h20   fc fg fs fm  _ hc1) (gi_V m_888 m_889 m_890 m_37 m_891) yd_X5_equalPairsFromRuns ⟨Nat.le_of_ble_eq_true rfl, Nat.le_of_ble_eq_true rfl⟩ ⟨rfl, rfl⟩ hK hP [2, 3, 4, 5] rfl 2 3 rfl rfl rfl rfl hl.1 rfl (Nat.le_of_ble_eq_true rfl) dX11_photoFinishesByRuns_7 ⟨Nat.le_of_ble_eq_true rfl, Nat.le_of_ble_eq_true rfl⟩) hP hS (fun H locs hP hS => ?_)
  exact rt_Pi hx hb hr hlocks (Option.some.inj hf) hS dX11_photoFinishesByRuns_10

def f_X11_splashes (os : Int32) : Option Int32 :=
  some os
theorem yd_X11_splashes : yX11_splashes.cls = RX11 ∧ yX11_splashes.cls ≠ "java/lang/invoke/MethodHandle" ∧ yX11_splashes.cls ≠ "java/lang/invoke/VarHandle" ∧ (parseMethodDescriptor yX11_splashes.desc).map (fun d => d.parameters.length) = some 0 := ⟨rfl, by decide, by decide, by decide +kernel⟩
set_option maxRecDepth 100000 in
set_option maxHeartbeats 4000000 in
theorem c_X11_splashes (l : Launch) (D : va_G) (dA : Nat → ClassId) (cA : Nat → Nat) (h0 h1 h2 h6 h9 h14 h17 h21 h41 h43 h46 h49 : Nat) (on : Int32) (ot : Int32) (op : Int32) (os : Int32) (xi : Int32) (xe : Int32) (xf : Int32) (rr : Int32) (hf : f_X11_splashes os = some rr) : Met l yX11_splashes (wo (.code yX11_splashes cX11_splashes 1 (some .int))) ({ frames := 0, cells := 0, slots := 0, locals := 0 } : Room) (preY D dA cA [.ref h0] [(h0, .inr (9, [.ref h1, .ref h21, .int xi, .ref h41, .ref h43, .ref h46, .ref h49, .int xe, .int xf])), (h1, .inr (6, [.int on, .int ot, .int op, .int os, .ref h2, .ref h6, .ref h9, .ref h14, .ref h17]))]) (poPi rr) 0 0 noA := by
  refine of_Y (y := yX11_splashes) (cc := cX11_splashes) (maxL := 1) (ret := (some .int)) (av := [.ref h0]) (ws := [(h0, .inr (9, [.ref h1, .ref h21, .int xi, .ref h41, .ref h43, .ref h46, .ref h49, .int xe, .int xf])), (h1, .inr (6, [.int on, .int ot, .int op, .int os, .ref h2, .ref h6, .ref h9, .ref h14, .ref h17]))]) (own := RX11) (by decide) rfl (Nat.le_of_ble_eq_true rfl) ?_
  intro p e s m below meth c hx hb hr ha hown hml hlocks hP hK hX hS ls hl
  have hC := hX.1
  have hl : lv_has ls 1 [(0, .ref h0)] := hl
  rw [f_X11_splashes] at hf
  refine lv_aload_n hx hb dX11_splashes_0 rfl (lv_at hl 0 rfl) ?_
  refine gt_f (C := RX11) (T := TX11) (N := 9) hx hb ha in_X11 hown hK hP 0 rfl rfl 0 (by decide) m_332 rfl dX11_splashes_1 ?_
  refine gt_f (C := RX8) (T := TX8) (N := 9) hx hb ha in_X8 hown hK hP 1 rfl rfl 3 (by decide) m_213 rfl dX11_splashes_4 ?_
  exact rt_Pi hx hb hr hlocks (Option.some.inj hf) hS dX11_splashes_7

def f_X11_refundedCoins (op : Int32) : Option Int32 :=
  some op
theorem yd_X11_refundedCoins : yX11_refundedCoins.cls = RX11 ∧ yX11_refundedCoins.cls ≠ "java/lang/invoke/MethodHandle" ∧ yX11_refundedCoins.cls ≠ "java/lang/invoke/VarHandle" ∧ (parseMethodDescriptor yX11_refundedCoins.desc).map (fun d => d.parameters.length) = some 0 := ⟨rfl, by decide, by decide, by decide +kernel⟩
set_option maxRecDepth 100000 in
set_option maxHeartbeats 4000000 in
theorem c_X11_refundedCoins (l : Launch) (D : va_G) (dA : Nat → ClassId) (cA : Nat → Nat) (h0 h1 h2 h6 h9 h14 h17 h21 h41 h43 h46 h49 : Nat) (on : Int32) (ot : Int32) (op : Int32) (os : Int32) (xi : Int32) (xe : Int32) (xf : Int32) (rr : Int32) (hf : f_X11_refundedCoins op = some rr) : Met l yX11_refundedCoins (wo (.code yX11_refundedCoins cX11_refundedCoins 1 (some .int))) ({ frames := 0, cells := 0, slots := 0, locals := 0 } : Room) (preY D dA cA [.ref h0] [(h0, .inr (9, [.ref h1, .ref h21, .int xi, .ref h41, .ref h43, .ref h46, .ref h49, .int xe, .int xf])), (h1, .inr (6, [.int on, .int ot, .int op, .int os, .ref h2, .ref h6, .ref h9, .ref h14, .ref h17]))]) (poPi rr) 0 0 noA := by
  refine of_Y (y := yX11_refundedCoins) (cc := cX11_refundedCoins) (maxL := 1) (ret := (some .int)) (av := [.ref h0]) (ws := [(h0, .inr (9, [.ref h1, .ref h21, .int xi, .ref h41, .ref h43, .ref h46, .ref h49, .int xe, .int xf])), (h1, .inr (6, [.int on, .int ot, .int op, .int os, .ref h2, .ref h6, .ref h9, .ref h14, .ref h17]))]) (own := RX11) (by decide) rfl (Nat.le_of_ble_eq_true rfl) ?_
  intro p e s m below meth c hx hb hr ha hown hml hlocks hP hK hX hS ls hl
  have hC := hX.1
  have hl : lv_has ls 1 [(0, .ref h0)] := hl
  rw [f_X11_refundedCoins] at hf
  refine lv_aload_n hx hb dX11_refundedCoins_0 rfl (lv_at hl 0 rfl) ?_
  refine gt_f (C := RX11) (T := TX11) (N := 9) hx hb ha in_X11 hown hK hP 0 rfl rfl 0 (by decide) m_332 rfl dX11_refundedCoins_1 ?_
  refine gt_f (C := RX8) (T := TX8) (N := 9) hx hb ha in_X8 hown hK hP 1 rfl rfl 2 (by decide) m_211 rfl dX11_refundedCoins_4 ?_
  exact rt_Pi hx hb hr hlocks (Option.some.inj hf) hS dX11_refundedCoins_7

def f_X11_officeCoins (ot : Int32) : Option Int32 :=
  some ot
theorem yd_X11_officeCoins : yX11_officeCoins.cls = RX11 ∧ yX11_officeCoins.cls ≠ "java/lang/invoke/MethodHandle" ∧ yX11_officeCoins.cls ≠ "java/lang/invoke/VarHandle" ∧ (parseMethodDescriptor yX11_officeCoins.desc).map (fun d => d.parameters.length) = some 0 := ⟨rfl, by decide, by decide, by decide +kernel⟩
set_option maxRecDepth 100000 in
set_option maxHeartbeats 4000000 in
theorem c_X11_officeCoins (l : Launch) (D : va_G) (dA : Nat → ClassId) (cA : Nat → Nat) (h0 h1 h2 h6 h9 h14 h17 h21 h41 h43 h46 h49 : Nat) (on : Int32) (ot : Int32) (op : Int32) (os : Int32) (xi : Int32) (xe : Int32) (xf : Int32) (rr : Int32) (hf : f_X11_officeCoins ot = some rr) : Met l yX11_officeCoins (wo (.code yX11_officeCoins cX11_officeCoins 1 (some .int))) ({ frames := 0, cells := 0, slots := 0, locals := 0 } : Room) (preY D dA cA [.ref h0] [(h0, .inr (9, [.ref h1, .ref h21, .int xi, .ref h41, .ref h43, .ref h46, .ref h49, .int xe, .int xf])), (h1, .inr (6, [.int on, .int ot, .int op, .int os, .ref h2, .ref h6, .ref h9, .ref h14, .ref h17]))]) (poPi rr) 0 0 noA := by
  refine of_Y (y := yX11_officeCoins) (cc := cX11_officeCoins) (maxL := 1) (ret := (some .int)) (av := [.ref h0]) (ws := [(h0, .inr (9, [.ref h1, .ref h21, .int xi, .ref h41, .ref h43, .ref h46, .ref h49, .int xe, .int xf])), (h1, .inr (6, [.int on, .int ot, .int op, .int os, .ref h2, .ref h6, .ref h9, .ref h14, .ref h17]))]) (own := RX11) (by decide) rfl (Nat.le_of_ble_eq_true rfl) ?_
  intro p e s m below meth c hx hb hr ha hown hml hlocks hP hK hX hS ls hl
  have hC := hX.1
  have hl : lv_has ls 1 [(0, .ref h0)] := hl
  rw [f_X11_officeCoins] at hf
  refine lv_aload_n hx hb dX11_officeCoins_0 rfl (lv_at hl 0 rfl) ?_
  refine gt_f (C := RX11) (T := TX11) (N := 9) hx hb ha in_X11 hown hK hP 0 rfl rfl 0 (by decide) m_332 rfl dX11_officeCoins_1 ?_
  refine gt_f (C := RX8) (T := TX8) (N := 9) hx hb ha in_X8 hown hK hP 1 rfl rfl 1 (by decide) m_209 rfl dX11_officeCoins_4 ?_
  exact rt_Pi hx hb hr hlocks (Option.some.inj hf) hS dX11_officeCoins_7

def f_X11_rides (gc : Int32) (gr : Nat → Int32) (p0 : Int32) : Option Int32 :=
  sf_c0 (f_X11_checkGuest gc p0) (fun _ => sf_g (sf_in p0 10 = true) (some (gr p0.toNatClampNeg)))
theorem yd_X11_rides : yX11_rides.cls = RX11 ∧ yX11_rides.cls ≠ "java/lang/invoke/MethodHandle" ∧ yX11_rides.cls ≠ "java/lang/invoke/VarHandle" ∧ (parseMethodDescriptor yX11_rides.desc).map (fun d => d.parameters.length) = some 1 := ⟨rfl, by decide, by decide, by decide +kernel⟩
set_option maxRecDepth 100000 in
set_option maxHeartbeats 4000000 in
theorem c_X11_rides (l : Launch) (D : va_G) (dA : Nat → ClassId) (cA : Nat → Nat) (h0 h1 h2 h6 h7 h8 h9 h14 h17 h21 h41 h43 h46 h49 : Nat) (on : Int32) (ot : Int32) (op : Int32) (os : Int32) (gc : Int32) (gp : Nat → Int32) (gr : Nat → Int32) (xi : Int32) (xe : Int32) (xf : Int32) (p0 : Int32) (rr : Int32) (hf : f_X11_rides gc gr p0 = some rr) : Met l yX11_rides (wo (.code yX11_rides cX11_rides 2 (some .int))) ({ frames := 2, cells := 0, slots := 0, locals := 42 } : Room) (preY D dA cA [.ref h0, .int p0] [(h0, .inr (9, [.ref h1, .ref h21, .int xi, .ref h41, .ref h43, .ref h46, .ref h49, .int xe, .int xf])), (h1, .inr (6, [.int on, .int ot, .int op, .int os, .ref h2, .ref h6, .ref h9, .ref h14, .ref h17])), (h6, .inr (4, [.int gc, .ref h7, .ref h8])), (h7, .inl (dA 0, 10, .inl gp)), (h8, .inl (dA 0, 10, .inl gr))]) (poPi rr) 0 0 noA := by
  refine of_Y (y := yX11_rides) (cc := cX11_rides) (maxL := 2) (ret := (some .int)) (av := [.ref h0, .int p0]) (ws := [(h0, .inr (9, [.ref h1, .ref h21, .int xi, .ref h41, .ref h43, .ref h46, .ref h49, .int xe, .int xf])), (h1, .inr (6, [.int on, .int ot, .int op, .int os, .ref h2, .ref h6, .ref h9, .ref h14, .ref h17])), (h6, .inr (4, [.int gc, .ref h7, .ref h8])), (h7, .inl (dA 0, 10, .inl gp)), (h8, .inl (dA 0, 10, .inl gr))]) (own := RX11) (by decide) rfl (Nat.le_of_ble_eq_true rfl) ?_
  intro p e s m below meth c hx hb hr ha hown hml hlocks hP hK hX hS ls hl
  have hC := hX.1
  have hl : lv_has ls 2 [(0, .ref h0), (1, .int p0)] := hl
  rw [f_X11_rides] at hf
  refine lv_aload_n hx hb dX11_rides_0 rfl (lv_at hl 0 rfl) ?_
  refine lv_iload_n hx hb dX11_rides_1 rfl (lv_at hl 1 rfl) ?_
  obtain ⟨hc0, hf⟩ := sf_c0e hf
  refine k_Pv (run_YV (As := [.int p0]) (rest := []) ⟨hx, hb, hml, hown, ha⟩ (c_X11_checkGuest l D dA cA h0 h1 h2 h6 h7 h8 h9 h14 h17 h21 h41 h43 h46 h49   on ot op os gc gp gr xi xe xf p0  hc0) (gi_V m_1356 m_1358 m_19 m_31 m_1359) yd_X11_checkGuest ⟨Nat.le_of_ble_eq_true rfl, Nat.le_of_ble_eq_true rfl⟩ ⟨rfl, rfl⟩ hK hX hS hP [0, 1, 2, 3, 4] rfl (va_recv hK hP (q0 := 0) rfl rfl) rfl hl.1 rfl (Nat.le_of_ble_eq_true rfl) dX11_rides_2 ⟨Nat.le_of_ble_eq_true rfl, Nat.le_of_ble_eq_true rfl⟩) hP hS (fun H locs hP hS => ?_)
  refine lv_aload_n hx hb dX11_rides_5 rfl (lv_at hl 0 rfl) ?_
  refine gt_f (C := RX11) (T := TX11) (N := 9) hx hb ha in_X11 hown hK hP 0 rfl rfl 0 (by decide) m_332 rfl dX11_rides_6 ?_
  refine gt_f (C := RX8) (T := TX8) (N := 9) hx hb ha in_X8 hown hK hP 1 rfl rfl 5 (by decide) m_217 rfl dX11_rides_9 ?_
  refine gt_f (C := RX6) (T := TX6) (N := 3) hx hb ha in_X6 hown hK hP 2 rfl rfl 2 (by decide) m_126 rfl dX11_rides_12 ?_
  refine lv_iload_n hx hb dX11_rides_15 rfl (lv_at hl 1 rfl) ?_
  obtain ⟨hi, hf⟩ := sf_ge hf
  refine ia_ld hx hb hK hP 4 rfl hi dX11_rides_16 ?_
  exact rt_Pi hx hb hr hlocks (Option.some.inj hf) hS dX11_rides_17

def f_TX11_rides (gc : Int32) (p0 : Int32) : Option Nat :=
  sf_t1 (f_TX11_checkGuest gc p0) (fun k_1 => some k_1) (sf_c0 (f_X11_checkGuest gc p0) (fun _ => sf_g (sf_in p0 10 = true) (none)))
theorem yd_TX11_rides : yX11_rides.cls = RX11 ∧ yX11_rides.cls ≠ "java/lang/invoke/MethodHandle" ∧ yX11_rides.cls ≠ "java/lang/invoke/VarHandle" ∧ (parseMethodDescriptor yX11_rides.desc).map (fun d => d.parameters.length) = some 1 := ⟨rfl, by decide, by decide, by decide +kernel⟩
set_option maxRecDepth 100000 in
set_option maxHeartbeats 4000000 in
theorem c_TX11_rides (l : Launch) (D : va_G) (dA : Nat → ClassId) (cA : Nat → Nat) (hst : l.stackTraces = false) (h0 h1 h2 h6 h7 h8 h9 h14 h17 h21 h41 h43 h46 h49 : Nat) (sz : Nat) (on : Int32) (ot : Int32) (op : Int32) (os : Int32) (gc : Int32) (gp : Nat → Int32) (gr : Nat → Int32) (xi : Int32) (xe : Int32) (xf : Int32) (p0 : Int32) (rx : Nat) (hf : f_TX11_rides gc p0 = some rx) : vx_Met l yX11_rides (wo (.code yX11_rides cX11_rides 2 (some .int))) ({ frames := 7, cells := 1, slots := 6, locals := 121 } : Room) (preX D dA cA [.ref h0, .int p0] sz [(h0, .inr (9, [.ref h1, .ref h21, .int xi, .ref h41, .ref h43, .ref h46, .ref h49, .int xe, .int xf])), (h1, .inr (6, [.int on, .int ot, .int op, .int os, .ref h2, .ref h6, .ref h9, .ref h14, .ref h17])), (h6, .inr (4, [.int gc, .ref h7, .ref h8])), (h7, .inl (dA 0, 10, .inl gp)), (h8, .inl (dA 0, 10, .inl gr))]) noQ (xcQ D (exs rx) [(h0, .inr (9, [.ref h1, .ref h21, .int xi, .ref h41, .ref h43, .ref h46, .ref h49, .int xe, .int xf])), (h1, .inr (6, [.int on, .int ot, .int op, .int os, .ref h2, .ref h6, .ref h9, .ref h14, .ref h17])), (h6, .inr (4, [.int gc, .ref h7, .ref h8])), (h7, .inl (dA 0, 10, .inl gp)), (h8, .inl (dA 0, 10, .inl gr))] (va_A [(h0, .inr (9, [.ref h1, .ref h21, .int xi, .ref h41, .ref h43, .ref h46, .ref h49, .int xe, .int xf])), (h1, .inr (6, [.int on, .int ot, .int op, .int os, .ref h2, .ref h6, .ref h9, .ref h14, .ref h17])), (h6, .inr (4, [.int gc, .ref h7, .ref h8])), (h7, .inl (dA 0, 10, .inl gp)), (h8, .inl (dA 0, 10, .inl gr))] sz)) 1 6 (va_A [(h0, .inr (9, [.ref h1, .ref h21, .int xi, .ref h41, .ref h43, .ref h46, .ref h49, .int xe, .int xf])), (h1, .inr (6, [.int on, .int ot, .int op, .int os, .ref h2, .ref h6, .ref h9, .ref h14, .ref h17])), (h6, .inr (4, [.int gc, .ref h7, .ref h8])), (h7, .inl (dA 0, 10, .inl gp)), (h8, .inl (dA 0, 10, .inl gr))] sz) := by
  refine of_Z (y := yX11_rides) (cc := cX11_rides) (maxL := 2) (ret := (some .int)) (av := [.ref h0, .int p0]) (ws := [(h0, .inr (9, [.ref h1, .ref h21, .int xi, .ref h41, .ref h43, .ref h46, .ref h49, .int xe, .int xf])), (h1, .inr (6, [.int on, .int ot, .int op, .int os, .ref h2, .ref h6, .ref h9, .ref h14, .ref h17])), (h6, .inr (4, [.int gc, .ref h7, .ref h8])), (h7, .inl (dA 0, 10, .inl gp)), (h8, .inl (dA 0, 10, .inl gr))]) (sz := sz) (own := RX11) (XC := fun A => xcQ D (exs rx) [(h0, .inr (9, [.ref h1, .ref h21, .int xi, .ref h41, .ref h43, .ref h46, .ref h49, .int xe, .int xf])), (h1, .inr (6, [.int on, .int ot, .int op, .int os, .ref h2, .ref h6, .ref h9, .ref h14, .ref h17])), (h6, .inr (4, [.int gc, .ref h7, .ref h8])), (h7, .inl (dA 0, 10, .inl gp)), (h8, .inl (dA 0, 10, .inl gr))] A) (by decide) rfl (Nat.le_of_ble_eq_true rfl) ?_
  intro p e s m below meth c A hx hb hr ha hown hml hlocks hin hno hP hK hD hX hS hA ls hl
  have hC := hX.1
  have hl : lv_has ls 2 [(0, .ref h0), (1, .int p0)] := hl
  rw [f_TX11_rides] at hf
  refine lv_aload_n hx hb dX11_rides_0 rfl (lv_at hl 0 rfl) ?_
  refine lv_iload_n hx hb dX11_rides_1 rfl (lv_at hl 1 rfl) ?_
  rcases sf_t1e hf with ⟨hnt, hf⟩ | ⟨k_1, hc1, hf⟩
  · skip
    obtain ⟨hc1, hf⟩ := sf_c0e hf
    refine k_Pv (run_YV (As := [.int p0]) (rest := []) ⟨hx, hb, hml, hown, ha⟩ (c_X11_checkGuest l D dA cA h0 h1 h2 h6 h7 h8 h9 h14 h17 h21 h41 h43 h46 h49   on ot op os gc gp gr xi xe xf p0  hc1) (gi_V m_1356 m_1358 m_19 m_31 m_1359) yd_X11_checkGuest ⟨Nat.le_of_ble_eq_true rfl, Nat.le_of_ble_eq_true rfl⟩ ⟨rfl, rfl⟩ hK hX hS hP [0, 1, 2, 3, 4] rfl (va_recv hK hP (q0 := 0) rfl rfl) rfl hl.1 rfl (Nat.le_of_ble_eq_true rfl) dX11_rides_2 ⟨Nat.le_of_ble_eq_true rfl, Nat.le_of_ble_eq_true rfl⟩) hP hS (fun H locs hP hS => ?_)
    refine lv_aload_n hx hb dX11_rides_5 rfl (lv_at hl 0 rfl) ?_
    refine gt_f (C := RX11) (T := TX11) (N := 9) hx hb ha in_X11 hown hK hP 0 rfl rfl 0 (by decide) m_332 rfl dX11_rides_6 ?_
    refine gt_f (C := RX8) (T := TX8) (N := 9) hx hb ha in_X8 hown hK hP 1 rfl rfl 5 (by decide) m_217 rfl dX11_rides_9 ?_
    refine gt_f (C := RX6) (T := TX6) (N := 3) hx hb ha in_X6 hown hK hP 2 rfl rfl 2 (by decide) m_126 rfl dX11_rides_12 ?_
    refine lv_iload_n hx hb dX11_rides_15 rfl (lv_at hl 1 rfl) ?_
    obtain ⟨hi, hf⟩ := sf_ge hf
    refine ia_ld hx hb hK hP 4 rfl hi dX11_rides_16 ?_
    cases hf
  · skip
    refine k_Z (wr := []) (run_ZV (As := [.int p0]) (rest := []) ⟨hx, hb, hml, hown, ha⟩ (c_TX11_checkGuest l D dA cA hst h0 h1 h2 h6 h7 h8 h9 h14 h17 h21 h41 h43 h46 h49  _ on ot op os gc gp gr xi xe xf p0 _ hc1) (gi_V m_1356 m_1358 m_19 m_31 m_1359) yd_TX11_checkGuest ⟨Nat.le_of_ble_eq_true rfl, Nat.le_of_ble_eq_true rfl⟩ ⟨rfl, rfl⟩ hK hX hS hA hP hD [0, 1, 2, 3, 4] (by decide) rfl (va_recv hK hP (q0 := 0) rfl rfl) rfl hl.1 rfl (Nat.le_of_ble_eq_true rfl) dX11_rides_2 ⟨Nat.le_of_ble_eq_true rfl, Nat.le_of_ble_eq_true rfl⟩) hP hD hS hA [0, 1, 2, 3, 4] [] rfl rfl (by decide) (by decide) (fun q9 H locs hP hD hS ht9 => ?_)
    cases hf
    exact px_o hno hlocks ht9 (hP.sub [0, 1, 2, 3, 4] rfl) (hD.sub [0, 1, 2, 3, 4] (by decide) rfl) hS (by decide) (by decide)

def f_X11_guestByRides_L2 (gc : Int32) (gp : Nat → Int32) (gr : Nat → Int32) (p0 : Int32) (k : Unit → Option Int32) : Nat → Int32 → Option Int32
  | 0, _ => none
  | n + 1, v_1 => sf_b (gc ≤ v_1) (k ()) (sf_c1 (f_X6_rankByRidden gc gp gr v_1) (fun r_2 => sf_b (r_2 = p0) (some v_1) (sf_n (v_1 + (1 : Int32)) (fun x_3 => f_X11_guestByRides_L2 gc gp gr p0 k n x_3))))
def f_X11_guestByRides (gc : Int32) (gp : Nat → Int32) (gr : Nat → Int32) (p0 : Int32) : Option Int32 :=
  f_X11_guestByRides_L2 gc gp gr p0 (fun _ => none) 2000 (0 : Int32)
theorem yd_X11_guestByRides : yX11_guestByRides.cls = RX11 ∧ yX11_guestByRides.cls ≠ "java/lang/invoke/MethodHandle" ∧ yX11_guestByRides.cls ≠ "java/lang/invoke/VarHandle" ∧ (parseMethodDescriptor yX11_guestByRides.desc).map (fun d => d.parameters.length) = some 1 := ⟨rfl, by decide, by decide, by decide +kernel⟩
set_option maxRecDepth 100000 in
set_option maxHeartbeats 4000000 in
theorem c_X11_guestByRides (l : Launch) (D : va_G) (dA : Nat → ClassId) (cA : Nat → Nat) (h0 h1 h2 h6 h7 h8 h9 h14 h17 h21 h41 h43 h46 h49 : Nat) (on : Int32) (ot : Int32) (op : Int32) (os : Int32) (gc : Int32) (gp : Nat → Int32) (gr : Nat → Int32) (xi : Int32) (xe : Int32) (xf : Int32) (p0 : Int32) (rr : Int32) (hf : f_X11_guestByRides gc gp gr p0 = some rr) : Met l yX11_guestByRides (wo (.code yX11_guestByRides cX11_guestByRides 3 (some .int))) ({ frames := 2, cells := 0, slots := 0, locals := 45 } : Room) (preY D dA cA [.ref h0, .int p0] [(h0, .inr (9, [.ref h1, .ref h21, .int xi, .ref h41, .ref h43, .ref h46, .ref h49, .int xe, .int xf])), (h1, .inr (6, [.int on, .int ot, .int op, .int os, .ref h2, .ref h6, .ref h9, .ref h14, .ref h17])), (h6, .inr (4, [.int gc, .ref h7, .ref h8])), (h7, .inl (dA 0, 10, .inl gp)), (h8, .inl (dA 0, 10, .inl gr))]) (poPi rr) 0 0 noA := by
  refine of_Y (y := yX11_guestByRides) (cc := cX11_guestByRides) (maxL := 3) (ret := (some .int)) (av := [.ref h0, .int p0]) (ws := [(h0, .inr (9, [.ref h1, .ref h21, .int xi, .ref h41, .ref h43, .ref h46, .ref h49, .int xe, .int xf])), (h1, .inr (6, [.int on, .int ot, .int op, .int os, .ref h2, .ref h6, .ref h9, .ref h14, .ref h17])), (h6, .inr (4, [.int gc, .ref h7, .ref h8])), (h7, .inl (dA 0, 10, .inl gp)), (h8, .inl (dA 0, 10, .inl gr))]) (own := RX11) (by decide) rfl (Nat.le_of_ble_eq_true rfl) ?_
  intro p e s m below meth c hx hb hr ha hown hml hlocks hP hK hX hS ls hl
  have hC := hX.1
  have hl : lv_has ls 3 [(0, .ref h0), (1, .int p0)] := hl
  rw [f_X11_guestByRides] at hf
  refine lv_iconst (v := 0) hx hb dX11_guestByRides_0 (by decide) ?_
  refine lv_istore_n (lv' := [(2, .int (0 : Int32)), (0, .ref h0), (1, .int p0)]) hx hb dX11_guestByRides_1 rfl hl (by decide) rfl (fun ls hl => ?_)
  have hL2 : ∀ (n : Nat) (k : Unit → Option Int32) (v_1 : Int32) (H : Heap) (locs : List Loc) (ls : Array Slot), va_P D cls [(h0, .inr (9, [.ref h1, .ref h21, .int xi, .ref h41, .ref h43, .ref h46, .ref h49, .int xe, .int xf])), (h1, .inr (6, [.int on, .int ot, .int op, .int os, .ref h2, .ref h6, .ref h9, .ref h14, .ref h17])), (h6, .inr (4, [.int gc, .ref h7, .ref h8])), (h7, .inl (dA 0, 10, .inl gp)), (h8, .inl (dA 0, 10, .inl gr))] H → va_S noA s.heap H locs → lv_has ls 3 [(2, .int v_1), (0, .ref h0), (1, .int p0)] → f_X11_guestByRides_L2 gc gp gr p0 k n v_1 = some rr → (∀ (H : Heap) (locs : List Loc) (ls : Array Slot), va_P D cls [(h0, .inr (9, [.ref h1, .ref h21, .int xi, .ref h41, .ref h43, .ref h46, .ref h49, .int xe, .int xf])), (h1, .inr (6, [.int on, .int ot, .int op, .int os, .ref h2, .ref h6, .ref h9, .ref h14, .ref h17])), (h6, .inr (4, [.int gc, .ref h7, .ref h8])), (h7, .inl (dA 0, 10, .inl gp)), (h8, .inl (dA 0, 10, .inl gr))] H → va_S noA s.heap H locs → lv_has ls 3 [] → k () = some rr → W p l e ({ frames := 2, cells := 0, slots := 0, locals := 45 } : Room) s m ([.ref h0, .int p0] : List Value).toArray below meth c H locs 0 0 (MQ below (poPi rr) ([.ref h0, .int p0] : List Value).toArray s 0 0 noA) (F0 m 39 ls [])) → W p l e ({ frames := 2, cells := 0, slots := 0, locals := 45 } : Room) s m ([.ref h0, .int p0] : List Value).toArray below meth c H locs 0 0 (MQ below (poPi rr) ([.ref h0, .int p0] : List Value).toArray s 0 0 noA) (F0 m 2 ls []) := by
    intro n k
    induction n with
    | zero =>
      intro v_1 H locs ls hP hS hl hf hk
      rw [f_X11_guestByRides_L2] at hf
      cases hf
    | succ n ih =>
      intro v_1 H locs ls hP hS hl hf hk
      rw [f_X11_guestByRides_L2] at hf
      refine lv_iload_n hx hb dX11_guestByRides_2 rfl (lv_at hl 0 rfl) ?_
      refine lv_aload_n hx hb dX11_guestByRides_3 rfl (lv_at hl 1 rfl) ?_
      refine gt_f (C := RX11) (T := TX11) (N := 9) hx hb ha in_X11 hown hK hP 0 rfl rfl 0 (by decide) m_332 rfl dX11_guestByRides_4 ?_
      refine gt_f (C := RX8) (T := TX8) (N := 9) hx hb ha in_X8 hown hK hP 1 rfl rfl 5 (by decide) m_217 rfl dX11_guestByRides_7 ?_
      refine gt_f (C := RX6) (T := TX6) (N := 3) hx hb ha in_X6 hown hK hP 2 rfl rfl 0 (by decide) m_120 rfl dX11_guestByRides_10 ?_
      refine lv_icmp_ge (tgt := 39) hx hb dX11_guestByRides_13 (by decide) (fun hc => ?_) (fun hc => ?_)
      · have hf := sf_bp hf hc
        exact hk _ _ _ hP hS (lv_sub hl [] rfl) hf
      · have hf := sf_bn hf hc
        refine lv_aload_n hx hb dX11_guestByRides_16 rfl (lv_at hl 1 rfl) ?_
        refine gt_f (C := RX11) (T := TX11) (N := 9) hx hb ha in_X11 hown hK hP 0 rfl rfl 0 (by decide) m_332 rfl dX11_guestByRides_17 ?_
        refine gt_f (C := RX8) (T := TX8) (N := 9) hx hb ha in_X8 hown hK hP 1 rfl rfl 5 (by decide) m_217 rfl dX11_guestByRides_20 ?_
        refine lv_iload_n hx hb dX11_guestByRides_23 rfl (lv_at hl 0 rfl) ?_
        obtain ⟨r_2, hc2, hf⟩ := sf_c1e hf
        refine k_Pi (run_PV (As := [.int v_1]) (rest := []) ⟨hx, hb, hml, hown, ha⟩ (c_X6_rankByRidden l D dA h6 h7 h8   gc gp gr v_1 _ hc2) (gi_V m_1407 m_1408 m_1409 m_34 m_1410) yd_X6_rankByRidden ⟨Nat.le_of_ble_eq_true rfl, Nat.le_of_ble_eq_true rfl⟩ ⟨rfl, rfl⟩ hK hP [2, 3, 4] rfl 2 4 rfl rfl rfl rfl hl.1 rfl (Nat.le_of_ble_eq_true rfl) dX11_guestByRides_24 ⟨Nat.le_of_ble_eq_true rfl, Nat.le_of_ble_eq_true rfl⟩) hP hS (fun H locs hP hS => ?_)
        refine lv_iload_n hx hb dX11_guestByRides_27 rfl (lv_at hl 2 rfl) ?_
        refine lv_icmp_ne (tgt := 33) hx hb dX11_guestByRides_28 (by decide) (fun hc => ?_) (fun hc => ?_)
        · have hf := sf_bn hf hc
          obtain ⟨x_3, ex_3, hf⟩ := sf_ne hf
          refine ii_nc (lv' := [(2, .int x_3), (0, .ref h0), (1, .int p0)]) (k := 0) hx hb dX11_guestByRides_33 hl rfl ex_3 (by decide) (by decide) rfl (fun ls hl => ?_)
          refine lv_goto (tgt := 2) hx hb dX11_guestByRides_36 (by decide) ?_
          exact ih _ _ _ _ hP hS (lv_sub hl [0, 1, 2] rfl) hf hk
        · have hf := sf_bp hf hc
          refine lv_iload_n hx hb dX11_guestByRides_31 rfl (lv_at hl 0 rfl) ?_
          exact rt_Pi hx hb hr hlocks (Option.some.inj hf) hS dX11_guestByRides_32
  refine hL2 _ _ _ _ _ _ hP hS (lv_sub hl [0, 1, 2] rfl) hf (fun  H locs ls hP hS hl hf => ?_)
  cases hf

def f_TX11_guestByRides_L2 (gc : Int32) (gp : Nat → Int32) (gr : Nat → Int32) (p0 : Int32) (k : Unit → Option Nat) : Nat → Int32 → Option Nat
  | 0, _ => none
  | n + 1, v_1 => sf_b (gc ≤ v_1) (k ()) (sf_c1 (f_X6_rankByRidden gc gp gr v_1) (fun r_2 => sf_b (r_2 = p0) (none) (sf_n (v_1 + (1 : Int32)) (fun x_3 => f_TX11_guestByRides_L2 gc gp gr p0 k n x_3))))
def f_TX11_guestByRides (gc : Int32) (gp : Nat → Int32) (gr : Nat → Int32) (p0 : Int32) : Option Nat :=
  f_TX11_guestByRides_L2 gc gp gr p0 (fun _ => some 4) 2000 (0 : Int32)
theorem yd_TX11_guestByRides : yX11_guestByRides.cls = RX11 ∧ yX11_guestByRides.cls ≠ "java/lang/invoke/MethodHandle" ∧ yX11_guestByRides.cls ≠ "java/lang/invoke/VarHandle" ∧ (parseMethodDescriptor yX11_guestByRides.desc).map (fun d => d.parameters.length) = some 1 := ⟨rfl, by decide, by decide, by decide +kernel⟩
set_option maxRecDepth 100000 in
set_option maxHeartbeats 4000000 in
theorem c_TX11_guestByRides (l : Launch) (D : va_G) (dA : Nat → ClassId) (cA : Nat → Nat) (hst : l.stackTraces = false) (h0 h1 h2 h6 h7 h8 h9 h14 h17 h21 h41 h43 h46 h49 : Nat) (sz : Nat) (on : Int32) (ot : Int32) (op : Int32) (os : Int32) (gc : Int32) (gp : Nat → Int32) (gr : Nat → Int32) (xi : Int32) (xe : Int32) (xf : Int32) (p0 : Int32) (rx : Nat) (hf : f_TX11_guestByRides gc gp gr p0 = some rx) : vx_Met l yX11_guestByRides (wo (.code yX11_guestByRides cX11_guestByRides 3 (some .int))) ({ frames := 6, cells := 1, slots := 6, locals := 100 } : Room) (preX D dA cA [.ref h0, .int p0] sz [(h0, .inr (9, [.ref h1, .ref h21, .int xi, .ref h41, .ref h43, .ref h46, .ref h49, .int xe, .int xf])), (h1, .inr (6, [.int on, .int ot, .int op, .int os, .ref h2, .ref h6, .ref h9, .ref h14, .ref h17])), (h6, .inr (4, [.int gc, .ref h7, .ref h8])), (h7, .inl (dA 0, 10, .inl gp)), (h8, .inl (dA 0, 10, .inl gr))]) noQ (xcQ D (exs rx) [(h0, .inr (9, [.ref h1, .ref h21, .int xi, .ref h41, .ref h43, .ref h46, .ref h49, .int xe, .int xf])), (h1, .inr (6, [.int on, .int ot, .int op, .int os, .ref h2, .ref h6, .ref h9, .ref h14, .ref h17])), (h6, .inr (4, [.int gc, .ref h7, .ref h8])), (h7, .inl (dA 0, 10, .inl gp)), (h8, .inl (dA 0, 10, .inl gr))] (va_A [(h0, .inr (9, [.ref h1, .ref h21, .int xi, .ref h41, .ref h43, .ref h46, .ref h49, .int xe, .int xf])), (h1, .inr (6, [.int on, .int ot, .int op, .int os, .ref h2, .ref h6, .ref h9, .ref h14, .ref h17])), (h6, .inr (4, [.int gc, .ref h7, .ref h8])), (h7, .inl (dA 0, 10, .inl gp)), (h8, .inl (dA 0, 10, .inl gr))] sz)) 1 6 (va_A [(h0, .inr (9, [.ref h1, .ref h21, .int xi, .ref h41, .ref h43, .ref h46, .ref h49, .int xe, .int xf])), (h1, .inr (6, [.int on, .int ot, .int op, .int os, .ref h2, .ref h6, .ref h9, .ref h14, .ref h17])), (h6, .inr (4, [.int gc, .ref h7, .ref h8])), (h7, .inl (dA 0, 10, .inl gp)), (h8, .inl (dA 0, 10, .inl gr))] sz) := by
  refine of_Z (y := yX11_guestByRides) (cc := cX11_guestByRides) (maxL := 3) (ret := (some .int)) (av := [.ref h0, .int p0]) (ws := [(h0, .inr (9, [.ref h1, .ref h21, .int xi, .ref h41, .ref h43, .ref h46, .ref h49, .int xe, .int xf])), (h1, .inr (6, [.int on, .int ot, .int op, .int os, .ref h2, .ref h6, .ref h9, .ref h14, .ref h17])), (h6, .inr (4, [.int gc, .ref h7, .ref h8])), (h7, .inl (dA 0, 10, .inl gp)), (h8, .inl (dA 0, 10, .inl gr))]) (sz := sz) (own := RX11) (XC := fun A => xcQ D (exs rx) [(h0, .inr (9, [.ref h1, .ref h21, .int xi, .ref h41, .ref h43, .ref h46, .ref h49, .int xe, .int xf])), (h1, .inr (6, [.int on, .int ot, .int op, .int os, .ref h2, .ref h6, .ref h9, .ref h14, .ref h17])), (h6, .inr (4, [.int gc, .ref h7, .ref h8])), (h7, .inl (dA 0, 10, .inl gp)), (h8, .inl (dA 0, 10, .inl gr))] A) (by decide) rfl (Nat.le_of_ble_eq_true rfl) ?_
  intro p e s m below meth c A hx hb hr ha hown hml hlocks hin hno hP hK hD hX hS hA ls hl
  have hC := hX.1
  have hl : lv_has ls 3 [(0, .ref h0), (1, .int p0)] := hl
  rw [f_TX11_guestByRides] at hf
  refine lv_iconst (v := 0) hx hb dX11_guestByRides_0 (by decide) ?_
  refine lv_istore_n (lv' := [(2, .int (0 : Int32)), (0, .ref h0), (1, .int p0)]) hx hb dX11_guestByRides_1 rfl hl (by decide) rfl (fun ls hl => ?_)
  have hL2 : ∀ (n : Nat) (k : Unit → Option Nat) (v_1 : Int32) (H : Heap) (locs : List Loc) (ls : Array Slot), va_P D cls [(h0, .inr (9, [.ref h1, .ref h21, .int xi, .ref h41, .ref h43, .ref h46, .ref h49, .int xe, .int xf])), (h1, .inr (6, [.int on, .int ot, .int op, .int os, .ref h2, .ref h6, .ref h9, .ref h14, .ref h17])), (h6, .inr (4, [.int gc, .ref h7, .ref h8])), (h7, .inl (dA 0, 10, .inl gp)), (h8, .inl (dA 0, 10, .inl gr))] H → va_D A [(h0, .inr (9, [.ref h1, .ref h21, .int xi, .ref h41, .ref h43, .ref h46, .ref h49, .int xe, .int xf])), (h1, .inr (6, [.int on, .int ot, .int op, .int os, .ref h2, .ref h6, .ref h9, .ref h14, .ref h17])), (h6, .inr (4, [.int gc, .ref h7, .ref h8])), (h7, .inl (dA 0, 10, .inl gp)), (h8, .inl (dA 0, 10, .inl gr))] → va_S A s.heap H locs → lv_has ls 3 [(2, .int v_1), (0, .ref h0), (1, .int p0)] → f_TX11_guestByRides_L2 gc gp gr p0 k n v_1 = some rx → (∀ (H : Heap) (locs : List Loc) (ls : Array Slot), va_P D cls [(h0, .inr (9, [.ref h1, .ref h21, .int xi, .ref h41, .ref h43, .ref h46, .ref h49, .int xe, .int xf])), (h1, .inr (6, [.int on, .int ot, .int op, .int os, .ref h2, .ref h6, .ref h9, .ref h14, .ref h17])), (h6, .inr (4, [.int gc, .ref h7, .ref h8])), (h7, .inl (dA 0, 10, .inl gp)), (h8, .inl (dA 0, 10, .inl gr))] H → va_D A [(h0, .inr (9, [.ref h1, .ref h21, .int xi, .ref h41, .ref h43, .ref h46, .ref h49, .int xe, .int xf])), (h1, .inr (6, [.int on, .int ot, .int op, .int os, .ref h2, .ref h6, .ref h9, .ref h14, .ref h17])), (h6, .inr (4, [.int gc, .ref h7, .ref h8])), (h7, .inl (dA 0, 10, .inl gp)), (h8, .inl (dA 0, 10, .inl gr))] → va_S A s.heap H locs → lv_has ls 3 [] → k () = some rx → W p l e ({ frames := 6, cells := 1, slots := 6, locals := 100 } : Room) s m ([.ref h0, .int p0] : List Value).toArray below meth c H locs 0 0 (vx_MQ below noQ (xcQ D (exs rx) ([(h0, .inr (9, [.ref h1, .ref h21, .int xi, .ref h41, .ref h43, .ref h46, .ref h49, .int xe, .int xf])), (h1, .inr (6, [.int on, .int ot, .int op, .int os, .ref h2, .ref h6, .ref h9, .ref h14, .ref h17])), (h6, .inr (4, [.int gc, .ref h7, .ref h8])), (h7, .inl (dA 0, 10, .inl gp)), (h8, .inl (dA 0, 10, .inl gr))]) A) ([.ref h0, .int p0] : List Value).toArray s 1 6 A) (F0 m 39 ls [])) → W p l e ({ frames := 6, cells := 1, slots := 6, locals := 100 } : Room) s m ([.ref h0, .int p0] : List Value).toArray below meth c H locs 0 0 (vx_MQ below noQ (xcQ D (exs rx) ([(h0, .inr (9, [.ref h1, .ref h21, .int xi, .ref h41, .ref h43, .ref h46, .ref h49, .int xe, .int xf])), (h1, .inr (6, [.int on, .int ot, .int op, .int os, .ref h2, .ref h6, .ref h9, .ref h14, .ref h17])), (h6, .inr (4, [.int gc, .ref h7, .ref h8])), (h7, .inl (dA 0, 10, .inl gp)), (h8, .inl (dA 0, 10, .inl gr))]) A) ([.ref h0, .int p0] : List Value).toArray s 1 6 A) (F0 m 2 ls []) := by
    intro n k
    induction n with
    | zero =>
      intro v_1 H locs ls hP hD hS hl hf hk
      rw [f_TX11_guestByRides_L2] at hf
      cases hf
    | succ n ih =>
      intro v_1 H locs ls hP hD hS hl hf hk
      rw [f_TX11_guestByRides_L2] at hf
      refine lv_iload_n hx hb dX11_guestByRides_2 rfl (lv_at hl 0 rfl) ?_
      refine lv_aload_n hx hb dX11_guestByRides_3 rfl (lv_at hl 1 rfl) ?_
      refine gt_f (C := RX11) (T := TX11) (N := 9) hx hb ha in_X11 hown hK hP 0 rfl rfl 0 (by decide) m_332 rfl dX11_guestByRides_4 ?_
      refine gt_f (C := RX8) (T := TX8) (N := 9) hx hb ha in_X8 hown hK hP 1 rfl rfl 5 (by decide) m_217 rfl dX11_guestByRides_7 ?_
      refine gt_f (C := RX6) (T := TX6) (N := 3) hx hb ha in_X6 hown hK hP 2 rfl rfl 0 (by decide) m_120 rfl dX11_guestByRides_10 ?_
      refine lv_icmp_ge (tgt := 39) hx hb dX11_guestByRides_13 (by decide) (fun hc => ?_) (fun hc => ?_)
      · have hf := sf_bp hf hc
        exact hk _ _ _ (hP.sub [0, 1, 2, 3, 4] rfl) (hD.sub [0, 1, 2, 3, 4] (by decide) rfl) hS (lv_sub hl [] rfl) hf
      · have hf := sf_bn hf hc
        refine lv_aload_n hx hb dX11_guestByRides_16 rfl (lv_at hl 1 rfl) ?_
        refine gt_f (C := RX11) (T := TX11) (N := 9) hx hb ha in_X11 hown hK hP 0 rfl rfl 0 (by decide) m_332 rfl dX11_guestByRides_17 ?_
        refine gt_f (C := RX8) (T := TX8) (N := 9) hx hb ha in_X8 hown hK hP 1 rfl rfl 5 (by decide) m_217 rfl dX11_guestByRides_20 ?_
        refine lv_iload_n hx hb dX11_guestByRides_23 rfl (lv_at hl 0 rfl) ?_
        obtain ⟨r_2, hc2, hf⟩ := sf_c1e hf
        refine k_Pi (run_PV (As := [.int v_1]) (rest := []) ⟨hx, hb, hml, hown, ha⟩ (c_X6_rankByRidden l D dA h6 h7 h8   gc gp gr v_1 _ hc2) (gi_V m_1407 m_1408 m_1409 m_34 m_1410) yd_X6_rankByRidden ⟨Nat.le_of_ble_eq_true rfl, Nat.le_of_ble_eq_true rfl⟩ ⟨rfl, rfl⟩ hK hP [2, 3, 4] rfl 2 4 rfl rfl rfl rfl hl.1 rfl (Nat.le_of_ble_eq_true rfl) dX11_guestByRides_24 ⟨Nat.le_of_ble_eq_true rfl, Nat.le_of_ble_eq_true rfl⟩) hP hS (fun H locs hP hS => ?_)
        refine lv_iload_n hx hb dX11_guestByRides_27 rfl (lv_at hl 2 rfl) ?_
        refine lv_icmp_ne (tgt := 33) hx hb dX11_guestByRides_28 (by decide) (fun hc => ?_) (fun hc => ?_)
        · have hf := sf_bn hf hc
          obtain ⟨x_3, ex_3, hf⟩ := sf_ne hf
          refine ii_nc (lv' := [(2, .int x_3), (0, .ref h0), (1, .int p0)]) (k := 0) hx hb dX11_guestByRides_33 hl rfl ex_3 (by decide) (by decide) rfl (fun ls hl => ?_)
          refine lv_goto (tgt := 2) hx hb dX11_guestByRides_36 (by decide) ?_
          exact ih _ _ _ _ (hP.sub [0, 1, 2, 3, 4] rfl) (hD.sub [0, 1, 2, 3, 4] (by decide) rfl) hS (lv_sub hl [0, 1, 2] rfl) hf hk
        · have hf := sf_bp hf hc
          refine lv_iload_n hx hb dX11_guestByRides_31 rfl (lv_at hl 0 rfl) ?_
          cases hf
  refine hL2 _ _ _ _ _ _ hP hD hS (lv_sub hl [0, 1, 2] rfl) hf (fun  H locs ls hP hD hS hl hf => ?_)
  cases hf
  exact th_SX (E := exs 4) (text := "there is no such rank") (sa := cA 39) nsx_4_0 nsx_4_1 nsx_4_2 nsx_4_5 hx hb hst hown ha hX hS (hP.sub [0, 1, 2, 3, 4] rfl) (hD.sub [0, 1, 2, 3, 4] (by decide) rfl) hlocks hno (hl.1.trans hml.symm) m_543 m_53 (hC.2.2.1 (RX11, 178, "there is no such rank", 39) (List.mem_of_getElem? (i := 16) rfl)) exg_129 exb_129 exo_129 exf_129 dX11_guestByRides_39 dX11_guestByRides_42 dX11_guestByRides_43 dX11_guestByRides_45 dX11_guestByRides_48 ⟨by decide, by decide, by decide, by decide⟩ ⟨by decide, by decide⟩

def f_X11_slideByWetness_L2 (sc : Int32) (sw : Nat → Int32) (p0 : Int32) (k : Unit → Option Int32) : Nat → Int32 → Option Int32
  | 0, _ => none
  | n + 1, v_1 => sf_b (sc ≤ v_1) (k ()) (sf_c1 (f_X10_rankByWetness sc sw v_1) (fun r_2 => sf_b (r_2 = p0) (some v_1) (sf_n (v_1 + (1 : Int32)) (fun x_3 => f_X11_slideByWetness_L2 sc sw p0 k n x_3))))
def f_X11_slideByWetness (sc : Int32) (sw : Nat → Int32) (p0 : Int32) : Option Int32 :=
  f_X11_slideByWetness_L2 sc sw p0 (fun _ => none) 2000 (0 : Int32)
theorem yd_X11_slideByWetness : yX11_slideByWetness.cls = RX11 ∧ yX11_slideByWetness.cls ≠ "java/lang/invoke/MethodHandle" ∧ yX11_slideByWetness.cls ≠ "java/lang/invoke/VarHandle" ∧ (parseMethodDescriptor yX11_slideByWetness.desc).map (fun d => d.parameters.length) = some 1 := ⟨rfl, by decide, by decide, by decide +kernel⟩
set_option maxRecDepth 100000 in
set_option maxHeartbeats 4000000 in
theorem c_X11_slideByWetness (l : Launch) (D : va_G) (dA : Nat → ClassId) (cA : Nat → Nat) (h0 h1 h2 h3 h4 h5 h6 h9 h14 h17 h21 h41 h43 h46 h49 : Nat) (on : Int32) (ot : Int32) (op : Int32) (os : Int32) (sc : Int32) (sd : Nat → Int32) (sp : Nat → Int32) (sw : Nat → Int32) (xi : Int32) (xe : Int32) (xf : Int32) (p0 : Int32) (rr : Int32) (hf : f_X11_slideByWetness sc sw p0 = some rr) : Met l yX11_slideByWetness (wo (.code yX11_slideByWetness cX11_slideByWetness 3 (some .int))) ({ frames := 1, cells := 0, slots := 0, locals := 24 } : Room) (preY D dA cA [.ref h0, .int p0] [(h0, .inr (9, [.ref h1, .ref h21, .int xi, .ref h41, .ref h43, .ref h46, .ref h49, .int xe, .int xf])), (h1, .inr (6, [.int on, .int ot, .int op, .int os, .ref h2, .ref h6, .ref h9, .ref h14, .ref h17])), (h2, .inr (8, [.int sc, .ref h3, .ref h4, .ref h5])), (h3, .inl (dA 0, 4, .inl sd)), (h4, .inl (dA 0, 4, .inl sp)), (h5, .inl (dA 0, 4, .inl sw))]) (poPi rr) 0 0 noA := by
  refine of_Y (y := yX11_slideByWetness) (cc := cX11_slideByWetness) (maxL := 3) (ret := (some .int)) (av := [.ref h0, .int p0]) (ws := [(h0, .inr (9, [.ref h1, .ref h21, .int xi, .ref h41, .ref h43, .ref h46, .ref h49, .int xe, .int xf])), (h1, .inr (6, [.int on, .int ot, .int op, .int os, .ref h2, .ref h6, .ref h9, .ref h14, .ref h17])), (h2, .inr (8, [.int sc, .ref h3, .ref h4, .ref h5])), (h3, .inl (dA 0, 4, .inl sd)), (h4, .inl (dA 0, 4, .inl sp)), (h5, .inl (dA 0, 4, .inl sw))]) (own := RX11) (by decide) rfl (Nat.le_of_ble_eq_true rfl) ?_
  intro p e s m below meth c hx hb hr ha hown hml hlocks hP hK hX hS ls hl
  have hC := hX.1
  have hl : lv_has ls 3 [(0, .ref h0), (1, .int p0)] := hl
  rw [f_X11_slideByWetness] at hf
  refine lv_iconst (v := 0) hx hb dX11_slideByWetness_0 (by decide) ?_
  refine lv_istore_n (lv' := [(2, .int (0 : Int32)), (0, .ref h0), (1, .int p0)]) hx hb dX11_slideByWetness_1 rfl hl (by decide) rfl (fun ls hl => ?_)
  have hL2 : ∀ (n : Nat) (k : Unit → Option Int32) (v_1 : Int32) (H : Heap) (locs : List Loc) (ls : Array Slot), va_P D cls [(h0, .inr (9, [.ref h1, .ref h21, .int xi, .ref h41, .ref h43, .ref h46, .ref h49, .int xe, .int xf])), (h1, .inr (6, [.int on, .int ot, .int op, .int os, .ref h2, .ref h6, .ref h9, .ref h14, .ref h17])), (h2, .inr (8, [.int sc, .ref h3, .ref h4, .ref h5])), (h3, .inl (dA 0, 4, .inl sd)), (h4, .inl (dA 0, 4, .inl sp)), (h5, .inl (dA 0, 4, .inl sw))] H → va_S noA s.heap H locs → lv_has ls 3 [(2, .int v_1), (0, .ref h0), (1, .int p0)] → f_X11_slideByWetness_L2 sc sw p0 k n v_1 = some rr → (∀ (H : Heap) (locs : List Loc) (ls : Array Slot), va_P D cls [(h0, .inr (9, [.ref h1, .ref h21, .int xi, .ref h41, .ref h43, .ref h46, .ref h49, .int xe, .int xf])), (h1, .inr (6, [.int on, .int ot, .int op, .int os, .ref h2, .ref h6, .ref h9, .ref h14, .ref h17])), (h2, .inr (8, [.int sc, .ref h3, .ref h4, .ref h5])), (h3, .inl (dA 0, 4, .inl sd)), (h4, .inl (dA 0, 4, .inl sp)), (h5, .inl (dA 0, 4, .inl sw))] H → va_S noA s.heap H locs → lv_has ls 3 [] → k () = some rr → W p l e ({ frames := 1, cells := 0, slots := 0, locals := 24 } : Room) s m ([.ref h0, .int p0] : List Value).toArray below meth c H locs 0 0 (MQ below (poPi rr) ([.ref h0, .int p0] : List Value).toArray s 0 0 noA) (F0 m 39 ls [])) → W p l e ({ frames := 1, cells := 0, slots := 0, locals := 24 } : Room) s m ([.ref h0, .int p0] : List Value).toArray below meth c H locs 0 0 (MQ below (poPi rr) ([.ref h0, .int p0] : List Value).toArray s 0 0 noA) (F0 m 2 ls []) := by
    intro n k
    induction n with
    | zero =>
      intro v_1 H locs ls hP hS hl hf hk
      rw [f_X11_slideByWetness_L2] at hf
      cases hf
    | succ n ih =>
      intro v_1 H locs ls hP hS hl hf hk
      rw [f_X11_slideByWetness_L2] at hf
      refine lv_iload_n hx hb dX11_slideByWetness_2 rfl (lv_at hl 0 rfl) ?_
      refine lv_aload_n hx hb dX11_slideByWetness_3 rfl (lv_at hl 1 rfl) ?_
      refine gt_f (C := RX11) (T := TX11) (N := 9) hx hb ha in_X11 hown hK hP 0 rfl rfl 0 (by decide) m_332 rfl dX11_slideByWetness_4 ?_
      refine gt_f (C := RX8) (T := TX8) (N := 9) hx hb ha in_X8 hown hK hP 1 rfl rfl 4 (by decide) m_215 rfl dX11_slideByWetness_7 ?_
      refine gt_f (C := RX10) (T := TX10) (N := 4) hx hb ha in_X10 hown hK hP 2 rfl rfl 0 (by decide) m_92 rfl dX11_slideByWetness_10 ?_
      refine lv_icmp_ge (tgt := 39) hx hb dX11_slideByWetness_13 (by decide) (fun hc => ?_) (fun hc => ?_)
      · have hf := sf_bp hf hc
        exact hk _ _ _ hP hS (lv_sub hl [] rfl) hf
      · have hf := sf_bn hf hc
        refine lv_aload_n hx hb dX11_slideByWetness_16 rfl (lv_at hl 1 rfl) ?_
        refine gt_f (C := RX11) (T := TX11) (N := 9) hx hb ha in_X11 hown hK hP 0 rfl rfl 0 (by decide) m_332 rfl dX11_slideByWetness_17 ?_
        refine gt_f (C := RX8) (T := TX8) (N := 9) hx hb ha in_X8 hown hK hP 1 rfl rfl 4 (by decide) m_215 rfl dX11_slideByWetness_20 ?_
        refine lv_iload_n hx hb dX11_slideByWetness_23 rfl (lv_at hl 0 rfl) ?_
        obtain ⟨r_2, hc2, hf⟩ := sf_c1e hf
        refine k_Pi (run_PV (As := [.int v_1]) (rest := []) ⟨hx, hb, hml, hown, ha⟩ (c_X10_rankByWetness l D dA h2 h3 h4 h5   sc sd sp sw v_1 _ hc2) (gi_V m_1204 m_1205 m_1206 m_33 m_1207) yd_X10_rankByWetness ⟨Nat.le_of_ble_eq_true rfl, Nat.le_of_ble_eq_true rfl⟩ ⟨rfl, rfl⟩ hK hP [2, 3, 4, 5] rfl 2 8 rfl rfl rfl rfl hl.1 rfl (Nat.le_of_ble_eq_true rfl) dX11_slideByWetness_24 ⟨Nat.le_of_ble_eq_true rfl, Nat.le_of_ble_eq_true rfl⟩) hP hS (fun H locs hP hS => ?_)
        refine lv_iload_n hx hb dX11_slideByWetness_27 rfl (lv_at hl 2 rfl) ?_
        refine lv_icmp_ne (tgt := 33) hx hb dX11_slideByWetness_28 (by decide) (fun hc => ?_) (fun hc => ?_)
        · have hf := sf_bn hf hc
          obtain ⟨x_3, ex_3, hf⟩ := sf_ne hf
          refine ii_nc (lv' := [(2, .int x_3), (0, .ref h0), (1, .int p0)]) (k := 0) hx hb dX11_slideByWetness_33 hl rfl ex_3 (by decide) (by decide) rfl (fun ls hl => ?_)
          refine lv_goto (tgt := 2) hx hb dX11_slideByWetness_36 (by decide) ?_
          exact ih _ _ _ _ hP hS (lv_sub hl [0, 1, 2] rfl) hf hk
        · have hf := sf_bp hf hc
          refine lv_iload_n hx hb dX11_slideByWetness_31 rfl (lv_at hl 0 rfl) ?_
          exact rt_Pi hx hb hr hlocks (Option.some.inj hf) hS dX11_slideByWetness_32
  refine hL2 _ _ _ _ _ _ hP hS (lv_sub hl [0, 1, 2] rfl) hf (fun  H locs ls hP hS hl hf => ?_)
  cases hf

def f_TX11_slideByWetness_L2 (sc : Int32) (sw : Nat → Int32) (p0 : Int32) (k : Unit → Option Nat) : Nat → Int32 → Option Nat
  | 0, _ => none
  | n + 1, v_1 => sf_b (sc ≤ v_1) (k ()) (sf_c1 (f_X10_rankByWetness sc sw v_1) (fun r_2 => sf_b (r_2 = p0) (none) (sf_n (v_1 + (1 : Int32)) (fun x_3 => f_TX11_slideByWetness_L2 sc sw p0 k n x_3))))
def f_TX11_slideByWetness (sc : Int32) (sw : Nat → Int32) (p0 : Int32) : Option Nat :=
  f_TX11_slideByWetness_L2 sc sw p0 (fun _ => some 4) 2000 (0 : Int32)
theorem yd_TX11_slideByWetness : yX11_slideByWetness.cls = RX11 ∧ yX11_slideByWetness.cls ≠ "java/lang/invoke/MethodHandle" ∧ yX11_slideByWetness.cls ≠ "java/lang/invoke/VarHandle" ∧ (parseMethodDescriptor yX11_slideByWetness.desc).map (fun d => d.parameters.length) = some 1 := ⟨rfl, by decide, by decide, by decide +kernel⟩
set_option maxRecDepth 100000 in
set_option maxHeartbeats 4000000 in
theorem c_TX11_slideByWetness (l : Launch) (D : va_G) (dA : Nat → ClassId) (cA : Nat → Nat) (hst : l.stackTraces = false) (h0 h1 h2 h3 h4 h5 h6 h9 h14 h17 h21 h41 h43 h46 h49 : Nat) (sz : Nat) (on : Int32) (ot : Int32) (op : Int32) (os : Int32) (sc : Int32) (sd : Nat → Int32) (sp : Nat → Int32) (sw : Nat → Int32) (xi : Int32) (xe : Int32) (xf : Int32) (p0 : Int32) (rx : Nat) (hf : f_TX11_slideByWetness sc sw p0 = some rx) : vx_Met l yX11_slideByWetness (wo (.code yX11_slideByWetness cX11_slideByWetness 3 (some .int))) ({ frames := 6, cells := 1, slots := 6, locals := 100 } : Room) (preX D dA cA [.ref h0, .int p0] sz [(h0, .inr (9, [.ref h1, .ref h21, .int xi, .ref h41, .ref h43, .ref h46, .ref h49, .int xe, .int xf])), (h1, .inr (6, [.int on, .int ot, .int op, .int os, .ref h2, .ref h6, .ref h9, .ref h14, .ref h17])), (h2, .inr (8, [.int sc, .ref h3, .ref h4, .ref h5])), (h3, .inl (dA 0, 4, .inl sd)), (h4, .inl (dA 0, 4, .inl sp)), (h5, .inl (dA 0, 4, .inl sw))]) noQ (xcQ D (exs rx) [(h0, .inr (9, [.ref h1, .ref h21, .int xi, .ref h41, .ref h43, .ref h46, .ref h49, .int xe, .int xf])), (h1, .inr (6, [.int on, .int ot, .int op, .int os, .ref h2, .ref h6, .ref h9, .ref h14, .ref h17])), (h2, .inr (8, [.int sc, .ref h3, .ref h4, .ref h5])), (h3, .inl (dA 0, 4, .inl sd)), (h4, .inl (dA 0, 4, .inl sp)), (h5, .inl (dA 0, 4, .inl sw))] (va_A [(h0, .inr (9, [.ref h1, .ref h21, .int xi, .ref h41, .ref h43, .ref h46, .ref h49, .int xe, .int xf])), (h1, .inr (6, [.int on, .int ot, .int op, .int os, .ref h2, .ref h6, .ref h9, .ref h14, .ref h17])), (h2, .inr (8, [.int sc, .ref h3, .ref h4, .ref h5])), (h3, .inl (dA 0, 4, .inl sd)), (h4, .inl (dA 0, 4, .inl sp)), (h5, .inl (dA 0, 4, .inl sw))] sz)) 1 6 (va_A [(h0, .inr (9, [.ref h1, .ref h21, .int xi, .ref h41, .ref h43, .ref h46, .ref h49, .int xe, .int xf])), (h1, .inr (6, [.int on, .int ot, .int op, .int os, .ref h2, .ref h6, .ref h9, .ref h14, .ref h17])), (h2, .inr (8, [.int sc, .ref h3, .ref h4, .ref h5])), (h3, .inl (dA 0, 4, .inl sd)), (h4, .inl (dA 0, 4, .inl sp)), (h5, .inl (dA 0, 4, .inl sw))] sz) := by
  refine of_Z (y := yX11_slideByWetness) (cc := cX11_slideByWetness) (maxL := 3) (ret := (some .int)) (av := [.ref h0, .int p0]) (ws := [(h0, .inr (9, [.ref h1, .ref h21, .int xi, .ref h41, .ref h43, .ref h46, .ref h49, .int xe, .int xf])), (h1, .inr (6, [.int on, .int ot, .int op, .int os, .ref h2, .ref h6, .ref h9, .ref h14, .ref h17])), (h2, .inr (8, [.int sc, .ref h3, .ref h4, .ref h5])), (h3, .inl (dA 0, 4, .inl sd)), (h4, .inl (dA 0, 4, .inl sp)), (h5, .inl (dA 0, 4, .inl sw))]) (sz := sz) (own := RX11) (XC := fun A => xcQ D (exs rx) [(h0, .inr (9, [.ref h1, .ref h21, .int xi, .ref h41, .ref h43, .ref h46, .ref h49, .int xe, .int xf])), (h1, .inr (6, [.int on, .int ot, .int op, .int os, .ref h2, .ref h6, .ref h9, .ref h14, .ref h17])), (h2, .inr (8, [.int sc, .ref h3, .ref h4, .ref h5])), (h3, .inl (dA 0, 4, .inl sd)), (h4, .inl (dA 0, 4, .inl sp)), (h5, .inl (dA 0, 4, .inl sw))] A) (by decide) rfl (Nat.le_of_ble_eq_true rfl) ?_
  intro p e s m below meth c A hx hb hr ha hown hml hlocks hin hno hP hK hD hX hS hA ls hl
  have hC := hX.1
  have hl : lv_has ls 3 [(0, .ref h0), (1, .int p0)] := hl
  rw [f_TX11_slideByWetness] at hf
  refine lv_iconst (v := 0) hx hb dX11_slideByWetness_0 (by decide) ?_
  refine lv_istore_n (lv' := [(2, .int (0 : Int32)), (0, .ref h0), (1, .int p0)]) hx hb dX11_slideByWetness_1 rfl hl (by decide) rfl (fun ls hl => ?_)
  have hL2 : ∀ (n : Nat) (k : Unit → Option Nat) (v_1 : Int32) (H : Heap) (locs : List Loc) (ls : Array Slot), va_P D cls [(h0, .inr (9, [.ref h1, .ref h21, .int xi, .ref h41, .ref h43, .ref h46, .ref h49, .int xe, .int xf])), (h1, .inr (6, [.int on, .int ot, .int op, .int os, .ref h2, .ref h6, .ref h9, .ref h14, .ref h17])), (h2, .inr (8, [.int sc, .ref h3, .ref h4, .ref h5])), (h3, .inl (dA 0, 4, .inl sd)), (h4, .inl (dA 0, 4, .inl sp)), (h5, .inl (dA 0, 4, .inl sw))] H → va_D A [(h0, .inr (9, [.ref h1, .ref h21, .int xi, .ref h41, .ref h43, .ref h46, .ref h49, .int xe, .int xf])), (h1, .inr (6, [.int on, .int ot, .int op, .int os, .ref h2, .ref h6, .ref h9, .ref h14, .ref h17])), (h2, .inr (8, [.int sc, .ref h3, .ref h4, .ref h5])), (h3, .inl (dA 0, 4, .inl sd)), (h4, .inl (dA 0, 4, .inl sp)), (h5, .inl (dA 0, 4, .inl sw))] → va_S A s.heap H locs → lv_has ls 3 [(2, .int v_1), (0, .ref h0), (1, .int p0)] → f_TX11_slideByWetness_L2 sc sw p0 k n v_1 = some rx → (∀ (H : Heap) (locs : List Loc) (ls : Array Slot), va_P D cls [(h0, .inr (9, [.ref h1, .ref h21, .int xi, .ref h41, .ref h43, .ref h46, .ref h49, .int xe, .int xf])), (h1, .inr (6, [.int on, .int ot, .int op, .int os, .ref h2, .ref h6, .ref h9, .ref h14, .ref h17])), (h2, .inr (8, [.int sc, .ref h3, .ref h4, .ref h5])), (h3, .inl (dA 0, 4, .inl sd)), (h4, .inl (dA 0, 4, .inl sp)), (h5, .inl (dA 0, 4, .inl sw))] H → va_D A [(h0, .inr (9, [.ref h1, .ref h21, .int xi, .ref h41, .ref h43, .ref h46, .ref h49, .int xe, .int xf])), (h1, .inr (6, [.int on, .int ot, .int op, .int os, .ref h2, .ref h6, .ref h9, .ref h14, .ref h17])), (h2, .inr (8, [.int sc, .ref h3, .ref h4, .ref h5])), (h3, .inl (dA 0, 4, .inl sd)), (h4, .inl (dA 0, 4, .inl sp)), (h5, .inl (dA 0, 4, .inl sw))] → va_S A s.heap H locs → lv_has ls 3 [] → k () = some rx → W p l e ({ frames := 6, cells := 1, slots := 6, locals := 100 } : Room) s m ([.ref h0, .int p0] : List Value).toArray below meth c H locs 0 0 (vx_MQ below noQ (xcQ D (exs rx) ([(h0, .inr (9, [.ref h1, .ref h21, .int xi, .ref h41, .ref h43, .ref h46, .ref h49, .int xe, .int xf])), (h1, .inr (6, [.int on, .int ot, .int op, .int os, .ref h2, .ref h6, .ref h9, .ref h14, .ref h17])), (h2, .inr (8, [.int sc, .ref h3, .ref h4, .ref h5])), (h3, .inl (dA 0, 4, .inl sd)), (h4, .inl (dA 0, 4, .inl sp)), (h5, .inl (dA 0, 4, .inl sw))]) A) ([.ref h0, .int p0] : List Value).toArray s 1 6 A) (F0 m 39 ls [])) → W p l e ({ frames := 6, cells := 1, slots := 6, locals := 100 } : Room) s m ([.ref h0, .int p0] : List Value).toArray below meth c H locs 0 0 (vx_MQ below noQ (xcQ D (exs rx) ([(h0, .inr (9, [.ref h1, .ref h21, .int xi, .ref h41, .ref h43, .ref h46, .ref h49, .int xe, .int xf])), (h1, .inr (6, [.int on, .int ot, .int op, .int os, .ref h2, .ref h6, .ref h9, .ref h14, .ref h17])), (h2, .inr (8, [.int sc, .ref h3, .ref h4, .ref h5])), (h3, .inl (dA 0, 4, .inl sd)), (h4, .inl (dA 0, 4, .inl sp)), (h5, .inl (dA 0, 4, .inl sw))]) A) ([.ref h0, .int p0] : List Value).toArray s 1 6 A) (F0 m 2 ls []) := by
    intro n k
    induction n with
    | zero =>
      intro v_1 H locs ls hP hD hS hl hf hk
      rw [f_TX11_slideByWetness_L2] at hf
      cases hf
    | succ n ih =>
      intro v_1 H locs ls hP hD hS hl hf hk
      rw [f_TX11_slideByWetness_L2] at hf
      refine lv_iload_n hx hb dX11_slideByWetness_2 rfl (lv_at hl 0 rfl) ?_
      refine lv_aload_n hx hb dX11_slideByWetness_3 rfl (lv_at hl 1 rfl) ?_
      refine gt_f (C := RX11) (T := TX11) (N := 9) hx hb ha in_X11 hown hK hP 0 rfl rfl 0 (by decide) m_332 rfl dX11_slideByWetness_4 ?_
      refine gt_f (C := RX8) (T := TX8) (N := 9) hx hb ha in_X8 hown hK hP 1 rfl rfl 4 (by decide) m_215 rfl dX11_slideByWetness_7 ?_
      refine gt_f (C := RX10) (T := TX10) (N := 4) hx hb ha in_X10 hown hK hP 2 rfl rfl 0 (by decide) m_92 rfl dX11_slideByWetness_10 ?_
      refine lv_icmp_ge (tgt := 39) hx hb dX11_slideByWetness_13 (by decide) (fun hc => ?_) (fun hc => ?_)
      · have hf := sf_bp hf hc
        exact hk _ _ _ (hP.sub [0, 1, 2, 3, 4, 5] rfl) (hD.sub [0, 1, 2, 3, 4, 5] (by decide) rfl) hS (lv_sub hl [] rfl) hf
      · have hf := sf_bn hf hc
        refine lv_aload_n hx hb dX11_slideByWetness_16 rfl (lv_at hl 1 rfl) ?_
        refine gt_f (C := RX11) (T := TX11) (N := 9) hx hb ha in_X11 hown hK hP 0 rfl rfl 0 (by decide) m_332 rfl dX11_slideByWetness_17 ?_
        refine gt_f (C := RX8) (T := TX8) (N := 9) hx hb ha in_X8 hown hK hP 1 rfl rfl 4 (by decide) m_215 rfl dX11_slideByWetness_20 ?_
        refine lv_iload_n hx hb dX11_slideByWetness_23 rfl (lv_at hl 0 rfl) ?_
        obtain ⟨r_2, hc2, hf⟩ := sf_c1e hf
        refine k_Pi (run_PV (As := [.int v_1]) (rest := []) ⟨hx, hb, hml, hown, ha⟩ (c_X10_rankByWetness l D dA h2 h3 h4 h5   sc sd sp sw v_1 _ hc2) (gi_V m_1204 m_1205 m_1206 m_33 m_1207) yd_X10_rankByWetness ⟨Nat.le_of_ble_eq_true rfl, Nat.le_of_ble_eq_true rfl⟩ ⟨rfl, rfl⟩ hK hP [2, 3, 4, 5] rfl 2 8 rfl rfl rfl rfl hl.1 rfl (Nat.le_of_ble_eq_true rfl) dX11_slideByWetness_24 ⟨Nat.le_of_ble_eq_true rfl, Nat.le_of_ble_eq_true rfl⟩) hP hS (fun H locs hP hS => ?_)
        refine lv_iload_n hx hb dX11_slideByWetness_27 rfl (lv_at hl 2 rfl) ?_
        refine lv_icmp_ne (tgt := 33) hx hb dX11_slideByWetness_28 (by decide) (fun hc => ?_) (fun hc => ?_)
        · have hf := sf_bn hf hc
          obtain ⟨x_3, ex_3, hf⟩ := sf_ne hf
          refine ii_nc (lv' := [(2, .int x_3), (0, .ref h0), (1, .int p0)]) (k := 0) hx hb dX11_slideByWetness_33 hl rfl ex_3 (by decide) (by decide) rfl (fun ls hl => ?_)
          refine lv_goto (tgt := 2) hx hb dX11_slideByWetness_36 (by decide) ?_
          exact ih _ _ _ _ (hP.sub [0, 1, 2, 3, 4, 5] rfl) (hD.sub [0, 1, 2, 3, 4, 5] (by decide) rfl) hS (lv_sub hl [0, 1, 2] rfl) hf hk
        · have hf := sf_bp hf hc
          refine lv_iload_n hx hb dX11_slideByWetness_31 rfl (lv_at hl 0 rfl) ?_
          cases hf
  refine hL2 _ _ _ _ _ _ hP hD hS (lv_sub hl [0, 1, 2] rfl) hf (fun  H locs ls hP hD hS hl hf => ?_)
  cases hf
  exact th_SX (E := exs 4) (text := "there is no such rank") (sa := cA 39) nsx_4_0 nsx_4_1 nsx_4_2 nsx_4_5 hx hb hst hown ha hX hS (hP.sub [0, 1, 2, 3, 4, 5] rfl) (hD.sub [0, 1, 2, 3, 4, 5] (by decide) rfl) hlocks hno (hl.1.trans hml.symm) m_543 m_53 (hC.2.2.1 (RX11, 178, "there is no such rank", 39) (List.mem_of_getElem? (i := 16) rfl)) exg_129 exb_129 exo_129 exf_129 dX11_slideByWetness_39 dX11_slideByWetness_42 dX11_slideByWetness_43 dX11_slideByWetness_45 dX11_slideByWetness_48 ⟨by decide, by decide, by decide, by decide⟩ ⟨by decide, by decide⟩

def f_X11_meanCoins (gc : Int32) (gp : Nat → Int32) : Option UInt64 :=
  sf_b (gc = (0 : Int32)) (none) (sf_c1 (f_X6_allCoins gc gp) (fun r_1 => sf_g (sf_n64 (FP.ddiv (FP.i2d r_1) (FP.i2d gc)) = true) (some (FP.ddiv (FP.i2d r_1) (FP.i2d gc)))))
theorem yd_X11_meanCoins : yX11_meanCoins.cls = RX11 ∧ yX11_meanCoins.cls ≠ "java/lang/invoke/MethodHandle" ∧ yX11_meanCoins.cls ≠ "java/lang/invoke/VarHandle" ∧ (parseMethodDescriptor yX11_meanCoins.desc).map (fun d => d.parameters.length) = some 0 := ⟨rfl, by decide, by decide, by decide +kernel⟩
set_option maxRecDepth 100000 in
set_option maxHeartbeats 4000000 in
theorem c_X11_meanCoins (l : Launch) (D : va_G) (dA : Nat → ClassId) (cA : Nat → Nat) (h0 h1 h2 h6 h7 h8 h9 h14 h17 h21 h41 h43 h46 h49 : Nat) (on : Int32) (ot : Int32) (op : Int32) (os : Int32) (gc : Int32) (gp : Nat → Int32) (gr : Nat → Int32) (xi : Int32) (xe : Int32) (xf : Int32) (rr : UInt64) (hf : f_X11_meanCoins gc gp = some rr) : Met l yX11_meanCoins (wo (.code yX11_meanCoins cX11_meanCoins 1 (some .double))) ({ frames := 1, cells := 0, slots := 0, locals := 22 } : Room) (preY D dA cA [.ref h0] [(h0, .inr (9, [.ref h1, .ref h21, .int xi, .ref h41, .ref h43, .ref h46, .ref h49, .int xe, .int xf])), (h1, .inr (6, [.int on, .int ot, .int op, .int os, .ref h2, .ref h6, .ref h9, .ref h14, .ref h17])), (h6, .inr (4, [.int gc, .ref h7, .ref h8])), (h7, .inl (dA 0, 10, .inl gp)), (h8, .inl (dA 0, 10, .inl gr))]) (poPd rr) 0 0 noA := by
  refine of_Y (y := yX11_meanCoins) (cc := cX11_meanCoins) (maxL := 1) (ret := (some .double)) (av := [.ref h0]) (ws := [(h0, .inr (9, [.ref h1, .ref h21, .int xi, .ref h41, .ref h43, .ref h46, .ref h49, .int xe, .int xf])), (h1, .inr (6, [.int on, .int ot, .int op, .int os, .ref h2, .ref h6, .ref h9, .ref h14, .ref h17])), (h6, .inr (4, [.int gc, .ref h7, .ref h8])), (h7, .inl (dA 0, 10, .inl gp)), (h8, .inl (dA 0, 10, .inl gr))]) (own := RX11) (by decide) rfl (Nat.le_of_ble_eq_true rfl) ?_
  intro p e s m below meth c hx hb hr ha hown hml hlocks hP hK hX hS ls hl
  have hC := hX.1
  have hl : lv_has ls 1 [(0, .ref h0)] := hl
  rw [f_X11_meanCoins] at hf
  refine lv_aload_n hx hb dX11_meanCoins_0 rfl (lv_at hl 0 rfl) ?_
  refine gt_f (C := RX11) (T := TX11) (N := 9) hx hb ha in_X11 hown hK hP 0 rfl rfl 0 (by decide) m_332 rfl dX11_meanCoins_1 ?_
  refine gt_f (C := RX8) (T := TX8) (N := 9) hx hb ha in_X8 hown hK hP 1 rfl rfl 5 (by decide) m_217 rfl dX11_meanCoins_4 ?_
  refine gt_f (C := RX6) (T := TX6) (N := 3) hx hb ha in_X6 hown hK hP 2 rfl rfl 0 (by decide) m_120 rfl dX11_meanCoins_7 ?_
  refine lv_if_ne (tgt := 23) hx hb dX11_meanCoins_10 (by decide) (fun hc => ?_) (fun hc => ?_)
  · have hf := sf_bn hf hc
    refine lv_aload_n hx hb dX11_meanCoins_23 rfl (lv_at hl 0 rfl) ?_
    refine gt_f (C := RX11) (T := TX11) (N := 9) hx hb ha in_X11 hown hK hP 0 rfl rfl 0 (by decide) m_332 rfl dX11_meanCoins_24 ?_
    refine gt_f (C := RX8) (T := TX8) (N := 9) hx hb ha in_X8 hown hK hP 1 rfl rfl 5 (by decide) m_217 rfl dX11_meanCoins_27 ?_
    obtain ⟨r_1, hc1, hf⟩ := sf_c1e hf
    refine k_Pi (run_PV (As := []) (rest := []) ⟨hx, hb, hml, hown, ha⟩ (c_X6_allCoins l D dA h6 h7 h8   gc gp gr  _ hc1) (gi_V m_868 m_869 m_870 m_34 m_871) yd_X6_allCoins ⟨Nat.le_of_ble_eq_true rfl, Nat.le_of_ble_eq_true rfl⟩ ⟨rfl, rfl⟩ hK hP [2, 3, 4] rfl 2 4 rfl rfl rfl rfl hl.1 rfl (Nat.le_of_ble_eq_true rfl) dX11_meanCoins_30 ⟨Nat.le_of_ble_eq_true rfl, Nat.le_of_ble_eq_true rfl⟩) hP hS (fun H locs hP hS => ?_)
    refine lv_i2d hx hb dX11_meanCoins_33 ?_
    refine lv_aload_n hx hb dX11_meanCoins_34 rfl (lv_at hl 0 rfl) ?_
    refine gt_f (C := RX11) (T := TX11) (N := 9) hx hb ha in_X11 hown hK hP 0 rfl rfl 0 (by decide) m_332 rfl dX11_meanCoins_35 ?_
    refine gt_f (C := RX8) (T := TX8) (N := 9) hx hb ha in_X8 hown hK hP 1 rfl rfl 5 (by decide) m_217 rfl dX11_meanCoins_38 ?_
    refine gt_f (C := RX6) (T := TX6) (N := 3) hx hb ha in_X6 hown hK hP 2 rfl rfl 0 (by decide) m_120 rfl dX11_meanCoins_41 ?_
    refine lv_i2d hx hb dX11_meanCoins_44 ?_
    obtain ⟨hi, hf⟩ := sf_ge hf
    refine lv_ddiv hx hb dX11_meanCoins_45 (sf_n64e hi) ?_
    exact rt_Pd hx hb hr hlocks (Option.some.inj hf) hS dX11_meanCoins_46
  · have hf := sf_bp hf hc
    cases hf

def f_TX11_meanCoins (gc : Int32) (gp : Nat → Int32) : Option Nat :=
  sf_b (gc = (0 : Int32)) (some 5) (sf_c1 (f_X6_allCoins gc gp) (fun r_1 => sf_g (sf_n64 (FP.ddiv (FP.i2d r_1) (FP.i2d gc)) = true) (none)))
theorem yd_TX11_meanCoins : yX11_meanCoins.cls = RX11 ∧ yX11_meanCoins.cls ≠ "java/lang/invoke/MethodHandle" ∧ yX11_meanCoins.cls ≠ "java/lang/invoke/VarHandle" ∧ (parseMethodDescriptor yX11_meanCoins.desc).map (fun d => d.parameters.length) = some 0 := ⟨rfl, by decide, by decide, by decide +kernel⟩
set_option maxRecDepth 100000 in
set_option maxHeartbeats 4000000 in
theorem c_TX11_meanCoins (l : Launch) (D : va_G) (dA : Nat → ClassId) (cA : Nat → Nat) (hst : l.stackTraces = false) (h0 h1 h2 h6 h7 h8 h9 h14 h17 h21 h41 h43 h46 h49 : Nat) (sz : Nat) (on : Int32) (ot : Int32) (op : Int32) (os : Int32) (gc : Int32) (gp : Nat → Int32) (gr : Nat → Int32) (xi : Int32) (xe : Int32) (xf : Int32) (rx : Nat) (hf : f_TX11_meanCoins gc gp = some rx) : vx_Met l yX11_meanCoins (wo (.code yX11_meanCoins cX11_meanCoins 1 (some .double))) ({ frames := 6, cells := 1, slots := 6, locals := 100 } : Room) (preX D dA cA [.ref h0] sz [(h0, .inr (9, [.ref h1, .ref h21, .int xi, .ref h41, .ref h43, .ref h46, .ref h49, .int xe, .int xf])), (h1, .inr (6, [.int on, .int ot, .int op, .int os, .ref h2, .ref h6, .ref h9, .ref h14, .ref h17])), (h6, .inr (4, [.int gc, .ref h7, .ref h8])), (h7, .inl (dA 0, 10, .inl gp)), (h8, .inl (dA 0, 10, .inl gr))]) noQ (xcQ D (exs rx) [(h0, .inr (9, [.ref h1, .ref h21, .int xi, .ref h41, .ref h43, .ref h46, .ref h49, .int xe, .int xf])), (h1, .inr (6, [.int on, .int ot, .int op, .int os, .ref h2, .ref h6, .ref h9, .ref h14, .ref h17])), (h6, .inr (4, [.int gc, .ref h7, .ref h8])), (h7, .inl (dA 0, 10, .inl gp)), (h8, .inl (dA 0, 10, .inl gr))] (va_A [(h0, .inr (9, [.ref h1, .ref h21, .int xi, .ref h41, .ref h43, .ref h46, .ref h49, .int xe, .int xf])), (h1, .inr (6, [.int on, .int ot, .int op, .int os, .ref h2, .ref h6, .ref h9, .ref h14, .ref h17])), (h6, .inr (4, [.int gc, .ref h7, .ref h8])), (h7, .inl (dA 0, 10, .inl gp)), (h8, .inl (dA 0, 10, .inl gr))] sz)) 1 6 (va_A [(h0, .inr (9, [.ref h1, .ref h21, .int xi, .ref h41, .ref h43, .ref h46, .ref h49, .int xe, .int xf])), (h1, .inr (6, [.int on, .int ot, .int op, .int os, .ref h2, .ref h6, .ref h9, .ref h14, .ref h17])), (h6, .inr (4, [.int gc, .ref h7, .ref h8])), (h7, .inl (dA 0, 10, .inl gp)), (h8, .inl (dA 0, 10, .inl gr))] sz) := by
  refine of_Z (y := yX11_meanCoins) (cc := cX11_meanCoins) (maxL := 1) (ret := (some .double)) (av := [.ref h0]) (ws := [(h0, .inr (9, [.ref h1, .ref h21, .int xi, .ref h41, .ref h43, .ref h46, .ref h49, .int xe, .int xf])), (h1, .inr (6, [.int on, .int ot, .int op, .int os, .ref h2, .ref h6, .ref h9, .ref h14, .ref h17])), (h6, .inr (4, [.int gc, .ref h7, .ref h8])), (h7, .inl (dA 0, 10, .inl gp)), (h8, .inl (dA 0, 10, .inl gr))]) (sz := sz) (own := RX11) (XC := fun A => xcQ D (exs rx) [(h0, .inr (9, [.ref h1, .ref h21, .int xi, .ref h41, .ref h43, .ref h46, .ref h49, .int xe, .int xf])), (h1, .inr (6, [.int on, .int ot, .int op, .int os, .ref h2, .ref h6, .ref h9, .ref h14, .ref h17])), (h6, .inr (4, [.int gc, .ref h7, .ref h8])), (h7, .inl (dA 0, 10, .inl gp)), (h8, .inl (dA 0, 10, .inl gr))] A) (by decide) rfl (Nat.le_of_ble_eq_true rfl) ?_
  intro p e s m below meth c A hx hb hr ha hown hml hlocks hin hno hP hK hD hX hS hA ls hl
  have hC := hX.1
  have hl : lv_has ls 1 [(0, .ref h0)] := hl
  rw [f_TX11_meanCoins] at hf
  refine lv_aload_n hx hb dX11_meanCoins_0 rfl (lv_at hl 0 rfl) ?_
  refine gt_f (C := RX11) (T := TX11) (N := 9) hx hb ha in_X11 hown hK hP 0 rfl rfl 0 (by decide) m_332 rfl dX11_meanCoins_1 ?_
  refine gt_f (C := RX8) (T := TX8) (N := 9) hx hb ha in_X8 hown hK hP 1 rfl rfl 5 (by decide) m_217 rfl dX11_meanCoins_4 ?_
  refine gt_f (C := RX6) (T := TX6) (N := 3) hx hb ha in_X6 hown hK hP 2 rfl rfl 0 (by decide) m_120 rfl dX11_meanCoins_7 ?_
  refine lv_if_ne (tgt := 23) hx hb dX11_meanCoins_10 (by decide) (fun hc => ?_) (fun hc => ?_)
  · have hf := sf_bn hf hc
    refine lv_aload_n hx hb dX11_meanCoins_23 rfl (lv_at hl 0 rfl) ?_
    refine gt_f (C := RX11) (T := TX11) (N := 9) hx hb ha in_X11 hown hK hP 0 rfl rfl 0 (by decide) m_332 rfl dX11_meanCoins_24 ?_
    refine gt_f (C := RX8) (T := TX8) (N := 9) hx hb ha in_X8 hown hK hP 1 rfl rfl 5 (by decide) m_217 rfl dX11_meanCoins_27 ?_
    obtain ⟨r_1, hc1, hf⟩ := sf_c1e hf
    refine k_Pi (run_PV (As := []) (rest := []) ⟨hx, hb, hml, hown, ha⟩ (c_X6_allCoins l D dA h6 h7 h8   gc gp gr  _ hc1) (gi_V m_868 m_869 m_870 m_34 m_871) yd_X6_allCoins ⟨Nat.le_of_ble_eq_true rfl, Nat.le_of_ble_eq_true rfl⟩ ⟨rfl, rfl⟩ hK hP [2, 3, 4] rfl 2 4 rfl rfl rfl rfl hl.1 rfl (Nat.le_of_ble_eq_true rfl) dX11_meanCoins_30 ⟨Nat.le_of_ble_eq_true rfl, Nat.le_of_ble_eq_true rfl⟩) hP hS (fun H locs hP hS => ?_)
    refine lv_i2d hx hb dX11_meanCoins_33 ?_
    refine lv_aload_n hx hb dX11_meanCoins_34 rfl (lv_at hl 0 rfl) ?_
    refine gt_f (C := RX11) (T := TX11) (N := 9) hx hb ha in_X11 hown hK hP 0 rfl rfl 0 (by decide) m_332 rfl dX11_meanCoins_35 ?_
    refine gt_f (C := RX8) (T := TX8) (N := 9) hx hb ha in_X8 hown hK hP 1 rfl rfl 5 (by decide) m_217 rfl dX11_meanCoins_38 ?_
    refine gt_f (C := RX6) (T := TX6) (N := 3) hx hb ha in_X6 hown hK hP 2 rfl rfl 0 (by decide) m_120 rfl dX11_meanCoins_41 ?_
    refine lv_i2d hx hb dX11_meanCoins_44 ?_
    obtain ⟨hi, hf⟩ := sf_ge hf
    refine lv_ddiv hx hb dX11_meanCoins_45 (sf_n64e hi) ?_
    cases hf
  · have hf := sf_bp hf hc
    cases hf
    exact th_S (E := exs 5) (text := "there are no guests") (sa := cA 47) hx hb hst hown ha hX hS (hP.sub [0, 1, 2, 3, 4] rfl) (hD.sub [0, 1, 2, 3, 4] (by decide) rfl) hlocks hno (hl.1.trans hml.symm) m_1367 m_63 (hC.2.2.1 (RX11, 253, "there are no guests", 47) (List.mem_of_getElem? (i := 24) rfl)) exg_255 exb_255 exo_255 exf_255 dX11_meanCoins_13 dX11_meanCoins_16 dX11_meanCoins_17 dX11_meanCoins_19 dX11_meanCoins_22 ⟨by decide, by decide, by decide, by decide⟩ ⟨by decide, by decide⟩

