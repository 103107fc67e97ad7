def f_L_cell (cA : Nat → Nat) (p1 : Int32) : Option Int32 :=
  sf_j (fun (v_1 : Int32) => some v_1) (fun k_2 => sf_b ((Int32.ofNat (cA 201)) ≤ p1) (k_2 ((40503 : Int32) * p1)) (sf_g (sf_in p1 (cA 201) = true) (k_2 (scX cA p1.toNatClampNeg))))
theorem yd_L_cell : yL_cell.cls = RL ∧ yL_cell.cls ≠ "java/lang/invoke/MethodHandle" ∧ yL_cell.cls ≠ "java/lang/invoke/VarHandle" ∧ (parseMethodDescriptor yL_cell.desc).map (fun d => d.parameters.length) = some 2 := ⟨rfl, by decide, by decide, by decide +kernel⟩
set_option maxRecDepth 100000 in
set_option maxHeartbeats 8000000 in
theorem c_L_cell (l : Launch) (D : va_G) (dA : Nat → ClassId) (cA : Nat → Nat) (p1 : Int32) (rr : Int32) (hf : f_L_cell cA p1 = some rr) : Met l yL_cell (wo (.code yL_cell cL_cell 2 (some .int))) ({ frames := 0, cells := 0, slots := 0, locals := 0 } : Room) (preY D dA cA [.ref (cA 200), .int p1] []) (poPi rr) 0 0 noA := by
  refine of_Y (y := yL_cell) (cc := cL_cell) (maxL := 2) (ret := (some .int)) (av := [.ref (cA 200), .int p1]) (ws := []) (own := RL) (by decide) rfl (Nat.le_of_ble_eq_true rfl) ?_
  intro p e s m below meth c hx hb hr ha hown hml hlocks hP hK hX hS ls hl
  have hC := hX.1
  have hl : lv_has ls 2 [(0, .ref (cA 200)), (1, .int p1)] := hl
  rw [f_L_cell] at hf
  refine lv_iload_n hx hb dL_cell_0 rfl (lv_at hl 1 rfl) ?_
  refine lv_aload_n hx hb dL_cell_1 rfl (lv_at hl 0 rfl) ?_
  refine va_tlen (v := Int32.ofNat (cA 201)) hx hb hX.2.2.2.2.2.2.2.2.2 hS rfl dL_cell_2 ?_
  refine sf_jo (J := fun (k_2 : Int32 → Option Int32) => ∀ (v_1 : Int32) (H : Heap) (locs : List Loc) (ls : Array Slot), va_P D cls [] H → va_S noA s.heap H locs → lv_has ls 2 [] → k_2 v_1 = some rr → W p l e ({ frames := 0, cells := 0, slots := 0, locals := 0 } : Room) s m ([.ref (cA 200), .int p1] : List Value).toArray below meth c H locs 0 0 (MQ below (poPi rr) ([.ref (cA 200), .int p1] : List Value).toArray s 0 0 noA) (F0 m 16 ls [.int v_1])) hf (fun v_1 H locs ls hP hS hl hf => ?_) (fun k_2 hJ2 hf => ?_)
  · skip
    exact rt_Pi hx hb hr hlocks (Option.some.inj hf) hS dL_cell_16
  refine lv_icmp_ge (tgt := 12) hx hb dL_cell_3 (by decide) (fun hc => ?_) (fun hc => ?_)
  · have hf := sf_bp hf hc
    refine lv_ldc (v := 40503) hx hb hown (ha _ m_363) dL_cell_12 ?_
    refine lv_iload_n hx hb dL_cell_14 rfl (lv_at hl 1 rfl) ?_
    refine lv_imul hx hb dL_cell_15 ?_
    exact hJ2 _ _ _ _ (hP.sub [] rfl) hS (lv_sub hl [] rfl) hf
  · have hf := sf_bn hf hc
    refine lv_aload_n hx hb dL_cell_6 rfl (lv_at hl 0 rfl) ?_
    refine lv_iload_n hx hb dL_cell_7 rfl (lv_at hl 1 rfl) ?_
    obtain ⟨h_3, hf⟩ := sf_ge hf
    refine va_ti (v := .int (scX cA p1.toNatClampNeg)) hx hb hX.2.2.2.2.2.2.2.2.2 hS (sf_inv h_3) rfl dL_cell_8 ?_
    refine lv_goto (tgt := 16) hx hb dL_cell_9 (by decide) ?_
    exact hJ2 _ _ _ _ (hP.sub [] rfl) hS (lv_sub hl [] rfl) hf

def f_L_endOf (sc : Int32) (sd : Nat → Int32) (bc : Int32) (bs : Nat → Int32) (bt : Nat → Int32) (p1 : Int32) : Option Int32 :=
  sf_c1 (f_X11_start bc bt p1) (fun r_1 => sf_c1 (f_X11_bookedSlide bc bs p1) (fun r_2 => sf_c1 (f_X11_duration sc sd r_2) (fun r_3 => some (r_1 + r_3))))
theorem yd_L_endOf : yL_endOf.cls = RL ∧ yL_endOf.cls ≠ "java/lang/invoke/MethodHandle" ∧ yL_endOf.cls ≠ "java/lang/invoke/VarHandle" ∧ (parseMethodDescriptor yL_endOf.desc).map (fun d => d.parameters.length) = some 2 := ⟨rfl, by decide, by decide, by decide +kernel⟩
set_option maxRecDepth 100000 in
set_option maxHeartbeats 8000000 in
theorem c_L_endOf (l : Launch) (D : va_G) (dA : Nat → ClassId) (cA : Nat → Nat) (h0 h1 h2 h3 h4 h5 h6 h9 h10 h11 h12 h13 h14 h17 h21 h41 h43 h46 h49 : Nat) (on : Int32) (ot : Int32) (op : Int32) (os : Int32) (sc : Int32) (sd : Nat → Int32) (sp : Nat → Int32) (sw : Nat → Int32) (bc : Int32) (bg : Nat → Int32) (bs : Nat → Int32) (bt : Nat → Int32) (be : Nat → Int32) (xi : Int32) (xe : Int32) (xf : Int32) (p1 : Int32) (rr : Int32) (hf : f_L_endOf sc sd bc bs bt p1 = some rr) : Met l yL_endOf (wo (.code yL_endOf cL_endOf 2 (some .int))) ({ frames := 3, cells := 0, slots := 0, locals := 63 } : Room) (preY D dA cA [.ref h0, .int p1] [(h0, .inr (9, [.ref h1, .ref h21, .int xi, .ref h41, .ref h43, .ref h46, .ref h49, .int xe, .int xf])), (h1, .inr (6, [.int on, .int ot, .int op, .int os, .ref h2, .ref h6, .ref h9, .ref h14, .ref h17])), (h2, .inr (8, [.int sc, .ref h3, .ref h4, .ref h5])), (h3, .inl (dA 0, 4, .inl sd)), (h4, .inl (dA 0, 4, .inl sp)), (h5, .inl (dA 0, 4, .inl sw)), (h9, .inr (0, [.int bc, .ref h10, .ref h11, .ref h12, .ref h13])), (h10, .inl (dA 0, 12, .inl bg)), (h11, .inl (dA 0, 12, .inl bs)), (h12, .inl (dA 0, 12, .inl bt)), (h13, .inl (dA 0, 12, .inl be))]) (poPi rr) 0 0 noA := by
  refine of_Y (y := yL_endOf) (cc := cL_endOf) (maxL := 2) (ret := (some .int)) (av := [.ref h0, .int p1]) (ws := [(h0, .inr (9, [.ref h1, .ref h21, .int xi, .ref h41, .ref h43, .ref h46, .ref h49, .int xe, .int xf])), (h1, .inr (6, [.int on, .int ot, .int op, .int os, .ref h2, .ref h6, .ref h9, .ref h14, .ref h17])), (h2, .inr (8, [.int sc, .ref h3, .ref h4, .ref h5])), (h3, .inl (dA 0, 4, .inl sd)), (h4, .inl (dA 0, 4, .inl sp)), (h5, .inl (dA 0, 4, .inl sw)), (h9, .inr (0, [.int bc, .ref h10, .ref h11, .ref h12, .ref h13])), (h10, .inl (dA 0, 12, .inl bg)), (h11, .inl (dA 0, 12, .inl bs)), (h12, .inl (dA 0, 12, .inl bt)), (h13, .inl (dA 0, 12, .inl be))]) (own := RL) (by decide) rfl (Nat.le_of_ble_eq_true rfl) ?_
  intro p e s m below meth c hx hb hr ha hown hml hlocks hP hK hX hS ls hl
  have hC := hX.1
  have hl : lv_has ls 2 [(0, .ref h0), (1, .int p1)] := hl
  rw [f_L_endOf] at hf
  refine lv_aload_n hx hb dL_endOf_0 rfl (lv_at hl 0 rfl) ?_
  refine lv_iload_n hx hb dL_endOf_1 rfl (lv_at hl 1 rfl) ?_
  obtain ⟨r_1, hc1, hf⟩ := sf_c1e hf
  refine k_Pi (run_YV (As := [.int p1]) (rest := []) ⟨hx, hb, hml, hown, ha⟩ (c_X11_start l D dA cA h0 h1 h2 h6 h9 h10 h11 h12 h13 h14 h17 h21 h41 h43 h46 h49   on ot op os bc bg bs bt be xi xe xf p1 _ hc1) (gi_V m_765 m_766 m_767 m_31 m_768) yd_X11_start ⟨Nat.le_of_ble_eq_true rfl, Nat.le_of_ble_eq_true rfl⟩ ⟨rfl, rfl⟩ hK hX hS hP [0, 1, 6, 7, 8, 9, 10] rfl (va_recv hK hP (q0 := 0) rfl rfl) rfl hl.1 rfl (Nat.le_of_ble_eq_true rfl) dL_endOf_2 ⟨Nat.le_of_ble_eq_true rfl, Nat.le_of_ble_eq_true rfl⟩) hP hS (fun H locs hP hS => ?_)
  refine lv_aload_n hx hb dL_endOf_5 rfl (lv_at hl 0 rfl) ?_
  refine lv_aload_n hx hb dL_endOf_6 rfl (lv_at hl 0 rfl) ?_
  refine lv_iload_n hx hb dL_endOf_7 rfl (lv_at hl 1 rfl) ?_
  obtain ⟨r_2, hc2, hf⟩ := sf_c1e hf
  refine k_Pi (run_YV (As := [.int p1]) (rest := [.ref h0, .int r_1]) ⟨hx, hb, hml, hown, ha⟩ (c_X11_bookedSlide l D dA cA h0 h1 h2 h6 h9 h10 h11 h12 h13 h14 h17 h21 h41 h43 h46 h49   on ot op os bc bg bs bt be xi xe xf p1 _ hc2) (gi_V m_748 m_749 m_750 m_31 m_751) yd_X11_bookedSlide ⟨Nat.le_of_ble_eq_true rfl, Nat.le_of_ble_eq_true rfl⟩ ⟨rfl, rfl⟩ hK hX hS hP [0, 1, 6, 7, 8, 9, 10] rfl (va_recv hK hP (q0 := 0) rfl rfl) rfl hl.1 rfl (Nat.le_of_ble_eq_true rfl) dL_endOf_8 ⟨Nat.le_of_ble_eq_true rfl, Nat.le_of_ble_eq_true rfl⟩) hP hS (fun H locs hP hS => ?_)
  obtain ⟨r_3, hc3, hf⟩ := sf_c1e hf
  refine k_Pi (run_YV (As := [.int r_2]) (rest := [.int r_1]) ⟨hx, hb, hml, hown, ha⟩ (c_X11_duration l D dA cA h0 h1 h2 h3 h4 h5 h6 h9 h14 h17 h21 h41 h43 h46 h49   on ot op os sc sd sp sw xi xe xf r_2 _ hc3) (gi_V m_772 m_773 m_774 m_31 m_775) yd_X11_duration ⟨Nat.le_of_ble_eq_true rfl, Nat.le_of_ble_eq_true rfl⟩ ⟨rfl, rfl⟩ hK hX hS hP [0, 1, 2, 3, 4, 5] rfl (va_recv hK hP (q0 := 0) rfl rfl) rfl hl.1 rfl (Nat.le_of_ble_eq_true rfl) dL_endOf_11 ⟨Nat.le_of_ble_eq_true rfl, Nat.le_of_ble_eq_true rfl⟩) hP hS (fun H locs hP hS => ?_)
  refine lv_iadd hx hb dL_endOf_14 ?_
  exact rt_Pi hx hb hr hlocks (Option.some.inj hf) hS dL_endOf_15

def f_L_isAt (sc : Int32) (sd : Nat → Int32) (bc : Int32) (bs : Nat → Int32) (bt : Nat → Int32) (p1 : Int32) (p2 : Int32) : Option Int32 :=
  sf_c1 (f_X11_start bc bt p1) (fun r_1 => sf_j (fun (v_2 : Int32) => sf_g (v_2 = 0 ∨ v_2 = 1) (some v_2)) (fun k_3 => sf_b (p2 < r_1) (k_3 (0 : Int32)) (sf_c1 (f_L_endOf sc sd bc bs bt p1) (fun r_4 => sf_b (r_4 ≤ p2) (k_3 (0 : Int32)) (k_3 (1 : Int32))))))
theorem yd_L_isAt : yL_isAt.cls = RL ∧ yL_isAt.cls ≠ "java/lang/invoke/MethodHandle" ∧ yL_isAt.cls ≠ "java/lang/invoke/VarHandle" ∧ (parseMethodDescriptor yL_isAt.desc).map (fun d => d.parameters.length) = some 3 := ⟨rfl, by decide, by decide, by decide +kernel⟩
set_option maxRecDepth 100000 in
set_option maxHeartbeats 8000000 in
theorem c_L_isAt (l : Launch) (D : va_G) (dA : Nat → ClassId) (cA : Nat → Nat) (h0 h1 h2 h3 h4 h5 h6 h9 h10 h11 h12 h13 h14 h17 h21 h41 h43 h46 h49 : Nat) (on : Int32) (ot : Int32) (op : Int32) (os : Int32) (sc : Int32) (sd : Nat → Int32) (sp : Nat → Int32) (sw : Nat → Int32) (bc : Int32) (bg : Nat → Int32) (bs : Nat → Int32) (bt : Nat → Int32) (be : Nat → Int32) (xi : Int32) (xe : Int32) (xf : Int32) (p1 : Int32) (p2 : Int32) (rr : Int32) (hf : f_L_isAt sc sd bc bs bt p1 p2 = some rr) : Met l yL_isAt (wo (.code yL_isAt cL_isAt 3 (some .boolean))) ({ frames := 4, cells := 0, slots := 0, locals := 84 } : Room) (preY D dA cA [.ref h0, .int p1, .int p2] [(h0, .inr (9, [.ref h1, .ref h21, .int xi, .ref h41, .ref h43, .ref h46, .ref h49, .int xe, .int xf])), (h1, .inr (6, [.int on, .int ot, .int op, .int os, .ref h2, .ref h6, .ref h9, .ref h14, .ref h17])), (h2, .inr (8, [.int sc, .ref h3, .ref h4, .ref h5])), (h3, .inl (dA 0, 4, .inl sd)), (h4, .inl (dA 0, 4, .inl sp)), (h5, .inl (dA 0, 4, .inl sw)), (h9, .inr (0, [.int bc, .ref h10, .ref h11, .ref h12, .ref h13])), (h10, .inl (dA 0, 12, .inl bg)), (h11, .inl (dA 0, 12, .inl bs)), (h12, .inl (dA 0, 12, .inl bt)), (h13, .inl (dA 0, 12, .inl be))]) (poPi rr) 0 0 noA := by
  refine of_Y (y := yL_isAt) (cc := cL_isAt) (maxL := 3) (ret := (some .boolean)) (av := [.ref h0, .int p1, .int p2]) (ws := [(h0, .inr (9, [.ref h1, .ref h21, .int xi, .ref h41, .ref h43, .ref h46, .ref h49, .int xe, .int xf])), (h1, .inr (6, [.int on, .int ot, .int op, .int os, .ref h2, .ref h6, .ref h9, .ref h14, .ref h17])), (h2, .inr (8, [.int sc, .ref h3, .ref h4, .ref h5])), (h3, .inl (dA 0, 4, .inl sd)), (h4, .inl (dA 0, 4, .inl sp)), (h5, .inl (dA 0, 4, .inl sw)), (h9, .inr (0, [.int bc, .ref h10, .ref h11, .ref h12, .ref h13])), (h10, .inl (dA 0, 12, .inl bg)), (h11, .inl (dA 0, 12, .inl bs)), (h12, .inl (dA 0, 12, .inl bt)), (h13, .inl (dA 0, 12, .inl be))]) (own := RL) (by decide) rfl (Nat.le_of_ble_eq_true rfl) ?_
  intro p e s m below meth c hx hb hr ha hown hml hlocks hP hK hX hS ls hl
  have hC := hX.1
  have hl : lv_has ls 3 [(0, .ref h0), (1, .int p1), (2, .int p2)] := hl
  rw [f_L_isAt] at hf
  refine lv_aload_n hx hb dL_isAt_0 rfl (lv_at hl 0 rfl) ?_
  refine lv_iload_n hx hb dL_isAt_1 rfl (lv_at hl 1 rfl) ?_
  obtain ⟨r_1, hc1, hf⟩ := sf_c1e hf
  refine k_Pi (run_YV (As := [.int p1]) (rest := []) ⟨hx, hb, hml, hown, ha⟩ (c_X11_start l D dA cA h0 h1 h2 h6 h9 h10 h11 h12 h13 h14 h17 h21 h41 h43 h46 h49   on ot op os bc bg bs bt be xi xe xf p1 _ hc1) (gi_V m_765 m_766 m_767 m_31 m_768) yd_X11_start ⟨Nat.le_of_ble_eq_true rfl, Nat.le_of_ble_eq_true rfl⟩ ⟨rfl, rfl⟩ hK hX hS hP [0, 1, 6, 7, 8, 9, 10] rfl (va_recv hK hP (q0 := 0) rfl rfl) rfl hl.1 rfl (Nat.le_of_ble_eq_true rfl) dL_isAt_2 ⟨Nat.le_of_ble_eq_true rfl, Nat.le_of_ble_eq_true rfl⟩) hP hS (fun H locs hP hS => ?_)
  refine lv_iload_n hx hb dL_isAt_5 rfl (lv_at hl 2 rfl) ?_
  refine sf_jo (J := fun (k_3 : Int32 → Option Int32) => ∀ (v_2 : Int32) (H : Heap) (locs : List Loc) (ls : Array Slot), va_P D cls [(h0, .inr (9, [.ref h1, .ref h21, .int xi, .ref h41, .ref h43, .ref h46, .ref h49, .int xe, .int xf])), (h1, .inr (6, [.int on, .int ot, .int op, .int os, .ref h2, .ref h6, .ref h9, .ref h14, .ref h17])), (h2, .inr (8, [.int sc, .ref h3, .ref h4, .ref h5])), (h3, .inl (dA 0, 4, .inl sd)), (h4, .inl (dA 0, 4, .inl sp)), (h5, .inl (dA 0, 4, .inl sw)), (h9, .inr (0, [.int bc, .ref h10, .ref h11, .ref h12, .ref h13])), (h10, .inl (dA 0, 12, .inl bg)), (h11, .inl (dA 0, 12, .inl bs)), (h12, .inl (dA 0, 12, .inl bt)), (h13, .inl (dA 0, 12, .inl be))] H → va_S noA s.heap H locs → lv_has ls 3 [] → k_3 v_2 = some rr → W p l e ({ frames := 4, cells := 0, slots := 0, locals := 84 } : Room) s m ([.ref h0, .int p1, .int p2] : List Value).toArray below meth c H locs 0 0 (MQ below (poPi rr) ([.ref h0, .int p1, .int p2] : List Value).toArray s 0 0 noA) (F0 m 23 ls [.int v_2])) hf (fun v_2 H locs ls hP hS hl hf => ?_) (fun k_3 hJ3 hf => ?_)
  · skip
    obtain ⟨hz, hf⟩ := sf_ge hf
    exact rt_Pz hx hb hr hlocks (Option.some.inj hf) (sf_z1 hz) hS dL_isAt_23
  refine lv_icmp_gt (tgt := 22) hx hb dL_isAt_6 (by decide) (fun hc => ?_) (fun hc => ?_)
  · have hf := sf_bp hf hc
    refine lv_iconst (v := 0) hx hb dL_isAt_22 (by decide) ?_
    exact hJ3 _ _ _ _ (hP.sub [0, 1, 2, 3, 4, 5, 6, 7, 8, 9, 10] rfl) hS (lv_sub hl [] rfl) hf
  · have hf := sf_bn hf hc
    refine lv_iload_n hx hb dL_isAt_9 rfl (lv_at hl 2 rfl) ?_
    refine lv_aload_n hx hb dL_isAt_10 rfl (lv_at hl 0 rfl) ?_
    refine lv_iload_n hx hb dL_isAt_11 rfl (lv_at hl 1 rfl) ?_
    obtain ⟨r_4, hc4, hf⟩ := sf_c1e hf
    refine k_Pi (run_YS (As := [.ref h0, .int p1]) (rest := [.int p2]) ⟨hx, hb, hml, hown, ha⟩ (c_L_endOf l D dA cA h0 h1 h2 h3 h4 h5 h6 h9 h10 h11 h12 h13 h14 h17 h21 h41 h43 h46 h49   on ot op os sc sd sp sw bc bg bs bt be xi xe xf p1 _ hc4) (gi_S2 m_769 m_770 m_30 m_771) (yd_L_endOf).2 ⟨Nat.le_of_ble_eq_true rfl, Nat.le_of_ble_eq_true rfl⟩ ⟨rfl, rfl⟩ hK hX hS hP [0, 1, 2, 3, 4, 5, 6, 7, 8, 9, 10] rfl rfl hl.1 rfl (Nat.le_of_ble_eq_true rfl) dL_isAt_12 ⟨Nat.le_of_ble_eq_true rfl, Nat.le_of_ble_eq_true rfl⟩) hP hS (fun H locs hP hS => ?_)
    refine lv_icmp_ge (tgt := 22) hx hb dL_isAt_15 (by decide) (fun hc => ?_) (fun hc => ?_)
    · have hf := sf_bp hf hc
      refine lv_iconst (v := 0) hx hb dL_isAt_22 (by decide) ?_
      exact hJ3 _ _ _ _ (hP.sub [0, 1, 2, 3, 4, 5, 6, 7, 8, 9, 10] rfl) hS (lv_sub hl [] rfl) hf
    · have hf := sf_bn hf hc
      refine lv_iconst (v := 1) hx hb dL_isAt_18 (by decide) ?_
      refine lv_goto (tgt := 23) hx hb dL_isAt_19 (by decide) ?_
      exact hJ3 _ _ _ _ (hP.sub [0, 1, 2, 3, 4, 5, 6, 7, 8, 9, 10] rfl) hS (lv_sub hl [] rfl) hf

def f_L_during_L5 (sc : Int32) (sd : Nat → Int32) (bc : Int32) (bs : Nat → Int32) (bt : Nat → Int32) (p1 : Int32) (p2 : Int32) (k : Int32 → Option Int32) : Nat → Int32 → Int32 → Option Int32
  | 0, _, _ => none
  | n + 1, v_1, v_2 => sf_c1 (f_X11_bookingCount bc) (fun r_3 => sf_b (r_3 ≤ v_1) (k v_2) (sf_c1 (f_X11_bookedSlide bc bs v_1) (fun r_4 => sf_j (fun (v_5 : Int32) => sf_n (v_1 + (1 : Int32)) (fun x_7 => f_L_during_L5 sc sd bc bs bt p1 p2 k n x_7 v_5)) (fun k_6 => sf_b (r_4 = p1) (sf_c1 (f_L_isAt sc sd bc bs bt v_1 p2) (fun r_8 => sf_b (r_8 = (0 : Int32)) (k_6 v_2) (k_6 v_1))) (k_6 v_2)))))
def f_L_during (sc : Int32) (sd : Nat → Int32) (bc : Int32) (bs : Nat → Int32) (bt : Nat → Int32) (p1 : Int32) (p2 : Int32) : Option Int32 :=
  f_L_during_L5 sc sd bc bs bt p1 p2 (fun y_9 => some y_9) 2000 (0 : Int32) (-1 : Int32)
theorem yd_L_during : yL_during.cls = RL ∧ yL_during.cls ≠ "java/lang/invoke/MethodHandle" ∧ yL_during.cls ≠ "java/lang/invoke/VarHandle" ∧ (parseMethodDescriptor yL_during.desc).map (fun d => d.parameters.length) = some 3 := ⟨rfl, by decide, by decide, by decide +kernel⟩
set_option maxRecDepth 100000 in
set_option maxHeartbeats 8000000 in
theorem c_L_during (l : Launch) (D : va_G) (dA : Nat → ClassId) (cA : Nat → Nat) (h0 h1 h2 h3 h4 h5 h6 h9 h10 h11 h12 h13 h14 h17 h21 h41 h43 h46 h49 : Nat) (on : Int32) (ot : Int32) (op : Int32) (os : Int32) (sc : Int32) (sd : Nat → Int32) (sp : Nat → Int32) (sw : Nat → Int32) (bc : Int32) (bg : Nat → Int32) (bs : Nat → Int32) (bt : Nat → Int32) (be : Nat → Int32) (xi : Int32) (xe : Int32) (xf : Int32) (p1 : Int32) (p2 : Int32) (rr : Int32) (hf : f_L_during sc sd bc bs bt p1 p2 = some rr) : Met l yL_during (wo (.code yL_during cL_during 5 (some .int))) ({ frames := 5, cells := 0, slots := 0, locals := 106 } : Room) (preY D dA cA [.ref h0, .int p1, .int p2] [(h0, .inr (9, [.ref h1, .ref h21, .int xi, .ref h41, .ref h43, .ref h46, .ref h49, .int xe, .int xf])), (h1, .inr (6, [.int on, .int ot, .int op, .int os, .ref h2, .ref h6, .ref h9, .ref h14, .ref h17])), (h2, .inr (8, [.int sc, .ref h3, .ref h4, .ref h5])), (h3, .inl (dA 0, 4, .inl sd)), (h4, .inl (dA 0, 4, .inl sp)), (h5, .inl (dA 0, 4, .inl sw)), (h9, .inr (0, [.int bc, .ref h10, .ref h11, .ref h12, .ref h13])), (h10, .inl (dA 0, 12, .inl bg)), (h11, .inl (dA 0, 12, .inl bs)), (h12, .inl (dA 0, 12, .inl bt)), (h13, .inl (dA 0, 12, .inl be))]) (poPi rr) 0 0 noA := by
  refine of_Y (y := yL_during) (cc := cL_during) (maxL := 5) (ret := (some .int)) (av := [.ref h0, .int p1, .int p2]) (ws := [(h0, .inr (9, [.ref h1, .ref h21, .int xi, .ref h41, .ref h43, .ref h46, .ref h49, .int xe, .int xf])), (h1, .inr (6, [.int on, .int ot, .int op, .int os, .ref h2, .ref h6, .ref h9, .ref h14, .ref h17])), (h2, .inr (8, [.int sc, .ref h3, .ref h4, .ref h5])), (h3, .inl (dA 0, 4, .inl sd)), (h4, .inl (dA 0, 4, .inl sp)), (h5, .inl (dA 0, 4, .inl sw)), (h9, .inr (0, [.int bc, .ref h10, .ref h11, .ref h12, .ref h13])), (h10, .inl (dA 0, 12, .inl bg)), (h11, .inl (dA 0, 12, .inl bs)), (h12, .inl (dA 0, 12, .inl bt)), (h13, .inl (dA 0, 12, .inl be))]) (own := RL) (by decide) rfl (Nat.le_of_ble_eq_true rfl) ?_
  intro p e s m below meth c hx hb hr ha hown hml hlocks hP hK hX hS ls hl
  have hC := hX.1
  have hl : lv_has ls 5 [(0, .ref h0), (1, .int p1), (2, .int p2)] := hl
  rw [f_L_during] at hf
  refine lv_iconst (v := -1) hx hb dL_during_0 (by decide) ?_
  refine lv_istore_n (lv' := [(3, .int (-1 : Int32)), (0, .ref h0), (1, .int p1), (2, .int p2)]) hx hb dL_during_1 rfl hl (by decide) rfl (fun ls hl => ?_)
  refine lv_iconst (v := 0) hx hb dL_during_2 (by decide) ?_
  refine lv_istore (lv' := [(4, .int (0 : Int32)), (3, .int (-1 : Int32)), (0, .ref h0), (1, .int p1), (2, .int p2)]) hx hb dL_during_3 hl (by decide) rfl (fun ls hl => ?_)
  have hL5_9 : ∀ (n : Nat) (k : Int32 → Option Int32) (v_1 : Int32) (v_2 : Int32) (H : Heap) (locs : List Loc) (ls : Array Slot), va_P D cls [(h0, .inr (9, [.ref h1, .ref h21, .int xi, .ref h41, .ref h43, .ref h46, .ref h49, .int xe, .int xf])), (h1, .inr (6, [.int on, .int ot, .int op, .int os, .ref h2, .ref h6, .ref h9, .ref h14, .ref h17])), (h2, .inr (8, [.int sc, .ref h3, .ref h4, .ref h5])), (h3, .inl (dA 0, 4, .inl sd)), (h4, .inl (dA 0, 4, .inl sp)), (h5, .inl (dA 0, 4, .inl sw)), (h9, .inr (0, [.int bc, .ref h10, .ref h11, .ref h12, .ref h13])), (h10, .inl (dA 0, 12, .inl bg)), (h11, .inl (dA 0, 12, .inl bs)), (h12, .inl (dA 0, 12, .inl bt)), (h13, .inl (dA 0, 12, .inl be))] H → va_S noA s.heap H locs → lv_has ls 5 [(4, .int v_1), (3, .int v_2), (0, .ref h0), (1, .int p1), (2, .int p2)] → f_L_during_L5 sc sd bc bs bt p1 p2 k n v_1 v_2 = some rr → (∀ (y_9 : Int32) (H : Heap) (locs : List Loc) (ls : Array Slot), va_P D cls [(h0, .inr (9, [.ref h1, .ref h21, .int xi, .ref h41, .ref h43, .ref h46, .ref h49, .int xe, .int xf])), (h1, .inr (6, [.int on, .int ot, .int op, .int os, .ref h2, .ref h6, .ref h9, .ref h14, .ref h17])), (h2, .inr (8, [.int sc, .ref h3, .ref h4, .ref h5])), (h3, .inl (dA 0, 4, .inl sd)), (h4, .inl (dA 0, 4, .inl sp)), (h5, .inl (dA 0, 4, .inl sw)), (h9, .inr (0, [.int bc, .ref h10, .ref h11, .ref h12, .ref h13])), (h10, .inl (dA 0, 12, .inl bg)), (h11, .inl (dA 0, 12, .inl bs)), (h12, .inl (dA 0, 12, .inl bt)), (h13, .inl (dA 0, 12, .inl be))] H → va_S noA s.heap H locs → lv_has ls 5 [(3, .int y_9)] → k y_9 = some rr → W p l e ({ frames := 5, cells := 0, slots := 0, locals := 106 } : Room) s m ([.ref h0, .int p1, .int p2] : List Value).toArray below meth c H locs 0 0 (MQ below (poPi rr) ([.ref h0, .int p1, .int p2] : List Value).toArray s 0 0 noA) (F0 m 47 ls [])) → W p l e ({ frames := 5, cells := 0, slots := 0, locals := 106 } : Room) s m ([.ref h0, .int p1, .int p2] : List Value).toArray below meth c H locs 0 0 (MQ below (poPi rr) ([.ref h0, .int p1, .int p2] : List Value).toArray s 0 0 noA) (F0 m 5 ls []) := by
    intro n k
    induction n with
    | zero =>
      intro v_1 v_2 H locs ls hP hS hl hf hk
      rw [f_L_during_L5] at hf
      cases hf
    | succ n ih =>
      intro v_1 v_2 H locs ls hP hS hl hf hk
      rw [f_L_during_L5] at hf
      refine lv_iload hx hb dL_during_5 (lv_at hl 0 rfl) ?_
      refine lv_aload_n hx hb dL_during_7 rfl (lv_at hl 2 rfl) ?_
      obtain ⟨r_3, hc3, hf⟩ := sf_c1e hf
      refine k_Pi (run_YV (As := []) (rest := [.int v_1]) ⟨hx, hb, hml, hown, ha⟩ (c_X11_bookingCount l D dA cA h0 h1 h2 h6 h9 h10 h11 h12 h13 h14 h17 h21 h41 h43 h46 h49   on ot op os bc xi xe xf  _ hc3) (gi_V m_744 m_745 m_746 m_31 m_747) yd_X11_bookingCount ⟨Nat.le_of_ble_eq_true rfl, Nat.le_of_ble_eq_true rfl⟩ ⟨rfl, rfl⟩ hK hX hS hP [0, 1, 6] rfl (va_recv hK hP (q0 := 0) rfl rfl) rfl hl.1 rfl (Nat.le_of_ble_eq_true rfl) dL_during_8 ⟨Nat.le_of_ble_eq_true rfl, Nat.le_of_ble_eq_true rfl⟩) hP hS (fun H locs hP hS => ?_)
      refine lv_icmp_ge (tgt := 47) hx hb dL_during_11 (by decide) (fun hc => ?_) (fun hc => ?_)
      · have hf := sf_bp hf hc
        exact hk _ _ _ _ (hP.sub [0, 1, 2, 3, 4, 5, 6, 7, 8, 9, 10] rfl) hS (lv_sub hl [1] rfl) hf
      · have hf := sf_bn hf hc
        refine lv_aload_n hx hb dL_during_14 rfl (lv_at hl 2 rfl) ?_
        refine lv_iload hx hb dL_during_15 (lv_at hl 0 rfl) ?_
        obtain ⟨r_4, hc4, hf⟩ := sf_c1e hf
        refine k_Pi (run_YV (As := [.int v_1]) (rest := []) ⟨hx, hb, hml, hown, ha⟩ (c_X11_bookedSlide l D dA cA h0 h1 h2 h6 h9 h10 h11 h12 h13 h14 h17 h21 h41 h43 h46 h49   on ot op os bc bg bs bt be xi xe xf v_1 _ hc4) (gi_V m_748 m_749 m_750 m_31 m_751) yd_X11_bookedSlide ⟨Nat.le_of_ble_eq_true rfl, Nat.le_of_ble_eq_true rfl⟩ ⟨rfl, rfl⟩ hK hX hS hP [0, 1, 6, 7, 8, 9, 10] rfl (va_recv hK hP (q0 := 0) rfl rfl) rfl hl.1 rfl (Nat.le_of_ble_eq_true rfl) dL_during_17 ⟨Nat.le_of_ble_eq_true rfl, Nat.le_of_ble_eq_true rfl⟩) hP hS (fun H locs hP hS => ?_)
        refine lv_iload_n hx hb dL_during_20 rfl (lv_at hl 3 rfl) ?_
        refine sf_jo (J := fun (k_6 : Int32 → Option Int32) => ∀ (v_5 : Int32) (H : Heap) (locs : List Loc) (ls : Array Slot), va_P D cls [(h0, .inr (9, [.ref h1, .ref h21, .int xi, .ref h41, .ref h43, .ref h46, .ref h49, .int xe, .int xf])), (h1, .inr (6, [.int on, .int ot, .int op, .int os, .ref h2, .ref h6, .ref h9, .ref h14, .ref h17])), (h2, .inr (8, [.int sc, .ref h3, .ref h4, .ref h5])), (h3, .inl (dA 0, 4, .inl sd)), (h4, .inl (dA 0, 4, .inl sp)), (h5, .inl (dA 0, 4, .inl sw)), (h9, .inr (0, [.int bc, .ref h10, .ref h11, .ref h12, .ref h13])), (h10, .inl (dA 0, 12, .inl bg)), (h11, .inl (dA 0, 12, .inl bs)), (h12, .inl (dA 0, 12, .inl bt)), (h13, .inl (dA 0, 12, .inl be))] H → va_S noA s.heap H locs → lv_has ls 5 [(4, .int v_1), (0, .ref h0), (1, .int p1), (2, .int p2)] → k_6 v_5 = some rr → W p l e ({ frames := 5, cells := 0, slots := 0, locals := 106 } : Room) s m ([.ref h0, .int p1, .int p2] : List Value).toArray below meth c H locs 0 0 (MQ below (poPi rr) ([.ref h0, .int p1, .int p2] : List Value).toArray s 0 0 noA) (F0 m 40 ls [.int v_5])) hf (fun v_5 H locs ls hP hS hl hf => ?_) (fun k_6 hJ6 hf => ?_)
        · skip
          refine lv_istore_n (lv' := [(3, .int v_5), (4, .int v_1), (0, .ref h0), (1, .int p1), (2, .int p2)]) hx hb dL_during_40 rfl hl (by decide) rfl (fun ls hl => ?_)
          obtain ⟨x_7, ex_7, hf⟩ := sf_ne hf
          refine ii_nc (lv' := [(4, .int x_7), (3, .int v_5), (0, .ref h0), (1, .int p1), (2, .int p2)]) (k := 1) hx hb dL_during_41 hl rfl ex_7 (by decide) (by decide) rfl (fun ls hl => ?_)
          refine lv_goto (tgt := 5) hx hb dL_during_44 (by decide) ?_
          exact ih _ _ _ _ _ (hP.sub [0, 1, 2, 3, 4, 5, 6, 7, 8, 9, 10] rfl) hS (lv_sub hl [0, 1, 2, 3, 4] rfl) hf hk
        refine lv_icmp_ne (tgt := 39) hx hb dL_during_21 (by decide) (fun hc => ?_) (fun hc => ?_)
        · have hf := sf_bn hf hc
          refine lv_iload_n hx hb dL_during_39 rfl (lv_at hl 1 rfl) ?_
          exact hJ6 _ _ _ _ (hP.sub [0, 1, 2, 3, 4, 5, 6, 7, 8, 9, 10] rfl) hS (lv_sub hl [0, 2, 3, 4] rfl) hf
        · have hf := sf_bp hf hc
          refine lv_aload_n hx hb dL_during_24 rfl (lv_at hl 2 rfl) ?_
          refine lv_iload hx hb dL_during_25 (lv_at hl 0 rfl) ?_
          refine lv_iload_n hx hb dL_during_27 rfl (lv_at hl 4 rfl) ?_
          obtain ⟨r_8, hc8, hf⟩ := sf_c1e hf
          refine k_Pi (run_YS (As := [.ref h0, .int v_1, .int p2]) (rest := []) ⟨hx, hb, hml, hown, ha⟩ (c_L_isAt l D dA cA h0 h1 h2 h3 h4 h5 h6 h9 h10 h11 h12 h13 h14 h17 h21 h41 h43 h46 h49   on ot op os sc sd sp sw bc bg bs bt be xi xe xf v_1 p2 _ hc8) (gi_S2 m_782 m_783 m_30 m_784) (yd_L_isAt).2 ⟨Nat.le_of_ble_eq_true rfl, Nat.le_of_ble_eq_true rfl⟩ ⟨rfl, rfl⟩ hK hX hS hP [0, 1, 2, 3, 4, 5, 6, 7, 8, 9, 10] rfl rfl hl.1 rfl (Nat.le_of_ble_eq_true rfl) dL_during_28 ⟨Nat.le_of_ble_eq_true rfl, Nat.le_of_ble_eq_true rfl⟩) hP hS (fun H locs hP hS => ?_)
          refine lv_if_eq (tgt := 39) hx hb dL_during_31 (by decide) (fun hc => ?_) (fun hc => ?_)
          · have hf := sf_bp hf hc
            refine lv_iload_n hx hb dL_during_39 rfl (lv_at hl 1 rfl) ?_
            exact hJ6 _ _ _ _ (hP.sub [0, 1, 2, 3, 4, 5, 6, 7, 8, 9, 10] rfl) hS (lv_sub hl [0, 2, 3, 4] rfl) hf
          · have hf := sf_bn hf hc
            refine lv_iload hx hb dL_during_34 (lv_at hl 0 rfl) ?_
            refine lv_goto (tgt := 40) hx hb dL_during_36 (by decide) ?_
            exact hJ6 _ _ _ _ (hP.sub [0, 1, 2, 3, 4, 5, 6, 7, 8, 9, 10] rfl) hS (lv_sub hl [0, 2, 3, 4] rfl) hf
  refine hL5_9 2000 _ _ _ _ _ _ hP hS (lv_sub hl [0, 1, 2, 3, 4] rfl) hf (fun y_9 H locs ls hP hS hl hf => ?_)
  refine lv_iload_n hx hb dL_during_47 rfl (lv_at hl 0 rfl) ?_
  exact rt_Pi hx hb hr hlocks (Option.some.inj hf) hS dL_during_48

def f_L_isOpen_L21 (sc : Int32) (sd : Nat → Int32) (bc : Int32) (bg : Nat → Int32) (bs : Nat → Int32) (bt : Nat → Int32) (p1 : Int32) (p2 : Int32) (v_1 : Int32) (k : Int32 → Option Int32) : Nat → Int32 → Int32 → Option Int32
  | 0, _, _ => none
  | n + 1, v_4, v_5 => sf_c1 (f_X11_bookingCount bc) (fun r_6 => sf_b (r_6 ≤ v_4) (k v_5) (sf_j (fun (v_7 : Int32) => sf_n (v_4 + (1 : Int32)) (fun x_9 => f_L_isOpen_L21 sc sd bc bg bs bt p1 p2 v_1 k n x_9 v_7)) (fun k_8 => sf_b (v_5 = (0 : Int32)) (k_8 (0 : Int32)) (sf_c1 (f_L_isAt sc sd bc bs bt v_4 v_1) (fun r_10 => sf_b (r_10 = (0 : Int32)) (k_8 (1 : Int32)) (sf_c1 (f_X11_bookedSlide bc bs v_4) (fun r_11 => sf_b (r_11 = p2) (k_8 (0 : Int32)) (sf_c1 (f_X11_bookedGuest bc bg v_4) (fun r_12 => sf_b (r_12 = p1) (k_8 (0 : Int32)) (k_8 (1 : Int32)))))))))))
def f_L_isOpen_L6 (sc : Int32) (sd : Nat → Int32) (bc : Int32) (bg : Nat → Int32) (bs : Nat → Int32) (bt : Nat → Int32) (p1 : Int32) (p2 : Int32) (p3 : Int32) (k : Int32 → Option Int32) : Nat → Int32 → Int32 → Option Int32
  | 0, _, _ => none
  | n + 1, v_1, v_2 => sf_c1 (f_X11_duration sc sd p2) (fun r_3 => sf_b ((p3 + r_3) ≤ v_1) (k v_2) (f_L_isOpen_L21 sc sd bc bg bs bt p1 p2 v_1 (fun y_13 => sf_n (v_1 + (1 : Int32)) (fun x_14 => f_L_isOpen_L6 sc sd bc bg bs bt p1 p2 p3 k n x_14 y_13)) 2000 (0 : Int32) v_2))
def f_L_isOpen (sc : Int32) (sd : Nat → Int32) (bc : Int32) (bg : Nat → Int32) (bs : Nat → Int32) (bt : Nat → Int32) (p1 : Int32) (p2 : Int32) (p3 : Int32) : Option Int32 :=
  f_L_isOpen_L6 sc sd bc bg bs bt p1 p2 p3 (fun y_15 => sf_g (y_15 = 0 ∨ y_15 = 1) (some y_15)) 2000 p3 (1 : Int32)
theorem yd_L_isOpen : yL_isOpen.cls = RL ∧ yL_isOpen.cls ≠ "java/lang/invoke/MethodHandle" ∧ yL_isOpen.cls ≠ "java/lang/invoke/VarHandle" ∧ (parseMethodDescriptor yL_isOpen.desc).map (fun d => d.parameters.length) = some 4 := ⟨rfl, by decide, by decide, by decide +kernel⟩
set_option maxRecDepth 100000 in
set_option maxHeartbeats 8000000 in
theorem c_L_isOpen (l : Launch) (D : va_G) (dA : Nat → ClassId) (cA : Nat → Nat) (h0 h1 h2 h3 h4 h5 h6 h9 h10 h11 h12 h13 h14 h17 h21 h41 h43 h46 h49 : Nat) (on : Int32) (ot : Int32) (op : Int32) (os : Int32) (sc : Int32) (sd : Nat → Int32) (sp : Nat → Int32) (sw : Nat → Int32) (bc : Int32) (bg : Nat → Int32) (bs : Nat → Int32) (bt : Nat → Int32) (be : Nat → Int32) (xi : Int32) (xe : Int32) (xf : Int32) (p1 : Int32) (p2 : Int32) (p3 : Int32) (rr : Int32) (hf : f_L_isOpen sc sd bc bg bs bt p1 p2 p3 = some rr) : Met l yL_isOpen (wo (.code yL_isOpen cL_isOpen 7 (some .boolean))) ({ frames := 5, cells := 0, slots := 0, locals := 106 } : Room) (preY D dA cA [.ref h0, .int p1, .int p2, .int p3] [(h0, .inr (9, [.ref h1, .ref h21, .int xi, .ref h41, .ref h43, .ref h46, .ref h49, .int xe, .int xf])), (h1, .inr (6, [.int on, .int ot, .int op, .int os, .ref h2, .ref h6, .ref h9, .ref h14, .ref h17])), (h2, .inr (8, [.int sc, .ref h3, .ref h4, .ref h5])), (h3, .inl (dA 0, 4, .inl sd)), (h4, .inl (dA 0, 4, .inl sp)), (h5, .inl (dA 0, 4, .inl sw)), (h9, .inr (0, [.int bc, .ref h10, .ref h11, .ref h12, .ref h13])), (h10, .inl (dA 0, 12, .inl bg)), (h11, .inl (dA 0, 12, .inl bs)), (h12, .inl (dA 0, 12, .inl bt)), (h13, .inl (dA 0, 12, .inl be))]) (poPi rr) 0 0 noA := by
  refine of_Y (y := yL_isOpen) (cc := cL_isOpen) (maxL := 7) (ret := (some .boolean)) (av := [.ref h0, .int p1, .int p2, .int p3]) (ws := [(h0, .inr (9, [.ref h1, .ref h21, .int xi, .ref h41, .ref h43, .ref h46, .ref h49, .int xe, .int xf])), (h1, .inr (6, [.int on, .int ot, .int op, .int os, .ref h2, .ref h6, .ref h9, .ref h14, .ref h17])), (h2, .inr (8, [.int sc, .ref h3, .ref h4, .ref h5])), (h3, .inl (dA 0, 4, .inl sd)), (h4, .inl (dA 0, 4, .inl sp)), (h5, .inl (dA 0, 4, .inl sw)), (h9, .inr (0, [.int bc, .ref h10, .ref h11, .ref h12, .ref h13])), (h10, .inl (dA 0, 12, .inl bg)), (h11, .inl (dA 0, 12, .inl bs)), (h12, .inl (dA 0, 12, .inl bt)), (h13, .inl (dA 0, 12, .inl be))]) (own := RL) (by decide) rfl (Nat.le_of_ble_eq_true rfl) ?_
  intro p e s m below meth c hx hb hr ha hown hml hlocks hP hK hX hS ls hl
  have hC := hX.1
  have hl : lv_has ls 7 [(0, .ref h0), (1, .int p1), (2, .int p2), (3, .int p3)] := hl
  rw [f_L_isOpen] at hf
  refine lv_iconst (v := 1) hx hb dL_isOpen_0 (by decide) ?_
  refine lv_istore (lv' := [(4, .int (1 : Int32)), (0, .ref h0), (1, .int p1), (2, .int p2), (3, .int p3)]) hx hb dL_isOpen_1 hl (by decide) rfl (fun ls hl => ?_)
  refine lv_iload_n hx hb dL_isOpen_3 rfl (lv_at hl 4 rfl) ?_
  refine lv_istore (lv' := [(5, .int p3), (4, .int (1 : Int32)), (0, .ref h0), (1, .int p1), (2, .int p2), (3, .int p3)]) hx hb dL_isOpen_4 hl (by decide) rfl (fun ls hl => ?_)
  have hL6_15 : ∀ (n : Nat) (k : Int32 → Option Int32) (v_1 : Int32) (v_2 : Int32) (H : Heap) (locs : List Loc) (ls : Array Slot), va_P D cls [(h0, .inr (9, [.ref h1, .ref h21, .int xi, .ref h41, .ref h43, .ref h46, .ref h49, .int xe, .int xf])), (h1, .inr (6, [.int on, .int ot, .int op, .int os, .ref h2, .ref h6, .ref h9, .ref h14, .ref h17])), (h2, .inr (8, [.int sc, .ref h3, .ref h4, .ref h5])), (h3, .inl (dA 0, 4, .inl sd)), (h4, .inl (dA 0, 4, .inl sp)), (h5, .inl (dA 0, 4, .inl sw)), (h9, .inr (0, [.int bc, .ref h10, .ref h11, .ref h12, .ref h13])), (h10, .inl (dA 0, 12, .inl bg)), (h11, .inl (dA 0, 12, .inl bs)), (h12, .inl (dA 0, 12, .inl bt)), (h13, .inl (dA 0, 12, .inl be))] H → va_S noA s.heap H locs → lv_has ls 7 [(5, .int v_1), (4, .int v_2), (0, .ref h0), (1, .int p1), (2, .int p2), (3, .int p3)] → f_L_isOpen_L6 sc sd bc bg bs bt p1 p2 p3 k n v_1 v_2 = some rr → (∀ (y_15 : Int32) (H : Heap) (locs : List Loc) (ls : Array Slot), va_P D cls [(h0, .inr (9, [.ref h1, .ref h21, .int xi, .ref h41, .ref h43, .ref h46, .ref h49, .int xe, .int xf])), (h1, .inr (6, [.int on, .int ot, .int op, .int os, .ref h2, .ref h6, .ref h9, .ref h14, .ref h17])), (h2, .inr (8, [.int sc, .ref h3, .ref h4, .ref h5])), (h3, .inl (dA 0, 4, .inl sd)), (h4, .inl (dA 0, 4, .inl sp)), (h5, .inl (dA 0, 4, .inl sw)), (h9, .inr (0, [.int bc, .ref h10, .ref h11, .ref h12, .ref h13])), (h10, .inl (dA 0, 12, .inl bg)), (h11, .inl (dA 0, 12, .inl bs)), (h12, .inl (dA 0, 12, .inl bt)), (h13, .inl (dA 0, 12, .inl be))] H → va_S noA s.heap H locs → lv_has ls 7 [(4, .int y_15)] → k y_15 = some rr → W p l e ({ frames := 5, cells := 0, slots := 0, locals := 106 } : Room) s m ([.ref h0, .int p1, .int p2, .int p3] : List Value).toArray below meth c H locs 0 0 (MQ below (poPi rr) ([.ref h0, .int p1, .int p2, .int p3] : List Value).toArray s 0 0 noA) (F0 m 85 ls [])) → W p l e ({ frames := 5, cells := 0, slots := 0, locals := 106 } : Room) s m ([.ref h0, .int p1, .int p2, .int p3] : List Value).toArray below meth c H locs 0 0 (MQ below (poPi rr) ([.ref h0, .int p1, .int p2, .int p3] : List Value).toArray s 0 0 noA) (F0 m 6 ls []) := by
    intro n k
    induction n with
    | zero =>
      intro v_1 v_2 H locs ls hP hS hl hf hk
      rw [f_L_isOpen_L6] at hf
      cases hf
    | succ n ih =>
      intro v_1 v_2 H locs ls hP hS hl hf hk
      rw [f_L_isOpen_L6] at hf
      refine lv_iload hx hb dL_isOpen_6 (lv_at hl 0 rfl) ?_
      refine lv_iload_n hx hb dL_isOpen_8 rfl (lv_at hl 5 rfl) ?_
      refine lv_aload_n hx hb dL_isOpen_9 rfl (lv_at hl 2 rfl) ?_
      refine lv_iload_n hx hb dL_isOpen_10 rfl (lv_at hl 4 rfl) ?_
      obtain ⟨r_3, hc3, hf⟩ := sf_c1e hf
      refine k_Pi (run_YV (As := [.int p2]) (rest := [.int p3, .int v_1]) ⟨hx, hb, hml, hown, ha⟩ (c_X11_duration l D dA cA h0 h1 h2 h3 h4 h5 h6 h9 h14 h17 h21 h41 h43 h46 h49   on ot op os sc sd sp sw xi xe xf p2 _ hc3) (gi_V m_772 m_773 m_774 m_31 m_775) yd_X11_duration ⟨Nat.le_of_ble_eq_true rfl, Nat.le_of_ble_eq_true rfl⟩ ⟨rfl, rfl⟩ hK hX hS hP [0, 1, 2, 3, 4, 5] rfl (va_recv hK hP (q0 := 0) rfl rfl) rfl hl.1 rfl (Nat.le_of_ble_eq_true rfl) dL_isOpen_11 ⟨Nat.le_of_ble_eq_true rfl, Nat.le_of_ble_eq_true rfl⟩) hP hS (fun H locs hP hS => ?_)
      refine lv_iadd hx hb dL_isOpen_14 ?_
      refine lv_icmp_ge (tgt := 85) hx hb dL_isOpen_15 (by decide) (fun hc => ?_) (fun hc => ?_)
      · have hf := sf_bp hf hc
        exact hk _ _ _ _ (hP.sub [0, 1, 2, 3, 4, 5, 6, 7, 8, 9, 10] rfl) hS (lv_sub hl [1] rfl) hf
      · have hf := sf_bn hf hc
        refine lv_iconst (v := 0) hx hb dL_isOpen_18 (by decide) ?_
        refine lv_istore (lv' := [(6, .int (0 : Int32)), (5, .int v_1), (4, .int v_2), (0, .ref h0), (1, .int p1), (2, .int p2), (3, .int p3)]) hx hb dL_isOpen_19 hl (by decide) rfl (fun ls hl => ?_)
        have hL21_13 : ∀ (n : Nat) (k : Int32 → Option Int32) (v_4 : Int32) (v_5 : Int32) (H : Heap) (locs : List Loc) (ls : Array Slot), va_P D cls [(h0, .inr (9, [.ref h1, .ref h21, .int xi, .ref h41, .ref h43, .ref h46, .ref h49, .int xe, .int xf])), (h1, .inr (6, [.int on, .int ot, .int op, .int os, .ref h2, .ref h6, .ref h9, .ref h14, .ref h17])), (h2, .inr (8, [.int sc, .ref h3, .ref h4, .ref h5])), (h3, .inl (dA 0, 4, .inl sd)), (h4, .inl (dA 0, 4, .inl sp)), (h5, .inl (dA 0, 4, .inl sw)), (h9, .inr (0, [.int bc, .ref h10, .ref h11, .ref h12, .ref h13])), (h10, .inl (dA 0, 12, .inl bg)), (h11, .inl (dA 0, 12, .inl bs)), (h12, .inl (dA 0, 12, .inl bt)), (h13, .inl (dA 0, 12, .inl be))] H → va_S noA s.heap H locs → lv_has ls 7 [(6, .int v_4), (5, .int v_1), (4, .int v_5), (0, .ref h0), (1, .int p1), (2, .int p2), (3, .int p3)] → f_L_isOpen_L21 sc sd bc bg bs bt p1 p2 v_1 k n v_4 v_5 = some rr → (∀ (y_13 : Int32) (H : Heap) (locs : List Loc) (ls : Array Slot), va_P D cls [(h0, .inr (9, [.ref h1, .ref h21, .int xi, .ref h41, .ref h43, .ref h46, .ref h49, .int xe, .int xf])), (h1, .inr (6, [.int on, .int ot, .int op, .int os, .ref h2, .ref h6, .ref h9, .ref h14, .ref h17])), (h2, .inr (8, [.int sc, .ref h3, .ref h4, .ref h5])), (h3, .inl (dA 0, 4, .inl sd)), (h4, .inl (dA 0, 4, .inl sp)), (h5, .inl (dA 0, 4, .inl sw)), (h9, .inr (0, [.int bc, .ref h10, .ref h11, .ref h12, .ref h13])), (h10, .inl (dA 0, 12, .inl bg)), (h11, .inl (dA 0, 12, .inl bs)), (h12, .inl (dA 0, 12, .inl bt)), (h13, .inl (dA 0, 12, .inl be))] H → va_S noA s.heap H locs → lv_has ls 7 [(5, .int v_1), (4, .int y_13), (0, .ref h0), (1, .int p1), (2, .int p2), (3, .int p3)] → k y_13 = some rr → W p l e ({ frames := 5, cells := 0, slots := 0, locals := 106 } : Room) s m ([.ref h0, .int p1, .int p2, .int p3] : List Value).toArray below meth c H locs 0 0 (MQ below (poPi rr) ([.ref h0, .int p1, .int p2, .int p3] : List Value).toArray s 0 0 noA) (F0 m 79 ls [])) → W p l e ({ frames := 5, cells := 0, slots := 0, locals := 106 } : Room) s m ([.ref h0, .int p1, .int p2, .int p3] : List Value).toArray below meth c H locs 0 0 (MQ below (poPi rr) ([.ref h0, .int p1, .int p2, .int p3] : List Value).toArray s 0 0 noA) (F0 m 21 ls []) := by
          intro n k
          induction n with
          | zero =>
            intro v_4 v_5 H locs ls hP hS hl hf hk
            rw [f_L_isOpen_L21] at hf
            cases hf
          | succ n ih =>
            intro v_4 v_5 H locs ls hP hS hl hf hk
            rw [f_L_isOpen_L21] at hf
            refine lv_iload hx hb dL_isOpen_21 (lv_at hl 0 rfl) ?_
            refine lv_aload_n hx hb dL_isOpen_23 rfl (lv_at hl 3 rfl) ?_
            obtain ⟨r_6, hc6, hf⟩ := sf_c1e hf
            refine k_Pi (run_YV (As := []) (rest := [.int v_4]) ⟨hx, hb, hml, hown, ha⟩ (c_X11_bookingCount l D dA cA h0 h1 h2 h6 h9 h10 h11 h12 h13 h14 h17 h21 h41 h43 h46 h49   on ot op os bc xi xe xf  _ hc6) (gi_V m_744 m_745 m_746 m_31 m_747) yd_X11_bookingCount ⟨Nat.le_of_ble_eq_true rfl, Nat.le_of_ble_eq_true rfl⟩ ⟨rfl, rfl⟩ hK hX hS hP [0, 1, 6] rfl (va_recv hK hP (q0 := 0) rfl rfl) rfl hl.1 rfl (Nat.le_of_ble_eq_true rfl) dL_isOpen_24 ⟨Nat.le_of_ble_eq_true rfl, Nat.le_of_ble_eq_true rfl⟩) hP hS (fun H locs hP hS => ?_)
            refine lv_icmp_ge (tgt := 79) hx hb dL_isOpen_27 (by decide) (fun hc => ?_) (fun hc => ?_)
            · have hf := sf_bp hf hc
              exact hk _ _ _ _ (hP.sub [0, 1, 2, 3, 4, 5, 6, 7, 8, 9, 10] rfl) hS (lv_sub hl [1, 2, 3, 4, 5, 6] rfl) hf
            · have hf := sf_bn hf hc
              refine lv_iload hx hb dL_isOpen_30 (lv_at hl 2 rfl) ?_
              refine sf_jo (J := fun (k_8 : Int32 → Option Int32) => ∀ (v_7 : Int32) (H : Heap) (locs : List Loc) (ls : Array Slot), va_P D cls [(h0, .inr (9, [.ref h1, .ref h21, .int xi, .ref h41, .ref h43, .ref h46, .ref h49, .int xe, .int xf])), (h1, .inr (6, [.int on, .int ot, .int op, .int os, .ref h2, .ref h6, .ref h9, .ref h14, .ref h17])), (h2, .inr (8, [.int sc, .ref h3, .ref h4, .ref h5])), (h3, .inl (dA 0, 4, .inl sd)), (h4, .inl (dA 0, 4, .inl sp)), (h5, .inl (dA 0, 4, .inl sw)), (h9, .inr (0, [.int bc, .ref h10, .ref h11, .ref h12, .ref h13])), (h10, .inl (dA 0, 12, .inl bg)), (h11, .inl (dA 0, 12, .inl bs)), (h12, .inl (dA 0, 12, .inl bt)), (h13, .inl (dA 0, 12, .inl be))] H → va_S noA s.heap H locs → lv_has ls 7 [(6, .int v_4), (5, .int v_1), (0, .ref h0), (1, .int p1), (2, .int p2), (3, .int p3)] → k_8 v_7 = some rr → W p l e ({ frames := 5, cells := 0, slots := 0, locals := 106 } : Room) s m ([.ref h0, .int p1, .int p2, .int p3] : List Value).toArray below meth c H locs 0 0 (MQ below (poPi rr) ([.ref h0, .int p1, .int p2, .int p3] : List Value).toArray s 0 0 noA) (F0 m 71 ls [.int v_7])) hf (fun v_7 H locs ls hP hS hl hf => ?_) (fun k_8 hJ8 hf => ?_)
              · skip
                refine lv_istore (lv' := [(4, .int v_7), (6, .int v_4), (5, .int v_1), (0, .ref h0), (1, .int p1), (2, .int p2), (3, .int p3)]) hx hb dL_isOpen_71 hl (by decide) rfl (fun ls hl => ?_)
                obtain ⟨x_9, ex_9, hf⟩ := sf_ne hf
                refine ii_nc (lv' := [(6, .int x_9), (4, .int v_7), (5, .int v_1), (0, .ref h0), (1, .int p1), (2, .int p2), (3, .int p3)]) (k := 1) hx hb dL_isOpen_73 hl rfl ex_9 (by decide) (by decide) rfl (fun ls hl => ?_)
                refine lv_goto (tgt := 21) hx hb dL_isOpen_76 (by decide) ?_
                exact ih _ _ _ _ _ (hP.sub [0, 1, 2, 3, 4, 5, 6, 7, 8, 9, 10] rfl) hS (lv_sub hl [0, 2, 1, 3, 4, 5, 6] rfl) hf hk
              refine lv_if_eq (tgt := 70) hx hb dL_isOpen_32 (by decide) (fun hc => ?_) (fun hc => ?_)
              · have hf := sf_bp hf hc
                refine lv_iconst (v := 0) hx hb dL_isOpen_70 (by decide) ?_
                exact hJ8 _ _ _ _ (hP.sub [0, 1, 2, 3, 4, 5, 6, 7, 8, 9, 10] rfl) hS (lv_sub hl [0, 1, 3, 4, 5, 6] rfl) hf
              · have hf := sf_bn hf hc
                refine lv_aload_n hx hb dL_isOpen_35 rfl (lv_at hl 3 rfl) ?_
                refine lv_iload hx hb dL_isOpen_36 (lv_at hl 0 rfl) ?_
                refine lv_iload hx hb dL_isOpen_38 (lv_at hl 1 rfl) ?_
                obtain ⟨r_10, hc10, hf⟩ := sf_c1e hf
                refine k_Pi (run_YS (As := [.ref h0, .int v_4, .int v_1]) (rest := []) ⟨hx, hb, hml, hown, ha⟩ (c_L_isAt l D dA cA h0 h1 h2 h3 h4 h5 h6 h9 h10 h11 h12 h13 h14 h17 h21 h41 h43 h46 h49   on ot op os sc sd sp sw bc bg bs bt be xi xe xf v_4 v_1 _ hc10) (gi_S2 m_782 m_783 m_30 m_784) (yd_L_isAt).2 ⟨Nat.le_of_ble_eq_true rfl, Nat.le_of_ble_eq_true rfl⟩ ⟨rfl, rfl⟩ hK hX hS hP [0, 1, 2, 3, 4, 5, 6, 7, 8, 9, 10] rfl rfl hl.1 rfl (Nat.le_of_ble_eq_true rfl) dL_isOpen_40 ⟨Nat.le_of_ble_eq_true rfl, Nat.le_of_ble_eq_true rfl⟩) hP hS (fun H locs hP hS => ?_)
                refine lv_if_eq (tgt := 66) hx hb dL_isOpen_43 (by decide) (fun hc => ?_) (fun hc => ?_)
                · have hf := sf_bp hf hc
                  refine lv_iconst (v := 1) hx hb dL_isOpen_66 (by decide) ?_
                  refine lv_goto (tgt := 71) hx hb dL_isOpen_67 (by decide) ?_
                  exact hJ8 _ _ _ _ (hP.sub [0, 1, 2, 3, 4, 5, 6, 7, 8, 9, 10] rfl) hS (lv_sub hl [0, 1, 3, 4, 5, 6] rfl) hf
                · have hf := sf_bn hf hc
                  refine lv_aload_n hx hb dL_isOpen_46 rfl (lv_at hl 3 rfl) ?_
                  refine lv_iload hx hb dL_isOpen_47 (lv_at hl 0 rfl) ?_
                  obtain ⟨r_11, hc11, hf⟩ := sf_c1e hf
                  refine k_Pi (run_YV (As := [.int v_4]) (rest := []) ⟨hx, hb, hml, hown, ha⟩ (c_X11_bookedSlide l D dA cA h0 h1 h2 h6 h9 h10 h11 h12 h13 h14 h17 h21 h41 h43 h46 h49   on ot op os bc bg bs bt be xi xe xf v_4 _ hc11) (gi_V m_748 m_749 m_750 m_31 m_751) yd_X11_bookedSlide ⟨Nat.le_of_ble_eq_true rfl, Nat.le_of_ble_eq_true rfl⟩ ⟨rfl, rfl⟩ hK hX hS hP [0, 1, 6, 7, 8, 9, 10] rfl (va_recv hK hP (q0 := 0) rfl rfl) rfl hl.1 rfl (Nat.le_of_ble_eq_true rfl) dL_isOpen_49 ⟨Nat.le_of_ble_eq_true rfl, Nat.le_of_ble_eq_true rfl⟩) hP hS (fun H locs hP hS => ?_)
                  refine lv_iload_n hx hb dL_isOpen_52 rfl (lv_at hl 5 rfl) ?_
                  refine lv_icmp_eq (tgt := 70) hx hb dL_isOpen_53 (by decide) (fun hc => ?_) (fun hc => ?_)
                  · have hf := sf_bp hf hc
                    refine lv_iconst (v := 0) hx hb dL_isOpen_70 (by decide) ?_
                    exact hJ8 _ _ _ _ (hP.sub [0, 1, 2, 3, 4, 5, 6, 7, 8, 9, 10] rfl) hS (lv_sub hl [0, 1, 3, 4, 5, 6] rfl) hf
                  · have hf := sf_bn hf hc
                    refine lv_aload_n hx hb dL_isOpen_56 rfl (lv_at hl 3 rfl) ?_
                    refine lv_iload hx hb dL_isOpen_57 (lv_at hl 0 rfl) ?_
                    obtain ⟨r_12, hc12, hf⟩ := sf_c1e hf
                    refine k_Pi (run_YV (As := [.int v_4]) (rest := []) ⟨hx, hb, hml, hown, ha⟩ (c_X11_bookedGuest l D dA cA h0 h1 h2 h6 h9 h10 h11 h12 h13 h14 h17 h21 h41 h43 h46 h49   on ot op os bc bg bs bt be xi xe xf v_4 _ hc12) (gi_V m_761 m_762 m_763 m_31 m_764) yd_X11_bookedGuest ⟨Nat.le_of_ble_eq_true rfl, Nat.le_of_ble_eq_true rfl⟩ ⟨rfl, rfl⟩ hK hX hS hP [0, 1, 6, 7, 8, 9, 10] rfl (va_recv hK hP (q0 := 0) rfl rfl) rfl hl.1 rfl (Nat.le_of_ble_eq_true rfl) dL_isOpen_59 ⟨Nat.le_of_ble_eq_true rfl, Nat.le_of_ble_eq_true rfl⟩) hP hS (fun H locs hP hS => ?_)
                    refine lv_iload_n hx hb dL_isOpen_62 rfl (lv_at hl 4 rfl) ?_
                    refine lv_icmp_eq (tgt := 70) hx hb dL_isOpen_63 (by decide) (fun hc => ?_) (fun hc => ?_)
                    · have hf := sf_bp hf hc
                      refine lv_iconst (v := 0) hx hb dL_isOpen_70 (by decide) ?_
                      exact hJ8 _ _ _ _ (hP.sub [0, 1, 2, 3, 4, 5, 6, 7, 8, 9, 10] rfl) hS (lv_sub hl [0, 1, 3, 4, 5, 6] rfl) hf
                    · have hf := sf_bn hf hc
                      refine lv_iconst (v := 1) hx hb dL_isOpen_66 (by decide) ?_
                      refine lv_goto (tgt := 71) hx hb dL_isOpen_67 (by decide) ?_
                      exact hJ8 _ _ _ _ (hP.sub [0, 1, 2, 3, 4, 5, 6, 7, 8, 9, 10] rfl) hS (lv_sub hl [0, 1, 3, 4, 5, 6] rfl) hf
        refine hL21_13 2000 _ _ _ _ _ _ hP hS (lv_sub hl [0, 1, 2, 3, 4, 5, 6] rfl) hf (fun y_13 H locs ls hP hS hl hf => ?_)
        obtain ⟨x_14, ex_14, hf⟩ := sf_ne hf
        refine ii_nc (lv' := [(5, .int x_14), (4, .int y_13), (0, .ref h0), (1, .int p1), (2, .int p2), (3, .int p3)]) (k := 0) hx hb dL_isOpen_79 hl rfl ex_14 (by decide) (by decide) rfl (fun ls hl => ?_)
        refine lv_goto (tgt := 6) hx hb dL_isOpen_82 (by decide) ?_
        exact ih _ _ _ _ _ (hP.sub [0, 1, 2, 3, 4, 5, 6, 7, 8, 9, 10] rfl) hS (lv_sub hl [0, 1, 2, 3, 4, 5] rfl) hf hk
  refine hL6_15 2000 _ _ _ _ _ _ hP hS (lv_sub hl [0, 1, 2, 3, 4, 5] rfl) hf (fun y_15 H locs ls hP hS hl hf => ?_)
  refine lv_iload hx hb dL_isOpen_85 (lv_at hl 0 rfl) ?_
  obtain ⟨hz, hf⟩ := sf_ge hf
  exact rt_Pz hx hb hr hlocks (Option.some.inj hf) (sf_z1 hz) hS dL_isOpen_87

def f_L_sum_L90 (sc : Int32) (ql : Nat → Int32) (qg : Nat → Int32) (v_8 : Int32) (k : Int64 → Option Int64) : Nat → Int32 → Int64 → Option Int64
  | 0, _, _ => none
  | n + 1, v_15, j_16 => sf_c1 (f_X11_queueLength sc ql v_8) (fun r_17 => sf_b (r_17 ≤ v_15) (k j_16) (sf_c1 (f_X11_queuedGuest sc ql qg v_8 v_15) (fun r_18 => sf_n ((((41 : Int64) * j_16) + r_18.toInt64)) (fun j_19 => sf_n (v_15 + (1 : Int32)) (fun x_20 => f_L_sum_L90 sc ql qg v_8 k n x_20 j_19)))))
def f_L_sum_L46 (sc : Int32) (sd : Nat → Int32) (sp : Nat → Int32) (sw : Nat → Int32) (ql : Nat → Int32) (qg : Nat → Int32) (k : Int64 → Option Int64) : Nat → Int32 → Int64 → Option Int64
  | 0, _, _ => none
  | n + 1, v_8, j_9 => sf_c1 (f_X11_slideCount sc) (fun r_10 => sf_b (r_10 ≤ v_8) (k j_9) (sf_c1 (f_X11_duration sc sd v_8) (fun r_11 => sf_c1 (f_X11_price sc sp v_8) (fun r_12 => sf_c1 (f_X11_wetness sc sw v_8) (fun r_13 => sf_n ((((((37 : Int64) * j_9) + ((100 : Int32) * r_11).toInt64) + ((10 : Int32) * r_12).toInt64) + r_13.toInt64)) (fun j_14 => f_L_sum_L90 sc ql qg v_8 (fun j_21 => sf_n (v_8 + (1 : Int32)) (fun x_22 => f_L_sum_L46 sc sd sp sw ql qg k n x_22 j_21)) 2000 (0 : Int32) j_14))))))
def f_L_sum_L129 (gc : Int32) (gp : Nat → Int32) (gr : Nat → Int32) (k : Int64 → Option Int64) : Nat → Int32 → Int64 → Option Int64
  | 0, _, _ => none
  | n + 1, v_24, j_25 => sf_c1 (f_X11_guestCount gc) (fun r_26 => sf_b (r_26 ≤ v_24) (k j_25) (sf_c1 (f_X11_rides gc gr v_24) (fun r_27 => sf_c1 (f_X11_coins gc gp v_24) (fun r_28 => sf_n (((((43 : Int64) * j_25) + ((100 : Int32) * r_27).toInt64) + r_28.toInt64)) (fun j_29 => sf_n (v_24 + (1 : Int32)) (fun x_30 => f_L_sum_L129 gc gp gr k n x_30 j_29))))))
def f_L_sum_L168 (bc : Int32) (bg : Nat → Int32) (bs : Nat → Int32) (bt : Nat → Int32) (k : Int64 → Option Int64) : Nat → Int32 → Int64 → Option Int64
  | 0, _, _ => none
  | n + 1, v_32, j_33 => sf_c1 (f_X11_bookingCount bc) (fun r_34 => sf_b (r_34 ≤ v_32) (k j_33) (sf_c1 (f_X11_bookedGuest bc bg v_32) (fun r_35 => sf_c1 (f_X11_bookedSlide bc bs v_32) (fun r_36 => sf_n (((((47 : Int64) * j_33) + ((10 : Int32) * r_35).toInt64) + r_36.toInt64)) (fun j_37 => sf_c1 (f_X11_start bc bt v_32) (fun r_38 => sf_n ((((53 : Int64) * j_37) + r_38.toInt64)) (fun j_39 => sf_n (v_32 + (1 : Int32)) (fun x_40 => f_L_sum_L168 bc bg bs bt k n x_40 j_39))))))))
def f_L_sum_L220 (fc : Int32) (fg : Nat → Int32) (fs : Nat → Int32) (fm : Nat → Int32) (k : Int64 → Option Int64) : Nat → Int32 → Int64 → Option Int64
  | 0, _, _ => none
  | n + 1, v_42, j_43 => sf_c1 (f_X11_finishCount fc) (fun r_44 => sf_b (r_44 ≤ v_42) (k j_43) (sf_c1 (f_X11_finishMinute fc fm v_42) (fun r_45 => sf_c1 (f_X11_finishedSlide fc fs v_42) (fun r_46 => sf_c1 (f_X11_finishedGuest fc fg v_42) (fun r_47 => sf_n ((((((59 : Int64) * j_43) + ((100 : Int32) * r_45).toInt64) + ((10 : Int32) * r_46).toInt64) + r_47.toInt64)) (fun j_48 => sf_n (v_42 + (1 : Int32)) (fun x_49 => f_L_sum_L220 fc fg fs fm k n x_49 j_48)))))))
def f_L_sum (on : Int32) (ot : Int32) (op : Int32) (os : Int32) (sc : Int32) (sd : Nat → Int32) (sp : Nat → Int32) (sw : Nat → Int32) (gc : Int32) (gp : Nat → Int32) (gr : Nat → Int32) (bc : Int32) (bg : Nat → Int32) (bs : Nat → Int32) (bt : Nat → Int32) (ql : Nat → Int32) (qg : Nat → Int32) (fc : Int32) (fg : Nat → Int32) (fs : Nat → Int32) (fm : Nat → Int32) : Option Int64 :=
  sf_c1 (f_X11_minute on) (fun r_1 => sf_n (((7 : Int64) + r_1.toInt64)) (fun j_2 => sf_c1 (f_X11_splashes os) (fun r_3 => sf_c1 (f_X11_refundedCoins op) (fun r_4 => sf_n (((((31 : Int64) * j_2) + ((1000 : Int32) * r_3).toInt64) + r_4.toInt64)) (fun j_5 => sf_c1 (f_X11_officeCoins ot) (fun r_6 => sf_n ((((31 : Int64) * j_5) + r_6.toInt64)) (fun j_7 => f_L_sum_L46 sc sd sp sw ql qg (fun j_23 => f_L_sum_L129 gc gp gr (fun j_31 => f_L_sum_L168 bc bg bs bt (fun j_41 => f_L_sum_L220 fc fg fs fm (fun j_50 => some j_50) 2000 (0 : Int32) j_41) 2000 (0 : Int32) j_31) 2000 (0 : Int32) j_23) 2000 (0 : Int32) j_7)))))))
theorem yd_L_sum : yL_sum.cls = RL ∧ yL_sum.cls ≠ "java/lang/invoke/MethodHandle" ∧ yL_sum.cls ≠ "java/lang/invoke/VarHandle" ∧ (parseMethodDescriptor yL_sum.desc).map (fun d => d.parameters.length) = some 1 := ⟨rfl, by decide, by decide, by decide +kernel⟩
set_option maxRecDepth 100000 in
set_option maxHeartbeats 8000000 in
theorem c_L_sum (l : Launch) (D : va_G) (dA : Nat → ClassId) (cA : Nat → Nat) (h0 h1 h2 h3 h4 h5 h6 h7 h8 h9 h10 h11 h12 h13 h14 h15 h16 h17 h18 h19 h20 h21 h41 h43 h46 h49 : Nat) (on : Int32) (ot : Int32) (op : Int32) (os : Int32) (sc : Int32) (sd : Nat → Int32) (sp : Nat → Int32) (sw : Nat → Int32) (gc : Int32) (gp : Nat → Int32) (gr : Nat → Int32) (bc : Int32) (bg : Nat → Int32) (bs : Nat → Int32) (bt : Nat → Int32) (be : Nat → Int32) (ql : Nat → Int32) (qg : Nat → Int32) (fc : Int32) (fg : Nat → Int32) (fs : Nat → Int32) (fm : Nat → Int32) (xi : Int32) (xe : Int32) (xf : Int32) (rr : Int64) (hf : f_L_sum on ot op os sc sd sp sw gc gp gr bc bg bs bt ql qg fc fg fs fm = some rr) : Met l yL_sum (wo (.code yL_sum cL_sum 5 (some .long))) ({ frames := 3, cells := 0, slots := 0, locals := 64 } : Room) (preY D dA cA [.ref h0] [(h0, .inr (9, [.ref h1, .ref h21, .int xi, .ref h41, .ref h43, .ref h46, .ref h49, .int xe, .int xf])), (h1, .inr (6, [.int on, .int ot, .int op, .int os, .ref h2, .ref h6, .ref h9, .ref h14, .ref h17])), (h2, .inr (8, [.int sc, .ref h3, .ref h4, .ref h5])), (h3, .inl (dA 0, 4, .inl sd)), (h4, .inl (dA 0, 4, .inl sp)), (h5, .inl (dA 0, 4, .inl sw)), (h6, .inr (4, [.int gc, .ref h7, .ref h8])), (h7, .inl (dA 0, 10, .inl gp)), (h8, .inl (dA 0, 10, .inl gr)), (h9, .inr (0, [.int bc, .ref h10, .ref h11, .ref h12, .ref h13])), (h10, .inl (dA 0, 12, .inl bg)), (h11, .inl (dA 0, 12, .inl bs)), (h12, .inl (dA 0, 12, .inl bt)), (h13, .inl (dA 0, 12, .inl be)), (h14, .inr (7, [.ref h15, .ref h16])), (h15, .inl (dA 0, 4, .inl ql)), (h16, .inl (dA 0, 20, .inl qg)), (h17, .inr (3, [.int fc, .ref h18, .ref h19, .ref h20])), (h18, .inl (dA 0, 16, .inl fg)), (h19, .inl (dA 0, 16, .inl fs)), (h20, .inl (dA 0, 16, .inl fm))]) (poPl rr) 0 0 noA := by
  refine of_Y (y := yL_sum) (cc := cL_sum) (maxL := 5) (ret := (some .long)) (av := [.ref h0]) (ws := [(h0, .inr (9, [.ref h1, .ref h21, .int xi, .ref h41, .ref h43, .ref h46, .ref h49, .int xe, .int xf])), (h1, .inr (6, [.int on, .int ot, .int op, .int os, .ref h2, .ref h6, .ref h9, .ref h14, .ref h17])), (h2, .inr (8, [.int sc, .ref h3, .ref h4, .ref h5])), (h3, .inl (dA 0, 4, .inl sd)), (h4, .inl (dA 0, 4, .inl sp)), (h5, .inl (dA 0, 4, .inl sw)), (h6, .inr (4, [.int gc, .ref h7, .ref h8])), (h7, .inl (dA 0, 10, .inl gp)), (h8, .inl (dA 0, 10, .inl gr)), (h9, .inr (0, [.int bc, .ref h10, .ref h11, .ref h12, .ref h13])), (h10, .inl (dA 0, 12, .inl bg)), (h11, .inl (dA 0, 12, .inl bs)), (h12, .inl (dA 0, 12, .inl bt)), (h13, .inl (dA 0, 12, .inl be)), (h14, .inr (7, [.ref h15, .ref h16])), (h15, .inl (dA 0, 4, .inl ql)), (h16, .inl (dA 0, 20, .inl qg)), (h17, .inr (3, [.int fc, .ref h18, .ref h19, .ref h20])), (h18, .inl (dA 0, 16, .inl fg)), (h19, .inl (dA 0, 16, .inl fs)), (h20, .inl (dA 0, 16, .inl fm))]) (own := RL) (by decide) rfl (Nat.le_of_ble_eq_true rfl) ?_
  intro p e s m below meth c hx hb hr ha hown hml hlocks hP hK hX hS ls hl
  have hC := hX.1
  have hl : lv_has ls 5 [(0, .ref h0)] := hl
  rw [f_L_sum] at hf
  refine lv_ldc2 (v := 7) hx hb hown (ha _ m_1483) dL_sum_0 ?_
  refine lv_aload_n hx hb dL_sum_3 rfl (lv_at hl 0 rfl) ?_
  obtain ⟨r_1, hc1, hf⟩ := sf_c1e hf
  refine k_Pi (run_YV (As := []) (rest := [.long (7 : Int64)]) ⟨hx, hb, hml, hown, ha⟩ (c_X11_minute l D dA cA h0 h1 h2 h6 h9 h14 h17 h21 h41 h43 h46 h49   on ot op os xi xe xf  _ hc1) (gi_V m_581 m_582 m_583 m_31 m_584) yd_X11_minute ⟨Nat.le_of_ble_eq_true rfl, Nat.le_of_ble_eq_true rfl⟩ ⟨rfl, rfl⟩ hK hX hS hP [0, 1] rfl (va_recv hK hP (q0 := 0) rfl rfl) rfl hl.1 rfl (Nat.le_of_ble_eq_true rfl) dL_sum_4 ⟨Nat.le_of_ble_eq_true rfl, Nat.le_of_ble_eq_true rfl⟩) hP hS (fun H locs hP hS => ?_)
  refine lv_i2l hx hb dL_sum_7 rfl ?_
  refine lv_ladd hx hb dL_sum_8 ?_
  obtain ⟨j_2, ej_2, hf⟩ := sf_ne hf
  refine tp_l ej_2 ?_
  refine lv_lstore_n (lv' := [(1, .long j_2), (0, .ref h0)]) hx hb dL_sum_9 rfl hl (by decide) rfl (fun ls hl => ?_)
  refine lv_ldc2 (v := 31) hx hb hown (ha _ m_1484) dL_sum_10 ?_
  refine lv_lload_n hx hb dL_sum_13 rfl (lv_at hl 0 rfl) ?_
  refine lv_lmul hx hb dL_sum_14 ?_
  refine lv_sipush (v := 1000) hx hb dL_sum_15 (by decide) ?_
  refine lv_aload_n hx hb dL_sum_18 rfl (lv_at hl 1 rfl) ?_
  obtain ⟨r_3, hc3, hf⟩ := sf_c1e hf
  refine k_Pi (run_YV (As := []) (rest := [.int (1000 : Int32), .long ((31 : Int64) * j_2)]) ⟨hx, hb, hml, hown, ha⟩ (c_X11_splashes l D dA cA h0 h1 h2 h6 h9 h14 h17 h21 h41 h43 h46 h49   on ot op os xi xe xf  _ hc3) (gi_V m_1485 m_1486 m_1487 m_31 m_1488) yd_X11_splashes ⟨Nat.le_of_ble_eq_true rfl, Nat.le_of_ble_eq_true rfl⟩ ⟨rfl, rfl⟩ hK hX hS hP [0, 1] rfl (va_recv hK hP (q0 := 0) rfl rfl) rfl hl.1 rfl (Nat.le_of_ble_eq_true rfl) dL_sum_19 ⟨Nat.le_of_ble_eq_true rfl, Nat.le_of_ble_eq_true rfl⟩) hP hS (fun H locs hP hS => ?_)
  refine lv_imul hx hb dL_sum_22 ?_
  refine lv_i2l hx hb dL_sum_23 rfl ?_
  refine lv_ladd hx hb dL_sum_24 ?_
  refine lv_aload_n hx hb dL_sum_25 rfl (lv_at hl 1 rfl) ?_
  obtain ⟨r_4, hc4, hf⟩ := sf_c1e hf
  refine k_Pi (run_YV (As := []) (rest := [.long (((31 : Int64) * j_2) + ((1000 : Int32) * r_3).toInt64)]) ⟨hx, hb, hml, hown, ha⟩ (c_X11_refundedCoins l D dA cA h0 h1 h2 h6 h9 h14 h17 h21 h41 h43 h46 h49   on ot op os xi xe xf  _ hc4) (gi_V m_1489 m_1490 m_1491 m_31 m_1492) yd_X11_refundedCoins ⟨Nat.le_of_ble_eq_true rfl, Nat.le_of_ble_eq_true rfl⟩ ⟨rfl, rfl⟩ hK hX hS hP [0, 1] rfl (va_recv hK hP (q0 := 0) rfl rfl) rfl hl.1 rfl (Nat.le_of_ble_eq_true rfl) dL_sum_26 ⟨Nat.le_of_ble_eq_true rfl, Nat.le_of_ble_eq_true rfl⟩) hP hS (fun H locs hP hS => ?_)
  refine lv_i2l hx hb dL_sum_29 rfl ?_
  refine lv_ladd hx hb dL_sum_30 ?_
  obtain ⟨j_5, ej_5, hf⟩ := sf_ne hf
  refine tp_l ej_5 ?_
  refine lv_lstore_n (lv' := [(1, .long j_5), (0, .ref h0)]) hx hb dL_sum_31 rfl hl (by decide) rfl (fun ls hl => ?_)
  refine lv_ldc2 (v := 31) hx hb hown (ha _ m_1484) dL_sum_32 ?_
  refine lv_lload_n hx hb dL_sum_35 rfl (lv_at hl 0 rfl) ?_
  refine lv_lmul hx hb dL_sum_36 ?_
  refine lv_aload_n hx hb dL_sum_37 rfl (lv_at hl 1 rfl) ?_
  obtain ⟨r_6, hc6, hf⟩ := sf_c1e hf
  refine k_Pi (run_YV (As := []) (rest := [.long ((31 : Int64) * j_5)]) ⟨hx, hb, hml, hown, ha⟩ (c_X11_officeCoins l D dA cA h0 h1 h2 h6 h9 h14 h17 h21 h41 h43 h46 h49   on ot op os xi xe xf  _ hc6) (gi_V m_1429 m_1430 m_1431 m_31 m_1432) yd_X11_officeCoins ⟨Nat.le_of_ble_eq_true rfl, Nat.le_of_ble_eq_true rfl⟩ ⟨rfl, rfl⟩ hK hX hS hP [0, 1] rfl (va_recv hK hP (q0 := 0) rfl rfl) rfl hl.1 rfl (Nat.le_of_ble_eq_true rfl) dL_sum_38 ⟨Nat.le_of_ble_eq_true rfl, Nat.le_of_ble_eq_true rfl⟩) hP hS (fun H locs hP hS => ?_)
  refine lv_i2l hx hb dL_sum_41 rfl ?_
  refine lv_ladd hx hb dL_sum_42 ?_
  obtain ⟨j_7, ej_7, hf⟩ := sf_ne hf
  refine tp_l ej_7 ?_
  refine lv_lstore_n (lv' := [(1, .long j_7), (0, .ref h0)]) hx hb dL_sum_43 rfl hl (by decide) rfl (fun ls hl => ?_)
  refine lv_iconst (v := 0) hx hb dL_sum_44 (by decide) ?_
  refine lv_istore_n (lv' := [(3, .int (0 : Int32)), (1, .long j_7), (0, .ref h0)]) hx hb dL_sum_45 rfl hl (by decide) rfl (fun ls hl => ?_)
  have hL46_23 : ∀ (n : Nat) (k : Int64 → Option Int64) (v_8 : Int32) (j_9 : Int64) (H : Heap) (locs : List Loc) (ls : Array Slot), va_P D cls [(h0, .inr (9, [.ref h1, .ref h21, .int xi, .ref h41, .ref h43, .ref h46, .ref h49, .int xe, .int xf])), (h1, .inr (6, [.int on, .int ot, .int op, .int os, .ref h2, .ref h6, .ref h9, .ref h14, .ref h17])), (h2, .inr (8, [.int sc, .ref h3, .ref h4, .ref h5])), (h3, .inl (dA 0, 4, .inl sd)), (h4, .inl (dA 0, 4, .inl sp)), (h5, .inl (dA 0, 4, .inl sw)), (h6, .inr (4, [.int gc, .ref h7, .ref h8])), (h7, .inl (dA 0, 10, .inl gp)), (h8, .inl (dA 0, 10, .inl gr)), (h9, .inr (0, [.int bc, .ref h10, .ref h11, .ref h12, .ref h13])), (h10, .inl (dA 0, 12, .inl bg)), (h11, .inl (dA 0, 12, .inl bs)), (h12, .inl (dA 0, 12, .inl bt)), (h13, .inl (dA 0, 12, .inl be)), (h14, .inr (7, [.ref h15, .ref h16])), (h15, .inl (dA 0, 4, .inl ql)), (h16, .inl (dA 0, 20, .inl qg)), (h17, .inr (3, [.int fc, .ref h18, .ref h19, .ref h20])), (h18, .inl (dA 0, 16, .inl fg)), (h19, .inl (dA 0, 16, .inl fs)), (h20, .inl (dA 0, 16, .inl fm))] H → va_S noA s.heap H locs → lv_has ls 5 [(3, .int v_8), (1, .long j_9), (0, .ref h0)] → f_L_sum_L46 sc sd sp sw ql qg k n v_8 j_9 = some rr → (∀ (j_23 : Int64) (H : Heap) (locs : List Loc) (ls : Array Slot), va_P D cls [(h0, .inr (9, [.ref h1, .ref h21, .int xi, .ref h41, .ref h43, .ref h46, .ref h49, .int xe, .int xf])), (h1, .inr (6, [.int on, .int ot, .int op, .int os, .ref h2, .ref h6, .ref h9, .ref h14, .ref h17])), (h2, .inr (8, [.int sc, .ref h3, .ref h4, .ref h5])), (h3, .inl (dA 0, 4, .inl sd)), (h4, .inl (dA 0, 4, .inl sp)), (h5, .inl (dA 0, 4, .inl sw)), (h6, .inr (4, [.int gc, .ref h7, .ref h8])), (h7, .inl (dA 0, 10, .inl gp)), (h8, .inl (dA 0, 10, .inl gr)), (h9, .inr (0, [.int bc, .ref h10, .ref h11, .ref h12, .ref h13])), (h10, .inl (dA 0, 12, .inl bg)), (h11, .inl (dA 0, 12, .inl bs)), (h12, .inl (dA 0, 12, .inl bt)), (h13, .inl (dA 0, 12, .inl be)), (h14, .inr (7, [.ref h15, .ref h16])), (h15, .inl (dA 0, 4, .inl ql)), (h16, .inl (dA 0, 20, .inl qg)), (h17, .inr (3, [.int fc, .ref h18, .ref h19, .ref h20])), (h18, .inl (dA 0, 16, .inl fg)), (h19, .inl (dA 0, 16, .inl fs)), (h20, .inl (dA 0, 16, .inl fm))] H → va_S noA s.heap H locs → lv_has ls 5 [(1, .long j_23), (0, .ref h0)] → k j_23 = some rr → W p l e ({ frames := 3, cells := 0, slots := 0, locals := 64 } : Room) s m ([.ref h0] : List Value).toArray below meth c H locs 0 0 (MQ below (poPl rr) ([.ref h0] : List Value).toArray s 0 0 noA) (F0 m 127 ls [])) → W p l e ({ frames := 3, cells := 0, slots := 0, locals := 64 } : Room) s m ([.ref h0] : List Value).toArray below meth c H locs 0 0 (MQ below (poPl rr) ([.ref h0] : List Value).toArray s 0 0 noA) (F0 m 46 ls []) := by
    intro n k
    induction n with
    | zero =>
      intro v_8 j_9 H locs ls hP hS hl hf hk
      rw [f_L_sum_L46] at hf
      cases hf
    | succ n ih =>
      intro v_8 j_9 H locs ls hP hS hl hf hk
      rw [f_L_sum_L46] at hf
      refine lv_iload_n hx hb dL_sum_46 rfl (lv_at hl 0 rfl) ?_
      refine lv_aload_n hx hb dL_sum_47 rfl (lv_at hl 2 rfl) ?_
      obtain ⟨r_10, hc10, hf⟩ := sf_c1e hf
      refine k_Pi (run_YV (As := []) (rest := [.int v_8]) ⟨hx, hb, hml, hown, ha⟩ (c_X11_slideCount l D dA cA h0 h1 h2 h3 h4 h5 h6 h9 h14 h17 h21 h41 h43 h46 h49   on ot op os sc xi xe xf  _ hc10) (gi_V m_904 m_905 m_906 m_31 m_907) yd_X11_slideCount ⟨Nat.le_of_ble_eq_true rfl, Nat.le_of_ble_eq_true rfl⟩ ⟨rfl, rfl⟩ hK hX hS hP [0, 1, 2] rfl (va_recv hK hP (q0 := 0) rfl rfl) rfl hl.1 rfl (Nat.le_of_ble_eq_true rfl) dL_sum_48 ⟨Nat.le_of_ble_eq_true rfl, Nat.le_of_ble_eq_true rfl⟩) hP hS (fun H locs hP hS => ?_)
      refine lv_icmp_ge (tgt := 127) hx hb dL_sum_51 (by decide) (fun hc => ?_) (fun hc => ?_)
      · have hf := sf_bp hf hc
        exact hk _ _ _ _ (hP.sub [0, 1, 2, 3, 4, 5, 6, 7, 8, 9, 10, 11, 12, 13, 14, 15, 16, 17, 18, 19, 20] rfl) hS (lv_sub hl [1, 2] rfl) hf
      · have hf := sf_bn hf hc
        refine lv_ldc2 (v := 37) hx hb hown (ha _ m_1493) dL_sum_54 ?_
        refine lv_lload_n hx hb dL_sum_57 rfl (lv_at hl 1 rfl) ?_
        refine lv_lmul hx hb dL_sum_58 ?_
        refine lv_bipush (v := 100) hx hb dL_sum_59 (by decide) ?_
        refine lv_aload_n hx hb dL_sum_61 rfl (lv_at hl 2 rfl) ?_
        refine lv_iload_n hx hb dL_sum_62 rfl (lv_at hl 0 rfl) ?_
        obtain ⟨r_11, hc11, hf⟩ := sf_c1e hf
        refine k_Pi (run_YV (As := [.int v_8]) (rest := [.int (100 : Int32), .long ((37 : Int64) * j_9)]) ⟨hx, hb, hml, hown, ha⟩ (c_X11_duration l D dA cA h0 h1 h2 h3 h4 h5 h6 h9 h14 h17 h21 h41 h43 h46 h49   on ot op os sc sd sp sw xi xe xf v_8 _ hc11) (gi_V m_772 m_773 m_774 m_31 m_775) yd_X11_duration ⟨Nat.le_of_ble_eq_true rfl, Nat.le_of_ble_eq_true rfl⟩ ⟨rfl, rfl⟩ hK hX hS hP [0, 1, 2, 3, 4, 5] rfl (va_recv hK hP (q0 := 0) rfl rfl) rfl hl.1 rfl (Nat.le_of_ble_eq_true rfl) dL_sum_63 ⟨Nat.le_of_ble_eq_true rfl, Nat.le_of_ble_eq_true rfl⟩) hP hS (fun H locs hP hS => ?_)
        refine lv_imul hx hb dL_sum_66 ?_
        refine lv_i2l hx hb dL_sum_67 rfl ?_
        refine lv_ladd hx hb dL_sum_68 ?_
        refine lv_bipush (v := 10) hx hb dL_sum_69 (by decide) ?_
        refine lv_aload_n hx hb dL_sum_71 rfl (lv_at hl 2 rfl) ?_
        refine lv_iload_n hx hb dL_sum_72 rfl (lv_at hl 0 rfl) ?_
        obtain ⟨r_12, hc12, hf⟩ := sf_c1e hf
        refine k_Pi (run_YV (As := [.int v_8]) (rest := [.int (10 : Int32), .long (((37 : Int64) * j_9) + ((100 : Int32) * r_11).toInt64)]) ⟨hx, hb, hml, hown, ha⟩ (c_X11_price l D dA cA h0 h1 h2 h3 h4 h5 h6 h9 h14 h17 h21 h41 h43 h46 h49   on ot op os sc sd sp sw xi xe xf v_8 _ hc12) (gi_V m_1125 m_1126 m_1127 m_31 m_1128) yd_X11_price ⟨Nat.le_of_ble_eq_true rfl, Nat.le_of_ble_eq_true rfl⟩ ⟨rfl, rfl⟩ hK hX hS hP [0, 1, 2, 3, 4, 5] rfl (va_recv hK hP (q0 := 0) rfl rfl) rfl hl.1 rfl (Nat.le_of_ble_eq_true rfl) dL_sum_73 ⟨Nat.le_of_ble_eq_true rfl, Nat.le_of_ble_eq_true rfl⟩) hP hS (fun H locs hP hS => ?_)
        refine lv_imul hx hb dL_sum_76 ?_
        refine lv_i2l hx hb dL_sum_77 rfl ?_
        refine lv_ladd hx hb dL_sum_78 ?_
        refine lv_aload_n hx hb dL_sum_79 rfl (lv_at hl 2 rfl) ?_
        refine lv_iload_n hx hb dL_sum_80 rfl (lv_at hl 0 rfl) ?_
        obtain ⟨r_13, hc13, hf⟩ := sf_c1e hf
        refine k_Pi (run_YV (As := [.int v_8]) (rest := [.long ((((37 : Int64) * j_9) + ((100 : Int32) * r_11).toInt64) + ((10 : Int32) * r_12).toInt64)]) ⟨hx, hb, hml, hown, ha⟩ (c_X11_wetness l D dA cA h0 h1 h2 h3 h4 h5 h6 h9 h14 h17 h21 h41 h43 h46 h49   on ot op os sc sd sp sw xi xe xf v_8 _ hc13) (gi_V m_923 m_924 m_925 m_31 m_926) yd_X11_wetness ⟨Nat.le_of_ble_eq_true rfl, Nat.le_of_ble_eq_true rfl⟩ ⟨rfl, rfl⟩ hK hX hS hP [0, 1, 2, 3, 4, 5] rfl (va_recv hK hP (q0 := 0) rfl rfl) rfl hl.1 rfl (Nat.le_of_ble_eq_true rfl) dL_sum_81 ⟨Nat.le_of_ble_eq_true rfl, Nat.le_of_ble_eq_true rfl⟩) hP hS (fun H locs hP hS => ?_)
        refine lv_i2l hx hb dL_sum_84 rfl ?_
        refine lv_ladd hx hb dL_sum_85 ?_
        obtain ⟨j_14, ej_14, hf⟩ := sf_ne hf
        refine tp_l ej_14 ?_
        refine lv_lstore_n (lv' := [(1, .long j_14), (3, .int v_8), (0, .ref h0)]) hx hb dL_sum_86 rfl hl (by decide) rfl (fun ls hl => ?_)
        refine lv_iconst (v := 0) hx hb dL_sum_87 (by decide) ?_
        refine lv_istore (lv' := [(4, .int (0 : Int32)), (1, .long j_14), (3, .int v_8), (0, .ref h0)]) hx hb dL_sum_88 hl (by decide) rfl (fun ls hl => ?_)
        have hL90_21 : ∀ (n : Nat) (k : Int64 → Option Int64) (v_15 : Int32) (j_16 : Int64) (H : Heap) (locs : List Loc) (ls : Array Slot), va_P D cls [(h0, .inr (9, [.ref h1, .ref h21, .int xi, .ref h41, .ref h43, .ref h46, .ref h49, .int xe, .int xf])), (h1, .inr (6, [.int on, .int ot, .int op, .int os, .ref h2, .ref h6, .ref h9, .ref h14, .ref h17])), (h2, .inr (8, [.int sc, .ref h3, .ref h4, .ref h5])), (h3, .inl (dA 0, 4, .inl sd)), (h4, .inl (dA 0, 4, .inl sp)), (h5, .inl (dA 0, 4, .inl sw)), (h6, .inr (4, [.int gc, .ref h7, .ref h8])), (h7, .inl (dA 0, 10, .inl gp)), (h8, .inl (dA 0, 10, .inl gr)), (h9, .inr (0, [.int bc, .ref h10, .ref h11, .ref h12, .ref h13])), (h10, .inl (dA 0, 12, .inl bg)), (h11, .inl (dA 0, 12, .inl bs)), (h12, .inl (dA 0, 12, .inl bt)), (h13, .inl (dA 0, 12, .inl be)), (h14, .inr (7, [.ref h15, .ref h16])), (h15, .inl (dA 0, 4, .inl ql)), (h16, .inl (dA 0, 20, .inl qg)), (h17, .inr (3, [.int fc, .ref h18, .ref h19, .ref h20])), (h18, .inl (dA 0, 16, .inl fg)), (h19, .inl (dA 0, 16, .inl fs)), (h20, .inl (dA 0, 16, .inl fm))] H → va_S noA s.heap H locs → lv_has ls 5 [(4, .int v_15), (1, .long j_16), (3, .int v_8), (0, .ref h0)] → f_L_sum_L90 sc ql qg v_8 k n v_15 j_16 = some rr → (∀ (j_21 : Int64) (H : Heap) (locs : List Loc) (ls : Array Slot), va_P D cls [(h0, .inr (9, [.ref h1, .ref h21, .int xi, .ref h41, .ref h43, .ref h46, .ref h49, .int xe, .int xf])), (h1, .inr (6, [.int on, .int ot, .int op, .int os, .ref h2, .ref h6, .ref h9, .ref h14, .ref h17])), (h2, .inr (8, [.int sc, .ref h3, .ref h4, .ref h5])), (h3, .inl (dA 0, 4, .inl sd)), (h4, .inl (dA 0, 4, .inl sp)), (h5, .inl (dA 0, 4, .inl sw)), (h6, .inr (4, [.int gc, .ref h7, .ref h8])), (h7, .inl (dA 0, 10, .inl gp)), (h8, .inl (dA 0, 10, .inl gr)), (h9, .inr (0, [.int bc, .ref h10, .ref h11, .ref h12, .ref h13])), (h10, .inl (dA 0, 12, .inl bg)), (h11, .inl (dA 0, 12, .inl bs)), (h12, .inl (dA 0, 12, .inl bt)), (h13, .inl (dA 0, 12, .inl be)), (h14, .inr (7, [.ref h15, .ref h16])), (h15, .inl (dA 0, 4, .inl ql)), (h16, .inl (dA 0, 20, .inl qg)), (h17, .inr (3, [.int fc, .ref h18, .ref h19, .ref h20])), (h18, .inl (dA 0, 16, .inl fg)), (h19, .inl (dA 0, 16, .inl fs)), (h20, .inl (dA 0, 16, .inl fm))] H → va_S noA s.heap H locs → lv_has ls 5 [(1, .long j_21), (3, .int v_8), (0, .ref h0)] → k j_21 = some rr → W p l e ({ frames := 3, cells := 0, slots := 0, locals := 64 } : Room) s m ([.ref h0] : List Value).toArray below meth c H locs 0 0 (MQ below (poPl rr) ([.ref h0] : List Value).toArray s 0 0 noA) (F0 m 121 ls [])) → W p l e ({ frames := 3, cells := 0, slots := 0, locals := 64 } : Room) s m ([.ref h0] : List Value).toArray below meth c H locs 0 0 (MQ below (poPl rr) ([.ref h0] : List Value).toArray s 0 0 noA) (F0 m 90 ls []) := by
          intro n k
          induction n with
          | zero =>
            intro v_15 j_16 H locs ls hP hS hl hf hk
            rw [f_L_sum_L90] at hf
            cases hf
          | succ n ih =>
            intro v_15 j_16 H locs ls hP hS hl hf hk
            rw [f_L_sum_L90] at hf
            refine lv_iload hx hb dL_sum_90 (lv_at hl 0 rfl) ?_
            refine lv_aload_n hx hb dL_sum_92 rfl (lv_at hl 3 rfl) ?_
            refine lv_iload_n hx hb dL_sum_93 rfl (lv_at hl 2 rfl) ?_
            obtain ⟨r_17, hc17, hf⟩ := sf_c1e hf
            refine k_Pi (run_YV (As := [.int v_8]) (rest := [.int v_15]) ⟨hx, hb, hml, hown, ha⟩ (c_X11_queueLength l D dA cA h0 h1 h2 h3 h4 h5 h6 h9 h14 h15 h16 h17 h21 h41 h43 h46 h49   on ot op os sc sd sp sw ql xi xe xf v_8 _ hc17) (gi_V m_1336 m_1337 m_1338 m_31 m_1339) yd_X11_queueLength ⟨Nat.le_of_ble_eq_true rfl, Nat.le_of_ble_eq_true rfl⟩ ⟨rfl, rfl⟩ hK hX hS hP [0, 1, 2, 3, 4, 5, 14, 15] rfl (va_recv hK hP (q0 := 0) rfl rfl) rfl hl.1 rfl (Nat.le_of_ble_eq_true rfl) dL_sum_94 ⟨Nat.le_of_ble_eq_true rfl, Nat.le_of_ble_eq_true rfl⟩) hP hS (fun H locs hP hS => ?_)
            refine lv_icmp_ge (tgt := 121) hx hb dL_sum_97 (by decide) (fun hc => ?_) (fun hc => ?_)
            · have hf := sf_bp hf hc
              exact hk _ _ _ _ (hP.sub [0, 1, 2, 3, 4, 5, 6, 7, 8, 9, 10, 11, 12, 13, 14, 15, 16, 17, 18, 19, 20] rfl) hS (lv_sub hl [1, 2, 3] rfl) hf
            · have hf := sf_bn hf hc
              refine lv_ldc2 (v := 41) hx hb hown (ha _ m_1494) dL_sum_100 ?_
              refine lv_lload_n hx hb dL_sum_103 rfl (lv_at hl 1 rfl) ?_
              refine lv_lmul hx hb dL_sum_104 ?_
              refine lv_aload_n hx hb dL_sum_105 rfl (lv_at hl 3 rfl) ?_
              refine lv_iload_n hx hb dL_sum_106 rfl (lv_at hl 2 rfl) ?_
              refine lv_iload hx hb dL_sum_107 (lv_at hl 0 rfl) ?_
              obtain ⟨r_18, hc18, hf⟩ := sf_c1e hf
              refine k_Pi (run_YV (As := [.int v_8, .int v_15]) (rest := [.long ((41 : Int64) * j_16)]) ⟨hx, hb, hml, hown, ha⟩ (c_X11_queuedGuest l D dA cA h0 h1 h2 h3 h4 h5 h6 h9 h14 h15 h16 h17 h21 h41 h43 h46 h49   on ot op os sc sd sp sw ql qg xi xe xf v_8 v_15 _ hc18) (gi_V m_1343 m_1344 m_1345 m_31 m_1346) yd_X11_queuedGuest ⟨Nat.le_of_ble_eq_true rfl, Nat.le_of_ble_eq_true rfl⟩ ⟨rfl, rfl⟩ hK hX hS hP [0, 1, 2, 3, 4, 5, 14, 15, 16] rfl (va_recv hK hP (q0 := 0) rfl rfl) rfl hl.1 rfl (Nat.le_of_ble_eq_true rfl) dL_sum_109 ⟨Nat.le_of_ble_eq_true rfl, Nat.le_of_ble_eq_true rfl⟩) hP hS (fun H locs hP hS => ?_)
              refine lv_i2l hx hb dL_sum_112 rfl ?_
              refine lv_ladd hx hb dL_sum_113 ?_
              obtain ⟨j_19, ej_19, hf⟩ := sf_ne hf
              refine tp_l ej_19 ?_
              refine lv_lstore_n (lv' := [(1, .long j_19), (4, .int v_15), (3, .int v_8), (0, .ref h0)]) hx hb dL_sum_114 rfl hl (by decide) rfl (fun ls hl => ?_)
              obtain ⟨x_20, ex_20, hf⟩ := sf_ne hf
              refine ii_nc (lv' := [(4, .int x_20), (1, .long j_19), (3, .int v_8), (0, .ref h0)]) (k := 1) hx hb dL_sum_115 hl rfl ex_20 (by decide) (by decide) rfl (fun ls hl => ?_)
              refine lv_goto (tgt := 90) hx hb dL_sum_118 (by decide) ?_
              exact ih _ _ _ _ _ (hP.sub [0, 1, 2, 3, 4, 5, 6, 7, 8, 9, 10, 11, 12, 13, 14, 15, 16, 17, 18, 19, 20] rfl) hS (lv_sub hl [0, 1, 2, 3] rfl) hf hk
        refine hL90_21 2000 _ _ _ _ _ _ hP hS (lv_sub hl [0, 1, 2, 3] rfl) hf (fun j_21 H locs ls hP hS hl hf => ?_)
        obtain ⟨x_22, ex_22, hf⟩ := sf_ne hf
        refine ii_nc (lv' := [(3, .int x_22), (1, .long j_21), (0, .ref h0)]) (k := 1) hx hb dL_sum_121 hl rfl ex_22 (by decide) (by decide) rfl (fun ls hl => ?_)
        refine lv_goto (tgt := 46) hx hb dL_sum_124 (by decide) ?_
        exact ih _ _ _ _ _ (hP.sub [0, 1, 2, 3, 4, 5, 6, 7, 8, 9, 10, 11, 12, 13, 14, 15, 16, 17, 18, 19, 20] rfl) hS (lv_sub hl [0, 1, 2] rfl) hf hk
  refine hL46_23 2000 _ _ _ _ _ _ hP hS (lv_sub hl [0, 1, 2] rfl) hf (fun j_23 H locs ls hP hS hl hf => ?_)
  refine lv_iconst (v := 0) hx hb dL_sum_127 (by decide) ?_
  refine lv_istore_n (lv' := [(3, .int (0 : Int32)), (1, .long j_23), (0, .ref h0)]) hx hb dL_sum_128 rfl hl (by decide) rfl (fun ls hl => ?_)
  have hL129_31 : ∀ (n : Nat) (k : Int64 → Option Int64) (v_24 : Int32) (j_25 : Int64) (H : Heap) (locs : List Loc) (ls : Array Slot), va_P D cls [(h0, .inr (9, [.ref h1, .ref h21, .int xi, .ref h41, .ref h43, .ref h46, .ref h49, .int xe, .int xf])), (h1, .inr (6, [.int on, .int ot, .int op, .int os, .ref h2, .ref h6, .ref h9, .ref h14, .ref h17])), (h2, .inr (8, [.int sc, .ref h3, .ref h4, .ref h5])), (h3, .inl (dA 0, 4, .inl sd)), (h4, .inl (dA 0, 4, .inl sp)), (h5, .inl (dA 0, 4, .inl sw)), (h6, .inr (4, [.int gc, .ref h7, .ref h8])), (h7, .inl (dA 0, 10, .inl gp)), (h8, .inl (dA 0, 10, .inl gr)), (h9, .inr (0, [.int bc, .ref h10, .ref h11, .ref h12, .ref h13])), (h10, .inl (dA 0, 12, .inl bg)), (h11, .inl (dA 0, 12, .inl bs)), (h12, .inl (dA 0, 12, .inl bt)), (h13, .inl (dA 0, 12, .inl be)), (h14, .inr (7, [.ref h15, .ref h16])), (h15, .inl (dA 0, 4, .inl ql)), (h16, .inl (dA 0, 20, .inl qg)), (h17, .inr (3, [.int fc, .ref h18, .ref h19, .ref h20])), (h18, .inl (dA 0, 16, .inl fg)), (h19, .inl (dA 0, 16, .inl fs)), (h20, .inl (dA 0, 16, .inl fm))] H → va_S noA s.heap H locs → lv_has ls 5 [(3, .int v_24), (1, .long j_25), (0, .ref h0)] → f_L_sum_L129 gc gp gr k n v_24 j_25 = some rr → (∀ (j_31 : Int64) (H : Heap) (locs : List Loc) (ls : Array Slot), va_P D cls [(h0, .inr (9, [.ref h1, .ref h21, .int xi, .ref h41, .ref h43, .ref h46, .ref h49, .int xe, .int xf])), (h1, .inr (6, [.int on, .int ot, .int op, .int os, .ref h2, .ref h6, .ref h9, .ref h14, .ref h17])), (h2, .inr (8, [.int sc, .ref h3, .ref h4, .ref h5])), (h3, .inl (dA 0, 4, .inl sd)), (h4, .inl (dA 0, 4, .inl sp)), (h5, .inl (dA 0, 4, .inl sw)), (h6, .inr (4, [.int gc, .ref h7, .ref h8])), (h7, .inl (dA 0, 10, .inl gp)), (h8, .inl (dA 0, 10, .inl gr)), (h9, .inr (0, [.int bc, .ref h10, .ref h11, .ref h12, .ref h13])), (h10, .inl (dA 0, 12, .inl bg)), (h11, .inl (dA 0, 12, .inl bs)), (h12, .inl (dA 0, 12, .inl bt)), (h13, .inl (dA 0, 12, .inl be)), (h14, .inr (7, [.ref h15, .ref h16])), (h15, .inl (dA 0, 4, .inl ql)), (h16, .inl (dA 0, 20, .inl qg)), (h17, .inr (3, [.int fc, .ref h18, .ref h19, .ref h20])), (h18, .inl (dA 0, 16, .inl fg)), (h19, .inl (dA 0, 16, .inl fs)), (h20, .inl (dA 0, 16, .inl fm))] H → va_S noA s.heap H locs → lv_has ls 5 [(1, .long j_31), (0, .ref h0)] → k j_31 = some rr → W p l e ({ frames := 3, cells := 0, slots := 0, locals := 64 } : Room) s m ([.ref h0] : List Value).toArray below meth c H locs 0 0 (MQ below (poPl rr) ([.ref h0] : List Value).toArray s 0 0 noA) (F0 m 166 ls [])) → W p l e ({ frames := 3, cells := 0, slots := 0, locals := 64 } : Room) s m ([.ref h0] : List Value).toArray below meth c H locs 0 0 (MQ below (poPl rr) ([.ref h0] : List Value).toArray s 0 0 noA) (F0 m 129 ls []) := by
    intro n k
    induction n with
    | zero =>
      intro v_24 j_25 H locs ls hP hS hl hf hk
      rw [f_L_sum_L129] at hf
      cases hf
    | succ n ih =>
      intro v_24 j_25 H locs ls hP hS hl hf hk
      rw [f_L_sum_L129] at hf
      refine lv_iload_n hx hb dL_sum_129 rfl (lv_at hl 0 rfl) ?_
      refine lv_aload_n hx hb dL_sum_130 rfl (lv_at hl 2 rfl) ?_
      obtain ⟨r_26, hc26, hf⟩ := sf_c1e hf
      refine k_Pi (run_YV (As := []) (rest := [.int v_24]) ⟨hx, hb, hml, hown, ha⟩ (c_X11_guestCount l D dA cA h0 h1 h2 h6 h7 h8 h9 h14 h17 h21 h41 h43 h46 h49   on ot op os gc xi xe xf  _ hc26) (gi_V m_1396 m_1397 m_1398 m_31 m_1399) yd_X11_guestCount ⟨Nat.le_of_ble_eq_true rfl, Nat.le_of_ble_eq_true rfl⟩ ⟨rfl, rfl⟩ hK hX hS hP [0, 1, 6] rfl (va_recv hK hP (q0 := 0) rfl rfl) rfl hl.1 rfl (Nat.le_of_ble_eq_true rfl) dL_sum_131 ⟨Nat.le_of_ble_eq_true rfl, Nat.le_of_ble_eq_true rfl⟩) hP hS (fun H locs hP hS => ?_)
      refine lv_icmp_ge (tgt := 166) hx hb dL_sum_134 (by decide) (fun hc => ?_) (fun hc => ?_)
      · have hf := sf_bp hf hc
        exact hk _ _ _ _ (hP.sub [0, 1, 2, 3, 4, 5, 6, 7, 8, 9, 10, 11, 12, 13, 14, 15, 16, 17, 18, 19, 20] rfl) hS (lv_sub hl [1, 2] rfl) hf
      · have hf := sf_bn hf hc
        refine lv_ldc2 (v := 43) hx hb hown (ha _ m_1495) dL_sum_137 ?_
        refine lv_lload_n hx hb dL_sum_140 rfl (lv_at hl 1 rfl) ?_
        refine lv_lmul hx hb dL_sum_141 ?_
        refine lv_bipush (v := 100) hx hb dL_sum_142 (by decide) ?_
        refine lv_aload_n hx hb dL_sum_144 rfl (lv_at hl 2 rfl) ?_
        refine lv_iload_n hx hb dL_sum_145 rfl (lv_at hl 0 rfl) ?_
        obtain ⟨r_27, hc27, hf⟩ := sf_c1e hf
        refine k_Pi (run_YV (As := [.int v_24]) (rest := [.int (100 : Int32), .long ((43 : Int64) * j_25)]) ⟨hx, hb, hml, hown, ha⟩ (c_X11_rides l D dA cA h0 h1 h2 h6 h7 h8 h9 h14 h17 h21 h41 h43 h46 h49   on ot op os gc gp gr xi xe xf v_24 _ hc27) (gi_V m_1418 m_1419 m_1420 m_31 m_1421) yd_X11_rides ⟨Nat.le_of_ble_eq_true rfl, Nat.le_of_ble_eq_true rfl⟩ ⟨rfl, rfl⟩ hK hX hS hP [0, 1, 6, 7, 8] rfl (va_recv hK hP (q0 := 0) rfl rfl) rfl hl.1 rfl (Nat.le_of_ble_eq_true rfl) dL_sum_146 ⟨Nat.le_of_ble_eq_true rfl, Nat.le_of_ble_eq_true rfl⟩) hP hS (fun H locs hP hS => ?_)
        refine lv_imul hx hb dL_sum_149 ?_
        refine lv_i2l hx hb dL_sum_150 rfl ?_
        refine lv_ladd hx hb dL_sum_151 ?_
        refine lv_aload_n hx hb dL_sum_152 rfl (lv_at hl 2 rfl) ?_
        refine lv_iload_n hx hb dL_sum_153 rfl (lv_at hl 0 rfl) ?_
        obtain ⟨r_28, hc28, hf⟩ := sf_c1e hf
        refine k_Pi (run_YV (As := [.int v_24]) (rest := [.long (((43 : Int64) * j_25) + ((100 : Int32) * r_27).toInt64)]) ⟨hx, hb, hml, hown, ha⟩ (c_X11_coins l D dA cA h0 h1 h2 h6 h7 h8 h9 h14 h17 h21 h41 h43 h46 h49   on ot op os gc gp gr xi xe xf v_24 _ hc28) (gi_V m_1425 m_1426 m_1427 m_31 m_1428) yd_X11_coins ⟨Nat.le_of_ble_eq_true rfl, Nat.le_of_ble_eq_true rfl⟩ ⟨rfl, rfl⟩ hK hX hS hP [0, 1, 6, 7, 8] rfl (va_recv hK hP (q0 := 0) rfl rfl) rfl hl.1 rfl (Nat.le_of_ble_eq_true rfl) dL_sum_154 ⟨Nat.le_of_ble_eq_true rfl, Nat.le_of_ble_eq_true rfl⟩) hP hS (fun H locs hP hS => ?_)
        refine lv_i2l hx hb dL_sum_157 rfl ?_
        refine lv_ladd hx hb dL_sum_158 ?_
        obtain ⟨j_29, ej_29, hf⟩ := sf_ne hf
        refine tp_l ej_29 ?_
        refine lv_lstore_n (lv' := [(1, .long j_29), (3, .int v_24), (0, .ref h0)]) hx hb dL_sum_159 rfl hl (by decide) rfl (fun ls hl => ?_)
        obtain ⟨x_30, ex_30, hf⟩ := sf_ne hf
        refine ii_nc (lv' := [(3, .int x_30), (1, .long j_29), (0, .ref h0)]) (k := 1) hx hb dL_sum_160 hl rfl ex_30 (by decide) (by decide) rfl (fun ls hl => ?_)
        refine lv_goto (tgt := 129) hx hb dL_sum_163 (by decide) ?_
        exact ih _ _ _ _ _ (hP.sub [0, 1, 2, 3, 4, 5, 6, 7, 8, 9, 10, 11, 12, 13, 14, 15, 16, 17, 18, 19, 20] rfl) hS (lv_sub hl [0, 1, 2] rfl) hf hk
  refine hL129_31 2000 _ _ _ _ _ _ hP hS (lv_sub hl [0, 1, 2] rfl) hf (fun j_31 H locs ls hP hS hl hf => ?_)
  refine lv_iconst (v := 0) hx hb dL_sum_166 (by decide) ?_
  refine lv_istore_n (lv' := [(3, .int (0 : Int32)), (1, .long j_31), (0, .ref h0)]) hx hb dL_sum_167 rfl hl (by decide) rfl (fun ls hl => ?_)
  have hL168_41 : ∀ (n : Nat) (k : Int64 → Option Int64) (v_32 : Int32) (j_33 : Int64) (H : Heap) (locs : List Loc) (ls : Array Slot), va_P D cls [(h0, .inr (9, [.ref h1, .ref h21, .int xi, .ref h41, .ref h43, .ref h46, .ref h49, .int xe, .int xf])), (h1, .inr (6, [.int on, .int ot, .int op, .int os, .ref h2, .ref h6, .ref h9, .ref h14, .ref h17])), (h2, .inr (8, [.int sc, .ref h3, .ref h4, .ref h5])), (h3, .inl (dA 0, 4, .inl sd)), (h4, .inl (dA 0, 4, .inl sp)), (h5, .inl (dA 0, 4, .inl sw)), (h6, .inr (4, [.int gc, .ref h7, .ref h8])), (h7, .inl (dA 0, 10, .inl gp)), (h8, .inl (dA 0, 10, .inl gr)), (h9, .inr (0, [.int bc, .ref h10, .ref h11, .ref h12, .ref h13])), (h10, .inl (dA 0, 12, .inl bg)), (h11, .inl (dA 0, 12, .inl bs)), (h12, .inl (dA 0, 12, .inl bt)), (h13, .inl (dA 0, 12, .inl be)), (h14, .inr (7, [.ref h15, .ref h16])), (h15, .inl (dA 0, 4, .inl ql)), (h16, .inl (dA 0, 20, .inl qg)), (h17, .inr (3, [.int fc, .ref h18, .ref h19, .ref h20])), (h18, .inl (dA 0, 16, .inl fg)), (h19, .inl (dA 0, 16, .inl fs)), (h20, .inl (dA 0, 16, .inl fm))] H → va_S noA s.heap H locs → lv_has ls 5 [(3, .int v_32), (1, .long j_33), (0, .ref h0)] → f_L_sum_L168 bc bg bs bt k n v_32 j_33 = some rr → (∀ (j_41 : Int64) (H : Heap) (locs : List Loc) (ls : Array Slot), va_P D cls [(h0, .inr (9, [.ref h1, .ref h21, .int xi, .ref h41, .ref h43, .ref h46, .ref h49, .int xe, .int xf])), (h1, .inr (6, [.int on, .int ot, .int op, .int os, .ref h2, .ref h6, .ref h9, .ref h14, .ref h17])), (h2, .inr (8, [.int sc, .ref h3, .ref h4, .ref h5])), (h3, .inl (dA 0, 4, .inl sd)), (h4, .inl (dA 0, 4, .inl sp)), (h5, .inl (dA 0, 4, .inl sw)), (h6, .inr (4, [.int gc, .ref h7, .ref h8])), (h7, .inl (dA 0, 10, .inl gp)), (h8, .inl (dA 0, 10, .inl gr)), (h9, .inr (0, [.int bc, .ref h10, .ref h11, .ref h12, .ref h13])), (h10, .inl (dA 0, 12, .inl bg)), (h11, .inl (dA 0, 12, .inl bs)), (h12, .inl (dA 0, 12, .inl bt)), (h13, .inl (dA 0, 12, .inl be)), (h14, .inr (7, [.ref h15, .ref h16])), (h15, .inl (dA 0, 4, .inl ql)), (h16, .inl (dA 0, 20, .inl qg)), (h17, .inr (3, [.int fc, .ref h18, .ref h19, .ref h20])), (h18, .inl (dA 0, 16, .inl fg)), (h19, .inl (dA 0, 16, .inl fs)), (h20, .inl (dA 0, 16, .inl fm))] H → va_S noA s.heap H locs → lv_has ls 5 [(1, .long j_41), (0, .ref h0)] → k j_41 = some rr → W p l e ({ frames := 3, cells := 0, slots := 0, locals := 64 } : Room) s m ([.ref h0] : List Value).toArray below meth c H locs 0 0 (MQ below (poPl rr) ([.ref h0] : List Value).toArray s 0 0 noA) (F0 m 218 ls [])) → W p l e ({ frames := 3, cells := 0, slots := 0, locals := 64 } : Room) s m ([.ref h0] : List Value).toArray below meth c H locs 0 0 (MQ below (poPl rr) ([.ref h0] : List Value).toArray s 0 0 noA) (F0 m 168 ls []) := by
    intro n k
    induction n with
    | zero =>
      intro v_32 j_33 H locs ls hP hS hl hf hk
      rw [f_L_sum_L168] at hf
      cases hf
    | succ n ih =>
      intro v_32 j_33 H locs ls hP hS hl hf hk
      rw [f_L_sum_L168] at hf
      refine lv_iload_n hx hb dL_sum_168 rfl (lv_at hl 0 rfl) ?_
      refine lv_aload_n hx hb dL_sum_169 rfl (lv_at hl 2 rfl) ?_
      obtain ⟨r_34, hc34, hf⟩ := sf_c1e hf
      refine k_Pi (run_YV (As := []) (rest := [.int v_32]) ⟨hx, hb, hml, hown, ha⟩ (c_X11_bookingCount l D dA cA h0 h1 h2 h6 h9 h10 h11 h12 h13 h14 h17 h21 h41 h43 h46 h49   on ot op os bc xi xe xf  _ hc34) (gi_V m_744 m_745 m_746 m_31 m_747) yd_X11_bookingCount ⟨Nat.le_of_ble_eq_true rfl, Nat.le_of_ble_eq_true rfl⟩ ⟨rfl, rfl⟩ hK hX hS hP [0, 1, 9] rfl (va_recv hK hP (q0 := 0) rfl rfl) rfl hl.1 rfl (Nat.le_of_ble_eq_true rfl) dL_sum_170 ⟨Nat.le_of_ble_eq_true rfl, Nat.le_of_ble_eq_true rfl⟩) hP hS (fun H locs hP hS => ?_)
      refine lv_icmp_ge (tgt := 218) hx hb dL_sum_173 (by decide) (fun hc => ?_) (fun hc => ?_)
      · have hf := sf_bp hf hc
        exact hk _ _ _ _ (hP.sub [0, 1, 2, 3, 4, 5, 6, 7, 8, 9, 10, 11, 12, 13, 14, 15, 16, 17, 18, 19, 20] rfl) hS (lv_sub hl [1, 2] rfl) hf
      · have hf := sf_bn hf hc
        refine lv_ldc2 (v := 47) hx hb hown (ha _ m_1496) dL_sum_176 ?_
        refine lv_lload_n hx hb dL_sum_179 rfl (lv_at hl 1 rfl) ?_
        refine lv_lmul hx hb dL_sum_180 ?_
        refine lv_bipush (v := 10) hx hb dL_sum_181 (by decide) ?_
        refine lv_aload_n hx hb dL_sum_183 rfl (lv_at hl 2 rfl) ?_
        refine lv_iload_n hx hb dL_sum_184 rfl (lv_at hl 0 rfl) ?_
        obtain ⟨r_35, hc35, hf⟩ := sf_c1e hf
        refine k_Pi (run_YV (As := [.int v_32]) (rest := [.int (10 : Int32), .long ((47 : Int64) * j_33)]) ⟨hx, hb, hml, hown, ha⟩ (c_X11_bookedGuest l D dA cA h0 h1 h2 h6 h9 h10 h11 h12 h13 h14 h17 h21 h41 h43 h46 h49   on ot op os bc bg bs bt be xi xe xf v_32 _ hc35) (gi_V m_761 m_762 m_763 m_31 m_764) yd_X11_bookedGuest ⟨Nat.le_of_ble_eq_true rfl, Nat.le_of_ble_eq_true rfl⟩ ⟨rfl, rfl⟩ hK hX hS hP [0, 1, 9, 10, 11, 12, 13] rfl (va_recv hK hP (q0 := 0) rfl rfl) rfl hl.1 rfl (Nat.le_of_ble_eq_true rfl) dL_sum_185 ⟨Nat.le_of_ble_eq_true rfl, Nat.le_of_ble_eq_true rfl⟩) hP hS (fun H locs hP hS => ?_)
        refine lv_imul hx hb dL_sum_188 ?_
        refine lv_i2l hx hb dL_sum_189 rfl ?_
        refine lv_ladd hx hb dL_sum_190 ?_
        refine lv_aload_n hx hb dL_sum_191 rfl (lv_at hl 2 rfl) ?_
        refine lv_iload_n hx hb dL_sum_192 rfl (lv_at hl 0 rfl) ?_
        obtain ⟨r_36, hc36, hf⟩ := sf_c1e hf
        refine k_Pi (run_YV (As := [.int v_32]) (rest := [.long (((47 : Int64) * j_33) + ((10 : Int32) * r_35).toInt64)]) ⟨hx, hb, hml, hown, ha⟩ (c_X11_bookedSlide l D dA cA h0 h1 h2 h6 h9 h10 h11 h12 h13 h14 h17 h21 h41 h43 h46 h49   on ot op os bc bg bs bt be xi xe xf v_32 _ hc36) (gi_V m_748 m_749 m_750 m_31 m_751) yd_X11_bookedSlide ⟨Nat.le_of_ble_eq_true rfl, Nat.le_of_ble_eq_true rfl⟩ ⟨rfl, rfl⟩ hK hX hS hP [0, 1, 9, 10, 11, 12, 13] rfl (va_recv hK hP (q0 := 0) rfl rfl) rfl hl.1 rfl (Nat.le_of_ble_eq_true rfl) dL_sum_193 ⟨Nat.le_of_ble_eq_true rfl, Nat.le_of_ble_eq_true rfl⟩) hP hS (fun H locs hP hS => ?_)
        refine lv_i2l hx hb dL_sum_196 rfl ?_
        refine lv_ladd hx hb dL_sum_197 ?_
        obtain ⟨j_37, ej_37, hf⟩ := sf_ne hf
        refine tp_l ej_37 ?_
        refine lv_lstore_n (lv' := [(1, .long j_37), (3, .int v_32), (0, .ref h0)]) hx hb dL_sum_198 rfl hl (by decide) rfl (fun ls hl => ?_)
        refine lv_ldc2 (v := 53) hx hb hown (ha _ m_1497) dL_sum_199 ?_
        refine lv_lload_n hx hb dL_sum_202 rfl (lv_at hl 0 rfl) ?_
        refine lv_lmul hx hb dL_sum_203 ?_
        refine lv_aload_n hx hb dL_sum_204 rfl (lv_at hl 2 rfl) ?_
        refine lv_iload_n hx hb dL_sum_205 rfl (lv_at hl 1 rfl) ?_
        obtain ⟨r_38, hc38, hf⟩ := sf_c1e hf
        refine k_Pi (run_YV (As := [.int v_32]) (rest := [.long ((53 : Int64) * j_37)]) ⟨hx, hb, hml, hown, ha⟩ (c_X11_start l D dA cA h0 h1 h2 h6 h9 h10 h11 h12 h13 h14 h17 h21 h41 h43 h46 h49   on ot op os bc bg bs bt be xi xe xf v_32 _ hc38) (gi_V m_765 m_766 m_767 m_31 m_768) yd_X11_start ⟨Nat.le_of_ble_eq_true rfl, Nat.le_of_ble_eq_true rfl⟩ ⟨rfl, rfl⟩ hK hX hS hP [0, 1, 9, 10, 11, 12, 13] rfl (va_recv hK hP (q0 := 0) rfl rfl) rfl hl.1 rfl (Nat.le_of_ble_eq_true rfl) dL_sum_206 ⟨Nat.le_of_ble_eq_true rfl, Nat.le_of_ble_eq_true rfl⟩) hP hS (fun H locs hP hS => ?_)
        refine lv_i2l hx hb dL_sum_209 rfl ?_
        refine lv_ladd hx hb dL_sum_210 ?_
        obtain ⟨j_39, ej_39, hf⟩ := sf_ne hf
        refine tp_l ej_39 ?_
        refine lv_lstore_n (lv' := [(1, .long j_39), (3, .int v_32), (0, .ref h0)]) hx hb dL_sum_211 rfl hl (by decide) rfl (fun ls hl => ?_)
        obtain ⟨x_40, ex_40, hf⟩ := sf_ne hf
        refine ii_nc (lv' := [(3, .int x_40), (1, .long j_39), (0, .ref h0)]) (k := 1) hx hb dL_sum_212 hl rfl ex_40 (by decide) (by decide) rfl (fun ls hl => ?_)
        refine lv_goto (tgt := 168) hx hb dL_sum_215 (by decide) ?_
        exact ih _ _ _ _ _ (hP.sub [0, 1, 2, 3, 4, 5, 6, 7, 8, 9, 10, 11, 12, 13, 14, 15, 16, 17, 18, 19, 20] rfl) hS (lv_sub hl [0, 1, 2] rfl) hf hk
  refine hL168_41 2000 _ _ _ _ _ _ hP hS (lv_sub hl [0, 1, 2] rfl) hf (fun j_41 H locs ls hP hS hl hf => ?_)
  refine lv_iconst (v := 0) hx hb dL_sum_218 (by decide) ?_
  refine lv_istore_n (lv' := [(3, .int (0 : Int32)), (1, .long j_41), (0, .ref h0)]) hx hb dL_sum_219 rfl hl (by decide) rfl (fun ls hl => ?_)
  have hL220_50 : ∀ (n : Nat) (k : Int64 → Option Int64) (v_42 : Int32) (j_43 : Int64) (H : Heap) (locs : List Loc) (ls : Array Slot), va_P D cls [(h0, .inr (9, [.ref h1, .ref h21, .int xi, .ref h41, .ref h43, .ref h46, .ref h49, .int xe, .int xf])), (h1, .inr (6, [.int on, .int ot, .int op, .int os, .ref h2, .ref h6, .ref h9, .ref h14, .ref h17])), (h2, .inr (8, [.int sc, .ref h3, .ref h4, .ref h5])), (h3, .inl (dA 0, 4, .inl sd)), (h4, .inl (dA 0, 4, .inl sp)), (h5, .inl (dA 0, 4, .inl sw)), (h6, .inr (4, [.int gc, .ref h7, .ref h8])), (h7, .inl (dA 0, 10, .inl gp)), (h8, .inl (dA 0, 10, .inl gr)), (h9, .inr (0, [.int bc, .ref h10, .ref h11, .ref h12, .ref h13])), (h10, .inl (dA 0, 12, .inl bg)), (h11, .inl (dA 0, 12, .inl bs)), (h12, .inl (dA 0, 12, .inl bt)), (h13, .inl (dA 0, 12, .inl be)), (h14, .inr (7, [.ref h15, .ref h16])), (h15, .inl (dA 0, 4, .inl ql)), (h16, .inl (dA 0, 20, .inl qg)), (h17, .inr (3, [.int fc, .ref h18, .ref h19, .ref h20])), (h18, .inl (dA 0, 16, .inl fg)), (h19, .inl (dA 0, 16, .inl fs)), (h20, .inl (dA 0, 16, .inl fm))] H → va_S noA s.heap H locs → lv_has ls 5 [(3, .int v_42), (1, .long j_43), (0, .ref h0)] → f_L_sum_L220 fc fg fs fm k n v_42 j_43 = some rr → (∀ (j_50 : Int64) (H : Heap) (locs : List Loc) (ls : Array Slot), va_P D cls [(h0, .inr (9, [.ref h1, .ref h21, .int xi, .ref h41, .ref h43, .ref h46, .ref h49, .int xe, .int xf])), (h1, .inr (6, [.int on, .int ot, .int op, .int os, .ref h2, .ref h6, .ref h9, .ref h14, .ref h17])), (h2, .inr (8, [.int sc, .ref h3, .ref h4, .ref h5])), (h3, .inl (dA 0, 4, .inl sd)), (h4, .inl (dA 0, 4, .inl sp)), (h5, .inl (dA 0, 4, .inl sw)), (h6, .inr (4, [.int gc, .ref h7, .ref h8])), (h7, .inl (dA 0, 10, .inl gp)), (h8, .inl (dA 0, 10, .inl gr)), (h9, .inr (0, [.int bc, .ref h10, .ref h11, .ref h12, .ref h13])), (h10, .inl (dA 0, 12, .inl bg)), (h11, .inl (dA 0, 12, .inl bs)), (h12, .inl (dA 0, 12, .inl bt)), (h13, .inl (dA 0, 12, .inl be)), (h14, .inr (7, [.ref h15, .ref h16])), (h15, .inl (dA 0, 4, .inl ql)), (h16, .inl (dA 0, 20, .inl qg)), (h17, .inr (3, [.int fc, .ref h18, .ref h19, .ref h20])), (h18, .inl (dA 0, 16, .inl fg)), (h19, .inl (dA 0, 16, .inl fs)), (h20, .inl (dA 0, 16, .inl fm))] H → va_S noA s.heap H locs → lv_has ls 5 [(1, .long j_50)] → k j_50 = some rr → W p l e ({ frames := 3, cells := 0, slots := 0, locals := 64 } : Room) s m ([.ref h0] : List Value).toArray below meth c H locs 0 0 (MQ below (poPl rr) ([.ref h0] : List Value).toArray s 0 0 noA) (F0 m 267 ls [])) → W p l e ({ frames := 3, cells := 0, slots := 0, locals := 64 } : Room) s m ([.ref h0] : List Value).toArray below meth c H locs 0 0 (MQ below (poPl rr) ([.ref h0] : List Value).toArray s 0 0 noA) (F0 m 220 ls []) := by
    intro n k
    induction n with
    | zero =>
      intro v_42 j_43 H locs ls hP hS hl hf hk
      rw [f_L_sum_L220] at hf
      cases hf
    | succ n ih =>
      intro v_42 j_43 H locs ls hP hS hl hf hk
      rw [f_L_sum_L220] at hf
      refine lv_iload_n hx hb dL_sum_220 rfl (lv_at hl 0 rfl) ?_
      refine lv_aload_n hx hb dL_sum_221 rfl (lv_at hl 2 rfl) ?_
      obtain ⟨r_44, hc44, hf⟩ := sf_c1e hf
      refine k_Pi (run_YV (As := []) (rest := [.int v_42]) ⟨hx, hb, hml, hown, ha⟩ (c_X11_finishCount l D dA cA h0 h1 h2 h6 h9 h14 h17 h18 h19 h20 h21 h41 h43 h46 h49   on ot op os fc xi xe xf  _ hc44) (gi_V m_1441 m_1442 m_1443 m_31 m_1444) yd_X11_finishCount ⟨Nat.le_of_ble_eq_true rfl, Nat.le_of_ble_eq_true rfl⟩ ⟨rfl, rfl⟩ hK hX hS hP [0, 1, 17] rfl (va_recv hK hP (q0 := 0) rfl rfl) rfl hl.1 rfl (Nat.le_of_ble_eq_true rfl) dL_sum_222 ⟨Nat.le_of_ble_eq_true rfl, Nat.le_of_ble_eq_true rfl⟩) hP hS (fun H locs hP hS => ?_)
      refine lv_icmp_ge (tgt := 267) hx hb dL_sum_225 (by decide) (fun hc => ?_) (fun hc => ?_)
      · have hf := sf_bp hf hc
        exact hk _ _ _ _ (hP.sub [0, 1, 2, 3, 4, 5, 6, 7, 8, 9, 10, 11, 12, 13, 14, 15, 16, 17, 18, 19, 20] rfl) hS (lv_sub hl [1] rfl) hf
      · have hf := sf_bn hf hc
        refine lv_ldc2 (v := 59) hx hb hown (ha _ m_1498) dL_sum_228 ?_
        refine lv_lload_n hx hb dL_sum_231 rfl (lv_at hl 1 rfl) ?_
        refine lv_lmul hx hb dL_sum_232 ?_
        refine lv_bipush (v := 100) hx hb dL_sum_233 (by decide) ?_
        refine lv_aload_n hx hb dL_sum_235 rfl (lv_at hl 2 rfl) ?_
        refine lv_iload_n hx hb dL_sum_236 rfl (lv_at hl 0 rfl) ?_
        obtain ⟨r_45, hc45, hf⟩ := sf_c1e hf
        refine k_Pi (run_YV (As := [.int v_42]) (rest := [.int (100 : Int32), .long ((59 : Int64) * j_43)]) ⟨hx, hb, hml, hown, ha⟩ (c_X11_finishMinute l D dA cA h0 h1 h2 h6 h9 h14 h17 h18 h19 h20 h21 h41 h43 h46 h49   on ot op os fc fg fs fm xi xe xf v_42 _ hc45) (gi_V m_1448 m_1449 m_1450 m_31 m_1451) yd_X11_finishMinute ⟨Nat.le_of_ble_eq_true rfl, Nat.le_of_ble_eq_true rfl⟩ ⟨rfl, rfl⟩ hK hX hS hP [0, 1, 17, 18, 19, 20] rfl (va_recv hK hP (q0 := 0) rfl rfl) rfl hl.1 rfl (Nat.le_of_ble_eq_true rfl) dL_sum_237 ⟨Nat.le_of_ble_eq_true rfl, Nat.le_of_ble_eq_true rfl⟩) hP hS (fun H locs hP hS => ?_)
        refine lv_imul hx hb dL_sum_240 ?_
        refine lv_i2l hx hb dL_sum_241 rfl ?_
        refine lv_ladd hx hb dL_sum_242 ?_
        refine lv_bipush (v := 10) hx hb dL_sum_243 (by decide) ?_
        refine lv_aload_n hx hb dL_sum_245 rfl (lv_at hl 2 rfl) ?_
        refine lv_iload_n hx hb dL_sum_246 rfl (lv_at hl 0 rfl) ?_
        obtain ⟨r_46, hc46, hf⟩ := sf_c1e hf
        refine k_Pi (run_YV (As := [.int v_42]) (rest := [.int (10 : Int32), .long (((59 : Int64) * j_43) + ((100 : Int32) * r_45).toInt64)]) ⟨hx, hb, hml, hown, ha⟩ (c_X11_finishedSlide l D dA cA h0 h1 h2 h6 h9 h14 h17 h18 h19 h20 h21 h41 h43 h46 h49   on ot op os fc fg fs fm xi xe xf v_42 _ hc46) (gi_V m_1471 m_1472 m_1473 m_31 m_1474) yd_X11_finishedSlide ⟨Nat.le_of_ble_eq_true rfl, Nat.le_of_ble_eq_true rfl⟩ ⟨rfl, rfl⟩ hK hX hS hP [0, 1, 17, 18, 19, 20] rfl (va_recv hK hP (q0 := 0) rfl rfl) rfl hl.1 rfl (Nat.le_of_ble_eq_true rfl) dL_sum_247 ⟨Nat.le_of_ble_eq_true rfl, Nat.le_of_ble_eq_true rfl⟩) hP hS (fun H locs hP hS => ?_)
        refine lv_imul hx hb dL_sum_250 ?_
        refine lv_i2l hx hb dL_sum_251 rfl ?_
        refine lv_ladd hx hb dL_sum_252 ?_
        refine lv_aload_n hx hb dL_sum_253 rfl (lv_at hl 2 rfl) ?_
        refine lv_iload_n hx hb dL_sum_254 rfl (lv_at hl 0 rfl) ?_
        obtain ⟨r_47, hc47, hf⟩ := sf_c1e hf
        refine k_Pi (run_YV (As := [.int v_42]) (rest := [.long ((((59 : Int64) * j_43) + ((100 : Int32) * r_45).toInt64) + ((10 : Int32) * r_46).toInt64)]) ⟨hx, hb, hml, hown, ha⟩ (c_X11_finishedGuest l D dA cA h0 h1 h2 h6 h9 h14 h17 h18 h19 h20 h21 h41 h43 h46 h49   on ot op os fc fg fs fm xi xe xf v_42 _ hc47) (gi_V m_1464 m_1465 m_1466 m_31 m_1467) yd_X11_finishedGuest ⟨Nat.le_of_ble_eq_true rfl, Nat.le_of_ble_eq_true rfl⟩ ⟨rfl, rfl⟩ hK hX hS hP [0, 1, 17, 18, 19, 20] rfl (va_recv hK hP (q0 := 0) rfl rfl) rfl hl.1 rfl (Nat.le_of_ble_eq_true rfl) dL_sum_255 ⟨Nat.le_of_ble_eq_true rfl, Nat.le_of_ble_eq_true rfl⟩) hP hS (fun H locs hP hS => ?_)
        refine lv_i2l hx hb dL_sum_258 rfl ?_
        refine lv_ladd hx hb dL_sum_259 ?_
        obtain ⟨j_48, ej_48, hf⟩ := sf_ne hf
        refine tp_l ej_48 ?_
        refine lv_lstore_n (lv' := [(1, .long j_48), (3, .int v_42), (0, .ref h0)]) hx hb dL_sum_260 rfl hl (by decide) rfl (fun ls hl => ?_)
        obtain ⟨x_49, ex_49, hf⟩ := sf_ne hf
        refine ii_nc (lv' := [(3, .int x_49), (1, .long j_48), (0, .ref h0)]) (k := 1) hx hb dL_sum_261 hl rfl ex_49 (by decide) (by decide) rfl (fun ls hl => ?_)
        refine lv_goto (tgt := 220) hx hb dL_sum_264 (by decide) ?_
        exact ih _ _ _ _ _ (hP.sub [0, 1, 2, 3, 4, 5, 6, 7, 8, 9, 10, 11, 12, 13, 14, 15, 16, 17, 18, 19, 20] rfl) hS (lv_sub hl [0, 1, 2] rfl) hf hk
  refine hL220_50 2000 _ _ _ _ _ _ hP hS (lv_sub hl [0, 1, 2] rfl) hf (fun j_50 H locs ls hP hS hl hf => ?_)
  refine lv_lload_n hx hb dL_sum_267 rfl (lv_at hl 0 rfl) ?_
  exact rt_Pl hx hb hr hlocks (Option.some.inj hf) hS dL_sum_268

