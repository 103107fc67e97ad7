def f_X4_append (ts : Nat → Int32) (tl : Int32) (p0 : Int32) : Option ((Nat → Int32) × Int32) :=
  sf_g (sf_in tl 60 = true) (sf_n (upd ts tl.toNatClampNeg (vp_nar .char p0)) (fun a_1 => sf_n ((tl + (1 : Int32))) (fun x_2 => some (a_1, x_2))))
theorem yd_X4_append : yX4_append.cls = RX4 ∧ yX4_append.cls ≠ "java/lang/invoke/MethodHandle" ∧ yX4_append.cls ≠ "java/lang/invoke/VarHandle" ∧ (parseMethodDescriptor yX4_append.desc).map (fun d => d.parameters.length) = some 1 := ⟨rfl, by decide, by decide, by decide +kernel⟩
set_option maxRecDepth 100000 in
set_option maxHeartbeats 4000000 in
theorem c_X4_append (l : Launch) (D : va_G) (dA : Nat → ClassId) (h0 h1 h2 : Nat) (sz : Nat) (ts : Nat → Int32) (tl : Int32) (tp : Int32) (tn : Nat → Int32) (p0 : Int32) (q_ts : Nat → Int32) (q_tl : Int32) (hf : f_X4_append ts tl p0 = some (q_ts, q_tl)) : Met l yX4_append (wo (.code yX4_append cX4_append 2 none)) ({ frames := 0, cells := 0, slots := 0, locals := 0 } : Room) (preM D dA [.ref h0, .int p0] sz [(h0, .inr (2, [.ref h1, .int tl, .int tp, .ref h2])), (h1, .inl (dA 1, 60, .inl ts)), (h2, .inl (dA 0, 3, .inl tn))]) (poMv D [(h0, .inr (2, [.ref h1, .int q_tl, .int tp, .ref h2])), (h1, .inl (dA 1, 60, .inl q_ts)), (h2, .inl (dA 0, 3, .inl tn))] (va_A [(h0, .inr (2, [.ref h1, .int tl, .int tp, .ref h2])), (h1, .inl (dA 1, 60, .inl ts)), (h2, .inl (dA 0, 3, .inl tn))] sz)) 0 0 (va_A [(h0, .inr (2, [.ref h1, .int tl, .int tp, .ref h2])), (h1, .inl (dA 1, 60, .inl ts)), (h2, .inl (dA 0, 3, .inl tn))] sz) := by
  refine of_M (y := yX4_append) (av := [.ref h0, .int p0]) (ws := [(h0, .inr (2, [.ref h1, .int tl, .int tp, .ref h2])), (h1, .inl (dA 1, 60, .inl ts)), (h2, .inl (dA 0, 3, .inl tn))]) (sz := sz) (own := RX4) (Qc := poMv D [(h0, .inr (2, [.ref h1, .int q_tl, .int tp, .ref h2])), (h1, .inl (dA 1, 60, .inl q_ts)), (h2, .inl (dA 0, 3, .inl tn))]) (by decide) rfl (Nat.le_of_ble_eq_true rfl) ?_
  intro p e s m below meth c A hx hb hr ha hown hml hlocks hin hP hK hD hS hA ls hl
  have hl : lv_has ls 2 [(0, .ref h0), (1, .int p0)] := hl
  rw [f_X4_append] at hf
  refine lv_aload_n hx hb dX4_append_0 rfl (lv_at hl 0 rfl) ?_
  refine gt_f (C := RX4) (T := TX4) (N := 4) hx hb ha in_X4 hown hK hP 0 rfl rfl 0 (by decide) m_320 rfl dX4_append_1 ?_
  refine lv_aload_n hx hb dX4_append_4 rfl (lv_at hl 0 rfl) ?_
  refine gt_f (C := RX4) (T := TX4) (N := 4) hx hb ha in_X4 hown hK hP 0 rfl rfl 1 (by decide) m_321 rfl dX4_append_5 ?_
  refine lv_iload_n hx hb dX4_append_8 rfl (lv_at hl 1 rfl) ?_
  obtain ⟨hi, hf⟩ := sf_ge hf
  obtain ⟨a_1, ea_1, hf⟩ := sf_ne hf
  refine ca_st (ws' := [(h0, .inr (2, [.ref h1, .int tl, .int tp, .ref h2])), (h1, .inl (dA 1, 60, .inl a_1)), (h2, .inl (dA 0, 3, .inl tn))]) hx hb hK hP hD hS 1 rfl hi ea_1 rfl dX4_append_9 (fun H locs hP hD hS => ?_)
  refine lv_aload_n hx hb dX4_append_10 rfl (lv_at hl 0 rfl) ?_
  refine lv_dup hx hb dX4_append_11 rfl ?_
  refine gt_f (C := RX4) (T := TX4) (N := 4) hx hb ha in_X4 hown hK hP 0 rfl rfl 1 (by decide) m_321 rfl dX4_append_12 ?_
  refine lv_iconst (v := 1) hx hb dX4_append_15 (by decide) ?_
  refine lv_iadd hx hb dX4_append_16 ?_
  obtain ⟨x_2, ex_2, hf⟩ := sf_ne hf
  refine tp_i ex_2 ?_
  refine pt_f (C := RX4) (T := TX4) (N := 4) (ws' := [(h0, .inr (2, [.ref h1, .int x_2, .int tp, .ref h2])), (h1, .inl (dA 1, 60, .inl a_1)), (h2, .inl (dA 0, 3, .inl tn))]) (ty := .int) hx hb ha in_X4 tyX4 tyX4_ok nmX4 hown hK hP hD hS 0 rfl rfl 1 (by decide) m_321 rfl (tyX4_ok 1 (by decide)) rfl rfl (Nat.le_of_ble_eq_true rfl) rfl dX4_append_17 (fun H locs hP hD hS => ?_)
  cases hf
  exact rt_Mv hx hb hr hlocks (hP.sub [0, 1, 2] rfl) (hD.sub [0, 1, 2] (by decide) rfl) hS dX4_append_20

def f_X4_empty (tl : Int32) : Option Int32 :=
  some (0 : Int32)
theorem yd_X4_empty : yX4_empty.cls = RX4 ∧ yX4_empty.cls ≠ "java/lang/invoke/MethodHandle" ∧ yX4_empty.cls ≠ "java/lang/invoke/VarHandle" ∧ (parseMethodDescriptor yX4_empty.desc).map (fun d => d.parameters.length) = some 0 := ⟨rfl, by decide, by decide, by decide +kernel⟩
set_option maxRecDepth 100000 in
set_option maxHeartbeats 4000000 in
theorem c_X4_empty (l : Launch) (D : va_G) (dA : Nat → ClassId) (h0 h1 h2 : Nat) (sz : Nat) (ts : Nat → Int32) (tl : Int32) (tp : Int32) (tn : Nat → Int32) (q_tl : Int32) (hf : f_X4_empty tl = some q_tl) : Met l yX4_empty (wo (.code yX4_empty cX4_empty 1 none)) ({ frames := 0, cells := 0, slots := 0, locals := 0 } : Room) (preM D dA [.ref h0] sz [(h0, .inr (2, [.ref h1, .int tl, .int tp, .ref h2])), (h1, .inl (dA 1, 60, .inl ts)), (h2, .inl (dA 0, 3, .inl tn))]) (poMv D [(h0, .inr (2, [.ref h1, .int q_tl, .int tp, .ref h2])), (h1, .inl (dA 1, 60, .inl ts)), (h2, .inl (dA 0, 3, .inl tn))] (va_A [(h0, .inr (2, [.ref h1, .int tl, .int tp, .ref h2])), (h1, .inl (dA 1, 60, .inl ts)), (h2, .inl (dA 0, 3, .inl tn))] sz)) 0 0 (va_A [(h0, .inr (2, [.ref h1, .int tl, .int tp, .ref h2])), (h1, .inl (dA 1, 60, .inl ts)), (h2, .inl (dA 0, 3, .inl tn))] sz) := by
  refine of_M (y := yX4_empty) (av := [.ref h0]) (ws := [(h0, .inr (2, [.ref h1, .int tl, .int tp, .ref h2])), (h1, .inl (dA 1, 60, .inl ts)), (h2, .inl (dA 0, 3, .inl tn))]) (sz := sz) (own := RX4) (Qc := poMv D [(h0, .inr (2, [.ref h1, .int q_tl, .int tp, .ref h2])), (h1, .inl (dA 1, 60, .inl ts)), (h2, .inl (dA 0, 3, .inl tn))]) (by decide) rfl (Nat.le_of_ble_eq_true rfl) ?_
  intro p e s m below meth c A hx hb hr ha hown hml hlocks hin hP hK hD hS hA ls hl
  have hl : lv_has ls 1 [(0, .ref h0)] := hl
  rw [f_X4_empty] at hf
  refine lv_aload_n hx hb dX4_empty_0 rfl (lv_at hl 0 rfl) ?_
  refine lv_iconst (v := 0) hx hb dX4_empty_1 (by decide) ?_
  refine pt_f (C := RX4) (T := TX4) (N := 4) (ws' := [(h0, .inr (2, [.ref h1, .int (0 : Int32), .int tp, .ref h2])), (h1, .inl (dA 1, 60, .inl ts)), (h2, .inl (dA 0, 3, .inl tn))]) (ty := .int) hx hb ha in_X4 tyX4 tyX4_ok nmX4 hown hK hP hD hS 0 rfl rfl 1 (by decide) m_321 rfl (tyX4_ok 1 (by decide)) rfl rfl (Nat.le_of_ble_eq_true rfl) rfl dX4_empty_2 (fun H locs hP hD hS => ?_)
  cases hf
  exact rt_Mv hx hb hr hlocks (hP.sub [0, 1, 2] rfl) (hD.sub [0, 1, 2] (by decide) rfl) hS dX4_empty_5

def f_X4_rewind (tp : Int32) : Option Int32 :=
  some (0 : Int32)
theorem yd_X4_rewind : yX4_rewind.cls = RX4 ∧ yX4_rewind.cls ≠ "java/lang/invoke/MethodHandle" ∧ yX4_rewind.cls ≠ "java/lang/invoke/VarHandle" ∧ (parseMethodDescriptor yX4_rewind.desc).map (fun d => d.parameters.length) = some 0 := ⟨rfl, by decide, by decide, by decide +kernel⟩
set_option maxRecDepth 100000 in
set_option maxHeartbeats 4000000 in
theorem c_X4_rewind (l : Launch) (D : va_G) (dA : Nat → ClassId) (h0 h1 h2 : Nat) (sz : Nat) (ts : Nat → Int32) (tl : Int32) (tp : Int32) (tn : Nat → Int32) (q_tp : Int32) (hf : f_X4_rewind tp = some q_tp) : Met l yX4_rewind (wo (.code yX4_rewind cX4_rewind 1 none)) ({ frames := 0, cells := 0, slots := 0, locals := 0 } : Room) (preM D dA [.ref h0] sz [(h0, .inr (2, [.ref h1, .int tl, .int tp, .ref h2])), (h1, .inl (dA 1, 60, .inl ts)), (h2, .inl (dA 0, 3, .inl tn))]) (poMv D [(h0, .inr (2, [.ref h1, .int tl, .int q_tp, .ref h2])), (h1, .inl (dA 1, 60, .inl ts)), (h2, .inl (dA 0, 3, .inl tn))] (va_A [(h0, .inr (2, [.ref h1, .int tl, .int tp, .ref h2])), (h1, .inl (dA 1, 60, .inl ts)), (h2, .inl (dA 0, 3, .inl tn))] sz)) 0 0 (va_A [(h0, .inr (2, [.ref h1, .int tl, .int tp, .ref h2])), (h1, .inl (dA 1, 60, .inl ts)), (h2, .inl (dA 0, 3, .inl tn))] sz) := by
  refine of_M (y := yX4_rewind) (av := [.ref h0]) (ws := [(h0, .inr (2, [.ref h1, .int tl, .int tp, .ref h2])), (h1, .inl (dA 1, 60, .inl ts)), (h2, .inl (dA 0, 3, .inl tn))]) (sz := sz) (own := RX4) (Qc := poMv D [(h0, .inr (2, [.ref h1, .int tl, .int q_tp, .ref h2])), (h1, .inl (dA 1, 60, .inl ts)), (h2, .inl (dA 0, 3, .inl tn))]) (by decide) rfl (Nat.le_of_ble_eq_true rfl) ?_
  intro p e s m below meth c A hx hb hr ha hown hml hlocks hin hP hK hD hS hA ls hl
  have hl : lv_has ls 1 [(0, .ref h0)] := hl
  rw [f_X4_rewind] at hf
  refine lv_aload_n hx hb dX4_rewind_0 rfl (lv_at hl 0 rfl) ?_
  refine lv_iconst (v := 0) hx hb dX4_rewind_1 (by decide) ?_
  refine pt_f (C := RX4) (T := TX4) (N := 4) (ws' := [(h0, .inr (2, [.ref h1, .int tl, .int (0 : Int32), .ref h2])), (h1, .inl (dA 1, 60, .inl ts)), (h2, .inl (dA 0, 3, .inl tn))]) (ty := .int) hx hb ha in_X4 tyX4 tyX4_ok nmX4 hown hK hP hD hS 0 rfl rfl 2 (by decide) m_323 rfl (tyX4_ok 2 (by decide)) rfl rfl (Nat.le_of_ble_eq_true rfl) rfl dX4_rewind_2 (fun H locs hP hD hS => ?_)
  cases hf
  exact rt_Mv hx hb hr hlocks (hP.sub [0, 1, 2] rfl) (hD.sub [0, 1, 2] (by decide) rfl) hS dX4_rewind_5

def f_X4_isNext (ts : Nat → Int32) (tl : Int32) (tp : Int32) (p0 : Int32) : Option Int32 :=
  sf_b (tl ≤ tp) (some (0 : Int32)) (sf_g (sf_in tp 60 = true) (sf_b ((ts tp.toNatClampNeg) = p0) (some (1 : Int32)) (some (0 : Int32))))
theorem yd_X4_isNext : yX4_isNext.cls = RX4 ∧ yX4_isNext.cls ≠ "java/lang/invoke/MethodHandle" ∧ yX4_isNext.cls ≠ "java/lang/invoke/VarHandle" ∧ (parseMethodDescriptor yX4_isNext.desc).map (fun d => d.parameters.length) = some 1 := ⟨rfl, by decide, by decide, by decide +kernel⟩
set_option maxRecDepth 100000 in
set_option maxHeartbeats 4000000 in
theorem c_X4_isNext (l : Launch) (D : va_G) (dA : Nat → ClassId) (h0 h1 h2 : Nat) (ts : Nat → Int32) (tl : Int32) (tp : Int32) (tn : Nat → Int32) (p0 : Int32) (rr : Int32) (hf : f_X4_isNext ts tl tp p0 = some rr) : Met l yX4_isNext (wo (.code yX4_isNext cX4_isNext 2 (some .boolean))) ({ frames := 0, cells := 0, slots := 0, locals := 0 } : Room) (preP D dA [.ref h0, .int p0] [(h0, .inr (2, [.ref h1, .int tl, .int tp, .ref h2])), (h1, .inl (dA 1, 60, .inl ts)), (h2, .inl (dA 0, 3, .inl tn))]) (poPi rr) 0 0 noA := by
  refine of_P (own := RX4) (by decide) rfl (Nat.le_of_ble_eq_true rfl) ?_
  intro p e s m below meth c hx hb hr ha hown hml hlocks hP hK hS ls hl
  have hl : lv_has ls 2 [(0, .ref h0), (1, .int p0)] := hl
  rw [f_X4_isNext] at hf
  refine lv_aload_n hx hb dX4_isNext_0 rfl (lv_at hl 0 rfl) ?_
  refine gt_f (C := RX4) (T := TX4) (N := 4) hx hb ha in_X4 hown hK hP 0 rfl rfl 2 (by decide) m_323 rfl dX4_isNext_1 ?_
  refine lv_aload_n hx hb dX4_isNext_4 rfl (lv_at hl 0 rfl) ?_
  refine gt_f (C := RX4) (T := TX4) (N := 4) hx hb ha in_X4 hown hK hP 0 rfl rfl 1 (by decide) m_321 rfl dX4_isNext_5 ?_
  refine lv_icmp_ge (tgt := 28) hx hb dX4_isNext_8 (by decide) (fun hc => ?_) (fun hc => ?_)
  · have hf := sf_bp hf hc
    refine lv_iconst (v := 0) hx hb dX4_isNext_28 (by decide) ?_
    exact rt_Pz hx hb hr hlocks (Option.some.inj hf) rfl hS dX4_isNext_29
  · have hf := sf_bn hf hc
    refine lv_aload_n hx hb dX4_isNext_11 rfl (lv_at hl 0 rfl) ?_
    refine gt_f (C := RX4) (T := TX4) (N := 4) hx hb ha in_X4 hown hK hP 0 rfl rfl 0 (by decide) m_320 rfl dX4_isNext_12 ?_
    refine lv_aload_n hx hb dX4_isNext_15 rfl (lv_at hl 0 rfl) ?_
    refine gt_f (C := RX4) (T := TX4) (N := 4) hx hb ha in_X4 hown hK hP 0 rfl rfl 2 (by decide) m_323 rfl dX4_isNext_16 ?_
    obtain ⟨hi, hf⟩ := sf_ge hf
    refine ca_ld hx hb hK hP 1 rfl hi dX4_isNext_19 ?_
    refine lv_iload_n hx hb dX4_isNext_20 rfl (lv_at hl 1 rfl) ?_
    refine lv_icmp_ne (tgt := 28) hx hb dX4_isNext_21 (by decide) (fun hc => ?_) (fun hc => ?_)
    · have hf := sf_bn hf hc
      refine lv_iconst (v := 0) hx hb dX4_isNext_28 (by decide) ?_
      exact rt_Pz hx hb hr hlocks (Option.some.inj hf) rfl hS dX4_isNext_29
    · have hf := sf_bp hf hc
      refine lv_iconst (v := 1) hx hb dX4_isNext_24 (by decide) ?_
      refine lv_goto (tgt := 29) hx hb dX4_isNext_25 (by decide) ?_
      exact rt_Pz hx hb hr hlocks (Option.some.inj hf) rfl hS dX4_isNext_29

def f_X4_takeSign (ts : Nat → Int32) (tl : Int32) (tp : Int32) (p0 : Int32) : Option (Int32 × Int32) :=
  sf_c1 (f_X4_isNext ts tl tp p0) (fun r_1 => sf_b (r_1 = (0 : Int32)) (some ((0 : Int32), tp)) (sf_n ((tp + (1 : Int32))) (fun x_2 => some ((1 : Int32), x_2))))
theorem yd_X4_takeSign : yX4_takeSign.cls = RX4 ∧ yX4_takeSign.cls ≠ "java/lang/invoke/MethodHandle" ∧ yX4_takeSign.cls ≠ "java/lang/invoke/VarHandle" ∧ (parseMethodDescriptor yX4_takeSign.desc).map (fun d => d.parameters.length) = some 1 := ⟨rfl, by decide, by decide, by decide +kernel⟩
set_option maxRecDepth 100000 in
set_option maxHeartbeats 4000000 in
theorem c_X4_takeSign (l : Launch) (D : va_G) (dA : Nat → ClassId) (h0 h1 h2 : Nat) (sz : Nat) (ts : Nat → Int32) (tl : Int32) (tp : Int32) (tn : Nat → Int32) (p0 : Int32) (rr : Int32) (q_tp : Int32) (hf : f_X4_takeSign ts tl tp p0 = some (rr, q_tp)) : Met l yX4_takeSign (wo (.code yX4_takeSign cX4_takeSign 2 (some .boolean))) ({ frames := 1, cells := 0, slots := 0, locals := 21 } : Room) (preM D dA [.ref h0, .int p0] sz [(h0, .inr (2, [.ref h1, .int tl, .int tp, .ref h2])), (h1, .inl (dA 1, 60, .inl ts)), (h2, .inl (dA 0, 3, .inl tn))]) (poMi D rr [(h0, .inr (2, [.ref h1, .int tl, .int q_tp, .ref h2])), (h1, .inl (dA 1, 60, .inl ts)), (h2, .inl (dA 0, 3, .inl tn))] (va_A [(h0, .inr (2, [.ref h1, .int tl, .int tp, .ref h2])), (h1, .inl (dA 1, 60, .inl ts)), (h2, .inl (dA 0, 3, .inl tn))] sz)) 0 0 (va_A [(h0, .inr (2, [.ref h1, .int tl, .int tp, .ref h2])), (h1, .inl (dA 1, 60, .inl ts)), (h2, .inl (dA 0, 3, .inl tn))] sz) := by
  refine of_M (y := yX4_takeSign) (av := [.ref h0, .int p0]) (ws := [(h0, .inr (2, [.ref h1, .int tl, .int tp, .ref h2])), (h1, .inl (dA 1, 60, .inl ts)), (h2, .inl (dA 0, 3, .inl tn))]) (sz := sz) (own := RX4) (Qc := poMi D rr [(h0, .inr (2, [.ref h1, .int tl, .int q_tp, .ref h2])), (h1, .inl (dA 1, 60, .inl ts)), (h2, .inl (dA 0, 3, .inl tn))]) (by decide) rfl (Nat.le_of_ble_eq_true rfl) ?_
  intro p e s m below meth c A hx hb hr ha hown hml hlocks hin hP hK hD hS hA ls hl
  have hl : lv_has ls 2 [(0, .ref h0), (1, .int p0)] := hl
  rw [f_X4_takeSign] at hf
  refine lv_aload_n hx hb dX4_takeSign_0 rfl (lv_at hl 0 rfl) ?_
  refine lv_iload_n hx hb dX4_takeSign_1 rfl (lv_at hl 1 rfl) ?_
  obtain ⟨r_1, hc1, hf⟩ := sf_c1e hf
  refine k_Pi (run_PV (As := [.int p0]) (rest := []) ⟨hx, hb, hml, hown, ha⟩ (c_X4_isNext l D dA h0 h1 h2  ts tl tp tn p0 _ hc1) (gi_V m_1230 m_1232 m_22 m_80 m_1233) yd_X4_isNext ⟨Nat.le_of_ble_eq_true rfl, Nat.le_of_ble_eq_true rfl⟩ ⟨rfl, rfl⟩ hK hP [0, 1, 2] rfl 0 2 rfl rfl rfl rfl hl.1 rfl (Nat.le_of_ble_eq_true rfl) dX4_takeSign_2 ⟨Nat.le_of_ble_eq_true rfl, Nat.le_of_ble_eq_true rfl⟩) hP hS (fun H locs hP hS => ?_)
  refine lv_if_ne (tgt := 10) hx hb dX4_takeSign_5 (by decide) (fun hc => ?_) (fun hc => ?_)
  · have hf := sf_bn hf hc
    refine lv_aload_n hx hb dX4_takeSign_10 rfl (lv_at hl 0 rfl) ?_
    refine lv_dup hx hb dX4_takeSign_11 rfl ?_
    refine gt_f (C := RX4) (T := TX4) (N := 4) hx hb ha in_X4 hown hK hP 0 rfl rfl 2 (by decide) m_323 rfl dX4_takeSign_12 ?_
    refine lv_iconst (v := 1) hx hb dX4_takeSign_15 (by decide) ?_
    refine lv_iadd hx hb dX4_takeSign_16 ?_
    obtain ⟨x_2, ex_2, hf⟩ := sf_ne hf
    refine tp_i ex_2 ?_
    refine pt_f (C := RX4) (T := TX4) (N := 4) (ws' := [(h0, .inr (2, [.ref h1, .int tl, .int x_2, .ref h2])), (h1, .inl (dA 1, 60, .inl ts)), (h2, .inl (dA 0, 3, .inl tn))]) (ty := .int) hx hb ha in_X4 tyX4 tyX4_ok nmX4 hown hK hP hD hS 0 rfl rfl 2 (by decide) m_323 rfl (tyX4_ok 2 (by decide)) rfl rfl (Nat.le_of_ble_eq_true rfl) rfl dX4_takeSign_17 (fun H locs hP hD hS => ?_)
    refine lv_iconst (v := 1) hx hb dX4_takeSign_20 (by decide) ?_
    cases hf
    exact rt_Mz hx hb hr hlocks rfl (hP.sub [0, 1, 2] rfl) (hD.sub [0, 1, 2] (by decide) rfl) hS dX4_takeSign_21
  · have hf := sf_bp hf hc
    refine lv_iconst (v := 0) hx hb dX4_takeSign_8 (by decide) ?_
    cases hf
    exact rt_Mz hx hb hr hlocks rfl (hP.sub [0, 1, 2] rfl) (hD.sub [0, 1, 2] (by decide) rfl) hS dX4_takeSign_9

def f_X4_isDigitNext (ts : Nat → Int32) (tl : Int32) (tp : Int32) : Option Int32 :=
  sf_b (tl ≤ tp) (some (0 : Int32)) (sf_g (sf_in tp 60 = true) (sf_b ((ts tp.toNatClampNeg) < (48 : Int32)) (some (0 : Int32)) (sf_g (sf_in tp 60 = true) (sf_b ((57 : Int32) < (ts tp.toNatClampNeg)) (some (0 : Int32)) (some (1 : Int32))))))
theorem yd_X4_isDigitNext : yX4_isDigitNext.cls = RX4 ∧ yX4_isDigitNext.cls ≠ "java/lang/invoke/MethodHandle" ∧ yX4_isDigitNext.cls ≠ "java/lang/invoke/VarHandle" ∧ (parseMethodDescriptor yX4_isDigitNext.desc).map (fun d => d.parameters.length) = some 0 := ⟨rfl, by decide, by decide, by decide +kernel⟩
set_option maxRecDepth 100000 in
set_option maxHeartbeats 4000000 in
theorem c_X4_isDigitNext (l : Launch) (D : va_G) (dA : Nat → ClassId) (h0 h1 h2 : Nat) (ts : Nat → Int32) (tl : Int32) (tp : Int32) (tn : Nat → Int32) (rr : Int32) (hf : f_X4_isDigitNext ts tl tp = some rr) : Met l yX4_isDigitNext (wo (.code yX4_isDigitNext cX4_isDigitNext 1 (some .boolean))) ({ frames := 0, cells := 0, slots := 0, locals := 0 } : Room) (preP D dA [.ref h0] [(h0, .inr (2, [.ref h1, .int tl, .int tp, .ref h2])), (h1, .inl (dA 1, 60, .inl ts)), (h2, .inl (dA 0, 3, .inl tn))]) (poPi rr) 0 0 noA := by
  refine of_P (own := RX4) (by decide) rfl (Nat.le_of_ble_eq_true rfl) ?_
  intro p e s m below meth c hx hb hr ha hown hml hlocks hP hK hS ls hl
  have hl : lv_has ls 1 [(0, .ref h0)] := hl
  rw [f_X4_isDigitNext] at hf
  refine lv_aload_n hx hb dX4_isDigitNext_0 rfl (lv_at hl 0 rfl) ?_
  refine gt_f (C := RX4) (T := TX4) (N := 4) hx hb ha in_X4 hown hK hP 0 rfl rfl 2 (by decide) m_323 rfl dX4_isDigitNext_1 ?_
  refine lv_aload_n hx hb dX4_isDigitNext_4 rfl (lv_at hl 0 rfl) ?_
  refine gt_f (C := RX4) (T := TX4) (N := 4) hx hb ha in_X4 hown hK hP 0 rfl rfl 1 (by decide) m_321 rfl dX4_isDigitNext_5 ?_
  refine lv_icmp_ge (tgt := 43) hx hb dX4_isDigitNext_8 (by decide) (fun hc => ?_) (fun hc => ?_)
  · have hf := sf_bp hf hc
    refine lv_iconst (v := 0) hx hb dX4_isDigitNext_43 (by decide) ?_
    exact rt_Pz hx hb hr hlocks (Option.some.inj hf) rfl hS dX4_isDigitNext_44
  · have hf := sf_bn hf hc
    refine lv_aload_n hx hb dX4_isDigitNext_11 rfl (lv_at hl 0 rfl) ?_
    refine gt_f (C := RX4) (T := TX4) (N := 4) hx hb ha in_X4 hown hK hP 0 rfl rfl 0 (by decide) m_320 rfl dX4_isDigitNext_12 ?_
    refine lv_aload_n hx hb dX4_isDigitNext_15 rfl (lv_at hl 0 rfl) ?_
    refine gt_f (C := RX4) (T := TX4) (N := 4) hx hb ha in_X4 hown hK hP 0 rfl rfl 2 (by decide) m_323 rfl dX4_isDigitNext_16 ?_
    obtain ⟨hi, hf⟩ := sf_ge hf
    refine ca_ld hx hb hK hP 1 rfl hi dX4_isDigitNext_19 ?_
    refine lv_bipush (v := 48) hx hb dX4_isDigitNext_20 (by decide) ?_
    refine lv_icmp_lt (tgt := 43) hx hb dX4_isDigitNext_22 (by decide) (fun hc => ?_) (fun hc => ?_)
    · have hf := sf_bp hf hc
      refine lv_iconst (v := 0) hx hb dX4_isDigitNext_43 (by decide) ?_
      exact rt_Pz hx hb hr hlocks (Option.some.inj hf) rfl hS dX4_isDigitNext_44
    · have hf := sf_bn hf hc
      refine lv_aload_n hx hb dX4_isDigitNext_25 rfl (lv_at hl 0 rfl) ?_
      refine gt_f (C := RX4) (T := TX4) (N := 4) hx hb ha in_X4 hown hK hP 0 rfl rfl 0 (by decide) m_320 rfl dX4_isDigitNext_26 ?_
      refine lv_aload_n hx hb dX4_isDigitNext_29 rfl (lv_at hl 0 rfl) ?_
      refine gt_f (C := RX4) (T := TX4) (N := 4) hx hb ha in_X4 hown hK hP 0 rfl rfl 2 (by decide) m_323 rfl dX4_isDigitNext_30 ?_
      obtain ⟨hi, hf⟩ := sf_ge hf
      refine ca_ld hx hb hK hP 1 rfl hi dX4_isDigitNext_33 ?_
      refine lv_bipush (v := 57) hx hb dX4_isDigitNext_34 (by decide) ?_
      refine lv_icmp_gt (tgt := 43) hx hb dX4_isDigitNext_36 (by decide) (fun hc => ?_) (fun hc => ?_)
      · have hf := sf_bp hf hc
        refine lv_iconst (v := 0) hx hb dX4_isDigitNext_43 (by decide) ?_
        exact rt_Pz hx hb hr hlocks (Option.some.inj hf) rfl hS dX4_isDigitNext_44
      · have hf := sf_bn hf hc
        refine lv_iconst (v := 1) hx hb dX4_isDigitNext_39 (by decide) ?_
        refine lv_goto (tgt := 44) hx hb dX4_isDigitNext_40 (by decide) ?_
        exact rt_Pz hx hb hr hlocks (Option.some.inj hf) rfl hS dX4_isDigitNext_44

def f_X4_takeNumber_L5 (ts : Nat → Int32) (tl : Int32) (p1 : Int32) (k : Int32 → Int32 → Int32 → Option (Int32 × Int32 × (Nat → Int32))) : Nat → Int32 → Int32 → Int32 → Option (Int32 × Int32 × (Nat → Int32))
  | 0, _, _, _ => none
  | n + 1, v_1, v_2, v_3 => sf_b (p1 ≤ v_1) (k v_1 v_2 v_3) (sf_c1 (f_X4_isDigitNext ts tl v_3) (fun r_4 => sf_b (r_4 = (0 : Int32)) (k v_1 v_2 v_3) (sf_g (sf_in v_3 60 = true) (sf_n ((((10 : Int32) * v_2) + ((ts v_3.toNatClampNeg) - (48 : Int32)))) (fun x_5 => sf_n ((v_3 + (1 : Int32))) (fun x_6 => sf_n (v_1 + (1 : Int32)) (fun x_7 => f_X4_takeNumber_L5 ts tl p1 k n x_7 x_5 x_6)))))))
def f_X4_takeNumber (ts : Nat → Int32) (tl : Int32) (tp : Int32) (tn : Nat → Int32) (p0 : Int32) (p1 : Int32) : Option (Int32 × Int32 × (Nat → Int32)) :=
  f_X4_takeNumber_L5 ts tl p1 (fun y_8 y_9 y_10 => sf_g (sf_in p0 3 = true) (sf_n (upd tn p0.toNatClampNeg y_9) (fun a_11 => sf_b (y_8 ≤ (0 : Int32)) (some ((0 : Int32), y_10, a_11)) (some ((1 : Int32), y_10, a_11))))) 2000 (0 : Int32) (0 : Int32) tp
theorem yd_X4_takeNumber : yX4_takeNumber.cls = RX4 ∧ yX4_takeNumber.cls ≠ "java/lang/invoke/MethodHandle" ∧ yX4_takeNumber.cls ≠ "java/lang/invoke/VarHandle" ∧ (parseMethodDescriptor yX4_takeNumber.desc).map (fun d => d.parameters.length) = some 2 := ⟨rfl, by decide, by decide, by decide +kernel⟩
set_option maxRecDepth 100000 in
set_option maxHeartbeats 4000000 in
theorem c_X4_takeNumber (l : Launch) (D : va_G) (dA : Nat → ClassId) (h0 h1 h2 : Nat) (sz : Nat) (ts : Nat → Int32) (tl : Int32) (tp : Int32) (tn : Nat → Int32) (p0 : Int32) (p1 : Int32) (rr : Int32) (q_tp : Int32) (q_tn : Nat → Int32) (hf : f_X4_takeNumber ts tl tp tn p0 p1 = some (rr, q_tp, q_tn)) : Met l yX4_takeNumber (wo (.code yX4_takeNumber cX4_takeNumber 5 (some .boolean))) ({ frames := 1, cells := 0, slots := 0, locals := 20 } : Room) (preM D dA [.ref h0, .int p0, .int p1] sz [(h0, .inr (2, [.ref h1, .int tl, .int tp, .ref h2])), (h1, .inl (dA 1, 60, .inl ts)), (h2, .inl (dA 0, 3, .inl tn))]) (poMi D rr [(h0, .inr (2, [.ref h1, .int tl, .int q_tp, .ref h2])), (h1, .inl (dA 1, 60, .inl ts)), (h2, .inl (dA 0, 3, .inl q_tn))] (va_A [(h0, .inr (2, [.ref h1, .int tl, .int tp, .ref h2])), (h1, .inl (dA 1, 60, .inl ts)), (h2, .inl (dA 0, 3, .inl tn))] sz)) 0 0 (va_A [(h0, .inr (2, [.ref h1, .int tl, .int tp, .ref h2])), (h1, .inl (dA 1, 60, .inl ts)), (h2, .inl (dA 0, 3, .inl tn))] sz) := by
  refine of_M (y := yX4_takeNumber) (av := [.ref h0, .int p0, .int p1]) (ws := [(h0, .inr (2, [.ref h1, .int tl, .int tp, .ref h2])), (h1, .inl (dA 1, 60, .inl ts)), (h2, .inl (dA 0, 3, .inl tn))]) (sz := sz) (own := RX4) (Qc := poMi D rr [(h0, .inr (2, [.ref h1, .int tl, .int q_tp, .ref h2])), (h1, .inl (dA 1, 60, .inl ts)), (h2, .inl (dA 0, 3, .inl q_tn))]) (by decide) rfl (Nat.le_of_ble_eq_true rfl) ?_
  intro p e s m below meth c A hx hb hr ha hown hml hlocks hin hP hK hD hS hA ls hl
  have hl : lv_has ls 5 [(0, .ref h0), (1, .int p0), (2, .int p1)] := hl
  rw [f_X4_takeNumber] at hf
  refine lv_iconst (v := 0) hx hb dX4_takeNumber_0 (by decide) ?_
  refine lv_istore_n (lv' := [(3, .int (0 : Int32)), (0, .ref h0), (1, .int p0), (2, .int p1)]) hx hb dX4_takeNumber_1 rfl hl (by decide) rfl (fun ls hl => ?_)
  refine lv_iconst (v := 0) hx hb dX4_takeNumber_2 (by decide) ?_
  refine lv_istore (lv' := [(4, .int (0 : Int32)), (3, .int (0 : Int32)), (0, .ref h0), (1, .int p0), (2, .int p1)]) hx hb dX4_takeNumber_3 hl (by decide) rfl (fun ls hl => ?_)
  have hL5 : ∀ (n : Nat) (k : Int32 → Int32 → Int32 → Option (Int32 × Int32 × (Nat → Int32))) (v_1 : Int32) (v_2 : Int32) (v_3 : Int32) (H : Heap) (locs : List Loc) (ls : Array Slot), va_P D cls [(h0, .inr (2, [.ref h1, .int tl, .int v_3, .ref h2])), (h1, .inl (dA 1, 60, .inl ts)), (h2, .inl (dA 0, 3, .inl tn))] H → va_D A [(h0, .inr (2, [.ref h1, .int tl, .int v_3, .ref h2])), (h1, .inl (dA 1, 60, .inl ts)), (h2, .inl (dA 0, 3, .inl tn))] → va_S A s.heap H locs → lv_has ls 5 [(4, .int v_1), (3, .int v_2), (0, .ref h0), (1, .int p0), (2, .int p1)] → f_X4_takeNumber_L5 ts tl p1 k n v_1 v_2 v_3 = some (rr, q_tp, q_tn) → (∀ (y_8 : Int32) (y_9 : Int32) (y_10 : Int32) (H : Heap) (locs : List Loc) (ls : Array Slot), va_P D cls [(h0, .inr (2, [.ref h1, .int tl, .int y_10, .ref h2])), (h1, .inl (dA 1, 60, .inl ts)), (h2, .inl (dA 0, 3, .inl tn))] H → va_D A [(h0, .inr (2, [.ref h1, .int tl, .int y_10, .ref h2])), (h1, .inl (dA 1, 60, .inl ts)), (h2, .inl (dA 0, 3, .inl tn))] → va_S A s.heap H locs → lv_has ls 5 [(4, .int y_8), (3, .int y_9), (0, .ref h0), (1, .int p0)] → k y_8 y_9 y_10 = some (rr, q_tp, q_tn) → W p l e ({ frames := 1, cells := 0, slots := 0, locals := 20 } : Room) s m ([.ref h0, .int p0, .int p1] : List Value).toArray below meth c H locs 0 0 (MQ below (poMi D rr [(h0, .inr (2, [.ref h1, .int tl, .int q_tp, .ref h2])), (h1, .inl (dA 1, 60, .inl ts)), (h2, .inl (dA 0, 3, .inl q_tn))] A) ([.ref h0, .int p0, .int p1] : List Value).toArray s 0 0 A) (F0 m 52 ls [])) → W p l e ({ frames := 1, cells := 0, slots := 0, locals := 20 } : Room) s m ([.ref h0, .int p0, .int p1] : List Value).toArray below meth c H locs 0 0 (MQ below (poMi D rr [(h0, .inr (2, [.ref h1, .int tl, .int q_tp, .ref h2])), (h1, .inl (dA 1, 60, .inl ts)), (h2, .inl (dA 0, 3, .inl q_tn))] A) ([.ref h0, .int p0, .int p1] : List Value).toArray s 0 0 A) (F0 m 5 ls []) := by
    intro n k
    induction n with
    | zero =>
      intro v_1 v_2 v_3 H locs ls hP hD hS hl hf hk
      rw [f_X4_takeNumber_L5] at hf
      cases hf
    | succ n ih =>
      intro v_1 v_2 v_3 H locs ls hP hD hS hl hf hk
      rw [f_X4_takeNumber_L5] at hf
      refine lv_iload hx hb dX4_takeNumber_5 (lv_at hl 0 rfl) ?_
      refine lv_iload_n hx hb dX4_takeNumber_7 rfl (lv_at hl 4 rfl) ?_
      refine lv_icmp_ge (tgt := 52) hx hb dX4_takeNumber_8 (by decide) (fun hc => ?_) (fun hc => ?_)
      · have hf := sf_bp hf hc
        exact hk _ _ _ _ _ _ (hP.sub [0, 1, 2] rfl) (hD.sub [0, 1, 2] (by decide) rfl) hS (lv_sub hl [0, 1, 2, 3] rfl) hf
      · have hf := sf_bn hf hc
        refine lv_aload_n hx hb dX4_takeNumber_11 rfl (lv_at hl 2 rfl) ?_
        obtain ⟨r_4, hc4, hf⟩ := sf_c1e hf
        refine k_Pi (run_PV (As := []) (rest := []) ⟨hx, hb, hml, hown, ha⟩ (c_X4_isDigitNext l D dA h0 h1 h2  ts tl v_3 tn _ hc4) (gi_V m_1301 m_1303 m_27 m_80 m_1304) yd_X4_isDigitNext ⟨Nat.le_of_ble_eq_true rfl, Nat.le_of_ble_eq_true rfl⟩ ⟨rfl, rfl⟩ hK hP [0, 1, 2] rfl 0 2 rfl rfl rfl rfl hl.1 rfl (Nat.le_of_ble_eq_true rfl) dX4_takeNumber_12 ⟨Nat.le_of_ble_eq_true rfl, Nat.le_of_ble_eq_true rfl⟩) hP hS (fun H locs hP hS => ?_)
        refine lv_if_eq (tgt := 52) hx hb dX4_takeNumber_15 (by decide) (fun hc => ?_) (fun hc => ?_)
        · have hf := sf_bp hf hc
          exact hk _ _ _ _ _ _ (hP.sub [0, 1, 2] rfl) (hD.sub [0, 1, 2] (by decide) rfl) hS (lv_sub hl [0, 1, 2, 3] rfl) hf
        · have hf := sf_bn hf hc
          refine lv_bipush (v := 10) hx hb dX4_takeNumber_18 (by decide) ?_
          refine lv_iload_n hx hb dX4_takeNumber_20 rfl (lv_at hl 1 rfl) ?_
          refine lv_imul hx hb dX4_takeNumber_21 ?_
          refine lv_aload_n hx hb dX4_takeNumber_22 rfl (lv_at hl 2 rfl) ?_
          refine gt_f (C := RX4) (T := TX4) (N := 4) hx hb ha in_X4 hown hK hP 0 rfl rfl 0 (by decide) m_320 rfl dX4_takeNumber_23 ?_
          refine lv_aload_n hx hb dX4_takeNumber_26 rfl (lv_at hl 2 rfl) ?_
          refine gt_f (C := RX4) (T := TX4) (N := 4) hx hb ha in_X4 hown hK hP 0 rfl rfl 2 (by decide) m_323 rfl dX4_takeNumber_27 ?_
          obtain ⟨hi, hf⟩ := sf_ge hf
          refine ca_ld hx hb hK hP 1 rfl hi dX4_takeNumber_30 ?_
          refine lv_bipush (v := 48) hx hb dX4_takeNumber_31 (by decide) ?_
          refine lv_isub hx hb dX4_takeNumber_33 ?_
          refine lv_iadd hx hb dX4_takeNumber_34 ?_
          obtain ⟨x_5, ex_5, hf⟩ := sf_ne hf
          refine tp_i ex_5 ?_
          refine lv_istore_n (lv' := [(3, .int x_5), (4, .int v_1), (0, .ref h0), (1, .int p0), (2, .int p1)]) hx hb dX4_takeNumber_35 rfl hl (by decide) rfl (fun ls hl => ?_)
          refine lv_aload_n hx hb dX4_takeNumber_36 rfl (lv_at hl 2 rfl) ?_
          refine lv_dup hx hb dX4_takeNumber_37 rfl ?_
          refine gt_f (C := RX4) (T := TX4) (N := 4) hx hb ha in_X4 hown hK hP 0 rfl rfl 2 (by decide) m_323 rfl dX4_takeNumber_38 ?_
          refine lv_iconst (v := 1) hx hb dX4_takeNumber_41 (by decide) ?_
          refine lv_iadd hx hb dX4_takeNumber_42 ?_
          obtain ⟨x_6, ex_6, hf⟩ := sf_ne hf
          refine tp_i ex_6 ?_
          refine pt_f (C := RX4) (T := TX4) (N := 4) (ws' := [(h0, .inr (2, [.ref h1, .int tl, .int x_6, .ref h2])), (h1, .inl (dA 1, 60, .inl ts)), (h2, .inl (dA 0, 3, .inl tn))]) (ty := .int) hx hb ha in_X4 tyX4 tyX4_ok nmX4 hown hK hP hD hS 0 rfl rfl 2 (by decide) m_323 rfl (tyX4_ok 2 (by decide)) rfl rfl (Nat.le_of_ble_eq_true rfl) rfl dX4_takeNumber_43 (fun H locs hP hD hS => ?_)
          obtain ⟨x_7, ex_7, hf⟩ := sf_ne hf
          refine ii_nc (lv' := [(4, .int x_7), (3, .int x_5), (0, .ref h0), (1, .int p0), (2, .int p1)]) (k := 1) hx hb dX4_takeNumber_46 hl rfl ex_7 (by decide) (by decide) rfl (fun ls hl => ?_)
          refine lv_goto (tgt := 5) hx hb dX4_takeNumber_49 (by decide) ?_
          exact ih _ _ _ _ _ _ (hP.sub [0, 1, 2] rfl) (hD.sub [0, 1, 2] (by decide) rfl) hS (lv_sub hl [0, 1, 2, 3, 4] rfl) hf hk
  refine hL5 _ _ _ _ _ _ _ _ hP hD hS (lv_sub hl [0, 1, 2, 3, 4] rfl) hf (fun y_8 y_9 y_10 H locs ls hP hD hS hl hf => ?_)
  refine lv_aload_n hx hb dX4_takeNumber_52 rfl (lv_at hl 2 rfl) ?_
  refine gt_f (C := RX4) (T := TX4) (N := 4) hx hb ha in_X4 hown hK hP 0 rfl rfl 3 (by decide) m_325 rfl dX4_takeNumber_53 ?_
  refine lv_iload_n hx hb dX4_takeNumber_56 rfl (lv_at hl 3 rfl) ?_
  refine lv_iload_n hx hb dX4_takeNumber_57 rfl (lv_at hl 1 rfl) ?_
  obtain ⟨hi, hf⟩ := sf_ge hf
  obtain ⟨a_11, ea_11, hf⟩ := sf_ne hf
  refine ia_st (ws' := [(h0, .inr (2, [.ref h1, .int tl, .int y_10, .ref h2])), (h1, .inl (dA 1, 60, .inl ts)), (h2, .inl (dA 0, 3, .inl a_11))]) hx hb hK hP hD hS 2 rfl hi ea_11 rfl dX4_takeNumber_58 (fun H locs hP hD hS => ?_)
  refine lv_iload hx hb dX4_takeNumber_59 (lv_at hl 0 rfl) ?_
  refine lv_if_le (tgt := 68) hx hb dX4_takeNumber_61 (by decide) (fun hc => ?_) (fun hc => ?_)
  · have hf := sf_bp hf hc
    refine lv_iconst (v := 0) hx hb dX4_takeNumber_68 (by decide) ?_
    cases hf
    exact rt_Mz hx hb hr hlocks rfl (hP.sub [0, 1, 2] rfl) (hD.sub [0, 1, 2] (by decide) rfl) hS dX4_takeNumber_69
  · have hf := sf_bn hf hc
    refine lv_iconst (v := 1) hx hb dX4_takeNumber_64 (by decide) ?_
    refine lv_goto (tgt := 69) hx hb dX4_takeNumber_65 (by decide) ?_
    cases hf
    exact rt_Mz hx hb hr hlocks rfl (hP.sub [0, 1, 2] rfl) (hD.sub [0, 1, 2] (by decide) rfl) hS dX4_takeNumber_69

