def f_X4_append (ts : Nat → Int32) (tl : Int32) (p0 : Int32) : Option ((Nat → Int32) × Int32) :=
  sf_g (sf_in tl 60 = true) (sf_n (upd ts tl.toNatClampNeg (vp_nar .char p0)) (fun a_1 => sf_n ((tl + (1 : Int32))) (fun x_2 => some (a_1, x_2))))
theorem yd_X4_append : yX4_append.cls = RX4 ∧ yX4_append.cls ≠ "java/lang/invoke/MethodHandle" ∧ yX4_append.cls ≠ "java/lang/invoke/VarHandle" ∧ (parseMethodDescriptor yX4_append.desc).map (fun d => d.parameters.length) = some 1 := ⟨rfl, by decide, by decide, by decide +kernel⟩
set_option maxRecDepth 100000 in
set_option maxHeartbeats 4000000 in
theorem c_X4_append (l : Launch) (D : va_G) (dA : Nat → ClassId) (h0 h1 h2 : Nat) (sz : Nat) (ts : Nat → Int32) (tl : Int32) (tp : Int32) (tn : Nat → Int32) (p0 : Int32) (q_ts : Nat → Int32) (q_tl : Int32) (hf : f_X4_append ts tl p0 = some (q_ts, q_tl)) : Met l yX4_append (wo (.code yX4_append cX4_append 2 none)) ({ frames := 0, cells := 0, slots := 0, locals := 0 } : Room) (preM D dA [.ref h0, .int p0] sz [(h0, .inr (2, [.ref h1, .int tl, .int tp, .ref h2])), (h1, .inl (dA 1, 60, .inl ts)), (h2, .inl (dA 0, 3, .inl tn))]) (poMv D [(h0, .inr (2, [.ref h1, .int q_tl, .int tp, .ref h2])), (h1, .inl (dA 1, 60, .inl q_ts)), (h2, .inl (dA 0, 3, .inl tn))] (va_A [(h0, .inr (2, [.ref h1, .int tl, .int tp, .ref h2])), (h1, .inl (dA 1, 60, .inl ts)), (h2, .inl (dA 0, 3, .inl tn))] sz)) 0 0 (va_A [(h0, .inr (2, [.ref h1, .int tl, .int tp, .ref h2])), (h1, .inl (dA 1, 60, .inl ts)), (h2, .inl (dA 0, 3, .inl tn))] sz) := by
  refine of_M (y := yX4_append) (cc := cX4_append) (maxL := 2) (ret := none) (av := [.ref h0, .int p0]) (ws := [(h0, .inr (2, [.ref h1, .int tl, .int tp, .ref h2])), (h1, .inl (dA 1, 60, .inl ts)), (h2, .inl (dA 0, 3, .inl tn))]) (sz := sz) (own := RX4) (Qc := poMv D [(h0, .inr (2, [.ref h1, .int q_tl, .int tp, .ref h2])), (h1, .inl (dA 1, 60, .inl q_ts)), (h2, .inl (dA 0, 3, .inl tn))]) (by decide) rfl (Nat.le_of_ble_eq_true rfl) ?_
  intro p e s m below meth c A hx hb hr ha hown hml hlocks hin hP hK hD hS hA ls hl
  have hl : lv_has ls 2 [(0, .ref h0), (1, .int p0)] := hl
  rw [f_X4_append] at hf
  refine lv_aload_n hx hb dX4_append_0 rfl (lv_at hl 0 rfl) ?_
  refine gt_f (C := RX4) (T := TX4) (N := 4) hx hb ha in_X4 hown hK hP 0 rfl rfl 0 (by decide) m_282 rfl dX4_append_1 ?_
  refine lv_aload_n hx hb dX4_append_4 rfl (lv_at hl 0 rfl) ?_
  refine gt_f (C := RX4) (T := TX4) (N := 4) hx hb ha in_X4 hown hK hP 0 rfl rfl 1 (by decide) m_283 rfl dX4_append_5 ?_
  refine lv_iload_n hx hb dX4_append_8 rfl (lv_at hl 1 rfl) ?_
  obtain ⟨hi, hf⟩ := sf_ge hf
  obtain ⟨a_1, ea_1, hf⟩ := sf_ne hf
  refine ca_st (ws' := [(h0, .inr (2, [.ref h1, .int tl, .int tp, .ref h2])), (h1, .inl (dA 1, 60, .inl a_1)), (h2, .inl (dA 0, 3, .inl tn))]) hx hb hK hP hD hS 1 rfl hi ea_1 rfl dX4_append_9 (fun H locs hP hD hS => ?_)
  refine lv_aload_n hx hb dX4_append_10 rfl (lv_at hl 0 rfl) ?_
  refine lv_dup hx hb dX4_append_11 rfl ?_
  refine gt_f (C := RX4) (T := TX4) (N := 4) hx hb ha in_X4 hown hK hP 0 rfl rfl 1 (by decide) m_283 rfl dX4_append_12 ?_
  refine lv_iconst (v := 1) hx hb dX4_append_15 (by decide) ?_
  refine lv_iadd hx hb dX4_append_16 ?_
  obtain ⟨x_2, ex_2, hf⟩ := sf_ne hf
  refine tp_i ex_2 ?_
  refine pt_f (C := RX4) (T := TX4) (N := 4) (ws' := [(h0, .inr (2, [.ref h1, .int x_2, .int tp, .ref h2])), (h1, .inl (dA 1, 60, .inl a_1)), (h2, .inl (dA 0, 3, .inl tn))]) (ty := .int) hx hb ha in_X4 tyX4 tyX4_ok nmX4 hown hK hP hD hS 0 rfl rfl 1 (by decide) m_283 rfl (tyX4_ok 1 (by decide)) rfl rfl (Nat.le_of_ble_eq_true rfl) rfl dX4_append_17 (fun H locs hP hD hS => ?_)
  cases hf
  exact rt_Mv hx hb hr hlocks (hP.sub [0, 1, 2] rfl) (hD.sub [0, 1, 2] (by decide) rfl) hS dX4_append_20

def f_X4_empty (tl : Int32) : Option Int32 :=
  some (0 : Int32)
theorem yd_X4_empty : yX4_empty.cls = RX4 ∧ yX4_empty.cls ≠ "java/lang/invoke/MethodHandle" ∧ yX4_empty.cls ≠ "java/lang/invoke/VarHandle" ∧ (parseMethodDescriptor yX4_empty.desc).map (fun d => d.parameters.length) = some 0 := ⟨rfl, by decide, by decide, by decide +kernel⟩
set_option maxRecDepth 100000 in
set_option maxHeartbeats 4000000 in
theorem c_X4_empty (l : Launch) (D : va_G) (dA : Nat → ClassId) (h0 h1 h2 : Nat) (sz : Nat) (ts : Nat → Int32) (tl : Int32) (tp : Int32) (tn : Nat → Int32) (q_tl : Int32) (hf : f_X4_empty tl = some q_tl) : Met l yX4_empty (wo (.code yX4_empty cX4_empty 1 none)) ({ frames := 0, cells := 0, slots := 0, locals := 0 } : Room) (preM D dA [.ref h0] sz [(h0, .inr (2, [.ref h1, .int tl, .int tp, .ref h2])), (h1, .inl (dA 1, 60, .inl ts)), (h2, .inl (dA 0, 3, .inl tn))]) (poMv D [(h0, .inr (2, [.ref h1, .int q_tl, .int tp, .ref h2])), (h1, .inl (dA 1, 60, .inl ts)), (h2, .inl (dA 0, 3, .inl tn))] (va_A [(h0, .inr (2, [.ref h1, .int tl, .int tp, .ref h2])), (h1, .inl (dA 1, 60, .inl ts)), (h2, .inl (dA 0, 3, .inl tn))] sz)) 0 0 (va_A [(h0, .inr (2, [.ref h1, .int tl, .int tp, .ref h2])), (h1, .inl (dA 1, 60, .inl ts)), (h2, .inl (dA 0, 3, .inl tn))] sz) := by
  refine of_M (y := yX4_empty) (cc := cX4_empty) (maxL := 1) (ret := none) (av := [.ref h0]) (ws := [(h0, .inr (2, [.ref h1, .int tl, .int tp, .ref h2])), (h1, .inl (dA 1, 60, .inl ts)), (h2, .inl (dA 0, 3, .inl tn))]) (sz := sz) (own := RX4) (Qc := poMv D [(h0, .inr (2, [.ref h1, .int q_tl, .int tp, .ref h2])), (h1, .inl (dA 1, 60, .inl ts)), (h2, .inl (dA 0, 3, .inl tn))]) (by decide) rfl (Nat.le_of_ble_eq_true rfl) ?_
  intro p e s m below meth c A hx hb hr ha hown hml hlocks hin hP hK hD hS hA ls hl
  have hl : lv_has ls 1 [(0, .ref h0)] := hl
  rw [f_X4_empty] at hf
  refine lv_aload_n hx hb dX4_empty_0 rfl (lv_at hl 0 rfl) ?_
  refine lv_iconst (v := 0) hx hb dX4_empty_1 (by decide) ?_
  refine pt_f (C := RX4) (T := TX4) (N := 4) (ws' := [(h0, .inr (2, [.ref h1, .int (0 : Int32), .int tp, .ref h2])), (h1, .inl (dA 1, 60, .inl ts)), (h2, .inl (dA 0, 3, .inl tn))]) (ty := .int) hx hb ha in_X4 tyX4 tyX4_ok nmX4 hown hK hP hD hS 0 rfl rfl 1 (by decide) m_283 rfl (tyX4_ok 1 (by decide)) rfl rfl (Nat.le_of_ble_eq_true rfl) rfl dX4_empty_2 (fun H locs hP hD hS => ?_)
  cases hf
  exact rt_Mv hx hb hr hlocks (hP.sub [0, 1, 2] rfl) (hD.sub [0, 1, 2] (by decide) rfl) hS dX4_empty_5

def f_X4_rewind (tp : Int32) : Option Int32 :=
  some (0 : Int32)
theorem yd_X4_rewind : yX4_rewind.cls = RX4 ∧ yX4_rewind.cls ≠ "java/lang/invoke/MethodHandle" ∧ yX4_rewind.cls ≠ "java/lang/invoke/VarHandle" ∧ (parseMethodDescriptor yX4_rewind.desc).map (fun d => d.parameters.length) = some 0 := ⟨rfl, by decide, by decide, by decide +kernel⟩
set_option maxRecDepth 100000 in
set_option maxHeartbeats 4000000 in
theorem c_X4_rewind (l : Launch) (D : va_G) (dA : Nat → ClassId) (h0 h1 h2 : Nat) (sz : Nat) (ts : Nat → Int32) (tl : Int32) (tp : Int32) (tn : Nat → Int32) (q_tp : Int32) (hf : f_X4_rewind tp = some q_tp) : Met l yX4_rewind (wo (.code yX4_rewind cX4_rewind 1 none)) ({ frames := 0, cells := 0, slots := 0, locals := 0 } : Room) (preM D dA [.ref h0] sz [(h0, .inr (2, [.ref h1, .int tl, .int tp, .ref h2])), (h1, .inl (dA 1, 60, .inl ts)), (h2, .inl (dA 0, 3, .inl tn))]) (poMv D [(h0, .inr (2, [.ref h1, .int tl, .int q_tp, .ref h2])), (h1, .inl (dA 1, 60, .inl ts)), (h2, .inl (dA 0, 3, .inl tn))] (va_A [(h0, .inr (2, [.ref h1, .int tl, .int tp, .ref h2])), (h1, .inl (dA 1, 60, .inl ts)), (h2, .inl (dA 0, 3, .inl tn))] sz)) 0 0 (va_A [(h0, .inr (2, [.ref h1, .int tl, .int tp, .ref h2])), (h1, .inl (dA 1, 60, .inl ts)), (h2, .inl (dA 0, 3, .inl tn))] sz) := by
  refine of_M (y := yX4_rewind) (cc := cX4_rewind) (maxL := 1) (ret := none) (av := [.ref h0]) (ws := [(h0, .inr (2, [.ref h1, .int tl, .int tp, .ref h2])), (h1, .inl (dA 1, 60, .inl ts)), (h2, .inl (dA 0, 3, .inl tn))]) (sz := sz) (own := RX4) (Qc := poMv D [(h0, .inr (2, [.ref h1, .int tl, .int q_tp, .ref h2])), (h1, .inl (dA 1, 60, .inl ts)), (h2, .inl (dA 0, 3, .inl tn))]) (by decide) rfl (Nat.le_of_ble_eq_true rfl) ?_
  intro p e s m below meth c A hx hb hr ha hown hml hlocks hin hP hK hD hS hA ls hl
  have hl : lv_has ls 1 [(0, .ref h0)] := hl
  rw [f_X4_rewind] at hf
  refine lv_aload_n hx hb dX4_rewind_0 rfl (lv_at hl 0 rfl) ?_
  refine lv_iconst (v := 0) hx hb dX4_rewind_1 (by decide) ?_
  refine pt_f (C := RX4) (T := TX4) (N := 4) (ws' := [(h0, .inr (2, [.ref h1, .int tl, .int (0 : Int32), .ref h2])), (h1, .inl (dA 1, 60, .inl ts)), (h2, .inl (dA 0, 3, .inl tn))]) (ty := .int) hx hb ha in_X4 tyX4 tyX4_ok nmX4 hown hK hP hD hS 0 rfl rfl 2 (by decide) m_285 rfl (tyX4_ok 2 (by decide)) rfl rfl (Nat.le_of_ble_eq_true rfl) rfl dX4_rewind_2 (fun H locs hP hD hS => ?_)
  cases hf
  exact rt_Mv hx hb hr hlocks (hP.sub [0, 1, 2] rfl) (hD.sub [0, 1, 2] (by decide) rfl) hS dX4_rewind_5

def f_X4_isNext (ts : Nat → Int32) (tl : Int32) (tp : Int32) (p0 : Int32) : Option Int32 :=
  sf_b (tl ≤ tp) (some (0 : Int32)) (sf_g (sf_in tp 60 = true) (sf_b ((ts tp.toNatClampNeg) = p0) (some (1 : Int32)) (some (0 : Int32))))
theorem yd_X4_isNext : yX4_isNext.cls = RX4 ∧ yX4_isNext.cls ≠ "java/lang/invoke/MethodHandle" ∧ yX4_isNext.cls ≠ "java/lang/invoke/VarHandle" ∧ (parseMethodDescriptor yX4_isNext.desc).map (fun d => d.parameters.length) = some 1 := ⟨rfl, by decide, by decide, by decide +kernel⟩
set_option maxRecDepth 100000 in
set_option maxHeartbeats 4000000 in
theorem c_X4_isNext (l : Launch) (D : va_G) (dA : Nat → ClassId) (h0 h1 h2 : Nat) (ts : Nat → Int32) (tl : Int32) (tp : Int32) (tn : Nat → Int32) (p0 : Int32) (rr : Int32) (hf : f_X4_isNext ts tl tp p0 = some rr) : Met l yX4_isNext (wo (.code yX4_isNext cX4_isNext 2 (some .boolean))) ({ frames := 0, cells := 0, slots := 0, locals := 0 } : Room) (preP D dA [.ref h0, .int p0] [(h0, .inr (2, [.ref h1, .int tl, .int tp, .ref h2])), (h1, .inl (dA 1, 60, .inl ts)), (h2, .inl (dA 0, 3, .inl tn))]) (poPi rr) 0 0 noA := by
  refine of_P (own := RX4) (by decide) rfl (Nat.le_of_ble_eq_true rfl) ?_
  intro p e s m below meth c hx hb hr ha hown hml hlocks hP hK hS ls hl
  have hl : lv_has ls 2 [(0, .ref h0), (1, .int p0)] := hl
  rw [f_X4_isNext] at hf
  refine lv_aload_n hx hb dX4_isNext_0 rfl (lv_at hl 0 rfl) ?_
  refine gt_f (C := RX4) (T := TX4) (N := 4) hx hb ha in_X4 hown hK hP 0 rfl rfl 2 (by decide) m_285 rfl dX4_isNext_1 ?_
  refine lv_aload_n hx hb dX4_isNext_4 rfl (lv_at hl 0 rfl) ?_
  refine gt_f (C := RX4) (T := TX4) (N := 4) hx hb ha in_X4 hown hK hP 0 rfl rfl 1 (by decide) m_283 rfl dX4_isNext_5 ?_
  refine lv_icmp_ge (tgt := 28) hx hb dX4_isNext_8 (by decide) (fun hc => ?_) (fun hc => ?_)
  · have hf := sf_bp hf hc
    refine lv_iconst (v := 0) hx hb dX4_isNext_28 (by decide) ?_
    exact rt_Pz hx hb hr hlocks (Option.some.inj hf) rfl hS dX4_isNext_29
  · have hf := sf_bn hf hc
    refine lv_aload_n hx hb dX4_isNext_11 rfl (lv_at hl 0 rfl) ?_
    refine gt_f (C := RX4) (T := TX4) (N := 4) hx hb ha in_X4 hown hK hP 0 rfl rfl 0 (by decide) m_282 rfl dX4_isNext_12 ?_
    refine lv_aload_n hx hb dX4_isNext_15 rfl (lv_at hl 0 rfl) ?_
    refine gt_f (C := RX4) (T := TX4) (N := 4) hx hb ha in_X4 hown hK hP 0 rfl rfl 2 (by decide) m_285 rfl dX4_isNext_16 ?_
    obtain ⟨hi, hf⟩ := sf_ge hf
    refine ca_ld hx hb hK hP 1 rfl hi dX4_isNext_19 ?_
    refine lv_iload_n hx hb dX4_isNext_20 rfl (lv_at hl 1 rfl) ?_
    refine lv_icmp_ne (tgt := 28) hx hb dX4_isNext_21 (by decide) (fun hc => ?_) (fun hc => ?_)
    · have hf := sf_bn hf hc
      refine lv_iconst (v := 0) hx hb dX4_isNext_28 (by decide) ?_
      exact rt_Pz hx hb hr hlocks (Option.some.inj hf) rfl hS dX4_isNext_29
    · have hf := sf_bp hf hc
      refine lv_iconst (v := 1) hx hb dX4_isNext_24 (by decide) ?_
      refine lv_goto (tgt := 29) hx hb dX4_isNext_25 (by decide) ?_
      exact rt_Pz hx hb hr hlocks (Option.some.inj hf) rfl hS dX4_isNext_29

def f_X4_takeSign (ts : Nat → Int32) (tl : Int32) (tp : Int32) (p0 : Int32) : Option (Int32 × Int32) :=
  sf_c1 (f_X4_isNext ts tl tp p0) (fun r_1 => sf_b (r_1 = (0 : Int32)) (some ((0 : Int32), tp)) (sf_n ((tp + (1 : Int32))) (fun x_2 => some ((1 : Int32), x_2))))
theorem yd_X4_takeSign : yX4_takeSign.cls = RX4 ∧ yX4_takeSign.cls ≠ "java/lang/invoke/MethodHandle" ∧ yX4_takeSign.cls ≠ "java/lang/invoke/VarHandle" ∧ (parseMethodDescriptor yX4_takeSign.desc).map (fun d => d.parameters.length) = some 1 := ⟨rfl, by decide, by decide, by decide +kernel⟩
set_option maxRecDepth 100000 in
set_option maxHeartbeats 4000000 in
theorem c_X4_takeSign (l : Launch) (D : va_G) (dA : Nat → ClassId) (h0 h1 h2 : Nat) (sz : Nat) (ts : Nat → Int32) (tl : Int32) (tp : Int32) (tn : Nat → Int32) (p0 : Int32) (rr : Int32) (q_tp : Int32) (hf : f_X4_takeSign ts tl tp p0 = some (rr, q_tp)) : Met l yX4_takeSign (wo (.code yX4_takeSign cX4_takeSign 2 (some .boolean))) ({ frames := 1, cells := 0, slots := 0, locals := 21 } : Room) (preM D dA [.ref h0, .int p0] sz [(h0, .inr (2, [.ref h1, .int tl, .int tp, .ref h2])), (h1, .inl (dA 1, 60, .inl ts)), (h2, .inl (dA 0, 3, .inl tn))]) (poMi D rr [(h0, .inr (2, [.ref h1, .int tl, .int q_tp, .ref h2])), (h1, .inl (dA 1, 60, .inl ts)), (h2, .inl (dA 0, 3, .inl tn))] (va_A [(h0, .inr (2, [.ref h1, .int tl, .int tp, .ref h2])), (h1, .inl (dA 1, 60, .inl ts)), (h2, .inl (dA 0, 3, .inl tn))] sz)) 0 0 (va_A [(h0, .inr (2, [.ref h1, .int tl, .int tp, .ref h2])), (h1, .inl (dA 1, 60, .inl ts)), (h2, .inl (dA 0, 3, .inl tn))] sz) := by
  refine of_M (y := yX4_takeSign) (cc := cX4_takeSign) (maxL := 2) (ret := (some .boolean)) (av := [.ref h0, .int p0]) (ws := [(h0, .inr (2, [.ref h1, .int tl, .int tp, .ref h2])), (h1, .inl (dA 1, 60, .inl ts)), (h2, .inl (dA 0, 3, .inl tn))]) (sz := sz) (own := RX4) (Qc := poMi D rr [(h0, .inr (2, [.ref h1, .int tl, .int q_tp, .ref h2])), (h1, .inl (dA 1, 60, .inl ts)), (h2, .inl (dA 0, 3, .inl tn))]) (by decide) rfl (Nat.le_of_ble_eq_true rfl) ?_
  intro p e s m below meth c A hx hb hr ha hown hml hlocks hin hP hK hD hS hA ls hl
  have hl : lv_has ls 2 [(0, .ref h0), (1, .int p0)] := hl
  rw [f_X4_takeSign] at hf
  refine lv_aload_n hx hb dX4_takeSign_0 rfl (lv_at hl 0 rfl) ?_
  refine lv_iload_n hx hb dX4_takeSign_1 rfl (lv_at hl 1 rfl) ?_
  obtain ⟨r_1, hc1, hf⟩ := sf_c1e hf
  refine k_Pi (run_PV (As := [.int p0]) (rest := []) ⟨hx, hb, hml, hown, ha⟩ (c_X4_isNext l D dA h0 h1 h2  ts tl tp tn p0 _ hc1) (gi_V m_1563 m_1565 m_23 m_40 m_1566) yd_X4_isNext ⟨Nat.le_of_ble_eq_true rfl, Nat.le_of_ble_eq_true rfl⟩ ⟨rfl, rfl⟩ hK hP [0, 1, 2] rfl 0 2 rfl rfl rfl rfl hl.1 rfl (Nat.le_of_ble_eq_true rfl) dX4_takeSign_2 ⟨Nat.le_of_ble_eq_true rfl, Nat.le_of_ble_eq_true rfl⟩) hP hS (fun H locs hP hS => ?_)
  refine lv_if_ne (tgt := 10) hx hb dX4_takeSign_5 (by decide) (fun hc => ?_) (fun hc => ?_)
  · have hf := sf_bn hf hc
    refine lv_aload_n hx hb dX4_takeSign_10 rfl (lv_at hl 0 rfl) ?_
    refine lv_dup hx hb dX4_takeSign_11 rfl ?_
    refine gt_f (C := RX4) (T := TX4) (N := 4) hx hb ha in_X4 hown hK hP 0 rfl rfl 2 (by decide) m_285 rfl dX4_takeSign_12 ?_
    refine lv_iconst (v := 1) hx hb dX4_takeSign_15 (by decide) ?_
    refine lv_iadd hx hb dX4_takeSign_16 ?_
    obtain ⟨x_2, ex_2, hf⟩ := sf_ne hf
    refine tp_i ex_2 ?_
    refine pt_f (C := RX4) (T := TX4) (N := 4) (ws' := [(h0, .inr (2, [.ref h1, .int tl, .int x_2, .ref h2])), (h1, .inl (dA 1, 60, .inl ts)), (h2, .inl (dA 0, 3, .inl tn))]) (ty := .int) hx hb ha in_X4 tyX4 tyX4_ok nmX4 hown hK hP hD hS 0 rfl rfl 2 (by decide) m_285 rfl (tyX4_ok 2 (by decide)) rfl rfl (Nat.le_of_ble_eq_true rfl) rfl dX4_takeSign_17 (fun H locs hP hD hS => ?_)
    refine lv_iconst (v := 1) hx hb dX4_takeSign_20 (by decide) ?_
    cases hf
    exact rt_Mz hx hb hr hlocks rfl (hP.sub [0, 1, 2] rfl) (hD.sub [0, 1, 2] (by decide) rfl) hS dX4_takeSign_21
  · have hf := sf_bp hf hc
    refine lv_iconst (v := 0) hx hb dX4_takeSign_8 (by decide) ?_
    cases hf
    exact rt_Mz hx hb hr hlocks rfl (hP.sub [0, 1, 2] rfl) (hD.sub [0, 1, 2] (by decide) rfl) hS dX4_takeSign_9

def f_X4_isDigitNext (ts : Nat → Int32) (tl : Int32) (tp : Int32) : Option Int32 :=
  sf_b (tl ≤ tp) (some (0 : Int32)) (sf_g (sf_in tp 60 = true) (sf_b ((ts tp.toNatClampNeg) < (48 : Int32)) (some (0 : Int32)) (sf_g (sf_in tp 60 = true) (sf_b ((57 : Int32) < (ts tp.toNatClampNeg)) (some (0 : Int32)) (some (1 : Int32))))))
theorem yd_X4_isDigitNext : yX4_isDigitNext.cls = RX4 ∧ yX4_isDigitNext.cls ≠ "java/lang/invoke/MethodHandle" ∧ yX4_isDigitNext.cls ≠ "java/lang/invoke/VarHandle" ∧ (parseMethodDescriptor yX4_isDigitNext.desc).map (fun d => d.parameters.length) = some 0 := ⟨rfl, by decide, by decide, by decide +kernel⟩
set_option maxRecDepth 100000 in
set_option maxHeartbeats 4000000 in
theorem c_X4_isDigitNext (l : Launch) (D : va_G) (dA : Nat → ClassId) (h0 h1 h2 : Nat) (ts : Nat → Int32) (tl : Int32) (tp : Int32) (tn : Nat → Int32) (rr : Int32) (hf : f_X4_isDigitNext ts tl tp = some rr) : Met l yX4_isDigitNext (wo (.code yX4_isDigitNext cX4_isDigitNext 1 (some .boolean))) ({ frames := 0, cells := 0, slots := 0, locals := 0 } : Room) (preP D dA [.ref h0] [(h0, .inr (2, [.ref h1, .int tl, .int tp, .ref h2])), (h1, .inl (dA 1, 60, .inl ts)), (h2, .inl (dA 0, 3, .inl tn))]) (poPi rr) 0 0 noA := by
  refine of_P (own := RX4) (by decide) rfl (Nat.le_of_ble_eq_true rfl) ?_
  intro p e s m below meth c hx hb hr ha hown hml hlocks hP hK hS ls hl
  have hl : lv_has ls 1 [(0, .ref h0)] := hl
  rw [f_X4_isDigitNext] at hf
  refine lv_aload_n hx hb dX4_isDigitNext_0 rfl (lv_at hl 0 rfl) ?_
  refine gt_f (C := RX4) (T := TX4) (N := 4) hx hb ha in_X4 hown hK hP 0 rfl rfl 2 (by decide) m_285 rfl dX4_isDigitNext_1 ?_
  refine lv_aload_n hx hb dX4_isDigitNext_4 rfl (lv_at hl 0 rfl) ?_
  refine gt_f (C := RX4) (T := TX4) (N := 4) hx hb ha in_X4 hown hK hP 0 rfl rfl 1 (by decide) m_283 rfl dX4_isDigitNext_5 ?_
  refine lv_icmp_ge (tgt := 43) hx hb dX4_isDigitNext_8 (by decide) (fun hc => ?_) (fun hc => ?_)
  · have hf := sf_bp hf hc
    refine lv_iconst (v := 0) hx hb dX4_isDigitNext_43 (by decide) ?_
    exact rt_Pz hx hb hr hlocks (Option.some.inj hf) rfl hS dX4_isDigitNext_44
  · have hf := sf_bn hf hc
    refine lv_aload_n hx hb dX4_isDigitNext_11 rfl (lv_at hl 0 rfl) ?_
    refine gt_f (C := RX4) (T := TX4) (N := 4) hx hb ha in_X4 hown hK hP 0 rfl rfl 0 (by decide) m_282 rfl dX4_isDigitNext_12 ?_
    refine lv_aload_n hx hb dX4_isDigitNext_15 rfl (lv_at hl 0 rfl) ?_
    refine gt_f (C := RX4) (T := TX4) (N := 4) hx hb ha in_X4 hown hK hP 0 rfl rfl 2 (by decide) m_285 rfl dX4_isDigitNext_16 ?_
    obtain ⟨hi, hf⟩ := sf_ge hf
    refine ca_ld hx hb hK hP 1 rfl hi dX4_isDigitNext_19 ?_
    refine lv_bipush (v := 48) hx hb dX4_isDigitNext_20 (by decide) ?_
    refine lv_icmp_lt (tgt := 43) hx hb dX4_isDigitNext_22 (by decide) (fun hc => ?_) (fun hc => ?_)
    · have hf := sf_bp hf hc
      refine lv_iconst (v := 0) hx hb dX4_isDigitNext_43 (by decide) ?_
      exact rt_Pz hx hb hr hlocks (Option.some.inj hf) rfl hS dX4_isDigitNext_44
    · have hf := sf_bn hf hc
      refine lv_aload_n hx hb dX4_isDigitNext_25 rfl (lv_at hl 0 rfl) ?_
      refine gt_f (C := RX4) (T := TX4) (N := 4) hx hb ha in_X4 hown hK hP 0 rfl rfl 0 (by decide) m_282 rfl dX4_isDigitNext_26 ?_
      refine lv_aload_n hx hb dX4_isDigitNext_29 rfl (lv_at hl 0 rfl) ?_
      refine gt_f (C := RX4) (T := TX4) (N := 4) hx hb ha in_X4 hown hK hP 0 rfl rfl 2 (by decide) m_285 rfl dX4_isDigitNext_30 ?_
      obtain ⟨hi, hf⟩ := sf_ge hf
      refine ca_ld hx hb hK hP 1 rfl hi dX4_isDigitNext_33 ?_
      refine lv_bipush (v := 57) hx hb dX4_isDigitNext_34 (by decide) ?_
      refine lv_icmp_gt (tgt := 43) hx hb dX4_isDigitNext_36 (by decide) (fun hc => ?_) (fun hc => ?_)
      · have hf := sf_bp hf hc
        refine lv_iconst (v := 0) hx hb dX4_isDigitNext_43 (by decide) ?_
        exact rt_Pz hx hb hr hlocks (Option.some.inj hf) rfl hS dX4_isDigitNext_44
      · have hf := sf_bn hf hc
        refine lv_iconst (v := 1) hx hb dX4_isDigitNext_39 (by decide) ?_
        refine lv_goto (tgt := 44) hx hb dX4_isDigitNext_40 (by decide) ?_
        exact rt_Pz hx hb hr hlocks (Option.some.inj hf) rfl hS dX4_isDigitNext_44

def f_X4_takeNumber_L5 (ts : Nat → Int32) (tl : Int32) (p1 : Int32) (k : Int32 → Int32 → Int32 → Option (Int32 × Int32 × (Nat → Int32))) : Nat → Int32 → Int32 → Int32 → Option (Int32 × Int32 × (Nat → Int32))
  | 0, _, _, _ => none
  | n + 1, v_1, v_2, v_3 => sf_b (p1 ≤ v_1) (k v_1 v_2 v_3) (sf_c1 (f_X4_isDigitNext ts tl v_3) (fun r_4 => sf_b (r_4 = (0 : Int32)) (k v_1 v_2 v_3) (sf_g (sf_in v_3 60 = true) (sf_n ((((10 : Int32) * v_2) + ((ts v_3.toNatClampNeg) - (48 : Int32)))) (fun x_5 => sf_n ((v_3 + (1 : Int32))) (fun x_6 => sf_n (v_1 + (1 : Int32)) (fun x_7 => f_X4_takeNumber_L5 ts tl p1 k n x_7 x_5 x_6)))))))
def f_X4_takeNumber (ts : Nat → Int32) (tl : Int32) (tp : Int32) (tn : Nat → Int32) (p0 : Int32) (p1 : Int32) : Option (Int32 × Int32 × (Nat → Int32)) :=
  f_X4_takeNumber_L5 ts tl p1 (fun y_8 y_9 y_10 => sf_g (sf_in p0 3 = true) (sf_n (upd tn p0.toNatClampNeg y_9) (fun a_11 => sf_b (y_8 ≤ (0 : Int32)) (some ((0 : Int32), y_10, a_11)) (some ((1 : Int32), y_10, a_11))))) 2000 (0 : Int32) (0 : Int32) tp
theorem yd_X4_takeNumber : yX4_takeNumber.cls = RX4 ∧ yX4_takeNumber.cls ≠ "java/lang/invoke/MethodHandle" ∧ yX4_takeNumber.cls ≠ "java/lang/invoke/VarHandle" ∧ (parseMethodDescriptor yX4_takeNumber.desc).map (fun d => d.parameters.length) = some 2 := ⟨rfl, by decide, by decide, by decide +kernel⟩
set_option maxRecDepth 100000 in
set_option maxHeartbeats 4000000 in
theorem c_X4_takeNumber (l : Launch) (D : va_G) (dA : Nat → ClassId) (h0 h1 h2 : Nat) (sz : Nat) (ts : Nat → Int32) (tl : Int32) (tp : Int32) (tn : Nat → Int32) (p0 : Int32) (p1 : Int32) (rr : Int32) (q_tp : Int32) (q_tn : Nat → Int32) (hf : f_X4_takeNumber ts tl tp tn p0 p1 = some (rr, q_tp, q_tn)) : Met l yX4_takeNumber (wo (.code yX4_takeNumber cX4_takeNumber 5 (some .boolean))) ({ frames := 1, cells := 0, slots := 0, locals := 20 } : Room) (preM D dA [.ref h0, .int p0, .int p1] sz [(h0, .inr (2, [.ref h1, .int tl, .int tp, .ref h2])), (h1, .inl (dA 1, 60, .inl ts)), (h2, .inl (dA 0, 3, .inl tn))]) (poMi D rr [(h0, .inr (2, [.ref h1, .int tl, .int q_tp, .ref h2])), (h1, .inl (dA 1, 60, .inl ts)), (h2, .inl (dA 0, 3, .inl q_tn))] (va_A [(h0, .inr (2, [.ref h1, .int tl, .int tp, .ref h2])), (h1, .inl (dA 1, 60, .inl ts)), (h2, .inl (dA 0, 3, .inl tn))] sz)) 0 0 (va_A [(h0, .inr (2, [.ref h1, .int tl, .int tp, .ref h2])), (h1, .inl (dA 1, 60, .inl ts)), (h2, .inl (dA 0, 3, .inl tn))] sz) := by
  refine of_M (y := yX4_takeNumber) (cc := cX4_takeNumber) (maxL := 5) (ret := (some .boolean)) (av := [.ref h0, .int p0, .int p1]) (ws := [(h0, .inr (2, [.ref h1, .int tl, .int tp, .ref h2])), (h1, .inl (dA 1, 60, .inl ts)), (h2, .inl (dA 0, 3, .inl tn))]) (sz := sz) (own := RX4) (Qc := poMi D rr [(h0, .inr (2, [.ref h1, .int tl, .int q_tp, .ref h2])), (h1, .inl (dA 1, 60, .inl ts)), (h2, .inl (dA 0, 3, .inl q_tn))]) (by decide) rfl (Nat.le_of_ble_eq_true rfl) ?_
  intro p e s m below meth c A hx hb hr ha hown hml hlocks hin hP hK hD hS hA ls hl
  have hl : lv_has ls 5 [(0, .ref h0), (1, .int p0), (2, .int p1)] := hl
  rw [f_X4_takeNumber] at hf
  refine lv_iconst (v := 0) hx hb dX4_takeNumber_0 (by decide) ?_
  refine lv_istore_n (lv' := [(3, .int (0 : Int32)), (0, .ref h0), (1, .int p0), (2, .int p1)]) hx hb dX4_takeNumber_1 rfl hl (by decide) rfl (fun ls hl => ?_)
  refine lv_iconst (v := 0) hx hb dX4_takeNumber_2 (by decide) ?_
  refine lv_istore (lv' := [(4, .int (0 : Int32)), (3, .int (0 : Int32)), (0, .ref h0), (1, .int p0), (2, .int p1)]) hx hb dX4_takeNumber_3 hl (by decide) rfl (fun ls hl => ?_)
  have hL5 : ∀ (n : Nat) (k : Int32 → Int32 → Int32 → Option (Int32 × Int32 × (Nat → Int32))) (v_1 : Int32) (v_2 : Int32) (v_3 : Int32) (H : Heap) (locs : List Loc) (ls : Array Slot), va_P D cls [(h0, .inr (2, [.ref h1, .int tl, .int v_3, .ref h2])), (h1, .inl (dA 1, 60, .inl ts)), (h2, .inl (dA 0, 3, .inl tn))] H → va_D A [(h0, .inr (2, [.ref h1, .int tl, .int v_3, .ref h2])), (h1, .inl (dA 1, 60, .inl ts)), (h2, .inl (dA 0, 3, .inl tn))] → va_S A s.heap H locs → lv_has ls 5 [(4, .int v_1), (3, .int v_2), (0, .ref h0), (1, .int p0), (2, .int p1)] → f_X4_takeNumber_L5 ts tl p1 k n v_1 v_2 v_3 = some (rr, q_tp, q_tn) → (∀ (y_8 : Int32) (y_9 : Int32) (y_10 : Int32) (H : Heap) (locs : List Loc) (ls : Array Slot), va_P D cls [(h0, .inr (2, [.ref h1, .int tl, .int y_10, .ref h2])), (h1, .inl (dA 1, 60, .inl ts)), (h2, .inl (dA 0, 3, .inl tn))] H → va_D A [(h0, .inr (2, [.ref h1, .int tl, .int y_10, .ref h2])), (h1, .inl (dA 1, 60, .inl ts)), (h2, .inl (dA 0, 3, .inl tn))] → va_S A s.heap H locs → lv_has ls 5 [(4, .int y_8), (3, .int y_9), (0, .ref h0), (1, .int p0)] → k y_8 y_9 y_10 = some (rr, q_tp, q_tn) → W p l e ({ frames := 1, cells := 0, slots := 0, locals := 20 } : Room) s m ([.ref h0, .int p0, .int p1] : List Value).toArray below meth c H locs 0 0 (MQ below (poMi D rr [(h0, .inr (2, [.ref h1, .int tl, .int q_tp, .ref h2])), (h1, .inl (dA 1, 60, .inl ts)), (h2, .inl (dA 0, 3, .inl q_tn))] A) ([.ref h0, .int p0, .int p1] : List Value).toArray s 0 0 A) (F0 m 52 ls [])) → W p l e ({ frames := 1, cells := 0, slots := 0, locals := 20 } : Room) s m ([.ref h0, .int p0, .int p1] : List Value).toArray below meth c H locs 0 0 (MQ below (poMi D rr [(h0, .inr (2, [.ref h1, .int tl, .int q_tp, .ref h2])), (h1, .inl (dA 1, 60, .inl ts)), (h2, .inl (dA 0, 3, .inl q_tn))] A) ([.ref h0, .int p0, .int p1] : List Value).toArray s 0 0 A) (F0 m 5 ls []) := by
    intro n k
    induction n with
    | zero =>
      intro v_1 v_2 v_3 H locs ls hP hD hS hl hf hk
      rw [f_X4_takeNumber_L5] at hf
      cases hf
    | succ n ih =>
      intro v_1 v_2 v_3 H locs ls hP hD hS hl hf hk
      rw [f_X4_takeNumber_L5] at hf
      refine lv_iload hx hb dX4_takeNumber_5 (lv_at hl 0 rfl) ?_
      refine lv_iload_n hx hb dX4_takeNumber_7 rfl (lv_at hl 4 rfl) ?_
      refine lv_icmp_ge (tgt := 52) hx hb dX4_takeNumber_8 (by decide) (fun hc => ?_) (fun hc => ?_)
      · have hf := sf_bp hf hc
        exact hk _ _ _ _ _ _ (hP.sub [0, 1, 2] rfl) (hD.sub [0, 1, 2] (by decide) rfl) hS (lv_sub hl [0, 1, 2, 3] rfl) hf
      · have hf := sf_bn hf hc
        refine lv_aload_n hx hb dX4_takeNumber_11 rfl (lv_at hl 2 rfl) ?_
        obtain ⟨r_4, hc4, hf⟩ := sf_c1e hf
        refine k_Pi (run_PV (As := []) (rest := []) ⟨hx, hb, hml, hown, ha⟩ (c_X4_isDigitNext l D dA h0 h1 h2  ts tl v_3 tn _ hc4) (gi_V m_1589 m_1591 m_28 m_40 m_1592) yd_X4_isDigitNext ⟨Nat.le_of_ble_eq_true rfl, Nat.le_of_ble_eq_true rfl⟩ ⟨rfl, rfl⟩ hK hP [0, 1, 2] rfl 0 2 rfl rfl rfl rfl hl.1 rfl (Nat.le_of_ble_eq_true rfl) dX4_takeNumber_12 ⟨Nat.le_of_ble_eq_true rfl, Nat.le_of_ble_eq_true rfl⟩) hP hS (fun H locs hP hS => ?_)
        refine lv_if_eq (tgt := 52) hx hb dX4_takeNumber_15 (by decide) (fun hc => ?_) (fun hc => ?_)
        · have hf := sf_bp hf hc
          exact hk _ _ _ _ _ _ (hP.sub [0, 1, 2] rfl) (hD.sub [0, 1, 2] (by decide) rfl) hS (lv_sub hl [0, 1, 2, 3] rfl) hf
        · have hf := sf_bn hf hc
          refine lv_bipush (v := 10) hx hb dX4_takeNumber_18 (by decide) ?_
          refine lv_iload_n hx hb dX4_takeNumber_20 rfl (lv_at hl 1 rfl) ?_
          refine lv_imul hx hb dX4_takeNumber_21 ?_
          refine lv_aload_n hx hb dX4_takeNumber_22 rfl (lv_at hl 2 rfl) ?_
          refine gt_f (C := RX4) (T := TX4) (N := 4) hx hb ha in_X4 hown hK hP 0 rfl rfl 0 (by decide) m_282 rfl dX4_takeNumber_23 ?_
          refine lv_aload_n hx hb dX4_takeNumber_26 rfl (lv_at hl 2 rfl) ?_
          refine gt_f (C := RX4) (T := TX4) (N := 4) hx hb ha in_X4 hown hK hP 0 rfl rfl 2 (by decide) m_285 rfl dX4_takeNumber_27 ?_
          obtain ⟨hi, hf⟩ := sf_ge hf
          refine ca_ld hx hb hK hP 1 rfl hi dX4_takeNumber_30 ?_
          refine lv_bipush (v := 48) hx hb dX4_takeNumber_31 (by decide) ?_
          refine lv_isub hx hb dX4_takeNumber_33 ?_
          refine lv_iadd hx hb dX4_takeNumber_34 ?_
          obtain ⟨x_5, ex_5, hf⟩ := sf_ne hf
          refine tp_i ex_5 ?_
          refine lv_istore_n (lv' := [(3, .int x_5), (4, .int v_1), (0, .ref h0), (1, .int p0), (2, .int p1)]) hx hb dX4_takeNumber_35 rfl hl (by decide) rfl (fun ls hl => ?_)
          refine lv_aload_n hx hb dX4_takeNumber_36 rfl (lv_at hl 2 rfl) ?_
          refine lv_dup hx hb dX4_takeNumber_37 rfl ?_
          refine gt_f (C := RX4) (T := TX4) (N := 4) hx hb ha in_X4 hown hK hP 0 rfl rfl 2 (by decide) m_285 rfl dX4_takeNumber_38 ?_
          refine lv_iconst (v := 1) hx hb dX4_takeNumber_41 (by decide) ?_
          refine lv_iadd hx hb dX4_takeNumber_42 ?_
          obtain ⟨x_6, ex_6, hf⟩ := sf_ne hf
          refine tp_i ex_6 ?_
          refine pt_f (C := RX4) (T := TX4) (N := 4) (ws' := [(h0, .inr (2, [.ref h1, .int tl, .int x_6, .ref h2])), (h1, .inl (dA 1, 60, .inl ts)), (h2, .inl (dA 0, 3, .inl tn))]) (ty := .int) hx hb ha in_X4 tyX4 tyX4_ok nmX4 hown hK hP hD hS 0 rfl rfl 2 (by decide) m_285 rfl (tyX4_ok 2 (by decide)) rfl rfl (Nat.le_of_ble_eq_true rfl) rfl dX4_takeNumber_43 (fun H locs hP hD hS => ?_)
          obtain ⟨x_7, ex_7, hf⟩ := sf_ne hf
          refine ii_nc (lv' := [(4, .int x_7), (3, .int x_5), (0, .ref h0), (1, .int p0), (2, .int p1)]) (k := 1) hx hb dX4_takeNumber_46 hl rfl ex_7 (by decide) (by decide) rfl (fun ls hl => ?_)
          refine lv_goto (tgt := 5) hx hb dX4_takeNumber_49 (by decide) ?_
          exact ih _ _ _ _ _ _ (hP.sub [0, 1, 2] rfl) (hD.sub [0, 1, 2] (by decide) rfl) hS (lv_sub hl [0, 1, 2, 3, 4] rfl) hf hk
  refine hL5 _ _ _ _ _ _ _ _ hP hD hS (lv_sub hl [0, 1, 2, 3, 4] rfl) hf (fun y_8 y_9 y_10 H locs ls hP hD hS hl hf => ?_)
  refine lv_aload_n hx hb dX4_takeNumber_52 rfl (lv_at hl 2 rfl) ?_
  refine gt_f (C := RX4) (T := TX4) (N := 4) hx hb ha in_X4 hown hK hP 0 rfl rfl 3 (by decide) m_287 rfl dX4_takeNumber_53 ?_
  refine lv_iload_n hx hb dX4_takeNumber_56 rfl (lv_at hl 3 rfl) ?_
  refine lv_iload_n hx hb dX4_takeNumber_57 rfl (lv_at hl 1 rfl) ?_
  obtain ⟨hi, hf⟩ := sf_ge hf
  obtain ⟨a_11, ea_11, hf⟩ := sf_ne hf
  refine ia_st (ws' := [(h0, .inr (2, [.ref h1, .int tl, .int y_10, .ref h2])), (h1, .inl (dA 1, 60, .inl ts)), (h2, .inl (dA 0, 3, .inl a_11))]) hx hb hK hP hD hS 2 rfl hi ea_11 rfl dX4_takeNumber_58 (fun H locs hP hD hS => ?_)
  refine lv_iload hx hb dX4_takeNumber_59 (lv_at hl 0 rfl) ?_
  refine lv_if_le (tgt := 68) hx hb dX4_takeNumber_61 (by decide) (fun hc => ?_) (fun hc => ?_)
  · have hf := sf_bp hf hc
    refine lv_iconst (v := 0) hx hb dX4_takeNumber_68 (by decide) ?_
    cases hf
    exact rt_Mz hx hb hr hlocks rfl (hP.sub [0, 1, 2] rfl) (hD.sub [0, 1, 2] (by decide) rfl) hS dX4_takeNumber_69
  · have hf := sf_bn hf hc
    refine lv_iconst (v := 1) hx hb dX4_takeNumber_64 (by decide) ?_
    refine lv_goto (tgt := 69) hx hb dX4_takeNumber_65 (by decide) ?_
    cases hf
    exact rt_Mz hx hb hr hlocks rfl (hP.sub [0, 1, 2] rfl) (hD.sub [0, 1, 2] (by decide) rfl) hS dX4_takeNumber_69

def f_J0_coder_7d493 (i0 : Nat) : Option Int32 :=
  sf_g (((0 : Int32).toUInt32 % 65536).toInt32 = (0 : Int32)) (some (0 : Int32))
theorem yd_J0_coder_7d493 : yJ0_coder_7d493.cls = RJ0 ∧ yJ0_coder_7d493.cls ≠ "java/lang/invoke/MethodHandle" ∧ yJ0_coder_7d493.cls ≠ "java/lang/invoke/VarHandle" ∧ (parseMethodDescriptor yJ0_coder_7d493.desc).map (fun d => d.parameters.length) = some 0 := ⟨rfl, by decide, by decide, by decide +kernel⟩
set_option maxRecDepth 100000 in
set_option maxHeartbeats 4000000 in
theorem c_J0_coder_7d493 (l : Launch) (D : va_G) (dA : Nat → ClassId) (cA : Nat → Nat) (i0 : Nat) (hi0 : i0 < 16) (rr : Int32) (hf : f_J0_coder_7d493 i0 = some rr) : Met l yJ0_coder_7d493 (wo (.code yJ0_coder_7d493 cJ0_coder_7d493 1 (some .byte))) ({ frames := 0, cells := 0, slots := 0, locals := 0 } : Room) (preQ D dA cA [.ref (cA (100 + i0))] []) (poPi rr) 0 0 noA := by
  refine of_Q (y := yJ0_coder_7d493) (cc := cJ0_coder_7d493) (maxL := 1) (ret := (some .byte)) (av := [.ref (cA (100 + i0))]) (ws := []) (own := RJ0) (by decide) rfl (Nat.le_of_ble_eq_true rfl) ?_
  intro p e s m below meth c hx hb hr ha hown hml hlocks hP hK hC hS ls hl
  have hl : lv_has ls 1 [(0, .ref (cA (100 + i0)))] := hl
  rw [f_J0_coder_7d493] at hf
  refine va_gets hx hb hC.1.2.2.2.2.2.2.2.1 hS hown (ha _ m_1090) (fun _ h => h) dJ0_coder_7d493_0 ?_
  refine lv_if_eq (tgt := 13) hx hb dJ0_coder_7d493_3 (by decide) (fun hc => absurd hc (by decide)) (fun hc => ?_)
  refine lv_aload_n hx hb dJ0_coder_7d493_6 rfl (lv_at hl 0 rfl) ?_
  refine vk_getf hx hb (hC.1.1.1 i0 hi0).2.1 hS hown (ha _ m_1188) (fun _ h => h) dJ0_coder_7d493_7 ?_
  refine lv_goto (tgt := 14) hx hb dJ0_coder_7d493_10 (by decide) ?_
  obtain ⟨hz, hf⟩ := sf_ge hf
  exact rt_Pz hx hb hr hlocks (Option.some.inj hf) (sf_ch hz) hS dJ0_coder_7d493_14

def f_J0_length_8abf5 (i0 : Nat) : Option Int32 :=
  sf_c1 (f_J0_coder_7d493 i0) (fun r_1 => some ((strLen i0) >>> (r_1 &&& 31)))
theorem yd_J0_length_8abf5 : yJ0_length_8abf5.cls = RJ0 ∧ yJ0_length_8abf5.cls ≠ "java/lang/invoke/MethodHandle" ∧ yJ0_length_8abf5.cls ≠ "java/lang/invoke/VarHandle" ∧ (parseMethodDescriptor yJ0_length_8abf5.desc).map (fun d => d.parameters.length) = some 0 := ⟨rfl, by decide, by decide, by decide +kernel⟩
set_option maxRecDepth 100000 in
set_option maxHeartbeats 4000000 in
theorem c_J0_length_8abf5 (l : Launch) (D : va_G) (dA : Nat → ClassId) (cA : Nat → Nat) (i0 : Nat) (hi0 : i0 < 16) (rr : Int32) (hf : f_J0_length_8abf5 i0 = some rr) : Met l yJ0_length_8abf5 (wo (.code yJ0_length_8abf5 cJ0_length_8abf5 1 (some .int))) ({ frames := 1, cells := 0, slots := 0, locals := 20 } : Room) (preQ D dA cA [.ref (cA (100 + i0))] []) (poPi rr) 0 0 noA := by
  refine of_Q (y := yJ0_length_8abf5) (cc := cJ0_length_8abf5) (maxL := 1) (ret := (some .int)) (av := [.ref (cA (100 + i0))]) (ws := []) (own := RJ0) (by decide) rfl (Nat.le_of_ble_eq_true rfl) ?_
  intro p e s m below meth c hx hb hr ha hown hml hlocks hP hK hC hS ls hl
  have hl : lv_has ls 1 [(0, .ref (cA (100 + i0)))] := hl
  rw [f_J0_length_8abf5] at hf
  refine lv_aload_n hx hb dJ0_length_8abf5_0 rfl (lv_at hl 0 rfl) ?_
  refine vk_getf hx hb (hC.1.1.1 i0 hi0).2.2.1 hS hown (ha _ m_1187) (fun _ h => h) dJ0_length_8abf5_1 ?_
  refine va_tlen (v := strLen i0) hx hb (hC.1.1.1 i0 hi0).2.2.2 hS rfl dJ0_length_8abf5_4 ?_
  refine lv_aload_n hx hb dJ0_length_8abf5_5 rfl (lv_at hl 0 rfl) ?_
  obtain ⟨r_1, hc1, hf⟩ := sf_c1e hf
  refine k_Pi (run_QV (As := []) (rest := [.int (strLen i0)]) ⟨hx, hb, hml, hown, ha⟩ (c_J0_coder_7d493 l D dA cA    i0 hi0 _ hc1) (gi_V m_1086 m_1087 m_1088 m_43 m_1089) yd_J0_coder_7d493 ⟨Nat.le_of_ble_eq_true rfl, Nat.le_of_ble_eq_true rfl⟩ ⟨rfl, rfl⟩ hK hC hS hP [] rfl (vk_recv (adK := fun i => cA (100 + i)) hC.1.1 hi0 hS) rfl hl.1 rfl (Nat.le_of_ble_eq_true rfl) dJ0_length_8abf5_6 ⟨Nat.le_of_ble_eq_true rfl, Nat.le_of_ble_eq_true rfl⟩) hP hS (fun H locs hP hS => ?_)
  refine lv_ishr hx hb dJ0_length_8abf5_9 ?_
  exact rt_Pi hx hb hr hlocks (Option.some.inj hf) hS dJ0_length_8abf5_10

def f_J0_isLatin1_aae02 (i0 : Nat) : Option Int32 :=
  some (1 : Int32)
theorem yd_J0_isLatin1_aae02 : yJ0_isLatin1_aae02.cls = RJ0 ∧ yJ0_isLatin1_aae02.cls ≠ "java/lang/invoke/MethodHandle" ∧ yJ0_isLatin1_aae02.cls ≠ "java/lang/invoke/VarHandle" ∧ (parseMethodDescriptor yJ0_isLatin1_aae02.desc).map (fun d => d.parameters.length) = some 0 := ⟨rfl, by decide, by decide, by decide +kernel⟩
set_option maxRecDepth 100000 in
set_option maxHeartbeats 4000000 in
theorem c_J0_isLatin1_aae02 (l : Launch) (D : va_G) (dA : Nat → ClassId) (cA : Nat → Nat) (i0 : Nat) (hi0 : i0 < 16) (rr : Int32) (hf : f_J0_isLatin1_aae02 i0 = some rr) : Met l yJ0_isLatin1_aae02 (wo (.code yJ0_isLatin1_aae02 cJ0_isLatin1_aae02 1 (some .boolean))) ({ frames := 0, cells := 0, slots := 0, locals := 0 } : Room) (preQ D dA cA [.ref (cA (100 + i0))] []) (poPi rr) 0 0 noA := by
  refine of_Q (y := yJ0_isLatin1_aae02) (cc := cJ0_isLatin1_aae02) (maxL := 1) (ret := (some .boolean)) (av := [.ref (cA (100 + i0))]) (ws := []) (own := RJ0) (by decide) rfl (Nat.le_of_ble_eq_true rfl) ?_
  intro p e s m below meth c hx hb hr ha hown hml hlocks hP hK hC hS ls hl
  have hl : lv_has ls 1 [(0, .ref (cA (100 + i0)))] := hl
  rw [f_J0_isLatin1_aae02] at hf
  refine va_gets hx hb hC.1.2.2.2.2.2.2.2.1 hS hown (ha _ m_1090) (fun _ h => h) dJ0_isLatin1_aae02_0 ?_
  refine lv_if_eq (tgt := 17) hx hb dJ0_isLatin1_aae02_3 (by decide) (fun hc => absurd hc (by decide)) (fun hc => ?_)
  refine lv_aload_n hx hb dJ0_isLatin1_aae02_6 rfl (lv_at hl 0 rfl) ?_
  refine vk_getf hx hb (hC.1.1.1 i0 hi0).2.1 hS hown (ha _ m_1188) (fun _ h => h) dJ0_isLatin1_aae02_7 ?_
  refine lv_if_ne (tgt := 17) hx hb dJ0_isLatin1_aae02_10 (by decide) (fun hc => absurd (by decide) hc) (fun hc => ?_)
  refine lv_iconst (v := 1) hx hb dJ0_isLatin1_aae02_13 (by decide) ?_
  refine lv_goto (tgt := 18) hx hb dJ0_isLatin1_aae02_14 (by decide) ?_
  exact rt_Pz hx hb hr hlocks (Option.some.inj hf) rfl hS dJ0_isLatin1_aae02_18

def f_J3_checkIndex_8e157 (p0 : Int32) (p1 : Int32) : Option Int32 :=
  sf_b (p0 < (0 : Int32)) (none) (sf_b (p0 < p1) (some p0) (none))
theorem yd_J3_checkIndex_8e157 : yJ3_checkIndex_8e157.cls = RJ3 ∧ yJ3_checkIndex_8e157.cls ≠ "java/lang/invoke/MethodHandle" ∧ yJ3_checkIndex_8e157.cls ≠ "java/lang/invoke/VarHandle" ∧ (parseMethodDescriptor yJ3_checkIndex_8e157.desc).map (fun d => d.parameters.length) = some 3 := ⟨rfl, by decide, by decide, by decide +kernel⟩
set_option maxRecDepth 100000 in
set_option maxHeartbeats 4000000 in
theorem c_J3_checkIndex_8e157 (l : Launch) (D : va_G) (dA : Nat → ClassId) (cA : Nat → Nat) (v : Value) (hv : v = .null ∨ ∃ k, v = .ref k) (p0 : Int32) (p1 : Int32) (rr : Int32) (hf : f_J3_checkIndex_8e157 p0 p1 = some rr) : Met l yJ3_checkIndex_8e157 (wo (.code yJ3_checkIndex_8e157 cJ3_checkIndex_8e157 3 (some .int))) ({ frames := 0, cells := 0, slots := 0, locals := 0 } : Room) (preQ D dA cA [.int p0, .int p1, v] []) (poPi rr) 0 0 noA := by
  refine of_Q (y := yJ3_checkIndex_8e157) (cc := cJ3_checkIndex_8e157) (maxL := 3) (ret := (some .int)) (av := [.int p0, .int p1, v]) (ws := []) (own := RJ3) (by decide) rfl (by rcases hv with rfl | ⟨k, rfl⟩ <;> exact Nat.le_of_ble_eq_true rfl) ?_
  intro p e s m below meth c hx hb hr ha hown hml hlocks hP hK hC hS ls hl
  have hl : lv_has ls 3 [(0, .int p0), (1, .int p1), (2, v)] := hl
  rw [f_J3_checkIndex_8e157] at hf
  refine lv_iload_n hx hb dJ3_checkIndex_8e157_0 rfl (lv_at hl 0 rfl) ?_
  refine lv_if_lt (tgt := 9) hx hb dJ3_checkIndex_8e157_1 (by decide) (fun hc => ?_) (fun hc => ?_)
  · have hf := sf_bp hf hc
    cases hf
  · have hf := sf_bn hf hc
    refine lv_iload_n hx hb dJ3_checkIndex_8e157_4 rfl (lv_at hl 0 rfl) ?_
    refine lv_iload_n hx hb dJ3_checkIndex_8e157_5 rfl (lv_at hl 1 rfl) ?_
    refine lv_icmp_lt (tgt := 16) hx hb dJ3_checkIndex_8e157_6 (by decide) (fun hc => ?_) (fun hc => ?_)
    · have hf := sf_bp hf hc
      refine lv_iload_n hx hb dJ3_checkIndex_8e157_16 rfl (lv_at hl 0 rfl) ?_
      exact rt_Pi hx hb hr hlocks (Option.some.inj hf) hS dJ3_checkIndex_8e157_17
    · have hf := sf_bn hf hc
      cases hf

def f_J0_checkIndex_df160 (p0 : Int32) (p1 : Int32) : Option Unit :=
  sf_c1 (f_J3_checkIndex_8e157 p0 p1) (fun r_1 => some ())
theorem yd_J0_checkIndex_df160 : yJ0_checkIndex_df160.cls = RJ0 ∧ yJ0_checkIndex_df160.cls ≠ "java/lang/invoke/MethodHandle" ∧ yJ0_checkIndex_df160.cls ≠ "java/lang/invoke/VarHandle" ∧ (parseMethodDescriptor yJ0_checkIndex_df160.desc).map (fun d => d.parameters.length) = some 2 := ⟨rfl, by decide, by decide, by decide +kernel⟩
set_option maxRecDepth 100000 in
set_option maxHeartbeats 4000000 in
theorem c_J0_checkIndex_df160 (l : Launch) (D : va_G) (dA : Nat → ClassId) (cA : Nat → Nat) (p0 : Int32) (p1 : Int32) (hf : f_J0_checkIndex_df160 p0 p1 = some ()) : Met l yJ0_checkIndex_df160 (wo (.code yJ0_checkIndex_df160 cJ0_checkIndex_df160 2 none)) ({ frames := 1, cells := 0, slots := 0, locals := 22 } : Room) (preQ D dA cA [.int p0, .int p1] []) (poPv) 0 0 noA := by
  refine of_Q (y := yJ0_checkIndex_df160) (cc := cJ0_checkIndex_df160) (maxL := 2) (ret := none) (av := [.int p0, .int p1]) (ws := []) (own := RJ0) (by decide) rfl (Nat.le_of_ble_eq_true rfl) ?_
  intro p e s m below meth c hx hb hr ha hown hml hlocks hP hK hC hS ls hl
  have hl : lv_has ls 2 [(0, .int p0), (1, .int p1)] := hl
  rw [f_J0_checkIndex_df160] at hf
  refine lv_iload_n hx hb dJ0_checkIndex_df160_0 rfl (lv_at hl 0 rfl) ?_
  refine lv_iload_n hx hb dJ0_checkIndex_df160_1 rfl (lv_at hl 1 rfl) ?_
  rcases hC.1.2.2.2.2.2.2.2.2 with hz | ⟨tz, hz⟩
  · refine va_gets hx hb hz hS hown (ha _ m_1048) (fun _ h => h) dJ0_checkIndex_df160_2 ?_
    obtain ⟨r_1, hc1, hf⟩ := sf_c1e hf
    refine k_Pi (run_QS (As := [.int p0, .int p1, .null]) (rest := []) ⟨hx, hb, hml, hown, ha⟩ (c_J3_checkIndex_8e157 l D dA cA _ (Or.inl rfl) p0 p1 _ hc1) (gi_S2 m_1287 m_1288 m_60 m_1289) (yd_J3_checkIndex_8e157).2 ⟨Nat.le_of_ble_eq_true rfl, Nat.le_of_ble_eq_true rfl⟩ ⟨rfl, rfl⟩ hK hC hS hP [] rfl rfl hl.1 rfl (Nat.le_of_ble_eq_true rfl) dJ0_checkIndex_df160_5 ⟨Nat.le_of_ble_eq_true rfl, Nat.le_of_ble_eq_true rfl⟩) hP hS (fun H locs hP hS => ?_)
    refine lv_pop hx hb dJ0_checkIndex_df160_8 rfl ?_
    exact rt_Pv hx hb hr hlocks hS dJ0_checkIndex_df160_9
  · refine va_gets hx hb hz hS hown (ha _ m_1048) (fun _ h => h) dJ0_checkIndex_df160_2 ?_
    obtain ⟨r_1, hc1, hf⟩ := sf_c1e hf
    refine k_Pi (run_QS (As := [.int p0, .int p1, .ref tz]) (rest := []) ⟨hx, hb, hml, hown, ha⟩ (c_J3_checkIndex_8e157 l D dA cA _ (Or.inr ⟨_, rfl⟩) p0 p1 _ hc1) (gi_S2 m_1287 m_1288 m_60 m_1289) (yd_J3_checkIndex_8e157).2 ⟨Nat.le_of_ble_eq_true rfl, Nat.le_of_ble_eq_true rfl⟩ ⟨rfl, rfl⟩ hK hC hS hP [] rfl rfl hl.1 rfl (Nat.le_of_ble_eq_true rfl) dJ0_checkIndex_df160_5 ⟨Nat.le_of_ble_eq_true rfl, Nat.le_of_ble_eq_true rfl⟩) hP hS (fun H locs hP hS => ?_)
    refine lv_pop hx hb dJ0_checkIndex_df160_8 rfl ?_
    exact rt_Pv hx hb hr hlocks hS dJ0_checkIndex_df160_9

def f_J1_charAt_3b067 (i1 : Nat) (p1 : Int32) : Option Int32 :=
  sf_c0 (f_J0_checkIndex_df160 p1 (strLen i1)) (fun _ => sf_g (sf_in p1 (cwL.getD i1 0) = true) (sf_g ((((((strCh i1 p1.toNatClampNeg) &&& (255 : Int32)).toUInt32 % 65536).toInt32).toUInt32 % 65536).toInt32 = ((((strCh i1 p1.toNatClampNeg) &&& (255 : Int32)).toUInt32 % 65536).toInt32)) (some ((((strCh i1 p1.toNatClampNeg) &&& (255 : Int32)).toUInt32 % 65536).toInt32))))
theorem yd_J1_charAt_3b067 : yJ1_charAt_3b067.cls = RJ1 ∧ yJ1_charAt_3b067.cls ≠ "java/lang/invoke/MethodHandle" ∧ yJ1_charAt_3b067.cls ≠ "java/lang/invoke/VarHandle" ∧ (parseMethodDescriptor yJ1_charAt_3b067.desc).map (fun d => d.parameters.length) = some 2 := ⟨rfl, by decide, by decide, by decide +kernel⟩
set_option maxRecDepth 100000 in
set_option maxHeartbeats 4000000 in
theorem c_J1_charAt_3b067 (l : Launch) (D : va_G) (dA : Nat → ClassId) (cA : Nat → Nat) (i1 : Nat) (hi1 : i1 < 16) (p1 : Int32) (rr : Int32) (hf : f_J1_charAt_3b067 i1 p1 = some rr) : Met l yJ1_charAt_3b067 (wo (.code yJ1_charAt_3b067 cJ1_charAt_3b067 2 (some .char))) ({ frames := 2, cells := 0, slots := 0, locals := 43 } : Room) (preQ D dA cA [.ref (cA (120 + i1)), .int p1] []) (poPi rr) 0 0 noA := by
  refine of_Q (y := yJ1_charAt_3b067) (cc := cJ1_charAt_3b067) (maxL := 2) (ret := (some .char)) (av := [.ref (cA (120 + i1)), .int p1]) (ws := []) (own := RJ1) (by decide) rfl (Nat.le_of_ble_eq_true rfl) ?_
  intro p e s m below meth c hx hb hr ha hown hml hlocks hP hK hC hS ls hl
  have hl : lv_has ls 2 [(0, .ref (cA (120 + i1))), (1, .int p1)] := hl
  rw [f_J1_charAt_3b067] at hf
  refine lv_iload_n hx hb dJ1_charAt_3b067_0 rfl (lv_at hl 1 rfl) ?_
  refine lv_aload_n hx hb dJ1_charAt_3b067_1 rfl (lv_at hl 0 rfl) ?_
  refine va_tlen (v := strLen i1) hx hb (hC.1.1.1 i1 hi1).2.2.2 hS rfl dJ1_charAt_3b067_2 ?_
  obtain ⟨hc0, hf⟩ := sf_c0e hf
  refine k_Pv (run_QS (As := [.int p1, .int (strLen i1)]) (rest := []) ⟨hx, hb, hml, hown, ha⟩ (c_J0_checkIndex_df160 l D dA cA    p1 (strLen i1)  hc0) (gi_S2 m_1329 m_1285 m_43 m_1286) (yd_J0_checkIndex_df160).2 ⟨Nat.le_of_ble_eq_true rfl, Nat.le_of_ble_eq_true rfl⟩ ⟨rfl, rfl⟩ hK hC hS hP [] rfl rfl hl.1 rfl (Nat.le_of_ble_eq_true rfl) dJ1_charAt_3b067_3 ⟨Nat.le_of_ble_eq_true rfl, Nat.le_of_ble_eq_true rfl⟩) hP hS (fun H locs hP hS => ?_)
  refine lv_aload_n hx hb dJ1_charAt_3b067_6 rfl (lv_at hl 0 rfl) ?_
  refine lv_iload_n hx hb dJ1_charAt_3b067_7 rfl (lv_at hl 1 rfl) ?_
  obtain ⟨h_1, hf⟩ := sf_ge hf
  refine va_tb (v := .int (strCh i1 p1.toNatClampNeg)) hx hb (hC.1.1.1 i1 hi1).2.2.2 hS (sf_inv h_1) rfl dJ1_charAt_3b067_8 ?_
  refine lv_sipush (v := 255) hx hb dJ1_charAt_3b067_9 (by decide) ?_
  refine lv_iand hx hb dJ1_charAt_3b067_12 ?_
  refine lv_i2c hx hb dJ1_charAt_3b067_13 rfl ?_
  obtain ⟨hz, hf⟩ := sf_ge hf
  exact rt_Pz hx hb hr hlocks (Option.some.inj hf) (sf_ch hz) hS dJ1_charAt_3b067_14

def f_J0_charAt_5068e (i0 : Nat) (p0 : Int32) : Option Int32 :=
  sf_c1 (f_J0_isLatin1_aae02 i0) (fun r_1 => sf_b (r_1 = (0 : Int32)) (none) (sf_c1 (f_J1_charAt_3b067 i0 p0) (fun r_2 => sf_g ((r_2.toUInt32 % 65536).toInt32 = r_2) (some r_2))))
theorem yd_J0_charAt_5068e : yJ0_charAt_5068e.cls = RJ0 ∧ yJ0_charAt_5068e.cls ≠ "java/lang/invoke/MethodHandle" ∧ yJ0_charAt_5068e.cls ≠ "java/lang/invoke/VarHandle" ∧ (parseMethodDescriptor yJ0_charAt_5068e.desc).map (fun d => d.parameters.length) = some 1 := ⟨rfl, by decide, by decide, by decide +kernel⟩
set_option maxRecDepth 100000 in
set_option maxHeartbeats 4000000 in
theorem c_J0_charAt_5068e (l : Launch) (D : va_G) (dA : Nat → ClassId) (cA : Nat → Nat) (i0 : Nat) (hi0 : i0 < 16) (p0 : Int32) (rr : Int32) (hf : f_J0_charAt_5068e i0 p0 = some rr) : Met l yJ0_charAt_5068e (wo (.code yJ0_charAt_5068e cJ0_charAt_5068e 2 (some .char))) ({ frames := 3, cells := 0, slots := 0, locals := 64 } : Room) (preQ D dA cA [.ref (cA (100 + i0)), .int p0] []) (poPi rr) 0 0 noA := by
  refine of_Q (y := yJ0_charAt_5068e) (cc := cJ0_charAt_5068e) (maxL := 2) (ret := (some .char)) (av := [.ref (cA (100 + i0)), .int p0]) (ws := []) (own := RJ0) (by decide) rfl (Nat.le_of_ble_eq_true rfl) ?_
  intro p e s m below meth c hx hb hr ha hown hml hlocks hP hK hC hS ls hl
  have hl : lv_has ls 2 [(0, .ref (cA (100 + i0))), (1, .int p0)] := hl
  rw [f_J0_charAt_5068e] at hf
  refine lv_aload_n hx hb dJ0_charAt_5068e_0 rfl (lv_at hl 0 rfl) ?_
  obtain ⟨r_1, hc1, hf⟩ := sf_c1e hf
  refine k_Pi (run_QV (As := []) (rest := []) ⟨hx, hb, hml, hown, ha⟩ (c_J0_isLatin1_aae02 l D dA cA    i0 hi0 _ hc1) (gi_V m_1322 m_1323 m_1324 m_43 m_1325) yd_J0_isLatin1_aae02 ⟨Nat.le_of_ble_eq_true rfl, Nat.le_of_ble_eq_true rfl⟩ ⟨rfl, rfl⟩ hK hC hS hP [] rfl (vk_recv (adK := fun i => cA (100 + i)) hC.1.1 hi0 hS) rfl hl.1 rfl (Nat.le_of_ble_eq_true rfl) dJ0_charAt_5068e_1 ⟨Nat.le_of_ble_eq_true rfl, Nat.le_of_ble_eq_true rfl⟩) hP hS (fun H locs hP hS => ?_)
  refine lv_if_eq (tgt := 16) hx hb dJ0_charAt_5068e_4 (by decide) (fun hc => ?_) (fun hc => ?_)
  · have hf := sf_bp hf hc
    refine lv_aload_n hx hb dJ0_charAt_5068e_16 rfl (lv_at hl 0 rfl) ?_
    refine vk_getf hx hb (hC.1.1.1 i0 hi0).2.2.1 hS hown (ha _ m_1187) (fun _ h => h) dJ0_charAt_5068e_17 ?_
    refine lv_iload_n hx hb dJ0_charAt_5068e_20 rfl (lv_at hl 1 rfl) ?_
    cases hf
  · have hf := sf_bn hf hc
    refine lv_aload_n hx hb dJ0_charAt_5068e_7 rfl (lv_at hl 0 rfl) ?_
    refine vk_getf hx hb (hC.1.1.1 i0 hi0).2.2.1 hS hown (ha _ m_1187) (fun _ h => h) dJ0_charAt_5068e_8 ?_
    refine lv_iload_n hx hb dJ0_charAt_5068e_11 rfl (lv_at hl 1 rfl) ?_
    obtain ⟨r_2, hc2, hf⟩ := sf_c1e hf
    refine k_Pi (run_QS (As := [.ref (cA (120 + i0)), .int p0]) (rest := []) ⟨hx, hb, hml, hown, ha⟩ (c_J1_charAt_3b067 l D dA cA    i0 hi0 p0 _ hc2) (gi_S2 m_1326 m_1327 m_61 m_1328) (yd_J1_charAt_3b067).2 ⟨Nat.le_of_ble_eq_true rfl, Nat.le_of_ble_eq_true rfl⟩ ⟨rfl, rfl⟩ hK hC hS hP [] rfl rfl hl.1 rfl (Nat.le_of_ble_eq_true rfl) dJ0_charAt_5068e_12 ⟨Nat.le_of_ble_eq_true rfl, Nat.le_of_ble_eq_true rfl⟩) hP hS (fun H locs hP hS => ?_)
    obtain ⟨hz, hf⟩ := sf_ge hf
    exact rt_Pz hx hb hr hlocks (Option.some.inj hf) (sf_ch hz) hS dJ0_charAt_5068e_15

def f_Jx29ce0_ordinal_8abf5 (i0 : Nat) : Option Int32 :=
  some (enO i0)
theorem yd_Jx29ce0_ordinal_8abf5 : yJx29ce0_ordinal_8abf5.cls = RJx29ce0 ∧ yJx29ce0_ordinal_8abf5.cls ≠ "java/lang/invoke/MethodHandle" ∧ yJx29ce0_ordinal_8abf5.cls ≠ "java/lang/invoke/VarHandle" ∧ (parseMethodDescriptor yJx29ce0_ordinal_8abf5.desc).map (fun d => d.parameters.length) = some 0 := ⟨rfl, by decide, by decide, by decide +kernel⟩
set_option maxRecDepth 100000 in
set_option maxHeartbeats 4000000 in
theorem c_Jx29ce0_ordinal_8abf5 (l : Launch) (D : va_G) (dA : Nat → ClassId) (cA : Nat → Nat) (i0 : Nat) (hi0 : i0 < 7) (rr : Int32) (hf : f_Jx29ce0_ordinal_8abf5 i0 = some rr) : Met l yJx29ce0_ordinal_8abf5 (wo (.code yJx29ce0_ordinal_8abf5 cJx29ce0_ordinal_8abf5 1 (some .int))) ({ frames := 0, cells := 0, slots := 0, locals := 0 } : Room) (preQ D dA cA [.ref (cA (16 + i0))] []) (poPi rr) 0 0 noA := by
  refine of_Q (y := yJx29ce0_ordinal_8abf5) (cc := cJx29ce0_ordinal_8abf5) (maxL := 1) (ret := (some .int)) (av := [.ref (cA (16 + i0))]) (ws := []) (own := RJx29ce0) (by decide) rfl (Nat.le_of_ble_eq_true rfl) ?_
  intro p e s m below meth c hx hb hr ha hown hml hlocks hP hK hC hS ls hl
  have hl : lv_has ls 1 [(0, .ref (cA (16 + i0)))] := hl
  rw [f_Jx29ce0_ordinal_8abf5] at hf
  refine lv_aload_n hx hb dJx29ce0_ordinal_8abf5_0 rfl (lv_at hl 0 rfl) ?_
  refine va_getE (ad := fun i => cA (16 + i)) (i := i0) hx hb hC.1.2.1 hi0 hS hown (q := ("java/lang/Enum", "ordinal", "I", [0, 1, 2, 3, 4, 5, 6])) (List.mem_of_getElem? (i := 0) rfl) (ha _ m_1674) (fun _ h => h) dJx29ce0_ordinal_8abf5_1 ?_
  refine tp_i (z := enO i0) rfl ?_
  exact rt_Pi hx hb hr hlocks (Option.some.inj hf) hS dJx29ce0_ordinal_8abf5_4

def f_X4_lettersInCommon_L2 (ts : Nat → Int32) (tl : Int32) (tp : Int32) (i1 : Nat) (k : Int32 → Option Int32) : Nat → Int32 → Option Int32
  | 0, _ => none
  | n + 1, v_1 => sf_c1 (f_J0_length_8abf5 i1) (fun r_2 => sf_b (r_2 ≤ v_1) (k v_1) (sf_b (tl ≤ (tp + v_1)) (k v_1) (sf_g (sf_in (tp + v_1) 60 = true) (sf_c1 (f_J0_charAt_5068e i1 v_1) (fun r_3 => sf_b ((ts (tp + v_1).toNatClampNeg) = r_3) (sf_n (v_1 + (1 : Int32)) (fun x_4 => f_X4_lettersInCommon_L2 ts tl tp i1 k n x_4)) (k v_1))))))
def f_X4_lettersInCommon (ts : Nat → Int32) (tl : Int32) (tp : Int32) (i1 : Nat) : Option Int32 :=
  f_X4_lettersInCommon_L2 ts tl tp i1 (fun y_5 => some y_5) 2000 (0 : Int32)
theorem yd_X4_lettersInCommon : yX4_lettersInCommon.cls = RX4 ∧ yX4_lettersInCommon.cls ≠ "java/lang/invoke/MethodHandle" ∧ yX4_lettersInCommon.cls ≠ "java/lang/invoke/VarHandle" ∧ (parseMethodDescriptor yX4_lettersInCommon.desc).map (fun d => d.parameters.length) = some 1 := ⟨rfl, by decide, by decide, by decide +kernel⟩
set_option maxRecDepth 100000 in
set_option maxHeartbeats 4000000 in
theorem c_X4_lettersInCommon (l : Launch) (D : va_G) (dA : Nat → ClassId) (cA : Nat → Nat) (h0 h1 h2 : Nat) (ts : Nat → Int32) (tl : Int32) (tp : Int32) (tn : Nat → Int32) (i1 : Nat) (hi1 : i1 < 16) (rr : Int32) (hf : f_X4_lettersInCommon ts tl tp i1 = some rr) : Met l yX4_lettersInCommon (wo (.code yX4_lettersInCommon cX4_lettersInCommon 3 (some .int))) ({ frames := 4, cells := 0, slots := 0, locals := 85 } : Room) (preQ D dA cA [.ref h0, .ref (cA (100 + i1))] [(h0, .inr (2, [.ref h1, .int tl, .int tp, .ref h2])), (h1, .inl (dA 1, 60, .inl ts)), (h2, .inl (dA 0, 3, .inl tn))]) (poPi rr) 0 0 noA := by
  refine of_Q (y := yX4_lettersInCommon) (cc := cX4_lettersInCommon) (maxL := 3) (ret := (some .int)) (av := [.ref h0, .ref (cA (100 + i1))]) (ws := [(h0, .inr (2, [.ref h1, .int tl, .int tp, .ref h2])), (h1, .inl (dA 1, 60, .inl ts)), (h2, .inl (dA 0, 3, .inl tn))]) (own := RX4) (by decide) rfl (Nat.le_of_ble_eq_true rfl) ?_
  intro p e s m below meth c hx hb hr ha hown hml hlocks hP hK hC hS ls hl
  have hl : lv_has ls 3 [(0, .ref h0), (1, .ref (cA (100 + i1)))] := hl
  rw [f_X4_lettersInCommon] at hf
  refine lv_iconst (v := 0) hx hb dX4_lettersInCommon_0 (by decide) ?_
  refine lv_istore_n (lv' := [(2, .int (0 : Int32)), (0, .ref h0), (1, .ref (cA (100 + i1)))]) hx hb dX4_lettersInCommon_1 rfl hl (by decide) rfl (fun ls hl => ?_)
  have hL2 : ∀ (n : Nat) (k : Int32 → Option Int32) (v_1 : Int32) (H : Heap) (locs : List Loc) (ls : Array Slot), va_P D cls [(h0, .inr (2, [.ref h1, .int tl, .int tp, .ref h2])), (h1, .inl (dA 1, 60, .inl ts)), (h2, .inl (dA 0, 3, .inl tn))] H → va_S noA s.heap H locs → lv_has ls 3 [(2, .int v_1), (0, .ref h0), (1, .ref (cA (100 + i1)))] → f_X4_lettersInCommon_L2 ts tl tp i1 k n v_1 = some rr → (∀ (y_5 : Int32) (H : Heap) (locs : List Loc) (ls : Array Slot), va_P D cls [(h0, .inr (2, [.ref h1, .int tl, .int tp, .ref h2])), (h1, .inl (dA 1, 60, .inl ts)), (h2, .inl (dA 0, 3, .inl tn))] H → va_S noA s.heap H locs → lv_has ls 3 [(2, .int y_5)] → k y_5 = some rr → W p l e ({ frames := 4, cells := 0, slots := 0, locals := 85 } : Room) s m ([.ref h0, .ref (cA (100 + i1))] : List Value).toArray below meth c H locs 0 0 (MQ below (poPi rr) ([.ref h0, .ref (cA (100 + i1))] : List Value).toArray s 0 0 noA) (F0 m 48 ls [])) → W p l e ({ frames := 4, cells := 0, slots := 0, locals := 85 } : Room) s m ([.ref h0, .ref (cA (100 + i1))] : List Value).toArray below meth c H locs 0 0 (MQ below (poPi rr) ([.ref h0, .ref (cA (100 + i1))] : List Value).toArray s 0 0 noA) (F0 m 2 ls []) := by
    intro n k
    induction n with
    | zero =>
      intro v_1 H locs ls hP hS hl hf hk
      rw [f_X4_lettersInCommon_L2] at hf
      cases hf
    | succ n ih =>
      intro v_1 H locs ls hP hS hl hf hk
      rw [f_X4_lettersInCommon_L2] at hf
      refine lv_iload_n hx hb dX4_lettersInCommon_2 rfl (lv_at hl 0 rfl) ?_
      refine lv_aload_n hx hb dX4_lettersInCommon_3 rfl (lv_at hl 2 rfl) ?_
      obtain ⟨r_2, hc2, hf⟩ := sf_c1e hf
      refine k_Pi (run_QV (As := []) (rest := [.int v_1]) ⟨hx, hb, hml, hown, ha⟩ (c_J0_length_8abf5 l D dA cA    i1 hi1 _ hc2) (gi_V m_1577 m_1083 m_1084 m_43 m_1085) yd_J0_length_8abf5 ⟨Nat.le_of_ble_eq_true rfl, Nat.le_of_ble_eq_true rfl⟩ ⟨rfl, rfl⟩ hK hC hS hP [] rfl (vk_recv (adK := fun i => cA (100 + i)) hC.1.1 hi1 hS) rfl hl.1 rfl (Nat.le_of_ble_eq_true rfl) dX4_lettersInCommon_4 ⟨Nat.le_of_ble_eq_true rfl, Nat.le_of_ble_eq_true rfl⟩) hP hS (fun H locs hP hS => ?_)
      refine lv_icmp_ge (tgt := 48) hx hb dX4_lettersInCommon_7 (by decide) (fun hc => ?_) (fun hc => ?_)
      · have hf := sf_bp hf hc
        exact hk _ _ _ _ hP hS (lv_sub hl [0] rfl) hf
      · have hf := sf_bn hf hc
        refine lv_aload_n hx hb dX4_lettersInCommon_10 rfl (lv_at hl 1 rfl) ?_
        refine gt_f (C := RX4) (T := TX4) (N := 4) hx hb ha in_X4 hown hK hP 0 rfl rfl 2 (by decide) m_285 rfl dX4_lettersInCommon_11 ?_
        refine lv_iload_n hx hb dX4_lettersInCommon_14 rfl (lv_at hl 0 rfl) ?_
        refine lv_iadd hx hb dX4_lettersInCommon_15 ?_
        refine lv_aload_n hx hb dX4_lettersInCommon_16 rfl (lv_at hl 1 rfl) ?_
        refine gt_f (C := RX4) (T := TX4) (N := 4) hx hb ha in_X4 hown hK hP 0 rfl rfl 1 (by decide) m_283 rfl dX4_lettersInCommon_17 ?_
        refine lv_icmp_ge (tgt := 48) hx hb dX4_lettersInCommon_20 (by decide) (fun hc => ?_) (fun hc => ?_)
        · have hf := sf_bp hf hc
          exact hk _ _ _ _ hP hS (lv_sub hl [0] rfl) hf
        · have hf := sf_bn hf hc
          refine lv_aload_n hx hb dX4_lettersInCommon_23 rfl (lv_at hl 1 rfl) ?_
          refine gt_f (C := RX4) (T := TX4) (N := 4) hx hb ha in_X4 hown hK hP 0 rfl rfl 0 (by decide) m_282 rfl dX4_lettersInCommon_24 ?_
          refine lv_aload_n hx hb dX4_lettersInCommon_27 rfl (lv_at hl 1 rfl) ?_
          refine gt_f (C := RX4) (T := TX4) (N := 4) hx hb ha in_X4 hown hK hP 0 rfl rfl 2 (by decide) m_285 rfl dX4_lettersInCommon_28 ?_
          refine lv_iload_n hx hb dX4_lettersInCommon_31 rfl (lv_at hl 0 rfl) ?_
          refine lv_iadd hx hb dX4_lettersInCommon_32 ?_
          obtain ⟨hi, hf⟩ := sf_ge hf
          refine ca_ld hx hb hK hP 1 rfl hi dX4_lettersInCommon_33 ?_
          refine lv_aload_n hx hb dX4_lettersInCommon_34 rfl (lv_at hl 2 rfl) ?_
          refine lv_iload_n hx hb dX4_lettersInCommon_35 rfl (lv_at hl 0 rfl) ?_
          obtain ⟨r_3, hc3, hf⟩ := sf_c1e hf
          refine k_Pi (run_QV (As := [.int v_1]) (rest := [.int (ts (tp + v_1).toNatClampNeg)]) ⟨hx, hb, hml, hown, ha⟩ (c_J0_charAt_5068e l D dA cA    i1 hi1 v_1 _ hc3) (gi_V m_1578 m_1319 m_1320 m_43 m_1321) yd_J0_charAt_5068e ⟨Nat.le_of_ble_eq_true rfl, Nat.le_of_ble_eq_true rfl⟩ ⟨rfl, rfl⟩ hK hC hS hP [] rfl (vk_recv (adK := fun i => cA (100 + i)) hC.1.1 hi1 hS) rfl hl.1 rfl (Nat.le_of_ble_eq_true rfl) dX4_lettersInCommon_36 ⟨Nat.le_of_ble_eq_true rfl, Nat.le_of_ble_eq_true rfl⟩) hP hS (fun H locs hP hS => ?_)
          refine lv_icmp_ne (tgt := 48) hx hb dX4_lettersInCommon_39 (by decide) (fun hc => ?_) (fun hc => ?_)
          · have hf := sf_bn hf hc
            exact hk _ _ _ _ hP hS (lv_sub hl [0] rfl) hf
          · have hf := sf_bp hf hc
            obtain ⟨x_4, ex_4, hf⟩ := sf_ne hf
            refine ii_nc (lv' := [(2, .int x_4), (0, .ref h0), (1, .ref (cA (100 + i1)))]) (k := 0) hx hb dX4_lettersInCommon_42 hl rfl ex_4 (by decide) (by decide) rfl (fun ls hl => ?_)
            refine lv_goto (tgt := 2) hx hb dX4_lettersInCommon_45 (by decide) ?_
            exact ih _ _ _ _ hP hS (lv_sub hl [0, 1, 2] rfl) hf hk
  refine hL2 _ _ _ _ _ _ hP hS (lv_sub hl [0, 1, 2] rfl) hf (fun y_5 H locs ls hP hS hl hf => ?_)
  refine lv_iload_n hx hb dX4_lettersInCommon_48 rfl (lv_at hl 0 rfl) ?_
  exact rt_Pi hx hb hr hlocks (Option.some.inj hf) hS dX4_lettersInCommon_49

def f_X4_takeKeyword_L15 (ts : Nat → Int32) (tl : Int32) (tp : Int32) (k : Int32 → Option Nat → Option (Option Nat × Int32)) : Nat → Int32 → Int32 → Option Nat → Option (Option Nat × Int32)
  | 0, _, _, _ => none
  | n + 1, v_1, v_2, o_3 => sf_b ((7 : Int32) ≤ v_1) (k v_2 o_3) (sf_g (sf_in v_1 7 = true) (sf_c1 (f_X4_lettersInCommon ts tl tp v_1.toNatClampNeg) (fun r_5 => sf_b (r_5 ≤ v_2) (sf_n (v_1 + (1 : Int32)) (fun x_6 => f_X4_takeKeyword_L15 ts tl tp k n x_6 v_2 o_3)) (sf_o o_3 (sf_n (v_1 + (1 : Int32)) (fun x_8 => f_X4_takeKeyword_L15 ts tl tp k n x_8 r_5 (some v_1.toNatClampNeg))) (fun i_7 => sf_g (i_7 < 7) (sf_n (v_1 + (1 : Int32)) (fun x_9 => f_X4_takeKeyword_L15 ts tl tp k n x_9 r_5 (some v_1.toNatClampNeg))))))))
def f_X4_takeKeyword (ts : Nat → Int32) (tl : Int32) (tp : Int32) : Option (Option Nat × Int32) :=
  f_X4_takeKeyword_L15 ts tl tp (fun y_10 o_11 => sf_n ((tp + y_10)) (fun x_12 => sf_o o_11 (some (none, x_12)) (fun i_13 => sf_g (i_13 < 7) (sf_c1 (f_J0_length_8abf5 i_13) (fun r_14 => sf_b (r_14 ≤ y_10) (some ((some i_13), x_12)) (some (none, x_12))))))) 2000 (0 : Int32) (0 : Int32) none
theorem yd_X4_takeKeyword : yX4_takeKeyword.cls = RX4 ∧ yX4_takeKeyword.cls ≠ "java/lang/invoke/MethodHandle" ∧ yX4_takeKeyword.cls ≠ "java/lang/invoke/VarHandle" ∧ (parseMethodDescriptor yX4_takeKeyword.desc).map (fun d => d.parameters.length) = some 0 := ⟨rfl, by decide, by decide, by decide +kernel⟩
set_option maxRecDepth 100000 in
set_option maxHeartbeats 4000000 in
theorem c_X4_takeKeyword (l : Launch) (D : va_G) (dA : Nat → ClassId) (cA : Nat → Nat) (h0 h1 h2 : Nat) (sz : Nat) (ts : Nat → Int32) (tl : Int32) (tp : Int32) (tn : Nat → Int32) (rr : Option Nat) (q_tp : Int32) (hf : f_X4_takeKeyword ts tl tp = some (rr, q_tp)) : Met l yX4_takeKeyword (wo (.code yX4_takeKeyword cX4_takeKeyword 8 (some (.object "SlidePark$Command")))) ({ frames := 5, cells := 0, slots := 0, locals := 107 } : Room) (preN D dA cA [.ref h0] sz [(h0, .inr (2, [.ref h1, .int tl, .int tp, .ref h2])), (h1, .inl (dA 1, 60, .inl ts)), (h2, .inl (dA 0, 3, .inl tn))]) (poNe D cA rr [(h0, .inr (2, [.ref h1, .int tl, .int q_tp, .ref h2])), (h1, .inl (dA 1, 60, .inl ts)), (h2, .inl (dA 0, 3, .inl tn))] (va_A [(h0, .inr (2, [.ref h1, .int tl, .int tp, .ref h2])), (h1, .inl (dA 1, 60, .inl ts)), (h2, .inl (dA 0, 3, .inl tn))] sz)) 0 0 (va_A [(h0, .inr (2, [.ref h1, .int tl, .int tp, .ref h2])), (h1, .inl (dA 1, 60, .inl ts)), (h2, .inl (dA 0, 3, .inl tn))] sz) := by
  refine of_N (y := yX4_takeKeyword) (cc := cX4_takeKeyword) (maxL := 8) (ret := (some (.object "SlidePark$Command"))) (av := [.ref h0]) (ws := [(h0, .inr (2, [.ref h1, .int tl, .int tp, .ref h2])), (h1, .inl (dA 1, 60, .inl ts)), (h2, .inl (dA 0, 3, .inl tn))]) (sz := sz) (own := RX4) (Qc := poNe D cA rr [(h0, .inr (2, [.ref h1, .int tl, .int q_tp, .ref h2])), (h1, .inl (dA 1, 60, .inl ts)), (h2, .inl (dA 0, 3, .inl tn))]) (by decide) rfl (Nat.le_of_ble_eq_true rfl) ?_
  intro p e s m below meth c A hx hb hr ha hown hml hlocks hin hP hK hD hC hS hA ls hl
  have hl : lv_has ls 8 [(0, .ref h0)] := hl
  rw [f_X4_takeKeyword] at hf
  refine lv_null hx hb dX4_takeKeyword_0 ?_
  refine lv_astore_nN (lv' := [(1, .null), (0, .ref h0)]) hx hb dX4_takeKeyword_1 rfl hl (by decide) rfl (fun ls hl => ?_)
  refine lv_iconst (v := 0) hx hb dX4_takeKeyword_2 (by decide) ?_
  refine lv_istore_n (lv' := [(2, .int (0 : Int32)), (1, .null), (0, .ref h0)]) hx hb dX4_takeKeyword_3 rfl hl (by decide) rfl (fun ls hl => ?_)
  refine va_getsN hx hb hC.1.2.2.2.1 hS hown (va_Nw.use rfl (hC.2.2.2 _ (List.mem_of_getElem? (i := 9) rfl))) (fun _ h => h) dX4_takeKeyword_4 ?_
  refine lv_astore_n (lv' := [(3, .ref (cA 24)), (2, .int (0 : Int32)), (1, .null), (0, .ref h0)]) hx hb dX4_takeKeyword_7 rfl hl (by decide) rfl (fun ls hl => ?_)
  refine lv_aload_n hx hb dX4_takeKeyword_8 rfl (lv_at hl 0 rfl) ?_
  refine va_tlen (v := 7) hx hb hC.1.2.2.2.2.1 hS rfl dX4_takeKeyword_9 ?_
  refine lv_istore (lv' := [(4, .int (7 : Int32)), (3, .ref (cA 24)), (2, .int (0 : Int32)), (1, .null), (0, .ref h0)]) hx hb dX4_takeKeyword_10 hl (by decide) rfl (fun ls hl => ?_)
  refine lv_iconst (v := 0) hx hb dX4_takeKeyword_12 (by decide) ?_
  refine lv_istore (lv' := [(5, .int (0 : Int32)), (4, .int (7 : Int32)), (3, .ref (cA 24)), (2, .int (0 : Int32)), (1, .null), (0, .ref h0)]) hx hb dX4_takeKeyword_13 hl (by decide) rfl (fun ls hl => ?_)
  have hL15 : ∀ (n : Nat) (k : Int32 → Option Nat → Option (Option Nat × Int32)) (v_1 : Int32) (v_2 : Int32) (o_3 : Option Nat) (H : Heap) (locs : List Loc) (ls : Array Slot), va_P D cls [(h0, .inr (2, [.ref h1, .int tl, .int tp, .ref h2])), (h1, .inl (dA 1, 60, .inl ts)), (h2, .inl (dA 0, 3, .inl tn))] H → va_D A [(h0, .inr (2, [.ref h1, .int tl, .int tp, .ref h2])), (h1, .inl (dA 1, 60, .inl ts)), (h2, .inl (dA 0, 3, .inl tn))] → va_S A s.heap H locs → lv_has ls 8 [(5, .int v_1), (4, .int (7 : Int32)), (3, .ref (cA 24)), (2, .int v_2), (1, va_re (fun i => cA (16 + i)) o_3), (0, .ref h0)] → f_X4_takeKeyword_L15 ts tl tp k n v_1 v_2 o_3 = some (rr, q_tp) → (∀ (y_10 : Int32) (o_11 : Option Nat) (H : Heap) (locs : List Loc) (ls : Array Slot), va_P D cls [(h0, .inr (2, [.ref h1, .int tl, .int tp, .ref h2])), (h1, .inl (dA 1, 60, .inl ts)), (h2, .inl (dA 0, 3, .inl tn))] H → va_D A [(h0, .inr (2, [.ref h1, .int tl, .int tp, .ref h2])), (h1, .inl (dA 1, 60, .inl ts)), (h2, .inl (dA 0, 3, .inl tn))] → va_S A s.heap H locs → lv_has ls 8 [(2, .int y_10), (1, va_re (fun i => cA (16 + i)) o_11), (0, .ref h0)] → k y_10 o_11 = some (rr, q_tp) → W p l e ({ frames := 5, cells := 0, slots := 0, locals := 107 } : Room) s m ([.ref h0] : List Value).toArray below meth c H locs 0 0 (MQ below (poNe D cA rr [(h0, .inr (2, [.ref h1, .int tl, .int q_tp, .ref h2])), (h1, .inl (dA 1, 60, .inl ts)), (h2, .inl (dA 0, 3, .inl tn))] A) ([.ref h0] : List Value).toArray s 0 0 A) (F0 m 57 ls [])) → W p l e ({ frames := 5, cells := 0, slots := 0, locals := 107 } : Room) s m ([.ref h0] : List Value).toArray below meth c H locs 0 0 (MQ below (poNe D cA rr [(h0, .inr (2, [.ref h1, .int tl, .int q_tp, .ref h2])), (h1, .inl (dA 1, 60, .inl ts)), (h2, .inl (dA 0, 3, .inl tn))] A) ([.ref h0] : List Value).toArray s 0 0 A) (F0 m 15 ls []) := by
    intro n k
    induction n with
    | zero =>
      intro v_1 v_2 o_3 H locs ls hP hD hS hl hf hk
      rw [f_X4_takeKeyword_L15] at hf
      cases hf
    | succ n ih =>
      intro v_1 v_2 o_3 H locs ls hP hD hS hl hf hk
      rw [f_X4_takeKeyword_L15] at hf
      refine lv_iload hx hb dX4_takeKeyword_15 (lv_at hl 0 rfl) ?_
      refine lv_iload hx hb dX4_takeKeyword_17 (lv_at hl 1 rfl) ?_
      refine lv_icmp_ge (tgt := 57) hx hb dX4_takeKeyword_19 (by decide) (fun hc => ?_) (fun hc => ?_)
      · have hf := sf_bp hf hc
        exact hk _ _ _ _ _ (hP.sub [0, 1, 2] rfl) (hD.sub [0, 1, 2] (by decide) rfl) hS (lv_sub hl [3, 4, 5] rfl) hf
      · have hf := sf_bn hf hc
        refine lv_aload_n hx hb dX4_takeKeyword_22 rfl (lv_at hl 2 rfl) ?_
        refine lv_iload hx hb dX4_takeKeyword_23 (lv_at hl 0 rfl) ?_
        obtain ⟨h_4, hf⟩ := sf_ge hf
        refine vb_tq (v := .ref (cA (16 + v_1.toNatClampNeg))) hx hb hC.1.2.2.2.2.1 hS (sf_inv h_4) rfl dX4_takeKeyword_25 ?_
        refine lv_astore (lv' := [(6, .ref (cA (16 + v_1.toNatClampNeg))), (5, .int v_1), (4, .int (7 : Int32)), (3, .ref (cA 24)), (2, .int v_2), (1, va_re (fun i => cA (16 + i)) o_3), (0, .ref h0)]) hx hb dX4_takeKeyword_26 hl (by decide) rfl (fun ls hl => ?_)
        refine lv_aload_n hx hb dX4_takeKeyword_28 rfl (lv_at hl 6 rfl) ?_
        refine lv_aload hx hb dX4_takeKeyword_29 (lv_at hl 0 rfl) ?_
        refine va_getX (ad := fun i => cA (16 + i)) (i := v_1.toNatClampNeg) hx hb hC.1.2.2.1 (sf_inl h_4) hS hown (ha _ m_1671) (fun _ h => h) dX4_takeKeyword_31 ?_
        obtain ⟨r_5, hc5, hf⟩ := sf_c1e hf
        refine k_Pi (run_QV (As := [.ref (cA (100 + v_1.toNatClampNeg))]) (rest := []) ⟨hx, hb, hml, hown, ha⟩ (c_X4_lettersInCommon l D dA cA h0 h1 h2  ts tl tp tn v_1.toNatClampNeg (Nat.lt_of_lt_of_le (sf_inl h_4) (Nat.le_of_ble_eq_true rfl)) _ hc5) (gi_V m_1573 m_1575 m_25 m_40 m_1576) yd_X4_lettersInCommon ⟨Nat.le_of_ble_eq_true rfl, Nat.le_of_ble_eq_true rfl⟩ ⟨rfl, rfl⟩ hK hC hS hP [0, 1, 2] rfl (va_recv hK hP (q0 := 0) rfl rfl) rfl hl.1 rfl (Nat.le_of_ble_eq_true rfl) dX4_takeKeyword_34 ⟨Nat.le_of_ble_eq_true rfl, Nat.le_of_ble_eq_true rfl⟩) hP hS (fun H locs hP hS => ?_)
        refine lv_istore (lv' := [(7, .int r_5), (6, .ref (cA (16 + v_1.toNatClampNeg))), (5, .int v_1), (4, .int (7 : Int32)), (3, .ref (cA 24)), (2, .int v_2), (1, va_re (fun i => cA (16 + i)) o_3), (0, .ref h0)]) hx hb dX4_takeKeyword_37 hl (by decide) rfl (fun ls hl => ?_)
        refine lv_iload hx hb dX4_takeKeyword_39 (lv_at hl 0 rfl) ?_
        refine lv_iload_n hx hb dX4_takeKeyword_41 rfl (lv_at hl 5 rfl) ?_
        refine lv_icmp_le (tgt := 51) hx hb dX4_takeKeyword_42 (by decide) (fun hc => ?_) (fun hc => ?_)
        · have hf := sf_bp hf hc
          obtain ⟨x_6, ex_6, hf⟩ := sf_ne hf
          refine ii_nc (lv' := [(5, .int x_6), (7, .int r_5), (6, .ref (cA (16 + v_1.toNatClampNeg))), (4, .int (7 : Int32)), (3, .ref (cA 24)), (2, .int v_2), (1, va_re (fun i => cA (16 + i)) o_3), (0, .ref h0)]) (k := 2) hx hb dX4_takeKeyword_51 hl rfl ex_6 (by decide) (by decide) rfl (fun ls hl => ?_)
          refine lv_goto (tgt := 15) hx hb dX4_takeKeyword_54 (by decide) ?_
          exact ih _ _ _ _ _ _ (hP.sub [0, 1, 2] rfl) (hD.sub [0, 1, 2] (by decide) rfl) hS (lv_sub hl [0, 3, 4, 5, 6, 7] rfl) hf hk
        · have hf := sf_bn hf hc
          refine lv_iload hx hb dX4_takeKeyword_45 (lv_at hl 0 rfl) ?_
          rcases sf_oe hf with ⟨ho7, hfo⟩ | ⟨i_7, ho7, hfo⟩
          · subst ho7
            have hf := hfo
            refine lv_istore_n (lv' := [(2, .int r_5), (7, .int r_5), (6, .ref (cA (16 + v_1.toNatClampNeg))), (5, .int v_1), (4, .int (7 : Int32)), (3, .ref (cA 24)), (1, .null), (0, .ref h0)]) hx hb dX4_takeKeyword_47 rfl hl (by decide) rfl (fun ls hl => ?_)
            refine lv_aload hx hb dX4_takeKeyword_48 (lv_at hl 2 rfl) ?_
            refine lv_astore_n (lv' := [(1, .ref (cA (16 + v_1.toNatClampNeg))), (2, .int r_5), (7, .int r_5), (6, .ref (cA (16 + v_1.toNatClampNeg))), (5, .int v_1), (4, .int (7 : Int32)), (3, .ref (cA 24)), (0, .ref h0)]) hx hb dX4_takeKeyword_50 rfl hl (by decide) rfl (fun ls hl => ?_)
            obtain ⟨x_8, ex_8, hf⟩ := sf_ne hf
            refine ii_nc (lv' := [(5, .int x_8), (1, .ref (cA (16 + v_1.toNatClampNeg))), (2, .int r_5), (7, .int r_5), (6, .ref (cA (16 + v_1.toNatClampNeg))), (4, .int (7 : Int32)), (3, .ref (cA 24)), (0, .ref h0)]) (k := 4) hx hb dX4_takeKeyword_51 hl rfl ex_8 (by decide) (by decide) rfl (fun ls hl => ?_)
            refine lv_goto (tgt := 15) hx hb dX4_takeKeyword_54 (by decide) ?_
            exact ih _ _ _ _ _ _ (hP.sub [0, 1, 2] rfl) (hD.sub [0, 1, 2] (by decide) rfl) hS (lv_sub hl [0, 5, 6, 2, 1, 7] rfl) hf hk
          · subst ho7
            have hf := hfo
            obtain ⟨hb7, hf⟩ := sf_ge hf
            refine lv_istore_n (lv' := [(2, .int r_5), (7, .int r_5), (6, .ref (cA (16 + v_1.toNatClampNeg))), (5, .int v_1), (4, .int (7 : Int32)), (3, .ref (cA 24)), (1, .ref (cA (16 + i_7))), (0, .ref h0)]) hx hb dX4_takeKeyword_47 rfl hl (by decide) rfl (fun ls hl => ?_)
            refine lv_aload hx hb dX4_takeKeyword_48 (lv_at hl 2 rfl) ?_
            refine lv_astore_n (lv' := [(1, .ref (cA (16 + v_1.toNatClampNeg))), (2, .int r_5), (7, .int r_5), (6, .ref (cA (16 + v_1.toNatClampNeg))), (5, .int v_1), (4, .int (7 : Int32)), (3, .ref (cA 24)), (0, .ref h0)]) hx hb dX4_takeKeyword_50 rfl hl (by decide) rfl (fun ls hl => ?_)
            obtain ⟨x_9, ex_9, hf⟩ := sf_ne hf
            refine ii_nc (lv' := [(5, .int x_9), (1, .ref (cA (16 + v_1.toNatClampNeg))), (2, .int r_5), (7, .int r_5), (6, .ref (cA (16 + v_1.toNatClampNeg))), (4, .int (7 : Int32)), (3, .ref (cA 24)), (0, .ref h0)]) (k := 4) hx hb dX4_takeKeyword_51 hl rfl ex_9 (by decide) (by decide) rfl (fun ls hl => ?_)
            refine lv_goto (tgt := 15) hx hb dX4_takeKeyword_54 (by decide) ?_
            exact ih _ _ _ _ _ _ (hP.sub [0, 1, 2] rfl) (hD.sub [0, 1, 2] (by decide) rfl) hS (lv_sub hl [0, 5, 6, 2, 1, 7] rfl) hf hk
  refine hL15 _ _ _ _ _ _ _ _ hP hD hS (lv_sub hl [0, 1, 2, 3, 4, 5] rfl) hf (fun y_10 o_11 H locs ls hP hD hS hl hf => ?_)
  refine lv_aload_n hx hb dX4_takeKeyword_57 rfl (lv_at hl 2 rfl) ?_
  refine lv_dup hx hb dX4_takeKeyword_58 rfl ?_
  refine gt_f (C := RX4) (T := TX4) (N := 4) hx hb ha in_X4 hown hK hP 0 rfl rfl 2 (by decide) m_285 rfl dX4_takeKeyword_59 ?_
  refine lv_iload_n hx hb dX4_takeKeyword_62 rfl (lv_at hl 0 rfl) ?_
  refine lv_iadd hx hb dX4_takeKeyword_63 ?_
  obtain ⟨x_12, ex_12, hf⟩ := sf_ne hf
  refine tp_i ex_12 ?_
  refine pt_f (C := RX4) (T := TX4) (N := 4) (ws' := [(h0, .inr (2, [.ref h1, .int tl, .int x_12, .ref h2])), (h1, .inl (dA 1, 60, .inl ts)), (h2, .inl (dA 0, 3, .inl tn))]) (ty := .int) hx hb ha in_X4 tyX4 tyX4_ok nmX4 hown hK hP hD hS 0 rfl rfl 2 (by decide) m_285 rfl (tyX4_ok 2 (by decide)) rfl rfl (Nat.le_of_ble_eq_true rfl) rfl dX4_takeKeyword_64 (fun H locs hP hD hS => ?_)
  rcases sf_oe hf with ⟨ho13, hfo⟩ | ⟨i_13, ho13, hfo⟩
  · subst ho13
    have hf := hfo
    refine lv_aload_nN hx hb dX4_takeKeyword_67 rfl (lv_at hl 1 rfl) ?_
    refine lv_ifnullN (tgt := 82) hx hb dX4_takeKeyword_68 (by decide) ?_
    refine lv_null hx hb dX4_takeKeyword_82 ?_
    cases hf
    exact rt_Ne hx hb hr ⟨_, rfl⟩ hlocks (hP.sub [0, 1, 2] rfl) (hD.sub [0, 1, 2] (by decide) rfl) hS dX4_takeKeyword_83
  · subst ho13
    have hf := hfo
    obtain ⟨hb13, hf⟩ := sf_ge hf
    refine lv_aload_n hx hb dX4_takeKeyword_67 rfl (lv_at hl 1 rfl) ?_
    refine lv_ifnull hx hb dX4_takeKeyword_68 ?_
    refine lv_iload_n hx hb dX4_takeKeyword_71 rfl (lv_at hl 0 rfl) ?_
    refine lv_aload_n hx hb dX4_takeKeyword_72 rfl (lv_at hl 1 rfl) ?_
    refine va_getX (ad := fun i => cA (16 + i)) (i := i_13) hx hb hC.1.2.2.1 hb13 hS hown (ha _ m_1671) (fun _ h => h) dX4_takeKeyword_73 ?_
    obtain ⟨r_14, hc14, hf⟩ := sf_c1e hf
    refine k_Pi (run_QV (As := []) (rest := [.int y_10]) ⟨hx, hb, hml, hown, ha⟩ (c_J0_length_8abf5 l D dA cA    i_13 (Nat.lt_of_lt_of_le hb13 (Nat.le_of_ble_eq_true rfl)) _ hc14) (gi_V m_1577 m_1083 m_1084 m_43 m_1085) yd_J0_length_8abf5 ⟨Nat.le_of_ble_eq_true rfl, Nat.le_of_ble_eq_true rfl⟩ ⟨rfl, rfl⟩ hK hC hS hP [] rfl (vk_recv (adK := fun i => cA (100 + i)) hC.1.1 (Nat.lt_of_lt_of_le hb13 (Nat.le_of_ble_eq_true rfl)) hS) rfl hl.1 rfl (Nat.le_of_ble_eq_true rfl) dX4_takeKeyword_76 ⟨Nat.le_of_ble_eq_true rfl, Nat.le_of_ble_eq_true rfl⟩) hP hS (fun H locs hP hS => ?_)
    refine lv_icmp_ge (tgt := 84) hx hb dX4_takeKeyword_79 (by decide) (fun hc => ?_) (fun hc => ?_)
    · have hf := sf_bp hf hc
      refine lv_aload_n hx hb dX4_takeKeyword_84 rfl (lv_at hl 1 rfl) ?_
      cases hf
      exact rt_Ne hx hb hr ⟨_, rfl⟩ hlocks (hP.sub [0, 1, 2] rfl) (hD.sub [0, 1, 2] (by decide) rfl) hS dX4_takeKeyword_85
    · have hf := sf_bn hf hc
      refine lv_null hx hb dX4_takeKeyword_82 ?_
      cases hf
      exact rt_Ne hx hb hr ⟨_, rfl⟩ hlocks (hP.sub [0, 1, 2] rfl) (hD.sub [0, 1, 2] (by decide) rfl) hS dX4_takeKeyword_83

def f_X4_takeNumbers_L2 (ts : Nat → Int32) (tl : Int32) (i1 : Nat) (k : Int32 → (Nat → Int32) → Option (Int32 × Int32 × (Nat → Int32))) : Nat → Int32 → Int32 → (Nat → Int32) → Option (Int32 × Int32 × (Nat → Int32))
  | 0, _, _, _ => none
  | n + 1, v_1, v_2, w_3 => sf_b ((enN i1) ≤ v_1) (k v_2 w_3) (sf_b (v_1 = ((enN i1) - (1 : Int32))) (sf_n ((enD i1)) (fun x_10 => sf_c2 (f_X4_takeSign ts tl v_2 (32 : Int32)) (fun r_11 x_12 => sf_b (r_11 = (0 : Int32)) (some ((0 : Int32), x_12, w_3)) (sf_c3 (f_X4_takeNumber ts tl x_12 w_3 v_1 x_10) (fun r_13 x_14 a_15 => sf_b (r_13 = (0 : Int32)) (some ((0 : Int32), x_14, a_15)) (sf_n (v_1 + (1 : Int32)) (fun x_16 => f_X4_takeNumbers_L2 ts tl i1 k n x_16 x_14 a_15))))))) (sf_c2 (f_X4_takeSign ts tl v_2 (32 : Int32)) (fun r_4 x_5 => sf_b (r_4 = (0 : Int32)) (some ((0 : Int32), x_5, w_3)) (sf_c3 (f_X4_takeNumber ts tl x_5 w_3 v_1 (1 : Int32)) (fun r_6 x_7 a_8 => sf_b (r_6 = (0 : Int32)) (some ((0 : Int32), x_7, a_8)) (sf_n (v_1 + (1 : Int32)) (fun x_9 => f_X4_takeNumbers_L2 ts tl i1 k n x_9 x_7 a_8)))))))
def f_X4_takeNumbers (ts : Nat → Int32) (tl : Int32) (tp : Int32) (tn : Nat → Int32) (i1 : Nat) : Option (Int32 × Int32 × (Nat → Int32)) :=
  f_X4_takeNumbers_L2 ts tl i1 (fun y_17 z_18 => some ((1 : Int32), y_17, z_18)) 2000 (0 : Int32) tp tn
theorem yd_X4_takeNumbers : yX4_takeNumbers.cls = RX4 ∧ yX4_takeNumbers.cls ≠ "java/lang/invoke/MethodHandle" ∧ yX4_takeNumbers.cls ≠ "java/lang/invoke/VarHandle" ∧ (parseMethodDescriptor yX4_takeNumbers.desc).map (fun d => d.parameters.length) = some 1 := ⟨rfl, by decide, by decide, by decide +kernel⟩
set_option maxRecDepth 100000 in
set_option maxHeartbeats 4000000 in
theorem c_X4_takeNumbers (l : Launch) (D : va_G) (dA : Nat → ClassId) (cA : Nat → Nat) (h0 h1 h2 : Nat) (sz : Nat) (ts : Nat → Int32) (tl : Int32) (tp : Int32) (tn : Nat → Int32) (i1 : Nat) (hi1 : i1 < 7) (rr : Int32) (q_tp : Int32) (q_tn : Nat → Int32) (hf : f_X4_takeNumbers ts tl tp tn i1 = some (rr, q_tp, q_tn)) : Met l yX4_takeNumbers (wo (.code yX4_takeNumbers cX4_takeNumbers 4 (some .boolean))) ({ frames := 2, cells := 0, slots := 0, locals := 44 } : Room) (preN D dA cA [.ref h0, .ref (cA (16 + i1))] sz [(h0, .inr (2, [.ref h1, .int tl, .int tp, .ref h2])), (h1, .inl (dA 1, 60, .inl ts)), (h2, .inl (dA 0, 3, .inl tn))]) (poMi D rr [(h0, .inr (2, [.ref h1, .int tl, .int q_tp, .ref h2])), (h1, .inl (dA 1, 60, .inl ts)), (h2, .inl (dA 0, 3, .inl q_tn))] (va_A [(h0, .inr (2, [.ref h1, .int tl, .int tp, .ref h2])), (h1, .inl (dA 1, 60, .inl ts)), (h2, .inl (dA 0, 3, .inl tn))] sz)) 0 0 (va_A [(h0, .inr (2, [.ref h1, .int tl, .int tp, .ref h2])), (h1, .inl (dA 1, 60, .inl ts)), (h2, .inl (dA 0, 3, .inl tn))] sz) := by
  refine of_N (y := yX4_takeNumbers) (cc := cX4_takeNumbers) (maxL := 4) (ret := (some .boolean)) (av := [.ref h0, .ref (cA (16 + i1))]) (ws := [(h0, .inr (2, [.ref h1, .int tl, .int tp, .ref h2])), (h1, .inl (dA 1, 60, .inl ts)), (h2, .inl (dA 0, 3, .inl tn))]) (sz := sz) (own := RX4) (Qc := poMi D rr [(h0, .inr (2, [.ref h1, .int tl, .int q_tp, .ref h2])), (h1, .inl (dA 1, 60, .inl ts)), (h2, .inl (dA 0, 3, .inl q_tn))]) (by decide) rfl (Nat.le_of_ble_eq_true rfl) ?_
  intro p e s m below meth c A hx hb hr ha hown hml hlocks hin hP hK hD hC hS hA ls hl
  have hl : lv_has ls 4 [(0, .ref h0), (1, .ref (cA (16 + i1)))] := hl
  rw [f_X4_takeNumbers] at hf
  refine lv_iconst (v := 0) hx hb dX4_takeNumbers_0 (by decide) ?_
  refine lv_istore_n (lv' := [(2, .int (0 : Int32)), (0, .ref h0), (1, .ref (cA (16 + i1)))]) hx hb dX4_takeNumbers_1 rfl hl (by decide) rfl (fun ls hl => ?_)
  have hL2 : ∀ (n : Nat) (k : Int32 → (Nat → Int32) → Option (Int32 × Int32 × (Nat → Int32))) (v_1 : Int32) (v_2 : Int32) (w_3 : (Nat → Int32)) (H : Heap) (locs : List Loc) (ls : Array Slot), va_P D cls [(h0, .inr (2, [.ref h1, .int tl, .int v_2, .ref h2])), (h1, .inl (dA 1, 60, .inl ts)), (h2, .inl (dA 0, 3, .inl w_3))] H → va_D A [(h0, .inr (2, [.ref h1, .int tl, .int v_2, .ref h2])), (h1, .inl (dA 1, 60, .inl ts)), (h2, .inl (dA 0, 3, .inl w_3))] → va_S A s.heap H locs → lv_has ls 4 [(2, .int v_1), (0, .ref h0), (1, .ref (cA (16 + i1)))] → f_X4_takeNumbers_L2 ts tl i1 k n v_1 v_2 w_3 = some (rr, q_tp, q_tn) → (∀ (y_17 : Int32) (z_18 : (Nat → Int32)) (H : Heap) (locs : List Loc) (ls : Array Slot), va_P D cls [(h0, .inr (2, [.ref h1, .int tl, .int y_17, .ref h2])), (h1, .inl (dA 1, 60, .inl ts)), (h2, .inl (dA 0, 3, .inl z_18))] H → va_D A [(h0, .inr (2, [.ref h1, .int tl, .int y_17, .ref h2])), (h1, .inl (dA 1, 60, .inl ts)), (h2, .inl (dA 0, 3, .inl z_18))] → va_S A s.heap H locs → lv_has ls 4 [] → k y_17 z_18 = some (rr, q_tp, q_tn) → W p l e ({ frames := 2, cells := 0, slots := 0, locals := 44 } : Room) s m ([.ref h0, .ref (cA (16 + i1))] : List Value).toArray below meth c H locs 0 0 (MQ below (poMi D rr [(h0, .inr (2, [.ref h1, .int tl, .int q_tp, .ref h2])), (h1, .inl (dA 1, 60, .inl ts)), (h2, .inl (dA 0, 3, .inl q_tn))] A) ([.ref h0, .ref (cA (16 + i1))] : List Value).toArray s 0 0 A) (F0 m 55 ls [])) → W p l e ({ frames := 2, cells := 0, slots := 0, locals := 44 } : Room) s m ([.ref h0, .ref (cA (16 + i1))] : List Value).toArray below meth c H locs 0 0 (MQ below (poMi D rr [(h0, .inr (2, [.ref h1, .int tl, .int q_tp, .ref h2])), (h1, .inl (dA 1, 60, .inl ts)), (h2, .inl (dA 0, 3, .inl q_tn))] A) ([.ref h0, .ref (cA (16 + i1))] : List Value).toArray s 0 0 A) (F0 m 2 ls []) := by
    intro n k
    induction n with
    | zero =>
      intro v_1 v_2 w_3 H locs ls hP hD hS hl hf hk
      rw [f_X4_takeNumbers_L2] at hf
      cases hf
    | succ n ih =>
      intro v_1 v_2 w_3 H locs ls hP hD hS hl hf hk
      rw [f_X4_takeNumbers_L2] at hf
      refine lv_iload_n hx hb dX4_takeNumbers_2 rfl (lv_at hl 0 rfl) ?_
      refine lv_aload_n hx hb dX4_takeNumbers_3 rfl (lv_at hl 2 rfl) ?_
      refine va_getE (ad := fun i => cA (16 + i)) (i := i1) hx hb hC.1.2.1 hi1 hS hown (q := ("SlidePark$Command", "numberCount", "I", [2, 0, 3, 1, 2, 1, 1])) (List.mem_of_getElem? (i := 1) rfl) (ha _ m_1672) (fun _ h => h) dX4_takeNumbers_4 ?_
      refine tp_i (z := enN i1) rfl ?_
      refine lv_icmp_ge (tgt := 55) hx hb dX4_takeNumbers_7 (by decide) (fun hc => ?_) (fun hc => ?_)
      · have hf := sf_bp hf hc
        exact hk _ _ _ _ _ (hP.sub [0, 1, 2] rfl) (hD.sub [0, 1, 2] (by decide) rfl) hS (lv_sub hl [] rfl) hf
      · have hf := sf_bn hf hc
        refine lv_iload_n hx hb dX4_takeNumbers_10 rfl (lv_at hl 0 rfl) ?_
        refine lv_aload_n hx hb dX4_takeNumbers_11 rfl (lv_at hl 2 rfl) ?_
        refine va_getE (ad := fun i => cA (16 + i)) (i := i1) hx hb hC.1.2.1 hi1 hS hown (q := ("SlidePark$Command", "numberCount", "I", [2, 0, 3, 1, 2, 1, 1])) (List.mem_of_getElem? (i := 1) rfl) (ha _ m_1672) (fun _ h => h) dX4_takeNumbers_12 ?_
        refine tp_i (z := enN i1) rfl ?_
        refine lv_iconst (v := 1) hx hb dX4_takeNumbers_15 (by decide) ?_
        refine lv_isub hx hb dX4_takeNumbers_16 ?_
        refine lv_icmp_ne (tgt := 27) hx hb dX4_takeNumbers_17 (by decide) (fun hc => ?_) (fun hc => ?_)
        · have hf := sf_bn hf hc
          refine lv_iconst (v := 1) hx hb dX4_takeNumbers_27 (by decide) ?_
          refine lv_istore_n (lv' := [(3, .int (1 : Int32)), (2, .int v_1), (0, .ref h0), (1, .ref (cA (16 + i1)))]) hx hb dX4_takeNumbers_28 rfl hl (by decide) rfl (fun ls hl => ?_)
          refine lv_aload_n hx hb dX4_takeNumbers_29 rfl (lv_at hl 2 rfl) ?_
          refine lv_bipush (v := 32) hx hb dX4_takeNumbers_30 (by decide) ?_
          obtain ⟨r_4, x_5, hc5, hf⟩ := sf_c2e hf
          refine k_Mi (wr := []) (run_MV (As := [.int (32 : Int32)]) (rest := []) ⟨hx, hb, hml, hown, ha⟩ (c_X4_takeSign l D dA h0 h1 h2 _ ts tl v_2 w_3 (32 : Int32) _ _ hc5) (gi_V m_1559 m_1561 m_22 m_40 m_1562) yd_X4_takeSign ⟨Nat.le_of_ble_eq_true rfl, Nat.le_of_ble_eq_true rfl⟩ ⟨rfl, rfl⟩ hK hP hD [0, 1, 2] (by decide) rfl 0 2 rfl rfl rfl rfl hl.1 rfl (Nat.le_of_ble_eq_true rfl) dX4_takeNumbers_32 ⟨Nat.le_of_ble_eq_true rfl, Nat.le_of_ble_eq_true rfl⟩) hP hD hS hA [0, 1, 2] [] rfl rfl (by decide) (by decide) (fun H locs hP hD hS => ?_)
          refine lv_if_eq (tgt := 47) hx hb dX4_takeNumbers_35 (by decide) (fun hc => ?_) (fun hc => ?_)
          · have hf := sf_bp hf hc
            refine lv_iconst (v := 0) hx hb dX4_takeNumbers_47 (by decide) ?_
            cases hf
            exact rt_Mz hx hb hr hlocks rfl (hP.sub [0, 1, 2] rfl) (hD.sub [0, 1, 2] (by decide) rfl) hS dX4_takeNumbers_48
          · have hf := sf_bn hf hc
            refine lv_aload_n hx hb dX4_takeNumbers_38 rfl (lv_at hl 2 rfl) ?_
            refine lv_iload_n hx hb dX4_takeNumbers_39 rfl (lv_at hl 1 rfl) ?_
            refine lv_iload_n hx hb dX4_takeNumbers_40 rfl (lv_at hl 0 rfl) ?_
            obtain ⟨r_6, x_7, a_8, hc8, hf⟩ := sf_c3e hf
            refine k_Mi (wr := []) (run_MV (As := [.int v_1, .int (1 : Int32)]) (rest := []) ⟨hx, hb, hml, hown, ha⟩ (c_X4_takeNumber l D dA h0 h1 h2 _ ts tl x_5 w_3 v_1 (1 : Int32) _ _ _ hc8) (gi_V m_1585 m_1587 m_27 m_40 m_1588) yd_X4_takeNumber ⟨Nat.le_of_ble_eq_true rfl, Nat.le_of_ble_eq_true rfl⟩ ⟨rfl, rfl⟩ hK hP hD [0, 1, 2] (by decide) rfl 0 2 rfl rfl rfl rfl hl.1 rfl (Nat.le_of_ble_eq_true rfl) dX4_takeNumbers_41 ⟨Nat.le_of_ble_eq_true rfl, Nat.le_of_ble_eq_true rfl⟩) hP hD hS hA [0, 1, 2] [] rfl rfl (by decide) (by decide) (fun H locs hP hD hS => ?_)
            refine lv_if_ne (tgt := 49) hx hb dX4_takeNumbers_44 (by decide) (fun hc => ?_) (fun hc => ?_)
            · have hf := sf_bn hf hc
              obtain ⟨x_9, ex_9, hf⟩ := sf_ne hf
              refine ii_nc (lv' := [(2, .int x_9), (3, .int (1 : Int32)), (0, .ref h0), (1, .ref (cA (16 + i1)))]) (k := 1) hx hb dX4_takeNumbers_49 hl rfl ex_9 (by decide) (by decide) rfl (fun ls hl => ?_)
              refine lv_goto (tgt := 2) hx hb dX4_takeNumbers_52 (by decide) ?_
              exact ih _ _ _ _ _ _ (hP.sub [0, 1, 2] rfl) (hD.sub [0, 1, 2] (by decide) rfl) hS (lv_sub hl [0, 2, 3] rfl) hf hk
            · have hf := sf_bp hf hc
              refine lv_iconst (v := 0) hx hb dX4_takeNumbers_47 (by decide) ?_
              cases hf
              exact rt_Mz hx hb hr hlocks rfl (hP.sub [0, 1, 2] rfl) (hD.sub [0, 1, 2] (by decide) rfl) hS dX4_takeNumbers_48
        · have hf := sf_bp hf hc
          refine lv_aload_n hx hb dX4_takeNumbers_20 rfl (lv_at hl 2 rfl) ?_
          refine va_getE (ad := fun i => cA (16 + i)) (i := i1) hx hb hC.1.2.1 hi1 hS hown (q := ("SlidePark$Command", "lastDigits", "I", [1, 0, 4, 2, 1, 1, 2])) (List.mem_of_getElem? (i := 2) rfl) (ha _ m_1673) (fun _ h => h) dX4_takeNumbers_21 ?_
          refine tp_i (z := enD i1) rfl ?_
          refine lv_goto (tgt := 28) hx hb dX4_takeNumbers_24 (by decide) ?_
          obtain ⟨x_10, ex_10, hf⟩ := sf_ne hf
          refine tp_i ex_10 ?_
          refine lv_istore_n (lv' := [(3, .int x_10), (2, .int v_1), (0, .ref h0), (1, .ref (cA (16 + i1)))]) hx hb dX4_takeNumbers_28 rfl hl (by decide) rfl (fun ls hl => ?_)
          refine lv_aload_n hx hb dX4_takeNumbers_29 rfl (lv_at hl 2 rfl) ?_
          refine lv_bipush (v := 32) hx hb dX4_takeNumbers_30 (by decide) ?_
          obtain ⟨r_11, x_12, hc12, hf⟩ := sf_c2e hf
          refine k_Mi (wr := []) (run_MV (As := [.int (32 : Int32)]) (rest := []) ⟨hx, hb, hml, hown, ha⟩ (c_X4_takeSign l D dA h0 h1 h2 _ ts tl v_2 w_3 (32 : Int32) _ _ hc12) (gi_V m_1559 m_1561 m_22 m_40 m_1562) yd_X4_takeSign ⟨Nat.le_of_ble_eq_true rfl, Nat.le_of_ble_eq_true rfl⟩ ⟨rfl, rfl⟩ hK hP hD [0, 1, 2] (by decide) rfl 0 2 rfl rfl rfl rfl hl.1 rfl (Nat.le_of_ble_eq_true rfl) dX4_takeNumbers_32 ⟨Nat.le_of_ble_eq_true rfl, Nat.le_of_ble_eq_true rfl⟩) hP hD hS hA [0, 1, 2] [] rfl rfl (by decide) (by decide) (fun H locs hP hD hS => ?_)
          refine lv_if_eq (tgt := 47) hx hb dX4_takeNumbers_35 (by decide) (fun hc => ?_) (fun hc => ?_)
          · have hf := sf_bp hf hc
            refine lv_iconst (v := 0) hx hb dX4_takeNumbers_47 (by decide) ?_
            cases hf
            exact rt_Mz hx hb hr hlocks rfl (hP.sub [0, 1, 2] rfl) (hD.sub [0, 1, 2] (by decide) rfl) hS dX4_takeNumbers_48
          · have hf := sf_bn hf hc
            refine lv_aload_n hx hb dX4_takeNumbers_38 rfl (lv_at hl 2 rfl) ?_
            refine lv_iload_n hx hb dX4_takeNumbers_39 rfl (lv_at hl 1 rfl) ?_
            refine lv_iload_n hx hb dX4_takeNumbers_40 rfl (lv_at hl 0 rfl) ?_
            obtain ⟨r_13, x_14, a_15, hc15, hf⟩ := sf_c3e hf
            refine k_Mi (wr := []) (run_MV (As := [.int v_1, .int x_10]) (rest := []) ⟨hx, hb, hml, hown, ha⟩ (c_X4_takeNumber l D dA h0 h1 h2 _ ts tl x_12 w_3 v_1 x_10 _ _ _ hc15) (gi_V m_1585 m_1587 m_27 m_40 m_1588) yd_X4_takeNumber ⟨Nat.le_of_ble_eq_true rfl, Nat.le_of_ble_eq_true rfl⟩ ⟨rfl, rfl⟩ hK hP hD [0, 1, 2] (by decide) rfl 0 2 rfl rfl rfl rfl hl.1 rfl (Nat.le_of_ble_eq_true rfl) dX4_takeNumbers_41 ⟨Nat.le_of_ble_eq_true rfl, Nat.le_of_ble_eq_true rfl⟩) hP hD hS hA [0, 1, 2] [] rfl rfl (by decide) (by decide) (fun H locs hP hD hS => ?_)
            refine lv_if_ne (tgt := 49) hx hb dX4_takeNumbers_44 (by decide) (fun hc => ?_) (fun hc => ?_)
            · have hf := sf_bn hf hc
              obtain ⟨x_16, ex_16, hf⟩ := sf_ne hf
              refine ii_nc (lv' := [(2, .int x_16), (3, .int x_10), (0, .ref h0), (1, .ref (cA (16 + i1)))]) (k := 1) hx hb dX4_takeNumbers_49 hl rfl ex_16 (by decide) (by decide) rfl (fun ls hl => ?_)
              refine lv_goto (tgt := 2) hx hb dX4_takeNumbers_52 (by decide) ?_
              exact ih _ _ _ _ _ _ (hP.sub [0, 1, 2] rfl) (hD.sub [0, 1, 2] (by decide) rfl) hS (lv_sub hl [0, 2, 3] rfl) hf hk
            · have hf := sf_bp hf hc
              refine lv_iconst (v := 0) hx hb dX4_takeNumbers_47 (by decide) ?_
              cases hf
              exact rt_Mz hx hb hr hlocks rfl (hP.sub [0, 1, 2] rfl) (hD.sub [0, 1, 2] (by decide) rfl) hS dX4_takeNumbers_48
  refine hL2 _ _ _ _ _ _ _ _ hP hD hS (lv_sub hl [0, 1, 2] rfl) hf (fun y_17 z_18 H locs ls hP hD hS hl hf => ?_)
  refine lv_iconst (v := 1) hx hb dX4_takeNumbers_55 (by decide) ?_
  cases hf
  exact rt_Mz hx hb hr hlocks rfl (hP.sub [0, 1, 2] rfl) (hD.sub [0, 1, 2] (by decide) rfl) hS dX4_takeNumbers_56

def f_X4_readCommand (ts : Nat → Int32) (tl : Int32) (tp : Int32) (tn : Nat → Int32) (p0 : Int32) : Option (Option Nat × Int32 × (Nat → Int32)) :=
  sf_b (p0 ≤ (0 : Int32)) (sf_c2 (f_X4_takeKeyword ts tl tp) (fun o_1 x_2 => sf_o o_1 (some (none, x_2, tn)) (fun i_3 => sf_g (i_3 < 7) (sf_b (i_3 = 6) (sf_c1 (f_X4_isNext ts tl x_2 (32 : Int32)) (fun r_4 => sf_b (r_4 = (0 : Int32)) (sf_g (sf_in (0 : Int32) 3 = true) (sf_n (upd tn (0 : Int32).toNatClampNeg (1 : Int32)) (fun a_8 => some ((some i_3), x_2, a_8)))) (sf_c3 (f_X4_takeNumbers ts tl x_2 tn i_3) (fun r_5 x_6 a_7 => sf_b (r_5 = (0 : Int32)) (some (none, x_6, a_7)) (some ((some i_3), x_6, a_7)))))) (sf_c3 (f_X4_takeNumbers ts tl x_2 tn i_3) (fun r_9 x_10 a_11 => sf_b (r_9 = (0 : Int32)) (some (none, x_10, a_11)) (some ((some i_3), x_10, a_11)))))))) (sf_c2 (f_X4_takeSign ts tl tp (59 : Int32)) (fun r_12 x_13 => sf_b (r_12 = (0 : Int32)) (some (none, x_13, tn)) (sf_c2 (f_X4_takeKeyword ts tl x_13) (fun o_14 x_15 => sf_o o_14 (some (none, x_15, tn)) (fun i_16 => sf_g (i_16 < 7) (sf_b (i_16 = 6) (sf_c1 (f_X4_isNext ts tl x_15 (32 : Int32)) (fun r_17 => sf_b (r_17 = (0 : Int32)) (sf_g (sf_in (0 : Int32) 3 = true) (sf_n (upd tn (0 : Int32).toNatClampNeg (1 : Int32)) (fun a_21 => some ((some i_16), x_15, a_21)))) (sf_c3 (f_X4_takeNumbers ts tl x_15 tn i_16) (fun r_18 x_19 a_20 => sf_b (r_18 = (0 : Int32)) (some (none, x_19, a_20)) (some ((some i_16), x_19, a_20)))))) (sf_c3 (f_X4_takeNumbers ts tl x_15 tn i_16) (fun r_22 x_23 a_24 => sf_b (r_22 = (0 : Int32)) (some (none, x_23, a_24)) (some ((some i_16), x_23, a_24))))))))))
theorem yd_X4_readCommand : yX4_readCommand.cls = RX4 ∧ yX4_readCommand.cls ≠ "java/lang/invoke/MethodHandle" ∧ yX4_readCommand.cls ≠ "java/lang/invoke/VarHandle" ∧ (parseMethodDescriptor yX4_readCommand.desc).map (fun d => d.parameters.length) = some 1 := ⟨rfl, by decide, by decide, by decide +kernel⟩
set_option maxRecDepth 100000 in
set_option maxHeartbeats 4000000 in
theorem c_X4_readCommand (l : Launch) (D : va_G) (dA : Nat → ClassId) (cA : Nat → Nat) (h0 h1 h2 : Nat) (sz : Nat) (ts : Nat → Int32) (tl : Int32) (tp : Int32) (tn : Nat → Int32) (p0 : Int32) (rr : Option Nat) (q_tp : Int32) (q_tn : Nat → Int32) (hf : f_X4_readCommand ts tl tp tn p0 = some (rr, q_tp, q_tn)) : Met l yX4_readCommand (wo (.code yX4_readCommand cX4_readCommand 3 (some (.object "SlidePark$Command")))) ({ frames := 6, cells := 0, slots := 0, locals := 134 } : Room) (preN D dA cA [.ref h0, .int p0] sz [(h0, .inr (2, [.ref h1, .int tl, .int tp, .ref h2])), (h1, .inl (dA 1, 60, .inl ts)), (h2, .inl (dA 0, 3, .inl tn))]) (poNe D cA rr [(h0, .inr (2, [.ref h1, .int tl, .int q_tp, .ref h2])), (h1, .inl (dA 1, 60, .inl ts)), (h2, .inl (dA 0, 3, .inl q_tn))] (va_A [(h0, .inr (2, [.ref h1, .int tl, .int tp, .ref h2])), (h1, .inl (dA 1, 60, .inl ts)), (h2, .inl (dA 0, 3, .inl tn))] sz)) 0 0 (va_A [(h0, .inr (2, [.ref h1, .int tl, .int tp, .ref h2])), (h1, .inl (dA 1, 60, .inl ts)), (h2, .inl (dA 0, 3, .inl tn))] sz) := by
  refine of_N (y := yX4_readCommand) (cc := cX4_readCommand) (maxL := 3) (ret := (some (.object "SlidePark$Command"))) (av := [.ref h0, .int p0]) (ws := [(h0, .inr (2, [.ref h1, .int tl, .int tp, .ref h2])), (h1, .inl (dA 1, 60, .inl ts)), (h2, .inl (dA 0, 3, .inl tn))]) (sz := sz) (own := RX4) (Qc := poNe D cA rr [(h0, .inr (2, [.ref h1, .int tl, .int q_tp, .ref h2])), (h1, .inl (dA 1, 60, .inl ts)), (h2, .inl (dA 0, 3, .inl q_tn))]) (by decide) rfl (Nat.le_of_ble_eq_true rfl) ?_
  intro p e s m below meth c A hx hb hr ha hown hml hlocks hin hP hK hD hC hS hA ls hl
  have hl : lv_has ls 3 [(0, .ref h0), (1, .int p0)] := hl
  rw [f_X4_readCommand] at hf
  refine lv_iload_n hx hb dX4_readCommand_0 rfl (lv_at hl 1 rfl) ?_
  refine lv_if_le (tgt := 15) hx hb dX4_readCommand_1 (by decide) (fun hc => ?_) (fun hc => ?_)
  · have hf := sf_bp hf hc
    refine lv_aload_n hx hb dX4_readCommand_15 rfl (lv_at hl 0 rfl) ?_
    obtain ⟨o_1, x_2, hc2, hf⟩ := sf_c2e hf
    refine k_Ne (wr := []) (run_NV (As := []) (rest := []) ⟨hx, hb, hml, hown, ha⟩ (c_X4_takeKeyword l D dA cA h0 h1 h2 _ ts tl tp tn  _ _ hc2) (gi_V m_1567 m_1569 m_24 m_40 m_1570) yd_X4_takeKeyword ⟨Nat.le_of_ble_eq_true rfl, Nat.le_of_ble_eq_true rfl⟩ ⟨rfl, rfl⟩ hK hC hS hA hP hD [0, 1, 2] (by decide) rfl (va_recv hK hP (q0 := 0) rfl rfl) rfl hl.1 rfl (Nat.le_of_ble_eq_true rfl) dX4_readCommand_16 ⟨Nat.le_of_ble_eq_true rfl, Nat.le_of_ble_eq_true rfl⟩) hP hD hS hA [0, 1, 2] [] rfl rfl (by decide) (by decide) (fun H locs hP hD hS => ?_)
    rcases sf_oe hf with ⟨ho3, hfo⟩ | ⟨i_3, ho3, hfo⟩
    · subst ho3
      have hf := hfo
      refine lv_astore_nN (lv' := [(2, .null), (0, .ref h0), (1, .int p0)]) hx hb dX4_readCommand_19 rfl hl (by decide) rfl (fun ls hl => ?_)
      refine lv_aload_nN hx hb dX4_readCommand_20 rfl (lv_at hl 0 rfl) ?_
      refine lv_ifnonnullN hx hb dX4_readCommand_21 ?_
      refine lv_null hx hb dX4_readCommand_24 ?_
      cases hf
      exact rt_Ne hx hb hr ⟨_, rfl⟩ hlocks (hP.sub [0, 1, 2] rfl) (hD.sub [0, 1, 2] (by decide) rfl) hS dX4_readCommand_25
    · subst ho3
      have hf := hfo
      obtain ⟨hb3, hf⟩ := sf_ge hf
      refine lv_astore_n (lv' := [(2, .ref (cA (16 + i_3))), (0, .ref h0), (1, .int p0)]) hx hb dX4_readCommand_19 rfl hl (by decide) rfl (fun ls hl => ?_)
      refine lv_aload_n hx hb dX4_readCommand_20 rfl (lv_at hl 0 rfl) ?_
      refine lv_ifnonnull (tgt := 26) hx hb dX4_readCommand_21 (by decide) ?_
      refine lv_aload_n hx hb dX4_readCommand_26 rfl (lv_at hl 0 rfl) ?_
      refine va_gets hx hb (hC.1.2.1.1 6 (by decide)).1 hS hown (ha _ m_1579) (fun _ h => h) dX4_readCommand_27 ?_
      by_cases he30 : i_3 = 6
      · have hf := sf_bp hf he30
        refine lv_acmp_ne (rx := some (cA (16 + i_3))) (ry := some (cA (16 + 6))) (tgt := 51) hx hb dX4_readCommand_30 (by decide) (fun hc => absurd (congrArg (fun i => some (cA (16 + i))) he30) hc) (fun _ => ?_)
        refine lv_aload_n hx hb dX4_readCommand_33 rfl (lv_at hl 1 rfl) ?_
        refine lv_bipush (v := 32) hx hb dX4_readCommand_34 (by decide) ?_
        obtain ⟨r_4, hc4, hf⟩ := sf_c1e hf
        refine k_Pi (run_PV (As := [.int (32 : Int32)]) (rest := []) ⟨hx, hb, hml, hown, ha⟩ (c_X4_isNext l D dA h0 h1 h2  ts tl x_2 tn (32 : Int32) _ hc4) (gi_V m_1563 m_1565 m_23 m_40 m_1566) yd_X4_isNext ⟨Nat.le_of_ble_eq_true rfl, Nat.le_of_ble_eq_true rfl⟩ ⟨rfl, rfl⟩ hK hP [0, 1, 2] rfl 0 2 rfl rfl rfl rfl hl.1 rfl (Nat.le_of_ble_eq_true rfl) dX4_readCommand_36 ⟨Nat.le_of_ble_eq_true rfl, Nat.le_of_ble_eq_true rfl⟩) hP hS (fun H locs hP hS => ?_)
        refine lv_if_ne (tgt := 51) hx hb dX4_readCommand_39 (by decide) (fun hc => ?_) (fun hc => ?_)
        · have hf := sf_bn hf hc
          refine lv_aload_n hx hb dX4_readCommand_51 rfl (lv_at hl 1 rfl) ?_
          refine lv_aload_n hx hb dX4_readCommand_52 rfl (lv_at hl 0 rfl) ?_
          obtain ⟨r_5, x_6, a_7, hc7, hf⟩ := sf_c3e hf
          refine k_Mi (wr := []) (run_NV (As := [.ref (cA (16 + i_3))]) (rest := []) ⟨hx, hb, hml, hown, ha⟩ (c_X4_takeNumbers l D dA cA h0 h1 h2 _ ts tl x_2 tn i_3 hb3 _ _ _ hc7) (gi_V m_1581 m_1583 m_26 m_40 m_1584) yd_X4_takeNumbers ⟨Nat.le_of_ble_eq_true rfl, Nat.le_of_ble_eq_true rfl⟩ ⟨rfl, rfl⟩ hK hC hS hA hP hD [0, 1, 2] (by decide) rfl (va_recv hK hP (q0 := 0) rfl rfl) rfl hl.1 rfl (Nat.le_of_ble_eq_true rfl) dX4_readCommand_53 ⟨Nat.le_of_ble_eq_true rfl, Nat.le_of_ble_eq_true rfl⟩) hP hD hS hA [0, 1, 2] [] rfl rfl (by decide) (by decide) (fun H locs hP hD hS => ?_)
          refine lv_if_eq (tgt := 63) hx hb dX4_readCommand_56 (by decide) (fun hc => ?_) (fun hc => ?_)
          · have hf := sf_bp hf hc
            refine lv_null hx hb dX4_readCommand_63 ?_
            cases hf
            exact rt_Ne hx hb hr ⟨_, rfl⟩ hlocks (hP.sub [0, 1, 2] rfl) (hD.sub [0, 1, 2] (by decide) rfl) hS dX4_readCommand_64
          · have hf := sf_bn hf hc
            refine lv_aload_n hx hb dX4_readCommand_59 rfl (lv_at hl 0 rfl) ?_
            refine lv_goto (tgt := 64) hx hb dX4_readCommand_60 (by decide) ?_
            cases hf
            exact rt_Ne hx hb hr ⟨_, rfl⟩ hlocks (hP.sub [0, 1, 2] rfl) (hD.sub [0, 1, 2] (by decide) rfl) hS dX4_readCommand_64
        · have hf := sf_bp hf hc
          refine lv_aload_n hx hb dX4_readCommand_42 rfl (lv_at hl 1 rfl) ?_
          refine gt_f (C := RX4) (T := TX4) (N := 4) hx hb ha in_X4 hown hK hP 0 rfl rfl 3 (by decide) m_287 rfl dX4_readCommand_43 ?_
          refine lv_iconst (v := 0) hx hb dX4_readCommand_46 (by decide) ?_
          refine lv_iconst (v := 1) hx hb dX4_readCommand_47 (by decide) ?_
          obtain ⟨hi, hf⟩ := sf_ge hf
          obtain ⟨a_8, ea_8, hf⟩ := sf_ne hf
          refine ia_st (ws' := [(h0, .inr (2, [.ref h1, .int tl, .int x_2, .ref h2])), (h1, .inl (dA 1, 60, .inl ts)), (h2, .inl (dA 0, 3, .inl a_8))]) hx hb hK hP hD hS 2 rfl hi ea_8 rfl dX4_readCommand_48 (fun H locs hP hD hS => ?_)
          refine lv_aload_n hx hb dX4_readCommand_49 rfl (lv_at hl 0 rfl) ?_
          cases hf
          exact rt_Ne hx hb hr ⟨_, rfl⟩ hlocks (hP.sub [0, 1, 2] rfl) (hD.sub [0, 1, 2] (by decide) rfl) hS dX4_readCommand_50
      · have hf := sf_bn hf he30
        refine lv_acmp_ne (rx := some (cA (16 + i_3))) (ry := some (cA (16 + 6))) (tgt := 51) hx hb dX4_readCommand_30 (by decide) (fun _ => ?_) (fun hc => absurd (hC.1.2.1.2 _ _ hb3 (by decide) (Option.some.inj hc)) he30)
        refine lv_aload_n hx hb dX4_readCommand_51 rfl (lv_at hl 1 rfl) ?_
        refine lv_aload_n hx hb dX4_readCommand_52 rfl (lv_at hl 0 rfl) ?_
        obtain ⟨r_9, x_10, a_11, hc11, hf⟩ := sf_c3e hf
        refine k_Mi (wr := []) (run_NV (As := [.ref (cA (16 + i_3))]) (rest := []) ⟨hx, hb, hml, hown, ha⟩ (c_X4_takeNumbers l D dA cA h0 h1 h2 _ ts tl x_2 tn i_3 hb3 _ _ _ hc11) (gi_V m_1581 m_1583 m_26 m_40 m_1584) yd_X4_takeNumbers ⟨Nat.le_of_ble_eq_true rfl, Nat.le_of_ble_eq_true rfl⟩ ⟨rfl, rfl⟩ hK hC hS hA hP hD [0, 1, 2] (by decide) rfl (va_recv hK hP (q0 := 0) rfl rfl) rfl hl.1 rfl (Nat.le_of_ble_eq_true rfl) dX4_readCommand_53 ⟨Nat.le_of_ble_eq_true rfl, Nat.le_of_ble_eq_true rfl⟩) hP hD hS hA [0, 1, 2] [] rfl rfl (by decide) (by decide) (fun H locs hP hD hS => ?_)
        refine lv_if_eq (tgt := 63) hx hb dX4_readCommand_56 (by decide) (fun hc => ?_) (fun hc => ?_)
        · have hf := sf_bp hf hc
          refine lv_null hx hb dX4_readCommand_63 ?_
          cases hf
          exact rt_Ne hx hb hr ⟨_, rfl⟩ hlocks (hP.sub [0, 1, 2] rfl) (hD.sub [0, 1, 2] (by decide) rfl) hS dX4_readCommand_64
        · have hf := sf_bn hf hc
          refine lv_aload_n hx hb dX4_readCommand_59 rfl (lv_at hl 0 rfl) ?_
          refine lv_goto (tgt := 64) hx hb dX4_readCommand_60 (by decide) ?_
          cases hf
          exact rt_Ne hx hb hr ⟨_, rfl⟩ hlocks (hP.sub [0, 1, 2] rfl) (hD.sub [0, 1, 2] (by decide) rfl) hS dX4_readCommand_64
  · have hf := sf_bn hf hc
    refine lv_aload_n hx hb dX4_readCommand_4 rfl (lv_at hl 0 rfl) ?_
    refine lv_bipush (v := 59) hx hb dX4_readCommand_5 (by decide) ?_
    obtain ⟨r_12, x_13, hc13, hf⟩ := sf_c2e hf
    refine k_Mi (wr := []) (run_MV (As := [.int (59 : Int32)]) (rest := []) ⟨hx, hb, hml, hown, ha⟩ (c_X4_takeSign l D dA h0 h1 h2 _ ts tl tp tn (59 : Int32) _ _ hc13) (gi_V m_1559 m_1561 m_22 m_40 m_1562) yd_X4_takeSign ⟨Nat.le_of_ble_eq_true rfl, Nat.le_of_ble_eq_true rfl⟩ ⟨rfl, rfl⟩ hK hP hD [0, 1, 2] (by decide) rfl 0 2 rfl rfl rfl rfl hl.1 rfl (Nat.le_of_ble_eq_true rfl) dX4_readCommand_7 ⟨Nat.le_of_ble_eq_true rfl, Nat.le_of_ble_eq_true rfl⟩) hP hD hS hA [0, 1, 2] [] rfl rfl (by decide) (by decide) (fun H locs hP hD hS => ?_)
    refine lv_if_ne (tgt := 15) hx hb dX4_readCommand_10 (by decide) (fun hc => ?_) (fun hc => ?_)
    · have hf := sf_bn hf hc
      refine lv_aload_n hx hb dX4_readCommand_15 rfl (lv_at hl 0 rfl) ?_
      obtain ⟨o_14, x_15, hc15, hf⟩ := sf_c2e hf
      refine k_Ne (wr := []) (run_NV (As := []) (rest := []) ⟨hx, hb, hml, hown, ha⟩ (c_X4_takeKeyword l D dA cA h0 h1 h2 _ ts tl x_13 tn  _ _ hc15) (gi_V m_1567 m_1569 m_24 m_40 m_1570) yd_X4_takeKeyword ⟨Nat.le_of_ble_eq_true rfl, Nat.le_of_ble_eq_true rfl⟩ ⟨rfl, rfl⟩ hK hC hS hA hP hD [0, 1, 2] (by decide) rfl (va_recv hK hP (q0 := 0) rfl rfl) rfl hl.1 rfl (Nat.le_of_ble_eq_true rfl) dX4_readCommand_16 ⟨Nat.le_of_ble_eq_true rfl, Nat.le_of_ble_eq_true rfl⟩) hP hD hS hA [0, 1, 2] [] rfl rfl (by decide) (by decide) (fun H locs hP hD hS => ?_)
      rcases sf_oe hf with ⟨ho16, hfo⟩ | ⟨i_16, ho16, hfo⟩
      · subst ho16
        have hf := hfo
        refine lv_astore_nN (lv' := [(2, .null), (0, .ref h0), (1, .int p0)]) hx hb dX4_readCommand_19 rfl hl (by decide) rfl (fun ls hl => ?_)
        refine lv_aload_nN hx hb dX4_readCommand_20 rfl (lv_at hl 0 rfl) ?_
        refine lv_ifnonnullN hx hb dX4_readCommand_21 ?_
        refine lv_null hx hb dX4_readCommand_24 ?_
        cases hf
        exact rt_Ne hx hb hr ⟨_, rfl⟩ hlocks (hP.sub [0, 1, 2] rfl) (hD.sub [0, 1, 2] (by decide) rfl) hS dX4_readCommand_25
      · subst ho16
        have hf := hfo
        obtain ⟨hb16, hf⟩ := sf_ge hf
        refine lv_astore_n (lv' := [(2, .ref (cA (16 + i_16))), (0, .ref h0), (1, .int p0)]) hx hb dX4_readCommand_19 rfl hl (by decide) rfl (fun ls hl => ?_)
        refine lv_aload_n hx hb dX4_readCommand_20 rfl (lv_at hl 0 rfl) ?_
        refine lv_ifnonnull (tgt := 26) hx hb dX4_readCommand_21 (by decide) ?_
        refine lv_aload_n hx hb dX4_readCommand_26 rfl (lv_at hl 0 rfl) ?_
        refine va_gets hx hb (hC.1.2.1.1 6 (by decide)).1 hS hown (ha _ m_1579) (fun _ h => h) dX4_readCommand_27 ?_
        by_cases he30 : i_16 = 6
        · have hf := sf_bp hf he30
          refine lv_acmp_ne (rx := some (cA (16 + i_16))) (ry := some (cA (16 + 6))) (tgt := 51) hx hb dX4_readCommand_30 (by decide) (fun hc => absurd (congrArg (fun i => some (cA (16 + i))) he30) hc) (fun _ => ?_)
          refine lv_aload_n hx hb dX4_readCommand_33 rfl (lv_at hl 1 rfl) ?_
          refine lv_bipush (v := 32) hx hb dX4_readCommand_34 (by decide) ?_
          obtain ⟨r_17, hc17, hf⟩ := sf_c1e hf
          refine k_Pi (run_PV (As := [.int (32 : Int32)]) (rest := []) ⟨hx, hb, hml, hown, ha⟩ (c_X4_isNext l D dA h0 h1 h2  ts tl x_15 tn (32 : Int32) _ hc17) (gi_V m_1563 m_1565 m_23 m_40 m_1566) yd_X4_isNext ⟨Nat.le_of_ble_eq_true rfl, Nat.le_of_ble_eq_true rfl⟩ ⟨rfl, rfl⟩ hK hP [0, 1, 2] rfl 0 2 rfl rfl rfl rfl hl.1 rfl (Nat.le_of_ble_eq_true rfl) dX4_readCommand_36 ⟨Nat.le_of_ble_eq_true rfl, Nat.le_of_ble_eq_true rfl⟩) hP hS (fun H locs hP hS => ?_)
          refine lv_if_ne (tgt := 51) hx hb dX4_readCommand_39 (by decide) (fun hc => ?_) (fun hc => ?_)
          · have hf := sf_bn hf hc
            refine lv_aload_n hx hb dX4_readCommand_51 rfl (lv_at hl 1 rfl) ?_
            refine lv_aload_n hx hb dX4_readCommand_52 rfl (lv_at hl 0 rfl) ?_
            obtain ⟨r_18, x_19, a_20, hc20, hf⟩ := sf_c3e hf
            refine k_Mi (wr := []) (run_NV (As := [.ref (cA (16 + i_16))]) (rest := []) ⟨hx, hb, hml, hown, ha⟩ (c_X4_takeNumbers l D dA cA h0 h1 h2 _ ts tl x_15 tn i_16 hb16 _ _ _ hc20) (gi_V m_1581 m_1583 m_26 m_40 m_1584) yd_X4_takeNumbers ⟨Nat.le_of_ble_eq_true rfl, Nat.le_of_ble_eq_true rfl⟩ ⟨rfl, rfl⟩ hK hC hS hA hP hD [0, 1, 2] (by decide) rfl (va_recv hK hP (q0 := 0) rfl rfl) rfl hl.1 rfl (Nat.le_of_ble_eq_true rfl) dX4_readCommand_53 ⟨Nat.le_of_ble_eq_true rfl, Nat.le_of_ble_eq_true rfl⟩) hP hD hS hA [0, 1, 2] [] rfl rfl (by decide) (by decide) (fun H locs hP hD hS => ?_)
            refine lv_if_eq (tgt := 63) hx hb dX4_readCommand_56 (by decide) (fun hc => ?_) (fun hc => ?_)
            · have hf := sf_bp hf hc
              refine lv_null hx hb dX4_readCommand_63 ?_
              cases hf
              exact rt_Ne hx hb hr ⟨_, rfl⟩ hlocks (hP.sub [0, 1, 2] rfl) (hD.sub [0, 1, 2] (by decide) rfl) hS dX4_readCommand_64
            · have hf := sf_bn hf hc
              refine lv_aload_n hx hb dX4_readCommand_59 rfl (lv_at hl 0 rfl) ?_
              refine lv_goto (tgt := 64) hx hb dX4_readCommand_60 (by decide) ?_
              cases hf
              exact rt_Ne hx hb hr ⟨_, rfl⟩ hlocks (hP.sub [0, 1, 2] rfl) (hD.sub [0, 1, 2] (by decide) rfl) hS dX4_readCommand_64
          · have hf := sf_bp hf hc
            refine lv_aload_n hx hb dX4_readCommand_42 rfl (lv_at hl 1 rfl) ?_
            refine gt_f (C := RX4) (T := TX4) (N := 4) hx hb ha in_X4 hown hK hP 0 rfl rfl 3 (by decide) m_287 rfl dX4_readCommand_43 ?_
            refine lv_iconst (v := 0) hx hb dX4_readCommand_46 (by decide) ?_
            refine lv_iconst (v := 1) hx hb dX4_readCommand_47 (by decide) ?_
            obtain ⟨hi, hf⟩ := sf_ge hf
            obtain ⟨a_21, ea_21, hf⟩ := sf_ne hf
            refine ia_st (ws' := [(h0, .inr (2, [.ref h1, .int tl, .int x_15, .ref h2])), (h1, .inl (dA 1, 60, .inl ts)), (h2, .inl (dA 0, 3, .inl a_21))]) hx hb hK hP hD hS 2 rfl hi ea_21 rfl dX4_readCommand_48 (fun H locs hP hD hS => ?_)
            refine lv_aload_n hx hb dX4_readCommand_49 rfl (lv_at hl 0 rfl) ?_
            cases hf
            exact rt_Ne hx hb hr ⟨_, rfl⟩ hlocks (hP.sub [0, 1, 2] rfl) (hD.sub [0, 1, 2] (by decide) rfl) hS dX4_readCommand_50
        · have hf := sf_bn hf he30
          refine lv_acmp_ne (rx := some (cA (16 + i_16))) (ry := some (cA (16 + 6))) (tgt := 51) hx hb dX4_readCommand_30 (by decide) (fun _ => ?_) (fun hc => absurd (hC.1.2.1.2 _ _ hb16 (by decide) (Option.some.inj hc)) he30)
          refine lv_aload_n hx hb dX4_readCommand_51 rfl (lv_at hl 1 rfl) ?_
          refine lv_aload_n hx hb dX4_readCommand_52 rfl (lv_at hl 0 rfl) ?_
          obtain ⟨r_22, x_23, a_24, hc24, hf⟩ := sf_c3e hf
          refine k_Mi (wr := []) (run_NV (As := [.ref (cA (16 + i_16))]) (rest := []) ⟨hx, hb, hml, hown, ha⟩ (c_X4_takeNumbers l D dA cA h0 h1 h2 _ ts tl x_15 tn i_16 hb16 _ _ _ hc24) (gi_V m_1581 m_1583 m_26 m_40 m_1584) yd_X4_takeNumbers ⟨Nat.le_of_ble_eq_true rfl, Nat.le_of_ble_eq_true rfl⟩ ⟨rfl, rfl⟩ hK hC hS hA hP hD [0, 1, 2] (by decide) rfl (va_recv hK hP (q0 := 0) rfl rfl) rfl hl.1 rfl (Nat.le_of_ble_eq_true rfl) dX4_readCommand_53 ⟨Nat.le_of_ble_eq_true rfl, Nat.le_of_ble_eq_true rfl⟩) hP hD hS hA [0, 1, 2] [] rfl rfl (by decide) (by decide) (fun H locs hP hD hS => ?_)
          refine lv_if_eq (tgt := 63) hx hb dX4_readCommand_56 (by decide) (fun hc => ?_) (fun hc => ?_)
          · have hf := sf_bp hf hc
            refine lv_null hx hb dX4_readCommand_63 ?_
            cases hf
            exact rt_Ne hx hb hr ⟨_, rfl⟩ hlocks (hP.sub [0, 1, 2] rfl) (hD.sub [0, 1, 2] (by decide) rfl) hS dX4_readCommand_64
          · have hf := sf_bn hf hc
            refine lv_aload_n hx hb dX4_readCommand_59 rfl (lv_at hl 0 rfl) ?_
            refine lv_goto (tgt := 64) hx hb dX4_readCommand_60 (by decide) ?_
            cases hf
            exact rt_Ne hx hb hr ⟨_, rfl⟩ hlocks (hP.sub [0, 1, 2] rfl) (hD.sub [0, 1, 2] (by decide) rfl) hS dX4_readCommand_64
    · have hf := sf_bp hf hc
      refine lv_null hx hb dX4_readCommand_13 ?_
      cases hf
      exact rt_Ne hx hb hr ⟨_, rfl⟩ hlocks (hP.sub [0, 1, 2] rfl) (hD.sub [0, 1, 2] (by decide) rfl) hS dX4_readCommand_14

def f_X4_countCommands_L6 (ts : Nat → Int32) (tl : Int32) (k : Int32 → (Nat → Int32) → Option (Int32 × Int32 × (Nat → Int32))) : Nat → Int32 → Int32 → (Nat → Int32) → Option (Int32 × Int32 × (Nat → Int32))
  | 0, _, _, _ => none
  | n + 1, v_2, v_3, w_4 => sf_b ((60 : Int32) < v_2) (k v_3 w_4) (sf_b (v_2 ≤ (0 : Int32)) (sf_c3 (f_X4_readCommand ts tl v_3 w_4 v_2) (fun o_5 x_6 a_7 => sf_o o_5 (some ((-1 : Int32), x_6, a_7)) (fun i_8 => sf_g (i_8 < 7) (sf_n (v_2 + (1 : Int32)) (fun x_9 => f_X4_countCommands_L6 ts tl k n x_9 x_6 a_7))))) (sf_b (v_3 = tl) (some (v_2, v_3, w_4)) (sf_c3 (f_X4_readCommand ts tl v_3 w_4 v_2) (fun o_10 x_11 a_12 => sf_o o_10 (some ((-1 : Int32), x_11, a_12)) (fun i_13 => sf_g (i_13 < 7) (sf_n (v_2 + (1 : Int32)) (fun x_14 => f_X4_countCommands_L6 ts tl k n x_14 x_11 a_12)))))))
def f_X4_countCommands (ts : Nat → Int32) (tl : Int32) (tp : Int32) (tn : Nat → Int32) : Option (Int32 × Int32 × (Nat → Int32)) :=
  sf_c1 (f_X4_rewind tp) (fun x_1 => f_X4_countCommands_L6 ts tl (fun y_15 z_16 => some ((-1 : Int32), y_15, z_16)) 2000 (0 : Int32) x_1 tn)
theorem yd_X4_countCommands : yX4_countCommands.cls = RX4 ∧ yX4_countCommands.cls ≠ "java/lang/invoke/MethodHandle" ∧ yX4_countCommands.cls ≠ "java/lang/invoke/VarHandle" ∧ (parseMethodDescriptor yX4_countCommands.desc).map (fun d => d.parameters.length) = some 0 := ⟨rfl, by decide, by decide, by decide +kernel⟩
set_option maxRecDepth 100000 in
set_option maxHeartbeats 4000000 in
theorem c_X4_countCommands (l : Launch) (D : va_G) (dA : Nat → ClassId) (cA : Nat → Nat) (h0 h1 h2 : Nat) (sz : Nat) (ts : Nat → Int32) (tl : Int32) (tp : Int32) (tn : Nat → Int32) (rr : Int32) (q_tp : Int32) (q_tn : Nat → Int32) (hf : f_X4_countCommands ts tl tp tn = some (rr, q_tp, q_tn)) : Met l yX4_countCommands (wo (.code yX4_countCommands cX4_countCommands 2 (some .int))) ({ frames := 7, cells := 0, slots := 0, locals := 156 } : Room) (preN D dA cA [.ref h0] sz [(h0, .inr (2, [.ref h1, .int tl, .int tp, .ref h2])), (h1, .inl (dA 1, 60, .inl ts)), (h2, .inl (dA 0, 3, .inl tn))]) (poMi D rr [(h0, .inr (2, [.ref h1, .int tl, .int q_tp, .ref h2])), (h1, .inl (dA 1, 60, .inl ts)), (h2, .inl (dA 0, 3, .inl q_tn))] (va_A [(h0, .inr (2, [.ref h1, .int tl, .int tp, .ref h2])), (h1, .inl (dA 1, 60, .inl ts)), (h2, .inl (dA 0, 3, .inl tn))] sz)) 0 0 (va_A [(h0, .inr (2, [.ref h1, .int tl, .int tp, .ref h2])), (h1, .inl (dA 1, 60, .inl ts)), (h2, .inl (dA 0, 3, .inl tn))] sz) := by
  refine of_N (y := yX4_countCommands) (cc := cX4_countCommands) (maxL := 2) (ret := (some .int)) (av := [.ref h0]) (ws := [(h0, .inr (2, [.ref h1, .int tl, .int tp, .ref h2])), (h1, .inl (dA 1, 60, .inl ts)), (h2, .inl (dA 0, 3, .inl tn))]) (sz := sz) (own := RX4) (Qc := poMi D rr [(h0, .inr (2, [.ref h1, .int tl, .int q_tp, .ref h2])), (h1, .inl (dA 1, 60, .inl ts)), (h2, .inl (dA 0, 3, .inl q_tn))]) (by decide) rfl (Nat.le_of_ble_eq_true rfl) ?_
  intro p e s m below meth c A hx hb hr ha hown hml hlocks hin hP hK hD hC hS hA ls hl
  have hl : lv_has ls 2 [(0, .ref h0)] := hl
  rw [f_X4_countCommands] at hf
  refine lv_aload_n hx hb dX4_countCommands_0 rfl (lv_at hl 0 rfl) ?_
  obtain ⟨x_1, hc1, hf⟩ := sf_c1e hf
  refine k_Mv (wr := []) (run_MV (As := []) (rest := []) ⟨hx, hb, hml, hown, ha⟩ (c_X4_rewind l D dA h0 h1 h2 _ ts tl tp tn _ hc1) (gi_V m_1551 m_1552 m_1553 m_40 m_1554) yd_X4_rewind ⟨Nat.le_of_ble_eq_true rfl, Nat.le_of_ble_eq_true rfl⟩ ⟨rfl, rfl⟩ hK hP hD [0, 1, 2] (by decide) rfl 0 2 rfl rfl rfl rfl hl.1 rfl (Nat.le_of_ble_eq_true rfl) dX4_countCommands_1 ⟨Nat.le_of_ble_eq_true rfl, Nat.le_of_ble_eq_true rfl⟩) hP hD hS hA [0, 1, 2] [] rfl rfl (by decide) (by decide) (fun H locs hP hD hS => ?_)
  refine lv_iconst (v := 0) hx hb dX4_countCommands_4 (by decide) ?_
  refine lv_istore_n (lv' := [(1, .int (0 : Int32)), (0, .ref h0)]) hx hb dX4_countCommands_5 rfl hl (by decide) rfl (fun ls hl => ?_)
  have hL6 : ∀ (n : Nat) (k : Int32 → (Nat → Int32) → Option (Int32 × Int32 × (Nat → Int32))) (v_2 : Int32) (v_3 : Int32) (w_4 : (Nat → Int32)) (H : Heap) (locs : List Loc) (ls : Array Slot), va_P D cls [(h0, .inr (2, [.ref h1, .int tl, .int v_3, .ref h2])), (h1, .inl (dA 1, 60, .inl ts)), (h2, .inl (dA 0, 3, .inl w_4))] H → va_D A [(h0, .inr (2, [.ref h1, .int tl, .int v_3, .ref h2])), (h1, .inl (dA 1, 60, .inl ts)), (h2, .inl (dA 0, 3, .inl w_4))] → va_S A s.heap H locs → lv_has ls 2 [(1, .int v_2), (0, .ref h0)] → f_X4_countCommands_L6 ts tl k n v_2 v_3 w_4 = some (rr, q_tp, q_tn) → (∀ (y_15 : Int32) (z_16 : (Nat → Int32)) (H : Heap) (locs : List Loc) (ls : Array Slot), va_P D cls [(h0, .inr (2, [.ref h1, .int tl, .int y_15, .ref h2])), (h1, .inl (dA 1, 60, .inl ts)), (h2, .inl (dA 0, 3, .inl z_16))] H → va_D A [(h0, .inr (2, [.ref h1, .int tl, .int y_15, .ref h2])), (h1, .inl (dA 1, 60, .inl ts)), (h2, .inl (dA 0, 3, .inl z_16))] → va_S A s.heap H locs → lv_has ls 2 [] → k y_15 z_16 = some (rr, q_tp, q_tn) → W p l e ({ frames := 7, cells := 0, slots := 0, locals := 156 } : Room) s m ([.ref h0] : List Value).toArray below meth c H locs 0 0 (MQ below (poMi D rr [(h0, .inr (2, [.ref h1, .int tl, .int q_tp, .ref h2])), (h1, .inl (dA 1, 60, .inl ts)), (h2, .inl (dA 0, 3, .inl q_tn))] A) ([.ref h0] : List Value).toArray s 0 0 A) (F0 m 45 ls [])) → W p l e ({ frames := 7, cells := 0, slots := 0, locals := 156 } : Room) s m ([.ref h0] : List Value).toArray below meth c H locs 0 0 (MQ below (poMi D rr [(h0, .inr (2, [.ref h1, .int tl, .int q_tp, .ref h2])), (h1, .inl (dA 1, 60, .inl ts)), (h2, .inl (dA 0, 3, .inl q_tn))] A) ([.ref h0] : List Value).toArray s 0 0 A) (F0 m 6 ls []) := by
    intro n k
    induction n with
    | zero =>
      intro v_2 v_3 w_4 H locs ls hP hD hS hl hf hk
      rw [f_X4_countCommands_L6] at hf
      cases hf
    | succ n ih =>
      intro v_2 v_3 w_4 H locs ls hP hD hS hl hf hk
      rw [f_X4_countCommands_L6] at hf
      refine lv_iload_n hx hb dX4_countCommands_6 rfl (lv_at hl 0 rfl) ?_
      refine lv_bipush (v := 60) hx hb dX4_countCommands_7 (by decide) ?_
      refine lv_icmp_gt (tgt := 45) hx hb dX4_countCommands_9 (by decide) (fun hc => ?_) (fun hc => ?_)
      · have hf := sf_bp hf hc
        exact hk _ _ _ _ _ (hP.sub [0, 1, 2] rfl) (hD.sub [0, 1, 2] (by decide) rfl) hS (lv_sub hl [] rfl) hf
      · have hf := sf_bn hf hc
        refine lv_iload_n hx hb dX4_countCommands_12 rfl (lv_at hl 0 rfl) ?_
        refine lv_if_le (tgt := 29) hx hb dX4_countCommands_13 (by decide) (fun hc => ?_) (fun hc => ?_)
        · have hf := sf_bp hf hc
          refine lv_aload_n hx hb dX4_countCommands_29 rfl (lv_at hl 1 rfl) ?_
          refine lv_iload_n hx hb dX4_countCommands_30 rfl (lv_at hl 0 rfl) ?_
          obtain ⟨o_5, x_6, a_7, hc7, hf⟩ := sf_c3e hf
          refine k_Ne (wr := []) (run_NV (As := [.int v_2]) (rest := []) ⟨hx, hb, hml, hown, ha⟩ (c_X4_readCommand l D dA cA h0 h1 h2 _ ts tl v_3 w_4 v_2 _ _ _ hc7) (gi_V m_1555 m_1556 m_1557 m_40 m_1558) yd_X4_readCommand ⟨Nat.le_of_ble_eq_true rfl, Nat.le_of_ble_eq_true rfl⟩ ⟨rfl, rfl⟩ hK hC hS hA hP hD [0, 1, 2] (by decide) rfl (va_recv hK hP (q0 := 0) rfl rfl) rfl hl.1 rfl (Nat.le_of_ble_eq_true rfl) dX4_countCommands_31 ⟨Nat.le_of_ble_eq_true rfl, Nat.le_of_ble_eq_true rfl⟩) hP hD hS hA [0, 1, 2] [] rfl rfl (by decide) (by decide) (fun H locs hP hD hS => ?_)
          rcases sf_oe hf with ⟨ho8, hfo⟩ | ⟨i_8, ho8, hfo⟩
          · subst ho8
            have hf := hfo
            refine lv_ifnonnullN hx hb dX4_countCommands_34 ?_
            refine lv_iconst (v := -1) hx hb dX4_countCommands_37 (by decide) ?_
            cases hf
            exact rt_Mi hx hb hr hlocks (hP.sub [0, 1, 2] rfl) (hD.sub [0, 1, 2] (by decide) rfl) hS dX4_countCommands_38
          · subst ho8
            have hf := hfo
            obtain ⟨hb8, hf⟩ := sf_ge hf
            refine lv_ifnonnull (tgt := 39) hx hb dX4_countCommands_34 (by decide) ?_
            obtain ⟨x_9, ex_9, hf⟩ := sf_ne hf
            refine ii_nc (lv' := [(1, .int x_9), (0, .ref h0)]) (k := 0) hx hb dX4_countCommands_39 hl rfl ex_9 (by decide) (by decide) rfl (fun ls hl => ?_)
            refine lv_goto (tgt := 6) hx hb dX4_countCommands_42 (by decide) ?_
            exact ih _ _ _ _ _ _ (hP.sub [0, 1, 2] rfl) (hD.sub [0, 1, 2] (by decide) rfl) hS (lv_sub hl [0, 1] rfl) hf hk
        · have hf := sf_bn hf hc
          refine lv_aload_n hx hb dX4_countCommands_16 rfl (lv_at hl 1 rfl) ?_
          refine gt_f (C := RX4) (T := TX4) (N := 4) hx hb ha in_X4 hown hK hP 0 rfl rfl 2 (by decide) m_285 rfl dX4_countCommands_17 ?_
          refine lv_aload_n hx hb dX4_countCommands_20 rfl (lv_at hl 1 rfl) ?_
          refine gt_f (C := RX4) (T := TX4) (N := 4) hx hb ha in_X4 hown hK hP 0 rfl rfl 1 (by decide) m_283 rfl dX4_countCommands_21 ?_
          refine lv_icmp_ne (tgt := 29) hx hb dX4_countCommands_24 (by decide) (fun hc => ?_) (fun hc => ?_)
          · have hf := sf_bn hf hc
            refine lv_aload_n hx hb dX4_countCommands_29 rfl (lv_at hl 1 rfl) ?_
            refine lv_iload_n hx hb dX4_countCommands_30 rfl (lv_at hl 0 rfl) ?_
            obtain ⟨o_10, x_11, a_12, hc12, hf⟩ := sf_c3e hf
            refine k_Ne (wr := []) (run_NV (As := [.int v_2]) (rest := []) ⟨hx, hb, hml, hown, ha⟩ (c_X4_readCommand l D dA cA h0 h1 h2 _ ts tl v_3 w_4 v_2 _ _ _ hc12) (gi_V m_1555 m_1556 m_1557 m_40 m_1558) yd_X4_readCommand ⟨Nat.le_of_ble_eq_true rfl, Nat.le_of_ble_eq_true rfl⟩ ⟨rfl, rfl⟩ hK hC hS hA hP hD [0, 1, 2] (by decide) rfl (va_recv hK hP (q0 := 0) rfl rfl) rfl hl.1 rfl (Nat.le_of_ble_eq_true rfl) dX4_countCommands_31 ⟨Nat.le_of_ble_eq_true rfl, Nat.le_of_ble_eq_true rfl⟩) hP hD hS hA [0, 1, 2] [] rfl rfl (by decide) (by decide) (fun H locs hP hD hS => ?_)
            rcases sf_oe hf with ⟨ho13, hfo⟩ | ⟨i_13, ho13, hfo⟩
            · subst ho13
              have hf := hfo
              refine lv_ifnonnullN hx hb dX4_countCommands_34 ?_
              refine lv_iconst (v := -1) hx hb dX4_countCommands_37 (by decide) ?_
              cases hf
              exact rt_Mi hx hb hr hlocks (hP.sub [0, 1, 2] rfl) (hD.sub [0, 1, 2] (by decide) rfl) hS dX4_countCommands_38
            · subst ho13
              have hf := hfo
              obtain ⟨hb13, hf⟩ := sf_ge hf
              refine lv_ifnonnull (tgt := 39) hx hb dX4_countCommands_34 (by decide) ?_
              obtain ⟨x_14, ex_14, hf⟩ := sf_ne hf
              refine ii_nc (lv' := [(1, .int x_14), (0, .ref h0)]) (k := 0) hx hb dX4_countCommands_39 hl rfl ex_14 (by decide) (by decide) rfl (fun ls hl => ?_)
              refine lv_goto (tgt := 6) hx hb dX4_countCommands_42 (by decide) ?_
              exact ih _ _ _ _ _ _ (hP.sub [0, 1, 2] rfl) (hD.sub [0, 1, 2] (by decide) rfl) hS (lv_sub hl [0, 1] rfl) hf hk
          · have hf := sf_bp hf hc
            refine lv_iload_n hx hb dX4_countCommands_27 rfl (lv_at hl 0 rfl) ?_
            cases hf
            exact rt_Mi hx hb hr hlocks (hP.sub [0, 1, 2] rfl) (hD.sub [0, 1, 2] (by decide) rfl) hS dX4_countCommands_28
  refine hL6 _ _ _ _ _ _ _ _ hP hD hS (lv_sub hl [0, 1] rfl) hf (fun y_15 z_16 H locs ls hP hD hS hl hf => ?_)
  refine lv_iconst (v := -1) hx hb dX4_countCommands_45 (by decide) ?_
  cases hf
  exact rt_Mi hx hb hr hlocks (hP.sub [0, 1, 2] rfl) (hD.sub [0, 1, 2] (by decide) rfl) hS dX4_countCommands_46

