def f_X10_copyFrom (sc : Int32) (sd : Nat → Int32) (sp : Nat → Int32) (sw : Nat → Int32) (o_sc : Int32) (o_sd : Nat → Int32) (o_sp : Nat → Int32) (o_sw : Nat → Int32) : Option (Int32 × (Nat → Int32) × (Nat → Int32) × (Nat → Int32)) :=
  some (o_sc, o_sd, o_sp, o_sw)
theorem yd_X10_copyFrom : yX10_copyFrom.cls = RX10 ∧ yX10_copyFrom.cls ≠ "java/lang/invoke/MethodHandle" ∧ yX10_copyFrom.cls ≠ "java/lang/invoke/VarHandle" ∧ (parseMethodDescriptor yX10_copyFrom.desc).map (fun d => d.parameters.length) = some 1 := ⟨rfl, by decide, by decide, by decide +kernel⟩
set_option maxRecDepth 100000 in
set_option maxHeartbeats 4000000 in
theorem c_X10_copyFrom (l : Launch) (D : va_G) (dA : Nat → ClassId) (h0 h1 h2 h3 h4 h5 h6 h7 : Nat) (sz : Nat) (sc : Int32) (sd : Nat → Int32) (sp : Nat → Int32) (sw : Nat → Int32) (o_sc : Int32) (o_sd : Nat → Int32) (o_sp : Nat → Int32) (o_sw : Nat → Int32) (q_sc : Int32) (q_sd : Nat → Int32) (q_sp : Nat → Int32) (q_sw : Nat → Int32) (hf : f_X10_copyFrom sc sd sp sw o_sc o_sd o_sp o_sw = some (q_sc, q_sd, q_sp, q_sw)) : Met l yX10_copyFrom (wo (.code yX10_copyFrom cX10_copyFrom 2 none)) ({ frames := 1, cells := 0, slots := 0, locals := 90 } : Room) (preM D dA [.ref h0, .ref h4] sz [(h0, .inr (8, [.int sc, .ref h1, .ref h2, .ref h3])), (h1, .inl (dA 0, 4, .inl sd)), (h2, .inl (dA 0, 4, .inl sp)), (h3, .inl (dA 0, 4, .inl sw)), (h4, .inr (8, [.int o_sc, .ref h5, .ref h6, .ref h7])), (h5, .inl (dA 0, 4, .inl o_sd)), (h6, .inl (dA 0, 4, .inl o_sp)), (h7, .inl (dA 0, 4, .inl o_sw))]) (poMv D [(h0, .inr (8, [.int q_sc, .ref h1, .ref h2, .ref h3])), (h1, .inl (dA 0, 4, .inl q_sd)), (h2, .inl (dA 0, 4, .inl q_sp)), (h3, .inl (dA 0, 4, .inl q_sw)), (h4, .inr (8, [.int o_sc, .ref h5, .ref h6, .ref h7])), (h5, .inl (dA 0, 4, .inl o_sd)), (h6, .inl (dA 0, 4, .inl o_sp)), (h7, .inl (dA 0, 4, .inl o_sw))] (va_A [(h0, .inr (8, [.int sc, .ref h1, .ref h2, .ref h3])), (h1, .inl (dA 0, 4, .inl sd)), (h2, .inl (dA 0, 4, .inl sp)), (h3, .inl (dA 0, 4, .inl sw)), (h4, .inr (8, [.int o_sc, .ref h5, .ref h6, .ref h7])), (h5, .inl (dA 0, 4, .inl o_sd)), (h6, .inl (dA 0, 4, .inl o_sp)), (h7, .inl (dA 0, 4, .inl o_sw))] sz)) 0 0 (va_A [(h0, .inr (8, [.int sc, .ref h1, .ref h2, .ref h3])), (h1, .inl (dA 0, 4, .inl sd)), (h2, .inl (dA 0, 4, .inl sp)), (h3, .inl (dA 0, 4, .inl sw)), (h4, .inr (8, [.int o_sc, .ref h5, .ref h6, .ref h7])), (h5, .inl (dA 0, 4, .inl o_sd)), (h6, .inl (dA 0, 4, .inl o_sp)), (h7, .inl (dA 0, 4, .inl o_sw))] sz) := by
  refine of_M (y := yX10_copyFrom) (cc := cX10_copyFrom) (maxL := 2) (ret := none) (av := [.ref h0, .ref h4]) (ws := [(h0, .inr (8, [.int sc, .ref h1, .ref h2, .ref h3])), (h1, .inl (dA 0, 4, .inl sd)), (h2, .inl (dA 0, 4, .inl sp)), (h3, .inl (dA 0, 4, .inl sw)), (h4, .inr (8, [.int o_sc, .ref h5, .ref h6, .ref h7])), (h5, .inl (dA 0, 4, .inl o_sd)), (h6, .inl (dA 0, 4, .inl o_sp)), (h7, .inl (dA 0, 4, .inl o_sw))]) (sz := sz) (own := RX10) (Qc := poMv D [(h0, .inr (8, [.int q_sc, .ref h1, .ref h2, .ref h3])), (h1, .inl (dA 0, 4, .inl q_sd)), (h2, .inl (dA 0, 4, .inl q_sp)), (h3, .inl (dA 0, 4, .inl q_sw)), (h4, .inr (8, [.int o_sc, .ref h5, .ref h6, .ref h7])), (h5, .inl (dA 0, 4, .inl o_sd)), (h6, .inl (dA 0, 4, .inl o_sp)), (h7, .inl (dA 0, 4, .inl o_sw))]) (by decide) rfl (Nat.le_of_ble_eq_true rfl) ?_
  intro p e s m below meth c A hx hb hr ha hown hml hlocks hin hP hK hD hS hA ls hl
  have hl : lv_has ls 2 [(0, .ref h0), (1, .ref h4)] := hl
  rw [f_X10_copyFrom] at hf
  refine lv_aload_n hx hb dX10_copyFrom_0 rfl (lv_at hl 0 rfl) ?_
  refine lv_aload_n hx hb dX10_copyFrom_1 rfl (lv_at hl 1 rfl) ?_
  refine gt_f (C := RX10) (T := TX10) (N := 4) hx hb ha in_X10 hown hK hP 4 rfl rfl 0 (by decide) m_90 rfl dX10_copyFrom_2 ?_
  refine pt_f (C := RX10) (T := TX10) (N := 4) (ws' := [(h0, .inr (8, [.int o_sc, .ref h1, .ref h2, .ref h3])), (h1, .inl (dA 0, 4, .inl sd)), (h2, .inl (dA 0, 4, .inl sp)), (h3, .inl (dA 0, 4, .inl sw)), (h4, .inr (8, [.int o_sc, .ref h5, .ref h6, .ref h7])), (h5, .inl (dA 0, 4, .inl o_sd)), (h6, .inl (dA 0, 4, .inl o_sp)), (h7, .inl (dA 0, 4, .inl o_sw))]) (ty := .int) hx hb ha in_X10 tyX10 tyX10_ok nmX10 hown hK hP hD hS 0 rfl rfl 0 (by decide) m_90 rfl (tyX10_ok 0 (by decide)) rfl rfl (Nat.le_of_ble_eq_true rfl) rfl dX10_copyFrom_5 (fun H locs hP hD hS => ?_)
  refine lv_aload_n hx hb dX10_copyFrom_8 rfl (lv_at hl 1 rfl) ?_
  refine gt_f (C := RX10) (T := TX10) (N := 4) hx hb ha in_X10 hown hK hP 4 rfl rfl 1 (by decide) m_93 rfl dX10_copyFrom_9 ?_
  refine lv_iconst (v := 0) hx hb dX10_copyFrom_12 (by decide) ?_
  refine lv_aload_n hx hb dX10_copyFrom_13 rfl (lv_at hl 0 rfl) ?_
  refine gt_f (C := RX10) (T := TX10) (N := 4) hx hb ha in_X10 hown hK hP 0 rfl rfl 1 (by decide) m_93 rfl dX10_copyFrom_14 ?_
  refine lv_iconst (v := 0) hx hb dX10_copyFrom_17 (by decide) ?_
  refine lv_iconst (v := 4) hx hb dX10_copyFrom_18 (by decide) ?_
  refine cp_if (ws' := [(h0, .inr (8, [.int o_sc, .ref h1, .ref h2, .ref h3])), (h1, .inl (dA 0, 4, .inl o_sd)), (h2, .inl (dA 0, 4, .inl sp)), (h3, .inl (dA 0, 4, .inl sw)), (h4, .inr (8, [.int o_sc, .ref h5, .ref h6, .ref h7])), (h5, .inl (dA 0, 4, .inl o_sd)), (h6, .inl (dA 0, 4, .inl o_sp)), (h7, .inl (dA 0, 4, .inl o_sw))]) hx hb ha hown hml hl.1 m_385 m_387 m_386 m_45 hK hP hD hS 5 1 rfl rfl (by decide) rfl ⟨Nat.le_of_ble_eq_true rfl, Nat.le_of_ble_eq_true rfl⟩ dX10_copyFrom_19 (fun H locs hP hD hS => ?_)
  refine lv_aload_n hx hb dX10_copyFrom_22 rfl (lv_at hl 1 rfl) ?_
  refine gt_f (C := RX10) (T := TX10) (N := 4) hx hb ha in_X10 hown hK hP 4 rfl rfl 2 (by decide) m_96 rfl dX10_copyFrom_23 ?_
  refine lv_iconst (v := 0) hx hb dX10_copyFrom_26 (by decide) ?_
  refine lv_aload_n hx hb dX10_copyFrom_27 rfl (lv_at hl 0 rfl) ?_
  refine gt_f (C := RX10) (T := TX10) (N := 4) hx hb ha in_X10 hown hK hP 0 rfl rfl 2 (by decide) m_96 rfl dX10_copyFrom_28 ?_
  refine lv_iconst (v := 0) hx hb dX10_copyFrom_31 (by decide) ?_
  refine lv_iconst (v := 4) hx hb dX10_copyFrom_32 (by decide) ?_
  refine cp_if (ws' := [(h0, .inr (8, [.int o_sc, .ref h1, .ref h2, .ref h3])), (h1, .inl (dA 0, 4, .inl o_sd)), (h2, .inl (dA 0, 4, .inl o_sp)), (h3, .inl (dA 0, 4, .inl sw)), (h4, .inr (8, [.int o_sc, .ref h5, .ref h6, .ref h7])), (h5, .inl (dA 0, 4, .inl o_sd)), (h6, .inl (dA 0, 4, .inl o_sp)), (h7, .inl (dA 0, 4, .inl o_sw))]) hx hb ha hown hml hl.1 m_385 m_387 m_386 m_45 hK hP hD hS 6 2 rfl rfl (by decide) rfl ⟨Nat.le_of_ble_eq_true rfl, Nat.le_of_ble_eq_true rfl⟩ dX10_copyFrom_33 (fun H locs hP hD hS => ?_)
  refine lv_aload_n hx hb dX10_copyFrom_36 rfl (lv_at hl 1 rfl) ?_
  refine gt_f (C := RX10) (T := TX10) (N := 4) hx hb ha in_X10 hown hK hP 4 rfl rfl 3 (by decide) m_99 rfl dX10_copyFrom_37 ?_
  refine lv_iconst (v := 0) hx hb dX10_copyFrom_40 (by decide) ?_
  refine lv_aload_n hx hb dX10_copyFrom_41 rfl (lv_at hl 0 rfl) ?_
  refine gt_f (C := RX10) (T := TX10) (N := 4) hx hb ha in_X10 hown hK hP 0 rfl rfl 3 (by decide) m_99 rfl dX10_copyFrom_42 ?_
  refine lv_iconst (v := 0) hx hb dX10_copyFrom_45 (by decide) ?_
  refine lv_iconst (v := 4) hx hb dX10_copyFrom_46 (by decide) ?_
  refine cp_if (ws' := [(h0, .inr (8, [.int o_sc, .ref h1, .ref h2, .ref h3])), (h1, .inl (dA 0, 4, .inl o_sd)), (h2, .inl (dA 0, 4, .inl o_sp)), (h3, .inl (dA 0, 4, .inl o_sw)), (h4, .inr (8, [.int o_sc, .ref h5, .ref h6, .ref h7])), (h5, .inl (dA 0, 4, .inl o_sd)), (h6, .inl (dA 0, 4, .inl o_sp)), (h7, .inl (dA 0, 4, .inl o_sw))]) hx hb ha hown hml hl.1 m_385 m_387 m_386 m_45 hK hP hD hS 7 3 rfl rfl (by decide) rfl ⟨Nat.le_of_ble_eq_true rfl, Nat.le_of_ble_eq_true rfl⟩ dX10_copyFrom_47 (fun H locs hP hD hS => ?_)
  cases hf
  exact rt_Mv hx hb hr hlocks (hP.sub [0, 1, 2, 3, 4, 5, 6, 7] rfl) (hD.sub [0, 1, 2, 3, 4, 5, 6, 7] (by decide) rfl) hS dX10_copyFrom_50

def f_X10_has (sc : Int32) (p0 : Int32) : Option Int32 :=
  sf_b (p0 < (0 : Int32)) (some (0 : Int32)) (sf_b (sc ≤ p0) (some (0 : Int32)) (some (1 : Int32)))
theorem yd_X10_has : yX10_has.cls = RX10 ∧ yX10_has.cls ≠ "java/lang/invoke/MethodHandle" ∧ yX10_has.cls ≠ "java/lang/invoke/VarHandle" ∧ (parseMethodDescriptor yX10_has.desc).map (fun d => d.parameters.length) = some 1 := ⟨rfl, by decide, by decide, by decide +kernel⟩
set_option maxRecDepth 100000 in
set_option maxHeartbeats 4000000 in
theorem c_X10_has (l : Launch) (D : va_G) (dA : Nat → ClassId) (h0 h1 h2 h3 : Nat) (sc : Int32) (sd : Nat → Int32) (sp : Nat → Int32) (sw : Nat → Int32) (p0 : Int32) (rr : Int32) (hf : f_X10_has sc p0 = some rr) : Met l yX10_has (wo (.code yX10_has cX10_has 2 (some .boolean))) ({ frames := 0, cells := 0, slots := 0, locals := 0 } : Room) (preP D dA [.ref h0, .int p0] [(h0, .inr (8, [.int sc, .ref h1, .ref h2, .ref h3])), (h1, .inl (dA 0, 4, .inl sd)), (h2, .inl (dA 0, 4, .inl sp)), (h3, .inl (dA 0, 4, .inl sw))]) (poPi rr) 0 0 noA := by
  refine of_P (own := RX10) (by decide) rfl (Nat.le_of_ble_eq_true rfl) ?_
  intro p e s m below meth c hx hb hr ha hown hml hlocks hP hK hS ls hl
  have hl : lv_has ls 2 [(0, .ref h0), (1, .int p0)] := hl
  rw [f_X10_has] at hf
  refine lv_iload_n hx hb dX10_has_0 rfl (lv_at hl 1 rfl) ?_
  refine lv_if_lt (tgt := 16) hx hb dX10_has_1 (by decide) (fun hc => ?_) (fun hc => ?_)
  · have hf := sf_bp hf hc
    refine lv_iconst (v := 0) hx hb dX10_has_16 (by decide) ?_
    exact rt_Pz hx hb hr hlocks (Option.some.inj hf) rfl hS dX10_has_17
  · have hf := sf_bn hf hc
    refine lv_iload_n hx hb dX10_has_4 rfl (lv_at hl 1 rfl) ?_
    refine lv_aload_n hx hb dX10_has_5 rfl (lv_at hl 0 rfl) ?_
    refine gt_f (C := RX10) (T := TX10) (N := 4) hx hb ha in_X10 hown hK hP 0 rfl rfl 0 (by decide) m_90 rfl dX10_has_6 ?_
    refine lv_icmp_ge (tgt := 16) hx hb dX10_has_9 (by decide) (fun hc => ?_) (fun hc => ?_)
    · have hf := sf_bp hf hc
      refine lv_iconst (v := 0) hx hb dX10_has_16 (by decide) ?_
      exact rt_Pz hx hb hr hlocks (Option.some.inj hf) rfl hS dX10_has_17
    · have hf := sf_bn hf hc
      refine lv_iconst (v := 1) hx hb dX10_has_12 (by decide) ?_
      refine lv_goto (tgt := 17) hx hb dX10_has_13 (by decide) ?_
      exact rt_Pz hx hb hr hlocks (Option.some.inj hf) rfl hS dX10_has_17

def f_X10_append (sc : Int32) (sd : Nat → Int32) (sp : Nat → Int32) (sw : Nat → Int32) (p0 : Int32) (p1 : Int32) : Option (Int32 × Int32 × (Nat → Int32) × (Nat → Int32) × (Nat → Int32)) :=
  sf_g (sf_in sc 4 = true) (sf_n (upd sd sc.toNatClampNeg p0) (fun a_1 => sf_g (sf_in sc 4 = true) (sf_n (upd sp sc.toNatClampNeg p1) (fun a_2 => sf_g (sf_in sc 4 = true) (sf_n (upd sw sc.toNatClampNeg (0 : Int32)) (fun a_3 => sf_n ((sc + (1 : Int32))) (fun x_4 => some ((x_4 - (1 : Int32)), x_4, a_1, a_2, a_3))))))))
theorem yd_X10_append : yX10_append.cls = RX10 ∧ yX10_append.cls ≠ "java/lang/invoke/MethodHandle" ∧ yX10_append.cls ≠ "java/lang/invoke/VarHandle" ∧ (parseMethodDescriptor yX10_append.desc).map (fun d => d.parameters.length) = some 2 := ⟨rfl, by decide, by decide, by decide +kernel⟩
set_option maxRecDepth 100000 in
set_option maxHeartbeats 4000000 in
theorem c_X10_append (l : Launch) (D : va_G) (dA : Nat → ClassId) (h0 h1 h2 h3 : Nat) (sz : Nat) (sc : Int32) (sd : Nat → Int32) (sp : Nat → Int32) (sw : Nat → Int32) (p0 : Int32) (p1 : Int32) (rr : Int32) (q_sc : Int32) (q_sd : Nat → Int32) (q_sp : Nat → Int32) (q_sw : Nat → Int32) (hf : f_X10_append sc sd sp sw p0 p1 = some (rr, q_sc, q_sd, q_sp, q_sw)) : Met l yX10_append (wo (.code yX10_append cX10_append 3 (some .int))) ({ frames := 0, cells := 0, slots := 0, locals := 0 } : Room) (preM D dA [.ref h0, .int p0, .int p1] sz [(h0, .inr (8, [.int sc, .ref h1, .ref h2, .ref h3])), (h1, .inl (dA 0, 4, .inl sd)), (h2, .inl (dA 0, 4, .inl sp)), (h3, .inl (dA 0, 4, .inl sw))]) (poMi D rr [(h0, .inr (8, [.int q_sc, .ref h1, .ref h2, .ref h3])), (h1, .inl (dA 0, 4, .inl q_sd)), (h2, .inl (dA 0, 4, .inl q_sp)), (h3, .inl (dA 0, 4, .inl q_sw))] (va_A [(h0, .inr (8, [.int sc, .ref h1, .ref h2, .ref h3])), (h1, .inl (dA 0, 4, .inl sd)), (h2, .inl (dA 0, 4, .inl sp)), (h3, .inl (dA 0, 4, .inl sw))] sz)) 0 0 (va_A [(h0, .inr (8, [.int sc, .ref h1, .ref h2, .ref h3])), (h1, .inl (dA 0, 4, .inl sd)), (h2, .inl (dA 0, 4, .inl sp)), (h3, .inl (dA 0, 4, .inl sw))] sz) := by
  refine of_M (y := yX10_append) (cc := cX10_append) (maxL := 3) (ret := (some .int)) (av := [.ref h0, .int p0, .int p1]) (ws := [(h0, .inr (8, [.int sc, .ref h1, .ref h2, .ref h3])), (h1, .inl (dA 0, 4, .inl sd)), (h2, .inl (dA 0, 4, .inl sp)), (h3, .inl (dA 0, 4, .inl sw))]) (sz := sz) (own := RX10) (Qc := poMi D rr [(h0, .inr (8, [.int q_sc, .ref h1, .ref h2, .ref h3])), (h1, .inl (dA 0, 4, .inl q_sd)), (h2, .inl (dA 0, 4, .inl q_sp)), (h3, .inl (dA 0, 4, .inl q_sw))]) (by decide) rfl (Nat.le_of_ble_eq_true rfl) ?_
  intro p e s m below meth c A hx hb hr ha hown hml hlocks hin hP hK hD hS hA ls hl
  have hl : lv_has ls 3 [(0, .ref h0), (1, .int p0), (2, .int p1)] := hl
  rw [f_X10_append] at hf
  refine lv_aload_n hx hb dX10_append_0 rfl (lv_at hl 0 rfl) ?_
  refine gt_f (C := RX10) (T := TX10) (N := 4) hx hb ha in_X10 hown hK hP 0 rfl rfl 1 (by decide) m_93 rfl dX10_append_1 ?_
  refine lv_aload_n hx hb dX10_append_4 rfl (lv_at hl 0 rfl) ?_
  refine gt_f (C := RX10) (T := TX10) (N := 4) hx hb ha in_X10 hown hK hP 0 rfl rfl 0 (by decide) m_90 rfl dX10_append_5 ?_
  refine lv_iload_n hx hb dX10_append_8 rfl (lv_at hl 1 rfl) ?_
  obtain ⟨hi, hf⟩ := sf_ge hf
  obtain ⟨a_1, ea_1, hf⟩ := sf_ne hf
  refine ia_st (ws' := [(h0, .inr (8, [.int sc, .ref h1, .ref h2, .ref h3])), (h1, .inl (dA 0, 4, .inl a_1)), (h2, .inl (dA 0, 4, .inl sp)), (h3, .inl (dA 0, 4, .inl sw))]) hx hb hK hP hD hS 1 rfl hi ea_1 rfl dX10_append_9 (fun H locs hP hD hS => ?_)
  refine lv_aload_n hx hb dX10_append_10 rfl (lv_at hl 0 rfl) ?_
  refine gt_f (C := RX10) (T := TX10) (N := 4) hx hb ha in_X10 hown hK hP 0 rfl rfl 2 (by decide) m_96 rfl dX10_append_11 ?_
  refine lv_aload_n hx hb dX10_append_14 rfl (lv_at hl 0 rfl) ?_
  refine gt_f (C := RX10) (T := TX10) (N := 4) hx hb ha in_X10 hown hK hP 0 rfl rfl 0 (by decide) m_90 rfl dX10_append_15 ?_
  refine lv_iload_n hx hb dX10_append_18 rfl (lv_at hl 2 rfl) ?_
  obtain ⟨hi, hf⟩ := sf_ge hf
  obtain ⟨a_2, ea_2, hf⟩ := sf_ne hf
  refine ia_st (ws' := [(h0, .inr (8, [.int sc, .ref h1, .ref h2, .ref h3])), (h1, .inl (dA 0, 4, .inl a_1)), (h2, .inl (dA 0, 4, .inl a_2)), (h3, .inl (dA 0, 4, .inl sw))]) hx hb hK hP hD hS 2 rfl hi ea_2 rfl dX10_append_19 (fun H locs hP hD hS => ?_)
  refine lv_aload_n hx hb dX10_append_20 rfl (lv_at hl 0 rfl) ?_
  refine gt_f (C := RX10) (T := TX10) (N := 4) hx hb ha in_X10 hown hK hP 0 rfl rfl 3 (by decide) m_99 rfl dX10_append_21 ?_
  refine lv_aload_n hx hb dX10_append_24 rfl (lv_at hl 0 rfl) ?_
  refine gt_f (C := RX10) (T := TX10) (N := 4) hx hb ha in_X10 hown hK hP 0 rfl rfl 0 (by decide) m_90 rfl dX10_append_25 ?_
  refine lv_iconst (v := 0) hx hb dX10_append_28 (by decide) ?_
  obtain ⟨hi, hf⟩ := sf_ge hf
  obtain ⟨a_3, ea_3, hf⟩ := sf_ne hf
  refine ia_st (ws' := [(h0, .inr (8, [.int sc, .ref h1, .ref h2, .ref h3])), (h1, .inl (dA 0, 4, .inl a_1)), (h2, .inl (dA 0, 4, .inl a_2)), (h3, .inl (dA 0, 4, .inl a_3))]) hx hb hK hP hD hS 3 rfl hi ea_3 rfl dX10_append_29 (fun H locs hP hD hS => ?_)
  refine lv_aload_n hx hb dX10_append_30 rfl (lv_at hl 0 rfl) ?_
  refine lv_dup hx hb dX10_append_31 rfl ?_
  refine gt_f (C := RX10) (T := TX10) (N := 4) hx hb ha in_X10 hown hK hP 0 rfl rfl 0 (by decide) m_90 rfl dX10_append_32 ?_
  refine lv_iconst (v := 1) hx hb dX10_append_35 (by decide) ?_
  refine lv_iadd hx hb dX10_append_36 ?_
  obtain ⟨x_4, ex_4, hf⟩ := sf_ne hf
  refine tp_i ex_4 ?_
  refine pt_f (C := RX10) (T := TX10) (N := 4) (ws' := [(h0, .inr (8, [.int x_4, .ref h1, .ref h2, .ref h3])), (h1, .inl (dA 0, 4, .inl a_1)), (h2, .inl (dA 0, 4, .inl a_2)), (h3, .inl (dA 0, 4, .inl a_3))]) (ty := .int) hx hb ha in_X10 tyX10 tyX10_ok nmX10 hown hK hP hD hS 0 rfl rfl 0 (by decide) m_90 rfl (tyX10_ok 0 (by decide)) rfl rfl (Nat.le_of_ble_eq_true rfl) rfl dX10_append_37 (fun H locs hP hD hS => ?_)
  refine lv_aload_n hx hb dX10_append_40 rfl (lv_at hl 0 rfl) ?_
  refine gt_f (C := RX10) (T := TX10) (N := 4) hx hb ha in_X10 hown hK hP 0 rfl rfl 0 (by decide) m_90 rfl dX10_append_41 ?_
  refine lv_iconst (v := 1) hx hb dX10_append_44 (by decide) ?_
  refine lv_isub hx hb dX10_append_45 ?_
  cases hf
  exact rt_Mi hx hb hr hlocks (hP.sub [0, 1, 2, 3] rfl) (hD.sub [0, 1, 2, 3] (by decide) rfl) hS dX10_append_46

def f_X10_dry (sw : Nat → Int32) (p0 : Int32) : Option (Nat → Int32) :=
  sf_g (sf_in p0 4 = true) (sf_b ((sw p0.toNatClampNeg) ≤ (0 : Int32)) (some sw) (sf_g (sf_in p0 4 = true) (sf_g (sf_in p0 4 = true) (sf_n (upd sw p0.toNatClampNeg ((sw p0.toNatClampNeg) - (1 : Int32))) (fun a_1 => some a_1)))))
theorem yd_X10_dry : yX10_dry.cls = RX10 ∧ yX10_dry.cls ≠ "java/lang/invoke/MethodHandle" ∧ yX10_dry.cls ≠ "java/lang/invoke/VarHandle" ∧ (parseMethodDescriptor yX10_dry.desc).map (fun d => d.parameters.length) = some 1 := ⟨rfl, by decide, by decide, by decide +kernel⟩
set_option maxRecDepth 100000 in
set_option maxHeartbeats 4000000 in
theorem c_X10_dry (l : Launch) (D : va_G) (dA : Nat → ClassId) (h0 h1 h2 h3 : Nat) (sz : Nat) (sc : Int32) (sd : Nat → Int32) (sp : Nat → Int32) (sw : Nat → Int32) (p0 : Int32) (q_sw : Nat → Int32) (hf : f_X10_dry sw p0 = some q_sw) : Met l yX10_dry (wo (.code yX10_dry cX10_dry 2 none)) ({ frames := 0, cells := 0, slots := 0, locals := 0 } : Room) (preM D dA [.ref h0, .int p0] sz [(h0, .inr (8, [.int sc, .ref h1, .ref h2, .ref h3])), (h1, .inl (dA 0, 4, .inl sd)), (h2, .inl (dA 0, 4, .inl sp)), (h3, .inl (dA 0, 4, .inl sw))]) (poMv D [(h0, .inr (8, [.int sc, .ref h1, .ref h2, .ref h3])), (h1, .inl (dA 0, 4, .inl sd)), (h2, .inl (dA 0, 4, .inl sp)), (h3, .inl (dA 0, 4, .inl q_sw))] (va_A [(h0, .inr (8, [.int sc, .ref h1, .ref h2, .ref h3])), (h1, .inl (dA 0, 4, .inl sd)), (h2, .inl (dA 0, 4, .inl sp)), (h3, .inl (dA 0, 4, .inl sw))] sz)) 0 0 (va_A [(h0, .inr (8, [.int sc, .ref h1, .ref h2, .ref h3])), (h1, .inl (dA 0, 4, .inl sd)), (h2, .inl (dA 0, 4, .inl sp)), (h3, .inl (dA 0, 4, .inl sw))] sz) := by
  refine of_M (y := yX10_dry) (cc := cX10_dry) (maxL := 2) (ret := none) (av := [.ref h0, .int p0]) (ws := [(h0, .inr (8, [.int sc, .ref h1, .ref h2, .ref h3])), (h1, .inl (dA 0, 4, .inl sd)), (h2, .inl (dA 0, 4, .inl sp)), (h3, .inl (dA 0, 4, .inl sw))]) (sz := sz) (own := RX10) (Qc := poMv D [(h0, .inr (8, [.int sc, .ref h1, .ref h2, .ref h3])), (h1, .inl (dA 0, 4, .inl sd)), (h2, .inl (dA 0, 4, .inl sp)), (h3, .inl (dA 0, 4, .inl q_sw))]) (by decide) rfl (Nat.le_of_ble_eq_true rfl) ?_
  intro p e s m below meth c A hx hb hr ha hown hml hlocks hin hP hK hD hS hA ls hl
  have hl : lv_has ls 2 [(0, .ref h0), (1, .int p0)] := hl
  rw [f_X10_dry] at hf
  refine lv_aload_n hx hb dX10_dry_0 rfl (lv_at hl 0 rfl) ?_
  refine gt_f (C := RX10) (T := TX10) (N := 4) hx hb ha in_X10 hown hK hP 0 rfl rfl 3 (by decide) m_99 rfl dX10_dry_1 ?_
  refine lv_iload_n hx hb dX10_dry_4 rfl (lv_at hl 1 rfl) ?_
  obtain ⟨hi, hf⟩ := sf_ge hf
  refine ia_ld hx hb hK hP 3 rfl hi dX10_dry_5 ?_
  refine lv_if_le (tgt := 19) hx hb dX10_dry_6 (by decide) (fun hc => ?_) (fun hc => ?_)
  · have hf := sf_bp hf hc
    cases hf
    exact rt_Mv hx hb hr hlocks (hP.sub [0, 1, 2, 3] rfl) (hD.sub [0, 1, 2, 3] (by decide) rfl) hS dX10_dry_19
  · have hf := sf_bn hf hc
    refine lv_aload_n hx hb dX10_dry_9 rfl (lv_at hl 0 rfl) ?_
    refine gt_f (C := RX10) (T := TX10) (N := 4) hx hb ha in_X10 hown hK hP 0 rfl rfl 3 (by decide) m_99 rfl dX10_dry_10 ?_
    refine lv_iload_n hx hb dX10_dry_13 rfl (lv_at hl 1 rfl) ?_
    refine lv_dup2_11 hx hb dX10_dry_14 rfl rfl ?_
    obtain ⟨hi, hf⟩ := sf_ge hf
    refine ia_ld hx hb hK hP 3 rfl hi dX10_dry_15 ?_
    refine lv_iconst (v := 1) hx hb dX10_dry_16 (by decide) ?_
    refine lv_isub hx hb dX10_dry_17 ?_
    obtain ⟨hi, hf⟩ := sf_ge hf
    obtain ⟨a_1, ea_1, hf⟩ := sf_ne hf
    refine ia_st (ws' := [(h0, .inr (8, [.int sc, .ref h1, .ref h2, .ref h3])), (h1, .inl (dA 0, 4, .inl sd)), (h2, .inl (dA 0, 4, .inl sp)), (h3, .inl (dA 0, 4, .inl a_1))]) hx hb hK hP hD hS 3 rfl hi ea_1 rfl dX10_dry_18 (fun H locs hP hD hS => ?_)
    cases hf
    exact rt_Mv hx hb hr hlocks (hP.sub [0, 1, 2, 3] rfl) (hD.sub [0, 1, 2, 3] (by decide) rfl) hS dX10_dry_19

def f_X10_wet (sw : Nat → Int32) (p0 : Int32) : Option (Nat → Int32) :=
  sf_g (sf_in p0 4 = true) (sf_n (((sw p0.toNatClampNeg) + (2 : Int32))) (fun x_1 => sf_b (x_1 ≤ (9 : Int32)) (sf_g (sf_in p0 4 = true) (sf_n (upd sw p0.toNatClampNeg x_1) (fun a_2 => some a_2))) (sf_g (sf_in p0 4 = true) (sf_n (upd sw p0.toNatClampNeg (9 : Int32)) (fun a_3 => some a_3)))))
theorem yd_X10_wet : yX10_wet.cls = RX10 ∧ yX10_wet.cls ≠ "java/lang/invoke/MethodHandle" ∧ yX10_wet.cls ≠ "java/lang/invoke/VarHandle" ∧ (parseMethodDescriptor yX10_wet.desc).map (fun d => d.parameters.length) = some 1 := ⟨rfl, by decide, by decide, by decide +kernel⟩
set_option maxRecDepth 100000 in
set_option maxHeartbeats 4000000 in
theorem c_X10_wet (l : Launch) (D : va_G) (dA : Nat → ClassId) (h0 h1 h2 h3 : Nat) (sz : Nat) (sc : Int32) (sd : Nat → Int32) (sp : Nat → Int32) (sw : Nat → Int32) (p0 : Int32) (q_sw : Nat → Int32) (hf : f_X10_wet sw p0 = some q_sw) : Met l yX10_wet (wo (.code yX10_wet cX10_wet 3 none)) ({ frames := 0, cells := 0, slots := 0, locals := 0 } : Room) (preM D dA [.ref h0, .int p0] sz [(h0, .inr (8, [.int sc, .ref h1, .ref h2, .ref h3])), (h1, .inl (dA 0, 4, .inl sd)), (h2, .inl (dA 0, 4, .inl sp)), (h3, .inl (dA 0, 4, .inl sw))]) (poMv D [(h0, .inr (8, [.int sc, .ref h1, .ref h2, .ref h3])), (h1, .inl (dA 0, 4, .inl sd)), (h2, .inl (dA 0, 4, .inl sp)), (h3, .inl (dA 0, 4, .inl q_sw))] (va_A [(h0, .inr (8, [.int sc, .ref h1, .ref h2, .ref h3])), (h1, .inl (dA 0, 4, .inl sd)), (h2, .inl (dA 0, 4, .inl sp)), (h3, .inl (dA 0, 4, .inl sw))] sz)) 0 0 (va_A [(h0, .inr (8, [.int sc, .ref h1, .ref h2, .ref h3])), (h1, .inl (dA 0, 4, .inl sd)), (h2, .inl (dA 0, 4, .inl sp)), (h3, .inl (dA 0, 4, .inl sw))] sz) := by
  refine of_M (y := yX10_wet) (cc := cX10_wet) (maxL := 3) (ret := none) (av := [.ref h0, .int p0]) (ws := [(h0, .inr (8, [.int sc, .ref h1, .ref h2, .ref h3])), (h1, .inl (dA 0, 4, .inl sd)), (h2, .inl (dA 0, 4, .inl sp)), (h3, .inl (dA 0, 4, .inl sw))]) (sz := sz) (own := RX10) (Qc := poMv D [(h0, .inr (8, [.int sc, .ref h1, .ref h2, .ref h3])), (h1, .inl (dA 0, 4, .inl sd)), (h2, .inl (dA 0, 4, .inl sp)), (h3, .inl (dA 0, 4, .inl q_sw))]) (by decide) rfl (Nat.le_of_ble_eq_true rfl) ?_
  intro p e s m below meth c A hx hb hr ha hown hml hlocks hin hP hK hD hS hA ls hl
  have hl : lv_has ls 3 [(0, .ref h0), (1, .int p0)] := hl
  rw [f_X10_wet] at hf
  refine lv_aload_n hx hb dX10_wet_0 rfl (lv_at hl 0 rfl) ?_
  refine gt_f (C := RX10) (T := TX10) (N := 4) hx hb ha in_X10 hown hK hP 0 rfl rfl 3 (by decide) m_99 rfl dX10_wet_1 ?_
  refine lv_iload_n hx hb dX10_wet_4 rfl (lv_at hl 1 rfl) ?_
  obtain ⟨hi, hf⟩ := sf_ge hf
  refine ia_ld hx hb hK hP 3 rfl hi dX10_wet_5 ?_
  refine lv_iconst (v := 2) hx hb dX10_wet_6 (by decide) ?_
  refine lv_iadd hx hb dX10_wet_7 ?_
  obtain ⟨x_1, ex_1, hf⟩ := sf_ne hf
  refine tp_i ex_1 ?_
  refine lv_istore_n (lv' := [(2, .int x_1), (0, .ref h0), (1, .int p0)]) hx hb dX10_wet_8 rfl hl (by decide) rfl (fun ls hl => ?_)
  refine lv_aload_n hx hb dX10_wet_9 rfl (lv_at hl 1 rfl) ?_
  refine gt_f (C := RX10) (T := TX10) (N := 4) hx hb ha in_X10 hown hK hP 0 rfl rfl 3 (by decide) m_99 rfl dX10_wet_10 ?_
  refine lv_iload_n hx hb dX10_wet_13 rfl (lv_at hl 2 rfl) ?_
  refine lv_iload_n hx hb dX10_wet_14 rfl (lv_at hl 0 rfl) ?_
  refine lv_bipush (v := 9) hx hb dX10_wet_15 (by decide) ?_
  refine lv_icmp_le (tgt := 25) hx hb dX10_wet_17 (by decide) (fun hc => ?_) (fun hc => ?_)
  · have hf := sf_bp hf hc
    refine lv_iload_n hx hb dX10_wet_25 rfl (lv_at hl 0 rfl) ?_
    obtain ⟨hi, hf⟩ := sf_ge hf
    obtain ⟨a_2, ea_2, hf⟩ := sf_ne hf
    refine ia_st (ws' := [(h0, .inr (8, [.int sc, .ref h1, .ref h2, .ref h3])), (h1, .inl (dA 0, 4, .inl sd)), (h2, .inl (dA 0, 4, .inl sp)), (h3, .inl (dA 0, 4, .inl a_2))]) hx hb hK hP hD hS 3 rfl hi ea_2 rfl dX10_wet_26 (fun H locs hP hD hS => ?_)
    cases hf
    exact rt_Mv hx hb hr hlocks (hP.sub [0, 1, 2, 3] rfl) (hD.sub [0, 1, 2, 3] (by decide) rfl) hS dX10_wet_27
  · have hf := sf_bn hf hc
    refine lv_bipush (v := 9) hx hb dX10_wet_20 (by decide) ?_
    refine lv_goto (tgt := 26) hx hb dX10_wet_22 (by decide) ?_
    obtain ⟨hi, hf⟩ := sf_ge hf
    obtain ⟨a_3, ea_3, hf⟩ := sf_ne hf
    refine ia_st (ws' := [(h0, .inr (8, [.int sc, .ref h1, .ref h2, .ref h3])), (h1, .inl (dA 0, 4, .inl sd)), (h2, .inl (dA 0, 4, .inl sp)), (h3, .inl (dA 0, 4, .inl a_3))]) hx hb hK hP hD hS 3 rfl hi ea_3 rfl dX10_wet_26 (fun H locs hP hD hS => ?_)
    cases hf
    exact rt_Mv hx hb hr hlocks (hP.sub [0, 1, 2, 3] rfl) (hD.sub [0, 1, 2, 3] (by decide) rfl) hS dX10_wet_27

def f_X10_rankByWetness_L4 (sc : Int32) (sw : Nat → Int32) (p0 : Int32) (k : Int32 → Option Int32) : Nat → Int32 → Int32 → Option Int32
  | 0, _, _ => none
  | n + 1, v_1, v_2 => sf_b (sc ≤ v_1) (k v_2) (sf_b (p0 ≤ v_1) (sf_g (sf_in v_1 4 = true) (sf_g (sf_in p0 4 = true) (sf_b ((sw v_1.toNatClampNeg) ≤ (sw p0.toNatClampNeg)) (sf_n (v_1 + (1 : Int32)) (fun x_3 => f_X10_rankByWetness_L4 sc sw p0 k n x_3 v_2)) (sf_n (v_2 + (1 : Int32)) (fun x_4 => sf_n (v_1 + (1 : Int32)) (fun x_5 => f_X10_rankByWetness_L4 sc sw p0 k n x_5 x_4)))))) (sf_g (sf_in v_1 4 = true) (sf_g (sf_in p0 4 = true) (sf_b ((sw v_1.toNatClampNeg) < (sw p0.toNatClampNeg)) (sf_n (v_1 + (1 : Int32)) (fun x_6 => f_X10_rankByWetness_L4 sc sw p0 k n x_6 v_2)) (sf_n (v_2 + (1 : Int32)) (fun x_7 => sf_n (v_1 + (1 : Int32)) (fun x_8 => f_X10_rankByWetness_L4 sc sw p0 k n x_8 x_7)))))))
def f_X10_rankByWetness (sc : Int32) (sw : Nat → Int32) (p0 : Int32) : Option Int32 :=
  f_X10_rankByWetness_L4 sc sw p0 (fun y_9 => some y_9) 2000 (0 : Int32) (0 : Int32)
theorem yd_X10_rankByWetness : yX10_rankByWetness.cls = RX10 ∧ yX10_rankByWetness.cls ≠ "java/lang/invoke/MethodHandle" ∧ yX10_rankByWetness.cls ≠ "java/lang/invoke/VarHandle" ∧ (parseMethodDescriptor yX10_rankByWetness.desc).map (fun d => d.parameters.length) = some 1 := ⟨rfl, by decide, by decide, by decide +kernel⟩
set_option maxRecDepth 100000 in
set_option maxHeartbeats 4000000 in
theorem c_X10_rankByWetness (l : Launch) (D : va_G) (dA : Nat → ClassId) (h0 h1 h2 h3 : Nat) (sc : Int32) (sd : Nat → Int32) (sp : Nat → Int32) (sw : Nat → Int32) (p0 : Int32) (rr : Int32) (hf : f_X10_rankByWetness sc sw p0 = some rr) : Met l yX10_rankByWetness (wo (.code yX10_rankByWetness cX10_rankByWetness 5 (some .int))) ({ frames := 0, cells := 0, slots := 0, locals := 0 } : Room) (preP D dA [.ref h0, .int p0] [(h0, .inr (8, [.int sc, .ref h1, .ref h2, .ref h3])), (h1, .inl (dA 0, 4, .inl sd)), (h2, .inl (dA 0, 4, .inl sp)), (h3, .inl (dA 0, 4, .inl sw))]) (poPi rr) 0 0 noA := by
  refine of_P (own := RX10) (by decide) rfl (Nat.le_of_ble_eq_true rfl) ?_
  intro p e s m below meth c hx hb hr ha hown hml hlocks hP hK hS ls hl
  have hl : lv_has ls 5 [(0, .ref h0), (1, .int p0)] := hl
  rw [f_X10_rankByWetness] at hf
  refine lv_iconst (v := 0) hx hb dX10_rankByWetness_0 (by decide) ?_
  refine lv_istore_n (lv' := [(2, .int (0 : Int32)), (0, .ref h0), (1, .int p0)]) hx hb dX10_rankByWetness_1 rfl hl (by decide) rfl (fun ls hl => ?_)
  refine lv_iconst (v := 0) hx hb dX10_rankByWetness_2 (by decide) ?_
  refine lv_istore_n (lv' := [(3, .int (0 : Int32)), (2, .int (0 : Int32)), (0, .ref h0), (1, .int p0)]) hx hb dX10_rankByWetness_3 rfl hl (by decide) rfl (fun ls hl => ?_)
  have hL4 : ∀ (n : Nat) (k : Int32 → Option Int32) (v_1 : Int32) (v_2 : Int32) (H : Heap) (locs : List Loc) (ls : Array Slot), va_P D cls [(h0, .inr (8, [.int sc, .ref h1, .ref h2, .ref h3])), (h1, .inl (dA 0, 4, .inl sd)), (h2, .inl (dA 0, 4, .inl sp)), (h3, .inl (dA 0, 4, .inl sw))] H → va_S noA s.heap H locs → lv_has ls 5 [(3, .int v_1), (2, .int v_2), (0, .ref h0), (1, .int p0)] → f_X10_rankByWetness_L4 sc sw p0 k n v_1 v_2 = some rr → (∀ (y_9 : Int32) (H : Heap) (locs : List Loc) (ls : Array Slot), va_P D cls [(h0, .inr (8, [.int sc, .ref h1, .ref h2, .ref h3])), (h1, .inl (dA 0, 4, .inl sd)), (h2, .inl (dA 0, 4, .inl sp)), (h3, .inl (dA 0, 4, .inl sw))] H → va_S noA s.heap H locs → lv_has ls 5 [(2, .int y_9)] → k y_9 = some rr → W p l e ({ frames := 0, cells := 0, slots := 0, locals := 0 } : Room) s m ([.ref h0, .int p0] : List Value).toArray below meth c H locs 0 0 (MQ below (poPi rr) ([.ref h0, .int p0] : List Value).toArray s 0 0 noA) (F0 m 76 ls [])) → W p l e ({ frames := 0, cells := 0, slots := 0, locals := 0 } : Room) s m ([.ref h0, .int p0] : List Value).toArray below meth c H locs 0 0 (MQ below (poPi rr) ([.ref h0, .int p0] : List Value).toArray s 0 0 noA) (F0 m 4 ls []) := by
    intro n k
    induction n with
    | zero =>
      intro v_1 v_2 H locs ls hP hS hl hf hk
      rw [f_X10_rankByWetness_L4] at hf
      cases hf
    | succ n ih =>
      intro v_1 v_2 H locs ls hP hS hl hf hk
      rw [f_X10_rankByWetness_L4] at hf
      refine lv_iload_n hx hb dX10_rankByWetness_4 rfl (lv_at hl 0 rfl) ?_
      refine lv_aload_n hx hb dX10_rankByWetness_5 rfl (lv_at hl 2 rfl) ?_
      refine gt_f (C := RX10) (T := TX10) (N := 4) hx hb ha in_X10 hown hK hP 0 rfl rfl 0 (by decide) m_90 rfl dX10_rankByWetness_6 ?_
      refine lv_icmp_ge (tgt := 76) hx hb dX10_rankByWetness_9 (by decide) (fun hc => ?_) (fun hc => ?_)
      · have hf := sf_bp hf hc
        exact hk _ _ _ _ hP hS (lv_sub hl [1] rfl) hf
      · have hf := sf_bn hf hc
        refine lv_iload_n hx hb dX10_rankByWetness_12 rfl (lv_at hl 0 rfl) ?_
        refine lv_iload_n hx hb dX10_rankByWetness_13 rfl (lv_at hl 3 rfl) ?_
        refine lv_icmp_ge (tgt := 40) hx hb dX10_rankByWetness_14 (by decide) (fun hc => ?_) (fun hc => ?_)
        · have hf := sf_bp hf hc
          refine lv_aload_n hx hb dX10_rankByWetness_40 rfl (lv_at hl 2 rfl) ?_
          refine gt_f (C := RX10) (T := TX10) (N := 4) hx hb ha in_X10 hown hK hP 0 rfl rfl 3 (by decide) m_99 rfl dX10_rankByWetness_41 ?_
          refine lv_iload_n hx hb dX10_rankByWetness_44 rfl (lv_at hl 0 rfl) ?_
          obtain ⟨hi, hf⟩ := sf_ge hf
          refine ia_ld hx hb hK hP 3 rfl hi dX10_rankByWetness_45 ?_
          refine lv_aload_n hx hb dX10_rankByWetness_46 rfl (lv_at hl 2 rfl) ?_
          refine gt_f (C := RX10) (T := TX10) (N := 4) hx hb ha in_X10 hown hK hP 0 rfl rfl 3 (by decide) m_99 rfl dX10_rankByWetness_47 ?_
          refine lv_iload_n hx hb dX10_rankByWetness_50 rfl (lv_at hl 3 rfl) ?_
          obtain ⟨hi, hf⟩ := sf_ge hf
          refine ia_ld hx hb hK hP 3 rfl hi dX10_rankByWetness_51 ?_
          refine lv_icmp_le (tgt := 59) hx hb dX10_rankByWetness_52 (by decide) (fun hc => ?_) (fun hc => ?_)
          · have hf := sf_bp hf hc
            refine lv_iconst (v := 0) hx hb dX10_rankByWetness_59 (by decide) ?_
            refine lv_istore (lv' := [(4, .int (0 : Int32)), (3, .int v_1), (2, .int v_2), (0, .ref h0), (1, .int p0)]) hx hb dX10_rankByWetness_60 hl (by decide) rfl (fun ls hl => ?_)
            refine lv_iload hx hb dX10_rankByWetness_62 (lv_at hl 0 rfl) ?_
            refine lv_if_eq (tgt := 70) hx hb dX10_rankByWetness_64 (by decide) (fun hc => ?_) (fun hc => absurd (by decide) hc)
            obtain ⟨x_3, ex_3, hf⟩ := sf_ne hf
            refine ii_nc (lv' := [(3, .int x_3), (4, .int (0 : Int32)), (2, .int v_2), (0, .ref h0), (1, .int p0)]) (k := 1) hx hb dX10_rankByWetness_70 hl rfl ex_3 (by decide) (by decide) rfl (fun ls hl => ?_)
            refine lv_goto (tgt := 4) hx hb dX10_rankByWetness_73 (by decide) ?_
            exact ih _ _ _ _ _ hP hS (lv_sub hl [0, 2, 3, 4] rfl) hf hk
          · have hf := sf_bn hf hc
            refine lv_iconst (v := 1) hx hb dX10_rankByWetness_55 (by decide) ?_
            refine lv_goto (tgt := 60) hx hb dX10_rankByWetness_56 (by decide) ?_
            refine lv_istore (lv' := [(4, .int (1 : Int32)), (3, .int v_1), (2, .int v_2), (0, .ref h0), (1, .int p0)]) hx hb dX10_rankByWetness_60 hl (by decide) rfl (fun ls hl => ?_)
            refine lv_iload hx hb dX10_rankByWetness_62 (lv_at hl 0 rfl) ?_
            refine lv_if_eq (tgt := 70) hx hb dX10_rankByWetness_64 (by decide) (fun hc => absurd hc (by decide)) (fun hc => ?_)
            obtain ⟨x_4, ex_4, hf⟩ := sf_ne hf
            refine ii_nc (lv' := [(2, .int x_4), (4, .int (1 : Int32)), (3, .int v_1), (0, .ref h0), (1, .int p0)]) (k := 2) hx hb dX10_rankByWetness_67 hl rfl ex_4 (by decide) (by decide) rfl (fun ls hl => ?_)
            obtain ⟨x_5, ex_5, hf⟩ := sf_ne hf
            refine ii_nc (lv' := [(3, .int x_5), (2, .int x_4), (4, .int (1 : Int32)), (0, .ref h0), (1, .int p0)]) (k := 2) hx hb dX10_rankByWetness_70 hl rfl ex_5 (by decide) (by decide) rfl (fun ls hl => ?_)
            refine lv_goto (tgt := 4) hx hb dX10_rankByWetness_73 (by decide) ?_
            exact ih _ _ _ _ _ hP hS (lv_sub hl [0, 1, 3, 4] rfl) hf hk
        · have hf := sf_bn hf hc
          refine lv_aload_n hx hb dX10_rankByWetness_17 rfl (lv_at hl 2 rfl) ?_
          refine gt_f (C := RX10) (T := TX10) (N := 4) hx hb ha in_X10 hown hK hP 0 rfl rfl 3 (by decide) m_99 rfl dX10_rankByWetness_18 ?_
          refine lv_iload_n hx hb dX10_rankByWetness_21 rfl (lv_at hl 0 rfl) ?_
          obtain ⟨hi, hf⟩ := sf_ge hf
          refine ia_ld hx hb hK hP 3 rfl hi dX10_rankByWetness_22 ?_
          refine lv_aload_n hx hb dX10_rankByWetness_23 rfl (lv_at hl 2 rfl) ?_
          refine gt_f (C := RX10) (T := TX10) (N := 4) hx hb ha in_X10 hown hK hP 0 rfl rfl 3 (by decide) m_99 rfl dX10_rankByWetness_24 ?_
          refine lv_iload_n hx hb dX10_rankByWetness_27 rfl (lv_at hl 3 rfl) ?_
          obtain ⟨hi, hf⟩ := sf_ge hf
          refine ia_ld hx hb hK hP 3 rfl hi dX10_rankByWetness_28 ?_
          refine lv_icmp_lt (tgt := 36) hx hb dX10_rankByWetness_29 (by decide) (fun hc => ?_) (fun hc => ?_)
          · have hf := sf_bp hf hc
            refine lv_iconst (v := 0) hx hb dX10_rankByWetness_36 (by decide) ?_
            refine lv_goto (tgt := 60) hx hb dX10_rankByWetness_37 (by decide) ?_
            refine lv_istore (lv' := [(4, .int (0 : Int32)), (3, .int v_1), (2, .int v_2), (0, .ref h0), (1, .int p0)]) hx hb dX10_rankByWetness_60 hl (by decide) rfl (fun ls hl => ?_)
            refine lv_iload hx hb dX10_rankByWetness_62 (lv_at hl 0 rfl) ?_
            refine lv_if_eq (tgt := 70) hx hb dX10_rankByWetness_64 (by decide) (fun hc => ?_) (fun hc => absurd (by decide) hc)
            obtain ⟨x_6, ex_6, hf⟩ := sf_ne hf
            refine ii_nc (lv' := [(3, .int x_6), (4, .int (0 : Int32)), (2, .int v_2), (0, .ref h0), (1, .int p0)]) (k := 1) hx hb dX10_rankByWetness_70 hl rfl ex_6 (by decide) (by decide) rfl (fun ls hl => ?_)
            refine lv_goto (tgt := 4) hx hb dX10_rankByWetness_73 (by decide) ?_
            exact ih _ _ _ _ _ hP hS (lv_sub hl [0, 2, 3, 4] rfl) hf hk
          · have hf := sf_bn hf hc
            refine lv_iconst (v := 1) hx hb dX10_rankByWetness_32 (by decide) ?_
            refine lv_goto (tgt := 60) hx hb dX10_rankByWetness_33 (by decide) ?_
            refine lv_istore (lv' := [(4, .int (1 : Int32)), (3, .int v_1), (2, .int v_2), (0, .ref h0), (1, .int p0)]) hx hb dX10_rankByWetness_60 hl (by decide) rfl (fun ls hl => ?_)
            refine lv_iload hx hb dX10_rankByWetness_62 (lv_at hl 0 rfl) ?_
            refine lv_if_eq (tgt := 70) hx hb dX10_rankByWetness_64 (by decide) (fun hc => absurd hc (by decide)) (fun hc => ?_)
            obtain ⟨x_7, ex_7, hf⟩ := sf_ne hf
            refine ii_nc (lv' := [(2, .int x_7), (4, .int (1 : Int32)), (3, .int v_1), (0, .ref h0), (1, .int p0)]) (k := 2) hx hb dX10_rankByWetness_67 hl rfl ex_7 (by decide) (by decide) rfl (fun ls hl => ?_)
            obtain ⟨x_8, ex_8, hf⟩ := sf_ne hf
            refine ii_nc (lv' := [(3, .int x_8), (2, .int x_7), (4, .int (1 : Int32)), (0, .ref h0), (1, .int p0)]) (k := 2) hx hb dX10_rankByWetness_70 hl rfl ex_8 (by decide) (by decide) rfl (fun ls hl => ?_)
            refine lv_goto (tgt := 4) hx hb dX10_rankByWetness_73 (by decide) ?_
            exact ih _ _ _ _ _ hP hS (lv_sub hl [0, 1, 3, 4] rfl) hf hk
  refine hL4 _ _ _ _ _ _ _ hP hS (lv_sub hl [0, 1, 2, 3] rfl) hf (fun y_9 H locs ls hP hS hl hf => ?_)
  refine lv_iload_n hx hb dX10_rankByWetness_76 rfl (lv_at hl 0 rfl) ?_
  exact rt_Pi hx hb hr hlocks (Option.some.inj hf) hS dX10_rankByWetness_77

