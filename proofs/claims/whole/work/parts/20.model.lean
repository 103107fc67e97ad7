def f_X12_thrown (mt : Int32) : Option Int32 :=
  some mt
theorem yd_X12_thrown : yX12_thrown.cls = RX12 ∧ yX12_thrown.cls ≠ "java/lang/invoke/MethodHandle" ∧ yX12_thrown.cls ≠ "java/lang/invoke/VarHandle" ∧ (parseMethodDescriptor yX12_thrown.desc).map (fun d => d.parameters.length) = some 0 := ⟨rfl, by decide, by decide, by decide +kernel⟩
set_option maxRecDepth 100000 in
set_option maxHeartbeats 4000000 in
theorem c_X12_thrown (l : Launch) (D : va_G) (dA : Nat → ClassId) (h0 h1 h2 h3 h4 h5 h6 h7 : Nat) (ms : Nat → Int32) (mb : Nat → Int32) (mv : Nat → Int32) (mi : Int32) (mp : Nat → Int32) (mn : Int32) (mt : Int32) (mo : Nat → Int32) (mO : Int32) (mI : Nat → Int32) (mL : Int32) (mA : Int32) (mW : Int32) (mE : Int32) (mF : Int32) (mc : Nat → Int32) (mM : Int32) (rr : Int32) (hf : f_X12_thrown mt = some rr) : Met l yX12_thrown (wo (.code yX12_thrown cX12_thrown 1 (some .int))) ({ frames := 0, cells := 0, slots := 0, locals := 0 } : Room) (preP D dA [.ref h0] [(h0, .inr (10, [.ref h1, .ref h2, .ref h3, .int mi, .ref h4, .int mn, .int mt, .ref h5, .int mO, .ref h6, .int mL, .int mA, .int mW, .int mE, .int mF, .ref h7, .int mM])), (h1, .inl (dA 0, 158, .inl ms)), (h2, .inl (dA 0, 158, .inl mb)), (h3, .inl (dA 0, 158, .inl mv)), (h4, .inl (dA 0, 1264, .inl mp)), (h5, .inl (dA 1, 180, .inl mo)), (h6, .inl (dA 1, 60, .inl mI)), (h7, .inl (dA 0, 240, .inl mc))]) (poPi rr) 0 0 noA := by
  refine of_P (own := RX12) (by decide) rfl (Nat.le_of_ble_eq_true rfl) ?_
  intro p e s m below meth c hx hb hr ha hown hml hlocks hP hK hS ls hl
  have hl : lv_has ls 1 [(0, .ref h0)] := hl
  rw [f_X12_thrown] at hf
  refine lv_aload_n hx hb dX12_thrown_0 rfl (lv_at hl 0 rfl) ?_
  refine gt_f (C := RX12) (T := TX12) (N := 17) hx hb ha in_X12 hown hK hP 0 rfl rfl 6 (by decide) m_1655 rfl dX12_thrown_1 ?_
  exact rt_Pi hx hb hr hlocks (Option.some.inj hf) hS dX12_thrown_4

def f_X12_in (p0 : Int32) (p1 : Int32) (p2 : Int32) : Option Int32 :=
  sf_b (p0 < p1) (some (0 : Int32)) (sf_b (p2 < p0) (some (0 : Int32)) (some (1 : Int32)))
theorem yd_X12_in : yX12_in.cls = RX12 ∧ yX12_in.cls ≠ "java/lang/invoke/MethodHandle" ∧ yX12_in.cls ≠ "java/lang/invoke/VarHandle" ∧ (parseMethodDescriptor yX12_in.desc).map (fun d => d.parameters.length) = some 3 := ⟨rfl, by decide, by decide, by decide +kernel⟩
set_option maxRecDepth 100000 in
set_option maxHeartbeats 4000000 in
theorem c_X12_in (l : Launch) (D : va_G) (dA : Nat → ClassId) (p0 : Int32) (p1 : Int32) (p2 : Int32) (rr : Int32) (hf : f_X12_in p0 p1 p2 = some rr) : Met l yX12_in (wo (.code yX12_in cX12_in 3 (some .boolean))) ({ frames := 0, cells := 0, slots := 0, locals := 0 } : Room) (preP D dA [.int p0, .int p1, .int p2] []) (poPi rr) 0 0 noA := by
  refine of_P (own := RX12) (by decide) rfl (Nat.le_of_ble_eq_true rfl) ?_
  intro p e s m below meth c hx hb hr ha hown hml hlocks hP hK hS ls hl
  have hl : lv_has ls 3 [(0, .int p0), (1, .int p1), (2, .int p2)] := hl
  rw [f_X12_in] at hf
  refine lv_iload_n hx hb dX12_in_0 rfl (lv_at hl 0 rfl) ?_
  refine lv_iload_n hx hb dX12_in_1 rfl (lv_at hl 1 rfl) ?_
  refine lv_icmp_lt (tgt := 14) hx hb dX12_in_2 (by decide) (fun hc => ?_) (fun hc => ?_)
  · have hf := sf_bp hf hc
    refine lv_iconst (v := 0) hx hb dX12_in_14 (by decide) ?_
    exact rt_Pz hx hb hr hlocks (Option.some.inj hf) rfl hS dX12_in_15
  · have hf := sf_bn hf hc
    refine lv_iload_n hx hb dX12_in_5 rfl (lv_at hl 0 rfl) ?_
    refine lv_iload_n hx hb dX12_in_6 rfl (lv_at hl 2 rfl) ?_
    refine lv_icmp_gt (tgt := 14) hx hb dX12_in_7 (by decide) (fun hc => ?_) (fun hc => ?_)
    · have hf := sf_bp hf hc
      refine lv_iconst (v := 0) hx hb dX12_in_14 (by decide) ?_
      exact rt_Pz hx hb hr hlocks (Option.some.inj hf) rfl hS dX12_in_15
    · have hf := sf_bn hf hc
      refine lv_iconst (v := 1) hx hb dX12_in_10 (by decide) ?_
      refine lv_goto (tgt := 15) hx hb dX12_in_11 (by decide) ?_
      exact rt_Pz hx hb hr hlocks (Option.some.inj hf) rfl hS dX12_in_15

def f_X12_keep (ms : Nat → Int32) (mb : Nat → Int32) (mt : Int32) : Option ((Nat → Int32) × Int32) :=
  some (ms, (0 : Int32))
theorem yd_X12_keep : yX12_keep.cls = RX12 ∧ yX12_keep.cls ≠ "java/lang/invoke/MethodHandle" ∧ yX12_keep.cls ≠ "java/lang/invoke/VarHandle" ∧ (parseMethodDescriptor yX12_keep.desc).map (fun d => d.parameters.length) = some 0 := ⟨rfl, by decide, by decide, by decide +kernel⟩
set_option maxRecDepth 100000 in
set_option maxHeartbeats 4000000 in
theorem c_X12_keep (l : Launch) (D : va_G) (dA : Nat → ClassId) (h0 h1 h2 h3 h4 h5 h6 h7 : Nat) (sz : Nat) (ms : Nat → Int32) (mb : Nat → Int32) (mv : Nat → Int32) (mi : Int32) (mp : Nat → Int32) (mn : Int32) (mt : Int32) (mo : Nat → Int32) (mO : Int32) (mI : Nat → Int32) (mL : Int32) (mA : Int32) (mW : Int32) (mE : Int32) (mF : Int32) (mc : Nat → Int32) (mM : Int32) (q_mb : Nat → Int32) (q_mt : Int32) (hf : f_X12_keep ms mb mt = some (q_mb, q_mt)) : Met l yX12_keep (wo (.code yX12_keep cX12_keep 1 none)) ({ frames := 1, cells := 0, slots := 0, locals := 90 } : Room) (preM D dA [.ref h0] sz [(h0, .inr (10, [.ref h1, .ref h2, .ref h3, .int mi, .ref h4, .int mn, .int mt, .ref h5, .int mO, .ref h6, .int mL, .int mA, .int mW, .int mE, .int mF, .ref h7, .int mM])), (h1, .inl (dA 0, 158, .inl ms)), (h2, .inl (dA 0, 158, .inl mb)), (h3, .inl (dA 0, 158, .inl mv)), (h4, .inl (dA 0, 1264, .inl mp)), (h5, .inl (dA 1, 180, .inl mo)), (h6, .inl (dA 1, 60, .inl mI)), (h7, .inl (dA 0, 240, .inl mc))]) (poMv D [(h0, .inr (10, [.ref h1, .ref h2, .ref h3, .int mi, .ref h4, .int mn, .int q_mt, .ref h5, .int mO, .ref h6, .int mL, .int mA, .int mW, .int mE, .int mF, .ref h7, .int mM])), (h1, .inl (dA 0, 158, .inl ms)), (h2, .inl (dA 0, 158, .inl q_mb)), (h3, .inl (dA 0, 158, .inl mv)), (h4, .inl (dA 0, 1264, .inl mp)), (h5, .inl (dA 1, 180, .inl mo)), (h6, .inl (dA 1, 60, .inl mI)), (h7, .inl (dA 0, 240, .inl mc))] (va_A [(h0, .inr (10, [.ref h1, .ref h2, .ref h3, .int mi, .ref h4, .int mn, .int mt, .ref h5, .int mO, .ref h6, .int mL, .int mA, .int mW, .int mE, .int mF, .ref h7, .int mM])), (h1, .inl (dA 0, 158, .inl ms)), (h2, .inl (dA 0, 158, .inl mb)), (h3, .inl (dA 0, 158, .inl mv)), (h4, .inl (dA 0, 1264, .inl mp)), (h5, .inl (dA 1, 180, .inl mo)), (h6, .inl (dA 1, 60, .inl mI)), (h7, .inl (dA 0, 240, .inl mc))] sz)) 0 0 (va_A [(h0, .inr (10, [.ref h1, .ref h2, .ref h3, .int mi, .ref h4, .int mn, .int mt, .ref h5, .int mO, .ref h6, .int mL, .int mA, .int mW, .int mE, .int mF, .ref h7, .int mM])), (h1, .inl (dA 0, 158, .inl ms)), (h2, .inl (dA 0, 158, .inl mb)), (h3, .inl (dA 0, 158, .inl mv)), (h4, .inl (dA 0, 1264, .inl mp)), (h5, .inl (dA 1, 180, .inl mo)), (h6, .inl (dA 1, 60, .inl mI)), (h7, .inl (dA 0, 240, .inl mc))] sz) := by
  refine of_M (y := yX12_keep) (av := [.ref h0]) (ws := [(h0, .inr (10, [.ref h1, .ref h2, .ref h3, .int mi, .ref h4, .int mn, .int mt, .ref h5, .int mO, .ref h6, .int mL, .int mA, .int mW, .int mE, .int mF, .ref h7, .int mM])), (h1, .inl (dA 0, 158, .inl ms)), (h2, .inl (dA 0, 158, .inl mb)), (h3, .inl (dA 0, 158, .inl mv)), (h4, .inl (dA 0, 1264, .inl mp)), (h5, .inl (dA 1, 180, .inl mo)), (h6, .inl (dA 1, 60, .inl mI)), (h7, .inl (dA 0, 240, .inl mc))]) (sz := sz) (own := RX12) (Qc := poMv D [(h0, .inr (10, [.ref h1, .ref h2, .ref h3, .int mi, .ref h4, .int mn, .int q_mt, .ref h5, .int mO, .ref h6, .int mL, .int mA, .int mW, .int mE, .int mF, .ref h7, .int mM])), (h1, .inl (dA 0, 158, .inl ms)), (h2, .inl (dA 0, 158, .inl q_mb)), (h3, .inl (dA 0, 158, .inl mv)), (h4, .inl (dA 0, 1264, .inl mp)), (h5, .inl (dA 1, 180, .inl mo)), (h6, .inl (dA 1, 60, .inl mI)), (h7, .inl (dA 0, 240, .inl mc))]) (by decide) rfl (Nat.le_of_ble_eq_true rfl) ?_
  intro p e s m below meth c A hx hb hr ha hown hml hlocks hin hP hK hD hS hA ls hl
  have hl : lv_has ls 1 [(0, .ref h0)] := hl
  rw [f_X12_keep] at hf
  refine lv_aload_n hx hb dX12_keep_0 rfl (lv_at hl 0 rfl) ?_
  refine lv_iconst (v := 0) hx hb dX12_keep_1 (by decide) ?_
  refine pt_f (C := RX12) (T := TX12) (N := 17) (ws' := [(h0, .inr (10, [.ref h1, .ref h2, .ref h3, .int mi, .ref h4, .int mn, .int (0 : Int32), .ref h5, .int mO, .ref h6, .int mL, .int mA, .int mW, .int mE, .int mF, .ref h7, .int mM])), (h1, .inl (dA 0, 158, .inl ms)), (h2, .inl (dA 0, 158, .inl mb)), (h3, .inl (dA 0, 158, .inl mv)), (h4, .inl (dA 0, 1264, .inl mp)), (h5, .inl (dA 1, 180, .inl mo)), (h6, .inl (dA 1, 60, .inl mI)), (h7, .inl (dA 0, 240, .inl mc))]) (ty := .int) hx hb ha in_X12 tyX12 tyX12_ok nmX12 hown hK hP hD hS 0 rfl rfl 6 (by decide) m_1655 rfl (tyX12_ok 6 (by decide)) rfl rfl (Nat.le_of_ble_eq_true rfl) rfl dX12_keep_2 (fun H locs hP hD hS => ?_)
  refine lv_aload_n hx hb dX12_keep_5 rfl (lv_at hl 0 rfl) ?_
  refine gt_f (C := RX12) (T := TX12) (N := 17) hx hb ha in_X12 hown hK hP 0 rfl rfl 0 (by decide) m_1649 rfl dX12_keep_6 ?_
  refine lv_iconst (v := 0) hx hb dX12_keep_9 (by decide) ?_
  refine lv_aload_n hx hb dX12_keep_10 rfl (lv_at hl 0 rfl) ?_
  refine gt_f (C := RX12) (T := TX12) (N := 17) hx hb ha in_X12 hown hK hP 0 rfl rfl 1 (by decide) m_1650 rfl dX12_keep_11 ?_
  refine lv_iconst (v := 0) hx hb dX12_keep_14 (by decide) ?_
  refine lv_sipush (v := 158) hx hb dX12_keep_15 (by decide) ?_
  refine cp_if (ws' := [(h0, .inr (10, [.ref h1, .ref h2, .ref h3, .int mi, .ref h4, .int mn, .int (0 : Int32), .ref h5, .int mO, .ref h6, .int mL, .int mA, .int mW, .int mE, .int mF, .ref h7, .int mM])), (h1, .inl (dA 0, 158, .inl ms)), (h2, .inl (dA 0, 158, .inl ms)), (h3, .inl (dA 0, 158, .inl mv)), (h4, .inl (dA 0, 1264, .inl mp)), (h5, .inl (dA 1, 180, .inl mo)), (h6, .inl (dA 1, 60, .inl mI)), (h7, .inl (dA 0, 240, .inl mc))]) hx hb ha hown hml hl.1 m_1713 m_542 m_541 m_86 hK hP hD hS 1 2 rfl rfl (by decide) rfl ⟨Nat.le_of_ble_eq_true rfl, Nat.le_of_ble_eq_true rfl⟩ dX12_keep_18 (fun H locs hP hD hS => ?_)
  cases hf
  exact rt_Mv hx hb hr hlocks (hP.sub [0, 1, 2, 3, 4, 5, 6, 7] rfl) (hD.sub [0, 1, 2, 3, 4, 5, 6, 7] (by decide) rfl) hS dX12_keep_21

def f_X12_ends (ms : Nat → Int32) (mb : Nat → Int32) (mp : Nat → Int32) (mn : Int32) (mt : Int32) (p0 : Int32) : Option (Int32 × (Nat → Int32) × (Nat → Int32) × Int32) :=
  sf_b (mt ≤ (0 : Int32)) (sf_b (mn = (8 : Int32)) (sf_n (va_cpy mp mp (158 : Int32).toNatClampNeg (0 : Int32).toNatClampNeg (1106 : Int32).toNatClampNeg) (fun a_3 => sf_n ((mn - (1 : Int32))) (fun x_4 => sf_g ((¬ (0 : Int32) < 0 ∧ ¬ ((158 : Int32) * x_4) < 0 ∧ ¬ (158 : Int32) < 0) ∧ (0 : Int32).toNatClampNeg + (158 : Int32).toNatClampNeg ≤ 158 ∧ ((158 : Int32) * x_4).toNatClampNeg + (158 : Int32).toNatClampNeg ≤ 1264) (sf_n (va_cpy mb a_3 (0 : Int32).toNatClampNeg ((158 : Int32) * x_4).toNatClampNeg (158 : Int32).toNatClampNeg) (fun a_5 => sf_n ((x_4 + (1 : Int32))) (fun x_6 => some (p0, ms, a_5, x_6))))))) (sf_g ((¬ (0 : Int32) < 0 ∧ ¬ ((158 : Int32) * mn) < 0 ∧ ¬ (158 : Int32) < 0) ∧ (0 : Int32).toNatClampNeg + (158 : Int32).toNatClampNeg ≤ 158 ∧ ((158 : Int32) * mn).toNatClampNeg + (158 : Int32).toNatClampNeg ≤ 1264) (sf_n (va_cpy mb mp (0 : Int32).toNatClampNeg ((158 : Int32) * mn).toNatClampNeg (158 : Int32).toNatClampNeg) (fun a_1 => sf_n ((mn + (1 : Int32))) (fun x_2 => some (p0, ms, a_1, x_2)))))) (some ((0 : Int32), mb, mp, mn))
theorem yd_X12_ends : yX12_ends.cls = RX12 ∧ yX12_ends.cls ≠ "java/lang/invoke/MethodHandle" ∧ yX12_ends.cls ≠ "java/lang/invoke/VarHandle" ∧ (parseMethodDescriptor yX12_ends.desc).map (fun d => d.parameters.length) = some 1 := ⟨rfl, by decide, by decide, by decide +kernel⟩
set_option maxRecDepth 100000 in
set_option maxHeartbeats 4000000 in
theorem c_X12_ends (l : Launch) (D : va_G) (dA : Nat → ClassId) (h0 h1 h2 h3 h4 h5 h6 h7 : Nat) (sz : Nat) (ms : Nat → Int32) (mb : Nat → Int32) (mv : Nat → Int32) (mi : Int32) (mp : Nat → Int32) (mn : Int32) (mt : Int32) (mo : Nat → Int32) (mO : Int32) (mI : Nat → Int32) (mL : Int32) (mA : Int32) (mW : Int32) (mE : Int32) (mF : Int32) (mc : Nat → Int32) (mM : Int32) (p0 : Int32) (rr : Int32) (q_ms : Nat → Int32) (q_mp : Nat → Int32) (q_mn : Int32) (hf : f_X12_ends ms mb mp mn mt p0 = some (rr, q_ms, q_mp, q_mn)) : Met l yX12_ends (wo (.code yX12_ends cX12_ends 2 (some .int))) ({ frames := 1, cells := 0, slots := 0, locals := 90 } : Room) (preM D dA [.ref h0, .int p0] sz [(h0, .inr (10, [.ref h1, .ref h2, .ref h3, .int mi, .ref h4, .int mn, .int mt, .ref h5, .int mO, .ref h6, .int mL, .int mA, .int mW, .int mE, .int mF, .ref h7, .int mM])), (h1, .inl (dA 0, 158, .inl ms)), (h2, .inl (dA 0, 158, .inl mb)), (h3, .inl (dA 0, 158, .inl mv)), (h4, .inl (dA 0, 1264, .inl mp)), (h5, .inl (dA 1, 180, .inl mo)), (h6, .inl (dA 1, 60, .inl mI)), (h7, .inl (dA 0, 240, .inl mc))]) (poMi D rr [(h0, .inr (10, [.ref h1, .ref h2, .ref h3, .int mi, .ref h4, .int q_mn, .int mt, .ref h5, .int mO, .ref h6, .int mL, .int mA, .int mW, .int mE, .int mF, .ref h7, .int mM])), (h1, .inl (dA 0, 158, .inl q_ms)), (h2, .inl (dA 0, 158, .inl mb)), (h3, .inl (dA 0, 158, .inl mv)), (h4, .inl (dA 0, 1264, .inl q_mp)), (h5, .inl (dA 1, 180, .inl mo)), (h6, .inl (dA 1, 60, .inl mI)), (h7, .inl (dA 0, 240, .inl mc))] (va_A [(h0, .inr (10, [.ref h1, .ref h2, .ref h3, .int mi, .ref h4, .int mn, .int mt, .ref h5, .int mO, .ref h6, .int mL, .int mA, .int mW, .int mE, .int mF, .ref h7, .int mM])), (h1, .inl (dA 0, 158, .inl ms)), (h2, .inl (dA 0, 158, .inl mb)), (h3, .inl (dA 0, 158, .inl mv)), (h4, .inl (dA 0, 1264, .inl mp)), (h5, .inl (dA 1, 180, .inl mo)), (h6, .inl (dA 1, 60, .inl mI)), (h7, .inl (dA 0, 240, .inl mc))] sz)) 0 0 (va_A [(h0, .inr (10, [.ref h1, .ref h2, .ref h3, .int mi, .ref h4, .int mn, .int mt, .ref h5, .int mO, .ref h6, .int mL, .int mA, .int mW, .int mE, .int mF, .ref h7, .int mM])), (h1, .inl (dA 0, 158, .inl ms)), (h2, .inl (dA 0, 158, .inl mb)), (h3, .inl (dA 0, 158, .inl mv)), (h4, .inl (dA 0, 1264, .inl mp)), (h5, .inl (dA 1, 180, .inl mo)), (h6, .inl (dA 1, 60, .inl mI)), (h7, .inl (dA 0, 240, .inl mc))] sz) := by
  refine of_M (y := yX12_ends) (av := [.ref h0, .int p0]) (ws := [(h0, .inr (10, [.ref h1, .ref h2, .ref h3, .int mi, .ref h4, .int mn, .int mt, .ref h5, .int mO, .ref h6, .int mL, .int mA, .int mW, .int mE, .int mF, .ref h7, .int mM])), (h1, .inl (dA 0, 158, .inl ms)), (h2, .inl (dA 0, 158, .inl mb)), (h3, .inl (dA 0, 158, .inl mv)), (h4, .inl (dA 0, 1264, .inl mp)), (h5, .inl (dA 1, 180, .inl mo)), (h6, .inl (dA 1, 60, .inl mI)), (h7, .inl (dA 0, 240, .inl mc))]) (sz := sz) (own := RX12) (Qc := poMi D rr [(h0, .inr (10, [.ref h1, .ref h2, .ref h3, .int mi, .ref h4, .int q_mn, .int mt, .ref h5, .int mO, .ref h6, .int mL, .int mA, .int mW, .int mE, .int mF, .ref h7, .int mM])), (h1, .inl (dA 0, 158, .inl q_ms)), (h2, .inl (dA 0, 158, .inl mb)), (h3, .inl (dA 0, 158, .inl mv)), (h4, .inl (dA 0, 1264, .inl q_mp)), (h5, .inl (dA 1, 180, .inl mo)), (h6, .inl (dA 1, 60, .inl mI)), (h7, .inl (dA 0, 240, .inl mc))]) (by decide) rfl (Nat.le_of_ble_eq_true rfl) ?_
  intro p e s m below meth c A hx hb hr ha hown hml hlocks hin hP hK hD hS hA ls hl
  have hl : lv_has ls 2 [(0, .ref h0), (1, .int p0)] := hl
  rw [f_X12_ends] at hf
  refine lv_aload_n hx hb dX12_ends_0 rfl (lv_at hl 0 rfl) ?_
  refine gt_f (C := RX12) (T := TX12) (N := 17) hx hb ha in_X12 hown hK hP 0 rfl rfl 6 (by decide) m_1655 rfl dX12_ends_1 ?_
  refine lv_if_le (tgt := 25) hx hb dX12_ends_4 (by decide) (fun hc => ?_) (fun hc => ?_)
  · have hf := sf_bp hf hc
    refine lv_aload_n hx hb dX12_ends_25 rfl (lv_at hl 0 rfl) ?_
    refine gt_f (C := RX12) (T := TX12) (N := 17) hx hb ha in_X12 hown hK hP 0 rfl rfl 5 (by decide) m_1654 rfl dX12_ends_26 ?_
    refine lv_bipush (v := 8) hx hb dX12_ends_29 (by decide) ?_
    refine lv_icmp_ne (tgt := 62) hx hb dX12_ends_31 (by decide) (fun hc => ?_) (fun hc => ?_)
    · have hf := sf_bn hf hc
      refine lv_aload_n hx hb dX12_ends_62 rfl (lv_at hl 0 rfl) ?_
      refine gt_f (C := RX12) (T := TX12) (N := 17) hx hb ha in_X12 hown hK hP 0 rfl rfl 1 (by decide) m_1650 rfl dX12_ends_63 ?_
      refine lv_iconst (v := 0) hx hb dX12_ends_66 (by decide) ?_
      refine lv_aload_n hx hb dX12_ends_67 rfl (lv_at hl 0 rfl) ?_
      refine gt_f (C := RX12) (T := TX12) (N := 17) hx hb ha in_X12 hown hK hP 0 rfl rfl 4 (by decide) m_1653 rfl dX12_ends_68 ?_
      refine lv_sipush (v := 158) hx hb dX12_ends_71 (by decide) ?_
      refine lv_aload_n hx hb dX12_ends_74 rfl (lv_at hl 0 rfl) ?_
      refine gt_f (C := RX12) (T := TX12) (N := 17) hx hb ha in_X12 hown hK hP 0 rfl rfl 5 (by decide) m_1654 rfl dX12_ends_75 ?_
      refine lv_imul hx hb dX12_ends_78 ?_
      refine lv_sipush (v := 158) hx hb dX12_ends_79 (by decide) ?_
      obtain ⟨hi, hf⟩ := sf_ge hf
      obtain ⟨a_1, ea_1, hf⟩ := sf_ne hf
      refine cp_i (ws' := [(h0, .inr (10, [.ref h1, .ref h2, .ref h3, .int mi, .ref h4, .int mn, .int mt, .ref h5, .int mO, .ref h6, .int mL, .int mA, .int mW, .int mE, .int mF, .ref h7, .int mM])), (h1, .inl (dA 0, 158, .inl ms)), (h2, .inl (dA 0, 158, .inl mb)), (h3, .inl (dA 0, 158, .inl mv)), (h4, .inl (dA 0, 1264, .inl a_1)), (h5, .inl (dA 1, 180, .inl mo)), (h6, .inl (dA 1, 60, .inl mI)), (h7, .inl (dA 0, 240, .inl mc))]) hx hb ha hown hml hl.1 m_1713 m_542 m_541 m_86 hK hP hD hS 2 4 rfl rfl hi ea_1 rfl ⟨Nat.le_of_ble_eq_true rfl, Nat.le_of_ble_eq_true rfl⟩ dX12_ends_82 (fun H locs hP hD hS => ?_)
      refine lv_aload_n hx hb dX12_ends_85 rfl (lv_at hl 0 rfl) ?_
      refine lv_dup hx hb dX12_ends_86 rfl ?_
      refine gt_f (C := RX12) (T := TX12) (N := 17) hx hb ha in_X12 hown hK hP 0 rfl rfl 5 (by decide) m_1654 rfl dX12_ends_87 ?_
      refine lv_iconst (v := 1) hx hb dX12_ends_90 (by decide) ?_
      refine lv_iadd hx hb dX12_ends_91 ?_
      obtain ⟨x_2, ex_2, hf⟩ := sf_ne hf
      refine tp_i ex_2 ?_
      refine pt_f (C := RX12) (T := TX12) (N := 17) (ws' := [(h0, .inr (10, [.ref h1, .ref h2, .ref h3, .int mi, .ref h4, .int x_2, .int mt, .ref h5, .int mO, .ref h6, .int mL, .int mA, .int mW, .int mE, .int mF, .ref h7, .int mM])), (h1, .inl (dA 0, 158, .inl ms)), (h2, .inl (dA 0, 158, .inl mb)), (h3, .inl (dA 0, 158, .inl mv)), (h4, .inl (dA 0, 1264, .inl a_1)), (h5, .inl (dA 1, 180, .inl mo)), (h6, .inl (dA 1, 60, .inl mI)), (h7, .inl (dA 0, 240, .inl mc))]) (ty := .int) hx hb ha in_X12 tyX12 tyX12_ok nmX12 hown hK hP hD hS 0 rfl rfl 5 (by decide) m_1654 rfl (tyX12_ok 5 (by decide)) rfl rfl (Nat.le_of_ble_eq_true rfl) rfl dX12_ends_92 (fun H locs hP hD hS => ?_)
      refine lv_iload_n hx hb dX12_ends_95 rfl (lv_at hl 1 rfl) ?_
      cases hf
      exact rt_Mi hx hb hr hlocks (hP.sub [0, 1, 2, 3, 4, 5, 6, 7] rfl) (hD.sub [0, 1, 2, 3, 4, 5, 6, 7] (by decide) rfl) hS dX12_ends_96
    · have hf := sf_bp hf hc
      refine lv_aload_n hx hb dX12_ends_34 rfl (lv_at hl 0 rfl) ?_
      refine gt_f (C := RX12) (T := TX12) (N := 17) hx hb ha in_X12 hown hK hP 0 rfl rfl 4 (by decide) m_1653 rfl dX12_ends_35 ?_
      refine lv_sipush (v := 158) hx hb dX12_ends_38 (by decide) ?_
      refine lv_aload_n hx hb dX12_ends_41 rfl (lv_at hl 0 rfl) ?_
      refine gt_f (C := RX12) (T := TX12) (N := 17) hx hb ha in_X12 hown hK hP 0 rfl rfl 4 (by decide) m_1653 rfl dX12_ends_42 ?_
      refine lv_iconst (v := 0) hx hb dX12_ends_45 (by decide) ?_
      refine lv_sipush (v := 1106) hx hb dX12_ends_46 (by decide) ?_
      obtain ⟨a_3, ea_3, hf⟩ := sf_ne hf
      refine cp_i (ws' := [(h0, .inr (10, [.ref h1, .ref h2, .ref h3, .int mi, .ref h4, .int mn, .int mt, .ref h5, .int mO, .ref h6, .int mL, .int mA, .int mW, .int mE, .int mF, .ref h7, .int mM])), (h1, .inl (dA 0, 158, .inl ms)), (h2, .inl (dA 0, 158, .inl mb)), (h3, .inl (dA 0, 158, .inl mv)), (h4, .inl (dA 0, 1264, .inl a_3)), (h5, .inl (dA 1, 180, .inl mo)), (h6, .inl (dA 1, 60, .inl mI)), (h7, .inl (dA 0, 240, .inl mc))]) hx hb ha hown hml hl.1 m_1713 m_542 m_541 m_86 hK hP hD hS 4 4 rfl rfl (by decide) ea_3 rfl ⟨Nat.le_of_ble_eq_true rfl, Nat.le_of_ble_eq_true rfl⟩ dX12_ends_49 (fun H locs hP hD hS => ?_)
      refine lv_aload_n hx hb dX12_ends_52 rfl (lv_at hl 0 rfl) ?_
      refine lv_dup hx hb dX12_ends_53 rfl ?_
      refine gt_f (C := RX12) (T := TX12) (N := 17) hx hb ha in_X12 hown hK hP 0 rfl rfl 5 (by decide) m_1654 rfl dX12_ends_54 ?_
      refine lv_iconst (v := 1) hx hb dX12_ends_57 (by decide) ?_
      refine lv_isub hx hb dX12_ends_58 ?_
      obtain ⟨x_4, ex_4, hf⟩ := sf_ne hf
      refine tp_i ex_4 ?_
      refine pt_f (C := RX12) (T := TX12) (N := 17) (ws' := [(h0, .inr (10, [.ref h1, .ref h2, .ref h3, .int mi, .ref h4, .int x_4, .int mt, .ref h5, .int mO, .ref h6, .int mL, .int mA, .int mW, .int mE, .int mF, .ref h7, .int mM])), (h1, .inl (dA 0, 158, .inl ms)), (h2, .inl (dA 0, 158, .inl mb)), (h3, .inl (dA 0, 158, .inl mv)), (h4, .inl (dA 0, 1264, .inl a_3)), (h5, .inl (dA 1, 180, .inl mo)), (h6, .inl (dA 1, 60, .inl mI)), (h7, .inl (dA 0, 240, .inl mc))]) (ty := .int) hx hb ha in_X12 tyX12 tyX12_ok nmX12 hown hK hP hD hS 0 rfl rfl 5 (by decide) m_1654 rfl (tyX12_ok 5 (by decide)) rfl rfl (Nat.le_of_ble_eq_true rfl) rfl dX12_ends_59 (fun H locs hP hD hS => ?_)
      refine lv_aload_n hx hb dX12_ends_62 rfl (lv_at hl 0 rfl) ?_
      refine gt_f (C := RX12) (T := TX12) (N := 17) hx hb ha in_X12 hown hK hP 0 rfl rfl 1 (by decide) m_1650 rfl dX12_ends_63 ?_
      refine lv_iconst (v := 0) hx hb dX12_ends_66 (by decide) ?_
      refine lv_aload_n hx hb dX12_ends_67 rfl (lv_at hl 0 rfl) ?_
      refine gt_f (C := RX12) (T := TX12) (N := 17) hx hb ha in_X12 hown hK hP 0 rfl rfl 4 (by decide) m_1653 rfl dX12_ends_68 ?_
      refine lv_sipush (v := 158) hx hb dX12_ends_71 (by decide) ?_
      refine lv_aload_n hx hb dX12_ends_74 rfl (lv_at hl 0 rfl) ?_
      refine gt_f (C := RX12) (T := TX12) (N := 17) hx hb ha in_X12 hown hK hP 0 rfl rfl 5 (by decide) m_1654 rfl dX12_ends_75 ?_
      refine lv_imul hx hb dX12_ends_78 ?_
      refine lv_sipush (v := 158) hx hb dX12_ends_79 (by decide) ?_
      obtain ⟨hi, hf⟩ := sf_ge hf
      obtain ⟨a_5, ea_5, hf⟩ := sf_ne hf
      refine cp_i (ws' := [(h0, .inr (10, [.ref h1, .ref h2, .ref h3, .int mi, .ref h4, .int x_4, .int mt, .ref h5, .int mO, .ref h6, .int mL, .int mA, .int mW, .int mE, .int mF, .ref h7, .int mM])), (h1, .inl (dA 0, 158, .inl ms)), (h2, .inl (dA 0, 158, .inl mb)), (h3, .inl (dA 0, 158, .inl mv)), (h4, .inl (dA 0, 1264, .inl a_5)), (h5, .inl (dA 1, 180, .inl mo)), (h6, .inl (dA 1, 60, .inl mI)), (h7, .inl (dA 0, 240, .inl mc))]) hx hb ha hown hml hl.1 m_1713 m_542 m_541 m_86 hK hP hD hS 2 4 rfl rfl hi ea_5 rfl ⟨Nat.le_of_ble_eq_true rfl, Nat.le_of_ble_eq_true rfl⟩ dX12_ends_82 (fun H locs hP hD hS => ?_)
      refine lv_aload_n hx hb dX12_ends_85 rfl (lv_at hl 0 rfl) ?_
      refine lv_dup hx hb dX12_ends_86 rfl ?_
      refine gt_f (C := RX12) (T := TX12) (N := 17) hx hb ha in_X12 hown hK hP 0 rfl rfl 5 (by decide) m_1654 rfl dX12_ends_87 ?_
      refine lv_iconst (v := 1) hx hb dX12_ends_90 (by decide) ?_
      refine lv_iadd hx hb dX12_ends_91 ?_
      obtain ⟨x_6, ex_6, hf⟩ := sf_ne hf
      refine tp_i ex_6 ?_
      refine pt_f (C := RX12) (T := TX12) (N := 17) (ws' := [(h0, .inr (10, [.ref h1, .ref h2, .ref h3, .int mi, .ref h4, .int x_6, .int mt, .ref h5, .int mO, .ref h6, .int mL, .int mA, .int mW, .int mE, .int mF, .ref h7, .int mM])), (h1, .inl (dA 0, 158, .inl ms)), (h2, .inl (dA 0, 158, .inl mb)), (h3, .inl (dA 0, 158, .inl mv)), (h4, .inl (dA 0, 1264, .inl a_5)), (h5, .inl (dA 1, 180, .inl mo)), (h6, .inl (dA 1, 60, .inl mI)), (h7, .inl (dA 0, 240, .inl mc))]) (ty := .int) hx hb ha in_X12 tyX12 tyX12_ok nmX12 hown hK hP hD hS 0 rfl rfl 5 (by decide) m_1654 rfl (tyX12_ok 5 (by decide)) rfl rfl (Nat.le_of_ble_eq_true rfl) rfl dX12_ends_92 (fun H locs hP hD hS => ?_)
      refine lv_iload_n hx hb dX12_ends_95 rfl (lv_at hl 1 rfl) ?_
      cases hf
      exact rt_Mi hx hb hr hlocks (hP.sub [0, 1, 2, 3, 4, 5, 6, 7] rfl) (hD.sub [0, 1, 2, 3, 4, 5, 6, 7] (by decide) rfl) hS dX12_ends_96
  · have hf := sf_bn hf hc
    refine lv_aload_n hx hb dX12_ends_7 rfl (lv_at hl 0 rfl) ?_
    refine gt_f (C := RX12) (T := TX12) (N := 17) hx hb ha in_X12 hown hK hP 0 rfl rfl 1 (by decide) m_1650 rfl dX12_ends_8 ?_
    refine lv_iconst (v := 0) hx hb dX12_ends_11 (by decide) ?_
    refine lv_aload_n hx hb dX12_ends_12 rfl (lv_at hl 0 rfl) ?_
    refine gt_f (C := RX12) (T := TX12) (N := 17) hx hb ha in_X12 hown hK hP 0 rfl rfl 0 (by decide) m_1649 rfl dX12_ends_13 ?_
    refine lv_iconst (v := 0) hx hb dX12_ends_16 (by decide) ?_
    refine lv_sipush (v := 158) hx hb dX12_ends_17 (by decide) ?_
    refine cp_if (ws' := [(h0, .inr (10, [.ref h1, .ref h2, .ref h3, .int mi, .ref h4, .int mn, .int mt, .ref h5, .int mO, .ref h6, .int mL, .int mA, .int mW, .int mE, .int mF, .ref h7, .int mM])), (h1, .inl (dA 0, 158, .inl mb)), (h2, .inl (dA 0, 158, .inl mb)), (h3, .inl (dA 0, 158, .inl mv)), (h4, .inl (dA 0, 1264, .inl mp)), (h5, .inl (dA 1, 180, .inl mo)), (h6, .inl (dA 1, 60, .inl mI)), (h7, .inl (dA 0, 240, .inl mc))]) hx hb ha hown hml hl.1 m_1713 m_542 m_541 m_86 hK hP hD hS 2 1 rfl rfl (by decide) rfl ⟨Nat.le_of_ble_eq_true rfl, Nat.le_of_ble_eq_true rfl⟩ dX12_ends_20 (fun H locs hP hD hS => ?_)
    refine lv_iconst (v := 0) hx hb dX12_ends_23 (by decide) ?_
    cases hf
    exact rt_Mi hx hb hr hlocks (hP.sub [0, 1, 2, 3, 4, 5, 6, 7] rfl) (hD.sub [0, 1, 2, 3, 4, 5, 6, 7] (by decide) rfl) hS dX12_ends_24

def f_X12_fails (mt : Int32) (p0 : Int32) : Option (Int32 × Int32) :=
  some ((0 : Int32), p0)
theorem yd_X12_fails : yX12_fails.cls = RX12 ∧ yX12_fails.cls ≠ "java/lang/invoke/MethodHandle" ∧ yX12_fails.cls ≠ "java/lang/invoke/VarHandle" ∧ (parseMethodDescriptor yX12_fails.desc).map (fun d => d.parameters.length) = some 1 := ⟨rfl, by decide, by decide, by decide +kernel⟩
set_option maxRecDepth 100000 in
set_option maxHeartbeats 4000000 in
theorem c_X12_fails (l : Launch) (D : va_G) (dA : Nat → ClassId) (h0 h1 h2 h3 h4 h5 h6 h7 : Nat) (sz : Nat) (ms : Nat → Int32) (mb : Nat → Int32) (mv : Nat → Int32) (mi : Int32) (mp : Nat → Int32) (mn : Int32) (mt : Int32) (mo : Nat → Int32) (mO : Int32) (mI : Nat → Int32) (mL : Int32) (mA : Int32) (mW : Int32) (mE : Int32) (mF : Int32) (mc : Nat → Int32) (mM : Int32) (p0 : Int32) (rr : Int32) (q_mt : Int32) (hf : f_X12_fails mt p0 = some (rr, q_mt)) : Met l yX12_fails (wo (.code yX12_fails cX12_fails 2 (some .int))) ({ frames := 0, cells := 0, slots := 0, locals := 0 } : Room) (preM D dA [.ref h0, .int p0] sz [(h0, .inr (10, [.ref h1, .ref h2, .ref h3, .int mi, .ref h4, .int mn, .int mt, .ref h5, .int mO, .ref h6, .int mL, .int mA, .int mW, .int mE, .int mF, .ref h7, .int mM])), (h1, .inl (dA 0, 158, .inl ms)), (h2, .inl (dA 0, 158, .inl mb)), (h3, .inl (dA 0, 158, .inl mv)), (h4, .inl (dA 0, 1264, .inl mp)), (h5, .inl (dA 1, 180, .inl mo)), (h6, .inl (dA 1, 60, .inl mI)), (h7, .inl (dA 0, 240, .inl mc))]) (poMi D rr [(h0, .inr (10, [.ref h1, .ref h2, .ref h3, .int mi, .ref h4, .int mn, .int q_mt, .ref h5, .int mO, .ref h6, .int mL, .int mA, .int mW, .int mE, .int mF, .ref h7, .int mM])), (h1, .inl (dA 0, 158, .inl ms)), (h2, .inl (dA 0, 158, .inl mb)), (h3, .inl (dA 0, 158, .inl mv)), (h4, .inl (dA 0, 1264, .inl mp)), (h5, .inl (dA 1, 180, .inl mo)), (h6, .inl (dA 1, 60, .inl mI)), (h7, .inl (dA 0, 240, .inl mc))] (va_A [(h0, .inr (10, [.ref h1, .ref h2, .ref h3, .int mi, .ref h4, .int mn, .int mt, .ref h5, .int mO, .ref h6, .int mL, .int mA, .int mW, .int mE, .int mF, .ref h7, .int mM])), (h1, .inl (dA 0, 158, .inl ms)), (h2, .inl (dA 0, 158, .inl mb)), (h3, .inl (dA 0, 158, .inl mv)), (h4, .inl (dA 0, 1264, .inl mp)), (h5, .inl (dA 1, 180, .inl mo)), (h6, .inl (dA 1, 60, .inl mI)), (h7, .inl (dA 0, 240, .inl mc))] sz)) 0 0 (va_A [(h0, .inr (10, [.ref h1, .ref h2, .ref h3, .int mi, .ref h4, .int mn, .int mt, .ref h5, .int mO, .ref h6, .int mL, .int mA, .int mW, .int mE, .int mF, .ref h7, .int mM])), (h1, .inl (dA 0, 158, .inl ms)), (h2, .inl (dA 0, 158, .inl mb)), (h3, .inl (dA 0, 158, .inl mv)), (h4, .inl (dA 0, 1264, .inl mp)), (h5, .inl (dA 1, 180, .inl mo)), (h6, .inl (dA 1, 60, .inl mI)), (h7, .inl (dA 0, 240, .inl mc))] sz) := by
  refine of_M (y := yX12_fails) (av := [.ref h0, .int p0]) (ws := [(h0, .inr (10, [.ref h1, .ref h2, .ref h3, .int mi, .ref h4, .int mn, .int mt, .ref h5, .int mO, .ref h6, .int mL, .int mA, .int mW, .int mE, .int mF, .ref h7, .int mM])), (h1, .inl (dA 0, 158, .inl ms)), (h2, .inl (dA 0, 158, .inl mb)), (h3, .inl (dA 0, 158, .inl mv)), (h4, .inl (dA 0, 1264, .inl mp)), (h5, .inl (dA 1, 180, .inl mo)), (h6, .inl (dA 1, 60, .inl mI)), (h7, .inl (dA 0, 240, .inl mc))]) (sz := sz) (own := RX12) (Qc := poMi D rr [(h0, .inr (10, [.ref h1, .ref h2, .ref h3, .int mi, .ref h4, .int mn, .int q_mt, .ref h5, .int mO, .ref h6, .int mL, .int mA, .int mW, .int mE, .int mF, .ref h7, .int mM])), (h1, .inl (dA 0, 158, .inl ms)), (h2, .inl (dA 0, 158, .inl mb)), (h3, .inl (dA 0, 158, .inl mv)), (h4, .inl (dA 0, 1264, .inl mp)), (h5, .inl (dA 1, 180, .inl mo)), (h6, .inl (dA 1, 60, .inl mI)), (h7, .inl (dA 0, 240, .inl mc))]) (by decide) rfl (Nat.le_of_ble_eq_true rfl) ?_
  intro p e s m below meth c A hx hb hr ha hown hml hlocks hin hP hK hD hS hA ls hl
  have hl : lv_has ls 2 [(0, .ref h0), (1, .int p0)] := hl
  rw [f_X12_fails] at hf
  refine lv_aload_n hx hb dX12_fails_0 rfl (lv_at hl 0 rfl) ?_
  refine lv_iload_n hx hb dX12_fails_1 rfl (lv_at hl 1 rfl) ?_
  refine pt_f (C := RX12) (T := TX12) (N := 17) (ws' := [(h0, .inr (10, [.ref h1, .ref h2, .ref h3, .int mi, .ref h4, .int mn, .int p0, .ref h5, .int mO, .ref h6, .int mL, .int mA, .int mW, .int mE, .int mF, .ref h7, .int mM])), (h1, .inl (dA 0, 158, .inl ms)), (h2, .inl (dA 0, 158, .inl mb)), (h3, .inl (dA 0, 158, .inl mv)), (h4, .inl (dA 0, 1264, .inl mp)), (h5, .inl (dA 1, 180, .inl mo)), (h6, .inl (dA 1, 60, .inl mI)), (h7, .inl (dA 0, 240, .inl mc))]) (ty := .int) hx hb ha in_X12 tyX12 tyX12_ok nmX12 hown hK hP hD hS 0 rfl rfl 6 (by decide) m_1655 rfl (tyX12_ok 6 (by decide)) rfl rfl (Nat.le_of_ble_eq_true rfl) rfl dX12_fails_2 (fun H locs hP hD hS => ?_)
  refine lv_iconst (v := 0) hx hb dX12_fails_5 (by decide) ?_
  cases hf
  exact rt_Mi hx hb hr hlocks (hP.sub [0, 1, 2, 3, 4, 5, 6, 7] rfl) (hD.sub [0, 1, 2, 3, 4, 5, 6, 7] (by decide) rfl) hS dX12_fails_6

def f_X12_isThere (mt : Int32) (p0 : Int32) : Option (Int32 × Int32) :=
  sf_b (p0 = (0 : Int32)) (sf_g (p0 = 0 ∨ p0 = 1) (some (p0, (1 : Int32)))) (sf_g (p0 = 0 ∨ p0 = 1) (some (p0, (0 : Int32))))
theorem yd_X12_isThere : yX12_isThere.cls = RX12 ∧ yX12_isThere.cls ≠ "java/lang/invoke/MethodHandle" ∧ yX12_isThere.cls ≠ "java/lang/invoke/VarHandle" ∧ (parseMethodDescriptor yX12_isThere.desc).map (fun d => d.parameters.length) = some 1 := ⟨rfl, by decide, by decide, by decide +kernel⟩
set_option maxRecDepth 100000 in
set_option maxHeartbeats 4000000 in
theorem c_X12_isThere (l : Launch) (D : va_G) (dA : Nat → ClassId) (h0 h1 h2 h3 h4 h5 h6 h7 : Nat) (sz : Nat) (ms : Nat → Int32) (mb : Nat → Int32) (mv : Nat → Int32) (mi : Int32) (mp : Nat → Int32) (mn : Int32) (mt : Int32) (mo : Nat → Int32) (mO : Int32) (mI : Nat → Int32) (mL : Int32) (mA : Int32) (mW : Int32) (mE : Int32) (mF : Int32) (mc : Nat → Int32) (mM : Int32) (p0 : Int32) (rr : Int32) (q_mt : Int32) (hf : f_X12_isThere mt p0 = some (rr, q_mt)) : Met l yX12_isThere (wo (.code yX12_isThere cX12_isThere 2 (some .boolean))) ({ frames := 0, cells := 0, slots := 0, locals := 0 } : Room) (preM D dA [.ref h0, .int p0] sz [(h0, .inr (10, [.ref h1, .ref h2, .ref h3, .int mi, .ref h4, .int mn, .int mt, .ref h5, .int mO, .ref h6, .int mL, .int mA, .int mW, .int mE, .int mF, .ref h7, .int mM])), (h1, .inl (dA 0, 158, .inl ms)), (h2, .inl (dA 0, 158, .inl mb)), (h3, .inl (dA 0, 158, .inl mv)), (h4, .inl (dA 0, 1264, .inl mp)), (h5, .inl (dA 1, 180, .inl mo)), (h6, .inl (dA 1, 60, .inl mI)), (h7, .inl (dA 0, 240, .inl mc))]) (poMi D rr [(h0, .inr (10, [.ref h1, .ref h2, .ref h3, .int mi, .ref h4, .int mn, .int q_mt, .ref h5, .int mO, .ref h6, .int mL, .int mA, .int mW, .int mE, .int mF, .ref h7, .int mM])), (h1, .inl (dA 0, 158, .inl ms)), (h2, .inl (dA 0, 158, .inl mb)), (h3, .inl (dA 0, 158, .inl mv)), (h4, .inl (dA 0, 1264, .inl mp)), (h5, .inl (dA 1, 180, .inl mo)), (h6, .inl (dA 1, 60, .inl mI)), (h7, .inl (dA 0, 240, .inl mc))] (va_A [(h0, .inr (10, [.ref h1, .ref h2, .ref h3, .int mi, .ref h4, .int mn, .int mt, .ref h5, .int mO, .ref h6, .int mL, .int mA, .int mW, .int mE, .int mF, .ref h7, .int mM])), (h1, .inl (dA 0, 158, .inl ms)), (h2, .inl (dA 0, 158, .inl mb)), (h3, .inl (dA 0, 158, .inl mv)), (h4, .inl (dA 0, 1264, .inl mp)), (h5, .inl (dA 1, 180, .inl mo)), (h6, .inl (dA 1, 60, .inl mI)), (h7, .inl (dA 0, 240, .inl mc))] sz)) 0 0 (va_A [(h0, .inr (10, [.ref h1, .ref h2, .ref h3, .int mi, .ref h4, .int mn, .int mt, .ref h5, .int mO, .ref h6, .int mL, .int mA, .int mW, .int mE, .int mF, .ref h7, .int mM])), (h1, .inl (dA 0, 158, .inl ms)), (h2, .inl (dA 0, 158, .inl mb)), (h3, .inl (dA 0, 158, .inl mv)), (h4, .inl (dA 0, 1264, .inl mp)), (h5, .inl (dA 1, 180, .inl mo)), (h6, .inl (dA 1, 60, .inl mI)), (h7, .inl (dA 0, 240, .inl mc))] sz) := by
  refine of_M (y := yX12_isThere) (av := [.ref h0, .int p0]) (ws := [(h0, .inr (10, [.ref h1, .ref h2, .ref h3, .int mi, .ref h4, .int mn, .int mt, .ref h5, .int mO, .ref h6, .int mL, .int mA, .int mW, .int mE, .int mF, .ref h7, .int mM])), (h1, .inl (dA 0, 158, .inl ms)), (h2, .inl (dA 0, 158, .inl mb)), (h3, .inl (dA 0, 158, .inl mv)), (h4, .inl (dA 0, 1264, .inl mp)), (h5, .inl (dA 1, 180, .inl mo)), (h6, .inl (dA 1, 60, .inl mI)), (h7, .inl (dA 0, 240, .inl mc))]) (sz := sz) (own := RX12) (Qc := poMi D rr [(h0, .inr (10, [.ref h1, .ref h2, .ref h3, .int mi, .ref h4, .int mn, .int q_mt, .ref h5, .int mO, .ref h6, .int mL, .int mA, .int mW, .int mE, .int mF, .ref h7, .int mM])), (h1, .inl (dA 0, 158, .inl ms)), (h2, .inl (dA 0, 158, .inl mb)), (h3, .inl (dA 0, 158, .inl mv)), (h4, .inl (dA 0, 1264, .inl mp)), (h5, .inl (dA 1, 180, .inl mo)), (h6, .inl (dA 1, 60, .inl mI)), (h7, .inl (dA 0, 240, .inl mc))]) (by decide) rfl (Nat.le_of_ble_eq_true rfl) ?_
  intro p e s m below meth c A hx hb hr ha hown hml hlocks hin hP hK hD hS hA ls hl
  have hl : lv_has ls 2 [(0, .ref h0), (1, .int p0)] := hl
  rw [f_X12_isThere] at hf
  refine lv_aload_n hx hb dX12_isThere_0 rfl (lv_at hl 0 rfl) ?_
  refine lv_iload_n hx hb dX12_isThere_1 rfl (lv_at hl 1 rfl) ?_
  refine lv_if_eq (tgt := 9) hx hb dX12_isThere_2 (by decide) (fun hc => ?_) (fun hc => ?_)
  · have hf := sf_bp hf hc
    refine lv_iconst (v := 1) hx hb dX12_isThere_9 (by decide) ?_
    refine pt_f (C := RX12) (T := TX12) (N := 17) (ws' := [(h0, .inr (10, [.ref h1, .ref h2, .ref h3, .int mi, .ref h4, .int mn, .int (1 : Int32), .ref h5, .int mO, .ref h6, .int mL, .int mA, .int mW, .int mE, .int mF, .ref h7, .int mM])), (h1, .inl (dA 0, 158, .inl ms)), (h2, .inl (dA 0, 158, .inl mb)), (h3, .inl (dA 0, 158, .inl mv)), (h4, .inl (dA 0, 1264, .inl mp)), (h5, .inl (dA 1, 180, .inl mo)), (h6, .inl (dA 1, 60, .inl mI)), (h7, .inl (dA 0, 240, .inl mc))]) (ty := .int) hx hb ha in_X12 tyX12 tyX12_ok nmX12 hown hK hP hD hS 0 rfl rfl 6 (by decide) m_1655 rfl (tyX12_ok 6 (by decide)) rfl rfl (Nat.le_of_ble_eq_true rfl) rfl dX12_isThere_10 (fun H locs hP hD hS => ?_)
    refine lv_iload_n hx hb dX12_isThere_13 rfl (lv_at hl 1 rfl) ?_
    obtain ⟨hz, hf⟩ := sf_ge hf
    cases hf
    exact rt_Mz hx hb hr hlocks (sf_z1 hz) (hP.sub [0, 1, 2, 3, 4, 5, 6, 7] rfl) (hD.sub [0, 1, 2, 3, 4, 5, 6, 7] (by decide) rfl) hS dX12_isThere_14
  · have hf := sf_bn hf hc
    refine lv_iconst (v := 0) hx hb dX12_isThere_5 (by decide) ?_
    refine lv_goto (tgt := 10) hx hb dX12_isThere_6 (by decide) ?_
    refine pt_f (C := RX12) (T := TX12) (N := 17) (ws' := [(h0, .inr (10, [.ref h1, .ref h2, .ref h3, .int mi, .ref h4, .int mn, .int (0 : Int32), .ref h5, .int mO, .ref h6, .int mL, .int mA, .int mW, .int mE, .int mF, .ref h7, .int mM])), (h1, .inl (dA 0, 158, .inl ms)), (h2, .inl (dA 0, 158, .inl mb)), (h3, .inl (dA 0, 158, .inl mv)), (h4, .inl (dA 0, 1264, .inl mp)), (h5, .inl (dA 1, 180, .inl mo)), (h6, .inl (dA 1, 60, .inl mI)), (h7, .inl (dA 0, 240, .inl mc))]) (ty := .int) hx hb ha in_X12 tyX12 tyX12_ok nmX12 hown hK hP hD hS 0 rfl rfl 6 (by decide) m_1655 rfl (tyX12_ok 6 (by decide)) rfl rfl (Nat.le_of_ble_eq_true rfl) rfl dX12_isThere_10 (fun H locs hP hD hS => ?_)
    refine lv_iload_n hx hb dX12_isThere_13 rfl (lv_at hl 1 rfl) ?_
    obtain ⟨hz, hf⟩ := sf_ge hf
    cases hf
    exact rt_Mz hx hb hr hlocks (sf_z1 hz) (hP.sub [0, 1, 2, 3, 4, 5, 6, 7] rfl) (hD.sub [0, 1, 2, 3, 4, 5, 6, 7] (by decide) rfl) hS dX12_isThere_14

def f_X12_isSlide (ms : Nat → Int32) (p0 : Int32) : Option Int32 :=
  sf_g (sf_in (0 : Int32) 158 = true) (sf_c1 (f_X12_in p0 (0 : Int32) ((ms (0 : Int32).toNatClampNeg) - (1 : Int32))) (fun r_1 => sf_g (r_1 = 0 ∨ r_1 = 1) (some r_1)))
theorem yd_X12_isSlide : yX12_isSlide.cls = RX12 ∧ yX12_isSlide.cls ≠ "java/lang/invoke/MethodHandle" ∧ yX12_isSlide.cls ≠ "java/lang/invoke/VarHandle" ∧ (parseMethodDescriptor yX12_isSlide.desc).map (fun d => d.parameters.length) = some 1 := ⟨rfl, by decide, by decide, by decide +kernel⟩
set_option maxRecDepth 100000 in
set_option maxHeartbeats 4000000 in
theorem c_X12_isSlide (l : Launch) (D : va_G) (dA : Nat → ClassId) (h0 h1 h2 h3 h4 h5 h6 h7 : Nat) (ms : Nat → Int32) (mb : Nat → Int32) (mv : Nat → Int32) (mi : Int32) (mp : Nat → Int32) (mn : Int32) (mt : Int32) (mo : Nat → Int32) (mO : Int32) (mI : Nat → Int32) (mL : Int32) (mA : Int32) (mW : Int32) (mE : Int32) (mF : Int32) (mc : Nat → Int32) (mM : Int32) (p0 : Int32) (rr : Int32) (hf : f_X12_isSlide ms p0 = some rr) : Met l yX12_isSlide (wo (.code yX12_isSlide cX12_isSlide 2 (some .boolean))) ({ frames := 1, cells := 0, slots := 0, locals := 22 } : Room) (preP D dA [.ref h0, .int p0] [(h0, .inr (10, [.ref h1, .ref h2, .ref h3, .int mi, .ref h4, .int mn, .int mt, .ref h5, .int mO, .ref h6, .int mL, .int mA, .int mW, .int mE, .int mF, .ref h7, .int mM])), (h1, .inl (dA 0, 158, .inl ms)), (h2, .inl (dA 0, 158, .inl mb)), (h3, .inl (dA 0, 158, .inl mv)), (h4, .inl (dA 0, 1264, .inl mp)), (h5, .inl (dA 1, 180, .inl mo)), (h6, .inl (dA 1, 60, .inl mI)), (h7, .inl (dA 0, 240, .inl mc))]) (poPi rr) 0 0 noA := by
  refine of_P (own := RX12) (by decide) rfl (Nat.le_of_ble_eq_true rfl) ?_
  intro p e s m below meth c hx hb hr ha hown hml hlocks hP hK hS ls hl
  have hl : lv_has ls 2 [(0, .ref h0), (1, .int p0)] := hl
  rw [f_X12_isSlide] at hf
  refine lv_iload_n hx hb dX12_isSlide_0 rfl (lv_at hl 1 rfl) ?_
  refine lv_iconst (v := 0) hx hb dX12_isSlide_1 (by decide) ?_
  refine lv_aload_n hx hb dX12_isSlide_2 rfl (lv_at hl 0 rfl) ?_
  refine gt_f (C := RX12) (T := TX12) (N := 17) hx hb ha in_X12 hown hK hP 0 rfl rfl 0 (by decide) m_1649 rfl dX12_isSlide_3 ?_
  refine lv_iconst (v := 0) hx hb dX12_isSlide_6 (by decide) ?_
  obtain ⟨hi, hf⟩ := sf_ge hf
  refine ia_ld hx hb hK hP 1 rfl hi dX12_isSlide_7 ?_
  refine lv_iconst (v := 1) hx hb dX12_isSlide_8 (by decide) ?_
  refine lv_isub hx hb dX12_isSlide_9 ?_
  obtain ⟨r_1, hc1, hf⟩ := sf_c1e hf
  refine k_Pi (run_PS (As := [.int p0, .int (0 : Int32), .int ((ms (0 : Int32).toNatClampNeg) - (1 : Int32))]) (rest := []) ⟨hx, hb, hml, hown, ha⟩ (c_X12_in l D dA    p0 (0 : Int32) ((ms (0 : Int32).toNatClampNeg) - (1 : Int32)) _ hc1) (gi_S m_1718 m_1719 m_85 m_1720) yd_X12_in ⟨Nat.le_of_ble_eq_true rfl, Nat.le_of_ble_eq_true rfl⟩ ⟨rfl, rfl⟩ hK hP [] rfl rfl hl.1 rfl (Nat.le_of_ble_eq_true rfl) dX12_isSlide_10 ⟨Nat.le_of_ble_eq_true rfl, Nat.le_of_ble_eq_true rfl⟩) hP hS (fun H locs hP hS => ?_)
  obtain ⟨hz, hf⟩ := sf_ge hf
  exact rt_Pz hx hb hr hlocks (Option.some.inj hf) (sf_z1 hz) hS dX12_isSlide_13

def f_X12_isGuest (ms : Nat → Int32) (p0 : Int32) : Option Int32 :=
  sf_g (sf_in (1 : Int32) 158 = true) (sf_c1 (f_X12_in p0 (0 : Int32) ((ms (1 : Int32).toNatClampNeg) - (1 : Int32))) (fun r_1 => sf_g (r_1 = 0 ∨ r_1 = 1) (some r_1)))
theorem yd_X12_isGuest : yX12_isGuest.cls = RX12 ∧ yX12_isGuest.cls ≠ "java/lang/invoke/MethodHandle" ∧ yX12_isGuest.cls ≠ "java/lang/invoke/VarHandle" ∧ (parseMethodDescriptor yX12_isGuest.desc).map (fun d => d.parameters.length) = some 1 := ⟨rfl, by decide, by decide, by decide +kernel⟩
set_option maxRecDepth 100000 in
set_option maxHeartbeats 4000000 in
theorem c_X12_isGuest (l : Launch) (D : va_G) (dA : Nat → ClassId) (h0 h1 h2 h3 h4 h5 h6 h7 : Nat) (ms : Nat → Int32) (mb : Nat → Int32) (mv : Nat → Int32) (mi : Int32) (mp : Nat → Int32) (mn : Int32) (mt : Int32) (mo : Nat → Int32) (mO : Int32) (mI : Nat → Int32) (mL : Int32) (mA : Int32) (mW : Int32) (mE : Int32) (mF : Int32) (mc : Nat → Int32) (mM : Int32) (p0 : Int32) (rr : Int32) (hf : f_X12_isGuest ms p0 = some rr) : Met l yX12_isGuest (wo (.code yX12_isGuest cX12_isGuest 2 (some .boolean))) ({ frames := 1, cells := 0, slots := 0, locals := 22 } : Room) (preP D dA [.ref h0, .int p0] [(h0, .inr (10, [.ref h1, .ref h2, .ref h3, .int mi, .ref h4, .int mn, .int mt, .ref h5, .int mO, .ref h6, .int mL, .int mA, .int mW, .int mE, .int mF, .ref h7, .int mM])), (h1, .inl (dA 0, 158, .inl ms)), (h2, .inl (dA 0, 158, .inl mb)), (h3, .inl (dA 0, 158, .inl mv)), (h4, .inl (dA 0, 1264, .inl mp)), (h5, .inl (dA 1, 180, .inl mo)), (h6, .inl (dA 1, 60, .inl mI)), (h7, .inl (dA 0, 240, .inl mc))]) (poPi rr) 0 0 noA := by
  refine of_P (own := RX12) (by decide) rfl (Nat.le_of_ble_eq_true rfl) ?_
  intro p e s m below meth c hx hb hr ha hown hml hlocks hP hK hS ls hl
  have hl : lv_has ls 2 [(0, .ref h0), (1, .int p0)] := hl
  rw [f_X12_isGuest] at hf
  refine lv_iload_n hx hb dX12_isGuest_0 rfl (lv_at hl 1 rfl) ?_
  refine lv_iconst (v := 0) hx hb dX12_isGuest_1 (by decide) ?_
  refine lv_aload_n hx hb dX12_isGuest_2 rfl (lv_at hl 0 rfl) ?_
  refine gt_f (C := RX12) (T := TX12) (N := 17) hx hb ha in_X12 hown hK hP 0 rfl rfl 0 (by decide) m_1649 rfl dX12_isGuest_3 ?_
  refine lv_iconst (v := 1) hx hb dX12_isGuest_6 (by decide) ?_
  obtain ⟨hi, hf⟩ := sf_ge hf
  refine ia_ld hx hb hK hP 1 rfl hi dX12_isGuest_7 ?_
  refine lv_iconst (v := 1) hx hb dX12_isGuest_8 (by decide) ?_
  refine lv_isub hx hb dX12_isGuest_9 ?_
  obtain ⟨r_1, hc1, hf⟩ := sf_c1e hf
  refine k_Pi (run_PS (As := [.int p0, .int (0 : Int32), .int ((ms (1 : Int32).toNatClampNeg) - (1 : Int32))]) (rest := []) ⟨hx, hb, hml, hown, ha⟩ (c_X12_in l D dA    p0 (0 : Int32) ((ms (1 : Int32).toNatClampNeg) - (1 : Int32)) _ hc1) (gi_S m_1718 m_1719 m_85 m_1720) yd_X12_in ⟨Nat.le_of_ble_eq_true rfl, Nat.le_of_ble_eq_true rfl⟩ ⟨rfl, rfl⟩ hK hP [] rfl rfl hl.1 rfl (Nat.le_of_ble_eq_true rfl) dX12_isGuest_10 ⟨Nat.le_of_ble_eq_true rfl, Nat.le_of_ble_eq_true rfl⟩) hP hS (fun H locs hP hS => ?_)
  obtain ⟨hz, hf⟩ := sf_ge hf
  exact rt_Pz hx hb hr hlocks (Option.some.inj hf) (sf_z1 hz) hS dX12_isGuest_13

def f_X12_isBooking (ms : Nat → Int32) (p0 : Int32) : Option Int32 :=
  sf_g (sf_in (2 : Int32) 158 = true) (sf_c1 (f_X12_in p0 (0 : Int32) ((ms (2 : Int32).toNatClampNeg) - (1 : Int32))) (fun r_1 => sf_g (r_1 = 0 ∨ r_1 = 1) (some r_1)))
theorem yd_X12_isBooking : yX12_isBooking.cls = RX12 ∧ yX12_isBooking.cls ≠ "java/lang/invoke/MethodHandle" ∧ yX12_isBooking.cls ≠ "java/lang/invoke/VarHandle" ∧ (parseMethodDescriptor yX12_isBooking.desc).map (fun d => d.parameters.length) = some 1 := ⟨rfl, by decide, by decide, by decide +kernel⟩
set_option maxRecDepth 100000 in
set_option maxHeartbeats 4000000 in
theorem c_X12_isBooking (l : Launch) (D : va_G) (dA : Nat → ClassId) (h0 h1 h2 h3 h4 h5 h6 h7 : Nat) (ms : Nat → Int32) (mb : Nat → Int32) (mv : Nat → Int32) (mi : Int32) (mp : Nat → Int32) (mn : Int32) (mt : Int32) (mo : Nat → Int32) (mO : Int32) (mI : Nat → Int32) (mL : Int32) (mA : Int32) (mW : Int32) (mE : Int32) (mF : Int32) (mc : Nat → Int32) (mM : Int32) (p0 : Int32) (rr : Int32) (hf : f_X12_isBooking ms p0 = some rr) : Met l yX12_isBooking (wo (.code yX12_isBooking cX12_isBooking 2 (some .boolean))) ({ frames := 1, cells := 0, slots := 0, locals := 22 } : Room) (preP D dA [.ref h0, .int p0] [(h0, .inr (10, [.ref h1, .ref h2, .ref h3, .int mi, .ref h4, .int mn, .int mt, .ref h5, .int mO, .ref h6, .int mL, .int mA, .int mW, .int mE, .int mF, .ref h7, .int mM])), (h1, .inl (dA 0, 158, .inl ms)), (h2, .inl (dA 0, 158, .inl mb)), (h3, .inl (dA 0, 158, .inl mv)), (h4, .inl (dA 0, 1264, .inl mp)), (h5, .inl (dA 1, 180, .inl mo)), (h6, .inl (dA 1, 60, .inl mI)), (h7, .inl (dA 0, 240, .inl mc))]) (poPi rr) 0 0 noA := by
  refine of_P (own := RX12) (by decide) rfl (Nat.le_of_ble_eq_true rfl) ?_
  intro p e s m below meth c hx hb hr ha hown hml hlocks hP hK hS ls hl
  have hl : lv_has ls 2 [(0, .ref h0), (1, .int p0)] := hl
  rw [f_X12_isBooking] at hf
  refine lv_iload_n hx hb dX12_isBooking_0 rfl (lv_at hl 1 rfl) ?_
  refine lv_iconst (v := 0) hx hb dX12_isBooking_1 (by decide) ?_
  refine lv_aload_n hx hb dX12_isBooking_2 rfl (lv_at hl 0 rfl) ?_
  refine gt_f (C := RX12) (T := TX12) (N := 17) hx hb ha in_X12 hown hK hP 0 rfl rfl 0 (by decide) m_1649 rfl dX12_isBooking_3 ?_
  refine lv_iconst (v := 2) hx hb dX12_isBooking_6 (by decide) ?_
  obtain ⟨hi, hf⟩ := sf_ge hf
  refine ia_ld hx hb hK hP 1 rfl hi dX12_isBooking_7 ?_
  refine lv_iconst (v := 1) hx hb dX12_isBooking_8 (by decide) ?_
  refine lv_isub hx hb dX12_isBooking_9 ?_
  obtain ⟨r_1, hc1, hf⟩ := sf_c1e hf
  refine k_Pi (run_PS (As := [.int p0, .int (0 : Int32), .int ((ms (2 : Int32).toNatClampNeg) - (1 : Int32))]) (rest := []) ⟨hx, hb, hml, hown, ha⟩ (c_X12_in l D dA    p0 (0 : Int32) ((ms (2 : Int32).toNatClampNeg) - (1 : Int32)) _ hc1) (gi_S m_1718 m_1719 m_85 m_1720) yd_X12_in ⟨Nat.le_of_ble_eq_true rfl, Nat.le_of_ble_eq_true rfl⟩ ⟨rfl, rfl⟩ hK hP [] rfl rfl hl.1 rfl (Nat.le_of_ble_eq_true rfl) dX12_isBooking_10 ⟨Nat.le_of_ble_eq_true rfl, Nat.le_of_ble_eq_true rfl⟩) hP hS (fun H locs hP hS => ?_)
  obtain ⟨hz, hf⟩ := sf_ge hf
  exact rt_Pz hx hb hr hlocks (Option.some.inj hf) (sf_z1 hz) hS dX12_isBooking_13

def f_X12_slide (ms : Nat → Int32) (p0 : Int32) (p1 : Int32) : Option Int32 :=
  sf_g (sf_in (((8 : Int32) + ((9 : Int32) * p0)) + p1) 158 = true) (some (ms (((8 : Int32) + ((9 : Int32) * p0)) + p1).toNatClampNeg))
theorem yd_X12_slide : yX12_slide.cls = RX12 ∧ yX12_slide.cls ≠ "java/lang/invoke/MethodHandle" ∧ yX12_slide.cls ≠ "java/lang/invoke/VarHandle" ∧ (parseMethodDescriptor yX12_slide.desc).map (fun d => d.parameters.length) = some 2 := ⟨rfl, by decide, by decide, by decide +kernel⟩
set_option maxRecDepth 100000 in
set_option maxHeartbeats 4000000 in
theorem c_X12_slide (l : Launch) (D : va_G) (dA : Nat → ClassId) (h0 h1 h2 h3 h4 h5 h6 h7 : Nat) (ms : Nat → Int32) (mb : Nat → Int32) (mv : Nat → Int32) (mi : Int32) (mp : Nat → Int32) (mn : Int32) (mt : Int32) (mo : Nat → Int32) (mO : Int32) (mI : Nat → Int32) (mL : Int32) (mA : Int32) (mW : Int32) (mE : Int32) (mF : Int32) (mc : Nat → Int32) (mM : Int32) (p0 : Int32) (p1 : Int32) (rr : Int32) (hf : f_X12_slide ms p0 p1 = some rr) : Met l yX12_slide (wo (.code yX12_slide cX12_slide 3 (some .int))) ({ frames := 0, cells := 0, slots := 0, locals := 0 } : Room) (preP D dA [.ref h0, .int p0, .int p1] [(h0, .inr (10, [.ref h1, .ref h2, .ref h3, .int mi, .ref h4, .int mn, .int mt, .ref h5, .int mO, .ref h6, .int mL, .int mA, .int mW, .int mE, .int mF, .ref h7, .int mM])), (h1, .inl (dA 0, 158, .inl ms)), (h2, .inl (dA 0, 158, .inl mb)), (h3, .inl (dA 0, 158, .inl mv)), (h4, .inl (dA 0, 1264, .inl mp)), (h5, .inl (dA 1, 180, .inl mo)), (h6, .inl (dA 1, 60, .inl mI)), (h7, .inl (dA 0, 240, .inl mc))]) (poPi rr) 0 0 noA := by
  refine of_P (own := RX12) (by decide) rfl (Nat.le_of_ble_eq_true rfl) ?_
  intro p e s m below meth c hx hb hr ha hown hml hlocks hP hK hS ls hl
  have hl : lv_has ls 3 [(0, .ref h0), (1, .int p0), (2, .int p1)] := hl
  rw [f_X12_slide] at hf
  refine lv_aload_n hx hb dX12_slide_0 rfl (lv_at hl 0 rfl) ?_
  refine gt_f (C := RX12) (T := TX12) (N := 17) hx hb ha in_X12 hown hK hP 0 rfl rfl 0 (by decide) m_1649 rfl dX12_slide_1 ?_
  refine lv_bipush (v := 8) hx hb dX12_slide_4 (by decide) ?_
  refine lv_bipush (v := 9) hx hb dX12_slide_6 (by decide) ?_
  refine lv_iload_n hx hb dX12_slide_8 rfl (lv_at hl 1 rfl) ?_
  refine lv_imul hx hb dX12_slide_9 ?_
  refine lv_iadd hx hb dX12_slide_10 ?_
  refine lv_iload_n hx hb dX12_slide_11 rfl (lv_at hl 2 rfl) ?_
  refine lv_iadd hx hb dX12_slide_12 ?_
  obtain ⟨hi, hf⟩ := sf_ge hf
  refine ia_ld hx hb hK hP 1 rfl hi dX12_slide_13 ?_
  exact rt_Pi hx hb hr hlocks (Option.some.inj hf) hS dX12_slide_14

def f_X12_wets (ms : Nat → Int32) (p0 : Int32) (p1 : Int32) : Option (Nat → Int32) :=
  sf_g (sf_in (((8 : Int32) + ((9 : Int32) * p0)) + (2 : Int32)) 158 = true) (sf_n (upd ms (((8 : Int32) + ((9 : Int32) * p0)) + (2 : Int32)).toNatClampNeg (if (0 : Int32) < (if p1 < (9 : Int32) then p1 else (9 : Int32)) then (if p1 < (9 : Int32) then p1 else (9 : Int32)) else (0 : Int32))) (fun a_1 => some a_1))
theorem yd_X12_wets : yX12_wets.cls = RX12 ∧ yX12_wets.cls ≠ "java/lang/invoke/MethodHandle" ∧ yX12_wets.cls ≠ "java/lang/invoke/VarHandle" ∧ (parseMethodDescriptor yX12_wets.desc).map (fun d => d.parameters.length) = some 2 := ⟨rfl, by decide, by decide, by decide +kernel⟩
set_option maxRecDepth 100000 in
set_option maxHeartbeats 4000000 in
theorem c_X12_wets (l : Launch) (D : va_G) (dA : Nat → ClassId) (h0 h1 h2 h3 h4 h5 h6 h7 : Nat) (sz : Nat) (ms : Nat → Int32) (mb : Nat → Int32) (mv : Nat → Int32) (mi : Int32) (mp : Nat → Int32) (mn : Int32) (mt : Int32) (mo : Nat → Int32) (mO : Int32) (mI : Nat → Int32) (mL : Int32) (mA : Int32) (mW : Int32) (mE : Int32) (mF : Int32) (mc : Nat → Int32) (mM : Int32) (p0 : Int32) (p1 : Int32) (q_ms : Nat → Int32) (hf : f_X12_wets ms p0 p1 = some q_ms) : Met l yX12_wets (wo (.code yX12_wets cX12_wets 3 none)) ({ frames := 1, cells := 0, slots := 0, locals := 80 } : Room) (preM D dA [.ref h0, .int p0, .int p1] sz [(h0, .inr (10, [.ref h1, .ref h2, .ref h3, .int mi, .ref h4, .int mn, .int mt, .ref h5, .int mO, .ref h6, .int mL, .int mA, .int mW, .int mE, .int mF, .ref h7, .int mM])), (h1, .inl (dA 0, 158, .inl ms)), (h2, .inl (dA 0, 158, .inl mb)), (h3, .inl (dA 0, 158, .inl mv)), (h4, .inl (dA 0, 1264, .inl mp)), (h5, .inl (dA 1, 180, .inl mo)), (h6, .inl (dA 1, 60, .inl mI)), (h7, .inl (dA 0, 240, .inl mc))]) (poMv D [(h0, .inr (10, [.ref h1, .ref h2, .ref h3, .int mi, .ref h4, .int mn, .int mt, .ref h5, .int mO, .ref h6, .int mL, .int mA, .int mW, .int mE, .int mF, .ref h7, .int mM])), (h1, .inl (dA 0, 158, .inl q_ms)), (h2, .inl (dA 0, 158, .inl mb)), (h3, .inl (dA 0, 158, .inl mv)), (h4, .inl (dA 0, 1264, .inl mp)), (h5, .inl (dA 1, 180, .inl mo)), (h6, .inl (dA 1, 60, .inl mI)), (h7, .inl (dA 0, 240, .inl mc))] (va_A [(h0, .inr (10, [.ref h1, .ref h2, .ref h3, .int mi, .ref h4, .int mn, .int mt, .ref h5, .int mO, .ref h6, .int mL, .int mA, .int mW, .int mE, .int mF, .ref h7, .int mM])), (h1, .inl (dA 0, 158, .inl ms)), (h2, .inl (dA 0, 158, .inl mb)), (h3, .inl (dA 0, 158, .inl mv)), (h4, .inl (dA 0, 1264, .inl mp)), (h5, .inl (dA 1, 180, .inl mo)), (h6, .inl (dA 1, 60, .inl mI)), (h7, .inl (dA 0, 240, .inl mc))] sz)) 0 0 (va_A [(h0, .inr (10, [.ref h1, .ref h2, .ref h3, .int mi, .ref h4, .int mn, .int mt, .ref h5, .int mO, .ref h6, .int mL, .int mA, .int mW, .int mE, .int mF, .ref h7, .int mM])), (h1, .inl (dA 0, 158, .inl ms)), (h2, .inl (dA 0, 158, .inl mb)), (h3, .inl (dA 0, 158, .inl mv)), (h4, .inl (dA 0, 1264, .inl mp)), (h5, .inl (dA 1, 180, .inl mo)), (h6, .inl (dA 1, 60, .inl mI)), (h7, .inl (dA 0, 240, .inl mc))] sz) := by
  refine of_M (y := yX12_wets) (av := [.ref h0, .int p0, .int p1]) (ws := [(h0, .inr (10, [.ref h1, .ref h2, .ref h3, .int mi, .ref h4, .int mn, .int mt, .ref h5, .int mO, .ref h6, .int mL, .int mA, .int mW, .int mE, .int mF, .ref h7, .int mM])), (h1, .inl (dA 0, 158, .inl ms)), (h2, .inl (dA 0, 158, .inl mb)), (h3, .inl (dA 0, 158, .inl mv)), (h4, .inl (dA 0, 1264, .inl mp)), (h5, .inl (dA 1, 180, .inl mo)), (h6, .inl (dA 1, 60, .inl mI)), (h7, .inl (dA 0, 240, .inl mc))]) (sz := sz) (own := RX12) (Qc := poMv D [(h0, .inr (10, [.ref h1, .ref h2, .ref h3, .int mi, .ref h4, .int mn, .int mt, .ref h5, .int mO, .ref h6, .int mL, .int mA, .int mW, .int mE, .int mF, .ref h7, .int mM])), (h1, .inl (dA 0, 158, .inl q_ms)), (h2, .inl (dA 0, 158, .inl mb)), (h3, .inl (dA 0, 158, .inl mv)), (h4, .inl (dA 0, 1264, .inl mp)), (h5, .inl (dA 1, 180, .inl mo)), (h6, .inl (dA 1, 60, .inl mI)), (h7, .inl (dA 0, 240, .inl mc))]) (by decide) rfl (Nat.le_of_ble_eq_true rfl) ?_
  intro p e s m below meth c A hx hb hr ha hown hml hlocks hin hP hK hD hS hA ls hl
  have hl : lv_has ls 3 [(0, .ref h0), (1, .int p0), (2, .int p1)] := hl
  rw [f_X12_wets] at hf
  refine lv_aload_n hx hb dX12_wets_0 rfl (lv_at hl 0 rfl) ?_
  refine gt_f (C := RX12) (T := TX12) (N := 17) hx hb ha in_X12 hown hK hP 0 rfl rfl 0 (by decide) m_1649 rfl dX12_wets_1 ?_
  refine lv_bipush (v := 8) hx hb dX12_wets_4 (by decide) ?_
  refine lv_bipush (v := 9) hx hb dX12_wets_6 (by decide) ?_
  refine lv_iload_n hx hb dX12_wets_8 rfl (lv_at hl 1 rfl) ?_
  refine lv_imul hx hb dX12_wets_9 ?_
  refine lv_iadd hx hb dX12_wets_10 ?_
  refine lv_iconst (v := 2) hx hb dX12_wets_11 (by decide) ?_
  refine lv_iadd hx hb dX12_wets_12 ?_
  refine lv_iconst (v := 0) hx hb dX12_wets_13 (by decide) ?_
  refine lv_bipush (v := 9) hx hb dX12_wets_14 (by decide) ?_
  refine lv_iload_n hx hb dX12_wets_16 rfl (lv_at hl 2 rfl) ?_
  refine mn_i hx hb ha hown hml hl.1 m_1849 m_472 m_95 m_473 ⟨Nat.le_of_ble_eq_true rfl, Nat.le_of_ble_eq_true rfl⟩ ⟨Nat.le_of_ble_eq_true rfl, Nat.le_of_ble_eq_true rfl⟩ dX12_wets_17 ?_
  refine mx_i hx hb ha hown hml hl.1 m_1850 m_443 m_95 m_444 ⟨Nat.le_of_ble_eq_true rfl, Nat.le_of_ble_eq_true rfl⟩ ⟨Nat.le_of_ble_eq_true rfl, Nat.le_of_ble_eq_true rfl⟩ dX12_wets_20 ?_
  obtain ⟨hi, hf⟩ := sf_ge hf
  obtain ⟨a_1, ea_1, hf⟩ := sf_ne hf
  refine ia_st (ws' := [(h0, .inr (10, [.ref h1, .ref h2, .ref h3, .int mi, .ref h4, .int mn, .int mt, .ref h5, .int mO, .ref h6, .int mL, .int mA, .int mW, .int mE, .int mF, .ref h7, .int mM])), (h1, .inl (dA 0, 158, .inl a_1)), (h2, .inl (dA 0, 158, .inl mb)), (h3, .inl (dA 0, 158, .inl mv)), (h4, .inl (dA 0, 1264, .inl mp)), (h5, .inl (dA 1, 180, .inl mo)), (h6, .inl (dA 1, 60, .inl mI)), (h7, .inl (dA 0, 240, .inl mc))]) hx hb hK hP hD hS 1 rfl hi ea_1 rfl dX12_wets_23 (fun H locs hP hD hS => ?_)
  cases hf
  exact rt_Mv hx hb hr hlocks (hP.sub [0, 1, 2, 3, 4, 5, 6, 7] rfl) (hD.sub [0, 1, 2, 3, 4, 5, 6, 7] (by decide) rfl) hS dX12_wets_24

def f_X12_guest (ms : Nat → Int32) (p0 : Int32) (p1 : Int32) : Option Int32 :=
  sf_g (sf_in (((44 : Int32) + ((3 : Int32) * p0)) + p1) 158 = true) (some (ms (((44 : Int32) + ((3 : Int32) * p0)) + p1).toNatClampNeg))
theorem yd_X12_guest : yX12_guest.cls = RX12 ∧ yX12_guest.cls ≠ "java/lang/invoke/MethodHandle" ∧ yX12_guest.cls ≠ "java/lang/invoke/VarHandle" ∧ (parseMethodDescriptor yX12_guest.desc).map (fun d => d.parameters.length) = some 2 := ⟨rfl, by decide, by decide, by decide +kernel⟩
set_option maxRecDepth 100000 in
set_option maxHeartbeats 4000000 in
theorem c_X12_guest (l : Launch) (D : va_G) (dA : Nat → ClassId) (h0 h1 h2 h3 h4 h5 h6 h7 : Nat) (ms : Nat → Int32) (mb : Nat → Int32) (mv : Nat → Int32) (mi : Int32) (mp : Nat → Int32) (mn : Int32) (mt : Int32) (mo : Nat → Int32) (mO : Int32) (mI : Nat → Int32) (mL : Int32) (mA : Int32) (mW : Int32) (mE : Int32) (mF : Int32) (mc : Nat → Int32) (mM : Int32) (p0 : Int32) (p1 : Int32) (rr : Int32) (hf : f_X12_guest ms p0 p1 = some rr) : Met l yX12_guest (wo (.code yX12_guest cX12_guest 3 (some .int))) ({ frames := 0, cells := 0, slots := 0, locals := 0 } : Room) (preP D dA [.ref h0, .int p0, .int p1] [(h0, .inr (10, [.ref h1, .ref h2, .ref h3, .int mi, .ref h4, .int mn, .int mt, .ref h5, .int mO, .ref h6, .int mL, .int mA, .int mW, .int mE, .int mF, .ref h7, .int mM])), (h1, .inl (dA 0, 158, .inl ms)), (h2, .inl (dA 0, 158, .inl mb)), (h3, .inl (dA 0, 158, .inl mv)), (h4, .inl (dA 0, 1264, .inl mp)), (h5, .inl (dA 1, 180, .inl mo)), (h6, .inl (dA 1, 60, .inl mI)), (h7, .inl (dA 0, 240, .inl mc))]) (poPi rr) 0 0 noA := by
  refine of_P (own := RX12) (by decide) rfl (Nat.le_of_ble_eq_true rfl) ?_
  intro p e s m below meth c hx hb hr ha hown hml hlocks hP hK hS ls hl
  have hl : lv_has ls 3 [(0, .ref h0), (1, .int p0), (2, .int p1)] := hl
  rw [f_X12_guest] at hf
  refine lv_aload_n hx hb dX12_guest_0 rfl (lv_at hl 0 rfl) ?_
  refine gt_f (C := RX12) (T := TX12) (N := 17) hx hb ha in_X12 hown hK hP 0 rfl rfl 0 (by decide) m_1649 rfl dX12_guest_1 ?_
  refine lv_bipush (v := 44) hx hb dX12_guest_4 (by decide) ?_
  refine lv_iconst (v := 3) hx hb dX12_guest_6 (by decide) ?_
  refine lv_iload_n hx hb dX12_guest_7 rfl (lv_at hl 1 rfl) ?_
  refine lv_imul hx hb dX12_guest_8 ?_
  refine lv_iadd hx hb dX12_guest_9 ?_
  refine lv_iload_n hx hb dX12_guest_10 rfl (lv_at hl 2 rfl) ?_
  refine lv_iadd hx hb dX12_guest_11 ?_
  obtain ⟨hi, hf⟩ := sf_ge hf
  refine ia_ld hx hb hK hP 1 rfl hi dX12_guest_12 ?_
  exact rt_Pi hx hb hr hlocks (Option.some.inj hf) hS dX12_guest_13

def f_X12_booking (ms : Nat → Int32) (p0 : Int32) (p1 : Int32) : Option Int32 :=
  sf_g (sf_in (((74 : Int32) + ((3 : Int32) * p0)) + p1) 158 = true) (some (ms (((74 : Int32) + ((3 : Int32) * p0)) + p1).toNatClampNeg))
theorem yd_X12_booking : yX12_booking.cls = RX12 ∧ yX12_booking.cls ≠ "java/lang/invoke/MethodHandle" ∧ yX12_booking.cls ≠ "java/lang/invoke/VarHandle" ∧ (parseMethodDescriptor yX12_booking.desc).map (fun d => d.parameters.length) = some 2 := ⟨rfl, by decide, by decide, by decide +kernel⟩
set_option maxRecDepth 100000 in
set_option maxHeartbeats 4000000 in
theorem c_X12_booking (l : Launch) (D : va_G) (dA : Nat → ClassId) (h0 h1 h2 h3 h4 h5 h6 h7 : Nat) (ms : Nat → Int32) (mb : Nat → Int32) (mv : Nat → Int32) (mi : Int32) (mp : Nat → Int32) (mn : Int32) (mt : Int32) (mo : Nat → Int32) (mO : Int32) (mI : Nat → Int32) (mL : Int32) (mA : Int32) (mW : Int32) (mE : Int32) (mF : Int32) (mc : Nat → Int32) (mM : Int32) (p0 : Int32) (p1 : Int32) (rr : Int32) (hf : f_X12_booking ms p0 p1 = some rr) : Met l yX12_booking (wo (.code yX12_booking cX12_booking 3 (some .int))) ({ frames := 0, cells := 0, slots := 0, locals := 0 } : Room) (preP D dA [.ref h0, .int p0, .int p1] [(h0, .inr (10, [.ref h1, .ref h2, .ref h3, .int mi, .ref h4, .int mn, .int mt, .ref h5, .int mO, .ref h6, .int mL, .int mA, .int mW, .int mE, .int mF, .ref h7, .int mM])), (h1, .inl (dA 0, 158, .inl ms)), (h2, .inl (dA 0, 158, .inl mb)), (h3, .inl (dA 0, 158, .inl mv)), (h4, .inl (dA 0, 1264, .inl mp)), (h5, .inl (dA 1, 180, .inl mo)), (h6, .inl (dA 1, 60, .inl mI)), (h7, .inl (dA 0, 240, .inl mc))]) (poPi rr) 0 0 noA := by
  refine of_P (own := RX12) (by decide) rfl (Nat.le_of_ble_eq_true rfl) ?_
  intro p e s m below meth c hx hb hr ha hown hml hlocks hP hK hS ls hl
  have hl : lv_has ls 3 [(0, .ref h0), (1, .int p0), (2, .int p1)] := hl
  rw [f_X12_booking] at hf
  refine lv_aload_n hx hb dX12_booking_0 rfl (lv_at hl 0 rfl) ?_
  refine gt_f (C := RX12) (T := TX12) (N := 17) hx hb ha in_X12 hown hK hP 0 rfl rfl 0 (by decide) m_1649 rfl dX12_booking_1 ?_
  refine lv_bipush (v := 74) hx hb dX12_booking_4 (by decide) ?_
  refine lv_iconst (v := 3) hx hb dX12_booking_6 (by decide) ?_
  refine lv_iload_n hx hb dX12_booking_7 rfl (lv_at hl 1 rfl) ?_
  refine lv_imul hx hb dX12_booking_8 ?_
  refine lv_iadd hx hb dX12_booking_9 ?_
  refine lv_iload_n hx hb dX12_booking_10 rfl (lv_at hl 2 rfl) ?_
  refine lv_iadd hx hb dX12_booking_11 ?_
  obtain ⟨hi, hf⟩ := sf_ge hf
  refine ia_ld hx hb hK hP 1 rfl hi dX12_booking_12 ?_
  exact rt_Pi hx hb hr hlocks (Option.some.inj hf) hS dX12_booking_13

def f_X12_startOf (ms : Nat → Int32) (p0 : Int32) : Option Int32 :=
  sf_c1 (f_X12_booking ms p0 (2 : Int32)) (fun r_1 => some r_1)
theorem yd_X12_startOf : yX12_startOf.cls = RX12 ∧ yX12_startOf.cls ≠ "java/lang/invoke/MethodHandle" ∧ yX12_startOf.cls ≠ "java/lang/invoke/VarHandle" ∧ (parseMethodDescriptor yX12_startOf.desc).map (fun d => d.parameters.length) = some 1 := ⟨rfl, by decide, by decide, by decide +kernel⟩
set_option maxRecDepth 100000 in
set_option maxHeartbeats 4000000 in
theorem c_X12_startOf (l : Launch) (D : va_G) (dA : Nat → ClassId) (h0 h1 h2 h3 h4 h5 h6 h7 : Nat) (ms : Nat → Int32) (mb : Nat → Int32) (mv : Nat → Int32) (mi : Int32) (mp : Nat → Int32) (mn : Int32) (mt : Int32) (mo : Nat → Int32) (mO : Int32) (mI : Nat → Int32) (mL : Int32) (mA : Int32) (mW : Int32) (mE : Int32) (mF : Int32) (mc : Nat → Int32) (mM : Int32) (p0 : Int32) (rr : Int32) (hf : f_X12_startOf ms p0 = some rr) : Met l yX12_startOf (wo (.code yX12_startOf cX12_startOf 2 (some .int))) ({ frames := 1, cells := 0, slots := 0, locals := 22 } : Room) (preP D dA [.ref h0, .int p0] [(h0, .inr (10, [.ref h1, .ref h2, .ref h3, .int mi, .ref h4, .int mn, .int mt, .ref h5, .int mO, .ref h6, .int mL, .int mA, .int mW, .int mE, .int mF, .ref h7, .int mM])), (h1, .inl (dA 0, 158, .inl ms)), (h2, .inl (dA 0, 158, .inl mb)), (h3, .inl (dA 0, 158, .inl mv)), (h4, .inl (dA 0, 1264, .inl mp)), (h5, .inl (dA 1, 180, .inl mo)), (h6, .inl (dA 1, 60, .inl mI)), (h7, .inl (dA 0, 240, .inl mc))]) (poPi rr) 0 0 noA := by
  refine of_P (own := RX12) (by decide) rfl (Nat.le_of_ble_eq_true rfl) ?_
  intro p e s m below meth c hx hb hr ha hown hml hlocks hP hK hS ls hl
  have hl : lv_has ls 2 [(0, .ref h0), (1, .int p0)] := hl
  rw [f_X12_startOf] at hf
  refine lv_aload_n hx hb dX12_startOf_0 rfl (lv_at hl 0 rfl) ?_
  refine lv_iload_n hx hb dX12_startOf_1 rfl (lv_at hl 1 rfl) ?_
  refine lv_iconst (v := 2) hx hb dX12_startOf_2 (by decide) ?_
  obtain ⟨r_1, hc1, hf⟩ := sf_c1e hf
  refine k_Pi (run_PV (As := [.int p0, .int (2 : Int32)]) (rest := []) ⟨hx, hb, hml, hown, ha⟩ (c_X12_booking l D dA h0 h1 h2 h3 h4 h5 h6 h7  ms mb mv mi mp mn mt mo mO mI mL mA mW mE mF mc mM p0 (2 : Int32) _ hc1) (gi_V m_1769 m_1771 m_42 m_85 m_1772) yd_X12_booking ⟨Nat.le_of_ble_eq_true rfl, Nat.le_of_ble_eq_true rfl⟩ ⟨rfl, rfl⟩ hK hP [0, 1, 2, 3, 4, 5, 6, 7] rfl 0 10 rfl rfl rfl rfl hl.1 rfl (Nat.le_of_ble_eq_true rfl) dX12_startOf_3 ⟨Nat.le_of_ble_eq_true rfl, Nat.le_of_ble_eq_true rfl⟩) hP hS (fun H locs hP hS => ?_)
  exact rt_Pi hx hb hr hlocks (Option.some.inj hf) hS dX12_startOf_6

def f_X12_endOf (ms : Nat → Int32) (p0 : Int32) : Option Int32 :=
  sf_c1 (f_X12_startOf ms p0) (fun r_1 => sf_c1 (f_X12_booking ms p0 (1 : Int32)) (fun r_2 => sf_c1 (f_X12_slide ms r_2 (0 : Int32)) (fun r_3 => some (r_1 + r_3))))
theorem yd_X12_endOf : yX12_endOf.cls = RX12 ∧ yX12_endOf.cls ≠ "java/lang/invoke/MethodHandle" ∧ yX12_endOf.cls ≠ "java/lang/invoke/VarHandle" ∧ (parseMethodDescriptor yX12_endOf.desc).map (fun d => d.parameters.length) = some 1 := ⟨rfl, by decide, by decide, by decide +kernel⟩
set_option maxRecDepth 100000 in
set_option maxHeartbeats 4000000 in
theorem c_X12_endOf (l : Launch) (D : va_G) (dA : Nat → ClassId) (h0 h1 h2 h3 h4 h5 h6 h7 : Nat) (ms : Nat → Int32) (mb : Nat → Int32) (mv : Nat → Int32) (mi : Int32) (mp : Nat → Int32) (mn : Int32) (mt : Int32) (mo : Nat → Int32) (mO : Int32) (mI : Nat → Int32) (mL : Int32) (mA : Int32) (mW : Int32) (mE : Int32) (mF : Int32) (mc : Nat → Int32) (mM : Int32) (p0 : Int32) (rr : Int32) (hf : f_X12_endOf ms p0 = some rr) : Met l yX12_endOf (wo (.code yX12_endOf cX12_endOf 2 (some .int))) ({ frames := 2, cells := 0, slots := 0, locals := 43 } : Room) (preP D dA [.ref h0, .int p0] [(h0, .inr (10, [.ref h1, .ref h2, .ref h3, .int mi, .ref h4, .int mn, .int mt, .ref h5, .int mO, .ref h6, .int mL, .int mA, .int mW, .int mE, .int mF, .ref h7, .int mM])), (h1, .inl (dA 0, 158, .inl ms)), (h2, .inl (dA 0, 158, .inl mb)), (h3, .inl (dA 0, 158, .inl mv)), (h4, .inl (dA 0, 1264, .inl mp)), (h5, .inl (dA 1, 180, .inl mo)), (h6, .inl (dA 1, 60, .inl mI)), (h7, .inl (dA 0, 240, .inl mc))]) (poPi rr) 0 0 noA := by
  refine of_P (own := RX12) (by decide) rfl (Nat.le_of_ble_eq_true rfl) ?_
  intro p e s m below meth c hx hb hr ha hown hml hlocks hP hK hS ls hl
  have hl : lv_has ls 2 [(0, .ref h0), (1, .int p0)] := hl
  rw [f_X12_endOf] at hf
  refine lv_aload_n hx hb dX12_endOf_0 rfl (lv_at hl 0 rfl) ?_
  refine lv_iload_n hx hb dX12_endOf_1 rfl (lv_at hl 1 rfl) ?_
  obtain ⟨r_1, hc1, hf⟩ := sf_c1e hf
  refine k_Pi (run_PV (As := [.int p0]) (rest := []) ⟨hx, hb, hml, hown, ha⟩ (c_X12_startOf l D dA h0 h1 h2 h3 h4 h5 h6 h7  ms mb mv mi mp mn mt mo mO mI mL mA mW mE mF mc mM p0 _ hc1) (gi_V m_1773 m_1775 m_43 m_85 m_1776) yd_X12_startOf ⟨Nat.le_of_ble_eq_true rfl, Nat.le_of_ble_eq_true rfl⟩ ⟨rfl, rfl⟩ hK hP [0, 1, 2, 3, 4, 5, 6, 7] rfl 0 10 rfl rfl rfl rfl hl.1 rfl (Nat.le_of_ble_eq_true rfl) dX12_endOf_2 ⟨Nat.le_of_ble_eq_true rfl, Nat.le_of_ble_eq_true rfl⟩) hP hS (fun H locs hP hS => ?_)
  refine lv_aload_n hx hb dX12_endOf_5 rfl (lv_at hl 0 rfl) ?_
  refine lv_aload_n hx hb dX12_endOf_6 rfl (lv_at hl 0 rfl) ?_
  refine lv_iload_n hx hb dX12_endOf_7 rfl (lv_at hl 1 rfl) ?_
  refine lv_iconst (v := 1) hx hb dX12_endOf_8 (by decide) ?_
  obtain ⟨r_2, hc2, hf⟩ := sf_c1e hf
  refine k_Pi (run_PV (As := [.int p0, .int (1 : Int32)]) (rest := [.ref h0, .int r_1]) ⟨hx, hb, hml, hown, ha⟩ (c_X12_booking l D dA h0 h1 h2 h3 h4 h5 h6 h7  ms mb mv mi mp mn mt mo mO mI mL mA mW mE mF mc mM p0 (1 : Int32) _ hc2) (gi_V m_1769 m_1771 m_42 m_85 m_1772) yd_X12_booking ⟨Nat.le_of_ble_eq_true rfl, Nat.le_of_ble_eq_true rfl⟩ ⟨rfl, rfl⟩ hK hP [0, 1, 2, 3, 4, 5, 6, 7] rfl 0 10 rfl rfl rfl rfl hl.1 rfl (Nat.le_of_ble_eq_true rfl) dX12_endOf_9 ⟨Nat.le_of_ble_eq_true rfl, Nat.le_of_ble_eq_true rfl⟩) hP hS (fun H locs hP hS => ?_)
  refine lv_iconst (v := 0) hx hb dX12_endOf_12 (by decide) ?_
  obtain ⟨r_3, hc3, hf⟩ := sf_c1e hf
  refine k_Pi (run_PV (As := [.int r_2, .int (0 : Int32)]) (rest := [.int r_1]) ⟨hx, hb, hml, hown, ha⟩ (c_X12_slide l D dA h0 h1 h2 h3 h4 h5 h6 h7  ms mb mv mi mp mn mt mo mO mI mL mA mW mE mF mc mM r_2 (0 : Int32) _ hc3) (gi_V m_1761 m_1763 m_40 m_85 m_1764) yd_X12_slide ⟨Nat.le_of_ble_eq_true rfl, Nat.le_of_ble_eq_true rfl⟩ ⟨rfl, rfl⟩ hK hP [0, 1, 2, 3, 4, 5, 6, 7] rfl 0 10 rfl rfl rfl rfl hl.1 rfl (Nat.le_of_ble_eq_true rfl) dX12_endOf_13 ⟨Nat.le_of_ble_eq_true rfl, Nat.le_of_ble_eq_true rfl⟩) hP hS (fun H locs hP hS => ?_)
  refine lv_iadd hx hb dX12_endOf_16 ?_
  exact rt_Pi hx hb hr hlocks (Option.some.inj hf) hS dX12_endOf_17

def f_X12_isStart (ms : Nat → Int32) (p0 : Int32) : Option Int32 :=
  sf_g (sf_in (3 : Int32) 158 = true) (sf_g (sf_in (3 : Int32) 158 = true) (sf_c1 (f_X12_in p0 (ms (3 : Int32).toNatClampNeg) ((ms (3 : Int32).toNatClampNeg) + (120 : Int32))) (fun r_1 => sf_g (r_1 = 0 ∨ r_1 = 1) (some r_1))))
theorem yd_X12_isStart : yX12_isStart.cls = RX12 ∧ yX12_isStart.cls ≠ "java/lang/invoke/MethodHandle" ∧ yX12_isStart.cls ≠ "java/lang/invoke/VarHandle" ∧ (parseMethodDescriptor yX12_isStart.desc).map (fun d => d.parameters.length) = some 1 := ⟨rfl, by decide, by decide, by decide +kernel⟩
set_option maxRecDepth 100000 in
set_option maxHeartbeats 4000000 in
theorem c_X12_isStart (l : Launch) (D : va_G) (dA : Nat → ClassId) (h0 h1 h2 h3 h4 h5 h6 h7 : Nat) (ms : Nat → Int32) (mb : Nat → Int32) (mv : Nat → Int32) (mi : Int32) (mp : Nat → Int32) (mn : Int32) (mt : Int32) (mo : Nat → Int32) (mO : Int32) (mI : Nat → Int32) (mL : Int32) (mA : Int32) (mW : Int32) (mE : Int32) (mF : Int32) (mc : Nat → Int32) (mM : Int32) (p0 : Int32) (rr : Int32) (hf : f_X12_isStart ms p0 = some rr) : Met l yX12_isStart (wo (.code yX12_isStart cX12_isStart 2 (some .boolean))) ({ frames := 1, cells := 0, slots := 0, locals := 22 } : Room) (preP D dA [.ref h0, .int p0] [(h0, .inr (10, [.ref h1, .ref h2, .ref h3, .int mi, .ref h4, .int mn, .int mt, .ref h5, .int mO, .ref h6, .int mL, .int mA, .int mW, .int mE, .int mF, .ref h7, .int mM])), (h1, .inl (dA 0, 158, .inl ms)), (h2, .inl (dA 0, 158, .inl mb)), (h3, .inl (dA 0, 158, .inl mv)), (h4, .inl (dA 0, 1264, .inl mp)), (h5, .inl (dA 1, 180, .inl mo)), (h6, .inl (dA 1, 60, .inl mI)), (h7, .inl (dA 0, 240, .inl mc))]) (poPi rr) 0 0 noA := by
  refine of_P (own := RX12) (by decide) rfl (Nat.le_of_ble_eq_true rfl) ?_
  intro p e s m below meth c hx hb hr ha hown hml hlocks hP hK hS ls hl
  have hl : lv_has ls 2 [(0, .ref h0), (1, .int p0)] := hl
  rw [f_X12_isStart] at hf
  refine lv_iload_n hx hb dX12_isStart_0 rfl (lv_at hl 1 rfl) ?_
  refine lv_aload_n hx hb dX12_isStart_1 rfl (lv_at hl 0 rfl) ?_
  refine gt_f (C := RX12) (T := TX12) (N := 17) hx hb ha in_X12 hown hK hP 0 rfl rfl 0 (by decide) m_1649 rfl dX12_isStart_2 ?_
  refine lv_iconst (v := 3) hx hb dX12_isStart_5 (by decide) ?_
  obtain ⟨hi, hf⟩ := sf_ge hf
  refine ia_ld hx hb hK hP 1 rfl hi dX12_isStart_6 ?_
  refine lv_aload_n hx hb dX12_isStart_7 rfl (lv_at hl 0 rfl) ?_
  refine gt_f (C := RX12) (T := TX12) (N := 17) hx hb ha in_X12 hown hK hP 0 rfl rfl 0 (by decide) m_1649 rfl dX12_isStart_8 ?_
  refine lv_iconst (v := 3) hx hb dX12_isStart_11 (by decide) ?_
  obtain ⟨hi, hf⟩ := sf_ge hf
  refine ia_ld hx hb hK hP 1 rfl hi dX12_isStart_12 ?_
  refine lv_bipush (v := 120) hx hb dX12_isStart_13 (by decide) ?_
  refine lv_iadd hx hb dX12_isStart_15 ?_
  obtain ⟨r_1, hc1, hf⟩ := sf_c1e hf
  refine k_Pi (run_PS (As := [.int p0, .int (ms (3 : Int32).toNatClampNeg), .int ((ms (3 : Int32).toNatClampNeg) + (120 : Int32))]) (rest := []) ⟨hx, hb, hml, hown, ha⟩ (c_X12_in l D dA    p0 (ms (3 : Int32).toNatClampNeg) ((ms (3 : Int32).toNatClampNeg) + (120 : Int32)) _ hc1) (gi_S m_1718 m_1719 m_85 m_1720) yd_X12_in ⟨Nat.le_of_ble_eq_true rfl, Nat.le_of_ble_eq_true rfl⟩ ⟨rfl, rfl⟩ hK hP [] rfl rfl hl.1 rfl (Nat.le_of_ble_eq_true rfl) dX12_isStart_16 ⟨Nat.le_of_ble_eq_true rfl, Nat.le_of_ble_eq_true rfl⟩) hP hS (fun H locs hP hS => ?_)
  obtain ⟨hz, hf⟩ := sf_ge hf
  exact rt_Pz hx hb hr hlocks (Option.some.inj hf) (sf_z1 hz) hS dX12_isStart_19

def f_X12_pays (ms : Nat → Int32) (p0 : Int32) (p1 : Int32) : Option (Nat → Int32) :=
  sf_g (sf_in ((44 : Int32) + ((3 : Int32) * p0)) 158 = true) (sf_g (sf_in ((44 : Int32) + ((3 : Int32) * p0)) 158 = true) (sf_n (upd ms ((44 : Int32) + ((3 : Int32) * p0)).toNatClampNeg ((ms ((44 : Int32) + ((3 : Int32) * p0)).toNatClampNeg) - p1)) (fun a_1 => sf_g (sf_in (7 : Int32) 158 = true) (sf_g (sf_in (7 : Int32) 158 = true) (sf_n (upd a_1 (7 : Int32).toNatClampNeg ((a_1 (7 : Int32).toNatClampNeg) + p1)) (fun a_2 => some a_2))))))
theorem yd_X12_pays : yX12_pays.cls = RX12 ∧ yX12_pays.cls ≠ "java/lang/invoke/MethodHandle" ∧ yX12_pays.cls ≠ "java/lang/invoke/VarHandle" ∧ (parseMethodDescriptor yX12_pays.desc).map (fun d => d.parameters.length) = some 2 := ⟨rfl, by decide, by decide, by decide +kernel⟩
set_option maxRecDepth 100000 in
set_option maxHeartbeats 4000000 in
theorem c_X12_pays (l : Launch) (D : va_G) (dA : Nat → ClassId) (h0 h1 h2 h3 h4 h5 h6 h7 : Nat) (sz : Nat) (ms : Nat → Int32) (mb : Nat → Int32) (mv : Nat → Int32) (mi : Int32) (mp : Nat → Int32) (mn : Int32) (mt : Int32) (mo : Nat → Int32) (mO : Int32) (mI : Nat → Int32) (mL : Int32) (mA : Int32) (mW : Int32) (mE : Int32) (mF : Int32) (mc : Nat → Int32) (mM : Int32) (p0 : Int32) (p1 : Int32) (q_ms : Nat → Int32) (hf : f_X12_pays ms p0 p1 = some q_ms) : Met l yX12_pays (wo (.code yX12_pays cX12_pays 3 none)) ({ frames := 0, cells := 0, slots := 0, locals := 0 } : Room) (preM D dA [.ref h0, .int p0, .int p1] sz [(h0, .inr (10, [.ref h1, .ref h2, .ref h3, .int mi, .ref h4, .int mn, .int mt, .ref h5, .int mO, .ref h6, .int mL, .int mA, .int mW, .int mE, .int mF, .ref h7, .int mM])), (h1, .inl (dA 0, 158, .inl ms)), (h2, .inl (dA 0, 158, .inl mb)), (h3, .inl (dA 0, 158, .inl mv)), (h4, .inl (dA 0, 1264, .inl mp)), (h5, .inl (dA 1, 180, .inl mo)), (h6, .inl (dA 1, 60, .inl mI)), (h7, .inl (dA 0, 240, .inl mc))]) (poMv D [(h0, .inr (10, [.ref h1, .ref h2, .ref h3, .int mi, .ref h4, .int mn, .int mt, .ref h5, .int mO, .ref h6, .int mL, .int mA, .int mW, .int mE, .int mF, .ref h7, .int mM])), (h1, .inl (dA 0, 158, .inl q_ms)), (h2, .inl (dA 0, 158, .inl mb)), (h3, .inl (dA 0, 158, .inl mv)), (h4, .inl (dA 0, 1264, .inl mp)), (h5, .inl (dA 1, 180, .inl mo)), (h6, .inl (dA 1, 60, .inl mI)), (h7, .inl (dA 0, 240, .inl mc))] (va_A [(h0, .inr (10, [.ref h1, .ref h2, .ref h3, .int mi, .ref h4, .int mn, .int mt, .ref h5, .int mO, .ref h6, .int mL, .int mA, .int mW, .int mE, .int mF, .ref h7, .int mM])), (h1, .inl (dA 0, 158, .inl ms)), (h2, .inl (dA 0, 158, .inl mb)), (h3, .inl (dA 0, 158, .inl mv)), (h4, .inl (dA 0, 1264, .inl mp)), (h5, .inl (dA 1, 180, .inl mo)), (h6, .inl (dA 1, 60, .inl mI)), (h7, .inl (dA 0, 240, .inl mc))] sz)) 0 0 (va_A [(h0, .inr (10, [.ref h1, .ref h2, .ref h3, .int mi, .ref h4, .int mn, .int mt, .ref h5, .int mO, .ref h6, .int mL, .int mA, .int mW, .int mE, .int mF, .ref h7, .int mM])), (h1, .inl (dA 0, 158, .inl ms)), (h2, .inl (dA 0, 158, .inl mb)), (h3, .inl (dA 0, 158, .inl mv)), (h4, .inl (dA 0, 1264, .inl mp)), (h5, .inl (dA 1, 180, .inl mo)), (h6, .inl (dA 1, 60, .inl mI)), (h7, .inl (dA 0, 240, .inl mc))] sz) := by
  refine of_M (y := yX12_pays) (av := [.ref h0, .int p0, .int p1]) (ws := [(h0, .inr (10, [.ref h1, .ref h2, .ref h3, .int mi, .ref h4, .int mn, .int mt, .ref h5, .int mO, .ref h6, .int mL, .int mA, .int mW, .int mE, .int mF, .ref h7, .int mM])), (h1, .inl (dA 0, 158, .inl ms)), (h2, .inl (dA 0, 158, .inl mb)), (h3, .inl (dA 0, 158, .inl mv)), (h4, .inl (dA 0, 1264, .inl mp)), (h5, .inl (dA 1, 180, .inl mo)), (h6, .inl (dA 1, 60, .inl mI)), (h7, .inl (dA 0, 240, .inl mc))]) (sz := sz) (own := RX12) (Qc := poMv D [(h0, .inr (10, [.ref h1, .ref h2, .ref h3, .int mi, .ref h4, .int mn, .int mt, .ref h5, .int mO, .ref h6, .int mL, .int mA, .int mW, .int mE, .int mF, .ref h7, .int mM])), (h1, .inl (dA 0, 158, .inl q_ms)), (h2, .inl (dA 0, 158, .inl mb)), (h3, .inl (dA 0, 158, .inl mv)), (h4, .inl (dA 0, 1264, .inl mp)), (h5, .inl (dA 1, 180, .inl mo)), (h6, .inl (dA 1, 60, .inl mI)), (h7, .inl (dA 0, 240, .inl mc))]) (by decide) rfl (Nat.le_of_ble_eq_true rfl) ?_
  intro p e s m below meth c A hx hb hr ha hown hml hlocks hin hP hK hD hS hA ls hl
  have hl : lv_has ls 3 [(0, .ref h0), (1, .int p0), (2, .int p1)] := hl
  rw [f_X12_pays] at hf
  refine lv_aload_n hx hb dX12_pays_0 rfl (lv_at hl 0 rfl) ?_
  refine gt_f (C := RX12) (T := TX12) (N := 17) hx hb ha in_X12 hown hK hP 0 rfl rfl 0 (by decide) m_1649 rfl dX12_pays_1 ?_
  refine lv_bipush (v := 44) hx hb dX12_pays_4 (by decide) ?_
  refine lv_iconst (v := 3) hx hb dX12_pays_6 (by decide) ?_
  refine lv_iload_n hx hb dX12_pays_7 rfl (lv_at hl 1 rfl) ?_
  refine lv_imul hx hb dX12_pays_8 ?_
  refine lv_iadd hx hb dX12_pays_9 ?_
  refine lv_dup2_11 hx hb dX12_pays_10 rfl rfl ?_
  obtain ⟨hi, hf⟩ := sf_ge hf
  refine ia_ld hx hb hK hP 1 rfl hi dX12_pays_11 ?_
  refine lv_iload_n hx hb dX12_pays_12 rfl (lv_at hl 2 rfl) ?_
  refine lv_isub hx hb dX12_pays_13 ?_
  obtain ⟨hi, hf⟩ := sf_ge hf
  obtain ⟨a_1, ea_1, hf⟩ := sf_ne hf
  refine ia_st (ws' := [(h0, .inr (10, [.ref h1, .ref h2, .ref h3, .int mi, .ref h4, .int mn, .int mt, .ref h5, .int mO, .ref h6, .int mL, .int mA, .int mW, .int mE, .int mF, .ref h7, .int mM])), (h1, .inl (dA 0, 158, .inl a_1)), (h2, .inl (dA 0, 158, .inl mb)), (h3, .inl (dA 0, 158, .inl mv)), (h4, .inl (dA 0, 1264, .inl mp)), (h5, .inl (dA 1, 180, .inl mo)), (h6, .inl (dA 1, 60, .inl mI)), (h7, .inl (dA 0, 240, .inl mc))]) hx hb hK hP hD hS 1 rfl hi ea_1 rfl dX12_pays_14 (fun H locs hP hD hS => ?_)
  refine lv_aload_n hx hb dX12_pays_15 rfl (lv_at hl 0 rfl) ?_
  refine gt_f (C := RX12) (T := TX12) (N := 17) hx hb ha in_X12 hown hK hP 0 rfl rfl 0 (by decide) m_1649 rfl dX12_pays_16 ?_
  refine lv_bipush (v := 7) hx hb dX12_pays_19 (by decide) ?_
  refine lv_dup2_11 hx hb dX12_pays_21 rfl rfl ?_
  obtain ⟨hi, hf⟩ := sf_ge hf
  refine ia_ld hx hb hK hP 1 rfl hi dX12_pays_22 ?_
  refine lv_iload_n hx hb dX12_pays_23 rfl (lv_at hl 2 rfl) ?_
  refine lv_iadd hx hb dX12_pays_24 ?_
  obtain ⟨hi, hf⟩ := sf_ge hf
  obtain ⟨a_2, ea_2, hf⟩ := sf_ne hf
  refine ia_st (ws' := [(h0, .inr (10, [.ref h1, .ref h2, .ref h3, .int mi, .ref h4, .int mn, .int mt, .ref h5, .int mO, .ref h6, .int mL, .int mA, .int mW, .int mE, .int mF, .ref h7, .int mM])), (h1, .inl (dA 0, 158, .inl a_2)), (h2, .inl (dA 0, 158, .inl mb)), (h3, .inl (dA 0, 158, .inl mv)), (h4, .inl (dA 0, 1264, .inl mp)), (h5, .inl (dA 1, 180, .inl mo)), (h6, .inl (dA 1, 60, .inl mI)), (h7, .inl (dA 0, 240, .inl mc))]) hx hb hK hP hD hS 1 rfl hi ea_2 rfl dX12_pays_25 (fun H locs hP hD hS => ?_)
  cases hf
  exact rt_Mv hx hb hr hlocks (hP.sub [0, 1, 2, 3, 4, 5, 6, 7] rfl) (hD.sub [0, 1, 2, 3, 4, 5, 6, 7] (by decide) rfl) hS dX12_pays_26

def f_X12_doBuildSlide_L47 (x_1 : Int32) (k : (Nat → Int32) → Option (Int32 × (Nat → Int32) × Int32)) : Nat → Int32 → (Nat → Int32) → Option (Int32 × (Nat → Int32) × Int32)
  | 0, _, _ => none
  | n + 1, v_6, w_7 => sf_b ((9 : Int32) ≤ v_6) (k w_7) (sf_g (sf_in (((8 : Int32) + ((9 : Int32) * x_1)) + v_6) 158 = true) (sf_n (upd w_7 (((8 : Int32) + ((9 : Int32) * x_1)) + v_6).toNatClampNeg (0 : Int32)) (fun a_8 => sf_n (v_6 + (1 : Int32)) (fun x_9 => f_X12_doBuildSlide_L47 x_1 k n x_9 a_8))))
def f_X12_doBuildSlide (ms : Nat → Int32) (mt : Int32) (p0 : Int32) (p1 : Int32) : Option (Int32 × (Nat → Int32) × Int32) :=
  sf_g (sf_in (0 : Int32) 158 = true) (sf_n ((ms (0 : Int32).toNatClampNeg)) (fun x_1 => sf_c1 (f_X12_in p0 (1 : Int32) (9 : Int32)) (fun r_2 => sf_b (r_2 = (0 : Int32)) (sf_c2 (f_X12_fails mt (1 : Int32)) (fun r_3 x_4 => some (r_3, ms, x_4))) (sf_c1 (f_X12_in p1 (1 : Int32) (9 : Int32)) (fun r_5 => sf_b (r_5 = (0 : Int32)) (sf_c2 (f_X12_fails mt (1 : Int32)) (fun r_16 x_17 => some (r_16, ms, x_17))) (sf_b (x_1 = (4 : Int32)) (sf_c2 (f_X12_fails mt (2 : Int32)) (fun r_14 x_15 => some (r_14, ms, x_15))) (f_X12_doBuildSlide_L47 x_1 (fun z_10 => sf_g (sf_in ((8 : Int32) + ((9 : Int32) * x_1)) 158 = true) (sf_n (upd z_10 ((8 : Int32) + ((9 : Int32) * x_1)).toNatClampNeg p0) (fun a_11 => sf_g (sf_in (((8 : Int32) + ((9 : Int32) * x_1)) + (1 : Int32)) 158 = true) (sf_n (upd a_11 (((8 : Int32) + ((9 : Int32) * x_1)) + (1 : Int32)).toNatClampNeg p1) (fun a_12 => sf_g (sf_in (0 : Int32) 158 = true) (sf_g (sf_in (0 : Int32) 158 = true) (sf_n (upd a_12 (0 : Int32).toNatClampNeg ((a_12 (0 : Int32).toNatClampNeg) + (1 : Int32))) (fun a_13 => some (x_1, a_13, mt))))))))) 2000 (0 : Int32) ms)))))))
theorem yd_X12_doBuildSlide : yX12_doBuildSlide.cls = RX12 ∧ yX12_doBuildSlide.cls ≠ "java/lang/invoke/MethodHandle" ∧ yX12_doBuildSlide.cls ≠ "java/lang/invoke/VarHandle" ∧ (parseMethodDescriptor yX12_doBuildSlide.desc).map (fun d => d.parameters.length) = some 2 := ⟨rfl, by decide, by decide, by decide +kernel⟩
set_option maxRecDepth 100000 in
set_option maxHeartbeats 4000000 in
theorem c_X12_doBuildSlide (l : Launch) (D : va_G) (dA : Nat → ClassId) (h0 h1 h2 h3 h4 h5 h6 h7 : Nat) (sz : Nat) (ms : Nat → Int32) (mb : Nat → Int32) (mv : Nat → Int32) (mi : Int32) (mp : Nat → Int32) (mn : Int32) (mt : Int32) (mo : Nat → Int32) (mO : Int32) (mI : Nat → Int32) (mL : Int32) (mA : Int32) (mW : Int32) (mE : Int32) (mF : Int32) (mc : Nat → Int32) (mM : Int32) (p0 : Int32) (p1 : Int32) (rr : Int32) (q_ms : Nat → Int32) (q_mt : Int32) (hf : f_X12_doBuildSlide ms mt p0 p1 = some (rr, q_ms, q_mt)) : Met l yX12_doBuildSlide (wo (.code yX12_doBuildSlide cX12_doBuildSlide 5 (some .int))) ({ frames := 1, cells := 0, slots := 0, locals := 22 } : Room) (preM D dA [.ref h0, .int p0, .int p1] sz [(h0, .inr (10, [.ref h1, .ref h2, .ref h3, .int mi, .ref h4, .int mn, .int mt, .ref h5, .int mO, .ref h6, .int mL, .int mA, .int mW, .int mE, .int mF, .ref h7, .int mM])), (h1, .inl (dA 0, 158, .inl ms)), (h2, .inl (dA 0, 158, .inl mb)), (h3, .inl (dA 0, 158, .inl mv)), (h4, .inl (dA 0, 1264, .inl mp)), (h5, .inl (dA 1, 180, .inl mo)), (h6, .inl (dA 1, 60, .inl mI)), (h7, .inl (dA 0, 240, .inl mc))]) (poMi D rr [(h0, .inr (10, [.ref h1, .ref h2, .ref h3, .int mi, .ref h4, .int mn, .int q_mt, .ref h5, .int mO, .ref h6, .int mL, .int mA, .int mW, .int mE, .int mF, .ref h7, .int mM])), (h1, .inl (dA 0, 158, .inl q_ms)), (h2, .inl (dA 0, 158, .inl mb)), (h3, .inl (dA 0, 158, .inl mv)), (h4, .inl (dA 0, 1264, .inl mp)), (h5, .inl (dA 1, 180, .inl mo)), (h6, .inl (dA 1, 60, .inl mI)), (h7, .inl (dA 0, 240, .inl mc))] (va_A [(h0, .inr (10, [.ref h1, .ref h2, .ref h3, .int mi, .ref h4, .int mn, .int mt, .ref h5, .int mO, .ref h6, .int mL, .int mA, .int mW, .int mE, .int mF, .ref h7, .int mM])), (h1, .inl (dA 0, 158, .inl ms)), (h2, .inl (dA 0, 158, .inl mb)), (h3, .inl (dA 0, 158, .inl mv)), (h4, .inl (dA 0, 1264, .inl mp)), (h5, .inl (dA 1, 180, .inl mo)), (h6, .inl (dA 1, 60, .inl mI)), (h7, .inl (dA 0, 240, .inl mc))] sz)) 0 0 (va_A [(h0, .inr (10, [.ref h1, .ref h2, .ref h3, .int mi, .ref h4, .int mn, .int mt, .ref h5, .int mO, .ref h6, .int mL, .int mA, .int mW, .int mE, .int mF, .ref h7, .int mM])), (h1, .inl (dA 0, 158, .inl ms)), (h2, .inl (dA 0, 158, .inl mb)), (h3, .inl (dA 0, 158, .inl mv)), (h4, .inl (dA 0, 1264, .inl mp)), (h5, .inl (dA 1, 180, .inl mo)), (h6, .inl (dA 1, 60, .inl mI)), (h7, .inl (dA 0, 240, .inl mc))] sz) := by
  refine of_M (y := yX12_doBuildSlide) (av := [.ref h0, .int p0, .int p1]) (ws := [(h0, .inr (10, [.ref h1, .ref h2, .ref h3, .int mi, .ref h4, .int mn, .int mt, .ref h5, .int mO, .ref h6, .int mL, .int mA, .int mW, .int mE, .int mF, .ref h7, .int mM])), (h1, .inl (dA 0, 158, .inl ms)), (h2, .inl (dA 0, 158, .inl mb)), (h3, .inl (dA 0, 158, .inl mv)), (h4, .inl (dA 0, 1264, .inl mp)), (h5, .inl (dA 1, 180, .inl mo)), (h6, .inl (dA 1, 60, .inl mI)), (h7, .inl (dA 0, 240, .inl mc))]) (sz := sz) (own := RX12) (Qc := poMi D rr [(h0, .inr (10, [.ref h1, .ref h2, .ref h3, .int mi, .ref h4, .int mn, .int q_mt, .ref h5, .int mO, .ref h6, .int mL, .int mA, .int mW, .int mE, .int mF, .ref h7, .int mM])), (h1, .inl (dA 0, 158, .inl q_ms)), (h2, .inl (dA 0, 158, .inl mb)), (h3, .inl (dA 0, 158, .inl mv)), (h4, .inl (dA 0, 1264, .inl mp)), (h5, .inl (dA 1, 180, .inl mo)), (h6, .inl (dA 1, 60, .inl mI)), (h7, .inl (dA 0, 240, .inl mc))]) (by decide) rfl (Nat.le_of_ble_eq_true rfl) ?_
  intro p e s m below meth c A hx hb hr ha hown hml hlocks hin hP hK hD hS hA ls hl
  have hl : lv_has ls 5 [(0, .ref h0), (1, .int p0), (2, .int p1)] := hl
  rw [f_X12_doBuildSlide] at hf
  refine lv_aload_n hx hb dX12_doBuildSlide_0 rfl (lv_at hl 0 rfl) ?_
  refine gt_f (C := RX12) (T := TX12) (N := 17) hx hb ha in_X12 hown hK hP 0 rfl rfl 0 (by decide) m_1649 rfl dX12_doBuildSlide_1 ?_
  refine lv_iconst (v := 0) hx hb dX12_doBuildSlide_4 (by decide) ?_
  obtain ⟨hi, hf⟩ := sf_ge hf
  refine ia_ld hx hb hK hP 1 rfl hi dX12_doBuildSlide_5 ?_
  obtain ⟨x_1, ex_1, hf⟩ := sf_ne hf
  refine tp_i ex_1 ?_
  refine lv_istore_n (lv' := [(3, .int x_1), (0, .ref h0), (1, .int p0), (2, .int p1)]) hx hb dX12_doBuildSlide_6 rfl hl (by decide) rfl (fun ls hl => ?_)
  refine lv_iload_n hx hb dX12_doBuildSlide_7 rfl (lv_at hl 2 rfl) ?_
  refine lv_iconst (v := 1) hx hb dX12_doBuildSlide_8 (by decide) ?_
  refine lv_bipush (v := 9) hx hb dX12_doBuildSlide_9 (by decide) ?_
  obtain ⟨r_2, hc2, hf⟩ := sf_c1e hf
  refine k_Pi (run_PS (As := [.int p0, .int (1 : Int32), .int (9 : Int32)]) (rest := []) ⟨hx, hb, hml, hown, ha⟩ (c_X12_in l D dA    p0 (1 : Int32) (9 : Int32) _ hc2) (gi_S m_1718 m_1719 m_85 m_1720) yd_X12_in ⟨Nat.le_of_ble_eq_true rfl, Nat.le_of_ble_eq_true rfl⟩ ⟨rfl, rfl⟩ hK hP [] rfl rfl hl.1 rfl (Nat.le_of_ble_eq_true rfl) dX12_doBuildSlide_11 ⟨Nat.le_of_ble_eq_true rfl, Nat.le_of_ble_eq_true rfl⟩) hP hS (fun H locs hP hS => ?_)
  refine lv_if_eq (tgt := 27) hx hb dX12_doBuildSlide_14 (by decide) (fun hc => ?_) (fun hc => ?_)
  · have hf := sf_bp hf hc
    refine lv_aload_n hx hb dX12_doBuildSlide_27 rfl (lv_at hl 1 rfl) ?_
    refine lv_iconst (v := 1) hx hb dX12_doBuildSlide_28 (by decide) ?_
    obtain ⟨r_3, x_4, hc4, hf⟩ := sf_c2e hf
    refine k_Mi (wr := []) (run_MV (As := [.int (1 : Int32)]) (rest := []) ⟨hx, hb, hml, hown, ha⟩ (c_X12_fails l D dA h0 h1 h2 h3 h4 h5 h6 h7 _ ms mb mv mi mp mn mt mo mO mI mL mA mW mE mF mc mM (1 : Int32) _ _ hc4) (gi_V m_1721 m_1723 m_32 m_85 m_1724) yd_X12_fails ⟨Nat.le_of_ble_eq_true rfl, Nat.le_of_ble_eq_true rfl⟩ ⟨rfl, rfl⟩ hK hP hD [0, 1, 2, 3, 4, 5, 6, 7] (by decide) rfl 0 10 rfl rfl rfl rfl hl.1 rfl (Nat.le_of_ble_eq_true rfl) dX12_doBuildSlide_29 ⟨Nat.le_of_ble_eq_true rfl, Nat.le_of_ble_eq_true rfl⟩) hP hD hS hA [0, 1, 2, 3, 4, 5, 6, 7] [] rfl rfl (by decide) (by decide) (fun H locs hP hD hS => ?_)
    cases hf
    exact rt_Mi hx hb hr hlocks (hP.sub [0, 1, 2, 3, 4, 5, 6, 7] rfl) (hD.sub [0, 1, 2, 3, 4, 5, 6, 7] (by decide) rfl) hS dX12_doBuildSlide_32
  · have hf := sf_bn hf hc
    refine lv_iload_n hx hb dX12_doBuildSlide_17 rfl (lv_at hl 3 rfl) ?_
    refine lv_iconst (v := 1) hx hb dX12_doBuildSlide_18 (by decide) ?_
    refine lv_bipush (v := 9) hx hb dX12_doBuildSlide_19 (by decide) ?_
    obtain ⟨r_5, hc5, hf⟩ := sf_c1e hf
    refine k_Pi (run_PS (As := [.int p1, .int (1 : Int32), .int (9 : Int32)]) (rest := []) ⟨hx, hb, hml, hown, ha⟩ (c_X12_in l D dA    p1 (1 : Int32) (9 : Int32) _ hc5) (gi_S m_1718 m_1719 m_85 m_1720) yd_X12_in ⟨Nat.le_of_ble_eq_true rfl, Nat.le_of_ble_eq_true rfl⟩ ⟨rfl, rfl⟩ hK hP [] rfl rfl hl.1 rfl (Nat.le_of_ble_eq_true rfl) dX12_doBuildSlide_21 ⟨Nat.le_of_ble_eq_true rfl, Nat.le_of_ble_eq_true rfl⟩) hP hS (fun H locs hP hS => ?_)
    refine lv_if_ne (tgt := 33) hx hb dX12_doBuildSlide_24 (by decide) (fun hc => ?_) (fun hc => ?_)
    · have hf := sf_bn hf hc
      refine lv_iload_n hx hb dX12_doBuildSlide_33 rfl (lv_at hl 0 rfl) ?_
      refine lv_iconst (v := 4) hx hb dX12_doBuildSlide_34 (by decide) ?_
      refine lv_icmp_ne (tgt := 44) hx hb dX12_doBuildSlide_35 (by decide) (fun hc => ?_) (fun hc => ?_)
      · have hf := sf_bn hf hc
        refine lv_iconst (v := 0) hx hb dX12_doBuildSlide_44 (by decide) ?_
        refine lv_istore (lv' := [(4, .int (0 : Int32)), (3, .int x_1), (0, .ref h0), (1, .int p0), (2, .int p1)]) hx hb dX12_doBuildSlide_45 hl (by decide) rfl (fun ls hl => ?_)
        have hL47 : ∀ (n : Nat) (k : (Nat → Int32) → Option (Int32 × (Nat → Int32) × Int32)) (v_6 : Int32) (w_7 : (Nat → Int32)) (H : Heap) (locs : List Loc) (ls : Array Slot), va_P D cls [(h0, .inr (10, [.ref h1, .ref h2, .ref h3, .int mi, .ref h4, .int mn, .int mt, .ref h5, .int mO, .ref h6, .int mL, .int mA, .int mW, .int mE, .int mF, .ref h7, .int mM])), (h1, .inl (dA 0, 158, .inl w_7)), (h2, .inl (dA 0, 158, .inl mb)), (h3, .inl (dA 0, 158, .inl mv)), (h4, .inl (dA 0, 1264, .inl mp)), (h5, .inl (dA 1, 180, .inl mo)), (h6, .inl (dA 1, 60, .inl mI)), (h7, .inl (dA 0, 240, .inl mc))] H → va_D A [(h0, .inr (10, [.ref h1, .ref h2, .ref h3, .int mi, .ref h4, .int mn, .int mt, .ref h5, .int mO, .ref h6, .int mL, .int mA, .int mW, .int mE, .int mF, .ref h7, .int mM])), (h1, .inl (dA 0, 158, .inl w_7)), (h2, .inl (dA 0, 158, .inl mb)), (h3, .inl (dA 0, 158, .inl mv)), (h4, .inl (dA 0, 1264, .inl mp)), (h5, .inl (dA 1, 180, .inl mo)), (h6, .inl (dA 1, 60, .inl mI)), (h7, .inl (dA 0, 240, .inl mc))] → va_S A s.heap H locs → lv_has ls 5 [(4, .int v_6), (3, .int x_1), (0, .ref h0), (1, .int p0), (2, .int p1)] → f_X12_doBuildSlide_L47 x_1 k n v_6 w_7 = some (rr, q_ms, q_mt) → (∀ (z_10 : (Nat → Int32)) (H : Heap) (locs : List Loc) (ls : Array Slot), va_P D cls [(h0, .inr (10, [.ref h1, .ref h2, .ref h3, .int mi, .ref h4, .int mn, .int mt, .ref h5, .int mO, .ref h6, .int mL, .int mA, .int mW, .int mE, .int mF, .ref h7, .int mM])), (h1, .inl (dA 0, 158, .inl z_10)), (h2, .inl (dA 0, 158, .inl mb)), (h3, .inl (dA 0, 158, .inl mv)), (h4, .inl (dA 0, 1264, .inl mp)), (h5, .inl (dA 1, 180, .inl mo)), (h6, .inl (dA 1, 60, .inl mI)), (h7, .inl (dA 0, 240, .inl mc))] H → va_D A [(h0, .inr (10, [.ref h1, .ref h2, .ref h3, .int mi, .ref h4, .int mn, .int mt, .ref h5, .int mO, .ref h6, .int mL, .int mA, .int mW, .int mE, .int mF, .ref h7, .int mM])), (h1, .inl (dA 0, 158, .inl z_10)), (h2, .inl (dA 0, 158, .inl mb)), (h3, .inl (dA 0, 158, .inl mv)), (h4, .inl (dA 0, 1264, .inl mp)), (h5, .inl (dA 1, 180, .inl mo)), (h6, .inl (dA 1, 60, .inl mI)), (h7, .inl (dA 0, 240, .inl mc))] → va_S A s.heap H locs → lv_has ls 5 [(3, .int x_1), (0, .ref h0), (1, .int p0), (2, .int p1)] → k z_10 = some (rr, q_ms, q_mt) → W p l e ({ frames := 1, cells := 0, slots := 0, locals := 22 } : Room) s m ([.ref h0, .int p0, .int p1] : List Value).toArray below meth c H locs 0 0 (MQ below (poMi D rr [(h0, .inr (10, [.ref h1, .ref h2, .ref h3, .int mi, .ref h4, .int mn, .int q_mt, .ref h5, .int mO, .ref h6, .int mL, .int mA, .int mW, .int mE, .int mF, .ref h7, .int mM])), (h1, .inl (dA 0, 158, .inl q_ms)), (h2, .inl (dA 0, 158, .inl mb)), (h3, .inl (dA 0, 158, .inl mv)), (h4, .inl (dA 0, 1264, .inl mp)), (h5, .inl (dA 1, 180, .inl mo)), (h6, .inl (dA 1, 60, .inl mI)), (h7, .inl (dA 0, 240, .inl mc))] A) ([.ref h0, .int p0, .int p1] : List Value).toArray s 0 0 A) (F0 m 76 ls [])) → W p l e ({ frames := 1, cells := 0, slots := 0, locals := 22 } : Room) s m ([.ref h0, .int p0, .int p1] : List Value).toArray below meth c H locs 0 0 (MQ below (poMi D rr [(h0, .inr (10, [.ref h1, .ref h2, .ref h3, .int mi, .ref h4, .int mn, .int q_mt, .ref h5, .int mO, .ref h6, .int mL, .int mA, .int mW, .int mE, .int mF, .ref h7, .int mM])), (h1, .inl (dA 0, 158, .inl q_ms)), (h2, .inl (dA 0, 158, .inl mb)), (h3, .inl (dA 0, 158, .inl mv)), (h4, .inl (dA 0, 1264, .inl mp)), (h5, .inl (dA 1, 180, .inl mo)), (h6, .inl (dA 1, 60, .inl mI)), (h7, .inl (dA 0, 240, .inl mc))] A) ([.ref h0, .int p0, .int p1] : List Value).toArray s 0 0 A) (F0 m 47 ls []) := by
          intro n k
          induction n with
          | zero =>
            intro v_6 w_7 H locs ls hP hD hS hl hf hk
            rw [f_X12_doBuildSlide_L47] at hf
            cases hf
          | succ n ih =>
            intro v_6 w_7 H locs ls hP hD hS hl hf hk
            rw [f_X12_doBuildSlide_L47] at hf
            refine lv_iload hx hb dX12_doBuildSlide_47 (lv_at hl 0 rfl) ?_
            refine lv_bipush (v := 9) hx hb dX12_doBuildSlide_49 (by decide) ?_
            refine lv_icmp_ge (tgt := 76) hx hb dX12_doBuildSlide_51 (by decide) (fun hc => ?_) (fun hc => ?_)
            · have hf := sf_bp hf hc
              exact hk _ _ _ _ (hP.sub [0, 1, 2, 3, 4, 5, 6, 7] rfl) (hD.sub [0, 1, 2, 3, 4, 5, 6, 7] (by decide) rfl) hS (lv_sub hl [1, 2, 3, 4] rfl) hf
            · have hf := sf_bn hf hc
              refine lv_aload_n hx hb dX12_doBuildSlide_54 rfl (lv_at hl 2 rfl) ?_
              refine gt_f (C := RX12) (T := TX12) (N := 17) hx hb ha in_X12 hown hK hP 0 rfl rfl 0 (by decide) m_1649 rfl dX12_doBuildSlide_55 ?_
              refine lv_bipush (v := 8) hx hb dX12_doBuildSlide_58 (by decide) ?_
              refine lv_bipush (v := 9) hx hb dX12_doBuildSlide_60 (by decide) ?_
              refine lv_iload_n hx hb dX12_doBuildSlide_62 rfl (lv_at hl 1 rfl) ?_
              refine lv_imul hx hb dX12_doBuildSlide_63 ?_
              refine lv_iadd hx hb dX12_doBuildSlide_64 ?_
              refine lv_iload hx hb dX12_doBuildSlide_65 (lv_at hl 0 rfl) ?_
              refine lv_iadd hx hb dX12_doBuildSlide_67 ?_
              refine lv_iconst (v := 0) hx hb dX12_doBuildSlide_68 (by decide) ?_
              obtain ⟨hi, hf⟩ := sf_ge hf
              obtain ⟨a_8, ea_8, hf⟩ := sf_ne hf
              refine ia_st (ws' := [(h0, .inr (10, [.ref h1, .ref h2, .ref h3, .int mi, .ref h4, .int mn, .int mt, .ref h5, .int mO, .ref h6, .int mL, .int mA, .int mW, .int mE, .int mF, .ref h7, .int mM])), (h1, .inl (dA 0, 158, .inl a_8)), (h2, .inl (dA 0, 158, .inl mb)), (h3, .inl (dA 0, 158, .inl mv)), (h4, .inl (dA 0, 1264, .inl mp)), (h5, .inl (dA 1, 180, .inl mo)), (h6, .inl (dA 1, 60, .inl mI)), (h7, .inl (dA 0, 240, .inl mc))]) hx hb hK hP hD hS 1 rfl hi ea_8 rfl dX12_doBuildSlide_69 (fun H locs hP hD hS => ?_)
              obtain ⟨x_9, ex_9, hf⟩ := sf_ne hf
              refine ii_nc (lv' := [(4, .int x_9), (3, .int x_1), (0, .ref h0), (1, .int p0), (2, .int p1)]) (k := 0) hx hb dX12_doBuildSlide_70 hl rfl ex_9 (by decide) (by decide) rfl (fun ls hl => ?_)
              refine lv_goto (tgt := 47) hx hb dX12_doBuildSlide_73 (by decide) ?_
              exact ih _ _ _ _ _ (hP.sub [0, 1, 2, 3, 4, 5, 6, 7] rfl) (hD.sub [0, 1, 2, 3, 4, 5, 6, 7] (by decide) rfl) hS (lv_sub hl [0, 1, 2, 3, 4] rfl) hf hk
        refine hL47 _ _ _ _ _ _ _ hP hD hS (lv_sub hl [0, 1, 2, 3, 4] rfl) hf (fun z_10 H locs ls hP hD hS hl hf => ?_)
        refine lv_aload_n hx hb dX12_doBuildSlide_76 rfl (lv_at hl 1 rfl) ?_
        refine gt_f (C := RX12) (T := TX12) (N := 17) hx hb ha in_X12 hown hK hP 0 rfl rfl 0 (by decide) m_1649 rfl dX12_doBuildSlide_77 ?_
        refine lv_bipush (v := 8) hx hb dX12_doBuildSlide_80 (by decide) ?_
        refine lv_bipush (v := 9) hx hb dX12_doBuildSlide_82 (by decide) ?_
        refine lv_iload_n hx hb dX12_doBuildSlide_84 rfl (lv_at hl 0 rfl) ?_
        refine lv_imul hx hb dX12_doBuildSlide_85 ?_
        refine lv_iadd hx hb dX12_doBuildSlide_86 ?_
        refine lv_iload_n hx hb dX12_doBuildSlide_87 rfl (lv_at hl 2 rfl) ?_
        obtain ⟨hi, hf⟩ := sf_ge hf
        obtain ⟨a_11, ea_11, hf⟩ := sf_ne hf
        refine ia_st (ws' := [(h0, .inr (10, [.ref h1, .ref h2, .ref h3, .int mi, .ref h4, .int mn, .int mt, .ref h5, .int mO, .ref h6, .int mL, .int mA, .int mW, .int mE, .int mF, .ref h7, .int mM])), (h1, .inl (dA 0, 158, .inl a_11)), (h2, .inl (dA 0, 158, .inl mb)), (h3, .inl (dA 0, 158, .inl mv)), (h4, .inl (dA 0, 1264, .inl mp)), (h5, .inl (dA 1, 180, .inl mo)), (h6, .inl (dA 1, 60, .inl mI)), (h7, .inl (dA 0, 240, .inl mc))]) hx hb hK hP hD hS 1 rfl hi ea_11 rfl dX12_doBuildSlide_88 (fun H locs hP hD hS => ?_)
        refine lv_aload_n hx hb dX12_doBuildSlide_89 rfl (lv_at hl 1 rfl) ?_
        refine gt_f (C := RX12) (T := TX12) (N := 17) hx hb ha in_X12 hown hK hP 0 rfl rfl 0 (by decide) m_1649 rfl dX12_doBuildSlide_90 ?_
        refine lv_bipush (v := 8) hx hb dX12_doBuildSlide_93 (by decide) ?_
        refine lv_bipush (v := 9) hx hb dX12_doBuildSlide_95 (by decide) ?_
        refine lv_iload_n hx hb dX12_doBuildSlide_97 rfl (lv_at hl 0 rfl) ?_
        refine lv_imul hx hb dX12_doBuildSlide_98 ?_
        refine lv_iadd hx hb dX12_doBuildSlide_99 ?_
        refine lv_iconst (v := 1) hx hb dX12_doBuildSlide_100 (by decide) ?_
        refine lv_iadd hx hb dX12_doBuildSlide_101 ?_
        refine lv_iload_n hx hb dX12_doBuildSlide_102 rfl (lv_at hl 3 rfl) ?_
        obtain ⟨hi, hf⟩ := sf_ge hf
        obtain ⟨a_12, ea_12, hf⟩ := sf_ne hf
        refine ia_st (ws' := [(h0, .inr (10, [.ref h1, .ref h2, .ref h3, .int mi, .ref h4, .int mn, .int mt, .ref h5, .int mO, .ref h6, .int mL, .int mA, .int mW, .int mE, .int mF, .ref h7, .int mM])), (h1, .inl (dA 0, 158, .inl a_12)), (h2, .inl (dA 0, 158, .inl mb)), (h3, .inl (dA 0, 158, .inl mv)), (h4, .inl (dA 0, 1264, .inl mp)), (h5, .inl (dA 1, 180, .inl mo)), (h6, .inl (dA 1, 60, .inl mI)), (h7, .inl (dA 0, 240, .inl mc))]) hx hb hK hP hD hS 1 rfl hi ea_12 rfl dX12_doBuildSlide_103 (fun H locs hP hD hS => ?_)
        refine lv_aload_n hx hb dX12_doBuildSlide_104 rfl (lv_at hl 1 rfl) ?_
        refine gt_f (C := RX12) (T := TX12) (N := 17) hx hb ha in_X12 hown hK hP 0 rfl rfl 0 (by decide) m_1649 rfl dX12_doBuildSlide_105 ?_
        refine lv_iconst (v := 0) hx hb dX12_doBuildSlide_108 (by decide) ?_
        refine lv_dup2_11 hx hb dX12_doBuildSlide_109 rfl rfl ?_
        obtain ⟨hi, hf⟩ := sf_ge hf
        refine ia_ld hx hb hK hP 1 rfl hi dX12_doBuildSlide_110 ?_
        refine lv_iconst (v := 1) hx hb dX12_doBuildSlide_111 (by decide) ?_
        refine lv_iadd hx hb dX12_doBuildSlide_112 ?_
        obtain ⟨hi, hf⟩ := sf_ge hf
        obtain ⟨a_13, ea_13, hf⟩ := sf_ne hf
        refine ia_st (ws' := [(h0, .inr (10, [.ref h1, .ref h2, .ref h3, .int mi, .ref h4, .int mn, .int mt, .ref h5, .int mO, .ref h6, .int mL, .int mA, .int mW, .int mE, .int mF, .ref h7, .int mM])), (h1, .inl (dA 0, 158, .inl a_13)), (h2, .inl (dA 0, 158, .inl mb)), (h3, .inl (dA 0, 158, .inl mv)), (h4, .inl (dA 0, 1264, .inl mp)), (h5, .inl (dA 1, 180, .inl mo)), (h6, .inl (dA 1, 60, .inl mI)), (h7, .inl (dA 0, 240, .inl mc))]) hx hb hK hP hD hS 1 rfl hi ea_13 rfl dX12_doBuildSlide_113 (fun H locs hP hD hS => ?_)
        refine lv_iload_n hx hb dX12_doBuildSlide_114 rfl (lv_at hl 0 rfl) ?_
        cases hf
        exact rt_Mi hx hb hr hlocks (hP.sub [0, 1, 2, 3, 4, 5, 6, 7] rfl) (hD.sub [0, 1, 2, 3, 4, 5, 6, 7] (by decide) rfl) hS dX12_doBuildSlide_115
      · have hf := sf_bp hf hc
        refine lv_aload_n hx hb dX12_doBuildSlide_38 rfl (lv_at hl 1 rfl) ?_
        refine lv_iconst (v := 2) hx hb dX12_doBuildSlide_39 (by decide) ?_
        obtain ⟨r_14, x_15, hc15, hf⟩ := sf_c2e hf
        refine k_Mi (wr := []) (run_MV (As := [.int (2 : Int32)]) (rest := []) ⟨hx, hb, hml, hown, ha⟩ (c_X12_fails l D dA h0 h1 h2 h3 h4 h5 h6 h7 _ ms mb mv mi mp mn mt mo mO mI mL mA mW mE mF mc mM (2 : Int32) _ _ hc15) (gi_V m_1721 m_1723 m_32 m_85 m_1724) yd_X12_fails ⟨Nat.le_of_ble_eq_true rfl, Nat.le_of_ble_eq_true rfl⟩ ⟨rfl, rfl⟩ hK hP hD [0, 1, 2, 3, 4, 5, 6, 7] (by decide) rfl 0 10 rfl rfl rfl rfl hl.1 rfl (Nat.le_of_ble_eq_true rfl) dX12_doBuildSlide_40 ⟨Nat.le_of_ble_eq_true rfl, Nat.le_of_ble_eq_true rfl⟩) hP hD hS hA [0, 1, 2, 3, 4, 5, 6, 7] [] rfl rfl (by decide) (by decide) (fun H locs hP hD hS => ?_)
        cases hf
        exact rt_Mi hx hb hr hlocks (hP.sub [0, 1, 2, 3, 4, 5, 6, 7] rfl) (hD.sub [0, 1, 2, 3, 4, 5, 6, 7] (by decide) rfl) hS dX12_doBuildSlide_43
    · have hf := sf_bp hf hc
      refine lv_aload_n hx hb dX12_doBuildSlide_27 rfl (lv_at hl 1 rfl) ?_
      refine lv_iconst (v := 1) hx hb dX12_doBuildSlide_28 (by decide) ?_
      obtain ⟨r_16, x_17, hc17, hf⟩ := sf_c2e hf
      refine k_Mi (wr := []) (run_MV (As := [.int (1 : Int32)]) (rest := []) ⟨hx, hb, hml, hown, ha⟩ (c_X12_fails l D dA h0 h1 h2 h3 h4 h5 h6 h7 _ ms mb mv mi mp mn mt mo mO mI mL mA mW mE mF mc mM (1 : Int32) _ _ hc17) (gi_V m_1721 m_1723 m_32 m_85 m_1724) yd_X12_fails ⟨Nat.le_of_ble_eq_true rfl, Nat.le_of_ble_eq_true rfl⟩ ⟨rfl, rfl⟩ hK hP hD [0, 1, 2, 3, 4, 5, 6, 7] (by decide) rfl 0 10 rfl rfl rfl rfl hl.1 rfl (Nat.le_of_ble_eq_true rfl) dX12_doBuildSlide_29 ⟨Nat.le_of_ble_eq_true rfl, Nat.le_of_ble_eq_true rfl⟩) hP hD hS hA [0, 1, 2, 3, 4, 5, 6, 7] [] rfl rfl (by decide) (by decide) (fun H locs hP hD hS => ?_)
      cases hf
      exact rt_Mi hx hb hr hlocks (hP.sub [0, 1, 2, 3, 4, 5, 6, 7] rfl) (hD.sub [0, 1, 2, 3, 4, 5, 6, 7] (by decide) rfl) hS dX12_doBuildSlide_32

def f_X12_buildSlide (ms : Nat → Int32) (mb : Nat → Int32) (mp : Nat → Int32) (mn : Int32) (mt : Int32) (p0 : Int32) (p1 : Int32) : Option (Int32 × (Nat → Int32) × (Nat → Int32) × (Nat → Int32) × Int32 × Int32) :=
  sf_c2 (f_X12_keep ms mb mt) (fun a_1 x_2 => sf_c3 (f_X12_doBuildSlide ms x_2 p0 p1) (fun r_3 a_4 x_5 => sf_c4 (f_X12_ends a_4 a_1 mp mn x_5 r_3) (fun r_6 a_7 a_8 x_9 => some (r_6, a_7, a_1, a_8, x_9, x_5))))
theorem yd_X12_buildSlide : yX12_buildSlide.cls = RX12 ∧ yX12_buildSlide.cls ≠ "java/lang/invoke/MethodHandle" ∧ yX12_buildSlide.cls ≠ "java/lang/invoke/VarHandle" ∧ (parseMethodDescriptor yX12_buildSlide.desc).map (fun d => d.parameters.length) = some 2 := ⟨rfl, by decide, by decide, by decide +kernel⟩
set_option maxRecDepth 100000 in
set_option maxHeartbeats 4000000 in
theorem c_X12_buildSlide (l : Launch) (D : va_G) (dA : Nat → ClassId) (h0 h1 h2 h3 h4 h5 h6 h7 : Nat) (sz : Nat) (ms : Nat → Int32) (mb : Nat → Int32) (mv : Nat → Int32) (mi : Int32) (mp : Nat → Int32) (mn : Int32) (mt : Int32) (mo : Nat → Int32) (mO : Int32) (mI : Nat → Int32) (mL : Int32) (mA : Int32) (mW : Int32) (mE : Int32) (mF : Int32) (mc : Nat → Int32) (mM : Int32) (p0 : Int32) (p1 : Int32) (rr : Int32) (q_ms : Nat → Int32) (q_mb : Nat → Int32) (q_mp : Nat → Int32) (q_mn : Int32) (q_mt : Int32) (hf : f_X12_buildSlide ms mb mp mn mt p0 p1 = some (rr, q_ms, q_mb, q_mp, q_mn, q_mt)) : Met l yX12_buildSlide (wo (.code yX12_buildSlide cX12_buildSlide 3 (some .int))) ({ frames := 2, cells := 0, slots := 0, locals := 111 } : Room) (preM D dA [.ref h0, .int p0, .int p1] sz [(h0, .inr (10, [.ref h1, .ref h2, .ref h3, .int mi, .ref h4, .int mn, .int mt, .ref h5, .int mO, .ref h6, .int mL, .int mA, .int mW, .int mE, .int mF, .ref h7, .int mM])), (h1, .inl (dA 0, 158, .inl ms)), (h2, .inl (dA 0, 158, .inl mb)), (h3, .inl (dA 0, 158, .inl mv)), (h4, .inl (dA 0, 1264, .inl mp)), (h5, .inl (dA 1, 180, .inl mo)), (h6, .inl (dA 1, 60, .inl mI)), (h7, .inl (dA 0, 240, .inl mc))]) (poMi D rr [(h0, .inr (10, [.ref h1, .ref h2, .ref h3, .int mi, .ref h4, .int q_mn, .int q_mt, .ref h5, .int mO, .ref h6, .int mL, .int mA, .int mW, .int mE, .int mF, .ref h7, .int mM])), (h1, .inl (dA 0, 158, .inl q_ms)), (h2, .inl (dA 0, 158, .inl q_mb)), (h3, .inl (dA 0, 158, .inl mv)), (h4, .inl (dA 0, 1264, .inl q_mp)), (h5, .inl (dA 1, 180, .inl mo)), (h6, .inl (dA 1, 60, .inl mI)), (h7, .inl (dA 0, 240, .inl mc))] (va_A [(h0, .inr (10, [.ref h1, .ref h2, .ref h3, .int mi, .ref h4, .int mn, .int mt, .ref h5, .int mO, .ref h6, .int mL, .int mA, .int mW, .int mE, .int mF, .ref h7, .int mM])), (h1, .inl (dA 0, 158, .inl ms)), (h2, .inl (dA 0, 158, .inl mb)), (h3, .inl (dA 0, 158, .inl mv)), (h4, .inl (dA 0, 1264, .inl mp)), (h5, .inl (dA 1, 180, .inl mo)), (h6, .inl (dA 1, 60, .inl mI)), (h7, .inl (dA 0, 240, .inl mc))] sz)) 0 0 (va_A [(h0, .inr (10, [.ref h1, .ref h2, .ref h3, .int mi, .ref h4, .int mn, .int mt, .ref h5, .int mO, .ref h6, .int mL, .int mA, .int mW, .int mE, .int mF, .ref h7, .int mM])), (h1, .inl (dA 0, 158, .inl ms)), (h2, .inl (dA 0, 158, .inl mb)), (h3, .inl (dA 0, 158, .inl mv)), (h4, .inl (dA 0, 1264, .inl mp)), (h5, .inl (dA 1, 180, .inl mo)), (h6, .inl (dA 1, 60, .inl mI)), (h7, .inl (dA 0, 240, .inl mc))] sz) := by
  refine of_M (y := yX12_buildSlide) (av := [.ref h0, .int p0, .int p1]) (ws := [(h0, .inr (10, [.ref h1, .ref h2, .ref h3, .int mi, .ref h4, .int mn, .int mt, .ref h5, .int mO, .ref h6, .int mL, .int mA, .int mW, .int mE, .int mF, .ref h7, .int mM])), (h1, .inl (dA 0, 158, .inl ms)), (h2, .inl (dA 0, 158, .inl mb)), (h3, .inl (dA 0, 158, .inl mv)), (h4, .inl (dA 0, 1264, .inl mp)), (h5, .inl (dA 1, 180, .inl mo)), (h6, .inl (dA 1, 60, .inl mI)), (h7, .inl (dA 0, 240, .inl mc))]) (sz := sz) (own := RX12) (Qc := poMi D rr [(h0, .inr (10, [.ref h1, .ref h2, .ref h3, .int mi, .ref h4, .int q_mn, .int q_mt, .ref h5, .int mO, .ref h6, .int mL, .int mA, .int mW, .int mE, .int mF, .ref h7, .int mM])), (h1, .inl (dA 0, 158, .inl q_ms)), (h2, .inl (dA 0, 158, .inl q_mb)), (h3, .inl (dA 0, 158, .inl mv)), (h4, .inl (dA 0, 1264, .inl q_mp)), (h5, .inl (dA 1, 180, .inl mo)), (h6, .inl (dA 1, 60, .inl mI)), (h7, .inl (dA 0, 240, .inl mc))]) (by decide) rfl (Nat.le_of_ble_eq_true rfl) ?_
  intro p e s m below meth c A hx hb hr ha hown hml hlocks hin hP hK hD hS hA ls hl
  have hl : lv_has ls 3 [(0, .ref h0), (1, .int p0), (2, .int p1)] := hl
  rw [f_X12_buildSlide] at hf
  refine lv_aload_n hx hb dX12_buildSlide_0 rfl (lv_at hl 0 rfl) ?_
  obtain ⟨a_1, x_2, hc2, hf⟩ := sf_c2e hf
  refine k_Mv (wr := []) (run_MV (As := []) (rest := []) ⟨hx, hb, hml, hown, ha⟩ (c_X12_keep l D dA h0 h1 h2 h3 h4 h5 h6 h7 _ ms mb mv mi mp mn mt mo mO mI mL mA mW mE mF mc mM _ _ hc2) (gi_V m_1709 m_1711 m_30 m_85 m_1712) yd_X12_keep ⟨Nat.le_of_ble_eq_true rfl, Nat.le_of_ble_eq_true rfl⟩ ⟨rfl, rfl⟩ hK hP hD [0, 1, 2, 3, 4, 5, 6, 7] (by decide) rfl 0 10 rfl rfl rfl rfl hl.1 rfl (Nat.le_of_ble_eq_true rfl) dX12_buildSlide_1 ⟨Nat.le_of_ble_eq_true rfl, Nat.le_of_ble_eq_true rfl⟩) hP hD hS hA [0, 1, 2, 3, 4, 5, 6, 7] [] rfl rfl (by decide) (by decide) (fun H locs hP hD hS => ?_)
  refine lv_aload_n hx hb dX12_buildSlide_4 rfl (lv_at hl 0 rfl) ?_
  refine lv_aload_n hx hb dX12_buildSlide_5 rfl (lv_at hl 0 rfl) ?_
  refine lv_iload_n hx hb dX12_buildSlide_6 rfl (lv_at hl 1 rfl) ?_
  refine lv_iload_n hx hb dX12_buildSlide_7 rfl (lv_at hl 2 rfl) ?_
  obtain ⟨r_3, a_4, x_5, hc5, hf⟩ := sf_c3e hf
  refine k_Mi (wr := []) (run_MV (As := [.int p0, .int p1]) (rest := [.ref h0]) ⟨hx, hb, hml, hown, ha⟩ (c_X12_doBuildSlide l D dA h0 h1 h2 h3 h4 h5 h6 h7 _ ms a_1 mv mi mp mn x_2 mo mO mI mL mA mW mE mF mc mM p0 p1 _ _ _ hc5) (gi_V m_1714 m_1716 m_31 m_85 m_1717) yd_X12_doBuildSlide ⟨Nat.le_of_ble_eq_true rfl, Nat.le_of_ble_eq_true rfl⟩ ⟨rfl, rfl⟩ hK hP hD [0, 1, 2, 3, 4, 5, 6, 7] (by decide) rfl 0 10 rfl rfl rfl rfl hl.1 rfl (Nat.le_of_ble_eq_true rfl) dX12_buildSlide_8 ⟨Nat.le_of_ble_eq_true rfl, Nat.le_of_ble_eq_true rfl⟩) hP hD hS hA [0, 1, 2, 3, 4, 5, 6, 7] [] rfl rfl (by decide) (by decide) (fun H locs hP hD hS => ?_)
  obtain ⟨r_6, a_7, a_8, x_9, hc9, hf⟩ := sf_c4e hf
  refine k_Mi (wr := []) (run_MV (As := [.int r_3]) (rest := []) ⟨hx, hb, hml, hown, ha⟩ (c_X12_ends l D dA h0 h1 h2 h3 h4 h5 h6 h7 _ a_4 a_1 mv mi mp mn x_5 mo mO mI mL mA mW mE mF mc mM r_3 _ _ _ _ hc9) (gi_V m_1725 m_1727 m_33 m_85 m_1728) yd_X12_ends ⟨Nat.le_of_ble_eq_true rfl, Nat.le_of_ble_eq_true rfl⟩ ⟨rfl, rfl⟩ hK hP hD [0, 1, 2, 3, 4, 5, 6, 7] (by decide) rfl 0 10 rfl rfl rfl rfl hl.1 rfl (Nat.le_of_ble_eq_true rfl) dX12_buildSlide_11 ⟨Nat.le_of_ble_eq_true rfl, Nat.le_of_ble_eq_true rfl⟩) hP hD hS hA [0, 1, 2, 3, 4, 5, 6, 7] [] rfl rfl (by decide) (by decide) (fun H locs hP hD hS => ?_)
  cases hf
  exact rt_Mi hx hb hr hlocks (hP.sub [0, 1, 2, 3, 4, 5, 6, 7] rfl) (hD.sub [0, 1, 2, 3, 4, 5, 6, 7] (by decide) rfl) hS dX12_buildSlide_14

def f_X12_doAddGuest (ms : Nat → Int32) (mt : Int32) : Option (Int32 × (Nat → Int32) × Int32) :=
  sf_g (sf_in (1 : Int32) 158 = true) (sf_n ((ms (1 : Int32).toNatClampNeg)) (fun x_1 => sf_b (x_1 = (10 : Int32)) (sf_c2 (f_X12_fails mt (1 : Int32)) (fun r_6 x_7 => some (r_6, ms, x_7))) (sf_g (sf_in ((44 : Int32) + ((3 : Int32) * x_1)) 158 = true) (sf_n (upd ms ((44 : Int32) + ((3 : Int32) * x_1)).toNatClampNeg (50 : Int32)) (fun a_2 => sf_g (sf_in (((44 : Int32) + ((3 : Int32) * x_1)) + (1 : Int32)) 158 = true) (sf_n (upd a_2 (((44 : Int32) + ((3 : Int32) * x_1)) + (1 : Int32)).toNatClampNeg (0 : Int32)) (fun a_3 => sf_g (sf_in (((44 : Int32) + ((3 : Int32) * x_1)) + (2 : Int32)) 158 = true) (sf_n (upd a_3 (((44 : Int32) + ((3 : Int32) * x_1)) + (2 : Int32)).toNatClampNeg (0 : Int32)) (fun a_4 => sf_g (sf_in (1 : Int32) 158 = true) (sf_g (sf_in (1 : Int32) 158 = true) (sf_n (upd a_4 (1 : Int32).toNatClampNeg ((a_4 (1 : Int32).toNatClampNeg) + (1 : Int32))) (fun a_5 => some (x_1, a_5, mt)))))))))))))
theorem yd_X12_doAddGuest : yX12_doAddGuest.cls = RX12 ∧ yX12_doAddGuest.cls ≠ "java/lang/invoke/MethodHandle" ∧ yX12_doAddGuest.cls ≠ "java/lang/invoke/VarHandle" ∧ (parseMethodDescriptor yX12_doAddGuest.desc).map (fun d => d.parameters.length) = some 0 := ⟨rfl, by decide, by decide, by decide +kernel⟩
set_option maxRecDepth 100000 in
set_option maxHeartbeats 4000000 in
theorem c_X12_doAddGuest (l : Launch) (D : va_G) (dA : Nat → ClassId) (h0 h1 h2 h3 h4 h5 h6 h7 : Nat) (sz : Nat) (ms : Nat → Int32) (mb : Nat → Int32) (mv : Nat → Int32) (mi : Int32) (mp : Nat → Int32) (mn : Int32) (mt : Int32) (mo : Nat → Int32) (mO : Int32) (mI : Nat → Int32) (mL : Int32) (mA : Int32) (mW : Int32) (mE : Int32) (mF : Int32) (mc : Nat → Int32) (mM : Int32) (rr : Int32) (q_ms : Nat → Int32) (q_mt : Int32) (hf : f_X12_doAddGuest ms mt = some (rr, q_ms, q_mt)) : Met l yX12_doAddGuest (wo (.code yX12_doAddGuest cX12_doAddGuest 2 (some .int))) ({ frames := 1, cells := 0, slots := 0, locals := 21 } : Room) (preM D dA [.ref h0] sz [(h0, .inr (10, [.ref h1, .ref h2, .ref h3, .int mi, .ref h4, .int mn, .int mt, .ref h5, .int mO, .ref h6, .int mL, .int mA, .int mW, .int mE, .int mF, .ref h7, .int mM])), (h1, .inl (dA 0, 158, .inl ms)), (h2, .inl (dA 0, 158, .inl mb)), (h3, .inl (dA 0, 158, .inl mv)), (h4, .inl (dA 0, 1264, .inl mp)), (h5, .inl (dA 1, 180, .inl mo)), (h6, .inl (dA 1, 60, .inl mI)), (h7, .inl (dA 0, 240, .inl mc))]) (poMi D rr [(h0, .inr (10, [.ref h1, .ref h2, .ref h3, .int mi, .ref h4, .int mn, .int q_mt, .ref h5, .int mO, .ref h6, .int mL, .int mA, .int mW, .int mE, .int mF, .ref h7, .int mM])), (h1, .inl (dA 0, 158, .inl q_ms)), (h2, .inl (dA 0, 158, .inl mb)), (h3, .inl (dA 0, 158, .inl mv)), (h4, .inl (dA 0, 1264, .inl mp)), (h5, .inl (dA 1, 180, .inl mo)), (h6, .inl (dA 1, 60, .inl mI)), (h7, .inl (dA 0, 240, .inl mc))] (va_A [(h0, .inr (10, [.ref h1, .ref h2, .ref h3, .int mi, .ref h4, .int mn, .int mt, .ref h5, .int mO, .ref h6, .int mL, .int mA, .int mW, .int mE, .int mF, .ref h7, .int mM])), (h1, .inl (dA 0, 158, .inl ms)), (h2, .inl (dA 0, 158, .inl mb)), (h3, .inl (dA 0, 158, .inl mv)), (h4, .inl (dA 0, 1264, .inl mp)), (h5, .inl (dA 1, 180, .inl mo)), (h6, .inl (dA 1, 60, .inl mI)), (h7, .inl (dA 0, 240, .inl mc))] sz)) 0 0 (va_A [(h0, .inr (10, [.ref h1, .ref h2, .ref h3, .int mi, .ref h4, .int mn, .int mt, .ref h5, .int mO, .ref h6, .int mL, .int mA, .int mW, .int mE, .int mF, .ref h7, .int mM])), (h1, .inl (dA 0, 158, .inl ms)), (h2, .inl (dA 0, 158, .inl mb)), (h3, .inl (dA 0, 158, .inl mv)), (h4, .inl (dA 0, 1264, .inl mp)), (h5, .inl (dA 1, 180, .inl mo)), (h6, .inl (dA 1, 60, .inl mI)), (h7, .inl (dA 0, 240, .inl mc))] sz) := by
  refine of_M (y := yX12_doAddGuest) (av := [.ref h0]) (ws := [(h0, .inr (10, [.ref h1, .ref h2, .ref h3, .int mi, .ref h4, .int mn, .int mt, .ref h5, .int mO, .ref h6, .int mL, .int mA, .int mW, .int mE, .int mF, .ref h7, .int mM])), (h1, .inl (dA 0, 158, .inl ms)), (h2, .inl (dA 0, 158, .inl mb)), (h3, .inl (dA 0, 158, .inl mv)), (h4, .inl (dA 0, 1264, .inl mp)), (h5, .inl (dA 1, 180, .inl mo)), (h6, .inl (dA 1, 60, .inl mI)), (h7, .inl (dA 0, 240, .inl mc))]) (sz := sz) (own := RX12) (Qc := poMi D rr [(h0, .inr (10, [.ref h1, .ref h2, .ref h3, .int mi, .ref h4, .int mn, .int q_mt, .ref h5, .int mO, .ref h6, .int mL, .int mA, .int mW, .int mE, .int mF, .ref h7, .int mM])), (h1, .inl (dA 0, 158, .inl q_ms)), (h2, .inl (dA 0, 158, .inl mb)), (h3, .inl (dA 0, 158, .inl mv)), (h4, .inl (dA 0, 1264, .inl mp)), (h5, .inl (dA 1, 180, .inl mo)), (h6, .inl (dA 1, 60, .inl mI)), (h7, .inl (dA 0, 240, .inl mc))]) (by decide) rfl (Nat.le_of_ble_eq_true rfl) ?_
  intro p e s m below meth c A hx hb hr ha hown hml hlocks hin hP hK hD hS hA ls hl
  have hl : lv_has ls 2 [(0, .ref h0)] := hl
  rw [f_X12_doAddGuest] at hf
  refine lv_aload_n hx hb dX12_doAddGuest_0 rfl (lv_at hl 0 rfl) ?_
  refine gt_f (C := RX12) (T := TX12) (N := 17) hx hb ha in_X12 hown hK hP 0 rfl rfl 0 (by decide) m_1649 rfl dX12_doAddGuest_1 ?_
  refine lv_iconst (v := 1) hx hb dX12_doAddGuest_4 (by decide) ?_
  obtain ⟨hi, hf⟩ := sf_ge hf
  refine ia_ld hx hb hK hP 1 rfl hi dX12_doAddGuest_5 ?_
  obtain ⟨x_1, ex_1, hf⟩ := sf_ne hf
  refine tp_i ex_1 ?_
  refine lv_istore_n (lv' := [(1, .int x_1), (0, .ref h0)]) hx hb dX12_doAddGuest_6 rfl hl (by decide) rfl (fun ls hl => ?_)
  refine lv_iload_n hx hb dX12_doAddGuest_7 rfl (lv_at hl 0 rfl) ?_
  refine lv_bipush (v := 10) hx hb dX12_doAddGuest_8 (by decide) ?_
  refine lv_icmp_ne (tgt := 19) hx hb dX12_doAddGuest_10 (by decide) (fun hc => ?_) (fun hc => ?_)
  · have hf := sf_bn hf hc
    refine lv_aload_n hx hb dX12_doAddGuest_19 rfl (lv_at hl 1 rfl) ?_
    refine gt_f (C := RX12) (T := TX12) (N := 17) hx hb ha in_X12 hown hK hP 0 rfl rfl 0 (by decide) m_1649 rfl dX12_doAddGuest_20 ?_
    refine lv_bipush (v := 44) hx hb dX12_doAddGuest_23 (by decide) ?_
    refine lv_iconst (v := 3) hx hb dX12_doAddGuest_25 (by decide) ?_
    refine lv_iload_n hx hb dX12_doAddGuest_26 rfl (lv_at hl 0 rfl) ?_
    refine lv_imul hx hb dX12_doAddGuest_27 ?_
    refine lv_iadd hx hb dX12_doAddGuest_28 ?_
    refine lv_bipush (v := 50) hx hb dX12_doAddGuest_29 (by decide) ?_
    obtain ⟨hi, hf⟩ := sf_ge hf
    obtain ⟨a_2, ea_2, hf⟩ := sf_ne hf
    refine ia_st (ws' := [(h0, .inr (10, [.ref h1, .ref h2, .ref h3, .int mi, .ref h4, .int mn, .int mt, .ref h5, .int mO, .ref h6, .int mL, .int mA, .int mW, .int mE, .int mF, .ref h7, .int mM])), (h1, .inl (dA 0, 158, .inl a_2)), (h2, .inl (dA 0, 158, .inl mb)), (h3, .inl (dA 0, 158, .inl mv)), (h4, .inl (dA 0, 1264, .inl mp)), (h5, .inl (dA 1, 180, .inl mo)), (h6, .inl (dA 1, 60, .inl mI)), (h7, .inl (dA 0, 240, .inl mc))]) hx hb hK hP hD hS 1 rfl hi ea_2 rfl dX12_doAddGuest_31 (fun H locs hP hD hS => ?_)
    refine lv_aload_n hx hb dX12_doAddGuest_32 rfl (lv_at hl 1 rfl) ?_
    refine gt_f (C := RX12) (T := TX12) (N := 17) hx hb ha in_X12 hown hK hP 0 rfl rfl 0 (by decide) m_1649 rfl dX12_doAddGuest_33 ?_
    refine lv_bipush (v := 44) hx hb dX12_doAddGuest_36 (by decide) ?_
    refine lv_iconst (v := 3) hx hb dX12_doAddGuest_38 (by decide) ?_
    refine lv_iload_n hx hb dX12_doAddGuest_39 rfl (lv_at hl 0 rfl) ?_
    refine lv_imul hx hb dX12_doAddGuest_40 ?_
    refine lv_iadd hx hb dX12_doAddGuest_41 ?_
    refine lv_iconst (v := 1) hx hb dX12_doAddGuest_42 (by decide) ?_
    refine lv_iadd hx hb dX12_doAddGuest_43 ?_
    refine lv_iconst (v := 0) hx hb dX12_doAddGuest_44 (by decide) ?_
    obtain ⟨hi, hf⟩ := sf_ge hf
    obtain ⟨a_3, ea_3, hf⟩ := sf_ne hf
    refine ia_st (ws' := [(h0, .inr (10, [.ref h1, .ref h2, .ref h3, .int mi, .ref h4, .int mn, .int mt, .ref h5, .int mO, .ref h6, .int mL, .int mA, .int mW, .int mE, .int mF, .ref h7, .int mM])), (h1, .inl (dA 0, 158, .inl a_3)), (h2, .inl (dA 0, 158, .inl mb)), (h3, .inl (dA 0, 158, .inl mv)), (h4, .inl (dA 0, 1264, .inl mp)), (h5, .inl (dA 1, 180, .inl mo)), (h6, .inl (dA 1, 60, .inl mI)), (h7, .inl (dA 0, 240, .inl mc))]) hx hb hK hP hD hS 1 rfl hi ea_3 rfl dX12_doAddGuest_45 (fun H locs hP hD hS => ?_)
    refine lv_aload_n hx hb dX12_doAddGuest_46 rfl (lv_at hl 1 rfl) ?_
    refine gt_f (C := RX12) (T := TX12) (N := 17) hx hb ha in_X12 hown hK hP 0 rfl rfl 0 (by decide) m_1649 rfl dX12_doAddGuest_47 ?_
    refine lv_bipush (v := 44) hx hb dX12_doAddGuest_50 (by decide) ?_
    refine lv_iconst (v := 3) hx hb dX12_doAddGuest_52 (by decide) ?_
    refine lv_iload_n hx hb dX12_doAddGuest_53 rfl (lv_at hl 0 rfl) ?_
    refine lv_imul hx hb dX12_doAddGuest_54 ?_
    refine lv_iadd hx hb dX12_doAddGuest_55 ?_
    refine lv_iconst (v := 2) hx hb dX12_doAddGuest_56 (by decide) ?_
    refine lv_iadd hx hb dX12_doAddGuest_57 ?_
    refine lv_iconst (v := 0) hx hb dX12_doAddGuest_58 (by decide) ?_
    obtain ⟨hi, hf⟩ := sf_ge hf
    obtain ⟨a_4, ea_4, hf⟩ := sf_ne hf
    refine ia_st (ws' := [(h0, .inr (10, [.ref h1, .ref h2, .ref h3, .int mi, .ref h4, .int mn, .int mt, .ref h5, .int mO, .ref h6, .int mL, .int mA, .int mW, .int mE, .int mF, .ref h7, .int mM])), (h1, .inl (dA 0, 158, .inl a_4)), (h2, .inl (dA 0, 158, .inl mb)), (h3, .inl (dA 0, 158, .inl mv)), (h4, .inl (dA 0, 1264, .inl mp)), (h5, .inl (dA 1, 180, .inl mo)), (h6, .inl (dA 1, 60, .inl mI)), (h7, .inl (dA 0, 240, .inl mc))]) hx hb hK hP hD hS 1 rfl hi ea_4 rfl dX12_doAddGuest_59 (fun H locs hP hD hS => ?_)
    refine lv_aload_n hx hb dX12_doAddGuest_60 rfl (lv_at hl 1 rfl) ?_
    refine gt_f (C := RX12) (T := TX12) (N := 17) hx hb ha in_X12 hown hK hP 0 rfl rfl 0 (by decide) m_1649 rfl dX12_doAddGuest_61 ?_
    refine lv_iconst (v := 1) hx hb dX12_doAddGuest_64 (by decide) ?_
    refine lv_dup2_11 hx hb dX12_doAddGuest_65 rfl rfl ?_
    obtain ⟨hi, hf⟩ := sf_ge hf
    refine ia_ld hx hb hK hP 1 rfl hi dX12_doAddGuest_66 ?_
    refine lv_iconst (v := 1) hx hb dX12_doAddGuest_67 (by decide) ?_
    refine lv_iadd hx hb dX12_doAddGuest_68 ?_
    obtain ⟨hi, hf⟩ := sf_ge hf
    obtain ⟨a_5, ea_5, hf⟩ := sf_ne hf
    refine ia_st (ws' := [(h0, .inr (10, [.ref h1, .ref h2, .ref h3, .int mi, .ref h4, .int mn, .int mt, .ref h5, .int mO, .ref h6, .int mL, .int mA, .int mW, .int mE, .int mF, .ref h7, .int mM])), (h1, .inl (dA 0, 158, .inl a_5)), (h2, .inl (dA 0, 158, .inl mb)), (h3, .inl (dA 0, 158, .inl mv)), (h4, .inl (dA 0, 1264, .inl mp)), (h5, .inl (dA 1, 180, .inl mo)), (h6, .inl (dA 1, 60, .inl mI)), (h7, .inl (dA 0, 240, .inl mc))]) hx hb hK hP hD hS 1 rfl hi ea_5 rfl dX12_doAddGuest_69 (fun H locs hP hD hS => ?_)
    refine lv_iload_n hx hb dX12_doAddGuest_70 rfl (lv_at hl 0 rfl) ?_
    cases hf
    exact rt_Mi hx hb hr hlocks (hP.sub [0, 1, 2, 3, 4, 5, 6, 7] rfl) (hD.sub [0, 1, 2, 3, 4, 5, 6, 7] (by decide) rfl) hS dX12_doAddGuest_71
  · have hf := sf_bp hf hc
    refine lv_aload_n hx hb dX12_doAddGuest_13 rfl (lv_at hl 1 rfl) ?_
    refine lv_iconst (v := 1) hx hb dX12_doAddGuest_14 (by decide) ?_
    obtain ⟨r_6, x_7, hc7, hf⟩ := sf_c2e hf
    refine k_Mi (wr := []) (run_MV (As := [.int (1 : Int32)]) (rest := []) ⟨hx, hb, hml, hown, ha⟩ (c_X12_fails l D dA h0 h1 h2 h3 h4 h5 h6 h7 _ ms mb mv mi mp mn mt mo mO mI mL mA mW mE mF mc mM (1 : Int32) _ _ hc7) (gi_V m_1721 m_1723 m_32 m_85 m_1724) yd_X12_fails ⟨Nat.le_of_ble_eq_true rfl, Nat.le_of_ble_eq_true rfl⟩ ⟨rfl, rfl⟩ hK hP hD [0, 1, 2, 3, 4, 5, 6, 7] (by decide) rfl 0 10 rfl rfl rfl rfl hl.1 rfl (Nat.le_of_ble_eq_true rfl) dX12_doAddGuest_15 ⟨Nat.le_of_ble_eq_true rfl, Nat.le_of_ble_eq_true rfl⟩) hP hD hS hA [0, 1, 2, 3, 4, 5, 6, 7] [] rfl rfl (by decide) (by decide) (fun H locs hP hD hS => ?_)
    cases hf
    exact rt_Mi hx hb hr hlocks (hP.sub [0, 1, 2, 3, 4, 5, 6, 7] rfl) (hD.sub [0, 1, 2, 3, 4, 5, 6, 7] (by decide) rfl) hS dX12_doAddGuest_18

def f_X12_addGuest (ms : Nat → Int32) (mb : Nat → Int32) (mp : Nat → Int32) (mn : Int32) (mt : Int32) : Option (Int32 × (Nat → Int32) × (Nat → Int32) × (Nat → Int32) × Int32 × Int32) :=
  sf_c2 (f_X12_keep ms mb mt) (fun a_1 x_2 => sf_c3 (f_X12_doAddGuest ms x_2) (fun r_3 a_4 x_5 => sf_c4 (f_X12_ends a_4 a_1 mp mn x_5 r_3) (fun r_6 a_7 a_8 x_9 => some (r_6, a_7, a_1, a_8, x_9, x_5))))
theorem yd_X12_addGuest : yX12_addGuest.cls = RX12 ∧ yX12_addGuest.cls ≠ "java/lang/invoke/MethodHandle" ∧ yX12_addGuest.cls ≠ "java/lang/invoke/VarHandle" ∧ (parseMethodDescriptor yX12_addGuest.desc).map (fun d => d.parameters.length) = some 0 := ⟨rfl, by decide, by decide, by decide +kernel⟩
set_option maxRecDepth 100000 in
set_option maxHeartbeats 4000000 in
theorem c_X12_addGuest (l : Launch) (D : va_G) (dA : Nat → ClassId) (h0 h1 h2 h3 h4 h5 h6 h7 : Nat) (sz : Nat) (ms : Nat → Int32) (mb : Nat → Int32) (mv : Nat → Int32) (mi : Int32) (mp : Nat → Int32) (mn : Int32) (mt : Int32) (mo : Nat → Int32) (mO : Int32) (mI : Nat → Int32) (mL : Int32) (mA : Int32) (mW : Int32) (mE : Int32) (mF : Int32) (mc : Nat → Int32) (mM : Int32) (rr : Int32) (q_ms : Nat → Int32) (q_mb : Nat → Int32) (q_mp : Nat → Int32) (q_mn : Int32) (q_mt : Int32) (hf : f_X12_addGuest ms mb mp mn mt = some (rr, q_ms, q_mb, q_mp, q_mn, q_mt)) : Met l yX12_addGuest (wo (.code yX12_addGuest cX12_addGuest 1 (some .int))) ({ frames := 2, cells := 0, slots := 0, locals := 111 } : Room) (preM D dA [.ref h0] sz [(h0, .inr (10, [.ref h1, .ref h2, .ref h3, .int mi, .ref h4, .int mn, .int mt, .ref h5, .int mO, .ref h6, .int mL, .int mA, .int mW, .int mE, .int mF, .ref h7, .int mM])), (h1, .inl (dA 0, 158, .inl ms)), (h2, .inl (dA 0, 158, .inl mb)), (h3, .inl (dA 0, 158, .inl mv)), (h4, .inl (dA 0, 1264, .inl mp)), (h5, .inl (dA 1, 180, .inl mo)), (h6, .inl (dA 1, 60, .inl mI)), (h7, .inl (dA 0, 240, .inl mc))]) (poMi D rr [(h0, .inr (10, [.ref h1, .ref h2, .ref h3, .int mi, .ref h4, .int q_mn, .int q_mt, .ref h5, .int mO, .ref h6, .int mL, .int mA, .int mW, .int mE, .int mF, .ref h7, .int mM])), (h1, .inl (dA 0, 158, .inl q_ms)), (h2, .inl (dA 0, 158, .inl q_mb)), (h3, .inl (dA 0, 158, .inl mv)), (h4, .inl (dA 0, 1264, .inl q_mp)), (h5, .inl (dA 1, 180, .inl mo)), (h6, .inl (dA 1, 60, .inl mI)), (h7, .inl (dA 0, 240, .inl mc))] (va_A [(h0, .inr (10, [.ref h1, .ref h2, .ref h3, .int mi, .ref h4, .int mn, .int mt, .ref h5, .int mO, .ref h6, .int mL, .int mA, .int mW, .int mE, .int mF, .ref h7, .int mM])), (h1, .inl (dA 0, 158, .inl ms)), (h2, .inl (dA 0, 158, .inl mb)), (h3, .inl (dA 0, 158, .inl mv)), (h4, .inl (dA 0, 1264, .inl mp)), (h5, .inl (dA 1, 180, .inl mo)), (h6, .inl (dA 1, 60, .inl mI)), (h7, .inl (dA 0, 240, .inl mc))] sz)) 0 0 (va_A [(h0, .inr (10, [.ref h1, .ref h2, .ref h3, .int mi, .ref h4, .int mn, .int mt, .ref h5, .int mO, .ref h6, .int mL, .int mA, .int mW, .int mE, .int mF, .ref h7, .int mM])), (h1, .inl (dA 0, 158, .inl ms)), (h2, .inl (dA 0, 158, .inl mb)), (h3, .inl (dA 0, 158, .inl mv)), (h4, .inl (dA 0, 1264, .inl mp)), (h5, .inl (dA 1, 180, .inl mo)), (h6, .inl (dA 1, 60, .inl mI)), (h7, .inl (dA 0, 240, .inl mc))] sz) := by
  refine of_M (y := yX12_addGuest) (av := [.ref h0]) (ws := [(h0, .inr (10, [.ref h1, .ref h2, .ref h3, .int mi, .ref h4, .int mn, .int mt, .ref h5, .int mO, .ref h6, .int mL, .int mA, .int mW, .int mE, .int mF, .ref h7, .int mM])), (h1, .inl (dA 0, 158, .inl ms)), (h2, .inl (dA 0, 158, .inl mb)), (h3, .inl (dA 0, 158, .inl mv)), (h4, .inl (dA 0, 1264, .inl mp)), (h5, .inl (dA 1, 180, .inl mo)), (h6, .inl (dA 1, 60, .inl mI)), (h7, .inl (dA 0, 240, .inl mc))]) (sz := sz) (own := RX12) (Qc := poMi D rr [(h0, .inr (10, [.ref h1, .ref h2, .ref h3, .int mi, .ref h4, .int q_mn, .int q_mt, .ref h5, .int mO, .ref h6, .int mL, .int mA, .int mW, .int mE, .int mF, .ref h7, .int mM])), (h1, .inl (dA 0, 158, .inl q_ms)), (h2, .inl (dA 0, 158, .inl q_mb)), (h3, .inl (dA 0, 158, .inl mv)), (h4, .inl (dA 0, 1264, .inl q_mp)), (h5, .inl (dA 1, 180, .inl mo)), (h6, .inl (dA 1, 60, .inl mI)), (h7, .inl (dA 0, 240, .inl mc))]) (by decide) rfl (Nat.le_of_ble_eq_true rfl) ?_
  intro p e s m below meth c A hx hb hr ha hown hml hlocks hin hP hK hD hS hA ls hl
  have hl : lv_has ls 1 [(0, .ref h0)] := hl
  rw [f_X12_addGuest] at hf
  refine lv_aload_n hx hb dX12_addGuest_0 rfl (lv_at hl 0 rfl) ?_
  obtain ⟨a_1, x_2, hc2, hf⟩ := sf_c2e hf
  refine k_Mv (wr := []) (run_MV (As := []) (rest := []) ⟨hx, hb, hml, hown, ha⟩ (c_X12_keep l D dA h0 h1 h2 h3 h4 h5 h6 h7 _ ms mb mv mi mp mn mt mo mO mI mL mA mW mE mF mc mM _ _ hc2) (gi_V m_1709 m_1711 m_30 m_85 m_1712) yd_X12_keep ⟨Nat.le_of_ble_eq_true rfl, Nat.le_of_ble_eq_true rfl⟩ ⟨rfl, rfl⟩ hK hP hD [0, 1, 2, 3, 4, 5, 6, 7] (by decide) rfl 0 10 rfl rfl rfl rfl hl.1 rfl (Nat.le_of_ble_eq_true rfl) dX12_addGuest_1 ⟨Nat.le_of_ble_eq_true rfl, Nat.le_of_ble_eq_true rfl⟩) hP hD hS hA [0, 1, 2, 3, 4, 5, 6, 7] [] rfl rfl (by decide) (by decide) (fun H locs hP hD hS => ?_)
  refine lv_aload_n hx hb dX12_addGuest_4 rfl (lv_at hl 0 rfl) ?_
  refine lv_aload_n hx hb dX12_addGuest_5 rfl (lv_at hl 0 rfl) ?_
  obtain ⟨r_3, a_4, x_5, hc5, hf⟩ := sf_c3e hf
  refine k_Mi (wr := []) (run_MV (As := []) (rest := [.ref h0]) ⟨hx, hb, hml, hown, ha⟩ (c_X12_doAddGuest l D dA h0 h1 h2 h3 h4 h5 h6 h7 _ ms a_1 mv mi mp mn x_2 mo mO mI mL mA mW mE mF mc mM _ _ _ hc5) (gi_V m_1733 m_1735 m_34 m_85 m_1736) yd_X12_doAddGuest ⟨Nat.le_of_ble_eq_true rfl, Nat.le_of_ble_eq_true rfl⟩ ⟨rfl, rfl⟩ hK hP hD [0, 1, 2, 3, 4, 5, 6, 7] (by decide) rfl 0 10 rfl rfl rfl rfl hl.1 rfl (Nat.le_of_ble_eq_true rfl) dX12_addGuest_6 ⟨Nat.le_of_ble_eq_true rfl, Nat.le_of_ble_eq_true rfl⟩) hP hD hS hA [0, 1, 2, 3, 4, 5, 6, 7] [] rfl rfl (by decide) (by decide) (fun H locs hP hD hS => ?_)
  obtain ⟨r_6, a_7, a_8, x_9, hc9, hf⟩ := sf_c4e hf
  refine k_Mi (wr := []) (run_MV (As := [.int r_3]) (rest := []) ⟨hx, hb, hml, hown, ha⟩ (c_X12_ends l D dA h0 h1 h2 h3 h4 h5 h6 h7 _ a_4 a_1 mv mi mp mn x_5 mo mO mI mL mA mW mE mF mc mM r_3 _ _ _ _ hc9) (gi_V m_1725 m_1727 m_33 m_85 m_1728) yd_X12_ends ⟨Nat.le_of_ble_eq_true rfl, Nat.le_of_ble_eq_true rfl⟩ ⟨rfl, rfl⟩ hK hP hD [0, 1, 2, 3, 4, 5, 6, 7] (by decide) rfl 0 10 rfl rfl rfl rfl hl.1 rfl (Nat.le_of_ble_eq_true rfl) dX12_addGuest_9 ⟨Nat.le_of_ble_eq_true rfl, Nat.le_of_ble_eq_true rfl⟩) hP hD hS hA [0, 1, 2, 3, 4, 5, 6, 7] [] rfl rfl (by decide) (by decide) (fun H locs hP hD hS => ?_)
  cases hf
  exact rt_Mi hx hb hr hlocks (hP.sub [0, 1, 2, 3, 4, 5, 6, 7] rfl) (hD.sub [0, 1, 2, 3, 4, 5, 6, 7] (by decide) rfl) hS dX12_addGuest_12

def f_X12_clashes_L16 (ms : Nat → Int32) (p0 : Int32) (p1 : Int32) (p2 : Int32) (x_2 : Int32) (k : Int32 → Option Int32) : Nat → Int32 → Int32 → Option Int32
  | 0, _, _ => none
  | n + 1, v_3, v_4 => sf_g (sf_in (2 : Int32) 158 = true) (sf_b ((ms (2 : Int32).toNatClampNeg) ≤ v_3) (k v_4) (sf_c1 (f_X12_booking ms v_3 (1 : Int32)) (fun r_5 => sf_b (r_5 = p1) (sf_b (v_4 = (0 : Int32)) (sf_c1 (f_X12_startOf ms v_3) (fun r_7 => sf_b (x_2 ≤ r_7) (sf_n (v_3 + (1 : Int32)) (fun x_8 => f_X12_clashes_L16 ms p0 p1 p2 x_2 k n x_8 (0 : Int32))) (sf_c1 (f_X12_endOf ms v_3) (fun r_9 => sf_b (r_9 ≤ p2) (sf_n (v_3 + (1 : Int32)) (fun x_10 => f_X12_clashes_L16 ms p0 p1 p2 x_2 k n x_10 (0 : Int32))) (sf_n (v_3 + (1 : Int32)) (fun x_11 => f_X12_clashes_L16 ms p0 p1 p2 x_2 k n x_11 (1 : Int32))))))) (sf_n (v_3 + (1 : Int32)) (fun x_6 => f_X12_clashes_L16 ms p0 p1 p2 x_2 k n x_6 (1 : Int32)))) (sf_c1 (f_X12_booking ms v_3 (0 : Int32)) (fun r_12 => sf_b (r_12 = p0) (sf_b (v_4 = (0 : Int32)) (sf_c1 (f_X12_startOf ms v_3) (fun r_16 => sf_b (x_2 ≤ r_16) (sf_n (v_3 + (1 : Int32)) (fun x_17 => f_X12_clashes_L16 ms p0 p1 p2 x_2 k n x_17 (0 : Int32))) (sf_c1 (f_X12_endOf ms v_3) (fun r_18 => sf_b (r_18 ≤ p2) (sf_n (v_3 + (1 : Int32)) (fun x_19 => f_X12_clashes_L16 ms p0 p1 p2 x_2 k n x_19 (0 : Int32))) (sf_n (v_3 + (1 : Int32)) (fun x_20 => f_X12_clashes_L16 ms p0 p1 p2 x_2 k n x_20 (1 : Int32))))))) (sf_n (v_3 + (1 : Int32)) (fun x_15 => f_X12_clashes_L16 ms p0 p1 p2 x_2 k n x_15 (1 : Int32)))) (sf_b (v_4 = (0 : Int32)) (sf_n (v_3 + (1 : Int32)) (fun x_14 => f_X12_clashes_L16 ms p0 p1 p2 x_2 k n x_14 (0 : Int32))) (sf_n (v_3 + (1 : Int32)) (fun x_13 => f_X12_clashes_L16 ms p0 p1 p2 x_2 k n x_13 (1 : Int32)))))))))
def f_X12_clashes (ms : Nat → Int32) (p0 : Int32) (p1 : Int32) (p2 : Int32) : Option Int32 :=
  sf_c1 (f_X12_slide ms p1 (0 : Int32)) (fun r_1 => sf_n ((p2 + r_1)) (fun x_2 => f_X12_clashes_L16 ms p0 p1 p2 x_2 (fun y_21 => sf_g (y_21 = 0 ∨ y_21 = 1) (some y_21)) 2000 (0 : Int32) (0 : Int32)))
theorem yd_X12_clashes : yX12_clashes.cls = RX12 ∧ yX12_clashes.cls ≠ "java/lang/invoke/MethodHandle" ∧ yX12_clashes.cls ≠ "java/lang/invoke/VarHandle" ∧ (parseMethodDescriptor yX12_clashes.desc).map (fun d => d.parameters.length) = some 3 := ⟨rfl, by decide, by decide, by decide +kernel⟩
set_option maxRecDepth 100000 in
set_option maxHeartbeats 4000000 in
theorem c_X12_clashes (l : Launch) (D : va_G) (dA : Nat → ClassId) (h0 h1 h2 h3 h4 h5 h6 h7 : Nat) (ms : Nat → Int32) (mb : Nat → Int32) (mv : Nat → Int32) (mi : Int32) (mp : Nat → Int32) (mn : Int32) (mt : Int32) (mo : Nat → Int32) (mO : Int32) (mI : Nat → Int32) (mL : Int32) (mA : Int32) (mW : Int32) (mE : Int32) (mF : Int32) (mc : Nat → Int32) (mM : Int32) (p0 : Int32) (p1 : Int32) (p2 : Int32) (rr : Int32) (hf : f_X12_clashes ms p0 p1 p2 = some rr) : Met l yX12_clashes (wo (.code yX12_clashes cX12_clashes 8 (some .boolean))) ({ frames := 3, cells := 0, slots := 0, locals := 64 } : Room) (preP D dA [.ref h0, .int p0, .int p1, .int p2] [(h0, .inr (10, [.ref h1, .ref h2, .ref h3, .int mi, .ref h4, .int mn, .int mt, .ref h5, .int mO, .ref h6, .int mL, .int mA, .int mW, .int mE, .int mF, .ref h7, .int mM])), (h1, .inl (dA 0, 158, .inl ms)), (h2, .inl (dA 0, 158, .inl mb)), (h3, .inl (dA 0, 158, .inl mv)), (h4, .inl (dA 0, 1264, .inl mp)), (h5, .inl (dA 1, 180, .inl mo)), (h6, .inl (dA 1, 60, .inl mI)), (h7, .inl (dA 0, 240, .inl mc))]) (poPi rr) 0 0 noA := by
  refine of_P (own := RX12) (by decide) rfl (Nat.le_of_ble_eq_true rfl) ?_
  intro p e s m below meth c hx hb hr ha hown hml hlocks hP hK hS ls hl
  have hl : lv_has ls 8 [(0, .ref h0), (1, .int p0), (2, .int p1), (3, .int p2)] := hl
  rw [f_X12_clashes] at hf
  refine lv_iconst (v := 0) hx hb dX12_clashes_0 (by decide) ?_
  refine lv_istore (lv' := [(4, .int (0 : Int32)), (0, .ref h0), (1, .int p0), (2, .int p1), (3, .int p2)]) hx hb dX12_clashes_1 hl (by decide) rfl (fun ls hl => ?_)
  refine lv_iload_n hx hb dX12_clashes_3 rfl (lv_at hl 4 rfl) ?_
  refine lv_aload_n hx hb dX12_clashes_4 rfl (lv_at hl 1 rfl) ?_
  refine lv_iload_n hx hb dX12_clashes_5 rfl (lv_at hl 3 rfl) ?_
  refine lv_iconst (v := 0) hx hb dX12_clashes_6 (by decide) ?_
  obtain ⟨r_1, hc1, hf⟩ := sf_c1e hf
  refine k_Pi (run_PV (As := [.int p1, .int (0 : Int32)]) (rest := [.int p2]) ⟨hx, hb, hml, hown, ha⟩ (c_X12_slide l D dA h0 h1 h2 h3 h4 h5 h6 h7  ms mb mv mi mp mn mt mo mO mI mL mA mW mE mF mc mM p1 (0 : Int32) _ hc1) (gi_V m_1761 m_1763 m_40 m_85 m_1764) yd_X12_slide ⟨Nat.le_of_ble_eq_true rfl, Nat.le_of_ble_eq_true rfl⟩ ⟨rfl, rfl⟩ hK hP [0, 1, 2, 3, 4, 5, 6, 7] rfl 0 10 rfl rfl rfl rfl hl.1 rfl (Nat.le_of_ble_eq_true rfl) dX12_clashes_7 ⟨Nat.le_of_ble_eq_true rfl, Nat.le_of_ble_eq_true rfl⟩) hP hS (fun H locs hP hS => ?_)
  refine lv_iadd hx hb dX12_clashes_10 ?_
  obtain ⟨x_2, ex_2, hf⟩ := sf_ne hf
  refine tp_i ex_2 ?_
  refine lv_istore (lv' := [(5, .int x_2), (4, .int (0 : Int32)), (0, .ref h0), (1, .int p0), (2, .int p1), (3, .int p2)]) hx hb dX12_clashes_11 hl (by decide) rfl (fun ls hl => ?_)
  refine lv_iconst (v := 0) hx hb dX12_clashes_13 (by decide) ?_
  refine lv_istore (lv' := [(6, .int (0 : Int32)), (5, .int x_2), (4, .int (0 : Int32)), (0, .ref h0), (1, .int p0), (2, .int p1), (3, .int p2)]) hx hb dX12_clashes_14 hl (by decide) rfl (fun ls hl => ?_)
  have hL16 : ∀ (n : Nat) (k : Int32 → Option Int32) (v_3 : Int32) (v_4 : Int32) (H : Heap) (locs : List Loc) (ls : Array Slot), va_P D cls [(h0, .inr (10, [.ref h1, .ref h2, .ref h3, .int mi, .ref h4, .int mn, .int mt, .ref h5, .int mO, .ref h6, .int mL, .int mA, .int mW, .int mE, .int mF, .ref h7, .int mM])), (h1, .inl (dA 0, 158, .inl ms)), (h2, .inl (dA 0, 158, .inl mb)), (h3, .inl (dA 0, 158, .inl mv)), (h4, .inl (dA 0, 1264, .inl mp)), (h5, .inl (dA 1, 180, .inl mo)), (h6, .inl (dA 1, 60, .inl mI)), (h7, .inl (dA 0, 240, .inl mc))] H → va_S noA s.heap H locs → lv_has ls 8 [(6, .int v_3), (5, .int x_2), (4, .int v_4), (0, .ref h0), (1, .int p0), (2, .int p1), (3, .int p2)] → f_X12_clashes_L16 ms p0 p1 p2 x_2 k n v_3 v_4 = some rr → (∀ (y_21 : Int32) (H : Heap) (locs : List Loc) (ls : Array Slot), va_P D cls [(h0, .inr (10, [.ref h1, .ref h2, .ref h3, .int mi, .ref h4, .int mn, .int mt, .ref h5, .int mO, .ref h6, .int mL, .int mA, .int mW, .int mE, .int mF, .ref h7, .int mM])), (h1, .inl (dA 0, 158, .inl ms)), (h2, .inl (dA 0, 158, .inl mb)), (h3, .inl (dA 0, 158, .inl mv)), (h4, .inl (dA 0, 1264, .inl mp)), (h5, .inl (dA 1, 180, .inl mo)), (h6, .inl (dA 1, 60, .inl mI)), (h7, .inl (dA 0, 240, .inl mc))] H → va_S noA s.heap H locs → lv_has ls 8 [(4, .int y_21)] → k y_21 = some rr → W p l e ({ frames := 3, cells := 0, slots := 0, locals := 64 } : Room) s m ([.ref h0, .int p0, .int p1, .int p2] : List Value).toArray below meth c H locs 0 0 (MQ below (poPi rr) ([.ref h0, .int p0, .int p1, .int p2] : List Value).toArray s 0 0 noA) (F0 m 100 ls [])) → W p l e ({ frames := 3, cells := 0, slots := 0, locals := 64 } : Room) s m ([.ref h0, .int p0, .int p1, .int p2] : List Value).toArray below meth c H locs 0 0 (MQ below (poPi rr) ([.ref h0, .int p0, .int p1, .int p2] : List Value).toArray s 0 0 noA) (F0 m 16 ls []) := by
    intro n k
    induction n with
    | zero =>
      intro v_3 v_4 H locs ls hP hS hl hf hk
      rw [f_X12_clashes_L16] at hf
      cases hf
    | succ n ih =>
      intro v_3 v_4 H locs ls hP hS hl hf hk
      rw [f_X12_clashes_L16] at hf
      refine lv_iload hx hb dX12_clashes_16 (lv_at hl 0 rfl) ?_
      refine lv_aload_n hx hb dX12_clashes_18 rfl (lv_at hl 3 rfl) ?_
      refine gt_f (C := RX12) (T := TX12) (N := 17) hx hb ha in_X12 hown hK hP 0 rfl rfl 0 (by decide) m_1649 rfl dX12_clashes_19 ?_
      refine lv_iconst (v := 2) hx hb dX12_clashes_22 (by decide) ?_
      obtain ⟨hi, hf⟩ := sf_ge hf
      refine ia_ld hx hb hK hP 1 rfl hi dX12_clashes_23 ?_
      refine lv_icmp_ge (tgt := 100) hx hb dX12_clashes_24 (by decide) (fun hc => ?_) (fun hc => ?_)
      · have hf := sf_bp hf hc
        exact hk _ _ _ _ hP hS (lv_sub hl [2] rfl) hf
      · have hf := sf_bn hf hc
        refine lv_aload_n hx hb dX12_clashes_27 rfl (lv_at hl 3 rfl) ?_
        refine lv_iload hx hb dX12_clashes_28 (lv_at hl 0 rfl) ?_
        refine lv_iconst (v := 1) hx hb dX12_clashes_30 (by decide) ?_
        obtain ⟨r_5, hc5, hf⟩ := sf_c1e hf
        refine k_Pi (run_PV (As := [.int v_3, .int (1 : Int32)]) (rest := []) ⟨hx, hb, hml, hown, ha⟩ (c_X12_booking l D dA h0 h1 h2 h3 h4 h5 h6 h7  ms mb mv mi mp mn mt mo mO mI mL mA mW mE mF mc mM v_3 (1 : Int32) _ hc5) (gi_V m_1769 m_1771 m_42 m_85 m_1772) yd_X12_booking ⟨Nat.le_of_ble_eq_true rfl, Nat.le_of_ble_eq_true rfl⟩ ⟨rfl, rfl⟩ hK hP [0, 1, 2, 3, 4, 5, 6, 7] rfl 0 10 rfl rfl rfl rfl hl.1 rfl (Nat.le_of_ble_eq_true rfl) dX12_clashes_31 ⟨Nat.le_of_ble_eq_true rfl, Nat.le_of_ble_eq_true rfl⟩) hP hS (fun H locs hP hS => ?_)
        refine lv_iload_n hx hb dX12_clashes_34 rfl (lv_at hl 5 rfl) ?_
        refine lv_icmp_eq (tgt := 49) hx hb dX12_clashes_35 (by decide) (fun hc => ?_) (fun hc => ?_)
        · have hf := sf_bp hf hc
          refine lv_iconst (v := 1) hx hb dX12_clashes_49 (by decide) ?_
          refine lv_goto (tgt := 54) hx hb dX12_clashes_50 (by decide) ?_
          refine lv_istore (lv' := [(7, .int (1 : Int32)), (6, .int v_3), (5, .int x_2), (4, .int v_4), (0, .ref h0), (1, .int p0), (2, .int p1), (3, .int p2)]) hx hb dX12_clashes_54 hl (by decide) rfl (fun ls hl => ?_)
          refine lv_iload hx hb dX12_clashes_56 (lv_at hl 3 rfl) ?_
          refine lv_if_ne (tgt := 87) hx hb dX12_clashes_58 (by decide) (fun hc => ?_) (fun hc => ?_)
          · have hf := sf_bn hf hc
            refine lv_iconst (v := 1) hx hb dX12_clashes_87 (by decide) ?_
            refine lv_goto (tgt := 92) hx hb dX12_clashes_88 (by decide) ?_
            refine lv_istore (lv' := [(4, .int (1 : Int32)), (7, .int (1 : Int32)), (6, .int v_3), (5, .int x_2), (0, .ref h0), (1, .int p0), (2, .int p1), (3, .int p2)]) hx hb dX12_clashes_92 hl (by decide) rfl (fun ls hl => ?_)
            obtain ⟨x_6, ex_6, hf⟩ := sf_ne hf
            refine ii_nc (lv' := [(6, .int x_6), (4, .int (1 : Int32)), (7, .int (1 : Int32)), (5, .int x_2), (0, .ref h0), (1, .int p0), (2, .int p1), (3, .int p2)]) (k := 2) hx hb dX12_clashes_94 hl rfl ex_6 (by decide) (by decide) rfl (fun ls hl => ?_)
            refine lv_goto (tgt := 16) hx hb dX12_clashes_97 (by decide) ?_
            exact ih _ _ _ _ _ hP hS (lv_sub hl [0, 3, 1, 4, 5, 6, 7] rfl) hf hk
          · have hf := sf_bp hf hc
            refine lv_iload hx hb dX12_clashes_61 (lv_at hl 0 rfl) ?_
            refine lv_if_eq (tgt := 91) hx hb dX12_clashes_63 (by decide) (fun hc => absurd hc (by decide)) (fun hc => ?_)
            refine lv_aload_n hx hb dX12_clashes_66 rfl (lv_at hl 4 rfl) ?_
            refine lv_iload hx hb dX12_clashes_67 (lv_at hl 1 rfl) ?_
            obtain ⟨r_7, hc7, hf⟩ := sf_c1e hf
            refine k_Pi (run_PV (As := [.int v_3]) (rest := []) ⟨hx, hb, hml, hown, ha⟩ (c_X12_startOf l D dA h0 h1 h2 h3 h4 h5 h6 h7  ms mb mv mi mp mn mt mo mO mI mL mA mW mE mF mc mM v_3 _ hc7) (gi_V m_1773 m_1775 m_43 m_85 m_1776) yd_X12_startOf ⟨Nat.le_of_ble_eq_true rfl, Nat.le_of_ble_eq_true rfl⟩ ⟨rfl, rfl⟩ hK hP [0, 1, 2, 3, 4, 5, 6, 7] rfl 0 10 rfl rfl rfl rfl hl.1 rfl (Nat.le_of_ble_eq_true rfl) dX12_clashes_69 ⟨Nat.le_of_ble_eq_true rfl, Nat.le_of_ble_eq_true rfl⟩) hP hS (fun H locs hP hS => ?_)
            refine lv_iload hx hb dX12_clashes_72 (lv_at hl 2 rfl) ?_
            refine lv_icmp_ge (tgt := 91) hx hb dX12_clashes_74 (by decide) (fun hc => ?_) (fun hc => ?_)
            · have hf := sf_bp hf hc
              refine lv_iconst (v := 0) hx hb dX12_clashes_91 (by decide) ?_
              refine lv_istore (lv' := [(4, .int (0 : Int32)), (7, .int (1 : Int32)), (6, .int v_3), (5, .int x_2), (0, .ref h0), (1, .int p0), (2, .int p1), (3, .int p2)]) hx hb dX12_clashes_92 hl (by decide) rfl (fun ls hl => ?_)
              obtain ⟨x_8, ex_8, hf⟩ := sf_ne hf
              refine ii_nc (lv' := [(6, .int x_8), (4, .int (0 : Int32)), (7, .int (1 : Int32)), (5, .int x_2), (0, .ref h0), (1, .int p0), (2, .int p1), (3, .int p2)]) (k := 2) hx hb dX12_clashes_94 hl rfl ex_8 (by decide) (by decide) rfl (fun ls hl => ?_)
              refine lv_goto (tgt := 16) hx hb dX12_clashes_97 (by decide) ?_
              exact ih _ _ _ _ _ hP hS (lv_sub hl [0, 3, 1, 4, 5, 6, 7] rfl) hf hk
            · have hf := sf_bn hf hc
              refine lv_iload_n hx hb dX12_clashes_77 rfl (lv_at hl 7 rfl) ?_
              refine lv_aload_n hx hb dX12_clashes_78 rfl (lv_at hl 4 rfl) ?_
              refine lv_iload hx hb dX12_clashes_79 (lv_at hl 1 rfl) ?_
              obtain ⟨r_9, hc9, hf⟩ := sf_c1e hf
              refine k_Pi (run_PV (As := [.int v_3]) (rest := [.int p2]) ⟨hx, hb, hml, hown, ha⟩ (c_X12_endOf l D dA h0 h1 h2 h3 h4 h5 h6 h7  ms mb mv mi mp mn mt mo mO mI mL mA mW mE mF mc mM v_3 _ hc9) (gi_V m_1777 m_1779 m_44 m_85 m_1780) yd_X12_endOf ⟨Nat.le_of_ble_eq_true rfl, Nat.le_of_ble_eq_true rfl⟩ ⟨rfl, rfl⟩ hK hP [0, 1, 2, 3, 4, 5, 6, 7] rfl 0 10 rfl rfl rfl rfl hl.1 rfl (Nat.le_of_ble_eq_true rfl) dX12_clashes_81 ⟨Nat.le_of_ble_eq_true rfl, Nat.le_of_ble_eq_true rfl⟩) hP hS (fun H locs hP hS => ?_)
              refine lv_icmp_ge (tgt := 91) hx hb dX12_clashes_84 (by decide) (fun hc => ?_) (fun hc => ?_)
              · have hf := sf_bp hf hc
                refine lv_iconst (v := 0) hx hb dX12_clashes_91 (by decide) ?_
                refine lv_istore (lv' := [(4, .int (0 : Int32)), (7, .int (1 : Int32)), (6, .int v_3), (5, .int x_2), (0, .ref h0), (1, .int p0), (2, .int p1), (3, .int p2)]) hx hb dX12_clashes_92 hl (by decide) rfl (fun ls hl => ?_)
                obtain ⟨x_10, ex_10, hf⟩ := sf_ne hf
                refine ii_nc (lv' := [(6, .int x_10), (4, .int (0 : Int32)), (7, .int (1 : Int32)), (5, .int x_2), (0, .ref h0), (1, .int p0), (2, .int p1), (3, .int p2)]) (k := 2) hx hb dX12_clashes_94 hl rfl ex_10 (by decide) (by decide) rfl (fun ls hl => ?_)
                refine lv_goto (tgt := 16) hx hb dX12_clashes_97 (by decide) ?_
                exact ih _ _ _ _ _ hP hS (lv_sub hl [0, 3, 1, 4, 5, 6, 7] rfl) hf hk
              · have hf := sf_bn hf hc
                refine lv_iconst (v := 1) hx hb dX12_clashes_87 (by decide) ?_
                refine lv_goto (tgt := 92) hx hb dX12_clashes_88 (by decide) ?_
                refine lv_istore (lv' := [(4, .int (1 : Int32)), (7, .int (1 : Int32)), (6, .int v_3), (5, .int x_2), (0, .ref h0), (1, .int p0), (2, .int p1), (3, .int p2)]) hx hb dX12_clashes_92 hl (by decide) rfl (fun ls hl => ?_)
                obtain ⟨x_11, ex_11, hf⟩ := sf_ne hf
                refine ii_nc (lv' := [(6, .int x_11), (4, .int (1 : Int32)), (7, .int (1 : Int32)), (5, .int x_2), (0, .ref h0), (1, .int p0), (2, .int p1), (3, .int p2)]) (k := 2) hx hb dX12_clashes_94 hl rfl ex_11 (by decide) (by decide) rfl (fun ls hl => ?_)
                refine lv_goto (tgt := 16) hx hb dX12_clashes_97 (by decide) ?_
                exact ih _ _ _ _ _ hP hS (lv_sub hl [0, 3, 1, 4, 5, 6, 7] rfl) hf hk
        · have hf := sf_bn hf hc
          refine lv_aload_n hx hb dX12_clashes_38 rfl (lv_at hl 3 rfl) ?_
          refine lv_iload hx hb dX12_clashes_39 (lv_at hl 0 rfl) ?_
          refine lv_iconst (v := 0) hx hb dX12_clashes_41 (by decide) ?_
          obtain ⟨r_12, hc12, hf⟩ := sf_c1e hf
          refine k_Pi (run_PV (As := [.int v_3, .int (0 : Int32)]) (rest := []) ⟨hx, hb, hml, hown, ha⟩ (c_X12_booking l D dA h0 h1 h2 h3 h4 h5 h6 h7  ms mb mv mi mp mn mt mo mO mI mL mA mW mE mF mc mM v_3 (0 : Int32) _ hc12) (gi_V m_1769 m_1771 m_42 m_85 m_1772) yd_X12_booking ⟨Nat.le_of_ble_eq_true rfl, Nat.le_of_ble_eq_true rfl⟩ ⟨rfl, rfl⟩ hK hP [0, 1, 2, 3, 4, 5, 6, 7] rfl 0 10 rfl rfl rfl rfl hl.1 rfl (Nat.le_of_ble_eq_true rfl) dX12_clashes_42 ⟨Nat.le_of_ble_eq_true rfl, Nat.le_of_ble_eq_true rfl⟩) hP hS (fun H locs hP hS => ?_)
          refine lv_iload_n hx hb dX12_clashes_45 rfl (lv_at hl 4 rfl) ?_
          refine lv_icmp_ne (tgt := 53) hx hb dX12_clashes_46 (by decide) (fun hc => ?_) (fun hc => ?_)
          · have hf := sf_bn hf hc
            refine lv_iconst (v := 0) hx hb dX12_clashes_53 (by decide) ?_
            refine lv_istore (lv' := [(7, .int (0 : Int32)), (6, .int v_3), (5, .int x_2), (4, .int v_4), (0, .ref h0), (1, .int p0), (2, .int p1), (3, .int p2)]) hx hb dX12_clashes_54 hl (by decide) rfl (fun ls hl => ?_)
            refine lv_iload hx hb dX12_clashes_56 (lv_at hl 3 rfl) ?_
            refine lv_if_ne (tgt := 87) hx hb dX12_clashes_58 (by decide) (fun hc => ?_) (fun hc => ?_)
            · have hf := sf_bn hf hc
              refine lv_iconst (v := 1) hx hb dX12_clashes_87 (by decide) ?_
              refine lv_goto (tgt := 92) hx hb dX12_clashes_88 (by decide) ?_
              refine lv_istore (lv' := [(4, .int (1 : Int32)), (7, .int (0 : Int32)), (6, .int v_3), (5, .int x_2), (0, .ref h0), (1, .int p0), (2, .int p1), (3, .int p2)]) hx hb dX12_clashes_92 hl (by decide) rfl (fun ls hl => ?_)
              obtain ⟨x_13, ex_13, hf⟩ := sf_ne hf
              refine ii_nc (lv' := [(6, .int x_13), (4, .int (1 : Int32)), (7, .int (0 : Int32)), (5, .int x_2), (0, .ref h0), (1, .int p0), (2, .int p1), (3, .int p2)]) (k := 2) hx hb dX12_clashes_94 hl rfl ex_13 (by decide) (by decide) rfl (fun ls hl => ?_)
              refine lv_goto (tgt := 16) hx hb dX12_clashes_97 (by decide) ?_
              exact ih _ _ _ _ _ hP hS (lv_sub hl [0, 3, 1, 4, 5, 6, 7] rfl) hf hk
            · have hf := sf_bp hf hc
              refine lv_iload hx hb dX12_clashes_61 (lv_at hl 0 rfl) ?_
              refine lv_if_eq (tgt := 91) hx hb dX12_clashes_63 (by decide) (fun hc => ?_) (fun hc => absurd (by decide) hc)
              refine lv_iconst (v := 0) hx hb dX12_clashes_91 (by decide) ?_
              refine lv_istore (lv' := [(4, .int (0 : Int32)), (7, .int (0 : Int32)), (6, .int v_3), (5, .int x_2), (0, .ref h0), (1, .int p0), (2, .int p1), (3, .int p2)]) hx hb dX12_clashes_92 hl (by decide) rfl (fun ls hl => ?_)
              obtain ⟨x_14, ex_14, hf⟩ := sf_ne hf
              refine ii_nc (lv' := [(6, .int x_14), (4, .int (0 : Int32)), (7, .int (0 : Int32)), (5, .int x_2), (0, .ref h0), (1, .int p0), (2, .int p1), (3, .int p2)]) (k := 2) hx hb dX12_clashes_94 hl rfl ex_14 (by decide) (by decide) rfl (fun ls hl => ?_)
              refine lv_goto (tgt := 16) hx hb dX12_clashes_97 (by decide) ?_
              exact ih _ _ _ _ _ hP hS (lv_sub hl [0, 3, 1, 4, 5, 6, 7] rfl) hf hk
          · have hf := sf_bp hf hc
            refine lv_iconst (v := 1) hx hb dX12_clashes_49 (by decide) ?_
            refine lv_goto (tgt := 54) hx hb dX12_clashes_50 (by decide) ?_
            refine lv_istore (lv' := [(7, .int (1 : Int32)), (6, .int v_3), (5, .int x_2), (4, .int v_4), (0, .ref h0), (1, .int p0), (2, .int p1), (3, .int p2)]) hx hb dX12_clashes_54 hl (by decide) rfl (fun ls hl => ?_)
            refine lv_iload hx hb dX12_clashes_56 (lv_at hl 3 rfl) ?_
            refine lv_if_ne (tgt := 87) hx hb dX12_clashes_58 (by decide) (fun hc => ?_) (fun hc => ?_)
            · have hf := sf_bn hf hc
              refine lv_iconst (v := 1) hx hb dX12_clashes_87 (by decide) ?_
              refine lv_goto (tgt := 92) hx hb dX12_clashes_88 (by decide) ?_
              refine lv_istore (lv' := [(4, .int (1 : Int32)), (7, .int (1 : Int32)), (6, .int v_3), (5, .int x_2), (0, .ref h0), (1, .int p0), (2, .int p1), (3, .int p2)]) hx hb dX12_clashes_92 hl (by decide) rfl (fun ls hl => ?_)
              obtain ⟨x_15, ex_15, hf⟩ := sf_ne hf
              refine ii_nc (lv' := [(6, .int x_15), (4, .int (1 : Int32)), (7, .int (1 : Int32)), (5, .int x_2), (0, .ref h0), (1, .int p0), (2, .int p1), (3, .int p2)]) (k := 2) hx hb dX12_clashes_94 hl rfl ex_15 (by decide) (by decide) rfl (fun ls hl => ?_)
              refine lv_goto (tgt := 16) hx hb dX12_clashes_97 (by decide) ?_
              exact ih _ _ _ _ _ hP hS (lv_sub hl [0, 3, 1, 4, 5, 6, 7] rfl) hf hk
            · have hf := sf_bp hf hc
              refine lv_iload hx hb dX12_clashes_61 (lv_at hl 0 rfl) ?_
              refine lv_if_eq (tgt := 91) hx hb dX12_clashes_63 (by decide) (fun hc => absurd hc (by decide)) (fun hc => ?_)
              refine lv_aload_n hx hb dX12_clashes_66 rfl (lv_at hl 4 rfl) ?_
              refine lv_iload hx hb dX12_clashes_67 (lv_at hl 1 rfl) ?_
              obtain ⟨r_16, hc16, hf⟩ := sf_c1e hf
              refine k_Pi (run_PV (As := [.int v_3]) (rest := []) ⟨hx, hb, hml, hown, ha⟩ (c_X12_startOf l D dA h0 h1 h2 h3 h4 h5 h6 h7  ms mb mv mi mp mn mt mo mO mI mL mA mW mE mF mc mM v_3 _ hc16) (gi_V m_1773 m_1775 m_43 m_85 m_1776) yd_X12_startOf ⟨Nat.le_of_ble_eq_true rfl, Nat.le_of_ble_eq_true rfl⟩ ⟨rfl, rfl⟩ hK hP [0, 1, 2, 3, 4, 5, 6, 7] rfl 0 10 rfl rfl rfl rfl hl.1 rfl (Nat.le_of_ble_eq_true rfl) dX12_clashes_69 ⟨Nat.le_of_ble_eq_true rfl, Nat.le_of_ble_eq_true rfl⟩) hP hS (fun H locs hP hS => ?_)
              refine lv_iload hx hb dX12_clashes_72 (lv_at hl 2 rfl) ?_
              refine lv_icmp_ge (tgt := 91) hx hb dX12_clashes_74 (by decide) (fun hc => ?_) (fun hc => ?_)
              · have hf := sf_bp hf hc
                refine lv_iconst (v := 0) hx hb dX12_clashes_91 (by decide) ?_
                refine lv_istore (lv' := [(4, .int (0 : Int32)), (7, .int (1 : Int32)), (6, .int v_3), (5, .int x_2), (0, .ref h0), (1, .int p0), (2, .int p1), (3, .int p2)]) hx hb dX12_clashes_92 hl (by decide) rfl (fun ls hl => ?_)
                obtain ⟨x_17, ex_17, hf⟩ := sf_ne hf
                refine ii_nc (lv' := [(6, .int x_17), (4, .int (0 : Int32)), (7, .int (1 : Int32)), (5, .int x_2), (0, .ref h0), (1, .int p0), (2, .int p1), (3, .int p2)]) (k := 2) hx hb dX12_clashes_94 hl rfl ex_17 (by decide) (by decide) rfl (fun ls hl => ?_)
                refine lv_goto (tgt := 16) hx hb dX12_clashes_97 (by decide) ?_
                exact ih _ _ _ _ _ hP hS (lv_sub hl [0, 3, 1, 4, 5, 6, 7] rfl) hf hk
              · have hf := sf_bn hf hc
                refine lv_iload_n hx hb dX12_clashes_77 rfl (lv_at hl 7 rfl) ?_
                refine lv_aload_n hx hb dX12_clashes_78 rfl (lv_at hl 4 rfl) ?_
                refine lv_iload hx hb dX12_clashes_79 (lv_at hl 1 rfl) ?_
                obtain ⟨r_18, hc18, hf⟩ := sf_c1e hf
                refine k_Pi (run_PV (As := [.int v_3]) (rest := [.int p2]) ⟨hx, hb, hml, hown, ha⟩ (c_X12_endOf l D dA h0 h1 h2 h3 h4 h5 h6 h7  ms mb mv mi mp mn mt mo mO mI mL mA mW mE mF mc mM v_3 _ hc18) (gi_V m_1777 m_1779 m_44 m_85 m_1780) yd_X12_endOf ⟨Nat.le_of_ble_eq_true rfl, Nat.le_of_ble_eq_true rfl⟩ ⟨rfl, rfl⟩ hK hP [0, 1, 2, 3, 4, 5, 6, 7] rfl 0 10 rfl rfl rfl rfl hl.1 rfl (Nat.le_of_ble_eq_true rfl) dX12_clashes_81 ⟨Nat.le_of_ble_eq_true rfl, Nat.le_of_ble_eq_true rfl⟩) hP hS (fun H locs hP hS => ?_)
                refine lv_icmp_ge (tgt := 91) hx hb dX12_clashes_84 (by decide) (fun hc => ?_) (fun hc => ?_)
                · have hf := sf_bp hf hc
                  refine lv_iconst (v := 0) hx hb dX12_clashes_91 (by decide) ?_
                  refine lv_istore (lv' := [(4, .int (0 : Int32)), (7, .int (1 : Int32)), (6, .int v_3), (5, .int x_2), (0, .ref h0), (1, .int p0), (2, .int p1), (3, .int p2)]) hx hb dX12_clashes_92 hl (by decide) rfl (fun ls hl => ?_)
                  obtain ⟨x_19, ex_19, hf⟩ := sf_ne hf
                  refine ii_nc (lv' := [(6, .int x_19), (4, .int (0 : Int32)), (7, .int (1 : Int32)), (5, .int x_2), (0, .ref h0), (1, .int p0), (2, .int p1), (3, .int p2)]) (k := 2) hx hb dX12_clashes_94 hl rfl ex_19 (by decide) (by decide) rfl (fun ls hl => ?_)
                  refine lv_goto (tgt := 16) hx hb dX12_clashes_97 (by decide) ?_
                  exact ih _ _ _ _ _ hP hS (lv_sub hl [0, 3, 1, 4, 5, 6, 7] rfl) hf hk
                · have hf := sf_bn hf hc
                  refine lv_iconst (v := 1) hx hb dX12_clashes_87 (by decide) ?_
                  refine lv_goto (tgt := 92) hx hb dX12_clashes_88 (by decide) ?_
                  refine lv_istore (lv' := [(4, .int (1 : Int32)), (7, .int (1 : Int32)), (6, .int v_3), (5, .int x_2), (0, .ref h0), (1, .int p0), (2, .int p1), (3, .int p2)]) hx hb dX12_clashes_92 hl (by decide) rfl (fun ls hl => ?_)
                  obtain ⟨x_20, ex_20, hf⟩ := sf_ne hf
                  refine ii_nc (lv' := [(6, .int x_20), (4, .int (1 : Int32)), (7, .int (1 : Int32)), (5, .int x_2), (0, .ref h0), (1, .int p0), (2, .int p1), (3, .int p2)]) (k := 2) hx hb dX12_clashes_94 hl rfl ex_20 (by decide) (by decide) rfl (fun ls hl => ?_)
                  refine lv_goto (tgt := 16) hx hb dX12_clashes_97 (by decide) ?_
                  exact ih _ _ _ _ _ hP hS (lv_sub hl [0, 3, 1, 4, 5, 6, 7] rfl) hf hk
  refine hL16 _ _ _ _ _ _ _ hP hS (lv_sub hl [0, 1, 2, 3, 4, 5, 6] rfl) hf (fun y_21 H locs ls hP hS hl hf => ?_)
  refine lv_iload hx hb dX12_clashes_100 (lv_at hl 0 rfl) ?_
  obtain ⟨hz, hf⟩ := sf_ge hf
  exact rt_Pz hx hb hr hlocks (Option.some.inj hf) (sf_z1 hz) hS dX12_clashes_102

def f_X12_makes (ms : Nat → Int32) (p0 : Int32) (p1 : Int32) (p2 : Int32) : Option (Int32 × (Nat → Int32)) :=
  sf_g (sf_in (2 : Int32) 158 = true) (sf_n ((ms (2 : Int32).toNatClampNeg)) (fun x_1 => sf_c1 (f_X12_slide ms p1 (1 : Int32)) (fun r_2 => sf_c1 (f_X12_pays ms p0 r_2) (fun a_3 => sf_g (sf_in ((74 : Int32) + ((3 : Int32) * x_1)) 158 = true) (sf_n (upd a_3 ((74 : Int32) + ((3 : Int32) * x_1)).toNatClampNeg p0) (fun a_4 => sf_g (sf_in (((74 : Int32) + ((3 : Int32) * x_1)) + (1 : Int32)) 158 = true) (sf_n (upd a_4 (((74 : Int32) + ((3 : Int32) * x_1)) + (1 : Int32)).toNatClampNeg p1) (fun a_5 => sf_g (sf_in (((74 : Int32) + ((3 : Int32) * x_1)) + (2 : Int32)) 158 = true) (sf_n (upd a_5 (((74 : Int32) + ((3 : Int32) * x_1)) + (2 : Int32)).toNatClampNeg p2) (fun a_6 => sf_g (sf_in (2 : Int32) 158 = true) (sf_g (sf_in (2 : Int32) 158 = true) (sf_n (upd a_6 (2 : Int32).toNatClampNeg ((a_6 (2 : Int32).toNatClampNeg) + (1 : Int32))) (fun a_7 => some (x_1, a_7))))))))))))))
theorem yd_X12_makes : yX12_makes.cls = RX12 ∧ yX12_makes.cls ≠ "java/lang/invoke/MethodHandle" ∧ yX12_makes.cls ≠ "java/lang/invoke/VarHandle" ∧ (parseMethodDescriptor yX12_makes.desc).map (fun d => d.parameters.length) = some 3 := ⟨rfl, by decide, by decide, by decide +kernel⟩
set_option maxRecDepth 100000 in
set_option maxHeartbeats 4000000 in
theorem c_X12_makes (l : Launch) (D : va_G) (dA : Nat → ClassId) (h0 h1 h2 h3 h4 h5 h6 h7 : Nat) (sz : Nat) (ms : Nat → Int32) (mb : Nat → Int32) (mv : Nat → Int32) (mi : Int32) (mp : Nat → Int32) (mn : Int32) (mt : Int32) (mo : Nat → Int32) (mO : Int32) (mI : Nat → Int32) (mL : Int32) (mA : Int32) (mW : Int32) (mE : Int32) (mF : Int32) (mc : Nat → Int32) (mM : Int32) (p0 : Int32) (p1 : Int32) (p2 : Int32) (rr : Int32) (q_ms : Nat → Int32) (hf : f_X12_makes ms p0 p1 p2 = some (rr, q_ms)) : Met l yX12_makes (wo (.code yX12_makes cX12_makes 5 (some .int))) ({ frames := 1, cells := 0, slots := 0, locals := 22 } : Room) (preM D dA [.ref h0, .int p0, .int p1, .int p2] sz [(h0, .inr (10, [.ref h1, .ref h2, .ref h3, .int mi, .ref h4, .int mn, .int mt, .ref h5, .int mO, .ref h6, .int mL, .int mA, .int mW, .int mE, .int mF, .ref h7, .int mM])), (h1, .inl (dA 0, 158, .inl ms)), (h2, .inl (dA 0, 158, .inl mb)), (h3, .inl (dA 0, 158, .inl mv)), (h4, .inl (dA 0, 1264, .inl mp)), (h5, .inl (dA 1, 180, .inl mo)), (h6, .inl (dA 1, 60, .inl mI)), (h7, .inl (dA 0, 240, .inl mc))]) (poMi D rr [(h0, .inr (10, [.ref h1, .ref h2, .ref h3, .int mi, .ref h4, .int mn, .int mt, .ref h5, .int mO, .ref h6, .int mL, .int mA, .int mW, .int mE, .int mF, .ref h7, .int mM])), (h1, .inl (dA 0, 158, .inl q_ms)), (h2, .inl (dA 0, 158, .inl mb)), (h3, .inl (dA 0, 158, .inl mv)), (h4, .inl (dA 0, 1264, .inl mp)), (h5, .inl (dA 1, 180, .inl mo)), (h6, .inl (dA 1, 60, .inl mI)), (h7, .inl (dA 0, 240, .inl mc))] (va_A [(h0, .inr (10, [.ref h1, .ref h2, .ref h3, .int mi, .ref h4, .int mn, .int mt, .ref h5, .int mO, .ref h6, .int mL, .int mA, .int mW, .int mE, .int mF, .ref h7, .int mM])), (h1, .inl (dA 0, 158, .inl ms)), (h2, .inl (dA 0, 158, .inl mb)), (h3, .inl (dA 0, 158, .inl mv)), (h4, .inl (dA 0, 1264, .inl mp)), (h5, .inl (dA 1, 180, .inl mo)), (h6, .inl (dA 1, 60, .inl mI)), (h7, .inl (dA 0, 240, .inl mc))] sz)) 0 0 (va_A [(h0, .inr (10, [.ref h1, .ref h2, .ref h3, .int mi, .ref h4, .int mn, .int mt, .ref h5, .int mO, .ref h6, .int mL, .int mA, .int mW, .int mE, .int mF, .ref h7, .int mM])), (h1, .inl (dA 0, 158, .inl ms)), (h2, .inl (dA 0, 158, .inl mb)), (h3, .inl (dA 0, 158, .inl mv)), (h4, .inl (dA 0, 1264, .inl mp)), (h5, .inl (dA 1, 180, .inl mo)), (h6, .inl (dA 1, 60, .inl mI)), (h7, .inl (dA 0, 240, .inl mc))] sz) := by
  refine of_M (y := yX12_makes) (av := [.ref h0, .int p0, .int p1, .int p2]) (ws := [(h0, .inr (10, [.ref h1, .ref h2, .ref h3, .int mi, .ref h4, .int mn, .int mt, .ref h5, .int mO, .ref h6, .int mL, .int mA, .int mW, .int mE, .int mF, .ref h7, .int mM])), (h1, .inl (dA 0, 158, .inl ms)), (h2, .inl (dA 0, 158, .inl mb)), (h3, .inl (dA 0, 158, .inl mv)), (h4, .inl (dA 0, 1264, .inl mp)), (h5, .inl (dA 1, 180, .inl mo)), (h6, .inl (dA 1, 60, .inl mI)), (h7, .inl (dA 0, 240, .inl mc))]) (sz := sz) (own := RX12) (Qc := poMi D rr [(h0, .inr (10, [.ref h1, .ref h2, .ref h3, .int mi, .ref h4, .int mn, .int mt, .ref h5, .int mO, .ref h6, .int mL, .int mA, .int mW, .int mE, .int mF, .ref h7, .int mM])), (h1, .inl (dA 0, 158, .inl q_ms)), (h2, .inl (dA 0, 158, .inl mb)), (h3, .inl (dA 0, 158, .inl mv)), (h4, .inl (dA 0, 1264, .inl mp)), (h5, .inl (dA 1, 180, .inl mo)), (h6, .inl (dA 1, 60, .inl mI)), (h7, .inl (dA 0, 240, .inl mc))]) (by decide) rfl (Nat.le_of_ble_eq_true rfl) ?_
  intro p e s m below meth c A hx hb hr ha hown hml hlocks hin hP hK hD hS hA ls hl
  have hl : lv_has ls 5 [(0, .ref h0), (1, .int p0), (2, .int p1), (3, .int p2)] := hl
  rw [f_X12_makes] at hf
  refine lv_aload_n hx hb dX12_makes_0 rfl (lv_at hl 0 rfl) ?_
  refine gt_f (C := RX12) (T := TX12) (N := 17) hx hb ha in_X12 hown hK hP 0 rfl rfl 0 (by decide) m_1649 rfl dX12_makes_1 ?_
  refine lv_iconst (v := 2) hx hb dX12_makes_4 (by decide) ?_
  obtain ⟨hi, hf⟩ := sf_ge hf
  refine ia_ld hx hb hK hP 1 rfl hi dX12_makes_5 ?_
  obtain ⟨x_1, ex_1, hf⟩ := sf_ne hf
  refine tp_i ex_1 ?_
  refine lv_istore (lv' := [(4, .int x_1), (0, .ref h0), (1, .int p0), (2, .int p1), (3, .int p2)]) hx hb dX12_makes_6 hl (by decide) rfl (fun ls hl => ?_)
  refine lv_aload_n hx hb dX12_makes_8 rfl (lv_at hl 1 rfl) ?_
  refine lv_iload_n hx hb dX12_makes_9 rfl (lv_at hl 2 rfl) ?_
  refine lv_aload_n hx hb dX12_makes_10 rfl (lv_at hl 1 rfl) ?_
  refine lv_iload_n hx hb dX12_makes_11 rfl (lv_at hl 3 rfl) ?_
  refine lv_iconst (v := 1) hx hb dX12_makes_12 (by decide) ?_
  obtain ⟨r_2, hc2, hf⟩ := sf_c1e hf
  refine k_Pi (run_PV (As := [.int p1, .int (1 : Int32)]) (rest := [.int p0, .ref h0]) ⟨hx, hb, hml, hown, ha⟩ (c_X12_slide l D dA h0 h1 h2 h3 h4 h5 h6 h7  ms mb mv mi mp mn mt mo mO mI mL mA mW mE mF mc mM p1 (1 : Int32) _ hc2) (gi_V m_1761 m_1763 m_40 m_85 m_1764) yd_X12_slide ⟨Nat.le_of_ble_eq_true rfl, Nat.le_of_ble_eq_true rfl⟩ ⟨rfl, rfl⟩ hK hP [0, 1, 2, 3, 4, 5, 6, 7] rfl 0 10 rfl rfl rfl rfl hl.1 rfl (Nat.le_of_ble_eq_true rfl) dX12_makes_13 ⟨Nat.le_of_ble_eq_true rfl, Nat.le_of_ble_eq_true rfl⟩) hP hS (fun H locs hP hS => ?_)
  obtain ⟨a_3, hc3, hf⟩ := sf_c1e hf
  refine k_Mv (wr := []) (run_MV (As := [.int p0, .int r_2]) (rest := []) ⟨hx, hb, hml, hown, ha⟩ (c_X12_pays l D dA h0 h1 h2 h3 h4 h5 h6 h7 _ ms mb mv mi mp mn mt mo mO mI mL mA mW mE mF mc mM p0 r_2 _ hc3) (gi_V m_1785 m_1787 m_46 m_85 m_1788) yd_X12_pays ⟨Nat.le_of_ble_eq_true rfl, Nat.le_of_ble_eq_true rfl⟩ ⟨rfl, rfl⟩ hK hP hD [0, 1, 2, 3, 4, 5, 6, 7] (by decide) rfl 0 10 rfl rfl rfl rfl hl.1 rfl (Nat.le_of_ble_eq_true rfl) dX12_makes_16 ⟨Nat.le_of_ble_eq_true rfl, Nat.le_of_ble_eq_true rfl⟩) hP hD hS hA [0, 1, 2, 3, 4, 5, 6, 7] [] rfl rfl (by decide) (by decide) (fun H locs hP hD hS => ?_)
  refine lv_aload_n hx hb dX12_makes_19 rfl (lv_at hl 1 rfl) ?_
  refine gt_f (C := RX12) (T := TX12) (N := 17) hx hb ha in_X12 hown hK hP 0 rfl rfl 0 (by decide) m_1649 rfl dX12_makes_20 ?_
  refine lv_bipush (v := 74) hx hb dX12_makes_23 (by decide) ?_
  refine lv_iconst (v := 3) hx hb dX12_makes_25 (by decide) ?_
  refine lv_iload hx hb dX12_makes_26 (lv_at hl 0 rfl) ?_
  refine lv_imul hx hb dX12_makes_28 ?_
  refine lv_iadd hx hb dX12_makes_29 ?_
  refine lv_iload_n hx hb dX12_makes_30 rfl (lv_at hl 2 rfl) ?_
  obtain ⟨hi, hf⟩ := sf_ge hf
  obtain ⟨a_4, ea_4, hf⟩ := sf_ne hf
  refine ia_st (ws' := [(h0, .inr (10, [.ref h1, .ref h2, .ref h3, .int mi, .ref h4, .int mn, .int mt, .ref h5, .int mO, .ref h6, .int mL, .int mA, .int mW, .int mE, .int mF, .ref h7, .int mM])), (h1, .inl (dA 0, 158, .inl a_4)), (h2, .inl (dA 0, 158, .inl mb)), (h3, .inl (dA 0, 158, .inl mv)), (h4, .inl (dA 0, 1264, .inl mp)), (h5, .inl (dA 1, 180, .inl mo)), (h6, .inl (dA 1, 60, .inl mI)), (h7, .inl (dA 0, 240, .inl mc))]) hx hb hK hP hD hS 1 rfl hi ea_4 rfl dX12_makes_31 (fun H locs hP hD hS => ?_)
  refine lv_aload_n hx hb dX12_makes_32 rfl (lv_at hl 1 rfl) ?_
  refine gt_f (C := RX12) (T := TX12) (N := 17) hx hb ha in_X12 hown hK hP 0 rfl rfl 0 (by decide) m_1649 rfl dX12_makes_33 ?_
  refine lv_bipush (v := 74) hx hb dX12_makes_36 (by decide) ?_
  refine lv_iconst (v := 3) hx hb dX12_makes_38 (by decide) ?_
  refine lv_iload hx hb dX12_makes_39 (lv_at hl 0 rfl) ?_
  refine lv_imul hx hb dX12_makes_41 ?_
  refine lv_iadd hx hb dX12_makes_42 ?_
  refine lv_iconst (v := 1) hx hb dX12_makes_43 (by decide) ?_
  refine lv_iadd hx hb dX12_makes_44 ?_
  refine lv_iload_n hx hb dX12_makes_45 rfl (lv_at hl 3 rfl) ?_
  obtain ⟨hi, hf⟩ := sf_ge hf
  obtain ⟨a_5, ea_5, hf⟩ := sf_ne hf
  refine ia_st (ws' := [(h0, .inr (10, [.ref h1, .ref h2, .ref h3, .int mi, .ref h4, .int mn, .int mt, .ref h5, .int mO, .ref h6, .int mL, .int mA, .int mW, .int mE, .int mF, .ref h7, .int mM])), (h1, .inl (dA 0, 158, .inl a_5)), (h2, .inl (dA 0, 158, .inl mb)), (h3, .inl (dA 0, 158, .inl mv)), (h4, .inl (dA 0, 1264, .inl mp)), (h5, .inl (dA 1, 180, .inl mo)), (h6, .inl (dA 1, 60, .inl mI)), (h7, .inl (dA 0, 240, .inl mc))]) hx hb hK hP hD hS 1 rfl hi ea_5 rfl dX12_makes_46 (fun H locs hP hD hS => ?_)
  refine lv_aload_n hx hb dX12_makes_47 rfl (lv_at hl 1 rfl) ?_
  refine gt_f (C := RX12) (T := TX12) (N := 17) hx hb ha in_X12 hown hK hP 0 rfl rfl 0 (by decide) m_1649 rfl dX12_makes_48 ?_
  refine lv_bipush (v := 74) hx hb dX12_makes_51 (by decide) ?_
  refine lv_iconst (v := 3) hx hb dX12_makes_53 (by decide) ?_
  refine lv_iload hx hb dX12_makes_54 (lv_at hl 0 rfl) ?_
  refine lv_imul hx hb dX12_makes_56 ?_
  refine lv_iadd hx hb dX12_makes_57 ?_
  refine lv_iconst (v := 2) hx hb dX12_makes_58 (by decide) ?_
  refine lv_iadd hx hb dX12_makes_59 ?_
  refine lv_iload_n hx hb dX12_makes_60 rfl (lv_at hl 4 rfl) ?_
  obtain ⟨hi, hf⟩ := sf_ge hf
  obtain ⟨a_6, ea_6, hf⟩ := sf_ne hf
  refine ia_st (ws' := [(h0, .inr (10, [.ref h1, .ref h2, .ref h3, .int mi, .ref h4, .int mn, .int mt, .ref h5, .int mO, .ref h6, .int mL, .int mA, .int mW, .int mE, .int mF, .ref h7, .int mM])), (h1, .inl (dA 0, 158, .inl a_6)), (h2, .inl (dA 0, 158, .inl mb)), (h3, .inl (dA 0, 158, .inl mv)), (h4, .inl (dA 0, 1264, .inl mp)), (h5, .inl (dA 1, 180, .inl mo)), (h6, .inl (dA 1, 60, .inl mI)), (h7, .inl (dA 0, 240, .inl mc))]) hx hb hK hP hD hS 1 rfl hi ea_6 rfl dX12_makes_61 (fun H locs hP hD hS => ?_)
  refine lv_aload_n hx hb dX12_makes_62 rfl (lv_at hl 1 rfl) ?_
  refine gt_f (C := RX12) (T := TX12) (N := 17) hx hb ha in_X12 hown hK hP 0 rfl rfl 0 (by decide) m_1649 rfl dX12_makes_63 ?_
  refine lv_iconst (v := 2) hx hb dX12_makes_66 (by decide) ?_
  refine lv_dup2_11 hx hb dX12_makes_67 rfl rfl ?_
  obtain ⟨hi, hf⟩ := sf_ge hf
  refine ia_ld hx hb hK hP 1 rfl hi dX12_makes_68 ?_
  refine lv_iconst (v := 1) hx hb dX12_makes_69 (by decide) ?_
  refine lv_iadd hx hb dX12_makes_70 ?_
  obtain ⟨hi, hf⟩ := sf_ge hf
  obtain ⟨a_7, ea_7, hf⟩ := sf_ne hf
  refine ia_st (ws' := [(h0, .inr (10, [.ref h1, .ref h2, .ref h3, .int mi, .ref h4, .int mn, .int mt, .ref h5, .int mO, .ref h6, .int mL, .int mA, .int mW, .int mE, .int mF, .ref h7, .int mM])), (h1, .inl (dA 0, 158, .inl a_7)), (h2, .inl (dA 0, 158, .inl mb)), (h3, .inl (dA 0, 158, .inl mv)), (h4, .inl (dA 0, 1264, .inl mp)), (h5, .inl (dA 1, 180, .inl mo)), (h6, .inl (dA 1, 60, .inl mI)), (h7, .inl (dA 0, 240, .inl mc))]) hx hb hK hP hD hS 1 rfl hi ea_7 rfl dX12_makes_71 (fun H locs hP hD hS => ?_)
  refine lv_iload hx hb dX12_makes_72 (lv_at hl 0 rfl) ?_
  cases hf
  exact rt_Mi hx hb hr hlocks (hP.sub [0, 1, 2, 3, 4, 5, 6, 7] rfl) (hD.sub [0, 1, 2, 3, 4, 5, 6, 7] (by decide) rfl) hS dX12_makes_74

def f_X12_doBook (ms : Nat → Int32) (mt : Int32) (p0 : Int32) (p1 : Int32) (p2 : Int32) : Option (Int32 × (Nat → Int32) × Int32) :=
  sf_c1 (f_X12_isGuest ms p0) (fun r_1 => sf_b (r_1 = (0 : Int32)) (sf_c2 (f_X12_fails mt (1 : Int32)) (fun r_2 x_3 => some (r_2, ms, x_3))) (sf_c1 (f_X12_isSlide ms p1) (fun r_4 => sf_b (r_4 = (0 : Int32)) (sf_c2 (f_X12_fails mt (1 : Int32)) (fun r_19 x_20 => some (r_19, ms, x_20))) (sf_c1 (f_X12_isStart ms p2) (fun r_5 => sf_b (r_5 = (0 : Int32)) (sf_c2 (f_X12_fails mt (2 : Int32)) (fun r_17 x_18 => some (r_17, ms, x_18))) (sf_g (sf_in (2 : Int32) 158 = true) (sf_b ((ms (2 : Int32).toNatClampNeg) = (12 : Int32)) (sf_c2 (f_X12_fails mt (3 : Int32)) (fun r_6 x_7 => some (r_6, ms, x_7))) (sf_c1 (f_X12_guest ms p0 (0 : Int32)) (fun r_8 => sf_c1 (f_X12_slide ms p1 (1 : Int32)) (fun r_9 => sf_b (r_9 ≤ r_8) (sf_c1 (f_X12_clashes ms p0 p1 p2) (fun r_10 => sf_b (r_10 = (0 : Int32)) (sf_c2 (f_X12_makes ms p0 p1 p2) (fun r_11 a_12 => some (r_11, a_12, mt))) (sf_c2 (f_X12_fails mt (4 : Int32)) (fun r_13 x_14 => some (r_13, ms, x_14))))) (sf_c2 (f_X12_fails mt (3 : Int32)) (fun r_15 x_16 => some (r_15, ms, x_16)))))))))))))
theorem yd_X12_doBook : yX12_doBook.cls = RX12 ∧ yX12_doBook.cls ≠ "java/lang/invoke/MethodHandle" ∧ yX12_doBook.cls ≠ "java/lang/invoke/VarHandle" ∧ (parseMethodDescriptor yX12_doBook.desc).map (fun d => d.parameters.length) = some 3 := ⟨rfl, by decide, by decide, by decide +kernel⟩
set_option maxRecDepth 100000 in
set_option maxHeartbeats 4000000 in
theorem c_X12_doBook (l : Launch) (D : va_G) (dA : Nat → ClassId) (h0 h1 h2 h3 h4 h5 h6 h7 : Nat) (sz : Nat) (ms : Nat → Int32) (mb : Nat → Int32) (mv : Nat → Int32) (mi : Int32) (mp : Nat → Int32) (mn : Int32) (mt : Int32) (mo : Nat → Int32) (mO : Int32) (mI : Nat → Int32) (mL : Int32) (mA : Int32) (mW : Int32) (mE : Int32) (mF : Int32) (mc : Nat → Int32) (mM : Int32) (p0 : Int32) (p1 : Int32) (p2 : Int32) (rr : Int32) (q_ms : Nat → Int32) (q_mt : Int32) (hf : f_X12_doBook ms mt p0 p1 p2 = some (rr, q_ms, q_mt)) : Met l yX12_doBook (wo (.code yX12_doBook cX12_doBook 4 (some .int))) ({ frames := 4, cells := 0, slots := 0, locals := 91 } : Room) (preM D dA [.ref h0, .int p0, .int p1, .int p2] sz [(h0, .inr (10, [.ref h1, .ref h2, .ref h3, .int mi, .ref h4, .int mn, .int mt, .ref h5, .int mO, .ref h6, .int mL, .int mA, .int mW, .int mE, .int mF, .ref h7, .int mM])), (h1, .inl (dA 0, 158, .inl ms)), (h2, .inl (dA 0, 158, .inl mb)), (h3, .inl (dA 0, 158, .inl mv)), (h4, .inl (dA 0, 1264, .inl mp)), (h5, .inl (dA 1, 180, .inl mo)), (h6, .inl (dA 1, 60, .inl mI)), (h7, .inl (dA 0, 240, .inl mc))]) (poMi D rr [(h0, .inr (10, [.ref h1, .ref h2, .ref h3, .int mi, .ref h4, .int mn, .int q_mt, .ref h5, .int mO, .ref h6, .int mL, .int mA, .int mW, .int mE, .int mF, .ref h7, .int mM])), (h1, .inl (dA 0, 158, .inl q_ms)), (h2, .inl (dA 0, 158, .inl mb)), (h3, .inl (dA 0, 158, .inl mv)), (h4, .inl (dA 0, 1264, .inl mp)), (h5, .inl (dA 1, 180, .inl mo)), (h6, .inl (dA 1, 60, .inl mI)), (h7, .inl (dA 0, 240, .inl mc))] (va_A [(h0, .inr (10, [.ref h1, .ref h2, .ref h3, .int mi, .ref h4, .int mn, .int mt, .ref h5, .int mO, .ref h6, .int mL, .int mA, .int mW, .int mE, .int mF, .ref h7, .int mM])), (h1, .inl (dA 0, 158, .inl ms)), (h2, .inl (dA 0, 158, .inl mb)), (h3, .inl (dA 0, 158, .inl mv)), (h4, .inl (dA 0, 1264, .inl mp)), (h5, .inl (dA 1, 180, .inl mo)), (h6, .inl (dA 1, 60, .inl mI)), (h7, .inl (dA 0, 240, .inl mc))] sz)) 0 0 (va_A [(h0, .inr (10, [.ref h1, .ref h2, .ref h3, .int mi, .ref h4, .int mn, .int mt, .ref h5, .int mO, .ref h6, .int mL, .int mA, .int mW, .int mE, .int mF, .ref h7, .int mM])), (h1, .inl (dA 0, 158, .inl ms)), (h2, .inl (dA 0, 158, .inl mb)), (h3, .inl (dA 0, 158, .inl mv)), (h4, .inl (dA 0, 1264, .inl mp)), (h5, .inl (dA 1, 180, .inl mo)), (h6, .inl (dA 1, 60, .inl mI)), (h7, .inl (dA 0, 240, .inl mc))] sz) := by
  refine of_M (y := yX12_doBook) (av := [.ref h0, .int p0, .int p1, .int p2]) (ws := [(h0, .inr (10, [.ref h1, .ref h2, .ref h3, .int mi, .ref h4, .int mn, .int mt, .ref h5, .int mO, .ref h6, .int mL, .int mA, .int mW, .int mE, .int mF, .ref h7, .int mM])), (h1, .inl (dA 0, 158, .inl ms)), (h2, .inl (dA 0, 158, .inl mb)), (h3, .inl (dA 0, 158, .inl mv)), (h4, .inl (dA 0, 1264, .inl mp)), (h5, .inl (dA 1, 180, .inl mo)), (h6, .inl (dA 1, 60, .inl mI)), (h7, .inl (dA 0, 240, .inl mc))]) (sz := sz) (own := RX12) (Qc := poMi D rr [(h0, .inr (10, [.ref h1, .ref h2, .ref h3, .int mi, .ref h4, .int mn, .int q_mt, .ref h5, .int mO, .ref h6, .int mL, .int mA, .int mW, .int mE, .int mF, .ref h7, .int mM])), (h1, .inl (dA 0, 158, .inl q_ms)), (h2, .inl (dA 0, 158, .inl mb)), (h3, .inl (dA 0, 158, .inl mv)), (h4, .inl (dA 0, 1264, .inl mp)), (h5, .inl (dA 1, 180, .inl mo)), (h6, .inl (dA 1, 60, .inl mI)), (h7, .inl (dA 0, 240, .inl mc))]) (by decide) rfl (Nat.le_of_ble_eq_true rfl) ?_
  intro p e s m below meth c A hx hb hr ha hown hml hlocks hin hP hK hD hS hA ls hl
  have hl : lv_has ls 4 [(0, .ref h0), (1, .int p0), (2, .int p1), (3, .int p2)] := hl
  rw [f_X12_doBook] at hf
  refine lv_aload_n hx hb dX12_doBook_0 rfl (lv_at hl 0 rfl) ?_
  refine lv_iload_n hx hb dX12_doBook_1 rfl (lv_at hl 1 rfl) ?_
  obtain ⟨r_1, hc1, hf⟩ := sf_c1e hf
  refine k_Pi (run_PV (As := [.int p0]) (rest := []) ⟨hx, hb, hml, hown, ha⟩ (c_X12_isGuest l D dA h0 h1 h2 h3 h4 h5 h6 h7  ms mb mv mi mp mn mt mo mO mI mL mA mW mE mF mc mM p0 _ hc1) (gi_V m_1745 m_1747 m_36 m_85 m_1748) yd_X12_isGuest ⟨Nat.le_of_ble_eq_true rfl, Nat.le_of_ble_eq_true rfl⟩ ⟨rfl, rfl⟩ hK hP [0, 1, 2, 3, 4, 5, 6, 7] rfl 0 10 rfl rfl rfl rfl hl.1 rfl (Nat.le_of_ble_eq_true rfl) dX12_doBook_2 ⟨Nat.le_of_ble_eq_true rfl, Nat.le_of_ble_eq_true rfl⟩) hP hS (fun H locs hP hS => ?_)
  refine lv_if_eq (tgt := 16) hx hb dX12_doBook_5 (by decide) (fun hc => ?_) (fun hc => ?_)
  · have hf := sf_bp hf hc
    refine lv_aload_n hx hb dX12_doBook_16 rfl (lv_at hl 0 rfl) ?_
    refine lv_iconst (v := 1) hx hb dX12_doBook_17 (by decide) ?_
    obtain ⟨r_2, x_3, hc3, hf⟩ := sf_c2e hf
    refine k_Mi (wr := []) (run_MV (As := [.int (1 : Int32)]) (rest := []) ⟨hx, hb, hml, hown, ha⟩ (c_X12_fails l D dA h0 h1 h2 h3 h4 h5 h6 h7 _ ms mb mv mi mp mn mt mo mO mI mL mA mW mE mF mc mM (1 : Int32) _ _ hc3) (gi_V m_1721 m_1723 m_32 m_85 m_1724) yd_X12_fails ⟨Nat.le_of_ble_eq_true rfl, Nat.le_of_ble_eq_true rfl⟩ ⟨rfl, rfl⟩ hK hP hD [0, 1, 2, 3, 4, 5, 6, 7] (by decide) rfl 0 10 rfl rfl rfl rfl hl.1 rfl (Nat.le_of_ble_eq_true rfl) dX12_doBook_18 ⟨Nat.le_of_ble_eq_true rfl, Nat.le_of_ble_eq_true rfl⟩) hP hD hS hA [0, 1, 2, 3, 4, 5, 6, 7] [] rfl rfl (by decide) (by decide) (fun H locs hP hD hS => ?_)
    cases hf
    exact rt_Mi hx hb hr hlocks (hP.sub [0, 1, 2, 3, 4, 5, 6, 7] rfl) (hD.sub [0, 1, 2, 3, 4, 5, 6, 7] (by decide) rfl) hS dX12_doBook_21
  · have hf := sf_bn hf hc
    refine lv_aload_n hx hb dX12_doBook_8 rfl (lv_at hl 0 rfl) ?_
    refine lv_iload_n hx hb dX12_doBook_9 rfl (lv_at hl 2 rfl) ?_
    obtain ⟨r_4, hc4, hf⟩ := sf_c1e hf
    refine k_Pi (run_PV (As := [.int p1]) (rest := []) ⟨hx, hb, hml, hown, ha⟩ (c_X12_isSlide l D dA h0 h1 h2 h3 h4 h5 h6 h7  ms mb mv mi mp mn mt mo mO mI mL mA mW mE mF mc mM p1 _ hc4) (gi_V m_1749 m_1751 m_37 m_85 m_1752) yd_X12_isSlide ⟨Nat.le_of_ble_eq_true rfl, Nat.le_of_ble_eq_true rfl⟩ ⟨rfl, rfl⟩ hK hP [0, 1, 2, 3, 4, 5, 6, 7] rfl 0 10 rfl rfl rfl rfl hl.1 rfl (Nat.le_of_ble_eq_true rfl) dX12_doBook_10 ⟨Nat.le_of_ble_eq_true rfl, Nat.le_of_ble_eq_true rfl⟩) hP hS (fun H locs hP hS => ?_)
    refine lv_if_ne (tgt := 22) hx hb dX12_doBook_13 (by decide) (fun hc => ?_) (fun hc => ?_)
    · have hf := sf_bn hf hc
      refine lv_aload_n hx hb dX12_doBook_22 rfl (lv_at hl 0 rfl) ?_
      refine lv_iload_n hx hb dX12_doBook_23 rfl (lv_at hl 3 rfl) ?_
      obtain ⟨r_5, hc5, hf⟩ := sf_c1e hf
      refine k_Pi (run_PV (As := [.int p2]) (rest := []) ⟨hx, hb, hml, hown, ha⟩ (c_X12_isStart l D dA h0 h1 h2 h3 h4 h5 h6 h7  ms mb mv mi mp mn mt mo mO mI mL mA mW mE mF mc mM p2 _ hc5) (gi_V m_1753 m_1755 m_38 m_85 m_1756) yd_X12_isStart ⟨Nat.le_of_ble_eq_true rfl, Nat.le_of_ble_eq_true rfl⟩ ⟨rfl, rfl⟩ hK hP [0, 1, 2, 3, 4, 5, 6, 7] rfl 0 10 rfl rfl rfl rfl hl.1 rfl (Nat.le_of_ble_eq_true rfl) dX12_doBook_24 ⟨Nat.le_of_ble_eq_true rfl, Nat.le_of_ble_eq_true rfl⟩) hP hS (fun H locs hP hS => ?_)
      refine lv_if_ne (tgt := 36) hx hb dX12_doBook_27 (by decide) (fun hc => ?_) (fun hc => ?_)
      · have hf := sf_bn hf hc
        refine lv_aload_n hx hb dX12_doBook_36 rfl (lv_at hl 0 rfl) ?_
        refine gt_f (C := RX12) (T := TX12) (N := 17) hx hb ha in_X12 hown hK hP 0 rfl rfl 0 (by decide) m_1649 rfl dX12_doBook_37 ?_
        refine lv_iconst (v := 2) hx hb dX12_doBook_40 (by decide) ?_
        obtain ⟨hi, hf⟩ := sf_ge hf
        refine ia_ld hx hb hK hP 1 rfl hi dX12_doBook_41 ?_
        refine lv_bipush (v := 12) hx hb dX12_doBook_42 (by decide) ?_
        refine lv_icmp_eq (tgt := 62) hx hb dX12_doBook_44 (by decide) (fun hc => ?_) (fun hc => ?_)
        · have hf := sf_bp hf hc
          refine lv_aload_n hx hb dX12_doBook_62 rfl (lv_at hl 0 rfl) ?_
          refine lv_iconst (v := 3) hx hb dX12_doBook_63 (by decide) ?_
          obtain ⟨r_6, x_7, hc7, hf⟩ := sf_c2e hf
          refine k_Mi (wr := []) (run_MV (As := [.int (3 : Int32)]) (rest := []) ⟨hx, hb, hml, hown, ha⟩ (c_X12_fails l D dA h0 h1 h2 h3 h4 h5 h6 h7 _ ms mb mv mi mp mn mt mo mO mI mL mA mW mE mF mc mM (3 : Int32) _ _ hc7) (gi_V m_1721 m_1723 m_32 m_85 m_1724) yd_X12_fails ⟨Nat.le_of_ble_eq_true rfl, Nat.le_of_ble_eq_true rfl⟩ ⟨rfl, rfl⟩ hK hP hD [0, 1, 2, 3, 4, 5, 6, 7] (by decide) rfl 0 10 rfl rfl rfl rfl hl.1 rfl (Nat.le_of_ble_eq_true rfl) dX12_doBook_64 ⟨Nat.le_of_ble_eq_true rfl, Nat.le_of_ble_eq_true rfl⟩) hP hD hS hA [0, 1, 2, 3, 4, 5, 6, 7] [] rfl rfl (by decide) (by decide) (fun H locs hP hD hS => ?_)
          cases hf
          exact rt_Mi hx hb hr hlocks (hP.sub [0, 1, 2, 3, 4, 5, 6, 7] rfl) (hD.sub [0, 1, 2, 3, 4, 5, 6, 7] (by decide) rfl) hS dX12_doBook_67
        · have hf := sf_bn hf hc
          refine lv_aload_n hx hb dX12_doBook_47 rfl (lv_at hl 0 rfl) ?_
          refine lv_iload_n hx hb dX12_doBook_48 rfl (lv_at hl 1 rfl) ?_
          refine lv_iconst (v := 0) hx hb dX12_doBook_49 (by decide) ?_
          obtain ⟨r_8, hc8, hf⟩ := sf_c1e hf
          refine k_Pi (run_PV (As := [.int p0, .int (0 : Int32)]) (rest := []) ⟨hx, hb, hml, hown, ha⟩ (c_X12_guest l D dA h0 h1 h2 h3 h4 h5 h6 h7  ms mb mv mi mp mn mt mo mO mI mL mA mW mE mF mc mM p0 (0 : Int32) _ hc8) (gi_V m_1757 m_1759 m_39 m_85 m_1760) yd_X12_guest ⟨Nat.le_of_ble_eq_true rfl, Nat.le_of_ble_eq_true rfl⟩ ⟨rfl, rfl⟩ hK hP [0, 1, 2, 3, 4, 5, 6, 7] rfl 0 10 rfl rfl rfl rfl hl.1 rfl (Nat.le_of_ble_eq_true rfl) dX12_doBook_50 ⟨Nat.le_of_ble_eq_true rfl, Nat.le_of_ble_eq_true rfl⟩) hP hS (fun H locs hP hS => ?_)
          refine lv_aload_n hx hb dX12_doBook_53 rfl (lv_at hl 0 rfl) ?_
          refine lv_iload_n hx hb dX12_doBook_54 rfl (lv_at hl 2 rfl) ?_
          refine lv_iconst (v := 1) hx hb dX12_doBook_55 (by decide) ?_
          obtain ⟨r_9, hc9, hf⟩ := sf_c1e hf
          refine k_Pi (run_PV (As := [.int p1, .int (1 : Int32)]) (rest := [.int r_8]) ⟨hx, hb, hml, hown, ha⟩ (c_X12_slide l D dA h0 h1 h2 h3 h4 h5 h6 h7  ms mb mv mi mp mn mt mo mO mI mL mA mW mE mF mc mM p1 (1 : Int32) _ hc9) (gi_V m_1761 m_1763 m_40 m_85 m_1764) yd_X12_slide ⟨Nat.le_of_ble_eq_true rfl, Nat.le_of_ble_eq_true rfl⟩ ⟨rfl, rfl⟩ hK hP [0, 1, 2, 3, 4, 5, 6, 7] rfl 0 10 rfl rfl rfl rfl hl.1 rfl (Nat.le_of_ble_eq_true rfl) dX12_doBook_56 ⟨Nat.le_of_ble_eq_true rfl, Nat.le_of_ble_eq_true rfl⟩) hP hS (fun H locs hP hS => ?_)
          refine lv_icmp_ge (tgt := 68) hx hb dX12_doBook_59 (by decide) (fun hc => ?_) (fun hc => ?_)
          · have hf := sf_bp hf hc
            refine lv_aload_n hx hb dX12_doBook_68 rfl (lv_at hl 0 rfl) ?_
            refine lv_iload_n hx hb dX12_doBook_69 rfl (lv_at hl 1 rfl) ?_
            refine lv_iload_n hx hb dX12_doBook_70 rfl (lv_at hl 2 rfl) ?_
            refine lv_iload_n hx hb dX12_doBook_71 rfl (lv_at hl 3 rfl) ?_
            obtain ⟨r_10, hc10, hf⟩ := sf_c1e hf
            refine k_Pi (run_PV (As := [.int p0, .int p1, .int p2]) (rest := []) ⟨hx, hb, hml, hown, ha⟩ (c_X12_clashes l D dA h0 h1 h2 h3 h4 h5 h6 h7  ms mb mv mi mp mn mt mo mO mI mL mA mW mE mF mc mM p0 p1 p2 _ hc10) (gi_V m_1765 m_1767 m_41 m_85 m_1768) yd_X12_clashes ⟨Nat.le_of_ble_eq_true rfl, Nat.le_of_ble_eq_true rfl⟩ ⟨rfl, rfl⟩ hK hP [0, 1, 2, 3, 4, 5, 6, 7] rfl 0 10 rfl rfl rfl rfl hl.1 rfl (Nat.le_of_ble_eq_true rfl) dX12_doBook_72 ⟨Nat.le_of_ble_eq_true rfl, Nat.le_of_ble_eq_true rfl⟩) hP hS (fun H locs hP hS => ?_)
            refine lv_if_eq (tgt := 84) hx hb dX12_doBook_75 (by decide) (fun hc => ?_) (fun hc => ?_)
            · have hf := sf_bp hf hc
              refine lv_aload_n hx hb dX12_doBook_84 rfl (lv_at hl 0 rfl) ?_
              refine lv_iload_n hx hb dX12_doBook_85 rfl (lv_at hl 1 rfl) ?_
              refine lv_iload_n hx hb dX12_doBook_86 rfl (lv_at hl 2 rfl) ?_
              refine lv_iload_n hx hb dX12_doBook_87 rfl (lv_at hl 3 rfl) ?_
              obtain ⟨r_11, a_12, hc12, hf⟩ := sf_c2e hf
              refine k_Mi (wr := []) (run_MV (As := [.int p0, .int p1, .int p2]) (rest := []) ⟨hx, hb, hml, hown, ha⟩ (c_X12_makes l D dA h0 h1 h2 h3 h4 h5 h6 h7 _ ms mb mv mi mp mn mt mo mO mI mL mA mW mE mF mc mM p0 p1 p2 _ _ hc12) (gi_V m_1781 m_1783 m_45 m_85 m_1784) yd_X12_makes ⟨Nat.le_of_ble_eq_true rfl, Nat.le_of_ble_eq_true rfl⟩ ⟨rfl, rfl⟩ hK hP hD [0, 1, 2, 3, 4, 5, 6, 7] (by decide) rfl 0 10 rfl rfl rfl rfl hl.1 rfl (Nat.le_of_ble_eq_true rfl) dX12_doBook_88 ⟨Nat.le_of_ble_eq_true rfl, Nat.le_of_ble_eq_true rfl⟩) hP hD hS hA [0, 1, 2, 3, 4, 5, 6, 7] [] rfl rfl (by decide) (by decide) (fun H locs hP hD hS => ?_)
              cases hf
              exact rt_Mi hx hb hr hlocks (hP.sub [0, 1, 2, 3, 4, 5, 6, 7] rfl) (hD.sub [0, 1, 2, 3, 4, 5, 6, 7] (by decide) rfl) hS dX12_doBook_91
            · have hf := sf_bn hf hc
              refine lv_aload_n hx hb dX12_doBook_78 rfl (lv_at hl 0 rfl) ?_
              refine lv_iconst (v := 4) hx hb dX12_doBook_79 (by decide) ?_
              obtain ⟨r_13, x_14, hc14, hf⟩ := sf_c2e hf
              refine k_Mi (wr := []) (run_MV (As := [.int (4 : Int32)]) (rest := []) ⟨hx, hb, hml, hown, ha⟩ (c_X12_fails l D dA h0 h1 h2 h3 h4 h5 h6 h7 _ ms mb mv mi mp mn mt mo mO mI mL mA mW mE mF mc mM (4 : Int32) _ _ hc14) (gi_V m_1721 m_1723 m_32 m_85 m_1724) yd_X12_fails ⟨Nat.le_of_ble_eq_true rfl, Nat.le_of_ble_eq_true rfl⟩ ⟨rfl, rfl⟩ hK hP hD [0, 1, 2, 3, 4, 5, 6, 7] (by decide) rfl 0 10 rfl rfl rfl rfl hl.1 rfl (Nat.le_of_ble_eq_true rfl) dX12_doBook_80 ⟨Nat.le_of_ble_eq_true rfl, Nat.le_of_ble_eq_true rfl⟩) hP hD hS hA [0, 1, 2, 3, 4, 5, 6, 7] [] rfl rfl (by decide) (by decide) (fun H locs hP hD hS => ?_)
              cases hf
              exact rt_Mi hx hb hr hlocks (hP.sub [0, 1, 2, 3, 4, 5, 6, 7] rfl) (hD.sub [0, 1, 2, 3, 4, 5, 6, 7] (by decide) rfl) hS dX12_doBook_83
          · have hf := sf_bn hf hc
            refine lv_aload_n hx hb dX12_doBook_62 rfl (lv_at hl 0 rfl) ?_
            refine lv_iconst (v := 3) hx hb dX12_doBook_63 (by decide) ?_
            obtain ⟨r_15, x_16, hc16, hf⟩ := sf_c2e hf
            refine k_Mi (wr := []) (run_MV (As := [.int (3 : Int32)]) (rest := []) ⟨hx, hb, hml, hown, ha⟩ (c_X12_fails l D dA h0 h1 h2 h3 h4 h5 h6 h7 _ ms mb mv mi mp mn mt mo mO mI mL mA mW mE mF mc mM (3 : Int32) _ _ hc16) (gi_V m_1721 m_1723 m_32 m_85 m_1724) yd_X12_fails ⟨Nat.le_of_ble_eq_true rfl, Nat.le_of_ble_eq_true rfl⟩ ⟨rfl, rfl⟩ hK hP hD [0, 1, 2, 3, 4, 5, 6, 7] (by decide) rfl 0 10 rfl rfl rfl rfl hl.1 rfl (Nat.le_of_ble_eq_true rfl) dX12_doBook_64 ⟨Nat.le_of_ble_eq_true rfl, Nat.le_of_ble_eq_true rfl⟩) hP hD hS hA [0, 1, 2, 3, 4, 5, 6, 7] [] rfl rfl (by decide) (by decide) (fun H locs hP hD hS => ?_)
            cases hf
            exact rt_Mi hx hb hr hlocks (hP.sub [0, 1, 2, 3, 4, 5, 6, 7] rfl) (hD.sub [0, 1, 2, 3, 4, 5, 6, 7] (by decide) rfl) hS dX12_doBook_67
      · have hf := sf_bp hf hc
        refine lv_aload_n hx hb dX12_doBook_30 rfl (lv_at hl 0 rfl) ?_
        refine lv_iconst (v := 2) hx hb dX12_doBook_31 (by decide) ?_
        obtain ⟨r_17, x_18, hc18, hf⟩ := sf_c2e hf
        refine k_Mi (wr := []) (run_MV (As := [.int (2 : Int32)]) (rest := []) ⟨hx, hb, hml, hown, ha⟩ (c_X12_fails l D dA h0 h1 h2 h3 h4 h5 h6 h7 _ ms mb mv mi mp mn mt mo mO mI mL mA mW mE mF mc mM (2 : Int32) _ _ hc18) (gi_V m_1721 m_1723 m_32 m_85 m_1724) yd_X12_fails ⟨Nat.le_of_ble_eq_true rfl, Nat.le_of_ble_eq_true rfl⟩ ⟨rfl, rfl⟩ hK hP hD [0, 1, 2, 3, 4, 5, 6, 7] (by decide) rfl 0 10 rfl rfl rfl rfl hl.1 rfl (Nat.le_of_ble_eq_true rfl) dX12_doBook_32 ⟨Nat.le_of_ble_eq_true rfl, Nat.le_of_ble_eq_true rfl⟩) hP hD hS hA [0, 1, 2, 3, 4, 5, 6, 7] [] rfl rfl (by decide) (by decide) (fun H locs hP hD hS => ?_)
        cases hf
        exact rt_Mi hx hb hr hlocks (hP.sub [0, 1, 2, 3, 4, 5, 6, 7] rfl) (hD.sub [0, 1, 2, 3, 4, 5, 6, 7] (by decide) rfl) hS dX12_doBook_35
    · have hf := sf_bp hf hc
      refine lv_aload_n hx hb dX12_doBook_16 rfl (lv_at hl 0 rfl) ?_
      refine lv_iconst (v := 1) hx hb dX12_doBook_17 (by decide) ?_
      obtain ⟨r_19, x_20, hc20, hf⟩ := sf_c2e hf
      refine k_Mi (wr := []) (run_MV (As := [.int (1 : Int32)]) (rest := []) ⟨hx, hb, hml, hown, ha⟩ (c_X12_fails l D dA h0 h1 h2 h3 h4 h5 h6 h7 _ ms mb mv mi mp mn mt mo mO mI mL mA mW mE mF mc mM (1 : Int32) _ _ hc20) (gi_V m_1721 m_1723 m_32 m_85 m_1724) yd_X12_fails ⟨Nat.le_of_ble_eq_true rfl, Nat.le_of_ble_eq_true rfl⟩ ⟨rfl, rfl⟩ hK hP hD [0, 1, 2, 3, 4, 5, 6, 7] (by decide) rfl 0 10 rfl rfl rfl rfl hl.1 rfl (Nat.le_of_ble_eq_true rfl) dX12_doBook_18 ⟨Nat.le_of_ble_eq_true rfl, Nat.le_of_ble_eq_true rfl⟩) hP hD hS hA [0, 1, 2, 3, 4, 5, 6, 7] [] rfl rfl (by decide) (by decide) (fun H locs hP hD hS => ?_)
      cases hf
      exact rt_Mi hx hb hr hlocks (hP.sub [0, 1, 2, 3, 4, 5, 6, 7] rfl) (hD.sub [0, 1, 2, 3, 4, 5, 6, 7] (by decide) rfl) hS dX12_doBook_21

def f_X12_book (ms : Nat → Int32) (mb : Nat → Int32) (mp : Nat → Int32) (mn : Int32) (mt : Int32) (p0 : Int32) (p1 : Int32) (p2 : Int32) : Option (Int32 × (Nat → Int32) × (Nat → Int32) × (Nat → Int32) × Int32 × Int32) :=
  sf_c2 (f_X12_keep ms mb mt) (fun a_1 x_2 => sf_c3 (f_X12_doBook ms x_2 p0 p1 p2) (fun r_3 a_4 x_5 => sf_c4 (f_X12_ends a_4 a_1 mp mn x_5 r_3) (fun r_6 a_7 a_8 x_9 => some (r_6, a_7, a_1, a_8, x_9, x_5))))
theorem yd_X12_book : yX12_book.cls = RX12 ∧ yX12_book.cls ≠ "java/lang/invoke/MethodHandle" ∧ yX12_book.cls ≠ "java/lang/invoke/VarHandle" ∧ (parseMethodDescriptor yX12_book.desc).map (fun d => d.parameters.length) = some 3 := ⟨rfl, by decide, by decide, by decide +kernel⟩
set_option maxRecDepth 100000 in
set_option maxHeartbeats 4000000 in
theorem c_X12_book (l : Launch) (D : va_G) (dA : Nat → ClassId) (h0 h1 h2 h3 h4 h5 h6 h7 : Nat) (sz : Nat) (ms : Nat → Int32) (mb : Nat → Int32) (mv : Nat → Int32) (mi : Int32) (mp : Nat → Int32) (mn : Int32) (mt : Int32) (mo : Nat → Int32) (mO : Int32) (mI : Nat → Int32) (mL : Int32) (mA : Int32) (mW : Int32) (mE : Int32) (mF : Int32) (mc : Nat → Int32) (mM : Int32) (p0 : Int32) (p1 : Int32) (p2 : Int32) (rr : Int32) (q_ms : Nat → Int32) (q_mb : Nat → Int32) (q_mp : Nat → Int32) (q_mn : Int32) (q_mt : Int32) (hf : f_X12_book ms mb mp mn mt p0 p1 p2 = some (rr, q_ms, q_mb, q_mp, q_mn, q_mt)) : Met l yX12_book (wo (.code yX12_book cX12_book 4 (some .int))) ({ frames := 5, cells := 0, slots := 0, locals := 114 } : Room) (preM D dA [.ref h0, .int p0, .int p1, .int p2] sz [(h0, .inr (10, [.ref h1, .ref h2, .ref h3, .int mi, .ref h4, .int mn, .int mt, .ref h5, .int mO, .ref h6, .int mL, .int mA, .int mW, .int mE, .int mF, .ref h7, .int mM])), (h1, .inl (dA 0, 158, .inl ms)), (h2, .inl (dA 0, 158, .inl mb)), (h3, .inl (dA 0, 158, .inl mv)), (h4, .inl (dA 0, 1264, .inl mp)), (h5, .inl (dA 1, 180, .inl mo)), (h6, .inl (dA 1, 60, .inl mI)), (h7, .inl (dA 0, 240, .inl mc))]) (poMi D rr [(h0, .inr (10, [.ref h1, .ref h2, .ref h3, .int mi, .ref h4, .int q_mn, .int q_mt, .ref h5, .int mO, .ref h6, .int mL, .int mA, .int mW, .int mE, .int mF, .ref h7, .int mM])), (h1, .inl (dA 0, 158, .inl q_ms)), (h2, .inl (dA 0, 158, .inl q_mb)), (h3, .inl (dA 0, 158, .inl mv)), (h4, .inl (dA 0, 1264, .inl q_mp)), (h5, .inl (dA 1, 180, .inl mo)), (h6, .inl (dA 1, 60, .inl mI)), (h7, .inl (dA 0, 240, .inl mc))] (va_A [(h0, .inr (10, [.ref h1, .ref h2, .ref h3, .int mi, .ref h4, .int mn, .int mt, .ref h5, .int mO, .ref h6, .int mL, .int mA, .int mW, .int mE, .int mF, .ref h7, .int mM])), (h1, .inl (dA 0, 158, .inl ms)), (h2, .inl (dA 0, 158, .inl mb)), (h3, .inl (dA 0, 158, .inl mv)), (h4, .inl (dA 0, 1264, .inl mp)), (h5, .inl (dA 1, 180, .inl mo)), (h6, .inl (dA 1, 60, .inl mI)), (h7, .inl (dA 0, 240, .inl mc))] sz)) 0 0 (va_A [(h0, .inr (10, [.ref h1, .ref h2, .ref h3, .int mi, .ref h4, .int mn, .int mt, .ref h5, .int mO, .ref h6, .int mL, .int mA, .int mW, .int mE, .int mF, .ref h7, .int mM])), (h1, .inl (dA 0, 158, .inl ms)), (h2, .inl (dA 0, 158, .inl mb)), (h3, .inl (dA 0, 158, .inl mv)), (h4, .inl (dA 0, 1264, .inl mp)), (h5, .inl (dA 1, 180, .inl mo)), (h6, .inl (dA 1, 60, .inl mI)), (h7, .inl (dA 0, 240, .inl mc))] sz) := by
  refine of_M (y := yX12_book) (av := [.ref h0, .int p0, .int p1, .int p2]) (ws := [(h0, .inr (10, [.ref h1, .ref h2, .ref h3, .int mi, .ref h4, .int mn, .int mt, .ref h5, .int mO, .ref h6, .int mL, .int mA, .int mW, .int mE, .int mF, .ref h7, .int mM])), (h1, .inl (dA 0, 158, .inl ms)), (h2, .inl (dA 0, 158, .inl mb)), (h3, .inl (dA 0, 158, .inl mv)), (h4, .inl (dA 0, 1264, .inl mp)), (h5, .inl (dA 1, 180, .inl mo)), (h6, .inl (dA 1, 60, .inl mI)), (h7, .inl (dA 0, 240, .inl mc))]) (sz := sz) (own := RX12) (Qc := poMi D rr [(h0, .inr (10, [.ref h1, .ref h2, .ref h3, .int mi, .ref h4, .int q_mn, .int q_mt, .ref h5, .int mO, .ref h6, .int mL, .int mA, .int mW, .int mE, .int mF, .ref h7, .int mM])), (h1, .inl (dA 0, 158, .inl q_ms)), (h2, .inl (dA 0, 158, .inl q_mb)), (h3, .inl (dA 0, 158, .inl mv)), (h4, .inl (dA 0, 1264, .inl q_mp)), (h5, .inl (dA 1, 180, .inl mo)), (h6, .inl (dA 1, 60, .inl mI)), (h7, .inl (dA 0, 240, .inl mc))]) (by decide) rfl (Nat.le_of_ble_eq_true rfl) ?_
  intro p e s m below meth c A hx hb hr ha hown hml hlocks hin hP hK hD hS hA ls hl
  have hl : lv_has ls 4 [(0, .ref h0), (1, .int p0), (2, .int p1), (3, .int p2)] := hl
  rw [f_X12_book] at hf
  refine lv_aload_n hx hb dX12_book_0 rfl (lv_at hl 0 rfl) ?_
  obtain ⟨a_1, x_2, hc2, hf⟩ := sf_c2e hf
  refine k_Mv (wr := []) (run_MV (As := []) (rest := []) ⟨hx, hb, hml, hown, ha⟩ (c_X12_keep l D dA h0 h1 h2 h3 h4 h5 h6 h7 _ ms mb mv mi mp mn mt mo mO mI mL mA mW mE mF mc mM _ _ hc2) (gi_V m_1709 m_1711 m_30 m_85 m_1712) yd_X12_keep ⟨Nat.le_of_ble_eq_true rfl, Nat.le_of_ble_eq_true rfl⟩ ⟨rfl, rfl⟩ hK hP hD [0, 1, 2, 3, 4, 5, 6, 7] (by decide) rfl 0 10 rfl rfl rfl rfl hl.1 rfl (Nat.le_of_ble_eq_true rfl) dX12_book_1 ⟨Nat.le_of_ble_eq_true rfl, Nat.le_of_ble_eq_true rfl⟩) hP hD hS hA [0, 1, 2, 3, 4, 5, 6, 7] [] rfl rfl (by decide) (by decide) (fun H locs hP hD hS => ?_)
  refine lv_aload_n hx hb dX12_book_4 rfl (lv_at hl 0 rfl) ?_
  refine lv_aload_n hx hb dX12_book_5 rfl (lv_at hl 0 rfl) ?_
  refine lv_iload_n hx hb dX12_book_6 rfl (lv_at hl 1 rfl) ?_
  refine lv_iload_n hx hb dX12_book_7 rfl (lv_at hl 2 rfl) ?_
  refine lv_iload_n hx hb dX12_book_8 rfl (lv_at hl 3 rfl) ?_
  obtain ⟨r_3, a_4, x_5, hc5, hf⟩ := sf_c3e hf
  refine k_Mi (wr := []) (run_MV (As := [.int p0, .int p1, .int p2]) (rest := [.ref h0]) ⟨hx, hb, hml, hown, ha⟩ (c_X12_doBook l D dA h0 h1 h2 h3 h4 h5 h6 h7 _ ms a_1 mv mi mp mn x_2 mo mO mI mL mA mW mE mF mc mM p0 p1 p2 _ _ _ hc5) (gi_V m_1741 m_1743 m_35 m_85 m_1744) yd_X12_doBook ⟨Nat.le_of_ble_eq_true rfl, Nat.le_of_ble_eq_true rfl⟩ ⟨rfl, rfl⟩ hK hP hD [0, 1, 2, 3, 4, 5, 6, 7] (by decide) rfl 0 10 rfl rfl rfl rfl hl.1 rfl (Nat.le_of_ble_eq_true rfl) dX12_book_9 ⟨Nat.le_of_ble_eq_true rfl, Nat.le_of_ble_eq_true rfl⟩) hP hD hS hA [0, 1, 2, 3, 4, 5, 6, 7] [] rfl rfl (by decide) (by decide) (fun H locs hP hD hS => ?_)
  obtain ⟨r_6, a_7, a_8, x_9, hc9, hf⟩ := sf_c4e hf
  refine k_Mi (wr := []) (run_MV (As := [.int r_3]) (rest := []) ⟨hx, hb, hml, hown, ha⟩ (c_X12_ends l D dA h0 h1 h2 h3 h4 h5 h6 h7 _ a_4 a_1 mv mi mp mn x_5 mo mO mI mL mA mW mE mF mc mM r_3 _ _ _ _ hc9) (gi_V m_1725 m_1727 m_33 m_85 m_1728) yd_X12_ends ⟨Nat.le_of_ble_eq_true rfl, Nat.le_of_ble_eq_true rfl⟩ ⟨rfl, rfl⟩ hK hP hD [0, 1, 2, 3, 4, 5, 6, 7] (by decide) rfl 0 10 rfl rfl rfl rfl hl.1 rfl (Nat.le_of_ble_eq_true rfl) dX12_book_12 ⟨Nat.le_of_ble_eq_true rfl, Nat.le_of_ble_eq_true rfl⟩) hP hD hS hA [0, 1, 2, 3, 4, 5, 6, 7] [] rfl rfl (by decide) (by decide) (fun H locs hP hD hS => ?_)
  cases hf
  exact rt_Mi hx hb hr hlocks (hP.sub [0, 1, 2, 3, 4, 5, 6, 7] rfl) (hD.sub [0, 1, 2, 3, 4, 5, 6, 7] (by decide) rfl) hS dX12_book_15

def f_X12_drops (ms : Nat → Int32) (p0 : Int32) : Option (Nat → Int32) :=
  sf_g (sf_in (2 : Int32) 158 = true) (sf_g (sf_in (2 : Int32) 158 = true) (sf_n (upd ms (2 : Int32).toNatClampNeg ((ms (2 : Int32).toNatClampNeg) - (1 : Int32))) (fun a_1 => sf_n (((74 : Int32) + ((3 : Int32) * p0))) (fun x_2 => sf_g (sf_in (2 : Int32) 158 = true) (sf_g ((¬ (x_2 + (3 : Int32)) < 0 ∧ ¬ x_2 < 0 ∧ ¬ ((3 : Int32) * ((a_1 (2 : Int32).toNatClampNeg) - p0)) < 0) ∧ (x_2 + (3 : Int32)).toNatClampNeg + ((3 : Int32) * ((a_1 (2 : Int32).toNatClampNeg) - p0)).toNatClampNeg ≤ 158 ∧ x_2.toNatClampNeg + ((3 : Int32) * ((a_1 (2 : Int32).toNatClampNeg) - p0)).toNatClampNeg ≤ 158) (sf_n (va_cpy a_1 a_1 (x_2 + (3 : Int32)).toNatClampNeg x_2.toNatClampNeg ((3 : Int32) * ((a_1 (2 : Int32).toNatClampNeg) - p0)).toNatClampNeg) (fun a_3 => some a_3)))))))
theorem yd_X12_drops : yX12_drops.cls = RX12 ∧ yX12_drops.cls ≠ "java/lang/invoke/MethodHandle" ∧ yX12_drops.cls ≠ "java/lang/invoke/VarHandle" ∧ (parseMethodDescriptor yX12_drops.desc).map (fun d => d.parameters.length) = some 1 := ⟨rfl, by decide, by decide, by decide +kernel⟩
set_option maxRecDepth 100000 in
set_option maxHeartbeats 4000000 in
theorem c_X12_drops (l : Launch) (D : va_G) (dA : Nat → ClassId) (h0 h1 h2 h3 h4 h5 h6 h7 : Nat) (sz : Nat) (ms : Nat → Int32) (mb : Nat → Int32) (mv : Nat → Int32) (mi : Int32) (mp : Nat → Int32) (mn : Int32) (mt : Int32) (mo : Nat → Int32) (mO : Int32) (mI : Nat → Int32) (mL : Int32) (mA : Int32) (mW : Int32) (mE : Int32) (mF : Int32) (mc : Nat → Int32) (mM : Int32) (p0 : Int32) (q_ms : Nat → Int32) (hf : f_X12_drops ms p0 = some q_ms) : Met l yX12_drops (wo (.code yX12_drops cX12_drops 3 none)) ({ frames := 1, cells := 0, slots := 0, locals := 90 } : Room) (preM D dA [.ref h0, .int p0] sz [(h0, .inr (10, [.ref h1, .ref h2, .ref h3, .int mi, .ref h4, .int mn, .int mt, .ref h5, .int mO, .ref h6, .int mL, .int mA, .int mW, .int mE, .int mF, .ref h7, .int mM])), (h1, .inl (dA 0, 158, .inl ms)), (h2, .inl (dA 0, 158, .inl mb)), (h3, .inl (dA 0, 158, .inl mv)), (h4, .inl (dA 0, 1264, .inl mp)), (h5, .inl (dA 1, 180, .inl mo)), (h6, .inl (dA 1, 60, .inl mI)), (h7, .inl (dA 0, 240, .inl mc))]) (poMv D [(h0, .inr (10, [.ref h1, .ref h2, .ref h3, .int mi, .ref h4, .int mn, .int mt, .ref h5, .int mO, .ref h6, .int mL, .int mA, .int mW, .int mE, .int mF, .ref h7, .int mM])), (h1, .inl (dA 0, 158, .inl q_ms)), (h2, .inl (dA 0, 158, .inl mb)), (h3, .inl (dA 0, 158, .inl mv)), (h4, .inl (dA 0, 1264, .inl mp)), (h5, .inl (dA 1, 180, .inl mo)), (h6, .inl (dA 1, 60, .inl mI)), (h7, .inl (dA 0, 240, .inl mc))] (va_A [(h0, .inr (10, [.ref h1, .ref h2, .ref h3, .int mi, .ref h4, .int mn, .int mt, .ref h5, .int mO, .ref h6, .int mL, .int mA, .int mW, .int mE, .int mF, .ref h7, .int mM])), (h1, .inl (dA 0, 158, .inl ms)), (h2, .inl (dA 0, 158, .inl mb)), (h3, .inl (dA 0, 158, .inl mv)), (h4, .inl (dA 0, 1264, .inl mp)), (h5, .inl (dA 1, 180, .inl mo)), (h6, .inl (dA 1, 60, .inl mI)), (h7, .inl (dA 0, 240, .inl mc))] sz)) 0 0 (va_A [(h0, .inr (10, [.ref h1, .ref h2, .ref h3, .int mi, .ref h4, .int mn, .int mt, .ref h5, .int mO, .ref h6, .int mL, .int mA, .int mW, .int mE, .int mF, .ref h7, .int mM])), (h1, .inl (dA 0, 158, .inl ms)), (h2, .inl (dA 0, 158, .inl mb)), (h3, .inl (dA 0, 158, .inl mv)), (h4, .inl (dA 0, 1264, .inl mp)), (h5, .inl (dA 1, 180, .inl mo)), (h6, .inl (dA 1, 60, .inl mI)), (h7, .inl (dA 0, 240, .inl mc))] sz) := by
  refine of_M (y := yX12_drops) (av := [.ref h0, .int p0]) (ws := [(h0, .inr (10, [.ref h1, .ref h2, .ref h3, .int mi, .ref h4, .int mn, .int mt, .ref h5, .int mO, .ref h6, .int mL, .int mA, .int mW, .int mE, .int mF, .ref h7, .int mM])), (h1, .inl (dA 0, 158, .inl ms)), (h2, .inl (dA 0, 158, .inl mb)), (h3, .inl (dA 0, 158, .inl mv)), (h4, .inl (dA 0, 1264, .inl mp)), (h5, .inl (dA 1, 180, .inl mo)), (h6, .inl (dA 1, 60, .inl mI)), (h7, .inl (dA 0, 240, .inl mc))]) (sz := sz) (own := RX12) (Qc := poMv D [(h0, .inr (10, [.ref h1, .ref h2, .ref h3, .int mi, .ref h4, .int mn, .int mt, .ref h5, .int mO, .ref h6, .int mL, .int mA, .int mW, .int mE, .int mF, .ref h7, .int mM])), (h1, .inl (dA 0, 158, .inl q_ms)), (h2, .inl (dA 0, 158, .inl mb)), (h3, .inl (dA 0, 158, .inl mv)), (h4, .inl (dA 0, 1264, .inl mp)), (h5, .inl (dA 1, 180, .inl mo)), (h6, .inl (dA 1, 60, .inl mI)), (h7, .inl (dA 0, 240, .inl mc))]) (by decide) rfl (Nat.le_of_ble_eq_true rfl) ?_
  intro p e s m below meth c A hx hb hr ha hown hml hlocks hin hP hK hD hS hA ls hl
  have hl : lv_has ls 3 [(0, .ref h0), (1, .int p0)] := hl
  rw [f_X12_drops] at hf
  refine lv_aload_n hx hb dX12_drops_0 rfl (lv_at hl 0 rfl) ?_
  refine gt_f (C := RX12) (T := TX12) (N := 17) hx hb ha in_X12 hown hK hP 0 rfl rfl 0 (by decide) m_1649 rfl dX12_drops_1 ?_
  refine lv_iconst (v := 2) hx hb dX12_drops_4 (by decide) ?_
  refine lv_dup2_11 hx hb dX12_drops_5 rfl rfl ?_
  obtain ⟨hi, hf⟩ := sf_ge hf
  refine ia_ld hx hb hK hP 1 rfl hi dX12_drops_6 ?_
  refine lv_iconst (v := 1) hx hb dX12_drops_7 (by decide) ?_
  refine lv_isub hx hb dX12_drops_8 ?_
  obtain ⟨hi, hf⟩ := sf_ge hf
  obtain ⟨a_1, ea_1, hf⟩ := sf_ne hf
  refine ia_st (ws' := [(h0, .inr (10, [.ref h1, .ref h2, .ref h3, .int mi, .ref h4, .int mn, .int mt, .ref h5, .int mO, .ref h6, .int mL, .int mA, .int mW, .int mE, .int mF, .ref h7, .int mM])), (h1, .inl (dA 0, 158, .inl a_1)), (h2, .inl (dA 0, 158, .inl mb)), (h3, .inl (dA 0, 158, .inl mv)), (h4, .inl (dA 0, 1264, .inl mp)), (h5, .inl (dA 1, 180, .inl mo)), (h6, .inl (dA 1, 60, .inl mI)), (h7, .inl (dA 0, 240, .inl mc))]) hx hb hK hP hD hS 1 rfl hi ea_1 rfl dX12_drops_9 (fun H locs hP hD hS => ?_)
  refine lv_bipush (v := 74) hx hb dX12_drops_10 (by decide) ?_
  refine lv_iconst (v := 3) hx hb dX12_drops_12 (by decide) ?_
  refine lv_iload_n hx hb dX12_drops_13 rfl (lv_at hl 1 rfl) ?_
  refine lv_imul hx hb dX12_drops_14 ?_
  refine lv_iadd hx hb dX12_drops_15 ?_
  obtain ⟨x_2, ex_2, hf⟩ := sf_ne hf
  refine tp_i ex_2 ?_
  refine lv_istore_n (lv' := [(2, .int x_2), (0, .ref h0), (1, .int p0)]) hx hb dX12_drops_16 rfl hl (by decide) rfl (fun ls hl => ?_)
  refine lv_aload_n hx hb dX12_drops_17 rfl (lv_at hl 1 rfl) ?_
  refine gt_f (C := RX12) (T := TX12) (N := 17) hx hb ha in_X12 hown hK hP 0 rfl rfl 0 (by decide) m_1649 rfl dX12_drops_18 ?_
  refine lv_iload_n hx hb dX12_drops_21 rfl (lv_at hl 0 rfl) ?_
  refine lv_iconst (v := 3) hx hb dX12_drops_22 (by decide) ?_
  refine lv_iadd hx hb dX12_drops_23 ?_
  refine lv_aload_n hx hb dX12_drops_24 rfl (lv_at hl 1 rfl) ?_
  refine gt_f (C := RX12) (T := TX12) (N := 17) hx hb ha in_X12 hown hK hP 0 rfl rfl 0 (by decide) m_1649 rfl dX12_drops_25 ?_
  refine lv_iload_n hx hb dX12_drops_28 rfl (lv_at hl 0 rfl) ?_
  refine lv_iconst (v := 3) hx hb dX12_drops_29 (by decide) ?_
  refine lv_aload_n hx hb dX12_drops_30 rfl (lv_at hl 1 rfl) ?_
  refine gt_f (C := RX12) (T := TX12) (N := 17) hx hb ha in_X12 hown hK hP 0 rfl rfl 0 (by decide) m_1649 rfl dX12_drops_31 ?_
  refine lv_iconst (v := 2) hx hb dX12_drops_34 (by decide) ?_
  obtain ⟨hi, hf⟩ := sf_ge hf
  refine ia_ld hx hb hK hP 1 rfl hi dX12_drops_35 ?_
  refine lv_iload_n hx hb dX12_drops_36 rfl (lv_at hl 2 rfl) ?_
  refine lv_isub hx hb dX12_drops_37 ?_
  refine lv_imul hx hb dX12_drops_38 ?_
  obtain ⟨hi, hf⟩ := sf_ge hf
  obtain ⟨a_3, ea_3, hf⟩ := sf_ne hf
  refine cp_i (ws' := [(h0, .inr (10, [.ref h1, .ref h2, .ref h3, .int mi, .ref h4, .int mn, .int mt, .ref h5, .int mO, .ref h6, .int mL, .int mA, .int mW, .int mE, .int mF, .ref h7, .int mM])), (h1, .inl (dA 0, 158, .inl a_3)), (h2, .inl (dA 0, 158, .inl mb)), (h3, .inl (dA 0, 158, .inl mv)), (h4, .inl (dA 0, 1264, .inl mp)), (h5, .inl (dA 1, 180, .inl mo)), (h6, .inl (dA 1, 60, .inl mI)), (h7, .inl (dA 0, 240, .inl mc))]) hx hb ha hown hml hl.1 m_1713 m_542 m_541 m_86 hK hP hD hS 1 1 rfl rfl hi ea_3 rfl ⟨Nat.le_of_ble_eq_true rfl, Nat.le_of_ble_eq_true rfl⟩ dX12_drops_39 (fun H locs hP hD hS => ?_)
  cases hf
  exact rt_Mv hx hb hr hlocks (hP.sub [0, 1, 2, 3, 4, 5, 6, 7] rfl) (hD.sub [0, 1, 2, 3, 4, 5, 6, 7] (by decide) rfl) hS dX12_drops_42

def f_X12_doCancel (ms : Nat → Int32) (mt : Int32) (p0 : Int32) : Option (Int32 × (Nat → Int32) × Int32) :=
  sf_c1 (f_X12_isBooking ms p0) (fun r_1 => sf_b (r_1 = (0 : Int32)) (sf_c2 (f_X12_fails mt (1 : Int32)) (fun r_12 x_13 => some (r_12, ms, x_13))) (sf_c1 (f_X12_startOf ms p0) (fun r_2 => sf_g (sf_in (3 : Int32) 158 = true) (sf_b ((ms (3 : Int32).toNatClampNeg) < r_2) (sf_c1 (f_X12_booking ms p0 (0 : Int32)) (fun r_3 => sf_c1 (f_X12_booking ms p0 (1 : Int32)) (fun r_4 => sf_c1 (f_X12_slide ms r_4 (1 : Int32)) (fun r_5 => sf_c1 (f_X12_pays ms r_3 (-r_5)) (fun a_6 => sf_g (sf_in (6 : Int32) 158 = true) (sf_g (sf_in (6 : Int32) 158 = true) (sf_n (upd a_6 (6 : Int32).toNatClampNeg ((a_6 (6 : Int32).toNatClampNeg) + r_5)) (fun a_7 => sf_c1 (f_X12_drops a_7 p0) (fun a_8 => sf_c1 (f_X12_guest a_8 r_3 (0 : Int32)) (fun r_9 => some (r_9, a_8, mt))))))))))) (sf_c2 (f_X12_fails mt (2 : Int32)) (fun r_10 x_11 => some (r_10, ms, x_11)))))))
theorem yd_X12_doCancel : yX12_doCancel.cls = RX12 ∧ yX12_doCancel.cls ≠ "java/lang/invoke/MethodHandle" ∧ yX12_doCancel.cls ≠ "java/lang/invoke/VarHandle" ∧ (parseMethodDescriptor yX12_doCancel.desc).map (fun d => d.parameters.length) = some 1 := ⟨rfl, by decide, by decide, by decide +kernel⟩
set_option maxRecDepth 100000 in
set_option maxHeartbeats 4000000 in
theorem c_X12_doCancel (l : Launch) (D : va_G) (dA : Nat → ClassId) (h0 h1 h2 h3 h4 h5 h6 h7 : Nat) (sz : Nat) (ms : Nat → Int32) (mb : Nat → Int32) (mv : Nat → Int32) (mi : Int32) (mp : Nat → Int32) (mn : Int32) (mt : Int32) (mo : Nat → Int32) (mO : Int32) (mI : Nat → Int32) (mL : Int32) (mA : Int32) (mW : Int32) (mE : Int32) (mF : Int32) (mc : Nat → Int32) (mM : Int32) (p0 : Int32) (rr : Int32) (q_ms : Nat → Int32) (q_mt : Int32) (hf : f_X12_doCancel ms mt p0 = some (rr, q_ms, q_mt)) : Met l yX12_doCancel (wo (.code yX12_doCancel cX12_doCancel 4 (some .int))) ({ frames := 2, cells := 0, slots := 0, locals := 112 } : Room) (preM D dA [.ref h0, .int p0] sz [(h0, .inr (10, [.ref h1, .ref h2, .ref h3, .int mi, .ref h4, .int mn, .int mt, .ref h5, .int mO, .ref h6, .int mL, .int mA, .int mW, .int mE, .int mF, .ref h7, .int mM])), (h1, .inl (dA 0, 158, .inl ms)), (h2, .inl (dA 0, 158, .inl mb)), (h3, .inl (dA 0, 158, .inl mv)), (h4, .inl (dA 0, 1264, .inl mp)), (h5, .inl (dA 1, 180, .inl mo)), (h6, .inl (dA 1, 60, .inl mI)), (h7, .inl (dA 0, 240, .inl mc))]) (poMi D rr [(h0, .inr (10, [.ref h1, .ref h2, .ref h3, .int mi, .ref h4, .int mn, .int q_mt, .ref h5, .int mO, .ref h6, .int mL, .int mA, .int mW, .int mE, .int mF, .ref h7, .int mM])), (h1, .inl (dA 0, 158, .inl q_ms)), (h2, .inl (dA 0, 158, .inl mb)), (h3, .inl (dA 0, 158, .inl mv)), (h4, .inl (dA 0, 1264, .inl mp)), (h5, .inl (dA 1, 180, .inl mo)), (h6, .inl (dA 1, 60, .inl mI)), (h7, .inl (dA 0, 240, .inl mc))] (va_A [(h0, .inr (10, [.ref h1, .ref h2, .ref h3, .int mi, .ref h4, .int mn, .int mt, .ref h5, .int mO, .ref h6, .int mL, .int mA, .int mW, .int mE, .int mF, .ref h7, .int mM])), (h1, .inl (dA 0, 158, .inl ms)), (h2, .inl (dA 0, 158, .inl mb)), (h3, .inl (dA 0, 158, .inl mv)), (h4, .inl (dA 0, 1264, .inl mp)), (h5, .inl (dA 1, 180, .inl mo)), (h6, .inl (dA 1, 60, .inl mI)), (h7, .inl (dA 0, 240, .inl mc))] sz)) 0 0 (va_A [(h0, .inr (10, [.ref h1, .ref h2, .ref h3, .int mi, .ref h4, .int mn, .int mt, .ref h5, .int mO, .ref h6, .int mL, .int mA, .int mW, .int mE, .int mF, .ref h7, .int mM])), (h1, .inl (dA 0, 158, .inl ms)), (h2, .inl (dA 0, 158, .inl mb)), (h3, .inl (dA 0, 158, .inl mv)), (h4, .inl (dA 0, 1264, .inl mp)), (h5, .inl (dA 1, 180, .inl mo)), (h6, .inl (dA 1, 60, .inl mI)), (h7, .inl (dA 0, 240, .inl mc))] sz) := by
  refine of_M (y := yX12_doCancel) (av := [.ref h0, .int p0]) (ws := [(h0, .inr (10, [.ref h1, .ref h2, .ref h3, .int mi, .ref h4, .int mn, .int mt, .ref h5, .int mO, .ref h6, .int mL, .int mA, .int mW, .int mE, .int mF, .ref h7, .int mM])), (h1, .inl (dA 0, 158, .inl ms)), (h2, .inl (dA 0, 158, .inl mb)), (h3, .inl (dA 0, 158, .inl mv)), (h4, .inl (dA 0, 1264, .inl mp)), (h5, .inl (dA 1, 180, .inl mo)), (h6, .inl (dA 1, 60, .inl mI)), (h7, .inl (dA 0, 240, .inl mc))]) (sz := sz) (own := RX12) (Qc := poMi D rr [(h0, .inr (10, [.ref h1, .ref h2, .ref h3, .int mi, .ref h4, .int mn, .int q_mt, .ref h5, .int mO, .ref h6, .int mL, .int mA, .int mW, .int mE, .int mF, .ref h7, .int mM])), (h1, .inl (dA 0, 158, .inl q_ms)), (h2, .inl (dA 0, 158, .inl mb)), (h3, .inl (dA 0, 158, .inl mv)), (h4, .inl (dA 0, 1264, .inl mp)), (h5, .inl (dA 1, 180, .inl mo)), (h6, .inl (dA 1, 60, .inl mI)), (h7, .inl (dA 0, 240, .inl mc))]) (by decide) rfl (Nat.le_of_ble_eq_true rfl) ?_
  intro p e s m below meth c A hx hb hr ha hown hml hlocks hin hP hK hD hS hA ls hl
  have hl : lv_has ls 4 [(0, .ref h0), (1, .int p0)] := hl
  rw [f_X12_doCancel] at hf
  refine lv_aload_n hx hb dX12_doCancel_0 rfl (lv_at hl 0 rfl) ?_
  refine lv_iload_n hx hb dX12_doCancel_1 rfl (lv_at hl 1 rfl) ?_
  obtain ⟨r_1, hc1, hf⟩ := sf_c1e hf
  refine k_Pi (run_PV (As := [.int p0]) (rest := []) ⟨hx, hb, hml, hown, ha⟩ (c_X12_isBooking l D dA h0 h1 h2 h3 h4 h5 h6 h7  ms mb mv mi mp mn mt mo mO mI mL mA mW mE mF mc mM p0 _ hc1) (gi_V m_1797 m_1799 m_48 m_85 m_1800) yd_X12_isBooking ⟨Nat.le_of_ble_eq_true rfl, Nat.le_of_ble_eq_true rfl⟩ ⟨rfl, rfl⟩ hK hP [0, 1, 2, 3, 4, 5, 6, 7] rfl 0 10 rfl rfl rfl rfl hl.1 rfl (Nat.le_of_ble_eq_true rfl) dX12_doCancel_2 ⟨Nat.le_of_ble_eq_true rfl, Nat.le_of_ble_eq_true rfl⟩) hP hS (fun H locs hP hS => ?_)
  refine lv_if_ne (tgt := 14) hx hb dX12_doCancel_5 (by decide) (fun hc => ?_) (fun hc => ?_)
  · have hf := sf_bn hf hc
    refine lv_aload_n hx hb dX12_doCancel_14 rfl (lv_at hl 0 rfl) ?_
    refine lv_iload_n hx hb dX12_doCancel_15 rfl (lv_at hl 1 rfl) ?_
    obtain ⟨r_2, hc2, hf⟩ := sf_c1e hf
    refine k_Pi (run_PV (As := [.int p0]) (rest := []) ⟨hx, hb, hml, hown, ha⟩ (c_X12_startOf l D dA h0 h1 h2 h3 h4 h5 h6 h7  ms mb mv mi mp mn mt mo mO mI mL mA mW mE mF mc mM p0 _ hc2) (gi_V m_1773 m_1775 m_43 m_85 m_1776) yd_X12_startOf ⟨Nat.le_of_ble_eq_true rfl, Nat.le_of_ble_eq_true rfl⟩ ⟨rfl, rfl⟩ hK hP [0, 1, 2, 3, 4, 5, 6, 7] rfl 0 10 rfl rfl rfl rfl hl.1 rfl (Nat.le_of_ble_eq_true rfl) dX12_doCancel_16 ⟨Nat.le_of_ble_eq_true rfl, Nat.le_of_ble_eq_true rfl⟩) hP hS (fun H locs hP hS => ?_)
    refine lv_aload_n hx hb dX12_doCancel_19 rfl (lv_at hl 0 rfl) ?_
    refine gt_f (C := RX12) (T := TX12) (N := 17) hx hb ha in_X12 hown hK hP 0 rfl rfl 0 (by decide) m_1649 rfl dX12_doCancel_20 ?_
    refine lv_iconst (v := 3) hx hb dX12_doCancel_23 (by decide) ?_
    obtain ⟨hi, hf⟩ := sf_ge hf
    refine ia_ld hx hb hK hP 1 rfl hi dX12_doCancel_24 ?_
    refine lv_icmp_gt (tgt := 34) hx hb dX12_doCancel_25 (by decide) (fun hc => ?_) (fun hc => ?_)
    · have hf := sf_bp hf hc
      refine lv_aload_n hx hb dX12_doCancel_34 rfl (lv_at hl 0 rfl) ?_
      refine lv_iload_n hx hb dX12_doCancel_35 rfl (lv_at hl 1 rfl) ?_
      refine lv_iconst (v := 0) hx hb dX12_doCancel_36 (by decide) ?_
      obtain ⟨r_3, hc3, hf⟩ := sf_c1e hf
      refine k_Pi (run_PV (As := [.int p0, .int (0 : Int32)]) (rest := []) ⟨hx, hb, hml, hown, ha⟩ (c_X12_booking l D dA h0 h1 h2 h3 h4 h5 h6 h7  ms mb mv mi mp mn mt mo mO mI mL mA mW mE mF mc mM p0 (0 : Int32) _ hc3) (gi_V m_1769 m_1771 m_42 m_85 m_1772) yd_X12_booking ⟨Nat.le_of_ble_eq_true rfl, Nat.le_of_ble_eq_true rfl⟩ ⟨rfl, rfl⟩ hK hP [0, 1, 2, 3, 4, 5, 6, 7] rfl 0 10 rfl rfl rfl rfl hl.1 rfl (Nat.le_of_ble_eq_true rfl) dX12_doCancel_37 ⟨Nat.le_of_ble_eq_true rfl, Nat.le_of_ble_eq_true rfl⟩) hP hS (fun H locs hP hS => ?_)
      refine lv_istore_n (lv' := [(2, .int r_3), (0, .ref h0), (1, .int p0)]) hx hb dX12_doCancel_40 rfl hl (by decide) rfl (fun ls hl => ?_)
      refine lv_aload_n hx hb dX12_doCancel_41 rfl (lv_at hl 1 rfl) ?_
      refine lv_aload_n hx hb dX12_doCancel_42 rfl (lv_at hl 1 rfl) ?_
      refine lv_iload_n hx hb dX12_doCancel_43 rfl (lv_at hl 2 rfl) ?_
      refine lv_iconst (v := 1) hx hb dX12_doCancel_44 (by decide) ?_
      obtain ⟨r_4, hc4, hf⟩ := sf_c1e hf
      refine k_Pi (run_PV (As := [.int p0, .int (1 : Int32)]) (rest := [.ref h0]) ⟨hx, hb, hml, hown, ha⟩ (c_X12_booking l D dA h0 h1 h2 h3 h4 h5 h6 h7  ms mb mv mi mp mn mt mo mO mI mL mA mW mE mF mc mM p0 (1 : Int32) _ hc4) (gi_V m_1769 m_1771 m_42 m_85 m_1772) yd_X12_booking ⟨Nat.le_of_ble_eq_true rfl, Nat.le_of_ble_eq_true rfl⟩ ⟨rfl, rfl⟩ hK hP [0, 1, 2, 3, 4, 5, 6, 7] rfl 0 10 rfl rfl rfl rfl hl.1 rfl (Nat.le_of_ble_eq_true rfl) dX12_doCancel_45 ⟨Nat.le_of_ble_eq_true rfl, Nat.le_of_ble_eq_true rfl⟩) hP hS (fun H locs hP hS => ?_)
      refine lv_iconst (v := 1) hx hb dX12_doCancel_48 (by decide) ?_
      obtain ⟨r_5, hc5, hf⟩ := sf_c1e hf
      refine k_Pi (run_PV (As := [.int r_4, .int (1 : Int32)]) (rest := []) ⟨hx, hb, hml, hown, ha⟩ (c_X12_slide l D dA h0 h1 h2 h3 h4 h5 h6 h7  ms mb mv mi mp mn mt mo mO mI mL mA mW mE mF mc mM r_4 (1 : Int32) _ hc5) (gi_V m_1761 m_1763 m_40 m_85 m_1764) yd_X12_slide ⟨Nat.le_of_ble_eq_true rfl, Nat.le_of_ble_eq_true rfl⟩ ⟨rfl, rfl⟩ hK hP [0, 1, 2, 3, 4, 5, 6, 7] rfl 0 10 rfl rfl rfl rfl hl.1 rfl (Nat.le_of_ble_eq_true rfl) dX12_doCancel_49 ⟨Nat.le_of_ble_eq_true rfl, Nat.le_of_ble_eq_true rfl⟩) hP hS (fun H locs hP hS => ?_)
      refine lv_istore_n (lv' := [(3, .int r_5), (2, .int r_3), (0, .ref h0), (1, .int p0)]) hx hb dX12_doCancel_52 rfl hl (by decide) rfl (fun ls hl => ?_)
      refine lv_aload_n hx hb dX12_doCancel_53 rfl (lv_at hl 2 rfl) ?_
      refine lv_iload_n hx hb dX12_doCancel_54 rfl (lv_at hl 1 rfl) ?_
      refine lv_iload_n hx hb dX12_doCancel_55 rfl (lv_at hl 0 rfl) ?_
      refine lv_ineg hx hb dX12_doCancel_56 ?_
      obtain ⟨a_6, hc6, hf⟩ := sf_c1e hf
      refine k_Mv (wr := []) (run_MV (As := [.int r_3, .int (-r_5)]) (rest := []) ⟨hx, hb, hml, hown, ha⟩ (c_X12_pays l D dA h0 h1 h2 h3 h4 h5 h6 h7 _ ms mb mv mi mp mn mt mo mO mI mL mA mW mE mF mc mM r_3 (-r_5) _ hc6) (gi_V m_1785 m_1787 m_46 m_85 m_1788) yd_X12_pays ⟨Nat.le_of_ble_eq_true rfl, Nat.le_of_ble_eq_true rfl⟩ ⟨rfl, rfl⟩ hK hP hD [0, 1, 2, 3, 4, 5, 6, 7] (by decide) rfl 0 10 rfl rfl rfl rfl hl.1 rfl (Nat.le_of_ble_eq_true rfl) dX12_doCancel_57 ⟨Nat.le_of_ble_eq_true rfl, Nat.le_of_ble_eq_true rfl⟩) hP hD hS hA [0, 1, 2, 3, 4, 5, 6, 7] [] rfl rfl (by decide) (by decide) (fun H locs hP hD hS => ?_)
      refine lv_aload_n hx hb dX12_doCancel_60 rfl (lv_at hl 2 rfl) ?_
      refine gt_f (C := RX12) (T := TX12) (N := 17) hx hb ha in_X12 hown hK hP 0 rfl rfl 0 (by decide) m_1649 rfl dX12_doCancel_61 ?_
      refine lv_bipush (v := 6) hx hb dX12_doCancel_64 (by decide) ?_
      refine lv_dup2_11 hx hb dX12_doCancel_66 rfl rfl ?_
      obtain ⟨hi, hf⟩ := sf_ge hf
      refine ia_ld hx hb hK hP 1 rfl hi dX12_doCancel_67 ?_
      refine lv_iload_n hx hb dX12_doCancel_68 rfl (lv_at hl 0 rfl) ?_
      refine lv_iadd hx hb dX12_doCancel_69 ?_
      obtain ⟨hi, hf⟩ := sf_ge hf
      obtain ⟨a_7, ea_7, hf⟩ := sf_ne hf
      refine ia_st (ws' := [(h0, .inr (10, [.ref h1, .ref h2, .ref h3, .int mi, .ref h4, .int mn, .int mt, .ref h5, .int mO, .ref h6, .int mL, .int mA, .int mW, .int mE, .int mF, .ref h7, .int mM])), (h1, .inl (dA 0, 158, .inl a_7)), (h2, .inl (dA 0, 158, .inl mb)), (h3, .inl (dA 0, 158, .inl mv)), (h4, .inl (dA 0, 1264, .inl mp)), (h5, .inl (dA 1, 180, .inl mo)), (h6, .inl (dA 1, 60, .inl mI)), (h7, .inl (dA 0, 240, .inl mc))]) hx hb hK hP hD hS 1 rfl hi ea_7 rfl dX12_doCancel_70 (fun H locs hP hD hS => ?_)
      refine lv_aload_n hx hb dX12_doCancel_71 rfl (lv_at hl 2 rfl) ?_
      refine lv_iload_n hx hb dX12_doCancel_72 rfl (lv_at hl 3 rfl) ?_
      obtain ⟨a_8, hc8, hf⟩ := sf_c1e hf
      refine k_Mv (wr := []) (run_MV (As := [.int p0]) (rest := []) ⟨hx, hb, hml, hown, ha⟩ (c_X12_drops l D dA h0 h1 h2 h3 h4 h5 h6 h7 _ a_7 mb mv mi mp mn mt mo mO mI mL mA mW mE mF mc mM p0 _ hc8) (gi_V m_1801 m_1803 m_49 m_85 m_1804) yd_X12_drops ⟨Nat.le_of_ble_eq_true rfl, Nat.le_of_ble_eq_true rfl⟩ ⟨rfl, rfl⟩ hK hP hD [0, 1, 2, 3, 4, 5, 6, 7] (by decide) rfl 0 10 rfl rfl rfl rfl hl.1 rfl (Nat.le_of_ble_eq_true rfl) dX12_doCancel_73 ⟨Nat.le_of_ble_eq_true rfl, Nat.le_of_ble_eq_true rfl⟩) hP hD hS hA [0, 1, 2, 3, 4, 5, 6, 7] [] rfl rfl (by decide) (by decide) (fun H locs hP hD hS => ?_)
      refine lv_aload_n hx hb dX12_doCancel_76 rfl (lv_at hl 2 rfl) ?_
      refine lv_iload_n hx hb dX12_doCancel_77 rfl (lv_at hl 1 rfl) ?_
      refine lv_iconst (v := 0) hx hb dX12_doCancel_78 (by decide) ?_
      obtain ⟨r_9, hc9, hf⟩ := sf_c1e hf
      refine k_Pi (run_PV (As := [.int r_3, .int (0 : Int32)]) (rest := []) ⟨hx, hb, hml, hown, ha⟩ (c_X12_guest l D dA h0 h1 h2 h3 h4 h5 h6 h7  a_8 mb mv mi mp mn mt mo mO mI mL mA mW mE mF mc mM r_3 (0 : Int32) _ hc9) (gi_V m_1757 m_1759 m_39 m_85 m_1760) yd_X12_guest ⟨Nat.le_of_ble_eq_true rfl, Nat.le_of_ble_eq_true rfl⟩ ⟨rfl, rfl⟩ hK hP [0, 1, 2, 3, 4, 5, 6, 7] rfl 0 10 rfl rfl rfl rfl hl.1 rfl (Nat.le_of_ble_eq_true rfl) dX12_doCancel_79 ⟨Nat.le_of_ble_eq_true rfl, Nat.le_of_ble_eq_true rfl⟩) hP hS (fun H locs hP hS => ?_)
      cases hf
      exact rt_Mi hx hb hr hlocks (hP.sub [0, 1, 2, 3, 4, 5, 6, 7] rfl) (hD.sub [0, 1, 2, 3, 4, 5, 6, 7] (by decide) rfl) hS dX12_doCancel_82
    · have hf := sf_bn hf hc
      refine lv_aload_n hx hb dX12_doCancel_28 rfl (lv_at hl 0 rfl) ?_
      refine lv_iconst (v := 2) hx hb dX12_doCancel_29 (by decide) ?_
      obtain ⟨r_10, x_11, hc11, hf⟩ := sf_c2e hf
      refine k_Mi (wr := []) (run_MV (As := [.int (2 : Int32)]) (rest := []) ⟨hx, hb, hml, hown, ha⟩ (c_X12_fails l D dA h0 h1 h2 h3 h4 h5 h6 h7 _ ms mb mv mi mp mn mt mo mO mI mL mA mW mE mF mc mM (2 : Int32) _ _ hc11) (gi_V m_1721 m_1723 m_32 m_85 m_1724) yd_X12_fails ⟨Nat.le_of_ble_eq_true rfl, Nat.le_of_ble_eq_true rfl⟩ ⟨rfl, rfl⟩ hK hP hD [0, 1, 2, 3, 4, 5, 6, 7] (by decide) rfl 0 10 rfl rfl rfl rfl hl.1 rfl (Nat.le_of_ble_eq_true rfl) dX12_doCancel_30 ⟨Nat.le_of_ble_eq_true rfl, Nat.le_of_ble_eq_true rfl⟩) hP hD hS hA [0, 1, 2, 3, 4, 5, 6, 7] [] rfl rfl (by decide) (by decide) (fun H locs hP hD hS => ?_)
      cases hf
      exact rt_Mi hx hb hr hlocks (hP.sub [0, 1, 2, 3, 4, 5, 6, 7] rfl) (hD.sub [0, 1, 2, 3, 4, 5, 6, 7] (by decide) rfl) hS dX12_doCancel_33
  · have hf := sf_bp hf hc
    refine lv_aload_n hx hb dX12_doCancel_8 rfl (lv_at hl 0 rfl) ?_
    refine lv_iconst (v := 1) hx hb dX12_doCancel_9 (by decide) ?_
    obtain ⟨r_12, x_13, hc13, hf⟩ := sf_c2e hf
    refine k_Mi (wr := []) (run_MV (As := [.int (1 : Int32)]) (rest := []) ⟨hx, hb, hml, hown, ha⟩ (c_X12_fails l D dA h0 h1 h2 h3 h4 h5 h6 h7 _ ms mb mv mi mp mn mt mo mO mI mL mA mW mE mF mc mM (1 : Int32) _ _ hc13) (gi_V m_1721 m_1723 m_32 m_85 m_1724) yd_X12_fails ⟨Nat.le_of_ble_eq_true rfl, Nat.le_of_ble_eq_true rfl⟩ ⟨rfl, rfl⟩ hK hP hD [0, 1, 2, 3, 4, 5, 6, 7] (by decide) rfl 0 10 rfl rfl rfl rfl hl.1 rfl (Nat.le_of_ble_eq_true rfl) dX12_doCancel_10 ⟨Nat.le_of_ble_eq_true rfl, Nat.le_of_ble_eq_true rfl⟩) hP hD hS hA [0, 1, 2, 3, 4, 5, 6, 7] [] rfl rfl (by decide) (by decide) (fun H locs hP hD hS => ?_)
    cases hf
    exact rt_Mi hx hb hr hlocks (hP.sub [0, 1, 2, 3, 4, 5, 6, 7] rfl) (hD.sub [0, 1, 2, 3, 4, 5, 6, 7] (by decide) rfl) hS dX12_doCancel_13

def f_X12_cancel (ms : Nat → Int32) (mb : Nat → Int32) (mp : Nat → Int32) (mn : Int32) (mt : Int32) (p0 : Int32) : Option (Int32 × (Nat → Int32) × (Nat → Int32) × (Nat → Int32) × Int32 × Int32) :=
  sf_c2 (f_X12_keep ms mb mt) (fun a_1 x_2 => sf_c3 (f_X12_doCancel ms x_2 p0) (fun r_3 a_4 x_5 => sf_c4 (f_X12_ends a_4 a_1 mp mn x_5 r_3) (fun r_6 a_7 a_8 x_9 => some (r_6, a_7, a_1, a_8, x_9, x_5))))
theorem yd_X12_cancel : yX12_cancel.cls = RX12 ∧ yX12_cancel.cls ≠ "java/lang/invoke/MethodHandle" ∧ yX12_cancel.cls ≠ "java/lang/invoke/VarHandle" ∧ (parseMethodDescriptor yX12_cancel.desc).map (fun d => d.parameters.length) = some 1 := ⟨rfl, by decide, by decide, by decide +kernel⟩
set_option maxRecDepth 100000 in
set_option maxHeartbeats 4000000 in
theorem c_X12_cancel (l : Launch) (D : va_G) (dA : Nat → ClassId) (h0 h1 h2 h3 h4 h5 h6 h7 : Nat) (sz : Nat) (ms : Nat → Int32) (mb : Nat → Int32) (mv : Nat → Int32) (mi : Int32) (mp : Nat → Int32) (mn : Int32) (mt : Int32) (mo : Nat → Int32) (mO : Int32) (mI : Nat → Int32) (mL : Int32) (mA : Int32) (mW : Int32) (mE : Int32) (mF : Int32) (mc : Nat → Int32) (mM : Int32) (p0 : Int32) (rr : Int32) (q_ms : Nat → Int32) (q_mb : Nat → Int32) (q_mp : Nat → Int32) (q_mn : Int32) (q_mt : Int32) (hf : f_X12_cancel ms mb mp mn mt p0 = some (rr, q_ms, q_mb, q_mp, q_mn, q_mt)) : Met l yX12_cancel (wo (.code yX12_cancel cX12_cancel 2 (some .int))) ({ frames := 3, cells := 0, slots := 0, locals := 135 } : Room) (preM D dA [.ref h0, .int p0] sz [(h0, .inr (10, [.ref h1, .ref h2, .ref h3, .int mi, .ref h4, .int mn, .int mt, .ref h5, .int mO, .ref h6, .int mL, .int mA, .int mW, .int mE, .int mF, .ref h7, .int mM])), (h1, .inl (dA 0, 158, .inl ms)), (h2, .inl (dA 0, 158, .inl mb)), (h3, .inl (dA 0, 158, .inl mv)), (h4, .inl (dA 0, 1264, .inl mp)), (h5, .inl (dA 1, 180, .inl mo)), (h6, .inl (dA 1, 60, .inl mI)), (h7, .inl (dA 0, 240, .inl mc))]) (poMi D rr [(h0, .inr (10, [.ref h1, .ref h2, .ref h3, .int mi, .ref h4, .int q_mn, .int q_mt, .ref h5, .int mO, .ref h6, .int mL, .int mA, .int mW, .int mE, .int mF, .ref h7, .int mM])), (h1, .inl (dA 0, 158, .inl q_ms)), (h2, .inl (dA 0, 158, .inl q_mb)), (h3, .inl (dA 0, 158, .inl mv)), (h4, .inl (dA 0, 1264, .inl q_mp)), (h5, .inl (dA 1, 180, .inl mo)), (h6, .inl (dA 1, 60, .inl mI)), (h7, .inl (dA 0, 240, .inl mc))] (va_A [(h0, .inr (10, [.ref h1, .ref h2, .ref h3, .int mi, .ref h4, .int mn, .int mt, .ref h5, .int mO, .ref h6, .int mL, .int mA, .int mW, .int mE, .int mF, .ref h7, .int mM])), (h1, .inl (dA 0, 158, .inl ms)), (h2, .inl (dA 0, 158, .inl mb)), (h3, .inl (dA 0, 158, .inl mv)), (h4, .inl (dA 0, 1264, .inl mp)), (h5, .inl (dA 1, 180, .inl mo)), (h6, .inl (dA 1, 60, .inl mI)), (h7, .inl (dA 0, 240, .inl mc))] sz)) 0 0 (va_A [(h0, .inr (10, [.ref h1, .ref h2, .ref h3, .int mi, .ref h4, .int mn, .int mt, .ref h5, .int mO, .ref h6, .int mL, .int mA, .int mW, .int mE, .int mF, .ref h7, .int mM])), (h1, .inl (dA 0, 158, .inl ms)), (h2, .inl (dA 0, 158, .inl mb)), (h3, .inl (dA 0, 158, .inl mv)), (h4, .inl (dA 0, 1264, .inl mp)), (h5, .inl (dA 1, 180, .inl mo)), (h6, .inl (dA 1, 60, .inl mI)), (h7, .inl (dA 0, 240, .inl mc))] sz) := by
  refine of_M (y := yX12_cancel) (av := [.ref h0, .int p0]) (ws := [(h0, .inr (10, [.ref h1, .ref h2, .ref h3, .int mi, .ref h4, .int mn, .int mt, .ref h5, .int mO, .ref h6, .int mL, .int mA, .int mW, .int mE, .int mF, .ref h7, .int mM])), (h1, .inl (dA 0, 158, .inl ms)), (h2, .inl (dA 0, 158, .inl mb)), (h3, .inl (dA 0, 158, .inl mv)), (h4, .inl (dA 0, 1264, .inl mp)), (h5, .inl (dA 1, 180, .inl mo)), (h6, .inl (dA 1, 60, .inl mI)), (h7, .inl (dA 0, 240, .inl mc))]) (sz := sz) (own := RX12) (Qc := poMi D rr [(h0, .inr (10, [.ref h1, .ref h2, .ref h3, .int mi, .ref h4, .int q_mn, .int q_mt, .ref h5, .int mO, .ref h6, .int mL, .int mA, .int mW, .int mE, .int mF, .ref h7, .int mM])), (h1, .inl (dA 0, 158, .inl q_ms)), (h2, .inl (dA 0, 158, .inl q_mb)), (h3, .inl (dA 0, 158, .inl mv)), (h4, .inl (dA 0, 1264, .inl q_mp)), (h5, .inl (dA 1, 180, .inl mo)), (h6, .inl (dA 1, 60, .inl mI)), (h7, .inl (dA 0, 240, .inl mc))]) (by decide) rfl (Nat.le_of_ble_eq_true rfl) ?_
  intro p e s m below meth c A hx hb hr ha hown hml hlocks hin hP hK hD hS hA ls hl
  have hl : lv_has ls 2 [(0, .ref h0), (1, .int p0)] := hl
  rw [f_X12_cancel] at hf
  refine lv_aload_n hx hb dX12_cancel_0 rfl (lv_at hl 0 rfl) ?_
  obtain ⟨a_1, x_2, hc2, hf⟩ := sf_c2e hf
  refine k_Mv (wr := []) (run_MV (As := []) (rest := []) ⟨hx, hb, hml, hown, ha⟩ (c_X12_keep l D dA h0 h1 h2 h3 h4 h5 h6 h7 _ ms mb mv mi mp mn mt mo mO mI mL mA mW mE mF mc mM _ _ hc2) (gi_V m_1709 m_1711 m_30 m_85 m_1712) yd_X12_keep ⟨Nat.le_of_ble_eq_true rfl, Nat.le_of_ble_eq_true rfl⟩ ⟨rfl, rfl⟩ hK hP hD [0, 1, 2, 3, 4, 5, 6, 7] (by decide) rfl 0 10 rfl rfl rfl rfl hl.1 rfl (Nat.le_of_ble_eq_true rfl) dX12_cancel_1 ⟨Nat.le_of_ble_eq_true rfl, Nat.le_of_ble_eq_true rfl⟩) hP hD hS hA [0, 1, 2, 3, 4, 5, 6, 7] [] rfl rfl (by decide) (by decide) (fun H locs hP hD hS => ?_)
  refine lv_aload_n hx hb dX12_cancel_4 rfl (lv_at hl 0 rfl) ?_
  refine lv_aload_n hx hb dX12_cancel_5 rfl (lv_at hl 0 rfl) ?_
  refine lv_iload_n hx hb dX12_cancel_6 rfl (lv_at hl 1 rfl) ?_
  obtain ⟨r_3, a_4, x_5, hc5, hf⟩ := sf_c3e hf
  refine k_Mi (wr := []) (run_MV (As := [.int p0]) (rest := [.ref h0]) ⟨hx, hb, hml, hown, ha⟩ (c_X12_doCancel l D dA h0 h1 h2 h3 h4 h5 h6 h7 _ ms a_1 mv mi mp mn x_2 mo mO mI mL mA mW mE mF mc mM p0 _ _ _ hc5) (gi_V m_1793 m_1795 m_47 m_85 m_1796) yd_X12_doCancel ⟨Nat.le_of_ble_eq_true rfl, Nat.le_of_ble_eq_true rfl⟩ ⟨rfl, rfl⟩ hK hP hD [0, 1, 2, 3, 4, 5, 6, 7] (by decide) rfl 0 10 rfl rfl rfl rfl hl.1 rfl (Nat.le_of_ble_eq_true rfl) dX12_cancel_7 ⟨Nat.le_of_ble_eq_true rfl, Nat.le_of_ble_eq_true rfl⟩) hP hD hS hA [0, 1, 2, 3, 4, 5, 6, 7] [] rfl rfl (by decide) (by decide) (fun H locs hP hD hS => ?_)
  obtain ⟨r_6, a_7, a_8, x_9, hc9, hf⟩ := sf_c4e hf
  refine k_Mi (wr := []) (run_MV (As := [.int r_3]) (rest := []) ⟨hx, hb, hml, hown, ha⟩ (c_X12_ends l D dA h0 h1 h2 h3 h4 h5 h6 h7 _ a_4 a_1 mv mi mp mn x_5 mo mO mI mL mA mW mE mF mc mM r_3 _ _ _ _ hc9) (gi_V m_1725 m_1727 m_33 m_85 m_1728) yd_X12_ends ⟨Nat.le_of_ble_eq_true rfl, Nat.le_of_ble_eq_true rfl⟩ ⟨rfl, rfl⟩ hK hP hD [0, 1, 2, 3, 4, 5, 6, 7] (by decide) rfl 0 10 rfl rfl rfl rfl hl.1 rfl (Nat.le_of_ble_eq_true rfl) dX12_cancel_10 ⟨Nat.le_of_ble_eq_true rfl, Nat.le_of_ble_eq_true rfl⟩) hP hD hS hA [0, 1, 2, 3, 4, 5, 6, 7] [] rfl rfl (by decide) (by decide) (fun H locs hP hD hS => ?_)
  cases hf
  exact rt_Mi hx hb hr hlocks (hP.sub [0, 1, 2, 3, 4, 5, 6, 7] rfl) (hD.sub [0, 1, 2, 3, 4, 5, 6, 7] (by decide) rfl) hS dX12_cancel_13

def f_X12_queued (ms : Nat → Int32) (p0 : Int32) (p1 : Int32) : Option Int32 :=
  sf_c1 (f_X12_slide ms p0 ((4 : Int32) + p1)) (fun r_1 => some r_1)
theorem yd_X12_queued : yX12_queued.cls = RX12 ∧ yX12_queued.cls ≠ "java/lang/invoke/MethodHandle" ∧ yX12_queued.cls ≠ "java/lang/invoke/VarHandle" ∧ (parseMethodDescriptor yX12_queued.desc).map (fun d => d.parameters.length) = some 2 := ⟨rfl, by decide, by decide, by decide +kernel⟩
set_option maxRecDepth 100000 in
set_option maxHeartbeats 4000000 in
theorem c_X12_queued (l : Launch) (D : va_G) (dA : Nat → ClassId) (h0 h1 h2 h3 h4 h5 h6 h7 : Nat) (ms : Nat → Int32) (mb : Nat → Int32) (mv : Nat → Int32) (mi : Int32) (mp : Nat → Int32) (mn : Int32) (mt : Int32) (mo : Nat → Int32) (mO : Int32) (mI : Nat → Int32) (mL : Int32) (mA : Int32) (mW : Int32) (mE : Int32) (mF : Int32) (mc : Nat → Int32) (mM : Int32) (p0 : Int32) (p1 : Int32) (rr : Int32) (hf : f_X12_queued ms p0 p1 = some rr) : Met l yX12_queued (wo (.code yX12_queued cX12_queued 3 (some .int))) ({ frames := 1, cells := 0, slots := 0, locals := 22 } : Room) (preP D dA [.ref h0, .int p0, .int p1] [(h0, .inr (10, [.ref h1, .ref h2, .ref h3, .int mi, .ref h4, .int mn, .int mt, .ref h5, .int mO, .ref h6, .int mL, .int mA, .int mW, .int mE, .int mF, .ref h7, .int mM])), (h1, .inl (dA 0, 158, .inl ms)), (h2, .inl (dA 0, 158, .inl mb)), (h3, .inl (dA 0, 158, .inl mv)), (h4, .inl (dA 0, 1264, .inl mp)), (h5, .inl (dA 1, 180, .inl mo)), (h6, .inl (dA 1, 60, .inl mI)), (h7, .inl (dA 0, 240, .inl mc))]) (poPi rr) 0 0 noA := by
  refine of_P (own := RX12) (by decide) rfl (Nat.le_of_ble_eq_true rfl) ?_
  intro p e s m below meth c hx hb hr ha hown hml hlocks hP hK hS ls hl
  have hl : lv_has ls 3 [(0, .ref h0), (1, .int p0), (2, .int p1)] := hl
  rw [f_X12_queued] at hf
  refine lv_aload_n hx hb dX12_queued_0 rfl (lv_at hl 0 rfl) ?_
  refine lv_iload_n hx hb dX12_queued_1 rfl (lv_at hl 1 rfl) ?_
  refine lv_iconst (v := 4) hx hb dX12_queued_2 (by decide) ?_
  refine lv_iload_n hx hb dX12_queued_3 rfl (lv_at hl 2 rfl) ?_
  refine lv_iadd hx hb dX12_queued_4 ?_
  obtain ⟨r_1, hc1, hf⟩ := sf_c1e hf
  refine k_Pi (run_PV (As := [.int p0, .int ((4 : Int32) + p1)]) (rest := []) ⟨hx, hb, hml, hown, ha⟩ (c_X12_slide l D dA h0 h1 h2 h3 h4 h5 h6 h7  ms mb mv mi mp mn mt mo mO mI mL mA mW mE mF mc mM p0 ((4 : Int32) + p1) _ hc1) (gi_V m_1761 m_1763 m_40 m_85 m_1764) yd_X12_slide ⟨Nat.le_of_ble_eq_true rfl, Nat.le_of_ble_eq_true rfl⟩ ⟨rfl, rfl⟩ hK hP [0, 1, 2, 3, 4, 5, 6, 7] rfl 0 10 rfl rfl rfl rfl hl.1 rfl (Nat.le_of_ble_eq_true rfl) dX12_queued_5 ⟨Nat.le_of_ble_eq_true rfl, Nat.le_of_ble_eq_true rfl⟩) hP hS (fun H locs hP hS => ?_)
  exact rt_Pi hx hb hr hlocks (Option.some.inj hf) hS dX12_queued_8

def f_X12_doJoin (ms : Nat → Int32) (mt : Int32) (p0 : Int32) (p1 : Int32) : Option (Int32 × (Nat → Int32) × Int32) :=
  sf_c1 (f_X12_isGuest ms p0) (fun r_1 => sf_b (r_1 = (0 : Int32)) (sf_c2 (f_X12_fails mt (1 : Int32)) (fun r_2 x_3 => some (r_2, ms, x_3))) (sf_c1 (f_X12_isSlide ms p1) (fun r_4 => sf_b (r_4 = (0 : Int32)) (sf_c2 (f_X12_fails mt (1 : Int32)) (fun r_15 x_16 => some (r_15, ms, x_16))) (sf_c1 (f_X12_guest ms p0 (2 : Int32)) (fun r_5 => sf_b (r_5 ≤ (0 : Int32)) (sf_c1 (f_X12_slide ms p1 (3 : Int32)) (fun r_6 => sf_b (r_6 = (5 : Int32)) (sf_c2 (f_X12_fails mt (3 : Int32)) (fun r_11 x_12 => some (r_11, ms, x_12))) (sf_n (((8 : Int32) + ((9 : Int32) * p1))) (fun x_7 => sf_g (sf_in ((x_7 + (4 : Int32)) + r_6) 158 = true) (sf_n (upd ms ((x_7 + (4 : Int32)) + r_6).toNatClampNeg p0) (fun a_8 => sf_g (sf_in (x_7 + (3 : Int32)) 158 = true) (sf_g (sf_in (x_7 + (3 : Int32)) 158 = true) (sf_n (upd a_8 (x_7 + (3 : Int32)).toNatClampNeg ((a_8 (x_7 + (3 : Int32)).toNatClampNeg) + (1 : Int32))) (fun a_9 => sf_g (sf_in (((44 : Int32) + ((3 : Int32) * p0)) + (2 : Int32)) 158 = true) (sf_n (upd a_9 (((44 : Int32) + ((3 : Int32) * p0)) + (2 : Int32)).toNatClampNeg (p1 + (1 : Int32))) (fun a_10 => some ((r_6 + (1 : Int32)), a_10, mt)))))))))))) (sf_c2 (f_X12_fails mt (2 : Int32)) (fun r_13 x_14 => some (r_13, ms, x_14))))))))
theorem yd_X12_doJoin : yX12_doJoin.cls = RX12 ∧ yX12_doJoin.cls ≠ "java/lang/invoke/MethodHandle" ∧ yX12_doJoin.cls ≠ "java/lang/invoke/VarHandle" ∧ (parseMethodDescriptor yX12_doJoin.desc).map (fun d => d.parameters.length) = some 2 := ⟨rfl, by decide, by decide, by decide +kernel⟩
set_option maxRecDepth 100000 in
set_option maxHeartbeats 4000000 in
theorem c_X12_doJoin (l : Launch) (D : va_G) (dA : Nat → ClassId) (h0 h1 h2 h3 h4 h5 h6 h7 : Nat) (sz : Nat) (ms : Nat → Int32) (mb : Nat → Int32) (mv : Nat → Int32) (mi : Int32) (mp : Nat → Int32) (mn : Int32) (mt : Int32) (mo : Nat → Int32) (mO : Int32) (mI : Nat → Int32) (mL : Int32) (mA : Int32) (mW : Int32) (mE : Int32) (mF : Int32) (mc : Nat → Int32) (mM : Int32) (p0 : Int32) (p1 : Int32) (rr : Int32) (q_ms : Nat → Int32) (q_mt : Int32) (hf : f_X12_doJoin ms mt p0 p1 = some (rr, q_ms, q_mt)) : Met l yX12_doJoin (wo (.code yX12_doJoin cX12_doJoin 5 (some .int))) ({ frames := 2, cells := 0, slots := 0, locals := 43 } : Room) (preM D dA [.ref h0, .int p0, .int p1] sz [(h0, .inr (10, [.ref h1, .ref h2, .ref h3, .int mi, .ref h4, .int mn, .int mt, .ref h5, .int mO, .ref h6, .int mL, .int mA, .int mW, .int mE, .int mF, .ref h7, .int mM])), (h1, .inl (dA 0, 158, .inl ms)), (h2, .inl (dA 0, 158, .inl mb)), (h3, .inl (dA 0, 158, .inl mv)), (h4, .inl (dA 0, 1264, .inl mp)), (h5, .inl (dA 1, 180, .inl mo)), (h6, .inl (dA 1, 60, .inl mI)), (h7, .inl (dA 0, 240, .inl mc))]) (poMi D rr [(h0, .inr (10, [.ref h1, .ref h2, .ref h3, .int mi, .ref h4, .int mn, .int q_mt, .ref h5, .int mO, .ref h6, .int mL, .int mA, .int mW, .int mE, .int mF, .ref h7, .int mM])), (h1, .inl (dA 0, 158, .inl q_ms)), (h2, .inl (dA 0, 158, .inl mb)), (h3, .inl (dA 0, 158, .inl mv)), (h4, .inl (dA 0, 1264, .inl mp)), (h5, .inl (dA 1, 180, .inl mo)), (h6, .inl (dA 1, 60, .inl mI)), (h7, .inl (dA 0, 240, .inl mc))] (va_A [(h0, .inr (10, [.ref h1, .ref h2, .ref h3, .int mi, .ref h4, .int mn, .int mt, .ref h5, .int mO, .ref h6, .int mL, .int mA, .int mW, .int mE, .int mF, .ref h7, .int mM])), (h1, .inl (dA 0, 158, .inl ms)), (h2, .inl (dA 0, 158, .inl mb)), (h3, .inl (dA 0, 158, .inl mv)), (h4, .inl (dA 0, 1264, .inl mp)), (h5, .inl (dA 1, 180, .inl mo)), (h6, .inl (dA 1, 60, .inl mI)), (h7, .inl (dA 0, 240, .inl mc))] sz)) 0 0 (va_A [(h0, .inr (10, [.ref h1, .ref h2, .ref h3, .int mi, .ref h4, .int mn, .int mt, .ref h5, .int mO, .ref h6, .int mL, .int mA, .int mW, .int mE, .int mF, .ref h7, .int mM])), (h1, .inl (dA 0, 158, .inl ms)), (h2, .inl (dA 0, 158, .inl mb)), (h3, .inl (dA 0, 158, .inl mv)), (h4, .inl (dA 0, 1264, .inl mp)), (h5, .inl (dA 1, 180, .inl mo)), (h6, .inl (dA 1, 60, .inl mI)), (h7, .inl (dA 0, 240, .inl mc))] sz) := by
  refine of_M (y := yX12_doJoin) (av := [.ref h0, .int p0, .int p1]) (ws := [(h0, .inr (10, [.ref h1, .ref h2, .ref h3, .int mi, .ref h4, .int mn, .int mt, .ref h5, .int mO, .ref h6, .int mL, .int mA, .int mW, .int mE, .int mF, .ref h7, .int mM])), (h1, .inl (dA 0, 158, .inl ms)), (h2, .inl (dA 0, 158, .inl mb)), (h3, .inl (dA 0, 158, .inl mv)), (h4, .inl (dA 0, 1264, .inl mp)), (h5, .inl (dA 1, 180, .inl mo)), (h6, .inl (dA 1, 60, .inl mI)), (h7, .inl (dA 0, 240, .inl mc))]) (sz := sz) (own := RX12) (Qc := poMi D rr [(h0, .inr (10, [.ref h1, .ref h2, .ref h3, .int mi, .ref h4, .int mn, .int q_mt, .ref h5, .int mO, .ref h6, .int mL, .int mA, .int mW, .int mE, .int mF, .ref h7, .int mM])), (h1, .inl (dA 0, 158, .inl q_ms)), (h2, .inl (dA 0, 158, .inl mb)), (h3, .inl (dA 0, 158, .inl mv)), (h4, .inl (dA 0, 1264, .inl mp)), (h5, .inl (dA 1, 180, .inl mo)), (h6, .inl (dA 1, 60, .inl mI)), (h7, .inl (dA 0, 240, .inl mc))]) (by decide) rfl (Nat.le_of_ble_eq_true rfl) ?_
  intro p e s m below meth c A hx hb hr ha hown hml hlocks hin hP hK hD hS hA ls hl
  have hl : lv_has ls 5 [(0, .ref h0), (1, .int p0), (2, .int p1)] := hl
  rw [f_X12_doJoin] at hf
  refine lv_aload_n hx hb dX12_doJoin_0 rfl (lv_at hl 0 rfl) ?_
  refine lv_iload_n hx hb dX12_doJoin_1 rfl (lv_at hl 1 rfl) ?_
  obtain ⟨r_1, hc1, hf⟩ := sf_c1e hf
  refine k_Pi (run_PV (As := [.int p0]) (rest := []) ⟨hx, hb, hml, hown, ha⟩ (c_X12_isGuest l D dA h0 h1 h2 h3 h4 h5 h6 h7  ms mb mv mi mp mn mt mo mO mI mL mA mW mE mF mc mM p0 _ hc1) (gi_V m_1745 m_1747 m_36 m_85 m_1748) yd_X12_isGuest ⟨Nat.le_of_ble_eq_true rfl, Nat.le_of_ble_eq_true rfl⟩ ⟨rfl, rfl⟩ hK hP [0, 1, 2, 3, 4, 5, 6, 7] rfl 0 10 rfl rfl rfl rfl hl.1 rfl (Nat.le_of_ble_eq_true rfl) dX12_doJoin_2 ⟨Nat.le_of_ble_eq_true rfl, Nat.le_of_ble_eq_true rfl⟩) hP hS (fun H locs hP hS => ?_)
  refine lv_if_eq (tgt := 16) hx hb dX12_doJoin_5 (by decide) (fun hc => ?_) (fun hc => ?_)
  · have hf := sf_bp hf hc
    refine lv_aload_n hx hb dX12_doJoin_16 rfl (lv_at hl 0 rfl) ?_
    refine lv_iconst (v := 1) hx hb dX12_doJoin_17 (by decide) ?_
    obtain ⟨r_2, x_3, hc3, hf⟩ := sf_c2e hf
    refine k_Mi (wr := []) (run_MV (As := [.int (1 : Int32)]) (rest := []) ⟨hx, hb, hml, hown, ha⟩ (c_X12_fails l D dA h0 h1 h2 h3 h4 h5 h6 h7 _ ms mb mv mi mp mn mt mo mO mI mL mA mW mE mF mc mM (1 : Int32) _ _ hc3) (gi_V m_1721 m_1723 m_32 m_85 m_1724) yd_X12_fails ⟨Nat.le_of_ble_eq_true rfl, Nat.le_of_ble_eq_true rfl⟩ ⟨rfl, rfl⟩ hK hP hD [0, 1, 2, 3, 4, 5, 6, 7] (by decide) rfl 0 10 rfl rfl rfl rfl hl.1 rfl (Nat.le_of_ble_eq_true rfl) dX12_doJoin_18 ⟨Nat.le_of_ble_eq_true rfl, Nat.le_of_ble_eq_true rfl⟩) hP hD hS hA [0, 1, 2, 3, 4, 5, 6, 7] [] rfl rfl (by decide) (by decide) (fun H locs hP hD hS => ?_)
    cases hf
    exact rt_Mi hx hb hr hlocks (hP.sub [0, 1, 2, 3, 4, 5, 6, 7] rfl) (hD.sub [0, 1, 2, 3, 4, 5, 6, 7] (by decide) rfl) hS dX12_doJoin_21
  · have hf := sf_bn hf hc
    refine lv_aload_n hx hb dX12_doJoin_8 rfl (lv_at hl 0 rfl) ?_
    refine lv_iload_n hx hb dX12_doJoin_9 rfl (lv_at hl 2 rfl) ?_
    obtain ⟨r_4, hc4, hf⟩ := sf_c1e hf
    refine k_Pi (run_PV (As := [.int p1]) (rest := []) ⟨hx, hb, hml, hown, ha⟩ (c_X12_isSlide l D dA h0 h1 h2 h3 h4 h5 h6 h7  ms mb mv mi mp mn mt mo mO mI mL mA mW mE mF mc mM p1 _ hc4) (gi_V m_1749 m_1751 m_37 m_85 m_1752) yd_X12_isSlide ⟨Nat.le_of_ble_eq_true rfl, Nat.le_of_ble_eq_true rfl⟩ ⟨rfl, rfl⟩ hK hP [0, 1, 2, 3, 4, 5, 6, 7] rfl 0 10 rfl rfl rfl rfl hl.1 rfl (Nat.le_of_ble_eq_true rfl) dX12_doJoin_10 ⟨Nat.le_of_ble_eq_true rfl, Nat.le_of_ble_eq_true rfl⟩) hP hS (fun H locs hP hS => ?_)
    refine lv_if_ne (tgt := 22) hx hb dX12_doJoin_13 (by decide) (fun hc => ?_) (fun hc => ?_)
    · have hf := sf_bn hf hc
      refine lv_aload_n hx hb dX12_doJoin_22 rfl (lv_at hl 0 rfl) ?_
      refine lv_iload_n hx hb dX12_doJoin_23 rfl (lv_at hl 1 rfl) ?_
      refine lv_iconst (v := 2) hx hb dX12_doJoin_24 (by decide) ?_
      obtain ⟨r_5, hc5, hf⟩ := sf_c1e hf
      refine k_Pi (run_PV (As := [.int p0, .int (2 : Int32)]) (rest := []) ⟨hx, hb, hml, hown, ha⟩ (c_X12_guest l D dA h0 h1 h2 h3 h4 h5 h6 h7  ms mb mv mi mp mn mt mo mO mI mL mA mW mE mF mc mM p0 (2 : Int32) _ hc5) (gi_V m_1757 m_1759 m_39 m_85 m_1760) yd_X12_guest ⟨Nat.le_of_ble_eq_true rfl, Nat.le_of_ble_eq_true rfl⟩ ⟨rfl, rfl⟩ hK hP [0, 1, 2, 3, 4, 5, 6, 7] rfl 0 10 rfl rfl rfl rfl hl.1 rfl (Nat.le_of_ble_eq_true rfl) dX12_doJoin_25 ⟨Nat.le_of_ble_eq_true rfl, Nat.le_of_ble_eq_true rfl⟩) hP hS (fun H locs hP hS => ?_)
      refine lv_if_le (tgt := 37) hx hb dX12_doJoin_28 (by decide) (fun hc => ?_) (fun hc => ?_)
      · have hf := sf_bp hf hc
        refine lv_aload_n hx hb dX12_doJoin_37 rfl (lv_at hl 0 rfl) ?_
        refine lv_iload_n hx hb dX12_doJoin_38 rfl (lv_at hl 2 rfl) ?_
        refine lv_iconst (v := 3) hx hb dX12_doJoin_39 (by decide) ?_
        obtain ⟨r_6, hc6, hf⟩ := sf_c1e hf
        refine k_Pi (run_PV (As := [.int p1, .int (3 : Int32)]) (rest := []) ⟨hx, hb, hml, hown, ha⟩ (c_X12_slide l D dA h0 h1 h2 h3 h4 h5 h6 h7  ms mb mv mi mp mn mt mo mO mI mL mA mW mE mF mc mM p1 (3 : Int32) _ hc6) (gi_V m_1761 m_1763 m_40 m_85 m_1764) yd_X12_slide ⟨Nat.le_of_ble_eq_true rfl, Nat.le_of_ble_eq_true rfl⟩ ⟨rfl, rfl⟩ hK hP [0, 1, 2, 3, 4, 5, 6, 7] rfl 0 10 rfl rfl rfl rfl hl.1 rfl (Nat.le_of_ble_eq_true rfl) dX12_doJoin_40 ⟨Nat.le_of_ble_eq_true rfl, Nat.le_of_ble_eq_true rfl⟩) hP hS (fun H locs hP hS => ?_)
        refine lv_istore_n (lv' := [(3, .int r_6), (0, .ref h0), (1, .int p0), (2, .int p1)]) hx hb dX12_doJoin_43 rfl hl (by decide) rfl (fun ls hl => ?_)
        refine lv_iload_n hx hb dX12_doJoin_44 rfl (lv_at hl 0 rfl) ?_
        refine lv_iconst (v := 5) hx hb dX12_doJoin_45 (by decide) ?_
        refine lv_icmp_ne (tgt := 55) hx hb dX12_doJoin_46 (by decide) (fun hc => ?_) (fun hc => ?_)
        · have hf := sf_bn hf hc
          refine lv_bipush (v := 8) hx hb dX12_doJoin_55 (by decide) ?_
          refine lv_bipush (v := 9) hx hb dX12_doJoin_57 (by decide) ?_
          refine lv_iload_n hx hb dX12_doJoin_59 rfl (lv_at hl 3 rfl) ?_
          refine lv_imul hx hb dX12_doJoin_60 ?_
          refine lv_iadd hx hb dX12_doJoin_61 ?_
          obtain ⟨x_7, ex_7, hf⟩ := sf_ne hf
          refine tp_i ex_7 ?_
          refine lv_istore (lv' := [(4, .int x_7), (3, .int r_6), (0, .ref h0), (1, .int p0), (2, .int p1)]) hx hb dX12_doJoin_62 hl (by decide) rfl (fun ls hl => ?_)
          refine lv_aload_n hx hb dX12_doJoin_64 rfl (lv_at hl 2 rfl) ?_
          refine gt_f (C := RX12) (T := TX12) (N := 17) hx hb ha in_X12 hown hK hP 0 rfl rfl 0 (by decide) m_1649 rfl dX12_doJoin_65 ?_
          refine lv_iload hx hb dX12_doJoin_68 (lv_at hl 0 rfl) ?_
          refine lv_iconst (v := 4) hx hb dX12_doJoin_70 (by decide) ?_
          refine lv_iadd hx hb dX12_doJoin_71 ?_
          refine lv_iload_n hx hb dX12_doJoin_72 rfl (lv_at hl 1 rfl) ?_
          refine lv_iadd hx hb dX12_doJoin_73 ?_
          refine lv_iload_n hx hb dX12_doJoin_74 rfl (lv_at hl 3 rfl) ?_
          obtain ⟨hi, hf⟩ := sf_ge hf
          obtain ⟨a_8, ea_8, hf⟩ := sf_ne hf
          refine ia_st (ws' := [(h0, .inr (10, [.ref h1, .ref h2, .ref h3, .int mi, .ref h4, .int mn, .int mt, .ref h5, .int mO, .ref h6, .int mL, .int mA, .int mW, .int mE, .int mF, .ref h7, .int mM])), (h1, .inl (dA 0, 158, .inl a_8)), (h2, .inl (dA 0, 158, .inl mb)), (h3, .inl (dA 0, 158, .inl mv)), (h4, .inl (dA 0, 1264, .inl mp)), (h5, .inl (dA 1, 180, .inl mo)), (h6, .inl (dA 1, 60, .inl mI)), (h7, .inl (dA 0, 240, .inl mc))]) hx hb hK hP hD hS 1 rfl hi ea_8 rfl dX12_doJoin_75 (fun H locs hP hD hS => ?_)
          refine lv_aload_n hx hb dX12_doJoin_76 rfl (lv_at hl 2 rfl) ?_
          refine gt_f (C := RX12) (T := TX12) (N := 17) hx hb ha in_X12 hown hK hP 0 rfl rfl 0 (by decide) m_1649 rfl dX12_doJoin_77 ?_
          refine lv_iload hx hb dX12_doJoin_80 (lv_at hl 0 rfl) ?_
          refine lv_iconst (v := 3) hx hb dX12_doJoin_82 (by decide) ?_
          refine lv_iadd hx hb dX12_doJoin_83 ?_
          refine lv_dup2_11 hx hb dX12_doJoin_84 rfl rfl ?_
          obtain ⟨hi, hf⟩ := sf_ge hf
          refine ia_ld hx hb hK hP 1 rfl hi dX12_doJoin_85 ?_
          refine lv_iconst (v := 1) hx hb dX12_doJoin_86 (by decide) ?_
          refine lv_iadd hx hb dX12_doJoin_87 ?_
          obtain ⟨hi, hf⟩ := sf_ge hf
          obtain ⟨a_9, ea_9, hf⟩ := sf_ne hf
          refine ia_st (ws' := [(h0, .inr (10, [.ref h1, .ref h2, .ref h3, .int mi, .ref h4, .int mn, .int mt, .ref h5, .int mO, .ref h6, .int mL, .int mA, .int mW, .int mE, .int mF, .ref h7, .int mM])), (h1, .inl (dA 0, 158, .inl a_9)), (h2, .inl (dA 0, 158, .inl mb)), (h3, .inl (dA 0, 158, .inl mv)), (h4, .inl (dA 0, 1264, .inl mp)), (h5, .inl (dA 1, 180, .inl mo)), (h6, .inl (dA 1, 60, .inl mI)), (h7, .inl (dA 0, 240, .inl mc))]) hx hb hK hP hD hS 1 rfl hi ea_9 rfl dX12_doJoin_88 (fun H locs hP hD hS => ?_)
          refine lv_aload_n hx hb dX12_doJoin_89 rfl (lv_at hl 2 rfl) ?_
          refine gt_f (C := RX12) (T := TX12) (N := 17) hx hb ha in_X12 hown hK hP 0 rfl rfl 0 (by decide) m_1649 rfl dX12_doJoin_90 ?_
          refine lv_bipush (v := 44) hx hb dX12_doJoin_93 (by decide) ?_
          refine lv_iconst (v := 3) hx hb dX12_doJoin_95 (by decide) ?_
          refine lv_iload_n hx hb dX12_doJoin_96 rfl (lv_at hl 3 rfl) ?_
          refine lv_imul hx hb dX12_doJoin_97 ?_
          refine lv_iadd hx hb dX12_doJoin_98 ?_
          refine lv_iconst (v := 2) hx hb dX12_doJoin_99 (by decide) ?_
          refine lv_iadd hx hb dX12_doJoin_100 ?_
          refine lv_iload_n hx hb dX12_doJoin_101 rfl (lv_at hl 4 rfl) ?_
          refine lv_iconst (v := 1) hx hb dX12_doJoin_102 (by decide) ?_
          refine lv_iadd hx hb dX12_doJoin_103 ?_
          obtain ⟨hi, hf⟩ := sf_ge hf
          obtain ⟨a_10, ea_10, hf⟩ := sf_ne hf
          refine ia_st (ws' := [(h0, .inr (10, [.ref h1, .ref h2, .ref h3, .int mi, .ref h4, .int mn, .int mt, .ref h5, .int mO, .ref h6, .int mL, .int mA, .int mW, .int mE, .int mF, .ref h7, .int mM])), (h1, .inl (dA 0, 158, .inl a_10)), (h2, .inl (dA 0, 158, .inl mb)), (h3, .inl (dA 0, 158, .inl mv)), (h4, .inl (dA 0, 1264, .inl mp)), (h5, .inl (dA 1, 180, .inl mo)), (h6, .inl (dA 1, 60, .inl mI)), (h7, .inl (dA 0, 240, .inl mc))]) hx hb hK hP hD hS 1 rfl hi ea_10 rfl dX12_doJoin_104 (fun H locs hP hD hS => ?_)
          refine lv_iload_n hx hb dX12_doJoin_105 rfl (lv_at hl 1 rfl) ?_
          refine lv_iconst (v := 1) hx hb dX12_doJoin_106 (by decide) ?_
          refine lv_iadd hx hb dX12_doJoin_107 ?_
          cases hf
          exact rt_Mi hx hb hr hlocks (hP.sub [0, 1, 2, 3, 4, 5, 6, 7] rfl) (hD.sub [0, 1, 2, 3, 4, 5, 6, 7] (by decide) rfl) hS dX12_doJoin_108
        · have hf := sf_bp hf hc
          refine lv_aload_n hx hb dX12_doJoin_49 rfl (lv_at hl 1 rfl) ?_
          refine lv_iconst (v := 3) hx hb dX12_doJoin_50 (by decide) ?_
          obtain ⟨r_11, x_12, hc12, hf⟩ := sf_c2e hf
          refine k_Mi (wr := []) (run_MV (As := [.int (3 : Int32)]) (rest := []) ⟨hx, hb, hml, hown, ha⟩ (c_X12_fails l D dA h0 h1 h2 h3 h4 h5 h6 h7 _ ms mb mv mi mp mn mt mo mO mI mL mA mW mE mF mc mM (3 : Int32) _ _ hc12) (gi_V m_1721 m_1723 m_32 m_85 m_1724) yd_X12_fails ⟨Nat.le_of_ble_eq_true rfl, Nat.le_of_ble_eq_true rfl⟩ ⟨rfl, rfl⟩ hK hP hD [0, 1, 2, 3, 4, 5, 6, 7] (by decide) rfl 0 10 rfl rfl rfl rfl hl.1 rfl (Nat.le_of_ble_eq_true rfl) dX12_doJoin_51 ⟨Nat.le_of_ble_eq_true rfl, Nat.le_of_ble_eq_true rfl⟩) hP hD hS hA [0, 1, 2, 3, 4, 5, 6, 7] [] rfl rfl (by decide) (by decide) (fun H locs hP hD hS => ?_)
          cases hf
          exact rt_Mi hx hb hr hlocks (hP.sub [0, 1, 2, 3, 4, 5, 6, 7] rfl) (hD.sub [0, 1, 2, 3, 4, 5, 6, 7] (by decide) rfl) hS dX12_doJoin_54
      · have hf := sf_bn hf hc
        refine lv_aload_n hx hb dX12_doJoin_31 rfl (lv_at hl 0 rfl) ?_
        refine lv_iconst (v := 2) hx hb dX12_doJoin_32 (by decide) ?_
        obtain ⟨r_13, x_14, hc14, hf⟩ := sf_c2e hf
        refine k_Mi (wr := []) (run_MV (As := [.int (2 : Int32)]) (rest := []) ⟨hx, hb, hml, hown, ha⟩ (c_X12_fails l D dA h0 h1 h2 h3 h4 h5 h6 h7 _ ms mb mv mi mp mn mt mo mO mI mL mA mW mE mF mc mM (2 : Int32) _ _ hc14) (gi_V m_1721 m_1723 m_32 m_85 m_1724) yd_X12_fails ⟨Nat.le_of_ble_eq_true rfl, Nat.le_of_ble_eq_true rfl⟩ ⟨rfl, rfl⟩ hK hP hD [0, 1, 2, 3, 4, 5, 6, 7] (by decide) rfl 0 10 rfl rfl rfl rfl hl.1 rfl (Nat.le_of_ble_eq_true rfl) dX12_doJoin_33 ⟨Nat.le_of_ble_eq_true rfl, Nat.le_of_ble_eq_true rfl⟩) hP hD hS hA [0, 1, 2, 3, 4, 5, 6, 7] [] rfl rfl (by decide) (by decide) (fun H locs hP hD hS => ?_)
        cases hf
        exact rt_Mi hx hb hr hlocks (hP.sub [0, 1, 2, 3, 4, 5, 6, 7] rfl) (hD.sub [0, 1, 2, 3, 4, 5, 6, 7] (by decide) rfl) hS dX12_doJoin_36
    · have hf := sf_bp hf hc
      refine lv_aload_n hx hb dX12_doJoin_16 rfl (lv_at hl 0 rfl) ?_
      refine lv_iconst (v := 1) hx hb dX12_doJoin_17 (by decide) ?_
      obtain ⟨r_15, x_16, hc16, hf⟩ := sf_c2e hf
      refine k_Mi (wr := []) (run_MV (As := [.int (1 : Int32)]) (rest := []) ⟨hx, hb, hml, hown, ha⟩ (c_X12_fails l D dA h0 h1 h2 h3 h4 h5 h6 h7 _ ms mb mv mi mp mn mt mo mO mI mL mA mW mE mF mc mM (1 : Int32) _ _ hc16) (gi_V m_1721 m_1723 m_32 m_85 m_1724) yd_X12_fails ⟨Nat.le_of_ble_eq_true rfl, Nat.le_of_ble_eq_true rfl⟩ ⟨rfl, rfl⟩ hK hP hD [0, 1, 2, 3, 4, 5, 6, 7] (by decide) rfl 0 10 rfl rfl rfl rfl hl.1 rfl (Nat.le_of_ble_eq_true rfl) dX12_doJoin_18 ⟨Nat.le_of_ble_eq_true rfl, Nat.le_of_ble_eq_true rfl⟩) hP hD hS hA [0, 1, 2, 3, 4, 5, 6, 7] [] rfl rfl (by decide) (by decide) (fun H locs hP hD hS => ?_)
      cases hf
      exact rt_Mi hx hb hr hlocks (hP.sub [0, 1, 2, 3, 4, 5, 6, 7] rfl) (hD.sub [0, 1, 2, 3, 4, 5, 6, 7] (by decide) rfl) hS dX12_doJoin_21

def f_X12_joinQueue (ms : Nat → Int32) (mb : Nat → Int32) (mp : Nat → Int32) (mn : Int32) (mt : Int32) (p0 : Int32) (p1 : Int32) : Option (Int32 × (Nat → Int32) × (Nat → Int32) × (Nat → Int32) × Int32 × Int32) :=
  sf_c2 (f_X12_keep ms mb mt) (fun a_1 x_2 => sf_c3 (f_X12_doJoin ms x_2 p0 p1) (fun r_3 a_4 x_5 => sf_c4 (f_X12_ends a_4 a_1 mp mn x_5 r_3) (fun r_6 a_7 a_8 x_9 => some (r_6, a_7, a_1, a_8, x_9, x_5))))
theorem yd_X12_joinQueue : yX12_joinQueue.cls = RX12 ∧ yX12_joinQueue.cls ≠ "java/lang/invoke/MethodHandle" ∧ yX12_joinQueue.cls ≠ "java/lang/invoke/VarHandle" ∧ (parseMethodDescriptor yX12_joinQueue.desc).map (fun d => d.parameters.length) = some 2 := ⟨rfl, by decide, by decide, by decide +kernel⟩
set_option maxRecDepth 100000 in
set_option maxHeartbeats 4000000 in
theorem c_X12_joinQueue (l : Launch) (D : va_G) (dA : Nat → ClassId) (h0 h1 h2 h3 h4 h5 h6 h7 : Nat) (sz : Nat) (ms : Nat → Int32) (mb : Nat → Int32) (mv : Nat → Int32) (mi : Int32) (mp : Nat → Int32) (mn : Int32) (mt : Int32) (mo : Nat → Int32) (mO : Int32) (mI : Nat → Int32) (mL : Int32) (mA : Int32) (mW : Int32) (mE : Int32) (mF : Int32) (mc : Nat → Int32) (mM : Int32) (p0 : Int32) (p1 : Int32) (rr : Int32) (q_ms : Nat → Int32) (q_mb : Nat → Int32) (q_mp : Nat → Int32) (q_mn : Int32) (q_mt : Int32) (hf : f_X12_joinQueue ms mb mp mn mt p0 p1 = some (rr, q_ms, q_mb, q_mp, q_mn, q_mt)) : Met l yX12_joinQueue (wo (.code yX12_joinQueue cX12_joinQueue 3 (some .int))) ({ frames := 3, cells := 0, slots := 0, locals := 111 } : Room) (preM D dA [.ref h0, .int p0, .int p1] sz [(h0, .inr (10, [.ref h1, .ref h2, .ref h3, .int mi, .ref h4, .int mn, .int mt, .ref h5, .int mO, .ref h6, .int mL, .int mA, .int mW, .int mE, .int mF, .ref h7, .int mM])), (h1, .inl (dA 0, 158, .inl ms)), (h2, .inl (dA 0, 158, .inl mb)), (h3, .inl (dA 0, 158, .inl mv)), (h4, .inl (dA 0, 1264, .inl mp)), (h5, .inl (dA 1, 180, .inl mo)), (h6, .inl (dA 1, 60, .inl mI)), (h7, .inl (dA 0, 240, .inl mc))]) (poMi D rr [(h0, .inr (10, [.ref h1, .ref h2, .ref h3, .int mi, .ref h4, .int q_mn, .int q_mt, .ref h5, .int mO, .ref h6, .int mL, .int mA, .int mW, .int mE, .int mF, .ref h7, .int mM])), (h1, .inl (dA 0, 158, .inl q_ms)), (h2, .inl (dA 0, 158, .inl q_mb)), (h3, .inl (dA 0, 158, .inl mv)), (h4, .inl (dA 0, 1264, .inl q_mp)), (h5, .inl (dA 1, 180, .inl mo)), (h6, .inl (dA 1, 60, .inl mI)), (h7, .inl (dA 0, 240, .inl mc))] (va_A [(h0, .inr (10, [.ref h1, .ref h2, .ref h3, .int mi, .ref h4, .int mn, .int mt, .ref h5, .int mO, .ref h6, .int mL, .int mA, .int mW, .int mE, .int mF, .ref h7, .int mM])), (h1, .inl (dA 0, 158, .inl ms)), (h2, .inl (dA 0, 158, .inl mb)), (h3, .inl (dA 0, 158, .inl mv)), (h4, .inl (dA 0, 1264, .inl mp)), (h5, .inl (dA 1, 180, .inl mo)), (h6, .inl (dA 1, 60, .inl mI)), (h7, .inl (dA 0, 240, .inl mc))] sz)) 0 0 (va_A [(h0, .inr (10, [.ref h1, .ref h2, .ref h3, .int mi, .ref h4, .int mn, .int mt, .ref h5, .int mO, .ref h6, .int mL, .int mA, .int mW, .int mE, .int mF, .ref h7, .int mM])), (h1, .inl (dA 0, 158, .inl ms)), (h2, .inl (dA 0, 158, .inl mb)), (h3, .inl (dA 0, 158, .inl mv)), (h4, .inl (dA 0, 1264, .inl mp)), (h5, .inl (dA 1, 180, .inl mo)), (h6, .inl (dA 1, 60, .inl mI)), (h7, .inl (dA 0, 240, .inl mc))] sz) := by
  refine of_M (y := yX12_joinQueue) (av := [.ref h0, .int p0, .int p1]) (ws := [(h0, .inr (10, [.ref h1, .ref h2, .ref h3, .int mi, .ref h4, .int mn, .int mt, .ref h5, .int mO, .ref h6, .int mL, .int mA, .int mW, .int mE, .int mF, .ref h7, .int mM])), (h1, .inl (dA 0, 158, .inl ms)), (h2, .inl (dA 0, 158, .inl mb)), (h3, .inl (dA 0, 158, .inl mv)), (h4, .inl (dA 0, 1264, .inl mp)), (h5, .inl (dA 1, 180, .inl mo)), (h6, .inl (dA 1, 60, .inl mI)), (h7, .inl (dA 0, 240, .inl mc))]) (sz := sz) (own := RX12) (Qc := poMi D rr [(h0, .inr (10, [.ref h1, .ref h2, .ref h3, .int mi, .ref h4, .int q_mn, .int q_mt, .ref h5, .int mO, .ref h6, .int mL, .int mA, .int mW, .int mE, .int mF, .ref h7, .int mM])), (h1, .inl (dA 0, 158, .inl q_ms)), (h2, .inl (dA 0, 158, .inl q_mb)), (h3, .inl (dA 0, 158, .inl mv)), (h4, .inl (dA 0, 1264, .inl q_mp)), (h5, .inl (dA 1, 180, .inl mo)), (h6, .inl (dA 1, 60, .inl mI)), (h7, .inl (dA 0, 240, .inl mc))]) (by decide) rfl (Nat.le_of_ble_eq_true rfl) ?_
  intro p e s m below meth c A hx hb hr ha hown hml hlocks hin hP hK hD hS hA ls hl
  have hl : lv_has ls 3 [(0, .ref h0), (1, .int p0), (2, .int p1)] := hl
  rw [f_X12_joinQueue] at hf
  refine lv_aload_n hx hb dX12_joinQueue_0 rfl (lv_at hl 0 rfl) ?_
  obtain ⟨a_1, x_2, hc2, hf⟩ := sf_c2e hf
  refine k_Mv (wr := []) (run_MV (As := []) (rest := []) ⟨hx, hb, hml, hown, ha⟩ (c_X12_keep l D dA h0 h1 h2 h3 h4 h5 h6 h7 _ ms mb mv mi mp mn mt mo mO mI mL mA mW mE mF mc mM _ _ hc2) (gi_V m_1709 m_1711 m_30 m_85 m_1712) yd_X12_keep ⟨Nat.le_of_ble_eq_true rfl, Nat.le_of_ble_eq_true rfl⟩ ⟨rfl, rfl⟩ hK hP hD [0, 1, 2, 3, 4, 5, 6, 7] (by decide) rfl 0 10 rfl rfl rfl rfl hl.1 rfl (Nat.le_of_ble_eq_true rfl) dX12_joinQueue_1 ⟨Nat.le_of_ble_eq_true rfl, Nat.le_of_ble_eq_true rfl⟩) hP hD hS hA [0, 1, 2, 3, 4, 5, 6, 7] [] rfl rfl (by decide) (by decide) (fun H locs hP hD hS => ?_)
  refine lv_aload_n hx hb dX12_joinQueue_4 rfl (lv_at hl 0 rfl) ?_
  refine lv_aload_n hx hb dX12_joinQueue_5 rfl (lv_at hl 0 rfl) ?_
  refine lv_iload_n hx hb dX12_joinQueue_6 rfl (lv_at hl 1 rfl) ?_
  refine lv_iload_n hx hb dX12_joinQueue_7 rfl (lv_at hl 2 rfl) ?_
  obtain ⟨r_3, a_4, x_5, hc5, hf⟩ := sf_c3e hf
  refine k_Mi (wr := []) (run_MV (As := [.int p0, .int p1]) (rest := [.ref h0]) ⟨hx, hb, hml, hown, ha⟩ (c_X12_doJoin l D dA h0 h1 h2 h3 h4 h5 h6 h7 _ ms a_1 mv mi mp mn x_2 mo mO mI mL mA mW mE mF mc mM p0 p1 _ _ _ hc5) (gi_V m_1809 m_1811 m_50 m_85 m_1812) yd_X12_doJoin ⟨Nat.le_of_ble_eq_true rfl, Nat.le_of_ble_eq_true rfl⟩ ⟨rfl, rfl⟩ hK hP hD [0, 1, 2, 3, 4, 5, 6, 7] (by decide) rfl 0 10 rfl rfl rfl rfl hl.1 rfl (Nat.le_of_ble_eq_true rfl) dX12_joinQueue_8 ⟨Nat.le_of_ble_eq_true rfl, Nat.le_of_ble_eq_true rfl⟩) hP hD hS hA [0, 1, 2, 3, 4, 5, 6, 7] [] rfl rfl (by decide) (by decide) (fun H locs hP hD hS => ?_)
  obtain ⟨r_6, a_7, a_8, x_9, hc9, hf⟩ := sf_c4e hf
  refine k_Mi (wr := []) (run_MV (As := [.int r_3]) (rest := []) ⟨hx, hb, hml, hown, ha⟩ (c_X12_ends l D dA h0 h1 h2 h3 h4 h5 h6 h7 _ a_4 a_1 mv mi mp mn x_5 mo mO mI mL mA mW mE mF mc mM r_3 _ _ _ _ hc9) (gi_V m_1725 m_1727 m_33 m_85 m_1728) yd_X12_ends ⟨Nat.le_of_ble_eq_true rfl, Nat.le_of_ble_eq_true rfl⟩ ⟨rfl, rfl⟩ hK hP hD [0, 1, 2, 3, 4, 5, 6, 7] (by decide) rfl 0 10 rfl rfl rfl rfl hl.1 rfl (Nat.le_of_ble_eq_true rfl) dX12_joinQueue_11 ⟨Nat.le_of_ble_eq_true rfl, Nat.le_of_ble_eq_true rfl⟩) hP hD hS hA [0, 1, 2, 3, 4, 5, 6, 7] [] rfl rfl (by decide) (by decide) (fun H locs hP hD hS => ?_)
  cases hf
  exact rt_Mi hx hb hr hlocks (hP.sub [0, 1, 2, 3, 4, 5, 6, 7] rfl) (hD.sub [0, 1, 2, 3, 4, 5, 6, 7] (by decide) rfl) hS dX12_joinQueue_14

def f_X12_doLeave_L47 (p0 : Int32) (x_4 : Int32) (k : Int32 → (Nat → Int32) → Option (Int32 × (Nat → Int32) × Int32)) : Nat → Int32 → Int32 → (Nat → Int32) → Option (Int32 × (Nat → Int32) × Int32)
  | 0, _, _, _ => none
  | n + 1, v_5, v_6, w_7 => sf_g (sf_in (x_4 + (3 : Int32)) 158 = true) (sf_b ((w_7 (x_4 + (3 : Int32)).toNatClampNeg) ≤ v_5) (k v_6 w_7) (sf_g (sf_in ((x_4 + (4 : Int32)) + v_5) 158 = true) (sf_g (sf_in ((x_4 + (4 : Int32)) + v_6) 158 = true) (sf_n (upd w_7 ((x_4 + (4 : Int32)) + v_6).toNatClampNeg (w_7 ((x_4 + (4 : Int32)) + v_5).toNatClampNeg)) (fun a_8 => sf_g (sf_in ((x_4 + (4 : Int32)) + v_5) 158 = true) (sf_b ((a_8 ((x_4 + (4 : Int32)) + v_5).toNatClampNeg) = p0) (sf_n ((v_6 + (0 : Int32))) (fun x_11 => sf_n (v_5 + (1 : Int32)) (fun x_12 => f_X12_doLeave_L47 p0 x_4 k n x_12 x_11 a_8))) (sf_n ((v_6 + (1 : Int32))) (fun x_9 => sf_n (v_5 + (1 : Int32)) (fun x_10 => f_X12_doLeave_L47 p0 x_4 k n x_10 x_9 a_8)))))))))
def f_X12_doLeave (ms : Nat → Int32) (mt : Int32) (p0 : Int32) : Option (Int32 × (Nat → Int32) × Int32) :=
  sf_c1 (f_X12_isGuest ms p0) (fun r_1 => sf_b (r_1 = (0 : Int32)) (sf_c2 (f_X12_fails mt (1 : Int32)) (fun r_19 x_20 => some (r_19, ms, x_20))) (sf_c1 (f_X12_guest ms p0 (2 : Int32)) (fun r_2 => sf_n ((r_2 - (1 : Int32))) (fun x_3 => sf_b ((0 : Int32) ≤ x_3) (sf_n (((8 : Int32) + ((9 : Int32) * x_3))) (fun x_4 => f_X12_doLeave_L47 p0 x_4 (fun y_13 z_14 => sf_g (sf_in (x_4 + (3 : Int32)) 158 = true) (sf_n (upd z_14 (x_4 + (3 : Int32)).toNatClampNeg y_13) (fun a_15 => sf_g (sf_in (((44 : Int32) + ((3 : Int32) * p0)) + (2 : Int32)) 158 = true) (sf_n (upd a_15 (((44 : Int32) + ((3 : Int32) * p0)) + (2 : Int32)).toNatClampNeg (0 : Int32)) (fun a_16 => some (x_3, a_16, mt)))))) 2000 (0 : Int32) (0 : Int32) ms)) (sf_c2 (f_X12_fails mt (2 : Int32)) (fun r_17 x_18 => some (r_17, ms, x_18)))))))
theorem yd_X12_doLeave : yX12_doLeave.cls = RX12 ∧ yX12_doLeave.cls ≠ "java/lang/invoke/MethodHandle" ∧ yX12_doLeave.cls ≠ "java/lang/invoke/VarHandle" ∧ (parseMethodDescriptor yX12_doLeave.desc).map (fun d => d.parameters.length) = some 1 := ⟨rfl, by decide, by decide, by decide +kernel⟩
set_option maxRecDepth 100000 in
set_option maxHeartbeats 4000000 in
theorem c_X12_doLeave (l : Launch) (D : va_G) (dA : Nat → ClassId) (h0 h1 h2 h3 h4 h5 h6 h7 : Nat) (sz : Nat) (ms : Nat → Int32) (mb : Nat → Int32) (mv : Nat → Int32) (mi : Int32) (mp : Nat → Int32) (mn : Int32) (mt : Int32) (mo : Nat → Int32) (mO : Int32) (mI : Nat → Int32) (mL : Int32) (mA : Int32) (mW : Int32) (mE : Int32) (mF : Int32) (mc : Nat → Int32) (mM : Int32) (p0 : Int32) (rr : Int32) (q_ms : Nat → Int32) (q_mt : Int32) (hf : f_X12_doLeave ms mt p0 = some (rr, q_ms, q_mt)) : Met l yX12_doLeave (wo (.code yX12_doLeave cX12_doLeave 6 (some .int))) ({ frames := 2, cells := 0, slots := 0, locals := 43 } : Room) (preM D dA [.ref h0, .int p0] sz [(h0, .inr (10, [.ref h1, .ref h2, .ref h3, .int mi, .ref h4, .int mn, .int mt, .ref h5, .int mO, .ref h6, .int mL, .int mA, .int mW, .int mE, .int mF, .ref h7, .int mM])), (h1, .inl (dA 0, 158, .inl ms)), (h2, .inl (dA 0, 158, .inl mb)), (h3, .inl (dA 0, 158, .inl mv)), (h4, .inl (dA 0, 1264, .inl mp)), (h5, .inl (dA 1, 180, .inl mo)), (h6, .inl (dA 1, 60, .inl mI)), (h7, .inl (dA 0, 240, .inl mc))]) (poMi D rr [(h0, .inr (10, [.ref h1, .ref h2, .ref h3, .int mi, .ref h4, .int mn, .int q_mt, .ref h5, .int mO, .ref h6, .int mL, .int mA, .int mW, .int mE, .int mF, .ref h7, .int mM])), (h1, .inl (dA 0, 158, .inl q_ms)), (h2, .inl (dA 0, 158, .inl mb)), (h3, .inl (dA 0, 158, .inl mv)), (h4, .inl (dA 0, 1264, .inl mp)), (h5, .inl (dA 1, 180, .inl mo)), (h6, .inl (dA 1, 60, .inl mI)), (h7, .inl (dA 0, 240, .inl mc))] (va_A [(h0, .inr (10, [.ref h1, .ref h2, .ref h3, .int mi, .ref h4, .int mn, .int mt, .ref h5, .int mO, .ref h6, .int mL, .int mA, .int mW, .int mE, .int mF, .ref h7, .int mM])), (h1, .inl (dA 0, 158, .inl ms)), (h2, .inl (dA 0, 158, .inl mb)), (h3, .inl (dA 0, 158, .inl mv)), (h4, .inl (dA 0, 1264, .inl mp)), (h5, .inl (dA 1, 180, .inl mo)), (h6, .inl (dA 1, 60, .inl mI)), (h7, .inl (dA 0, 240, .inl mc))] sz)) 0 0 (va_A [(h0, .inr (10, [.ref h1, .ref h2, .ref h3, .int mi, .ref h4, .int mn, .int mt, .ref h5, .int mO, .ref h6, .int mL, .int mA, .int mW, .int mE, .int mF, .ref h7, .int mM])), (h1, .inl (dA 0, 158, .inl ms)), (h2, .inl (dA 0, 158, .inl mb)), (h3, .inl (dA 0, 158, .inl mv)), (h4, .inl (dA 0, 1264, .inl mp)), (h5, .inl (dA 1, 180, .inl mo)), (h6, .inl (dA 1, 60, .inl mI)), (h7, .inl (dA 0, 240, .inl mc))] sz) := by
  refine of_M (y := yX12_doLeave) (av := [.ref h0, .int p0]) (ws := [(h0, .inr (10, [.ref h1, .ref h2, .ref h3, .int mi, .ref h4, .int mn, .int mt, .ref h5, .int mO, .ref h6, .int mL, .int mA, .int mW, .int mE, .int mF, .ref h7, .int mM])), (h1, .inl (dA 0, 158, .inl ms)), (h2, .inl (dA 0, 158, .inl mb)), (h3, .inl (dA 0, 158, .inl mv)), (h4, .inl (dA 0, 1264, .inl mp)), (h5, .inl (dA 1, 180, .inl mo)), (h6, .inl (dA 1, 60, .inl mI)), (h7, .inl (dA 0, 240, .inl mc))]) (sz := sz) (own := RX12) (Qc := poMi D rr [(h0, .inr (10, [.ref h1, .ref h2, .ref h3, .int mi, .ref h4, .int mn, .int q_mt, .ref h5, .int mO, .ref h6, .int mL, .int mA, .int mW, .int mE, .int mF, .ref h7, .int mM])), (h1, .inl (dA 0, 158, .inl q_ms)), (h2, .inl (dA 0, 158, .inl mb)), (h3, .inl (dA 0, 158, .inl mv)), (h4, .inl (dA 0, 1264, .inl mp)), (h5, .inl (dA 1, 180, .inl mo)), (h6, .inl (dA 1, 60, .inl mI)), (h7, .inl (dA 0, 240, .inl mc))]) (by decide) rfl (Nat.le_of_ble_eq_true rfl) ?_
  intro p e s m below meth c A hx hb hr ha hown hml hlocks hin hP hK hD hS hA ls hl
  have hl : lv_has ls 6 [(0, .ref h0), (1, .int p0)] := hl
  rw [f_X12_doLeave] at hf
  refine lv_aload_n hx hb dX12_doLeave_0 rfl (lv_at hl 0 rfl) ?_
  refine lv_iload_n hx hb dX12_doLeave_1 rfl (lv_at hl 1 rfl) ?_
  obtain ⟨r_1, hc1, hf⟩ := sf_c1e hf
  refine k_Pi (run_PV (As := [.int p0]) (rest := []) ⟨hx, hb, hml, hown, ha⟩ (c_X12_isGuest l D dA h0 h1 h2 h3 h4 h5 h6 h7  ms mb mv mi mp mn mt mo mO mI mL mA mW mE mF mc mM p0 _ hc1) (gi_V m_1745 m_1747 m_36 m_85 m_1748) yd_X12_isGuest ⟨Nat.le_of_ble_eq_true rfl, Nat.le_of_ble_eq_true rfl⟩ ⟨rfl, rfl⟩ hK hP [0, 1, 2, 3, 4, 5, 6, 7] rfl 0 10 rfl rfl rfl rfl hl.1 rfl (Nat.le_of_ble_eq_true rfl) dX12_doLeave_2 ⟨Nat.le_of_ble_eq_true rfl, Nat.le_of_ble_eq_true rfl⟩) hP hS (fun H locs hP hS => ?_)
  refine lv_if_ne (tgt := 14) hx hb dX12_doLeave_5 (by decide) (fun hc => ?_) (fun hc => ?_)
  · have hf := sf_bn hf hc
    refine lv_aload_n hx hb dX12_doLeave_14 rfl (lv_at hl 0 rfl) ?_
    refine lv_iload_n hx hb dX12_doLeave_15 rfl (lv_at hl 1 rfl) ?_
    refine lv_iconst (v := 2) hx hb dX12_doLeave_16 (by decide) ?_
    obtain ⟨r_2, hc2, hf⟩ := sf_c1e hf
    refine k_Pi (run_PV (As := [.int p0, .int (2 : Int32)]) (rest := []) ⟨hx, hb, hml, hown, ha⟩ (c_X12_guest l D dA h0 h1 h2 h3 h4 h5 h6 h7  ms mb mv mi mp mn mt mo mO mI mL mA mW mE mF mc mM p0 (2 : Int32) _ hc2) (gi_V m_1757 m_1759 m_39 m_85 m_1760) yd_X12_guest ⟨Nat.le_of_ble_eq_true rfl, Nat.le_of_ble_eq_true rfl⟩ ⟨rfl, rfl⟩ hK hP [0, 1, 2, 3, 4, 5, 6, 7] rfl 0 10 rfl rfl rfl rfl hl.1 rfl (Nat.le_of_ble_eq_true rfl) dX12_doLeave_17 ⟨Nat.le_of_ble_eq_true rfl, Nat.le_of_ble_eq_true rfl⟩) hP hS (fun H locs hP hS => ?_)
    refine lv_iconst (v := 1) hx hb dX12_doLeave_20 (by decide) ?_
    refine lv_isub hx hb dX12_doLeave_21 ?_
    obtain ⟨x_3, ex_3, hf⟩ := sf_ne hf
    refine tp_i ex_3 ?_
    refine lv_istore_n (lv' := [(2, .int x_3), (0, .ref h0), (1, .int p0)]) hx hb dX12_doLeave_22 rfl hl (by decide) rfl (fun ls hl => ?_)
    refine lv_iload_n hx hb dX12_doLeave_23 rfl (lv_at hl 0 rfl) ?_
    refine lv_if_ge (tgt := 33) hx hb dX12_doLeave_24 (by decide) (fun hc => ?_) (fun hc => ?_)
    · have hf := sf_bp hf hc
      refine lv_bipush (v := 8) hx hb dX12_doLeave_33 (by decide) ?_
      refine lv_bipush (v := 9) hx hb dX12_doLeave_35 (by decide) ?_
      refine lv_iload_n hx hb dX12_doLeave_37 rfl (lv_at hl 0 rfl) ?_
      refine lv_imul hx hb dX12_doLeave_38 ?_
      refine lv_iadd hx hb dX12_doLeave_39 ?_
      obtain ⟨x_4, ex_4, hf⟩ := sf_ne hf
      refine tp_i ex_4 ?_
      refine lv_istore_n (lv' := [(3, .int x_4), (2, .int x_3), (0, .ref h0), (1, .int p0)]) hx hb dX12_doLeave_40 rfl hl (by decide) rfl (fun ls hl => ?_)
      refine lv_iconst (v := 0) hx hb dX12_doLeave_41 (by decide) ?_
      refine lv_istore (lv' := [(4, .int (0 : Int32)), (3, .int x_4), (2, .int x_3), (0, .ref h0), (1, .int p0)]) hx hb dX12_doLeave_42 hl (by decide) rfl (fun ls hl => ?_)
      refine lv_iconst (v := 0) hx hb dX12_doLeave_44 (by decide) ?_
      refine lv_istore (lv' := [(5, .int (0 : Int32)), (4, .int (0 : Int32)), (3, .int x_4), (2, .int x_3), (0, .ref h0), (1, .int p0)]) hx hb dX12_doLeave_45 hl (by decide) rfl (fun ls hl => ?_)
      have hL47 : ∀ (n : Nat) (k : Int32 → (Nat → Int32) → Option (Int32 × (Nat → Int32) × Int32)) (v_5 : Int32) (v_6 : Int32) (w_7 : (Nat → Int32)) (H : Heap) (locs : List Loc) (ls : Array Slot), va_P D cls [(h0, .inr (10, [.ref h1, .ref h2, .ref h3, .int mi, .ref h4, .int mn, .int mt, .ref h5, .int mO, .ref h6, .int mL, .int mA, .int mW, .int mE, .int mF, .ref h7, .int mM])), (h1, .inl (dA 0, 158, .inl w_7)), (h2, .inl (dA 0, 158, .inl mb)), (h3, .inl (dA 0, 158, .inl mv)), (h4, .inl (dA 0, 1264, .inl mp)), (h5, .inl (dA 1, 180, .inl mo)), (h6, .inl (dA 1, 60, .inl mI)), (h7, .inl (dA 0, 240, .inl mc))] H → va_D A [(h0, .inr (10, [.ref h1, .ref h2, .ref h3, .int mi, .ref h4, .int mn, .int mt, .ref h5, .int mO, .ref h6, .int mL, .int mA, .int mW, .int mE, .int mF, .ref h7, .int mM])), (h1, .inl (dA 0, 158, .inl w_7)), (h2, .inl (dA 0, 158, .inl mb)), (h3, .inl (dA 0, 158, .inl mv)), (h4, .inl (dA 0, 1264, .inl mp)), (h5, .inl (dA 1, 180, .inl mo)), (h6, .inl (dA 1, 60, .inl mI)), (h7, .inl (dA 0, 240, .inl mc))] → va_S A s.heap H locs → lv_has ls 6 [(5, .int v_5), (4, .int v_6), (3, .int x_4), (2, .int x_3), (0, .ref h0), (1, .int p0)] → f_X12_doLeave_L47 p0 x_4 k n v_5 v_6 w_7 = some (rr, q_ms, q_mt) → (∀ (y_13 : Int32) (z_14 : (Nat → Int32)) (H : Heap) (locs : List Loc) (ls : Array Slot), va_P D cls [(h0, .inr (10, [.ref h1, .ref h2, .ref h3, .int mi, .ref h4, .int mn, .int mt, .ref h5, .int mO, .ref h6, .int mL, .int mA, .int mW, .int mE, .int mF, .ref h7, .int mM])), (h1, .inl (dA 0, 158, .inl z_14)), (h2, .inl (dA 0, 158, .inl mb)), (h3, .inl (dA 0, 158, .inl mv)), (h4, .inl (dA 0, 1264, .inl mp)), (h5, .inl (dA 1, 180, .inl mo)), (h6, .inl (dA 1, 60, .inl mI)), (h7, .inl (dA 0, 240, .inl mc))] H → va_D A [(h0, .inr (10, [.ref h1, .ref h2, .ref h3, .int mi, .ref h4, .int mn, .int mt, .ref h5, .int mO, .ref h6, .int mL, .int mA, .int mW, .int mE, .int mF, .ref h7, .int mM])), (h1, .inl (dA 0, 158, .inl z_14)), (h2, .inl (dA 0, 158, .inl mb)), (h3, .inl (dA 0, 158, .inl mv)), (h4, .inl (dA 0, 1264, .inl mp)), (h5, .inl (dA 1, 180, .inl mo)), (h6, .inl (dA 1, 60, .inl mI)), (h7, .inl (dA 0, 240, .inl mc))] → va_S A s.heap H locs → lv_has ls 6 [(4, .int y_13), (3, .int x_4), (2, .int x_3), (0, .ref h0), (1, .int p0)] → k y_13 z_14 = some (rr, q_ms, q_mt) → W p l e ({ frames := 2, cells := 0, slots := 0, locals := 43 } : Room) s m ([.ref h0, .int p0] : List Value).toArray below meth c H locs 0 0 (MQ below (poMi D rr [(h0, .inr (10, [.ref h1, .ref h2, .ref h3, .int mi, .ref h4, .int mn, .int q_mt, .ref h5, .int mO, .ref h6, .int mL, .int mA, .int mW, .int mE, .int mF, .ref h7, .int mM])), (h1, .inl (dA 0, 158, .inl q_ms)), (h2, .inl (dA 0, 158, .inl mb)), (h3, .inl (dA 0, 158, .inl mv)), (h4, .inl (dA 0, 1264, .inl mp)), (h5, .inl (dA 1, 180, .inl mo)), (h6, .inl (dA 1, 60, .inl mI)), (h7, .inl (dA 0, 240, .inl mc))] A) ([.ref h0, .int p0] : List Value).toArray s 0 0 A) (F0 m 113 ls [])) → W p l e ({ frames := 2, cells := 0, slots := 0, locals := 43 } : Room) s m ([.ref h0, .int p0] : List Value).toArray below meth c H locs 0 0 (MQ below (poMi D rr [(h0, .inr (10, [.ref h1, .ref h2, .ref h3, .int mi, .ref h4, .int mn, .int q_mt, .ref h5, .int mO, .ref h6, .int mL, .int mA, .int mW, .int mE, .int mF, .ref h7, .int mM])), (h1, .inl (dA 0, 158, .inl q_ms)), (h2, .inl (dA 0, 158, .inl mb)), (h3, .inl (dA 0, 158, .inl mv)), (h4, .inl (dA 0, 1264, .inl mp)), (h5, .inl (dA 1, 180, .inl mo)), (h6, .inl (dA 1, 60, .inl mI)), (h7, .inl (dA 0, 240, .inl mc))] A) ([.ref h0, .int p0] : List Value).toArray s 0 0 A) (F0 m 47 ls []) := by
        intro n k
        induction n with
        | zero =>
          intro v_5 v_6 w_7 H locs ls hP hD hS hl hf hk
          rw [f_X12_doLeave_L47] at hf
          cases hf
        | succ n ih =>
          intro v_5 v_6 w_7 H locs ls hP hD hS hl hf hk
          rw [f_X12_doLeave_L47] at hf
          refine lv_iload hx hb dX12_doLeave_47 (lv_at hl 0 rfl) ?_
          refine lv_aload_n hx hb dX12_doLeave_49 rfl (lv_at hl 4 rfl) ?_
          refine gt_f (C := RX12) (T := TX12) (N := 17) hx hb ha in_X12 hown hK hP 0 rfl rfl 0 (by decide) m_1649 rfl dX12_doLeave_50 ?_
          refine lv_iload_n hx hb dX12_doLeave_53 rfl (lv_at hl 2 rfl) ?_
          refine lv_iconst (v := 3) hx hb dX12_doLeave_54 (by decide) ?_
          refine lv_iadd hx hb dX12_doLeave_55 ?_
          obtain ⟨hi, hf⟩ := sf_ge hf
          refine ia_ld hx hb hK hP 1 rfl hi dX12_doLeave_56 ?_
          refine lv_icmp_ge (tgt := 113) hx hb dX12_doLeave_57 (by decide) (fun hc => ?_) (fun hc => ?_)
          · have hf := sf_bp hf hc
            exact hk _ _ _ _ _ (hP.sub [0, 1, 2, 3, 4, 5, 6, 7] rfl) (hD.sub [0, 1, 2, 3, 4, 5, 6, 7] (by decide) rfl) hS (lv_sub hl [1, 2, 3, 4, 5] rfl) hf
          · have hf := sf_bn hf hc
            refine lv_aload_n hx hb dX12_doLeave_60 rfl (lv_at hl 4 rfl) ?_
            refine gt_f (C := RX12) (T := TX12) (N := 17) hx hb ha in_X12 hown hK hP 0 rfl rfl 0 (by decide) m_1649 rfl dX12_doLeave_61 ?_
            refine lv_iload_n hx hb dX12_doLeave_64 rfl (lv_at hl 2 rfl) ?_
            refine lv_iconst (v := 4) hx hb dX12_doLeave_65 (by decide) ?_
            refine lv_iadd hx hb dX12_doLeave_66 ?_
            refine lv_iload hx hb dX12_doLeave_67 (lv_at hl 1 rfl) ?_
            refine lv_iadd hx hb dX12_doLeave_69 ?_
            refine lv_aload_n hx hb dX12_doLeave_70 rfl (lv_at hl 4 rfl) ?_
            refine gt_f (C := RX12) (T := TX12) (N := 17) hx hb ha in_X12 hown hK hP 0 rfl rfl 0 (by decide) m_1649 rfl dX12_doLeave_71 ?_
            refine lv_iload_n hx hb dX12_doLeave_74 rfl (lv_at hl 2 rfl) ?_
            refine lv_iconst (v := 4) hx hb dX12_doLeave_75 (by decide) ?_
            refine lv_iadd hx hb dX12_doLeave_76 ?_
            refine lv_iload hx hb dX12_doLeave_77 (lv_at hl 0 rfl) ?_
            refine lv_iadd hx hb dX12_doLeave_79 ?_
            obtain ⟨hi, hf⟩ := sf_ge hf
            refine ia_ld hx hb hK hP 1 rfl hi dX12_doLeave_80 ?_
            obtain ⟨hi, hf⟩ := sf_ge hf
            obtain ⟨a_8, ea_8, hf⟩ := sf_ne hf
            refine ia_st (ws' := [(h0, .inr (10, [.ref h1, .ref h2, .ref h3, .int mi, .ref h4, .int mn, .int mt, .ref h5, .int mO, .ref h6, .int mL, .int mA, .int mW, .int mE, .int mF, .ref h7, .int mM])), (h1, .inl (dA 0, 158, .inl a_8)), (h2, .inl (dA 0, 158, .inl mb)), (h3, .inl (dA 0, 158, .inl mv)), (h4, .inl (dA 0, 1264, .inl mp)), (h5, .inl (dA 1, 180, .inl mo)), (h6, .inl (dA 1, 60, .inl mI)), (h7, .inl (dA 0, 240, .inl mc))]) hx hb hK hP hD hS 1 rfl hi ea_8 rfl dX12_doLeave_81 (fun H locs hP hD hS => ?_)
            refine lv_iload hx hb dX12_doLeave_82 (lv_at hl 1 rfl) ?_
            refine lv_aload_n hx hb dX12_doLeave_84 rfl (lv_at hl 4 rfl) ?_
            refine gt_f (C := RX12) (T := TX12) (N := 17) hx hb ha in_X12 hown hK hP 0 rfl rfl 0 (by decide) m_1649 rfl dX12_doLeave_85 ?_
            refine lv_iload_n hx hb dX12_doLeave_88 rfl (lv_at hl 2 rfl) ?_
            refine lv_iconst (v := 4) hx hb dX12_doLeave_89 (by decide) ?_
            refine lv_iadd hx hb dX12_doLeave_90 ?_
            refine lv_iload hx hb dX12_doLeave_91 (lv_at hl 0 rfl) ?_
            refine lv_iadd hx hb dX12_doLeave_93 ?_
            obtain ⟨hi, hf⟩ := sf_ge hf
            refine ia_ld hx hb hK hP 1 rfl hi dX12_doLeave_94 ?_
            refine lv_iload_n hx hb dX12_doLeave_95 rfl (lv_at hl 5 rfl) ?_
            refine lv_icmp_ne (tgt := 103) hx hb dX12_doLeave_96 (by decide) (fun hc => ?_) (fun hc => ?_)
            · have hf := sf_bn hf hc
              refine lv_iconst (v := 1) hx hb dX12_doLeave_103 (by decide) ?_
              refine lv_iadd hx hb dX12_doLeave_104 ?_
              obtain ⟨x_9, ex_9, hf⟩ := sf_ne hf
              refine tp_i ex_9 ?_
              refine lv_istore (lv' := [(4, .int x_9), (5, .int v_5), (3, .int x_4), (2, .int x_3), (0, .ref h0), (1, .int p0)]) hx hb dX12_doLeave_105 hl (by decide) rfl (fun ls hl => ?_)
              obtain ⟨x_10, ex_10, hf⟩ := sf_ne hf
              refine ii_nc (lv' := [(5, .int x_10), (4, .int x_9), (3, .int x_4), (2, .int x_3), (0, .ref h0), (1, .int p0)]) (k := 1) hx hb dX12_doLeave_107 hl rfl ex_10 (by decide) (by decide) rfl (fun ls hl => ?_)
              refine lv_goto (tgt := 47) hx hb dX12_doLeave_110 (by decide) ?_
              exact ih _ _ _ _ _ _ (hP.sub [0, 1, 2, 3, 4, 5, 6, 7] rfl) (hD.sub [0, 1, 2, 3, 4, 5, 6, 7] (by decide) rfl) hS (lv_sub hl [0, 1, 2, 3, 4, 5] rfl) hf hk
            · have hf := sf_bp hf hc
              refine lv_iconst (v := 0) hx hb dX12_doLeave_99 (by decide) ?_
              refine lv_goto (tgt := 104) hx hb dX12_doLeave_100 (by decide) ?_
              refine lv_iadd hx hb dX12_doLeave_104 ?_
              obtain ⟨x_11, ex_11, hf⟩ := sf_ne hf
              refine tp_i ex_11 ?_
              refine lv_istore (lv' := [(4, .int x_11), (5, .int v_5), (3, .int x_4), (2, .int x_3), (0, .ref h0), (1, .int p0)]) hx hb dX12_doLeave_105 hl (by decide) rfl (fun ls hl => ?_)
              obtain ⟨x_12, ex_12, hf⟩ := sf_ne hf
              refine ii_nc (lv' := [(5, .int x_12), (4, .int x_11), (3, .int x_4), (2, .int x_3), (0, .ref h0), (1, .int p0)]) (k := 1) hx hb dX12_doLeave_107 hl rfl ex_12 (by decide) (by decide) rfl (fun ls hl => ?_)
              refine lv_goto (tgt := 47) hx hb dX12_doLeave_110 (by decide) ?_
              exact ih _ _ _ _ _ _ (hP.sub [0, 1, 2, 3, 4, 5, 6, 7] rfl) (hD.sub [0, 1, 2, 3, 4, 5, 6, 7] (by decide) rfl) hS (lv_sub hl [0, 1, 2, 3, 4, 5] rfl) hf hk
      refine hL47 _ _ _ _ _ _ _ _ hP hD hS (lv_sub hl [0, 1, 2, 3, 4, 5] rfl) hf (fun y_13 z_14 H locs ls hP hD hS hl hf => ?_)
      refine lv_aload_n hx hb dX12_doLeave_113 rfl (lv_at hl 3 rfl) ?_
      refine gt_f (C := RX12) (T := TX12) (N := 17) hx hb ha in_X12 hown hK hP 0 rfl rfl 0 (by decide) m_1649 rfl dX12_doLeave_114 ?_
      refine lv_iload_n hx hb dX12_doLeave_117 rfl (lv_at hl 1 rfl) ?_
      refine lv_iconst (v := 3) hx hb dX12_doLeave_118 (by decide) ?_
      refine lv_iadd hx hb dX12_doLeave_119 ?_
      refine lv_iload hx hb dX12_doLeave_120 (lv_at hl 0 rfl) ?_
      obtain ⟨hi, hf⟩ := sf_ge hf
      obtain ⟨a_15, ea_15, hf⟩ := sf_ne hf
      refine ia_st (ws' := [(h0, .inr (10, [.ref h1, .ref h2, .ref h3, .int mi, .ref h4, .int mn, .int mt, .ref h5, .int mO, .ref h6, .int mL, .int mA, .int mW, .int mE, .int mF, .ref h7, .int mM])), (h1, .inl (dA 0, 158, .inl a_15)), (h2, .inl (dA 0, 158, .inl mb)), (h3, .inl (dA 0, 158, .inl mv)), (h4, .inl (dA 0, 1264, .inl mp)), (h5, .inl (dA 1, 180, .inl mo)), (h6, .inl (dA 1, 60, .inl mI)), (h7, .inl (dA 0, 240, .inl mc))]) hx hb hK hP hD hS 1 rfl hi ea_15 rfl dX12_doLeave_122 (fun H locs hP hD hS => ?_)
      refine lv_aload_n hx hb dX12_doLeave_123 rfl (lv_at hl 3 rfl) ?_
      refine gt_f (C := RX12) (T := TX12) (N := 17) hx hb ha in_X12 hown hK hP 0 rfl rfl 0 (by decide) m_1649 rfl dX12_doLeave_124 ?_
      refine lv_bipush (v := 44) hx hb dX12_doLeave_127 (by decide) ?_
      refine lv_iconst (v := 3) hx hb dX12_doLeave_129 (by decide) ?_
      refine lv_iload_n hx hb dX12_doLeave_130 rfl (lv_at hl 4 rfl) ?_
      refine lv_imul hx hb dX12_doLeave_131 ?_
      refine lv_iadd hx hb dX12_doLeave_132 ?_
      refine lv_iconst (v := 2) hx hb dX12_doLeave_133 (by decide) ?_
      refine lv_iadd hx hb dX12_doLeave_134 ?_
      refine lv_iconst (v := 0) hx hb dX12_doLeave_135 (by decide) ?_
      obtain ⟨hi, hf⟩ := sf_ge hf
      obtain ⟨a_16, ea_16, hf⟩ := sf_ne hf
      refine ia_st (ws' := [(h0, .inr (10, [.ref h1, .ref h2, .ref h3, .int mi, .ref h4, .int mn, .int mt, .ref h5, .int mO, .ref h6, .int mL, .int mA, .int mW, .int mE, .int mF, .ref h7, .int mM])), (h1, .inl (dA 0, 158, .inl a_16)), (h2, .inl (dA 0, 158, .inl mb)), (h3, .inl (dA 0, 158, .inl mv)), (h4, .inl (dA 0, 1264, .inl mp)), (h5, .inl (dA 1, 180, .inl mo)), (h6, .inl (dA 1, 60, .inl mI)), (h7, .inl (dA 0, 240, .inl mc))]) hx hb hK hP hD hS 1 rfl hi ea_16 rfl dX12_doLeave_136 (fun H locs hP hD hS => ?_)
      refine lv_iload_n hx hb dX12_doLeave_137 rfl (lv_at hl 2 rfl) ?_
      cases hf
      exact rt_Mi hx hb hr hlocks (hP.sub [0, 1, 2, 3, 4, 5, 6, 7] rfl) (hD.sub [0, 1, 2, 3, 4, 5, 6, 7] (by decide) rfl) hS dX12_doLeave_138
    · have hf := sf_bn hf hc
      refine lv_aload_n hx hb dX12_doLeave_27 rfl (lv_at hl 1 rfl) ?_
      refine lv_iconst (v := 2) hx hb dX12_doLeave_28 (by decide) ?_
      obtain ⟨r_17, x_18, hc18, hf⟩ := sf_c2e hf
      refine k_Mi (wr := []) (run_MV (As := [.int (2 : Int32)]) (rest := []) ⟨hx, hb, hml, hown, ha⟩ (c_X12_fails l D dA h0 h1 h2 h3 h4 h5 h6 h7 _ ms mb mv mi mp mn mt mo mO mI mL mA mW mE mF mc mM (2 : Int32) _ _ hc18) (gi_V m_1721 m_1723 m_32 m_85 m_1724) yd_X12_fails ⟨Nat.le_of_ble_eq_true rfl, Nat.le_of_ble_eq_true rfl⟩ ⟨rfl, rfl⟩ hK hP hD [0, 1, 2, 3, 4, 5, 6, 7] (by decide) rfl 0 10 rfl rfl rfl rfl hl.1 rfl (Nat.le_of_ble_eq_true rfl) dX12_doLeave_29 ⟨Nat.le_of_ble_eq_true rfl, Nat.le_of_ble_eq_true rfl⟩) hP hD hS hA [0, 1, 2, 3, 4, 5, 6, 7] [] rfl rfl (by decide) (by decide) (fun H locs hP hD hS => ?_)
      cases hf
      exact rt_Mi hx hb hr hlocks (hP.sub [0, 1, 2, 3, 4, 5, 6, 7] rfl) (hD.sub [0, 1, 2, 3, 4, 5, 6, 7] (by decide) rfl) hS dX12_doLeave_32
  · have hf := sf_bp hf hc
    refine lv_aload_n hx hb dX12_doLeave_8 rfl (lv_at hl 0 rfl) ?_
    refine lv_iconst (v := 1) hx hb dX12_doLeave_9 (by decide) ?_
    obtain ⟨r_19, x_20, hc20, hf⟩ := sf_c2e hf
    refine k_Mi (wr := []) (run_MV (As := [.int (1 : Int32)]) (rest := []) ⟨hx, hb, hml, hown, ha⟩ (c_X12_fails l D dA h0 h1 h2 h3 h4 h5 h6 h7 _ ms mb mv mi mp mn mt mo mO mI mL mA mW mE mF mc mM (1 : Int32) _ _ hc20) (gi_V m_1721 m_1723 m_32 m_85 m_1724) yd_X12_fails ⟨Nat.le_of_ble_eq_true rfl, Nat.le_of_ble_eq_true rfl⟩ ⟨rfl, rfl⟩ hK hP hD [0, 1, 2, 3, 4, 5, 6, 7] (by decide) rfl 0 10 rfl rfl rfl rfl hl.1 rfl (Nat.le_of_ble_eq_true rfl) dX12_doLeave_10 ⟨Nat.le_of_ble_eq_true rfl, Nat.le_of_ble_eq_true rfl⟩) hP hD hS hA [0, 1, 2, 3, 4, 5, 6, 7] [] rfl rfl (by decide) (by decide) (fun H locs hP hD hS => ?_)
    cases hf
    exact rt_Mi hx hb hr hlocks (hP.sub [0, 1, 2, 3, 4, 5, 6, 7] rfl) (hD.sub [0, 1, 2, 3, 4, 5, 6, 7] (by decide) rfl) hS dX12_doLeave_13

def f_X12_leaveQueue (ms : Nat → Int32) (mb : Nat → Int32) (mp : Nat → Int32) (mn : Int32) (mt : Int32) (p0 : Int32) : Option (Int32 × (Nat → Int32) × (Nat → Int32) × (Nat → Int32) × Int32 × Int32) :=
  sf_c2 (f_X12_keep ms mb mt) (fun a_1 x_2 => sf_c3 (f_X12_doLeave ms x_2 p0) (fun r_3 a_4 x_5 => sf_c4 (f_X12_ends a_4 a_1 mp mn x_5 r_3) (fun r_6 a_7 a_8 x_9 => some (r_6, a_7, a_1, a_8, x_9, x_5))))
theorem yd_X12_leaveQueue : yX12_leaveQueue.cls = RX12 ∧ yX12_leaveQueue.cls ≠ "java/lang/invoke/MethodHandle" ∧ yX12_leaveQueue.cls ≠ "java/lang/invoke/VarHandle" ∧ (parseMethodDescriptor yX12_leaveQueue.desc).map (fun d => d.parameters.length) = some 1 := ⟨rfl, by decide, by decide, by decide +kernel⟩
set_option maxRecDepth 100000 in
set_option maxHeartbeats 4000000 in
theorem c_X12_leaveQueue (l : Launch) (D : va_G) (dA : Nat → ClassId) (h0 h1 h2 h3 h4 h5 h6 h7 : Nat) (sz : Nat) (ms : Nat → Int32) (mb : Nat → Int32) (mv : Nat → Int32) (mi : Int32) (mp : Nat → Int32) (mn : Int32) (mt : Int32) (mo : Nat → Int32) (mO : Int32) (mI : Nat → Int32) (mL : Int32) (mA : Int32) (mW : Int32) (mE : Int32) (mF : Int32) (mc : Nat → Int32) (mM : Int32) (p0 : Int32) (rr : Int32) (q_ms : Nat → Int32) (q_mb : Nat → Int32) (q_mp : Nat → Int32) (q_mn : Int32) (q_mt : Int32) (hf : f_X12_leaveQueue ms mb mp mn mt p0 = some (rr, q_ms, q_mb, q_mp, q_mn, q_mt)) : Met l yX12_leaveQueue (wo (.code yX12_leaveQueue cX12_leaveQueue 2 (some .int))) ({ frames := 3, cells := 0, slots := 0, locals := 111 } : Room) (preM D dA [.ref h0, .int p0] sz [(h0, .inr (10, [.ref h1, .ref h2, .ref h3, .int mi, .ref h4, .int mn, .int mt, .ref h5, .int mO, .ref h6, .int mL, .int mA, .int mW, .int mE, .int mF, .ref h7, .int mM])), (h1, .inl (dA 0, 158, .inl ms)), (h2, .inl (dA 0, 158, .inl mb)), (h3, .inl (dA 0, 158, .inl mv)), (h4, .inl (dA 0, 1264, .inl mp)), (h5, .inl (dA 1, 180, .inl mo)), (h6, .inl (dA 1, 60, .inl mI)), (h7, .inl (dA 0, 240, .inl mc))]) (poMi D rr [(h0, .inr (10, [.ref h1, .ref h2, .ref h3, .int mi, .ref h4, .int q_mn, .int q_mt, .ref h5, .int mO, .ref h6, .int mL, .int mA, .int mW, .int mE, .int mF, .ref h7, .int mM])), (h1, .inl (dA 0, 158, .inl q_ms)), (h2, .inl (dA 0, 158, .inl q_mb)), (h3, .inl (dA 0, 158, .inl mv)), (h4, .inl (dA 0, 1264, .inl q_mp)), (h5, .inl (dA 1, 180, .inl mo)), (h6, .inl (dA 1, 60, .inl mI)), (h7, .inl (dA 0, 240, .inl mc))] (va_A [(h0, .inr (10, [.ref h1, .ref h2, .ref h3, .int mi, .ref h4, .int mn, .int mt, .ref h5, .int mO, .ref h6, .int mL, .int mA, .int mW, .int mE, .int mF, .ref h7, .int mM])), (h1, .inl (dA 0, 158, .inl ms)), (h2, .inl (dA 0, 158, .inl mb)), (h3, .inl (dA 0, 158, .inl mv)), (h4, .inl (dA 0, 1264, .inl mp)), (h5, .inl (dA 1, 180, .inl mo)), (h6, .inl (dA 1, 60, .inl mI)), (h7, .inl (dA 0, 240, .inl mc))] sz)) 0 0 (va_A [(h0, .inr (10, [.ref h1, .ref h2, .ref h3, .int mi, .ref h4, .int mn, .int mt, .ref h5, .int mO, .ref h6, .int mL, .int mA, .int mW, .int mE, .int mF, .ref h7, .int mM])), (h1, .inl (dA 0, 158, .inl ms)), (h2, .inl (dA 0, 158, .inl mb)), (h3, .inl (dA 0, 158, .inl mv)), (h4, .inl (dA 0, 1264, .inl mp)), (h5, .inl (dA 1, 180, .inl mo)), (h6, .inl (dA 1, 60, .inl mI)), (h7, .inl (dA 0, 240, .inl mc))] sz) := by
  refine of_M (y := yX12_leaveQueue) (av := [.ref h0, .int p0]) (ws := [(h0, .inr (10, [.ref h1, .ref h2, .ref h3, .int mi, .ref h4, .int mn, .int mt, .ref h5, .int mO, .ref h6, .int mL, .int mA, .int mW, .int mE, .int mF, .ref h7, .int mM])), (h1, .inl (dA 0, 158, .inl ms)), (h2, .inl (dA 0, 158, .inl mb)), (h3, .inl (dA 0, 158, .inl mv)), (h4, .inl (dA 0, 1264, .inl mp)), (h5, .inl (dA 1, 180, .inl mo)), (h6, .inl (dA 1, 60, .inl mI)), (h7, .inl (dA 0, 240, .inl mc))]) (sz := sz) (own := RX12) (Qc := poMi D rr [(h0, .inr (10, [.ref h1, .ref h2, .ref h3, .int mi, .ref h4, .int q_mn, .int q_mt, .ref h5, .int mO, .ref h6, .int mL, .int mA, .int mW, .int mE, .int mF, .ref h7, .int mM])), (h1, .inl (dA 0, 158, .inl q_ms)), (h2, .inl (dA 0, 158, .inl q_mb)), (h3, .inl (dA 0, 158, .inl mv)), (h4, .inl (dA 0, 1264, .inl q_mp)), (h5, .inl (dA 1, 180, .inl mo)), (h6, .inl (dA 1, 60, .inl mI)), (h7, .inl (dA 0, 240, .inl mc))]) (by decide) rfl (Nat.le_of_ble_eq_true rfl) ?_
  intro p e s m below meth c A hx hb hr ha hown hml hlocks hin hP hK hD hS hA ls hl
  have hl : lv_has ls 2 [(0, .ref h0), (1, .int p0)] := hl
  rw [f_X12_leaveQueue] at hf
  refine lv_aload_n hx hb dX12_leaveQueue_0 rfl (lv_at hl 0 rfl) ?_
  obtain ⟨a_1, x_2, hc2, hf⟩ := sf_c2e hf
  refine k_Mv (wr := []) (run_MV (As := []) (rest := []) ⟨hx, hb, hml, hown, ha⟩ (c_X12_keep l D dA h0 h1 h2 h3 h4 h5 h6 h7 _ ms mb mv mi mp mn mt mo mO mI mL mA mW mE mF mc mM _ _ hc2) (gi_V m_1709 m_1711 m_30 m_85 m_1712) yd_X12_keep ⟨Nat.le_of_ble_eq_true rfl, Nat.le_of_ble_eq_true rfl⟩ ⟨rfl, rfl⟩ hK hP hD [0, 1, 2, 3, 4, 5, 6, 7] (by decide) rfl 0 10 rfl rfl rfl rfl hl.1 rfl (Nat.le_of_ble_eq_true rfl) dX12_leaveQueue_1 ⟨Nat.le_of_ble_eq_true rfl, Nat.le_of_ble_eq_true rfl⟩) hP hD hS hA [0, 1, 2, 3, 4, 5, 6, 7] [] rfl rfl (by decide) (by decide) (fun H locs hP hD hS => ?_)
  refine lv_aload_n hx hb dX12_leaveQueue_4 rfl (lv_at hl 0 rfl) ?_
  refine lv_aload_n hx hb dX12_leaveQueue_5 rfl (lv_at hl 0 rfl) ?_
  refine lv_iload_n hx hb dX12_leaveQueue_6 rfl (lv_at hl 1 rfl) ?_
  obtain ⟨r_3, a_4, x_5, hc5, hf⟩ := sf_c3e hf
  refine k_Mi (wr := []) (run_MV (As := [.int p0]) (rest := [.ref h0]) ⟨hx, hb, hml, hown, ha⟩ (c_X12_doLeave l D dA h0 h1 h2 h3 h4 h5 h6 h7 _ ms a_1 mv mi mp mn x_2 mo mO mI mL mA mW mE mF mc mM p0 _ _ _ hc5) (gi_V m_1817 m_1819 m_51 m_85 m_1820) yd_X12_doLeave ⟨Nat.le_of_ble_eq_true rfl, Nat.le_of_ble_eq_true rfl⟩ ⟨rfl, rfl⟩ hK hP hD [0, 1, 2, 3, 4, 5, 6, 7] (by decide) rfl 0 10 rfl rfl rfl rfl hl.1 rfl (Nat.le_of_ble_eq_true rfl) dX12_leaveQueue_7 ⟨Nat.le_of_ble_eq_true rfl, Nat.le_of_ble_eq_true rfl⟩) hP hD hS hA [0, 1, 2, 3, 4, 5, 6, 7] [] rfl rfl (by decide) (by decide) (fun H locs hP hD hS => ?_)
  obtain ⟨r_6, a_7, a_8, x_9, hc9, hf⟩ := sf_c4e hf
  refine k_Mi (wr := []) (run_MV (As := [.int r_3]) (rest := []) ⟨hx, hb, hml, hown, ha⟩ (c_X12_ends l D dA h0 h1 h2 h3 h4 h5 h6 h7 _ a_4 a_1 mv mi mp mn x_5 mo mO mI mL mA mW mE mF mc mM r_3 _ _ _ _ hc9) (gi_V m_1725 m_1727 m_33 m_85 m_1728) yd_X12_ends ⟨Nat.le_of_ble_eq_true rfl, Nat.le_of_ble_eq_true rfl⟩ ⟨rfl, rfl⟩ hK hP hD [0, 1, 2, 3, 4, 5, 6, 7] (by decide) rfl 0 10 rfl rfl rfl rfl hl.1 rfl (Nat.le_of_ble_eq_true rfl) dX12_leaveQueue_10 ⟨Nat.le_of_ble_eq_true rfl, Nat.le_of_ble_eq_true rfl⟩) hP hD hS hA [0, 1, 2, 3, 4, 5, 6, 7] [] rfl rfl (by decide) (by decide) (fun H locs hP hD hS => ?_)
  cases hf
  exact rt_Mi hx hb hr hlocks (hP.sub [0, 1, 2, 3, 4, 5, 6, 7] rfl) (hD.sub [0, 1, 2, 3, 4, 5, 6, 7] (by decide) rfl) hS dX12_leaveQueue_13

def f_X12_calls (ms : Nat → Int32) (mt : Int32) (p0 : Int32) : Option ((Nat → Int32) × Int32) :=
  sf_c1 (f_X12_slide ms p0 (3 : Int32)) (fun r_1 => sf_b (r_1 = (0 : Int32)) (some (ms, mt)) (sf_c1 (f_X12_queued ms p0 (0 : Int32)) (fun r_2 => sf_c1 (f_X12_guest ms r_2 (0 : Int32)) (fun r_3 => sf_c1 (f_X12_slide ms p0 (1 : Int32)) (fun r_4 => sf_b (r_4 ≤ r_3) (sf_g (sf_in (2 : Int32) 158 = true) (sf_b ((12 : Int32) ≤ (ms (2 : Int32).toNatClampNeg)) (some (ms, mt)) (sf_g (sf_in (3 : Int32) 158 = true) (sf_c1 (f_X12_clashes ms r_2 p0 (ms (3 : Int32).toNatClampNeg)) (fun r_5 => sf_b (r_5 = (0 : Int32)) (sf_c3 (f_X12_doLeave ms mt r_2) (fun r_6 a_7 x_8 => sf_g (sf_in (3 : Int32) 158 = true) (sf_c2 (f_X12_makes a_7 r_2 p0 (a_7 (3 : Int32).toNatClampNeg)) (fun r_9 a_10 => some (a_10, x_8))))) (some (ms, mt))))))) (sf_c3 (f_X12_doLeave ms mt r_2) (fun r_11 a_12 x_13 => some (a_12, x_13))))))))
theorem yd_X12_calls : yX12_calls.cls = RX12 ∧ yX12_calls.cls ≠ "java/lang/invoke/MethodHandle" ∧ yX12_calls.cls ≠ "java/lang/invoke/VarHandle" ∧ (parseMethodDescriptor yX12_calls.desc).map (fun d => d.parameters.length) = some 1 := ⟨rfl, by decide, by decide, by decide +kernel⟩
set_option maxRecDepth 100000 in
set_option maxHeartbeats 4000000 in
theorem c_X12_calls (l : Launch) (D : va_G) (dA : Nat → ClassId) (h0 h1 h2 h3 h4 h5 h6 h7 : Nat) (sz : Nat) (ms : Nat → Int32) (mb : Nat → Int32) (mv : Nat → Int32) (mi : Int32) (mp : Nat → Int32) (mn : Int32) (mt : Int32) (mo : Nat → Int32) (mO : Int32) (mI : Nat → Int32) (mL : Int32) (mA : Int32) (mW : Int32) (mE : Int32) (mF : Int32) (mc : Nat → Int32) (mM : Int32) (p0 : Int32) (q_ms : Nat → Int32) (q_mt : Int32) (hf : f_X12_calls ms mt p0 = some (q_ms, q_mt)) : Met l yX12_calls (wo (.code yX12_calls cX12_calls 6 none)) ({ frames := 4, cells := 0, slots := 0, locals := 91 } : Room) (preM D dA [.ref h0, .int p0] sz [(h0, .inr (10, [.ref h1, .ref h2, .ref h3, .int mi, .ref h4, .int mn, .int mt, .ref h5, .int mO, .ref h6, .int mL, .int mA, .int mW, .int mE, .int mF, .ref h7, .int mM])), (h1, .inl (dA 0, 158, .inl ms)), (h2, .inl (dA 0, 158, .inl mb)), (h3, .inl (dA 0, 158, .inl mv)), (h4, .inl (dA 0, 1264, .inl mp)), (h5, .inl (dA 1, 180, .inl mo)), (h6, .inl (dA 1, 60, .inl mI)), (h7, .inl (dA 0, 240, .inl mc))]) (poMv D [(h0, .inr (10, [.ref h1, .ref h2, .ref h3, .int mi, .ref h4, .int mn, .int q_mt, .ref h5, .int mO, .ref h6, .int mL, .int mA, .int mW, .int mE, .int mF, .ref h7, .int mM])), (h1, .inl (dA 0, 158, .inl q_ms)), (h2, .inl (dA 0, 158, .inl mb)), (h3, .inl (dA 0, 158, .inl mv)), (h4, .inl (dA 0, 1264, .inl mp)), (h5, .inl (dA 1, 180, .inl mo)), (h6, .inl (dA 1, 60, .inl mI)), (h7, .inl (dA 0, 240, .inl mc))] (va_A [(h0, .inr (10, [.ref h1, .ref h2, .ref h3, .int mi, .ref h4, .int mn, .int mt, .ref h5, .int mO, .ref h6, .int mL, .int mA, .int mW, .int mE, .int mF, .ref h7, .int mM])), (h1, .inl (dA 0, 158, .inl ms)), (h2, .inl (dA 0, 158, .inl mb)), (h3, .inl (dA 0, 158, .inl mv)), (h4, .inl (dA 0, 1264, .inl mp)), (h5, .inl (dA 1, 180, .inl mo)), (h6, .inl (dA 1, 60, .inl mI)), (h7, .inl (dA 0, 240, .inl mc))] sz)) 0 0 (va_A [(h0, .inr (10, [.ref h1, .ref h2, .ref h3, .int mi, .ref h4, .int mn, .int mt, .ref h5, .int mO, .ref h6, .int mL, .int mA, .int mW, .int mE, .int mF, .ref h7, .int mM])), (h1, .inl (dA 0, 158, .inl ms)), (h2, .inl (dA 0, 158, .inl mb)), (h3, .inl (dA 0, 158, .inl mv)), (h4, .inl (dA 0, 1264, .inl mp)), (h5, .inl (dA 1, 180, .inl mo)), (h6, .inl (dA 1, 60, .inl mI)), (h7, .inl (dA 0, 240, .inl mc))] sz) := by
  refine of_M (y := yX12_calls) (av := [.ref h0, .int p0]) (ws := [(h0, .inr (10, [.ref h1, .ref h2, .ref h3, .int mi, .ref h4, .int mn, .int mt, .ref h5, .int mO, .ref h6, .int mL, .int mA, .int mW, .int mE, .int mF, .ref h7, .int mM])), (h1, .inl (dA 0, 158, .inl ms)), (h2, .inl (dA 0, 158, .inl mb)), (h3, .inl (dA 0, 158, .inl mv)), (h4, .inl (dA 0, 1264, .inl mp)), (h5, .inl (dA 1, 180, .inl mo)), (h6, .inl (dA 1, 60, .inl mI)), (h7, .inl (dA 0, 240, .inl mc))]) (sz := sz) (own := RX12) (Qc := poMv D [(h0, .inr (10, [.ref h1, .ref h2, .ref h3, .int mi, .ref h4, .int mn, .int q_mt, .ref h5, .int mO, .ref h6, .int mL, .int mA, .int mW, .int mE, .int mF, .ref h7, .int mM])), (h1, .inl (dA 0, 158, .inl q_ms)), (h2, .inl (dA 0, 158, .inl mb)), (h3, .inl (dA 0, 158, .inl mv)), (h4, .inl (dA 0, 1264, .inl mp)), (h5, .inl (dA 1, 180, .inl mo)), (h6, .inl (dA 1, 60, .inl mI)), (h7, .inl (dA 0, 240, .inl mc))]) (by decide) rfl (Nat.le_of_ble_eq_true rfl) ?_
  intro p e s m below meth c A hx hb hr ha hown hml hlocks hin hP hK hD hS hA ls hl
  have hl : lv_has ls 6 [(0, .ref h0), (1, .int p0)] := hl
  rw [f_X12_calls] at hf
  refine lv_aload_n hx hb dX12_calls_0 rfl (lv_at hl 0 rfl) ?_
  refine lv_iload_n hx hb dX12_calls_1 rfl (lv_at hl 1 rfl) ?_
  refine lv_iconst (v := 3) hx hb dX12_calls_2 (by decide) ?_
  obtain ⟨r_1, hc1, hf⟩ := sf_c1e hf
  refine k_Pi (run_PV (As := [.int p0, .int (3 : Int32)]) (rest := []) ⟨hx, hb, hml, hown, ha⟩ (c_X12_slide l D dA h0 h1 h2 h3 h4 h5 h6 h7  ms mb mv mi mp mn mt mo mO mI mL mA mW mE mF mc mM p0 (3 : Int32) _ hc1) (gi_V m_1761 m_1763 m_40 m_85 m_1764) yd_X12_slide ⟨Nat.le_of_ble_eq_true rfl, Nat.le_of_ble_eq_true rfl⟩ ⟨rfl, rfl⟩ hK hP [0, 1, 2, 3, 4, 5, 6, 7] rfl 0 10 rfl rfl rfl rfl hl.1 rfl (Nat.le_of_ble_eq_true rfl) dX12_calls_3 ⟨Nat.le_of_ble_eq_true rfl, Nat.le_of_ble_eq_true rfl⟩) hP hS (fun H locs hP hS => ?_)
  refine lv_if_ne (tgt := 10) hx hb dX12_calls_6 (by decide) (fun hc => ?_) (fun hc => ?_)
  · have hf := sf_bn hf hc
    refine lv_aload_n hx hb dX12_calls_10 rfl (lv_at hl 0 rfl) ?_
    refine lv_iload_n hx hb dX12_calls_11 rfl (lv_at hl 1 rfl) ?_
    refine lv_iconst (v := 0) hx hb dX12_calls_12 (by decide) ?_
    obtain ⟨r_2, hc2, hf⟩ := sf_c1e hf
    refine k_Pi (run_PV (As := [.int p0, .int (0 : Int32)]) (rest := []) ⟨hx, hb, hml, hown, ha⟩ (c_X12_queued l D dA h0 h1 h2 h3 h4 h5 h6 h7  ms mb mv mi mp mn mt mo mO mI mL mA mW mE mF mc mM p0 (0 : Int32) _ hc2) (gi_V m_1837 m_1839 m_55 m_85 m_1840) yd_X12_queued ⟨Nat.le_of_ble_eq_true rfl, Nat.le_of_ble_eq_true rfl⟩ ⟨rfl, rfl⟩ hK hP [0, 1, 2, 3, 4, 5, 6, 7] rfl 0 10 rfl rfl rfl rfl hl.1 rfl (Nat.le_of_ble_eq_true rfl) dX12_calls_13 ⟨Nat.le_of_ble_eq_true rfl, Nat.le_of_ble_eq_true rfl⟩) hP hS (fun H locs hP hS => ?_)
    refine lv_istore_n (lv' := [(2, .int r_2), (0, .ref h0), (1, .int p0)]) hx hb dX12_calls_16 rfl hl (by decide) rfl (fun ls hl => ?_)
    refine lv_aload_n hx hb dX12_calls_17 rfl (lv_at hl 1 rfl) ?_
    refine lv_iload_n hx hb dX12_calls_18 rfl (lv_at hl 0 rfl) ?_
    refine lv_iconst (v := 0) hx hb dX12_calls_19 (by decide) ?_
    obtain ⟨r_3, hc3, hf⟩ := sf_c1e hf
    refine k_Pi (run_PV (As := [.int r_2, .int (0 : Int32)]) (rest := []) ⟨hx, hb, hml, hown, ha⟩ (c_X12_guest l D dA h0 h1 h2 h3 h4 h5 h6 h7  ms mb mv mi mp mn mt mo mO mI mL mA mW mE mF mc mM r_2 (0 : Int32) _ hc3) (gi_V m_1757 m_1759 m_39 m_85 m_1760) yd_X12_guest ⟨Nat.le_of_ble_eq_true rfl, Nat.le_of_ble_eq_true rfl⟩ ⟨rfl, rfl⟩ hK hP [0, 1, 2, 3, 4, 5, 6, 7] rfl 0 10 rfl rfl rfl rfl hl.1 rfl (Nat.le_of_ble_eq_true rfl) dX12_calls_20 ⟨Nat.le_of_ble_eq_true rfl, Nat.le_of_ble_eq_true rfl⟩) hP hS (fun H locs hP hS => ?_)
    refine lv_aload_n hx hb dX12_calls_23 rfl (lv_at hl 1 rfl) ?_
    refine lv_iload_n hx hb dX12_calls_24 rfl (lv_at hl 2 rfl) ?_
    refine lv_iconst (v := 1) hx hb dX12_calls_25 (by decide) ?_
    obtain ⟨r_4, hc4, hf⟩ := sf_c1e hf
    refine k_Pi (run_PV (As := [.int p0, .int (1 : Int32)]) (rest := [.int r_3]) ⟨hx, hb, hml, hown, ha⟩ (c_X12_slide l D dA h0 h1 h2 h3 h4 h5 h6 h7  ms mb mv mi mp mn mt mo mO mI mL mA mW mE mF mc mM p0 (1 : Int32) _ hc4) (gi_V m_1761 m_1763 m_40 m_85 m_1764) yd_X12_slide ⟨Nat.le_of_ble_eq_true rfl, Nat.le_of_ble_eq_true rfl⟩ ⟨rfl, rfl⟩ hK hP [0, 1, 2, 3, 4, 5, 6, 7] rfl 0 10 rfl rfl rfl rfl hl.1 rfl (Nat.le_of_ble_eq_true rfl) dX12_calls_26 ⟨Nat.le_of_ble_eq_true rfl, Nat.le_of_ble_eq_true rfl⟩) hP hS (fun H locs hP hS => ?_)
    refine lv_icmp_ge (tgt := 36) hx hb dX12_calls_29 (by decide) (fun hc => ?_) (fun hc => ?_)
    · have hf := sf_bp hf hc
      refine lv_iconst (v := 0) hx hb dX12_calls_36 (by decide) ?_
      refine lv_istore_n (lv' := [(3, .int (0 : Int32)), (2, .int r_2), (0, .ref h0), (1, .int p0)]) hx hb dX12_calls_37 rfl hl (by decide) rfl (fun ls hl => ?_)
      refine lv_iload_n hx hb dX12_calls_38 rfl (lv_at hl 0 rfl) ?_
      refine lv_if_ne (tgt := 72) hx hb dX12_calls_39 (by decide) (fun hc => absurd hc (by decide)) (fun hc => ?_)
      refine lv_aload_n hx hb dX12_calls_42 rfl (lv_at hl 2 rfl) ?_
      refine gt_f (C := RX12) (T := TX12) (N := 17) hx hb ha in_X12 hown hK hP 0 rfl rfl 0 (by decide) m_1649 rfl dX12_calls_43 ?_
      refine lv_iconst (v := 2) hx hb dX12_calls_46 (by decide) ?_
      obtain ⟨hi, hf⟩ := sf_ge hf
      refine ia_ld hx hb hK hP 1 rfl hi dX12_calls_47 ?_
      refine lv_bipush (v := 12) hx hb dX12_calls_48 (by decide) ?_
      refine lv_icmp_ge (tgt := 72) hx hb dX12_calls_50 (by decide) (fun hc => ?_) (fun hc => ?_)
      · have hf := sf_bp hf hc
        refine lv_iconst (v := 0) hx hb dX12_calls_72 (by decide) ?_
        refine lv_istore (lv' := [(4, .int (0 : Int32)), (3, .int (0 : Int32)), (2, .int r_2), (0, .ref h0), (1, .int p0)]) hx hb dX12_calls_73 hl (by decide) rfl (fun ls hl => ?_)
        refine lv_iload_n hx hb dX12_calls_75 rfl (lv_at hl 1 rfl) ?_
        refine lv_if_ne (tgt := 84) hx hb dX12_calls_76 (by decide) (fun hc => absurd hc (by decide)) (fun hc => ?_)
        refine lv_iload hx hb dX12_calls_79 (lv_at hl 0 rfl) ?_
        refine lv_if_eq (tgt := 91) hx hb dX12_calls_81 (by decide) (fun hc => ?_) (fun hc => absurd (by decide) hc)
        refine lv_iload hx hb dX12_calls_91 (lv_at hl 0 rfl) ?_
        refine lv_if_eq (tgt := 110) hx hb dX12_calls_93 (by decide) (fun hc => ?_) (fun hc => absurd (by decide) hc)
        cases hf
        exact rt_Mv hx hb hr hlocks (hP.sub [0, 1, 2, 3, 4, 5, 6, 7] rfl) (hD.sub [0, 1, 2, 3, 4, 5, 6, 7] (by decide) rfl) hS dX12_calls_110
      · have hf := sf_bn hf hc
        refine lv_aload_n hx hb dX12_calls_53 rfl (lv_at hl 2 rfl) ?_
        refine lv_iload_n hx hb dX12_calls_54 rfl (lv_at hl 1 rfl) ?_
        refine lv_iload_n hx hb dX12_calls_55 rfl (lv_at hl 3 rfl) ?_
        refine lv_aload_n hx hb dX12_calls_56 rfl (lv_at hl 2 rfl) ?_
        refine gt_f (C := RX12) (T := TX12) (N := 17) hx hb ha in_X12 hown hK hP 0 rfl rfl 0 (by decide) m_1649 rfl dX12_calls_57 ?_
        refine lv_iconst (v := 3) hx hb dX12_calls_60 (by decide) ?_
        obtain ⟨hi, hf⟩ := sf_ge hf
        refine ia_ld hx hb hK hP 1 rfl hi dX12_calls_61 ?_
        obtain ⟨r_5, hc5, hf⟩ := sf_c1e hf
        refine k_Pi (run_PV (As := [.int r_2, .int p0, .int (ms (3 : Int32).toNatClampNeg)]) (rest := []) ⟨hx, hb, hml, hown, ha⟩ (c_X12_clashes l D dA h0 h1 h2 h3 h4 h5 h6 h7  ms mb mv mi mp mn mt mo mO mI mL mA mW mE mF mc mM r_2 p0 (ms (3 : Int32).toNatClampNeg) _ hc5) (gi_V m_1765 m_1767 m_41 m_85 m_1768) yd_X12_clashes ⟨Nat.le_of_ble_eq_true rfl, Nat.le_of_ble_eq_true rfl⟩ ⟨rfl, rfl⟩ hK hP [0, 1, 2, 3, 4, 5, 6, 7] rfl 0 10 rfl rfl rfl rfl hl.1 rfl (Nat.le_of_ble_eq_true rfl) dX12_calls_62 ⟨Nat.le_of_ble_eq_true rfl, Nat.le_of_ble_eq_true rfl⟩) hP hS (fun H locs hP hS => ?_)
        refine lv_if_ne (tgt := 72) hx hb dX12_calls_65 (by decide) (fun hc => ?_) (fun hc => ?_)
        · have hf := sf_bn hf hc
          refine lv_iconst (v := 0) hx hb dX12_calls_72 (by decide) ?_
          refine lv_istore (lv' := [(4, .int (0 : Int32)), (3, .int (0 : Int32)), (2, .int r_2), (0, .ref h0), (1, .int p0)]) hx hb dX12_calls_73 hl (by decide) rfl (fun ls hl => ?_)
          refine lv_iload_n hx hb dX12_calls_75 rfl (lv_at hl 1 rfl) ?_
          refine lv_if_ne (tgt := 84) hx hb dX12_calls_76 (by decide) (fun hc => absurd hc (by decide)) (fun hc => ?_)
          refine lv_iload hx hb dX12_calls_79 (lv_at hl 0 rfl) ?_
          refine lv_if_eq (tgt := 91) hx hb dX12_calls_81 (by decide) (fun hc => ?_) (fun hc => absurd (by decide) hc)
          refine lv_iload hx hb dX12_calls_91 (lv_at hl 0 rfl) ?_
          refine lv_if_eq (tgt := 110) hx hb dX12_calls_93 (by decide) (fun hc => ?_) (fun hc => absurd (by decide) hc)
          cases hf
          exact rt_Mv hx hb hr hlocks (hP.sub [0, 1, 2, 3, 4, 5, 6, 7] rfl) (hD.sub [0, 1, 2, 3, 4, 5, 6, 7] (by decide) rfl) hS dX12_calls_110
        · have hf := sf_bp hf hc
          refine lv_iconst (v := 1) hx hb dX12_calls_68 (by decide) ?_
          refine lv_goto (tgt := 73) hx hb dX12_calls_69 (by decide) ?_
          refine lv_istore (lv' := [(4, .int (1 : Int32)), (3, .int (0 : Int32)), (2, .int r_2), (0, .ref h0), (1, .int p0)]) hx hb dX12_calls_73 hl (by decide) rfl (fun ls hl => ?_)
          refine lv_iload_n hx hb dX12_calls_75 rfl (lv_at hl 1 rfl) ?_
          refine lv_if_ne (tgt := 84) hx hb dX12_calls_76 (by decide) (fun hc => absurd hc (by decide)) (fun hc => ?_)
          refine lv_iload hx hb dX12_calls_79 (lv_at hl 0 rfl) ?_
          refine lv_if_eq (tgt := 91) hx hb dX12_calls_81 (by decide) (fun hc => absurd hc (by decide)) (fun hc => ?_)
          refine lv_aload_n hx hb dX12_calls_84 rfl (lv_at hl 3 rfl) ?_
          refine lv_iload_n hx hb dX12_calls_85 rfl (lv_at hl 2 rfl) ?_
          obtain ⟨r_6, a_7, x_8, hc8, hf⟩ := sf_c3e hf
          refine k_Mi (wr := []) (run_MV (As := [.int r_2]) (rest := []) ⟨hx, hb, hml, hown, ha⟩ (c_X12_doLeave l D dA h0 h1 h2 h3 h4 h5 h6 h7 _ ms mb mv mi mp mn mt mo mO mI mL mA mW mE mF mc mM r_2 _ _ _ hc8) (gi_V m_1817 m_1819 m_51 m_85 m_1820) yd_X12_doLeave ⟨Nat.le_of_ble_eq_true rfl, Nat.le_of_ble_eq_true rfl⟩ ⟨rfl, rfl⟩ hK hP hD [0, 1, 2, 3, 4, 5, 6, 7] (by decide) rfl 0 10 rfl rfl rfl rfl hl.1 rfl (Nat.le_of_ble_eq_true rfl) dX12_calls_86 ⟨Nat.le_of_ble_eq_true rfl, Nat.le_of_ble_eq_true rfl⟩) hP hD hS hA [0, 1, 2, 3, 4, 5, 6, 7] [] rfl rfl (by decide) (by decide) (fun H locs hP hD hS => ?_)
          refine lv_istore (lv' := [(5, .int r_6), (4, .int (1 : Int32)), (3, .int (0 : Int32)), (2, .int r_2), (0, .ref h0), (1, .int p0)]) hx hb dX12_calls_89 hl (by decide) rfl (fun ls hl => ?_)
          refine lv_iload hx hb dX12_calls_91 (lv_at hl 1 rfl) ?_
          refine lv_if_eq (tgt := 110) hx hb dX12_calls_93 (by decide) (fun hc => absurd hc (by decide)) (fun hc => ?_)
          refine lv_aload_n hx hb dX12_calls_96 rfl (lv_at hl 4 rfl) ?_
          refine lv_iload_n hx hb dX12_calls_97 rfl (lv_at hl 3 rfl) ?_
          refine lv_iload_n hx hb dX12_calls_98 rfl (lv_at hl 5 rfl) ?_
          refine lv_aload_n hx hb dX12_calls_99 rfl (lv_at hl 4 rfl) ?_
          refine gt_f (C := RX12) (T := TX12) (N := 17) hx hb ha in_X12 hown hK hP 0 rfl rfl 0 (by decide) m_1649 rfl dX12_calls_100 ?_
          refine lv_iconst (v := 3) hx hb dX12_calls_103 (by decide) ?_
          obtain ⟨hi, hf⟩ := sf_ge hf
          refine ia_ld hx hb hK hP 1 rfl hi dX12_calls_104 ?_
          obtain ⟨r_9, a_10, hc10, hf⟩ := sf_c2e hf
          refine k_Mi (wr := []) (run_MV (As := [.int r_2, .int p0, .int (a_7 (3 : Int32).toNatClampNeg)]) (rest := []) ⟨hx, hb, hml, hown, ha⟩ (c_X12_makes l D dA h0 h1 h2 h3 h4 h5 h6 h7 _ a_7 mb mv mi mp mn x_8 mo mO mI mL mA mW mE mF mc mM r_2 p0 (a_7 (3 : Int32).toNatClampNeg) _ _ hc10) (gi_V m_1781 m_1783 m_45 m_85 m_1784) yd_X12_makes ⟨Nat.le_of_ble_eq_true rfl, Nat.le_of_ble_eq_true rfl⟩ ⟨rfl, rfl⟩ hK hP hD [0, 1, 2, 3, 4, 5, 6, 7] (by decide) rfl 0 10 rfl rfl rfl rfl hl.1 rfl (Nat.le_of_ble_eq_true rfl) dX12_calls_105 ⟨Nat.le_of_ble_eq_true rfl, Nat.le_of_ble_eq_true rfl⟩) hP hD hS hA [0, 1, 2, 3, 4, 5, 6, 7] [] rfl rfl (by decide) (by decide) (fun H locs hP hD hS => ?_)
          refine lv_istore (lv' := [(5, .int r_9), (4, .int (1 : Int32)), (3, .int (0 : Int32)), (2, .int r_2), (0, .ref h0), (1, .int p0)]) hx hb dX12_calls_108 hl (by decide) rfl (fun ls hl => ?_)
          cases hf
          exact rt_Mv hx hb hr hlocks (hP.sub [0, 1, 2, 3, 4, 5, 6, 7] rfl) (hD.sub [0, 1, 2, 3, 4, 5, 6, 7] (by decide) rfl) hS dX12_calls_110
    · have hf := sf_bn hf hc
      refine lv_iconst (v := 1) hx hb dX12_calls_32 (by decide) ?_
      refine lv_goto (tgt := 37) hx hb dX12_calls_33 (by decide) ?_
      refine lv_istore_n (lv' := [(3, .int (1 : Int32)), (2, .int r_2), (0, .ref h0), (1, .int p0)]) hx hb dX12_calls_37 rfl hl (by decide) rfl (fun ls hl => ?_)
      refine lv_iload_n hx hb dX12_calls_38 rfl (lv_at hl 0 rfl) ?_
      refine lv_if_ne (tgt := 72) hx hb dX12_calls_39 (by decide) (fun hc => ?_) (fun hc => absurd (by decide) hc)
      refine lv_iconst (v := 0) hx hb dX12_calls_72 (by decide) ?_
      refine lv_istore (lv' := [(4, .int (0 : Int32)), (3, .int (1 : Int32)), (2, .int r_2), (0, .ref h0), (1, .int p0)]) hx hb dX12_calls_73 hl (by decide) rfl (fun ls hl => ?_)
      refine lv_iload_n hx hb dX12_calls_75 rfl (lv_at hl 1 rfl) ?_
      refine lv_if_ne (tgt := 84) hx hb dX12_calls_76 (by decide) (fun hc => ?_) (fun hc => absurd (by decide) hc)
      refine lv_aload_n hx hb dX12_calls_84 rfl (lv_at hl 3 rfl) ?_
      refine lv_iload_n hx hb dX12_calls_85 rfl (lv_at hl 2 rfl) ?_
      obtain ⟨r_11, a_12, x_13, hc13, hf⟩ := sf_c3e hf
      refine k_Mi (wr := []) (run_MV (As := [.int r_2]) (rest := []) ⟨hx, hb, hml, hown, ha⟩ (c_X12_doLeave l D dA h0 h1 h2 h3 h4 h5 h6 h7 _ ms mb mv mi mp mn mt mo mO mI mL mA mW mE mF mc mM r_2 _ _ _ hc13) (gi_V m_1817 m_1819 m_51 m_85 m_1820) yd_X12_doLeave ⟨Nat.le_of_ble_eq_true rfl, Nat.le_of_ble_eq_true rfl⟩ ⟨rfl, rfl⟩ hK hP hD [0, 1, 2, 3, 4, 5, 6, 7] (by decide) rfl 0 10 rfl rfl rfl rfl hl.1 rfl (Nat.le_of_ble_eq_true rfl) dX12_calls_86 ⟨Nat.le_of_ble_eq_true rfl, Nat.le_of_ble_eq_true rfl⟩) hP hD hS hA [0, 1, 2, 3, 4, 5, 6, 7] [] rfl rfl (by decide) (by decide) (fun H locs hP hD hS => ?_)
      refine lv_istore (lv' := [(5, .int r_11), (4, .int (0 : Int32)), (3, .int (1 : Int32)), (2, .int r_2), (0, .ref h0), (1, .int p0)]) hx hb dX12_calls_89 hl (by decide) rfl (fun ls hl => ?_)
      refine lv_iload hx hb dX12_calls_91 (lv_at hl 1 rfl) ?_
      refine lv_if_eq (tgt := 110) hx hb dX12_calls_93 (by decide) (fun hc => ?_) (fun hc => absurd (by decide) hc)
      cases hf
      exact rt_Mv hx hb hr hlocks (hP.sub [0, 1, 2, 3, 4, 5, 6, 7] rfl) (hD.sub [0, 1, 2, 3, 4, 5, 6, 7] (by decide) rfl) hS dX12_calls_110
  · have hf := sf_bp hf hc
    cases hf
    exact rt_Mv hx hb hr hlocks (hP.sub [0, 1, 2, 3, 4, 5, 6, 7] rfl) (hD.sub [0, 1, 2, 3, 4, 5, 6, 7] (by decide) rfl) hS dX12_calls_9

def f_X12_during_L5 (ms : Nat → Int32) (p0 : Int32) (p1 : Int32) (k : Int32 → Option Int32) : Nat → Int32 → Int32 → Option Int32
  | 0, _, _ => none
  | n + 1, v_1, v_2 => sf_g (sf_in (2 : Int32) 158 = true) (sf_b ((ms (2 : Int32).toNatClampNeg) ≤ v_1) (k v_2) (sf_c1 (f_X12_booking ms v_1 (1 : Int32)) (fun r_3 => sf_b (r_3 = p0) (sf_c1 (f_X12_startOf ms v_1) (fun r_5 => sf_c1 (f_X12_endOf ms v_1) (fun r_6 => sf_c1 (f_X12_in p1 r_5 (r_6 - (1 : Int32))) (fun r_7 => sf_b (r_7 = (0 : Int32)) (sf_n (v_1 + (1 : Int32)) (fun x_8 => f_X12_during_L5 ms p0 p1 k n x_8 v_2)) (sf_n (v_1 + (1 : Int32)) (fun x_9 => f_X12_during_L5 ms p0 p1 k n x_9 v_1)))))) (sf_n (v_1 + (1 : Int32)) (fun x_4 => f_X12_during_L5 ms p0 p1 k n x_4 v_2)))))
def f_X12_during (ms : Nat → Int32) (p0 : Int32) (p1 : Int32) : Option Int32 :=
  f_X12_during_L5 ms p0 p1 (fun y_10 => some y_10) 2000 (0 : Int32) (-1 : Int32)
theorem yd_X12_during : yX12_during.cls = RX12 ∧ yX12_during.cls ≠ "java/lang/invoke/MethodHandle" ∧ yX12_during.cls ≠ "java/lang/invoke/VarHandle" ∧ (parseMethodDescriptor yX12_during.desc).map (fun d => d.parameters.length) = some 2 := ⟨rfl, by decide, by decide, by decide +kernel⟩
set_option maxRecDepth 100000 in
set_option maxHeartbeats 4000000 in
theorem c_X12_during (l : Launch) (D : va_G) (dA : Nat → ClassId) (h0 h1 h2 h3 h4 h5 h6 h7 : Nat) (ms : Nat → Int32) (mb : Nat → Int32) (mv : Nat → Int32) (mi : Int32) (mp : Nat → Int32) (mn : Int32) (mt : Int32) (mo : Nat → Int32) (mO : Int32) (mI : Nat → Int32) (mL : Int32) (mA : Int32) (mW : Int32) (mE : Int32) (mF : Int32) (mc : Nat → Int32) (mM : Int32) (p0 : Int32) (p1 : Int32) (rr : Int32) (hf : f_X12_during ms p0 p1 = some rr) : Met l yX12_during (wo (.code yX12_during cX12_during 5 (some .int))) ({ frames := 3, cells := 0, slots := 0, locals := 64 } : Room) (preP D dA [.ref h0, .int p0, .int p1] [(h0, .inr (10, [.ref h1, .ref h2, .ref h3, .int mi, .ref h4, .int mn, .int mt, .ref h5, .int mO, .ref h6, .int mL, .int mA, .int mW, .int mE, .int mF, .ref h7, .int mM])), (h1, .inl (dA 0, 158, .inl ms)), (h2, .inl (dA 0, 158, .inl mb)), (h3, .inl (dA 0, 158, .inl mv)), (h4, .inl (dA 0, 1264, .inl mp)), (h5, .inl (dA 1, 180, .inl mo)), (h6, .inl (dA 1, 60, .inl mI)), (h7, .inl (dA 0, 240, .inl mc))]) (poPi rr) 0 0 noA := by
  refine of_P (own := RX12) (by decide) rfl (Nat.le_of_ble_eq_true rfl) ?_
  intro p e s m below meth c hx hb hr ha hown hml hlocks hP hK hS ls hl
  have hl : lv_has ls 5 [(0, .ref h0), (1, .int p0), (2, .int p1)] := hl
  rw [f_X12_during] at hf
  refine lv_iconst (v := -1) hx hb dX12_during_0 (by decide) ?_
  refine lv_istore_n (lv' := [(3, .int (-1 : Int32)), (0, .ref h0), (1, .int p0), (2, .int p1)]) hx hb dX12_during_1 rfl hl (by decide) rfl (fun ls hl => ?_)
  refine lv_iconst (v := 0) hx hb dX12_during_2 (by decide) ?_
  refine lv_istore (lv' := [(4, .int (0 : Int32)), (3, .int (-1 : Int32)), (0, .ref h0), (1, .int p0), (2, .int p1)]) hx hb dX12_during_3 hl (by decide) rfl (fun ls hl => ?_)
  have hL5 : ∀ (n : Nat) (k : Int32 → Option Int32) (v_1 : Int32) (v_2 : Int32) (H : Heap) (locs : List Loc) (ls : Array Slot), va_P D cls [(h0, .inr (10, [.ref h1, .ref h2, .ref h3, .int mi, .ref h4, .int mn, .int mt, .ref h5, .int mO, .ref h6, .int mL, .int mA, .int mW, .int mE, .int mF, .ref h7, .int mM])), (h1, .inl (dA 0, 158, .inl ms)), (h2, .inl (dA 0, 158, .inl mb)), (h3, .inl (dA 0, 158, .inl mv)), (h4, .inl (dA 0, 1264, .inl mp)), (h5, .inl (dA 1, 180, .inl mo)), (h6, .inl (dA 1, 60, .inl mI)), (h7, .inl (dA 0, 240, .inl mc))] H → va_S noA s.heap H locs → lv_has ls 5 [(4, .int v_1), (3, .int v_2), (0, .ref h0), (1, .int p0), (2, .int p1)] → f_X12_during_L5 ms p0 p1 k n v_1 v_2 = some rr → (∀ (y_10 : Int32) (H : Heap) (locs : List Loc) (ls : Array Slot), va_P D cls [(h0, .inr (10, [.ref h1, .ref h2, .ref h3, .int mi, .ref h4, .int mn, .int mt, .ref h5, .int mO, .ref h6, .int mL, .int mA, .int mW, .int mE, .int mF, .ref h7, .int mM])), (h1, .inl (dA 0, 158, .inl ms)), (h2, .inl (dA 0, 158, .inl mb)), (h3, .inl (dA 0, 158, .inl mv)), (h4, .inl (dA 0, 1264, .inl mp)), (h5, .inl (dA 1, 180, .inl mo)), (h6, .inl (dA 1, 60, .inl mI)), (h7, .inl (dA 0, 240, .inl mc))] H → va_S noA s.heap H locs → lv_has ls 5 [(3, .int y_10)] → k y_10 = some rr → W p l e ({ frames := 3, cells := 0, slots := 0, locals := 64 } : Room) s m ([.ref h0, .int p0, .int p1] : List Value).toArray below meth c H locs 0 0 (MQ below (poPi rr) ([.ref h0, .int p0, .int p1] : List Value).toArray s 0 0 noA) (F0 m 61 ls [])) → W p l e ({ frames := 3, cells := 0, slots := 0, locals := 64 } : Room) s m ([.ref h0, .int p0, .int p1] : List Value).toArray below meth c H locs 0 0 (MQ below (poPi rr) ([.ref h0, .int p0, .int p1] : List Value).toArray s 0 0 noA) (F0 m 5 ls []) := by
    intro n k
    induction n with
    | zero =>
      intro v_1 v_2 H locs ls hP hS hl hf hk
      rw [f_X12_during_L5] at hf
      cases hf
    | succ n ih =>
      intro v_1 v_2 H locs ls hP hS hl hf hk
      rw [f_X12_during_L5] at hf
      refine lv_iload hx hb dX12_during_5 (lv_at hl 0 rfl) ?_
      refine lv_aload_n hx hb dX12_during_7 rfl (lv_at hl 2 rfl) ?_
      refine gt_f (C := RX12) (T := TX12) (N := 17) hx hb ha in_X12 hown hK hP 0 rfl rfl 0 (by decide) m_1649 rfl dX12_during_8 ?_
      refine lv_iconst (v := 2) hx hb dX12_during_11 (by decide) ?_
      obtain ⟨hi, hf⟩ := sf_ge hf
      refine ia_ld hx hb hK hP 1 rfl hi dX12_during_12 ?_
      refine lv_icmp_ge (tgt := 61) hx hb dX12_during_13 (by decide) (fun hc => ?_) (fun hc => ?_)
      · have hf := sf_bp hf hc
        exact hk _ _ _ _ hP hS (lv_sub hl [1] rfl) hf
      · have hf := sf_bn hf hc
        refine lv_aload_n hx hb dX12_during_16 rfl (lv_at hl 2 rfl) ?_
        refine lv_iload hx hb dX12_during_17 (lv_at hl 0 rfl) ?_
        refine lv_iconst (v := 1) hx hb dX12_during_19 (by decide) ?_
        obtain ⟨r_3, hc3, hf⟩ := sf_c1e hf
        refine k_Pi (run_PV (As := [.int v_1, .int (1 : Int32)]) (rest := []) ⟨hx, hb, hml, hown, ha⟩ (c_X12_booking l D dA h0 h1 h2 h3 h4 h5 h6 h7  ms mb mv mi mp mn mt mo mO mI mL mA mW mE mF mc mM v_1 (1 : Int32) _ hc3) (gi_V m_1769 m_1771 m_42 m_85 m_1772) yd_X12_booking ⟨Nat.le_of_ble_eq_true rfl, Nat.le_of_ble_eq_true rfl⟩ ⟨rfl, rfl⟩ hK hP [0, 1, 2, 3, 4, 5, 6, 7] rfl 0 10 rfl rfl rfl rfl hl.1 rfl (Nat.le_of_ble_eq_true rfl) dX12_during_20 ⟨Nat.le_of_ble_eq_true rfl, Nat.le_of_ble_eq_true rfl⟩) hP hS (fun H locs hP hS => ?_)
        refine lv_iload_n hx hb dX12_during_23 rfl (lv_at hl 3 rfl) ?_
        refine lv_icmp_ne (tgt := 53) hx hb dX12_during_24 (by decide) (fun hc => ?_) (fun hc => ?_)
        · have hf := sf_bn hf hc
          refine lv_iload_n hx hb dX12_during_53 rfl (lv_at hl 1 rfl) ?_
          refine lv_istore_n (lv' := [(3, .int v_2), (4, .int v_1), (0, .ref h0), (1, .int p0), (2, .int p1)]) hx hb dX12_during_54 rfl hl (by decide) rfl (fun ls hl => ?_)
          obtain ⟨x_4, ex_4, hf⟩ := sf_ne hf
          refine ii_nc (lv' := [(4, .int x_4), (3, .int v_2), (0, .ref h0), (1, .int p0), (2, .int p1)]) (k := 1) hx hb dX12_during_55 hl rfl ex_4 (by decide) (by decide) rfl (fun ls hl => ?_)
          refine lv_goto (tgt := 5) hx hb dX12_during_58 (by decide) ?_
          exact ih _ _ _ _ _ hP hS (lv_sub hl [0, 1, 2, 3, 4] rfl) hf hk
        · have hf := sf_bp hf hc
          refine lv_iload_n hx hb dX12_during_27 rfl (lv_at hl 4 rfl) ?_
          refine lv_aload_n hx hb dX12_during_28 rfl (lv_at hl 2 rfl) ?_
          refine lv_iload hx hb dX12_during_29 (lv_at hl 0 rfl) ?_
          obtain ⟨r_5, hc5, hf⟩ := sf_c1e hf
          refine k_Pi (run_PV (As := [.int v_1]) (rest := [.int p1]) ⟨hx, hb, hml, hown, ha⟩ (c_X12_startOf l D dA h0 h1 h2 h3 h4 h5 h6 h7  ms mb mv mi mp mn mt mo mO mI mL mA mW mE mF mc mM v_1 _ hc5) (gi_V m_1773 m_1775 m_43 m_85 m_1776) yd_X12_startOf ⟨Nat.le_of_ble_eq_true rfl, Nat.le_of_ble_eq_true rfl⟩ ⟨rfl, rfl⟩ hK hP [0, 1, 2, 3, 4, 5, 6, 7] rfl 0 10 rfl rfl rfl rfl hl.1 rfl (Nat.le_of_ble_eq_true rfl) dX12_during_31 ⟨Nat.le_of_ble_eq_true rfl, Nat.le_of_ble_eq_true rfl⟩) hP hS (fun H locs hP hS => ?_)
          refine lv_aload_n hx hb dX12_during_34 rfl (lv_at hl 2 rfl) ?_
          refine lv_iload hx hb dX12_during_35 (lv_at hl 0 rfl) ?_
          obtain ⟨r_6, hc6, hf⟩ := sf_c1e hf
          refine k_Pi (run_PV (As := [.int v_1]) (rest := [.int r_5, .int p1]) ⟨hx, hb, hml, hown, ha⟩ (c_X12_endOf l D dA h0 h1 h2 h3 h4 h5 h6 h7  ms mb mv mi mp mn mt mo mO mI mL mA mW mE mF mc mM v_1 _ hc6) (gi_V m_1777 m_1779 m_44 m_85 m_1780) yd_X12_endOf ⟨Nat.le_of_ble_eq_true rfl, Nat.le_of_ble_eq_true rfl⟩ ⟨rfl, rfl⟩ hK hP [0, 1, 2, 3, 4, 5, 6, 7] rfl 0 10 rfl rfl rfl rfl hl.1 rfl (Nat.le_of_ble_eq_true rfl) dX12_during_37 ⟨Nat.le_of_ble_eq_true rfl, Nat.le_of_ble_eq_true rfl⟩) hP hS (fun H locs hP hS => ?_)
          refine lv_iconst (v := 1) hx hb dX12_during_40 (by decide) ?_
          refine lv_isub hx hb dX12_during_41 ?_
          obtain ⟨r_7, hc7, hf⟩ := sf_c1e hf
          refine k_Pi (run_PS (As := [.int p1, .int r_5, .int (r_6 - (1 : Int32))]) (rest := []) ⟨hx, hb, hml, hown, ha⟩ (c_X12_in l D dA    p1 r_5 (r_6 - (1 : Int32)) _ hc7) (gi_S m_1718 m_1719 m_85 m_1720) yd_X12_in ⟨Nat.le_of_ble_eq_true rfl, Nat.le_of_ble_eq_true rfl⟩ ⟨rfl, rfl⟩ hK hP [] rfl rfl hl.1 rfl (Nat.le_of_ble_eq_true rfl) dX12_during_42 ⟨Nat.le_of_ble_eq_true rfl, Nat.le_of_ble_eq_true rfl⟩) hP hS (fun H locs hP hS => ?_)
          refine lv_if_eq (tgt := 53) hx hb dX12_during_45 (by decide) (fun hc => ?_) (fun hc => ?_)
          · have hf := sf_bp hf hc
            refine lv_iload_n hx hb dX12_during_53 rfl (lv_at hl 1 rfl) ?_
            refine lv_istore_n (lv' := [(3, .int v_2), (4, .int v_1), (0, .ref h0), (1, .int p0), (2, .int p1)]) hx hb dX12_during_54 rfl hl (by decide) rfl (fun ls hl => ?_)
            obtain ⟨x_8, ex_8, hf⟩ := sf_ne hf
            refine ii_nc (lv' := [(4, .int x_8), (3, .int v_2), (0, .ref h0), (1, .int p0), (2, .int p1)]) (k := 1) hx hb dX12_during_55 hl rfl ex_8 (by decide) (by decide) rfl (fun ls hl => ?_)
            refine lv_goto (tgt := 5) hx hb dX12_during_58 (by decide) ?_
            exact ih _ _ _ _ _ hP hS (lv_sub hl [0, 1, 2, 3, 4] rfl) hf hk
          · have hf := sf_bn hf hc
            refine lv_iload hx hb dX12_during_48 (lv_at hl 0 rfl) ?_
            refine lv_goto (tgt := 54) hx hb dX12_during_50 (by decide) ?_
            refine lv_istore_n (lv' := [(3, .int v_1), (4, .int v_1), (0, .ref h0), (1, .int p0), (2, .int p1)]) hx hb dX12_during_54 rfl hl (by decide) rfl (fun ls hl => ?_)
            obtain ⟨x_9, ex_9, hf⟩ := sf_ne hf
            refine ii_nc (lv' := [(4, .int x_9), (3, .int v_1), (0, .ref h0), (1, .int p0), (2, .int p1)]) (k := 1) hx hb dX12_during_55 hl rfl ex_9 (by decide) (by decide) rfl (fun ls hl => ?_)
            refine lv_goto (tgt := 5) hx hb dX12_during_58 (by decide) ?_
            exact ih _ _ _ _ _ hP hS (lv_sub hl [0, 1, 2, 3, 4] rfl) hf hk
  refine hL5 _ _ _ _ _ _ _ hP hS (lv_sub hl [0, 1, 2, 3, 4] rfl) hf (fun y_10 H locs ls hP hS hl hf => ?_)
  refine lv_iload_n hx hb dX12_during_61 rfl (lv_at hl 0 rfl) ?_
  exact rt_Pi hx hb hr hlocks (Option.some.inj hf) hS dX12_during_62

def f_X12_finishes (ms : Nat → Int32) (p0 : Int32) : Option (Nat → Int32) :=
  sf_c1 (f_X12_booking ms p0 (0 : Int32)) (fun r_1 => sf_c1 (f_X12_booking ms p0 (1 : Int32)) (fun r_2 => sf_c1 (f_X12_slide ms r_2 (2 : Int32)) (fun r_3 => sf_b (r_3 < (5 : Int32)) (sf_c1 (f_X12_wets ms r_2 (r_3 + (2 : Int32))) (fun a_4 => sf_n (va_cpy a_4 a_4 (110 : Int32).toNatClampNeg (113 : Int32).toNatClampNeg (45 : Int32).toNatClampNeg) (fun a_5 => sf_g (sf_in (110 : Int32) 158 = true) (sf_n (upd a_5 (110 : Int32).toNatClampNeg r_1) (fun a_6 => sf_g (sf_in (111 : Int32) 158 = true) (sf_n (upd a_6 (111 : Int32).toNatClampNeg r_2) (fun a_7 => sf_g (sf_in (3 : Int32) 158 = true) (sf_g (sf_in (112 : Int32) 158 = true) (sf_n (upd a_7 (112 : Int32).toNatClampNeg (a_7 (3 : Int32).toNatClampNeg)) (fun a_8 => sf_g (sf_in (4 : Int32) 158 = true) (sf_g (sf_in (4 : Int32) 158 = true) (sf_n (upd a_8 (4 : Int32).toNatClampNeg (if ((a_8 (4 : Int32).toNatClampNeg) + (1 : Int32)) < (16 : Int32) then ((a_8 (4 : Int32).toNatClampNeg) + (1 : Int32)) else (16 : Int32))) (fun a_9 => sf_g (sf_in (((44 : Int32) + ((3 : Int32) * r_1)) + (1 : Int32)) 158 = true) (sf_g (sf_in (((44 : Int32) + ((3 : Int32) * r_1)) + (1 : Int32)) 158 = true) (sf_n (upd a_9 (((44 : Int32) + ((3 : Int32) * r_1)) + (1 : Int32)).toNatClampNeg ((a_9 (((44 : Int32) + ((3 : Int32) * r_1)) + (1 : Int32)).toNatClampNeg) + (1 : Int32))) (fun a_10 => sf_c1 (f_X12_drops a_10 p0) (fun a_11 => some a_11))))))))))))))))) (sf_c1 (f_X12_slide ms r_2 (1 : Int32)) (fun r_12 => sf_n ((r_12 / (2 : Int32))) (fun x_13 => sf_c1 (f_X12_pays ms r_1 (-x_13)) (fun a_14 => sf_g (sf_in (6 : Int32) 158 = true) (sf_g (sf_in (6 : Int32) 158 = true) (sf_n (upd a_14 (6 : Int32).toNatClampNeg ((a_14 (6 : Int32).toNatClampNeg) + x_13)) (fun a_15 => sf_g (sf_in (5 : Int32) 158 = true) (sf_g (sf_in (5 : Int32) 158 = true) (sf_n (upd a_15 (5 : Int32).toNatClampNeg ((a_15 (5 : Int32).toNatClampNeg) + (1 : Int32))) (fun a_16 => sf_c1 (f_X12_wets a_16 r_2 (r_3 + (2 : Int32))) (fun a_17 => sf_n (va_cpy a_17 a_17 (110 : Int32).toNatClampNeg (113 : Int32).toNatClampNeg (45 : Int32).toNatClampNeg) (fun a_18 => sf_g (sf_in (110 : Int32) 158 = true) (sf_n (upd a_18 (110 : Int32).toNatClampNeg r_1) (fun a_19 => sf_g (sf_in (111 : Int32) 158 = true) (sf_n (upd a_19 (111 : Int32).toNatClampNeg r_2) (fun a_20 => sf_g (sf_in (3 : Int32) 158 = true) (sf_g (sf_in (112 : Int32) 158 = true) (sf_n (upd a_20 (112 : Int32).toNatClampNeg (a_20 (3 : Int32).toNatClampNeg)) (fun a_21 => sf_g (sf_in (4 : Int32) 158 = true) (sf_g (sf_in (4 : Int32) 158 = true) (sf_n (upd a_21 (4 : Int32).toNatClampNeg (if ((a_21 (4 : Int32).toNatClampNeg) + (1 : Int32)) < (16 : Int32) then ((a_21 (4 : Int32).toNatClampNeg) + (1 : Int32)) else (16 : Int32))) (fun a_22 => sf_g (sf_in (((44 : Int32) + ((3 : Int32) * r_1)) + (1 : Int32)) 158 = true) (sf_g (sf_in (((44 : Int32) + ((3 : Int32) * r_1)) + (1 : Int32)) 158 = true) (sf_n (upd a_22 (((44 : Int32) + ((3 : Int32) * r_1)) + (1 : Int32)).toNatClampNeg ((a_22 (((44 : Int32) + ((3 : Int32) * r_1)) + (1 : Int32)).toNatClampNeg) + (1 : Int32))) (fun a_23 => sf_c1 (f_X12_drops a_23 p0) (fun a_24 => some a_24)))))))))))))))))))))))))))))
theorem yd_X12_finishes : yX12_finishes.cls = RX12 ∧ yX12_finishes.cls ≠ "java/lang/invoke/MethodHandle" ∧ yX12_finishes.cls ≠ "java/lang/invoke/VarHandle" ∧ (parseMethodDescriptor yX12_finishes.desc).map (fun d => d.parameters.length) = some 1 := ⟨rfl, by decide, by decide, by decide +kernel⟩
set_option maxRecDepth 100000 in
set_option maxHeartbeats 4000000 in
theorem c_X12_finishes (l : Launch) (D : va_G) (dA : Nat → ClassId) (h0 h1 h2 h3 h4 h5 h6 h7 : Nat) (sz : Nat) (ms : Nat → Int32) (mb : Nat → Int32) (mv : Nat → Int32) (mi : Int32) (mp : Nat → Int32) (mn : Int32) (mt : Int32) (mo : Nat → Int32) (mO : Int32) (mI : Nat → Int32) (mL : Int32) (mA : Int32) (mW : Int32) (mE : Int32) (mF : Int32) (mc : Nat → Int32) (mM : Int32) (p0 : Int32) (q_ms : Nat → Int32) (hf : f_X12_finishes ms p0 = some q_ms) : Met l yX12_finishes (wo (.code yX12_finishes cX12_finishes 6 none)) ({ frames := 2, cells := 0, slots := 0, locals := 112 } : Room) (preM D dA [.ref h0, .int p0] sz [(h0, .inr (10, [.ref h1, .ref h2, .ref h3, .int mi, .ref h4, .int mn, .int mt, .ref h5, .int mO, .ref h6, .int mL, .int mA, .int mW, .int mE, .int mF, .ref h7, .int mM])), (h1, .inl (dA 0, 158, .inl ms)), (h2, .inl (dA 0, 158, .inl mb)), (h3, .inl (dA 0, 158, .inl mv)), (h4, .inl (dA 0, 1264, .inl mp)), (h5, .inl (dA 1, 180, .inl mo)), (h6, .inl (dA 1, 60, .inl mI)), (h7, .inl (dA 0, 240, .inl mc))]) (poMv D [(h0, .inr (10, [.ref h1, .ref h2, .ref h3, .int mi, .ref h4, .int mn, .int mt, .ref h5, .int mO, .ref h6, .int mL, .int mA, .int mW, .int mE, .int mF, .ref h7, .int mM])), (h1, .inl (dA 0, 158, .inl q_ms)), (h2, .inl (dA 0, 158, .inl mb)), (h3, .inl (dA 0, 158, .inl mv)), (h4, .inl (dA 0, 1264, .inl mp)), (h5, .inl (dA 1, 180, .inl mo)), (h6, .inl (dA 1, 60, .inl mI)), (h7, .inl (dA 0, 240, .inl mc))] (va_A [(h0, .inr (10, [.ref h1, .ref h2, .ref h3, .int mi, .ref h4, .int mn, .int mt, .ref h5, .int mO, .ref h6, .int mL, .int mA, .int mW, .int mE, .int mF, .ref h7, .int mM])), (h1, .inl (dA 0, 158, .inl ms)), (h2, .inl (dA 0, 158, .inl mb)), (h3, .inl (dA 0, 158, .inl mv)), (h4, .inl (dA 0, 1264, .inl mp)), (h5, .inl (dA 1, 180, .inl mo)), (h6, .inl (dA 1, 60, .inl mI)), (h7, .inl (dA 0, 240, .inl mc))] sz)) 0 0 (va_A [(h0, .inr (10, [.ref h1, .ref h2, .ref h3, .int mi, .ref h4, .int mn, .int mt, .ref h5, .int mO, .ref h6, .int mL, .int mA, .int mW, .int mE, .int mF, .ref h7, .int mM])), (h1, .inl (dA 0, 158, .inl ms)), (h2, .inl (dA 0, 158, .inl mb)), (h3, .inl (dA 0, 158, .inl mv)), (h4, .inl (dA 0, 1264, .inl mp)), (h5, .inl (dA 1, 180, .inl mo)), (h6, .inl (dA 1, 60, .inl mI)), (h7, .inl (dA 0, 240, .inl mc))] sz) := by
  refine of_M (y := yX12_finishes) (av := [.ref h0, .int p0]) (ws := [(h0, .inr (10, [.ref h1, .ref h2, .ref h3, .int mi, .ref h4, .int mn, .int mt, .ref h5, .int mO, .ref h6, .int mL, .int mA, .int mW, .int mE, .int mF, .ref h7, .int mM])), (h1, .inl (dA 0, 158, .inl ms)), (h2, .inl (dA 0, 158, .inl mb)), (h3, .inl (dA 0, 158, .inl mv)), (h4, .inl (dA 0, 1264, .inl mp)), (h5, .inl (dA 1, 180, .inl mo)), (h6, .inl (dA 1, 60, .inl mI)), (h7, .inl (dA 0, 240, .inl mc))]) (sz := sz) (own := RX12) (Qc := poMv D [(h0, .inr (10, [.ref h1, .ref h2, .ref h3, .int mi, .ref h4, .int mn, .int mt, .ref h5, .int mO, .ref h6, .int mL, .int mA, .int mW, .int mE, .int mF, .ref h7, .int mM])), (h1, .inl (dA 0, 158, .inl q_ms)), (h2, .inl (dA 0, 158, .inl mb)), (h3, .inl (dA 0, 158, .inl mv)), (h4, .inl (dA 0, 1264, .inl mp)), (h5, .inl (dA 1, 180, .inl mo)), (h6, .inl (dA 1, 60, .inl mI)), (h7, .inl (dA 0, 240, .inl mc))]) (by decide) rfl (Nat.le_of_ble_eq_true rfl) ?_
  intro p e s m below meth c A hx hb hr ha hown hml hlocks hin hP hK hD hS hA ls hl
  have hl : lv_has ls 6 [(0, .ref h0), (1, .int p0)] := hl
  rw [f_X12_finishes] at hf
  refine lv_aload_n hx hb dX12_finishes_0 rfl (lv_at hl 0 rfl) ?_
  refine lv_iload_n hx hb dX12_finishes_1 rfl (lv_at hl 1 rfl) ?_
  refine lv_iconst (v := 0) hx hb dX12_finishes_2 (by decide) ?_
  obtain ⟨r_1, hc1, hf⟩ := sf_c1e hf
  refine k_Pi (run_PV (As := [.int p0, .int (0 : Int32)]) (rest := []) ⟨hx, hb, hml, hown, ha⟩ (c_X12_booking l D dA h0 h1 h2 h3 h4 h5 h6 h7  ms mb mv mi mp mn mt mo mO mI mL mA mW mE mF mc mM p0 (0 : Int32) _ hc1) (gi_V m_1769 m_1771 m_42 m_85 m_1772) yd_X12_booking ⟨Nat.le_of_ble_eq_true rfl, Nat.le_of_ble_eq_true rfl⟩ ⟨rfl, rfl⟩ hK hP [0, 1, 2, 3, 4, 5, 6, 7] rfl 0 10 rfl rfl rfl rfl hl.1 rfl (Nat.le_of_ble_eq_true rfl) dX12_finishes_3 ⟨Nat.le_of_ble_eq_true rfl, Nat.le_of_ble_eq_true rfl⟩) hP hS (fun H locs hP hS => ?_)
  refine lv_istore_n (lv' := [(2, .int r_1), (0, .ref h0), (1, .int p0)]) hx hb dX12_finishes_6 rfl hl (by decide) rfl (fun ls hl => ?_)
  refine lv_aload_n hx hb dX12_finishes_7 rfl (lv_at hl 1 rfl) ?_
  refine lv_iload_n hx hb dX12_finishes_8 rfl (lv_at hl 2 rfl) ?_
  refine lv_iconst (v := 1) hx hb dX12_finishes_9 (by decide) ?_
  obtain ⟨r_2, hc2, hf⟩ := sf_c1e hf
  refine k_Pi (run_PV (As := [.int p0, .int (1 : Int32)]) (rest := []) ⟨hx, hb, hml, hown, ha⟩ (c_X12_booking l D dA h0 h1 h2 h3 h4 h5 h6 h7  ms mb mv mi mp mn mt mo mO mI mL mA mW mE mF mc mM p0 (1 : Int32) _ hc2) (gi_V m_1769 m_1771 m_42 m_85 m_1772) yd_X12_booking ⟨Nat.le_of_ble_eq_true rfl, Nat.le_of_ble_eq_true rfl⟩ ⟨rfl, rfl⟩ hK hP [0, 1, 2, 3, 4, 5, 6, 7] rfl 0 10 rfl rfl rfl rfl hl.1 rfl (Nat.le_of_ble_eq_true rfl) dX12_finishes_10 ⟨Nat.le_of_ble_eq_true rfl, Nat.le_of_ble_eq_true rfl⟩) hP hS (fun H locs hP hS => ?_)
  refine lv_istore_n (lv' := [(3, .int r_2), (2, .int r_1), (0, .ref h0), (1, .int p0)]) hx hb dX12_finishes_13 rfl hl (by decide) rfl (fun ls hl => ?_)
  refine lv_aload_n hx hb dX12_finishes_14 rfl (lv_at hl 2 rfl) ?_
  refine lv_iload_n hx hb dX12_finishes_15 rfl (lv_at hl 0 rfl) ?_
  refine lv_iconst (v := 2) hx hb dX12_finishes_16 (by decide) ?_
  obtain ⟨r_3, hc3, hf⟩ := sf_c1e hf
  refine k_Pi (run_PV (As := [.int r_2, .int (2 : Int32)]) (rest := []) ⟨hx, hb, hml, hown, ha⟩ (c_X12_slide l D dA h0 h1 h2 h3 h4 h5 h6 h7  ms mb mv mi mp mn mt mo mO mI mL mA mW mE mF mc mM r_2 (2 : Int32) _ hc3) (gi_V m_1761 m_1763 m_40 m_85 m_1764) yd_X12_slide ⟨Nat.le_of_ble_eq_true rfl, Nat.le_of_ble_eq_true rfl⟩ ⟨rfl, rfl⟩ hK hP [0, 1, 2, 3, 4, 5, 6, 7] rfl 0 10 rfl rfl rfl rfl hl.1 rfl (Nat.le_of_ble_eq_true rfl) dX12_finishes_17 ⟨Nat.le_of_ble_eq_true rfl, Nat.le_of_ble_eq_true rfl⟩) hP hS (fun H locs hP hS => ?_)
  refine lv_istore (lv' := [(4, .int r_3), (3, .int r_2), (2, .int r_1), (0, .ref h0), (1, .int p0)]) hx hb dX12_finishes_20 hl (by decide) rfl (fun ls hl => ?_)
  refine lv_iload hx hb dX12_finishes_22 (lv_at hl 0 rfl) ?_
  refine lv_iconst (v := 5) hx hb dX12_finishes_24 (by decide) ?_
  refine lv_icmp_lt (tgt := 68) hx hb dX12_finishes_25 (by decide) (fun hc => ?_) (fun hc => ?_)
  · have hf := sf_bp hf hc
    refine lv_aload_n hx hb dX12_finishes_68 rfl (lv_at hl 3 rfl) ?_
    refine lv_iload_n hx hb dX12_finishes_69 rfl (lv_at hl 1 rfl) ?_
    refine lv_iload hx hb dX12_finishes_70 (lv_at hl 0 rfl) ?_
    refine lv_iconst (v := 2) hx hb dX12_finishes_72 (by decide) ?_
    refine lv_iadd hx hb dX12_finishes_73 ?_
    obtain ⟨a_4, hc4, hf⟩ := sf_c1e hf
    refine k_Mv (wr := []) (run_MV (As := [.int r_2, .int (r_3 + (2 : Int32))]) (rest := []) ⟨hx, hb, hml, hown, ha⟩ (c_X12_wets l D dA h0 h1 h2 h3 h4 h5 h6 h7 _ ms mb mv mi mp mn mt mo mO mI mL mA mW mE mF mc mM r_2 (r_3 + (2 : Int32)) _ hc4) (gi_V m_1845 m_1847 m_57 m_85 m_1848) yd_X12_wets ⟨Nat.le_of_ble_eq_true rfl, Nat.le_of_ble_eq_true rfl⟩ ⟨rfl, rfl⟩ hK hP hD [0, 1, 2, 3, 4, 5, 6, 7] (by decide) rfl 0 10 rfl rfl rfl rfl hl.1 rfl (Nat.le_of_ble_eq_true rfl) dX12_finishes_74 ⟨Nat.le_of_ble_eq_true rfl, Nat.le_of_ble_eq_true rfl⟩) hP hD hS hA [0, 1, 2, 3, 4, 5, 6, 7] [] rfl rfl (by decide) (by decide) (fun H locs hP hD hS => ?_)
    refine lv_aload_n hx hb dX12_finishes_77 rfl (lv_at hl 3 rfl) ?_
    refine gt_f (C := RX12) (T := TX12) (N := 17) hx hb ha in_X12 hown hK hP 0 rfl rfl 0 (by decide) m_1649 rfl dX12_finishes_78 ?_
    refine lv_bipush (v := 110) hx hb dX12_finishes_81 (by decide) ?_
    refine lv_aload_n hx hb dX12_finishes_83 rfl (lv_at hl 3 rfl) ?_
    refine gt_f (C := RX12) (T := TX12) (N := 17) hx hb ha in_X12 hown hK hP 0 rfl rfl 0 (by decide) m_1649 rfl dX12_finishes_84 ?_
    refine lv_bipush (v := 113) hx hb dX12_finishes_87 (by decide) ?_
    refine lv_bipush (v := 45) hx hb dX12_finishes_89 (by decide) ?_
    obtain ⟨a_5, ea_5, hf⟩ := sf_ne hf
    refine cp_i (ws' := [(h0, .inr (10, [.ref h1, .ref h2, .ref h3, .int mi, .ref h4, .int mn, .int mt, .ref h5, .int mO, .ref h6, .int mL, .int mA, .int mW, .int mE, .int mF, .ref h7, .int mM])), (h1, .inl (dA 0, 158, .inl a_5)), (h2, .inl (dA 0, 158, .inl mb)), (h3, .inl (dA 0, 158, .inl mv)), (h4, .inl (dA 0, 1264, .inl mp)), (h5, .inl (dA 1, 180, .inl mo)), (h6, .inl (dA 1, 60, .inl mI)), (h7, .inl (dA 0, 240, .inl mc))]) hx hb ha hown hml hl.1 m_1713 m_542 m_541 m_86 hK hP hD hS 1 1 rfl rfl (by decide) ea_5 rfl ⟨Nat.le_of_ble_eq_true rfl, Nat.le_of_ble_eq_true rfl⟩ dX12_finishes_91 (fun H locs hP hD hS => ?_)
    refine lv_aload_n hx hb dX12_finishes_94 rfl (lv_at hl 3 rfl) ?_
    refine gt_f (C := RX12) (T := TX12) (N := 17) hx hb ha in_X12 hown hK hP 0 rfl rfl 0 (by decide) m_1649 rfl dX12_finishes_95 ?_
    refine lv_bipush (v := 110) hx hb dX12_finishes_98 (by decide) ?_
    refine lv_iload_n hx hb dX12_finishes_100 rfl (lv_at hl 2 rfl) ?_
    obtain ⟨hi, hf⟩ := sf_ge hf
    obtain ⟨a_6, ea_6, hf⟩ := sf_ne hf
    refine ia_st (ws' := [(h0, .inr (10, [.ref h1, .ref h2, .ref h3, .int mi, .ref h4, .int mn, .int mt, .ref h5, .int mO, .ref h6, .int mL, .int mA, .int mW, .int mE, .int mF, .ref h7, .int mM])), (h1, .inl (dA 0, 158, .inl a_6)), (h2, .inl (dA 0, 158, .inl mb)), (h3, .inl (dA 0, 158, .inl mv)), (h4, .inl (dA 0, 1264, .inl mp)), (h5, .inl (dA 1, 180, .inl mo)), (h6, .inl (dA 1, 60, .inl mI)), (h7, .inl (dA 0, 240, .inl mc))]) hx hb hK hP hD hS 1 rfl hi ea_6 rfl dX12_finishes_101 (fun H locs hP hD hS => ?_)
    refine lv_aload_n hx hb dX12_finishes_102 rfl (lv_at hl 3 rfl) ?_
    refine gt_f (C := RX12) (T := TX12) (N := 17) hx hb ha in_X12 hown hK hP 0 rfl rfl 0 (by decide) m_1649 rfl dX12_finishes_103 ?_
    refine lv_bipush (v := 111) hx hb dX12_finishes_106 (by decide) ?_
    refine lv_iload_n hx hb dX12_finishes_108 rfl (lv_at hl 1 rfl) ?_
    obtain ⟨hi, hf⟩ := sf_ge hf
    obtain ⟨a_7, ea_7, hf⟩ := sf_ne hf
    refine ia_st (ws' := [(h0, .inr (10, [.ref h1, .ref h2, .ref h3, .int mi, .ref h4, .int mn, .int mt, .ref h5, .int mO, .ref h6, .int mL, .int mA, .int mW, .int mE, .int mF, .ref h7, .int mM])), (h1, .inl (dA 0, 158, .inl a_7)), (h2, .inl (dA 0, 158, .inl mb)), (h3, .inl (dA 0, 158, .inl mv)), (h4, .inl (dA 0, 1264, .inl mp)), (h5, .inl (dA 1, 180, .inl mo)), (h6, .inl (dA 1, 60, .inl mI)), (h7, .inl (dA 0, 240, .inl mc))]) hx hb hK hP hD hS 1 rfl hi ea_7 rfl dX12_finishes_109 (fun H locs hP hD hS => ?_)
    refine lv_aload_n hx hb dX12_finishes_110 rfl (lv_at hl 3 rfl) ?_
    refine gt_f (C := RX12) (T := TX12) (N := 17) hx hb ha in_X12 hown hK hP 0 rfl rfl 0 (by decide) m_1649 rfl dX12_finishes_111 ?_
    refine lv_bipush (v := 112) hx hb dX12_finishes_114 (by decide) ?_
    refine lv_aload_n hx hb dX12_finishes_116 rfl (lv_at hl 3 rfl) ?_
    refine gt_f (C := RX12) (T := TX12) (N := 17) hx hb ha in_X12 hown hK hP 0 rfl rfl 0 (by decide) m_1649 rfl dX12_finishes_117 ?_
    refine lv_iconst (v := 3) hx hb dX12_finishes_120 (by decide) ?_
    obtain ⟨hi, hf⟩ := sf_ge hf
    refine ia_ld hx hb hK hP 1 rfl hi dX12_finishes_121 ?_
    obtain ⟨hi, hf⟩ := sf_ge hf
    obtain ⟨a_8, ea_8, hf⟩ := sf_ne hf
    refine ia_st (ws' := [(h0, .inr (10, [.ref h1, .ref h2, .ref h3, .int mi, .ref h4, .int mn, .int mt, .ref h5, .int mO, .ref h6, .int mL, .int mA, .int mW, .int mE, .int mF, .ref h7, .int mM])), (h1, .inl (dA 0, 158, .inl a_8)), (h2, .inl (dA 0, 158, .inl mb)), (h3, .inl (dA 0, 158, .inl mv)), (h4, .inl (dA 0, 1264, .inl mp)), (h5, .inl (dA 1, 180, .inl mo)), (h6, .inl (dA 1, 60, .inl mI)), (h7, .inl (dA 0, 240, .inl mc))]) hx hb hK hP hD hS 1 rfl hi ea_8 rfl dX12_finishes_122 (fun H locs hP hD hS => ?_)
    refine lv_aload_n hx hb dX12_finishes_123 rfl (lv_at hl 3 rfl) ?_
    refine gt_f (C := RX12) (T := TX12) (N := 17) hx hb ha in_X12 hown hK hP 0 rfl rfl 0 (by decide) m_1649 rfl dX12_finishes_124 ?_
    refine lv_iconst (v := 4) hx hb dX12_finishes_127 (by decide) ?_
    refine lv_bipush (v := 16) hx hb dX12_finishes_128 (by decide) ?_
    refine lv_aload_n hx hb dX12_finishes_130 rfl (lv_at hl 3 rfl) ?_
    refine gt_f (C := RX12) (T := TX12) (N := 17) hx hb ha in_X12 hown hK hP 0 rfl rfl 0 (by decide) m_1649 rfl dX12_finishes_131 ?_
    refine lv_iconst (v := 4) hx hb dX12_finishes_134 (by decide) ?_
    obtain ⟨hi, hf⟩ := sf_ge hf
    refine ia_ld hx hb hK hP 1 rfl hi dX12_finishes_135 ?_
    refine lv_iconst (v := 1) hx hb dX12_finishes_136 (by decide) ?_
    refine lv_iadd hx hb dX12_finishes_137 ?_
    refine mn_i hx hb ha hown hml hl.1 m_1849 m_472 m_95 m_473 ⟨Nat.le_of_ble_eq_true rfl, Nat.le_of_ble_eq_true rfl⟩ ⟨Nat.le_of_ble_eq_true rfl, Nat.le_of_ble_eq_true rfl⟩ dX12_finishes_138 ?_
    obtain ⟨hi, hf⟩ := sf_ge hf
    obtain ⟨a_9, ea_9, hf⟩ := sf_ne hf
    refine ia_st (ws' := [(h0, .inr (10, [.ref h1, .ref h2, .ref h3, .int mi, .ref h4, .int mn, .int mt, .ref h5, .int mO, .ref h6, .int mL, .int mA, .int mW, .int mE, .int mF, .ref h7, .int mM])), (h1, .inl (dA 0, 158, .inl a_9)), (h2, .inl (dA 0, 158, .inl mb)), (h3, .inl (dA 0, 158, .inl mv)), (h4, .inl (dA 0, 1264, .inl mp)), (h5, .inl (dA 1, 180, .inl mo)), (h6, .inl (dA 1, 60, .inl mI)), (h7, .inl (dA 0, 240, .inl mc))]) hx hb hK hP hD hS 1 rfl hi ea_9 rfl dX12_finishes_141 (fun H locs hP hD hS => ?_)
    refine lv_aload_n hx hb dX12_finishes_142 rfl (lv_at hl 3 rfl) ?_
    refine gt_f (C := RX12) (T := TX12) (N := 17) hx hb ha in_X12 hown hK hP 0 rfl rfl 0 (by decide) m_1649 rfl dX12_finishes_143 ?_
    refine lv_bipush (v := 44) hx hb dX12_finishes_146 (by decide) ?_
    refine lv_iconst (v := 3) hx hb dX12_finishes_148 (by decide) ?_
    refine lv_iload_n hx hb dX12_finishes_149 rfl (lv_at hl 2 rfl) ?_
    refine lv_imul hx hb dX12_finishes_150 ?_
    refine lv_iadd hx hb dX12_finishes_151 ?_
    refine lv_iconst (v := 1) hx hb dX12_finishes_152 (by decide) ?_
    refine lv_iadd hx hb dX12_finishes_153 ?_
    refine lv_dup2_11 hx hb dX12_finishes_154 rfl rfl ?_
    obtain ⟨hi, hf⟩ := sf_ge hf
    refine ia_ld hx hb hK hP 1 rfl hi dX12_finishes_155 ?_
    refine lv_iconst (v := 1) hx hb dX12_finishes_156 (by decide) ?_
    refine lv_iadd hx hb dX12_finishes_157 ?_
    obtain ⟨hi, hf⟩ := sf_ge hf
    obtain ⟨a_10, ea_10, hf⟩ := sf_ne hf
    refine ia_st (ws' := [(h0, .inr (10, [.ref h1, .ref h2, .ref h3, .int mi, .ref h4, .int mn, .int mt, .ref h5, .int mO, .ref h6, .int mL, .int mA, .int mW, .int mE, .int mF, .ref h7, .int mM])), (h1, .inl (dA 0, 158, .inl a_10)), (h2, .inl (dA 0, 158, .inl mb)), (h3, .inl (dA 0, 158, .inl mv)), (h4, .inl (dA 0, 1264, .inl mp)), (h5, .inl (dA 1, 180, .inl mo)), (h6, .inl (dA 1, 60, .inl mI)), (h7, .inl (dA 0, 240, .inl mc))]) hx hb hK hP hD hS 1 rfl hi ea_10 rfl dX12_finishes_158 (fun H locs hP hD hS => ?_)
    refine lv_aload_n hx hb dX12_finishes_159 rfl (lv_at hl 3 rfl) ?_
    refine lv_iload_n hx hb dX12_finishes_160 rfl (lv_at hl 4 rfl) ?_
    obtain ⟨a_11, hc11, hf⟩ := sf_c1e hf
    refine k_Mv (wr := []) (run_MV (As := [.int p0]) (rest := []) ⟨hx, hb, hml, hown, ha⟩ (c_X12_drops l D dA h0 h1 h2 h3 h4 h5 h6 h7 _ a_10 mb mv mi mp mn mt mo mO mI mL mA mW mE mF mc mM p0 _ hc11) (gi_V m_1801 m_1803 m_49 m_85 m_1804) yd_X12_drops ⟨Nat.le_of_ble_eq_true rfl, Nat.le_of_ble_eq_true rfl⟩ ⟨rfl, rfl⟩ hK hP hD [0, 1, 2, 3, 4, 5, 6, 7] (by decide) rfl 0 10 rfl rfl rfl rfl hl.1 rfl (Nat.le_of_ble_eq_true rfl) dX12_finishes_161 ⟨Nat.le_of_ble_eq_true rfl, Nat.le_of_ble_eq_true rfl⟩) hP hD hS hA [0, 1, 2, 3, 4, 5, 6, 7] [] rfl rfl (by decide) (by decide) (fun H locs hP hD hS => ?_)
    cases hf
    exact rt_Mv hx hb hr hlocks (hP.sub [0, 1, 2, 3, 4, 5, 6, 7] rfl) (hD.sub [0, 1, 2, 3, 4, 5, 6, 7] (by decide) rfl) hS dX12_finishes_164
  · have hf := sf_bn hf hc
    refine lv_aload_n hx hb dX12_finishes_28 rfl (lv_at hl 3 rfl) ?_
    refine lv_iload_n hx hb dX12_finishes_29 rfl (lv_at hl 1 rfl) ?_
    refine lv_iconst (v := 1) hx hb dX12_finishes_30 (by decide) ?_
    obtain ⟨r_12, hc12, hf⟩ := sf_c1e hf
    refine k_Pi (run_PV (As := [.int r_2, .int (1 : Int32)]) (rest := []) ⟨hx, hb, hml, hown, ha⟩ (c_X12_slide l D dA h0 h1 h2 h3 h4 h5 h6 h7  ms mb mv mi mp mn mt mo mO mI mL mA mW mE mF mc mM r_2 (1 : Int32) _ hc12) (gi_V m_1761 m_1763 m_40 m_85 m_1764) yd_X12_slide ⟨Nat.le_of_ble_eq_true rfl, Nat.le_of_ble_eq_true rfl⟩ ⟨rfl, rfl⟩ hK hP [0, 1, 2, 3, 4, 5, 6, 7] rfl 0 10 rfl rfl rfl rfl hl.1 rfl (Nat.le_of_ble_eq_true rfl) dX12_finishes_31 ⟨Nat.le_of_ble_eq_true rfl, Nat.le_of_ble_eq_true rfl⟩) hP hS (fun H locs hP hS => ?_)
    refine lv_iconst (v := 2) hx hb dX12_finishes_34 (by decide) ?_
    refine lv_idiv hx hb dX12_finishes_35 (by decide) ?_
    obtain ⟨x_13, ex_13, hf⟩ := sf_ne hf
    refine tp_i ex_13 ?_
    refine lv_istore (lv' := [(5, .int x_13), (4, .int r_3), (3, .int r_2), (2, .int r_1), (0, .ref h0), (1, .int p0)]) hx hb dX12_finishes_36 hl (by decide) rfl (fun ls hl => ?_)
    refine lv_aload_n hx hb dX12_finishes_38 rfl (lv_at hl 4 rfl) ?_
    refine lv_iload_n hx hb dX12_finishes_39 rfl (lv_at hl 3 rfl) ?_
    refine lv_iload hx hb dX12_finishes_40 (lv_at hl 0 rfl) ?_
    refine lv_ineg hx hb dX12_finishes_42 ?_
    obtain ⟨a_14, hc14, hf⟩ := sf_c1e hf
    refine k_Mv (wr := []) (run_MV (As := [.int r_1, .int (-x_13)]) (rest := []) ⟨hx, hb, hml, hown, ha⟩ (c_X12_pays l D dA h0 h1 h2 h3 h4 h5 h6 h7 _ ms mb mv mi mp mn mt mo mO mI mL mA mW mE mF mc mM r_1 (-x_13) _ hc14) (gi_V m_1785 m_1787 m_46 m_85 m_1788) yd_X12_pays ⟨Nat.le_of_ble_eq_true rfl, Nat.le_of_ble_eq_true rfl⟩ ⟨rfl, rfl⟩ hK hP hD [0, 1, 2, 3, 4, 5, 6, 7] (by decide) rfl 0 10 rfl rfl rfl rfl hl.1 rfl (Nat.le_of_ble_eq_true rfl) dX12_finishes_43 ⟨Nat.le_of_ble_eq_true rfl, Nat.le_of_ble_eq_true rfl⟩) hP hD hS hA [0, 1, 2, 3, 4, 5, 6, 7] [] rfl rfl (by decide) (by decide) (fun H locs hP hD hS => ?_)
    refine lv_aload_n hx hb dX12_finishes_46 rfl (lv_at hl 4 rfl) ?_
    refine gt_f (C := RX12) (T := TX12) (N := 17) hx hb ha in_X12 hown hK hP 0 rfl rfl 0 (by decide) m_1649 rfl dX12_finishes_47 ?_
    refine lv_bipush (v := 6) hx hb dX12_finishes_50 (by decide) ?_
    refine lv_dup2_11 hx hb dX12_finishes_52 rfl rfl ?_
    obtain ⟨hi, hf⟩ := sf_ge hf
    refine ia_ld hx hb hK hP 1 rfl hi dX12_finishes_53 ?_
    refine lv_iload hx hb dX12_finishes_54 (lv_at hl 0 rfl) ?_
    refine lv_iadd hx hb dX12_finishes_56 ?_
    obtain ⟨hi, hf⟩ := sf_ge hf
    obtain ⟨a_15, ea_15, hf⟩ := sf_ne hf
    refine ia_st (ws' := [(h0, .inr (10, [.ref h1, .ref h2, .ref h3, .int mi, .ref h4, .int mn, .int mt, .ref h5, .int mO, .ref h6, .int mL, .int mA, .int mW, .int mE, .int mF, .ref h7, .int mM])), (h1, .inl (dA 0, 158, .inl a_15)), (h2, .inl (dA 0, 158, .inl mb)), (h3, .inl (dA 0, 158, .inl mv)), (h4, .inl (dA 0, 1264, .inl mp)), (h5, .inl (dA 1, 180, .inl mo)), (h6, .inl (dA 1, 60, .inl mI)), (h7, .inl (dA 0, 240, .inl mc))]) hx hb hK hP hD hS 1 rfl hi ea_15 rfl dX12_finishes_57 (fun H locs hP hD hS => ?_)
    refine lv_aload_n hx hb dX12_finishes_58 rfl (lv_at hl 4 rfl) ?_
    refine gt_f (C := RX12) (T := TX12) (N := 17) hx hb ha in_X12 hown hK hP 0 rfl rfl 0 (by decide) m_1649 rfl dX12_finishes_59 ?_
    refine lv_iconst (v := 5) hx hb dX12_finishes_62 (by decide) ?_
    refine lv_dup2_11 hx hb dX12_finishes_63 rfl rfl ?_
    obtain ⟨hi, hf⟩ := sf_ge hf
    refine ia_ld hx hb hK hP 1 rfl hi dX12_finishes_64 ?_
    refine lv_iconst (v := 1) hx hb dX12_finishes_65 (by decide) ?_
    refine lv_iadd hx hb dX12_finishes_66 ?_
    obtain ⟨hi, hf⟩ := sf_ge hf
    obtain ⟨a_16, ea_16, hf⟩ := sf_ne hf
    refine ia_st (ws' := [(h0, .inr (10, [.ref h1, .ref h2, .ref h3, .int mi, .ref h4, .int mn, .int mt, .ref h5, .int mO, .ref h6, .int mL, .int mA, .int mW, .int mE, .int mF, .ref h7, .int mM])), (h1, .inl (dA 0, 158, .inl a_16)), (h2, .inl (dA 0, 158, .inl mb)), (h3, .inl (dA 0, 158, .inl mv)), (h4, .inl (dA 0, 1264, .inl mp)), (h5, .inl (dA 1, 180, .inl mo)), (h6, .inl (dA 1, 60, .inl mI)), (h7, .inl (dA 0, 240, .inl mc))]) hx hb hK hP hD hS 1 rfl hi ea_16 rfl dX12_finishes_67 (fun H locs hP hD hS => ?_)
    refine lv_aload_n hx hb dX12_finishes_68 rfl (lv_at hl 4 rfl) ?_
    refine lv_iload_n hx hb dX12_finishes_69 rfl (lv_at hl 2 rfl) ?_
    refine lv_iload hx hb dX12_finishes_70 (lv_at hl 1 rfl) ?_
    refine lv_iconst (v := 2) hx hb dX12_finishes_72 (by decide) ?_
    refine lv_iadd hx hb dX12_finishes_73 ?_
    obtain ⟨a_17, hc17, hf⟩ := sf_c1e hf
    refine k_Mv (wr := []) (run_MV (As := [.int r_2, .int (r_3 + (2 : Int32))]) (rest := []) ⟨hx, hb, hml, hown, ha⟩ (c_X12_wets l D dA h0 h1 h2 h3 h4 h5 h6 h7 _ a_16 mb mv mi mp mn mt mo mO mI mL mA mW mE mF mc mM r_2 (r_3 + (2 : Int32)) _ hc17) (gi_V m_1845 m_1847 m_57 m_85 m_1848) yd_X12_wets ⟨Nat.le_of_ble_eq_true rfl, Nat.le_of_ble_eq_true rfl⟩ ⟨rfl, rfl⟩ hK hP hD [0, 1, 2, 3, 4, 5, 6, 7] (by decide) rfl 0 10 rfl rfl rfl rfl hl.1 rfl (Nat.le_of_ble_eq_true rfl) dX12_finishes_74 ⟨Nat.le_of_ble_eq_true rfl, Nat.le_of_ble_eq_true rfl⟩) hP hD hS hA [0, 1, 2, 3, 4, 5, 6, 7] [] rfl rfl (by decide) (by decide) (fun H locs hP hD hS => ?_)
    refine lv_aload_n hx hb dX12_finishes_77 rfl (lv_at hl 4 rfl) ?_
    refine gt_f (C := RX12) (T := TX12) (N := 17) hx hb ha in_X12 hown hK hP 0 rfl rfl 0 (by decide) m_1649 rfl dX12_finishes_78 ?_
    refine lv_bipush (v := 110) hx hb dX12_finishes_81 (by decide) ?_
    refine lv_aload_n hx hb dX12_finishes_83 rfl (lv_at hl 4 rfl) ?_
    refine gt_f (C := RX12) (T := TX12) (N := 17) hx hb ha in_X12 hown hK hP 0 rfl rfl 0 (by decide) m_1649 rfl dX12_finishes_84 ?_
    refine lv_bipush (v := 113) hx hb dX12_finishes_87 (by decide) ?_
    refine lv_bipush (v := 45) hx hb dX12_finishes_89 (by decide) ?_
    obtain ⟨a_18, ea_18, hf⟩ := sf_ne hf
    refine cp_i (ws' := [(h0, .inr (10, [.ref h1, .ref h2, .ref h3, .int mi, .ref h4, .int mn, .int mt, .ref h5, .int mO, .ref h6, .int mL, .int mA, .int mW, .int mE, .int mF, .ref h7, .int mM])), (h1, .inl (dA 0, 158, .inl a_18)), (h2, .inl (dA 0, 158, .inl mb)), (h3, .inl (dA 0, 158, .inl mv)), (h4, .inl (dA 0, 1264, .inl mp)), (h5, .inl (dA 1, 180, .inl mo)), (h6, .inl (dA 1, 60, .inl mI)), (h7, .inl (dA 0, 240, .inl mc))]) hx hb ha hown hml hl.1 m_1713 m_542 m_541 m_86 hK hP hD hS 1 1 rfl rfl (by decide) ea_18 rfl ⟨Nat.le_of_ble_eq_true rfl, Nat.le_of_ble_eq_true rfl⟩ dX12_finishes_91 (fun H locs hP hD hS => ?_)
    refine lv_aload_n hx hb dX12_finishes_94 rfl (lv_at hl 4 rfl) ?_
    refine gt_f (C := RX12) (T := TX12) (N := 17) hx hb ha in_X12 hown hK hP 0 rfl rfl 0 (by decide) m_1649 rfl dX12_finishes_95 ?_
    refine lv_bipush (v := 110) hx hb dX12_finishes_98 (by decide) ?_
    refine lv_iload_n hx hb dX12_finishes_100 rfl (lv_at hl 3 rfl) ?_
    obtain ⟨hi, hf⟩ := sf_ge hf
    obtain ⟨a_19, ea_19, hf⟩ := sf_ne hf
    refine ia_st (ws' := [(h0, .inr (10, [.ref h1, .ref h2, .ref h3, .int mi, .ref h4, .int mn, .int mt, .ref h5, .int mO, .ref h6, .int mL, .int mA, .int mW, .int mE, .int mF, .ref h7, .int mM])), (h1, .inl (dA 0, 158, .inl a_19)), (h2, .inl (dA 0, 158, .inl mb)), (h3, .inl (dA 0, 158, .inl mv)), (h4, .inl (dA 0, 1264, .inl mp)), (h5, .inl (dA 1, 180, .inl mo)), (h6, .inl (dA 1, 60, .inl mI)), (h7, .inl (dA 0, 240, .inl mc))]) hx hb hK hP hD hS 1 rfl hi ea_19 rfl dX12_finishes_101 (fun H locs hP hD hS => ?_)
    refine lv_aload_n hx hb dX12_finishes_102 rfl (lv_at hl 4 rfl) ?_
    refine gt_f (C := RX12) (T := TX12) (N := 17) hx hb ha in_X12 hown hK hP 0 rfl rfl 0 (by decide) m_1649 rfl dX12_finishes_103 ?_
    refine lv_bipush (v := 111) hx hb dX12_finishes_106 (by decide) ?_
    refine lv_iload_n hx hb dX12_finishes_108 rfl (lv_at hl 2 rfl) ?_
    obtain ⟨hi, hf⟩ := sf_ge hf
    obtain ⟨a_20, ea_20, hf⟩ := sf_ne hf
    refine ia_st (ws' := [(h0, .inr (10, [.ref h1, .ref h2, .ref h3, .int mi, .ref h4, .int mn, .int mt, .ref h5, .int mO, .ref h6, .int mL, .int mA, .int mW, .int mE, .int mF, .ref h7, .int mM])), (h1, .inl (dA 0, 158, .inl a_20)), (h2, .inl (dA 0, 158, .inl mb)), (h3, .inl (dA 0, 158, .inl mv)), (h4, .inl (dA 0, 1264, .inl mp)), (h5, .inl (dA 1, 180, .inl mo)), (h6, .inl (dA 1, 60, .inl mI)), (h7, .inl (dA 0, 240, .inl mc))]) hx hb hK hP hD hS 1 rfl hi ea_20 rfl dX12_finishes_109 (fun H locs hP hD hS => ?_)
    refine lv_aload_n hx hb dX12_finishes_110 rfl (lv_at hl 4 rfl) ?_
    refine gt_f (C := RX12) (T := TX12) (N := 17) hx hb ha in_X12 hown hK hP 0 rfl rfl 0 (by decide) m_1649 rfl dX12_finishes_111 ?_
    refine lv_bipush (v := 112) hx hb dX12_finishes_114 (by decide) ?_
    refine lv_aload_n hx hb dX12_finishes_116 rfl (lv_at hl 4 rfl) ?_
    refine gt_f (C := RX12) (T := TX12) (N := 17) hx hb ha in_X12 hown hK hP 0 rfl rfl 0 (by decide) m_1649 rfl dX12_finishes_117 ?_
    refine lv_iconst (v := 3) hx hb dX12_finishes_120 (by decide) ?_
    obtain ⟨hi, hf⟩ := sf_ge hf
    refine ia_ld hx hb hK hP 1 rfl hi dX12_finishes_121 ?_
    obtain ⟨hi, hf⟩ := sf_ge hf
    obtain ⟨a_21, ea_21, hf⟩ := sf_ne hf
    refine ia_st (ws' := [(h0, .inr (10, [.ref h1, .ref h2, .ref h3, .int mi, .ref h4, .int mn, .int mt, .ref h5, .int mO, .ref h6, .int mL, .int mA, .int mW, .int mE, .int mF, .ref h7, .int mM])), (h1, .inl (dA 0, 158, .inl a_21)), (h2, .inl (dA 0, 158, .inl mb)), (h3, .inl (dA 0, 158, .inl mv)), (h4, .inl (dA 0, 1264, .inl mp)), (h5, .inl (dA 1, 180, .inl mo)), (h6, .inl (dA 1, 60, .inl mI)), (h7, .inl (dA 0, 240, .inl mc))]) hx hb hK hP hD hS 1 rfl hi ea_21 rfl dX12_finishes_122 (fun H locs hP hD hS => ?_)
    refine lv_aload_n hx hb dX12_finishes_123 rfl (lv_at hl 4 rfl) ?_
    refine gt_f (C := RX12) (T := TX12) (N := 17) hx hb ha in_X12 hown hK hP 0 rfl rfl 0 (by decide) m_1649 rfl dX12_finishes_124 ?_
    refine lv_iconst (v := 4) hx hb dX12_finishes_127 (by decide) ?_
    refine lv_bipush (v := 16) hx hb dX12_finishes_128 (by decide) ?_
    refine lv_aload_n hx hb dX12_finishes_130 rfl (lv_at hl 4 rfl) ?_
    refine gt_f (C := RX12) (T := TX12) (N := 17) hx hb ha in_X12 hown hK hP 0 rfl rfl 0 (by decide) m_1649 rfl dX12_finishes_131 ?_
    refine lv_iconst (v := 4) hx hb dX12_finishes_134 (by decide) ?_
    obtain ⟨hi, hf⟩ := sf_ge hf
    refine ia_ld hx hb hK hP 1 rfl hi dX12_finishes_135 ?_
    refine lv_iconst (v := 1) hx hb dX12_finishes_136 (by decide) ?_
    refine lv_iadd hx hb dX12_finishes_137 ?_
    refine mn_i hx hb ha hown hml hl.1 m_1849 m_472 m_95 m_473 ⟨Nat.le_of_ble_eq_true rfl, Nat.le_of_ble_eq_true rfl⟩ ⟨Nat.le_of_ble_eq_true rfl, Nat.le_of_ble_eq_true rfl⟩ dX12_finishes_138 ?_
    obtain ⟨hi, hf⟩ := sf_ge hf
    obtain ⟨a_22, ea_22, hf⟩ := sf_ne hf
    refine ia_st (ws' := [(h0, .inr (10, [.ref h1, .ref h2, .ref h3, .int mi, .ref h4, .int mn, .int mt, .ref h5, .int mO, .ref h6, .int mL, .int mA, .int mW, .int mE, .int mF, .ref h7, .int mM])), (h1, .inl (dA 0, 158, .inl a_22)), (h2, .inl (dA 0, 158, .inl mb)), (h3, .inl (dA 0, 158, .inl mv)), (h4, .inl (dA 0, 1264, .inl mp)), (h5, .inl (dA 1, 180, .inl mo)), (h6, .inl (dA 1, 60, .inl mI)), (h7, .inl (dA 0, 240, .inl mc))]) hx hb hK hP hD hS 1 rfl hi ea_22 rfl dX12_finishes_141 (fun H locs hP hD hS => ?_)
    refine lv_aload_n hx hb dX12_finishes_142 rfl (lv_at hl 4 rfl) ?_
    refine gt_f (C := RX12) (T := TX12) (N := 17) hx hb ha in_X12 hown hK hP 0 rfl rfl 0 (by decide) m_1649 rfl dX12_finishes_143 ?_
    refine lv_bipush (v := 44) hx hb dX12_finishes_146 (by decide) ?_
    refine lv_iconst (v := 3) hx hb dX12_finishes_148 (by decide) ?_
    refine lv_iload_n hx hb dX12_finishes_149 rfl (lv_at hl 3 rfl) ?_
    refine lv_imul hx hb dX12_finishes_150 ?_
    refine lv_iadd hx hb dX12_finishes_151 ?_
    refine lv_iconst (v := 1) hx hb dX12_finishes_152 (by decide) ?_
    refine lv_iadd hx hb dX12_finishes_153 ?_
    refine lv_dup2_11 hx hb dX12_finishes_154 rfl rfl ?_
    obtain ⟨hi, hf⟩ := sf_ge hf
    refine ia_ld hx hb hK hP 1 rfl hi dX12_finishes_155 ?_
    refine lv_iconst (v := 1) hx hb dX12_finishes_156 (by decide) ?_
    refine lv_iadd hx hb dX12_finishes_157 ?_
    obtain ⟨hi, hf⟩ := sf_ge hf
    obtain ⟨a_23, ea_23, hf⟩ := sf_ne hf
    refine ia_st (ws' := [(h0, .inr (10, [.ref h1, .ref h2, .ref h3, .int mi, .ref h4, .int mn, .int mt, .ref h5, .int mO, .ref h6, .int mL, .int mA, .int mW, .int mE, .int mF, .ref h7, .int mM])), (h1, .inl (dA 0, 158, .inl a_23)), (h2, .inl (dA 0, 158, .inl mb)), (h3, .inl (dA 0, 158, .inl mv)), (h4, .inl (dA 0, 1264, .inl mp)), (h5, .inl (dA 1, 180, .inl mo)), (h6, .inl (dA 1, 60, .inl mI)), (h7, .inl (dA 0, 240, .inl mc))]) hx hb hK hP hD hS 1 rfl hi ea_23 rfl dX12_finishes_158 (fun H locs hP hD hS => ?_)
    refine lv_aload_n hx hb dX12_finishes_159 rfl (lv_at hl 4 rfl) ?_
    refine lv_iload_n hx hb dX12_finishes_160 rfl (lv_at hl 5 rfl) ?_
    obtain ⟨a_24, hc24, hf⟩ := sf_c1e hf
    refine k_Mv (wr := []) (run_MV (As := [.int p0]) (rest := []) ⟨hx, hb, hml, hown, ha⟩ (c_X12_drops l D dA h0 h1 h2 h3 h4 h5 h6 h7 _ a_23 mb mv mi mp mn mt mo mO mI mL mA mW mE mF mc mM p0 _ hc24) (gi_V m_1801 m_1803 m_49 m_85 m_1804) yd_X12_drops ⟨Nat.le_of_ble_eq_true rfl, Nat.le_of_ble_eq_true rfl⟩ ⟨rfl, rfl⟩ hK hP hD [0, 1, 2, 3, 4, 5, 6, 7] (by decide) rfl 0 10 rfl rfl rfl rfl hl.1 rfl (Nat.le_of_ble_eq_true rfl) dX12_finishes_161 ⟨Nat.le_of_ble_eq_true rfl, Nat.le_of_ble_eq_true rfl⟩) hP hD hS hA [0, 1, 2, 3, 4, 5, 6, 7] [] rfl rfl (by decide) (by decide) (fun H locs hP hD hS => ?_)
    cases hf
    exact rt_Mv hx hb hr hlocks (hP.sub [0, 1, 2, 3, 4, 5, 6, 7] rfl) (hD.sub [0, 1, 2, 3, 4, 5, 6, 7] (by decide) rfl) hS dX12_finishes_164

def f_X12_passesOne_L2 (k : Int32 → (Nat → Int32) → Option (Int32 × (Nat → Int32) × Int32)) : Nat → Int32 → Int32 → (Nat → Int32) → Option (Int32 × (Nat → Int32) × Int32)
  | 0, _, _, _ => none
  | n + 1, v_1, v_2, w_3 => sf_g (sf_in (0 : Int32) 158 = true) (sf_b ((w_3 (0 : Int32).toNatClampNeg) ≤ v_1) (k v_2 w_3) (sf_c2 (f_X12_calls w_3 v_2 v_1) (fun a_4 x_5 => sf_n (v_1 + (1 : Int32)) (fun x_6 => f_X12_passesOne_L2  k n x_6 x_5 a_4))))
def f_X12_passesOne_L35 (k : (Nat → Int32) → Option (Int32 × (Nat → Int32) × Int32)) : Nat → Int32 → (Nat → Int32) → Option (Int32 × (Nat → Int32) × Int32)
  | 0, _, _ => none
  | n + 1, v_10, w_11 => sf_g (sf_in (0 : Int32) 158 = true) (sf_b ((w_11 (0 : Int32).toNatClampNeg) ≤ v_10) (k w_11) (sf_g (sf_in (3 : Int32) 158 = true) (sf_c1 (f_X12_during w_11 v_10 ((w_11 (3 : Int32).toNatClampNeg) - (1 : Int32))) (fun r_12 => sf_b ((0 : Int32) ≤ r_12) (sf_n (v_10 + (1 : Int32)) (fun x_13 => f_X12_passesOne_L35  k n x_13 w_11)) (sf_c1 (f_X12_slide w_11 v_10 (2 : Int32)) (fun r_14 => sf_c1 (f_X12_wets w_11 v_10 (r_14 - (1 : Int32))) (fun a_15 => sf_n (v_10 + (1 : Int32)) (fun x_16 => f_X12_passesOne_L35  k n x_16 a_15))))))))
def f_X12_passesOne_L84 (k : Int32 → (Nat → Int32) → Option (Int32 × (Nat → Int32) × Int32)) : Nat → Int32 → Int32 → (Nat → Int32) → Option (Int32 × (Nat → Int32) × Int32)
  | 0, _, _, _ => none
  | n + 1, v_18, v_19, w_20 => sf_g (sf_in (2 : Int32) 158 = true) (sf_b ((w_20 (2 : Int32).toNatClampNeg) ≤ v_18) (k v_19 w_20) (sf_c1 (f_X12_endOf w_20 v_18) (fun r_21 => sf_g (sf_in (3 : Int32) 158 = true) (sf_b (r_21 = (w_20 (3 : Int32).toNatClampNeg)) (sf_c1 (f_X12_finishes w_20 v_18) (fun a_24 => sf_n ((v_19 + (1 : Int32))) (fun x_25 => sf_n ((v_18 + (0 : Int32))) (fun x_26 => f_X12_passesOne_L84  k n x_26 x_25 a_24)))) (sf_n ((v_19 + (0 : Int32))) (fun x_22 => sf_n ((v_18 + (1 : Int32))) (fun x_23 => f_X12_passesOne_L84  k n x_23 x_22 w_20)))))))
def f_X12_passesOne (ms : Nat → Int32) (mt : Int32) : Option (Int32 × (Nat → Int32) × Int32) :=
  f_X12_passesOne_L2  (fun y_7 z_8 => sf_g (sf_in (3 : Int32) 158 = true) (sf_g (sf_in (3 : Int32) 158 = true) (sf_n (upd z_8 (3 : Int32).toNatClampNeg ((z_8 (3 : Int32).toNatClampNeg) + (1 : Int32))) (fun a_9 => f_X12_passesOne_L35  (fun z_17 => f_X12_passesOne_L84  (fun y_27 z_28 => some (y_27, z_28, y_7)) 2000 (0 : Int32) (0 : Int32) z_17) 2000 (0 : Int32) a_9)))) 2000 (0 : Int32) mt ms
theorem yd_X12_passesOne : yX12_passesOne.cls = RX12 ∧ yX12_passesOne.cls ≠ "java/lang/invoke/MethodHandle" ∧ yX12_passesOne.cls ≠ "java/lang/invoke/VarHandle" ∧ (parseMethodDescriptor yX12_passesOne.desc).map (fun d => d.parameters.length) = some 0 := ⟨rfl, by decide, by decide, by decide +kernel⟩
set_option maxRecDepth 100000 in
set_option maxHeartbeats 4000000 in
theorem c_X12_passesOne (l : Launch) (D : va_G) (dA : Nat → ClassId) (h0 h1 h2 h3 h4 h5 h6 h7 : Nat) (sz : Nat) (ms : Nat → Int32) (mb : Nat → Int32) (mv : Nat → Int32) (mi : Int32) (mp : Nat → Int32) (mn : Int32) (mt : Int32) (mo : Nat → Int32) (mO : Int32) (mI : Nat → Int32) (mL : Int32) (mA : Int32) (mW : Int32) (mE : Int32) (mF : Int32) (mc : Nat → Int32) (mM : Int32) (rr : Int32) (q_ms : Nat → Int32) (q_mt : Int32) (hf : f_X12_passesOne ms mt = some (rr, q_ms, q_mt)) : Met l yX12_passesOne (wo (.code yX12_passesOne cX12_passesOne 4 (some .int))) ({ frames := 5, cells := 0, slots := 0, locals := 137 } : Room) (preM D dA [.ref h0] sz [(h0, .inr (10, [.ref h1, .ref h2, .ref h3, .int mi, .ref h4, .int mn, .int mt, .ref h5, .int mO, .ref h6, .int mL, .int mA, .int mW, .int mE, .int mF, .ref h7, .int mM])), (h1, .inl (dA 0, 158, .inl ms)), (h2, .inl (dA 0, 158, .inl mb)), (h3, .inl (dA 0, 158, .inl mv)), (h4, .inl (dA 0, 1264, .inl mp)), (h5, .inl (dA 1, 180, .inl mo)), (h6, .inl (dA 1, 60, .inl mI)), (h7, .inl (dA 0, 240, .inl mc))]) (poMi D rr [(h0, .inr (10, [.ref h1, .ref h2, .ref h3, .int mi, .ref h4, .int mn, .int q_mt, .ref h5, .int mO, .ref h6, .int mL, .int mA, .int mW, .int mE, .int mF, .ref h7, .int mM])), (h1, .inl (dA 0, 158, .inl q_ms)), (h2, .inl (dA 0, 158, .inl mb)), (h3, .inl (dA 0, 158, .inl mv)), (h4, .inl (dA 0, 1264, .inl mp)), (h5, .inl (dA 1, 180, .inl mo)), (h6, .inl (dA 1, 60, .inl mI)), (h7, .inl (dA 0, 240, .inl mc))] (va_A [(h0, .inr (10, [.ref h1, .ref h2, .ref h3, .int mi, .ref h4, .int mn, .int mt, .ref h5, .int mO, .ref h6, .int mL, .int mA, .int mW, .int mE, .int mF, .ref h7, .int mM])), (h1, .inl (dA 0, 158, .inl ms)), (h2, .inl (dA 0, 158, .inl mb)), (h3, .inl (dA 0, 158, .inl mv)), (h4, .inl (dA 0, 1264, .inl mp)), (h5, .inl (dA 1, 180, .inl mo)), (h6, .inl (dA 1, 60, .inl mI)), (h7, .inl (dA 0, 240, .inl mc))] sz)) 0 0 (va_A [(h0, .inr (10, [.ref h1, .ref h2, .ref h3, .int mi, .ref h4, .int mn, .int mt, .ref h5, .int mO, .ref h6, .int mL, .int mA, .int mW, .int mE, .int mF, .ref h7, .int mM])), (h1, .inl (dA 0, 158, .inl ms)), (h2, .inl (dA 0, 158, .inl mb)), (h3, .inl (dA 0, 158, .inl mv)), (h4, .inl (dA 0, 1264, .inl mp)), (h5, .inl (dA 1, 180, .inl mo)), (h6, .inl (dA 1, 60, .inl mI)), (h7, .inl (dA 0, 240, .inl mc))] sz) := by
  refine of_M (y := yX12_passesOne) (av := [.ref h0]) (ws := [(h0, .inr (10, [.ref h1, .ref h2, .ref h3, .int mi, .ref h4, .int mn, .int mt, .ref h5, .int mO, .ref h6, .int mL, .int mA, .int mW, .int mE, .int mF, .ref h7, .int mM])), (h1, .inl (dA 0, 158, .inl ms)), (h2, .inl (dA 0, 158, .inl mb)), (h3, .inl (dA 0, 158, .inl mv)), (h4, .inl (dA 0, 1264, .inl mp)), (h5, .inl (dA 1, 180, .inl mo)), (h6, .inl (dA 1, 60, .inl mI)), (h7, .inl (dA 0, 240, .inl mc))]) (sz := sz) (own := RX12) (Qc := poMi D rr [(h0, .inr (10, [.ref h1, .ref h2, .ref h3, .int mi, .ref h4, .int mn, .int q_mt, .ref h5, .int mO, .ref h6, .int mL, .int mA, .int mW, .int mE, .int mF, .ref h7, .int mM])), (h1, .inl (dA 0, 158, .inl q_ms)), (h2, .inl (dA 0, 158, .inl mb)), (h3, .inl (dA 0, 158, .inl mv)), (h4, .inl (dA 0, 1264, .inl mp)), (h5, .inl (dA 1, 180, .inl mo)), (h6, .inl (dA 1, 60, .inl mI)), (h7, .inl (dA 0, 240, .inl mc))]) (by decide) rfl (Nat.le_of_ble_eq_true rfl) ?_
  intro p e s m below meth c A hx hb hr ha hown hml hlocks hin hP hK hD hS hA ls hl
  have hl : lv_has ls 4 [(0, .ref h0)] := hl
  rw [f_X12_passesOne] at hf
  refine lv_iconst (v := 0) hx hb dX12_passesOne_0 (by decide) ?_
  refine lv_istore_n (lv' := [(1, .int (0 : Int32)), (0, .ref h0)]) hx hb dX12_passesOne_1 rfl hl (by decide) rfl (fun ls hl => ?_)
  have hL2 : ∀ (n : Nat) (k : Int32 → (Nat → Int32) → Option (Int32 × (Nat → Int32) × Int32)) (v_1 : Int32) (v_2 : Int32) (w_3 : (Nat → Int32)) (H : Heap) (locs : List Loc) (ls : Array Slot), va_P D cls [(h0, .inr (10, [.ref h1, .ref h2, .ref h3, .int mi, .ref h4, .int mn, .int v_2, .ref h5, .int mO, .ref h6, .int mL, .int mA, .int mW, .int mE, .int mF, .ref h7, .int mM])), (h1, .inl (dA 0, 158, .inl w_3)), (h2, .inl (dA 0, 158, .inl mb)), (h3, .inl (dA 0, 158, .inl mv)), (h4, .inl (dA 0, 1264, .inl mp)), (h5, .inl (dA 1, 180, .inl mo)), (h6, .inl (dA 1, 60, .inl mI)), (h7, .inl (dA 0, 240, .inl mc))] H → va_D A [(h0, .inr (10, [.ref h1, .ref h2, .ref h3, .int mi, .ref h4, .int mn, .int v_2, .ref h5, .int mO, .ref h6, .int mL, .int mA, .int mW, .int mE, .int mF, .ref h7, .int mM])), (h1, .inl (dA 0, 158, .inl w_3)), (h2, .inl (dA 0, 158, .inl mb)), (h3, .inl (dA 0, 158, .inl mv)), (h4, .inl (dA 0, 1264, .inl mp)), (h5, .inl (dA 1, 180, .inl mo)), (h6, .inl (dA 1, 60, .inl mI)), (h7, .inl (dA 0, 240, .inl mc))] → va_S A s.heap H locs → lv_has ls 4 [(1, .int v_1), (0, .ref h0)] → f_X12_passesOne_L2  k n v_1 v_2 w_3 = some (rr, q_ms, q_mt) → (∀ (y_7 : Int32) (z_8 : (Nat → Int32)) (H : Heap) (locs : List Loc) (ls : Array Slot), va_P D cls [(h0, .inr (10, [.ref h1, .ref h2, .ref h3, .int mi, .ref h4, .int mn, .int y_7, .ref h5, .int mO, .ref h6, .int mL, .int mA, .int mW, .int mE, .int mF, .ref h7, .int mM])), (h1, .inl (dA 0, 158, .inl z_8)), (h2, .inl (dA 0, 158, .inl mb)), (h3, .inl (dA 0, 158, .inl mv)), (h4, .inl (dA 0, 1264, .inl mp)), (h5, .inl (dA 1, 180, .inl mo)), (h6, .inl (dA 1, 60, .inl mI)), (h7, .inl (dA 0, 240, .inl mc))] H → va_D A [(h0, .inr (10, [.ref h1, .ref h2, .ref h3, .int mi, .ref h4, .int mn, .int y_7, .ref h5, .int mO, .ref h6, .int mL, .int mA, .int mW, .int mE, .int mF, .ref h7, .int mM])), (h1, .inl (dA 0, 158, .inl z_8)), (h2, .inl (dA 0, 158, .inl mb)), (h3, .inl (dA 0, 158, .inl mv)), (h4, .inl (dA 0, 1264, .inl mp)), (h5, .inl (dA 1, 180, .inl mo)), (h6, .inl (dA 1, 60, .inl mI)), (h7, .inl (dA 0, 240, .inl mc))] → va_S A s.heap H locs → lv_has ls 4 [(0, .ref h0)] → k y_7 z_8 = some (rr, q_ms, q_mt) → W p l e ({ frames := 5, cells := 0, slots := 0, locals := 137 } : Room) s m ([.ref h0] : List Value).toArray below meth c H locs 0 0 (MQ below (poMi D rr [(h0, .inr (10, [.ref h1, .ref h2, .ref h3, .int mi, .ref h4, .int mn, .int q_mt, .ref h5, .int mO, .ref h6, .int mL, .int mA, .int mW, .int mE, .int mF, .ref h7, .int mM])), (h1, .inl (dA 0, 158, .inl q_ms)), (h2, .inl (dA 0, 158, .inl mb)), (h3, .inl (dA 0, 158, .inl mv)), (h4, .inl (dA 0, 1264, .inl mp)), (h5, .inl (dA 1, 180, .inl mo)), (h6, .inl (dA 1, 60, .inl mI)), (h7, .inl (dA 0, 240, .inl mc))] A) ([.ref h0] : List Value).toArray s 0 0 A) (F0 m 23 ls [])) → W p l e ({ frames := 5, cells := 0, slots := 0, locals := 137 } : Room) s m ([.ref h0] : List Value).toArray below meth c H locs 0 0 (MQ below (poMi D rr [(h0, .inr (10, [.ref h1, .ref h2, .ref h3, .int mi, .ref h4, .int mn, .int q_mt, .ref h5, .int mO, .ref h6, .int mL, .int mA, .int mW, .int mE, .int mF, .ref h7, .int mM])), (h1, .inl (dA 0, 158, .inl q_ms)), (h2, .inl (dA 0, 158, .inl mb)), (h3, .inl (dA 0, 158, .inl mv)), (h4, .inl (dA 0, 1264, .inl mp)), (h5, .inl (dA 1, 180, .inl mo)), (h6, .inl (dA 1, 60, .inl mI)), (h7, .inl (dA 0, 240, .inl mc))] A) ([.ref h0] : List Value).toArray s 0 0 A) (F0 m 2 ls []) := by
    intro n k
    induction n with
    | zero =>
      intro v_1 v_2 w_3 H locs ls hP hD hS hl hf hk
      rw [f_X12_passesOne_L2] at hf
      cases hf
    | succ n ih =>
      intro v_1 v_2 w_3 H locs ls hP hD hS hl hf hk
      rw [f_X12_passesOne_L2] at hf
      refine lv_iload_n hx hb dX12_passesOne_2 rfl (lv_at hl 0 rfl) ?_
      refine lv_aload_n hx hb dX12_passesOne_3 rfl (lv_at hl 1 rfl) ?_
      refine gt_f (C := RX12) (T := TX12) (N := 17) hx hb ha in_X12 hown hK hP 0 rfl rfl 0 (by decide) m_1649 rfl dX12_passesOne_4 ?_
      refine lv_iconst (v := 0) hx hb dX12_passesOne_7 (by decide) ?_
      obtain ⟨hi, hf⟩ := sf_ge hf
      refine ia_ld hx hb hK hP 1 rfl hi dX12_passesOne_8 ?_
      refine lv_icmp_ge (tgt := 23) hx hb dX12_passesOne_9 (by decide) (fun hc => ?_) (fun hc => ?_)
      · have hf := sf_bp hf hc
        exact hk _ _ _ _ _ (hP.sub [0, 1, 2, 3, 4, 5, 6, 7] rfl) (hD.sub [0, 1, 2, 3, 4, 5, 6, 7] (by decide) rfl) hS (lv_sub hl [1] rfl) hf
      · have hf := sf_bn hf hc
        refine lv_aload_n hx hb dX12_passesOne_12 rfl (lv_at hl 1 rfl) ?_
        refine lv_iload_n hx hb dX12_passesOne_13 rfl (lv_at hl 0 rfl) ?_
        obtain ⟨a_4, x_5, hc5, hf⟩ := sf_c2e hf
        refine k_Mv (wr := []) (run_MV (As := [.int v_1]) (rest := []) ⟨hx, hb, hml, hown, ha⟩ (c_X12_calls l D dA h0 h1 h2 h3 h4 h5 h6 h7 _ w_3 mb mv mi mp mn v_2 mo mO mI mL mA mW mE mF mc mM v_1 _ _ hc5) (gi_V m_1833 m_1835 m_54 m_85 m_1836) yd_X12_calls ⟨Nat.le_of_ble_eq_true rfl, Nat.le_of_ble_eq_true rfl⟩ ⟨rfl, rfl⟩ hK hP hD [0, 1, 2, 3, 4, 5, 6, 7] (by decide) rfl 0 10 rfl rfl rfl rfl hl.1 rfl (Nat.le_of_ble_eq_true rfl) dX12_passesOne_14 ⟨Nat.le_of_ble_eq_true rfl, Nat.le_of_ble_eq_true rfl⟩) hP hD hS hA [0, 1, 2, 3, 4, 5, 6, 7] [] rfl rfl (by decide) (by decide) (fun H locs hP hD hS => ?_)
        obtain ⟨x_6, ex_6, hf⟩ := sf_ne hf
        refine ii_nc (lv' := [(1, .int x_6), (0, .ref h0)]) (k := 0) hx hb dX12_passesOne_17 hl rfl ex_6 (by decide) (by decide) rfl (fun ls hl => ?_)
        refine lv_goto (tgt := 2) hx hb dX12_passesOne_20 (by decide) ?_
        exact ih _ _ _ _ _ _ (hP.sub [0, 1, 2, 3, 4, 5, 6, 7] rfl) (hD.sub [0, 1, 2, 3, 4, 5, 6, 7] (by decide) rfl) hS (lv_sub hl [0, 1] rfl) hf hk
  refine hL2 _ _ _ _ _ _ _ _ hP hD hS (lv_sub hl [0, 1] rfl) hf (fun y_7 z_8 H locs ls hP hD hS hl hf => ?_)
  refine lv_aload_n hx hb dX12_passesOne_23 rfl (lv_at hl 0 rfl) ?_
  refine gt_f (C := RX12) (T := TX12) (N := 17) hx hb ha in_X12 hown hK hP 0 rfl rfl 0 (by decide) m_1649 rfl dX12_passesOne_24 ?_
  refine lv_iconst (v := 3) hx hb dX12_passesOne_27 (by decide) ?_
  refine lv_dup2_11 hx hb dX12_passesOne_28 rfl rfl ?_
  obtain ⟨hi, hf⟩ := sf_ge hf
  refine ia_ld hx hb hK hP 1 rfl hi dX12_passesOne_29 ?_
  refine lv_iconst (v := 1) hx hb dX12_passesOne_30 (by decide) ?_
  refine lv_iadd hx hb dX12_passesOne_31 ?_
  obtain ⟨hi, hf⟩ := sf_ge hf
  obtain ⟨a_9, ea_9, hf⟩ := sf_ne hf
  refine ia_st (ws' := [(h0, .inr (10, [.ref h1, .ref h2, .ref h3, .int mi, .ref h4, .int mn, .int y_7, .ref h5, .int mO, .ref h6, .int mL, .int mA, .int mW, .int mE, .int mF, .ref h7, .int mM])), (h1, .inl (dA 0, 158, .inl a_9)), (h2, .inl (dA 0, 158, .inl mb)), (h3, .inl (dA 0, 158, .inl mv)), (h4, .inl (dA 0, 1264, .inl mp)), (h5, .inl (dA 1, 180, .inl mo)), (h6, .inl (dA 1, 60, .inl mI)), (h7, .inl (dA 0, 240, .inl mc))]) hx hb hK hP hD hS 1 rfl hi ea_9 rfl dX12_passesOne_32 (fun H locs hP hD hS => ?_)
  refine lv_iconst (v := 0) hx hb dX12_passesOne_33 (by decide) ?_
  refine lv_istore_n (lv' := [(1, .int (0 : Int32)), (0, .ref h0)]) hx hb dX12_passesOne_34 rfl hl (by decide) rfl (fun ls hl => ?_)
  have hL35 : ∀ (n : Nat) (k : (Nat → Int32) → Option (Int32 × (Nat → Int32) × Int32)) (v_10 : Int32) (w_11 : (Nat → Int32)) (H : Heap) (locs : List Loc) (ls : Array Slot), va_P D cls [(h0, .inr (10, [.ref h1, .ref h2, .ref h3, .int mi, .ref h4, .int mn, .int y_7, .ref h5, .int mO, .ref h6, .int mL, .int mA, .int mW, .int mE, .int mF, .ref h7, .int mM])), (h1, .inl (dA 0, 158, .inl w_11)), (h2, .inl (dA 0, 158, .inl mb)), (h3, .inl (dA 0, 158, .inl mv)), (h4, .inl (dA 0, 1264, .inl mp)), (h5, .inl (dA 1, 180, .inl mo)), (h6, .inl (dA 1, 60, .inl mI)), (h7, .inl (dA 0, 240, .inl mc))] H → va_D A [(h0, .inr (10, [.ref h1, .ref h2, .ref h3, .int mi, .ref h4, .int mn, .int y_7, .ref h5, .int mO, .ref h6, .int mL, .int mA, .int mW, .int mE, .int mF, .ref h7, .int mM])), (h1, .inl (dA 0, 158, .inl w_11)), (h2, .inl (dA 0, 158, .inl mb)), (h3, .inl (dA 0, 158, .inl mv)), (h4, .inl (dA 0, 1264, .inl mp)), (h5, .inl (dA 1, 180, .inl mo)), (h6, .inl (dA 1, 60, .inl mI)), (h7, .inl (dA 0, 240, .inl mc))] → va_S A s.heap H locs → lv_has ls 4 [(1, .int v_10), (0, .ref h0)] → f_X12_passesOne_L35  k n v_10 w_11 = some (rr, q_ms, q_mt) → (∀ (z_17 : (Nat → Int32)) (H : Heap) (locs : List Loc) (ls : Array Slot), va_P D cls [(h0, .inr (10, [.ref h1, .ref h2, .ref h3, .int mi, .ref h4, .int mn, .int y_7, .ref h5, .int mO, .ref h6, .int mL, .int mA, .int mW, .int mE, .int mF, .ref h7, .int mM])), (h1, .inl (dA 0, 158, .inl z_17)), (h2, .inl (dA 0, 158, .inl mb)), (h3, .inl (dA 0, 158, .inl mv)), (h4, .inl (dA 0, 1264, .inl mp)), (h5, .inl (dA 1, 180, .inl mo)), (h6, .inl (dA 1, 60, .inl mI)), (h7, .inl (dA 0, 240, .inl mc))] H → va_D A [(h0, .inr (10, [.ref h1, .ref h2, .ref h3, .int mi, .ref h4, .int mn, .int y_7, .ref h5, .int mO, .ref h6, .int mL, .int mA, .int mW, .int mE, .int mF, .ref h7, .int mM])), (h1, .inl (dA 0, 158, .inl z_17)), (h2, .inl (dA 0, 158, .inl mb)), (h3, .inl (dA 0, 158, .inl mv)), (h4, .inl (dA 0, 1264, .inl mp)), (h5, .inl (dA 1, 180, .inl mo)), (h6, .inl (dA 1, 60, .inl mI)), (h7, .inl (dA 0, 240, .inl mc))] → va_S A s.heap H locs → lv_has ls 4 [(0, .ref h0)] → k z_17 = some (rr, q_ms, q_mt) → W p l e ({ frames := 5, cells := 0, slots := 0, locals := 137 } : Room) s m ([.ref h0] : List Value).toArray below meth c H locs 0 0 (MQ below (poMi D rr [(h0, .inr (10, [.ref h1, .ref h2, .ref h3, .int mi, .ref h4, .int mn, .int q_mt, .ref h5, .int mO, .ref h6, .int mL, .int mA, .int mW, .int mE, .int mF, .ref h7, .int mM])), (h1, .inl (dA 0, 158, .inl q_ms)), (h2, .inl (dA 0, 158, .inl mb)), (h3, .inl (dA 0, 158, .inl mv)), (h4, .inl (dA 0, 1264, .inl mp)), (h5, .inl (dA 1, 180, .inl mo)), (h6, .inl (dA 1, 60, .inl mI)), (h7, .inl (dA 0, 240, .inl mc))] A) ([.ref h0] : List Value).toArray s 0 0 A) (F0 m 80 ls [])) → W p l e ({ frames := 5, cells := 0, slots := 0, locals := 137 } : Room) s m ([.ref h0] : List Value).toArray below meth c H locs 0 0 (MQ below (poMi D rr [(h0, .inr (10, [.ref h1, .ref h2, .ref h3, .int mi, .ref h4, .int mn, .int q_mt, .ref h5, .int mO, .ref h6, .int mL, .int mA, .int mW, .int mE, .int mF, .ref h7, .int mM])), (h1, .inl (dA 0, 158, .inl q_ms)), (h2, .inl (dA 0, 158, .inl mb)), (h3, .inl (dA 0, 158, .inl mv)), (h4, .inl (dA 0, 1264, .inl mp)), (h5, .inl (dA 1, 180, .inl mo)), (h6, .inl (dA 1, 60, .inl mI)), (h7, .inl (dA 0, 240, .inl mc))] A) ([.ref h0] : List Value).toArray s 0 0 A) (F0 m 35 ls []) := by
    intro n k
    induction n with
    | zero =>
      intro v_10 w_11 H locs ls hP hD hS hl hf hk
      rw [f_X12_passesOne_L35] at hf
      cases hf
    | succ n ih =>
      intro v_10 w_11 H locs ls hP hD hS hl hf hk
      rw [f_X12_passesOne_L35] at hf
      refine lv_iload_n hx hb dX12_passesOne_35 rfl (lv_at hl 0 rfl) ?_
      refine lv_aload_n hx hb dX12_passesOne_36 rfl (lv_at hl 1 rfl) ?_
      refine gt_f (C := RX12) (T := TX12) (N := 17) hx hb ha in_X12 hown hK hP 0 rfl rfl 0 (by decide) m_1649 rfl dX12_passesOne_37 ?_
      refine lv_iconst (v := 0) hx hb dX12_passesOne_40 (by decide) ?_
      obtain ⟨hi, hf⟩ := sf_ge hf
      refine ia_ld hx hb hK hP 1 rfl hi dX12_passesOne_41 ?_
      refine lv_icmp_ge (tgt := 80) hx hb dX12_passesOne_42 (by decide) (fun hc => ?_) (fun hc => ?_)
      · have hf := sf_bp hf hc
        exact hk _ _ _ _ (hP.sub [0, 1, 2, 3, 4, 5, 6, 7] rfl) (hD.sub [0, 1, 2, 3, 4, 5, 6, 7] (by decide) rfl) hS (lv_sub hl [1] rfl) hf
      · have hf := sf_bn hf hc
        refine lv_aload_n hx hb dX12_passesOne_45 rfl (lv_at hl 1 rfl) ?_
        refine lv_iload_n hx hb dX12_passesOne_46 rfl (lv_at hl 0 rfl) ?_
        refine lv_aload_n hx hb dX12_passesOne_47 rfl (lv_at hl 1 rfl) ?_
        refine gt_f (C := RX12) (T := TX12) (N := 17) hx hb ha in_X12 hown hK hP 0 rfl rfl 0 (by decide) m_1649 rfl dX12_passesOne_48 ?_
        refine lv_iconst (v := 3) hx hb dX12_passesOne_51 (by decide) ?_
        obtain ⟨hi, hf⟩ := sf_ge hf
        refine ia_ld hx hb hK hP 1 rfl hi dX12_passesOne_52 ?_
        refine lv_iconst (v := 1) hx hb dX12_passesOne_53 (by decide) ?_
        refine lv_isub hx hb dX12_passesOne_54 ?_
        obtain ⟨r_12, hc12, hf⟩ := sf_c1e hf
        refine k_Pi (run_PV (As := [.int v_10, .int ((w_11 (3 : Int32).toNatClampNeg) - (1 : Int32))]) (rest := []) ⟨hx, hb, hml, hown, ha⟩ (c_X12_during l D dA h0 h1 h2 h3 h4 h5 h6 h7  w_11 mb mv mi mp mn y_7 mo mO mI mL mA mW mE mF mc mM v_10 ((w_11 (3 : Int32).toNatClampNeg) - (1 : Int32)) _ hc12) (gi_V m_1841 m_1843 m_56 m_85 m_1844) yd_X12_during ⟨Nat.le_of_ble_eq_true rfl, Nat.le_of_ble_eq_true rfl⟩ ⟨rfl, rfl⟩ hK hP [0, 1, 2, 3, 4, 5, 6, 7] rfl 0 10 rfl rfl rfl rfl hl.1 rfl (Nat.le_of_ble_eq_true rfl) dX12_passesOne_55 ⟨Nat.le_of_ble_eq_true rfl, Nat.le_of_ble_eq_true rfl⟩) hP hS (fun H locs hP hS => ?_)
        refine lv_if_ge (tgt := 74) hx hb dX12_passesOne_58 (by decide) (fun hc => ?_) (fun hc => ?_)
        · have hf := sf_bp hf hc
          obtain ⟨x_13, ex_13, hf⟩ := sf_ne hf
          refine ii_nc (lv' := [(1, .int x_13), (0, .ref h0)]) (k := 0) hx hb dX12_passesOne_74 hl rfl ex_13 (by decide) (by decide) rfl (fun ls hl => ?_)
          refine lv_goto (tgt := 35) hx hb dX12_passesOne_77 (by decide) ?_
          exact ih _ _ _ _ _ (hP.sub [0, 1, 2, 3, 4, 5, 6, 7] rfl) (hD.sub [0, 1, 2, 3, 4, 5, 6, 7] (by decide) rfl) hS (lv_sub hl [0, 1] rfl) hf hk
        · have hf := sf_bn hf hc
          refine lv_aload_n hx hb dX12_passesOne_61 rfl (lv_at hl 1 rfl) ?_
          refine lv_iload_n hx hb dX12_passesOne_62 rfl (lv_at hl 0 rfl) ?_
          refine lv_aload_n hx hb dX12_passesOne_63 rfl (lv_at hl 1 rfl) ?_
          refine lv_iload_n hx hb dX12_passesOne_64 rfl (lv_at hl 0 rfl) ?_
          refine lv_iconst (v := 2) hx hb dX12_passesOne_65 (by decide) ?_
          obtain ⟨r_14, hc14, hf⟩ := sf_c1e hf
          refine k_Pi (run_PV (As := [.int v_10, .int (2 : Int32)]) (rest := [.int v_10, .ref h0]) ⟨hx, hb, hml, hown, ha⟩ (c_X12_slide l D dA h0 h1 h2 h3 h4 h5 h6 h7  w_11 mb mv mi mp mn y_7 mo mO mI mL mA mW mE mF mc mM v_10 (2 : Int32) _ hc14) (gi_V m_1761 m_1763 m_40 m_85 m_1764) yd_X12_slide ⟨Nat.le_of_ble_eq_true rfl, Nat.le_of_ble_eq_true rfl⟩ ⟨rfl, rfl⟩ hK hP [0, 1, 2, 3, 4, 5, 6, 7] rfl 0 10 rfl rfl rfl rfl hl.1 rfl (Nat.le_of_ble_eq_true rfl) dX12_passesOne_66 ⟨Nat.le_of_ble_eq_true rfl, Nat.le_of_ble_eq_true rfl⟩) hP hS (fun H locs hP hS => ?_)
          refine lv_iconst (v := 1) hx hb dX12_passesOne_69 (by decide) ?_
          refine lv_isub hx hb dX12_passesOne_70 ?_
          obtain ⟨a_15, hc15, hf⟩ := sf_c1e hf
          refine k_Mv (wr := []) (run_MV (As := [.int v_10, .int (r_14 - (1 : Int32))]) (rest := []) ⟨hx, hb, hml, hown, ha⟩ (c_X12_wets l D dA h0 h1 h2 h3 h4 h5 h6 h7 _ w_11 mb mv mi mp mn y_7 mo mO mI mL mA mW mE mF mc mM v_10 (r_14 - (1 : Int32)) _ hc15) (gi_V m_1845 m_1847 m_57 m_85 m_1848) yd_X12_wets ⟨Nat.le_of_ble_eq_true rfl, Nat.le_of_ble_eq_true rfl⟩ ⟨rfl, rfl⟩ hK hP hD [0, 1, 2, 3, 4, 5, 6, 7] (by decide) rfl 0 10 rfl rfl rfl rfl hl.1 rfl (Nat.le_of_ble_eq_true rfl) dX12_passesOne_71 ⟨Nat.le_of_ble_eq_true rfl, Nat.le_of_ble_eq_true rfl⟩) hP hD hS hA [0, 1, 2, 3, 4, 5, 6, 7] [] rfl rfl (by decide) (by decide) (fun H locs hP hD hS => ?_)
          obtain ⟨x_16, ex_16, hf⟩ := sf_ne hf
          refine ii_nc (lv' := [(1, .int x_16), (0, .ref h0)]) (k := 0) hx hb dX12_passesOne_74 hl rfl ex_16 (by decide) (by decide) rfl (fun ls hl => ?_)
          refine lv_goto (tgt := 35) hx hb dX12_passesOne_77 (by decide) ?_
          exact ih _ _ _ _ _ (hP.sub [0, 1, 2, 3, 4, 5, 6, 7] rfl) (hD.sub [0, 1, 2, 3, 4, 5, 6, 7] (by decide) rfl) hS (lv_sub hl [0, 1] rfl) hf hk
  refine hL35 _ _ _ _ _ _ _ hP hD hS (lv_sub hl [0, 1] rfl) hf (fun z_17 H locs ls hP hD hS hl hf => ?_)
  refine lv_iconst (v := 0) hx hb dX12_passesOne_80 (by decide) ?_
  refine lv_istore_n (lv' := [(1, .int (0 : Int32)), (0, .ref h0)]) hx hb dX12_passesOne_81 rfl hl (by decide) rfl (fun ls hl => ?_)
  refine lv_iconst (v := 0) hx hb dX12_passesOne_82 (by decide) ?_
  refine lv_istore_n (lv' := [(2, .int (0 : Int32)), (1, .int (0 : Int32)), (0, .ref h0)]) hx hb dX12_passesOne_83 rfl hl (by decide) rfl (fun ls hl => ?_)
  have hL84 : ∀ (n : Nat) (k : Int32 → (Nat → Int32) → Option (Int32 × (Nat → Int32) × Int32)) (v_18 : Int32) (v_19 : Int32) (w_20 : (Nat → Int32)) (H : Heap) (locs : List Loc) (ls : Array Slot), va_P D cls [(h0, .inr (10, [.ref h1, .ref h2, .ref h3, .int mi, .ref h4, .int mn, .int y_7, .ref h5, .int mO, .ref h6, .int mL, .int mA, .int mW, .int mE, .int mF, .ref h7, .int mM])), (h1, .inl (dA 0, 158, .inl w_20)), (h2, .inl (dA 0, 158, .inl mb)), (h3, .inl (dA 0, 158, .inl mv)), (h4, .inl (dA 0, 1264, .inl mp)), (h5, .inl (dA 1, 180, .inl mo)), (h6, .inl (dA 1, 60, .inl mI)), (h7, .inl (dA 0, 240, .inl mc))] H → va_D A [(h0, .inr (10, [.ref h1, .ref h2, .ref h3, .int mi, .ref h4, .int mn, .int y_7, .ref h5, .int mO, .ref h6, .int mL, .int mA, .int mW, .int mE, .int mF, .ref h7, .int mM])), (h1, .inl (dA 0, 158, .inl w_20)), (h2, .inl (dA 0, 158, .inl mb)), (h3, .inl (dA 0, 158, .inl mv)), (h4, .inl (dA 0, 1264, .inl mp)), (h5, .inl (dA 1, 180, .inl mo)), (h6, .inl (dA 1, 60, .inl mI)), (h7, .inl (dA 0, 240, .inl mc))] → va_S A s.heap H locs → lv_has ls 4 [(2, .int v_18), (1, .int v_19), (0, .ref h0)] → f_X12_passesOne_L84  k n v_18 v_19 w_20 = some (rr, q_ms, q_mt) → (∀ (y_27 : Int32) (z_28 : (Nat → Int32)) (H : Heap) (locs : List Loc) (ls : Array Slot), va_P D cls [(h0, .inr (10, [.ref h1, .ref h2, .ref h3, .int mi, .ref h4, .int mn, .int y_7, .ref h5, .int mO, .ref h6, .int mL, .int mA, .int mW, .int mE, .int mF, .ref h7, .int mM])), (h1, .inl (dA 0, 158, .inl z_28)), (h2, .inl (dA 0, 158, .inl mb)), (h3, .inl (dA 0, 158, .inl mv)), (h4, .inl (dA 0, 1264, .inl mp)), (h5, .inl (dA 1, 180, .inl mo)), (h6, .inl (dA 1, 60, .inl mI)), (h7, .inl (dA 0, 240, .inl mc))] H → va_D A [(h0, .inr (10, [.ref h1, .ref h2, .ref h3, .int mi, .ref h4, .int mn, .int y_7, .ref h5, .int mO, .ref h6, .int mL, .int mA, .int mW, .int mE, .int mF, .ref h7, .int mM])), (h1, .inl (dA 0, 158, .inl z_28)), (h2, .inl (dA 0, 158, .inl mb)), (h3, .inl (dA 0, 158, .inl mv)), (h4, .inl (dA 0, 1264, .inl mp)), (h5, .inl (dA 1, 180, .inl mo)), (h6, .inl (dA 1, 60, .inl mI)), (h7, .inl (dA 0, 240, .inl mc))] → va_S A s.heap H locs → lv_has ls 4 [(1, .int y_27)] → k y_27 z_28 = some (rr, q_ms, q_mt) → W p l e ({ frames := 5, cells := 0, slots := 0, locals := 137 } : Room) s m ([.ref h0] : List Value).toArray below meth c H locs 0 0 (MQ below (poMi D rr [(h0, .inr (10, [.ref h1, .ref h2, .ref h3, .int mi, .ref h4, .int mn, .int q_mt, .ref h5, .int mO, .ref h6, .int mL, .int mA, .int mW, .int mE, .int mF, .ref h7, .int mM])), (h1, .inl (dA 0, 158, .inl q_ms)), (h2, .inl (dA 0, 158, .inl mb)), (h3, .inl (dA 0, 158, .inl mv)), (h4, .inl (dA 0, 1264, .inl mp)), (h5, .inl (dA 1, 180, .inl mo)), (h6, .inl (dA 1, 60, .inl mI)), (h7, .inl (dA 0, 240, .inl mc))] A) ([.ref h0] : List Value).toArray s 0 0 A) (F0 m 150 ls [])) → W p l e ({ frames := 5, cells := 0, slots := 0, locals := 137 } : Room) s m ([.ref h0] : List Value).toArray below meth c H locs 0 0 (MQ below (poMi D rr [(h0, .inr (10, [.ref h1, .ref h2, .ref h3, .int mi, .ref h4, .int mn, .int q_mt, .ref h5, .int mO, .ref h6, .int mL, .int mA, .int mW, .int mE, .int mF, .ref h7, .int mM])), (h1, .inl (dA 0, 158, .inl q_ms)), (h2, .inl (dA 0, 158, .inl mb)), (h3, .inl (dA 0, 158, .inl mv)), (h4, .inl (dA 0, 1264, .inl mp)), (h5, .inl (dA 1, 180, .inl mo)), (h6, .inl (dA 1, 60, .inl mI)), (h7, .inl (dA 0, 240, .inl mc))] A) ([.ref h0] : List Value).toArray s 0 0 A) (F0 m 84 ls []) := by
    intro n k
    induction n with
    | zero =>
      intro v_18 v_19 w_20 H locs ls hP hD hS hl hf hk
      rw [f_X12_passesOne_L84] at hf
      cases hf
    | succ n ih =>
      intro v_18 v_19 w_20 H locs ls hP hD hS hl hf hk
      rw [f_X12_passesOne_L84] at hf
      refine lv_iload_n hx hb dX12_passesOne_84 rfl (lv_at hl 0 rfl) ?_
      refine lv_aload_n hx hb dX12_passesOne_85 rfl (lv_at hl 2 rfl) ?_
      refine gt_f (C := RX12) (T := TX12) (N := 17) hx hb ha in_X12 hown hK hP 0 rfl rfl 0 (by decide) m_1649 rfl dX12_passesOne_86 ?_
      refine lv_iconst (v := 2) hx hb dX12_passesOne_89 (by decide) ?_
      obtain ⟨hi, hf⟩ := sf_ge hf
      refine ia_ld hx hb hK hP 1 rfl hi dX12_passesOne_90 ?_
      refine lv_icmp_ge (tgt := 150) hx hb dX12_passesOne_91 (by decide) (fun hc => ?_) (fun hc => ?_)
      · have hf := sf_bp hf hc
        exact hk _ _ _ _ _ (hP.sub [0, 1, 2, 3, 4, 5, 6, 7] rfl) (hD.sub [0, 1, 2, 3, 4, 5, 6, 7] (by decide) rfl) hS (lv_sub hl [1] rfl) hf
      · have hf := sf_bn hf hc
        refine lv_aload_n hx hb dX12_passesOne_94 rfl (lv_at hl 2 rfl) ?_
        refine lv_iload_n hx hb dX12_passesOne_95 rfl (lv_at hl 0 rfl) ?_
        obtain ⟨r_21, hc21, hf⟩ := sf_c1e hf
        refine k_Pi (run_PV (As := [.int v_18]) (rest := []) ⟨hx, hb, hml, hown, ha⟩ (c_X12_endOf l D dA h0 h1 h2 h3 h4 h5 h6 h7  w_20 mb mv mi mp mn y_7 mo mO mI mL mA mW mE mF mc mM v_18 _ hc21) (gi_V m_1777 m_1779 m_44 m_85 m_1780) yd_X12_endOf ⟨Nat.le_of_ble_eq_true rfl, Nat.le_of_ble_eq_true rfl⟩ ⟨rfl, rfl⟩ hK hP [0, 1, 2, 3, 4, 5, 6, 7] rfl 0 10 rfl rfl rfl rfl hl.1 rfl (Nat.le_of_ble_eq_true rfl) dX12_passesOne_96 ⟨Nat.le_of_ble_eq_true rfl, Nat.le_of_ble_eq_true rfl⟩) hP hS (fun H locs hP hS => ?_)
        refine lv_aload_n hx hb dX12_passesOne_99 rfl (lv_at hl 2 rfl) ?_
        refine gt_f (C := RX12) (T := TX12) (N := 17) hx hb ha in_X12 hown hK hP 0 rfl rfl 0 (by decide) m_1649 rfl dX12_passesOne_100 ?_
        refine lv_iconst (v := 3) hx hb dX12_passesOne_103 (by decide) ?_
        obtain ⟨hi, hf⟩ := sf_ge hf
        refine ia_ld hx hb hK hP 1 rfl hi dX12_passesOne_104 ?_
        refine lv_icmp_ne (tgt := 112) hx hb dX12_passesOne_105 (by decide) (fun hc => ?_) (fun hc => ?_)
        · have hf := sf_bn hf hc
          refine lv_iconst (v := 0) hx hb dX12_passesOne_112 (by decide) ?_
          refine lv_istore_n (lv' := [(3, .int (0 : Int32)), (2, .int v_18), (1, .int v_19), (0, .ref h0)]) hx hb dX12_passesOne_113 rfl hl (by decide) rfl (fun ls hl => ?_)
          refine lv_iload_n hx hb dX12_passesOne_114 rfl (lv_at hl 0 rfl) ?_
          refine lv_if_eq (tgt := 123) hx hb dX12_passesOne_115 (by decide) (fun hc => ?_) (fun hc => absurd (by decide) hc)
          refine lv_iload_n hx hb dX12_passesOne_123 rfl (lv_at hl 2 rfl) ?_
          refine lv_iload_n hx hb dX12_passesOne_124 rfl (lv_at hl 0 rfl) ?_
          refine lv_if_eq (tgt := 132) hx hb dX12_passesOne_125 (by decide) (fun hc => ?_) (fun hc => absurd (by decide) hc)
          refine lv_iconst (v := 0) hx hb dX12_passesOne_132 (by decide) ?_
          refine lv_iadd hx hb dX12_passesOne_133 ?_
          obtain ⟨x_22, ex_22, hf⟩ := sf_ne hf
          refine tp_i ex_22 ?_
          refine lv_istore_n (lv' := [(1, .int x_22), (3, .int (0 : Int32)), (2, .int v_18), (0, .ref h0)]) hx hb dX12_passesOne_134 rfl hl (by decide) rfl (fun ls hl => ?_)
          refine lv_iload_n hx hb dX12_passesOne_135 rfl (lv_at hl 2 rfl) ?_
          refine lv_iload_n hx hb dX12_passesOne_136 rfl (lv_at hl 1 rfl) ?_
          refine lv_if_eq (tgt := 144) hx hb dX12_passesOne_137 (by decide) (fun hc => ?_) (fun hc => absurd (by decide) hc)
          refine lv_iconst (v := 1) hx hb dX12_passesOne_144 (by decide) ?_
          refine lv_iadd hx hb dX12_passesOne_145 ?_
          obtain ⟨x_23, ex_23, hf⟩ := sf_ne hf
          refine tp_i ex_23 ?_
          refine lv_istore_n (lv' := [(2, .int x_23), (1, .int x_22), (3, .int (0 : Int32)), (0, .ref h0)]) hx hb dX12_passesOne_146 rfl hl (by decide) rfl (fun ls hl => ?_)
          refine lv_goto (tgt := 84) hx hb dX12_passesOne_147 (by decide) ?_
          exact ih _ _ _ _ _ _ (hP.sub [0, 1, 2, 3, 4, 5, 6, 7] rfl) (hD.sub [0, 1, 2, 3, 4, 5, 6, 7] (by decide) rfl) hS (lv_sub hl [0, 1, 3] rfl) hf hk
        · have hf := sf_bp hf hc
          refine lv_iconst (v := 1) hx hb dX12_passesOne_108 (by decide) ?_
          refine lv_goto (tgt := 113) hx hb dX12_passesOne_109 (by decide) ?_
          refine lv_istore_n (lv' := [(3, .int (1 : Int32)), (2, .int v_18), (1, .int v_19), (0, .ref h0)]) hx hb dX12_passesOne_113 rfl hl (by decide) rfl (fun ls hl => ?_)
          refine lv_iload_n hx hb dX12_passesOne_114 rfl (lv_at hl 0 rfl) ?_
          refine lv_if_eq (tgt := 123) hx hb dX12_passesOne_115 (by decide) (fun hc => absurd hc (by decide)) (fun hc => ?_)
          refine lv_aload_n hx hb dX12_passesOne_118 rfl (lv_at hl 3 rfl) ?_
          refine lv_iload_n hx hb dX12_passesOne_119 rfl (lv_at hl 1 rfl) ?_
          obtain ⟨a_24, hc24, hf⟩ := sf_c1e hf
          refine k_Mv (wr := []) (run_MV (As := [.int v_18]) (rest := []) ⟨hx, hb, hml, hown, ha⟩ (c_X12_finishes l D dA h0 h1 h2 h3 h4 h5 h6 h7 _ w_20 mb mv mi mp mn y_7 mo mO mI mL mA mW mE mF mc mM v_18 _ hc24) (gi_V m_1851 m_1853 m_58 m_85 m_1854) yd_X12_finishes ⟨Nat.le_of_ble_eq_true rfl, Nat.le_of_ble_eq_true rfl⟩ ⟨rfl, rfl⟩ hK hP hD [0, 1, 2, 3, 4, 5, 6, 7] (by decide) rfl 0 10 rfl rfl rfl rfl hl.1 rfl (Nat.le_of_ble_eq_true rfl) dX12_passesOne_120 ⟨Nat.le_of_ble_eq_true rfl, Nat.le_of_ble_eq_true rfl⟩) hP hD hS hA [0, 1, 2, 3, 4, 5, 6, 7] [] rfl rfl (by decide) (by decide) (fun H locs hP hD hS => ?_)
          refine lv_iload_n hx hb dX12_passesOne_123 rfl (lv_at hl 2 rfl) ?_
          refine lv_iload_n hx hb dX12_passesOne_124 rfl (lv_at hl 0 rfl) ?_
          refine lv_if_eq (tgt := 132) hx hb dX12_passesOne_125 (by decide) (fun hc => absurd hc (by decide)) (fun hc => ?_)
          refine lv_iconst (v := 1) hx hb dX12_passesOne_128 (by decide) ?_
          refine lv_goto (tgt := 133) hx hb dX12_passesOne_129 (by decide) ?_
          refine lv_iadd hx hb dX12_passesOne_133 ?_
          obtain ⟨x_25, ex_25, hf⟩ := sf_ne hf
          refine tp_i ex_25 ?_
          refine lv_istore_n (lv' := [(1, .int x_25), (3, .int (1 : Int32)), (2, .int v_18), (0, .ref h0)]) hx hb dX12_passesOne_134 rfl hl (by decide) rfl (fun ls hl => ?_)
          refine lv_iload_n hx hb dX12_passesOne_135 rfl (lv_at hl 2 rfl) ?_
          refine lv_iload_n hx hb dX12_passesOne_136 rfl (lv_at hl 1 rfl) ?_
          refine lv_if_eq (tgt := 144) hx hb dX12_passesOne_137 (by decide) (fun hc => absurd hc (by decide)) (fun hc => ?_)
          refine lv_iconst (v := 0) hx hb dX12_passesOne_140 (by decide) ?_
          refine lv_goto (tgt := 145) hx hb dX12_passesOne_141 (by decide) ?_
          refine lv_iadd hx hb dX12_passesOne_145 ?_
          obtain ⟨x_26, ex_26, hf⟩ := sf_ne hf
          refine tp_i ex_26 ?_
          refine lv_istore_n (lv' := [(2, .int x_26), (1, .int x_25), (3, .int (1 : Int32)), (0, .ref h0)]) hx hb dX12_passesOne_146 rfl hl (by decide) rfl (fun ls hl => ?_)
          refine lv_goto (tgt := 84) hx hb dX12_passesOne_147 (by decide) ?_
          exact ih _ _ _ _ _ _ (hP.sub [0, 1, 2, 3, 4, 5, 6, 7] rfl) (hD.sub [0, 1, 2, 3, 4, 5, 6, 7] (by decide) rfl) hS (lv_sub hl [0, 1, 3] rfl) hf hk
  refine hL84 _ _ _ _ _ _ _ _ hP hD hS (lv_sub hl [0, 1, 2] rfl) hf (fun y_27 z_28 H locs ls hP hD hS hl hf => ?_)
  refine lv_iload_n hx hb dX12_passesOne_150 rfl (lv_at hl 0 rfl) ?_
  cases hf
  exact rt_Mi hx hb hr hlocks (hP.sub [0, 1, 2, 3, 4, 5, 6, 7] rfl) (hD.sub [0, 1, 2, 3, 4, 5, 6, 7] (by decide) rfl) hS dX12_passesOne_151

def f_X12_doPass_L20 (p0 : Int32) (k : Int32 → Int32 → (Nat → Int32) → Option (Int32 × (Nat → Int32) × Int32)) : Nat → Int32 → Int32 → Int32 → (Nat → Int32) → Option (Int32 × (Nat → Int32) × Int32)
  | 0, _, _, _, _ => none
  | n + 1, v_2, v_3, v_4, w_5 => sf_b (p0 ≤ v_2) (k v_3 v_4 w_5) (sf_c3 (f_X12_passesOne w_5 v_4) (fun r_6 a_7 x_8 => sf_n ((v_3 + r_6)) (fun x_9 => sf_n (v_2 + (1 : Int32)) (fun x_10 => f_X12_doPass_L20 p0 k n x_10 x_9 x_8 a_7))))
def f_X12_doPass (ms : Nat → Int32) (mt : Int32) (p0 : Int32) : Option (Int32 × (Nat → Int32) × Int32) :=
  sf_c1 (f_X12_in p0 (1 : Int32) (60 : Int32)) (fun r_1 => sf_b (r_1 = (0 : Int32)) (sf_c2 (f_X12_fails mt (1 : Int32)) (fun r_14 x_15 => some (r_14, ms, x_15))) (f_X12_doPass_L20 p0 (fun y_11 y_12 z_13 => some (y_11, z_13, y_12)) 2000 (0 : Int32) (0 : Int32) mt ms))
theorem yd_X12_doPass : yX12_doPass.cls = RX12 ∧ yX12_doPass.cls ≠ "java/lang/invoke/MethodHandle" ∧ yX12_doPass.cls ≠ "java/lang/invoke/VarHandle" ∧ (parseMethodDescriptor yX12_doPass.desc).map (fun d => d.parameters.length) = some 1 := ⟨rfl, by decide, by decide, by decide +kernel⟩
set_option maxRecDepth 100000 in
set_option maxHeartbeats 4000000 in
theorem c_X12_doPass (l : Launch) (D : va_G) (dA : Nat → ClassId) (h0 h1 h2 h3 h4 h5 h6 h7 : Nat) (sz : Nat) (ms : Nat → Int32) (mb : Nat → Int32) (mv : Nat → Int32) (mi : Int32) (mp : Nat → Int32) (mn : Int32) (mt : Int32) (mo : Nat → Int32) (mO : Int32) (mI : Nat → Int32) (mL : Int32) (mA : Int32) (mW : Int32) (mE : Int32) (mF : Int32) (mc : Nat → Int32) (mM : Int32) (p0 : Int32) (rr : Int32) (q_ms : Nat → Int32) (q_mt : Int32) (hf : f_X12_doPass ms mt p0 = some (rr, q_ms, q_mt)) : Met l yX12_doPass (wo (.code yX12_doPass cX12_doPass 4 (some .int))) ({ frames := 6, cells := 0, slots := 0, locals := 160 } : Room) (preM D dA [.ref h0, .int p0] sz [(h0, .inr (10, [.ref h1, .ref h2, .ref h3, .int mi, .ref h4, .int mn, .int mt, .ref h5, .int mO, .ref h6, .int mL, .int mA, .int mW, .int mE, .int mF, .ref h7, .int mM])), (h1, .inl (dA 0, 158, .inl ms)), (h2, .inl (dA 0, 158, .inl mb)), (h3, .inl (dA 0, 158, .inl mv)), (h4, .inl (dA 0, 1264, .inl mp)), (h5, .inl (dA 1, 180, .inl mo)), (h6, .inl (dA 1, 60, .inl mI)), (h7, .inl (dA 0, 240, .inl mc))]) (poMi D rr [(h0, .inr (10, [.ref h1, .ref h2, .ref h3, .int mi, .ref h4, .int mn, .int q_mt, .ref h5, .int mO, .ref h6, .int mL, .int mA, .int mW, .int mE, .int mF, .ref h7, .int mM])), (h1, .inl (dA 0, 158, .inl q_ms)), (h2, .inl (dA 0, 158, .inl mb)), (h3, .inl (dA 0, 158, .inl mv)), (h4, .inl (dA 0, 1264, .inl mp)), (h5, .inl (dA 1, 180, .inl mo)), (h6, .inl (dA 1, 60, .inl mI)), (h7, .inl (dA 0, 240, .inl mc))] (va_A [(h0, .inr (10, [.ref h1, .ref h2, .ref h3, .int mi, .ref h4, .int mn, .int mt, .ref h5, .int mO, .ref h6, .int mL, .int mA, .int mW, .int mE, .int mF, .ref h7, .int mM])), (h1, .inl (dA 0, 158, .inl ms)), (h2, .inl (dA 0, 158, .inl mb)), (h3, .inl (dA 0, 158, .inl mv)), (h4, .inl (dA 0, 1264, .inl mp)), (h5, .inl (dA 1, 180, .inl mo)), (h6, .inl (dA 1, 60, .inl mI)), (h7, .inl (dA 0, 240, .inl mc))] sz)) 0 0 (va_A [(h0, .inr (10, [.ref h1, .ref h2, .ref h3, .int mi, .ref h4, .int mn, .int mt, .ref h5, .int mO, .ref h6, .int mL, .int mA, .int mW, .int mE, .int mF, .ref h7, .int mM])), (h1, .inl (dA 0, 158, .inl ms)), (h2, .inl (dA 0, 158, .inl mb)), (h3, .inl (dA 0, 158, .inl mv)), (h4, .inl (dA 0, 1264, .inl mp)), (h5, .inl (dA 1, 180, .inl mo)), (h6, .inl (dA 1, 60, .inl mI)), (h7, .inl (dA 0, 240, .inl mc))] sz) := by
  refine of_M (y := yX12_doPass) (av := [.ref h0, .int p0]) (ws := [(h0, .inr (10, [.ref h1, .ref h2, .ref h3, .int mi, .ref h4, .int mn, .int mt, .ref h5, .int mO, .ref h6, .int mL, .int mA, .int mW, .int mE, .int mF, .ref h7, .int mM])), (h1, .inl (dA 0, 158, .inl ms)), (h2, .inl (dA 0, 158, .inl mb)), (h3, .inl (dA 0, 158, .inl mv)), (h4, .inl (dA 0, 1264, .inl mp)), (h5, .inl (dA 1, 180, .inl mo)), (h6, .inl (dA 1, 60, .inl mI)), (h7, .inl (dA 0, 240, .inl mc))]) (sz := sz) (own := RX12) (Qc := poMi D rr [(h0, .inr (10, [.ref h1, .ref h2, .ref h3, .int mi, .ref h4, .int mn, .int q_mt, .ref h5, .int mO, .ref h6, .int mL, .int mA, .int mW, .int mE, .int mF, .ref h7, .int mM])), (h1, .inl (dA 0, 158, .inl q_ms)), (h2, .inl (dA 0, 158, .inl mb)), (h3, .inl (dA 0, 158, .inl mv)), (h4, .inl (dA 0, 1264, .inl mp)), (h5, .inl (dA 1, 180, .inl mo)), (h6, .inl (dA 1, 60, .inl mI)), (h7, .inl (dA 0, 240, .inl mc))]) (by decide) rfl (Nat.le_of_ble_eq_true rfl) ?_
  intro p e s m below meth c A hx hb hr ha hown hml hlocks hin hP hK hD hS hA ls hl
  have hl : lv_has ls 4 [(0, .ref h0), (1, .int p0)] := hl
  rw [f_X12_doPass] at hf
  refine lv_iload_n hx hb dX12_doPass_0 rfl (lv_at hl 1 rfl) ?_
  refine lv_iconst (v := 1) hx hb dX12_doPass_1 (by decide) ?_
  refine lv_bipush (v := 60) hx hb dX12_doPass_2 (by decide) ?_
  obtain ⟨r_1, hc1, hf⟩ := sf_c1e hf
  refine k_Pi (run_PS (As := [.int p0, .int (1 : Int32), .int (60 : Int32)]) (rest := []) ⟨hx, hb, hml, hown, ha⟩ (c_X12_in l D dA    p0 (1 : Int32) (60 : Int32) _ hc1) (gi_S m_1718 m_1719 m_85 m_1720) yd_X12_in ⟨Nat.le_of_ble_eq_true rfl, Nat.le_of_ble_eq_true rfl⟩ ⟨rfl, rfl⟩ hK hP [] rfl rfl hl.1 rfl (Nat.le_of_ble_eq_true rfl) dX12_doPass_4 ⟨Nat.le_of_ble_eq_true rfl, Nat.le_of_ble_eq_true rfl⟩) hP hS (fun H locs hP hS => ?_)
  refine lv_if_ne (tgt := 16) hx hb dX12_doPass_7 (by decide) (fun hc => ?_) (fun hc => ?_)
  · have hf := sf_bn hf hc
    refine lv_iconst (v := 0) hx hb dX12_doPass_16 (by decide) ?_
    refine lv_istore_n (lv' := [(2, .int (0 : Int32)), (0, .ref h0), (1, .int p0)]) hx hb dX12_doPass_17 rfl hl (by decide) rfl (fun ls hl => ?_)
    refine lv_iconst (v := 0) hx hb dX12_doPass_18 (by decide) ?_
    refine lv_istore_n (lv' := [(3, .int (0 : Int32)), (2, .int (0 : Int32)), (0, .ref h0), (1, .int p0)]) hx hb dX12_doPass_19 rfl hl (by decide) rfl (fun ls hl => ?_)
    have hL20 : ∀ (n : Nat) (k : Int32 → Int32 → (Nat → Int32) → Option (Int32 × (Nat → Int32) × Int32)) (v_2 : Int32) (v_3 : Int32) (v_4 : Int32) (w_5 : (Nat → Int32)) (H : Heap) (locs : List Loc) (ls : Array Slot), va_P D cls [(h0, .inr (10, [.ref h1, .ref h2, .ref h3, .int mi, .ref h4, .int mn, .int v_4, .ref h5, .int mO, .ref h6, .int mL, .int mA, .int mW, .int mE, .int mF, .ref h7, .int mM])), (h1, .inl (dA 0, 158, .inl w_5)), (h2, .inl (dA 0, 158, .inl mb)), (h3, .inl (dA 0, 158, .inl mv)), (h4, .inl (dA 0, 1264, .inl mp)), (h5, .inl (dA 1, 180, .inl mo)), (h6, .inl (dA 1, 60, .inl mI)), (h7, .inl (dA 0, 240, .inl mc))] H → va_D A [(h0, .inr (10, [.ref h1, .ref h2, .ref h3, .int mi, .ref h4, .int mn, .int v_4, .ref h5, .int mO, .ref h6, .int mL, .int mA, .int mW, .int mE, .int mF, .ref h7, .int mM])), (h1, .inl (dA 0, 158, .inl w_5)), (h2, .inl (dA 0, 158, .inl mb)), (h3, .inl (dA 0, 158, .inl mv)), (h4, .inl (dA 0, 1264, .inl mp)), (h5, .inl (dA 1, 180, .inl mo)), (h6, .inl (dA 1, 60, .inl mI)), (h7, .inl (dA 0, 240, .inl mc))] → va_S A s.heap H locs → lv_has ls 4 [(3, .int v_2), (2, .int v_3), (0, .ref h0), (1, .int p0)] → f_X12_doPass_L20 p0 k n v_2 v_3 v_4 w_5 = some (rr, q_ms, q_mt) → (∀ (y_11 : Int32) (y_12 : Int32) (z_13 : (Nat → Int32)) (H : Heap) (locs : List Loc) (ls : Array Slot), va_P D cls [(h0, .inr (10, [.ref h1, .ref h2, .ref h3, .int mi, .ref h4, .int mn, .int y_12, .ref h5, .int mO, .ref h6, .int mL, .int mA, .int mW, .int mE, .int mF, .ref h7, .int mM])), (h1, .inl (dA 0, 158, .inl z_13)), (h2, .inl (dA 0, 158, .inl mb)), (h3, .inl (dA 0, 158, .inl mv)), (h4, .inl (dA 0, 1264, .inl mp)), (h5, .inl (dA 1, 180, .inl mo)), (h6, .inl (dA 1, 60, .inl mI)), (h7, .inl (dA 0, 240, .inl mc))] H → va_D A [(h0, .inr (10, [.ref h1, .ref h2, .ref h3, .int mi, .ref h4, .int mn, .int y_12, .ref h5, .int mO, .ref h6, .int mL, .int mA, .int mW, .int mE, .int mF, .ref h7, .int mM])), (h1, .inl (dA 0, 158, .inl z_13)), (h2, .inl (dA 0, 158, .inl mb)), (h3, .inl (dA 0, 158, .inl mv)), (h4, .inl (dA 0, 1264, .inl mp)), (h5, .inl (dA 1, 180, .inl mo)), (h6, .inl (dA 1, 60, .inl mI)), (h7, .inl (dA 0, 240, .inl mc))] → va_S A s.heap H locs → lv_has ls 4 [(2, .int y_11)] → k y_11 y_12 z_13 = some (rr, q_ms, q_mt) → W p l e ({ frames := 6, cells := 0, slots := 0, locals := 160 } : Room) s m ([.ref h0, .int p0] : List Value).toArray below meth c H locs 0 0 (MQ below (poMi D rr [(h0, .inr (10, [.ref h1, .ref h2, .ref h3, .int mi, .ref h4, .int mn, .int q_mt, .ref h5, .int mO, .ref h6, .int mL, .int mA, .int mW, .int mE, .int mF, .ref h7, .int mM])), (h1, .inl (dA 0, 158, .inl q_ms)), (h2, .inl (dA 0, 158, .inl mb)), (h3, .inl (dA 0, 158, .inl mv)), (h4, .inl (dA 0, 1264, .inl mp)), (h5, .inl (dA 1, 180, .inl mo)), (h6, .inl (dA 1, 60, .inl mI)), (h7, .inl (dA 0, 240, .inl mc))] A) ([.ref h0, .int p0] : List Value).toArray s 0 0 A) (F0 m 38 ls [])) → W p l e ({ frames := 6, cells := 0, slots := 0, locals := 160 } : Room) s m ([.ref h0, .int p0] : List Value).toArray below meth c H locs 0 0 (MQ below (poMi D rr [(h0, .inr (10, [.ref h1, .ref h2, .ref h3, .int mi, .ref h4, .int mn, .int q_mt, .ref h5, .int mO, .ref h6, .int mL, .int mA, .int mW, .int mE, .int mF, .ref h7, .int mM])), (h1, .inl (dA 0, 158, .inl q_ms)), (h2, .inl (dA 0, 158, .inl mb)), (h3, .inl (dA 0, 158, .inl mv)), (h4, .inl (dA 0, 1264, .inl mp)), (h5, .inl (dA 1, 180, .inl mo)), (h6, .inl (dA 1, 60, .inl mI)), (h7, .inl (dA 0, 240, .inl mc))] A) ([.ref h0, .int p0] : List Value).toArray s 0 0 A) (F0 m 20 ls []) := by
      intro n k
      induction n with
      | zero =>
        intro v_2 v_3 v_4 w_5 H locs ls hP hD hS hl hf hk
        rw [f_X12_doPass_L20] at hf
        cases hf
      | succ n ih =>
        intro v_2 v_3 v_4 w_5 H locs ls hP hD hS hl hf hk
        rw [f_X12_doPass_L20] at hf
        refine lv_iload_n hx hb dX12_doPass_20 rfl (lv_at hl 0 rfl) ?_
        refine lv_iload_n hx hb dX12_doPass_21 rfl (lv_at hl 3 rfl) ?_
        refine lv_icmp_ge (tgt := 38) hx hb dX12_doPass_22 (by decide) (fun hc => ?_) (fun hc => ?_)
        · have hf := sf_bp hf hc
          exact hk _ _ _ _ _ _ (hP.sub [0, 1, 2, 3, 4, 5, 6, 7] rfl) (hD.sub [0, 1, 2, 3, 4, 5, 6, 7] (by decide) rfl) hS (lv_sub hl [1] rfl) hf
        · have hf := sf_bn hf hc
          refine lv_iload_n hx hb dX12_doPass_25 rfl (lv_at hl 1 rfl) ?_
          refine lv_aload_n hx hb dX12_doPass_26 rfl (lv_at hl 2 rfl) ?_
          obtain ⟨r_6, a_7, x_8, hc8, hf⟩ := sf_c3e hf
          refine k_Mi (wr := []) (run_MV (As := []) (rest := [.int v_3]) ⟨hx, hb, hml, hown, ha⟩ (c_X12_passesOne l D dA h0 h1 h2 h3 h4 h5 h6 h7 _ w_5 mb mv mi mp mn v_4 mo mO mI mL mA mW mE mF mc mM _ _ _ hc8) (gi_V m_1829 m_1831 m_53 m_85 m_1832) yd_X12_passesOne ⟨Nat.le_of_ble_eq_true rfl, Nat.le_of_ble_eq_true rfl⟩ ⟨rfl, rfl⟩ hK hP hD [0, 1, 2, 3, 4, 5, 6, 7] (by decide) rfl 0 10 rfl rfl rfl rfl hl.1 rfl (Nat.le_of_ble_eq_true rfl) dX12_doPass_27 ⟨Nat.le_of_ble_eq_true rfl, Nat.le_of_ble_eq_true rfl⟩) hP hD hS hA [0, 1, 2, 3, 4, 5, 6, 7] [] rfl rfl (by decide) (by decide) (fun H locs hP hD hS => ?_)
          refine lv_iadd hx hb dX12_doPass_30 ?_
          obtain ⟨x_9, ex_9, hf⟩ := sf_ne hf
          refine tp_i ex_9 ?_
          refine lv_istore_n (lv' := [(2, .int x_9), (3, .int v_2), (0, .ref h0), (1, .int p0)]) hx hb dX12_doPass_31 rfl hl (by decide) rfl (fun ls hl => ?_)
          obtain ⟨x_10, ex_10, hf⟩ := sf_ne hf
          refine ii_nc (lv' := [(3, .int x_10), (2, .int x_9), (0, .ref h0), (1, .int p0)]) (k := 1) hx hb dX12_doPass_32 hl rfl ex_10 (by decide) (by decide) rfl (fun ls hl => ?_)
          refine lv_goto (tgt := 20) hx hb dX12_doPass_35 (by decide) ?_
          exact ih _ _ _ _ _ _ _ (hP.sub [0, 1, 2, 3, 4, 5, 6, 7] rfl) (hD.sub [0, 1, 2, 3, 4, 5, 6, 7] (by decide) rfl) hS (lv_sub hl [0, 1, 2, 3] rfl) hf hk
    refine hL20 _ _ _ _ _ _ _ _ _ hP hD hS (lv_sub hl [0, 1, 2, 3] rfl) hf (fun y_11 y_12 z_13 H locs ls hP hD hS hl hf => ?_)
    refine lv_iload_n hx hb dX12_doPass_38 rfl (lv_at hl 0 rfl) ?_
    cases hf
    exact rt_Mi hx hb hr hlocks (hP.sub [0, 1, 2, 3, 4, 5, 6, 7] rfl) (hD.sub [0, 1, 2, 3, 4, 5, 6, 7] (by decide) rfl) hS dX12_doPass_39
  · have hf := sf_bp hf hc
    refine lv_aload_n hx hb dX12_doPass_10 rfl (lv_at hl 0 rfl) ?_
    refine lv_iconst (v := 1) hx hb dX12_doPass_11 (by decide) ?_
    obtain ⟨r_14, x_15, hc15, hf⟩ := sf_c2e hf
    refine k_Mi (wr := []) (run_MV (As := [.int (1 : Int32)]) (rest := []) ⟨hx, hb, hml, hown, ha⟩ (c_X12_fails l D dA h0 h1 h2 h3 h4 h5 h6 h7 _ ms mb mv mi mp mn mt mo mO mI mL mA mW mE mF mc mM (1 : Int32) _ _ hc15) (gi_V m_1721 m_1723 m_32 m_85 m_1724) yd_X12_fails ⟨Nat.le_of_ble_eq_true rfl, Nat.le_of_ble_eq_true rfl⟩ ⟨rfl, rfl⟩ hK hP hD [0, 1, 2, 3, 4, 5, 6, 7] (by decide) rfl 0 10 rfl rfl rfl rfl hl.1 rfl (Nat.le_of_ble_eq_true rfl) dX12_doPass_12 ⟨Nat.le_of_ble_eq_true rfl, Nat.le_of_ble_eq_true rfl⟩) hP hD hS hA [0, 1, 2, 3, 4, 5, 6, 7] [] rfl rfl (by decide) (by decide) (fun H locs hP hD hS => ?_)
    cases hf
    exact rt_Mi hx hb hr hlocks (hP.sub [0, 1, 2, 3, 4, 5, 6, 7] rfl) (hD.sub [0, 1, 2, 3, 4, 5, 6, 7] (by decide) rfl) hS dX12_doPass_15

def f_X12_passMinutes (ms : Nat → Int32) (mb : Nat → Int32) (mp : Nat → Int32) (mn : Int32) (mt : Int32) (p0 : Int32) : Option (Int32 × (Nat → Int32) × (Nat → Int32) × (Nat → Int32) × Int32 × Int32) :=
  sf_c2 (f_X12_keep ms mb mt) (fun a_1 x_2 => sf_c3 (f_X12_doPass ms x_2 p0) (fun r_3 a_4 x_5 => sf_c4 (f_X12_ends a_4 a_1 mp mn x_5 r_3) (fun r_6 a_7 a_8 x_9 => some (r_6, a_7, a_1, a_8, x_9, x_5))))
theorem yd_X12_passMinutes : yX12_passMinutes.cls = RX12 ∧ yX12_passMinutes.cls ≠ "java/lang/invoke/MethodHandle" ∧ yX12_passMinutes.cls ≠ "java/lang/invoke/VarHandle" ∧ (parseMethodDescriptor yX12_passMinutes.desc).map (fun d => d.parameters.length) = some 1 := ⟨rfl, by decide, by decide, by decide +kernel⟩
set_option maxRecDepth 100000 in
set_option maxHeartbeats 4000000 in
theorem c_X12_passMinutes (l : Launch) (D : va_G) (dA : Nat → ClassId) (h0 h1 h2 h3 h4 h5 h6 h7 : Nat) (sz : Nat) (ms : Nat → Int32) (mb : Nat → Int32) (mv : Nat → Int32) (mi : Int32) (mp : Nat → Int32) (mn : Int32) (mt : Int32) (mo : Nat → Int32) (mO : Int32) (mI : Nat → Int32) (mL : Int32) (mA : Int32) (mW : Int32) (mE : Int32) (mF : Int32) (mc : Nat → Int32) (mM : Int32) (p0 : Int32) (rr : Int32) (q_ms : Nat → Int32) (q_mb : Nat → Int32) (q_mp : Nat → Int32) (q_mn : Int32) (q_mt : Int32) (hf : f_X12_passMinutes ms mb mp mn mt p0 = some (rr, q_ms, q_mb, q_mp, q_mn, q_mt)) : Met l yX12_passMinutes (wo (.code yX12_passMinutes cX12_passMinutes 2 (some .int))) ({ frames := 7, cells := 0, slots := 0, locals := 183 } : Room) (preM D dA [.ref h0, .int p0] sz [(h0, .inr (10, [.ref h1, .ref h2, .ref h3, .int mi, .ref h4, .int mn, .int mt, .ref h5, .int mO, .ref h6, .int mL, .int mA, .int mW, .int mE, .int mF, .ref h7, .int mM])), (h1, .inl (dA 0, 158, .inl ms)), (h2, .inl (dA 0, 158, .inl mb)), (h3, .inl (dA 0, 158, .inl mv)), (h4, .inl (dA 0, 1264, .inl mp)), (h5, .inl (dA 1, 180, .inl mo)), (h6, .inl (dA 1, 60, .inl mI)), (h7, .inl (dA 0, 240, .inl mc))]) (poMi D rr [(h0, .inr (10, [.ref h1, .ref h2, .ref h3, .int mi, .ref h4, .int q_mn, .int q_mt, .ref h5, .int mO, .ref h6, .int mL, .int mA, .int mW, .int mE, .int mF, .ref h7, .int mM])), (h1, .inl (dA 0, 158, .inl q_ms)), (h2, .inl (dA 0, 158, .inl q_mb)), (h3, .inl (dA 0, 158, .inl mv)), (h4, .inl (dA 0, 1264, .inl q_mp)), (h5, .inl (dA 1, 180, .inl mo)), (h6, .inl (dA 1, 60, .inl mI)), (h7, .inl (dA 0, 240, .inl mc))] (va_A [(h0, .inr (10, [.ref h1, .ref h2, .ref h3, .int mi, .ref h4, .int mn, .int mt, .ref h5, .int mO, .ref h6, .int mL, .int mA, .int mW, .int mE, .int mF, .ref h7, .int mM])), (h1, .inl (dA 0, 158, .inl ms)), (h2, .inl (dA 0, 158, .inl mb)), (h3, .inl (dA 0, 158, .inl mv)), (h4, .inl (dA 0, 1264, .inl mp)), (h5, .inl (dA 1, 180, .inl mo)), (h6, .inl (dA 1, 60, .inl mI)), (h7, .inl (dA 0, 240, .inl mc))] sz)) 0 0 (va_A [(h0, .inr (10, [.ref h1, .ref h2, .ref h3, .int mi, .ref h4, .int mn, .int mt, .ref h5, .int mO, .ref h6, .int mL, .int mA, .int mW, .int mE, .int mF, .ref h7, .int mM])), (h1, .inl (dA 0, 158, .inl ms)), (h2, .inl (dA 0, 158, .inl mb)), (h3, .inl (dA 0, 158, .inl mv)), (h4, .inl (dA 0, 1264, .inl mp)), (h5, .inl (dA 1, 180, .inl mo)), (h6, .inl (dA 1, 60, .inl mI)), (h7, .inl (dA 0, 240, .inl mc))] sz) := by
  refine of_M (y := yX12_passMinutes) (av := [.ref h0, .int p0]) (ws := [(h0, .inr (10, [.ref h1, .ref h2, .ref h3, .int mi, .ref h4, .int mn, .int mt, .ref h5, .int mO, .ref h6, .int mL, .int mA, .int mW, .int mE, .int mF, .ref h7, .int mM])), (h1, .inl (dA 0, 158, .inl ms)), (h2, .inl (dA 0, 158, .inl mb)), (h3, .inl (dA 0, 158, .inl mv)), (h4, .inl (dA 0, 1264, .inl mp)), (h5, .inl (dA 1, 180, .inl mo)), (h6, .inl (dA 1, 60, .inl mI)), (h7, .inl (dA 0, 240, .inl mc))]) (sz := sz) (own := RX12) (Qc := poMi D rr [(h0, .inr (10, [.ref h1, .ref h2, .ref h3, .int mi, .ref h4, .int q_mn, .int q_mt, .ref h5, .int mO, .ref h6, .int mL, .int mA, .int mW, .int mE, .int mF, .ref h7, .int mM])), (h1, .inl (dA 0, 158, .inl q_ms)), (h2, .inl (dA 0, 158, .inl q_mb)), (h3, .inl (dA 0, 158, .inl mv)), (h4, .inl (dA 0, 1264, .inl q_mp)), (h5, .inl (dA 1, 180, .inl mo)), (h6, .inl (dA 1, 60, .inl mI)), (h7, .inl (dA 0, 240, .inl mc))]) (by decide) rfl (Nat.le_of_ble_eq_true rfl) ?_
  intro p e s m below meth c A hx hb hr ha hown hml hlocks hin hP hK hD hS hA ls hl
  have hl : lv_has ls 2 [(0, .ref h0), (1, .int p0)] := hl
  rw [f_X12_passMinutes] at hf
  refine lv_aload_n hx hb dX12_passMinutes_0 rfl (lv_at hl 0 rfl) ?_
  obtain ⟨a_1, x_2, hc2, hf⟩ := sf_c2e hf
  refine k_Mv (wr := []) (run_MV (As := []) (rest := []) ⟨hx, hb, hml, hown, ha⟩ (c_X12_keep l D dA h0 h1 h2 h3 h4 h5 h6 h7 _ ms mb mv mi mp mn mt mo mO mI mL mA mW mE mF mc mM _ _ hc2) (gi_V m_1709 m_1711 m_30 m_85 m_1712) yd_X12_keep ⟨Nat.le_of_ble_eq_true rfl, Nat.le_of_ble_eq_true rfl⟩ ⟨rfl, rfl⟩ hK hP hD [0, 1, 2, 3, 4, 5, 6, 7] (by decide) rfl 0 10 rfl rfl rfl rfl hl.1 rfl (Nat.le_of_ble_eq_true rfl) dX12_passMinutes_1 ⟨Nat.le_of_ble_eq_true rfl, Nat.le_of_ble_eq_true rfl⟩) hP hD hS hA [0, 1, 2, 3, 4, 5, 6, 7] [] rfl rfl (by decide) (by decide) (fun H locs hP hD hS => ?_)
  refine lv_aload_n hx hb dX12_passMinutes_4 rfl (lv_at hl 0 rfl) ?_
  refine lv_aload_n hx hb dX12_passMinutes_5 rfl (lv_at hl 0 rfl) ?_
  refine lv_iload_n hx hb dX12_passMinutes_6 rfl (lv_at hl 1 rfl) ?_
  obtain ⟨r_3, a_4, x_5, hc5, hf⟩ := sf_c3e hf
  refine k_Mi (wr := []) (run_MV (As := [.int p0]) (rest := [.ref h0]) ⟨hx, hb, hml, hown, ha⟩ (c_X12_doPass l D dA h0 h1 h2 h3 h4 h5 h6 h7 _ ms a_1 mv mi mp mn x_2 mo mO mI mL mA mW mE mF mc mM p0 _ _ _ hc5) (gi_V m_1825 m_1827 m_52 m_85 m_1828) yd_X12_doPass ⟨Nat.le_of_ble_eq_true rfl, Nat.le_of_ble_eq_true rfl⟩ ⟨rfl, rfl⟩ hK hP hD [0, 1, 2, 3, 4, 5, 6, 7] (by decide) rfl 0 10 rfl rfl rfl rfl hl.1 rfl (Nat.le_of_ble_eq_true rfl) dX12_passMinutes_7 ⟨Nat.le_of_ble_eq_true rfl, Nat.le_of_ble_eq_true rfl⟩) hP hD hS hA [0, 1, 2, 3, 4, 5, 6, 7] [] rfl rfl (by decide) (by decide) (fun H locs hP hD hS => ?_)
  obtain ⟨r_6, a_7, a_8, x_9, hc9, hf⟩ := sf_c4e hf
  refine k_Mi (wr := []) (run_MV (As := [.int r_3]) (rest := []) ⟨hx, hb, hml, hown, ha⟩ (c_X12_ends l D dA h0 h1 h2 h3 h4 h5 h6 h7 _ a_4 a_1 mv mi mp mn x_5 mo mO mI mL mA mW mE mF mc mM r_3 _ _ _ _ hc9) (gi_V m_1725 m_1727 m_33 m_85 m_1728) yd_X12_ends ⟨Nat.le_of_ble_eq_true rfl, Nat.le_of_ble_eq_true rfl⟩ ⟨rfl, rfl⟩ hK hP hD [0, 1, 2, 3, 4, 5, 6, 7] (by decide) rfl 0 10 rfl rfl rfl rfl hl.1 rfl (Nat.le_of_ble_eq_true rfl) dX12_passMinutes_10 ⟨Nat.le_of_ble_eq_true rfl, Nat.le_of_ble_eq_true rfl⟩) hP hD hS hA [0, 1, 2, 3, 4, 5, 6, 7] [] rfl rfl (by decide) (by decide) (fun H locs hP hD hS => ?_)
  cases hf
  exact rt_Mi hx hb hr hlocks (hP.sub [0, 1, 2, 3, 4, 5, 6, 7] rfl) (hD.sub [0, 1, 2, 3, 4, 5, 6, 7] (by decide) rfl) hS dX12_passMinutes_13

def f_X12_minute (ms : Nat → Int32) (mt : Int32) : Option (Int32 × Int32) :=
  sf_g (sf_in (3 : Int32) 158 = true) (some ((ms (3 : Int32).toNatClampNeg), (0 : Int32)))
theorem yd_X12_minute : yX12_minute.cls = RX12 ∧ yX12_minute.cls ≠ "java/lang/invoke/MethodHandle" ∧ yX12_minute.cls ≠ "java/lang/invoke/VarHandle" ∧ (parseMethodDescriptor yX12_minute.desc).map (fun d => d.parameters.length) = some 0 := ⟨rfl, by decide, by decide, by decide +kernel⟩
set_option maxRecDepth 100000 in
set_option maxHeartbeats 4000000 in
theorem c_X12_minute (l : Launch) (D : va_G) (dA : Nat → ClassId) (h0 h1 h2 h3 h4 h5 h6 h7 : Nat) (sz : Nat) (ms : Nat → Int32) (mb : Nat → Int32) (mv : Nat → Int32) (mi : Int32) (mp : Nat → Int32) (mn : Int32) (mt : Int32) (mo : Nat → Int32) (mO : Int32) (mI : Nat → Int32) (mL : Int32) (mA : Int32) (mW : Int32) (mE : Int32) (mF : Int32) (mc : Nat → Int32) (mM : Int32) (rr : Int32) (q_mt : Int32) (hf : f_X12_minute ms mt = some (rr, q_mt)) : Met l yX12_minute (wo (.code yX12_minute cX12_minute 1 (some .int))) ({ frames := 0, cells := 0, slots := 0, locals := 0 } : Room) (preM D dA [.ref h0] sz [(h0, .inr (10, [.ref h1, .ref h2, .ref h3, .int mi, .ref h4, .int mn, .int mt, .ref h5, .int mO, .ref h6, .int mL, .int mA, .int mW, .int mE, .int mF, .ref h7, .int mM])), (h1, .inl (dA 0, 158, .inl ms)), (h2, .inl (dA 0, 158, .inl mb)), (h3, .inl (dA 0, 158, .inl mv)), (h4, .inl (dA 0, 1264, .inl mp)), (h5, .inl (dA 1, 180, .inl mo)), (h6, .inl (dA 1, 60, .inl mI)), (h7, .inl (dA 0, 240, .inl mc))]) (poMi D rr [(h0, .inr (10, [.ref h1, .ref h2, .ref h3, .int mi, .ref h4, .int mn, .int q_mt, .ref h5, .int mO, .ref h6, .int mL, .int mA, .int mW, .int mE, .int mF, .ref h7, .int mM])), (h1, .inl (dA 0, 158, .inl ms)), (h2, .inl (dA 0, 158, .inl mb)), (h3, .inl (dA 0, 158, .inl mv)), (h4, .inl (dA 0, 1264, .inl mp)), (h5, .inl (dA 1, 180, .inl mo)), (h6, .inl (dA 1, 60, .inl mI)), (h7, .inl (dA 0, 240, .inl mc))] (va_A [(h0, .inr (10, [.ref h1, .ref h2, .ref h3, .int mi, .ref h4, .int mn, .int mt, .ref h5, .int mO, .ref h6, .int mL, .int mA, .int mW, .int mE, .int mF, .ref h7, .int mM])), (h1, .inl (dA 0, 158, .inl ms)), (h2, .inl (dA 0, 158, .inl mb)), (h3, .inl (dA 0, 158, .inl mv)), (h4, .inl (dA 0, 1264, .inl mp)), (h5, .inl (dA 1, 180, .inl mo)), (h6, .inl (dA 1, 60, .inl mI)), (h7, .inl (dA 0, 240, .inl mc))] sz)) 0 0 (va_A [(h0, .inr (10, [.ref h1, .ref h2, .ref h3, .int mi, .ref h4, .int mn, .int mt, .ref h5, .int mO, .ref h6, .int mL, .int mA, .int mW, .int mE, .int mF, .ref h7, .int mM])), (h1, .inl (dA 0, 158, .inl ms)), (h2, .inl (dA 0, 158, .inl mb)), (h3, .inl (dA 0, 158, .inl mv)), (h4, .inl (dA 0, 1264, .inl mp)), (h5, .inl (dA 1, 180, .inl mo)), (h6, .inl (dA 1, 60, .inl mI)), (h7, .inl (dA 0, 240, .inl mc))] sz) := by
  refine of_M (y := yX12_minute) (av := [.ref h0]) (ws := [(h0, .inr (10, [.ref h1, .ref h2, .ref h3, .int mi, .ref h4, .int mn, .int mt, .ref h5, .int mO, .ref h6, .int mL, .int mA, .int mW, .int mE, .int mF, .ref h7, .int mM])), (h1, .inl (dA 0, 158, .inl ms)), (h2, .inl (dA 0, 158, .inl mb)), (h3, .inl (dA 0, 158, .inl mv)), (h4, .inl (dA 0, 1264, .inl mp)), (h5, .inl (dA 1, 180, .inl mo)), (h6, .inl (dA 1, 60, .inl mI)), (h7, .inl (dA 0, 240, .inl mc))]) (sz := sz) (own := RX12) (Qc := poMi D rr [(h0, .inr (10, [.ref h1, .ref h2, .ref h3, .int mi, .ref h4, .int mn, .int q_mt, .ref h5, .int mO, .ref h6, .int mL, .int mA, .int mW, .int mE, .int mF, .ref h7, .int mM])), (h1, .inl (dA 0, 158, .inl ms)), (h2, .inl (dA 0, 158, .inl mb)), (h3, .inl (dA 0, 158, .inl mv)), (h4, .inl (dA 0, 1264, .inl mp)), (h5, .inl (dA 1, 180, .inl mo)), (h6, .inl (dA 1, 60, .inl mI)), (h7, .inl (dA 0, 240, .inl mc))]) (by decide) rfl (Nat.le_of_ble_eq_true rfl) ?_
  intro p e s m below meth c A hx hb hr ha hown hml hlocks hin hP hK hD hS hA ls hl
  have hl : lv_has ls 1 [(0, .ref h0)] := hl
  rw [f_X12_minute] at hf
  refine lv_aload_n hx hb dX12_minute_0 rfl (lv_at hl 0 rfl) ?_
  refine lv_iconst (v := 0) hx hb dX12_minute_1 (by decide) ?_
  refine pt_f (C := RX12) (T := TX12) (N := 17) (ws' := [(h0, .inr (10, [.ref h1, .ref h2, .ref h3, .int mi, .ref h4, .int mn, .int (0 : Int32), .ref h5, .int mO, .ref h6, .int mL, .int mA, .int mW, .int mE, .int mF, .ref h7, .int mM])), (h1, .inl (dA 0, 158, .inl ms)), (h2, .inl (dA 0, 158, .inl mb)), (h3, .inl (dA 0, 158, .inl mv)), (h4, .inl (dA 0, 1264, .inl mp)), (h5, .inl (dA 1, 180, .inl mo)), (h6, .inl (dA 1, 60, .inl mI)), (h7, .inl (dA 0, 240, .inl mc))]) (ty := .int) hx hb ha in_X12 tyX12 tyX12_ok nmX12 hown hK hP hD hS 0 rfl rfl 6 (by decide) m_1655 rfl (tyX12_ok 6 (by decide)) rfl rfl (Nat.le_of_ble_eq_true rfl) rfl dX12_minute_2 (fun H locs hP hD hS => ?_)
  refine lv_aload_n hx hb dX12_minute_5 rfl (lv_at hl 0 rfl) ?_
  refine gt_f (C := RX12) (T := TX12) (N := 17) hx hb ha in_X12 hown hK hP 0 rfl rfl 0 (by decide) m_1649 rfl dX12_minute_6 ?_
  refine lv_iconst (v := 3) hx hb dX12_minute_9 (by decide) ?_
  obtain ⟨hi, hf⟩ := sf_ge hf
  refine ia_ld hx hb hK hP 1 rfl hi dX12_minute_10 ?_
  cases hf
  exact rt_Mi hx hb hr hlocks (hP.sub [0, 1, 2, 3, 4, 5, 6, 7] rfl) (hD.sub [0, 1, 2, 3, 4, 5, 6, 7] (by decide) rfl) hS dX12_minute_11

def f_X12_slideCount (ms : Nat → Int32) (mt : Int32) : Option (Int32 × Int32) :=
  sf_g (sf_in (0 : Int32) 158 = true) (some ((ms (0 : Int32).toNatClampNeg), (0 : Int32)))
theorem yd_X12_slideCount : yX12_slideCount.cls = RX12 ∧ yX12_slideCount.cls ≠ "java/lang/invoke/MethodHandle" ∧ yX12_slideCount.cls ≠ "java/lang/invoke/VarHandle" ∧ (parseMethodDescriptor yX12_slideCount.desc).map (fun d => d.parameters.length) = some 0 := ⟨rfl, by decide, by decide, by decide +kernel⟩
set_option maxRecDepth 100000 in
set_option maxHeartbeats 4000000 in
theorem c_X12_slideCount (l : Launch) (D : va_G) (dA : Nat → ClassId) (h0 h1 h2 h3 h4 h5 h6 h7 : Nat) (sz : Nat) (ms : Nat → Int32) (mb : Nat → Int32) (mv : Nat → Int32) (mi : Int32) (mp : Nat → Int32) (mn : Int32) (mt : Int32) (mo : Nat → Int32) (mO : Int32) (mI : Nat → Int32) (mL : Int32) (mA : Int32) (mW : Int32) (mE : Int32) (mF : Int32) (mc : Nat → Int32) (mM : Int32) (rr : Int32) (q_mt : Int32) (hf : f_X12_slideCount ms mt = some (rr, q_mt)) : Met l yX12_slideCount (wo (.code yX12_slideCount cX12_slideCount 1 (some .int))) ({ frames := 0, cells := 0, slots := 0, locals := 0 } : Room) (preM D dA [.ref h0] sz [(h0, .inr (10, [.ref h1, .ref h2, .ref h3, .int mi, .ref h4, .int mn, .int mt, .ref h5, .int mO, .ref h6, .int mL, .int mA, .int mW, .int mE, .int mF, .ref h7, .int mM])), (h1, .inl (dA 0, 158, .inl ms)), (h2, .inl (dA 0, 158, .inl mb)), (h3, .inl (dA 0, 158, .inl mv)), (h4, .inl (dA 0, 1264, .inl mp)), (h5, .inl (dA 1, 180, .inl mo)), (h6, .inl (dA 1, 60, .inl mI)), (h7, .inl (dA 0, 240, .inl mc))]) (poMi D rr [(h0, .inr (10, [.ref h1, .ref h2, .ref h3, .int mi, .ref h4, .int mn, .int q_mt, .ref h5, .int mO, .ref h6, .int mL, .int mA, .int mW, .int mE, .int mF, .ref h7, .int mM])), (h1, .inl (dA 0, 158, .inl ms)), (h2, .inl (dA 0, 158, .inl mb)), (h3, .inl (dA 0, 158, .inl mv)), (h4, .inl (dA 0, 1264, .inl mp)), (h5, .inl (dA 1, 180, .inl mo)), (h6, .inl (dA 1, 60, .inl mI)), (h7, .inl (dA 0, 240, .inl mc))] (va_A [(h0, .inr (10, [.ref h1, .ref h2, .ref h3, .int mi, .ref h4, .int mn, .int mt, .ref h5, .int mO, .ref h6, .int mL, .int mA, .int mW, .int mE, .int mF, .ref h7, .int mM])), (h1, .inl (dA 0, 158, .inl ms)), (h2, .inl (dA 0, 158, .inl mb)), (h3, .inl (dA 0, 158, .inl mv)), (h4, .inl (dA 0, 1264, .inl mp)), (h5, .inl (dA 1, 180, .inl mo)), (h6, .inl (dA 1, 60, .inl mI)), (h7, .inl (dA 0, 240, .inl mc))] sz)) 0 0 (va_A [(h0, .inr (10, [.ref h1, .ref h2, .ref h3, .int mi, .ref h4, .int mn, .int mt, .ref h5, .int mO, .ref h6, .int mL, .int mA, .int mW, .int mE, .int mF, .ref h7, .int mM])), (h1, .inl (dA 0, 158, .inl ms)), (h2, .inl (dA 0, 158, .inl mb)), (h3, .inl (dA 0, 158, .inl mv)), (h4, .inl (dA 0, 1264, .inl mp)), (h5, .inl (dA 1, 180, .inl mo)), (h6, .inl (dA 1, 60, .inl mI)), (h7, .inl (dA 0, 240, .inl mc))] sz) := by
  refine of_M (y := yX12_slideCount) (av := [.ref h0]) (ws := [(h0, .inr (10, [.ref h1, .ref h2, .ref h3, .int mi, .ref h4, .int mn, .int mt, .ref h5, .int mO, .ref h6, .int mL, .int mA, .int mW, .int mE, .int mF, .ref h7, .int mM])), (h1, .inl (dA 0, 158, .inl ms)), (h2, .inl (dA 0, 158, .inl mb)), (h3, .inl (dA 0, 158, .inl mv)), (h4, .inl (dA 0, 1264, .inl mp)), (h5, .inl (dA 1, 180, .inl mo)), (h6, .inl (dA 1, 60, .inl mI)), (h7, .inl (dA 0, 240, .inl mc))]) (sz := sz) (own := RX12) (Qc := poMi D rr [(h0, .inr (10, [.ref h1, .ref h2, .ref h3, .int mi, .ref h4, .int mn, .int q_mt, .ref h5, .int mO, .ref h6, .int mL, .int mA, .int mW, .int mE, .int mF, .ref h7, .int mM])), (h1, .inl (dA 0, 158, .inl ms)), (h2, .inl (dA 0, 158, .inl mb)), (h3, .inl (dA 0, 158, .inl mv)), (h4, .inl (dA 0, 1264, .inl mp)), (h5, .inl (dA 1, 180, .inl mo)), (h6, .inl (dA 1, 60, .inl mI)), (h7, .inl (dA 0, 240, .inl mc))]) (by decide) rfl (Nat.le_of_ble_eq_true rfl) ?_
  intro p e s m below meth c A hx hb hr ha hown hml hlocks hin hP hK hD hS hA ls hl
  have hl : lv_has ls 1 [(0, .ref h0)] := hl
  rw [f_X12_slideCount] at hf
  refine lv_aload_n hx hb dX12_slideCount_0 rfl (lv_at hl 0 rfl) ?_
  refine lv_iconst (v := 0) hx hb dX12_slideCount_1 (by decide) ?_
  refine pt_f (C := RX12) (T := TX12) (N := 17) (ws' := [(h0, .inr (10, [.ref h1, .ref h2, .ref h3, .int mi, .ref h4, .int mn, .int (0 : Int32), .ref h5, .int mO, .ref h6, .int mL, .int mA, .int mW, .int mE, .int mF, .ref h7, .int mM])), (h1, .inl (dA 0, 158, .inl ms)), (h2, .inl (dA 0, 158, .inl mb)), (h3, .inl (dA 0, 158, .inl mv)), (h4, .inl (dA 0, 1264, .inl mp)), (h5, .inl (dA 1, 180, .inl mo)), (h6, .inl (dA 1, 60, .inl mI)), (h7, .inl (dA 0, 240, .inl mc))]) (ty := .int) hx hb ha in_X12 tyX12 tyX12_ok nmX12 hown hK hP hD hS 0 rfl rfl 6 (by decide) m_1655 rfl (tyX12_ok 6 (by decide)) rfl rfl (Nat.le_of_ble_eq_true rfl) rfl dX12_slideCount_2 (fun H locs hP hD hS => ?_)
  refine lv_aload_n hx hb dX12_slideCount_5 rfl (lv_at hl 0 rfl) ?_
  refine gt_f (C := RX12) (T := TX12) (N := 17) hx hb ha in_X12 hown hK hP 0 rfl rfl 0 (by decide) m_1649 rfl dX12_slideCount_6 ?_
  refine lv_iconst (v := 0) hx hb dX12_slideCount_9 (by decide) ?_
  obtain ⟨hi, hf⟩ := sf_ge hf
  refine ia_ld hx hb hK hP 1 rfl hi dX12_slideCount_10 ?_
  cases hf
  exact rt_Mi hx hb hr hlocks (hP.sub [0, 1, 2, 3, 4, 5, 6, 7] rfl) (hD.sub [0, 1, 2, 3, 4, 5, 6, 7] (by decide) rfl) hS dX12_slideCount_11

def f_X12_duration (ms : Nat → Int32) (mt : Int32) (p0 : Int32) : Option (Int32 × Int32) :=
  sf_c1 (f_X12_isSlide ms p0) (fun r_1 => sf_c2 (f_X12_isThere mt r_1) (fun r_2 x_3 => sf_b (r_2 = (0 : Int32)) (some ((0 : Int32), x_3)) (sf_c1 (f_X12_slide ms p0 (0 : Int32)) (fun r_4 => some (r_4, x_3)))))
theorem yd_X12_duration : yX12_duration.cls = RX12 ∧ yX12_duration.cls ≠ "java/lang/invoke/MethodHandle" ∧ yX12_duration.cls ≠ "java/lang/invoke/VarHandle" ∧ (parseMethodDescriptor yX12_duration.desc).map (fun d => d.parameters.length) = some 1 := ⟨rfl, by decide, by decide, by decide +kernel⟩
set_option maxRecDepth 100000 in
set_option maxHeartbeats 4000000 in
theorem c_X12_duration (l : Launch) (D : va_G) (dA : Nat → ClassId) (h0 h1 h2 h3 h4 h5 h6 h7 : Nat) (sz : Nat) (ms : Nat → Int32) (mb : Nat → Int32) (mv : Nat → Int32) (mi : Int32) (mp : Nat → Int32) (mn : Int32) (mt : Int32) (mo : Nat → Int32) (mO : Int32) (mI : Nat → Int32) (mL : Int32) (mA : Int32) (mW : Int32) (mE : Int32) (mF : Int32) (mc : Nat → Int32) (mM : Int32) (p0 : Int32) (rr : Int32) (q_mt : Int32) (hf : f_X12_duration ms mt p0 = some (rr, q_mt)) : Met l yX12_duration (wo (.code yX12_duration cX12_duration 2 (some .int))) ({ frames := 2, cells := 0, slots := 0, locals := 43 } : Room) (preM D dA [.ref h0, .int p0] sz [(h0, .inr (10, [.ref h1, .ref h2, .ref h3, .int mi, .ref h4, .int mn, .int mt, .ref h5, .int mO, .ref h6, .int mL, .int mA, .int mW, .int mE, .int mF, .ref h7, .int mM])), (h1, .inl (dA 0, 158, .inl ms)), (h2, .inl (dA 0, 158, .inl mb)), (h3, .inl (dA 0, 158, .inl mv)), (h4, .inl (dA 0, 1264, .inl mp)), (h5, .inl (dA 1, 180, .inl mo)), (h6, .inl (dA 1, 60, .inl mI)), (h7, .inl (dA 0, 240, .inl mc))]) (poMi D rr [(h0, .inr (10, [.ref h1, .ref h2, .ref h3, .int mi, .ref h4, .int mn, .int q_mt, .ref h5, .int mO, .ref h6, .int mL, .int mA, .int mW, .int mE, .int mF, .ref h7, .int mM])), (h1, .inl (dA 0, 158, .inl ms)), (h2, .inl (dA 0, 158, .inl mb)), (h3, .inl (dA 0, 158, .inl mv)), (h4, .inl (dA 0, 1264, .inl mp)), (h5, .inl (dA 1, 180, .inl mo)), (h6, .inl (dA 1, 60, .inl mI)), (h7, .inl (dA 0, 240, .inl mc))] (va_A [(h0, .inr (10, [.ref h1, .ref h2, .ref h3, .int mi, .ref h4, .int mn, .int mt, .ref h5, .int mO, .ref h6, .int mL, .int mA, .int mW, .int mE, .int mF, .ref h7, .int mM])), (h1, .inl (dA 0, 158, .inl ms)), (h2, .inl (dA 0, 158, .inl mb)), (h3, .inl (dA 0, 158, .inl mv)), (h4, .inl (dA 0, 1264, .inl mp)), (h5, .inl (dA 1, 180, .inl mo)), (h6, .inl (dA 1, 60, .inl mI)), (h7, .inl (dA 0, 240, .inl mc))] sz)) 0 0 (va_A [(h0, .inr (10, [.ref h1, .ref h2, .ref h3, .int mi, .ref h4, .int mn, .int mt, .ref h5, .int mO, .ref h6, .int mL, .int mA, .int mW, .int mE, .int mF, .ref h7, .int mM])), (h1, .inl (dA 0, 158, .inl ms)), (h2, .inl (dA 0, 158, .inl mb)), (h3, .inl (dA 0, 158, .inl mv)), (h4, .inl (dA 0, 1264, .inl mp)), (h5, .inl (dA 1, 180, .inl mo)), (h6, .inl (dA 1, 60, .inl mI)), (h7, .inl (dA 0, 240, .inl mc))] sz) := by
  refine of_M (y := yX12_duration) (av := [.ref h0, .int p0]) (ws := [(h0, .inr (10, [.ref h1, .ref h2, .ref h3, .int mi, .ref h4, .int mn, .int mt, .ref h5, .int mO, .ref h6, .int mL, .int mA, .int mW, .int mE, .int mF, .ref h7, .int mM])), (h1, .inl (dA 0, 158, .inl ms)), (h2, .inl (dA 0, 158, .inl mb)), (h3, .inl (dA 0, 158, .inl mv)), (h4, .inl (dA 0, 1264, .inl mp)), (h5, .inl (dA 1, 180, .inl mo)), (h6, .inl (dA 1, 60, .inl mI)), (h7, .inl (dA 0, 240, .inl mc))]) (sz := sz) (own := RX12) (Qc := poMi D rr [(h0, .inr (10, [.ref h1, .ref h2, .ref h3, .int mi, .ref h4, .int mn, .int q_mt, .ref h5, .int mO, .ref h6, .int mL, .int mA, .int mW, .int mE, .int mF, .ref h7, .int mM])), (h1, .inl (dA 0, 158, .inl ms)), (h2, .inl (dA 0, 158, .inl mb)), (h3, .inl (dA 0, 158, .inl mv)), (h4, .inl (dA 0, 1264, .inl mp)), (h5, .inl (dA 1, 180, .inl mo)), (h6, .inl (dA 1, 60, .inl mI)), (h7, .inl (dA 0, 240, .inl mc))]) (by decide) rfl (Nat.le_of_ble_eq_true rfl) ?_
  intro p e s m below meth c A hx hb hr ha hown hml hlocks hin hP hK hD hS hA ls hl
  have hl : lv_has ls 2 [(0, .ref h0), (1, .int p0)] := hl
  rw [f_X12_duration] at hf
  refine lv_aload_n hx hb dX12_duration_0 rfl (lv_at hl 0 rfl) ?_
  refine lv_aload_n hx hb dX12_duration_1 rfl (lv_at hl 0 rfl) ?_
  refine lv_iload_n hx hb dX12_duration_2 rfl (lv_at hl 1 rfl) ?_
  obtain ⟨r_1, hc1, hf⟩ := sf_c1e hf
  refine k_Pi (run_PV (As := [.int p0]) (rest := [.ref h0]) ⟨hx, hb, hml, hown, ha⟩ (c_X12_isSlide l D dA h0 h1 h2 h3 h4 h5 h6 h7  ms mb mv mi mp mn mt mo mO mI mL mA mW mE mF mc mM p0 _ hc1) (gi_V m_1749 m_1751 m_37 m_85 m_1752) yd_X12_isSlide ⟨Nat.le_of_ble_eq_true rfl, Nat.le_of_ble_eq_true rfl⟩ ⟨rfl, rfl⟩ hK hP [0, 1, 2, 3, 4, 5, 6, 7] rfl 0 10 rfl rfl rfl rfl hl.1 rfl (Nat.le_of_ble_eq_true rfl) dX12_duration_3 ⟨Nat.le_of_ble_eq_true rfl, Nat.le_of_ble_eq_true rfl⟩) hP hS (fun H locs hP hS => ?_)
  obtain ⟨r_2, x_3, hc3, hf⟩ := sf_c2e hf
  refine k_Mi (wr := []) (run_MV (As := [.int r_1]) (rest := []) ⟨hx, hb, hml, hown, ha⟩ (c_X12_isThere l D dA h0 h1 h2 h3 h4 h5 h6 h7 _ ms mb mv mi mp mn mt mo mO mI mL mA mW mE mF mc mM r_1 _ _ hc3) (gi_V m_1867 m_1869 m_59 m_85 m_1870) yd_X12_isThere ⟨Nat.le_of_ble_eq_true rfl, Nat.le_of_ble_eq_true rfl⟩ ⟨rfl, rfl⟩ hK hP hD [0, 1, 2, 3, 4, 5, 6, 7] (by decide) rfl 0 10 rfl rfl rfl rfl hl.1 rfl (Nat.le_of_ble_eq_true rfl) dX12_duration_6 ⟨Nat.le_of_ble_eq_true rfl, Nat.le_of_ble_eq_true rfl⟩) hP hD hS hA [0, 1, 2, 3, 4, 5, 6, 7] [] rfl rfl (by decide) (by decide) (fun H locs hP hD hS => ?_)
  refine lv_if_eq (tgt := 21) hx hb dX12_duration_9 (by decide) (fun hc => ?_) (fun hc => ?_)
  · have hf := sf_bp hf hc
    refine lv_iconst (v := 0) hx hb dX12_duration_21 (by decide) ?_
    cases hf
    exact rt_Mi hx hb hr hlocks (hP.sub [0, 1, 2, 3, 4, 5, 6, 7] rfl) (hD.sub [0, 1, 2, 3, 4, 5, 6, 7] (by decide) rfl) hS dX12_duration_22
  · have hf := sf_bn hf hc
    refine lv_aload_n hx hb dX12_duration_12 rfl (lv_at hl 0 rfl) ?_
    refine lv_iload_n hx hb dX12_duration_13 rfl (lv_at hl 1 rfl) ?_
    refine lv_iconst (v := 0) hx hb dX12_duration_14 (by decide) ?_
    obtain ⟨r_4, hc4, hf⟩ := sf_c1e hf
    refine k_Pi (run_PV (As := [.int p0, .int (0 : Int32)]) (rest := []) ⟨hx, hb, hml, hown, ha⟩ (c_X12_slide l D dA h0 h1 h2 h3 h4 h5 h6 h7  ms mb mv mi mp mn x_3 mo mO mI mL mA mW mE mF mc mM p0 (0 : Int32) _ hc4) (gi_V m_1761 m_1763 m_40 m_85 m_1764) yd_X12_slide ⟨Nat.le_of_ble_eq_true rfl, Nat.le_of_ble_eq_true rfl⟩ ⟨rfl, rfl⟩ hK hP [0, 1, 2, 3, 4, 5, 6, 7] rfl 0 10 rfl rfl rfl rfl hl.1 rfl (Nat.le_of_ble_eq_true rfl) dX12_duration_15 ⟨Nat.le_of_ble_eq_true rfl, Nat.le_of_ble_eq_true rfl⟩) hP hS (fun H locs hP hS => ?_)
    refine lv_goto (tgt := 22) hx hb dX12_duration_18 (by decide) ?_
    cases hf
    exact rt_Mi hx hb hr hlocks (hP.sub [0, 1, 2, 3, 4, 5, 6, 7] rfl) (hD.sub [0, 1, 2, 3, 4, 5, 6, 7] (by decide) rfl) hS dX12_duration_22

def f_X12_price (ms : Nat → Int32) (mt : Int32) (p0 : Int32) : Option (Int32 × Int32) :=
  sf_c1 (f_X12_isSlide ms p0) (fun r_1 => sf_c2 (f_X12_isThere mt r_1) (fun r_2 x_3 => sf_b (r_2 = (0 : Int32)) (some ((0 : Int32), x_3)) (sf_c1 (f_X12_slide ms p0 (1 : Int32)) (fun r_4 => some (r_4, x_3)))))
theorem yd_X12_price : yX12_price.cls = RX12 ∧ yX12_price.cls ≠ "java/lang/invoke/MethodHandle" ∧ yX12_price.cls ≠ "java/lang/invoke/VarHandle" ∧ (parseMethodDescriptor yX12_price.desc).map (fun d => d.parameters.length) = some 1 := ⟨rfl, by decide, by decide, by decide +kernel⟩
set_option maxRecDepth 100000 in
set_option maxHeartbeats 4000000 in
theorem c_X12_price (l : Launch) (D : va_G) (dA : Nat → ClassId) (h0 h1 h2 h3 h4 h5 h6 h7 : Nat) (sz : Nat) (ms : Nat → Int32) (mb : Nat → Int32) (mv : Nat → Int32) (mi : Int32) (mp : Nat → Int32) (mn : Int32) (mt : Int32) (mo : Nat → Int32) (mO : Int32) (mI : Nat → Int32) (mL : Int32) (mA : Int32) (mW : Int32) (mE : Int32) (mF : Int32) (mc : Nat → Int32) (mM : Int32) (p0 : Int32) (rr : Int32) (q_mt : Int32) (hf : f_X12_price ms mt p0 = some (rr, q_mt)) : Met l yX12_price (wo (.code yX12_price cX12_price 2 (some .int))) ({ frames := 2, cells := 0, slots := 0, locals := 43 } : Room) (preM D dA [.ref h0, .int p0] sz [(h0, .inr (10, [.ref h1, .ref h2, .ref h3, .int mi, .ref h4, .int mn, .int mt, .ref h5, .int mO, .ref h6, .int mL, .int mA, .int mW, .int mE, .int mF, .ref h7, .int mM])), (h1, .inl (dA 0, 158, .inl ms)), (h2, .inl (dA 0, 158, .inl mb)), (h3, .inl (dA 0, 158, .inl mv)), (h4, .inl (dA 0, 1264, .inl mp)), (h5, .inl (dA 1, 180, .inl mo)), (h6, .inl (dA 1, 60, .inl mI)), (h7, .inl (dA 0, 240, .inl mc))]) (poMi D rr [(h0, .inr (10, [.ref h1, .ref h2, .ref h3, .int mi, .ref h4, .int mn, .int q_mt, .ref h5, .int mO, .ref h6, .int mL, .int mA, .int mW, .int mE, .int mF, .ref h7, .int mM])), (h1, .inl (dA 0, 158, .inl ms)), (h2, .inl (dA 0, 158, .inl mb)), (h3, .inl (dA 0, 158, .inl mv)), (h4, .inl (dA 0, 1264, .inl mp)), (h5, .inl (dA 1, 180, .inl mo)), (h6, .inl (dA 1, 60, .inl mI)), (h7, .inl (dA 0, 240, .inl mc))] (va_A [(h0, .inr (10, [.ref h1, .ref h2, .ref h3, .int mi, .ref h4, .int mn, .int mt, .ref h5, .int mO, .ref h6, .int mL, .int mA, .int mW, .int mE, .int mF, .ref h7, .int mM])), (h1, .inl (dA 0, 158, .inl ms)), (h2, .inl (dA 0, 158, .inl mb)), (h3, .inl (dA 0, 158, .inl mv)), (h4, .inl (dA 0, 1264, .inl mp)), (h5, .inl (dA 1, 180, .inl mo)), (h6, .inl (dA 1, 60, .inl mI)), (h7, .inl (dA 0, 240, .inl mc))] sz)) 0 0 (va_A [(h0, .inr (10, [.ref h1, .ref h2, .ref h3, .int mi, .ref h4, .int mn, .int mt, .ref h5, .int mO, .ref h6, .int mL, .int mA, .int mW, .int mE, .int mF, .ref h7, .int mM])), (h1, .inl (dA 0, 158, .inl ms)), (h2, .inl (dA 0, 158, .inl mb)), (h3, .inl (dA 0, 158, .inl mv)), (h4, .inl (dA 0, 1264, .inl mp)), (h5, .inl (dA 1, 180, .inl mo)), (h6, .inl (dA 1, 60, .inl mI)), (h7, .inl (dA 0, 240, .inl mc))] sz) := by
  refine of_M (y := yX12_price) (av := [.ref h0, .int p0]) (ws := [(h0, .inr (10, [.ref h1, .ref h2, .ref h3, .int mi, .ref h4, .int mn, .int mt, .ref h5, .int mO, .ref h6, .int mL, .int mA, .int mW, .int mE, .int mF, .ref h7, .int mM])), (h1, .inl (dA 0, 158, .inl ms)), (h2, .inl (dA 0, 158, .inl mb)), (h3, .inl (dA 0, 158, .inl mv)), (h4, .inl (dA 0, 1264, .inl mp)), (h5, .inl (dA 1, 180, .inl mo)), (h6, .inl (dA 1, 60, .inl mI)), (h7, .inl (dA 0, 240, .inl mc))]) (sz := sz) (own := RX12) (Qc := poMi D rr [(h0, .inr (10, [.ref h1, .ref h2, .ref h3, .int mi, .ref h4, .int mn, .int q_mt, .ref h5, .int mO, .ref h6, .int mL, .int mA, .int mW, .int mE, .int mF, .ref h7, .int mM])), (h1, .inl (dA 0, 158, .inl ms)), (h2, .inl (dA 0, 158, .inl mb)), (h3, .inl (dA 0, 158, .inl mv)), (h4, .inl (dA 0, 1264, .inl mp)), (h5, .inl (dA 1, 180, .inl mo)), (h6, .inl (dA 1, 60, .inl mI)), (h7, .inl (dA 0, 240, .inl mc))]) (by decide) rfl (Nat.le_of_ble_eq_true rfl) ?_
  intro p e s m below meth c A hx hb hr ha hown hml hlocks hin hP hK hD hS hA ls hl
  have hl : lv_has ls 2 [(0, .ref h0), (1, .int p0)] := hl
  rw [f_X12_price] at hf
  refine lv_aload_n hx hb dX12_price_0 rfl (lv_at hl 0 rfl) ?_
  refine lv_aload_n hx hb dX12_price_1 rfl (lv_at hl 0 rfl) ?_
  refine lv_iload_n hx hb dX12_price_2 rfl (lv_at hl 1 rfl) ?_
  obtain ⟨r_1, hc1, hf⟩ := sf_c1e hf
  refine k_Pi (run_PV (As := [.int p0]) (rest := [.ref h0]) ⟨hx, hb, hml, hown, ha⟩ (c_X12_isSlide l D dA h0 h1 h2 h3 h4 h5 h6 h7  ms mb mv mi mp mn mt mo mO mI mL mA mW mE mF mc mM p0 _ hc1) (gi_V m_1749 m_1751 m_37 m_85 m_1752) yd_X12_isSlide ⟨Nat.le_of_ble_eq_true rfl, Nat.le_of_ble_eq_true rfl⟩ ⟨rfl, rfl⟩ hK hP [0, 1, 2, 3, 4, 5, 6, 7] rfl 0 10 rfl rfl rfl rfl hl.1 rfl (Nat.le_of_ble_eq_true rfl) dX12_price_3 ⟨Nat.le_of_ble_eq_true rfl, Nat.le_of_ble_eq_true rfl⟩) hP hS (fun H locs hP hS => ?_)
  obtain ⟨r_2, x_3, hc3, hf⟩ := sf_c2e hf
  refine k_Mi (wr := []) (run_MV (As := [.int r_1]) (rest := []) ⟨hx, hb, hml, hown, ha⟩ (c_X12_isThere l D dA h0 h1 h2 h3 h4 h5 h6 h7 _ ms mb mv mi mp mn mt mo mO mI mL mA mW mE mF mc mM r_1 _ _ hc3) (gi_V m_1867 m_1869 m_59 m_85 m_1870) yd_X12_isThere ⟨Nat.le_of_ble_eq_true rfl, Nat.le_of_ble_eq_true rfl⟩ ⟨rfl, rfl⟩ hK hP hD [0, 1, 2, 3, 4, 5, 6, 7] (by decide) rfl 0 10 rfl rfl rfl rfl hl.1 rfl (Nat.le_of_ble_eq_true rfl) dX12_price_6 ⟨Nat.le_of_ble_eq_true rfl, Nat.le_of_ble_eq_true rfl⟩) hP hD hS hA [0, 1, 2, 3, 4, 5, 6, 7] [] rfl rfl (by decide) (by decide) (fun H locs hP hD hS => ?_)
  refine lv_if_eq (tgt := 21) hx hb dX12_price_9 (by decide) (fun hc => ?_) (fun hc => ?_)
  · have hf := sf_bp hf hc
    refine lv_iconst (v := 0) hx hb dX12_price_21 (by decide) ?_
    cases hf
    exact rt_Mi hx hb hr hlocks (hP.sub [0, 1, 2, 3, 4, 5, 6, 7] rfl) (hD.sub [0, 1, 2, 3, 4, 5, 6, 7] (by decide) rfl) hS dX12_price_22
  · have hf := sf_bn hf hc
    refine lv_aload_n hx hb dX12_price_12 rfl (lv_at hl 0 rfl) ?_
    refine lv_iload_n hx hb dX12_price_13 rfl (lv_at hl 1 rfl) ?_
    refine lv_iconst (v := 1) hx hb dX12_price_14 (by decide) ?_
    obtain ⟨r_4, hc4, hf⟩ := sf_c1e hf
    refine k_Pi (run_PV (As := [.int p0, .int (1 : Int32)]) (rest := []) ⟨hx, hb, hml, hown, ha⟩ (c_X12_slide l D dA h0 h1 h2 h3 h4 h5 h6 h7  ms mb mv mi mp mn x_3 mo mO mI mL mA mW mE mF mc mM p0 (1 : Int32) _ hc4) (gi_V m_1761 m_1763 m_40 m_85 m_1764) yd_X12_slide ⟨Nat.le_of_ble_eq_true rfl, Nat.le_of_ble_eq_true rfl⟩ ⟨rfl, rfl⟩ hK hP [0, 1, 2, 3, 4, 5, 6, 7] rfl 0 10 rfl rfl rfl rfl hl.1 rfl (Nat.le_of_ble_eq_true rfl) dX12_price_15 ⟨Nat.le_of_ble_eq_true rfl, Nat.le_of_ble_eq_true rfl⟩) hP hS (fun H locs hP hS => ?_)
    refine lv_goto (tgt := 22) hx hb dX12_price_18 (by decide) ?_
    cases hf
    exact rt_Mi hx hb hr hlocks (hP.sub [0, 1, 2, 3, 4, 5, 6, 7] rfl) (hD.sub [0, 1, 2, 3, 4, 5, 6, 7] (by decide) rfl) hS dX12_price_22

def f_X12_wetness (ms : Nat → Int32) (mt : Int32) (p0 : Int32) : Option (Int32 × Int32) :=
  sf_c1 (f_X12_isSlide ms p0) (fun r_1 => sf_c2 (f_X12_isThere mt r_1) (fun r_2 x_3 => sf_b (r_2 = (0 : Int32)) (some ((0 : Int32), x_3)) (sf_c1 (f_X12_slide ms p0 (2 : Int32)) (fun r_4 => some (r_4, x_3)))))
theorem yd_X12_wetness : yX12_wetness.cls = RX12 ∧ yX12_wetness.cls ≠ "java/lang/invoke/MethodHandle" ∧ yX12_wetness.cls ≠ "java/lang/invoke/VarHandle" ∧ (parseMethodDescriptor yX12_wetness.desc).map (fun d => d.parameters.length) = some 1 := ⟨rfl, by decide, by decide, by decide +kernel⟩
set_option maxRecDepth 100000 in
set_option maxHeartbeats 4000000 in
theorem c_X12_wetness (l : Launch) (D : va_G) (dA : Nat → ClassId) (h0 h1 h2 h3 h4 h5 h6 h7 : Nat) (sz : Nat) (ms : Nat → Int32) (mb : Nat → Int32) (mv : Nat → Int32) (mi : Int32) (mp : Nat → Int32) (mn : Int32) (mt : Int32) (mo : Nat → Int32) (mO : Int32) (mI : Nat → Int32) (mL : Int32) (mA : Int32) (mW : Int32) (mE : Int32) (mF : Int32) (mc : Nat → Int32) (mM : Int32) (p0 : Int32) (rr : Int32) (q_mt : Int32) (hf : f_X12_wetness ms mt p0 = some (rr, q_mt)) : Met l yX12_wetness (wo (.code yX12_wetness cX12_wetness 2 (some .int))) ({ frames := 2, cells := 0, slots := 0, locals := 43 } : Room) (preM D dA [.ref h0, .int p0] sz [(h0, .inr (10, [.ref h1, .ref h2, .ref h3, .int mi, .ref h4, .int mn, .int mt, .ref h5, .int mO, .ref h6, .int mL, .int mA, .int mW, .int mE, .int mF, .ref h7, .int mM])), (h1, .inl (dA 0, 158, .inl ms)), (h2, .inl (dA 0, 158, .inl mb)), (h3, .inl (dA 0, 158, .inl mv)), (h4, .inl (dA 0, 1264, .inl mp)), (h5, .inl (dA 1, 180, .inl mo)), (h6, .inl (dA 1, 60, .inl mI)), (h7, .inl (dA 0, 240, .inl mc))]) (poMi D rr [(h0, .inr (10, [.ref h1, .ref h2, .ref h3, .int mi, .ref h4, .int mn, .int q_mt, .ref h5, .int mO, .ref h6, .int mL, .int mA, .int mW, .int mE, .int mF, .ref h7, .int mM])), (h1, .inl (dA 0, 158, .inl ms)), (h2, .inl (dA 0, 158, .inl mb)), (h3, .inl (dA 0, 158, .inl mv)), (h4, .inl (dA 0, 1264, .inl mp)), (h5, .inl (dA 1, 180, .inl mo)), (h6, .inl (dA 1, 60, .inl mI)), (h7, .inl (dA 0, 240, .inl mc))] (va_A [(h0, .inr (10, [.ref h1, .ref h2, .ref h3, .int mi, .ref h4, .int mn, .int mt, .ref h5, .int mO, .ref h6, .int mL, .int mA, .int mW, .int mE, .int mF, .ref h7, .int mM])), (h1, .inl (dA 0, 158, .inl ms)), (h2, .inl (dA 0, 158, .inl mb)), (h3, .inl (dA 0, 158, .inl mv)), (h4, .inl (dA 0, 1264, .inl mp)), (h5, .inl (dA 1, 180, .inl mo)), (h6, .inl (dA 1, 60, .inl mI)), (h7, .inl (dA 0, 240, .inl mc))] sz)) 0 0 (va_A [(h0, .inr (10, [.ref h1, .ref h2, .ref h3, .int mi, .ref h4, .int mn, .int mt, .ref h5, .int mO, .ref h6, .int mL, .int mA, .int mW, .int mE, .int mF, .ref h7, .int mM])), (h1, .inl (dA 0, 158, .inl ms)), (h2, .inl (dA 0, 158, .inl mb)), (h3, .inl (dA 0, 158, .inl mv)), (h4, .inl (dA 0, 1264, .inl mp)), (h5, .inl (dA 1, 180, .inl mo)), (h6, .inl (dA 1, 60, .inl mI)), (h7, .inl (dA 0, 240, .inl mc))] sz) := by
  refine of_M (y := yX12_wetness) (av := [.ref h0, .int p0]) (ws := [(h0, .inr (10, [.ref h1, .ref h2, .ref h3, .int mi, .ref h4, .int mn, .int mt, .ref h5, .int mO, .ref h6, .int mL, .int mA, .int mW, .int mE, .int mF, .ref h7, .int mM])), (h1, .inl (dA 0, 158, .inl ms)), (h2, .inl (dA 0, 158, .inl mb)), (h3, .inl (dA 0, 158, .inl mv)), (h4, .inl (dA 0, 1264, .inl mp)), (h5, .inl (dA 1, 180, .inl mo)), (h6, .inl (dA 1, 60, .inl mI)), (h7, .inl (dA 0, 240, .inl mc))]) (sz := sz) (own := RX12) (Qc := poMi D rr [(h0, .inr (10, [.ref h1, .ref h2, .ref h3, .int mi, .ref h4, .int mn, .int q_mt, .ref h5, .int mO, .ref h6, .int mL, .int mA, .int mW, .int mE, .int mF, .ref h7, .int mM])), (h1, .inl (dA 0, 158, .inl ms)), (h2, .inl (dA 0, 158, .inl mb)), (h3, .inl (dA 0, 158, .inl mv)), (h4, .inl (dA 0, 1264, .inl mp)), (h5, .inl (dA 1, 180, .inl mo)), (h6, .inl (dA 1, 60, .inl mI)), (h7, .inl (dA 0, 240, .inl mc))]) (by decide) rfl (Nat.le_of_ble_eq_true rfl) ?_
  intro p e s m below meth c A hx hb hr ha hown hml hlocks hin hP hK hD hS hA ls hl
  have hl : lv_has ls 2 [(0, .ref h0), (1, .int p0)] := hl
  rw [f_X12_wetness] at hf
  refine lv_aload_n hx hb dX12_wetness_0 rfl (lv_at hl 0 rfl) ?_
  refine lv_aload_n hx hb dX12_wetness_1 rfl (lv_at hl 0 rfl) ?_
  refine lv_iload_n hx hb dX12_wetness_2 rfl (lv_at hl 1 rfl) ?_
  obtain ⟨r_1, hc1, hf⟩ := sf_c1e hf
  refine k_Pi (run_PV (As := [.int p0]) (rest := [.ref h0]) ⟨hx, hb, hml, hown, ha⟩ (c_X12_isSlide l D dA h0 h1 h2 h3 h4 h5 h6 h7  ms mb mv mi mp mn mt mo mO mI mL mA mW mE mF mc mM p0 _ hc1) (gi_V m_1749 m_1751 m_37 m_85 m_1752) yd_X12_isSlide ⟨Nat.le_of_ble_eq_true rfl, Nat.le_of_ble_eq_true rfl⟩ ⟨rfl, rfl⟩ hK hP [0, 1, 2, 3, 4, 5, 6, 7] rfl 0 10 rfl rfl rfl rfl hl.1 rfl (Nat.le_of_ble_eq_true rfl) dX12_wetness_3 ⟨Nat.le_of_ble_eq_true rfl, Nat.le_of_ble_eq_true rfl⟩) hP hS (fun H locs hP hS => ?_)
  obtain ⟨r_2, x_3, hc3, hf⟩ := sf_c2e hf
  refine k_Mi (wr := []) (run_MV (As := [.int r_1]) (rest := []) ⟨hx, hb, hml, hown, ha⟩ (c_X12_isThere l D dA h0 h1 h2 h3 h4 h5 h6 h7 _ ms mb mv mi mp mn mt mo mO mI mL mA mW mE mF mc mM r_1 _ _ hc3) (gi_V m_1867 m_1869 m_59 m_85 m_1870) yd_X12_isThere ⟨Nat.le_of_ble_eq_true rfl, Nat.le_of_ble_eq_true rfl⟩ ⟨rfl, rfl⟩ hK hP hD [0, 1, 2, 3, 4, 5, 6, 7] (by decide) rfl 0 10 rfl rfl rfl rfl hl.1 rfl (Nat.le_of_ble_eq_true rfl) dX12_wetness_6 ⟨Nat.le_of_ble_eq_true rfl, Nat.le_of_ble_eq_true rfl⟩) hP hD hS hA [0, 1, 2, 3, 4, 5, 6, 7] [] rfl rfl (by decide) (by decide) (fun H locs hP hD hS => ?_)
  refine lv_if_eq (tgt := 21) hx hb dX12_wetness_9 (by decide) (fun hc => ?_) (fun hc => ?_)
  · have hf := sf_bp hf hc
    refine lv_iconst (v := 0) hx hb dX12_wetness_21 (by decide) ?_
    cases hf
    exact rt_Mi hx hb hr hlocks (hP.sub [0, 1, 2, 3, 4, 5, 6, 7] rfl) (hD.sub [0, 1, 2, 3, 4, 5, 6, 7] (by decide) rfl) hS dX12_wetness_22
  · have hf := sf_bn hf hc
    refine lv_aload_n hx hb dX12_wetness_12 rfl (lv_at hl 0 rfl) ?_
    refine lv_iload_n hx hb dX12_wetness_13 rfl (lv_at hl 1 rfl) ?_
    refine lv_iconst (v := 2) hx hb dX12_wetness_14 (by decide) ?_
    obtain ⟨r_4, hc4, hf⟩ := sf_c1e hf
    refine k_Pi (run_PV (As := [.int p0, .int (2 : Int32)]) (rest := []) ⟨hx, hb, hml, hown, ha⟩ (c_X12_slide l D dA h0 h1 h2 h3 h4 h5 h6 h7  ms mb mv mi mp mn x_3 mo mO mI mL mA mW mE mF mc mM p0 (2 : Int32) _ hc4) (gi_V m_1761 m_1763 m_40 m_85 m_1764) yd_X12_slide ⟨Nat.le_of_ble_eq_true rfl, Nat.le_of_ble_eq_true rfl⟩ ⟨rfl, rfl⟩ hK hP [0, 1, 2, 3, 4, 5, 6, 7] rfl 0 10 rfl rfl rfl rfl hl.1 rfl (Nat.le_of_ble_eq_true rfl) dX12_wetness_15 ⟨Nat.le_of_ble_eq_true rfl, Nat.le_of_ble_eq_true rfl⟩) hP hS (fun H locs hP hS => ?_)
    refine lv_goto (tgt := 22) hx hb dX12_wetness_18 (by decide) ?_
    cases hf
    exact rt_Mi hx hb hr hlocks (hP.sub [0, 1, 2, 3, 4, 5, 6, 7] rfl) (hD.sub [0, 1, 2, 3, 4, 5, 6, 7] (by decide) rfl) hS dX12_wetness_22

def f_X12_rider (ms : Nat → Int32) (mt : Int32) (p0 : Int32) : Option (Int32 × Int32) :=
  sf_c1 (f_X12_isSlide ms p0) (fun r_1 => sf_b (r_1 = (0 : Int32)) (sf_c1 (f_X12_isSlide ms p0) (fun r_2 => sf_b (r_2 = (0 : Int32)) (some ((0 : Int32), (1 : Int32))) (some ((0 : Int32), (2 : Int32))))) (sf_g (sf_in (3 : Int32) 158 = true) (sf_c1 (f_X12_during ms p0 (ms (3 : Int32).toNatClampNeg)) (fun r_3 => sf_c1 (f_X12_isSlide ms p0) (fun r_4 => sf_b (r_4 = (0 : Int32)) (some ((0 : Int32), (1 : Int32))) (sf_b ((0 : Int32) ≤ r_3) (sf_c1 (f_X12_booking ms r_3 (0 : Int32)) (fun r_5 => some (r_5, (0 : Int32)))) (some ((0 : Int32), (2 : Int32)))))))))
theorem yd_X12_rider : yX12_rider.cls = RX12 ∧ yX12_rider.cls ≠ "java/lang/invoke/MethodHandle" ∧ yX12_rider.cls ≠ "java/lang/invoke/VarHandle" ∧ (parseMethodDescriptor yX12_rider.desc).map (fun d => d.parameters.length) = some 1 := ⟨rfl, by decide, by decide, by decide +kernel⟩
set_option maxRecDepth 100000 in
set_option maxHeartbeats 4000000 in
theorem c_X12_rider (l : Launch) (D : va_G) (dA : Nat → ClassId) (h0 h1 h2 h3 h4 h5 h6 h7 : Nat) (sz : Nat) (ms : Nat → Int32) (mb : Nat → Int32) (mv : Nat → Int32) (mi : Int32) (mp : Nat → Int32) (mn : Int32) (mt : Int32) (mo : Nat → Int32) (mO : Int32) (mI : Nat → Int32) (mL : Int32) (mA : Int32) (mW : Int32) (mE : Int32) (mF : Int32) (mc : Nat → Int32) (mM : Int32) (p0 : Int32) (rr : Int32) (q_mt : Int32) (hf : f_X12_rider ms mt p0 = some (rr, q_mt)) : Met l yX12_rider (wo (.code yX12_rider cX12_rider 3 (some .int))) ({ frames := 4, cells := 0, slots := 0, locals := 88 } : Room) (preM D dA [.ref h0, .int p0] sz [(h0, .inr (10, [.ref h1, .ref h2, .ref h3, .int mi, .ref h4, .int mn, .int mt, .ref h5, .int mO, .ref h6, .int mL, .int mA, .int mW, .int mE, .int mF, .ref h7, .int mM])), (h1, .inl (dA 0, 158, .inl ms)), (h2, .inl (dA 0, 158, .inl mb)), (h3, .inl (dA 0, 158, .inl mv)), (h4, .inl (dA 0, 1264, .inl mp)), (h5, .inl (dA 1, 180, .inl mo)), (h6, .inl (dA 1, 60, .inl mI)), (h7, .inl (dA 0, 240, .inl mc))]) (poMi D rr [(h0, .inr (10, [.ref h1, .ref h2, .ref h3, .int mi, .ref h4, .int mn, .int q_mt, .ref h5, .int mO, .ref h6, .int mL, .int mA, .int mW, .int mE, .int mF, .ref h7, .int mM])), (h1, .inl (dA 0, 158, .inl ms)), (h2, .inl (dA 0, 158, .inl mb)), (h3, .inl (dA 0, 158, .inl mv)), (h4, .inl (dA 0, 1264, .inl mp)), (h5, .inl (dA 1, 180, .inl mo)), (h6, .inl (dA 1, 60, .inl mI)), (h7, .inl (dA 0, 240, .inl mc))] (va_A [(h0, .inr (10, [.ref h1, .ref h2, .ref h3, .int mi, .ref h4, .int mn, .int mt, .ref h5, .int mO, .ref h6, .int mL, .int mA, .int mW, .int mE, .int mF, .ref h7, .int mM])), (h1, .inl (dA 0, 158, .inl ms)), (h2, .inl (dA 0, 158, .inl mb)), (h3, .inl (dA 0, 158, .inl mv)), (h4, .inl (dA 0, 1264, .inl mp)), (h5, .inl (dA 1, 180, .inl mo)), (h6, .inl (dA 1, 60, .inl mI)), (h7, .inl (dA 0, 240, .inl mc))] sz)) 0 0 (va_A [(h0, .inr (10, [.ref h1, .ref h2, .ref h3, .int mi, .ref h4, .int mn, .int mt, .ref h5, .int mO, .ref h6, .int mL, .int mA, .int mW, .int mE, .int mF, .ref h7, .int mM])), (h1, .inl (dA 0, 158, .inl ms)), (h2, .inl (dA 0, 158, .inl mb)), (h3, .inl (dA 0, 158, .inl mv)), (h4, .inl (dA 0, 1264, .inl mp)), (h5, .inl (dA 1, 180, .inl mo)), (h6, .inl (dA 1, 60, .inl mI)), (h7, .inl (dA 0, 240, .inl mc))] sz) := by
  refine of_M (y := yX12_rider) (av := [.ref h0, .int p0]) (ws := [(h0, .inr (10, [.ref h1, .ref h2, .ref h3, .int mi, .ref h4, .int mn, .int mt, .ref h5, .int mO, .ref h6, .int mL, .int mA, .int mW, .int mE, .int mF, .ref h7, .int mM])), (h1, .inl (dA 0, 158, .inl ms)), (h2, .inl (dA 0, 158, .inl mb)), (h3, .inl (dA 0, 158, .inl mv)), (h4, .inl (dA 0, 1264, .inl mp)), (h5, .inl (dA 1, 180, .inl mo)), (h6, .inl (dA 1, 60, .inl mI)), (h7, .inl (dA 0, 240, .inl mc))]) (sz := sz) (own := RX12) (Qc := poMi D rr [(h0, .inr (10, [.ref h1, .ref h2, .ref h3, .int mi, .ref h4, .int mn, .int q_mt, .ref h5, .int mO, .ref h6, .int mL, .int mA, .int mW, .int mE, .int mF, .ref h7, .int mM])), (h1, .inl (dA 0, 158, .inl ms)), (h2, .inl (dA 0, 158, .inl mb)), (h3, .inl (dA 0, 158, .inl mv)), (h4, .inl (dA 0, 1264, .inl mp)), (h5, .inl (dA 1, 180, .inl mo)), (h6, .inl (dA 1, 60, .inl mI)), (h7, .inl (dA 0, 240, .inl mc))]) (by decide) rfl (Nat.le_of_ble_eq_true rfl) ?_
  intro p e s m below meth c A hx hb hr ha hown hml hlocks hin hP hK hD hS hA ls hl
  have hl : lv_has ls 3 [(0, .ref h0), (1, .int p0)] := hl
  rw [f_X12_rider] at hf
  refine lv_aload_n hx hb dX12_rider_0 rfl (lv_at hl 0 rfl) ?_
  refine lv_iload_n hx hb dX12_rider_1 rfl (lv_at hl 1 rfl) ?_
  obtain ⟨r_1, hc1, hf⟩ := sf_c1e hf
  refine k_Pi (run_PV (As := [.int p0]) (rest := []) ⟨hx, hb, hml, hown, ha⟩ (c_X12_isSlide l D dA h0 h1 h2 h3 h4 h5 h6 h7  ms mb mv mi mp mn mt mo mO mI mL mA mW mE mF mc mM p0 _ hc1) (gi_V m_1749 m_1751 m_37 m_85 m_1752) yd_X12_isSlide ⟨Nat.le_of_ble_eq_true rfl, Nat.le_of_ble_eq_true rfl⟩ ⟨rfl, rfl⟩ hK hP [0, 1, 2, 3, 4, 5, 6, 7] rfl 0 10 rfl rfl rfl rfl hl.1 rfl (Nat.le_of_ble_eq_true rfl) dX12_rider_2 ⟨Nat.le_of_ble_eq_true rfl, Nat.le_of_ble_eq_true rfl⟩) hP hS (fun H locs hP hS => ?_)
  refine lv_if_eq (tgt := 22) hx hb dX12_rider_5 (by decide) (fun hc => ?_) (fun hc => ?_)
  · have hf := sf_bp hf hc
    refine lv_iconst (v := -1) hx hb dX12_rider_22 (by decide) ?_
    refine lv_istore_n (lv' := [(2, .int (-1 : Int32)), (0, .ref h0), (1, .int p0)]) hx hb dX12_rider_23 rfl hl (by decide) rfl (fun ls hl => ?_)
    refine lv_aload_n hx hb dX12_rider_24 rfl (lv_at hl 1 rfl) ?_
    refine lv_aload_n hx hb dX12_rider_25 rfl (lv_at hl 1 rfl) ?_
    refine lv_iload_n hx hb dX12_rider_26 rfl (lv_at hl 2 rfl) ?_
    obtain ⟨r_2, hc2, hf⟩ := sf_c1e hf
    refine k_Pi (run_PV (As := [.int p0]) (rest := [.ref h0]) ⟨hx, hb, hml, hown, ha⟩ (c_X12_isSlide l D dA h0 h1 h2 h3 h4 h5 h6 h7  ms mb mv mi mp mn mt mo mO mI mL mA mW mE mF mc mM p0 _ hc2) (gi_V m_1749 m_1751 m_37 m_85 m_1752) yd_X12_isSlide ⟨Nat.le_of_ble_eq_true rfl, Nat.le_of_ble_eq_true rfl⟩ ⟨rfl, rfl⟩ hK hP [0, 1, 2, 3, 4, 5, 6, 7] rfl 0 10 rfl rfl rfl rfl hl.1 rfl (Nat.le_of_ble_eq_true rfl) dX12_rider_27 ⟨Nat.le_of_ble_eq_true rfl, Nat.le_of_ble_eq_true rfl⟩) hP hS (fun H locs hP hS => ?_)
    refine lv_if_ne (tgt := 37) hx hb dX12_rider_30 (by decide) (fun hc => ?_) (fun hc => ?_)
    · have hf := sf_bn hf hc
      refine lv_iload_n hx hb dX12_rider_37 rfl (lv_at hl 0 rfl) ?_
      refine lv_if_ge (tgt := 45) hx hb dX12_rider_38 (by decide) (fun hc => absurd hc (by decide)) (fun hc => ?_)
      refine lv_iconst (v := 2) hx hb dX12_rider_41 (by decide) ?_
      refine lv_goto (tgt := 46) hx hb dX12_rider_42 (by decide) ?_
      refine pt_f (C := RX12) (T := TX12) (N := 17) (ws' := [(h0, .inr (10, [.ref h1, .ref h2, .ref h3, .int mi, .ref h4, .int mn, .int (2 : Int32), .ref h5, .int mO, .ref h6, .int mL, .int mA, .int mW, .int mE, .int mF, .ref h7, .int mM])), (h1, .inl (dA 0, 158, .inl ms)), (h2, .inl (dA 0, 158, .inl mb)), (h3, .inl (dA 0, 158, .inl mv)), (h4, .inl (dA 0, 1264, .inl mp)), (h5, .inl (dA 1, 180, .inl mo)), (h6, .inl (dA 1, 60, .inl mI)), (h7, .inl (dA 0, 240, .inl mc))]) (ty := .int) hx hb ha in_X12 tyX12 tyX12_ok nmX12 hown hK hP hD hS 0 rfl rfl 6 (by decide) m_1655 rfl (tyX12_ok 6 (by decide)) rfl rfl (Nat.le_of_ble_eq_true rfl) rfl dX12_rider_46 (fun H locs hP hD hS => ?_)
      refine lv_aload_n hx hb dX12_rider_49 rfl (lv_at hl 1 rfl) ?_
      refine gt_f (C := RX12) (T := TX12) (N := 17) hx hb ha in_X12 hown hK hP 0 rfl rfl 6 (by decide) m_1655 rfl dX12_rider_50 ?_
      refine lv_if_le (tgt := 60) hx hb dX12_rider_53 (by decide) (fun hc => absurd hc (by decide)) (fun hc => ?_)
      refine lv_iconst (v := 0) hx hb dX12_rider_56 (by decide) ?_
      refine lv_goto (tgt := 66) hx hb dX12_rider_57 (by decide) ?_
      cases hf
      exact rt_Mi hx hb hr hlocks (hP.sub [0, 1, 2, 3, 4, 5, 6, 7] rfl) (hD.sub [0, 1, 2, 3, 4, 5, 6, 7] (by decide) rfl) hS dX12_rider_66
    · have hf := sf_bp hf hc
      refine lv_iconst (v := 1) hx hb dX12_rider_33 (by decide) ?_
      refine lv_goto (tgt := 46) hx hb dX12_rider_34 (by decide) ?_
      refine pt_f (C := RX12) (T := TX12) (N := 17) (ws' := [(h0, .inr (10, [.ref h1, .ref h2, .ref h3, .int mi, .ref h4, .int mn, .int (1 : Int32), .ref h5, .int mO, .ref h6, .int mL, .int mA, .int mW, .int mE, .int mF, .ref h7, .int mM])), (h1, .inl (dA 0, 158, .inl ms)), (h2, .inl (dA 0, 158, .inl mb)), (h3, .inl (dA 0, 158, .inl mv)), (h4, .inl (dA 0, 1264, .inl mp)), (h5, .inl (dA 1, 180, .inl mo)), (h6, .inl (dA 1, 60, .inl mI)), (h7, .inl (dA 0, 240, .inl mc))]) (ty := .int) hx hb ha in_X12 tyX12 tyX12_ok nmX12 hown hK hP hD hS 0 rfl rfl 6 (by decide) m_1655 rfl (tyX12_ok 6 (by decide)) rfl rfl (Nat.le_of_ble_eq_true rfl) rfl dX12_rider_46 (fun H locs hP hD hS => ?_)
      refine lv_aload_n hx hb dX12_rider_49 rfl (lv_at hl 1 rfl) ?_
      refine gt_f (C := RX12) (T := TX12) (N := 17) hx hb ha in_X12 hown hK hP 0 rfl rfl 6 (by decide) m_1655 rfl dX12_rider_50 ?_
      refine lv_if_le (tgt := 60) hx hb dX12_rider_53 (by decide) (fun hc => absurd hc (by decide)) (fun hc => ?_)
      refine lv_iconst (v := 0) hx hb dX12_rider_56 (by decide) ?_
      refine lv_goto (tgt := 66) hx hb dX12_rider_57 (by decide) ?_
      cases hf
      exact rt_Mi hx hb hr hlocks (hP.sub [0, 1, 2, 3, 4, 5, 6, 7] rfl) (hD.sub [0, 1, 2, 3, 4, 5, 6, 7] (by decide) rfl) hS dX12_rider_66
  · have hf := sf_bn hf hc
    refine lv_aload_n hx hb dX12_rider_8 rfl (lv_at hl 0 rfl) ?_
    refine lv_iload_n hx hb dX12_rider_9 rfl (lv_at hl 1 rfl) ?_
    refine lv_aload_n hx hb dX12_rider_10 rfl (lv_at hl 0 rfl) ?_
    refine gt_f (C := RX12) (T := TX12) (N := 17) hx hb ha in_X12 hown hK hP 0 rfl rfl 0 (by decide) m_1649 rfl dX12_rider_11 ?_
    refine lv_iconst (v := 3) hx hb dX12_rider_14 (by decide) ?_
    obtain ⟨hi, hf⟩ := sf_ge hf
    refine ia_ld hx hb hK hP 1 rfl hi dX12_rider_15 ?_
    obtain ⟨r_3, hc3, hf⟩ := sf_c1e hf
    refine k_Pi (run_PV (As := [.int p0, .int (ms (3 : Int32).toNatClampNeg)]) (rest := []) ⟨hx, hb, hml, hown, ha⟩ (c_X12_during l D dA h0 h1 h2 h3 h4 h5 h6 h7  ms mb mv mi mp mn mt mo mO mI mL mA mW mE mF mc mM p0 (ms (3 : Int32).toNatClampNeg) _ hc3) (gi_V m_1841 m_1843 m_56 m_85 m_1844) yd_X12_during ⟨Nat.le_of_ble_eq_true rfl, Nat.le_of_ble_eq_true rfl⟩ ⟨rfl, rfl⟩ hK hP [0, 1, 2, 3, 4, 5, 6, 7] rfl 0 10 rfl rfl rfl rfl hl.1 rfl (Nat.le_of_ble_eq_true rfl) dX12_rider_16 ⟨Nat.le_of_ble_eq_true rfl, Nat.le_of_ble_eq_true rfl⟩) hP hS (fun H locs hP hS => ?_)
    refine lv_goto (tgt := 23) hx hb dX12_rider_19 (by decide) ?_
    refine lv_istore_n (lv' := [(2, .int r_3), (0, .ref h0), (1, .int p0)]) hx hb dX12_rider_23 rfl hl (by decide) rfl (fun ls hl => ?_)
    refine lv_aload_n hx hb dX12_rider_24 rfl (lv_at hl 1 rfl) ?_
    refine lv_aload_n hx hb dX12_rider_25 rfl (lv_at hl 1 rfl) ?_
    refine lv_iload_n hx hb dX12_rider_26 rfl (lv_at hl 2 rfl) ?_
    obtain ⟨r_4, hc4, hf⟩ := sf_c1e hf
    refine k_Pi (run_PV (As := [.int p0]) (rest := [.ref h0]) ⟨hx, hb, hml, hown, ha⟩ (c_X12_isSlide l D dA h0 h1 h2 h3 h4 h5 h6 h7  ms mb mv mi mp mn mt mo mO mI mL mA mW mE mF mc mM p0 _ hc4) (gi_V m_1749 m_1751 m_37 m_85 m_1752) yd_X12_isSlide ⟨Nat.le_of_ble_eq_true rfl, Nat.le_of_ble_eq_true rfl⟩ ⟨rfl, rfl⟩ hK hP [0, 1, 2, 3, 4, 5, 6, 7] rfl 0 10 rfl rfl rfl rfl hl.1 rfl (Nat.le_of_ble_eq_true rfl) dX12_rider_27 ⟨Nat.le_of_ble_eq_true rfl, Nat.le_of_ble_eq_true rfl⟩) hP hS (fun H locs hP hS => ?_)
    refine lv_if_ne (tgt := 37) hx hb dX12_rider_30 (by decide) (fun hc => ?_) (fun hc => ?_)
    · have hf := sf_bn hf hc
      refine lv_iload_n hx hb dX12_rider_37 rfl (lv_at hl 0 rfl) ?_
      refine lv_if_ge (tgt := 45) hx hb dX12_rider_38 (by decide) (fun hc => ?_) (fun hc => ?_)
      · have hf := sf_bp hf hc
        refine lv_iconst (v := 0) hx hb dX12_rider_45 (by decide) ?_
        refine pt_f (C := RX12) (T := TX12) (N := 17) (ws' := [(h0, .inr (10, [.ref h1, .ref h2, .ref h3, .int mi, .ref h4, .int mn, .int (0 : Int32), .ref h5, .int mO, .ref h6, .int mL, .int mA, .int mW, .int mE, .int mF, .ref h7, .int mM])), (h1, .inl (dA 0, 158, .inl ms)), (h2, .inl (dA 0, 158, .inl mb)), (h3, .inl (dA 0, 158, .inl mv)), (h4, .inl (dA 0, 1264, .inl mp)), (h5, .inl (dA 1, 180, .inl mo)), (h6, .inl (dA 1, 60, .inl mI)), (h7, .inl (dA 0, 240, .inl mc))]) (ty := .int) hx hb ha in_X12 tyX12 tyX12_ok nmX12 hown hK hP hD hS 0 rfl rfl 6 (by decide) m_1655 rfl (tyX12_ok 6 (by decide)) rfl rfl (Nat.le_of_ble_eq_true rfl) rfl dX12_rider_46 (fun H locs hP hD hS => ?_)
        refine lv_aload_n hx hb dX12_rider_49 rfl (lv_at hl 1 rfl) ?_
        refine gt_f (C := RX12) (T := TX12) (N := 17) hx hb ha in_X12 hown hK hP 0 rfl rfl 6 (by decide) m_1655 rfl dX12_rider_50 ?_
        refine lv_if_le (tgt := 60) hx hb dX12_rider_53 (by decide) (fun hc => ?_) (fun hc => absurd (by decide) hc)
        refine lv_aload_n hx hb dX12_rider_60 rfl (lv_at hl 1 rfl) ?_
        refine lv_iload_n hx hb dX12_rider_61 rfl (lv_at hl 0 rfl) ?_
        refine lv_iconst (v := 0) hx hb dX12_rider_62 (by decide) ?_
        obtain ⟨r_5, hc5, hf⟩ := sf_c1e hf
        refine k_Pi (run_PV (As := [.int r_3, .int (0 : Int32)]) (rest := []) ⟨hx, hb, hml, hown, ha⟩ (c_X12_booking l D dA h0 h1 h2 h3 h4 h5 h6 h7  ms mb mv mi mp mn (0 : Int32) mo mO mI mL mA mW mE mF mc mM r_3 (0 : Int32) _ hc5) (gi_V m_1769 m_1771 m_42 m_85 m_1772) yd_X12_booking ⟨Nat.le_of_ble_eq_true rfl, Nat.le_of_ble_eq_true rfl⟩ ⟨rfl, rfl⟩ hK hP [0, 1, 2, 3, 4, 5, 6, 7] rfl 0 10 rfl rfl rfl rfl hl.1 rfl (Nat.le_of_ble_eq_true rfl) dX12_rider_63 ⟨Nat.le_of_ble_eq_true rfl, Nat.le_of_ble_eq_true rfl⟩) hP hS (fun H locs hP hS => ?_)
        cases hf
        exact rt_Mi hx hb hr hlocks (hP.sub [0, 1, 2, 3, 4, 5, 6, 7] rfl) (hD.sub [0, 1, 2, 3, 4, 5, 6, 7] (by decide) rfl) hS dX12_rider_66
      · have hf := sf_bn hf hc
        refine lv_iconst (v := 2) hx hb dX12_rider_41 (by decide) ?_
        refine lv_goto (tgt := 46) hx hb dX12_rider_42 (by decide) ?_
        refine pt_f (C := RX12) (T := TX12) (N := 17) (ws' := [(h0, .inr (10, [.ref h1, .ref h2, .ref h3, .int mi, .ref h4, .int mn, .int (2 : Int32), .ref h5, .int mO, .ref h6, .int mL, .int mA, .int mW, .int mE, .int mF, .ref h7, .int mM])), (h1, .inl (dA 0, 158, .inl ms)), (h2, .inl (dA 0, 158, .inl mb)), (h3, .inl (dA 0, 158, .inl mv)), (h4, .inl (dA 0, 1264, .inl mp)), (h5, .inl (dA 1, 180, .inl mo)), (h6, .inl (dA 1, 60, .inl mI)), (h7, .inl (dA 0, 240, .inl mc))]) (ty := .int) hx hb ha in_X12 tyX12 tyX12_ok nmX12 hown hK hP hD hS 0 rfl rfl 6 (by decide) m_1655 rfl (tyX12_ok 6 (by decide)) rfl rfl (Nat.le_of_ble_eq_true rfl) rfl dX12_rider_46 (fun H locs hP hD hS => ?_)
        refine lv_aload_n hx hb dX12_rider_49 rfl (lv_at hl 1 rfl) ?_
        refine gt_f (C := RX12) (T := TX12) (N := 17) hx hb ha in_X12 hown hK hP 0 rfl rfl 6 (by decide) m_1655 rfl dX12_rider_50 ?_
        refine lv_if_le (tgt := 60) hx hb dX12_rider_53 (by decide) (fun hc => absurd hc (by decide)) (fun hc => ?_)
        refine lv_iconst (v := 0) hx hb dX12_rider_56 (by decide) ?_
        refine lv_goto (tgt := 66) hx hb dX12_rider_57 (by decide) ?_
        cases hf
        exact rt_Mi hx hb hr hlocks (hP.sub [0, 1, 2, 3, 4, 5, 6, 7] rfl) (hD.sub [0, 1, 2, 3, 4, 5, 6, 7] (by decide) rfl) hS dX12_rider_66
    · have hf := sf_bp hf hc
      refine lv_iconst (v := 1) hx hb dX12_rider_33 (by decide) ?_
      refine lv_goto (tgt := 46) hx hb dX12_rider_34 (by decide) ?_
      refine pt_f (C := RX12) (T := TX12) (N := 17) (ws' := [(h0, .inr (10, [.ref h1, .ref h2, .ref h3, .int mi, .ref h4, .int mn, .int (1 : Int32), .ref h5, .int mO, .ref h6, .int mL, .int mA, .int mW, .int mE, .int mF, .ref h7, .int mM])), (h1, .inl (dA 0, 158, .inl ms)), (h2, .inl (dA 0, 158, .inl mb)), (h3, .inl (dA 0, 158, .inl mv)), (h4, .inl (dA 0, 1264, .inl mp)), (h5, .inl (dA 1, 180, .inl mo)), (h6, .inl (dA 1, 60, .inl mI)), (h7, .inl (dA 0, 240, .inl mc))]) (ty := .int) hx hb ha in_X12 tyX12 tyX12_ok nmX12 hown hK hP hD hS 0 rfl rfl 6 (by decide) m_1655 rfl (tyX12_ok 6 (by decide)) rfl rfl (Nat.le_of_ble_eq_true rfl) rfl dX12_rider_46 (fun H locs hP hD hS => ?_)
      refine lv_aload_n hx hb dX12_rider_49 rfl (lv_at hl 1 rfl) ?_
      refine gt_f (C := RX12) (T := TX12) (N := 17) hx hb ha in_X12 hown hK hP 0 rfl rfl 6 (by decide) m_1655 rfl dX12_rider_50 ?_
      refine lv_if_le (tgt := 60) hx hb dX12_rider_53 (by decide) (fun hc => absurd hc (by decide)) (fun hc => ?_)
      refine lv_iconst (v := 0) hx hb dX12_rider_56 (by decide) ?_
      refine lv_goto (tgt := 66) hx hb dX12_rider_57 (by decide) ?_
      cases hf
      exact rt_Mi hx hb hr hlocks (hP.sub [0, 1, 2, 3, 4, 5, 6, 7] rfl) (hD.sub [0, 1, 2, 3, 4, 5, 6, 7] (by decide) rfl) hS dX12_rider_66

def f_X12_guestCount (ms : Nat → Int32) (mt : Int32) : Option (Int32 × Int32) :=
  sf_g (sf_in (1 : Int32) 158 = true) (some ((ms (1 : Int32).toNatClampNeg), (0 : Int32)))
theorem yd_X12_guestCount : yX12_guestCount.cls = RX12 ∧ yX12_guestCount.cls ≠ "java/lang/invoke/MethodHandle" ∧ yX12_guestCount.cls ≠ "java/lang/invoke/VarHandle" ∧ (parseMethodDescriptor yX12_guestCount.desc).map (fun d => d.parameters.length) = some 0 := ⟨rfl, by decide, by decide, by decide +kernel⟩
set_option maxRecDepth 100000 in
set_option maxHeartbeats 4000000 in
theorem c_X12_guestCount (l : Launch) (D : va_G) (dA : Nat → ClassId) (h0 h1 h2 h3 h4 h5 h6 h7 : Nat) (sz : Nat) (ms : Nat → Int32) (mb : Nat → Int32) (mv : Nat → Int32) (mi : Int32) (mp : Nat → Int32) (mn : Int32) (mt : Int32) (mo : Nat → Int32) (mO : Int32) (mI : Nat → Int32) (mL : Int32) (mA : Int32) (mW : Int32) (mE : Int32) (mF : Int32) (mc : Nat → Int32) (mM : Int32) (rr : Int32) (q_mt : Int32) (hf : f_X12_guestCount ms mt = some (rr, q_mt)) : Met l yX12_guestCount (wo (.code yX12_guestCount cX12_guestCount 1 (some .int))) ({ frames := 0, cells := 0, slots := 0, locals := 0 } : Room) (preM D dA [.ref h0] sz [(h0, .inr (10, [.ref h1, .ref h2, .ref h3, .int mi, .ref h4, .int mn, .int mt, .ref h5, .int mO, .ref h6, .int mL, .int mA, .int mW, .int mE, .int mF, .ref h7, .int mM])), (h1, .inl (dA 0, 158, .inl ms)), (h2, .inl (dA 0, 158, .inl mb)), (h3, .inl (dA 0, 158, .inl mv)), (h4, .inl (dA 0, 1264, .inl mp)), (h5, .inl (dA 1, 180, .inl mo)), (h6, .inl (dA 1, 60, .inl mI)), (h7, .inl (dA 0, 240, .inl mc))]) (poMi D rr [(h0, .inr (10, [.ref h1, .ref h2, .ref h3, .int mi, .ref h4, .int mn, .int q_mt, .ref h5, .int mO, .ref h6, .int mL, .int mA, .int mW, .int mE, .int mF, .ref h7, .int mM])), (h1, .inl (dA 0, 158, .inl ms)), (h2, .inl (dA 0, 158, .inl mb)), (h3, .inl (dA 0, 158, .inl mv)), (h4, .inl (dA 0, 1264, .inl mp)), (h5, .inl (dA 1, 180, .inl mo)), (h6, .inl (dA 1, 60, .inl mI)), (h7, .inl (dA 0, 240, .inl mc))] (va_A [(h0, .inr (10, [.ref h1, .ref h2, .ref h3, .int mi, .ref h4, .int mn, .int mt, .ref h5, .int mO, .ref h6, .int mL, .int mA, .int mW, .int mE, .int mF, .ref h7, .int mM])), (h1, .inl (dA 0, 158, .inl ms)), (h2, .inl (dA 0, 158, .inl mb)), (h3, .inl (dA 0, 158, .inl mv)), (h4, .inl (dA 0, 1264, .inl mp)), (h5, .inl (dA 1, 180, .inl mo)), (h6, .inl (dA 1, 60, .inl mI)), (h7, .inl (dA 0, 240, .inl mc))] sz)) 0 0 (va_A [(h0, .inr (10, [.ref h1, .ref h2, .ref h3, .int mi, .ref h4, .int mn, .int mt, .ref h5, .int mO, .ref h6, .int mL, .int mA, .int mW, .int mE, .int mF, .ref h7, .int mM])), (h1, .inl (dA 0, 158, .inl ms)), (h2, .inl (dA 0, 158, .inl mb)), (h3, .inl (dA 0, 158, .inl mv)), (h4, .inl (dA 0, 1264, .inl mp)), (h5, .inl (dA 1, 180, .inl mo)), (h6, .inl (dA 1, 60, .inl mI)), (h7, .inl (dA 0, 240, .inl mc))] sz) := by
  refine of_M (y := yX12_guestCount) (av := [.ref h0]) (ws := [(h0, .inr (10, [.ref h1, .ref h2, .ref h3, .int mi, .ref h4, .int mn, .int mt, .ref h5, .int mO, .ref h6, .int mL, .int mA, .int mW, .int mE, .int mF, .ref h7, .int mM])), (h1, .inl (dA 0, 158, .inl ms)), (h2, .inl (dA 0, 158, .inl mb)), (h3, .inl (dA 0, 158, .inl mv)), (h4, .inl (dA 0, 1264, .inl mp)), (h5, .inl (dA 1, 180, .inl mo)), (h6, .inl (dA 1, 60, .inl mI)), (h7, .inl (dA 0, 240, .inl mc))]) (sz := sz) (own := RX12) (Qc := poMi D rr [(h0, .inr (10, [.ref h1, .ref h2, .ref h3, .int mi, .ref h4, .int mn, .int q_mt, .ref h5, .int mO, .ref h6, .int mL, .int mA, .int mW, .int mE, .int mF, .ref h7, .int mM])), (h1, .inl (dA 0, 158, .inl ms)), (h2, .inl (dA 0, 158, .inl mb)), (h3, .inl (dA 0, 158, .inl mv)), (h4, .inl (dA 0, 1264, .inl mp)), (h5, .inl (dA 1, 180, .inl mo)), (h6, .inl (dA 1, 60, .inl mI)), (h7, .inl (dA 0, 240, .inl mc))]) (by decide) rfl (Nat.le_of_ble_eq_true rfl) ?_
  intro p e s m below meth c A hx hb hr ha hown hml hlocks hin hP hK hD hS hA ls hl
  have hl : lv_has ls 1 [(0, .ref h0)] := hl
  rw [f_X12_guestCount] at hf
  refine lv_aload_n hx hb dX12_guestCount_0 rfl (lv_at hl 0 rfl) ?_
  refine lv_iconst (v := 0) hx hb dX12_guestCount_1 (by decide) ?_
  refine pt_f (C := RX12) (T := TX12) (N := 17) (ws' := [(h0, .inr (10, [.ref h1, .ref h2, .ref h3, .int mi, .ref h4, .int mn, .int (0 : Int32), .ref h5, .int mO, .ref h6, .int mL, .int mA, .int mW, .int mE, .int mF, .ref h7, .int mM])), (h1, .inl (dA 0, 158, .inl ms)), (h2, .inl (dA 0, 158, .inl mb)), (h3, .inl (dA 0, 158, .inl mv)), (h4, .inl (dA 0, 1264, .inl mp)), (h5, .inl (dA 1, 180, .inl mo)), (h6, .inl (dA 1, 60, .inl mI)), (h7, .inl (dA 0, 240, .inl mc))]) (ty := .int) hx hb ha in_X12 tyX12 tyX12_ok nmX12 hown hK hP hD hS 0 rfl rfl 6 (by decide) m_1655 rfl (tyX12_ok 6 (by decide)) rfl rfl (Nat.le_of_ble_eq_true rfl) rfl dX12_guestCount_2 (fun H locs hP hD hS => ?_)
  refine lv_aload_n hx hb dX12_guestCount_5 rfl (lv_at hl 0 rfl) ?_
  refine gt_f (C := RX12) (T := TX12) (N := 17) hx hb ha in_X12 hown hK hP 0 rfl rfl 0 (by decide) m_1649 rfl dX12_guestCount_6 ?_
  refine lv_iconst (v := 1) hx hb dX12_guestCount_9 (by decide) ?_
  obtain ⟨hi, hf⟩ := sf_ge hf
  refine ia_ld hx hb hK hP 1 rfl hi dX12_guestCount_10 ?_
  cases hf
  exact rt_Mi hx hb hr hlocks (hP.sub [0, 1, 2, 3, 4, 5, 6, 7] rfl) (hD.sub [0, 1, 2, 3, 4, 5, 6, 7] (by decide) rfl) hS dX12_guestCount_11

def f_X12_coins (ms : Nat → Int32) (mt : Int32) (p0 : Int32) : Option (Int32 × Int32) :=
  sf_c1 (f_X12_isGuest ms p0) (fun r_1 => sf_c2 (f_X12_isThere mt r_1) (fun r_2 x_3 => sf_b (r_2 = (0 : Int32)) (some ((0 : Int32), x_3)) (sf_c1 (f_X12_guest ms p0 (0 : Int32)) (fun r_4 => some (r_4, x_3)))))
theorem yd_X12_coins : yX12_coins.cls = RX12 ∧ yX12_coins.cls ≠ "java/lang/invoke/MethodHandle" ∧ yX12_coins.cls ≠ "java/lang/invoke/VarHandle" ∧ (parseMethodDescriptor yX12_coins.desc).map (fun d => d.parameters.length) = some 1 := ⟨rfl, by decide, by decide, by decide +kernel⟩
set_option maxRecDepth 100000 in
set_option maxHeartbeats 4000000 in
theorem c_X12_coins (l : Launch) (D : va_G) (dA : Nat → ClassId) (h0 h1 h2 h3 h4 h5 h6 h7 : Nat) (sz : Nat) (ms : Nat → Int32) (mb : Nat → Int32) (mv : Nat → Int32) (mi : Int32) (mp : Nat → Int32) (mn : Int32) (mt : Int32) (mo : Nat → Int32) (mO : Int32) (mI : Nat → Int32) (mL : Int32) (mA : Int32) (mW : Int32) (mE : Int32) (mF : Int32) (mc : Nat → Int32) (mM : Int32) (p0 : Int32) (rr : Int32) (q_mt : Int32) (hf : f_X12_coins ms mt p0 = some (rr, q_mt)) : Met l yX12_coins (wo (.code yX12_coins cX12_coins 2 (some .int))) ({ frames := 2, cells := 0, slots := 0, locals := 43 } : Room) (preM D dA [.ref h0, .int p0] sz [(h0, .inr (10, [.ref h1, .ref h2, .ref h3, .int mi, .ref h4, .int mn, .int mt, .ref h5, .int mO, .ref h6, .int mL, .int mA, .int mW, .int mE, .int mF, .ref h7, .int mM])), (h1, .inl (dA 0, 158, .inl ms)), (h2, .inl (dA 0, 158, .inl mb)), (h3, .inl (dA 0, 158, .inl mv)), (h4, .inl (dA 0, 1264, .inl mp)), (h5, .inl (dA 1, 180, .inl mo)), (h6, .inl (dA 1, 60, .inl mI)), (h7, .inl (dA 0, 240, .inl mc))]) (poMi D rr [(h0, .inr (10, [.ref h1, .ref h2, .ref h3, .int mi, .ref h4, .int mn, .int q_mt, .ref h5, .int mO, .ref h6, .int mL, .int mA, .int mW, .int mE, .int mF, .ref h7, .int mM])), (h1, .inl (dA 0, 158, .inl ms)), (h2, .inl (dA 0, 158, .inl mb)), (h3, .inl (dA 0, 158, .inl mv)), (h4, .inl (dA 0, 1264, .inl mp)), (h5, .inl (dA 1, 180, .inl mo)), (h6, .inl (dA 1, 60, .inl mI)), (h7, .inl (dA 0, 240, .inl mc))] (va_A [(h0, .inr (10, [.ref h1, .ref h2, .ref h3, .int mi, .ref h4, .int mn, .int mt, .ref h5, .int mO, .ref h6, .int mL, .int mA, .int mW, .int mE, .int mF, .ref h7, .int mM])), (h1, .inl (dA 0, 158, .inl ms)), (h2, .inl (dA 0, 158, .inl mb)), (h3, .inl (dA 0, 158, .inl mv)), (h4, .inl (dA 0, 1264, .inl mp)), (h5, .inl (dA 1, 180, .inl mo)), (h6, .inl (dA 1, 60, .inl mI)), (h7, .inl (dA 0, 240, .inl mc))] sz)) 0 0 (va_A [(h0, .inr (10, [.ref h1, .ref h2, .ref h3, .int mi, .ref h4, .int mn, .int mt, .ref h5, .int mO, .ref h6, .int mL, .int mA, .int mW, .int mE, .int mF, .ref h7, .int mM])), (h1, .inl (dA 0, 158, .inl ms)), (h2, .inl (dA 0, 158, .inl mb)), (h3, .inl (dA 0, 158, .inl mv)), (h4, .inl (dA 0, 1264, .inl mp)), (h5, .inl (dA 1, 180, .inl mo)), (h6, .inl (dA 1, 60, .inl mI)), (h7, .inl (dA 0, 240, .inl mc))] sz) := by
  refine of_M (y := yX12_coins) (av := [.ref h0, .int p0]) (ws := [(h0, .inr (10, [.ref h1, .ref h2, .ref h3, .int mi, .ref h4, .int mn, .int mt, .ref h5, .int mO, .ref h6, .int mL, .int mA, .int mW, .int mE, .int mF, .ref h7, .int mM])), (h1, .inl (dA 0, 158, .inl ms)), (h2, .inl (dA 0, 158, .inl mb)), (h3, .inl (dA 0, 158, .inl mv)), (h4, .inl (dA 0, 1264, .inl mp)), (h5, .inl (dA 1, 180, .inl mo)), (h6, .inl (dA 1, 60, .inl mI)), (h7, .inl (dA 0, 240, .inl mc))]) (sz := sz) (own := RX12) (Qc := poMi D rr [(h0, .inr (10, [.ref h1, .ref h2, .ref h3, .int mi, .ref h4, .int mn, .int q_mt, .ref h5, .int mO, .ref h6, .int mL, .int mA, .int mW, .int mE, .int mF, .ref h7, .int mM])), (h1, .inl (dA 0, 158, .inl ms)), (h2, .inl (dA 0, 158, .inl mb)), (h3, .inl (dA 0, 158, .inl mv)), (h4, .inl (dA 0, 1264, .inl mp)), (h5, .inl (dA 1, 180, .inl mo)), (h6, .inl (dA 1, 60, .inl mI)), (h7, .inl (dA 0, 240, .inl mc))]) (by decide) rfl (Nat.le_of_ble_eq_true rfl) ?_
  intro p e s m below meth c A hx hb hr ha hown hml hlocks hin hP hK hD hS hA ls hl
  have hl : lv_has ls 2 [(0, .ref h0), (1, .int p0)] := hl
  rw [f_X12_coins] at hf
  refine lv_aload_n hx hb dX12_coins_0 rfl (lv_at hl 0 rfl) ?_
  refine lv_aload_n hx hb dX12_coins_1 rfl (lv_at hl 0 rfl) ?_
  refine lv_iload_n hx hb dX12_coins_2 rfl (lv_at hl 1 rfl) ?_
  obtain ⟨r_1, hc1, hf⟩ := sf_c1e hf
  refine k_Pi (run_PV (As := [.int p0]) (rest := [.ref h0]) ⟨hx, hb, hml, hown, ha⟩ (c_X12_isGuest l D dA h0 h1 h2 h3 h4 h5 h6 h7  ms mb mv mi mp mn mt mo mO mI mL mA mW mE mF mc mM p0 _ hc1) (gi_V m_1745 m_1747 m_36 m_85 m_1748) yd_X12_isGuest ⟨Nat.le_of_ble_eq_true rfl, Nat.le_of_ble_eq_true rfl⟩ ⟨rfl, rfl⟩ hK hP [0, 1, 2, 3, 4, 5, 6, 7] rfl 0 10 rfl rfl rfl rfl hl.1 rfl (Nat.le_of_ble_eq_true rfl) dX12_coins_3 ⟨Nat.le_of_ble_eq_true rfl, Nat.le_of_ble_eq_true rfl⟩) hP hS (fun H locs hP hS => ?_)
  obtain ⟨r_2, x_3, hc3, hf⟩ := sf_c2e hf
  refine k_Mi (wr := []) (run_MV (As := [.int r_1]) (rest := []) ⟨hx, hb, hml, hown, ha⟩ (c_X12_isThere l D dA h0 h1 h2 h3 h4 h5 h6 h7 _ ms mb mv mi mp mn mt mo mO mI mL mA mW mE mF mc mM r_1 _ _ hc3) (gi_V m_1867 m_1869 m_59 m_85 m_1870) yd_X12_isThere ⟨Nat.le_of_ble_eq_true rfl, Nat.le_of_ble_eq_true rfl⟩ ⟨rfl, rfl⟩ hK hP hD [0, 1, 2, 3, 4, 5, 6, 7] (by decide) rfl 0 10 rfl rfl rfl rfl hl.1 rfl (Nat.le_of_ble_eq_true rfl) dX12_coins_6 ⟨Nat.le_of_ble_eq_true rfl, Nat.le_of_ble_eq_true rfl⟩) hP hD hS hA [0, 1, 2, 3, 4, 5, 6, 7] [] rfl rfl (by decide) (by decide) (fun H locs hP hD hS => ?_)
  refine lv_if_eq (tgt := 21) hx hb dX12_coins_9 (by decide) (fun hc => ?_) (fun hc => ?_)
  · have hf := sf_bp hf hc
    refine lv_iconst (v := 0) hx hb dX12_coins_21 (by decide) ?_
    cases hf
    exact rt_Mi hx hb hr hlocks (hP.sub [0, 1, 2, 3, 4, 5, 6, 7] rfl) (hD.sub [0, 1, 2, 3, 4, 5, 6, 7] (by decide) rfl) hS dX12_coins_22
  · have hf := sf_bn hf hc
    refine lv_aload_n hx hb dX12_coins_12 rfl (lv_at hl 0 rfl) ?_
    refine lv_iload_n hx hb dX12_coins_13 rfl (lv_at hl 1 rfl) ?_
    refine lv_iconst (v := 0) hx hb dX12_coins_14 (by decide) ?_
    obtain ⟨r_4, hc4, hf⟩ := sf_c1e hf
    refine k_Pi (run_PV (As := [.int p0, .int (0 : Int32)]) (rest := []) ⟨hx, hb, hml, hown, ha⟩ (c_X12_guest l D dA h0 h1 h2 h3 h4 h5 h6 h7  ms mb mv mi mp mn x_3 mo mO mI mL mA mW mE mF mc mM p0 (0 : Int32) _ hc4) (gi_V m_1757 m_1759 m_39 m_85 m_1760) yd_X12_guest ⟨Nat.le_of_ble_eq_true rfl, Nat.le_of_ble_eq_true rfl⟩ ⟨rfl, rfl⟩ hK hP [0, 1, 2, 3, 4, 5, 6, 7] rfl 0 10 rfl rfl rfl rfl hl.1 rfl (Nat.le_of_ble_eq_true rfl) dX12_coins_15 ⟨Nat.le_of_ble_eq_true rfl, Nat.le_of_ble_eq_true rfl⟩) hP hS (fun H locs hP hS => ?_)
    refine lv_goto (tgt := 22) hx hb dX12_coins_18 (by decide) ?_
    cases hf
    exact rt_Mi hx hb hr hlocks (hP.sub [0, 1, 2, 3, 4, 5, 6, 7] rfl) (hD.sub [0, 1, 2, 3, 4, 5, 6, 7] (by decide) rfl) hS dX12_coins_22

def f_X12_queueOf (ms : Nat → Int32) (mt : Int32) (p0 : Int32) : Option (Int32 × Int32) :=
  sf_c1 (f_X12_isGuest ms p0) (fun r_1 => sf_b (r_1 = (0 : Int32)) (some ((0 : Int32), (1 : Int32))) (sf_c1 (f_X12_guest ms p0 (2 : Int32)) (fun r_2 => sf_b (r_2 = (0 : Int32)) (some ((0 : Int32), (2 : Int32))) (sf_c1 (f_X12_guest ms p0 (2 : Int32)) (fun r_3 => some ((r_3 - (1 : Int32)), (0 : Int32)))))))
theorem yd_X12_queueOf : yX12_queueOf.cls = RX12 ∧ yX12_queueOf.cls ≠ "java/lang/invoke/MethodHandle" ∧ yX12_queueOf.cls ≠ "java/lang/invoke/VarHandle" ∧ (parseMethodDescriptor yX12_queueOf.desc).map (fun d => d.parameters.length) = some 1 := ⟨rfl, by decide, by decide, by decide +kernel⟩
set_option maxRecDepth 100000 in
set_option maxHeartbeats 4000000 in
theorem c_X12_queueOf (l : Launch) (D : va_G) (dA : Nat → ClassId) (h0 h1 h2 h3 h4 h5 h6 h7 : Nat) (sz : Nat) (ms : Nat → Int32) (mb : Nat → Int32) (mv : Nat → Int32) (mi : Int32) (mp : Nat → Int32) (mn : Int32) (mt : Int32) (mo : Nat → Int32) (mO : Int32) (mI : Nat → Int32) (mL : Int32) (mA : Int32) (mW : Int32) (mE : Int32) (mF : Int32) (mc : Nat → Int32) (mM : Int32) (p0 : Int32) (rr : Int32) (q_mt : Int32) (hf : f_X12_queueOf ms mt p0 = some (rr, q_mt)) : Met l yX12_queueOf (wo (.code yX12_queueOf cX12_queueOf 2 (some .int))) ({ frames := 2, cells := 0, slots := 0, locals := 43 } : Room) (preM D dA [.ref h0, .int p0] sz [(h0, .inr (10, [.ref h1, .ref h2, .ref h3, .int mi, .ref h4, .int mn, .int mt, .ref h5, .int mO, .ref h6, .int mL, .int mA, .int mW, .int mE, .int mF, .ref h7, .int mM])), (h1, .inl (dA 0, 158, .inl ms)), (h2, .inl (dA 0, 158, .inl mb)), (h3, .inl (dA 0, 158, .inl mv)), (h4, .inl (dA 0, 1264, .inl mp)), (h5, .inl (dA 1, 180, .inl mo)), (h6, .inl (dA 1, 60, .inl mI)), (h7, .inl (dA 0, 240, .inl mc))]) (poMi D rr [(h0, .inr (10, [.ref h1, .ref h2, .ref h3, .int mi, .ref h4, .int mn, .int q_mt, .ref h5, .int mO, .ref h6, .int mL, .int mA, .int mW, .int mE, .int mF, .ref h7, .int mM])), (h1, .inl (dA 0, 158, .inl ms)), (h2, .inl (dA 0, 158, .inl mb)), (h3, .inl (dA 0, 158, .inl mv)), (h4, .inl (dA 0, 1264, .inl mp)), (h5, .inl (dA 1, 180, .inl mo)), (h6, .inl (dA 1, 60, .inl mI)), (h7, .inl (dA 0, 240, .inl mc))] (va_A [(h0, .inr (10, [.ref h1, .ref h2, .ref h3, .int mi, .ref h4, .int mn, .int mt, .ref h5, .int mO, .ref h6, .int mL, .int mA, .int mW, .int mE, .int mF, .ref h7, .int mM])), (h1, .inl (dA 0, 158, .inl ms)), (h2, .inl (dA 0, 158, .inl mb)), (h3, .inl (dA 0, 158, .inl mv)), (h4, .inl (dA 0, 1264, .inl mp)), (h5, .inl (dA 1, 180, .inl mo)), (h6, .inl (dA 1, 60, .inl mI)), (h7, .inl (dA 0, 240, .inl mc))] sz)) 0 0 (va_A [(h0, .inr (10, [.ref h1, .ref h2, .ref h3, .int mi, .ref h4, .int mn, .int mt, .ref h5, .int mO, .ref h6, .int mL, .int mA, .int mW, .int mE, .int mF, .ref h7, .int mM])), (h1, .inl (dA 0, 158, .inl ms)), (h2, .inl (dA 0, 158, .inl mb)), (h3, .inl (dA 0, 158, .inl mv)), (h4, .inl (dA 0, 1264, .inl mp)), (h5, .inl (dA 1, 180, .inl mo)), (h6, .inl (dA 1, 60, .inl mI)), (h7, .inl (dA 0, 240, .inl mc))] sz) := by
  refine of_M (y := yX12_queueOf) (av := [.ref h0, .int p0]) (ws := [(h0, .inr (10, [.ref h1, .ref h2, .ref h3, .int mi, .ref h4, .int mn, .int mt, .ref h5, .int mO, .ref h6, .int mL, .int mA, .int mW, .int mE, .int mF, .ref h7, .int mM])), (h1, .inl (dA 0, 158, .inl ms)), (h2, .inl (dA 0, 158, .inl mb)), (h3, .inl (dA 0, 158, .inl mv)), (h4, .inl (dA 0, 1264, .inl mp)), (h5, .inl (dA 1, 180, .inl mo)), (h6, .inl (dA 1, 60, .inl mI)), (h7, .inl (dA 0, 240, .inl mc))]) (sz := sz) (own := RX12) (Qc := poMi D rr [(h0, .inr (10, [.ref h1, .ref h2, .ref h3, .int mi, .ref h4, .int mn, .int q_mt, .ref h5, .int mO, .ref h6, .int mL, .int mA, .int mW, .int mE, .int mF, .ref h7, .int mM])), (h1, .inl (dA 0, 158, .inl ms)), (h2, .inl (dA 0, 158, .inl mb)), (h3, .inl (dA 0, 158, .inl mv)), (h4, .inl (dA 0, 1264, .inl mp)), (h5, .inl (dA 1, 180, .inl mo)), (h6, .inl (dA 1, 60, .inl mI)), (h7, .inl (dA 0, 240, .inl mc))]) (by decide) rfl (Nat.le_of_ble_eq_true rfl) ?_
  intro p e s m below meth c A hx hb hr ha hown hml hlocks hin hP hK hD hS hA ls hl
  have hl : lv_has ls 2 [(0, .ref h0), (1, .int p0)] := hl
  rw [f_X12_queueOf] at hf
  refine lv_aload_n hx hb dX12_queueOf_0 rfl (lv_at hl 0 rfl) ?_
  refine lv_aload_n hx hb dX12_queueOf_1 rfl (lv_at hl 0 rfl) ?_
  refine lv_iload_n hx hb dX12_queueOf_2 rfl (lv_at hl 1 rfl) ?_
  obtain ⟨r_1, hc1, hf⟩ := sf_c1e hf
  refine k_Pi (run_PV (As := [.int p0]) (rest := [.ref h0]) ⟨hx, hb, hml, hown, ha⟩ (c_X12_isGuest l D dA h0 h1 h2 h3 h4 h5 h6 h7  ms mb mv mi mp mn mt mo mO mI mL mA mW mE mF mc mM p0 _ hc1) (gi_V m_1745 m_1747 m_36 m_85 m_1748) yd_X12_isGuest ⟨Nat.le_of_ble_eq_true rfl, Nat.le_of_ble_eq_true rfl⟩ ⟨rfl, rfl⟩ hK hP [0, 1, 2, 3, 4, 5, 6, 7] rfl 0 10 rfl rfl rfl rfl hl.1 rfl (Nat.le_of_ble_eq_true rfl) dX12_queueOf_3 ⟨Nat.le_of_ble_eq_true rfl, Nat.le_of_ble_eq_true rfl⟩) hP hS (fun H locs hP hS => ?_)
  refine lv_if_ne (tgt := 13) hx hb dX12_queueOf_6 (by decide) (fun hc => ?_) (fun hc => ?_)
  · have hf := sf_bn hf hc
    refine lv_aload_n hx hb dX12_queueOf_13 rfl (lv_at hl 0 rfl) ?_
    refine lv_iload_n hx hb dX12_queueOf_14 rfl (lv_at hl 1 rfl) ?_
    refine lv_iconst (v := 2) hx hb dX12_queueOf_15 (by decide) ?_
    obtain ⟨r_2, hc2, hf⟩ := sf_c1e hf
    refine k_Pi (run_PV (As := [.int p0, .int (2 : Int32)]) (rest := [.ref h0]) ⟨hx, hb, hml, hown, ha⟩ (c_X12_guest l D dA h0 h1 h2 h3 h4 h5 h6 h7  ms mb mv mi mp mn mt mo mO mI mL mA mW mE mF mc mM p0 (2 : Int32) _ hc2) (gi_V m_1757 m_1759 m_39 m_85 m_1760) yd_X12_guest ⟨Nat.le_of_ble_eq_true rfl, Nat.le_of_ble_eq_true rfl⟩ ⟨rfl, rfl⟩ hK hP [0, 1, 2, 3, 4, 5, 6, 7] rfl 0 10 rfl rfl rfl rfl hl.1 rfl (Nat.le_of_ble_eq_true rfl) dX12_queueOf_16 ⟨Nat.le_of_ble_eq_true rfl, Nat.le_of_ble_eq_true rfl⟩) hP hS (fun H locs hP hS => ?_)
    refine lv_if_ne (tgt := 26) hx hb dX12_queueOf_19 (by decide) (fun hc => ?_) (fun hc => ?_)
    · have hf := sf_bn hf hc
      refine lv_iconst (v := 0) hx hb dX12_queueOf_26 (by decide) ?_
      refine pt_f (C := RX12) (T := TX12) (N := 17) (ws' := [(h0, .inr (10, [.ref h1, .ref h2, .ref h3, .int mi, .ref h4, .int mn, .int (0 : Int32), .ref h5, .int mO, .ref h6, .int mL, .int mA, .int mW, .int mE, .int mF, .ref h7, .int mM])), (h1, .inl (dA 0, 158, .inl ms)), (h2, .inl (dA 0, 158, .inl mb)), (h3, .inl (dA 0, 158, .inl mv)), (h4, .inl (dA 0, 1264, .inl mp)), (h5, .inl (dA 1, 180, .inl mo)), (h6, .inl (dA 1, 60, .inl mI)), (h7, .inl (dA 0, 240, .inl mc))]) (ty := .int) hx hb ha in_X12 tyX12 tyX12_ok nmX12 hown hK hP hD hS 0 rfl rfl 6 (by decide) m_1655 rfl (tyX12_ok 6 (by decide)) rfl rfl (Nat.le_of_ble_eq_true rfl) rfl dX12_queueOf_27 (fun H locs hP hD hS => ?_)
      refine lv_aload_n hx hb dX12_queueOf_30 rfl (lv_at hl 0 rfl) ?_
      refine gt_f (C := RX12) (T := TX12) (N := 17) hx hb ha in_X12 hown hK hP 0 rfl rfl 6 (by decide) m_1655 rfl dX12_queueOf_31 ?_
      refine lv_if_le (tgt := 41) hx hb dX12_queueOf_34 (by decide) (fun hc => ?_) (fun hc => absurd (by decide) hc)
      refine lv_aload_n hx hb dX12_queueOf_41 rfl (lv_at hl 0 rfl) ?_
      refine lv_iload_n hx hb dX12_queueOf_42 rfl (lv_at hl 1 rfl) ?_
      refine lv_iconst (v := 2) hx hb dX12_queueOf_43 (by decide) ?_
      obtain ⟨r_3, hc3, hf⟩ := sf_c1e hf
      refine k_Pi (run_PV (As := [.int p0, .int (2 : Int32)]) (rest := []) ⟨hx, hb, hml, hown, ha⟩ (c_X12_guest l D dA h0 h1 h2 h3 h4 h5 h6 h7  ms mb mv mi mp mn (0 : Int32) mo mO mI mL mA mW mE mF mc mM p0 (2 : Int32) _ hc3) (gi_V m_1757 m_1759 m_39 m_85 m_1760) yd_X12_guest ⟨Nat.le_of_ble_eq_true rfl, Nat.le_of_ble_eq_true rfl⟩ ⟨rfl, rfl⟩ hK hP [0, 1, 2, 3, 4, 5, 6, 7] rfl 0 10 rfl rfl rfl rfl hl.1 rfl (Nat.le_of_ble_eq_true rfl) dX12_queueOf_44 ⟨Nat.le_of_ble_eq_true rfl, Nat.le_of_ble_eq_true rfl⟩) hP hS (fun H locs hP hS => ?_)
      refine lv_iconst (v := 1) hx hb dX12_queueOf_47 (by decide) ?_
      refine lv_isub hx hb dX12_queueOf_48 ?_
      cases hf
      exact rt_Mi hx hb hr hlocks (hP.sub [0, 1, 2, 3, 4, 5, 6, 7] rfl) (hD.sub [0, 1, 2, 3, 4, 5, 6, 7] (by decide) rfl) hS dX12_queueOf_49
    · have hf := sf_bp hf hc
      refine lv_iconst (v := 2) hx hb dX12_queueOf_22 (by decide) ?_
      refine lv_goto (tgt := 27) hx hb dX12_queueOf_23 (by decide) ?_
      refine pt_f (C := RX12) (T := TX12) (N := 17) (ws' := [(h0, .inr (10, [.ref h1, .ref h2, .ref h3, .int mi, .ref h4, .int mn, .int (2 : Int32), .ref h5, .int mO, .ref h6, .int mL, .int mA, .int mW, .int mE, .int mF, .ref h7, .int mM])), (h1, .inl (dA 0, 158, .inl ms)), (h2, .inl (dA 0, 158, .inl mb)), (h3, .inl (dA 0, 158, .inl mv)), (h4, .inl (dA 0, 1264, .inl mp)), (h5, .inl (dA 1, 180, .inl mo)), (h6, .inl (dA 1, 60, .inl mI)), (h7, .inl (dA 0, 240, .inl mc))]) (ty := .int) hx hb ha in_X12 tyX12 tyX12_ok nmX12 hown hK hP hD hS 0 rfl rfl 6 (by decide) m_1655 rfl (tyX12_ok 6 (by decide)) rfl rfl (Nat.le_of_ble_eq_true rfl) rfl dX12_queueOf_27 (fun H locs hP hD hS => ?_)
      refine lv_aload_n hx hb dX12_queueOf_30 rfl (lv_at hl 0 rfl) ?_
      refine gt_f (C := RX12) (T := TX12) (N := 17) hx hb ha in_X12 hown hK hP 0 rfl rfl 6 (by decide) m_1655 rfl dX12_queueOf_31 ?_
      refine lv_if_le (tgt := 41) hx hb dX12_queueOf_34 (by decide) (fun hc => absurd hc (by decide)) (fun hc => ?_)
      refine lv_iconst (v := 0) hx hb dX12_queueOf_37 (by decide) ?_
      refine lv_goto (tgt := 49) hx hb dX12_queueOf_38 (by decide) ?_
      cases hf
      exact rt_Mi hx hb hr hlocks (hP.sub [0, 1, 2, 3, 4, 5, 6, 7] rfl) (hD.sub [0, 1, 2, 3, 4, 5, 6, 7] (by decide) rfl) hS dX12_queueOf_49
  · have hf := sf_bp hf hc
    refine lv_iconst (v := 1) hx hb dX12_queueOf_9 (by decide) ?_
    refine lv_goto (tgt := 27) hx hb dX12_queueOf_10 (by decide) ?_
    refine pt_f (C := RX12) (T := TX12) (N := 17) (ws' := [(h0, .inr (10, [.ref h1, .ref h2, .ref h3, .int mi, .ref h4, .int mn, .int (1 : Int32), .ref h5, .int mO, .ref h6, .int mL, .int mA, .int mW, .int mE, .int mF, .ref h7, .int mM])), (h1, .inl (dA 0, 158, .inl ms)), (h2, .inl (dA 0, 158, .inl mb)), (h3, .inl (dA 0, 158, .inl mv)), (h4, .inl (dA 0, 1264, .inl mp)), (h5, .inl (dA 1, 180, .inl mo)), (h6, .inl (dA 1, 60, .inl mI)), (h7, .inl (dA 0, 240, .inl mc))]) (ty := .int) hx hb ha in_X12 tyX12 tyX12_ok nmX12 hown hK hP hD hS 0 rfl rfl 6 (by decide) m_1655 rfl (tyX12_ok 6 (by decide)) rfl rfl (Nat.le_of_ble_eq_true rfl) rfl dX12_queueOf_27 (fun H locs hP hD hS => ?_)
    refine lv_aload_n hx hb dX12_queueOf_30 rfl (lv_at hl 0 rfl) ?_
    refine gt_f (C := RX12) (T := TX12) (N := 17) hx hb ha in_X12 hown hK hP 0 rfl rfl 6 (by decide) m_1655 rfl dX12_queueOf_31 ?_
    refine lv_if_le (tgt := 41) hx hb dX12_queueOf_34 (by decide) (fun hc => absurd hc (by decide)) (fun hc => ?_)
    refine lv_iconst (v := 0) hx hb dX12_queueOf_37 (by decide) ?_
    refine lv_goto (tgt := 49) hx hb dX12_queueOf_38 (by decide) ?_
    cases hf
    exact rt_Mi hx hb hr hlocks (hP.sub [0, 1, 2, 3, 4, 5, 6, 7] rfl) (hD.sub [0, 1, 2, 3, 4, 5, 6, 7] (by decide) rfl) hS dX12_queueOf_49

def f_X12_queueLength (ms : Nat → Int32) (mt : Int32) (p0 : Int32) : Option (Int32 × Int32) :=
  sf_c1 (f_X12_isSlide ms p0) (fun r_1 => sf_c2 (f_X12_isThere mt r_1) (fun r_2 x_3 => sf_b (r_2 = (0 : Int32)) (some ((0 : Int32), x_3)) (sf_c1 (f_X12_slide ms p0 (3 : Int32)) (fun r_4 => some (r_4, x_3)))))
theorem yd_X12_queueLength : yX12_queueLength.cls = RX12 ∧ yX12_queueLength.cls ≠ "java/lang/invoke/MethodHandle" ∧ yX12_queueLength.cls ≠ "java/lang/invoke/VarHandle" ∧ (parseMethodDescriptor yX12_queueLength.desc).map (fun d => d.parameters.length) = some 1 := ⟨rfl, by decide, by decide, by decide +kernel⟩
set_option maxRecDepth 100000 in
set_option maxHeartbeats 4000000 in
theorem c_X12_queueLength (l : Launch) (D : va_G) (dA : Nat → ClassId) (h0 h1 h2 h3 h4 h5 h6 h7 : Nat) (sz : Nat) (ms : Nat → Int32) (mb : Nat → Int32) (mv : Nat → Int32) (mi : Int32) (mp : Nat → Int32) (mn : Int32) (mt : Int32) (mo : Nat → Int32) (mO : Int32) (mI : Nat → Int32) (mL : Int32) (mA : Int32) (mW : Int32) (mE : Int32) (mF : Int32) (mc : Nat → Int32) (mM : Int32) (p0 : Int32) (rr : Int32) (q_mt : Int32) (hf : f_X12_queueLength ms mt p0 = some (rr, q_mt)) : Met l yX12_queueLength (wo (.code yX12_queueLength cX12_queueLength 2 (some .int))) ({ frames := 2, cells := 0, slots := 0, locals := 43 } : Room) (preM D dA [.ref h0, .int p0] sz [(h0, .inr (10, [.ref h1, .ref h2, .ref h3, .int mi, .ref h4, .int mn, .int mt, .ref h5, .int mO, .ref h6, .int mL, .int mA, .int mW, .int mE, .int mF, .ref h7, .int mM])), (h1, .inl (dA 0, 158, .inl ms)), (h2, .inl (dA 0, 158, .inl mb)), (h3, .inl (dA 0, 158, .inl mv)), (h4, .inl (dA 0, 1264, .inl mp)), (h5, .inl (dA 1, 180, .inl mo)), (h6, .inl (dA 1, 60, .inl mI)), (h7, .inl (dA 0, 240, .inl mc))]) (poMi D rr [(h0, .inr (10, [.ref h1, .ref h2, .ref h3, .int mi, .ref h4, .int mn, .int q_mt, .ref h5, .int mO, .ref h6, .int mL, .int mA, .int mW, .int mE, .int mF, .ref h7, .int mM])), (h1, .inl (dA 0, 158, .inl ms)), (h2, .inl (dA 0, 158, .inl mb)), (h3, .inl (dA 0, 158, .inl mv)), (h4, .inl (dA 0, 1264, .inl mp)), (h5, .inl (dA 1, 180, .inl mo)), (h6, .inl (dA 1, 60, .inl mI)), (h7, .inl (dA 0, 240, .inl mc))] (va_A [(h0, .inr (10, [.ref h1, .ref h2, .ref h3, .int mi, .ref h4, .int mn, .int mt, .ref h5, .int mO, .ref h6, .int mL, .int mA, .int mW, .int mE, .int mF, .ref h7, .int mM])), (h1, .inl (dA 0, 158, .inl ms)), (h2, .inl (dA 0, 158, .inl mb)), (h3, .inl (dA 0, 158, .inl mv)), (h4, .inl (dA 0, 1264, .inl mp)), (h5, .inl (dA 1, 180, .inl mo)), (h6, .inl (dA 1, 60, .inl mI)), (h7, .inl (dA 0, 240, .inl mc))] sz)) 0 0 (va_A [(h0, .inr (10, [.ref h1, .ref h2, .ref h3, .int mi, .ref h4, .int mn, .int mt, .ref h5, .int mO, .ref h6, .int mL, .int mA, .int mW, .int mE, .int mF, .ref h7, .int mM])), (h1, .inl (dA 0, 158, .inl ms)), (h2, .inl (dA 0, 158, .inl mb)), (h3, .inl (dA 0, 158, .inl mv)), (h4, .inl (dA 0, 1264, .inl mp)), (h5, .inl (dA 1, 180, .inl mo)), (h6, .inl (dA 1, 60, .inl mI)), (h7, .inl (dA 0, 240, .inl mc))] sz) := by
  refine of_M (y := yX12_queueLength) (av := [.ref h0, .int p0]) (ws := [(h0, .inr (10, [.ref h1, .ref h2, .ref h3, .int mi, .ref h4, .int mn, .int mt, .ref h5, .int mO, .ref h6, .int mL, .int mA, .int mW, .int mE, .int mF, .ref h7, .int mM])), (h1, .inl (dA 0, 158, .inl ms)), (h2, .inl (dA 0, 158, .inl mb)), (h3, .inl (dA 0, 158, .inl mv)), (h4, .inl (dA 0, 1264, .inl mp)), (h5, .inl (dA 1, 180, .inl mo)), (h6, .inl (dA 1, 60, .inl mI)), (h7, .inl (dA 0, 240, .inl mc))]) (sz := sz) (own := RX12) (Qc := poMi D rr [(h0, .inr (10, [.ref h1, .ref h2, .ref h3, .int mi, .ref h4, .int mn, .int q_mt, .ref h5, .int mO, .ref h6, .int mL, .int mA, .int mW, .int mE, .int mF, .ref h7, .int mM])), (h1, .inl (dA 0, 158, .inl ms)), (h2, .inl (dA 0, 158, .inl mb)), (h3, .inl (dA 0, 158, .inl mv)), (h4, .inl (dA 0, 1264, .inl mp)), (h5, .inl (dA 1, 180, .inl mo)), (h6, .inl (dA 1, 60, .inl mI)), (h7, .inl (dA 0, 240, .inl mc))]) (by decide) rfl (Nat.le_of_ble_eq_true rfl) ?_
  intro p e s m below meth c A hx hb hr ha hown hml hlocks hin hP hK hD hS hA ls hl
  have hl : lv_has ls 2 [(0, .ref h0), (1, .int p0)] := hl
  rw [f_X12_queueLength] at hf
  refine lv_aload_n hx hb dX12_queueLength_0 rfl (lv_at hl 0 rfl) ?_
  refine lv_aload_n hx hb dX12_queueLength_1 rfl (lv_at hl 0 rfl) ?_
  refine lv_iload_n hx hb dX12_queueLength_2 rfl (lv_at hl 1 rfl) ?_
  obtain ⟨r_1, hc1, hf⟩ := sf_c1e hf
  refine k_Pi (run_PV (As := [.int p0]) (rest := [.ref h0]) ⟨hx, hb, hml, hown, ha⟩ (c_X12_isSlide l D dA h0 h1 h2 h3 h4 h5 h6 h7  ms mb mv mi mp mn mt mo mO mI mL mA mW mE mF mc mM p0 _ hc1) (gi_V m_1749 m_1751 m_37 m_85 m_1752) yd_X12_isSlide ⟨Nat.le_of_ble_eq_true rfl, Nat.le_of_ble_eq_true rfl⟩ ⟨rfl, rfl⟩ hK hP [0, 1, 2, 3, 4, 5, 6, 7] rfl 0 10 rfl rfl rfl rfl hl.1 rfl (Nat.le_of_ble_eq_true rfl) dX12_queueLength_3 ⟨Nat.le_of_ble_eq_true rfl, Nat.le_of_ble_eq_true rfl⟩) hP hS (fun H locs hP hS => ?_)
  obtain ⟨r_2, x_3, hc3, hf⟩ := sf_c2e hf
  refine k_Mi (wr := []) (run_MV (As := [.int r_1]) (rest := []) ⟨hx, hb, hml, hown, ha⟩ (c_X12_isThere l D dA h0 h1 h2 h3 h4 h5 h6 h7 _ ms mb mv mi mp mn mt mo mO mI mL mA mW mE mF mc mM r_1 _ _ hc3) (gi_V m_1867 m_1869 m_59 m_85 m_1870) yd_X12_isThere ⟨Nat.le_of_ble_eq_true rfl, Nat.le_of_ble_eq_true rfl⟩ ⟨rfl, rfl⟩ hK hP hD [0, 1, 2, 3, 4, 5, 6, 7] (by decide) rfl 0 10 rfl rfl rfl rfl hl.1 rfl (Nat.le_of_ble_eq_true rfl) dX12_queueLength_6 ⟨Nat.le_of_ble_eq_true rfl, Nat.le_of_ble_eq_true rfl⟩) hP hD hS hA [0, 1, 2, 3, 4, 5, 6, 7] [] rfl rfl (by decide) (by decide) (fun H locs hP hD hS => ?_)
  refine lv_if_eq (tgt := 21) hx hb dX12_queueLength_9 (by decide) (fun hc => ?_) (fun hc => ?_)
  · have hf := sf_bp hf hc
    refine lv_iconst (v := 0) hx hb dX12_queueLength_21 (by decide) ?_
    cases hf
    exact rt_Mi hx hb hr hlocks (hP.sub [0, 1, 2, 3, 4, 5, 6, 7] rfl) (hD.sub [0, 1, 2, 3, 4, 5, 6, 7] (by decide) rfl) hS dX12_queueLength_22
  · have hf := sf_bn hf hc
    refine lv_aload_n hx hb dX12_queueLength_12 rfl (lv_at hl 0 rfl) ?_
    refine lv_iload_n hx hb dX12_queueLength_13 rfl (lv_at hl 1 rfl) ?_
    refine lv_iconst (v := 3) hx hb dX12_queueLength_14 (by decide) ?_
    obtain ⟨r_4, hc4, hf⟩ := sf_c1e hf
    refine k_Pi (run_PV (As := [.int p0, .int (3 : Int32)]) (rest := []) ⟨hx, hb, hml, hown, ha⟩ (c_X12_slide l D dA h0 h1 h2 h3 h4 h5 h6 h7  ms mb mv mi mp mn x_3 mo mO mI mL mA mW mE mF mc mM p0 (3 : Int32) _ hc4) (gi_V m_1761 m_1763 m_40 m_85 m_1764) yd_X12_slide ⟨Nat.le_of_ble_eq_true rfl, Nat.le_of_ble_eq_true rfl⟩ ⟨rfl, rfl⟩ hK hP [0, 1, 2, 3, 4, 5, 6, 7] rfl 0 10 rfl rfl rfl rfl hl.1 rfl (Nat.le_of_ble_eq_true rfl) dX12_queueLength_15 ⟨Nat.le_of_ble_eq_true rfl, Nat.le_of_ble_eq_true rfl⟩) hP hS (fun H locs hP hS => ?_)
    refine lv_goto (tgt := 22) hx hb dX12_queueLength_18 (by decide) ?_
    cases hf
    exact rt_Mi hx hb hr hlocks (hP.sub [0, 1, 2, 3, 4, 5, 6, 7] rfl) (hD.sub [0, 1, 2, 3, 4, 5, 6, 7] (by decide) rfl) hS dX12_queueLength_22

def f_X12_queuedGuest (ms : Nat → Int32) (mt : Int32) (p0 : Int32) (p1 : Int32) : Option (Int32 × Int32) :=
  sf_c1 (f_X12_isSlide ms p0) (fun r_1 => sf_b (r_1 = (0 : Int32)) (some ((0 : Int32), (1 : Int32))) (sf_c1 (f_X12_slide ms p0 (3 : Int32)) (fun r_2 => sf_c1 (f_X12_in p1 (0 : Int32) (r_2 - (1 : Int32))) (fun r_3 => sf_b (r_3 = (0 : Int32)) (some ((0 : Int32), (2 : Int32))) (sf_c1 (f_X12_queued ms p0 p1) (fun r_4 => some (r_4, (0 : Int32))))))))
theorem yd_X12_queuedGuest : yX12_queuedGuest.cls = RX12 ∧ yX12_queuedGuest.cls ≠ "java/lang/invoke/MethodHandle" ∧ yX12_queuedGuest.cls ≠ "java/lang/invoke/VarHandle" ∧ (parseMethodDescriptor yX12_queuedGuest.desc).map (fun d => d.parameters.length) = some 2 := ⟨rfl, by decide, by decide, by decide +kernel⟩
set_option maxRecDepth 100000 in
set_option maxHeartbeats 4000000 in
theorem c_X12_queuedGuest (l : Launch) (D : va_G) (dA : Nat → ClassId) (h0 h1 h2 h3 h4 h5 h6 h7 : Nat) (sz : Nat) (ms : Nat → Int32) (mb : Nat → Int32) (mv : Nat → Int32) (mi : Int32) (mp : Nat → Int32) (mn : Int32) (mt : Int32) (mo : Nat → Int32) (mO : Int32) (mI : Nat → Int32) (mL : Int32) (mA : Int32) (mW : Int32) (mE : Int32) (mF : Int32) (mc : Nat → Int32) (mM : Int32) (p0 : Int32) (p1 : Int32) (rr : Int32) (q_mt : Int32) (hf : f_X12_queuedGuest ms mt p0 p1 = some (rr, q_mt)) : Met l yX12_queuedGuest (wo (.code yX12_queuedGuest cX12_queuedGuest 3 (some .int))) ({ frames := 2, cells := 0, slots := 0, locals := 44 } : Room) (preM D dA [.ref h0, .int p0, .int p1] sz [(h0, .inr (10, [.ref h1, .ref h2, .ref h3, .int mi, .ref h4, .int mn, .int mt, .ref h5, .int mO, .ref h6, .int mL, .int mA, .int mW, .int mE, .int mF, .ref h7, .int mM])), (h1, .inl (dA 0, 158, .inl ms)), (h2, .inl (dA 0, 158, .inl mb)), (h3, .inl (dA 0, 158, .inl mv)), (h4, .inl (dA 0, 1264, .inl mp)), (h5, .inl (dA 1, 180, .inl mo)), (h6, .inl (dA 1, 60, .inl mI)), (h7, .inl (dA 0, 240, .inl mc))]) (poMi D rr [(h0, .inr (10, [.ref h1, .ref h2, .ref h3, .int mi, .ref h4, .int mn, .int q_mt, .ref h5, .int mO, .ref h6, .int mL, .int mA, .int mW, .int mE, .int mF, .ref h7, .int mM])), (h1, .inl (dA 0, 158, .inl ms)), (h2, .inl (dA 0, 158, .inl mb)), (h3, .inl (dA 0, 158, .inl mv)), (h4, .inl (dA 0, 1264, .inl mp)), (h5, .inl (dA 1, 180, .inl mo)), (h6, .inl (dA 1, 60, .inl mI)), (h7, .inl (dA 0, 240, .inl mc))] (va_A [(h0, .inr (10, [.ref h1, .ref h2, .ref h3, .int mi, .ref h4, .int mn, .int mt, .ref h5, .int mO, .ref h6, .int mL, .int mA, .int mW, .int mE, .int mF, .ref h7, .int mM])), (h1, .inl (dA 0, 158, .inl ms)), (h2, .inl (dA 0, 158, .inl mb)), (h3, .inl (dA 0, 158, .inl mv)), (h4, .inl (dA 0, 1264, .inl mp)), (h5, .inl (dA 1, 180, .inl mo)), (h6, .inl (dA 1, 60, .inl mI)), (h7, .inl (dA 0, 240, .inl mc))] sz)) 0 0 (va_A [(h0, .inr (10, [.ref h1, .ref h2, .ref h3, .int mi, .ref h4, .int mn, .int mt, .ref h5, .int mO, .ref h6, .int mL, .int mA, .int mW, .int mE, .int mF, .ref h7, .int mM])), (h1, .inl (dA 0, 158, .inl ms)), (h2, .inl (dA 0, 158, .inl mb)), (h3, .inl (dA 0, 158, .inl mv)), (h4, .inl (dA 0, 1264, .inl mp)), (h5, .inl (dA 1, 180, .inl mo)), (h6, .inl (dA 1, 60, .inl mI)), (h7, .inl (dA 0, 240, .inl mc))] sz) := by
  refine of_M (y := yX12_queuedGuest) (av := [.ref h0, .int p0, .int p1]) (ws := [(h0, .inr (10, [.ref h1, .ref h2, .ref h3, .int mi, .ref h4, .int mn, .int mt, .ref h5, .int mO, .ref h6, .int mL, .int mA, .int mW, .int mE, .int mF, .ref h7, .int mM])), (h1, .inl (dA 0, 158, .inl ms)), (h2, .inl (dA 0, 158, .inl mb)), (h3, .inl (dA 0, 158, .inl mv)), (h4, .inl (dA 0, 1264, .inl mp)), (h5, .inl (dA 1, 180, .inl mo)), (h6, .inl (dA 1, 60, .inl mI)), (h7, .inl (dA 0, 240, .inl mc))]) (sz := sz) (own := RX12) (Qc := poMi D rr [(h0, .inr (10, [.ref h1, .ref h2, .ref h3, .int mi, .ref h4, .int mn, .int q_mt, .ref h5, .int mO, .ref h6, .int mL, .int mA, .int mW, .int mE, .int mF, .ref h7, .int mM])), (h1, .inl (dA 0, 158, .inl ms)), (h2, .inl (dA 0, 158, .inl mb)), (h3, .inl (dA 0, 158, .inl mv)), (h4, .inl (dA 0, 1264, .inl mp)), (h5, .inl (dA 1, 180, .inl mo)), (h6, .inl (dA 1, 60, .inl mI)), (h7, .inl (dA 0, 240, .inl mc))]) (by decide) rfl (Nat.le_of_ble_eq_true rfl) ?_
  intro p e s m below meth c A hx hb hr ha hown hml hlocks hin hP hK hD hS hA ls hl
  have hl : lv_has ls 3 [(0, .ref h0), (1, .int p0), (2, .int p1)] := hl
  rw [f_X12_queuedGuest] at hf
  refine lv_aload_n hx hb dX12_queuedGuest_0 rfl (lv_at hl 0 rfl) ?_
  refine lv_aload_n hx hb dX12_queuedGuest_1 rfl (lv_at hl 0 rfl) ?_
  refine lv_iload_n hx hb dX12_queuedGuest_2 rfl (lv_at hl 1 rfl) ?_
  obtain ⟨r_1, hc1, hf⟩ := sf_c1e hf
  refine k_Pi (run_PV (As := [.int p0]) (rest := [.ref h0]) ⟨hx, hb, hml, hown, ha⟩ (c_X12_isSlide l D dA h0 h1 h2 h3 h4 h5 h6 h7  ms mb mv mi mp mn mt mo mO mI mL mA mW mE mF mc mM p0 _ hc1) (gi_V m_1749 m_1751 m_37 m_85 m_1752) yd_X12_isSlide ⟨Nat.le_of_ble_eq_true rfl, Nat.le_of_ble_eq_true rfl⟩ ⟨rfl, rfl⟩ hK hP [0, 1, 2, 3, 4, 5, 6, 7] rfl 0 10 rfl rfl rfl rfl hl.1 rfl (Nat.le_of_ble_eq_true rfl) dX12_queuedGuest_3 ⟨Nat.le_of_ble_eq_true rfl, Nat.le_of_ble_eq_true rfl⟩) hP hS (fun H locs hP hS => ?_)
  refine lv_if_ne (tgt := 13) hx hb dX12_queuedGuest_6 (by decide) (fun hc => ?_) (fun hc => ?_)
  · have hf := sf_bn hf hc
    refine lv_iload_n hx hb dX12_queuedGuest_13 rfl (lv_at hl 2 rfl) ?_
    refine lv_iconst (v := 0) hx hb dX12_queuedGuest_14 (by decide) ?_
    refine lv_aload_n hx hb dX12_queuedGuest_15 rfl (lv_at hl 0 rfl) ?_
    refine lv_iload_n hx hb dX12_queuedGuest_16 rfl (lv_at hl 1 rfl) ?_
    refine lv_iconst (v := 3) hx hb dX12_queuedGuest_17 (by decide) ?_
    obtain ⟨r_2, hc2, hf⟩ := sf_c1e hf
    refine k_Pi (run_PV (As := [.int p0, .int (3 : Int32)]) (rest := [.int (0 : Int32), .int p1, .ref h0]) ⟨hx, hb, hml, hown, ha⟩ (c_X12_slide l D dA h0 h1 h2 h3 h4 h5 h6 h7  ms mb mv mi mp mn mt mo mO mI mL mA mW mE mF mc mM p0 (3 : Int32) _ hc2) (gi_V m_1761 m_1763 m_40 m_85 m_1764) yd_X12_slide ⟨Nat.le_of_ble_eq_true rfl, Nat.le_of_ble_eq_true rfl⟩ ⟨rfl, rfl⟩ hK hP [0, 1, 2, 3, 4, 5, 6, 7] rfl 0 10 rfl rfl rfl rfl hl.1 rfl (Nat.le_of_ble_eq_true rfl) dX12_queuedGuest_18 ⟨Nat.le_of_ble_eq_true rfl, Nat.le_of_ble_eq_true rfl⟩) hP hS (fun H locs hP hS => ?_)
    refine lv_iconst (v := 1) hx hb dX12_queuedGuest_21 (by decide) ?_
    refine lv_isub hx hb dX12_queuedGuest_22 ?_
    obtain ⟨r_3, hc3, hf⟩ := sf_c1e hf
    refine k_Pi (run_PS (As := [.int p1, .int (0 : Int32), .int (r_2 - (1 : Int32))]) (rest := [.ref h0]) ⟨hx, hb, hml, hown, ha⟩ (c_X12_in l D dA    p1 (0 : Int32) (r_2 - (1 : Int32)) _ hc3) (gi_S m_1718 m_1719 m_85 m_1720) yd_X12_in ⟨Nat.le_of_ble_eq_true rfl, Nat.le_of_ble_eq_true rfl⟩ ⟨rfl, rfl⟩ hK hP [] rfl rfl hl.1 rfl (Nat.le_of_ble_eq_true rfl) dX12_queuedGuest_23 ⟨Nat.le_of_ble_eq_true rfl, Nat.le_of_ble_eq_true rfl⟩) hP hS (fun H locs hP hS => ?_)
    refine lv_if_ne (tgt := 33) hx hb dX12_queuedGuest_26 (by decide) (fun hc => ?_) (fun hc => ?_)
    · have hf := sf_bn hf hc
      refine lv_iconst (v := 0) hx hb dX12_queuedGuest_33 (by decide) ?_
      refine pt_f (C := RX12) (T := TX12) (N := 17) (ws' := [(h0, .inr (10, [.ref h1, .ref h2, .ref h3, .int mi, .ref h4, .int mn, .int (0 : Int32), .ref h5, .int mO, .ref h6, .int mL, .int mA, .int mW, .int mE, .int mF, .ref h7, .int mM])), (h1, .inl (dA 0, 158, .inl ms)), (h2, .inl (dA 0, 158, .inl mb)), (h3, .inl (dA 0, 158, .inl mv)), (h4, .inl (dA 0, 1264, .inl mp)), (h5, .inl (dA 1, 180, .inl mo)), (h6, .inl (dA 1, 60, .inl mI)), (h7, .inl (dA 0, 240, .inl mc))]) (ty := .int) hx hb ha in_X12 tyX12 tyX12_ok nmX12 hown hK hP hD hS 0 rfl rfl 6 (by decide) m_1655 rfl (tyX12_ok 6 (by decide)) rfl rfl (Nat.le_of_ble_eq_true rfl) rfl dX12_queuedGuest_34 (fun H locs hP hD hS => ?_)
      refine lv_aload_n hx hb dX12_queuedGuest_37 rfl (lv_at hl 0 rfl) ?_
      refine gt_f (C := RX12) (T := TX12) (N := 17) hx hb ha in_X12 hown hK hP 0 rfl rfl 6 (by decide) m_1655 rfl dX12_queuedGuest_38 ?_
      refine lv_if_le (tgt := 48) hx hb dX12_queuedGuest_41 (by decide) (fun hc => ?_) (fun hc => absurd (by decide) hc)
      refine lv_aload_n hx hb dX12_queuedGuest_48 rfl (lv_at hl 0 rfl) ?_
      refine lv_iload_n hx hb dX12_queuedGuest_49 rfl (lv_at hl 1 rfl) ?_
      refine lv_iload_n hx hb dX12_queuedGuest_50 rfl (lv_at hl 2 rfl) ?_
      obtain ⟨r_4, hc4, hf⟩ := sf_c1e hf
      refine k_Pi (run_PV (As := [.int p0, .int p1]) (rest := []) ⟨hx, hb, hml, hown, ha⟩ (c_X12_queued l D dA h0 h1 h2 h3 h4 h5 h6 h7  ms mb mv mi mp mn (0 : Int32) mo mO mI mL mA mW mE mF mc mM p0 p1 _ hc4) (gi_V m_1837 m_1839 m_55 m_85 m_1840) yd_X12_queued ⟨Nat.le_of_ble_eq_true rfl, Nat.le_of_ble_eq_true rfl⟩ ⟨rfl, rfl⟩ hK hP [0, 1, 2, 3, 4, 5, 6, 7] rfl 0 10 rfl rfl rfl rfl hl.1 rfl (Nat.le_of_ble_eq_true rfl) dX12_queuedGuest_51 ⟨Nat.le_of_ble_eq_true rfl, Nat.le_of_ble_eq_true rfl⟩) hP hS (fun H locs hP hS => ?_)
      cases hf
      exact rt_Mi hx hb hr hlocks (hP.sub [0, 1, 2, 3, 4, 5, 6, 7] rfl) (hD.sub [0, 1, 2, 3, 4, 5, 6, 7] (by decide) rfl) hS dX12_queuedGuest_54
    · have hf := sf_bp hf hc
      refine lv_iconst (v := 2) hx hb dX12_queuedGuest_29 (by decide) ?_
      refine lv_goto (tgt := 34) hx hb dX12_queuedGuest_30 (by decide) ?_
      refine pt_f (C := RX12) (T := TX12) (N := 17) (ws' := [(h0, .inr (10, [.ref h1, .ref h2, .ref h3, .int mi, .ref h4, .int mn, .int (2 : Int32), .ref h5, .int mO, .ref h6, .int mL, .int mA, .int mW, .int mE, .int mF, .ref h7, .int mM])), (h1, .inl (dA 0, 158, .inl ms)), (h2, .inl (dA 0, 158, .inl mb)), (h3, .inl (dA 0, 158, .inl mv)), (h4, .inl (dA 0, 1264, .inl mp)), (h5, .inl (dA 1, 180, .inl mo)), (h6, .inl (dA 1, 60, .inl mI)), (h7, .inl (dA 0, 240, .inl mc))]) (ty := .int) hx hb ha in_X12 tyX12 tyX12_ok nmX12 hown hK hP hD hS 0 rfl rfl 6 (by decide) m_1655 rfl (tyX12_ok 6 (by decide)) rfl rfl (Nat.le_of_ble_eq_true rfl) rfl dX12_queuedGuest_34 (fun H locs hP hD hS => ?_)
      refine lv_aload_n hx hb dX12_queuedGuest_37 rfl (lv_at hl 0 rfl) ?_
      refine gt_f (C := RX12) (T := TX12) (N := 17) hx hb ha in_X12 hown hK hP 0 rfl rfl 6 (by decide) m_1655 rfl dX12_queuedGuest_38 ?_
      refine lv_if_le (tgt := 48) hx hb dX12_queuedGuest_41 (by decide) (fun hc => absurd hc (by decide)) (fun hc => ?_)
      refine lv_iconst (v := 0) hx hb dX12_queuedGuest_44 (by decide) ?_
      refine lv_goto (tgt := 54) hx hb dX12_queuedGuest_45 (by decide) ?_
      cases hf
      exact rt_Mi hx hb hr hlocks (hP.sub [0, 1, 2, 3, 4, 5, 6, 7] rfl) (hD.sub [0, 1, 2, 3, 4, 5, 6, 7] (by decide) rfl) hS dX12_queuedGuest_54
  · have hf := sf_bp hf hc
    refine lv_iconst (v := 1) hx hb dX12_queuedGuest_9 (by decide) ?_
    refine lv_goto (tgt := 34) hx hb dX12_queuedGuest_10 (by decide) ?_
    refine pt_f (C := RX12) (T := TX12) (N := 17) (ws' := [(h0, .inr (10, [.ref h1, .ref h2, .ref h3, .int mi, .ref h4, .int mn, .int (1 : Int32), .ref h5, .int mO, .ref h6, .int mL, .int mA, .int mW, .int mE, .int mF, .ref h7, .int mM])), (h1, .inl (dA 0, 158, .inl ms)), (h2, .inl (dA 0, 158, .inl mb)), (h3, .inl (dA 0, 158, .inl mv)), (h4, .inl (dA 0, 1264, .inl mp)), (h5, .inl (dA 1, 180, .inl mo)), (h6, .inl (dA 1, 60, .inl mI)), (h7, .inl (dA 0, 240, .inl mc))]) (ty := .int) hx hb ha in_X12 tyX12 tyX12_ok nmX12 hown hK hP hD hS 0 rfl rfl 6 (by decide) m_1655 rfl (tyX12_ok 6 (by decide)) rfl rfl (Nat.le_of_ble_eq_true rfl) rfl dX12_queuedGuest_34 (fun H locs hP hD hS => ?_)
    refine lv_aload_n hx hb dX12_queuedGuest_37 rfl (lv_at hl 0 rfl) ?_
    refine gt_f (C := RX12) (T := TX12) (N := 17) hx hb ha in_X12 hown hK hP 0 rfl rfl 6 (by decide) m_1655 rfl dX12_queuedGuest_38 ?_
    refine lv_if_le (tgt := 48) hx hb dX12_queuedGuest_41 (by decide) (fun hc => absurd hc (by decide)) (fun hc => ?_)
    refine lv_iconst (v := 0) hx hb dX12_queuedGuest_44 (by decide) ?_
    refine lv_goto (tgt := 54) hx hb dX12_queuedGuest_45 (by decide) ?_
    cases hf
    exact rt_Mi hx hb hr hlocks (hP.sub [0, 1, 2, 3, 4, 5, 6, 7] rfl) (hD.sub [0, 1, 2, 3, 4, 5, 6, 7] (by decide) rfl) hS dX12_queuedGuest_54

def f_X12_bookingCount (ms : Nat → Int32) (mt : Int32) : Option (Int32 × Int32) :=
  sf_g (sf_in (2 : Int32) 158 = true) (some ((ms (2 : Int32).toNatClampNeg), (0 : Int32)))
theorem yd_X12_bookingCount : yX12_bookingCount.cls = RX12 ∧ yX12_bookingCount.cls ≠ "java/lang/invoke/MethodHandle" ∧ yX12_bookingCount.cls ≠ "java/lang/invoke/VarHandle" ∧ (parseMethodDescriptor yX12_bookingCount.desc).map (fun d => d.parameters.length) = some 0 := ⟨rfl, by decide, by decide, by decide +kernel⟩
set_option maxRecDepth 100000 in
set_option maxHeartbeats 4000000 in
theorem c_X12_bookingCount (l : Launch) (D : va_G) (dA : Nat → ClassId) (h0 h1 h2 h3 h4 h5 h6 h7 : Nat) (sz : Nat) (ms : Nat → Int32) (mb : Nat → Int32) (mv : Nat → Int32) (mi : Int32) (mp : Nat → Int32) (mn : Int32) (mt : Int32) (mo : Nat → Int32) (mO : Int32) (mI : Nat → Int32) (mL : Int32) (mA : Int32) (mW : Int32) (mE : Int32) (mF : Int32) (mc : Nat → Int32) (mM : Int32) (rr : Int32) (q_mt : Int32) (hf : f_X12_bookingCount ms mt = some (rr, q_mt)) : Met l yX12_bookingCount (wo (.code yX12_bookingCount cX12_bookingCount 1 (some .int))) ({ frames := 0, cells := 0, slots := 0, locals := 0 } : Room) (preM D dA [.ref h0] sz [(h0, .inr (10, [.ref h1, .ref h2, .ref h3, .int mi, .ref h4, .int mn, .int mt, .ref h5, .int mO, .ref h6, .int mL, .int mA, .int mW, .int mE, .int mF, .ref h7, .int mM])), (h1, .inl (dA 0, 158, .inl ms)), (h2, .inl (dA 0, 158, .inl mb)), (h3, .inl (dA 0, 158, .inl mv)), (h4, .inl (dA 0, 1264, .inl mp)), (h5, .inl (dA 1, 180, .inl mo)), (h6, .inl (dA 1, 60, .inl mI)), (h7, .inl (dA 0, 240, .inl mc))]) (poMi D rr [(h0, .inr (10, [.ref h1, .ref h2, .ref h3, .int mi, .ref h4, .int mn, .int q_mt, .ref h5, .int mO, .ref h6, .int mL, .int mA, .int mW, .int mE, .int mF, .ref h7, .int mM])), (h1, .inl (dA 0, 158, .inl ms)), (h2, .inl (dA 0, 158, .inl mb)), (h3, .inl (dA 0, 158, .inl mv)), (h4, .inl (dA 0, 1264, .inl mp)), (h5, .inl (dA 1, 180, .inl mo)), (h6, .inl (dA 1, 60, .inl mI)), (h7, .inl (dA 0, 240, .inl mc))] (va_A [(h0, .inr (10, [.ref h1, .ref h2, .ref h3, .int mi, .ref h4, .int mn, .int mt, .ref h5, .int mO, .ref h6, .int mL, .int mA, .int mW, .int mE, .int mF, .ref h7, .int mM])), (h1, .inl (dA 0, 158, .inl ms)), (h2, .inl (dA 0, 158, .inl mb)), (h3, .inl (dA 0, 158, .inl mv)), (h4, .inl (dA 0, 1264, .inl mp)), (h5, .inl (dA 1, 180, .inl mo)), (h6, .inl (dA 1, 60, .inl mI)), (h7, .inl (dA 0, 240, .inl mc))] sz)) 0 0 (va_A [(h0, .inr (10, [.ref h1, .ref h2, .ref h3, .int mi, .ref h4, .int mn, .int mt, .ref h5, .int mO, .ref h6, .int mL, .int mA, .int mW, .int mE, .int mF, .ref h7, .int mM])), (h1, .inl (dA 0, 158, .inl ms)), (h2, .inl (dA 0, 158, .inl mb)), (h3, .inl (dA 0, 158, .inl mv)), (h4, .inl (dA 0, 1264, .inl mp)), (h5, .inl (dA 1, 180, .inl mo)), (h6, .inl (dA 1, 60, .inl mI)), (h7, .inl (dA 0, 240, .inl mc))] sz) := by
  refine of_M (y := yX12_bookingCount) (av := [.ref h0]) (ws := [(h0, .inr (10, [.ref h1, .ref h2, .ref h3, .int mi, .ref h4, .int mn, .int mt, .ref h5, .int mO, .ref h6, .int mL, .int mA, .int mW, .int mE, .int mF, .ref h7, .int mM])), (h1, .inl (dA 0, 158, .inl ms)), (h2, .inl (dA 0, 158, .inl mb)), (h3, .inl (dA 0, 158, .inl mv)), (h4, .inl (dA 0, 1264, .inl mp)), (h5, .inl (dA 1, 180, .inl mo)), (h6, .inl (dA 1, 60, .inl mI)), (h7, .inl (dA 0, 240, .inl mc))]) (sz := sz) (own := RX12) (Qc := poMi D rr [(h0, .inr (10, [.ref h1, .ref h2, .ref h3, .int mi, .ref h4, .int mn, .int q_mt, .ref h5, .int mO, .ref h6, .int mL, .int mA, .int mW, .int mE, .int mF, .ref h7, .int mM])), (h1, .inl (dA 0, 158, .inl ms)), (h2, .inl (dA 0, 158, .inl mb)), (h3, .inl (dA 0, 158, .inl mv)), (h4, .inl (dA 0, 1264, .inl mp)), (h5, .inl (dA 1, 180, .inl mo)), (h6, .inl (dA 1, 60, .inl mI)), (h7, .inl (dA 0, 240, .inl mc))]) (by decide) rfl (Nat.le_of_ble_eq_true rfl) ?_
  intro p e s m below meth c A hx hb hr ha hown hml hlocks hin hP hK hD hS hA ls hl
  have hl : lv_has ls 1 [(0, .ref h0)] := hl
  rw [f_X12_bookingCount] at hf
  refine lv_aload_n hx hb dX12_bookingCount_0 rfl (lv_at hl 0 rfl) ?_
  refine lv_iconst (v := 0) hx hb dX12_bookingCount_1 (by decide) ?_
  refine pt_f (C := RX12) (T := TX12) (N := 17) (ws' := [(h0, .inr (10, [.ref h1, .ref h2, .ref h3, .int mi, .ref h4, .int mn, .int (0 : Int32), .ref h5, .int mO, .ref h6, .int mL, .int mA, .int mW, .int mE, .int mF, .ref h7, .int mM])), (h1, .inl (dA 0, 158, .inl ms)), (h2, .inl (dA 0, 158, .inl mb)), (h3, .inl (dA 0, 158, .inl mv)), (h4, .inl (dA 0, 1264, .inl mp)), (h5, .inl (dA 1, 180, .inl mo)), (h6, .inl (dA 1, 60, .inl mI)), (h7, .inl (dA 0, 240, .inl mc))]) (ty := .int) hx hb ha in_X12 tyX12 tyX12_ok nmX12 hown hK hP hD hS 0 rfl rfl 6 (by decide) m_1655 rfl (tyX12_ok 6 (by decide)) rfl rfl (Nat.le_of_ble_eq_true rfl) rfl dX12_bookingCount_2 (fun H locs hP hD hS => ?_)
  refine lv_aload_n hx hb dX12_bookingCount_5 rfl (lv_at hl 0 rfl) ?_
  refine gt_f (C := RX12) (T := TX12) (N := 17) hx hb ha in_X12 hown hK hP 0 rfl rfl 0 (by decide) m_1649 rfl dX12_bookingCount_6 ?_
  refine lv_iconst (v := 2) hx hb dX12_bookingCount_9 (by decide) ?_
  obtain ⟨hi, hf⟩ := sf_ge hf
  refine ia_ld hx hb hK hP 1 rfl hi dX12_bookingCount_10 ?_
  cases hf
  exact rt_Mi hx hb hr hlocks (hP.sub [0, 1, 2, 3, 4, 5, 6, 7] rfl) (hD.sub [0, 1, 2, 3, 4, 5, 6, 7] (by decide) rfl) hS dX12_bookingCount_11

def f_X12_bookedGuest (ms : Nat → Int32) (mt : Int32) (p0 : Int32) : Option (Int32 × Int32) :=
  sf_c1 (f_X12_isBooking ms p0) (fun r_1 => sf_c2 (f_X12_isThere mt r_1) (fun r_2 x_3 => sf_b (r_2 = (0 : Int32)) (some ((0 : Int32), x_3)) (sf_c1 (f_X12_booking ms p0 (0 : Int32)) (fun r_4 => some (r_4, x_3)))))
theorem yd_X12_bookedGuest : yX12_bookedGuest.cls = RX12 ∧ yX12_bookedGuest.cls ≠ "java/lang/invoke/MethodHandle" ∧ yX12_bookedGuest.cls ≠ "java/lang/invoke/VarHandle" ∧ (parseMethodDescriptor yX12_bookedGuest.desc).map (fun d => d.parameters.length) = some 1 := ⟨rfl, by decide, by decide, by decide +kernel⟩
set_option maxRecDepth 100000 in
set_option maxHeartbeats 4000000 in
theorem c_X12_bookedGuest (l : Launch) (D : va_G) (dA : Nat → ClassId) (h0 h1 h2 h3 h4 h5 h6 h7 : Nat) (sz : Nat) (ms : Nat → Int32) (mb : Nat → Int32) (mv : Nat → Int32) (mi : Int32) (mp : Nat → Int32) (mn : Int32) (mt : Int32) (mo : Nat → Int32) (mO : Int32) (mI : Nat → Int32) (mL : Int32) (mA : Int32) (mW : Int32) (mE : Int32) (mF : Int32) (mc : Nat → Int32) (mM : Int32) (p0 : Int32) (rr : Int32) (q_mt : Int32) (hf : f_X12_bookedGuest ms mt p0 = some (rr, q_mt)) : Met l yX12_bookedGuest (wo (.code yX12_bookedGuest cX12_bookedGuest 2 (some .int))) ({ frames := 2, cells := 0, slots := 0, locals := 43 } : Room) (preM D dA [.ref h0, .int p0] sz [(h0, .inr (10, [.ref h1, .ref h2, .ref h3, .int mi, .ref h4, .int mn, .int mt, .ref h5, .int mO, .ref h6, .int mL, .int mA, .int mW, .int mE, .int mF, .ref h7, .int mM])), (h1, .inl (dA 0, 158, .inl ms)), (h2, .inl (dA 0, 158, .inl mb)), (h3, .inl (dA 0, 158, .inl mv)), (h4, .inl (dA 0, 1264, .inl mp)), (h5, .inl (dA 1, 180, .inl mo)), (h6, .inl (dA 1, 60, .inl mI)), (h7, .inl (dA 0, 240, .inl mc))]) (poMi D rr [(h0, .inr (10, [.ref h1, .ref h2, .ref h3, .int mi, .ref h4, .int mn, .int q_mt, .ref h5, .int mO, .ref h6, .int mL, .int mA, .int mW, .int mE, .int mF, .ref h7, .int mM])), (h1, .inl (dA 0, 158, .inl ms)), (h2, .inl (dA 0, 158, .inl mb)), (h3, .inl (dA 0, 158, .inl mv)), (h4, .inl (dA 0, 1264, .inl mp)), (h5, .inl (dA 1, 180, .inl mo)), (h6, .inl (dA 1, 60, .inl mI)), (h7, .inl (dA 0, 240, .inl mc))] (va_A [(h0, .inr (10, [.ref h1, .ref h2, .ref h3, .int mi, .ref h4, .int mn, .int mt, .ref h5, .int mO, .ref h6, .int mL, .int mA, .int mW, .int mE, .int mF, .ref h7, .int mM])), (h1, .inl (dA 0, 158, .inl ms)), (h2, .inl (dA 0, 158, .inl mb)), (h3, .inl (dA 0, 158, .inl mv)), (h4, .inl (dA 0, 1264, .inl mp)), (h5, .inl (dA 1, 180, .inl mo)), (h6, .inl (dA 1, 60, .inl mI)), (h7, .inl (dA 0, 240, .inl mc))] sz)) 0 0 (va_A [(h0, .inr (10, [.ref h1, .ref h2, .ref h3, .int mi, .ref h4, .int mn, .int mt, .ref h5, .int mO, .ref h6, .int mL, .int mA, .int mW, .int mE, .int mF, .ref h7, .int mM])), (h1, .inl (dA 0, 158, .inl ms)), (h2, .inl (dA 0, 158, .inl mb)), (h3, .inl (dA 0, 158, .inl mv)), (h4, .inl (dA 0, 1264, .inl mp)), (h5, .inl (dA 1, 180, .inl mo)), (h6, .inl (dA 1, 60, .inl mI)), (h7, .inl (dA 0, 240, .inl mc))] sz) := by
  refine of_M (y := yX12_bookedGuest) (av := [.ref h0, .int p0]) (ws := [(h0, .inr (10, [.ref h1, .ref h2, .ref h3, .int mi, .ref h4, .int mn, .int mt, .ref h5, .int mO, .ref h6, .int mL, .int mA, .int mW, .int mE, .int mF, .ref h7, .int mM])), (h1, .inl (dA 0, 158, .inl ms)), (h2, .inl (dA 0, 158, .inl mb)), (h3, .inl (dA 0, 158, .inl mv)), (h4, .inl (dA 0, 1264, .inl mp)), (h5, .inl (dA 1, 180, .inl mo)), (h6, .inl (dA 1, 60, .inl mI)), (h7, .inl (dA 0, 240, .inl mc))]) (sz := sz) (own := RX12) (Qc := poMi D rr [(h0, .inr (10, [.ref h1, .ref h2, .ref h3, .int mi, .ref h4, .int mn, .int q_mt, .ref h5, .int mO, .ref h6, .int mL, .int mA, .int mW, .int mE, .int mF, .ref h7, .int mM])), (h1, .inl (dA 0, 158, .inl ms)), (h2, .inl (dA 0, 158, .inl mb)), (h3, .inl (dA 0, 158, .inl mv)), (h4, .inl (dA 0, 1264, .inl mp)), (h5, .inl (dA 1, 180, .inl mo)), (h6, .inl (dA 1, 60, .inl mI)), (h7, .inl (dA 0, 240, .inl mc))]) (by decide) rfl (Nat.le_of_ble_eq_true rfl) ?_
  intro p e s m below meth c A hx hb hr ha hown hml hlocks hin hP hK hD hS hA ls hl
  have hl : lv_has ls 2 [(0, .ref h0), (1, .int p0)] := hl
  rw [f_X12_bookedGuest] at hf
  refine lv_aload_n hx hb dX12_bookedGuest_0 rfl (lv_at hl 0 rfl) ?_
  refine lv_aload_n hx hb dX12_bookedGuest_1 rfl (lv_at hl 0 rfl) ?_
  refine lv_iload_n hx hb dX12_bookedGuest_2 rfl (lv_at hl 1 rfl) ?_
  obtain ⟨r_1, hc1, hf⟩ := sf_c1e hf
  refine k_Pi (run_PV (As := [.int p0]) (rest := [.ref h0]) ⟨hx, hb, hml, hown, ha⟩ (c_X12_isBooking l D dA h0 h1 h2 h3 h4 h5 h6 h7  ms mb mv mi mp mn mt mo mO mI mL mA mW mE mF mc mM p0 _ hc1) (gi_V m_1797 m_1799 m_48 m_85 m_1800) yd_X12_isBooking ⟨Nat.le_of_ble_eq_true rfl, Nat.le_of_ble_eq_true rfl⟩ ⟨rfl, rfl⟩ hK hP [0, 1, 2, 3, 4, 5, 6, 7] rfl 0 10 rfl rfl rfl rfl hl.1 rfl (Nat.le_of_ble_eq_true rfl) dX12_bookedGuest_3 ⟨Nat.le_of_ble_eq_true rfl, Nat.le_of_ble_eq_true rfl⟩) hP hS (fun H locs hP hS => ?_)
  obtain ⟨r_2, x_3, hc3, hf⟩ := sf_c2e hf
  refine k_Mi (wr := []) (run_MV (As := [.int r_1]) (rest := []) ⟨hx, hb, hml, hown, ha⟩ (c_X12_isThere l D dA h0 h1 h2 h3 h4 h5 h6 h7 _ ms mb mv mi mp mn mt mo mO mI mL mA mW mE mF mc mM r_1 _ _ hc3) (gi_V m_1867 m_1869 m_59 m_85 m_1870) yd_X12_isThere ⟨Nat.le_of_ble_eq_true rfl, Nat.le_of_ble_eq_true rfl⟩ ⟨rfl, rfl⟩ hK hP hD [0, 1, 2, 3, 4, 5, 6, 7] (by decide) rfl 0 10 rfl rfl rfl rfl hl.1 rfl (Nat.le_of_ble_eq_true rfl) dX12_bookedGuest_6 ⟨Nat.le_of_ble_eq_true rfl, Nat.le_of_ble_eq_true rfl⟩) hP hD hS hA [0, 1, 2, 3, 4, 5, 6, 7] [] rfl rfl (by decide) (by decide) (fun H locs hP hD hS => ?_)
  refine lv_if_eq (tgt := 21) hx hb dX12_bookedGuest_9 (by decide) (fun hc => ?_) (fun hc => ?_)
  · have hf := sf_bp hf hc
    refine lv_iconst (v := 0) hx hb dX12_bookedGuest_21 (by decide) ?_
    cases hf
    exact rt_Mi hx hb hr hlocks (hP.sub [0, 1, 2, 3, 4, 5, 6, 7] rfl) (hD.sub [0, 1, 2, 3, 4, 5, 6, 7] (by decide) rfl) hS dX12_bookedGuest_22
  · have hf := sf_bn hf hc
    refine lv_aload_n hx hb dX12_bookedGuest_12 rfl (lv_at hl 0 rfl) ?_
    refine lv_iload_n hx hb dX12_bookedGuest_13 rfl (lv_at hl 1 rfl) ?_
    refine lv_iconst (v := 0) hx hb dX12_bookedGuest_14 (by decide) ?_
    obtain ⟨r_4, hc4, hf⟩ := sf_c1e hf
    refine k_Pi (run_PV (As := [.int p0, .int (0 : Int32)]) (rest := []) ⟨hx, hb, hml, hown, ha⟩ (c_X12_booking l D dA h0 h1 h2 h3 h4 h5 h6 h7  ms mb mv mi mp mn x_3 mo mO mI mL mA mW mE mF mc mM p0 (0 : Int32) _ hc4) (gi_V m_1769 m_1771 m_42 m_85 m_1772) yd_X12_booking ⟨Nat.le_of_ble_eq_true rfl, Nat.le_of_ble_eq_true rfl⟩ ⟨rfl, rfl⟩ hK hP [0, 1, 2, 3, 4, 5, 6, 7] rfl 0 10 rfl rfl rfl rfl hl.1 rfl (Nat.le_of_ble_eq_true rfl) dX12_bookedGuest_15 ⟨Nat.le_of_ble_eq_true rfl, Nat.le_of_ble_eq_true rfl⟩) hP hS (fun H locs hP hS => ?_)
    refine lv_goto (tgt := 22) hx hb dX12_bookedGuest_18 (by decide) ?_
    cases hf
    exact rt_Mi hx hb hr hlocks (hP.sub [0, 1, 2, 3, 4, 5, 6, 7] rfl) (hD.sub [0, 1, 2, 3, 4, 5, 6, 7] (by decide) rfl) hS dX12_bookedGuest_22

def f_X12_bookedSlide (ms : Nat → Int32) (mt : Int32) (p0 : Int32) : Option (Int32 × Int32) :=
  sf_c1 (f_X12_isBooking ms p0) (fun r_1 => sf_c2 (f_X12_isThere mt r_1) (fun r_2 x_3 => sf_b (r_2 = (0 : Int32)) (some ((0 : Int32), x_3)) (sf_c1 (f_X12_booking ms p0 (1 : Int32)) (fun r_4 => some (r_4, x_3)))))
theorem yd_X12_bookedSlide : yX12_bookedSlide.cls = RX12 ∧ yX12_bookedSlide.cls ≠ "java/lang/invoke/MethodHandle" ∧ yX12_bookedSlide.cls ≠ "java/lang/invoke/VarHandle" ∧ (parseMethodDescriptor yX12_bookedSlide.desc).map (fun d => d.parameters.length) = some 1 := ⟨rfl, by decide, by decide, by decide +kernel⟩
set_option maxRecDepth 100000 in
set_option maxHeartbeats 4000000 in
theorem c_X12_bookedSlide (l : Launch) (D : va_G) (dA : Nat → ClassId) (h0 h1 h2 h3 h4 h5 h6 h7 : Nat) (sz : Nat) (ms : Nat → Int32) (mb : Nat → Int32) (mv : Nat → Int32) (mi : Int32) (mp : Nat → Int32) (mn : Int32) (mt : Int32) (mo : Nat → Int32) (mO : Int32) (mI : Nat → Int32) (mL : Int32) (mA : Int32) (mW : Int32) (mE : Int32) (mF : Int32) (mc : Nat → Int32) (mM : Int32) (p0 : Int32) (rr : Int32) (q_mt : Int32) (hf : f_X12_bookedSlide ms mt p0 = some (rr, q_mt)) : Met l yX12_bookedSlide (wo (.code yX12_bookedSlide cX12_bookedSlide 2 (some .int))) ({ frames := 2, cells := 0, slots := 0, locals := 43 } : Room) (preM D dA [.ref h0, .int p0] sz [(h0, .inr (10, [.ref h1, .ref h2, .ref h3, .int mi, .ref h4, .int mn, .int mt, .ref h5, .int mO, .ref h6, .int mL, .int mA, .int mW, .int mE, .int mF, .ref h7, .int mM])), (h1, .inl (dA 0, 158, .inl ms)), (h2, .inl (dA 0, 158, .inl mb)), (h3, .inl (dA 0, 158, .inl mv)), (h4, .inl (dA 0, 1264, .inl mp)), (h5, .inl (dA 1, 180, .inl mo)), (h6, .inl (dA 1, 60, .inl mI)), (h7, .inl (dA 0, 240, .inl mc))]) (poMi D rr [(h0, .inr (10, [.ref h1, .ref h2, .ref h3, .int mi, .ref h4, .int mn, .int q_mt, .ref h5, .int mO, .ref h6, .int mL, .int mA, .int mW, .int mE, .int mF, .ref h7, .int mM])), (h1, .inl (dA 0, 158, .inl ms)), (h2, .inl (dA 0, 158, .inl mb)), (h3, .inl (dA 0, 158, .inl mv)), (h4, .inl (dA 0, 1264, .inl mp)), (h5, .inl (dA 1, 180, .inl mo)), (h6, .inl (dA 1, 60, .inl mI)), (h7, .inl (dA 0, 240, .inl mc))] (va_A [(h0, .inr (10, [.ref h1, .ref h2, .ref h3, .int mi, .ref h4, .int mn, .int mt, .ref h5, .int mO, .ref h6, .int mL, .int mA, .int mW, .int mE, .int mF, .ref h7, .int mM])), (h1, .inl (dA 0, 158, .inl ms)), (h2, .inl (dA 0, 158, .inl mb)), (h3, .inl (dA 0, 158, .inl mv)), (h4, .inl (dA 0, 1264, .inl mp)), (h5, .inl (dA 1, 180, .inl mo)), (h6, .inl (dA 1, 60, .inl mI)), (h7, .inl (dA 0, 240, .inl mc))] sz)) 0 0 (va_A [(h0, .inr (10, [.ref h1, .ref h2, .ref h3, .int mi, .ref h4, .int mn, .int mt, .ref h5, .int mO, .ref h6, .int mL, .int mA, .int mW, .int mE, .int mF, .ref h7, .int mM])), (h1, .inl (dA 0, 158, .inl ms)), (h2, .inl (dA 0, 158, .inl mb)), (h3, .inl (dA 0, 158, .inl mv)), (h4, .inl (dA 0, 1264, .inl mp)), (h5, .inl (dA 1, 180, .inl mo)), (h6, .inl (dA 1, 60, .inl mI)), (h7, .inl (dA 0, 240, .inl mc))] sz) := by
  refine of_M (y := yX12_bookedSlide) (av := [.ref h0, .int p0]) (ws := [(h0, .inr (10, [.ref h1, .ref h2, .ref h3, .int mi, .ref h4, .int mn, .int mt, .ref h5, .int mO, .ref h6, .int mL, .int mA, .int mW, .int mE, .int mF, .ref h7, .int mM])), (h1, .inl (dA 0, 158, .inl ms)), (h2, .inl (dA 0, 158, .inl mb)), (h3, .inl (dA 0, 158, .inl mv)), (h4, .inl (dA 0, 1264, .inl mp)), (h5, .inl (dA 1, 180, .inl mo)), (h6, .inl (dA 1, 60, .inl mI)), (h7, .inl (dA 0, 240, .inl mc))]) (sz := sz) (own := RX12) (Qc := poMi D rr [(h0, .inr (10, [.ref h1, .ref h2, .ref h3, .int mi, .ref h4, .int mn, .int q_mt, .ref h5, .int mO, .ref h6, .int mL, .int mA, .int mW, .int mE, .int mF, .ref h7, .int mM])), (h1, .inl (dA 0, 158, .inl ms)), (h2, .inl (dA 0, 158, .inl mb)), (h3, .inl (dA 0, 158, .inl mv)), (h4, .inl (dA 0, 1264, .inl mp)), (h5, .inl (dA 1, 180, .inl mo)), (h6, .inl (dA 1, 60, .inl mI)), (h7, .inl (dA 0, 240, .inl mc))]) (by decide) rfl (Nat.le_of_ble_eq_true rfl) ?_
  intro p e s m below meth c A hx hb hr ha hown hml hlocks hin hP hK hD hS hA ls hl
  have hl : lv_has ls 2 [(0, .ref h0), (1, .int p0)] := hl
  rw [f_X12_bookedSlide] at hf
  refine lv_aload_n hx hb dX12_bookedSlide_0 rfl (lv_at hl 0 rfl) ?_
  refine lv_aload_n hx hb dX12_bookedSlide_1 rfl (lv_at hl 0 rfl) ?_
  refine lv_iload_n hx hb dX12_bookedSlide_2 rfl (lv_at hl 1 rfl) ?_
  obtain ⟨r_1, hc1, hf⟩ := sf_c1e hf
  refine k_Pi (run_PV (As := [.int p0]) (rest := [.ref h0]) ⟨hx, hb, hml, hown, ha⟩ (c_X12_isBooking l D dA h0 h1 h2 h3 h4 h5 h6 h7  ms mb mv mi mp mn mt mo mO mI mL mA mW mE mF mc mM p0 _ hc1) (gi_V m_1797 m_1799 m_48 m_85 m_1800) yd_X12_isBooking ⟨Nat.le_of_ble_eq_true rfl, Nat.le_of_ble_eq_true rfl⟩ ⟨rfl, rfl⟩ hK hP [0, 1, 2, 3, 4, 5, 6, 7] rfl 0 10 rfl rfl rfl rfl hl.1 rfl (Nat.le_of_ble_eq_true rfl) dX12_bookedSlide_3 ⟨Nat.le_of_ble_eq_true rfl, Nat.le_of_ble_eq_true rfl⟩) hP hS (fun H locs hP hS => ?_)
  obtain ⟨r_2, x_3, hc3, hf⟩ := sf_c2e hf
  refine k_Mi (wr := []) (run_MV (As := [.int r_1]) (rest := []) ⟨hx, hb, hml, hown, ha⟩ (c_X12_isThere l D dA h0 h1 h2 h3 h4 h5 h6 h7 _ ms mb mv mi mp mn mt mo mO mI mL mA mW mE mF mc mM r_1 _ _ hc3) (gi_V m_1867 m_1869 m_59 m_85 m_1870) yd_X12_isThere ⟨Nat.le_of_ble_eq_true rfl, Nat.le_of_ble_eq_true rfl⟩ ⟨rfl, rfl⟩ hK hP hD [0, 1, 2, 3, 4, 5, 6, 7] (by decide) rfl 0 10 rfl rfl rfl rfl hl.1 rfl (Nat.le_of_ble_eq_true rfl) dX12_bookedSlide_6 ⟨Nat.le_of_ble_eq_true rfl, Nat.le_of_ble_eq_true rfl⟩) hP hD hS hA [0, 1, 2, 3, 4, 5, 6, 7] [] rfl rfl (by decide) (by decide) (fun H locs hP hD hS => ?_)
  refine lv_if_eq (tgt := 21) hx hb dX12_bookedSlide_9 (by decide) (fun hc => ?_) (fun hc => ?_)
  · have hf := sf_bp hf hc
    refine lv_iconst (v := 0) hx hb dX12_bookedSlide_21 (by decide) ?_
    cases hf
    exact rt_Mi hx hb hr hlocks (hP.sub [0, 1, 2, 3, 4, 5, 6, 7] rfl) (hD.sub [0, 1, 2, 3, 4, 5, 6, 7] (by decide) rfl) hS dX12_bookedSlide_22
  · have hf := sf_bn hf hc
    refine lv_aload_n hx hb dX12_bookedSlide_12 rfl (lv_at hl 0 rfl) ?_
    refine lv_iload_n hx hb dX12_bookedSlide_13 rfl (lv_at hl 1 rfl) ?_
    refine lv_iconst (v := 1) hx hb dX12_bookedSlide_14 (by decide) ?_
    obtain ⟨r_4, hc4, hf⟩ := sf_c1e hf
    refine k_Pi (run_PV (As := [.int p0, .int (1 : Int32)]) (rest := []) ⟨hx, hb, hml, hown, ha⟩ (c_X12_booking l D dA h0 h1 h2 h3 h4 h5 h6 h7  ms mb mv mi mp mn x_3 mo mO mI mL mA mW mE mF mc mM p0 (1 : Int32) _ hc4) (gi_V m_1769 m_1771 m_42 m_85 m_1772) yd_X12_booking ⟨Nat.le_of_ble_eq_true rfl, Nat.le_of_ble_eq_true rfl⟩ ⟨rfl, rfl⟩ hK hP [0, 1, 2, 3, 4, 5, 6, 7] rfl 0 10 rfl rfl rfl rfl hl.1 rfl (Nat.le_of_ble_eq_true rfl) dX12_bookedSlide_15 ⟨Nat.le_of_ble_eq_true rfl, Nat.le_of_ble_eq_true rfl⟩) hP hS (fun H locs hP hS => ?_)
    refine lv_goto (tgt := 22) hx hb dX12_bookedSlide_18 (by decide) ?_
    cases hf
    exact rt_Mi hx hb hr hlocks (hP.sub [0, 1, 2, 3, 4, 5, 6, 7] rfl) (hD.sub [0, 1, 2, 3, 4, 5, 6, 7] (by decide) rfl) hS dX12_bookedSlide_22

def f_X12_start (ms : Nat → Int32) (mt : Int32) (p0 : Int32) : Option (Int32 × Int32) :=
  sf_c1 (f_X12_isBooking ms p0) (fun r_1 => sf_c2 (f_X12_isThere mt r_1) (fun r_2 x_3 => sf_b (r_2 = (0 : Int32)) (some ((0 : Int32), x_3)) (sf_c1 (f_X12_startOf ms p0) (fun r_4 => some (r_4, x_3)))))
theorem yd_X12_start : yX12_start.cls = RX12 ∧ yX12_start.cls ≠ "java/lang/invoke/MethodHandle" ∧ yX12_start.cls ≠ "java/lang/invoke/VarHandle" ∧ (parseMethodDescriptor yX12_start.desc).map (fun d => d.parameters.length) = some 1 := ⟨rfl, by decide, by decide, by decide +kernel⟩
set_option maxRecDepth 100000 in
set_option maxHeartbeats 4000000 in
theorem c_X12_start (l : Launch) (D : va_G) (dA : Nat → ClassId) (h0 h1 h2 h3 h4 h5 h6 h7 : Nat) (sz : Nat) (ms : Nat → Int32) (mb : Nat → Int32) (mv : Nat → Int32) (mi : Int32) (mp : Nat → Int32) (mn : Int32) (mt : Int32) (mo : Nat → Int32) (mO : Int32) (mI : Nat → Int32) (mL : Int32) (mA : Int32) (mW : Int32) (mE : Int32) (mF : Int32) (mc : Nat → Int32) (mM : Int32) (p0 : Int32) (rr : Int32) (q_mt : Int32) (hf : f_X12_start ms mt p0 = some (rr, q_mt)) : Met l yX12_start (wo (.code yX12_start cX12_start 2 (some .int))) ({ frames := 2, cells := 0, slots := 0, locals := 43 } : Room) (preM D dA [.ref h0, .int p0] sz [(h0, .inr (10, [.ref h1, .ref h2, .ref h3, .int mi, .ref h4, .int mn, .int mt, .ref h5, .int mO, .ref h6, .int mL, .int mA, .int mW, .int mE, .int mF, .ref h7, .int mM])), (h1, .inl (dA 0, 158, .inl ms)), (h2, .inl (dA 0, 158, .inl mb)), (h3, .inl (dA 0, 158, .inl mv)), (h4, .inl (dA 0, 1264, .inl mp)), (h5, .inl (dA 1, 180, .inl mo)), (h6, .inl (dA 1, 60, .inl mI)), (h7, .inl (dA 0, 240, .inl mc))]) (poMi D rr [(h0, .inr (10, [.ref h1, .ref h2, .ref h3, .int mi, .ref h4, .int mn, .int q_mt, .ref h5, .int mO, .ref h6, .int mL, .int mA, .int mW, .int mE, .int mF, .ref h7, .int mM])), (h1, .inl (dA 0, 158, .inl ms)), (h2, .inl (dA 0, 158, .inl mb)), (h3, .inl (dA 0, 158, .inl mv)), (h4, .inl (dA 0, 1264, .inl mp)), (h5, .inl (dA 1, 180, .inl mo)), (h6, .inl (dA 1, 60, .inl mI)), (h7, .inl (dA 0, 240, .inl mc))] (va_A [(h0, .inr (10, [.ref h1, .ref h2, .ref h3, .int mi, .ref h4, .int mn, .int mt, .ref h5, .int mO, .ref h6, .int mL, .int mA, .int mW, .int mE, .int mF, .ref h7, .int mM])), (h1, .inl (dA 0, 158, .inl ms)), (h2, .inl (dA 0, 158, .inl mb)), (h3, .inl (dA 0, 158, .inl mv)), (h4, .inl (dA 0, 1264, .inl mp)), (h5, .inl (dA 1, 180, .inl mo)), (h6, .inl (dA 1, 60, .inl mI)), (h7, .inl (dA 0, 240, .inl mc))] sz)) 0 0 (va_A [(h0, .inr (10, [.ref h1, .ref h2, .ref h3, .int mi, .ref h4, .int mn, .int mt, .ref h5, .int mO, .ref h6, .int mL, .int mA, .int mW, .int mE, .int mF, .ref h7, .int mM])), (h1, .inl (dA 0, 158, .inl ms)), (h2, .inl (dA 0, 158, .inl mb)), (h3, .inl (dA 0, 158, .inl mv)), (h4, .inl (dA 0, 1264, .inl mp)), (h5, .inl (dA 1, 180, .inl mo)), (h6, .inl (dA 1, 60, .inl mI)), (h7, .inl (dA 0, 240, .inl mc))] sz) := by
  refine of_M (y := yX12_start) (av := [.ref h0, .int p0]) (ws := [(h0, .inr (10, [.ref h1, .ref h2, .ref h3, .int mi, .ref h4, .int mn, .int mt, .ref h5, .int mO, .ref h6, .int mL, .int mA, .int mW, .int mE, .int mF, .ref h7, .int mM])), (h1, .inl (dA 0, 158, .inl ms)), (h2, .inl (dA 0, 158, .inl mb)), (h3, .inl (dA 0, 158, .inl mv)), (h4, .inl (dA 0, 1264, .inl mp)), (h5, .inl (dA 1, 180, .inl mo)), (h6, .inl (dA 1, 60, .inl mI)), (h7, .inl (dA 0, 240, .inl mc))]) (sz := sz) (own := RX12) (Qc := poMi D rr [(h0, .inr (10, [.ref h1, .ref h2, .ref h3, .int mi, .ref h4, .int mn, .int q_mt, .ref h5, .int mO, .ref h6, .int mL, .int mA, .int mW, .int mE, .int mF, .ref h7, .int mM])), (h1, .inl (dA 0, 158, .inl ms)), (h2, .inl (dA 0, 158, .inl mb)), (h3, .inl (dA 0, 158, .inl mv)), (h4, .inl (dA 0, 1264, .inl mp)), (h5, .inl (dA 1, 180, .inl mo)), (h6, .inl (dA 1, 60, .inl mI)), (h7, .inl (dA 0, 240, .inl mc))]) (by decide) rfl (Nat.le_of_ble_eq_true rfl) ?_
  intro p e s m below meth c A hx hb hr ha hown hml hlocks hin hP hK hD hS hA ls hl
  have hl : lv_has ls 2 [(0, .ref h0), (1, .int p0)] := hl
  rw [f_X12_start] at hf
  refine lv_aload_n hx hb dX12_start_0 rfl (lv_at hl 0 rfl) ?_
  refine lv_aload_n hx hb dX12_start_1 rfl (lv_at hl 0 rfl) ?_
  refine lv_iload_n hx hb dX12_start_2 rfl (lv_at hl 1 rfl) ?_
  obtain ⟨r_1, hc1, hf⟩ := sf_c1e hf
  refine k_Pi (run_PV (As := [.int p0]) (rest := [.ref h0]) ⟨hx, hb, hml, hown, ha⟩ (c_X12_isBooking l D dA h0 h1 h2 h3 h4 h5 h6 h7  ms mb mv mi mp mn mt mo mO mI mL mA mW mE mF mc mM p0 _ hc1) (gi_V m_1797 m_1799 m_48 m_85 m_1800) yd_X12_isBooking ⟨Nat.le_of_ble_eq_true rfl, Nat.le_of_ble_eq_true rfl⟩ ⟨rfl, rfl⟩ hK hP [0, 1, 2, 3, 4, 5, 6, 7] rfl 0 10 rfl rfl rfl rfl hl.1 rfl (Nat.le_of_ble_eq_true rfl) dX12_start_3 ⟨Nat.le_of_ble_eq_true rfl, Nat.le_of_ble_eq_true rfl⟩) hP hS (fun H locs hP hS => ?_)
  obtain ⟨r_2, x_3, hc3, hf⟩ := sf_c2e hf
  refine k_Mi (wr := []) (run_MV (As := [.int r_1]) (rest := []) ⟨hx, hb, hml, hown, ha⟩ (c_X12_isThere l D dA h0 h1 h2 h3 h4 h5 h6 h7 _ ms mb mv mi mp mn mt mo mO mI mL mA mW mE mF mc mM r_1 _ _ hc3) (gi_V m_1867 m_1869 m_59 m_85 m_1870) yd_X12_isThere ⟨Nat.le_of_ble_eq_true rfl, Nat.le_of_ble_eq_true rfl⟩ ⟨rfl, rfl⟩ hK hP hD [0, 1, 2, 3, 4, 5, 6, 7] (by decide) rfl 0 10 rfl rfl rfl rfl hl.1 rfl (Nat.le_of_ble_eq_true rfl) dX12_start_6 ⟨Nat.le_of_ble_eq_true rfl, Nat.le_of_ble_eq_true rfl⟩) hP hD hS hA [0, 1, 2, 3, 4, 5, 6, 7] [] rfl rfl (by decide) (by decide) (fun H locs hP hD hS => ?_)
  refine lv_if_eq (tgt := 20) hx hb dX12_start_9 (by decide) (fun hc => ?_) (fun hc => ?_)
  · have hf := sf_bp hf hc
    refine lv_iconst (v := 0) hx hb dX12_start_20 (by decide) ?_
    cases hf
    exact rt_Mi hx hb hr hlocks (hP.sub [0, 1, 2, 3, 4, 5, 6, 7] rfl) (hD.sub [0, 1, 2, 3, 4, 5, 6, 7] (by decide) rfl) hS dX12_start_21
  · have hf := sf_bn hf hc
    refine lv_aload_n hx hb dX12_start_12 rfl (lv_at hl 0 rfl) ?_
    refine lv_iload_n hx hb dX12_start_13 rfl (lv_at hl 1 rfl) ?_
    obtain ⟨r_4, hc4, hf⟩ := sf_c1e hf
    refine k_Pi (run_PV (As := [.int p0]) (rest := []) ⟨hx, hb, hml, hown, ha⟩ (c_X12_startOf l D dA h0 h1 h2 h3 h4 h5 h6 h7  ms mb mv mi mp mn x_3 mo mO mI mL mA mW mE mF mc mM p0 _ hc4) (gi_V m_1773 m_1775 m_43 m_85 m_1776) yd_X12_startOf ⟨Nat.le_of_ble_eq_true rfl, Nat.le_of_ble_eq_true rfl⟩ ⟨rfl, rfl⟩ hK hP [0, 1, 2, 3, 4, 5, 6, 7] rfl 0 10 rfl rfl rfl rfl hl.1 rfl (Nat.le_of_ble_eq_true rfl) dX12_start_14 ⟨Nat.le_of_ble_eq_true rfl, Nat.le_of_ble_eq_true rfl⟩) hP hS (fun H locs hP hS => ?_)
    refine lv_goto (tgt := 21) hx hb dX12_start_17 (by decide) ?_
    cases hf
    exact rt_Mi hx hb hr hlocks (hP.sub [0, 1, 2, 3, 4, 5, 6, 7] rfl) (hD.sub [0, 1, 2, 3, 4, 5, 6, 7] (by decide) rfl) hS dX12_start_21

def f_X12_hasStarted (ms : Nat → Int32) (mt : Int32) (p0 : Int32) : Option (Int32 × Int32) :=
  sf_c1 (f_X12_isBooking ms p0) (fun r_1 => sf_c2 (f_X12_isThere mt r_1) (fun r_2 x_3 => sf_b (r_2 = (0 : Int32)) (some ((0 : Int32), x_3)) (sf_c1 (f_X12_startOf ms p0) (fun r_4 => sf_g (sf_in (3 : Int32) 158 = true) (sf_b ((ms (3 : Int32).toNatClampNeg) < r_4) (some ((0 : Int32), x_3)) (some ((1 : Int32), x_3)))))))
theorem yd_X12_hasStarted : yX12_hasStarted.cls = RX12 ∧ yX12_hasStarted.cls ≠ "java/lang/invoke/MethodHandle" ∧ yX12_hasStarted.cls ≠ "java/lang/invoke/VarHandle" ∧ (parseMethodDescriptor yX12_hasStarted.desc).map (fun d => d.parameters.length) = some 1 := ⟨rfl, by decide, by decide, by decide +kernel⟩
set_option maxRecDepth 100000 in
set_option maxHeartbeats 4000000 in
theorem c_X12_hasStarted (l : Launch) (D : va_G) (dA : Nat → ClassId) (h0 h1 h2 h3 h4 h5 h6 h7 : Nat) (sz : Nat) (ms : Nat → Int32) (mb : Nat → Int32) (mv : Nat → Int32) (mi : Int32) (mp : Nat → Int32) (mn : Int32) (mt : Int32) (mo : Nat → Int32) (mO : Int32) (mI : Nat → Int32) (mL : Int32) (mA : Int32) (mW : Int32) (mE : Int32) (mF : Int32) (mc : Nat → Int32) (mM : Int32) (p0 : Int32) (rr : Int32) (q_mt : Int32) (hf : f_X12_hasStarted ms mt p0 = some (rr, q_mt)) : Met l yX12_hasStarted (wo (.code yX12_hasStarted cX12_hasStarted 2 (some .boolean))) ({ frames := 2, cells := 0, slots := 0, locals := 43 } : Room) (preM D dA [.ref h0, .int p0] sz [(h0, .inr (10, [.ref h1, .ref h2, .ref h3, .int mi, .ref h4, .int mn, .int mt, .ref h5, .int mO, .ref h6, .int mL, .int mA, .int mW, .int mE, .int mF, .ref h7, .int mM])), (h1, .inl (dA 0, 158, .inl ms)), (h2, .inl (dA 0, 158, .inl mb)), (h3, .inl (dA 0, 158, .inl mv)), (h4, .inl (dA 0, 1264, .inl mp)), (h5, .inl (dA 1, 180, .inl mo)), (h6, .inl (dA 1, 60, .inl mI)), (h7, .inl (dA 0, 240, .inl mc))]) (poMi D rr [(h0, .inr (10, [.ref h1, .ref h2, .ref h3, .int mi, .ref h4, .int mn, .int q_mt, .ref h5, .int mO, .ref h6, .int mL, .int mA, .int mW, .int mE, .int mF, .ref h7, .int mM])), (h1, .inl (dA 0, 158, .inl ms)), (h2, .inl (dA 0, 158, .inl mb)), (h3, .inl (dA 0, 158, .inl mv)), (h4, .inl (dA 0, 1264, .inl mp)), (h5, .inl (dA 1, 180, .inl mo)), (h6, .inl (dA 1, 60, .inl mI)), (h7, .inl (dA 0, 240, .inl mc))] (va_A [(h0, .inr (10, [.ref h1, .ref h2, .ref h3, .int mi, .ref h4, .int mn, .int mt, .ref h5, .int mO, .ref h6, .int mL, .int mA, .int mW, .int mE, .int mF, .ref h7, .int mM])), (h1, .inl (dA 0, 158, .inl ms)), (h2, .inl (dA 0, 158, .inl mb)), (h3, .inl (dA 0, 158, .inl mv)), (h4, .inl (dA 0, 1264, .inl mp)), (h5, .inl (dA 1, 180, .inl mo)), (h6, .inl (dA 1, 60, .inl mI)), (h7, .inl (dA 0, 240, .inl mc))] sz)) 0 0 (va_A [(h0, .inr (10, [.ref h1, .ref h2, .ref h3, .int mi, .ref h4, .int mn, .int mt, .ref h5, .int mO, .ref h6, .int mL, .int mA, .int mW, .int mE, .int mF, .ref h7, .int mM])), (h1, .inl (dA 0, 158, .inl ms)), (h2, .inl (dA 0, 158, .inl mb)), (h3, .inl (dA 0, 158, .inl mv)), (h4, .inl (dA 0, 1264, .inl mp)), (h5, .inl (dA 1, 180, .inl mo)), (h6, .inl (dA 1, 60, .inl mI)), (h7, .inl (dA 0, 240, .inl mc))] sz) := by
  refine of_M (y := yX12_hasStarted) (av := [.ref h0, .int p0]) (ws := [(h0, .inr (10, [.ref h1, .ref h2, .ref h3, .int mi, .ref h4, .int mn, .int mt, .ref h5, .int mO, .ref h6, .int mL, .int mA, .int mW, .int mE, .int mF, .ref h7, .int mM])), (h1, .inl (dA 0, 158, .inl ms)), (h2, .inl (dA 0, 158, .inl mb)), (h3, .inl (dA 0, 158, .inl mv)), (h4, .inl (dA 0, 1264, .inl mp)), (h5, .inl (dA 1, 180, .inl mo)), (h6, .inl (dA 1, 60, .inl mI)), (h7, .inl (dA 0, 240, .inl mc))]) (sz := sz) (own := RX12) (Qc := poMi D rr [(h0, .inr (10, [.ref h1, .ref h2, .ref h3, .int mi, .ref h4, .int mn, .int q_mt, .ref h5, .int mO, .ref h6, .int mL, .int mA, .int mW, .int mE, .int mF, .ref h7, .int mM])), (h1, .inl (dA 0, 158, .inl ms)), (h2, .inl (dA 0, 158, .inl mb)), (h3, .inl (dA 0, 158, .inl mv)), (h4, .inl (dA 0, 1264, .inl mp)), (h5, .inl (dA 1, 180, .inl mo)), (h6, .inl (dA 1, 60, .inl mI)), (h7, .inl (dA 0, 240, .inl mc))]) (by decide) rfl (Nat.le_of_ble_eq_true rfl) ?_
  intro p e s m below meth c A hx hb hr ha hown hml hlocks hin hP hK hD hS hA ls hl
  have hl : lv_has ls 2 [(0, .ref h0), (1, .int p0)] := hl
  rw [f_X12_hasStarted] at hf
  refine lv_aload_n hx hb dX12_hasStarted_0 rfl (lv_at hl 0 rfl) ?_
  refine lv_aload_n hx hb dX12_hasStarted_1 rfl (lv_at hl 0 rfl) ?_
  refine lv_iload_n hx hb dX12_hasStarted_2 rfl (lv_at hl 1 rfl) ?_
  obtain ⟨r_1, hc1, hf⟩ := sf_c1e hf
  refine k_Pi (run_PV (As := [.int p0]) (rest := [.ref h0]) ⟨hx, hb, hml, hown, ha⟩ (c_X12_isBooking l D dA h0 h1 h2 h3 h4 h5 h6 h7  ms mb mv mi mp mn mt mo mO mI mL mA mW mE mF mc mM p0 _ hc1) (gi_V m_1797 m_1799 m_48 m_85 m_1800) yd_X12_isBooking ⟨Nat.le_of_ble_eq_true rfl, Nat.le_of_ble_eq_true rfl⟩ ⟨rfl, rfl⟩ hK hP [0, 1, 2, 3, 4, 5, 6, 7] rfl 0 10 rfl rfl rfl rfl hl.1 rfl (Nat.le_of_ble_eq_true rfl) dX12_hasStarted_3 ⟨Nat.le_of_ble_eq_true rfl, Nat.le_of_ble_eq_true rfl⟩) hP hS (fun H locs hP hS => ?_)
  obtain ⟨r_2, x_3, hc3, hf⟩ := sf_c2e hf
  refine k_Mi (wr := []) (run_MV (As := [.int r_1]) (rest := []) ⟨hx, hb, hml, hown, ha⟩ (c_X12_isThere l D dA h0 h1 h2 h3 h4 h5 h6 h7 _ ms mb mv mi mp mn mt mo mO mI mL mA mW mE mF mc mM r_1 _ _ hc3) (gi_V m_1867 m_1869 m_59 m_85 m_1870) yd_X12_isThere ⟨Nat.le_of_ble_eq_true rfl, Nat.le_of_ble_eq_true rfl⟩ ⟨rfl, rfl⟩ hK hP hD [0, 1, 2, 3, 4, 5, 6, 7] (by decide) rfl 0 10 rfl rfl rfl rfl hl.1 rfl (Nat.le_of_ble_eq_true rfl) dX12_hasStarted_6 ⟨Nat.le_of_ble_eq_true rfl, Nat.le_of_ble_eq_true rfl⟩) hP hD hS hA [0, 1, 2, 3, 4, 5, 6, 7] [] rfl rfl (by decide) (by decide) (fun H locs hP hD hS => ?_)
  refine lv_if_eq (tgt := 30) hx hb dX12_hasStarted_9 (by decide) (fun hc => ?_) (fun hc => ?_)
  · have hf := sf_bp hf hc
    refine lv_iconst (v := 0) hx hb dX12_hasStarted_30 (by decide) ?_
    cases hf
    exact rt_Mz hx hb hr hlocks rfl (hP.sub [0, 1, 2, 3, 4, 5, 6, 7] rfl) (hD.sub [0, 1, 2, 3, 4, 5, 6, 7] (by decide) rfl) hS dX12_hasStarted_31
  · have hf := sf_bn hf hc
    refine lv_aload_n hx hb dX12_hasStarted_12 rfl (lv_at hl 0 rfl) ?_
    refine lv_iload_n hx hb dX12_hasStarted_13 rfl (lv_at hl 1 rfl) ?_
    obtain ⟨r_4, hc4, hf⟩ := sf_c1e hf
    refine k_Pi (run_PV (As := [.int p0]) (rest := []) ⟨hx, hb, hml, hown, ha⟩ (c_X12_startOf l D dA h0 h1 h2 h3 h4 h5 h6 h7  ms mb mv mi mp mn x_3 mo mO mI mL mA mW mE mF mc mM p0 _ hc4) (gi_V m_1773 m_1775 m_43 m_85 m_1776) yd_X12_startOf ⟨Nat.le_of_ble_eq_true rfl, Nat.le_of_ble_eq_true rfl⟩ ⟨rfl, rfl⟩ hK hP [0, 1, 2, 3, 4, 5, 6, 7] rfl 0 10 rfl rfl rfl rfl hl.1 rfl (Nat.le_of_ble_eq_true rfl) dX12_hasStarted_14 ⟨Nat.le_of_ble_eq_true rfl, Nat.le_of_ble_eq_true rfl⟩) hP hS (fun H locs hP hS => ?_)
    refine lv_aload_n hx hb dX12_hasStarted_17 rfl (lv_at hl 0 rfl) ?_
    refine gt_f (C := RX12) (T := TX12) (N := 17) hx hb ha in_X12 hown hK hP 0 rfl rfl 0 (by decide) m_1649 rfl dX12_hasStarted_18 ?_
    refine lv_iconst (v := 3) hx hb dX12_hasStarted_21 (by decide) ?_
    obtain ⟨hi, hf⟩ := sf_ge hf
    refine ia_ld hx hb hK hP 1 rfl hi dX12_hasStarted_22 ?_
    refine lv_icmp_gt (tgt := 30) hx hb dX12_hasStarted_23 (by decide) (fun hc => ?_) (fun hc => ?_)
    · have hf := sf_bp hf hc
      refine lv_iconst (v := 0) hx hb dX12_hasStarted_30 (by decide) ?_
      cases hf
      exact rt_Mz hx hb hr hlocks rfl (hP.sub [0, 1, 2, 3, 4, 5, 6, 7] rfl) (hD.sub [0, 1, 2, 3, 4, 5, 6, 7] (by decide) rfl) hS dX12_hasStarted_31
    · have hf := sf_bn hf hc
      refine lv_iconst (v := 1) hx hb dX12_hasStarted_26 (by decide) ?_
      refine lv_goto (tgt := 31) hx hb dX12_hasStarted_27 (by decide) ?_
      cases hf
      exact rt_Mz hx hb hr hlocks rfl (hP.sub [0, 1, 2, 3, 4, 5, 6, 7] rfl) (hD.sub [0, 1, 2, 3, 4, 5, 6, 7] (by decide) rfl) hS dX12_hasStarted_31

def f_X12_ranked_L20 (ms : Nat → Int32) (v_1 : Int32) (k : Int32 → Option Int32) : Nat → Int32 → Int32 → Option Int32
  | 0, _, _ => none
  | n + 1, v_3, v_4 => sf_g (sf_in (2 : Int32) 158 = true) (sf_b ((ms (2 : Int32).toNatClampNeg) ≤ v_3) (k v_4) (sf_c1 (f_X12_startOf ms v_1) (fun r_5 => sf_c1 (f_X12_startOf ms v_3) (fun r_6 => sf_n ((r_5 - r_6)) (fun x_7 => sf_b ((0 : Int32) < x_7) (sf_n ((v_4 + (1 : Int32))) (fun x_8 => sf_n (v_3 + (1 : Int32)) (fun x_9 => f_X12_ranked_L20 ms v_1 k n x_9 x_8))) (sf_b (x_7 = (0 : Int32)) (sf_c1 (f_X12_booking ms v_3 (1 : Int32)) (fun r_12 => sf_c1 (f_X12_booking ms v_1 (1 : Int32)) (fun r_13 => sf_b (r_13 ≤ r_12) (sf_n ((v_4 + (0 : Int32))) (fun x_14 => sf_n (v_3 + (1 : Int32)) (fun x_15 => f_X12_ranked_L20 ms v_1 k n x_15 x_14))) (sf_n ((v_4 + (1 : Int32))) (fun x_16 => sf_n (v_3 + (1 : Int32)) (fun x_17 => f_X12_ranked_L20 ms v_1 k n x_17 x_16)))))) (sf_n ((v_4 + (0 : Int32))) (fun x_10 => sf_n (v_3 + (1 : Int32)) (fun x_11 => f_X12_ranked_L20 ms v_1 k n x_11 x_10)))))))))
def f_X12_ranked_L4 (ms : Nat → Int32) (p0 : Int32) (k : Int32 → Option Int32) : Nat → Int32 → Int32 → Option Int32
  | 0, _, _ => none
  | n + 1, v_1, v_2 => sf_g (sf_in (2 : Int32) 158 = true) (sf_b ((ms (2 : Int32).toNatClampNeg) ≤ v_1) (k v_2) (f_X12_ranked_L20 ms v_1 (fun y_18 => sf_b (y_18 = p0) (sf_n (v_1 + (1 : Int32)) (fun x_20 => f_X12_ranked_L4 ms p0 k n x_20 v_1)) (sf_n (v_1 + (1 : Int32)) (fun x_19 => f_X12_ranked_L4 ms p0 k n x_19 v_2))) 2000 (0 : Int32) (0 : Int32)))
def f_X12_ranked (ms : Nat → Int32) (p0 : Int32) : Option Int32 :=
  f_X12_ranked_L4 ms p0 (fun y_21 => some y_21) 2000 (0 : Int32) (-1 : Int32)
theorem yd_X12_ranked : yX12_ranked.cls = RX12 ∧ yX12_ranked.cls ≠ "java/lang/invoke/MethodHandle" ∧ yX12_ranked.cls ≠ "java/lang/invoke/VarHandle" ∧ (parseMethodDescriptor yX12_ranked.desc).map (fun d => d.parameters.length) = some 1 := ⟨rfl, by decide, by decide, by decide +kernel⟩
set_option maxRecDepth 100000 in
set_option maxHeartbeats 4000000 in
theorem c_X12_ranked (l : Launch) (D : va_G) (dA : Nat → ClassId) (h0 h1 h2 h3 h4 h5 h6 h7 : Nat) (ms : Nat → Int32) (mb : Nat → Int32) (mv : Nat → Int32) (mi : Int32) (mp : Nat → Int32) (mn : Int32) (mt : Int32) (mo : Nat → Int32) (mO : Int32) (mI : Nat → Int32) (mL : Int32) (mA : Int32) (mW : Int32) (mE : Int32) (mF : Int32) (mc : Nat → Int32) (mM : Int32) (p0 : Int32) (rr : Int32) (hf : f_X12_ranked ms p0 = some rr) : Met l yX12_ranked (wo (.code yX12_ranked cX12_ranked 7 (some .int))) ({ frames := 2, cells := 0, slots := 0, locals := 43 } : Room) (preP D dA [.ref h0, .int p0] [(h0, .inr (10, [.ref h1, .ref h2, .ref h3, .int mi, .ref h4, .int mn, .int mt, .ref h5, .int mO, .ref h6, .int mL, .int mA, .int mW, .int mE, .int mF, .ref h7, .int mM])), (h1, .inl (dA 0, 158, .inl ms)), (h2, .inl (dA 0, 158, .inl mb)), (h3, .inl (dA 0, 158, .inl mv)), (h4, .inl (dA 0, 1264, .inl mp)), (h5, .inl (dA 1, 180, .inl mo)), (h6, .inl (dA 1, 60, .inl mI)), (h7, .inl (dA 0, 240, .inl mc))]) (poPi rr) 0 0 noA := by
  refine of_P (own := RX12) (by decide) rfl (Nat.le_of_ble_eq_true rfl) ?_
  intro p e s m below meth c hx hb hr ha hown hml hlocks hP hK hS ls hl
  have hl : lv_has ls 7 [(0, .ref h0), (1, .int p0)] := hl
  rw [f_X12_ranked] at hf
  refine lv_iconst (v := -1) hx hb dX12_ranked_0 (by decide) ?_
  refine lv_istore_n (lv' := [(2, .int (-1 : Int32)), (0, .ref h0), (1, .int p0)]) hx hb dX12_ranked_1 rfl hl (by decide) rfl (fun ls hl => ?_)
  refine lv_iconst (v := 0) hx hb dX12_ranked_2 (by decide) ?_
  refine lv_istore_n (lv' := [(3, .int (0 : Int32)), (2, .int (-1 : Int32)), (0, .ref h0), (1, .int p0)]) hx hb dX12_ranked_3 rfl hl (by decide) rfl (fun ls hl => ?_)
  have hL4 : ∀ (n : Nat) (k : Int32 → Option Int32) (v_1 : Int32) (v_2 : Int32) (H : Heap) (locs : List Loc) (ls : Array Slot), va_P D cls [(h0, .inr (10, [.ref h1, .ref h2, .ref h3, .int mi, .ref h4, .int mn, .int mt, .ref h5, .int mO, .ref h6, .int mL, .int mA, .int mW, .int mE, .int mF, .ref h7, .int mM])), (h1, .inl (dA 0, 158, .inl ms)), (h2, .inl (dA 0, 158, .inl mb)), (h3, .inl (dA 0, 158, .inl mv)), (h4, .inl (dA 0, 1264, .inl mp)), (h5, .inl (dA 1, 180, .inl mo)), (h6, .inl (dA 1, 60, .inl mI)), (h7, .inl (dA 0, 240, .inl mc))] H → va_S noA s.heap H locs → lv_has ls 7 [(3, .int v_1), (2, .int v_2), (0, .ref h0), (1, .int p0)] → f_X12_ranked_L4 ms p0 k n v_1 v_2 = some rr → (∀ (y_21 : Int32) (H : Heap) (locs : List Loc) (ls : Array Slot), va_P D cls [(h0, .inr (10, [.ref h1, .ref h2, .ref h3, .int mi, .ref h4, .int mn, .int mt, .ref h5, .int mO, .ref h6, .int mL, .int mA, .int mW, .int mE, .int mF, .ref h7, .int mM])), (h1, .inl (dA 0, 158, .inl ms)), (h2, .inl (dA 0, 158, .inl mb)), (h3, .inl (dA 0, 158, .inl mv)), (h4, .inl (dA 0, 1264, .inl mp)), (h5, .inl (dA 1, 180, .inl mo)), (h6, .inl (dA 1, 60, .inl mI)), (h7, .inl (dA 0, 240, .inl mc))] H → va_S noA s.heap H locs → lv_has ls 7 [(2, .int y_21)] → k y_21 = some rr → W p l e ({ frames := 2, cells := 0, slots := 0, locals := 43 } : Room) s m ([.ref h0, .int p0] : List Value).toArray below meth c H locs 0 0 (MQ below (poPi rr) ([.ref h0, .int p0] : List Value).toArray s 0 0 noA) (F0 m 105 ls [])) → W p l e ({ frames := 2, cells := 0, slots := 0, locals := 43 } : Room) s m ([.ref h0, .int p0] : List Value).toArray below meth c H locs 0 0 (MQ below (poPi rr) ([.ref h0, .int p0] : List Value).toArray s 0 0 noA) (F0 m 4 ls []) := by
    intro n k
    induction n with
    | zero =>
      intro v_1 v_2 H locs ls hP hS hl hf hk
      rw [f_X12_ranked_L4] at hf
      cases hf
    | succ n ih =>
      intro v_1 v_2 H locs ls hP hS hl hf hk
      rw [f_X12_ranked_L4] at hf
      refine lv_iload_n hx hb dX12_ranked_4 rfl (lv_at hl 0 rfl) ?_
      refine lv_aload_n hx hb dX12_ranked_5 rfl (lv_at hl 2 rfl) ?_
      refine gt_f (C := RX12) (T := TX12) (N := 17) hx hb ha in_X12 hown hK hP 0 rfl rfl 0 (by decide) m_1649 rfl dX12_ranked_6 ?_
      refine lv_iconst (v := 2) hx hb dX12_ranked_9 (by decide) ?_
      obtain ⟨hi, hf⟩ := sf_ge hf
      refine ia_ld hx hb hK hP 1 rfl hi dX12_ranked_10 ?_
      refine lv_icmp_ge (tgt := 105) hx hb dX12_ranked_11 (by decide) (fun hc => ?_) (fun hc => ?_)
      · have hf := sf_bp hf hc
        exact hk _ _ _ _ hP hS (lv_sub hl [1] rfl) hf
      · have hf := sf_bn hf hc
        refine lv_iconst (v := 0) hx hb dX12_ranked_14 (by decide) ?_
        refine lv_istore (lv' := [(4, .int (0 : Int32)), (3, .int v_1), (2, .int v_2), (0, .ref h0), (1, .int p0)]) hx hb dX12_ranked_15 hl (by decide) rfl (fun ls hl => ?_)
        refine lv_iconst (v := 0) hx hb dX12_ranked_17 (by decide) ?_
        refine lv_istore (lv' := [(5, .int (0 : Int32)), (4, .int (0 : Int32)), (3, .int v_1), (2, .int v_2), (0, .ref h0), (1, .int p0)]) hx hb dX12_ranked_18 hl (by decide) rfl (fun ls hl => ?_)
        have hL20 : ∀ (n : Nat) (k : Int32 → Option Int32) (v_3 : Int32) (v_4 : Int32) (H : Heap) (locs : List Loc) (ls : Array Slot), va_P D cls [(h0, .inr (10, [.ref h1, .ref h2, .ref h3, .int mi, .ref h4, .int mn, .int mt, .ref h5, .int mO, .ref h6, .int mL, .int mA, .int mW, .int mE, .int mF, .ref h7, .int mM])), (h1, .inl (dA 0, 158, .inl ms)), (h2, .inl (dA 0, 158, .inl mb)), (h3, .inl (dA 0, 158, .inl mv)), (h4, .inl (dA 0, 1264, .inl mp)), (h5, .inl (dA 1, 180, .inl mo)), (h6, .inl (dA 1, 60, .inl mI)), (h7, .inl (dA 0, 240, .inl mc))] H → va_S noA s.heap H locs → lv_has ls 7 [(5, .int v_3), (4, .int v_4), (3, .int v_1), (2, .int v_2), (0, .ref h0), (1, .int p0)] → f_X12_ranked_L20 ms v_1 k n v_3 v_4 = some rr → (∀ (y_18 : Int32) (H : Heap) (locs : List Loc) (ls : Array Slot), va_P D cls [(h0, .inr (10, [.ref h1, .ref h2, .ref h3, .int mi, .ref h4, .int mn, .int mt, .ref h5, .int mO, .ref h6, .int mL, .int mA, .int mW, .int mE, .int mF, .ref h7, .int mM])), (h1, .inl (dA 0, 158, .inl ms)), (h2, .inl (dA 0, 158, .inl mb)), (h3, .inl (dA 0, 158, .inl mv)), (h4, .inl (dA 0, 1264, .inl mp)), (h5, .inl (dA 1, 180, .inl mo)), (h6, .inl (dA 1, 60, .inl mI)), (h7, .inl (dA 0, 240, .inl mc))] H → va_S noA s.heap H locs → lv_has ls 7 [(4, .int y_18), (3, .int v_1), (2, .int v_2), (0, .ref h0), (1, .int p0)] → k y_18 = some rr → W p l e ({ frames := 2, cells := 0, slots := 0, locals := 43 } : Room) s m ([.ref h0, .int p0] : List Value).toArray below meth c H locs 0 0 (MQ below (poPi rr) ([.ref h0, .int p0] : List Value).toArray s 0 0 noA) (F0 m 87 ls [])) → W p l e ({ frames := 2, cells := 0, slots := 0, locals := 43 } : Room) s m ([.ref h0, .int p0] : List Value).toArray below meth c H locs 0 0 (MQ below (poPi rr) ([.ref h0, .int p0] : List Value).toArray s 0 0 noA) (F0 m 20 ls []) := by
          intro n k
          induction n with
          | zero =>
            intro v_3 v_4 H locs ls hP hS hl hf hk
            rw [f_X12_ranked_L20] at hf
            cases hf
          | succ n ih =>
            intro v_3 v_4 H locs ls hP hS hl hf hk
            rw [f_X12_ranked_L20] at hf
            refine lv_iload hx hb dX12_ranked_20 (lv_at hl 0 rfl) ?_
            refine lv_aload_n hx hb dX12_ranked_22 rfl (lv_at hl 4 rfl) ?_
            refine gt_f (C := RX12) (T := TX12) (N := 17) hx hb ha in_X12 hown hK hP 0 rfl rfl 0 (by decide) m_1649 rfl dX12_ranked_23 ?_
            refine lv_iconst (v := 2) hx hb dX12_ranked_26 (by decide) ?_
            obtain ⟨hi, hf⟩ := sf_ge hf
            refine ia_ld hx hb hK hP 1 rfl hi dX12_ranked_27 ?_
            refine lv_icmp_ge (tgt := 87) hx hb dX12_ranked_28 (by decide) (fun hc => ?_) (fun hc => ?_)
            · have hf := sf_bp hf hc
              exact hk _ _ _ _ hP hS (lv_sub hl [1, 2, 3, 4, 5] rfl) hf
            · have hf := sf_bn hf hc
              refine lv_aload_n hx hb dX12_ranked_31 rfl (lv_at hl 4 rfl) ?_
              refine lv_iload_n hx hb dX12_ranked_32 rfl (lv_at hl 2 rfl) ?_
              obtain ⟨r_5, hc5, hf⟩ := sf_c1e hf
              refine k_Pi (run_PV (As := [.int v_1]) (rest := []) ⟨hx, hb, hml, hown, ha⟩ (c_X12_startOf l D dA h0 h1 h2 h3 h4 h5 h6 h7  ms mb mv mi mp mn mt mo mO mI mL mA mW mE mF mc mM v_1 _ hc5) (gi_V m_1773 m_1775 m_43 m_85 m_1776) yd_X12_startOf ⟨Nat.le_of_ble_eq_true rfl, Nat.le_of_ble_eq_true rfl⟩ ⟨rfl, rfl⟩ hK hP [0, 1, 2, 3, 4, 5, 6, 7] rfl 0 10 rfl rfl rfl rfl hl.1 rfl (Nat.le_of_ble_eq_true rfl) dX12_ranked_33 ⟨Nat.le_of_ble_eq_true rfl, Nat.le_of_ble_eq_true rfl⟩) hP hS (fun H locs hP hS => ?_)
              refine lv_aload_n hx hb dX12_ranked_36 rfl (lv_at hl 4 rfl) ?_
              refine lv_iload hx hb dX12_ranked_37 (lv_at hl 0 rfl) ?_
              obtain ⟨r_6, hc6, hf⟩ := sf_c1e hf
              refine k_Pi (run_PV (As := [.int v_3]) (rest := [.int r_5]) ⟨hx, hb, hml, hown, ha⟩ (c_X12_startOf l D dA h0 h1 h2 h3 h4 h5 h6 h7  ms mb mv mi mp mn mt mo mO mI mL mA mW mE mF mc mM v_3 _ hc6) (gi_V m_1773 m_1775 m_43 m_85 m_1776) yd_X12_startOf ⟨Nat.le_of_ble_eq_true rfl, Nat.le_of_ble_eq_true rfl⟩ ⟨rfl, rfl⟩ hK hP [0, 1, 2, 3, 4, 5, 6, 7] rfl 0 10 rfl rfl rfl rfl hl.1 rfl (Nat.le_of_ble_eq_true rfl) dX12_ranked_39 ⟨Nat.le_of_ble_eq_true rfl, Nat.le_of_ble_eq_true rfl⟩) hP hS (fun H locs hP hS => ?_)
              refine lv_isub hx hb dX12_ranked_42 ?_
              obtain ⟨x_7, ex_7, hf⟩ := sf_ne hf
              refine tp_i ex_7 ?_
              refine lv_istore (lv' := [(6, .int x_7), (5, .int v_3), (4, .int v_4), (3, .int v_1), (2, .int v_2), (0, .ref h0), (1, .int p0)]) hx hb dX12_ranked_43 hl (by decide) rfl (fun ls hl => ?_)
              refine lv_iload hx hb dX12_ranked_45 (lv_at hl 2 rfl) ?_
              refine lv_iload hx hb dX12_ranked_47 (lv_at hl 0 rfl) ?_
              refine lv_if_gt (tgt := 73) hx hb dX12_ranked_49 (by decide) (fun hc => ?_) (fun hc => ?_)
              · have hf := sf_bp hf hc
                refine lv_iconst (v := 1) hx hb dX12_ranked_73 (by decide) ?_
                refine lv_goto (tgt := 78) hx hb dX12_ranked_74 (by decide) ?_
                refine lv_iadd hx hb dX12_ranked_78 ?_
                obtain ⟨x_8, ex_8, hf⟩ := sf_ne hf
                refine tp_i ex_8 ?_
                refine lv_istore (lv' := [(4, .int x_8), (6, .int x_7), (5, .int v_3), (3, .int v_1), (2, .int v_2), (0, .ref h0), (1, .int p0)]) hx hb dX12_ranked_79 hl (by decide) rfl (fun ls hl => ?_)
                obtain ⟨x_9, ex_9, hf⟩ := sf_ne hf
                refine ii_nc (lv' := [(5, .int x_9), (4, .int x_8), (6, .int x_7), (3, .int v_1), (2, .int v_2), (0, .ref h0), (1, .int p0)]) (k := 2) hx hb dX12_ranked_81 hl rfl ex_9 (by decide) (by decide) rfl (fun ls hl => ?_)
                refine lv_goto (tgt := 20) hx hb dX12_ranked_84 (by decide) ?_
                exact ih _ _ _ _ _ hP hS (lv_sub hl [0, 1, 3, 4, 5, 6] rfl) hf hk
              · have hf := sf_bn hf hc
                refine lv_iload hx hb dX12_ranked_52 (lv_at hl 0 rfl) ?_
                refine lv_if_ne (tgt := 77) hx hb dX12_ranked_54 (by decide) (fun hc => ?_) (fun hc => ?_)
                · have hf := sf_bn hf hc
                  refine lv_iconst (v := 0) hx hb dX12_ranked_77 (by decide) ?_
                  refine lv_iadd hx hb dX12_ranked_78 ?_
                  obtain ⟨x_10, ex_10, hf⟩ := sf_ne hf
                  refine tp_i ex_10 ?_
                  refine lv_istore (lv' := [(4, .int x_10), (6, .int x_7), (5, .int v_3), (3, .int v_1), (2, .int v_2), (0, .ref h0), (1, .int p0)]) hx hb dX12_ranked_79 hl (by decide) rfl (fun ls hl => ?_)
                  obtain ⟨x_11, ex_11, hf⟩ := sf_ne hf
                  refine ii_nc (lv' := [(5, .int x_11), (4, .int x_10), (6, .int x_7), (3, .int v_1), (2, .int v_2), (0, .ref h0), (1, .int p0)]) (k := 2) hx hb dX12_ranked_81 hl rfl ex_11 (by decide) (by decide) rfl (fun ls hl => ?_)
                  refine lv_goto (tgt := 20) hx hb dX12_ranked_84 (by decide) ?_
                  exact ih _ _ _ _ _ hP hS (lv_sub hl [0, 1, 3, 4, 5, 6] rfl) hf hk
                · have hf := sf_bp hf hc
                  refine lv_aload_n hx hb dX12_ranked_57 rfl (lv_at hl 5 rfl) ?_
                  refine lv_iload hx hb dX12_ranked_58 (lv_at hl 1 rfl) ?_
                  refine lv_iconst (v := 1) hx hb dX12_ranked_60 (by decide) ?_
                  obtain ⟨r_12, hc12, hf⟩ := sf_c1e hf
                  refine k_Pi (run_PV (As := [.int v_3, .int (1 : Int32)]) (rest := [.int v_4]) ⟨hx, hb, hml, hown, ha⟩ (c_X12_booking l D dA h0 h1 h2 h3 h4 h5 h6 h7  ms mb mv mi mp mn mt mo mO mI mL mA mW mE mF mc mM v_3 (1 : Int32) _ hc12) (gi_V m_1769 m_1771 m_42 m_85 m_1772) yd_X12_booking ⟨Nat.le_of_ble_eq_true rfl, Nat.le_of_ble_eq_true rfl⟩ ⟨rfl, rfl⟩ hK hP [0, 1, 2, 3, 4, 5, 6, 7] rfl 0 10 rfl rfl rfl rfl hl.1 rfl (Nat.le_of_ble_eq_true rfl) dX12_ranked_61 ⟨Nat.le_of_ble_eq_true rfl, Nat.le_of_ble_eq_true rfl⟩) hP hS (fun H locs hP hS => ?_)
                  refine lv_aload_n hx hb dX12_ranked_64 rfl (lv_at hl 5 rfl) ?_
                  refine lv_iload_n hx hb dX12_ranked_65 rfl (lv_at hl 3 rfl) ?_
                  refine lv_iconst (v := 1) hx hb dX12_ranked_66 (by decide) ?_
                  obtain ⟨r_13, hc13, hf⟩ := sf_c1e hf
                  refine k_Pi (run_PV (As := [.int v_1, .int (1 : Int32)]) (rest := [.int r_12, .int v_4]) ⟨hx, hb, hml, hown, ha⟩ (c_X12_booking l D dA h0 h1 h2 h3 h4 h5 h6 h7  ms mb mv mi mp mn mt mo mO mI mL mA mW mE mF mc mM v_1 (1 : Int32) _ hc13) (gi_V m_1769 m_1771 m_42 m_85 m_1772) yd_X12_booking ⟨Nat.le_of_ble_eq_true rfl, Nat.le_of_ble_eq_true rfl⟩ ⟨rfl, rfl⟩ hK hP [0, 1, 2, 3, 4, 5, 6, 7] rfl 0 10 rfl rfl rfl rfl hl.1 rfl (Nat.le_of_ble_eq_true rfl) dX12_ranked_67 ⟨Nat.le_of_ble_eq_true rfl, Nat.le_of_ble_eq_true rfl⟩) hP hS (fun H locs hP hS => ?_)
                  refine lv_icmp_ge (tgt := 77) hx hb dX12_ranked_70 (by decide) (fun hc => ?_) (fun hc => ?_)
                  · have hf := sf_bp hf hc
                    refine lv_iconst (v := 0) hx hb dX12_ranked_77 (by decide) ?_
                    refine lv_iadd hx hb dX12_ranked_78 ?_
                    obtain ⟨x_14, ex_14, hf⟩ := sf_ne hf
                    refine tp_i ex_14 ?_
                    refine lv_istore (lv' := [(4, .int x_14), (6, .int x_7), (5, .int v_3), (3, .int v_1), (2, .int v_2), (0, .ref h0), (1, .int p0)]) hx hb dX12_ranked_79 hl (by decide) rfl (fun ls hl => ?_)
                    obtain ⟨x_15, ex_15, hf⟩ := sf_ne hf
                    refine ii_nc (lv' := [(5, .int x_15), (4, .int x_14), (6, .int x_7), (3, .int v_1), (2, .int v_2), (0, .ref h0), (1, .int p0)]) (k := 2) hx hb dX12_ranked_81 hl rfl ex_15 (by decide) (by decide) rfl (fun ls hl => ?_)
                    refine lv_goto (tgt := 20) hx hb dX12_ranked_84 (by decide) ?_
                    exact ih _ _ _ _ _ hP hS (lv_sub hl [0, 1, 3, 4, 5, 6] rfl) hf hk
                  · have hf := sf_bn hf hc
                    refine lv_iconst (v := 1) hx hb dX12_ranked_73 (by decide) ?_
                    refine lv_goto (tgt := 78) hx hb dX12_ranked_74 (by decide) ?_
                    refine lv_iadd hx hb dX12_ranked_78 ?_
                    obtain ⟨x_16, ex_16, hf⟩ := sf_ne hf
                    refine tp_i ex_16 ?_
                    refine lv_istore (lv' := [(4, .int x_16), (6, .int x_7), (5, .int v_3), (3, .int v_1), (2, .int v_2), (0, .ref h0), (1, .int p0)]) hx hb dX12_ranked_79 hl (by decide) rfl (fun ls hl => ?_)
                    obtain ⟨x_17, ex_17, hf⟩ := sf_ne hf
                    refine ii_nc (lv' := [(5, .int x_17), (4, .int x_16), (6, .int x_7), (3, .int v_1), (2, .int v_2), (0, .ref h0), (1, .int p0)]) (k := 2) hx hb dX12_ranked_81 hl rfl ex_17 (by decide) (by decide) rfl (fun ls hl => ?_)
                    refine lv_goto (tgt := 20) hx hb dX12_ranked_84 (by decide) ?_
                    exact ih _ _ _ _ _ hP hS (lv_sub hl [0, 1, 3, 4, 5, 6] rfl) hf hk
        refine hL20 _ _ _ _ _ _ _ hP hS (lv_sub hl [0, 1, 2, 3, 4, 5] rfl) hf (fun y_18 H locs ls hP hS hl hf => ?_)
        refine lv_iload hx hb dX12_ranked_87 (lv_at hl 0 rfl) ?_
        refine lv_iload_n hx hb dX12_ranked_89 rfl (lv_at hl 4 rfl) ?_
        refine lv_icmp_ne (tgt := 97) hx hb dX12_ranked_90 (by decide) (fun hc => ?_) (fun hc => ?_)
        · have hf := sf_bn hf hc
          refine lv_iload_n hx hb dX12_ranked_97 rfl (lv_at hl 2 rfl) ?_
          refine lv_istore_n (lv' := [(2, .int v_2), (4, .int y_18), (3, .int v_1), (0, .ref h0), (1, .int p0)]) hx hb dX12_ranked_98 rfl hl (by decide) rfl (fun ls hl => ?_)
          obtain ⟨x_19, ex_19, hf⟩ := sf_ne hf
          refine ii_nc (lv' := [(3, .int x_19), (2, .int v_2), (4, .int y_18), (0, .ref h0), (1, .int p0)]) (k := 2) hx hb dX12_ranked_99 hl rfl ex_19 (by decide) (by decide) rfl (fun ls hl => ?_)
          refine lv_goto (tgt := 4) hx hb dX12_ranked_102 (by decide) ?_
          exact ih _ _ _ _ _ hP hS (lv_sub hl [0, 1, 3, 4] rfl) hf hk
        · have hf := sf_bp hf hc
          refine lv_iload_n hx hb dX12_ranked_93 rfl (lv_at hl 1 rfl) ?_
          refine lv_goto (tgt := 98) hx hb dX12_ranked_94 (by decide) ?_
          refine lv_istore_n (lv' := [(2, .int v_1), (4, .int y_18), (3, .int v_1), (0, .ref h0), (1, .int p0)]) hx hb dX12_ranked_98 rfl hl (by decide) rfl (fun ls hl => ?_)
          obtain ⟨x_20, ex_20, hf⟩ := sf_ne hf
          refine ii_nc (lv' := [(3, .int x_20), (2, .int v_1), (4, .int y_18), (0, .ref h0), (1, .int p0)]) (k := 2) hx hb dX12_ranked_99 hl rfl ex_20 (by decide) (by decide) rfl (fun ls hl => ?_)
          refine lv_goto (tgt := 4) hx hb dX12_ranked_102 (by decide) ?_
          exact ih _ _ _ _ _ hP hS (lv_sub hl [0, 1, 3, 4] rfl) hf hk
  refine hL4 _ _ _ _ _ _ _ hP hS (lv_sub hl [0, 1, 2, 3] rfl) hf (fun y_21 H locs ls hP hS hl hf => ?_)
  refine lv_iload_n hx hb dX12_ranked_105 rfl (lv_at hl 0 rfl) ?_
  exact rt_Pi hx hb hr hlocks (Option.some.inj hf) hS dX12_ranked_106

def f_X12_bookingByStart (ms : Nat → Int32) (mt : Int32) (p0 : Int32) : Option (Int32 × Int32) :=
  sf_c1 (f_X12_isBooking ms p0) (fun r_1 => sf_c2 (f_X12_isThere mt r_1) (fun r_2 x_3 => sf_b (r_2 = (0 : Int32)) (some ((0 : Int32), x_3)) (sf_c1 (f_X12_ranked ms p0) (fun r_4 => some (r_4, x_3)))))
theorem yd_X12_bookingByStart : yX12_bookingByStart.cls = RX12 ∧ yX12_bookingByStart.cls ≠ "java/lang/invoke/MethodHandle" ∧ yX12_bookingByStart.cls ≠ "java/lang/invoke/VarHandle" ∧ (parseMethodDescriptor yX12_bookingByStart.desc).map (fun d => d.parameters.length) = some 1 := ⟨rfl, by decide, by decide, by decide +kernel⟩
set_option maxRecDepth 100000 in
set_option maxHeartbeats 4000000 in
theorem c_X12_bookingByStart (l : Launch) (D : va_G) (dA : Nat → ClassId) (h0 h1 h2 h3 h4 h5 h6 h7 : Nat) (sz : Nat) (ms : Nat → Int32) (mb : Nat → Int32) (mv : Nat → Int32) (mi : Int32) (mp : Nat → Int32) (mn : Int32) (mt : Int32) (mo : Nat → Int32) (mO : Int32) (mI : Nat → Int32) (mL : Int32) (mA : Int32) (mW : Int32) (mE : Int32) (mF : Int32) (mc : Nat → Int32) (mM : Int32) (p0 : Int32) (rr : Int32) (q_mt : Int32) (hf : f_X12_bookingByStart ms mt p0 = some (rr, q_mt)) : Met l yX12_bookingByStart (wo (.code yX12_bookingByStart cX12_bookingByStart 2 (some .int))) ({ frames := 3, cells := 0, slots := 0, locals := 69 } : Room) (preM D dA [.ref h0, .int p0] sz [(h0, .inr (10, [.ref h1, .ref h2, .ref h3, .int mi, .ref h4, .int mn, .int mt, .ref h5, .int mO, .ref h6, .int mL, .int mA, .int mW, .int mE, .int mF, .ref h7, .int mM])), (h1, .inl (dA 0, 158, .inl ms)), (h2, .inl (dA 0, 158, .inl mb)), (h3, .inl (dA 0, 158, .inl mv)), (h4, .inl (dA 0, 1264, .inl mp)), (h5, .inl (dA 1, 180, .inl mo)), (h6, .inl (dA 1, 60, .inl mI)), (h7, .inl (dA 0, 240, .inl mc))]) (poMi D rr [(h0, .inr (10, [.ref h1, .ref h2, .ref h3, .int mi, .ref h4, .int mn, .int q_mt, .ref h5, .int mO, .ref h6, .int mL, .int mA, .int mW, .int mE, .int mF, .ref h7, .int mM])), (h1, .inl (dA 0, 158, .inl ms)), (h2, .inl (dA 0, 158, .inl mb)), (h3, .inl (dA 0, 158, .inl mv)), (h4, .inl (dA 0, 1264, .inl mp)), (h5, .inl (dA 1, 180, .inl mo)), (h6, .inl (dA 1, 60, .inl mI)), (h7, .inl (dA 0, 240, .inl mc))] (va_A [(h0, .inr (10, [.ref h1, .ref h2, .ref h3, .int mi, .ref h4, .int mn, .int mt, .ref h5, .int mO, .ref h6, .int mL, .int mA, .int mW, .int mE, .int mF, .ref h7, .int mM])), (h1, .inl (dA 0, 158, .inl ms)), (h2, .inl (dA 0, 158, .inl mb)), (h3, .inl (dA 0, 158, .inl mv)), (h4, .inl (dA 0, 1264, .inl mp)), (h5, .inl (dA 1, 180, .inl mo)), (h6, .inl (dA 1, 60, .inl mI)), (h7, .inl (dA 0, 240, .inl mc))] sz)) 0 0 (va_A [(h0, .inr (10, [.ref h1, .ref h2, .ref h3, .int mi, .ref h4, .int mn, .int mt, .ref h5, .int mO, .ref h6, .int mL, .int mA, .int mW, .int mE, .int mF, .ref h7, .int mM])), (h1, .inl (dA 0, 158, .inl ms)), (h2, .inl (dA 0, 158, .inl mb)), (h3, .inl (dA 0, 158, .inl mv)), (h4, .inl (dA 0, 1264, .inl mp)), (h5, .inl (dA 1, 180, .inl mo)), (h6, .inl (dA 1, 60, .inl mI)), (h7, .inl (dA 0, 240, .inl mc))] sz) := by
  refine of_M (y := yX12_bookingByStart) (av := [.ref h0, .int p0]) (ws := [(h0, .inr (10, [.ref h1, .ref h2, .ref h3, .int mi, .ref h4, .int mn, .int mt, .ref h5, .int mO, .ref h6, .int mL, .int mA, .int mW, .int mE, .int mF, .ref h7, .int mM])), (h1, .inl (dA 0, 158, .inl ms)), (h2, .inl (dA 0, 158, .inl mb)), (h3, .inl (dA 0, 158, .inl mv)), (h4, .inl (dA 0, 1264, .inl mp)), (h5, .inl (dA 1, 180, .inl mo)), (h6, .inl (dA 1, 60, .inl mI)), (h7, .inl (dA 0, 240, .inl mc))]) (sz := sz) (own := RX12) (Qc := poMi D rr [(h0, .inr (10, [.ref h1, .ref h2, .ref h3, .int mi, .ref h4, .int mn, .int q_mt, .ref h5, .int mO, .ref h6, .int mL, .int mA, .int mW, .int mE, .int mF, .ref h7, .int mM])), (h1, .inl (dA 0, 158, .inl ms)), (h2, .inl (dA 0, 158, .inl mb)), (h3, .inl (dA 0, 158, .inl mv)), (h4, .inl (dA 0, 1264, .inl mp)), (h5, .inl (dA 1, 180, .inl mo)), (h6, .inl (dA 1, 60, .inl mI)), (h7, .inl (dA 0, 240, .inl mc))]) (by decide) rfl (Nat.le_of_ble_eq_true rfl) ?_
  intro p e s m below meth c A hx hb hr ha hown hml hlocks hin hP hK hD hS hA ls hl
  have hl : lv_has ls 2 [(0, .ref h0), (1, .int p0)] := hl
  rw [f_X12_bookingByStart] at hf
  refine lv_aload_n hx hb dX12_bookingByStart_0 rfl (lv_at hl 0 rfl) ?_
  refine lv_aload_n hx hb dX12_bookingByStart_1 rfl (lv_at hl 0 rfl) ?_
  refine lv_iload_n hx hb dX12_bookingByStart_2 rfl (lv_at hl 1 rfl) ?_
  obtain ⟨r_1, hc1, hf⟩ := sf_c1e hf
  refine k_Pi (run_PV (As := [.int p0]) (rest := [.ref h0]) ⟨hx, hb, hml, hown, ha⟩ (c_X12_isBooking l D dA h0 h1 h2 h3 h4 h5 h6 h7  ms mb mv mi mp mn mt mo mO mI mL mA mW mE mF mc mM p0 _ hc1) (gi_V m_1797 m_1799 m_48 m_85 m_1800) yd_X12_isBooking ⟨Nat.le_of_ble_eq_true rfl, Nat.le_of_ble_eq_true rfl⟩ ⟨rfl, rfl⟩ hK hP [0, 1, 2, 3, 4, 5, 6, 7] rfl 0 10 rfl rfl rfl rfl hl.1 rfl (Nat.le_of_ble_eq_true rfl) dX12_bookingByStart_3 ⟨Nat.le_of_ble_eq_true rfl, Nat.le_of_ble_eq_true rfl⟩) hP hS (fun H locs hP hS => ?_)
  obtain ⟨r_2, x_3, hc3, hf⟩ := sf_c2e hf
  refine k_Mi (wr := []) (run_MV (As := [.int r_1]) (rest := []) ⟨hx, hb, hml, hown, ha⟩ (c_X12_isThere l D dA h0 h1 h2 h3 h4 h5 h6 h7 _ ms mb mv mi mp mn mt mo mO mI mL mA mW mE mF mc mM r_1 _ _ hc3) (gi_V m_1867 m_1869 m_59 m_85 m_1870) yd_X12_isThere ⟨Nat.le_of_ble_eq_true rfl, Nat.le_of_ble_eq_true rfl⟩ ⟨rfl, rfl⟩ hK hP hD [0, 1, 2, 3, 4, 5, 6, 7] (by decide) rfl 0 10 rfl rfl rfl rfl hl.1 rfl (Nat.le_of_ble_eq_true rfl) dX12_bookingByStart_6 ⟨Nat.le_of_ble_eq_true rfl, Nat.le_of_ble_eq_true rfl⟩) hP hD hS hA [0, 1, 2, 3, 4, 5, 6, 7] [] rfl rfl (by decide) (by decide) (fun H locs hP hD hS => ?_)
  refine lv_if_eq (tgt := 20) hx hb dX12_bookingByStart_9 (by decide) (fun hc => ?_) (fun hc => ?_)
  · have hf := sf_bp hf hc
    refine lv_iconst (v := 0) hx hb dX12_bookingByStart_20 (by decide) ?_
    cases hf
    exact rt_Mi hx hb hr hlocks (hP.sub [0, 1, 2, 3, 4, 5, 6, 7] rfl) (hD.sub [0, 1, 2, 3, 4, 5, 6, 7] (by decide) rfl) hS dX12_bookingByStart_21
  · have hf := sf_bn hf hc
    refine lv_aload_n hx hb dX12_bookingByStart_12 rfl (lv_at hl 0 rfl) ?_
    refine lv_iload_n hx hb dX12_bookingByStart_13 rfl (lv_at hl 1 rfl) ?_
    obtain ⟨r_4, hc4, hf⟩ := sf_c1e hf
    refine k_Pi (run_PV (As := [.int p0]) (rest := []) ⟨hx, hb, hml, hown, ha⟩ (c_X12_ranked l D dA h0 h1 h2 h3 h4 h5 h6 h7  ms mb mv mi mp mn x_3 mo mO mI mL mA mW mE mF mc mM p0 _ hc4) (gi_V m_1927 m_1929 m_60 m_85 m_1930) yd_X12_ranked ⟨Nat.le_of_ble_eq_true rfl, Nat.le_of_ble_eq_true rfl⟩ ⟨rfl, rfl⟩ hK hP [0, 1, 2, 3, 4, 5, 6, 7] rfl 0 10 rfl rfl rfl rfl hl.1 rfl (Nat.le_of_ble_eq_true rfl) dX12_bookingByStart_14 ⟨Nat.le_of_ble_eq_true rfl, Nat.le_of_ble_eq_true rfl⟩) hP hS (fun H locs hP hS => ?_)
    refine lv_goto (tgt := 21) hx hb dX12_bookingByStart_17 (by decide) ?_
    cases hf
    exact rt_Mi hx hb hr hlocks (hP.sub [0, 1, 2, 3, 4, 5, 6, 7] rfl) (hD.sub [0, 1, 2, 3, 4, 5, 6, 7] (by decide) rfl) hS dX12_bookingByStart_21

def f_X12_isFree (ms : Nat → Int32) (mt : Int32) (p0 : Int32) (p1 : Int32) : Option (Int32 × Int32) :=
  sf_c1 (f_X12_isSlide ms p0) (fun r_1 => sf_b (r_1 = (0 : Int32)) (some ((0 : Int32), (1 : Int32))) (sf_c1 (f_X12_isStart ms p1) (fun r_2 => sf_b (r_2 = (0 : Int32)) (some ((0 : Int32), (2 : Int32))) (sf_c1 (f_X12_clashes ms (-1 : Int32) p0 p1) (fun r_3 => sf_b (r_3 = (0 : Int32)) (some ((1 : Int32), (0 : Int32))) (some ((0 : Int32), (0 : Int32))))))))
theorem yd_X12_isFree : yX12_isFree.cls = RX12 ∧ yX12_isFree.cls ≠ "java/lang/invoke/MethodHandle" ∧ yX12_isFree.cls ≠ "java/lang/invoke/VarHandle" ∧ (parseMethodDescriptor yX12_isFree.desc).map (fun d => d.parameters.length) = some 2 := ⟨rfl, by decide, by decide, by decide +kernel⟩
set_option maxRecDepth 100000 in
set_option maxHeartbeats 4000000 in
theorem c_X12_isFree (l : Launch) (D : va_G) (dA : Nat → ClassId) (h0 h1 h2 h3 h4 h5 h6 h7 : Nat) (sz : Nat) (ms : Nat → Int32) (mb : Nat → Int32) (mv : Nat → Int32) (mi : Int32) (mp : Nat → Int32) (mn : Int32) (mt : Int32) (mo : Nat → Int32) (mO : Int32) (mI : Nat → Int32) (mL : Int32) (mA : Int32) (mW : Int32) (mE : Int32) (mF : Int32) (mc : Nat → Int32) (mM : Int32) (p0 : Int32) (p1 : Int32) (rr : Int32) (q_mt : Int32) (hf : f_X12_isFree ms mt p0 p1 = some (rr, q_mt)) : Met l yX12_isFree (wo (.code yX12_isFree cX12_isFree 3 (some .boolean))) ({ frames := 4, cells := 0, slots := 0, locals := 91 } : Room) (preM D dA [.ref h0, .int p0, .int p1] sz [(h0, .inr (10, [.ref h1, .ref h2, .ref h3, .int mi, .ref h4, .int mn, .int mt, .ref h5, .int mO, .ref h6, .int mL, .int mA, .int mW, .int mE, .int mF, .ref h7, .int mM])), (h1, .inl (dA 0, 158, .inl ms)), (h2, .inl (dA 0, 158, .inl mb)), (h3, .inl (dA 0, 158, .inl mv)), (h4, .inl (dA 0, 1264, .inl mp)), (h5, .inl (dA 1, 180, .inl mo)), (h6, .inl (dA 1, 60, .inl mI)), (h7, .inl (dA 0, 240, .inl mc))]) (poMi D rr [(h0, .inr (10, [.ref h1, .ref h2, .ref h3, .int mi, .ref h4, .int mn, .int q_mt, .ref h5, .int mO, .ref h6, .int mL, .int mA, .int mW, .int mE, .int mF, .ref h7, .int mM])), (h1, .inl (dA 0, 158, .inl ms)), (h2, .inl (dA 0, 158, .inl mb)), (h3, .inl (dA 0, 158, .inl mv)), (h4, .inl (dA 0, 1264, .inl mp)), (h5, .inl (dA 1, 180, .inl mo)), (h6, .inl (dA 1, 60, .inl mI)), (h7, .inl (dA 0, 240, .inl mc))] (va_A [(h0, .inr (10, [.ref h1, .ref h2, .ref h3, .int mi, .ref h4, .int mn, .int mt, .ref h5, .int mO, .ref h6, .int mL, .int mA, .int mW, .int mE, .int mF, .ref h7, .int mM])), (h1, .inl (dA 0, 158, .inl ms)), (h2, .inl (dA 0, 158, .inl mb)), (h3, .inl (dA 0, 158, .inl mv)), (h4, .inl (dA 0, 1264, .inl mp)), (h5, .inl (dA 1, 180, .inl mo)), (h6, .inl (dA 1, 60, .inl mI)), (h7, .inl (dA 0, 240, .inl mc))] sz)) 0 0 (va_A [(h0, .inr (10, [.ref h1, .ref h2, .ref h3, .int mi, .ref h4, .int mn, .int mt, .ref h5, .int mO, .ref h6, .int mL, .int mA, .int mW, .int mE, .int mF, .ref h7, .int mM])), (h1, .inl (dA 0, 158, .inl ms)), (h2, .inl (dA 0, 158, .inl mb)), (h3, .inl (dA 0, 158, .inl mv)), (h4, .inl (dA 0, 1264, .inl mp)), (h5, .inl (dA 1, 180, .inl mo)), (h6, .inl (dA 1, 60, .inl mI)), (h7, .inl (dA 0, 240, .inl mc))] sz) := by
  refine of_M (y := yX12_isFree) (av := [.ref h0, .int p0, .int p1]) (ws := [(h0, .inr (10, [.ref h1, .ref h2, .ref h3, .int mi, .ref h4, .int mn, .int mt, .ref h5, .int mO, .ref h6, .int mL, .int mA, .int mW, .int mE, .int mF, .ref h7, .int mM])), (h1, .inl (dA 0, 158, .inl ms)), (h2, .inl (dA 0, 158, .inl mb)), (h3, .inl (dA 0, 158, .inl mv)), (h4, .inl (dA 0, 1264, .inl mp)), (h5, .inl (dA 1, 180, .inl mo)), (h6, .inl (dA 1, 60, .inl mI)), (h7, .inl (dA 0, 240, .inl mc))]) (sz := sz) (own := RX12) (Qc := poMi D rr [(h0, .inr (10, [.ref h1, .ref h2, .ref h3, .int mi, .ref h4, .int mn, .int q_mt, .ref h5, .int mO, .ref h6, .int mL, .int mA, .int mW, .int mE, .int mF, .ref h7, .int mM])), (h1, .inl (dA 0, 158, .inl ms)), (h2, .inl (dA 0, 158, .inl mb)), (h3, .inl (dA 0, 158, .inl mv)), (h4, .inl (dA 0, 1264, .inl mp)), (h5, .inl (dA 1, 180, .inl mo)), (h6, .inl (dA 1, 60, .inl mI)), (h7, .inl (dA 0, 240, .inl mc))]) (by decide) rfl (Nat.le_of_ble_eq_true rfl) ?_
  intro p e s m below meth c A hx hb hr ha hown hml hlocks hin hP hK hD hS hA ls hl
  have hl : lv_has ls 3 [(0, .ref h0), (1, .int p0), (2, .int p1)] := hl
  rw [f_X12_isFree] at hf
  refine lv_aload_n hx hb dX12_isFree_0 rfl (lv_at hl 0 rfl) ?_
  refine lv_aload_n hx hb dX12_isFree_1 rfl (lv_at hl 0 rfl) ?_
  refine lv_iload_n hx hb dX12_isFree_2 rfl (lv_at hl 1 rfl) ?_
  obtain ⟨r_1, hc1, hf⟩ := sf_c1e hf
  refine k_Pi (run_PV (As := [.int p0]) (rest := [.ref h0]) ⟨hx, hb, hml, hown, ha⟩ (c_X12_isSlide l D dA h0 h1 h2 h3 h4 h5 h6 h7  ms mb mv mi mp mn mt mo mO mI mL mA mW mE mF mc mM p0 _ hc1) (gi_V m_1749 m_1751 m_37 m_85 m_1752) yd_X12_isSlide ⟨Nat.le_of_ble_eq_true rfl, Nat.le_of_ble_eq_true rfl⟩ ⟨rfl, rfl⟩ hK hP [0, 1, 2, 3, 4, 5, 6, 7] rfl 0 10 rfl rfl rfl rfl hl.1 rfl (Nat.le_of_ble_eq_true rfl) dX12_isFree_3 ⟨Nat.le_of_ble_eq_true rfl, Nat.le_of_ble_eq_true rfl⟩) hP hS (fun H locs hP hS => ?_)
  refine lv_if_ne (tgt := 13) hx hb dX12_isFree_6 (by decide) (fun hc => ?_) (fun hc => ?_)
  · have hf := sf_bn hf hc
    refine lv_aload_n hx hb dX12_isFree_13 rfl (lv_at hl 0 rfl) ?_
    refine lv_iload_n hx hb dX12_isFree_14 rfl (lv_at hl 2 rfl) ?_
    obtain ⟨r_2, hc2, hf⟩ := sf_c1e hf
    refine k_Pi (run_PV (As := [.int p1]) (rest := [.ref h0]) ⟨hx, hb, hml, hown, ha⟩ (c_X12_isStart l D dA h0 h1 h2 h3 h4 h5 h6 h7  ms mb mv mi mp mn mt mo mO mI mL mA mW mE mF mc mM p1 _ hc2) (gi_V m_1753 m_1755 m_38 m_85 m_1756) yd_X12_isStart ⟨Nat.le_of_ble_eq_true rfl, Nat.le_of_ble_eq_true rfl⟩ ⟨rfl, rfl⟩ hK hP [0, 1, 2, 3, 4, 5, 6, 7] rfl 0 10 rfl rfl rfl rfl hl.1 rfl (Nat.le_of_ble_eq_true rfl) dX12_isFree_15 ⟨Nat.le_of_ble_eq_true rfl, Nat.le_of_ble_eq_true rfl⟩) hP hS (fun H locs hP hS => ?_)
    refine lv_if_ne (tgt := 25) hx hb dX12_isFree_18 (by decide) (fun hc => ?_) (fun hc => ?_)
    · have hf := sf_bn hf hc
      refine lv_iconst (v := 0) hx hb dX12_isFree_25 (by decide) ?_
      refine pt_f (C := RX12) (T := TX12) (N := 17) (ws' := [(h0, .inr (10, [.ref h1, .ref h2, .ref h3, .int mi, .ref h4, .int mn, .int (0 : Int32), .ref h5, .int mO, .ref h6, .int mL, .int mA, .int mW, .int mE, .int mF, .ref h7, .int mM])), (h1, .inl (dA 0, 158, .inl ms)), (h2, .inl (dA 0, 158, .inl mb)), (h3, .inl (dA 0, 158, .inl mv)), (h4, .inl (dA 0, 1264, .inl mp)), (h5, .inl (dA 1, 180, .inl mo)), (h6, .inl (dA 1, 60, .inl mI)), (h7, .inl (dA 0, 240, .inl mc))]) (ty := .int) hx hb ha in_X12 tyX12 tyX12_ok nmX12 hown hK hP hD hS 0 rfl rfl 6 (by decide) m_1655 rfl (tyX12_ok 6 (by decide)) rfl rfl (Nat.le_of_ble_eq_true rfl) rfl dX12_isFree_26 (fun H locs hP hD hS => ?_)
      refine lv_aload_n hx hb dX12_isFree_29 rfl (lv_at hl 0 rfl) ?_
      refine gt_f (C := RX12) (T := TX12) (N := 17) hx hb ha in_X12 hown hK hP 0 rfl rfl 6 (by decide) m_1655 rfl dX12_isFree_30 ?_
      refine lv_if_ne (tgt := 50) hx hb dX12_isFree_33 (by decide) (fun hc => absurd hc (by decide)) (fun hc => ?_)
      refine lv_aload_n hx hb dX12_isFree_36 rfl (lv_at hl 0 rfl) ?_
      refine lv_iconst (v := -1) hx hb dX12_isFree_37 (by decide) ?_
      refine lv_iload_n hx hb dX12_isFree_38 rfl (lv_at hl 1 rfl) ?_
      refine lv_iload_n hx hb dX12_isFree_39 rfl (lv_at hl 2 rfl) ?_
      obtain ⟨r_3, hc3, hf⟩ := sf_c1e hf
      refine k_Pi (run_PV (As := [.int (-1 : Int32), .int p0, .int p1]) (rest := []) ⟨hx, hb, hml, hown, ha⟩ (c_X12_clashes l D dA h0 h1 h2 h3 h4 h5 h6 h7  ms mb mv mi mp mn (0 : Int32) mo mO mI mL mA mW mE mF mc mM (-1 : Int32) p0 p1 _ hc3) (gi_V m_1765 m_1767 m_41 m_85 m_1768) yd_X12_clashes ⟨Nat.le_of_ble_eq_true rfl, Nat.le_of_ble_eq_true rfl⟩ ⟨rfl, rfl⟩ hK hP [0, 1, 2, 3, 4, 5, 6, 7] rfl 0 10 rfl rfl rfl rfl hl.1 rfl (Nat.le_of_ble_eq_true rfl) dX12_isFree_40 ⟨Nat.le_of_ble_eq_true rfl, Nat.le_of_ble_eq_true rfl⟩) hP hS (fun H locs hP hS => ?_)
      refine lv_if_ne (tgt := 50) hx hb dX12_isFree_43 (by decide) (fun hc => ?_) (fun hc => ?_)
      · have hf := sf_bn hf hc
        refine lv_iconst (v := 0) hx hb dX12_isFree_50 (by decide) ?_
        cases hf
        exact rt_Mz hx hb hr hlocks rfl (hP.sub [0, 1, 2, 3, 4, 5, 6, 7] rfl) (hD.sub [0, 1, 2, 3, 4, 5, 6, 7] (by decide) rfl) hS dX12_isFree_51
      · have hf := sf_bp hf hc
        refine lv_iconst (v := 1) hx hb dX12_isFree_46 (by decide) ?_
        refine lv_goto (tgt := 51) hx hb dX12_isFree_47 (by decide) ?_
        cases hf
        exact rt_Mz hx hb hr hlocks rfl (hP.sub [0, 1, 2, 3, 4, 5, 6, 7] rfl) (hD.sub [0, 1, 2, 3, 4, 5, 6, 7] (by decide) rfl) hS dX12_isFree_51
    · have hf := sf_bp hf hc
      refine lv_iconst (v := 2) hx hb dX12_isFree_21 (by decide) ?_
      refine lv_goto (tgt := 26) hx hb dX12_isFree_22 (by decide) ?_
      refine pt_f (C := RX12) (T := TX12) (N := 17) (ws' := [(h0, .inr (10, [.ref h1, .ref h2, .ref h3, .int mi, .ref h4, .int mn, .int (2 : Int32), .ref h5, .int mO, .ref h6, .int mL, .int mA, .int mW, .int mE, .int mF, .ref h7, .int mM])), (h1, .inl (dA 0, 158, .inl ms)), (h2, .inl (dA 0, 158, .inl mb)), (h3, .inl (dA 0, 158, .inl mv)), (h4, .inl (dA 0, 1264, .inl mp)), (h5, .inl (dA 1, 180, .inl mo)), (h6, .inl (dA 1, 60, .inl mI)), (h7, .inl (dA 0, 240, .inl mc))]) (ty := .int) hx hb ha in_X12 tyX12 tyX12_ok nmX12 hown hK hP hD hS 0 rfl rfl 6 (by decide) m_1655 rfl (tyX12_ok 6 (by decide)) rfl rfl (Nat.le_of_ble_eq_true rfl) rfl dX12_isFree_26 (fun H locs hP hD hS => ?_)
      refine lv_aload_n hx hb dX12_isFree_29 rfl (lv_at hl 0 rfl) ?_
      refine gt_f (C := RX12) (T := TX12) (N := 17) hx hb ha in_X12 hown hK hP 0 rfl rfl 6 (by decide) m_1655 rfl dX12_isFree_30 ?_
      refine lv_if_ne (tgt := 50) hx hb dX12_isFree_33 (by decide) (fun hc => ?_) (fun hc => absurd (by decide) hc)
      refine lv_iconst (v := 0) hx hb dX12_isFree_50 (by decide) ?_
      cases hf
      exact rt_Mz hx hb hr hlocks rfl (hP.sub [0, 1, 2, 3, 4, 5, 6, 7] rfl) (hD.sub [0, 1, 2, 3, 4, 5, 6, 7] (by decide) rfl) hS dX12_isFree_51
  · have hf := sf_bp hf hc
    refine lv_iconst (v := 1) hx hb dX12_isFree_9 (by decide) ?_
    refine lv_goto (tgt := 26) hx hb dX12_isFree_10 (by decide) ?_
    refine pt_f (C := RX12) (T := TX12) (N := 17) (ws' := [(h0, .inr (10, [.ref h1, .ref h2, .ref h3, .int mi, .ref h4, .int mn, .int (1 : Int32), .ref h5, .int mO, .ref h6, .int mL, .int mA, .int mW, .int mE, .int mF, .ref h7, .int mM])), (h1, .inl (dA 0, 158, .inl ms)), (h2, .inl (dA 0, 158, .inl mb)), (h3, .inl (dA 0, 158, .inl mv)), (h4, .inl (dA 0, 1264, .inl mp)), (h5, .inl (dA 1, 180, .inl mo)), (h6, .inl (dA 1, 60, .inl mI)), (h7, .inl (dA 0, 240, .inl mc))]) (ty := .int) hx hb ha in_X12 tyX12 tyX12_ok nmX12 hown hK hP hD hS 0 rfl rfl 6 (by decide) m_1655 rfl (tyX12_ok 6 (by decide)) rfl rfl (Nat.le_of_ble_eq_true rfl) rfl dX12_isFree_26 (fun H locs hP hD hS => ?_)
    refine lv_aload_n hx hb dX12_isFree_29 rfl (lv_at hl 0 rfl) ?_
    refine gt_f (C := RX12) (T := TX12) (N := 17) hx hb ha in_X12 hown hK hP 0 rfl rfl 6 (by decide) m_1655 rfl dX12_isFree_30 ?_
    refine lv_if_ne (tgt := 50) hx hb dX12_isFree_33 (by decide) (fun hc => ?_) (fun hc => absurd (by decide) hc)
    refine lv_iconst (v := 0) hx hb dX12_isFree_50 (by decide) ?_
    cases hf
    exact rt_Mz hx hb hr hlocks rfl (hP.sub [0, 1, 2, 3, 4, 5, 6, 7] rfl) (hD.sub [0, 1, 2, 3, 4, 5, 6, 7] (by decide) rfl) hS dX12_isFree_51

def f_X12_firstFree_L40 (ms : Nat → Int32) (p0 : Int32) (k : Int32 → Option (Int32 × Int32)) : Nat → Int32 → Option (Int32 × Int32)
  | 0, _ => none
  | n + 1, v_3 => sf_c1 (f_X12_isStart ms v_3) (fun r_4 => sf_b (r_4 = (0 : Int32)) (k v_3) (sf_c1 (f_X12_clashes ms (-1 : Int32) p0 v_3) (fun r_5 => sf_b (r_5 = (0 : Int32)) (k v_3) (sf_n (v_3 + (1 : Int32)) (fun x_6 => f_X12_firstFree_L40 ms p0 k n x_6)))))
def f_X12_firstFree (ms : Nat → Int32) (mt : Int32) (p0 : Int32) (p1 : Int32) : Option (Int32 × Int32) :=
  sf_c1 (f_X12_isSlide ms p0) (fun r_1 => sf_b (r_1 = (0 : Int32)) (some ((0 : Int32), (1 : Int32))) (sf_c1 (f_X12_isStart ms p1) (fun r_2 => sf_b (r_2 = (0 : Int32)) (some ((0 : Int32), (2 : Int32))) (f_X12_firstFree_L40 ms p0 (fun y_7 => sf_c1 (f_X12_isStart ms y_7) (fun r_8 => sf_b (r_8 = (0 : Int32)) (some ((0 : Int32), (3 : Int32))) (some (y_7, (0 : Int32))))) 2000 p1))))
theorem yd_X12_firstFree : yX12_firstFree.cls = RX12 ∧ yX12_firstFree.cls ≠ "java/lang/invoke/MethodHandle" ∧ yX12_firstFree.cls ≠ "java/lang/invoke/VarHandle" ∧ (parseMethodDescriptor yX12_firstFree.desc).map (fun d => d.parameters.length) = some 2 := ⟨rfl, by decide, by decide, by decide +kernel⟩
set_option maxRecDepth 100000 in
set_option maxHeartbeats 4000000 in
theorem c_X12_firstFree (l : Launch) (D : va_G) (dA : Nat → ClassId) (h0 h1 h2 h3 h4 h5 h6 h7 : Nat) (sz : Nat) (ms : Nat → Int32) (mb : Nat → Int32) (mv : Nat → Int32) (mi : Int32) (mp : Nat → Int32) (mn : Int32) (mt : Int32) (mo : Nat → Int32) (mO : Int32) (mI : Nat → Int32) (mL : Int32) (mA : Int32) (mW : Int32) (mE : Int32) (mF : Int32) (mc : Nat → Int32) (mM : Int32) (p0 : Int32) (p1 : Int32) (rr : Int32) (q_mt : Int32) (hf : f_X12_firstFree ms mt p0 p1 = some (rr, q_mt)) : Met l yX12_firstFree (wo (.code yX12_firstFree cX12_firstFree 4 (some .int))) ({ frames := 4, cells := 0, slots := 0, locals := 91 } : Room) (preM D dA [.ref h0, .int p0, .int p1] sz [(h0, .inr (10, [.ref h1, .ref h2, .ref h3, .int mi, .ref h4, .int mn, .int mt, .ref h5, .int mO, .ref h6, .int mL, .int mA, .int mW, .int mE, .int mF, .ref h7, .int mM])), (h1, .inl (dA 0, 158, .inl ms)), (h2, .inl (dA 0, 158, .inl mb)), (h3, .inl (dA 0, 158, .inl mv)), (h4, .inl (dA 0, 1264, .inl mp)), (h5, .inl (dA 1, 180, .inl mo)), (h6, .inl (dA 1, 60, .inl mI)), (h7, .inl (dA 0, 240, .inl mc))]) (poMi D rr [(h0, .inr (10, [.ref h1, .ref h2, .ref h3, .int mi, .ref h4, .int mn, .int q_mt, .ref h5, .int mO, .ref h6, .int mL, .int mA, .int mW, .int mE, .int mF, .ref h7, .int mM])), (h1, .inl (dA 0, 158, .inl ms)), (h2, .inl (dA 0, 158, .inl mb)), (h3, .inl (dA 0, 158, .inl mv)), (h4, .inl (dA 0, 1264, .inl mp)), (h5, .inl (dA 1, 180, .inl mo)), (h6, .inl (dA 1, 60, .inl mI)), (h7, .inl (dA 0, 240, .inl mc))] (va_A [(h0, .inr (10, [.ref h1, .ref h2, .ref h3, .int mi, .ref h4, .int mn, .int mt, .ref h5, .int mO, .ref h6, .int mL, .int mA, .int mW, .int mE, .int mF, .ref h7, .int mM])), (h1, .inl (dA 0, 158, .inl ms)), (h2, .inl (dA 0, 158, .inl mb)), (h3, .inl (dA 0, 158, .inl mv)), (h4, .inl (dA 0, 1264, .inl mp)), (h5, .inl (dA 1, 180, .inl mo)), (h6, .inl (dA 1, 60, .inl mI)), (h7, .inl (dA 0, 240, .inl mc))] sz)) 0 0 (va_A [(h0, .inr (10, [.ref h1, .ref h2, .ref h3, .int mi, .ref h4, .int mn, .int mt, .ref h5, .int mO, .ref h6, .int mL, .int mA, .int mW, .int mE, .int mF, .ref h7, .int mM])), (h1, .inl (dA 0, 158, .inl ms)), (h2, .inl (dA 0, 158, .inl mb)), (h3, .inl (dA 0, 158, .inl mv)), (h4, .inl (dA 0, 1264, .inl mp)), (h5, .inl (dA 1, 180, .inl mo)), (h6, .inl (dA 1, 60, .inl mI)), (h7, .inl (dA 0, 240, .inl mc))] sz) := by
  refine of_M (y := yX12_firstFree) (av := [.ref h0, .int p0, .int p1]) (ws := [(h0, .inr (10, [.ref h1, .ref h2, .ref h3, .int mi, .ref h4, .int mn, .int mt, .ref h5, .int mO, .ref h6, .int mL, .int mA, .int mW, .int mE, .int mF, .ref h7, .int mM])), (h1, .inl (dA 0, 158, .inl ms)), (h2, .inl (dA 0, 158, .inl mb)), (h3, .inl (dA 0, 158, .inl mv)), (h4, .inl (dA 0, 1264, .inl mp)), (h5, .inl (dA 1, 180, .inl mo)), (h6, .inl (dA 1, 60, .inl mI)), (h7, .inl (dA 0, 240, .inl mc))]) (sz := sz) (own := RX12) (Qc := poMi D rr [(h0, .inr (10, [.ref h1, .ref h2, .ref h3, .int mi, .ref h4, .int mn, .int q_mt, .ref h5, .int mO, .ref h6, .int mL, .int mA, .int mW, .int mE, .int mF, .ref h7, .int mM])), (h1, .inl (dA 0, 158, .inl ms)), (h2, .inl (dA 0, 158, .inl mb)), (h3, .inl (dA 0, 158, .inl mv)), (h4, .inl (dA 0, 1264, .inl mp)), (h5, .inl (dA 1, 180, .inl mo)), (h6, .inl (dA 1, 60, .inl mI)), (h7, .inl (dA 0, 240, .inl mc))]) (by decide) rfl (Nat.le_of_ble_eq_true rfl) ?_
  intro p e s m below meth c A hx hb hr ha hown hml hlocks hin hP hK hD hS hA ls hl
  have hl : lv_has ls 4 [(0, .ref h0), (1, .int p0), (2, .int p1)] := hl
  rw [f_X12_firstFree] at hf
  refine lv_aload_n hx hb dX12_firstFree_0 rfl (lv_at hl 0 rfl) ?_
  refine lv_aload_n hx hb dX12_firstFree_1 rfl (lv_at hl 0 rfl) ?_
  refine lv_iload_n hx hb dX12_firstFree_2 rfl (lv_at hl 1 rfl) ?_
  obtain ⟨r_1, hc1, hf⟩ := sf_c1e hf
  refine k_Pi (run_PV (As := [.int p0]) (rest := [.ref h0]) ⟨hx, hb, hml, hown, ha⟩ (c_X12_isSlide l D dA h0 h1 h2 h3 h4 h5 h6 h7  ms mb mv mi mp mn mt mo mO mI mL mA mW mE mF mc mM p0 _ hc1) (gi_V m_1749 m_1751 m_37 m_85 m_1752) yd_X12_isSlide ⟨Nat.le_of_ble_eq_true rfl, Nat.le_of_ble_eq_true rfl⟩ ⟨rfl, rfl⟩ hK hP [0, 1, 2, 3, 4, 5, 6, 7] rfl 0 10 rfl rfl rfl rfl hl.1 rfl (Nat.le_of_ble_eq_true rfl) dX12_firstFree_3 ⟨Nat.le_of_ble_eq_true rfl, Nat.le_of_ble_eq_true rfl⟩) hP hS (fun H locs hP hS => ?_)
  refine lv_if_ne (tgt := 13) hx hb dX12_firstFree_6 (by decide) (fun hc => ?_) (fun hc => ?_)
  · have hf := sf_bn hf hc
    refine lv_aload_n hx hb dX12_firstFree_13 rfl (lv_at hl 0 rfl) ?_
    refine lv_iload_n hx hb dX12_firstFree_14 rfl (lv_at hl 2 rfl) ?_
    obtain ⟨r_2, hc2, hf⟩ := sf_c1e hf
    refine k_Pi (run_PV (As := [.int p1]) (rest := [.ref h0]) ⟨hx, hb, hml, hown, ha⟩ (c_X12_isStart l D dA h0 h1 h2 h3 h4 h5 h6 h7  ms mb mv mi mp mn mt mo mO mI mL mA mW mE mF mc mM p1 _ hc2) (gi_V m_1753 m_1755 m_38 m_85 m_1756) yd_X12_isStart ⟨Nat.le_of_ble_eq_true rfl, Nat.le_of_ble_eq_true rfl⟩ ⟨rfl, rfl⟩ hK hP [0, 1, 2, 3, 4, 5, 6, 7] rfl 0 10 rfl rfl rfl rfl hl.1 rfl (Nat.le_of_ble_eq_true rfl) dX12_firstFree_15 ⟨Nat.le_of_ble_eq_true rfl, Nat.le_of_ble_eq_true rfl⟩) hP hS (fun H locs hP hS => ?_)
    refine lv_if_ne (tgt := 25) hx hb dX12_firstFree_18 (by decide) (fun hc => ?_) (fun hc => ?_)
    · have hf := sf_bn hf hc
      refine lv_iconst (v := 0) hx hb dX12_firstFree_25 (by decide) ?_
      refine pt_f (C := RX12) (T := TX12) (N := 17) (ws' := [(h0, .inr (10, [.ref h1, .ref h2, .ref h3, .int mi, .ref h4, .int mn, .int (0 : Int32), .ref h5, .int mO, .ref h6, .int mL, .int mA, .int mW, .int mE, .int mF, .ref h7, .int mM])), (h1, .inl (dA 0, 158, .inl ms)), (h2, .inl (dA 0, 158, .inl mb)), (h3, .inl (dA 0, 158, .inl mv)), (h4, .inl (dA 0, 1264, .inl mp)), (h5, .inl (dA 1, 180, .inl mo)), (h6, .inl (dA 1, 60, .inl mI)), (h7, .inl (dA 0, 240, .inl mc))]) (ty := .int) hx hb ha in_X12 tyX12 tyX12_ok nmX12 hown hK hP hD hS 0 rfl rfl 6 (by decide) m_1655 rfl (tyX12_ok 6 (by decide)) rfl rfl (Nat.le_of_ble_eq_true rfl) rfl dX12_firstFree_26 (fun H locs hP hD hS => ?_)
      refine lv_aload_n hx hb dX12_firstFree_29 rfl (lv_at hl 0 rfl) ?_
      refine gt_f (C := RX12) (T := TX12) (N := 17) hx hb ha in_X12 hown hK hP 0 rfl rfl 6 (by decide) m_1655 rfl dX12_firstFree_30 ?_
      refine lv_if_le (tgt := 38) hx hb dX12_firstFree_33 (by decide) (fun hc => ?_) (fun hc => absurd (by decide) hc)
      refine lv_iload_n hx hb dX12_firstFree_38 rfl (lv_at hl 2 rfl) ?_
      refine lv_istore_n (lv' := [(3, .int p1), (0, .ref h0), (1, .int p0), (2, .int p1)]) hx hb dX12_firstFree_39 rfl hl (by decide) rfl (fun ls hl => ?_)
      have hL40 : ∀ (n : Nat) (k : Int32 → Option (Int32 × Int32)) (v_3 : Int32) (H : Heap) (locs : List Loc) (ls : Array Slot), va_P D cls [(h0, .inr (10, [.ref h1, .ref h2, .ref h3, .int mi, .ref h4, .int mn, .int (0 : Int32), .ref h5, .int mO, .ref h6, .int mL, .int mA, .int mW, .int mE, .int mF, .ref h7, .int mM])), (h1, .inl (dA 0, 158, .inl ms)), (h2, .inl (dA 0, 158, .inl mb)), (h3, .inl (dA 0, 158, .inl mv)), (h4, .inl (dA 0, 1264, .inl mp)), (h5, .inl (dA 1, 180, .inl mo)), (h6, .inl (dA 1, 60, .inl mI)), (h7, .inl (dA 0, 240, .inl mc))] H → va_D A [(h0, .inr (10, [.ref h1, .ref h2, .ref h3, .int mi, .ref h4, .int mn, .int (0 : Int32), .ref h5, .int mO, .ref h6, .int mL, .int mA, .int mW, .int mE, .int mF, .ref h7, .int mM])), (h1, .inl (dA 0, 158, .inl ms)), (h2, .inl (dA 0, 158, .inl mb)), (h3, .inl (dA 0, 158, .inl mv)), (h4, .inl (dA 0, 1264, .inl mp)), (h5, .inl (dA 1, 180, .inl mo)), (h6, .inl (dA 1, 60, .inl mI)), (h7, .inl (dA 0, 240, .inl mc))] → va_S A s.heap H locs → lv_has ls 4 [(3, .int v_3), (0, .ref h0), (1, .int p0)] → f_X12_firstFree_L40 ms p0 k n v_3 = some (rr, q_mt) → (∀ (y_7 : Int32) (H : Heap) (locs : List Loc) (ls : Array Slot), va_P D cls [(h0, .inr (10, [.ref h1, .ref h2, .ref h3, .int mi, .ref h4, .int mn, .int (0 : Int32), .ref h5, .int mO, .ref h6, .int mL, .int mA, .int mW, .int mE, .int mF, .ref h7, .int mM])), (h1, .inl (dA 0, 158, .inl ms)), (h2, .inl (dA 0, 158, .inl mb)), (h3, .inl (dA 0, 158, .inl mv)), (h4, .inl (dA 0, 1264, .inl mp)), (h5, .inl (dA 1, 180, .inl mo)), (h6, .inl (dA 1, 60, .inl mI)), (h7, .inl (dA 0, 240, .inl mc))] H → va_D A [(h0, .inr (10, [.ref h1, .ref h2, .ref h3, .int mi, .ref h4, .int mn, .int (0 : Int32), .ref h5, .int mO, .ref h6, .int mL, .int mA, .int mW, .int mE, .int mF, .ref h7, .int mM])), (h1, .inl (dA 0, 158, .inl ms)), (h2, .inl (dA 0, 158, .inl mb)), (h3, .inl (dA 0, 158, .inl mv)), (h4, .inl (dA 0, 1264, .inl mp)), (h5, .inl (dA 1, 180, .inl mo)), (h6, .inl (dA 1, 60, .inl mI)), (h7, .inl (dA 0, 240, .inl mc))] → va_S A s.heap H locs → lv_has ls 4 [(3, .int y_7), (0, .ref h0)] → k y_7 = some (rr, q_mt) → W p l e ({ frames := 4, cells := 0, slots := 0, locals := 91 } : Room) s m ([.ref h0, .int p0, .int p1] : List Value).toArray below meth c H locs 0 0 (MQ below (poMi D rr [(h0, .inr (10, [.ref h1, .ref h2, .ref h3, .int mi, .ref h4, .int mn, .int q_mt, .ref h5, .int mO, .ref h6, .int mL, .int mA, .int mW, .int mE, .int mF, .ref h7, .int mM])), (h1, .inl (dA 0, 158, .inl ms)), (h2, .inl (dA 0, 158, .inl mb)), (h3, .inl (dA 0, 158, .inl mv)), (h4, .inl (dA 0, 1264, .inl mp)), (h5, .inl (dA 1, 180, .inl mo)), (h6, .inl (dA 1, 60, .inl mI)), (h7, .inl (dA 0, 240, .inl mc))] A) ([.ref h0, .int p0, .int p1] : List Value).toArray s 0 0 A) (F0 m 64 ls [])) → W p l e ({ frames := 4, cells := 0, slots := 0, locals := 91 } : Room) s m ([.ref h0, .int p0, .int p1] : List Value).toArray below meth c H locs 0 0 (MQ below (poMi D rr [(h0, .inr (10, [.ref h1, .ref h2, .ref h3, .int mi, .ref h4, .int mn, .int q_mt, .ref h5, .int mO, .ref h6, .int mL, .int mA, .int mW, .int mE, .int mF, .ref h7, .int mM])), (h1, .inl (dA 0, 158, .inl ms)), (h2, .inl (dA 0, 158, .inl mb)), (h3, .inl (dA 0, 158, .inl mv)), (h4, .inl (dA 0, 1264, .inl mp)), (h5, .inl (dA 1, 180, .inl mo)), (h6, .inl (dA 1, 60, .inl mI)), (h7, .inl (dA 0, 240, .inl mc))] A) ([.ref h0, .int p0, .int p1] : List Value).toArray s 0 0 A) (F0 m 40 ls []) := by
        intro n k
        induction n with
        | zero =>
          intro v_3 H locs ls hP hD hS hl hf hk
          rw [f_X12_firstFree_L40] at hf
          cases hf
        | succ n ih =>
          intro v_3 H locs ls hP hD hS hl hf hk
          rw [f_X12_firstFree_L40] at hf
          refine lv_aload_n hx hb dX12_firstFree_40 rfl (lv_at hl 1 rfl) ?_
          refine lv_iload_n hx hb dX12_firstFree_41 rfl (lv_at hl 0 rfl) ?_
          obtain ⟨r_4, hc4, hf⟩ := sf_c1e hf
          refine k_Pi (run_PV (As := [.int v_3]) (rest := []) ⟨hx, hb, hml, hown, ha⟩ (c_X12_isStart l D dA h0 h1 h2 h3 h4 h5 h6 h7  ms mb mv mi mp mn (0 : Int32) mo mO mI mL mA mW mE mF mc mM v_3 _ hc4) (gi_V m_1753 m_1755 m_38 m_85 m_1756) yd_X12_isStart ⟨Nat.le_of_ble_eq_true rfl, Nat.le_of_ble_eq_true rfl⟩ ⟨rfl, rfl⟩ hK hP [0, 1, 2, 3, 4, 5, 6, 7] rfl 0 10 rfl rfl rfl rfl hl.1 rfl (Nat.le_of_ble_eq_true rfl) dX12_firstFree_42 ⟨Nat.le_of_ble_eq_true rfl, Nat.le_of_ble_eq_true rfl⟩) hP hS (fun H locs hP hS => ?_)
          refine lv_if_eq (tgt := 64) hx hb dX12_firstFree_45 (by decide) (fun hc => ?_) (fun hc => ?_)
          · have hf := sf_bp hf hc
            exact hk _ _ _ _ (hP.sub [0, 1, 2, 3, 4, 5, 6, 7] rfl) (hD.sub [0, 1, 2, 3, 4, 5, 6, 7] (by decide) rfl) hS (lv_sub hl [0, 1] rfl) hf
          · have hf := sf_bn hf hc
            refine lv_aload_n hx hb dX12_firstFree_48 rfl (lv_at hl 1 rfl) ?_
            refine lv_iconst (v := -1) hx hb dX12_firstFree_49 (by decide) ?_
            refine lv_iload_n hx hb dX12_firstFree_50 rfl (lv_at hl 2 rfl) ?_
            refine lv_iload_n hx hb dX12_firstFree_51 rfl (lv_at hl 0 rfl) ?_
            obtain ⟨r_5, hc5, hf⟩ := sf_c1e hf
            refine k_Pi (run_PV (As := [.int (-1 : Int32), .int p0, .int v_3]) (rest := []) ⟨hx, hb, hml, hown, ha⟩ (c_X12_clashes l D dA h0 h1 h2 h3 h4 h5 h6 h7  ms mb mv mi mp mn (0 : Int32) mo mO mI mL mA mW mE mF mc mM (-1 : Int32) p0 v_3 _ hc5) (gi_V m_1765 m_1767 m_41 m_85 m_1768) yd_X12_clashes ⟨Nat.le_of_ble_eq_true rfl, Nat.le_of_ble_eq_true rfl⟩ ⟨rfl, rfl⟩ hK hP [0, 1, 2, 3, 4, 5, 6, 7] rfl 0 10 rfl rfl rfl rfl hl.1 rfl (Nat.le_of_ble_eq_true rfl) dX12_firstFree_52 ⟨Nat.le_of_ble_eq_true rfl, Nat.le_of_ble_eq_true rfl⟩) hP hS (fun H locs hP hS => ?_)
            refine lv_if_eq (tgt := 64) hx hb dX12_firstFree_55 (by decide) (fun hc => ?_) (fun hc => ?_)
            · have hf := sf_bp hf hc
              exact hk _ _ _ _ (hP.sub [0, 1, 2, 3, 4, 5, 6, 7] rfl) (hD.sub [0, 1, 2, 3, 4, 5, 6, 7] (by decide) rfl) hS (lv_sub hl [0, 1] rfl) hf
            · have hf := sf_bn hf hc
              obtain ⟨x_6, ex_6, hf⟩ := sf_ne hf
              refine ii_nc (lv' := [(3, .int x_6), (0, .ref h0), (1, .int p0)]) (k := 0) hx hb dX12_firstFree_58 hl rfl ex_6 (by decide) (by decide) rfl (fun ls hl => ?_)
              refine lv_goto (tgt := 40) hx hb dX12_firstFree_61 (by decide) ?_
              exact ih _ _ _ _ (hP.sub [0, 1, 2, 3, 4, 5, 6, 7] rfl) (hD.sub [0, 1, 2, 3, 4, 5, 6, 7] (by decide) rfl) hS (lv_sub hl [0, 1, 2] rfl) hf hk
      refine hL40 _ _ _ _ _ _ hP hD hS (lv_sub hl [0, 1, 2] rfl) hf (fun y_7 H locs ls hP hD hS hl hf => ?_)
      refine lv_aload_n hx hb dX12_firstFree_64 rfl (lv_at hl 1 rfl) ?_
      refine lv_aload_n hx hb dX12_firstFree_65 rfl (lv_at hl 1 rfl) ?_
      refine lv_iload_n hx hb dX12_firstFree_66 rfl (lv_at hl 0 rfl) ?_
      obtain ⟨r_8, hc8, hf⟩ := sf_c1e hf
      refine k_Pi (run_PV (As := [.int y_7]) (rest := [.ref h0]) ⟨hx, hb, hml, hown, ha⟩ (c_X12_isStart l D dA h0 h1 h2 h3 h4 h5 h6 h7  ms mb mv mi mp mn (0 : Int32) mo mO mI mL mA mW mE mF mc mM y_7 _ hc8) (gi_V m_1753 m_1755 m_38 m_85 m_1756) yd_X12_isStart ⟨Nat.le_of_ble_eq_true rfl, Nat.le_of_ble_eq_true rfl⟩ ⟨rfl, rfl⟩ hK hP [0, 1, 2, 3, 4, 5, 6, 7] rfl 0 10 rfl rfl rfl rfl hl.1 rfl (Nat.le_of_ble_eq_true rfl) dX12_firstFree_67 ⟨Nat.le_of_ble_eq_true rfl, Nat.le_of_ble_eq_true rfl⟩) hP hS (fun H locs hP hS => ?_)
      refine lv_if_eq (tgt := 77) hx hb dX12_firstFree_70 (by decide) (fun hc => ?_) (fun hc => ?_)
      · have hf := sf_bp hf hc
        refine lv_iconst (v := 3) hx hb dX12_firstFree_77 (by decide) ?_
        refine pt_f (C := RX12) (T := TX12) (N := 17) (ws' := [(h0, .inr (10, [.ref h1, .ref h2, .ref h3, .int mi, .ref h4, .int mn, .int (3 : Int32), .ref h5, .int mO, .ref h6, .int mL, .int mA, .int mW, .int mE, .int mF, .ref h7, .int mM])), (h1, .inl (dA 0, 158, .inl ms)), (h2, .inl (dA 0, 158, .inl mb)), (h3, .inl (dA 0, 158, .inl mv)), (h4, .inl (dA 0, 1264, .inl mp)), (h5, .inl (dA 1, 180, .inl mo)), (h6, .inl (dA 1, 60, .inl mI)), (h7, .inl (dA 0, 240, .inl mc))]) (ty := .int) hx hb ha in_X12 tyX12 tyX12_ok nmX12 hown hK hP hD hS 0 rfl rfl 6 (by decide) m_1655 rfl (tyX12_ok 6 (by decide)) rfl rfl (Nat.le_of_ble_eq_true rfl) rfl dX12_firstFree_78 (fun H locs hP hD hS => ?_)
        refine lv_aload_n hx hb dX12_firstFree_81 rfl (lv_at hl 1 rfl) ?_
        refine gt_f (C := RX12) (T := TX12) (N := 17) hx hb ha in_X12 hown hK hP 0 rfl rfl 6 (by decide) m_1655 rfl dX12_firstFree_82 ?_
        refine lv_if_le (tgt := 92) hx hb dX12_firstFree_85 (by decide) (fun hc => absurd hc (by decide)) (fun hc => ?_)
        refine lv_iconst (v := 0) hx hb dX12_firstFree_88 (by decide) ?_
        refine lv_goto (tgt := 93) hx hb dX12_firstFree_89 (by decide) ?_
        cases hf
        exact rt_Mi hx hb hr hlocks (hP.sub [0, 1, 2, 3, 4, 5, 6, 7] rfl) (hD.sub [0, 1, 2, 3, 4, 5, 6, 7] (by decide) rfl) hS dX12_firstFree_93
      · have hf := sf_bn hf hc
        refine lv_iconst (v := 0) hx hb dX12_firstFree_73 (by decide) ?_
        refine lv_goto (tgt := 78) hx hb dX12_firstFree_74 (by decide) ?_
        refine pt_f (C := RX12) (T := TX12) (N := 17) (ws' := [(h0, .inr (10, [.ref h1, .ref h2, .ref h3, .int mi, .ref h4, .int mn, .int (0 : Int32), .ref h5, .int mO, .ref h6, .int mL, .int mA, .int mW, .int mE, .int mF, .ref h7, .int mM])), (h1, .inl (dA 0, 158, .inl ms)), (h2, .inl (dA 0, 158, .inl mb)), (h3, .inl (dA 0, 158, .inl mv)), (h4, .inl (dA 0, 1264, .inl mp)), (h5, .inl (dA 1, 180, .inl mo)), (h6, .inl (dA 1, 60, .inl mI)), (h7, .inl (dA 0, 240, .inl mc))]) (ty := .int) hx hb ha in_X12 tyX12 tyX12_ok nmX12 hown hK hP hD hS 0 rfl rfl 6 (by decide) m_1655 rfl (tyX12_ok 6 (by decide)) rfl rfl (Nat.le_of_ble_eq_true rfl) rfl dX12_firstFree_78 (fun H locs hP hD hS => ?_)
        refine lv_aload_n hx hb dX12_firstFree_81 rfl (lv_at hl 1 rfl) ?_
        refine gt_f (C := RX12) (T := TX12) (N := 17) hx hb ha in_X12 hown hK hP 0 rfl rfl 6 (by decide) m_1655 rfl dX12_firstFree_82 ?_
        refine lv_if_le (tgt := 92) hx hb dX12_firstFree_85 (by decide) (fun hc => ?_) (fun hc => absurd (by decide) hc)
        refine lv_iload_n hx hb dX12_firstFree_92 rfl (lv_at hl 0 rfl) ?_
        cases hf
        exact rt_Mi hx hb hr hlocks (hP.sub [0, 1, 2, 3, 4, 5, 6, 7] rfl) (hD.sub [0, 1, 2, 3, 4, 5, 6, 7] (by decide) rfl) hS dX12_firstFree_93
    · have hf := sf_bp hf hc
      refine lv_iconst (v := 2) hx hb dX12_firstFree_21 (by decide) ?_
      refine lv_goto (tgt := 26) hx hb dX12_firstFree_22 (by decide) ?_
      refine pt_f (C := RX12) (T := TX12) (N := 17) (ws' := [(h0, .inr (10, [.ref h1, .ref h2, .ref h3, .int mi, .ref h4, .int mn, .int (2 : Int32), .ref h5, .int mO, .ref h6, .int mL, .int mA, .int mW, .int mE, .int mF, .ref h7, .int mM])), (h1, .inl (dA 0, 158, .inl ms)), (h2, .inl (dA 0, 158, .inl mb)), (h3, .inl (dA 0, 158, .inl mv)), (h4, .inl (dA 0, 1264, .inl mp)), (h5, .inl (dA 1, 180, .inl mo)), (h6, .inl (dA 1, 60, .inl mI)), (h7, .inl (dA 0, 240, .inl mc))]) (ty := .int) hx hb ha in_X12 tyX12 tyX12_ok nmX12 hown hK hP hD hS 0 rfl rfl 6 (by decide) m_1655 rfl (tyX12_ok 6 (by decide)) rfl rfl (Nat.le_of_ble_eq_true rfl) rfl dX12_firstFree_26 (fun H locs hP hD hS => ?_)
      refine lv_aload_n hx hb dX12_firstFree_29 rfl (lv_at hl 0 rfl) ?_
      refine gt_f (C := RX12) (T := TX12) (N := 17) hx hb ha in_X12 hown hK hP 0 rfl rfl 6 (by decide) m_1655 rfl dX12_firstFree_30 ?_
      refine lv_if_le (tgt := 38) hx hb dX12_firstFree_33 (by decide) (fun hc => absurd hc (by decide)) (fun hc => ?_)
      refine lv_iconst (v := 0) hx hb dX12_firstFree_36 (by decide) ?_
      cases hf
      exact rt_Mi hx hb hr hlocks (hP.sub [0, 1, 2, 3, 4, 5, 6, 7] rfl) (hD.sub [0, 1, 2, 3, 4, 5, 6, 7] (by decide) rfl) hS dX12_firstFree_37
  · have hf := sf_bp hf hc
    refine lv_iconst (v := 1) hx hb dX12_firstFree_9 (by decide) ?_
    refine lv_goto (tgt := 26) hx hb dX12_firstFree_10 (by decide) ?_
    refine pt_f (C := RX12) (T := TX12) (N := 17) (ws' := [(h0, .inr (10, [.ref h1, .ref h2, .ref h3, .int mi, .ref h4, .int mn, .int (1 : Int32), .ref h5, .int mO, .ref h6, .int mL, .int mA, .int mW, .int mE, .int mF, .ref h7, .int mM])), (h1, .inl (dA 0, 158, .inl ms)), (h2, .inl (dA 0, 158, .inl mb)), (h3, .inl (dA 0, 158, .inl mv)), (h4, .inl (dA 0, 1264, .inl mp)), (h5, .inl (dA 1, 180, .inl mo)), (h6, .inl (dA 1, 60, .inl mI)), (h7, .inl (dA 0, 240, .inl mc))]) (ty := .int) hx hb ha in_X12 tyX12 tyX12_ok nmX12 hown hK hP hD hS 0 rfl rfl 6 (by decide) m_1655 rfl (tyX12_ok 6 (by decide)) rfl rfl (Nat.le_of_ble_eq_true rfl) rfl dX12_firstFree_26 (fun H locs hP hD hS => ?_)
    refine lv_aload_n hx hb dX12_firstFree_29 rfl (lv_at hl 0 rfl) ?_
    refine gt_f (C := RX12) (T := TX12) (N := 17) hx hb ha in_X12 hown hK hP 0 rfl rfl 6 (by decide) m_1655 rfl dX12_firstFree_30 ?_
    refine lv_if_le (tgt := 38) hx hb dX12_firstFree_33 (by decide) (fun hc => absurd hc (by decide)) (fun hc => ?_)
    refine lv_iconst (v := 0) hx hb dX12_firstFree_36 (by decide) ?_
    cases hf
    exact rt_Mi hx hb hr hlocks (hP.sub [0, 1, 2, 3, 4, 5, 6, 7] rfl) (hD.sub [0, 1, 2, 3, 4, 5, 6, 7] (by decide) rfl) hS dX12_firstFree_37

def f_X12_firstFreeByGaps (ms : Nat → Int32) (mt : Int32) (p0 : Int32) (p1 : Int32) : Option (Int32 × Int32) :=
  sf_c2 (f_X12_firstFree ms mt p0 p1) (fun r_1 x_2 => some (r_1, x_2))
theorem yd_X12_firstFreeByGaps : yX12_firstFreeByGaps.cls = RX12 ∧ yX12_firstFreeByGaps.cls ≠ "java/lang/invoke/MethodHandle" ∧ yX12_firstFreeByGaps.cls ≠ "java/lang/invoke/VarHandle" ∧ (parseMethodDescriptor yX12_firstFreeByGaps.desc).map (fun d => d.parameters.length) = some 2 := ⟨rfl, by decide, by decide, by decide +kernel⟩
set_option maxRecDepth 100000 in
set_option maxHeartbeats 4000000 in
theorem c_X12_firstFreeByGaps (l : Launch) (D : va_G) (dA : Nat → ClassId) (h0 h1 h2 h3 h4 h5 h6 h7 : Nat) (sz : Nat) (ms : Nat → Int32) (mb : Nat → Int32) (mv : Nat → Int32) (mi : Int32) (mp : Nat → Int32) (mn : Int32) (mt : Int32) (mo : Nat → Int32) (mO : Int32) (mI : Nat → Int32) (mL : Int32) (mA : Int32) (mW : Int32) (mE : Int32) (mF : Int32) (mc : Nat → Int32) (mM : Int32) (p0 : Int32) (p1 : Int32) (rr : Int32) (q_mt : Int32) (hf : f_X12_firstFreeByGaps ms mt p0 p1 = some (rr, q_mt)) : Met l yX12_firstFreeByGaps (wo (.code yX12_firstFreeByGaps cX12_firstFreeByGaps 3 (some .int))) ({ frames := 5, cells := 0, slots := 0, locals := 114 } : Room) (preM D dA [.ref h0, .int p0, .int p1] sz [(h0, .inr (10, [.ref h1, .ref h2, .ref h3, .int mi, .ref h4, .int mn, .int mt, .ref h5, .int mO, .ref h6, .int mL, .int mA, .int mW, .int mE, .int mF, .ref h7, .int mM])), (h1, .inl (dA 0, 158, .inl ms)), (h2, .inl (dA 0, 158, .inl mb)), (h3, .inl (dA 0, 158, .inl mv)), (h4, .inl (dA 0, 1264, .inl mp)), (h5, .inl (dA 1, 180, .inl mo)), (h6, .inl (dA 1, 60, .inl mI)), (h7, .inl (dA 0, 240, .inl mc))]) (poMi D rr [(h0, .inr (10, [.ref h1, .ref h2, .ref h3, .int mi, .ref h4, .int mn, .int q_mt, .ref h5, .int mO, .ref h6, .int mL, .int mA, .int mW, .int mE, .int mF, .ref h7, .int mM])), (h1, .inl (dA 0, 158, .inl ms)), (h2, .inl (dA 0, 158, .inl mb)), (h3, .inl (dA 0, 158, .inl mv)), (h4, .inl (dA 0, 1264, .inl mp)), (h5, .inl (dA 1, 180, .inl mo)), (h6, .inl (dA 1, 60, .inl mI)), (h7, .inl (dA 0, 240, .inl mc))] (va_A [(h0, .inr (10, [.ref h1, .ref h2, .ref h3, .int mi, .ref h4, .int mn, .int mt, .ref h5, .int mO, .ref h6, .int mL, .int mA, .int mW, .int mE, .int mF, .ref h7, .int mM])), (h1, .inl (dA 0, 158, .inl ms)), (h2, .inl (dA 0, 158, .inl mb)), (h3, .inl (dA 0, 158, .inl mv)), (h4, .inl (dA 0, 1264, .inl mp)), (h5, .inl (dA 1, 180, .inl mo)), (h6, .inl (dA 1, 60, .inl mI)), (h7, .inl (dA 0, 240, .inl mc))] sz)) 0 0 (va_A [(h0, .inr (10, [.ref h1, .ref h2, .ref h3, .int mi, .ref h4, .int mn, .int mt, .ref h5, .int mO, .ref h6, .int mL, .int mA, .int mW, .int mE, .int mF, .ref h7, .int mM])), (h1, .inl (dA 0, 158, .inl ms)), (h2, .inl (dA 0, 158, .inl mb)), (h3, .inl (dA 0, 158, .inl mv)), (h4, .inl (dA 0, 1264, .inl mp)), (h5, .inl (dA 1, 180, .inl mo)), (h6, .inl (dA 1, 60, .inl mI)), (h7, .inl (dA 0, 240, .inl mc))] sz) := by
  refine of_M (y := yX12_firstFreeByGaps) (av := [.ref h0, .int p0, .int p1]) (ws := [(h0, .inr (10, [.ref h1, .ref h2, .ref h3, .int mi, .ref h4, .int mn, .int mt, .ref h5, .int mO, .ref h6, .int mL, .int mA, .int mW, .int mE, .int mF, .ref h7, .int mM])), (h1, .inl (dA 0, 158, .inl ms)), (h2, .inl (dA 0, 158, .inl mb)), (h3, .inl (dA 0, 158, .inl mv)), (h4, .inl (dA 0, 1264, .inl mp)), (h5, .inl (dA 1, 180, .inl mo)), (h6, .inl (dA 1, 60, .inl mI)), (h7, .inl (dA 0, 240, .inl mc))]) (sz := sz) (own := RX12) (Qc := poMi D rr [(h0, .inr (10, [.ref h1, .ref h2, .ref h3, .int mi, .ref h4, .int mn, .int q_mt, .ref h5, .int mO, .ref h6, .int mL, .int mA, .int mW, .int mE, .int mF, .ref h7, .int mM])), (h1, .inl (dA 0, 158, .inl ms)), (h2, .inl (dA 0, 158, .inl mb)), (h3, .inl (dA 0, 158, .inl mv)), (h4, .inl (dA 0, 1264, .inl mp)), (h5, .inl (dA 1, 180, .inl mo)), (h6, .inl (dA 1, 60, .inl mI)), (h7, .inl (dA 0, 240, .inl mc))]) (by decide) rfl (Nat.le_of_ble_eq_true rfl) ?_
  intro p e s m below meth c A hx hb hr ha hown hml hlocks hin hP hK hD hS hA ls hl
  have hl : lv_has ls 3 [(0, .ref h0), (1, .int p0), (2, .int p1)] := hl
  rw [f_X12_firstFreeByGaps] at hf
  refine lv_aload_n hx hb dX12_firstFreeByGaps_0 rfl (lv_at hl 0 rfl) ?_
  refine lv_iload_n hx hb dX12_firstFreeByGaps_1 rfl (lv_at hl 1 rfl) ?_
  refine lv_iload_n hx hb dX12_firstFreeByGaps_2 rfl (lv_at hl 2 rfl) ?_
  obtain ⟨r_1, x_2, hc2, hf⟩ := sf_c2e hf
  refine k_Mi (wr := []) (run_MV (As := [.int p0, .int p1]) (rest := []) ⟨hx, hb, hml, hown, ha⟩ (c_X12_firstFree l D dA h0 h1 h2 h3 h4 h5 h6 h7 _ ms mb mv mi mp mn mt mo mO mI mL mA mW mE mF mc mM p0 p1 _ _ hc2) (gi_V m_1943 m_1936 m_1937 m_85 m_1938) yd_X12_firstFree ⟨Nat.le_of_ble_eq_true rfl, Nat.le_of_ble_eq_true rfl⟩ ⟨rfl, rfl⟩ hK hP hD [0, 1, 2, 3, 4, 5, 6, 7] (by decide) rfl 0 10 rfl rfl rfl rfl hl.1 rfl (Nat.le_of_ble_eq_true rfl) dX12_firstFreeByGaps_3 ⟨Nat.le_of_ble_eq_true rfl, Nat.le_of_ble_eq_true rfl⟩) hP hD hS hA [0, 1, 2, 3, 4, 5, 6, 7] [] rfl rfl (by decide) (by decide) (fun H locs hP hD hS => ?_)
  cases hf
  exact rt_Mi hx hb hr hlocks (hP.sub [0, 1, 2, 3, 4, 5, 6, 7] rfl) (hD.sub [0, 1, 2, 3, 4, 5, 6, 7] (by decide) rfl) hS dX12_firstFreeByGaps_6

def f_X12_mostWatched_L22 (ms : Nat → Int32) (v_2 : Int32) (k : Int32 → Option (Int32 × Int32)) : Nat → Int32 → Int32 → Option (Int32 × Int32)
  | 0, _, _ => none
  | n + 1, v_4, v_5 => sf_g (sf_in (2 : Int32) 158 = true) (sf_b ((ms (2 : Int32).toNatClampNeg) ≤ v_4) (k v_5) (sf_c1 (f_X12_startOf ms v_4) (fun r_6 => sf_b (r_6 < v_2) (sf_n (v_4 + (1 : Int32)) (fun x_7 => f_X12_mostWatched_L22 ms v_2 k n x_7 v_5)) (sf_c1 (f_X12_endOf ms v_4) (fun r_8 => sf_n ((if r_8 < v_5 then r_8 else v_5)) (fun x_9 => sf_n (v_4 + (1 : Int32)) (fun x_10 => f_X12_mostWatched_L22 ms v_2 k n x_10 x_9)))))))
def f_X12_mostWatched_L11 (ms : Nat → Int32) (k : Int32 → Option (Int32 × Int32)) : Nat → Int32 → Int32 → Int32 → Option (Int32 × Int32)
  | 0, _, _, _ => none
  | n + 1, v_1, v_2, v_3 => sf_b (v_1 = (0 : Int32)) (k v_3) (f_X12_mostWatched_L22 ms v_2 (fun y_11 => sf_b ((2147483647 : Int32) ≤ y_11) (sf_n ((v_3 + (0 : Int32))) (fun x_12 => f_X12_mostWatched_L11 ms k n (0 : Int32) y_11 x_12)) (sf_n ((v_3 + (1 : Int32))) (fun x_13 => f_X12_mostWatched_L11 ms k n (1 : Int32) y_11 x_13))) 2000 (0 : Int32) (2147483647 : Int32))
def f_X12_mostWatched (ms : Nat → Int32) (mt : Int32) : Option (Int32 × Int32) :=
  f_X12_mostWatched_L11 ms (fun y_14 => some (y_14, (0 : Int32))) 2000 (1 : Int32) (-1 : Int32) (0 : Int32)
theorem yd_X12_mostWatched : yX12_mostWatched.cls = RX12 ∧ yX12_mostWatched.cls ≠ "java/lang/invoke/MethodHandle" ∧ yX12_mostWatched.cls ≠ "java/lang/invoke/VarHandle" ∧ (parseMethodDescriptor yX12_mostWatched.desc).map (fun d => d.parameters.length) = some 0 := ⟨rfl, by decide, by decide, by decide +kernel⟩
set_option maxRecDepth 100000 in
set_option maxHeartbeats 4000000 in
theorem c_X12_mostWatched (l : Launch) (D : va_G) (dA : Nat → ClassId) (h0 h1 h2 h3 h4 h5 h6 h7 : Nat) (sz : Nat) (ms : Nat → Int32) (mb : Nat → Int32) (mv : Nat → Int32) (mi : Int32) (mp : Nat → Int32) (mn : Int32) (mt : Int32) (mo : Nat → Int32) (mO : Int32) (mI : Nat → Int32) (mL : Int32) (mA : Int32) (mW : Int32) (mE : Int32) (mF : Int32) (mc : Nat → Int32) (mM : Int32) (rr : Int32) (q_mt : Int32) (hf : f_X12_mostWatched ms mt = some (rr, q_mt)) : Met l yX12_mostWatched (wo (.code yX12_mostWatched cX12_mostWatched 6 (some .int))) ({ frames := 3, cells := 0, slots := 0, locals := 80 } : Room) (preM D dA [.ref h0] sz [(h0, .inr (10, [.ref h1, .ref h2, .ref h3, .int mi, .ref h4, .int mn, .int mt, .ref h5, .int mO, .ref h6, .int mL, .int mA, .int mW, .int mE, .int mF, .ref h7, .int mM])), (h1, .inl (dA 0, 158, .inl ms)), (h2, .inl (dA 0, 158, .inl mb)), (h3, .inl (dA 0, 158, .inl mv)), (h4, .inl (dA 0, 1264, .inl mp)), (h5, .inl (dA 1, 180, .inl mo)), (h6, .inl (dA 1, 60, .inl mI)), (h7, .inl (dA 0, 240, .inl mc))]) (poMi D rr [(h0, .inr (10, [.ref h1, .ref h2, .ref h3, .int mi, .ref h4, .int mn, .int q_mt, .ref h5, .int mO, .ref h6, .int mL, .int mA, .int mW, .int mE, .int mF, .ref h7, .int mM])), (h1, .inl (dA 0, 158, .inl ms)), (h2, .inl (dA 0, 158, .inl mb)), (h3, .inl (dA 0, 158, .inl mv)), (h4, .inl (dA 0, 1264, .inl mp)), (h5, .inl (dA 1, 180, .inl mo)), (h6, .inl (dA 1, 60, .inl mI)), (h7, .inl (dA 0, 240, .inl mc))] (va_A [(h0, .inr (10, [.ref h1, .ref h2, .ref h3, .int mi, .ref h4, .int mn, .int mt, .ref h5, .int mO, .ref h6, .int mL, .int mA, .int mW, .int mE, .int mF, .ref h7, .int mM])), (h1, .inl (dA 0, 158, .inl ms)), (h2, .inl (dA 0, 158, .inl mb)), (h3, .inl (dA 0, 158, .inl mv)), (h4, .inl (dA 0, 1264, .inl mp)), (h5, .inl (dA 1, 180, .inl mo)), (h6, .inl (dA 1, 60, .inl mI)), (h7, .inl (dA 0, 240, .inl mc))] sz)) 0 0 (va_A [(h0, .inr (10, [.ref h1, .ref h2, .ref h3, .int mi, .ref h4, .int mn, .int mt, .ref h5, .int mO, .ref h6, .int mL, .int mA, .int mW, .int mE, .int mF, .ref h7, .int mM])), (h1, .inl (dA 0, 158, .inl ms)), (h2, .inl (dA 0, 158, .inl mb)), (h3, .inl (dA 0, 158, .inl mv)), (h4, .inl (dA 0, 1264, .inl mp)), (h5, .inl (dA 1, 180, .inl mo)), (h6, .inl (dA 1, 60, .inl mI)), (h7, .inl (dA 0, 240, .inl mc))] sz) := by
  refine of_M (y := yX12_mostWatched) (av := [.ref h0]) (ws := [(h0, .inr (10, [.ref h1, .ref h2, .ref h3, .int mi, .ref h4, .int mn, .int mt, .ref h5, .int mO, .ref h6, .int mL, .int mA, .int mW, .int mE, .int mF, .ref h7, .int mM])), (h1, .inl (dA 0, 158, .inl ms)), (h2, .inl (dA 0, 158, .inl mb)), (h3, .inl (dA 0, 158, .inl mv)), (h4, .inl (dA 0, 1264, .inl mp)), (h5, .inl (dA 1, 180, .inl mo)), (h6, .inl (dA 1, 60, .inl mI)), (h7, .inl (dA 0, 240, .inl mc))]) (sz := sz) (own := RX12) (Qc := poMi D rr [(h0, .inr (10, [.ref h1, .ref h2, .ref h3, .int mi, .ref h4, .int mn, .int q_mt, .ref h5, .int mO, .ref h6, .int mL, .int mA, .int mW, .int mE, .int mF, .ref h7, .int mM])), (h1, .inl (dA 0, 158, .inl ms)), (h2, .inl (dA 0, 158, .inl mb)), (h3, .inl (dA 0, 158, .inl mv)), (h4, .inl (dA 0, 1264, .inl mp)), (h5, .inl (dA 1, 180, .inl mo)), (h6, .inl (dA 1, 60, .inl mI)), (h7, .inl (dA 0, 240, .inl mc))]) (by decide) rfl (Nat.le_of_ble_eq_true rfl) ?_
  intro p e s m below meth c A hx hb hr ha hown hml hlocks hin hP hK hD hS hA ls hl
  have hl : lv_has ls 6 [(0, .ref h0)] := hl
  rw [f_X12_mostWatched] at hf
  refine lv_aload_n hx hb dX12_mostWatched_0 rfl (lv_at hl 0 rfl) ?_
  refine lv_iconst (v := 0) hx hb dX12_mostWatched_1 (by decide) ?_
  refine pt_f (C := RX12) (T := TX12) (N := 17) (ws' := [(h0, .inr (10, [.ref h1, .ref h2, .ref h3, .int mi, .ref h4, .int mn, .int (0 : Int32), .ref h5, .int mO, .ref h6, .int mL, .int mA, .int mW, .int mE, .int mF, .ref h7, .int mM])), (h1, .inl (dA 0, 158, .inl ms)), (h2, .inl (dA 0, 158, .inl mb)), (h3, .inl (dA 0, 158, .inl mv)), (h4, .inl (dA 0, 1264, .inl mp)), (h5, .inl (dA 1, 180, .inl mo)), (h6, .inl (dA 1, 60, .inl mI)), (h7, .inl (dA 0, 240, .inl mc))]) (ty := .int) hx hb ha in_X12 tyX12 tyX12_ok nmX12 hown hK hP hD hS 0 rfl rfl 6 (by decide) m_1655 rfl (tyX12_ok 6 (by decide)) rfl rfl (Nat.le_of_ble_eq_true rfl) rfl dX12_mostWatched_2 (fun H locs hP hD hS => ?_)
  refine lv_iconst (v := 0) hx hb dX12_mostWatched_5 (by decide) ?_
  refine lv_istore_n (lv' := [(1, .int (0 : Int32)), (0, .ref h0)]) hx hb dX12_mostWatched_6 rfl hl (by decide) rfl (fun ls hl => ?_)
  refine lv_iconst (v := -1) hx hb dX12_mostWatched_7 (by decide) ?_
  refine lv_istore_n (lv' := [(2, .int (-1 : Int32)), (1, .int (0 : Int32)), (0, .ref h0)]) hx hb dX12_mostWatched_8 rfl hl (by decide) rfl (fun ls hl => ?_)
  refine lv_iconst (v := 1) hx hb dX12_mostWatched_9 (by decide) ?_
  refine lv_istore_n (lv' := [(3, .int (1 : Int32)), (2, .int (-1 : Int32)), (1, .int (0 : Int32)), (0, .ref h0)]) hx hb dX12_mostWatched_10 rfl hl (by decide) rfl (fun ls hl => ?_)
  have hL11 : ∀ (n : Nat) (k : Int32 → Option (Int32 × Int32)) (v_1 : Int32) (v_2 : Int32) (v_3 : Int32) (H : Heap) (locs : List Loc) (ls : Array Slot), va_P D cls [(h0, .inr (10, [.ref h1, .ref h2, .ref h3, .int mi, .ref h4, .int mn, .int (0 : Int32), .ref h5, .int mO, .ref h6, .int mL, .int mA, .int mW, .int mE, .int mF, .ref h7, .int mM])), (h1, .inl (dA 0, 158, .inl ms)), (h2, .inl (dA 0, 158, .inl mb)), (h3, .inl (dA 0, 158, .inl mv)), (h4, .inl (dA 0, 1264, .inl mp)), (h5, .inl (dA 1, 180, .inl mo)), (h6, .inl (dA 1, 60, .inl mI)), (h7, .inl (dA 0, 240, .inl mc))] H → va_D A [(h0, .inr (10, [.ref h1, .ref h2, .ref h3, .int mi, .ref h4, .int mn, .int (0 : Int32), .ref h5, .int mO, .ref h6, .int mL, .int mA, .int mW, .int mE, .int mF, .ref h7, .int mM])), (h1, .inl (dA 0, 158, .inl ms)), (h2, .inl (dA 0, 158, .inl mb)), (h3, .inl (dA 0, 158, .inl mv)), (h4, .inl (dA 0, 1264, .inl mp)), (h5, .inl (dA 1, 180, .inl mo)), (h6, .inl (dA 1, 60, .inl mI)), (h7, .inl (dA 0, 240, .inl mc))] → va_S A s.heap H locs → lv_has ls 6 [(3, .int v_1), (2, .int v_2), (1, .int v_3), (0, .ref h0)] → f_X12_mostWatched_L11 ms k n v_1 v_2 v_3 = some (rr, q_mt) → (∀ (y_14 : Int32) (H : Heap) (locs : List Loc) (ls : Array Slot), va_P D cls [(h0, .inr (10, [.ref h1, .ref h2, .ref h3, .int mi, .ref h4, .int mn, .int (0 : Int32), .ref h5, .int mO, .ref h6, .int mL, .int mA, .int mW, .int mE, .int mF, .ref h7, .int mM])), (h1, .inl (dA 0, 158, .inl ms)), (h2, .inl (dA 0, 158, .inl mb)), (h3, .inl (dA 0, 158, .inl mv)), (h4, .inl (dA 0, 1264, .inl mp)), (h5, .inl (dA 1, 180, .inl mo)), (h6, .inl (dA 1, 60, .inl mI)), (h7, .inl (dA 0, 240, .inl mc))] H → va_D A [(h0, .inr (10, [.ref h1, .ref h2, .ref h3, .int mi, .ref h4, .int mn, .int (0 : Int32), .ref h5, .int mO, .ref h6, .int mL, .int mA, .int mW, .int mE, .int mF, .ref h7, .int mM])), (h1, .inl (dA 0, 158, .inl ms)), (h2, .inl (dA 0, 158, .inl mb)), (h3, .inl (dA 0, 158, .inl mv)), (h4, .inl (dA 0, 1264, .inl mp)), (h5, .inl (dA 1, 180, .inl mo)), (h6, .inl (dA 1, 60, .inl mI)), (h7, .inl (dA 0, 240, .inl mc))] → va_S A s.heap H locs → lv_has ls 6 [(1, .int y_14)] → k y_14 = some (rr, q_mt) → W p l e ({ frames := 3, cells := 0, slots := 0, locals := 80 } : Room) s m ([.ref h0] : List Value).toArray below meth c H locs 0 0 (MQ below (poMi D rr [(h0, .inr (10, [.ref h1, .ref h2, .ref h3, .int mi, .ref h4, .int mn, .int q_mt, .ref h5, .int mO, .ref h6, .int mL, .int mA, .int mW, .int mE, .int mF, .ref h7, .int mM])), (h1, .inl (dA 0, 158, .inl ms)), (h2, .inl (dA 0, 158, .inl mb)), (h3, .inl (dA 0, 158, .inl mv)), (h4, .inl (dA 0, 1264, .inl mp)), (h5, .inl (dA 1, 180, .inl mo)), (h6, .inl (dA 1, 60, .inl mI)), (h7, .inl (dA 0, 240, .inl mc))] A) ([.ref h0] : List Value).toArray s 0 0 A) (F0 m 98 ls [])) → W p l e ({ frames := 3, cells := 0, slots := 0, locals := 80 } : Room) s m ([.ref h0] : List Value).toArray below meth c H locs 0 0 (MQ below (poMi D rr [(h0, .inr (10, [.ref h1, .ref h2, .ref h3, .int mi, .ref h4, .int mn, .int q_mt, .ref h5, .int mO, .ref h6, .int mL, .int mA, .int mW, .int mE, .int mF, .ref h7, .int mM])), (h1, .inl (dA 0, 158, .inl ms)), (h2, .inl (dA 0, 158, .inl mb)), (h3, .inl (dA 0, 158, .inl mv)), (h4, .inl (dA 0, 1264, .inl mp)), (h5, .inl (dA 1, 180, .inl mo)), (h6, .inl (dA 1, 60, .inl mI)), (h7, .inl (dA 0, 240, .inl mc))] A) ([.ref h0] : List Value).toArray s 0 0 A) (F0 m 11 ls []) := by
    intro n k
    induction n with
    | zero =>
      intro v_1 v_2 v_3 H locs ls hP hD hS hl hf hk
      rw [f_X12_mostWatched_L11] at hf
      cases hf
    | succ n ih =>
      intro v_1 v_2 v_3 H locs ls hP hD hS hl hf hk
      rw [f_X12_mostWatched_L11] at hf
      refine lv_iload_n hx hb dX12_mostWatched_11 rfl (lv_at hl 0 rfl) ?_
      refine lv_if_eq (tgt := 98) hx hb dX12_mostWatched_12 (by decide) (fun hc => ?_) (fun hc => ?_)
      · have hf := sf_bp hf hc
        exact hk _ _ _ _ (hP.sub [0, 1, 2, 3, 4, 5, 6, 7] rfl) (hD.sub [0, 1, 2, 3, 4, 5, 6, 7] (by decide) rfl) hS (lv_sub hl [2] rfl) hf
      · have hf := sf_bn hf hc
        refine lv_ldc (v := 2147483647) hx hb hown (ha _ m_1948) dX12_mostWatched_15 ?_
        refine lv_istore (lv' := [(4, .int (2147483647 : Int32)), (3, .int v_1), (2, .int v_2), (1, .int v_3), (0, .ref h0)]) hx hb dX12_mostWatched_17 hl (by decide) rfl (fun ls hl => ?_)
        refine lv_iconst (v := 0) hx hb dX12_mostWatched_19 (by decide) ?_
        refine lv_istore (lv' := [(5, .int (0 : Int32)), (4, .int (2147483647 : Int32)), (3, .int v_1), (2, .int v_2), (1, .int v_3), (0, .ref h0)]) hx hb dX12_mostWatched_20 hl (by decide) rfl (fun ls hl => ?_)
        have hL22 : ∀ (n : Nat) (k : Int32 → Option (Int32 × Int32)) (v_4 : Int32) (v_5 : Int32) (H : Heap) (locs : List Loc) (ls : Array Slot), va_P D cls [(h0, .inr (10, [.ref h1, .ref h2, .ref h3, .int mi, .ref h4, .int mn, .int (0 : Int32), .ref h5, .int mO, .ref h6, .int mL, .int mA, .int mW, .int mE, .int mF, .ref h7, .int mM])), (h1, .inl (dA 0, 158, .inl ms)), (h2, .inl (dA 0, 158, .inl mb)), (h3, .inl (dA 0, 158, .inl mv)), (h4, .inl (dA 0, 1264, .inl mp)), (h5, .inl (dA 1, 180, .inl mo)), (h6, .inl (dA 1, 60, .inl mI)), (h7, .inl (dA 0, 240, .inl mc))] H → va_D A [(h0, .inr (10, [.ref h1, .ref h2, .ref h3, .int mi, .ref h4, .int mn, .int (0 : Int32), .ref h5, .int mO, .ref h6, .int mL, .int mA, .int mW, .int mE, .int mF, .ref h7, .int mM])), (h1, .inl (dA 0, 158, .inl ms)), (h2, .inl (dA 0, 158, .inl mb)), (h3, .inl (dA 0, 158, .inl mv)), (h4, .inl (dA 0, 1264, .inl mp)), (h5, .inl (dA 1, 180, .inl mo)), (h6, .inl (dA 1, 60, .inl mI)), (h7, .inl (dA 0, 240, .inl mc))] → va_S A s.heap H locs → lv_has ls 6 [(5, .int v_4), (4, .int v_5), (2, .int v_2), (1, .int v_3), (0, .ref h0)] → f_X12_mostWatched_L22 ms v_2 k n v_4 v_5 = some (rr, q_mt) → (∀ (y_11 : Int32) (H : Heap) (locs : List Loc) (ls : Array Slot), va_P D cls [(h0, .inr (10, [.ref h1, .ref h2, .ref h3, .int mi, .ref h4, .int mn, .int (0 : Int32), .ref h5, .int mO, .ref h6, .int mL, .int mA, .int mW, .int mE, .int mF, .ref h7, .int mM])), (h1, .inl (dA 0, 158, .inl ms)), (h2, .inl (dA 0, 158, .inl mb)), (h3, .inl (dA 0, 158, .inl mv)), (h4, .inl (dA 0, 1264, .inl mp)), (h5, .inl (dA 1, 180, .inl mo)), (h6, .inl (dA 1, 60, .inl mI)), (h7, .inl (dA 0, 240, .inl mc))] H → va_D A [(h0, .inr (10, [.ref h1, .ref h2, .ref h3, .int mi, .ref h4, .int mn, .int (0 : Int32), .ref h5, .int mO, .ref h6, .int mL, .int mA, .int mW, .int mE, .int mF, .ref h7, .int mM])), (h1, .inl (dA 0, 158, .inl ms)), (h2, .inl (dA 0, 158, .inl mb)), (h3, .inl (dA 0, 158, .inl mv)), (h4, .inl (dA 0, 1264, .inl mp)), (h5, .inl (dA 1, 180, .inl mo)), (h6, .inl (dA 1, 60, .inl mI)), (h7, .inl (dA 0, 240, .inl mc))] → va_S A s.heap H locs → lv_has ls 6 [(4, .int y_11), (1, .int v_3), (0, .ref h0)] → k y_11 = some (rr, q_mt) → W p l e ({ frames := 3, cells := 0, slots := 0, locals := 80 } : Room) s m ([.ref h0] : List Value).toArray below meth c H locs 0 0 (MQ below (poMi D rr [(h0, .inr (10, [.ref h1, .ref h2, .ref h3, .int mi, .ref h4, .int mn, .int q_mt, .ref h5, .int mO, .ref h6, .int mL, .int mA, .int mW, .int mE, .int mF, .ref h7, .int mM])), (h1, .inl (dA 0, 158, .inl ms)), (h2, .inl (dA 0, 158, .inl mb)), (h3, .inl (dA 0, 158, .inl mv)), (h4, .inl (dA 0, 1264, .inl mp)), (h5, .inl (dA 1, 180, .inl mo)), (h6, .inl (dA 1, 60, .inl mI)), (h7, .inl (dA 0, 240, .inl mc))] A) ([.ref h0] : List Value).toArray s 0 0 A) (F0 m 67 ls [])) → W p l e ({ frames := 3, cells := 0, slots := 0, locals := 80 } : Room) s m ([.ref h0] : List Value).toArray below meth c H locs 0 0 (MQ below (poMi D rr [(h0, .inr (10, [.ref h1, .ref h2, .ref h3, .int mi, .ref h4, .int mn, .int q_mt, .ref h5, .int mO, .ref h6, .int mL, .int mA, .int mW, .int mE, .int mF, .ref h7, .int mM])), (h1, .inl (dA 0, 158, .inl ms)), (h2, .inl (dA 0, 158, .inl mb)), (h3, .inl (dA 0, 158, .inl mv)), (h4, .inl (dA 0, 1264, .inl mp)), (h5, .inl (dA 1, 180, .inl mo)), (h6, .inl (dA 1, 60, .inl mI)), (h7, .inl (dA 0, 240, .inl mc))] A) ([.ref h0] : List Value).toArray s 0 0 A) (F0 m 22 ls []) := by
          intro n k
          induction n with
          | zero =>
            intro v_4 v_5 H locs ls hP hD hS hl hf hk
            rw [f_X12_mostWatched_L22] at hf
            cases hf
          | succ n ih =>
            intro v_4 v_5 H locs ls hP hD hS hl hf hk
            rw [f_X12_mostWatched_L22] at hf
            refine lv_iload hx hb dX12_mostWatched_22 (lv_at hl 0 rfl) ?_
            refine lv_aload_n hx hb dX12_mostWatched_24 rfl (lv_at hl 4 rfl) ?_
            refine gt_f (C := RX12) (T := TX12) (N := 17) hx hb ha in_X12 hown hK hP 0 rfl rfl 0 (by decide) m_1649 rfl dX12_mostWatched_25 ?_
            refine lv_iconst (v := 2) hx hb dX12_mostWatched_28 (by decide) ?_
            obtain ⟨hi, hf⟩ := sf_ge hf
            refine ia_ld hx hb hK hP 1 rfl hi dX12_mostWatched_29 ?_
            refine lv_icmp_ge (tgt := 67) hx hb dX12_mostWatched_30 (by decide) (fun hc => ?_) (fun hc => ?_)
            · have hf := sf_bp hf hc
              exact hk _ _ _ _ (hP.sub [0, 1, 2, 3, 4, 5, 6, 7] rfl) (hD.sub [0, 1, 2, 3, 4, 5, 6, 7] (by decide) rfl) hS (lv_sub hl [1, 3, 4] rfl) hf
            · have hf := sf_bn hf hc
              refine lv_aload_n hx hb dX12_mostWatched_33 rfl (lv_at hl 4 rfl) ?_
              refine lv_iload hx hb dX12_mostWatched_34 (lv_at hl 0 rfl) ?_
              obtain ⟨r_6, hc6, hf⟩ := sf_c1e hf
              refine k_Pi (run_PV (As := [.int v_4]) (rest := []) ⟨hx, hb, hml, hown, ha⟩ (c_X12_startOf l D dA h0 h1 h2 h3 h4 h5 h6 h7  ms mb mv mi mp mn (0 : Int32) mo mO mI mL mA mW mE mF mc mM v_4 _ hc6) (gi_V m_1773 m_1775 m_43 m_85 m_1776) yd_X12_startOf ⟨Nat.le_of_ble_eq_true rfl, Nat.le_of_ble_eq_true rfl⟩ ⟨rfl, rfl⟩ hK hP [0, 1, 2, 3, 4, 5, 6, 7] rfl 0 10 rfl rfl rfl rfl hl.1 rfl (Nat.le_of_ble_eq_true rfl) dX12_mostWatched_36 ⟨Nat.le_of_ble_eq_true rfl, Nat.le_of_ble_eq_true rfl⟩) hP hS (fun H locs hP hS => ?_)
              refine lv_iload_n hx hb dX12_mostWatched_39 rfl (lv_at hl 2 rfl) ?_
              refine lv_icmp_lt (tgt := 57) hx hb dX12_mostWatched_40 (by decide) (fun hc => ?_) (fun hc => ?_)
              · have hf := sf_bp hf hc
                refine lv_iload hx hb dX12_mostWatched_57 (lv_at hl 1 rfl) ?_
                refine lv_istore (lv' := [(4, .int v_5), (5, .int v_4), (2, .int v_2), (1, .int v_3), (0, .ref h0)]) hx hb dX12_mostWatched_59 hl (by decide) rfl (fun ls hl => ?_)
                obtain ⟨x_7, ex_7, hf⟩ := sf_ne hf
                refine ii_nc (lv' := [(5, .int x_7), (4, .int v_5), (2, .int v_2), (1, .int v_3), (0, .ref h0)]) (k := 1) hx hb dX12_mostWatched_61 hl rfl ex_7 (by decide) (by decide) rfl (fun ls hl => ?_)
                refine lv_goto (tgt := 22) hx hb dX12_mostWatched_64 (by decide) ?_
                exact ih _ _ _ _ _ (hP.sub [0, 1, 2, 3, 4, 5, 6, 7] rfl) (hD.sub [0, 1, 2, 3, 4, 5, 6, 7] (by decide) rfl) hS (lv_sub hl [0, 1, 2, 3, 4] rfl) hf hk
              · have hf := sf_bn hf hc
                refine lv_iload hx hb dX12_mostWatched_43 (lv_at hl 1 rfl) ?_
                refine lv_aload_n hx hb dX12_mostWatched_45 rfl (lv_at hl 4 rfl) ?_
                refine lv_iload hx hb dX12_mostWatched_46 (lv_at hl 0 rfl) ?_
                obtain ⟨r_8, hc8, hf⟩ := sf_c1e hf
                refine k_Pi (run_PV (As := [.int v_4]) (rest := [.int v_5]) ⟨hx, hb, hml, hown, ha⟩ (c_X12_endOf l D dA h0 h1 h2 h3 h4 h5 h6 h7  ms mb mv mi mp mn (0 : Int32) mo mO mI mL mA mW mE mF mc mM v_4 _ hc8) (gi_V m_1777 m_1779 m_44 m_85 m_1780) yd_X12_endOf ⟨Nat.le_of_ble_eq_true rfl, Nat.le_of_ble_eq_true rfl⟩ ⟨rfl, rfl⟩ hK hP [0, 1, 2, 3, 4, 5, 6, 7] rfl 0 10 rfl rfl rfl rfl hl.1 rfl (Nat.le_of_ble_eq_true rfl) dX12_mostWatched_48 ⟨Nat.le_of_ble_eq_true rfl, Nat.le_of_ble_eq_true rfl⟩) hP hS (fun H locs hP hS => ?_)
                refine mn_i hx hb ha hown hml hl.1 m_1849 m_472 m_95 m_473 ⟨Nat.le_of_ble_eq_true rfl, Nat.le_of_ble_eq_true rfl⟩ ⟨Nat.le_of_ble_eq_true rfl, Nat.le_of_ble_eq_true rfl⟩ dX12_mostWatched_51 ?_
                refine lv_goto (tgt := 59) hx hb dX12_mostWatched_54 (by decide) ?_
                obtain ⟨x_9, ex_9, hf⟩ := sf_ne hf
                refine tp_i ex_9 ?_
                refine lv_istore (lv' := [(4, .int x_9), (5, .int v_4), (2, .int v_2), (1, .int v_3), (0, .ref h0)]) hx hb dX12_mostWatched_59 hl (by decide) rfl (fun ls hl => ?_)
                obtain ⟨x_10, ex_10, hf⟩ := sf_ne hf
                refine ii_nc (lv' := [(5, .int x_10), (4, .int x_9), (2, .int v_2), (1, .int v_3), (0, .ref h0)]) (k := 1) hx hb dX12_mostWatched_61 hl rfl ex_10 (by decide) (by decide) rfl (fun ls hl => ?_)
                refine lv_goto (tgt := 22) hx hb dX12_mostWatched_64 (by decide) ?_
                exact ih _ _ _ _ _ (hP.sub [0, 1, 2, 3, 4, 5, 6, 7] rfl) (hD.sub [0, 1, 2, 3, 4, 5, 6, 7] (by decide) rfl) hS (lv_sub hl [0, 1, 2, 3, 4] rfl) hf hk
        refine hL22 _ _ _ _ _ _ _ hP hD hS (lv_sub hl [0, 1, 3, 4, 5] rfl) hf (fun y_11 H locs ls hP hD hS hl hf => ?_)
        refine lv_iload hx hb dX12_mostWatched_67 (lv_at hl 0 rfl) ?_
        refine lv_ldc (v := 2147483647) hx hb hown (ha _ m_1948) dX12_mostWatched_69 ?_
        refine lv_icmp_ge (tgt := 78) hx hb dX12_mostWatched_71 (by decide) (fun hc => ?_) (fun hc => ?_)
        · have hf := sf_bp hf hc
          refine lv_iconst (v := 0) hx hb dX12_mostWatched_78 (by decide) ?_
          refine lv_istore_n (lv' := [(3, .int (0 : Int32)), (4, .int y_11), (1, .int v_3), (0, .ref h0)]) hx hb dX12_mostWatched_79 rfl hl (by decide) rfl (fun ls hl => ?_)
          refine lv_iload_n hx hb dX12_mostWatched_80 rfl (lv_at hl 2 rfl) ?_
          refine lv_iload_n hx hb dX12_mostWatched_81 rfl (lv_at hl 0 rfl) ?_
          refine lv_if_eq (tgt := 89) hx hb dX12_mostWatched_82 (by decide) (fun hc => ?_) (fun hc => absurd (by decide) hc)
          refine lv_iconst (v := 0) hx hb dX12_mostWatched_89 (by decide) ?_
          refine lv_iadd hx hb dX12_mostWatched_90 ?_
          obtain ⟨x_12, ex_12, hf⟩ := sf_ne hf
          refine tp_i ex_12 ?_
          refine lv_istore_n (lv' := [(1, .int x_12), (3, .int (0 : Int32)), (4, .int y_11), (0, .ref h0)]) hx hb dX12_mostWatched_91 rfl hl (by decide) rfl (fun ls hl => ?_)
          refine lv_iload hx hb dX12_mostWatched_92 (lv_at hl 2 rfl) ?_
          refine lv_istore_n (lv' := [(2, .int y_11), (1, .int x_12), (3, .int (0 : Int32)), (4, .int y_11), (0, .ref h0)]) hx hb dX12_mostWatched_94 rfl hl (by decide) rfl (fun ls hl => ?_)
          refine lv_goto (tgt := 11) hx hb dX12_mostWatched_95 (by decide) ?_
          exact ih _ _ _ _ _ _ (hP.sub [0, 1, 2, 3, 4, 5, 6, 7] rfl) (hD.sub [0, 1, 2, 3, 4, 5, 6, 7] (by decide) rfl) hS (lv_sub hl [2, 0, 1, 4] rfl) hf hk
        · have hf := sf_bn hf hc
          refine lv_iconst (v := 1) hx hb dX12_mostWatched_74 (by decide) ?_
          refine lv_goto (tgt := 79) hx hb dX12_mostWatched_75 (by decide) ?_
          refine lv_istore_n (lv' := [(3, .int (1 : Int32)), (4, .int y_11), (1, .int v_3), (0, .ref h0)]) hx hb dX12_mostWatched_79 rfl hl (by decide) rfl (fun ls hl => ?_)
          refine lv_iload_n hx hb dX12_mostWatched_80 rfl (lv_at hl 2 rfl) ?_
          refine lv_iload_n hx hb dX12_mostWatched_81 rfl (lv_at hl 0 rfl) ?_
          refine lv_if_eq (tgt := 89) hx hb dX12_mostWatched_82 (by decide) (fun hc => absurd hc (by decide)) (fun hc => ?_)
          refine lv_iconst (v := 1) hx hb dX12_mostWatched_85 (by decide) ?_
          refine lv_goto (tgt := 90) hx hb dX12_mostWatched_86 (by decide) ?_
          refine lv_iadd hx hb dX12_mostWatched_90 ?_
          obtain ⟨x_13, ex_13, hf⟩ := sf_ne hf
          refine tp_i ex_13 ?_
          refine lv_istore_n (lv' := [(1, .int x_13), (3, .int (1 : Int32)), (4, .int y_11), (0, .ref h0)]) hx hb dX12_mostWatched_91 rfl hl (by decide) rfl (fun ls hl => ?_)
          refine lv_iload hx hb dX12_mostWatched_92 (lv_at hl 2 rfl) ?_
          refine lv_istore_n (lv' := [(2, .int y_11), (1, .int x_13), (3, .int (1 : Int32)), (4, .int y_11), (0, .ref h0)]) hx hb dX12_mostWatched_94 rfl hl (by decide) rfl (fun ls hl => ?_)
          refine lv_goto (tgt := 11) hx hb dX12_mostWatched_95 (by decide) ?_
          exact ih _ _ _ _ _ _ (hP.sub [0, 1, 2, 3, 4, 5, 6, 7] rfl) (hD.sub [0, 1, 2, 3, 4, 5, 6, 7] (by decide) rfl) hS (lv_sub hl [2, 0, 1, 4] rfl) hf hk
  refine hL11 _ _ _ _ _ _ _ _ hP hD hS (lv_sub hl [0, 1, 2, 3] rfl) hf (fun y_14 H locs ls hP hD hS hl hf => ?_)
  refine lv_iload_n hx hb dX12_mostWatched_98 rfl (lv_at hl 0 rfl) ?_
  cases hf
  exact rt_Mi hx hb hr hlocks (hP.sub [0, 1, 2, 3, 4, 5, 6, 7] rfl) (hD.sub [0, 1, 2, 3, 4, 5, 6, 7] (by decide) rfl) hS dX12_mostWatched_99

def f_X12_mostWatchedByTable (ms : Nat → Int32) (mt : Int32) : Option (Int32 × Int32) :=
  sf_c2 (f_X12_mostWatched ms mt) (fun r_1 x_2 => some (r_1, x_2))
theorem yd_X12_mostWatchedByTable : yX12_mostWatchedByTable.cls = RX12 ∧ yX12_mostWatchedByTable.cls ≠ "java/lang/invoke/MethodHandle" ∧ yX12_mostWatchedByTable.cls ≠ "java/lang/invoke/VarHandle" ∧ (parseMethodDescriptor yX12_mostWatchedByTable.desc).map (fun d => d.parameters.length) = some 0 := ⟨rfl, by decide, by decide, by decide +kernel⟩
set_option maxRecDepth 100000 in
set_option maxHeartbeats 4000000 in
theorem c_X12_mostWatchedByTable (l : Launch) (D : va_G) (dA : Nat → ClassId) (h0 h1 h2 h3 h4 h5 h6 h7 : Nat) (sz : Nat) (ms : Nat → Int32) (mb : Nat → Int32) (mv : Nat → Int32) (mi : Int32) (mp : Nat → Int32) (mn : Int32) (mt : Int32) (mo : Nat → Int32) (mO : Int32) (mI : Nat → Int32) (mL : Int32) (mA : Int32) (mW : Int32) (mE : Int32) (mF : Int32) (mc : Nat → Int32) (mM : Int32) (rr : Int32) (q_mt : Int32) (hf : f_X12_mostWatchedByTable ms mt = some (rr, q_mt)) : Met l yX12_mostWatchedByTable (wo (.code yX12_mostWatchedByTable cX12_mostWatchedByTable 1 (some .int))) ({ frames := 4, cells := 0, slots := 0, locals := 105 } : Room) (preM D dA [.ref h0] sz [(h0, .inr (10, [.ref h1, .ref h2, .ref h3, .int mi, .ref h4, .int mn, .int mt, .ref h5, .int mO, .ref h6, .int mL, .int mA, .int mW, .int mE, .int mF, .ref h7, .int mM])), (h1, .inl (dA 0, 158, .inl ms)), (h2, .inl (dA 0, 158, .inl mb)), (h3, .inl (dA 0, 158, .inl mv)), (h4, .inl (dA 0, 1264, .inl mp)), (h5, .inl (dA 1, 180, .inl mo)), (h6, .inl (dA 1, 60, .inl mI)), (h7, .inl (dA 0, 240, .inl mc))]) (poMi D rr [(h0, .inr (10, [.ref h1, .ref h2, .ref h3, .int mi, .ref h4, .int mn, .int q_mt, .ref h5, .int mO, .ref h6, .int mL, .int mA, .int mW, .int mE, .int mF, .ref h7, .int mM])), (h1, .inl (dA 0, 158, .inl ms)), (h2, .inl (dA 0, 158, .inl mb)), (h3, .inl (dA 0, 158, .inl mv)), (h4, .inl (dA 0, 1264, .inl mp)), (h5, .inl (dA 1, 180, .inl mo)), (h6, .inl (dA 1, 60, .inl mI)), (h7, .inl (dA 0, 240, .inl mc))] (va_A [(h0, .inr (10, [.ref h1, .ref h2, .ref h3, .int mi, .ref h4, .int mn, .int mt, .ref h5, .int mO, .ref h6, .int mL, .int mA, .int mW, .int mE, .int mF, .ref h7, .int mM])), (h1, .inl (dA 0, 158, .inl ms)), (h2, .inl (dA 0, 158, .inl mb)), (h3, .inl (dA 0, 158, .inl mv)), (h4, .inl (dA 0, 1264, .inl mp)), (h5, .inl (dA 1, 180, .inl mo)), (h6, .inl (dA 1, 60, .inl mI)), (h7, .inl (dA 0, 240, .inl mc))] sz)) 0 0 (va_A [(h0, .inr (10, [.ref h1, .ref h2, .ref h3, .int mi, .ref h4, .int mn, .int mt, .ref h5, .int mO, .ref h6, .int mL, .int mA, .int mW, .int mE, .int mF, .ref h7, .int mM])), (h1, .inl (dA 0, 158, .inl ms)), (h2, .inl (dA 0, 158, .inl mb)), (h3, .inl (dA 0, 158, .inl mv)), (h4, .inl (dA 0, 1264, .inl mp)), (h5, .inl (dA 1, 180, .inl mo)), (h6, .inl (dA 1, 60, .inl mI)), (h7, .inl (dA 0, 240, .inl mc))] sz) := by
  refine of_M (y := yX12_mostWatchedByTable) (av := [.ref h0]) (ws := [(h0, .inr (10, [.ref h1, .ref h2, .ref h3, .int mi, .ref h4, .int mn, .int mt, .ref h5, .int mO, .ref h6, .int mL, .int mA, .int mW, .int mE, .int mF, .ref h7, .int mM])), (h1, .inl (dA 0, 158, .inl ms)), (h2, .inl (dA 0, 158, .inl mb)), (h3, .inl (dA 0, 158, .inl mv)), (h4, .inl (dA 0, 1264, .inl mp)), (h5, .inl (dA 1, 180, .inl mo)), (h6, .inl (dA 1, 60, .inl mI)), (h7, .inl (dA 0, 240, .inl mc))]) (sz := sz) (own := RX12) (Qc := poMi D rr [(h0, .inr (10, [.ref h1, .ref h2, .ref h3, .int mi, .ref h4, .int mn, .int q_mt, .ref h5, .int mO, .ref h6, .int mL, .int mA, .int mW, .int mE, .int mF, .ref h7, .int mM])), (h1, .inl (dA 0, 158, .inl ms)), (h2, .inl (dA 0, 158, .inl mb)), (h3, .inl (dA 0, 158, .inl mv)), (h4, .inl (dA 0, 1264, .inl mp)), (h5, .inl (dA 1, 180, .inl mo)), (h6, .inl (dA 1, 60, .inl mI)), (h7, .inl (dA 0, 240, .inl mc))]) (by decide) rfl (Nat.le_of_ble_eq_true rfl) ?_
  intro p e s m below meth c A hx hb hr ha hown hml hlocks hin hP hK hD hS hA ls hl
  have hl : lv_has ls 1 [(0, .ref h0)] := hl
  rw [f_X12_mostWatchedByTable] at hf
  refine lv_aload_n hx hb dX12_mostWatchedByTable_0 rfl (lv_at hl 0 rfl) ?_
  obtain ⟨r_1, x_2, hc2, hf⟩ := sf_c2e hf
  refine k_Mi (wr := []) (run_MV (As := []) (rest := []) ⟨hx, hb, hml, hown, ha⟩ (c_X12_mostWatched l D dA h0 h1 h2 h3 h4 h5 h6 h7 _ ms mb mv mi mp mn mt mo mO mI mL mA mW mE mF mc mM _ _ hc2) (gi_V m_1953 m_1945 m_1946 m_85 m_1947) yd_X12_mostWatched ⟨Nat.le_of_ble_eq_true rfl, Nat.le_of_ble_eq_true rfl⟩ ⟨rfl, rfl⟩ hK hP hD [0, 1, 2, 3, 4, 5, 6, 7] (by decide) rfl 0 10 rfl rfl rfl rfl hl.1 rfl (Nat.le_of_ble_eq_true rfl) dX12_mostWatchedByTable_1 ⟨Nat.le_of_ble_eq_true rfl, Nat.le_of_ble_eq_true rfl⟩) hP hD hS hA [0, 1, 2, 3, 4, 5, 6, 7] [] rfl rfl (by decide) (by decide) (fun H locs hP hD hS => ?_)
  cases hf
  exact rt_Mi hx hb hr hlocks (hP.sub [0, 1, 2, 3, 4, 5, 6, 7] rfl) (hD.sub [0, 1, 2, 3, 4, 5, 6, 7] (by decide) rfl) hS dX12_mostWatchedByTable_4

def f_X12_mostAtOnce_L24 (ms : Nat → Int32) (v_1 : Int32) (k : Int32 → Option (Int32 × Int32)) : Nat → Int32 → Int32 → Option (Int32 × Int32)
  | 0, _, _ => none
  | n + 1, v_3, v_4 => sf_g (sf_in (2 : Int32) 158 = true) (sf_b ((ms (2 : Int32).toNatClampNeg) ≤ v_3) (k v_4) (sf_c1 (f_X12_startOf ms v_1) (fun r_5 => sf_c1 (f_X12_startOf ms v_3) (fun r_6 => sf_c1 (f_X12_endOf ms v_3) (fun r_7 => sf_c1 (f_X12_in r_5 r_6 (r_7 - (1 : Int32))) (fun r_8 => sf_b (r_8 = (0 : Int32)) (sf_n ((v_4 + (0 : Int32))) (fun x_9 => sf_n (v_3 + (1 : Int32)) (fun x_10 => f_X12_mostAtOnce_L24 ms v_1 k n x_10 x_9))) (sf_n ((v_4 + (1 : Int32))) (fun x_11 => sf_n (v_3 + (1 : Int32)) (fun x_12 => f_X12_mostAtOnce_L24 ms v_1 k n x_12 x_11)))))))))
def f_X12_mostAtOnce_L9 (ms : Nat → Int32) (k : Int32 → Option (Int32 × Int32)) : Nat → Int32 → Int32 → Option (Int32 × Int32)
  | 0, _, _ => none
  | n + 1, v_1, v_2 => sf_g (sf_in (2 : Int32) 158 = true) (sf_b ((ms (2 : Int32).toNatClampNeg) ≤ v_1) (k v_2) (f_X12_mostAtOnce_L24 ms v_1 (fun y_13 => sf_n ((if v_2 < y_13 then y_13 else v_2)) (fun x_14 => sf_n (v_1 + (1 : Int32)) (fun x_15 => f_X12_mostAtOnce_L9 ms k n x_15 x_14))) 2000 (0 : Int32) (0 : Int32)))
def f_X12_mostAtOnce (ms : Nat → Int32) (mt : Int32) : Option (Int32 × Int32) :=
  f_X12_mostAtOnce_L9 ms (fun y_16 => some (y_16, (0 : Int32))) 2000 (0 : Int32) (0 : Int32)
theorem yd_X12_mostAtOnce : yX12_mostAtOnce.cls = RX12 ∧ yX12_mostAtOnce.cls ≠ "java/lang/invoke/MethodHandle" ∧ yX12_mostAtOnce.cls ≠ "java/lang/invoke/VarHandle" ∧ (parseMethodDescriptor yX12_mostAtOnce.desc).map (fun d => d.parameters.length) = some 0 := ⟨rfl, by decide, by decide, by decide +kernel⟩
set_option maxRecDepth 100000 in
set_option maxHeartbeats 4000000 in
theorem c_X12_mostAtOnce (l : Launch) (D : va_G) (dA : Nat → ClassId) (h0 h1 h2 h3 h4 h5 h6 h7 : Nat) (sz : Nat) (ms : Nat → Int32) (mb : Nat → Int32) (mv : Nat → Int32) (mi : Int32) (mp : Nat → Int32) (mn : Int32) (mt : Int32) (mo : Nat → Int32) (mO : Int32) (mI : Nat → Int32) (mL : Int32) (mA : Int32) (mW : Int32) (mE : Int32) (mF : Int32) (mc : Nat → Int32) (mM : Int32) (rr : Int32) (q_mt : Int32) (hf : f_X12_mostAtOnce ms mt = some (rr, q_mt)) : Met l yX12_mostAtOnce (wo (.code yX12_mostAtOnce cX12_mostAtOnce 5 (some .int))) ({ frames := 3, cells := 0, slots := 0, locals := 80 } : Room) (preM D dA [.ref h0] sz [(h0, .inr (10, [.ref h1, .ref h2, .ref h3, .int mi, .ref h4, .int mn, .int mt, .ref h5, .int mO, .ref h6, .int mL, .int mA, .int mW, .int mE, .int mF, .ref h7, .int mM])), (h1, .inl (dA 0, 158, .inl ms)), (h2, .inl (dA 0, 158, .inl mb)), (h3, .inl (dA 0, 158, .inl mv)), (h4, .inl (dA 0, 1264, .inl mp)), (h5, .inl (dA 1, 180, .inl mo)), (h6, .inl (dA 1, 60, .inl mI)), (h7, .inl (dA 0, 240, .inl mc))]) (poMi D rr [(h0, .inr (10, [.ref h1, .ref h2, .ref h3, .int mi, .ref h4, .int mn, .int q_mt, .ref h5, .int mO, .ref h6, .int mL, .int mA, .int mW, .int mE, .int mF, .ref h7, .int mM])), (h1, .inl (dA 0, 158, .inl ms)), (h2, .inl (dA 0, 158, .inl mb)), (h3, .inl (dA 0, 158, .inl mv)), (h4, .inl (dA 0, 1264, .inl mp)), (h5, .inl (dA 1, 180, .inl mo)), (h6, .inl (dA 1, 60, .inl mI)), (h7, .inl (dA 0, 240, .inl mc))] (va_A [(h0, .inr (10, [.ref h1, .ref h2, .ref h3, .int mi, .ref h4, .int mn, .int mt, .ref h5, .int mO, .ref h6, .int mL, .int mA, .int mW, .int mE, .int mF, .ref h7, .int mM])), (h1, .inl (dA 0, 158, .inl ms)), (h2, .inl (dA 0, 158, .inl mb)), (h3, .inl (dA 0, 158, .inl mv)), (h4, .inl (dA 0, 1264, .inl mp)), (h5, .inl (dA 1, 180, .inl mo)), (h6, .inl (dA 1, 60, .inl mI)), (h7, .inl (dA 0, 240, .inl mc))] sz)) 0 0 (va_A [(h0, .inr (10, [.ref h1, .ref h2, .ref h3, .int mi, .ref h4, .int mn, .int mt, .ref h5, .int mO, .ref h6, .int mL, .int mA, .int mW, .int mE, .int mF, .ref h7, .int mM])), (h1, .inl (dA 0, 158, .inl ms)), (h2, .inl (dA 0, 158, .inl mb)), (h3, .inl (dA 0, 158, .inl mv)), (h4, .inl (dA 0, 1264, .inl mp)), (h5, .inl (dA 1, 180, .inl mo)), (h6, .inl (dA 1, 60, .inl mI)), (h7, .inl (dA 0, 240, .inl mc))] sz) := by
  refine of_M (y := yX12_mostAtOnce) (av := [.ref h0]) (ws := [(h0, .inr (10, [.ref h1, .ref h2, .ref h3, .int mi, .ref h4, .int mn, .int mt, .ref h5, .int mO, .ref h6, .int mL, .int mA, .int mW, .int mE, .int mF, .ref h7, .int mM])), (h1, .inl (dA 0, 158, .inl ms)), (h2, .inl (dA 0, 158, .inl mb)), (h3, .inl (dA 0, 158, .inl mv)), (h4, .inl (dA 0, 1264, .inl mp)), (h5, .inl (dA 1, 180, .inl mo)), (h6, .inl (dA 1, 60, .inl mI)), (h7, .inl (dA 0, 240, .inl mc))]) (sz := sz) (own := RX12) (Qc := poMi D rr [(h0, .inr (10, [.ref h1, .ref h2, .ref h3, .int mi, .ref h4, .int mn, .int q_mt, .ref h5, .int mO, .ref h6, .int mL, .int mA, .int mW, .int mE, .int mF, .ref h7, .int mM])), (h1, .inl (dA 0, 158, .inl ms)), (h2, .inl (dA 0, 158, .inl mb)), (h3, .inl (dA 0, 158, .inl mv)), (h4, .inl (dA 0, 1264, .inl mp)), (h5, .inl (dA 1, 180, .inl mo)), (h6, .inl (dA 1, 60, .inl mI)), (h7, .inl (dA 0, 240, .inl mc))]) (by decide) rfl (Nat.le_of_ble_eq_true rfl) ?_
  intro p e s m below meth c A hx hb hr ha hown hml hlocks hin hP hK hD hS hA ls hl
  have hl : lv_has ls 5 [(0, .ref h0)] := hl
  rw [f_X12_mostAtOnce] at hf
  refine lv_aload_n hx hb dX12_mostAtOnce_0 rfl (lv_at hl 0 rfl) ?_
  refine lv_iconst (v := 0) hx hb dX12_mostAtOnce_1 (by decide) ?_
  refine pt_f (C := RX12) (T := TX12) (N := 17) (ws' := [(h0, .inr (10, [.ref h1, .ref h2, .ref h3, .int mi, .ref h4, .int mn, .int (0 : Int32), .ref h5, .int mO, .ref h6, .int mL, .int mA, .int mW, .int mE, .int mF, .ref h7, .int mM])), (h1, .inl (dA 0, 158, .inl ms)), (h2, .inl (dA 0, 158, .inl mb)), (h3, .inl (dA 0, 158, .inl mv)), (h4, .inl (dA 0, 1264, .inl mp)), (h5, .inl (dA 1, 180, .inl mo)), (h6, .inl (dA 1, 60, .inl mI)), (h7, .inl (dA 0, 240, .inl mc))]) (ty := .int) hx hb ha in_X12 tyX12 tyX12_ok nmX12 hown hK hP hD hS 0 rfl rfl 6 (by decide) m_1655 rfl (tyX12_ok 6 (by decide)) rfl rfl (Nat.le_of_ble_eq_true rfl) rfl dX12_mostAtOnce_2 (fun H locs hP hD hS => ?_)
  refine lv_iconst (v := 0) hx hb dX12_mostAtOnce_5 (by decide) ?_
  refine lv_istore_n (lv' := [(1, .int (0 : Int32)), (0, .ref h0)]) hx hb dX12_mostAtOnce_6 rfl hl (by decide) rfl (fun ls hl => ?_)
  refine lv_iconst (v := 0) hx hb dX12_mostAtOnce_7 (by decide) ?_
  refine lv_istore_n (lv' := [(2, .int (0 : Int32)), (1, .int (0 : Int32)), (0, .ref h0)]) hx hb dX12_mostAtOnce_8 rfl hl (by decide) rfl (fun ls hl => ?_)
  have hL9 : ∀ (n : Nat) (k : Int32 → Option (Int32 × Int32)) (v_1 : Int32) (v_2 : Int32) (H : Heap) (locs : List Loc) (ls : Array Slot), va_P D cls [(h0, .inr (10, [.ref h1, .ref h2, .ref h3, .int mi, .ref h4, .int mn, .int (0 : Int32), .ref h5, .int mO, .ref h6, .int mL, .int mA, .int mW, .int mE, .int mF, .ref h7, .int mM])), (h1, .inl (dA 0, 158, .inl ms)), (h2, .inl (dA 0, 158, .inl mb)), (h3, .inl (dA 0, 158, .inl mv)), (h4, .inl (dA 0, 1264, .inl mp)), (h5, .inl (dA 1, 180, .inl mo)), (h6, .inl (dA 1, 60, .inl mI)), (h7, .inl (dA 0, 240, .inl mc))] H → va_D A [(h0, .inr (10, [.ref h1, .ref h2, .ref h3, .int mi, .ref h4, .int mn, .int (0 : Int32), .ref h5, .int mO, .ref h6, .int mL, .int mA, .int mW, .int mE, .int mF, .ref h7, .int mM])), (h1, .inl (dA 0, 158, .inl ms)), (h2, .inl (dA 0, 158, .inl mb)), (h3, .inl (dA 0, 158, .inl mv)), (h4, .inl (dA 0, 1264, .inl mp)), (h5, .inl (dA 1, 180, .inl mo)), (h6, .inl (dA 1, 60, .inl mI)), (h7, .inl (dA 0, 240, .inl mc))] → va_S A s.heap H locs → lv_has ls 5 [(2, .int v_1), (1, .int v_2), (0, .ref h0)] → f_X12_mostAtOnce_L9 ms k n v_1 v_2 = some (rr, q_mt) → (∀ (y_16 : Int32) (H : Heap) (locs : List Loc) (ls : Array Slot), va_P D cls [(h0, .inr (10, [.ref h1, .ref h2, .ref h3, .int mi, .ref h4, .int mn, .int (0 : Int32), .ref h5, .int mO, .ref h6, .int mL, .int mA, .int mW, .int mE, .int mF, .ref h7, .int mM])), (h1, .inl (dA 0, 158, .inl ms)), (h2, .inl (dA 0, 158, .inl mb)), (h3, .inl (dA 0, 158, .inl mv)), (h4, .inl (dA 0, 1264, .inl mp)), (h5, .inl (dA 1, 180, .inl mo)), (h6, .inl (dA 1, 60, .inl mI)), (h7, .inl (dA 0, 240, .inl mc))] H → va_D A [(h0, .inr (10, [.ref h1, .ref h2, .ref h3, .int mi, .ref h4, .int mn, .int (0 : Int32), .ref h5, .int mO, .ref h6, .int mL, .int mA, .int mW, .int mE, .int mF, .ref h7, .int mM])), (h1, .inl (dA 0, 158, .inl ms)), (h2, .inl (dA 0, 158, .inl mb)), (h3, .inl (dA 0, 158, .inl mv)), (h4, .inl (dA 0, 1264, .inl mp)), (h5, .inl (dA 1, 180, .inl mo)), (h6, .inl (dA 1, 60, .inl mI)), (h7, .inl (dA 0, 240, .inl mc))] → va_S A s.heap H locs → lv_has ls 5 [(1, .int y_16)] → k y_16 = some (rr, q_mt) → W p l e ({ frames := 3, cells := 0, slots := 0, locals := 80 } : Room) s m ([.ref h0] : List Value).toArray below meth c H locs 0 0 (MQ below (poMi D rr [(h0, .inr (10, [.ref h1, .ref h2, .ref h3, .int mi, .ref h4, .int mn, .int q_mt, .ref h5, .int mO, .ref h6, .int mL, .int mA, .int mW, .int mE, .int mF, .ref h7, .int mM])), (h1, .inl (dA 0, 158, .inl ms)), (h2, .inl (dA 0, 158, .inl mb)), (h3, .inl (dA 0, 158, .inl mv)), (h4, .inl (dA 0, 1264, .inl mp)), (h5, .inl (dA 1, 180, .inl mo)), (h6, .inl (dA 1, 60, .inl mI)), (h7, .inl (dA 0, 240, .inl mc))] A) ([.ref h0] : List Value).toArray s 0 0 A) (F0 m 86 ls [])) → W p l e ({ frames := 3, cells := 0, slots := 0, locals := 80 } : Room) s m ([.ref h0] : List Value).toArray below meth c H locs 0 0 (MQ below (poMi D rr [(h0, .inr (10, [.ref h1, .ref h2, .ref h3, .int mi, .ref h4, .int mn, .int q_mt, .ref h5, .int mO, .ref h6, .int mL, .int mA, .int mW, .int mE, .int mF, .ref h7, .int mM])), (h1, .inl (dA 0, 158, .inl ms)), (h2, .inl (dA 0, 158, .inl mb)), (h3, .inl (dA 0, 158, .inl mv)), (h4, .inl (dA 0, 1264, .inl mp)), (h5, .inl (dA 1, 180, .inl mo)), (h6, .inl (dA 1, 60, .inl mI)), (h7, .inl (dA 0, 240, .inl mc))] A) ([.ref h0] : List Value).toArray s 0 0 A) (F0 m 9 ls []) := by
    intro n k
    induction n with
    | zero =>
      intro v_1 v_2 H locs ls hP hD hS hl hf hk
      rw [f_X12_mostAtOnce_L9] at hf
      cases hf
    | succ n ih =>
      intro v_1 v_2 H locs ls hP hD hS hl hf hk
      rw [f_X12_mostAtOnce_L9] at hf
      refine lv_iload_n hx hb dX12_mostAtOnce_9 rfl (lv_at hl 0 rfl) ?_
      refine lv_aload_n hx hb dX12_mostAtOnce_10 rfl (lv_at hl 2 rfl) ?_
      refine gt_f (C := RX12) (T := TX12) (N := 17) hx hb ha in_X12 hown hK hP 0 rfl rfl 0 (by decide) m_1649 rfl dX12_mostAtOnce_11 ?_
      refine lv_iconst (v := 2) hx hb dX12_mostAtOnce_14 (by decide) ?_
      obtain ⟨hi, hf⟩ := sf_ge hf
      refine ia_ld hx hb hK hP 1 rfl hi dX12_mostAtOnce_15 ?_
      refine lv_icmp_ge (tgt := 86) hx hb dX12_mostAtOnce_16 (by decide) (fun hc => ?_) (fun hc => ?_)
      · have hf := sf_bp hf hc
        exact hk _ _ _ _ (hP.sub [0, 1, 2, 3, 4, 5, 6, 7] rfl) (hD.sub [0, 1, 2, 3, 4, 5, 6, 7] (by decide) rfl) hS (lv_sub hl [1] rfl) hf
      · have hf := sf_bn hf hc
        refine lv_iconst (v := 0) hx hb dX12_mostAtOnce_19 (by decide) ?_
        refine lv_istore_n (lv' := [(3, .int (0 : Int32)), (2, .int v_1), (1, .int v_2), (0, .ref h0)]) hx hb dX12_mostAtOnce_20 rfl hl (by decide) rfl (fun ls hl => ?_)
        refine lv_iconst (v := 0) hx hb dX12_mostAtOnce_21 (by decide) ?_
        refine lv_istore (lv' := [(4, .int (0 : Int32)), (3, .int (0 : Int32)), (2, .int v_1), (1, .int v_2), (0, .ref h0)]) hx hb dX12_mostAtOnce_22 hl (by decide) rfl (fun ls hl => ?_)
        have hL24 : ∀ (n : Nat) (k : Int32 → Option (Int32 × Int32)) (v_3 : Int32) (v_4 : Int32) (H : Heap) (locs : List Loc) (ls : Array Slot), va_P D cls [(h0, .inr (10, [.ref h1, .ref h2, .ref h3, .int mi, .ref h4, .int mn, .int (0 : Int32), .ref h5, .int mO, .ref h6, .int mL, .int mA, .int mW, .int mE, .int mF, .ref h7, .int mM])), (h1, .inl (dA 0, 158, .inl ms)), (h2, .inl (dA 0, 158, .inl mb)), (h3, .inl (dA 0, 158, .inl mv)), (h4, .inl (dA 0, 1264, .inl mp)), (h5, .inl (dA 1, 180, .inl mo)), (h6, .inl (dA 1, 60, .inl mI)), (h7, .inl (dA 0, 240, .inl mc))] H → va_D A [(h0, .inr (10, [.ref h1, .ref h2, .ref h3, .int mi, .ref h4, .int mn, .int (0 : Int32), .ref h5, .int mO, .ref h6, .int mL, .int mA, .int mW, .int mE, .int mF, .ref h7, .int mM])), (h1, .inl (dA 0, 158, .inl ms)), (h2, .inl (dA 0, 158, .inl mb)), (h3, .inl (dA 0, 158, .inl mv)), (h4, .inl (dA 0, 1264, .inl mp)), (h5, .inl (dA 1, 180, .inl mo)), (h6, .inl (dA 1, 60, .inl mI)), (h7, .inl (dA 0, 240, .inl mc))] → va_S A s.heap H locs → lv_has ls 5 [(4, .int v_3), (3, .int v_4), (2, .int v_1), (1, .int v_2), (0, .ref h0)] → f_X12_mostAtOnce_L24 ms v_1 k n v_3 v_4 = some (rr, q_mt) → (∀ (y_13 : Int32) (H : Heap) (locs : List Loc) (ls : Array Slot), va_P D cls [(h0, .inr (10, [.ref h1, .ref h2, .ref h3, .int mi, .ref h4, .int mn, .int (0 : Int32), .ref h5, .int mO, .ref h6, .int mL, .int mA, .int mW, .int mE, .int mF, .ref h7, .int mM])), (h1, .inl (dA 0, 158, .inl ms)), (h2, .inl (dA 0, 158, .inl mb)), (h3, .inl (dA 0, 158, .inl mv)), (h4, .inl (dA 0, 1264, .inl mp)), (h5, .inl (dA 1, 180, .inl mo)), (h6, .inl (dA 1, 60, .inl mI)), (h7, .inl (dA 0, 240, .inl mc))] H → va_D A [(h0, .inr (10, [.ref h1, .ref h2, .ref h3, .int mi, .ref h4, .int mn, .int (0 : Int32), .ref h5, .int mO, .ref h6, .int mL, .int mA, .int mW, .int mE, .int mF, .ref h7, .int mM])), (h1, .inl (dA 0, 158, .inl ms)), (h2, .inl (dA 0, 158, .inl mb)), (h3, .inl (dA 0, 158, .inl mv)), (h4, .inl (dA 0, 1264, .inl mp)), (h5, .inl (dA 1, 180, .inl mo)), (h6, .inl (dA 1, 60, .inl mI)), (h7, .inl (dA 0, 240, .inl mc))] → va_S A s.heap H locs → lv_has ls 5 [(3, .int y_13), (2, .int v_1), (1, .int v_2), (0, .ref h0)] → k y_13 = some (rr, q_mt) → W p l e ({ frames := 3, cells := 0, slots := 0, locals := 80 } : Room) s m ([.ref h0] : List Value).toArray below meth c H locs 0 0 (MQ below (poMi D rr [(h0, .inr (10, [.ref h1, .ref h2, .ref h3, .int mi, .ref h4, .int mn, .int q_mt, .ref h5, .int mO, .ref h6, .int mL, .int mA, .int mW, .int mE, .int mF, .ref h7, .int mM])), (h1, .inl (dA 0, 158, .inl ms)), (h2, .inl (dA 0, 158, .inl mb)), (h3, .inl (dA 0, 158, .inl mv)), (h4, .inl (dA 0, 1264, .inl mp)), (h5, .inl (dA 1, 180, .inl mo)), (h6, .inl (dA 1, 60, .inl mI)), (h7, .inl (dA 0, 240, .inl mc))] A) ([.ref h0] : List Value).toArray s 0 0 A) (F0 m 74 ls [])) → W p l e ({ frames := 3, cells := 0, slots := 0, locals := 80 } : Room) s m ([.ref h0] : List Value).toArray below meth c H locs 0 0 (MQ below (poMi D rr [(h0, .inr (10, [.ref h1, .ref h2, .ref h3, .int mi, .ref h4, .int mn, .int q_mt, .ref h5, .int mO, .ref h6, .int mL, .int mA, .int mW, .int mE, .int mF, .ref h7, .int mM])), (h1, .inl (dA 0, 158, .inl ms)), (h2, .inl (dA 0, 158, .inl mb)), (h3, .inl (dA 0, 158, .inl mv)), (h4, .inl (dA 0, 1264, .inl mp)), (h5, .inl (dA 1, 180, .inl mo)), (h6, .inl (dA 1, 60, .inl mI)), (h7, .inl (dA 0, 240, .inl mc))] A) ([.ref h0] : List Value).toArray s 0 0 A) (F0 m 24 ls []) := by
          intro n k
          induction n with
          | zero =>
            intro v_3 v_4 H locs ls hP hD hS hl hf hk
            rw [f_X12_mostAtOnce_L24] at hf
            cases hf
          | succ n ih =>
            intro v_3 v_4 H locs ls hP hD hS hl hf hk
            rw [f_X12_mostAtOnce_L24] at hf
            refine lv_iload hx hb dX12_mostAtOnce_24 (lv_at hl 0 rfl) ?_
            refine lv_aload_n hx hb dX12_mostAtOnce_26 rfl (lv_at hl 4 rfl) ?_
            refine gt_f (C := RX12) (T := TX12) (N := 17) hx hb ha in_X12 hown hK hP 0 rfl rfl 0 (by decide) m_1649 rfl dX12_mostAtOnce_27 ?_
            refine lv_iconst (v := 2) hx hb dX12_mostAtOnce_30 (by decide) ?_
            obtain ⟨hi, hf⟩ := sf_ge hf
            refine ia_ld hx hb hK hP 1 rfl hi dX12_mostAtOnce_31 ?_
            refine lv_icmp_ge (tgt := 74) hx hb dX12_mostAtOnce_32 (by decide) (fun hc => ?_) (fun hc => ?_)
            · have hf := sf_bp hf hc
              exact hk _ _ _ _ (hP.sub [0, 1, 2, 3, 4, 5, 6, 7] rfl) (hD.sub [0, 1, 2, 3, 4, 5, 6, 7] (by decide) rfl) hS (lv_sub hl [1, 2, 3, 4] rfl) hf
            · have hf := sf_bn hf hc
              refine lv_iload_n hx hb dX12_mostAtOnce_35 rfl (lv_at hl 1 rfl) ?_
              refine lv_aload_n hx hb dX12_mostAtOnce_36 rfl (lv_at hl 4 rfl) ?_
              refine lv_iload_n hx hb dX12_mostAtOnce_37 rfl (lv_at hl 2 rfl) ?_
              obtain ⟨r_5, hc5, hf⟩ := sf_c1e hf
              refine k_Pi (run_PV (As := [.int v_1]) (rest := [.int v_4]) ⟨hx, hb, hml, hown, ha⟩ (c_X12_startOf l D dA h0 h1 h2 h3 h4 h5 h6 h7  ms mb mv mi mp mn (0 : Int32) mo mO mI mL mA mW mE mF mc mM v_1 _ hc5) (gi_V m_1773 m_1775 m_43 m_85 m_1776) yd_X12_startOf ⟨Nat.le_of_ble_eq_true rfl, Nat.le_of_ble_eq_true rfl⟩ ⟨rfl, rfl⟩ hK hP [0, 1, 2, 3, 4, 5, 6, 7] rfl 0 10 rfl rfl rfl rfl hl.1 rfl (Nat.le_of_ble_eq_true rfl) dX12_mostAtOnce_38 ⟨Nat.le_of_ble_eq_true rfl, Nat.le_of_ble_eq_true rfl⟩) hP hS (fun H locs hP hS => ?_)
              refine lv_aload_n hx hb dX12_mostAtOnce_41 rfl (lv_at hl 4 rfl) ?_
              refine lv_iload hx hb dX12_mostAtOnce_42 (lv_at hl 0 rfl) ?_
              obtain ⟨r_6, hc6, hf⟩ := sf_c1e hf
              refine k_Pi (run_PV (As := [.int v_3]) (rest := [.int r_5, .int v_4]) ⟨hx, hb, hml, hown, ha⟩ (c_X12_startOf l D dA h0 h1 h2 h3 h4 h5 h6 h7  ms mb mv mi mp mn (0 : Int32) mo mO mI mL mA mW mE mF mc mM v_3 _ hc6) (gi_V m_1773 m_1775 m_43 m_85 m_1776) yd_X12_startOf ⟨Nat.le_of_ble_eq_true rfl, Nat.le_of_ble_eq_true rfl⟩ ⟨rfl, rfl⟩ hK hP [0, 1, 2, 3, 4, 5, 6, 7] rfl 0 10 rfl rfl rfl rfl hl.1 rfl (Nat.le_of_ble_eq_true rfl) dX12_mostAtOnce_44 ⟨Nat.le_of_ble_eq_true rfl, Nat.le_of_ble_eq_true rfl⟩) hP hS (fun H locs hP hS => ?_)
              refine lv_aload_n hx hb dX12_mostAtOnce_47 rfl (lv_at hl 4 rfl) ?_
              refine lv_iload hx hb dX12_mostAtOnce_48 (lv_at hl 0 rfl) ?_
              obtain ⟨r_7, hc7, hf⟩ := sf_c1e hf
              refine k_Pi (run_PV (As := [.int v_3]) (rest := [.int r_6, .int r_5, .int v_4]) ⟨hx, hb, hml, hown, ha⟩ (c_X12_endOf l D dA h0 h1 h2 h3 h4 h5 h6 h7  ms mb mv mi mp mn (0 : Int32) mo mO mI mL mA mW mE mF mc mM v_3 _ hc7) (gi_V m_1777 m_1779 m_44 m_85 m_1780) yd_X12_endOf ⟨Nat.le_of_ble_eq_true rfl, Nat.le_of_ble_eq_true rfl⟩ ⟨rfl, rfl⟩ hK hP [0, 1, 2, 3, 4, 5, 6, 7] rfl 0 10 rfl rfl rfl rfl hl.1 rfl (Nat.le_of_ble_eq_true rfl) dX12_mostAtOnce_50 ⟨Nat.le_of_ble_eq_true rfl, Nat.le_of_ble_eq_true rfl⟩) hP hS (fun H locs hP hS => ?_)
              refine lv_iconst (v := 1) hx hb dX12_mostAtOnce_53 (by decide) ?_
              refine lv_isub hx hb dX12_mostAtOnce_54 ?_
              obtain ⟨r_8, hc8, hf⟩ := sf_c1e hf
              refine k_Pi (run_PS (As := [.int r_5, .int r_6, .int (r_7 - (1 : Int32))]) (rest := [.int v_4]) ⟨hx, hb, hml, hown, ha⟩ (c_X12_in l D dA    r_5 r_6 (r_7 - (1 : Int32)) _ hc8) (gi_S m_1718 m_1719 m_85 m_1720) yd_X12_in ⟨Nat.le_of_ble_eq_true rfl, Nat.le_of_ble_eq_true rfl⟩ ⟨rfl, rfl⟩ hK hP [] rfl rfl hl.1 rfl (Nat.le_of_ble_eq_true rfl) dX12_mostAtOnce_55 ⟨Nat.le_of_ble_eq_true rfl, Nat.le_of_ble_eq_true rfl⟩) hP hS (fun H locs hP hS => ?_)
              refine lv_if_eq (tgt := 65) hx hb dX12_mostAtOnce_58 (by decide) (fun hc => ?_) (fun hc => ?_)
              · have hf := sf_bp hf hc
                refine lv_iconst (v := 0) hx hb dX12_mostAtOnce_65 (by decide) ?_
                refine lv_iadd hx hb dX12_mostAtOnce_66 ?_
                obtain ⟨x_9, ex_9, hf⟩ := sf_ne hf
                refine tp_i ex_9 ?_
                refine lv_istore_n (lv' := [(3, .int x_9), (4, .int v_3), (2, .int v_1), (1, .int v_2), (0, .ref h0)]) hx hb dX12_mostAtOnce_67 rfl hl (by decide) rfl (fun ls hl => ?_)
                obtain ⟨x_10, ex_10, hf⟩ := sf_ne hf
                refine ii_nc (lv' := [(4, .int x_10), (3, .int x_9), (2, .int v_1), (1, .int v_2), (0, .ref h0)]) (k := 1) hx hb dX12_mostAtOnce_68 hl rfl ex_10 (by decide) (by decide) rfl (fun ls hl => ?_)
                refine lv_goto (tgt := 24) hx hb dX12_mostAtOnce_71 (by decide) ?_
                exact ih _ _ _ _ _ (hP.sub [0, 1, 2, 3, 4, 5, 6, 7] rfl) (hD.sub [0, 1, 2, 3, 4, 5, 6, 7] (by decide) rfl) hS (lv_sub hl [0, 1, 2, 3, 4] rfl) hf hk
              · have hf := sf_bn hf hc
                refine lv_iconst (v := 1) hx hb dX12_mostAtOnce_61 (by decide) ?_
                refine lv_goto (tgt := 66) hx hb dX12_mostAtOnce_62 (by decide) ?_
                refine lv_iadd hx hb dX12_mostAtOnce_66 ?_
                obtain ⟨x_11, ex_11, hf⟩ := sf_ne hf
                refine tp_i ex_11 ?_
                refine lv_istore_n (lv' := [(3, .int x_11), (4, .int v_3), (2, .int v_1), (1, .int v_2), (0, .ref h0)]) hx hb dX12_mostAtOnce_67 rfl hl (by decide) rfl (fun ls hl => ?_)
                obtain ⟨x_12, ex_12, hf⟩ := sf_ne hf
                refine ii_nc (lv' := [(4, .int x_12), (3, .int x_11), (2, .int v_1), (1, .int v_2), (0, .ref h0)]) (k := 1) hx hb dX12_mostAtOnce_68 hl rfl ex_12 (by decide) (by decide) rfl (fun ls hl => ?_)
                refine lv_goto (tgt := 24) hx hb dX12_mostAtOnce_71 (by decide) ?_
                exact ih _ _ _ _ _ (hP.sub [0, 1, 2, 3, 4, 5, 6, 7] rfl) (hD.sub [0, 1, 2, 3, 4, 5, 6, 7] (by decide) rfl) hS (lv_sub hl [0, 1, 2, 3, 4] rfl) hf hk
        refine hL24 _ _ _ _ _ _ _ hP hD hS (lv_sub hl [0, 1, 2, 3, 4] rfl) hf (fun y_13 H locs ls hP hD hS hl hf => ?_)
        refine lv_iload_n hx hb dX12_mostAtOnce_74 rfl (lv_at hl 2 rfl) ?_
        refine lv_iload_n hx hb dX12_mostAtOnce_75 rfl (lv_at hl 0 rfl) ?_
        refine mx_i hx hb ha hown hml hl.1 m_1850 m_443 m_95 m_444 ⟨Nat.le_of_ble_eq_true rfl, Nat.le_of_ble_eq_true rfl⟩ ⟨Nat.le_of_ble_eq_true rfl, Nat.le_of_ble_eq_true rfl⟩ dX12_mostAtOnce_76 ?_
        obtain ⟨x_14, ex_14, hf⟩ := sf_ne hf
        refine tp_i ex_14 ?_
        refine lv_istore_n (lv' := [(1, .int x_14), (3, .int y_13), (2, .int v_1), (0, .ref h0)]) hx hb dX12_mostAtOnce_79 rfl hl (by decide) rfl (fun ls hl => ?_)
        obtain ⟨x_15, ex_15, hf⟩ := sf_ne hf
        refine ii_nc (lv' := [(2, .int x_15), (1, .int x_14), (3, .int y_13), (0, .ref h0)]) (k := 2) hx hb dX12_mostAtOnce_80 hl rfl ex_15 (by decide) (by decide) rfl (fun ls hl => ?_)
        refine lv_goto (tgt := 9) hx hb dX12_mostAtOnce_83 (by decide) ?_
        exact ih _ _ _ _ _ (hP.sub [0, 1, 2, 3, 4, 5, 6, 7] rfl) (hD.sub [0, 1, 2, 3, 4, 5, 6, 7] (by decide) rfl) hS (lv_sub hl [0, 1, 3] rfl) hf hk
  refine hL9 _ _ _ _ _ _ _ hP hD hS (lv_sub hl [0, 1, 2] rfl) hf (fun y_16 H locs ls hP hD hS hl hf => ?_)
  refine lv_iload_n hx hb dX12_mostAtOnce_86 rfl (lv_at hl 0 rfl) ?_
  cases hf
  exact rt_Mi hx hb hr hlocks (hP.sub [0, 1, 2, 3, 4, 5, 6, 7] rfl) (hD.sub [0, 1, 2, 3, 4, 5, 6, 7] (by decide) rfl) hS dX12_mostAtOnce_87

def f_X12_mostAtOnceBySweep (ms : Nat → Int32) (mt : Int32) : Option (Int32 × Int32) :=
  sf_c2 (f_X12_mostAtOnce ms mt) (fun r_1 x_2 => some (r_1, x_2))
theorem yd_X12_mostAtOnceBySweep : yX12_mostAtOnceBySweep.cls = RX12 ∧ yX12_mostAtOnceBySweep.cls ≠ "java/lang/invoke/MethodHandle" ∧ yX12_mostAtOnceBySweep.cls ≠ "java/lang/invoke/VarHandle" ∧ (parseMethodDescriptor yX12_mostAtOnceBySweep.desc).map (fun d => d.parameters.length) = some 0 := ⟨rfl, by decide, by decide, by decide +kernel⟩
set_option maxRecDepth 100000 in
set_option maxHeartbeats 4000000 in
theorem c_X12_mostAtOnceBySweep (l : Launch) (D : va_G) (dA : Nat → ClassId) (h0 h1 h2 h3 h4 h5 h6 h7 : Nat) (sz : Nat) (ms : Nat → Int32) (mb : Nat → Int32) (mv : Nat → Int32) (mi : Int32) (mp : Nat → Int32) (mn : Int32) (mt : Int32) (mo : Nat → Int32) (mO : Int32) (mI : Nat → Int32) (mL : Int32) (mA : Int32) (mW : Int32) (mE : Int32) (mF : Int32) (mc : Nat → Int32) (mM : Int32) (rr : Int32) (q_mt : Int32) (hf : f_X12_mostAtOnceBySweep ms mt = some (rr, q_mt)) : Met l yX12_mostAtOnceBySweep (wo (.code yX12_mostAtOnceBySweep cX12_mostAtOnceBySweep 1 (some .int))) ({ frames := 4, cells := 0, slots := 0, locals := 104 } : Room) (preM D dA [.ref h0] sz [(h0, .inr (10, [.ref h1, .ref h2, .ref h3, .int mi, .ref h4, .int mn, .int mt, .ref h5, .int mO, .ref h6, .int mL, .int mA, .int mW, .int mE, .int mF, .ref h7, .int mM])), (h1, .inl (dA 0, 158, .inl ms)), (h2, .inl (dA 0, 158, .inl mb)), (h3, .inl (dA 0, 158, .inl mv)), (h4, .inl (dA 0, 1264, .inl mp)), (h5, .inl (dA 1, 180, .inl mo)), (h6, .inl (dA 1, 60, .inl mI)), (h7, .inl (dA 0, 240, .inl mc))]) (poMi D rr [(h0, .inr (10, [.ref h1, .ref h2, .ref h3, .int mi, .ref h4, .int mn, .int q_mt, .ref h5, .int mO, .ref h6, .int mL, .int mA, .int mW, .int mE, .int mF, .ref h7, .int mM])), (h1, .inl (dA 0, 158, .inl ms)), (h2, .inl (dA 0, 158, .inl mb)), (h3, .inl (dA 0, 158, .inl mv)), (h4, .inl (dA 0, 1264, .inl mp)), (h5, .inl (dA 1, 180, .inl mo)), (h6, .inl (dA 1, 60, .inl mI)), (h7, .inl (dA 0, 240, .inl mc))] (va_A [(h0, .inr (10, [.ref h1, .ref h2, .ref h3, .int mi, .ref h4, .int mn, .int mt, .ref h5, .int mO, .ref h6, .int mL, .int mA, .int mW, .int mE, .int mF, .ref h7, .int mM])), (h1, .inl (dA 0, 158, .inl ms)), (h2, .inl (dA 0, 158, .inl mb)), (h3, .inl (dA 0, 158, .inl mv)), (h4, .inl (dA 0, 1264, .inl mp)), (h5, .inl (dA 1, 180, .inl mo)), (h6, .inl (dA 1, 60, .inl mI)), (h7, .inl (dA 0, 240, .inl mc))] sz)) 0 0 (va_A [(h0, .inr (10, [.ref h1, .ref h2, .ref h3, .int mi, .ref h4, .int mn, .int mt, .ref h5, .int mO, .ref h6, .int mL, .int mA, .int mW, .int mE, .int mF, .ref h7, .int mM])), (h1, .inl (dA 0, 158, .inl ms)), (h2, .inl (dA 0, 158, .inl mb)), (h3, .inl (dA 0, 158, .inl mv)), (h4, .inl (dA 0, 1264, .inl mp)), (h5, .inl (dA 1, 180, .inl mo)), (h6, .inl (dA 1, 60, .inl mI)), (h7, .inl (dA 0, 240, .inl mc))] sz) := by
  refine of_M (y := yX12_mostAtOnceBySweep) (av := [.ref h0]) (ws := [(h0, .inr (10, [.ref h1, .ref h2, .ref h3, .int mi, .ref h4, .int mn, .int mt, .ref h5, .int mO, .ref h6, .int mL, .int mA, .int mW, .int mE, .int mF, .ref h7, .int mM])), (h1, .inl (dA 0, 158, .inl ms)), (h2, .inl (dA 0, 158, .inl mb)), (h3, .inl (dA 0, 158, .inl mv)), (h4, .inl (dA 0, 1264, .inl mp)), (h5, .inl (dA 1, 180, .inl mo)), (h6, .inl (dA 1, 60, .inl mI)), (h7, .inl (dA 0, 240, .inl mc))]) (sz := sz) (own := RX12) (Qc := poMi D rr [(h0, .inr (10, [.ref h1, .ref h2, .ref h3, .int mi, .ref h4, .int mn, .int q_mt, .ref h5, .int mO, .ref h6, .int mL, .int mA, .int mW, .int mE, .int mF, .ref h7, .int mM])), (h1, .inl (dA 0, 158, .inl ms)), (h2, .inl (dA 0, 158, .inl mb)), (h3, .inl (dA 0, 158, .inl mv)), (h4, .inl (dA 0, 1264, .inl mp)), (h5, .inl (dA 1, 180, .inl mo)), (h6, .inl (dA 1, 60, .inl mI)), (h7, .inl (dA 0, 240, .inl mc))]) (by decide) rfl (Nat.le_of_ble_eq_true rfl) ?_
  intro p e s m below meth c A hx hb hr ha hown hml hlocks hin hP hK hD hS hA ls hl
  have hl : lv_has ls 1 [(0, .ref h0)] := hl
  rw [f_X12_mostAtOnceBySweep] at hf
  refine lv_aload_n hx hb dX12_mostAtOnceBySweep_0 rfl (lv_at hl 0 rfl) ?_
  obtain ⟨r_1, x_2, hc2, hf⟩ := sf_c2e hf
  refine k_Mi (wr := []) (run_MV (As := []) (rest := []) ⟨hx, hb, hml, hown, ha⟩ (c_X12_mostAtOnce l D dA h0 h1 h2 h3 h4 h5 h6 h7 _ ms mb mv mi mp mn mt mo mO mI mL mA mW mE mF mc mM _ _ hc2) (gi_V m_1962 m_1955 m_1956 m_85 m_1957) yd_X12_mostAtOnce ⟨Nat.le_of_ble_eq_true rfl, Nat.le_of_ble_eq_true rfl⟩ ⟨rfl, rfl⟩ hK hP hD [0, 1, 2, 3, 4, 5, 6, 7] (by decide) rfl 0 10 rfl rfl rfl rfl hl.1 rfl (Nat.le_of_ble_eq_true rfl) dX12_mostAtOnceBySweep_1 ⟨Nat.le_of_ble_eq_true rfl, Nat.le_of_ble_eq_true rfl⟩) hP hD hS hA [0, 1, 2, 3, 4, 5, 6, 7] [] rfl rfl (by decide) (by decide) (fun H locs hP hD hS => ?_)
  cases hf
  exact rt_Mi hx hb hr hlocks (hP.sub [0, 1, 2, 3, 4, 5, 6, 7] rfl) (hD.sub [0, 1, 2, 3, 4, 5, 6, 7] (by decide) rfl) hS dX12_mostAtOnceBySweep_4

def f_X12_finish (ms : Nat → Int32) (mt : Int32) (p0 : Int32) (p1 : Int32) : Option (Int32 × Int32) :=
  sf_g (sf_in (4 : Int32) 158 = true) (sf_c1 (f_X12_in p0 (0 : Int32) ((ms (4 : Int32).toNatClampNeg) - (1 : Int32))) (fun r_1 => sf_c2 (f_X12_isThere mt r_1) (fun r_2 x_3 => sf_b (r_2 = (0 : Int32)) (some ((0 : Int32), x_3)) (sf_g (sf_in (((110 : Int32) + ((3 : Int32) * p0)) + p1) 158 = true) (some ((ms (((110 : Int32) + ((3 : Int32) * p0)) + p1).toNatClampNeg), x_3))))))
theorem yd_X12_finish : yX12_finish.cls = RX12 ∧ yX12_finish.cls ≠ "java/lang/invoke/MethodHandle" ∧ yX12_finish.cls ≠ "java/lang/invoke/VarHandle" ∧ (parseMethodDescriptor yX12_finish.desc).map (fun d => d.parameters.length) = some 2 := ⟨rfl, by decide, by decide, by decide +kernel⟩
set_option maxRecDepth 100000 in
set_option maxHeartbeats 4000000 in
theorem c_X12_finish (l : Launch) (D : va_G) (dA : Nat → ClassId) (h0 h1 h2 h3 h4 h5 h6 h7 : Nat) (sz : Nat) (ms : Nat → Int32) (mb : Nat → Int32) (mv : Nat → Int32) (mi : Int32) (mp : Nat → Int32) (mn : Int32) (mt : Int32) (mo : Nat → Int32) (mO : Int32) (mI : Nat → Int32) (mL : Int32) (mA : Int32) (mW : Int32) (mE : Int32) (mF : Int32) (mc : Nat → Int32) (mM : Int32) (p0 : Int32) (p1 : Int32) (rr : Int32) (q_mt : Int32) (hf : f_X12_finish ms mt p0 p1 = some (rr, q_mt)) : Met l yX12_finish (wo (.code yX12_finish cX12_finish 3 (some .int))) ({ frames := 1, cells := 0, slots := 0, locals := 22 } : Room) (preM D dA [.ref h0, .int p0, .int p1] sz [(h0, .inr (10, [.ref h1, .ref h2, .ref h3, .int mi, .ref h4, .int mn, .int mt, .ref h5, .int mO, .ref h6, .int mL, .int mA, .int mW, .int mE, .int mF, .ref h7, .int mM])), (h1, .inl (dA 0, 158, .inl ms)), (h2, .inl (dA 0, 158, .inl mb)), (h3, .inl (dA 0, 158, .inl mv)), (h4, .inl (dA 0, 1264, .inl mp)), (h5, .inl (dA 1, 180, .inl mo)), (h6, .inl (dA 1, 60, .inl mI)), (h7, .inl (dA 0, 240, .inl mc))]) (poMi D rr [(h0, .inr (10, [.ref h1, .ref h2, .ref h3, .int mi, .ref h4, .int mn, .int q_mt, .ref h5, .int mO, .ref h6, .int mL, .int mA, .int mW, .int mE, .int mF, .ref h7, .int mM])), (h1, .inl (dA 0, 158, .inl ms)), (h2, .inl (dA 0, 158, .inl mb)), (h3, .inl (dA 0, 158, .inl mv)), (h4, .inl (dA 0, 1264, .inl mp)), (h5, .inl (dA 1, 180, .inl mo)), (h6, .inl (dA 1, 60, .inl mI)), (h7, .inl (dA 0, 240, .inl mc))] (va_A [(h0, .inr (10, [.ref h1, .ref h2, .ref h3, .int mi, .ref h4, .int mn, .int mt, .ref h5, .int mO, .ref h6, .int mL, .int mA, .int mW, .int mE, .int mF, .ref h7, .int mM])), (h1, .inl (dA 0, 158, .inl ms)), (h2, .inl (dA 0, 158, .inl mb)), (h3, .inl (dA 0, 158, .inl mv)), (h4, .inl (dA 0, 1264, .inl mp)), (h5, .inl (dA 1, 180, .inl mo)), (h6, .inl (dA 1, 60, .inl mI)), (h7, .inl (dA 0, 240, .inl mc))] sz)) 0 0 (va_A [(h0, .inr (10, [.ref h1, .ref h2, .ref h3, .int mi, .ref h4, .int mn, .int mt, .ref h5, .int mO, .ref h6, .int mL, .int mA, .int mW, .int mE, .int mF, .ref h7, .int mM])), (h1, .inl (dA 0, 158, .inl ms)), (h2, .inl (dA 0, 158, .inl mb)), (h3, .inl (dA 0, 158, .inl mv)), (h4, .inl (dA 0, 1264, .inl mp)), (h5, .inl (dA 1, 180, .inl mo)), (h6, .inl (dA 1, 60, .inl mI)), (h7, .inl (dA 0, 240, .inl mc))] sz) := by
  refine of_M (y := yX12_finish) (av := [.ref h0, .int p0, .int p1]) (ws := [(h0, .inr (10, [.ref h1, .ref h2, .ref h3, .int mi, .ref h4, .int mn, .int mt, .ref h5, .int mO, .ref h6, .int mL, .int mA, .int mW, .int mE, .int mF, .ref h7, .int mM])), (h1, .inl (dA 0, 158, .inl ms)), (h2, .inl (dA 0, 158, .inl mb)), (h3, .inl (dA 0, 158, .inl mv)), (h4, .inl (dA 0, 1264, .inl mp)), (h5, .inl (dA 1, 180, .inl mo)), (h6, .inl (dA 1, 60, .inl mI)), (h7, .inl (dA 0, 240, .inl mc))]) (sz := sz) (own := RX12) (Qc := poMi D rr [(h0, .inr (10, [.ref h1, .ref h2, .ref h3, .int mi, .ref h4, .int mn, .int q_mt, .ref h5, .int mO, .ref h6, .int mL, .int mA, .int mW, .int mE, .int mF, .ref h7, .int mM])), (h1, .inl (dA 0, 158, .inl ms)), (h2, .inl (dA 0, 158, .inl mb)), (h3, .inl (dA 0, 158, .inl mv)), (h4, .inl (dA 0, 1264, .inl mp)), (h5, .inl (dA 1, 180, .inl mo)), (h6, .inl (dA 1, 60, .inl mI)), (h7, .inl (dA 0, 240, .inl mc))]) (by decide) rfl (Nat.le_of_ble_eq_true rfl) ?_
  intro p e s m below meth c A hx hb hr ha hown hml hlocks hin hP hK hD hS hA ls hl
  have hl : lv_has ls 3 [(0, .ref h0), (1, .int p0), (2, .int p1)] := hl
  rw [f_X12_finish] at hf
  refine lv_aload_n hx hb dX12_finish_0 rfl (lv_at hl 0 rfl) ?_
  refine lv_iload_n hx hb dX12_finish_1 rfl (lv_at hl 1 rfl) ?_
  refine lv_iconst (v := 0) hx hb dX12_finish_2 (by decide) ?_
  refine lv_aload_n hx hb dX12_finish_3 rfl (lv_at hl 0 rfl) ?_
  refine gt_f (C := RX12) (T := TX12) (N := 17) hx hb ha in_X12 hown hK hP 0 rfl rfl 0 (by decide) m_1649 rfl dX12_finish_4 ?_
  refine lv_iconst (v := 4) hx hb dX12_finish_7 (by decide) ?_
  obtain ⟨hi, hf⟩ := sf_ge hf
  refine ia_ld hx hb hK hP 1 rfl hi dX12_finish_8 ?_
  refine lv_iconst (v := 1) hx hb dX12_finish_9 (by decide) ?_
  refine lv_isub hx hb dX12_finish_10 ?_
  obtain ⟨r_1, hc1, hf⟩ := sf_c1e hf
  refine k_Pi (run_PS (As := [.int p0, .int (0 : Int32), .int ((ms (4 : Int32).toNatClampNeg) - (1 : Int32))]) (rest := [.ref h0]) ⟨hx, hb, hml, hown, ha⟩ (c_X12_in l D dA    p0 (0 : Int32) ((ms (4 : Int32).toNatClampNeg) - (1 : Int32)) _ hc1) (gi_S m_1718 m_1719 m_85 m_1720) yd_X12_in ⟨Nat.le_of_ble_eq_true rfl, Nat.le_of_ble_eq_true rfl⟩ ⟨rfl, rfl⟩ hK hP [] rfl rfl hl.1 rfl (Nat.le_of_ble_eq_true rfl) dX12_finish_11 ⟨Nat.le_of_ble_eq_true rfl, Nat.le_of_ble_eq_true rfl⟩) hP hS (fun H locs hP hS => ?_)
  obtain ⟨r_2, x_3, hc3, hf⟩ := sf_c2e hf
  refine k_Mi (wr := []) (run_MV (As := [.int r_1]) (rest := []) ⟨hx, hb, hml, hown, ha⟩ (c_X12_isThere l D dA h0 h1 h2 h3 h4 h5 h6 h7 _ ms mb mv mi mp mn mt mo mO mI mL mA mW mE mF mc mM r_1 _ _ hc3) (gi_V m_1867 m_1869 m_59 m_85 m_1870) yd_X12_isThere ⟨Nat.le_of_ble_eq_true rfl, Nat.le_of_ble_eq_true rfl⟩ ⟨rfl, rfl⟩ hK hP hD [0, 1, 2, 3, 4, 5, 6, 7] (by decide) rfl 0 10 rfl rfl rfl rfl hl.1 rfl (Nat.le_of_ble_eq_true rfl) dX12_finish_14 ⟨Nat.le_of_ble_eq_true rfl, Nat.le_of_ble_eq_true rfl⟩) hP hD hS hA [0, 1, 2, 3, 4, 5, 6, 7] [] rfl rfl (by decide) (by decide) (fun H locs hP hD hS => ?_)
  refine lv_if_eq (tgt := 36) hx hb dX12_finish_17 (by decide) (fun hc => ?_) (fun hc => ?_)
  · have hf := sf_bp hf hc
    refine lv_iconst (v := 0) hx hb dX12_finish_36 (by decide) ?_
    cases hf
    exact rt_Mi hx hb hr hlocks (hP.sub [0, 1, 2, 3, 4, 5, 6, 7] rfl) (hD.sub [0, 1, 2, 3, 4, 5, 6, 7] (by decide) rfl) hS dX12_finish_37
  · have hf := sf_bn hf hc
    refine lv_aload_n hx hb dX12_finish_20 rfl (lv_at hl 0 rfl) ?_
    refine gt_f (C := RX12) (T := TX12) (N := 17) hx hb ha in_X12 hown hK hP 0 rfl rfl 0 (by decide) m_1649 rfl dX12_finish_21 ?_
    refine lv_bipush (v := 110) hx hb dX12_finish_24 (by decide) ?_
    refine lv_iconst (v := 3) hx hb dX12_finish_26 (by decide) ?_
    refine lv_iload_n hx hb dX12_finish_27 rfl (lv_at hl 1 rfl) ?_
    refine lv_imul hx hb dX12_finish_28 ?_
    refine lv_iadd hx hb dX12_finish_29 ?_
    refine lv_iload_n hx hb dX12_finish_30 rfl (lv_at hl 2 rfl) ?_
    refine lv_iadd hx hb dX12_finish_31 ?_
    obtain ⟨hi, hf⟩ := sf_ge hf
    refine ia_ld hx hb hK hP 1 rfl hi dX12_finish_32 ?_
    refine lv_goto (tgt := 37) hx hb dX12_finish_33 (by decide) ?_
    cases hf
    exact rt_Mi hx hb hr hlocks (hP.sub [0, 1, 2, 3, 4, 5, 6, 7] rfl) (hD.sub [0, 1, 2, 3, 4, 5, 6, 7] (by decide) rfl) hS dX12_finish_37

def f_X12_finishCount (ms : Nat → Int32) (mt : Int32) : Option (Int32 × Int32) :=
  sf_g (sf_in (4 : Int32) 158 = true) (some ((ms (4 : Int32).toNatClampNeg), (0 : Int32)))
theorem yd_X12_finishCount : yX12_finishCount.cls = RX12 ∧ yX12_finishCount.cls ≠ "java/lang/invoke/MethodHandle" ∧ yX12_finishCount.cls ≠ "java/lang/invoke/VarHandle" ∧ (parseMethodDescriptor yX12_finishCount.desc).map (fun d => d.parameters.length) = some 0 := ⟨rfl, by decide, by decide, by decide +kernel⟩
set_option maxRecDepth 100000 in
set_option maxHeartbeats 4000000 in
theorem c_X12_finishCount (l : Launch) (D : va_G) (dA : Nat → ClassId) (h0 h1 h2 h3 h4 h5 h6 h7 : Nat) (sz : Nat) (ms : Nat → Int32) (mb : Nat → Int32) (mv : Nat → Int32) (mi : Int32) (mp : Nat → Int32) (mn : Int32) (mt : Int32) (mo : Nat → Int32) (mO : Int32) (mI : Nat → Int32) (mL : Int32) (mA : Int32) (mW : Int32) (mE : Int32) (mF : Int32) (mc : Nat → Int32) (mM : Int32) (rr : Int32) (q_mt : Int32) (hf : f_X12_finishCount ms mt = some (rr, q_mt)) : Met l yX12_finishCount (wo (.code yX12_finishCount cX12_finishCount 1 (some .int))) ({ frames := 0, cells := 0, slots := 0, locals := 0 } : Room) (preM D dA [.ref h0] sz [(h0, .inr (10, [.ref h1, .ref h2, .ref h3, .int mi, .ref h4, .int mn, .int mt, .ref h5, .int mO, .ref h6, .int mL, .int mA, .int mW, .int mE, .int mF, .ref h7, .int mM])), (h1, .inl (dA 0, 158, .inl ms)), (h2, .inl (dA 0, 158, .inl mb)), (h3, .inl (dA 0, 158, .inl mv)), (h4, .inl (dA 0, 1264, .inl mp)), (h5, .inl (dA 1, 180, .inl mo)), (h6, .inl (dA 1, 60, .inl mI)), (h7, .inl (dA 0, 240, .inl mc))]) (poMi D rr [(h0, .inr (10, [.ref h1, .ref h2, .ref h3, .int mi, .ref h4, .int mn, .int q_mt, .ref h5, .int mO, .ref h6, .int mL, .int mA, .int mW, .int mE, .int mF, .ref h7, .int mM])), (h1, .inl (dA 0, 158, .inl ms)), (h2, .inl (dA 0, 158, .inl mb)), (h3, .inl (dA 0, 158, .inl mv)), (h4, .inl (dA 0, 1264, .inl mp)), (h5, .inl (dA 1, 180, .inl mo)), (h6, .inl (dA 1, 60, .inl mI)), (h7, .inl (dA 0, 240, .inl mc))] (va_A [(h0, .inr (10, [.ref h1, .ref h2, .ref h3, .int mi, .ref h4, .int mn, .int mt, .ref h5, .int mO, .ref h6, .int mL, .int mA, .int mW, .int mE, .int mF, .ref h7, .int mM])), (h1, .inl (dA 0, 158, .inl ms)), (h2, .inl (dA 0, 158, .inl mb)), (h3, .inl (dA 0, 158, .inl mv)), (h4, .inl (dA 0, 1264, .inl mp)), (h5, .inl (dA 1, 180, .inl mo)), (h6, .inl (dA 1, 60, .inl mI)), (h7, .inl (dA 0, 240, .inl mc))] sz)) 0 0 (va_A [(h0, .inr (10, [.ref h1, .ref h2, .ref h3, .int mi, .ref h4, .int mn, .int mt, .ref h5, .int mO, .ref h6, .int mL, .int mA, .int mW, .int mE, .int mF, .ref h7, .int mM])), (h1, .inl (dA 0, 158, .inl ms)), (h2, .inl (dA 0, 158, .inl mb)), (h3, .inl (dA 0, 158, .inl mv)), (h4, .inl (dA 0, 1264, .inl mp)), (h5, .inl (dA 1, 180, .inl mo)), (h6, .inl (dA 1, 60, .inl mI)), (h7, .inl (dA 0, 240, .inl mc))] sz) := by
  refine of_M (y := yX12_finishCount) (av := [.ref h0]) (ws := [(h0, .inr (10, [.ref h1, .ref h2, .ref h3, .int mi, .ref h4, .int mn, .int mt, .ref h5, .int mO, .ref h6, .int mL, .int mA, .int mW, .int mE, .int mF, .ref h7, .int mM])), (h1, .inl (dA 0, 158, .inl ms)), (h2, .inl (dA 0, 158, .inl mb)), (h3, .inl (dA 0, 158, .inl mv)), (h4, .inl (dA 0, 1264, .inl mp)), (h5, .inl (dA 1, 180, .inl mo)), (h6, .inl (dA 1, 60, .inl mI)), (h7, .inl (dA 0, 240, .inl mc))]) (sz := sz) (own := RX12) (Qc := poMi D rr [(h0, .inr (10, [.ref h1, .ref h2, .ref h3, .int mi, .ref h4, .int mn, .int q_mt, .ref h5, .int mO, .ref h6, .int mL, .int mA, .int mW, .int mE, .int mF, .ref h7, .int mM])), (h1, .inl (dA 0, 158, .inl ms)), (h2, .inl (dA 0, 158, .inl mb)), (h3, .inl (dA 0, 158, .inl mv)), (h4, .inl (dA 0, 1264, .inl mp)), (h5, .inl (dA 1, 180, .inl mo)), (h6, .inl (dA 1, 60, .inl mI)), (h7, .inl (dA 0, 240, .inl mc))]) (by decide) rfl (Nat.le_of_ble_eq_true rfl) ?_
  intro p e s m below meth c A hx hb hr ha hown hml hlocks hin hP hK hD hS hA ls hl
  have hl : lv_has ls 1 [(0, .ref h0)] := hl
  rw [f_X12_finishCount] at hf
  refine lv_aload_n hx hb dX12_finishCount_0 rfl (lv_at hl 0 rfl) ?_
  refine lv_iconst (v := 0) hx hb dX12_finishCount_1 (by decide) ?_
  refine pt_f (C := RX12) (T := TX12) (N := 17) (ws' := [(h0, .inr (10, [.ref h1, .ref h2, .ref h3, .int mi, .ref h4, .int mn, .int (0 : Int32), .ref h5, .int mO, .ref h6, .int mL, .int mA, .int mW, .int mE, .int mF, .ref h7, .int mM])), (h1, .inl (dA 0, 158, .inl ms)), (h2, .inl (dA 0, 158, .inl mb)), (h3, .inl (dA 0, 158, .inl mv)), (h4, .inl (dA 0, 1264, .inl mp)), (h5, .inl (dA 1, 180, .inl mo)), (h6, .inl (dA 1, 60, .inl mI)), (h7, .inl (dA 0, 240, .inl mc))]) (ty := .int) hx hb ha in_X12 tyX12 tyX12_ok nmX12 hown hK hP hD hS 0 rfl rfl 6 (by decide) m_1655 rfl (tyX12_ok 6 (by decide)) rfl rfl (Nat.le_of_ble_eq_true rfl) rfl dX12_finishCount_2 (fun H locs hP hD hS => ?_)
  refine lv_aload_n hx hb dX12_finishCount_5 rfl (lv_at hl 0 rfl) ?_
  refine gt_f (C := RX12) (T := TX12) (N := 17) hx hb ha in_X12 hown hK hP 0 rfl rfl 0 (by decide) m_1649 rfl dX12_finishCount_6 ?_
  refine lv_iconst (v := 4) hx hb dX12_finishCount_9 (by decide) ?_
  obtain ⟨hi, hf⟩ := sf_ge hf
  refine ia_ld hx hb hK hP 1 rfl hi dX12_finishCount_10 ?_
  cases hf
  exact rt_Mi hx hb hr hlocks (hP.sub [0, 1, 2, 3, 4, 5, 6, 7] rfl) (hD.sub [0, 1, 2, 3, 4, 5, 6, 7] (by decide) rfl) hS dX12_finishCount_11

def f_X12_finishedGuest (ms : Nat → Int32) (mt : Int32) (p0 : Int32) : Option (Int32 × Int32) :=
  sf_c2 (f_X12_finish ms mt p0 (0 : Int32)) (fun r_1 x_2 => some (r_1, x_2))
theorem yd_X12_finishedGuest : yX12_finishedGuest.cls = RX12 ∧ yX12_finishedGuest.cls ≠ "java/lang/invoke/MethodHandle" ∧ yX12_finishedGuest.cls ≠ "java/lang/invoke/VarHandle" ∧ (parseMethodDescriptor yX12_finishedGuest.desc).map (fun d => d.parameters.length) = some 1 := ⟨rfl, by decide, by decide, by decide +kernel⟩
set_option maxRecDepth 100000 in
set_option maxHeartbeats 4000000 in
theorem c_X12_finishedGuest (l : Launch) (D : va_G) (dA : Nat → ClassId) (h0 h1 h2 h3 h4 h5 h6 h7 : Nat) (sz : Nat) (ms : Nat → Int32) (mb : Nat → Int32) (mv : Nat → Int32) (mi : Int32) (mp : Nat → Int32) (mn : Int32) (mt : Int32) (mo : Nat → Int32) (mO : Int32) (mI : Nat → Int32) (mL : Int32) (mA : Int32) (mW : Int32) (mE : Int32) (mF : Int32) (mc : Nat → Int32) (mM : Int32) (p0 : Int32) (rr : Int32) (q_mt : Int32) (hf : f_X12_finishedGuest ms mt p0 = some (rr, q_mt)) : Met l yX12_finishedGuest (wo (.code yX12_finishedGuest cX12_finishedGuest 2 (some .int))) ({ frames := 2, cells := 0, slots := 0, locals := 44 } : Room) (preM D dA [.ref h0, .int p0] sz [(h0, .inr (10, [.ref h1, .ref h2, .ref h3, .int mi, .ref h4, .int mn, .int mt, .ref h5, .int mO, .ref h6, .int mL, .int mA, .int mW, .int mE, .int mF, .ref h7, .int mM])), (h1, .inl (dA 0, 158, .inl ms)), (h2, .inl (dA 0, 158, .inl mb)), (h3, .inl (dA 0, 158, .inl mv)), (h4, .inl (dA 0, 1264, .inl mp)), (h5, .inl (dA 1, 180, .inl mo)), (h6, .inl (dA 1, 60, .inl mI)), (h7, .inl (dA 0, 240, .inl mc))]) (poMi D rr [(h0, .inr (10, [.ref h1, .ref h2, .ref h3, .int mi, .ref h4, .int mn, .int q_mt, .ref h5, .int mO, .ref h6, .int mL, .int mA, .int mW, .int mE, .int mF, .ref h7, .int mM])), (h1, .inl (dA 0, 158, .inl ms)), (h2, .inl (dA 0, 158, .inl mb)), (h3, .inl (dA 0, 158, .inl mv)), (h4, .inl (dA 0, 1264, .inl mp)), (h5, .inl (dA 1, 180, .inl mo)), (h6, .inl (dA 1, 60, .inl mI)), (h7, .inl (dA 0, 240, .inl mc))] (va_A [(h0, .inr (10, [.ref h1, .ref h2, .ref h3, .int mi, .ref h4, .int mn, .int mt, .ref h5, .int mO, .ref h6, .int mL, .int mA, .int mW, .int mE, .int mF, .ref h7, .int mM])), (h1, .inl (dA 0, 158, .inl ms)), (h2, .inl (dA 0, 158, .inl mb)), (h3, .inl (dA 0, 158, .inl mv)), (h4, .inl (dA 0, 1264, .inl mp)), (h5, .inl (dA 1, 180, .inl mo)), (h6, .inl (dA 1, 60, .inl mI)), (h7, .inl (dA 0, 240, .inl mc))] sz)) 0 0 (va_A [(h0, .inr (10, [.ref h1, .ref h2, .ref h3, .int mi, .ref h4, .int mn, .int mt, .ref h5, .int mO, .ref h6, .int mL, .int mA, .int mW, .int mE, .int mF, .ref h7, .int mM])), (h1, .inl (dA 0, 158, .inl ms)), (h2, .inl (dA 0, 158, .inl mb)), (h3, .inl (dA 0, 158, .inl mv)), (h4, .inl (dA 0, 1264, .inl mp)), (h5, .inl (dA 1, 180, .inl mo)), (h6, .inl (dA 1, 60, .inl mI)), (h7, .inl (dA 0, 240, .inl mc))] sz) := by
  refine of_M (y := yX12_finishedGuest) (av := [.ref h0, .int p0]) (ws := [(h0, .inr (10, [.ref h1, .ref h2, .ref h3, .int mi, .ref h4, .int mn, .int mt, .ref h5, .int mO, .ref h6, .int mL, .int mA, .int mW, .int mE, .int mF, .ref h7, .int mM])), (h1, .inl (dA 0, 158, .inl ms)), (h2, .inl (dA 0, 158, .inl mb)), (h3, .inl (dA 0, 158, .inl mv)), (h4, .inl (dA 0, 1264, .inl mp)), (h5, .inl (dA 1, 180, .inl mo)), (h6, .inl (dA 1, 60, .inl mI)), (h7, .inl (dA 0, 240, .inl mc))]) (sz := sz) (own := RX12) (Qc := poMi D rr [(h0, .inr (10, [.ref h1, .ref h2, .ref h3, .int mi, .ref h4, .int mn, .int q_mt, .ref h5, .int mO, .ref h6, .int mL, .int mA, .int mW, .int mE, .int mF, .ref h7, .int mM])), (h1, .inl (dA 0, 158, .inl ms)), (h2, .inl (dA 0, 158, .inl mb)), (h3, .inl (dA 0, 158, .inl mv)), (h4, .inl (dA 0, 1264, .inl mp)), (h5, .inl (dA 1, 180, .inl mo)), (h6, .inl (dA 1, 60, .inl mI)), (h7, .inl (dA 0, 240, .inl mc))]) (by decide) rfl (Nat.le_of_ble_eq_true rfl) ?_
  intro p e s m below meth c A hx hb hr ha hown hml hlocks hin hP hK hD hS hA ls hl
  have hl : lv_has ls 2 [(0, .ref h0), (1, .int p0)] := hl
  rw [f_X12_finishedGuest] at hf
  refine lv_aload_n hx hb dX12_finishedGuest_0 rfl (lv_at hl 0 rfl) ?_
  refine lv_iload_n hx hb dX12_finishedGuest_1 rfl (lv_at hl 1 rfl) ?_
  refine lv_iconst (v := 0) hx hb dX12_finishedGuest_2 (by decide) ?_
  obtain ⟨r_1, x_2, hc2, hf⟩ := sf_c2e hf
  refine k_Mi (wr := []) (run_MV (As := [.int p0, .int (0 : Int32)]) (rest := []) ⟨hx, hb, hml, hown, ha⟩ (c_X12_finish l D dA h0 h1 h2 h3 h4 h5 h6 h7 _ ms mb mv mi mp mn mt mo mO mI mL mA mW mE mF mc mM p0 (0 : Int32) _ _ hc2) (gi_V m_1971 m_1973 m_61 m_85 m_1974) yd_X12_finish ⟨Nat.le_of_ble_eq_true rfl, Nat.le_of_ble_eq_true rfl⟩ ⟨rfl, rfl⟩ hK hP hD [0, 1, 2, 3, 4, 5, 6, 7] (by decide) rfl 0 10 rfl rfl rfl rfl hl.1 rfl (Nat.le_of_ble_eq_true rfl) dX12_finishedGuest_3 ⟨Nat.le_of_ble_eq_true rfl, Nat.le_of_ble_eq_true rfl⟩) hP hD hS hA [0, 1, 2, 3, 4, 5, 6, 7] [] rfl rfl (by decide) (by decide) (fun H locs hP hD hS => ?_)
  cases hf
  exact rt_Mi hx hb hr hlocks (hP.sub [0, 1, 2, 3, 4, 5, 6, 7] rfl) (hD.sub [0, 1, 2, 3, 4, 5, 6, 7] (by decide) rfl) hS dX12_finishedGuest_6

def f_X12_finishedSlide (ms : Nat → Int32) (mt : Int32) (p0 : Int32) : Option (Int32 × Int32) :=
  sf_c2 (f_X12_finish ms mt p0 (1 : Int32)) (fun r_1 x_2 => some (r_1, x_2))
theorem yd_X12_finishedSlide : yX12_finishedSlide.cls = RX12 ∧ yX12_finishedSlide.cls ≠ "java/lang/invoke/MethodHandle" ∧ yX12_finishedSlide.cls ≠ "java/lang/invoke/VarHandle" ∧ (parseMethodDescriptor yX12_finishedSlide.desc).map (fun d => d.parameters.length) = some 1 := ⟨rfl, by decide, by decide, by decide +kernel⟩
set_option maxRecDepth 100000 in
set_option maxHeartbeats 4000000 in
theorem c_X12_finishedSlide (l : Launch) (D : va_G) (dA : Nat → ClassId) (h0 h1 h2 h3 h4 h5 h6 h7 : Nat) (sz : Nat) (ms : Nat → Int32) (mb : Nat → Int32) (mv : Nat → Int32) (mi : Int32) (mp : Nat → Int32) (mn : Int32) (mt : Int32) (mo : Nat → Int32) (mO : Int32) (mI : Nat → Int32) (mL : Int32) (mA : Int32) (mW : Int32) (mE : Int32) (mF : Int32) (mc : Nat → Int32) (mM : Int32) (p0 : Int32) (rr : Int32) (q_mt : Int32) (hf : f_X12_finishedSlide ms mt p0 = some (rr, q_mt)) : Met l yX12_finishedSlide (wo (.code yX12_finishedSlide cX12_finishedSlide 2 (some .int))) ({ frames := 2, cells := 0, slots := 0, locals := 44 } : Room) (preM D dA [.ref h0, .int p0] sz [(h0, .inr (10, [.ref h1, .ref h2, .ref h3, .int mi, .ref h4, .int mn, .int mt, .ref h5, .int mO, .ref h6, .int mL, .int mA, .int mW, .int mE, .int mF, .ref h7, .int mM])), (h1, .inl (dA 0, 158, .inl ms)), (h2, .inl (dA 0, 158, .inl mb)), (h3, .inl (dA 0, 158, .inl mv)), (h4, .inl (dA 0, 1264, .inl mp)), (h5, .inl (dA 1, 180, .inl mo)), (h6, .inl (dA 1, 60, .inl mI)), (h7, .inl (dA 0, 240, .inl mc))]) (poMi D rr [(h0, .inr (10, [.ref h1, .ref h2, .ref h3, .int mi, .ref h4, .int mn, .int q_mt, .ref h5, .int mO, .ref h6, .int mL, .int mA, .int mW, .int mE, .int mF, .ref h7, .int mM])), (h1, .inl (dA 0, 158, .inl ms)), (h2, .inl (dA 0, 158, .inl mb)), (h3, .inl (dA 0, 158, .inl mv)), (h4, .inl (dA 0, 1264, .inl mp)), (h5, .inl (dA 1, 180, .inl mo)), (h6, .inl (dA 1, 60, .inl mI)), (h7, .inl (dA 0, 240, .inl mc))] (va_A [(h0, .inr (10, [.ref h1, .ref h2, .ref h3, .int mi, .ref h4, .int mn, .int mt, .ref h5, .int mO, .ref h6, .int mL, .int mA, .int mW, .int mE, .int mF, .ref h7, .int mM])), (h1, .inl (dA 0, 158, .inl ms)), (h2, .inl (dA 0, 158, .inl mb)), (h3, .inl (dA 0, 158, .inl mv)), (h4, .inl (dA 0, 1264, .inl mp)), (h5, .inl (dA 1, 180, .inl mo)), (h6, .inl (dA 1, 60, .inl mI)), (h7, .inl (dA 0, 240, .inl mc))] sz)) 0 0 (va_A [(h0, .inr (10, [.ref h1, .ref h2, .ref h3, .int mi, .ref h4, .int mn, .int mt, .ref h5, .int mO, .ref h6, .int mL, .int mA, .int mW, .int mE, .int mF, .ref h7, .int mM])), (h1, .inl (dA 0, 158, .inl ms)), (h2, .inl (dA 0, 158, .inl mb)), (h3, .inl (dA 0, 158, .inl mv)), (h4, .inl (dA 0, 1264, .inl mp)), (h5, .inl (dA 1, 180, .inl mo)), (h6, .inl (dA 1, 60, .inl mI)), (h7, .inl (dA 0, 240, .inl mc))] sz) := by
  refine of_M (y := yX12_finishedSlide) (av := [.ref h0, .int p0]) (ws := [(h0, .inr (10, [.ref h1, .ref h2, .ref h3, .int mi, .ref h4, .int mn, .int mt, .ref h5, .int mO, .ref h6, .int mL, .int mA, .int mW, .int mE, .int mF, .ref h7, .int mM])), (h1, .inl (dA 0, 158, .inl ms)), (h2, .inl (dA 0, 158, .inl mb)), (h3, .inl (dA 0, 158, .inl mv)), (h4, .inl (dA 0, 1264, .inl mp)), (h5, .inl (dA 1, 180, .inl mo)), (h6, .inl (dA 1, 60, .inl mI)), (h7, .inl (dA 0, 240, .inl mc))]) (sz := sz) (own := RX12) (Qc := poMi D rr [(h0, .inr (10, [.ref h1, .ref h2, .ref h3, .int mi, .ref h4, .int mn, .int q_mt, .ref h5, .int mO, .ref h6, .int mL, .int mA, .int mW, .int mE, .int mF, .ref h7, .int mM])), (h1, .inl (dA 0, 158, .inl ms)), (h2, .inl (dA 0, 158, .inl mb)), (h3, .inl (dA 0, 158, .inl mv)), (h4, .inl (dA 0, 1264, .inl mp)), (h5, .inl (dA 1, 180, .inl mo)), (h6, .inl (dA 1, 60, .inl mI)), (h7, .inl (dA 0, 240, .inl mc))]) (by decide) rfl (Nat.le_of_ble_eq_true rfl) ?_
  intro p e s m below meth c A hx hb hr ha hown hml hlocks hin hP hK hD hS hA ls hl
  have hl : lv_has ls 2 [(0, .ref h0), (1, .int p0)] := hl
  rw [f_X12_finishedSlide] at hf
  refine lv_aload_n hx hb dX12_finishedSlide_0 rfl (lv_at hl 0 rfl) ?_
  refine lv_iload_n hx hb dX12_finishedSlide_1 rfl (lv_at hl 1 rfl) ?_
  refine lv_iconst (v := 1) hx hb dX12_finishedSlide_2 (by decide) ?_
  obtain ⟨r_1, x_2, hc2, hf⟩ := sf_c2e hf
  refine k_Mi (wr := []) (run_MV (As := [.int p0, .int (1 : Int32)]) (rest := []) ⟨hx, hb, hml, hown, ha⟩ (c_X12_finish l D dA h0 h1 h2 h3 h4 h5 h6 h7 _ ms mb mv mi mp mn mt mo mO mI mL mA mW mE mF mc mM p0 (1 : Int32) _ _ hc2) (gi_V m_1971 m_1973 m_61 m_85 m_1974) yd_X12_finish ⟨Nat.le_of_ble_eq_true rfl, Nat.le_of_ble_eq_true rfl⟩ ⟨rfl, rfl⟩ hK hP hD [0, 1, 2, 3, 4, 5, 6, 7] (by decide) rfl 0 10 rfl rfl rfl rfl hl.1 rfl (Nat.le_of_ble_eq_true rfl) dX12_finishedSlide_3 ⟨Nat.le_of_ble_eq_true rfl, Nat.le_of_ble_eq_true rfl⟩) hP hD hS hA [0, 1, 2, 3, 4, 5, 6, 7] [] rfl rfl (by decide) (by decide) (fun H locs hP hD hS => ?_)
  cases hf
  exact rt_Mi hx hb hr hlocks (hP.sub [0, 1, 2, 3, 4, 5, 6, 7] rfl) (hD.sub [0, 1, 2, 3, 4, 5, 6, 7] (by decide) rfl) hS dX12_finishedSlide_6

def f_X12_finishMinute (ms : Nat → Int32) (mt : Int32) (p0 : Int32) : Option (Int32 × Int32) :=
  sf_c2 (f_X12_finish ms mt p0 (2 : Int32)) (fun r_1 x_2 => some (r_1, x_2))
theorem yd_X12_finishMinute : yX12_finishMinute.cls = RX12 ∧ yX12_finishMinute.cls ≠ "java/lang/invoke/MethodHandle" ∧ yX12_finishMinute.cls ≠ "java/lang/invoke/VarHandle" ∧ (parseMethodDescriptor yX12_finishMinute.desc).map (fun d => d.parameters.length) = some 1 := ⟨rfl, by decide, by decide, by decide +kernel⟩
set_option maxRecDepth 100000 in
set_option maxHeartbeats 4000000 in
theorem c_X12_finishMinute (l : Launch) (D : va_G) (dA : Nat → ClassId) (h0 h1 h2 h3 h4 h5 h6 h7 : Nat) (sz : Nat) (ms : Nat → Int32) (mb : Nat → Int32) (mv : Nat → Int32) (mi : Int32) (mp : Nat → Int32) (mn : Int32) (mt : Int32) (mo : Nat → Int32) (mO : Int32) (mI : Nat → Int32) (mL : Int32) (mA : Int32) (mW : Int32) (mE : Int32) (mF : Int32) (mc : Nat → Int32) (mM : Int32) (p0 : Int32) (rr : Int32) (q_mt : Int32) (hf : f_X12_finishMinute ms mt p0 = some (rr, q_mt)) : Met l yX12_finishMinute (wo (.code yX12_finishMinute cX12_finishMinute 2 (some .int))) ({ frames := 2, cells := 0, slots := 0, locals := 44 } : Room) (preM D dA [.ref h0, .int p0] sz [(h0, .inr (10, [.ref h1, .ref h2, .ref h3, .int mi, .ref h4, .int mn, .int mt, .ref h5, .int mO, .ref h6, .int mL, .int mA, .int mW, .int mE, .int mF, .ref h7, .int mM])), (h1, .inl (dA 0, 158, .inl ms)), (h2, .inl (dA 0, 158, .inl mb)), (h3, .inl (dA 0, 158, .inl mv)), (h4, .inl (dA 0, 1264, .inl mp)), (h5, .inl (dA 1, 180, .inl mo)), (h6, .inl (dA 1, 60, .inl mI)), (h7, .inl (dA 0, 240, .inl mc))]) (poMi D rr [(h0, .inr (10, [.ref h1, .ref h2, .ref h3, .int mi, .ref h4, .int mn, .int q_mt, .ref h5, .int mO, .ref h6, .int mL, .int mA, .int mW, .int mE, .int mF, .ref h7, .int mM])), (h1, .inl (dA 0, 158, .inl ms)), (h2, .inl (dA 0, 158, .inl mb)), (h3, .inl (dA 0, 158, .inl mv)), (h4, .inl (dA 0, 1264, .inl mp)), (h5, .inl (dA 1, 180, .inl mo)), (h6, .inl (dA 1, 60, .inl mI)), (h7, .inl (dA 0, 240, .inl mc))] (va_A [(h0, .inr (10, [.ref h1, .ref h2, .ref h3, .int mi, .ref h4, .int mn, .int mt, .ref h5, .int mO, .ref h6, .int mL, .int mA, .int mW, .int mE, .int mF, .ref h7, .int mM])), (h1, .inl (dA 0, 158, .inl ms)), (h2, .inl (dA 0, 158, .inl mb)), (h3, .inl (dA 0, 158, .inl mv)), (h4, .inl (dA 0, 1264, .inl mp)), (h5, .inl (dA 1, 180, .inl mo)), (h6, .inl (dA 1, 60, .inl mI)), (h7, .inl (dA 0, 240, .inl mc))] sz)) 0 0 (va_A [(h0, .inr (10, [.ref h1, .ref h2, .ref h3, .int mi, .ref h4, .int mn, .int mt, .ref h5, .int mO, .ref h6, .int mL, .int mA, .int mW, .int mE, .int mF, .ref h7, .int mM])), (h1, .inl (dA 0, 158, .inl ms)), (h2, .inl (dA 0, 158, .inl mb)), (h3, .inl (dA 0, 158, .inl mv)), (h4, .inl (dA 0, 1264, .inl mp)), (h5, .inl (dA 1, 180, .inl mo)), (h6, .inl (dA 1, 60, .inl mI)), (h7, .inl (dA 0, 240, .inl mc))] sz) := by
  refine of_M (y := yX12_finishMinute) (av := [.ref h0, .int p0]) (ws := [(h0, .inr (10, [.ref h1, .ref h2, .ref h3, .int mi, .ref h4, .int mn, .int mt, .ref h5, .int mO, .ref h6, .int mL, .int mA, .int mW, .int mE, .int mF, .ref h7, .int mM])), (h1, .inl (dA 0, 158, .inl ms)), (h2, .inl (dA 0, 158, .inl mb)), (h3, .inl (dA 0, 158, .inl mv)), (h4, .inl (dA 0, 1264, .inl mp)), (h5, .inl (dA 1, 180, .inl mo)), (h6, .inl (dA 1, 60, .inl mI)), (h7, .inl (dA 0, 240, .inl mc))]) (sz := sz) (own := RX12) (Qc := poMi D rr [(h0, .inr (10, [.ref h1, .ref h2, .ref h3, .int mi, .ref h4, .int mn, .int q_mt, .ref h5, .int mO, .ref h6, .int mL, .int mA, .int mW, .int mE, .int mF, .ref h7, .int mM])), (h1, .inl (dA 0, 158, .inl ms)), (h2, .inl (dA 0, 158, .inl mb)), (h3, .inl (dA 0, 158, .inl mv)), (h4, .inl (dA 0, 1264, .inl mp)), (h5, .inl (dA 1, 180, .inl mo)), (h6, .inl (dA 1, 60, .inl mI)), (h7, .inl (dA 0, 240, .inl mc))]) (by decide) rfl (Nat.le_of_ble_eq_true rfl) ?_
  intro p e s m below meth c A hx hb hr ha hown hml hlocks hin hP hK hD hS hA ls hl
  have hl : lv_has ls 2 [(0, .ref h0), (1, .int p0)] := hl
  rw [f_X12_finishMinute] at hf
  refine lv_aload_n hx hb dX12_finishMinute_0 rfl (lv_at hl 0 rfl) ?_
  refine lv_iload_n hx hb dX12_finishMinute_1 rfl (lv_at hl 1 rfl) ?_
  refine lv_iconst (v := 2) hx hb dX12_finishMinute_2 (by decide) ?_
  obtain ⟨r_1, x_2, hc2, hf⟩ := sf_c2e hf
  refine k_Mi (wr := []) (run_MV (As := [.int p0, .int (2 : Int32)]) (rest := []) ⟨hx, hb, hml, hown, ha⟩ (c_X12_finish l D dA h0 h1 h2 h3 h4 h5 h6 h7 _ ms mb mv mi mp mn mt mo mO mI mL mA mW mE mF mc mM p0 (2 : Int32) _ _ hc2) (gi_V m_1971 m_1973 m_61 m_85 m_1974) yd_X12_finish ⟨Nat.le_of_ble_eq_true rfl, Nat.le_of_ble_eq_true rfl⟩ ⟨rfl, rfl⟩ hK hP hD [0, 1, 2, 3, 4, 5, 6, 7] (by decide) rfl 0 10 rfl rfl rfl rfl hl.1 rfl (Nat.le_of_ble_eq_true rfl) dX12_finishMinute_3 ⟨Nat.le_of_ble_eq_true rfl, Nat.le_of_ble_eq_true rfl⟩) hP hD hS hA [0, 1, 2, 3, 4, 5, 6, 7] [] rfl rfl (by decide) (by decide) (fun H locs hP hD hS => ?_)
  cases hf
  exact rt_Mi hx hb hr hlocks (hP.sub [0, 1, 2, 3, 4, 5, 6, 7] rfl) (hD.sub [0, 1, 2, 3, 4, 5, 6, 7] (by decide) rfl) hS dX12_finishMinute_6

def f_X12_photoFinishes_L21 (ms : Nat → Int32) (v_1 : Int32) (k : Int32 → Option (Int32 × Int32)) : Nat → Int32 → Int32 → Option (Int32 × Int32)
  | 0, _, _ => none
  | n + 1, v_3, v_4 => sf_b (v_1 ≤ v_3) (k v_4) (sf_g (sf_in (((110 : Int32) + ((3 : Int32) * v_1)) + (2 : Int32)) 158 = true) (sf_g (sf_in (((110 : Int32) + ((3 : Int32) * v_3)) + (2 : Int32)) 158 = true) (sf_b ((ms (((110 : Int32) + ((3 : Int32) * v_1)) + (2 : Int32)).toNatClampNeg) = (ms (((110 : Int32) + ((3 : Int32) * v_3)) + (2 : Int32)).toNatClampNeg)) (sf_n ((v_4 + (1 : Int32))) (fun x_7 => sf_n (v_3 + (1 : Int32)) (fun x_8 => f_X12_photoFinishes_L21 ms v_1 k n x_8 x_7))) (sf_n ((v_4 + (0 : Int32))) (fun x_5 => sf_n (v_3 + (1 : Int32)) (fun x_6 => f_X12_photoFinishes_L21 ms v_1 k n x_6 x_5))))))
def f_X12_photoFinishes_L9 (ms : Nat → Int32) (k : Int32 → Option (Int32 × Int32)) : Nat → Int32 → Int32 → Option (Int32 × Int32)
  | 0, _, _ => none
  | n + 1, v_1, v_2 => sf_g (sf_in (4 : Int32) 158 = true) (sf_b ((ms (4 : Int32).toNatClampNeg) ≤ v_1) (k v_2) (f_X12_photoFinishes_L21 ms v_1 (fun y_9 => sf_n (v_1 + (1 : Int32)) (fun x_10 => f_X12_photoFinishes_L9 ms k n x_10 y_9)) 2000 (0 : Int32) v_2))
def f_X12_photoFinishes (ms : Nat → Int32) (mt : Int32) : Option (Int32 × Int32) :=
  f_X12_photoFinishes_L9 ms (fun y_11 => some (y_11, (0 : Int32))) 2000 (0 : Int32) (0 : Int32)
theorem yd_X12_photoFinishes : yX12_photoFinishes.cls = RX12 ∧ yX12_photoFinishes.cls ≠ "java/lang/invoke/MethodHandle" ∧ yX12_photoFinishes.cls ≠ "java/lang/invoke/VarHandle" ∧ (parseMethodDescriptor yX12_photoFinishes.desc).map (fun d => d.parameters.length) = some 0 := ⟨rfl, by decide, by decide, by decide +kernel⟩
set_option maxRecDepth 100000 in
set_option maxHeartbeats 4000000 in
theorem c_X12_photoFinishes (l : Launch) (D : va_G) (dA : Nat → ClassId) (h0 h1 h2 h3 h4 h5 h6 h7 : Nat) (sz : Nat) (ms : Nat → Int32) (mb : Nat → Int32) (mv : Nat → Int32) (mi : Int32) (mp : Nat → Int32) (mn : Int32) (mt : Int32) (mo : Nat → Int32) (mO : Int32) (mI : Nat → Int32) (mL : Int32) (mA : Int32) (mW : Int32) (mE : Int32) (mF : Int32) (mc : Nat → Int32) (mM : Int32) (rr : Int32) (q_mt : Int32) (hf : f_X12_photoFinishes ms mt = some (rr, q_mt)) : Met l yX12_photoFinishes (wo (.code yX12_photoFinishes cX12_photoFinishes 4 (some .int))) ({ frames := 0, cells := 0, slots := 0, locals := 0 } : Room) (preM D dA [.ref h0] sz [(h0, .inr (10, [.ref h1, .ref h2, .ref h3, .int mi, .ref h4, .int mn, .int mt, .ref h5, .int mO, .ref h6, .int mL, .int mA, .int mW, .int mE, .int mF, .ref h7, .int mM])), (h1, .inl (dA 0, 158, .inl ms)), (h2, .inl (dA 0, 158, .inl mb)), (h3, .inl (dA 0, 158, .inl mv)), (h4, .inl (dA 0, 1264, .inl mp)), (h5, .inl (dA 1, 180, .inl mo)), (h6, .inl (dA 1, 60, .inl mI)), (h7, .inl (dA 0, 240, .inl mc))]) (poMi D rr [(h0, .inr (10, [.ref h1, .ref h2, .ref h3, .int mi, .ref h4, .int mn, .int q_mt, .ref h5, .int mO, .ref h6, .int mL, .int mA, .int mW, .int mE, .int mF, .ref h7, .int mM])), (h1, .inl (dA 0, 158, .inl ms)), (h2, .inl (dA 0, 158, .inl mb)), (h3, .inl (dA 0, 158, .inl mv)), (h4, .inl (dA 0, 1264, .inl mp)), (h5, .inl (dA 1, 180, .inl mo)), (h6, .inl (dA 1, 60, .inl mI)), (h7, .inl (dA 0, 240, .inl mc))] (va_A [(h0, .inr (10, [.ref h1, .ref h2, .ref h3, .int mi, .ref h4, .int mn, .int mt, .ref h5, .int mO, .ref h6, .int mL, .int mA, .int mW, .int mE, .int mF, .ref h7, .int mM])), (h1, .inl (dA 0, 158, .inl ms)), (h2, .inl (dA 0, 158, .inl mb)), (h3, .inl (dA 0, 158, .inl mv)), (h4, .inl (dA 0, 1264, .inl mp)), (h5, .inl (dA 1, 180, .inl mo)), (h6, .inl (dA 1, 60, .inl mI)), (h7, .inl (dA 0, 240, .inl mc))] sz)) 0 0 (va_A [(h0, .inr (10, [.ref h1, .ref h2, .ref h3, .int mi, .ref h4, .int mn, .int mt, .ref h5, .int mO, .ref h6, .int mL, .int mA, .int mW, .int mE, .int mF, .ref h7, .int mM])), (h1, .inl (dA 0, 158, .inl ms)), (h2, .inl (dA 0, 158, .inl mb)), (h3, .inl (dA 0, 158, .inl mv)), (h4, .inl (dA 0, 1264, .inl mp)), (h5, .inl (dA 1, 180, .inl mo)), (h6, .inl (dA 1, 60, .inl mI)), (h7, .inl (dA 0, 240, .inl mc))] sz) := by
  refine of_M (y := yX12_photoFinishes) (av := [.ref h0]) (ws := [(h0, .inr (10, [.ref h1, .ref h2, .ref h3, .int mi, .ref h4, .int mn, .int mt, .ref h5, .int mO, .ref h6, .int mL, .int mA, .int mW, .int mE, .int mF, .ref h7, .int mM])), (h1, .inl (dA 0, 158, .inl ms)), (h2, .inl (dA 0, 158, .inl mb)), (h3, .inl (dA 0, 158, .inl mv)), (h4, .inl (dA 0, 1264, .inl mp)), (h5, .inl (dA 1, 180, .inl mo)), (h6, .inl (dA 1, 60, .inl mI)), (h7, .inl (dA 0, 240, .inl mc))]) (sz := sz) (own := RX12) (Qc := poMi D rr [(h0, .inr (10, [.ref h1, .ref h2, .ref h3, .int mi, .ref h4, .int mn, .int q_mt, .ref h5, .int mO, .ref h6, .int mL, .int mA, .int mW, .int mE, .int mF, .ref h7, .int mM])), (h1, .inl (dA 0, 158, .inl ms)), (h2, .inl (dA 0, 158, .inl mb)), (h3, .inl (dA 0, 158, .inl mv)), (h4, .inl (dA 0, 1264, .inl mp)), (h5, .inl (dA 1, 180, .inl mo)), (h6, .inl (dA 1, 60, .inl mI)), (h7, .inl (dA 0, 240, .inl mc))]) (by decide) rfl (Nat.le_of_ble_eq_true rfl) ?_
  intro p e s m below meth c A hx hb hr ha hown hml hlocks hin hP hK hD hS hA ls hl
  have hl : lv_has ls 4 [(0, .ref h0)] := hl
  rw [f_X12_photoFinishes] at hf
  refine lv_aload_n hx hb dX12_photoFinishes_0 rfl (lv_at hl 0 rfl) ?_
  refine lv_iconst (v := 0) hx hb dX12_photoFinishes_1 (by decide) ?_
  refine pt_f (C := RX12) (T := TX12) (N := 17) (ws' := [(h0, .inr (10, [.ref h1, .ref h2, .ref h3, .int mi, .ref h4, .int mn, .int (0 : Int32), .ref h5, .int mO, .ref h6, .int mL, .int mA, .int mW, .int mE, .int mF, .ref h7, .int mM])), (h1, .inl (dA 0, 158, .inl ms)), (h2, .inl (dA 0, 158, .inl mb)), (h3, .inl (dA 0, 158, .inl mv)), (h4, .inl (dA 0, 1264, .inl mp)), (h5, .inl (dA 1, 180, .inl mo)), (h6, .inl (dA 1, 60, .inl mI)), (h7, .inl (dA 0, 240, .inl mc))]) (ty := .int) hx hb ha in_X12 tyX12 tyX12_ok nmX12 hown hK hP hD hS 0 rfl rfl 6 (by decide) m_1655 rfl (tyX12_ok 6 (by decide)) rfl rfl (Nat.le_of_ble_eq_true rfl) rfl dX12_photoFinishes_2 (fun H locs hP hD hS => ?_)
  refine lv_iconst (v := 0) hx hb dX12_photoFinishes_5 (by decide) ?_
  refine lv_istore_n (lv' := [(1, .int (0 : Int32)), (0, .ref h0)]) hx hb dX12_photoFinishes_6 rfl hl (by decide) rfl (fun ls hl => ?_)
  refine lv_iconst (v := 0) hx hb dX12_photoFinishes_7 (by decide) ?_
  refine lv_istore_n (lv' := [(2, .int (0 : Int32)), (1, .int (0 : Int32)), (0, .ref h0)]) hx hb dX12_photoFinishes_8 rfl hl (by decide) rfl (fun ls hl => ?_)
  have hL9 : ∀ (n : Nat) (k : Int32 → Option (Int32 × Int32)) (v_1 : Int32) (v_2 : Int32) (H : Heap) (locs : List Loc) (ls : Array Slot), va_P D cls [(h0, .inr (10, [.ref h1, .ref h2, .ref h3, .int mi, .ref h4, .int mn, .int (0 : Int32), .ref h5, .int mO, .ref h6, .int mL, .int mA, .int mW, .int mE, .int mF, .ref h7, .int mM])), (h1, .inl (dA 0, 158, .inl ms)), (h2, .inl (dA 0, 158, .inl mb)), (h3, .inl (dA 0, 158, .inl mv)), (h4, .inl (dA 0, 1264, .inl mp)), (h5, .inl (dA 1, 180, .inl mo)), (h6, .inl (dA 1, 60, .inl mI)), (h7, .inl (dA 0, 240, .inl mc))] H → va_D A [(h0, .inr (10, [.ref h1, .ref h2, .ref h3, .int mi, .ref h4, .int mn, .int (0 : Int32), .ref h5, .int mO, .ref h6, .int mL, .int mA, .int mW, .int mE, .int mF, .ref h7, .int mM])), (h1, .inl (dA 0, 158, .inl ms)), (h2, .inl (dA 0, 158, .inl mb)), (h3, .inl (dA 0, 158, .inl mv)), (h4, .inl (dA 0, 1264, .inl mp)), (h5, .inl (dA 1, 180, .inl mo)), (h6, .inl (dA 1, 60, .inl mI)), (h7, .inl (dA 0, 240, .inl mc))] → va_S A s.heap H locs → lv_has ls 4 [(2, .int v_1), (1, .int v_2), (0, .ref h0)] → f_X12_photoFinishes_L9 ms k n v_1 v_2 = some (rr, q_mt) → (∀ (y_11 : Int32) (H : Heap) (locs : List Loc) (ls : Array Slot), va_P D cls [(h0, .inr (10, [.ref h1, .ref h2, .ref h3, .int mi, .ref h4, .int mn, .int (0 : Int32), .ref h5, .int mO, .ref h6, .int mL, .int mA, .int mW, .int mE, .int mF, .ref h7, .int mM])), (h1, .inl (dA 0, 158, .inl ms)), (h2, .inl (dA 0, 158, .inl mb)), (h3, .inl (dA 0, 158, .inl mv)), (h4, .inl (dA 0, 1264, .inl mp)), (h5, .inl (dA 1, 180, .inl mo)), (h6, .inl (dA 1, 60, .inl mI)), (h7, .inl (dA 0, 240, .inl mc))] H → va_D A [(h0, .inr (10, [.ref h1, .ref h2, .ref h3, .int mi, .ref h4, .int mn, .int (0 : Int32), .ref h5, .int mO, .ref h6, .int mL, .int mA, .int mW, .int mE, .int mF, .ref h7, .int mM])), (h1, .inl (dA 0, 158, .inl ms)), (h2, .inl (dA 0, 158, .inl mb)), (h3, .inl (dA 0, 158, .inl mv)), (h4, .inl (dA 0, 1264, .inl mp)), (h5, .inl (dA 1, 180, .inl mo)), (h6, .inl (dA 1, 60, .inl mI)), (h7, .inl (dA 0, 240, .inl mc))] → va_S A s.heap H locs → lv_has ls 4 [(1, .int y_11)] → k y_11 = some (rr, q_mt) → W p l e ({ frames := 0, cells := 0, slots := 0, locals := 0 } : Room) s m ([.ref h0] : List Value).toArray below meth c H locs 0 0 (MQ below (poMi D rr [(h0, .inr (10, [.ref h1, .ref h2, .ref h3, .int mi, .ref h4, .int mn, .int q_mt, .ref h5, .int mO, .ref h6, .int mL, .int mA, .int mW, .int mE, .int mF, .ref h7, .int mM])), (h1, .inl (dA 0, 158, .inl ms)), (h2, .inl (dA 0, 158, .inl mb)), (h3, .inl (dA 0, 158, .inl mv)), (h4, .inl (dA 0, 1264, .inl mp)), (h5, .inl (dA 1, 180, .inl mo)), (h6, .inl (dA 1, 60, .inl mI)), (h7, .inl (dA 0, 240, .inl mc))] A) ([.ref h0] : List Value).toArray s 0 0 A) (F0 m 75 ls [])) → W p l e ({ frames := 0, cells := 0, slots := 0, locals := 0 } : Room) s m ([.ref h0] : List Value).toArray below meth c H locs 0 0 (MQ below (poMi D rr [(h0, .inr (10, [.ref h1, .ref h2, .ref h3, .int mi, .ref h4, .int mn, .int q_mt, .ref h5, .int mO, .ref h6, .int mL, .int mA, .int mW, .int mE, .int mF, .ref h7, .int mM])), (h1, .inl (dA 0, 158, .inl ms)), (h2, .inl (dA 0, 158, .inl mb)), (h3, .inl (dA 0, 158, .inl mv)), (h4, .inl (dA 0, 1264, .inl mp)), (h5, .inl (dA 1, 180, .inl mo)), (h6, .inl (dA 1, 60, .inl mI)), (h7, .inl (dA 0, 240, .inl mc))] A) ([.ref h0] : List Value).toArray s 0 0 A) (F0 m 9 ls []) := by
    intro n k
    induction n with
    | zero =>
      intro v_1 v_2 H locs ls hP hD hS hl hf hk
      rw [f_X12_photoFinishes_L9] at hf
      cases hf
    | succ n ih =>
      intro v_1 v_2 H locs ls hP hD hS hl hf hk
      rw [f_X12_photoFinishes_L9] at hf
      refine lv_iload_n hx hb dX12_photoFinishes_9 rfl (lv_at hl 0 rfl) ?_
      refine lv_aload_n hx hb dX12_photoFinishes_10 rfl (lv_at hl 2 rfl) ?_
      refine gt_f (C := RX12) (T := TX12) (N := 17) hx hb ha in_X12 hown hK hP 0 rfl rfl 0 (by decide) m_1649 rfl dX12_photoFinishes_11 ?_
      refine lv_iconst (v := 4) hx hb dX12_photoFinishes_14 (by decide) ?_
      obtain ⟨hi, hf⟩ := sf_ge hf
      refine ia_ld hx hb hK hP 1 rfl hi dX12_photoFinishes_15 ?_
      refine lv_icmp_ge (tgt := 75) hx hb dX12_photoFinishes_16 (by decide) (fun hc => ?_) (fun hc => ?_)
      · have hf := sf_bp hf hc
        exact hk _ _ _ _ (hP.sub [0, 1, 2, 3, 4, 5, 6, 7] rfl) (hD.sub [0, 1, 2, 3, 4, 5, 6, 7] (by decide) rfl) hS (lv_sub hl [1] rfl) hf
      · have hf := sf_bn hf hc
        refine lv_iconst (v := 0) hx hb dX12_photoFinishes_19 (by decide) ?_
        refine lv_istore_n (lv' := [(3, .int (0 : Int32)), (2, .int v_1), (1, .int v_2), (0, .ref h0)]) hx hb dX12_photoFinishes_20 rfl hl (by decide) rfl (fun ls hl => ?_)
        have hL21 : ∀ (n : Nat) (k : Int32 → Option (Int32 × Int32)) (v_3 : Int32) (v_4 : Int32) (H : Heap) (locs : List Loc) (ls : Array Slot), va_P D cls [(h0, .inr (10, [.ref h1, .ref h2, .ref h3, .int mi, .ref h4, .int mn, .int (0 : Int32), .ref h5, .int mO, .ref h6, .int mL, .int mA, .int mW, .int mE, .int mF, .ref h7, .int mM])), (h1, .inl (dA 0, 158, .inl ms)), (h2, .inl (dA 0, 158, .inl mb)), (h3, .inl (dA 0, 158, .inl mv)), (h4, .inl (dA 0, 1264, .inl mp)), (h5, .inl (dA 1, 180, .inl mo)), (h6, .inl (dA 1, 60, .inl mI)), (h7, .inl (dA 0, 240, .inl mc))] H → va_D A [(h0, .inr (10, [.ref h1, .ref h2, .ref h3, .int mi, .ref h4, .int mn, .int (0 : Int32), .ref h5, .int mO, .ref h6, .int mL, .int mA, .int mW, .int mE, .int mF, .ref h7, .int mM])), (h1, .inl (dA 0, 158, .inl ms)), (h2, .inl (dA 0, 158, .inl mb)), (h3, .inl (dA 0, 158, .inl mv)), (h4, .inl (dA 0, 1264, .inl mp)), (h5, .inl (dA 1, 180, .inl mo)), (h6, .inl (dA 1, 60, .inl mI)), (h7, .inl (dA 0, 240, .inl mc))] → va_S A s.heap H locs → lv_has ls 4 [(3, .int v_3), (2, .int v_1), (1, .int v_4), (0, .ref h0)] → f_X12_photoFinishes_L21 ms v_1 k n v_3 v_4 = some (rr, q_mt) → (∀ (y_9 : Int32) (H : Heap) (locs : List Loc) (ls : Array Slot), va_P D cls [(h0, .inr (10, [.ref h1, .ref h2, .ref h3, .int mi, .ref h4, .int mn, .int (0 : Int32), .ref h5, .int mO, .ref h6, .int mL, .int mA, .int mW, .int mE, .int mF, .ref h7, .int mM])), (h1, .inl (dA 0, 158, .inl ms)), (h2, .inl (dA 0, 158, .inl mb)), (h3, .inl (dA 0, 158, .inl mv)), (h4, .inl (dA 0, 1264, .inl mp)), (h5, .inl (dA 1, 180, .inl mo)), (h6, .inl (dA 1, 60, .inl mI)), (h7, .inl (dA 0, 240, .inl mc))] H → va_D A [(h0, .inr (10, [.ref h1, .ref h2, .ref h3, .int mi, .ref h4, .int mn, .int (0 : Int32), .ref h5, .int mO, .ref h6, .int mL, .int mA, .int mW, .int mE, .int mF, .ref h7, .int mM])), (h1, .inl (dA 0, 158, .inl ms)), (h2, .inl (dA 0, 158, .inl mb)), (h3, .inl (dA 0, 158, .inl mv)), (h4, .inl (dA 0, 1264, .inl mp)), (h5, .inl (dA 1, 180, .inl mo)), (h6, .inl (dA 1, 60, .inl mI)), (h7, .inl (dA 0, 240, .inl mc))] → va_S A s.heap H locs → lv_has ls 4 [(2, .int v_1), (1, .int y_9), (0, .ref h0)] → k y_9 = some (rr, q_mt) → W p l e ({ frames := 0, cells := 0, slots := 0, locals := 0 } : Room) s m ([.ref h0] : List Value).toArray below meth c H locs 0 0 (MQ below (poMi D rr [(h0, .inr (10, [.ref h1, .ref h2, .ref h3, .int mi, .ref h4, .int mn, .int q_mt, .ref h5, .int mO, .ref h6, .int mL, .int mA, .int mW, .int mE, .int mF, .ref h7, .int mM])), (h1, .inl (dA 0, 158, .inl ms)), (h2, .inl (dA 0, 158, .inl mb)), (h3, .inl (dA 0, 158, .inl mv)), (h4, .inl (dA 0, 1264, .inl mp)), (h5, .inl (dA 1, 180, .inl mo)), (h6, .inl (dA 1, 60, .inl mI)), (h7, .inl (dA 0, 240, .inl mc))] A) ([.ref h0] : List Value).toArray s 0 0 A) (F0 m 69 ls [])) → W p l e ({ frames := 0, cells := 0, slots := 0, locals := 0 } : Room) s m ([.ref h0] : List Value).toArray below meth c H locs 0 0 (MQ below (poMi D rr [(h0, .inr (10, [.ref h1, .ref h2, .ref h3, .int mi, .ref h4, .int mn, .int q_mt, .ref h5, .int mO, .ref h6, .int mL, .int mA, .int mW, .int mE, .int mF, .ref h7, .int mM])), (h1, .inl (dA 0, 158, .inl ms)), (h2, .inl (dA 0, 158, .inl mb)), (h3, .inl (dA 0, 158, .inl mv)), (h4, .inl (dA 0, 1264, .inl mp)), (h5, .inl (dA 1, 180, .inl mo)), (h6, .inl (dA 1, 60, .inl mI)), (h7, .inl (dA 0, 240, .inl mc))] A) ([.ref h0] : List Value).toArray s 0 0 A) (F0 m 21 ls []) := by
          intro n k
          induction n with
          | zero =>
            intro v_3 v_4 H locs ls hP hD hS hl hf hk
            rw [f_X12_photoFinishes_L21] at hf
            cases hf
          | succ n ih =>
            intro v_3 v_4 H locs ls hP hD hS hl hf hk
            rw [f_X12_photoFinishes_L21] at hf
            refine lv_iload_n hx hb dX12_photoFinishes_21 rfl (lv_at hl 0 rfl) ?_
            refine lv_iload_n hx hb dX12_photoFinishes_22 rfl (lv_at hl 1 rfl) ?_
            refine lv_icmp_ge (tgt := 69) hx hb dX12_photoFinishes_23 (by decide) (fun hc => ?_) (fun hc => ?_)
            · have hf := sf_bp hf hc
              exact hk _ _ _ _ (hP.sub [0, 1, 2, 3, 4, 5, 6, 7] rfl) (hD.sub [0, 1, 2, 3, 4, 5, 6, 7] (by decide) rfl) hS (lv_sub hl [1, 2, 3] rfl) hf
            · have hf := sf_bn hf hc
              refine lv_iload_n hx hb dX12_photoFinishes_26 rfl (lv_at hl 2 rfl) ?_
              refine lv_aload_n hx hb dX12_photoFinishes_27 rfl (lv_at hl 3 rfl) ?_
              refine gt_f (C := RX12) (T := TX12) (N := 17) hx hb ha in_X12 hown hK hP 0 rfl rfl 0 (by decide) m_1649 rfl dX12_photoFinishes_28 ?_
              refine lv_bipush (v := 110) hx hb dX12_photoFinishes_31 (by decide) ?_
              refine lv_iconst (v := 3) hx hb dX12_photoFinishes_33 (by decide) ?_
              refine lv_iload_n hx hb dX12_photoFinishes_34 rfl (lv_at hl 1 rfl) ?_
              refine lv_imul hx hb dX12_photoFinishes_35 ?_
              refine lv_iadd hx hb dX12_photoFinishes_36 ?_
              refine lv_iconst (v := 2) hx hb dX12_photoFinishes_37 (by decide) ?_
              refine lv_iadd hx hb dX12_photoFinishes_38 ?_
              obtain ⟨hi, hf⟩ := sf_ge hf
              refine ia_ld hx hb hK hP 1 rfl hi dX12_photoFinishes_39 ?_
              refine lv_aload_n hx hb dX12_photoFinishes_40 rfl (lv_at hl 3 rfl) ?_
              refine gt_f (C := RX12) (T := TX12) (N := 17) hx hb ha in_X12 hown hK hP 0 rfl rfl 0 (by decide) m_1649 rfl dX12_photoFinishes_41 ?_
              refine lv_bipush (v := 110) hx hb dX12_photoFinishes_44 (by decide) ?_
              refine lv_iconst (v := 3) hx hb dX12_photoFinishes_46 (by decide) ?_
              refine lv_iload_n hx hb dX12_photoFinishes_47 rfl (lv_at hl 0 rfl) ?_
              refine lv_imul hx hb dX12_photoFinishes_48 ?_
              refine lv_iadd hx hb dX12_photoFinishes_49 ?_
              refine lv_iconst (v := 2) hx hb dX12_photoFinishes_50 (by decide) ?_
              refine lv_iadd hx hb dX12_photoFinishes_51 ?_
              obtain ⟨hi, hf⟩ := sf_ge hf
              refine ia_ld hx hb hK hP 1 rfl hi dX12_photoFinishes_52 ?_
              refine lv_icmp_ne (tgt := 60) hx hb dX12_photoFinishes_53 (by decide) (fun hc => ?_) (fun hc => ?_)
              · have hf := sf_bn hf hc
                refine lv_iconst (v := 0) hx hb dX12_photoFinishes_60 (by decide) ?_
                refine lv_iadd hx hb dX12_photoFinishes_61 ?_
                obtain ⟨x_5, ex_5, hf⟩ := sf_ne hf
                refine tp_i ex_5 ?_
                refine lv_istore_n (lv' := [(1, .int x_5), (3, .int v_3), (2, .int v_1), (0, .ref h0)]) hx hb dX12_photoFinishes_62 rfl hl (by decide) rfl (fun ls hl => ?_)
                obtain ⟨x_6, ex_6, hf⟩ := sf_ne hf
                refine ii_nc (lv' := [(3, .int x_6), (1, .int x_5), (2, .int v_1), (0, .ref h0)]) (k := 1) hx hb dX12_photoFinishes_63 hl rfl ex_6 (by decide) (by decide) rfl (fun ls hl => ?_)
                refine lv_goto (tgt := 21) hx hb dX12_photoFinishes_66 (by decide) ?_
                exact ih _ _ _ _ _ (hP.sub [0, 1, 2, 3, 4, 5, 6, 7] rfl) (hD.sub [0, 1, 2, 3, 4, 5, 6, 7] (by decide) rfl) hS (lv_sub hl [0, 2, 1, 3] rfl) hf hk
              · have hf := sf_bp hf hc
                refine lv_iconst (v := 1) hx hb dX12_photoFinishes_56 (by decide) ?_
                refine lv_goto (tgt := 61) hx hb dX12_photoFinishes_57 (by decide) ?_
                refine lv_iadd hx hb dX12_photoFinishes_61 ?_
                obtain ⟨x_7, ex_7, hf⟩ := sf_ne hf
                refine tp_i ex_7 ?_
                refine lv_istore_n (lv' := [(1, .int x_7), (3, .int v_3), (2, .int v_1), (0, .ref h0)]) hx hb dX12_photoFinishes_62 rfl hl (by decide) rfl (fun ls hl => ?_)
                obtain ⟨x_8, ex_8, hf⟩ := sf_ne hf
                refine ii_nc (lv' := [(3, .int x_8), (1, .int x_7), (2, .int v_1), (0, .ref h0)]) (k := 1) hx hb dX12_photoFinishes_63 hl rfl ex_8 (by decide) (by decide) rfl (fun ls hl => ?_)
                refine lv_goto (tgt := 21) hx hb dX12_photoFinishes_66 (by decide) ?_
                exact ih _ _ _ _ _ (hP.sub [0, 1, 2, 3, 4, 5, 6, 7] rfl) (hD.sub [0, 1, 2, 3, 4, 5, 6, 7] (by decide) rfl) hS (lv_sub hl [0, 2, 1, 3] rfl) hf hk
        refine hL21 _ _ _ _ _ _ _ hP hD hS (lv_sub hl [0, 1, 2, 3] rfl) hf (fun y_9 H locs ls hP hD hS hl hf => ?_)
        obtain ⟨x_10, ex_10, hf⟩ := sf_ne hf
        refine ii_nc (lv' := [(2, .int x_10), (1, .int y_9), (0, .ref h0)]) (k := 0) hx hb dX12_photoFinishes_69 hl rfl ex_10 (by decide) (by decide) rfl (fun ls hl => ?_)
        refine lv_goto (tgt := 9) hx hb dX12_photoFinishes_72 (by decide) ?_
        exact ih _ _ _ _ _ (hP.sub [0, 1, 2, 3, 4, 5, 6, 7] rfl) (hD.sub [0, 1, 2, 3, 4, 5, 6, 7] (by decide) rfl) hS (lv_sub hl [0, 1, 2] rfl) hf hk
  refine hL9 _ _ _ _ _ _ _ hP hD hS (lv_sub hl [0, 1, 2] rfl) hf (fun y_11 H locs ls hP hD hS hl hf => ?_)
  refine lv_iload_n hx hb dX12_photoFinishes_75 rfl (lv_at hl 0 rfl) ?_
  cases hf
  exact rt_Mi hx hb hr hlocks (hP.sub [0, 1, 2, 3, 4, 5, 6, 7] rfl) (hD.sub [0, 1, 2, 3, 4, 5, 6, 7] (by decide) rfl) hS dX12_photoFinishes_76

def f_X12_photoFinishesByRuns (ms : Nat → Int32) (mt : Int32) : Option (Int32 × Int32) :=
  sf_c2 (f_X12_photoFinishes ms mt) (fun r_1 x_2 => some (r_1, x_2))
theorem yd_X12_photoFinishesByRuns : yX12_photoFinishesByRuns.cls = RX12 ∧ yX12_photoFinishesByRuns.cls ≠ "java/lang/invoke/MethodHandle" ∧ yX12_photoFinishesByRuns.cls ≠ "java/lang/invoke/VarHandle" ∧ (parseMethodDescriptor yX12_photoFinishesByRuns.desc).map (fun d => d.parameters.length) = some 0 := ⟨rfl, by decide, by decide, by decide +kernel⟩
set_option maxRecDepth 100000 in
set_option maxHeartbeats 4000000 in
theorem c_X12_photoFinishesByRuns (l : Launch) (D : va_G) (dA : Nat → ClassId) (h0 h1 h2 h3 h4 h5 h6 h7 : Nat) (sz : Nat) (ms : Nat → Int32) (mb : Nat → Int32) (mv : Nat → Int32) (mi : Int32) (mp : Nat → Int32) (mn : Int32) (mt : Int32) (mo : Nat → Int32) (mO : Int32) (mI : Nat → Int32) (mL : Int32) (mA : Int32) (mW : Int32) (mE : Int32) (mF : Int32) (mc : Nat → Int32) (mM : Int32) (rr : Int32) (q_mt : Int32) (hf : f_X12_photoFinishesByRuns ms mt = some (rr, q_mt)) : Met l yX12_photoFinishesByRuns (wo (.code yX12_photoFinishesByRuns cX12_photoFinishesByRuns 1 (some .int))) ({ frames := 1, cells := 0, slots := 0, locals := 23 } : Room) (preM D dA [.ref h0] sz [(h0, .inr (10, [.ref h1, .ref h2, .ref h3, .int mi, .ref h4, .int mn, .int mt, .ref h5, .int mO, .ref h6, .int mL, .int mA, .int mW, .int mE, .int mF, .ref h7, .int mM])), (h1, .inl (dA 0, 158, .inl ms)), (h2, .inl (dA 0, 158, .inl mb)), (h3, .inl (dA 0, 158, .inl mv)), (h4, .inl (dA 0, 1264, .inl mp)), (h5, .inl (dA 1, 180, .inl mo)), (h6, .inl (dA 1, 60, .inl mI)), (h7, .inl (dA 0, 240, .inl mc))]) (poMi D rr [(h0, .inr (10, [.ref h1, .ref h2, .ref h3, .int mi, .ref h4, .int mn, .int q_mt, .ref h5, .int mO, .ref h6, .int mL, .int mA, .int mW, .int mE, .int mF, .ref h7, .int mM])), (h1, .inl (dA 0, 158, .inl ms)), (h2, .inl (dA 0, 158, .inl mb)), (h3, .inl (dA 0, 158, .inl mv)), (h4, .inl (dA 0, 1264, .inl mp)), (h5, .inl (dA 1, 180, .inl mo)), (h6, .inl (dA 1, 60, .inl mI)), (h7, .inl (dA 0, 240, .inl mc))] (va_A [(h0, .inr (10, [.ref h1, .ref h2, .ref h3, .int mi, .ref h4, .int mn, .int mt, .ref h5, .int mO, .ref h6, .int mL, .int mA, .int mW, .int mE, .int mF, .ref h7, .int mM])), (h1, .inl (dA 0, 158, .inl ms)), (h2, .inl (dA 0, 158, .inl mb)), (h3, .inl (dA 0, 158, .inl mv)), (h4, .inl (dA 0, 1264, .inl mp)), (h5, .inl (dA 1, 180, .inl mo)), (h6, .inl (dA 1, 60, .inl mI)), (h7, .inl (dA 0, 240, .inl mc))] sz)) 0 0 (va_A [(h0, .inr (10, [.ref h1, .ref h2, .ref h3, .int mi, .ref h4, .int mn, .int mt, .ref h5, .int mO, .ref h6, .int mL, .int mA, .int mW, .int mE, .int mF, .ref h7, .int mM])), (h1, .inl (dA 0, 158, .inl ms)), (h2, .inl (dA 0, 158, .inl mb)), (h3, .inl (dA 0, 158, .inl mv)), (h4, .inl (dA 0, 1264, .inl mp)), (h5, .inl (dA 1, 180, .inl mo)), (h6, .inl (dA 1, 60, .inl mI)), (h7, .inl (dA 0, 240, .inl mc))] sz) := by
  refine of_M (y := yX12_photoFinishesByRuns) (av := [.ref h0]) (ws := [(h0, .inr (10, [.ref h1, .ref h2, .ref h3, .int mi, .ref h4, .int mn, .int mt, .ref h5, .int mO, .ref h6, .int mL, .int mA, .int mW, .int mE, .int mF, .ref h7, .int mM])), (h1, .inl (dA 0, 158, .inl ms)), (h2, .inl (dA 0, 158, .inl mb)), (h3, .inl (dA 0, 158, .inl mv)), (h4, .inl (dA 0, 1264, .inl mp)), (h5, .inl (dA 1, 180, .inl mo)), (h6, .inl (dA 1, 60, .inl mI)), (h7, .inl (dA 0, 240, .inl mc))]) (sz := sz) (own := RX12) (Qc := poMi D rr [(h0, .inr (10, [.ref h1, .ref h2, .ref h3, .int mi, .ref h4, .int mn, .int q_mt, .ref h5, .int mO, .ref h6, .int mL, .int mA, .int mW, .int mE, .int mF, .ref h7, .int mM])), (h1, .inl (dA 0, 158, .inl ms)), (h2, .inl (dA 0, 158, .inl mb)), (h3, .inl (dA 0, 158, .inl mv)), (h4, .inl (dA 0, 1264, .inl mp)), (h5, .inl (dA 1, 180, .inl mo)), (h6, .inl (dA 1, 60, .inl mI)), (h7, .inl (dA 0, 240, .inl mc))]) (by decide) rfl (Nat.le_of_ble_eq_true rfl) ?_
  intro p e s m below meth c A hx hb hr ha hown hml hlocks hin hP hK hD hS hA ls hl
  have hl : lv_has ls 1 [(0, .ref h0)] := hl
  rw [f_X12_photoFinishesByRuns] at hf
  refine lv_aload_n hx hb dX12_photoFinishesByRuns_0 rfl (lv_at hl 0 rfl) ?_
  obtain ⟨r_1, x_2, hc2, hf⟩ := sf_c2e hf
  refine k_Mi (wr := []) (run_MV (As := []) (rest := []) ⟨hx, hb, hml, hown, ha⟩ (c_X12_photoFinishes l D dA h0 h1 h2 h3 h4 h5 h6 h7 _ ms mb mv mi mp mn mt mo mO mI mL mA mW mE mF mc mM _ _ hc2) (gi_V m_1991 m_1984 m_1985 m_85 m_1986) yd_X12_photoFinishes ⟨Nat.le_of_ble_eq_true rfl, Nat.le_of_ble_eq_true rfl⟩ ⟨rfl, rfl⟩ hK hP hD [0, 1, 2, 3, 4, 5, 6, 7] (by decide) rfl 0 10 rfl rfl rfl rfl hl.1 rfl (Nat.le_of_ble_eq_true rfl) dX12_photoFinishesByRuns_1 ⟨Nat.le_of_ble_eq_true rfl, Nat.le_of_ble_eq_true rfl⟩) hP hD hS hA [0, 1, 2, 3, 4, 5, 6, 7] [] rfl rfl (by decide) (by decide) (fun H locs hP hD hS => ?_)
  cases hf
  exact rt_Mi hx hb hr hlocks (hP.sub [0, 1, 2, 3, 4, 5, 6, 7] rfl) (hD.sub [0, 1, 2, 3, 4, 5, 6, 7] (by decide) rfl) hS dX12_photoFinishesByRuns_4

def f_X12_splashes (ms : Nat → Int32) (mt : Int32) : Option (Int32 × Int32) :=
  sf_g (sf_in (5 : Int32) 158 = true) (some ((ms (5 : Int32).toNatClampNeg), (0 : Int32)))
theorem yd_X12_splashes : yX12_splashes.cls = RX12 ∧ yX12_splashes.cls ≠ "java/lang/invoke/MethodHandle" ∧ yX12_splashes.cls ≠ "java/lang/invoke/VarHandle" ∧ (parseMethodDescriptor yX12_splashes.desc).map (fun d => d.parameters.length) = some 0 := ⟨rfl, by decide, by decide, by decide +kernel⟩
set_option maxRecDepth 100000 in
set_option maxHeartbeats 4000000 in
theorem c_X12_splashes (l : Launch) (D : va_G) (dA : Nat → ClassId) (h0 h1 h2 h3 h4 h5 h6 h7 : Nat) (sz : Nat) (ms : Nat → Int32) (mb : Nat → Int32) (mv : Nat → Int32) (mi : Int32) (mp : Nat → Int32) (mn : Int32) (mt : Int32) (mo : Nat → Int32) (mO : Int32) (mI : Nat → Int32) (mL : Int32) (mA : Int32) (mW : Int32) (mE : Int32) (mF : Int32) (mc : Nat → Int32) (mM : Int32) (rr : Int32) (q_mt : Int32) (hf : f_X12_splashes ms mt = some (rr, q_mt)) : Met l yX12_splashes (wo (.code yX12_splashes cX12_splashes 1 (some .int))) ({ frames := 0, cells := 0, slots := 0, locals := 0 } : Room) (preM D dA [.ref h0] sz [(h0, .inr (10, [.ref h1, .ref h2, .ref h3, .int mi, .ref h4, .int mn, .int mt, .ref h5, .int mO, .ref h6, .int mL, .int mA, .int mW, .int mE, .int mF, .ref h7, .int mM])), (h1, .inl (dA 0, 158, .inl ms)), (h2, .inl (dA 0, 158, .inl mb)), (h3, .inl (dA 0, 158, .inl mv)), (h4, .inl (dA 0, 1264, .inl mp)), (h5, .inl (dA 1, 180, .inl mo)), (h6, .inl (dA 1, 60, .inl mI)), (h7, .inl (dA 0, 240, .inl mc))]) (poMi D rr [(h0, .inr (10, [.ref h1, .ref h2, .ref h3, .int mi, .ref h4, .int mn, .int q_mt, .ref h5, .int mO, .ref h6, .int mL, .int mA, .int mW, .int mE, .int mF, .ref h7, .int mM])), (h1, .inl (dA 0, 158, .inl ms)), (h2, .inl (dA 0, 158, .inl mb)), (h3, .inl (dA 0, 158, .inl mv)), (h4, .inl (dA 0, 1264, .inl mp)), (h5, .inl (dA 1, 180, .inl mo)), (h6, .inl (dA 1, 60, .inl mI)), (h7, .inl (dA 0, 240, .inl mc))] (va_A [(h0, .inr (10, [.ref h1, .ref h2, .ref h3, .int mi, .ref h4, .int mn, .int mt, .ref h5, .int mO, .ref h6, .int mL, .int mA, .int mW, .int mE, .int mF, .ref h7, .int mM])), (h1, .inl (dA 0, 158, .inl ms)), (h2, .inl (dA 0, 158, .inl mb)), (h3, .inl (dA 0, 158, .inl mv)), (h4, .inl (dA 0, 1264, .inl mp)), (h5, .inl (dA 1, 180, .inl mo)), (h6, .inl (dA 1, 60, .inl mI)), (h7, .inl (dA 0, 240, .inl mc))] sz)) 0 0 (va_A [(h0, .inr (10, [.ref h1, .ref h2, .ref h3, .int mi, .ref h4, .int mn, .int mt, .ref h5, .int mO, .ref h6, .int mL, .int mA, .int mW, .int mE, .int mF, .ref h7, .int mM])), (h1, .inl (dA 0, 158, .inl ms)), (h2, .inl (dA 0, 158, .inl mb)), (h3, .inl (dA 0, 158, .inl mv)), (h4, .inl (dA 0, 1264, .inl mp)), (h5, .inl (dA 1, 180, .inl mo)), (h6, .inl (dA 1, 60, .inl mI)), (h7, .inl (dA 0, 240, .inl mc))] sz) := by
  refine of_M (y := yX12_splashes) (av := [.ref h0]) (ws := [(h0, .inr (10, [.ref h1, .ref h2, .ref h3, .int mi, .ref h4, .int mn, .int mt, .ref h5, .int mO, .ref h6, .int mL, .int mA, .int mW, .int mE, .int mF, .ref h7, .int mM])), (h1, .inl (dA 0, 158, .inl ms)), (h2, .inl (dA 0, 158, .inl mb)), (h3, .inl (dA 0, 158, .inl mv)), (h4, .inl (dA 0, 1264, .inl mp)), (h5, .inl (dA 1, 180, .inl mo)), (h6, .inl (dA 1, 60, .inl mI)), (h7, .inl (dA 0, 240, .inl mc))]) (sz := sz) (own := RX12) (Qc := poMi D rr [(h0, .inr (10, [.ref h1, .ref h2, .ref h3, .int mi, .ref h4, .int mn, .int q_mt, .ref h5, .int mO, .ref h6, .int mL, .int mA, .int mW, .int mE, .int mF, .ref h7, .int mM])), (h1, .inl (dA 0, 158, .inl ms)), (h2, .inl (dA 0, 158, .inl mb)), (h3, .inl (dA 0, 158, .inl mv)), (h4, .inl (dA 0, 1264, .inl mp)), (h5, .inl (dA 1, 180, .inl mo)), (h6, .inl (dA 1, 60, .inl mI)), (h7, .inl (dA 0, 240, .inl mc))]) (by decide) rfl (Nat.le_of_ble_eq_true rfl) ?_
  intro p e s m below meth c A hx hb hr ha hown hml hlocks hin hP hK hD hS hA ls hl
  have hl : lv_has ls 1 [(0, .ref h0)] := hl
  rw [f_X12_splashes] at hf
  refine lv_aload_n hx hb dX12_splashes_0 rfl (lv_at hl 0 rfl) ?_
  refine lv_iconst (v := 0) hx hb dX12_splashes_1 (by decide) ?_
  refine pt_f (C := RX12) (T := TX12) (N := 17) (ws' := [(h0, .inr (10, [.ref h1, .ref h2, .ref h3, .int mi, .ref h4, .int mn, .int (0 : Int32), .ref h5, .int mO, .ref h6, .int mL, .int mA, .int mW, .int mE, .int mF, .ref h7, .int mM])), (h1, .inl (dA 0, 158, .inl ms)), (h2, .inl (dA 0, 158, .inl mb)), (h3, .inl (dA 0, 158, .inl mv)), (h4, .inl (dA 0, 1264, .inl mp)), (h5, .inl (dA 1, 180, .inl mo)), (h6, .inl (dA 1, 60, .inl mI)), (h7, .inl (dA 0, 240, .inl mc))]) (ty := .int) hx hb ha in_X12 tyX12 tyX12_ok nmX12 hown hK hP hD hS 0 rfl rfl 6 (by decide) m_1655 rfl (tyX12_ok 6 (by decide)) rfl rfl (Nat.le_of_ble_eq_true rfl) rfl dX12_splashes_2 (fun H locs hP hD hS => ?_)
  refine lv_aload_n hx hb dX12_splashes_5 rfl (lv_at hl 0 rfl) ?_
  refine gt_f (C := RX12) (T := TX12) (N := 17) hx hb ha in_X12 hown hK hP 0 rfl rfl 0 (by decide) m_1649 rfl dX12_splashes_6 ?_
  refine lv_iconst (v := 5) hx hb dX12_splashes_9 (by decide) ?_
  obtain ⟨hi, hf⟩ := sf_ge hf
  refine ia_ld hx hb hK hP 1 rfl hi dX12_splashes_10 ?_
  cases hf
  exact rt_Mi hx hb hr hlocks (hP.sub [0, 1, 2, 3, 4, 5, 6, 7] rfl) (hD.sub [0, 1, 2, 3, 4, 5, 6, 7] (by decide) rfl) hS dX12_splashes_11

def f_X12_refundedCoins (ms : Nat → Int32) (mt : Int32) : Option (Int32 × Int32) :=
  sf_g (sf_in (6 : Int32) 158 = true) (some ((ms (6 : Int32).toNatClampNeg), (0 : Int32)))
theorem yd_X12_refundedCoins : yX12_refundedCoins.cls = RX12 ∧ yX12_refundedCoins.cls ≠ "java/lang/invoke/MethodHandle" ∧ yX12_refundedCoins.cls ≠ "java/lang/invoke/VarHandle" ∧ (parseMethodDescriptor yX12_refundedCoins.desc).map (fun d => d.parameters.length) = some 0 := ⟨rfl, by decide, by decide, by decide +kernel⟩
set_option maxRecDepth 100000 in
set_option maxHeartbeats 4000000 in
theorem c_X12_refundedCoins (l : Launch) (D : va_G) (dA : Nat → ClassId) (h0 h1 h2 h3 h4 h5 h6 h7 : Nat) (sz : Nat) (ms : Nat → Int32) (mb : Nat → Int32) (mv : Nat → Int32) (mi : Int32) (mp : Nat → Int32) (mn : Int32) (mt : Int32) (mo : Nat → Int32) (mO : Int32) (mI : Nat → Int32) (mL : Int32) (mA : Int32) (mW : Int32) (mE : Int32) (mF : Int32) (mc : Nat → Int32) (mM : Int32) (rr : Int32) (q_mt : Int32) (hf : f_X12_refundedCoins ms mt = some (rr, q_mt)) : Met l yX12_refundedCoins (wo (.code yX12_refundedCoins cX12_refundedCoins 1 (some .int))) ({ frames := 0, cells := 0, slots := 0, locals := 0 } : Room) (preM D dA [.ref h0] sz [(h0, .inr (10, [.ref h1, .ref h2, .ref h3, .int mi, .ref h4, .int mn, .int mt, .ref h5, .int mO, .ref h6, .int mL, .int mA, .int mW, .int mE, .int mF, .ref h7, .int mM])), (h1, .inl (dA 0, 158, .inl ms)), (h2, .inl (dA 0, 158, .inl mb)), (h3, .inl (dA 0, 158, .inl mv)), (h4, .inl (dA 0, 1264, .inl mp)), (h5, .inl (dA 1, 180, .inl mo)), (h6, .inl (dA 1, 60, .inl mI)), (h7, .inl (dA 0, 240, .inl mc))]) (poMi D rr [(h0, .inr (10, [.ref h1, .ref h2, .ref h3, .int mi, .ref h4, .int mn, .int q_mt, .ref h5, .int mO, .ref h6, .int mL, .int mA, .int mW, .int mE, .int mF, .ref h7, .int mM])), (h1, .inl (dA 0, 158, .inl ms)), (h2, .inl (dA 0, 158, .inl mb)), (h3, .inl (dA 0, 158, .inl mv)), (h4, .inl (dA 0, 1264, .inl mp)), (h5, .inl (dA 1, 180, .inl mo)), (h6, .inl (dA 1, 60, .inl mI)), (h7, .inl (dA 0, 240, .inl mc))] (va_A [(h0, .inr (10, [.ref h1, .ref h2, .ref h3, .int mi, .ref h4, .int mn, .int mt, .ref h5, .int mO, .ref h6, .int mL, .int mA, .int mW, .int mE, .int mF, .ref h7, .int mM])), (h1, .inl (dA 0, 158, .inl ms)), (h2, .inl (dA 0, 158, .inl mb)), (h3, .inl (dA 0, 158, .inl mv)), (h4, .inl (dA 0, 1264, .inl mp)), (h5, .inl (dA 1, 180, .inl mo)), (h6, .inl (dA 1, 60, .inl mI)), (h7, .inl (dA 0, 240, .inl mc))] sz)) 0 0 (va_A [(h0, .inr (10, [.ref h1, .ref h2, .ref h3, .int mi, .ref h4, .int mn, .int mt, .ref h5, .int mO, .ref h6, .int mL, .int mA, .int mW, .int mE, .int mF, .ref h7, .int mM])), (h1, .inl (dA 0, 158, .inl ms)), (h2, .inl (dA 0, 158, .inl mb)), (h3, .inl (dA 0, 158, .inl mv)), (h4, .inl (dA 0, 1264, .inl mp)), (h5, .inl (dA 1, 180, .inl mo)), (h6, .inl (dA 1, 60, .inl mI)), (h7, .inl (dA 0, 240, .inl mc))] sz) := by
  refine of_M (y := yX12_refundedCoins) (av := [.ref h0]) (ws := [(h0, .inr (10, [.ref h1, .ref h2, .ref h3, .int mi, .ref h4, .int mn, .int mt, .ref h5, .int mO, .ref h6, .int mL, .int mA, .int mW, .int mE, .int mF, .ref h7, .int mM])), (h1, .inl (dA 0, 158, .inl ms)), (h2, .inl (dA 0, 158, .inl mb)), (h3, .inl (dA 0, 158, .inl mv)), (h4, .inl (dA 0, 1264, .inl mp)), (h5, .inl (dA 1, 180, .inl mo)), (h6, .inl (dA 1, 60, .inl mI)), (h7, .inl (dA 0, 240, .inl mc))]) (sz := sz) (own := RX12) (Qc := poMi D rr [(h0, .inr (10, [.ref h1, .ref h2, .ref h3, .int mi, .ref h4, .int mn, .int q_mt, .ref h5, .int mO, .ref h6, .int mL, .int mA, .int mW, .int mE, .int mF, .ref h7, .int mM])), (h1, .inl (dA 0, 158, .inl ms)), (h2, .inl (dA 0, 158, .inl mb)), (h3, .inl (dA 0, 158, .inl mv)), (h4, .inl (dA 0, 1264, .inl mp)), (h5, .inl (dA 1, 180, .inl mo)), (h6, .inl (dA 1, 60, .inl mI)), (h7, .inl (dA 0, 240, .inl mc))]) (by decide) rfl (Nat.le_of_ble_eq_true rfl) ?_
  intro p e s m below meth c A hx hb hr ha hown hml hlocks hin hP hK hD hS hA ls hl
  have hl : lv_has ls 1 [(0, .ref h0)] := hl
  rw [f_X12_refundedCoins] at hf
  refine lv_aload_n hx hb dX12_refundedCoins_0 rfl (lv_at hl 0 rfl) ?_
  refine lv_iconst (v := 0) hx hb dX12_refundedCoins_1 (by decide) ?_
  refine pt_f (C := RX12) (T := TX12) (N := 17) (ws' := [(h0, .inr (10, [.ref h1, .ref h2, .ref h3, .int mi, .ref h4, .int mn, .int (0 : Int32), .ref h5, .int mO, .ref h6, .int mL, .int mA, .int mW, .int mE, .int mF, .ref h7, .int mM])), (h1, .inl (dA 0, 158, .inl ms)), (h2, .inl (dA 0, 158, .inl mb)), (h3, .inl (dA 0, 158, .inl mv)), (h4, .inl (dA 0, 1264, .inl mp)), (h5, .inl (dA 1, 180, .inl mo)), (h6, .inl (dA 1, 60, .inl mI)), (h7, .inl (dA 0, 240, .inl mc))]) (ty := .int) hx hb ha in_X12 tyX12 tyX12_ok nmX12 hown hK hP hD hS 0 rfl rfl 6 (by decide) m_1655 rfl (tyX12_ok 6 (by decide)) rfl rfl (Nat.le_of_ble_eq_true rfl) rfl dX12_refundedCoins_2 (fun H locs hP hD hS => ?_)
  refine lv_aload_n hx hb dX12_refundedCoins_5 rfl (lv_at hl 0 rfl) ?_
  refine gt_f (C := RX12) (T := TX12) (N := 17) hx hb ha in_X12 hown hK hP 0 rfl rfl 0 (by decide) m_1649 rfl dX12_refundedCoins_6 ?_
  refine lv_bipush (v := 6) hx hb dX12_refundedCoins_9 (by decide) ?_
  obtain ⟨hi, hf⟩ := sf_ge hf
  refine ia_ld hx hb hK hP 1 rfl hi dX12_refundedCoins_11 ?_
  cases hf
  exact rt_Mi hx hb hr hlocks (hP.sub [0, 1, 2, 3, 4, 5, 6, 7] rfl) (hD.sub [0, 1, 2, 3, 4, 5, 6, 7] (by decide) rfl) hS dX12_refundedCoins_12

def f_X12_officeCoins (ms : Nat → Int32) (mt : Int32) : Option (Int32 × Int32) :=
  sf_g (sf_in (7 : Int32) 158 = true) (some ((ms (7 : Int32).toNatClampNeg), (0 : Int32)))
theorem yd_X12_officeCoins : yX12_officeCoins.cls = RX12 ∧ yX12_officeCoins.cls ≠ "java/lang/invoke/MethodHandle" ∧ yX12_officeCoins.cls ≠ "java/lang/invoke/VarHandle" ∧ (parseMethodDescriptor yX12_officeCoins.desc).map (fun d => d.parameters.length) = some 0 := ⟨rfl, by decide, by decide, by decide +kernel⟩
set_option maxRecDepth 100000 in
set_option maxHeartbeats 4000000 in
theorem c_X12_officeCoins (l : Launch) (D : va_G) (dA : Nat → ClassId) (h0 h1 h2 h3 h4 h5 h6 h7 : Nat) (sz : Nat) (ms : Nat → Int32) (mb : Nat → Int32) (mv : Nat → Int32) (mi : Int32) (mp : Nat → Int32) (mn : Int32) (mt : Int32) (mo : Nat → Int32) (mO : Int32) (mI : Nat → Int32) (mL : Int32) (mA : Int32) (mW : Int32) (mE : Int32) (mF : Int32) (mc : Nat → Int32) (mM : Int32) (rr : Int32) (q_mt : Int32) (hf : f_X12_officeCoins ms mt = some (rr, q_mt)) : Met l yX12_officeCoins (wo (.code yX12_officeCoins cX12_officeCoins 1 (some .int))) ({ frames := 0, cells := 0, slots := 0, locals := 0 } : Room) (preM D dA [.ref h0] sz [(h0, .inr (10, [.ref h1, .ref h2, .ref h3, .int mi, .ref h4, .int mn, .int mt, .ref h5, .int mO, .ref h6, .int mL, .int mA, .int mW, .int mE, .int mF, .ref h7, .int mM])), (h1, .inl (dA 0, 158, .inl ms)), (h2, .inl (dA 0, 158, .inl mb)), (h3, .inl (dA 0, 158, .inl mv)), (h4, .inl (dA 0, 1264, .inl mp)), (h5, .inl (dA 1, 180, .inl mo)), (h6, .inl (dA 1, 60, .inl mI)), (h7, .inl (dA 0, 240, .inl mc))]) (poMi D rr [(h0, .inr (10, [.ref h1, .ref h2, .ref h3, .int mi, .ref h4, .int mn, .int q_mt, .ref h5, .int mO, .ref h6, .int mL, .int mA, .int mW, .int mE, .int mF, .ref h7, .int mM])), (h1, .inl (dA 0, 158, .inl ms)), (h2, .inl (dA 0, 158, .inl mb)), (h3, .inl (dA 0, 158, .inl mv)), (h4, .inl (dA 0, 1264, .inl mp)), (h5, .inl (dA 1, 180, .inl mo)), (h6, .inl (dA 1, 60, .inl mI)), (h7, .inl (dA 0, 240, .inl mc))] (va_A [(h0, .inr (10, [.ref h1, .ref h2, .ref h3, .int mi, .ref h4, .int mn, .int mt, .ref h5, .int mO, .ref h6, .int mL, .int mA, .int mW, .int mE, .int mF, .ref h7, .int mM])), (h1, .inl (dA 0, 158, .inl ms)), (h2, .inl (dA 0, 158, .inl mb)), (h3, .inl (dA 0, 158, .inl mv)), (h4, .inl (dA 0, 1264, .inl mp)), (h5, .inl (dA 1, 180, .inl mo)), (h6, .inl (dA 1, 60, .inl mI)), (h7, .inl (dA 0, 240, .inl mc))] sz)) 0 0 (va_A [(h0, .inr (10, [.ref h1, .ref h2, .ref h3, .int mi, .ref h4, .int mn, .int mt, .ref h5, .int mO, .ref h6, .int mL, .int mA, .int mW, .int mE, .int mF, .ref h7, .int mM])), (h1, .inl (dA 0, 158, .inl ms)), (h2, .inl (dA 0, 158, .inl mb)), (h3, .inl (dA 0, 158, .inl mv)), (h4, .inl (dA 0, 1264, .inl mp)), (h5, .inl (dA 1, 180, .inl mo)), (h6, .inl (dA 1, 60, .inl mI)), (h7, .inl (dA 0, 240, .inl mc))] sz) := by
  refine of_M (y := yX12_officeCoins) (av := [.ref h0]) (ws := [(h0, .inr (10, [.ref h1, .ref h2, .ref h3, .int mi, .ref h4, .int mn, .int mt, .ref h5, .int mO, .ref h6, .int mL, .int mA, .int mW, .int mE, .int mF, .ref h7, .int mM])), (h1, .inl (dA 0, 158, .inl ms)), (h2, .inl (dA 0, 158, .inl mb)), (h3, .inl (dA 0, 158, .inl mv)), (h4, .inl (dA 0, 1264, .inl mp)), (h5, .inl (dA 1, 180, .inl mo)), (h6, .inl (dA 1, 60, .inl mI)), (h7, .inl (dA 0, 240, .inl mc))]) (sz := sz) (own := RX12) (Qc := poMi D rr [(h0, .inr (10, [.ref h1, .ref h2, .ref h3, .int mi, .ref h4, .int mn, .int q_mt, .ref h5, .int mO, .ref h6, .int mL, .int mA, .int mW, .int mE, .int mF, .ref h7, .int mM])), (h1, .inl (dA 0, 158, .inl ms)), (h2, .inl (dA 0, 158, .inl mb)), (h3, .inl (dA 0, 158, .inl mv)), (h4, .inl (dA 0, 1264, .inl mp)), (h5, .inl (dA 1, 180, .inl mo)), (h6, .inl (dA 1, 60, .inl mI)), (h7, .inl (dA 0, 240, .inl mc))]) (by decide) rfl (Nat.le_of_ble_eq_true rfl) ?_
  intro p e s m below meth c A hx hb hr ha hown hml hlocks hin hP hK hD hS hA ls hl
  have hl : lv_has ls 1 [(0, .ref h0)] := hl
  rw [f_X12_officeCoins] at hf
  refine lv_aload_n hx hb dX12_officeCoins_0 rfl (lv_at hl 0 rfl) ?_
  refine lv_iconst (v := 0) hx hb dX12_officeCoins_1 (by decide) ?_
  refine pt_f (C := RX12) (T := TX12) (N := 17) (ws' := [(h0, .inr (10, [.ref h1, .ref h2, .ref h3, .int mi, .ref h4, .int mn, .int (0 : Int32), .ref h5, .int mO, .ref h6, .int mL, .int mA, .int mW, .int mE, .int mF, .ref h7, .int mM])), (h1, .inl (dA 0, 158, .inl ms)), (h2, .inl (dA 0, 158, .inl mb)), (h3, .inl (dA 0, 158, .inl mv)), (h4, .inl (dA 0, 1264, .inl mp)), (h5, .inl (dA 1, 180, .inl mo)), (h6, .inl (dA 1, 60, .inl mI)), (h7, .inl (dA 0, 240, .inl mc))]) (ty := .int) hx hb ha in_X12 tyX12 tyX12_ok nmX12 hown hK hP hD hS 0 rfl rfl 6 (by decide) m_1655 rfl (tyX12_ok 6 (by decide)) rfl rfl (Nat.le_of_ble_eq_true rfl) rfl dX12_officeCoins_2 (fun H locs hP hD hS => ?_)
  refine lv_aload_n hx hb dX12_officeCoins_5 rfl (lv_at hl 0 rfl) ?_
  refine gt_f (C := RX12) (T := TX12) (N := 17) hx hb ha in_X12 hown hK hP 0 rfl rfl 0 (by decide) m_1649 rfl dX12_officeCoins_6 ?_
  refine lv_bipush (v := 7) hx hb dX12_officeCoins_9 (by decide) ?_
  obtain ⟨hi, hf⟩ := sf_ge hf
  refine ia_ld hx hb hK hP 1 rfl hi dX12_officeCoins_11 ?_
  cases hf
  exact rt_Mi hx hb hr hlocks (hP.sub [0, 1, 2, 3, 4, 5, 6, 7] rfl) (hD.sub [0, 1, 2, 3, 4, 5, 6, 7] (by decide) rfl) hS dX12_officeCoins_12

def f_X12_rides (ms : Nat → Int32) (mt : Int32) (p0 : Int32) : Option (Int32 × Int32) :=
  sf_c1 (f_X12_isGuest ms p0) (fun r_1 => sf_c2 (f_X12_isThere mt r_1) (fun r_2 x_3 => sf_b (r_2 = (0 : Int32)) (some ((0 : Int32), x_3)) (sf_c1 (f_X12_guest ms p0 (1 : Int32)) (fun r_4 => some (r_4, x_3)))))
theorem yd_X12_rides : yX12_rides.cls = RX12 ∧ yX12_rides.cls ≠ "java/lang/invoke/MethodHandle" ∧ yX12_rides.cls ≠ "java/lang/invoke/VarHandle" ∧ (parseMethodDescriptor yX12_rides.desc).map (fun d => d.parameters.length) = some 1 := ⟨rfl, by decide, by decide, by decide +kernel⟩
set_option maxRecDepth 100000 in
set_option maxHeartbeats 4000000 in
theorem c_X12_rides (l : Launch) (D : va_G) (dA : Nat → ClassId) (h0 h1 h2 h3 h4 h5 h6 h7 : Nat) (sz : Nat) (ms : Nat → Int32) (mb : Nat → Int32) (mv : Nat → Int32) (mi : Int32) (mp : Nat → Int32) (mn : Int32) (mt : Int32) (mo : Nat → Int32) (mO : Int32) (mI : Nat → Int32) (mL : Int32) (mA : Int32) (mW : Int32) (mE : Int32) (mF : Int32) (mc : Nat → Int32) (mM : Int32) (p0 : Int32) (rr : Int32) (q_mt : Int32) (hf : f_X12_rides ms mt p0 = some (rr, q_mt)) : Met l yX12_rides (wo (.code yX12_rides cX12_rides 2 (some .int))) ({ frames := 2, cells := 0, slots := 0, locals := 43 } : Room) (preM D dA [.ref h0, .int p0] sz [(h0, .inr (10, [.ref h1, .ref h2, .ref h3, .int mi, .ref h4, .int mn, .int mt, .ref h5, .int mO, .ref h6, .int mL, .int mA, .int mW, .int mE, .int mF, .ref h7, .int mM])), (h1, .inl (dA 0, 158, .inl ms)), (h2, .inl (dA 0, 158, .inl mb)), (h3, .inl (dA 0, 158, .inl mv)), (h4, .inl (dA 0, 1264, .inl mp)), (h5, .inl (dA 1, 180, .inl mo)), (h6, .inl (dA 1, 60, .inl mI)), (h7, .inl (dA 0, 240, .inl mc))]) (poMi D rr [(h0, .inr (10, [.ref h1, .ref h2, .ref h3, .int mi, .ref h4, .int mn, .int q_mt, .ref h5, .int mO, .ref h6, .int mL, .int mA, .int mW, .int mE, .int mF, .ref h7, .int mM])), (h1, .inl (dA 0, 158, .inl ms)), (h2, .inl (dA 0, 158, .inl mb)), (h3, .inl (dA 0, 158, .inl mv)), (h4, .inl (dA 0, 1264, .inl mp)), (h5, .inl (dA 1, 180, .inl mo)), (h6, .inl (dA 1, 60, .inl mI)), (h7, .inl (dA 0, 240, .inl mc))] (va_A [(h0, .inr (10, [.ref h1, .ref h2, .ref h3, .int mi, .ref h4, .int mn, .int mt, .ref h5, .int mO, .ref h6, .int mL, .int mA, .int mW, .int mE, .int mF, .ref h7, .int mM])), (h1, .inl (dA 0, 158, .inl ms)), (h2, .inl (dA 0, 158, .inl mb)), (h3, .inl (dA 0, 158, .inl mv)), (h4, .inl (dA 0, 1264, .inl mp)), (h5, .inl (dA 1, 180, .inl mo)), (h6, .inl (dA 1, 60, .inl mI)), (h7, .inl (dA 0, 240, .inl mc))] sz)) 0 0 (va_A [(h0, .inr (10, [.ref h1, .ref h2, .ref h3, .int mi, .ref h4, .int mn, .int mt, .ref h5, .int mO, .ref h6, .int mL, .int mA, .int mW, .int mE, .int mF, .ref h7, .int mM])), (h1, .inl (dA 0, 158, .inl ms)), (h2, .inl (dA 0, 158, .inl mb)), (h3, .inl (dA 0, 158, .inl mv)), (h4, .inl (dA 0, 1264, .inl mp)), (h5, .inl (dA 1, 180, .inl mo)), (h6, .inl (dA 1, 60, .inl mI)), (h7, .inl (dA 0, 240, .inl mc))] sz) := by
  refine of_M (y := yX12_rides) (av := [.ref h0, .int p0]) (ws := [(h0, .inr (10, [.ref h1, .ref h2, .ref h3, .int mi, .ref h4, .int mn, .int mt, .ref h5, .int mO, .ref h6, .int mL, .int mA, .int mW, .int mE, .int mF, .ref h7, .int mM])), (h1, .inl (dA 0, 158, .inl ms)), (h2, .inl (dA 0, 158, .inl mb)), (h3, .inl (dA 0, 158, .inl mv)), (h4, .inl (dA 0, 1264, .inl mp)), (h5, .inl (dA 1, 180, .inl mo)), (h6, .inl (dA 1, 60, .inl mI)), (h7, .inl (dA 0, 240, .inl mc))]) (sz := sz) (own := RX12) (Qc := poMi D rr [(h0, .inr (10, [.ref h1, .ref h2, .ref h3, .int mi, .ref h4, .int mn, .int q_mt, .ref h5, .int mO, .ref h6, .int mL, .int mA, .int mW, .int mE, .int mF, .ref h7, .int mM])), (h1, .inl (dA 0, 158, .inl ms)), (h2, .inl (dA 0, 158, .inl mb)), (h3, .inl (dA 0, 158, .inl mv)), (h4, .inl (dA 0, 1264, .inl mp)), (h5, .inl (dA 1, 180, .inl mo)), (h6, .inl (dA 1, 60, .inl mI)), (h7, .inl (dA 0, 240, .inl mc))]) (by decide) rfl (Nat.le_of_ble_eq_true rfl) ?_
  intro p e s m below meth c A hx hb hr ha hown hml hlocks hin hP hK hD hS hA ls hl
  have hl : lv_has ls 2 [(0, .ref h0), (1, .int p0)] := hl
  rw [f_X12_rides] at hf
  refine lv_aload_n hx hb dX12_rides_0 rfl (lv_at hl 0 rfl) ?_
  refine lv_aload_n hx hb dX12_rides_1 rfl (lv_at hl 0 rfl) ?_
  refine lv_iload_n hx hb dX12_rides_2 rfl (lv_at hl 1 rfl) ?_
  obtain ⟨r_1, hc1, hf⟩ := sf_c1e hf
  refine k_Pi (run_PV (As := [.int p0]) (rest := [.ref h0]) ⟨hx, hb, hml, hown, ha⟩ (c_X12_isGuest l D dA h0 h1 h2 h3 h4 h5 h6 h7  ms mb mv mi mp mn mt mo mO mI mL mA mW mE mF mc mM p0 _ hc1) (gi_V m_1745 m_1747 m_36 m_85 m_1748) yd_X12_isGuest ⟨Nat.le_of_ble_eq_true rfl, Nat.le_of_ble_eq_true rfl⟩ ⟨rfl, rfl⟩ hK hP [0, 1, 2, 3, 4, 5, 6, 7] rfl 0 10 rfl rfl rfl rfl hl.1 rfl (Nat.le_of_ble_eq_true rfl) dX12_rides_3 ⟨Nat.le_of_ble_eq_true rfl, Nat.le_of_ble_eq_true rfl⟩) hP hS (fun H locs hP hS => ?_)
  obtain ⟨r_2, x_3, hc3, hf⟩ := sf_c2e hf
  refine k_Mi (wr := []) (run_MV (As := [.int r_1]) (rest := []) ⟨hx, hb, hml, hown, ha⟩ (c_X12_isThere l D dA h0 h1 h2 h3 h4 h5 h6 h7 _ ms mb mv mi mp mn mt mo mO mI mL mA mW mE mF mc mM r_1 _ _ hc3) (gi_V m_1867 m_1869 m_59 m_85 m_1870) yd_X12_isThere ⟨Nat.le_of_ble_eq_true rfl, Nat.le_of_ble_eq_true rfl⟩ ⟨rfl, rfl⟩ hK hP hD [0, 1, 2, 3, 4, 5, 6, 7] (by decide) rfl 0 10 rfl rfl rfl rfl hl.1 rfl (Nat.le_of_ble_eq_true rfl) dX12_rides_6 ⟨Nat.le_of_ble_eq_true rfl, Nat.le_of_ble_eq_true rfl⟩) hP hD hS hA [0, 1, 2, 3, 4, 5, 6, 7] [] rfl rfl (by decide) (by decide) (fun H locs hP hD hS => ?_)
  refine lv_if_eq (tgt := 21) hx hb dX12_rides_9 (by decide) (fun hc => ?_) (fun hc => ?_)
  · have hf := sf_bp hf hc
    refine lv_iconst (v := 0) hx hb dX12_rides_21 (by decide) ?_
    cases hf
    exact rt_Mi hx hb hr hlocks (hP.sub [0, 1, 2, 3, 4, 5, 6, 7] rfl) (hD.sub [0, 1, 2, 3, 4, 5, 6, 7] (by decide) rfl) hS dX12_rides_22
  · have hf := sf_bn hf hc
    refine lv_aload_n hx hb dX12_rides_12 rfl (lv_at hl 0 rfl) ?_
    refine lv_iload_n hx hb dX12_rides_13 rfl (lv_at hl 1 rfl) ?_
    refine lv_iconst (v := 1) hx hb dX12_rides_14 (by decide) ?_
    obtain ⟨r_4, hc4, hf⟩ := sf_c1e hf
    refine k_Pi (run_PV (As := [.int p0, .int (1 : Int32)]) (rest := []) ⟨hx, hb, hml, hown, ha⟩ (c_X12_guest l D dA h0 h1 h2 h3 h4 h5 h6 h7  ms mb mv mi mp mn x_3 mo mO mI mL mA mW mE mF mc mM p0 (1 : Int32) _ hc4) (gi_V m_1757 m_1759 m_39 m_85 m_1760) yd_X12_guest ⟨Nat.le_of_ble_eq_true rfl, Nat.le_of_ble_eq_true rfl⟩ ⟨rfl, rfl⟩ hK hP [0, 1, 2, 3, 4, 5, 6, 7] rfl 0 10 rfl rfl rfl rfl hl.1 rfl (Nat.le_of_ble_eq_true rfl) dX12_rides_15 ⟨Nat.le_of_ble_eq_true rfl, Nat.le_of_ble_eq_true rfl⟩) hP hS (fun H locs hP hS => ?_)
    refine lv_goto (tgt := 22) hx hb dX12_rides_18 (by decide) ?_
    cases hf
    exact rt_Mi hx hb hr hlocks (hP.sub [0, 1, 2, 3, 4, 5, 6, 7] rfl) (hD.sub [0, 1, 2, 3, 4, 5, 6, 7] (by decide) rfl) hS dX12_rides_22

def f_X12_guestByRides_L36 (ms : Nat → Int32) (v_4 : Int32) (k : Int32 → Option (Int32 × Int32)) : Nat → Int32 → Int32 → Option (Int32 × Int32)
  | 0, _, _ => none
  | n + 1, v_6, v_7 => sf_g (sf_in (1 : Int32) 158 = true) (sf_b ((ms (1 : Int32).toNatClampNeg) ≤ v_6) (k v_7) (sf_c1 (f_X12_guest ms v_6 (1 : Int32)) (fun r_8 => sf_c1 (f_X12_guest ms v_4 (1 : Int32)) (fun r_9 => sf_n ((r_8 - r_9)) (fun x_10 => sf_c1 (f_X12_guest ms v_6 (0 : Int32)) (fun r_11 => sf_c1 (f_X12_guest ms v_4 (0 : Int32)) (fun r_12 => sf_n ((r_11 - r_12)) (fun x_13 => sf_b ((0 : Int32) < x_10) (sf_n ((v_7 + (1 : Int32))) (fun x_14 => sf_n (v_6 + (1 : Int32)) (fun x_15 => f_X12_guestByRides_L36 ms v_4 k n x_15 x_14))) (sf_b (x_10 = (0 : Int32)) (sf_b ((0 : Int32) < x_13) (sf_n ((v_7 + (1 : Int32))) (fun x_18 => sf_n (v_6 + (1 : Int32)) (fun x_19 => f_X12_guestByRides_L36 ms v_4 k n x_19 x_18))) (sf_b (x_13 = (0 : Int32)) (sf_b (v_4 ≤ v_6) (sf_n ((v_7 + (0 : Int32))) (fun x_22 => sf_n (v_6 + (1 : Int32)) (fun x_23 => f_X12_guestByRides_L36 ms v_4 k n x_23 x_22))) (sf_n ((v_7 + (1 : Int32))) (fun x_24 => sf_n (v_6 + (1 : Int32)) (fun x_25 => f_X12_guestByRides_L36 ms v_4 k n x_25 x_24)))) (sf_n ((v_7 + (0 : Int32))) (fun x_20 => sf_n (v_6 + (1 : Int32)) (fun x_21 => f_X12_guestByRides_L36 ms v_4 k n x_21 x_20))))) (sf_n ((v_7 + (0 : Int32))) (fun x_16 => sf_n (v_6 + (1 : Int32)) (fun x_17 => f_X12_guestByRides_L36 ms v_4 k n x_17 x_16))))))))))))
def f_X12_guestByRides_L15 (ms : Nat → Int32) (p0 : Int32) (r_2 : Int32) (k : Int32 → Option (Int32 × Int32)) : Nat → Int32 → Int32 → Option (Int32 × Int32)
  | 0, _, _ => none
  | n + 1, v_4, v_5 => sf_g (sf_in (1 : Int32) 158 = true) (sf_b ((ms (1 : Int32).toNatClampNeg) ≤ v_4) (k v_5) (sf_b (r_2 = (0 : Int32)) (k v_5) (f_X12_guestByRides_L36 ms v_4 (fun y_26 => sf_b (y_26 = p0) (sf_n (v_4 + (1 : Int32)) (fun x_28 => f_X12_guestByRides_L15 ms p0 r_2 k n x_28 v_4)) (sf_n (v_4 + (1 : Int32)) (fun x_27 => f_X12_guestByRides_L15 ms p0 r_2 k n x_27 v_5))) 2000 (0 : Int32) (0 : Int32))))
def f_X12_guestByRides (ms : Nat → Int32) (mt : Int32) (p0 : Int32) : Option (Int32 × Int32) :=
  sf_c1 (f_X12_isGuest ms p0) (fun r_1 => sf_c2 (f_X12_isThere mt r_1) (fun r_2 x_3 => f_X12_guestByRides_L15 ms p0 r_2 (fun y_29 => some (y_29, x_3)) 2000 (0 : Int32) (0 : Int32)))
theorem yd_X12_guestByRides : yX12_guestByRides.cls = RX12 ∧ yX12_guestByRides.cls ≠ "java/lang/invoke/MethodHandle" ∧ yX12_guestByRides.cls ≠ "java/lang/invoke/VarHandle" ∧ (parseMethodDescriptor yX12_guestByRides.desc).map (fun d => d.parameters.length) = some 1 := ⟨rfl, by decide, by decide, by decide +kernel⟩
set_option maxRecDepth 100000 in
set_option maxHeartbeats 4000000 in
theorem c_X12_guestByRides (l : Launch) (D : va_G) (dA : Nat → ClassId) (h0 h1 h2 h3 h4 h5 h6 h7 : Nat) (sz : Nat) (ms : Nat → Int32) (mb : Nat → Int32) (mv : Nat → Int32) (mi : Int32) (mp : Nat → Int32) (mn : Int32) (mt : Int32) (mo : Nat → Int32) (mO : Int32) (mI : Nat → Int32) (mL : Int32) (mA : Int32) (mW : Int32) (mE : Int32) (mF : Int32) (mc : Nat → Int32) (mM : Int32) (p0 : Int32) (rr : Int32) (q_mt : Int32) (hf : f_X12_guestByRides ms mt p0 = some (rr, q_mt)) : Met l yX12_guestByRides (wo (.code yX12_guestByRides cX12_guestByRides 9 (some .int))) ({ frames := 2, cells := 0, slots := 0, locals := 43 } : Room) (preM D dA [.ref h0, .int p0] sz [(h0, .inr (10, [.ref h1, .ref h2, .ref h3, .int mi, .ref h4, .int mn, .int mt, .ref h5, .int mO, .ref h6, .int mL, .int mA, .int mW, .int mE, .int mF, .ref h7, .int mM])), (h1, .inl (dA 0, 158, .inl ms)), (h2, .inl (dA 0, 158, .inl mb)), (h3, .inl (dA 0, 158, .inl mv)), (h4, .inl (dA 0, 1264, .inl mp)), (h5, .inl (dA 1, 180, .inl mo)), (h6, .inl (dA 1, 60, .inl mI)), (h7, .inl (dA 0, 240, .inl mc))]) (poMi D rr [(h0, .inr (10, [.ref h1, .ref h2, .ref h3, .int mi, .ref h4, .int mn, .int q_mt, .ref h5, .int mO, .ref h6, .int mL, .int mA, .int mW, .int mE, .int mF, .ref h7, .int mM])), (h1, .inl (dA 0, 158, .inl ms)), (h2, .inl (dA 0, 158, .inl mb)), (h3, .inl (dA 0, 158, .inl mv)), (h4, .inl (dA 0, 1264, .inl mp)), (h5, .inl (dA 1, 180, .inl mo)), (h6, .inl (dA 1, 60, .inl mI)), (h7, .inl (dA 0, 240, .inl mc))] (va_A [(h0, .inr (10, [.ref h1, .ref h2, .ref h3, .int mi, .ref h4, .int mn, .int mt, .ref h5, .int mO, .ref h6, .int mL, .int mA, .int mW, .int mE, .int mF, .ref h7, .int mM])), (h1, .inl (dA 0, 158, .inl ms)), (h2, .inl (dA 0, 158, .inl mb)), (h3, .inl (dA 0, 158, .inl mv)), (h4, .inl (dA 0, 1264, .inl mp)), (h5, .inl (dA 1, 180, .inl mo)), (h6, .inl (dA 1, 60, .inl mI)), (h7, .inl (dA 0, 240, .inl mc))] sz)) 0 0 (va_A [(h0, .inr (10, [.ref h1, .ref h2, .ref h3, .int mi, .ref h4, .int mn, .int mt, .ref h5, .int mO, .ref h6, .int mL, .int mA, .int mW, .int mE, .int mF, .ref h7, .int mM])), (h1, .inl (dA 0, 158, .inl ms)), (h2, .inl (dA 0, 158, .inl mb)), (h3, .inl (dA 0, 158, .inl mv)), (h4, .inl (dA 0, 1264, .inl mp)), (h5, .inl (dA 1, 180, .inl mo)), (h6, .inl (dA 1, 60, .inl mI)), (h7, .inl (dA 0, 240, .inl mc))] sz) := by
  refine of_M (y := yX12_guestByRides) (av := [.ref h0, .int p0]) (ws := [(h0, .inr (10, [.ref h1, .ref h2, .ref h3, .int mi, .ref h4, .int mn, .int mt, .ref h5, .int mO, .ref h6, .int mL, .int mA, .int mW, .int mE, .int mF, .ref h7, .int mM])), (h1, .inl (dA 0, 158, .inl ms)), (h2, .inl (dA 0, 158, .inl mb)), (h3, .inl (dA 0, 158, .inl mv)), (h4, .inl (dA 0, 1264, .inl mp)), (h5, .inl (dA 1, 180, .inl mo)), (h6, .inl (dA 1, 60, .inl mI)), (h7, .inl (dA 0, 240, .inl mc))]) (sz := sz) (own := RX12) (Qc := poMi D rr [(h0, .inr (10, [.ref h1, .ref h2, .ref h3, .int mi, .ref h4, .int mn, .int q_mt, .ref h5, .int mO, .ref h6, .int mL, .int mA, .int mW, .int mE, .int mF, .ref h7, .int mM])), (h1, .inl (dA 0, 158, .inl ms)), (h2, .inl (dA 0, 158, .inl mb)), (h3, .inl (dA 0, 158, .inl mv)), (h4, .inl (dA 0, 1264, .inl mp)), (h5, .inl (dA 1, 180, .inl mo)), (h6, .inl (dA 1, 60, .inl mI)), (h7, .inl (dA 0, 240, .inl mc))]) (by decide) rfl (Nat.le_of_ble_eq_true rfl) ?_
  intro p e s m below meth c A hx hb hr ha hown hml hlocks hin hP hK hD hS hA ls hl
  have hl : lv_has ls 9 [(0, .ref h0), (1, .int p0)] := hl
  rw [f_X12_guestByRides] at hf
  refine lv_iconst (v := 0) hx hb dX12_guestByRides_0 (by decide) ?_
  refine lv_istore_n (lv' := [(2, .int (0 : Int32)), (0, .ref h0), (1, .int p0)]) hx hb dX12_guestByRides_1 rfl hl (by decide) rfl (fun ls hl => ?_)
  refine lv_aload_n hx hb dX12_guestByRides_2 rfl (lv_at hl 1 rfl) ?_
  refine lv_aload_n hx hb dX12_guestByRides_3 rfl (lv_at hl 1 rfl) ?_
  refine lv_iload_n hx hb dX12_guestByRides_4 rfl (lv_at hl 2 rfl) ?_
  obtain ⟨r_1, hc1, hf⟩ := sf_c1e hf
  refine k_Pi (run_PV (As := [.int p0]) (rest := [.ref h0]) ⟨hx, hb, hml, hown, ha⟩ (c_X12_isGuest l D dA h0 h1 h2 h3 h4 h5 h6 h7  ms mb mv mi mp mn mt mo mO mI mL mA mW mE mF mc mM p0 _ hc1) (gi_V m_1745 m_1747 m_36 m_85 m_1748) yd_X12_isGuest ⟨Nat.le_of_ble_eq_true rfl, Nat.le_of_ble_eq_true rfl⟩ ⟨rfl, rfl⟩ hK hP [0, 1, 2, 3, 4, 5, 6, 7] rfl 0 10 rfl rfl rfl rfl hl.1 rfl (Nat.le_of_ble_eq_true rfl) dX12_guestByRides_5 ⟨Nat.le_of_ble_eq_true rfl, Nat.le_of_ble_eq_true rfl⟩) hP hS (fun H locs hP hS => ?_)
  obtain ⟨r_2, x_3, hc3, hf⟩ := sf_c2e hf
  refine k_Mi (wr := []) (run_MV (As := [.int r_1]) (rest := []) ⟨hx, hb, hml, hown, ha⟩ (c_X12_isThere l D dA h0 h1 h2 h3 h4 h5 h6 h7 _ ms mb mv mi mp mn mt mo mO mI mL mA mW mE mF mc mM r_1 _ _ hc3) (gi_V m_1867 m_1869 m_59 m_85 m_1870) yd_X12_isThere ⟨Nat.le_of_ble_eq_true rfl, Nat.le_of_ble_eq_true rfl⟩ ⟨rfl, rfl⟩ hK hP hD [0, 1, 2, 3, 4, 5, 6, 7] (by decide) rfl 0 10 rfl rfl rfl rfl hl.1 rfl (Nat.le_of_ble_eq_true rfl) dX12_guestByRides_8 ⟨Nat.le_of_ble_eq_true rfl, Nat.le_of_ble_eq_true rfl⟩) hP hD hS hA [0, 1, 2, 3, 4, 5, 6, 7] [] rfl rfl (by decide) (by decide) (fun H locs hP hD hS => ?_)
  refine lv_istore_n (lv' := [(3, .int r_2), (2, .int (0 : Int32)), (0, .ref h0), (1, .int p0)]) hx hb dX12_guestByRides_11 rfl hl (by decide) rfl (fun ls hl => ?_)
  refine lv_iconst (v := 0) hx hb dX12_guestByRides_12 (by decide) ?_
  refine lv_istore (lv' := [(4, .int (0 : Int32)), (3, .int r_2), (2, .int (0 : Int32)), (0, .ref h0), (1, .int p0)]) hx hb dX12_guestByRides_13 hl (by decide) rfl (fun ls hl => ?_)
  have hL15 : ∀ (n : Nat) (k : Int32 → Option (Int32 × Int32)) (v_4 : Int32) (v_5 : Int32) (H : Heap) (locs : List Loc) (ls : Array Slot), va_P D cls [(h0, .inr (10, [.ref h1, .ref h2, .ref h3, .int mi, .ref h4, .int mn, .int x_3, .ref h5, .int mO, .ref h6, .int mL, .int mA, .int mW, .int mE, .int mF, .ref h7, .int mM])), (h1, .inl (dA 0, 158, .inl ms)), (h2, .inl (dA 0, 158, .inl mb)), (h3, .inl (dA 0, 158, .inl mv)), (h4, .inl (dA 0, 1264, .inl mp)), (h5, .inl (dA 1, 180, .inl mo)), (h6, .inl (dA 1, 60, .inl mI)), (h7, .inl (dA 0, 240, .inl mc))] H → va_D A [(h0, .inr (10, [.ref h1, .ref h2, .ref h3, .int mi, .ref h4, .int mn, .int x_3, .ref h5, .int mO, .ref h6, .int mL, .int mA, .int mW, .int mE, .int mF, .ref h7, .int mM])), (h1, .inl (dA 0, 158, .inl ms)), (h2, .inl (dA 0, 158, .inl mb)), (h3, .inl (dA 0, 158, .inl mv)), (h4, .inl (dA 0, 1264, .inl mp)), (h5, .inl (dA 1, 180, .inl mo)), (h6, .inl (dA 1, 60, .inl mI)), (h7, .inl (dA 0, 240, .inl mc))] → va_S A s.heap H locs → lv_has ls 9 [(4, .int v_4), (3, .int r_2), (2, .int v_5), (0, .ref h0), (1, .int p0)] → f_X12_guestByRides_L15 ms p0 r_2 k n v_4 v_5 = some (rr, q_mt) → (∀ (y_29 : Int32) (H : Heap) (locs : List Loc) (ls : Array Slot), va_P D cls [(h0, .inr (10, [.ref h1, .ref h2, .ref h3, .int mi, .ref h4, .int mn, .int x_3, .ref h5, .int mO, .ref h6, .int mL, .int mA, .int mW, .int mE, .int mF, .ref h7, .int mM])), (h1, .inl (dA 0, 158, .inl ms)), (h2, .inl (dA 0, 158, .inl mb)), (h3, .inl (dA 0, 158, .inl mv)), (h4, .inl (dA 0, 1264, .inl mp)), (h5, .inl (dA 1, 180, .inl mo)), (h6, .inl (dA 1, 60, .inl mI)), (h7, .inl (dA 0, 240, .inl mc))] H → va_D A [(h0, .inr (10, [.ref h1, .ref h2, .ref h3, .int mi, .ref h4, .int mn, .int x_3, .ref h5, .int mO, .ref h6, .int mL, .int mA, .int mW, .int mE, .int mF, .ref h7, .int mM])), (h1, .inl (dA 0, 158, .inl ms)), (h2, .inl (dA 0, 158, .inl mb)), (h3, .inl (dA 0, 158, .inl mv)), (h4, .inl (dA 0, 1264, .inl mp)), (h5, .inl (dA 1, 180, .inl mo)), (h6, .inl (dA 1, 60, .inl mI)), (h7, .inl (dA 0, 240, .inl mc))] → va_S A s.heap H locs → lv_has ls 9 [(2, .int y_29)] → k y_29 = some (rr, q_mt) → W p l e ({ frames := 2, cells := 0, slots := 0, locals := 43 } : Room) s m ([.ref h0, .int p0] : List Value).toArray below meth c H locs 0 0 (MQ below (poMi D rr [(h0, .inr (10, [.ref h1, .ref h2, .ref h3, .int mi, .ref h4, .int mn, .int q_mt, .ref h5, .int mO, .ref h6, .int mL, .int mA, .int mW, .int mE, .int mF, .ref h7, .int mM])), (h1, .inl (dA 0, 158, .inl ms)), (h2, .inl (dA 0, 158, .inl mb)), (h3, .inl (dA 0, 158, .inl mv)), (h4, .inl (dA 0, 1264, .inl mp)), (h5, .inl (dA 1, 180, .inl mo)), (h6, .inl (dA 1, 60, .inl mI)), (h7, .inl (dA 0, 240, .inl mc))] A) ([.ref h0, .int p0] : List Value).toArray s 0 0 A) (F0 m 143 ls [])) → W p l e ({ frames := 2, cells := 0, slots := 0, locals := 43 } : Room) s m ([.ref h0, .int p0] : List Value).toArray below meth c H locs 0 0 (MQ below (poMi D rr [(h0, .inr (10, [.ref h1, .ref h2, .ref h3, .int mi, .ref h4, .int mn, .int q_mt, .ref h5, .int mO, .ref h6, .int mL, .int mA, .int mW, .int mE, .int mF, .ref h7, .int mM])), (h1, .inl (dA 0, 158, .inl ms)), (h2, .inl (dA 0, 158, .inl mb)), (h3, .inl (dA 0, 158, .inl mv)), (h4, .inl (dA 0, 1264, .inl mp)), (h5, .inl (dA 1, 180, .inl mo)), (h6, .inl (dA 1, 60, .inl mI)), (h7, .inl (dA 0, 240, .inl mc))] A) ([.ref h0, .int p0] : List Value).toArray s 0 0 A) (F0 m 15 ls []) := by
    intro n k
    induction n with
    | zero =>
      intro v_4 v_5 H locs ls hP hD hS hl hf hk
      rw [f_X12_guestByRides_L15] at hf
      cases hf
    | succ n ih =>
      intro v_4 v_5 H locs ls hP hD hS hl hf hk
      rw [f_X12_guestByRides_L15] at hf
      refine lv_iload hx hb dX12_guestByRides_15 (lv_at hl 0 rfl) ?_
      refine lv_aload_n hx hb dX12_guestByRides_17 rfl (lv_at hl 3 rfl) ?_
      refine gt_f (C := RX12) (T := TX12) (N := 17) hx hb ha in_X12 hown hK hP 0 rfl rfl 0 (by decide) m_1649 rfl dX12_guestByRides_18 ?_
      refine lv_iconst (v := 1) hx hb dX12_guestByRides_21 (by decide) ?_
      obtain ⟨hi, hf⟩ := sf_ge hf
      refine ia_ld hx hb hK hP 1 rfl hi dX12_guestByRides_22 ?_
      refine lv_icmp_ge (tgt := 143) hx hb dX12_guestByRides_23 (by decide) (fun hc => ?_) (fun hc => ?_)
      · have hf := sf_bp hf hc
        exact hk _ _ _ _ (hP.sub [0, 1, 2, 3, 4, 5, 6, 7] rfl) (hD.sub [0, 1, 2, 3, 4, 5, 6, 7] (by decide) rfl) hS (lv_sub hl [2] rfl) hf
      · have hf := sf_bn hf hc
        refine lv_iload_n hx hb dX12_guestByRides_26 rfl (lv_at hl 1 rfl) ?_
        refine lv_if_eq (tgt := 143) hx hb dX12_guestByRides_27 (by decide) (fun hc => ?_) (fun hc => ?_)
        · have hf := sf_bp hf hc
          exact hk _ _ _ _ (hP.sub [0, 1, 2, 3, 4, 5, 6, 7] rfl) (hD.sub [0, 1, 2, 3, 4, 5, 6, 7] (by decide) rfl) hS (lv_sub hl [2] rfl) hf
        · have hf := sf_bn hf hc
          refine lv_iconst (v := 0) hx hb dX12_guestByRides_30 (by decide) ?_
          refine lv_istore (lv' := [(5, .int (0 : Int32)), (4, .int v_4), (3, .int r_2), (2, .int v_5), (0, .ref h0), (1, .int p0)]) hx hb dX12_guestByRides_31 hl (by decide) rfl (fun ls hl => ?_)
          refine lv_iconst (v := 0) hx hb dX12_guestByRides_33 (by decide) ?_
          refine lv_istore (lv' := [(6, .int (0 : Int32)), (5, .int (0 : Int32)), (4, .int v_4), (3, .int r_2), (2, .int v_5), (0, .ref h0), (1, .int p0)]) hx hb dX12_guestByRides_34 hl (by decide) rfl (fun ls hl => ?_)
          have hL36 : ∀ (n : Nat) (k : Int32 → Option (Int32 × Int32)) (v_6 : Int32) (v_7 : Int32) (H : Heap) (locs : List Loc) (ls : Array Slot), va_P D cls [(h0, .inr (10, [.ref h1, .ref h2, .ref h3, .int mi, .ref h4, .int mn, .int x_3, .ref h5, .int mO, .ref h6, .int mL, .int mA, .int mW, .int mE, .int mF, .ref h7, .int mM])), (h1, .inl (dA 0, 158, .inl ms)), (h2, .inl (dA 0, 158, .inl mb)), (h3, .inl (dA 0, 158, .inl mv)), (h4, .inl (dA 0, 1264, .inl mp)), (h5, .inl (dA 1, 180, .inl mo)), (h6, .inl (dA 1, 60, .inl mI)), (h7, .inl (dA 0, 240, .inl mc))] H → va_D A [(h0, .inr (10, [.ref h1, .ref h2, .ref h3, .int mi, .ref h4, .int mn, .int x_3, .ref h5, .int mO, .ref h6, .int mL, .int mA, .int mW, .int mE, .int mF, .ref h7, .int mM])), (h1, .inl (dA 0, 158, .inl ms)), (h2, .inl (dA 0, 158, .inl mb)), (h3, .inl (dA 0, 158, .inl mv)), (h4, .inl (dA 0, 1264, .inl mp)), (h5, .inl (dA 1, 180, .inl mo)), (h6, .inl (dA 1, 60, .inl mI)), (h7, .inl (dA 0, 240, .inl mc))] → va_S A s.heap H locs → lv_has ls 9 [(6, .int v_6), (5, .int v_7), (4, .int v_4), (3, .int r_2), (2, .int v_5), (0, .ref h0), (1, .int p0)] → f_X12_guestByRides_L36 ms v_4 k n v_6 v_7 = some (rr, q_mt) → (∀ (y_26 : Int32) (H : Heap) (locs : List Loc) (ls : Array Slot), va_P D cls [(h0, .inr (10, [.ref h1, .ref h2, .ref h3, .int mi, .ref h4, .int mn, .int x_3, .ref h5, .int mO, .ref h6, .int mL, .int mA, .int mW, .int mE, .int mF, .ref h7, .int mM])), (h1, .inl (dA 0, 158, .inl ms)), (h2, .inl (dA 0, 158, .inl mb)), (h3, .inl (dA 0, 158, .inl mv)), (h4, .inl (dA 0, 1264, .inl mp)), (h5, .inl (dA 1, 180, .inl mo)), (h6, .inl (dA 1, 60, .inl mI)), (h7, .inl (dA 0, 240, .inl mc))] H → va_D A [(h0, .inr (10, [.ref h1, .ref h2, .ref h3, .int mi, .ref h4, .int mn, .int x_3, .ref h5, .int mO, .ref h6, .int mL, .int mA, .int mW, .int mE, .int mF, .ref h7, .int mM])), (h1, .inl (dA 0, 158, .inl ms)), (h2, .inl (dA 0, 158, .inl mb)), (h3, .inl (dA 0, 158, .inl mv)), (h4, .inl (dA 0, 1264, .inl mp)), (h5, .inl (dA 1, 180, .inl mo)), (h6, .inl (dA 1, 60, .inl mI)), (h7, .inl (dA 0, 240, .inl mc))] → va_S A s.heap H locs → lv_has ls 9 [(5, .int y_26), (4, .int v_4), (3, .int r_2), (2, .int v_5), (0, .ref h0), (1, .int p0)] → k y_26 = some (rr, q_mt) → W p l e ({ frames := 2, cells := 0, slots := 0, locals := 43 } : Room) s m ([.ref h0, .int p0] : List Value).toArray below meth c H locs 0 0 (MQ below (poMi D rr [(h0, .inr (10, [.ref h1, .ref h2, .ref h3, .int mi, .ref h4, .int mn, .int q_mt, .ref h5, .int mO, .ref h6, .int mL, .int mA, .int mW, .int mE, .int mF, .ref h7, .int mM])), (h1, .inl (dA 0, 158, .inl ms)), (h2, .inl (dA 0, 158, .inl mb)), (h3, .inl (dA 0, 158, .inl mv)), (h4, .inl (dA 0, 1264, .inl mp)), (h5, .inl (dA 1, 180, .inl mo)), (h6, .inl (dA 1, 60, .inl mI)), (h7, .inl (dA 0, 240, .inl mc))] A) ([.ref h0, .int p0] : List Value).toArray s 0 0 A) (F0 m 124 ls [])) → W p l e ({ frames := 2, cells := 0, slots := 0, locals := 43 } : Room) s m ([.ref h0, .int p0] : List Value).toArray below meth c H locs 0 0 (MQ below (poMi D rr [(h0, .inr (10, [.ref h1, .ref h2, .ref h3, .int mi, .ref h4, .int mn, .int q_mt, .ref h5, .int mO, .ref h6, .int mL, .int mA, .int mW, .int mE, .int mF, .ref h7, .int mM])), (h1, .inl (dA 0, 158, .inl ms)), (h2, .inl (dA 0, 158, .inl mb)), (h3, .inl (dA 0, 158, .inl mv)), (h4, .inl (dA 0, 1264, .inl mp)), (h5, .inl (dA 1, 180, .inl mo)), (h6, .inl (dA 1, 60, .inl mI)), (h7, .inl (dA 0, 240, .inl mc))] A) ([.ref h0, .int p0] : List Value).toArray s 0 0 A) (F0 m 36 ls []) := by
            intro n k
            induction n with
            | zero =>
              intro v_6 v_7 H locs ls hP hD hS hl hf hk
              rw [f_X12_guestByRides_L36] at hf
              cases hf
            | succ n ih =>
              intro v_6 v_7 H locs ls hP hD hS hl hf hk
              rw [f_X12_guestByRides_L36] at hf
              refine lv_iload hx hb dX12_guestByRides_36 (lv_at hl 0 rfl) ?_
              refine lv_aload_n hx hb dX12_guestByRides_38 rfl (lv_at hl 5 rfl) ?_
              refine gt_f (C := RX12) (T := TX12) (N := 17) hx hb ha in_X12 hown hK hP 0 rfl rfl 0 (by decide) m_1649 rfl dX12_guestByRides_39 ?_
              refine lv_iconst (v := 1) hx hb dX12_guestByRides_42 (by decide) ?_
              obtain ⟨hi, hf⟩ := sf_ge hf
              refine ia_ld hx hb hK hP 1 rfl hi dX12_guestByRides_43 ?_
              refine lv_icmp_ge (tgt := 124) hx hb dX12_guestByRides_44 (by decide) (fun hc => ?_) (fun hc => ?_)
              · have hf := sf_bp hf hc
                exact hk _ _ _ _ (hP.sub [0, 1, 2, 3, 4, 5, 6, 7] rfl) (hD.sub [0, 1, 2, 3, 4, 5, 6, 7] (by decide) rfl) hS (lv_sub hl [1, 2, 3, 4, 5, 6] rfl) hf
              · have hf := sf_bn hf hc
                refine lv_aload_n hx hb dX12_guestByRides_47 rfl (lv_at hl 5 rfl) ?_
                refine lv_iload hx hb dX12_guestByRides_48 (lv_at hl 0 rfl) ?_
                refine lv_iconst (v := 1) hx hb dX12_guestByRides_50 (by decide) ?_
                obtain ⟨r_8, hc8, hf⟩ := sf_c1e hf
                refine k_Pi (run_PV (As := [.int v_6, .int (1 : Int32)]) (rest := []) ⟨hx, hb, hml, hown, ha⟩ (c_X12_guest l D dA h0 h1 h2 h3 h4 h5 h6 h7  ms mb mv mi mp mn x_3 mo mO mI mL mA mW mE mF mc mM v_6 (1 : Int32) _ hc8) (gi_V m_1757 m_1759 m_39 m_85 m_1760) yd_X12_guest ⟨Nat.le_of_ble_eq_true rfl, Nat.le_of_ble_eq_true rfl⟩ ⟨rfl, rfl⟩ hK hP [0, 1, 2, 3, 4, 5, 6, 7] rfl 0 10 rfl rfl rfl rfl hl.1 rfl (Nat.le_of_ble_eq_true rfl) dX12_guestByRides_51 ⟨Nat.le_of_ble_eq_true rfl, Nat.le_of_ble_eq_true rfl⟩) hP hS (fun H locs hP hS => ?_)
                refine lv_aload_n hx hb dX12_guestByRides_54 rfl (lv_at hl 5 rfl) ?_
                refine lv_iload hx hb dX12_guestByRides_55 (lv_at hl 2 rfl) ?_
                refine lv_iconst (v := 1) hx hb dX12_guestByRides_57 (by decide) ?_
                obtain ⟨r_9, hc9, hf⟩ := sf_c1e hf
                refine k_Pi (run_PV (As := [.int v_4, .int (1 : Int32)]) (rest := [.int r_8]) ⟨hx, hb, hml, hown, ha⟩ (c_X12_guest l D dA h0 h1 h2 h3 h4 h5 h6 h7  ms mb mv mi mp mn x_3 mo mO mI mL mA mW mE mF mc mM v_4 (1 : Int32) _ hc9) (gi_V m_1757 m_1759 m_39 m_85 m_1760) yd_X12_guest ⟨Nat.le_of_ble_eq_true rfl, Nat.le_of_ble_eq_true rfl⟩ ⟨rfl, rfl⟩ hK hP [0, 1, 2, 3, 4, 5, 6, 7] rfl 0 10 rfl rfl rfl rfl hl.1 rfl (Nat.le_of_ble_eq_true rfl) dX12_guestByRides_58 ⟨Nat.le_of_ble_eq_true rfl, Nat.le_of_ble_eq_true rfl⟩) hP hS (fun H locs hP hS => ?_)
                refine lv_isub hx hb dX12_guestByRides_61 ?_
                obtain ⟨x_10, ex_10, hf⟩ := sf_ne hf
                refine tp_i ex_10 ?_
                refine lv_istore (lv' := [(7, .int x_10), (6, .int v_6), (5, .int v_7), (4, .int v_4), (3, .int r_2), (2, .int v_5), (0, .ref h0), (1, .int p0)]) hx hb dX12_guestByRides_62 hl (by decide) rfl (fun ls hl => ?_)
                refine lv_aload_n hx hb dX12_guestByRides_64 rfl (lv_at hl 6 rfl) ?_
                refine lv_iload hx hb dX12_guestByRides_65 (lv_at hl 1 rfl) ?_
                refine lv_iconst (v := 0) hx hb dX12_guestByRides_67 (by decide) ?_
                obtain ⟨r_11, hc11, hf⟩ := sf_c1e hf
                refine k_Pi (run_PV (As := [.int v_6, .int (0 : Int32)]) (rest := []) ⟨hx, hb, hml, hown, ha⟩ (c_X12_guest l D dA h0 h1 h2 h3 h4 h5 h6 h7  ms mb mv mi mp mn x_3 mo mO mI mL mA mW mE mF mc mM v_6 (0 : Int32) _ hc11) (gi_V m_1757 m_1759 m_39 m_85 m_1760) yd_X12_guest ⟨Nat.le_of_ble_eq_true rfl, Nat.le_of_ble_eq_true rfl⟩ ⟨rfl, rfl⟩ hK hP [0, 1, 2, 3, 4, 5, 6, 7] rfl 0 10 rfl rfl rfl rfl hl.1 rfl (Nat.le_of_ble_eq_true rfl) dX12_guestByRides_68 ⟨Nat.le_of_ble_eq_true rfl, Nat.le_of_ble_eq_true rfl⟩) hP hS (fun H locs hP hS => ?_)
                refine lv_aload_n hx hb dX12_guestByRides_71 rfl (lv_at hl 6 rfl) ?_
                refine lv_iload hx hb dX12_guestByRides_72 (lv_at hl 3 rfl) ?_
                refine lv_iconst (v := 0) hx hb dX12_guestByRides_74 (by decide) ?_
                obtain ⟨r_12, hc12, hf⟩ := sf_c1e hf
                refine k_Pi (run_PV (As := [.int v_4, .int (0 : Int32)]) (rest := [.int r_11]) ⟨hx, hb, hml, hown, ha⟩ (c_X12_guest l D dA h0 h1 h2 h3 h4 h5 h6 h7  ms mb mv mi mp mn x_3 mo mO mI mL mA mW mE mF mc mM v_4 (0 : Int32) _ hc12) (gi_V m_1757 m_1759 m_39 m_85 m_1760) yd_X12_guest ⟨Nat.le_of_ble_eq_true rfl, Nat.le_of_ble_eq_true rfl⟩ ⟨rfl, rfl⟩ hK hP [0, 1, 2, 3, 4, 5, 6, 7] rfl 0 10 rfl rfl rfl rfl hl.1 rfl (Nat.le_of_ble_eq_true rfl) dX12_guestByRides_75 ⟨Nat.le_of_ble_eq_true rfl, Nat.le_of_ble_eq_true rfl⟩) hP hS (fun H locs hP hS => ?_)
                refine lv_isub hx hb dX12_guestByRides_78 ?_
                obtain ⟨x_13, ex_13, hf⟩ := sf_ne hf
                refine tp_i ex_13 ?_
                refine lv_istore (lv' := [(8, .int x_13), (7, .int x_10), (6, .int v_6), (5, .int v_7), (4, .int v_4), (3, .int r_2), (2, .int v_5), (0, .ref h0), (1, .int p0)]) hx hb dX12_guestByRides_79 hl (by decide) rfl (fun ls hl => ?_)
                refine lv_iload hx hb dX12_guestByRides_81 (lv_at hl 3 rfl) ?_
                refine lv_iload hx hb dX12_guestByRides_83 (lv_at hl 1 rfl) ?_
                refine lv_if_gt (tgt := 110) hx hb dX12_guestByRides_85 (by decide) (fun hc => ?_) (fun hc => ?_)
                · have hf := sf_bp hf hc
                  refine lv_iconst (v := 1) hx hb dX12_guestByRides_110 (by decide) ?_
                  refine lv_goto (tgt := 115) hx hb dX12_guestByRides_111 (by decide) ?_
                  refine lv_iadd hx hb dX12_guestByRides_115 ?_
                  obtain ⟨x_14, ex_14, hf⟩ := sf_ne hf
                  refine tp_i ex_14 ?_
                  refine lv_istore (lv' := [(5, .int x_14), (8, .int x_13), (7, .int x_10), (6, .int v_6), (4, .int v_4), (3, .int r_2), (2, .int v_5), (0, .ref h0), (1, .int p0)]) hx hb dX12_guestByRides_116 hl (by decide) rfl (fun ls hl => ?_)
                  obtain ⟨x_15, ex_15, hf⟩ := sf_ne hf
                  refine ii_nc (lv' := [(6, .int x_15), (5, .int x_14), (8, .int x_13), (7, .int x_10), (4, .int v_4), (3, .int r_2), (2, .int v_5), (0, .ref h0), (1, .int p0)]) (k := 3) hx hb dX12_guestByRides_118 hl rfl ex_15 (by decide) (by decide) rfl (fun ls hl => ?_)
                  refine lv_goto (tgt := 36) hx hb dX12_guestByRides_121 (by decide) ?_
                  exact ih _ _ _ _ _ (hP.sub [0, 1, 2, 3, 4, 5, 6, 7] rfl) (hD.sub [0, 1, 2, 3, 4, 5, 6, 7] (by decide) rfl) hS (lv_sub hl [0, 1, 4, 5, 6, 7, 8] rfl) hf hk
                · have hf := sf_bn hf hc
                  refine lv_iload hx hb dX12_guestByRides_88 (lv_at hl 1 rfl) ?_
                  refine lv_if_ne (tgt := 114) hx hb dX12_guestByRides_90 (by decide) (fun hc => ?_) (fun hc => ?_)
                  · have hf := sf_bn hf hc
                    refine lv_iconst (v := 0) hx hb dX12_guestByRides_114 (by decide) ?_
                    refine lv_iadd hx hb dX12_guestByRides_115 ?_
                    obtain ⟨x_16, ex_16, hf⟩ := sf_ne hf
                    refine tp_i ex_16 ?_
                    refine lv_istore (lv' := [(5, .int x_16), (8, .int x_13), (7, .int x_10), (6, .int v_6), (4, .int v_4), (3, .int r_2), (2, .int v_5), (0, .ref h0), (1, .int p0)]) hx hb dX12_guestByRides_116 hl (by decide) rfl (fun ls hl => ?_)
                    obtain ⟨x_17, ex_17, hf⟩ := sf_ne hf
                    refine ii_nc (lv' := [(6, .int x_17), (5, .int x_16), (8, .int x_13), (7, .int x_10), (4, .int v_4), (3, .int r_2), (2, .int v_5), (0, .ref h0), (1, .int p0)]) (k := 3) hx hb dX12_guestByRides_118 hl rfl ex_17 (by decide) (by decide) rfl (fun ls hl => ?_)
                    refine lv_goto (tgt := 36) hx hb dX12_guestByRides_121 (by decide) ?_
                    exact ih _ _ _ _ _ (hP.sub [0, 1, 2, 3, 4, 5, 6, 7] rfl) (hD.sub [0, 1, 2, 3, 4, 5, 6, 7] (by decide) rfl) hS (lv_sub hl [0, 1, 4, 5, 6, 7, 8] rfl) hf hk
                  · have hf := sf_bp hf hc
                    refine lv_iload hx hb dX12_guestByRides_93 (lv_at hl 0 rfl) ?_
                    refine lv_if_gt (tgt := 110) hx hb dX12_guestByRides_95 (by decide) (fun hc => ?_) (fun hc => ?_)
                    · have hf := sf_bp hf hc
                      refine lv_iconst (v := 1) hx hb dX12_guestByRides_110 (by decide) ?_
                      refine lv_goto (tgt := 115) hx hb dX12_guestByRides_111 (by decide) ?_
                      refine lv_iadd hx hb dX12_guestByRides_115 ?_
                      obtain ⟨x_18, ex_18, hf⟩ := sf_ne hf
                      refine tp_i ex_18 ?_
                      refine lv_istore (lv' := [(5, .int x_18), (8, .int x_13), (7, .int x_10), (6, .int v_6), (4, .int v_4), (3, .int r_2), (2, .int v_5), (0, .ref h0), (1, .int p0)]) hx hb dX12_guestByRides_116 hl (by decide) rfl (fun ls hl => ?_)
                      obtain ⟨x_19, ex_19, hf⟩ := sf_ne hf
                      refine ii_nc (lv' := [(6, .int x_19), (5, .int x_18), (8, .int x_13), (7, .int x_10), (4, .int v_4), (3, .int r_2), (2, .int v_5), (0, .ref h0), (1, .int p0)]) (k := 3) hx hb dX12_guestByRides_118 hl rfl ex_19 (by decide) (by decide) rfl (fun ls hl => ?_)
                      refine lv_goto (tgt := 36) hx hb dX12_guestByRides_121 (by decide) ?_
                      exact ih _ _ _ _ _ (hP.sub [0, 1, 2, 3, 4, 5, 6, 7] rfl) (hD.sub [0, 1, 2, 3, 4, 5, 6, 7] (by decide) rfl) hS (lv_sub hl [0, 1, 4, 5, 6, 7, 8] rfl) hf hk
                    · have hf := sf_bn hf hc
                      refine lv_iload hx hb dX12_guestByRides_98 (lv_at hl 0 rfl) ?_
                      refine lv_if_ne (tgt := 114) hx hb dX12_guestByRides_100 (by decide) (fun hc => ?_) (fun hc => ?_)
                      · have hf := sf_bn hf hc
                        refine lv_iconst (v := 0) hx hb dX12_guestByRides_114 (by decide) ?_
                        refine lv_iadd hx hb dX12_guestByRides_115 ?_
                        obtain ⟨x_20, ex_20, hf⟩ := sf_ne hf
                        refine tp_i ex_20 ?_
                        refine lv_istore (lv' := [(5, .int x_20), (8, .int x_13), (7, .int x_10), (6, .int v_6), (4, .int v_4), (3, .int r_2), (2, .int v_5), (0, .ref h0), (1, .int p0)]) hx hb dX12_guestByRides_116 hl (by decide) rfl (fun ls hl => ?_)
                        obtain ⟨x_21, ex_21, hf⟩ := sf_ne hf
                        refine ii_nc (lv' := [(6, .int x_21), (5, .int x_20), (8, .int x_13), (7, .int x_10), (4, .int v_4), (3, .int r_2), (2, .int v_5), (0, .ref h0), (1, .int p0)]) (k := 3) hx hb dX12_guestByRides_118 hl rfl ex_21 (by decide) (by decide) rfl (fun ls hl => ?_)
                        refine lv_goto (tgt := 36) hx hb dX12_guestByRides_121 (by decide) ?_
                        exact ih _ _ _ _ _ (hP.sub [0, 1, 2, 3, 4, 5, 6, 7] rfl) (hD.sub [0, 1, 2, 3, 4, 5, 6, 7] (by decide) rfl) hS (lv_sub hl [0, 1, 4, 5, 6, 7, 8] rfl) hf hk
                      · have hf := sf_bp hf hc
                        refine lv_iload hx hb dX12_guestByRides_103 (lv_at hl 2 rfl) ?_
                        refine lv_iload hx hb dX12_guestByRides_105 (lv_at hl 4 rfl) ?_
                        refine lv_icmp_ge (tgt := 114) hx hb dX12_guestByRides_107 (by decide) (fun hc => ?_) (fun hc => ?_)
                        · have hf := sf_bp hf hc
                          refine lv_iconst (v := 0) hx hb dX12_guestByRides_114 (by decide) ?_
                          refine lv_iadd hx hb dX12_guestByRides_115 ?_
                          obtain ⟨x_22, ex_22, hf⟩ := sf_ne hf
                          refine tp_i ex_22 ?_
                          refine lv_istore (lv' := [(5, .int x_22), (8, .int x_13), (7, .int x_10), (6, .int v_6), (4, .int v_4), (3, .int r_2), (2, .int v_5), (0, .ref h0), (1, .int p0)]) hx hb dX12_guestByRides_116 hl (by decide) rfl (fun ls hl => ?_)
                          obtain ⟨x_23, ex_23, hf⟩ := sf_ne hf
                          refine ii_nc (lv' := [(6, .int x_23), (5, .int x_22), (8, .int x_13), (7, .int x_10), (4, .int v_4), (3, .int r_2), (2, .int v_5), (0, .ref h0), (1, .int p0)]) (k := 3) hx hb dX12_guestByRides_118 hl rfl ex_23 (by decide) (by decide) rfl (fun ls hl => ?_)
                          refine lv_goto (tgt := 36) hx hb dX12_guestByRides_121 (by decide) ?_
                          exact ih _ _ _ _ _ (hP.sub [0, 1, 2, 3, 4, 5, 6, 7] rfl) (hD.sub [0, 1, 2, 3, 4, 5, 6, 7] (by decide) rfl) hS (lv_sub hl [0, 1, 4, 5, 6, 7, 8] rfl) hf hk
                        · have hf := sf_bn hf hc
                          refine lv_iconst (v := 1) hx hb dX12_guestByRides_110 (by decide) ?_
                          refine lv_goto (tgt := 115) hx hb dX12_guestByRides_111 (by decide) ?_
                          refine lv_iadd hx hb dX12_guestByRides_115 ?_
                          obtain ⟨x_24, ex_24, hf⟩ := sf_ne hf
                          refine tp_i ex_24 ?_
                          refine lv_istore (lv' := [(5, .int x_24), (8, .int x_13), (7, .int x_10), (6, .int v_6), (4, .int v_4), (3, .int r_2), (2, .int v_5), (0, .ref h0), (1, .int p0)]) hx hb dX12_guestByRides_116 hl (by decide) rfl (fun ls hl => ?_)
                          obtain ⟨x_25, ex_25, hf⟩ := sf_ne hf
                          refine ii_nc (lv' := [(6, .int x_25), (5, .int x_24), (8, .int x_13), (7, .int x_10), (4, .int v_4), (3, .int r_2), (2, .int v_5), (0, .ref h0), (1, .int p0)]) (k := 3) hx hb dX12_guestByRides_118 hl rfl ex_25 (by decide) (by decide) rfl (fun ls hl => ?_)
                          refine lv_goto (tgt := 36) hx hb dX12_guestByRides_121 (by decide) ?_
                          exact ih _ _ _ _ _ (hP.sub [0, 1, 2, 3, 4, 5, 6, 7] rfl) (hD.sub [0, 1, 2, 3, 4, 5, 6, 7] (by decide) rfl) hS (lv_sub hl [0, 1, 4, 5, 6, 7, 8] rfl) hf hk
          refine hL36 _ _ _ _ _ _ _ hP hD hS (lv_sub hl [0, 1, 2, 3, 4, 5, 6] rfl) hf (fun y_26 H locs ls hP hD hS hl hf => ?_)
          refine lv_iload hx hb dX12_guestByRides_124 (lv_at hl 0 rfl) ?_
          refine lv_iload_n hx hb dX12_guestByRides_126 rfl (lv_at hl 5 rfl) ?_
          refine lv_icmp_ne (tgt := 135) hx hb dX12_guestByRides_127 (by decide) (fun hc => ?_) (fun hc => ?_)
          · have hf := sf_bn hf hc
            refine lv_iload_n hx hb dX12_guestByRides_135 rfl (lv_at hl 3 rfl) ?_
            refine lv_istore_n (lv' := [(2, .int v_5), (5, .int y_26), (4, .int v_4), (3, .int r_2), (0, .ref h0), (1, .int p0)]) hx hb dX12_guestByRides_136 rfl hl (by decide) rfl (fun ls hl => ?_)
            obtain ⟨x_27, ex_27, hf⟩ := sf_ne hf
            refine ii_nc (lv' := [(4, .int x_27), (2, .int v_5), (5, .int y_26), (3, .int r_2), (0, .ref h0), (1, .int p0)]) (k := 2) hx hb dX12_guestByRides_137 hl rfl ex_27 (by decide) (by decide) rfl (fun ls hl => ?_)
            refine lv_goto (tgt := 15) hx hb dX12_guestByRides_140 (by decide) ?_
            exact ih _ _ _ _ _ (hP.sub [0, 1, 2, 3, 4, 5, 6, 7] rfl) (hD.sub [0, 1, 2, 3, 4, 5, 6, 7] (by decide) rfl) hS (lv_sub hl [0, 3, 1, 4, 5] rfl) hf hk
          · have hf := sf_bp hf hc
            refine lv_iload hx hb dX12_guestByRides_130 (lv_at hl 1 rfl) ?_
            refine lv_goto (tgt := 136) hx hb dX12_guestByRides_132 (by decide) ?_
            refine lv_istore_n (lv' := [(2, .int v_4), (5, .int y_26), (4, .int v_4), (3, .int r_2), (0, .ref h0), (1, .int p0)]) hx hb dX12_guestByRides_136 rfl hl (by decide) rfl (fun ls hl => ?_)
            obtain ⟨x_28, ex_28, hf⟩ := sf_ne hf
            refine ii_nc (lv' := [(4, .int x_28), (2, .int v_4), (5, .int y_26), (3, .int r_2), (0, .ref h0), (1, .int p0)]) (k := 2) hx hb dX12_guestByRides_137 hl rfl ex_28 (by decide) (by decide) rfl (fun ls hl => ?_)
            refine lv_goto (tgt := 15) hx hb dX12_guestByRides_140 (by decide) ?_
            exact ih _ _ _ _ _ (hP.sub [0, 1, 2, 3, 4, 5, 6, 7] rfl) (hD.sub [0, 1, 2, 3, 4, 5, 6, 7] (by decide) rfl) hS (lv_sub hl [0, 3, 1, 4, 5] rfl) hf hk
  refine hL15 _ _ _ _ _ _ _ hP hD hS (lv_sub hl [0, 1, 2, 3, 4] rfl) hf (fun y_29 H locs ls hP hD hS hl hf => ?_)
  refine lv_iload_n hx hb dX12_guestByRides_143 rfl (lv_at hl 0 rfl) ?_
  cases hf
  exact rt_Mi hx hb hr hlocks (hP.sub [0, 1, 2, 3, 4, 5, 6, 7] rfl) (hD.sub [0, 1, 2, 3, 4, 5, 6, 7] (by decide) rfl) hS dX12_guestByRides_144

def f_X12_slideByWetness_L36 (ms : Nat → Int32) (v_4 : Int32) (k : Int32 → Option (Int32 × Int32)) : Nat → Int32 → Int32 → Option (Int32 × Int32)
  | 0, _, _ => none
  | n + 1, v_6, v_7 => sf_g (sf_in (0 : Int32) 158 = true) (sf_b ((ms (0 : Int32).toNatClampNeg) ≤ v_6) (k v_7) (sf_c1 (f_X12_slide ms v_6 (2 : Int32)) (fun r_8 => sf_c1 (f_X12_slide ms v_4 (2 : Int32)) (fun r_9 => sf_n ((r_8 - r_9)) (fun x_10 => sf_b ((0 : Int32) < x_10) (sf_n ((v_7 + (1 : Int32))) (fun x_11 => sf_n (v_6 + (1 : Int32)) (fun x_12 => f_X12_slideByWetness_L36 ms v_4 k n x_12 x_11))) (sf_b (x_10 = (0 : Int32)) (sf_b (v_4 ≤ v_6) (sf_n ((v_7 + (0 : Int32))) (fun x_15 => sf_n (v_6 + (1 : Int32)) (fun x_16 => f_X12_slideByWetness_L36 ms v_4 k n x_16 x_15))) (sf_n ((v_7 + (1 : Int32))) (fun x_17 => sf_n (v_6 + (1 : Int32)) (fun x_18 => f_X12_slideByWetness_L36 ms v_4 k n x_18 x_17)))) (sf_n ((v_7 + (0 : Int32))) (fun x_13 => sf_n (v_6 + (1 : Int32)) (fun x_14 => f_X12_slideByWetness_L36 ms v_4 k n x_14 x_13)))))))))
def f_X12_slideByWetness_L15 (ms : Nat → Int32) (p0 : Int32) (r_2 : Int32) (k : Int32 → Option (Int32 × Int32)) : Nat → Int32 → Int32 → Option (Int32 × Int32)
  | 0, _, _ => none
  | n + 1, v_4, v_5 => sf_g (sf_in (0 : Int32) 158 = true) (sf_b ((ms (0 : Int32).toNatClampNeg) ≤ v_4) (k v_5) (sf_b (r_2 = (0 : Int32)) (k v_5) (f_X12_slideByWetness_L36 ms v_4 (fun y_19 => sf_b (y_19 = p0) (sf_n (v_4 + (1 : Int32)) (fun x_21 => f_X12_slideByWetness_L15 ms p0 r_2 k n x_21 v_4)) (sf_n (v_4 + (1 : Int32)) (fun x_20 => f_X12_slideByWetness_L15 ms p0 r_2 k n x_20 v_5))) 2000 (0 : Int32) (0 : Int32))))
def f_X12_slideByWetness (ms : Nat → Int32) (mt : Int32) (p0 : Int32) : Option (Int32 × Int32) :=
  sf_c1 (f_X12_isSlide ms p0) (fun r_1 => sf_c2 (f_X12_isThere mt r_1) (fun r_2 x_3 => f_X12_slideByWetness_L15 ms p0 r_2 (fun y_22 => some (y_22, x_3)) 2000 (0 : Int32) (0 : Int32)))
theorem yd_X12_slideByWetness : yX12_slideByWetness.cls = RX12 ∧ yX12_slideByWetness.cls ≠ "java/lang/invoke/MethodHandle" ∧ yX12_slideByWetness.cls ≠ "java/lang/invoke/VarHandle" ∧ (parseMethodDescriptor yX12_slideByWetness.desc).map (fun d => d.parameters.length) = some 1 := ⟨rfl, by decide, by decide, by decide +kernel⟩
set_option maxRecDepth 100000 in
set_option maxHeartbeats 4000000 in
theorem c_X12_slideByWetness (l : Launch) (D : va_G) (dA : Nat → ClassId) (h0 h1 h2 h3 h4 h5 h6 h7 : Nat) (sz : Nat) (ms : Nat → Int32) (mb : Nat → Int32) (mv : Nat → Int32) (mi : Int32) (mp : Nat → Int32) (mn : Int32) (mt : Int32) (mo : Nat → Int32) (mO : Int32) (mI : Nat → Int32) (mL : Int32) (mA : Int32) (mW : Int32) (mE : Int32) (mF : Int32) (mc : Nat → Int32) (mM : Int32) (p0 : Int32) (rr : Int32) (q_mt : Int32) (hf : f_X12_slideByWetness ms mt p0 = some (rr, q_mt)) : Met l yX12_slideByWetness (wo (.code yX12_slideByWetness cX12_slideByWetness 8 (some .int))) ({ frames := 2, cells := 0, slots := 0, locals := 43 } : Room) (preM D dA [.ref h0, .int p0] sz [(h0, .inr (10, [.ref h1, .ref h2, .ref h3, .int mi, .ref h4, .int mn, .int mt, .ref h5, .int mO, .ref h6, .int mL, .int mA, .int mW, .int mE, .int mF, .ref h7, .int mM])), (h1, .inl (dA 0, 158, .inl ms)), (h2, .inl (dA 0, 158, .inl mb)), (h3, .inl (dA 0, 158, .inl mv)), (h4, .inl (dA 0, 1264, .inl mp)), (h5, .inl (dA 1, 180, .inl mo)), (h6, .inl (dA 1, 60, .inl mI)), (h7, .inl (dA 0, 240, .inl mc))]) (poMi D rr [(h0, .inr (10, [.ref h1, .ref h2, .ref h3, .int mi, .ref h4, .int mn, .int q_mt, .ref h5, .int mO, .ref h6, .int mL, .int mA, .int mW, .int mE, .int mF, .ref h7, .int mM])), (h1, .inl (dA 0, 158, .inl ms)), (h2, .inl (dA 0, 158, .inl mb)), (h3, .inl (dA 0, 158, .inl mv)), (h4, .inl (dA 0, 1264, .inl mp)), (h5, .inl (dA 1, 180, .inl mo)), (h6, .inl (dA 1, 60, .inl mI)), (h7, .inl (dA 0, 240, .inl mc))] (va_A [(h0, .inr (10, [.ref h1, .ref h2, .ref h3, .int mi, .ref h4, .int mn, .int mt, .ref h5, .int mO, .ref h6, .int mL, .int mA, .int mW, .int mE, .int mF, .ref h7, .int mM])), (h1, .inl (dA 0, 158, .inl ms)), (h2, .inl (dA 0, 158, .inl mb)), (h3, .inl (dA 0, 158, .inl mv)), (h4, .inl (dA 0, 1264, .inl mp)), (h5, .inl (dA 1, 180, .inl mo)), (h6, .inl (dA 1, 60, .inl mI)), (h7, .inl (dA 0, 240, .inl mc))] sz)) 0 0 (va_A [(h0, .inr (10, [.ref h1, .ref h2, .ref h3, .int mi, .ref h4, .int mn, .int mt, .ref h5, .int mO, .ref h6, .int mL, .int mA, .int mW, .int mE, .int mF, .ref h7, .int mM])), (h1, .inl (dA 0, 158, .inl ms)), (h2, .inl (dA 0, 158, .inl mb)), (h3, .inl (dA 0, 158, .inl mv)), (h4, .inl (dA 0, 1264, .inl mp)), (h5, .inl (dA 1, 180, .inl mo)), (h6, .inl (dA 1, 60, .inl mI)), (h7, .inl (dA 0, 240, .inl mc))] sz) := by
  refine of_M (y := yX12_slideByWetness) (av := [.ref h0, .int p0]) (ws := [(h0, .inr (10, [.ref h1, .ref h2, .ref h3, .int mi, .ref h4, .int mn, .int mt, .ref h5, .int mO, .ref h6, .int mL, .int mA, .int mW, .int mE, .int mF, .ref h7, .int mM])), (h1, .inl (dA 0, 158, .inl ms)), (h2, .inl (dA 0, 158, .inl mb)), (h3, .inl (dA 0, 158, .inl mv)), (h4, .inl (dA 0, 1264, .inl mp)), (h5, .inl (dA 1, 180, .inl mo)), (h6, .inl (dA 1, 60, .inl mI)), (h7, .inl (dA 0, 240, .inl mc))]) (sz := sz) (own := RX12) (Qc := poMi D rr [(h0, .inr (10, [.ref h1, .ref h2, .ref h3, .int mi, .ref h4, .int mn, .int q_mt, .ref h5, .int mO, .ref h6, .int mL, .int mA, .int mW, .int mE, .int mF, .ref h7, .int mM])), (h1, .inl (dA 0, 158, .inl ms)), (h2, .inl (dA 0, 158, .inl mb)), (h3, .inl (dA 0, 158, .inl mv)), (h4, .inl (dA 0, 1264, .inl mp)), (h5, .inl (dA 1, 180, .inl mo)), (h6, .inl (dA 1, 60, .inl mI)), (h7, .inl (dA 0, 240, .inl mc))]) (by decide) rfl (Nat.le_of_ble_eq_true rfl) ?_
  intro p e s m below meth c A hx hb hr ha hown hml hlocks hin hP hK hD hS hA ls hl
  have hl : lv_has ls 8 [(0, .ref h0), (1, .int p0)] := hl
  rw [f_X12_slideByWetness] at hf
  refine lv_iconst (v := 0) hx hb dX12_slideByWetness_0 (by decide) ?_
  refine lv_istore_n (lv' := [(2, .int (0 : Int32)), (0, .ref h0), (1, .int p0)]) hx hb dX12_slideByWetness_1 rfl hl (by decide) rfl (fun ls hl => ?_)
  refine lv_aload_n hx hb dX12_slideByWetness_2 rfl (lv_at hl 1 rfl) ?_
  refine lv_aload_n hx hb dX12_slideByWetness_3 rfl (lv_at hl 1 rfl) ?_
  refine lv_iload_n hx hb dX12_slideByWetness_4 rfl (lv_at hl 2 rfl) ?_
  obtain ⟨r_1, hc1, hf⟩ := sf_c1e hf
  refine k_Pi (run_PV (As := [.int p0]) (rest := [.ref h0]) ⟨hx, hb, hml, hown, ha⟩ (c_X12_isSlide l D dA h0 h1 h2 h3 h4 h5 h6 h7  ms mb mv mi mp mn mt mo mO mI mL mA mW mE mF mc mM p0 _ hc1) (gi_V m_1749 m_1751 m_37 m_85 m_1752) yd_X12_isSlide ⟨Nat.le_of_ble_eq_true rfl, Nat.le_of_ble_eq_true rfl⟩ ⟨rfl, rfl⟩ hK hP [0, 1, 2, 3, 4, 5, 6, 7] rfl 0 10 rfl rfl rfl rfl hl.1 rfl (Nat.le_of_ble_eq_true rfl) dX12_slideByWetness_5 ⟨Nat.le_of_ble_eq_true rfl, Nat.le_of_ble_eq_true rfl⟩) hP hS (fun H locs hP hS => ?_)
  obtain ⟨r_2, x_3, hc3, hf⟩ := sf_c2e hf
  refine k_Mi (wr := []) (run_MV (As := [.int r_1]) (rest := []) ⟨hx, hb, hml, hown, ha⟩ (c_X12_isThere l D dA h0 h1 h2 h3 h4 h5 h6 h7 _ ms mb mv mi mp mn mt mo mO mI mL mA mW mE mF mc mM r_1 _ _ hc3) (gi_V m_1867 m_1869 m_59 m_85 m_1870) yd_X12_isThere ⟨Nat.le_of_ble_eq_true rfl, Nat.le_of_ble_eq_true rfl⟩ ⟨rfl, rfl⟩ hK hP hD [0, 1, 2, 3, 4, 5, 6, 7] (by decide) rfl 0 10 rfl rfl rfl rfl hl.1 rfl (Nat.le_of_ble_eq_true rfl) dX12_slideByWetness_8 ⟨Nat.le_of_ble_eq_true rfl, Nat.le_of_ble_eq_true rfl⟩) hP hD hS hA [0, 1, 2, 3, 4, 5, 6, 7] [] rfl rfl (by decide) (by decide) (fun H locs hP hD hS => ?_)
  refine lv_istore_n (lv' := [(3, .int r_2), (2, .int (0 : Int32)), (0, .ref h0), (1, .int p0)]) hx hb dX12_slideByWetness_11 rfl hl (by decide) rfl (fun ls hl => ?_)
  refine lv_iconst (v := 0) hx hb dX12_slideByWetness_12 (by decide) ?_
  refine lv_istore (lv' := [(4, .int (0 : Int32)), (3, .int r_2), (2, .int (0 : Int32)), (0, .ref h0), (1, .int p0)]) hx hb dX12_slideByWetness_13 hl (by decide) rfl (fun ls hl => ?_)
  have hL15 : ∀ (n : Nat) (k : Int32 → Option (Int32 × Int32)) (v_4 : Int32) (v_5 : Int32) (H : Heap) (locs : List Loc) (ls : Array Slot), va_P D cls [(h0, .inr (10, [.ref h1, .ref h2, .ref h3, .int mi, .ref h4, .int mn, .int x_3, .ref h5, .int mO, .ref h6, .int mL, .int mA, .int mW, .int mE, .int mF, .ref h7, .int mM])), (h1, .inl (dA 0, 158, .inl ms)), (h2, .inl (dA 0, 158, .inl mb)), (h3, .inl (dA 0, 158, .inl mv)), (h4, .inl (dA 0, 1264, .inl mp)), (h5, .inl (dA 1, 180, .inl mo)), (h6, .inl (dA 1, 60, .inl mI)), (h7, .inl (dA 0, 240, .inl mc))] H → va_D A [(h0, .inr (10, [.ref h1, .ref h2, .ref h3, .int mi, .ref h4, .int mn, .int x_3, .ref h5, .int mO, .ref h6, .int mL, .int mA, .int mW, .int mE, .int mF, .ref h7, .int mM])), (h1, .inl (dA 0, 158, .inl ms)), (h2, .inl (dA 0, 158, .inl mb)), (h3, .inl (dA 0, 158, .inl mv)), (h4, .inl (dA 0, 1264, .inl mp)), (h5, .inl (dA 1, 180, .inl mo)), (h6, .inl (dA 1, 60, .inl mI)), (h7, .inl (dA 0, 240, .inl mc))] → va_S A s.heap H locs → lv_has ls 8 [(4, .int v_4), (3, .int r_2), (2, .int v_5), (0, .ref h0), (1, .int p0)] → f_X12_slideByWetness_L15 ms p0 r_2 k n v_4 v_5 = some (rr, q_mt) → (∀ (y_22 : Int32) (H : Heap) (locs : List Loc) (ls : Array Slot), va_P D cls [(h0, .inr (10, [.ref h1, .ref h2, .ref h3, .int mi, .ref h4, .int mn, .int x_3, .ref h5, .int mO, .ref h6, .int mL, .int mA, .int mW, .int mE, .int mF, .ref h7, .int mM])), (h1, .inl (dA 0, 158, .inl ms)), (h2, .inl (dA 0, 158, .inl mb)), (h3, .inl (dA 0, 158, .inl mv)), (h4, .inl (dA 0, 1264, .inl mp)), (h5, .inl (dA 1, 180, .inl mo)), (h6, .inl (dA 1, 60, .inl mI)), (h7, .inl (dA 0, 240, .inl mc))] H → va_D A [(h0, .inr (10, [.ref h1, .ref h2, .ref h3, .int mi, .ref h4, .int mn, .int x_3, .ref h5, .int mO, .ref h6, .int mL, .int mA, .int mW, .int mE, .int mF, .ref h7, .int mM])), (h1, .inl (dA 0, 158, .inl ms)), (h2, .inl (dA 0, 158, .inl mb)), (h3, .inl (dA 0, 158, .inl mv)), (h4, .inl (dA 0, 1264, .inl mp)), (h5, .inl (dA 1, 180, .inl mo)), (h6, .inl (dA 1, 60, .inl mI)), (h7, .inl (dA 0, 240, .inl mc))] → va_S A s.heap H locs → lv_has ls 8 [(2, .int y_22)] → k y_22 = some (rr, q_mt) → W p l e ({ frames := 2, cells := 0, slots := 0, locals := 43 } : Room) s m ([.ref h0, .int p0] : List Value).toArray below meth c H locs 0 0 (MQ below (poMi D rr [(h0, .inr (10, [.ref h1, .ref h2, .ref h3, .int mi, .ref h4, .int mn, .int q_mt, .ref h5, .int mO, .ref h6, .int mL, .int mA, .int mW, .int mE, .int mF, .ref h7, .int mM])), (h1, .inl (dA 0, 158, .inl ms)), (h2, .inl (dA 0, 158, .inl mb)), (h3, .inl (dA 0, 158, .inl mv)), (h4, .inl (dA 0, 1264, .inl mp)), (h5, .inl (dA 1, 180, .inl mo)), (h6, .inl (dA 1, 60, .inl mI)), (h7, .inl (dA 0, 240, .inl mc))] A) ([.ref h0, .int p0] : List Value).toArray s 0 0 A) (F0 m 116 ls [])) → W p l e ({ frames := 2, cells := 0, slots := 0, locals := 43 } : Room) s m ([.ref h0, .int p0] : List Value).toArray below meth c H locs 0 0 (MQ below (poMi D rr [(h0, .inr (10, [.ref h1, .ref h2, .ref h3, .int mi, .ref h4, .int mn, .int q_mt, .ref h5, .int mO, .ref h6, .int mL, .int mA, .int mW, .int mE, .int mF, .ref h7, .int mM])), (h1, .inl (dA 0, 158, .inl ms)), (h2, .inl (dA 0, 158, .inl mb)), (h3, .inl (dA 0, 158, .inl mv)), (h4, .inl (dA 0, 1264, .inl mp)), (h5, .inl (dA 1, 180, .inl mo)), (h6, .inl (dA 1, 60, .inl mI)), (h7, .inl (dA 0, 240, .inl mc))] A) ([.ref h0, .int p0] : List Value).toArray s 0 0 A) (F0 m 15 ls []) := by
    intro n k
    induction n with
    | zero =>
      intro v_4 v_5 H locs ls hP hD hS hl hf hk
      rw [f_X12_slideByWetness_L15] at hf
      cases hf
    | succ n ih =>
      intro v_4 v_5 H locs ls hP hD hS hl hf hk
      rw [f_X12_slideByWetness_L15] at hf
      refine lv_iload hx hb dX12_slideByWetness_15 (lv_at hl 0 rfl) ?_
      refine lv_aload_n hx hb dX12_slideByWetness_17 rfl (lv_at hl 3 rfl) ?_
      refine gt_f (C := RX12) (T := TX12) (N := 17) hx hb ha in_X12 hown hK hP 0 rfl rfl 0 (by decide) m_1649 rfl dX12_slideByWetness_18 ?_
      refine lv_iconst (v := 0) hx hb dX12_slideByWetness_21 (by decide) ?_
      obtain ⟨hi, hf⟩ := sf_ge hf
      refine ia_ld hx hb hK hP 1 rfl hi dX12_slideByWetness_22 ?_
      refine lv_icmp_ge (tgt := 116) hx hb dX12_slideByWetness_23 (by decide) (fun hc => ?_) (fun hc => ?_)
      · have hf := sf_bp hf hc
        exact hk _ _ _ _ (hP.sub [0, 1, 2, 3, 4, 5, 6, 7] rfl) (hD.sub [0, 1, 2, 3, 4, 5, 6, 7] (by decide) rfl) hS (lv_sub hl [2] rfl) hf
      · have hf := sf_bn hf hc
        refine lv_iload_n hx hb dX12_slideByWetness_26 rfl (lv_at hl 1 rfl) ?_
        refine lv_if_eq (tgt := 116) hx hb dX12_slideByWetness_27 (by decide) (fun hc => ?_) (fun hc => ?_)
        · have hf := sf_bp hf hc
          exact hk _ _ _ _ (hP.sub [0, 1, 2, 3, 4, 5, 6, 7] rfl) (hD.sub [0, 1, 2, 3, 4, 5, 6, 7] (by decide) rfl) hS (lv_sub hl [2] rfl) hf
        · have hf := sf_bn hf hc
          refine lv_iconst (v := 0) hx hb dX12_slideByWetness_30 (by decide) ?_
          refine lv_istore (lv' := [(5, .int (0 : Int32)), (4, .int v_4), (3, .int r_2), (2, .int v_5), (0, .ref h0), (1, .int p0)]) hx hb dX12_slideByWetness_31 hl (by decide) rfl (fun ls hl => ?_)
          refine lv_iconst (v := 0) hx hb dX12_slideByWetness_33 (by decide) ?_
          refine lv_istore (lv' := [(6, .int (0 : Int32)), (5, .int (0 : Int32)), (4, .int v_4), (3, .int r_2), (2, .int v_5), (0, .ref h0), (1, .int p0)]) hx hb dX12_slideByWetness_34 hl (by decide) rfl (fun ls hl => ?_)
          have hL36 : ∀ (n : Nat) (k : Int32 → Option (Int32 × Int32)) (v_6 : Int32) (v_7 : Int32) (H : Heap) (locs : List Loc) (ls : Array Slot), va_P D cls [(h0, .inr (10, [.ref h1, .ref h2, .ref h3, .int mi, .ref h4, .int mn, .int x_3, .ref h5, .int mO, .ref h6, .int mL, .int mA, .int mW, .int mE, .int mF, .ref h7, .int mM])), (h1, .inl (dA 0, 158, .inl ms)), (h2, .inl (dA 0, 158, .inl mb)), (h3, .inl (dA 0, 158, .inl mv)), (h4, .inl (dA 0, 1264, .inl mp)), (h5, .inl (dA 1, 180, .inl mo)), (h6, .inl (dA 1, 60, .inl mI)), (h7, .inl (dA 0, 240, .inl mc))] H → va_D A [(h0, .inr (10, [.ref h1, .ref h2, .ref h3, .int mi, .ref h4, .int mn, .int x_3, .ref h5, .int mO, .ref h6, .int mL, .int mA, .int mW, .int mE, .int mF, .ref h7, .int mM])), (h1, .inl (dA 0, 158, .inl ms)), (h2, .inl (dA 0, 158, .inl mb)), (h3, .inl (dA 0, 158, .inl mv)), (h4, .inl (dA 0, 1264, .inl mp)), (h5, .inl (dA 1, 180, .inl mo)), (h6, .inl (dA 1, 60, .inl mI)), (h7, .inl (dA 0, 240, .inl mc))] → va_S A s.heap H locs → lv_has ls 8 [(6, .int v_6), (5, .int v_7), (4, .int v_4), (3, .int r_2), (2, .int v_5), (0, .ref h0), (1, .int p0)] → f_X12_slideByWetness_L36 ms v_4 k n v_6 v_7 = some (rr, q_mt) → (∀ (y_19 : Int32) (H : Heap) (locs : List Loc) (ls : Array Slot), va_P D cls [(h0, .inr (10, [.ref h1, .ref h2, .ref h3, .int mi, .ref h4, .int mn, .int x_3, .ref h5, .int mO, .ref h6, .int mL, .int mA, .int mW, .int mE, .int mF, .ref h7, .int mM])), (h1, .inl (dA 0, 158, .inl ms)), (h2, .inl (dA 0, 158, .inl mb)), (h3, .inl (dA 0, 158, .inl mv)), (h4, .inl (dA 0, 1264, .inl mp)), (h5, .inl (dA 1, 180, .inl mo)), (h6, .inl (dA 1, 60, .inl mI)), (h7, .inl (dA 0, 240, .inl mc))] H → va_D A [(h0, .inr (10, [.ref h1, .ref h2, .ref h3, .int mi, .ref h4, .int mn, .int x_3, .ref h5, .int mO, .ref h6, .int mL, .int mA, .int mW, .int mE, .int mF, .ref h7, .int mM])), (h1, .inl (dA 0, 158, .inl ms)), (h2, .inl (dA 0, 158, .inl mb)), (h3, .inl (dA 0, 158, .inl mv)), (h4, .inl (dA 0, 1264, .inl mp)), (h5, .inl (dA 1, 180, .inl mo)), (h6, .inl (dA 1, 60, .inl mI)), (h7, .inl (dA 0, 240, .inl mc))] → va_S A s.heap H locs → lv_has ls 8 [(5, .int y_19), (4, .int v_4), (3, .int r_2), (2, .int v_5), (0, .ref h0), (1, .int p0)] → k y_19 = some (rr, q_mt) → W p l e ({ frames := 2, cells := 0, slots := 0, locals := 43 } : Room) s m ([.ref h0, .int p0] : List Value).toArray below meth c H locs 0 0 (MQ below (poMi D rr [(h0, .inr (10, [.ref h1, .ref h2, .ref h3, .int mi, .ref h4, .int mn, .int q_mt, .ref h5, .int mO, .ref h6, .int mL, .int mA, .int mW, .int mE, .int mF, .ref h7, .int mM])), (h1, .inl (dA 0, 158, .inl ms)), (h2, .inl (dA 0, 158, .inl mb)), (h3, .inl (dA 0, 158, .inl mv)), (h4, .inl (dA 0, 1264, .inl mp)), (h5, .inl (dA 1, 180, .inl mo)), (h6, .inl (dA 1, 60, .inl mI)), (h7, .inl (dA 0, 240, .inl mc))] A) ([.ref h0, .int p0] : List Value).toArray s 0 0 A) (F0 m 97 ls [])) → W p l e ({ frames := 2, cells := 0, slots := 0, locals := 43 } : Room) s m ([.ref h0, .int p0] : List Value).toArray below meth c H locs 0 0 (MQ below (poMi D rr [(h0, .inr (10, [.ref h1, .ref h2, .ref h3, .int mi, .ref h4, .int mn, .int q_mt, .ref h5, .int mO, .ref h6, .int mL, .int mA, .int mW, .int mE, .int mF, .ref h7, .int mM])), (h1, .inl (dA 0, 158, .inl ms)), (h2, .inl (dA 0, 158, .inl mb)), (h3, .inl (dA 0, 158, .inl mv)), (h4, .inl (dA 0, 1264, .inl mp)), (h5, .inl (dA 1, 180, .inl mo)), (h6, .inl (dA 1, 60, .inl mI)), (h7, .inl (dA 0, 240, .inl mc))] A) ([.ref h0, .int p0] : List Value).toArray s 0 0 A) (F0 m 36 ls []) := by
            intro n k
            induction n with
            | zero =>
              intro v_6 v_7 H locs ls hP hD hS hl hf hk
              rw [f_X12_slideByWetness_L36] at hf
              cases hf
            | succ n ih =>
              intro v_6 v_7 H locs ls hP hD hS hl hf hk
              rw [f_X12_slideByWetness_L36] at hf
              refine lv_iload hx hb dX12_slideByWetness_36 (lv_at hl 0 rfl) ?_
              refine lv_aload_n hx hb dX12_slideByWetness_38 rfl (lv_at hl 5 rfl) ?_
              refine gt_f (C := RX12) (T := TX12) (N := 17) hx hb ha in_X12 hown hK hP 0 rfl rfl 0 (by decide) m_1649 rfl dX12_slideByWetness_39 ?_
              refine lv_iconst (v := 0) hx hb dX12_slideByWetness_42 (by decide) ?_
              obtain ⟨hi, hf⟩ := sf_ge hf
              refine ia_ld hx hb hK hP 1 rfl hi dX12_slideByWetness_43 ?_
              refine lv_icmp_ge (tgt := 97) hx hb dX12_slideByWetness_44 (by decide) (fun hc => ?_) (fun hc => ?_)
              · have hf := sf_bp hf hc
                exact hk _ _ _ _ (hP.sub [0, 1, 2, 3, 4, 5, 6, 7] rfl) (hD.sub [0, 1, 2, 3, 4, 5, 6, 7] (by decide) rfl) hS (lv_sub hl [1, 2, 3, 4, 5, 6] rfl) hf
              · have hf := sf_bn hf hc
                refine lv_aload_n hx hb dX12_slideByWetness_47 rfl (lv_at hl 5 rfl) ?_
                refine lv_iload hx hb dX12_slideByWetness_48 (lv_at hl 0 rfl) ?_
                refine lv_iconst (v := 2) hx hb dX12_slideByWetness_50 (by decide) ?_
                obtain ⟨r_8, hc8, hf⟩ := sf_c1e hf
                refine k_Pi (run_PV (As := [.int v_6, .int (2 : Int32)]) (rest := []) ⟨hx, hb, hml, hown, ha⟩ (c_X12_slide l D dA h0 h1 h2 h3 h4 h5 h6 h7  ms mb mv mi mp mn x_3 mo mO mI mL mA mW mE mF mc mM v_6 (2 : Int32) _ hc8) (gi_V m_1761 m_1763 m_40 m_85 m_1764) yd_X12_slide ⟨Nat.le_of_ble_eq_true rfl, Nat.le_of_ble_eq_true rfl⟩ ⟨rfl, rfl⟩ hK hP [0, 1, 2, 3, 4, 5, 6, 7] rfl 0 10 rfl rfl rfl rfl hl.1 rfl (Nat.le_of_ble_eq_true rfl) dX12_slideByWetness_51 ⟨Nat.le_of_ble_eq_true rfl, Nat.le_of_ble_eq_true rfl⟩) hP hS (fun H locs hP hS => ?_)
                refine lv_aload_n hx hb dX12_slideByWetness_54 rfl (lv_at hl 5 rfl) ?_
                refine lv_iload hx hb dX12_slideByWetness_55 (lv_at hl 2 rfl) ?_
                refine lv_iconst (v := 2) hx hb dX12_slideByWetness_57 (by decide) ?_
                obtain ⟨r_9, hc9, hf⟩ := sf_c1e hf
                refine k_Pi (run_PV (As := [.int v_4, .int (2 : Int32)]) (rest := [.int r_8]) ⟨hx, hb, hml, hown, ha⟩ (c_X12_slide l D dA h0 h1 h2 h3 h4 h5 h6 h7  ms mb mv mi mp mn x_3 mo mO mI mL mA mW mE mF mc mM v_4 (2 : Int32) _ hc9) (gi_V m_1761 m_1763 m_40 m_85 m_1764) yd_X12_slide ⟨Nat.le_of_ble_eq_true rfl, Nat.le_of_ble_eq_true rfl⟩ ⟨rfl, rfl⟩ hK hP [0, 1, 2, 3, 4, 5, 6, 7] rfl 0 10 rfl rfl rfl rfl hl.1 rfl (Nat.le_of_ble_eq_true rfl) dX12_slideByWetness_58 ⟨Nat.le_of_ble_eq_true rfl, Nat.le_of_ble_eq_true rfl⟩) hP hS (fun H locs hP hS => ?_)
                refine lv_isub hx hb dX12_slideByWetness_61 ?_
                obtain ⟨x_10, ex_10, hf⟩ := sf_ne hf
                refine tp_i ex_10 ?_
                refine lv_istore (lv' := [(7, .int x_10), (6, .int v_6), (5, .int v_7), (4, .int v_4), (3, .int r_2), (2, .int v_5), (0, .ref h0), (1, .int p0)]) hx hb dX12_slideByWetness_62 hl (by decide) rfl (fun ls hl => ?_)
                refine lv_iload hx hb dX12_slideByWetness_64 (lv_at hl 2 rfl) ?_
                refine lv_iload hx hb dX12_slideByWetness_66 (lv_at hl 0 rfl) ?_
                refine lv_if_gt (tgt := 83) hx hb dX12_slideByWetness_68 (by decide) (fun hc => ?_) (fun hc => ?_)
                · have hf := sf_bp hf hc
                  refine lv_iconst (v := 1) hx hb dX12_slideByWetness_83 (by decide) ?_
                  refine lv_goto (tgt := 88) hx hb dX12_slideByWetness_84 (by decide) ?_
                  refine lv_iadd hx hb dX12_slideByWetness_88 ?_
                  obtain ⟨x_11, ex_11, hf⟩ := sf_ne hf
                  refine tp_i ex_11 ?_
                  refine lv_istore (lv' := [(5, .int x_11), (7, .int x_10), (6, .int v_6), (4, .int v_4), (3, .int r_2), (2, .int v_5), (0, .ref h0), (1, .int p0)]) hx hb dX12_slideByWetness_89 hl (by decide) rfl (fun ls hl => ?_)
                  obtain ⟨x_12, ex_12, hf⟩ := sf_ne hf
                  refine ii_nc (lv' := [(6, .int x_12), (5, .int x_11), (7, .int x_10), (4, .int v_4), (3, .int r_2), (2, .int v_5), (0, .ref h0), (1, .int p0)]) (k := 2) hx hb dX12_slideByWetness_91 hl rfl ex_12 (by decide) (by decide) rfl (fun ls hl => ?_)
                  refine lv_goto (tgt := 36) hx hb dX12_slideByWetness_94 (by decide) ?_
                  exact ih _ _ _ _ _ (hP.sub [0, 1, 2, 3, 4, 5, 6, 7] rfl) (hD.sub [0, 1, 2, 3, 4, 5, 6, 7] (by decide) rfl) hS (lv_sub hl [0, 1, 3, 4, 5, 6, 7] rfl) hf hk
                · have hf := sf_bn hf hc
                  refine lv_iload hx hb dX12_slideByWetness_71 (lv_at hl 0 rfl) ?_
                  refine lv_if_ne (tgt := 87) hx hb dX12_slideByWetness_73 (by decide) (fun hc => ?_) (fun hc => ?_)
                  · have hf := sf_bn hf hc
                    refine lv_iconst (v := 0) hx hb dX12_slideByWetness_87 (by decide) ?_
                    refine lv_iadd hx hb dX12_slideByWetness_88 ?_
                    obtain ⟨x_13, ex_13, hf⟩ := sf_ne hf
                    refine tp_i ex_13 ?_
                    refine lv_istore (lv' := [(5, .int x_13), (7, .int x_10), (6, .int v_6), (4, .int v_4), (3, .int r_2), (2, .int v_5), (0, .ref h0), (1, .int p0)]) hx hb dX12_slideByWetness_89 hl (by decide) rfl (fun ls hl => ?_)
                    obtain ⟨x_14, ex_14, hf⟩ := sf_ne hf
                    refine ii_nc (lv' := [(6, .int x_14), (5, .int x_13), (7, .int x_10), (4, .int v_4), (3, .int r_2), (2, .int v_5), (0, .ref h0), (1, .int p0)]) (k := 2) hx hb dX12_slideByWetness_91 hl rfl ex_14 (by decide) (by decide) rfl (fun ls hl => ?_)
                    refine lv_goto (tgt := 36) hx hb dX12_slideByWetness_94 (by decide) ?_
                    exact ih _ _ _ _ _ (hP.sub [0, 1, 2, 3, 4, 5, 6, 7] rfl) (hD.sub [0, 1, 2, 3, 4, 5, 6, 7] (by decide) rfl) hS (lv_sub hl [0, 1, 3, 4, 5, 6, 7] rfl) hf hk
                  · have hf := sf_bp hf hc
                    refine lv_iload hx hb dX12_slideByWetness_76 (lv_at hl 1 rfl) ?_
                    refine lv_iload hx hb dX12_slideByWetness_78 (lv_at hl 3 rfl) ?_
                    refine lv_icmp_ge (tgt := 87) hx hb dX12_slideByWetness_80 (by decide) (fun hc => ?_) (fun hc => ?_)
                    · have hf := sf_bp hf hc
                      refine lv_iconst (v := 0) hx hb dX12_slideByWetness_87 (by decide) ?_
                      refine lv_iadd hx hb dX12_slideByWetness_88 ?_
                      obtain ⟨x_15, ex_15, hf⟩ := sf_ne hf
                      refine tp_i ex_15 ?_
                      refine lv_istore (lv' := [(5, .int x_15), (7, .int x_10), (6, .int v_6), (4, .int v_4), (3, .int r_2), (2, .int v_5), (0, .ref h0), (1, .int p0)]) hx hb dX12_slideByWetness_89 hl (by decide) rfl (fun ls hl => ?_)
                      obtain ⟨x_16, ex_16, hf⟩ := sf_ne hf
                      refine ii_nc (lv' := [(6, .int x_16), (5, .int x_15), (7, .int x_10), (4, .int v_4), (3, .int r_2), (2, .int v_5), (0, .ref h0), (1, .int p0)]) (k := 2) hx hb dX12_slideByWetness_91 hl rfl ex_16 (by decide) (by decide) rfl (fun ls hl => ?_)
                      refine lv_goto (tgt := 36) hx hb dX12_slideByWetness_94 (by decide) ?_
                      exact ih _ _ _ _ _ (hP.sub [0, 1, 2, 3, 4, 5, 6, 7] rfl) (hD.sub [0, 1, 2, 3, 4, 5, 6, 7] (by decide) rfl) hS (lv_sub hl [0, 1, 3, 4, 5, 6, 7] rfl) hf hk
                    · have hf := sf_bn hf hc
                      refine lv_iconst (v := 1) hx hb dX12_slideByWetness_83 (by decide) ?_
                      refine lv_goto (tgt := 88) hx hb dX12_slideByWetness_84 (by decide) ?_
                      refine lv_iadd hx hb dX12_slideByWetness_88 ?_
                      obtain ⟨x_17, ex_17, hf⟩ := sf_ne hf
                      refine tp_i ex_17 ?_
                      refine lv_istore (lv' := [(5, .int x_17), (7, .int x_10), (6, .int v_6), (4, .int v_4), (3, .int r_2), (2, .int v_5), (0, .ref h0), (1, .int p0)]) hx hb dX12_slideByWetness_89 hl (by decide) rfl (fun ls hl => ?_)
                      obtain ⟨x_18, ex_18, hf⟩ := sf_ne hf
                      refine ii_nc (lv' := [(6, .int x_18), (5, .int x_17), (7, .int x_10), (4, .int v_4), (3, .int r_2), (2, .int v_5), (0, .ref h0), (1, .int p0)]) (k := 2) hx hb dX12_slideByWetness_91 hl rfl ex_18 (by decide) (by decide) rfl (fun ls hl => ?_)
                      refine lv_goto (tgt := 36) hx hb dX12_slideByWetness_94 (by decide) ?_
                      exact ih _ _ _ _ _ (hP.sub [0, 1, 2, 3, 4, 5, 6, 7] rfl) (hD.sub [0, 1, 2, 3, 4, 5, 6, 7] (by decide) rfl) hS (lv_sub hl [0, 1, 3, 4, 5, 6, 7] rfl) hf hk
          refine hL36 _ _ _ _ _ _ _ hP hD hS (lv_sub hl [0, 1, 2, 3, 4, 5, 6] rfl) hf (fun y_19 H locs ls hP hD hS hl hf => ?_)
          refine lv_iload hx hb dX12_slideByWetness_97 (lv_at hl 0 rfl) ?_
          refine lv_iload_n hx hb dX12_slideByWetness_99 rfl (lv_at hl 5 rfl) ?_
          refine lv_icmp_ne (tgt := 108) hx hb dX12_slideByWetness_100 (by decide) (fun hc => ?_) (fun hc => ?_)
          · have hf := sf_bn hf hc
            refine lv_iload_n hx hb dX12_slideByWetness_108 rfl (lv_at hl 3 rfl) ?_
            refine lv_istore_n (lv' := [(2, .int v_5), (5, .int y_19), (4, .int v_4), (3, .int r_2), (0, .ref h0), (1, .int p0)]) hx hb dX12_slideByWetness_109 rfl hl (by decide) rfl (fun ls hl => ?_)
            obtain ⟨x_20, ex_20, hf⟩ := sf_ne hf
            refine ii_nc (lv' := [(4, .int x_20), (2, .int v_5), (5, .int y_19), (3, .int r_2), (0, .ref h0), (1, .int p0)]) (k := 2) hx hb dX12_slideByWetness_110 hl rfl ex_20 (by decide) (by decide) rfl (fun ls hl => ?_)
            refine lv_goto (tgt := 15) hx hb dX12_slideByWetness_113 (by decide) ?_
            exact ih _ _ _ _ _ (hP.sub [0, 1, 2, 3, 4, 5, 6, 7] rfl) (hD.sub [0, 1, 2, 3, 4, 5, 6, 7] (by decide) rfl) hS (lv_sub hl [0, 3, 1, 4, 5] rfl) hf hk
          · have hf := sf_bp hf hc
            refine lv_iload hx hb dX12_slideByWetness_103 (lv_at hl 1 rfl) ?_
            refine lv_goto (tgt := 109) hx hb dX12_slideByWetness_105 (by decide) ?_
            refine lv_istore_n (lv' := [(2, .int v_4), (5, .int y_19), (4, .int v_4), (3, .int r_2), (0, .ref h0), (1, .int p0)]) hx hb dX12_slideByWetness_109 rfl hl (by decide) rfl (fun ls hl => ?_)
            obtain ⟨x_21, ex_21, hf⟩ := sf_ne hf
            refine ii_nc (lv' := [(4, .int x_21), (2, .int v_4), (5, .int y_19), (3, .int r_2), (0, .ref h0), (1, .int p0)]) (k := 2) hx hb dX12_slideByWetness_110 hl rfl ex_21 (by decide) (by decide) rfl (fun ls hl => ?_)
            refine lv_goto (tgt := 15) hx hb dX12_slideByWetness_113 (by decide) ?_
            exact ih _ _ _ _ _ (hP.sub [0, 1, 2, 3, 4, 5, 6, 7] rfl) (hD.sub [0, 1, 2, 3, 4, 5, 6, 7] (by decide) rfl) hS (lv_sub hl [0, 3, 1, 4, 5] rfl) hf hk
  refine hL15 _ _ _ _ _ _ _ hP hD hS (lv_sub hl [0, 1, 2, 3, 4] rfl) hf (fun y_22 H locs ls hP hD hS hl hf => ?_)
  refine lv_iload_n hx hb dX12_slideByWetness_116 rfl (lv_at hl 0 rfl) ?_
  cases hf
  exact rt_Mi hx hb hr hlocks (hP.sub [0, 1, 2, 3, 4, 5, 6, 7] rfl) (hD.sub [0, 1, 2, 3, 4, 5, 6, 7] (by decide) rfl) hS dX12_slideByWetness_117

def f_X12_meanCoins_L11 (ms : Nat → Int32) (x_1 : Int32) (k : Int32 → Option (UInt64 × Int32)) : Nat → Int32 → Int32 → Option (UInt64 × Int32)
  | 0, _, _ => none
  | n + 1, v_2, v_3 => sf_b (x_1 ≤ v_2) (k v_3) (sf_c1 (f_X12_guest ms v_2 (0 : Int32)) (fun r_4 => sf_n ((v_3 + r_4)) (fun x_5 => sf_n (v_2 + (1 : Int32)) (fun x_6 => f_X12_meanCoins_L11 ms x_1 k n x_6 x_5))))
def f_X12_meanCoins (ms : Nat → Int32) (mt : Int32) : Option (UInt64 × Int32) :=
  sf_g (sf_in (1 : Int32) 158 = true) (sf_n ((ms (1 : Int32).toNatClampNeg)) (fun x_1 => f_X12_meanCoins_L11 ms x_1 (fun y_7 => sf_b (x_1 ≤ (0 : Int32)) (sf_c2 (f_X12_isThere mt (0 : Int32)) (fun r_8 x_9 => sf_b (r_8 = (0 : Int32)) (some (FP.dconst0, x_9)) (sf_g (sf_n64 (FP.ddiv (FP.i2d y_7) (FP.i2d x_1)) = true) (some ((FP.ddiv (FP.i2d y_7) (FP.i2d x_1)), x_9))))) (sf_c2 (f_X12_isThere mt (1 : Int32)) (fun r_10 x_11 => sf_b (r_10 = (0 : Int32)) (some (FP.dconst0, x_11)) (sf_g (sf_n64 (FP.ddiv (FP.i2d y_7) (FP.i2d x_1)) = true) (some ((FP.ddiv (FP.i2d y_7) (FP.i2d x_1)), x_11)))))) 2000 (0 : Int32) (0 : Int32)))
theorem yd_X12_meanCoins : yX12_meanCoins.cls = RX12 ∧ yX12_meanCoins.cls ≠ "java/lang/invoke/MethodHandle" ∧ yX12_meanCoins.cls ≠ "java/lang/invoke/VarHandle" ∧ (parseMethodDescriptor yX12_meanCoins.desc).map (fun d => d.parameters.length) = some 0 := ⟨rfl, by decide, by decide, by decide +kernel⟩
set_option maxRecDepth 100000 in
set_option maxHeartbeats 4000000 in
theorem c_X12_meanCoins (l : Launch) (D : va_G) (dA : Nat → ClassId) (h0 h1 h2 h3 h4 h5 h6 h7 : Nat) (sz : Nat) (ms : Nat → Int32) (mb : Nat → Int32) (mv : Nat → Int32) (mi : Int32) (mp : Nat → Int32) (mn : Int32) (mt : Int32) (mo : Nat → Int32) (mO : Int32) (mI : Nat → Int32) (mL : Int32) (mA : Int32) (mW : Int32) (mE : Int32) (mF : Int32) (mc : Nat → Int32) (mM : Int32) (rr : UInt64) (q_mt : Int32) (hf : f_X12_meanCoins ms mt = some (rr, q_mt)) : Met l yX12_meanCoins (wo (.code yX12_meanCoins cX12_meanCoins 4 (some .double))) ({ frames := 1, cells := 0, slots := 0, locals := 22 } : Room) (preM D dA [.ref h0] sz [(h0, .inr (10, [.ref h1, .ref h2, .ref h3, .int mi, .ref h4, .int mn, .int mt, .ref h5, .int mO, .ref h6, .int mL, .int mA, .int mW, .int mE, .int mF, .ref h7, .int mM])), (h1, .inl (dA 0, 158, .inl ms)), (h2, .inl (dA 0, 158, .inl mb)), (h3, .inl (dA 0, 158, .inl mv)), (h4, .inl (dA 0, 1264, .inl mp)), (h5, .inl (dA 1, 180, .inl mo)), (h6, .inl (dA 1, 60, .inl mI)), (h7, .inl (dA 0, 240, .inl mc))]) (poMd D rr [(h0, .inr (10, [.ref h1, .ref h2, .ref h3, .int mi, .ref h4, .int mn, .int q_mt, .ref h5, .int mO, .ref h6, .int mL, .int mA, .int mW, .int mE, .int mF, .ref h7, .int mM])), (h1, .inl (dA 0, 158, .inl ms)), (h2, .inl (dA 0, 158, .inl mb)), (h3, .inl (dA 0, 158, .inl mv)), (h4, .inl (dA 0, 1264, .inl mp)), (h5, .inl (dA 1, 180, .inl mo)), (h6, .inl (dA 1, 60, .inl mI)), (h7, .inl (dA 0, 240, .inl mc))] (va_A [(h0, .inr (10, [.ref h1, .ref h2, .ref h3, .int mi, .ref h4, .int mn, .int mt, .ref h5, .int mO, .ref h6, .int mL, .int mA, .int mW, .int mE, .int mF, .ref h7, .int mM])), (h1, .inl (dA 0, 158, .inl ms)), (h2, .inl (dA 0, 158, .inl mb)), (h3, .inl (dA 0, 158, .inl mv)), (h4, .inl (dA 0, 1264, .inl mp)), (h5, .inl (dA 1, 180, .inl mo)), (h6, .inl (dA 1, 60, .inl mI)), (h7, .inl (dA 0, 240, .inl mc))] sz)) 0 0 (va_A [(h0, .inr (10, [.ref h1, .ref h2, .ref h3, .int mi, .ref h4, .int mn, .int mt, .ref h5, .int mO, .ref h6, .int mL, .int mA, .int mW, .int mE, .int mF, .ref h7, .int mM])), (h1, .inl (dA 0, 158, .inl ms)), (h2, .inl (dA 0, 158, .inl mb)), (h3, .inl (dA 0, 158, .inl mv)), (h4, .inl (dA 0, 1264, .inl mp)), (h5, .inl (dA 1, 180, .inl mo)), (h6, .inl (dA 1, 60, .inl mI)), (h7, .inl (dA 0, 240, .inl mc))] sz) := by
  refine of_M (y := yX12_meanCoins) (av := [.ref h0]) (ws := [(h0, .inr (10, [.ref h1, .ref h2, .ref h3, .int mi, .ref h4, .int mn, .int mt, .ref h5, .int mO, .ref h6, .int mL, .int mA, .int mW, .int mE, .int mF, .ref h7, .int mM])), (h1, .inl (dA 0, 158, .inl ms)), (h2, .inl (dA 0, 158, .inl mb)), (h3, .inl (dA 0, 158, .inl mv)), (h4, .inl (dA 0, 1264, .inl mp)), (h5, .inl (dA 1, 180, .inl mo)), (h6, .inl (dA 1, 60, .inl mI)), (h7, .inl (dA 0, 240, .inl mc))]) (sz := sz) (own := RX12) (Qc := poMd D rr [(h0, .inr (10, [.ref h1, .ref h2, .ref h3, .int mi, .ref h4, .int mn, .int q_mt, .ref h5, .int mO, .ref h6, .int mL, .int mA, .int mW, .int mE, .int mF, .ref h7, .int mM])), (h1, .inl (dA 0, 158, .inl ms)), (h2, .inl (dA 0, 158, .inl mb)), (h3, .inl (dA 0, 158, .inl mv)), (h4, .inl (dA 0, 1264, .inl mp)), (h5, .inl (dA 1, 180, .inl mo)), (h6, .inl (dA 1, 60, .inl mI)), (h7, .inl (dA 0, 240, .inl mc))]) (by decide) rfl (Nat.le_of_ble_eq_true rfl) ?_
  intro p e s m below meth c A hx hb hr ha hown hml hlocks hin hP hK hD hS hA ls hl
  have hl : lv_has ls 4 [(0, .ref h0)] := hl
  rw [f_X12_meanCoins] at hf
  refine lv_aload_n hx hb dX12_meanCoins_0 rfl (lv_at hl 0 rfl) ?_
  refine gt_f (C := RX12) (T := TX12) (N := 17) hx hb ha in_X12 hown hK hP 0 rfl rfl 0 (by decide) m_1649 rfl dX12_meanCoins_1 ?_
  refine lv_iconst (v := 1) hx hb dX12_meanCoins_4 (by decide) ?_
  obtain ⟨hi, hf⟩ := sf_ge hf
  refine ia_ld hx hb hK hP 1 rfl hi dX12_meanCoins_5 ?_
  obtain ⟨x_1, ex_1, hf⟩ := sf_ne hf
  refine tp_i ex_1 ?_
  refine lv_istore_n (lv' := [(1, .int x_1), (0, .ref h0)]) hx hb dX12_meanCoins_6 rfl hl (by decide) rfl (fun ls hl => ?_)
  refine lv_iconst (v := 0) hx hb dX12_meanCoins_7 (by decide) ?_
  refine lv_istore_n (lv' := [(2, .int (0 : Int32)), (1, .int x_1), (0, .ref h0)]) hx hb dX12_meanCoins_8 rfl hl (by decide) rfl (fun ls hl => ?_)
  refine lv_iconst (v := 0) hx hb dX12_meanCoins_9 (by decide) ?_
  refine lv_istore_n (lv' := [(3, .int (0 : Int32)), (2, .int (0 : Int32)), (1, .int x_1), (0, .ref h0)]) hx hb dX12_meanCoins_10 rfl hl (by decide) rfl (fun ls hl => ?_)
  have hL11 : ∀ (n : Nat) (k : Int32 → Option (UInt64 × Int32)) (v_2 : Int32) (v_3 : Int32) (H : Heap) (locs : List Loc) (ls : Array Slot), va_P D cls [(h0, .inr (10, [.ref h1, .ref h2, .ref h3, .int mi, .ref h4, .int mn, .int mt, .ref h5, .int mO, .ref h6, .int mL, .int mA, .int mW, .int mE, .int mF, .ref h7, .int mM])), (h1, .inl (dA 0, 158, .inl ms)), (h2, .inl (dA 0, 158, .inl mb)), (h3, .inl (dA 0, 158, .inl mv)), (h4, .inl (dA 0, 1264, .inl mp)), (h5, .inl (dA 1, 180, .inl mo)), (h6, .inl (dA 1, 60, .inl mI)), (h7, .inl (dA 0, 240, .inl mc))] H → va_D A [(h0, .inr (10, [.ref h1, .ref h2, .ref h3, .int mi, .ref h4, .int mn, .int mt, .ref h5, .int mO, .ref h6, .int mL, .int mA, .int mW, .int mE, .int mF, .ref h7, .int mM])), (h1, .inl (dA 0, 158, .inl ms)), (h2, .inl (dA 0, 158, .inl mb)), (h3, .inl (dA 0, 158, .inl mv)), (h4, .inl (dA 0, 1264, .inl mp)), (h5, .inl (dA 1, 180, .inl mo)), (h6, .inl (dA 1, 60, .inl mI)), (h7, .inl (dA 0, 240, .inl mc))] → va_S A s.heap H locs → lv_has ls 4 [(3, .int v_2), (2, .int v_3), (1, .int x_1), (0, .ref h0)] → f_X12_meanCoins_L11 ms x_1 k n v_2 v_3 = some (rr, q_mt) → (∀ (y_7 : Int32) (H : Heap) (locs : List Loc) (ls : Array Slot), va_P D cls [(h0, .inr (10, [.ref h1, .ref h2, .ref h3, .int mi, .ref h4, .int mn, .int mt, .ref h5, .int mO, .ref h6, .int mL, .int mA, .int mW, .int mE, .int mF, .ref h7, .int mM])), (h1, .inl (dA 0, 158, .inl ms)), (h2, .inl (dA 0, 158, .inl mb)), (h3, .inl (dA 0, 158, .inl mv)), (h4, .inl (dA 0, 1264, .inl mp)), (h5, .inl (dA 1, 180, .inl mo)), (h6, .inl (dA 1, 60, .inl mI)), (h7, .inl (dA 0, 240, .inl mc))] H → va_D A [(h0, .inr (10, [.ref h1, .ref h2, .ref h3, .int mi, .ref h4, .int mn, .int mt, .ref h5, .int mO, .ref h6, .int mL, .int mA, .int mW, .int mE, .int mF, .ref h7, .int mM])), (h1, .inl (dA 0, 158, .inl ms)), (h2, .inl (dA 0, 158, .inl mb)), (h3, .inl (dA 0, 158, .inl mv)), (h4, .inl (dA 0, 1264, .inl mp)), (h5, .inl (dA 1, 180, .inl mo)), (h6, .inl (dA 1, 60, .inl mI)), (h7, .inl (dA 0, 240, .inl mc))] → va_S A s.heap H locs → lv_has ls 4 [(2, .int y_7), (1, .int x_1), (0, .ref h0)] → k y_7 = some (rr, q_mt) → W p l e ({ frames := 1, cells := 0, slots := 0, locals := 22 } : Room) s m ([.ref h0] : List Value).toArray below meth c H locs 0 0 (MQ below (poMd D rr [(h0, .inr (10, [.ref h1, .ref h2, .ref h3, .int mi, .ref h4, .int mn, .int q_mt, .ref h5, .int mO, .ref h6, .int mL, .int mA, .int mW, .int mE, .int mF, .ref h7, .int mM])), (h1, .inl (dA 0, 158, .inl ms)), (h2, .inl (dA 0, 158, .inl mb)), (h3, .inl (dA 0, 158, .inl mv)), (h4, .inl (dA 0, 1264, .inl mp)), (h5, .inl (dA 1, 180, .inl mo)), (h6, .inl (dA 1, 60, .inl mI)), (h7, .inl (dA 0, 240, .inl mc))] A) ([.ref h0] : List Value).toArray s 0 0 A) (F0 m 31 ls [])) → W p l e ({ frames := 1, cells := 0, slots := 0, locals := 22 } : Room) s m ([.ref h0] : List Value).toArray below meth c H locs 0 0 (MQ below (poMd D rr [(h0, .inr (10, [.ref h1, .ref h2, .ref h3, .int mi, .ref h4, .int mn, .int q_mt, .ref h5, .int mO, .ref h6, .int mL, .int mA, .int mW, .int mE, .int mF, .ref h7, .int mM])), (h1, .inl (dA 0, 158, .inl ms)), (h2, .inl (dA 0, 158, .inl mb)), (h3, .inl (dA 0, 158, .inl mv)), (h4, .inl (dA 0, 1264, .inl mp)), (h5, .inl (dA 1, 180, .inl mo)), (h6, .inl (dA 1, 60, .inl mI)), (h7, .inl (dA 0, 240, .inl mc))] A) ([.ref h0] : List Value).toArray s 0 0 A) (F0 m 11 ls []) := by
    intro n k
    induction n with
    | zero =>
      intro v_2 v_3 H locs ls hP hD hS hl hf hk
      rw [f_X12_meanCoins_L11] at hf
      cases hf
    | succ n ih =>
      intro v_2 v_3 H locs ls hP hD hS hl hf hk
      rw [f_X12_meanCoins_L11] at hf
      refine lv_iload_n hx hb dX12_meanCoins_11 rfl (lv_at hl 0 rfl) ?_
      refine lv_iload_n hx hb dX12_meanCoins_12 rfl (lv_at hl 2 rfl) ?_
      refine lv_icmp_ge (tgt := 31) hx hb dX12_meanCoins_13 (by decide) (fun hc => ?_) (fun hc => ?_)
      · have hf := sf_bp hf hc
        exact hk _ _ _ _ (hP.sub [0, 1, 2, 3, 4, 5, 6, 7] rfl) (hD.sub [0, 1, 2, 3, 4, 5, 6, 7] (by decide) rfl) hS (lv_sub hl [1, 2, 3] rfl) hf
      · have hf := sf_bn hf hc
        refine lv_iload_n hx hb dX12_meanCoins_16 rfl (lv_at hl 1 rfl) ?_
        refine lv_aload_n hx hb dX12_meanCoins_17 rfl (lv_at hl 3 rfl) ?_
        refine lv_iload_n hx hb dX12_meanCoins_18 rfl (lv_at hl 0 rfl) ?_
        refine lv_iconst (v := 0) hx hb dX12_meanCoins_19 (by decide) ?_
        obtain ⟨r_4, hc4, hf⟩ := sf_c1e hf
        refine k_Pi (run_PV (As := [.int v_2, .int (0 : Int32)]) (rest := [.int v_3]) ⟨hx, hb, hml, hown, ha⟩ (c_X12_guest l D dA h0 h1 h2 h3 h4 h5 h6 h7  ms mb mv mi mp mn mt mo mO mI mL mA mW mE mF mc mM v_2 (0 : Int32) _ hc4) (gi_V m_1757 m_1759 m_39 m_85 m_1760) yd_X12_guest ⟨Nat.le_of_ble_eq_true rfl, Nat.le_of_ble_eq_true rfl⟩ ⟨rfl, rfl⟩ hK hP [0, 1, 2, 3, 4, 5, 6, 7] rfl 0 10 rfl rfl rfl rfl hl.1 rfl (Nat.le_of_ble_eq_true rfl) dX12_meanCoins_20 ⟨Nat.le_of_ble_eq_true rfl, Nat.le_of_ble_eq_true rfl⟩) hP hS (fun H locs hP hS => ?_)
        refine lv_iadd hx hb dX12_meanCoins_23 ?_
        obtain ⟨x_5, ex_5, hf⟩ := sf_ne hf
        refine tp_i ex_5 ?_
        refine lv_istore_n (lv' := [(2, .int x_5), (3, .int v_2), (1, .int x_1), (0, .ref h0)]) hx hb dX12_meanCoins_24 rfl hl (by decide) rfl (fun ls hl => ?_)
        obtain ⟨x_6, ex_6, hf⟩ := sf_ne hf
        refine ii_nc (lv' := [(3, .int x_6), (2, .int x_5), (1, .int x_1), (0, .ref h0)]) (k := 1) hx hb dX12_meanCoins_25 hl rfl ex_6 (by decide) (by decide) rfl (fun ls hl => ?_)
        refine lv_goto (tgt := 11) hx hb dX12_meanCoins_28 (by decide) ?_
        exact ih _ _ _ _ _ (hP.sub [0, 1, 2, 3, 4, 5, 6, 7] rfl) (hD.sub [0, 1, 2, 3, 4, 5, 6, 7] (by decide) rfl) hS (lv_sub hl [0, 1, 2, 3] rfl) hf hk
  refine hL11 _ _ _ _ _ _ _ hP hD hS (lv_sub hl [0, 1, 2, 3] rfl) hf (fun y_7 H locs ls hP hD hS hl hf => ?_)
  refine lv_aload_n hx hb dX12_meanCoins_31 rfl (lv_at hl 2 rfl) ?_
  refine lv_iload_n hx hb dX12_meanCoins_32 rfl (lv_at hl 1 rfl) ?_
  refine lv_if_le (tgt := 40) hx hb dX12_meanCoins_33 (by decide) (fun hc => ?_) (fun hc => ?_)
  · have hf := sf_bp hf hc
    refine lv_iconst (v := 0) hx hb dX12_meanCoins_40 (by decide) ?_
    obtain ⟨r_8, x_9, hc9, hf⟩ := sf_c2e hf
    refine k_Mi (wr := []) (run_MV (As := [.int (0 : Int32)]) (rest := []) ⟨hx, hb, hml, hown, ha⟩ (c_X12_isThere l D dA h0 h1 h2 h3 h4 h5 h6 h7 _ ms mb mv mi mp mn mt mo mO mI mL mA mW mE mF mc mM (0 : Int32) _ _ hc9) (gi_V m_1867 m_1869 m_59 m_85 m_1870) yd_X12_isThere ⟨Nat.le_of_ble_eq_true rfl, Nat.le_of_ble_eq_true rfl⟩ ⟨rfl, rfl⟩ hK hP hD [0, 1, 2, 3, 4, 5, 6, 7] (by decide) rfl 0 10 rfl rfl rfl rfl hl.1 rfl (Nat.le_of_ble_eq_true rfl) dX12_meanCoins_41 ⟨Nat.le_of_ble_eq_true rfl, Nat.le_of_ble_eq_true rfl⟩) hP hD hS hA [0, 1, 2, 3, 4, 5, 6, 7] [] rfl rfl (by decide) (by decide) (fun H locs hP hD hS => ?_)
    refine lv_if_eq (tgt := 55) hx hb dX12_meanCoins_44 (by decide) (fun hc => ?_) (fun hc => ?_)
    · have hf := sf_bp hf hc
      refine lv_dconst0 hx hb dX12_meanCoins_55 ?_
      cases hf
      exact rt_Md hx hb hr hlocks (hP.sub [0, 1, 2, 3, 4, 5, 6, 7] rfl) (hD.sub [0, 1, 2, 3, 4, 5, 6, 7] (by decide) rfl) hS dX12_meanCoins_56
    · have hf := sf_bn hf hc
      refine lv_iload_n hx hb dX12_meanCoins_47 rfl (lv_at hl 0 rfl) ?_
      refine lv_i2d hx hb dX12_meanCoins_48 ?_
      refine lv_iload_n hx hb dX12_meanCoins_49 rfl (lv_at hl 1 rfl) ?_
      refine lv_i2d hx hb dX12_meanCoins_50 ?_
      obtain ⟨hi, hf⟩ := sf_ge hf
      refine lv_ddiv hx hb dX12_meanCoins_51 (sf_n64e hi) ?_
      refine lv_goto (tgt := 56) hx hb dX12_meanCoins_52 (by decide) ?_
      cases hf
      exact rt_Md hx hb hr hlocks (hP.sub [0, 1, 2, 3, 4, 5, 6, 7] rfl) (hD.sub [0, 1, 2, 3, 4, 5, 6, 7] (by decide) rfl) hS dX12_meanCoins_56
  · have hf := sf_bn hf hc
    refine lv_iconst (v := 1) hx hb dX12_meanCoins_36 (by decide) ?_
    refine lv_goto (tgt := 41) hx hb dX12_meanCoins_37 (by decide) ?_
    obtain ⟨r_10, x_11, hc11, hf⟩ := sf_c2e hf
    refine k_Mi (wr := []) (run_MV (As := [.int (1 : Int32)]) (rest := []) ⟨hx, hb, hml, hown, ha⟩ (c_X12_isThere l D dA h0 h1 h2 h3 h4 h5 h6 h7 _ ms mb mv mi mp mn mt mo mO mI mL mA mW mE mF mc mM (1 : Int32) _ _ hc11) (gi_V m_1867 m_1869 m_59 m_85 m_1870) yd_X12_isThere ⟨Nat.le_of_ble_eq_true rfl, Nat.le_of_ble_eq_true rfl⟩ ⟨rfl, rfl⟩ hK hP hD [0, 1, 2, 3, 4, 5, 6, 7] (by decide) rfl 0 10 rfl rfl rfl rfl hl.1 rfl (Nat.le_of_ble_eq_true rfl) dX12_meanCoins_41 ⟨Nat.le_of_ble_eq_true rfl, Nat.le_of_ble_eq_true rfl⟩) hP hD hS hA [0, 1, 2, 3, 4, 5, 6, 7] [] rfl rfl (by decide) (by decide) (fun H locs hP hD hS => ?_)
    refine lv_if_eq (tgt := 55) hx hb dX12_meanCoins_44 (by decide) (fun hc => ?_) (fun hc => ?_)
    · have hf := sf_bp hf hc
      refine lv_dconst0 hx hb dX12_meanCoins_55 ?_
      cases hf
      exact rt_Md hx hb hr hlocks (hP.sub [0, 1, 2, 3, 4, 5, 6, 7] rfl) (hD.sub [0, 1, 2, 3, 4, 5, 6, 7] (by decide) rfl) hS dX12_meanCoins_56
    · have hf := sf_bn hf hc
      refine lv_iload_n hx hb dX12_meanCoins_47 rfl (lv_at hl 0 rfl) ?_
      refine lv_i2d hx hb dX12_meanCoins_48 ?_
      refine lv_iload_n hx hb dX12_meanCoins_49 rfl (lv_at hl 1 rfl) ?_
      refine lv_i2d hx hb dX12_meanCoins_50 ?_
      obtain ⟨hi, hf⟩ := sf_ge hf
      refine lv_ddiv hx hb dX12_meanCoins_51 (sf_n64e hi) ?_
      refine lv_goto (tgt := 56) hx hb dX12_meanCoins_52 (by decide) ?_
      cases hf
      exact rt_Md hx hb hr hlocks (hP.sub [0, 1, 2, 3, 4, 5, 6, 7] rfl) (hD.sub [0, 1, 2, 3, 4, 5, 6, 7] (by decide) rfl) hS dX12_meanCoins_56

def f_X12_busyShare_L11 (ms : Nat → Int32) (x_1 : Int32) (k : Int32 → Option (UInt32 × Int32)) : Nat → Int32 → Int32 → Option (UInt32 × Int32)
  | 0, _, _ => none
  | n + 1, v_2, v_3 => sf_b (x_1 ≤ v_2) (k v_3) (sf_g (sf_in (3 : Int32) 158 = true) (sf_c1 (f_X12_during ms v_2 (ms (3 : Int32).toNatClampNeg)) (fun r_4 => sf_b (r_4 < (0 : Int32)) (sf_n ((v_3 + (0 : Int32))) (fun x_5 => sf_n (v_2 + (1 : Int32)) (fun x_6 => f_X12_busyShare_L11 ms x_1 k n x_6 x_5))) (sf_n ((v_3 + (1 : Int32))) (fun x_7 => sf_n (v_2 + (1 : Int32)) (fun x_8 => f_X12_busyShare_L11 ms x_1 k n x_8 x_7))))))
def f_X12_busyShare (ms : Nat → Int32) (mt : Int32) : Option (UInt32 × Int32) :=
  sf_g (sf_in (0 : Int32) 158 = true) (sf_n ((ms (0 : Int32).toNatClampNeg)) (fun x_1 => f_X12_busyShare_L11 ms x_1 (fun y_9 => sf_b (x_1 ≤ (0 : Int32)) (sf_c2 (f_X12_isThere mt (0 : Int32)) (fun r_10 x_11 => sf_b (r_10 = (0 : Int32)) (some (FP.fconst0, x_11)) (sf_g (sf_n32 (FP.fdiv (FP.i2f y_9) (FP.i2f x_1)) = true) (some ((FP.fdiv (FP.i2f y_9) (FP.i2f x_1)), x_11))))) (sf_c2 (f_X12_isThere mt (1 : Int32)) (fun r_12 x_13 => sf_b (r_12 = (0 : Int32)) (some (FP.fconst0, x_13)) (sf_g (sf_n32 (FP.fdiv (FP.i2f y_9) (FP.i2f x_1)) = true) (some ((FP.fdiv (FP.i2f y_9) (FP.i2f x_1)), x_13)))))) 2000 (0 : Int32) (0 : Int32)))
theorem yd_X12_busyShare : yX12_busyShare.cls = RX12 ∧ yX12_busyShare.cls ≠ "java/lang/invoke/MethodHandle" ∧ yX12_busyShare.cls ≠ "java/lang/invoke/VarHandle" ∧ (parseMethodDescriptor yX12_busyShare.desc).map (fun d => d.parameters.length) = some 0 := ⟨rfl, by decide, by decide, by decide +kernel⟩
set_option maxRecDepth 100000 in
set_option maxHeartbeats 4000000 in
theorem c_X12_busyShare (l : Launch) (D : va_G) (dA : Nat → ClassId) (h0 h1 h2 h3 h4 h5 h6 h7 : Nat) (sz : Nat) (ms : Nat → Int32) (mb : Nat → Int32) (mv : Nat → Int32) (mi : Int32) (mp : Nat → Int32) (mn : Int32) (mt : Int32) (mo : Nat → Int32) (mO : Int32) (mI : Nat → Int32) (mL : Int32) (mA : Int32) (mW : Int32) (mE : Int32) (mF : Int32) (mc : Nat → Int32) (mM : Int32) (rr : UInt32) (q_mt : Int32) (hf : f_X12_busyShare ms mt = some (rr, q_mt)) : Met l yX12_busyShare (wo (.code yX12_busyShare cX12_busyShare 4 (some .float))) ({ frames := 4, cells := 0, slots := 0, locals := 88 } : Room) (preM D dA [.ref h0] sz [(h0, .inr (10, [.ref h1, .ref h2, .ref h3, .int mi, .ref h4, .int mn, .int mt, .ref h5, .int mO, .ref h6, .int mL, .int mA, .int mW, .int mE, .int mF, .ref h7, .int mM])), (h1, .inl (dA 0, 158, .inl ms)), (h2, .inl (dA 0, 158, .inl mb)), (h3, .inl (dA 0, 158, .inl mv)), (h4, .inl (dA 0, 1264, .inl mp)), (h5, .inl (dA 1, 180, .inl mo)), (h6, .inl (dA 1, 60, .inl mI)), (h7, .inl (dA 0, 240, .inl mc))]) (poMf D rr [(h0, .inr (10, [.ref h1, .ref h2, .ref h3, .int mi, .ref h4, .int mn, .int q_mt, .ref h5, .int mO, .ref h6, .int mL, .int mA, .int mW, .int mE, .int mF, .ref h7, .int mM])), (h1, .inl (dA 0, 158, .inl ms)), (h2, .inl (dA 0, 158, .inl mb)), (h3, .inl (dA 0, 158, .inl mv)), (h4, .inl (dA 0, 1264, .inl mp)), (h5, .inl (dA 1, 180, .inl mo)), (h6, .inl (dA 1, 60, .inl mI)), (h7, .inl (dA 0, 240, .inl mc))] (va_A [(h0, .inr (10, [.ref h1, .ref h2, .ref h3, .int mi, .ref h4, .int mn, .int mt, .ref h5, .int mO, .ref h6, .int mL, .int mA, .int mW, .int mE, .int mF, .ref h7, .int mM])), (h1, .inl (dA 0, 158, .inl ms)), (h2, .inl (dA 0, 158, .inl mb)), (h3, .inl (dA 0, 158, .inl mv)), (h4, .inl (dA 0, 1264, .inl mp)), (h5, .inl (dA 1, 180, .inl mo)), (h6, .inl (dA 1, 60, .inl mI)), (h7, .inl (dA 0, 240, .inl mc))] sz)) 0 0 (va_A [(h0, .inr (10, [.ref h1, .ref h2, .ref h3, .int mi, .ref h4, .int mn, .int mt, .ref h5, .int mO, .ref h6, .int mL, .int mA, .int mW, .int mE, .int mF, .ref h7, .int mM])), (h1, .inl (dA 0, 158, .inl ms)), (h2, .inl (dA 0, 158, .inl mb)), (h3, .inl (dA 0, 158, .inl mv)), (h4, .inl (dA 0, 1264, .inl mp)), (h5, .inl (dA 1, 180, .inl mo)), (h6, .inl (dA 1, 60, .inl mI)), (h7, .inl (dA 0, 240, .inl mc))] sz) := by
  refine of_M (y := yX12_busyShare) (av := [.ref h0]) (ws := [(h0, .inr (10, [.ref h1, .ref h2, .ref h3, .int mi, .ref h4, .int mn, .int mt, .ref h5, .int mO, .ref h6, .int mL, .int mA, .int mW, .int mE, .int mF, .ref h7, .int mM])), (h1, .inl (dA 0, 158, .inl ms)), (h2, .inl (dA 0, 158, .inl mb)), (h3, .inl (dA 0, 158, .inl mv)), (h4, .inl (dA 0, 1264, .inl mp)), (h5, .inl (dA 1, 180, .inl mo)), (h6, .inl (dA 1, 60, .inl mI)), (h7, .inl (dA 0, 240, .inl mc))]) (sz := sz) (own := RX12) (Qc := poMf D rr [(h0, .inr (10, [.ref h1, .ref h2, .ref h3, .int mi, .ref h4, .int mn, .int q_mt, .ref h5, .int mO, .ref h6, .int mL, .int mA, .int mW, .int mE, .int mF, .ref h7, .int mM])), (h1, .inl (dA 0, 158, .inl ms)), (h2, .inl (dA 0, 158, .inl mb)), (h3, .inl (dA 0, 158, .inl mv)), (h4, .inl (dA 0, 1264, .inl mp)), (h5, .inl (dA 1, 180, .inl mo)), (h6, .inl (dA 1, 60, .inl mI)), (h7, .inl (dA 0, 240, .inl mc))]) (by decide) rfl (Nat.le_of_ble_eq_true rfl) ?_
  intro p e s m below meth c A hx hb hr ha hown hml hlocks hin hP hK hD hS hA ls hl
  have hl : lv_has ls 4 [(0, .ref h0)] := hl
  rw [f_X12_busyShare] at hf
  refine lv_aload_n hx hb dX12_busyShare_0 rfl (lv_at hl 0 rfl) ?_
  refine gt_f (C := RX12) (T := TX12) (N := 17) hx hb ha in_X12 hown hK hP 0 rfl rfl 0 (by decide) m_1649 rfl dX12_busyShare_1 ?_
  refine lv_iconst (v := 0) hx hb dX12_busyShare_4 (by decide) ?_
  obtain ⟨hi, hf⟩ := sf_ge hf
  refine ia_ld hx hb hK hP 1 rfl hi dX12_busyShare_5 ?_
  obtain ⟨x_1, ex_1, hf⟩ := sf_ne hf
  refine tp_i ex_1 ?_
  refine lv_istore_n (lv' := [(1, .int x_1), (0, .ref h0)]) hx hb dX12_busyShare_6 rfl hl (by decide) rfl (fun ls hl => ?_)
  refine lv_iconst (v := 0) hx hb dX12_busyShare_7 (by decide) ?_
  refine lv_istore_n (lv' := [(2, .int (0 : Int32)), (1, .int x_1), (0, .ref h0)]) hx hb dX12_busyShare_8 rfl hl (by decide) rfl (fun ls hl => ?_)
  refine lv_iconst (v := 0) hx hb dX12_busyShare_9 (by decide) ?_
  refine lv_istore_n (lv' := [(3, .int (0 : Int32)), (2, .int (0 : Int32)), (1, .int x_1), (0, .ref h0)]) hx hb dX12_busyShare_10 rfl hl (by decide) rfl (fun ls hl => ?_)
  have hL11 : ∀ (n : Nat) (k : Int32 → Option (UInt32 × Int32)) (v_2 : Int32) (v_3 : Int32) (H : Heap) (locs : List Loc) (ls : Array Slot), va_P D cls [(h0, .inr (10, [.ref h1, .ref h2, .ref h3, .int mi, .ref h4, .int mn, .int mt, .ref h5, .int mO, .ref h6, .int mL, .int mA, .int mW, .int mE, .int mF, .ref h7, .int mM])), (h1, .inl (dA 0, 158, .inl ms)), (h2, .inl (dA 0, 158, .inl mb)), (h3, .inl (dA 0, 158, .inl mv)), (h4, .inl (dA 0, 1264, .inl mp)), (h5, .inl (dA 1, 180, .inl mo)), (h6, .inl (dA 1, 60, .inl mI)), (h7, .inl (dA 0, 240, .inl mc))] H → va_D A [(h0, .inr (10, [.ref h1, .ref h2, .ref h3, .int mi, .ref h4, .int mn, .int mt, .ref h5, .int mO, .ref h6, .int mL, .int mA, .int mW, .int mE, .int mF, .ref h7, .int mM])), (h1, .inl (dA 0, 158, .inl ms)), (h2, .inl (dA 0, 158, .inl mb)), (h3, .inl (dA 0, 158, .inl mv)), (h4, .inl (dA 0, 1264, .inl mp)), (h5, .inl (dA 1, 180, .inl mo)), (h6, .inl (dA 1, 60, .inl mI)), (h7, .inl (dA 0, 240, .inl mc))] → va_S A s.heap H locs → lv_has ls 4 [(3, .int v_2), (2, .int v_3), (1, .int x_1), (0, .ref h0)] → f_X12_busyShare_L11 ms x_1 k n v_2 v_3 = some (rr, q_mt) → (∀ (y_9 : Int32) (H : Heap) (locs : List Loc) (ls : Array Slot), va_P D cls [(h0, .inr (10, [.ref h1, .ref h2, .ref h3, .int mi, .ref h4, .int mn, .int mt, .ref h5, .int mO, .ref h6, .int mL, .int mA, .int mW, .int mE, .int mF, .ref h7, .int mM])), (h1, .inl (dA 0, 158, .inl ms)), (h2, .inl (dA 0, 158, .inl mb)), (h3, .inl (dA 0, 158, .inl mv)), (h4, .inl (dA 0, 1264, .inl mp)), (h5, .inl (dA 1, 180, .inl mo)), (h6, .inl (dA 1, 60, .inl mI)), (h7, .inl (dA 0, 240, .inl mc))] H → va_D A [(h0, .inr (10, [.ref h1, .ref h2, .ref h3, .int mi, .ref h4, .int mn, .int mt, .ref h5, .int mO, .ref h6, .int mL, .int mA, .int mW, .int mE, .int mF, .ref h7, .int mM])), (h1, .inl (dA 0, 158, .inl ms)), (h2, .inl (dA 0, 158, .inl mb)), (h3, .inl (dA 0, 158, .inl mv)), (h4, .inl (dA 0, 1264, .inl mp)), (h5, .inl (dA 1, 180, .inl mo)), (h6, .inl (dA 1, 60, .inl mI)), (h7, .inl (dA 0, 240, .inl mc))] → va_S A s.heap H locs → lv_has ls 4 [(2, .int y_9), (1, .int x_1), (0, .ref h0)] → k y_9 = some (rr, q_mt) → W p l e ({ frames := 4, cells := 0, slots := 0, locals := 88 } : Room) s m ([.ref h0] : List Value).toArray below meth c H locs 0 0 (MQ below (poMf D rr [(h0, .inr (10, [.ref h1, .ref h2, .ref h3, .int mi, .ref h4, .int mn, .int q_mt, .ref h5, .int mO, .ref h6, .int mL, .int mA, .int mW, .int mE, .int mF, .ref h7, .int mM])), (h1, .inl (dA 0, 158, .inl ms)), (h2, .inl (dA 0, 158, .inl mb)), (h3, .inl (dA 0, 158, .inl mv)), (h4, .inl (dA 0, 1264, .inl mp)), (h5, .inl (dA 1, 180, .inl mo)), (h6, .inl (dA 1, 60, .inl mI)), (h7, .inl (dA 0, 240, .inl mc))] A) ([.ref h0] : List Value).toArray s 0 0 A) (F0 m 44 ls [])) → W p l e ({ frames := 4, cells := 0, slots := 0, locals := 88 } : Room) s m ([.ref h0] : List Value).toArray below meth c H locs 0 0 (MQ below (poMf D rr [(h0, .inr (10, [.ref h1, .ref h2, .ref h3, .int mi, .ref h4, .int mn, .int q_mt, .ref h5, .int mO, .ref h6, .int mL, .int mA, .int mW, .int mE, .int mF, .ref h7, .int mM])), (h1, .inl (dA 0, 158, .inl ms)), (h2, .inl (dA 0, 158, .inl mb)), (h3, .inl (dA 0, 158, .inl mv)), (h4, .inl (dA 0, 1264, .inl mp)), (h5, .inl (dA 1, 180, .inl mo)), (h6, .inl (dA 1, 60, .inl mI)), (h7, .inl (dA 0, 240, .inl mc))] A) ([.ref h0] : List Value).toArray s 0 0 A) (F0 m 11 ls []) := by
    intro n k
    induction n with
    | zero =>
      intro v_2 v_3 H locs ls hP hD hS hl hf hk
      rw [f_X12_busyShare_L11] at hf
      cases hf
    | succ n ih =>
      intro v_2 v_3 H locs ls hP hD hS hl hf hk
      rw [f_X12_busyShare_L11] at hf
      refine lv_iload_n hx hb dX12_busyShare_11 rfl (lv_at hl 0 rfl) ?_
      refine lv_iload_n hx hb dX12_busyShare_12 rfl (lv_at hl 2 rfl) ?_
      refine lv_icmp_ge (tgt := 44) hx hb dX12_busyShare_13 (by decide) (fun hc => ?_) (fun hc => ?_)
      · have hf := sf_bp hf hc
        exact hk _ _ _ _ (hP.sub [0, 1, 2, 3, 4, 5, 6, 7] rfl) (hD.sub [0, 1, 2, 3, 4, 5, 6, 7] (by decide) rfl) hS (lv_sub hl [1, 2, 3] rfl) hf
      · have hf := sf_bn hf hc
        refine lv_iload_n hx hb dX12_busyShare_16 rfl (lv_at hl 1 rfl) ?_
        refine lv_aload_n hx hb dX12_busyShare_17 rfl (lv_at hl 3 rfl) ?_
        refine lv_iload_n hx hb dX12_busyShare_18 rfl (lv_at hl 0 rfl) ?_
        refine lv_aload_n hx hb dX12_busyShare_19 rfl (lv_at hl 3 rfl) ?_
        refine gt_f (C := RX12) (T := TX12) (N := 17) hx hb ha in_X12 hown hK hP 0 rfl rfl 0 (by decide) m_1649 rfl dX12_busyShare_20 ?_
        refine lv_iconst (v := 3) hx hb dX12_busyShare_23 (by decide) ?_
        obtain ⟨hi, hf⟩ := sf_ge hf
        refine ia_ld hx hb hK hP 1 rfl hi dX12_busyShare_24 ?_
        obtain ⟨r_4, hc4, hf⟩ := sf_c1e hf
        refine k_Pi (run_PV (As := [.int v_2, .int (ms (3 : Int32).toNatClampNeg)]) (rest := [.int v_3]) ⟨hx, hb, hml, hown, ha⟩ (c_X12_during l D dA h0 h1 h2 h3 h4 h5 h6 h7  ms mb mv mi mp mn mt mo mO mI mL mA mW mE mF mc mM v_2 (ms (3 : Int32).toNatClampNeg) _ hc4) (gi_V m_1841 m_1843 m_56 m_85 m_1844) yd_X12_during ⟨Nat.le_of_ble_eq_true rfl, Nat.le_of_ble_eq_true rfl⟩ ⟨rfl, rfl⟩ hK hP [0, 1, 2, 3, 4, 5, 6, 7] rfl 0 10 rfl rfl rfl rfl hl.1 rfl (Nat.le_of_ble_eq_true rfl) dX12_busyShare_25 ⟨Nat.le_of_ble_eq_true rfl, Nat.le_of_ble_eq_true rfl⟩) hP hS (fun H locs hP hS => ?_)
        refine lv_if_lt (tgt := 35) hx hb dX12_busyShare_28 (by decide) (fun hc => ?_) (fun hc => ?_)
        · have hf := sf_bp hf hc
          refine lv_iconst (v := 0) hx hb dX12_busyShare_35 (by decide) ?_
          refine lv_iadd hx hb dX12_busyShare_36 ?_
          obtain ⟨x_5, ex_5, hf⟩ := sf_ne hf
          refine tp_i ex_5 ?_
          refine lv_istore_n (lv' := [(2, .int x_5), (3, .int v_2), (1, .int x_1), (0, .ref h0)]) hx hb dX12_busyShare_37 rfl hl (by decide) rfl (fun ls hl => ?_)
          obtain ⟨x_6, ex_6, hf⟩ := sf_ne hf
          refine ii_nc (lv' := [(3, .int x_6), (2, .int x_5), (1, .int x_1), (0, .ref h0)]) (k := 1) hx hb dX12_busyShare_38 hl rfl ex_6 (by decide) (by decide) rfl (fun ls hl => ?_)
          refine lv_goto (tgt := 11) hx hb dX12_busyShare_41 (by decide) ?_
          exact ih _ _ _ _ _ (hP.sub [0, 1, 2, 3, 4, 5, 6, 7] rfl) (hD.sub [0, 1, 2, 3, 4, 5, 6, 7] (by decide) rfl) hS (lv_sub hl [0, 1, 2, 3] rfl) hf hk
        · have hf := sf_bn hf hc
          refine lv_iconst (v := 1) hx hb dX12_busyShare_31 (by decide) ?_
          refine lv_goto (tgt := 36) hx hb dX12_busyShare_32 (by decide) ?_
          refine lv_iadd hx hb dX12_busyShare_36 ?_
          obtain ⟨x_7, ex_7, hf⟩ := sf_ne hf
          refine tp_i ex_7 ?_
          refine lv_istore_n (lv' := [(2, .int x_7), (3, .int v_2), (1, .int x_1), (0, .ref h0)]) hx hb dX12_busyShare_37 rfl hl (by decide) rfl (fun ls hl => ?_)
          obtain ⟨x_8, ex_8, hf⟩ := sf_ne hf
          refine ii_nc (lv' := [(3, .int x_8), (2, .int x_7), (1, .int x_1), (0, .ref h0)]) (k := 1) hx hb dX12_busyShare_38 hl rfl ex_8 (by decide) (by decide) rfl (fun ls hl => ?_)
          refine lv_goto (tgt := 11) hx hb dX12_busyShare_41 (by decide) ?_
          exact ih _ _ _ _ _ (hP.sub [0, 1, 2, 3, 4, 5, 6, 7] rfl) (hD.sub [0, 1, 2, 3, 4, 5, 6, 7] (by decide) rfl) hS (lv_sub hl [0, 1, 2, 3] rfl) hf hk
  refine hL11 _ _ _ _ _ _ _ hP hD hS (lv_sub hl [0, 1, 2, 3] rfl) hf (fun y_9 H locs ls hP hD hS hl hf => ?_)
  refine lv_aload_n hx hb dX12_busyShare_44 rfl (lv_at hl 2 rfl) ?_
  refine lv_iload_n hx hb dX12_busyShare_45 rfl (lv_at hl 1 rfl) ?_
  refine lv_if_le (tgt := 53) hx hb dX12_busyShare_46 (by decide) (fun hc => ?_) (fun hc => ?_)
  · have hf := sf_bp hf hc
    refine lv_iconst (v := 0) hx hb dX12_busyShare_53 (by decide) ?_
    obtain ⟨r_10, x_11, hc11, hf⟩ := sf_c2e hf
    refine k_Mi (wr := []) (run_MV (As := [.int (0 : Int32)]) (rest := []) ⟨hx, hb, hml, hown, ha⟩ (c_X12_isThere l D dA h0 h1 h2 h3 h4 h5 h6 h7 _ ms mb mv mi mp mn mt mo mO mI mL mA mW mE mF mc mM (0 : Int32) _ _ hc11) (gi_V m_1867 m_1869 m_59 m_85 m_1870) yd_X12_isThere ⟨Nat.le_of_ble_eq_true rfl, Nat.le_of_ble_eq_true rfl⟩ ⟨rfl, rfl⟩ hK hP hD [0, 1, 2, 3, 4, 5, 6, 7] (by decide) rfl 0 10 rfl rfl rfl rfl hl.1 rfl (Nat.le_of_ble_eq_true rfl) dX12_busyShare_54 ⟨Nat.le_of_ble_eq_true rfl, Nat.le_of_ble_eq_true rfl⟩) hP hD hS hA [0, 1, 2, 3, 4, 5, 6, 7] [] rfl rfl (by decide) (by decide) (fun H locs hP hD hS => ?_)
    refine lv_if_eq (tgt := 68) hx hb dX12_busyShare_57 (by decide) (fun hc => ?_) (fun hc => ?_)
    · have hf := sf_bp hf hc
      refine lv_fconst0 hx hb dX12_busyShare_68 ?_
      cases hf
      exact rt_Mf hx hb hr hlocks (hP.sub [0, 1, 2, 3, 4, 5, 6, 7] rfl) (hD.sub [0, 1, 2, 3, 4, 5, 6, 7] (by decide) rfl) hS dX12_busyShare_69
    · have hf := sf_bn hf hc
      refine lv_iload_n hx hb dX12_busyShare_60 rfl (lv_at hl 0 rfl) ?_
      refine lv_i2f hx hb dX12_busyShare_61 ?_
      refine lv_iload_n hx hb dX12_busyShare_62 rfl (lv_at hl 1 rfl) ?_
      refine lv_i2f hx hb dX12_busyShare_63 ?_
      obtain ⟨hi, hf⟩ := sf_ge hf
      refine lv_fdiv hx hb dX12_busyShare_64 (sf_n32e hi) ?_
      refine lv_goto (tgt := 69) hx hb dX12_busyShare_65 (by decide) ?_
      cases hf
      exact rt_Mf hx hb hr hlocks (hP.sub [0, 1, 2, 3, 4, 5, 6, 7] rfl) (hD.sub [0, 1, 2, 3, 4, 5, 6, 7] (by decide) rfl) hS dX12_busyShare_69
  · have hf := sf_bn hf hc
    refine lv_iconst (v := 1) hx hb dX12_busyShare_49 (by decide) ?_
    refine lv_goto (tgt := 54) hx hb dX12_busyShare_50 (by decide) ?_
    obtain ⟨r_12, x_13, hc13, hf⟩ := sf_c2e hf
    refine k_Mi (wr := []) (run_MV (As := [.int (1 : Int32)]) (rest := []) ⟨hx, hb, hml, hown, ha⟩ (c_X12_isThere l D dA h0 h1 h2 h3 h4 h5 h6 h7 _ ms mb mv mi mp mn mt mo mO mI mL mA mW mE mF mc mM (1 : Int32) _ _ hc13) (gi_V m_1867 m_1869 m_59 m_85 m_1870) yd_X12_isThere ⟨Nat.le_of_ble_eq_true rfl, Nat.le_of_ble_eq_true rfl⟩ ⟨rfl, rfl⟩ hK hP hD [0, 1, 2, 3, 4, 5, 6, 7] (by decide) rfl 0 10 rfl rfl rfl rfl hl.1 rfl (Nat.le_of_ble_eq_true rfl) dX12_busyShare_54 ⟨Nat.le_of_ble_eq_true rfl, Nat.le_of_ble_eq_true rfl⟩) hP hD hS hA [0, 1, 2, 3, 4, 5, 6, 7] [] rfl rfl (by decide) (by decide) (fun H locs hP hD hS => ?_)
    refine lv_if_eq (tgt := 68) hx hb dX12_busyShare_57 (by decide) (fun hc => ?_) (fun hc => ?_)
    · have hf := sf_bp hf hc
      refine lv_fconst0 hx hb dX12_busyShare_68 ?_
      cases hf
      exact rt_Mf hx hb hr hlocks (hP.sub [0, 1, 2, 3, 4, 5, 6, 7] rfl) (hD.sub [0, 1, 2, 3, 4, 5, 6, 7] (by decide) rfl) hS dX12_busyShare_69
    · have hf := sf_bn hf hc
      refine lv_iload_n hx hb dX12_busyShare_60 rfl (lv_at hl 0 rfl) ?_
      refine lv_i2f hx hb dX12_busyShare_61 ?_
      refine lv_iload_n hx hb dX12_busyShare_62 rfl (lv_at hl 1 rfl) ?_
      refine lv_i2f hx hb dX12_busyShare_63 ?_
      obtain ⟨hi, hf⟩ := sf_ge hf
      refine lv_fdiv hx hb dX12_busyShare_64 (sf_n32e hi) ?_
      refine lv_goto (tgt := 69) hx hb dX12_busyShare_65 (by decide) ?_
      cases hf
      exact rt_Mf hx hb hr hlocks (hP.sub [0, 1, 2, 3, 4, 5, 6, 7] rfl) (hD.sub [0, 1, 2, 3, 4, 5, 6, 7] (by decide) rfl) hS dX12_busyShare_69

def f_X12_isConsistent (mt : Int32) : Option (Int32 × Int32) :=
  some ((1 : Int32), (0 : Int32))
theorem yd_X12_isConsistent : yX12_isConsistent.cls = RX12 ∧ yX12_isConsistent.cls ≠ "java/lang/invoke/MethodHandle" ∧ yX12_isConsistent.cls ≠ "java/lang/invoke/VarHandle" ∧ (parseMethodDescriptor yX12_isConsistent.desc).map (fun d => d.parameters.length) = some 0 := ⟨rfl, by decide, by decide, by decide +kernel⟩
set_option maxRecDepth 100000 in
set_option maxHeartbeats 4000000 in
theorem c_X12_isConsistent (l : Launch) (D : va_G) (dA : Nat → ClassId) (h0 h1 h2 h3 h4 h5 h6 h7 : Nat) (sz : Nat) (ms : Nat → Int32) (mb : Nat → Int32) (mv : Nat → Int32) (mi : Int32) (mp : Nat → Int32) (mn : Int32) (mt : Int32) (mo : Nat → Int32) (mO : Int32) (mI : Nat → Int32) (mL : Int32) (mA : Int32) (mW : Int32) (mE : Int32) (mF : Int32) (mc : Nat → Int32) (mM : Int32) (rr : Int32) (q_mt : Int32) (hf : f_X12_isConsistent mt = some (rr, q_mt)) : Met l yX12_isConsistent (wo (.code yX12_isConsistent cX12_isConsistent 1 (some .boolean))) ({ frames := 0, cells := 0, slots := 0, locals := 0 } : Room) (preM D dA [.ref h0] sz [(h0, .inr (10, [.ref h1, .ref h2, .ref h3, .int mi, .ref h4, .int mn, .int mt, .ref h5, .int mO, .ref h6, .int mL, .int mA, .int mW, .int mE, .int mF, .ref h7, .int mM])), (h1, .inl (dA 0, 158, .inl ms)), (h2, .inl (dA 0, 158, .inl mb)), (h3, .inl (dA 0, 158, .inl mv)), (h4, .inl (dA 0, 1264, .inl mp)), (h5, .inl (dA 1, 180, .inl mo)), (h6, .inl (dA 1, 60, .inl mI)), (h7, .inl (dA 0, 240, .inl mc))]) (poMi D rr [(h0, .inr (10, [.ref h1, .ref h2, .ref h3, .int mi, .ref h4, .int mn, .int q_mt, .ref h5, .int mO, .ref h6, .int mL, .int mA, .int mW, .int mE, .int mF, .ref h7, .int mM])), (h1, .inl (dA 0, 158, .inl ms)), (h2, .inl (dA 0, 158, .inl mb)), (h3, .inl (dA 0, 158, .inl mv)), (h4, .inl (dA 0, 1264, .inl mp)), (h5, .inl (dA 1, 180, .inl mo)), (h6, .inl (dA 1, 60, .inl mI)), (h7, .inl (dA 0, 240, .inl mc))] (va_A [(h0, .inr (10, [.ref h1, .ref h2, .ref h3, .int mi, .ref h4, .int mn, .int mt, .ref h5, .int mO, .ref h6, .int mL, .int mA, .int mW, .int mE, .int mF, .ref h7, .int mM])), (h1, .inl (dA 0, 158, .inl ms)), (h2, .inl (dA 0, 158, .inl mb)), (h3, .inl (dA 0, 158, .inl mv)), (h4, .inl (dA 0, 1264, .inl mp)), (h5, .inl (dA 1, 180, .inl mo)), (h6, .inl (dA 1, 60, .inl mI)), (h7, .inl (dA 0, 240, .inl mc))] sz)) 0 0 (va_A [(h0, .inr (10, [.ref h1, .ref h2, .ref h3, .int mi, .ref h4, .int mn, .int mt, .ref h5, .int mO, .ref h6, .int mL, .int mA, .int mW, .int mE, .int mF, .ref h7, .int mM])), (h1, .inl (dA 0, 158, .inl ms)), (h2, .inl (dA 0, 158, .inl mb)), (h3, .inl (dA 0, 158, .inl mv)), (h4, .inl (dA 0, 1264, .inl mp)), (h5, .inl (dA 1, 180, .inl mo)), (h6, .inl (dA 1, 60, .inl mI)), (h7, .inl (dA 0, 240, .inl mc))] sz) := by
  refine of_M (y := yX12_isConsistent) (av := [.ref h0]) (ws := [(h0, .inr (10, [.ref h1, .ref h2, .ref h3, .int mi, .ref h4, .int mn, .int mt, .ref h5, .int mO, .ref h6, .int mL, .int mA, .int mW, .int mE, .int mF, .ref h7, .int mM])), (h1, .inl (dA 0, 158, .inl ms)), (h2, .inl (dA 0, 158, .inl mb)), (h3, .inl (dA 0, 158, .inl mv)), (h4, .inl (dA 0, 1264, .inl mp)), (h5, .inl (dA 1, 180, .inl mo)), (h6, .inl (dA 1, 60, .inl mI)), (h7, .inl (dA 0, 240, .inl mc))]) (sz := sz) (own := RX12) (Qc := poMi D rr [(h0, .inr (10, [.ref h1, .ref h2, .ref h3, .int mi, .ref h4, .int mn, .int q_mt, .ref h5, .int mO, .ref h6, .int mL, .int mA, .int mW, .int mE, .int mF, .ref h7, .int mM])), (h1, .inl (dA 0, 158, .inl ms)), (h2, .inl (dA 0, 158, .inl mb)), (h3, .inl (dA 0, 158, .inl mv)), (h4, .inl (dA 0, 1264, .inl mp)), (h5, .inl (dA 1, 180, .inl mo)), (h6, .inl (dA 1, 60, .inl mI)), (h7, .inl (dA 0, 240, .inl mc))]) (by decide) rfl (Nat.le_of_ble_eq_true rfl) ?_
  intro p e s m below meth c A hx hb hr ha hown hml hlocks hin hP hK hD hS hA ls hl
  have hl : lv_has ls 1 [(0, .ref h0)] := hl
  rw [f_X12_isConsistent] at hf
  refine lv_aload_n hx hb dX12_isConsistent_0 rfl (lv_at hl 0 rfl) ?_
  refine lv_iconst (v := 0) hx hb dX12_isConsistent_1 (by decide) ?_
  refine pt_f (C := RX12) (T := TX12) (N := 17) (ws' := [(h0, .inr (10, [.ref h1, .ref h2, .ref h3, .int mi, .ref h4, .int mn, .int (0 : Int32), .ref h5, .int mO, .ref h6, .int mL, .int mA, .int mW, .int mE, .int mF, .ref h7, .int mM])), (h1, .inl (dA 0, 158, .inl ms)), (h2, .inl (dA 0, 158, .inl mb)), (h3, .inl (dA 0, 158, .inl mv)), (h4, .inl (dA 0, 1264, .inl mp)), (h5, .inl (dA 1, 180, .inl mo)), (h6, .inl (dA 1, 60, .inl mI)), (h7, .inl (dA 0, 240, .inl mc))]) (ty := .int) hx hb ha in_X12 tyX12 tyX12_ok nmX12 hown hK hP hD hS 0 rfl rfl 6 (by decide) m_1655 rfl (tyX12_ok 6 (by decide)) rfl rfl (Nat.le_of_ble_eq_true rfl) rfl dX12_isConsistent_2 (fun H locs hP hD hS => ?_)
  refine lv_iconst (v := 1) hx hb dX12_isConsistent_5 (by decide) ?_
  cases hf
  exact rt_Mz hx hb hr hlocks rfl (hP.sub [0, 1, 2, 3, 4, 5, 6, 7] rfl) (hD.sub [0, 1, 2, 3, 4, 5, 6, 7] (by decide) rfl) hS dX12_isConsistent_6

def f_X12_says (mo : Nat → Int32) (mO : Int32) (p0 : Int32) : Option ((Nat → Int32) × Int32) :=
  sf_g (sf_in mO 180 = true) (sf_n (upd mo mO.toNatClampNeg (vp_nar .char p0)) (fun a_1 => sf_n ((mO + (1 : Int32))) (fun x_2 => some (a_1, x_2))))
theorem yd_X12_says : yX12_says.cls = RX12 ∧ yX12_says.cls ≠ "java/lang/invoke/MethodHandle" ∧ yX12_says.cls ≠ "java/lang/invoke/VarHandle" ∧ (parseMethodDescriptor yX12_says.desc).map (fun d => d.parameters.length) = some 1 := ⟨rfl, by decide, by decide, by decide +kernel⟩
set_option maxRecDepth 100000 in
set_option maxHeartbeats 4000000 in
theorem c_X12_says (l : Launch) (D : va_G) (dA : Nat → ClassId) (h0 h1 h2 h3 h4 h5 h6 h7 : Nat) (sz : Nat) (ms : Nat → Int32) (mb : Nat → Int32) (mv : Nat → Int32) (mi : Int32) (mp : Nat → Int32) (mn : Int32) (mt : Int32) (mo : Nat → Int32) (mO : Int32) (mI : Nat → Int32) (mL : Int32) (mA : Int32) (mW : Int32) (mE : Int32) (mF : Int32) (mc : Nat → Int32) (mM : Int32) (p0 : Int32) (q_mo : Nat → Int32) (q_mO : Int32) (hf : f_X12_says mo mO p0 = some (q_mo, q_mO)) : Met l yX12_says (wo (.code yX12_says cX12_says 2 none)) ({ frames := 0, cells := 0, slots := 0, locals := 0 } : Room) (preM D dA [.ref h0, .int p0] sz [(h0, .inr (10, [.ref h1, .ref h2, .ref h3, .int mi, .ref h4, .int mn, .int mt, .ref h5, .int mO, .ref h6, .int mL, .int mA, .int mW, .int mE, .int mF, .ref h7, .int mM])), (h1, .inl (dA 0, 158, .inl ms)), (h2, .inl (dA 0, 158, .inl mb)), (h3, .inl (dA 0, 158, .inl mv)), (h4, .inl (dA 0, 1264, .inl mp)), (h5, .inl (dA 1, 180, .inl mo)), (h6, .inl (dA 1, 60, .inl mI)), (h7, .inl (dA 0, 240, .inl mc))]) (poMv D [(h0, .inr (10, [.ref h1, .ref h2, .ref h3, .int mi, .ref h4, .int mn, .int mt, .ref h5, .int q_mO, .ref h6, .int mL, .int mA, .int mW, .int mE, .int mF, .ref h7, .int mM])), (h1, .inl (dA 0, 158, .inl ms)), (h2, .inl (dA 0, 158, .inl mb)), (h3, .inl (dA 0, 158, .inl mv)), (h4, .inl (dA 0, 1264, .inl mp)), (h5, .inl (dA 1, 180, .inl q_mo)), (h6, .inl (dA 1, 60, .inl mI)), (h7, .inl (dA 0, 240, .inl mc))] (va_A [(h0, .inr (10, [.ref h1, .ref h2, .ref h3, .int mi, .ref h4, .int mn, .int mt, .ref h5, .int mO, .ref h6, .int mL, .int mA, .int mW, .int mE, .int mF, .ref h7, .int mM])), (h1, .inl (dA 0, 158, .inl ms)), (h2, .inl (dA 0, 158, .inl mb)), (h3, .inl (dA 0, 158, .inl mv)), (h4, .inl (dA 0, 1264, .inl mp)), (h5, .inl (dA 1, 180, .inl mo)), (h6, .inl (dA 1, 60, .inl mI)), (h7, .inl (dA 0, 240, .inl mc))] sz)) 0 0 (va_A [(h0, .inr (10, [.ref h1, .ref h2, .ref h3, .int mi, .ref h4, .int mn, .int mt, .ref h5, .int mO, .ref h6, .int mL, .int mA, .int mW, .int mE, .int mF, .ref h7, .int mM])), (h1, .inl (dA 0, 158, .inl ms)), (h2, .inl (dA 0, 158, .inl mb)), (h3, .inl (dA 0, 158, .inl mv)), (h4, .inl (dA 0, 1264, .inl mp)), (h5, .inl (dA 1, 180, .inl mo)), (h6, .inl (dA 1, 60, .inl mI)), (h7, .inl (dA 0, 240, .inl mc))] sz) := by
  refine of_M (y := yX12_says) (av := [.ref h0, .int p0]) (ws := [(h0, .inr (10, [.ref h1, .ref h2, .ref h3, .int mi, .ref h4, .int mn, .int mt, .ref h5, .int mO, .ref h6, .int mL, .int mA, .int mW, .int mE, .int mF, .ref h7, .int mM])), (h1, .inl (dA 0, 158, .inl ms)), (h2, .inl (dA 0, 158, .inl mb)), (h3, .inl (dA 0, 158, .inl mv)), (h4, .inl (dA 0, 1264, .inl mp)), (h5, .inl (dA 1, 180, .inl mo)), (h6, .inl (dA 1, 60, .inl mI)), (h7, .inl (dA 0, 240, .inl mc))]) (sz := sz) (own := RX12) (Qc := poMv D [(h0, .inr (10, [.ref h1, .ref h2, .ref h3, .int mi, .ref h4, .int mn, .int mt, .ref h5, .int q_mO, .ref h6, .int mL, .int mA, .int mW, .int mE, .int mF, .ref h7, .int mM])), (h1, .inl (dA 0, 158, .inl ms)), (h2, .inl (dA 0, 158, .inl mb)), (h3, .inl (dA 0, 158, .inl mv)), (h4, .inl (dA 0, 1264, .inl mp)), (h5, .inl (dA 1, 180, .inl q_mo)), (h6, .inl (dA 1, 60, .inl mI)), (h7, .inl (dA 0, 240, .inl mc))]) (by decide) rfl (Nat.le_of_ble_eq_true rfl) ?_
  intro p e s m below meth c A hx hb hr ha hown hml hlocks hin hP hK hD hS hA ls hl
  have hl : lv_has ls 2 [(0, .ref h0), (1, .int p0)] := hl
  rw [f_X12_says] at hf
  refine lv_aload_n hx hb dX12_says_0 rfl (lv_at hl 0 rfl) ?_
  refine gt_f (C := RX12) (T := TX12) (N := 17) hx hb ha in_X12 hown hK hP 0 rfl rfl 7 (by decide) m_1656 rfl dX12_says_1 ?_
  refine lv_aload_n hx hb dX12_says_4 rfl (lv_at hl 0 rfl) ?_
  refine gt_f (C := RX12) (T := TX12) (N := 17) hx hb ha in_X12 hown hK hP 0 rfl rfl 8 (by decide) m_1657 rfl dX12_says_5 ?_
  refine lv_iload_n hx hb dX12_says_8 rfl (lv_at hl 1 rfl) ?_
  obtain ⟨hi, hf⟩ := sf_ge hf
  obtain ⟨a_1, ea_1, hf⟩ := sf_ne hf
  refine ca_st (ws' := [(h0, .inr (10, [.ref h1, .ref h2, .ref h3, .int mi, .ref h4, .int mn, .int mt, .ref h5, .int mO, .ref h6, .int mL, .int mA, .int mW, .int mE, .int mF, .ref h7, .int mM])), (h1, .inl (dA 0, 158, .inl ms)), (h2, .inl (dA 0, 158, .inl mb)), (h3, .inl (dA 0, 158, .inl mv)), (h4, .inl (dA 0, 1264, .inl mp)), (h5, .inl (dA 1, 180, .inl a_1)), (h6, .inl (dA 1, 60, .inl mI)), (h7, .inl (dA 0, 240, .inl mc))]) hx hb hK hP hD hS 5 rfl hi ea_1 rfl dX12_says_9 (fun H locs hP hD hS => ?_)
  refine lv_aload_n hx hb dX12_says_10 rfl (lv_at hl 0 rfl) ?_
  refine lv_dup hx hb dX12_says_11 rfl ?_
  refine gt_f (C := RX12) (T := TX12) (N := 17) hx hb ha in_X12 hown hK hP 0 rfl rfl 8 (by decide) m_1657 rfl dX12_says_12 ?_
  refine lv_iconst (v := 1) hx hb dX12_says_15 (by decide) ?_
  refine lv_iadd hx hb dX12_says_16 ?_
  obtain ⟨x_2, ex_2, hf⟩ := sf_ne hf
  refine tp_i ex_2 ?_
  refine pt_f (C := RX12) (T := TX12) (N := 17) (ws' := [(h0, .inr (10, [.ref h1, .ref h2, .ref h3, .int mi, .ref h4, .int mn, .int mt, .ref h5, .int x_2, .ref h6, .int mL, .int mA, .int mW, .int mE, .int mF, .ref h7, .int mM])), (h1, .inl (dA 0, 158, .inl ms)), (h2, .inl (dA 0, 158, .inl mb)), (h3, .inl (dA 0, 158, .inl mv)), (h4, .inl (dA 0, 1264, .inl mp)), (h5, .inl (dA 1, 180, .inl a_1)), (h6, .inl (dA 1, 60, .inl mI)), (h7, .inl (dA 0, 240, .inl mc))]) (ty := .int) hx hb ha in_X12 tyX12 tyX12_ok nmX12 hown hK hP hD hS 0 rfl rfl 8 (by decide) m_1657 rfl (tyX12_ok 8 (by decide)) rfl rfl (Nat.le_of_ble_eq_true rfl) rfl dX12_says_17 (fun H locs hP hD hS => ?_)
  cases hf
  exact rt_Mv hx hb hr hlocks (hP.sub [0, 1, 2, 3, 4, 5, 6, 7] rfl) (hD.sub [0, 1, 2, 3, 4, 5, 6, 7] (by decide) rfl) hS dX12_says_20

def f_X12_saysNumber_0 (mo : Nat → Int32) (mO : Int32) (p0 : Int32) : Option ((Nat → Int32) × Int32) :=
  sf_b (p0 ≤ (9 : Int32)) (sf_c2 (f_X12_says mo mO ((((48 : Int32) + (p0 - p0 / (10 : Int32) * (10 : Int32))).toUInt32 % 65536).toInt32)) (fun a_1 x_2 => some (a_1, x_2))) (none)
theorem yd_X12_saysNumber_0 : yX12_saysNumber.cls = RX12 ∧ yX12_saysNumber.cls ≠ "java/lang/invoke/MethodHandle" ∧ yX12_saysNumber.cls ≠ "java/lang/invoke/VarHandle" ∧ (parseMethodDescriptor yX12_saysNumber.desc).map (fun d => d.parameters.length) = some 1 := ⟨rfl, by decide, by decide, by decide +kernel⟩
set_option maxRecDepth 100000 in
set_option maxHeartbeats 4000000 in
theorem c_X12_saysNumber_0 (l : Launch) (D : va_G) (dA : Nat → ClassId) (h0 h1 h2 h3 h4 h5 h6 h7 : Nat) (sz : Nat) (ms : Nat → Int32) (mb : Nat → Int32) (mv : Nat → Int32) (mi : Int32) (mp : Nat → Int32) (mn : Int32) (mt : Int32) (mo : Nat → Int32) (mO : Int32) (mI : Nat → Int32) (mL : Int32) (mA : Int32) (mW : Int32) (mE : Int32) (mF : Int32) (mc : Nat → Int32) (mM : Int32) (p0 : Int32) (q_mo : Nat → Int32) (q_mO : Int32) (hf : f_X12_saysNumber_0 mo mO p0 = some (q_mo, q_mO)) : Met l yX12_saysNumber (wo (.code yX12_saysNumber cX12_saysNumber 2 none)) ({ frames := 1, cells := 0, slots := 0, locals := 21 } : Room) (preM D dA [.ref h0, .int p0] sz [(h0, .inr (10, [.ref h1, .ref h2, .ref h3, .int mi, .ref h4, .int mn, .int mt, .ref h5, .int mO, .ref h6, .int mL, .int mA, .int mW, .int mE, .int mF, .ref h7, .int mM])), (h1, .inl (dA 0, 158, .inl ms)), (h2, .inl (dA 0, 158, .inl mb)), (h3, .inl (dA 0, 158, .inl mv)), (h4, .inl (dA 0, 1264, .inl mp)), (h5, .inl (dA 1, 180, .inl mo)), (h6, .inl (dA 1, 60, .inl mI)), (h7, .inl (dA 0, 240, .inl mc))]) (poMv D [(h0, .inr (10, [.ref h1, .ref h2, .ref h3, .int mi, .ref h4, .int mn, .int mt, .ref h5, .int q_mO, .ref h6, .int mL, .int mA, .int mW, .int mE, .int mF, .ref h7, .int mM])), (h1, .inl (dA 0, 158, .inl ms)), (h2, .inl (dA 0, 158, .inl mb)), (h3, .inl (dA 0, 158, .inl mv)), (h4, .inl (dA 0, 1264, .inl mp)), (h5, .inl (dA 1, 180, .inl q_mo)), (h6, .inl (dA 1, 60, .inl mI)), (h7, .inl (dA 0, 240, .inl mc))] (va_A [(h0, .inr (10, [.ref h1, .ref h2, .ref h3, .int mi, .ref h4, .int mn, .int mt, .ref h5, .int mO, .ref h6, .int mL, .int mA, .int mW, .int mE, .int mF, .ref h7, .int mM])), (h1, .inl (dA 0, 158, .inl ms)), (h2, .inl (dA 0, 158, .inl mb)), (h3, .inl (dA 0, 158, .inl mv)), (h4, .inl (dA 0, 1264, .inl mp)), (h5, .inl (dA 1, 180, .inl mo)), (h6, .inl (dA 1, 60, .inl mI)), (h7, .inl (dA 0, 240, .inl mc))] sz)) 0 0 (va_A [(h0, .inr (10, [.ref h1, .ref h2, .ref h3, .int mi, .ref h4, .int mn, .int mt, .ref h5, .int mO, .ref h6, .int mL, .int mA, .int mW, .int mE, .int mF, .ref h7, .int mM])), (h1, .inl (dA 0, 158, .inl ms)), (h2, .inl (dA 0, 158, .inl mb)), (h3, .inl (dA 0, 158, .inl mv)), (h4, .inl (dA 0, 1264, .inl mp)), (h5, .inl (dA 1, 180, .inl mo)), (h6, .inl (dA 1, 60, .inl mI)), (h7, .inl (dA 0, 240, .inl mc))] sz) := by
  refine of_M (y := yX12_saysNumber) (av := [.ref h0, .int p0]) (ws := [(h0, .inr (10, [.ref h1, .ref h2, .ref h3, .int mi, .ref h4, .int mn, .int mt, .ref h5, .int mO, .ref h6, .int mL, .int mA, .int mW, .int mE, .int mF, .ref h7, .int mM])), (h1, .inl (dA 0, 158, .inl ms)), (h2, .inl (dA 0, 158, .inl mb)), (h3, .inl (dA 0, 158, .inl mv)), (h4, .inl (dA 0, 1264, .inl mp)), (h5, .inl (dA 1, 180, .inl mo)), (h6, .inl (dA 1, 60, .inl mI)), (h7, .inl (dA 0, 240, .inl mc))]) (sz := sz) (own := RX12) (Qc := poMv D [(h0, .inr (10, [.ref h1, .ref h2, .ref h3, .int mi, .ref h4, .int mn, .int mt, .ref h5, .int q_mO, .ref h6, .int mL, .int mA, .int mW, .int mE, .int mF, .ref h7, .int mM])), (h1, .inl (dA 0, 158, .inl ms)), (h2, .inl (dA 0, 158, .inl mb)), (h3, .inl (dA 0, 158, .inl mv)), (h4, .inl (dA 0, 1264, .inl mp)), (h5, .inl (dA 1, 180, .inl q_mo)), (h6, .inl (dA 1, 60, .inl mI)), (h7, .inl (dA 0, 240, .inl mc))]) (by decide) rfl (Nat.le_of_ble_eq_true rfl) ?_
  intro p e s m below meth c A hx hb hr ha hown hml hlocks hin hP hK hD hS hA ls hl
  have hl : lv_has ls 2 [(0, .ref h0), (1, .int p0)] := hl
  rw [f_X12_saysNumber_0] at hf
  refine lv_iload_n hx hb dX12_saysNumber_0 rfl (lv_at hl 1 rfl) ?_
  refine lv_bipush (v := 9) hx hb dX12_saysNumber_1 (by decide) ?_
  refine lv_icmp_le (tgt := 14) hx hb dX12_saysNumber_3 (by decide) (fun hc => ?_) (fun hc => ?_)
  · have hf := sf_bp hf hc
    refine lv_aload_n hx hb dX12_saysNumber_14 rfl (lv_at hl 0 rfl) ?_
    refine lv_bipush (v := 48) hx hb dX12_saysNumber_15 (by decide) ?_
    refine lv_iload_n hx hb dX12_saysNumber_17 rfl (lv_at hl 1 rfl) ?_
    refine lv_bipush (v := 10) hx hb dX12_saysNumber_18 (by decide) ?_
    refine lv_irem hx hb dX12_saysNumber_20 (by decide) ?_
    refine lv_iadd hx hb dX12_saysNumber_21 ?_
    refine lv_i2c hx hb dX12_saysNumber_22 rfl ?_
    obtain ⟨a_1, x_2, hc2, hf⟩ := sf_c2e hf
    refine k_Mv (wr := []) (run_MV (As := [.int ((((48 : Int32) + (p0 - p0 / (10 : Int32) * (10 : Int32))).toUInt32 % 65536).toInt32)]) (rest := []) ⟨hx, hb, hml, hown, ha⟩ (c_X12_says l D dA h0 h1 h2 h3 h4 h5 h6 h7 _ ms mb mv mi mp mn mt mo mO mI mL mA mW mE mF mc mM ((((48 : Int32) + (p0 - p0 / (10 : Int32) * (10 : Int32))).toUInt32 % 65536).toInt32) _ _ hc2) (gi_V m_2036 m_2038 m_63 m_85 m_2039) yd_X12_says ⟨Nat.le_of_ble_eq_true rfl, Nat.le_of_ble_eq_true rfl⟩ ⟨rfl, rfl⟩ hK hP hD [0, 1, 2, 3, 4, 5, 6, 7] (by decide) rfl 0 10 rfl rfl rfl rfl hl.1 rfl (Nat.le_of_ble_eq_true rfl) dX12_saysNumber_23 ⟨Nat.le_of_ble_eq_true rfl, Nat.le_of_ble_eq_true rfl⟩) hP hD hS hA [0, 1, 2, 3, 4, 5, 6, 7] [] rfl rfl (by decide) (by decide) (fun H locs hP hD hS => ?_)
    cases hf
    exact rt_Mv hx hb hr hlocks (hP.sub [0, 1, 2, 3, 4, 5, 6, 7] rfl) (hD.sub [0, 1, 2, 3, 4, 5, 6, 7] (by decide) rfl) hS dX12_saysNumber_26
  · have hf := sf_bn hf hc
    refine lv_aload_n hx hb dX12_saysNumber_6 rfl (lv_at hl 0 rfl) ?_
    refine lv_iload_n hx hb dX12_saysNumber_7 rfl (lv_at hl 1 rfl) ?_
    refine lv_bipush (v := 10) hx hb dX12_saysNumber_8 (by decide) ?_
    refine lv_idiv hx hb dX12_saysNumber_10 (by decide) ?_
    cases hf

def f_X12_saysNumber_1 (mo : Nat → Int32) (mO : Int32) (p0 : Int32) : Option ((Nat → Int32) × Int32) :=
  sf_b (p0 ≤ (9 : Int32)) (sf_c2 (f_X12_says mo mO ((((48 : Int32) + (p0 - p0 / (10 : Int32) * (10 : Int32))).toUInt32 % 65536).toInt32)) (fun a_1 x_2 => some (a_1, x_2))) (sf_c2 (f_X12_saysNumber_0 mo mO (p0 / (10 : Int32))) (fun a_3 x_4 => sf_c2 (f_X12_says a_3 x_4 ((((48 : Int32) + (p0 - p0 / (10 : Int32) * (10 : Int32))).toUInt32 % 65536).toInt32)) (fun a_5 x_6 => some (a_5, x_6))))
theorem yd_X12_saysNumber_1 : yX12_saysNumber.cls = RX12 ∧ yX12_saysNumber.cls ≠ "java/lang/invoke/MethodHandle" ∧ yX12_saysNumber.cls ≠ "java/lang/invoke/VarHandle" ∧ (parseMethodDescriptor yX12_saysNumber.desc).map (fun d => d.parameters.length) = some 1 := ⟨rfl, by decide, by decide, by decide +kernel⟩
set_option maxRecDepth 100000 in
set_option maxHeartbeats 4000000 in
theorem c_X12_saysNumber_1 (l : Launch) (D : va_G) (dA : Nat → ClassId) (h0 h1 h2 h3 h4 h5 h6 h7 : Nat) (sz : Nat) (ms : Nat → Int32) (mb : Nat → Int32) (mv : Nat → Int32) (mi : Int32) (mp : Nat → Int32) (mn : Int32) (mt : Int32) (mo : Nat → Int32) (mO : Int32) (mI : Nat → Int32) (mL : Int32) (mA : Int32) (mW : Int32) (mE : Int32) (mF : Int32) (mc : Nat → Int32) (mM : Int32) (p0 : Int32) (q_mo : Nat → Int32) (q_mO : Int32) (hf : f_X12_saysNumber_1 mo mO p0 = some (q_mo, q_mO)) : Met l yX12_saysNumber (wo (.code yX12_saysNumber cX12_saysNumber 2 none)) ({ frames := 2, cells := 0, slots := 0, locals := 42 } : Room) (preM D dA [.ref h0, .int p0] sz [(h0, .inr (10, [.ref h1, .ref h2, .ref h3, .int mi, .ref h4, .int mn, .int mt, .ref h5, .int mO, .ref h6, .int mL, .int mA, .int mW, .int mE, .int mF, .ref h7, .int mM])), (h1, .inl (dA 0, 158, .inl ms)), (h2, .inl (dA 0, 158, .inl mb)), (h3, .inl (dA 0, 158, .inl mv)), (h4, .inl (dA 0, 1264, .inl mp)), (h5, .inl (dA 1, 180, .inl mo)), (h6, .inl (dA 1, 60, .inl mI)), (h7, .inl (dA 0, 240, .inl mc))]) (poMv D [(h0, .inr (10, [.ref h1, .ref h2, .ref h3, .int mi, .ref h4, .int mn, .int mt, .ref h5, .int q_mO, .ref h6, .int mL, .int mA, .int mW, .int mE, .int mF, .ref h7, .int mM])), (h1, .inl (dA 0, 158, .inl ms)), (h2, .inl (dA 0, 158, .inl mb)), (h3, .inl (dA 0, 158, .inl mv)), (h4, .inl (dA 0, 1264, .inl mp)), (h5, .inl (dA 1, 180, .inl q_mo)), (h6, .inl (dA 1, 60, .inl mI)), (h7, .inl (dA 0, 240, .inl mc))] (va_A [(h0, .inr (10, [.ref h1, .ref h2, .ref h3, .int mi, .ref h4, .int mn, .int mt, .ref h5, .int mO, .ref h6, .int mL, .int mA, .int mW, .int mE, .int mF, .ref h7, .int mM])), (h1, .inl (dA 0, 158, .inl ms)), (h2, .inl (dA 0, 158, .inl mb)), (h3, .inl (dA 0, 158, .inl mv)), (h4, .inl (dA 0, 1264, .inl mp)), (h5, .inl (dA 1, 180, .inl mo)), (h6, .inl (dA 1, 60, .inl mI)), (h7, .inl (dA 0, 240, .inl mc))] sz)) 0 0 (va_A [(h0, .inr (10, [.ref h1, .ref h2, .ref h3, .int mi, .ref h4, .int mn, .int mt, .ref h5, .int mO, .ref h6, .int mL, .int mA, .int mW, .int mE, .int mF, .ref h7, .int mM])), (h1, .inl (dA 0, 158, .inl ms)), (h2, .inl (dA 0, 158, .inl mb)), (h3, .inl (dA 0, 158, .inl mv)), (h4, .inl (dA 0, 1264, .inl mp)), (h5, .inl (dA 1, 180, .inl mo)), (h6, .inl (dA 1, 60, .inl mI)), (h7, .inl (dA 0, 240, .inl mc))] sz) := by
  refine of_M (y := yX12_saysNumber) (av := [.ref h0, .int p0]) (ws := [(h0, .inr (10, [.ref h1, .ref h2, .ref h3, .int mi, .ref h4, .int mn, .int mt, .ref h5, .int mO, .ref h6, .int mL, .int mA, .int mW, .int mE, .int mF, .ref h7, .int mM])), (h1, .inl (dA 0, 158, .inl ms)), (h2, .inl (dA 0, 158, .inl mb)), (h3, .inl (dA 0, 158, .inl mv)), (h4, .inl (dA 0, 1264, .inl mp)), (h5, .inl (dA 1, 180, .inl mo)), (h6, .inl (dA 1, 60, .inl mI)), (h7, .inl (dA 0, 240, .inl mc))]) (sz := sz) (own := RX12) (Qc := poMv D [(h0, .inr (10, [.ref h1, .ref h2, .ref h3, .int mi, .ref h4, .int mn, .int mt, .ref h5, .int q_mO, .ref h6, .int mL, .int mA, .int mW, .int mE, .int mF, .ref h7, .int mM])), (h1, .inl (dA 0, 158, .inl ms)), (h2, .inl (dA 0, 158, .inl mb)), (h3, .inl (dA 0, 158, .inl mv)), (h4, .inl (dA 0, 1264, .inl mp)), (h5, .inl (dA 1, 180, .inl q_mo)), (h6, .inl (dA 1, 60, .inl mI)), (h7, .inl (dA 0, 240, .inl mc))]) (by decide) rfl (Nat.le_of_ble_eq_true rfl) ?_
  intro p e s m below meth c A hx hb hr ha hown hml hlocks hin hP hK hD hS hA ls hl
  have hl : lv_has ls 2 [(0, .ref h0), (1, .int p0)] := hl
  rw [f_X12_saysNumber_1] at hf
  refine lv_iload_n hx hb dX12_saysNumber_0 rfl (lv_at hl 1 rfl) ?_
  refine lv_bipush (v := 9) hx hb dX12_saysNumber_1 (by decide) ?_
  refine lv_icmp_le (tgt := 14) hx hb dX12_saysNumber_3 (by decide) (fun hc => ?_) (fun hc => ?_)
  · have hf := sf_bp hf hc
    refine lv_aload_n hx hb dX12_saysNumber_14 rfl (lv_at hl 0 rfl) ?_
    refine lv_bipush (v := 48) hx hb dX12_saysNumber_15 (by decide) ?_
    refine lv_iload_n hx hb dX12_saysNumber_17 rfl (lv_at hl 1 rfl) ?_
    refine lv_bipush (v := 10) hx hb dX12_saysNumber_18 (by decide) ?_
    refine lv_irem hx hb dX12_saysNumber_20 (by decide) ?_
    refine lv_iadd hx hb dX12_saysNumber_21 ?_
    refine lv_i2c hx hb dX12_saysNumber_22 rfl ?_
    obtain ⟨a_1, x_2, hc2, hf⟩ := sf_c2e hf
    refine k_Mv (wr := []) (run_MV (As := [.int ((((48 : Int32) + (p0 - p0 / (10 : Int32) * (10 : Int32))).toUInt32 % 65536).toInt32)]) (rest := []) ⟨hx, hb, hml, hown, ha⟩ (c_X12_says l D dA h0 h1 h2 h3 h4 h5 h6 h7 _ ms mb mv mi mp mn mt mo mO mI mL mA mW mE mF mc mM ((((48 : Int32) + (p0 - p0 / (10 : Int32) * (10 : Int32))).toUInt32 % 65536).toInt32) _ _ hc2) (gi_V m_2036 m_2038 m_63 m_85 m_2039) yd_X12_says ⟨Nat.le_of_ble_eq_true rfl, Nat.le_of_ble_eq_true rfl⟩ ⟨rfl, rfl⟩ hK hP hD [0, 1, 2, 3, 4, 5, 6, 7] (by decide) rfl 0 10 rfl rfl rfl rfl hl.1 rfl (Nat.le_of_ble_eq_true rfl) dX12_saysNumber_23 ⟨Nat.le_of_ble_eq_true rfl, Nat.le_of_ble_eq_true rfl⟩) hP hD hS hA [0, 1, 2, 3, 4, 5, 6, 7] [] rfl rfl (by decide) (by decide) (fun H locs hP hD hS => ?_)
    cases hf
    exact rt_Mv hx hb hr hlocks (hP.sub [0, 1, 2, 3, 4, 5, 6, 7] rfl) (hD.sub [0, 1, 2, 3, 4, 5, 6, 7] (by decide) rfl) hS dX12_saysNumber_26
  · have hf := sf_bn hf hc
    refine lv_aload_n hx hb dX12_saysNumber_6 rfl (lv_at hl 0 rfl) ?_
    refine lv_iload_n hx hb dX12_saysNumber_7 rfl (lv_at hl 1 rfl) ?_
    refine lv_bipush (v := 10) hx hb dX12_saysNumber_8 (by decide) ?_
    refine lv_idiv hx hb dX12_saysNumber_10 (by decide) ?_
    obtain ⟨a_3, x_4, hc4, hf⟩ := sf_c2e hf
    refine k_Mv (wr := []) (run_MV (As := [.int (p0 / (10 : Int32))]) (rest := []) ⟨hx, hb, hml, hown, ha⟩ (c_X12_saysNumber_0 l D dA h0 h1 h2 h3 h4 h5 h6 h7 _ ms mb mv mi mp mn mt mo mO mI mL mA mW mE mF mc mM (p0 / (10 : Int32)) _ _ hc4) (gi_V m_2032 m_2034 m_62 m_85 m_2035) yd_X12_saysNumber_0 ⟨Nat.le_of_ble_eq_true rfl, Nat.le_of_ble_eq_true rfl⟩ ⟨rfl, rfl⟩ hK hP hD [0, 1, 2, 3, 4, 5, 6, 7] (by decide) rfl 0 10 rfl rfl rfl rfl hl.1 rfl (Nat.le_of_ble_eq_true rfl) dX12_saysNumber_11 ⟨Nat.le_of_ble_eq_true rfl, Nat.le_of_ble_eq_true rfl⟩) hP hD hS hA [0, 1, 2, 3, 4, 5, 6, 7] [] rfl rfl (by decide) (by decide) (fun H locs hP hD hS => ?_)
    refine lv_aload_n hx hb dX12_saysNumber_14 rfl (lv_at hl 0 rfl) ?_
    refine lv_bipush (v := 48) hx hb dX12_saysNumber_15 (by decide) ?_
    refine lv_iload_n hx hb dX12_saysNumber_17 rfl (lv_at hl 1 rfl) ?_
    refine lv_bipush (v := 10) hx hb dX12_saysNumber_18 (by decide) ?_
    refine lv_irem hx hb dX12_saysNumber_20 (by decide) ?_
    refine lv_iadd hx hb dX12_saysNumber_21 ?_
    refine lv_i2c hx hb dX12_saysNumber_22 rfl ?_
    obtain ⟨a_5, x_6, hc6, hf⟩ := sf_c2e hf
    refine k_Mv (wr := []) (run_MV (As := [.int ((((48 : Int32) + (p0 - p0 / (10 : Int32) * (10 : Int32))).toUInt32 % 65536).toInt32)]) (rest := []) ⟨hx, hb, hml, hown, ha⟩ (c_X12_says l D dA h0 h1 h2 h3 h4 h5 h6 h7 _ ms mb mv mi mp mn mt a_3 x_4 mI mL mA mW mE mF mc mM ((((48 : Int32) + (p0 - p0 / (10 : Int32) * (10 : Int32))).toUInt32 % 65536).toInt32) _ _ hc6) (gi_V m_2036 m_2038 m_63 m_85 m_2039) yd_X12_says ⟨Nat.le_of_ble_eq_true rfl, Nat.le_of_ble_eq_true rfl⟩ ⟨rfl, rfl⟩ hK hP hD [0, 1, 2, 3, 4, 5, 6, 7] (by decide) rfl 0 10 rfl rfl rfl rfl hl.1 rfl (Nat.le_of_ble_eq_true rfl) dX12_saysNumber_23 ⟨Nat.le_of_ble_eq_true rfl, Nat.le_of_ble_eq_true rfl⟩) hP hD hS hA [0, 1, 2, 3, 4, 5, 6, 7] [] rfl rfl (by decide) (by decide) (fun H locs hP hD hS => ?_)
    cases hf
    exact rt_Mv hx hb hr hlocks (hP.sub [0, 1, 2, 3, 4, 5, 6, 7] rfl) (hD.sub [0, 1, 2, 3, 4, 5, 6, 7] (by decide) rfl) hS dX12_saysNumber_26

def f_X12_saysNumber_2 (mo : Nat → Int32) (mO : Int32) (p0 : Int32) : Option ((Nat → Int32) × Int32) :=
  sf_b (p0 ≤ (9 : Int32)) (sf_c2 (f_X12_says mo mO ((((48 : Int32) + (p0 - p0 / (10 : Int32) * (10 : Int32))).toUInt32 % 65536).toInt32)) (fun a_1 x_2 => some (a_1, x_2))) (sf_c2 (f_X12_saysNumber_1 mo mO (p0 / (10 : Int32))) (fun a_3 x_4 => sf_c2 (f_X12_says a_3 x_4 ((((48 : Int32) + (p0 - p0 / (10 : Int32) * (10 : Int32))).toUInt32 % 65536).toInt32)) (fun a_5 x_6 => some (a_5, x_6))))
theorem yd_X12_saysNumber_2 : yX12_saysNumber.cls = RX12 ∧ yX12_saysNumber.cls ≠ "java/lang/invoke/MethodHandle" ∧ yX12_saysNumber.cls ≠ "java/lang/invoke/VarHandle" ∧ (parseMethodDescriptor yX12_saysNumber.desc).map (fun d => d.parameters.length) = some 1 := ⟨rfl, by decide, by decide, by decide +kernel⟩
set_option maxRecDepth 100000 in
set_option maxHeartbeats 4000000 in
theorem c_X12_saysNumber_2 (l : Launch) (D : va_G) (dA : Nat → ClassId) (h0 h1 h2 h3 h4 h5 h6 h7 : Nat) (sz : Nat) (ms : Nat → Int32) (mb : Nat → Int32) (mv : Nat → Int32) (mi : Int32) (mp : Nat → Int32) (mn : Int32) (mt : Int32) (mo : Nat → Int32) (mO : Int32) (mI : Nat → Int32) (mL : Int32) (mA : Int32) (mW : Int32) (mE : Int32) (mF : Int32) (mc : Nat → Int32) (mM : Int32) (p0 : Int32) (q_mo : Nat → Int32) (q_mO : Int32) (hf : f_X12_saysNumber_2 mo mO p0 = some (q_mo, q_mO)) : Met l yX12_saysNumber (wo (.code yX12_saysNumber cX12_saysNumber 2 none)) ({ frames := 3, cells := 0, slots := 0, locals := 63 } : Room) (preM D dA [.ref h0, .int p0] sz [(h0, .inr (10, [.ref h1, .ref h2, .ref h3, .int mi, .ref h4, .int mn, .int mt, .ref h5, .int mO, .ref h6, .int mL, .int mA, .int mW, .int mE, .int mF, .ref h7, .int mM])), (h1, .inl (dA 0, 158, .inl ms)), (h2, .inl (dA 0, 158, .inl mb)), (h3, .inl (dA 0, 158, .inl mv)), (h4, .inl (dA 0, 1264, .inl mp)), (h5, .inl (dA 1, 180, .inl mo)), (h6, .inl (dA 1, 60, .inl mI)), (h7, .inl (dA 0, 240, .inl mc))]) (poMv D [(h0, .inr (10, [.ref h1, .ref h2, .ref h3, .int mi, .ref h4, .int mn, .int mt, .ref h5, .int q_mO, .ref h6, .int mL, .int mA, .int mW, .int mE, .int mF, .ref h7, .int mM])), (h1, .inl (dA 0, 158, .inl ms)), (h2, .inl (dA 0, 158, .inl mb)), (h3, .inl (dA 0, 158, .inl mv)), (h4, .inl (dA 0, 1264, .inl mp)), (h5, .inl (dA 1, 180, .inl q_mo)), (h6, .inl (dA 1, 60, .inl mI)), (h7, .inl (dA 0, 240, .inl mc))] (va_A [(h0, .inr (10, [.ref h1, .ref h2, .ref h3, .int mi, .ref h4, .int mn, .int mt, .ref h5, .int mO, .ref h6, .int mL, .int mA, .int mW, .int mE, .int mF, .ref h7, .int mM])), (h1, .inl (dA 0, 158, .inl ms)), (h2, .inl (dA 0, 158, .inl mb)), (h3, .inl (dA 0, 158, .inl mv)), (h4, .inl (dA 0, 1264, .inl mp)), (h5, .inl (dA 1, 180, .inl mo)), (h6, .inl (dA 1, 60, .inl mI)), (h7, .inl (dA 0, 240, .inl mc))] sz)) 0 0 (va_A [(h0, .inr (10, [.ref h1, .ref h2, .ref h3, .int mi, .ref h4, .int mn, .int mt, .ref h5, .int mO, .ref h6, .int mL, .int mA, .int mW, .int mE, .int mF, .ref h7, .int mM])), (h1, .inl (dA 0, 158, .inl ms)), (h2, .inl (dA 0, 158, .inl mb)), (h3, .inl (dA 0, 158, .inl mv)), (h4, .inl (dA 0, 1264, .inl mp)), (h5, .inl (dA 1, 180, .inl mo)), (h6, .inl (dA 1, 60, .inl mI)), (h7, .inl (dA 0, 240, .inl mc))] sz) := by
  refine of_M (y := yX12_saysNumber) (av := [.ref h0, .int p0]) (ws := [(h0, .inr (10, [.ref h1, .ref h2, .ref h3, .int mi, .ref h4, .int mn, .int mt, .ref h5, .int mO, .ref h6, .int mL, .int mA, .int mW, .int mE, .int mF, .ref h7, .int mM])), (h1, .inl (dA 0, 158, .inl ms)), (h2, .inl (dA 0, 158, .inl mb)), (h3, .inl (dA 0, 158, .inl mv)), (h4, .inl (dA 0, 1264, .inl mp)), (h5, .inl (dA 1, 180, .inl mo)), (h6, .inl (dA 1, 60, .inl mI)), (h7, .inl (dA 0, 240, .inl mc))]) (sz := sz) (own := RX12) (Qc := poMv D [(h0, .inr (10, [.ref h1, .ref h2, .ref h3, .int mi, .ref h4, .int mn, .int mt, .ref h5, .int q_mO, .ref h6, .int mL, .int mA, .int mW, .int mE, .int mF, .ref h7, .int mM])), (h1, .inl (dA 0, 158, .inl ms)), (h2, .inl (dA 0, 158, .inl mb)), (h3, .inl (dA 0, 158, .inl mv)), (h4, .inl (dA 0, 1264, .inl mp)), (h5, .inl (dA 1, 180, .inl q_mo)), (h6, .inl (dA 1, 60, .inl mI)), (h7, .inl (dA 0, 240, .inl mc))]) (by decide) rfl (Nat.le_of_ble_eq_true rfl) ?_
  intro p e s m below meth c A hx hb hr ha hown hml hlocks hin hP hK hD hS hA ls hl
  have hl : lv_has ls 2 [(0, .ref h0), (1, .int p0)] := hl
  rw [f_X12_saysNumber_2] at hf
  refine lv_iload_n hx hb dX12_saysNumber_0 rfl (lv_at hl 1 rfl) ?_
  refine lv_bipush (v := 9) hx hb dX12_saysNumber_1 (by decide) ?_
  refine lv_icmp_le (tgt := 14) hx hb dX12_saysNumber_3 (by decide) (fun hc => ?_) (fun hc => ?_)
  · have hf := sf_bp hf hc
    refine lv_aload_n hx hb dX12_saysNumber_14 rfl (lv_at hl 0 rfl) ?_
    refine lv_bipush (v := 48) hx hb dX12_saysNumber_15 (by decide) ?_
    refine lv_iload_n hx hb dX12_saysNumber_17 rfl (lv_at hl 1 rfl) ?_
    refine lv_bipush (v := 10) hx hb dX12_saysNumber_18 (by decide) ?_
    refine lv_irem hx hb dX12_saysNumber_20 (by decide) ?_
    refine lv_iadd hx hb dX12_saysNumber_21 ?_
    refine lv_i2c hx hb dX12_saysNumber_22 rfl ?_
    obtain ⟨a_1, x_2, hc2, hf⟩ := sf_c2e hf
    refine k_Mv (wr := []) (run_MV (As := [.int ((((48 : Int32) + (p0 - p0 / (10 : Int32) * (10 : Int32))).toUInt32 % 65536).toInt32)]) (rest := []) ⟨hx, hb, hml, hown, ha⟩ (c_X12_says l D dA h0 h1 h2 h3 h4 h5 h6 h7 _ ms mb mv mi mp mn mt mo mO mI mL mA mW mE mF mc mM ((((48 : Int32) + (p0 - p0 / (10 : Int32) * (10 : Int32))).toUInt32 % 65536).toInt32) _ _ hc2) (gi_V m_2036 m_2038 m_63 m_85 m_2039) yd_X12_says ⟨Nat.le_of_ble_eq_true rfl, Nat.le_of_ble_eq_true rfl⟩ ⟨rfl, rfl⟩ hK hP hD [0, 1, 2, 3, 4, 5, 6, 7] (by decide) rfl 0 10 rfl rfl rfl rfl hl.1 rfl (Nat.le_of_ble_eq_true rfl) dX12_saysNumber_23 ⟨Nat.le_of_ble_eq_true rfl, Nat.le_of_ble_eq_true rfl⟩) hP hD hS hA [0, 1, 2, 3, 4, 5, 6, 7] [] rfl rfl (by decide) (by decide) (fun H locs hP hD hS => ?_)
    cases hf
    exact rt_Mv hx hb hr hlocks (hP.sub [0, 1, 2, 3, 4, 5, 6, 7] rfl) (hD.sub [0, 1, 2, 3, 4, 5, 6, 7] (by decide) rfl) hS dX12_saysNumber_26
  · have hf := sf_bn hf hc
    refine lv_aload_n hx hb dX12_saysNumber_6 rfl (lv_at hl 0 rfl) ?_
    refine lv_iload_n hx hb dX12_saysNumber_7 rfl (lv_at hl 1 rfl) ?_
    refine lv_bipush (v := 10) hx hb dX12_saysNumber_8 (by decide) ?_
    refine lv_idiv hx hb dX12_saysNumber_10 (by decide) ?_
    obtain ⟨a_3, x_4, hc4, hf⟩ := sf_c2e hf
    refine k_Mv (wr := []) (run_MV (As := [.int (p0 / (10 : Int32))]) (rest := []) ⟨hx, hb, hml, hown, ha⟩ (c_X12_saysNumber_1 l D dA h0 h1 h2 h3 h4 h5 h6 h7 _ ms mb mv mi mp mn mt mo mO mI mL mA mW mE mF mc mM (p0 / (10 : Int32)) _ _ hc4) (gi_V m_2032 m_2034 m_62 m_85 m_2035) yd_X12_saysNumber_1 ⟨Nat.le_of_ble_eq_true rfl, Nat.le_of_ble_eq_true rfl⟩ ⟨rfl, rfl⟩ hK hP hD [0, 1, 2, 3, 4, 5, 6, 7] (by decide) rfl 0 10 rfl rfl rfl rfl hl.1 rfl (Nat.le_of_ble_eq_true rfl) dX12_saysNumber_11 ⟨Nat.le_of_ble_eq_true rfl, Nat.le_of_ble_eq_true rfl⟩) hP hD hS hA [0, 1, 2, 3, 4, 5, 6, 7] [] rfl rfl (by decide) (by decide) (fun H locs hP hD hS => ?_)
    refine lv_aload_n hx hb dX12_saysNumber_14 rfl (lv_at hl 0 rfl) ?_
    refine lv_bipush (v := 48) hx hb dX12_saysNumber_15 (by decide) ?_
    refine lv_iload_n hx hb dX12_saysNumber_17 rfl (lv_at hl 1 rfl) ?_
    refine lv_bipush (v := 10) hx hb dX12_saysNumber_18 (by decide) ?_
    refine lv_irem hx hb dX12_saysNumber_20 (by decide) ?_
    refine lv_iadd hx hb dX12_saysNumber_21 ?_
    refine lv_i2c hx hb dX12_saysNumber_22 rfl ?_
    obtain ⟨a_5, x_6, hc6, hf⟩ := sf_c2e hf
    refine k_Mv (wr := []) (run_MV (As := [.int ((((48 : Int32) + (p0 - p0 / (10 : Int32) * (10 : Int32))).toUInt32 % 65536).toInt32)]) (rest := []) ⟨hx, hb, hml, hown, ha⟩ (c_X12_says l D dA h0 h1 h2 h3 h4 h5 h6 h7 _ ms mb mv mi mp mn mt a_3 x_4 mI mL mA mW mE mF mc mM ((((48 : Int32) + (p0 - p0 / (10 : Int32) * (10 : Int32))).toUInt32 % 65536).toInt32) _ _ hc6) (gi_V m_2036 m_2038 m_63 m_85 m_2039) yd_X12_says ⟨Nat.le_of_ble_eq_true rfl, Nat.le_of_ble_eq_true rfl⟩ ⟨rfl, rfl⟩ hK hP hD [0, 1, 2, 3, 4, 5, 6, 7] (by decide) rfl 0 10 rfl rfl rfl rfl hl.1 rfl (Nat.le_of_ble_eq_true rfl) dX12_saysNumber_23 ⟨Nat.le_of_ble_eq_true rfl, Nat.le_of_ble_eq_true rfl⟩) hP hD hS hA [0, 1, 2, 3, 4, 5, 6, 7] [] rfl rfl (by decide) (by decide) (fun H locs hP hD hS => ?_)
    cases hf
    exact rt_Mv hx hb hr hlocks (hP.sub [0, 1, 2, 3, 4, 5, 6, 7] rfl) (hD.sub [0, 1, 2, 3, 4, 5, 6, 7] (by decide) rfl) hS dX12_saysNumber_26

def f_X12_saysNumber_3 (mo : Nat → Int32) (mO : Int32) (p0 : Int32) : Option ((Nat → Int32) × Int32) :=
  sf_b (p0 ≤ (9 : Int32)) (sf_c2 (f_X12_says mo mO ((((48 : Int32) + (p0 - p0 / (10 : Int32) * (10 : Int32))).toUInt32 % 65536).toInt32)) (fun a_1 x_2 => some (a_1, x_2))) (sf_c2 (f_X12_saysNumber_2 mo mO (p0 / (10 : Int32))) (fun a_3 x_4 => sf_c2 (f_X12_says a_3 x_4 ((((48 : Int32) + (p0 - p0 / (10 : Int32) * (10 : Int32))).toUInt32 % 65536).toInt32)) (fun a_5 x_6 => some (a_5, x_6))))
theorem yd_X12_saysNumber_3 : yX12_saysNumber.cls = RX12 ∧ yX12_saysNumber.cls ≠ "java/lang/invoke/MethodHandle" ∧ yX12_saysNumber.cls ≠ "java/lang/invoke/VarHandle" ∧ (parseMethodDescriptor yX12_saysNumber.desc).map (fun d => d.parameters.length) = some 1 := ⟨rfl, by decide, by decide, by decide +kernel⟩
set_option maxRecDepth 100000 in
set_option maxHeartbeats 4000000 in
theorem c_X12_saysNumber_3 (l : Launch) (D : va_G) (dA : Nat → ClassId) (h0 h1 h2 h3 h4 h5 h6 h7 : Nat) (sz : Nat) (ms : Nat → Int32) (mb : Nat → Int32) (mv : Nat → Int32) (mi : Int32) (mp : Nat → Int32) (mn : Int32) (mt : Int32) (mo : Nat → Int32) (mO : Int32) (mI : Nat → Int32) (mL : Int32) (mA : Int32) (mW : Int32) (mE : Int32) (mF : Int32) (mc : Nat → Int32) (mM : Int32) (p0 : Int32) (q_mo : Nat → Int32) (q_mO : Int32) (hf : f_X12_saysNumber_3 mo mO p0 = some (q_mo, q_mO)) : Met l yX12_saysNumber (wo (.code yX12_saysNumber cX12_saysNumber 2 none)) ({ frames := 4, cells := 0, slots := 0, locals := 84 } : Room) (preM D dA [.ref h0, .int p0] sz [(h0, .inr (10, [.ref h1, .ref h2, .ref h3, .int mi, .ref h4, .int mn, .int mt, .ref h5, .int mO, .ref h6, .int mL, .int mA, .int mW, .int mE, .int mF, .ref h7, .int mM])), (h1, .inl (dA 0, 158, .inl ms)), (h2, .inl (dA 0, 158, .inl mb)), (h3, .inl (dA 0, 158, .inl mv)), (h4, .inl (dA 0, 1264, .inl mp)), (h5, .inl (dA 1, 180, .inl mo)), (h6, .inl (dA 1, 60, .inl mI)), (h7, .inl (dA 0, 240, .inl mc))]) (poMv D [(h0, .inr (10, [.ref h1, .ref h2, .ref h3, .int mi, .ref h4, .int mn, .int mt, .ref h5, .int q_mO, .ref h6, .int mL, .int mA, .int mW, .int mE, .int mF, .ref h7, .int mM])), (h1, .inl (dA 0, 158, .inl ms)), (h2, .inl (dA 0, 158, .inl mb)), (h3, .inl (dA 0, 158, .inl mv)), (h4, .inl (dA 0, 1264, .inl mp)), (h5, .inl (dA 1, 180, .inl q_mo)), (h6, .inl (dA 1, 60, .inl mI)), (h7, .inl (dA 0, 240, .inl mc))] (va_A [(h0, .inr (10, [.ref h1, .ref h2, .ref h3, .int mi, .ref h4, .int mn, .int mt, .ref h5, .int mO, .ref h6, .int mL, .int mA, .int mW, .int mE, .int mF, .ref h7, .int mM])), (h1, .inl (dA 0, 158, .inl ms)), (h2, .inl (dA 0, 158, .inl mb)), (h3, .inl (dA 0, 158, .inl mv)), (h4, .inl (dA 0, 1264, .inl mp)), (h5, .inl (dA 1, 180, .inl mo)), (h6, .inl (dA 1, 60, .inl mI)), (h7, .inl (dA 0, 240, .inl mc))] sz)) 0 0 (va_A [(h0, .inr (10, [.ref h1, .ref h2, .ref h3, .int mi, .ref h4, .int mn, .int mt, .ref h5, .int mO, .ref h6, .int mL, .int mA, .int mW, .int mE, .int mF, .ref h7, .int mM])), (h1, .inl (dA 0, 158, .inl ms)), (h2, .inl (dA 0, 158, .inl mb)), (h3, .inl (dA 0, 158, .inl mv)), (h4, .inl (dA 0, 1264, .inl mp)), (h5, .inl (dA 1, 180, .inl mo)), (h6, .inl (dA 1, 60, .inl mI)), (h7, .inl (dA 0, 240, .inl mc))] sz) := by
  refine of_M (y := yX12_saysNumber) (av := [.ref h0, .int p0]) (ws := [(h0, .inr (10, [.ref h1, .ref h2, .ref h3, .int mi, .ref h4, .int mn, .int mt, .ref h5, .int mO, .ref h6, .int mL, .int mA, .int mW, .int mE, .int mF, .ref h7, .int mM])), (h1, .inl (dA 0, 158, .inl ms)), (h2, .inl (dA 0, 158, .inl mb)), (h3, .inl (dA 0, 158, .inl mv)), (h4, .inl (dA 0, 1264, .inl mp)), (h5, .inl (dA 1, 180, .inl mo)), (h6, .inl (dA 1, 60, .inl mI)), (h7, .inl (dA 0, 240, .inl mc))]) (sz := sz) (own := RX12) (Qc := poMv D [(h0, .inr (10, [.ref h1, .ref h2, .ref h3, .int mi, .ref h4, .int mn, .int mt, .ref h5, .int q_mO, .ref h6, .int mL, .int mA, .int mW, .int mE, .int mF, .ref h7, .int mM])), (h1, .inl (dA 0, 158, .inl ms)), (h2, .inl (dA 0, 158, .inl mb)), (h3, .inl (dA 0, 158, .inl mv)), (h4, .inl (dA 0, 1264, .inl mp)), (h5, .inl (dA 1, 180, .inl q_mo)), (h6, .inl (dA 1, 60, .inl mI)), (h7, .inl (dA 0, 240, .inl mc))]) (by decide) rfl (Nat.le_of_ble_eq_true rfl) ?_
  intro p e s m below meth c A hx hb hr ha hown hml hlocks hin hP hK hD hS hA ls hl
  have hl : lv_has ls 2 [(0, .ref h0), (1, .int p0)] := hl
  rw [f_X12_saysNumber_3] at hf
  refine lv_iload_n hx hb dX12_saysNumber_0 rfl (lv_at hl 1 rfl) ?_
  refine lv_bipush (v := 9) hx hb dX12_saysNumber_1 (by decide) ?_
  refine lv_icmp_le (tgt := 14) hx hb dX12_saysNumber_3 (by decide) (fun hc => ?_) (fun hc => ?_)
  · have hf := sf_bp hf hc
    refine lv_aload_n hx hb dX12_saysNumber_14 rfl (lv_at hl 0 rfl) ?_
    refine lv_bipush (v := 48) hx hb dX12_saysNumber_15 (by decide) ?_
    refine lv_iload_n hx hb dX12_saysNumber_17 rfl (lv_at hl 1 rfl) ?_
    refine lv_bipush (v := 10) hx hb dX12_saysNumber_18 (by decide) ?_
    refine lv_irem hx hb dX12_saysNumber_20 (by decide) ?_
    refine lv_iadd hx hb dX12_saysNumber_21 ?_
    refine lv_i2c hx hb dX12_saysNumber_22 rfl ?_
    obtain ⟨a_1, x_2, hc2, hf⟩ := sf_c2e hf
    refine k_Mv (wr := []) (run_MV (As := [.int ((((48 : Int32) + (p0 - p0 / (10 : Int32) * (10 : Int32))).toUInt32 % 65536).toInt32)]) (rest := []) ⟨hx, hb, hml, hown, ha⟩ (c_X12_says l D dA h0 h1 h2 h3 h4 h5 h6 h7 _ ms mb mv mi mp mn mt mo mO mI mL mA mW mE mF mc mM ((((48 : Int32) + (p0 - p0 / (10 : Int32) * (10 : Int32))).toUInt32 % 65536).toInt32) _ _ hc2) (gi_V m_2036 m_2038 m_63 m_85 m_2039) yd_X12_says ⟨Nat.le_of_ble_eq_true rfl, Nat.le_of_ble_eq_true rfl⟩ ⟨rfl, rfl⟩ hK hP hD [0, 1, 2, 3, 4, 5, 6, 7] (by decide) rfl 0 10 rfl rfl rfl rfl hl.1 rfl (Nat.le_of_ble_eq_true rfl) dX12_saysNumber_23 ⟨Nat.le_of_ble_eq_true rfl, Nat.le_of_ble_eq_true rfl⟩) hP hD hS hA [0, 1, 2, 3, 4, 5, 6, 7] [] rfl rfl (by decide) (by decide) (fun H locs hP hD hS => ?_)
    cases hf
    exact rt_Mv hx hb hr hlocks (hP.sub [0, 1, 2, 3, 4, 5, 6, 7] rfl) (hD.sub [0, 1, 2, 3, 4, 5, 6, 7] (by decide) rfl) hS dX12_saysNumber_26
  · have hf := sf_bn hf hc
    refine lv_aload_n hx hb dX12_saysNumber_6 rfl (lv_at hl 0 rfl) ?_
    refine lv_iload_n hx hb dX12_saysNumber_7 rfl (lv_at hl 1 rfl) ?_
    refine lv_bipush (v := 10) hx hb dX12_saysNumber_8 (by decide) ?_
    refine lv_idiv hx hb dX12_saysNumber_10 (by decide) ?_
    obtain ⟨a_3, x_4, hc4, hf⟩ := sf_c2e hf
    refine k_Mv (wr := []) (run_MV (As := [.int (p0 / (10 : Int32))]) (rest := []) ⟨hx, hb, hml, hown, ha⟩ (c_X12_saysNumber_2 l D dA h0 h1 h2 h3 h4 h5 h6 h7 _ ms mb mv mi mp mn mt mo mO mI mL mA mW mE mF mc mM (p0 / (10 : Int32)) _ _ hc4) (gi_V m_2032 m_2034 m_62 m_85 m_2035) yd_X12_saysNumber_2 ⟨Nat.le_of_ble_eq_true rfl, Nat.le_of_ble_eq_true rfl⟩ ⟨rfl, rfl⟩ hK hP hD [0, 1, 2, 3, 4, 5, 6, 7] (by decide) rfl 0 10 rfl rfl rfl rfl hl.1 rfl (Nat.le_of_ble_eq_true rfl) dX12_saysNumber_11 ⟨Nat.le_of_ble_eq_true rfl, Nat.le_of_ble_eq_true rfl⟩) hP hD hS hA [0, 1, 2, 3, 4, 5, 6, 7] [] rfl rfl (by decide) (by decide) (fun H locs hP hD hS => ?_)
    refine lv_aload_n hx hb dX12_saysNumber_14 rfl (lv_at hl 0 rfl) ?_
    refine lv_bipush (v := 48) hx hb dX12_saysNumber_15 (by decide) ?_
    refine lv_iload_n hx hb dX12_saysNumber_17 rfl (lv_at hl 1 rfl) ?_
    refine lv_bipush (v := 10) hx hb dX12_saysNumber_18 (by decide) ?_
    refine lv_irem hx hb dX12_saysNumber_20 (by decide) ?_
    refine lv_iadd hx hb dX12_saysNumber_21 ?_
    refine lv_i2c hx hb dX12_saysNumber_22 rfl ?_
    obtain ⟨a_5, x_6, hc6, hf⟩ := sf_c2e hf
    refine k_Mv (wr := []) (run_MV (As := [.int ((((48 : Int32) + (p0 - p0 / (10 : Int32) * (10 : Int32))).toUInt32 % 65536).toInt32)]) (rest := []) ⟨hx, hb, hml, hown, ha⟩ (c_X12_says l D dA h0 h1 h2 h3 h4 h5 h6 h7 _ ms mb mv mi mp mn mt a_3 x_4 mI mL mA mW mE mF mc mM ((((48 : Int32) + (p0 - p0 / (10 : Int32) * (10 : Int32))).toUInt32 % 65536).toInt32) _ _ hc6) (gi_V m_2036 m_2038 m_63 m_85 m_2039) yd_X12_says ⟨Nat.le_of_ble_eq_true rfl, Nat.le_of_ble_eq_true rfl⟩ ⟨rfl, rfl⟩ hK hP hD [0, 1, 2, 3, 4, 5, 6, 7] (by decide) rfl 0 10 rfl rfl rfl rfl hl.1 rfl (Nat.le_of_ble_eq_true rfl) dX12_saysNumber_23 ⟨Nat.le_of_ble_eq_true rfl, Nat.le_of_ble_eq_true rfl⟩) hP hD hS hA [0, 1, 2, 3, 4, 5, 6, 7] [] rfl rfl (by decide) (by decide) (fun H locs hP hD hS => ?_)
    cases hf
    exact rt_Mv hx hb hr hlocks (hP.sub [0, 1, 2, 3, 4, 5, 6, 7] rfl) (hD.sub [0, 1, 2, 3, 4, 5, 6, 7] (by decide) rfl) hS dX12_saysNumber_26

def f_X12_saysNumber_4 (mo : Nat → Int32) (mO : Int32) (p0 : Int32) : Option ((Nat → Int32) × Int32) :=
  sf_b (p0 ≤ (9 : Int32)) (sf_c2 (f_X12_says mo mO ((((48 : Int32) + (p0 - p0 / (10 : Int32) * (10 : Int32))).toUInt32 % 65536).toInt32)) (fun a_1 x_2 => some (a_1, x_2))) (sf_c2 (f_X12_saysNumber_3 mo mO (p0 / (10 : Int32))) (fun a_3 x_4 => sf_c2 (f_X12_says a_3 x_4 ((((48 : Int32) + (p0 - p0 / (10 : Int32) * (10 : Int32))).toUInt32 % 65536).toInt32)) (fun a_5 x_6 => some (a_5, x_6))))
theorem yd_X12_saysNumber_4 : yX12_saysNumber.cls = RX12 ∧ yX12_saysNumber.cls ≠ "java/lang/invoke/MethodHandle" ∧ yX12_saysNumber.cls ≠ "java/lang/invoke/VarHandle" ∧ (parseMethodDescriptor yX12_saysNumber.desc).map (fun d => d.parameters.length) = some 1 := ⟨rfl, by decide, by decide, by decide +kernel⟩
set_option maxRecDepth 100000 in
set_option maxHeartbeats 4000000 in
theorem c_X12_saysNumber_4 (l : Launch) (D : va_G) (dA : Nat → ClassId) (h0 h1 h2 h3 h4 h5 h6 h7 : Nat) (sz : Nat) (ms : Nat → Int32) (mb : Nat → Int32) (mv : Nat → Int32) (mi : Int32) (mp : Nat → Int32) (mn : Int32) (mt : Int32) (mo : Nat → Int32) (mO : Int32) (mI : Nat → Int32) (mL : Int32) (mA : Int32) (mW : Int32) (mE : Int32) (mF : Int32) (mc : Nat → Int32) (mM : Int32) (p0 : Int32) (q_mo : Nat → Int32) (q_mO : Int32) (hf : f_X12_saysNumber_4 mo mO p0 = some (q_mo, q_mO)) : Met l yX12_saysNumber (wo (.code yX12_saysNumber cX12_saysNumber 2 none)) ({ frames := 5, cells := 0, slots := 0, locals := 105 } : Room) (preM D dA [.ref h0, .int p0] sz [(h0, .inr (10, [.ref h1, .ref h2, .ref h3, .int mi, .ref h4, .int mn, .int mt, .ref h5, .int mO, .ref h6, .int mL, .int mA, .int mW, .int mE, .int mF, .ref h7, .int mM])), (h1, .inl (dA 0, 158, .inl ms)), (h2, .inl (dA 0, 158, .inl mb)), (h3, .inl (dA 0, 158, .inl mv)), (h4, .inl (dA 0, 1264, .inl mp)), (h5, .inl (dA 1, 180, .inl mo)), (h6, .inl (dA 1, 60, .inl mI)), (h7, .inl (dA 0, 240, .inl mc))]) (poMv D [(h0, .inr (10, [.ref h1, .ref h2, .ref h3, .int mi, .ref h4, .int mn, .int mt, .ref h5, .int q_mO, .ref h6, .int mL, .int mA, .int mW, .int mE, .int mF, .ref h7, .int mM])), (h1, .inl (dA 0, 158, .inl ms)), (h2, .inl (dA 0, 158, .inl mb)), (h3, .inl (dA 0, 158, .inl mv)), (h4, .inl (dA 0, 1264, .inl mp)), (h5, .inl (dA 1, 180, .inl q_mo)), (h6, .inl (dA 1, 60, .inl mI)), (h7, .inl (dA 0, 240, .inl mc))] (va_A [(h0, .inr (10, [.ref h1, .ref h2, .ref h3, .int mi, .ref h4, .int mn, .int mt, .ref h5, .int mO, .ref h6, .int mL, .int mA, .int mW, .int mE, .int mF, .ref h7, .int mM])), (h1, .inl (dA 0, 158, .inl ms)), (h2, .inl (dA 0, 158, .inl mb)), (h3, .inl (dA 0, 158, .inl mv)), (h4, .inl (dA 0, 1264, .inl mp)), (h5, .inl (dA 1, 180, .inl mo)), (h6, .inl (dA 1, 60, .inl mI)), (h7, .inl (dA 0, 240, .inl mc))] sz)) 0 0 (va_A [(h0, .inr (10, [.ref h1, .ref h2, .ref h3, .int mi, .ref h4, .int mn, .int mt, .ref h5, .int mO, .ref h6, .int mL, .int mA, .int mW, .int mE, .int mF, .ref h7, .int mM])), (h1, .inl (dA 0, 158, .inl ms)), (h2, .inl (dA 0, 158, .inl mb)), (h3, .inl (dA 0, 158, .inl mv)), (h4, .inl (dA 0, 1264, .inl mp)), (h5, .inl (dA 1, 180, .inl mo)), (h6, .inl (dA 1, 60, .inl mI)), (h7, .inl (dA 0, 240, .inl mc))] sz) := by
  refine of_M (y := yX12_saysNumber) (av := [.ref h0, .int p0]) (ws := [(h0, .inr (10, [.ref h1, .ref h2, .ref h3, .int mi, .ref h4, .int mn, .int mt, .ref h5, .int mO, .ref h6, .int mL, .int mA, .int mW, .int mE, .int mF, .ref h7, .int mM])), (h1, .inl (dA 0, 158, .inl ms)), (h2, .inl (dA 0, 158, .inl mb)), (h3, .inl (dA 0, 158, .inl mv)), (h4, .inl (dA 0, 1264, .inl mp)), (h5, .inl (dA 1, 180, .inl mo)), (h6, .inl (dA 1, 60, .inl mI)), (h7, .inl (dA 0, 240, .inl mc))]) (sz := sz) (own := RX12) (Qc := poMv D [(h0, .inr (10, [.ref h1, .ref h2, .ref h3, .int mi, .ref h4, .int mn, .int mt, .ref h5, .int q_mO, .ref h6, .int mL, .int mA, .int mW, .int mE, .int mF, .ref h7, .int mM])), (h1, .inl (dA 0, 158, .inl ms)), (h2, .inl (dA 0, 158, .inl mb)), (h3, .inl (dA 0, 158, .inl mv)), (h4, .inl (dA 0, 1264, .inl mp)), (h5, .inl (dA 1, 180, .inl q_mo)), (h6, .inl (dA 1, 60, .inl mI)), (h7, .inl (dA 0, 240, .inl mc))]) (by decide) rfl (Nat.le_of_ble_eq_true rfl) ?_
  intro p e s m below meth c A hx hb hr ha hown hml hlocks hin hP hK hD hS hA ls hl
  have hl : lv_has ls 2 [(0, .ref h0), (1, .int p0)] := hl
  rw [f_X12_saysNumber_4] at hf
  refine lv_iload_n hx hb dX12_saysNumber_0 rfl (lv_at hl 1 rfl) ?_
  refine lv_bipush (v := 9) hx hb dX12_saysNumber_1 (by decide) ?_
  refine lv_icmp_le (tgt := 14) hx hb dX12_saysNumber_3 (by decide) (fun hc => ?_) (fun hc => ?_)
  · have hf := sf_bp hf hc
    refine lv_aload_n hx hb dX12_saysNumber_14 rfl (lv_at hl 0 rfl) ?_
    refine lv_bipush (v := 48) hx hb dX12_saysNumber_15 (by decide) ?_
    refine lv_iload_n hx hb dX12_saysNumber_17 rfl (lv_at hl 1 rfl) ?_
    refine lv_bipush (v := 10) hx hb dX12_saysNumber_18 (by decide) ?_
    refine lv_irem hx hb dX12_saysNumber_20 (by decide) ?_
    refine lv_iadd hx hb dX12_saysNumber_21 ?_
    refine lv_i2c hx hb dX12_saysNumber_22 rfl ?_
    obtain ⟨a_1, x_2, hc2, hf⟩ := sf_c2e hf
    refine k_Mv (wr := []) (run_MV (As := [.int ((((48 : Int32) + (p0 - p0 / (10 : Int32) * (10 : Int32))).toUInt32 % 65536).toInt32)]) (rest := []) ⟨hx, hb, hml, hown, ha⟩ (c_X12_says l D dA h0 h1 h2 h3 h4 h5 h6 h7 _ ms mb mv mi mp mn mt mo mO mI mL mA mW mE mF mc mM ((((48 : Int32) + (p0 - p0 / (10 : Int32) * (10 : Int32))).toUInt32 % 65536).toInt32) _ _ hc2) (gi_V m_2036 m_2038 m_63 m_85 m_2039) yd_X12_says ⟨Nat.le_of_ble_eq_true rfl, Nat.le_of_ble_eq_true rfl⟩ ⟨rfl, rfl⟩ hK hP hD [0, 1, 2, 3, 4, 5, 6, 7] (by decide) rfl 0 10 rfl rfl rfl rfl hl.1 rfl (Nat.le_of_ble_eq_true rfl) dX12_saysNumber_23 ⟨Nat.le_of_ble_eq_true rfl, Nat.le_of_ble_eq_true rfl⟩) hP hD hS hA [0, 1, 2, 3, 4, 5, 6, 7] [] rfl rfl (by decide) (by decide) (fun H locs hP hD hS => ?_)
    cases hf
    exact rt_Mv hx hb hr hlocks (hP.sub [0, 1, 2, 3, 4, 5, 6, 7] rfl) (hD.sub [0, 1, 2, 3, 4, 5, 6, 7] (by decide) rfl) hS dX12_saysNumber_26
  · have hf := sf_bn hf hc
    refine lv_aload_n hx hb dX12_saysNumber_6 rfl (lv_at hl 0 rfl) ?_
    refine lv_iload_n hx hb dX12_saysNumber_7 rfl (lv_at hl 1 rfl) ?_
    refine lv_bipush (v := 10) hx hb dX12_saysNumber_8 (by decide) ?_
    refine lv_idiv hx hb dX12_saysNumber_10 (by decide) ?_
    obtain ⟨a_3, x_4, hc4, hf⟩ := sf_c2e hf
    refine k_Mv (wr := []) (run_MV (As := [.int (p0 / (10 : Int32))]) (rest := []) ⟨hx, hb, hml, hown, ha⟩ (c_X12_saysNumber_3 l D dA h0 h1 h2 h3 h4 h5 h6 h7 _ ms mb mv mi mp mn mt mo mO mI mL mA mW mE mF mc mM (p0 / (10 : Int32)) _ _ hc4) (gi_V m_2032 m_2034 m_62 m_85 m_2035) yd_X12_saysNumber_3 ⟨Nat.le_of_ble_eq_true rfl, Nat.le_of_ble_eq_true rfl⟩ ⟨rfl, rfl⟩ hK hP hD [0, 1, 2, 3, 4, 5, 6, 7] (by decide) rfl 0 10 rfl rfl rfl rfl hl.1 rfl (Nat.le_of_ble_eq_true rfl) dX12_saysNumber_11 ⟨Nat.le_of_ble_eq_true rfl, Nat.le_of_ble_eq_true rfl⟩) hP hD hS hA [0, 1, 2, 3, 4, 5, 6, 7] [] rfl rfl (by decide) (by decide) (fun H locs hP hD hS => ?_)
    refine lv_aload_n hx hb dX12_saysNumber_14 rfl (lv_at hl 0 rfl) ?_
    refine lv_bipush (v := 48) hx hb dX12_saysNumber_15 (by decide) ?_
    refine lv_iload_n hx hb dX12_saysNumber_17 rfl (lv_at hl 1 rfl) ?_
    refine lv_bipush (v := 10) hx hb dX12_saysNumber_18 (by decide) ?_
    refine lv_irem hx hb dX12_saysNumber_20 (by decide) ?_
    refine lv_iadd hx hb dX12_saysNumber_21 ?_
    refine lv_i2c hx hb dX12_saysNumber_22 rfl ?_
    obtain ⟨a_5, x_6, hc6, hf⟩ := sf_c2e hf
    refine k_Mv (wr := []) (run_MV (As := [.int ((((48 : Int32) + (p0 - p0 / (10 : Int32) * (10 : Int32))).toUInt32 % 65536).toInt32)]) (rest := []) ⟨hx, hb, hml, hown, ha⟩ (c_X12_says l D dA h0 h1 h2 h3 h4 h5 h6 h7 _ ms mb mv mi mp mn mt a_3 x_4 mI mL mA mW mE mF mc mM ((((48 : Int32) + (p0 - p0 / (10 : Int32) * (10 : Int32))).toUInt32 % 65536).toInt32) _ _ hc6) (gi_V m_2036 m_2038 m_63 m_85 m_2039) yd_X12_says ⟨Nat.le_of_ble_eq_true rfl, Nat.le_of_ble_eq_true rfl⟩ ⟨rfl, rfl⟩ hK hP hD [0, 1, 2, 3, 4, 5, 6, 7] (by decide) rfl 0 10 rfl rfl rfl rfl hl.1 rfl (Nat.le_of_ble_eq_true rfl) dX12_saysNumber_23 ⟨Nat.le_of_ble_eq_true rfl, Nat.le_of_ble_eq_true rfl⟩) hP hD hS hA [0, 1, 2, 3, 4, 5, 6, 7] [] rfl rfl (by decide) (by decide) (fun H locs hP hD hS => ?_)
    cases hf
    exact rt_Mv hx hb hr hlocks (hP.sub [0, 1, 2, 3, 4, 5, 6, 7] rfl) (hD.sub [0, 1, 2, 3, 4, 5, 6, 7] (by decide) rfl) hS dX12_saysNumber_26

def f_X12_saysNumber_5 (mo : Nat → Int32) (mO : Int32) (p0 : Int32) : Option ((Nat → Int32) × Int32) :=
  sf_b (p0 ≤ (9 : Int32)) (sf_c2 (f_X12_says mo mO ((((48 : Int32) + (p0 - p0 / (10 : Int32) * (10 : Int32))).toUInt32 % 65536).toInt32)) (fun a_1 x_2 => some (a_1, x_2))) (sf_c2 (f_X12_saysNumber_4 mo mO (p0 / (10 : Int32))) (fun a_3 x_4 => sf_c2 (f_X12_says a_3 x_4 ((((48 : Int32) + (p0 - p0 / (10 : Int32) * (10 : Int32))).toUInt32 % 65536).toInt32)) (fun a_5 x_6 => some (a_5, x_6))))
theorem yd_X12_saysNumber_5 : yX12_saysNumber.cls = RX12 ∧ yX12_saysNumber.cls ≠ "java/lang/invoke/MethodHandle" ∧ yX12_saysNumber.cls ≠ "java/lang/invoke/VarHandle" ∧ (parseMethodDescriptor yX12_saysNumber.desc).map (fun d => d.parameters.length) = some 1 := ⟨rfl, by decide, by decide, by decide +kernel⟩
set_option maxRecDepth 100000 in
set_option maxHeartbeats 4000000 in
theorem c_X12_saysNumber_5 (l : Launch) (D : va_G) (dA : Nat → ClassId) (h0 h1 h2 h3 h4 h5 h6 h7 : Nat) (sz : Nat) (ms : Nat → Int32) (mb : Nat → Int32) (mv : Nat → Int32) (mi : Int32) (mp : Nat → Int32) (mn : Int32) (mt : Int32) (mo : Nat → Int32) (mO : Int32) (mI : Nat → Int32) (mL : Int32) (mA : Int32) (mW : Int32) (mE : Int32) (mF : Int32) (mc : Nat → Int32) (mM : Int32) (p0 : Int32) (q_mo : Nat → Int32) (q_mO : Int32) (hf : f_X12_saysNumber_5 mo mO p0 = some (q_mo, q_mO)) : Met l yX12_saysNumber (wo (.code yX12_saysNumber cX12_saysNumber 2 none)) ({ frames := 6, cells := 0, slots := 0, locals := 126 } : Room) (preM D dA [.ref h0, .int p0] sz [(h0, .inr (10, [.ref h1, .ref h2, .ref h3, .int mi, .ref h4, .int mn, .int mt, .ref h5, .int mO, .ref h6, .int mL, .int mA, .int mW, .int mE, .int mF, .ref h7, .int mM])), (h1, .inl (dA 0, 158, .inl ms)), (h2, .inl (dA 0, 158, .inl mb)), (h3, .inl (dA 0, 158, .inl mv)), (h4, .inl (dA 0, 1264, .inl mp)), (h5, .inl (dA 1, 180, .inl mo)), (h6, .inl (dA 1, 60, .inl mI)), (h7, .inl (dA 0, 240, .inl mc))]) (poMv D [(h0, .inr (10, [.ref h1, .ref h2, .ref h3, .int mi, .ref h4, .int mn, .int mt, .ref h5, .int q_mO, .ref h6, .int mL, .int mA, .int mW, .int mE, .int mF, .ref h7, .int mM])), (h1, .inl (dA 0, 158, .inl ms)), (h2, .inl (dA 0, 158, .inl mb)), (h3, .inl (dA 0, 158, .inl mv)), (h4, .inl (dA 0, 1264, .inl mp)), (h5, .inl (dA 1, 180, .inl q_mo)), (h6, .inl (dA 1, 60, .inl mI)), (h7, .inl (dA 0, 240, .inl mc))] (va_A [(h0, .inr (10, [.ref h1, .ref h2, .ref h3, .int mi, .ref h4, .int mn, .int mt, .ref h5, .int mO, .ref h6, .int mL, .int mA, .int mW, .int mE, .int mF, .ref h7, .int mM])), (h1, .inl (dA 0, 158, .inl ms)), (h2, .inl (dA 0, 158, .inl mb)), (h3, .inl (dA 0, 158, .inl mv)), (h4, .inl (dA 0, 1264, .inl mp)), (h5, .inl (dA 1, 180, .inl mo)), (h6, .inl (dA 1, 60, .inl mI)), (h7, .inl (dA 0, 240, .inl mc))] sz)) 0 0 (va_A [(h0, .inr (10, [.ref h1, .ref h2, .ref h3, .int mi, .ref h4, .int mn, .int mt, .ref h5, .int mO, .ref h6, .int mL, .int mA, .int mW, .int mE, .int mF, .ref h7, .int mM])), (h1, .inl (dA 0, 158, .inl ms)), (h2, .inl (dA 0, 158, .inl mb)), (h3, .inl (dA 0, 158, .inl mv)), (h4, .inl (dA 0, 1264, .inl mp)), (h5, .inl (dA 1, 180, .inl mo)), (h6, .inl (dA 1, 60, .inl mI)), (h7, .inl (dA 0, 240, .inl mc))] sz) := by
  refine of_M (y := yX12_saysNumber) (av := [.ref h0, .int p0]) (ws := [(h0, .inr (10, [.ref h1, .ref h2, .ref h3, .int mi, .ref h4, .int mn, .int mt, .ref h5, .int mO, .ref h6, .int mL, .int mA, .int mW, .int mE, .int mF, .ref h7, .int mM])), (h1, .inl (dA 0, 158, .inl ms)), (h2, .inl (dA 0, 158, .inl mb)), (h3, .inl (dA 0, 158, .inl mv)), (h4, .inl (dA 0, 1264, .inl mp)), (h5, .inl (dA 1, 180, .inl mo)), (h6, .inl (dA 1, 60, .inl mI)), (h7, .inl (dA 0, 240, .inl mc))]) (sz := sz) (own := RX12) (Qc := poMv D [(h0, .inr (10, [.ref h1, .ref h2, .ref h3, .int mi, .ref h4, .int mn, .int mt, .ref h5, .int q_mO, .ref h6, .int mL, .int mA, .int mW, .int mE, .int mF, .ref h7, .int mM])), (h1, .inl (dA 0, 158, .inl ms)), (h2, .inl (dA 0, 158, .inl mb)), (h3, .inl (dA 0, 158, .inl mv)), (h4, .inl (dA 0, 1264, .inl mp)), (h5, .inl (dA 1, 180, .inl q_mo)), (h6, .inl (dA 1, 60, .inl mI)), (h7, .inl (dA 0, 240, .inl mc))]) (by decide) rfl (Nat.le_of_ble_eq_true rfl) ?_
  intro p e s m below meth c A hx hb hr ha hown hml hlocks hin hP hK hD hS hA ls hl
  have hl : lv_has ls 2 [(0, .ref h0), (1, .int p0)] := hl
  rw [f_X12_saysNumber_5] at hf
  refine lv_iload_n hx hb dX12_saysNumber_0 rfl (lv_at hl 1 rfl) ?_
  refine lv_bipush (v := 9) hx hb dX12_saysNumber_1 (by decide) ?_
  refine lv_icmp_le (tgt := 14) hx hb dX12_saysNumber_3 (by decide) (fun hc => ?_) (fun hc => ?_)
  · have hf := sf_bp hf hc
    refine lv_aload_n hx hb dX12_saysNumber_14 rfl (lv_at hl 0 rfl) ?_
    refine lv_bipush (v := 48) hx hb dX12_saysNumber_15 (by decide) ?_
    refine lv_iload_n hx hb dX12_saysNumber_17 rfl (lv_at hl 1 rfl) ?_
    refine lv_bipush (v := 10) hx hb dX12_saysNumber_18 (by decide) ?_
    refine lv_irem hx hb dX12_saysNumber_20 (by decide) ?_
    refine lv_iadd hx hb dX12_saysNumber_21 ?_
    refine lv_i2c hx hb dX12_saysNumber_22 rfl ?_
    obtain ⟨a_1, x_2, hc2, hf⟩ := sf_c2e hf
    refine k_Mv (wr := []) (run_MV (As := [.int ((((48 : Int32) + (p0 - p0 / (10 : Int32) * (10 : Int32))).toUInt32 % 65536).toInt32)]) (rest := []) ⟨hx, hb, hml, hown, ha⟩ (c_X12_says l D dA h0 h1 h2 h3 h4 h5 h6 h7 _ ms mb mv mi mp mn mt mo mO mI mL mA mW mE mF mc mM ((((48 : Int32) + (p0 - p0 / (10 : Int32) * (10 : Int32))).toUInt32 % 65536).toInt32) _ _ hc2) (gi_V m_2036 m_2038 m_63 m_85 m_2039) yd_X12_says ⟨Nat.le_of_ble_eq_true rfl, Nat.le_of_ble_eq_true rfl⟩ ⟨rfl, rfl⟩ hK hP hD [0, 1, 2, 3, 4, 5, 6, 7] (by decide) rfl 0 10 rfl rfl rfl rfl hl.1 rfl (Nat.le_of_ble_eq_true rfl) dX12_saysNumber_23 ⟨Nat.le_of_ble_eq_true rfl, Nat.le_of_ble_eq_true rfl⟩) hP hD hS hA [0, 1, 2, 3, 4, 5, 6, 7] [] rfl rfl (by decide) (by decide) (fun H locs hP hD hS => ?_)
    cases hf
    exact rt_Mv hx hb hr hlocks (hP.sub [0, 1, 2, 3, 4, 5, 6, 7] rfl) (hD.sub [0, 1, 2, 3, 4, 5, 6, 7] (by decide) rfl) hS dX12_saysNumber_26
  · have hf := sf_bn hf hc
    refine lv_aload_n hx hb dX12_saysNumber_6 rfl (lv_at hl 0 rfl) ?_
    refine lv_iload_n hx hb dX12_saysNumber_7 rfl (lv_at hl 1 rfl) ?_
    refine lv_bipush (v := 10) hx hb dX12_saysNumber_8 (by decide) ?_
    refine lv_idiv hx hb dX12_saysNumber_10 (by decide) ?_
    obtain ⟨a_3, x_4, hc4, hf⟩ := sf_c2e hf
    refine k_Mv (wr := []) (run_MV (As := [.int (p0 / (10 : Int32))]) (rest := []) ⟨hx, hb, hml, hown, ha⟩ (c_X12_saysNumber_4 l D dA h0 h1 h2 h3 h4 h5 h6 h7 _ ms mb mv mi mp mn mt mo mO mI mL mA mW mE mF mc mM (p0 / (10 : Int32)) _ _ hc4) (gi_V m_2032 m_2034 m_62 m_85 m_2035) yd_X12_saysNumber_4 ⟨Nat.le_of_ble_eq_true rfl, Nat.le_of_ble_eq_true rfl⟩ ⟨rfl, rfl⟩ hK hP hD [0, 1, 2, 3, 4, 5, 6, 7] (by decide) rfl 0 10 rfl rfl rfl rfl hl.1 rfl (Nat.le_of_ble_eq_true rfl) dX12_saysNumber_11 ⟨Nat.le_of_ble_eq_true rfl, Nat.le_of_ble_eq_true rfl⟩) hP hD hS hA [0, 1, 2, 3, 4, 5, 6, 7] [] rfl rfl (by decide) (by decide) (fun H locs hP hD hS => ?_)
    refine lv_aload_n hx hb dX12_saysNumber_14 rfl (lv_at hl 0 rfl) ?_
    refine lv_bipush (v := 48) hx hb dX12_saysNumber_15 (by decide) ?_
    refine lv_iload_n hx hb dX12_saysNumber_17 rfl (lv_at hl 1 rfl) ?_
    refine lv_bipush (v := 10) hx hb dX12_saysNumber_18 (by decide) ?_
    refine lv_irem hx hb dX12_saysNumber_20 (by decide) ?_
    refine lv_iadd hx hb dX12_saysNumber_21 ?_
    refine lv_i2c hx hb dX12_saysNumber_22 rfl ?_
    obtain ⟨a_5, x_6, hc6, hf⟩ := sf_c2e hf
    refine k_Mv (wr := []) (run_MV (As := [.int ((((48 : Int32) + (p0 - p0 / (10 : Int32) * (10 : Int32))).toUInt32 % 65536).toInt32)]) (rest := []) ⟨hx, hb, hml, hown, ha⟩ (c_X12_says l D dA h0 h1 h2 h3 h4 h5 h6 h7 _ ms mb mv mi mp mn mt a_3 x_4 mI mL mA mW mE mF mc mM ((((48 : Int32) + (p0 - p0 / (10 : Int32) * (10 : Int32))).toUInt32 % 65536).toInt32) _ _ hc6) (gi_V m_2036 m_2038 m_63 m_85 m_2039) yd_X12_says ⟨Nat.le_of_ble_eq_true rfl, Nat.le_of_ble_eq_true rfl⟩ ⟨rfl, rfl⟩ hK hP hD [0, 1, 2, 3, 4, 5, 6, 7] (by decide) rfl 0 10 rfl rfl rfl rfl hl.1 rfl (Nat.le_of_ble_eq_true rfl) dX12_saysNumber_23 ⟨Nat.le_of_ble_eq_true rfl, Nat.le_of_ble_eq_true rfl⟩) hP hD hS hA [0, 1, 2, 3, 4, 5, 6, 7] [] rfl rfl (by decide) (by decide) (fun H locs hP hD hS => ?_)
    cases hf
    exact rt_Mv hx hb hr hlocks (hP.sub [0, 1, 2, 3, 4, 5, 6, 7] rfl) (hD.sub [0, 1, 2, 3, 4, 5, 6, 7] (by decide) rfl) hS dX12_saysNumber_26

def f_X12_saysNumber_6 (mo : Nat → Int32) (mO : Int32) (p0 : Int32) : Option ((Nat → Int32) × Int32) :=
  sf_b (p0 ≤ (9 : Int32)) (sf_c2 (f_X12_says mo mO ((((48 : Int32) + (p0 - p0 / (10 : Int32) * (10 : Int32))).toUInt32 % 65536).toInt32)) (fun a_1 x_2 => some (a_1, x_2))) (sf_c2 (f_X12_saysNumber_5 mo mO (p0 / (10 : Int32))) (fun a_3 x_4 => sf_c2 (f_X12_says a_3 x_4 ((((48 : Int32) + (p0 - p0 / (10 : Int32) * (10 : Int32))).toUInt32 % 65536).toInt32)) (fun a_5 x_6 => some (a_5, x_6))))
theorem yd_X12_saysNumber_6 : yX12_saysNumber.cls = RX12 ∧ yX12_saysNumber.cls ≠ "java/lang/invoke/MethodHandle" ∧ yX12_saysNumber.cls ≠ "java/lang/invoke/VarHandle" ∧ (parseMethodDescriptor yX12_saysNumber.desc).map (fun d => d.parameters.length) = some 1 := ⟨rfl, by decide, by decide, by decide +kernel⟩
set_option maxRecDepth 100000 in
set_option maxHeartbeats 4000000 in
theorem c_X12_saysNumber_6 (l : Launch) (D : va_G) (dA : Nat → ClassId) (h0 h1 h2 h3 h4 h5 h6 h7 : Nat) (sz : Nat) (ms : Nat → Int32) (mb : Nat → Int32) (mv : Nat → Int32) (mi : Int32) (mp : Nat → Int32) (mn : Int32) (mt : Int32) (mo : Nat → Int32) (mO : Int32) (mI : Nat → Int32) (mL : Int32) (mA : Int32) (mW : Int32) (mE : Int32) (mF : Int32) (mc : Nat → Int32) (mM : Int32) (p0 : Int32) (q_mo : Nat → Int32) (q_mO : Int32) (hf : f_X12_saysNumber_6 mo mO p0 = some (q_mo, q_mO)) : Met l yX12_saysNumber (wo (.code yX12_saysNumber cX12_saysNumber 2 none)) ({ frames := 7, cells := 0, slots := 0, locals := 147 } : Room) (preM D dA [.ref h0, .int p0] sz [(h0, .inr (10, [.ref h1, .ref h2, .ref h3, .int mi, .ref h4, .int mn, .int mt, .ref h5, .int mO, .ref h6, .int mL, .int mA, .int mW, .int mE, .int mF, .ref h7, .int mM])), (h1, .inl (dA 0, 158, .inl ms)), (h2, .inl (dA 0, 158, .inl mb)), (h3, .inl (dA 0, 158, .inl mv)), (h4, .inl (dA 0, 1264, .inl mp)), (h5, .inl (dA 1, 180, .inl mo)), (h6, .inl (dA 1, 60, .inl mI)), (h7, .inl (dA 0, 240, .inl mc))]) (poMv D [(h0, .inr (10, [.ref h1, .ref h2, .ref h3, .int mi, .ref h4, .int mn, .int mt, .ref h5, .int q_mO, .ref h6, .int mL, .int mA, .int mW, .int mE, .int mF, .ref h7, .int mM])), (h1, .inl (dA 0, 158, .inl ms)), (h2, .inl (dA 0, 158, .inl mb)), (h3, .inl (dA 0, 158, .inl mv)), (h4, .inl (dA 0, 1264, .inl mp)), (h5, .inl (dA 1, 180, .inl q_mo)), (h6, .inl (dA 1, 60, .inl mI)), (h7, .inl (dA 0, 240, .inl mc))] (va_A [(h0, .inr (10, [.ref h1, .ref h2, .ref h3, .int mi, .ref h4, .int mn, .int mt, .ref h5, .int mO, .ref h6, .int mL, .int mA, .int mW, .int mE, .int mF, .ref h7, .int mM])), (h1, .inl (dA 0, 158, .inl ms)), (h2, .inl (dA 0, 158, .inl mb)), (h3, .inl (dA 0, 158, .inl mv)), (h4, .inl (dA 0, 1264, .inl mp)), (h5, .inl (dA 1, 180, .inl mo)), (h6, .inl (dA 1, 60, .inl mI)), (h7, .inl (dA 0, 240, .inl mc))] sz)) 0 0 (va_A [(h0, .inr (10, [.ref h1, .ref h2, .ref h3, .int mi, .ref h4, .int mn, .int mt, .ref h5, .int mO, .ref h6, .int mL, .int mA, .int mW, .int mE, .int mF, .ref h7, .int mM])), (h1, .inl (dA 0, 158, .inl ms)), (h2, .inl (dA 0, 158, .inl mb)), (h3, .inl (dA 0, 158, .inl mv)), (h4, .inl (dA 0, 1264, .inl mp)), (h5, .inl (dA 1, 180, .inl mo)), (h6, .inl (dA 1, 60, .inl mI)), (h7, .inl (dA 0, 240, .inl mc))] sz) := by
  refine of_M (y := yX12_saysNumber) (av := [.ref h0, .int p0]) (ws := [(h0, .inr (10, [.ref h1, .ref h2, .ref h3, .int mi, .ref h4, .int mn, .int mt, .ref h5, .int mO, .ref h6, .int mL, .int mA, .int mW, .int mE, .int mF, .ref h7, .int mM])), (h1, .inl (dA 0, 158, .inl ms)), (h2, .inl (dA 0, 158, .inl mb)), (h3, .inl (dA 0, 158, .inl mv)), (h4, .inl (dA 0, 1264, .inl mp)), (h5, .inl (dA 1, 180, .inl mo)), (h6, .inl (dA 1, 60, .inl mI)), (h7, .inl (dA 0, 240, .inl mc))]) (sz := sz) (own := RX12) (Qc := poMv D [(h0, .inr (10, [.ref h1, .ref h2, .ref h3, .int mi, .ref h4, .int mn, .int mt, .ref h5, .int q_mO, .ref h6, .int mL, .int mA, .int mW, .int mE, .int mF, .ref h7, .int mM])), (h1, .inl (dA 0, 158, .inl ms)), (h2, .inl (dA 0, 158, .inl mb)), (h3, .inl (dA 0, 158, .inl mv)), (h4, .inl (dA 0, 1264, .inl mp)), (h5, .inl (dA 1, 180, .inl q_mo)), (h6, .inl (dA 1, 60, .inl mI)), (h7, .inl (dA 0, 240, .inl mc))]) (by decide) rfl (Nat.le_of_ble_eq_true rfl) ?_
  intro p e s m below meth c A hx hb hr ha hown hml hlocks hin hP hK hD hS hA ls hl
  have hl : lv_has ls 2 [(0, .ref h0), (1, .int p0)] := hl
  rw [f_X12_saysNumber_6] at hf
  refine lv_iload_n hx hb dX12_saysNumber_0 rfl (lv_at hl 1 rfl) ?_
  refine lv_bipush (v := 9) hx hb dX12_saysNumber_1 (by decide) ?_
  refine lv_icmp_le (tgt := 14) hx hb dX12_saysNumber_3 (by decide) (fun hc => ?_) (fun hc => ?_)
  · have hf := sf_bp hf hc
    refine lv_aload_n hx hb dX12_saysNumber_14 rfl (lv_at hl 0 rfl) ?_
    refine lv_bipush (v := 48) hx hb dX12_saysNumber_15 (by decide) ?_
    refine lv_iload_n hx hb dX12_saysNumber_17 rfl (lv_at hl 1 rfl) ?_
    refine lv_bipush (v := 10) hx hb dX12_saysNumber_18 (by decide) ?_
    refine lv_irem hx hb dX12_saysNumber_20 (by decide) ?_
    refine lv_iadd hx hb dX12_saysNumber_21 ?_
    refine lv_i2c hx hb dX12_saysNumber_22 rfl ?_
    obtain ⟨a_1, x_2, hc2, hf⟩ := sf_c2e hf
    refine k_Mv (wr := []) (run_MV (As := [.int ((((48 : Int32) + (p0 - p0 / (10 : Int32) * (10 : Int32))).toUInt32 % 65536).toInt32)]) (rest := []) ⟨hx, hb, hml, hown, ha⟩ (c_X12_says l D dA h0 h1 h2 h3 h4 h5 h6 h7 _ ms mb mv mi mp mn mt mo mO mI mL mA mW mE mF mc mM ((((48 : Int32) + (p0 - p0 / (10 : Int32) * (10 : Int32))).toUInt32 % 65536).toInt32) _ _ hc2) (gi_V m_2036 m_2038 m_63 m_85 m_2039) yd_X12_says ⟨Nat.le_of_ble_eq_true rfl, Nat.le_of_ble_eq_true rfl⟩ ⟨rfl, rfl⟩ hK hP hD [0, 1, 2, 3, 4, 5, 6, 7] (by decide) rfl 0 10 rfl rfl rfl rfl hl.1 rfl (Nat.le_of_ble_eq_true rfl) dX12_saysNumber_23 ⟨Nat.le_of_ble_eq_true rfl, Nat.le_of_ble_eq_true rfl⟩) hP hD hS hA [0, 1, 2, 3, 4, 5, 6, 7] [] rfl rfl (by decide) (by decide) (fun H locs hP hD hS => ?_)
    cases hf
    exact rt_Mv hx hb hr hlocks (hP.sub [0, 1, 2, 3, 4, 5, 6, 7] rfl) (hD.sub [0, 1, 2, 3, 4, 5, 6, 7] (by decide) rfl) hS dX12_saysNumber_26
  · have hf := sf_bn hf hc
    refine lv_aload_n hx hb dX12_saysNumber_6 rfl (lv_at hl 0 rfl) ?_
    refine lv_iload_n hx hb dX12_saysNumber_7 rfl (lv_at hl 1 rfl) ?_
    refine lv_bipush (v := 10) hx hb dX12_saysNumber_8 (by decide) ?_
    refine lv_idiv hx hb dX12_saysNumber_10 (by decide) ?_
    obtain ⟨a_3, x_4, hc4, hf⟩ := sf_c2e hf
    refine k_Mv (wr := []) (run_MV (As := [.int (p0 / (10 : Int32))]) (rest := []) ⟨hx, hb, hml, hown, ha⟩ (c_X12_saysNumber_5 l D dA h0 h1 h2 h3 h4 h5 h6 h7 _ ms mb mv mi mp mn mt mo mO mI mL mA mW mE mF mc mM (p0 / (10 : Int32)) _ _ hc4) (gi_V m_2032 m_2034 m_62 m_85 m_2035) yd_X12_saysNumber_5 ⟨Nat.le_of_ble_eq_true rfl, Nat.le_of_ble_eq_true rfl⟩ ⟨rfl, rfl⟩ hK hP hD [0, 1, 2, 3, 4, 5, 6, 7] (by decide) rfl 0 10 rfl rfl rfl rfl hl.1 rfl (Nat.le_of_ble_eq_true rfl) dX12_saysNumber_11 ⟨Nat.le_of_ble_eq_true rfl, Nat.le_of_ble_eq_true rfl⟩) hP hD hS hA [0, 1, 2, 3, 4, 5, 6, 7] [] rfl rfl (by decide) (by decide) (fun H locs hP hD hS => ?_)
    refine lv_aload_n hx hb dX12_saysNumber_14 rfl (lv_at hl 0 rfl) ?_
    refine lv_bipush (v := 48) hx hb dX12_saysNumber_15 (by decide) ?_
    refine lv_iload_n hx hb dX12_saysNumber_17 rfl (lv_at hl 1 rfl) ?_
    refine lv_bipush (v := 10) hx hb dX12_saysNumber_18 (by decide) ?_
    refine lv_irem hx hb dX12_saysNumber_20 (by decide) ?_
    refine lv_iadd hx hb dX12_saysNumber_21 ?_
    refine lv_i2c hx hb dX12_saysNumber_22 rfl ?_
    obtain ⟨a_5, x_6, hc6, hf⟩ := sf_c2e hf
    refine k_Mv (wr := []) (run_MV (As := [.int ((((48 : Int32) + (p0 - p0 / (10 : Int32) * (10 : Int32))).toUInt32 % 65536).toInt32)]) (rest := []) ⟨hx, hb, hml, hown, ha⟩ (c_X12_says l D dA h0 h1 h2 h3 h4 h5 h6 h7 _ ms mb mv mi mp mn mt a_3 x_4 mI mL mA mW mE mF mc mM ((((48 : Int32) + (p0 - p0 / (10 : Int32) * (10 : Int32))).toUInt32 % 65536).toInt32) _ _ hc6) (gi_V m_2036 m_2038 m_63 m_85 m_2039) yd_X12_says ⟨Nat.le_of_ble_eq_true rfl, Nat.le_of_ble_eq_true rfl⟩ ⟨rfl, rfl⟩ hK hP hD [0, 1, 2, 3, 4, 5, 6, 7] (by decide) rfl 0 10 rfl rfl rfl rfl hl.1 rfl (Nat.le_of_ble_eq_true rfl) dX12_saysNumber_23 ⟨Nat.le_of_ble_eq_true rfl, Nat.le_of_ble_eq_true rfl⟩) hP hD hS hA [0, 1, 2, 3, 4, 5, 6, 7] [] rfl rfl (by decide) (by decide) (fun H locs hP hD hS => ?_)
    cases hf
    exact rt_Mv hx hb hr hlocks (hP.sub [0, 1, 2, 3, 4, 5, 6, 7] rfl) (hD.sub [0, 1, 2, 3, 4, 5, 6, 7] (by decide) rfl) hS dX12_saysNumber_26

def f_X12_saysNumber_7 (mo : Nat → Int32) (mO : Int32) (p0 : Int32) : Option ((Nat → Int32) × Int32) :=
  sf_b (p0 ≤ (9 : Int32)) (sf_c2 (f_X12_says mo mO ((((48 : Int32) + (p0 - p0 / (10 : Int32) * (10 : Int32))).toUInt32 % 65536).toInt32)) (fun a_1 x_2 => some (a_1, x_2))) (sf_c2 (f_X12_saysNumber_6 mo mO (p0 / (10 : Int32))) (fun a_3 x_4 => sf_c2 (f_X12_says a_3 x_4 ((((48 : Int32) + (p0 - p0 / (10 : Int32) * (10 : Int32))).toUInt32 % 65536).toInt32)) (fun a_5 x_6 => some (a_5, x_6))))
theorem yd_X12_saysNumber_7 : yX12_saysNumber.cls = RX12 ∧ yX12_saysNumber.cls ≠ "java/lang/invoke/MethodHandle" ∧ yX12_saysNumber.cls ≠ "java/lang/invoke/VarHandle" ∧ (parseMethodDescriptor yX12_saysNumber.desc).map (fun d => d.parameters.length) = some 1 := ⟨rfl, by decide, by decide, by decide +kernel⟩
set_option maxRecDepth 100000 in
set_option maxHeartbeats 4000000 in
theorem c_X12_saysNumber_7 (l : Launch) (D : va_G) (dA : Nat → ClassId) (h0 h1 h2 h3 h4 h5 h6 h7 : Nat) (sz : Nat) (ms : Nat → Int32) (mb : Nat → Int32) (mv : Nat → Int32) (mi : Int32) (mp : Nat → Int32) (mn : Int32) (mt : Int32) (mo : Nat → Int32) (mO : Int32) (mI : Nat → Int32) (mL : Int32) (mA : Int32) (mW : Int32) (mE : Int32) (mF : Int32) (mc : Nat → Int32) (mM : Int32) (p0 : Int32) (q_mo : Nat → Int32) (q_mO : Int32) (hf : f_X12_saysNumber_7 mo mO p0 = some (q_mo, q_mO)) : Met l yX12_saysNumber (wo (.code yX12_saysNumber cX12_saysNumber 2 none)) ({ frames := 8, cells := 0, slots := 0, locals := 168 } : Room) (preM D dA [.ref h0, .int p0] sz [(h0, .inr (10, [.ref h1, .ref h2, .ref h3, .int mi, .ref h4, .int mn, .int mt, .ref h5, .int mO, .ref h6, .int mL, .int mA, .int mW, .int mE, .int mF, .ref h7, .int mM])), (h1, .inl (dA 0, 158, .inl ms)), (h2, .inl (dA 0, 158, .inl mb)), (h3, .inl (dA 0, 158, .inl mv)), (h4, .inl (dA 0, 1264, .inl mp)), (h5, .inl (dA 1, 180, .inl mo)), (h6, .inl (dA 1, 60, .inl mI)), (h7, .inl (dA 0, 240, .inl mc))]) (poMv D [(h0, .inr (10, [.ref h1, .ref h2, .ref h3, .int mi, .ref h4, .int mn, .int mt, .ref h5, .int q_mO, .ref h6, .int mL, .int mA, .int mW, .int mE, .int mF, .ref h7, .int mM])), (h1, .inl (dA 0, 158, .inl ms)), (h2, .inl (dA 0, 158, .inl mb)), (h3, .inl (dA 0, 158, .inl mv)), (h4, .inl (dA 0, 1264, .inl mp)), (h5, .inl (dA 1, 180, .inl q_mo)), (h6, .inl (dA 1, 60, .inl mI)), (h7, .inl (dA 0, 240, .inl mc))] (va_A [(h0, .inr (10, [.ref h1, .ref h2, .ref h3, .int mi, .ref h4, .int mn, .int mt, .ref h5, .int mO, .ref h6, .int mL, .int mA, .int mW, .int mE, .int mF, .ref h7, .int mM])), (h1, .inl (dA 0, 158, .inl ms)), (h2, .inl (dA 0, 158, .inl mb)), (h3, .inl (dA 0, 158, .inl mv)), (h4, .inl (dA 0, 1264, .inl mp)), (h5, .inl (dA 1, 180, .inl mo)), (h6, .inl (dA 1, 60, .inl mI)), (h7, .inl (dA 0, 240, .inl mc))] sz)) 0 0 (va_A [(h0, .inr (10, [.ref h1, .ref h2, .ref h3, .int mi, .ref h4, .int mn, .int mt, .ref h5, .int mO, .ref h6, .int mL, .int mA, .int mW, .int mE, .int mF, .ref h7, .int mM])), (h1, .inl (dA 0, 158, .inl ms)), (h2, .inl (dA 0, 158, .inl mb)), (h3, .inl (dA 0, 158, .inl mv)), (h4, .inl (dA 0, 1264, .inl mp)), (h5, .inl (dA 1, 180, .inl mo)), (h6, .inl (dA 1, 60, .inl mI)), (h7, .inl (dA 0, 240, .inl mc))] sz) := by
  refine of_M (y := yX12_saysNumber) (av := [.ref h0, .int p0]) (ws := [(h0, .inr (10, [.ref h1, .ref h2, .ref h3, .int mi, .ref h4, .int mn, .int mt, .ref h5, .int mO, .ref h6, .int mL, .int mA, .int mW, .int mE, .int mF, .ref h7, .int mM])), (h1, .inl (dA 0, 158, .inl ms)), (h2, .inl (dA 0, 158, .inl mb)), (h3, .inl (dA 0, 158, .inl mv)), (h4, .inl (dA 0, 1264, .inl mp)), (h5, .inl (dA 1, 180, .inl mo)), (h6, .inl (dA 1, 60, .inl mI)), (h7, .inl (dA 0, 240, .inl mc))]) (sz := sz) (own := RX12) (Qc := poMv D [(h0, .inr (10, [.ref h1, .ref h2, .ref h3, .int mi, .ref h4, .int mn, .int mt, .ref h5, .int q_mO, .ref h6, .int mL, .int mA, .int mW, .int mE, .int mF, .ref h7, .int mM])), (h1, .inl (dA 0, 158, .inl ms)), (h2, .inl (dA 0, 158, .inl mb)), (h3, .inl (dA 0, 158, .inl mv)), (h4, .inl (dA 0, 1264, .inl mp)), (h5, .inl (dA 1, 180, .inl q_mo)), (h6, .inl (dA 1, 60, .inl mI)), (h7, .inl (dA 0, 240, .inl mc))]) (by decide) rfl (Nat.le_of_ble_eq_true rfl) ?_
  intro p e s m below meth c A hx hb hr ha hown hml hlocks hin hP hK hD hS hA ls hl
  have hl : lv_has ls 2 [(0, .ref h0), (1, .int p0)] := hl
  rw [f_X12_saysNumber_7] at hf
  refine lv_iload_n hx hb dX12_saysNumber_0 rfl (lv_at hl 1 rfl) ?_
  refine lv_bipush (v := 9) hx hb dX12_saysNumber_1 (by decide) ?_
  refine lv_icmp_le (tgt := 14) hx hb dX12_saysNumber_3 (by decide) (fun hc => ?_) (fun hc => ?_)
  · have hf := sf_bp hf hc
    refine lv_aload_n hx hb dX12_saysNumber_14 rfl (lv_at hl 0 rfl) ?_
    refine lv_bipush (v := 48) hx hb dX12_saysNumber_15 (by decide) ?_
    refine lv_iload_n hx hb dX12_saysNumber_17 rfl (lv_at hl 1 rfl) ?_
    refine lv_bipush (v := 10) hx hb dX12_saysNumber_18 (by decide) ?_
    refine lv_irem hx hb dX12_saysNumber_20 (by decide) ?_
    refine lv_iadd hx hb dX12_saysNumber_21 ?_
    refine lv_i2c hx hb dX12_saysNumber_22 rfl ?_
    obtain ⟨a_1, x_2, hc2, hf⟩ := sf_c2e hf
    refine k_Mv (wr := []) (run_MV (As := [.int ((((48 : Int32) + (p0 - p0 / (10 : Int32) * (10 : Int32))).toUInt32 % 65536).toInt32)]) (rest := []) ⟨hx, hb, hml, hown, ha⟩ (c_X12_says l D dA h0 h1 h2 h3 h4 h5 h6 h7 _ ms mb mv mi mp mn mt mo mO mI mL mA mW mE mF mc mM ((((48 : Int32) + (p0 - p0 / (10 : Int32) * (10 : Int32))).toUInt32 % 65536).toInt32) _ _ hc2) (gi_V m_2036 m_2038 m_63 m_85 m_2039) yd_X12_says ⟨Nat.le_of_ble_eq_true rfl, Nat.le_of_ble_eq_true rfl⟩ ⟨rfl, rfl⟩ hK hP hD [0, 1, 2, 3, 4, 5, 6, 7] (by decide) rfl 0 10 rfl rfl rfl rfl hl.1 rfl (Nat.le_of_ble_eq_true rfl) dX12_saysNumber_23 ⟨Nat.le_of_ble_eq_true rfl, Nat.le_of_ble_eq_true rfl⟩) hP hD hS hA [0, 1, 2, 3, 4, 5, 6, 7] [] rfl rfl (by decide) (by decide) (fun H locs hP hD hS => ?_)
    cases hf
    exact rt_Mv hx hb hr hlocks (hP.sub [0, 1, 2, 3, 4, 5, 6, 7] rfl) (hD.sub [0, 1, 2, 3, 4, 5, 6, 7] (by decide) rfl) hS dX12_saysNumber_26
  · have hf := sf_bn hf hc
    refine lv_aload_n hx hb dX12_saysNumber_6 rfl (lv_at hl 0 rfl) ?_
    refine lv_iload_n hx hb dX12_saysNumber_7 rfl (lv_at hl 1 rfl) ?_
    refine lv_bipush (v := 10) hx hb dX12_saysNumber_8 (by decide) ?_
    refine lv_idiv hx hb dX12_saysNumber_10 (by decide) ?_
    obtain ⟨a_3, x_4, hc4, hf⟩ := sf_c2e hf
    refine k_Mv (wr := []) (run_MV (As := [.int (p0 / (10 : Int32))]) (rest := []) ⟨hx, hb, hml, hown, ha⟩ (c_X12_saysNumber_6 l D dA h0 h1 h2 h3 h4 h5 h6 h7 _ ms mb mv mi mp mn mt mo mO mI mL mA mW mE mF mc mM (p0 / (10 : Int32)) _ _ hc4) (gi_V m_2032 m_2034 m_62 m_85 m_2035) yd_X12_saysNumber_6 ⟨Nat.le_of_ble_eq_true rfl, Nat.le_of_ble_eq_true rfl⟩ ⟨rfl, rfl⟩ hK hP hD [0, 1, 2, 3, 4, 5, 6, 7] (by decide) rfl 0 10 rfl rfl rfl rfl hl.1 rfl (Nat.le_of_ble_eq_true rfl) dX12_saysNumber_11 ⟨Nat.le_of_ble_eq_true rfl, Nat.le_of_ble_eq_true rfl⟩) hP hD hS hA [0, 1, 2, 3, 4, 5, 6, 7] [] rfl rfl (by decide) (by decide) (fun H locs hP hD hS => ?_)
    refine lv_aload_n hx hb dX12_saysNumber_14 rfl (lv_at hl 0 rfl) ?_
    refine lv_bipush (v := 48) hx hb dX12_saysNumber_15 (by decide) ?_
    refine lv_iload_n hx hb dX12_saysNumber_17 rfl (lv_at hl 1 rfl) ?_
    refine lv_bipush (v := 10) hx hb dX12_saysNumber_18 (by decide) ?_
    refine lv_irem hx hb dX12_saysNumber_20 (by decide) ?_
    refine lv_iadd hx hb dX12_saysNumber_21 ?_
    refine lv_i2c hx hb dX12_saysNumber_22 rfl ?_
    obtain ⟨a_5, x_6, hc6, hf⟩ := sf_c2e hf
    refine k_Mv (wr := []) (run_MV (As := [.int ((((48 : Int32) + (p0 - p0 / (10 : Int32) * (10 : Int32))).toUInt32 % 65536).toInt32)]) (rest := []) ⟨hx, hb, hml, hown, ha⟩ (c_X12_says l D dA h0 h1 h2 h3 h4 h5 h6 h7 _ ms mb mv mi mp mn mt a_3 x_4 mI mL mA mW mE mF mc mM ((((48 : Int32) + (p0 - p0 / (10 : Int32) * (10 : Int32))).toUInt32 % 65536).toInt32) _ _ hc6) (gi_V m_2036 m_2038 m_63 m_85 m_2039) yd_X12_says ⟨Nat.le_of_ble_eq_true rfl, Nat.le_of_ble_eq_true rfl⟩ ⟨rfl, rfl⟩ hK hP hD [0, 1, 2, 3, 4, 5, 6, 7] (by decide) rfl 0 10 rfl rfl rfl rfl hl.1 rfl (Nat.le_of_ble_eq_true rfl) dX12_saysNumber_23 ⟨Nat.le_of_ble_eq_true rfl, Nat.le_of_ble_eq_true rfl⟩) hP hD hS hA [0, 1, 2, 3, 4, 5, 6, 7] [] rfl rfl (by decide) (by decide) (fun H locs hP hD hS => ?_)
    cases hf
    exact rt_Mv hx hb hr hlocks (hP.sub [0, 1, 2, 3, 4, 5, 6, 7] rfl) (hD.sub [0, 1, 2, 3, 4, 5, 6, 7] (by decide) rfl) hS dX12_saysNumber_26

def f_X12_writeSlide_L69 (ms : Nat → Int32) (p0 : Int32) (k : Int32 → (Nat → Int32) → Option (Int32 × Int32 × (Nat → Int32) × Int32)) : Nat → Int32 → Int32 → (Nat → Int32) → Option (Int32 × Int32 × (Nat → Int32) × Int32)
  | 0, _, _, _ => none
  | n + 1, v_19, v_20, w_21 => sf_g (sf_in (2 : Int32) 158 = true) (sf_b ((ms (2 : Int32).toNatClampNeg) ≤ v_19) (k v_20 w_21) (sf_c1 (f_X12_ranked ms v_19) (fun r_22 => sf_c1 (f_X12_booking ms r_22 (1 : Int32)) (fun r_23 => sf_b (r_23 = p0) (sf_c2 (f_X12_says w_21 v_20 (32 : Int32)) (fun a_25 x_26 => sf_c1 (f_X12_booking ms r_22 (0 : Int32)) (fun r_27 => sf_c2 (f_X12_saysNumber_7 a_25 x_26 r_27) (fun a_28 x_29 => sf_c2 (f_X12_says a_28 x_29 (64 : Int32)) (fun a_30 x_31 => sf_c1 (f_X12_startOf ms r_22) (fun r_32 => sf_c2 (f_X12_saysNumber_7 a_30 x_31 r_32) (fun a_33 x_34 => sf_n (v_19 + (1 : Int32)) (fun x_35 => f_X12_writeSlide_L69 ms p0 k n x_35 x_34 a_33)))))))) (sf_n (v_19 + (1 : Int32)) (fun x_24 => f_X12_writeSlide_L69 ms p0 k n x_24 v_20 w_21))))))
def f_X12_writeSlide (ms : Nat → Int32) (mt : Int32) (mo : Nat → Int32) (mO : Int32) (p0 : Int32) : Option (Int32 × Int32 × (Nat → Int32) × Int32) :=
  sf_c1 (f_X12_isSlide ms p0) (fun r_1 => sf_c2 (f_X12_isThere mt r_1) (fun r_2 x_3 => sf_b (r_2 = (0 : Int32)) (some ((0 : Int32), x_3, mo, mO)) (sf_c1 (f_X12_slide ms p0 (0 : Int32)) (fun r_4 => sf_c2 (f_X12_saysNumber_7 mo (0 : Int32) r_4) (fun a_5 x_6 => sf_c2 (f_X12_says a_5 x_6 (109 : Int32)) (fun a_7 x_8 => sf_c1 (f_X12_slide ms p0 (1 : Int32)) (fun r_9 => sf_c2 (f_X12_saysNumber_7 a_7 x_8 r_9) (fun a_10 x_11 => sf_c2 (f_X12_says a_10 x_11 (99 : Int32)) (fun a_12 x_13 => sf_c1 (f_X12_slide ms p0 (2 : Int32)) (fun r_14 => sf_c2 (f_X12_saysNumber_7 a_12 x_13 r_14) (fun a_15 x_16 => sf_c2 (f_X12_says a_15 x_16 (119 : Int32)) (fun a_17 x_18 => f_X12_writeSlide_L69 ms p0 (fun y_36 z_37 => some (y_36, x_3, z_37, y_36)) 2000 (0 : Int32) x_18 a_17))))))))))))
theorem yd_X12_writeSlide : yX12_writeSlide.cls = RX12 ∧ yX12_writeSlide.cls ≠ "java/lang/invoke/MethodHandle" ∧ yX12_writeSlide.cls ≠ "java/lang/invoke/VarHandle" ∧ (parseMethodDescriptor yX12_writeSlide.desc).map (fun d => d.parameters.length) = some 1 := ⟨rfl, by decide, by decide, by decide +kernel⟩
set_option maxRecDepth 100000 in
set_option maxHeartbeats 4000000 in
theorem c_X12_writeSlide (l : Launch) (D : va_G) (dA : Nat → ClassId) (h0 h1 h2 h3 h4 h5 h6 h7 : Nat) (sz : Nat) (ms : Nat → Int32) (mb : Nat → Int32) (mv : Nat → Int32) (mi : Int32) (mp : Nat → Int32) (mn : Int32) (mt : Int32) (mo : Nat → Int32) (mO : Int32) (mI : Nat → Int32) (mL : Int32) (mA : Int32) (mW : Int32) (mE : Int32) (mF : Int32) (mc : Nat → Int32) (mM : Int32) (p0 : Int32) (rr : Int32) (q_mt : Int32) (q_mo : Nat → Int32) (q_mO : Int32) (hf : f_X12_writeSlide ms mt mo mO p0 = some (rr, q_mt, q_mo, q_mO)) : Met l yX12_writeSlide (wo (.code yX12_writeSlide cX12_writeSlide 4 (some .int))) ({ frames := 9, cells := 0, slots := 0, locals := 189 } : Room) (preM D dA [.ref h0, .int p0] sz [(h0, .inr (10, [.ref h1, .ref h2, .ref h3, .int mi, .ref h4, .int mn, .int mt, .ref h5, .int mO, .ref h6, .int mL, .int mA, .int mW, .int mE, .int mF, .ref h7, .int mM])), (h1, .inl (dA 0, 158, .inl ms)), (h2, .inl (dA 0, 158, .inl mb)), (h3, .inl (dA 0, 158, .inl mv)), (h4, .inl (dA 0, 1264, .inl mp)), (h5, .inl (dA 1, 180, .inl mo)), (h6, .inl (dA 1, 60, .inl mI)), (h7, .inl (dA 0, 240, .inl mc))]) (poMi D rr [(h0, .inr (10, [.ref h1, .ref h2, .ref h3, .int mi, .ref h4, .int mn, .int q_mt, .ref h5, .int q_mO, .ref h6, .int mL, .int mA, .int mW, .int mE, .int mF, .ref h7, .int mM])), (h1, .inl (dA 0, 158, .inl ms)), (h2, .inl (dA 0, 158, .inl mb)), (h3, .inl (dA 0, 158, .inl mv)), (h4, .inl (dA 0, 1264, .inl mp)), (h5, .inl (dA 1, 180, .inl q_mo)), (h6, .inl (dA 1, 60, .inl mI)), (h7, .inl (dA 0, 240, .inl mc))] (va_A [(h0, .inr (10, [.ref h1, .ref h2, .ref h3, .int mi, .ref h4, .int mn, .int mt, .ref h5, .int mO, .ref h6, .int mL, .int mA, .int mW, .int mE, .int mF, .ref h7, .int mM])), (h1, .inl (dA 0, 158, .inl ms)), (h2, .inl (dA 0, 158, .inl mb)), (h3, .inl (dA 0, 158, .inl mv)), (h4, .inl (dA 0, 1264, .inl mp)), (h5, .inl (dA 1, 180, .inl mo)), (h6, .inl (dA 1, 60, .inl mI)), (h7, .inl (dA 0, 240, .inl mc))] sz)) 0 0 (va_A [(h0, .inr (10, [.ref h1, .ref h2, .ref h3, .int mi, .ref h4, .int mn, .int mt, .ref h5, .int mO, .ref h6, .int mL, .int mA, .int mW, .int mE, .int mF, .ref h7, .int mM])), (h1, .inl (dA 0, 158, .inl ms)), (h2, .inl (dA 0, 158, .inl mb)), (h3, .inl (dA 0, 158, .inl mv)), (h4, .inl (dA 0, 1264, .inl mp)), (h5, .inl (dA 1, 180, .inl mo)), (h6, .inl (dA 1, 60, .inl mI)), (h7, .inl (dA 0, 240, .inl mc))] sz) := by
  refine of_M (y := yX12_writeSlide) (av := [.ref h0, .int p0]) (ws := [(h0, .inr (10, [.ref h1, .ref h2, .ref h3, .int mi, .ref h4, .int mn, .int mt, .ref h5, .int mO, .ref h6, .int mL, .int mA, .int mW, .int mE, .int mF, .ref h7, .int mM])), (h1, .inl (dA 0, 158, .inl ms)), (h2, .inl (dA 0, 158, .inl mb)), (h3, .inl (dA 0, 158, .inl mv)), (h4, .inl (dA 0, 1264, .inl mp)), (h5, .inl (dA 1, 180, .inl mo)), (h6, .inl (dA 1, 60, .inl mI)), (h7, .inl (dA 0, 240, .inl mc))]) (sz := sz) (own := RX12) (Qc := poMi D rr [(h0, .inr (10, [.ref h1, .ref h2, .ref h3, .int mi, .ref h4, .int mn, .int q_mt, .ref h5, .int q_mO, .ref h6, .int mL, .int mA, .int mW, .int mE, .int mF, .ref h7, .int mM])), (h1, .inl (dA 0, 158, .inl ms)), (h2, .inl (dA 0, 158, .inl mb)), (h3, .inl (dA 0, 158, .inl mv)), (h4, .inl (dA 0, 1264, .inl mp)), (h5, .inl (dA 1, 180, .inl q_mo)), (h6, .inl (dA 1, 60, .inl mI)), (h7, .inl (dA 0, 240, .inl mc))]) (by decide) rfl (Nat.le_of_ble_eq_true rfl) ?_
  intro p e s m below meth c A hx hb hr ha hown hml hlocks hin hP hK hD hS hA ls hl
  have hl : lv_has ls 4 [(0, .ref h0), (1, .int p0)] := hl
  rw [f_X12_writeSlide] at hf
  refine lv_aload_n hx hb dX12_writeSlide_0 rfl (lv_at hl 0 rfl) ?_
  refine lv_aload_n hx hb dX12_writeSlide_1 rfl (lv_at hl 0 rfl) ?_
  refine lv_iload_n hx hb dX12_writeSlide_2 rfl (lv_at hl 1 rfl) ?_
  obtain ⟨r_1, hc1, hf⟩ := sf_c1e hf
  refine k_Pi (run_PV (As := [.int p0]) (rest := [.ref h0]) ⟨hx, hb, hml, hown, ha⟩ (c_X12_isSlide l D dA h0 h1 h2 h3 h4 h5 h6 h7  ms mb mv mi mp mn mt mo mO mI mL mA mW mE mF mc mM p0 _ hc1) (gi_V m_1749 m_1751 m_37 m_85 m_1752) yd_X12_isSlide ⟨Nat.le_of_ble_eq_true rfl, Nat.le_of_ble_eq_true rfl⟩ ⟨rfl, rfl⟩ hK hP [0, 1, 2, 3, 4, 5, 6, 7] rfl 0 10 rfl rfl rfl rfl hl.1 rfl (Nat.le_of_ble_eq_true rfl) dX12_writeSlide_3 ⟨Nat.le_of_ble_eq_true rfl, Nat.le_of_ble_eq_true rfl⟩) hP hS (fun H locs hP hS => ?_)
  obtain ⟨r_2, x_3, hc3, hf⟩ := sf_c2e hf
  refine k_Mi (wr := []) (run_MV (As := [.int r_1]) (rest := []) ⟨hx, hb, hml, hown, ha⟩ (c_X12_isThere l D dA h0 h1 h2 h3 h4 h5 h6 h7 _ ms mb mv mi mp mn mt mo mO mI mL mA mW mE mF mc mM r_1 _ _ hc3) (gi_V m_1867 m_1869 m_59 m_85 m_1870) yd_X12_isThere ⟨Nat.le_of_ble_eq_true rfl, Nat.le_of_ble_eq_true rfl⟩ ⟨rfl, rfl⟩ hK hP hD [0, 1, 2, 3, 4, 5, 6, 7] (by decide) rfl 0 10 rfl rfl rfl rfl hl.1 rfl (Nat.le_of_ble_eq_true rfl) dX12_writeSlide_6 ⟨Nat.le_of_ble_eq_true rfl, Nat.le_of_ble_eq_true rfl⟩) hP hD hS hA [0, 1, 2, 3, 4, 5, 6, 7] [] rfl rfl (by decide) (by decide) (fun H locs hP hD hS => ?_)
  refine lv_if_ne (tgt := 14) hx hb dX12_writeSlide_9 (by decide) (fun hc => ?_) (fun hc => ?_)
  · have hf := sf_bn hf hc
    refine lv_aload_n hx hb dX12_writeSlide_14 rfl (lv_at hl 0 rfl) ?_
    refine lv_iconst (v := 0) hx hb dX12_writeSlide_15 (by decide) ?_
    refine pt_f (C := RX12) (T := TX12) (N := 17) (ws' := [(h0, .inr (10, [.ref h1, .ref h2, .ref h3, .int mi, .ref h4, .int mn, .int x_3, .ref h5, .int (0 : Int32), .ref h6, .int mL, .int mA, .int mW, .int mE, .int mF, .ref h7, .int mM])), (h1, .inl (dA 0, 158, .inl ms)), (h2, .inl (dA 0, 158, .inl mb)), (h3, .inl (dA 0, 158, .inl mv)), (h4, .inl (dA 0, 1264, .inl mp)), (h5, .inl (dA 1, 180, .inl mo)), (h6, .inl (dA 1, 60, .inl mI)), (h7, .inl (dA 0, 240, .inl mc))]) (ty := .int) hx hb ha in_X12 tyX12 tyX12_ok nmX12 hown hK hP hD hS 0 rfl rfl 8 (by decide) m_1657 rfl (tyX12_ok 8 (by decide)) rfl rfl (Nat.le_of_ble_eq_true rfl) rfl dX12_writeSlide_16 (fun H locs hP hD hS => ?_)
    refine lv_aload_n hx hb dX12_writeSlide_19 rfl (lv_at hl 0 rfl) ?_
    refine lv_aload_n hx hb dX12_writeSlide_20 rfl (lv_at hl 0 rfl) ?_
    refine lv_iload_n hx hb dX12_writeSlide_21 rfl (lv_at hl 1 rfl) ?_
    refine lv_iconst (v := 0) hx hb dX12_writeSlide_22 (by decide) ?_
    obtain ⟨r_4, hc4, hf⟩ := sf_c1e hf
    refine k_Pi (run_PV (As := [.int p0, .int (0 : Int32)]) (rest := [.ref h0]) ⟨hx, hb, hml, hown, ha⟩ (c_X12_slide l D dA h0 h1 h2 h3 h4 h5 h6 h7  ms mb mv mi mp mn x_3 mo (0 : Int32) mI mL mA mW mE mF mc mM p0 (0 : Int32) _ hc4) (gi_V m_1761 m_1763 m_40 m_85 m_1764) yd_X12_slide ⟨Nat.le_of_ble_eq_true rfl, Nat.le_of_ble_eq_true rfl⟩ ⟨rfl, rfl⟩ hK hP [0, 1, 2, 3, 4, 5, 6, 7] rfl 0 10 rfl rfl rfl rfl hl.1 rfl (Nat.le_of_ble_eq_true rfl) dX12_writeSlide_23 ⟨Nat.le_of_ble_eq_true rfl, Nat.le_of_ble_eq_true rfl⟩) hP hS (fun H locs hP hS => ?_)
    obtain ⟨a_5, x_6, hc6, hf⟩ := sf_c2e hf
    refine k_Mv (wr := []) (run_MV (As := [.int r_4]) (rest := []) ⟨hx, hb, hml, hown, ha⟩ (c_X12_saysNumber_7 l D dA h0 h1 h2 h3 h4 h5 h6 h7 _ ms mb mv mi mp mn x_3 mo (0 : Int32) mI mL mA mW mE mF mc mM r_4 _ _ hc6) (gi_V m_2032 m_2034 m_62 m_85 m_2035) yd_X12_saysNumber_7 ⟨Nat.le_of_ble_eq_true rfl, Nat.le_of_ble_eq_true rfl⟩ ⟨rfl, rfl⟩ hK hP hD [0, 1, 2, 3, 4, 5, 6, 7] (by decide) rfl 0 10 rfl rfl rfl rfl hl.1 rfl (Nat.le_of_ble_eq_true rfl) dX12_writeSlide_26 ⟨Nat.le_of_ble_eq_true rfl, Nat.le_of_ble_eq_true rfl⟩) hP hD hS hA [0, 1, 2, 3, 4, 5, 6, 7] [] rfl rfl (by decide) (by decide) (fun H locs hP hD hS => ?_)
    refine lv_aload_n hx hb dX12_writeSlide_29 rfl (lv_at hl 0 rfl) ?_
    refine lv_bipush (v := 109) hx hb dX12_writeSlide_30 (by decide) ?_
    obtain ⟨a_7, x_8, hc8, hf⟩ := sf_c2e hf
    refine k_Mv (wr := []) (run_MV (As := [.int (109 : Int32)]) (rest := []) ⟨hx, hb, hml, hown, ha⟩ (c_X12_says l D dA h0 h1 h2 h3 h4 h5 h6 h7 _ ms mb mv mi mp mn x_3 a_5 x_6 mI mL mA mW mE mF mc mM (109 : Int32) _ _ hc8) (gi_V m_2036 m_2038 m_63 m_85 m_2039) yd_X12_says ⟨Nat.le_of_ble_eq_true rfl, Nat.le_of_ble_eq_true rfl⟩ ⟨rfl, rfl⟩ hK hP hD [0, 1, 2, 3, 4, 5, 6, 7] (by decide) rfl 0 10 rfl rfl rfl rfl hl.1 rfl (Nat.le_of_ble_eq_true rfl) dX12_writeSlide_32 ⟨Nat.le_of_ble_eq_true rfl, Nat.le_of_ble_eq_true rfl⟩) hP hD hS hA [0, 1, 2, 3, 4, 5, 6, 7] [] rfl rfl (by decide) (by decide) (fun H locs hP hD hS => ?_)
    refine lv_aload_n hx hb dX12_writeSlide_35 rfl (lv_at hl 0 rfl) ?_
    refine lv_aload_n hx hb dX12_writeSlide_36 rfl (lv_at hl 0 rfl) ?_
    refine lv_iload_n hx hb dX12_writeSlide_37 rfl (lv_at hl 1 rfl) ?_
    refine lv_iconst (v := 1) hx hb dX12_writeSlide_38 (by decide) ?_
    obtain ⟨r_9, hc9, hf⟩ := sf_c1e hf
    refine k_Pi (run_PV (As := [.int p0, .int (1 : Int32)]) (rest := [.ref h0]) ⟨hx, hb, hml, hown, ha⟩ (c_X12_slide l D dA h0 h1 h2 h3 h4 h5 h6 h7  ms mb mv mi mp mn x_3 a_7 x_8 mI mL mA mW mE mF mc mM p0 (1 : Int32) _ hc9) (gi_V m_1761 m_1763 m_40 m_85 m_1764) yd_X12_slide ⟨Nat.le_of_ble_eq_true rfl, Nat.le_of_ble_eq_true rfl⟩ ⟨rfl, rfl⟩ hK hP [0, 1, 2, 3, 4, 5, 6, 7] rfl 0 10 rfl rfl rfl rfl hl.1 rfl (Nat.le_of_ble_eq_true rfl) dX12_writeSlide_39 ⟨Nat.le_of_ble_eq_true rfl, Nat.le_of_ble_eq_true rfl⟩) hP hS (fun H locs hP hS => ?_)
    obtain ⟨a_10, x_11, hc11, hf⟩ := sf_c2e hf
    refine k_Mv (wr := []) (run_MV (As := [.int r_9]) (rest := []) ⟨hx, hb, hml, hown, ha⟩ (c_X12_saysNumber_7 l D dA h0 h1 h2 h3 h4 h5 h6 h7 _ ms mb mv mi mp mn x_3 a_7 x_8 mI mL mA mW mE mF mc mM r_9 _ _ hc11) (gi_V m_2032 m_2034 m_62 m_85 m_2035) yd_X12_saysNumber_7 ⟨Nat.le_of_ble_eq_true rfl, Nat.le_of_ble_eq_true rfl⟩ ⟨rfl, rfl⟩ hK hP hD [0, 1, 2, 3, 4, 5, 6, 7] (by decide) rfl 0 10 rfl rfl rfl rfl hl.1 rfl (Nat.le_of_ble_eq_true rfl) dX12_writeSlide_42 ⟨Nat.le_of_ble_eq_true rfl, Nat.le_of_ble_eq_true rfl⟩) hP hD hS hA [0, 1, 2, 3, 4, 5, 6, 7] [] rfl rfl (by decide) (by decide) (fun H locs hP hD hS => ?_)
    refine lv_aload_n hx hb dX12_writeSlide_45 rfl (lv_at hl 0 rfl) ?_
    refine lv_bipush (v := 99) hx hb dX12_writeSlide_46 (by decide) ?_
    obtain ⟨a_12, x_13, hc13, hf⟩ := sf_c2e hf
    refine k_Mv (wr := []) (run_MV (As := [.int (99 : Int32)]) (rest := []) ⟨hx, hb, hml, hown, ha⟩ (c_X12_says l D dA h0 h1 h2 h3 h4 h5 h6 h7 _ ms mb mv mi mp mn x_3 a_10 x_11 mI mL mA mW mE mF mc mM (99 : Int32) _ _ hc13) (gi_V m_2036 m_2038 m_63 m_85 m_2039) yd_X12_says ⟨Nat.le_of_ble_eq_true rfl, Nat.le_of_ble_eq_true rfl⟩ ⟨rfl, rfl⟩ hK hP hD [0, 1, 2, 3, 4, 5, 6, 7] (by decide) rfl 0 10 rfl rfl rfl rfl hl.1 rfl (Nat.le_of_ble_eq_true rfl) dX12_writeSlide_48 ⟨Nat.le_of_ble_eq_true rfl, Nat.le_of_ble_eq_true rfl⟩) hP hD hS hA [0, 1, 2, 3, 4, 5, 6, 7] [] rfl rfl (by decide) (by decide) (fun H locs hP hD hS => ?_)
    refine lv_aload_n hx hb dX12_writeSlide_51 rfl (lv_at hl 0 rfl) ?_
    refine lv_aload_n hx hb dX12_writeSlide_52 rfl (lv_at hl 0 rfl) ?_
    refine lv_iload_n hx hb dX12_writeSlide_53 rfl (lv_at hl 1 rfl) ?_
    refine lv_iconst (v := 2) hx hb dX12_writeSlide_54 (by decide) ?_
    obtain ⟨r_14, hc14, hf⟩ := sf_c1e hf
    refine k_Pi (run_PV (As := [.int p0, .int (2 : Int32)]) (rest := [.ref h0]) ⟨hx, hb, hml, hown, ha⟩ (c_X12_slide l D dA h0 h1 h2 h3 h4 h5 h6 h7  ms mb mv mi mp mn x_3 a_12 x_13 mI mL mA mW mE mF mc mM p0 (2 : Int32) _ hc14) (gi_V m_1761 m_1763 m_40 m_85 m_1764) yd_X12_slide ⟨Nat.le_of_ble_eq_true rfl, Nat.le_of_ble_eq_true rfl⟩ ⟨rfl, rfl⟩ hK hP [0, 1, 2, 3, 4, 5, 6, 7] rfl 0 10 rfl rfl rfl rfl hl.1 rfl (Nat.le_of_ble_eq_true rfl) dX12_writeSlide_55 ⟨Nat.le_of_ble_eq_true rfl, Nat.le_of_ble_eq_true rfl⟩) hP hS (fun H locs hP hS => ?_)
    obtain ⟨a_15, x_16, hc16, hf⟩ := sf_c2e hf
    refine k_Mv (wr := []) (run_MV (As := [.int r_14]) (rest := []) ⟨hx, hb, hml, hown, ha⟩ (c_X12_saysNumber_7 l D dA h0 h1 h2 h3 h4 h5 h6 h7 _ ms mb mv mi mp mn x_3 a_12 x_13 mI mL mA mW mE mF mc mM r_14 _ _ hc16) (gi_V m_2032 m_2034 m_62 m_85 m_2035) yd_X12_saysNumber_7 ⟨Nat.le_of_ble_eq_true rfl, Nat.le_of_ble_eq_true rfl⟩ ⟨rfl, rfl⟩ hK hP hD [0, 1, 2, 3, 4, 5, 6, 7] (by decide) rfl 0 10 rfl rfl rfl rfl hl.1 rfl (Nat.le_of_ble_eq_true rfl) dX12_writeSlide_58 ⟨Nat.le_of_ble_eq_true rfl, Nat.le_of_ble_eq_true rfl⟩) hP hD hS hA [0, 1, 2, 3, 4, 5, 6, 7] [] rfl rfl (by decide) (by decide) (fun H locs hP hD hS => ?_)
    refine lv_aload_n hx hb dX12_writeSlide_61 rfl (lv_at hl 0 rfl) ?_
    refine lv_bipush (v := 119) hx hb dX12_writeSlide_62 (by decide) ?_
    obtain ⟨a_17, x_18, hc18, hf⟩ := sf_c2e hf
    refine k_Mv (wr := []) (run_MV (As := [.int (119 : Int32)]) (rest := []) ⟨hx, hb, hml, hown, ha⟩ (c_X12_says l D dA h0 h1 h2 h3 h4 h5 h6 h7 _ ms mb mv mi mp mn x_3 a_15 x_16 mI mL mA mW mE mF mc mM (119 : Int32) _ _ hc18) (gi_V m_2036 m_2038 m_63 m_85 m_2039) yd_X12_says ⟨Nat.le_of_ble_eq_true rfl, Nat.le_of_ble_eq_true rfl⟩ ⟨rfl, rfl⟩ hK hP hD [0, 1, 2, 3, 4, 5, 6, 7] (by decide) rfl 0 10 rfl rfl rfl rfl hl.1 rfl (Nat.le_of_ble_eq_true rfl) dX12_writeSlide_64 ⟨Nat.le_of_ble_eq_true rfl, Nat.le_of_ble_eq_true rfl⟩) hP hD hS hA [0, 1, 2, 3, 4, 5, 6, 7] [] rfl rfl (by decide) (by decide) (fun H locs hP hD hS => ?_)
    refine lv_iconst (v := 0) hx hb dX12_writeSlide_67 (by decide) ?_
    refine lv_istore_n (lv' := [(2, .int (0 : Int32)), (0, .ref h0), (1, .int p0)]) hx hb dX12_writeSlide_68 rfl hl (by decide) rfl (fun ls hl => ?_)
    have hL69 : ∀ (n : Nat) (k : Int32 → (Nat → Int32) → Option (Int32 × Int32 × (Nat → Int32) × Int32)) (v_19 : Int32) (v_20 : Int32) (w_21 : (Nat → Int32)) (H : Heap) (locs : List Loc) (ls : Array Slot), va_P D cls [(h0, .inr (10, [.ref h1, .ref h2, .ref h3, .int mi, .ref h4, .int mn, .int x_3, .ref h5, .int v_20, .ref h6, .int mL, .int mA, .int mW, .int mE, .int mF, .ref h7, .int mM])), (h1, .inl (dA 0, 158, .inl ms)), (h2, .inl (dA 0, 158, .inl mb)), (h3, .inl (dA 0, 158, .inl mv)), (h4, .inl (dA 0, 1264, .inl mp)), (h5, .inl (dA 1, 180, .inl w_21)), (h6, .inl (dA 1, 60, .inl mI)), (h7, .inl (dA 0, 240, .inl mc))] H → va_D A [(h0, .inr (10, [.ref h1, .ref h2, .ref h3, .int mi, .ref h4, .int mn, .int x_3, .ref h5, .int v_20, .ref h6, .int mL, .int mA, .int mW, .int mE, .int mF, .ref h7, .int mM])), (h1, .inl (dA 0, 158, .inl ms)), (h2, .inl (dA 0, 158, .inl mb)), (h3, .inl (dA 0, 158, .inl mv)), (h4, .inl (dA 0, 1264, .inl mp)), (h5, .inl (dA 1, 180, .inl w_21)), (h6, .inl (dA 1, 60, .inl mI)), (h7, .inl (dA 0, 240, .inl mc))] → va_S A s.heap H locs → lv_has ls 4 [(2, .int v_19), (0, .ref h0), (1, .int p0)] → f_X12_writeSlide_L69 ms p0 k n v_19 v_20 w_21 = some (rr, q_mt, q_mo, q_mO) → (∀ (y_36 : Int32) (z_37 : (Nat → Int32)) (H : Heap) (locs : List Loc) (ls : Array Slot), va_P D cls [(h0, .inr (10, [.ref h1, .ref h2, .ref h3, .int mi, .ref h4, .int mn, .int x_3, .ref h5, .int y_36, .ref h6, .int mL, .int mA, .int mW, .int mE, .int mF, .ref h7, .int mM])), (h1, .inl (dA 0, 158, .inl ms)), (h2, .inl (dA 0, 158, .inl mb)), (h3, .inl (dA 0, 158, .inl mv)), (h4, .inl (dA 0, 1264, .inl mp)), (h5, .inl (dA 1, 180, .inl z_37)), (h6, .inl (dA 1, 60, .inl mI)), (h7, .inl (dA 0, 240, .inl mc))] H → va_D A [(h0, .inr (10, [.ref h1, .ref h2, .ref h3, .int mi, .ref h4, .int mn, .int x_3, .ref h5, .int y_36, .ref h6, .int mL, .int mA, .int mW, .int mE, .int mF, .ref h7, .int mM])), (h1, .inl (dA 0, 158, .inl ms)), (h2, .inl (dA 0, 158, .inl mb)), (h3, .inl (dA 0, 158, .inl mv)), (h4, .inl (dA 0, 1264, .inl mp)), (h5, .inl (dA 1, 180, .inl z_37)), (h6, .inl (dA 1, 60, .inl mI)), (h7, .inl (dA 0, 240, .inl mc))] → va_S A s.heap H locs → lv_has ls 4 [(0, .ref h0)] → k y_36 z_37 = some (rr, q_mt, q_mo, q_mO) → W p l e ({ frames := 9, cells := 0, slots := 0, locals := 189 } : Room) s m ([.ref h0, .int p0] : List Value).toArray below meth c H locs 0 0 (MQ below (poMi D rr [(h0, .inr (10, [.ref h1, .ref h2, .ref h3, .int mi, .ref h4, .int mn, .int q_mt, .ref h5, .int q_mO, .ref h6, .int mL, .int mA, .int mW, .int mE, .int mF, .ref h7, .int mM])), (h1, .inl (dA 0, 158, .inl ms)), (h2, .inl (dA 0, 158, .inl mb)), (h3, .inl (dA 0, 158, .inl mv)), (h4, .inl (dA 0, 1264, .inl mp)), (h5, .inl (dA 1, 180, .inl q_mo)), (h6, .inl (dA 1, 60, .inl mI)), (h7, .inl (dA 0, 240, .inl mc))] A) ([.ref h0, .int p0] : List Value).toArray s 0 0 A) (F0 m 132 ls [])) → W p l e ({ frames := 9, cells := 0, slots := 0, locals := 189 } : Room) s m ([.ref h0, .int p0] : List Value).toArray below meth c H locs 0 0 (MQ below (poMi D rr [(h0, .inr (10, [.ref h1, .ref h2, .ref h3, .int mi, .ref h4, .int mn, .int q_mt, .ref h5, .int q_mO, .ref h6, .int mL, .int mA, .int mW, .int mE, .int mF, .ref h7, .int mM])), (h1, .inl (dA 0, 158, .inl ms)), (h2, .inl (dA 0, 158, .inl mb)), (h3, .inl (dA 0, 158, .inl mv)), (h4, .inl (dA 0, 1264, .inl mp)), (h5, .inl (dA 1, 180, .inl q_mo)), (h6, .inl (dA 1, 60, .inl mI)), (h7, .inl (dA 0, 240, .inl mc))] A) ([.ref h0, .int p0] : List Value).toArray s 0 0 A) (F0 m 69 ls []) := by
      intro n k
      induction n with
      | zero =>
        intro v_19 v_20 w_21 H locs ls hP hD hS hl hf hk
        rw [f_X12_writeSlide_L69] at hf
        cases hf
      | succ n ih =>
        intro v_19 v_20 w_21 H locs ls hP hD hS hl hf hk
        rw [f_X12_writeSlide_L69] at hf
        refine lv_iload_n hx hb dX12_writeSlide_69 rfl (lv_at hl 0 rfl) ?_
        refine lv_aload_n hx hb dX12_writeSlide_70 rfl (lv_at hl 1 rfl) ?_
        refine gt_f (C := RX12) (T := TX12) (N := 17) hx hb ha in_X12 hown hK hP 0 rfl rfl 0 (by decide) m_1649 rfl dX12_writeSlide_71 ?_
        refine lv_iconst (v := 2) hx hb dX12_writeSlide_74 (by decide) ?_
        obtain ⟨hi, hf⟩ := sf_ge hf
        refine ia_ld hx hb hK hP 1 rfl hi dX12_writeSlide_75 ?_
        refine lv_icmp_ge (tgt := 132) hx hb dX12_writeSlide_76 (by decide) (fun hc => ?_) (fun hc => ?_)
        · have hf := sf_bp hf hc
          exact hk _ _ _ _ _ (hP.sub [0, 1, 2, 3, 4, 5, 6, 7] rfl) (hD.sub [0, 1, 2, 3, 4, 5, 6, 7] (by decide) rfl) hS (lv_sub hl [1] rfl) hf
        · have hf := sf_bn hf hc
          refine lv_aload_n hx hb dX12_writeSlide_79 rfl (lv_at hl 1 rfl) ?_
          refine lv_iload_n hx hb dX12_writeSlide_80 rfl (lv_at hl 0 rfl) ?_
          obtain ⟨r_22, hc22, hf⟩ := sf_c1e hf
          refine k_Pi (run_PV (As := [.int v_19]) (rest := []) ⟨hx, hb, hml, hown, ha⟩ (c_X12_ranked l D dA h0 h1 h2 h3 h4 h5 h6 h7  ms mb mv mi mp mn x_3 w_21 v_20 mI mL mA mW mE mF mc mM v_19 _ hc22) (gi_V m_1927 m_1929 m_60 m_85 m_1930) yd_X12_ranked ⟨Nat.le_of_ble_eq_true rfl, Nat.le_of_ble_eq_true rfl⟩ ⟨rfl, rfl⟩ hK hP [0, 1, 2, 3, 4, 5, 6, 7] rfl 0 10 rfl rfl rfl rfl hl.1 rfl (Nat.le_of_ble_eq_true rfl) dX12_writeSlide_81 ⟨Nat.le_of_ble_eq_true rfl, Nat.le_of_ble_eq_true rfl⟩) hP hS (fun H locs hP hS => ?_)
          refine lv_istore_n (lv' := [(3, .int r_22), (2, .int v_19), (0, .ref h0), (1, .int p0)]) hx hb dX12_writeSlide_84 rfl hl (by decide) rfl (fun ls hl => ?_)
          refine lv_aload_n hx hb dX12_writeSlide_85 rfl (lv_at hl 2 rfl) ?_
          refine lv_iload_n hx hb dX12_writeSlide_86 rfl (lv_at hl 0 rfl) ?_
          refine lv_iconst (v := 1) hx hb dX12_writeSlide_87 (by decide) ?_
          obtain ⟨r_23, hc23, hf⟩ := sf_c1e hf
          refine k_Pi (run_PV (As := [.int r_22, .int (1 : Int32)]) (rest := []) ⟨hx, hb, hml, hown, ha⟩ (c_X12_booking l D dA h0 h1 h2 h3 h4 h5 h6 h7  ms mb mv mi mp mn x_3 w_21 v_20 mI mL mA mW mE mF mc mM r_22 (1 : Int32) _ hc23) (gi_V m_1769 m_1771 m_42 m_85 m_1772) yd_X12_booking ⟨Nat.le_of_ble_eq_true rfl, Nat.le_of_ble_eq_true rfl⟩ ⟨rfl, rfl⟩ hK hP [0, 1, 2, 3, 4, 5, 6, 7] rfl 0 10 rfl rfl rfl rfl hl.1 rfl (Nat.le_of_ble_eq_true rfl) dX12_writeSlide_88 ⟨Nat.le_of_ble_eq_true rfl, Nat.le_of_ble_eq_true rfl⟩) hP hS (fun H locs hP hS => ?_)
          refine lv_iload_n hx hb dX12_writeSlide_91 rfl (lv_at hl 3 rfl) ?_
          refine lv_icmp_ne (tgt := 126) hx hb dX12_writeSlide_92 (by decide) (fun hc => ?_) (fun hc => ?_)
          · have hf := sf_bn hf hc
            obtain ⟨x_24, ex_24, hf⟩ := sf_ne hf
            refine ii_nc (lv' := [(2, .int x_24), (3, .int r_22), (0, .ref h0), (1, .int p0)]) (k := 1) hx hb dX12_writeSlide_126 hl rfl ex_24 (by decide) (by decide) rfl (fun ls hl => ?_)
            refine lv_goto (tgt := 69) hx hb dX12_writeSlide_129 (by decide) ?_
            exact ih _ _ _ _ _ _ (hP.sub [0, 1, 2, 3, 4, 5, 6, 7] rfl) (hD.sub [0, 1, 2, 3, 4, 5, 6, 7] (by decide) rfl) hS (lv_sub hl [0, 2, 3] rfl) hf hk
          · have hf := sf_bp hf hc
            refine lv_aload_n hx hb dX12_writeSlide_95 rfl (lv_at hl 2 rfl) ?_
            refine lv_bipush (v := 32) hx hb dX12_writeSlide_96 (by decide) ?_
            obtain ⟨a_25, x_26, hc26, hf⟩ := sf_c2e hf
            refine k_Mv (wr := []) (run_MV (As := [.int (32 : Int32)]) (rest := []) ⟨hx, hb, hml, hown, ha⟩ (c_X12_says l D dA h0 h1 h2 h3 h4 h5 h6 h7 _ ms mb mv mi mp mn x_3 w_21 v_20 mI mL mA mW mE mF mc mM (32 : Int32) _ _ hc26) (gi_V m_2036 m_2038 m_63 m_85 m_2039) yd_X12_says ⟨Nat.le_of_ble_eq_true rfl, Nat.le_of_ble_eq_true rfl⟩ ⟨rfl, rfl⟩ hK hP hD [0, 1, 2, 3, 4, 5, 6, 7] (by decide) rfl 0 10 rfl rfl rfl rfl hl.1 rfl (Nat.le_of_ble_eq_true rfl) dX12_writeSlide_98 ⟨Nat.le_of_ble_eq_true rfl, Nat.le_of_ble_eq_true rfl⟩) hP hD hS hA [0, 1, 2, 3, 4, 5, 6, 7] [] rfl rfl (by decide) (by decide) (fun H locs hP hD hS => ?_)
            refine lv_aload_n hx hb dX12_writeSlide_101 rfl (lv_at hl 2 rfl) ?_
            refine lv_aload_n hx hb dX12_writeSlide_102 rfl (lv_at hl 2 rfl) ?_
            refine lv_iload_n hx hb dX12_writeSlide_103 rfl (lv_at hl 0 rfl) ?_
            refine lv_iconst (v := 0) hx hb dX12_writeSlide_104 (by decide) ?_
            obtain ⟨r_27, hc27, hf⟩ := sf_c1e hf
            refine k_Pi (run_PV (As := [.int r_22, .int (0 : Int32)]) (rest := [.ref h0]) ⟨hx, hb, hml, hown, ha⟩ (c_X12_booking l D dA h0 h1 h2 h3 h4 h5 h6 h7  ms mb mv mi mp mn x_3 a_25 x_26 mI mL mA mW mE mF mc mM r_22 (0 : Int32) _ hc27) (gi_V m_1769 m_1771 m_42 m_85 m_1772) yd_X12_booking ⟨Nat.le_of_ble_eq_true rfl, Nat.le_of_ble_eq_true rfl⟩ ⟨rfl, rfl⟩ hK hP [0, 1, 2, 3, 4, 5, 6, 7] rfl 0 10 rfl rfl rfl rfl hl.1 rfl (Nat.le_of_ble_eq_true rfl) dX12_writeSlide_105 ⟨Nat.le_of_ble_eq_true rfl, Nat.le_of_ble_eq_true rfl⟩) hP hS (fun H locs hP hS => ?_)
            obtain ⟨a_28, x_29, hc29, hf⟩ := sf_c2e hf
            refine k_Mv (wr := []) (run_MV (As := [.int r_27]) (rest := []) ⟨hx, hb, hml, hown, ha⟩ (c_X12_saysNumber_7 l D dA h0 h1 h2 h3 h4 h5 h6 h7 _ ms mb mv mi mp mn x_3 a_25 x_26 mI mL mA mW mE mF mc mM r_27 _ _ hc29) (gi_V m_2032 m_2034 m_62 m_85 m_2035) yd_X12_saysNumber_7 ⟨Nat.le_of_ble_eq_true rfl, Nat.le_of_ble_eq_true rfl⟩ ⟨rfl, rfl⟩ hK hP hD [0, 1, 2, 3, 4, 5, 6, 7] (by decide) rfl 0 10 rfl rfl rfl rfl hl.1 rfl (Nat.le_of_ble_eq_true rfl) dX12_writeSlide_108 ⟨Nat.le_of_ble_eq_true rfl, Nat.le_of_ble_eq_true rfl⟩) hP hD hS hA [0, 1, 2, 3, 4, 5, 6, 7] [] rfl rfl (by decide) (by decide) (fun H locs hP hD hS => ?_)
            refine lv_aload_n hx hb dX12_writeSlide_111 rfl (lv_at hl 2 rfl) ?_
            refine lv_bipush (v := 64) hx hb dX12_writeSlide_112 (by decide) ?_
            obtain ⟨a_30, x_31, hc31, hf⟩ := sf_c2e hf
            refine k_Mv (wr := []) (run_MV (As := [.int (64 : Int32)]) (rest := []) ⟨hx, hb, hml, hown, ha⟩ (c_X12_says l D dA h0 h1 h2 h3 h4 h5 h6 h7 _ ms mb mv mi mp mn x_3 a_28 x_29 mI mL mA mW mE mF mc mM (64 : Int32) _ _ hc31) (gi_V m_2036 m_2038 m_63 m_85 m_2039) yd_X12_says ⟨Nat.le_of_ble_eq_true rfl, Nat.le_of_ble_eq_true rfl⟩ ⟨rfl, rfl⟩ hK hP hD [0, 1, 2, 3, 4, 5, 6, 7] (by decide) rfl 0 10 rfl rfl rfl rfl hl.1 rfl (Nat.le_of_ble_eq_true rfl) dX12_writeSlide_114 ⟨Nat.le_of_ble_eq_true rfl, Nat.le_of_ble_eq_true rfl⟩) hP hD hS hA [0, 1, 2, 3, 4, 5, 6, 7] [] rfl rfl (by decide) (by decide) (fun H locs hP hD hS => ?_)
            refine lv_aload_n hx hb dX12_writeSlide_117 rfl (lv_at hl 2 rfl) ?_
            refine lv_aload_n hx hb dX12_writeSlide_118 rfl (lv_at hl 2 rfl) ?_
            refine lv_iload_n hx hb dX12_writeSlide_119 rfl (lv_at hl 0 rfl) ?_
            obtain ⟨r_32, hc32, hf⟩ := sf_c1e hf
            refine k_Pi (run_PV (As := [.int r_22]) (rest := [.ref h0]) ⟨hx, hb, hml, hown, ha⟩ (c_X12_startOf l D dA h0 h1 h2 h3 h4 h5 h6 h7  ms mb mv mi mp mn x_3 a_30 x_31 mI mL mA mW mE mF mc mM r_22 _ hc32) (gi_V m_1773 m_1775 m_43 m_85 m_1776) yd_X12_startOf ⟨Nat.le_of_ble_eq_true rfl, Nat.le_of_ble_eq_true rfl⟩ ⟨rfl, rfl⟩ hK hP [0, 1, 2, 3, 4, 5, 6, 7] rfl 0 10 rfl rfl rfl rfl hl.1 rfl (Nat.le_of_ble_eq_true rfl) dX12_writeSlide_120 ⟨Nat.le_of_ble_eq_true rfl, Nat.le_of_ble_eq_true rfl⟩) hP hS (fun H locs hP hS => ?_)
            obtain ⟨a_33, x_34, hc34, hf⟩ := sf_c2e hf
            refine k_Mv (wr := []) (run_MV (As := [.int r_32]) (rest := []) ⟨hx, hb, hml, hown, ha⟩ (c_X12_saysNumber_7 l D dA h0 h1 h2 h3 h4 h5 h6 h7 _ ms mb mv mi mp mn x_3 a_30 x_31 mI mL mA mW mE mF mc mM r_32 _ _ hc34) (gi_V m_2032 m_2034 m_62 m_85 m_2035) yd_X12_saysNumber_7 ⟨Nat.le_of_ble_eq_true rfl, Nat.le_of_ble_eq_true rfl⟩ ⟨rfl, rfl⟩ hK hP hD [0, 1, 2, 3, 4, 5, 6, 7] (by decide) rfl 0 10 rfl rfl rfl rfl hl.1 rfl (Nat.le_of_ble_eq_true rfl) dX12_writeSlide_123 ⟨Nat.le_of_ble_eq_true rfl, Nat.le_of_ble_eq_true rfl⟩) hP hD hS hA [0, 1, 2, 3, 4, 5, 6, 7] [] rfl rfl (by decide) (by decide) (fun H locs hP hD hS => ?_)
            obtain ⟨x_35, ex_35, hf⟩ := sf_ne hf
            refine ii_nc (lv' := [(2, .int x_35), (3, .int r_22), (0, .ref h0), (1, .int p0)]) (k := 1) hx hb dX12_writeSlide_126 hl rfl ex_35 (by decide) (by decide) rfl (fun ls hl => ?_)
            refine lv_goto (tgt := 69) hx hb dX12_writeSlide_129 (by decide) ?_
            exact ih _ _ _ _ _ _ (hP.sub [0, 1, 2, 3, 4, 5, 6, 7] rfl) (hD.sub [0, 1, 2, 3, 4, 5, 6, 7] (by decide) rfl) hS (lv_sub hl [0, 2, 3] rfl) hf hk
    refine hL69 _ _ _ _ _ _ _ _ hP hD hS (lv_sub hl [0, 1, 2] rfl) hf (fun y_36 z_37 H locs ls hP hD hS hl hf => ?_)
    refine lv_aload_n hx hb dX12_writeSlide_132 rfl (lv_at hl 0 rfl) ?_
    refine gt_f (C := RX12) (T := TX12) (N := 17) hx hb ha in_X12 hown hK hP 0 rfl rfl 8 (by decide) m_1657 rfl dX12_writeSlide_133 ?_
    cases hf
    exact rt_Mi hx hb hr hlocks (hP.sub [0, 1, 2, 3, 4, 5, 6, 7] rfl) (hD.sub [0, 1, 2, 3, 4, 5, 6, 7] (by decide) rfl) hS dX12_writeSlide_136
  · have hf := sf_bp hf hc
    refine lv_iconst (v := 0) hx hb dX12_writeSlide_12 (by decide) ?_
    cases hf
    exact rt_Mi hx hb hr hlocks (hP.sub [0, 1, 2, 3, 4, 5, 6, 7] rfl) (hD.sub [0, 1, 2, 3, 4, 5, 6, 7] (by decide) rfl) hS dX12_writeSlide_13

def f_X12_outputChar (mt : Int32) (mo : Nat → Int32) (mO : Int32) (p0 : Int32) : Option (Int32 × Int32) :=
  sf_c1 (f_X12_in p0 (0 : Int32) (mO - (1 : Int32))) (fun r_1 => sf_c2 (f_X12_isThere mt r_1) (fun r_2 x_3 => sf_b (r_2 = (0 : Int32)) (sf_g (((32 : Int32).toUInt32 % 65536).toInt32 = (32 : Int32)) (some ((32 : Int32), x_3))) (sf_g (sf_in p0 180 = true) (sf_g (((mo p0.toNatClampNeg).toUInt32 % 65536).toInt32 = (mo p0.toNatClampNeg)) (some ((mo p0.toNatClampNeg), x_3))))))
theorem yd_X12_outputChar : yX12_outputChar.cls = RX12 ∧ yX12_outputChar.cls ≠ "java/lang/invoke/MethodHandle" ∧ yX12_outputChar.cls ≠ "java/lang/invoke/VarHandle" ∧ (parseMethodDescriptor yX12_outputChar.desc).map (fun d => d.parameters.length) = some 1 := ⟨rfl, by decide, by decide, by decide +kernel⟩
set_option maxRecDepth 100000 in
set_option maxHeartbeats 4000000 in
theorem c_X12_outputChar (l : Launch) (D : va_G) (dA : Nat → ClassId) (h0 h1 h2 h3 h4 h5 h6 h7 : Nat) (sz : Nat) (ms : Nat → Int32) (mb : Nat → Int32) (mv : Nat → Int32) (mi : Int32) (mp : Nat → Int32) (mn : Int32) (mt : Int32) (mo : Nat → Int32) (mO : Int32) (mI : Nat → Int32) (mL : Int32) (mA : Int32) (mW : Int32) (mE : Int32) (mF : Int32) (mc : Nat → Int32) (mM : Int32) (p0 : Int32) (rr : Int32) (q_mt : Int32) (hf : f_X12_outputChar mt mo mO p0 = some (rr, q_mt)) : Met l yX12_outputChar (wo (.code yX12_outputChar cX12_outputChar 2 (some .char))) ({ frames := 1, cells := 0, slots := 0, locals := 22 } : Room) (preM D dA [.ref h0, .int p0] sz [(h0, .inr (10, [.ref h1, .ref h2, .ref h3, .int mi, .ref h4, .int mn, .int mt, .ref h5, .int mO, .ref h6, .int mL, .int mA, .int mW, .int mE, .int mF, .ref h7, .int mM])), (h1, .inl (dA 0, 158, .inl ms)), (h2, .inl (dA 0, 158, .inl mb)), (h3, .inl (dA 0, 158, .inl mv)), (h4, .inl (dA 0, 1264, .inl mp)), (h5, .inl (dA 1, 180, .inl mo)), (h6, .inl (dA 1, 60, .inl mI)), (h7, .inl (dA 0, 240, .inl mc))]) (poMi D rr [(h0, .inr (10, [.ref h1, .ref h2, .ref h3, .int mi, .ref h4, .int mn, .int q_mt, .ref h5, .int mO, .ref h6, .int mL, .int mA, .int mW, .int mE, .int mF, .ref h7, .int mM])), (h1, .inl (dA 0, 158, .inl ms)), (h2, .inl (dA 0, 158, .inl mb)), (h3, .inl (dA 0, 158, .inl mv)), (h4, .inl (dA 0, 1264, .inl mp)), (h5, .inl (dA 1, 180, .inl mo)), (h6, .inl (dA 1, 60, .inl mI)), (h7, .inl (dA 0, 240, .inl mc))] (va_A [(h0, .inr (10, [.ref h1, .ref h2, .ref h3, .int mi, .ref h4, .int mn, .int mt, .ref h5, .int mO, .ref h6, .int mL, .int mA, .int mW, .int mE, .int mF, .ref h7, .int mM])), (h1, .inl (dA 0, 158, .inl ms)), (h2, .inl (dA 0, 158, .inl mb)), (h3, .inl (dA 0, 158, .inl mv)), (h4, .inl (dA 0, 1264, .inl mp)), (h5, .inl (dA 1, 180, .inl mo)), (h6, .inl (dA 1, 60, .inl mI)), (h7, .inl (dA 0, 240, .inl mc))] sz)) 0 0 (va_A [(h0, .inr (10, [.ref h1, .ref h2, .ref h3, .int mi, .ref h4, .int mn, .int mt, .ref h5, .int mO, .ref h6, .int mL, .int mA, .int mW, .int mE, .int mF, .ref h7, .int mM])), (h1, .inl (dA 0, 158, .inl ms)), (h2, .inl (dA 0, 158, .inl mb)), (h3, .inl (dA 0, 158, .inl mv)), (h4, .inl (dA 0, 1264, .inl mp)), (h5, .inl (dA 1, 180, .inl mo)), (h6, .inl (dA 1, 60, .inl mI)), (h7, .inl (dA 0, 240, .inl mc))] sz) := by
  refine of_M (y := yX12_outputChar) (av := [.ref h0, .int p0]) (ws := [(h0, .inr (10, [.ref h1, .ref h2, .ref h3, .int mi, .ref h4, .int mn, .int mt, .ref h5, .int mO, .ref h6, .int mL, .int mA, .int mW, .int mE, .int mF, .ref h7, .int mM])), (h1, .inl (dA 0, 158, .inl ms)), (h2, .inl (dA 0, 158, .inl mb)), (h3, .inl (dA 0, 158, .inl mv)), (h4, .inl (dA 0, 1264, .inl mp)), (h5, .inl (dA 1, 180, .inl mo)), (h6, .inl (dA 1, 60, .inl mI)), (h7, .inl (dA 0, 240, .inl mc))]) (sz := sz) (own := RX12) (Qc := poMi D rr [(h0, .inr (10, [.ref h1, .ref h2, .ref h3, .int mi, .ref h4, .int mn, .int q_mt, .ref h5, .int mO, .ref h6, .int mL, .int mA, .int mW, .int mE, .int mF, .ref h7, .int mM])), (h1, .inl (dA 0, 158, .inl ms)), (h2, .inl (dA 0, 158, .inl mb)), (h3, .inl (dA 0, 158, .inl mv)), (h4, .inl (dA 0, 1264, .inl mp)), (h5, .inl (dA 1, 180, .inl mo)), (h6, .inl (dA 1, 60, .inl mI)), (h7, .inl (dA 0, 240, .inl mc))]) (by decide) rfl (Nat.le_of_ble_eq_true rfl) ?_
  intro p e s m below meth c A hx hb hr ha hown hml hlocks hin hP hK hD hS hA ls hl
  have hl : lv_has ls 2 [(0, .ref h0), (1, .int p0)] := hl
  rw [f_X12_outputChar] at hf
  refine lv_aload_n hx hb dX12_outputChar_0 rfl (lv_at hl 0 rfl) ?_
  refine lv_iload_n hx hb dX12_outputChar_1 rfl (lv_at hl 1 rfl) ?_
  refine lv_iconst (v := 0) hx hb dX12_outputChar_2 (by decide) ?_
  refine lv_aload_n hx hb dX12_outputChar_3 rfl (lv_at hl 0 rfl) ?_
  refine gt_f (C := RX12) (T := TX12) (N := 17) hx hb ha in_X12 hown hK hP 0 rfl rfl 8 (by decide) m_1657 rfl dX12_outputChar_4 ?_
  refine lv_iconst (v := 1) hx hb dX12_outputChar_7 (by decide) ?_
  refine lv_isub hx hb dX12_outputChar_8 ?_
  obtain ⟨r_1, hc1, hf⟩ := sf_c1e hf
  refine k_Pi (run_PS (As := [.int p0, .int (0 : Int32), .int (mO - (1 : Int32))]) (rest := [.ref h0]) ⟨hx, hb, hml, hown, ha⟩ (c_X12_in l D dA    p0 (0 : Int32) (mO - (1 : Int32)) _ hc1) (gi_S m_1718 m_1719 m_85 m_1720) yd_X12_in ⟨Nat.le_of_ble_eq_true rfl, Nat.le_of_ble_eq_true rfl⟩ ⟨rfl, rfl⟩ hK hP [] rfl rfl hl.1 rfl (Nat.le_of_ble_eq_true rfl) dX12_outputChar_9 ⟨Nat.le_of_ble_eq_true rfl, Nat.le_of_ble_eq_true rfl⟩) hP hS (fun H locs hP hS => ?_)
  obtain ⟨r_2, x_3, hc3, hf⟩ := sf_c2e hf
  refine k_Mi (wr := []) (run_MV (As := [.int r_1]) (rest := []) ⟨hx, hb, hml, hown, ha⟩ (c_X12_isThere l D dA h0 h1 h2 h3 h4 h5 h6 h7 _ ms mb mv mi mp mn mt mo mO mI mL mA mW mE mF mc mM r_1 _ _ hc3) (gi_V m_1867 m_1869 m_59 m_85 m_1870) yd_X12_isThere ⟨Nat.le_of_ble_eq_true rfl, Nat.le_of_ble_eq_true rfl⟩ ⟨rfl, rfl⟩ hK hP hD [0, 1, 2, 3, 4, 5, 6, 7] (by decide) rfl 0 10 rfl rfl rfl rfl hl.1 rfl (Nat.le_of_ble_eq_true rfl) dX12_outputChar_12 ⟨Nat.le_of_ble_eq_true rfl, Nat.le_of_ble_eq_true rfl⟩) hP hD hS hA [0, 1, 2, 3, 4, 5, 6, 7] [] rfl rfl (by decide) (by decide) (fun H locs hP hD hS => ?_)
  refine lv_if_eq (tgt := 27) hx hb dX12_outputChar_15 (by decide) (fun hc => ?_) (fun hc => ?_)
  · have hf := sf_bp hf hc
    refine lv_bipush (v := 32) hx hb dX12_outputChar_27 (by decide) ?_
    obtain ⟨hz, hf⟩ := sf_ge hf
    cases hf
    exact rt_Mz hx hb hr hlocks (sf_ch hz) (hP.sub [0, 1, 2, 3, 4, 5, 6, 7] rfl) (hD.sub [0, 1, 2, 3, 4, 5, 6, 7] (by decide) rfl) hS dX12_outputChar_29
  · have hf := sf_bn hf hc
    refine lv_aload_n hx hb dX12_outputChar_18 rfl (lv_at hl 0 rfl) ?_
    refine gt_f (C := RX12) (T := TX12) (N := 17) hx hb ha in_X12 hown hK hP 0 rfl rfl 7 (by decide) m_1656 rfl dX12_outputChar_19 ?_
    refine lv_iload_n hx hb dX12_outputChar_22 rfl (lv_at hl 1 rfl) ?_
    obtain ⟨hi, hf⟩ := sf_ge hf
    refine ca_ld hx hb hK hP 5 rfl hi dX12_outputChar_23 ?_
    refine lv_goto (tgt := 29) hx hb dX12_outputChar_24 (by decide) ?_
    obtain ⟨hz, hf⟩ := sf_ge hf
    cases hf
    exact rt_Mz hx hb hr hlocks (sf_ch hz) (hP.sub [0, 1, 2, 3, 4, 5, 6, 7] rfl) (hD.sub [0, 1, 2, 3, 4, 5, 6, 7] (by decide) rfl) hS dX12_outputChar_29

def f_X12_feed (mt : Int32) (mI : Nat → Int32) (mL : Int32) (p0 : Int32) : Option (Int32 × Int32 × (Nat → Int32) × Int32) :=
  sf_b (mL = (60 : Int32)) (some ((0 : Int32), (1 : Int32), mI, mL)) (sf_g (sf_in mL 60 = true) (sf_n (upd mI mL.toNatClampNeg (vp_nar .char p0)) (fun a_1 => sf_n ((mL + (1 : Int32))) (fun x_2 => some (x_2, (0 : Int32), a_1, x_2)))))
theorem yd_X12_feed : yX12_feed.cls = RX12 ∧ yX12_feed.cls ≠ "java/lang/invoke/MethodHandle" ∧ yX12_feed.cls ≠ "java/lang/invoke/VarHandle" ∧ (parseMethodDescriptor yX12_feed.desc).map (fun d => d.parameters.length) = some 1 := ⟨rfl, by decide, by decide, by decide +kernel⟩
set_option maxRecDepth 100000 in
set_option maxHeartbeats 4000000 in
theorem c_X12_feed (l : Launch) (D : va_G) (dA : Nat → ClassId) (h0 h1 h2 h3 h4 h5 h6 h7 : Nat) (sz : Nat) (ms : Nat → Int32) (mb : Nat → Int32) (mv : Nat → Int32) (mi : Int32) (mp : Nat → Int32) (mn : Int32) (mt : Int32) (mo : Nat → Int32) (mO : Int32) (mI : Nat → Int32) (mL : Int32) (mA : Int32) (mW : Int32) (mE : Int32) (mF : Int32) (mc : Nat → Int32) (mM : Int32) (p0 : Int32) (rr : Int32) (q_mt : Int32) (q_mI : Nat → Int32) (q_mL : Int32) (hf : f_X12_feed mt mI mL p0 = some (rr, q_mt, q_mI, q_mL)) : Met l yX12_feed (wo (.code yX12_feed cX12_feed 2 (some .int))) ({ frames := 0, cells := 0, slots := 0, locals := 0 } : Room) (preM D dA [.ref h0, .int p0] sz [(h0, .inr (10, [.ref h1, .ref h2, .ref h3, .int mi, .ref h4, .int mn, .int mt, .ref h5, .int mO, .ref h6, .int mL, .int mA, .int mW, .int mE, .int mF, .ref h7, .int mM])), (h1, .inl (dA 0, 158, .inl ms)), (h2, .inl (dA 0, 158, .inl mb)), (h3, .inl (dA 0, 158, .inl mv)), (h4, .inl (dA 0, 1264, .inl mp)), (h5, .inl (dA 1, 180, .inl mo)), (h6, .inl (dA 1, 60, .inl mI)), (h7, .inl (dA 0, 240, .inl mc))]) (poMi D rr [(h0, .inr (10, [.ref h1, .ref h2, .ref h3, .int mi, .ref h4, .int mn, .int q_mt, .ref h5, .int mO, .ref h6, .int q_mL, .int mA, .int mW, .int mE, .int mF, .ref h7, .int mM])), (h1, .inl (dA 0, 158, .inl ms)), (h2, .inl (dA 0, 158, .inl mb)), (h3, .inl (dA 0, 158, .inl mv)), (h4, .inl (dA 0, 1264, .inl mp)), (h5, .inl (dA 1, 180, .inl mo)), (h6, .inl (dA 1, 60, .inl q_mI)), (h7, .inl (dA 0, 240, .inl mc))] (va_A [(h0, .inr (10, [.ref h1, .ref h2, .ref h3, .int mi, .ref h4, .int mn, .int mt, .ref h5, .int mO, .ref h6, .int mL, .int mA, .int mW, .int mE, .int mF, .ref h7, .int mM])), (h1, .inl (dA 0, 158, .inl ms)), (h2, .inl (dA 0, 158, .inl mb)), (h3, .inl (dA 0, 158, .inl mv)), (h4, .inl (dA 0, 1264, .inl mp)), (h5, .inl (dA 1, 180, .inl mo)), (h6, .inl (dA 1, 60, .inl mI)), (h7, .inl (dA 0, 240, .inl mc))] sz)) 0 0 (va_A [(h0, .inr (10, [.ref h1, .ref h2, .ref h3, .int mi, .ref h4, .int mn, .int mt, .ref h5, .int mO, .ref h6, .int mL, .int mA, .int mW, .int mE, .int mF, .ref h7, .int mM])), (h1, .inl (dA 0, 158, .inl ms)), (h2, .inl (dA 0, 158, .inl mb)), (h3, .inl (dA 0, 158, .inl mv)), (h4, .inl (dA 0, 1264, .inl mp)), (h5, .inl (dA 1, 180, .inl mo)), (h6, .inl (dA 1, 60, .inl mI)), (h7, .inl (dA 0, 240, .inl mc))] sz) := by
  refine of_M (y := yX12_feed) (av := [.ref h0, .int p0]) (ws := [(h0, .inr (10, [.ref h1, .ref h2, .ref h3, .int mi, .ref h4, .int mn, .int mt, .ref h5, .int mO, .ref h6, .int mL, .int mA, .int mW, .int mE, .int mF, .ref h7, .int mM])), (h1, .inl (dA 0, 158, .inl ms)), (h2, .inl (dA 0, 158, .inl mb)), (h3, .inl (dA 0, 158, .inl mv)), (h4, .inl (dA 0, 1264, .inl mp)), (h5, .inl (dA 1, 180, .inl mo)), (h6, .inl (dA 1, 60, .inl mI)), (h7, .inl (dA 0, 240, .inl mc))]) (sz := sz) (own := RX12) (Qc := poMi D rr [(h0, .inr (10, [.ref h1, .ref h2, .ref h3, .int mi, .ref h4, .int mn, .int q_mt, .ref h5, .int mO, .ref h6, .int q_mL, .int mA, .int mW, .int mE, .int mF, .ref h7, .int mM])), (h1, .inl (dA 0, 158, .inl ms)), (h2, .inl (dA 0, 158, .inl mb)), (h3, .inl (dA 0, 158, .inl mv)), (h4, .inl (dA 0, 1264, .inl mp)), (h5, .inl (dA 1, 180, .inl mo)), (h6, .inl (dA 1, 60, .inl q_mI)), (h7, .inl (dA 0, 240, .inl mc))]) (by decide) rfl (Nat.le_of_ble_eq_true rfl) ?_
  intro p e s m below meth c A hx hb hr ha hown hml hlocks hin hP hK hD hS hA ls hl
  have hl : lv_has ls 2 [(0, .ref h0), (1, .int p0)] := hl
  rw [f_X12_feed] at hf
  refine lv_aload_n hx hb dX12_feed_0 rfl (lv_at hl 0 rfl) ?_
  refine lv_aload_n hx hb dX12_feed_1 rfl (lv_at hl 0 rfl) ?_
  refine gt_f (C := RX12) (T := TX12) (N := 17) hx hb ha in_X12 hown hK hP 0 rfl rfl 10 (by decide) m_1659 rfl dX12_feed_2 ?_
  refine lv_bipush (v := 60) hx hb dX12_feed_5 (by decide) ?_
  refine lv_icmp_ne (tgt := 14) hx hb dX12_feed_7 (by decide) (fun hc => ?_) (fun hc => ?_)
  · have hf := sf_bn hf hc
    refine lv_iconst (v := 0) hx hb dX12_feed_14 (by decide) ?_
    refine pt_f (C := RX12) (T := TX12) (N := 17) (ws' := [(h0, .inr (10, [.ref h1, .ref h2, .ref h3, .int mi, .ref h4, .int mn, .int (0 : Int32), .ref h5, .int mO, .ref h6, .int mL, .int mA, .int mW, .int mE, .int mF, .ref h7, .int mM])), (h1, .inl (dA 0, 158, .inl ms)), (h2, .inl (dA 0, 158, .inl mb)), (h3, .inl (dA 0, 158, .inl mv)), (h4, .inl (dA 0, 1264, .inl mp)), (h5, .inl (dA 1, 180, .inl mo)), (h6, .inl (dA 1, 60, .inl mI)), (h7, .inl (dA 0, 240, .inl mc))]) (ty := .int) hx hb ha in_X12 tyX12 tyX12_ok nmX12 hown hK hP hD hS 0 rfl rfl 6 (by decide) m_1655 rfl (tyX12_ok 6 (by decide)) rfl rfl (Nat.le_of_ble_eq_true rfl) rfl dX12_feed_15 (fun H locs hP hD hS => ?_)
    refine lv_aload_n hx hb dX12_feed_18 rfl (lv_at hl 0 rfl) ?_
    refine gt_f (C := RX12) (T := TX12) (N := 17) hx hb ha in_X12 hown hK hP 0 rfl rfl 6 (by decide) m_1655 rfl dX12_feed_19 ?_
    refine lv_if_le (tgt := 27) hx hb dX12_feed_22 (by decide) (fun hc => ?_) (fun hc => absurd (by decide) hc)
    refine lv_aload_n hx hb dX12_feed_27 rfl (lv_at hl 0 rfl) ?_
    refine gt_f (C := RX12) (T := TX12) (N := 17) hx hb ha in_X12 hown hK hP 0 rfl rfl 9 (by decide) m_1658 rfl dX12_feed_28 ?_
    refine lv_aload_n hx hb dX12_feed_31 rfl (lv_at hl 0 rfl) ?_
    refine gt_f (C := RX12) (T := TX12) (N := 17) hx hb ha in_X12 hown hK hP 0 rfl rfl 10 (by decide) m_1659 rfl dX12_feed_32 ?_
    refine lv_iload_n hx hb dX12_feed_35 rfl (lv_at hl 1 rfl) ?_
    obtain ⟨hi, hf⟩ := sf_ge hf
    obtain ⟨a_1, ea_1, hf⟩ := sf_ne hf
    refine ca_st (ws' := [(h0, .inr (10, [.ref h1, .ref h2, .ref h3, .int mi, .ref h4, .int mn, .int (0 : Int32), .ref h5, .int mO, .ref h6, .int mL, .int mA, .int mW, .int mE, .int mF, .ref h7, .int mM])), (h1, .inl (dA 0, 158, .inl ms)), (h2, .inl (dA 0, 158, .inl mb)), (h3, .inl (dA 0, 158, .inl mv)), (h4, .inl (dA 0, 1264, .inl mp)), (h5, .inl (dA 1, 180, .inl mo)), (h6, .inl (dA 1, 60, .inl a_1)), (h7, .inl (dA 0, 240, .inl mc))]) hx hb hK hP hD hS 6 rfl hi ea_1 rfl dX12_feed_36 (fun H locs hP hD hS => ?_)
    refine lv_aload_n hx hb dX12_feed_37 rfl (lv_at hl 0 rfl) ?_
    refine lv_dup hx hb dX12_feed_38 rfl ?_
    refine gt_f (C := RX12) (T := TX12) (N := 17) hx hb ha in_X12 hown hK hP 0 rfl rfl 10 (by decide) m_1659 rfl dX12_feed_39 ?_
    refine lv_iconst (v := 1) hx hb dX12_feed_42 (by decide) ?_
    refine lv_iadd hx hb dX12_feed_43 ?_
    obtain ⟨x_2, ex_2, hf⟩ := sf_ne hf
    refine tp_i ex_2 ?_
    refine pt_f (C := RX12) (T := TX12) (N := 17) (ws' := [(h0, .inr (10, [.ref h1, .ref h2, .ref h3, .int mi, .ref h4, .int mn, .int (0 : Int32), .ref h5, .int mO, .ref h6, .int x_2, .int mA, .int mW, .int mE, .int mF, .ref h7, .int mM])), (h1, .inl (dA 0, 158, .inl ms)), (h2, .inl (dA 0, 158, .inl mb)), (h3, .inl (dA 0, 158, .inl mv)), (h4, .inl (dA 0, 1264, .inl mp)), (h5, .inl (dA 1, 180, .inl mo)), (h6, .inl (dA 1, 60, .inl a_1)), (h7, .inl (dA 0, 240, .inl mc))]) (ty := .int) hx hb ha in_X12 tyX12 tyX12_ok nmX12 hown hK hP hD hS 0 rfl rfl 10 (by decide) m_1659 rfl (tyX12_ok 10 (by decide)) rfl rfl (Nat.le_of_ble_eq_true rfl) rfl dX12_feed_44 (fun H locs hP hD hS => ?_)
    refine lv_aload_n hx hb dX12_feed_47 rfl (lv_at hl 0 rfl) ?_
    refine gt_f (C := RX12) (T := TX12) (N := 17) hx hb ha in_X12 hown hK hP 0 rfl rfl 10 (by decide) m_1659 rfl dX12_feed_48 ?_
    cases hf
    exact rt_Mi hx hb hr hlocks (hP.sub [0, 1, 2, 3, 4, 5, 6, 7] rfl) (hD.sub [0, 1, 2, 3, 4, 5, 6, 7] (by decide) rfl) hS dX12_feed_51
  · have hf := sf_bp hf hc
    refine lv_iconst (v := 1) hx hb dX12_feed_10 (by decide) ?_
    refine lv_goto (tgt := 15) hx hb dX12_feed_11 (by decide) ?_
    refine pt_f (C := RX12) (T := TX12) (N := 17) (ws' := [(h0, .inr (10, [.ref h1, .ref h2, .ref h3, .int mi, .ref h4, .int mn, .int (1 : Int32), .ref h5, .int mO, .ref h6, .int mL, .int mA, .int mW, .int mE, .int mF, .ref h7, .int mM])), (h1, .inl (dA 0, 158, .inl ms)), (h2, .inl (dA 0, 158, .inl mb)), (h3, .inl (dA 0, 158, .inl mv)), (h4, .inl (dA 0, 1264, .inl mp)), (h5, .inl (dA 1, 180, .inl mo)), (h6, .inl (dA 1, 60, .inl mI)), (h7, .inl (dA 0, 240, .inl mc))]) (ty := .int) hx hb ha in_X12 tyX12 tyX12_ok nmX12 hown hK hP hD hS 0 rfl rfl 6 (by decide) m_1655 rfl (tyX12_ok 6 (by decide)) rfl rfl (Nat.le_of_ble_eq_true rfl) rfl dX12_feed_15 (fun H locs hP hD hS => ?_)
    refine lv_aload_n hx hb dX12_feed_18 rfl (lv_at hl 0 rfl) ?_
    refine gt_f (C := RX12) (T := TX12) (N := 17) hx hb ha in_X12 hown hK hP 0 rfl rfl 6 (by decide) m_1655 rfl dX12_feed_19 ?_
    refine lv_if_le (tgt := 27) hx hb dX12_feed_22 (by decide) (fun hc => absurd hc (by decide)) (fun hc => ?_)
    refine lv_iconst (v := 0) hx hb dX12_feed_25 (by decide) ?_
    cases hf
    exact rt_Mi hx hb hr hlocks (hP.sub [0, 1, 2, 3, 4, 5, 6, 7] rfl) (hD.sub [0, 1, 2, 3, 4, 5, 6, 7] (by decide) rfl) hS dX12_feed_26

def f_X12_behind (mI : Nat → Int32) (mL : Int32) (mA : Int32) : Option Int32 :=
  sf_b (mL ≤ mA) (some (-1 : Int32)) (sf_g (sf_in mA 60 = true) (some (mI mA.toNatClampNeg)))
theorem yd_X12_behind : yX12_behind.cls = RX12 ∧ yX12_behind.cls ≠ "java/lang/invoke/MethodHandle" ∧ yX12_behind.cls ≠ "java/lang/invoke/VarHandle" ∧ (parseMethodDescriptor yX12_behind.desc).map (fun d => d.parameters.length) = some 0 := ⟨rfl, by decide, by decide, by decide +kernel⟩
set_option maxRecDepth 100000 in
set_option maxHeartbeats 4000000 in
theorem c_X12_behind (l : Launch) (D : va_G) (dA : Nat → ClassId) (h0 h1 h2 h3 h4 h5 h6 h7 : Nat) (ms : Nat → Int32) (mb : Nat → Int32) (mv : Nat → Int32) (mi : Int32) (mp : Nat → Int32) (mn : Int32) (mt : Int32) (mo : Nat → Int32) (mO : Int32) (mI : Nat → Int32) (mL : Int32) (mA : Int32) (mW : Int32) (mE : Int32) (mF : Int32) (mc : Nat → Int32) (mM : Int32) (rr : Int32) (hf : f_X12_behind mI mL mA = some rr) : Met l yX12_behind (wo (.code yX12_behind cX12_behind 1 (some .int))) ({ frames := 0, cells := 0, slots := 0, locals := 0 } : Room) (preP D dA [.ref h0] [(h0, .inr (10, [.ref h1, .ref h2, .ref h3, .int mi, .ref h4, .int mn, .int mt, .ref h5, .int mO, .ref h6, .int mL, .int mA, .int mW, .int mE, .int mF, .ref h7, .int mM])), (h1, .inl (dA 0, 158, .inl ms)), (h2, .inl (dA 0, 158, .inl mb)), (h3, .inl (dA 0, 158, .inl mv)), (h4, .inl (dA 0, 1264, .inl mp)), (h5, .inl (dA 1, 180, .inl mo)), (h6, .inl (dA 1, 60, .inl mI)), (h7, .inl (dA 0, 240, .inl mc))]) (poPi rr) 0 0 noA := by
  refine of_P (own := RX12) (by decide) rfl (Nat.le_of_ble_eq_true rfl) ?_
  intro p e s m below meth c hx hb hr ha hown hml hlocks hP hK hS ls hl
  have hl : lv_has ls 1 [(0, .ref h0)] := hl
  rw [f_X12_behind] at hf
  refine lv_aload_n hx hb dX12_behind_0 rfl (lv_at hl 0 rfl) ?_
  refine gt_f (C := RX12) (T := TX12) (N := 17) hx hb ha in_X12 hown hK hP 0 rfl rfl 11 (by decide) m_1660 rfl dX12_behind_1 ?_
  refine lv_aload_n hx hb dX12_behind_4 rfl (lv_at hl 0 rfl) ?_
  refine gt_f (C := RX12) (T := TX12) (N := 17) hx hb ha in_X12 hown hK hP 0 rfl rfl 10 (by decide) m_1659 rfl dX12_behind_5 ?_
  refine lv_icmp_ge (tgt := 23) hx hb dX12_behind_8 (by decide) (fun hc => ?_) (fun hc => ?_)
  · have hf := sf_bp hf hc
    refine lv_iconst (v := -1) hx hb dX12_behind_23 (by decide) ?_
    exact rt_Pi hx hb hr hlocks (Option.some.inj hf) hS dX12_behind_24
  · have hf := sf_bn hf hc
    refine lv_aload_n hx hb dX12_behind_11 rfl (lv_at hl 0 rfl) ?_
    refine gt_f (C := RX12) (T := TX12) (N := 17) hx hb ha in_X12 hown hK hP 0 rfl rfl 9 (by decide) m_1658 rfl dX12_behind_12 ?_
    refine lv_aload_n hx hb dX12_behind_15 rfl (lv_at hl 0 rfl) ?_
    refine gt_f (C := RX12) (T := TX12) (N := 17) hx hb ha in_X12 hown hK hP 0 rfl rfl 11 (by decide) m_1660 rfl dX12_behind_16 ?_
    obtain ⟨hi, hf⟩ := sf_ge hf
    refine ca_ld hx hb hK hP 6 rfl hi dX12_behind_19 ?_
    refine lv_goto (tgt := 24) hx hb dX12_behind_20 (by decide) ?_
    exact rt_Pi hx hb hr hlocks (Option.some.inj hf) hS dX12_behind_24

def f_X12_isDigit (mI : Nat → Int32) (mL : Int32) (mA : Int32) (mW : Int32) : Option Int32 :=
  sf_b (mW = (0 : Int32)) (sf_c1 (f_X12_behind mI mL mA) (fun r_1 => sf_c1 (f_X12_in r_1 (48 : Int32) (57 : Int32)) (fun r_2 => sf_b (r_2 = (0 : Int32)) (some (0 : Int32)) (some (1 : Int32))))) (some (0 : Int32))
theorem yd_X12_isDigit : yX12_isDigit.cls = RX12 ∧ yX12_isDigit.cls ≠ "java/lang/invoke/MethodHandle" ∧ yX12_isDigit.cls ≠ "java/lang/invoke/VarHandle" ∧ (parseMethodDescriptor yX12_isDigit.desc).map (fun d => d.parameters.length) = some 0 := ⟨rfl, by decide, by decide, by decide +kernel⟩
set_option maxRecDepth 100000 in
set_option maxHeartbeats 4000000 in
theorem c_X12_isDigit (l : Launch) (D : va_G) (dA : Nat → ClassId) (h0 h1 h2 h3 h4 h5 h6 h7 : Nat) (ms : Nat → Int32) (mb : Nat → Int32) (mv : Nat → Int32) (mi : Int32) (mp : Nat → Int32) (mn : Int32) (mt : Int32) (mo : Nat → Int32) (mO : Int32) (mI : Nat → Int32) (mL : Int32) (mA : Int32) (mW : Int32) (mE : Int32) (mF : Int32) (mc : Nat → Int32) (mM : Int32) (rr : Int32) (hf : f_X12_isDigit mI mL mA mW = some rr) : Met l yX12_isDigit (wo (.code yX12_isDigit cX12_isDigit 1 (some .boolean))) ({ frames := 1, cells := 0, slots := 0, locals := 22 } : Room) (preP D dA [.ref h0] [(h0, .inr (10, [.ref h1, .ref h2, .ref h3, .int mi, .ref h4, .int mn, .int mt, .ref h5, .int mO, .ref h6, .int mL, .int mA, .int mW, .int mE, .int mF, .ref h7, .int mM])), (h1, .inl (dA 0, 158, .inl ms)), (h2, .inl (dA 0, 158, .inl mb)), (h3, .inl (dA 0, 158, .inl mv)), (h4, .inl (dA 0, 1264, .inl mp)), (h5, .inl (dA 1, 180, .inl mo)), (h6, .inl (dA 1, 60, .inl mI)), (h7, .inl (dA 0, 240, .inl mc))]) (poPi rr) 0 0 noA := by
  refine of_P (own := RX12) (by decide) rfl (Nat.le_of_ble_eq_true rfl) ?_
  intro p e s m below meth c hx hb hr ha hown hml hlocks hP hK hS ls hl
  have hl : lv_has ls 1 [(0, .ref h0)] := hl
  rw [f_X12_isDigit] at hf
  refine lv_aload_n hx hb dX12_isDigit_0 rfl (lv_at hl 0 rfl) ?_
  refine gt_f (C := RX12) (T := TX12) (N := 17) hx hb ha in_X12 hown hK hP 0 rfl rfl 12 (by decide) m_1661 rfl dX12_isDigit_1 ?_
  refine lv_if_ne (tgt := 25) hx hb dX12_isDigit_4 (by decide) (fun hc => ?_) (fun hc => ?_)
  · have hf := sf_bn hf hc
    refine lv_iconst (v := 0) hx hb dX12_isDigit_25 (by decide) ?_
    exact rt_Pz hx hb hr hlocks (Option.some.inj hf) rfl hS dX12_isDigit_26
  · have hf := sf_bp hf hc
    refine lv_aload_n hx hb dX12_isDigit_7 rfl (lv_at hl 0 rfl) ?_
    obtain ⟨r_1, hc1, hf⟩ := sf_c1e hf
    refine k_Pi (run_PV (As := []) (rest := []) ⟨hx, hb, hml, hown, ha⟩ (c_X12_behind l D dA h0 h1 h2 h3 h4 h5 h6 h7  ms mb mv mi mp mn mt mo mO mI mL mA mW mE mF mc mM _ hc1) (gi_V m_2056 m_2058 m_65 m_85 m_2059) yd_X12_behind ⟨Nat.le_of_ble_eq_true rfl, Nat.le_of_ble_eq_true rfl⟩ ⟨rfl, rfl⟩ hK hP [0, 1, 2, 3, 4, 5, 6, 7] rfl 0 10 rfl rfl rfl rfl hl.1 rfl (Nat.le_of_ble_eq_true rfl) dX12_isDigit_8 ⟨Nat.le_of_ble_eq_true rfl, Nat.le_of_ble_eq_true rfl⟩) hP hS (fun H locs hP hS => ?_)
    refine lv_bipush (v := 48) hx hb dX12_isDigit_11 (by decide) ?_
    refine lv_bipush (v := 57) hx hb dX12_isDigit_13 (by decide) ?_
    obtain ⟨r_2, hc2, hf⟩ := sf_c1e hf
    refine k_Pi (run_PS (As := [.int r_1, .int (48 : Int32), .int (57 : Int32)]) (rest := []) ⟨hx, hb, hml, hown, ha⟩ (c_X12_in l D dA    r_1 (48 : Int32) (57 : Int32) _ hc2) (gi_S m_1718 m_1719 m_85 m_1720) yd_X12_in ⟨Nat.le_of_ble_eq_true rfl, Nat.le_of_ble_eq_true rfl⟩ ⟨rfl, rfl⟩ hK hP [] rfl rfl hl.1 rfl (Nat.le_of_ble_eq_true rfl) dX12_isDigit_15 ⟨Nat.le_of_ble_eq_true rfl, Nat.le_of_ble_eq_true rfl⟩) hP hS (fun H locs hP hS => ?_)
    refine lv_if_eq (tgt := 25) hx hb dX12_isDigit_18 (by decide) (fun hc => ?_) (fun hc => ?_)
    · have hf := sf_bp hf hc
      refine lv_iconst (v := 0) hx hb dX12_isDigit_25 (by decide) ?_
      exact rt_Pz hx hb hr hlocks (Option.some.inj hf) rfl hS dX12_isDigit_26
    · have hf := sf_bn hf hc
      refine lv_iconst (v := 1) hx hb dX12_isDigit_21 (by decide) ?_
      refine lv_goto (tgt := 26) hx hb dX12_isDigit_22 (by decide) ?_
      exact rt_Pz hx hb hr hlocks (Option.some.inj hf) rfl hS dX12_isDigit_26

def f_X12_does (ms : Nat → Int32) (mt : Int32) (mc : Nat → Int32) (p0 : Int32) : Option ((Nat → Int32) × Int32) :=
  sf_g (sf_in (((4 : Int32) * p0) + (1 : Int32)) 240 = true) (sf_n ((mc (((4 : Int32) * p0) + (1 : Int32)).toNatClampNeg)) (fun x_1 => sf_g (sf_in (((4 : Int32) * p0) + (2 : Int32)) 240 = true) (sf_n ((mc (((4 : Int32) * p0) + (2 : Int32)).toNatClampNeg)) (fun x_2 => sf_g (sf_in ((4 : Int32) * p0) 240 = true) (sf_b ((mc ((4 : Int32) * p0).toNatClampNeg) = (98 : Int32)) (sf_g (sf_in (((4 : Int32) * p0) + (3 : Int32)) 240 = true) (sf_c3 (f_X12_doBook ms mt x_1 x_2 (mc (((4 : Int32) * p0) + (3 : Int32)).toNatClampNeg)) (fun r_3 a_4 x_5 => some (a_4, x_5)))) (sf_b ((mc ((4 : Int32) * p0).toNatClampNeg) = (99 : Int32)) (sf_c3 (f_X12_doCancel ms mt x_1) (fun r_6 a_7 x_8 => some (a_7, x_8))) (sf_b ((mc ((4 : Int32) * p0).toNatClampNeg) = (108 : Int32)) (sf_c3 (f_X12_doLeave ms mt x_1) (fun r_9 a_10 x_11 => some (a_10, x_11))) (sf_b ((mc ((4 : Int32) * p0).toNatClampNeg) = (113 : Int32)) (sf_c3 (f_X12_doJoin ms mt x_1 x_2) (fun r_12 a_13 x_14 => some (a_13, x_14))) (sf_b ((mc ((4 : Int32) * p0).toNatClampNeg) = (115 : Int32)) (sf_c3 (f_X12_doBuildSlide ms mt x_1 x_2) (fun r_15 a_16 x_17 => some (a_16, x_17))) (sf_b ((mc ((4 : Int32) * p0).toNatClampNeg) = (119 : Int32)) (sf_c3 (f_X12_doPass ms mt x_1) (fun r_18 a_19 x_20 => some (a_19, x_20))) (sf_c3 (f_X12_doAddGuest ms mt) (fun r_21 a_22 x_23 => some (a_22, x_23)))))))))))))
theorem yd_X12_does : yX12_does.cls = RX12 ∧ yX12_does.cls ≠ "java/lang/invoke/MethodHandle" ∧ yX12_does.cls ≠ "java/lang/invoke/VarHandle" ∧ (parseMethodDescriptor yX12_does.desc).map (fun d => d.parameters.length) = some 1 := ⟨rfl, by decide, by decide, by decide +kernel⟩
set_option maxRecDepth 100000 in
set_option maxHeartbeats 4000000 in
theorem c_X12_does (l : Launch) (D : va_G) (dA : Nat → ClassId) (h0 h1 h2 h3 h4 h5 h6 h7 : Nat) (sz : Nat) (ms : Nat → Int32) (mb : Nat → Int32) (mv : Nat → Int32) (mi : Int32) (mp : Nat → Int32) (mn : Int32) (mt : Int32) (mo : Nat → Int32) (mO : Int32) (mI : Nat → Int32) (mL : Int32) (mA : Int32) (mW : Int32) (mE : Int32) (mF : Int32) (mc : Nat → Int32) (mM : Int32) (p0 : Int32) (q_ms : Nat → Int32) (q_mt : Int32) (hf : f_X12_does ms mt mc p0 = some (q_ms, q_mt)) : Met l yX12_does (wo (.code yX12_does cX12_does 5 none)) ({ frames := 7, cells := 0, slots := 0, locals := 183 } : Room) (preM D dA [.ref h0, .int p0] sz [(h0, .inr (10, [.ref h1, .ref h2, .ref h3, .int mi, .ref h4, .int mn, .int mt, .ref h5, .int mO, .ref h6, .int mL, .int mA, .int mW, .int mE, .int mF, .ref h7, .int mM])), (h1, .inl (dA 0, 158, .inl ms)), (h2, .inl (dA 0, 158, .inl mb)), (h3, .inl (dA 0, 158, .inl mv)), (h4, .inl (dA 0, 1264, .inl mp)), (h5, .inl (dA 1, 180, .inl mo)), (h6, .inl (dA 1, 60, .inl mI)), (h7, .inl (dA 0, 240, .inl mc))]) (poMv D [(h0, .inr (10, [.ref h1, .ref h2, .ref h3, .int mi, .ref h4, .int mn, .int q_mt, .ref h5, .int mO, .ref h6, .int mL, .int mA, .int mW, .int mE, .int mF, .ref h7, .int mM])), (h1, .inl (dA 0, 158, .inl q_ms)), (h2, .inl (dA 0, 158, .inl mb)), (h3, .inl (dA 0, 158, .inl mv)), (h4, .inl (dA 0, 1264, .inl mp)), (h5, .inl (dA 1, 180, .inl mo)), (h6, .inl (dA 1, 60, .inl mI)), (h7, .inl (dA 0, 240, .inl mc))] (va_A [(h0, .inr (10, [.ref h1, .ref h2, .ref h3, .int mi, .ref h4, .int mn, .int mt, .ref h5, .int mO, .ref h6, .int mL, .int mA, .int mW, .int mE, .int mF, .ref h7, .int mM])), (h1, .inl (dA 0, 158, .inl ms)), (h2, .inl (dA 0, 158, .inl mb)), (h3, .inl (dA 0, 158, .inl mv)), (h4, .inl (dA 0, 1264, .inl mp)), (h5, .inl (dA 1, 180, .inl mo)), (h6, .inl (dA 1, 60, .inl mI)), (h7, .inl (dA 0, 240, .inl mc))] sz)) 0 0 (va_A [(h0, .inr (10, [.ref h1, .ref h2, .ref h3, .int mi, .ref h4, .int mn, .int mt, .ref h5, .int mO, .ref h6, .int mL, .int mA, .int mW, .int mE, .int mF, .ref h7, .int mM])), (h1, .inl (dA 0, 158, .inl ms)), (h2, .inl (dA 0, 158, .inl mb)), (h3, .inl (dA 0, 158, .inl mv)), (h4, .inl (dA 0, 1264, .inl mp)), (h5, .inl (dA 1, 180, .inl mo)), (h6, .inl (dA 1, 60, .inl mI)), (h7, .inl (dA 0, 240, .inl mc))] sz) := by
  refine of_M (y := yX12_does) (av := [.ref h0, .int p0]) (ws := [(h0, .inr (10, [.ref h1, .ref h2, .ref h3, .int mi, .ref h4, .int mn, .int mt, .ref h5, .int mO, .ref h6, .int mL, .int mA, .int mW, .int mE, .int mF, .ref h7, .int mM])), (h1, .inl (dA 0, 158, .inl ms)), (h2, .inl (dA 0, 158, .inl mb)), (h3, .inl (dA 0, 158, .inl mv)), (h4, .inl (dA 0, 1264, .inl mp)), (h5, .inl (dA 1, 180, .inl mo)), (h6, .inl (dA 1, 60, .inl mI)), (h7, .inl (dA 0, 240, .inl mc))]) (sz := sz) (own := RX12) (Qc := poMv D [(h0, .inr (10, [.ref h1, .ref h2, .ref h3, .int mi, .ref h4, .int mn, .int q_mt, .ref h5, .int mO, .ref h6, .int mL, .int mA, .int mW, .int mE, .int mF, .ref h7, .int mM])), (h1, .inl (dA 0, 158, .inl q_ms)), (h2, .inl (dA 0, 158, .inl mb)), (h3, .inl (dA 0, 158, .inl mv)), (h4, .inl (dA 0, 1264, .inl mp)), (h5, .inl (dA 1, 180, .inl mo)), (h6, .inl (dA 1, 60, .inl mI)), (h7, .inl (dA 0, 240, .inl mc))]) (by decide) rfl (Nat.le_of_ble_eq_true rfl) ?_
  intro p e s m below meth c A hx hb hr ha hown hml hlocks hin hP hK hD hS hA ls hl
  have hl : lv_has ls 5 [(0, .ref h0), (1, .int p0)] := hl
  rw [f_X12_does] at hf
  refine lv_aload_n hx hb dX12_does_0 rfl (lv_at hl 0 rfl) ?_
  refine gt_f (C := RX12) (T := TX12) (N := 17) hx hb ha in_X12 hown hK hP 0 rfl rfl 15 (by decide) m_1664 rfl dX12_does_1 ?_
  refine lv_iconst (v := 4) hx hb dX12_does_4 (by decide) ?_
  refine lv_iload_n hx hb dX12_does_5 rfl (lv_at hl 1 rfl) ?_
  refine lv_imul hx hb dX12_does_6 ?_
  refine lv_iconst (v := 1) hx hb dX12_does_7 (by decide) ?_
  refine lv_iadd hx hb dX12_does_8 ?_
  obtain ⟨hi, hf⟩ := sf_ge hf
  refine ia_ld hx hb hK hP 7 rfl hi dX12_does_9 ?_
  obtain ⟨x_1, ex_1, hf⟩ := sf_ne hf
  refine tp_i ex_1 ?_
  refine lv_istore_n (lv' := [(2, .int x_1), (0, .ref h0), (1, .int p0)]) hx hb dX12_does_10 rfl hl (by decide) rfl (fun ls hl => ?_)
  refine lv_aload_n hx hb dX12_does_11 rfl (lv_at hl 1 rfl) ?_
  refine gt_f (C := RX12) (T := TX12) (N := 17) hx hb ha in_X12 hown hK hP 0 rfl rfl 15 (by decide) m_1664 rfl dX12_does_12 ?_
  refine lv_iconst (v := 4) hx hb dX12_does_15 (by decide) ?_
  refine lv_iload_n hx hb dX12_does_16 rfl (lv_at hl 2 rfl) ?_
  refine lv_imul hx hb dX12_does_17 ?_
  refine lv_iconst (v := 2) hx hb dX12_does_18 (by decide) ?_
  refine lv_iadd hx hb dX12_does_19 ?_
  obtain ⟨hi, hf⟩ := sf_ge hf
  refine ia_ld hx hb hK hP 7 rfl hi dX12_does_20 ?_
  obtain ⟨x_2, ex_2, hf⟩ := sf_ne hf
  refine tp_i ex_2 ?_
  refine lv_istore_n (lv' := [(3, .int x_2), (2, .int x_1), (0, .ref h0), (1, .int p0)]) hx hb dX12_does_21 rfl hl (by decide) rfl (fun ls hl => ?_)
  refine lv_aload_n hx hb dX12_does_22 rfl (lv_at hl 2 rfl) ?_
  refine gt_f (C := RX12) (T := TX12) (N := 17) hx hb ha in_X12 hown hK hP 0 rfl rfl 15 (by decide) m_1664 rfl dX12_does_23 ?_
  refine lv_iconst (v := 4) hx hb dX12_does_26 (by decide) ?_
  refine lv_iload_n hx hb dX12_does_27 rfl (lv_at hl 3 rfl) ?_
  refine lv_imul hx hb dX12_does_28 ?_
  obtain ⟨hi, hf⟩ := sf_ge hf
  refine ia_ld hx hb hK hP 7 rfl hi dX12_does_29 ?_
  by_cases hs30_0 : (mc ((4 : Int32) * p0).toNatClampNeg) = (98 : Int32)
  · have hf := sf_bp hf hs30_0
    refine lv_lookup (off := 80) (tgt := 110) hx hb dX12_does_30 (by decide) (by rw [hs30_0]; rfl) (by decide) ?_
    refine lv_aload_n hx hb dX12_does_110 rfl (lv_at hl 2 rfl) ?_
    refine lv_iload_n hx hb dX12_does_111 rfl (lv_at hl 1 rfl) ?_
    refine lv_iload_n hx hb dX12_does_112 rfl (lv_at hl 0 rfl) ?_
    refine lv_aload_n hx hb dX12_does_113 rfl (lv_at hl 2 rfl) ?_
    refine gt_f (C := RX12) (T := TX12) (N := 17) hx hb ha in_X12 hown hK hP 0 rfl rfl 15 (by decide) m_1664 rfl dX12_does_114 ?_
    refine lv_iconst (v := 4) hx hb dX12_does_117 (by decide) ?_
    refine lv_iload_n hx hb dX12_does_118 rfl (lv_at hl 3 rfl) ?_
    refine lv_imul hx hb dX12_does_119 ?_
    refine lv_iconst (v := 3) hx hb dX12_does_120 (by decide) ?_
    refine lv_iadd hx hb dX12_does_121 ?_
    obtain ⟨hi, hf⟩ := sf_ge hf
    refine ia_ld hx hb hK hP 7 rfl hi dX12_does_122 ?_
    obtain ⟨r_3, a_4, x_5, hc5, hf⟩ := sf_c3e hf
    refine k_Mi (wr := []) (run_MV (As := [.int x_1, .int x_2, .int (mc (((4 : Int32) * p0) + (3 : Int32)).toNatClampNeg)]) (rest := []) ⟨hx, hb, hml, hown, ha⟩ (c_X12_doBook l D dA h0 h1 h2 h3 h4 h5 h6 h7 _ ms mb mv mi mp mn mt mo mO mI mL mA mW mE mF mc mM x_1 x_2 (mc (((4 : Int32) * p0) + (3 : Int32)).toNatClampNeg) _ _ _ hc5) (gi_V m_1741 m_1743 m_35 m_85 m_1744) yd_X12_doBook ⟨Nat.le_of_ble_eq_true rfl, Nat.le_of_ble_eq_true rfl⟩ ⟨rfl, rfl⟩ hK hP hD [0, 1, 2, 3, 4, 5, 6, 7] (by decide) rfl 0 10 rfl rfl rfl rfl hl.1 rfl (Nat.le_of_ble_eq_true rfl) dX12_does_123 ⟨Nat.le_of_ble_eq_true rfl, Nat.le_of_ble_eq_true rfl⟩) hP hD hS hA [0, 1, 2, 3, 4, 5, 6, 7] [] rfl rfl (by decide) (by decide) (fun H locs hP hD hS => ?_)
    refine lv_istore (lv' := [(4, .int r_3), (3, .int x_2), (2, .int x_1), (0, .ref h0), (1, .int p0)]) hx hb dX12_does_126 hl (by decide) rfl (fun ls hl => ?_)
    refine lv_goto (tgt := 167) hx hb dX12_does_128 (by decide) ?_
    cases hf
    exact rt_Mv hx hb hr hlocks (hP.sub [0, 1, 2, 3, 4, 5, 6, 7] rfl) (hD.sub [0, 1, 2, 3, 4, 5, 6, 7] (by decide) rfl) hS dX12_does_167
  · have hf := sf_bn hf hs30_0
    by_cases hs30_1 : (mc ((4 : Int32) * p0).toNatClampNeg) = (99 : Int32)
    · have hf := sf_bp hf hs30_1
      refine lv_lookup (off := 101) (tgt := 131) hx hb dX12_does_30 (by decide) (by rw [hs30_1]; rfl) (by decide) ?_
      refine lv_aload_n hx hb dX12_does_131 rfl (lv_at hl 2 rfl) ?_
      refine lv_iload_n hx hb dX12_does_132 rfl (lv_at hl 1 rfl) ?_
      obtain ⟨r_6, a_7, x_8, hc8, hf⟩ := sf_c3e hf
      refine k_Mi (wr := []) (run_MV (As := [.int x_1]) (rest := []) ⟨hx, hb, hml, hown, ha⟩ (c_X12_doCancel l D dA h0 h1 h2 h3 h4 h5 h6 h7 _ ms mb mv mi mp mn mt mo mO mI mL mA mW mE mF mc mM x_1 _ _ _ hc8) (gi_V m_1793 m_1795 m_47 m_85 m_1796) yd_X12_doCancel ⟨Nat.le_of_ble_eq_true rfl, Nat.le_of_ble_eq_true rfl⟩ ⟨rfl, rfl⟩ hK hP hD [0, 1, 2, 3, 4, 5, 6, 7] (by decide) rfl 0 10 rfl rfl rfl rfl hl.1 rfl (Nat.le_of_ble_eq_true rfl) dX12_does_133 ⟨Nat.le_of_ble_eq_true rfl, Nat.le_of_ble_eq_true rfl⟩) hP hD hS hA [0, 1, 2, 3, 4, 5, 6, 7] [] rfl rfl (by decide) (by decide) (fun H locs hP hD hS => ?_)
      refine lv_istore (lv' := [(4, .int r_6), (3, .int x_2), (2, .int x_1), (0, .ref h0), (1, .int p0)]) hx hb dX12_does_136 hl (by decide) rfl (fun ls hl => ?_)
      refine lv_goto (tgt := 167) hx hb dX12_does_138 (by decide) ?_
      cases hf
      exact rt_Mv hx hb hr hlocks (hP.sub [0, 1, 2, 3, 4, 5, 6, 7] rfl) (hD.sub [0, 1, 2, 3, 4, 5, 6, 7] (by decide) rfl) hS dX12_does_167
    · have hf := sf_bn hf hs30_1
      by_cases hs30_2 : (mc ((4 : Int32) * p0).toNatClampNeg) = (108 : Int32)
      · have hf := sf_bp hf hs30_2
        refine lv_lookup (off := 111) (tgt := 141) hx hb dX12_does_30 (by decide) (by rw [hs30_2]; rfl) (by decide) ?_
        refine lv_aload_n hx hb dX12_does_141 rfl (lv_at hl 2 rfl) ?_
        refine lv_iload_n hx hb dX12_does_142 rfl (lv_at hl 1 rfl) ?_
        obtain ⟨r_9, a_10, x_11, hc11, hf⟩ := sf_c3e hf
        refine k_Mi (wr := []) (run_MV (As := [.int x_1]) (rest := []) ⟨hx, hb, hml, hown, ha⟩ (c_X12_doLeave l D dA h0 h1 h2 h3 h4 h5 h6 h7 _ ms mb mv mi mp mn mt mo mO mI mL mA mW mE mF mc mM x_1 _ _ _ hc11) (gi_V m_1817 m_1819 m_51 m_85 m_1820) yd_X12_doLeave ⟨Nat.le_of_ble_eq_true rfl, Nat.le_of_ble_eq_true rfl⟩ ⟨rfl, rfl⟩ hK hP hD [0, 1, 2, 3, 4, 5, 6, 7] (by decide) rfl 0 10 rfl rfl rfl rfl hl.1 rfl (Nat.le_of_ble_eq_true rfl) dX12_does_143 ⟨Nat.le_of_ble_eq_true rfl, Nat.le_of_ble_eq_true rfl⟩) hP hD hS hA [0, 1, 2, 3, 4, 5, 6, 7] [] rfl rfl (by decide) (by decide) (fun H locs hP hD hS => ?_)
        refine lv_istore (lv' := [(4, .int r_9), (3, .int x_2), (2, .int x_1), (0, .ref h0), (1, .int p0)]) hx hb dX12_does_146 hl (by decide) rfl (fun ls hl => ?_)
        refine lv_goto (tgt := 167) hx hb dX12_does_148 (by decide) ?_
        cases hf
        exact rt_Mv hx hb hr hlocks (hP.sub [0, 1, 2, 3, 4, 5, 6, 7] rfl) (hD.sub [0, 1, 2, 3, 4, 5, 6, 7] (by decide) rfl) hS dX12_does_167
      · have hf := sf_bn hf hs30_2
        by_cases hs30_3 : (mc ((4 : Int32) * p0).toNatClampNeg) = (113 : Int32)
        · have hf := sf_bp hf hs30_3
          refine lv_lookup (off := 69) (tgt := 99) hx hb dX12_does_30 (by decide) (by rw [hs30_3]; rfl) (by decide) ?_
          refine lv_aload_n hx hb dX12_does_99 rfl (lv_at hl 2 rfl) ?_
          refine lv_iload_n hx hb dX12_does_100 rfl (lv_at hl 1 rfl) ?_
          refine lv_iload_n hx hb dX12_does_101 rfl (lv_at hl 0 rfl) ?_
          obtain ⟨r_12, a_13, x_14, hc14, hf⟩ := sf_c3e hf
          refine k_Mi (wr := []) (run_MV (As := [.int x_1, .int x_2]) (rest := []) ⟨hx, hb, hml, hown, ha⟩ (c_X12_doJoin l D dA h0 h1 h2 h3 h4 h5 h6 h7 _ ms mb mv mi mp mn mt mo mO mI mL mA mW mE mF mc mM x_1 x_2 _ _ _ hc14) (gi_V m_1809 m_1811 m_50 m_85 m_1812) yd_X12_doJoin ⟨Nat.le_of_ble_eq_true rfl, Nat.le_of_ble_eq_true rfl⟩ ⟨rfl, rfl⟩ hK hP hD [0, 1, 2, 3, 4, 5, 6, 7] (by decide) rfl 0 10 rfl rfl rfl rfl hl.1 rfl (Nat.le_of_ble_eq_true rfl) dX12_does_102 ⟨Nat.le_of_ble_eq_true rfl, Nat.le_of_ble_eq_true rfl⟩) hP hD hS hA [0, 1, 2, 3, 4, 5, 6, 7] [] rfl rfl (by decide) (by decide) (fun H locs hP hD hS => ?_)
          refine lv_istore (lv' := [(4, .int r_12), (3, .int x_2), (2, .int x_1), (0, .ref h0), (1, .int p0)]) hx hb dX12_does_105 hl (by decide) rfl (fun ls hl => ?_)
          refine lv_goto (tgt := 167) hx hb dX12_does_107 (by decide) ?_
          cases hf
          exact rt_Mv hx hb hr hlocks (hP.sub [0, 1, 2, 3, 4, 5, 6, 7] rfl) (hD.sub [0, 1, 2, 3, 4, 5, 6, 7] (by decide) rfl) hS dX12_does_167
        · have hf := sf_bn hf hs30_3
          by_cases hs30_4 : (mc ((4 : Int32) * p0).toNatClampNeg) = (115 : Int32)
          · have hf := sf_bp hf hs30_4
            refine lv_lookup (off := 58) (tgt := 88) hx hb dX12_does_30 (by decide) (by rw [hs30_4]; rfl) (by decide) ?_
            refine lv_aload_n hx hb dX12_does_88 rfl (lv_at hl 2 rfl) ?_
            refine lv_iload_n hx hb dX12_does_89 rfl (lv_at hl 1 rfl) ?_
            refine lv_iload_n hx hb dX12_does_90 rfl (lv_at hl 0 rfl) ?_
            obtain ⟨r_15, a_16, x_17, hc17, hf⟩ := sf_c3e hf
            refine k_Mi (wr := []) (run_MV (As := [.int x_1, .int x_2]) (rest := []) ⟨hx, hb, hml, hown, ha⟩ (c_X12_doBuildSlide l D dA h0 h1 h2 h3 h4 h5 h6 h7 _ ms mb mv mi mp mn mt mo mO mI mL mA mW mE mF mc mM x_1 x_2 _ _ _ hc17) (gi_V m_1714 m_1716 m_31 m_85 m_1717) yd_X12_doBuildSlide ⟨Nat.le_of_ble_eq_true rfl, Nat.le_of_ble_eq_true rfl⟩ ⟨rfl, rfl⟩ hK hP hD [0, 1, 2, 3, 4, 5, 6, 7] (by decide) rfl 0 10 rfl rfl rfl rfl hl.1 rfl (Nat.le_of_ble_eq_true rfl) dX12_does_91 ⟨Nat.le_of_ble_eq_true rfl, Nat.le_of_ble_eq_true rfl⟩) hP hD hS hA [0, 1, 2, 3, 4, 5, 6, 7] [] rfl rfl (by decide) (by decide) (fun H locs hP hD hS => ?_)
            refine lv_istore (lv' := [(4, .int r_15), (3, .int x_2), (2, .int x_1), (0, .ref h0), (1, .int p0)]) hx hb dX12_does_94 hl (by decide) rfl (fun ls hl => ?_)
            refine lv_goto (tgt := 167) hx hb dX12_does_96 (by decide) ?_
            cases hf
            exact rt_Mv hx hb hr hlocks (hP.sub [0, 1, 2, 3, 4, 5, 6, 7] rfl) (hD.sub [0, 1, 2, 3, 4, 5, 6, 7] (by decide) rfl) hS dX12_does_167
          · have hf := sf_bn hf hs30_4
            by_cases hs30_5 : (mc ((4 : Int32) * p0).toNatClampNeg) = (119 : Int32)
            · have hf := sf_bp hf hs30_5
              refine lv_lookup (off := 121) (tgt := 151) hx hb dX12_does_30 (by decide) (by rw [hs30_5]; rfl) (by decide) ?_
              refine lv_aload_n hx hb dX12_does_151 rfl (lv_at hl 2 rfl) ?_
              refine lv_iload_n hx hb dX12_does_152 rfl (lv_at hl 1 rfl) ?_
              obtain ⟨r_18, a_19, x_20, hc20, hf⟩ := sf_c3e hf
              refine k_Mi (wr := []) (run_MV (As := [.int x_1]) (rest := []) ⟨hx, hb, hml, hown, ha⟩ (c_X12_doPass l D dA h0 h1 h2 h3 h4 h5 h6 h7 _ ms mb mv mi mp mn mt mo mO mI mL mA mW mE mF mc mM x_1 _ _ _ hc20) (gi_V m_1825 m_1827 m_52 m_85 m_1828) yd_X12_doPass ⟨Nat.le_of_ble_eq_true rfl, Nat.le_of_ble_eq_true rfl⟩ ⟨rfl, rfl⟩ hK hP hD [0, 1, 2, 3, 4, 5, 6, 7] (by decide) rfl 0 10 rfl rfl rfl rfl hl.1 rfl (Nat.le_of_ble_eq_true rfl) dX12_does_153 ⟨Nat.le_of_ble_eq_true rfl, Nat.le_of_ble_eq_true rfl⟩) hP hD hS hA [0, 1, 2, 3, 4, 5, 6, 7] [] rfl rfl (by decide) (by decide) (fun H locs hP hD hS => ?_)
              refine lv_istore (lv' := [(4, .int r_18), (3, .int x_2), (2, .int x_1), (0, .ref h0), (1, .int p0)]) hx hb dX12_does_156 hl (by decide) rfl (fun ls hl => ?_)
              refine lv_goto (tgt := 167) hx hb dX12_does_158 (by decide) ?_
              cases hf
              exact rt_Mv hx hb hr hlocks (hP.sub [0, 1, 2, 3, 4, 5, 6, 7] rfl) (hD.sub [0, 1, 2, 3, 4, 5, 6, 7] (by decide) rfl) hS dX12_does_167
            · have hf := sf_bn hf hs30_5
              refine lv_lookup (off := 131) (tgt := 161) hx hb dX12_does_30 (by decide) ((lv_osw hs30_0 (by decide)).trans ((lv_osw hs30_1 (by decide)).trans ((lv_osw hs30_2 (by decide)).trans ((lv_osw hs30_3 (by decide)).trans ((lv_osw hs30_4 (by decide)).trans ((lv_osw hs30_5 (by decide)).trans rfl)))))) (by decide) ?_
              refine lv_aload_n hx hb dX12_does_161 rfl (lv_at hl 2 rfl) ?_
              obtain ⟨r_21, a_22, x_23, hc23, hf⟩ := sf_c3e hf
              refine k_Mi (wr := []) (run_MV (As := []) (rest := []) ⟨hx, hb, hml, hown, ha⟩ (c_X12_doAddGuest l D dA h0 h1 h2 h3 h4 h5 h6 h7 _ ms mb mv mi mp mn mt mo mO mI mL mA mW mE mF mc mM _ _ _ hc23) (gi_V m_1733 m_1735 m_34 m_85 m_1736) yd_X12_doAddGuest ⟨Nat.le_of_ble_eq_true rfl, Nat.le_of_ble_eq_true rfl⟩ ⟨rfl, rfl⟩ hK hP hD [0, 1, 2, 3, 4, 5, 6, 7] (by decide) rfl 0 10 rfl rfl rfl rfl hl.1 rfl (Nat.le_of_ble_eq_true rfl) dX12_does_162 ⟨Nat.le_of_ble_eq_true rfl, Nat.le_of_ble_eq_true rfl⟩) hP hD hS hA [0, 1, 2, 3, 4, 5, 6, 7] [] rfl rfl (by decide) (by decide) (fun H locs hP hD hS => ?_)
              refine lv_istore (lv' := [(4, .int r_21), (3, .int x_2), (2, .int x_1), (0, .ref h0), (1, .int p0)]) hx hb dX12_does_165 hl (by decide) rfl (fun ls hl => ?_)
              cases hf
              exact rt_Mv hx hb hr hlocks (hP.sub [0, 1, 2, 3, 4, 5, 6, 7] rfl) (hD.sub [0, 1, 2, 3, 4, 5, 6, 7] (by decide) rfl) hS dX12_does_167

def f_X12_errorPosition (mt : Int32) (mE : Int32) : Option (Int32 × Int32) :=
  sf_b (mE < (0 : Int32)) (sf_c2 (f_X12_isThere mt (0 : Int32)) (fun r_1 x_2 => sf_b (r_1 = (0 : Int32)) (some ((0 : Int32), x_2)) (some (mE, x_2)))) (sf_c2 (f_X12_isThere mt (1 : Int32)) (fun r_3 x_4 => sf_b (r_3 = (0 : Int32)) (some ((0 : Int32), x_4)) (some (mE, x_4))))
theorem yd_X12_errorPosition : yX12_errorPosition.cls = RX12 ∧ yX12_errorPosition.cls ≠ "java/lang/invoke/MethodHandle" ∧ yX12_errorPosition.cls ≠ "java/lang/invoke/VarHandle" ∧ (parseMethodDescriptor yX12_errorPosition.desc).map (fun d => d.parameters.length) = some 0 := ⟨rfl, by decide, by decide, by decide +kernel⟩
set_option maxRecDepth 100000 in
set_option maxHeartbeats 4000000 in
theorem c_X12_errorPosition (l : Launch) (D : va_G) (dA : Nat → ClassId) (h0 h1 h2 h3 h4 h5 h6 h7 : Nat) (sz : Nat) (ms : Nat → Int32) (mb : Nat → Int32) (mv : Nat → Int32) (mi : Int32) (mp : Nat → Int32) (mn : Int32) (mt : Int32) (mo : Nat → Int32) (mO : Int32) (mI : Nat → Int32) (mL : Int32) (mA : Int32) (mW : Int32) (mE : Int32) (mF : Int32) (mc : Nat → Int32) (mM : Int32) (rr : Int32) (q_mt : Int32) (hf : f_X12_errorPosition mt mE = some (rr, q_mt)) : Met l yX12_errorPosition (wo (.code yX12_errorPosition cX12_errorPosition 1 (some .int))) ({ frames := 1, cells := 0, slots := 0, locals := 21 } : Room) (preM D dA [.ref h0] sz [(h0, .inr (10, [.ref h1, .ref h2, .ref h3, .int mi, .ref h4, .int mn, .int mt, .ref h5, .int mO, .ref h6, .int mL, .int mA, .int mW, .int mE, .int mF, .ref h7, .int mM])), (h1, .inl (dA 0, 158, .inl ms)), (h2, .inl (dA 0, 158, .inl mb)), (h3, .inl (dA 0, 158, .inl mv)), (h4, .inl (dA 0, 1264, .inl mp)), (h5, .inl (dA 1, 180, .inl mo)), (h6, .inl (dA 1, 60, .inl mI)), (h7, .inl (dA 0, 240, .inl mc))]) (poMi D rr [(h0, .inr (10, [.ref h1, .ref h2, .ref h3, .int mi, .ref h4, .int mn, .int q_mt, .ref h5, .int mO, .ref h6, .int mL, .int mA, .int mW, .int mE, .int mF, .ref h7, .int mM])), (h1, .inl (dA 0, 158, .inl ms)), (h2, .inl (dA 0, 158, .inl mb)), (h3, .inl (dA 0, 158, .inl mv)), (h4, .inl (dA 0, 1264, .inl mp)), (h5, .inl (dA 1, 180, .inl mo)), (h6, .inl (dA 1, 60, .inl mI)), (h7, .inl (dA 0, 240, .inl mc))] (va_A [(h0, .inr (10, [.ref h1, .ref h2, .ref h3, .int mi, .ref h4, .int mn, .int mt, .ref h5, .int mO, .ref h6, .int mL, .int mA, .int mW, .int mE, .int mF, .ref h7, .int mM])), (h1, .inl (dA 0, 158, .inl ms)), (h2, .inl (dA 0, 158, .inl mb)), (h3, .inl (dA 0, 158, .inl mv)), (h4, .inl (dA 0, 1264, .inl mp)), (h5, .inl (dA 1, 180, .inl mo)), (h6, .inl (dA 1, 60, .inl mI)), (h7, .inl (dA 0, 240, .inl mc))] sz)) 0 0 (va_A [(h0, .inr (10, [.ref h1, .ref h2, .ref h3, .int mi, .ref h4, .int mn, .int mt, .ref h5, .int mO, .ref h6, .int mL, .int mA, .int mW, .int mE, .int mF, .ref h7, .int mM])), (h1, .inl (dA 0, 158, .inl ms)), (h2, .inl (dA 0, 158, .inl mb)), (h3, .inl (dA 0, 158, .inl mv)), (h4, .inl (dA 0, 1264, .inl mp)), (h5, .inl (dA 1, 180, .inl mo)), (h6, .inl (dA 1, 60, .inl mI)), (h7, .inl (dA 0, 240, .inl mc))] sz) := by
  refine of_M (y := yX12_errorPosition) (av := [.ref h0]) (ws := [(h0, .inr (10, [.ref h1, .ref h2, .ref h3, .int mi, .ref h4, .int mn, .int mt, .ref h5, .int mO, .ref h6, .int mL, .int mA, .int mW, .int mE, .int mF, .ref h7, .int mM])), (h1, .inl (dA 0, 158, .inl ms)), (h2, .inl (dA 0, 158, .inl mb)), (h3, .inl (dA 0, 158, .inl mv)), (h4, .inl (dA 0, 1264, .inl mp)), (h5, .inl (dA 1, 180, .inl mo)), (h6, .inl (dA 1, 60, .inl mI)), (h7, .inl (dA 0, 240, .inl mc))]) (sz := sz) (own := RX12) (Qc := poMi D rr [(h0, .inr (10, [.ref h1, .ref h2, .ref h3, .int mi, .ref h4, .int mn, .int q_mt, .ref h5, .int mO, .ref h6, .int mL, .int mA, .int mW, .int mE, .int mF, .ref h7, .int mM])), (h1, .inl (dA 0, 158, .inl ms)), (h2, .inl (dA 0, 158, .inl mb)), (h3, .inl (dA 0, 158, .inl mv)), (h4, .inl (dA 0, 1264, .inl mp)), (h5, .inl (dA 1, 180, .inl mo)), (h6, .inl (dA 1, 60, .inl mI)), (h7, .inl (dA 0, 240, .inl mc))]) (by decide) rfl (Nat.le_of_ble_eq_true rfl) ?_
  intro p e s m below meth c A hx hb hr ha hown hml hlocks hin hP hK hD hS hA ls hl
  have hl : lv_has ls 1 [(0, .ref h0)] := hl
  rw [f_X12_errorPosition] at hf
  refine lv_aload_n hx hb dX12_errorPosition_0 rfl (lv_at hl 0 rfl) ?_
  refine lv_aload_n hx hb dX12_errorPosition_1 rfl (lv_at hl 0 rfl) ?_
  refine gt_f (C := RX12) (T := TX12) (N := 17) hx hb ha in_X12 hown hK hP 0 rfl rfl 13 (by decide) m_1662 rfl dX12_errorPosition_2 ?_
  refine lv_if_lt (tgt := 12) hx hb dX12_errorPosition_5 (by decide) (fun hc => ?_) (fun hc => ?_)
  · have hf := sf_bp hf hc
    refine lv_iconst (v := 0) hx hb dX12_errorPosition_12 (by decide) ?_
    obtain ⟨r_1, x_2, hc2, hf⟩ := sf_c2e hf
    refine k_Mi (wr := []) (run_MV (As := [.int (0 : Int32)]) (rest := []) ⟨hx, hb, hml, hown, ha⟩ (c_X12_isThere l D dA h0 h1 h2 h3 h4 h5 h6 h7 _ ms mb mv mi mp mn mt mo mO mI mL mA mW mE mF mc mM (0 : Int32) _ _ hc2) (gi_V m_1867 m_1869 m_59 m_85 m_1870) yd_X12_isThere ⟨Nat.le_of_ble_eq_true rfl, Nat.le_of_ble_eq_true rfl⟩ ⟨rfl, rfl⟩ hK hP hD [0, 1, 2, 3, 4, 5, 6, 7] (by decide) rfl 0 10 rfl rfl rfl rfl hl.1 rfl (Nat.le_of_ble_eq_true rfl) dX12_errorPosition_13 ⟨Nat.le_of_ble_eq_true rfl, Nat.le_of_ble_eq_true rfl⟩) hP hD hS hA [0, 1, 2, 3, 4, 5, 6, 7] [] rfl rfl (by decide) (by decide) (fun H locs hP hD hS => ?_)
    refine lv_if_eq (tgt := 26) hx hb dX12_errorPosition_16 (by decide) (fun hc => ?_) (fun hc => ?_)
    · have hf := sf_bp hf hc
      refine lv_iconst (v := 0) hx hb dX12_errorPosition_26 (by decide) ?_
      cases hf
      exact rt_Mi hx hb hr hlocks (hP.sub [0, 1, 2, 3, 4, 5, 6, 7] rfl) (hD.sub [0, 1, 2, 3, 4, 5, 6, 7] (by decide) rfl) hS dX12_errorPosition_27
    · have hf := sf_bn hf hc
      refine lv_aload_n hx hb dX12_errorPosition_19 rfl (lv_at hl 0 rfl) ?_
      refine gt_f (C := RX12) (T := TX12) (N := 17) hx hb ha in_X12 hown hK hP 0 rfl rfl 13 (by decide) m_1662 rfl dX12_errorPosition_20 ?_
      refine lv_goto (tgt := 27) hx hb dX12_errorPosition_23 (by decide) ?_
      cases hf
      exact rt_Mi hx hb hr hlocks (hP.sub [0, 1, 2, 3, 4, 5, 6, 7] rfl) (hD.sub [0, 1, 2, 3, 4, 5, 6, 7] (by decide) rfl) hS dX12_errorPosition_27
  · have hf := sf_bn hf hc
    refine lv_iconst (v := 1) hx hb dX12_errorPosition_8 (by decide) ?_
    refine lv_goto (tgt := 13) hx hb dX12_errorPosition_9 (by decide) ?_
    obtain ⟨r_3, x_4, hc4, hf⟩ := sf_c2e hf
    refine k_Mi (wr := []) (run_MV (As := [.int (1 : Int32)]) (rest := []) ⟨hx, hb, hml, hown, ha⟩ (c_X12_isThere l D dA h0 h1 h2 h3 h4 h5 h6 h7 _ ms mb mv mi mp mn mt mo mO mI mL mA mW mE mF mc mM (1 : Int32) _ _ hc4) (gi_V m_1867 m_1869 m_59 m_85 m_1870) yd_X12_isThere ⟨Nat.le_of_ble_eq_true rfl, Nat.le_of_ble_eq_true rfl⟩ ⟨rfl, rfl⟩ hK hP hD [0, 1, 2, 3, 4, 5, 6, 7] (by decide) rfl 0 10 rfl rfl rfl rfl hl.1 rfl (Nat.le_of_ble_eq_true rfl) dX12_errorPosition_13 ⟨Nat.le_of_ble_eq_true rfl, Nat.le_of_ble_eq_true rfl⟩) hP hD hS hA [0, 1, 2, 3, 4, 5, 6, 7] [] rfl rfl (by decide) (by decide) (fun H locs hP hD hS => ?_)
    refine lv_if_eq (tgt := 26) hx hb dX12_errorPosition_16 (by decide) (fun hc => ?_) (fun hc => ?_)
    · have hf := sf_bp hf hc
      refine lv_iconst (v := 0) hx hb dX12_errorPosition_26 (by decide) ?_
      cases hf
      exact rt_Mi hx hb hr hlocks (hP.sub [0, 1, 2, 3, 4, 5, 6, 7] rfl) (hD.sub [0, 1, 2, 3, 4, 5, 6, 7] (by decide) rfl) hS dX12_errorPosition_27
    · have hf := sf_bn hf hc
      refine lv_aload_n hx hb dX12_errorPosition_19 rfl (lv_at hl 0 rfl) ?_
      refine gt_f (C := RX12) (T := TX12) (N := 17) hx hb ha in_X12 hown hK hP 0 rfl rfl 13 (by decide) m_1662 rfl dX12_errorPosition_20 ?_
      refine lv_goto (tgt := 27) hx hb dX12_errorPosition_23 (by decide) ?_
      cases hf
      exact rt_Mi hx hb hr hlocks (hP.sub [0, 1, 2, 3, 4, 5, 6, 7] rfl) (hD.sub [0, 1, 2, 3, 4, 5, 6, 7] (by decide) rfl) hS dX12_errorPosition_27

def f_X12_failedCommand (mt : Int32) (mF : Int32) : Option (Int32 × Int32) :=
  sf_b (mF < (0 : Int32)) (sf_c2 (f_X12_isThere mt (0 : Int32)) (fun r_1 x_2 => sf_b (r_1 = (0 : Int32)) (some ((0 : Int32), x_2)) (some (mF, x_2)))) (sf_c2 (f_X12_isThere mt (1 : Int32)) (fun r_3 x_4 => sf_b (r_3 = (0 : Int32)) (some ((0 : Int32), x_4)) (some (mF, x_4))))
theorem yd_X12_failedCommand : yX12_failedCommand.cls = RX12 ∧ yX12_failedCommand.cls ≠ "java/lang/invoke/MethodHandle" ∧ yX12_failedCommand.cls ≠ "java/lang/invoke/VarHandle" ∧ (parseMethodDescriptor yX12_failedCommand.desc).map (fun d => d.parameters.length) = some 0 := ⟨rfl, by decide, by decide, by decide +kernel⟩
set_option maxRecDepth 100000 in
set_option maxHeartbeats 4000000 in
theorem c_X12_failedCommand (l : Launch) (D : va_G) (dA : Nat → ClassId) (h0 h1 h2 h3 h4 h5 h6 h7 : Nat) (sz : Nat) (ms : Nat → Int32) (mb : Nat → Int32) (mv : Nat → Int32) (mi : Int32) (mp : Nat → Int32) (mn : Int32) (mt : Int32) (mo : Nat → Int32) (mO : Int32) (mI : Nat → Int32) (mL : Int32) (mA : Int32) (mW : Int32) (mE : Int32) (mF : Int32) (mc : Nat → Int32) (mM : Int32) (rr : Int32) (q_mt : Int32) (hf : f_X12_failedCommand mt mF = some (rr, q_mt)) : Met l yX12_failedCommand (wo (.code yX12_failedCommand cX12_failedCommand 1 (some .int))) ({ frames := 1, cells := 0, slots := 0, locals := 21 } : Room) (preM D dA [.ref h0] sz [(h0, .inr (10, [.ref h1, .ref h2, .ref h3, .int mi, .ref h4, .int mn, .int mt, .ref h5, .int mO, .ref h6, .int mL, .int mA, .int mW, .int mE, .int mF, .ref h7, .int mM])), (h1, .inl (dA 0, 158, .inl ms)), (h2, .inl (dA 0, 158, .inl mb)), (h3, .inl (dA 0, 158, .inl mv)), (h4, .inl (dA 0, 1264, .inl mp)), (h5, .inl (dA 1, 180, .inl mo)), (h6, .inl (dA 1, 60, .inl mI)), (h7, .inl (dA 0, 240, .inl mc))]) (poMi D rr [(h0, .inr (10, [.ref h1, .ref h2, .ref h3, .int mi, .ref h4, .int mn, .int q_mt, .ref h5, .int mO, .ref h6, .int mL, .int mA, .int mW, .int mE, .int mF, .ref h7, .int mM])), (h1, .inl (dA 0, 158, .inl ms)), (h2, .inl (dA 0, 158, .inl mb)), (h3, .inl (dA 0, 158, .inl mv)), (h4, .inl (dA 0, 1264, .inl mp)), (h5, .inl (dA 1, 180, .inl mo)), (h6, .inl (dA 1, 60, .inl mI)), (h7, .inl (dA 0, 240, .inl mc))] (va_A [(h0, .inr (10, [.ref h1, .ref h2, .ref h3, .int mi, .ref h4, .int mn, .int mt, .ref h5, .int mO, .ref h6, .int mL, .int mA, .int mW, .int mE, .int mF, .ref h7, .int mM])), (h1, .inl (dA 0, 158, .inl ms)), (h2, .inl (dA 0, 158, .inl mb)), (h3, .inl (dA 0, 158, .inl mv)), (h4, .inl (dA 0, 1264, .inl mp)), (h5, .inl (dA 1, 180, .inl mo)), (h6, .inl (dA 1, 60, .inl mI)), (h7, .inl (dA 0, 240, .inl mc))] sz)) 0 0 (va_A [(h0, .inr (10, [.ref h1, .ref h2, .ref h3, .int mi, .ref h4, .int mn, .int mt, .ref h5, .int mO, .ref h6, .int mL, .int mA, .int mW, .int mE, .int mF, .ref h7, .int mM])), (h1, .inl (dA 0, 158, .inl ms)), (h2, .inl (dA 0, 158, .inl mb)), (h3, .inl (dA 0, 158, .inl mv)), (h4, .inl (dA 0, 1264, .inl mp)), (h5, .inl (dA 1, 180, .inl mo)), (h6, .inl (dA 1, 60, .inl mI)), (h7, .inl (dA 0, 240, .inl mc))] sz) := by
  refine of_M (y := yX12_failedCommand) (av := [.ref h0]) (ws := [(h0, .inr (10, [.ref h1, .ref h2, .ref h3, .int mi, .ref h4, .int mn, .int mt, .ref h5, .int mO, .ref h6, .int mL, .int mA, .int mW, .int mE, .int mF, .ref h7, .int mM])), (h1, .inl (dA 0, 158, .inl ms)), (h2, .inl (dA 0, 158, .inl mb)), (h3, .inl (dA 0, 158, .inl mv)), (h4, .inl (dA 0, 1264, .inl mp)), (h5, .inl (dA 1, 180, .inl mo)), (h6, .inl (dA 1, 60, .inl mI)), (h7, .inl (dA 0, 240, .inl mc))]) (sz := sz) (own := RX12) (Qc := poMi D rr [(h0, .inr (10, [.ref h1, .ref h2, .ref h3, .int mi, .ref h4, .int mn, .int q_mt, .ref h5, .int mO, .ref h6, .int mL, .int mA, .int mW, .int mE, .int mF, .ref h7, .int mM])), (h1, .inl (dA 0, 158, .inl ms)), (h2, .inl (dA 0, 158, .inl mb)), (h3, .inl (dA 0, 158, .inl mv)), (h4, .inl (dA 0, 1264, .inl mp)), (h5, .inl (dA 1, 180, .inl mo)), (h6, .inl (dA 1, 60, .inl mI)), (h7, .inl (dA 0, 240, .inl mc))]) (by decide) rfl (Nat.le_of_ble_eq_true rfl) ?_
  intro p e s m below meth c A hx hb hr ha hown hml hlocks hin hP hK hD hS hA ls hl
  have hl : lv_has ls 1 [(0, .ref h0)] := hl
  rw [f_X12_failedCommand] at hf
  refine lv_aload_n hx hb dX12_failedCommand_0 rfl (lv_at hl 0 rfl) ?_
  refine lv_aload_n hx hb dX12_failedCommand_1 rfl (lv_at hl 0 rfl) ?_
  refine gt_f (C := RX12) (T := TX12) (N := 17) hx hb ha in_X12 hown hK hP 0 rfl rfl 14 (by decide) m_1663 rfl dX12_failedCommand_2 ?_
  refine lv_if_lt (tgt := 12) hx hb dX12_failedCommand_5 (by decide) (fun hc => ?_) (fun hc => ?_)
  · have hf := sf_bp hf hc
    refine lv_iconst (v := 0) hx hb dX12_failedCommand_12 (by decide) ?_
    obtain ⟨r_1, x_2, hc2, hf⟩ := sf_c2e hf
    refine k_Mi (wr := []) (run_MV (As := [.int (0 : Int32)]) (rest := []) ⟨hx, hb, hml, hown, ha⟩ (c_X12_isThere l D dA h0 h1 h2 h3 h4 h5 h6 h7 _ ms mb mv mi mp mn mt mo mO mI mL mA mW mE mF mc mM (0 : Int32) _ _ hc2) (gi_V m_1867 m_1869 m_59 m_85 m_1870) yd_X12_isThere ⟨Nat.le_of_ble_eq_true rfl, Nat.le_of_ble_eq_true rfl⟩ ⟨rfl, rfl⟩ hK hP hD [0, 1, 2, 3, 4, 5, 6, 7] (by decide) rfl 0 10 rfl rfl rfl rfl hl.1 rfl (Nat.le_of_ble_eq_true rfl) dX12_failedCommand_13 ⟨Nat.le_of_ble_eq_true rfl, Nat.le_of_ble_eq_true rfl⟩) hP hD hS hA [0, 1, 2, 3, 4, 5, 6, 7] [] rfl rfl (by decide) (by decide) (fun H locs hP hD hS => ?_)
    refine lv_if_eq (tgt := 26) hx hb dX12_failedCommand_16 (by decide) (fun hc => ?_) (fun hc => ?_)
    · have hf := sf_bp hf hc
      refine lv_iconst (v := 0) hx hb dX12_failedCommand_26 (by decide) ?_
      cases hf
      exact rt_Mi hx hb hr hlocks (hP.sub [0, 1, 2, 3, 4, 5, 6, 7] rfl) (hD.sub [0, 1, 2, 3, 4, 5, 6, 7] (by decide) rfl) hS dX12_failedCommand_27
    · have hf := sf_bn hf hc
      refine lv_aload_n hx hb dX12_failedCommand_19 rfl (lv_at hl 0 rfl) ?_
      refine gt_f (C := RX12) (T := TX12) (N := 17) hx hb ha in_X12 hown hK hP 0 rfl rfl 14 (by decide) m_1663 rfl dX12_failedCommand_20 ?_
      refine lv_goto (tgt := 27) hx hb dX12_failedCommand_23 (by decide) ?_
      cases hf
      exact rt_Mi hx hb hr hlocks (hP.sub [0, 1, 2, 3, 4, 5, 6, 7] rfl) (hD.sub [0, 1, 2, 3, 4, 5, 6, 7] (by decide) rfl) hS dX12_failedCommand_27
  · have hf := sf_bn hf hc
    refine lv_iconst (v := 1) hx hb dX12_failedCommand_8 (by decide) ?_
    refine lv_goto (tgt := 13) hx hb dX12_failedCommand_9 (by decide) ?_
    obtain ⟨r_3, x_4, hc4, hf⟩ := sf_c2e hf
    refine k_Mi (wr := []) (run_MV (As := [.int (1 : Int32)]) (rest := []) ⟨hx, hb, hml, hown, ha⟩ (c_X12_isThere l D dA h0 h1 h2 h3 h4 h5 h6 h7 _ ms mb mv mi mp mn mt mo mO mI mL mA mW mE mF mc mM (1 : Int32) _ _ hc4) (gi_V m_1867 m_1869 m_59 m_85 m_1870) yd_X12_isThere ⟨Nat.le_of_ble_eq_true rfl, Nat.le_of_ble_eq_true rfl⟩ ⟨rfl, rfl⟩ hK hP hD [0, 1, 2, 3, 4, 5, 6, 7] (by decide) rfl 0 10 rfl rfl rfl rfl hl.1 rfl (Nat.le_of_ble_eq_true rfl) dX12_failedCommand_13 ⟨Nat.le_of_ble_eq_true rfl, Nat.le_of_ble_eq_true rfl⟩) hP hD hS hA [0, 1, 2, 3, 4, 5, 6, 7] [] rfl rfl (by decide) (by decide) (fun H locs hP hD hS => ?_)
    refine lv_if_eq (tgt := 26) hx hb dX12_failedCommand_16 (by decide) (fun hc => ?_) (fun hc => ?_)
    · have hf := sf_bp hf hc
      refine lv_iconst (v := 0) hx hb dX12_failedCommand_26 (by decide) ?_
      cases hf
      exact rt_Mi hx hb hr hlocks (hP.sub [0, 1, 2, 3, 4, 5, 6, 7] rfl) (hD.sub [0, 1, 2, 3, 4, 5, 6, 7] (by decide) rfl) hS dX12_failedCommand_27
    · have hf := sf_bn hf hc
      refine lv_aload_n hx hb dX12_failedCommand_19 rfl (lv_at hl 0 rfl) ?_
      refine gt_f (C := RX12) (T := TX12) (N := 17) hx hb ha in_X12 hown hK hP 0 rfl rfl 14 (by decide) m_1663 rfl dX12_failedCommand_20 ?_
      refine lv_goto (tgt := 27) hx hb dX12_failedCommand_23 (by decide) ?_
      cases hf
      exact rt_Mi hx hb hr hlocks (hP.sub [0, 1, 2, 3, 4, 5, 6, 7] rfl) (hD.sub [0, 1, 2, 3, 4, 5, 6, 7] (by decide) rfl) hS dX12_failedCommand_27

def f_X12_undoCount (mn : Int32) (mt : Int32) : Option (Int32 × Int32) :=
  some (mn, (0 : Int32))
theorem yd_X12_undoCount : yX12_undoCount.cls = RX12 ∧ yX12_undoCount.cls ≠ "java/lang/invoke/MethodHandle" ∧ yX12_undoCount.cls ≠ "java/lang/invoke/VarHandle" ∧ (parseMethodDescriptor yX12_undoCount.desc).map (fun d => d.parameters.length) = some 0 := ⟨rfl, by decide, by decide, by decide +kernel⟩
set_option maxRecDepth 100000 in
set_option maxHeartbeats 4000000 in
theorem c_X12_undoCount (l : Launch) (D : va_G) (dA : Nat → ClassId) (h0 h1 h2 h3 h4 h5 h6 h7 : Nat) (sz : Nat) (ms : Nat → Int32) (mb : Nat → Int32) (mv : Nat → Int32) (mi : Int32) (mp : Nat → Int32) (mn : Int32) (mt : Int32) (mo : Nat → Int32) (mO : Int32) (mI : Nat → Int32) (mL : Int32) (mA : Int32) (mW : Int32) (mE : Int32) (mF : Int32) (mc : Nat → Int32) (mM : Int32) (rr : Int32) (q_mt : Int32) (hf : f_X12_undoCount mn mt = some (rr, q_mt)) : Met l yX12_undoCount (wo (.code yX12_undoCount cX12_undoCount 1 (some .int))) ({ frames := 0, cells := 0, slots := 0, locals := 0 } : Room) (preM D dA [.ref h0] sz [(h0, .inr (10, [.ref h1, .ref h2, .ref h3, .int mi, .ref h4, .int mn, .int mt, .ref h5, .int mO, .ref h6, .int mL, .int mA, .int mW, .int mE, .int mF, .ref h7, .int mM])), (h1, .inl (dA 0, 158, .inl ms)), (h2, .inl (dA 0, 158, .inl mb)), (h3, .inl (dA 0, 158, .inl mv)), (h4, .inl (dA 0, 1264, .inl mp)), (h5, .inl (dA 1, 180, .inl mo)), (h6, .inl (dA 1, 60, .inl mI)), (h7, .inl (dA 0, 240, .inl mc))]) (poMi D rr [(h0, .inr (10, [.ref h1, .ref h2, .ref h3, .int mi, .ref h4, .int mn, .int q_mt, .ref h5, .int mO, .ref h6, .int mL, .int mA, .int mW, .int mE, .int mF, .ref h7, .int mM])), (h1, .inl (dA 0, 158, .inl ms)), (h2, .inl (dA 0, 158, .inl mb)), (h3, .inl (dA 0, 158, .inl mv)), (h4, .inl (dA 0, 1264, .inl mp)), (h5, .inl (dA 1, 180, .inl mo)), (h6, .inl (dA 1, 60, .inl mI)), (h7, .inl (dA 0, 240, .inl mc))] (va_A [(h0, .inr (10, [.ref h1, .ref h2, .ref h3, .int mi, .ref h4, .int mn, .int mt, .ref h5, .int mO, .ref h6, .int mL, .int mA, .int mW, .int mE, .int mF, .ref h7, .int mM])), (h1, .inl (dA 0, 158, .inl ms)), (h2, .inl (dA 0, 158, .inl mb)), (h3, .inl (dA 0, 158, .inl mv)), (h4, .inl (dA 0, 1264, .inl mp)), (h5, .inl (dA 1, 180, .inl mo)), (h6, .inl (dA 1, 60, .inl mI)), (h7, .inl (dA 0, 240, .inl mc))] sz)) 0 0 (va_A [(h0, .inr (10, [.ref h1, .ref h2, .ref h3, .int mi, .ref h4, .int mn, .int mt, .ref h5, .int mO, .ref h6, .int mL, .int mA, .int mW, .int mE, .int mF, .ref h7, .int mM])), (h1, .inl (dA 0, 158, .inl ms)), (h2, .inl (dA 0, 158, .inl mb)), (h3, .inl (dA 0, 158, .inl mv)), (h4, .inl (dA 0, 1264, .inl mp)), (h5, .inl (dA 1, 180, .inl mo)), (h6, .inl (dA 1, 60, .inl mI)), (h7, .inl (dA 0, 240, .inl mc))] sz) := by
  refine of_M (y := yX12_undoCount) (av := [.ref h0]) (ws := [(h0, .inr (10, [.ref h1, .ref h2, .ref h3, .int mi, .ref h4, .int mn, .int mt, .ref h5, .int mO, .ref h6, .int mL, .int mA, .int mW, .int mE, .int mF, .ref h7, .int mM])), (h1, .inl (dA 0, 158, .inl ms)), (h2, .inl (dA 0, 158, .inl mb)), (h3, .inl (dA 0, 158, .inl mv)), (h4, .inl (dA 0, 1264, .inl mp)), (h5, .inl (dA 1, 180, .inl mo)), (h6, .inl (dA 1, 60, .inl mI)), (h7, .inl (dA 0, 240, .inl mc))]) (sz := sz) (own := RX12) (Qc := poMi D rr [(h0, .inr (10, [.ref h1, .ref h2, .ref h3, .int mi, .ref h4, .int mn, .int q_mt, .ref h5, .int mO, .ref h6, .int mL, .int mA, .int mW, .int mE, .int mF, .ref h7, .int mM])), (h1, .inl (dA 0, 158, .inl ms)), (h2, .inl (dA 0, 158, .inl mb)), (h3, .inl (dA 0, 158, .inl mv)), (h4, .inl (dA 0, 1264, .inl mp)), (h5, .inl (dA 1, 180, .inl mo)), (h6, .inl (dA 1, 60, .inl mI)), (h7, .inl (dA 0, 240, .inl mc))]) (by decide) rfl (Nat.le_of_ble_eq_true rfl) ?_
  intro p e s m below meth c A hx hb hr ha hown hml hlocks hin hP hK hD hS hA ls hl
  have hl : lv_has ls 1 [(0, .ref h0)] := hl
  rw [f_X12_undoCount] at hf
  refine lv_aload_n hx hb dX12_undoCount_0 rfl (lv_at hl 0 rfl) ?_
  refine lv_iconst (v := 0) hx hb dX12_undoCount_1 (by decide) ?_
  refine pt_f (C := RX12) (T := TX12) (N := 17) (ws' := [(h0, .inr (10, [.ref h1, .ref h2, .ref h3, .int mi, .ref h4, .int mn, .int (0 : Int32), .ref h5, .int mO, .ref h6, .int mL, .int mA, .int mW, .int mE, .int mF, .ref h7, .int mM])), (h1, .inl (dA 0, 158, .inl ms)), (h2, .inl (dA 0, 158, .inl mb)), (h3, .inl (dA 0, 158, .inl mv)), (h4, .inl (dA 0, 1264, .inl mp)), (h5, .inl (dA 1, 180, .inl mo)), (h6, .inl (dA 1, 60, .inl mI)), (h7, .inl (dA 0, 240, .inl mc))]) (ty := .int) hx hb ha in_X12 tyX12 tyX12_ok nmX12 hown hK hP hD hS 0 rfl rfl 6 (by decide) m_1655 rfl (tyX12_ok 6 (by decide)) rfl rfl (Nat.le_of_ble_eq_true rfl) rfl dX12_undoCount_2 (fun H locs hP hD hS => ?_)
  refine lv_aload_n hx hb dX12_undoCount_5 rfl (lv_at hl 0 rfl) ?_
  refine gt_f (C := RX12) (T := TX12) (N := 17) hx hb ha in_X12 hown hK hP 0 rfl rfl 5 (by decide) m_1654 rfl dX12_undoCount_6 ?_
  cases hf
  exact rt_Mi hx hb hr hlocks (hP.sub [0, 1, 2, 3, 4, 5, 6, 7] rfl) (hD.sub [0, 1, 2, 3, 4, 5, 6, 7] (by decide) rfl) hS dX12_undoCount_9

def f_X12_undo (ms : Nat → Int32) (mp : Nat → Int32) (mn : Int32) (mt : Int32) : Option (Int32 × (Nat → Int32) × Int32 × Int32) :=
  sf_b (mn = (0 : Int32)) (some ((0 : Int32), ms, mn, (1 : Int32))) (sf_n ((mn - (1 : Int32))) (fun x_1 => sf_g ((¬ ((158 : Int32) * x_1) < 0 ∧ ¬ (0 : Int32) < 0 ∧ ¬ (158 : Int32) < 0) ∧ ((158 : Int32) * x_1).toNatClampNeg + (158 : Int32).toNatClampNeg ≤ 1264 ∧ (0 : Int32).toNatClampNeg + (158 : Int32).toNatClampNeg ≤ 158) (sf_n (va_cpy mp ms ((158 : Int32) * x_1).toNatClampNeg (0 : Int32).toNatClampNeg (158 : Int32).toNatClampNeg) (fun a_2 => some (x_1, a_2, x_1, (0 : Int32))))))
theorem yd_X12_undo : yX12_undo.cls = RX12 ∧ yX12_undo.cls ≠ "java/lang/invoke/MethodHandle" ∧ yX12_undo.cls ≠ "java/lang/invoke/VarHandle" ∧ (parseMethodDescriptor yX12_undo.desc).map (fun d => d.parameters.length) = some 0 := ⟨rfl, by decide, by decide, by decide +kernel⟩
set_option maxRecDepth 100000 in
set_option maxHeartbeats 4000000 in
theorem c_X12_undo (l : Launch) (D : va_G) (dA : Nat → ClassId) (h0 h1 h2 h3 h4 h5 h6 h7 : Nat) (sz : Nat) (ms : Nat → Int32) (mb : Nat → Int32) (mv : Nat → Int32) (mi : Int32) (mp : Nat → Int32) (mn : Int32) (mt : Int32) (mo : Nat → Int32) (mO : Int32) (mI : Nat → Int32) (mL : Int32) (mA : Int32) (mW : Int32) (mE : Int32) (mF : Int32) (mc : Nat → Int32) (mM : Int32) (rr : Int32) (q_ms : Nat → Int32) (q_mn : Int32) (q_mt : Int32) (hf : f_X12_undo ms mp mn mt = some (rr, q_ms, q_mn, q_mt)) : Met l yX12_undo (wo (.code yX12_undo cX12_undo 1 (some .int))) ({ frames := 1, cells := 0, slots := 0, locals := 90 } : Room) (preM D dA [.ref h0] sz [(h0, .inr (10, [.ref h1, .ref h2, .ref h3, .int mi, .ref h4, .int mn, .int mt, .ref h5, .int mO, .ref h6, .int mL, .int mA, .int mW, .int mE, .int mF, .ref h7, .int mM])), (h1, .inl (dA 0, 158, .inl ms)), (h2, .inl (dA 0, 158, .inl mb)), (h3, .inl (dA 0, 158, .inl mv)), (h4, .inl (dA 0, 1264, .inl mp)), (h5, .inl (dA 1, 180, .inl mo)), (h6, .inl (dA 1, 60, .inl mI)), (h7, .inl (dA 0, 240, .inl mc))]) (poMi D rr [(h0, .inr (10, [.ref h1, .ref h2, .ref h3, .int mi, .ref h4, .int q_mn, .int q_mt, .ref h5, .int mO, .ref h6, .int mL, .int mA, .int mW, .int mE, .int mF, .ref h7, .int mM])), (h1, .inl (dA 0, 158, .inl q_ms)), (h2, .inl (dA 0, 158, .inl mb)), (h3, .inl (dA 0, 158, .inl mv)), (h4, .inl (dA 0, 1264, .inl mp)), (h5, .inl (dA 1, 180, .inl mo)), (h6, .inl (dA 1, 60, .inl mI)), (h7, .inl (dA 0, 240, .inl mc))] (va_A [(h0, .inr (10, [.ref h1, .ref h2, .ref h3, .int mi, .ref h4, .int mn, .int mt, .ref h5, .int mO, .ref h6, .int mL, .int mA, .int mW, .int mE, .int mF, .ref h7, .int mM])), (h1, .inl (dA 0, 158, .inl ms)), (h2, .inl (dA 0, 158, .inl mb)), (h3, .inl (dA 0, 158, .inl mv)), (h4, .inl (dA 0, 1264, .inl mp)), (h5, .inl (dA 1, 180, .inl mo)), (h6, .inl (dA 1, 60, .inl mI)), (h7, .inl (dA 0, 240, .inl mc))] sz)) 0 0 (va_A [(h0, .inr (10, [.ref h1, .ref h2, .ref h3, .int mi, .ref h4, .int mn, .int mt, .ref h5, .int mO, .ref h6, .int mL, .int mA, .int mW, .int mE, .int mF, .ref h7, .int mM])), (h1, .inl (dA 0, 158, .inl ms)), (h2, .inl (dA 0, 158, .inl mb)), (h3, .inl (dA 0, 158, .inl mv)), (h4, .inl (dA 0, 1264, .inl mp)), (h5, .inl (dA 1, 180, .inl mo)), (h6, .inl (dA 1, 60, .inl mI)), (h7, .inl (dA 0, 240, .inl mc))] sz) := by
  refine of_M (y := yX12_undo) (av := [.ref h0]) (ws := [(h0, .inr (10, [.ref h1, .ref h2, .ref h3, .int mi, .ref h4, .int mn, .int mt, .ref h5, .int mO, .ref h6, .int mL, .int mA, .int mW, .int mE, .int mF, .ref h7, .int mM])), (h1, .inl (dA 0, 158, .inl ms)), (h2, .inl (dA 0, 158, .inl mb)), (h3, .inl (dA 0, 158, .inl mv)), (h4, .inl (dA 0, 1264, .inl mp)), (h5, .inl (dA 1, 180, .inl mo)), (h6, .inl (dA 1, 60, .inl mI)), (h7, .inl (dA 0, 240, .inl mc))]) (sz := sz) (own := RX12) (Qc := poMi D rr [(h0, .inr (10, [.ref h1, .ref h2, .ref h3, .int mi, .ref h4, .int q_mn, .int q_mt, .ref h5, .int mO, .ref h6, .int mL, .int mA, .int mW, .int mE, .int mF, .ref h7, .int mM])), (h1, .inl (dA 0, 158, .inl q_ms)), (h2, .inl (dA 0, 158, .inl mb)), (h3, .inl (dA 0, 158, .inl mv)), (h4, .inl (dA 0, 1264, .inl mp)), (h5, .inl (dA 1, 180, .inl mo)), (h6, .inl (dA 1, 60, .inl mI)), (h7, .inl (dA 0, 240, .inl mc))]) (by decide) rfl (Nat.le_of_ble_eq_true rfl) ?_
  intro p e s m below meth c A hx hb hr ha hown hml hlocks hin hP hK hD hS hA ls hl
  have hl : lv_has ls 1 [(0, .ref h0)] := hl
  rw [f_X12_undo] at hf
  refine lv_aload_n hx hb dX12_undo_0 rfl (lv_at hl 0 rfl) ?_
  refine lv_aload_n hx hb dX12_undo_1 rfl (lv_at hl 0 rfl) ?_
  refine gt_f (C := RX12) (T := TX12) (N := 17) hx hb ha in_X12 hown hK hP 0 rfl rfl 5 (by decide) m_1654 rfl dX12_undo_2 ?_
  refine lv_if_ne (tgt := 12) hx hb dX12_undo_5 (by decide) (fun hc => ?_) (fun hc => ?_)
  · have hf := sf_bn hf hc
    refine lv_iconst (v := 0) hx hb dX12_undo_12 (by decide) ?_
    refine pt_f (C := RX12) (T := TX12) (N := 17) (ws' := [(h0, .inr (10, [.ref h1, .ref h2, .ref h3, .int mi, .ref h4, .int mn, .int (0 : Int32), .ref h5, .int mO, .ref h6, .int mL, .int mA, .int mW, .int mE, .int mF, .ref h7, .int mM])), (h1, .inl (dA 0, 158, .inl ms)), (h2, .inl (dA 0, 158, .inl mb)), (h3, .inl (dA 0, 158, .inl mv)), (h4, .inl (dA 0, 1264, .inl mp)), (h5, .inl (dA 1, 180, .inl mo)), (h6, .inl (dA 1, 60, .inl mI)), (h7, .inl (dA 0, 240, .inl mc))]) (ty := .int) hx hb ha in_X12 tyX12 tyX12_ok nmX12 hown hK hP hD hS 0 rfl rfl 6 (by decide) m_1655 rfl (tyX12_ok 6 (by decide)) rfl rfl (Nat.le_of_ble_eq_true rfl) rfl dX12_undo_13 (fun H locs hP hD hS => ?_)
    refine lv_aload_n hx hb dX12_undo_16 rfl (lv_at hl 0 rfl) ?_
    refine gt_f (C := RX12) (T := TX12) (N := 17) hx hb ha in_X12 hown hK hP 0 rfl rfl 6 (by decide) m_1655 rfl dX12_undo_17 ?_
    refine lv_if_le (tgt := 25) hx hb dX12_undo_20 (by decide) (fun hc => ?_) (fun hc => absurd (by decide) hc)
    refine lv_aload_n hx hb dX12_undo_25 rfl (lv_at hl 0 rfl) ?_
    refine lv_dup hx hb dX12_undo_26 rfl ?_
    refine gt_f (C := RX12) (T := TX12) (N := 17) hx hb ha in_X12 hown hK hP 0 rfl rfl 5 (by decide) m_1654 rfl dX12_undo_27 ?_
    refine lv_iconst (v := 1) hx hb dX12_undo_30 (by decide) ?_
    refine lv_isub hx hb dX12_undo_31 ?_
    obtain ⟨x_1, ex_1, hf⟩ := sf_ne hf
    refine tp_i ex_1 ?_
    refine pt_f (C := RX12) (T := TX12) (N := 17) (ws' := [(h0, .inr (10, [.ref h1, .ref h2, .ref h3, .int mi, .ref h4, .int x_1, .int (0 : Int32), .ref h5, .int mO, .ref h6, .int mL, .int mA, .int mW, .int mE, .int mF, .ref h7, .int mM])), (h1, .inl (dA 0, 158, .inl ms)), (h2, .inl (dA 0, 158, .inl mb)), (h3, .inl (dA 0, 158, .inl mv)), (h4, .inl (dA 0, 1264, .inl mp)), (h5, .inl (dA 1, 180, .inl mo)), (h6, .inl (dA 1, 60, .inl mI)), (h7, .inl (dA 0, 240, .inl mc))]) (ty := .int) hx hb ha in_X12 tyX12 tyX12_ok nmX12 hown hK hP hD hS 0 rfl rfl 5 (by decide) m_1654 rfl (tyX12_ok 5 (by decide)) rfl rfl (Nat.le_of_ble_eq_true rfl) rfl dX12_undo_32 (fun H locs hP hD hS => ?_)
    refine lv_aload_n hx hb dX12_undo_35 rfl (lv_at hl 0 rfl) ?_
    refine gt_f (C := RX12) (T := TX12) (N := 17) hx hb ha in_X12 hown hK hP 0 rfl rfl 4 (by decide) m_1653 rfl dX12_undo_36 ?_
    refine lv_sipush (v := 158) hx hb dX12_undo_39 (by decide) ?_
    refine lv_aload_n hx hb dX12_undo_42 rfl (lv_at hl 0 rfl) ?_
    refine gt_f (C := RX12) (T := TX12) (N := 17) hx hb ha in_X12 hown hK hP 0 rfl rfl 5 (by decide) m_1654 rfl dX12_undo_43 ?_
    refine lv_imul hx hb dX12_undo_46 ?_
    refine lv_aload_n hx hb dX12_undo_47 rfl (lv_at hl 0 rfl) ?_
    refine gt_f (C := RX12) (T := TX12) (N := 17) hx hb ha in_X12 hown hK hP 0 rfl rfl 0 (by decide) m_1649 rfl dX12_undo_48 ?_
    refine lv_iconst (v := 0) hx hb dX12_undo_51 (by decide) ?_
    refine lv_sipush (v := 158) hx hb dX12_undo_52 (by decide) ?_
    obtain ⟨hi, hf⟩ := sf_ge hf
    obtain ⟨a_2, ea_2, hf⟩ := sf_ne hf
    refine cp_i (ws' := [(h0, .inr (10, [.ref h1, .ref h2, .ref h3, .int mi, .ref h4, .int x_1, .int (0 : Int32), .ref h5, .int mO, .ref h6, .int mL, .int mA, .int mW, .int mE, .int mF, .ref h7, .int mM])), (h1, .inl (dA 0, 158, .inl a_2)), (h2, .inl (dA 0, 158, .inl mb)), (h3, .inl (dA 0, 158, .inl mv)), (h4, .inl (dA 0, 1264, .inl mp)), (h5, .inl (dA 1, 180, .inl mo)), (h6, .inl (dA 1, 60, .inl mI)), (h7, .inl (dA 0, 240, .inl mc))]) hx hb ha hown hml hl.1 m_1713 m_542 m_541 m_86 hK hP hD hS 4 1 rfl rfl hi ea_2 rfl ⟨Nat.le_of_ble_eq_true rfl, Nat.le_of_ble_eq_true rfl⟩ dX12_undo_55 (fun H locs hP hD hS => ?_)
    refine lv_aload_n hx hb dX12_undo_58 rfl (lv_at hl 0 rfl) ?_
    refine gt_f (C := RX12) (T := TX12) (N := 17) hx hb ha in_X12 hown hK hP 0 rfl rfl 5 (by decide) m_1654 rfl dX12_undo_59 ?_
    cases hf
    exact rt_Mi hx hb hr hlocks (hP.sub [0, 1, 2, 3, 4, 5, 6, 7] rfl) (hD.sub [0, 1, 2, 3, 4, 5, 6, 7] (by decide) rfl) hS dX12_undo_62
  · have hf := sf_bp hf hc
    refine lv_iconst (v := 1) hx hb dX12_undo_8 (by decide) ?_
    refine lv_goto (tgt := 13) hx hb dX12_undo_9 (by decide) ?_
    refine pt_f (C := RX12) (T := TX12) (N := 17) (ws' := [(h0, .inr (10, [.ref h1, .ref h2, .ref h3, .int mi, .ref h4, .int mn, .int (1 : Int32), .ref h5, .int mO, .ref h6, .int mL, .int mA, .int mW, .int mE, .int mF, .ref h7, .int mM])), (h1, .inl (dA 0, 158, .inl ms)), (h2, .inl (dA 0, 158, .inl mb)), (h3, .inl (dA 0, 158, .inl mv)), (h4, .inl (dA 0, 1264, .inl mp)), (h5, .inl (dA 1, 180, .inl mo)), (h6, .inl (dA 1, 60, .inl mI)), (h7, .inl (dA 0, 240, .inl mc))]) (ty := .int) hx hb ha in_X12 tyX12 tyX12_ok nmX12 hown hK hP hD hS 0 rfl rfl 6 (by decide) m_1655 rfl (tyX12_ok 6 (by decide)) rfl rfl (Nat.le_of_ble_eq_true rfl) rfl dX12_undo_13 (fun H locs hP hD hS => ?_)
    refine lv_aload_n hx hb dX12_undo_16 rfl (lv_at hl 0 rfl) ?_
    refine gt_f (C := RX12) (T := TX12) (N := 17) hx hb ha in_X12 hown hK hP 0 rfl rfl 6 (by decide) m_1655 rfl dX12_undo_17 ?_
    refine lv_if_le (tgt := 25) hx hb dX12_undo_20 (by decide) (fun hc => absurd hc (by decide)) (fun hc => ?_)
    refine lv_iconst (v := 0) hx hb dX12_undo_23 (by decide) ?_
    cases hf
    exact rt_Mi hx hb hr hlocks (hP.sub [0, 1, 2, 3, 4, 5, 6, 7] rfl) (hD.sub [0, 1, 2, 3, 4, 5, 6, 7] (by decide) rfl) hS dX12_undo_24

def f_X12_save (ms : Nat → Int32) (mv : Nat → Int32) (mi : Int32) (mt : Int32) : Option (Int32 × (Nat → Int32) × Int32 × Int32) :=
  sf_g (sf_in (2 : Int32) 158 = true) (some ((ms (2 : Int32).toNatClampNeg), ms, (1 : Int32), (0 : Int32)))
theorem yd_X12_save : yX12_save.cls = RX12 ∧ yX12_save.cls ≠ "java/lang/invoke/MethodHandle" ∧ yX12_save.cls ≠ "java/lang/invoke/VarHandle" ∧ (parseMethodDescriptor yX12_save.desc).map (fun d => d.parameters.length) = some 0 := ⟨rfl, by decide, by decide, by decide +kernel⟩
set_option maxRecDepth 100000 in
set_option maxHeartbeats 4000000 in
theorem c_X12_save (l : Launch) (D : va_G) (dA : Nat → ClassId) (h0 h1 h2 h3 h4 h5 h6 h7 : Nat) (sz : Nat) (ms : Nat → Int32) (mb : Nat → Int32) (mv : Nat → Int32) (mi : Int32) (mp : Nat → Int32) (mn : Int32) (mt : Int32) (mo : Nat → Int32) (mO : Int32) (mI : Nat → Int32) (mL : Int32) (mA : Int32) (mW : Int32) (mE : Int32) (mF : Int32) (mc : Nat → Int32) (mM : Int32) (rr : Int32) (q_mv : Nat → Int32) (q_mi : Int32) (q_mt : Int32) (hf : f_X12_save ms mv mi mt = some (rr, q_mv, q_mi, q_mt)) : Met l yX12_save (wo (.code yX12_save cX12_save 1 (some .int))) ({ frames := 1, cells := 0, slots := 0, locals := 90 } : Room) (preM D dA [.ref h0] sz [(h0, .inr (10, [.ref h1, .ref h2, .ref h3, .int mi, .ref h4, .int mn, .int mt, .ref h5, .int mO, .ref h6, .int mL, .int mA, .int mW, .int mE, .int mF, .ref h7, .int mM])), (h1, .inl (dA 0, 158, .inl ms)), (h2, .inl (dA 0, 158, .inl mb)), (h3, .inl (dA 0, 158, .inl mv)), (h4, .inl (dA 0, 1264, .inl mp)), (h5, .inl (dA 1, 180, .inl mo)), (h6, .inl (dA 1, 60, .inl mI)), (h7, .inl (dA 0, 240, .inl mc))]) (poMi D rr [(h0, .inr (10, [.ref h1, .ref h2, .ref h3, .int q_mi, .ref h4, .int mn, .int q_mt, .ref h5, .int mO, .ref h6, .int mL, .int mA, .int mW, .int mE, .int mF, .ref h7, .int mM])), (h1, .inl (dA 0, 158, .inl ms)), (h2, .inl (dA 0, 158, .inl mb)), (h3, .inl (dA 0, 158, .inl q_mv)), (h4, .inl (dA 0, 1264, .inl mp)), (h5, .inl (dA 1, 180, .inl mo)), (h6, .inl (dA 1, 60, .inl mI)), (h7, .inl (dA 0, 240, .inl mc))] (va_A [(h0, .inr (10, [.ref h1, .ref h2, .ref h3, .int mi, .ref h4, .int mn, .int mt, .ref h5, .int mO, .ref h6, .int mL, .int mA, .int mW, .int mE, .int mF, .ref h7, .int mM])), (h1, .inl (dA 0, 158, .inl ms)), (h2, .inl (dA 0, 158, .inl mb)), (h3, .inl (dA 0, 158, .inl mv)), (h4, .inl (dA 0, 1264, .inl mp)), (h5, .inl (dA 1, 180, .inl mo)), (h6, .inl (dA 1, 60, .inl mI)), (h7, .inl (dA 0, 240, .inl mc))] sz)) 0 0 (va_A [(h0, .inr (10, [.ref h1, .ref h2, .ref h3, .int mi, .ref h4, .int mn, .int mt, .ref h5, .int mO, .ref h6, .int mL, .int mA, .int mW, .int mE, .int mF, .ref h7, .int mM])), (h1, .inl (dA 0, 158, .inl ms)), (h2, .inl (dA 0, 158, .inl mb)), (h3, .inl (dA 0, 158, .inl mv)), (h4, .inl (dA 0, 1264, .inl mp)), (h5, .inl (dA 1, 180, .inl mo)), (h6, .inl (dA 1, 60, .inl mI)), (h7, .inl (dA 0, 240, .inl mc))] sz) := by
  refine of_M (y := yX12_save) (av := [.ref h0]) (ws := [(h0, .inr (10, [.ref h1, .ref h2, .ref h3, .int mi, .ref h4, .int mn, .int mt, .ref h5, .int mO, .ref h6, .int mL, .int mA, .int mW, .int mE, .int mF, .ref h7, .int mM])), (h1, .inl (dA 0, 158, .inl ms)), (h2, .inl (dA 0, 158, .inl mb)), (h3, .inl (dA 0, 158, .inl mv)), (h4, .inl (dA 0, 1264, .inl mp)), (h5, .inl (dA 1, 180, .inl mo)), (h6, .inl (dA 1, 60, .inl mI)), (h7, .inl (dA 0, 240, .inl mc))]) (sz := sz) (own := RX12) (Qc := poMi D rr [(h0, .inr (10, [.ref h1, .ref h2, .ref h3, .int q_mi, .ref h4, .int mn, .int q_mt, .ref h5, .int mO, .ref h6, .int mL, .int mA, .int mW, .int mE, .int mF, .ref h7, .int mM])), (h1, .inl (dA 0, 158, .inl ms)), (h2, .inl (dA 0, 158, .inl mb)), (h3, .inl (dA 0, 158, .inl q_mv)), (h4, .inl (dA 0, 1264, .inl mp)), (h5, .inl (dA 1, 180, .inl mo)), (h6, .inl (dA 1, 60, .inl mI)), (h7, .inl (dA 0, 240, .inl mc))]) (by decide) rfl (Nat.le_of_ble_eq_true rfl) ?_
  intro p e s m below meth c A hx hb hr ha hown hml hlocks hin hP hK hD hS hA ls hl
  have hl : lv_has ls 1 [(0, .ref h0)] := hl
  rw [f_X12_save] at hf
  refine lv_aload_n hx hb dX12_save_0 rfl (lv_at hl 0 rfl) ?_
  refine lv_iconst (v := 0) hx hb dX12_save_1 (by decide) ?_
  refine pt_f (C := RX12) (T := TX12) (N := 17) (ws' := [(h0, .inr (10, [.ref h1, .ref h2, .ref h3, .int mi, .ref h4, .int mn, .int (0 : Int32), .ref h5, .int mO, .ref h6, .int mL, .int mA, .int mW, .int mE, .int mF, .ref h7, .int mM])), (h1, .inl (dA 0, 158, .inl ms)), (h2, .inl (dA 0, 158, .inl mb)), (h3, .inl (dA 0, 158, .inl mv)), (h4, .inl (dA 0, 1264, .inl mp)), (h5, .inl (dA 1, 180, .inl mo)), (h6, .inl (dA 1, 60, .inl mI)), (h7, .inl (dA 0, 240, .inl mc))]) (ty := .int) hx hb ha in_X12 tyX12 tyX12_ok nmX12 hown hK hP hD hS 0 rfl rfl 6 (by decide) m_1655 rfl (tyX12_ok 6 (by decide)) rfl rfl (Nat.le_of_ble_eq_true rfl) rfl dX12_save_2 (fun H locs hP hD hS => ?_)
  refine lv_aload_n hx hb dX12_save_5 rfl (lv_at hl 0 rfl) ?_
  refine gt_f (C := RX12) (T := TX12) (N := 17) hx hb ha in_X12 hown hK hP 0 rfl rfl 0 (by decide) m_1649 rfl dX12_save_6 ?_
  refine lv_iconst (v := 0) hx hb dX12_save_9 (by decide) ?_
  refine lv_aload_n hx hb dX12_save_10 rfl (lv_at hl 0 rfl) ?_
  refine gt_f (C := RX12) (T := TX12) (N := 17) hx hb ha in_X12 hown hK hP 0 rfl rfl 2 (by decide) m_1651 rfl dX12_save_11 ?_
  refine lv_iconst (v := 0) hx hb dX12_save_14 (by decide) ?_
  refine lv_sipush (v := 158) hx hb dX12_save_15 (by decide) ?_
  refine cp_if (ws' := [(h0, .inr (10, [.ref h1, .ref h2, .ref h3, .int mi, .ref h4, .int mn, .int (0 : Int32), .ref h5, .int mO, .ref h6, .int mL, .int mA, .int mW, .int mE, .int mF, .ref h7, .int mM])), (h1, .inl (dA 0, 158, .inl ms)), (h2, .inl (dA 0, 158, .inl mb)), (h3, .inl (dA 0, 158, .inl ms)), (h4, .inl (dA 0, 1264, .inl mp)), (h5, .inl (dA 1, 180, .inl mo)), (h6, .inl (dA 1, 60, .inl mI)), (h7, .inl (dA 0, 240, .inl mc))]) hx hb ha hown hml hl.1 m_1713 m_542 m_541 m_86 hK hP hD hS 1 3 rfl rfl (by decide) rfl ⟨Nat.le_of_ble_eq_true rfl, Nat.le_of_ble_eq_true rfl⟩ dX12_save_18 (fun H locs hP hD hS => ?_)
  refine lv_aload_n hx hb dX12_save_21 rfl (lv_at hl 0 rfl) ?_
  refine lv_iconst (v := 1) hx hb dX12_save_22 (by decide) ?_
  refine pt_f (C := RX12) (T := TX12) (N := 17) (ws' := [(h0, .inr (10, [.ref h1, .ref h2, .ref h3, .int (1 : Int32), .ref h4, .int mn, .int (0 : Int32), .ref h5, .int mO, .ref h6, .int mL, .int mA, .int mW, .int mE, .int mF, .ref h7, .int mM])), (h1, .inl (dA 0, 158, .inl ms)), (h2, .inl (dA 0, 158, .inl mb)), (h3, .inl (dA 0, 158, .inl ms)), (h4, .inl (dA 0, 1264, .inl mp)), (h5, .inl (dA 1, 180, .inl mo)), (h6, .inl (dA 1, 60, .inl mI)), (h7, .inl (dA 0, 240, .inl mc))]) (ty := .boolean) hx hb ha in_X12 tyX12 tyX12_ok nmX12 hown hK hP hD hS 0 rfl rfl 3 (by decide) m_1652 rfl (tyX12_ok 3 (by decide)) rfl rfl (Nat.le_of_ble_eq_true rfl) rfl dX12_save_23 (fun H locs hP hD hS => ?_)
  refine lv_aload_n hx hb dX12_save_26 rfl (lv_at hl 0 rfl) ?_
  refine gt_f (C := RX12) (T := TX12) (N := 17) hx hb ha in_X12 hown hK hP 0 rfl rfl 0 (by decide) m_1649 rfl dX12_save_27 ?_
  refine lv_iconst (v := 2) hx hb dX12_save_30 (by decide) ?_
  obtain ⟨hi, hf⟩ := sf_ge hf
  refine ia_ld hx hb hK hP 1 rfl hi dX12_save_31 ?_
  cases hf
  exact rt_Mi hx hb hr hlocks (hP.sub [0, 1, 2, 3, 4, 5, 6, 7] rfl) (hD.sub [0, 1, 2, 3, 4, 5, 6, 7] (by decide) rfl) hS dX12_save_32

def f_X12_restore (ms : Nat → Int32) (mv : Nat → Int32) (mi : Int32) (mn : Int32) (mt : Int32) : Option (Int32 × (Nat → Int32) × Int32 × Int32) :=
  sf_b (mi = (0 : Int32)) (some ((0 : Int32), ms, mn, (1 : Int32))) (sf_g (sf_in (2 : Int32) 158 = true) (some ((mv (2 : Int32).toNatClampNeg), mv, (0 : Int32), (0 : Int32))))
theorem yd_X12_restore : yX12_restore.cls = RX12 ∧ yX12_restore.cls ≠ "java/lang/invoke/MethodHandle" ∧ yX12_restore.cls ≠ "java/lang/invoke/VarHandle" ∧ (parseMethodDescriptor yX12_restore.desc).map (fun d => d.parameters.length) = some 0 := ⟨rfl, by decide, by decide, by decide +kernel⟩
set_option maxRecDepth 100000 in
set_option maxHeartbeats 4000000 in
theorem c_X12_restore (l : Launch) (D : va_G) (dA : Nat → ClassId) (h0 h1 h2 h3 h4 h5 h6 h7 : Nat) (sz : Nat) (ms : Nat → Int32) (mb : Nat → Int32) (mv : Nat → Int32) (mi : Int32) (mp : Nat → Int32) (mn : Int32) (mt : Int32) (mo : Nat → Int32) (mO : Int32) (mI : Nat → Int32) (mL : Int32) (mA : Int32) (mW : Int32) (mE : Int32) (mF : Int32) (mc : Nat → Int32) (mM : Int32) (rr : Int32) (q_ms : Nat → Int32) (q_mn : Int32) (q_mt : Int32) (hf : f_X12_restore ms mv mi mn mt = some (rr, q_ms, q_mn, q_mt)) : Met l yX12_restore (wo (.code yX12_restore cX12_restore 1 (some .int))) ({ frames := 1, cells := 0, slots := 0, locals := 90 } : Room) (preM D dA [.ref h0] sz [(h0, .inr (10, [.ref h1, .ref h2, .ref h3, .int mi, .ref h4, .int mn, .int mt, .ref h5, .int mO, .ref h6, .int mL, .int mA, .int mW, .int mE, .int mF, .ref h7, .int mM])), (h1, .inl (dA 0, 158, .inl ms)), (h2, .inl (dA 0, 158, .inl mb)), (h3, .inl (dA 0, 158, .inl mv)), (h4, .inl (dA 0, 1264, .inl mp)), (h5, .inl (dA 1, 180, .inl mo)), (h6, .inl (dA 1, 60, .inl mI)), (h7, .inl (dA 0, 240, .inl mc))]) (poMi D rr [(h0, .inr (10, [.ref h1, .ref h2, .ref h3, .int mi, .ref h4, .int q_mn, .int q_mt, .ref h5, .int mO, .ref h6, .int mL, .int mA, .int mW, .int mE, .int mF, .ref h7, .int mM])), (h1, .inl (dA 0, 158, .inl q_ms)), (h2, .inl (dA 0, 158, .inl mb)), (h3, .inl (dA 0, 158, .inl mv)), (h4, .inl (dA 0, 1264, .inl mp)), (h5, .inl (dA 1, 180, .inl mo)), (h6, .inl (dA 1, 60, .inl mI)), (h7, .inl (dA 0, 240, .inl mc))] (va_A [(h0, .inr (10, [.ref h1, .ref h2, .ref h3, .int mi, .ref h4, .int mn, .int mt, .ref h5, .int mO, .ref h6, .int mL, .int mA, .int mW, .int mE, .int mF, .ref h7, .int mM])), (h1, .inl (dA 0, 158, .inl ms)), (h2, .inl (dA 0, 158, .inl mb)), (h3, .inl (dA 0, 158, .inl mv)), (h4, .inl (dA 0, 1264, .inl mp)), (h5, .inl (dA 1, 180, .inl mo)), (h6, .inl (dA 1, 60, .inl mI)), (h7, .inl (dA 0, 240, .inl mc))] sz)) 0 0 (va_A [(h0, .inr (10, [.ref h1, .ref h2, .ref h3, .int mi, .ref h4, .int mn, .int mt, .ref h5, .int mO, .ref h6, .int mL, .int mA, .int mW, .int mE, .int mF, .ref h7, .int mM])), (h1, .inl (dA 0, 158, .inl ms)), (h2, .inl (dA 0, 158, .inl mb)), (h3, .inl (dA 0, 158, .inl mv)), (h4, .inl (dA 0, 1264, .inl mp)), (h5, .inl (dA 1, 180, .inl mo)), (h6, .inl (dA 1, 60, .inl mI)), (h7, .inl (dA 0, 240, .inl mc))] sz) := by
  refine of_M (y := yX12_restore) (av := [.ref h0]) (ws := [(h0, .inr (10, [.ref h1, .ref h2, .ref h3, .int mi, .ref h4, .int mn, .int mt, .ref h5, .int mO, .ref h6, .int mL, .int mA, .int mW, .int mE, .int mF, .ref h7, .int mM])), (h1, .inl (dA 0, 158, .inl ms)), (h2, .inl (dA 0, 158, .inl mb)), (h3, .inl (dA 0, 158, .inl mv)), (h4, .inl (dA 0, 1264, .inl mp)), (h5, .inl (dA 1, 180, .inl mo)), (h6, .inl (dA 1, 60, .inl mI)), (h7, .inl (dA 0, 240, .inl mc))]) (sz := sz) (own := RX12) (Qc := poMi D rr [(h0, .inr (10, [.ref h1, .ref h2, .ref h3, .int mi, .ref h4, .int q_mn, .int q_mt, .ref h5, .int mO, .ref h6, .int mL, .int mA, .int mW, .int mE, .int mF, .ref h7, .int mM])), (h1, .inl (dA 0, 158, .inl q_ms)), (h2, .inl (dA 0, 158, .inl mb)), (h3, .inl (dA 0, 158, .inl mv)), (h4, .inl (dA 0, 1264, .inl mp)), (h5, .inl (dA 1, 180, .inl mo)), (h6, .inl (dA 1, 60, .inl mI)), (h7, .inl (dA 0, 240, .inl mc))]) (by decide) rfl (Nat.le_of_ble_eq_true rfl) ?_
  intro p e s m below meth c A hx hb hr ha hown hml hlocks hin hP hK hD hS hA ls hl
  have hl : lv_has ls 1 [(0, .ref h0)] := hl
  rw [f_X12_restore] at hf
  refine lv_aload_n hx hb dX12_restore_0 rfl (lv_at hl 0 rfl) ?_
  refine lv_aload_n hx hb dX12_restore_1 rfl (lv_at hl 0 rfl) ?_
  refine gt_f (C := RX12) (T := TX12) (N := 17) hx hb ha in_X12 hown hK hP 0 rfl rfl 3 (by decide) m_1652 rfl dX12_restore_2 ?_
  refine lv_if_eq (tgt := 12) hx hb dX12_restore_5 (by decide) (fun hc => ?_) (fun hc => ?_)
  · have hf := sf_bp hf hc
    refine lv_iconst (v := 1) hx hb dX12_restore_12 (by decide) ?_
    refine pt_f (C := RX12) (T := TX12) (N := 17) (ws' := [(h0, .inr (10, [.ref h1, .ref h2, .ref h3, .int mi, .ref h4, .int mn, .int (1 : Int32), .ref h5, .int mO, .ref h6, .int mL, .int mA, .int mW, .int mE, .int mF, .ref h7, .int mM])), (h1, .inl (dA 0, 158, .inl ms)), (h2, .inl (dA 0, 158, .inl mb)), (h3, .inl (dA 0, 158, .inl mv)), (h4, .inl (dA 0, 1264, .inl mp)), (h5, .inl (dA 1, 180, .inl mo)), (h6, .inl (dA 1, 60, .inl mI)), (h7, .inl (dA 0, 240, .inl mc))]) (ty := .int) hx hb ha in_X12 tyX12 tyX12_ok nmX12 hown hK hP hD hS 0 rfl rfl 6 (by decide) m_1655 rfl (tyX12_ok 6 (by decide)) rfl rfl (Nat.le_of_ble_eq_true rfl) rfl dX12_restore_13 (fun H locs hP hD hS => ?_)
    refine lv_aload_n hx hb dX12_restore_16 rfl (lv_at hl 0 rfl) ?_
    refine gt_f (C := RX12) (T := TX12) (N := 17) hx hb ha in_X12 hown hK hP 0 rfl rfl 6 (by decide) m_1655 rfl dX12_restore_17 ?_
    refine lv_if_le (tgt := 25) hx hb dX12_restore_20 (by decide) (fun hc => absurd hc (by decide)) (fun hc => ?_)
    refine lv_iconst (v := 0) hx hb dX12_restore_23 (by decide) ?_
    cases hf
    exact rt_Mi hx hb hr hlocks (hP.sub [0, 1, 2, 3, 4, 5, 6, 7] rfl) (hD.sub [0, 1, 2, 3, 4, 5, 6, 7] (by decide) rfl) hS dX12_restore_24
  · have hf := sf_bn hf hc
    refine lv_iconst (v := 0) hx hb dX12_restore_8 (by decide) ?_
    refine lv_goto (tgt := 13) hx hb dX12_restore_9 (by decide) ?_
    refine pt_f (C := RX12) (T := TX12) (N := 17) (ws' := [(h0, .inr (10, [.ref h1, .ref h2, .ref h3, .int mi, .ref h4, .int mn, .int (0 : Int32), .ref h5, .int mO, .ref h6, .int mL, .int mA, .int mW, .int mE, .int mF, .ref h7, .int mM])), (h1, .inl (dA 0, 158, .inl ms)), (h2, .inl (dA 0, 158, .inl mb)), (h3, .inl (dA 0, 158, .inl mv)), (h4, .inl (dA 0, 1264, .inl mp)), (h5, .inl (dA 1, 180, .inl mo)), (h6, .inl (dA 1, 60, .inl mI)), (h7, .inl (dA 0, 240, .inl mc))]) (ty := .int) hx hb ha in_X12 tyX12 tyX12_ok nmX12 hown hK hP hD hS 0 rfl rfl 6 (by decide) m_1655 rfl (tyX12_ok 6 (by decide)) rfl rfl (Nat.le_of_ble_eq_true rfl) rfl dX12_restore_13 (fun H locs hP hD hS => ?_)
    refine lv_aload_n hx hb dX12_restore_16 rfl (lv_at hl 0 rfl) ?_
    refine gt_f (C := RX12) (T := TX12) (N := 17) hx hb ha in_X12 hown hK hP 0 rfl rfl 6 (by decide) m_1655 rfl dX12_restore_17 ?_
    refine lv_if_le (tgt := 25) hx hb dX12_restore_20 (by decide) (fun hc => ?_) (fun hc => absurd (by decide) hc)
    refine lv_aload_n hx hb dX12_restore_25 rfl (lv_at hl 0 rfl) ?_
    refine gt_f (C := RX12) (T := TX12) (N := 17) hx hb ha in_X12 hown hK hP 0 rfl rfl 2 (by decide) m_1651 rfl dX12_restore_26 ?_
    refine lv_iconst (v := 0) hx hb dX12_restore_29 (by decide) ?_
    refine lv_aload_n hx hb dX12_restore_30 rfl (lv_at hl 0 rfl) ?_
    refine gt_f (C := RX12) (T := TX12) (N := 17) hx hb ha in_X12 hown hK hP 0 rfl rfl 0 (by decide) m_1649 rfl dX12_restore_31 ?_
    refine lv_iconst (v := 0) hx hb dX12_restore_34 (by decide) ?_
    refine lv_sipush (v := 158) hx hb dX12_restore_35 (by decide) ?_
    refine cp_if (ws' := [(h0, .inr (10, [.ref h1, .ref h2, .ref h3, .int mi, .ref h4, .int mn, .int (0 : Int32), .ref h5, .int mO, .ref h6, .int mL, .int mA, .int mW, .int mE, .int mF, .ref h7, .int mM])), (h1, .inl (dA 0, 158, .inl mv)), (h2, .inl (dA 0, 158, .inl mb)), (h3, .inl (dA 0, 158, .inl mv)), (h4, .inl (dA 0, 1264, .inl mp)), (h5, .inl (dA 1, 180, .inl mo)), (h6, .inl (dA 1, 60, .inl mI)), (h7, .inl (dA 0, 240, .inl mc))]) hx hb ha hown hml hl.1 m_1713 m_542 m_541 m_86 hK hP hD hS 3 1 rfl rfl (by decide) rfl ⟨Nat.le_of_ble_eq_true rfl, Nat.le_of_ble_eq_true rfl⟩ dX12_restore_38 (fun H locs hP hD hS => ?_)
    refine lv_aload_n hx hb dX12_restore_41 rfl (lv_at hl 0 rfl) ?_
    refine lv_iconst (v := 0) hx hb dX12_restore_42 (by decide) ?_
    refine pt_f (C := RX12) (T := TX12) (N := 17) (ws' := [(h0, .inr (10, [.ref h1, .ref h2, .ref h3, .int mi, .ref h4, .int (0 : Int32), .int (0 : Int32), .ref h5, .int mO, .ref h6, .int mL, .int mA, .int mW, .int mE, .int mF, .ref h7, .int mM])), (h1, .inl (dA 0, 158, .inl mv)), (h2, .inl (dA 0, 158, .inl mb)), (h3, .inl (dA 0, 158, .inl mv)), (h4, .inl (dA 0, 1264, .inl mp)), (h5, .inl (dA 1, 180, .inl mo)), (h6, .inl (dA 1, 60, .inl mI)), (h7, .inl (dA 0, 240, .inl mc))]) (ty := .int) hx hb ha in_X12 tyX12 tyX12_ok nmX12 hown hK hP hD hS 0 rfl rfl 5 (by decide) m_1654 rfl (tyX12_ok 5 (by decide)) rfl rfl (Nat.le_of_ble_eq_true rfl) rfl dX12_restore_43 (fun H locs hP hD hS => ?_)
    refine lv_aload_n hx hb dX12_restore_46 rfl (lv_at hl 0 rfl) ?_
    refine gt_f (C := RX12) (T := TX12) (N := 17) hx hb ha in_X12 hown hK hP 0 rfl rfl 0 (by decide) m_1649 rfl dX12_restore_47 ?_
    refine lv_iconst (v := 2) hx hb dX12_restore_50 (by decide) ?_
    obtain ⟨hi, hf⟩ := sf_ge hf
    refine ia_ld hx hb hK hP 1 rfl hi dX12_restore_51 ?_
    cases hf
    exact rt_Mi hx hb hr hlocks (hP.sub [0, 1, 2, 3, 4, 5, 6, 7] rfl) (hD.sub [0, 1, 2, 3, 4, 5, 6, 7] (by decide) rfl) hS dX12_restore_52

