def f_X6_copyFrom (gc : Int32) (gp : Nat → Int32) (gr : Nat → Int32) (o_gc : Int32) (o_gp : Nat → Int32) (o_gr : Nat → Int32) : Option (Int32 × (Nat → Int32) × (Nat → Int32)) :=
  some (o_gc, o_gp, o_gr)
theorem yd_X6_copyFrom : yX6_copyFrom.cls = RX6 ∧ yX6_copyFrom.cls ≠ "java/lang/invoke/MethodHandle" ∧ yX6_copyFrom.cls ≠ "java/lang/invoke/VarHandle" ∧ (parseMethodDescriptor yX6_copyFrom.desc).map (fun d => d.parameters.length) = some 1 := ⟨rfl, by decide, by decide, by decide +kernel⟩
set_option maxRecDepth 100000 in
set_option maxHeartbeats 4000000 in
theorem c_X6_copyFrom (l : Launch) (D : va_G) (dA : Nat → ClassId) (h0 h1 h2 h3 h4 h5 : Nat) (sz : Nat) (gc : Int32) (gp : Nat → Int32) (gr : Nat → Int32) (o_gc : Int32) (o_gp : Nat → Int32) (o_gr : Nat → Int32) (q_gc : Int32) (q_gp : Nat → Int32) (q_gr : Nat → Int32) (hf : f_X6_copyFrom gc gp gr o_gc o_gp o_gr = some (q_gc, q_gp, q_gr)) : Met l yX6_copyFrom (wo (.code yX6_copyFrom cX6_copyFrom 2 none)) ({ frames := 1, cells := 0, slots := 0, locals := 90 } : Room) (preM D dA [.ref h0, .ref h3] sz [(h0, .inr (4, [.int gc, .ref h1, .ref h2])), (h1, .inl (dA 0, 10, .inl gp)), (h2, .inl (dA 0, 10, .inl gr)), (h3, .inr (4, [.int o_gc, .ref h4, .ref h5])), (h4, .inl (dA 0, 10, .inl o_gp)), (h5, .inl (dA 0, 10, .inl o_gr))]) (poMv D [(h0, .inr (4, [.int q_gc, .ref h1, .ref h2])), (h1, .inl (dA 0, 10, .inl q_gp)), (h2, .inl (dA 0, 10, .inl q_gr)), (h3, .inr (4, [.int o_gc, .ref h4, .ref h5])), (h4, .inl (dA 0, 10, .inl o_gp)), (h5, .inl (dA 0, 10, .inl o_gr))] (va_A [(h0, .inr (4, [.int gc, .ref h1, .ref h2])), (h1, .inl (dA 0, 10, .inl gp)), (h2, .inl (dA 0, 10, .inl gr)), (h3, .inr (4, [.int o_gc, .ref h4, .ref h5])), (h4, .inl (dA 0, 10, .inl o_gp)), (h5, .inl (dA 0, 10, .inl o_gr))] sz)) 0 0 (va_A [(h0, .inr (4, [.int gc, .ref h1, .ref h2])), (h1, .inl (dA 0, 10, .inl gp)), (h2, .inl (dA 0, 10, .inl gr)), (h3, .inr (4, [.int o_gc, .ref h4, .ref h5])), (h4, .inl (dA 0, 10, .inl o_gp)), (h5, .inl (dA 0, 10, .inl o_gr))] sz) := by
  refine of_M (y := yX6_copyFrom) (cc := cX6_copyFrom) (maxL := 2) (ret := none) (av := [.ref h0, .ref h3]) (ws := [(h0, .inr (4, [.int gc, .ref h1, .ref h2])), (h1, .inl (dA 0, 10, .inl gp)), (h2, .inl (dA 0, 10, .inl gr)), (h3, .inr (4, [.int o_gc, .ref h4, .ref h5])), (h4, .inl (dA 0, 10, .inl o_gp)), (h5, .inl (dA 0, 10, .inl o_gr))]) (sz := sz) (own := RX6) (Qc := poMv D [(h0, .inr (4, [.int q_gc, .ref h1, .ref h2])), (h1, .inl (dA 0, 10, .inl q_gp)), (h2, .inl (dA 0, 10, .inl q_gr)), (h3, .inr (4, [.int o_gc, .ref h4, .ref h5])), (h4, .inl (dA 0, 10, .inl o_gp)), (h5, .inl (dA 0, 10, .inl o_gr))]) (by decide) rfl (Nat.le_of_ble_eq_true rfl) ?_
  intro p e s m below meth c A hx hb hr ha hown hml hlocks hin hP hK hD hS hA ls hl
  have hl : lv_has ls 2 [(0, .ref h0), (1, .ref h3)] := hl
  rw [f_X6_copyFrom] at hf
  refine lv_aload_n hx hb dX6_copyFrom_0 rfl (lv_at hl 0 rfl) ?_
  refine lv_aload_n hx hb dX6_copyFrom_1 rfl (lv_at hl 1 rfl) ?_
  refine gt_f (C := RX6) (T := TX6) (N := 3) hx hb ha in_X6 hown hK hP 3 rfl rfl 0 (by decide) m_118 rfl dX6_copyFrom_2 ?_
  refine pt_f (C := RX6) (T := TX6) (N := 3) (ws' := [(h0, .inr (4, [.int o_gc, .ref h1, .ref h2])), (h1, .inl (dA 0, 10, .inl gp)), (h2, .inl (dA 0, 10, .inl gr)), (h3, .inr (4, [.int o_gc, .ref h4, .ref h5])), (h4, .inl (dA 0, 10, .inl o_gp)), (h5, .inl (dA 0, 10, .inl o_gr))]) (ty := .int) hx hb ha in_X6 tyX6 tyX6_ok nmX6 hown hK hP hD hS 0 rfl rfl 0 (by decide) m_118 rfl (tyX6_ok 0 (by decide)) rfl rfl (Nat.le_of_ble_eq_true rfl) rfl dX6_copyFrom_5 (fun H locs hP hD hS => ?_)
  refine lv_aload_n hx hb dX6_copyFrom_8 rfl (lv_at hl 1 rfl) ?_
  refine gt_f (C := RX6) (T := TX6) (N := 3) hx hb ha in_X6 hown hK hP 3 rfl rfl 1 (by decide) m_121 rfl dX6_copyFrom_9 ?_
  refine lv_iconst (v := 0) hx hb dX6_copyFrom_12 (by decide) ?_
  refine lv_aload_n hx hb dX6_copyFrom_13 rfl (lv_at hl 0 rfl) ?_
  refine gt_f (C := RX6) (T := TX6) (N := 3) hx hb ha in_X6 hown hK hP 0 rfl rfl 1 (by decide) m_121 rfl dX6_copyFrom_14 ?_
  refine lv_iconst (v := 0) hx hb dX6_copyFrom_17 (by decide) ?_
  refine lv_bipush (v := 10) hx hb dX6_copyFrom_18 (by decide) ?_
  refine cp_if (ws' := [(h0, .inr (4, [.int o_gc, .ref h1, .ref h2])), (h1, .inl (dA 0, 10, .inl o_gp)), (h2, .inl (dA 0, 10, .inl gr)), (h3, .inr (4, [.int o_gc, .ref h4, .ref h5])), (h4, .inl (dA 0, 10, .inl o_gp)), (h5, .inl (dA 0, 10, .inl o_gr))]) hx hb ha hown hml hl.1 m_392 m_387 m_386 m_45 hK hP hD hS 4 1 rfl rfl (by decide) rfl ⟨Nat.le_of_ble_eq_true rfl, Nat.le_of_ble_eq_true rfl⟩ dX6_copyFrom_20 (fun H locs hP hD hS => ?_)
  refine lv_aload_n hx hb dX6_copyFrom_23 rfl (lv_at hl 1 rfl) ?_
  refine gt_f (C := RX6) (T := TX6) (N := 3) hx hb ha in_X6 hown hK hP 3 rfl rfl 2 (by decide) m_124 rfl dX6_copyFrom_24 ?_
  refine lv_iconst (v := 0) hx hb dX6_copyFrom_27 (by decide) ?_
  refine lv_aload_n hx hb dX6_copyFrom_28 rfl (lv_at hl 0 rfl) ?_
  refine gt_f (C := RX6) (T := TX6) (N := 3) hx hb ha in_X6 hown hK hP 0 rfl rfl 2 (by decide) m_124 rfl dX6_copyFrom_29 ?_
  refine lv_iconst (v := 0) hx hb dX6_copyFrom_32 (by decide) ?_
  refine lv_bipush (v := 10) hx hb dX6_copyFrom_33 (by decide) ?_
  refine cp_if (ws' := [(h0, .inr (4, [.int o_gc, .ref h1, .ref h2])), (h1, .inl (dA 0, 10, .inl o_gp)), (h2, .inl (dA 0, 10, .inl o_gr)), (h3, .inr (4, [.int o_gc, .ref h4, .ref h5])), (h4, .inl (dA 0, 10, .inl o_gp)), (h5, .inl (dA 0, 10, .inl o_gr))]) hx hb ha hown hml hl.1 m_392 m_387 m_386 m_45 hK hP hD hS 5 2 rfl rfl (by decide) rfl ⟨Nat.le_of_ble_eq_true rfl, Nat.le_of_ble_eq_true rfl⟩ dX6_copyFrom_35 (fun H locs hP hD hS => ?_)
  cases hf
  exact rt_Mv hx hb hr hlocks (hP.sub [0, 1, 2, 3, 4, 5] rfl) (hD.sub [0, 1, 2, 3, 4, 5] (by decide) rfl) hS dX6_copyFrom_38

def f_X6_has (gc : Int32) (p0 : Int32) : Option Int32 :=
  sf_b (p0 < (0 : Int32)) (some (0 : Int32)) (sf_b (gc ≤ p0) (some (0 : Int32)) (some (1 : Int32)))
theorem yd_X6_has : yX6_has.cls = RX6 ∧ yX6_has.cls ≠ "java/lang/invoke/MethodHandle" ∧ yX6_has.cls ≠ "java/lang/invoke/VarHandle" ∧ (parseMethodDescriptor yX6_has.desc).map (fun d => d.parameters.length) = some 1 := ⟨rfl, by decide, by decide, by decide +kernel⟩
set_option maxRecDepth 100000 in
set_option maxHeartbeats 4000000 in
theorem c_X6_has (l : Launch) (D : va_G) (dA : Nat → ClassId) (h0 h1 h2 : Nat) (gc : Int32) (gp : Nat → Int32) (gr : Nat → Int32) (p0 : Int32) (rr : Int32) (hf : f_X6_has gc p0 = some rr) : Met l yX6_has (wo (.code yX6_has cX6_has 2 (some .boolean))) ({ frames := 0, cells := 0, slots := 0, locals := 0 } : Room) (preP D dA [.ref h0, .int p0] [(h0, .inr (4, [.int gc, .ref h1, .ref h2])), (h1, .inl (dA 0, 10, .inl gp)), (h2, .inl (dA 0, 10, .inl gr))]) (poPi rr) 0 0 noA := by
  refine of_P (own := RX6) (by decide) rfl (Nat.le_of_ble_eq_true rfl) ?_
  intro p e s m below meth c hx hb hr ha hown hml hlocks hP hK hS ls hl
  have hl : lv_has ls 2 [(0, .ref h0), (1, .int p0)] := hl
  rw [f_X6_has] at hf
  refine lv_iload_n hx hb dX6_has_0 rfl (lv_at hl 1 rfl) ?_
  refine lv_if_lt (tgt := 16) hx hb dX6_has_1 (by decide) (fun hc => ?_) (fun hc => ?_)
  · have hf := sf_bp hf hc
    refine lv_iconst (v := 0) hx hb dX6_has_16 (by decide) ?_
    exact rt_Pz hx hb hr hlocks (Option.some.inj hf) rfl hS dX6_has_17
  · have hf := sf_bn hf hc
    refine lv_iload_n hx hb dX6_has_4 rfl (lv_at hl 1 rfl) ?_
    refine lv_aload_n hx hb dX6_has_5 rfl (lv_at hl 0 rfl) ?_
    refine gt_f (C := RX6) (T := TX6) (N := 3) hx hb ha in_X6 hown hK hP 0 rfl rfl 0 (by decide) m_118 rfl dX6_has_6 ?_
    refine lv_icmp_ge (tgt := 16) hx hb dX6_has_9 (by decide) (fun hc => ?_) (fun hc => ?_)
    · have hf := sf_bp hf hc
      refine lv_iconst (v := 0) hx hb dX6_has_16 (by decide) ?_
      exact rt_Pz hx hb hr hlocks (Option.some.inj hf) rfl hS dX6_has_17
    · have hf := sf_bn hf hc
      refine lv_iconst (v := 1) hx hb dX6_has_12 (by decide) ?_
      refine lv_goto (tgt := 17) hx hb dX6_has_13 (by decide) ?_
      exact rt_Pz hx hb hr hlocks (Option.some.inj hf) rfl hS dX6_has_17

def f_X6_append (gc : Int32) (gp : Nat → Int32) (gr : Nat → Int32) : Option (Int32 × Int32 × (Nat → Int32) × (Nat → Int32)) :=
  sf_g (sf_in gc 10 = true) (sf_n (upd gp gc.toNatClampNeg (50 : Int32)) (fun a_1 => sf_g (sf_in gc 10 = true) (sf_n (upd gr gc.toNatClampNeg (0 : Int32)) (fun a_2 => sf_n ((gc + (1 : Int32))) (fun x_3 => some ((x_3 - (1 : Int32)), x_3, a_1, a_2))))))
theorem yd_X6_append : yX6_append.cls = RX6 ∧ yX6_append.cls ≠ "java/lang/invoke/MethodHandle" ∧ yX6_append.cls ≠ "java/lang/invoke/VarHandle" ∧ (parseMethodDescriptor yX6_append.desc).map (fun d => d.parameters.length) = some 0 := ⟨rfl, by decide, by decide, by decide +kernel⟩
set_option maxRecDepth 100000 in
set_option maxHeartbeats 4000000 in
theorem c_X6_append (l : Launch) (D : va_G) (dA : Nat → ClassId) (h0 h1 h2 : Nat) (sz : Nat) (gc : Int32) (gp : Nat → Int32) (gr : Nat → Int32) (rr : Int32) (q_gc : Int32) (q_gp : Nat → Int32) (q_gr : Nat → Int32) (hf : f_X6_append gc gp gr = some (rr, q_gc, q_gp, q_gr)) : Met l yX6_append (wo (.code yX6_append cX6_append 1 (some .int))) ({ frames := 0, cells := 0, slots := 0, locals := 0 } : Room) (preM D dA [.ref h0] sz [(h0, .inr (4, [.int gc, .ref h1, .ref h2])), (h1, .inl (dA 0, 10, .inl gp)), (h2, .inl (dA 0, 10, .inl gr))]) (poMi D rr [(h0, .inr (4, [.int q_gc, .ref h1, .ref h2])), (h1, .inl (dA 0, 10, .inl q_gp)), (h2, .inl (dA 0, 10, .inl q_gr))] (va_A [(h0, .inr (4, [.int gc, .ref h1, .ref h2])), (h1, .inl (dA 0, 10, .inl gp)), (h2, .inl (dA 0, 10, .inl gr))] sz)) 0 0 (va_A [(h0, .inr (4, [.int gc, .ref h1, .ref h2])), (h1, .inl (dA 0, 10, .inl gp)), (h2, .inl (dA 0, 10, .inl gr))] sz) := by
  refine of_M (y := yX6_append) (cc := cX6_append) (maxL := 1) (ret := (some .int)) (av := [.ref h0]) (ws := [(h0, .inr (4, [.int gc, .ref h1, .ref h2])), (h1, .inl (dA 0, 10, .inl gp)), (h2, .inl (dA 0, 10, .inl gr))]) (sz := sz) (own := RX6) (Qc := poMi D rr [(h0, .inr (4, [.int q_gc, .ref h1, .ref h2])), (h1, .inl (dA 0, 10, .inl q_gp)), (h2, .inl (dA 0, 10, .inl q_gr))]) (by decide) rfl (Nat.le_of_ble_eq_true rfl) ?_
  intro p e s m below meth c A hx hb hr ha hown hml hlocks hin hP hK hD hS hA ls hl
  have hl : lv_has ls 1 [(0, .ref h0)] := hl
  rw [f_X6_append] at hf
  refine lv_aload_n hx hb dX6_append_0 rfl (lv_at hl 0 rfl) ?_
  refine gt_f (C := RX6) (T := TX6) (N := 3) hx hb ha in_X6 hown hK hP 0 rfl rfl 1 (by decide) m_121 rfl dX6_append_1 ?_
  refine lv_aload_n hx hb dX6_append_4 rfl (lv_at hl 0 rfl) ?_
  refine gt_f (C := RX6) (T := TX6) (N := 3) hx hb ha in_X6 hown hK hP 0 rfl rfl 0 (by decide) m_118 rfl dX6_append_5 ?_
  refine lv_bipush (v := 50) hx hb dX6_append_8 (by decide) ?_
  obtain ⟨hi, hf⟩ := sf_ge hf
  obtain ⟨a_1, ea_1, hf⟩ := sf_ne hf
  refine ia_st (ws' := [(h0, .inr (4, [.int gc, .ref h1, .ref h2])), (h1, .inl (dA 0, 10, .inl a_1)), (h2, .inl (dA 0, 10, .inl gr))]) hx hb hK hP hD hS 1 rfl hi ea_1 rfl dX6_append_10 (fun H locs hP hD hS => ?_)
  refine lv_aload_n hx hb dX6_append_11 rfl (lv_at hl 0 rfl) ?_
  refine gt_f (C := RX6) (T := TX6) (N := 3) hx hb ha in_X6 hown hK hP 0 rfl rfl 2 (by decide) m_124 rfl dX6_append_12 ?_
  refine lv_aload_n hx hb dX6_append_15 rfl (lv_at hl 0 rfl) ?_
  refine gt_f (C := RX6) (T := TX6) (N := 3) hx hb ha in_X6 hown hK hP 0 rfl rfl 0 (by decide) m_118 rfl dX6_append_16 ?_
  refine lv_iconst (v := 0) hx hb dX6_append_19 (by decide) ?_
  obtain ⟨hi, hf⟩ := sf_ge hf
  obtain ⟨a_2, ea_2, hf⟩ := sf_ne hf
  refine ia_st (ws' := [(h0, .inr (4, [.int gc, .ref h1, .ref h2])), (h1, .inl (dA 0, 10, .inl a_1)), (h2, .inl (dA 0, 10, .inl a_2))]) hx hb hK hP hD hS 2 rfl hi ea_2 rfl dX6_append_20 (fun H locs hP hD hS => ?_)
  refine lv_aload_n hx hb dX6_append_21 rfl (lv_at hl 0 rfl) ?_
  refine lv_dup hx hb dX6_append_22 rfl ?_
  refine gt_f (C := RX6) (T := TX6) (N := 3) hx hb ha in_X6 hown hK hP 0 rfl rfl 0 (by decide) m_118 rfl dX6_append_23 ?_
  refine lv_iconst (v := 1) hx hb dX6_append_26 (by decide) ?_
  refine lv_iadd hx hb dX6_append_27 ?_
  obtain ⟨x_3, ex_3, hf⟩ := sf_ne hf
  refine tp_i ex_3 ?_
  refine pt_f (C := RX6) (T := TX6) (N := 3) (ws' := [(h0, .inr (4, [.int x_3, .ref h1, .ref h2])), (h1, .inl (dA 0, 10, .inl a_1)), (h2, .inl (dA 0, 10, .inl a_2))]) (ty := .int) hx hb ha in_X6 tyX6 tyX6_ok nmX6 hown hK hP hD hS 0 rfl rfl 0 (by decide) m_118 rfl (tyX6_ok 0 (by decide)) rfl rfl (Nat.le_of_ble_eq_true rfl) rfl dX6_append_28 (fun H locs hP hD hS => ?_)
  refine lv_aload_n hx hb dX6_append_31 rfl (lv_at hl 0 rfl) ?_
  refine gt_f (C := RX6) (T := TX6) (N := 3) hx hb ha in_X6 hown hK hP 0 rfl rfl 0 (by decide) m_118 rfl dX6_append_32 ?_
  refine lv_iconst (v := 1) hx hb dX6_append_35 (by decide) ?_
  refine lv_isub hx hb dX6_append_36 ?_
  cases hf
  exact rt_Mi hx hb hr hlocks (hP.sub [0, 1, 2] rfl) (hD.sub [0, 1, 2] (by decide) rfl) hS dX6_append_37

def f_X6_allCoins_L4 (gc : Int32) (gp : Nat → Int32) (k : Int32 → Option Int32) : Nat → Int32 → Int32 → Option Int32
  | 0, _, _ => none
  | n + 1, v_1, v_2 => sf_b (gc ≤ v_1) (k v_2) (sf_g (sf_in v_1 10 = true) (sf_n ((v_2 + (gp v_1.toNatClampNeg))) (fun x_3 => sf_n (v_1 + (1 : Int32)) (fun x_4 => f_X6_allCoins_L4 gc gp k n x_4 x_3))))
def f_X6_allCoins (gc : Int32) (gp : Nat → Int32) : Option Int32 :=
  f_X6_allCoins_L4 gc gp (fun y_5 => some y_5) 2000 (0 : Int32) (0 : Int32)
theorem yd_X6_allCoins : yX6_allCoins.cls = RX6 ∧ yX6_allCoins.cls ≠ "java/lang/invoke/MethodHandle" ∧ yX6_allCoins.cls ≠ "java/lang/invoke/VarHandle" ∧ (parseMethodDescriptor yX6_allCoins.desc).map (fun d => d.parameters.length) = some 0 := ⟨rfl, by decide, by decide, by decide +kernel⟩
set_option maxRecDepth 100000 in
set_option maxHeartbeats 4000000 in
theorem c_X6_allCoins (l : Launch) (D : va_G) (dA : Nat → ClassId) (h0 h1 h2 : Nat) (gc : Int32) (gp : Nat → Int32) (gr : Nat → Int32) (rr : Int32) (hf : f_X6_allCoins gc gp = some rr) : Met l yX6_allCoins (wo (.code yX6_allCoins cX6_allCoins 3 (some .int))) ({ frames := 0, cells := 0, slots := 0, locals := 0 } : Room) (preP D dA [.ref h0] [(h0, .inr (4, [.int gc, .ref h1, .ref h2])), (h1, .inl (dA 0, 10, .inl gp)), (h2, .inl (dA 0, 10, .inl gr))]) (poPi rr) 0 0 noA := by
  refine of_P (own := RX6) (by decide) rfl (Nat.le_of_ble_eq_true rfl) ?_
  intro p e s m below meth c hx hb hr ha hown hml hlocks hP hK hS ls hl
  have hl : lv_has ls 3 [(0, .ref h0)] := hl
  rw [f_X6_allCoins] at hf
  refine lv_iconst (v := 0) hx hb dX6_allCoins_0 (by decide) ?_
  refine lv_istore_n (lv' := [(1, .int (0 : Int32)), (0, .ref h0)]) hx hb dX6_allCoins_1 rfl hl (by decide) rfl (fun ls hl => ?_)
  refine lv_iconst (v := 0) hx hb dX6_allCoins_2 (by decide) ?_
  refine lv_istore_n (lv' := [(2, .int (0 : Int32)), (1, .int (0 : Int32)), (0, .ref h0)]) hx hb dX6_allCoins_3 rfl hl (by decide) rfl (fun ls hl => ?_)
  have hL4 : ∀ (n : Nat) (k : Int32 → Option Int32) (v_1 : Int32) (v_2 : Int32) (H : Heap) (locs : List Loc) (ls : Array Slot), va_P D cls [(h0, .inr (4, [.int gc, .ref h1, .ref h2])), (h1, .inl (dA 0, 10, .inl gp)), (h2, .inl (dA 0, 10, .inl gr))] H → va_S noA s.heap H locs → lv_has ls 3 [(2, .int v_1), (1, .int v_2), (0, .ref h0)] → f_X6_allCoins_L4 gc gp k n v_1 v_2 = some rr → (∀ (y_5 : Int32) (H : Heap) (locs : List Loc) (ls : Array Slot), va_P D cls [(h0, .inr (4, [.int gc, .ref h1, .ref h2])), (h1, .inl (dA 0, 10, .inl gp)), (h2, .inl (dA 0, 10, .inl gr))] H → va_S noA s.heap H locs → lv_has ls 3 [(1, .int y_5)] → k y_5 = some rr → W p l e ({ frames := 0, cells := 0, slots := 0, locals := 0 } : Room) s m ([.ref h0] : List Value).toArray below meth c H locs 0 0 (MQ below (poPi rr) ([.ref h0] : List Value).toArray s 0 0 noA) (F0 m 27 ls [])) → W p l e ({ frames := 0, cells := 0, slots := 0, locals := 0 } : Room) s m ([.ref h0] : List Value).toArray below meth c H locs 0 0 (MQ below (poPi rr) ([.ref h0] : List Value).toArray s 0 0 noA) (F0 m 4 ls []) := by
    intro n k
    induction n with
    | zero =>
      intro v_1 v_2 H locs ls hP hS hl hf hk
      rw [f_X6_allCoins_L4] at hf
      cases hf
    | succ n ih =>
      intro v_1 v_2 H locs ls hP hS hl hf hk
      rw [f_X6_allCoins_L4] at hf
      refine lv_iload_n hx hb dX6_allCoins_4 rfl (lv_at hl 0 rfl) ?_
      refine lv_aload_n hx hb dX6_allCoins_5 rfl (lv_at hl 2 rfl) ?_
      refine gt_f (C := RX6) (T := TX6) (N := 3) hx hb ha in_X6 hown hK hP 0 rfl rfl 0 (by decide) m_118 rfl dX6_allCoins_6 ?_
      refine lv_icmp_ge (tgt := 27) hx hb dX6_allCoins_9 (by decide) (fun hc => ?_) (fun hc => ?_)
      · have hf := sf_bp hf hc
        exact hk _ _ _ _ hP hS (lv_sub hl [1] rfl) hf
      · have hf := sf_bn hf hc
        refine lv_iload_n hx hb dX6_allCoins_12 rfl (lv_at hl 1 rfl) ?_
        refine lv_aload_n hx hb dX6_allCoins_13 rfl (lv_at hl 2 rfl) ?_
        refine gt_f (C := RX6) (T := TX6) (N := 3) hx hb ha in_X6 hown hK hP 0 rfl rfl 1 (by decide) m_121 rfl dX6_allCoins_14 ?_
        refine lv_iload_n hx hb dX6_allCoins_17 rfl (lv_at hl 0 rfl) ?_
        obtain ⟨hi, hf⟩ := sf_ge hf
        refine ia_ld hx hb hK hP 1 rfl hi dX6_allCoins_18 ?_
        refine lv_iadd hx hb dX6_allCoins_19 ?_
        obtain ⟨x_3, ex_3, hf⟩ := sf_ne hf
        refine tp_i ex_3 ?_
        refine lv_istore_n (lv' := [(1, .int x_3), (2, .int v_1), (0, .ref h0)]) hx hb dX6_allCoins_20 rfl hl (by decide) rfl (fun ls hl => ?_)
        obtain ⟨x_4, ex_4, hf⟩ := sf_ne hf
        refine ii_nc (lv' := [(2, .int x_4), (1, .int x_3), (0, .ref h0)]) (k := 1) hx hb dX6_allCoins_21 hl rfl ex_4 (by decide) (by decide) rfl (fun ls hl => ?_)
        refine lv_goto (tgt := 4) hx hb dX6_allCoins_24 (by decide) ?_
        exact ih _ _ _ _ _ hP hS (lv_sub hl [0, 1, 2] rfl) hf hk
  refine hL4 _ _ _ _ _ _ _ hP hS (lv_sub hl [0, 1, 2] rfl) hf (fun y_5 H locs ls hP hS hl hf => ?_)
  refine lv_iload_n hx hb dX6_allCoins_27 rfl (lv_at hl 0 rfl) ?_
  exact rt_Pi hx hb hr hlocks (Option.some.inj hf) hS dX6_allCoins_28

def f_X6_isBefore (gp : Nat → Int32) (gr : Nat → Int32) (p0 : Int32) (p1 : Int32) : Option Int32 :=
  sf_g (sf_in p0 10 = true) (sf_g (sf_in p1 10 = true) (sf_b ((gr p0.toNatClampNeg) = (gr p1.toNatClampNeg)) (sf_g (sf_in p0 10 = true) (sf_g (sf_in p1 10 = true) (sf_b ((gp p0.toNatClampNeg) = (gp p1.toNatClampNeg)) (sf_b (p1 ≤ p0) (some (0 : Int32)) (some (1 : Int32))) (sf_g (sf_in p0 10 = true) (sf_g (sf_in p1 10 = true) (sf_b ((gp p0.toNatClampNeg) ≤ (gp p1.toNatClampNeg)) (some (0 : Int32)) (some (1 : Int32)))))))) (sf_g (sf_in p0 10 = true) (sf_g (sf_in p1 10 = true) (sf_b ((gr p0.toNatClampNeg) ≤ (gr p1.toNatClampNeg)) (some (0 : Int32)) (some (1 : Int32)))))))
theorem yd_X6_isBefore : yX6_isBefore.cls = RX6 ∧ yX6_isBefore.cls ≠ "java/lang/invoke/MethodHandle" ∧ yX6_isBefore.cls ≠ "java/lang/invoke/VarHandle" ∧ (parseMethodDescriptor yX6_isBefore.desc).map (fun d => d.parameters.length) = some 2 := ⟨rfl, by decide, by decide, by decide +kernel⟩
set_option maxRecDepth 100000 in
set_option maxHeartbeats 4000000 in
theorem c_X6_isBefore (l : Launch) (D : va_G) (dA : Nat → ClassId) (h0 h1 h2 : Nat) (gc : Int32) (gp : Nat → Int32) (gr : Nat → Int32) (p0 : Int32) (p1 : Int32) (rr : Int32) (hf : f_X6_isBefore gp gr p0 p1 = some rr) : Met l yX6_isBefore (wo (.code yX6_isBefore cX6_isBefore 3 (some .boolean))) ({ frames := 0, cells := 0, slots := 0, locals := 0 } : Room) (preP D dA [.ref h0, .int p0, .int p1] [(h0, .inr (4, [.int gc, .ref h1, .ref h2])), (h1, .inl (dA 0, 10, .inl gp)), (h2, .inl (dA 0, 10, .inl gr))]) (poPi rr) 0 0 noA := by
  refine of_P (own := RX6) (by decide) rfl (Nat.le_of_ble_eq_true rfl) ?_
  intro p e s m below meth c hx hb hr ha hown hml hlocks hP hK hS ls hl
  have hl : lv_has ls 3 [(0, .ref h0), (1, .int p0), (2, .int p1)] := hl
  rw [f_X6_isBefore] at hf
  refine lv_aload_n hx hb dX6_isBefore_0 rfl (lv_at hl 0 rfl) ?_
  refine gt_f (C := RX6) (T := TX6) (N := 3) hx hb ha in_X6 hown hK hP 0 rfl rfl 2 (by decide) m_124 rfl dX6_isBefore_1 ?_
  refine lv_iload_n hx hb dX6_isBefore_4 rfl (lv_at hl 1 rfl) ?_
  obtain ⟨hi, hf⟩ := sf_ge hf
  refine ia_ld hx hb hK hP 2 rfl hi dX6_isBefore_5 ?_
  refine lv_aload_n hx hb dX6_isBefore_6 rfl (lv_at hl 0 rfl) ?_
  refine gt_f (C := RX6) (T := TX6) (N := 3) hx hb ha in_X6 hown hK hP 0 rfl rfl 2 (by decide) m_124 rfl dX6_isBefore_7 ?_
  refine lv_iload_n hx hb dX6_isBefore_10 rfl (lv_at hl 2 rfl) ?_
  obtain ⟨hi, hf⟩ := sf_ge hf
  refine ia_ld hx hb hK hP 2 rfl hi dX6_isBefore_11 ?_
  refine lv_icmp_eq (tgt := 36) hx hb dX6_isBefore_12 (by decide) (fun hc => ?_) (fun hc => ?_)
  · have hf := sf_bp hf hc
    refine lv_aload_n hx hb dX6_isBefore_36 rfl (lv_at hl 0 rfl) ?_
    refine gt_f (C := RX6) (T := TX6) (N := 3) hx hb ha in_X6 hown hK hP 0 rfl rfl 1 (by decide) m_121 rfl dX6_isBefore_37 ?_
    refine lv_iload_n hx hb dX6_isBefore_40 rfl (lv_at hl 1 rfl) ?_
    obtain ⟨hi, hf⟩ := sf_ge hf
    refine ia_ld hx hb hK hP 1 rfl hi dX6_isBefore_41 ?_
    refine lv_aload_n hx hb dX6_isBefore_42 rfl (lv_at hl 0 rfl) ?_
    refine gt_f (C := RX6) (T := TX6) (N := 3) hx hb ha in_X6 hown hK hP 0 rfl rfl 1 (by decide) m_121 rfl dX6_isBefore_43 ?_
    refine lv_iload_n hx hb dX6_isBefore_46 rfl (lv_at hl 2 rfl) ?_
    obtain ⟨hi, hf⟩ := sf_ge hf
    refine ia_ld hx hb hK hP 1 rfl hi dX6_isBefore_47 ?_
    refine lv_icmp_eq (tgt := 72) hx hb dX6_isBefore_48 (by decide) (fun hc => ?_) (fun hc => ?_)
    · have hf := sf_bp hf hc
      refine lv_iload_n hx hb dX6_isBefore_72 rfl (lv_at hl 1 rfl) ?_
      refine lv_iload_n hx hb dX6_isBefore_73 rfl (lv_at hl 2 rfl) ?_
      refine lv_icmp_ge (tgt := 81) hx hb dX6_isBefore_74 (by decide) (fun hc => ?_) (fun hc => ?_)
      · have hf := sf_bp hf hc
        refine lv_iconst (v := 0) hx hb dX6_isBefore_81 (by decide) ?_
        exact rt_Pz hx hb hr hlocks (Option.some.inj hf) rfl hS dX6_isBefore_82
      · have hf := sf_bn hf hc
        refine lv_iconst (v := 1) hx hb dX6_isBefore_77 (by decide) ?_
        refine lv_goto (tgt := 82) hx hb dX6_isBefore_78 (by decide) ?_
        exact rt_Pz hx hb hr hlocks (Option.some.inj hf) rfl hS dX6_isBefore_82
    · have hf := sf_bn hf hc
      refine lv_aload_n hx hb dX6_isBefore_51 rfl (lv_at hl 0 rfl) ?_
      refine gt_f (C := RX6) (T := TX6) (N := 3) hx hb ha in_X6 hown hK hP 0 rfl rfl 1 (by decide) m_121 rfl dX6_isBefore_52 ?_
      refine lv_iload_n hx hb dX6_isBefore_55 rfl (lv_at hl 1 rfl) ?_
      obtain ⟨hi, hf⟩ := sf_ge hf
      refine ia_ld hx hb hK hP 1 rfl hi dX6_isBefore_56 ?_
      refine lv_aload_n hx hb dX6_isBefore_57 rfl (lv_at hl 0 rfl) ?_
      refine gt_f (C := RX6) (T := TX6) (N := 3) hx hb ha in_X6 hown hK hP 0 rfl rfl 1 (by decide) m_121 rfl dX6_isBefore_58 ?_
      refine lv_iload_n hx hb dX6_isBefore_61 rfl (lv_at hl 2 rfl) ?_
      obtain ⟨hi, hf⟩ := sf_ge hf
      refine ia_ld hx hb hK hP 1 rfl hi dX6_isBefore_62 ?_
      refine lv_icmp_le (tgt := 70) hx hb dX6_isBefore_63 (by decide) (fun hc => ?_) (fun hc => ?_)
      · have hf := sf_bp hf hc
        refine lv_iconst (v := 0) hx hb dX6_isBefore_70 (by decide) ?_
        exact rt_Pz hx hb hr hlocks (Option.some.inj hf) rfl hS dX6_isBefore_71
      · have hf := sf_bn hf hc
        refine lv_iconst (v := 1) hx hb dX6_isBefore_66 (by decide) ?_
        refine lv_goto (tgt := 71) hx hb dX6_isBefore_67 (by decide) ?_
        exact rt_Pz hx hb hr hlocks (Option.some.inj hf) rfl hS dX6_isBefore_71
  · have hf := sf_bn hf hc
    refine lv_aload_n hx hb dX6_isBefore_15 rfl (lv_at hl 0 rfl) ?_
    refine gt_f (C := RX6) (T := TX6) (N := 3) hx hb ha in_X6 hown hK hP 0 rfl rfl 2 (by decide) m_124 rfl dX6_isBefore_16 ?_
    refine lv_iload_n hx hb dX6_isBefore_19 rfl (lv_at hl 1 rfl) ?_
    obtain ⟨hi, hf⟩ := sf_ge hf
    refine ia_ld hx hb hK hP 2 rfl hi dX6_isBefore_20 ?_
    refine lv_aload_n hx hb dX6_isBefore_21 rfl (lv_at hl 0 rfl) ?_
    refine gt_f (C := RX6) (T := TX6) (N := 3) hx hb ha in_X6 hown hK hP 0 rfl rfl 2 (by decide) m_124 rfl dX6_isBefore_22 ?_
    refine lv_iload_n hx hb dX6_isBefore_25 rfl (lv_at hl 2 rfl) ?_
    obtain ⟨hi, hf⟩ := sf_ge hf
    refine ia_ld hx hb hK hP 2 rfl hi dX6_isBefore_26 ?_
    refine lv_icmp_le (tgt := 34) hx hb dX6_isBefore_27 (by decide) (fun hc => ?_) (fun hc => ?_)
    · have hf := sf_bp hf hc
      refine lv_iconst (v := 0) hx hb dX6_isBefore_34 (by decide) ?_
      exact rt_Pz hx hb hr hlocks (Option.some.inj hf) rfl hS dX6_isBefore_35
    · have hf := sf_bn hf hc
      refine lv_iconst (v := 1) hx hb dX6_isBefore_30 (by decide) ?_
      refine lv_goto (tgt := 35) hx hb dX6_isBefore_31 (by decide) ?_
      exact rt_Pz hx hb hr hlocks (Option.some.inj hf) rfl hS dX6_isBefore_35

def f_X6_rankByRidden_L4 (gc : Int32) (gp : Nat → Int32) (gr : Nat → Int32) (p0 : Int32) (k : Int32 → Option Int32) : Nat → Int32 → Int32 → Option Int32
  | 0, _, _ => none
  | n + 1, v_1, v_2 => sf_b (gc ≤ v_1) (k v_2) (sf_c1 (f_X6_isBefore gp gr v_1 p0) (fun r_3 => sf_b (r_3 = (0 : Int32)) (sf_n (v_1 + (1 : Int32)) (fun x_4 => f_X6_rankByRidden_L4 gc gp gr p0 k n x_4 v_2)) (sf_n (v_2 + (1 : Int32)) (fun x_5 => sf_n (v_1 + (1 : Int32)) (fun x_6 => f_X6_rankByRidden_L4 gc gp gr p0 k n x_6 x_5)))))
def f_X6_rankByRidden (gc : Int32) (gp : Nat → Int32) (gr : Nat → Int32) (p0 : Int32) : Option Int32 :=
  f_X6_rankByRidden_L4 gc gp gr p0 (fun y_7 => some y_7) 2000 (0 : Int32) (0 : Int32)
theorem yd_X6_rankByRidden : yX6_rankByRidden.cls = RX6 ∧ yX6_rankByRidden.cls ≠ "java/lang/invoke/MethodHandle" ∧ yX6_rankByRidden.cls ≠ "java/lang/invoke/VarHandle" ∧ (parseMethodDescriptor yX6_rankByRidden.desc).map (fun d => d.parameters.length) = some 1 := ⟨rfl, by decide, by decide, by decide +kernel⟩
set_option maxRecDepth 100000 in
set_option maxHeartbeats 4000000 in
theorem c_X6_rankByRidden (l : Launch) (D : va_G) (dA : Nat → ClassId) (h0 h1 h2 : Nat) (gc : Int32) (gp : Nat → Int32) (gr : Nat → Int32) (p0 : Int32) (rr : Int32) (hf : f_X6_rankByRidden gc gp gr p0 = some rr) : Met l yX6_rankByRidden (wo (.code yX6_rankByRidden cX6_rankByRidden 4 (some .int))) ({ frames := 1, cells := 0, slots := 0, locals := 22 } : Room) (preP D dA [.ref h0, .int p0] [(h0, .inr (4, [.int gc, .ref h1, .ref h2])), (h1, .inl (dA 0, 10, .inl gp)), (h2, .inl (dA 0, 10, .inl gr))]) (poPi rr) 0 0 noA := by
  refine of_P (own := RX6) (by decide) rfl (Nat.le_of_ble_eq_true rfl) ?_
  intro p e s m below meth c hx hb hr ha hown hml hlocks hP hK hS ls hl
  have hl : lv_has ls 4 [(0, .ref h0), (1, .int p0)] := hl
  rw [f_X6_rankByRidden] at hf
  refine lv_iconst (v := 0) hx hb dX6_rankByRidden_0 (by decide) ?_
  refine lv_istore_n (lv' := [(2, .int (0 : Int32)), (0, .ref h0), (1, .int p0)]) hx hb dX6_rankByRidden_1 rfl hl (by decide) rfl (fun ls hl => ?_)
  refine lv_iconst (v := 0) hx hb dX6_rankByRidden_2 (by decide) ?_
  refine lv_istore_n (lv' := [(3, .int (0 : Int32)), (2, .int (0 : Int32)), (0, .ref h0), (1, .int p0)]) hx hb dX6_rankByRidden_3 rfl hl (by decide) rfl (fun ls hl => ?_)
  have hL4 : ∀ (n : Nat) (k : Int32 → Option Int32) (v_1 : Int32) (v_2 : Int32) (H : Heap) (locs : List Loc) (ls : Array Slot), va_P D cls [(h0, .inr (4, [.int gc, .ref h1, .ref h2])), (h1, .inl (dA 0, 10, .inl gp)), (h2, .inl (dA 0, 10, .inl gr))] H → va_S noA s.heap H locs → lv_has ls 4 [(3, .int v_1), (2, .int v_2), (0, .ref h0), (1, .int p0)] → f_X6_rankByRidden_L4 gc gp gr p0 k n v_1 v_2 = some rr → (∀ (y_7 : Int32) (H : Heap) (locs : List Loc) (ls : Array Slot), va_P D cls [(h0, .inr (4, [.int gc, .ref h1, .ref h2])), (h1, .inl (dA 0, 10, .inl gp)), (h2, .inl (dA 0, 10, .inl gr))] H → va_S noA s.heap H locs → lv_has ls 4 [(2, .int y_7)] → k y_7 = some rr → W p l e ({ frames := 1, cells := 0, slots := 0, locals := 22 } : Room) s m ([.ref h0, .int p0] : List Value).toArray below meth c H locs 0 0 (MQ below (poPi rr) ([.ref h0, .int p0] : List Value).toArray s 0 0 noA) (F0 m 30 ls [])) → W p l e ({ frames := 1, cells := 0, slots := 0, locals := 22 } : Room) s m ([.ref h0, .int p0] : List Value).toArray below meth c H locs 0 0 (MQ below (poPi rr) ([.ref h0, .int p0] : List Value).toArray s 0 0 noA) (F0 m 4 ls []) := by
    intro n k
    induction n with
    | zero =>
      intro v_1 v_2 H locs ls hP hS hl hf hk
      rw [f_X6_rankByRidden_L4] at hf
      cases hf
    | succ n ih =>
      intro v_1 v_2 H locs ls hP hS hl hf hk
      rw [f_X6_rankByRidden_L4] at hf
      refine lv_iload_n hx hb dX6_rankByRidden_4 rfl (lv_at hl 0 rfl) ?_
      refine lv_aload_n hx hb dX6_rankByRidden_5 rfl (lv_at hl 2 rfl) ?_
      refine gt_f (C := RX6) (T := TX6) (N := 3) hx hb ha in_X6 hown hK hP 0 rfl rfl 0 (by decide) m_118 rfl dX6_rankByRidden_6 ?_
      refine lv_icmp_ge (tgt := 30) hx hb dX6_rankByRidden_9 (by decide) (fun hc => ?_) (fun hc => ?_)
      · have hf := sf_bp hf hc
        exact hk _ _ _ _ hP hS (lv_sub hl [1] rfl) hf
      · have hf := sf_bn hf hc
        refine lv_aload_n hx hb dX6_rankByRidden_12 rfl (lv_at hl 2 rfl) ?_
        refine lv_iload_n hx hb dX6_rankByRidden_13 rfl (lv_at hl 0 rfl) ?_
        refine lv_iload_n hx hb dX6_rankByRidden_14 rfl (lv_at hl 3 rfl) ?_
        obtain ⟨r_3, hc3, hf⟩ := sf_c1e hf
        refine k_Pi (run_PV (As := [.int v_1, .int p0]) (rest := []) ⟨hx, hb, hml, hown, ha⟩ (c_X6_isBefore l D dA h0 h1 h2  gc gp gr v_1 p0 _ hc3) (gi_V m_1411 m_1413 m_20 m_34 m_1414) yd_X6_isBefore ⟨Nat.le_of_ble_eq_true rfl, Nat.le_of_ble_eq_true rfl⟩ ⟨rfl, rfl⟩ hK hP [0, 1, 2] rfl 0 4 rfl rfl rfl rfl hl.1 rfl (Nat.le_of_ble_eq_true rfl) dX6_rankByRidden_15 ⟨Nat.le_of_ble_eq_true rfl, Nat.le_of_ble_eq_true rfl⟩) hP hS (fun H locs hP hS => ?_)
        refine lv_if_eq (tgt := 24) hx hb dX6_rankByRidden_18 (by decide) (fun hc => ?_) (fun hc => ?_)
        · have hf := sf_bp hf hc
          obtain ⟨x_4, ex_4, hf⟩ := sf_ne hf
          refine ii_nc (lv' := [(3, .int x_4), (2, .int v_2), (0, .ref h0), (1, .int p0)]) (k := 0) hx hb dX6_rankByRidden_24 hl rfl ex_4 (by decide) (by decide) rfl (fun ls hl => ?_)
          refine lv_goto (tgt := 4) hx hb dX6_rankByRidden_27 (by decide) ?_
          exact ih _ _ _ _ _ hP hS (lv_sub hl [0, 1, 2, 3] rfl) hf hk
        · have hf := sf_bn hf hc
          obtain ⟨x_5, ex_5, hf⟩ := sf_ne hf
          refine ii_nc (lv' := [(2, .int x_5), (3, .int v_1), (0, .ref h0), (1, .int p0)]) (k := 1) hx hb dX6_rankByRidden_21 hl rfl ex_5 (by decide) (by decide) rfl (fun ls hl => ?_)
          obtain ⟨x_6, ex_6, hf⟩ := sf_ne hf
          refine ii_nc (lv' := [(3, .int x_6), (2, .int x_5), (0, .ref h0), (1, .int p0)]) (k := 1) hx hb dX6_rankByRidden_24 hl rfl ex_6 (by decide) (by decide) rfl (fun ls hl => ?_)
          refine lv_goto (tgt := 4) hx hb dX6_rankByRidden_27 (by decide) ?_
          exact ih _ _ _ _ _ hP hS (lv_sub hl [0, 1, 2, 3] rfl) hf hk
  refine hL4 _ _ _ _ _ _ _ hP hS (lv_sub hl [0, 1, 2, 3] rfl) hf (fun y_7 H locs ls hP hS hl hf => ?_)
  refine lv_iload_n hx hb dX6_rankByRidden_30 rfl (lv_at hl 0 rfl) ?_
  exact rt_Pi hx hb hr hlocks (Option.some.inj hf) hS dX6_rankByRidden_31

