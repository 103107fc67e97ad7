def f_X1_copyFrom (bc : Int32) (bg : Nat → Int32) (bs : Nat → Int32) (bt : Nat → Int32) (be : Nat → Int32) (o_bc : Int32) (o_bg : Nat → Int32) (o_bs : Nat → Int32) (o_bt : Nat → Int32) (o_be : Nat → Int32) : Option (Int32 × (Nat → Int32) × (Nat → Int32) × (Nat → Int32) × (Nat → Int32)) :=
  some (o_bc, o_bg, o_bs, o_bt, o_be)
theorem yd_X1_copyFrom : yX1_copyFrom.cls = RX1 ∧ yX1_copyFrom.cls ≠ "java/lang/invoke/MethodHandle" ∧ yX1_copyFrom.cls ≠ "java/lang/invoke/VarHandle" ∧ (parseMethodDescriptor yX1_copyFrom.desc).map (fun d => d.parameters.length) = some 1 := ⟨rfl, by decide, by decide, by decide +kernel⟩
set_option maxRecDepth 100000 in
set_option maxHeartbeats 4000000 in
theorem c_X1_copyFrom (l : Launch) (D : va_G) (dA : Nat → ClassId) (h0 h1 h2 h3 h4 h5 h6 h7 h8 h9 : Nat) (sz : Nat) (bc : Int32) (bg : Nat → Int32) (bs : Nat → Int32) (bt : Nat → Int32) (be : Nat → Int32) (o_bc : Int32) (o_bg : Nat → Int32) (o_bs : Nat → Int32) (o_bt : Nat → Int32) (o_be : Nat → Int32) (q_bc : Int32) (q_bg : Nat → Int32) (q_bs : Nat → Int32) (q_bt : Nat → Int32) (q_be : Nat → Int32) (hf : f_X1_copyFrom bc bg bs bt be o_bc o_bg o_bs o_bt o_be = some (q_bc, q_bg, q_bs, q_bt, q_be)) : Met l yX1_copyFrom (wo (.code yX1_copyFrom cX1_copyFrom 2 none)) ({ frames := 1, cells := 0, slots := 0, locals := 90 } : Room) (preM D dA [.ref h0, .ref h5] sz [(h0, .inr (0, [.int bc, .ref h1, .ref h2, .ref h3, .ref h4])), (h1, .inl (dA 0, 12, .inl bg)), (h2, .inl (dA 0, 12, .inl bs)), (h3, .inl (dA 0, 12, .inl bt)), (h4, .inl (dA 0, 12, .inl be)), (h5, .inr (0, [.int o_bc, .ref h6, .ref h7, .ref h8, .ref h9])), (h6, .inl (dA 0, 12, .inl o_bg)), (h7, .inl (dA 0, 12, .inl o_bs)), (h8, .inl (dA 0, 12, .inl o_bt)), (h9, .inl (dA 0, 12, .inl o_be))]) (poMv D [(h0, .inr (0, [.int q_bc, .ref h1, .ref h2, .ref h3, .ref h4])), (h1, .inl (dA 0, 12, .inl q_bg)), (h2, .inl (dA 0, 12, .inl q_bs)), (h3, .inl (dA 0, 12, .inl q_bt)), (h4, .inl (dA 0, 12, .inl q_be)), (h5, .inr (0, [.int o_bc, .ref h6, .ref h7, .ref h8, .ref h9])), (h6, .inl (dA 0, 12, .inl o_bg)), (h7, .inl (dA 0, 12, .inl o_bs)), (h8, .inl (dA 0, 12, .inl o_bt)), (h9, .inl (dA 0, 12, .inl o_be))] (va_A [(h0, .inr (0, [.int bc, .ref h1, .ref h2, .ref h3, .ref h4])), (h1, .inl (dA 0, 12, .inl bg)), (h2, .inl (dA 0, 12, .inl bs)), (h3, .inl (dA 0, 12, .inl bt)), (h4, .inl (dA 0, 12, .inl be)), (h5, .inr (0, [.int o_bc, .ref h6, .ref h7, .ref h8, .ref h9])), (h6, .inl (dA 0, 12, .inl o_bg)), (h7, .inl (dA 0, 12, .inl o_bs)), (h8, .inl (dA 0, 12, .inl o_bt)), (h9, .inl (dA 0, 12, .inl o_be))] sz)) 0 0 (va_A [(h0, .inr (0, [.int bc, .ref h1, .ref h2, .ref h3, .ref h4])), (h1, .inl (dA 0, 12, .inl bg)), (h2, .inl (dA 0, 12, .inl bs)), (h3, .inl (dA 0, 12, .inl bt)), (h4, .inl (dA 0, 12, .inl be)), (h5, .inr (0, [.int o_bc, .ref h6, .ref h7, .ref h8, .ref h9])), (h6, .inl (dA 0, 12, .inl o_bg)), (h7, .inl (dA 0, 12, .inl o_bs)), (h8, .inl (dA 0, 12, .inl o_bt)), (h9, .inl (dA 0, 12, .inl o_be))] sz) := by
  refine of_M (y := yX1_copyFrom) (cc := cX1_copyFrom) (maxL := 2) (ret := none) (av := [.ref h0, .ref h5]) (ws := [(h0, .inr (0, [.int bc, .ref h1, .ref h2, .ref h3, .ref h4])), (h1, .inl (dA 0, 12, .inl bg)), (h2, .inl (dA 0, 12, .inl bs)), (h3, .inl (dA 0, 12, .inl bt)), (h4, .inl (dA 0, 12, .inl be)), (h5, .inr (0, [.int o_bc, .ref h6, .ref h7, .ref h8, .ref h9])), (h6, .inl (dA 0, 12, .inl o_bg)), (h7, .inl (dA 0, 12, .inl o_bs)), (h8, .inl (dA 0, 12, .inl o_bt)), (h9, .inl (dA 0, 12, .inl o_be))]) (sz := sz) (own := RX1) (Qc := poMv D [(h0, .inr (0, [.int q_bc, .ref h1, .ref h2, .ref h3, .ref h4])), (h1, .inl (dA 0, 12, .inl q_bg)), (h2, .inl (dA 0, 12, .inl q_bs)), (h3, .inl (dA 0, 12, .inl q_bt)), (h4, .inl (dA 0, 12, .inl q_be)), (h5, .inr (0, [.int o_bc, .ref h6, .ref h7, .ref h8, .ref h9])), (h6, .inl (dA 0, 12, .inl o_bg)), (h7, .inl (dA 0, 12, .inl o_bs)), (h8, .inl (dA 0, 12, .inl o_bt)), (h9, .inl (dA 0, 12, .inl o_be))]) (by decide) rfl (Nat.le_of_ble_eq_true rfl) ?_
  intro p e s m below meth c A hx hb hr ha hown hml hlocks hin hP hK hD hS hA ls hl
  have hl : lv_has ls 2 [(0, .ref h0), (1, .ref h5)] := hl
  rw [f_X1_copyFrom] at hf
  refine lv_aload_n hx hb dX1_copyFrom_0 rfl (lv_at hl 0 rfl) ?_
  refine lv_aload_n hx hb dX1_copyFrom_1 rfl (lv_at hl 1 rfl) ?_
  refine gt_f (C := RX1) (T := TX1) (N := 5) hx hb ha in_X1 hown hK hP 5 rfl rfl 0 (by decide) m_140 rfl dX1_copyFrom_2 ?_
  refine pt_f (C := RX1) (T := TX1) (N := 5) (ws' := [(h0, .inr (0, [.int o_bc, .ref h1, .ref h2, .ref h3, .ref h4])), (h1, .inl (dA 0, 12, .inl bg)), (h2, .inl (dA 0, 12, .inl bs)), (h3, .inl (dA 0, 12, .inl bt)), (h4, .inl (dA 0, 12, .inl be)), (h5, .inr (0, [.int o_bc, .ref h6, .ref h7, .ref h8, .ref h9])), (h6, .inl (dA 0, 12, .inl o_bg)), (h7, .inl (dA 0, 12, .inl o_bs)), (h8, .inl (dA 0, 12, .inl o_bt)), (h9, .inl (dA 0, 12, .inl o_be))]) (ty := .int) hx hb ha in_X1 tyX1 tyX1_ok nmX1 hown hK hP hD hS 0 rfl rfl 0 (by decide) m_140 rfl (tyX1_ok 0 (by decide)) rfl rfl (Nat.le_of_ble_eq_true rfl) rfl dX1_copyFrom_5 (fun H locs hP hD hS => ?_)
  refine lv_aload_n hx hb dX1_copyFrom_8 rfl (lv_at hl 1 rfl) ?_
  refine gt_f (C := RX1) (T := TX1) (N := 5) hx hb ha in_X1 hown hK hP 5 rfl rfl 1 (by decide) m_144 rfl dX1_copyFrom_9 ?_
  refine lv_iconst (v := 0) hx hb dX1_copyFrom_12 (by decide) ?_
  refine lv_aload_n hx hb dX1_copyFrom_13 rfl (lv_at hl 0 rfl) ?_
  refine gt_f (C := RX1) (T := TX1) (N := 5) hx hb ha in_X1 hown hK hP 0 rfl rfl 1 (by decide) m_144 rfl dX1_copyFrom_14 ?_
  refine lv_iconst (v := 0) hx hb dX1_copyFrom_17 (by decide) ?_
  refine lv_bipush (v := 12) hx hb dX1_copyFrom_18 (by decide) ?_
  refine cp_if (ws' := [(h0, .inr (0, [.int o_bc, .ref h1, .ref h2, .ref h3, .ref h4])), (h1, .inl (dA 0, 12, .inl o_bg)), (h2, .inl (dA 0, 12, .inl bs)), (h3, .inl (dA 0, 12, .inl bt)), (h4, .inl (dA 0, 12, .inl be)), (h5, .inr (0, [.int o_bc, .ref h6, .ref h7, .ref h8, .ref h9])), (h6, .inl (dA 0, 12, .inl o_bg)), (h7, .inl (dA 0, 12, .inl o_bs)), (h8, .inl (dA 0, 12, .inl o_bt)), (h9, .inl (dA 0, 12, .inl o_be))]) hx hb ha hown hml hl.1 m_397 m_387 m_386 m_45 hK hP hD hS 6 1 rfl rfl (by decide) rfl ⟨Nat.le_of_ble_eq_true rfl, Nat.le_of_ble_eq_true rfl⟩ dX1_copyFrom_20 (fun H locs hP hD hS => ?_)
  refine lv_aload_n hx hb dX1_copyFrom_23 rfl (lv_at hl 1 rfl) ?_
  refine gt_f (C := RX1) (T := TX1) (N := 5) hx hb ha in_X1 hown hK hP 5 rfl rfl 2 (by decide) m_147 rfl dX1_copyFrom_24 ?_
  refine lv_iconst (v := 0) hx hb dX1_copyFrom_27 (by decide) ?_
  refine lv_aload_n hx hb dX1_copyFrom_28 rfl (lv_at hl 0 rfl) ?_
  refine gt_f (C := RX1) (T := TX1) (N := 5) hx hb ha in_X1 hown hK hP 0 rfl rfl 2 (by decide) m_147 rfl dX1_copyFrom_29 ?_
  refine lv_iconst (v := 0) hx hb dX1_copyFrom_32 (by decide) ?_
  refine lv_bipush (v := 12) hx hb dX1_copyFrom_33 (by decide) ?_
  refine cp_if (ws' := [(h0, .inr (0, [.int o_bc, .ref h1, .ref h2, .ref h3, .ref h4])), (h1, .inl (dA 0, 12, .inl o_bg)), (h2, .inl (dA 0, 12, .inl o_bs)), (h3, .inl (dA 0, 12, .inl bt)), (h4, .inl (dA 0, 12, .inl be)), (h5, .inr (0, [.int o_bc, .ref h6, .ref h7, .ref h8, .ref h9])), (h6, .inl (dA 0, 12, .inl o_bg)), (h7, .inl (dA 0, 12, .inl o_bs)), (h8, .inl (dA 0, 12, .inl o_bt)), (h9, .inl (dA 0, 12, .inl o_be))]) hx hb ha hown hml hl.1 m_397 m_387 m_386 m_45 hK hP hD hS 7 2 rfl rfl (by decide) rfl ⟨Nat.le_of_ble_eq_true rfl, Nat.le_of_ble_eq_true rfl⟩ dX1_copyFrom_35 (fun H locs hP hD hS => ?_)
  refine lv_aload_n hx hb dX1_copyFrom_38 rfl (lv_at hl 1 rfl) ?_
  refine gt_f (C := RX1) (T := TX1) (N := 5) hx hb ha in_X1 hown hK hP 5 rfl rfl 3 (by decide) m_150 rfl dX1_copyFrom_39 ?_
  refine lv_iconst (v := 0) hx hb dX1_copyFrom_42 (by decide) ?_
  refine lv_aload_n hx hb dX1_copyFrom_43 rfl (lv_at hl 0 rfl) ?_
  refine gt_f (C := RX1) (T := TX1) (N := 5) hx hb ha in_X1 hown hK hP 0 rfl rfl 3 (by decide) m_150 rfl dX1_copyFrom_44 ?_
  refine lv_iconst (v := 0) hx hb dX1_copyFrom_47 (by decide) ?_
  refine lv_bipush (v := 12) hx hb dX1_copyFrom_48 (by decide) ?_
  refine cp_if (ws' := [(h0, .inr (0, [.int o_bc, .ref h1, .ref h2, .ref h3, .ref h4])), (h1, .inl (dA 0, 12, .inl o_bg)), (h2, .inl (dA 0, 12, .inl o_bs)), (h3, .inl (dA 0, 12, .inl o_bt)), (h4, .inl (dA 0, 12, .inl be)), (h5, .inr (0, [.int o_bc, .ref h6, .ref h7, .ref h8, .ref h9])), (h6, .inl (dA 0, 12, .inl o_bg)), (h7, .inl (dA 0, 12, .inl o_bs)), (h8, .inl (dA 0, 12, .inl o_bt)), (h9, .inl (dA 0, 12, .inl o_be))]) hx hb ha hown hml hl.1 m_397 m_387 m_386 m_45 hK hP hD hS 8 3 rfl rfl (by decide) rfl ⟨Nat.le_of_ble_eq_true rfl, Nat.le_of_ble_eq_true rfl⟩ dX1_copyFrom_50 (fun H locs hP hD hS => ?_)
  refine lv_aload_n hx hb dX1_copyFrom_53 rfl (lv_at hl 1 rfl) ?_
  refine gt_f (C := RX1) (T := TX1) (N := 5) hx hb ha in_X1 hown hK hP 5 rfl rfl 4 (by decide) m_154 rfl dX1_copyFrom_54 ?_
  refine lv_iconst (v := 0) hx hb dX1_copyFrom_57 (by decide) ?_
  refine lv_aload_n hx hb dX1_copyFrom_58 rfl (lv_at hl 0 rfl) ?_
  refine gt_f (C := RX1) (T := TX1) (N := 5) hx hb ha in_X1 hown hK hP 0 rfl rfl 4 (by decide) m_154 rfl dX1_copyFrom_59 ?_
  refine lv_iconst (v := 0) hx hb dX1_copyFrom_62 (by decide) ?_
  refine lv_bipush (v := 12) hx hb dX1_copyFrom_63 (by decide) ?_
  refine cp_if (ws' := [(h0, .inr (0, [.int o_bc, .ref h1, .ref h2, .ref h3, .ref h4])), (h1, .inl (dA 0, 12, .inl o_bg)), (h2, .inl (dA 0, 12, .inl o_bs)), (h3, .inl (dA 0, 12, .inl o_bt)), (h4, .inl (dA 0, 12, .inl o_be)), (h5, .inr (0, [.int o_bc, .ref h6, .ref h7, .ref h8, .ref h9])), (h6, .inl (dA 0, 12, .inl o_bg)), (h7, .inl (dA 0, 12, .inl o_bs)), (h8, .inl (dA 0, 12, .inl o_bt)), (h9, .inl (dA 0, 12, .inl o_be))]) hx hb ha hown hml hl.1 m_397 m_387 m_386 m_45 hK hP hD hS 9 4 rfl rfl (by decide) rfl ⟨Nat.le_of_ble_eq_true rfl, Nat.le_of_ble_eq_true rfl⟩ dX1_copyFrom_65 (fun H locs hP hD hS => ?_)
  cases hf
  exact rt_Mv hx hb hr hlocks (hP.sub [0, 1, 2, 3, 4, 5, 6, 7, 8, 9] rfl) (hD.sub [0, 1, 2, 3, 4, 5, 6, 7, 8, 9] (by decide) rfl) hS dX1_copyFrom_68

def f_X1_has (bc : Int32) (p0 : Int32) : Option Int32 :=
  sf_b (p0 < (0 : Int32)) (some (0 : Int32)) (sf_b (bc ≤ p0) (some (0 : Int32)) (some (1 : Int32)))
theorem yd_X1_has : yX1_has.cls = RX1 ∧ yX1_has.cls ≠ "java/lang/invoke/MethodHandle" ∧ yX1_has.cls ≠ "java/lang/invoke/VarHandle" ∧ (parseMethodDescriptor yX1_has.desc).map (fun d => d.parameters.length) = some 1 := ⟨rfl, by decide, by decide, by decide +kernel⟩
set_option maxRecDepth 100000 in
set_option maxHeartbeats 4000000 in
theorem c_X1_has (l : Launch) (D : va_G) (dA : Nat → ClassId) (h0 h1 h2 h3 h4 : Nat) (bc : Int32) (bg : Nat → Int32) (bs : Nat → Int32) (bt : Nat → Int32) (be : Nat → Int32) (p0 : Int32) (rr : Int32) (hf : f_X1_has bc p0 = some rr) : Met l yX1_has (wo (.code yX1_has cX1_has 2 (some .boolean))) ({ frames := 0, cells := 0, slots := 0, locals := 0 } : Room) (preP D dA [.ref h0, .int p0] [(h0, .inr (0, [.int bc, .ref h1, .ref h2, .ref h3, .ref h4])), (h1, .inl (dA 0, 12, .inl bg)), (h2, .inl (dA 0, 12, .inl bs)), (h3, .inl (dA 0, 12, .inl bt)), (h4, .inl (dA 0, 12, .inl be))]) (poPi rr) 0 0 noA := by
  refine of_P (own := RX1) (by decide) rfl (Nat.le_of_ble_eq_true rfl) ?_
  intro p e s m below meth c hx hb hr ha hown hml hlocks hP hK hS ls hl
  have hl : lv_has ls 2 [(0, .ref h0), (1, .int p0)] := hl
  rw [f_X1_has] at hf
  refine lv_iload_n hx hb dX1_has_0 rfl (lv_at hl 1 rfl) ?_
  refine lv_if_lt (tgt := 16) hx hb dX1_has_1 (by decide) (fun hc => ?_) (fun hc => ?_)
  · have hf := sf_bp hf hc
    refine lv_iconst (v := 0) hx hb dX1_has_16 (by decide) ?_
    exact rt_Pz hx hb hr hlocks (Option.some.inj hf) rfl hS dX1_has_17
  · have hf := sf_bn hf hc
    refine lv_iload_n hx hb dX1_has_4 rfl (lv_at hl 1 rfl) ?_
    refine lv_aload_n hx hb dX1_has_5 rfl (lv_at hl 0 rfl) ?_
    refine gt_f (C := RX1) (T := TX1) (N := 5) hx hb ha in_X1 hown hK hP 0 rfl rfl 0 (by decide) m_140 rfl dX1_has_6 ?_
    refine lv_icmp_ge (tgt := 16) hx hb dX1_has_9 (by decide) (fun hc => ?_) (fun hc => ?_)
    · have hf := sf_bp hf hc
      refine lv_iconst (v := 0) hx hb dX1_has_16 (by decide) ?_
      exact rt_Pz hx hb hr hlocks (Option.some.inj hf) rfl hS dX1_has_17
    · have hf := sf_bn hf hc
      refine lv_iconst (v := 1) hx hb dX1_has_12 (by decide) ?_
      refine lv_goto (tgt := 17) hx hb dX1_has_13 (by decide) ?_
      exact rt_Pz hx hb hr hlocks (Option.some.inj hf) rfl hS dX1_has_17

def f_X1_isFull (bc : Int32) : Option Int32 :=
  sf_b (bc < (12 : Int32)) (some (0 : Int32)) (some (1 : Int32))
theorem yd_X1_isFull : yX1_isFull.cls = RX1 ∧ yX1_isFull.cls ≠ "java/lang/invoke/MethodHandle" ∧ yX1_isFull.cls ≠ "java/lang/invoke/VarHandle" ∧ (parseMethodDescriptor yX1_isFull.desc).map (fun d => d.parameters.length) = some 0 := ⟨rfl, by decide, by decide, by decide +kernel⟩
set_option maxRecDepth 100000 in
set_option maxHeartbeats 4000000 in
theorem c_X1_isFull (l : Launch) (D : va_G) (dA : Nat → ClassId) (h0 h1 h2 h3 h4 : Nat) (bc : Int32) (bg : Nat → Int32) (bs : Nat → Int32) (bt : Nat → Int32) (be : Nat → Int32) (rr : Int32) (hf : f_X1_isFull bc = some rr) : Met l yX1_isFull (wo (.code yX1_isFull cX1_isFull 1 (some .boolean))) ({ frames := 0, cells := 0, slots := 0, locals := 0 } : Room) (preP D dA [.ref h0] [(h0, .inr (0, [.int bc, .ref h1, .ref h2, .ref h3, .ref h4])), (h1, .inl (dA 0, 12, .inl bg)), (h2, .inl (dA 0, 12, .inl bs)), (h3, .inl (dA 0, 12, .inl bt)), (h4, .inl (dA 0, 12, .inl be))]) (poPi rr) 0 0 noA := by
  refine of_P (own := RX1) (by decide) rfl (Nat.le_of_ble_eq_true rfl) ?_
  intro p e s m below meth c hx hb hr ha hown hml hlocks hP hK hS ls hl
  have hl : lv_has ls 1 [(0, .ref h0)] := hl
  rw [f_X1_isFull] at hf
  refine lv_aload_n hx hb dX1_isFull_0 rfl (lv_at hl 0 rfl) ?_
  refine gt_f (C := RX1) (T := TX1) (N := 5) hx hb ha in_X1 hown hK hP 0 rfl rfl 0 (by decide) m_140 rfl dX1_isFull_1 ?_
  refine lv_bipush (v := 12) hx hb dX1_isFull_4 (by decide) ?_
  refine lv_icmp_lt (tgt := 13) hx hb dX1_isFull_6 (by decide) (fun hc => ?_) (fun hc => ?_)
  · have hf := sf_bp hf hc
    refine lv_iconst (v := 0) hx hb dX1_isFull_13 (by decide) ?_
    exact rt_Pz hx hb hr hlocks (Option.some.inj hf) rfl hS dX1_isFull_14
  · have hf := sf_bn hf hc
    refine lv_iconst (v := 1) hx hb dX1_isFull_9 (by decide) ?_
    refine lv_goto (tgt := 14) hx hb dX1_isFull_10 (by decide) ?_
    exact rt_Pz hx hb hr hlocks (Option.some.inj hf) rfl hS dX1_isFull_14

def f_X1_append (bc : Int32) (bg : Nat → Int32) (bs : Nat → Int32) (bt : Nat → Int32) (be : Nat → Int32) (p0 : Int32) (p1 : Int32) (p2 : Int32) (p3 : Int32) : Option (Int32 × Int32 × (Nat → Int32) × (Nat → Int32) × (Nat → Int32) × (Nat → Int32)) :=
  sf_g (sf_in bc 12 = true) (sf_n (upd bg bc.toNatClampNeg p0) (fun a_1 => sf_g (sf_in bc 12 = true) (sf_n (upd bs bc.toNatClampNeg p1) (fun a_2 => sf_g (sf_in bc 12 = true) (sf_n (upd bt bc.toNatClampNeg p2) (fun a_3 => sf_g (sf_in bc 12 = true) (sf_n (upd be bc.toNatClampNeg p3) (fun a_4 => sf_n ((bc + (1 : Int32))) (fun x_5 => some ((x_5 - (1 : Int32)), x_5, a_1, a_2, a_3, a_4))))))))))
theorem yd_X1_append : yX1_append.cls = RX1 ∧ yX1_append.cls ≠ "java/lang/invoke/MethodHandle" ∧ yX1_append.cls ≠ "java/lang/invoke/VarHandle" ∧ (parseMethodDescriptor yX1_append.desc).map (fun d => d.parameters.length) = some 4 := ⟨rfl, by decide, by decide, by decide +kernel⟩
set_option maxRecDepth 100000 in
set_option maxHeartbeats 4000000 in
theorem c_X1_append (l : Launch) (D : va_G) (dA : Nat → ClassId) (h0 h1 h2 h3 h4 : Nat) (sz : Nat) (bc : Int32) (bg : Nat → Int32) (bs : Nat → Int32) (bt : Nat → Int32) (be : Nat → Int32) (p0 : Int32) (p1 : Int32) (p2 : Int32) (p3 : Int32) (rr : Int32) (q_bc : Int32) (q_bg : Nat → Int32) (q_bs : Nat → Int32) (q_bt : Nat → Int32) (q_be : Nat → Int32) (hf : f_X1_append bc bg bs bt be p0 p1 p2 p3 = some (rr, q_bc, q_bg, q_bs, q_bt, q_be)) : Met l yX1_append (wo (.code yX1_append cX1_append 5 (some .int))) ({ frames := 0, cells := 0, slots := 0, locals := 0 } : Room) (preM D dA [.ref h0, .int p0, .int p1, .int p2, .int p3] sz [(h0, .inr (0, [.int bc, .ref h1, .ref h2, .ref h3, .ref h4])), (h1, .inl (dA 0, 12, .inl bg)), (h2, .inl (dA 0, 12, .inl bs)), (h3, .inl (dA 0, 12, .inl bt)), (h4, .inl (dA 0, 12, .inl be))]) (poMi D rr [(h0, .inr (0, [.int q_bc, .ref h1, .ref h2, .ref h3, .ref h4])), (h1, .inl (dA 0, 12, .inl q_bg)), (h2, .inl (dA 0, 12, .inl q_bs)), (h3, .inl (dA 0, 12, .inl q_bt)), (h4, .inl (dA 0, 12, .inl q_be))] (va_A [(h0, .inr (0, [.int bc, .ref h1, .ref h2, .ref h3, .ref h4])), (h1, .inl (dA 0, 12, .inl bg)), (h2, .inl (dA 0, 12, .inl bs)), (h3, .inl (dA 0, 12, .inl bt)), (h4, .inl (dA 0, 12, .inl be))] sz)) 0 0 (va_A [(h0, .inr (0, [.int bc, .ref h1, .ref h2, .ref h3, .ref h4])), (h1, .inl (dA 0, 12, .inl bg)), (h2, .inl (dA 0, 12, .inl bs)), (h3, .inl (dA 0, 12, .inl bt)), (h4, .inl (dA 0, 12, .inl be))] sz) := by
  refine of_M (y := yX1_append) (cc := cX1_append) (maxL := 5) (ret := (some .int)) (av := [.ref h0, .int p0, .int p1, .int p2, .int p3]) (ws := [(h0, .inr (0, [.int bc, .ref h1, .ref h2, .ref h3, .ref h4])), (h1, .inl (dA 0, 12, .inl bg)), (h2, .inl (dA 0, 12, .inl bs)), (h3, .inl (dA 0, 12, .inl bt)), (h4, .inl (dA 0, 12, .inl be))]) (sz := sz) (own := RX1) (Qc := poMi D rr [(h0, .inr (0, [.int q_bc, .ref h1, .ref h2, .ref h3, .ref h4])), (h1, .inl (dA 0, 12, .inl q_bg)), (h2, .inl (dA 0, 12, .inl q_bs)), (h3, .inl (dA 0, 12, .inl q_bt)), (h4, .inl (dA 0, 12, .inl q_be))]) (by decide) rfl (Nat.le_of_ble_eq_true rfl) ?_
  intro p e s m below meth c A hx hb hr ha hown hml hlocks hin hP hK hD hS hA ls hl
  have hl : lv_has ls 5 [(0, .ref h0), (1, .int p0), (2, .int p1), (3, .int p2), (4, .int p3)] := hl
  rw [f_X1_append] at hf
  refine lv_aload_n hx hb dX1_append_0 rfl (lv_at hl 0 rfl) ?_
  refine gt_f (C := RX1) (T := TX1) (N := 5) hx hb ha in_X1 hown hK hP 0 rfl rfl 1 (by decide) m_144 rfl dX1_append_1 ?_
  refine lv_aload_n hx hb dX1_append_4 rfl (lv_at hl 0 rfl) ?_
  refine gt_f (C := RX1) (T := TX1) (N := 5) hx hb ha in_X1 hown hK hP 0 rfl rfl 0 (by decide) m_140 rfl dX1_append_5 ?_
  refine lv_iload_n hx hb dX1_append_8 rfl (lv_at hl 1 rfl) ?_
  obtain ⟨hi, hf⟩ := sf_ge hf
  obtain ⟨a_1, ea_1, hf⟩ := sf_ne hf
  refine ia_st (ws' := [(h0, .inr (0, [.int bc, .ref h1, .ref h2, .ref h3, .ref h4])), (h1, .inl (dA 0, 12, .inl a_1)), (h2, .inl (dA 0, 12, .inl bs)), (h3, .inl (dA 0, 12, .inl bt)), (h4, .inl (dA 0, 12, .inl be))]) hx hb hK hP hD hS 1 rfl hi ea_1 rfl dX1_append_9 (fun H locs hP hD hS => ?_)
  refine lv_aload_n hx hb dX1_append_10 rfl (lv_at hl 0 rfl) ?_
  refine gt_f (C := RX1) (T := TX1) (N := 5) hx hb ha in_X1 hown hK hP 0 rfl rfl 2 (by decide) m_147 rfl dX1_append_11 ?_
  refine lv_aload_n hx hb dX1_append_14 rfl (lv_at hl 0 rfl) ?_
  refine gt_f (C := RX1) (T := TX1) (N := 5) hx hb ha in_X1 hown hK hP 0 rfl rfl 0 (by decide) m_140 rfl dX1_append_15 ?_
  refine lv_iload_n hx hb dX1_append_18 rfl (lv_at hl 2 rfl) ?_
  obtain ⟨hi, hf⟩ := sf_ge hf
  obtain ⟨a_2, ea_2, hf⟩ := sf_ne hf
  refine ia_st (ws' := [(h0, .inr (0, [.int bc, .ref h1, .ref h2, .ref h3, .ref h4])), (h1, .inl (dA 0, 12, .inl a_1)), (h2, .inl (dA 0, 12, .inl a_2)), (h3, .inl (dA 0, 12, .inl bt)), (h4, .inl (dA 0, 12, .inl be))]) hx hb hK hP hD hS 2 rfl hi ea_2 rfl dX1_append_19 (fun H locs hP hD hS => ?_)
  refine lv_aload_n hx hb dX1_append_20 rfl (lv_at hl 0 rfl) ?_
  refine gt_f (C := RX1) (T := TX1) (N := 5) hx hb ha in_X1 hown hK hP 0 rfl rfl 3 (by decide) m_150 rfl dX1_append_21 ?_
  refine lv_aload_n hx hb dX1_append_24 rfl (lv_at hl 0 rfl) ?_
  refine gt_f (C := RX1) (T := TX1) (N := 5) hx hb ha in_X1 hown hK hP 0 rfl rfl 0 (by decide) m_140 rfl dX1_append_25 ?_
  refine lv_iload_n hx hb dX1_append_28 rfl (lv_at hl 3 rfl) ?_
  obtain ⟨hi, hf⟩ := sf_ge hf
  obtain ⟨a_3, ea_3, hf⟩ := sf_ne hf
  refine ia_st (ws' := [(h0, .inr (0, [.int bc, .ref h1, .ref h2, .ref h3, .ref h4])), (h1, .inl (dA 0, 12, .inl a_1)), (h2, .inl (dA 0, 12, .inl a_2)), (h3, .inl (dA 0, 12, .inl a_3)), (h4, .inl (dA 0, 12, .inl be))]) hx hb hK hP hD hS 3 rfl hi ea_3 rfl dX1_append_29 (fun H locs hP hD hS => ?_)
  refine lv_aload_n hx hb dX1_append_30 rfl (lv_at hl 0 rfl) ?_
  refine gt_f (C := RX1) (T := TX1) (N := 5) hx hb ha in_X1 hown hK hP 0 rfl rfl 4 (by decide) m_154 rfl dX1_append_31 ?_
  refine lv_aload_n hx hb dX1_append_34 rfl (lv_at hl 0 rfl) ?_
  refine gt_f (C := RX1) (T := TX1) (N := 5) hx hb ha in_X1 hown hK hP 0 rfl rfl 0 (by decide) m_140 rfl dX1_append_35 ?_
  refine lv_iload hx hb dX1_append_38 (lv_at hl 4 rfl) ?_
  obtain ⟨hi, hf⟩ := sf_ge hf
  obtain ⟨a_4, ea_4, hf⟩ := sf_ne hf
  refine ia_st (ws' := [(h0, .inr (0, [.int bc, .ref h1, .ref h2, .ref h3, .ref h4])), (h1, .inl (dA 0, 12, .inl a_1)), (h2, .inl (dA 0, 12, .inl a_2)), (h3, .inl (dA 0, 12, .inl a_3)), (h4, .inl (dA 0, 12, .inl a_4))]) hx hb hK hP hD hS 4 rfl hi ea_4 rfl dX1_append_40 (fun H locs hP hD hS => ?_)
  refine lv_aload_n hx hb dX1_append_41 rfl (lv_at hl 0 rfl) ?_
  refine lv_dup hx hb dX1_append_42 rfl ?_
  refine gt_f (C := RX1) (T := TX1) (N := 5) hx hb ha in_X1 hown hK hP 0 rfl rfl 0 (by decide) m_140 rfl dX1_append_43 ?_
  refine lv_iconst (v := 1) hx hb dX1_append_46 (by decide) ?_
  refine lv_iadd hx hb dX1_append_47 ?_
  obtain ⟨x_5, ex_5, hf⟩ := sf_ne hf
  refine tp_i ex_5 ?_
  refine pt_f (C := RX1) (T := TX1) (N := 5) (ws' := [(h0, .inr (0, [.int x_5, .ref h1, .ref h2, .ref h3, .ref h4])), (h1, .inl (dA 0, 12, .inl a_1)), (h2, .inl (dA 0, 12, .inl a_2)), (h3, .inl (dA 0, 12, .inl a_3)), (h4, .inl (dA 0, 12, .inl a_4))]) (ty := .int) hx hb ha in_X1 tyX1 tyX1_ok nmX1 hown hK hP hD hS 0 rfl rfl 0 (by decide) m_140 rfl (tyX1_ok 0 (by decide)) rfl rfl (Nat.le_of_ble_eq_true rfl) rfl dX1_append_48 (fun H locs hP hD hS => ?_)
  refine lv_aload_n hx hb dX1_append_51 rfl (lv_at hl 0 rfl) ?_
  refine gt_f (C := RX1) (T := TX1) (N := 5) hx hb ha in_X1 hown hK hP 0 rfl rfl 0 (by decide) m_140 rfl dX1_append_52 ?_
  refine lv_iconst (v := 1) hx hb dX1_append_55 (by decide) ?_
  refine lv_isub hx hb dX1_append_56 ?_
  cases hf
  exact rt_Mi hx hb hr hlocks (hP.sub [0, 1, 2, 3, 4] rfl) (hD.sub [0, 1, 2, 3, 4] (by decide) rfl) hS dX1_append_57

def f_X1_remove_L4 (bc : Int32) (k : (Nat → Int32) → (Nat → Int32) → (Nat → Int32) → (Nat → Int32) → Option (Int32 × (Nat → Int32) × (Nat → Int32) × (Nat → Int32) × (Nat → Int32))) : Nat → Int32 → (Nat → Int32) → (Nat → Int32) → (Nat → Int32) → (Nat → Int32) → Option (Int32 × (Nat → Int32) × (Nat → Int32) × (Nat → Int32) × (Nat → Int32))
  | 0, _, _, _, _, _ => none
  | n + 1, v_2, w_3, w_4, w_5, w_6 => sf_b (bc ≤ v_2) (k w_3 w_4 w_5 w_6) (sf_g (sf_in v_2 12 = true) (sf_g (sf_in (v_2 - (1 : Int32)) 12 = true) (sf_n (upd w_3 (v_2 - (1 : Int32)).toNatClampNeg (w_3 v_2.toNatClampNeg)) (fun a_7 => sf_g (sf_in v_2 12 = true) (sf_g (sf_in (v_2 - (1 : Int32)) 12 = true) (sf_n (upd w_4 (v_2 - (1 : Int32)).toNatClampNeg (w_4 v_2.toNatClampNeg)) (fun a_8 => sf_g (sf_in v_2 12 = true) (sf_g (sf_in (v_2 - (1 : Int32)) 12 = true) (sf_n (upd w_5 (v_2 - (1 : Int32)).toNatClampNeg (w_5 v_2.toNatClampNeg)) (fun a_9 => sf_g (sf_in v_2 12 = true) (sf_g (sf_in (v_2 - (1 : Int32)) 12 = true) (sf_n (upd w_6 (v_2 - (1 : Int32)).toNatClampNeg (w_6 v_2.toNatClampNeg)) (fun a_10 => sf_n (v_2 + (1 : Int32)) (fun x_11 => f_X1_remove_L4 bc k n x_11 a_7 a_8 a_9 a_10))))))))))))))
def f_X1_remove (bc : Int32) (bg : Nat → Int32) (bs : Nat → Int32) (bt : Nat → Int32) (be : Nat → Int32) (p0 : Int32) : Option (Int32 × (Nat → Int32) × (Nat → Int32) × (Nat → Int32) × (Nat → Int32)) :=
  sf_n ((p0 + (1 : Int32))) (fun x_1 => f_X1_remove_L4 bc (fun z_12 z_13 z_14 z_15 => sf_n ((bc - (1 : Int32))) (fun x_16 => some (x_16, z_12, z_13, z_14, z_15))) 2000 x_1 bg bs bt be)
theorem yd_X1_remove : yX1_remove.cls = RX1 ∧ yX1_remove.cls ≠ "java/lang/invoke/MethodHandle" ∧ yX1_remove.cls ≠ "java/lang/invoke/VarHandle" ∧ (parseMethodDescriptor yX1_remove.desc).map (fun d => d.parameters.length) = some 1 := ⟨rfl, by decide, by decide, by decide +kernel⟩
set_option maxRecDepth 100000 in
set_option maxHeartbeats 4000000 in
theorem c_X1_remove (l : Launch) (D : va_G) (dA : Nat → ClassId) (h0 h1 h2 h3 h4 : Nat) (sz : Nat) (bc : Int32) (bg : Nat → Int32) (bs : Nat → Int32) (bt : Nat → Int32) (be : Nat → Int32) (p0 : Int32) (q_bc : Int32) (q_bg : Nat → Int32) (q_bs : Nat → Int32) (q_bt : Nat → Int32) (q_be : Nat → Int32) (hf : f_X1_remove bc bg bs bt be p0 = some (q_bc, q_bg, q_bs, q_bt, q_be)) : Met l yX1_remove (wo (.code yX1_remove cX1_remove 3 none)) ({ frames := 0, cells := 0, slots := 0, locals := 0 } : Room) (preM D dA [.ref h0, .int p0] sz [(h0, .inr (0, [.int bc, .ref h1, .ref h2, .ref h3, .ref h4])), (h1, .inl (dA 0, 12, .inl bg)), (h2, .inl (dA 0, 12, .inl bs)), (h3, .inl (dA 0, 12, .inl bt)), (h4, .inl (dA 0, 12, .inl be))]) (poMv D [(h0, .inr (0, [.int q_bc, .ref h1, .ref h2, .ref h3, .ref h4])), (h1, .inl (dA 0, 12, .inl q_bg)), (h2, .inl (dA 0, 12, .inl q_bs)), (h3, .inl (dA 0, 12, .inl q_bt)), (h4, .inl (dA 0, 12, .inl q_be))] (va_A [(h0, .inr (0, [.int bc, .ref h1, .ref h2, .ref h3, .ref h4])), (h1, .inl (dA 0, 12, .inl bg)), (h2, .inl (dA 0, 12, .inl bs)), (h3, .inl (dA 0, 12, .inl bt)), (h4, .inl (dA 0, 12, .inl be))] sz)) 0 0 (va_A [(h0, .inr (0, [.int bc, .ref h1, .ref h2, .ref h3, .ref h4])), (h1, .inl (dA 0, 12, .inl bg)), (h2, .inl (dA 0, 12, .inl bs)), (h3, .inl (dA 0, 12, .inl bt)), (h4, .inl (dA 0, 12, .inl be))] sz) := by
  refine of_M (y := yX1_remove) (cc := cX1_remove) (maxL := 3) (ret := none) (av := [.ref h0, .int p0]) (ws := [(h0, .inr (0, [.int bc, .ref h1, .ref h2, .ref h3, .ref h4])), (h1, .inl (dA 0, 12, .inl bg)), (h2, .inl (dA 0, 12, .inl bs)), (h3, .inl (dA 0, 12, .inl bt)), (h4, .inl (dA 0, 12, .inl be))]) (sz := sz) (own := RX1) (Qc := poMv D [(h0, .inr (0, [.int q_bc, .ref h1, .ref h2, .ref h3, .ref h4])), (h1, .inl (dA 0, 12, .inl q_bg)), (h2, .inl (dA 0, 12, .inl q_bs)), (h3, .inl (dA 0, 12, .inl q_bt)), (h4, .inl (dA 0, 12, .inl q_be))]) (by decide) rfl (Nat.le_of_ble_eq_true rfl) ?_
  intro p e s m below meth c A hx hb hr ha hown hml hlocks hin hP hK hD hS hA ls hl
  have hl : lv_has ls 3 [(0, .ref h0), (1, .int p0)] := hl
  rw [f_X1_remove] at hf
  refine lv_iload_n hx hb dX1_remove_0 rfl (lv_at hl 1 rfl) ?_
  refine lv_iconst (v := 1) hx hb dX1_remove_1 (by decide) ?_
  refine lv_iadd hx hb dX1_remove_2 ?_
  obtain ⟨x_1, ex_1, hf⟩ := sf_ne hf
  refine tp_i ex_1 ?_
  refine lv_istore_n (lv' := [(2, .int x_1), (0, .ref h0), (1, .int p0)]) hx hb dX1_remove_3 rfl hl (by decide) rfl (fun ls hl => ?_)
  have hL4 : ∀ (n : Nat) (k : (Nat → Int32) → (Nat → Int32) → (Nat → Int32) → (Nat → Int32) → Option (Int32 × (Nat → Int32) × (Nat → Int32) × (Nat → Int32) × (Nat → Int32))) (v_2 : Int32) (w_3 : (Nat → Int32)) (w_4 : (Nat → Int32)) (w_5 : (Nat → Int32)) (w_6 : (Nat → Int32)) (H : Heap) (locs : List Loc) (ls : Array Slot), va_P D cls [(h0, .inr (0, [.int bc, .ref h1, .ref h2, .ref h3, .ref h4])), (h1, .inl (dA 0, 12, .inl w_3)), (h2, .inl (dA 0, 12, .inl w_4)), (h3, .inl (dA 0, 12, .inl w_5)), (h4, .inl (dA 0, 12, .inl w_6))] H → va_D A [(h0, .inr (0, [.int bc, .ref h1, .ref h2, .ref h3, .ref h4])), (h1, .inl (dA 0, 12, .inl w_3)), (h2, .inl (dA 0, 12, .inl w_4)), (h3, .inl (dA 0, 12, .inl w_5)), (h4, .inl (dA 0, 12, .inl w_6))] → va_S A s.heap H locs → lv_has ls 3 [(2, .int v_2), (0, .ref h0)] → f_X1_remove_L4 bc k n v_2 w_3 w_4 w_5 w_6 = some (q_bc, q_bg, q_bs, q_bt, q_be) → (∀ (z_12 : (Nat → Int32)) (z_13 : (Nat → Int32)) (z_14 : (Nat → Int32)) (z_15 : (Nat → Int32)) (H : Heap) (locs : List Loc) (ls : Array Slot), va_P D cls [(h0, .inr (0, [.int bc, .ref h1, .ref h2, .ref h3, .ref h4])), (h1, .inl (dA 0, 12, .inl z_12)), (h2, .inl (dA 0, 12, .inl z_13)), (h3, .inl (dA 0, 12, .inl z_14)), (h4, .inl (dA 0, 12, .inl z_15))] H → va_D A [(h0, .inr (0, [.int bc, .ref h1, .ref h2, .ref h3, .ref h4])), (h1, .inl (dA 0, 12, .inl z_12)), (h2, .inl (dA 0, 12, .inl z_13)), (h3, .inl (dA 0, 12, .inl z_14)), (h4, .inl (dA 0, 12, .inl z_15))] → va_S A s.heap H locs → lv_has ls 3 [(0, .ref h0)] → k z_12 z_13 z_14 z_15 = some (q_bc, q_bg, q_bs, q_bt, q_be) → W p l e ({ frames := 0, cells := 0, slots := 0, locals := 0 } : Room) s m ([.ref h0, .int p0] : List Value).toArray below meth c H locs 0 0 (MQ below (poMv D [(h0, .inr (0, [.int q_bc, .ref h1, .ref h2, .ref h3, .ref h4])), (h1, .inl (dA 0, 12, .inl q_bg)), (h2, .inl (dA 0, 12, .inl q_bs)), (h3, .inl (dA 0, 12, .inl q_bt)), (h4, .inl (dA 0, 12, .inl q_be))] A) ([.ref h0, .int p0] : List Value).toArray s 0 0 A) (F0 m 74 ls [])) → W p l e ({ frames := 0, cells := 0, slots := 0, locals := 0 } : Room) s m ([.ref h0, .int p0] : List Value).toArray below meth c H locs 0 0 (MQ below (poMv D [(h0, .inr (0, [.int q_bc, .ref h1, .ref h2, .ref h3, .ref h4])), (h1, .inl (dA 0, 12, .inl q_bg)), (h2, .inl (dA 0, 12, .inl q_bs)), (h3, .inl (dA 0, 12, .inl q_bt)), (h4, .inl (dA 0, 12, .inl q_be))] A) ([.ref h0, .int p0] : List Value).toArray s 0 0 A) (F0 m 4 ls []) := by
    intro n k
    induction n with
    | zero =>
      intro v_2 w_3 w_4 w_5 w_6 H locs ls hP hD hS hl hf hk
      rw [f_X1_remove_L4] at hf
      cases hf
    | succ n ih =>
      intro v_2 w_3 w_4 w_5 w_6 H locs ls hP hD hS hl hf hk
      rw [f_X1_remove_L4] at hf
      refine lv_iload_n hx hb dX1_remove_4 rfl (lv_at hl 0 rfl) ?_
      refine lv_aload_n hx hb dX1_remove_5 rfl (lv_at hl 1 rfl) ?_
      refine gt_f (C := RX1) (T := TX1) (N := 5) hx hb ha in_X1 hown hK hP 0 rfl rfl 0 (by decide) m_140 rfl dX1_remove_6 ?_
      refine lv_icmp_ge (tgt := 74) hx hb dX1_remove_9 (by decide) (fun hc => ?_) (fun hc => ?_)
      · have hf := sf_bp hf hc
        exact hk _ _ _ _ _ _ _ (hP.sub [0, 1, 2, 3, 4] rfl) (hD.sub [0, 1, 2, 3, 4] (by decide) rfl) hS (lv_sub hl [1] rfl) hf
      · have hf := sf_bn hf hc
        refine lv_aload_n hx hb dX1_remove_12 rfl (lv_at hl 1 rfl) ?_
        refine gt_f (C := RX1) (T := TX1) (N := 5) hx hb ha in_X1 hown hK hP 0 rfl rfl 1 (by decide) m_144 rfl dX1_remove_13 ?_
        refine lv_iload_n hx hb dX1_remove_16 rfl (lv_at hl 0 rfl) ?_
        refine lv_iconst (v := 1) hx hb dX1_remove_17 (by decide) ?_
        refine lv_isub hx hb dX1_remove_18 ?_
        refine lv_aload_n hx hb dX1_remove_19 rfl (lv_at hl 1 rfl) ?_
        refine gt_f (C := RX1) (T := TX1) (N := 5) hx hb ha in_X1 hown hK hP 0 rfl rfl 1 (by decide) m_144 rfl dX1_remove_20 ?_
        refine lv_iload_n hx hb dX1_remove_23 rfl (lv_at hl 0 rfl) ?_
        obtain ⟨hi, hf⟩ := sf_ge hf
        refine ia_ld hx hb hK hP 1 rfl hi dX1_remove_24 ?_
        obtain ⟨hi, hf⟩ := sf_ge hf
        obtain ⟨a_7, ea_7, hf⟩ := sf_ne hf
        refine ia_st (ws' := [(h0, .inr (0, [.int bc, .ref h1, .ref h2, .ref h3, .ref h4])), (h1, .inl (dA 0, 12, .inl a_7)), (h2, .inl (dA 0, 12, .inl w_4)), (h3, .inl (dA 0, 12, .inl w_5)), (h4, .inl (dA 0, 12, .inl w_6))]) hx hb hK hP hD hS 1 rfl hi ea_7 rfl dX1_remove_25 (fun H locs hP hD hS => ?_)
        refine lv_aload_n hx hb dX1_remove_26 rfl (lv_at hl 1 rfl) ?_
        refine gt_f (C := RX1) (T := TX1) (N := 5) hx hb ha in_X1 hown hK hP 0 rfl rfl 2 (by decide) m_147 rfl dX1_remove_27 ?_
        refine lv_iload_n hx hb dX1_remove_30 rfl (lv_at hl 0 rfl) ?_
        refine lv_iconst (v := 1) hx hb dX1_remove_31 (by decide) ?_
        refine lv_isub hx hb dX1_remove_32 ?_
        refine lv_aload_n hx hb dX1_remove_33 rfl (lv_at hl 1 rfl) ?_
        refine gt_f (C := RX1) (T := TX1) (N := 5) hx hb ha in_X1 hown hK hP 0 rfl rfl 2 (by decide) m_147 rfl dX1_remove_34 ?_
        refine lv_iload_n hx hb dX1_remove_37 rfl (lv_at hl 0 rfl) ?_
        obtain ⟨hi, hf⟩ := sf_ge hf
        refine ia_ld hx hb hK hP 2 rfl hi dX1_remove_38 ?_
        obtain ⟨hi, hf⟩ := sf_ge hf
        obtain ⟨a_8, ea_8, hf⟩ := sf_ne hf
        refine ia_st (ws' := [(h0, .inr (0, [.int bc, .ref h1, .ref h2, .ref h3, .ref h4])), (h1, .inl (dA 0, 12, .inl a_7)), (h2, .inl (dA 0, 12, .inl a_8)), (h3, .inl (dA 0, 12, .inl w_5)), (h4, .inl (dA 0, 12, .inl w_6))]) hx hb hK hP hD hS 2 rfl hi ea_8 rfl dX1_remove_39 (fun H locs hP hD hS => ?_)
        refine lv_aload_n hx hb dX1_remove_40 rfl (lv_at hl 1 rfl) ?_
        refine gt_f (C := RX1) (T := TX1) (N := 5) hx hb ha in_X1 hown hK hP 0 rfl rfl 3 (by decide) m_150 rfl dX1_remove_41 ?_
        refine lv_iload_n hx hb dX1_remove_44 rfl (lv_at hl 0 rfl) ?_
        refine lv_iconst (v := 1) hx hb dX1_remove_45 (by decide) ?_
        refine lv_isub hx hb dX1_remove_46 ?_
        refine lv_aload_n hx hb dX1_remove_47 rfl (lv_at hl 1 rfl) ?_
        refine gt_f (C := RX1) (T := TX1) (N := 5) hx hb ha in_X1 hown hK hP 0 rfl rfl 3 (by decide) m_150 rfl dX1_remove_48 ?_
        refine lv_iload_n hx hb dX1_remove_51 rfl (lv_at hl 0 rfl) ?_
        obtain ⟨hi, hf⟩ := sf_ge hf
        refine ia_ld hx hb hK hP 3 rfl hi dX1_remove_52 ?_
        obtain ⟨hi, hf⟩ := sf_ge hf
        obtain ⟨a_9, ea_9, hf⟩ := sf_ne hf
        refine ia_st (ws' := [(h0, .inr (0, [.int bc, .ref h1, .ref h2, .ref h3, .ref h4])), (h1, .inl (dA 0, 12, .inl a_7)), (h2, .inl (dA 0, 12, .inl a_8)), (h3, .inl (dA 0, 12, .inl a_9)), (h4, .inl (dA 0, 12, .inl w_6))]) hx hb hK hP hD hS 3 rfl hi ea_9 rfl dX1_remove_53 (fun H locs hP hD hS => ?_)
        refine lv_aload_n hx hb dX1_remove_54 rfl (lv_at hl 1 rfl) ?_
        refine gt_f (C := RX1) (T := TX1) (N := 5) hx hb ha in_X1 hown hK hP 0 rfl rfl 4 (by decide) m_154 rfl dX1_remove_55 ?_
        refine lv_iload_n hx hb dX1_remove_58 rfl (lv_at hl 0 rfl) ?_
        refine lv_iconst (v := 1) hx hb dX1_remove_59 (by decide) ?_
        refine lv_isub hx hb dX1_remove_60 ?_
        refine lv_aload_n hx hb dX1_remove_61 rfl (lv_at hl 1 rfl) ?_
        refine gt_f (C := RX1) (T := TX1) (N := 5) hx hb ha in_X1 hown hK hP 0 rfl rfl 4 (by decide) m_154 rfl dX1_remove_62 ?_
        refine lv_iload_n hx hb dX1_remove_65 rfl (lv_at hl 0 rfl) ?_
        obtain ⟨hi, hf⟩ := sf_ge hf
        refine ia_ld hx hb hK hP 4 rfl hi dX1_remove_66 ?_
        obtain ⟨hi, hf⟩ := sf_ge hf
        obtain ⟨a_10, ea_10, hf⟩ := sf_ne hf
        refine ia_st (ws' := [(h0, .inr (0, [.int bc, .ref h1, .ref h2, .ref h3, .ref h4])), (h1, .inl (dA 0, 12, .inl a_7)), (h2, .inl (dA 0, 12, .inl a_8)), (h3, .inl (dA 0, 12, .inl a_9)), (h4, .inl (dA 0, 12, .inl a_10))]) hx hb hK hP hD hS 4 rfl hi ea_10 rfl dX1_remove_67 (fun H locs hP hD hS => ?_)
        obtain ⟨x_11, ex_11, hf⟩ := sf_ne hf
        refine ii_nc (lv' := [(2, .int x_11), (0, .ref h0)]) (k := 0) hx hb dX1_remove_68 hl rfl ex_11 (by decide) (by decide) rfl (fun ls hl => ?_)
        refine lv_goto (tgt := 4) hx hb dX1_remove_71 (by decide) ?_
        exact ih _ _ _ _ _ _ _ _ (hP.sub [0, 1, 2, 3, 4] rfl) (hD.sub [0, 1, 2, 3, 4] (by decide) rfl) hS (lv_sub hl [0, 1] rfl) hf hk
  refine hL4 _ _ _ _ _ _ _ _ _ _ hP hD hS (lv_sub hl [0, 1] rfl) hf (fun z_12 z_13 z_14 z_15 H locs ls hP hD hS hl hf => ?_)
  refine lv_aload_n hx hb dX1_remove_74 rfl (lv_at hl 0 rfl) ?_
  refine lv_dup hx hb dX1_remove_75 rfl ?_
  refine gt_f (C := RX1) (T := TX1) (N := 5) hx hb ha in_X1 hown hK hP 0 rfl rfl 0 (by decide) m_140 rfl dX1_remove_76 ?_
  refine lv_iconst (v := 1) hx hb dX1_remove_79 (by decide) ?_
  refine lv_isub hx hb dX1_remove_80 ?_
  obtain ⟨x_16, ex_16, hf⟩ := sf_ne hf
  refine tp_i ex_16 ?_
  refine pt_f (C := RX1) (T := TX1) (N := 5) (ws' := [(h0, .inr (0, [.int x_16, .ref h1, .ref h2, .ref h3, .ref h4])), (h1, .inl (dA 0, 12, .inl z_12)), (h2, .inl (dA 0, 12, .inl z_13)), (h3, .inl (dA 0, 12, .inl z_14)), (h4, .inl (dA 0, 12, .inl z_15))]) (ty := .int) hx hb ha in_X1 tyX1 tyX1_ok nmX1 hown hK hP hD hS 0 rfl rfl 0 (by decide) m_140 rfl (tyX1_ok 0 (by decide)) rfl rfl (Nat.le_of_ble_eq_true rfl) rfl dX1_remove_81 (fun H locs hP hD hS => ?_)
  cases hf
  exact rt_Mv hx hb hr hlocks (hP.sub [0, 1, 2, 3, 4] rfl) (hD.sub [0, 1, 2, 3, 4] (by decide) rfl) hS dX1_remove_84

def f_X1_meets (bt : Nat → Int32) (be : Nat → Int32) (p0 : Int32) (p1 : Int32) (p2 : Int32) : Option Int32 :=
  sf_g (sf_in p0 12 = true) (sf_b (p2 ≤ (bt p0.toNatClampNeg)) (some (0 : Int32)) (sf_g (sf_in p0 12 = true) (sf_b ((be p0.toNatClampNeg) ≤ p1) (some (0 : Int32)) (some (1 : Int32)))))
theorem yd_X1_meets : yX1_meets.cls = RX1 ∧ yX1_meets.cls ≠ "java/lang/invoke/MethodHandle" ∧ yX1_meets.cls ≠ "java/lang/invoke/VarHandle" ∧ (parseMethodDescriptor yX1_meets.desc).map (fun d => d.parameters.length) = some 3 := ⟨rfl, by decide, by decide, by decide +kernel⟩
set_option maxRecDepth 100000 in
set_option maxHeartbeats 4000000 in
theorem c_X1_meets (l : Launch) (D : va_G) (dA : Nat → ClassId) (h0 h1 h2 h3 h4 : Nat) (bc : Int32) (bg : Nat → Int32) (bs : Nat → Int32) (bt : Nat → Int32) (be : Nat → Int32) (p0 : Int32) (p1 : Int32) (p2 : Int32) (rr : Int32) (hf : f_X1_meets bt be p0 p1 p2 = some rr) : Met l yX1_meets (wo (.code yX1_meets cX1_meets 4 (some .boolean))) ({ frames := 0, cells := 0, slots := 0, locals := 0 } : Room) (preP D dA [.ref h0, .int p0, .int p1, .int p2] [(h0, .inr (0, [.int bc, .ref h1, .ref h2, .ref h3, .ref h4])), (h1, .inl (dA 0, 12, .inl bg)), (h2, .inl (dA 0, 12, .inl bs)), (h3, .inl (dA 0, 12, .inl bt)), (h4, .inl (dA 0, 12, .inl be))]) (poPi rr) 0 0 noA := by
  refine of_P (own := RX1) (by decide) rfl (Nat.le_of_ble_eq_true rfl) ?_
  intro p e s m below meth c hx hb hr ha hown hml hlocks hP hK hS ls hl
  have hl : lv_has ls 4 [(0, .ref h0), (1, .int p0), (2, .int p1), (3, .int p2)] := hl
  rw [f_X1_meets] at hf
  refine lv_aload_n hx hb dX1_meets_0 rfl (lv_at hl 0 rfl) ?_
  refine gt_f (C := RX1) (T := TX1) (N := 5) hx hb ha in_X1 hown hK hP 0 rfl rfl 3 (by decide) m_150 rfl dX1_meets_1 ?_
  refine lv_iload_n hx hb dX1_meets_4 rfl (lv_at hl 1 rfl) ?_
  obtain ⟨hi, hf⟩ := sf_ge hf
  refine ia_ld hx hb hK hP 3 rfl hi dX1_meets_5 ?_
  refine lv_iload_n hx hb dX1_meets_6 rfl (lv_at hl 3 rfl) ?_
  refine lv_icmp_ge (tgt := 24) hx hb dX1_meets_7 (by decide) (fun hc => ?_) (fun hc => ?_)
  · have hf := sf_bp hf hc
    refine lv_iconst (v := 0) hx hb dX1_meets_24 (by decide) ?_
    exact rt_Pz hx hb hr hlocks (Option.some.inj hf) rfl hS dX1_meets_25
  · have hf := sf_bn hf hc
    refine lv_iload_n hx hb dX1_meets_10 rfl (lv_at hl 2 rfl) ?_
    refine lv_aload_n hx hb dX1_meets_11 rfl (lv_at hl 0 rfl) ?_
    refine gt_f (C := RX1) (T := TX1) (N := 5) hx hb ha in_X1 hown hK hP 0 rfl rfl 4 (by decide) m_154 rfl dX1_meets_12 ?_
    refine lv_iload_n hx hb dX1_meets_15 rfl (lv_at hl 1 rfl) ?_
    obtain ⟨hi, hf⟩ := sf_ge hf
    refine ia_ld hx hb hK hP 4 rfl hi dX1_meets_16 ?_
    refine lv_icmp_ge (tgt := 24) hx hb dX1_meets_17 (by decide) (fun hc => ?_) (fun hc => ?_)
    · have hf := sf_bp hf hc
      refine lv_iconst (v := 0) hx hb dX1_meets_24 (by decide) ?_
      exact rt_Pz hx hb hr hlocks (Option.some.inj hf) rfl hS dX1_meets_25
    · have hf := sf_bn hf hc
      refine lv_iconst (v := 1) hx hb dX1_meets_20 (by decide) ?_
      refine lv_goto (tgt := 25) hx hb dX1_meets_21 (by decide) ?_
      exact rt_Pz hx hb hr hlocks (Option.some.inj hf) rfl hS dX1_meets_25

def f_X1_isSlideFree_L3 (bc : Int32) (bs : Nat → Int32) (bt : Nat → Int32) (be : Nat → Int32) (p0 : Int32) (p1 : Int32) (p2 : Int32) (k : Unit → Option Int32) : Nat → Int32 → Option Int32
  | 0, _ => none
  | n + 1, v_1 => sf_b (bc ≤ v_1) (k ()) (sf_g (sf_in v_1 12 = true) (sf_b ((bs v_1.toNatClampNeg) = p0) (sf_c1 (f_X1_meets bt be v_1 p1 p2) (fun r_3 => sf_b (r_3 = (0 : Int32)) (sf_n (v_1 + (1 : Int32)) (fun x_4 => f_X1_isSlideFree_L3 bc bs bt be p0 p1 p2 k n x_4)) (some (0 : Int32)))) (sf_n (v_1 + (1 : Int32)) (fun x_2 => f_X1_isSlideFree_L3 bc bs bt be p0 p1 p2 k n x_2))))
def f_X1_isSlideFree (bc : Int32) (bs : Nat → Int32) (bt : Nat → Int32) (be : Nat → Int32) (p0 : Int32) (p1 : Int32) (p2 : Int32) : Option Int32 :=
  f_X1_isSlideFree_L3 bc bs bt be p0 p1 p2 (fun _ => some (1 : Int32)) 2000 (0 : Int32)
theorem yd_X1_isSlideFree : yX1_isSlideFree.cls = RX1 ∧ yX1_isSlideFree.cls ≠ "java/lang/invoke/MethodHandle" ∧ yX1_isSlideFree.cls ≠ "java/lang/invoke/VarHandle" ∧ (parseMethodDescriptor yX1_isSlideFree.desc).map (fun d => d.parameters.length) = some 3 := ⟨rfl, by decide, by decide, by decide +kernel⟩
set_option maxRecDepth 100000 in
set_option maxHeartbeats 4000000 in
theorem c_X1_isSlideFree (l : Launch) (D : va_G) (dA : Nat → ClassId) (h0 h1 h2 h3 h4 : Nat) (bc : Int32) (bg : Nat → Int32) (bs : Nat → Int32) (bt : Nat → Int32) (be : Nat → Int32) (p0 : Int32) (p1 : Int32) (p2 : Int32) (rr : Int32) (hf : f_X1_isSlideFree bc bs bt be p0 p1 p2 = some rr) : Met l yX1_isSlideFree (wo (.code yX1_isSlideFree cX1_isSlideFree 5 (some .boolean))) ({ frames := 1, cells := 0, slots := 0, locals := 23 } : Room) (preP D dA [.ref h0, .int p0, .int p1, .int p2] [(h0, .inr (0, [.int bc, .ref h1, .ref h2, .ref h3, .ref h4])), (h1, .inl (dA 0, 12, .inl bg)), (h2, .inl (dA 0, 12, .inl bs)), (h3, .inl (dA 0, 12, .inl bt)), (h4, .inl (dA 0, 12, .inl be))]) (poPi rr) 0 0 noA := by
  refine of_P (own := RX1) (by decide) rfl (Nat.le_of_ble_eq_true rfl) ?_
  intro p e s m below meth c hx hb hr ha hown hml hlocks hP hK hS ls hl
  have hl : lv_has ls 5 [(0, .ref h0), (1, .int p0), (2, .int p1), (3, .int p2)] := hl
  rw [f_X1_isSlideFree] at hf
  refine lv_iconst (v := 0) hx hb dX1_isSlideFree_0 (by decide) ?_
  refine lv_istore (lv' := [(4, .int (0 : Int32)), (0, .ref h0), (1, .int p0), (2, .int p1), (3, .int p2)]) hx hb dX1_isSlideFree_1 hl (by decide) rfl (fun ls hl => ?_)
  have hL3 : ∀ (n : Nat) (k : Unit → Option Int32) (v_1 : Int32) (H : Heap) (locs : List Loc) (ls : Array Slot), va_P D cls [(h0, .inr (0, [.int bc, .ref h1, .ref h2, .ref h3, .ref h4])), (h1, .inl (dA 0, 12, .inl bg)), (h2, .inl (dA 0, 12, .inl bs)), (h3, .inl (dA 0, 12, .inl bt)), (h4, .inl (dA 0, 12, .inl be))] H → va_S noA s.heap H locs → lv_has ls 5 [(4, .int v_1), (0, .ref h0), (1, .int p0), (2, .int p1), (3, .int p2)] → f_X1_isSlideFree_L3 bc bs bt be p0 p1 p2 k n v_1 = some rr → (∀ (H : Heap) (locs : List Loc) (ls : Array Slot), va_P D cls [(h0, .inr (0, [.int bc, .ref h1, .ref h2, .ref h3, .ref h4])), (h1, .inl (dA 0, 12, .inl bg)), (h2, .inl (dA 0, 12, .inl bs)), (h3, .inl (dA 0, 12, .inl bt)), (h4, .inl (dA 0, 12, .inl be))] H → va_S noA s.heap H locs → lv_has ls 5 [] → k () = some rr → W p l e ({ frames := 1, cells := 0, slots := 0, locals := 23 } : Room) s m ([.ref h0, .int p0, .int p1, .int p2] : List Value).toArray below meth c H locs 0 0 (MQ below (poPi rr) ([.ref h0, .int p0, .int p1, .int p2] : List Value).toArray s 0 0 noA) (F0 m 42 ls [])) → W p l e ({ frames := 1, cells := 0, slots := 0, locals := 23 } : Room) s m ([.ref h0, .int p0, .int p1, .int p2] : List Value).toArray below meth c H locs 0 0 (MQ below (poPi rr) ([.ref h0, .int p0, .int p1, .int p2] : List Value).toArray s 0 0 noA) (F0 m 3 ls []) := by
    intro n k
    induction n with
    | zero =>
      intro v_1 H locs ls hP hS hl hf hk
      rw [f_X1_isSlideFree_L3] at hf
      cases hf
    | succ n ih =>
      intro v_1 H locs ls hP hS hl hf hk
      rw [f_X1_isSlideFree_L3] at hf
      refine lv_iload hx hb dX1_isSlideFree_3 (lv_at hl 0 rfl) ?_
      refine lv_aload_n hx hb dX1_isSlideFree_5 rfl (lv_at hl 1 rfl) ?_
      refine gt_f (C := RX1) (T := TX1) (N := 5) hx hb ha in_X1 hown hK hP 0 rfl rfl 0 (by decide) m_140 rfl dX1_isSlideFree_6 ?_
      refine lv_icmp_ge (tgt := 42) hx hb dX1_isSlideFree_9 (by decide) (fun hc => ?_) (fun hc => ?_)
      · have hf := sf_bp hf hc
        exact hk _ _ _ hP hS (lv_sub hl [] rfl) hf
      · have hf := sf_bn hf hc
        refine lv_aload_n hx hb dX1_isSlideFree_12 rfl (lv_at hl 1 rfl) ?_
        refine gt_f (C := RX1) (T := TX1) (N := 5) hx hb ha in_X1 hown hK hP 0 rfl rfl 2 (by decide) m_147 rfl dX1_isSlideFree_13 ?_
        refine lv_iload hx hb dX1_isSlideFree_16 (lv_at hl 0 rfl) ?_
        obtain ⟨hi, hf⟩ := sf_ge hf
        refine ia_ld hx hb hK hP 2 rfl hi dX1_isSlideFree_18 ?_
        refine lv_iload_n hx hb dX1_isSlideFree_19 rfl (lv_at hl 2 rfl) ?_
        refine lv_icmp_ne (tgt := 36) hx hb dX1_isSlideFree_20 (by decide) (fun hc => ?_) (fun hc => ?_)
        · have hf := sf_bn hf hc
          obtain ⟨x_2, ex_2, hf⟩ := sf_ne hf
          refine ii_nc (lv' := [(4, .int x_2), (0, .ref h0), (1, .int p0), (2, .int p1), (3, .int p2)]) (k := 0) hx hb dX1_isSlideFree_36 hl rfl ex_2 (by decide) (by decide) rfl (fun ls hl => ?_)
          refine lv_goto (tgt := 3) hx hb dX1_isSlideFree_39 (by decide) ?_
          exact ih _ _ _ _ hP hS (lv_sub hl [0, 1, 2, 3, 4] rfl) hf hk
        · have hf := sf_bp hf hc
          refine lv_aload_n hx hb dX1_isSlideFree_23 rfl (lv_at hl 1 rfl) ?_
          refine lv_iload hx hb dX1_isSlideFree_24 (lv_at hl 0 rfl) ?_
          refine lv_iload_n hx hb dX1_isSlideFree_26 rfl (lv_at hl 3 rfl) ?_
          refine lv_iload_n hx hb dX1_isSlideFree_27 rfl (lv_at hl 4 rfl) ?_
          obtain ⟨r_3, hc3, hf⟩ := sf_c1e hf
          refine k_Pi (run_PV (As := [.int v_1, .int p1, .int p2]) (rest := []) ⟨hx, hb, hml, hown, ha⟩ (c_X1_meets l D dA h0 h1 h2 h3 h4  bc bg bs bt be v_1 p1 p2 _ hc3) (gi_V m_642 m_644 m_3 m_35 m_645) yd_X1_meets ⟨Nat.le_of_ble_eq_true rfl, Nat.le_of_ble_eq_true rfl⟩ ⟨rfl, rfl⟩ hK hP [0, 1, 2, 3, 4] rfl 0 0 rfl rfl rfl rfl hl.1 rfl (Nat.le_of_ble_eq_true rfl) dX1_isSlideFree_28 ⟨Nat.le_of_ble_eq_true rfl, Nat.le_of_ble_eq_true rfl⟩) hP hS (fun H locs hP hS => ?_)
          refine lv_if_eq (tgt := 36) hx hb dX1_isSlideFree_31 (by decide) (fun hc => ?_) (fun hc => ?_)
          · have hf := sf_bp hf hc
            obtain ⟨x_4, ex_4, hf⟩ := sf_ne hf
            refine ii_nc (lv' := [(4, .int x_4), (0, .ref h0), (1, .int p0), (2, .int p1), (3, .int p2)]) (k := 0) hx hb dX1_isSlideFree_36 hl rfl ex_4 (by decide) (by decide) rfl (fun ls hl => ?_)
            refine lv_goto (tgt := 3) hx hb dX1_isSlideFree_39 (by decide) ?_
            exact ih _ _ _ _ hP hS (lv_sub hl [0, 1, 2, 3, 4] rfl) hf hk
          · have hf := sf_bn hf hc
            refine lv_iconst (v := 0) hx hb dX1_isSlideFree_34 (by decide) ?_
            exact rt_Pz hx hb hr hlocks (Option.some.inj hf) rfl hS dX1_isSlideFree_35
  refine hL3 _ _ _ _ _ _ hP hS (lv_sub hl [0, 1, 2, 3, 4] rfl) hf (fun  H locs ls hP hS hl hf => ?_)
  refine lv_iconst (v := 1) hx hb dX1_isSlideFree_42 (by decide) ?_
  exact rt_Pz hx hb hr hlocks (Option.some.inj hf) rfl hS dX1_isSlideFree_43

def f_X1_areFree_L3 (bc : Int32) (bg : Nat → Int32) (bs : Nat → Int32) (bt : Nat → Int32) (be : Nat → Int32) (p0 : Int32) (p1 : Int32) (p2 : Int32) (p3 : Int32) (k : Unit → Option Int32) : Nat → Int32 → Option Int32
  | 0, _ => none
  | n + 1, v_1 => sf_b (bc ≤ v_1) (k ()) (sf_g (sf_in v_1 12 = true) (sf_b ((bg v_1.toNatClampNeg) = p0) (sf_c1 (f_X1_meets bt be v_1 p2 p3) (fun r_2 => sf_b (r_2 = (0 : Int32)) (sf_n (v_1 + (1 : Int32)) (fun x_3 => f_X1_areFree_L3 bc bg bs bt be p0 p1 p2 p3 k n x_3)) (some (0 : Int32)))) (sf_g (sf_in v_1 12 = true) (sf_b ((bs v_1.toNatClampNeg) = p1) (sf_c1 (f_X1_meets bt be v_1 p2 p3) (fun r_5 => sf_b (r_5 = (0 : Int32)) (sf_n (v_1 + (1 : Int32)) (fun x_6 => f_X1_areFree_L3 bc bg bs bt be p0 p1 p2 p3 k n x_6)) (some (0 : Int32)))) (sf_n (v_1 + (1 : Int32)) (fun x_4 => f_X1_areFree_L3 bc bg bs bt be p0 p1 p2 p3 k n x_4))))))
def f_X1_areFree (bc : Int32) (bg : Nat → Int32) (bs : Nat → Int32) (bt : Nat → Int32) (be : Nat → Int32) (p0 : Int32) (p1 : Int32) (p2 : Int32) (p3 : Int32) : Option Int32 :=
  f_X1_areFree_L3 bc bg bs bt be p0 p1 p2 p3 (fun _ => some (1 : Int32)) 2000 (0 : Int32)
theorem yd_X1_areFree : yX1_areFree.cls = RX1 ∧ yX1_areFree.cls ≠ "java/lang/invoke/MethodHandle" ∧ yX1_areFree.cls ≠ "java/lang/invoke/VarHandle" ∧ (parseMethodDescriptor yX1_areFree.desc).map (fun d => d.parameters.length) = some 4 := ⟨rfl, by decide, by decide, by decide +kernel⟩
set_option maxRecDepth 100000 in
set_option maxHeartbeats 4000000 in
theorem c_X1_areFree (l : Launch) (D : va_G) (dA : Nat → ClassId) (h0 h1 h2 h3 h4 : Nat) (bc : Int32) (bg : Nat → Int32) (bs : Nat → Int32) (bt : Nat → Int32) (be : Nat → Int32) (p0 : Int32) (p1 : Int32) (p2 : Int32) (p3 : Int32) (rr : Int32) (hf : f_X1_areFree bc bg bs bt be p0 p1 p2 p3 = some rr) : Met l yX1_areFree (wo (.code yX1_areFree cX1_areFree 7 (some .boolean))) ({ frames := 1, cells := 0, slots := 0, locals := 23 } : Room) (preP D dA [.ref h0, .int p0, .int p1, .int p2, .int p3] [(h0, .inr (0, [.int bc, .ref h1, .ref h2, .ref h3, .ref h4])), (h1, .inl (dA 0, 12, .inl bg)), (h2, .inl (dA 0, 12, .inl bs)), (h3, .inl (dA 0, 12, .inl bt)), (h4, .inl (dA 0, 12, .inl be))]) (poPi rr) 0 0 noA := by
  refine of_P (own := RX1) (by decide) rfl (Nat.le_of_ble_eq_true rfl) ?_
  intro p e s m below meth c hx hb hr ha hown hml hlocks hP hK hS ls hl
  have hl : lv_has ls 7 [(0, .ref h0), (1, .int p0), (2, .int p1), (3, .int p2), (4, .int p3)] := hl
  rw [f_X1_areFree] at hf
  refine lv_iconst (v := 0) hx hb dX1_areFree_0 (by decide) ?_
  refine lv_istore (lv' := [(5, .int (0 : Int32)), (0, .ref h0), (1, .int p0), (2, .int p1), (3, .int p2), (4, .int p3)]) hx hb dX1_areFree_1 hl (by decide) rfl (fun ls hl => ?_)
  have hL3 : ∀ (n : Nat) (k : Unit → Option Int32) (v_1 : Int32) (H : Heap) (locs : List Loc) (ls : Array Slot), va_P D cls [(h0, .inr (0, [.int bc, .ref h1, .ref h2, .ref h3, .ref h4])), (h1, .inl (dA 0, 12, .inl bg)), (h2, .inl (dA 0, 12, .inl bs)), (h3, .inl (dA 0, 12, .inl bt)), (h4, .inl (dA 0, 12, .inl be))] H → va_S noA s.heap H locs → lv_has ls 7 [(5, .int v_1), (0, .ref h0), (1, .int p0), (2, .int p1), (3, .int p2), (4, .int p3)] → f_X1_areFree_L3 bc bg bs bt be p0 p1 p2 p3 k n v_1 = some rr → (∀ (H : Heap) (locs : List Loc) (ls : Array Slot), va_P D cls [(h0, .inr (0, [.int bc, .ref h1, .ref h2, .ref h3, .ref h4])), (h1, .inl (dA 0, 12, .inl bg)), (h2, .inl (dA 0, 12, .inl bs)), (h3, .inl (dA 0, 12, .inl bt)), (h4, .inl (dA 0, 12, .inl be))] H → va_S noA s.heap H locs → lv_has ls 7 [] → k () = some rr → W p l e ({ frames := 1, cells := 0, slots := 0, locals := 23 } : Room) s m ([.ref h0, .int p0, .int p1, .int p2, .int p3] : List Value).toArray below meth c H locs 0 0 (MQ below (poPi rr) ([.ref h0, .int p0, .int p1, .int p2, .int p3] : List Value).toArray s 0 0 noA) (F0 m 66 ls [])) → W p l e ({ frames := 1, cells := 0, slots := 0, locals := 23 } : Room) s m ([.ref h0, .int p0, .int p1, .int p2, .int p3] : List Value).toArray below meth c H locs 0 0 (MQ below (poPi rr) ([.ref h0, .int p0, .int p1, .int p2, .int p3] : List Value).toArray s 0 0 noA) (F0 m 3 ls []) := by
    intro n k
    induction n with
    | zero =>
      intro v_1 H locs ls hP hS hl hf hk
      rw [f_X1_areFree_L3] at hf
      cases hf
    | succ n ih =>
      intro v_1 H locs ls hP hS hl hf hk
      rw [f_X1_areFree_L3] at hf
      refine lv_iload hx hb dX1_areFree_3 (lv_at hl 0 rfl) ?_
      refine lv_aload_n hx hb dX1_areFree_5 rfl (lv_at hl 1 rfl) ?_
      refine gt_f (C := RX1) (T := TX1) (N := 5) hx hb ha in_X1 hown hK hP 0 rfl rfl 0 (by decide) m_140 rfl dX1_areFree_6 ?_
      refine lv_icmp_ge (tgt := 66) hx hb dX1_areFree_9 (by decide) (fun hc => ?_) (fun hc => ?_)
      · have hf := sf_bp hf hc
        exact hk _ _ _ hP hS (lv_sub hl [] rfl) hf
      · have hf := sf_bn hf hc
        refine lv_aload_n hx hb dX1_areFree_12 rfl (lv_at hl 1 rfl) ?_
        refine gt_f (C := RX1) (T := TX1) (N := 5) hx hb ha in_X1 hown hK hP 0 rfl rfl 1 (by decide) m_144 rfl dX1_areFree_13 ?_
        refine lv_iload hx hb dX1_areFree_16 (lv_at hl 0 rfl) ?_
        obtain ⟨hi, hf⟩ := sf_ge hf
        refine ia_ld hx hb hK hP 1 rfl hi dX1_areFree_18 ?_
        refine lv_iload_n hx hb dX1_areFree_19 rfl (lv_at hl 2 rfl) ?_
        refine lv_icmp_eq (tgt := 34) hx hb dX1_areFree_20 (by decide) (fun hc => ?_) (fun hc => ?_)
        · have hf := sf_bp hf hc
          refine lv_iconst (v := 1) hx hb dX1_areFree_34 (by decide) ?_
          refine lv_goto (tgt := 39) hx hb dX1_areFree_35 (by decide) ?_
          refine lv_istore (lv' := [(6, .int (1 : Int32)), (5, .int v_1), (0, .ref h0), (1, .int p0), (2, .int p1), (3, .int p2), (4, .int p3)]) hx hb dX1_areFree_39 hl (by decide) rfl (fun ls hl => ?_)
          refine lv_iload hx hb dX1_areFree_41 (lv_at hl 0 rfl) ?_
          refine lv_if_eq (tgt := 60) hx hb dX1_areFree_43 (by decide) (fun hc => absurd hc (by decide)) (fun hc => ?_)
          refine lv_aload_n hx hb dX1_areFree_46 rfl (lv_at hl 2 rfl) ?_
          refine lv_iload hx hb dX1_areFree_47 (lv_at hl 1 rfl) ?_
          refine lv_iload_n hx hb dX1_areFree_49 rfl (lv_at hl 5 rfl) ?_
          refine lv_iload hx hb dX1_areFree_50 (lv_at hl 6 rfl) ?_
          obtain ⟨r_2, hc2, hf⟩ := sf_c1e hf
          refine k_Pi (run_PV (As := [.int v_1, .int p2, .int p3]) (rest := []) ⟨hx, hb, hml, hown, ha⟩ (c_X1_meets l D dA h0 h1 h2 h3 h4  bc bg bs bt be v_1 p2 p3 _ hc2) (gi_V m_642 m_644 m_3 m_35 m_645) yd_X1_meets ⟨Nat.le_of_ble_eq_true rfl, Nat.le_of_ble_eq_true rfl⟩ ⟨rfl, rfl⟩ hK hP [0, 1, 2, 3, 4] rfl 0 0 rfl rfl rfl rfl hl.1 rfl (Nat.le_of_ble_eq_true rfl) dX1_areFree_52 ⟨Nat.le_of_ble_eq_true rfl, Nat.le_of_ble_eq_true rfl⟩) hP hS (fun H locs hP hS => ?_)
          refine lv_if_eq (tgt := 60) hx hb dX1_areFree_55 (by decide) (fun hc => ?_) (fun hc => ?_)
          · have hf := sf_bp hf hc
            obtain ⟨x_3, ex_3, hf⟩ := sf_ne hf
            refine ii_nc (lv' := [(5, .int x_3), (6, .int (1 : Int32)), (0, .ref h0), (1, .int p0), (2, .int p1), (3, .int p2), (4, .int p3)]) (k := 1) hx hb dX1_areFree_60 hl rfl ex_3 (by decide) (by decide) rfl (fun ls hl => ?_)
            refine lv_goto (tgt := 3) hx hb dX1_areFree_63 (by decide) ?_
            exact ih _ _ _ _ hP hS (lv_sub hl [0, 2, 3, 4, 5, 6] rfl) hf hk
          · have hf := sf_bn hf hc
            refine lv_iconst (v := 0) hx hb dX1_areFree_58 (by decide) ?_
            exact rt_Pz hx hb hr hlocks (Option.some.inj hf) rfl hS dX1_areFree_59
        · have hf := sf_bn hf hc
          refine lv_aload_n hx hb dX1_areFree_23 rfl (lv_at hl 1 rfl) ?_
          refine gt_f (C := RX1) (T := TX1) (N := 5) hx hb ha in_X1 hown hK hP 0 rfl rfl 2 (by decide) m_147 rfl dX1_areFree_24 ?_
          refine lv_iload hx hb dX1_areFree_27 (lv_at hl 0 rfl) ?_
          obtain ⟨hi, hf⟩ := sf_ge hf
          refine ia_ld hx hb hK hP 2 rfl hi dX1_areFree_29 ?_
          refine lv_iload_n hx hb dX1_areFree_30 rfl (lv_at hl 3 rfl) ?_
          refine lv_icmp_ne (tgt := 38) hx hb dX1_areFree_31 (by decide) (fun hc => ?_) (fun hc => ?_)
          · have hf := sf_bn hf hc
            refine lv_iconst (v := 0) hx hb dX1_areFree_38 (by decide) ?_
            refine lv_istore (lv' := [(6, .int (0 : Int32)), (5, .int v_1), (0, .ref h0), (1, .int p0), (2, .int p1), (3, .int p2), (4, .int p3)]) hx hb dX1_areFree_39 hl (by decide) rfl (fun ls hl => ?_)
            refine lv_iload hx hb dX1_areFree_41 (lv_at hl 0 rfl) ?_
            refine lv_if_eq (tgt := 60) hx hb dX1_areFree_43 (by decide) (fun hc => ?_) (fun hc => absurd (by decide) hc)
            obtain ⟨x_4, ex_4, hf⟩ := sf_ne hf
            refine ii_nc (lv' := [(5, .int x_4), (6, .int (0 : Int32)), (0, .ref h0), (1, .int p0), (2, .int p1), (3, .int p2), (4, .int p3)]) (k := 1) hx hb dX1_areFree_60 hl rfl ex_4 (by decide) (by decide) rfl (fun ls hl => ?_)
            refine lv_goto (tgt := 3) hx hb dX1_areFree_63 (by decide) ?_
            exact ih _ _ _ _ hP hS (lv_sub hl [0, 2, 3, 4, 5, 6] rfl) hf hk
          · have hf := sf_bp hf hc
            refine lv_iconst (v := 1) hx hb dX1_areFree_34 (by decide) ?_
            refine lv_goto (tgt := 39) hx hb dX1_areFree_35 (by decide) ?_
            refine lv_istore (lv' := [(6, .int (1 : Int32)), (5, .int v_1), (0, .ref h0), (1, .int p0), (2, .int p1), (3, .int p2), (4, .int p3)]) hx hb dX1_areFree_39 hl (by decide) rfl (fun ls hl => ?_)
            refine lv_iload hx hb dX1_areFree_41 (lv_at hl 0 rfl) ?_
            refine lv_if_eq (tgt := 60) hx hb dX1_areFree_43 (by decide) (fun hc => absurd hc (by decide)) (fun hc => ?_)
            refine lv_aload_n hx hb dX1_areFree_46 rfl (lv_at hl 2 rfl) ?_
            refine lv_iload hx hb dX1_areFree_47 (lv_at hl 1 rfl) ?_
            refine lv_iload_n hx hb dX1_areFree_49 rfl (lv_at hl 5 rfl) ?_
            refine lv_iload hx hb dX1_areFree_50 (lv_at hl 6 rfl) ?_
            obtain ⟨r_5, hc5, hf⟩ := sf_c1e hf
            refine k_Pi (run_PV (As := [.int v_1, .int p2, .int p3]) (rest := []) ⟨hx, hb, hml, hown, ha⟩ (c_X1_meets l D dA h0 h1 h2 h3 h4  bc bg bs bt be v_1 p2 p3 _ hc5) (gi_V m_642 m_644 m_3 m_35 m_645) yd_X1_meets ⟨Nat.le_of_ble_eq_true rfl, Nat.le_of_ble_eq_true rfl⟩ ⟨rfl, rfl⟩ hK hP [0, 1, 2, 3, 4] rfl 0 0 rfl rfl rfl rfl hl.1 rfl (Nat.le_of_ble_eq_true rfl) dX1_areFree_52 ⟨Nat.le_of_ble_eq_true rfl, Nat.le_of_ble_eq_true rfl⟩) hP hS (fun H locs hP hS => ?_)
            refine lv_if_eq (tgt := 60) hx hb dX1_areFree_55 (by decide) (fun hc => ?_) (fun hc => ?_)
            · have hf := sf_bp hf hc
              obtain ⟨x_6, ex_6, hf⟩ := sf_ne hf
              refine ii_nc (lv' := [(5, .int x_6), (6, .int (1 : Int32)), (0, .ref h0), (1, .int p0), (2, .int p1), (3, .int p2), (4, .int p3)]) (k := 1) hx hb dX1_areFree_60 hl rfl ex_6 (by decide) (by decide) rfl (fun ls hl => ?_)
              refine lv_goto (tgt := 3) hx hb dX1_areFree_63 (by decide) ?_
              exact ih _ _ _ _ hP hS (lv_sub hl [0, 2, 3, 4, 5, 6] rfl) hf hk
            · have hf := sf_bn hf hc
              refine lv_iconst (v := 0) hx hb dX1_areFree_58 (by decide) ?_
              exact rt_Pz hx hb hr hlocks (Option.some.inj hf) rfl hS dX1_areFree_59
  refine hL3 _ _ _ _ _ _ hP hS (lv_sub hl [0, 1, 2, 3, 4, 5] rfl) hf (fun  H locs ls hP hS hl hf => ?_)
  refine lv_iconst (v := 1) hx hb dX1_areFree_66 (by decide) ?_
  exact rt_Pz hx hb hr hlocks (Option.some.inj hf) rfl hS dX1_areFree_67

def f_X1_takesPlaceAt (bt : Nat → Int32) (be : Nat → Int32) (p0 : Int32) (p1 : Int32) : Option Int32 :=
  sf_g (sf_in p0 12 = true) (sf_b (p1 < (bt p0.toNatClampNeg)) (some (0 : Int32)) (sf_g (sf_in p0 12 = true) (sf_b ((be p0.toNatClampNeg) ≤ p1) (some (0 : Int32)) (some (1 : Int32)))))
theorem yd_X1_takesPlaceAt : yX1_takesPlaceAt.cls = RX1 ∧ yX1_takesPlaceAt.cls ≠ "java/lang/invoke/MethodHandle" ∧ yX1_takesPlaceAt.cls ≠ "java/lang/invoke/VarHandle" ∧ (parseMethodDescriptor yX1_takesPlaceAt.desc).map (fun d => d.parameters.length) = some 2 := ⟨rfl, by decide, by decide, by decide +kernel⟩
set_option maxRecDepth 100000 in
set_option maxHeartbeats 4000000 in
theorem c_X1_takesPlaceAt (l : Launch) (D : va_G) (dA : Nat → ClassId) (h0 h1 h2 h3 h4 : Nat) (bc : Int32) (bg : Nat → Int32) (bs : Nat → Int32) (bt : Nat → Int32) (be : Nat → Int32) (p0 : Int32) (p1 : Int32) (rr : Int32) (hf : f_X1_takesPlaceAt bt be p0 p1 = some rr) : Met l yX1_takesPlaceAt (wo (.code yX1_takesPlaceAt cX1_takesPlaceAt 3 (some .boolean))) ({ frames := 0, cells := 0, slots := 0, locals := 0 } : Room) (preP D dA [.ref h0, .int p0, .int p1] [(h0, .inr (0, [.int bc, .ref h1, .ref h2, .ref h3, .ref h4])), (h1, .inl (dA 0, 12, .inl bg)), (h2, .inl (dA 0, 12, .inl bs)), (h3, .inl (dA 0, 12, .inl bt)), (h4, .inl (dA 0, 12, .inl be))]) (poPi rr) 0 0 noA := by
  refine of_P (own := RX1) (by decide) rfl (Nat.le_of_ble_eq_true rfl) ?_
  intro p e s m below meth c hx hb hr ha hown hml hlocks hP hK hS ls hl
  have hl : lv_has ls 3 [(0, .ref h0), (1, .int p0), (2, .int p1)] := hl
  rw [f_X1_takesPlaceAt] at hf
  refine lv_aload_n hx hb dX1_takesPlaceAt_0 rfl (lv_at hl 0 rfl) ?_
  refine gt_f (C := RX1) (T := TX1) (N := 5) hx hb ha in_X1 hown hK hP 0 rfl rfl 3 (by decide) m_150 rfl dX1_takesPlaceAt_1 ?_
  refine lv_iload_n hx hb dX1_takesPlaceAt_4 rfl (lv_at hl 1 rfl) ?_
  obtain ⟨hi, hf⟩ := sf_ge hf
  refine ia_ld hx hb hK hP 3 rfl hi dX1_takesPlaceAt_5 ?_
  refine lv_iload_n hx hb dX1_takesPlaceAt_6 rfl (lv_at hl 2 rfl) ?_
  refine lv_icmp_gt (tgt := 24) hx hb dX1_takesPlaceAt_7 (by decide) (fun hc => ?_) (fun hc => ?_)
  · have hf := sf_bp hf hc
    refine lv_iconst (v := 0) hx hb dX1_takesPlaceAt_24 (by decide) ?_
    exact rt_Pz hx hb hr hlocks (Option.some.inj hf) rfl hS dX1_takesPlaceAt_25
  · have hf := sf_bn hf hc
    refine lv_iload_n hx hb dX1_takesPlaceAt_10 rfl (lv_at hl 2 rfl) ?_
    refine lv_aload_n hx hb dX1_takesPlaceAt_11 rfl (lv_at hl 0 rfl) ?_
    refine gt_f (C := RX1) (T := TX1) (N := 5) hx hb ha in_X1 hown hK hP 0 rfl rfl 4 (by decide) m_154 rfl dX1_takesPlaceAt_12 ?_
    refine lv_iload_n hx hb dX1_takesPlaceAt_15 rfl (lv_at hl 1 rfl) ?_
    obtain ⟨hi, hf⟩ := sf_ge hf
    refine ia_ld hx hb hK hP 4 rfl hi dX1_takesPlaceAt_16 ?_
    refine lv_icmp_ge (tgt := 24) hx hb dX1_takesPlaceAt_17 (by decide) (fun hc => ?_) (fun hc => ?_)
    · have hf := sf_bp hf hc
      refine lv_iconst (v := 0) hx hb dX1_takesPlaceAt_24 (by decide) ?_
      exact rt_Pz hx hb hr hlocks (Option.some.inj hf) rfl hS dX1_takesPlaceAt_25
    · have hf := sf_bn hf hc
      refine lv_iconst (v := 1) hx hb dX1_takesPlaceAt_20 (by decide) ?_
      refine lv_goto (tgt := 25) hx hb dX1_takesPlaceAt_21 (by decide) ?_
      exact rt_Pz hx hb hr hlocks (Option.some.inj hf) rfl hS dX1_takesPlaceAt_25

def f_X1_onSlideAt_L2 (bc : Int32) (bs : Nat → Int32) (bt : Nat → Int32) (be : Nat → Int32) (p0 : Int32) (p1 : Int32) (k : Unit → Option Int32) : Nat → Int32 → Option Int32
  | 0, _ => none
  | n + 1, v_1 => sf_b (bc ≤ v_1) (k ()) (sf_g (sf_in v_1 12 = true) (sf_b ((bs v_1.toNatClampNeg) = p0) (sf_c1 (f_X1_takesPlaceAt bt be v_1 p1) (fun r_3 => sf_b (r_3 = (0 : Int32)) (sf_n (v_1 + (1 : Int32)) (fun x_4 => f_X1_onSlideAt_L2 bc bs bt be p0 p1 k n x_4)) (some v_1))) (sf_n (v_1 + (1 : Int32)) (fun x_2 => f_X1_onSlideAt_L2 bc bs bt be p0 p1 k n x_2))))
def f_X1_onSlideAt (bc : Int32) (bs : Nat → Int32) (bt : Nat → Int32) (be : Nat → Int32) (p0 : Int32) (p1 : Int32) : Option Int32 :=
  f_X1_onSlideAt_L2 bc bs bt be p0 p1 (fun _ => some (-1 : Int32)) 2000 (0 : Int32)
theorem yd_X1_onSlideAt : yX1_onSlideAt.cls = RX1 ∧ yX1_onSlideAt.cls ≠ "java/lang/invoke/MethodHandle" ∧ yX1_onSlideAt.cls ≠ "java/lang/invoke/VarHandle" ∧ (parseMethodDescriptor yX1_onSlideAt.desc).map (fun d => d.parameters.length) = some 2 := ⟨rfl, by decide, by decide, by decide +kernel⟩
set_option maxRecDepth 100000 in
set_option maxHeartbeats 4000000 in
theorem c_X1_onSlideAt (l : Launch) (D : va_G) (dA : Nat → ClassId) (h0 h1 h2 h3 h4 : Nat) (bc : Int32) (bg : Nat → Int32) (bs : Nat → Int32) (bt : Nat → Int32) (be : Nat → Int32) (p0 : Int32) (p1 : Int32) (rr : Int32) (hf : f_X1_onSlideAt bc bs bt be p0 p1 = some rr) : Met l yX1_onSlideAt (wo (.code yX1_onSlideAt cX1_onSlideAt 4 (some .int))) ({ frames := 1, cells := 0, slots := 0, locals := 22 } : Room) (preP D dA [.ref h0, .int p0, .int p1] [(h0, .inr (0, [.int bc, .ref h1, .ref h2, .ref h3, .ref h4])), (h1, .inl (dA 0, 12, .inl bg)), (h2, .inl (dA 0, 12, .inl bs)), (h3, .inl (dA 0, 12, .inl bt)), (h4, .inl (dA 0, 12, .inl be))]) (poPi rr) 0 0 noA := by
  refine of_P (own := RX1) (by decide) rfl (Nat.le_of_ble_eq_true rfl) ?_
  intro p e s m below meth c hx hb hr ha hown hml hlocks hP hK hS ls hl
  have hl : lv_has ls 4 [(0, .ref h0), (1, .int p0), (2, .int p1)] := hl
  rw [f_X1_onSlideAt] at hf
  refine lv_iconst (v := 0) hx hb dX1_onSlideAt_0 (by decide) ?_
  refine lv_istore_n (lv' := [(3, .int (0 : Int32)), (0, .ref h0), (1, .int p0), (2, .int p1)]) hx hb dX1_onSlideAt_1 rfl hl (by decide) rfl (fun ls hl => ?_)
  have hL2 : ∀ (n : Nat) (k : Unit → Option Int32) (v_1 : Int32) (H : Heap) (locs : List Loc) (ls : Array Slot), va_P D cls [(h0, .inr (0, [.int bc, .ref h1, .ref h2, .ref h3, .ref h4])), (h1, .inl (dA 0, 12, .inl bg)), (h2, .inl (dA 0, 12, .inl bs)), (h3, .inl (dA 0, 12, .inl bt)), (h4, .inl (dA 0, 12, .inl be))] H → va_S noA s.heap H locs → lv_has ls 4 [(3, .int v_1), (0, .ref h0), (1, .int p0), (2, .int p1)] → f_X1_onSlideAt_L2 bc bs bt be p0 p1 k n v_1 = some rr → (∀ (H : Heap) (locs : List Loc) (ls : Array Slot), va_P D cls [(h0, .inr (0, [.int bc, .ref h1, .ref h2, .ref h3, .ref h4])), (h1, .inl (dA 0, 12, .inl bg)), (h2, .inl (dA 0, 12, .inl bs)), (h3, .inl (dA 0, 12, .inl bt)), (h4, .inl (dA 0, 12, .inl be))] H → va_S noA s.heap H locs → lv_has ls 4 [] → k () = some rr → W p l e ({ frames := 1, cells := 0, slots := 0, locals := 22 } : Room) s m ([.ref h0, .int p0, .int p1] : List Value).toArray below meth c H locs 0 0 (MQ below (poPi rr) ([.ref h0, .int p0, .int p1] : List Value).toArray s 0 0 noA) (F0 m 37 ls [])) → W p l e ({ frames := 1, cells := 0, slots := 0, locals := 22 } : Room) s m ([.ref h0, .int p0, .int p1] : List Value).toArray below meth c H locs 0 0 (MQ below (poPi rr) ([.ref h0, .int p0, .int p1] : List Value).toArray s 0 0 noA) (F0 m 2 ls []) := by
    intro n k
    induction n with
    | zero =>
      intro v_1 H locs ls hP hS hl hf hk
      rw [f_X1_onSlideAt_L2] at hf
      cases hf
    | succ n ih =>
      intro v_1 H locs ls hP hS hl hf hk
      rw [f_X1_onSlideAt_L2] at hf
      refine lv_iload_n hx hb dX1_onSlideAt_2 rfl (lv_at hl 0 rfl) ?_
      refine lv_aload_n hx hb dX1_onSlideAt_3 rfl (lv_at hl 1 rfl) ?_
      refine gt_f (C := RX1) (T := TX1) (N := 5) hx hb ha in_X1 hown hK hP 0 rfl rfl 0 (by decide) m_140 rfl dX1_onSlideAt_4 ?_
      refine lv_icmp_ge (tgt := 37) hx hb dX1_onSlideAt_7 (by decide) (fun hc => ?_) (fun hc => ?_)
      · have hf := sf_bp hf hc
        exact hk _ _ _ hP hS (lv_sub hl [] rfl) hf
      · have hf := sf_bn hf hc
        refine lv_aload_n hx hb dX1_onSlideAt_10 rfl (lv_at hl 1 rfl) ?_
        refine gt_f (C := RX1) (T := TX1) (N := 5) hx hb ha in_X1 hown hK hP 0 rfl rfl 2 (by decide) m_147 rfl dX1_onSlideAt_11 ?_
        refine lv_iload_n hx hb dX1_onSlideAt_14 rfl (lv_at hl 0 rfl) ?_
        obtain ⟨hi, hf⟩ := sf_ge hf
        refine ia_ld hx hb hK hP 2 rfl hi dX1_onSlideAt_15 ?_
        refine lv_iload_n hx hb dX1_onSlideAt_16 rfl (lv_at hl 2 rfl) ?_
        refine lv_icmp_ne (tgt := 31) hx hb dX1_onSlideAt_17 (by decide) (fun hc => ?_) (fun hc => ?_)
        · have hf := sf_bn hf hc
          obtain ⟨x_2, ex_2, hf⟩ := sf_ne hf
          refine ii_nc (lv' := [(3, .int x_2), (0, .ref h0), (1, .int p0), (2, .int p1)]) (k := 0) hx hb dX1_onSlideAt_31 hl rfl ex_2 (by decide) (by decide) rfl (fun ls hl => ?_)
          refine lv_goto (tgt := 2) hx hb dX1_onSlideAt_34 (by decide) ?_
          exact ih _ _ _ _ hP hS (lv_sub hl [0, 1, 2, 3] rfl) hf hk
        · have hf := sf_bp hf hc
          refine lv_aload_n hx hb dX1_onSlideAt_20 rfl (lv_at hl 1 rfl) ?_
          refine lv_iload_n hx hb dX1_onSlideAt_21 rfl (lv_at hl 0 rfl) ?_
          refine lv_iload_n hx hb dX1_onSlideAt_22 rfl (lv_at hl 3 rfl) ?_
          obtain ⟨r_3, hc3, hf⟩ := sf_c1e hf
          refine k_Pi (run_PV (As := [.int v_1, .int p1]) (rest := []) ⟨hx, hb, hml, hown, ha⟩ (c_X1_takesPlaceAt l D dA h0 h1 h2 h3 h4  bc bg bs bt be v_1 p1 _ hc3) (gi_V m_709 m_711 m_7 m_35 m_712) yd_X1_takesPlaceAt ⟨Nat.le_of_ble_eq_true rfl, Nat.le_of_ble_eq_true rfl⟩ ⟨rfl, rfl⟩ hK hP [0, 1, 2, 3, 4] rfl 0 0 rfl rfl rfl rfl hl.1 rfl (Nat.le_of_ble_eq_true rfl) dX1_onSlideAt_23 ⟨Nat.le_of_ble_eq_true rfl, Nat.le_of_ble_eq_true rfl⟩) hP hS (fun H locs hP hS => ?_)
          refine lv_if_eq (tgt := 31) hx hb dX1_onSlideAt_26 (by decide) (fun hc => ?_) (fun hc => ?_)
          · have hf := sf_bp hf hc
            obtain ⟨x_4, ex_4, hf⟩ := sf_ne hf
            refine ii_nc (lv' := [(3, .int x_4), (0, .ref h0), (1, .int p0), (2, .int p1)]) (k := 0) hx hb dX1_onSlideAt_31 hl rfl ex_4 (by decide) (by decide) rfl (fun ls hl => ?_)
            refine lv_goto (tgt := 2) hx hb dX1_onSlideAt_34 (by decide) ?_
            exact ih _ _ _ _ hP hS (lv_sub hl [0, 1, 2, 3] rfl) hf hk
          · have hf := sf_bn hf hc
            refine lv_iload_n hx hb dX1_onSlideAt_29 rfl (lv_at hl 0 rfl) ?_
            exact rt_Pi hx hb hr hlocks (Option.some.inj hf) hS dX1_onSlideAt_30
  refine hL2 _ _ _ _ _ _ hP hS (lv_sub hl [0, 1, 2, 3] rfl) hf (fun  H locs ls hP hS hl hf => ?_)
  refine lv_iconst (v := -1) hx hb dX1_onSlideAt_37 (by decide) ?_
  exact rt_Pi hx hb hr hlocks (Option.some.inj hf) hS dX1_onSlideAt_38

def f_X1_nextOnSlide_L5 (bc : Int32) (bs : Nat → Int32) (bt : Nat → Int32) (p0 : Int32) (p1 : Int32) (k : Int32 → Option Int32) : Nat → Int32 → Int32 → Option Int32
  | 0, _, _ => none
  | n + 1, v_1, v_2 => sf_b (bc ≤ v_1) (k v_2) (sf_g (sf_in v_1 12 = true) (sf_b ((bs v_1.toNatClampNeg) = p0) (sf_g (sf_in v_1 12 = true) (sf_b ((bt v_1.toNatClampNeg) ≤ p1) (sf_n (v_1 + (1 : Int32)) (fun x_4 => f_X1_nextOnSlide_L5 bc bs bt p0 p1 k n x_4 v_2)) (sf_b (v_2 = (-1 : Int32)) (sf_n (v_1 + (1 : Int32)) (fun x_5 => f_X1_nextOnSlide_L5 bc bs bt p0 p1 k n x_5 v_1)) (sf_g (sf_in v_1 12 = true) (sf_g (sf_in v_2 12 = true) (sf_b ((bt v_2.toNatClampNeg) ≤ (bt v_1.toNatClampNeg)) (sf_n (v_1 + (1 : Int32)) (fun x_6 => f_X1_nextOnSlide_L5 bc bs bt p0 p1 k n x_6 v_2)) (sf_n (v_1 + (1 : Int32)) (fun x_7 => f_X1_nextOnSlide_L5 bc bs bt p0 p1 k n x_7 v_1)))))))) (sf_n (v_1 + (1 : Int32)) (fun x_3 => f_X1_nextOnSlide_L5 bc bs bt p0 p1 k n x_3 v_2))))
def f_X1_nextOnSlide (bc : Int32) (bs : Nat → Int32) (bt : Nat → Int32) (p0 : Int32) (p1 : Int32) : Option Int32 :=
  f_X1_nextOnSlide_L5 bc bs bt p0 p1 (fun y_8 => some y_8) 2000 (0 : Int32) (-1 : Int32)
theorem yd_X1_nextOnSlide : yX1_nextOnSlide.cls = RX1 ∧ yX1_nextOnSlide.cls ≠ "java/lang/invoke/MethodHandle" ∧ yX1_nextOnSlide.cls ≠ "java/lang/invoke/VarHandle" ∧ (parseMethodDescriptor yX1_nextOnSlide.desc).map (fun d => d.parameters.length) = some 2 := ⟨rfl, by decide, by decide, by decide +kernel⟩
set_option maxRecDepth 100000 in
set_option maxHeartbeats 4000000 in
theorem c_X1_nextOnSlide (l : Launch) (D : va_G) (dA : Nat → ClassId) (h0 h1 h2 h3 h4 : Nat) (bc : Int32) (bg : Nat → Int32) (bs : Nat → Int32) (bt : Nat → Int32) (be : Nat → Int32) (p0 : Int32) (p1 : Int32) (rr : Int32) (hf : f_X1_nextOnSlide bc bs bt p0 p1 = some rr) : Met l yX1_nextOnSlide (wo (.code yX1_nextOnSlide cX1_nextOnSlide 5 (some .int))) ({ frames := 0, cells := 0, slots := 0, locals := 0 } : Room) (preP D dA [.ref h0, .int p0, .int p1] [(h0, .inr (0, [.int bc, .ref h1, .ref h2, .ref h3, .ref h4])), (h1, .inl (dA 0, 12, .inl bg)), (h2, .inl (dA 0, 12, .inl bs)), (h3, .inl (dA 0, 12, .inl bt)), (h4, .inl (dA 0, 12, .inl be))]) (poPi rr) 0 0 noA := by
  refine of_P (own := RX1) (by decide) rfl (Nat.le_of_ble_eq_true rfl) ?_
  intro p e s m below meth c hx hb hr ha hown hml hlocks hP hK hS ls hl
  have hl : lv_has ls 5 [(0, .ref h0), (1, .int p0), (2, .int p1)] := hl
  rw [f_X1_nextOnSlide] at hf
  refine lv_iconst (v := -1) hx hb dX1_nextOnSlide_0 (by decide) ?_
  refine lv_istore_n (lv' := [(3, .int (-1 : Int32)), (0, .ref h0), (1, .int p0), (2, .int p1)]) hx hb dX1_nextOnSlide_1 rfl hl (by decide) rfl (fun ls hl => ?_)
  refine lv_iconst (v := 0) hx hb dX1_nextOnSlide_2 (by decide) ?_
  refine lv_istore (lv' := [(4, .int (0 : Int32)), (3, .int (-1 : Int32)), (0, .ref h0), (1, .int p0), (2, .int p1)]) hx hb dX1_nextOnSlide_3 hl (by decide) rfl (fun ls hl => ?_)
  have hL5 : ∀ (n : Nat) (k : Int32 → Option Int32) (v_1 : Int32) (v_2 : Int32) (H : Heap) (locs : List Loc) (ls : Array Slot), va_P D cls [(h0, .inr (0, [.int bc, .ref h1, .ref h2, .ref h3, .ref h4])), (h1, .inl (dA 0, 12, .inl bg)), (h2, .inl (dA 0, 12, .inl bs)), (h3, .inl (dA 0, 12, .inl bt)), (h4, .inl (dA 0, 12, .inl be))] H → va_S noA s.heap H locs → lv_has ls 5 [(4, .int v_1), (3, .int v_2), (0, .ref h0), (1, .int p0), (2, .int p1)] → f_X1_nextOnSlide_L5 bc bs bt p0 p1 k n v_1 v_2 = some rr → (∀ (y_8 : Int32) (H : Heap) (locs : List Loc) (ls : Array Slot), va_P D cls [(h0, .inr (0, [.int bc, .ref h1, .ref h2, .ref h3, .ref h4])), (h1, .inl (dA 0, 12, .inl bg)), (h2, .inl (dA 0, 12, .inl bs)), (h3, .inl (dA 0, 12, .inl bt)), (h4, .inl (dA 0, 12, .inl be))] H → va_S noA s.heap H locs → lv_has ls 5 [(3, .int y_8)] → k y_8 = some rr → W p l e ({ frames := 0, cells := 0, slots := 0, locals := 0 } : Room) s m ([.ref h0, .int p0, .int p1] : List Value).toArray below meth c H locs 0 0 (MQ below (poPi rr) ([.ref h0, .int p0, .int p1] : List Value).toArray s 0 0 noA) (F0 m 66 ls [])) → W p l e ({ frames := 0, cells := 0, slots := 0, locals := 0 } : Room) s m ([.ref h0, .int p0, .int p1] : List Value).toArray below meth c H locs 0 0 (MQ below (poPi rr) ([.ref h0, .int p0, .int p1] : List Value).toArray s 0 0 noA) (F0 m 5 ls []) := by
    intro n k
    induction n with
    | zero =>
      intro v_1 v_2 H locs ls hP hS hl hf hk
      rw [f_X1_nextOnSlide_L5] at hf
      cases hf
    | succ n ih =>
      intro v_1 v_2 H locs ls hP hS hl hf hk
      rw [f_X1_nextOnSlide_L5] at hf
      refine lv_iload hx hb dX1_nextOnSlide_5 (lv_at hl 0 rfl) ?_
      refine lv_aload_n hx hb dX1_nextOnSlide_7 rfl (lv_at hl 2 rfl) ?_
      refine gt_f (C := RX1) (T := TX1) (N := 5) hx hb ha in_X1 hown hK hP 0 rfl rfl 0 (by decide) m_140 rfl dX1_nextOnSlide_8 ?_
      refine lv_icmp_ge (tgt := 66) hx hb dX1_nextOnSlide_11 (by decide) (fun hc => ?_) (fun hc => ?_)
      · have hf := sf_bp hf hc
        exact hk _ _ _ _ hP hS (lv_sub hl [1] rfl) hf
      · have hf := sf_bn hf hc
        refine lv_aload_n hx hb dX1_nextOnSlide_14 rfl (lv_at hl 2 rfl) ?_
        refine gt_f (C := RX1) (T := TX1) (N := 5) hx hb ha in_X1 hown hK hP 0 rfl rfl 2 (by decide) m_147 rfl dX1_nextOnSlide_15 ?_
        refine lv_iload hx hb dX1_nextOnSlide_18 (lv_at hl 0 rfl) ?_
        obtain ⟨hi, hf⟩ := sf_ge hf
        refine ia_ld hx hb hK hP 2 rfl hi dX1_nextOnSlide_20 ?_
        refine lv_iload_n hx hb dX1_nextOnSlide_21 rfl (lv_at hl 3 rfl) ?_
        refine lv_icmp_ne (tgt := 60) hx hb dX1_nextOnSlide_22 (by decide) (fun hc => ?_) (fun hc => ?_)
        · have hf := sf_bn hf hc
          obtain ⟨x_3, ex_3, hf⟩ := sf_ne hf
          refine ii_nc (lv' := [(4, .int x_3), (3, .int v_2), (0, .ref h0), (1, .int p0), (2, .int p1)]) (k := 0) hx hb dX1_nextOnSlide_60 hl rfl ex_3 (by decide) (by decide) rfl (fun ls hl => ?_)
          refine lv_goto (tgt := 5) hx hb dX1_nextOnSlide_63 (by decide) ?_
          exact ih _ _ _ _ _ hP hS (lv_sub hl [0, 1, 2, 3, 4] rfl) hf hk
        · have hf := sf_bp hf hc
          refine lv_aload_n hx hb dX1_nextOnSlide_25 rfl (lv_at hl 2 rfl) ?_
          refine gt_f (C := RX1) (T := TX1) (N := 5) hx hb ha in_X1 hown hK hP 0 rfl rfl 3 (by decide) m_150 rfl dX1_nextOnSlide_26 ?_
          refine lv_iload hx hb dX1_nextOnSlide_29 (lv_at hl 0 rfl) ?_
          obtain ⟨hi, hf⟩ := sf_ge hf
          refine ia_ld hx hb hK hP 3 rfl hi dX1_nextOnSlide_31 ?_
          refine lv_iload_n hx hb dX1_nextOnSlide_32 rfl (lv_at hl 4 rfl) ?_
          refine lv_icmp_le (tgt := 60) hx hb dX1_nextOnSlide_33 (by decide) (fun hc => ?_) (fun hc => ?_)
          · have hf := sf_bp hf hc
            obtain ⟨x_4, ex_4, hf⟩ := sf_ne hf
            refine ii_nc (lv' := [(4, .int x_4), (3, .int v_2), (0, .ref h0), (1, .int p0), (2, .int p1)]) (k := 0) hx hb dX1_nextOnSlide_60 hl rfl ex_4 (by decide) (by decide) rfl (fun ls hl => ?_)
            refine lv_goto (tgt := 5) hx hb dX1_nextOnSlide_63 (by decide) ?_
            exact ih _ _ _ _ _ hP hS (lv_sub hl [0, 1, 2, 3, 4] rfl) hf hk
          · have hf := sf_bn hf hc
            refine lv_iload_n hx hb dX1_nextOnSlide_36 rfl (lv_at hl 1 rfl) ?_
            refine lv_iconst (v := -1) hx hb dX1_nextOnSlide_37 (by decide) ?_
            refine lv_icmp_eq (tgt := 57) hx hb dX1_nextOnSlide_38 (by decide) (fun hc => ?_) (fun hc => ?_)
            · have hf := sf_bp hf hc
              refine lv_iload hx hb dX1_nextOnSlide_57 (lv_at hl 0 rfl) ?_
              refine lv_istore_n (lv' := [(3, .int v_1), (4, .int v_1), (0, .ref h0), (1, .int p0), (2, .int p1)]) hx hb dX1_nextOnSlide_59 rfl hl (by decide) rfl (fun ls hl => ?_)
              obtain ⟨x_5, ex_5, hf⟩ := sf_ne hf
              refine ii_nc (lv' := [(4, .int x_5), (3, .int v_1), (0, .ref h0), (1, .int p0), (2, .int p1)]) (k := 1) hx hb dX1_nextOnSlide_60 hl rfl ex_5 (by decide) (by decide) rfl (fun ls hl => ?_)
              refine lv_goto (tgt := 5) hx hb dX1_nextOnSlide_63 (by decide) ?_
              exact ih _ _ _ _ _ hP hS (lv_sub hl [0, 1, 2, 3, 4] rfl) hf hk
            · have hf := sf_bn hf hc
              refine lv_aload_n hx hb dX1_nextOnSlide_41 rfl (lv_at hl 2 rfl) ?_
              refine gt_f (C := RX1) (T := TX1) (N := 5) hx hb ha in_X1 hown hK hP 0 rfl rfl 3 (by decide) m_150 rfl dX1_nextOnSlide_42 ?_
              refine lv_iload hx hb dX1_nextOnSlide_45 (lv_at hl 0 rfl) ?_
              obtain ⟨hi, hf⟩ := sf_ge hf
              refine ia_ld hx hb hK hP 3 rfl hi dX1_nextOnSlide_47 ?_
              refine lv_aload_n hx hb dX1_nextOnSlide_48 rfl (lv_at hl 2 rfl) ?_
              refine gt_f (C := RX1) (T := TX1) (N := 5) hx hb ha in_X1 hown hK hP 0 rfl rfl 3 (by decide) m_150 rfl dX1_nextOnSlide_49 ?_
              refine lv_iload_n hx hb dX1_nextOnSlide_52 rfl (lv_at hl 1 rfl) ?_
              obtain ⟨hi, hf⟩ := sf_ge hf
              refine ia_ld hx hb hK hP 3 rfl hi dX1_nextOnSlide_53 ?_
              refine lv_icmp_ge (tgt := 60) hx hb dX1_nextOnSlide_54 (by decide) (fun hc => ?_) (fun hc => ?_)
              · have hf := sf_bp hf hc
                obtain ⟨x_6, ex_6, hf⟩ := sf_ne hf
                refine ii_nc (lv' := [(4, .int x_6), (3, .int v_2), (0, .ref h0), (1, .int p0), (2, .int p1)]) (k := 0) hx hb dX1_nextOnSlide_60 hl rfl ex_6 (by decide) (by decide) rfl (fun ls hl => ?_)
                refine lv_goto (tgt := 5) hx hb dX1_nextOnSlide_63 (by decide) ?_
                exact ih _ _ _ _ _ hP hS (lv_sub hl [0, 1, 2, 3, 4] rfl) hf hk
              · have hf := sf_bn hf hc
                refine lv_iload hx hb dX1_nextOnSlide_57 (lv_at hl 0 rfl) ?_
                refine lv_istore_n (lv' := [(3, .int v_1), (4, .int v_1), (0, .ref h0), (1, .int p0), (2, .int p1)]) hx hb dX1_nextOnSlide_59 rfl hl (by decide) rfl (fun ls hl => ?_)
                obtain ⟨x_7, ex_7, hf⟩ := sf_ne hf
                refine ii_nc (lv' := [(4, .int x_7), (3, .int v_1), (0, .ref h0), (1, .int p0), (2, .int p1)]) (k := 1) hx hb dX1_nextOnSlide_60 hl rfl ex_7 (by decide) (by decide) rfl (fun ls hl => ?_)
                refine lv_goto (tgt := 5) hx hb dX1_nextOnSlide_63 (by decide) ?_
                exact ih _ _ _ _ _ hP hS (lv_sub hl [0, 1, 2, 3, 4] rfl) hf hk
  refine hL5 _ _ _ _ _ _ _ hP hS (lv_sub hl [0, 1, 2, 3, 4] rfl) hf (fun y_8 H locs ls hP hS hl hf => ?_)
  refine lv_iload_n hx hb dX1_nextOnSlide_66 rfl (lv_at hl 0 rfl) ?_
  exact rt_Pi hx hb hr hlocks (Option.some.inj hf) hS dX1_nextOnSlide_67

def f_X1_rankByStart_L4 (bc : Int32) (bs : Nat → Int32) (bt : Nat → Int32) (p0 : Int32) (k : Int32 → Option Int32) : Nat → Int32 → Int32 → Option Int32
  | 0, _, _ => none
  | n + 1, v_1, v_2 => sf_b (bc ≤ v_1) (k v_2) (sf_g (sf_in v_1 12 = true) (sf_g (sf_in p0 12 = true) (sf_b ((bt v_1.toNatClampNeg) < (bt p0.toNatClampNeg)) (sf_n (v_2 + (1 : Int32)) (fun x_3 => sf_n (v_1 + (1 : Int32)) (fun x_4 => f_X1_rankByStart_L4 bc bs bt p0 k n x_4 x_3))) (sf_g (sf_in v_1 12 = true) (sf_g (sf_in p0 12 = true) (sf_b ((bt v_1.toNatClampNeg) = (bt p0.toNatClampNeg)) (sf_g (sf_in v_1 12 = true) (sf_g (sf_in p0 12 = true) (sf_b ((bs p0.toNatClampNeg) ≤ (bs v_1.toNatClampNeg)) (sf_n (v_1 + (1 : Int32)) (fun x_6 => f_X1_rankByStart_L4 bc bs bt p0 k n x_6 v_2)) (sf_n (v_2 + (1 : Int32)) (fun x_7 => sf_n (v_1 + (1 : Int32)) (fun x_8 => f_X1_rankByStart_L4 bc bs bt p0 k n x_8 x_7)))))) (sf_n (v_1 + (1 : Int32)) (fun x_5 => f_X1_rankByStart_L4 bc bs bt p0 k n x_5 v_2))))))))
def f_X1_rankByStart (bc : Int32) (bs : Nat → Int32) (bt : Nat → Int32) (p0 : Int32) : Option Int32 :=
  f_X1_rankByStart_L4 bc bs bt p0 (fun y_9 => some y_9) 2000 (0 : Int32) (0 : Int32)
theorem yd_X1_rankByStart : yX1_rankByStart.cls = RX1 ∧ yX1_rankByStart.cls ≠ "java/lang/invoke/MethodHandle" ∧ yX1_rankByStart.cls ≠ "java/lang/invoke/VarHandle" ∧ (parseMethodDescriptor yX1_rankByStart.desc).map (fun d => d.parameters.length) = some 1 := ⟨rfl, by decide, by decide, by decide +kernel⟩
set_option maxRecDepth 100000 in
set_option maxHeartbeats 4000000 in
theorem c_X1_rankByStart (l : Launch) (D : va_G) (dA : Nat → ClassId) (h0 h1 h2 h3 h4 : Nat) (bc : Int32) (bg : Nat → Int32) (bs : Nat → Int32) (bt : Nat → Int32) (be : Nat → Int32) (p0 : Int32) (rr : Int32) (hf : f_X1_rankByStart bc bs bt p0 = some rr) : Met l yX1_rankByStart (wo (.code yX1_rankByStart cX1_rankByStart 4 (some .int))) ({ frames := 0, cells := 0, slots := 0, locals := 0 } : Room) (preP D dA [.ref h0, .int p0] [(h0, .inr (0, [.int bc, .ref h1, .ref h2, .ref h3, .ref h4])), (h1, .inl (dA 0, 12, .inl bg)), (h2, .inl (dA 0, 12, .inl bs)), (h3, .inl (dA 0, 12, .inl bt)), (h4, .inl (dA 0, 12, .inl be))]) (poPi rr) 0 0 noA := by
  refine of_P (own := RX1) (by decide) rfl (Nat.le_of_ble_eq_true rfl) ?_
  intro p e s m below meth c hx hb hr ha hown hml hlocks hP hK hS ls hl
  have hl : lv_has ls 4 [(0, .ref h0), (1, .int p0)] := hl
  rw [f_X1_rankByStart] at hf
  refine lv_iconst (v := 0) hx hb dX1_rankByStart_0 (by decide) ?_
  refine lv_istore_n (lv' := [(2, .int (0 : Int32)), (0, .ref h0), (1, .int p0)]) hx hb dX1_rankByStart_1 rfl hl (by decide) rfl (fun ls hl => ?_)
  refine lv_iconst (v := 0) hx hb dX1_rankByStart_2 (by decide) ?_
  refine lv_istore_n (lv' := [(3, .int (0 : Int32)), (2, .int (0 : Int32)), (0, .ref h0), (1, .int p0)]) hx hb dX1_rankByStart_3 rfl hl (by decide) rfl (fun ls hl => ?_)
  have hL4 : ∀ (n : Nat) (k : Int32 → Option Int32) (v_1 : Int32) (v_2 : Int32) (H : Heap) (locs : List Loc) (ls : Array Slot), va_P D cls [(h0, .inr (0, [.int bc, .ref h1, .ref h2, .ref h3, .ref h4])), (h1, .inl (dA 0, 12, .inl bg)), (h2, .inl (dA 0, 12, .inl bs)), (h3, .inl (dA 0, 12, .inl bt)), (h4, .inl (dA 0, 12, .inl be))] H → va_S noA s.heap H locs → lv_has ls 4 [(3, .int v_1), (2, .int v_2), (0, .ref h0), (1, .int p0)] → f_X1_rankByStart_L4 bc bs bt p0 k n v_1 v_2 = some rr → (∀ (y_9 : Int32) (H : Heap) (locs : List Loc) (ls : Array Slot), va_P D cls [(h0, .inr (0, [.int bc, .ref h1, .ref h2, .ref h3, .ref h4])), (h1, .inl (dA 0, 12, .inl bg)), (h2, .inl (dA 0, 12, .inl bs)), (h3, .inl (dA 0, 12, .inl bt)), (h4, .inl (dA 0, 12, .inl be))] H → va_S noA s.heap H locs → lv_has ls 4 [(2, .int y_9)] → k y_9 = some rr → W p l e ({ frames := 0, cells := 0, slots := 0, locals := 0 } : Room) s m ([.ref h0, .int p0] : List Value).toArray below meth c H locs 0 0 (MQ below (poPi rr) ([.ref h0, .int p0] : List Value).toArray s 0 0 noA) (F0 m 66 ls [])) → W p l e ({ frames := 0, cells := 0, slots := 0, locals := 0 } : Room) s m ([.ref h0, .int p0] : List Value).toArray below meth c H locs 0 0 (MQ below (poPi rr) ([.ref h0, .int p0] : List Value).toArray s 0 0 noA) (F0 m 4 ls []) := by
    intro n k
    induction n with
    | zero =>
      intro v_1 v_2 H locs ls hP hS hl hf hk
      rw [f_X1_rankByStart_L4] at hf
      cases hf
    | succ n ih =>
      intro v_1 v_2 H locs ls hP hS hl hf hk
      rw [f_X1_rankByStart_L4] at hf
      refine lv_iload_n hx hb dX1_rankByStart_4 rfl (lv_at hl 0 rfl) ?_
      refine lv_aload_n hx hb dX1_rankByStart_5 rfl (lv_at hl 2 rfl) ?_
      refine gt_f (C := RX1) (T := TX1) (N := 5) hx hb ha in_X1 hown hK hP 0 rfl rfl 0 (by decide) m_140 rfl dX1_rankByStart_6 ?_
      refine lv_icmp_ge (tgt := 66) hx hb dX1_rankByStart_9 (by decide) (fun hc => ?_) (fun hc => ?_)
      · have hf := sf_bp hf hc
        exact hk _ _ _ _ hP hS (lv_sub hl [1] rfl) hf
      · have hf := sf_bn hf hc
        refine lv_aload_n hx hb dX1_rankByStart_12 rfl (lv_at hl 2 rfl) ?_
        refine gt_f (C := RX1) (T := TX1) (N := 5) hx hb ha in_X1 hown hK hP 0 rfl rfl 3 (by decide) m_150 rfl dX1_rankByStart_13 ?_
        refine lv_iload_n hx hb dX1_rankByStart_16 rfl (lv_at hl 0 rfl) ?_
        obtain ⟨hi, hf⟩ := sf_ge hf
        refine ia_ld hx hb hK hP 3 rfl hi dX1_rankByStart_17 ?_
        refine lv_aload_n hx hb dX1_rankByStart_18 rfl (lv_at hl 2 rfl) ?_
        refine gt_f (C := RX1) (T := TX1) (N := 5) hx hb ha in_X1 hown hK hP 0 rfl rfl 3 (by decide) m_150 rfl dX1_rankByStart_19 ?_
        refine lv_iload_n hx hb dX1_rankByStart_22 rfl (lv_at hl 3 rfl) ?_
        obtain ⟨hi, hf⟩ := sf_ge hf
        refine ia_ld hx hb hK hP 3 rfl hi dX1_rankByStart_23 ?_
        refine lv_icmp_lt (tgt := 57) hx hb dX1_rankByStart_24 (by decide) (fun hc => ?_) (fun hc => ?_)
        · have hf := sf_bp hf hc
          obtain ⟨x_3, ex_3, hf⟩ := sf_ne hf
          refine ii_nc (lv' := [(2, .int x_3), (3, .int v_1), (0, .ref h0), (1, .int p0)]) (k := 1) hx hb dX1_rankByStart_57 hl rfl ex_3 (by decide) (by decide) rfl (fun ls hl => ?_)
          obtain ⟨x_4, ex_4, hf⟩ := sf_ne hf
          refine ii_nc (lv' := [(3, .int x_4), (2, .int x_3), (0, .ref h0), (1, .int p0)]) (k := 1) hx hb dX1_rankByStart_60 hl rfl ex_4 (by decide) (by decide) rfl (fun ls hl => ?_)
          refine lv_goto (tgt := 4) hx hb dX1_rankByStart_63 (by decide) ?_
          exact ih _ _ _ _ _ hP hS (lv_sub hl [0, 1, 2, 3] rfl) hf hk
        · have hf := sf_bn hf hc
          refine lv_aload_n hx hb dX1_rankByStart_27 rfl (lv_at hl 2 rfl) ?_
          refine gt_f (C := RX1) (T := TX1) (N := 5) hx hb ha in_X1 hown hK hP 0 rfl rfl 3 (by decide) m_150 rfl dX1_rankByStart_28 ?_
          refine lv_iload_n hx hb dX1_rankByStart_31 rfl (lv_at hl 0 rfl) ?_
          obtain ⟨hi, hf⟩ := sf_ge hf
          refine ia_ld hx hb hK hP 3 rfl hi dX1_rankByStart_32 ?_
          refine lv_aload_n hx hb dX1_rankByStart_33 rfl (lv_at hl 2 rfl) ?_
          refine gt_f (C := RX1) (T := TX1) (N := 5) hx hb ha in_X1 hown hK hP 0 rfl rfl 3 (by decide) m_150 rfl dX1_rankByStart_34 ?_
          refine lv_iload_n hx hb dX1_rankByStart_37 rfl (lv_at hl 3 rfl) ?_
          obtain ⟨hi, hf⟩ := sf_ge hf
          refine ia_ld hx hb hK hP 3 rfl hi dX1_rankByStart_38 ?_
          refine lv_icmp_ne (tgt := 60) hx hb dX1_rankByStart_39 (by decide) (fun hc => ?_) (fun hc => ?_)
          · have hf := sf_bn hf hc
            obtain ⟨x_5, ex_5, hf⟩ := sf_ne hf
            refine ii_nc (lv' := [(3, .int x_5), (2, .int v_2), (0, .ref h0), (1, .int p0)]) (k := 0) hx hb dX1_rankByStart_60 hl rfl ex_5 (by decide) (by decide) rfl (fun ls hl => ?_)
            refine lv_goto (tgt := 4) hx hb dX1_rankByStart_63 (by decide) ?_
            exact ih _ _ _ _ _ hP hS (lv_sub hl [0, 1, 2, 3] rfl) hf hk
          · have hf := sf_bp hf hc
            refine lv_aload_n hx hb dX1_rankByStart_42 rfl (lv_at hl 2 rfl) ?_
            refine gt_f (C := RX1) (T := TX1) (N := 5) hx hb ha in_X1 hown hK hP 0 rfl rfl 2 (by decide) m_147 rfl dX1_rankByStart_43 ?_
            refine lv_iload_n hx hb dX1_rankByStart_46 rfl (lv_at hl 0 rfl) ?_
            obtain ⟨hi, hf⟩ := sf_ge hf
            refine ia_ld hx hb hK hP 2 rfl hi dX1_rankByStart_47 ?_
            refine lv_aload_n hx hb dX1_rankByStart_48 rfl (lv_at hl 2 rfl) ?_
            refine gt_f (C := RX1) (T := TX1) (N := 5) hx hb ha in_X1 hown hK hP 0 rfl rfl 2 (by decide) m_147 rfl dX1_rankByStart_49 ?_
            refine lv_iload_n hx hb dX1_rankByStart_52 rfl (lv_at hl 3 rfl) ?_
            obtain ⟨hi, hf⟩ := sf_ge hf
            refine ia_ld hx hb hK hP 2 rfl hi dX1_rankByStart_53 ?_
            refine lv_icmp_ge (tgt := 60) hx hb dX1_rankByStart_54 (by decide) (fun hc => ?_) (fun hc => ?_)
            · have hf := sf_bp hf hc
              obtain ⟨x_6, ex_6, hf⟩ := sf_ne hf
              refine ii_nc (lv' := [(3, .int x_6), (2, .int v_2), (0, .ref h0), (1, .int p0)]) (k := 0) hx hb dX1_rankByStart_60 hl rfl ex_6 (by decide) (by decide) rfl (fun ls hl => ?_)
              refine lv_goto (tgt := 4) hx hb dX1_rankByStart_63 (by decide) ?_
              exact ih _ _ _ _ _ hP hS (lv_sub hl [0, 1, 2, 3] rfl) hf hk
            · have hf := sf_bn hf hc
              obtain ⟨x_7, ex_7, hf⟩ := sf_ne hf
              refine ii_nc (lv' := [(2, .int x_7), (3, .int v_1), (0, .ref h0), (1, .int p0)]) (k := 1) hx hb dX1_rankByStart_57 hl rfl ex_7 (by decide) (by decide) rfl (fun ls hl => ?_)
              obtain ⟨x_8, ex_8, hf⟩ := sf_ne hf
              refine ii_nc (lv' := [(3, .int x_8), (2, .int x_7), (0, .ref h0), (1, .int p0)]) (k := 1) hx hb dX1_rankByStart_60 hl rfl ex_8 (by decide) (by decide) rfl (fun ls hl => ?_)
              refine lv_goto (tgt := 4) hx hb dX1_rankByStart_63 (by decide) ?_
              exact ih _ _ _ _ _ hP hS (lv_sub hl [0, 1, 2, 3] rfl) hf hk
  refine hL4 _ _ _ _ _ _ _ hP hS (lv_sub hl [0, 1, 2, 3] rfl) hf (fun y_9 H locs ls hP hS hl hf => ?_)
  refine lv_iload_n hx hb dX1_rankByStart_66 rfl (lv_at hl 0 rfl) ?_
  exact rt_Pi hx hb hr hlocks (Option.some.inj hf) hS dX1_rankByStart_67

def f_X1_earliestEndFrom_L4 (bc : Int32) (bt : Nat → Int32) (be : Nat → Int32) (p0 : Int32) (k : Int32 → Option Int32) : Nat → Int32 → Int32 → Option Int32
  | 0, _, _ => none
  | n + 1, v_1, v_2 => sf_b (bc ≤ v_1) (k v_2) (sf_g (sf_in v_1 12 = true) (sf_b ((bt v_1.toNatClampNeg) < p0) (sf_n (v_1 + (1 : Int32)) (fun x_3 => f_X1_earliestEndFrom_L4 bc bt be p0 k n x_3 v_2)) (sf_b (v_2 = (-1 : Int32)) (sf_n (v_1 + (1 : Int32)) (fun x_4 => f_X1_earliestEndFrom_L4 bc bt be p0 k n x_4 v_1)) (sf_g (sf_in v_1 12 = true) (sf_g (sf_in v_2 12 = true) (sf_b ((be v_2.toNatClampNeg) ≤ (be v_1.toNatClampNeg)) (sf_n (v_1 + (1 : Int32)) (fun x_5 => f_X1_earliestEndFrom_L4 bc bt be p0 k n x_5 v_2)) (sf_n (v_1 + (1 : Int32)) (fun x_6 => f_X1_earliestEndFrom_L4 bc bt be p0 k n x_6 v_1))))))))
def f_X1_earliestEndFrom (bc : Int32) (bt : Nat → Int32) (be : Nat → Int32) (p0 : Int32) : Option Int32 :=
  f_X1_earliestEndFrom_L4 bc bt be p0 (fun y_7 => some y_7) 2000 (0 : Int32) (-1 : Int32)
theorem yd_X1_earliestEndFrom : yX1_earliestEndFrom.cls = RX1 ∧ yX1_earliestEndFrom.cls ≠ "java/lang/invoke/MethodHandle" ∧ yX1_earliestEndFrom.cls ≠ "java/lang/invoke/VarHandle" ∧ (parseMethodDescriptor yX1_earliestEndFrom.desc).map (fun d => d.parameters.length) = some 1 := ⟨rfl, by decide, by decide, by decide +kernel⟩
set_option maxRecDepth 100000 in
set_option maxHeartbeats 4000000 in
theorem c_X1_earliestEndFrom (l : Launch) (D : va_G) (dA : Nat → ClassId) (h0 h1 h2 h3 h4 : Nat) (bc : Int32) (bg : Nat → Int32) (bs : Nat → Int32) (bt : Nat → Int32) (be : Nat → Int32) (p0 : Int32) (rr : Int32) (hf : f_X1_earliestEndFrom bc bt be p0 = some rr) : Met l yX1_earliestEndFrom (wo (.code yX1_earliestEndFrom cX1_earliestEndFrom 4 (some .int))) ({ frames := 0, cells := 0, slots := 0, locals := 0 } : Room) (preP D dA [.ref h0, .int p0] [(h0, .inr (0, [.int bc, .ref h1, .ref h2, .ref h3, .ref h4])), (h1, .inl (dA 0, 12, .inl bg)), (h2, .inl (dA 0, 12, .inl bs)), (h3, .inl (dA 0, 12, .inl bt)), (h4, .inl (dA 0, 12, .inl be))]) (poPi rr) 0 0 noA := by
  refine of_P (own := RX1) (by decide) rfl (Nat.le_of_ble_eq_true rfl) ?_
  intro p e s m below meth c hx hb hr ha hown hml hlocks hP hK hS ls hl
  have hl : lv_has ls 4 [(0, .ref h0), (1, .int p0)] := hl
  rw [f_X1_earliestEndFrom] at hf
  refine lv_iconst (v := -1) hx hb dX1_earliestEndFrom_0 (by decide) ?_
  refine lv_istore_n (lv' := [(2, .int (-1 : Int32)), (0, .ref h0), (1, .int p0)]) hx hb dX1_earliestEndFrom_1 rfl hl (by decide) rfl (fun ls hl => ?_)
  refine lv_iconst (v := 0) hx hb dX1_earliestEndFrom_2 (by decide) ?_
  refine lv_istore_n (lv' := [(3, .int (0 : Int32)), (2, .int (-1 : Int32)), (0, .ref h0), (1, .int p0)]) hx hb dX1_earliestEndFrom_3 rfl hl (by decide) rfl (fun ls hl => ?_)
  have hL4 : ∀ (n : Nat) (k : Int32 → Option Int32) (v_1 : Int32) (v_2 : Int32) (H : Heap) (locs : List Loc) (ls : Array Slot), va_P D cls [(h0, .inr (0, [.int bc, .ref h1, .ref h2, .ref h3, .ref h4])), (h1, .inl (dA 0, 12, .inl bg)), (h2, .inl (dA 0, 12, .inl bs)), (h3, .inl (dA 0, 12, .inl bt)), (h4, .inl (dA 0, 12, .inl be))] H → va_S noA s.heap H locs → lv_has ls 4 [(3, .int v_1), (2, .int v_2), (0, .ref h0), (1, .int p0)] → f_X1_earliestEndFrom_L4 bc bt be p0 k n v_1 v_2 = some rr → (∀ (y_7 : Int32) (H : Heap) (locs : List Loc) (ls : Array Slot), va_P D cls [(h0, .inr (0, [.int bc, .ref h1, .ref h2, .ref h3, .ref h4])), (h1, .inl (dA 0, 12, .inl bg)), (h2, .inl (dA 0, 12, .inl bs)), (h3, .inl (dA 0, 12, .inl bt)), (h4, .inl (dA 0, 12, .inl be))] H → va_S noA s.heap H locs → lv_has ls 4 [(2, .int y_7)] → k y_7 = some rr → W p l e ({ frames := 0, cells := 0, slots := 0, locals := 0 } : Room) s m ([.ref h0, .int p0] : List Value).toArray below meth c H locs 0 0 (MQ below (poPi rr) ([.ref h0, .int p0] : List Value).toArray s 0 0 noA) (F0 m 50 ls [])) → W p l e ({ frames := 0, cells := 0, slots := 0, locals := 0 } : Room) s m ([.ref h0, .int p0] : List Value).toArray below meth c H locs 0 0 (MQ below (poPi rr) ([.ref h0, .int p0] : List Value).toArray s 0 0 noA) (F0 m 4 ls []) := by
    intro n k
    induction n with
    | zero =>
      intro v_1 v_2 H locs ls hP hS hl hf hk
      rw [f_X1_earliestEndFrom_L4] at hf
      cases hf
    | succ n ih =>
      intro v_1 v_2 H locs ls hP hS hl hf hk
      rw [f_X1_earliestEndFrom_L4] at hf
      refine lv_iload_n hx hb dX1_earliestEndFrom_4 rfl (lv_at hl 0 rfl) ?_
      refine lv_aload_n hx hb dX1_earliestEndFrom_5 rfl (lv_at hl 2 rfl) ?_
      refine gt_f (C := RX1) (T := TX1) (N := 5) hx hb ha in_X1 hown hK hP 0 rfl rfl 0 (by decide) m_140 rfl dX1_earliestEndFrom_6 ?_
      refine lv_icmp_ge (tgt := 50) hx hb dX1_earliestEndFrom_9 (by decide) (fun hc => ?_) (fun hc => ?_)
      · have hf := sf_bp hf hc
        exact hk _ _ _ _ hP hS (lv_sub hl [1] rfl) hf
      · have hf := sf_bn hf hc
        refine lv_aload_n hx hb dX1_earliestEndFrom_12 rfl (lv_at hl 2 rfl) ?_
        refine gt_f (C := RX1) (T := TX1) (N := 5) hx hb ha in_X1 hown hK hP 0 rfl rfl 3 (by decide) m_150 rfl dX1_earliestEndFrom_13 ?_
        refine lv_iload_n hx hb dX1_earliestEndFrom_16 rfl (lv_at hl 0 rfl) ?_
        obtain ⟨hi, hf⟩ := sf_ge hf
        refine ia_ld hx hb hK hP 3 rfl hi dX1_earliestEndFrom_17 ?_
        refine lv_iload_n hx hb dX1_earliestEndFrom_18 rfl (lv_at hl 3 rfl) ?_
        refine lv_icmp_lt (tgt := 44) hx hb dX1_earliestEndFrom_19 (by decide) (fun hc => ?_) (fun hc => ?_)
        · have hf := sf_bp hf hc
          obtain ⟨x_3, ex_3, hf⟩ := sf_ne hf
          refine ii_nc (lv' := [(3, .int x_3), (2, .int v_2), (0, .ref h0), (1, .int p0)]) (k := 0) hx hb dX1_earliestEndFrom_44 hl rfl ex_3 (by decide) (by decide) rfl (fun ls hl => ?_)
          refine lv_goto (tgt := 4) hx hb dX1_earliestEndFrom_47 (by decide) ?_
          exact ih _ _ _ _ _ hP hS (lv_sub hl [0, 1, 2, 3] rfl) hf hk
        · have hf := sf_bn hf hc
          refine lv_iload_n hx hb dX1_earliestEndFrom_22 rfl (lv_at hl 1 rfl) ?_
          refine lv_iconst (v := -1) hx hb dX1_earliestEndFrom_23 (by decide) ?_
          refine lv_icmp_eq (tgt := 42) hx hb dX1_earliestEndFrom_24 (by decide) (fun hc => ?_) (fun hc => ?_)
          · have hf := sf_bp hf hc
            refine lv_iload_n hx hb dX1_earliestEndFrom_42 rfl (lv_at hl 0 rfl) ?_
            refine lv_istore_n (lv' := [(2, .int v_1), (3, .int v_1), (0, .ref h0), (1, .int p0)]) hx hb dX1_earliestEndFrom_43 rfl hl (by decide) rfl (fun ls hl => ?_)
            obtain ⟨x_4, ex_4, hf⟩ := sf_ne hf
            refine ii_nc (lv' := [(3, .int x_4), (2, .int v_1), (0, .ref h0), (1, .int p0)]) (k := 1) hx hb dX1_earliestEndFrom_44 hl rfl ex_4 (by decide) (by decide) rfl (fun ls hl => ?_)
            refine lv_goto (tgt := 4) hx hb dX1_earliestEndFrom_47 (by decide) ?_
            exact ih _ _ _ _ _ hP hS (lv_sub hl [0, 1, 2, 3] rfl) hf hk
          · have hf := sf_bn hf hc
            refine lv_aload_n hx hb dX1_earliestEndFrom_27 rfl (lv_at hl 2 rfl) ?_
            refine gt_f (C := RX1) (T := TX1) (N := 5) hx hb ha in_X1 hown hK hP 0 rfl rfl 4 (by decide) m_154 rfl dX1_earliestEndFrom_28 ?_
            refine lv_iload_n hx hb dX1_earliestEndFrom_31 rfl (lv_at hl 0 rfl) ?_
            obtain ⟨hi, hf⟩ := sf_ge hf
            refine ia_ld hx hb hK hP 4 rfl hi dX1_earliestEndFrom_32 ?_
            refine lv_aload_n hx hb dX1_earliestEndFrom_33 rfl (lv_at hl 2 rfl) ?_
            refine gt_f (C := RX1) (T := TX1) (N := 5) hx hb ha in_X1 hown hK hP 0 rfl rfl 4 (by decide) m_154 rfl dX1_earliestEndFrom_34 ?_
            refine lv_iload_n hx hb dX1_earliestEndFrom_37 rfl (lv_at hl 1 rfl) ?_
            obtain ⟨hi, hf⟩ := sf_ge hf
            refine ia_ld hx hb hK hP 4 rfl hi dX1_earliestEndFrom_38 ?_
            refine lv_icmp_ge (tgt := 44) hx hb dX1_earliestEndFrom_39 (by decide) (fun hc => ?_) (fun hc => ?_)
            · have hf := sf_bp hf hc
              obtain ⟨x_5, ex_5, hf⟩ := sf_ne hf
              refine ii_nc (lv' := [(3, .int x_5), (2, .int v_2), (0, .ref h0), (1, .int p0)]) (k := 0) hx hb dX1_earliestEndFrom_44 hl rfl ex_5 (by decide) (by decide) rfl (fun ls hl => ?_)
              refine lv_goto (tgt := 4) hx hb dX1_earliestEndFrom_47 (by decide) ?_
              exact ih _ _ _ _ _ hP hS (lv_sub hl [0, 1, 2, 3] rfl) hf hk
            · have hf := sf_bn hf hc
              refine lv_iload_n hx hb dX1_earliestEndFrom_42 rfl (lv_at hl 0 rfl) ?_
              refine lv_istore_n (lv' := [(2, .int v_1), (3, .int v_1), (0, .ref h0), (1, .int p0)]) hx hb dX1_earliestEndFrom_43 rfl hl (by decide) rfl (fun ls hl => ?_)
              obtain ⟨x_6, ex_6, hf⟩ := sf_ne hf
              refine ii_nc (lv' := [(3, .int x_6), (2, .int v_1), (0, .ref h0), (1, .int p0)]) (k := 1) hx hb dX1_earliestEndFrom_44 hl rfl ex_6 (by decide) (by decide) rfl (fun ls hl => ?_)
              refine lv_goto (tgt := 4) hx hb dX1_earliestEndFrom_47 (by decide) ?_
              exact ih _ _ _ _ _ hP hS (lv_sub hl [0, 1, 2, 3] rfl) hf hk
  refine hL4 _ _ _ _ _ _ _ hP hS (lv_sub hl [0, 1, 2, 3] rfl) hf (fun y_7 H locs ls hP hS hl hf => ?_)
  refine lv_iload_n hx hb dX1_earliestEndFrom_50 rfl (lv_at hl 0 rfl) ?_
  exact rt_Pi hx hb hr hlocks (Option.some.inj hf) hS dX1_earliestEndFrom_51

def f_X1_watchedByEarliestEnd_L6 (bc : Int32) (bt : Nat → Int32) (be : Nat → Int32) (k : Int32 → Option Int32) : Nat → Int32 → Int32 → Int32 → Option Int32
  | 0, _, _, _ => none
  | n + 1, v_1, v_2, v_3 => sf_b (bc ≤ v_1) (k v_3) (sf_c1 (f_X1_earliestEndFrom bc bt be v_2) (fun r_4 => sf_b (r_4 = (-1 : Int32)) (some v_3) (sf_n (v_3 + (1 : Int32)) (fun x_5 => sf_g (sf_in r_4 12 = true) (sf_n ((be r_4.toNatClampNeg)) (fun x_6 => sf_n (v_1 + (1 : Int32)) (fun x_7 => f_X1_watchedByEarliestEnd_L6 bc bt be k n x_7 x_6 x_5)))))))
def f_X1_watchedByEarliestEnd (bc : Int32) (bt : Nat → Int32) (be : Nat → Int32) : Option Int32 :=
  f_X1_watchedByEarliestEnd_L6 bc bt be (fun y_8 => some y_8) 2000 (0 : Int32) (0 : Int32) (0 : Int32)
theorem yd_X1_watchedByEarliestEnd : yX1_watchedByEarliestEnd.cls = RX1 ∧ yX1_watchedByEarliestEnd.cls ≠ "java/lang/invoke/MethodHandle" ∧ yX1_watchedByEarliestEnd.cls ≠ "java/lang/invoke/VarHandle" ∧ (parseMethodDescriptor yX1_watchedByEarliestEnd.desc).map (fun d => d.parameters.length) = some 0 := ⟨rfl, by decide, by decide, by decide +kernel⟩
set_option maxRecDepth 100000 in
set_option maxHeartbeats 4000000 in
theorem c_X1_watchedByEarliestEnd (l : Launch) (D : va_G) (dA : Nat → ClassId) (h0 h1 h2 h3 h4 : Nat) (bc : Int32) (bg : Nat → Int32) (bs : Nat → Int32) (bt : Nat → Int32) (be : Nat → Int32) (rr : Int32) (hf : f_X1_watchedByEarliestEnd bc bt be = some rr) : Met l yX1_watchedByEarliestEnd (wo (.code yX1_watchedByEarliestEnd cX1_watchedByEarliestEnd 5 (some .int))) ({ frames := 1, cells := 0, slots := 0, locals := 23 } : Room) (preP D dA [.ref h0] [(h0, .inr (0, [.int bc, .ref h1, .ref h2, .ref h3, .ref h4])), (h1, .inl (dA 0, 12, .inl bg)), (h2, .inl (dA 0, 12, .inl bs)), (h3, .inl (dA 0, 12, .inl bt)), (h4, .inl (dA 0, 12, .inl be))]) (poPi rr) 0 0 noA := by
  refine of_P (own := RX1) (by decide) rfl (Nat.le_of_ble_eq_true rfl) ?_
  intro p e s m below meth c hx hb hr ha hown hml hlocks hP hK hS ls hl
  have hl : lv_has ls 5 [(0, .ref h0)] := hl
  rw [f_X1_watchedByEarliestEnd] at hf
  refine lv_iconst (v := 0) hx hb dX1_watchedByEarliestEnd_0 (by decide) ?_
  refine lv_istore_n (lv' := [(1, .int (0 : Int32)), (0, .ref h0)]) hx hb dX1_watchedByEarliestEnd_1 rfl hl (by decide) rfl (fun ls hl => ?_)
  refine lv_iconst (v := 0) hx hb dX1_watchedByEarliestEnd_2 (by decide) ?_
  refine lv_istore_n (lv' := [(2, .int (0 : Int32)), (1, .int (0 : Int32)), (0, .ref h0)]) hx hb dX1_watchedByEarliestEnd_3 rfl hl (by decide) rfl (fun ls hl => ?_)
  refine lv_iconst (v := 0) hx hb dX1_watchedByEarliestEnd_4 (by decide) ?_
  refine lv_istore_n (lv' := [(3, .int (0 : Int32)), (2, .int (0 : Int32)), (1, .int (0 : Int32)), (0, .ref h0)]) hx hb dX1_watchedByEarliestEnd_5 rfl hl (by decide) rfl (fun ls hl => ?_)
  have hL6 : ∀ (n : Nat) (k : Int32 → Option Int32) (v_1 : Int32) (v_2 : Int32) (v_3 : Int32) (H : Heap) (locs : List Loc) (ls : Array Slot), va_P D cls [(h0, .inr (0, [.int bc, .ref h1, .ref h2, .ref h3, .ref h4])), (h1, .inl (dA 0, 12, .inl bg)), (h2, .inl (dA 0, 12, .inl bs)), (h3, .inl (dA 0, 12, .inl bt)), (h4, .inl (dA 0, 12, .inl be))] H → va_S noA s.heap H locs → lv_has ls 5 [(3, .int v_1), (2, .int v_2), (1, .int v_3), (0, .ref h0)] → f_X1_watchedByEarliestEnd_L6 bc bt be k n v_1 v_2 v_3 = some rr → (∀ (y_8 : Int32) (H : Heap) (locs : List Loc) (ls : Array Slot), va_P D cls [(h0, .inr (0, [.int bc, .ref h1, .ref h2, .ref h3, .ref h4])), (h1, .inl (dA 0, 12, .inl bg)), (h2, .inl (dA 0, 12, .inl bs)), (h3, .inl (dA 0, 12, .inl bt)), (h4, .inl (dA 0, 12, .inl be))] H → va_S noA s.heap H locs → lv_has ls 5 [(1, .int y_8)] → k y_8 = some rr → W p l e ({ frames := 1, cells := 0, slots := 0, locals := 23 } : Room) s m ([.ref h0] : List Value).toArray below meth c H locs 0 0 (MQ below (poPi rr) ([.ref h0] : List Value).toArray s 0 0 noA) (F0 m 46 ls [])) → W p l e ({ frames := 1, cells := 0, slots := 0, locals := 23 } : Room) s m ([.ref h0] : List Value).toArray below meth c H locs 0 0 (MQ below (poPi rr) ([.ref h0] : List Value).toArray s 0 0 noA) (F0 m 6 ls []) := by
    intro n k
    induction n with
    | zero =>
      intro v_1 v_2 v_3 H locs ls hP hS hl hf hk
      rw [f_X1_watchedByEarliestEnd_L6] at hf
      cases hf
    | succ n ih =>
      intro v_1 v_2 v_3 H locs ls hP hS hl hf hk
      rw [f_X1_watchedByEarliestEnd_L6] at hf
      refine lv_iload_n hx hb dX1_watchedByEarliestEnd_6 rfl (lv_at hl 0 rfl) ?_
      refine lv_aload_n hx hb dX1_watchedByEarliestEnd_7 rfl (lv_at hl 3 rfl) ?_
      refine gt_f (C := RX1) (T := TX1) (N := 5) hx hb ha in_X1 hown hK hP 0 rfl rfl 0 (by decide) m_140 rfl dX1_watchedByEarliestEnd_8 ?_
      refine lv_icmp_ge (tgt := 46) hx hb dX1_watchedByEarliestEnd_11 (by decide) (fun hc => ?_) (fun hc => ?_)
      · have hf := sf_bp hf hc
        exact hk _ _ _ _ hP hS (lv_sub hl [2] rfl) hf
      · have hf := sf_bn hf hc
        refine lv_aload_n hx hb dX1_watchedByEarliestEnd_14 rfl (lv_at hl 3 rfl) ?_
        refine lv_iload_n hx hb dX1_watchedByEarliestEnd_15 rfl (lv_at hl 1 rfl) ?_
        obtain ⟨r_4, hc4, hf⟩ := sf_c1e hf
        refine k_Pi (run_PV (As := [.int v_2]) (rest := []) ⟨hx, hb, hml, hown, ha⟩ (c_X1_earliestEndFrom l D dA h0 h1 h2 h3 h4  bc bg bs bt be v_2 _ hc4) (gi_V m_843 m_845 m_15 m_35 m_846) yd_X1_earliestEndFrom ⟨Nat.le_of_ble_eq_true rfl, Nat.le_of_ble_eq_true rfl⟩ ⟨rfl, rfl⟩ hK hP [0, 1, 2, 3, 4] rfl 0 0 rfl rfl rfl rfl hl.1 rfl (Nat.le_of_ble_eq_true rfl) dX1_watchedByEarliestEnd_16 ⟨Nat.le_of_ble_eq_true rfl, Nat.le_of_ble_eq_true rfl⟩) hP hS (fun H locs hP hS => ?_)
        refine lv_istore (lv' := [(4, .int r_4), (3, .int v_1), (2, .int v_2), (1, .int v_3), (0, .ref h0)]) hx hb dX1_watchedByEarliestEnd_19 hl (by decide) rfl (fun ls hl => ?_)
        refine lv_iload hx hb dX1_watchedByEarliestEnd_21 (lv_at hl 0 rfl) ?_
        refine lv_iconst (v := -1) hx hb dX1_watchedByEarliestEnd_23 (by decide) ?_
        refine lv_icmp_ne (tgt := 29) hx hb dX1_watchedByEarliestEnd_24 (by decide) (fun hc => ?_) (fun hc => ?_)
        · have hf := sf_bn hf hc
          obtain ⟨x_5, ex_5, hf⟩ := sf_ne hf
          refine ii_nc (lv' := [(1, .int x_5), (4, .int r_4), (3, .int v_1), (2, .int v_2), (0, .ref h0)]) (k := 3) hx hb dX1_watchedByEarliestEnd_29 hl rfl ex_5 (by decide) (by decide) rfl (fun ls hl => ?_)
          refine lv_aload_n hx hb dX1_watchedByEarliestEnd_32 rfl (lv_at hl 4 rfl) ?_
          refine gt_f (C := RX1) (T := TX1) (N := 5) hx hb ha in_X1 hown hK hP 0 rfl rfl 4 (by decide) m_154 rfl dX1_watchedByEarliestEnd_33 ?_
          refine lv_iload hx hb dX1_watchedByEarliestEnd_36 (lv_at hl 1 rfl) ?_
          obtain ⟨hi, hf⟩ := sf_ge hf
          refine ia_ld hx hb hK hP 4 rfl hi dX1_watchedByEarliestEnd_38 ?_
          obtain ⟨x_6, ex_6, hf⟩ := sf_ne hf
          refine tp_i ex_6 ?_
          refine lv_istore_n (lv' := [(2, .int x_6), (1, .int x_5), (4, .int r_4), (3, .int v_1), (0, .ref h0)]) hx hb dX1_watchedByEarliestEnd_39 rfl hl (by decide) rfl (fun ls hl => ?_)
          obtain ⟨x_7, ex_7, hf⟩ := sf_ne hf
          refine ii_nc (lv' := [(3, .int x_7), (2, .int x_6), (1, .int x_5), (4, .int r_4), (0, .ref h0)]) (k := 3) hx hb dX1_watchedByEarliestEnd_40 hl rfl ex_7 (by decide) (by decide) rfl (fun ls hl => ?_)
          refine lv_goto (tgt := 6) hx hb dX1_watchedByEarliestEnd_43 (by decide) ?_
          exact ih _ _ _ _ _ _ hP hS (lv_sub hl [0, 1, 2, 4] rfl) hf hk
        · have hf := sf_bp hf hc
          refine lv_iload_n hx hb dX1_watchedByEarliestEnd_27 rfl (lv_at hl 3 rfl) ?_
          exact rt_Pi hx hb hr hlocks (Option.some.inj hf) hS dX1_watchedByEarliestEnd_28
  refine hL6 _ _ _ _ _ _ _ _ hP hS (lv_sub hl [0, 1, 2, 3] rfl) hf (fun y_8 H locs ls hP hS hl hf => ?_)
  refine lv_iload_n hx hb dX1_watchedByEarliestEnd_46 rfl (lv_at hl 0 rfl) ?_
  exact rt_Pi hx hb hr hlocks (Option.some.inj hf) hS dX1_watchedByEarliestEnd_47

def f_X1_atOnceByStarts_L17 (bc : Int32) (bt : Nat → Int32) (be : Nat → Int32) (v_1 : Int32) (k : Int32 → Option Int32) : Nat → Int32 → Int32 → Option Int32
  | 0, _, _ => none
  | n + 1, v_3, v_4 => sf_b (bc ≤ v_3) (k v_4) (sf_g (sf_in v_1 12 = true) (sf_c1 (f_X1_takesPlaceAt bt be v_3 (bt v_1.toNatClampNeg)) (fun r_5 => sf_b (r_5 = (0 : Int32)) (sf_n (v_3 + (1 : Int32)) (fun x_6 => f_X1_atOnceByStarts_L17 bc bt be v_1 k n x_6 v_4)) (sf_n (v_4 + (1 : Int32)) (fun x_7 => sf_n (v_3 + (1 : Int32)) (fun x_8 => f_X1_atOnceByStarts_L17 bc bt be v_1 k n x_8 x_7))))))
def f_X1_atOnceByStarts_L4 (bc : Int32) (bt : Nat → Int32) (be : Nat → Int32) (k : Int32 → Option Int32) : Nat → Int32 → Int32 → Option Int32
  | 0, _, _ => none
  | n + 1, v_1, v_2 => sf_b (bc ≤ v_1) (k v_2) (f_X1_atOnceByStarts_L17 bc bt be v_1 (fun y_9 => sf_n ((if v_2 < y_9 then y_9 else v_2)) (fun x_10 => sf_n (v_1 + (1 : Int32)) (fun x_11 => f_X1_atOnceByStarts_L4 bc bt be k n x_11 x_10))) 2000 (0 : Int32) (0 : Int32))
def f_X1_atOnceByStarts (bc : Int32) (bt : Nat → Int32) (be : Nat → Int32) : Option Int32 :=
  f_X1_atOnceByStarts_L4 bc bt be (fun y_12 => some y_12) 2000 (0 : Int32) (0 : Int32)
theorem yd_X1_atOnceByStarts : yX1_atOnceByStarts.cls = RX1 ∧ yX1_atOnceByStarts.cls ≠ "java/lang/invoke/MethodHandle" ∧ yX1_atOnceByStarts.cls ≠ "java/lang/invoke/VarHandle" ∧ (parseMethodDescriptor yX1_atOnceByStarts.desc).map (fun d => d.parameters.length) = some 0 := ⟨rfl, by decide, by decide, by decide +kernel⟩
set_option maxRecDepth 100000 in
set_option maxHeartbeats 4000000 in
theorem c_X1_atOnceByStarts (l : Launch) (D : va_G) (dA : Nat → ClassId) (h0 h1 h2 h3 h4 : Nat) (bc : Int32) (bg : Nat → Int32) (bs : Nat → Int32) (bt : Nat → Int32) (be : Nat → Int32) (rr : Int32) (hf : f_X1_atOnceByStarts bc bt be = some rr) : Met l yX1_atOnceByStarts (wo (.code yX1_atOnceByStarts cX1_atOnceByStarts 5 (some .int))) ({ frames := 1, cells := 0, slots := 0, locals := 80 } : Room) (preP D dA [.ref h0] [(h0, .inr (0, [.int bc, .ref h1, .ref h2, .ref h3, .ref h4])), (h1, .inl (dA 0, 12, .inl bg)), (h2, .inl (dA 0, 12, .inl bs)), (h3, .inl (dA 0, 12, .inl bt)), (h4, .inl (dA 0, 12, .inl be))]) (poPi rr) 0 0 noA := by
  refine of_P (own := RX1) (by decide) rfl (Nat.le_of_ble_eq_true rfl) ?_
  intro p e s m below meth c hx hb hr ha hown hml hlocks hP hK hS ls hl
  have hl : lv_has ls 5 [(0, .ref h0)] := hl
  rw [f_X1_atOnceByStarts] at hf
  refine lv_iconst (v := 0) hx hb dX1_atOnceByStarts_0 (by decide) ?_
  refine lv_istore_n (lv' := [(1, .int (0 : Int32)), (0, .ref h0)]) hx hb dX1_atOnceByStarts_1 rfl hl (by decide) rfl (fun ls hl => ?_)
  refine lv_iconst (v := 0) hx hb dX1_atOnceByStarts_2 (by decide) ?_
  refine lv_istore_n (lv' := [(2, .int (0 : Int32)), (1, .int (0 : Int32)), (0, .ref h0)]) hx hb dX1_atOnceByStarts_3 rfl hl (by decide) rfl (fun ls hl => ?_)
  have hL4 : ∀ (n : Nat) (k : Int32 → Option Int32) (v_1 : Int32) (v_2 : Int32) (H : Heap) (locs : List Loc) (ls : Array Slot), va_P D cls [(h0, .inr (0, [.int bc, .ref h1, .ref h2, .ref h3, .ref h4])), (h1, .inl (dA 0, 12, .inl bg)), (h2, .inl (dA 0, 12, .inl bs)), (h3, .inl (dA 0, 12, .inl bt)), (h4, .inl (dA 0, 12, .inl be))] H → va_S noA s.heap H locs → lv_has ls 5 [(2, .int v_1), (1, .int v_2), (0, .ref h0)] → f_X1_atOnceByStarts_L4 bc bt be k n v_1 v_2 = some rr → (∀ (y_12 : Int32) (H : Heap) (locs : List Loc) (ls : Array Slot), va_P D cls [(h0, .inr (0, [.int bc, .ref h1, .ref h2, .ref h3, .ref h4])), (h1, .inl (dA 0, 12, .inl bg)), (h2, .inl (dA 0, 12, .inl bs)), (h3, .inl (dA 0, 12, .inl bt)), (h4, .inl (dA 0, 12, .inl be))] H → va_S noA s.heap H locs → lv_has ls 5 [(1, .int y_12)] → k y_12 = some rr → W p l e ({ frames := 1, cells := 0, slots := 0, locals := 80 } : Room) s m ([.ref h0] : List Value).toArray below meth c H locs 0 0 (MQ below (poPi rr) ([.ref h0] : List Value).toArray s 0 0 noA) (F0 m 62 ls [])) → W p l e ({ frames := 1, cells := 0, slots := 0, locals := 80 } : Room) s m ([.ref h0] : List Value).toArray below meth c H locs 0 0 (MQ below (poPi rr) ([.ref h0] : List Value).toArray s 0 0 noA) (F0 m 4 ls []) := by
    intro n k
    induction n with
    | zero =>
      intro v_1 v_2 H locs ls hP hS hl hf hk
      rw [f_X1_atOnceByStarts_L4] at hf
      cases hf
    | succ n ih =>
      intro v_1 v_2 H locs ls hP hS hl hf hk
      rw [f_X1_atOnceByStarts_L4] at hf
      refine lv_iload_n hx hb dX1_atOnceByStarts_4 rfl (lv_at hl 0 rfl) ?_
      refine lv_aload_n hx hb dX1_atOnceByStarts_5 rfl (lv_at hl 2 rfl) ?_
      refine gt_f (C := RX1) (T := TX1) (N := 5) hx hb ha in_X1 hown hK hP 0 rfl rfl 0 (by decide) m_140 rfl dX1_atOnceByStarts_6 ?_
      refine lv_icmp_ge (tgt := 62) hx hb dX1_atOnceByStarts_9 (by decide) (fun hc => ?_) (fun hc => ?_)
      · have hf := sf_bp hf hc
        exact hk _ _ _ _ hP hS (lv_sub hl [1] rfl) hf
      · have hf := sf_bn hf hc
        refine lv_iconst (v := 0) hx hb dX1_atOnceByStarts_12 (by decide) ?_
        refine lv_istore_n (lv' := [(3, .int (0 : Int32)), (2, .int v_1), (1, .int v_2), (0, .ref h0)]) hx hb dX1_atOnceByStarts_13 rfl hl (by decide) rfl (fun ls hl => ?_)
        refine lv_iconst (v := 0) hx hb dX1_atOnceByStarts_14 (by decide) ?_
        refine lv_istore (lv' := [(4, .int (0 : Int32)), (3, .int (0 : Int32)), (2, .int v_1), (1, .int v_2), (0, .ref h0)]) hx hb dX1_atOnceByStarts_15 hl (by decide) rfl (fun ls hl => ?_)
        have hL17 : ∀ (n : Nat) (k : Int32 → Option Int32) (v_3 : Int32) (v_4 : Int32) (H : Heap) (locs : List Loc) (ls : Array Slot), va_P D cls [(h0, .inr (0, [.int bc, .ref h1, .ref h2, .ref h3, .ref h4])), (h1, .inl (dA 0, 12, .inl bg)), (h2, .inl (dA 0, 12, .inl bs)), (h3, .inl (dA 0, 12, .inl bt)), (h4, .inl (dA 0, 12, .inl be))] H → va_S noA s.heap H locs → lv_has ls 5 [(4, .int v_3), (3, .int v_4), (2, .int v_1), (1, .int v_2), (0, .ref h0)] → f_X1_atOnceByStarts_L17 bc bt be v_1 k n v_3 v_4 = some rr → (∀ (y_9 : Int32) (H : Heap) (locs : List Loc) (ls : Array Slot), va_P D cls [(h0, .inr (0, [.int bc, .ref h1, .ref h2, .ref h3, .ref h4])), (h1, .inl (dA 0, 12, .inl bg)), (h2, .inl (dA 0, 12, .inl bs)), (h3, .inl (dA 0, 12, .inl bt)), (h4, .inl (dA 0, 12, .inl be))] H → va_S noA s.heap H locs → lv_has ls 5 [(3, .int y_9), (2, .int v_1), (1, .int v_2), (0, .ref h0)] → k y_9 = some rr → W p l e ({ frames := 1, cells := 0, slots := 0, locals := 80 } : Room) s m ([.ref h0] : List Value).toArray below meth c H locs 0 0 (MQ below (poPi rr) ([.ref h0] : List Value).toArray s 0 0 noA) (F0 m 50 ls [])) → W p l e ({ frames := 1, cells := 0, slots := 0, locals := 80 } : Room) s m ([.ref h0] : List Value).toArray below meth c H locs 0 0 (MQ below (poPi rr) ([.ref h0] : List Value).toArray s 0 0 noA) (F0 m 17 ls []) := by
          intro n k
          induction n with
          | zero =>
            intro v_3 v_4 H locs ls hP hS hl hf hk
            rw [f_X1_atOnceByStarts_L17] at hf
            cases hf
          | succ n ih =>
            intro v_3 v_4 H locs ls hP hS hl hf hk
            rw [f_X1_atOnceByStarts_L17] at hf
            refine lv_iload hx hb dX1_atOnceByStarts_17 (lv_at hl 0 rfl) ?_
            refine lv_aload_n hx hb dX1_atOnceByStarts_19 rfl (lv_at hl 4 rfl) ?_
            refine gt_f (C := RX1) (T := TX1) (N := 5) hx hb ha in_X1 hown hK hP 0 rfl rfl 0 (by decide) m_140 rfl dX1_atOnceByStarts_20 ?_
            refine lv_icmp_ge (tgt := 50) hx hb dX1_atOnceByStarts_23 (by decide) (fun hc => ?_) (fun hc => ?_)
            · have hf := sf_bp hf hc
              exact hk _ _ _ _ hP hS (lv_sub hl [1, 2, 3, 4] rfl) hf
            · have hf := sf_bn hf hc
              refine lv_aload_n hx hb dX1_atOnceByStarts_26 rfl (lv_at hl 4 rfl) ?_
              refine lv_iload hx hb dX1_atOnceByStarts_27 (lv_at hl 0 rfl) ?_
              refine lv_aload_n hx hb dX1_atOnceByStarts_29 rfl (lv_at hl 4 rfl) ?_
              refine gt_f (C := RX1) (T := TX1) (N := 5) hx hb ha in_X1 hown hK hP 0 rfl rfl 3 (by decide) m_150 rfl dX1_atOnceByStarts_30 ?_
              refine lv_iload_n hx hb dX1_atOnceByStarts_33 rfl (lv_at hl 2 rfl) ?_
              obtain ⟨hi, hf⟩ := sf_ge hf
              refine ia_ld hx hb hK hP 3 rfl hi dX1_atOnceByStarts_34 ?_
              obtain ⟨r_5, hc5, hf⟩ := sf_c1e hf
              refine k_Pi (run_PV (As := [.int v_3, .int (bt v_1.toNatClampNeg)]) (rest := []) ⟨hx, hb, hml, hown, ha⟩ (c_X1_takesPlaceAt l D dA h0 h1 h2 h3 h4  bc bg bs bt be v_3 (bt v_1.toNatClampNeg) _ hc5) (gi_V m_709 m_711 m_7 m_35 m_712) yd_X1_takesPlaceAt ⟨Nat.le_of_ble_eq_true rfl, Nat.le_of_ble_eq_true rfl⟩ ⟨rfl, rfl⟩ hK hP [0, 1, 2, 3, 4] rfl 0 0 rfl rfl rfl rfl hl.1 rfl (Nat.le_of_ble_eq_true rfl) dX1_atOnceByStarts_35 ⟨Nat.le_of_ble_eq_true rfl, Nat.le_of_ble_eq_true rfl⟩) hP hS (fun H locs hP hS => ?_)
              refine lv_if_eq (tgt := 44) hx hb dX1_atOnceByStarts_38 (by decide) (fun hc => ?_) (fun hc => ?_)
              · have hf := sf_bp hf hc
                obtain ⟨x_6, ex_6, hf⟩ := sf_ne hf
                refine ii_nc (lv' := [(4, .int x_6), (3, .int v_4), (2, .int v_1), (1, .int v_2), (0, .ref h0)]) (k := 0) hx hb dX1_atOnceByStarts_44 hl rfl ex_6 (by decide) (by decide) rfl (fun ls hl => ?_)
                refine lv_goto (tgt := 17) hx hb dX1_atOnceByStarts_47 (by decide) ?_
                exact ih _ _ _ _ _ hP hS (lv_sub hl [0, 1, 2, 3, 4] rfl) hf hk
              · have hf := sf_bn hf hc
                obtain ⟨x_7, ex_7, hf⟩ := sf_ne hf
                refine ii_nc (lv' := [(3, .int x_7), (4, .int v_3), (2, .int v_1), (1, .int v_2), (0, .ref h0)]) (k := 1) hx hb dX1_atOnceByStarts_41 hl rfl ex_7 (by decide) (by decide) rfl (fun ls hl => ?_)
                obtain ⟨x_8, ex_8, hf⟩ := sf_ne hf
                refine ii_nc (lv' := [(4, .int x_8), (3, .int x_7), (2, .int v_1), (1, .int v_2), (0, .ref h0)]) (k := 1) hx hb dX1_atOnceByStarts_44 hl rfl ex_8 (by decide) (by decide) rfl (fun ls hl => ?_)
                refine lv_goto (tgt := 17) hx hb dX1_atOnceByStarts_47 (by decide) ?_
                exact ih _ _ _ _ _ hP hS (lv_sub hl [0, 1, 2, 3, 4] rfl) hf hk
        refine hL17 _ _ _ _ _ _ _ hP hS (lv_sub hl [0, 1, 2, 3, 4] rfl) hf (fun y_9 H locs ls hP hS hl hf => ?_)
        refine lv_iload_n hx hb dX1_atOnceByStarts_50 rfl (lv_at hl 2 rfl) ?_
        refine lv_iload_n hx hb dX1_atOnceByStarts_51 rfl (lv_at hl 0 rfl) ?_
        refine mx_i hx hb ha hown hml hl.1 m_816 m_786 m_54 m_787 ⟨Nat.le_of_ble_eq_true rfl, Nat.le_of_ble_eq_true rfl⟩ ⟨Nat.le_of_ble_eq_true rfl, Nat.le_of_ble_eq_true rfl⟩ dX1_atOnceByStarts_52 ?_
        obtain ⟨x_10, ex_10, hf⟩ := sf_ne hf
        refine tp_i ex_10 ?_
        refine lv_istore_n (lv' := [(1, .int x_10), (3, .int y_9), (2, .int v_1), (0, .ref h0)]) hx hb dX1_atOnceByStarts_55 rfl hl (by decide) rfl (fun ls hl => ?_)
        obtain ⟨x_11, ex_11, hf⟩ := sf_ne hf
        refine ii_nc (lv' := [(2, .int x_11), (1, .int x_10), (3, .int y_9), (0, .ref h0)]) (k := 2) hx hb dX1_atOnceByStarts_56 hl rfl ex_11 (by decide) (by decide) rfl (fun ls hl => ?_)
        refine lv_goto (tgt := 4) hx hb dX1_atOnceByStarts_59 (by decide) ?_
        exact ih _ _ _ _ _ hP hS (lv_sub hl [0, 1, 3] rfl) hf hk
  refine hL4 _ _ _ _ _ _ _ hP hS (lv_sub hl [0, 1, 2] rfl) hf (fun y_12 H locs ls hP hS hl hf => ?_)
  refine lv_iload_n hx hb dX1_atOnceByStarts_62 rfl (lv_at hl 0 rfl) ?_
  exact rt_Pi hx hb hr hlocks (Option.some.inj hf) hS dX1_atOnceByStarts_63

def f_X1_nextStartOrEnd_L5 (bc : Int32) (bt : Nat → Int32) (be : Nat → Int32) (p0 : Int32) (k : Int32 → Option Int32) : Nat → Int32 → Int32 → Option Int32
  | 0, _, _ => none
  | n + 1, v_1, v_2 => sf_b (bc ≤ v_1) (k v_2) (sf_g (sf_in v_1 12 = true) (sf_b ((bt v_1.toNatClampNeg) ≤ p0) (sf_g (sf_in v_1 12 = true) (sf_b ((be v_1.toNatClampNeg) ≤ p0) (sf_n (v_1 + (1 : Int32)) (fun x_3 => f_X1_nextStartOrEnd_L5 bc bt be p0 k n x_3 v_2)) (sf_g (sf_in v_1 12 = true) (sf_n ((if (be v_1.toNatClampNeg) < v_2 then (be v_1.toNatClampNeg) else v_2)) (fun x_4 => sf_n (v_1 + (1 : Int32)) (fun x_5 => f_X1_nextStartOrEnd_L5 bc bt be p0 k n x_5 x_4)))))) (sf_g (sf_in v_1 12 = true) (sf_n ((if (bt v_1.toNatClampNeg) < v_2 then (bt v_1.toNatClampNeg) else v_2)) (fun x_6 => sf_g (sf_in v_1 12 = true) (sf_b ((be v_1.toNatClampNeg) ≤ p0) (sf_n (v_1 + (1 : Int32)) (fun x_7 => f_X1_nextStartOrEnd_L5 bc bt be p0 k n x_7 x_6)) (sf_g (sf_in v_1 12 = true) (sf_n ((if (be v_1.toNatClampNeg) < x_6 then (be v_1.toNatClampNeg) else x_6)) (fun x_8 => sf_n (v_1 + (1 : Int32)) (fun x_9 => f_X1_nextStartOrEnd_L5 bc bt be p0 k n x_9 x_8))))))))))
def f_X1_nextStartOrEnd (bc : Int32) (bt : Nat → Int32) (be : Nat → Int32) (p0 : Int32) : Option Int32 :=
  f_X1_nextStartOrEnd_L5 bc bt be p0 (fun y_10 => some y_10) 2000 (0 : Int32) (2147483647 : Int32)
theorem yd_X1_nextStartOrEnd : yX1_nextStartOrEnd.cls = RX1 ∧ yX1_nextStartOrEnd.cls ≠ "java/lang/invoke/MethodHandle" ∧ yX1_nextStartOrEnd.cls ≠ "java/lang/invoke/VarHandle" ∧ (parseMethodDescriptor yX1_nextStartOrEnd.desc).map (fun d => d.parameters.length) = some 1 := ⟨rfl, by decide, by decide, by decide +kernel⟩
set_option maxRecDepth 100000 in
set_option maxHeartbeats 4000000 in
theorem c_X1_nextStartOrEnd (l : Launch) (D : va_G) (dA : Nat → ClassId) (h0 h1 h2 h3 h4 : Nat) (bc : Int32) (bg : Nat → Int32) (bs : Nat → Int32) (bt : Nat → Int32) (be : Nat → Int32) (p0 : Int32) (rr : Int32) (hf : f_X1_nextStartOrEnd bc bt be p0 = some rr) : Met l yX1_nextStartOrEnd (wo (.code yX1_nextStartOrEnd cX1_nextStartOrEnd 4 (some .int))) ({ frames := 1, cells := 0, slots := 0, locals := 80 } : Room) (preP D dA [.ref h0, .int p0] [(h0, .inr (0, [.int bc, .ref h1, .ref h2, .ref h3, .ref h4])), (h1, .inl (dA 0, 12, .inl bg)), (h2, .inl (dA 0, 12, .inl bs)), (h3, .inl (dA 0, 12, .inl bt)), (h4, .inl (dA 0, 12, .inl be))]) (poPi rr) 0 0 noA := by
  refine of_P (own := RX1) (by decide) rfl (Nat.le_of_ble_eq_true rfl) ?_
  intro p e s m below meth c hx hb hr ha hown hml hlocks hP hK hS ls hl
  have hl : lv_has ls 4 [(0, .ref h0), (1, .int p0)] := hl
  rw [f_X1_nextStartOrEnd] at hf
  refine lv_ldc (v := 2147483647) hx hb hown (ha _ m_829) dX1_nextStartOrEnd_0 ?_
  refine lv_istore_n (lv' := [(2, .int (2147483647 : Int32)), (0, .ref h0), (1, .int p0)]) hx hb dX1_nextStartOrEnd_2 rfl hl (by decide) rfl (fun ls hl => ?_)
  refine lv_iconst (v := 0) hx hb dX1_nextStartOrEnd_3 (by decide) ?_
  refine lv_istore_n (lv' := [(3, .int (0 : Int32)), (2, .int (2147483647 : Int32)), (0, .ref h0), (1, .int p0)]) hx hb dX1_nextStartOrEnd_4 rfl hl (by decide) rfl (fun ls hl => ?_)
  have hL5 : ∀ (n : Nat) (k : Int32 → Option Int32) (v_1 : Int32) (v_2 : Int32) (H : Heap) (locs : List Loc) (ls : Array Slot), va_P D cls [(h0, .inr (0, [.int bc, .ref h1, .ref h2, .ref h3, .ref h4])), (h1, .inl (dA 0, 12, .inl bg)), (h2, .inl (dA 0, 12, .inl bs)), (h3, .inl (dA 0, 12, .inl bt)), (h4, .inl (dA 0, 12, .inl be))] H → va_S noA s.heap H locs → lv_has ls 4 [(3, .int v_1), (2, .int v_2), (0, .ref h0), (1, .int p0)] → f_X1_nextStartOrEnd_L5 bc bt be p0 k n v_1 v_2 = some rr → (∀ (y_10 : Int32) (H : Heap) (locs : List Loc) (ls : Array Slot), va_P D cls [(h0, .inr (0, [.int bc, .ref h1, .ref h2, .ref h3, .ref h4])), (h1, .inl (dA 0, 12, .inl bg)), (h2, .inl (dA 0, 12, .inl bs)), (h3, .inl (dA 0, 12, .inl bt)), (h4, .inl (dA 0, 12, .inl be))] H → va_S noA s.heap H locs → lv_has ls 4 [(2, .int y_10)] → k y_10 = some rr → W p l e ({ frames := 1, cells := 0, slots := 0, locals := 80 } : Room) s m ([.ref h0, .int p0] : List Value).toArray below meth c H locs 0 0 (MQ below (poPi rr) ([.ref h0, .int p0] : List Value).toArray s 0 0 noA) (F0 m 61 ls [])) → W p l e ({ frames := 1, cells := 0, slots := 0, locals := 80 } : Room) s m ([.ref h0, .int p0] : List Value).toArray below meth c H locs 0 0 (MQ below (poPi rr) ([.ref h0, .int p0] : List Value).toArray s 0 0 noA) (F0 m 5 ls []) := by
    intro n k
    induction n with
    | zero =>
      intro v_1 v_2 H locs ls hP hS hl hf hk
      rw [f_X1_nextStartOrEnd_L5] at hf
      cases hf
    | succ n ih =>
      intro v_1 v_2 H locs ls hP hS hl hf hk
      rw [f_X1_nextStartOrEnd_L5] at hf
      refine lv_iload_n hx hb dX1_nextStartOrEnd_5 rfl (lv_at hl 0 rfl) ?_
      refine lv_aload_n hx hb dX1_nextStartOrEnd_6 rfl (lv_at hl 2 rfl) ?_
      refine gt_f (C := RX1) (T := TX1) (N := 5) hx hb ha in_X1 hown hK hP 0 rfl rfl 0 (by decide) m_140 rfl dX1_nextStartOrEnd_7 ?_
      refine lv_icmp_ge (tgt := 61) hx hb dX1_nextStartOrEnd_10 (by decide) (fun hc => ?_) (fun hc => ?_)
      · have hf := sf_bp hf hc
        exact hk _ _ _ _ hP hS (lv_sub hl [1] rfl) hf
      · have hf := sf_bn hf hc
        refine lv_aload_n hx hb dX1_nextStartOrEnd_13 rfl (lv_at hl 2 rfl) ?_
        refine gt_f (C := RX1) (T := TX1) (N := 5) hx hb ha in_X1 hown hK hP 0 rfl rfl 3 (by decide) m_150 rfl dX1_nextStartOrEnd_14 ?_
        refine lv_iload_n hx hb dX1_nextStartOrEnd_17 rfl (lv_at hl 0 rfl) ?_
        obtain ⟨hi, hf⟩ := sf_ge hf
        refine ia_ld hx hb hK hP 3 rfl hi dX1_nextStartOrEnd_18 ?_
        refine lv_iload_n hx hb dX1_nextStartOrEnd_19 rfl (lv_at hl 3 rfl) ?_
        refine lv_icmp_le (tgt := 34) hx hb dX1_nextStartOrEnd_20 (by decide) (fun hc => ?_) (fun hc => ?_)
        · have hf := sf_bp hf hc
          refine lv_aload_n hx hb dX1_nextStartOrEnd_34 rfl (lv_at hl 2 rfl) ?_
          refine gt_f (C := RX1) (T := TX1) (N := 5) hx hb ha in_X1 hown hK hP 0 rfl rfl 4 (by decide) m_154 rfl dX1_nextStartOrEnd_35 ?_
          refine lv_iload_n hx hb dX1_nextStartOrEnd_38 rfl (lv_at hl 0 rfl) ?_
          obtain ⟨hi, hf⟩ := sf_ge hf
          refine ia_ld hx hb hK hP 4 rfl hi dX1_nextStartOrEnd_39 ?_
          refine lv_iload_n hx hb dX1_nextStartOrEnd_40 rfl (lv_at hl 3 rfl) ?_
          refine lv_icmp_le (tgt := 55) hx hb dX1_nextStartOrEnd_41 (by decide) (fun hc => ?_) (fun hc => ?_)
          · have hf := sf_bp hf hc
            obtain ⟨x_3, ex_3, hf⟩ := sf_ne hf
            refine ii_nc (lv' := [(3, .int x_3), (2, .int v_2), (0, .ref h0), (1, .int p0)]) (k := 0) hx hb dX1_nextStartOrEnd_55 hl rfl ex_3 (by decide) (by decide) rfl (fun ls hl => ?_)
            refine lv_goto (tgt := 5) hx hb dX1_nextStartOrEnd_58 (by decide) ?_
            exact ih _ _ _ _ _ hP hS (lv_sub hl [0, 1, 2, 3] rfl) hf hk
          · have hf := sf_bn hf hc
            refine lv_iload_n hx hb dX1_nextStartOrEnd_44 rfl (lv_at hl 1 rfl) ?_
            refine lv_aload_n hx hb dX1_nextStartOrEnd_45 rfl (lv_at hl 2 rfl) ?_
            refine gt_f (C := RX1) (T := TX1) (N := 5) hx hb ha in_X1 hown hK hP 0 rfl rfl 4 (by decide) m_154 rfl dX1_nextStartOrEnd_46 ?_
            refine lv_iload_n hx hb dX1_nextStartOrEnd_49 rfl (lv_at hl 0 rfl) ?_
            obtain ⟨hi, hf⟩ := sf_ge hf
            refine ia_ld hx hb hK hP 4 rfl hi dX1_nextStartOrEnd_50 ?_
            refine mn_i hx hb ha hown hml hl.1 m_830 m_564 m_54 m_565 ⟨Nat.le_of_ble_eq_true rfl, Nat.le_of_ble_eq_true rfl⟩ ⟨Nat.le_of_ble_eq_true rfl, Nat.le_of_ble_eq_true rfl⟩ dX1_nextStartOrEnd_51 ?_
            obtain ⟨x_4, ex_4, hf⟩ := sf_ne hf
            refine tp_i ex_4 ?_
            refine lv_istore_n (lv' := [(2, .int x_4), (3, .int v_1), (0, .ref h0), (1, .int p0)]) hx hb dX1_nextStartOrEnd_54 rfl hl (by decide) rfl (fun ls hl => ?_)
            obtain ⟨x_5, ex_5, hf⟩ := sf_ne hf
            refine ii_nc (lv' := [(3, .int x_5), (2, .int x_4), (0, .ref h0), (1, .int p0)]) (k := 1) hx hb dX1_nextStartOrEnd_55 hl rfl ex_5 (by decide) (by decide) rfl (fun ls hl => ?_)
            refine lv_goto (tgt := 5) hx hb dX1_nextStartOrEnd_58 (by decide) ?_
            exact ih _ _ _ _ _ hP hS (lv_sub hl [0, 1, 2, 3] rfl) hf hk
        · have hf := sf_bn hf hc
          refine lv_iload_n hx hb dX1_nextStartOrEnd_23 rfl (lv_at hl 1 rfl) ?_
          refine lv_aload_n hx hb dX1_nextStartOrEnd_24 rfl (lv_at hl 2 rfl) ?_
          refine gt_f (C := RX1) (T := TX1) (N := 5) hx hb ha in_X1 hown hK hP 0 rfl rfl 3 (by decide) m_150 rfl dX1_nextStartOrEnd_25 ?_
          refine lv_iload_n hx hb dX1_nextStartOrEnd_28 rfl (lv_at hl 0 rfl) ?_
          obtain ⟨hi, hf⟩ := sf_ge hf
          refine ia_ld hx hb hK hP 3 rfl hi dX1_nextStartOrEnd_29 ?_
          refine mn_i hx hb ha hown hml hl.1 m_830 m_564 m_54 m_565 ⟨Nat.le_of_ble_eq_true rfl, Nat.le_of_ble_eq_true rfl⟩ ⟨Nat.le_of_ble_eq_true rfl, Nat.le_of_ble_eq_true rfl⟩ dX1_nextStartOrEnd_30 ?_
          obtain ⟨x_6, ex_6, hf⟩ := sf_ne hf
          refine tp_i ex_6 ?_
          refine lv_istore_n (lv' := [(2, .int x_6), (3, .int v_1), (0, .ref h0), (1, .int p0)]) hx hb dX1_nextStartOrEnd_33 rfl hl (by decide) rfl (fun ls hl => ?_)
          refine lv_aload_n hx hb dX1_nextStartOrEnd_34 rfl (lv_at hl 2 rfl) ?_
          refine gt_f (C := RX1) (T := TX1) (N := 5) hx hb ha in_X1 hown hK hP 0 rfl rfl 4 (by decide) m_154 rfl dX1_nextStartOrEnd_35 ?_
          refine lv_iload_n hx hb dX1_nextStartOrEnd_38 rfl (lv_at hl 1 rfl) ?_
          obtain ⟨hi, hf⟩ := sf_ge hf
          refine ia_ld hx hb hK hP 4 rfl hi dX1_nextStartOrEnd_39 ?_
          refine lv_iload_n hx hb dX1_nextStartOrEnd_40 rfl (lv_at hl 3 rfl) ?_
          refine lv_icmp_le (tgt := 55) hx hb dX1_nextStartOrEnd_41 (by decide) (fun hc => ?_) (fun hc => ?_)
          · have hf := sf_bp hf hc
            obtain ⟨x_7, ex_7, hf⟩ := sf_ne hf
            refine ii_nc (lv' := [(3, .int x_7), (2, .int x_6), (0, .ref h0), (1, .int p0)]) (k := 1) hx hb dX1_nextStartOrEnd_55 hl rfl ex_7 (by decide) (by decide) rfl (fun ls hl => ?_)
            refine lv_goto (tgt := 5) hx hb dX1_nextStartOrEnd_58 (by decide) ?_
            exact ih _ _ _ _ _ hP hS (lv_sub hl [0, 1, 2, 3] rfl) hf hk
          · have hf := sf_bn hf hc
            refine lv_iload_n hx hb dX1_nextStartOrEnd_44 rfl (lv_at hl 0 rfl) ?_
            refine lv_aload_n hx hb dX1_nextStartOrEnd_45 rfl (lv_at hl 2 rfl) ?_
            refine gt_f (C := RX1) (T := TX1) (N := 5) hx hb ha in_X1 hown hK hP 0 rfl rfl 4 (by decide) m_154 rfl dX1_nextStartOrEnd_46 ?_
            refine lv_iload_n hx hb dX1_nextStartOrEnd_49 rfl (lv_at hl 1 rfl) ?_
            obtain ⟨hi, hf⟩ := sf_ge hf
            refine ia_ld hx hb hK hP 4 rfl hi dX1_nextStartOrEnd_50 ?_
            refine mn_i hx hb ha hown hml hl.1 m_830 m_564 m_54 m_565 ⟨Nat.le_of_ble_eq_true rfl, Nat.le_of_ble_eq_true rfl⟩ ⟨Nat.le_of_ble_eq_true rfl, Nat.le_of_ble_eq_true rfl⟩ dX1_nextStartOrEnd_51 ?_
            obtain ⟨x_8, ex_8, hf⟩ := sf_ne hf
            refine tp_i ex_8 ?_
            refine lv_istore_n (lv' := [(2, .int x_8), (3, .int v_1), (0, .ref h0), (1, .int p0)]) hx hb dX1_nextStartOrEnd_54 rfl hl (by decide) rfl (fun ls hl => ?_)
            obtain ⟨x_9, ex_9, hf⟩ := sf_ne hf
            refine ii_nc (lv' := [(3, .int x_9), (2, .int x_8), (0, .ref h0), (1, .int p0)]) (k := 1) hx hb dX1_nextStartOrEnd_55 hl rfl ex_9 (by decide) (by decide) rfl (fun ls hl => ?_)
            refine lv_goto (tgt := 5) hx hb dX1_nextStartOrEnd_58 (by decide) ?_
            exact ih _ _ _ _ _ hP hS (lv_sub hl [0, 1, 2, 3] rfl) hf hk
  refine hL5 _ _ _ _ _ _ _ hP hS (lv_sub hl [0, 1, 2, 3] rfl) hf (fun y_10 H locs ls hP hS hl hf => ?_)
  refine lv_iload_n hx hb dX1_nextStartOrEnd_61 rfl (lv_at hl 0 rfl) ?_
  exact rt_Pi hx hb hr hlocks (Option.some.inj hf) hS dX1_nextStartOrEnd_62

def f_X1_startsLessEndsAt_L4 (bc : Int32) (bt : Nat → Int32) (be : Nat → Int32) (p0 : Int32) (k : Int32 → Option Int32) : Nat → Int32 → Int32 → Option Int32
  | 0, _, _ => none
  | n + 1, v_1, v_2 => sf_b (bc ≤ v_1) (k v_2) (sf_g (sf_in v_1 12 = true) (sf_b ((bt v_1.toNatClampNeg) = p0) (sf_n (v_2 + (1 : Int32)) (fun x_6 => sf_g (sf_in v_1 12 = true) (sf_b ((be v_1.toNatClampNeg) = p0) (sf_n (x_6 + (-1 : Int32)) (fun x_8 => sf_n (v_1 + (1 : Int32)) (fun x_9 => f_X1_startsLessEndsAt_L4 bc bt be p0 k n x_9 x_8))) (sf_n (v_1 + (1 : Int32)) (fun x_7 => f_X1_startsLessEndsAt_L4 bc bt be p0 k n x_7 x_6))))) (sf_g (sf_in v_1 12 = true) (sf_b ((be v_1.toNatClampNeg) = p0) (sf_n (v_2 + (-1 : Int32)) (fun x_4 => sf_n (v_1 + (1 : Int32)) (fun x_5 => f_X1_startsLessEndsAt_L4 bc bt be p0 k n x_5 x_4))) (sf_n (v_1 + (1 : Int32)) (fun x_3 => f_X1_startsLessEndsAt_L4 bc bt be p0 k n x_3 v_2))))))
def f_X1_startsLessEndsAt (bc : Int32) (bt : Nat → Int32) (be : Nat → Int32) (p0 : Int32) : Option Int32 :=
  f_X1_startsLessEndsAt_L4 bc bt be p0 (fun y_10 => some y_10) 2000 (0 : Int32) (0 : Int32)
theorem yd_X1_startsLessEndsAt : yX1_startsLessEndsAt.cls = RX1 ∧ yX1_startsLessEndsAt.cls ≠ "java/lang/invoke/MethodHandle" ∧ yX1_startsLessEndsAt.cls ≠ "java/lang/invoke/VarHandle" ∧ (parseMethodDescriptor yX1_startsLessEndsAt.desc).map (fun d => d.parameters.length) = some 1 := ⟨rfl, by decide, by decide, by decide +kernel⟩
set_option maxRecDepth 100000 in
set_option maxHeartbeats 4000000 in
theorem c_X1_startsLessEndsAt (l : Launch) (D : va_G) (dA : Nat → ClassId) (h0 h1 h2 h3 h4 : Nat) (bc : Int32) (bg : Nat → Int32) (bs : Nat → Int32) (bt : Nat → Int32) (be : Nat → Int32) (p0 : Int32) (rr : Int32) (hf : f_X1_startsLessEndsAt bc bt be p0 = some rr) : Met l yX1_startsLessEndsAt (wo (.code yX1_startsLessEndsAt cX1_startsLessEndsAt 4 (some .int))) ({ frames := 0, cells := 0, slots := 0, locals := 0 } : Room) (preP D dA [.ref h0, .int p0] [(h0, .inr (0, [.int bc, .ref h1, .ref h2, .ref h3, .ref h4])), (h1, .inl (dA 0, 12, .inl bg)), (h2, .inl (dA 0, 12, .inl bs)), (h3, .inl (dA 0, 12, .inl bt)), (h4, .inl (dA 0, 12, .inl be))]) (poPi rr) 0 0 noA := by
  refine of_P (own := RX1) (by decide) rfl (Nat.le_of_ble_eq_true rfl) ?_
  intro p e s m below meth c hx hb hr ha hown hml hlocks hP hK hS ls hl
  have hl : lv_has ls 4 [(0, .ref h0), (1, .int p0)] := hl
  rw [f_X1_startsLessEndsAt] at hf
  refine lv_iconst (v := 0) hx hb dX1_startsLessEndsAt_0 (by decide) ?_
  refine lv_istore_n (lv' := [(2, .int (0 : Int32)), (0, .ref h0), (1, .int p0)]) hx hb dX1_startsLessEndsAt_1 rfl hl (by decide) rfl (fun ls hl => ?_)
  refine lv_iconst (v := 0) hx hb dX1_startsLessEndsAt_2 (by decide) ?_
  refine lv_istore_n (lv' := [(3, .int (0 : Int32)), (2, .int (0 : Int32)), (0, .ref h0), (1, .int p0)]) hx hb dX1_startsLessEndsAt_3 rfl hl (by decide) rfl (fun ls hl => ?_)
  have hL4 : ∀ (n : Nat) (k : Int32 → Option Int32) (v_1 : Int32) (v_2 : Int32) (H : Heap) (locs : List Loc) (ls : Array Slot), va_P D cls [(h0, .inr (0, [.int bc, .ref h1, .ref h2, .ref h3, .ref h4])), (h1, .inl (dA 0, 12, .inl bg)), (h2, .inl (dA 0, 12, .inl bs)), (h3, .inl (dA 0, 12, .inl bt)), (h4, .inl (dA 0, 12, .inl be))] H → va_S noA s.heap H locs → lv_has ls 4 [(3, .int v_1), (2, .int v_2), (0, .ref h0), (1, .int p0)] → f_X1_startsLessEndsAt_L4 bc bt be p0 k n v_1 v_2 = some rr → (∀ (y_10 : Int32) (H : Heap) (locs : List Loc) (ls : Array Slot), va_P D cls [(h0, .inr (0, [.int bc, .ref h1, .ref h2, .ref h3, .ref h4])), (h1, .inl (dA 0, 12, .inl bg)), (h2, .inl (dA 0, 12, .inl bs)), (h3, .inl (dA 0, 12, .inl bt)), (h4, .inl (dA 0, 12, .inl be))] H → va_S noA s.heap H locs → lv_has ls 4 [(2, .int y_10)] → k y_10 = some rr → W p l e ({ frames := 0, cells := 0, slots := 0, locals := 0 } : Room) s m ([.ref h0, .int p0] : List Value).toArray below meth c H locs 0 0 (MQ below (poPi rr) ([.ref h0, .int p0] : List Value).toArray s 0 0 noA) (F0 m 44 ls [])) → W p l e ({ frames := 0, cells := 0, slots := 0, locals := 0 } : Room) s m ([.ref h0, .int p0] : List Value).toArray below meth c H locs 0 0 (MQ below (poPi rr) ([.ref h0, .int p0] : List Value).toArray s 0 0 noA) (F0 m 4 ls []) := by
    intro n k
    induction n with
    | zero =>
      intro v_1 v_2 H locs ls hP hS hl hf hk
      rw [f_X1_startsLessEndsAt_L4] at hf
      cases hf
    | succ n ih =>
      intro v_1 v_2 H locs ls hP hS hl hf hk
      rw [f_X1_startsLessEndsAt_L4] at hf
      refine lv_iload_n hx hb dX1_startsLessEndsAt_4 rfl (lv_at hl 0 rfl) ?_
      refine lv_aload_n hx hb dX1_startsLessEndsAt_5 rfl (lv_at hl 2 rfl) ?_
      refine gt_f (C := RX1) (T := TX1) (N := 5) hx hb ha in_X1 hown hK hP 0 rfl rfl 0 (by decide) m_140 rfl dX1_startsLessEndsAt_6 ?_
      refine lv_icmp_ge (tgt := 44) hx hb dX1_startsLessEndsAt_9 (by decide) (fun hc => ?_) (fun hc => ?_)
      · have hf := sf_bp hf hc
        exact hk _ _ _ _ hP hS (lv_sub hl [1] rfl) hf
      · have hf := sf_bn hf hc
        refine lv_aload_n hx hb dX1_startsLessEndsAt_12 rfl (lv_at hl 2 rfl) ?_
        refine gt_f (C := RX1) (T := TX1) (N := 5) hx hb ha in_X1 hown hK hP 0 rfl rfl 3 (by decide) m_150 rfl dX1_startsLessEndsAt_13 ?_
        refine lv_iload_n hx hb dX1_startsLessEndsAt_16 rfl (lv_at hl 0 rfl) ?_
        obtain ⟨hi, hf⟩ := sf_ge hf
        refine ia_ld hx hb hK hP 3 rfl hi dX1_startsLessEndsAt_17 ?_
        refine lv_iload_n hx hb dX1_startsLessEndsAt_18 rfl (lv_at hl 3 rfl) ?_
        refine lv_icmp_ne (tgt := 25) hx hb dX1_startsLessEndsAt_19 (by decide) (fun hc => ?_) (fun hc => ?_)
        · have hf := sf_bn hf hc
          refine lv_aload_n hx hb dX1_startsLessEndsAt_25 rfl (lv_at hl 2 rfl) ?_
          refine gt_f (C := RX1) (T := TX1) (N := 5) hx hb ha in_X1 hown hK hP 0 rfl rfl 4 (by decide) m_154 rfl dX1_startsLessEndsAt_26 ?_
          refine lv_iload_n hx hb dX1_startsLessEndsAt_29 rfl (lv_at hl 0 rfl) ?_
          obtain ⟨hi, hf⟩ := sf_ge hf
          refine ia_ld hx hb hK hP 4 rfl hi dX1_startsLessEndsAt_30 ?_
          refine lv_iload_n hx hb dX1_startsLessEndsAt_31 rfl (lv_at hl 3 rfl) ?_
          refine lv_icmp_ne (tgt := 38) hx hb dX1_startsLessEndsAt_32 (by decide) (fun hc => ?_) (fun hc => ?_)
          · have hf := sf_bn hf hc
            obtain ⟨x_3, ex_3, hf⟩ := sf_ne hf
            refine ii_nc (lv' := [(3, .int x_3), (2, .int v_2), (0, .ref h0), (1, .int p0)]) (k := 0) hx hb dX1_startsLessEndsAt_38 hl rfl ex_3 (by decide) (by decide) rfl (fun ls hl => ?_)
            refine lv_goto (tgt := 4) hx hb dX1_startsLessEndsAt_41 (by decide) ?_
            exact ih _ _ _ _ _ hP hS (lv_sub hl [0, 1, 2, 3] rfl) hf hk
          · have hf := sf_bp hf hc
            obtain ⟨x_4, ex_4, hf⟩ := sf_ne hf
            refine ii_nc (lv' := [(2, .int x_4), (3, .int v_1), (0, .ref h0), (1, .int p0)]) (k := 1) hx hb dX1_startsLessEndsAt_35 hl rfl ex_4 (by decide) (by decide) rfl (fun ls hl => ?_)
            obtain ⟨x_5, ex_5, hf⟩ := sf_ne hf
            refine ii_nc (lv' := [(3, .int x_5), (2, .int x_4), (0, .ref h0), (1, .int p0)]) (k := 1) hx hb dX1_startsLessEndsAt_38 hl rfl ex_5 (by decide) (by decide) rfl (fun ls hl => ?_)
            refine lv_goto (tgt := 4) hx hb dX1_startsLessEndsAt_41 (by decide) ?_
            exact ih _ _ _ _ _ hP hS (lv_sub hl [0, 1, 2, 3] rfl) hf hk
        · have hf := sf_bp hf hc
          obtain ⟨x_6, ex_6, hf⟩ := sf_ne hf
          refine ii_nc (lv' := [(2, .int x_6), (3, .int v_1), (0, .ref h0), (1, .int p0)]) (k := 1) hx hb dX1_startsLessEndsAt_22 hl rfl ex_6 (by decide) (by decide) rfl (fun ls hl => ?_)
          refine lv_aload_n hx hb dX1_startsLessEndsAt_25 rfl (lv_at hl 2 rfl) ?_
          refine gt_f (C := RX1) (T := TX1) (N := 5) hx hb ha in_X1 hown hK hP 0 rfl rfl 4 (by decide) m_154 rfl dX1_startsLessEndsAt_26 ?_
          refine lv_iload_n hx hb dX1_startsLessEndsAt_29 rfl (lv_at hl 1 rfl) ?_
          obtain ⟨hi, hf⟩ := sf_ge hf
          refine ia_ld hx hb hK hP 4 rfl hi dX1_startsLessEndsAt_30 ?_
          refine lv_iload_n hx hb dX1_startsLessEndsAt_31 rfl (lv_at hl 3 rfl) ?_
          refine lv_icmp_ne (tgt := 38) hx hb dX1_startsLessEndsAt_32 (by decide) (fun hc => ?_) (fun hc => ?_)
          · have hf := sf_bn hf hc
            obtain ⟨x_7, ex_7, hf⟩ := sf_ne hf
            refine ii_nc (lv' := [(3, .int x_7), (2, .int x_6), (0, .ref h0), (1, .int p0)]) (k := 1) hx hb dX1_startsLessEndsAt_38 hl rfl ex_7 (by decide) (by decide) rfl (fun ls hl => ?_)
            refine lv_goto (tgt := 4) hx hb dX1_startsLessEndsAt_41 (by decide) ?_
            exact ih _ _ _ _ _ hP hS (lv_sub hl [0, 1, 2, 3] rfl) hf hk
          · have hf := sf_bp hf hc
            obtain ⟨x_8, ex_8, hf⟩ := sf_ne hf
            refine ii_nc (lv' := [(2, .int x_8), (3, .int v_1), (0, .ref h0), (1, .int p0)]) (k := 0) hx hb dX1_startsLessEndsAt_35 hl rfl ex_8 (by decide) (by decide) rfl (fun ls hl => ?_)
            obtain ⟨x_9, ex_9, hf⟩ := sf_ne hf
            refine ii_nc (lv' := [(3, .int x_9), (2, .int x_8), (0, .ref h0), (1, .int p0)]) (k := 1) hx hb dX1_startsLessEndsAt_38 hl rfl ex_9 (by decide) (by decide) rfl (fun ls hl => ?_)
            refine lv_goto (tgt := 4) hx hb dX1_startsLessEndsAt_41 (by decide) ?_
            exact ih _ _ _ _ _ hP hS (lv_sub hl [0, 1, 2, 3] rfl) hf hk
  refine hL4 _ _ _ _ _ _ _ hP hS (lv_sub hl [0, 1, 2, 3] rfl) hf (fun y_10 H locs ls hP hS hl hf => ?_)
  refine lv_iload_n hx hb dX1_startsLessEndsAt_44 rfl (lv_at hl 0 rfl) ?_
  exact rt_Pi hx hb hr hlocks (Option.some.inj hf) hS dX1_startsLessEndsAt_45

def f_X1_atOnceBySweeping_L9 (bc : Int32) (bt : Nat → Int32) (be : Nat → Int32) (k : Int32 → Option Int32) : Nat → Int32 → Int32 → Int32 → Int32 → Option Int32
  | 0, _, _, _, _ => none
  | n + 1, v_1, v_2, v_3, v_4 => sf_b (((2 : Int32) * bc) ≤ v_1) (k v_4) (sf_c1 (f_X1_nextStartOrEnd bc bt be v_2) (fun r_5 => sf_c1 (f_X1_startsLessEndsAt bc bt be r_5) (fun r_6 => sf_n ((v_3 + r_6)) (fun x_7 => sf_n ((if v_4 < x_7 then x_7 else v_4)) (fun x_8 => sf_n (v_1 + (1 : Int32)) (fun x_9 => f_X1_atOnceBySweeping_L9 bc bt be k n x_9 r_5 x_7 x_8))))))
def f_X1_atOnceBySweeping (bc : Int32) (bt : Nat → Int32) (be : Nat → Int32) : Option Int32 :=
  f_X1_atOnceBySweeping_L9 bc bt be (fun y_10 => some y_10) 2000 (0 : Int32) (-1 : Int32) (0 : Int32) (0 : Int32)
theorem yd_X1_atOnceBySweeping : yX1_atOnceBySweeping.cls = RX1 ∧ yX1_atOnceBySweeping.cls ≠ "java/lang/invoke/MethodHandle" ∧ yX1_atOnceBySweeping.cls ≠ "java/lang/invoke/VarHandle" ∧ (parseMethodDescriptor yX1_atOnceBySweeping.desc).map (fun d => d.parameters.length) = some 0 := ⟨rfl, by decide, by decide, by decide +kernel⟩
set_option maxRecDepth 100000 in
set_option maxHeartbeats 4000000 in
theorem c_X1_atOnceBySweeping (l : Launch) (D : va_G) (dA : Nat → ClassId) (h0 h1 h2 h3 h4 : Nat) (bc : Int32) (bg : Nat → Int32) (bs : Nat → Int32) (bt : Nat → Int32) (be : Nat → Int32) (rr : Int32) (hf : f_X1_atOnceBySweeping bc bt be = some rr) : Met l yX1_atOnceBySweeping (wo (.code yX1_atOnceBySweeping cX1_atOnceBySweeping 5 (some .int))) ({ frames := 2, cells := 0, slots := 0, locals := 103 } : Room) (preP D dA [.ref h0] [(h0, .inr (0, [.int bc, .ref h1, .ref h2, .ref h3, .ref h4])), (h1, .inl (dA 0, 12, .inl bg)), (h2, .inl (dA 0, 12, .inl bs)), (h3, .inl (dA 0, 12, .inl bt)), (h4, .inl (dA 0, 12, .inl be))]) (poPi rr) 0 0 noA := by
  refine of_P (own := RX1) (by decide) rfl (Nat.le_of_ble_eq_true rfl) ?_
  intro p e s m below meth c hx hb hr ha hown hml hlocks hP hK hS ls hl
  have hl : lv_has ls 5 [(0, .ref h0)] := hl
  rw [f_X1_atOnceBySweeping] at hf
  refine lv_iconst (v := 0) hx hb dX1_atOnceBySweeping_0 (by decide) ?_
  refine lv_istore_n (lv' := [(1, .int (0 : Int32)), (0, .ref h0)]) hx hb dX1_atOnceBySweeping_1 rfl hl (by decide) rfl (fun ls hl => ?_)
  refine lv_iconst (v := 0) hx hb dX1_atOnceBySweeping_2 (by decide) ?_
  refine lv_istore_n (lv' := [(2, .int (0 : Int32)), (1, .int (0 : Int32)), (0, .ref h0)]) hx hb dX1_atOnceBySweeping_3 rfl hl (by decide) rfl (fun ls hl => ?_)
  refine lv_iconst (v := -1) hx hb dX1_atOnceBySweeping_4 (by decide) ?_
  refine lv_istore_n (lv' := [(3, .int (-1 : Int32)), (2, .int (0 : Int32)), (1, .int (0 : Int32)), (0, .ref h0)]) hx hb dX1_atOnceBySweeping_5 rfl hl (by decide) rfl (fun ls hl => ?_)
  refine lv_iconst (v := 0) hx hb dX1_atOnceBySweeping_6 (by decide) ?_
  refine lv_istore (lv' := [(4, .int (0 : Int32)), (3, .int (-1 : Int32)), (2, .int (0 : Int32)), (1, .int (0 : Int32)), (0, .ref h0)]) hx hb dX1_atOnceBySweeping_7 hl (by decide) rfl (fun ls hl => ?_)
  have hL9 : ∀ (n : Nat) (k : Int32 → Option Int32) (v_1 : Int32) (v_2 : Int32) (v_3 : Int32) (v_4 : Int32) (H : Heap) (locs : List Loc) (ls : Array Slot), va_P D cls [(h0, .inr (0, [.int bc, .ref h1, .ref h2, .ref h3, .ref h4])), (h1, .inl (dA 0, 12, .inl bg)), (h2, .inl (dA 0, 12, .inl bs)), (h3, .inl (dA 0, 12, .inl bt)), (h4, .inl (dA 0, 12, .inl be))] H → va_S noA s.heap H locs → lv_has ls 5 [(4, .int v_1), (3, .int v_2), (2, .int v_3), (1, .int v_4), (0, .ref h0)] → f_X1_atOnceBySweeping_L9 bc bt be k n v_1 v_2 v_3 v_4 = some rr → (∀ (y_10 : Int32) (H : Heap) (locs : List Loc) (ls : Array Slot), va_P D cls [(h0, .inr (0, [.int bc, .ref h1, .ref h2, .ref h3, .ref h4])), (h1, .inl (dA 0, 12, .inl bg)), (h2, .inl (dA 0, 12, .inl bs)), (h3, .inl (dA 0, 12, .inl bt)), (h4, .inl (dA 0, 12, .inl be))] H → va_S noA s.heap H locs → lv_has ls 5 [(1, .int y_10)] → k y_10 = some rr → W p l e ({ frames := 2, cells := 0, slots := 0, locals := 103 } : Room) s m ([.ref h0] : List Value).toArray below meth c H locs 0 0 (MQ below (poPi rr) ([.ref h0] : List Value).toArray s 0 0 noA) (F0 m 46 ls [])) → W p l e ({ frames := 2, cells := 0, slots := 0, locals := 103 } : Room) s m ([.ref h0] : List Value).toArray below meth c H locs 0 0 (MQ below (poPi rr) ([.ref h0] : List Value).toArray s 0 0 noA) (F0 m 9 ls []) := by
    intro n k
    induction n with
    | zero =>
      intro v_1 v_2 v_3 v_4 H locs ls hP hS hl hf hk
      rw [f_X1_atOnceBySweeping_L9] at hf
      cases hf
    | succ n ih =>
      intro v_1 v_2 v_3 v_4 H locs ls hP hS hl hf hk
      rw [f_X1_atOnceBySweeping_L9] at hf
      refine lv_iload hx hb dX1_atOnceBySweeping_9 (lv_at hl 0 rfl) ?_
      refine lv_iconst (v := 2) hx hb dX1_atOnceBySweeping_11 (by decide) ?_
      refine lv_aload_n hx hb dX1_atOnceBySweeping_12 rfl (lv_at hl 4 rfl) ?_
      refine gt_f (C := RX1) (T := TX1) (N := 5) hx hb ha in_X1 hown hK hP 0 rfl rfl 0 (by decide) m_140 rfl dX1_atOnceBySweeping_13 ?_
      refine lv_imul hx hb dX1_atOnceBySweeping_16 ?_
      refine lv_icmp_ge (tgt := 46) hx hb dX1_atOnceBySweeping_17 (by decide) (fun hc => ?_) (fun hc => ?_)
      · have hf := sf_bp hf hc
        exact hk _ _ _ _ hP hS (lv_sub hl [3] rfl) hf
      · have hf := sf_bn hf hc
        refine lv_aload_n hx hb dX1_atOnceBySweeping_20 rfl (lv_at hl 4 rfl) ?_
        refine lv_iload_n hx hb dX1_atOnceBySweeping_21 rfl (lv_at hl 1 rfl) ?_
        obtain ⟨r_5, hc5, hf⟩ := sf_c1e hf
        refine k_Pi (run_PV (As := [.int v_2]) (rest := []) ⟨hx, hb, hml, hown, ha⟩ (c_X1_nextStartOrEnd l D dA h0 h1 h2 h3 h4  bc bg bs bt be v_2 _ hc5) (gi_V m_825 m_827 m_13 m_35 m_828) yd_X1_nextStartOrEnd ⟨Nat.le_of_ble_eq_true rfl, Nat.le_of_ble_eq_true rfl⟩ ⟨rfl, rfl⟩ hK hP [0, 1, 2, 3, 4] rfl 0 0 rfl rfl rfl rfl hl.1 rfl (Nat.le_of_ble_eq_true rfl) dX1_atOnceBySweeping_22 ⟨Nat.le_of_ble_eq_true rfl, Nat.le_of_ble_eq_true rfl⟩) hP hS (fun H locs hP hS => ?_)
        refine lv_istore_n (lv' := [(3, .int r_5), (4, .int v_1), (2, .int v_3), (1, .int v_4), (0, .ref h0)]) hx hb dX1_atOnceBySweeping_25 rfl hl (by decide) rfl (fun ls hl => ?_)
        refine lv_iload_n hx hb dX1_atOnceBySweeping_26 rfl (lv_at hl 2 rfl) ?_
        refine lv_aload_n hx hb dX1_atOnceBySweeping_27 rfl (lv_at hl 4 rfl) ?_
        refine lv_iload_n hx hb dX1_atOnceBySweeping_28 rfl (lv_at hl 0 rfl) ?_
        obtain ⟨r_6, hc6, hf⟩ := sf_c1e hf
        refine k_Pi (run_PV (As := [.int r_5]) (rest := [.int v_3]) ⟨hx, hb, hml, hown, ha⟩ (c_X1_startsLessEndsAt l D dA h0 h1 h2 h3 h4  bc bg bs bt be r_5 _ hc6) (gi_V m_831 m_833 m_14 m_35 m_834) yd_X1_startsLessEndsAt ⟨Nat.le_of_ble_eq_true rfl, Nat.le_of_ble_eq_true rfl⟩ ⟨rfl, rfl⟩ hK hP [0, 1, 2, 3, 4] rfl 0 0 rfl rfl rfl rfl hl.1 rfl (Nat.le_of_ble_eq_true rfl) dX1_atOnceBySweeping_29 ⟨Nat.le_of_ble_eq_true rfl, Nat.le_of_ble_eq_true rfl⟩) hP hS (fun H locs hP hS => ?_)
        refine lv_iadd hx hb dX1_atOnceBySweeping_32 ?_
        obtain ⟨x_7, ex_7, hf⟩ := sf_ne hf
        refine tp_i ex_7 ?_
        refine lv_istore_n (lv' := [(2, .int x_7), (3, .int r_5), (4, .int v_1), (1, .int v_4), (0, .ref h0)]) hx hb dX1_atOnceBySweeping_33 rfl hl (by decide) rfl (fun ls hl => ?_)
        refine lv_iload_n hx hb dX1_atOnceBySweeping_34 rfl (lv_at hl 3 rfl) ?_
        refine lv_iload_n hx hb dX1_atOnceBySweeping_35 rfl (lv_at hl 0 rfl) ?_
        refine mx_i hx hb ha hown hml hl.1 m_816 m_786 m_54 m_787 ⟨Nat.le_of_ble_eq_true rfl, Nat.le_of_ble_eq_true rfl⟩ ⟨Nat.le_of_ble_eq_true rfl, Nat.le_of_ble_eq_true rfl⟩ dX1_atOnceBySweeping_36 ?_
        obtain ⟨x_8, ex_8, hf⟩ := sf_ne hf
        refine tp_i ex_8 ?_
        refine lv_istore_n (lv' := [(1, .int x_8), (2, .int x_7), (3, .int r_5), (4, .int v_1), (0, .ref h0)]) hx hb dX1_atOnceBySweeping_39 rfl hl (by decide) rfl (fun ls hl => ?_)
        obtain ⟨x_9, ex_9, hf⟩ := sf_ne hf
        refine ii_nc (lv' := [(4, .int x_9), (1, .int x_8), (2, .int x_7), (3, .int r_5), (0, .ref h0)]) (k := 3) hx hb dX1_atOnceBySweeping_40 hl rfl ex_9 (by decide) (by decide) rfl (fun ls hl => ?_)
        refine lv_goto (tgt := 9) hx hb dX1_atOnceBySweeping_43 (by decide) ?_
        exact ih _ _ _ _ _ _ _ hP hS (lv_sub hl [0, 3, 2, 1, 4] rfl) hf hk
  refine hL9 _ _ _ _ _ _ _ _ _ hP hS (lv_sub hl [0, 1, 2, 3, 4] rfl) hf (fun y_10 H locs ls hP hS hl hf => ?_)
  refine lv_iload_n hx hb dX1_atOnceBySweeping_46 rfl (lv_at hl 0 rfl) ?_
  exact rt_Pi hx hb hr hlocks (Option.some.inj hf) hS dX1_atOnceBySweeping_47

