def f_X5_copyFrom (fc : Int32) (fg : Nat → Int32) (fs : Nat → Int32) (fm : Nat → Int32) (o_fc : Int32) (o_fg : Nat → Int32) (o_fs : Nat → Int32) (o_fm : Nat → Int32) : Option (Int32 × (Nat → Int32) × (Nat → Int32) × (Nat → Int32)) :=
  some (o_fc, o_fg, o_fs, o_fm)
theorem yd_X5_copyFrom : yX5_copyFrom.cls = RX5 ∧ yX5_copyFrom.cls ≠ "java/lang/invoke/MethodHandle" ∧ yX5_copyFrom.cls ≠ "java/lang/invoke/VarHandle" ∧ (parseMethodDescriptor yX5_copyFrom.desc).map (fun d => d.parameters.length) = some 1 := ⟨rfl, by decide, by decide, by decide +kernel⟩
set_option maxRecDepth 100000 in
set_option maxHeartbeats 4000000 in
theorem c_X5_copyFrom (l : Launch) (D : va_G) (dA : Nat → ClassId) (h0 h1 h2 h3 h4 h5 h6 h7 : Nat) (sz : Nat) (fc : Int32) (fg : Nat → Int32) (fs : Nat → Int32) (fm : Nat → Int32) (o_fc : Int32) (o_fg : Nat → Int32) (o_fs : Nat → Int32) (o_fm : Nat → Int32) (q_fc : Int32) (q_fg : Nat → Int32) (q_fs : Nat → Int32) (q_fm : Nat → Int32) (hf : f_X5_copyFrom fc fg fs fm o_fc o_fg o_fs o_fm = some (q_fc, q_fg, q_fs, q_fm)) : Met l yX5_copyFrom (wo (.code yX5_copyFrom cX5_copyFrom 2 none)) ({ frames := 1, cells := 0, slots := 0, locals := 90 } : Room) (preM D dA [.ref h0, .ref h4] sz [(h0, .inr (3, [.int fc, .ref h1, .ref h2, .ref h3])), (h1, .inl (dA 0, 16, .inl fg)), (h2, .inl (dA 0, 16, .inl fs)), (h3, .inl (dA 0, 16, .inl fm)), (h4, .inr (3, [.int o_fc, .ref h5, .ref h6, .ref h7])), (h5, .inl (dA 0, 16, .inl o_fg)), (h6, .inl (dA 0, 16, .inl o_fs)), (h7, .inl (dA 0, 16, .inl o_fm))]) (poMv D [(h0, .inr (3, [.int q_fc, .ref h1, .ref h2, .ref h3])), (h1, .inl (dA 0, 16, .inl q_fg)), (h2, .inl (dA 0, 16, .inl q_fs)), (h3, .inl (dA 0, 16, .inl q_fm)), (h4, .inr (3, [.int o_fc, .ref h5, .ref h6, .ref h7])), (h5, .inl (dA 0, 16, .inl o_fg)), (h6, .inl (dA 0, 16, .inl o_fs)), (h7, .inl (dA 0, 16, .inl o_fm))] (va_A [(h0, .inr (3, [.int fc, .ref h1, .ref h2, .ref h3])), (h1, .inl (dA 0, 16, .inl fg)), (h2, .inl (dA 0, 16, .inl fs)), (h3, .inl (dA 0, 16, .inl fm)), (h4, .inr (3, [.int o_fc, .ref h5, .ref h6, .ref h7])), (h5, .inl (dA 0, 16, .inl o_fg)), (h6, .inl (dA 0, 16, .inl o_fs)), (h7, .inl (dA 0, 16, .inl o_fm))] sz)) 0 0 (va_A [(h0, .inr (3, [.int fc, .ref h1, .ref h2, .ref h3])), (h1, .inl (dA 0, 16, .inl fg)), (h2, .inl (dA 0, 16, .inl fs)), (h3, .inl (dA 0, 16, .inl fm)), (h4, .inr (3, [.int o_fc, .ref h5, .ref h6, .ref h7])), (h5, .inl (dA 0, 16, .inl o_fg)), (h6, .inl (dA 0, 16, .inl o_fs)), (h7, .inl (dA 0, 16, .inl o_fm))] sz) := by
  refine of_M (y := yX5_copyFrom) (cc := cX5_copyFrom) (maxL := 2) (ret := none) (av := [.ref h0, .ref h4]) (ws := [(h0, .inr (3, [.int fc, .ref h1, .ref h2, .ref h3])), (h1, .inl (dA 0, 16, .inl fg)), (h2, .inl (dA 0, 16, .inl fs)), (h3, .inl (dA 0, 16, .inl fm)), (h4, .inr (3, [.int o_fc, .ref h5, .ref h6, .ref h7])), (h5, .inl (dA 0, 16, .inl o_fg)), (h6, .inl (dA 0, 16, .inl o_fs)), (h7, .inl (dA 0, 16, .inl o_fm))]) (sz := sz) (own := RX5) (Qc := poMv D [(h0, .inr (3, [.int q_fc, .ref h1, .ref h2, .ref h3])), (h1, .inl (dA 0, 16, .inl q_fg)), (h2, .inl (dA 0, 16, .inl q_fs)), (h3, .inl (dA 0, 16, .inl q_fm)), (h4, .inr (3, [.int o_fc, .ref h5, .ref h6, .ref h7])), (h5, .inl (dA 0, 16, .inl o_fg)), (h6, .inl (dA 0, 16, .inl o_fs)), (h7, .inl (dA 0, 16, .inl o_fm))]) (by decide) rfl (Nat.le_of_ble_eq_true rfl) ?_
  intro p e s m below meth c A hx hb hr ha hown hml hlocks hin hP hK hD hS hA ls hl
  have hl : lv_has ls 2 [(0, .ref h0), (1, .ref h4)] := hl
  rw [f_X5_copyFrom] at hf
  refine lv_aload_n hx hb dX5_copyFrom_0 rfl (lv_at hl 0 rfl) ?_
  refine lv_aload_n hx hb dX5_copyFrom_1 rfl (lv_at hl 1 rfl) ?_
  refine gt_f (C := RX5) (T := TX5) (N := 4) hx hb ha in_X5 hown hK hP 4 rfl rfl 0 (by decide) m_189 rfl dX5_copyFrom_2 ?_
  refine pt_f (C := RX5) (T := TX5) (N := 4) (ws' := [(h0, .inr (3, [.int o_fc, .ref h1, .ref h2, .ref h3])), (h1, .inl (dA 0, 16, .inl fg)), (h2, .inl (dA 0, 16, .inl fs)), (h3, .inl (dA 0, 16, .inl fm)), (h4, .inr (3, [.int o_fc, .ref h5, .ref h6, .ref h7])), (h5, .inl (dA 0, 16, .inl o_fg)), (h6, .inl (dA 0, 16, .inl o_fs)), (h7, .inl (dA 0, 16, .inl o_fm))]) (ty := .int) hx hb ha in_X5 tyX5 tyX5_ok nmX5 hown hK hP hD hS 0 rfl rfl 0 (by decide) m_189 rfl (tyX5_ok 0 (by decide)) rfl rfl (Nat.le_of_ble_eq_true rfl) rfl dX5_copyFrom_5 (fun H locs hP hD hS => ?_)
  refine lv_aload_n hx hb dX5_copyFrom_8 rfl (lv_at hl 1 rfl) ?_
  refine gt_f (C := RX5) (T := TX5) (N := 4) hx hb ha in_X5 hown hK hP 4 rfl rfl 1 (by decide) m_191 rfl dX5_copyFrom_9 ?_
  refine lv_iconst (v := 0) hx hb dX5_copyFrom_12 (by decide) ?_
  refine lv_aload_n hx hb dX5_copyFrom_13 rfl (lv_at hl 0 rfl) ?_
  refine gt_f (C := RX5) (T := TX5) (N := 4) hx hb ha in_X5 hown hK hP 0 rfl rfl 1 (by decide) m_191 rfl dX5_copyFrom_14 ?_
  refine lv_iconst (v := 0) hx hb dX5_copyFrom_17 (by decide) ?_
  refine lv_bipush (v := 16) hx hb dX5_copyFrom_18 (by decide) ?_
  refine cp_if (ws' := [(h0, .inr (3, [.int o_fc, .ref h1, .ref h2, .ref h3])), (h1, .inl (dA 0, 16, .inl o_fg)), (h2, .inl (dA 0, 16, .inl fs)), (h3, .inl (dA 0, 16, .inl fm)), (h4, .inr (3, [.int o_fc, .ref h5, .ref h6, .ref h7])), (h5, .inl (dA 0, 16, .inl o_fg)), (h6, .inl (dA 0, 16, .inl o_fs)), (h7, .inl (dA 0, 16, .inl o_fm))]) hx hb ha hown hml hl.1 m_407 m_387 m_386 m_45 hK hP hD hS 5 1 rfl rfl (by decide) rfl ⟨Nat.le_of_ble_eq_true rfl, Nat.le_of_ble_eq_true rfl⟩ dX5_copyFrom_20 (fun H locs hP hD hS => ?_)
  refine lv_aload_n hx hb dX5_copyFrom_23 rfl (lv_at hl 1 rfl) ?_
  refine gt_f (C := RX5) (T := TX5) (N := 4) hx hb ha in_X5 hown hK hP 4 rfl rfl 2 (by decide) m_193 rfl dX5_copyFrom_24 ?_
  refine lv_iconst (v := 0) hx hb dX5_copyFrom_27 (by decide) ?_
  refine lv_aload_n hx hb dX5_copyFrom_28 rfl (lv_at hl 0 rfl) ?_
  refine gt_f (C := RX5) (T := TX5) (N := 4) hx hb ha in_X5 hown hK hP 0 rfl rfl 2 (by decide) m_193 rfl dX5_copyFrom_29 ?_
  refine lv_iconst (v := 0) hx hb dX5_copyFrom_32 (by decide) ?_
  refine lv_bipush (v := 16) hx hb dX5_copyFrom_33 (by decide) ?_
  refine cp_if (ws' := [(h0, .inr (3, [.int o_fc, .ref h1, .ref h2, .ref h3])), (h1, .inl (dA 0, 16, .inl o_fg)), (h2, .inl (dA 0, 16, .inl o_fs)), (h3, .inl (dA 0, 16, .inl fm)), (h4, .inr (3, [.int o_fc, .ref h5, .ref h6, .ref h7])), (h5, .inl (dA 0, 16, .inl o_fg)), (h6, .inl (dA 0, 16, .inl o_fs)), (h7, .inl (dA 0, 16, .inl o_fm))]) hx hb ha hown hml hl.1 m_407 m_387 m_386 m_45 hK hP hD hS 6 2 rfl rfl (by decide) rfl ⟨Nat.le_of_ble_eq_true rfl, Nat.le_of_ble_eq_true rfl⟩ dX5_copyFrom_35 (fun H locs hP hD hS => ?_)
  refine lv_aload_n hx hb dX5_copyFrom_38 rfl (lv_at hl 1 rfl) ?_
  refine gt_f (C := RX5) (T := TX5) (N := 4) hx hb ha in_X5 hown hK hP 4 rfl rfl 3 (by decide) m_195 rfl dX5_copyFrom_39 ?_
  refine lv_iconst (v := 0) hx hb dX5_copyFrom_42 (by decide) ?_
  refine lv_aload_n hx hb dX5_copyFrom_43 rfl (lv_at hl 0 rfl) ?_
  refine gt_f (C := RX5) (T := TX5) (N := 4) hx hb ha in_X5 hown hK hP 0 rfl rfl 3 (by decide) m_195 rfl dX5_copyFrom_44 ?_
  refine lv_iconst (v := 0) hx hb dX5_copyFrom_47 (by decide) ?_
  refine lv_bipush (v := 16) hx hb dX5_copyFrom_48 (by decide) ?_
  refine cp_if (ws' := [(h0, .inr (3, [.int o_fc, .ref h1, .ref h2, .ref h3])), (h1, .inl (dA 0, 16, .inl o_fg)), (h2, .inl (dA 0, 16, .inl o_fs)), (h3, .inl (dA 0, 16, .inl o_fm)), (h4, .inr (3, [.int o_fc, .ref h5, .ref h6, .ref h7])), (h5, .inl (dA 0, 16, .inl o_fg)), (h6, .inl (dA 0, 16, .inl o_fs)), (h7, .inl (dA 0, 16, .inl o_fm))]) hx hb ha hown hml hl.1 m_407 m_387 m_386 m_45 hK hP hD hS 7 3 rfl rfl (by decide) rfl ⟨Nat.le_of_ble_eq_true rfl, Nat.le_of_ble_eq_true rfl⟩ dX5_copyFrom_50 (fun H locs hP hD hS => ?_)
  cases hf
  exact rt_Mv hx hb hr hlocks (hP.sub [0, 1, 2, 3, 4, 5, 6, 7] rfl) (hD.sub [0, 1, 2, 3, 4, 5, 6, 7] (by decide) rfl) hS dX5_copyFrom_53

def f_X5_rowOf (fc : Int32) (p0 : Int32) : Option Int32 :=
  some ((fc - (1 : Int32)) - p0)
theorem yd_X5_rowOf : yX5_rowOf.cls = RX5 ∧ yX5_rowOf.cls ≠ "java/lang/invoke/MethodHandle" ∧ yX5_rowOf.cls ≠ "java/lang/invoke/VarHandle" ∧ (parseMethodDescriptor yX5_rowOf.desc).map (fun d => d.parameters.length) = some 1 := ⟨rfl, by decide, by decide, by decide +kernel⟩
set_option maxRecDepth 100000 in
set_option maxHeartbeats 4000000 in
theorem c_X5_rowOf (l : Launch) (D : va_G) (dA : Nat → ClassId) (h0 h1 h2 h3 : Nat) (fc : Int32) (fg : Nat → Int32) (fs : Nat → Int32) (fm : Nat → Int32) (p0 : Int32) (rr : Int32) (hf : f_X5_rowOf fc p0 = some rr) : Met l yX5_rowOf (wo (.code yX5_rowOf cX5_rowOf 2 (some .int))) ({ frames := 0, cells := 0, slots := 0, locals := 0 } : Room) (preP D dA [.ref h0, .int p0] [(h0, .inr (3, [.int fc, .ref h1, .ref h2, .ref h3])), (h1, .inl (dA 0, 16, .inl fg)), (h2, .inl (dA 0, 16, .inl fs)), (h3, .inl (dA 0, 16, .inl fm))]) (poPi rr) 0 0 noA := by
  refine of_P (own := RX5) (by decide) rfl (Nat.le_of_ble_eq_true rfl) ?_
  intro p e s m below meth c hx hb hr ha hown hml hlocks hP hK hS ls hl
  have hl : lv_has ls 2 [(0, .ref h0), (1, .int p0)] := hl
  rw [f_X5_rowOf] at hf
  refine lv_aload_n hx hb dX5_rowOf_0 rfl (lv_at hl 0 rfl) ?_
  refine gt_f (C := RX5) (T := TX5) (N := 4) hx hb ha in_X5 hown hK hP 0 rfl rfl 0 (by decide) m_189 rfl dX5_rowOf_1 ?_
  refine lv_iconst (v := 1) hx hb dX5_rowOf_4 (by decide) ?_
  refine lv_isub hx hb dX5_rowOf_5 ?_
  refine lv_iload_n hx hb dX5_rowOf_6 rfl (lv_at hl 1 rfl) ?_
  refine lv_isub hx hb dX5_rowOf_7 ?_
  exact rt_Pi hx hb hr hlocks (Option.some.inj hf) hS dX5_rowOf_8

def f_X5_append_L12 (fc : Int32) (k : (Nat → Int32) → (Nat → Int32) → (Nat → Int32) → Option (Int32 × (Nat → Int32) × (Nat → Int32) × (Nat → Int32))) : Nat → Int32 → (Nat → Int32) → (Nat → Int32) → (Nat → Int32) → Option (Int32 × (Nat → Int32) × (Nat → Int32) × (Nat → Int32))
  | 0, _, _, _, _ => none
  | n + 1, v_5, w_6, w_7, w_8 => sf_b (fc ≤ v_5) (k w_6 w_7 w_8) (sf_g (sf_in v_5 16 = true) (sf_g (sf_in (v_5 - (1 : Int32)) 16 = true) (sf_n (upd w_6 (v_5 - (1 : Int32)).toNatClampNeg (w_6 v_5.toNatClampNeg)) (fun a_9 => sf_g (sf_in v_5 16 = true) (sf_g (sf_in (v_5 - (1 : Int32)) 16 = true) (sf_n (upd w_7 (v_5 - (1 : Int32)).toNatClampNeg (w_7 v_5.toNatClampNeg)) (fun a_10 => sf_g (sf_in v_5 16 = true) (sf_g (sf_in (v_5 - (1 : Int32)) 16 = true) (sf_n (upd w_8 (v_5 - (1 : Int32)).toNatClampNeg (w_8 v_5.toNatClampNeg)) (fun a_11 => sf_n (v_5 + (1 : Int32)) (fun x_12 => f_X5_append_L12 fc k n x_12 a_9 a_10 a_11)))))))))))
def f_X5_append (fc : Int32) (fg : Nat → Int32) (fs : Nat → Int32) (fm : Nat → Int32) (p0 : Int32) (p1 : Int32) (p2 : Int32) : Option (Int32 × (Nat → Int32) × (Nat → Int32) × (Nat → Int32)) :=
  sf_b (fc < (16 : Int32)) (sf_g (sf_in fc 16 = true) (sf_n (upd fg fc.toNatClampNeg p0) (fun a_1 => sf_g (sf_in fc 16 = true) (sf_n (upd fs fc.toNatClampNeg p1) (fun a_2 => sf_g (sf_in fc 16 = true) (sf_n (upd fm fc.toNatClampNeg p2) (fun a_3 => sf_n ((fc + (1 : Int32))) (fun x_4 => some (x_4, a_1, a_2, a_3))))))))) (f_X5_append_L12 fc (fun z_13 z_14 z_15 => sf_n ((fc - (1 : Int32))) (fun x_16 => sf_g (sf_in x_16 16 = true) (sf_n (upd z_13 x_16.toNatClampNeg p0) (fun a_17 => sf_g (sf_in x_16 16 = true) (sf_n (upd z_14 x_16.toNatClampNeg p1) (fun a_18 => sf_g (sf_in x_16 16 = true) (sf_n (upd z_15 x_16.toNatClampNeg p2) (fun a_19 => sf_n ((x_16 + (1 : Int32))) (fun x_20 => some (x_20, a_17, a_18, a_19)))))))))) 2000 (1 : Int32) fg fs fm)
theorem yd_X5_append : yX5_append.cls = RX5 ∧ yX5_append.cls ≠ "java/lang/invoke/MethodHandle" ∧ yX5_append.cls ≠ "java/lang/invoke/VarHandle" ∧ (parseMethodDescriptor yX5_append.desc).map (fun d => d.parameters.length) = some 3 := ⟨rfl, by decide, by decide, by decide +kernel⟩
set_option maxRecDepth 100000 in
set_option maxHeartbeats 4000000 in
theorem c_X5_append (l : Launch) (D : va_G) (dA : Nat → ClassId) (h0 h1 h2 h3 : Nat) (sz : Nat) (fc : Int32) (fg : Nat → Int32) (fs : Nat → Int32) (fm : Nat → Int32) (p0 : Int32) (p1 : Int32) (p2 : Int32) (q_fc : Int32) (q_fg : Nat → Int32) (q_fs : Nat → Int32) (q_fm : Nat → Int32) (hf : f_X5_append fc fg fs fm p0 p1 p2 = some (q_fc, q_fg, q_fs, q_fm)) : Met l yX5_append (wo (.code yX5_append cX5_append 5 none)) ({ frames := 0, cells := 0, slots := 0, locals := 0 } : Room) (preM D dA [.ref h0, .int p0, .int p1, .int p2] sz [(h0, .inr (3, [.int fc, .ref h1, .ref h2, .ref h3])), (h1, .inl (dA 0, 16, .inl fg)), (h2, .inl (dA 0, 16, .inl fs)), (h3, .inl (dA 0, 16, .inl fm))]) (poMv D [(h0, .inr (3, [.int q_fc, .ref h1, .ref h2, .ref h3])), (h1, .inl (dA 0, 16, .inl q_fg)), (h2, .inl (dA 0, 16, .inl q_fs)), (h3, .inl (dA 0, 16, .inl q_fm))] (va_A [(h0, .inr (3, [.int fc, .ref h1, .ref h2, .ref h3])), (h1, .inl (dA 0, 16, .inl fg)), (h2, .inl (dA 0, 16, .inl fs)), (h3, .inl (dA 0, 16, .inl fm))] sz)) 0 0 (va_A [(h0, .inr (3, [.int fc, .ref h1, .ref h2, .ref h3])), (h1, .inl (dA 0, 16, .inl fg)), (h2, .inl (dA 0, 16, .inl fs)), (h3, .inl (dA 0, 16, .inl fm))] sz) := by
  refine of_M (y := yX5_append) (cc := cX5_append) (maxL := 5) (ret := none) (av := [.ref h0, .int p0, .int p1, .int p2]) (ws := [(h0, .inr (3, [.int fc, .ref h1, .ref h2, .ref h3])), (h1, .inl (dA 0, 16, .inl fg)), (h2, .inl (dA 0, 16, .inl fs)), (h3, .inl (dA 0, 16, .inl fm))]) (sz := sz) (own := RX5) (Qc := poMv D [(h0, .inr (3, [.int q_fc, .ref h1, .ref h2, .ref h3])), (h1, .inl (dA 0, 16, .inl q_fg)), (h2, .inl (dA 0, 16, .inl q_fs)), (h3, .inl (dA 0, 16, .inl q_fm))]) (by decide) rfl (Nat.le_of_ble_eq_true rfl) ?_
  intro p e s m below meth c A hx hb hr ha hown hml hlocks hin hP hK hD hS hA ls hl
  have hl : lv_has ls 5 [(0, .ref h0), (1, .int p0), (2, .int p1), (3, .int p2)] := hl
  rw [f_X5_append] at hf
  refine lv_aload_n hx hb dX5_append_0 rfl (lv_at hl 0 rfl) ?_
  refine gt_f (C := RX5) (T := TX5) (N := 4) hx hb ha in_X5 hown hK hP 0 rfl rfl 0 (by decide) m_189 rfl dX5_append_1 ?_
  refine lv_bipush (v := 16) hx hb dX5_append_4 (by decide) ?_
  refine lv_icmp_lt (tgt := 85) hx hb dX5_append_6 (by decide) (fun hc => ?_) (fun hc => ?_)
  · have hf := sf_bp hf hc
    refine lv_aload_n hx hb dX5_append_85 rfl (lv_at hl 0 rfl) ?_
    refine gt_f (C := RX5) (T := TX5) (N := 4) hx hb ha in_X5 hown hK hP 0 rfl rfl 1 (by decide) m_191 rfl dX5_append_86 ?_
    refine lv_aload_n hx hb dX5_append_89 rfl (lv_at hl 0 rfl) ?_
    refine gt_f (C := RX5) (T := TX5) (N := 4) hx hb ha in_X5 hown hK hP 0 rfl rfl 0 (by decide) m_189 rfl dX5_append_90 ?_
    refine lv_iload_n hx hb dX5_append_93 rfl (lv_at hl 1 rfl) ?_
    obtain ⟨hi, hf⟩ := sf_ge hf
    obtain ⟨a_1, ea_1, hf⟩ := sf_ne hf
    refine ia_st (ws' := [(h0, .inr (3, [.int fc, .ref h1, .ref h2, .ref h3])), (h1, .inl (dA 0, 16, .inl a_1)), (h2, .inl (dA 0, 16, .inl fs)), (h3, .inl (dA 0, 16, .inl fm))]) hx hb hK hP hD hS 1 rfl hi ea_1 rfl dX5_append_94 (fun H locs hP hD hS => ?_)
    refine lv_aload_n hx hb dX5_append_95 rfl (lv_at hl 0 rfl) ?_
    refine gt_f (C := RX5) (T := TX5) (N := 4) hx hb ha in_X5 hown hK hP 0 rfl rfl 2 (by decide) m_193 rfl dX5_append_96 ?_
    refine lv_aload_n hx hb dX5_append_99 rfl (lv_at hl 0 rfl) ?_
    refine gt_f (C := RX5) (T := TX5) (N := 4) hx hb ha in_X5 hown hK hP 0 rfl rfl 0 (by decide) m_189 rfl dX5_append_100 ?_
    refine lv_iload_n hx hb dX5_append_103 rfl (lv_at hl 2 rfl) ?_
    obtain ⟨hi, hf⟩ := sf_ge hf
    obtain ⟨a_2, ea_2, hf⟩ := sf_ne hf
    refine ia_st (ws' := [(h0, .inr (3, [.int fc, .ref h1, .ref h2, .ref h3])), (h1, .inl (dA 0, 16, .inl a_1)), (h2, .inl (dA 0, 16, .inl a_2)), (h3, .inl (dA 0, 16, .inl fm))]) hx hb hK hP hD hS 2 rfl hi ea_2 rfl dX5_append_104 (fun H locs hP hD hS => ?_)
    refine lv_aload_n hx hb dX5_append_105 rfl (lv_at hl 0 rfl) ?_
    refine gt_f (C := RX5) (T := TX5) (N := 4) hx hb ha in_X5 hown hK hP 0 rfl rfl 3 (by decide) m_195 rfl dX5_append_106 ?_
    refine lv_aload_n hx hb dX5_append_109 rfl (lv_at hl 0 rfl) ?_
    refine gt_f (C := RX5) (T := TX5) (N := 4) hx hb ha in_X5 hown hK hP 0 rfl rfl 0 (by decide) m_189 rfl dX5_append_110 ?_
    refine lv_iload_n hx hb dX5_append_113 rfl (lv_at hl 3 rfl) ?_
    obtain ⟨hi, hf⟩ := sf_ge hf
    obtain ⟨a_3, ea_3, hf⟩ := sf_ne hf
    refine ia_st (ws' := [(h0, .inr (3, [.int fc, .ref h1, .ref h2, .ref h3])), (h1, .inl (dA 0, 16, .inl a_1)), (h2, .inl (dA 0, 16, .inl a_2)), (h3, .inl (dA 0, 16, .inl a_3))]) hx hb hK hP hD hS 3 rfl hi ea_3 rfl dX5_append_114 (fun H locs hP hD hS => ?_)
    refine lv_aload_n hx hb dX5_append_115 rfl (lv_at hl 0 rfl) ?_
    refine lv_dup hx hb dX5_append_116 rfl ?_
    refine gt_f (C := RX5) (T := TX5) (N := 4) hx hb ha in_X5 hown hK hP 0 rfl rfl 0 (by decide) m_189 rfl dX5_append_117 ?_
    refine lv_iconst (v := 1) hx hb dX5_append_120 (by decide) ?_
    refine lv_iadd hx hb dX5_append_121 ?_
    obtain ⟨x_4, ex_4, hf⟩ := sf_ne hf
    refine tp_i ex_4 ?_
    refine pt_f (C := RX5) (T := TX5) (N := 4) (ws' := [(h0, .inr (3, [.int x_4, .ref h1, .ref h2, .ref h3])), (h1, .inl (dA 0, 16, .inl a_1)), (h2, .inl (dA 0, 16, .inl a_2)), (h3, .inl (dA 0, 16, .inl a_3))]) (ty := .int) hx hb ha in_X5 tyX5 tyX5_ok nmX5 hown hK hP hD hS 0 rfl rfl 0 (by decide) m_189 rfl (tyX5_ok 0 (by decide)) rfl rfl (Nat.le_of_ble_eq_true rfl) rfl dX5_append_122 (fun H locs hP hD hS => ?_)
    cases hf
    exact rt_Mv hx hb hr hlocks (hP.sub [0, 1, 2, 3] rfl) (hD.sub [0, 1, 2, 3] (by decide) rfl) hS dX5_append_125
  · have hf := sf_bn hf hc
    refine lv_iconst (v := 1) hx hb dX5_append_9 (by decide) ?_
    refine lv_istore (lv' := [(4, .int (1 : Int32)), (0, .ref h0), (1, .int p0), (2, .int p1), (3, .int p2)]) hx hb dX5_append_10 hl (by decide) rfl (fun ls hl => ?_)
    have hL12 : ∀ (n : Nat) (k : (Nat → Int32) → (Nat → Int32) → (Nat → Int32) → Option (Int32 × (Nat → Int32) × (Nat → Int32) × (Nat → Int32))) (v_5 : Int32) (w_6 : (Nat → Int32)) (w_7 : (Nat → Int32)) (w_8 : (Nat → Int32)) (H : Heap) (locs : List Loc) (ls : Array Slot), va_P D cls [(h0, .inr (3, [.int fc, .ref h1, .ref h2, .ref h3])), (h1, .inl (dA 0, 16, .inl w_6)), (h2, .inl (dA 0, 16, .inl w_7)), (h3, .inl (dA 0, 16, .inl w_8))] H → va_D A [(h0, .inr (3, [.int fc, .ref h1, .ref h2, .ref h3])), (h1, .inl (dA 0, 16, .inl w_6)), (h2, .inl (dA 0, 16, .inl w_7)), (h3, .inl (dA 0, 16, .inl w_8))] → va_S A s.heap H locs → lv_has ls 5 [(4, .int v_5), (0, .ref h0), (1, .int p0), (2, .int p1), (3, .int p2)] → f_X5_append_L12 fc k n v_5 w_6 w_7 w_8 = some (q_fc, q_fg, q_fs, q_fm) → (∀ (z_13 : (Nat → Int32)) (z_14 : (Nat → Int32)) (z_15 : (Nat → Int32)) (H : Heap) (locs : List Loc) (ls : Array Slot), va_P D cls [(h0, .inr (3, [.int fc, .ref h1, .ref h2, .ref h3])), (h1, .inl (dA 0, 16, .inl z_13)), (h2, .inl (dA 0, 16, .inl z_14)), (h3, .inl (dA 0, 16, .inl z_15))] H → va_D A [(h0, .inr (3, [.int fc, .ref h1, .ref h2, .ref h3])), (h1, .inl (dA 0, 16, .inl z_13)), (h2, .inl (dA 0, 16, .inl z_14)), (h3, .inl (dA 0, 16, .inl z_15))] → va_S A s.heap H locs → lv_has ls 5 [(0, .ref h0), (1, .int p0), (2, .int p1), (3, .int p2)] → k z_13 z_14 z_15 = some (q_fc, q_fg, q_fs, q_fm) → W p l e ({ frames := 0, cells := 0, slots := 0, locals := 0 } : Room) s m ([.ref h0, .int p0, .int p1, .int p2] : List Value).toArray below meth c H locs 0 0 (MQ below (poMv D [(h0, .inr (3, [.int q_fc, .ref h1, .ref h2, .ref h3])), (h1, .inl (dA 0, 16, .inl q_fg)), (h2, .inl (dA 0, 16, .inl q_fs)), (h3, .inl (dA 0, 16, .inl q_fm))] A) ([.ref h0, .int p0, .int p1, .int p2] : List Value).toArray s 0 0 A) (F0 m 75 ls [])) → W p l e ({ frames := 0, cells := 0, slots := 0, locals := 0 } : Room) s m ([.ref h0, .int p0, .int p1, .int p2] : List Value).toArray below meth c H locs 0 0 (MQ below (poMv D [(h0, .inr (3, [.int q_fc, .ref h1, .ref h2, .ref h3])), (h1, .inl (dA 0, 16, .inl q_fg)), (h2, .inl (dA 0, 16, .inl q_fs)), (h3, .inl (dA 0, 16, .inl q_fm))] A) ([.ref h0, .int p0, .int p1, .int p2] : List Value).toArray s 0 0 A) (F0 m 12 ls []) := by
      intro n k
      induction n with
      | zero =>
        intro v_5 w_6 w_7 w_8 H locs ls hP hD hS hl hf hk
        rw [f_X5_append_L12] at hf
        cases hf
      | succ n ih =>
        intro v_5 w_6 w_7 w_8 H locs ls hP hD hS hl hf hk
        rw [f_X5_append_L12] at hf
        refine lv_iload hx hb dX5_append_12 (lv_at hl 0 rfl) ?_
        refine lv_aload_n hx hb dX5_append_14 rfl (lv_at hl 1 rfl) ?_
        refine gt_f (C := RX5) (T := TX5) (N := 4) hx hb ha in_X5 hown hK hP 0 rfl rfl 0 (by decide) m_189 rfl dX5_append_15 ?_
        refine lv_icmp_ge (tgt := 75) hx hb dX5_append_18 (by decide) (fun hc => ?_) (fun hc => ?_)
        · have hf := sf_bp hf hc
          exact hk _ _ _ _ _ _ (hP.sub [0, 1, 2, 3] rfl) (hD.sub [0, 1, 2, 3] (by decide) rfl) hS (lv_sub hl [1, 2, 3, 4] rfl) hf
        · have hf := sf_bn hf hc
          refine lv_aload_n hx hb dX5_append_21 rfl (lv_at hl 1 rfl) ?_
          refine gt_f (C := RX5) (T := TX5) (N := 4) hx hb ha in_X5 hown hK hP 0 rfl rfl 1 (by decide) m_191 rfl dX5_append_22 ?_
          refine lv_iload hx hb dX5_append_25 (lv_at hl 0 rfl) ?_
          refine lv_iconst (v := 1) hx hb dX5_append_27 (by decide) ?_
          refine lv_isub hx hb dX5_append_28 ?_
          refine lv_aload_n hx hb dX5_append_29 rfl (lv_at hl 1 rfl) ?_
          refine gt_f (C := RX5) (T := TX5) (N := 4) hx hb ha in_X5 hown hK hP 0 rfl rfl 1 (by decide) m_191 rfl dX5_append_30 ?_
          refine lv_iload hx hb dX5_append_33 (lv_at hl 0 rfl) ?_
          obtain ⟨hi, hf⟩ := sf_ge hf
          refine ia_ld hx hb hK hP 1 rfl hi dX5_append_35 ?_
          obtain ⟨hi, hf⟩ := sf_ge hf
          obtain ⟨a_9, ea_9, hf⟩ := sf_ne hf
          refine ia_st (ws' := [(h0, .inr (3, [.int fc, .ref h1, .ref h2, .ref h3])), (h1, .inl (dA 0, 16, .inl a_9)), (h2, .inl (dA 0, 16, .inl w_7)), (h3, .inl (dA 0, 16, .inl w_8))]) hx hb hK hP hD hS 1 rfl hi ea_9 rfl dX5_append_36 (fun H locs hP hD hS => ?_)
          refine lv_aload_n hx hb dX5_append_37 rfl (lv_at hl 1 rfl) ?_
          refine gt_f (C := RX5) (T := TX5) (N := 4) hx hb ha in_X5 hown hK hP 0 rfl rfl 2 (by decide) m_193 rfl dX5_append_38 ?_
          refine lv_iload hx hb dX5_append_41 (lv_at hl 0 rfl) ?_
          refine lv_iconst (v := 1) hx hb dX5_append_43 (by decide) ?_
          refine lv_isub hx hb dX5_append_44 ?_
          refine lv_aload_n hx hb dX5_append_45 rfl (lv_at hl 1 rfl) ?_
          refine gt_f (C := RX5) (T := TX5) (N := 4) hx hb ha in_X5 hown hK hP 0 rfl rfl 2 (by decide) m_193 rfl dX5_append_46 ?_
          refine lv_iload hx hb dX5_append_49 (lv_at hl 0 rfl) ?_
          obtain ⟨hi, hf⟩ := sf_ge hf
          refine ia_ld hx hb hK hP 2 rfl hi dX5_append_51 ?_
          obtain ⟨hi, hf⟩ := sf_ge hf
          obtain ⟨a_10, ea_10, hf⟩ := sf_ne hf
          refine ia_st (ws' := [(h0, .inr (3, [.int fc, .ref h1, .ref h2, .ref h3])), (h1, .inl (dA 0, 16, .inl a_9)), (h2, .inl (dA 0, 16, .inl a_10)), (h3, .inl (dA 0, 16, .inl w_8))]) hx hb hK hP hD hS 2 rfl hi ea_10 rfl dX5_append_52 (fun H locs hP hD hS => ?_)
          refine lv_aload_n hx hb dX5_append_53 rfl (lv_at hl 1 rfl) ?_
          refine gt_f (C := RX5) (T := TX5) (N := 4) hx hb ha in_X5 hown hK hP 0 rfl rfl 3 (by decide) m_195 rfl dX5_append_54 ?_
          refine lv_iload hx hb dX5_append_57 (lv_at hl 0 rfl) ?_
          refine lv_iconst (v := 1) hx hb dX5_append_59 (by decide) ?_
          refine lv_isub hx hb dX5_append_60 ?_
          refine lv_aload_n hx hb dX5_append_61 rfl (lv_at hl 1 rfl) ?_
          refine gt_f (C := RX5) (T := TX5) (N := 4) hx hb ha in_X5 hown hK hP 0 rfl rfl 3 (by decide) m_195 rfl dX5_append_62 ?_
          refine lv_iload hx hb dX5_append_65 (lv_at hl 0 rfl) ?_
          obtain ⟨hi, hf⟩ := sf_ge hf
          refine ia_ld hx hb hK hP 3 rfl hi dX5_append_67 ?_
          obtain ⟨hi, hf⟩ := sf_ge hf
          obtain ⟨a_11, ea_11, hf⟩ := sf_ne hf
          refine ia_st (ws' := [(h0, .inr (3, [.int fc, .ref h1, .ref h2, .ref h3])), (h1, .inl (dA 0, 16, .inl a_9)), (h2, .inl (dA 0, 16, .inl a_10)), (h3, .inl (dA 0, 16, .inl a_11))]) hx hb hK hP hD hS 3 rfl hi ea_11 rfl dX5_append_68 (fun H locs hP hD hS => ?_)
          obtain ⟨x_12, ex_12, hf⟩ := sf_ne hf
          refine ii_nc (lv' := [(4, .int x_12), (0, .ref h0), (1, .int p0), (2, .int p1), (3, .int p2)]) (k := 0) hx hb dX5_append_69 hl rfl ex_12 (by decide) (by decide) rfl (fun ls hl => ?_)
          refine lv_goto (tgt := 12) hx hb dX5_append_72 (by decide) ?_
          exact ih _ _ _ _ _ _ _ (hP.sub [0, 1, 2, 3] rfl) (hD.sub [0, 1, 2, 3] (by decide) rfl) hS (lv_sub hl [0, 1, 2, 3, 4] rfl) hf hk
    refine hL12 _ _ _ _ _ _ _ _ _ hP hD hS (lv_sub hl [0, 1, 2, 3, 4] rfl) hf (fun z_13 z_14 z_15 H locs ls hP hD hS hl hf => ?_)
    refine lv_aload_n hx hb dX5_append_75 rfl (lv_at hl 0 rfl) ?_
    refine lv_dup hx hb dX5_append_76 rfl ?_
    refine gt_f (C := RX5) (T := TX5) (N := 4) hx hb ha in_X5 hown hK hP 0 rfl rfl 0 (by decide) m_189 rfl dX5_append_77 ?_
    refine lv_iconst (v := 1) hx hb dX5_append_80 (by decide) ?_
    refine lv_isub hx hb dX5_append_81 ?_
    obtain ⟨x_16, ex_16, hf⟩ := sf_ne hf
    refine tp_i ex_16 ?_
    refine pt_f (C := RX5) (T := TX5) (N := 4) (ws' := [(h0, .inr (3, [.int x_16, .ref h1, .ref h2, .ref h3])), (h1, .inl (dA 0, 16, .inl z_13)), (h2, .inl (dA 0, 16, .inl z_14)), (h3, .inl (dA 0, 16, .inl z_15))]) (ty := .int) hx hb ha in_X5 tyX5 tyX5_ok nmX5 hown hK hP hD hS 0 rfl rfl 0 (by decide) m_189 rfl (tyX5_ok 0 (by decide)) rfl rfl (Nat.le_of_ble_eq_true rfl) rfl dX5_append_82 (fun H locs hP hD hS => ?_)
    refine lv_aload_n hx hb dX5_append_85 rfl (lv_at hl 0 rfl) ?_
    refine gt_f (C := RX5) (T := TX5) (N := 4) hx hb ha in_X5 hown hK hP 0 rfl rfl 1 (by decide) m_191 rfl dX5_append_86 ?_
    refine lv_aload_n hx hb dX5_append_89 rfl (lv_at hl 0 rfl) ?_
    refine gt_f (C := RX5) (T := TX5) (N := 4) hx hb ha in_X5 hown hK hP 0 rfl rfl 0 (by decide) m_189 rfl dX5_append_90 ?_
    refine lv_iload_n hx hb dX5_append_93 rfl (lv_at hl 1 rfl) ?_
    obtain ⟨hi, hf⟩ := sf_ge hf
    obtain ⟨a_17, ea_17, hf⟩ := sf_ne hf
    refine ia_st (ws' := [(h0, .inr (3, [.int x_16, .ref h1, .ref h2, .ref h3])), (h1, .inl (dA 0, 16, .inl a_17)), (h2, .inl (dA 0, 16, .inl z_14)), (h3, .inl (dA 0, 16, .inl z_15))]) hx hb hK hP hD hS 1 rfl hi ea_17 rfl dX5_append_94 (fun H locs hP hD hS => ?_)
    refine lv_aload_n hx hb dX5_append_95 rfl (lv_at hl 0 rfl) ?_
    refine gt_f (C := RX5) (T := TX5) (N := 4) hx hb ha in_X5 hown hK hP 0 rfl rfl 2 (by decide) m_193 rfl dX5_append_96 ?_
    refine lv_aload_n hx hb dX5_append_99 rfl (lv_at hl 0 rfl) ?_
    refine gt_f (C := RX5) (T := TX5) (N := 4) hx hb ha in_X5 hown hK hP 0 rfl rfl 0 (by decide) m_189 rfl dX5_append_100 ?_
    refine lv_iload_n hx hb dX5_append_103 rfl (lv_at hl 2 rfl) ?_
    obtain ⟨hi, hf⟩ := sf_ge hf
    obtain ⟨a_18, ea_18, hf⟩ := sf_ne hf
    refine ia_st (ws' := [(h0, .inr (3, [.int x_16, .ref h1, .ref h2, .ref h3])), (h1, .inl (dA 0, 16, .inl a_17)), (h2, .inl (dA 0, 16, .inl a_18)), (h3, .inl (dA 0, 16, .inl z_15))]) hx hb hK hP hD hS 2 rfl hi ea_18 rfl dX5_append_104 (fun H locs hP hD hS => ?_)
    refine lv_aload_n hx hb dX5_append_105 rfl (lv_at hl 0 rfl) ?_
    refine gt_f (C := RX5) (T := TX5) (N := 4) hx hb ha in_X5 hown hK hP 0 rfl rfl 3 (by decide) m_195 rfl dX5_append_106 ?_
    refine lv_aload_n hx hb dX5_append_109 rfl (lv_at hl 0 rfl) ?_
    refine gt_f (C := RX5) (T := TX5) (N := 4) hx hb ha in_X5 hown hK hP 0 rfl rfl 0 (by decide) m_189 rfl dX5_append_110 ?_
    refine lv_iload_n hx hb dX5_append_113 rfl (lv_at hl 3 rfl) ?_
    obtain ⟨hi, hf⟩ := sf_ge hf
    obtain ⟨a_19, ea_19, hf⟩ := sf_ne hf
    refine ia_st (ws' := [(h0, .inr (3, [.int x_16, .ref h1, .ref h2, .ref h3])), (h1, .inl (dA 0, 16, .inl a_17)), (h2, .inl (dA 0, 16, .inl a_18)), (h3, .inl (dA 0, 16, .inl a_19))]) hx hb hK hP hD hS 3 rfl hi ea_19 rfl dX5_append_114 (fun H locs hP hD hS => ?_)
    refine lv_aload_n hx hb dX5_append_115 rfl (lv_at hl 0 rfl) ?_
    refine lv_dup hx hb dX5_append_116 rfl ?_
    refine gt_f (C := RX5) (T := TX5) (N := 4) hx hb ha in_X5 hown hK hP 0 rfl rfl 0 (by decide) m_189 rfl dX5_append_117 ?_
    refine lv_iconst (v := 1) hx hb dX5_append_120 (by decide) ?_
    refine lv_iadd hx hb dX5_append_121 ?_
    obtain ⟨x_20, ex_20, hf⟩ := sf_ne hf
    refine tp_i ex_20 ?_
    refine pt_f (C := RX5) (T := TX5) (N := 4) (ws' := [(h0, .inr (3, [.int x_20, .ref h1, .ref h2, .ref h3])), (h1, .inl (dA 0, 16, .inl a_17)), (h2, .inl (dA 0, 16, .inl a_18)), (h3, .inl (dA 0, 16, .inl a_19))]) (ty := .int) hx hb ha in_X5 tyX5 tyX5_ok nmX5 hown hK hP hD hS 0 rfl rfl 0 (by decide) m_189 rfl (tyX5_ok 0 (by decide)) rfl rfl (Nat.le_of_ble_eq_true rfl) rfl dX5_append_122 (fun H locs hP hD hS => ?_)
    cases hf
    exact rt_Mv hx hb hr hlocks (hP.sub [0, 1, 2, 3] rfl) (hD.sub [0, 1, 2, 3] (by decide) rfl) hS dX5_append_125

def f_X5_equalPairs_L16 (fc : Int32) (fm : Nat → Int32) (v_1 : Int32) (k : Int32 → Option Int32) : Nat → Int32 → Int32 → Option Int32
  | 0, _, _ => none
  | n + 1, v_4, v_5 => sf_b (fc ≤ v_4) (k v_5) (sf_g (sf_in v_1 16 = true) (sf_g (sf_in v_4 16 = true) (sf_b ((fm v_1.toNatClampNeg) = (fm v_4.toNatClampNeg)) (sf_n (v_5 + (1 : Int32)) (fun x_7 => sf_n (v_4 + (1 : Int32)) (fun x_8 => f_X5_equalPairs_L16 fc fm v_1 k n x_8 x_7))) (sf_n (v_4 + (1 : Int32)) (fun x_6 => f_X5_equalPairs_L16 fc fm v_1 k n x_6 v_5)))))
def f_X5_equalPairs_L4 (fc : Int32) (fm : Nat → Int32) (k : Int32 → Option Int32) : Nat → Int32 → Int32 → Option Int32
  | 0, _, _ => none
  | n + 1, v_1, v_2 => sf_b (fc ≤ v_1) (k v_2) (sf_n ((v_1 + (1 : Int32))) (fun x_3 => f_X5_equalPairs_L16 fc fm v_1 (fun y_9 => sf_n (v_1 + (1 : Int32)) (fun x_10 => f_X5_equalPairs_L4 fc fm k n x_10 y_9)) 2000 x_3 v_2))
def f_X5_equalPairs (fc : Int32) (fm : Nat → Int32) : Option Int32 :=
  f_X5_equalPairs_L4 fc fm (fun y_11 => some y_11) 2000 (0 : Int32) (0 : Int32)
theorem yd_X5_equalPairs : yX5_equalPairs.cls = RX5 ∧ yX5_equalPairs.cls ≠ "java/lang/invoke/MethodHandle" ∧ yX5_equalPairs.cls ≠ "java/lang/invoke/VarHandle" ∧ (parseMethodDescriptor yX5_equalPairs.desc).map (fun d => d.parameters.length) = some 0 := ⟨rfl, by decide, by decide, by decide +kernel⟩
set_option maxRecDepth 100000 in
set_option maxHeartbeats 4000000 in
theorem c_X5_equalPairs (l : Launch) (D : va_G) (dA : Nat → ClassId) (h0 h1 h2 h3 : Nat) (fc : Int32) (fg : Nat → Int32) (fs : Nat → Int32) (fm : Nat → Int32) (rr : Int32) (hf : f_X5_equalPairs fc fm = some rr) : Met l yX5_equalPairs (wo (.code yX5_equalPairs cX5_equalPairs 4 (some .int))) ({ frames := 0, cells := 0, slots := 0, locals := 0 } : Room) (preP D dA [.ref h0] [(h0, .inr (3, [.int fc, .ref h1, .ref h2, .ref h3])), (h1, .inl (dA 0, 16, .inl fg)), (h2, .inl (dA 0, 16, .inl fs)), (h3, .inl (dA 0, 16, .inl fm))]) (poPi rr) 0 0 noA := by
  refine of_P (own := RX5) (by decide) rfl (Nat.le_of_ble_eq_true rfl) ?_
  intro p e s m below meth c hx hb hr ha hown hml hlocks hP hK hS ls hl
  have hl : lv_has ls 4 [(0, .ref h0)] := hl
  rw [f_X5_equalPairs] at hf
  refine lv_iconst (v := 0) hx hb dX5_equalPairs_0 (by decide) ?_
  refine lv_istore_n (lv' := [(1, .int (0 : Int32)), (0, .ref h0)]) hx hb dX5_equalPairs_1 rfl hl (by decide) rfl (fun ls hl => ?_)
  refine lv_iconst (v := 0) hx hb dX5_equalPairs_2 (by decide) ?_
  refine lv_istore_n (lv' := [(2, .int (0 : Int32)), (1, .int (0 : Int32)), (0, .ref h0)]) hx hb dX5_equalPairs_3 rfl hl (by decide) rfl (fun ls hl => ?_)
  have hL4 : ∀ (n : Nat) (k : Int32 → Option Int32) (v_1 : Int32) (v_2 : Int32) (H : Heap) (locs : List Loc) (ls : Array Slot), va_P D cls [(h0, .inr (3, [.int fc, .ref h1, .ref h2, .ref h3])), (h1, .inl (dA 0, 16, .inl fg)), (h2, .inl (dA 0, 16, .inl fs)), (h3, .inl (dA 0, 16, .inl fm))] H → va_S noA s.heap H locs → lv_has ls 4 [(2, .int v_1), (1, .int v_2), (0, .ref h0)] → f_X5_equalPairs_L4 fc fm k n v_1 v_2 = some rr → (∀ (y_11 : Int32) (H : Heap) (locs : List Loc) (ls : Array Slot), va_P D cls [(h0, .inr (3, [.int fc, .ref h1, .ref h2, .ref h3])), (h1, .inl (dA 0, 16, .inl fg)), (h2, .inl (dA 0, 16, .inl fs)), (h3, .inl (dA 0, 16, .inl fm))] H → va_S noA s.heap H locs → lv_has ls 4 [(1, .int y_11)] → k y_11 = some rr → W p l e ({ frames := 0, cells := 0, slots := 0, locals := 0 } : Room) s m ([.ref h0] : List Value).toArray below meth c H locs 0 0 (MQ below (poPi rr) ([.ref h0] : List Value).toArray s 0 0 noA) (F0 m 54 ls [])) → W p l e ({ frames := 0, cells := 0, slots := 0, locals := 0 } : Room) s m ([.ref h0] : List Value).toArray below meth c H locs 0 0 (MQ below (poPi rr) ([.ref h0] : List Value).toArray s 0 0 noA) (F0 m 4 ls []) := by
    intro n k
    induction n with
    | zero =>
      intro v_1 v_2 H locs ls hP hS hl hf hk
      rw [f_X5_equalPairs_L4] at hf
      cases hf
    | succ n ih =>
      intro v_1 v_2 H locs ls hP hS hl hf hk
      rw [f_X5_equalPairs_L4] at hf
      refine lv_iload_n hx hb dX5_equalPairs_4 rfl (lv_at hl 0 rfl) ?_
      refine lv_aload_n hx hb dX5_equalPairs_5 rfl (lv_at hl 2 rfl) ?_
      refine gt_f (C := RX5) (T := TX5) (N := 4) hx hb ha in_X5 hown hK hP 0 rfl rfl 0 (by decide) m_189 rfl dX5_equalPairs_6 ?_
      refine lv_icmp_ge (tgt := 54) hx hb dX5_equalPairs_9 (by decide) (fun hc => ?_) (fun hc => ?_)
      · have hf := sf_bp hf hc
        exact hk _ _ _ _ hP hS (lv_sub hl [1] rfl) hf
      · have hf := sf_bn hf hc
        refine lv_iload_n hx hb dX5_equalPairs_12 rfl (lv_at hl 0 rfl) ?_
        refine lv_iconst (v := 1) hx hb dX5_equalPairs_13 (by decide) ?_
        refine lv_iadd hx hb dX5_equalPairs_14 ?_
        obtain ⟨x_3, ex_3, hf⟩ := sf_ne hf
        refine tp_i ex_3 ?_
        refine lv_istore_n (lv' := [(3, .int x_3), (2, .int v_1), (1, .int v_2), (0, .ref h0)]) hx hb dX5_equalPairs_15 rfl hl (by decide) rfl (fun ls hl => ?_)
        have hL16 : ∀ (n : Nat) (k : Int32 → Option Int32) (v_4 : Int32) (v_5 : Int32) (H : Heap) (locs : List Loc) (ls : Array Slot), va_P D cls [(h0, .inr (3, [.int fc, .ref h1, .ref h2, .ref h3])), (h1, .inl (dA 0, 16, .inl fg)), (h2, .inl (dA 0, 16, .inl fs)), (h3, .inl (dA 0, 16, .inl fm))] H → va_S noA s.heap H locs → lv_has ls 4 [(3, .int v_4), (2, .int v_1), (1, .int v_5), (0, .ref h0)] → f_X5_equalPairs_L16 fc fm v_1 k n v_4 v_5 = some rr → (∀ (y_9 : Int32) (H : Heap) (locs : List Loc) (ls : Array Slot), va_P D cls [(h0, .inr (3, [.int fc, .ref h1, .ref h2, .ref h3])), (h1, .inl (dA 0, 16, .inl fg)), (h2, .inl (dA 0, 16, .inl fs)), (h3, .inl (dA 0, 16, .inl fm))] H → va_S noA s.heap H locs → lv_has ls 4 [(2, .int v_1), (1, .int y_9), (0, .ref h0)] → k y_9 = some rr → W p l e ({ frames := 0, cells := 0, slots := 0, locals := 0 } : Room) s m ([.ref h0] : List Value).toArray below meth c H locs 0 0 (MQ below (poPi rr) ([.ref h0] : List Value).toArray s 0 0 noA) (F0 m 48 ls [])) → W p l e ({ frames := 0, cells := 0, slots := 0, locals := 0 } : Room) s m ([.ref h0] : List Value).toArray below meth c H locs 0 0 (MQ below (poPi rr) ([.ref h0] : List Value).toArray s 0 0 noA) (F0 m 16 ls []) := by
          intro n k
          induction n with
          | zero =>
            intro v_4 v_5 H locs ls hP hS hl hf hk
            rw [f_X5_equalPairs_L16] at hf
            cases hf
          | succ n ih =>
            intro v_4 v_5 H locs ls hP hS hl hf hk
            rw [f_X5_equalPairs_L16] at hf
            refine lv_iload_n hx hb dX5_equalPairs_16 rfl (lv_at hl 0 rfl) ?_
            refine lv_aload_n hx hb dX5_equalPairs_17 rfl (lv_at hl 3 rfl) ?_
            refine gt_f (C := RX5) (T := TX5) (N := 4) hx hb ha in_X5 hown hK hP 0 rfl rfl 0 (by decide) m_189 rfl dX5_equalPairs_18 ?_
            refine lv_icmp_ge (tgt := 48) hx hb dX5_equalPairs_21 (by decide) (fun hc => ?_) (fun hc => ?_)
            · have hf := sf_bp hf hc
              exact hk _ _ _ _ hP hS (lv_sub hl [1, 2, 3] rfl) hf
            · have hf := sf_bn hf hc
              refine lv_aload_n hx hb dX5_equalPairs_24 rfl (lv_at hl 3 rfl) ?_
              refine gt_f (C := RX5) (T := TX5) (N := 4) hx hb ha in_X5 hown hK hP 0 rfl rfl 3 (by decide) m_195 rfl dX5_equalPairs_25 ?_
              refine lv_iload_n hx hb dX5_equalPairs_28 rfl (lv_at hl 1 rfl) ?_
              obtain ⟨hi, hf⟩ := sf_ge hf
              refine ia_ld hx hb hK hP 3 rfl hi dX5_equalPairs_29 ?_
              refine lv_aload_n hx hb dX5_equalPairs_30 rfl (lv_at hl 3 rfl) ?_
              refine gt_f (C := RX5) (T := TX5) (N := 4) hx hb ha in_X5 hown hK hP 0 rfl rfl 3 (by decide) m_195 rfl dX5_equalPairs_31 ?_
              refine lv_iload_n hx hb dX5_equalPairs_34 rfl (lv_at hl 0 rfl) ?_
              obtain ⟨hi, hf⟩ := sf_ge hf
              refine ia_ld hx hb hK hP 3 rfl hi dX5_equalPairs_35 ?_
              refine lv_icmp_ne (tgt := 42) hx hb dX5_equalPairs_36 (by decide) (fun hc => ?_) (fun hc => ?_)
              · have hf := sf_bn hf hc
                obtain ⟨x_6, ex_6, hf⟩ := sf_ne hf
                refine ii_nc (lv' := [(3, .int x_6), (2, .int v_1), (1, .int v_5), (0, .ref h0)]) (k := 0) hx hb dX5_equalPairs_42 hl rfl ex_6 (by decide) (by decide) rfl (fun ls hl => ?_)
                refine lv_goto (tgt := 16) hx hb dX5_equalPairs_45 (by decide) ?_
                exact ih _ _ _ _ _ hP hS (lv_sub hl [0, 1, 2, 3] rfl) hf hk
              · have hf := sf_bp hf hc
                obtain ⟨x_7, ex_7, hf⟩ := sf_ne hf
                refine ii_nc (lv' := [(1, .int x_7), (3, .int v_4), (2, .int v_1), (0, .ref h0)]) (k := 2) hx hb dX5_equalPairs_39 hl rfl ex_7 (by decide) (by decide) rfl (fun ls hl => ?_)
                obtain ⟨x_8, ex_8, hf⟩ := sf_ne hf
                refine ii_nc (lv' := [(3, .int x_8), (1, .int x_7), (2, .int v_1), (0, .ref h0)]) (k := 1) hx hb dX5_equalPairs_42 hl rfl ex_8 (by decide) (by decide) rfl (fun ls hl => ?_)
                refine lv_goto (tgt := 16) hx hb dX5_equalPairs_45 (by decide) ?_
                exact ih _ _ _ _ _ hP hS (lv_sub hl [0, 2, 1, 3] rfl) hf hk
        refine hL16 _ _ _ _ _ _ _ hP hS (lv_sub hl [0, 1, 2, 3] rfl) hf (fun y_9 H locs ls hP hS hl hf => ?_)
        obtain ⟨x_10, ex_10, hf⟩ := sf_ne hf
        refine ii_nc (lv' := [(2, .int x_10), (1, .int y_9), (0, .ref h0)]) (k := 0) hx hb dX5_equalPairs_48 hl rfl ex_10 (by decide) (by decide) rfl (fun ls hl => ?_)
        refine lv_goto (tgt := 4) hx hb dX5_equalPairs_51 (by decide) ?_
        exact ih _ _ _ _ _ hP hS (lv_sub hl [0, 1, 2] rfl) hf hk
  refine hL4 _ _ _ _ _ _ _ hP hS (lv_sub hl [0, 1, 2] rfl) hf (fun y_11 H locs ls hP hS hl hf => ?_)
  refine lv_iload_n hx hb dX5_equalPairs_54 rfl (lv_at hl 0 rfl) ?_
  exact rt_Pi hx hb hr hlocks (Option.some.inj hf) hS dX5_equalPairs_55

def f_X5_equalPairsFromRuns_L6 (fc : Int32) (fm : Nat → Int32) (k : Int32 → Option Int32) : Nat → Int32 → Int32 → Int32 → Option Int32
  | 0, _, _, _ => none
  | n + 1, v_1, v_2, v_3 => sf_b (fc ≤ v_1) (k v_3) (sf_n (v_2 + (1 : Int32)) (fun x_4 => sf_b ((v_1 + (1 : Int32)) = fc) (sf_n ((v_3 + ((x_4 * (x_4 - (1 : Int32))) / (2 : Int32)))) (fun x_5 => sf_n (v_1 + (1 : Int32)) (fun x_6 => f_X5_equalPairsFromRuns_L6 fc fm k n x_6 (0 : Int32) x_5))) (sf_g (sf_in (v_1 + (1 : Int32)) 16 = true) (sf_g (sf_in v_1 16 = true) (sf_b ((fm (v_1 + (1 : Int32)).toNatClampNeg) = (fm v_1.toNatClampNeg)) (sf_n (v_1 + (1 : Int32)) (fun x_7 => f_X5_equalPairsFromRuns_L6 fc fm k n x_7 x_4 v_3)) (sf_n ((v_3 + ((x_4 * (x_4 - (1 : Int32))) / (2 : Int32)))) (fun x_8 => sf_n (v_1 + (1 : Int32)) (fun x_9 => f_X5_equalPairsFromRuns_L6 fc fm k n x_9 (0 : Int32) x_8))))))))
def f_X5_equalPairsFromRuns (fc : Int32) (fm : Nat → Int32) : Option Int32 :=
  f_X5_equalPairsFromRuns_L6 fc fm (fun y_10 => some y_10) 2000 (0 : Int32) (0 : Int32) (0 : Int32)
theorem yd_X5_equalPairsFromRuns : yX5_equalPairsFromRuns.cls = RX5 ∧ yX5_equalPairsFromRuns.cls ≠ "java/lang/invoke/MethodHandle" ∧ yX5_equalPairsFromRuns.cls ≠ "java/lang/invoke/VarHandle" ∧ (parseMethodDescriptor yX5_equalPairsFromRuns.desc).map (fun d => d.parameters.length) = some 0 := ⟨rfl, by decide, by decide, by decide +kernel⟩
set_option maxRecDepth 100000 in
set_option maxHeartbeats 4000000 in
theorem c_X5_equalPairsFromRuns (l : Launch) (D : va_G) (dA : Nat → ClassId) (h0 h1 h2 h3 : Nat) (fc : Int32) (fg : Nat → Int32) (fs : Nat → Int32) (fm : Nat → Int32) (rr : Int32) (hf : f_X5_equalPairsFromRuns fc fm = some rr) : Met l yX5_equalPairsFromRuns (wo (.code yX5_equalPairsFromRuns cX5_equalPairsFromRuns 4 (some .int))) ({ frames := 0, cells := 0, slots := 0, locals := 0 } : Room) (preP D dA [.ref h0] [(h0, .inr (3, [.int fc, .ref h1, .ref h2, .ref h3])), (h1, .inl (dA 0, 16, .inl fg)), (h2, .inl (dA 0, 16, .inl fs)), (h3, .inl (dA 0, 16, .inl fm))]) (poPi rr) 0 0 noA := by
  refine of_P (own := RX5) (by decide) rfl (Nat.le_of_ble_eq_true rfl) ?_
  intro p e s m below meth c hx hb hr ha hown hml hlocks hP hK hS ls hl
  have hl : lv_has ls 4 [(0, .ref h0)] := hl
  rw [f_X5_equalPairsFromRuns] at hf
  refine lv_iconst (v := 0) hx hb dX5_equalPairsFromRuns_0 (by decide) ?_
  refine lv_istore_n (lv' := [(1, .int (0 : Int32)), (0, .ref h0)]) hx hb dX5_equalPairsFromRuns_1 rfl hl (by decide) rfl (fun ls hl => ?_)
  refine lv_iconst (v := 0) hx hb dX5_equalPairsFromRuns_2 (by decide) ?_
  refine lv_istore_n (lv' := [(2, .int (0 : Int32)), (1, .int (0 : Int32)), (0, .ref h0)]) hx hb dX5_equalPairsFromRuns_3 rfl hl (by decide) rfl (fun ls hl => ?_)
  refine lv_iconst (v := 0) hx hb dX5_equalPairsFromRuns_4 (by decide) ?_
  refine lv_istore_n (lv' := [(3, .int (0 : Int32)), (2, .int (0 : Int32)), (1, .int (0 : Int32)), (0, .ref h0)]) hx hb dX5_equalPairsFromRuns_5 rfl hl (by decide) rfl (fun ls hl => ?_)
  have hL6 : ∀ (n : Nat) (k : Int32 → Option Int32) (v_1 : Int32) (v_2 : Int32) (v_3 : Int32) (H : Heap) (locs : List Loc) (ls : Array Slot), va_P D cls [(h0, .inr (3, [.int fc, .ref h1, .ref h2, .ref h3])), (h1, .inl (dA 0, 16, .inl fg)), (h2, .inl (dA 0, 16, .inl fs)), (h3, .inl (dA 0, 16, .inl fm))] H → va_S noA s.heap H locs → lv_has ls 4 [(3, .int v_1), (2, .int v_2), (1, .int v_3), (0, .ref h0)] → f_X5_equalPairsFromRuns_L6 fc fm k n v_1 v_2 v_3 = some rr → (∀ (y_10 : Int32) (H : Heap) (locs : List Loc) (ls : Array Slot), va_P D cls [(h0, .inr (3, [.int fc, .ref h1, .ref h2, .ref h3])), (h1, .inl (dA 0, 16, .inl fg)), (h2, .inl (dA 0, 16, .inl fs)), (h3, .inl (dA 0, 16, .inl fm))] H → va_S noA s.heap H locs → lv_has ls 4 [(1, .int y_10)] → k y_10 = some rr → W p l e ({ frames := 0, cells := 0, slots := 0, locals := 0 } : Room) s m ([.ref h0] : List Value).toArray below meth c H locs 0 0 (MQ below (poPi rr) ([.ref h0] : List Value).toArray s 0 0 noA) (F0 m 62 ls [])) → W p l e ({ frames := 0, cells := 0, slots := 0, locals := 0 } : Room) s m ([.ref h0] : List Value).toArray below meth c H locs 0 0 (MQ below (poPi rr) ([.ref h0] : List Value).toArray s 0 0 noA) (F0 m 6 ls []) := by
    intro n k
    induction n with
    | zero =>
      intro v_1 v_2 v_3 H locs ls hP hS hl hf hk
      rw [f_X5_equalPairsFromRuns_L6] at hf
      cases hf
    | succ n ih =>
      intro v_1 v_2 v_3 H locs ls hP hS hl hf hk
      rw [f_X5_equalPairsFromRuns_L6] at hf
      refine lv_iload_n hx hb dX5_equalPairsFromRuns_6 rfl (lv_at hl 0 rfl) ?_
      refine lv_aload_n hx hb dX5_equalPairsFromRuns_7 rfl (lv_at hl 3 rfl) ?_
      refine gt_f (C := RX5) (T := TX5) (N := 4) hx hb ha in_X5 hown hK hP 0 rfl rfl 0 (by decide) m_189 rfl dX5_equalPairsFromRuns_8 ?_
      refine lv_icmp_ge (tgt := 62) hx hb dX5_equalPairsFromRuns_11 (by decide) (fun hc => ?_) (fun hc => ?_)
      · have hf := sf_bp hf hc
        exact hk _ _ _ _ hP hS (lv_sub hl [2] rfl) hf
      · have hf := sf_bn hf hc
        obtain ⟨x_4, ex_4, hf⟩ := sf_ne hf
        refine ii_nc (lv' := [(2, .int x_4), (3, .int v_1), (1, .int v_3), (0, .ref h0)]) (k := 1) hx hb dX5_equalPairsFromRuns_14 hl rfl ex_4 (by decide) (by decide) rfl (fun ls hl => ?_)
        refine lv_iload_n hx hb dX5_equalPairsFromRuns_17 rfl (lv_at hl 1 rfl) ?_
        refine lv_iconst (v := 1) hx hb dX5_equalPairsFromRuns_18 (by decide) ?_
        refine lv_iadd hx hb dX5_equalPairsFromRuns_19 ?_
        refine lv_aload_n hx hb dX5_equalPairsFromRuns_20 rfl (lv_at hl 3 rfl) ?_
        refine gt_f (C := RX5) (T := TX5) (N := 4) hx hb ha in_X5 hown hK hP 0 rfl rfl 0 (by decide) m_189 rfl dX5_equalPairsFromRuns_21 ?_
        refine lv_icmp_eq (tgt := 44) hx hb dX5_equalPairsFromRuns_24 (by decide) (fun hc => ?_) (fun hc => ?_)
        · have hf := sf_bp hf hc
          refine lv_iload_n hx hb dX5_equalPairsFromRuns_44 rfl (lv_at hl 2 rfl) ?_
          refine lv_iload_n hx hb dX5_equalPairsFromRuns_45 rfl (lv_at hl 0 rfl) ?_
          refine lv_iload_n hx hb dX5_equalPairsFromRuns_46 rfl (lv_at hl 0 rfl) ?_
          refine lv_iconst (v := 1) hx hb dX5_equalPairsFromRuns_47 (by decide) ?_
          refine lv_isub hx hb dX5_equalPairsFromRuns_48 ?_
          refine lv_imul hx hb dX5_equalPairsFromRuns_49 ?_
          refine lv_iconst (v := 2) hx hb dX5_equalPairsFromRuns_50 (by decide) ?_
          refine lv_idiv hx hb dX5_equalPairsFromRuns_51 (by decide) ?_
          refine lv_iadd hx hb dX5_equalPairsFromRuns_52 ?_
          obtain ⟨x_5, ex_5, hf⟩ := sf_ne hf
          refine tp_i ex_5 ?_
          refine lv_istore_n (lv' := [(1, .int x_5), (2, .int x_4), (3, .int v_1), (0, .ref h0)]) hx hb dX5_equalPairsFromRuns_53 rfl hl (by decide) rfl (fun ls hl => ?_)
          refine lv_iconst (v := 0) hx hb dX5_equalPairsFromRuns_54 (by decide) ?_
          refine lv_istore_n (lv' := [(2, .int (0 : Int32)), (1, .int x_5), (3, .int v_1), (0, .ref h0)]) hx hb dX5_equalPairsFromRuns_55 rfl hl (by decide) rfl (fun ls hl => ?_)
          obtain ⟨x_6, ex_6, hf⟩ := sf_ne hf
          refine ii_nc (lv' := [(3, .int x_6), (2, .int (0 : Int32)), (1, .int x_5), (0, .ref h0)]) (k := 2) hx hb dX5_equalPairsFromRuns_56 hl rfl ex_6 (by decide) (by decide) rfl (fun ls hl => ?_)
          refine lv_goto (tgt := 6) hx hb dX5_equalPairsFromRuns_59 (by decide) ?_
          exact ih _ _ _ _ _ _ hP hS (lv_sub hl [0, 1, 2, 3] rfl) hf hk
        · have hf := sf_bn hf hc
          refine lv_aload_n hx hb dX5_equalPairsFromRuns_27 rfl (lv_at hl 3 rfl) ?_
          refine gt_f (C := RX5) (T := TX5) (N := 4) hx hb ha in_X5 hown hK hP 0 rfl rfl 3 (by decide) m_195 rfl dX5_equalPairsFromRuns_28 ?_
          refine lv_iload_n hx hb dX5_equalPairsFromRuns_31 rfl (lv_at hl 1 rfl) ?_
          refine lv_iconst (v := 1) hx hb dX5_equalPairsFromRuns_32 (by decide) ?_
          refine lv_iadd hx hb dX5_equalPairsFromRuns_33 ?_
          obtain ⟨hi, hf⟩ := sf_ge hf
          refine ia_ld hx hb hK hP 3 rfl hi dX5_equalPairsFromRuns_34 ?_
          refine lv_aload_n hx hb dX5_equalPairsFromRuns_35 rfl (lv_at hl 3 rfl) ?_
          refine gt_f (C := RX5) (T := TX5) (N := 4) hx hb ha in_X5 hown hK hP 0 rfl rfl 3 (by decide) m_195 rfl dX5_equalPairsFromRuns_36 ?_
          refine lv_iload_n hx hb dX5_equalPairsFromRuns_39 rfl (lv_at hl 1 rfl) ?_
          obtain ⟨hi, hf⟩ := sf_ge hf
          refine ia_ld hx hb hK hP 3 rfl hi dX5_equalPairsFromRuns_40 ?_
          refine lv_icmp_eq (tgt := 56) hx hb dX5_equalPairsFromRuns_41 (by decide) (fun hc => ?_) (fun hc => ?_)
          · have hf := sf_bp hf hc
            obtain ⟨x_7, ex_7, hf⟩ := sf_ne hf
            refine ii_nc (lv' := [(3, .int x_7), (2, .int x_4), (1, .int v_3), (0, .ref h0)]) (k := 1) hx hb dX5_equalPairsFromRuns_56 hl rfl ex_7 (by decide) (by decide) rfl (fun ls hl => ?_)
            refine lv_goto (tgt := 6) hx hb dX5_equalPairsFromRuns_59 (by decide) ?_
            exact ih _ _ _ _ _ _ hP hS (lv_sub hl [0, 1, 2, 3] rfl) hf hk
          · have hf := sf_bn hf hc
            refine lv_iload_n hx hb dX5_equalPairsFromRuns_44 rfl (lv_at hl 2 rfl) ?_
            refine lv_iload_n hx hb dX5_equalPairsFromRuns_45 rfl (lv_at hl 0 rfl) ?_
            refine lv_iload_n hx hb dX5_equalPairsFromRuns_46 rfl (lv_at hl 0 rfl) ?_
            refine lv_iconst (v := 1) hx hb dX5_equalPairsFromRuns_47 (by decide) ?_
            refine lv_isub hx hb dX5_equalPairsFromRuns_48 ?_
            refine lv_imul hx hb dX5_equalPairsFromRuns_49 ?_
            refine lv_iconst (v := 2) hx hb dX5_equalPairsFromRuns_50 (by decide) ?_
            refine lv_idiv hx hb dX5_equalPairsFromRuns_51 (by decide) ?_
            refine lv_iadd hx hb dX5_equalPairsFromRuns_52 ?_
            obtain ⟨x_8, ex_8, hf⟩ := sf_ne hf
            refine tp_i ex_8 ?_
            refine lv_istore_n (lv' := [(1, .int x_8), (2, .int x_4), (3, .int v_1), (0, .ref h0)]) hx hb dX5_equalPairsFromRuns_53 rfl hl (by decide) rfl (fun ls hl => ?_)
            refine lv_iconst (v := 0) hx hb dX5_equalPairsFromRuns_54 (by decide) ?_
            refine lv_istore_n (lv' := [(2, .int (0 : Int32)), (1, .int x_8), (3, .int v_1), (0, .ref h0)]) hx hb dX5_equalPairsFromRuns_55 rfl hl (by decide) rfl (fun ls hl => ?_)
            obtain ⟨x_9, ex_9, hf⟩ := sf_ne hf
            refine ii_nc (lv' := [(3, .int x_9), (2, .int (0 : Int32)), (1, .int x_8), (0, .ref h0)]) (k := 2) hx hb dX5_equalPairsFromRuns_56 hl rfl ex_9 (by decide) (by decide) rfl (fun ls hl => ?_)
            refine lv_goto (tgt := 6) hx hb dX5_equalPairsFromRuns_59 (by decide) ?_
            exact ih _ _ _ _ _ _ hP hS (lv_sub hl [0, 1, 2, 3] rfl) hf hk
  refine hL6 _ _ _ _ _ _ _ _ hP hS (lv_sub hl [0, 1, 2, 3] rfl) hf (fun y_10 H locs ls hP hS hl hf => ?_)
  refine lv_iload_n hx hb dX5_equalPairsFromRuns_62 rfl (lv_at hl 0 rfl) ?_
  exact rt_Pi hx hb hr hlocks (Option.some.inj hf) hS dX5_equalPairsFromRuns_63

