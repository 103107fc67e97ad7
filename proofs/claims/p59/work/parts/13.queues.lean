def f_X9_copyFrom (ql : Nat → Int32) (qg : Nat → Int32) (o_ql : Nat → Int32) (o_qg : Nat → Int32) : Option ((Nat → Int32) × (Nat → Int32)) :=
  some (o_ql, o_qg)
theorem yd_X9_copyFrom : yX9_copyFrom.cls = RX9 ∧ yX9_copyFrom.cls ≠ "java/lang/invoke/MethodHandle" ∧ yX9_copyFrom.cls ≠ "java/lang/invoke/VarHandle" ∧ (parseMethodDescriptor yX9_copyFrom.desc).map (fun d => d.parameters.length) = some 1 := ⟨rfl, by decide, by decide, by decide +kernel⟩
set_option maxRecDepth 100000 in
set_option maxHeartbeats 4000000 in
theorem c_X9_copyFrom (l : Launch) (D : va_G) (dA : Nat → ClassId) (h0 h1 h2 h3 h4 h5 : Nat) (sz : Nat) (ql : Nat → Int32) (qg : Nat → Int32) (o_ql : Nat → Int32) (o_qg : Nat → Int32) (q_ql : Nat → Int32) (q_qg : Nat → Int32) (hf : f_X9_copyFrom ql qg o_ql o_qg = some (q_ql, q_qg)) : Met l yX9_copyFrom (wo (.code yX9_copyFrom cX9_copyFrom 2 none)) ({ frames := 1, cells := 0, slots := 0, locals := 90 } : Room) (preM D dA [.ref h0, .ref h3] sz [(h0, .inr (7, [.ref h1, .ref h2])), (h1, .inl (dA 0, 4, .inl ql)), (h2, .inl (dA 0, 20, .inl qg)), (h3, .inr (7, [.ref h4, .ref h5])), (h4, .inl (dA 0, 4, .inl o_ql)), (h5, .inl (dA 0, 20, .inl o_qg))]) (poMv D [(h0, .inr (7, [.ref h1, .ref h2])), (h1, .inl (dA 0, 4, .inl q_ql)), (h2, .inl (dA 0, 20, .inl q_qg)), (h3, .inr (7, [.ref h4, .ref h5])), (h4, .inl (dA 0, 4, .inl o_ql)), (h5, .inl (dA 0, 20, .inl o_qg))] (va_A [(h0, .inr (7, [.ref h1, .ref h2])), (h1, .inl (dA 0, 4, .inl ql)), (h2, .inl (dA 0, 20, .inl qg)), (h3, .inr (7, [.ref h4, .ref h5])), (h4, .inl (dA 0, 4, .inl o_ql)), (h5, .inl (dA 0, 20, .inl o_qg))] sz)) 0 0 (va_A [(h0, .inr (7, [.ref h1, .ref h2])), (h1, .inl (dA 0, 4, .inl ql)), (h2, .inl (dA 0, 20, .inl qg)), (h3, .inr (7, [.ref h4, .ref h5])), (h4, .inl (dA 0, 4, .inl o_ql)), (h5, .inl (dA 0, 20, .inl o_qg))] sz) := by
  refine of_M (y := yX9_copyFrom) (cc := cX9_copyFrom) (maxL := 2) (ret := none) (av := [.ref h0, .ref h3]) (ws := [(h0, .inr (7, [.ref h1, .ref h2])), (h1, .inl (dA 0, 4, .inl ql)), (h2, .inl (dA 0, 20, .inl qg)), (h3, .inr (7, [.ref h4, .ref h5])), (h4, .inl (dA 0, 4, .inl o_ql)), (h5, .inl (dA 0, 20, .inl o_qg))]) (sz := sz) (own := RX9) (Qc := poMv D [(h0, .inr (7, [.ref h1, .ref h2])), (h1, .inl (dA 0, 4, .inl q_ql)), (h2, .inl (dA 0, 20, .inl q_qg)), (h3, .inr (7, [.ref h4, .ref h5])), (h4, .inl (dA 0, 4, .inl o_ql)), (h5, .inl (dA 0, 20, .inl o_qg))]) (by decide) rfl (Nat.le_of_ble_eq_true rfl) ?_
  intro p e s m below meth c A hx hb hr ha hown hml hlocks hin hP hK hD hS hA ls hl
  have hl : lv_has ls 2 [(0, .ref h0), (1, .ref h3)] := hl
  rw [f_X9_copyFrom] at hf
  refine lv_aload_n hx hb dX9_copyFrom_0 rfl (lv_at hl 1 rfl) ?_
  refine gt_f (C := RX9) (T := TX9) (N := 2) hx hb ha in_X9 hown hK hP 3 rfl rfl 0 (by decide) m_174 rfl dX9_copyFrom_1 ?_
  refine lv_iconst (v := 0) hx hb dX9_copyFrom_4 (by decide) ?_
  refine lv_aload_n hx hb dX9_copyFrom_5 rfl (lv_at hl 0 rfl) ?_
  refine gt_f (C := RX9) (T := TX9) (N := 2) hx hb ha in_X9 hown hK hP 0 rfl rfl 0 (by decide) m_174 rfl dX9_copyFrom_6 ?_
  refine lv_iconst (v := 0) hx hb dX9_copyFrom_9 (by decide) ?_
  refine lv_iconst (v := 4) hx hb dX9_copyFrom_10 (by decide) ?_
  refine cp_if (ws' := [(h0, .inr (7, [.ref h1, .ref h2])), (h1, .inl (dA 0, 4, .inl o_ql)), (h2, .inl (dA 0, 20, .inl qg)), (h3, .inr (7, [.ref h4, .ref h5])), (h4, .inl (dA 0, 4, .inl o_ql)), (h5, .inl (dA 0, 20, .inl o_qg))]) hx hb ha hown hml hl.1 m_402 m_387 m_386 m_45 hK hP hD hS 4 1 rfl rfl (by decide) rfl ⟨Nat.le_of_ble_eq_true rfl, Nat.le_of_ble_eq_true rfl⟩ dX9_copyFrom_11 (fun H locs hP hD hS => ?_)
  refine lv_aload_n hx hb dX9_copyFrom_14 rfl (lv_at hl 1 rfl) ?_
  refine gt_f (C := RX9) (T := TX9) (N := 2) hx hb ha in_X9 hown hK hP 3 rfl rfl 1 (by decide) m_177 rfl dX9_copyFrom_15 ?_
  refine lv_iconst (v := 0) hx hb dX9_copyFrom_18 (by decide) ?_
  refine lv_aload_n hx hb dX9_copyFrom_19 rfl (lv_at hl 0 rfl) ?_
  refine gt_f (C := RX9) (T := TX9) (N := 2) hx hb ha in_X9 hown hK hP 0 rfl rfl 1 (by decide) m_177 rfl dX9_copyFrom_20 ?_
  refine lv_iconst (v := 0) hx hb dX9_copyFrom_23 (by decide) ?_
  refine lv_bipush (v := 20) hx hb dX9_copyFrom_24 (by decide) ?_
  refine cp_if (ws' := [(h0, .inr (7, [.ref h1, .ref h2])), (h1, .inl (dA 0, 4, .inl o_ql)), (h2, .inl (dA 0, 20, .inl o_qg)), (h3, .inr (7, [.ref h4, .ref h5])), (h4, .inl (dA 0, 4, .inl o_ql)), (h5, .inl (dA 0, 20, .inl o_qg))]) hx hb ha hown hml hl.1 m_402 m_387 m_386 m_45 hK hP hD hS 5 2 rfl rfl (by decide) rfl ⟨Nat.le_of_ble_eq_true rfl, Nat.le_of_ble_eq_true rfl⟩ dX9_copyFrom_26 (fun H locs hP hD hS => ?_)
  cases hf
  exact rt_Mv hx hb hr hlocks (hP.sub [0, 1, 2, 3, 4, 5] rfl) (hD.sub [0, 1, 2, 3, 4, 5] (by decide) rfl) hS dX9_copyFrom_29

def f_X9_isFull (ql : Nat → Int32) (p0 : Int32) : Option Int32 :=
  sf_g (sf_in p0 4 = true) (sf_b ((ql p0.toNatClampNeg) < (5 : Int32)) (some (0 : Int32)) (some (1 : Int32)))
theorem yd_X9_isFull : yX9_isFull.cls = RX9 ∧ yX9_isFull.cls ≠ "java/lang/invoke/MethodHandle" ∧ yX9_isFull.cls ≠ "java/lang/invoke/VarHandle" ∧ (parseMethodDescriptor yX9_isFull.desc).map (fun d => d.parameters.length) = some 1 := ⟨rfl, by decide, by decide, by decide +kernel⟩
set_option maxRecDepth 100000 in
set_option maxHeartbeats 4000000 in
theorem c_X9_isFull (l : Launch) (D : va_G) (dA : Nat → ClassId) (h0 h1 h2 : Nat) (ql : Nat → Int32) (qg : Nat → Int32) (p0 : Int32) (rr : Int32) (hf : f_X9_isFull ql p0 = some rr) : Met l yX9_isFull (wo (.code yX9_isFull cX9_isFull 2 (some .boolean))) ({ frames := 0, cells := 0, slots := 0, locals := 0 } : Room) (preP D dA [.ref h0, .int p0] [(h0, .inr (7, [.ref h1, .ref h2])), (h1, .inl (dA 0, 4, .inl ql)), (h2, .inl (dA 0, 20, .inl qg))]) (poPi rr) 0 0 noA := by
  refine of_P (own := RX9) (by decide) rfl (Nat.le_of_ble_eq_true rfl) ?_
  intro p e s m below meth c hx hb hr ha hown hml hlocks hP hK hS ls hl
  have hl : lv_has ls 2 [(0, .ref h0), (1, .int p0)] := hl
  rw [f_X9_isFull] at hf
  refine lv_aload_n hx hb dX9_isFull_0 rfl (lv_at hl 0 rfl) ?_
  refine gt_f (C := RX9) (T := TX9) (N := 2) hx hb ha in_X9 hown hK hP 0 rfl rfl 0 (by decide) m_174 rfl dX9_isFull_1 ?_
  refine lv_iload_n hx hb dX9_isFull_4 rfl (lv_at hl 1 rfl) ?_
  obtain ⟨hi, hf⟩ := sf_ge hf
  refine ia_ld hx hb hK hP 1 rfl hi dX9_isFull_5 ?_
  refine lv_iconst (v := 5) hx hb dX9_isFull_6 (by decide) ?_
  refine lv_icmp_lt (tgt := 14) hx hb dX9_isFull_7 (by decide) (fun hc => ?_) (fun hc => ?_)
  · have hf := sf_bp hf hc
    refine lv_iconst (v := 0) hx hb dX9_isFull_14 (by decide) ?_
    exact rt_Pz hx hb hr hlocks (Option.some.inj hf) rfl hS dX9_isFull_15
  · have hf := sf_bn hf hc
    refine lv_iconst (v := 1) hx hb dX9_isFull_10 (by decide) ?_
    refine lv_goto (tgt := 15) hx hb dX9_isFull_11 (by decide) ?_
    exact rt_Pz hx hb hr hlocks (Option.some.inj hf) rfl hS dX9_isFull_15

def f_X9_guestAt (qg : Nat → Int32) (p0 : Int32) (p1 : Int32) : Option Int32 :=
  sf_g (sf_in ((p0 * (5 : Int32)) + p1) 20 = true) (some (qg ((p0 * (5 : Int32)) + p1).toNatClampNeg))
theorem yd_X9_guestAt : yX9_guestAt.cls = RX9 ∧ yX9_guestAt.cls ≠ "java/lang/invoke/MethodHandle" ∧ yX9_guestAt.cls ≠ "java/lang/invoke/VarHandle" ∧ (parseMethodDescriptor yX9_guestAt.desc).map (fun d => d.parameters.length) = some 2 := ⟨rfl, by decide, by decide, by decide +kernel⟩
set_option maxRecDepth 100000 in
set_option maxHeartbeats 4000000 in
theorem c_X9_guestAt (l : Launch) (D : va_G) (dA : Nat → ClassId) (h0 h1 h2 : Nat) (ql : Nat → Int32) (qg : Nat → Int32) (p0 : Int32) (p1 : Int32) (rr : Int32) (hf : f_X9_guestAt qg p0 p1 = some rr) : Met l yX9_guestAt (wo (.code yX9_guestAt cX9_guestAt 3 (some .int))) ({ frames := 0, cells := 0, slots := 0, locals := 0 } : Room) (preP D dA [.ref h0, .int p0, .int p1] [(h0, .inr (7, [.ref h1, .ref h2])), (h1, .inl (dA 0, 4, .inl ql)), (h2, .inl (dA 0, 20, .inl qg))]) (poPi rr) 0 0 noA := by
  refine of_P (own := RX9) (by decide) rfl (Nat.le_of_ble_eq_true rfl) ?_
  intro p e s m below meth c hx hb hr ha hown hml hlocks hP hK hS ls hl
  have hl : lv_has ls 3 [(0, .ref h0), (1, .int p0), (2, .int p1)] := hl
  rw [f_X9_guestAt] at hf
  refine lv_aload_n hx hb dX9_guestAt_0 rfl (lv_at hl 0 rfl) ?_
  refine gt_f (C := RX9) (T := TX9) (N := 2) hx hb ha in_X9 hown hK hP 0 rfl rfl 1 (by decide) m_177 rfl dX9_guestAt_1 ?_
  refine lv_iload_n hx hb dX9_guestAt_4 rfl (lv_at hl 1 rfl) ?_
  refine lv_iconst (v := 5) hx hb dX9_guestAt_5 (by decide) ?_
  refine lv_imul hx hb dX9_guestAt_6 ?_
  refine lv_iload_n hx hb dX9_guestAt_7 rfl (lv_at hl 2 rfl) ?_
  refine lv_iadd hx hb dX9_guestAt_8 ?_
  obtain ⟨hi, hf⟩ := sf_ge hf
  refine ia_ld hx hb hK hP 2 rfl hi dX9_guestAt_9 ?_
  exact rt_Pi hx hb hr hlocks (Option.some.inj hf) hS dX9_guestAt_10

def f_X9_slideOf_L9 (ql : Nat → Int32) (qg : Nat → Int32) (p0 : Int32) (v_1 : Int32) (k : Unit → Option Int32) : Nat → Int32 → Option Int32
  | 0, _ => none
  | n + 1, v_2 => sf_g (sf_in v_1 4 = true) (sf_b ((ql v_1.toNatClampNeg) ≤ v_2) (k ()) (sf_c1 (f_X9_guestAt qg v_1 v_2) (fun r_3 => sf_b (r_3 = p0) (some v_1) (sf_n (v_2 + (1 : Int32)) (fun x_4 => f_X9_slideOf_L9 ql qg p0 v_1 k n x_4)))))
def f_X9_slideOf_L2 (ql : Nat → Int32) (qg : Nat → Int32) (p0 : Int32) (k : Unit → Option Int32) : Nat → Int32 → Option Int32
  | 0, _ => none
  | n + 1, v_1 => sf_b ((4 : Int32) ≤ v_1) (k ()) (f_X9_slideOf_L9 ql qg p0 v_1 (fun _ => sf_n (v_1 + (1 : Int32)) (fun x_5 => f_X9_slideOf_L2 ql qg p0 k n x_5)) 2000 (0 : Int32))
def f_X9_slideOf (ql : Nat → Int32) (qg : Nat → Int32) (p0 : Int32) : Option Int32 :=
  f_X9_slideOf_L2 ql qg p0 (fun _ => some (-1 : Int32)) 2000 (0 : Int32)
theorem yd_X9_slideOf : yX9_slideOf.cls = RX9 ∧ yX9_slideOf.cls ≠ "java/lang/invoke/MethodHandle" ∧ yX9_slideOf.cls ≠ "java/lang/invoke/VarHandle" ∧ (parseMethodDescriptor yX9_slideOf.desc).map (fun d => d.parameters.length) = some 1 := ⟨rfl, by decide, by decide, by decide +kernel⟩
set_option maxRecDepth 100000 in
set_option maxHeartbeats 4000000 in
theorem c_X9_slideOf (l : Launch) (D : va_G) (dA : Nat → ClassId) (h0 h1 h2 : Nat) (ql : Nat → Int32) (qg : Nat → Int32) (p0 : Int32) (rr : Int32) (hf : f_X9_slideOf ql qg p0 = some rr) : Met l yX9_slideOf (wo (.code yX9_slideOf cX9_slideOf 4 (some .int))) ({ frames := 1, cells := 0, slots := 0, locals := 22 } : Room) (preP D dA [.ref h0, .int p0] [(h0, .inr (7, [.ref h1, .ref h2])), (h1, .inl (dA 0, 4, .inl ql)), (h2, .inl (dA 0, 20, .inl qg))]) (poPi rr) 0 0 noA := by
  refine of_P (own := RX9) (by decide) rfl (Nat.le_of_ble_eq_true rfl) ?_
  intro p e s m below meth c hx hb hr ha hown hml hlocks hP hK hS ls hl
  have hl : lv_has ls 4 [(0, .ref h0), (1, .int p0)] := hl
  rw [f_X9_slideOf] at hf
  refine lv_iconst (v := 0) hx hb dX9_slideOf_0 (by decide) ?_
  refine lv_istore_n (lv' := [(2, .int (0 : Int32)), (0, .ref h0), (1, .int p0)]) hx hb dX9_slideOf_1 rfl hl (by decide) rfl (fun ls hl => ?_)
  have hL2 : ∀ (n : Nat) (k : Unit → Option Int32) (v_1 : Int32) (H : Heap) (locs : List Loc) (ls : Array Slot), va_P D cls [(h0, .inr (7, [.ref h1, .ref h2])), (h1, .inl (dA 0, 4, .inl ql)), (h2, .inl (dA 0, 20, .inl qg))] H → va_S noA s.heap H locs → lv_has ls 4 [(2, .int v_1), (0, .ref h0), (1, .int p0)] → f_X9_slideOf_L2 ql qg p0 k n v_1 = some rr → (∀ (H : Heap) (locs : List Loc) (ls : Array Slot), va_P D cls [(h0, .inr (7, [.ref h1, .ref h2])), (h1, .inl (dA 0, 4, .inl ql)), (h2, .inl (dA 0, 20, .inl qg))] H → va_S noA s.heap H locs → lv_has ls 4 [] → k () = some rr → W p l e ({ frames := 1, cells := 0, slots := 0, locals := 22 } : Room) s m ([.ref h0, .int p0] : List Value).toArray below meth c H locs 0 0 (MQ below (poPi rr) ([.ref h0, .int p0] : List Value).toArray s 0 0 noA) (F0 m 43 ls [])) → W p l e ({ frames := 1, cells := 0, slots := 0, locals := 22 } : Room) s m ([.ref h0, .int p0] : List Value).toArray below meth c H locs 0 0 (MQ below (poPi rr) ([.ref h0, .int p0] : List Value).toArray s 0 0 noA) (F0 m 2 ls []) := by
    intro n k
    induction n with
    | zero =>
      intro v_1 H locs ls hP hS hl hf hk
      rw [f_X9_slideOf_L2] at hf
      cases hf
    | succ n ih =>
      intro v_1 H locs ls hP hS hl hf hk
      rw [f_X9_slideOf_L2] at hf
      refine lv_iload_n hx hb dX9_slideOf_2 rfl (lv_at hl 0 rfl) ?_
      refine lv_iconst (v := 4) hx hb dX9_slideOf_3 (by decide) ?_
      refine lv_icmp_ge (tgt := 43) hx hb dX9_slideOf_4 (by decide) (fun hc => ?_) (fun hc => ?_)
      · have hf := sf_bp hf hc
        exact hk _ _ _ hP hS (lv_sub hl [] rfl) hf
      · have hf := sf_bn hf hc
        refine lv_iconst (v := 0) hx hb dX9_slideOf_7 (by decide) ?_
        refine lv_istore_n (lv' := [(3, .int (0 : Int32)), (2, .int v_1), (0, .ref h0), (1, .int p0)]) hx hb dX9_slideOf_8 rfl hl (by decide) rfl (fun ls hl => ?_)
        have hL9 : ∀ (n : Nat) (k : Unit → Option Int32) (v_2 : Int32) (H : Heap) (locs : List Loc) (ls : Array Slot), va_P D cls [(h0, .inr (7, [.ref h1, .ref h2])), (h1, .inl (dA 0, 4, .inl ql)), (h2, .inl (dA 0, 20, .inl qg))] H → va_S noA s.heap H locs → lv_has ls 4 [(3, .int v_2), (2, .int v_1), (0, .ref h0), (1, .int p0)] → f_X9_slideOf_L9 ql qg p0 v_1 k n v_2 = some rr → (∀ (H : Heap) (locs : List Loc) (ls : Array Slot), va_P D cls [(h0, .inr (7, [.ref h1, .ref h2])), (h1, .inl (dA 0, 4, .inl ql)), (h2, .inl (dA 0, 20, .inl qg))] H → va_S noA s.heap H locs → lv_has ls 4 [(2, .int v_1), (0, .ref h0), (1, .int p0)] → k () = some rr → W p l e ({ frames := 1, cells := 0, slots := 0, locals := 22 } : Room) s m ([.ref h0, .int p0] : List Value).toArray below meth c H locs 0 0 (MQ below (poPi rr) ([.ref h0, .int p0] : List Value).toArray s 0 0 noA) (F0 m 37 ls [])) → W p l e ({ frames := 1, cells := 0, slots := 0, locals := 22 } : Room) s m ([.ref h0, .int p0] : List Value).toArray below meth c H locs 0 0 (MQ below (poPi rr) ([.ref h0, .int p0] : List Value).toArray s 0 0 noA) (F0 m 9 ls []) := by
          intro n k
          induction n with
          | zero =>
            intro v_2 H locs ls hP hS hl hf hk
            rw [f_X9_slideOf_L9] at hf
            cases hf
          | succ n ih =>
            intro v_2 H locs ls hP hS hl hf hk
            rw [f_X9_slideOf_L9] at hf
            refine lv_iload_n hx hb dX9_slideOf_9 rfl (lv_at hl 0 rfl) ?_
            refine lv_aload_n hx hb dX9_slideOf_10 rfl (lv_at hl 2 rfl) ?_
            refine gt_f (C := RX9) (T := TX9) (N := 2) hx hb ha in_X9 hown hK hP 0 rfl rfl 0 (by decide) m_174 rfl dX9_slideOf_11 ?_
            refine lv_iload_n hx hb dX9_slideOf_14 rfl (lv_at hl 1 rfl) ?_
            obtain ⟨hi, hf⟩ := sf_ge hf
            refine ia_ld hx hb hK hP 1 rfl hi dX9_slideOf_15 ?_
            refine lv_icmp_ge (tgt := 37) hx hb dX9_slideOf_16 (by decide) (fun hc => ?_) (fun hc => ?_)
            · have hf := sf_bp hf hc
              exact hk _ _ _ hP hS (lv_sub hl [1, 2, 3] rfl) hf
            · have hf := sf_bn hf hc
              refine lv_aload_n hx hb dX9_slideOf_19 rfl (lv_at hl 2 rfl) ?_
              refine lv_iload_n hx hb dX9_slideOf_20 rfl (lv_at hl 1 rfl) ?_
              refine lv_iload_n hx hb dX9_slideOf_21 rfl (lv_at hl 0 rfl) ?_
              obtain ⟨r_3, hc3, hf⟩ := sf_c1e hf
              refine k_Pi (run_PV (As := [.int v_1, .int v_2]) (rest := []) ⟨hx, hb, hml, hown, ha⟩ (c_X9_guestAt l D dA h0 h1 h2  ql qg v_1 v_2 _ hc3) (gi_V m_669 m_670 m_671 m_36 m_672) yd_X9_guestAt ⟨Nat.le_of_ble_eq_true rfl, Nat.le_of_ble_eq_true rfl⟩ ⟨rfl, rfl⟩ hK hP [0, 1, 2] rfl 0 7 rfl rfl rfl rfl hl.1 rfl (Nat.le_of_ble_eq_true rfl) dX9_slideOf_22 ⟨Nat.le_of_ble_eq_true rfl, Nat.le_of_ble_eq_true rfl⟩) hP hS (fun H locs hP hS => ?_)
              refine lv_iload_n hx hb dX9_slideOf_25 rfl (lv_at hl 3 rfl) ?_
              refine lv_icmp_ne (tgt := 31) hx hb dX9_slideOf_26 (by decide) (fun hc => ?_) (fun hc => ?_)
              · have hf := sf_bn hf hc
                obtain ⟨x_4, ex_4, hf⟩ := sf_ne hf
                refine ii_nc (lv' := [(3, .int x_4), (2, .int v_1), (0, .ref h0), (1, .int p0)]) (k := 0) hx hb dX9_slideOf_31 hl rfl ex_4 (by decide) (by decide) rfl (fun ls hl => ?_)
                refine lv_goto (tgt := 9) hx hb dX9_slideOf_34 (by decide) ?_
                exact ih _ _ _ _ hP hS (lv_sub hl [0, 1, 2, 3] rfl) hf hk
              · have hf := sf_bp hf hc
                refine lv_iload_n hx hb dX9_slideOf_29 rfl (lv_at hl 1 rfl) ?_
                exact rt_Pi hx hb hr hlocks (Option.some.inj hf) hS dX9_slideOf_30
        refine hL9 _ _ _ _ _ _ hP hS (lv_sub hl [0, 1, 2, 3] rfl) hf (fun  H locs ls hP hS hl hf => ?_)
        obtain ⟨x_5, ex_5, hf⟩ := sf_ne hf
        refine ii_nc (lv' := [(2, .int x_5), (0, .ref h0), (1, .int p0)]) (k := 0) hx hb dX9_slideOf_37 hl rfl ex_5 (by decide) (by decide) rfl (fun ls hl => ?_)
        refine lv_goto (tgt := 2) hx hb dX9_slideOf_40 (by decide) ?_
        exact ih _ _ _ _ hP hS (lv_sub hl [0, 1, 2] rfl) hf hk
  refine hL2 _ _ _ _ _ _ hP hS (lv_sub hl [0, 1, 2] rfl) hf (fun  H locs ls hP hS hl hf => ?_)
  refine lv_iconst (v := -1) hx hb dX9_slideOf_43 (by decide) ?_
  exact rt_Pi hx hb hr hlocks (Option.some.inj hf) hS dX9_slideOf_44

def f_X9_append (ql : Nat → Int32) (qg : Nat → Int32) (p0 : Int32) (p1 : Int32) : Option ((Nat → Int32) × (Nat → Int32)) :=
  sf_g (sf_in p0 4 = true) (sf_g (sf_in ((p0 * (5 : Int32)) + (ql p0.toNatClampNeg)) 20 = true) (sf_n (upd qg ((p0 * (5 : Int32)) + (ql p0.toNatClampNeg)).toNatClampNeg p1) (fun a_1 => sf_g (sf_in p0 4 = true) (sf_g (sf_in p0 4 = true) (sf_n (upd ql p0.toNatClampNeg ((ql p0.toNatClampNeg) + (1 : Int32))) (fun a_2 => some (a_2, a_1)))))))
theorem yd_X9_append : yX9_append.cls = RX9 ∧ yX9_append.cls ≠ "java/lang/invoke/MethodHandle" ∧ yX9_append.cls ≠ "java/lang/invoke/VarHandle" ∧ (parseMethodDescriptor yX9_append.desc).map (fun d => d.parameters.length) = some 2 := ⟨rfl, by decide, by decide, by decide +kernel⟩
set_option maxRecDepth 100000 in
set_option maxHeartbeats 4000000 in
theorem c_X9_append (l : Launch) (D : va_G) (dA : Nat → ClassId) (h0 h1 h2 : Nat) (sz : Nat) (ql : Nat → Int32) (qg : Nat → Int32) (p0 : Int32) (p1 : Int32) (q_ql : Nat → Int32) (q_qg : Nat → Int32) (hf : f_X9_append ql qg p0 p1 = some (q_ql, q_qg)) : Met l yX9_append (wo (.code yX9_append cX9_append 3 none)) ({ frames := 0, cells := 0, slots := 0, locals := 0 } : Room) (preM D dA [.ref h0, .int p0, .int p1] sz [(h0, .inr (7, [.ref h1, .ref h2])), (h1, .inl (dA 0, 4, .inl ql)), (h2, .inl (dA 0, 20, .inl qg))]) (poMv D [(h0, .inr (7, [.ref h1, .ref h2])), (h1, .inl (dA 0, 4, .inl q_ql)), (h2, .inl (dA 0, 20, .inl q_qg))] (va_A [(h0, .inr (7, [.ref h1, .ref h2])), (h1, .inl (dA 0, 4, .inl ql)), (h2, .inl (dA 0, 20, .inl qg))] sz)) 0 0 (va_A [(h0, .inr (7, [.ref h1, .ref h2])), (h1, .inl (dA 0, 4, .inl ql)), (h2, .inl (dA 0, 20, .inl qg))] sz) := by
  refine of_M (y := yX9_append) (cc := cX9_append) (maxL := 3) (ret := none) (av := [.ref h0, .int p0, .int p1]) (ws := [(h0, .inr (7, [.ref h1, .ref h2])), (h1, .inl (dA 0, 4, .inl ql)), (h2, .inl (dA 0, 20, .inl qg))]) (sz := sz) (own := RX9) (Qc := poMv D [(h0, .inr (7, [.ref h1, .ref h2])), (h1, .inl (dA 0, 4, .inl q_ql)), (h2, .inl (dA 0, 20, .inl q_qg))]) (by decide) rfl (Nat.le_of_ble_eq_true rfl) ?_
  intro p e s m below meth c A hx hb hr ha hown hml hlocks hin hP hK hD hS hA ls hl
  have hl : lv_has ls 3 [(0, .ref h0), (1, .int p0), (2, .int p1)] := hl
  rw [f_X9_append] at hf
  refine lv_aload_n hx hb dX9_append_0 rfl (lv_at hl 0 rfl) ?_
  refine gt_f (C := RX9) (T := TX9) (N := 2) hx hb ha in_X9 hown hK hP 0 rfl rfl 1 (by decide) m_177 rfl dX9_append_1 ?_
  refine lv_iload_n hx hb dX9_append_4 rfl (lv_at hl 1 rfl) ?_
  refine lv_iconst (v := 5) hx hb dX9_append_5 (by decide) ?_
  refine lv_imul hx hb dX9_append_6 ?_
  refine lv_aload_n hx hb dX9_append_7 rfl (lv_at hl 0 rfl) ?_
  refine gt_f (C := RX9) (T := TX9) (N := 2) hx hb ha in_X9 hown hK hP 0 rfl rfl 0 (by decide) m_174 rfl dX9_append_8 ?_
  refine lv_iload_n hx hb dX9_append_11 rfl (lv_at hl 1 rfl) ?_
  obtain ⟨hi, hf⟩ := sf_ge hf
  refine ia_ld hx hb hK hP 1 rfl hi dX9_append_12 ?_
  refine lv_iadd hx hb dX9_append_13 ?_
  refine lv_iload_n hx hb dX9_append_14 rfl (lv_at hl 2 rfl) ?_
  obtain ⟨hi, hf⟩ := sf_ge hf
  obtain ⟨a_1, ea_1, hf⟩ := sf_ne hf
  refine ia_st (ws' := [(h0, .inr (7, [.ref h1, .ref h2])), (h1, .inl (dA 0, 4, .inl ql)), (h2, .inl (dA 0, 20, .inl a_1))]) hx hb hK hP hD hS 2 rfl hi ea_1 rfl dX9_append_15 (fun H locs hP hD hS => ?_)
  refine lv_aload_n hx hb dX9_append_16 rfl (lv_at hl 0 rfl) ?_
  refine gt_f (C := RX9) (T := TX9) (N := 2) hx hb ha in_X9 hown hK hP 0 rfl rfl 0 (by decide) m_174 rfl dX9_append_17 ?_
  refine lv_iload_n hx hb dX9_append_20 rfl (lv_at hl 1 rfl) ?_
  refine lv_dup2_11 hx hb dX9_append_21 rfl rfl ?_
  obtain ⟨hi, hf⟩ := sf_ge hf
  refine ia_ld hx hb hK hP 1 rfl hi dX9_append_22 ?_
  refine lv_iconst (v := 1) hx hb dX9_append_23 (by decide) ?_
  refine lv_iadd hx hb dX9_append_24 ?_
  obtain ⟨hi, hf⟩ := sf_ge hf
  obtain ⟨a_2, ea_2, hf⟩ := sf_ne hf
  refine ia_st (ws' := [(h0, .inr (7, [.ref h1, .ref h2])), (h1, .inl (dA 0, 4, .inl a_2)), (h2, .inl (dA 0, 20, .inl a_1))]) hx hb hK hP hD hS 1 rfl hi ea_2 rfl dX9_append_25 (fun H locs hP hD hS => ?_)
  cases hf
  exact rt_Mv hx hb hr hlocks (hP.sub [0, 1, 2] rfl) (hD.sub [0, 1, 2] (by decide) rfl) hS dX9_append_26

def f_X9_remove_L10 (ql : Nat → Int32) (p0 : Int32) (p1 : Int32) (x_1 : Int32) (k : Int32 → (Nat → Int32) → Option ((Nat → Int32) × (Nat → Int32))) : Nat → Int32 → Int32 → (Nat → Int32) → Option ((Nat → Int32) × (Nat → Int32))
  | 0, _, _, _ => none
  | n + 1, v_2, v_3, w_4 => sf_g (sf_in p0 4 = true) (sf_b ((ql p0.toNatClampNeg) ≤ v_2) (k v_3 w_4) (sf_g (sf_in (x_1 + v_2) 20 = true) (sf_b ((w_4 (x_1 + v_2).toNatClampNeg) = p1) (sf_n (v_2 + (1 : Int32)) (fun x_5 => f_X9_remove_L10 ql p0 p1 x_1 k n x_5 v_3 w_4)) (sf_g (sf_in (x_1 + v_2) 20 = true) (sf_g (sf_in (x_1 + v_3) 20 = true) (sf_n (upd w_4 (x_1 + v_3).toNatClampNeg (w_4 (x_1 + v_2).toNatClampNeg)) (fun a_6 => sf_n (v_3 + (1 : Int32)) (fun x_7 => sf_n (v_2 + (1 : Int32)) (fun x_8 => f_X9_remove_L10 ql p0 p1 x_1 k n x_8 x_7 a_6)))))))))
def f_X9_remove (ql : Nat → Int32) (qg : Nat → Int32) (p0 : Int32) (p1 : Int32) : Option ((Nat → Int32) × (Nat → Int32)) :=
  sf_n ((p0 * (5 : Int32))) (fun x_1 => f_X9_remove_L10 ql p0 p1 x_1 (fun y_9 z_10 => sf_g (sf_in p0 4 = true) (sf_n (upd ql p0.toNatClampNeg y_9) (fun a_11 => some (a_11, z_10)))) 2000 (0 : Int32) (0 : Int32) qg)
theorem yd_X9_remove : yX9_remove.cls = RX9 ∧ yX9_remove.cls ≠ "java/lang/invoke/MethodHandle" ∧ yX9_remove.cls ≠ "java/lang/invoke/VarHandle" ∧ (parseMethodDescriptor yX9_remove.desc).map (fun d => d.parameters.length) = some 2 := ⟨rfl, by decide, by decide, by decide +kernel⟩
set_option maxRecDepth 100000 in
set_option maxHeartbeats 4000000 in
theorem c_X9_remove (l : Launch) (D : va_G) (dA : Nat → ClassId) (h0 h1 h2 : Nat) (sz : Nat) (ql : Nat → Int32) (qg : Nat → Int32) (p0 : Int32) (p1 : Int32) (q_ql : Nat → Int32) (q_qg : Nat → Int32) (hf : f_X9_remove ql qg p0 p1 = some (q_ql, q_qg)) : Met l yX9_remove (wo (.code yX9_remove cX9_remove 6 none)) ({ frames := 0, cells := 0, slots := 0, locals := 0 } : Room) (preM D dA [.ref h0, .int p0, .int p1] sz [(h0, .inr (7, [.ref h1, .ref h2])), (h1, .inl (dA 0, 4, .inl ql)), (h2, .inl (dA 0, 20, .inl qg))]) (poMv D [(h0, .inr (7, [.ref h1, .ref h2])), (h1, .inl (dA 0, 4, .inl q_ql)), (h2, .inl (dA 0, 20, .inl q_qg))] (va_A [(h0, .inr (7, [.ref h1, .ref h2])), (h1, .inl (dA 0, 4, .inl ql)), (h2, .inl (dA 0, 20, .inl qg))] sz)) 0 0 (va_A [(h0, .inr (7, [.ref h1, .ref h2])), (h1, .inl (dA 0, 4, .inl ql)), (h2, .inl (dA 0, 20, .inl qg))] sz) := by
  refine of_M (y := yX9_remove) (cc := cX9_remove) (maxL := 6) (ret := none) (av := [.ref h0, .int p0, .int p1]) (ws := [(h0, .inr (7, [.ref h1, .ref h2])), (h1, .inl (dA 0, 4, .inl ql)), (h2, .inl (dA 0, 20, .inl qg))]) (sz := sz) (own := RX9) (Qc := poMv D [(h0, .inr (7, [.ref h1, .ref h2])), (h1, .inl (dA 0, 4, .inl q_ql)), (h2, .inl (dA 0, 20, .inl q_qg))]) (by decide) rfl (Nat.le_of_ble_eq_true rfl) ?_
  intro p e s m below meth c A hx hb hr ha hown hml hlocks hin hP hK hD hS hA ls hl
  have hl : lv_has ls 6 [(0, .ref h0), (1, .int p0), (2, .int p1)] := hl
  rw [f_X9_remove] at hf
  refine lv_iload_n hx hb dX9_remove_0 rfl (lv_at hl 1 rfl) ?_
  refine lv_iconst (v := 5) hx hb dX9_remove_1 (by decide) ?_
  refine lv_imul hx hb dX9_remove_2 ?_
  obtain ⟨x_1, ex_1, hf⟩ := sf_ne hf
  refine tp_i ex_1 ?_
  refine lv_istore_n (lv' := [(3, .int x_1), (0, .ref h0), (1, .int p0), (2, .int p1)]) hx hb dX9_remove_3 rfl hl (by decide) rfl (fun ls hl => ?_)
  refine lv_iconst (v := 0) hx hb dX9_remove_4 (by decide) ?_
  refine lv_istore (lv' := [(4, .int (0 : Int32)), (3, .int x_1), (0, .ref h0), (1, .int p0), (2, .int p1)]) hx hb dX9_remove_5 hl (by decide) rfl (fun ls hl => ?_)
  refine lv_iconst (v := 0) hx hb dX9_remove_7 (by decide) ?_
  refine lv_istore (lv' := [(5, .int (0 : Int32)), (4, .int (0 : Int32)), (3, .int x_1), (0, .ref h0), (1, .int p0), (2, .int p1)]) hx hb dX9_remove_8 hl (by decide) rfl (fun ls hl => ?_)
  have hL10 : ∀ (n : Nat) (k : Int32 → (Nat → Int32) → Option ((Nat → Int32) × (Nat → Int32))) (v_2 : Int32) (v_3 : Int32) (w_4 : (Nat → Int32)) (H : Heap) (locs : List Loc) (ls : Array Slot), va_P D cls [(h0, .inr (7, [.ref h1, .ref h2])), (h1, .inl (dA 0, 4, .inl ql)), (h2, .inl (dA 0, 20, .inl w_4))] H → va_D A [(h0, .inr (7, [.ref h1, .ref h2])), (h1, .inl (dA 0, 4, .inl ql)), (h2, .inl (dA 0, 20, .inl w_4))] → va_S A s.heap H locs → lv_has ls 6 [(5, .int v_2), (4, .int v_3), (3, .int x_1), (0, .ref h0), (1, .int p0), (2, .int p1)] → f_X9_remove_L10 ql p0 p1 x_1 k n v_2 v_3 w_4 = some (q_ql, q_qg) → (∀ (y_9 : Int32) (z_10 : (Nat → Int32)) (H : Heap) (locs : List Loc) (ls : Array Slot), va_P D cls [(h0, .inr (7, [.ref h1, .ref h2])), (h1, .inl (dA 0, 4, .inl ql)), (h2, .inl (dA 0, 20, .inl z_10))] H → va_D A [(h0, .inr (7, [.ref h1, .ref h2])), (h1, .inl (dA 0, 4, .inl ql)), (h2, .inl (dA 0, 20, .inl z_10))] → va_S A s.heap H locs → lv_has ls 6 [(4, .int y_9), (0, .ref h0), (1, .int p0)] → k y_9 z_10 = some (q_ql, q_qg) → W p l e ({ frames := 0, cells := 0, slots := 0, locals := 0 } : Room) s m ([.ref h0, .int p0, .int p1] : List Value).toArray below meth c H locs 0 0 (MQ below (poMv D [(h0, .inr (7, [.ref h1, .ref h2])), (h1, .inl (dA 0, 4, .inl q_ql)), (h2, .inl (dA 0, 20, .inl q_qg))] A) ([.ref h0, .int p0, .int p1] : List Value).toArray s 0 0 A) (F0 m 61 ls [])) → W p l e ({ frames := 0, cells := 0, slots := 0, locals := 0 } : Room) s m ([.ref h0, .int p0, .int p1] : List Value).toArray below meth c H locs 0 0 (MQ below (poMv D [(h0, .inr (7, [.ref h1, .ref h2])), (h1, .inl (dA 0, 4, .inl q_ql)), (h2, .inl (dA 0, 20, .inl q_qg))] A) ([.ref h0, .int p0, .int p1] : List Value).toArray s 0 0 A) (F0 m 10 ls []) := by
    intro n k
    induction n with
    | zero =>
      intro v_2 v_3 w_4 H locs ls hP hD hS hl hf hk
      rw [f_X9_remove_L10] at hf
      cases hf
    | succ n ih =>
      intro v_2 v_3 w_4 H locs ls hP hD hS hl hf hk
      rw [f_X9_remove_L10] at hf
      refine lv_iload hx hb dX9_remove_10 (lv_at hl 0 rfl) ?_
      refine lv_aload_n hx hb dX9_remove_12 rfl (lv_at hl 3 rfl) ?_
      refine gt_f (C := RX9) (T := TX9) (N := 2) hx hb ha in_X9 hown hK hP 0 rfl rfl 0 (by decide) m_174 rfl dX9_remove_13 ?_
      refine lv_iload_n hx hb dX9_remove_16 rfl (lv_at hl 4 rfl) ?_
      obtain ⟨hi, hf⟩ := sf_ge hf
      refine ia_ld hx hb hK hP 1 rfl hi dX9_remove_17 ?_
      refine lv_icmp_ge (tgt := 61) hx hb dX9_remove_18 (by decide) (fun hc => ?_) (fun hc => ?_)
      · have hf := sf_bp hf hc
        exact hk _ _ _ _ _ (hP.sub [0, 1, 2] rfl) (hD.sub [0, 1, 2] (by decide) rfl) hS (lv_sub hl [1, 3, 4] rfl) hf
      · have hf := sf_bn hf hc
        refine lv_aload_n hx hb dX9_remove_21 rfl (lv_at hl 3 rfl) ?_
        refine gt_f (C := RX9) (T := TX9) (N := 2) hx hb ha in_X9 hown hK hP 0 rfl rfl 1 (by decide) m_177 rfl dX9_remove_22 ?_
        refine lv_iload_n hx hb dX9_remove_25 rfl (lv_at hl 2 rfl) ?_
        refine lv_iload hx hb dX9_remove_26 (lv_at hl 0 rfl) ?_
        refine lv_iadd hx hb dX9_remove_28 ?_
        obtain ⟨hi, hf⟩ := sf_ge hf
        refine ia_ld hx hb hK hP 2 rfl hi dX9_remove_29 ?_
        refine lv_iload_n hx hb dX9_remove_30 rfl (lv_at hl 5 rfl) ?_
        refine lv_icmp_eq (tgt := 55) hx hb dX9_remove_31 (by decide) (fun hc => ?_) (fun hc => ?_)
        · have hf := sf_bp hf hc
          obtain ⟨x_5, ex_5, hf⟩ := sf_ne hf
          refine ii_nc (lv' := [(5, .int x_5), (4, .int v_3), (3, .int x_1), (0, .ref h0), (1, .int p0), (2, .int p1)]) (k := 0) hx hb dX9_remove_55 hl rfl ex_5 (by decide) (by decide) rfl (fun ls hl => ?_)
          refine lv_goto (tgt := 10) hx hb dX9_remove_58 (by decide) ?_
          exact ih _ _ _ _ _ _ (hP.sub [0, 1, 2] rfl) (hD.sub [0, 1, 2] (by decide) rfl) hS (lv_sub hl [0, 1, 2, 3, 4, 5] rfl) hf hk
        · have hf := sf_bn hf hc
          refine lv_aload_n hx hb dX9_remove_34 rfl (lv_at hl 3 rfl) ?_
          refine gt_f (C := RX9) (T := TX9) (N := 2) hx hb ha in_X9 hown hK hP 0 rfl rfl 1 (by decide) m_177 rfl dX9_remove_35 ?_
          refine lv_iload_n hx hb dX9_remove_38 rfl (lv_at hl 2 rfl) ?_
          refine lv_iload hx hb dX9_remove_39 (lv_at hl 1 rfl) ?_
          refine lv_iadd hx hb dX9_remove_41 ?_
          refine lv_aload_n hx hb dX9_remove_42 rfl (lv_at hl 3 rfl) ?_
          refine gt_f (C := RX9) (T := TX9) (N := 2) hx hb ha in_X9 hown hK hP 0 rfl rfl 1 (by decide) m_177 rfl dX9_remove_43 ?_
          refine lv_iload_n hx hb dX9_remove_46 rfl (lv_at hl 2 rfl) ?_
          refine lv_iload hx hb dX9_remove_47 (lv_at hl 0 rfl) ?_
          refine lv_iadd hx hb dX9_remove_49 ?_
          obtain ⟨hi, hf⟩ := sf_ge hf
          refine ia_ld hx hb hK hP 2 rfl hi dX9_remove_50 ?_
          obtain ⟨hi, hf⟩ := sf_ge hf
          obtain ⟨a_6, ea_6, hf⟩ := sf_ne hf
          refine ia_st (ws' := [(h0, .inr (7, [.ref h1, .ref h2])), (h1, .inl (dA 0, 4, .inl ql)), (h2, .inl (dA 0, 20, .inl a_6))]) hx hb hK hP hD hS 2 rfl hi ea_6 rfl dX9_remove_51 (fun H locs hP hD hS => ?_)
          obtain ⟨x_7, ex_7, hf⟩ := sf_ne hf
          refine ii_nc (lv' := [(4, .int x_7), (5, .int v_2), (3, .int x_1), (0, .ref h0), (1, .int p0), (2, .int p1)]) (k := 1) hx hb dX9_remove_52 hl rfl ex_7 (by decide) (by decide) rfl (fun ls hl => ?_)
          obtain ⟨x_8, ex_8, hf⟩ := sf_ne hf
          refine ii_nc (lv' := [(5, .int x_8), (4, .int x_7), (3, .int x_1), (0, .ref h0), (1, .int p0), (2, .int p1)]) (k := 1) hx hb dX9_remove_55 hl rfl ex_8 (by decide) (by decide) rfl (fun ls hl => ?_)
          refine lv_goto (tgt := 10) hx hb dX9_remove_58 (by decide) ?_
          exact ih _ _ _ _ _ _ (hP.sub [0, 1, 2] rfl) (hD.sub [0, 1, 2] (by decide) rfl) hS (lv_sub hl [0, 1, 2, 3, 4, 5] rfl) hf hk
  refine hL10 _ _ _ _ _ _ _ _ hP hD hS (lv_sub hl [0, 1, 2, 3, 4, 5] rfl) hf (fun y_9 z_10 H locs ls hP hD hS hl hf => ?_)
  refine lv_aload_n hx hb dX9_remove_61 rfl (lv_at hl 1 rfl) ?_
  refine gt_f (C := RX9) (T := TX9) (N := 2) hx hb ha in_X9 hown hK hP 0 rfl rfl 0 (by decide) m_174 rfl dX9_remove_62 ?_
  refine lv_iload_n hx hb dX9_remove_65 rfl (lv_at hl 2 rfl) ?_
  refine lv_iload hx hb dX9_remove_66 (lv_at hl 0 rfl) ?_
  obtain ⟨hi, hf⟩ := sf_ge hf
  obtain ⟨a_11, ea_11, hf⟩ := sf_ne hf
  refine ia_st (ws' := [(h0, .inr (7, [.ref h1, .ref h2])), (h1, .inl (dA 0, 4, .inl a_11)), (h2, .inl (dA 0, 20, .inl z_10))]) hx hb hK hP hD hS 1 rfl hi ea_11 rfl dX9_remove_68 (fun H locs hP hD hS => ?_)
  cases hf
  exact rt_Mv hx hb hr hlocks (hP.sub [0, 1, 2] rfl) (hD.sub [0, 1, 2] (by decide) rfl) hS dX9_remove_69

