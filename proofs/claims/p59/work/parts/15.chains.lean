def f_X2_longestBefore_L5 (ko : Nat → Int32) (kl : Nat → Int32) (o_bt : Nat → Int32) (o_be : Nat → Int32) (p1 : Int32) (k : Int32 → Option Int32) : Nat → Int32 → Int32 → Option Int32
  | 0, _, _ => none
  | n + 1, v_1, v_2 => sf_b (p1 ≤ v_1) (k v_2) (sf_g (sf_in v_1 12 = true) (sf_g (sf_in (ko v_1.toNatClampNeg) 12 = true) (sf_g (sf_in p1 12 = true) (sf_g (sf_in (ko p1.toNatClampNeg) 12 = true) (sf_b ((o_bt (ko p1.toNatClampNeg).toNatClampNeg) < (o_be (ko v_1.toNatClampNeg).toNatClampNeg)) (sf_n (v_1 + (1 : Int32)) (fun x_3 => f_X2_longestBefore_L5 ko kl o_bt o_be p1 k n x_3 v_2)) (sf_g (sf_in v_1 12 = true) (sf_n ((if v_2 < (kl v_1.toNatClampNeg) then (kl v_1.toNatClampNeg) else v_2)) (fun x_4 => sf_n (v_1 + (1 : Int32)) (fun x_5 => f_X2_longestBefore_L5 ko kl o_bt o_be p1 k n x_5 x_4)))))))))
def f_X2_longestBefore (ko : Nat → Int32) (kl : Nat → Int32) (o_bt : Nat → Int32) (o_be : Nat → Int32) (p1 : Int32) : Option Int32 :=
  f_X2_longestBefore_L5 ko kl o_bt o_be p1 (fun y_6 => some y_6) 2000 (0 : Int32) (0 : Int32)
theorem yd_X2_longestBefore : yX2_longestBefore.cls = RX2 ∧ yX2_longestBefore.cls ≠ "java/lang/invoke/MethodHandle" ∧ yX2_longestBefore.cls ≠ "java/lang/invoke/VarHandle" ∧ (parseMethodDescriptor yX2_longestBefore.desc).map (fun d => d.parameters.length) = some 2 := ⟨rfl, by decide, by decide, by decide +kernel⟩
set_option maxRecDepth 100000 in
set_option maxHeartbeats 4000000 in
theorem c_X2_longestBefore (l : Launch) (D : va_G) (dA : Nat → ClassId) (h0 h1 h2 h3 h4 h5 h6 h7 : Nat) (ko : Nat → Int32) (kl : Nat → Int32) (o_bc : Int32) (o_bg : Nat → Int32) (o_bs : Nat → Int32) (o_bt : Nat → Int32) (o_be : Nat → Int32) (p1 : Int32) (rr : Int32) (hf : f_X2_longestBefore ko kl o_bt o_be p1 = some rr) : Met l yX2_longestBefore (wo (.code yX2_longestBefore cX2_longestBefore 5 (some .int))) ({ frames := 1, cells := 0, slots := 0, locals := 80 } : Room) (preP D dA [.ref h0, .ref h3, .int p1] [(h0, .inr (1, [.ref h1, .ref h2])), (h1, .inl (dA 0, 12, .inl ko)), (h2, .inl (dA 0, 12, .inl kl)), (h3, .inr (0, [.int o_bc, .ref h4, .ref h5, .ref h6, .ref h7])), (h4, .inl (dA 0, 12, .inl o_bg)), (h5, .inl (dA 0, 12, .inl o_bs)), (h6, .inl (dA 0, 12, .inl o_bt)), (h7, .inl (dA 0, 12, .inl o_be))]) (poPi rr) 0 0 noA := by
  refine of_P (own := RX2) (by decide) rfl (Nat.le_of_ble_eq_true rfl) ?_
  intro p e s m below meth c hx hb hr ha hown hml hlocks hP hK hS ls hl
  have hl : lv_has ls 5 [(0, .ref h0), (1, .ref h3), (2, .int p1)] := hl
  rw [f_X2_longestBefore] at hf
  refine lv_iconst (v := 0) hx hb dX2_longestBefore_0 (by decide) ?_
  refine lv_istore_n (lv' := [(3, .int (0 : Int32)), (0, .ref h0), (1, .ref h3), (2, .int p1)]) hx hb dX2_longestBefore_1 rfl hl (by decide) rfl (fun ls hl => ?_)
  refine lv_iconst (v := 0) hx hb dX2_longestBefore_2 (by decide) ?_
  refine lv_istore (lv' := [(4, .int (0 : Int32)), (3, .int (0 : Int32)), (0, .ref h0), (1, .ref h3), (2, .int p1)]) hx hb dX2_longestBefore_3 hl (by decide) rfl (fun ls hl => ?_)
  have hL5 : ∀ (n : Nat) (k : Int32 → Option Int32) (v_1 : Int32) (v_2 : Int32) (H : Heap) (locs : List Loc) (ls : Array Slot), va_P D cls [(h0, .inr (1, [.ref h1, .ref h2])), (h1, .inl (dA 0, 12, .inl ko)), (h2, .inl (dA 0, 12, .inl kl)), (h3, .inr (0, [.int o_bc, .ref h4, .ref h5, .ref h6, .ref h7])), (h4, .inl (dA 0, 12, .inl o_bg)), (h5, .inl (dA 0, 12, .inl o_bs)), (h6, .inl (dA 0, 12, .inl o_bt)), (h7, .inl (dA 0, 12, .inl o_be))] H → va_S noA s.heap H locs → lv_has ls 5 [(4, .int v_1), (3, .int v_2), (0, .ref h0), (1, .ref h3), (2, .int p1)] → f_X2_longestBefore_L5 ko kl o_bt o_be p1 k n v_1 v_2 = some rr → (∀ (y_6 : Int32) (H : Heap) (locs : List Loc) (ls : Array Slot), va_P D cls [(h0, .inr (1, [.ref h1, .ref h2])), (h1, .inl (dA 0, 12, .inl ko)), (h2, .inl (dA 0, 12, .inl kl)), (h3, .inr (0, [.int o_bc, .ref h4, .ref h5, .ref h6, .ref h7])), (h4, .inl (dA 0, 12, .inl o_bg)), (h5, .inl (dA 0, 12, .inl o_bs)), (h6, .inl (dA 0, 12, .inl o_bt)), (h7, .inl (dA 0, 12, .inl o_be))] H → va_S noA s.heap H locs → lv_has ls 5 [(3, .int y_6)] → k y_6 = some rr → W p l e ({ frames := 1, cells := 0, slots := 0, locals := 80 } : Room) s m ([.ref h0, .ref h3, .int p1] : List Value).toArray below meth c H locs 0 0 (MQ below (poPi rr) ([.ref h0, .ref h3, .int p1] : List Value).toArray s 0 0 noA) (F0 m 55 ls [])) → W p l e ({ frames := 1, cells := 0, slots := 0, locals := 80 } : Room) s m ([.ref h0, .ref h3, .int p1] : List Value).toArray below meth c H locs 0 0 (MQ below (poPi rr) ([.ref h0, .ref h3, .int p1] : List Value).toArray s 0 0 noA) (F0 m 5 ls []) := by
    intro n k
    induction n with
    | zero =>
      intro v_1 v_2 H locs ls hP hS hl hf hk
      rw [f_X2_longestBefore_L5] at hf
      cases hf
    | succ n ih =>
      intro v_1 v_2 H locs ls hP hS hl hf hk
      rw [f_X2_longestBefore_L5] at hf
      refine lv_iload hx hb dX2_longestBefore_5 (lv_at hl 0 rfl) ?_
      refine lv_iload_n hx hb dX2_longestBefore_7 rfl (lv_at hl 4 rfl) ?_
      refine lv_icmp_ge (tgt := 55) hx hb dX2_longestBefore_8 (by decide) (fun hc => ?_) (fun hc => ?_)
      · have hf := sf_bp hf hc
        exact hk _ _ _ _ hP hS (lv_sub hl [1] rfl) hf
      · have hf := sf_bn hf hc
        refine lv_aload_n hx hb dX2_longestBefore_11 rfl (lv_at hl 3 rfl) ?_
        refine gt_f (C := RX1) (T := TX1) (N := 5) hx hb ha in_X1 hown hK hP 3 rfl rfl 4 (by decide) m_155 rfl dX2_longestBefore_12 ?_
        refine lv_aload_n hx hb dX2_longestBefore_15 rfl (lv_at hl 2 rfl) ?_
        refine gt_f (C := RX2) (T := TX2) (N := 2) hx hb ha in_X2 hown hK hP 0 rfl rfl 0 (by decide) m_269 rfl dX2_longestBefore_16 ?_
        refine lv_iload hx hb dX2_longestBefore_19 (lv_at hl 0 rfl) ?_
        obtain ⟨hi, hf⟩ := sf_ge hf
        refine ia_ld hx hb hK hP 1 rfl hi dX2_longestBefore_21 ?_
        obtain ⟨hi, hf⟩ := sf_ge hf
        refine ia_ld hx hb hK hP 7 rfl hi dX2_longestBefore_22 ?_
        refine lv_aload_n hx hb dX2_longestBefore_23 rfl (lv_at hl 3 rfl) ?_
        refine gt_f (C := RX1) (T := TX1) (N := 5) hx hb ha in_X1 hown hK hP 3 rfl rfl 3 (by decide) m_151 rfl dX2_longestBefore_24 ?_
        refine lv_aload_n hx hb dX2_longestBefore_27 rfl (lv_at hl 2 rfl) ?_
        refine gt_f (C := RX2) (T := TX2) (N := 2) hx hb ha in_X2 hown hK hP 0 rfl rfl 0 (by decide) m_269 rfl dX2_longestBefore_28 ?_
        refine lv_iload_n hx hb dX2_longestBefore_31 rfl (lv_at hl 4 rfl) ?_
        obtain ⟨hi, hf⟩ := sf_ge hf
        refine ia_ld hx hb hK hP 1 rfl hi dX2_longestBefore_32 ?_
        obtain ⟨hi, hf⟩ := sf_ge hf
        refine ia_ld hx hb hK hP 6 rfl hi dX2_longestBefore_33 ?_
        refine lv_icmp_gt (tgt := 49) hx hb dX2_longestBefore_34 (by decide) (fun hc => ?_) (fun hc => ?_)
        · have hf := sf_bp hf hc
          obtain ⟨x_3, ex_3, hf⟩ := sf_ne hf
          refine ii_nc (lv' := [(4, .int x_3), (3, .int v_2), (0, .ref h0), (1, .ref h3), (2, .int p1)]) (k := 0) hx hb dX2_longestBefore_49 hl rfl ex_3 (by decide) (by decide) rfl (fun ls hl => ?_)
          refine lv_goto (tgt := 5) hx hb dX2_longestBefore_52 (by decide) ?_
          exact ih _ _ _ _ _ hP hS (lv_sub hl [0, 1, 2, 3, 4] rfl) hf hk
        · have hf := sf_bn hf hc
          refine lv_iload_n hx hb dX2_longestBefore_37 rfl (lv_at hl 1 rfl) ?_
          refine lv_aload_n hx hb dX2_longestBefore_38 rfl (lv_at hl 2 rfl) ?_
          refine gt_f (C := RX2) (T := TX2) (N := 2) hx hb ha in_X2 hown hK hP 0 rfl rfl 1 (by decide) m_270 rfl dX2_longestBefore_39 ?_
          refine lv_iload hx hb dX2_longestBefore_42 (lv_at hl 0 rfl) ?_
          obtain ⟨hi, hf⟩ := sf_ge hf
          refine ia_ld hx hb hK hP 2 rfl hi dX2_longestBefore_44 ?_
          refine mx_i hx hb ha hown hml hl.1 m_863 m_786 m_54 m_787 ⟨Nat.le_of_ble_eq_true rfl, Nat.le_of_ble_eq_true rfl⟩ ⟨Nat.le_of_ble_eq_true rfl, Nat.le_of_ble_eq_true rfl⟩ dX2_longestBefore_45 ?_
          obtain ⟨x_4, ex_4, hf⟩ := sf_ne hf
          refine tp_i ex_4 ?_
          refine lv_istore_n (lv' := [(3, .int x_4), (4, .int v_1), (0, .ref h0), (1, .ref h3), (2, .int p1)]) hx hb dX2_longestBefore_48 rfl hl (by decide) rfl (fun ls hl => ?_)
          obtain ⟨x_5, ex_5, hf⟩ := sf_ne hf
          refine ii_nc (lv' := [(4, .int x_5), (3, .int x_4), (0, .ref h0), (1, .ref h3), (2, .int p1)]) (k := 1) hx hb dX2_longestBefore_49 hl rfl ex_5 (by decide) (by decide) rfl (fun ls hl => ?_)
          refine lv_goto (tgt := 5) hx hb dX2_longestBefore_52 (by decide) ?_
          exact ih _ _ _ _ _ hP hS (lv_sub hl [0, 1, 2, 3, 4] rfl) hf hk
  refine hL5 _ _ _ _ _ _ _ hP hS (lv_sub hl [0, 1, 2, 3, 4] rfl) hf (fun y_6 H locs ls hP hS hl hf => ?_)
  refine lv_iload_n hx hb dX2_longestBefore_55 rfl (lv_at hl 0 rfl) ?_
  exact rt_Pi hx hb hr hlocks (Option.some.inj hf) hS dX2_longestBefore_56

def f_X2_longestChain_L2 (o_bc : Int32) (o_bs : Nat → Int32) (o_bt : Nat → Int32) (k : (Nat → Int32) → Option (Int32 × (Nat → Int32) × (Nat → Int32))) : Nat → Int32 → (Nat → Int32) → Option (Int32 × (Nat → Int32) × (Nat → Int32))
  | 0, _, _ => none
  | n + 1, v_1, w_2 => sf_b (o_bc ≤ v_1) (k w_2) (sf_c1 (f_X1_rankByStart o_bc o_bs o_bt v_1) (fun r_3 => sf_g (sf_in r_3 12 = true) (sf_n (upd w_2 r_3.toNatClampNeg v_1) (fun a_4 => sf_n (v_1 + (1 : Int32)) (fun x_5 => f_X2_longestChain_L2 o_bc o_bs o_bt k n x_5 a_4)))))
def f_X2_longestChain_L31 (o_bc : Int32) (o_bt : Nat → Int32) (o_be : Nat → Int32) (z_6 : Nat → Int32) (k : Int32 → (Nat → Int32) → Option (Int32 × (Nat → Int32) × (Nat → Int32))) : Nat → Int32 → Int32 → (Nat → Int32) → Option (Int32 × (Nat → Int32) × (Nat → Int32))
  | 0, _, _, _ => none
  | n + 1, v_7, v_8, w_9 => sf_b (o_bc ≤ v_7) (k v_8 w_9) (sf_c1 (f_X2_longestBefore z_6 w_9 o_bt o_be v_7) (fun r_10 => sf_g (sf_in v_7 12 = true) (sf_n (upd w_9 v_7.toNatClampNeg ((1 : Int32) + r_10)) (fun a_11 => sf_g (sf_in v_7 12 = true) (sf_n ((if v_8 < (a_11 v_7.toNatClampNeg) then (a_11 v_7.toNatClampNeg) else v_8)) (fun x_12 => sf_n (v_7 + (1 : Int32)) (fun x_13 => f_X2_longestChain_L31 o_bc o_bt o_be z_6 k n x_13 x_12 a_11)))))))
def f_X2_longestChain (ko : Nat → Int32) (kl : Nat → Int32) (o_bc : Int32) (o_bs : Nat → Int32) (o_bt : Nat → Int32) (o_be : Nat → Int32) : Option (Int32 × (Nat → Int32) × (Nat → Int32)) :=
  f_X2_longestChain_L2 o_bc o_bs o_bt (fun z_6 => f_X2_longestChain_L31 o_bc o_bt o_be z_6 (fun y_14 z_15 => some (y_14, z_6, z_15)) 2000 (0 : Int32) (0 : Int32) kl) 2000 (0 : Int32) ko
theorem yd_X2_longestChain : yX2_longestChain.cls = RX2 ∧ yX2_longestChain.cls ≠ "java/lang/invoke/MethodHandle" ∧ yX2_longestChain.cls ≠ "java/lang/invoke/VarHandle" ∧ (parseMethodDescriptor yX2_longestChain.desc).map (fun d => d.parameters.length) = some 1 := ⟨rfl, by decide, by decide, by decide +kernel⟩
set_option maxRecDepth 100000 in
set_option maxHeartbeats 4000000 in
theorem c_X2_longestChain (l : Launch) (D : va_G) (dA : Nat → ClassId) (h0 h1 h2 h3 h4 h5 h6 h7 : Nat) (sz : Nat) (ko : Nat → Int32) (kl : Nat → Int32) (o_bc : Int32) (o_bg : Nat → Int32) (o_bs : Nat → Int32) (o_bt : Nat → Int32) (o_be : Nat → Int32) (rr : Int32) (q_ko : Nat → Int32) (q_kl : Nat → Int32) (hf : f_X2_longestChain ko kl o_bc o_bs o_bt o_be = some (rr, q_ko, q_kl)) : Met l yX2_longestChain (wo (.code yX2_longestChain cX2_longestChain 4 (some .int))) ({ frames := 2, cells := 0, slots := 0, locals := 104 } : Room) (preM D dA [.ref h0, .ref h3] sz [(h0, .inr (1, [.ref h1, .ref h2])), (h1, .inl (dA 0, 12, .inl ko)), (h2, .inl (dA 0, 12, .inl kl)), (h3, .inr (0, [.int o_bc, .ref h4, .ref h5, .ref h6, .ref h7])), (h4, .inl (dA 0, 12, .inl o_bg)), (h5, .inl (dA 0, 12, .inl o_bs)), (h6, .inl (dA 0, 12, .inl o_bt)), (h7, .inl (dA 0, 12, .inl o_be))]) (poMi D rr [(h0, .inr (1, [.ref h1, .ref h2])), (h1, .inl (dA 0, 12, .inl q_ko)), (h2, .inl (dA 0, 12, .inl q_kl)), (h3, .inr (0, [.int o_bc, .ref h4, .ref h5, .ref h6, .ref h7])), (h4, .inl (dA 0, 12, .inl o_bg)), (h5, .inl (dA 0, 12, .inl o_bs)), (h6, .inl (dA 0, 12, .inl o_bt)), (h7, .inl (dA 0, 12, .inl o_be))] (va_A [(h0, .inr (1, [.ref h1, .ref h2])), (h1, .inl (dA 0, 12, .inl ko)), (h2, .inl (dA 0, 12, .inl kl)), (h3, .inr (0, [.int o_bc, .ref h4, .ref h5, .ref h6, .ref h7])), (h4, .inl (dA 0, 12, .inl o_bg)), (h5, .inl (dA 0, 12, .inl o_bs)), (h6, .inl (dA 0, 12, .inl o_bt)), (h7, .inl (dA 0, 12, .inl o_be))] sz)) 0 0 (va_A [(h0, .inr (1, [.ref h1, .ref h2])), (h1, .inl (dA 0, 12, .inl ko)), (h2, .inl (dA 0, 12, .inl kl)), (h3, .inr (0, [.int o_bc, .ref h4, .ref h5, .ref h6, .ref h7])), (h4, .inl (dA 0, 12, .inl o_bg)), (h5, .inl (dA 0, 12, .inl o_bs)), (h6, .inl (dA 0, 12, .inl o_bt)), (h7, .inl (dA 0, 12, .inl o_be))] sz) := by
  refine of_M (y := yX2_longestChain) (cc := cX2_longestChain) (maxL := 4) (ret := (some .int)) (av := [.ref h0, .ref h3]) (ws := [(h0, .inr (1, [.ref h1, .ref h2])), (h1, .inl (dA 0, 12, .inl ko)), (h2, .inl (dA 0, 12, .inl kl)), (h3, .inr (0, [.int o_bc, .ref h4, .ref h5, .ref h6, .ref h7])), (h4, .inl (dA 0, 12, .inl o_bg)), (h5, .inl (dA 0, 12, .inl o_bs)), (h6, .inl (dA 0, 12, .inl o_bt)), (h7, .inl (dA 0, 12, .inl o_be))]) (sz := sz) (own := RX2) (Qc := poMi D rr [(h0, .inr (1, [.ref h1, .ref h2])), (h1, .inl (dA 0, 12, .inl q_ko)), (h2, .inl (dA 0, 12, .inl q_kl)), (h3, .inr (0, [.int o_bc, .ref h4, .ref h5, .ref h6, .ref h7])), (h4, .inl (dA 0, 12, .inl o_bg)), (h5, .inl (dA 0, 12, .inl o_bs)), (h6, .inl (dA 0, 12, .inl o_bt)), (h7, .inl (dA 0, 12, .inl o_be))]) (by decide) rfl (Nat.le_of_ble_eq_true rfl) ?_
  intro p e s m below meth c A hx hb hr ha hown hml hlocks hin hP hK hD hS hA ls hl
  have hl : lv_has ls 4 [(0, .ref h0), (1, .ref h3)] := hl
  rw [f_X2_longestChain] at hf
  refine lv_iconst (v := 0) hx hb dX2_longestChain_0 (by decide) ?_
  refine lv_istore_n (lv' := [(2, .int (0 : Int32)), (0, .ref h0), (1, .ref h3)]) hx hb dX2_longestChain_1 rfl hl (by decide) rfl (fun ls hl => ?_)
  have hL2 : ∀ (n : Nat) (k : (Nat → Int32) → Option (Int32 × (Nat → Int32) × (Nat → Int32))) (v_1 : Int32) (w_2 : (Nat → Int32)) (H : Heap) (locs : List Loc) (ls : Array Slot), va_P D cls [(h0, .inr (1, [.ref h1, .ref h2])), (h1, .inl (dA 0, 12, .inl w_2)), (h2, .inl (dA 0, 12, .inl kl)), (h3, .inr (0, [.int o_bc, .ref h4, .ref h5, .ref h6, .ref h7])), (h4, .inl (dA 0, 12, .inl o_bg)), (h5, .inl (dA 0, 12, .inl o_bs)), (h6, .inl (dA 0, 12, .inl o_bt)), (h7, .inl (dA 0, 12, .inl o_be))] H → va_D A [(h0, .inr (1, [.ref h1, .ref h2])), (h1, .inl (dA 0, 12, .inl w_2)), (h2, .inl (dA 0, 12, .inl kl)), (h3, .inr (0, [.int o_bc, .ref h4, .ref h5, .ref h6, .ref h7])), (h4, .inl (dA 0, 12, .inl o_bg)), (h5, .inl (dA 0, 12, .inl o_bs)), (h6, .inl (dA 0, 12, .inl o_bt)), (h7, .inl (dA 0, 12, .inl o_be))] → va_S A s.heap H locs → lv_has ls 4 [(2, .int v_1), (0, .ref h0), (1, .ref h3)] → f_X2_longestChain_L2 o_bc o_bs o_bt k n v_1 w_2 = some (rr, q_ko, q_kl) → (∀ (z_6 : (Nat → Int32)) (H : Heap) (locs : List Loc) (ls : Array Slot), va_P D cls [(h0, .inr (1, [.ref h1, .ref h2])), (h1, .inl (dA 0, 12, .inl z_6)), (h2, .inl (dA 0, 12, .inl kl)), (h3, .inr (0, [.int o_bc, .ref h4, .ref h5, .ref h6, .ref h7])), (h4, .inl (dA 0, 12, .inl o_bg)), (h5, .inl (dA 0, 12, .inl o_bs)), (h6, .inl (dA 0, 12, .inl o_bt)), (h7, .inl (dA 0, 12, .inl o_be))] H → va_D A [(h0, .inr (1, [.ref h1, .ref h2])), (h1, .inl (dA 0, 12, .inl z_6)), (h2, .inl (dA 0, 12, .inl kl)), (h3, .inr (0, [.int o_bc, .ref h4, .ref h5, .ref h6, .ref h7])), (h4, .inl (dA 0, 12, .inl o_bg)), (h5, .inl (dA 0, 12, .inl o_bs)), (h6, .inl (dA 0, 12, .inl o_bt)), (h7, .inl (dA 0, 12, .inl o_be))] → va_S A s.heap H locs → lv_has ls 4 [(0, .ref h0), (1, .ref h3)] → k z_6 = some (rr, q_ko, q_kl) → W p l e ({ frames := 2, cells := 0, slots := 0, locals := 104 } : Room) s m ([.ref h0, .ref h3] : List Value).toArray below meth c H locs 0 0 (MQ below (poMi D rr [(h0, .inr (1, [.ref h1, .ref h2])), (h1, .inl (dA 0, 12, .inl q_ko)), (h2, .inl (dA 0, 12, .inl q_kl)), (h3, .inr (0, [.int o_bc, .ref h4, .ref h5, .ref h6, .ref h7])), (h4, .inl (dA 0, 12, .inl o_bg)), (h5, .inl (dA 0, 12, .inl o_bs)), (h6, .inl (dA 0, 12, .inl o_bt)), (h7, .inl (dA 0, 12, .inl o_be))] A) ([.ref h0, .ref h3] : List Value).toArray s 0 0 A) (F0 m 27 ls [])) → W p l e ({ frames := 2, cells := 0, slots := 0, locals := 104 } : Room) s m ([.ref h0, .ref h3] : List Value).toArray below meth c H locs 0 0 (MQ below (poMi D rr [(h0, .inr (1, [.ref h1, .ref h2])), (h1, .inl (dA 0, 12, .inl q_ko)), (h2, .inl (dA 0, 12, .inl q_kl)), (h3, .inr (0, [.int o_bc, .ref h4, .ref h5, .ref h6, .ref h7])), (h4, .inl (dA 0, 12, .inl o_bg)), (h5, .inl (dA 0, 12, .inl o_bs)), (h6, .inl (dA 0, 12, .inl o_bt)), (h7, .inl (dA 0, 12, .inl o_be))] A) ([.ref h0, .ref h3] : List Value).toArray s 0 0 A) (F0 m 2 ls []) := by
    intro n k
    induction n with
    | zero =>
      intro v_1 w_2 H locs ls hP hD hS hl hf hk
      rw [f_X2_longestChain_L2] at hf
      cases hf
    | succ n ih =>
      intro v_1 w_2 H locs ls hP hD hS hl hf hk
      rw [f_X2_longestChain_L2] at hf
      refine lv_iload_n hx hb dX2_longestChain_2 rfl (lv_at hl 0 rfl) ?_
      refine lv_aload_n hx hb dX2_longestChain_3 rfl (lv_at hl 2 rfl) ?_
      refine gt_f (C := RX1) (T := TX1) (N := 5) hx hb ha in_X1 hown hK hP 3 rfl rfl 0 (by decide) m_141 rfl dX2_longestChain_4 ?_
      refine lv_icmp_ge (tgt := 27) hx hb dX2_longestChain_7 (by decide) (fun hc => ?_) (fun hc => ?_)
      · have hf := sf_bp hf hc
        exact hk _ _ _ _ (hP.sub [0, 1, 2, 3, 4, 5, 6, 7] rfl) (hD.sub [0, 1, 2, 3, 4, 5, 6, 7] (by decide) rfl) hS (lv_sub hl [1, 2] rfl) hf
      · have hf := sf_bn hf hc
        refine lv_aload_n hx hb dX2_longestChain_10 rfl (lv_at hl 1 rfl) ?_
        refine gt_f (C := RX2) (T := TX2) (N := 2) hx hb ha in_X2 hown hK hP 0 rfl rfl 0 (by decide) m_269 rfl dX2_longestChain_11 ?_
        refine lv_aload_n hx hb dX2_longestChain_14 rfl (lv_at hl 2 rfl) ?_
        refine lv_iload_n hx hb dX2_longestChain_15 rfl (lv_at hl 0 rfl) ?_
        obtain ⟨r_3, hc3, hf⟩ := sf_c1e hf
        refine k_Pi (run_PV (As := [.int v_1]) (rest := [.ref h1]) ⟨hx, hb, hml, hown, ha⟩ (c_X1_rankByStart l D dA h3 h4 h5 h6 h7  o_bc o_bg o_bs o_bt o_be v_1 _ hc3) (gi_V m_858 m_797 m_798 m_35 m_799) yd_X1_rankByStart ⟨Nat.le_of_ble_eq_true rfl, Nat.le_of_ble_eq_true rfl⟩ ⟨rfl, rfl⟩ hK hP [3, 4, 5, 6, 7] rfl 3 0 rfl rfl rfl rfl hl.1 rfl (Nat.le_of_ble_eq_true rfl) dX2_longestChain_16 ⟨Nat.le_of_ble_eq_true rfl, Nat.le_of_ble_eq_true rfl⟩) hP hS (fun H locs hP hS => ?_)
        refine lv_iload_n hx hb dX2_longestChain_19 rfl (lv_at hl 0 rfl) ?_
        obtain ⟨hi, hf⟩ := sf_ge hf
        obtain ⟨a_4, ea_4, hf⟩ := sf_ne hf
        refine ia_st (ws' := [(h0, .inr (1, [.ref h1, .ref h2])), (h1, .inl (dA 0, 12, .inl a_4)), (h2, .inl (dA 0, 12, .inl kl)), (h3, .inr (0, [.int o_bc, .ref h4, .ref h5, .ref h6, .ref h7])), (h4, .inl (dA 0, 12, .inl o_bg)), (h5, .inl (dA 0, 12, .inl o_bs)), (h6, .inl (dA 0, 12, .inl o_bt)), (h7, .inl (dA 0, 12, .inl o_be))]) hx hb hK hP hD hS 1 rfl hi ea_4 rfl dX2_longestChain_20 (fun H locs hP hD hS => ?_)
        obtain ⟨x_5, ex_5, hf⟩ := sf_ne hf
        refine ii_nc (lv' := [(2, .int x_5), (0, .ref h0), (1, .ref h3)]) (k := 0) hx hb dX2_longestChain_21 hl rfl ex_5 (by decide) (by decide) rfl (fun ls hl => ?_)
        refine lv_goto (tgt := 2) hx hb dX2_longestChain_24 (by decide) ?_
        exact ih _ _ _ _ _ (hP.sub [0, 1, 2, 3, 4, 5, 6, 7] rfl) (hD.sub [0, 1, 2, 3, 4, 5, 6, 7] (by decide) rfl) hS (lv_sub hl [0, 1, 2] rfl) hf hk
  refine hL2 _ _ _ _ _ _ _ hP hD hS (lv_sub hl [0, 1, 2] rfl) hf (fun z_6 H locs ls hP hD hS hl hf => ?_)
  refine lv_iconst (v := 0) hx hb dX2_longestChain_27 (by decide) ?_
  refine lv_istore_n (lv' := [(2, .int (0 : Int32)), (0, .ref h0), (1, .ref h3)]) hx hb dX2_longestChain_28 rfl hl (by decide) rfl (fun ls hl => ?_)
  refine lv_iconst (v := 0) hx hb dX2_longestChain_29 (by decide) ?_
  refine lv_istore_n (lv' := [(3, .int (0 : Int32)), (2, .int (0 : Int32)), (0, .ref h0), (1, .ref h3)]) hx hb dX2_longestChain_30 rfl hl (by decide) rfl (fun ls hl => ?_)
  have hL31 : ∀ (n : Nat) (k : Int32 → (Nat → Int32) → Option (Int32 × (Nat → Int32) × (Nat → Int32))) (v_7 : Int32) (v_8 : Int32) (w_9 : (Nat → Int32)) (H : Heap) (locs : List Loc) (ls : Array Slot), va_P D cls [(h0, .inr (1, [.ref h1, .ref h2])), (h1, .inl (dA 0, 12, .inl z_6)), (h2, .inl (dA 0, 12, .inl w_9)), (h3, .inr (0, [.int o_bc, .ref h4, .ref h5, .ref h6, .ref h7])), (h4, .inl (dA 0, 12, .inl o_bg)), (h5, .inl (dA 0, 12, .inl o_bs)), (h6, .inl (dA 0, 12, .inl o_bt)), (h7, .inl (dA 0, 12, .inl o_be))] H → va_D A [(h0, .inr (1, [.ref h1, .ref h2])), (h1, .inl (dA 0, 12, .inl z_6)), (h2, .inl (dA 0, 12, .inl w_9)), (h3, .inr (0, [.int o_bc, .ref h4, .ref h5, .ref h6, .ref h7])), (h4, .inl (dA 0, 12, .inl o_bg)), (h5, .inl (dA 0, 12, .inl o_bs)), (h6, .inl (dA 0, 12, .inl o_bt)), (h7, .inl (dA 0, 12, .inl o_be))] → va_S A s.heap H locs → lv_has ls 4 [(3, .int v_7), (2, .int v_8), (0, .ref h0), (1, .ref h3)] → f_X2_longestChain_L31 o_bc o_bt o_be z_6 k n v_7 v_8 w_9 = some (rr, q_ko, q_kl) → (∀ (y_14 : Int32) (z_15 : (Nat → Int32)) (H : Heap) (locs : List Loc) (ls : Array Slot), va_P D cls [(h0, .inr (1, [.ref h1, .ref h2])), (h1, .inl (dA 0, 12, .inl z_6)), (h2, .inl (dA 0, 12, .inl z_15)), (h3, .inr (0, [.int o_bc, .ref h4, .ref h5, .ref h6, .ref h7])), (h4, .inl (dA 0, 12, .inl o_bg)), (h5, .inl (dA 0, 12, .inl o_bs)), (h6, .inl (dA 0, 12, .inl o_bt)), (h7, .inl (dA 0, 12, .inl o_be))] H → va_D A [(h0, .inr (1, [.ref h1, .ref h2])), (h1, .inl (dA 0, 12, .inl z_6)), (h2, .inl (dA 0, 12, .inl z_15)), (h3, .inr (0, [.int o_bc, .ref h4, .ref h5, .ref h6, .ref h7])), (h4, .inl (dA 0, 12, .inl o_bg)), (h5, .inl (dA 0, 12, .inl o_bs)), (h6, .inl (dA 0, 12, .inl o_bt)), (h7, .inl (dA 0, 12, .inl o_be))] → va_S A s.heap H locs → lv_has ls 4 [(2, .int y_14)] → k y_14 z_15 = some (rr, q_ko, q_kl) → W p l e ({ frames := 2, cells := 0, slots := 0, locals := 104 } : Room) s m ([.ref h0, .ref h3] : List Value).toArray below meth c H locs 0 0 (MQ below (poMi D rr [(h0, .inr (1, [.ref h1, .ref h2])), (h1, .inl (dA 0, 12, .inl q_ko)), (h2, .inl (dA 0, 12, .inl q_kl)), (h3, .inr (0, [.int o_bc, .ref h4, .ref h5, .ref h6, .ref h7])), (h4, .inl (dA 0, 12, .inl o_bg)), (h5, .inl (dA 0, 12, .inl o_bs)), (h6, .inl (dA 0, 12, .inl o_bt)), (h7, .inl (dA 0, 12, .inl o_be))] A) ([.ref h0, .ref h3] : List Value).toArray s 0 0 A) (F0 m 70 ls [])) → W p l e ({ frames := 2, cells := 0, slots := 0, locals := 104 } : Room) s m ([.ref h0, .ref h3] : List Value).toArray below meth c H locs 0 0 (MQ below (poMi D rr [(h0, .inr (1, [.ref h1, .ref h2])), (h1, .inl (dA 0, 12, .inl q_ko)), (h2, .inl (dA 0, 12, .inl q_kl)), (h3, .inr (0, [.int o_bc, .ref h4, .ref h5, .ref h6, .ref h7])), (h4, .inl (dA 0, 12, .inl o_bg)), (h5, .inl (dA 0, 12, .inl o_bs)), (h6, .inl (dA 0, 12, .inl o_bt)), (h7, .inl (dA 0, 12, .inl o_be))] A) ([.ref h0, .ref h3] : List Value).toArray s 0 0 A) (F0 m 31 ls []) := by
    intro n k
    induction n with
    | zero =>
      intro v_7 v_8 w_9 H locs ls hP hD hS hl hf hk
      rw [f_X2_longestChain_L31] at hf
      cases hf
    | succ n ih =>
      intro v_7 v_8 w_9 H locs ls hP hD hS hl hf hk
      rw [f_X2_longestChain_L31] at hf
      refine lv_iload_n hx hb dX2_longestChain_31 rfl (lv_at hl 0 rfl) ?_
      refine lv_aload_n hx hb dX2_longestChain_32 rfl (lv_at hl 3 rfl) ?_
      refine gt_f (C := RX1) (T := TX1) (N := 5) hx hb ha in_X1 hown hK hP 3 rfl rfl 0 (by decide) m_141 rfl dX2_longestChain_33 ?_
      refine lv_icmp_ge (tgt := 70) hx hb dX2_longestChain_36 (by decide) (fun hc => ?_) (fun hc => ?_)
      · have hf := sf_bp hf hc
        exact hk _ _ _ _ _ (hP.sub [0, 1, 2, 3, 4, 5, 6, 7] rfl) (hD.sub [0, 1, 2, 3, 4, 5, 6, 7] (by decide) rfl) hS (lv_sub hl [1] rfl) hf
      · have hf := sf_bn hf hc
        refine lv_aload_n hx hb dX2_longestChain_39 rfl (lv_at hl 2 rfl) ?_
        refine gt_f (C := RX2) (T := TX2) (N := 2) hx hb ha in_X2 hown hK hP 0 rfl rfl 1 (by decide) m_270 rfl dX2_longestChain_40 ?_
        refine lv_iload_n hx hb dX2_longestChain_43 rfl (lv_at hl 0 rfl) ?_
        refine lv_iconst (v := 1) hx hb dX2_longestChain_44 (by decide) ?_
        refine lv_aload_n hx hb dX2_longestChain_45 rfl (lv_at hl 2 rfl) ?_
        refine lv_aload_n hx hb dX2_longestChain_46 rfl (lv_at hl 3 rfl) ?_
        refine lv_iload_n hx hb dX2_longestChain_47 rfl (lv_at hl 0 rfl) ?_
        obtain ⟨r_10, hc10, hf⟩ := sf_c1e hf
        refine k_Pi (run_PV (As := [.ref h3, .int v_7]) (rest := [.int (1 : Int32), .int v_7, .ref h2]) ⟨hx, hb, hml, hown, ha⟩ (c_X2_longestBefore l D dA h0 h1 h2 h3 h4 h5 h6 h7  z_6 w_9 o_bc o_bg o_bs o_bt o_be v_7 _ hc10) (gi_V m_859 m_861 m_16 m_39 m_862) yd_X2_longestBefore ⟨Nat.le_of_ble_eq_true rfl, Nat.le_of_ble_eq_true rfl⟩ ⟨rfl, rfl⟩ hK hP [0, 1, 2, 3, 4, 5, 6, 7] rfl 0 1 rfl rfl rfl rfl hl.1 rfl (Nat.le_of_ble_eq_true rfl) dX2_longestChain_48 ⟨Nat.le_of_ble_eq_true rfl, Nat.le_of_ble_eq_true rfl⟩) hP hS (fun H locs hP hS => ?_)
        refine lv_iadd hx hb dX2_longestChain_51 ?_
        obtain ⟨hi, hf⟩ := sf_ge hf
        obtain ⟨a_11, ea_11, hf⟩ := sf_ne hf
        refine ia_st (ws' := [(h0, .inr (1, [.ref h1, .ref h2])), (h1, .inl (dA 0, 12, .inl z_6)), (h2, .inl (dA 0, 12, .inl a_11)), (h3, .inr (0, [.int o_bc, .ref h4, .ref h5, .ref h6, .ref h7])), (h4, .inl (dA 0, 12, .inl o_bg)), (h5, .inl (dA 0, 12, .inl o_bs)), (h6, .inl (dA 0, 12, .inl o_bt)), (h7, .inl (dA 0, 12, .inl o_be))]) hx hb hK hP hD hS 2 rfl hi ea_11 rfl dX2_longestChain_52 (fun H locs hP hD hS => ?_)
        refine lv_iload_n hx hb dX2_longestChain_53 rfl (lv_at hl 1 rfl) ?_
        refine lv_aload_n hx hb dX2_longestChain_54 rfl (lv_at hl 2 rfl) ?_
        refine gt_f (C := RX2) (T := TX2) (N := 2) hx hb ha in_X2 hown hK hP 0 rfl rfl 1 (by decide) m_270 rfl dX2_longestChain_55 ?_
        refine lv_iload_n hx hb dX2_longestChain_58 rfl (lv_at hl 0 rfl) ?_
        obtain ⟨hi, hf⟩ := sf_ge hf
        refine ia_ld hx hb hK hP 2 rfl hi dX2_longestChain_59 ?_
        refine mx_i hx hb ha hown hml hl.1 m_863 m_786 m_54 m_787 ⟨Nat.le_of_ble_eq_true rfl, Nat.le_of_ble_eq_true rfl⟩ ⟨Nat.le_of_ble_eq_true rfl, Nat.le_of_ble_eq_true rfl⟩ dX2_longestChain_60 ?_
        obtain ⟨x_12, ex_12, hf⟩ := sf_ne hf
        refine tp_i ex_12 ?_
        refine lv_istore_n (lv' := [(2, .int x_12), (3, .int v_7), (0, .ref h0), (1, .ref h3)]) hx hb dX2_longestChain_63 rfl hl (by decide) rfl (fun ls hl => ?_)
        obtain ⟨x_13, ex_13, hf⟩ := sf_ne hf
        refine ii_nc (lv' := [(3, .int x_13), (2, .int x_12), (0, .ref h0), (1, .ref h3)]) (k := 1) hx hb dX2_longestChain_64 hl rfl ex_13 (by decide) (by decide) rfl (fun ls hl => ?_)
        refine lv_goto (tgt := 31) hx hb dX2_longestChain_67 (by decide) ?_
        exact ih _ _ _ _ _ _ (hP.sub [0, 1, 2, 3, 4, 5, 6, 7] rfl) (hD.sub [0, 1, 2, 3, 4, 5, 6, 7] (by decide) rfl) hS (lv_sub hl [0, 1, 2, 3] rfl) hf hk
  refine hL31 _ _ _ _ _ _ _ _ hP hD hS (lv_sub hl [0, 1, 2, 3] rfl) hf (fun y_14 z_15 H locs ls hP hD hS hl hf => ?_)
  refine lv_iload_n hx hb dX2_longestChain_70 rfl (lv_at hl 0 rfl) ?_
  cases hf
  exact rt_Mi hx hb hr hlocks (hP.sub [0, 1, 2, 3, 4, 5, 6, 7] rfl) (hD.sub [0, 1, 2, 3, 4, 5, 6, 7] (by decide) rfl) hS dX2_longestChain_71

