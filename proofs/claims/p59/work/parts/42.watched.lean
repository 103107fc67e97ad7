def f_L_watched_0_L31 (sc : Int32) (sd : Nat → Int32) (bc : Int32) (bs : Nat → Int32) (bt : Nat → Int32) (p1 : Int32) (v_1 : Int32) (k : Int32 → Option Int32) : Nat → Int32 → Int32 → Option Int32
  | 0, _, _ => none
  | n + 1, v_7, v_8 => sf_c1 (f_X11_bookingCount bc) (fun r_9 => sf_b (r_9 ≤ v_7) (k v_8) (sf_b (v_8 = (0 : Int32)) (k v_8) (sf_c1 (f_X11_start bc bt v_7) (fun r_10 => sf_j (fun (v_11 : Int32) => sf_n (v_7 + (1 : Int32)) (fun x_13 => f_L_watched_0_L31 sc sd bc bs bt p1 v_1 k n x_13 v_11)) (fun k_12 => sf_b (r_10 < p1) (k_12 (1 : Int32)) (sf_c1 (f_L_endOf sc sd bc bs bt v_7) (fun r_14 => sf_c1 (f_L_endOf sc sd bc bs bt v_1) (fun r_15 => sf_b (r_15 < r_14) (k_12 (1 : Int32)) (sf_c1 (f_L_endOf sc sd bc bs bt v_7) (fun r_16 => sf_c1 (f_L_endOf sc sd bc bs bt v_1) (fun r_17 => sf_b (r_16 = r_17) (sf_b (v_7 < v_1) (k_12 (0 : Int32)) (k_12 (1 : Int32))) (k_12 (0 : Int32)))))))))))))
def f_L_watched_0_L4 (sc : Int32) (sd : Nat → Int32) (bc : Int32) (bs : Nat → Int32) (bt : Nat → Int32) (p1 : Int32) (k : Int32 → Option Int32) : Nat → Int32 → Int32 → Option Int32
  | 0, _, _ => none
  | n + 1, v_1, v_2 => sf_c1 (f_X11_bookingCount bc) (fun r_3 => sf_b (r_3 ≤ v_1) (k v_2) (sf_c1 (f_X11_start bc bt v_1) (fun r_4 => sf_j (fun (v_5 : Int32) => f_L_watched_0_L31 sc sd bc bs bt p1 v_1 (fun y_18 => sf_b (y_18 = (0 : Int32)) (sf_n (v_1 + (1 : Int32)) (fun x_19 => f_L_watched_0_L4 sc sd bc bs bt p1 k n x_19 v_2)) (sf_c1 (f_L_endOf sc sd bc bs bt v_1) (fun r_20 => none))) 2000 (0 : Int32) v_5) (fun k_6 => sf_b (r_4 < p1) (k_6 (0 : Int32)) (k_6 (1 : Int32))))))
def f_L_watched_0 (sc : Int32) (sd : Nat → Int32) (bc : Int32) (bs : Nat → Int32) (bt : Nat → Int32) (p1 : Int32) : Option Int32 :=
  f_L_watched_0_L4 sc sd bc bs bt p1 (fun y_21 => some y_21) 2000 (0 : Int32) (0 : Int32)
theorem yd_L_watched_0 : yL_watched.cls = RL ∧ yL_watched.cls ≠ "java/lang/invoke/MethodHandle" ∧ yL_watched.cls ≠ "java/lang/invoke/VarHandle" ∧ (parseMethodDescriptor yL_watched.desc).map (fun d => d.parameters.length) = some 2 := ⟨rfl, by decide, by decide, by decide +kernel⟩
set_option maxRecDepth 100000 in
set_option maxHeartbeats 8000000 in
theorem c_L_watched_0 (l : Launch) (D : va_G) (dA : Nat → ClassId) (cA : Nat → Nat) (h0 h1 h2 h3 h4 h5 h6 h9 h10 h11 h12 h13 h14 h17 h21 h41 h43 h46 h49 : Nat) (on : Int32) (ot : Int32) (op : Int32) (os : Int32) (sc : Int32) (sd : Nat → Int32) (sp : Nat → Int32) (sw : Nat → Int32) (bc : Int32) (bg : Nat → Int32) (bs : Nat → Int32) (bt : Nat → Int32) (be : Nat → Int32) (xi : Int32) (xe : Int32) (xf : Int32) (p1 : Int32) (rr : Int32) (hf : f_L_watched_0 sc sd bc bs bt p1 = some rr) : Met l yL_watched (wo (.code yL_watched cL_watched 6 (some .int))) ({ frames := 4, cells := 0, slots := 0, locals := 84 } : Room) (preY D dA cA [.ref h0, .int p1] [(h0, .inr (9, [.ref h1, .ref h21, .int xi, .ref h41, .ref h43, .ref h46, .ref h49, .int xe, .int xf])), (h1, .inr (6, [.int on, .int ot, .int op, .int os, .ref h2, .ref h6, .ref h9, .ref h14, .ref h17])), (h2, .inr (8, [.int sc, .ref h3, .ref h4, .ref h5])), (h3, .inl (dA 0, 4, .inl sd)), (h4, .inl (dA 0, 4, .inl sp)), (h5, .inl (dA 0, 4, .inl sw)), (h9, .inr (0, [.int bc, .ref h10, .ref h11, .ref h12, .ref h13])), (h10, .inl (dA 0, 12, .inl bg)), (h11, .inl (dA 0, 12, .inl bs)), (h12, .inl (dA 0, 12, .inl bt)), (h13, .inl (dA 0, 12, .inl be))]) (poPi rr) 0 0 noA := by
  refine of_Y (y := yL_watched) (cc := cL_watched) (maxL := 6) (ret := (some .int)) (av := [.ref h0, .int p1]) (ws := [(h0, .inr (9, [.ref h1, .ref h21, .int xi, .ref h41, .ref h43, .ref h46, .ref h49, .int xe, .int xf])), (h1, .inr (6, [.int on, .int ot, .int op, .int os, .ref h2, .ref h6, .ref h9, .ref h14, .ref h17])), (h2, .inr (8, [.int sc, .ref h3, .ref h4, .ref h5])), (h3, .inl (dA 0, 4, .inl sd)), (h4, .inl (dA 0, 4, .inl sp)), (h5, .inl (dA 0, 4, .inl sw)), (h9, .inr (0, [.int bc, .ref h10, .ref h11, .ref h12, .ref h13])), (h10, .inl (dA 0, 12, .inl bg)), (h11, .inl (dA 0, 12, .inl bs)), (h12, .inl (dA 0, 12, .inl bt)), (h13, .inl (dA 0, 12, .inl be))]) (own := RL) (by decide) rfl (Nat.le_of_ble_eq_true rfl) ?_
  intro p e s m below meth c hx hb hr ha hown hml hlocks hP hK hX hS ls hl
  have hC := hX.1
  have hl : lv_has ls 6 [(0, .ref h0), (1, .int p1)] := hl
  rw [f_L_watched_0] at hf
  refine lv_iconst (v := 0) hx hb dL_watched_0 (by decide) ?_
  refine lv_istore_n (lv' := [(2, .int (0 : Int32)), (0, .ref h0), (1, .int p1)]) hx hb dL_watched_1 rfl hl (by decide) rfl (fun ls hl => ?_)
  refine lv_iconst (v := 0) hx hb dL_watched_2 (by decide) ?_
  refine lv_istore_n (lv' := [(3, .int (0 : Int32)), (2, .int (0 : Int32)), (0, .ref h0), (1, .int p1)]) hx hb dL_watched_3 rfl hl (by decide) rfl (fun ls hl => ?_)
  have hL4_21 : ∀ (n : Nat) (k : Int32 → Option Int32) (v_1 : Int32) (v_2 : Int32) (H : Heap) (locs : List Loc) (ls : Array Slot), va_P D cls [(h0, .inr (9, [.ref h1, .ref h21, .int xi, .ref h41, .ref h43, .ref h46, .ref h49, .int xe, .int xf])), (h1, .inr (6, [.int on, .int ot, .int op, .int os, .ref h2, .ref h6, .ref h9, .ref h14, .ref h17])), (h2, .inr (8, [.int sc, .ref h3, .ref h4, .ref h5])), (h3, .inl (dA 0, 4, .inl sd)), (h4, .inl (dA 0, 4, .inl sp)), (h5, .inl (dA 0, 4, .inl sw)), (h9, .inr (0, [.int bc, .ref h10, .ref h11, .ref h12, .ref h13])), (h10, .inl (dA 0, 12, .inl bg)), (h11, .inl (dA 0, 12, .inl bs)), (h12, .inl (dA 0, 12, .inl bt)), (h13, .inl (dA 0, 12, .inl be))] H → va_S noA s.heap H locs → lv_has ls 6 [(3, .int v_1), (2, .int v_2), (0, .ref h0), (1, .int p1)] → f_L_watched_0_L4 sc sd bc bs bt p1 k n v_1 v_2 = some rr → (∀ (y_21 : Int32) (H : Heap) (locs : List Loc) (ls : Array Slot), va_P D cls [(h0, .inr (9, [.ref h1, .ref h21, .int xi, .ref h41, .ref h43, .ref h46, .ref h49, .int xe, .int xf])), (h1, .inr (6, [.int on, .int ot, .int op, .int os, .ref h2, .ref h6, .ref h9, .ref h14, .ref h17])), (h2, .inr (8, [.int sc, .ref h3, .ref h4, .ref h5])), (h3, .inl (dA 0, 4, .inl sd)), (h4, .inl (dA 0, 4, .inl sp)), (h5, .inl (dA 0, 4, .inl sw)), (h9, .inr (0, [.int bc, .ref h10, .ref h11, .ref h12, .ref h13])), (h10, .inl (dA 0, 12, .inl bg)), (h11, .inl (dA 0, 12, .inl bs)), (h12, .inl (dA 0, 12, .inl bt)), (h13, .inl (dA 0, 12, .inl be))] H → va_S noA s.heap H locs → lv_has ls 6 [(2, .int y_21)] → k y_21 = some rr → W p l e ({ frames := 4, cells := 0, slots := 0, locals := 84 } : Room) s m ([.ref h0, .int p1] : List Value).toArray below meth c H locs 0 0 (MQ below (poPi rr) ([.ref h0, .int p1] : List Value).toArray s 0 0 noA) (F0 m 133 ls [])) → W p l e ({ frames := 4, cells := 0, slots := 0, locals := 84 } : Room) s m ([.ref h0, .int p1] : List Value).toArray below meth c H locs 0 0 (MQ below (poPi rr) ([.ref h0, .int p1] : List Value).toArray s 0 0 noA) (F0 m 4 ls []) := by
    intro n k
    induction n with
    | zero =>
      intro v_1 v_2 H locs ls hP hS hl hf hk
      rw [f_L_watched_0_L4] at hf
      cases hf
    | succ n ih =>
      intro v_1 v_2 H locs ls hP hS hl hf hk
      rw [f_L_watched_0_L4] at hf
      refine lv_iload_n hx hb dL_watched_4 rfl (lv_at hl 0 rfl) ?_
      refine lv_aload_n hx hb dL_watched_5 rfl (lv_at hl 2 rfl) ?_
      obtain ⟨r_3, hc3, hf⟩ := sf_c1e hf
      refine k_Pi (run_YV (As := []) (rest := [.int v_1]) ⟨hx, hb, hml, hown, ha⟩ (c_X11_bookingCount l D dA cA h0 h1 h2 h6 h9 h10 h11 h12 h13 h14 h17 h21 h41 h43 h46 h49   on ot op os bc xi xe xf  _ hc3) (gi_V m_744 m_745 m_746 m_31 m_747) yd_X11_bookingCount ⟨Nat.le_of_ble_eq_true rfl, Nat.le_of_ble_eq_true rfl⟩ ⟨rfl, rfl⟩ hK hX hS hP [0, 1, 6] rfl (va_recv hK hP (q0 := 0) rfl rfl) rfl hl.1 rfl (Nat.le_of_ble_eq_true rfl) dL_watched_6 ⟨Nat.le_of_ble_eq_true rfl, Nat.le_of_ble_eq_true rfl⟩) hP hS (fun H locs hP hS => ?_)
      refine lv_icmp_ge (tgt := 133) hx hb dL_watched_9 (by decide) (fun hc => ?_) (fun hc => ?_)
      · have hf := sf_bp hf hc
        exact hk _ _ _ _ (hP.sub [0, 1, 2, 3, 4, 5, 6, 7, 8, 9, 10] rfl) hS (lv_sub hl [1] rfl) hf
      · have hf := sf_bn hf hc
        refine lv_aload_n hx hb dL_watched_12 rfl (lv_at hl 2 rfl) ?_
        refine lv_iload_n hx hb dL_watched_13 rfl (lv_at hl 0 rfl) ?_
        obtain ⟨r_4, hc4, hf⟩ := sf_c1e hf
        refine k_Pi (run_YV (As := [.int v_1]) (rest := []) ⟨hx, hb, hml, hown, ha⟩ (c_X11_start l D dA cA h0 h1 h2 h6 h9 h10 h11 h12 h13 h14 h17 h21 h41 h43 h46 h49   on ot op os bc bg bs bt be xi xe xf v_1 _ hc4) (gi_V m_765 m_766 m_767 m_31 m_768) yd_X11_start ⟨Nat.le_of_ble_eq_true rfl, Nat.le_of_ble_eq_true rfl⟩ ⟨rfl, rfl⟩ hK hX hS hP [0, 1, 6, 7, 8, 9, 10] rfl (va_recv hK hP (q0 := 0) rfl rfl) rfl hl.1 rfl (Nat.le_of_ble_eq_true rfl) dL_watched_14 ⟨Nat.le_of_ble_eq_true rfl, Nat.le_of_ble_eq_true rfl⟩) hP hS (fun H locs hP hS => ?_)
        refine lv_iload_n hx hb dL_watched_17 rfl (lv_at hl 3 rfl) ?_
        refine sf_jo (J := fun (k_6 : Int32 → Option Int32) => ∀ (v_5 : Int32) (H : Heap) (locs : List Loc) (ls : Array Slot), va_P D cls [(h0, .inr (9, [.ref h1, .ref h21, .int xi, .ref h41, .ref h43, .ref h46, .ref h49, .int xe, .int xf])), (h1, .inr (6, [.int on, .int ot, .int op, .int os, .ref h2, .ref h6, .ref h9, .ref h14, .ref h17])), (h2, .inr (8, [.int sc, .ref h3, .ref h4, .ref h5])), (h3, .inl (dA 0, 4, .inl sd)), (h4, .inl (dA 0, 4, .inl sp)), (h5, .inl (dA 0, 4, .inl sw)), (h9, .inr (0, [.int bc, .ref h10, .ref h11, .ref h12, .ref h13])), (h10, .inl (dA 0, 12, .inl bg)), (h11, .inl (dA 0, 12, .inl bs)), (h12, .inl (dA 0, 12, .inl bt)), (h13, .inl (dA 0, 12, .inl be))] H → va_S noA s.heap H locs → lv_has ls 6 [(3, .int v_1), (2, .int v_2), (0, .ref h0), (1, .int p1)] → k_6 v_5 = some rr → W p l e ({ frames := 4, cells := 0, slots := 0, locals := 84 } : Room) s m ([.ref h0, .int p1] : List Value).toArray below meth c H locs 0 0 (MQ below (poPi rr) ([.ref h0, .int p1] : List Value).toArray s 0 0 noA) (F0 m 26 ls [.int v_5])) hf (fun v_5 H locs ls hP hS hl hf => ?_) (fun k_6 hJ6 hf => ?_)
        · skip
          refine lv_istore (lv' := [(4, .int v_5), (3, .int v_1), (2, .int v_2), (0, .ref h0), (1, .int p1)]) hx hb dL_watched_26 hl (by decide) rfl (fun ls hl => ?_)
          refine lv_iconst (v := 0) hx hb dL_watched_28 (by decide) ?_
          refine lv_istore (lv' := [(5, .int (0 : Int32)), (4, .int v_5), (3, .int v_1), (2, .int v_2), (0, .ref h0), (1, .int p1)]) hx hb dL_watched_29 hl (by decide) rfl (fun ls hl => ?_)
          have hL31_18 : ∀ (n : Nat) (k : Int32 → Option Int32) (v_7 : Int32) (v_8 : Int32) (H : Heap) (locs : List Loc) (ls : Array Slot), va_P D cls [(h0, .inr (9, [.ref h1, .ref h21, .int xi, .ref h41, .ref h43, .ref h46, .ref h49, .int xe, .int xf])), (h1, .inr (6, [.int on, .int ot, .int op, .int os, .ref h2, .ref h6, .ref h9, .ref h14, .ref h17])), (h2, .inr (8, [.int sc, .ref h3, .ref h4, .ref h5])), (h3, .inl (dA 0, 4, .inl sd)), (h4, .inl (dA 0, 4, .inl sp)), (h5, .inl (dA 0, 4, .inl sw)), (h9, .inr (0, [.int bc, .ref h10, .ref h11, .ref h12, .ref h13])), (h10, .inl (dA 0, 12, .inl bg)), (h11, .inl (dA 0, 12, .inl bs)), (h12, .inl (dA 0, 12, .inl bt)), (h13, .inl (dA 0, 12, .inl be))] H → va_S noA s.heap H locs → lv_has ls 6 [(5, .int v_7), (4, .int v_8), (3, .int v_1), (2, .int v_2), (0, .ref h0), (1, .int p1)] → f_L_watched_0_L31 sc sd bc bs bt p1 v_1 k n v_7 v_8 = some rr → (∀ (y_18 : Int32) (H : Heap) (locs : List Loc) (ls : Array Slot), va_P D cls [(h0, .inr (9, [.ref h1, .ref h21, .int xi, .ref h41, .ref h43, .ref h46, .ref h49, .int xe, .int xf])), (h1, .inr (6, [.int on, .int ot, .int op, .int os, .ref h2, .ref h6, .ref h9, .ref h14, .ref h17])), (h2, .inr (8, [.int sc, .ref h3, .ref h4, .ref h5])), (h3, .inl (dA 0, 4, .inl sd)), (h4, .inl (dA 0, 4, .inl sp)), (h5, .inl (dA 0, 4, .inl sw)), (h9, .inr (0, [.int bc, .ref h10, .ref h11, .ref h12, .ref h13])), (h10, .inl (dA 0, 12, .inl bg)), (h11, .inl (dA 0, 12, .inl bs)), (h12, .inl (dA 0, 12, .inl bt)), (h13, .inl (dA 0, 12, .inl be))] H → va_S noA s.heap H locs → lv_has ls 6 [(4, .int y_18), (3, .int v_1), (2, .int v_2), (0, .ref h0), (1, .int p1)] → k y_18 = some rr → W p l e ({ frames := 4, cells := 0, slots := 0, locals := 84 } : Room) s m ([.ref h0, .int p1] : List Value).toArray below meth c H locs 0 0 (MQ below (poPi rr) ([.ref h0, .int p1] : List Value).toArray s 0 0 noA) (F0 m 102 ls [])) → W p l e ({ frames := 4, cells := 0, slots := 0, locals := 84 } : Room) s m ([.ref h0, .int p1] : List Value).toArray below meth c H locs 0 0 (MQ below (poPi rr) ([.ref h0, .int p1] : List Value).toArray s 0 0 noA) (F0 m 31 ls []) := by
            intro n k
            induction n with
            | zero =>
              intro v_7 v_8 H locs ls hP hS hl hf hk
              rw [f_L_watched_0_L31] at hf
              cases hf
            | succ n ih =>
              intro v_7 v_8 H locs ls hP hS hl hf hk
              rw [f_L_watched_0_L31] at hf
              refine lv_iload hx hb dL_watched_31 (lv_at hl 0 rfl) ?_
              refine lv_aload_n hx hb dL_watched_33 rfl (lv_at hl 4 rfl) ?_
              obtain ⟨r_9, hc9, hf⟩ := sf_c1e hf
              refine k_Pi (run_YV (As := []) (rest := [.int v_7]) ⟨hx, hb, hml, hown, ha⟩ (c_X11_bookingCount l D dA cA h0 h1 h2 h6 h9 h10 h11 h12 h13 h14 h17 h21 h41 h43 h46 h49   on ot op os bc xi xe xf  _ hc9) (gi_V m_744 m_745 m_746 m_31 m_747) yd_X11_bookingCount ⟨Nat.le_of_ble_eq_true rfl, Nat.le_of_ble_eq_true rfl⟩ ⟨rfl, rfl⟩ hK hX hS hP [0, 1, 6] rfl (va_recv hK hP (q0 := 0) rfl rfl) rfl hl.1 rfl (Nat.le_of_ble_eq_true rfl) dL_watched_34 ⟨Nat.le_of_ble_eq_true rfl, Nat.le_of_ble_eq_true rfl⟩) hP hS (fun H locs hP hS => ?_)
              refine lv_icmp_ge (tgt := 102) hx hb dL_watched_37 (by decide) (fun hc => ?_) (fun hc => ?_)
              · have hf := sf_bp hf hc
                exact hk _ _ _ _ (hP.sub [0, 1, 2, 3, 4, 5, 6, 7, 8, 9, 10] rfl) hS (lv_sub hl [1, 2, 3, 4, 5] rfl) hf
              · have hf := sf_bn hf hc
                refine lv_iload hx hb dL_watched_40 (lv_at hl 1 rfl) ?_
                refine lv_if_eq (tgt := 102) hx hb dL_watched_42 (by decide) (fun hc => ?_) (fun hc => ?_)
                · have hf := sf_bp hf hc
                  exact hk _ _ _ _ (hP.sub [0, 1, 2, 3, 4, 5, 6, 7, 8, 9, 10] rfl) hS (lv_sub hl [1, 2, 3, 4, 5] rfl) hf
                · have hf := sf_bn hf hc
                  refine lv_aload_n hx hb dL_watched_45 rfl (lv_at hl 4 rfl) ?_
                  refine lv_iload hx hb dL_watched_46 (lv_at hl 0 rfl) ?_
                  obtain ⟨r_10, hc10, hf⟩ := sf_c1e hf
                  refine k_Pi (run_YV (As := [.int v_7]) (rest := []) ⟨hx, hb, hml, hown, ha⟩ (c_X11_start l D dA cA h0 h1 h2 h6 h9 h10 h11 h12 h13 h14 h17 h21 h41 h43 h46 h49   on ot op os bc bg bs bt be xi xe xf v_7 _ hc10) (gi_V m_765 m_766 m_767 m_31 m_768) yd_X11_start ⟨Nat.le_of_ble_eq_true rfl, Nat.le_of_ble_eq_true rfl⟩ ⟨rfl, rfl⟩ hK hX hS hP [0, 1, 6, 7, 8, 9, 10] rfl (va_recv hK hP (q0 := 0) rfl rfl) rfl hl.1 rfl (Nat.le_of_ble_eq_true rfl) dL_watched_48 ⟨Nat.le_of_ble_eq_true rfl, Nat.le_of_ble_eq_true rfl⟩) hP hS (fun H locs hP hS => ?_)
                  refine lv_iload_n hx hb dL_watched_51 rfl (lv_at hl 5 rfl) ?_
                  refine sf_jo (J := fun (k_12 : Int32 → Option Int32) => ∀ (v_11 : Int32) (H : Heap) (locs : List Loc) (ls : Array Slot), va_P D cls [(h0, .inr (9, [.ref h1, .ref h21, .int xi, .ref h41, .ref h43, .ref h46, .ref h49, .int xe, .int xf])), (h1, .inr (6, [.int on, .int ot, .int op, .int os, .ref h2, .ref h6, .ref h9, .ref h14, .ref h17])), (h2, .inr (8, [.int sc, .ref h3, .ref h4, .ref h5])), (h3, .inl (dA 0, 4, .inl sd)), (h4, .inl (dA 0, 4, .inl sp)), (h5, .inl (dA 0, 4, .inl sw)), (h9, .inr (0, [.int bc, .ref h10, .ref h11, .ref h12, .ref h13])), (h10, .inl (dA 0, 12, .inl bg)), (h11, .inl (dA 0, 12, .inl bs)), (h12, .inl (dA 0, 12, .inl bt)), (h13, .inl (dA 0, 12, .inl be))] H → va_S noA s.heap H locs → lv_has ls 6 [(5, .int v_7), (3, .int v_1), (2, .int v_2), (0, .ref h0), (1, .int p1)] → k_12 v_11 = some rr → W p l e ({ frames := 4, cells := 0, slots := 0, locals := 84 } : Room) s m ([.ref h0, .int p1] : List Value).toArray below meth c H locs 0 0 (MQ below (poPi rr) ([.ref h0, .int p1] : List Value).toArray s 0 0 noA) (F0 m 94 ls [.int v_11])) hf (fun v_11 H locs ls hP hS hl hf => ?_) (fun k_12 hJ12 hf => ?_)
                  · skip
                    refine lv_istore (lv' := [(4, .int v_11), (5, .int v_7), (3, .int v_1), (2, .int v_2), (0, .ref h0), (1, .int p1)]) hx hb dL_watched_94 hl (by decide) rfl (fun ls hl => ?_)
                    obtain ⟨x_13, ex_13, hf⟩ := sf_ne hf
                    refine ii_nc (lv' := [(5, .int x_13), (4, .int v_11), (3, .int v_1), (2, .int v_2), (0, .ref h0), (1, .int p1)]) (k := 1) hx hb dL_watched_96 hl rfl ex_13 (by decide) (by decide) rfl (fun ls hl => ?_)
                    refine lv_goto (tgt := 31) hx hb dL_watched_99 (by decide) ?_
                    exact ih _ _ _ _ _ (hP.sub [0, 1, 2, 3, 4, 5, 6, 7, 8, 9, 10] rfl) hS (lv_sub hl [0, 1, 2, 3, 4, 5] rfl) hf hk
                  refine lv_icmp_lt (tgt := 89) hx hb dL_watched_52 (by decide) (fun hc => ?_) (fun hc => ?_)
                  · have hf := sf_bp hf hc
                    refine lv_iconst (v := 1) hx hb dL_watched_89 (by decide) ?_
                    refine lv_goto (tgt := 94) hx hb dL_watched_90 (by decide) ?_
                    exact hJ12 _ _ _ _ (hP.sub [0, 1, 2, 3, 4, 5, 6, 7, 8, 9, 10] rfl) hS (lv_sub hl [0, 2, 3, 4, 5] rfl) hf
                  · have hf := sf_bn hf hc
                    refine lv_aload_n hx hb dL_watched_55 rfl (lv_at hl 4 rfl) ?_
                    refine lv_iload hx hb dL_watched_56 (lv_at hl 0 rfl) ?_
                    obtain ⟨r_14, hc14, hf⟩ := sf_c1e hf
                    refine k_Pi (run_YS (As := [.ref h0, .int v_7]) (rest := []) ⟨hx, hb, hml, hown, ha⟩ (c_L_endOf l D dA cA h0 h1 h2 h3 h4 h5 h6 h9 h10 h11 h12 h13 h14 h17 h21 h41 h43 h46 h49   on ot op os sc sd sp sw bc bg bs bt be xi xe xf v_7 _ hc14) (gi_S2 m_769 m_770 m_30 m_771) (yd_L_endOf).2 ⟨Nat.le_of_ble_eq_true rfl, Nat.le_of_ble_eq_true rfl⟩ ⟨rfl, rfl⟩ hK hX hS hP [0, 1, 2, 3, 4, 5, 6, 7, 8, 9, 10] rfl rfl hl.1 rfl (Nat.le_of_ble_eq_true rfl) dL_watched_58 ⟨Nat.le_of_ble_eq_true rfl, Nat.le_of_ble_eq_true rfl⟩) hP hS (fun H locs hP hS => ?_)
                    refine lv_aload_n hx hb dL_watched_61 rfl (lv_at hl 4 rfl) ?_
                    refine lv_iload_n hx hb dL_watched_62 rfl (lv_at hl 2 rfl) ?_
                    obtain ⟨r_15, hc15, hf⟩ := sf_c1e hf
                    refine k_Pi (run_YS (As := [.ref h0, .int v_1]) (rest := [.int r_14]) ⟨hx, hb, hml, hown, ha⟩ (c_L_endOf l D dA cA h0 h1 h2 h3 h4 h5 h6 h9 h10 h11 h12 h13 h14 h17 h21 h41 h43 h46 h49   on ot op os sc sd sp sw bc bg bs bt be xi xe xf v_1 _ hc15) (gi_S2 m_769 m_770 m_30 m_771) (yd_L_endOf).2 ⟨Nat.le_of_ble_eq_true rfl, Nat.le_of_ble_eq_true rfl⟩ ⟨rfl, rfl⟩ hK hX hS hP [0, 1, 2, 3, 4, 5, 6, 7, 8, 9, 10] rfl rfl hl.1 rfl (Nat.le_of_ble_eq_true rfl) dL_watched_63 ⟨Nat.le_of_ble_eq_true rfl, Nat.le_of_ble_eq_true rfl⟩) hP hS (fun H locs hP hS => ?_)
                    refine lv_icmp_gt (tgt := 89) hx hb dL_watched_66 (by decide) (fun hc => ?_) (fun hc => ?_)
                    · have hf := sf_bp hf hc
                      refine lv_iconst (v := 1) hx hb dL_watched_89 (by decide) ?_
                      refine lv_goto (tgt := 94) hx hb dL_watched_90 (by decide) ?_
                      exact hJ12 _ _ _ _ (hP.sub [0, 1, 2, 3, 4, 5, 6, 7, 8, 9, 10] rfl) hS (lv_sub hl [0, 2, 3, 4, 5] rfl) hf
                    · have hf := sf_bn hf hc
                      refine lv_aload_n hx hb dL_watched_69 rfl (lv_at hl 4 rfl) ?_
                      refine lv_iload hx hb dL_watched_70 (lv_at hl 0 rfl) ?_
                      obtain ⟨r_16, hc16, hf⟩ := sf_c1e hf
                      refine k_Pi (run_YS (As := [.ref h0, .int v_7]) (rest := []) ⟨hx, hb, hml, hown, ha⟩ (c_L_endOf l D dA cA h0 h1 h2 h3 h4 h5 h6 h9 h10 h11 h12 h13 h14 h17 h21 h41 h43 h46 h49   on ot op os sc sd sp sw bc bg bs bt be xi xe xf v_7 _ hc16) (gi_S2 m_769 m_770 m_30 m_771) (yd_L_endOf).2 ⟨Nat.le_of_ble_eq_true rfl, Nat.le_of_ble_eq_true rfl⟩ ⟨rfl, rfl⟩ hK hX hS hP [0, 1, 2, 3, 4, 5, 6, 7, 8, 9, 10] rfl rfl hl.1 rfl (Nat.le_of_ble_eq_true rfl) dL_watched_72 ⟨Nat.le_of_ble_eq_true rfl, Nat.le_of_ble_eq_true rfl⟩) hP hS (fun H locs hP hS => ?_)
                      refine lv_aload_n hx hb dL_watched_75 rfl (lv_at hl 4 rfl) ?_
                      refine lv_iload_n hx hb dL_watched_76 rfl (lv_at hl 2 rfl) ?_
                      obtain ⟨r_17, hc17, hf⟩ := sf_c1e hf
                      refine k_Pi (run_YS (As := [.ref h0, .int v_1]) (rest := [.int r_16]) ⟨hx, hb, hml, hown, ha⟩ (c_L_endOf l D dA cA h0 h1 h2 h3 h4 h5 h6 h9 h10 h11 h12 h13 h14 h17 h21 h41 h43 h46 h49   on ot op os sc sd sp sw bc bg bs bt be xi xe xf v_1 _ hc17) (gi_S2 m_769 m_770 m_30 m_771) (yd_L_endOf).2 ⟨Nat.le_of_ble_eq_true rfl, Nat.le_of_ble_eq_true rfl⟩ ⟨rfl, rfl⟩ hK hX hS hP [0, 1, 2, 3, 4, 5, 6, 7, 8, 9, 10] rfl rfl hl.1 rfl (Nat.le_of_ble_eq_true rfl) dL_watched_77 ⟨Nat.le_of_ble_eq_true rfl, Nat.le_of_ble_eq_true rfl⟩) hP hS (fun H locs hP hS => ?_)
                      refine lv_icmp_ne (tgt := 93) hx hb dL_watched_80 (by decide) (fun hc => ?_) (fun hc => ?_)
                      · have hf := sf_bn hf hc
                        refine lv_iconst (v := 0) hx hb dL_watched_93 (by decide) ?_
                        exact hJ12 _ _ _ _ (hP.sub [0, 1, 2, 3, 4, 5, 6, 7, 8, 9, 10] rfl) hS (lv_sub hl [0, 2, 3, 4, 5] rfl) hf
                      · have hf := sf_bp hf hc
                        refine lv_iload hx hb dL_watched_83 (lv_at hl 0 rfl) ?_
                        refine lv_iload_n hx hb dL_watched_85 rfl (lv_at hl 2 rfl) ?_
                        refine lv_icmp_lt (tgt := 93) hx hb dL_watched_86 (by decide) (fun hc => ?_) (fun hc => ?_)
                        · have hf := sf_bp hf hc
                          refine lv_iconst (v := 0) hx hb dL_watched_93 (by decide) ?_
                          exact hJ12 _ _ _ _ (hP.sub [0, 1, 2, 3, 4, 5, 6, 7, 8, 9, 10] rfl) hS (lv_sub hl [0, 2, 3, 4, 5] rfl) hf
                        · have hf := sf_bn hf hc
                          refine lv_iconst (v := 1) hx hb dL_watched_89 (by decide) ?_
                          refine lv_goto (tgt := 94) hx hb dL_watched_90 (by decide) ?_
                          exact hJ12 _ _ _ _ (hP.sub [0, 1, 2, 3, 4, 5, 6, 7, 8, 9, 10] rfl) hS (lv_sub hl [0, 2, 3, 4, 5] rfl) hf
          refine hL31_18 2000 _ _ _ _ _ _ hP hS (lv_sub hl [0, 1, 2, 3, 4, 5] rfl) hf (fun y_18 H locs ls hP hS hl hf => ?_)
          refine lv_iload hx hb dL_watched_102 (lv_at hl 0 rfl) ?_
          refine lv_if_eq (tgt := 125) hx hb dL_watched_104 (by decide) (fun hc => ?_) (fun hc => ?_)
          · have hf := sf_bp hf hc
            refine lv_iload_n hx hb dL_watched_125 rfl (lv_at hl 2 rfl) ?_
            refine lv_istore_n (lv' := [(2, .int v_2), (4, .int y_18), (3, .int v_1), (0, .ref h0), (1, .int p1)]) hx hb dL_watched_126 rfl hl (by decide) rfl (fun ls hl => ?_)
            obtain ⟨x_19, ex_19, hf⟩ := sf_ne hf
            refine ii_nc (lv' := [(3, .int x_19), (2, .int v_2), (4, .int y_18), (0, .ref h0), (1, .int p1)]) (k := 2) hx hb dL_watched_127 hl rfl ex_19 (by decide) (by decide) rfl (fun ls hl => ?_)
            refine lv_goto (tgt := 4) hx hb dL_watched_130 (by decide) ?_
            exact ih _ _ _ _ _ (hP.sub [0, 1, 2, 3, 4, 5, 6, 7, 8, 9, 10] rfl) hS (lv_sub hl [0, 1, 3, 4] rfl) hf hk
          · have hf := sf_bn hf hc
            refine lv_iload_n hx hb dL_watched_107 rfl (lv_at hl 2 rfl) ?_
            refine lv_iconst (v := 1) hx hb dL_watched_108 (by decide) ?_
            refine lv_aload_n hx hb dL_watched_109 rfl (lv_at hl 3 rfl) ?_
            refine lv_aload_n hx hb dL_watched_110 rfl (lv_at hl 3 rfl) ?_
            refine lv_iload_n hx hb dL_watched_111 rfl (lv_at hl 1 rfl) ?_
            obtain ⟨r_20, hc20, hf⟩ := sf_c1e hf
            refine k_Pi (run_YS (As := [.ref h0, .int v_1]) (rest := [.ref h0, .int (1 : Int32), .int v_2]) ⟨hx, hb, hml, hown, ha⟩ (c_L_endOf l D dA cA h0 h1 h2 h3 h4 h5 h6 h9 h10 h11 h12 h13 h14 h17 h21 h41 h43 h46 h49   on ot op os sc sd sp sw bc bg bs bt be xi xe xf v_1 _ hc20) (gi_S2 m_769 m_770 m_30 m_771) (yd_L_endOf).2 ⟨Nat.le_of_ble_eq_true rfl, Nat.le_of_ble_eq_true rfl⟩ ⟨rfl, rfl⟩ hK hX hS hP [0, 1, 2, 3, 4, 5, 6, 7, 8, 9, 10] rfl rfl hl.1 rfl (Nat.le_of_ble_eq_true rfl) dL_watched_112 ⟨Nat.le_of_ble_eq_true rfl, Nat.le_of_ble_eq_true rfl⟩) hP hS (fun H locs hP hS => ?_)
            cases hf
        refine lv_icmp_lt (tgt := 25) hx hb dL_watched_18 (by decide) (fun hc => ?_) (fun hc => ?_)
        · have hf := sf_bp hf hc
          refine lv_iconst (v := 0) hx hb dL_watched_25 (by decide) ?_
          exact hJ6 _ _ _ _ (hP.sub [0, 1, 2, 3, 4, 5, 6, 7, 8, 9, 10] rfl) hS (lv_sub hl [0, 1, 2, 3] rfl) hf
        · have hf := sf_bn hf hc
          refine lv_iconst (v := 1) hx hb dL_watched_21 (by decide) ?_
          refine lv_goto (tgt := 26) hx hb dL_watched_22 (by decide) ?_
          exact hJ6 _ _ _ _ (hP.sub [0, 1, 2, 3, 4, 5, 6, 7, 8, 9, 10] rfl) hS (lv_sub hl [0, 1, 2, 3] rfl) hf
  refine hL4_21 2000 _ _ _ _ _ _ hP hS (lv_sub hl [0, 1, 2, 3] rfl) hf (fun y_21 H locs ls hP hS hl hf => ?_)
  refine lv_iload_n hx hb dL_watched_133 rfl (lv_at hl 0 rfl) ?_
  exact rt_Pi hx hb hr hlocks (Option.some.inj hf) hS dL_watched_134

def f_L_watched_1_L31 (sc : Int32) (sd : Nat → Int32) (bc : Int32) (bs : Nat → Int32) (bt : Nat → Int32) (p1 : Int32) (v_1 : Int32) (k : Int32 → Option Int32) : Nat → Int32 → Int32 → Option Int32
  | 0, _, _ => none
  | n + 1, v_7, v_8 => sf_c1 (f_X11_bookingCount bc) (fun r_9 => sf_b (r_9 ≤ v_7) (k v_8) (sf_b (v_8 = (0 : Int32)) (k v_8) (sf_c1 (f_X11_start bc bt v_7) (fun r_10 => sf_j (fun (v_11 : Int32) => sf_n (v_7 + (1 : Int32)) (fun x_13 => f_L_watched_1_L31 sc sd bc bs bt p1 v_1 k n x_13 v_11)) (fun k_12 => sf_b (r_10 < p1) (k_12 (1 : Int32)) (sf_c1 (f_L_endOf sc sd bc bs bt v_7) (fun r_14 => sf_c1 (f_L_endOf sc sd bc bs bt v_1) (fun r_15 => sf_b (r_15 < r_14) (k_12 (1 : Int32)) (sf_c1 (f_L_endOf sc sd bc bs bt v_7) (fun r_16 => sf_c1 (f_L_endOf sc sd bc bs bt v_1) (fun r_17 => sf_b (r_16 = r_17) (sf_b (v_7 < v_1) (k_12 (0 : Int32)) (k_12 (1 : Int32))) (k_12 (0 : Int32)))))))))))))
def f_L_watched_1_L4 (sc : Int32) (sd : Nat → Int32) (bc : Int32) (bs : Nat → Int32) (bt : Nat → Int32) (p1 : Int32) (k : Int32 → Option Int32) : Nat → Int32 → Int32 → Option Int32
  | 0, _, _ => none
  | n + 1, v_1, v_2 => sf_c1 (f_X11_bookingCount bc) (fun r_3 => sf_b (r_3 ≤ v_1) (k v_2) (sf_c1 (f_X11_start bc bt v_1) (fun r_4 => sf_j (fun (v_5 : Int32) => f_L_watched_1_L31 sc sd bc bs bt p1 v_1 (fun y_18 => sf_j (fun (v_19 : Int32) => sf_n (v_1 + (1 : Int32)) (fun x_21 => f_L_watched_1_L4 sc sd bc bs bt p1 k n x_21 v_19)) (fun k_20 => sf_b (y_18 = (0 : Int32)) (k_20 v_2) (sf_c1 (f_L_endOf sc sd bc bs bt v_1) (fun r_22 => sf_c1 (f_L_watched_0 sc sd bc bs bt r_22) (fun r_23 => k_20 (if v_2 < ((1 : Int32) + r_23) then ((1 : Int32) + r_23) else v_2)))))) 2000 (0 : Int32) v_5) (fun k_6 => sf_b (r_4 < p1) (k_6 (0 : Int32)) (k_6 (1 : Int32))))))
def f_L_watched_1 (sc : Int32) (sd : Nat → Int32) (bc : Int32) (bs : Nat → Int32) (bt : Nat → Int32) (p1 : Int32) : Option Int32 :=
  f_L_watched_1_L4 sc sd bc bs bt p1 (fun y_24 => some y_24) 2000 (0 : Int32) (0 : Int32)
theorem yd_L_watched_1 : yL_watched.cls = RL ∧ yL_watched.cls ≠ "java/lang/invoke/MethodHandle" ∧ yL_watched.cls ≠ "java/lang/invoke/VarHandle" ∧ (parseMethodDescriptor yL_watched.desc).map (fun d => d.parameters.length) = some 2 := ⟨rfl, by decide, by decide, by decide +kernel⟩
set_option maxRecDepth 100000 in
set_option maxHeartbeats 8000000 in
theorem c_L_watched_1 (l : Launch) (D : va_G) (dA : Nat → ClassId) (cA : Nat → Nat) (h0 h1 h2 h3 h4 h5 h6 h9 h10 h11 h12 h13 h14 h17 h21 h41 h43 h46 h49 : Nat) (on : Int32) (ot : Int32) (op : Int32) (os : Int32) (sc : Int32) (sd : Nat → Int32) (sp : Nat → Int32) (sw : Nat → Int32) (bc : Int32) (bg : Nat → Int32) (bs : Nat → Int32) (bt : Nat → Int32) (be : Nat → Int32) (xi : Int32) (xe : Int32) (xf : Int32) (p1 : Int32) (rr : Int32) (hf : f_L_watched_1 sc sd bc bs bt p1 = some rr) : Met l yL_watched (wo (.code yL_watched cL_watched 6 (some .int))) ({ frames := 5, cells := 0, slots := 0, locals := 109 } : Room) (preY D dA cA [.ref h0, .int p1] [(h0, .inr (9, [.ref h1, .ref h21, .int xi, .ref h41, .ref h43, .ref h46, .ref h49, .int xe, .int xf])), (h1, .inr (6, [.int on, .int ot, .int op, .int os, .ref h2, .ref h6, .ref h9, .ref h14, .ref h17])), (h2, .inr (8, [.int sc, .ref h3, .ref h4, .ref h5])), (h3, .inl (dA 0, 4, .inl sd)), (h4, .inl (dA 0, 4, .inl sp)), (h5, .inl (dA 0, 4, .inl sw)), (h9, .inr (0, [.int bc, .ref h10, .ref h11, .ref h12, .ref h13])), (h10, .inl (dA 0, 12, .inl bg)), (h11, .inl (dA 0, 12, .inl bs)), (h12, .inl (dA 0, 12, .inl bt)), (h13, .inl (dA 0, 12, .inl be))]) (poPi rr) 0 0 noA := by
  refine of_Y (y := yL_watched) (cc := cL_watched) (maxL := 6) (ret := (some .int)) (av := [.ref h0, .int p1]) (ws := [(h0, .inr (9, [.ref h1, .ref h21, .int xi, .ref h41, .ref h43, .ref h46, .ref h49, .int xe, .int xf])), (h1, .inr (6, [.int on, .int ot, .int op, .int os, .ref h2, .ref h6, .ref h9, .ref h14, .ref h17])), (h2, .inr (8, [.int sc, .ref h3, .ref h4, .ref h5])), (h3, .inl (dA 0, 4, .inl sd)), (h4, .inl (dA 0, 4, .inl sp)), (h5, .inl (dA 0, 4, .inl sw)), (h9, .inr (0, [.int bc, .ref h10, .ref h11, .ref h12, .ref h13])), (h10, .inl (dA 0, 12, .inl bg)), (h11, .inl (dA 0, 12, .inl bs)), (h12, .inl (dA 0, 12, .inl bt)), (h13, .inl (dA 0, 12, .inl be))]) (own := RL) (by decide) rfl (Nat.le_of_ble_eq_true rfl) ?_
  intro p e s m below meth c hx hb hr ha hown hml hlocks hP hK hX hS ls hl
  have hC := hX.1
  have hl : lv_has ls 6 [(0, .ref h0), (1, .int p1)] := hl
  rw [f_L_watched_1] at hf
  refine lv_iconst (v := 0) hx hb dL_watched_0 (by decide) ?_
  refine lv_istore_n (lv' := [(2, .int (0 : Int32)), (0, .ref h0), (1, .int p1)]) hx hb dL_watched_1 rfl hl (by decide) rfl (fun ls hl => ?_)
  refine lv_iconst (v := 0) hx hb dL_watched_2 (by decide) ?_
  refine lv_istore_n (lv' := [(3, .int (0 : Int32)), (2, .int (0 : Int32)), (0, .ref h0), (1, .int p1)]) hx hb dL_watched_3 rfl hl (by decide) rfl (fun ls hl => ?_)
  have hL4_24 : ∀ (n : Nat) (k : Int32 → Option Int32) (v_1 : Int32) (v_2 : Int32) (H : Heap) (locs : List Loc) (ls : Array Slot), va_P D cls [(h0, .inr (9, [.ref h1, .ref h21, .int xi, .ref h41, .ref h43, .ref h46, .ref h49, .int xe, .int xf])), (h1, .inr (6, [.int on, .int ot, .int op, .int os, .ref h2, .ref h6, .ref h9, .ref h14, .ref h17])), (h2, .inr (8, [.int sc, .ref h3, .ref h4, .ref h5])), (h3, .inl (dA 0, 4, .inl sd)), (h4, .inl (dA 0, 4, .inl sp)), (h5, .inl (dA 0, 4, .inl sw)), (h9, .inr (0, [.int bc, .ref h10, .ref h11, .ref h12, .ref h13])), (h10, .inl (dA 0, 12, .inl bg)), (h11, .inl (dA 0, 12, .inl bs)), (h12, .inl (dA 0, 12, .inl bt)), (h13, .inl (dA 0, 12, .inl be))] H → va_S noA s.heap H locs → lv_has ls 6 [(3, .int v_1), (2, .int v_2), (0, .ref h0), (1, .int p1)] → f_L_watched_1_L4 sc sd bc bs bt p1 k n v_1 v_2 = some rr → (∀ (y_24 : Int32) (H : Heap) (locs : List Loc) (ls : Array Slot), va_P D cls [(h0, .inr (9, [.ref h1, .ref h21, .int xi, .ref h41, .ref h43, .ref h46, .ref h49, .int xe, .int xf])), (h1, .inr (6, [.int on, .int ot, .int op, .int os, .ref h2, .ref h6, .ref h9, .ref h14, .ref h17])), (h2, .inr (8, [.int sc, .ref h3, .ref h4, .ref h5])), (h3, .inl (dA 0, 4, .inl sd)), (h4, .inl (dA 0, 4, .inl sp)), (h5, .inl (dA 0, 4, .inl sw)), (h9, .inr (0, [.int bc, .ref h10, .ref h11, .ref h12, .ref h13])), (h10, .inl (dA 0, 12, .inl bg)), (h11, .inl (dA 0, 12, .inl bs)), (h12, .inl (dA 0, 12, .inl bt)), (h13, .inl (dA 0, 12, .inl be))] H → va_S noA s.heap H locs → lv_has ls 6 [(2, .int y_24)] → k y_24 = some rr → W p l e ({ frames := 5, cells := 0, slots := 0, locals := 109 } : Room) s m ([.ref h0, .int p1] : List Value).toArray below meth c H locs 0 0 (MQ below (poPi rr) ([.ref h0, .int p1] : List Value).toArray s 0 0 noA) (F0 m 133 ls [])) → W p l e ({ frames := 5, cells := 0, slots := 0, locals := 109 } : Room) s m ([.ref h0, .int p1] : List Value).toArray below meth c H locs 0 0 (MQ below (poPi rr) ([.ref h0, .int p1] : List Value).toArray s 0 0 noA) (F0 m 4 ls []) := by
    intro n k
    induction n with
    | zero =>
      intro v_1 v_2 H locs ls hP hS hl hf hk
      rw [f_L_watched_1_L4] at hf
      cases hf
    | succ n ih =>
      intro v_1 v_2 H locs ls hP hS hl hf hk
      rw [f_L_watched_1_L4] at hf
      refine lv_iload_n hx hb dL_watched_4 rfl (lv_at hl 0 rfl) ?_
      refine lv_aload_n hx hb dL_watched_5 rfl (lv_at hl 2 rfl) ?_
      obtain ⟨r_3, hc3, hf⟩ := sf_c1e hf
      refine k_Pi (run_YV (As := []) (rest := [.int v_1]) ⟨hx, hb, hml, hown, ha⟩ (c_X11_bookingCount l D dA cA h0 h1 h2 h6 h9 h10 h11 h12 h13 h14 h17 h21 h41 h43 h46 h49   on ot op os bc xi xe xf  _ hc3) (gi_V m_744 m_745 m_746 m_31 m_747) yd_X11_bookingCount ⟨Nat.le_of_ble_eq_true rfl, Nat.le_of_ble_eq_true rfl⟩ ⟨rfl, rfl⟩ hK hX hS hP [0, 1, 6] rfl (va_recv hK hP (q0 := 0) rfl rfl) rfl hl.1 rfl (Nat.le_of_ble_eq_true rfl) dL_watched_6 ⟨Nat.le_of_ble_eq_true rfl, Nat.le_of_ble_eq_true rfl⟩) hP hS (fun H locs hP hS => ?_)
      refine lv_icmp_ge (tgt := 133) hx hb dL_watched_9 (by decide) (fun hc => ?_) (fun hc => ?_)
      · have hf := sf_bp hf hc
        exact hk _ _ _ _ (hP.sub [0, 1, 2, 3, 4, 5, 6, 7, 8, 9, 10] rfl) hS (lv_sub hl [1] rfl) hf
      · have hf := sf_bn hf hc
        refine lv_aload_n hx hb dL_watched_12 rfl (lv_at hl 2 rfl) ?_
        refine lv_iload_n hx hb dL_watched_13 rfl (lv_at hl 0 rfl) ?_
        obtain ⟨r_4, hc4, hf⟩ := sf_c1e hf
        refine k_Pi (run_YV (As := [.int v_1]) (rest := []) ⟨hx, hb, hml, hown, ha⟩ (c_X11_start l D dA cA h0 h1 h2 h6 h9 h10 h11 h12 h13 h14 h17 h21 h41 h43 h46 h49   on ot op os bc bg bs bt be xi xe xf v_1 _ hc4) (gi_V m_765 m_766 m_767 m_31 m_768) yd_X11_start ⟨Nat.le_of_ble_eq_true rfl, Nat.le_of_ble_eq_true rfl⟩ ⟨rfl, rfl⟩ hK hX hS hP [0, 1, 6, 7, 8, 9, 10] rfl (va_recv hK hP (q0 := 0) rfl rfl) rfl hl.1 rfl (Nat.le_of_ble_eq_true rfl) dL_watched_14 ⟨Nat.le_of_ble_eq_true rfl, Nat.le_of_ble_eq_true rfl⟩) hP hS (fun H locs hP hS => ?_)
        refine lv_iload_n hx hb dL_watched_17 rfl (lv_at hl 3 rfl) ?_
        refine sf_jo (J := fun (k_6 : Int32 → Option Int32) => ∀ (v_5 : Int32) (H : Heap) (locs : List Loc) (ls : Array Slot), va_P D cls [(h0, .inr (9, [.ref h1, .ref h21, .int xi, .ref h41, .ref h43, .ref h46, .ref h49, .int xe, .int xf])), (h1, .inr (6, [.int on, .int ot, .int op, .int os, .ref h2, .ref h6, .ref h9, .ref h14, .ref h17])), (h2, .inr (8, [.int sc, .ref h3, .ref h4, .ref h5])), (h3, .inl (dA 0, 4, .inl sd)), (h4, .inl (dA 0, 4, .inl sp)), (h5, .inl (dA 0, 4, .inl sw)), (h9, .inr (0, [.int bc, .ref h10, .ref h11, .ref h12, .ref h13])), (h10, .inl (dA 0, 12, .inl bg)), (h11, .inl (dA 0, 12, .inl bs)), (h12, .inl (dA 0, 12, .inl bt)), (h13, .inl (dA 0, 12, .inl be))] H → va_S noA s.heap H locs → lv_has ls 6 [(3, .int v_1), (2, .int v_2), (0, .ref h0), (1, .int p1)] → k_6 v_5 = some rr → W p l e ({ frames := 5, cells := 0, slots := 0, locals := 109 } : Room) s m ([.ref h0, .int p1] : List Value).toArray below meth c H locs 0 0 (MQ below (poPi rr) ([.ref h0, .int p1] : List Value).toArray s 0 0 noA) (F0 m 26 ls [.int v_5])) hf (fun v_5 H locs ls hP hS hl hf => ?_) (fun k_6 hJ6 hf => ?_)
        · skip
          refine lv_istore (lv' := [(4, .int v_5), (3, .int v_1), (2, .int v_2), (0, .ref h0), (1, .int p1)]) hx hb dL_watched_26 hl (by decide) rfl (fun ls hl => ?_)
          refine lv_iconst (v := 0) hx hb dL_watched_28 (by decide) ?_
          refine lv_istore (lv' := [(5, .int (0 : Int32)), (4, .int v_5), (3, .int v_1), (2, .int v_2), (0, .ref h0), (1, .int p1)]) hx hb dL_watched_29 hl (by decide) rfl (fun ls hl => ?_)
          have hL31_18 : ∀ (n : Nat) (k : Int32 → Option Int32) (v_7 : Int32) (v_8 : Int32) (H : Heap) (locs : List Loc) (ls : Array Slot), va_P D cls [(h0, .inr (9, [.ref h1, .ref h21, .int xi, .ref h41, .ref h43, .ref h46, .ref h49, .int xe, .int xf])), (h1, .inr (6, [.int on, .int ot, .int op, .int os, .ref h2, .ref h6, .ref h9, .ref h14, .ref h17])), (h2, .inr (8, [.int sc, .ref h3, .ref h4, .ref h5])), (h3, .inl (dA 0, 4, .inl sd)), (h4, .inl (dA 0, 4, .inl sp)), (h5, .inl (dA 0, 4, .inl sw)), (h9, .inr (0, [.int bc, .ref h10, .ref h11, .ref h12, .ref h13])), (h10, .inl (dA 0, 12, .inl bg)), (h11, .inl (dA 0, 12, .inl bs)), (h12, .inl (dA 0, 12, .inl bt)), (h13, .inl (dA 0, 12, .inl be))] H → va_S noA s.heap H locs → lv_has ls 6 [(5, .int v_7), (4, .int v_8), (3, .int v_1), (2, .int v_2), (0, .ref h0), (1, .int p1)] → f_L_watched_1_L31 sc sd bc bs bt p1 v_1 k n v_7 v_8 = some rr → (∀ (y_18 : Int32) (H : Heap) (locs : List Loc) (ls : Array Slot), va_P D cls [(h0, .inr (9, [.ref h1, .ref h21, .int xi, .ref h41, .ref h43, .ref h46, .ref h49, .int xe, .int xf])), (h1, .inr (6, [.int on, .int ot, .int op, .int os, .ref h2, .ref h6, .ref h9, .ref h14, .ref h17])), (h2, .inr (8, [.int sc, .ref h3, .ref h4, .ref h5])), (h3, .inl (dA 0, 4, .inl sd)), (h4, .inl (dA 0, 4, .inl sp)), (h5, .inl (dA 0, 4, .inl sw)), (h9, .inr (0, [.int bc, .ref h10, .ref h11, .ref h12, .ref h13])), (h10, .inl (dA 0, 12, .inl bg)), (h11, .inl (dA 0, 12, .inl bs)), (h12, .inl (dA 0, 12, .inl bt)), (h13, .inl (dA 0, 12, .inl be))] H → va_S noA s.heap H locs → lv_has ls 6 [(4, .int y_18), (3, .int v_1), (2, .int v_2), (0, .ref h0), (1, .int p1)] → k y_18 = some rr → W p l e ({ frames := 5, cells := 0, slots := 0, locals := 109 } : Room) s m ([.ref h0, .int p1] : List Value).toArray below meth c H locs 0 0 (MQ below (poPi rr) ([.ref h0, .int p1] : List Value).toArray s 0 0 noA) (F0 m 102 ls [])) → W p l e ({ frames := 5, cells := 0, slots := 0, locals := 109 } : Room) s m ([.ref h0, .int p1] : List Value).toArray below meth c H locs 0 0 (MQ below (poPi rr) ([.ref h0, .int p1] : List Value).toArray s 0 0 noA) (F0 m 31 ls []) := by
            intro n k
            induction n with
            | zero =>
              intro v_7 v_8 H locs ls hP hS hl hf hk
              rw [f_L_watched_1_L31] at hf
              cases hf
            | succ n ih =>
              intro v_7 v_8 H locs ls hP hS hl hf hk
              rw [f_L_watched_1_L31] at hf
              refine lv_iload hx hb dL_watched_31 (lv_at hl 0 rfl) ?_
              refine lv_aload_n hx hb dL_watched_33 rfl (lv_at hl 4 rfl) ?_
              obtain ⟨r_9, hc9, hf⟩ := sf_c1e hf
              refine k_Pi (run_YV (As := []) (rest := [.int v_7]) ⟨hx, hb, hml, hown, ha⟩ (c_X11_bookingCount l D dA cA h0 h1 h2 h6 h9 h10 h11 h12 h13 h14 h17 h21 h41 h43 h46 h49   on ot op os bc xi xe xf  _ hc9) (gi_V m_744 m_745 m_746 m_31 m_747) yd_X11_bookingCount ⟨Nat.le_of_ble_eq_true rfl, Nat.le_of_ble_eq_true rfl⟩ ⟨rfl, rfl⟩ hK hX hS hP [0, 1, 6] rfl (va_recv hK hP (q0 := 0) rfl rfl) rfl hl.1 rfl (Nat.le_of_ble_eq_true rfl) dL_watched_34 ⟨Nat.le_of_ble_eq_true rfl, Nat.le_of_ble_eq_true rfl⟩) hP hS (fun H locs hP hS => ?_)
              refine lv_icmp_ge (tgt := 102) hx hb dL_watched_37 (by decide) (fun hc => ?_) (fun hc => ?_)
              · have hf := sf_bp hf hc
                exact hk _ _ _ _ (hP.sub [0, 1, 2, 3, 4, 5, 6, 7, 8, 9, 10] rfl) hS (lv_sub hl [1, 2, 3, 4, 5] rfl) hf
              · have hf := sf_bn hf hc
                refine lv_iload hx hb dL_watched_40 (lv_at hl 1 rfl) ?_
                refine lv_if_eq (tgt := 102) hx hb dL_watched_42 (by decide) (fun hc => ?_) (fun hc => ?_)
                · have hf := sf_bp hf hc
                  exact hk _ _ _ _ (hP.sub [0, 1, 2, 3, 4, 5, 6, 7, 8, 9, 10] rfl) hS (lv_sub hl [1, 2, 3, 4, 5] rfl) hf
                · have hf := sf_bn hf hc
                  refine lv_aload_n hx hb dL_watched_45 rfl (lv_at hl 4 rfl) ?_
                  refine lv_iload hx hb dL_watched_46 (lv_at hl 0 rfl) ?_
                  obtain ⟨r_10, hc10, hf⟩ := sf_c1e hf
                  refine k_Pi (run_YV (As := [.int v_7]) (rest := []) ⟨hx, hb, hml, hown, ha⟩ (c_X11_start l D dA cA h0 h1 h2 h6 h9 h10 h11 h12 h13 h14 h17 h21 h41 h43 h46 h49   on ot op os bc bg bs bt be xi xe xf v_7 _ hc10) (gi_V m_765 m_766 m_767 m_31 m_768) yd_X11_start ⟨Nat.le_of_ble_eq_true rfl, Nat.le_of_ble_eq_true rfl⟩ ⟨rfl, rfl⟩ hK hX hS hP [0, 1, 6, 7, 8, 9, 10] rfl (va_recv hK hP (q0 := 0) rfl rfl) rfl hl.1 rfl (Nat.le_of_ble_eq_true rfl) dL_watched_48 ⟨Nat.le_of_ble_eq_true rfl, Nat.le_of_ble_eq_true rfl⟩) hP hS (fun H locs hP hS => ?_)
                  refine lv_iload_n hx hb dL_watched_51 rfl (lv_at hl 5 rfl) ?_
                  refine sf_jo (J := fun (k_12 : Int32 → Option Int32) => ∀ (v_11 : Int32) (H : Heap) (locs : List Loc) (ls : Array Slot), va_P D cls [(h0, .inr (9, [.ref h1, .ref h21, .int xi, .ref h41, .ref h43, .ref h46, .ref h49, .int xe, .int xf])), (h1, .inr (6, [.int on, .int ot, .int op, .int os, .ref h2, .ref h6, .ref h9, .ref h14, .ref h17])), (h2, .inr (8, [.int sc, .ref h3, .ref h4, .ref h5])), (h3, .inl (dA 0, 4, .inl sd)), (h4, .inl (dA 0, 4, .inl sp)), (h5, .inl (dA 0, 4, .inl sw)), (h9, .inr (0, [.int bc, .ref h10, .ref h11, .ref h12, .ref h13])), (h10, .inl (dA 0, 12, .inl bg)), (h11, .inl (dA 0, 12, .inl bs)), (h12, .inl (dA 0, 12, .inl bt)), (h13, .inl (dA 0, 12, .inl be))] H → va_S noA s.heap H locs → lv_has ls 6 [(5, .int v_7), (3, .int v_1), (2, .int v_2), (0, .ref h0), (1, .int p1)] → k_12 v_11 = some rr → W p l e ({ frames := 5, cells := 0, slots := 0, locals := 109 } : Room) s m ([.ref h0, .int p1] : List Value).toArray below meth c H locs 0 0 (MQ below (poPi rr) ([.ref h0, .int p1] : List Value).toArray s 0 0 noA) (F0 m 94 ls [.int v_11])) hf (fun v_11 H locs ls hP hS hl hf => ?_) (fun k_12 hJ12 hf => ?_)
                  · skip
                    refine lv_istore (lv' := [(4, .int v_11), (5, .int v_7), (3, .int v_1), (2, .int v_2), (0, .ref h0), (1, .int p1)]) hx hb dL_watched_94 hl (by decide) rfl (fun ls hl => ?_)
                    obtain ⟨x_13, ex_13, hf⟩ := sf_ne hf
                    refine ii_nc (lv' := [(5, .int x_13), (4, .int v_11), (3, .int v_1), (2, .int v_2), (0, .ref h0), (1, .int p1)]) (k := 1) hx hb dL_watched_96 hl rfl ex_13 (by decide) (by decide) rfl (fun ls hl => ?_)
                    refine lv_goto (tgt := 31) hx hb dL_watched_99 (by decide) ?_
                    exact ih _ _ _ _ _ (hP.sub [0, 1, 2, 3, 4, 5, 6, 7, 8, 9, 10] rfl) hS (lv_sub hl [0, 1, 2, 3, 4, 5] rfl) hf hk
                  refine lv_icmp_lt (tgt := 89) hx hb dL_watched_52 (by decide) (fun hc => ?_) (fun hc => ?_)
                  · have hf := sf_bp hf hc
                    refine lv_iconst (v := 1) hx hb dL_watched_89 (by decide) ?_
                    refine lv_goto (tgt := 94) hx hb dL_watched_90 (by decide) ?_
                    exact hJ12 _ _ _ _ (hP.sub [0, 1, 2, 3, 4, 5, 6, 7, 8, 9, 10] rfl) hS (lv_sub hl [0, 2, 3, 4, 5] rfl) hf
                  · have hf := sf_bn hf hc
                    refine lv_aload_n hx hb dL_watched_55 rfl (lv_at hl 4 rfl) ?_
                    refine lv_iload hx hb dL_watched_56 (lv_at hl 0 rfl) ?_
                    obtain ⟨r_14, hc14, hf⟩ := sf_c1e hf
                    refine k_Pi (run_YS (As := [.ref h0, .int v_7]) (rest := []) ⟨hx, hb, hml, hown, ha⟩ (c_L_endOf l D dA cA h0 h1 h2 h3 h4 h5 h6 h9 h10 h11 h12 h13 h14 h17 h21 h41 h43 h46 h49   on ot op os sc sd sp sw bc bg bs bt be xi xe xf v_7 _ hc14) (gi_S2 m_769 m_770 m_30 m_771) (yd_L_endOf).2 ⟨Nat.le_of_ble_eq_true rfl, Nat.le_of_ble_eq_true rfl⟩ ⟨rfl, rfl⟩ hK hX hS hP [0, 1, 2, 3, 4, 5, 6, 7, 8, 9, 10] rfl rfl hl.1 rfl (Nat.le_of_ble_eq_true rfl) dL_watched_58 ⟨Nat.le_of_ble_eq_true rfl, Nat.le_of_ble_eq_true rfl⟩) hP hS (fun H locs hP hS => ?_)
                    refine lv_aload_n hx hb dL_watched_61 rfl (lv_at hl 4 rfl) ?_
                    refine lv_iload_n hx hb dL_watched_62 rfl (lv_at hl 2 rfl) ?_
                    obtain ⟨r_15, hc15, hf⟩ := sf_c1e hf
                    refine k_Pi (run_YS (As := [.ref h0, .int v_1]) (rest := [.int r_14]) ⟨hx, hb, hml, hown, ha⟩ (c_L_endOf l D dA cA h0 h1 h2 h3 h4 h5 h6 h9 h10 h11 h12 h13 h14 h17 h21 h41 h43 h46 h49   on ot op os sc sd sp sw bc bg bs bt be xi xe xf v_1 _ hc15) (gi_S2 m_769 m_770 m_30 m_771) (yd_L_endOf).2 ⟨Nat.le_of_ble_eq_true rfl, Nat.le_of_ble_eq_true rfl⟩ ⟨rfl, rfl⟩ hK hX hS hP [0, 1, 2, 3, 4, 5, 6, 7, 8, 9, 10] rfl rfl hl.1 rfl (Nat.le_of_ble_eq_true rfl) dL_watched_63 ⟨Nat.le_of_ble_eq_true rfl, Nat.le_of_ble_eq_true rfl⟩) hP hS (fun H locs hP hS => ?_)
                    refine lv_icmp_gt (tgt := 89) hx hb dL_watched_66 (by decide) (fun hc => ?_) (fun hc => ?_)
                    · have hf := sf_bp hf hc
                      refine lv_iconst (v := 1) hx hb dL_watched_89 (by decide) ?_
                      refine lv_goto (tgt := 94) hx hb dL_watched_90 (by decide) ?_
                      exact hJ12 _ _ _ _ (hP.sub [0, 1, 2, 3, 4, 5, 6, 7, 8, 9, 10] rfl) hS (lv_sub hl [0, 2, 3, 4, 5] rfl) hf
                    · have hf := sf_bn hf hc
                      refine lv_aload_n hx hb dL_watched_69 rfl (lv_at hl 4 rfl) ?_
                      refine lv_iload hx hb dL_watched_70 (lv_at hl 0 rfl) ?_
                      obtain ⟨r_16, hc16, hf⟩ := sf_c1e hf
                      refine k_Pi (run_YS (As := [.ref h0, .int v_7]) (rest := []) ⟨hx, hb, hml, hown, ha⟩ (c_L_endOf l D dA cA h0 h1 h2 h3 h4 h5 h6 h9 h10 h11 h12 h13 h14 h17 h21 h41 h43 h46 h49   on ot op os sc sd sp sw bc bg bs bt be xi xe xf v_7 _ hc16) (gi_S2 m_769 m_770 m_30 m_771) (yd_L_endOf).2 ⟨Nat.le_of_ble_eq_true rfl, Nat.le_of_ble_eq_true rfl⟩ ⟨rfl, rfl⟩ hK hX hS hP [0, 1, 2, 3, 4, 5, 6, 7, 8, 9, 10] rfl rfl hl.1 rfl (Nat.le_of_ble_eq_true rfl) dL_watched_72 ⟨Nat.le_of_ble_eq_true rfl, Nat.le_of_ble_eq_true rfl⟩) hP hS (fun H locs hP hS => ?_)
                      refine lv_aload_n hx hb dL_watched_75 rfl (lv_at hl 4 rfl) ?_
                      refine lv_iload_n hx hb dL_watched_76 rfl (lv_at hl 2 rfl) ?_
                      obtain ⟨r_17, hc17, hf⟩ := sf_c1e hf
                      refine k_Pi (run_YS (As := [.ref h0, .int v_1]) (rest := [.int r_16]) ⟨hx, hb, hml, hown, ha⟩ (c_L_endOf l D dA cA h0 h1 h2 h3 h4 h5 h6 h9 h10 h11 h12 h13 h14 h17 h21 h41 h43 h46 h49   on ot op os sc sd sp sw bc bg bs bt be xi xe xf v_1 _ hc17) (gi_S2 m_769 m_770 m_30 m_771) (yd_L_endOf).2 ⟨Nat.le_of_ble_eq_true rfl, Nat.le_of_ble_eq_true rfl⟩ ⟨rfl, rfl⟩ hK hX hS hP [0, 1, 2, 3, 4, 5, 6, 7, 8, 9, 10] rfl rfl hl.1 rfl (Nat.le_of_ble_eq_true rfl) dL_watched_77 ⟨Nat.le_of_ble_eq_true rfl, Nat.le_of_ble_eq_true rfl⟩) hP hS (fun H locs hP hS => ?_)
                      refine lv_icmp_ne (tgt := 93) hx hb dL_watched_80 (by decide) (fun hc => ?_) (fun hc => ?_)
                      · have hf := sf_bn hf hc
                        refine lv_iconst (v := 0) hx hb dL_watched_93 (by decide) ?_
                        exact hJ12 _ _ _ _ (hP.sub [0, 1, 2, 3, 4, 5, 6, 7, 8, 9, 10] rfl) hS (lv_sub hl [0, 2, 3, 4, 5] rfl) hf
                      · have hf := sf_bp hf hc
                        refine lv_iload hx hb dL_watched_83 (lv_at hl 0 rfl) ?_
                        refine lv_iload_n hx hb dL_watched_85 rfl (lv_at hl 2 rfl) ?_
                        refine lv_icmp_lt (tgt := 93) hx hb dL_watched_86 (by decide) (fun hc => ?_) (fun hc => ?_)
                        · have hf := sf_bp hf hc
                          refine lv_iconst (v := 0) hx hb dL_watched_93 (by decide) ?_
                          exact hJ12 _ _ _ _ (hP.sub [0, 1, 2, 3, 4, 5, 6, 7, 8, 9, 10] rfl) hS (lv_sub hl [0, 2, 3, 4, 5] rfl) hf
                        · have hf := sf_bn hf hc
                          refine lv_iconst (v := 1) hx hb dL_watched_89 (by decide) ?_
                          refine lv_goto (tgt := 94) hx hb dL_watched_90 (by decide) ?_
                          exact hJ12 _ _ _ _ (hP.sub [0, 1, 2, 3, 4, 5, 6, 7, 8, 9, 10] rfl) hS (lv_sub hl [0, 2, 3, 4, 5] rfl) hf
          refine hL31_18 2000 _ _ _ _ _ _ hP hS (lv_sub hl [0, 1, 2, 3, 4, 5] rfl) hf (fun y_18 H locs ls hP hS hl hf => ?_)
          refine lv_iload hx hb dL_watched_102 (lv_at hl 0 rfl) ?_
          refine sf_jo (J := fun (k_20 : Int32 → Option Int32) => ∀ (v_19 : Int32) (H : Heap) (locs : List Loc) (ls : Array Slot), va_P D cls [(h0, .inr (9, [.ref h1, .ref h21, .int xi, .ref h41, .ref h43, .ref h46, .ref h49, .int xe, .int xf])), (h1, .inr (6, [.int on, .int ot, .int op, .int os, .ref h2, .ref h6, .ref h9, .ref h14, .ref h17])), (h2, .inr (8, [.int sc, .ref h3, .ref h4, .ref h5])), (h3, .inl (dA 0, 4, .inl sd)), (h4, .inl (dA 0, 4, .inl sp)), (h5, .inl (dA 0, 4, .inl sw)), (h9, .inr (0, [.int bc, .ref h10, .ref h11, .ref h12, .ref h13])), (h10, .inl (dA 0, 12, .inl bg)), (h11, .inl (dA 0, 12, .inl bs)), (h12, .inl (dA 0, 12, .inl bt)), (h13, .inl (dA 0, 12, .inl be))] H → va_S noA s.heap H locs → lv_has ls 6 [(3, .int v_1), (0, .ref h0), (1, .int p1)] → k_20 v_19 = some rr → W p l e ({ frames := 5, cells := 0, slots := 0, locals := 109 } : Room) s m ([.ref h0, .int p1] : List Value).toArray below meth c H locs 0 0 (MQ below (poPi rr) ([.ref h0, .int p1] : List Value).toArray s 0 0 noA) (F0 m 126 ls [.int v_19])) hf (fun v_19 H locs ls hP hS hl hf => ?_) (fun k_20 hJ20 hf => ?_)
          · skip
            refine lv_istore_n (lv' := [(2, .int v_19), (3, .int v_1), (0, .ref h0), (1, .int p1)]) hx hb dL_watched_126 rfl hl (by decide) rfl (fun ls hl => ?_)
            obtain ⟨x_21, ex_21, hf⟩ := sf_ne hf
            refine ii_nc (lv' := [(3, .int x_21), (2, .int v_19), (0, .ref h0), (1, .int p1)]) (k := 1) hx hb dL_watched_127 hl rfl ex_21 (by decide) (by decide) rfl (fun ls hl => ?_)
            refine lv_goto (tgt := 4) hx hb dL_watched_130 (by decide) ?_
            exact ih _ _ _ _ _ (hP.sub [0, 1, 2, 3, 4, 5, 6, 7, 8, 9, 10] rfl) hS (lv_sub hl [0, 1, 2, 3] rfl) hf hk
          refine lv_if_eq (tgt := 125) hx hb dL_watched_104 (by decide) (fun hc => ?_) (fun hc => ?_)
          · have hf := sf_bp hf hc
            refine lv_iload_n hx hb dL_watched_125 rfl (lv_at hl 2 rfl) ?_
            exact hJ20 _ _ _ _ (hP.sub [0, 1, 2, 3, 4, 5, 6, 7, 8, 9, 10] rfl) hS (lv_sub hl [1, 3, 4] rfl) hf
          · have hf := sf_bn hf hc
            refine lv_iload_n hx hb dL_watched_107 rfl (lv_at hl 2 rfl) ?_
            refine lv_iconst (v := 1) hx hb dL_watched_108 (by decide) ?_
            refine lv_aload_n hx hb dL_watched_109 rfl (lv_at hl 3 rfl) ?_
            refine lv_aload_n hx hb dL_watched_110 rfl (lv_at hl 3 rfl) ?_
            refine lv_iload_n hx hb dL_watched_111 rfl (lv_at hl 1 rfl) ?_
            obtain ⟨r_22, hc22, hf⟩ := sf_c1e hf
            refine k_Pi (run_YS (As := [.ref h0, .int v_1]) (rest := [.ref h0, .int (1 : Int32), .int v_2]) ⟨hx, hb, hml, hown, ha⟩ (c_L_endOf l D dA cA h0 h1 h2 h3 h4 h5 h6 h9 h10 h11 h12 h13 h14 h17 h21 h41 h43 h46 h49   on ot op os sc sd sp sw bc bg bs bt be xi xe xf v_1 _ hc22) (gi_S2 m_769 m_770 m_30 m_771) (yd_L_endOf).2 ⟨Nat.le_of_ble_eq_true rfl, Nat.le_of_ble_eq_true rfl⟩ ⟨rfl, rfl⟩ hK hX hS hP [0, 1, 2, 3, 4, 5, 6, 7, 8, 9, 10] rfl rfl hl.1 rfl (Nat.le_of_ble_eq_true rfl) dL_watched_112 ⟨Nat.le_of_ble_eq_true rfl, Nat.le_of_ble_eq_true rfl⟩) hP hS (fun H locs hP hS => ?_)
            obtain ⟨r_23, hc23, hf⟩ := sf_c1e hf
            refine k_Pi (run_YS (As := [.ref h0, .int r_22]) (rest := [.int (1 : Int32), .int v_2]) ⟨hx, hb, hml, hown, ha⟩ (c_L_watched_0 l D dA cA h0 h1 h2 h3 h4 h5 h6 h9 h10 h11 h12 h13 h14 h17 h21 h41 h43 h46 h49   on ot op os sc sd sp sw bc bg bs bt be xi xe xf r_22 _ hc23) (gi_S2 m_847 m_848 m_30 m_849) (yd_L_watched_0).2 ⟨Nat.le_of_ble_eq_true rfl, Nat.le_of_ble_eq_true rfl⟩ ⟨rfl, rfl⟩ hK hX hS hP [0, 1, 2, 3, 4, 5, 6, 7, 8, 9, 10] rfl rfl hl.1 rfl (Nat.le_of_ble_eq_true rfl) dL_watched_115 ⟨Nat.le_of_ble_eq_true rfl, Nat.le_of_ble_eq_true rfl⟩) hP hS (fun H locs hP hS => ?_)
            refine lv_iadd hx hb dL_watched_118 ?_
            refine mx_i hx hb ha hown hml hl.1 m_785 m_786 m_54 m_787 ⟨Nat.le_of_ble_eq_true rfl, Nat.le_of_ble_eq_true rfl⟩ ⟨Nat.le_of_ble_eq_true rfl, Nat.le_of_ble_eq_true rfl⟩ dL_watched_119 ?_
            refine lv_goto (tgt := 126) hx hb dL_watched_122 (by decide) ?_
            exact hJ20 _ _ _ _ (hP.sub [0, 1, 2, 3, 4, 5, 6, 7, 8, 9, 10] rfl) hS (lv_sub hl [1, 3, 4] rfl) hf
        refine lv_icmp_lt (tgt := 25) hx hb dL_watched_18 (by decide) (fun hc => ?_) (fun hc => ?_)
        · have hf := sf_bp hf hc
          refine lv_iconst (v := 0) hx hb dL_watched_25 (by decide) ?_
          exact hJ6 _ _ _ _ (hP.sub [0, 1, 2, 3, 4, 5, 6, 7, 8, 9, 10] rfl) hS (lv_sub hl [0, 1, 2, 3] rfl) hf
        · have hf := sf_bn hf hc
          refine lv_iconst (v := 1) hx hb dL_watched_21 (by decide) ?_
          refine lv_goto (tgt := 26) hx hb dL_watched_22 (by decide) ?_
          exact hJ6 _ _ _ _ (hP.sub [0, 1, 2, 3, 4, 5, 6, 7, 8, 9, 10] rfl) hS (lv_sub hl [0, 1, 2, 3] rfl) hf
  refine hL4_24 2000 _ _ _ _ _ _ hP hS (lv_sub hl [0, 1, 2, 3] rfl) hf (fun y_24 H locs ls hP hS hl hf => ?_)
  refine lv_iload_n hx hb dL_watched_133 rfl (lv_at hl 0 rfl) ?_
  exact rt_Pi hx hb hr hlocks (Option.some.inj hf) hS dL_watched_134

def f_L_watched_2_L31 (sc : Int32) (sd : Nat → Int32) (bc : Int32) (bs : Nat → Int32) (bt : Nat → Int32) (p1 : Int32) (v_1 : Int32) (k : Int32 → Option Int32) : Nat → Int32 → Int32 → Option Int32
  | 0, _, _ => none
  | n + 1, v_7, v_8 => sf_c1 (f_X11_bookingCount bc) (fun r_9 => sf_b (r_9 ≤ v_7) (k v_8) (sf_b (v_8 = (0 : Int32)) (k v_8) (sf_c1 (f_X11_start bc bt v_7) (fun r_10 => sf_j (fun (v_11 : Int32) => sf_n (v_7 + (1 : Int32)) (fun x_13 => f_L_watched_2_L31 sc sd bc bs bt p1 v_1 k n x_13 v_11)) (fun k_12 => sf_b (r_10 < p1) (k_12 (1 : Int32)) (sf_c1 (f_L_endOf sc sd bc bs bt v_7) (fun r_14 => sf_c1 (f_L_endOf sc sd bc bs bt v_1) (fun r_15 => sf_b (r_15 < r_14) (k_12 (1 : Int32)) (sf_c1 (f_L_endOf sc sd bc bs bt v_7) (fun r_16 => sf_c1 (f_L_endOf sc sd bc bs bt v_1) (fun r_17 => sf_b (r_16 = r_17) (sf_b (v_7 < v_1) (k_12 (0 : Int32)) (k_12 (1 : Int32))) (k_12 (0 : Int32)))))))))))))
def f_L_watched_2_L4 (sc : Int32) (sd : Nat → Int32) (bc : Int32) (bs : Nat → Int32) (bt : Nat → Int32) (p1 : Int32) (k : Int32 → Option Int32) : Nat → Int32 → Int32 → Option Int32
  | 0, _, _ => none
  | n + 1, v_1, v_2 => sf_c1 (f_X11_bookingCount bc) (fun r_3 => sf_b (r_3 ≤ v_1) (k v_2) (sf_c1 (f_X11_start bc bt v_1) (fun r_4 => sf_j (fun (v_5 : Int32) => f_L_watched_2_L31 sc sd bc bs bt p1 v_1 (fun y_18 => sf_j (fun (v_19 : Int32) => sf_n (v_1 + (1 : Int32)) (fun x_21 => f_L_watched_2_L4 sc sd bc bs bt p1 k n x_21 v_19)) (fun k_20 => sf_b (y_18 = (0 : Int32)) (k_20 v_2) (sf_c1 (f_L_endOf sc sd bc bs bt v_1) (fun r_22 => sf_c1 (f_L_watched_1 sc sd bc bs bt r_22) (fun r_23 => k_20 (if v_2 < ((1 : Int32) + r_23) then ((1 : Int32) + r_23) else v_2)))))) 2000 (0 : Int32) v_5) (fun k_6 => sf_b (r_4 < p1) (k_6 (0 : Int32)) (k_6 (1 : Int32))))))
def f_L_watched_2 (sc : Int32) (sd : Nat → Int32) (bc : Int32) (bs : Nat → Int32) (bt : Nat → Int32) (p1 : Int32) : Option Int32 :=
  f_L_watched_2_L4 sc sd bc bs bt p1 (fun y_24 => some y_24) 2000 (0 : Int32) (0 : Int32)
theorem yd_L_watched_2 : yL_watched.cls = RL ∧ yL_watched.cls ≠ "java/lang/invoke/MethodHandle" ∧ yL_watched.cls ≠ "java/lang/invoke/VarHandle" ∧ (parseMethodDescriptor yL_watched.desc).map (fun d => d.parameters.length) = some 2 := ⟨rfl, by decide, by decide, by decide +kernel⟩
set_option maxRecDepth 100000 in
set_option maxHeartbeats 8000000 in
theorem c_L_watched_2 (l : Launch) (D : va_G) (dA : Nat → ClassId) (cA : Nat → Nat) (h0 h1 h2 h3 h4 h5 h6 h9 h10 h11 h12 h13 h14 h17 h21 h41 h43 h46 h49 : Nat) (on : Int32) (ot : Int32) (op : Int32) (os : Int32) (sc : Int32) (sd : Nat → Int32) (sp : Nat → Int32) (sw : Nat → Int32) (bc : Int32) (bg : Nat → Int32) (bs : Nat → Int32) (bt : Nat → Int32) (be : Nat → Int32) (xi : Int32) (xe : Int32) (xf : Int32) (p1 : Int32) (rr : Int32) (hf : f_L_watched_2 sc sd bc bs bt p1 = some rr) : Met l yL_watched (wo (.code yL_watched cL_watched 6 (some .int))) ({ frames := 6, cells := 0, slots := 0, locals := 134 } : Room) (preY D dA cA [.ref h0, .int p1] [(h0, .inr (9, [.ref h1, .ref h21, .int xi, .ref h41, .ref h43, .ref h46, .ref h49, .int xe, .int xf])), (h1, .inr (6, [.int on, .int ot, .int op, .int os, .ref h2, .ref h6, .ref h9, .ref h14, .ref h17])), (h2, .inr (8, [.int sc, .ref h3, .ref h4, .ref h5])), (h3, .inl (dA 0, 4, .inl sd)), (h4, .inl (dA 0, 4, .inl sp)), (h5, .inl (dA 0, 4, .inl sw)), (h9, .inr (0, [.int bc, .ref h10, .ref h11, .ref h12, .ref h13])), (h10, .inl (dA 0, 12, .inl bg)), (h11, .inl (dA 0, 12, .inl bs)), (h12, .inl (dA 0, 12, .inl bt)), (h13, .inl (dA 0, 12, .inl be))]) (poPi rr) 0 0 noA := by
  refine of_Y (y := yL_watched) (cc := cL_watched) (maxL := 6) (ret := (some .int)) (av := [.ref h0, .int p1]) (ws := [(h0, .inr (9, [.ref h1, .ref h21, .int xi, .ref h41, .ref h43, .ref h46, .ref h49, .int xe, .int xf])), (h1, .inr (6, [.int on, .int ot, .int op, .int os, .ref h2, .ref h6, .ref h9, .ref h14, .ref h17])), (h2, .inr (8, [.int sc, .ref h3, .ref h4, .ref h5])), (h3, .inl (dA 0, 4, .inl sd)), (h4, .inl (dA 0, 4, .inl sp)), (h5, .inl (dA 0, 4, .inl sw)), (h9, .inr (0, [.int bc, .ref h10, .ref h11, .ref h12, .ref h13])), (h10, .inl (dA 0, 12, .inl bg)), (h11, .inl (dA 0, 12, .inl bs)), (h12, .inl (dA 0, 12, .inl bt)), (h13, .inl (dA 0, 12, .inl be))]) (own := RL) (by decide) rfl (Nat.le_of_ble_eq_true rfl) ?_
  intro p e s m below meth c hx hb hr ha hown hml hlocks hP hK hX hS ls hl
  have hC := hX.1
  have hl : lv_has ls 6 [(0, .ref h0), (1, .int p1)] := hl
  rw [f_L_watched_2] at hf
  refine lv_iconst (v := 0) hx hb dL_watched_0 (by decide) ?_
  refine lv_istore_n (lv' := [(2, .int (0 : Int32)), (0, .ref h0), (1, .int p1)]) hx hb dL_watched_1 rfl hl (by decide) rfl (fun ls hl => ?_)
  refine lv_iconst (v := 0) hx hb dL_watched_2 (by decide) ?_
  refine lv_istore_n (lv' := [(3, .int (0 : Int32)), (2, .int (0 : Int32)), (0, .ref h0), (1, .int p1)]) hx hb dL_watched_3 rfl hl (by decide) rfl (fun ls hl => ?_)
  have hL4_24 : ∀ (n : Nat) (k : Int32 → Option Int32) (v_1 : Int32) (v_2 : Int32) (H : Heap) (locs : List Loc) (ls : Array Slot), va_P D cls [(h0, .inr (9, [.ref h1, .ref h21, .int xi, .ref h41, .ref h43, .ref h46, .ref h49, .int xe, .int xf])), (h1, .inr (6, [.int on, .int ot, .int op, .int os, .ref h2, .ref h6, .ref h9, .ref h14, .ref h17])), (h2, .inr (8, [.int sc, .ref h3, .ref h4, .ref h5])), (h3, .inl (dA 0, 4, .inl sd)), (h4, .inl (dA 0, 4, .inl sp)), (h5, .inl (dA 0, 4, .inl sw)), (h9, .inr (0, [.int bc, .ref h10, .ref h11, .ref h12, .ref h13])), (h10, .inl (dA 0, 12, .inl bg)), (h11, .inl (dA 0, 12, .inl bs)), (h12, .inl (dA 0, 12, .inl bt)), (h13, .inl (dA 0, 12, .inl be))] H → va_S noA s.heap H locs → lv_has ls 6 [(3, .int v_1), (2, .int v_2), (0, .ref h0), (1, .int p1)] → f_L_watched_2_L4 sc sd bc bs bt p1 k n v_1 v_2 = some rr → (∀ (y_24 : Int32) (H : Heap) (locs : List Loc) (ls : Array Slot), va_P D cls [(h0, .inr (9, [.ref h1, .ref h21, .int xi, .ref h41, .ref h43, .ref h46, .ref h49, .int xe, .int xf])), (h1, .inr (6, [.int on, .int ot, .int op, .int os, .ref h2, .ref h6, .ref h9, .ref h14, .ref h17])), (h2, .inr (8, [.int sc, .ref h3, .ref h4, .ref h5])), (h3, .inl (dA 0, 4, .inl sd)), (h4, .inl (dA 0, 4, .inl sp)), (h5, .inl (dA 0, 4, .inl sw)), (h9, .inr (0, [.int bc, .ref h10, .ref h11, .ref h12, .ref h13])), (h10, .inl (dA 0, 12, .inl bg)), (h11, .inl (dA 0, 12, .inl bs)), (h12, .inl (dA 0, 12, .inl bt)), (h13, .inl (dA 0, 12, .inl be))] H → va_S noA s.heap H locs → lv_has ls 6 [(2, .int y_24)] → k y_24 = some rr → W p l e ({ frames := 6, cells := 0, slots := 0, locals := 134 } : Room) s m ([.ref h0, .int p1] : List Value).toArray below meth c H locs 0 0 (MQ below (poPi rr) ([.ref h0, .int p1] : List Value).toArray s 0 0 noA) (F0 m 133 ls [])) → W p l e ({ frames := 6, cells := 0, slots := 0, locals := 134 } : Room) s m ([.ref h0, .int p1] : List Value).toArray below meth c H locs 0 0 (MQ below (poPi rr) ([.ref h0, .int p1] : List Value).toArray s 0 0 noA) (F0 m 4 ls []) := by
    intro n k
    induction n with
    | zero =>
      intro v_1 v_2 H locs ls hP hS hl hf hk
      rw [f_L_watched_2_L4] at hf
      cases hf
    | succ n ih =>
      intro v_1 v_2 H locs ls hP hS hl hf hk
      rw [f_L_watched_2_L4] at hf
      refine lv_iload_n hx hb dL_watched_4 rfl (lv_at hl 0 rfl) ?_
      refine lv_aload_n hx hb dL_watched_5 rfl (lv_at hl 2 rfl) ?_
      obtain ⟨r_3, hc3, hf⟩ := sf_c1e hf
      refine k_Pi (run_YV (As := []) (rest := [.int v_1]) ⟨hx, hb, hml, hown, ha⟩ (c_X11_bookingCount l D dA cA h0 h1 h2 h6 h9 h10 h11 h12 h13 h14 h17 h21 h41 h43 h46 h49   on ot op os bc xi xe xf  _ hc3) (gi_V m_744 m_745 m_746 m_31 m_747) yd_X11_bookingCount ⟨Nat.le_of_ble_eq_true rfl, Nat.le_of_ble_eq_true rfl⟩ ⟨rfl, rfl⟩ hK hX hS hP [0, 1, 6] rfl (va_recv hK hP (q0 := 0) rfl rfl) rfl hl.1 rfl (Nat.le_of_ble_eq_true rfl) dL_watched_6 ⟨Nat.le_of_ble_eq_true rfl, Nat.le_of_ble_eq_true rfl⟩) hP hS (fun H locs hP hS => ?_)
      refine lv_icmp_ge (tgt := 133) hx hb dL_watched_9 (by decide) (fun hc => ?_) (fun hc => ?_)
      · have hf := sf_bp hf hc
        exact hk _ _ _ _ (hP.sub [0, 1, 2, 3, 4, 5, 6, 7, 8, 9, 10] rfl) hS (lv_sub hl [1] rfl) hf
      · have hf := sf_bn hf hc
        refine lv_aload_n hx hb dL_watched_12 rfl (lv_at hl 2 rfl) ?_
        refine lv_iload_n hx hb dL_watched_13 rfl (lv_at hl 0 rfl) ?_
        obtain ⟨r_4, hc4, hf⟩ := sf_c1e hf
        refine k_Pi (run_YV (As := [.int v_1]) (rest := []) ⟨hx, hb, hml, hown, ha⟩ (c_X11_start l D dA cA h0 h1 h2 h6 h9 h10 h11 h12 h13 h14 h17 h21 h41 h43 h46 h49   on ot op os bc bg bs bt be xi xe xf v_1 _ hc4) (gi_V m_765 m_766 m_767 m_31 m_768) yd_X11_start ⟨Nat.le_of_ble_eq_true rfl, Nat.le_of_ble_eq_true rfl⟩ ⟨rfl, rfl⟩ hK hX hS hP [0, 1, 6, 7, 8, 9, 10] rfl (va_recv hK hP (q0 := 0) rfl rfl) rfl hl.1 rfl (Nat.le_of_ble_eq_true rfl) dL_watched_14 ⟨Nat.le_of_ble_eq_true rfl, Nat.le_of_ble_eq_true rfl⟩) hP hS (fun H locs hP hS => ?_)
        refine lv_iload_n hx hb dL_watched_17 rfl (lv_at hl 3 rfl) ?_
        refine sf_jo (J := fun (k_6 : Int32 → Option Int32) => ∀ (v_5 : Int32) (H : Heap) (locs : List Loc) (ls : Array Slot), va_P D cls [(h0, .inr (9, [.ref h1, .ref h21, .int xi, .ref h41, .ref h43, .ref h46, .ref h49, .int xe, .int xf])), (h1, .inr (6, [.int on, .int ot, .int op, .int os, .ref h2, .ref h6, .ref h9, .ref h14, .ref h17])), (h2, .inr (8, [.int sc, .ref h3, .ref h4, .ref h5])), (h3, .inl (dA 0, 4, .inl sd)), (h4, .inl (dA 0, 4, .inl sp)), (h5, .inl (dA 0, 4, .inl sw)), (h9, .inr (0, [.int bc, .ref h10, .ref h11, .ref h12, .ref h13])), (h10, .inl (dA 0, 12, .inl bg)), (h11, .inl (dA 0, 12, .inl bs)), (h12, .inl (dA 0, 12, .inl bt)), (h13, .inl (dA 0, 12, .inl be))] H → va_S noA s.heap H locs → lv_has ls 6 [(3, .int v_1), (2, .int v_2), (0, .ref h0), (1, .int p1)] → k_6 v_5 = some rr → W p l e ({ frames := 6, cells := 0, slots := 0, locals := 134 } : Room) s m ([.ref h0, .int p1] : List Value).toArray below meth c H locs 0 0 (MQ below (poPi rr) ([.ref h0, .int p1] : List Value).toArray s 0 0 noA) (F0 m 26 ls [.int v_5])) hf (fun v_5 H locs ls hP hS hl hf => ?_) (fun k_6 hJ6 hf => ?_)
        · skip
          refine lv_istore (lv' := [(4, .int v_5), (3, .int v_1), (2, .int v_2), (0, .ref h0), (1, .int p1)]) hx hb dL_watched_26 hl (by decide) rfl (fun ls hl => ?_)
          refine lv_iconst (v := 0) hx hb dL_watched_28 (by decide) ?_
          refine lv_istore (lv' := [(5, .int (0 : Int32)), (4, .int v_5), (3, .int v_1), (2, .int v_2), (0, .ref h0), (1, .int p1)]) hx hb dL_watched_29 hl (by decide) rfl (fun ls hl => ?_)
          have hL31_18 : ∀ (n : Nat) (k : Int32 → Option Int32) (v_7 : Int32) (v_8 : Int32) (H : Heap) (locs : List Loc) (ls : Array Slot), va_P D cls [(h0, .inr (9, [.ref h1, .ref h21, .int xi, .ref h41, .ref h43, .ref h46, .ref h49, .int xe, .int xf])), (h1, .inr (6, [.int on, .int ot, .int op, .int os, .ref h2, .ref h6, .ref h9, .ref h14, .ref h17])), (h2, .inr (8, [.int sc, .ref h3, .ref h4, .ref h5])), (h3, .inl (dA 0, 4, .inl sd)), (h4, .inl (dA 0, 4, .inl sp)), (h5, .inl (dA 0, 4, .inl sw)), (h9, .inr (0, [.int bc, .ref h10, .ref h11, .ref h12, .ref h13])), (h10, .inl (dA 0, 12, .inl bg)), (h11, .inl (dA 0, 12, .inl bs)), (h12, .inl (dA 0, 12, .inl bt)), (h13, .inl (dA 0, 12, .inl be))] H → va_S noA s.heap H locs → lv_has ls 6 [(5, .int v_7), (4, .int v_8), (3, .int v_1), (2, .int v_2), (0, .ref h0), (1, .int p1)] → f_L_watched_2_L31 sc sd bc bs bt p1 v_1 k n v_7 v_8 = some rr → (∀ (y_18 : Int32) (H : Heap) (locs : List Loc) (ls : Array Slot), va_P D cls [(h0, .inr (9, [.ref h1, .ref h21, .int xi, .ref h41, .ref h43, .ref h46, .ref h49, .int xe, .int xf])), (h1, .inr (6, [.int on, .int ot, .int op, .int os, .ref h2, .ref h6, .ref h9, .ref h14, .ref h17])), (h2, .inr (8, [.int sc, .ref h3, .ref h4, .ref h5])), (h3, .inl (dA 0, 4, .inl sd)), (h4, .inl (dA 0, 4, .inl sp)), (h5, .inl (dA 0, 4, .inl sw)), (h9, .inr (0, [.int bc, .ref h10, .ref h11, .ref h12, .ref h13])), (h10, .inl (dA 0, 12, .inl bg)), (h11, .inl (dA 0, 12, .inl bs)), (h12, .inl (dA 0, 12, .inl bt)), (h13, .inl (dA 0, 12, .inl be))] H → va_S noA s.heap H locs → lv_has ls 6 [(4, .int y_18), (3, .int v_1), (2, .int v_2), (0, .ref h0), (1, .int p1)] → k y_18 = some rr → W p l e ({ frames := 6, cells := 0, slots := 0, locals := 134 } : Room) s m ([.ref h0, .int p1] : List Value).toArray below meth c H locs 0 0 (MQ below (poPi rr) ([.ref h0, .int p1] : List Value).toArray s 0 0 noA) (F0 m 102 ls [])) → W p l e ({ frames := 6, cells := 0, slots := 0, locals := 134 } : Room) s m ([.ref h0, .int p1] : List Value).toArray below meth c H locs 0 0 (MQ below (poPi rr) ([.ref h0, .int p1] : List Value).toArray s 0 0 noA) (F0 m 31 ls []) := by
            intro n k
            induction n with
            | zero =>
              intro v_7 v_8 H locs ls hP hS hl hf hk
              rw [f_L_watched_2_L31] at hf
              cases hf
            | succ n ih =>
              intro v_7 v_8 H locs ls hP hS hl hf hk
              rw [f_L_watched_2_L31] at hf
              refine lv_iload hx hb dL_watched_31 (lv_at hl 0 rfl) ?_
              refine lv_aload_n hx hb dL_watched_33 rfl (lv_at hl 4 rfl) ?_
              obtain ⟨r_9, hc9, hf⟩ := sf_c1e hf
              refine k_Pi (run_YV (As := []) (rest := [.int v_7]) ⟨hx, hb, hml, hown, ha⟩ (c_X11_bookingCount l D dA cA h0 h1 h2 h6 h9 h10 h11 h12 h13 h14 h17 h21 h41 h43 h46 h49   on ot op os bc xi xe xf  _ hc9) (gi_V m_744 m_745 m_746 m_31 m_747) yd_X11_bookingCount ⟨Nat.le_of_ble_eq_true rfl, Nat.le_of_ble_eq_true rfl⟩ ⟨rfl, rfl⟩ hK hX hS hP [0, 1, 6] rfl (va_recv hK hP (q0 := 0) rfl rfl) rfl hl.1 rfl (Nat.le_of_ble_eq_true rfl) dL_watched_34 ⟨Nat.le_of_ble_eq_true rfl, Nat.le_of_ble_eq_true rfl⟩) hP hS (fun H locs hP hS => ?_)
              refine lv_icmp_ge (tgt := 102) hx hb dL_watched_37 (by decide) (fun hc => ?_) (fun hc => ?_)
              · have hf := sf_bp hf hc
                exact hk _ _ _ _ (hP.sub [0, 1, 2, 3, 4, 5, 6, 7, 8, 9, 10] rfl) hS (lv_sub hl [1, 2, 3, 4, 5] rfl) hf
              · have hf := sf_bn hf hc
                refine lv_iload hx hb dL_watched_40 (lv_at hl 1 rfl) ?_
                refine lv_if_eq (tgt := 102) hx hb dL_watched_42 (by decide) (fun hc => ?_) (fun hc => ?_)
                · have hf := sf_bp hf hc
                  exact hk _ _ _ _ (hP.sub [0, 1, 2, 3, 4, 5, 6, 7, 8, 9, 10] rfl) hS (lv_sub hl [1, 2, 3, 4, 5] rfl) hf
                · have hf := sf_bn hf hc
                  refine lv_aload_n hx hb dL_watched_45 rfl (lv_at hl 4 rfl) ?_
                  refine lv_iload hx hb dL_watched_46 (lv_at hl 0 rfl) ?_
                  obtain ⟨r_10, hc10, hf⟩ := sf_c1e hf
                  refine k_Pi (run_YV (As := [.int v_7]) (rest := []) ⟨hx, hb, hml, hown, ha⟩ (c_X11_start l D dA cA h0 h1 h2 h6 h9 h10 h11 h12 h13 h14 h17 h21 h41 h43 h46 h49   on ot op os bc bg bs bt be xi xe xf v_7 _ hc10) (gi_V m_765 m_766 m_767 m_31 m_768) yd_X11_start ⟨Nat.le_of_ble_eq_true rfl, Nat.le_of_ble_eq_true rfl⟩ ⟨rfl, rfl⟩ hK hX hS hP [0, 1, 6, 7, 8, 9, 10] rfl (va_recv hK hP (q0 := 0) rfl rfl) rfl hl.1 rfl (Nat.le_of_ble_eq_true rfl) dL_watched_48 ⟨Nat.le_of_ble_eq_true rfl, Nat.le_of_ble_eq_true rfl⟩) hP hS (fun H locs hP hS => ?_)
                  refine lv_iload_n hx hb dL_watched_51 rfl (lv_at hl 5 rfl) ?_
                  refine sf_jo (J := fun (k_12 : Int32 → Option Int32) => ∀ (v_11 : Int32) (H : Heap) (locs : List Loc) (ls : Array Slot), va_P D cls [(h0, .inr (9, [.ref h1, .ref h21, .int xi, .ref h41, .ref h43, .ref h46, .ref h49, .int xe, .int xf])), (h1, .inr (6, [.int on, .int ot, .int op, .int os, .ref h2, .ref h6, .ref h9, .ref h14, .ref h17])), (h2, .inr (8, [.int sc, .ref h3, .ref h4, .ref h5])), (h3, .inl (dA 0, 4, .inl sd)), (h4, .inl (dA 0, 4, .inl sp)), (h5, .inl (dA 0, 4, .inl sw)), (h9, .inr (0, [.int bc, .ref h10, .ref h11, .ref h12, .ref h13])), (h10, .inl (dA 0, 12, .inl bg)), (h11, .inl (dA 0, 12, .inl bs)), (h12, .inl (dA 0, 12, .inl bt)), (h13, .inl (dA 0, 12, .inl be))] H → va_S noA s.heap H locs → lv_has ls 6 [(5, .int v_7), (3, .int v_1), (2, .int v_2), (0, .ref h0), (1, .int p1)] → k_12 v_11 = some rr → W p l e ({ frames := 6, cells := 0, slots := 0, locals := 134 } : Room) s m ([.ref h0, .int p1] : List Value).toArray below meth c H locs 0 0 (MQ below (poPi rr) ([.ref h0, .int p1] : List Value).toArray s 0 0 noA) (F0 m 94 ls [.int v_11])) hf (fun v_11 H locs ls hP hS hl hf => ?_) (fun k_12 hJ12 hf => ?_)
                  · skip
                    refine lv_istore (lv' := [(4, .int v_11), (5, .int v_7), (3, .int v_1), (2, .int v_2), (0, .ref h0), (1, .int p1)]) hx hb dL_watched_94 hl (by decide) rfl (fun ls hl => ?_)
                    obtain ⟨x_13, ex_13, hf⟩ := sf_ne hf
                    refine ii_nc (lv' := [(5, .int x_13), (4, .int v_11), (3, .int v_1), (2, .int v_2), (0, .ref h0), (1, .int p1)]) (k := 1) hx hb dL_watched_96 hl rfl ex_13 (by decide) (by decide) rfl (fun ls hl => ?_)
                    refine lv_goto (tgt := 31) hx hb dL_watched_99 (by decide) ?_
                    exact ih _ _ _ _ _ (hP.sub [0, 1, 2, 3, 4, 5, 6, 7, 8, 9, 10] rfl) hS (lv_sub hl [0, 1, 2, 3, 4, 5] rfl) hf hk
                  refine lv_icmp_lt (tgt := 89) hx hb dL_watched_52 (by decide) (fun hc => ?_) (fun hc => ?_)
                  · have hf := sf_bp hf hc
                    refine lv_iconst (v := 1) hx hb dL_watched_89 (by decide) ?_
                    refine lv_goto (tgt := 94) hx hb dL_watched_90 (by decide) ?_
                    exact hJ12 _ _ _ _ (hP.sub [0, 1, 2, 3, 4, 5, 6, 7, 8, 9, 10] rfl) hS (lv_sub hl [0, 2, 3, 4, 5] rfl) hf
                  · have hf := sf_bn hf hc
                    refine lv_aload_n hx hb dL_watched_55 rfl (lv_at hl 4 rfl) ?_
                    refine lv_iload hx hb dL_watched_56 (lv_at hl 0 rfl) ?_
                    obtain ⟨r_14, hc14, hf⟩ := sf_c1e hf
                    refine k_Pi (run_YS (As := [.ref h0, .int v_7]) (rest := []) ⟨hx, hb, hml, hown, ha⟩ (c_L_endOf l D dA cA h0 h1 h2 h3 h4 h5 h6 h9 h10 h11 h12 h13 h14 h17 h21 h41 h43 h46 h49   on ot op os sc sd sp sw bc bg bs bt be xi xe xf v_7 _ hc14) (gi_S2 m_769 m_770 m_30 m_771) (yd_L_endOf).2 ⟨Nat.le_of_ble_eq_true rfl, Nat.le_of_ble_eq_true rfl⟩ ⟨rfl, rfl⟩ hK hX hS hP [0, 1, 2, 3, 4, 5, 6, 7, 8, 9, 10] rfl rfl hl.1 rfl (Nat.le_of_ble_eq_true rfl) dL_watched_58 ⟨Nat.le_of_ble_eq_true rfl, Nat.le_of_ble_eq_true rfl⟩) hP hS (fun H locs hP hS => ?_)
                    refine lv_aload_n hx hb dL_watched_61 rfl (lv_at hl 4 rfl) ?_
                    refine lv_iload_n hx hb dL_watched_62 rfl (lv_at hl 2 rfl) ?_
                    obtain ⟨r_15, hc15, hf⟩ := sf_c1e hf
                    refine k_Pi (run_YS (As := [.ref h0, .int v_1]) (rest := [.int r_14]) ⟨hx, hb, hml, hown, ha⟩ (c_L_endOf l D dA cA h0 h1 h2 h3 h4 h5 h6 h9 h10 h11 h12 h13 h14 h17 h21 h41 h43 h46 h49   on ot op os sc sd sp sw bc bg bs bt be xi xe xf v_1 _ hc15) (gi_S2 m_769 m_770 m_30 m_771) (yd_L_endOf).2 ⟨Nat.le_of_ble_eq_true rfl, Nat.le_of_ble_eq_true rfl⟩ ⟨rfl, rfl⟩ hK hX hS hP [0, 1, 2, 3, 4, 5, 6, 7, 8, 9, 10] rfl rfl hl.1 rfl (Nat.le_of_ble_eq_true rfl) dL_watched_63 ⟨Nat.le_of_ble_eq_true rfl, Nat.le_of_ble_eq_true rfl⟩) hP hS (fun H locs hP hS => ?_)
                    refine lv_icmp_gt (tgt := 89) hx hb dL_watched_66 (by decide) (fun hc => ?_) (fun hc => ?_)
                    · have hf := sf_bp hf hc
                      refine lv_iconst (v := 1) hx hb dL_watched_89 (by decide) ?_
                      refine lv_goto (tgt := 94) hx hb dL_watched_90 (by decide) ?_
                      exact hJ12 _ _ _ _ (hP.sub [0, 1, 2, 3, 4, 5, 6, 7, 8, 9, 10] rfl) hS (lv_sub hl [0, 2, 3, 4, 5] rfl) hf
                    · have hf := sf_bn hf hc
                      refine lv_aload_n hx hb dL_watched_69 rfl (lv_at hl 4 rfl) ?_
                      refine lv_iload hx hb dL_watched_70 (lv_at hl 0 rfl) ?_
                      obtain ⟨r_16, hc16, hf⟩ := sf_c1e hf
                      refine k_Pi (run_YS (As := [.ref h0, .int v_7]) (rest := []) ⟨hx, hb, hml, hown, ha⟩ (c_L_endOf l D dA cA h0 h1 h2 h3 h4 h5 h6 h9 h10 h11 h12 h13 h14 h17 h21 h41 h43 h46 h49   on ot op os sc sd sp sw bc bg bs bt be xi xe xf v_7 _ hc16) (gi_S2 m_769 m_770 m_30 m_771) (yd_L_endOf).2 ⟨Nat.le_of_ble_eq_true rfl, Nat.le_of_ble_eq_true rfl⟩ ⟨rfl, rfl⟩ hK hX hS hP [0, 1, 2, 3, 4, 5, 6, 7, 8, 9, 10] rfl rfl hl.1 rfl (Nat.le_of_ble_eq_true rfl) dL_watched_72 ⟨Nat.le_of_ble_eq_true rfl, Nat.le_of_ble_eq_true rfl⟩) hP hS (fun H locs hP hS => ?_)
                      refine lv_aload_n hx hb dL_watched_75 rfl (lv_at hl 4 rfl) ?_
                      refine lv_iload_n hx hb dL_watched_76 rfl (lv_at hl 2 rfl) ?_
                      obtain ⟨r_17, hc17, hf⟩ := sf_c1e hf
                      refine k_Pi (run_YS (As := [.ref h0, .int v_1]) (rest := [.int r_16]) ⟨hx, hb, hml, hown, ha⟩ (c_L_endOf l D dA cA h0 h1 h2 h3 h4 h5 h6 h9 h10 h11 h12 h13 h14 h17 h21 h41 h43 h46 h49   on ot op os sc sd sp sw bc bg bs bt be xi xe xf v_1 _ hc17) (gi_S2 m_769 m_770 m_30 m_771) (yd_L_endOf).2 ⟨Nat.le_of_ble_eq_true rfl, Nat.le_of_ble_eq_true rfl⟩ ⟨rfl, rfl⟩ hK hX hS hP [0, 1, 2, 3, 4, 5, 6, 7, 8, 9, 10] rfl rfl hl.1 rfl (Nat.le_of_ble_eq_true rfl) dL_watched_77 ⟨Nat.le_of_ble_eq_true rfl, Nat.le_of_ble_eq_true rfl⟩) hP hS (fun H locs hP hS => ?_)
                      refine lv_icmp_ne (tgt := 93) hx hb dL_watched_80 (by decide) (fun hc => ?_) (fun hc => ?_)
                      · have hf := sf_bn hf hc
                        refine lv_iconst (v := 0) hx hb dL_watched_93 (by decide) ?_
                        exact hJ12 _ _ _ _ (hP.sub [0, 1, 2, 3, 4, 5, 6, 7, 8, 9, 10] rfl) hS (lv_sub hl [0, 2, 3, 4, 5] rfl) hf
                      · have hf := sf_bp hf hc
                        refine lv_iload hx hb dL_watched_83 (lv_at hl 0 rfl) ?_
                        refine lv_iload_n hx hb dL_watched_85 rfl (lv_at hl 2 rfl) ?_
                        refine lv_icmp_lt (tgt := 93) hx hb dL_watched_86 (by decide) (fun hc => ?_) (fun hc => ?_)
                        · have hf := sf_bp hf hc
                          refine lv_iconst (v := 0) hx hb dL_watched_93 (by decide) ?_
                          exact hJ12 _ _ _ _ (hP.sub [0, 1, 2, 3, 4, 5, 6, 7, 8, 9, 10] rfl) hS (lv_sub hl [0, 2, 3, 4, 5] rfl) hf
                        · have hf := sf_bn hf hc
                          refine lv_iconst (v := 1) hx hb dL_watched_89 (by decide) ?_
                          refine lv_goto (tgt := 94) hx hb dL_watched_90 (by decide) ?_
                          exact hJ12 _ _ _ _ (hP.sub [0, 1, 2, 3, 4, 5, 6, 7, 8, 9, 10] rfl) hS (lv_sub hl [0, 2, 3, 4, 5] rfl) hf
          refine hL31_18 2000 _ _ _ _ _ _ hP hS (lv_sub hl [0, 1, 2, 3, 4, 5] rfl) hf (fun y_18 H locs ls hP hS hl hf => ?_)
          refine lv_iload hx hb dL_watched_102 (lv_at hl 0 rfl) ?_
          refine sf_jo (J := fun (k_20 : Int32 → Option Int32) => ∀ (v_19 : Int32) (H : Heap) (locs : List Loc) (ls : Array Slot), va_P D cls [(h0, .inr (9, [.ref h1, .ref h21, .int xi, .ref h41, .ref h43, .ref h46, .ref h49, .int xe, .int xf])), (h1, .inr (6, [.int on, .int ot, .int op, .int os, .ref h2, .ref h6, .ref h9, .ref h14, .ref h17])), (h2, .inr (8, [.int sc, .ref h3, .ref h4, .ref h5])), (h3, .inl (dA 0, 4, .inl sd)), (h4, .inl (dA 0, 4, .inl sp)), (h5, .inl (dA 0, 4, .inl sw)), (h9, .inr (0, [.int bc, .ref h10, .ref h11, .ref h12, .ref h13])), (h10, .inl (dA 0, 12, .inl bg)), (h11, .inl (dA 0, 12, .inl bs)), (h12, .inl (dA 0, 12, .inl bt)), (h13, .inl (dA 0, 12, .inl be))] H → va_S noA s.heap H locs → lv_has ls 6 [(3, .int v_1), (0, .ref h0), (1, .int p1)] → k_20 v_19 = some rr → W p l e ({ frames := 6, cells := 0, slots := 0, locals := 134 } : Room) s m ([.ref h0, .int p1] : List Value).toArray below meth c H locs 0 0 (MQ below (poPi rr) ([.ref h0, .int p1] : List Value).toArray s 0 0 noA) (F0 m 126 ls [.int v_19])) hf (fun v_19 H locs ls hP hS hl hf => ?_) (fun k_20 hJ20 hf => ?_)
          · skip
            refine lv_istore_n (lv' := [(2, .int v_19), (3, .int v_1), (0, .ref h0), (1, .int p1)]) hx hb dL_watched_126 rfl hl (by decide) rfl (fun ls hl => ?_)
            obtain ⟨x_21, ex_21, hf⟩ := sf_ne hf
            refine ii_nc (lv' := [(3, .int x_21), (2, .int v_19), (0, .ref h0), (1, .int p1)]) (k := 1) hx hb dL_watched_127 hl rfl ex_21 (by decide) (by decide) rfl (fun ls hl => ?_)
            refine lv_goto (tgt := 4) hx hb dL_watched_130 (by decide) ?_
            exact ih _ _ _ _ _ (hP.sub [0, 1, 2, 3, 4, 5, 6, 7, 8, 9, 10] rfl) hS (lv_sub hl [0, 1, 2, 3] rfl) hf hk
          refine lv_if_eq (tgt := 125) hx hb dL_watched_104 (by decide) (fun hc => ?_) (fun hc => ?_)
          · have hf := sf_bp hf hc
            refine lv_iload_n hx hb dL_watched_125 rfl (lv_at hl 2 rfl) ?_
            exact hJ20 _ _ _ _ (hP.sub [0, 1, 2, 3, 4, 5, 6, 7, 8, 9, 10] rfl) hS (lv_sub hl [1, 3, 4] rfl) hf
          · have hf := sf_bn hf hc
            refine lv_iload_n hx hb dL_watched_107 rfl (lv_at hl 2 rfl) ?_
            refine lv_iconst (v := 1) hx hb dL_watched_108 (by decide) ?_
            refine lv_aload_n hx hb dL_watched_109 rfl (lv_at hl 3 rfl) ?_
            refine lv_aload_n hx hb dL_watched_110 rfl (lv_at hl 3 rfl) ?_
            refine lv_iload_n hx hb dL_watched_111 rfl (lv_at hl 1 rfl) ?_
            obtain ⟨r_22, hc22, hf⟩ := sf_c1e hf
            refine k_Pi (run_YS (As := [.ref h0, .int v_1]) (rest := [.ref h0, .int (1 : Int32), .int v_2]) ⟨hx, hb, hml, hown, ha⟩ (c_L_endOf l D dA cA h0 h1 h2 h3 h4 h5 h6 h9 h10 h11 h12 h13 h14 h17 h21 h41 h43 h46 h49   on ot op os sc sd sp sw bc bg bs bt be xi xe xf v_1 _ hc22) (gi_S2 m_769 m_770 m_30 m_771) (yd_L_endOf).2 ⟨Nat.le_of_ble_eq_true rfl, Nat.le_of_ble_eq_true rfl⟩ ⟨rfl, rfl⟩ hK hX hS hP [0, 1, 2, 3, 4, 5, 6, 7, 8, 9, 10] rfl rfl hl.1 rfl (Nat.le_of_ble_eq_true rfl) dL_watched_112 ⟨Nat.le_of_ble_eq_true rfl, Nat.le_of_ble_eq_true rfl⟩) hP hS (fun H locs hP hS => ?_)
            obtain ⟨r_23, hc23, hf⟩ := sf_c1e hf
            refine k_Pi (run_YS (As := [.ref h0, .int r_22]) (rest := [.int (1 : Int32), .int v_2]) ⟨hx, hb, hml, hown, ha⟩ (c_L_watched_1 l D dA cA h0 h1 h2 h3 h4 h5 h6 h9 h10 h11 h12 h13 h14 h17 h21 h41 h43 h46 h49   on ot op os sc sd sp sw bc bg bs bt be xi xe xf r_22 _ hc23) (gi_S2 m_847 m_848 m_30 m_849) (yd_L_watched_1).2 ⟨Nat.le_of_ble_eq_true rfl, Nat.le_of_ble_eq_true rfl⟩ ⟨rfl, rfl⟩ hK hX hS hP [0, 1, 2, 3, 4, 5, 6, 7, 8, 9, 10] rfl rfl hl.1 rfl (Nat.le_of_ble_eq_true rfl) dL_watched_115 ⟨Nat.le_of_ble_eq_true rfl, Nat.le_of_ble_eq_true rfl⟩) hP hS (fun H locs hP hS => ?_)
            refine lv_iadd hx hb dL_watched_118 ?_
            refine mx_i hx hb ha hown hml hl.1 m_785 m_786 m_54 m_787 ⟨Nat.le_of_ble_eq_true rfl, Nat.le_of_ble_eq_true rfl⟩ ⟨Nat.le_of_ble_eq_true rfl, Nat.le_of_ble_eq_true rfl⟩ dL_watched_119 ?_
            refine lv_goto (tgt := 126) hx hb dL_watched_122 (by decide) ?_
            exact hJ20 _ _ _ _ (hP.sub [0, 1, 2, 3, 4, 5, 6, 7, 8, 9, 10] rfl) hS (lv_sub hl [1, 3, 4] rfl) hf
        refine lv_icmp_lt (tgt := 25) hx hb dL_watched_18 (by decide) (fun hc => ?_) (fun hc => ?_)
        · have hf := sf_bp hf hc
          refine lv_iconst (v := 0) hx hb dL_watched_25 (by decide) ?_
          exact hJ6 _ _ _ _ (hP.sub [0, 1, 2, 3, 4, 5, 6, 7, 8, 9, 10] rfl) hS (lv_sub hl [0, 1, 2, 3] rfl) hf
        · have hf := sf_bn hf hc
          refine lv_iconst (v := 1) hx hb dL_watched_21 (by decide) ?_
          refine lv_goto (tgt := 26) hx hb dL_watched_22 (by decide) ?_
          exact hJ6 _ _ _ _ (hP.sub [0, 1, 2, 3, 4, 5, 6, 7, 8, 9, 10] rfl) hS (lv_sub hl [0, 1, 2, 3] rfl) hf
  refine hL4_24 2000 _ _ _ _ _ _ hP hS (lv_sub hl [0, 1, 2, 3] rfl) hf (fun y_24 H locs ls hP hS hl hf => ?_)
  refine lv_iload_n hx hb dL_watched_133 rfl (lv_at hl 0 rfl) ?_
  exact rt_Pi hx hb hr hlocks (Option.some.inj hf) hS dL_watched_134

def f_L_watched_3_L31 (sc : Int32) (sd : Nat → Int32) (bc : Int32) (bs : Nat → Int32) (bt : Nat → Int32) (p1 : Int32) (v_1 : Int32) (k : Int32 → Option Int32) : Nat → Int32 → Int32 → Option Int32
  | 0, _, _ => none
  | n + 1, v_7, v_8 => sf_c1 (f_X11_bookingCount bc) (fun r_9 => sf_b (r_9 ≤ v_7) (k v_8) (sf_b (v_8 = (0 : Int32)) (k v_8) (sf_c1 (f_X11_start bc bt v_7) (fun r_10 => sf_j (fun (v_11 : Int32) => sf_n (v_7 + (1 : Int32)) (fun x_13 => f_L_watched_3_L31 sc sd bc bs bt p1 v_1 k n x_13 v_11)) (fun k_12 => sf_b (r_10 < p1) (k_12 (1 : Int32)) (sf_c1 (f_L_endOf sc sd bc bs bt v_7) (fun r_14 => sf_c1 (f_L_endOf sc sd bc bs bt v_1) (fun r_15 => sf_b (r_15 < r_14) (k_12 (1 : Int32)) (sf_c1 (f_L_endOf sc sd bc bs bt v_7) (fun r_16 => sf_c1 (f_L_endOf sc sd bc bs bt v_1) (fun r_17 => sf_b (r_16 = r_17) (sf_b (v_7 < v_1) (k_12 (0 : Int32)) (k_12 (1 : Int32))) (k_12 (0 : Int32)))))))))))))
def f_L_watched_3_L4 (sc : Int32) (sd : Nat → Int32) (bc : Int32) (bs : Nat → Int32) (bt : Nat → Int32) (p1 : Int32) (k : Int32 → Option Int32) : Nat → Int32 → Int32 → Option Int32
  | 0, _, _ => none
  | n + 1, v_1, v_2 => sf_c1 (f_X11_bookingCount bc) (fun r_3 => sf_b (r_3 ≤ v_1) (k v_2) (sf_c1 (f_X11_start bc bt v_1) (fun r_4 => sf_j (fun (v_5 : Int32) => f_L_watched_3_L31 sc sd bc bs bt p1 v_1 (fun y_18 => sf_j (fun (v_19 : Int32) => sf_n (v_1 + (1 : Int32)) (fun x_21 => f_L_watched_3_L4 sc sd bc bs bt p1 k n x_21 v_19)) (fun k_20 => sf_b (y_18 = (0 : Int32)) (k_20 v_2) (sf_c1 (f_L_endOf sc sd bc bs bt v_1) (fun r_22 => sf_c1 (f_L_watched_2 sc sd bc bs bt r_22) (fun r_23 => k_20 (if v_2 < ((1 : Int32) + r_23) then ((1 : Int32) + r_23) else v_2)))))) 2000 (0 : Int32) v_5) (fun k_6 => sf_b (r_4 < p1) (k_6 (0 : Int32)) (k_6 (1 : Int32))))))
def f_L_watched_3 (sc : Int32) (sd : Nat → Int32) (bc : Int32) (bs : Nat → Int32) (bt : Nat → Int32) (p1 : Int32) : Option Int32 :=
  f_L_watched_3_L4 sc sd bc bs bt p1 (fun y_24 => some y_24) 2000 (0 : Int32) (0 : Int32)
theorem yd_L_watched_3 : yL_watched.cls = RL ∧ yL_watched.cls ≠ "java/lang/invoke/MethodHandle" ∧ yL_watched.cls ≠ "java/lang/invoke/VarHandle" ∧ (parseMethodDescriptor yL_watched.desc).map (fun d => d.parameters.length) = some 2 := ⟨rfl, by decide, by decide, by decide +kernel⟩
set_option maxRecDepth 100000 in
set_option maxHeartbeats 8000000 in
theorem c_L_watched_3 (l : Launch) (D : va_G) (dA : Nat → ClassId) (cA : Nat → Nat) (h0 h1 h2 h3 h4 h5 h6 h9 h10 h11 h12 h13 h14 h17 h21 h41 h43 h46 h49 : Nat) (on : Int32) (ot : Int32) (op : Int32) (os : Int32) (sc : Int32) (sd : Nat → Int32) (sp : Nat → Int32) (sw : Nat → Int32) (bc : Int32) (bg : Nat → Int32) (bs : Nat → Int32) (bt : Nat → Int32) (be : Nat → Int32) (xi : Int32) (xe : Int32) (xf : Int32) (p1 : Int32) (rr : Int32) (hf : f_L_watched_3 sc sd bc bs bt p1 = some rr) : Met l yL_watched (wo (.code yL_watched cL_watched 6 (some .int))) ({ frames := 7, cells := 0, slots := 0, locals := 159 } : Room) (preY D dA cA [.ref h0, .int p1] [(h0, .inr (9, [.ref h1, .ref h21, .int xi, .ref h41, .ref h43, .ref h46, .ref h49, .int xe, .int xf])), (h1, .inr (6, [.int on, .int ot, .int op, .int os, .ref h2, .ref h6, .ref h9, .ref h14, .ref h17])), (h2, .inr (8, [.int sc, .ref h3, .ref h4, .ref h5])), (h3, .inl (dA 0, 4, .inl sd)), (h4, .inl (dA 0, 4, .inl sp)), (h5, .inl (dA 0, 4, .inl sw)), (h9, .inr (0, [.int bc, .ref h10, .ref h11, .ref h12, .ref h13])), (h10, .inl (dA 0, 12, .inl bg)), (h11, .inl (dA 0, 12, .inl bs)), (h12, .inl (dA 0, 12, .inl bt)), (h13, .inl (dA 0, 12, .inl be))]) (poPi rr) 0 0 noA := by
  refine of_Y (y := yL_watched) (cc := cL_watched) (maxL := 6) (ret := (some .int)) (av := [.ref h0, .int p1]) (ws := [(h0, .inr (9, [.ref h1, .ref h21, .int xi, .ref h41, .ref h43, .ref h46, .ref h49, .int xe, .int xf])), (h1, .inr (6, [.int on, .int ot, .int op, .int os, .ref h2, .ref h6, .ref h9, .ref h14, .ref h17])), (h2, .inr (8, [.int sc, .ref h3, .ref h4, .ref h5])), (h3, .inl (dA 0, 4, .inl sd)), (h4, .inl (dA 0, 4, .inl sp)), (h5, .inl (dA 0, 4, .inl sw)), (h9, .inr (0, [.int bc, .ref h10, .ref h11, .ref h12, .ref h13])), (h10, .inl (dA 0, 12, .inl bg)), (h11, .inl (dA 0, 12, .inl bs)), (h12, .inl (dA 0, 12, .inl bt)), (h13, .inl (dA 0, 12, .inl be))]) (own := RL) (by decide) rfl (Nat.le_of_ble_eq_true rfl) ?_
  intro p e s m below meth c hx hb hr ha hown hml hlocks hP hK hX hS ls hl
  have hC := hX.1
  have hl : lv_has ls 6 [(0, .ref h0), (1, .int p1)] := hl
  rw [f_L_watched_3] at hf
  refine lv_iconst (v := 0) hx hb dL_watched_0 (by decide) ?_
  refine lv_istore_n (lv' := [(2, .int (0 : Int32)), (0, .ref h0), (1, .int p1)]) hx hb dL_watched_1 rfl hl (by decide) rfl (fun ls hl => ?_)
  refine lv_iconst (v := 0) hx hb dL_watched_2 (by decide) ?_
  refine lv_istore_n (lv' := [(3, .int (0 : Int32)), (2, .int (0 : Int32)), (0, .ref h0), (1, .int p1)]) hx hb dL_watched_3 rfl hl (by decide) rfl (fun ls hl => ?_)
  have hL4_24 : ∀ (n : Nat) (k : Int32 → Option Int32) (v_1 : Int32) (v_2 : Int32) (H : Heap) (locs : List Loc) (ls : Array Slot), va_P D cls [(h0, .inr (9, [.ref h1, .ref h21, .int xi, .ref h41, .ref h43, .ref h46, .ref h49, .int xe, .int xf])), (h1, .inr (6, [.int on, .int ot, .int op, .int os, .ref h2, .ref h6, .ref h9, .ref h14, .ref h17])), (h2, .inr (8, [.int sc, .ref h3, .ref h4, .ref h5])), (h3, .inl (dA 0, 4, .inl sd)), (h4, .inl (dA 0, 4, .inl sp)), (h5, .inl (dA 0, 4, .inl sw)), (h9, .inr (0, [.int bc, .ref h10, .ref h11, .ref h12, .ref h13])), (h10, .inl (dA 0, 12, .inl bg)), (h11, .inl (dA 0, 12, .inl bs)), (h12, .inl (dA 0, 12, .inl bt)), (h13, .inl (dA 0, 12, .inl be))] H → va_S noA s.heap H locs → lv_has ls 6 [(3, .int v_1), (2, .int v_2), (0, .ref h0), (1, .int p1)] → f_L_watched_3_L4 sc sd bc bs bt p1 k n v_1 v_2 = some rr → (∀ (y_24 : Int32) (H : Heap) (locs : List Loc) (ls : Array Slot), va_P D cls [(h0, .inr (9, [.ref h1, .ref h21, .int xi, .ref h41, .ref h43, .ref h46, .ref h49, .int xe, .int xf])), (h1, .inr (6, [.int on, .int ot, .int op, .int os, .ref h2, .ref h6, .ref h9, .ref h14, .ref h17])), (h2, .inr (8, [.int sc, .ref h3, .ref h4, .ref h5])), (h3, .inl (dA 0, 4, .inl sd)), (h4, .inl (dA 0, 4, .inl sp)), (h5, .inl (dA 0, 4, .inl sw)), (h9, .inr (0, [.int bc, .ref h10, .ref h11, .ref h12, .ref h13])), (h10, .inl (dA 0, 12, .inl bg)), (h11, .inl (dA 0, 12, .inl bs)), (h12, .inl (dA 0, 12, .inl bt)), (h13, .inl (dA 0, 12, .inl be))] H → va_S noA s.heap H locs → lv_has ls 6 [(2, .int y_24)] → k y_24 = some rr → W p l e ({ frames := 7, cells := 0, slots := 0, locals := 159 } : Room) s m ([.ref h0, .int p1] : List Value).toArray below meth c H locs 0 0 (MQ below (poPi rr) ([.ref h0, .int p1] : List Value).toArray s 0 0 noA) (F0 m 133 ls [])) → W p l e ({ frames := 7, cells := 0, slots := 0, locals := 159 } : Room) s m ([.ref h0, .int p1] : List Value).toArray below meth c H locs 0 0 (MQ below (poPi rr) ([.ref h0, .int p1] : List Value).toArray s 0 0 noA) (F0 m 4 ls []) := by
    intro n k
    induction n with
    | zero =>
      intro v_1 v_2 H locs ls hP hS hl hf hk
      rw [f_L_watched_3_L4] at hf
      cases hf
    | succ n ih =>
      intro v_1 v_2 H locs ls hP hS hl hf hk
      rw [f_L_watched_3_L4] at hf
      refine lv_iload_n hx hb dL_watched_4 rfl (lv_at hl 0 rfl) ?_
      refine lv_aload_n hx hb dL_watched_5 rfl (lv_at hl 2 rfl) ?_
      obtain ⟨r_3, hc3, hf⟩ := sf_c1e hf
      refine k_Pi (run_YV (As := []) (rest := [.int v_1]) ⟨hx, hb, hml, hown, ha⟩ (c_X11_bookingCount l D dA cA h0 h1 h2 h6 h9 h10 h11 h12 h13 h14 h17 h21 h41 h43 h46 h49   on ot op os bc xi xe xf  _ hc3) (gi_V m_744 m_745 m_746 m_31 m_747) yd_X11_bookingCount ⟨Nat.le_of_ble_eq_true rfl, Nat.le_of_ble_eq_true rfl⟩ ⟨rfl, rfl⟩ hK hX hS hP [0, 1, 6] rfl (va_recv hK hP (q0 := 0) rfl rfl) rfl hl.1 rfl (Nat.le_of_ble_eq_true rfl) dL_watched_6 ⟨Nat.le_of_ble_eq_true rfl, Nat.le_of_ble_eq_true rfl⟩) hP hS (fun H locs hP hS => ?_)
      refine lv_icmp_ge (tgt := 133) hx hb dL_watched_9 (by decide) (fun hc => ?_) (fun hc => ?_)
      · have hf := sf_bp hf hc
        exact hk _ _ _ _ (hP.sub [0, 1, 2, 3, 4, 5, 6, 7, 8, 9, 10] rfl) hS (lv_sub hl [1] rfl) hf
      · have hf := sf_bn hf hc
        refine lv_aload_n hx hb dL_watched_12 rfl (lv_at hl 2 rfl) ?_
        refine lv_iload_n hx hb dL_watched_13 rfl (lv_at hl 0 rfl) ?_
        obtain ⟨r_4, hc4, hf⟩ := sf_c1e hf
        refine k_Pi (run_YV (As := [.int v_1]) (rest := []) ⟨hx, hb, hml, hown, ha⟩ (c_X11_start l D dA cA h0 h1 h2 h6 h9 h10 h11 h12 h13 h14 h17 h21 h41 h43 h46 h49   on ot op os bc bg bs bt be xi xe xf v_1 _ hc4) (gi_V m_765 m_766 m_767 m_31 m_768) yd_X11_start ⟨Nat.le_of_ble_eq_true rfl, Nat.le_of_ble_eq_true rfl⟩ ⟨rfl, rfl⟩ hK hX hS hP [0, 1, 6, 7, 8, 9, 10] rfl (va_recv hK hP (q0 := 0) rfl rfl) rfl hl.1 rfl (Nat.le_of_ble_eq_true rfl) dL_watched_14 ⟨Nat.le_of_ble_eq_true rfl, Nat.le_of_ble_eq_true rfl⟩) hP hS (fun H locs hP hS => ?_)
        refine lv_iload_n hx hb dL_watched_17 rfl (lv_at hl 3 rfl) ?_
        refine sf_jo (J := fun (k_6 : Int32 → Option Int32) => ∀ (v_5 : Int32) (H : Heap) (locs : List Loc) (ls : Array Slot), va_P D cls [(h0, .inr (9, [.ref h1, .ref h21, .int xi, .ref h41, .ref h43, .ref h46, .ref h49, .int xe, .int xf])), (h1, .inr (6, [.int on, .int ot, .int op, .int os, .ref h2, .ref h6, .ref h9, .ref h14, .ref h17])), (h2, .inr (8, [.int sc, .ref h3, .ref h4, .ref h5])), (h3, .inl (dA 0, 4, .inl sd)), (h4, .inl (dA 0, 4, .inl sp)), (h5, .inl (dA 0, 4, .inl sw)), (h9, .inr (0, [.int bc, .ref h10, .ref h11, .ref h12, .ref h13])), (h10, .inl (dA 0, 12, .inl bg)), (h11, .inl (dA 0, 12, .inl bs)), (h12, .inl (dA 0, 12, .inl bt)), (h13, .inl (dA 0, 12, .inl be))] H → va_S noA s.heap H locs → lv_has ls 6 [(3, .int v_1), (2, .int v_2), (0, .ref h0), (1, .int p1)] → k_6 v_5 = some rr → W p l e ({ frames := 7, cells := 0, slots := 0, locals := 159 } : Room) s m ([.ref h0, .int p1] : List Value).toArray below meth c H locs 0 0 (MQ below (poPi rr) ([.ref h0, .int p1] : List Value).toArray s 0 0 noA) (F0 m 26 ls [.int v_5])) hf (fun v_5 H locs ls hP hS hl hf => ?_) (fun k_6 hJ6 hf => ?_)
        · skip
          refine lv_istore (lv' := [(4, .int v_5), (3, .int v_1), (2, .int v_2), (0, .ref h0), (1, .int p1)]) hx hb dL_watched_26 hl (by decide) rfl (fun ls hl => ?_)
          refine lv_iconst (v := 0) hx hb dL_watched_28 (by decide) ?_
          refine lv_istore (lv' := [(5, .int (0 : Int32)), (4, .int v_5), (3, .int v_1), (2, .int v_2), (0, .ref h0), (1, .int p1)]) hx hb dL_watched_29 hl (by decide) rfl (fun ls hl => ?_)
          have hL31_18 : ∀ (n : Nat) (k : Int32 → Option Int32) (v_7 : Int32) (v_8 : Int32) (H : Heap) (locs : List Loc) (ls : Array Slot), va_P D cls [(h0, .inr (9, [.ref h1, .ref h21, .int xi, .ref h41, .ref h43, .ref h46, .ref h49, .int xe, .int xf])), (h1, .inr (6, [.int on, .int ot, .int op, .int os, .ref h2, .ref h6, .ref h9, .ref h14, .ref h17])), (h2, .inr (8, [.int sc, .ref h3, .ref h4, .ref h5])), (h3, .inl (dA 0, 4, .inl sd)), (h4, .inl (dA 0, 4, .inl sp)), (h5, .inl (dA 0, 4, .inl sw)), (h9, .inr (0, [.int bc, .ref h10, .ref h11, .ref h12, .ref h13])), (h10, .inl (dA 0, 12, .inl bg)), (h11, .inl (dA 0, 12, .inl bs)), (h12, .inl (dA 0, 12, .inl bt)), (h13, .inl (dA 0, 12, .inl be))] H → va_S noA s.heap H locs → lv_has ls 6 [(5, .int v_7), (4, .int v_8), (3, .int v_1), (2, .int v_2), (0, .ref h0), (1, .int p1)] → f_L_watched_3_L31 sc sd bc bs bt p1 v_1 k n v_7 v_8 = some rr → (∀ (y_18 : Int32) (H : Heap) (locs : List Loc) (ls : Array Slot), va_P D cls [(h0, .inr (9, [.ref h1, .ref h21, .int xi, .ref h41, .ref h43, .ref h46, .ref h49, .int xe, .int xf])), (h1, .inr (6, [.int on, .int ot, .int op, .int os, .ref h2, .ref h6, .ref h9, .ref h14, .ref h17])), (h2, .inr (8, [.int sc, .ref h3, .ref h4, .ref h5])), (h3, .inl (dA 0, 4, .inl sd)), (h4, .inl (dA 0, 4, .inl sp)), (h5, .inl (dA 0, 4, .inl sw)), (h9, .inr (0, [.int bc, .ref h10, .ref h11, .ref h12, .ref h13])), (h10, .inl (dA 0, 12, .inl bg)), (h11, .inl (dA 0, 12, .inl bs)), (h12, .inl (dA 0, 12, .inl bt)), (h13, .inl (dA 0, 12, .inl be))] H → va_S noA s.heap H locs → lv_has ls 6 [(4, .int y_18), (3, .int v_1), (2, .int v_2), (0, .ref h0), (1, .int p1)] → k y_18 = some rr → W p l e ({ frames := 7, cells := 0, slots := 0, locals := 159 } : Room) s m ([.ref h0, .int p1] : List Value).toArray below meth c H locs 0 0 (MQ below (poPi rr) ([.ref h0, .int p1] : List Value).toArray s 0 0 noA) (F0 m 102 ls [])) → W p l e ({ frames := 7, cells := 0, slots := 0, locals := 159 } : Room) s m ([.ref h0, .int p1] : List Value).toArray below meth c H locs 0 0 (MQ below (poPi rr) ([.ref h0, .int p1] : List Value).toArray s 0 0 noA) (F0 m 31 ls []) := by
            intro n k
            induction n with
            | zero =>
              intro v_7 v_8 H locs ls hP hS hl hf hk
              rw [f_L_watched_3_L31] at hf
              cases hf
            | succ n ih =>
              intro v_7 v_8 H locs ls hP hS hl hf hk
              rw [f_L_watched_3_L31] at hf
              refine lv_iload hx hb dL_watched_31 (lv_at hl 0 rfl) ?_
              refine lv_aload_n hx hb dL_watched_33 rfl (lv_at hl 4 rfl) ?_
              obtain ⟨r_9, hc9, hf⟩ := sf_c1e hf
              refine k_Pi (run_YV (As := []) (rest := [.int v_7]) ⟨hx, hb, hml, hown, ha⟩ (c_X11_bookingCount l D dA cA h0 h1 h2 h6 h9 h10 h11 h12 h13 h14 h17 h21 h41 h43 h46 h49   on ot op os bc xi xe xf  _ hc9) (gi_V m_744 m_745 m_746 m_31 m_747) yd_X11_bookingCount ⟨Nat.le_of_ble_eq_true rfl, Nat.le_of_ble_eq_true rfl⟩ ⟨rfl, rfl⟩ hK hX hS hP [0, 1, 6] rfl (va_recv hK hP (q0 := 0) rfl rfl) rfl hl.1 rfl (Nat.le_of_ble_eq_true rfl) dL_watched_34 ⟨Nat.le_of_ble_eq_true rfl, Nat.le_of_ble_eq_true rfl⟩) hP hS (fun H locs hP hS => ?_)
              refine lv_icmp_ge (tgt := 102) hx hb dL_watched_37 (by decide) (fun hc => ?_) (fun hc => ?_)
              · have hf := sf_bp hf hc
                exact hk _ _ _ _ (hP.sub [0, 1, 2, 3, 4, 5, 6, 7, 8, 9, 10] rfl) hS (lv_sub hl [1, 2, 3, 4, 5] rfl) hf
              · have hf := sf_bn hf hc
                refine lv_iload hx hb dL_watched_40 (lv_at hl 1 rfl) ?_
                refine lv_if_eq (tgt := 102) hx hb dL_watched_42 (by decide) (fun hc => ?_) (fun hc => ?_)
                · have hf := sf_bp hf hc
                  exact hk _ _ _ _ (hP.sub [0, 1, 2, 3, 4, 5, 6, 7, 8, 9, 10] rfl) hS (lv_sub hl [1, 2, 3, 4, 5] rfl) hf
                · have hf := sf_bn hf hc
                  refine lv_aload_n hx hb dL_watched_45 rfl (lv_at hl 4 rfl) ?_
                  refine lv_iload hx hb dL_watched_46 (lv_at hl 0 rfl) ?_
                  obtain ⟨r_10, hc10, hf⟩ := sf_c1e hf
                  refine k_Pi (run_YV (As := [.int v_7]) (rest := []) ⟨hx, hb, hml, hown, ha⟩ (c_X11_start l D dA cA h0 h1 h2 h6 h9 h10 h11 h12 h13 h14 h17 h21 h41 h43 h46 h49   on ot op os bc bg bs bt be xi xe xf v_7 _ hc10) (gi_V m_765 m_766 m_767 m_31 m_768) yd_X11_start ⟨Nat.le_of_ble_eq_true rfl, Nat.le_of_ble_eq_true rfl⟩ ⟨rfl, rfl⟩ hK hX hS hP [0, 1, 6, 7, 8, 9, 10] rfl (va_recv hK hP (q0 := 0) rfl rfl) rfl hl.1 rfl (Nat.le_of_ble_eq_true rfl) dL_watched_48 ⟨Nat.le_of_ble_eq_true rfl, Nat.le_of_ble_eq_true rfl⟩) hP hS (fun H locs hP hS => ?_)
                  refine lv_iload_n hx hb dL_watched_51 rfl (lv_at hl 5 rfl) ?_
                  refine sf_jo (J := fun (k_12 : Int32 → Option Int32) => ∀ (v_11 : Int32) (H : Heap) (locs : List Loc) (ls : Array Slot), va_P D cls [(h0, .inr (9, [.ref h1, .ref h21, .int xi, .ref h41, .ref h43, .ref h46, .ref h49, .int xe, .int xf])), (h1, .inr (6, [.int on, .int ot, .int op, .int os, .ref h2, .ref h6, .ref h9, .ref h14, .ref h17])), (h2, .inr (8, [.int sc, .ref h3, .ref h4, .ref h5])), (h3, .inl (dA 0, 4, .inl sd)), (h4, .inl (dA 0, 4, .inl sp)), (h5, .inl (dA 0, 4, .inl sw)), (h9, .inr (0, [.int bc, .ref h10, .ref h11, .ref h12, .ref h13])), (h10, .inl (dA 0, 12, .inl bg)), (h11, .inl (dA 0, 12, .inl bs)), (h12, .inl (dA 0, 12, .inl bt)), (h13, .inl (dA 0, 12, .inl be))] H → va_S noA s.heap H locs → lv_has ls 6 [(5, .int v_7), (3, .int v_1), (2, .int v_2), (0, .ref h0), (1, .int p1)] → k_12 v_11 = some rr → W p l e ({ frames := 7, cells := 0, slots := 0, locals := 159 } : Room) s m ([.ref h0, .int p1] : List Value).toArray below meth c H locs 0 0 (MQ below (poPi rr) ([.ref h0, .int p1] : List Value).toArray s 0 0 noA) (F0 m 94 ls [.int v_11])) hf (fun v_11 H locs ls hP hS hl hf => ?_) (fun k_12 hJ12 hf => ?_)
                  · skip
                    refine lv_istore (lv' := [(4, .int v_11), (5, .int v_7), (3, .int v_1), (2, .int v_2), (0, .ref h0), (1, .int p1)]) hx hb dL_watched_94 hl (by decide) rfl (fun ls hl => ?_)
                    obtain ⟨x_13, ex_13, hf⟩ := sf_ne hf
                    refine ii_nc (lv' := [(5, .int x_13), (4, .int v_11), (3, .int v_1), (2, .int v_2), (0, .ref h0), (1, .int p1)]) (k := 1) hx hb dL_watched_96 hl rfl ex_13 (by decide) (by decide) rfl (fun ls hl => ?_)
                    refine lv_goto (tgt := 31) hx hb dL_watched_99 (by decide) ?_
                    exact ih _ _ _ _ _ (hP.sub [0, 1, 2, 3, 4, 5, 6, 7, 8, 9, 10] rfl) hS (lv_sub hl [0, 1, 2, 3, 4, 5] rfl) hf hk
                  refine lv_icmp_lt (tgt := 89) hx hb dL_watched_52 (by decide) (fun hc => ?_) (fun hc => ?_)
                  · have hf := sf_bp hf hc
                    refine lv_iconst (v := 1) hx hb dL_watched_89 (by decide) ?_
                    refine lv_goto (tgt := 94) hx hb dL_watched_90 (by decide) ?_
                    exact hJ12 _ _ _ _ (hP.sub [0, 1, 2, 3, 4, 5, 6, 7, 8, 9, 10] rfl) hS (lv_sub hl [0, 2, 3, 4, 5] rfl) hf
                  · have hf := sf_bn hf hc
                    refine lv_aload_n hx hb dL_watched_55 rfl (lv_at hl 4 rfl) ?_
                    refine lv_iload hx hb dL_watched_56 (lv_at hl 0 rfl) ?_
                    obtain ⟨r_14, hc14, hf⟩ := sf_c1e hf
                    refine k_Pi (run_YS (As := [.ref h0, .int v_7]) (rest := []) ⟨hx, hb, hml, hown, ha⟩ (c_L_endOf l D dA cA h0 h1 h2 h3 h4 h5 h6 h9 h10 h11 h12 h13 h14 h17 h21 h41 h43 h46 h49   on ot op os sc sd sp sw bc bg bs bt be xi xe xf v_7 _ hc14) (gi_S2 m_769 m_770 m_30 m_771) (yd_L_endOf).2 ⟨Nat.le_of_ble_eq_true rfl, Nat.le_of_ble_eq_true rfl⟩ ⟨rfl, rfl⟩ hK hX hS hP [0, 1, 2, 3, 4, 5, 6, 7, 8, 9, 10] rfl rfl hl.1 rfl (Nat.le_of_ble_eq_true rfl) dL_watched_58 ⟨Nat.le_of_ble_eq_true rfl, Nat.le_of_ble_eq_true rfl⟩) hP hS (fun H locs hP hS => ?_)
                    refine lv_aload_n hx hb dL_watched_61 rfl (lv_at hl 4 rfl) ?_
                    refine lv_iload_n hx hb dL_watched_62 rfl (lv_at hl 2 rfl) ?_
                    obtain ⟨r_15, hc15, hf⟩ := sf_c1e hf
                    refine k_Pi (run_YS (As := [.ref h0, .int v_1]) (rest := [.int r_14]) ⟨hx, hb, hml, hown, ha⟩ (c_L_endOf l D dA cA h0 h1 h2 h3 h4 h5 h6 h9 h10 h11 h12 h13 h14 h17 h21 h41 h43 h46 h49   on ot op os sc sd sp sw bc bg bs bt be xi xe xf v_1 _ hc15) (gi_S2 m_769 m_770 m_30 m_771) (yd_L_endOf).2 ⟨Nat.le_of_ble_eq_true rfl, Nat.le_of_ble_eq_true rfl⟩ ⟨rfl, rfl⟩ hK hX hS hP [0, 1, 2, 3, 4, 5, 6, 7, 8, 9, 10] rfl rfl hl.1 rfl (Nat.le_of_ble_eq_true rfl) dL_watched_63 ⟨Nat.le_of_ble_eq_true rfl, Nat.le_of_ble_eq_true rfl⟩) hP hS (fun H locs hP hS => ?_)
                    refine lv_icmp_gt (tgt := 89) hx hb dL_watched_66 (by decide) (fun hc => ?_) (fun hc => ?_)
                    · have hf := sf_bp hf hc
                      refine lv_iconst (v := 1) hx hb dL_watched_89 (by decide) ?_
                      refine lv_goto (tgt := 94) hx hb dL_watched_90 (by decide) ?_
                      exact hJ12 _ _ _ _ (hP.sub [0, 1, 2, 3, 4, 5, 6, 7, 8, 9, 10] rfl) hS (lv_sub hl [0, 2, 3, 4, 5] rfl) hf
                    · have hf := sf_bn hf hc
                      refine lv_aload_n hx hb dL_watched_69 rfl (lv_at hl 4 rfl) ?_
                      refine lv_iload hx hb dL_watched_70 (lv_at hl 0 rfl) ?_
                      obtain ⟨r_16, hc16, hf⟩ := sf_c1e hf
                      refine k_Pi (run_YS (As := [.ref h0, .int v_7]) (rest := []) ⟨hx, hb, hml, hown, ha⟩ (c_L_endOf l D dA cA h0 h1 h2 h3 h4 h5 h6 h9 h10 h11 h12 h13 h14 h17 h21 h41 h43 h46 h49   on ot op os sc sd sp sw bc bg bs bt be xi xe xf v_7 _ hc16) (gi_S2 m_769 m_770 m_30 m_771) (yd_L_endOf).2 ⟨Nat.le_of_ble_eq_true rfl, Nat.le_of_ble_eq_true rfl⟩ ⟨rfl, rfl⟩ hK hX hS hP [0, 1, 2, 3, 4, 5, 6, 7, 8, 9, 10] rfl rfl hl.1 rfl (Nat.le_of_ble_eq_true rfl) dL_watched_72 ⟨Nat.le_of_ble_eq_true rfl, Nat.le_of_ble_eq_true rfl⟩) hP hS (fun H locs hP hS => ?_)
                      refine lv_aload_n hx hb dL_watched_75 rfl (lv_at hl 4 rfl) ?_
                      refine lv_iload_n hx hb dL_watched_76 rfl (lv_at hl 2 rfl) ?_
                      obtain ⟨r_17, hc17, hf⟩ := sf_c1e hf
                      refine k_Pi (run_YS (As := [.ref h0, .int v_1]) (rest := [.int r_16]) ⟨hx, hb, hml, hown, ha⟩ (c_L_endOf l D dA cA h0 h1 h2 h3 h4 h5 h6 h9 h10 h11 h12 h13 h14 h17 h21 h41 h43 h46 h49   on ot op os sc sd sp sw bc bg bs bt be xi xe xf v_1 _ hc17) (gi_S2 m_769 m_770 m_30 m_771) (yd_L_endOf).2 ⟨Nat.le_of_ble_eq_true rfl, Nat.le_of_ble_eq_true rfl⟩ ⟨rfl, rfl⟩ hK hX hS hP [0, 1, 2, 3, 4, 5, 6, 7, 8, 9, 10] rfl rfl hl.1 rfl (Nat.le_of_ble_eq_true rfl) dL_watched_77 ⟨Nat.le_of_ble_eq_true rfl, Nat.le_of_ble_eq_true rfl⟩) hP hS (fun H locs hP hS => ?_)
                      refine lv_icmp_ne (tgt := 93) hx hb dL_watched_80 (by decide) (fun hc => ?_) (fun hc => ?_)
                      · have hf := sf_bn hf hc
                        refine lv_iconst (v := 0) hx hb dL_watched_93 (by decide) ?_
                        exact hJ12 _ _ _ _ (hP.sub [0, 1, 2, 3, 4, 5, 6, 7, 8, 9, 10] rfl) hS (lv_sub hl [0, 2, 3, 4, 5] rfl) hf
                      · have hf := sf_bp hf hc
                        refine lv_iload hx hb dL_watched_83 (lv_at hl 0 rfl) ?_
                        refine lv_iload_n hx hb dL_watched_85 rfl (lv_at hl 2 rfl) ?_
                        refine lv_icmp_lt (tgt := 93) hx hb dL_watched_86 (by decide) (fun hc => ?_) (fun hc => ?_)
                        · have hf := sf_bp hf hc
                          refine lv_iconst (v := 0) hx hb dL_watched_93 (by decide) ?_
                          exact hJ12 _ _ _ _ (hP.sub [0, 1, 2, 3, 4, 5, 6, 7, 8, 9, 10] rfl) hS (lv_sub hl [0, 2, 3, 4, 5] rfl) hf
                        · have hf := sf_bn hf hc
                          refine lv_iconst (v := 1) hx hb dL_watched_89 (by decide) ?_
                          refine lv_goto (tgt := 94) hx hb dL_watched_90 (by decide) ?_
                          exact hJ12 _ _ _ _ (hP.sub [0, 1, 2, 3, 4, 5, 6, 7, 8, 9, 10] rfl) hS (lv_sub hl [0, 2, 3, 4, 5] rfl) hf
          refine hL31_18 2000 _ _ _ _ _ _ hP hS (lv_sub hl [0, 1, 2, 3, 4, 5] rfl) hf (fun y_18 H locs ls hP hS hl hf => ?_)
          refine lv_iload hx hb dL_watched_102 (lv_at hl 0 rfl) ?_
          refine sf_jo (J := fun (k_20 : Int32 → Option Int32) => ∀ (v_19 : Int32) (H : Heap) (locs : List Loc) (ls : Array Slot), va_P D cls [(h0, .inr (9, [.ref h1, .ref h21, .int xi, .ref h41, .ref h43, .ref h46, .ref h49, .int xe, .int xf])), (h1, .inr (6, [.int on, .int ot, .int op, .int os, .ref h2, .ref h6, .ref h9, .ref h14, .ref h17])), (h2, .inr (8, [.int sc, .ref h3, .ref h4, .ref h5])), (h3, .inl (dA 0, 4, .inl sd)), (h4, .inl (dA 0, 4, .inl sp)), (h5, .inl (dA 0, 4, .inl sw)), (h9, .inr (0, [.int bc, .ref h10, .ref h11, .ref h12, .ref h13])), (h10, .inl (dA 0, 12, .inl bg)), (h11, .inl (dA 0, 12, .inl bs)), (h12, .inl (dA 0, 12, .inl bt)), (h13, .inl (dA 0, 12, .inl be))] H → va_S noA s.heap H locs → lv_has ls 6 [(3, .int v_1), (0, .ref h0), (1, .int p1)] → k_20 v_19 = some rr → W p l e ({ frames := 7, cells := 0, slots := 0, locals := 159 } : Room) s m ([.ref h0, .int p1] : List Value).toArray below meth c H locs 0 0 (MQ below (poPi rr) ([.ref h0, .int p1] : List Value).toArray s 0 0 noA) (F0 m 126 ls [.int v_19])) hf (fun v_19 H locs ls hP hS hl hf => ?_) (fun k_20 hJ20 hf => ?_)
          · skip
            refine lv_istore_n (lv' := [(2, .int v_19), (3, .int v_1), (0, .ref h0), (1, .int p1)]) hx hb dL_watched_126 rfl hl (by decide) rfl (fun ls hl => ?_)
            obtain ⟨x_21, ex_21, hf⟩ := sf_ne hf
            refine ii_nc (lv' := [(3, .int x_21), (2, .int v_19), (0, .ref h0), (1, .int p1)]) (k := 1) hx hb dL_watched_127 hl rfl ex_21 (by decide) (by decide) rfl (fun ls hl => ?_)
            refine lv_goto (tgt := 4) hx hb dL_watched_130 (by decide) ?_
            exact ih _ _ _ _ _ (hP.sub [0, 1, 2, 3, 4, 5, 6, 7, 8, 9, 10] rfl) hS (lv_sub hl [0, 1, 2, 3] rfl) hf hk
          refine lv_if_eq (tgt := 125) hx hb dL_watched_104 (by decide) (fun hc => ?_) (fun hc => ?_)
          · have hf := sf_bp hf hc
            refine lv_iload_n hx hb dL_watched_125 rfl (lv_at hl 2 rfl) ?_
            exact hJ20 _ _ _ _ (hP.sub [0, 1, 2, 3, 4, 5, 6, 7, 8, 9, 10] rfl) hS (lv_sub hl [1, 3, 4] rfl) hf
          · have hf := sf_bn hf hc
            refine lv_iload_n hx hb dL_watched_107 rfl (lv_at hl 2 rfl) ?_
            refine lv_iconst (v := 1) hx hb dL_watched_108 (by decide) ?_
            refine lv_aload_n hx hb dL_watched_109 rfl (lv_at hl 3 rfl) ?_
            refine lv_aload_n hx hb dL_watched_110 rfl (lv_at hl 3 rfl) ?_
            refine lv_iload_n hx hb dL_watched_111 rfl (lv_at hl 1 rfl) ?_
            obtain ⟨r_22, hc22, hf⟩ := sf_c1e hf
            refine k_Pi (run_YS (As := [.ref h0, .int v_1]) (rest := [.ref h0, .int (1 : Int32), .int v_2]) ⟨hx, hb, hml, hown, ha⟩ (c_L_endOf l D dA cA h0 h1 h2 h3 h4 h5 h6 h9 h10 h11 h12 h13 h14 h17 h21 h41 h43 h46 h49   on ot op os sc sd sp sw bc bg bs bt be xi xe xf v_1 _ hc22) (gi_S2 m_769 m_770 m_30 m_771) (yd_L_endOf).2 ⟨Nat.le_of_ble_eq_true rfl, Nat.le_of_ble_eq_true rfl⟩ ⟨rfl, rfl⟩ hK hX hS hP [0, 1, 2, 3, 4, 5, 6, 7, 8, 9, 10] rfl rfl hl.1 rfl (Nat.le_of_ble_eq_true rfl) dL_watched_112 ⟨Nat.le_of_ble_eq_true rfl, Nat.le_of_ble_eq_true rfl⟩) hP hS (fun H locs hP hS => ?_)
            obtain ⟨r_23, hc23, hf⟩ := sf_c1e hf
            refine k_Pi (run_YS (As := [.ref h0, .int r_22]) (rest := [.int (1 : Int32), .int v_2]) ⟨hx, hb, hml, hown, ha⟩ (c_L_watched_2 l D dA cA h0 h1 h2 h3 h4 h5 h6 h9 h10 h11 h12 h13 h14 h17 h21 h41 h43 h46 h49   on ot op os sc sd sp sw bc bg bs bt be xi xe xf r_22 _ hc23) (gi_S2 m_847 m_848 m_30 m_849) (yd_L_watched_2).2 ⟨Nat.le_of_ble_eq_true rfl, Nat.le_of_ble_eq_true rfl⟩ ⟨rfl, rfl⟩ hK hX hS hP [0, 1, 2, 3, 4, 5, 6, 7, 8, 9, 10] rfl rfl hl.1 rfl (Nat.le_of_ble_eq_true rfl) dL_watched_115 ⟨Nat.le_of_ble_eq_true rfl, Nat.le_of_ble_eq_true rfl⟩) hP hS (fun H locs hP hS => ?_)
            refine lv_iadd hx hb dL_watched_118 ?_
            refine mx_i hx hb ha hown hml hl.1 m_785 m_786 m_54 m_787 ⟨Nat.le_of_ble_eq_true rfl, Nat.le_of_ble_eq_true rfl⟩ ⟨Nat.le_of_ble_eq_true rfl, Nat.le_of_ble_eq_true rfl⟩ dL_watched_119 ?_
            refine lv_goto (tgt := 126) hx hb dL_watched_122 (by decide) ?_
            exact hJ20 _ _ _ _ (hP.sub [0, 1, 2, 3, 4, 5, 6, 7, 8, 9, 10] rfl) hS (lv_sub hl [1, 3, 4] rfl) hf
        refine lv_icmp_lt (tgt := 25) hx hb dL_watched_18 (by decide) (fun hc => ?_) (fun hc => ?_)
        · have hf := sf_bp hf hc
          refine lv_iconst (v := 0) hx hb dL_watched_25 (by decide) ?_
          exact hJ6 _ _ _ _ (hP.sub [0, 1, 2, 3, 4, 5, 6, 7, 8, 9, 10] rfl) hS (lv_sub hl [0, 1, 2, 3] rfl) hf
        · have hf := sf_bn hf hc
          refine lv_iconst (v := 1) hx hb dL_watched_21 (by decide) ?_
          refine lv_goto (tgt := 26) hx hb dL_watched_22 (by decide) ?_
          exact hJ6 _ _ _ _ (hP.sub [0, 1, 2, 3, 4, 5, 6, 7, 8, 9, 10] rfl) hS (lv_sub hl [0, 1, 2, 3] rfl) hf
  refine hL4_24 2000 _ _ _ _ _ _ hP hS (lv_sub hl [0, 1, 2, 3] rfl) hf (fun y_24 H locs ls hP hS hl hf => ?_)
  refine lv_iload_n hx hb dL_watched_133 rfl (lv_at hl 0 rfl) ?_
  exact rt_Pi hx hb hr hlocks (Option.some.inj hf) hS dL_watched_134

def f_L_watched_4_L31 (sc : Int32) (sd : Nat → Int32) (bc : Int32) (bs : Nat → Int32) (bt : Nat → Int32) (p1 : Int32) (v_1 : Int32) (k : Int32 → Option Int32) : Nat → Int32 → Int32 → Option Int32
  | 0, _, _ => none
  | n + 1, v_7, v_8 => sf_c1 (f_X11_bookingCount bc) (fun r_9 => sf_b (r_9 ≤ v_7) (k v_8) (sf_b (v_8 = (0 : Int32)) (k v_8) (sf_c1 (f_X11_start bc bt v_7) (fun r_10 => sf_j (fun (v_11 : Int32) => sf_n (v_7 + (1 : Int32)) (fun x_13 => f_L_watched_4_L31 sc sd bc bs bt p1 v_1 k n x_13 v_11)) (fun k_12 => sf_b (r_10 < p1) (k_12 (1 : Int32)) (sf_c1 (f_L_endOf sc sd bc bs bt v_7) (fun r_14 => sf_c1 (f_L_endOf sc sd bc bs bt v_1) (fun r_15 => sf_b (r_15 < r_14) (k_12 (1 : Int32)) (sf_c1 (f_L_endOf sc sd bc bs bt v_7) (fun r_16 => sf_c1 (f_L_endOf sc sd bc bs bt v_1) (fun r_17 => sf_b (r_16 = r_17) (sf_b (v_7 < v_1) (k_12 (0 : Int32)) (k_12 (1 : Int32))) (k_12 (0 : Int32)))))))))))))
def f_L_watched_4_L4 (sc : Int32) (sd : Nat → Int32) (bc : Int32) (bs : Nat → Int32) (bt : Nat → Int32) (p1 : Int32) (k : Int32 → Option Int32) : Nat → Int32 → Int32 → Option Int32
  | 0, _, _ => none
  | n + 1, v_1, v_2 => sf_c1 (f_X11_bookingCount bc) (fun r_3 => sf_b (r_3 ≤ v_1) (k v_2) (sf_c1 (f_X11_start bc bt v_1) (fun r_4 => sf_j (fun (v_5 : Int32) => f_L_watched_4_L31 sc sd bc bs bt p1 v_1 (fun y_18 => sf_j (fun (v_19 : Int32) => sf_n (v_1 + (1 : Int32)) (fun x_21 => f_L_watched_4_L4 sc sd bc bs bt p1 k n x_21 v_19)) (fun k_20 => sf_b (y_18 = (0 : Int32)) (k_20 v_2) (sf_c1 (f_L_endOf sc sd bc bs bt v_1) (fun r_22 => sf_c1 (f_L_watched_3 sc sd bc bs bt r_22) (fun r_23 => k_20 (if v_2 < ((1 : Int32) + r_23) then ((1 : Int32) + r_23) else v_2)))))) 2000 (0 : Int32) v_5) (fun k_6 => sf_b (r_4 < p1) (k_6 (0 : Int32)) (k_6 (1 : Int32))))))
def f_L_watched_4 (sc : Int32) (sd : Nat → Int32) (bc : Int32) (bs : Nat → Int32) (bt : Nat → Int32) (p1 : Int32) : Option Int32 :=
  f_L_watched_4_L4 sc sd bc bs bt p1 (fun y_24 => some y_24) 2000 (0 : Int32) (0 : Int32)
theorem yd_L_watched_4 : yL_watched.cls = RL ∧ yL_watched.cls ≠ "java/lang/invoke/MethodHandle" ∧ yL_watched.cls ≠ "java/lang/invoke/VarHandle" ∧ (parseMethodDescriptor yL_watched.desc).map (fun d => d.parameters.length) = some 2 := ⟨rfl, by decide, by decide, by decide +kernel⟩
set_option maxRecDepth 100000 in
set_option maxHeartbeats 8000000 in
theorem c_L_watched_4 (l : Launch) (D : va_G) (dA : Nat → ClassId) (cA : Nat → Nat) (h0 h1 h2 h3 h4 h5 h6 h9 h10 h11 h12 h13 h14 h17 h21 h41 h43 h46 h49 : Nat) (on : Int32) (ot : Int32) (op : Int32) (os : Int32) (sc : Int32) (sd : Nat → Int32) (sp : Nat → Int32) (sw : Nat → Int32) (bc : Int32) (bg : Nat → Int32) (bs : Nat → Int32) (bt : Nat → Int32) (be : Nat → Int32) (xi : Int32) (xe : Int32) (xf : Int32) (p1 : Int32) (rr : Int32) (hf : f_L_watched_4 sc sd bc bs bt p1 = some rr) : Met l yL_watched (wo (.code yL_watched cL_watched 6 (some .int))) ({ frames := 8, cells := 0, slots := 0, locals := 184 } : Room) (preY D dA cA [.ref h0, .int p1] [(h0, .inr (9, [.ref h1, .ref h21, .int xi, .ref h41, .ref h43, .ref h46, .ref h49, .int xe, .int xf])), (h1, .inr (6, [.int on, .int ot, .int op, .int os, .ref h2, .ref h6, .ref h9, .ref h14, .ref h17])), (h2, .inr (8, [.int sc, .ref h3, .ref h4, .ref h5])), (h3, .inl (dA 0, 4, .inl sd)), (h4, .inl (dA 0, 4, .inl sp)), (h5, .inl (dA 0, 4, .inl sw)), (h9, .inr (0, [.int bc, .ref h10, .ref h11, .ref h12, .ref h13])), (h10, .inl (dA 0, 12, .inl bg)), (h11, .inl (dA 0, 12, .inl bs)), (h12, .inl (dA 0, 12, .inl bt)), (h13, .inl (dA 0, 12, .inl be))]) (poPi rr) 0 0 noA := by
  refine of_Y (y := yL_watched) (cc := cL_watched) (maxL := 6) (ret := (some .int)) (av := [.ref h0, .int p1]) (ws := [(h0, .inr (9, [.ref h1, .ref h21, .int xi, .ref h41, .ref h43, .ref h46, .ref h49, .int xe, .int xf])), (h1, .inr (6, [.int on, .int ot, .int op, .int os, .ref h2, .ref h6, .ref h9, .ref h14, .ref h17])), (h2, .inr (8, [.int sc, .ref h3, .ref h4, .ref h5])), (h3, .inl (dA 0, 4, .inl sd)), (h4, .inl (dA 0, 4, .inl sp)), (h5, .inl (dA 0, 4, .inl sw)), (h9, .inr (0, [.int bc, .ref h10, .ref h11, .ref h12, .ref h13])), (h10, .inl (dA 0, 12, .inl bg)), (h11, .inl (dA 0, 12, .inl bs)), (h12, .inl (dA 0, 12, .inl bt)), (h13, .inl (dA 0, 12, .inl be))]) (own := RL) (by decide) rfl (Nat.le_of_ble_eq_true rfl) ?_
  intro p e s m below meth c hx hb hr ha hown hml hlocks hP hK hX hS ls hl
  have hC := hX.1
  have hl : lv_has ls 6 [(0, .ref h0), (1, .int p1)] := hl
  rw [f_L_watched_4] at hf
  refine lv_iconst (v := 0) hx hb dL_watched_0 (by decide) ?_
  refine lv_istore_n (lv' := [(2, .int (0 : Int32)), (0, .ref h0), (1, .int p1)]) hx hb dL_watched_1 rfl hl (by decide) rfl (fun ls hl => ?_)
  refine lv_iconst (v := 0) hx hb dL_watched_2 (by decide) ?_
  refine lv_istore_n (lv' := [(3, .int (0 : Int32)), (2, .int (0 : Int32)), (0, .ref h0), (1, .int p1)]) hx hb dL_watched_3 rfl hl (by decide) rfl (fun ls hl => ?_)
  have hL4_24 : ∀ (n : Nat) (k : Int32 → Option Int32) (v_1 : Int32) (v_2 : Int32) (H : Heap) (locs : List Loc) (ls : Array Slot), va_P D cls [(h0, .inr (9, [.ref h1, .ref h21, .int xi, .ref h41, .ref h43, .ref h46, .ref h49, .int xe, .int xf])), (h1, .inr (6, [.int on, .int ot, .int op, .int os, .ref h2, .ref h6, .ref h9, .ref h14, .ref h17])), (h2, .inr (8, [.int sc, .ref h3, .ref h4, .ref h5])), (h3, .inl (dA 0, 4, .inl sd)), (h4, .inl (dA 0, 4, .inl sp)), (h5, .inl (dA 0, 4, .inl sw)), (h9, .inr (0, [.int bc, .ref h10, .ref h11, .ref h12, .ref h13])), (h10, .inl (dA 0, 12, .inl bg)), (h11, .inl (dA 0, 12, .inl bs)), (h12, .inl (dA 0, 12, .inl bt)), (h13, .inl (dA 0, 12, .inl be))] H → va_S noA s.heap H locs → lv_has ls 6 [(3, .int v_1), (2, .int v_2), (0, .ref h0), (1, .int p1)] → f_L_watched_4_L4 sc sd bc bs bt p1 k n v_1 v_2 = some rr → (∀ (y_24 : Int32) (H : Heap) (locs : List Loc) (ls : Array Slot), va_P D cls [(h0, .inr (9, [.ref h1, .ref h21, .int xi, .ref h41, .ref h43, .ref h46, .ref h49, .int xe, .int xf])), (h1, .inr (6, [.int on, .int ot, .int op, .int os, .ref h2, .ref h6, .ref h9, .ref h14, .ref h17])), (h2, .inr (8, [.int sc, .ref h3, .ref h4, .ref h5])), (h3, .inl (dA 0, 4, .inl sd)), (h4, .inl (dA 0, 4, .inl sp)), (h5, .inl (dA 0, 4, .inl sw)), (h9, .inr (0, [.int bc, .ref h10, .ref h11, .ref h12, .ref h13])), (h10, .inl (dA 0, 12, .inl bg)), (h11, .inl (dA 0, 12, .inl bs)), (h12, .inl (dA 0, 12, .inl bt)), (h13, .inl (dA 0, 12, .inl be))] H → va_S noA s.heap H locs → lv_has ls 6 [(2, .int y_24)] → k y_24 = some rr → W p l e ({ frames := 8, cells := 0, slots := 0, locals := 184 } : Room) s m ([.ref h0, .int p1] : List Value).toArray below meth c H locs 0 0 (MQ below (poPi rr) ([.ref h0, .int p1] : List Value).toArray s 0 0 noA) (F0 m 133 ls [])) → W p l e ({ frames := 8, cells := 0, slots := 0, locals := 184 } : Room) s m ([.ref h0, .int p1] : List Value).toArray below meth c H locs 0 0 (MQ below (poPi rr) ([.ref h0, .int p1] : List Value).toArray s 0 0 noA) (F0 m 4 ls []) := by
    intro n k
    induction n with
    | zero =>
      intro v_1 v_2 H locs ls hP hS hl hf hk
      rw [f_L_watched_4_L4] at hf
      cases hf
    | succ n ih =>
      intro v_1 v_2 H locs ls hP hS hl hf hk
      rw [f_L_watched_4_L4] at hf
      refine lv_iload_n hx hb dL_watched_4 rfl (lv_at hl 0 rfl) ?_
      refine lv_aload_n hx hb dL_watched_5 rfl (lv_at hl 2 rfl) ?_
      obtain ⟨r_3, hc3, hf⟩ := sf_c1e hf
      refine k_Pi (run_YV (As := []) (rest := [.int v_1]) ⟨hx, hb, hml, hown, ha⟩ (c_X11_bookingCount l D dA cA h0 h1 h2 h6 h9 h10 h11 h12 h13 h14 h17 h21 h41 h43 h46 h49   on ot op os bc xi xe xf  _ hc3) (gi_V m_744 m_745 m_746 m_31 m_747) yd_X11_bookingCount ⟨Nat.le_of_ble_eq_true rfl, Nat.le_of_ble_eq_true rfl⟩ ⟨rfl, rfl⟩ hK hX hS hP [0, 1, 6] rfl (va_recv hK hP (q0 := 0) rfl rfl) rfl hl.1 rfl (Nat.le_of_ble_eq_true rfl) dL_watched_6 ⟨Nat.le_of_ble_eq_true rfl, Nat.le_of_ble_eq_true rfl⟩) hP hS (fun H locs hP hS => ?_)
      refine lv_icmp_ge (tgt := 133) hx hb dL_watched_9 (by decide) (fun hc => ?_) (fun hc => ?_)
      · have hf := sf_bp hf hc
        exact hk _ _ _ _ (hP.sub [0, 1, 2, 3, 4, 5, 6, 7, 8, 9, 10] rfl) hS (lv_sub hl [1] rfl) hf
      · have hf := sf_bn hf hc
        refine lv_aload_n hx hb dL_watched_12 rfl (lv_at hl 2 rfl) ?_
        refine lv_iload_n hx hb dL_watched_13 rfl (lv_at hl 0 rfl) ?_
        obtain ⟨r_4, hc4, hf⟩ := sf_c1e hf
        refine k_Pi (run_YV (As := [.int v_1]) (rest := []) ⟨hx, hb, hml, hown, ha⟩ (c_X11_start l D dA cA h0 h1 h2 h6 h9 h10 h11 h12 h13 h14 h17 h21 h41 h43 h46 h49   on ot op os bc bg bs bt be xi xe xf v_1 _ hc4) (gi_V m_765 m_766 m_767 m_31 m_768) yd_X11_start ⟨Nat.le_of_ble_eq_true rfl, Nat.le_of_ble_eq_true rfl⟩ ⟨rfl, rfl⟩ hK hX hS hP [0, 1, 6, 7, 8, 9, 10] rfl (va_recv hK hP (q0 := 0) rfl rfl) rfl hl.1 rfl (Nat.le_of_ble_eq_true rfl) dL_watched_14 ⟨Nat.le_of_ble_eq_true rfl, Nat.le_of_ble_eq_true rfl⟩) hP hS (fun H locs hP hS => ?_)
        refine lv_iload_n hx hb dL_watched_17 rfl (lv_at hl 3 rfl) ?_
        refine sf_jo (J := fun (k_6 : Int32 → Option Int32) => ∀ (v_5 : Int32) (H : Heap) (locs : List Loc) (ls : Array Slot), va_P D cls [(h0, .inr (9, [.ref h1, .ref h21, .int xi, .ref h41, .ref h43, .ref h46, .ref h49, .int xe, .int xf])), (h1, .inr (6, [.int on, .int ot, .int op, .int os, .ref h2, .ref h6, .ref h9, .ref h14, .ref h17])), (h2, .inr (8, [.int sc, .ref h3, .ref h4, .ref h5])), (h3, .inl (dA 0, 4, .inl sd)), (h4, .inl (dA 0, 4, .inl sp)), (h5, .inl (dA 0, 4, .inl sw)), (h9, .inr (0, [.int bc, .ref h10, .ref h11, .ref h12, .ref h13])), (h10, .inl (dA 0, 12, .inl bg)), (h11, .inl (dA 0, 12, .inl bs)), (h12, .inl (dA 0, 12, .inl bt)), (h13, .inl (dA 0, 12, .inl be))] H → va_S noA s.heap H locs → lv_has ls 6 [(3, .int v_1), (2, .int v_2), (0, .ref h0), (1, .int p1)] → k_6 v_5 = some rr → W p l e ({ frames := 8, cells := 0, slots := 0, locals := 184 } : Room) s m ([.ref h0, .int p1] : List Value).toArray below meth c H locs 0 0 (MQ below (poPi rr) ([.ref h0, .int p1] : List Value).toArray s 0 0 noA) (F0 m 26 ls [.int v_5])) hf (fun v_5 H locs ls hP hS hl hf => ?_) (fun k_6 hJ6 hf => ?_)
        · skip
          refine lv_istore (lv' := [(4, .int v_5), (3, .int v_1), (2, .int v_2), (0, .ref h0), (1, .int p1)]) hx hb dL_watched_26 hl (by decide) rfl (fun ls hl => ?_)
          refine lv_iconst (v := 0) hx hb dL_watched_28 (by decide) ?_
          refine lv_istore (lv' := [(5, .int (0 : Int32)), (4, .int v_5), (3, .int v_1), (2, .int v_2), (0, .ref h0), (1, .int p1)]) hx hb dL_watched_29 hl (by decide) rfl (fun ls hl => ?_)
          have hL31_18 : ∀ (n : Nat) (k : Int32 → Option Int32) (v_7 : Int32) (v_8 : Int32) (H : Heap) (locs : List Loc) (ls : Array Slot), va_P D cls [(h0, .inr (9, [.ref h1, .ref h21, .int xi, .ref h41, .ref h43, .ref h46, .ref h49, .int xe, .int xf])), (h1, .inr (6, [.int on, .int ot, .int op, .int os, .ref h2, .ref h6, .ref h9, .ref h14, .ref h17])), (h2, .inr (8, [.int sc, .ref h3, .ref h4, .ref h5])), (h3, .inl (dA 0, 4, .inl sd)), (h4, .inl (dA 0, 4, .inl sp)), (h5, .inl (dA 0, 4, .inl sw)), (h9, .inr (0, [.int bc, .ref h10, .ref h11, .ref h12, .ref h13])), (h10, .inl (dA 0, 12, .inl bg)), (h11, .inl (dA 0, 12, .inl bs)), (h12, .inl (dA 0, 12, .inl bt)), (h13, .inl (dA 0, 12, .inl be))] H → va_S noA s.heap H locs → lv_has ls 6 [(5, .int v_7), (4, .int v_8), (3, .int v_1), (2, .int v_2), (0, .ref h0), (1, .int p1)] → f_L_watched_4_L31 sc sd bc bs bt p1 v_1 k n v_7 v_8 = some rr → (∀ (y_18 : Int32) (H : Heap) (locs : List Loc) (ls : Array Slot), va_P D cls [(h0, .inr (9, [.ref h1, .ref h21, .int xi, .ref h41, .ref h43, .ref h46, .ref h49, .int xe, .int xf])), (h1, .inr (6, [.int on, .int ot, .int op, .int os, .ref h2, .ref h6, .ref h9, .ref h14, .ref h17])), (h2, .inr (8, [.int sc, .ref h3, .ref h4, .ref h5])), (h3, .inl (dA 0, 4, .inl sd)), (h4, .inl (dA 0, 4, .inl sp)), (h5, .inl (dA 0, 4, .inl sw)), (h9, .inr (0, [.int bc, .ref h10, .ref h11, .ref h12, .ref h13])), (h10, .inl (dA 0, 12, .inl bg)), (h11, .inl (dA 0, 12, .inl bs)), (h12, .inl (dA 0, 12, .inl bt)), (h13, .inl (dA 0, 12, .inl be))] H → va_S noA s.heap H locs → lv_has ls 6 [(4, .int y_18), (3, .int v_1), (2, .int v_2), (0, .ref h0), (1, .int p1)] → k y_18 = some rr → W p l e ({ frames := 8, cells := 0, slots := 0, locals := 184 } : Room) s m ([.ref h0, .int p1] : List Value).toArray below meth c H locs 0 0 (MQ below (poPi rr) ([.ref h0, .int p1] : List Value).toArray s 0 0 noA) (F0 m 102 ls [])) → W p l e ({ frames := 8, cells := 0, slots := 0, locals := 184 } : Room) s m ([.ref h0, .int p1] : List Value).toArray below meth c H locs 0 0 (MQ below (poPi rr) ([.ref h0, .int p1] : List Value).toArray s 0 0 noA) (F0 m 31 ls []) := by
            intro n k
            induction n with
            | zero =>
              intro v_7 v_8 H locs ls hP hS hl hf hk
              rw [f_L_watched_4_L31] at hf
              cases hf
            | succ n ih =>
              intro v_7 v_8 H locs ls hP hS hl hf hk
              rw [f_L_watched_4_L31] at hf
              refine lv_iload hx hb dL_watched_31 (lv_at hl 0 rfl) ?_
              refine lv_aload_n hx hb dL_watched_33 rfl (lv_at hl 4 rfl) ?_
              obtain ⟨r_9, hc9, hf⟩ := sf_c1e hf
              refine k_Pi (run_YV (As := []) (rest := [.int v_7]) ⟨hx, hb, hml, hown, ha⟩ (c_X11_bookingCount l D dA cA h0 h1 h2 h6 h9 h10 h11 h12 h13 h14 h17 h21 h41 h43 h46 h49   on ot op os bc xi xe xf  _ hc9) (gi_V m_744 m_745 m_746 m_31 m_747) yd_X11_bookingCount ⟨Nat.le_of_ble_eq_true rfl, Nat.le_of_ble_eq_true rfl⟩ ⟨rfl, rfl⟩ hK hX hS hP [0, 1, 6] rfl (va_recv hK hP (q0 := 0) rfl rfl) rfl hl.1 rfl (Nat.le_of_ble_eq_true rfl) dL_watched_34 ⟨Nat.le_of_ble_eq_true rfl, Nat.le_of_ble_eq_true rfl⟩) hP hS (fun H locs hP hS => ?_)
              refine lv_icmp_ge (tgt := 102) hx hb dL_watched_37 (by decide) (fun hc => ?_) (fun hc => ?_)
              · have hf := sf_bp hf hc
                exact hk _ _ _ _ (hP.sub [0, 1, 2, 3, 4, 5, 6, 7, 8, 9, 10] rfl) hS (lv_sub hl [1, 2, 3, 4, 5] rfl) hf
              · have hf := sf_bn hf hc
                refine lv_iload hx hb dL_watched_40 (lv_at hl 1 rfl) ?_
                refine lv_if_eq (tgt := 102) hx hb dL_watched_42 (by decide) (fun hc => ?_) (fun hc => ?_)
                · have hf := sf_bp hf hc
                  exact hk _ _ _ _ (hP.sub [0, 1, 2, 3, 4, 5, 6, 7, 8, 9, 10] rfl) hS (lv_sub hl [1, 2, 3, 4, 5] rfl) hf
                · have hf := sf_bn hf hc
                  refine lv_aload_n hx hb dL_watched_45 rfl (lv_at hl 4 rfl) ?_
                  refine lv_iload hx hb dL_watched_46 (lv_at hl 0 rfl) ?_
                  obtain ⟨r_10, hc10, hf⟩ := sf_c1e hf
                  refine k_Pi (run_YV (As := [.int v_7]) (rest := []) ⟨hx, hb, hml, hown, ha⟩ (c_X11_start l D dA cA h0 h1 h2 h6 h9 h10 h11 h12 h13 h14 h17 h21 h41 h43 h46 h49   on ot op os bc bg bs bt be xi xe xf v_7 _ hc10) (gi_V m_765 m_766 m_767 m_31 m_768) yd_X11_start ⟨Nat.le_of_ble_eq_true rfl, Nat.le_of_ble_eq_true rfl⟩ ⟨rfl, rfl⟩ hK hX hS hP [0, 1, 6, 7, 8, 9, 10] rfl (va_recv hK hP (q0 := 0) rfl rfl) rfl hl.1 rfl (Nat.le_of_ble_eq_true rfl) dL_watched_48 ⟨Nat.le_of_ble_eq_true rfl, Nat.le_of_ble_eq_true rfl⟩) hP hS (fun H locs hP hS => ?_)
                  refine lv_iload_n hx hb dL_watched_51 rfl (lv_at hl 5 rfl) ?_
                  refine sf_jo (J := fun (k_12 : Int32 → Option Int32) => ∀ (v_11 : Int32) (H : Heap) (locs : List Loc) (ls : Array Slot), va_P D cls [(h0, .inr (9, [.ref h1, .ref h21, .int xi, .ref h41, .ref h43, .ref h46, .ref h49, .int xe, .int xf])), (h1, .inr (6, [.int on, .int ot, .int op, .int os, .ref h2, .ref h6, .ref h9, .ref h14, .ref h17])), (h2, .inr (8, [.int sc, .ref h3, .ref h4, .ref h5])), (h3, .inl (dA 0, 4, .inl sd)), (h4, .inl (dA 0, 4, .inl sp)), (h5, .inl (dA 0, 4, .inl sw)), (h9, .inr (0, [.int bc, .ref h10, .ref h11, .ref h12, .ref h13])), (h10, .inl (dA 0, 12, .inl bg)), (h11, .inl (dA 0, 12, .inl bs)), (h12, .inl (dA 0, 12, .inl bt)), (h13, .inl (dA 0, 12, .inl be))] H → va_S noA s.heap H locs → lv_has ls 6 [(5, .int v_7), (3, .int v_1), (2, .int v_2), (0, .ref h0), (1, .int p1)] → k_12 v_11 = some rr → W p l e ({ frames := 8, cells := 0, slots := 0, locals := 184 } : Room) s m ([.ref h0, .int p1] : List Value).toArray below meth c H locs 0 0 (MQ below (poPi rr) ([.ref h0, .int p1] : List Value).toArray s 0 0 noA) (F0 m 94 ls [.int v_11])) hf (fun v_11 H locs ls hP hS hl hf => ?_) (fun k_12 hJ12 hf => ?_)
                  · skip
                    refine lv_istore (lv' := [(4, .int v_11), (5, .int v_7), (3, .int v_1), (2, .int v_2), (0, .ref h0), (1, .int p1)]) hx hb dL_watched_94 hl (by decide) rfl (fun ls hl => ?_)
                    obtain ⟨x_13, ex_13, hf⟩ := sf_ne hf
                    refine ii_nc (lv' := [(5, .int x_13), (4, .int v_11), (3, .int v_1), (2, .int v_2), (0, .ref h0), (1, .int p1)]) (k := 1) hx hb dL_watched_96 hl rfl ex_13 (by decide) (by decide) rfl (fun ls hl => ?_)
                    refine lv_goto (tgt := 31) hx hb dL_watched_99 (by decide) ?_
                    exact ih _ _ _ _ _ (hP.sub [0, 1, 2, 3, 4, 5, 6, 7, 8, 9, 10] rfl) hS (lv_sub hl [0, 1, 2, 3, 4, 5] rfl) hf hk
                  refine lv_icmp_lt (tgt := 89) hx hb dL_watched_52 (by decide) (fun hc => ?_) (fun hc => ?_)
                  · have hf := sf_bp hf hc
                    refine lv_iconst (v := 1) hx hb dL_watched_89 (by decide) ?_
                    refine lv_goto (tgt := 94) hx hb dL_watched_90 (by decide) ?_
                    exact hJ12 _ _ _ _ (hP.sub [0, 1, 2, 3, 4, 5, 6, 7, 8, 9, 10] rfl) hS (lv_sub hl [0, 2, 3, 4, 5] rfl) hf
                  · have hf := sf_bn hf hc
                    refine lv_aload_n hx hb dL_watched_55 rfl (lv_at hl 4 rfl) ?_
                    refine lv_iload hx hb dL_watched_56 (lv_at hl 0 rfl) ?_
                    obtain ⟨r_14, hc14, hf⟩ := sf_c1e hf
                    refine k_Pi (run_YS (As := [.ref h0, .int v_7]) (rest := []) ⟨hx, hb, hml, hown, ha⟩ (c_L_endOf l D dA cA h0 h1 h2 h3 h4 h5 h6 h9 h10 h11 h12 h13 h14 h17 h21 h41 h43 h46 h49   on ot op os sc sd sp sw bc bg bs bt be xi xe xf v_7 _ hc14) (gi_S2 m_769 m_770 m_30 m_771) (yd_L_endOf).2 ⟨Nat.le_of_ble_eq_true rfl, Nat.le_of_ble_eq_true rfl⟩ ⟨rfl, rfl⟩ hK hX hS hP [0, 1, 2, 3, 4, 5, 6, 7, 8, 9, 10] rfl rfl hl.1 rfl (Nat.le_of_ble_eq_true rfl) dL_watched_58 ⟨Nat.le_of_ble_eq_true rfl, Nat.le_of_ble_eq_true rfl⟩) hP hS (fun H locs hP hS => ?_)
                    refine lv_aload_n hx hb dL_watched_61 rfl (lv_at hl 4 rfl) ?_
                    refine lv_iload_n hx hb dL_watched_62 rfl (lv_at hl 2 rfl) ?_
                    obtain ⟨r_15, hc15, hf⟩ := sf_c1e hf
                    refine k_Pi (run_YS (As := [.ref h0, .int v_1]) (rest := [.int r_14]) ⟨hx, hb, hml, hown, ha⟩ (c_L_endOf l D dA cA h0 h1 h2 h3 h4 h5 h6 h9 h10 h11 h12 h13 h14 h17 h21 h41 h43 h46 h49   on ot op os sc sd sp sw bc bg bs bt be xi xe xf v_1 _ hc15) (gi_S2 m_769 m_770 m_30 m_771) (yd_L_endOf).2 ⟨Nat.le_of_ble_eq_true rfl, Nat.le_of_ble_eq_true rfl⟩ ⟨rfl, rfl⟩ hK hX hS hP [0, 1, 2, 3, 4, 5, 6, 7, 8, 9, 10] rfl rfl hl.1 rfl (Nat.le_of_ble_eq_true rfl) dL_watched_63 ⟨Nat.le_of_ble_eq_true rfl, Nat.le_of_ble_eq_true rfl⟩) hP hS (fun H locs hP hS => ?_)
                    refine lv_icmp_gt (tgt := 89) hx hb dL_watched_66 (by decide) (fun hc => ?_) (fun hc => ?_)
                    · have hf := sf_bp hf hc
                      refine lv_iconst (v := 1) hx hb dL_watched_89 (by decide) ?_
                      refine lv_goto (tgt := 94) hx hb dL_watched_90 (by decide) ?_
                      exact hJ12 _ _ _ _ (hP.sub [0, 1, 2, 3, 4, 5, 6, 7, 8, 9, 10] rfl) hS (lv_sub hl [0, 2, 3, 4, 5] rfl) hf
                    · have hf := sf_bn hf hc
                      refine lv_aload_n hx hb dL_watched_69 rfl (lv_at hl 4 rfl) ?_
                      refine lv_iload hx hb dL_watched_70 (lv_at hl 0 rfl) ?_
                      obtain ⟨r_16, hc16, hf⟩ := sf_c1e hf
                      refine k_Pi (run_YS (As := [.ref h0, .int v_7]) (rest := []) ⟨hx, hb, hml, hown, ha⟩ (c_L_endOf l D dA cA h0 h1 h2 h3 h4 h5 h6 h9 h10 h11 h12 h13 h14 h17 h21 h41 h43 h46 h49   on ot op os sc sd sp sw bc bg bs bt be xi xe xf v_7 _ hc16) (gi_S2 m_769 m_770 m_30 m_771) (yd_L_endOf).2 ⟨Nat.le_of_ble_eq_true rfl, Nat.le_of_ble_eq_true rfl⟩ ⟨rfl, rfl⟩ hK hX hS hP [0, 1, 2, 3, 4, 5, 6, 7, 8, 9, 10] rfl rfl hl.1 rfl (Nat.le_of_ble_eq_true rfl) dL_watched_72 ⟨Nat.le_of_ble_eq_true rfl, Nat.le_of_ble_eq_true rfl⟩) hP hS (fun H locs hP hS => ?_)
                      refine lv_aload_n hx hb dL_watched_75 rfl (lv_at hl 4 rfl) ?_
                      refine lv_iload_n hx hb dL_watched_76 rfl (lv_at hl 2 rfl) ?_
                      obtain ⟨r_17, hc17, hf⟩ := sf_c1e hf
                      refine k_Pi (run_YS (As := [.ref h0, .int v_1]) (rest := [.int r_16]) ⟨hx, hb, hml, hown, ha⟩ (c_L_endOf l D dA cA h0 h1 h2 h3 h4 h5 h6 h9 h10 h11 h12 h13 h14 h17 h21 h41 h43 h46 h49   on ot op os sc sd sp sw bc bg bs bt be xi xe xf v_1 _ hc17) (gi_S2 m_769 m_770 m_30 m_771) (yd_L_endOf).2 ⟨Nat.le_of_ble_eq_true rfl, Nat.le_of_ble_eq_true rfl⟩ ⟨rfl, rfl⟩ hK hX hS hP [0, 1, 2, 3, 4, 5, 6, 7, 8, 9, 10] rfl rfl hl.1 rfl (Nat.le_of_ble_eq_true rfl) dL_watched_77 ⟨Nat.le_of_ble_eq_true rfl, Nat.le_of_ble_eq_true rfl⟩) hP hS (fun H locs hP hS => ?_)
                      refine lv_icmp_ne (tgt := 93) hx hb dL_watched_80 (by decide) (fun hc => ?_) (fun hc => ?_)
                      · have hf := sf_bn hf hc
                        refine lv_iconst (v := 0) hx hb dL_watched_93 (by decide) ?_
                        exact hJ12 _ _ _ _ (hP.sub [0, 1, 2, 3, 4, 5, 6, 7, 8, 9, 10] rfl) hS (lv_sub hl [0, 2, 3, 4, 5] rfl) hf
                      · have hf := sf_bp hf hc
                        refine lv_iload hx hb dL_watched_83 (lv_at hl 0 rfl) ?_
                        refine lv_iload_n hx hb dL_watched_85 rfl (lv_at hl 2 rfl) ?_
                        refine lv_icmp_lt (tgt := 93) hx hb dL_watched_86 (by decide) (fun hc => ?_) (fun hc => ?_)
                        · have hf := sf_bp hf hc
                          refine lv_iconst (v := 0) hx hb dL_watched_93 (by decide) ?_
                          exact hJ12 _ _ _ _ (hP.sub [0, 1, 2, 3, 4, 5, 6, 7, 8, 9, 10] rfl) hS (lv_sub hl [0, 2, 3, 4, 5] rfl) hf
                        · have hf := sf_bn hf hc
                          refine lv_iconst (v := 1) hx hb dL_watched_89 (by decide) ?_
                          refine lv_goto (tgt := 94) hx hb dL_watched_90 (by decide) ?_
                          exact hJ12 _ _ _ _ (hP.sub [0, 1, 2, 3, 4, 5, 6, 7, 8, 9, 10] rfl) hS (lv_sub hl [0, 2, 3, 4, 5] rfl) hf
          refine hL31_18 2000 _ _ _ _ _ _ hP hS (lv_sub hl [0, 1, 2, 3, 4, 5] rfl) hf (fun y_18 H locs ls hP hS hl hf => ?_)
          refine lv_iload hx hb dL_watched_102 (lv_at hl 0 rfl) ?_
          refine sf_jo (J := fun (k_20 : Int32 → Option Int32) => ∀ (v_19 : Int32) (H : Heap) (locs : List Loc) (ls : Array Slot), va_P D cls [(h0, .inr (9, [.ref h1, .ref h21, .int xi, .ref h41, .ref h43, .ref h46, .ref h49, .int xe, .int xf])), (h1, .inr (6, [.int on, .int ot, .int op, .int os, .ref h2, .ref h6, .ref h9, .ref h14, .ref h17])), (h2, .inr (8, [.int sc, .ref h3, .ref h4, .ref h5])), (h3, .inl (dA 0, 4, .inl sd)), (h4, .inl (dA 0, 4, .inl sp)), (h5, .inl (dA 0, 4, .inl sw)), (h9, .inr (0, [.int bc, .ref h10, .ref h11, .ref h12, .ref h13])), (h10, .inl (dA 0, 12, .inl bg)), (h11, .inl (dA 0, 12, .inl bs)), (h12, .inl (dA 0, 12, .inl bt)), (h13, .inl (dA 0, 12, .inl be))] H → va_S noA s.heap H locs → lv_has ls 6 [(3, .int v_1), (0, .ref h0), (1, .int p1)] → k_20 v_19 = some rr → W p l e ({ frames := 8, cells := 0, slots := 0, locals := 184 } : Room) s m ([.ref h0, .int p1] : List Value).toArray below meth c H locs 0 0 (MQ below (poPi rr) ([.ref h0, .int p1] : List Value).toArray s 0 0 noA) (F0 m 126 ls [.int v_19])) hf (fun v_19 H locs ls hP hS hl hf => ?_) (fun k_20 hJ20 hf => ?_)
          · skip
            refine lv_istore_n (lv' := [(2, .int v_19), (3, .int v_1), (0, .ref h0), (1, .int p1)]) hx hb dL_watched_126 rfl hl (by decide) rfl (fun ls hl => ?_)
            obtain ⟨x_21, ex_21, hf⟩ := sf_ne hf
            refine ii_nc (lv' := [(3, .int x_21), (2, .int v_19), (0, .ref h0), (1, .int p1)]) (k := 1) hx hb dL_watched_127 hl rfl ex_21 (by decide) (by decide) rfl (fun ls hl => ?_)
            refine lv_goto (tgt := 4) hx hb dL_watched_130 (by decide) ?_
            exact ih _ _ _ _ _ (hP.sub [0, 1, 2, 3, 4, 5, 6, 7, 8, 9, 10] rfl) hS (lv_sub hl [0, 1, 2, 3] rfl) hf hk
          refine lv_if_eq (tgt := 125) hx hb dL_watched_104 (by decide) (fun hc => ?_) (fun hc => ?_)
          · have hf := sf_bp hf hc
            refine lv_iload_n hx hb dL_watched_125 rfl (lv_at hl 2 rfl) ?_
            exact hJ20 _ _ _ _ (hP.sub [0, 1, 2, 3, 4, 5, 6, 7, 8, 9, 10] rfl) hS (lv_sub hl [1, 3, 4] rfl) hf
          · have hf := sf_bn hf hc
            refine lv_iload_n hx hb dL_watched_107 rfl (lv_at hl 2 rfl) ?_
            refine lv_iconst (v := 1) hx hb dL_watched_108 (by decide) ?_
            refine lv_aload_n hx hb dL_watched_109 rfl (lv_at hl 3 rfl) ?_
            refine lv_aload_n hx hb dL_watched_110 rfl (lv_at hl 3 rfl) ?_
            refine lv_iload_n hx hb dL_watched_111 rfl (lv_at hl 1 rfl) ?_
            obtain ⟨r_22, hc22, hf⟩ := sf_c1e hf
            refine k_Pi (run_YS (As := [.ref h0, .int v_1]) (rest := [.ref h0, .int (1 : Int32), .int v_2]) ⟨hx, hb, hml, hown, ha⟩ (c_L_endOf l D dA cA h0 h1 h2 h3 h4 h5 h6 h9 h10 h11 h12 h13 h14 h17 h21 h41 h43 h46 h49   on ot op os sc sd sp sw bc bg bs bt be xi xe xf v_1 _ hc22) (gi_S2 m_769 m_770 m_30 m_771) (yd_L_endOf).2 ⟨Nat.le_of_ble_eq_true rfl, Nat.le_of_ble_eq_true rfl⟩ ⟨rfl, rfl⟩ hK hX hS hP [0, 1, 2, 3, 4, 5, 6, 7, 8, 9, 10] rfl rfl hl.1 rfl (Nat.le_of_ble_eq_true rfl) dL_watched_112 ⟨Nat.le_of_ble_eq_true rfl, Nat.le_of_ble_eq_true rfl⟩) hP hS (fun H locs hP hS => ?_)
            obtain ⟨r_23, hc23, hf⟩ := sf_c1e hf
            refine k_Pi (run_YS (As := [.ref h0, .int r_22]) (rest := [.int (1 : Int32), .int v_2]) ⟨hx, hb, hml, hown, ha⟩ (c_L_watched_3 l D dA cA h0 h1 h2 h3 h4 h5 h6 h9 h10 h11 h12 h13 h14 h17 h21 h41 h43 h46 h49   on ot op os sc sd sp sw bc bg bs bt be xi xe xf r_22 _ hc23) (gi_S2 m_847 m_848 m_30 m_849) (yd_L_watched_3).2 ⟨Nat.le_of_ble_eq_true rfl, Nat.le_of_ble_eq_true rfl⟩ ⟨rfl, rfl⟩ hK hX hS hP [0, 1, 2, 3, 4, 5, 6, 7, 8, 9, 10] rfl rfl hl.1 rfl (Nat.le_of_ble_eq_true rfl) dL_watched_115 ⟨Nat.le_of_ble_eq_true rfl, Nat.le_of_ble_eq_true rfl⟩) hP hS (fun H locs hP hS => ?_)
            refine lv_iadd hx hb dL_watched_118 ?_
            refine mx_i hx hb ha hown hml hl.1 m_785 m_786 m_54 m_787 ⟨Nat.le_of_ble_eq_true rfl, Nat.le_of_ble_eq_true rfl⟩ ⟨Nat.le_of_ble_eq_true rfl, Nat.le_of_ble_eq_true rfl⟩ dL_watched_119 ?_
            refine lv_goto (tgt := 126) hx hb dL_watched_122 (by decide) ?_
            exact hJ20 _ _ _ _ (hP.sub [0, 1, 2, 3, 4, 5, 6, 7, 8, 9, 10] rfl) hS (lv_sub hl [1, 3, 4] rfl) hf
        refine lv_icmp_lt (tgt := 25) hx hb dL_watched_18 (by decide) (fun hc => ?_) (fun hc => ?_)
        · have hf := sf_bp hf hc
          refine lv_iconst (v := 0) hx hb dL_watched_25 (by decide) ?_
          exact hJ6 _ _ _ _ (hP.sub [0, 1, 2, 3, 4, 5, 6, 7, 8, 9, 10] rfl) hS (lv_sub hl [0, 1, 2, 3] rfl) hf
        · have hf := sf_bn hf hc
          refine lv_iconst (v := 1) hx hb dL_watched_21 (by decide) ?_
          refine lv_goto (tgt := 26) hx hb dL_watched_22 (by decide) ?_
          exact hJ6 _ _ _ _ (hP.sub [0, 1, 2, 3, 4, 5, 6, 7, 8, 9, 10] rfl) hS (lv_sub hl [0, 1, 2, 3] rfl) hf
  refine hL4_24 2000 _ _ _ _ _ _ hP hS (lv_sub hl [0, 1, 2, 3] rfl) hf (fun y_24 H locs ls hP hS hl hf => ?_)
  refine lv_iload_n hx hb dL_watched_133 rfl (lv_at hl 0 rfl) ?_
  exact rt_Pi hx hb hr hlocks (Option.some.inj hf) hS dL_watched_134

def f_L_watched_5_L31 (sc : Int32) (sd : Nat → Int32) (bc : Int32) (bs : Nat → Int32) (bt : Nat → Int32) (p1 : Int32) (v_1 : Int32) (k : Int32 → Option Int32) : Nat → Int32 → Int32 → Option Int32
  | 0, _, _ => none
  | n + 1, v_7, v_8 => sf_c1 (f_X11_bookingCount bc) (fun r_9 => sf_b (r_9 ≤ v_7) (k v_8) (sf_b (v_8 = (0 : Int32)) (k v_8) (sf_c1 (f_X11_start bc bt v_7) (fun r_10 => sf_j (fun (v_11 : Int32) => sf_n (v_7 + (1 : Int32)) (fun x_13 => f_L_watched_5_L31 sc sd bc bs bt p1 v_1 k n x_13 v_11)) (fun k_12 => sf_b (r_10 < p1) (k_12 (1 : Int32)) (sf_c1 (f_L_endOf sc sd bc bs bt v_7) (fun r_14 => sf_c1 (f_L_endOf sc sd bc bs bt v_1) (fun r_15 => sf_b (r_15 < r_14) (k_12 (1 : Int32)) (sf_c1 (f_L_endOf sc sd bc bs bt v_7) (fun r_16 => sf_c1 (f_L_endOf sc sd bc bs bt v_1) (fun r_17 => sf_b (r_16 = r_17) (sf_b (v_7 < v_1) (k_12 (0 : Int32)) (k_12 (1 : Int32))) (k_12 (0 : Int32)))))))))))))
def f_L_watched_5_L4 (sc : Int32) (sd : Nat → Int32) (bc : Int32) (bs : Nat → Int32) (bt : Nat → Int32) (p1 : Int32) (k : Int32 → Option Int32) : Nat → Int32 → Int32 → Option Int32
  | 0, _, _ => none
  | n + 1, v_1, v_2 => sf_c1 (f_X11_bookingCount bc) (fun r_3 => sf_b (r_3 ≤ v_1) (k v_2) (sf_c1 (f_X11_start bc bt v_1) (fun r_4 => sf_j (fun (v_5 : Int32) => f_L_watched_5_L31 sc sd bc bs bt p1 v_1 (fun y_18 => sf_j (fun (v_19 : Int32) => sf_n (v_1 + (1 : Int32)) (fun x_21 => f_L_watched_5_L4 sc sd bc bs bt p1 k n x_21 v_19)) (fun k_20 => sf_b (y_18 = (0 : Int32)) (k_20 v_2) (sf_c1 (f_L_endOf sc sd bc bs bt v_1) (fun r_22 => sf_c1 (f_L_watched_4 sc sd bc bs bt r_22) (fun r_23 => k_20 (if v_2 < ((1 : Int32) + r_23) then ((1 : Int32) + r_23) else v_2)))))) 2000 (0 : Int32) v_5) (fun k_6 => sf_b (r_4 < p1) (k_6 (0 : Int32)) (k_6 (1 : Int32))))))
def f_L_watched_5 (sc : Int32) (sd : Nat → Int32) (bc : Int32) (bs : Nat → Int32) (bt : Nat → Int32) (p1 : Int32) : Option Int32 :=
  f_L_watched_5_L4 sc sd bc bs bt p1 (fun y_24 => some y_24) 2000 (0 : Int32) (0 : Int32)
theorem yd_L_watched_5 : yL_watched.cls = RL ∧ yL_watched.cls ≠ "java/lang/invoke/MethodHandle" ∧ yL_watched.cls ≠ "java/lang/invoke/VarHandle" ∧ (parseMethodDescriptor yL_watched.desc).map (fun d => d.parameters.length) = some 2 := ⟨rfl, by decide, by decide, by decide +kernel⟩
set_option maxRecDepth 100000 in
set_option maxHeartbeats 8000000 in
theorem c_L_watched_5 (l : Launch) (D : va_G) (dA : Nat → ClassId) (cA : Nat → Nat) (h0 h1 h2 h3 h4 h5 h6 h9 h10 h11 h12 h13 h14 h17 h21 h41 h43 h46 h49 : Nat) (on : Int32) (ot : Int32) (op : Int32) (os : Int32) (sc : Int32) (sd : Nat → Int32) (sp : Nat → Int32) (sw : Nat → Int32) (bc : Int32) (bg : Nat → Int32) (bs : Nat → Int32) (bt : Nat → Int32) (be : Nat → Int32) (xi : Int32) (xe : Int32) (xf : Int32) (p1 : Int32) (rr : Int32) (hf : f_L_watched_5 sc sd bc bs bt p1 = some rr) : Met l yL_watched (wo (.code yL_watched cL_watched 6 (some .int))) ({ frames := 9, cells := 0, slots := 0, locals := 209 } : Room) (preY D dA cA [.ref h0, .int p1] [(h0, .inr (9, [.ref h1, .ref h21, .int xi, .ref h41, .ref h43, .ref h46, .ref h49, .int xe, .int xf])), (h1, .inr (6, [.int on, .int ot, .int op, .int os, .ref h2, .ref h6, .ref h9, .ref h14, .ref h17])), (h2, .inr (8, [.int sc, .ref h3, .ref h4, .ref h5])), (h3, .inl (dA 0, 4, .inl sd)), (h4, .inl (dA 0, 4, .inl sp)), (h5, .inl (dA 0, 4, .inl sw)), (h9, .inr (0, [.int bc, .ref h10, .ref h11, .ref h12, .ref h13])), (h10, .inl (dA 0, 12, .inl bg)), (h11, .inl (dA 0, 12, .inl bs)), (h12, .inl (dA 0, 12, .inl bt)), (h13, .inl (dA 0, 12, .inl be))]) (poPi rr) 0 0 noA := by
  refine of_Y (y := yL_watched) (cc := cL_watched) (maxL := 6) (ret := (some .int)) (av := [.ref h0, .int p1]) (ws := [(h0, .inr (9, [.ref h1, .ref h21, .int xi, .ref h41, .ref h43, .ref h46, .ref h49, .int xe, .int xf])), (h1, .inr (6, [.int on, .int ot, .int op, .int os, .ref h2, .ref h6, .ref h9, .ref h14, .ref h17])), (h2, .inr (8, [.int sc, .ref h3, .ref h4, .ref h5])), (h3, .inl (dA 0, 4, .inl sd)), (h4, .inl (dA 0, 4, .inl sp)), (h5, .inl (dA 0, 4, .inl sw)), (h9, .inr (0, [.int bc, .ref h10, .ref h11, .ref h12, .ref h13])), (h10, .inl (dA 0, 12, .inl bg)), (h11, .inl (dA 0, 12, .inl bs)), (h12, .inl (dA 0, 12, .inl bt)), (h13, .inl (dA 0, 12, .inl be))]) (own := RL) (by decide) rfl (Nat.le_of_ble_eq_true rfl) ?_
  intro p e s m below meth c hx hb hr ha hown hml hlocks hP hK hX hS ls hl
  have hC := hX.1
  have hl : lv_has ls 6 [(0, .ref h0), (1, .int p1)] := hl
  rw [f_L_watched_5] at hf
  refine lv_iconst (v := 0) hx hb dL_watched_0 (by decide) ?_
  refine lv_istore_n (lv' := [(2, .int (0 : Int32)), (0, .ref h0), (1, .int p1)]) hx hb dL_watched_1 rfl hl (by decide) rfl (fun ls hl => ?_)
  refine lv_iconst (v := 0) hx hb dL_watched_2 (by decide) ?_
  refine lv_istore_n (lv' := [(3, .int (0 : Int32)), (2, .int (0 : Int32)), (0, .ref h0), (1, .int p1)]) hx hb dL_watched_3 rfl hl (by decide) rfl (fun ls hl => ?_)
  have hL4_24 : ∀ (n : Nat) (k : Int32 → Option Int32) (v_1 : Int32) (v_2 : Int32) (H : Heap) (locs : List Loc) (ls : Array Slot), va_P D cls [(h0, .inr (9, [.ref h1, .ref h21, .int xi, .ref h41, .ref h43, .ref h46, .ref h49, .int xe, .int xf])), (h1, .inr (6, [.int on, .int ot, .int op, .int os, .ref h2, .ref h6, .ref h9, .ref h14, .ref h17])), (h2, .inr (8, [.int sc, .ref h3, .ref h4, .ref h5])), (h3, .inl (dA 0, 4, .inl sd)), (h4, .inl (dA 0, 4, .inl sp)), (h5, .inl (dA 0, 4, .inl sw)), (h9, .inr (0, [.int bc, .ref h10, .ref h11, .ref h12, .ref h13])), (h10, .inl (dA 0, 12, .inl bg)), (h11, .inl (dA 0, 12, .inl bs)), (h12, .inl (dA 0, 12, .inl bt)), (h13, .inl (dA 0, 12, .inl be))] H → va_S noA s.heap H locs → lv_has ls 6 [(3, .int v_1), (2, .int v_2), (0, .ref h0), (1, .int p1)] → f_L_watched_5_L4 sc sd bc bs bt p1 k n v_1 v_2 = some rr → (∀ (y_24 : Int32) (H : Heap) (locs : List Loc) (ls : Array Slot), va_P D cls [(h0, .inr (9, [.ref h1, .ref h21, .int xi, .ref h41, .ref h43, .ref h46, .ref h49, .int xe, .int xf])), (h1, .inr (6, [.int on, .int ot, .int op, .int os, .ref h2, .ref h6, .ref h9, .ref h14, .ref h17])), (h2, .inr (8, [.int sc, .ref h3, .ref h4, .ref h5])), (h3, .inl (dA 0, 4, .inl sd)), (h4, .inl (dA 0, 4, .inl sp)), (h5, .inl (dA 0, 4, .inl sw)), (h9, .inr (0, [.int bc, .ref h10, .ref h11, .ref h12, .ref h13])), (h10, .inl (dA 0, 12, .inl bg)), (h11, .inl (dA 0, 12, .inl bs)), (h12, .inl (dA 0, 12, .inl bt)), (h13, .inl (dA 0, 12, .inl be))] H → va_S noA s.heap H locs → lv_has ls 6 [(2, .int y_24)] → k y_24 = some rr → W p l e ({ frames := 9, cells := 0, slots := 0, locals := 209 } : Room) s m ([.ref h0, .int p1] : List Value).toArray below meth c H locs 0 0 (MQ below (poPi rr) ([.ref h0, .int p1] : List Value).toArray s 0 0 noA) (F0 m 133 ls [])) → W p l e ({ frames := 9, cells := 0, slots := 0, locals := 209 } : Room) s m ([.ref h0, .int p1] : List Value).toArray below meth c H locs 0 0 (MQ below (poPi rr) ([.ref h0, .int p1] : List Value).toArray s 0 0 noA) (F0 m 4 ls []) := by
    intro n k
    induction n with
    | zero =>
      intro v_1 v_2 H locs ls hP hS hl hf hk
      rw [f_L_watched_5_L4] at hf
      cases hf
    | succ n ih =>
      intro v_1 v_2 H locs ls hP hS hl hf hk
      rw [f_L_watched_5_L4] at hf
      refine lv_iload_n hx hb dL_watched_4 rfl (lv_at hl 0 rfl) ?_
      refine lv_aload_n hx hb dL_watched_5 rfl (lv_at hl 2 rfl) ?_
      obtain ⟨r_3, hc3, hf⟩ := sf_c1e hf
      refine k_Pi (run_YV (As := []) (rest := [.int v_1]) ⟨hx, hb, hml, hown, ha⟩ (c_X11_bookingCount l D dA cA h0 h1 h2 h6 h9 h10 h11 h12 h13 h14 h17 h21 h41 h43 h46 h49   on ot op os bc xi xe xf  _ hc3) (gi_V m_744 m_745 m_746 m_31 m_747) yd_X11_bookingCount ⟨Nat.le_of_ble_eq_true rfl, Nat.le_of_ble_eq_true rfl⟩ ⟨rfl, rfl⟩ hK hX hS hP [0, 1, 6] rfl (va_recv hK hP (q0 := 0) rfl rfl) rfl hl.1 rfl (Nat.le_of_ble_eq_true rfl) dL_watched_6 ⟨Nat.le_of_ble_eq_true rfl, Nat.le_of_ble_eq_true rfl⟩) hP hS (fun H locs hP hS => ?_)
      refine lv_icmp_ge (tgt := 133) hx hb dL_watched_9 (by decide) (fun hc => ?_) (fun hc => ?_)
      · have hf := sf_bp hf hc
        exact hk _ _ _ _ (hP.sub [0, 1, 2, 3, 4, 5, 6, 7, 8, 9, 10] rfl) hS (lv_sub hl [1] rfl) hf
      · have hf := sf_bn hf hc
        refine lv_aload_n hx hb dL_watched_12 rfl (lv_at hl 2 rfl) ?_
        refine lv_iload_n hx hb dL_watched_13 rfl (lv_at hl 0 rfl) ?_
        obtain ⟨r_4, hc4, hf⟩ := sf_c1e hf
        refine k_Pi (run_YV (As := [.int v_1]) (rest := []) ⟨hx, hb, hml, hown, ha⟩ (c_X11_start l D dA cA h0 h1 h2 h6 h9 h10 h11 h12 h13 h14 h17 h21 h41 h43 h46 h49   on ot op os bc bg bs bt be xi xe xf v_1 _ hc4) (gi_V m_765 m_766 m_767 m_31 m_768) yd_X11_start ⟨Nat.le_of_ble_eq_true rfl, Nat.le_of_ble_eq_true rfl⟩ ⟨rfl, rfl⟩ hK hX hS hP [0, 1, 6, 7, 8, 9, 10] rfl (va_recv hK hP (q0 := 0) rfl rfl) rfl hl.1 rfl (Nat.le_of_ble_eq_true rfl) dL_watched_14 ⟨Nat.le_of_ble_eq_true rfl, Nat.le_of_ble_eq_true rfl⟩) hP hS (fun H locs hP hS => ?_)
        refine lv_iload_n hx hb dL_watched_17 rfl (lv_at hl 3 rfl) ?_
        refine sf_jo (J := fun (k_6 : Int32 → Option Int32) => ∀ (v_5 : Int32) (H : Heap) (locs : List Loc) (ls : Array Slot), va_P D cls [(h0, .inr (9, [.ref h1, .ref h21, .int xi, .ref h41, .ref h43, .ref h46, .ref h49, .int xe, .int xf])), (h1, .inr (6, [.int on, .int ot, .int op, .int os, .ref h2, .ref h6, .ref h9, .ref h14, .ref h17])), (h2, .inr (8, [.int sc, .ref h3, .ref h4, .ref h5])), (h3, .inl (dA 0, 4, .inl sd)), (h4, .inl (dA 0, 4, .inl sp)), (h5, .inl (dA 0, 4, .inl sw)), (h9, .inr (0, [.int bc, .ref h10, .ref h11, .ref h12, .ref h13])), (h10, .inl (dA 0, 12, .inl bg)), (h11, .inl (dA 0, 12, .inl bs)), (h12, .inl (dA 0, 12, .inl bt)), (h13, .inl (dA 0, 12, .inl be))] H → va_S noA s.heap H locs → lv_has ls 6 [(3, .int v_1), (2, .int v_2), (0, .ref h0), (1, .int p1)] → k_6 v_5 = some rr → W p l e ({ frames := 9, cells := 0, slots := 0, locals := 209 } : Room) s m ([.ref h0, .int p1] : List Value).toArray below meth c H locs 0 0 (MQ below (poPi rr) ([.ref h0, .int p1] : List Value).toArray s 0 0 noA) (F0 m 26 ls [.int v_5])) hf (fun v_5 H locs ls hP hS hl hf => ?_) (fun k_6 hJ6 hf => ?_)
        · skip
          refine lv_istore (lv' := [(4, .int v_5), (3, .int v_1), (2, .int v_2), (0, .ref h0), (1, .int p1)]) hx hb dL_watched_26 hl (by decide) rfl (fun ls hl => ?_)
          refine lv_iconst (v := 0) hx hb dL_watched_28 (by decide) ?_
          refine lv_istore (lv' := [(5, .int (0 : Int32)), (4, .int v_5), (3, .int v_1), (2, .int v_2), (0, .ref h0), (1, .int p1)]) hx hb dL_watched_29 hl (by decide) rfl (fun ls hl => ?_)
          have hL31_18 : ∀ (n : Nat) (k : Int32 → Option Int32) (v_7 : Int32) (v_8 : Int32) (H : Heap) (locs : List Loc) (ls : Array Slot), va_P D cls [(h0, .inr (9, [.ref h1, .ref h21, .int xi, .ref h41, .ref h43, .ref h46, .ref h49, .int xe, .int xf])), (h1, .inr (6, [.int on, .int ot, .int op, .int os, .ref h2, .ref h6, .ref h9, .ref h14, .ref h17])), (h2, .inr (8, [.int sc, .ref h3, .ref h4, .ref h5])), (h3, .inl (dA 0, 4, .inl sd)), (h4, .inl (dA 0, 4, .inl sp)), (h5, .inl (dA 0, 4, .inl sw)), (h9, .inr (0, [.int bc, .ref h10, .ref h11, .ref h12, .ref h13])), (h10, .inl (dA 0, 12, .inl bg)), (h11, .inl (dA 0, 12, .inl bs)), (h12, .inl (dA 0, 12, .inl bt)), (h13, .inl (dA 0, 12, .inl be))] H → va_S noA s.heap H locs → lv_has ls 6 [(5, .int v_7), (4, .int v_8), (3, .int v_1), (2, .int v_2), (0, .ref h0), (1, .int p1)] → f_L_watched_5_L31 sc sd bc bs bt p1 v_1 k n v_7 v_8 = some rr → (∀ (y_18 : Int32) (H : Heap) (locs : List Loc) (ls : Array Slot), va_P D cls [(h0, .inr (9, [.ref h1, .ref h21, .int xi, .ref h41, .ref h43, .ref h46, .ref h49, .int xe, .int xf])), (h1, .inr (6, [.int on, .int ot, .int op, .int os, .ref h2, .ref h6, .ref h9, .ref h14, .ref h17])), (h2, .inr (8, [.int sc, .ref h3, .ref h4, .ref h5])), (h3, .inl (dA 0, 4, .inl sd)), (h4, .inl (dA 0, 4, .inl sp)), (h5, .inl (dA 0, 4, .inl sw)), (h9, .inr (0, [.int bc, .ref h10, .ref h11, .ref h12, .ref h13])), (h10, .inl (dA 0, 12, .inl bg)), (h11, .inl (dA 0, 12, .inl bs)), (h12, .inl (dA 0, 12, .inl bt)), (h13, .inl (dA 0, 12, .inl be))] H → va_S noA s.heap H locs → lv_has ls 6 [(4, .int y_18), (3, .int v_1), (2, .int v_2), (0, .ref h0), (1, .int p1)] → k y_18 = some rr → W p l e ({ frames := 9, cells := 0, slots := 0, locals := 209 } : Room) s m ([.ref h0, .int p1] : List Value).toArray below meth c H locs 0 0 (MQ below (poPi rr) ([.ref h0, .int p1] : List Value).toArray s 0 0 noA) (F0 m 102 ls [])) → W p l e ({ frames := 9, cells := 0, slots := 0, locals := 209 } : Room) s m ([.ref h0, .int p1] : List Value).toArray below meth c H locs 0 0 (MQ below (poPi rr) ([.ref h0, .int p1] : List Value).toArray s 0 0 noA) (F0 m 31 ls []) := by
            intro n k
            induction n with
            | zero =>
              intro v_7 v_8 H locs ls hP hS hl hf hk
              rw [f_L_watched_5_L31] at hf
              cases hf
            | succ n ih =>
              intro v_7 v_8 H locs ls hP hS hl hf hk
              rw [f_L_watched_5_L31] at hf
              refine lv_iload hx hb dL_watched_31 (lv_at hl 0 rfl) ?_
              refine lv_aload_n hx hb dL_watched_33 rfl (lv_at hl 4 rfl) ?_
              obtain ⟨r_9, hc9, hf⟩ := sf_c1e hf
              refine k_Pi (run_YV (As := []) (rest := [.int v_7]) ⟨hx, hb, hml, hown, ha⟩ (c_X11_bookingCount l D dA cA h0 h1 h2 h6 h9 h10 h11 h12 h13 h14 h17 h21 h41 h43 h46 h49   on ot op os bc xi xe xf  _ hc9) (gi_V m_744 m_745 m_746 m_31 m_747) yd_X11_bookingCount ⟨Nat.le_of_ble_eq_true rfl, Nat.le_of_ble_eq_true rfl⟩ ⟨rfl, rfl⟩ hK hX hS hP [0, 1, 6] rfl (va_recv hK hP (q0 := 0) rfl rfl) rfl hl.1 rfl (Nat.le_of_ble_eq_true rfl) dL_watched_34 ⟨Nat.le_of_ble_eq_true rfl, Nat.le_of_ble_eq_true rfl⟩) hP hS (fun H locs hP hS => ?_)
              refine lv_icmp_ge (tgt := 102) hx hb dL_watched_37 (by decide) (fun hc => ?_) (fun hc => ?_)
              · have hf := sf_bp hf hc
                exact hk _ _ _ _ (hP.sub [0, 1, 2, 3, 4, 5, 6, 7, 8, 9, 10] rfl) hS (lv_sub hl [1, 2, 3, 4, 5] rfl) hf
              · have hf := sf_bn hf hc
                refine lv_iload hx hb dL_watched_40 (lv_at hl 1 rfl) ?_
                refine lv_if_eq (tgt := 102) hx hb dL_watched_42 (by decide) (fun hc => ?_) (fun hc => ?_)
                · have hf := sf_bp hf hc
                  exact hk _ _ _ _ (hP.sub [0, 1, 2, 3, 4, 5, 6, 7, 8, 9, 10] rfl) hS (lv_sub hl [1, 2, 3, 4, 5] rfl) hf
                · have hf := sf_bn hf hc
                  refine lv_aload_n hx hb dL_watched_45 rfl (lv_at hl 4 rfl) ?_
                  refine lv_iload hx hb dL_watched_46 (lv_at hl 0 rfl) ?_
                  obtain ⟨r_10, hc10, hf⟩ := sf_c1e hf
                  refine k_Pi (run_YV (As := [.int v_7]) (rest := []) ⟨hx, hb, hml, hown, ha⟩ (c_X11_start l D dA cA h0 h1 h2 h6 h9 h10 h11 h12 h13 h14 h17 h21 h41 h43 h46 h49   on ot op os bc bg bs bt be xi xe xf v_7 _ hc10) (gi_V m_765 m_766 m_767 m_31 m_768) yd_X11_start ⟨Nat.le_of_ble_eq_true rfl, Nat.le_of_ble_eq_true rfl⟩ ⟨rfl, rfl⟩ hK hX hS hP [0, 1, 6, 7, 8, 9, 10] rfl (va_recv hK hP (q0 := 0) rfl rfl) rfl hl.1 rfl (Nat.le_of_ble_eq_true rfl) dL_watched_48 ⟨Nat.le_of_ble_eq_true rfl, Nat.le_of_ble_eq_true rfl⟩) hP hS (fun H locs hP hS => ?_)
                  refine lv_iload_n hx hb dL_watched_51 rfl (lv_at hl 5 rfl) ?_
                  refine sf_jo (J := fun (k_12 : Int32 → Option Int32) => ∀ (v_11 : Int32) (H : Heap) (locs : List Loc) (ls : Array Slot), va_P D cls [(h0, .inr (9, [.ref h1, .ref h21, .int xi, .ref h41, .ref h43, .ref h46, .ref h49, .int xe, .int xf])), (h1, .inr (6, [.int on, .int ot, .int op, .int os, .ref h2, .ref h6, .ref h9, .ref h14, .ref h17])), (h2, .inr (8, [.int sc, .ref h3, .ref h4, .ref h5])), (h3, .inl (dA 0, 4, .inl sd)), (h4, .inl (dA 0, 4, .inl sp)), (h5, .inl (dA 0, 4, .inl sw)), (h9, .inr (0, [.int bc, .ref h10, .ref h11, .ref h12, .ref h13])), (h10, .inl (dA 0, 12, .inl bg)), (h11, .inl (dA 0, 12, .inl bs)), (h12, .inl (dA 0, 12, .inl bt)), (h13, .inl (dA 0, 12, .inl be))] H → va_S noA s.heap H locs → lv_has ls 6 [(5, .int v_7), (3, .int v_1), (2, .int v_2), (0, .ref h0), (1, .int p1)] → k_12 v_11 = some rr → W p l e ({ frames := 9, cells := 0, slots := 0, locals := 209 } : Room) s m ([.ref h0, .int p1] : List Value).toArray below meth c H locs 0 0 (MQ below (poPi rr) ([.ref h0, .int p1] : List Value).toArray s 0 0 noA) (F0 m 94 ls [.int v_11])) hf (fun v_11 H locs ls hP hS hl hf => ?_) (fun k_12 hJ12 hf => ?_)
                  · skip
                    refine lv_istore (lv' := [(4, .int v_11), (5, .int v_7), (3, .int v_1), (2, .int v_2), (0, .ref h0), (1, .int p1)]) hx hb dL_watched_94 hl (by decide) rfl (fun ls hl => ?_)
                    obtain ⟨x_13, ex_13, hf⟩ := sf_ne hf
                    refine ii_nc (lv' := [(5, .int x_13), (4, .int v_11), (3, .int v_1), (2, .int v_2), (0, .ref h0), (1, .int p1)]) (k := 1) hx hb dL_watched_96 hl rfl ex_13 (by decide) (by decide) rfl (fun ls hl => ?_)
                    refine lv_goto (tgt := 31) hx hb dL_watched_99 (by decide) ?_
                    exact ih _ _ _ _ _ (hP.sub [0, 1, 2, 3, 4, 5, 6, 7, 8, 9, 10] rfl) hS (lv_sub hl [0, 1, 2, 3, 4, 5] rfl) hf hk
                  refine lv_icmp_lt (tgt := 89) hx hb dL_watched_52 (by decide) (fun hc => ?_) (fun hc => ?_)
                  · have hf := sf_bp hf hc
                    refine lv_iconst (v := 1) hx hb dL_watched_89 (by decide) ?_
                    refine lv_goto (tgt := 94) hx hb dL_watched_90 (by decide) ?_
                    exact hJ12 _ _ _ _ (hP.sub [0, 1, 2, 3, 4, 5, 6, 7, 8, 9, 10] rfl) hS (lv_sub hl [0, 2, 3, 4, 5] rfl) hf
                  · have hf := sf_bn hf hc
                    refine lv_aload_n hx hb dL_watched_55 rfl (lv_at hl 4 rfl) ?_
                    refine lv_iload hx hb dL_watched_56 (lv_at hl 0 rfl) ?_
                    obtain ⟨r_14, hc14, hf⟩ := sf_c1e hf
                    refine k_Pi (run_YS (As := [.ref h0, .int v_7]) (rest := []) ⟨hx, hb, hml, hown, ha⟩ (c_L_endOf l D dA cA h0 h1 h2 h3 h4 h5 h6 h9 h10 h11 h12 h13 h14 h17 h21 h41 h43 h46 h49   on ot op os sc sd sp sw bc bg bs bt be xi xe xf v_7 _ hc14) (gi_S2 m_769 m_770 m_30 m_771) (yd_L_endOf).2 ⟨Nat.le_of_ble_eq_true rfl, Nat.le_of_ble_eq_true rfl⟩ ⟨rfl, rfl⟩ hK hX hS hP [0, 1, 2, 3, 4, 5, 6, 7, 8, 9, 10] rfl rfl hl.1 rfl (Nat.le_of_ble_eq_true rfl) dL_watched_58 ⟨Nat.le_of_ble_eq_true rfl, Nat.le_of_ble_eq_true rfl⟩) hP hS (fun H locs hP hS => ?_)
                    refine lv_aload_n hx hb dL_watched_61 rfl (lv_at hl 4 rfl) ?_
                    refine lv_iload_n hx hb dL_watched_62 rfl (lv_at hl 2 rfl) ?_
                    obtain ⟨r_15, hc15, hf⟩ := sf_c1e hf
                    refine k_Pi (run_YS (As := [.ref h0, .int v_1]) (rest := [.int r_14]) ⟨hx, hb, hml, hown, ha⟩ (c_L_endOf l D dA cA h0 h1 h2 h3 h4 h5 h6 h9 h10 h11 h12 h13 h14 h17 h21 h41 h43 h46 h49   on ot op os sc sd sp sw bc bg bs bt be xi xe xf v_1 _ hc15) (gi_S2 m_769 m_770 m_30 m_771) (yd_L_endOf).2 ⟨Nat.le_of_ble_eq_true rfl, Nat.le_of_ble_eq_true rfl⟩ ⟨rfl, rfl⟩ hK hX hS hP [0, 1, 2, 3, 4, 5, 6, 7, 8, 9, 10] rfl rfl hl.1 rfl (Nat.le_of_ble_eq_true rfl) dL_watched_63 ⟨Nat.le_of_ble_eq_true rfl, Nat.le_of_ble_eq_true rfl⟩) hP hS (fun H locs hP hS => ?_)
                    refine lv_icmp_gt (tgt := 89) hx hb dL_watched_66 (by decide) (fun hc => ?_) (fun hc => ?_)
                    · have hf := sf_bp hf hc
                      refine lv_iconst (v := 1) hx hb dL_watched_89 (by decide) ?_
                      refine lv_goto (tgt := 94) hx hb dL_watched_90 (by decide) ?_
                      exact hJ12 _ _ _ _ (hP.sub [0, 1, 2, 3, 4, 5, 6, 7, 8, 9, 10] rfl) hS (lv_sub hl [0, 2, 3, 4, 5] rfl) hf
                    · have hf := sf_bn hf hc
                      refine lv_aload_n hx hb dL_watched_69 rfl (lv_at hl 4 rfl) ?_
                      refine lv_iload hx hb dL_watched_70 (lv_at hl 0 rfl) ?_
                      obtain ⟨r_16, hc16, hf⟩ := sf_c1e hf
                      refine k_Pi (run_YS (As := [.ref h0, .int v_7]) (rest := []) ⟨hx, hb, hml, hown, ha⟩ (c_L_endOf l D dA cA h0 h1 h2 h3 h4 h5 h6 h9 h10 h11 h12 h13 h14 h17 h21 h41 h43 h46 h49   on ot op os sc sd sp sw bc bg bs bt be xi xe xf v_7 _ hc16) (gi_S2 m_769 m_770 m_30 m_771) (yd_L_endOf).2 ⟨Nat.le_of_ble_eq_true rfl, Nat.le_of_ble_eq_true rfl⟩ ⟨rfl, rfl⟩ hK hX hS hP [0, 1, 2, 3, 4, 5, 6, 7, 8, 9, 10] rfl rfl hl.1 rfl (Nat.le_of_ble_eq_true rfl) dL_watched_72 ⟨Nat.le_of_ble_eq_true rfl, Nat.le_of_ble_eq_true rfl⟩) hP hS (fun H locs hP hS => ?_)
                      refine lv_aload_n hx hb dL_watched_75 rfl (lv_at hl 4 rfl) ?_
                      refine lv_iload_n hx hb dL_watched_76 rfl (lv_at hl 2 rfl) ?_
                      obtain ⟨r_17, hc17, hf⟩ := sf_c1e hf
                      refine k_Pi (run_YS (As := [.ref h0, .int v_1]) (rest := [.int r_16]) ⟨hx, hb, hml, hown, ha⟩ (c_L_endOf l D dA cA h0 h1 h2 h3 h4 h5 h6 h9 h10 h11 h12 h13 h14 h17 h21 h41 h43 h46 h49   on ot op os sc sd sp sw bc bg bs bt be xi xe xf v_1 _ hc17) (gi_S2 m_769 m_770 m_30 m_771) (yd_L_endOf).2 ⟨Nat.le_of_ble_eq_true rfl, Nat.le_of_ble_eq_true rfl⟩ ⟨rfl, rfl⟩ hK hX hS hP [0, 1, 2, 3, 4, 5, 6, 7, 8, 9, 10] rfl rfl hl.1 rfl (Nat.le_of_ble_eq_true rfl) dL_watched_77 ⟨Nat.le_of_ble_eq_true rfl, Nat.le_of_ble_eq_true rfl⟩) hP hS (fun H locs hP hS => ?_)
                      refine lv_icmp_ne (tgt := 93) hx hb dL_watched_80 (by decide) (fun hc => ?_) (fun hc => ?_)
                      · have hf := sf_bn hf hc
                        refine lv_iconst (v := 0) hx hb dL_watched_93 (by decide) ?_
                        exact hJ12 _ _ _ _ (hP.sub [0, 1, 2, 3, 4, 5, 6, 7, 8, 9, 10] rfl) hS (lv_sub hl [0, 2, 3, 4, 5] rfl) hf
                      · have hf := sf_bp hf hc
                        refine lv_iload hx hb dL_watched_83 (lv_at hl 0 rfl) ?_
                        refine lv_iload_n hx hb dL_watched_85 rfl (lv_at hl 2 rfl) ?_
                        refine lv_icmp_lt (tgt := 93) hx hb dL_watched_86 (by decide) (fun hc => ?_) (fun hc => ?_)
                        · have hf := sf_bp hf hc
                          refine lv_iconst (v := 0) hx hb dL_watched_93 (by decide) ?_
                          exact hJ12 _ _ _ _ (hP.sub [0, 1, 2, 3, 4, 5, 6, 7, 8, 9, 10] rfl) hS (lv_sub hl [0, 2, 3, 4, 5] rfl) hf
                        · have hf := sf_bn hf hc
                          refine lv_iconst (v := 1) hx hb dL_watched_89 (by decide) ?_
                          refine lv_goto (tgt := 94) hx hb dL_watched_90 (by decide) ?_
                          exact hJ12 _ _ _ _ (hP.sub [0, 1, 2, 3, 4, 5, 6, 7, 8, 9, 10] rfl) hS (lv_sub hl [0, 2, 3, 4, 5] rfl) hf
          refine hL31_18 2000 _ _ _ _ _ _ hP hS (lv_sub hl [0, 1, 2, 3, 4, 5] rfl) hf (fun y_18 H locs ls hP hS hl hf => ?_)
          refine lv_iload hx hb dL_watched_102 (lv_at hl 0 rfl) ?_
          refine sf_jo (J := fun (k_20 : Int32 → Option Int32) => ∀ (v_19 : Int32) (H : Heap) (locs : List Loc) (ls : Array Slot), va_P D cls [(h0, .inr (9, [.ref h1, .ref h21, .int xi, .ref h41, .ref h43, .ref h46, .ref h49, .int xe, .int xf])), (h1, .inr (6, [.int on, .int ot, .int op, .int os, .ref h2, .ref h6, .ref h9, .ref h14, .ref h17])), (h2, .inr (8, [.int sc, .ref h3, .ref h4, .ref h5])), (h3, .inl (dA 0, 4, .inl sd)), (h4, .inl (dA 0, 4, .inl sp)), (h5, .inl (dA 0, 4, .inl sw)), (h9, .inr (0, [.int bc, .ref h10, .ref h11, .ref h12, .ref h13])), (h10, .inl (dA 0, 12, .inl bg)), (h11, .inl (dA 0, 12, .inl bs)), (h12, .inl (dA 0, 12, .inl bt)), (h13, .inl (dA 0, 12, .inl be))] H → va_S noA s.heap H locs → lv_has ls 6 [(3, .int v_1), (0, .ref h0), (1, .int p1)] → k_20 v_19 = some rr → W p l e ({ frames := 9, cells := 0, slots := 0, locals := 209 } : Room) s m ([.ref h0, .int p1] : List Value).toArray below meth c H locs 0 0 (MQ below (poPi rr) ([.ref h0, .int p1] : List Value).toArray s 0 0 noA) (F0 m 126 ls [.int v_19])) hf (fun v_19 H locs ls hP hS hl hf => ?_) (fun k_20 hJ20 hf => ?_)
          · skip
            refine lv_istore_n (lv' := [(2, .int v_19), (3, .int v_1), (0, .ref h0), (1, .int p1)]) hx hb dL_watched_126 rfl hl (by decide) rfl (fun ls hl => ?_)
            obtain ⟨x_21, ex_21, hf⟩ := sf_ne hf
            refine ii_nc (lv' := [(3, .int x_21), (2, .int v_19), (0, .ref h0), (1, .int p1)]) (k := 1) hx hb dL_watched_127 hl rfl ex_21 (by decide) (by decide) rfl (fun ls hl => ?_)
            refine lv_goto (tgt := 4) hx hb dL_watched_130 (by decide) ?_
            exact ih _ _ _ _ _ (hP.sub [0, 1, 2, 3, 4, 5, 6, 7, 8, 9, 10] rfl) hS (lv_sub hl [0, 1, 2, 3] rfl) hf hk
          refine lv_if_eq (tgt := 125) hx hb dL_watched_104 (by decide) (fun hc => ?_) (fun hc => ?_)
          · have hf := sf_bp hf hc
            refine lv_iload_n hx hb dL_watched_125 rfl (lv_at hl 2 rfl) ?_
            exact hJ20 _ _ _ _ (hP.sub [0, 1, 2, 3, 4, 5, 6, 7, 8, 9, 10] rfl) hS (lv_sub hl [1, 3, 4] rfl) hf
          · have hf := sf_bn hf hc
            refine lv_iload_n hx hb dL_watched_107 rfl (lv_at hl 2 rfl) ?_
            refine lv_iconst (v := 1) hx hb dL_watched_108 (by decide) ?_
            refine lv_aload_n hx hb dL_watched_109 rfl (lv_at hl 3 rfl) ?_
            refine lv_aload_n hx hb dL_watched_110 rfl (lv_at hl 3 rfl) ?_
            refine lv_iload_n hx hb dL_watched_111 rfl (lv_at hl 1 rfl) ?_
            obtain ⟨r_22, hc22, hf⟩ := sf_c1e hf
            refine k_Pi (run_YS (As := [.ref h0, .int v_1]) (rest := [.ref h0, .int (1 : Int32), .int v_2]) ⟨hx, hb, hml, hown, ha⟩ (c_L_endOf l D dA cA h0 h1 h2 h3 h4 h5 h6 h9 h10 h11 h12 h13 h14 h17 h21 h41 h43 h46 h49   on ot op os sc sd sp sw bc bg bs bt be xi xe xf v_1 _ hc22) (gi_S2 m_769 m_770 m_30 m_771) (yd_L_endOf).2 ⟨Nat.le_of_ble_eq_true rfl, Nat.le_of_ble_eq_true rfl⟩ ⟨rfl, rfl⟩ hK hX hS hP [0, 1, 2, 3, 4, 5, 6, 7, 8, 9, 10] rfl rfl hl.1 rfl (Nat.le_of_ble_eq_true rfl) dL_watched_112 ⟨Nat.le_of_ble_eq_true rfl, Nat.le_of_ble_eq_true rfl⟩) hP hS (fun H locs hP hS => ?_)
            obtain ⟨r_23, hc23, hf⟩ := sf_c1e hf
            refine k_Pi (run_YS (As := [.ref h0, .int r_22]) (rest := [.int (1 : Int32), .int v_2]) ⟨hx, hb, hml, hown, ha⟩ (c_L_watched_4 l D dA cA h0 h1 h2 h3 h4 h5 h6 h9 h10 h11 h12 h13 h14 h17 h21 h41 h43 h46 h49   on ot op os sc sd sp sw bc bg bs bt be xi xe xf r_22 _ hc23) (gi_S2 m_847 m_848 m_30 m_849) (yd_L_watched_4).2 ⟨Nat.le_of_ble_eq_true rfl, Nat.le_of_ble_eq_true rfl⟩ ⟨rfl, rfl⟩ hK hX hS hP [0, 1, 2, 3, 4, 5, 6, 7, 8, 9, 10] rfl rfl hl.1 rfl (Nat.le_of_ble_eq_true rfl) dL_watched_115 ⟨Nat.le_of_ble_eq_true rfl, Nat.le_of_ble_eq_true rfl⟩) hP hS (fun H locs hP hS => ?_)
            refine lv_iadd hx hb dL_watched_118 ?_
            refine mx_i hx hb ha hown hml hl.1 m_785 m_786 m_54 m_787 ⟨Nat.le_of_ble_eq_true rfl, Nat.le_of_ble_eq_true rfl⟩ ⟨Nat.le_of_ble_eq_true rfl, Nat.le_of_ble_eq_true rfl⟩ dL_watched_119 ?_
            refine lv_goto (tgt := 126) hx hb dL_watched_122 (by decide) ?_
            exact hJ20 _ _ _ _ (hP.sub [0, 1, 2, 3, 4, 5, 6, 7, 8, 9, 10] rfl) hS (lv_sub hl [1, 3, 4] rfl) hf
        refine lv_icmp_lt (tgt := 25) hx hb dL_watched_18 (by decide) (fun hc => ?_) (fun hc => ?_)
        · have hf := sf_bp hf hc
          refine lv_iconst (v := 0) hx hb dL_watched_25 (by decide) ?_
          exact hJ6 _ _ _ _ (hP.sub [0, 1, 2, 3, 4, 5, 6, 7, 8, 9, 10] rfl) hS (lv_sub hl [0, 1, 2, 3] rfl) hf
        · have hf := sf_bn hf hc
          refine lv_iconst (v := 1) hx hb dL_watched_21 (by decide) ?_
          refine lv_goto (tgt := 26) hx hb dL_watched_22 (by decide) ?_
          exact hJ6 _ _ _ _ (hP.sub [0, 1, 2, 3, 4, 5, 6, 7, 8, 9, 10] rfl) hS (lv_sub hl [0, 1, 2, 3] rfl) hf
  refine hL4_24 2000 _ _ _ _ _ _ hP hS (lv_sub hl [0, 1, 2, 3] rfl) hf (fun y_24 H locs ls hP hS hl hf => ?_)
  refine lv_iload_n hx hb dL_watched_133 rfl (lv_at hl 0 rfl) ?_
  exact rt_Pi hx hb hr hlocks (Option.some.inj hf) hS dL_watched_134

def f_L_watched_6_L31 (sc : Int32) (sd : Nat → Int32) (bc : Int32) (bs : Nat → Int32) (bt : Nat → Int32) (p1 : Int32) (v_1 : Int32) (k : Int32 → Option Int32) : Nat → Int32 → Int32 → Option Int32
  | 0, _, _ => none
  | n + 1, v_7, v_8 => sf_c1 (f_X11_bookingCount bc) (fun r_9 => sf_b (r_9 ≤ v_7) (k v_8) (sf_b (v_8 = (0 : Int32)) (k v_8) (sf_c1 (f_X11_start bc bt v_7) (fun r_10 => sf_j (fun (v_11 : Int32) => sf_n (v_7 + (1 : Int32)) (fun x_13 => f_L_watched_6_L31 sc sd bc bs bt p1 v_1 k n x_13 v_11)) (fun k_12 => sf_b (r_10 < p1) (k_12 (1 : Int32)) (sf_c1 (f_L_endOf sc sd bc bs bt v_7) (fun r_14 => sf_c1 (f_L_endOf sc sd bc bs bt v_1) (fun r_15 => sf_b (r_15 < r_14) (k_12 (1 : Int32)) (sf_c1 (f_L_endOf sc sd bc bs bt v_7) (fun r_16 => sf_c1 (f_L_endOf sc sd bc bs bt v_1) (fun r_17 => sf_b (r_16 = r_17) (sf_b (v_7 < v_1) (k_12 (0 : Int32)) (k_12 (1 : Int32))) (k_12 (0 : Int32)))))))))))))
def f_L_watched_6_L4 (sc : Int32) (sd : Nat → Int32) (bc : Int32) (bs : Nat → Int32) (bt : Nat → Int32) (p1 : Int32) (k : Int32 → Option Int32) : Nat → Int32 → Int32 → Option Int32
  | 0, _, _ => none
  | n + 1, v_1, v_2 => sf_c1 (f_X11_bookingCount bc) (fun r_3 => sf_b (r_3 ≤ v_1) (k v_2) (sf_c1 (f_X11_start bc bt v_1) (fun r_4 => sf_j (fun (v_5 : Int32) => f_L_watched_6_L31 sc sd bc bs bt p1 v_1 (fun y_18 => sf_j (fun (v_19 : Int32) => sf_n (v_1 + (1 : Int32)) (fun x_21 => f_L_watched_6_L4 sc sd bc bs bt p1 k n x_21 v_19)) (fun k_20 => sf_b (y_18 = (0 : Int32)) (k_20 v_2) (sf_c1 (f_L_endOf sc sd bc bs bt v_1) (fun r_22 => sf_c1 (f_L_watched_5 sc sd bc bs bt r_22) (fun r_23 => k_20 (if v_2 < ((1 : Int32) + r_23) then ((1 : Int32) + r_23) else v_2)))))) 2000 (0 : Int32) v_5) (fun k_6 => sf_b (r_4 < p1) (k_6 (0 : Int32)) (k_6 (1 : Int32))))))
def f_L_watched_6 (sc : Int32) (sd : Nat → Int32) (bc : Int32) (bs : Nat → Int32) (bt : Nat → Int32) (p1 : Int32) : Option Int32 :=
  f_L_watched_6_L4 sc sd bc bs bt p1 (fun y_24 => some y_24) 2000 (0 : Int32) (0 : Int32)
theorem yd_L_watched_6 : yL_watched.cls = RL ∧ yL_watched.cls ≠ "java/lang/invoke/MethodHandle" ∧ yL_watched.cls ≠ "java/lang/invoke/VarHandle" ∧ (parseMethodDescriptor yL_watched.desc).map (fun d => d.parameters.length) = some 2 := ⟨rfl, by decide, by decide, by decide +kernel⟩
set_option maxRecDepth 100000 in
set_option maxHeartbeats 8000000 in
theorem c_L_watched_6 (l : Launch) (D : va_G) (dA : Nat → ClassId) (cA : Nat → Nat) (h0 h1 h2 h3 h4 h5 h6 h9 h10 h11 h12 h13 h14 h17 h21 h41 h43 h46 h49 : Nat) (on : Int32) (ot : Int32) (op : Int32) (os : Int32) (sc : Int32) (sd : Nat → Int32) (sp : Nat → Int32) (sw : Nat → Int32) (bc : Int32) (bg : Nat → Int32) (bs : Nat → Int32) (bt : Nat → Int32) (be : Nat → Int32) (xi : Int32) (xe : Int32) (xf : Int32) (p1 : Int32) (rr : Int32) (hf : f_L_watched_6 sc sd bc bs bt p1 = some rr) : Met l yL_watched (wo (.code yL_watched cL_watched 6 (some .int))) ({ frames := 10, cells := 0, slots := 0, locals := 234 } : Room) (preY D dA cA [.ref h0, .int p1] [(h0, .inr (9, [.ref h1, .ref h21, .int xi, .ref h41, .ref h43, .ref h46, .ref h49, .int xe, .int xf])), (h1, .inr (6, [.int on, .int ot, .int op, .int os, .ref h2, .ref h6, .ref h9, .ref h14, .ref h17])), (h2, .inr (8, [.int sc, .ref h3, .ref h4, .ref h5])), (h3, .inl (dA 0, 4, .inl sd)), (h4, .inl (dA 0, 4, .inl sp)), (h5, .inl (dA 0, 4, .inl sw)), (h9, .inr (0, [.int bc, .ref h10, .ref h11, .ref h12, .ref h13])), (h10, .inl (dA 0, 12, .inl bg)), (h11, .inl (dA 0, 12, .inl bs)), (h12, .inl (dA 0, 12, .inl bt)), (h13, .inl (dA 0, 12, .inl be))]) (poPi rr) 0 0 noA := by
  refine of_Y (y := yL_watched) (cc := cL_watched) (maxL := 6) (ret := (some .int)) (av := [.ref h0, .int p1]) (ws := [(h0, .inr (9, [.ref h1, .ref h21, .int xi, .ref h41, .ref h43, .ref h46, .ref h49, .int xe, .int xf])), (h1, .inr (6, [.int on, .int ot, .int op, .int os, .ref h2, .ref h6, .ref h9, .ref h14, .ref h17])), (h2, .inr (8, [.int sc, .ref h3, .ref h4, .ref h5])), (h3, .inl (dA 0, 4, .inl sd)), (h4, .inl (dA 0, 4, .inl sp)), (h5, .inl (dA 0, 4, .inl sw)), (h9, .inr (0, [.int bc, .ref h10, .ref h11, .ref h12, .ref h13])), (h10, .inl (dA 0, 12, .inl bg)), (h11, .inl (dA 0, 12, .inl bs)), (h12, .inl (dA 0, 12, .inl bt)), (h13, .inl (dA 0, 12, .inl be))]) (own := RL) (by decide) rfl (Nat.le_of_ble_eq_true rfl) ?_
  intro p e s m below meth c hx hb hr ha hown hml hlocks hP hK hX hS ls hl
  have hC := hX.1
  have hl : lv_has ls 6 [(0, .ref h0), (1, .int p1)] := hl
  rw [f_L_watched_6] at hf
  refine lv_iconst (v := 0) hx hb dL_watched_0 (by decide) ?_
  refine lv_istore_n (lv' := [(2, .int (0 : Int32)), (0, .ref h0), (1, .int p1)]) hx hb dL_watched_1 rfl hl (by decide) rfl (fun ls hl => ?_)
  refine lv_iconst (v := 0) hx hb dL_watched_2 (by decide) ?_
  refine lv_istore_n (lv' := [(3, .int (0 : Int32)), (2, .int (0 : Int32)), (0, .ref h0), (1, .int p1)]) hx hb dL_watched_3 rfl hl (by decide) rfl (fun ls hl => ?_)
  have hL4_24 : ∀ (n : Nat) (k : Int32 → Option Int32) (v_1 : Int32) (v_2 : Int32) (H : Heap) (locs : List Loc) (ls : Array Slot), va_P D cls [(h0, .inr (9, [.ref h1, .ref h21, .int xi, .ref h41, .ref h43, .ref h46, .ref h49, .int xe, .int xf])), (h1, .inr (6, [.int on, .int ot, .int op, .int os, .ref h2, .ref h6, .ref h9, .ref h14, .ref h17])), (h2, .inr (8, [.int sc, .ref h3, .ref h4, .ref h5])), (h3, .inl (dA 0, 4, .inl sd)), (h4, .inl (dA 0, 4, .inl sp)), (h5, .inl (dA 0, 4, .inl sw)), (h9, .inr (0, [.int bc, .ref h10, .ref h11, .ref h12, .ref h13])), (h10, .inl (dA 0, 12, .inl bg)), (h11, .inl (dA 0, 12, .inl bs)), (h12, .inl (dA 0, 12, .inl bt)), (h13, .inl (dA 0, 12, .inl be))] H → va_S noA s.heap H locs → lv_has ls 6 [(3, .int v_1), (2, .int v_2), (0, .ref h0), (1, .int p1)] → f_L_watched_6_L4 sc sd bc bs bt p1 k n v_1 v_2 = some rr → (∀ (y_24 : Int32) (H : Heap) (locs : List Loc) (ls : Array Slot), va_P D cls [(h0, .inr (9, [.ref h1, .ref h21, .int xi, .ref h41, .ref h43, .ref h46, .ref h49, .int xe, .int xf])), (h1, .inr (6, [.int on, .int ot, .int op, .int os, .ref h2, .ref h6, .ref h9, .ref h14, .ref h17])), (h2, .inr (8, [.int sc, .ref h3, .ref h4, .ref h5])), (h3, .inl (dA 0, 4, .inl sd)), (h4, .inl (dA 0, 4, .inl sp)), (h5, .inl (dA 0, 4, .inl sw)), (h9, .inr (0, [.int bc, .ref h10, .ref h11, .ref h12, .ref h13])), (h10, .inl (dA 0, 12, .inl bg)), (h11, .inl (dA 0, 12, .inl bs)), (h12, .inl (dA 0, 12, .inl bt)), (h13, .inl (dA 0, 12, .inl be))] H → va_S noA s.heap H locs → lv_has ls 6 [(2, .int y_24)] → k y_24 = some rr → W p l e ({ frames := 10, cells := 0, slots := 0, locals := 234 } : Room) s m ([.ref h0, .int p1] : List Value).toArray below meth c H locs 0 0 (MQ below (poPi rr) ([.ref h0, .int p1] : List Value).toArray s 0 0 noA) (F0 m 133 ls [])) → W p l e ({ frames := 10, cells := 0, slots := 0, locals := 234 } : Room) s m ([.ref h0, .int p1] : List Value).toArray below meth c H locs 0 0 (MQ below (poPi rr) ([.ref h0, .int p1] : List Value).toArray s 0 0 noA) (F0 m 4 ls []) := by
    intro n k
    induction n with
    | zero =>
      intro v_1 v_2 H locs ls hP hS hl hf hk
      rw [f_L_watched_6_L4] at hf
      cases hf
    | succ n ih =>
      intro v_1 v_2 H locs ls hP hS hl hf hk
      rw [f_L_watched_6_L4] at hf
      refine lv_iload_n hx hb dL_watched_4 rfl (lv_at hl 0 rfl) ?_
      refine lv_aload_n hx hb dL_watched_5 rfl (lv_at hl 2 rfl) ?_
      obtain ⟨r_3, hc3, hf⟩ := sf_c1e hf
      refine k_Pi (run_YV (As := []) (rest := [.int v_1]) ⟨hx, hb, hml, hown, ha⟩ (c_X11_bookingCount l D dA cA h0 h1 h2 h6 h9 h10 h11 h12 h13 h14 h17 h21 h41 h43 h46 h49   on ot op os bc xi xe xf  _ hc3) (gi_V m_744 m_745 m_746 m_31 m_747) yd_X11_bookingCount ⟨Nat.le_of_ble_eq_true rfl, Nat.le_of_ble_eq_true rfl⟩ ⟨rfl, rfl⟩ hK hX hS hP [0, 1, 6] rfl (va_recv hK hP (q0 := 0) rfl rfl) rfl hl.1 rfl (Nat.le_of_ble_eq_true rfl) dL_watched_6 ⟨Nat.le_of_ble_eq_true rfl, Nat.le_of_ble_eq_true rfl⟩) hP hS (fun H locs hP hS => ?_)
      refine lv_icmp_ge (tgt := 133) hx hb dL_watched_9 (by decide) (fun hc => ?_) (fun hc => ?_)
      · have hf := sf_bp hf hc
        exact hk _ _ _ _ (hP.sub [0, 1, 2, 3, 4, 5, 6, 7, 8, 9, 10] rfl) hS (lv_sub hl [1] rfl) hf
      · have hf := sf_bn hf hc
        refine lv_aload_n hx hb dL_watched_12 rfl (lv_at hl 2 rfl) ?_
        refine lv_iload_n hx hb dL_watched_13 rfl (lv_at hl 0 rfl) ?_
        obtain ⟨r_4, hc4, hf⟩ := sf_c1e hf
        refine k_Pi (run_YV (As := [.int v_1]) (rest := []) ⟨hx, hb, hml, hown, ha⟩ (c_X11_start l D dA cA h0 h1 h2 h6 h9 h10 h11 h12 h13 h14 h17 h21 h41 h43 h46 h49   on ot op os bc bg bs bt be xi xe xf v_1 _ hc4) (gi_V m_765 m_766 m_767 m_31 m_768) yd_X11_start ⟨Nat.le_of_ble_eq_true rfl, Nat.le_of_ble_eq_true rfl⟩ ⟨rfl, rfl⟩ hK hX hS hP [0, 1, 6, 7, 8, 9, 10] rfl (va_recv hK hP (q0 := 0) rfl rfl) rfl hl.1 rfl (Nat.le_of_ble_eq_true rfl) dL_watched_14 ⟨Nat.le_of_ble_eq_true rfl, Nat.le_of_ble_eq_true rfl⟩) hP hS (fun H locs hP hS => ?_)
        refine lv_iload_n hx hb dL_watched_17 rfl (lv_at hl 3 rfl) ?_
        refine sf_jo (J := fun (k_6 : Int32 → Option Int32) => ∀ (v_5 : Int32) (H : Heap) (locs : List Loc) (ls : Array Slot), va_P D cls [(h0, .inr (9, [.ref h1, .ref h21, .int xi, .ref h41, .ref h43, .ref h46, .ref h49, .int xe, .int xf])), (h1, .inr (6, [.int on, .int ot, .int op, .int os, .ref h2, .ref h6, .ref h9, .ref h14, .ref h17])), (h2, .inr (8, [.int sc, .ref h3, .ref h4, .ref h5])), (h3, .inl (dA 0, 4, .inl sd)), (h4, .inl (dA 0, 4, .inl sp)), (h5, .inl (dA 0, 4, .inl sw)), (h9, .inr (0, [.int bc, .ref h10, .ref h11, .ref h12, .ref h13])), (h10, .inl (dA 0, 12, .inl bg)), (h11, .inl (dA 0, 12, .inl bs)), (h12, .inl (dA 0, 12, .inl bt)), (h13, .inl (dA 0, 12, .inl be))] H → va_S noA s.heap H locs → lv_has ls 6 [(3, .int v_1), (2, .int v_2), (0, .ref h0), (1, .int p1)] → k_6 v_5 = some rr → W p l e ({ frames := 10, cells := 0, slots := 0, locals := 234 } : Room) s m ([.ref h0, .int p1] : List Value).toArray below meth c H locs 0 0 (MQ below (poPi rr) ([.ref h0, .int p1] : List Value).toArray s 0 0 noA) (F0 m 26 ls [.int v_5])) hf (fun v_5 H locs ls hP hS hl hf => ?_) (fun k_6 hJ6 hf => ?_)
        · skip
          refine lv_istore (lv' := [(4, .int v_5), (3, .int v_1), (2, .int v_2), (0, .ref h0), (1, .int p1)]) hx hb dL_watched_26 hl (by decide) rfl (fun ls hl => ?_)
          refine lv_iconst (v := 0) hx hb dL_watched_28 (by decide) ?_
          refine lv_istore (lv' := [(5, .int (0 : Int32)), (4, .int v_5), (3, .int v_1), (2, .int v_2), (0, .ref h0), (1, .int p1)]) hx hb dL_watched_29 hl (by decide) rfl (fun ls hl => ?_)
          have hL31_18 : ∀ (n : Nat) (k : Int32 → Option Int32) (v_7 : Int32) (v_8 : Int32) (H : Heap) (locs : List Loc) (ls : Array Slot), va_P D cls [(h0, .inr (9, [.ref h1, .ref h21, .int xi, .ref h41, .ref h43, .ref h46, .ref h49, .int xe, .int xf])), (h1, .inr (6, [.int on, .int ot, .int op, .int os, .ref h2, .ref h6, .ref h9, .ref h14, .ref h17])), (h2, .inr (8, [.int sc, .ref h3, .ref h4, .ref h5])), (h3, .inl (dA 0, 4, .inl sd)), (h4, .inl (dA 0, 4, .inl sp)), (h5, .inl (dA 0, 4, .inl sw)), (h9, .inr (0, [.int bc, .ref h10, .ref h11, .ref h12, .ref h13])), (h10, .inl (dA 0, 12, .inl bg)), (h11, .inl (dA 0, 12, .inl bs)), (h12, .inl (dA 0, 12, .inl bt)), (h13, .inl (dA 0, 12, .inl be))] H → va_S noA s.heap H locs → lv_has ls 6 [(5, .int v_7), (4, .int v_8), (3, .int v_1), (2, .int v_2), (0, .ref h0), (1, .int p1)] → f_L_watched_6_L31 sc sd bc bs bt p1 v_1 k n v_7 v_8 = some rr → (∀ (y_18 : Int32) (H : Heap) (locs : List Loc) (ls : Array Slot), va_P D cls [(h0, .inr (9, [.ref h1, .ref h21, .int xi, .ref h41, .ref h43, .ref h46, .ref h49, .int xe, .int xf])), (h1, .inr (6, [.int on, .int ot, .int op, .int os, .ref h2, .ref h6, .ref h9, .ref h14, .ref h17])), (h2, .inr (8, [.int sc, .ref h3, .ref h4, .ref h5])), (h3, .inl (dA 0, 4, .inl sd)), (h4, .inl (dA 0, 4, .inl sp)), (h5, .inl (dA 0, 4, .inl sw)), (h9, .inr (0, [.int bc, .ref h10, .ref h11, .ref h12, .ref h13])), (h10, .inl (dA 0, 12, .inl bg)), (h11, .inl (dA 0, 12, .inl bs)), (h12, .inl (dA 0, 12, .inl bt)), (h13, .inl (dA 0, 12, .inl be))] H → va_S noA s.heap H locs → lv_has ls 6 [(4, .int y_18), (3, .int v_1), (2, .int v_2), (0, .ref h0), (1, .int p1)] → k y_18 = some rr → W p l e ({ frames := 10, cells := 0, slots := 0, locals := 234 } : Room) s m ([.ref h0, .int p1] : List Value).toArray below meth c H locs 0 0 (MQ below (poPi rr) ([.ref h0, .int p1] : List Value).toArray s 0 0 noA) (F0 m 102 ls [])) → W p l e ({ frames := 10, cells := 0, slots := 0, locals := 234 } : Room) s m ([.ref h0, .int p1] : List Value).toArray below meth c H locs 0 0 (MQ below (poPi rr) ([.ref h0, .int p1] : List Value).toArray s 0 0 noA) (F0 m 31 ls []) := by
            intro n k
            induction n with
            | zero =>
              intro v_7 v_8 H locs ls hP hS hl hf hk
              rw [f_L_watched_6_L31] at hf
              cases hf
            | succ n ih =>
              intro v_7 v_8 H locs ls hP hS hl hf hk
              rw [f_L_watched_6_L31] at hf
              refine lv_iload hx hb dL_watched_31 (lv_at hl 0 rfl) ?_
              refine lv_aload_n hx hb dL_watched_33 rfl (lv_at hl 4 rfl) ?_
              obtain ⟨r_9, hc9, hf⟩ := sf_c1e hf
              refine k_Pi (run_YV (As := []) (rest := [.int v_7]) ⟨hx, hb, hml, hown, ha⟩ (c_X11_bookingCount l D dA cA h0 h1 h2 h6 h9 h10 h11 h12 h13 h14 h17 h21 h41 h43 h46 h49   on ot op os bc xi xe xf  _ hc9) (gi_V m_744 m_745 m_746 m_31 m_747) yd_X11_bookingCount ⟨Nat.le_of_ble_eq_true rfl, Nat.le_of_ble_eq_true rfl⟩ ⟨rfl, rfl⟩ hK hX hS hP [0, 1, 6] rfl (va_recv hK hP (q0 := 0) rfl rfl) rfl hl.1 rfl (Nat.le_of_ble_eq_true rfl) dL_watched_34 ⟨Nat.le_of_ble_eq_true rfl, Nat.le_of_ble_eq_true rfl⟩) hP hS (fun H locs hP hS => ?_)
              refine lv_icmp_ge (tgt := 102) hx hb dL_watched_37 (by decide) (fun hc => ?_) (fun hc => ?_)
              · have hf := sf_bp hf hc
                exact hk _ _ _ _ (hP.sub [0, 1, 2, 3, 4, 5, 6, 7, 8, 9, 10] rfl) hS (lv_sub hl [1, 2, 3, 4, 5] rfl) hf
              · have hf := sf_bn hf hc
                refine lv_iload hx hb dL_watched_40 (lv_at hl 1 rfl) ?_
                refine lv_if_eq (tgt := 102) hx hb dL_watched_42 (by decide) (fun hc => ?_) (fun hc => ?_)
                · have hf := sf_bp hf hc
                  exact hk _ _ _ _ (hP.sub [0, 1, 2, 3, 4, 5, 6, 7, 8, 9, 10] rfl) hS (lv_sub hl [1, 2, 3, 4, 5] rfl) hf
                · have hf := sf_bn hf hc
                  refine lv_aload_n hx hb dL_watched_45 rfl (lv_at hl 4 rfl) ?_
                  refine lv_iload hx hb dL_watched_46 (lv_at hl 0 rfl) ?_
                  obtain ⟨r_10, hc10, hf⟩ := sf_c1e hf
                  refine k_Pi (run_YV (As := [.int v_7]) (rest := []) ⟨hx, hb, hml, hown, ha⟩ (c_X11_start l D dA cA h0 h1 h2 h6 h9 h10 h11 h12 h13 h14 h17 h21 h41 h43 h46 h49   on ot op os bc bg bs bt be xi xe xf v_7 _ hc10) (gi_V m_765 m_766 m_767 m_31 m_768) yd_X11_start ⟨Nat.le_of_ble_eq_true rfl, Nat.le_of_ble_eq_true rfl⟩ ⟨rfl, rfl⟩ hK hX hS hP [0, 1, 6, 7, 8, 9, 10] rfl (va_recv hK hP (q0 := 0) rfl rfl) rfl hl.1 rfl (Nat.le_of_ble_eq_true rfl) dL_watched_48 ⟨Nat.le_of_ble_eq_true rfl, Nat.le_of_ble_eq_true rfl⟩) hP hS (fun H locs hP hS => ?_)
                  refine lv_iload_n hx hb dL_watched_51 rfl (lv_at hl 5 rfl) ?_
                  refine sf_jo (J := fun (k_12 : Int32 → Option Int32) => ∀ (v_11 : Int32) (H : Heap) (locs : List Loc) (ls : Array Slot), va_P D cls [(h0, .inr (9, [.ref h1, .ref h21, .int xi, .ref h41, .ref h43, .ref h46, .ref h49, .int xe, .int xf])), (h1, .inr (6, [.int on, .int ot, .int op, .int os, .ref h2, .ref h6, .ref h9, .ref h14, .ref h17])), (h2, .inr (8, [.int sc, .ref h3, .ref h4, .ref h5])), (h3, .inl (dA 0, 4, .inl sd)), (h4, .inl (dA 0, 4, .inl sp)), (h5, .inl (dA 0, 4, .inl sw)), (h9, .inr (0, [.int bc, .ref h10, .ref h11, .ref h12, .ref h13])), (h10, .inl (dA 0, 12, .inl bg)), (h11, .inl (dA 0, 12, .inl bs)), (h12, .inl (dA 0, 12, .inl bt)), (h13, .inl (dA 0, 12, .inl be))] H → va_S noA s.heap H locs → lv_has ls 6 [(5, .int v_7), (3, .int v_1), (2, .int v_2), (0, .ref h0), (1, .int p1)] → k_12 v_11 = some rr → W p l e ({ frames := 10, cells := 0, slots := 0, locals := 234 } : Room) s m ([.ref h0, .int p1] : List Value).toArray below meth c H locs 0 0 (MQ below (poPi rr) ([.ref h0, .int p1] : List Value).toArray s 0 0 noA) (F0 m 94 ls [.int v_11])) hf (fun v_11 H locs ls hP hS hl hf => ?_) (fun k_12 hJ12 hf => ?_)
                  · skip
                    refine lv_istore (lv' := [(4, .int v_11), (5, .int v_7), (3, .int v_1), (2, .int v_2), (0, .ref h0), (1, .int p1)]) hx hb dL_watched_94 hl (by decide) rfl (fun ls hl => ?_)
                    obtain ⟨x_13, ex_13, hf⟩ := sf_ne hf
                    refine ii_nc (lv' := [(5, .int x_13), (4, .int v_11), (3, .int v_1), (2, .int v_2), (0, .ref h0), (1, .int p1)]) (k := 1) hx hb dL_watched_96 hl rfl ex_13 (by decide) (by decide) rfl (fun ls hl => ?_)
                    refine lv_goto (tgt := 31) hx hb dL_watched_99 (by decide) ?_
                    exact ih _ _ _ _ _ (hP.sub [0, 1, 2, 3, 4, 5, 6, 7, 8, 9, 10] rfl) hS (lv_sub hl [0, 1, 2, 3, 4, 5] rfl) hf hk
                  refine lv_icmp_lt (tgt := 89) hx hb dL_watched_52 (by decide) (fun hc => ?_) (fun hc => ?_)
                  · have hf := sf_bp hf hc
                    refine lv_iconst (v := 1) hx hb dL_watched_89 (by decide) ?_
                    refine lv_goto (tgt := 94) hx hb dL_watched_90 (by decide) ?_
                    exact hJ12 _ _ _ _ (hP.sub [0, 1, 2, 3, 4, 5, 6, 7, 8, 9, 10] rfl) hS (lv_sub hl [0, 2, 3, 4, 5] rfl) hf
                  · have hf := sf_bn hf hc
                    refine lv_aload_n hx hb dL_watched_55 rfl (lv_at hl 4 rfl) ?_
                    refine lv_iload hx hb dL_watched_56 (lv_at hl 0 rfl) ?_
                    obtain ⟨r_14, hc14, hf⟩ := sf_c1e hf
                    refine k_Pi (run_YS (As := [.ref h0, .int v_7]) (rest := []) ⟨hx, hb, hml, hown, ha⟩ (c_L_endOf l D dA cA h0 h1 h2 h3 h4 h5 h6 h9 h10 h11 h12 h13 h14 h17 h21 h41 h43 h46 h49   on ot op os sc sd sp sw bc bg bs bt be xi xe xf v_7 _ hc14) (gi_S2 m_769 m_770 m_30 m_771) (yd_L_endOf).2 ⟨Nat.le_of_ble_eq_true rfl, Nat.le_of_ble_eq_true rfl⟩ ⟨rfl, rfl⟩ hK hX hS hP [0, 1, 2, 3, 4, 5, 6, 7, 8, 9, 10] rfl rfl hl.1 rfl (Nat.le_of_ble_eq_true rfl) dL_watched_58 ⟨Nat.le_of_ble_eq_true rfl, Nat.le_of_ble_eq_true rfl⟩) hP hS (fun H locs hP hS => ?_)
                    refine lv_aload_n hx hb dL_watched_61 rfl (lv_at hl 4 rfl) ?_
                    refine lv_iload_n hx hb dL_watched_62 rfl (lv_at hl 2 rfl) ?_
                    obtain ⟨r_15, hc15, hf⟩ := sf_c1e hf
                    refine k_Pi (run_YS (As := [.ref h0, .int v_1]) (rest := [.int r_14]) ⟨hx, hb, hml, hown, ha⟩ (c_L_endOf l D dA cA h0 h1 h2 h3 h4 h5 h6 h9 h10 h11 h12 h13 h14 h17 h21 h41 h43 h46 h49   on ot op os sc sd sp sw bc bg bs bt be xi xe xf v_1 _ hc15) (gi_S2 m_769 m_770 m_30 m_771) (yd_L_endOf).2 ⟨Nat.le_of_ble_eq_true rfl, Nat.le_of_ble_eq_true rfl⟩ ⟨rfl, rfl⟩ hK hX hS hP [0, 1, 2, 3, 4, 5, 6, 7, 8, 9, 10] rfl rfl hl.1 rfl (Nat.le_of_ble_eq_true rfl) dL_watched_63 ⟨Nat.le_of_ble_eq_true rfl, Nat.le_of_ble_eq_true rfl⟩) hP hS (fun H locs hP hS => ?_)
                    refine lv_icmp_gt (tgt := 89) hx hb dL_watched_66 (by decide) (fun hc => ?_) (fun hc => ?_)
                    · have hf := sf_bp hf hc
                      refine lv_iconst (v := 1) hx hb dL_watched_89 (by decide) ?_
                      refine lv_goto (tgt := 94) hx hb dL_watched_90 (by decide) ?_
                      exact hJ12 _ _ _ _ (hP.sub [0, 1, 2, 3, 4, 5, 6, 7, 8, 9, 10] rfl) hS (lv_sub hl [0, 2, 3, 4, 5] rfl) hf
                    · have hf := sf_bn hf hc
                      refine lv_aload_n hx hb dL_watched_69 rfl (lv_at hl 4 rfl) ?_
                      refine lv_iload hx hb dL_watched_70 (lv_at hl 0 rfl) ?_
                      obtain ⟨r_16, hc16, hf⟩ := sf_c1e hf
                      refine k_Pi (run_YS (As := [.ref h0, .int v_7]) (rest := []) ⟨hx, hb, hml, hown, ha⟩ (c_L_endOf l D dA cA h0 h1 h2 h3 h4 h5 h6 h9 h10 h11 h12 h13 h14 h17 h21 h41 h43 h46 h49   on ot op os sc sd sp sw bc bg bs bt be xi xe xf v_7 _ hc16) (gi_S2 m_769 m_770 m_30 m_771) (yd_L_endOf).2 ⟨Nat.le_of_ble_eq_true rfl, Nat.le_of_ble_eq_true rfl⟩ ⟨rfl, rfl⟩ hK hX hS hP [0, 1, 2, 3, 4, 5, 6, 7, 8, 9, 10] rfl rfl hl.1 rfl (Nat.le_of_ble_eq_true rfl) dL_watched_72 ⟨Nat.le_of_ble_eq_true rfl, Nat.le_of_ble_eq_true rfl⟩) hP hS (fun H locs hP hS => ?_)
                      refine lv_aload_n hx hb dL_watched_75 rfl (lv_at hl 4 rfl) ?_
                      refine lv_iload_n hx hb dL_watched_76 rfl (lv_at hl 2 rfl) ?_
                      obtain ⟨r_17, hc17, hf⟩ := sf_c1e hf
                      refine k_Pi (run_YS (As := [.ref h0, .int v_1]) (rest := [.int r_16]) ⟨hx, hb, hml, hown, ha⟩ (c_L_endOf l D dA cA h0 h1 h2 h3 h4 h5 h6 h9 h10 h11 h12 h13 h14 h17 h21 h41 h43 h46 h49   on ot op os sc sd sp sw bc bg bs bt be xi xe xf v_1 _ hc17) (gi_S2 m_769 m_770 m_30 m_771) (yd_L_endOf).2 ⟨Nat.le_of_ble_eq_true rfl, Nat.le_of_ble_eq_true rfl⟩ ⟨rfl, rfl⟩ hK hX hS hP [0, 1, 2, 3, 4, 5, 6, 7, 8, 9, 10] rfl rfl hl.1 rfl (Nat.le_of_ble_eq_true rfl) dL_watched_77 ⟨Nat.le_of_ble_eq_true rfl, Nat.le_of_ble_eq_true rfl⟩) hP hS (fun H locs hP hS => ?_)
                      refine lv_icmp_ne (tgt := 93) hx hb dL_watched_80 (by decide) (fun hc => ?_) (fun hc => ?_)
                      · have hf := sf_bn hf hc
                        refine lv_iconst (v := 0) hx hb dL_watched_93 (by decide) ?_
                        exact hJ12 _ _ _ _ (hP.sub [0, 1, 2, 3, 4, 5, 6, 7, 8, 9, 10] rfl) hS (lv_sub hl [0, 2, 3, 4, 5] rfl) hf
                      · have hf := sf_bp hf hc
                        refine lv_iload hx hb dL_watched_83 (lv_at hl 0 rfl) ?_
                        refine lv_iload_n hx hb dL_watched_85 rfl (lv_at hl 2 rfl) ?_
                        refine lv_icmp_lt (tgt := 93) hx hb dL_watched_86 (by decide) (fun hc => ?_) (fun hc => ?_)
                        · have hf := sf_bp hf hc
                          refine lv_iconst (v := 0) hx hb dL_watched_93 (by decide) ?_
                          exact hJ12 _ _ _ _ (hP.sub [0, 1, 2, 3, 4, 5, 6, 7, 8, 9, 10] rfl) hS (lv_sub hl [0, 2, 3, 4, 5] rfl) hf
                        · have hf := sf_bn hf hc
                          refine lv_iconst (v := 1) hx hb dL_watched_89 (by decide) ?_
                          refine lv_goto (tgt := 94) hx hb dL_watched_90 (by decide) ?_
                          exact hJ12 _ _ _ _ (hP.sub [0, 1, 2, 3, 4, 5, 6, 7, 8, 9, 10] rfl) hS (lv_sub hl [0, 2, 3, 4, 5] rfl) hf
          refine hL31_18 2000 _ _ _ _ _ _ hP hS (lv_sub hl [0, 1, 2, 3, 4, 5] rfl) hf (fun y_18 H locs ls hP hS hl hf => ?_)
          refine lv_iload hx hb dL_watched_102 (lv_at hl 0 rfl) ?_
          refine sf_jo (J := fun (k_20 : Int32 → Option Int32) => ∀ (v_19 : Int32) (H : Heap) (locs : List Loc) (ls : Array Slot), va_P D cls [(h0, .inr (9, [.ref h1, .ref h21, .int xi, .ref h41, .ref h43, .ref h46, .ref h49, .int xe, .int xf])), (h1, .inr (6, [.int on, .int ot, .int op, .int os, .ref h2, .ref h6, .ref h9, .ref h14, .ref h17])), (h2, .inr (8, [.int sc, .ref h3, .ref h4, .ref h5])), (h3, .inl (dA 0, 4, .inl sd)), (h4, .inl (dA 0, 4, .inl sp)), (h5, .inl (dA 0, 4, .inl sw)), (h9, .inr (0, [.int bc, .ref h10, .ref h11, .ref h12, .ref h13])), (h10, .inl (dA 0, 12, .inl bg)), (h11, .inl (dA 0, 12, .inl bs)), (h12, .inl (dA 0, 12, .inl bt)), (h13, .inl (dA 0, 12, .inl be))] H → va_S noA s.heap H locs → lv_has ls 6 [(3, .int v_1), (0, .ref h0), (1, .int p1)] → k_20 v_19 = some rr → W p l e ({ frames := 10, cells := 0, slots := 0, locals := 234 } : Room) s m ([.ref h0, .int p1] : List Value).toArray below meth c H locs 0 0 (MQ below (poPi rr) ([.ref h0, .int p1] : List Value).toArray s 0 0 noA) (F0 m 126 ls [.int v_19])) hf (fun v_19 H locs ls hP hS hl hf => ?_) (fun k_20 hJ20 hf => ?_)
          · skip
            refine lv_istore_n (lv' := [(2, .int v_19), (3, .int v_1), (0, .ref h0), (1, .int p1)]) hx hb dL_watched_126 rfl hl (by decide) rfl (fun ls hl => ?_)
            obtain ⟨x_21, ex_21, hf⟩ := sf_ne hf
            refine ii_nc (lv' := [(3, .int x_21), (2, .int v_19), (0, .ref h0), (1, .int p1)]) (k := 1) hx hb dL_watched_127 hl rfl ex_21 (by decide) (by decide) rfl (fun ls hl => ?_)
            refine lv_goto (tgt := 4) hx hb dL_watched_130 (by decide) ?_
            exact ih _ _ _ _ _ (hP.sub [0, 1, 2, 3, 4, 5, 6, 7, 8, 9, 10] rfl) hS (lv_sub hl [0, 1, 2, 3] rfl) hf hk
          refine lv_if_eq (tgt := 125) hx hb dL_watched_104 (by decide) (fun hc => ?_) (fun hc => ?_)
          · have hf := sf_bp hf hc
            refine lv_iload_n hx hb dL_watched_125 rfl (lv_at hl 2 rfl) ?_
            exact hJ20 _ _ _ _ (hP.sub [0, 1, 2, 3, 4, 5, 6, 7, 8, 9, 10] rfl) hS (lv_sub hl [1, 3, 4] rfl) hf
          · have hf := sf_bn hf hc
            refine lv_iload_n hx hb dL_watched_107 rfl (lv_at hl 2 rfl) ?_
            refine lv_iconst (v := 1) hx hb dL_watched_108 (by decide) ?_
            refine lv_aload_n hx hb dL_watched_109 rfl (lv_at hl 3 rfl) ?_
            refine lv_aload_n hx hb dL_watched_110 rfl (lv_at hl 3 rfl) ?_
            refine lv_iload_n hx hb dL_watched_111 rfl (lv_at hl 1 rfl) ?_
            obtain ⟨r_22, hc22, hf⟩ := sf_c1e hf
            refine k_Pi (run_YS (As := [.ref h0, .int v_1]) (rest := [.ref h0, .int (1 : Int32), .int v_2]) ⟨hx, hb, hml, hown, ha⟩ (c_L_endOf l D dA cA h0 h1 h2 h3 h4 h5 h6 h9 h10 h11 h12 h13 h14 h17 h21 h41 h43 h46 h49   on ot op os sc sd sp sw bc bg bs bt be xi xe xf v_1 _ hc22) (gi_S2 m_769 m_770 m_30 m_771) (yd_L_endOf).2 ⟨Nat.le_of_ble_eq_true rfl, Nat.le_of_ble_eq_true rfl⟩ ⟨rfl, rfl⟩ hK hX hS hP [0, 1, 2, 3, 4, 5, 6, 7, 8, 9, 10] rfl rfl hl.1 rfl (Nat.le_of_ble_eq_true rfl) dL_watched_112 ⟨Nat.le_of_ble_eq_true rfl, Nat.le_of_ble_eq_true rfl⟩) hP hS (fun H locs hP hS => ?_)
            obtain ⟨r_23, hc23, hf⟩ := sf_c1e hf
            refine k_Pi (run_YS (As := [.ref h0, .int r_22]) (rest := [.int (1 : Int32), .int v_2]) ⟨hx, hb, hml, hown, ha⟩ (c_L_watched_5 l D dA cA h0 h1 h2 h3 h4 h5 h6 h9 h10 h11 h12 h13 h14 h17 h21 h41 h43 h46 h49   on ot op os sc sd sp sw bc bg bs bt be xi xe xf r_22 _ hc23) (gi_S2 m_847 m_848 m_30 m_849) (yd_L_watched_5).2 ⟨Nat.le_of_ble_eq_true rfl, Nat.le_of_ble_eq_true rfl⟩ ⟨rfl, rfl⟩ hK hX hS hP [0, 1, 2, 3, 4, 5, 6, 7, 8, 9, 10] rfl rfl hl.1 rfl (Nat.le_of_ble_eq_true rfl) dL_watched_115 ⟨Nat.le_of_ble_eq_true rfl, Nat.le_of_ble_eq_true rfl⟩) hP hS (fun H locs hP hS => ?_)
            refine lv_iadd hx hb dL_watched_118 ?_
            refine mx_i hx hb ha hown hml hl.1 m_785 m_786 m_54 m_787 ⟨Nat.le_of_ble_eq_true rfl, Nat.le_of_ble_eq_true rfl⟩ ⟨Nat.le_of_ble_eq_true rfl, Nat.le_of_ble_eq_true rfl⟩ dL_watched_119 ?_
            refine lv_goto (tgt := 126) hx hb dL_watched_122 (by decide) ?_
            exact hJ20 _ _ _ _ (hP.sub [0, 1, 2, 3, 4, 5, 6, 7, 8, 9, 10] rfl) hS (lv_sub hl [1, 3, 4] rfl) hf
        refine lv_icmp_lt (tgt := 25) hx hb dL_watched_18 (by decide) (fun hc => ?_) (fun hc => ?_)
        · have hf := sf_bp hf hc
          refine lv_iconst (v := 0) hx hb dL_watched_25 (by decide) ?_
          exact hJ6 _ _ _ _ (hP.sub [0, 1, 2, 3, 4, 5, 6, 7, 8, 9, 10] rfl) hS (lv_sub hl [0, 1, 2, 3] rfl) hf
        · have hf := sf_bn hf hc
          refine lv_iconst (v := 1) hx hb dL_watched_21 (by decide) ?_
          refine lv_goto (tgt := 26) hx hb dL_watched_22 (by decide) ?_
          exact hJ6 _ _ _ _ (hP.sub [0, 1, 2, 3, 4, 5, 6, 7, 8, 9, 10] rfl) hS (lv_sub hl [0, 1, 2, 3] rfl) hf
  refine hL4_24 2000 _ _ _ _ _ _ hP hS (lv_sub hl [0, 1, 2, 3] rfl) hf (fun y_24 H locs ls hP hS hl hf => ?_)
  refine lv_iload_n hx hb dL_watched_133 rfl (lv_at hl 0 rfl) ?_
  exact rt_Pi hx hb hr hlocks (Option.some.inj hf) hS dL_watched_134

def f_L_watched_7_L31 (sc : Int32) (sd : Nat → Int32) (bc : Int32) (bs : Nat → Int32) (bt : Nat → Int32) (p1 : Int32) (v_1 : Int32) (k : Int32 → Option Int32) : Nat → Int32 → Int32 → Option Int32
  | 0, _, _ => none
  | n + 1, v_7, v_8 => sf_c1 (f_X11_bookingCount bc) (fun r_9 => sf_b (r_9 ≤ v_7) (k v_8) (sf_b (v_8 = (0 : Int32)) (k v_8) (sf_c1 (f_X11_start bc bt v_7) (fun r_10 => sf_j (fun (v_11 : Int32) => sf_n (v_7 + (1 : Int32)) (fun x_13 => f_L_watched_7_L31 sc sd bc bs bt p1 v_1 k n x_13 v_11)) (fun k_12 => sf_b (r_10 < p1) (k_12 (1 : Int32)) (sf_c1 (f_L_endOf sc sd bc bs bt v_7) (fun r_14 => sf_c1 (f_L_endOf sc sd bc bs bt v_1) (fun r_15 => sf_b (r_15 < r_14) (k_12 (1 : Int32)) (sf_c1 (f_L_endOf sc sd bc bs bt v_7) (fun r_16 => sf_c1 (f_L_endOf sc sd bc bs bt v_1) (fun r_17 => sf_b (r_16 = r_17) (sf_b (v_7 < v_1) (k_12 (0 : Int32)) (k_12 (1 : Int32))) (k_12 (0 : Int32)))))))))))))
def f_L_watched_7_L4 (sc : Int32) (sd : Nat → Int32) (bc : Int32) (bs : Nat → Int32) (bt : Nat → Int32) (p1 : Int32) (k : Int32 → Option Int32) : Nat → Int32 → Int32 → Option Int32
  | 0, _, _ => none
  | n + 1, v_1, v_2 => sf_c1 (f_X11_bookingCount bc) (fun r_3 => sf_b (r_3 ≤ v_1) (k v_2) (sf_c1 (f_X11_start bc bt v_1) (fun r_4 => sf_j (fun (v_5 : Int32) => f_L_watched_7_L31 sc sd bc bs bt p1 v_1 (fun y_18 => sf_j (fun (v_19 : Int32) => sf_n (v_1 + (1 : Int32)) (fun x_21 => f_L_watched_7_L4 sc sd bc bs bt p1 k n x_21 v_19)) (fun k_20 => sf_b (y_18 = (0 : Int32)) (k_20 v_2) (sf_c1 (f_L_endOf sc sd bc bs bt v_1) (fun r_22 => sf_c1 (f_L_watched_6 sc sd bc bs bt r_22) (fun r_23 => k_20 (if v_2 < ((1 : Int32) + r_23) then ((1 : Int32) + r_23) else v_2)))))) 2000 (0 : Int32) v_5) (fun k_6 => sf_b (r_4 < p1) (k_6 (0 : Int32)) (k_6 (1 : Int32))))))
def f_L_watched_7 (sc : Int32) (sd : Nat → Int32) (bc : Int32) (bs : Nat → Int32) (bt : Nat → Int32) (p1 : Int32) : Option Int32 :=
  f_L_watched_7_L4 sc sd bc bs bt p1 (fun y_24 => some y_24) 2000 (0 : Int32) (0 : Int32)
theorem yd_L_watched_7 : yL_watched.cls = RL ∧ yL_watched.cls ≠ "java/lang/invoke/MethodHandle" ∧ yL_watched.cls ≠ "java/lang/invoke/VarHandle" ∧ (parseMethodDescriptor yL_watched.desc).map (fun d => d.parameters.length) = some 2 := ⟨rfl, by decide, by decide, by decide +kernel⟩
set_option maxRecDepth 100000 in
set_option maxHeartbeats 8000000 in
theorem c_L_watched_7 (l : Launch) (D : va_G) (dA : Nat → ClassId) (cA : Nat → Nat) (h0 h1 h2 h3 h4 h5 h6 h9 h10 h11 h12 h13 h14 h17 h21 h41 h43 h46 h49 : Nat) (on : Int32) (ot : Int32) (op : Int32) (os : Int32) (sc : Int32) (sd : Nat → Int32) (sp : Nat → Int32) (sw : Nat → Int32) (bc : Int32) (bg : Nat → Int32) (bs : Nat → Int32) (bt : Nat → Int32) (be : Nat → Int32) (xi : Int32) (xe : Int32) (xf : Int32) (p1 : Int32) (rr : Int32) (hf : f_L_watched_7 sc sd bc bs bt p1 = some rr) : Met l yL_watched (wo (.code yL_watched cL_watched 6 (some .int))) ({ frames := 11, cells := 0, slots := 0, locals := 259 } : Room) (preY D dA cA [.ref h0, .int p1] [(h0, .inr (9, [.ref h1, .ref h21, .int xi, .ref h41, .ref h43, .ref h46, .ref h49, .int xe, .int xf])), (h1, .inr (6, [.int on, .int ot, .int op, .int os, .ref h2, .ref h6, .ref h9, .ref h14, .ref h17])), (h2, .inr (8, [.int sc, .ref h3, .ref h4, .ref h5])), (h3, .inl (dA 0, 4, .inl sd)), (h4, .inl (dA 0, 4, .inl sp)), (h5, .inl (dA 0, 4, .inl sw)), (h9, .inr (0, [.int bc, .ref h10, .ref h11, .ref h12, .ref h13])), (h10, .inl (dA 0, 12, .inl bg)), (h11, .inl (dA 0, 12, .inl bs)), (h12, .inl (dA 0, 12, .inl bt)), (h13, .inl (dA 0, 12, .inl be))]) (poPi rr) 0 0 noA := by
  refine of_Y (y := yL_watched) (cc := cL_watched) (maxL := 6) (ret := (some .int)) (av := [.ref h0, .int p1]) (ws := [(h0, .inr (9, [.ref h1, .ref h21, .int xi, .ref h41, .ref h43, .ref h46, .ref h49, .int xe, .int xf])), (h1, .inr (6, [.int on, .int ot, .int op, .int os, .ref h2, .ref h6, .ref h9, .ref h14, .ref h17])), (h2, .inr (8, [.int sc, .ref h3, .ref h4, .ref h5])), (h3, .inl (dA 0, 4, .inl sd)), (h4, .inl (dA 0, 4, .inl sp)), (h5, .inl (dA 0, 4, .inl sw)), (h9, .inr (0, [.int bc, .ref h10, .ref h11, .ref h12, .ref h13])), (h10, .inl (dA 0, 12, .inl bg)), (h11, .inl (dA 0, 12, .inl bs)), (h12, .inl (dA 0, 12, .inl bt)), (h13, .inl (dA 0, 12, .inl be))]) (own := RL) (by decide) rfl (Nat.le_of_ble_eq_true rfl) ?_
  intro p e s m below meth c hx hb hr ha hown hml hlocks hP hK hX hS ls hl
  have hC := hX.1
  have hl : lv_has ls 6 [(0, .ref h0), (1, .int p1)] := hl
  rw [f_L_watched_7] at hf
  refine lv_iconst (v := 0) hx hb dL_watched_0 (by decide) ?_
  refine lv_istore_n (lv' := [(2, .int (0 : Int32)), (0, .ref h0), (1, .int p1)]) hx hb dL_watched_1 rfl hl (by decide) rfl (fun ls hl => ?_)
  refine lv_iconst (v := 0) hx hb dL_watched_2 (by decide) ?_
  refine lv_istore_n (lv' := [(3, .int (0 : Int32)), (2, .int (0 : Int32)), (0, .ref h0), (1, .int p1)]) hx hb dL_watched_3 rfl hl (by decide) rfl (fun ls hl => ?_)
  have hL4_24 : ∀ (n : Nat) (k : Int32 → Option Int32) (v_1 : Int32) (v_2 : Int32) (H : Heap) (locs : List Loc) (ls : Array Slot), va_P D cls [(h0, .inr (9, [.ref h1, .ref h21, .int xi, .ref h41, .ref h43, .ref h46, .ref h49, .int xe, .int xf])), (h1, .inr (6, [.int on, .int ot, .int op, .int os, .ref h2, .ref h6, .ref h9, .ref h14, .ref h17])), (h2, .inr (8, [.int sc, .ref h3, .ref h4, .ref h5])), (h3, .inl (dA 0, 4, .inl sd)), (h4, .inl (dA 0, 4, .inl sp)), (h5, .inl (dA 0, 4, .inl sw)), (h9, .inr (0, [.int bc, .ref h10, .ref h11, .ref h12, .ref h13])), (h10, .inl (dA 0, 12, .inl bg)), (h11, .inl (dA 0, 12, .inl bs)), (h12, .inl (dA 0, 12, .inl bt)), (h13, .inl (dA 0, 12, .inl be))] H → va_S noA s.heap H locs → lv_has ls 6 [(3, .int v_1), (2, .int v_2), (0, .ref h0), (1, .int p1)] → f_L_watched_7_L4 sc sd bc bs bt p1 k n v_1 v_2 = some rr → (∀ (y_24 : Int32) (H : Heap) (locs : List Loc) (ls : Array Slot), va_P D cls [(h0, .inr (9, [.ref h1, .ref h21, .int xi, .ref h41, .ref h43, .ref h46, .ref h49, .int xe, .int xf])), (h1, .inr (6, [.int on, .int ot, .int op, .int os, .ref h2, .ref h6, .ref h9, .ref h14, .ref h17])), (h2, .inr (8, [.int sc, .ref h3, .ref h4, .ref h5])), (h3, .inl (dA 0, 4, .inl sd)), (h4, .inl (dA 0, 4, .inl sp)), (h5, .inl (dA 0, 4, .inl sw)), (h9, .inr (0, [.int bc, .ref h10, .ref h11, .ref h12, .ref h13])), (h10, .inl (dA 0, 12, .inl bg)), (h11, .inl (dA 0, 12, .inl bs)), (h12, .inl (dA 0, 12, .inl bt)), (h13, .inl (dA 0, 12, .inl be))] H → va_S noA s.heap H locs → lv_has ls 6 [(2, .int y_24)] → k y_24 = some rr → W p l e ({ frames := 11, cells := 0, slots := 0, locals := 259 } : Room) s m ([.ref h0, .int p1] : List Value).toArray below meth c H locs 0 0 (MQ below (poPi rr) ([.ref h0, .int p1] : List Value).toArray s 0 0 noA) (F0 m 133 ls [])) → W p l e ({ frames := 11, cells := 0, slots := 0, locals := 259 } : Room) s m ([.ref h0, .int p1] : List Value).toArray below meth c H locs 0 0 (MQ below (poPi rr) ([.ref h0, .int p1] : List Value).toArray s 0 0 noA) (F0 m 4 ls []) := by
    intro n k
    induction n with
    | zero =>
      intro v_1 v_2 H locs ls hP hS hl hf hk
      rw [f_L_watched_7_L4] at hf
      cases hf
    | succ n ih =>
      intro v_1 v_2 H locs ls hP hS hl hf hk
      rw [f_L_watched_7_L4] at hf
      refine lv_iload_n hx hb dL_watched_4 rfl (lv_at hl 0 rfl) ?_
      refine lv_aload_n hx hb dL_watched_5 rfl (lv_at hl 2 rfl) ?_
      obtain ⟨r_3, hc3, hf⟩ := sf_c1e hf
      refine k_Pi (run_YV (As := []) (rest := [.int v_1]) ⟨hx, hb, hml, hown, ha⟩ (c_X11_bookingCount l D dA cA h0 h1 h2 h6 h9 h10 h11 h12 h13 h14 h17 h21 h41 h43 h46 h49   on ot op os bc xi xe xf  _ hc3) (gi_V m_744 m_745 m_746 m_31 m_747) yd_X11_bookingCount ⟨Nat.le_of_ble_eq_true rfl, Nat.le_of_ble_eq_true rfl⟩ ⟨rfl, rfl⟩ hK hX hS hP [0, 1, 6] rfl (va_recv hK hP (q0 := 0) rfl rfl) rfl hl.1 rfl (Nat.le_of_ble_eq_true rfl) dL_watched_6 ⟨Nat.le_of_ble_eq_true rfl, Nat.le_of_ble_eq_true rfl⟩) hP hS (fun H locs hP hS => ?_)
      refine lv_icmp_ge (tgt := 133) hx hb dL_watched_9 (by decide) (fun hc => ?_) (fun hc => ?_)
      · have hf := sf_bp hf hc
        exact hk _ _ _ _ (hP.sub [0, 1, 2, 3, 4, 5, 6, 7, 8, 9, 10] rfl) hS (lv_sub hl [1] rfl) hf
      · have hf := sf_bn hf hc
        refine lv_aload_n hx hb dL_watched_12 rfl (lv_at hl 2 rfl) ?_
        refine lv_iload_n hx hb dL_watched_13 rfl (lv_at hl 0 rfl) ?_
        obtain ⟨r_4, hc4, hf⟩ := sf_c1e hf
        refine k_Pi (run_YV (As := [.int v_1]) (rest := []) ⟨hx, hb, hml, hown, ha⟩ (c_X11_start l D dA cA h0 h1 h2 h6 h9 h10 h11 h12 h13 h14 h17 h21 h41 h43 h46 h49   on ot op os bc bg bs bt be xi xe xf v_1 _ hc4) (gi_V m_765 m_766 m_767 m_31 m_768) yd_X11_start ⟨Nat.le_of_ble_eq_true rfl, Nat.le_of_ble_eq_true rfl⟩ ⟨rfl, rfl⟩ hK hX hS hP [0, 1, 6, 7, 8, 9, 10] rfl (va_recv hK hP (q0 := 0) rfl rfl) rfl hl.1 rfl (Nat.le_of_ble_eq_true rfl) dL_watched_14 ⟨Nat.le_of_ble_eq_true rfl, Nat.le_of_ble_eq_true rfl⟩) hP hS (fun H locs hP hS => ?_)
        refine lv_iload_n hx hb dL_watched_17 rfl (lv_at hl 3 rfl) ?_
        refine sf_jo (J := fun (k_6 : Int32 → Option Int32) => ∀ (v_5 : Int32) (H : Heap) (locs : List Loc) (ls : Array Slot), va_P D cls [(h0, .inr (9, [.ref h1, .ref h21, .int xi, .ref h41, .ref h43, .ref h46, .ref h49, .int xe, .int xf])), (h1, .inr (6, [.int on, .int ot, .int op, .int os, .ref h2, .ref h6, .ref h9, .ref h14, .ref h17])), (h2, .inr (8, [.int sc, .ref h3, .ref h4, .ref h5])), (h3, .inl (dA 0, 4, .inl sd)), (h4, .inl (dA 0, 4, .inl sp)), (h5, .inl (dA 0, 4, .inl sw)), (h9, .inr (0, [.int bc, .ref h10, .ref h11, .ref h12, .ref h13])), (h10, .inl (dA 0, 12, .inl bg)), (h11, .inl (dA 0, 12, .inl bs)), (h12, .inl (dA 0, 12, .inl bt)), (h13, .inl (dA 0, 12, .inl be))] H → va_S noA s.heap H locs → lv_has ls 6 [(3, .int v_1), (2, .int v_2), (0, .ref h0), (1, .int p1)] → k_6 v_5 = some rr → W p l e ({ frames := 11, cells := 0, slots := 0, locals := 259 } : Room) s m ([.ref h0, .int p1] : List Value).toArray below meth c H locs 0 0 (MQ below (poPi rr) ([.ref h0, .int p1] : List Value).toArray s 0 0 noA) (F0 m 26 ls [.int v_5])) hf (fun v_5 H locs ls hP hS hl hf => ?_) (fun k_6 hJ6 hf => ?_)
        · skip
          refine lv_istore (lv' := [(4, .int v_5), (3, .int v_1), (2, .int v_2), (0, .ref h0), (1, .int p1)]) hx hb dL_watched_26 hl (by decide) rfl (fun ls hl => ?_)
          refine lv_iconst (v := 0) hx hb dL_watched_28 (by decide) ?_
          refine lv_istore (lv' := [(5, .int (0 : Int32)), (4, .int v_5), (3, .int v_1), (2, .int v_2), (0, .ref h0), (1, .int p1)]) hx hb dL_watched_29 hl (by decide) rfl (fun ls hl => ?_)
          have hL31_18 : ∀ (n : Nat) (k : Int32 → Option Int32) (v_7 : Int32) (v_8 : Int32) (H : Heap) (locs : List Loc) (ls : Array Slot), va_P D cls [(h0, .inr (9, [.ref h1, .ref h21, .int xi, .ref h41, .ref h43, .ref h46, .ref h49, .int xe, .int xf])), (h1, .inr (6, [.int on, .int ot, .int op, .int os, .ref h2, .ref h6, .ref h9, .ref h14, .ref h17])), (h2, .inr (8, [.int sc, .ref h3, .ref h4, .ref h5])), (h3, .inl (dA 0, 4, .inl sd)), (h4, .inl (dA 0, 4, .inl sp)), (h5, .inl (dA 0, 4, .inl sw)), (h9, .inr (0, [.int bc, .ref h10, .ref h11, .ref h12, .ref h13])), (h10, .inl (dA 0, 12, .inl bg)), (h11, .inl (dA 0, 12, .inl bs)), (h12, .inl (dA 0, 12, .inl bt)), (h13, .inl (dA 0, 12, .inl be))] H → va_S noA s.heap H locs → lv_has ls 6 [(5, .int v_7), (4, .int v_8), (3, .int v_1), (2, .int v_2), (0, .ref h0), (1, .int p1)] → f_L_watched_7_L31 sc sd bc bs bt p1 v_1 k n v_7 v_8 = some rr → (∀ (y_18 : Int32) (H : Heap) (locs : List Loc) (ls : Array Slot), va_P D cls [(h0, .inr (9, [.ref h1, .ref h21, .int xi, .ref h41, .ref h43, .ref h46, .ref h49, .int xe, .int xf])), (h1, .inr (6, [.int on, .int ot, .int op, .int os, .ref h2, .ref h6, .ref h9, .ref h14, .ref h17])), (h2, .inr (8, [.int sc, .ref h3, .ref h4, .ref h5])), (h3, .inl (dA 0, 4, .inl sd)), (h4, .inl (dA 0, 4, .inl sp)), (h5, .inl (dA 0, 4, .inl sw)), (h9, .inr (0, [.int bc, .ref h10, .ref h11, .ref h12, .ref h13])), (h10, .inl (dA 0, 12, .inl bg)), (h11, .inl (dA 0, 12, .inl bs)), (h12, .inl (dA 0, 12, .inl bt)), (h13, .inl (dA 0, 12, .inl be))] H → va_S noA s.heap H locs → lv_has ls 6 [(4, .int y_18), (3, .int v_1), (2, .int v_2), (0, .ref h0), (1, .int p1)] → k y_18 = some rr → W p l e ({ frames := 11, cells := 0, slots := 0, locals := 259 } : Room) s m ([.ref h0, .int p1] : List Value).toArray below meth c H locs 0 0 (MQ below (poPi rr) ([.ref h0, .int p1] : List Value).toArray s 0 0 noA) (F0 m 102 ls [])) → W p l e ({ frames := 11, cells := 0, slots := 0, locals := 259 } : Room) s m ([.ref h0, .int p1] : List Value).toArray below meth c H locs 0 0 (MQ below (poPi rr) ([.ref h0, .int p1] : List Value).toArray s 0 0 noA) (F0 m 31 ls []) := by
            intro n k
            induction n with
            | zero =>
              intro v_7 v_8 H locs ls hP hS hl hf hk
              rw [f_L_watched_7_L31] at hf
              cases hf
            | succ n ih =>
              intro v_7 v_8 H locs ls hP hS hl hf hk
              rw [f_L_watched_7_L31] at hf
              refine lv_iload hx hb dL_watched_31 (lv_at hl 0 rfl) ?_
              refine lv_aload_n hx hb dL_watched_33 rfl (lv_at hl 4 rfl) ?_
              obtain ⟨r_9, hc9, hf⟩ := sf_c1e hf
              refine k_Pi (run_YV (As := []) (rest := [.int v_7]) ⟨hx, hb, hml, hown, ha⟩ (c_X11_bookingCount l D dA cA h0 h1 h2 h6 h9 h10 h11 h12 h13 h14 h17 h21 h41 h43 h46 h49   on ot op os bc xi xe xf  _ hc9) (gi_V m_744 m_745 m_746 m_31 m_747) yd_X11_bookingCount ⟨Nat.le_of_ble_eq_true rfl, Nat.le_of_ble_eq_true rfl⟩ ⟨rfl, rfl⟩ hK hX hS hP [0, 1, 6] rfl (va_recv hK hP (q0 := 0) rfl rfl) rfl hl.1 rfl (Nat.le_of_ble_eq_true rfl) dL_watched_34 ⟨Nat.le_of_ble_eq_true rfl, Nat.le_of_ble_eq_true rfl⟩) hP hS (fun H locs hP hS => ?_)
              refine lv_icmp_ge (tgt := 102) hx hb dL_watched_37 (by decide) (fun hc => ?_) (fun hc => ?_)
              · have hf := sf_bp hf hc
                exact hk _ _ _ _ (hP.sub [0, 1, 2, 3, 4, 5, 6, 7, 8, 9, 10] rfl) hS (lv_sub hl [1, 2, 3, 4, 5] rfl) hf
              · have hf := sf_bn hf hc
                refine lv_iload hx hb dL_watched_40 (lv_at hl 1 rfl) ?_
                refine lv_if_eq (tgt := 102) hx hb dL_watched_42 (by decide) (fun hc => ?_) (fun hc => ?_)
                · have hf := sf_bp hf hc
                  exact hk _ _ _ _ (hP.sub [0, 1, 2, 3, 4, 5, 6, 7, 8, 9, 10] rfl) hS (lv_sub hl [1, 2, 3, 4, 5] rfl) hf
                · have hf := sf_bn hf hc
                  refine lv_aload_n hx hb dL_watched_45 rfl (lv_at hl 4 rfl) ?_
                  refine lv_iload hx hb dL_watched_46 (lv_at hl 0 rfl) ?_
                  obtain ⟨r_10, hc10, hf⟩ := sf_c1e hf
                  refine k_Pi (run_YV (As := [.int v_7]) (rest := []) ⟨hx, hb, hml, hown, ha⟩ (c_X11_start l D dA cA h0 h1 h2 h6 h9 h10 h11 h12 h13 h14 h17 h21 h41 h43 h46 h49   on ot op os bc bg bs bt be xi xe xf v_7 _ hc10) (gi_V m_765 m_766 m_767 m_31 m_768) yd_X11_start ⟨Nat.le_of_ble_eq_true rfl, Nat.le_of_ble_eq_true rfl⟩ ⟨rfl, rfl⟩ hK hX hS hP [0, 1, 6, 7, 8, 9, 10] rfl (va_recv hK hP (q0 := 0) rfl rfl) rfl hl.1 rfl (Nat.le_of_ble_eq_true rfl) dL_watched_48 ⟨Nat.le_of_ble_eq_true rfl, Nat.le_of_ble_eq_true rfl⟩) hP hS (fun H locs hP hS => ?_)
                  refine lv_iload_n hx hb dL_watched_51 rfl (lv_at hl 5 rfl) ?_
                  refine sf_jo (J := fun (k_12 : Int32 → Option Int32) => ∀ (v_11 : Int32) (H : Heap) (locs : List Loc) (ls : Array Slot), va_P D cls [(h0, .inr (9, [.ref h1, .ref h21, .int xi, .ref h41, .ref h43, .ref h46, .ref h49, .int xe, .int xf])), (h1, .inr (6, [.int on, .int ot, .int op, .int os, .ref h2, .ref h6, .ref h9, .ref h14, .ref h17])), (h2, .inr (8, [.int sc, .ref h3, .ref h4, .ref h5])), (h3, .inl (dA 0, 4, .inl sd)), (h4, .inl (dA 0, 4, .inl sp)), (h5, .inl (dA 0, 4, .inl sw)), (h9, .inr (0, [.int bc, .ref h10, .ref h11, .ref h12, .ref h13])), (h10, .inl (dA 0, 12, .inl bg)), (h11, .inl (dA 0, 12, .inl bs)), (h12, .inl (dA 0, 12, .inl bt)), (h13, .inl (dA 0, 12, .inl be))] H → va_S noA s.heap H locs → lv_has ls 6 [(5, .int v_7), (3, .int v_1), (2, .int v_2), (0, .ref h0), (1, .int p1)] → k_12 v_11 = some rr → W p l e ({ frames := 11, cells := 0, slots := 0, locals := 259 } : Room) s m ([.ref h0, .int p1] : List Value).toArray below meth c H locs 0 0 (MQ below (poPi rr) ([.ref h0, .int p1] : List Value).toArray s 0 0 noA) (F0 m 94 ls [.int v_11])) hf (fun v_11 H locs ls hP hS hl hf => ?_) (fun k_12 hJ12 hf => ?_)
                  · skip
                    refine lv_istore (lv' := [(4, .int v_11), (5, .int v_7), (3, .int v_1), (2, .int v_2), (0, .ref h0), (1, .int p1)]) hx hb dL_watched_94 hl (by decide) rfl (fun ls hl => ?_)
                    obtain ⟨x_13, ex_13, hf⟩ := sf_ne hf
                    refine ii_nc (lv' := [(5, .int x_13), (4, .int v_11), (3, .int v_1), (2, .int v_2), (0, .ref h0), (1, .int p1)]) (k := 1) hx hb dL_watched_96 hl rfl ex_13 (by decide) (by decide) rfl (fun ls hl => ?_)
                    refine lv_goto (tgt := 31) hx hb dL_watched_99 (by decide) ?_
                    exact ih _ _ _ _ _ (hP.sub [0, 1, 2, 3, 4, 5, 6, 7, 8, 9, 10] rfl) hS (lv_sub hl [0, 1, 2, 3, 4, 5] rfl) hf hk
                  refine lv_icmp_lt (tgt := 89) hx hb dL_watched_52 (by decide) (fun hc => ?_) (fun hc => ?_)
                  · have hf := sf_bp hf hc
                    refine lv_iconst (v := 1) hx hb dL_watched_89 (by decide) ?_
                    refine lv_goto (tgt := 94) hx hb dL_watched_90 (by decide) ?_
                    exact hJ12 _ _ _ _ (hP.sub [0, 1, 2, 3, 4, 5, 6, 7, 8, 9, 10] rfl) hS (lv_sub hl [0, 2, 3, 4, 5] rfl) hf
                  · have hf := sf_bn hf hc
                    refine lv_aload_n hx hb dL_watched_55 rfl (lv_at hl 4 rfl) ?_
                    refine lv_iload hx hb dL_watched_56 (lv_at hl 0 rfl) ?_
                    obtain ⟨r_14, hc14, hf⟩ := sf_c1e hf
                    refine k_Pi (run_YS (As := [.ref h0, .int v_7]) (rest := []) ⟨hx, hb, hml, hown, ha⟩ (c_L_endOf l D dA cA h0 h1 h2 h3 h4 h5 h6 h9 h10 h11 h12 h13 h14 h17 h21 h41 h43 h46 h49   on ot op os sc sd sp sw bc bg bs bt be xi xe xf v_7 _ hc14) (gi_S2 m_769 m_770 m_30 m_771) (yd_L_endOf).2 ⟨Nat.le_of_ble_eq_true rfl, Nat.le_of_ble_eq_true rfl⟩ ⟨rfl, rfl⟩ hK hX hS hP [0, 1, 2, 3, 4, 5, 6, 7, 8, 9, 10] rfl rfl hl.1 rfl (Nat.le_of_ble_eq_true rfl) dL_watched_58 ⟨Nat.le_of_ble_eq_true rfl, Nat.le_of_ble_eq_true rfl⟩) hP hS (fun H locs hP hS => ?_)
                    refine lv_aload_n hx hb dL_watched_61 rfl (lv_at hl 4 rfl) ?_
                    refine lv_iload_n hx hb dL_watched_62 rfl (lv_at hl 2 rfl) ?_
                    obtain ⟨r_15, hc15, hf⟩ := sf_c1e hf
                    refine k_Pi (run_YS (As := [.ref h0, .int v_1]) (rest := [.int r_14]) ⟨hx, hb, hml, hown, ha⟩ (c_L_endOf l D dA cA h0 h1 h2 h3 h4 h5 h6 h9 h10 h11 h12 h13 h14 h17 h21 h41 h43 h46 h49   on ot op os sc sd sp sw bc bg bs bt be xi xe xf v_1 _ hc15) (gi_S2 m_769 m_770 m_30 m_771) (yd_L_endOf).2 ⟨Nat.le_of_ble_eq_true rfl, Nat.le_of_ble_eq_true rfl⟩ ⟨rfl, rfl⟩ hK hX hS hP [0, 1, 2, 3, 4, 5, 6, 7, 8, 9, 10] rfl rfl hl.1 rfl (Nat.le_of_ble_eq_true rfl) dL_watched_63 ⟨Nat.le_of_ble_eq_true rfl, Nat.le_of_ble_eq_true rfl⟩) hP hS (fun H locs hP hS => ?_)
                    refine lv_icmp_gt (tgt := 89) hx hb dL_watched_66 (by decide) (fun hc => ?_) (fun hc => ?_)
                    · have hf := sf_bp hf hc
                      refine lv_iconst (v := 1) hx hb dL_watched_89 (by decide) ?_
                      refine lv_goto (tgt := 94) hx hb dL_watched_90 (by decide) ?_
                      exact hJ12 _ _ _ _ (hP.sub [0, 1, 2, 3, 4, 5, 6, 7, 8, 9, 10] rfl) hS (lv_sub hl [0, 2, 3, 4, 5] rfl) hf
                    · have hf := sf_bn hf hc
                      refine lv_aload_n hx hb dL_watched_69 rfl (lv_at hl 4 rfl) ?_
                      refine lv_iload hx hb dL_watched_70 (lv_at hl 0 rfl) ?_
                      obtain ⟨r_16, hc16, hf⟩ := sf_c1e hf
                      refine k_Pi (run_YS (As := [.ref h0, .int v_7]) (rest := []) ⟨hx, hb, hml, hown, ha⟩ (c_L_endOf l D dA cA h0 h1 h2 h3 h4 h5 h6 h9 h10 h11 h12 h13 h14 h17 h21 h41 h43 h46 h49   on ot op os sc sd sp sw bc bg bs bt be xi xe xf v_7 _ hc16) (gi_S2 m_769 m_770 m_30 m_771) (yd_L_endOf).2 ⟨Nat.le_of_ble_eq_true rfl, Nat.le_of_ble_eq_true rfl⟩ ⟨rfl, rfl⟩ hK hX hS hP [0, 1, 2, 3, 4, 5, 6, 7, 8, 9, 10] rfl rfl hl.1 rfl (Nat.le_of_ble_eq_true rfl) dL_watched_72 ⟨Nat.le_of_ble_eq_true rfl, Nat.le_of_ble_eq_true rfl⟩) hP hS (fun H locs hP hS => ?_)
                      refine lv_aload_n hx hb dL_watched_75 rfl (lv_at hl 4 rfl) ?_
                      refine lv_iload_n hx hb dL_watched_76 rfl (lv_at hl 2 rfl) ?_
                      obtain ⟨r_17, hc17, hf⟩ := sf_c1e hf
                      refine k_Pi (run_YS (As := [.ref h0, .int v_1]) (rest := [.int r_16]) ⟨hx, hb, hml, hown, ha⟩ (c_L_endOf l D dA cA h0 h1 h2 h3 h4 h5 h6 h9 h10 h11 h12 h13 h14 h17 h21 h41 h43 h46 h49   on ot op os sc sd sp sw bc bg bs bt be xi xe xf v_1 _ hc17) (gi_S2 m_769 m_770 m_30 m_771) (yd_L_endOf).2 ⟨Nat.le_of_ble_eq_true rfl, Nat.le_of_ble_eq_true rfl⟩ ⟨rfl, rfl⟩ hK hX hS hP [0, 1, 2, 3, 4, 5, 6, 7, 8, 9, 10] rfl rfl hl.1 rfl (Nat.le_of_ble_eq_true rfl) dL_watched_77 ⟨Nat.le_of_ble_eq_true rfl, Nat.le_of_ble_eq_true rfl⟩) hP hS (fun H locs hP hS => ?_)
                      refine lv_icmp_ne (tgt := 93) hx hb dL_watched_80 (by decide) (fun hc => ?_) (fun hc => ?_)
                      · have hf := sf_bn hf hc
                        refine lv_iconst (v := 0) hx hb dL_watched_93 (by decide) ?_
                        exact hJ12 _ _ _ _ (hP.sub [0, 1, 2, 3, 4, 5, 6, 7, 8, 9, 10] rfl) hS (lv_sub hl [0, 2, 3, 4, 5] rfl) hf
                      · have hf := sf_bp hf hc
                        refine lv_iload hx hb dL_watched_83 (lv_at hl 0 rfl) ?_
                        refine lv_iload_n hx hb dL_watched_85 rfl (lv_at hl 2 rfl) ?_
                        refine lv_icmp_lt (tgt := 93) hx hb dL_watched_86 (by decide) (fun hc => ?_) (fun hc => ?_)
                        · have hf := sf_bp hf hc
                          refine lv_iconst (v := 0) hx hb dL_watched_93 (by decide) ?_
                          exact hJ12 _ _ _ _ (hP.sub [0, 1, 2, 3, 4, 5, 6, 7, 8, 9, 10] rfl) hS (lv_sub hl [0, 2, 3, 4, 5] rfl) hf
                        · have hf := sf_bn hf hc
                          refine lv_iconst (v := 1) hx hb dL_watched_89 (by decide) ?_
                          refine lv_goto (tgt := 94) hx hb dL_watched_90 (by decide) ?_
                          exact hJ12 _ _ _ _ (hP.sub [0, 1, 2, 3, 4, 5, 6, 7, 8, 9, 10] rfl) hS (lv_sub hl [0, 2, 3, 4, 5] rfl) hf
          refine hL31_18 2000 _ _ _ _ _ _ hP hS (lv_sub hl [0, 1, 2, 3, 4, 5] rfl) hf (fun y_18 H locs ls hP hS hl hf => ?_)
          refine lv_iload hx hb dL_watched_102 (lv_at hl 0 rfl) ?_
          refine sf_jo (J := fun (k_20 : Int32 → Option Int32) => ∀ (v_19 : Int32) (H : Heap) (locs : List Loc) (ls : Array Slot), va_P D cls [(h0, .inr (9, [.ref h1, .ref h21, .int xi, .ref h41, .ref h43, .ref h46, .ref h49, .int xe, .int xf])), (h1, .inr (6, [.int on, .int ot, .int op, .int os, .ref h2, .ref h6, .ref h9, .ref h14, .ref h17])), (h2, .inr (8, [.int sc, .ref h3, .ref h4, .ref h5])), (h3, .inl (dA 0, 4, .inl sd)), (h4, .inl (dA 0, 4, .inl sp)), (h5, .inl (dA 0, 4, .inl sw)), (h9, .inr (0, [.int bc, .ref h10, .ref h11, .ref h12, .ref h13])), (h10, .inl (dA 0, 12, .inl bg)), (h11, .inl (dA 0, 12, .inl bs)), (h12, .inl (dA 0, 12, .inl bt)), (h13, .inl (dA 0, 12, .inl be))] H → va_S noA s.heap H locs → lv_has ls 6 [(3, .int v_1), (0, .ref h0), (1, .int p1)] → k_20 v_19 = some rr → W p l e ({ frames := 11, cells := 0, slots := 0, locals := 259 } : Room) s m ([.ref h0, .int p1] : List Value).toArray below meth c H locs 0 0 (MQ below (poPi rr) ([.ref h0, .int p1] : List Value).toArray s 0 0 noA) (F0 m 126 ls [.int v_19])) hf (fun v_19 H locs ls hP hS hl hf => ?_) (fun k_20 hJ20 hf => ?_)
          · skip
            refine lv_istore_n (lv' := [(2, .int v_19), (3, .int v_1), (0, .ref h0), (1, .int p1)]) hx hb dL_watched_126 rfl hl (by decide) rfl (fun ls hl => ?_)
            obtain ⟨x_21, ex_21, hf⟩ := sf_ne hf
            refine ii_nc (lv' := [(3, .int x_21), (2, .int v_19), (0, .ref h0), (1, .int p1)]) (k := 1) hx hb dL_watched_127 hl rfl ex_21 (by decide) (by decide) rfl (fun ls hl => ?_)
            refine lv_goto (tgt := 4) hx hb dL_watched_130 (by decide) ?_
            exact ih _ _ _ _ _ (hP.sub [0, 1, 2, 3, 4, 5, 6, 7, 8, 9, 10] rfl) hS (lv_sub hl [0, 1, 2, 3] rfl) hf hk
          refine lv_if_eq (tgt := 125) hx hb dL_watched_104 (by decide) (fun hc => ?_) (fun hc => ?_)
          · have hf := sf_bp hf hc
            refine lv_iload_n hx hb dL_watched_125 rfl (lv_at hl 2 rfl) ?_
            exact hJ20 _ _ _ _ (hP.sub [0, 1, 2, 3, 4, 5, 6, 7, 8, 9, 10] rfl) hS (lv_sub hl [1, 3, 4] rfl) hf
          · have hf := sf_bn hf hc
            refine lv_iload_n hx hb dL_watched_107 rfl (lv_at hl 2 rfl) ?_
            refine lv_iconst (v := 1) hx hb dL_watched_108 (by decide) ?_
            refine lv_aload_n hx hb dL_watched_109 rfl (lv_at hl 3 rfl) ?_
            refine lv_aload_n hx hb dL_watched_110 rfl (lv_at hl 3 rfl) ?_
            refine lv_iload_n hx hb dL_watched_111 rfl (lv_at hl 1 rfl) ?_
            obtain ⟨r_22, hc22, hf⟩ := sf_c1e hf
            refine k_Pi (run_YS (As := [.ref h0, .int v_1]) (rest := [.ref h0, .int (1 : Int32), .int v_2]) ⟨hx, hb, hml, hown, ha⟩ (c_L_endOf l D dA cA h0 h1 h2 h3 h4 h5 h6 h9 h10 h11 h12 h13 h14 h17 h21 h41 h43 h46 h49   on ot op os sc sd sp sw bc bg bs bt be xi xe xf v_1 _ hc22) (gi_S2 m_769 m_770 m_30 m_771) (yd_L_endOf).2 ⟨Nat.le_of_ble_eq_true rfl, Nat.le_of_ble_eq_true rfl⟩ ⟨rfl, rfl⟩ hK hX hS hP [0, 1, 2, 3, 4, 5, 6, 7, 8, 9, 10] rfl rfl hl.1 rfl (Nat.le_of_ble_eq_true rfl) dL_watched_112 ⟨Nat.le_of_ble_eq_true rfl, Nat.le_of_ble_eq_true rfl⟩) hP hS (fun H locs hP hS => ?_)
            obtain ⟨r_23, hc23, hf⟩ := sf_c1e hf
            refine k_Pi (run_YS (As := [.ref h0, .int r_22]) (rest := [.int (1 : Int32), .int v_2]) ⟨hx, hb, hml, hown, ha⟩ (c_L_watched_6 l D dA cA h0 h1 h2 h3 h4 h5 h6 h9 h10 h11 h12 h13 h14 h17 h21 h41 h43 h46 h49   on ot op os sc sd sp sw bc bg bs bt be xi xe xf r_22 _ hc23) (gi_S2 m_847 m_848 m_30 m_849) (yd_L_watched_6).2 ⟨Nat.le_of_ble_eq_true rfl, Nat.le_of_ble_eq_true rfl⟩ ⟨rfl, rfl⟩ hK hX hS hP [0, 1, 2, 3, 4, 5, 6, 7, 8, 9, 10] rfl rfl hl.1 rfl (Nat.le_of_ble_eq_true rfl) dL_watched_115 ⟨Nat.le_of_ble_eq_true rfl, Nat.le_of_ble_eq_true rfl⟩) hP hS (fun H locs hP hS => ?_)
            refine lv_iadd hx hb dL_watched_118 ?_
            refine mx_i hx hb ha hown hml hl.1 m_785 m_786 m_54 m_787 ⟨Nat.le_of_ble_eq_true rfl, Nat.le_of_ble_eq_true rfl⟩ ⟨Nat.le_of_ble_eq_true rfl, Nat.le_of_ble_eq_true rfl⟩ dL_watched_119 ?_
            refine lv_goto (tgt := 126) hx hb dL_watched_122 (by decide) ?_
            exact hJ20 _ _ _ _ (hP.sub [0, 1, 2, 3, 4, 5, 6, 7, 8, 9, 10] rfl) hS (lv_sub hl [1, 3, 4] rfl) hf
        refine lv_icmp_lt (tgt := 25) hx hb dL_watched_18 (by decide) (fun hc => ?_) (fun hc => ?_)
        · have hf := sf_bp hf hc
          refine lv_iconst (v := 0) hx hb dL_watched_25 (by decide) ?_
          exact hJ6 _ _ _ _ (hP.sub [0, 1, 2, 3, 4, 5, 6, 7, 8, 9, 10] rfl) hS (lv_sub hl [0, 1, 2, 3] rfl) hf
        · have hf := sf_bn hf hc
          refine lv_iconst (v := 1) hx hb dL_watched_21 (by decide) ?_
          refine lv_goto (tgt := 26) hx hb dL_watched_22 (by decide) ?_
          exact hJ6 _ _ _ _ (hP.sub [0, 1, 2, 3, 4, 5, 6, 7, 8, 9, 10] rfl) hS (lv_sub hl [0, 1, 2, 3] rfl) hf
  refine hL4_24 2000 _ _ _ _ _ _ hP hS (lv_sub hl [0, 1, 2, 3] rfl) hf (fun y_24 H locs ls hP hS hl hf => ?_)
  refine lv_iload_n hx hb dL_watched_133 rfl (lv_at hl 0 rfl) ?_
  exact rt_Pi hx hb hr hlocks (Option.some.inj hf) hS dL_watched_134

def f_L_watched_8_L31 (sc : Int32) (sd : Nat → Int32) (bc : Int32) (bs : Nat → Int32) (bt : Nat → Int32) (p1 : Int32) (v_1 : Int32) (k : Int32 → Option Int32) : Nat → Int32 → Int32 → Option Int32
  | 0, _, _ => none
  | n + 1, v_7, v_8 => sf_c1 (f_X11_bookingCount bc) (fun r_9 => sf_b (r_9 ≤ v_7) (k v_8) (sf_b (v_8 = (0 : Int32)) (k v_8) (sf_c1 (f_X11_start bc bt v_7) (fun r_10 => sf_j (fun (v_11 : Int32) => sf_n (v_7 + (1 : Int32)) (fun x_13 => f_L_watched_8_L31 sc sd bc bs bt p1 v_1 k n x_13 v_11)) (fun k_12 => sf_b (r_10 < p1) (k_12 (1 : Int32)) (sf_c1 (f_L_endOf sc sd bc bs bt v_7) (fun r_14 => sf_c1 (f_L_endOf sc sd bc bs bt v_1) (fun r_15 => sf_b (r_15 < r_14) (k_12 (1 : Int32)) (sf_c1 (f_L_endOf sc sd bc bs bt v_7) (fun r_16 => sf_c1 (f_L_endOf sc sd bc bs bt v_1) (fun r_17 => sf_b (r_16 = r_17) (sf_b (v_7 < v_1) (k_12 (0 : Int32)) (k_12 (1 : Int32))) (k_12 (0 : Int32)))))))))))))
def f_L_watched_8_L4 (sc : Int32) (sd : Nat → Int32) (bc : Int32) (bs : Nat → Int32) (bt : Nat → Int32) (p1 : Int32) (k : Int32 → Option Int32) : Nat → Int32 → Int32 → Option Int32
  | 0, _, _ => none
  | n + 1, v_1, v_2 => sf_c1 (f_X11_bookingCount bc) (fun r_3 => sf_b (r_3 ≤ v_1) (k v_2) (sf_c1 (f_X11_start bc bt v_1) (fun r_4 => sf_j (fun (v_5 : Int32) => f_L_watched_8_L31 sc sd bc bs bt p1 v_1 (fun y_18 => sf_j (fun (v_19 : Int32) => sf_n (v_1 + (1 : Int32)) (fun x_21 => f_L_watched_8_L4 sc sd bc bs bt p1 k n x_21 v_19)) (fun k_20 => sf_b (y_18 = (0 : Int32)) (k_20 v_2) (sf_c1 (f_L_endOf sc sd bc bs bt v_1) (fun r_22 => sf_c1 (f_L_watched_7 sc sd bc bs bt r_22) (fun r_23 => k_20 (if v_2 < ((1 : Int32) + r_23) then ((1 : Int32) + r_23) else v_2)))))) 2000 (0 : Int32) v_5) (fun k_6 => sf_b (r_4 < p1) (k_6 (0 : Int32)) (k_6 (1 : Int32))))))
def f_L_watched_8 (sc : Int32) (sd : Nat → Int32) (bc : Int32) (bs : Nat → Int32) (bt : Nat → Int32) (p1 : Int32) : Option Int32 :=
  f_L_watched_8_L4 sc sd bc bs bt p1 (fun y_24 => some y_24) 2000 (0 : Int32) (0 : Int32)
theorem yd_L_watched_8 : yL_watched.cls = RL ∧ yL_watched.cls ≠ "java/lang/invoke/MethodHandle" ∧ yL_watched.cls ≠ "java/lang/invoke/VarHandle" ∧ (parseMethodDescriptor yL_watched.desc).map (fun d => d.parameters.length) = some 2 := ⟨rfl, by decide, by decide, by decide +kernel⟩
set_option maxRecDepth 100000 in
set_option maxHeartbeats 8000000 in
theorem c_L_watched_8 (l : Launch) (D : va_G) (dA : Nat → ClassId) (cA : Nat → Nat) (h0 h1 h2 h3 h4 h5 h6 h9 h10 h11 h12 h13 h14 h17 h21 h41 h43 h46 h49 : Nat) (on : Int32) (ot : Int32) (op : Int32) (os : Int32) (sc : Int32) (sd : Nat → Int32) (sp : Nat → Int32) (sw : Nat → Int32) (bc : Int32) (bg : Nat → Int32) (bs : Nat → Int32) (bt : Nat → Int32) (be : Nat → Int32) (xi : Int32) (xe : Int32) (xf : Int32) (p1 : Int32) (rr : Int32) (hf : f_L_watched_8 sc sd bc bs bt p1 = some rr) : Met l yL_watched (wo (.code yL_watched cL_watched 6 (some .int))) ({ frames := 12, cells := 0, slots := 0, locals := 284 } : Room) (preY D dA cA [.ref h0, .int p1] [(h0, .inr (9, [.ref h1, .ref h21, .int xi, .ref h41, .ref h43, .ref h46, .ref h49, .int xe, .int xf])), (h1, .inr (6, [.int on, .int ot, .int op, .int os, .ref h2, .ref h6, .ref h9, .ref h14, .ref h17])), (h2, .inr (8, [.int sc, .ref h3, .ref h4, .ref h5])), (h3, .inl (dA 0, 4, .inl sd)), (h4, .inl (dA 0, 4, .inl sp)), (h5, .inl (dA 0, 4, .inl sw)), (h9, .inr (0, [.int bc, .ref h10, .ref h11, .ref h12, .ref h13])), (h10, .inl (dA 0, 12, .inl bg)), (h11, .inl (dA 0, 12, .inl bs)), (h12, .inl (dA 0, 12, .inl bt)), (h13, .inl (dA 0, 12, .inl be))]) (poPi rr) 0 0 noA := by
  refine of_Y (y := yL_watched) (cc := cL_watched) (maxL := 6) (ret := (some .int)) (av := [.ref h0, .int p1]) (ws := [(h0, .inr (9, [.ref h1, .ref h21, .int xi, .ref h41, .ref h43, .ref h46, .ref h49, .int xe, .int xf])), (h1, .inr (6, [.int on, .int ot, .int op, .int os, .ref h2, .ref h6, .ref h9, .ref h14, .ref h17])), (h2, .inr (8, [.int sc, .ref h3, .ref h4, .ref h5])), (h3, .inl (dA 0, 4, .inl sd)), (h4, .inl (dA 0, 4, .inl sp)), (h5, .inl (dA 0, 4, .inl sw)), (h9, .inr (0, [.int bc, .ref h10, .ref h11, .ref h12, .ref h13])), (h10, .inl (dA 0, 12, .inl bg)), (h11, .inl (dA 0, 12, .inl bs)), (h12, .inl (dA 0, 12, .inl bt)), (h13, .inl (dA 0, 12, .inl be))]) (own := RL) (by decide) rfl (Nat.le_of_ble_eq_true rfl) ?_
  intro p e s m below meth c hx hb hr ha hown hml hlocks hP hK hX hS ls hl
  have hC := hX.1
  have hl : lv_has ls 6 [(0, .ref h0), (1, .int p1)] := hl
  rw [f_L_watched_8] at hf
  refine lv_iconst (v := 0) hx hb dL_watched_0 (by decide) ?_
  refine lv_istore_n (lv' := [(2, .int (0 : Int32)), (0, .ref h0), (1, .int p1)]) hx hb dL_watched_1 rfl hl (by decide) rfl (fun ls hl => ?_)
  refine lv_iconst (v := 0) hx hb dL_watched_2 (by decide) ?_
  refine lv_istore_n (lv' := [(3, .int (0 : Int32)), (2, .int (0 : Int32)), (0, .ref h0), (1, .int p1)]) hx hb dL_watched_3 rfl hl (by decide) rfl (fun ls hl => ?_)
  have hL4_24 : ∀ (n : Nat) (k : Int32 → Option Int32) (v_1 : Int32) (v_2 : Int32) (H : Heap) (locs : List Loc) (ls : Array Slot), va_P D cls [(h0, .inr (9, [.ref h1, .ref h21, .int xi, .ref h41, .ref h43, .ref h46, .ref h49, .int xe, .int xf])), (h1, .inr (6, [.int on, .int ot, .int op, .int os, .ref h2, .ref h6, .ref h9, .ref h14, .ref h17])), (h2, .inr (8, [.int sc, .ref h3, .ref h4, .ref h5])), (h3, .inl (dA 0, 4, .inl sd)), (h4, .inl (dA 0, 4, .inl sp)), (h5, .inl (dA 0, 4, .inl sw)), (h9, .inr (0, [.int bc, .ref h10, .ref h11, .ref h12, .ref h13])), (h10, .inl (dA 0, 12, .inl bg)), (h11, .inl (dA 0, 12, .inl bs)), (h12, .inl (dA 0, 12, .inl bt)), (h13, .inl (dA 0, 12, .inl be))] H → va_S noA s.heap H locs → lv_has ls 6 [(3, .int v_1), (2, .int v_2), (0, .ref h0), (1, .int p1)] → f_L_watched_8_L4 sc sd bc bs bt p1 k n v_1 v_2 = some rr → (∀ (y_24 : Int32) (H : Heap) (locs : List Loc) (ls : Array Slot), va_P D cls [(h0, .inr (9, [.ref h1, .ref h21, .int xi, .ref h41, .ref h43, .ref h46, .ref h49, .int xe, .int xf])), (h1, .inr (6, [.int on, .int ot, .int op, .int os, .ref h2, .ref h6, .ref h9, .ref h14, .ref h17])), (h2, .inr (8, [.int sc, .ref h3, .ref h4, .ref h5])), (h3, .inl (dA 0, 4, .inl sd)), (h4, .inl (dA 0, 4, .inl sp)), (h5, .inl (dA 0, 4, .inl sw)), (h9, .inr (0, [.int bc, .ref h10, .ref h11, .ref h12, .ref h13])), (h10, .inl (dA 0, 12, .inl bg)), (h11, .inl (dA 0, 12, .inl bs)), (h12, .inl (dA 0, 12, .inl bt)), (h13, .inl (dA 0, 12, .inl be))] H → va_S noA s.heap H locs → lv_has ls 6 [(2, .int y_24)] → k y_24 = some rr → W p l e ({ frames := 12, cells := 0, slots := 0, locals := 284 } : Room) s m ([.ref h0, .int p1] : List Value).toArray below meth c H locs 0 0 (MQ below (poPi rr) ([.ref h0, .int p1] : List Value).toArray s 0 0 noA) (F0 m 133 ls [])) → W p l e ({ frames := 12, cells := 0, slots := 0, locals := 284 } : Room) s m ([.ref h0, .int p1] : List Value).toArray below meth c H locs 0 0 (MQ below (poPi rr) ([.ref h0, .int p1] : List Value).toArray s 0 0 noA) (F0 m 4 ls []) := by
    intro n k
    induction n with
    | zero =>
      intro v_1 v_2 H locs ls hP hS hl hf hk
      rw [f_L_watched_8_L4] at hf
      cases hf
    | succ n ih =>
      intro v_1 v_2 H locs ls hP hS hl hf hk
      rw [f_L_watched_8_L4] at hf
      refine lv_iload_n hx hb dL_watched_4 rfl (lv_at hl 0 rfl) ?_
      refine lv_aload_n hx hb dL_watched_5 rfl (lv_at hl 2 rfl) ?_
      obtain ⟨r_3, hc3, hf⟩ := sf_c1e hf
      refine k_Pi (run_YV (As := []) (rest := [.int v_1]) ⟨hx, hb, hml, hown, ha⟩ (c_X11_bookingCount l D dA cA h0 h1 h2 h6 h9 h10 h11 h12 h13 h14 h17 h21 h41 h43 h46 h49   on ot op os bc xi xe xf  _ hc3) (gi_V m_744 m_745 m_746 m_31 m_747) yd_X11_bookingCount ⟨Nat.le_of_ble_eq_true rfl, Nat.le_of_ble_eq_true rfl⟩ ⟨rfl, rfl⟩ hK hX hS hP [0, 1, 6] rfl (va_recv hK hP (q0 := 0) rfl rfl) rfl hl.1 rfl (Nat.le_of_ble_eq_true rfl) dL_watched_6 ⟨Nat.le_of_ble_eq_true rfl, Nat.le_of_ble_eq_true rfl⟩) hP hS (fun H locs hP hS => ?_)
      refine lv_icmp_ge (tgt := 133) hx hb dL_watched_9 (by decide) (fun hc => ?_) (fun hc => ?_)
      · have hf := sf_bp hf hc
        exact hk _ _ _ _ (hP.sub [0, 1, 2, 3, 4, 5, 6, 7, 8, 9, 10] rfl) hS (lv_sub hl [1] rfl) hf
      · have hf := sf_bn hf hc
        refine lv_aload_n hx hb dL_watched_12 rfl (lv_at hl 2 rfl) ?_
        refine lv_iload_n hx hb dL_watched_13 rfl (lv_at hl 0 rfl) ?_
        obtain ⟨r_4, hc4, hf⟩ := sf_c1e hf
        refine k_Pi (run_YV (As := [.int v_1]) (rest := []) ⟨hx, hb, hml, hown, ha⟩ (c_X11_start l D dA cA h0 h1 h2 h6 h9 h10 h11 h12 h13 h14 h17 h21 h41 h43 h46 h49   on ot op os bc bg bs bt be xi xe xf v_1 _ hc4) (gi_V m_765 m_766 m_767 m_31 m_768) yd_X11_start ⟨Nat.le_of_ble_eq_true rfl, Nat.le_of_ble_eq_true rfl⟩ ⟨rfl, rfl⟩ hK hX hS hP [0, 1, 6, 7, 8, 9, 10] rfl (va_recv hK hP (q0 := 0) rfl rfl) rfl hl.1 rfl (Nat.le_of_ble_eq_true rfl) dL_watched_14 ⟨Nat.le_of_ble_eq_true rfl, Nat.le_of_ble_eq_true rfl⟩) hP hS (fun H locs hP hS => ?_)
        refine lv_iload_n hx hb dL_watched_17 rfl (lv_at hl 3 rfl) ?_
        refine sf_jo (J := fun (k_6 : Int32 → Option Int32) => ∀ (v_5 : Int32) (H : Heap) (locs : List Loc) (ls : Array Slot), va_P D cls [(h0, .inr (9, [.ref h1, .ref h21, .int xi, .ref h41, .ref h43, .ref h46, .ref h49, .int xe, .int xf])), (h1, .inr (6, [.int on, .int ot, .int op, .int os, .ref h2, .ref h6, .ref h9, .ref h14, .ref h17])), (h2, .inr (8, [.int sc, .ref h3, .ref h4, .ref h5])), (h3, .inl (dA 0, 4, .inl sd)), (h4, .inl (dA 0, 4, .inl sp)), (h5, .inl (dA 0, 4, .inl sw)), (h9, .inr (0, [.int bc, .ref h10, .ref h11, .ref h12, .ref h13])), (h10, .inl (dA 0, 12, .inl bg)), (h11, .inl (dA 0, 12, .inl bs)), (h12, .inl (dA 0, 12, .inl bt)), (h13, .inl (dA 0, 12, .inl be))] H → va_S noA s.heap H locs → lv_has ls 6 [(3, .int v_1), (2, .int v_2), (0, .ref h0), (1, .int p1)] → k_6 v_5 = some rr → W p l e ({ frames := 12, cells := 0, slots := 0, locals := 284 } : Room) s m ([.ref h0, .int p1] : List Value).toArray below meth c H locs 0 0 (MQ below (poPi rr) ([.ref h0, .int p1] : List Value).toArray s 0 0 noA) (F0 m 26 ls [.int v_5])) hf (fun v_5 H locs ls hP hS hl hf => ?_) (fun k_6 hJ6 hf => ?_)
        · skip
          refine lv_istore (lv' := [(4, .int v_5), (3, .int v_1), (2, .int v_2), (0, .ref h0), (1, .int p1)]) hx hb dL_watched_26 hl (by decide) rfl (fun ls hl => ?_)
          refine lv_iconst (v := 0) hx hb dL_watched_28 (by decide) ?_
          refine lv_istore (lv' := [(5, .int (0 : Int32)), (4, .int v_5), (3, .int v_1), (2, .int v_2), (0, .ref h0), (1, .int p1)]) hx hb dL_watched_29 hl (by decide) rfl (fun ls hl => ?_)
          have hL31_18 : ∀ (n : Nat) (k : Int32 → Option Int32) (v_7 : Int32) (v_8 : Int32) (H : Heap) (locs : List Loc) (ls : Array Slot), va_P D cls [(h0, .inr (9, [.ref h1, .ref h21, .int xi, .ref h41, .ref h43, .ref h46, .ref h49, .int xe, .int xf])), (h1, .inr (6, [.int on, .int ot, .int op, .int os, .ref h2, .ref h6, .ref h9, .ref h14, .ref h17])), (h2, .inr (8, [.int sc, .ref h3, .ref h4, .ref h5])), (h3, .inl (dA 0, 4, .inl sd)), (h4, .inl (dA 0, 4, .inl sp)), (h5, .inl (dA 0, 4, .inl sw)), (h9, .inr (0, [.int bc, .ref h10, .ref h11, .ref h12, .ref h13])), (h10, .inl (dA 0, 12, .inl bg)), (h11, .inl (dA 0, 12, .inl bs)), (h12, .inl (dA 0, 12, .inl bt)), (h13, .inl (dA 0, 12, .inl be))] H → va_S noA s.heap H locs → lv_has ls 6 [(5, .int v_7), (4, .int v_8), (3, .int v_1), (2, .int v_2), (0, .ref h0), (1, .int p1)] → f_L_watched_8_L31 sc sd bc bs bt p1 v_1 k n v_7 v_8 = some rr → (∀ (y_18 : Int32) (H : Heap) (locs : List Loc) (ls : Array Slot), va_P D cls [(h0, .inr (9, [.ref h1, .ref h21, .int xi, .ref h41, .ref h43, .ref h46, .ref h49, .int xe, .int xf])), (h1, .inr (6, [.int on, .int ot, .int op, .int os, .ref h2, .ref h6, .ref h9, .ref h14, .ref h17])), (h2, .inr (8, [.int sc, .ref h3, .ref h4, .ref h5])), (h3, .inl (dA 0, 4, .inl sd)), (h4, .inl (dA 0, 4, .inl sp)), (h5, .inl (dA 0, 4, .inl sw)), (h9, .inr (0, [.int bc, .ref h10, .ref h11, .ref h12, .ref h13])), (h10, .inl (dA 0, 12, .inl bg)), (h11, .inl (dA 0, 12, .inl bs)), (h12, .inl (dA 0, 12, .inl bt)), (h13, .inl (dA 0, 12, .inl be))] H → va_S noA s.heap H locs → lv_has ls 6 [(4, .int y_18), (3, .int v_1), (2, .int v_2), (0, .ref h0), (1, .int p1)] → k y_18 = some rr → W p l e ({ frames := 12, cells := 0, slots := 0, locals := 284 } : Room) s m ([.ref h0, .int p1] : List Value).toArray below meth c H locs 0 0 (MQ below (poPi rr) ([.ref h0, .int p1] : List Value).toArray s 0 0 noA) (F0 m 102 ls [])) → W p l e ({ frames := 12, cells := 0, slots := 0, locals := 284 } : Room) s m ([.ref h0, .int p1] : List Value).toArray below meth c H locs 0 0 (MQ below (poPi rr) ([.ref h0, .int p1] : List Value).toArray s 0 0 noA) (F0 m 31 ls []) := by
            intro n k
            induction n with
            | zero =>
              intro v_7 v_8 H locs ls hP hS hl hf hk
              rw [f_L_watched_8_L31] at hf
              cases hf
            | succ n ih =>
              intro v_7 v_8 H locs ls hP hS hl hf hk
              rw [f_L_watched_8_L31] at hf
              refine lv_iload hx hb dL_watched_31 (lv_at hl 0 rfl) ?_
              refine lv_aload_n hx hb dL_watched_33 rfl (lv_at hl 4 rfl) ?_
              obtain ⟨r_9, hc9, hf⟩ := sf_c1e hf
              refine k_Pi (run_YV (As := []) (rest := [.int v_7]) ⟨hx, hb, hml, hown, ha⟩ (c_X11_bookingCount l D dA cA h0 h1 h2 h6 h9 h10 h11 h12 h13 h14 h17 h21 h41 h43 h46 h49   on ot op os bc xi xe xf  _ hc9) (gi_V m_744 m_745 m_746 m_31 m_747) yd_X11_bookingCount ⟨Nat.le_of_ble_eq_true rfl, Nat.le_of_ble_eq_true rfl⟩ ⟨rfl, rfl⟩ hK hX hS hP [0, 1, 6] rfl (va_recv hK hP (q0 := 0) rfl rfl) rfl hl.1 rfl (Nat.le_of_ble_eq_true rfl) dL_watched_34 ⟨Nat.le_of_ble_eq_true rfl, Nat.le_of_ble_eq_true rfl⟩) hP hS (fun H locs hP hS => ?_)
              refine lv_icmp_ge (tgt := 102) hx hb dL_watched_37 (by decide) (fun hc => ?_) (fun hc => ?_)
              · have hf := sf_bp hf hc
                exact hk _ _ _ _ (hP.sub [0, 1, 2, 3, 4, 5, 6, 7, 8, 9, 10] rfl) hS (lv_sub hl [1, 2, 3, 4, 5] rfl) hf
              · have hf := sf_bn hf hc
                refine lv_iload hx hb dL_watched_40 (lv_at hl 1 rfl) ?_
                refine lv_if_eq (tgt := 102) hx hb dL_watched_42 (by decide) (fun hc => ?_) (fun hc => ?_)
                · have hf := sf_bp hf hc
                  exact hk _ _ _ _ (hP.sub [0, 1, 2, 3, 4, 5, 6, 7, 8, 9, 10] rfl) hS (lv_sub hl [1, 2, 3, 4, 5] rfl) hf
                · have hf := sf_bn hf hc
                  refine lv_aload_n hx hb dL_watched_45 rfl (lv_at hl 4 rfl) ?_
                  refine lv_iload hx hb dL_watched_46 (lv_at hl 0 rfl) ?_
                  obtain ⟨r_10, hc10, hf⟩ := sf_c1e hf
                  refine k_Pi (run_YV (As := [.int v_7]) (rest := []) ⟨hx, hb, hml, hown, ha⟩ (c_X11_start l D dA cA h0 h1 h2 h6 h9 h10 h11 h12 h13 h14 h17 h21 h41 h43 h46 h49   on ot op os bc bg bs bt be xi xe xf v_7 _ hc10) (gi_V m_765 m_766 m_767 m_31 m_768) yd_X11_start ⟨Nat.le_of_ble_eq_true rfl, Nat.le_of_ble_eq_true rfl⟩ ⟨rfl, rfl⟩ hK hX hS hP [0, 1, 6, 7, 8, 9, 10] rfl (va_recv hK hP (q0 := 0) rfl rfl) rfl hl.1 rfl (Nat.le_of_ble_eq_true rfl) dL_watched_48 ⟨Nat.le_of_ble_eq_true rfl, Nat.le_of_ble_eq_true rfl⟩) hP hS (fun H locs hP hS => ?_)
                  refine lv_iload_n hx hb dL_watched_51 rfl (lv_at hl 5 rfl) ?_
                  refine sf_jo (J := fun (k_12 : Int32 → Option Int32) => ∀ (v_11 : Int32) (H : Heap) (locs : List Loc) (ls : Array Slot), va_P D cls [(h0, .inr (9, [.ref h1, .ref h21, .int xi, .ref h41, .ref h43, .ref h46, .ref h49, .int xe, .int xf])), (h1, .inr (6, [.int on, .int ot, .int op, .int os, .ref h2, .ref h6, .ref h9, .ref h14, .ref h17])), (h2, .inr (8, [.int sc, .ref h3, .ref h4, .ref h5])), (h3, .inl (dA 0, 4, .inl sd)), (h4, .inl (dA 0, 4, .inl sp)), (h5, .inl (dA 0, 4, .inl sw)), (h9, .inr (0, [.int bc, .ref h10, .ref h11, .ref h12, .ref h13])), (h10, .inl (dA 0, 12, .inl bg)), (h11, .inl (dA 0, 12, .inl bs)), (h12, .inl (dA 0, 12, .inl bt)), (h13, .inl (dA 0, 12, .inl be))] H → va_S noA s.heap H locs → lv_has ls 6 [(5, .int v_7), (3, .int v_1), (2, .int v_2), (0, .ref h0), (1, .int p1)] → k_12 v_11 = some rr → W p l e ({ frames := 12, cells := 0, slots := 0, locals := 284 } : Room) s m ([.ref h0, .int p1] : List Value).toArray below meth c H locs 0 0 (MQ below (poPi rr) ([.ref h0, .int p1] : List Value).toArray s 0 0 noA) (F0 m 94 ls [.int v_11])) hf (fun v_11 H locs ls hP hS hl hf => ?_) (fun k_12 hJ12 hf => ?_)
                  · skip
                    refine lv_istore (lv' := [(4, .int v_11), (5, .int v_7), (3, .int v_1), (2, .int v_2), (0, .ref h0), (1, .int p1)]) hx hb dL_watched_94 hl (by decide) rfl (fun ls hl => ?_)
                    obtain ⟨x_13, ex_13, hf⟩ := sf_ne hf
                    refine ii_nc (lv' := [(5, .int x_13), (4, .int v_11), (3, .int v_1), (2, .int v_2), (0, .ref h0), (1, .int p1)]) (k := 1) hx hb dL_watched_96 hl rfl ex_13 (by decide) (by decide) rfl (fun ls hl => ?_)
                    refine lv_goto (tgt := 31) hx hb dL_watched_99 (by decide) ?_
                    exact ih _ _ _ _ _ (hP.sub [0, 1, 2, 3, 4, 5, 6, 7, 8, 9, 10] rfl) hS (lv_sub hl [0, 1, 2, 3, 4, 5] rfl) hf hk
                  refine lv_icmp_lt (tgt := 89) hx hb dL_watched_52 (by decide) (fun hc => ?_) (fun hc => ?_)
                  · have hf := sf_bp hf hc
                    refine lv_iconst (v := 1) hx hb dL_watched_89 (by decide) ?_
                    refine lv_goto (tgt := 94) hx hb dL_watched_90 (by decide) ?_
                    exact hJ12 _ _ _ _ (hP.sub [0, 1, 2, 3, 4, 5, 6, 7, 8, 9, 10] rfl) hS (lv_sub hl [0, 2, 3, 4, 5] rfl) hf
                  · have hf := sf_bn hf hc
                    refine lv_aload_n hx hb dL_watched_55 rfl (lv_at hl 4 rfl) ?_
                    refine lv_iload hx hb dL_watched_56 (lv_at hl 0 rfl) ?_
                    obtain ⟨r_14, hc14, hf⟩ := sf_c1e hf
                    refine k_Pi (run_YS (As := [.ref h0, .int v_7]) (rest := []) ⟨hx, hb, hml, hown, ha⟩ (c_L_endOf l D dA cA h0 h1 h2 h3 h4 h5 h6 h9 h10 h11 h12 h13 h14 h17 h21 h41 h43 h46 h49   on ot op os sc sd sp sw bc bg bs bt be xi xe xf v_7 _ hc14) (gi_S2 m_769 m_770 m_30 m_771) (yd_L_endOf).2 ⟨Nat.le_of_ble_eq_true rfl, Nat.le_of_ble_eq_true rfl⟩ ⟨rfl, rfl⟩ hK hX hS hP [0, 1, 2, 3, 4, 5, 6, 7, 8, 9, 10] rfl rfl hl.1 rfl (Nat.le_of_ble_eq_true rfl) dL_watched_58 ⟨Nat.le_of_ble_eq_true rfl, Nat.le_of_ble_eq_true rfl⟩) hP hS (fun H locs hP hS => ?_)
                    refine lv_aload_n hx hb dL_watched_61 rfl (lv_at hl 4 rfl) ?_
                    refine lv_iload_n hx hb dL_watched_62 rfl (lv_at hl 2 rfl) ?_
                    obtain ⟨r_15, hc15, hf⟩ := sf_c1e hf
                    refine k_Pi (run_YS (As := [.ref h0, .int v_1]) (rest := [.int r_14]) ⟨hx, hb, hml, hown, ha⟩ (c_L_endOf l D dA cA h0 h1 h2 h3 h4 h5 h6 h9 h10 h11 h12 h13 h14 h17 h21 h41 h43 h46 h49   on ot op os sc sd sp sw bc bg bs bt be xi xe xf v_1 _ hc15) (gi_S2 m_769 m_770 m_30 m_771) (yd_L_endOf).2 ⟨Nat.le_of_ble_eq_true rfl, Nat.le_of_ble_eq_true rfl⟩ ⟨rfl, rfl⟩ hK hX hS hP [0, 1, 2, 3, 4, 5, 6, 7, 8, 9, 10] rfl rfl hl.1 rfl (Nat.le_of_ble_eq_true rfl) dL_watched_63 ⟨Nat.le_of_ble_eq_true rfl, Nat.le_of_ble_eq_true rfl⟩) hP hS (fun H locs hP hS => ?_)
                    refine lv_icmp_gt (tgt := 89) hx hb dL_watched_66 (by decide) (fun hc => ?_) (fun hc => ?_)
                    · have hf := sf_bp hf hc
                      refine lv_iconst (v := 1) hx hb dL_watched_89 (by decide) ?_
                      refine lv_goto (tgt := 94) hx hb dL_watched_90 (by decide) ?_
                      exact hJ12 _ _ _ _ (hP.sub [0, 1, 2, 3, 4, 5, 6, 7, 8, 9, 10] rfl) hS (lv_sub hl [0, 2, 3, 4, 5] rfl) hf
                    · have hf := sf_bn hf hc
                      refine lv_aload_n hx hb dL_watched_69 rfl (lv_at hl 4 rfl) ?_
                      refine lv_iload hx hb dL_watched_70 (lv_at hl 0 rfl) ?_
                      obtain ⟨r_16, hc16, hf⟩ := sf_c1e hf
                      refine k_Pi (run_YS (As := [.ref h0, .int v_7]) (rest := []) ⟨hx, hb, hml, hown, ha⟩ (c_L_endOf l D dA cA h0 h1 h2 h3 h4 h5 h6 h9 h10 h11 h12 h13 h14 h17 h21 h41 h43 h46 h49   on ot op os sc sd sp sw bc bg bs bt be xi xe xf v_7 _ hc16) (gi_S2 m_769 m_770 m_30 m_771) (yd_L_endOf).2 ⟨Nat.le_of_ble_eq_true rfl, Nat.le_of_ble_eq_true rfl⟩ ⟨rfl, rfl⟩ hK hX hS hP [0, 1, 2, 3, 4, 5, 6, 7, 8, 9, 10] rfl rfl hl.1 rfl (Nat.le_of_ble_eq_true rfl) dL_watched_72 ⟨Nat.le_of_ble_eq_true rfl, Nat.le_of_ble_eq_true rfl⟩) hP hS (fun H locs hP hS => ?_)
                      refine lv_aload_n hx hb dL_watched_75 rfl (lv_at hl 4 rfl) ?_
                      refine lv_iload_n hx hb dL_watched_76 rfl (lv_at hl 2 rfl) ?_
                      obtain ⟨r_17, hc17, hf⟩ := sf_c1e hf
                      refine k_Pi (run_YS (As := [.ref h0, .int v_1]) (rest := [.int r_16]) ⟨hx, hb, hml, hown, ha⟩ (c_L_endOf l D dA cA h0 h1 h2 h3 h4 h5 h6 h9 h10 h11 h12 h13 h14 h17 h21 h41 h43 h46 h49   on ot op os sc sd sp sw bc bg bs bt be xi xe xf v_1 _ hc17) (gi_S2 m_769 m_770 m_30 m_771) (yd_L_endOf).2 ⟨Nat.le_of_ble_eq_true rfl, Nat.le_of_ble_eq_true rfl⟩ ⟨rfl, rfl⟩ hK hX hS hP [0, 1, 2, 3, 4, 5, 6, 7, 8, 9, 10] rfl rfl hl.1 rfl (Nat.le_of_ble_eq_true rfl) dL_watched_77 ⟨Nat.le_of_ble_eq_true rfl, Nat.le_of_ble_eq_true rfl⟩) hP hS (fun H locs hP hS => ?_)
                      refine lv_icmp_ne (tgt := 93) hx hb dL_watched_80 (by decide) (fun hc => ?_) (fun hc => ?_)
                      · have hf := sf_bn hf hc
                        refine lv_iconst (v := 0) hx hb dL_watched_93 (by decide) ?_
                        exact hJ12 _ _ _ _ (hP.sub [0, 1, 2, 3, 4, 5, 6, 7, 8, 9, 10] rfl) hS (lv_sub hl [0, 2, 3, 4, 5] rfl) hf
                      · have hf := sf_bp hf hc
                        refine lv_iload hx hb dL_watched_83 (lv_at hl 0 rfl) ?_
                        refine lv_iload_n hx hb dL_watched_85 rfl (lv_at hl 2 rfl) ?_
                        refine lv_icmp_lt (tgt := 93) hx hb dL_watched_86 (by decide) (fun hc => ?_) (fun hc => ?_)
                        · have hf := sf_bp hf hc
                          refine lv_iconst (v := 0) hx hb dL_watched_93 (by decide) ?_
                          exact hJ12 _ _ _ _ (hP.sub [0, 1, 2, 3, 4, 5, 6, 7, 8, 9, 10] rfl) hS (lv_sub hl [0, 2, 3, 4, 5] rfl) hf
                        · have hf := sf_bn hf hc
                          refine lv_iconst (v := 1) hx hb dL_watched_89 (by decide) ?_
                          refine lv_goto (tgt := 94) hx hb dL_watched_90 (by decide) ?_
                          exact hJ12 _ _ _ _ (hP.sub [0, 1, 2, 3, 4, 5, 6, 7, 8, 9, 10] rfl) hS (lv_sub hl [0, 2, 3, 4, 5] rfl) hf
          refine hL31_18 2000 _ _ _ _ _ _ hP hS (lv_sub hl [0, 1, 2, 3, 4, 5] rfl) hf (fun y_18 H locs ls hP hS hl hf => ?_)
          refine lv_iload hx hb dL_watched_102 (lv_at hl 0 rfl) ?_
          refine sf_jo (J := fun (k_20 : Int32 → Option Int32) => ∀ (v_19 : Int32) (H : Heap) (locs : List Loc) (ls : Array Slot), va_P D cls [(h0, .inr (9, [.ref h1, .ref h21, .int xi, .ref h41, .ref h43, .ref h46, .ref h49, .int xe, .int xf])), (h1, .inr (6, [.int on, .int ot, .int op, .int os, .ref h2, .ref h6, .ref h9, .ref h14, .ref h17])), (h2, .inr (8, [.int sc, .ref h3, .ref h4, .ref h5])), (h3, .inl (dA 0, 4, .inl sd)), (h4, .inl (dA 0, 4, .inl sp)), (h5, .inl (dA 0, 4, .inl sw)), (h9, .inr (0, [.int bc, .ref h10, .ref h11, .ref h12, .ref h13])), (h10, .inl (dA 0, 12, .inl bg)), (h11, .inl (dA 0, 12, .inl bs)), (h12, .inl (dA 0, 12, .inl bt)), (h13, .inl (dA 0, 12, .inl be))] H → va_S noA s.heap H locs → lv_has ls 6 [(3, .int v_1), (0, .ref h0), (1, .int p1)] → k_20 v_19 = some rr → W p l e ({ frames := 12, cells := 0, slots := 0, locals := 284 } : Room) s m ([.ref h0, .int p1] : List Value).toArray below meth c H locs 0 0 (MQ below (poPi rr) ([.ref h0, .int p1] : List Value).toArray s 0 0 noA) (F0 m 126 ls [.int v_19])) hf (fun v_19 H locs ls hP hS hl hf => ?_) (fun k_20 hJ20 hf => ?_)
          · skip
            refine lv_istore_n (lv' := [(2, .int v_19), (3, .int v_1), (0, .ref h0), (1, .int p1)]) hx hb dL_watched_126 rfl hl (by decide) rfl (fun ls hl => ?_)
            obtain ⟨x_21, ex_21, hf⟩ := sf_ne hf
            refine ii_nc (lv' := [(3, .int x_21), (2, .int v_19), (0, .ref h0), (1, .int p1)]) (k := 1) hx hb dL_watched_127 hl rfl ex_21 (by decide) (by decide) rfl (fun ls hl => ?_)
            refine lv_goto (tgt := 4) hx hb dL_watched_130 (by decide) ?_
            exact ih _ _ _ _ _ (hP.sub [0, 1, 2, 3, 4, 5, 6, 7, 8, 9, 10] rfl) hS (lv_sub hl [0, 1, 2, 3] rfl) hf hk
          refine lv_if_eq (tgt := 125) hx hb dL_watched_104 (by decide) (fun hc => ?_) (fun hc => ?_)
          · have hf := sf_bp hf hc
            refine lv_iload_n hx hb dL_watched_125 rfl (lv_at hl 2 rfl) ?_
            exact hJ20 _ _ _ _ (hP.sub [0, 1, 2, 3, 4, 5, 6, 7, 8, 9, 10] rfl) hS (lv_sub hl [1, 3, 4] rfl) hf
          · have hf := sf_bn hf hc
            refine lv_iload_n hx hb dL_watched_107 rfl (lv_at hl 2 rfl) ?_
            refine lv_iconst (v := 1) hx hb dL_watched_108 (by decide) ?_
            refine lv_aload_n hx hb dL_watched_109 rfl (lv_at hl 3 rfl) ?_
            refine lv_aload_n hx hb dL_watched_110 rfl (lv_at hl 3 rfl) ?_
            refine lv_iload_n hx hb dL_watched_111 rfl (lv_at hl 1 rfl) ?_
            obtain ⟨r_22, hc22, hf⟩ := sf_c1e hf
            refine k_Pi (run_YS (As := [.ref h0, .int v_1]) (rest := [.ref h0, .int (1 : Int32), .int v_2]) ⟨hx, hb, hml, hown, ha⟩ (c_L_endOf l D dA cA h0 h1 h2 h3 h4 h5 h6 h9 h10 h11 h12 h13 h14 h17 h21 h41 h43 h46 h49   on ot op os sc sd sp sw bc bg bs bt be xi xe xf v_1 _ hc22) (gi_S2 m_769 m_770 m_30 m_771) (yd_L_endOf).2 ⟨Nat.le_of_ble_eq_true rfl, Nat.le_of_ble_eq_true rfl⟩ ⟨rfl, rfl⟩ hK hX hS hP [0, 1, 2, 3, 4, 5, 6, 7, 8, 9, 10] rfl rfl hl.1 rfl (Nat.le_of_ble_eq_true rfl) dL_watched_112 ⟨Nat.le_of_ble_eq_true rfl, Nat.le_of_ble_eq_true rfl⟩) hP hS (fun H locs hP hS => ?_)
            obtain ⟨r_23, hc23, hf⟩ := sf_c1e hf
            refine k_Pi (run_YS (As := [.ref h0, .int r_22]) (rest := [.int (1 : Int32), .int v_2]) ⟨hx, hb, hml, hown, ha⟩ (c_L_watched_7 l D dA cA h0 h1 h2 h3 h4 h5 h6 h9 h10 h11 h12 h13 h14 h17 h21 h41 h43 h46 h49   on ot op os sc sd sp sw bc bg bs bt be xi xe xf r_22 _ hc23) (gi_S2 m_847 m_848 m_30 m_849) (yd_L_watched_7).2 ⟨Nat.le_of_ble_eq_true rfl, Nat.le_of_ble_eq_true rfl⟩ ⟨rfl, rfl⟩ hK hX hS hP [0, 1, 2, 3, 4, 5, 6, 7, 8, 9, 10] rfl rfl hl.1 rfl (Nat.le_of_ble_eq_true rfl) dL_watched_115 ⟨Nat.le_of_ble_eq_true rfl, Nat.le_of_ble_eq_true rfl⟩) hP hS (fun H locs hP hS => ?_)
            refine lv_iadd hx hb dL_watched_118 ?_
            refine mx_i hx hb ha hown hml hl.1 m_785 m_786 m_54 m_787 ⟨Nat.le_of_ble_eq_true rfl, Nat.le_of_ble_eq_true rfl⟩ ⟨Nat.le_of_ble_eq_true rfl, Nat.le_of_ble_eq_true rfl⟩ dL_watched_119 ?_
            refine lv_goto (tgt := 126) hx hb dL_watched_122 (by decide) ?_
            exact hJ20 _ _ _ _ (hP.sub [0, 1, 2, 3, 4, 5, 6, 7, 8, 9, 10] rfl) hS (lv_sub hl [1, 3, 4] rfl) hf
        refine lv_icmp_lt (tgt := 25) hx hb dL_watched_18 (by decide) (fun hc => ?_) (fun hc => ?_)
        · have hf := sf_bp hf hc
          refine lv_iconst (v := 0) hx hb dL_watched_25 (by decide) ?_
          exact hJ6 _ _ _ _ (hP.sub [0, 1, 2, 3, 4, 5, 6, 7, 8, 9, 10] rfl) hS (lv_sub hl [0, 1, 2, 3] rfl) hf
        · have hf := sf_bn hf hc
          refine lv_iconst (v := 1) hx hb dL_watched_21 (by decide) ?_
          refine lv_goto (tgt := 26) hx hb dL_watched_22 (by decide) ?_
          exact hJ6 _ _ _ _ (hP.sub [0, 1, 2, 3, 4, 5, 6, 7, 8, 9, 10] rfl) hS (lv_sub hl [0, 1, 2, 3] rfl) hf
  refine hL4_24 2000 _ _ _ _ _ _ hP hS (lv_sub hl [0, 1, 2, 3] rfl) hf (fun y_24 H locs ls hP hS hl hf => ?_)
  refine lv_iload_n hx hb dL_watched_133 rfl (lv_at hl 0 rfl) ?_
  exact rt_Pi hx hb hr hlocks (Option.some.inj hf) hS dL_watched_134

def f_L_watched_9_L31 (sc : Int32) (sd : Nat → Int32) (bc : Int32) (bs : Nat → Int32) (bt : Nat → Int32) (p1 : Int32) (v_1 : Int32) (k : Int32 → Option Int32) : Nat → Int32 → Int32 → Option Int32
  | 0, _, _ => none
  | n + 1, v_7, v_8 => sf_c1 (f_X11_bookingCount bc) (fun r_9 => sf_b (r_9 ≤ v_7) (k v_8) (sf_b (v_8 = (0 : Int32)) (k v_8) (sf_c1 (f_X11_start bc bt v_7) (fun r_10 => sf_j (fun (v_11 : Int32) => sf_n (v_7 + (1 : Int32)) (fun x_13 => f_L_watched_9_L31 sc sd bc bs bt p1 v_1 k n x_13 v_11)) (fun k_12 => sf_b (r_10 < p1) (k_12 (1 : Int32)) (sf_c1 (f_L_endOf sc sd bc bs bt v_7) (fun r_14 => sf_c1 (f_L_endOf sc sd bc bs bt v_1) (fun r_15 => sf_b (r_15 < r_14) (k_12 (1 : Int32)) (sf_c1 (f_L_endOf sc sd bc bs bt v_7) (fun r_16 => sf_c1 (f_L_endOf sc sd bc bs bt v_1) (fun r_17 => sf_b (r_16 = r_17) (sf_b (v_7 < v_1) (k_12 (0 : Int32)) (k_12 (1 : Int32))) (k_12 (0 : Int32)))))))))))))
def f_L_watched_9_L4 (sc : Int32) (sd : Nat → Int32) (bc : Int32) (bs : Nat → Int32) (bt : Nat → Int32) (p1 : Int32) (k : Int32 → Option Int32) : Nat → Int32 → Int32 → Option Int32
  | 0, _, _ => none
  | n + 1, v_1, v_2 => sf_c1 (f_X11_bookingCount bc) (fun r_3 => sf_b (r_3 ≤ v_1) (k v_2) (sf_c1 (f_X11_start bc bt v_1) (fun r_4 => sf_j (fun (v_5 : Int32) => f_L_watched_9_L31 sc sd bc bs bt p1 v_1 (fun y_18 => sf_j (fun (v_19 : Int32) => sf_n (v_1 + (1 : Int32)) (fun x_21 => f_L_watched_9_L4 sc sd bc bs bt p1 k n x_21 v_19)) (fun k_20 => sf_b (y_18 = (0 : Int32)) (k_20 v_2) (sf_c1 (f_L_endOf sc sd bc bs bt v_1) (fun r_22 => sf_c1 (f_L_watched_8 sc sd bc bs bt r_22) (fun r_23 => k_20 (if v_2 < ((1 : Int32) + r_23) then ((1 : Int32) + r_23) else v_2)))))) 2000 (0 : Int32) v_5) (fun k_6 => sf_b (r_4 < p1) (k_6 (0 : Int32)) (k_6 (1 : Int32))))))
def f_L_watched_9 (sc : Int32) (sd : Nat → Int32) (bc : Int32) (bs : Nat → Int32) (bt : Nat → Int32) (p1 : Int32) : Option Int32 :=
  f_L_watched_9_L4 sc sd bc bs bt p1 (fun y_24 => some y_24) 2000 (0 : Int32) (0 : Int32)
theorem yd_L_watched_9 : yL_watched.cls = RL ∧ yL_watched.cls ≠ "java/lang/invoke/MethodHandle" ∧ yL_watched.cls ≠ "java/lang/invoke/VarHandle" ∧ (parseMethodDescriptor yL_watched.desc).map (fun d => d.parameters.length) = some 2 := ⟨rfl, by decide, by decide, by decide +kernel⟩
set_option maxRecDepth 100000 in
set_option maxHeartbeats 8000000 in
theorem c_L_watched_9 (l : Launch) (D : va_G) (dA : Nat → ClassId) (cA : Nat → Nat) (h0 h1 h2 h3 h4 h5 h6 h9 h10 h11 h12 h13 h14 h17 h21 h41 h43 h46 h49 : Nat) (on : Int32) (ot : Int32) (op : Int32) (os : Int32) (sc : Int32) (sd : Nat → Int32) (sp : Nat → Int32) (sw : Nat → Int32) (bc : Int32) (bg : Nat → Int32) (bs : Nat → Int32) (bt : Nat → Int32) (be : Nat → Int32) (xi : Int32) (xe : Int32) (xf : Int32) (p1 : Int32) (rr : Int32) (hf : f_L_watched_9 sc sd bc bs bt p1 = some rr) : Met l yL_watched (wo (.code yL_watched cL_watched 6 (some .int))) ({ frames := 13, cells := 0, slots := 0, locals := 309 } : Room) (preY D dA cA [.ref h0, .int p1] [(h0, .inr (9, [.ref h1, .ref h21, .int xi, .ref h41, .ref h43, .ref h46, .ref h49, .int xe, .int xf])), (h1, .inr (6, [.int on, .int ot, .int op, .int os, .ref h2, .ref h6, .ref h9, .ref h14, .ref h17])), (h2, .inr (8, [.int sc, .ref h3, .ref h4, .ref h5])), (h3, .inl (dA 0, 4, .inl sd)), (h4, .inl (dA 0, 4, .inl sp)), (h5, .inl (dA 0, 4, .inl sw)), (h9, .inr (0, [.int bc, .ref h10, .ref h11, .ref h12, .ref h13])), (h10, .inl (dA 0, 12, .inl bg)), (h11, .inl (dA 0, 12, .inl bs)), (h12, .inl (dA 0, 12, .inl bt)), (h13, .inl (dA 0, 12, .inl be))]) (poPi rr) 0 0 noA := by
  refine of_Y (y := yL_watched) (cc := cL_watched) (maxL := 6) (ret := (some .int)) (av := [.ref h0, .int p1]) (ws := [(h0, .inr (9, [.ref h1, .ref h21, .int xi, .ref h41, .ref h43, .ref h46, .ref h49, .int xe, .int xf])), (h1, .inr (6, [.int on, .int ot, .int op, .int os, .ref h2, .ref h6, .ref h9, .ref h14, .ref h17])), (h2, .inr (8, [.int sc, .ref h3, .ref h4, .ref h5])), (h3, .inl (dA 0, 4, .inl sd)), (h4, .inl (dA 0, 4, .inl sp)), (h5, .inl (dA 0, 4, .inl sw)), (h9, .inr (0, [.int bc, .ref h10, .ref h11, .ref h12, .ref h13])), (h10, .inl (dA 0, 12, .inl bg)), (h11, .inl (dA 0, 12, .inl bs)), (h12, .inl (dA 0, 12, .inl bt)), (h13, .inl (dA 0, 12, .inl be))]) (own := RL) (by decide) rfl (Nat.le_of_ble_eq_true rfl) ?_
  intro p e s m below meth c hx hb hr ha hown hml hlocks hP hK hX hS ls hl
  have hC := hX.1
  have hl : lv_has ls 6 [(0, .ref h0), (1, .int p1)] := hl
  rw [f_L_watched_9] at hf
  refine lv_iconst (v := 0) hx hb dL_watched_0 (by decide) ?_
  refine lv_istore_n (lv' := [(2, .int (0 : Int32)), (0, .ref h0), (1, .int p1)]) hx hb dL_watched_1 rfl hl (by decide) rfl (fun ls hl => ?_)
  refine lv_iconst (v := 0) hx hb dL_watched_2 (by decide) ?_
  refine lv_istore_n (lv' := [(3, .int (0 : Int32)), (2, .int (0 : Int32)), (0, .ref h0), (1, .int p1)]) hx hb dL_watched_3 rfl hl (by decide) rfl (fun ls hl => ?_)
  have hL4_24 : ∀ (n : Nat) (k : Int32 → Option Int32) (v_1 : Int32) (v_2 : Int32) (H : Heap) (locs : List Loc) (ls : Array Slot), va_P D cls [(h0, .inr (9, [.ref h1, .ref h21, .int xi, .ref h41, .ref h43, .ref h46, .ref h49, .int xe, .int xf])), (h1, .inr (6, [.int on, .int ot, .int op, .int os, .ref h2, .ref h6, .ref h9, .ref h14, .ref h17])), (h2, .inr (8, [.int sc, .ref h3, .ref h4, .ref h5])), (h3, .inl (dA 0, 4, .inl sd)), (h4, .inl (dA 0, 4, .inl sp)), (h5, .inl (dA 0, 4, .inl sw)), (h9, .inr (0, [.int bc, .ref h10, .ref h11, .ref h12, .ref h13])), (h10, .inl (dA 0, 12, .inl bg)), (h11, .inl (dA 0, 12, .inl bs)), (h12, .inl (dA 0, 12, .inl bt)), (h13, .inl (dA 0, 12, .inl be))] H → va_S noA s.heap H locs → lv_has ls 6 [(3, .int v_1), (2, .int v_2), (0, .ref h0), (1, .int p1)] → f_L_watched_9_L4 sc sd bc bs bt p1 k n v_1 v_2 = some rr → (∀ (y_24 : Int32) (H : Heap) (locs : List Loc) (ls : Array Slot), va_P D cls [(h0, .inr (9, [.ref h1, .ref h21, .int xi, .ref h41, .ref h43, .ref h46, .ref h49, .int xe, .int xf])), (h1, .inr (6, [.int on, .int ot, .int op, .int os, .ref h2, .ref h6, .ref h9, .ref h14, .ref h17])), (h2, .inr (8, [.int sc, .ref h3, .ref h4, .ref h5])), (h3, .inl (dA 0, 4, .inl sd)), (h4, .inl (dA 0, 4, .inl sp)), (h5, .inl (dA 0, 4, .inl sw)), (h9, .inr (0, [.int bc, .ref h10, .ref h11, .ref h12, .ref h13])), (h10, .inl (dA 0, 12, .inl bg)), (h11, .inl (dA 0, 12, .inl bs)), (h12, .inl (dA 0, 12, .inl bt)), (h13, .inl (dA 0, 12, .inl be))] H → va_S noA s.heap H locs → lv_has ls 6 [(2, .int y_24)] → k y_24 = some rr → W p l e ({ frames := 13, cells := 0, slots := 0, locals := 309 } : Room) s m ([.ref h0, .int p1] : List Value).toArray below meth c H locs 0 0 (MQ below (poPi rr) ([.ref h0, .int p1] : List Value).toArray s 0 0 noA) (F0 m 133 ls [])) → W p l e ({ frames := 13, cells := 0, slots := 0, locals := 309 } : Room) s m ([.ref h0, .int p1] : List Value).toArray below meth c H locs 0 0 (MQ below (poPi rr) ([.ref h0, .int p1] : List Value).toArray s 0 0 noA) (F0 m 4 ls []) := by
    intro n k
    induction n with
    | zero =>
      intro v_1 v_2 H locs ls hP hS hl hf hk
      rw [f_L_watched_9_L4] at hf
      cases hf
    | succ n ih =>
      intro v_1 v_2 H locs ls hP hS hl hf hk
      rw [f_L_watched_9_L4] at hf
      refine lv_iload_n hx hb dL_watched_4 rfl (lv_at hl 0 rfl) ?_
      refine lv_aload_n hx hb dL_watched_5 rfl (lv_at hl 2 rfl) ?_
      obtain ⟨r_3, hc3, hf⟩ := sf_c1e hf
      refine k_Pi (run_YV (As := []) (rest := [.int v_1]) ⟨hx, hb, hml, hown, ha⟩ (c_X11_bookingCount l D dA cA h0 h1 h2 h6 h9 h10 h11 h12 h13 h14 h17 h21 h41 h43 h46 h49   on ot op os bc xi xe xf  _ hc3) (gi_V m_744 m_745 m_746 m_31 m_747) yd_X11_bookingCount ⟨Nat.le_of_ble_eq_true rfl, Nat.le_of_ble_eq_true rfl⟩ ⟨rfl, rfl⟩ hK hX hS hP [0, 1, 6] rfl (va_recv hK hP (q0 := 0) rfl rfl) rfl hl.1 rfl (Nat.le_of_ble_eq_true rfl) dL_watched_6 ⟨Nat.le_of_ble_eq_true rfl, Nat.le_of_ble_eq_true rfl⟩) hP hS (fun H locs hP hS => ?_)
      refine lv_icmp_ge (tgt := 133) hx hb dL_watched_9 (by decide) (fun hc => ?_) (fun hc => ?_)
      · have hf := sf_bp hf hc
        exact hk _ _ _ _ (hP.sub [0, 1, 2, 3, 4, 5, 6, 7, 8, 9, 10] rfl) hS (lv_sub hl [1] rfl) hf
      · have hf := sf_bn hf hc
        refine lv_aload_n hx hb dL_watched_12 rfl (lv_at hl 2 rfl) ?_
        refine lv_iload_n hx hb dL_watched_13 rfl (lv_at hl 0 rfl) ?_
        obtain ⟨r_4, hc4, hf⟩ := sf_c1e hf
        refine k_Pi (run_YV (As := [.int v_1]) (rest := []) ⟨hx, hb, hml, hown, ha⟩ (c_X11_start l D dA cA h0 h1 h2 h6 h9 h10 h11 h12 h13 h14 h17 h21 h41 h43 h46 h49   on ot op os bc bg bs bt be xi xe xf v_1 _ hc4) (gi_V m_765 m_766 m_767 m_31 m_768) yd_X11_start ⟨Nat.le_of_ble_eq_true rfl, Nat.le_of_ble_eq_true rfl⟩ ⟨rfl, rfl⟩ hK hX hS hP [0, 1, 6, 7, 8, 9, 10] rfl (va_recv hK hP (q0 := 0) rfl rfl) rfl hl.1 rfl (Nat.le_of_ble_eq_true rfl) dL_watched_14 ⟨Nat.le_of_ble_eq_true rfl, Nat.le_of_ble_eq_true rfl⟩) hP hS (fun H locs hP hS => ?_)
        refine lv_iload_n hx hb dL_watched_17 rfl (lv_at hl 3 rfl) ?_
        refine sf_jo (J := fun (k_6 : Int32 → Option Int32) => ∀ (v_5 : Int32) (H : Heap) (locs : List Loc) (ls : Array Slot), va_P D cls [(h0, .inr (9, [.ref h1, .ref h21, .int xi, .ref h41, .ref h43, .ref h46, .ref h49, .int xe, .int xf])), (h1, .inr (6, [.int on, .int ot, .int op, .int os, .ref h2, .ref h6, .ref h9, .ref h14, .ref h17])), (h2, .inr (8, [.int sc, .ref h3, .ref h4, .ref h5])), (h3, .inl (dA 0, 4, .inl sd)), (h4, .inl (dA 0, 4, .inl sp)), (h5, .inl (dA 0, 4, .inl sw)), (h9, .inr (0, [.int bc, .ref h10, .ref h11, .ref h12, .ref h13])), (h10, .inl (dA 0, 12, .inl bg)), (h11, .inl (dA 0, 12, .inl bs)), (h12, .inl (dA 0, 12, .inl bt)), (h13, .inl (dA 0, 12, .inl be))] H → va_S noA s.heap H locs → lv_has ls 6 [(3, .int v_1), (2, .int v_2), (0, .ref h0), (1, .int p1)] → k_6 v_5 = some rr → W p l e ({ frames := 13, cells := 0, slots := 0, locals := 309 } : Room) s m ([.ref h0, .int p1] : List Value).toArray below meth c H locs 0 0 (MQ below (poPi rr) ([.ref h0, .int p1] : List Value).toArray s 0 0 noA) (F0 m 26 ls [.int v_5])) hf (fun v_5 H locs ls hP hS hl hf => ?_) (fun k_6 hJ6 hf => ?_)
        · skip
          refine lv_istore (lv' := [(4, .int v_5), (3, .int v_1), (2, .int v_2), (0, .ref h0), (1, .int p1)]) hx hb dL_watched_26 hl (by decide) rfl (fun ls hl => ?_)
          refine lv_iconst (v := 0) hx hb dL_watched_28 (by decide) ?_
          refine lv_istore (lv' := [(5, .int (0 : Int32)), (4, .int v_5), (3, .int v_1), (2, .int v_2), (0, .ref h0), (1, .int p1)]) hx hb dL_watched_29 hl (by decide) rfl (fun ls hl => ?_)
          have hL31_18 : ∀ (n : Nat) (k : Int32 → Option Int32) (v_7 : Int32) (v_8 : Int32) (H : Heap) (locs : List Loc) (ls : Array Slot), va_P D cls [(h0, .inr (9, [.ref h1, .ref h21, .int xi, .ref h41, .ref h43, .ref h46, .ref h49, .int xe, .int xf])), (h1, .inr (6, [.int on, .int ot, .int op, .int os, .ref h2, .ref h6, .ref h9, .ref h14, .ref h17])), (h2, .inr (8, [.int sc, .ref h3, .ref h4, .ref h5])), (h3, .inl (dA 0, 4, .inl sd)), (h4, .inl (dA 0, 4, .inl sp)), (h5, .inl (dA 0, 4, .inl sw)), (h9, .inr (0, [.int bc, .ref h10, .ref h11, .ref h12, .ref h13])), (h10, .inl (dA 0, 12, .inl bg)), (h11, .inl (dA 0, 12, .inl bs)), (h12, .inl (dA 0, 12, .inl bt)), (h13, .inl (dA 0, 12, .inl be))] H → va_S noA s.heap H locs → lv_has ls 6 [(5, .int v_7), (4, .int v_8), (3, .int v_1), (2, .int v_2), (0, .ref h0), (1, .int p1)] → f_L_watched_9_L31 sc sd bc bs bt p1 v_1 k n v_7 v_8 = some rr → (∀ (y_18 : Int32) (H : Heap) (locs : List Loc) (ls : Array Slot), va_P D cls [(h0, .inr (9, [.ref h1, .ref h21, .int xi, .ref h41, .ref h43, .ref h46, .ref h49, .int xe, .int xf])), (h1, .inr (6, [.int on, .int ot, .int op, .int os, .ref h2, .ref h6, .ref h9, .ref h14, .ref h17])), (h2, .inr (8, [.int sc, .ref h3, .ref h4, .ref h5])), (h3, .inl (dA 0, 4, .inl sd)), (h4, .inl (dA 0, 4, .inl sp)), (h5, .inl (dA 0, 4, .inl sw)), (h9, .inr (0, [.int bc, .ref h10, .ref h11, .ref h12, .ref h13])), (h10, .inl (dA 0, 12, .inl bg)), (h11, .inl (dA 0, 12, .inl bs)), (h12, .inl (dA 0, 12, .inl bt)), (h13, .inl (dA 0, 12, .inl be))] H → va_S noA s.heap H locs → lv_has ls 6 [(4, .int y_18), (3, .int v_1), (2, .int v_2), (0, .ref h0), (1, .int p1)] → k y_18 = some rr → W p l e ({ frames := 13, cells := 0, slots := 0, locals := 309 } : Room) s m ([.ref h0, .int p1] : List Value).toArray below meth c H locs 0 0 (MQ below (poPi rr) ([.ref h0, .int p1] : List Value).toArray s 0 0 noA) (F0 m 102 ls [])) → W p l e ({ frames := 13, cells := 0, slots := 0, locals := 309 } : Room) s m ([.ref h0, .int p1] : List Value).toArray below meth c H locs 0 0 (MQ below (poPi rr) ([.ref h0, .int p1] : List Value).toArray s 0 0 noA) (F0 m 31 ls []) := by
            intro n k
            induction n with
            | zero =>
              intro v_7 v_8 H locs ls hP hS hl hf hk
              rw [f_L_watched_9_L31] at hf
              cases hf
            | succ n ih =>
              intro v_7 v_8 H locs ls hP hS hl hf hk
              rw [f_L_watched_9_L31] at hf
              refine lv_iload hx hb dL_watched_31 (lv_at hl 0 rfl) ?_
              refine lv_aload_n hx hb dL_watched_33 rfl (lv_at hl 4 rfl) ?_
              obtain ⟨r_9, hc9, hf⟩ := sf_c1e hf
              refine k_Pi (run_YV (As := []) (rest := [.int v_7]) ⟨hx, hb, hml, hown, ha⟩ (c_X11_bookingCount l D dA cA h0 h1 h2 h6 h9 h10 h11 h12 h13 h14 h17 h21 h41 h43 h46 h49   on ot op os bc xi xe xf  _ hc9) (gi_V m_744 m_745 m_746 m_31 m_747) yd_X11_bookingCount ⟨Nat.le_of_ble_eq_true rfl, Nat.le_of_ble_eq_true rfl⟩ ⟨rfl, rfl⟩ hK hX hS hP [0, 1, 6] rfl (va_recv hK hP (q0 := 0) rfl rfl) rfl hl.1 rfl (Nat.le_of_ble_eq_true rfl) dL_watched_34 ⟨Nat.le_of_ble_eq_true rfl, Nat.le_of_ble_eq_true rfl⟩) hP hS (fun H locs hP hS => ?_)
              refine lv_icmp_ge (tgt := 102) hx hb dL_watched_37 (by decide) (fun hc => ?_) (fun hc => ?_)
              · have hf := sf_bp hf hc
                exact hk _ _ _ _ (hP.sub [0, 1, 2, 3, 4, 5, 6, 7, 8, 9, 10] rfl) hS (lv_sub hl [1, 2, 3, 4, 5] rfl) hf
              · have hf := sf_bn hf hc
                refine lv_iload hx hb dL_watched_40 (lv_at hl 1 rfl) ?_
                refine lv_if_eq (tgt := 102) hx hb dL_watched_42 (by decide) (fun hc => ?_) (fun hc => ?_)
                · have hf := sf_bp hf hc
                  exact hk _ _ _ _ (hP.sub [0, 1, 2, 3, 4, 5, 6, 7, 8, 9, 10] rfl) hS (lv_sub hl [1, 2, 3, 4, 5] rfl) hf
                · have hf := sf_bn hf hc
                  refine lv_aload_n hx hb dL_watched_45 rfl (lv_at hl 4 rfl) ?_
                  refine lv_iload hx hb dL_watched_46 (lv_at hl 0 rfl) ?_
                  obtain ⟨r_10, hc10, hf⟩ := sf_c1e hf
                  refine k_Pi (run_YV (As := [.int v_7]) (rest := []) ⟨hx, hb, hml, hown, ha⟩ (c_X11_start l D dA cA h0 h1 h2 h6 h9 h10 h11 h12 h13 h14 h17 h21 h41 h43 h46 h49   on ot op os bc bg bs bt be xi xe xf v_7 _ hc10) (gi_V m_765 m_766 m_767 m_31 m_768) yd_X11_start ⟨Nat.le_of_ble_eq_true rfl, Nat.le_of_ble_eq_true rfl⟩ ⟨rfl, rfl⟩ hK hX hS hP [0, 1, 6, 7, 8, 9, 10] rfl (va_recv hK hP (q0 := 0) rfl rfl) rfl hl.1 rfl (Nat.le_of_ble_eq_true rfl) dL_watched_48 ⟨Nat.le_of_ble_eq_true rfl, Nat.le_of_ble_eq_true rfl⟩) hP hS (fun H locs hP hS => ?_)
                  refine lv_iload_n hx hb dL_watched_51 rfl (lv_at hl 5 rfl) ?_
                  refine sf_jo (J := fun (k_12 : Int32 → Option Int32) => ∀ (v_11 : Int32) (H : Heap) (locs : List Loc) (ls : Array Slot), va_P D cls [(h0, .inr (9, [.ref h1, .ref h21, .int xi, .ref h41, .ref h43, .ref h46, .ref h49, .int xe, .int xf])), (h1, .inr (6, [.int on, .int ot, .int op, .int os, .ref h2, .ref h6, .ref h9, .ref h14, .ref h17])), (h2, .inr (8, [.int sc, .ref h3, .ref h4, .ref h5])), (h3, .inl (dA 0, 4, .inl sd)), (h4, .inl (dA 0, 4, .inl sp)), (h5, .inl (dA 0, 4, .inl sw)), (h9, .inr (0, [.int bc, .ref h10, .ref h11, .ref h12, .ref h13])), (h10, .inl (dA 0, 12, .inl bg)), (h11, .inl (dA 0, 12, .inl bs)), (h12, .inl (dA 0, 12, .inl bt)), (h13, .inl (dA 0, 12, .inl be))] H → va_S noA s.heap H locs → lv_has ls 6 [(5, .int v_7), (3, .int v_1), (2, .int v_2), (0, .ref h0), (1, .int p1)] → k_12 v_11 = some rr → W p l e ({ frames := 13, cells := 0, slots := 0, locals := 309 } : Room) s m ([.ref h0, .int p1] : List Value).toArray below meth c H locs 0 0 (MQ below (poPi rr) ([.ref h0, .int p1] : List Value).toArray s 0 0 noA) (F0 m 94 ls [.int v_11])) hf (fun v_11 H locs ls hP hS hl hf => ?_) (fun k_12 hJ12 hf => ?_)
                  · skip
                    refine lv_istore (lv' := [(4, .int v_11), (5, .int v_7), (3, .int v_1), (2, .int v_2), (0, .ref h0), (1, .int p1)]) hx hb dL_watched_94 hl (by decide) rfl (fun ls hl => ?_)
                    obtain ⟨x_13, ex_13, hf⟩ := sf_ne hf
                    refine ii_nc (lv' := [(5, .int x_13), (4, .int v_11), (3, .int v_1), (2, .int v_2), (0, .ref h0), (1, .int p1)]) (k := 1) hx hb dL_watched_96 hl rfl ex_13 (by decide) (by decide) rfl (fun ls hl => ?_)
                    refine lv_goto (tgt := 31) hx hb dL_watched_99 (by decide) ?_
                    exact ih _ _ _ _ _ (hP.sub [0, 1, 2, 3, 4, 5, 6, 7, 8, 9, 10] rfl) hS (lv_sub hl [0, 1, 2, 3, 4, 5] rfl) hf hk
                  refine lv_icmp_lt (tgt := 89) hx hb dL_watched_52 (by decide) (fun hc => ?_) (fun hc => ?_)
                  · have hf := sf_bp hf hc
                    refine lv_iconst (v := 1) hx hb dL_watched_89 (by decide) ?_
                    refine lv_goto (tgt := 94) hx hb dL_watched_90 (by decide) ?_
                    exact hJ12 _ _ _ _ (hP.sub [0, 1, 2, 3, 4, 5, 6, 7, 8, 9, 10] rfl) hS (lv_sub hl [0, 2, 3, 4, 5] rfl) hf
                  · have hf := sf_bn hf hc
                    refine lv_aload_n hx hb dL_watched_55 rfl (lv_at hl 4 rfl) ?_
                    refine lv_iload hx hb dL_watched_56 (lv_at hl 0 rfl) ?_
                    obtain ⟨r_14, hc14, hf⟩ := sf_c1e hf
                    refine k_Pi (run_YS (As := [.ref h0, .int v_7]) (rest := []) ⟨hx, hb, hml, hown, ha⟩ (c_L_endOf l D dA cA h0 h1 h2 h3 h4 h5 h6 h9 h10 h11 h12 h13 h14 h17 h21 h41 h43 h46 h49   on ot op os sc sd sp sw bc bg bs bt be xi xe xf v_7 _ hc14) (gi_S2 m_769 m_770 m_30 m_771) (yd_L_endOf).2 ⟨Nat.le_of_ble_eq_true rfl, Nat.le_of_ble_eq_true rfl⟩ ⟨rfl, rfl⟩ hK hX hS hP [0, 1, 2, 3, 4, 5, 6, 7, 8, 9, 10] rfl rfl hl.1 rfl (Nat.le_of_ble_eq_true rfl) dL_watched_58 ⟨Nat.le_of_ble_eq_true rfl, Nat.le_of_ble_eq_true rfl⟩) hP hS (fun H locs hP hS => ?_)
                    refine lv_aload_n hx hb dL_watched_61 rfl (lv_at hl 4 rfl) ?_
                    refine lv_iload_n hx hb dL_watched_62 rfl (lv_at hl 2 rfl) ?_
                    obtain ⟨r_15, hc15, hf⟩ := sf_c1e hf
                    refine k_Pi (run_YS (As := [.ref h0, .int v_1]) (rest := [.int r_14]) ⟨hx, hb, hml, hown, ha⟩ (c_L_endOf l D dA cA h0 h1 h2 h3 h4 h5 h6 h9 h10 h11 h12 h13 h14 h17 h21 h41 h43 h46 h49   on ot op os sc sd sp sw bc bg bs bt be xi xe xf v_1 _ hc15) (gi_S2 m_769 m_770 m_30 m_771) (yd_L_endOf).2 ⟨Nat.le_of_ble_eq_true rfl, Nat.le_of_ble_eq_true rfl⟩ ⟨rfl, rfl⟩ hK hX hS hP [0, 1, 2, 3, 4, 5, 6, 7, 8, 9, 10] rfl rfl hl.1 rfl (Nat.le_of_ble_eq_true rfl) dL_watched_63 ⟨Nat.le_of_ble_eq_true rfl, Nat.le_of_ble_eq_true rfl⟩) hP hS (fun H locs hP hS => ?_)
                    refine lv_icmp_gt (tgt := 89) hx hb dL_watched_66 (by decide) (fun hc => ?_) (fun hc => ?_)
                    · have hf := sf_bp hf hc
                      refine lv_iconst (v := 1) hx hb dL_watched_89 (by decide) ?_
                      refine lv_goto (tgt := 94) hx hb dL_watched_90 (by decide) ?_
                      exact hJ12 _ _ _ _ (hP.sub [0, 1, 2, 3, 4, 5, 6, 7, 8, 9, 10] rfl) hS (lv_sub hl [0, 2, 3, 4, 5] rfl) hf
                    · have hf := sf_bn hf hc
                      refine lv_aload_n hx hb dL_watched_69 rfl (lv_at hl 4 rfl) ?_
                      refine lv_iload hx hb dL_watched_70 (lv_at hl 0 rfl) ?_
                      obtain ⟨r_16, hc16, hf⟩ := sf_c1e hf
                      refine k_Pi (run_YS (As := [.ref h0, .int v_7]) (rest := []) ⟨hx, hb, hml, hown, ha⟩ (c_L_endOf l D dA cA h0 h1 h2 h3 h4 h5 h6 h9 h10 h11 h12 h13 h14 h17 h21 h41 h43 h46 h49   on ot op os sc sd sp sw bc bg bs bt be xi xe xf v_7 _ hc16) (gi_S2 m_769 m_770 m_30 m_771) (yd_L_endOf).2 ⟨Nat.le_of_ble_eq_true rfl, Nat.le_of_ble_eq_true rfl⟩ ⟨rfl, rfl⟩ hK hX hS hP [0, 1, 2, 3, 4, 5, 6, 7, 8, 9, 10] rfl rfl hl.1 rfl (Nat.le_of_ble_eq_true rfl) dL_watched_72 ⟨Nat.le_of_ble_eq_true rfl, Nat.le_of_ble_eq_true rfl⟩) hP hS (fun H locs hP hS => ?_)
                      refine lv_aload_n hx hb dL_watched_75 rfl (lv_at hl 4 rfl) ?_
                      refine lv_iload_n hx hb dL_watched_76 rfl (lv_at hl 2 rfl) ?_
                      obtain ⟨r_17, hc17, hf⟩ := sf_c1e hf
                      refine k_Pi (run_YS (As := [.ref h0, .int v_1]) (rest := [.int r_16]) ⟨hx, hb, hml, hown, ha⟩ (c_L_endOf l D dA cA h0 h1 h2 h3 h4 h5 h6 h9 h10 h11 h12 h13 h14 h17 h21 h41 h43 h46 h49   on ot op os sc sd sp sw bc bg bs bt be xi xe xf v_1 _ hc17) (gi_S2 m_769 m_770 m_30 m_771) (yd_L_endOf).2 ⟨Nat.le_of_ble_eq_true rfl, Nat.le_of_ble_eq_true rfl⟩ ⟨rfl, rfl⟩ hK hX hS hP [0, 1, 2, 3, 4, 5, 6, 7, 8, 9, 10] rfl rfl hl.1 rfl (Nat.le_of_ble_eq_true rfl) dL_watched_77 ⟨Nat.le_of_ble_eq_true rfl, Nat.le_of_ble_eq_true rfl⟩) hP hS (fun H locs hP hS => ?_)
                      refine lv_icmp_ne (tgt := 93) hx hb dL_watched_80 (by decide) (fun hc => ?_) (fun hc => ?_)
                      · have hf := sf_bn hf hc
                        refine lv_iconst (v := 0) hx hb dL_watched_93 (by decide) ?_
                        exact hJ12 _ _ _ _ (hP.sub [0, 1, 2, 3, 4, 5, 6, 7, 8, 9, 10] rfl) hS (lv_sub hl [0, 2, 3, 4, 5] rfl) hf
                      · have hf := sf_bp hf hc
                        refine lv_iload hx hb dL_watched_83 (lv_at hl 0 rfl) ?_
                        refine lv_iload_n hx hb dL_watched_85 rfl (lv_at hl 2 rfl) ?_
                        refine lv_icmp_lt (tgt := 93) hx hb dL_watched_86 (by decide) (fun hc => ?_) (fun hc => ?_)
                        · have hf := sf_bp hf hc
                          refine lv_iconst (v := 0) hx hb dL_watched_93 (by decide) ?_
                          exact hJ12 _ _ _ _ (hP.sub [0, 1, 2, 3, 4, 5, 6, 7, 8, 9, 10] rfl) hS (lv_sub hl [0, 2, 3, 4, 5] rfl) hf
                        · have hf := sf_bn hf hc
                          refine lv_iconst (v := 1) hx hb dL_watched_89 (by decide) ?_
                          refine lv_goto (tgt := 94) hx hb dL_watched_90 (by decide) ?_
                          exact hJ12 _ _ _ _ (hP.sub [0, 1, 2, 3, 4, 5, 6, 7, 8, 9, 10] rfl) hS (lv_sub hl [0, 2, 3, 4, 5] rfl) hf
          refine hL31_18 2000 _ _ _ _ _ _ hP hS (lv_sub hl [0, 1, 2, 3, 4, 5] rfl) hf (fun y_18 H locs ls hP hS hl hf => ?_)
          refine lv_iload hx hb dL_watched_102 (lv_at hl 0 rfl) ?_
          refine sf_jo (J := fun (k_20 : Int32 → Option Int32) => ∀ (v_19 : Int32) (H : Heap) (locs : List Loc) (ls : Array Slot), va_P D cls [(h0, .inr (9, [.ref h1, .ref h21, .int xi, .ref h41, .ref h43, .ref h46, .ref h49, .int xe, .int xf])), (h1, .inr (6, [.int on, .int ot, .int op, .int os, .ref h2, .ref h6, .ref h9, .ref h14, .ref h17])), (h2, .inr (8, [.int sc, .ref h3, .ref h4, .ref h5])), (h3, .inl (dA 0, 4, .inl sd)), (h4, .inl (dA 0, 4, .inl sp)), (h5, .inl (dA 0, 4, .inl sw)), (h9, .inr (0, [.int bc, .ref h10, .ref h11, .ref h12, .ref h13])), (h10, .inl (dA 0, 12, .inl bg)), (h11, .inl (dA 0, 12, .inl bs)), (h12, .inl (dA 0, 12, .inl bt)), (h13, .inl (dA 0, 12, .inl be))] H → va_S noA s.heap H locs → lv_has ls 6 [(3, .int v_1), (0, .ref h0), (1, .int p1)] → k_20 v_19 = some rr → W p l e ({ frames := 13, cells := 0, slots := 0, locals := 309 } : Room) s m ([.ref h0, .int p1] : List Value).toArray below meth c H locs 0 0 (MQ below (poPi rr) ([.ref h0, .int p1] : List Value).toArray s 0 0 noA) (F0 m 126 ls [.int v_19])) hf (fun v_19 H locs ls hP hS hl hf => ?_) (fun k_20 hJ20 hf => ?_)
          · skip
            refine lv_istore_n (lv' := [(2, .int v_19), (3, .int v_1), (0, .ref h0), (1, .int p1)]) hx hb dL_watched_126 rfl hl (by decide) rfl (fun ls hl => ?_)
            obtain ⟨x_21, ex_21, hf⟩ := sf_ne hf
            refine ii_nc (lv' := [(3, .int x_21), (2, .int v_19), (0, .ref h0), (1, .int p1)]) (k := 1) hx hb dL_watched_127 hl rfl ex_21 (by decide) (by decide) rfl (fun ls hl => ?_)
            refine lv_goto (tgt := 4) hx hb dL_watched_130 (by decide) ?_
            exact ih _ _ _ _ _ (hP.sub [0, 1, 2, 3, 4, 5, 6, 7, 8, 9, 10] rfl) hS (lv_sub hl [0, 1, 2, 3] rfl) hf hk
          refine lv_if_eq (tgt := 125) hx hb dL_watched_104 (by decide) (fun hc => ?_) (fun hc => ?_)
          · have hf := sf_bp hf hc
            refine lv_iload_n hx hb dL_watched_125 rfl (lv_at hl 2 rfl) ?_
            exact hJ20 _ _ _ _ (hP.sub [0, 1, 2, 3, 4, 5, 6, 7, 8, 9, 10] rfl) hS (lv_sub hl [1, 3, 4] rfl) hf
          · have hf := sf_bn hf hc
            refine lv_iload_n hx hb dL_watched_107 rfl (lv_at hl 2 rfl) ?_
            refine lv_iconst (v := 1) hx hb dL_watched_108 (by decide) ?_
            refine lv_aload_n hx hb dL_watched_109 rfl (lv_at hl 3 rfl) ?_
            refine lv_aload_n hx hb dL_watched_110 rfl (lv_at hl 3 rfl) ?_
            refine lv_iload_n hx hb dL_watched_111 rfl (lv_at hl 1 rfl) ?_
            obtain ⟨r_22, hc22, hf⟩ := sf_c1e hf
            refine k_Pi (run_YS (As := [.ref h0, .int v_1]) (rest := [.ref h0, .int (1 : Int32), .int v_2]) ⟨hx, hb, hml, hown, ha⟩ (c_L_endOf l D dA cA h0 h1 h2 h3 h4 h5 h6 h9 h10 h11 h12 h13 h14 h17 h21 h41 h43 h46 h49   on ot op os sc sd sp sw bc bg bs bt be xi xe xf v_1 _ hc22) (gi_S2 m_769 m_770 m_30 m_771) (yd_L_endOf).2 ⟨Nat.le_of_ble_eq_true rfl, Nat.le_of_ble_eq_true rfl⟩ ⟨rfl, rfl⟩ hK hX hS hP [0, 1, 2, 3, 4, 5, 6, 7, 8, 9, 10] rfl rfl hl.1 rfl (Nat.le_of_ble_eq_true rfl) dL_watched_112 ⟨Nat.le_of_ble_eq_true rfl, Nat.le_of_ble_eq_true rfl⟩) hP hS (fun H locs hP hS => ?_)
            obtain ⟨r_23, hc23, hf⟩ := sf_c1e hf
            refine k_Pi (run_YS (As := [.ref h0, .int r_22]) (rest := [.int (1 : Int32), .int v_2]) ⟨hx, hb, hml, hown, ha⟩ (c_L_watched_8 l D dA cA h0 h1 h2 h3 h4 h5 h6 h9 h10 h11 h12 h13 h14 h17 h21 h41 h43 h46 h49   on ot op os sc sd sp sw bc bg bs bt be xi xe xf r_22 _ hc23) (gi_S2 m_847 m_848 m_30 m_849) (yd_L_watched_8).2 ⟨Nat.le_of_ble_eq_true rfl, Nat.le_of_ble_eq_true rfl⟩ ⟨rfl, rfl⟩ hK hX hS hP [0, 1, 2, 3, 4, 5, 6, 7, 8, 9, 10] rfl rfl hl.1 rfl (Nat.le_of_ble_eq_true rfl) dL_watched_115 ⟨Nat.le_of_ble_eq_true rfl, Nat.le_of_ble_eq_true rfl⟩) hP hS (fun H locs hP hS => ?_)
            refine lv_iadd hx hb dL_watched_118 ?_
            refine mx_i hx hb ha hown hml hl.1 m_785 m_786 m_54 m_787 ⟨Nat.le_of_ble_eq_true rfl, Nat.le_of_ble_eq_true rfl⟩ ⟨Nat.le_of_ble_eq_true rfl, Nat.le_of_ble_eq_true rfl⟩ dL_watched_119 ?_
            refine lv_goto (tgt := 126) hx hb dL_watched_122 (by decide) ?_
            exact hJ20 _ _ _ _ (hP.sub [0, 1, 2, 3, 4, 5, 6, 7, 8, 9, 10] rfl) hS (lv_sub hl [1, 3, 4] rfl) hf
        refine lv_icmp_lt (tgt := 25) hx hb dL_watched_18 (by decide) (fun hc => ?_) (fun hc => ?_)
        · have hf := sf_bp hf hc
          refine lv_iconst (v := 0) hx hb dL_watched_25 (by decide) ?_
          exact hJ6 _ _ _ _ (hP.sub [0, 1, 2, 3, 4, 5, 6, 7, 8, 9, 10] rfl) hS (lv_sub hl [0, 1, 2, 3] rfl) hf
        · have hf := sf_bn hf hc
          refine lv_iconst (v := 1) hx hb dL_watched_21 (by decide) ?_
          refine lv_goto (tgt := 26) hx hb dL_watched_22 (by decide) ?_
          exact hJ6 _ _ _ _ (hP.sub [0, 1, 2, 3, 4, 5, 6, 7, 8, 9, 10] rfl) hS (lv_sub hl [0, 1, 2, 3] rfl) hf
  refine hL4_24 2000 _ _ _ _ _ _ hP hS (lv_sub hl [0, 1, 2, 3] rfl) hf (fun y_24 H locs ls hP hS hl hf => ?_)
  refine lv_iload_n hx hb dL_watched_133 rfl (lv_at hl 0 rfl) ?_
  exact rt_Pi hx hb hr hlocks (Option.some.inj hf) hS dL_watched_134

def f_L_watched_10_L31 (sc : Int32) (sd : Nat → Int32) (bc : Int32) (bs : Nat → Int32) (bt : Nat → Int32) (p1 : Int32) (v_1 : Int32) (k : Int32 → Option Int32) : Nat → Int32 → Int32 → Option Int32
  | 0, _, _ => none
  | n + 1, v_7, v_8 => sf_c1 (f_X11_bookingCount bc) (fun r_9 => sf_b (r_9 ≤ v_7) (k v_8) (sf_b (v_8 = (0 : Int32)) (k v_8) (sf_c1 (f_X11_start bc bt v_7) (fun r_10 => sf_j (fun (v_11 : Int32) => sf_n (v_7 + (1 : Int32)) (fun x_13 => f_L_watched_10_L31 sc sd bc bs bt p1 v_1 k n x_13 v_11)) (fun k_12 => sf_b (r_10 < p1) (k_12 (1 : Int32)) (sf_c1 (f_L_endOf sc sd bc bs bt v_7) (fun r_14 => sf_c1 (f_L_endOf sc sd bc bs bt v_1) (fun r_15 => sf_b (r_15 < r_14) (k_12 (1 : Int32)) (sf_c1 (f_L_endOf sc sd bc bs bt v_7) (fun r_16 => sf_c1 (f_L_endOf sc sd bc bs bt v_1) (fun r_17 => sf_b (r_16 = r_17) (sf_b (v_7 < v_1) (k_12 (0 : Int32)) (k_12 (1 : Int32))) (k_12 (0 : Int32)))))))))))))
def f_L_watched_10_L4 (sc : Int32) (sd : Nat → Int32) (bc : Int32) (bs : Nat → Int32) (bt : Nat → Int32) (p1 : Int32) (k : Int32 → Option Int32) : Nat → Int32 → Int32 → Option Int32
  | 0, _, _ => none
  | n + 1, v_1, v_2 => sf_c1 (f_X11_bookingCount bc) (fun r_3 => sf_b (r_3 ≤ v_1) (k v_2) (sf_c1 (f_X11_start bc bt v_1) (fun r_4 => sf_j (fun (v_5 : Int32) => f_L_watched_10_L31 sc sd bc bs bt p1 v_1 (fun y_18 => sf_j (fun (v_19 : Int32) => sf_n (v_1 + (1 : Int32)) (fun x_21 => f_L_watched_10_L4 sc sd bc bs bt p1 k n x_21 v_19)) (fun k_20 => sf_b (y_18 = (0 : Int32)) (k_20 v_2) (sf_c1 (f_L_endOf sc sd bc bs bt v_1) (fun r_22 => sf_c1 (f_L_watched_9 sc sd bc bs bt r_22) (fun r_23 => k_20 (if v_2 < ((1 : Int32) + r_23) then ((1 : Int32) + r_23) else v_2)))))) 2000 (0 : Int32) v_5) (fun k_6 => sf_b (r_4 < p1) (k_6 (0 : Int32)) (k_6 (1 : Int32))))))
def f_L_watched_10 (sc : Int32) (sd : Nat → Int32) (bc : Int32) (bs : Nat → Int32) (bt : Nat → Int32) (p1 : Int32) : Option Int32 :=
  f_L_watched_10_L4 sc sd bc bs bt p1 (fun y_24 => some y_24) 2000 (0 : Int32) (0 : Int32)
theorem yd_L_watched_10 : yL_watched.cls = RL ∧ yL_watched.cls ≠ "java/lang/invoke/MethodHandle" ∧ yL_watched.cls ≠ "java/lang/invoke/VarHandle" ∧ (parseMethodDescriptor yL_watched.desc).map (fun d => d.parameters.length) = some 2 := ⟨rfl, by decide, by decide, by decide +kernel⟩
set_option maxRecDepth 100000 in
set_option maxHeartbeats 8000000 in
theorem c_L_watched_10 (l : Launch) (D : va_G) (dA : Nat → ClassId) (cA : Nat → Nat) (h0 h1 h2 h3 h4 h5 h6 h9 h10 h11 h12 h13 h14 h17 h21 h41 h43 h46 h49 : Nat) (on : Int32) (ot : Int32) (op : Int32) (os : Int32) (sc : Int32) (sd : Nat → Int32) (sp : Nat → Int32) (sw : Nat → Int32) (bc : Int32) (bg : Nat → Int32) (bs : Nat → Int32) (bt : Nat → Int32) (be : Nat → Int32) (xi : Int32) (xe : Int32) (xf : Int32) (p1 : Int32) (rr : Int32) (hf : f_L_watched_10 sc sd bc bs bt p1 = some rr) : Met l yL_watched (wo (.code yL_watched cL_watched 6 (some .int))) ({ frames := 14, cells := 0, slots := 0, locals := 334 } : Room) (preY D dA cA [.ref h0, .int p1] [(h0, .inr (9, [.ref h1, .ref h21, .int xi, .ref h41, .ref h43, .ref h46, .ref h49, .int xe, .int xf])), (h1, .inr (6, [.int on, .int ot, .int op, .int os, .ref h2, .ref h6, .ref h9, .ref h14, .ref h17])), (h2, .inr (8, [.int sc, .ref h3, .ref h4, .ref h5])), (h3, .inl (dA 0, 4, .inl sd)), (h4, .inl (dA 0, 4, .inl sp)), (h5, .inl (dA 0, 4, .inl sw)), (h9, .inr (0, [.int bc, .ref h10, .ref h11, .ref h12, .ref h13])), (h10, .inl (dA 0, 12, .inl bg)), (h11, .inl (dA 0, 12, .inl bs)), (h12, .inl (dA 0, 12, .inl bt)), (h13, .inl (dA 0, 12, .inl be))]) (poPi rr) 0 0 noA := by
  refine of_Y (y := yL_watched) (cc := cL_watched) (maxL := 6) (ret := (some .int)) (av := [.ref h0, .int p1]) (ws := [(h0, .inr (9, [.ref h1, .ref h21, .int xi, .ref h41, .ref h43, .ref h46, .ref h49, .int xe, .int xf])), (h1, .inr (6, [.int on, .int ot, .int op, .int os, .ref h2, .ref h6, .ref h9, .ref h14, .ref h17])), (h2, .inr (8, [.int sc, .ref h3, .ref h4, .ref h5])), (h3, .inl (dA 0, 4, .inl sd)), (h4, .inl (dA 0, 4, .inl sp)), (h5, .inl (dA 0, 4, .inl sw)), (h9, .inr (0, [.int bc, .ref h10, .ref h11, .ref h12, .ref h13])), (h10, .inl (dA 0, 12, .inl bg)), (h11, .inl (dA 0, 12, .inl bs)), (h12, .inl (dA 0, 12, .inl bt)), (h13, .inl (dA 0, 12, .inl be))]) (own := RL) (by decide) rfl (Nat.le_of_ble_eq_true rfl) ?_
  intro p e s m below meth c hx hb hr ha hown hml hlocks hP hK hX hS ls hl
  have hC := hX.1
  have hl : lv_has ls 6 [(0, .ref h0), (1, .int p1)] := hl
  rw [f_L_watched_10] at hf
  refine lv_iconst (v := 0) hx hb dL_watched_0 (by decide) ?_
  refine lv_istore_n (lv' := [(2, .int (0 : Int32)), (0, .ref h0), (1, .int p1)]) hx hb dL_watched_1 rfl hl (by decide) rfl (fun ls hl => ?_)
  refine lv_iconst (v := 0) hx hb dL_watched_2 (by decide) ?_
  refine lv_istore_n (lv' := [(3, .int (0 : Int32)), (2, .int (0 : Int32)), (0, .ref h0), (1, .int p1)]) hx hb dL_watched_3 rfl hl (by decide) rfl (fun ls hl => ?_)
  have hL4_24 : ∀ (n : Nat) (k : Int32 → Option Int32) (v_1 : Int32) (v_2 : Int32) (H : Heap) (locs : List Loc) (ls : Array Slot), va_P D cls [(h0, .inr (9, [.ref h1, .ref h21, .int xi, .ref h41, .ref h43, .ref h46, .ref h49, .int xe, .int xf])), (h1, .inr (6, [.int on, .int ot, .int op, .int os, .ref h2, .ref h6, .ref h9, .ref h14, .ref h17])), (h2, .inr (8, [.int sc, .ref h3, .ref h4, .ref h5])), (h3, .inl (dA 0, 4, .inl sd)), (h4, .inl (dA 0, 4, .inl sp)), (h5, .inl (dA 0, 4, .inl sw)), (h9, .inr (0, [.int bc, .ref h10, .ref h11, .ref h12, .ref h13])), (h10, .inl (dA 0, 12, .inl bg)), (h11, .inl (dA 0, 12, .inl bs)), (h12, .inl (dA 0, 12, .inl bt)), (h13, .inl (dA 0, 12, .inl be))] H → va_S noA s.heap H locs → lv_has ls 6 [(3, .int v_1), (2, .int v_2), (0, .ref h0), (1, .int p1)] → f_L_watched_10_L4 sc sd bc bs bt p1 k n v_1 v_2 = some rr → (∀ (y_24 : Int32) (H : Heap) (locs : List Loc) (ls : Array Slot), va_P D cls [(h0, .inr (9, [.ref h1, .ref h21, .int xi, .ref h41, .ref h43, .ref h46, .ref h49, .int xe, .int xf])), (h1, .inr (6, [.int on, .int ot, .int op, .int os, .ref h2, .ref h6, .ref h9, .ref h14, .ref h17])), (h2, .inr (8, [.int sc, .ref h3, .ref h4, .ref h5])), (h3, .inl (dA 0, 4, .inl sd)), (h4, .inl (dA 0, 4, .inl sp)), (h5, .inl (dA 0, 4, .inl sw)), (h9, .inr (0, [.int bc, .ref h10, .ref h11, .ref h12, .ref h13])), (h10, .inl (dA 0, 12, .inl bg)), (h11, .inl (dA 0, 12, .inl bs)), (h12, .inl (dA 0, 12, .inl bt)), (h13, .inl (dA 0, 12, .inl be))] H → va_S noA s.heap H locs → lv_has ls 6 [(2, .int y_24)] → k y_24 = some rr → W p l e ({ frames := 14, cells := 0, slots := 0, locals := 334 } : Room) s m ([.ref h0, .int p1] : List Value).toArray below meth c H locs 0 0 (MQ below (poPi rr) ([.ref h0, .int p1] : List Value).toArray s 0 0 noA) (F0 m 133 ls [])) → W p l e ({ frames := 14, cells := 0, slots := 0, locals := 334 } : Room) s m ([.ref h0, .int p1] : List Value).toArray below meth c H locs 0 0 (MQ below (poPi rr) ([.ref h0, .int p1] : List Value).toArray s 0 0 noA) (F0 m 4 ls []) := by
    intro n k
    induction n with
    | zero =>
      intro v_1 v_2 H locs ls hP hS hl hf hk
      rw [f_L_watched_10_L4] at hf
      cases hf
    | succ n ih =>
      intro v_1 v_2 H locs ls hP hS hl hf hk
      rw [f_L_watched_10_L4] at hf
      refine lv_iload_n hx hb dL_watched_4 rfl (lv_at hl 0 rfl) ?_
      refine lv_aload_n hx hb dL_watched_5 rfl (lv_at hl 2 rfl) ?_
      obtain ⟨r_3, hc3, hf⟩ := sf_c1e hf
      refine k_Pi (run_YV (As := []) (rest := [.int v_1]) ⟨hx, hb, hml, hown, ha⟩ (c_X11_bookingCount l D dA cA h0 h1 h2 h6 h9 h10 h11 h12 h13 h14 h17 h21 h41 h43 h46 h49   on ot op os bc xi xe xf  _ hc3) (gi_V m_744 m_745 m_746 m_31 m_747) yd_X11_bookingCount ⟨Nat.le_of_ble_eq_true rfl, Nat.le_of_ble_eq_true rfl⟩ ⟨rfl, rfl⟩ hK hX hS hP [0, 1, 6] rfl (va_recv hK hP (q0 := 0) rfl rfl) rfl hl.1 rfl (Nat.le_of_ble_eq_true rfl) dL_watched_6 ⟨Nat.le_of_ble_eq_true rfl, Nat.le_of_ble_eq_true rfl⟩) hP hS (fun H locs hP hS => ?_)
      refine lv_icmp_ge (tgt := 133) hx hb dL_watched_9 (by decide) (fun hc => ?_) (fun hc => ?_)
      · have hf := sf_bp hf hc
        exact hk _ _ _ _ (hP.sub [0, 1, 2, 3, 4, 5, 6, 7, 8, 9, 10] rfl) hS (lv_sub hl [1] rfl) hf
      · have hf := sf_bn hf hc
        refine lv_aload_n hx hb dL_watched_12 rfl (lv_at hl 2 rfl) ?_
        refine lv_iload_n hx hb dL_watched_13 rfl (lv_at hl 0 rfl) ?_
        obtain ⟨r_4, hc4, hf⟩ := sf_c1e hf
        refine k_Pi (run_YV (As := [.int v_1]) (rest := []) ⟨hx, hb, hml, hown, ha⟩ (c_X11_start l D dA cA h0 h1 h2 h6 h9 h10 h11 h12 h13 h14 h17 h21 h41 h43 h46 h49   on ot op os bc bg bs bt be xi xe xf v_1 _ hc4) (gi_V m_765 m_766 m_767 m_31 m_768) yd_X11_start ⟨Nat.le_of_ble_eq_true rfl, Nat.le_of_ble_eq_true rfl⟩ ⟨rfl, rfl⟩ hK hX hS hP [0, 1, 6, 7, 8, 9, 10] rfl (va_recv hK hP (q0 := 0) rfl rfl) rfl hl.1 rfl (Nat.le_of_ble_eq_true rfl) dL_watched_14 ⟨Nat.le_of_ble_eq_true rfl, Nat.le_of_ble_eq_true rfl⟩) hP hS (fun H locs hP hS => ?_)
        refine lv_iload_n hx hb dL_watched_17 rfl (lv_at hl 3 rfl) ?_
        refine sf_jo (J := fun (k_6 : Int32 → Option Int32) => ∀ (v_5 : Int32) (H : Heap) (locs : List Loc) (ls : Array Slot), va_P D cls [(h0, .inr (9, [.ref h1, .ref h21, .int xi, .ref h41, .ref h43, .ref h46, .ref h49, .int xe, .int xf])), (h1, .inr (6, [.int on, .int ot, .int op, .int os, .ref h2, .ref h6, .ref h9, .ref h14, .ref h17])), (h2, .inr (8, [.int sc, .ref h3, .ref h4, .ref h5])), (h3, .inl (dA 0, 4, .inl sd)), (h4, .inl (dA 0, 4, .inl sp)), (h5, .inl (dA 0, 4, .inl sw)), (h9, .inr (0, [.int bc, .ref h10, .ref h11, .ref h12, .ref h13])), (h10, .inl (dA 0, 12, .inl bg)), (h11, .inl (dA 0, 12, .inl bs)), (h12, .inl (dA 0, 12, .inl bt)), (h13, .inl (dA 0, 12, .inl be))] H → va_S noA s.heap H locs → lv_has ls 6 [(3, .int v_1), (2, .int v_2), (0, .ref h0), (1, .int p1)] → k_6 v_5 = some rr → W p l e ({ frames := 14, cells := 0, slots := 0, locals := 334 } : Room) s m ([.ref h0, .int p1] : List Value).toArray below meth c H locs 0 0 (MQ below (poPi rr) ([.ref h0, .int p1] : List Value).toArray s 0 0 noA) (F0 m 26 ls [.int v_5])) hf (fun v_5 H locs ls hP hS hl hf => ?_) (fun k_6 hJ6 hf => ?_)
        · skip
          refine lv_istore (lv' := [(4, .int v_5), (3, .int v_1), (2, .int v_2), (0, .ref h0), (1, .int p1)]) hx hb dL_watched_26 hl (by decide) rfl (fun ls hl => ?_)
          refine lv_iconst (v := 0) hx hb dL_watched_28 (by decide) ?_
          refine lv_istore (lv' := [(5, .int (0 : Int32)), (4, .int v_5), (3, .int v_1), (2, .int v_2), (0, .ref h0), (1, .int p1)]) hx hb dL_watched_29 hl (by decide) rfl (fun ls hl => ?_)
          have hL31_18 : ∀ (n : Nat) (k : Int32 → Option Int32) (v_7 : Int32) (v_8 : Int32) (H : Heap) (locs : List Loc) (ls : Array Slot), va_P D cls [(h0, .inr (9, [.ref h1, .ref h21, .int xi, .ref h41, .ref h43, .ref h46, .ref h49, .int xe, .int xf])), (h1, .inr (6, [.int on, .int ot, .int op, .int os, .ref h2, .ref h6, .ref h9, .ref h14, .ref h17])), (h2, .inr (8, [.int sc, .ref h3, .ref h4, .ref h5])), (h3, .inl (dA 0, 4, .inl sd)), (h4, .inl (dA 0, 4, .inl sp)), (h5, .inl (dA 0, 4, .inl sw)), (h9, .inr (0, [.int bc, .ref h10, .ref h11, .ref h12, .ref h13])), (h10, .inl (dA 0, 12, .inl bg)), (h11, .inl (dA 0, 12, .inl bs)), (h12, .inl (dA 0, 12, .inl bt)), (h13, .inl (dA 0, 12, .inl be))] H → va_S noA s.heap H locs → lv_has ls 6 [(5, .int v_7), (4, .int v_8), (3, .int v_1), (2, .int v_2), (0, .ref h0), (1, .int p1)] → f_L_watched_10_L31 sc sd bc bs bt p1 v_1 k n v_7 v_8 = some rr → (∀ (y_18 : Int32) (H : Heap) (locs : List Loc) (ls : Array Slot), va_P D cls [(h0, .inr (9, [.ref h1, .ref h21, .int xi, .ref h41, .ref h43, .ref h46, .ref h49, .int xe, .int xf])), (h1, .inr (6, [.int on, .int ot, .int op, .int os, .ref h2, .ref h6, .ref h9, .ref h14, .ref h17])), (h2, .inr (8, [.int sc, .ref h3, .ref h4, .ref h5])), (h3, .inl (dA 0, 4, .inl sd)), (h4, .inl (dA 0, 4, .inl sp)), (h5, .inl (dA 0, 4, .inl sw)), (h9, .inr (0, [.int bc, .ref h10, .ref h11, .ref h12, .ref h13])), (h10, .inl (dA 0, 12, .inl bg)), (h11, .inl (dA 0, 12, .inl bs)), (h12, .inl (dA 0, 12, .inl bt)), (h13, .inl (dA 0, 12, .inl be))] H → va_S noA s.heap H locs → lv_has ls 6 [(4, .int y_18), (3, .int v_1), (2, .int v_2), (0, .ref h0), (1, .int p1)] → k y_18 = some rr → W p l e ({ frames := 14, cells := 0, slots := 0, locals := 334 } : Room) s m ([.ref h0, .int p1] : List Value).toArray below meth c H locs 0 0 (MQ below (poPi rr) ([.ref h0, .int p1] : List Value).toArray s 0 0 noA) (F0 m 102 ls [])) → W p l e ({ frames := 14, cells := 0, slots := 0, locals := 334 } : Room) s m ([.ref h0, .int p1] : List Value).toArray below meth c H locs 0 0 (MQ below (poPi rr) ([.ref h0, .int p1] : List Value).toArray s 0 0 noA) (F0 m 31 ls []) := by
            intro n k
            induction n with
            | zero =>
              intro v_7 v_8 H locs ls hP hS hl hf hk
              rw [f_L_watched_10_L31] at hf
              cases hf
            | succ n ih =>
              intro v_7 v_8 H locs ls hP hS hl hf hk
              rw [f_L_watched_10_L31] at hf
              refine lv_iload hx hb dL_watched_31 (lv_at hl 0 rfl) ?_
              refine lv_aload_n hx hb dL_watched_33 rfl (lv_at hl 4 rfl) ?_
              obtain ⟨r_9, hc9, hf⟩ := sf_c1e hf
              refine k_Pi (run_YV (As := []) (rest := [.int v_7]) ⟨hx, hb, hml, hown, ha⟩ (c_X11_bookingCount l D dA cA h0 h1 h2 h6 h9 h10 h11 h12 h13 h14 h17 h21 h41 h43 h46 h49   on ot op os bc xi xe xf  _ hc9) (gi_V m_744 m_745 m_746 m_31 m_747) yd_X11_bookingCount ⟨Nat.le_of_ble_eq_true rfl, Nat.le_of_ble_eq_true rfl⟩ ⟨rfl, rfl⟩ hK hX hS hP [0, 1, 6] rfl (va_recv hK hP (q0 := 0) rfl rfl) rfl hl.1 rfl (Nat.le_of_ble_eq_true rfl) dL_watched_34 ⟨Nat.le_of_ble_eq_true rfl, Nat.le_of_ble_eq_true rfl⟩) hP hS (fun H locs hP hS => ?_)
              refine lv_icmp_ge (tgt := 102) hx hb dL_watched_37 (by decide) (fun hc => ?_) (fun hc => ?_)
              · have hf := sf_bp hf hc
                exact hk _ _ _ _ (hP.sub [0, 1, 2, 3, 4, 5, 6, 7, 8, 9, 10] rfl) hS (lv_sub hl [1, 2, 3, 4, 5] rfl) hf
              · have hf := sf_bn hf hc
                refine lv_iload hx hb dL_watched_40 (lv_at hl 1 rfl) ?_
                refine lv_if_eq (tgt := 102) hx hb dL_watched_42 (by decide) (fun hc => ?_) (fun hc => ?_)
                · have hf := sf_bp hf hc
                  exact hk _ _ _ _ (hP.sub [0, 1, 2, 3, 4, 5, 6, 7, 8, 9, 10] rfl) hS (lv_sub hl [1, 2, 3, 4, 5] rfl) hf
                · have hf := sf_bn hf hc
                  refine lv_aload_n hx hb dL_watched_45 rfl (lv_at hl 4 rfl) ?_
                  refine lv_iload hx hb dL_watched_46 (lv_at hl 0 rfl) ?_
                  obtain ⟨r_10, hc10, hf⟩ := sf_c1e hf
                  refine k_Pi (run_YV (As := [.int v_7]) (rest := []) ⟨hx, hb, hml, hown, ha⟩ (c_X11_start l D dA cA h0 h1 h2 h6 h9 h10 h11 h12 h13 h14 h17 h21 h41 h43 h46 h49   on ot op os bc bg bs bt be xi xe xf v_7 _ hc10) (gi_V m_765 m_766 m_767 m_31 m_768) yd_X11_start ⟨Nat.le_of_ble_eq_true rfl, Nat.le_of_ble_eq_true rfl⟩ ⟨rfl, rfl⟩ hK hX hS hP [0, 1, 6, 7, 8, 9, 10] rfl (va_recv hK hP (q0 := 0) rfl rfl) rfl hl.1 rfl (Nat.le_of_ble_eq_true rfl) dL_watched_48 ⟨Nat.le_of_ble_eq_true rfl, Nat.le_of_ble_eq_true rfl⟩) hP hS (fun H locs hP hS => ?_)
                  refine lv_iload_n hx hb dL_watched_51 rfl (lv_at hl 5 rfl) ?_
                  refine sf_jo (J := fun (k_12 : Int32 → Option Int32) => ∀ (v_11 : Int32) (H : Heap) (locs : List Loc) (ls : Array Slot), va_P D cls [(h0, .inr (9, [.ref h1, .ref h21, .int xi, .ref h41, .ref h43, .ref h46, .ref h49, .int xe, .int xf])), (h1, .inr (6, [.int on, .int ot, .int op, .int os, .ref h2, .ref h6, .ref h9, .ref h14, .ref h17])), (h2, .inr (8, [.int sc, .ref h3, .ref h4, .ref h5])), (h3, .inl (dA 0, 4, .inl sd)), (h4, .inl (dA 0, 4, .inl sp)), (h5, .inl (dA 0, 4, .inl sw)), (h9, .inr (0, [.int bc, .ref h10, .ref h11, .ref h12, .ref h13])), (h10, .inl (dA 0, 12, .inl bg)), (h11, .inl (dA 0, 12, .inl bs)), (h12, .inl (dA 0, 12, .inl bt)), (h13, .inl (dA 0, 12, .inl be))] H → va_S noA s.heap H locs → lv_has ls 6 [(5, .int v_7), (3, .int v_1), (2, .int v_2), (0, .ref h0), (1, .int p1)] → k_12 v_11 = some rr → W p l e ({ frames := 14, cells := 0, slots := 0, locals := 334 } : Room) s m ([.ref h0, .int p1] : List Value).toArray below meth c H locs 0 0 (MQ below (poPi rr) ([.ref h0, .int p1] : List Value).toArray s 0 0 noA) (F0 m 94 ls [.int v_11])) hf (fun v_11 H locs ls hP hS hl hf => ?_) (fun k_12 hJ12 hf => ?_)
                  · skip
                    refine lv_istore (lv' := [(4, .int v_11), (5, .int v_7), (3, .int v_1), (2, .int v_2), (0, .ref h0), (1, .int p1)]) hx hb dL_watched_94 hl (by decide) rfl (fun ls hl => ?_)
                    obtain ⟨x_13, ex_13, hf⟩ := sf_ne hf
                    refine ii_nc (lv' := [(5, .int x_13), (4, .int v_11), (3, .int v_1), (2, .int v_2), (0, .ref h0), (1, .int p1)]) (k := 1) hx hb dL_watched_96 hl rfl ex_13 (by decide) (by decide) rfl (fun ls hl => ?_)
                    refine lv_goto (tgt := 31) hx hb dL_watched_99 (by decide) ?_
                    exact ih _ _ _ _ _ (hP.sub [0, 1, 2, 3, 4, 5, 6, 7, 8, 9, 10] rfl) hS (lv_sub hl [0, 1, 2, 3, 4, 5] rfl) hf hk
                  refine lv_icmp_lt (tgt := 89) hx hb dL_watched_52 (by decide) (fun hc => ?_) (fun hc => ?_)
                  · have hf := sf_bp hf hc
                    refine lv_iconst (v := 1) hx hb dL_watched_89 (by decide) ?_
                    refine lv_goto (tgt := 94) hx hb dL_watched_90 (by decide) ?_
                    exact hJ12 _ _ _ _ (hP.sub [0, 1, 2, 3, 4, 5, 6, 7, 8, 9, 10] rfl) hS (lv_sub hl [0, 2, 3, 4, 5] rfl) hf
                  · have hf := sf_bn hf hc
                    refine lv_aload_n hx hb dL_watched_55 rfl (lv_at hl 4 rfl) ?_
                    refine lv_iload hx hb dL_watched_56 (lv_at hl 0 rfl) ?_
                    obtain ⟨r_14, hc14, hf⟩ := sf_c1e hf
                    refine k_Pi (run_YS (As := [.ref h0, .int v_7]) (rest := []) ⟨hx, hb, hml, hown, ha⟩ (c_L_endOf l D dA cA h0 h1 h2 h3 h4 h5 h6 h9 h10 h11 h12 h13 h14 h17 h21 h41 h43 h46 h49   on ot op os sc sd sp sw bc bg bs bt be xi xe xf v_7 _ hc14) (gi_S2 m_769 m_770 m_30 m_771) (yd_L_endOf).2 ⟨Nat.le_of_ble_eq_true rfl, Nat.le_of_ble_eq_true rfl⟩ ⟨rfl, rfl⟩ hK hX hS hP [0, 1, 2, 3, 4, 5, 6, 7, 8, 9, 10] rfl rfl hl.1 rfl (Nat.le_of_ble_eq_true rfl) dL_watched_58 ⟨Nat.le_of_ble_eq_true rfl, Nat.le_of_ble_eq_true rfl⟩) hP hS (fun H locs hP hS => ?_)
                    refine lv_aload_n hx hb dL_watched_61 rfl (lv_at hl 4 rfl) ?_
                    refine lv_iload_n hx hb dL_watched_62 rfl (lv_at hl 2 rfl) ?_
                    obtain ⟨r_15, hc15, hf⟩ := sf_c1e hf
                    refine k_Pi (run_YS (As := [.ref h0, .int v_1]) (rest := [.int r_14]) ⟨hx, hb, hml, hown, ha⟩ (c_L_endOf l D dA cA h0 h1 h2 h3 h4 h5 h6 h9 h10 h11 h12 h13 h14 h17 h21 h41 h43 h46 h49   on ot op os sc sd sp sw bc bg bs bt be xi xe xf v_1 _ hc15) (gi_S2 m_769 m_770 m_30 m_771) (yd_L_endOf).2 ⟨Nat.le_of_ble_eq_true rfl, Nat.le_of_ble_eq_true rfl⟩ ⟨rfl, rfl⟩ hK hX hS hP [0, 1, 2, 3, 4, 5, 6, 7, 8, 9, 10] rfl rfl hl.1 rfl (Nat.le_of_ble_eq_true rfl) dL_watched_63 ⟨Nat.le_of_ble_eq_true rfl, Nat.le_of_ble_eq_true rfl⟩) hP hS (fun H locs hP hS => ?_)
                    refine lv_icmp_gt (tgt := 89) hx hb dL_watched_66 (by decide) (fun hc => ?_) (fun hc => ?_)
                    · have hf := sf_bp hf hc
                      refine lv_iconst (v := 1) hx hb dL_watched_89 (by decide) ?_
                      refine lv_goto (tgt := 94) hx hb dL_watched_90 (by decide) ?_
                      exact hJ12 _ _ _ _ (hP.sub [0, 1, 2, 3, 4, 5, 6, 7, 8, 9, 10] rfl) hS (lv_sub hl [0, 2, 3, 4, 5] rfl) hf
                    · have hf := sf_bn hf hc
                      refine lv_aload_n hx hb dL_watched_69 rfl (lv_at hl 4 rfl) ?_
                      refine lv_iload hx hb dL_watched_70 (lv_at hl 0 rfl) ?_
                      obtain ⟨r_16, hc16, hf⟩ := sf_c1e hf
                      refine k_Pi (run_YS (As := [.ref h0, .int v_7]) (rest := []) ⟨hx, hb, hml, hown, ha⟩ (c_L_endOf l D dA cA h0 h1 h2 h3 h4 h5 h6 h9 h10 h11 h12 h13 h14 h17 h21 h41 h43 h46 h49   on ot op os sc sd sp sw bc bg bs bt be xi xe xf v_7 _ hc16) (gi_S2 m_769 m_770 m_30 m_771) (yd_L_endOf).2 ⟨Nat.le_of_ble_eq_true rfl, Nat.le_of_ble_eq_true rfl⟩ ⟨rfl, rfl⟩ hK hX hS hP [0, 1, 2, 3, 4, 5, 6, 7, 8, 9, 10] rfl rfl hl.1 rfl (Nat.le_of_ble_eq_true rfl) dL_watched_72 ⟨Nat.le_of_ble_eq_true rfl, Nat.le_of_ble_eq_true rfl⟩) hP hS (fun H locs hP hS => ?_)
                      refine lv_aload_n hx hb dL_watched_75 rfl (lv_at hl 4 rfl) ?_
                      refine lv_iload_n hx hb dL_watched_76 rfl (lv_at hl 2 rfl) ?_
                      obtain ⟨r_17, hc17, hf⟩ := sf_c1e hf
                      refine k_Pi (run_YS (As := [.ref h0, .int v_1]) (rest := [.int r_16]) ⟨hx, hb, hml, hown, ha⟩ (c_L_endOf l D dA cA h0 h1 h2 h3 h4 h5 h6 h9 h10 h11 h12 h13 h14 h17 h21 h41 h43 h46 h49   on ot op os sc sd sp sw bc bg bs bt be xi xe xf v_1 _ hc17) (gi_S2 m_769 m_770 m_30 m_771) (yd_L_endOf).2 ⟨Nat.le_of_ble_eq_true rfl, Nat.le_of_ble_eq_true rfl⟩ ⟨rfl, rfl⟩ hK hX hS hP [0, 1, 2, 3, 4, 5, 6, 7, 8, 9, 10] rfl rfl hl.1 rfl (Nat.le_of_ble_eq_true rfl) dL_watched_77 ⟨Nat.le_of_ble_eq_true rfl, Nat.le_of_ble_eq_true rfl⟩) hP hS (fun H locs hP hS => ?_)
                      refine lv_icmp_ne (tgt := 93) hx hb dL_watched_80 (by decide) (fun hc => ?_) (fun hc => ?_)
                      · have hf := sf_bn hf hc
                        refine lv_iconst (v := 0) hx hb dL_watched_93 (by decide) ?_
                        exact hJ12 _ _ _ _ (hP.sub [0, 1, 2, 3, 4, 5, 6, 7, 8, 9, 10] rfl) hS (lv_sub hl [0, 2, 3, 4, 5] rfl) hf
                      · have hf := sf_bp hf hc
                        refine lv_iload hx hb dL_watched_83 (lv_at hl 0 rfl) ?_
                        refine lv_iload_n hx hb dL_watched_85 rfl (lv_at hl 2 rfl) ?_
                        refine lv_icmp_lt (tgt := 93) hx hb dL_watched_86 (by decide) (fun hc => ?_) (fun hc => ?_)
                        · have hf := sf_bp hf hc
                          refine lv_iconst (v := 0) hx hb dL_watched_93 (by decide) ?_
                          exact hJ12 _ _ _ _ (hP.sub [0, 1, 2, 3, 4, 5, 6, 7, 8, 9, 10] rfl) hS (lv_sub hl [0, 2, 3, 4, 5] rfl) hf
                        · have hf := sf_bn hf hc
                          refine lv_iconst (v := 1) hx hb dL_watched_89 (by decide) ?_
                          refine lv_goto (tgt := 94) hx hb dL_watched_90 (by decide) ?_
                          exact hJ12 _ _ _ _ (hP.sub [0, 1, 2, 3, 4, 5, 6, 7, 8, 9, 10] rfl) hS (lv_sub hl [0, 2, 3, 4, 5] rfl) hf
          refine hL31_18 2000 _ _ _ _ _ _ hP hS (lv_sub hl [0, 1, 2, 3, 4, 5] rfl) hf (fun y_18 H locs ls hP hS hl hf => ?_)
          refine lv_iload hx hb dL_watched_102 (lv_at hl 0 rfl) ?_
          refine sf_jo (J := fun (k_20 : Int32 → Option Int32) => ∀ (v_19 : Int32) (H : Heap) (locs : List Loc) (ls : Array Slot), va_P D cls [(h0, .inr (9, [.ref h1, .ref h21, .int xi, .ref h41, .ref h43, .ref h46, .ref h49, .int xe, .int xf])), (h1, .inr (6, [.int on, .int ot, .int op, .int os, .ref h2, .ref h6, .ref h9, .ref h14, .ref h17])), (h2, .inr (8, [.int sc, .ref h3, .ref h4, .ref h5])), (h3, .inl (dA 0, 4, .inl sd)), (h4, .inl (dA 0, 4, .inl sp)), (h5, .inl (dA 0, 4, .inl sw)), (h9, .inr (0, [.int bc, .ref h10, .ref h11, .ref h12, .ref h13])), (h10, .inl (dA 0, 12, .inl bg)), (h11, .inl (dA 0, 12, .inl bs)), (h12, .inl (dA 0, 12, .inl bt)), (h13, .inl (dA 0, 12, .inl be))] H → va_S noA s.heap H locs → lv_has ls 6 [(3, .int v_1), (0, .ref h0), (1, .int p1)] → k_20 v_19 = some rr → W p l e ({ frames := 14, cells := 0, slots := 0, locals := 334 } : Room) s m ([.ref h0, .int p1] : List Value).toArray below meth c H locs 0 0 (MQ below (poPi rr) ([.ref h0, .int p1] : List Value).toArray s 0 0 noA) (F0 m 126 ls [.int v_19])) hf (fun v_19 H locs ls hP hS hl hf => ?_) (fun k_20 hJ20 hf => ?_)
          · skip
            refine lv_istore_n (lv' := [(2, .int v_19), (3, .int v_1), (0, .ref h0), (1, .int p1)]) hx hb dL_watched_126 rfl hl (by decide) rfl (fun ls hl => ?_)
            obtain ⟨x_21, ex_21, hf⟩ := sf_ne hf
            refine ii_nc (lv' := [(3, .int x_21), (2, .int v_19), (0, .ref h0), (1, .int p1)]) (k := 1) hx hb dL_watched_127 hl rfl ex_21 (by decide) (by decide) rfl (fun ls hl => ?_)
            refine lv_goto (tgt := 4) hx hb dL_watched_130 (by decide) ?_
            exact ih _ _ _ _ _ (hP.sub [0, 1, 2, 3, 4, 5, 6, 7, 8, 9, 10] rfl) hS (lv_sub hl [0, 1, 2, 3] rfl) hf hk
          refine lv_if_eq (tgt := 125) hx hb dL_watched_104 (by decide) (fun hc => ?_) (fun hc => ?_)
          · have hf := sf_bp hf hc
            refine lv_iload_n hx hb dL_watched_125 rfl (lv_at hl 2 rfl) ?_
            exact hJ20 _ _ _ _ (hP.sub [0, 1, 2, 3, 4, 5, 6, 7, 8, 9, 10] rfl) hS (lv_sub hl [1, 3, 4] rfl) hf
          · have hf := sf_bn hf hc
            refine lv_iload_n hx hb dL_watched_107 rfl (lv_at hl 2 rfl) ?_
            refine lv_iconst (v := 1) hx hb dL_watched_108 (by decide) ?_
            refine lv_aload_n hx hb dL_watched_109 rfl (lv_at hl 3 rfl) ?_
            refine lv_aload_n hx hb dL_watched_110 rfl (lv_at hl 3 rfl) ?_
            refine lv_iload_n hx hb dL_watched_111 rfl (lv_at hl 1 rfl) ?_
            obtain ⟨r_22, hc22, hf⟩ := sf_c1e hf
            refine k_Pi (run_YS (As := [.ref h0, .int v_1]) (rest := [.ref h0, .int (1 : Int32), .int v_2]) ⟨hx, hb, hml, hown, ha⟩ (c_L_endOf l D dA cA h0 h1 h2 h3 h4 h5 h6 h9 h10 h11 h12 h13 h14 h17 h21 h41 h43 h46 h49   on ot op os sc sd sp sw bc bg bs bt be xi xe xf v_1 _ hc22) (gi_S2 m_769 m_770 m_30 m_771) (yd_L_endOf).2 ⟨Nat.le_of_ble_eq_true rfl, Nat.le_of_ble_eq_true rfl⟩ ⟨rfl, rfl⟩ hK hX hS hP [0, 1, 2, 3, 4, 5, 6, 7, 8, 9, 10] rfl rfl hl.1 rfl (Nat.le_of_ble_eq_true rfl) dL_watched_112 ⟨Nat.le_of_ble_eq_true rfl, Nat.le_of_ble_eq_true rfl⟩) hP hS (fun H locs hP hS => ?_)
            obtain ⟨r_23, hc23, hf⟩ := sf_c1e hf
            refine k_Pi (run_YS (As := [.ref h0, .int r_22]) (rest := [.int (1 : Int32), .int v_2]) ⟨hx, hb, hml, hown, ha⟩ (c_L_watched_9 l D dA cA h0 h1 h2 h3 h4 h5 h6 h9 h10 h11 h12 h13 h14 h17 h21 h41 h43 h46 h49   on ot op os sc sd sp sw bc bg bs bt be xi xe xf r_22 _ hc23) (gi_S2 m_847 m_848 m_30 m_849) (yd_L_watched_9).2 ⟨Nat.le_of_ble_eq_true rfl, Nat.le_of_ble_eq_true rfl⟩ ⟨rfl, rfl⟩ hK hX hS hP [0, 1, 2, 3, 4, 5, 6, 7, 8, 9, 10] rfl rfl hl.1 rfl (Nat.le_of_ble_eq_true rfl) dL_watched_115 ⟨Nat.le_of_ble_eq_true rfl, Nat.le_of_ble_eq_true rfl⟩) hP hS (fun H locs hP hS => ?_)
            refine lv_iadd hx hb dL_watched_118 ?_
            refine mx_i hx hb ha hown hml hl.1 m_785 m_786 m_54 m_787 ⟨Nat.le_of_ble_eq_true rfl, Nat.le_of_ble_eq_true rfl⟩ ⟨Nat.le_of_ble_eq_true rfl, Nat.le_of_ble_eq_true rfl⟩ dL_watched_119 ?_
            refine lv_goto (tgt := 126) hx hb dL_watched_122 (by decide) ?_
            exact hJ20 _ _ _ _ (hP.sub [0, 1, 2, 3, 4, 5, 6, 7, 8, 9, 10] rfl) hS (lv_sub hl [1, 3, 4] rfl) hf
        refine lv_icmp_lt (tgt := 25) hx hb dL_watched_18 (by decide) (fun hc => ?_) (fun hc => ?_)
        · have hf := sf_bp hf hc
          refine lv_iconst (v := 0) hx hb dL_watched_25 (by decide) ?_
          exact hJ6 _ _ _ _ (hP.sub [0, 1, 2, 3, 4, 5, 6, 7, 8, 9, 10] rfl) hS (lv_sub hl [0, 1, 2, 3] rfl) hf
        · have hf := sf_bn hf hc
          refine lv_iconst (v := 1) hx hb dL_watched_21 (by decide) ?_
          refine lv_goto (tgt := 26) hx hb dL_watched_22 (by decide) ?_
          exact hJ6 _ _ _ _ (hP.sub [0, 1, 2, 3, 4, 5, 6, 7, 8, 9, 10] rfl) hS (lv_sub hl [0, 1, 2, 3] rfl) hf
  refine hL4_24 2000 _ _ _ _ _ _ hP hS (lv_sub hl [0, 1, 2, 3] rfl) hf (fun y_24 H locs ls hP hS hl hf => ?_)
  refine lv_iload_n hx hb dL_watched_133 rfl (lv_at hl 0 rfl) ?_
  exact rt_Pi hx hb hr hlocks (Option.some.inj hf) hS dL_watched_134

def f_L_watched_11_L31 (sc : Int32) (sd : Nat → Int32) (bc : Int32) (bs : Nat → Int32) (bt : Nat → Int32) (p1 : Int32) (v_1 : Int32) (k : Int32 → Option Int32) : Nat → Int32 → Int32 → Option Int32
  | 0, _, _ => none
  | n + 1, v_7, v_8 => sf_c1 (f_X11_bookingCount bc) (fun r_9 => sf_b (r_9 ≤ v_7) (k v_8) (sf_b (v_8 = (0 : Int32)) (k v_8) (sf_c1 (f_X11_start bc bt v_7) (fun r_10 => sf_j (fun (v_11 : Int32) => sf_n (v_7 + (1 : Int32)) (fun x_13 => f_L_watched_11_L31 sc sd bc bs bt p1 v_1 k n x_13 v_11)) (fun k_12 => sf_b (r_10 < p1) (k_12 (1 : Int32)) (sf_c1 (f_L_endOf sc sd bc bs bt v_7) (fun r_14 => sf_c1 (f_L_endOf sc sd bc bs bt v_1) (fun r_15 => sf_b (r_15 < r_14) (k_12 (1 : Int32)) (sf_c1 (f_L_endOf sc sd bc bs bt v_7) (fun r_16 => sf_c1 (f_L_endOf sc sd bc bs bt v_1) (fun r_17 => sf_b (r_16 = r_17) (sf_b (v_7 < v_1) (k_12 (0 : Int32)) (k_12 (1 : Int32))) (k_12 (0 : Int32)))))))))))))
def f_L_watched_11_L4 (sc : Int32) (sd : Nat → Int32) (bc : Int32) (bs : Nat → Int32) (bt : Nat → Int32) (p1 : Int32) (k : Int32 → Option Int32) : Nat → Int32 → Int32 → Option Int32
  | 0, _, _ => none
  | n + 1, v_1, v_2 => sf_c1 (f_X11_bookingCount bc) (fun r_3 => sf_b (r_3 ≤ v_1) (k v_2) (sf_c1 (f_X11_start bc bt v_1) (fun r_4 => sf_j (fun (v_5 : Int32) => f_L_watched_11_L31 sc sd bc bs bt p1 v_1 (fun y_18 => sf_j (fun (v_19 : Int32) => sf_n (v_1 + (1 : Int32)) (fun x_21 => f_L_watched_11_L4 sc sd bc bs bt p1 k n x_21 v_19)) (fun k_20 => sf_b (y_18 = (0 : Int32)) (k_20 v_2) (sf_c1 (f_L_endOf sc sd bc bs bt v_1) (fun r_22 => sf_c1 (f_L_watched_10 sc sd bc bs bt r_22) (fun r_23 => k_20 (if v_2 < ((1 : Int32) + r_23) then ((1 : Int32) + r_23) else v_2)))))) 2000 (0 : Int32) v_5) (fun k_6 => sf_b (r_4 < p1) (k_6 (0 : Int32)) (k_6 (1 : Int32))))))
def f_L_watched_11 (sc : Int32) (sd : Nat → Int32) (bc : Int32) (bs : Nat → Int32) (bt : Nat → Int32) (p1 : Int32) : Option Int32 :=
  f_L_watched_11_L4 sc sd bc bs bt p1 (fun y_24 => some y_24) 2000 (0 : Int32) (0 : Int32)
theorem yd_L_watched_11 : yL_watched.cls = RL ∧ yL_watched.cls ≠ "java/lang/invoke/MethodHandle" ∧ yL_watched.cls ≠ "java/lang/invoke/VarHandle" ∧ (parseMethodDescriptor yL_watched.desc).map (fun d => d.parameters.length) = some 2 := ⟨rfl, by decide, by decide, by decide +kernel⟩
set_option maxRecDepth 100000 in
set_option maxHeartbeats 8000000 in
theorem c_L_watched_11 (l : Launch) (D : va_G) (dA : Nat → ClassId) (cA : Nat → Nat) (h0 h1 h2 h3 h4 h5 h6 h9 h10 h11 h12 h13 h14 h17 h21 h41 h43 h46 h49 : Nat) (on : Int32) (ot : Int32) (op : Int32) (os : Int32) (sc : Int32) (sd : Nat → Int32) (sp : Nat → Int32) (sw : Nat → Int32) (bc : Int32) (bg : Nat → Int32) (bs : Nat → Int32) (bt : Nat → Int32) (be : Nat → Int32) (xi : Int32) (xe : Int32) (xf : Int32) (p1 : Int32) (rr : Int32) (hf : f_L_watched_11 sc sd bc bs bt p1 = some rr) : Met l yL_watched (wo (.code yL_watched cL_watched 6 (some .int))) ({ frames := 15, cells := 0, slots := 0, locals := 359 } : Room) (preY D dA cA [.ref h0, .int p1] [(h0, .inr (9, [.ref h1, .ref h21, .int xi, .ref h41, .ref h43, .ref h46, .ref h49, .int xe, .int xf])), (h1, .inr (6, [.int on, .int ot, .int op, .int os, .ref h2, .ref h6, .ref h9, .ref h14, .ref h17])), (h2, .inr (8, [.int sc, .ref h3, .ref h4, .ref h5])), (h3, .inl (dA 0, 4, .inl sd)), (h4, .inl (dA 0, 4, .inl sp)), (h5, .inl (dA 0, 4, .inl sw)), (h9, .inr (0, [.int bc, .ref h10, .ref h11, .ref h12, .ref h13])), (h10, .inl (dA 0, 12, .inl bg)), (h11, .inl (dA 0, 12, .inl bs)), (h12, .inl (dA 0, 12, .inl bt)), (h13, .inl (dA 0, 12, .inl be))]) (poPi rr) 0 0 noA := by
  refine of_Y (y := yL_watched) (cc := cL_watched) (maxL := 6) (ret := (some .int)) (av := [.ref h0, .int p1]) (ws := [(h0, .inr (9, [.ref h1, .ref h21, .int xi, .ref h41, .ref h43, .ref h46, .ref h49, .int xe, .int xf])), (h1, .inr (6, [.int on, .int ot, .int op, .int os, .ref h2, .ref h6, .ref h9, .ref h14, .ref h17])), (h2, .inr (8, [.int sc, .ref h3, .ref h4, .ref h5])), (h3, .inl (dA 0, 4, .inl sd)), (h4, .inl (dA 0, 4, .inl sp)), (h5, .inl (dA 0, 4, .inl sw)), (h9, .inr (0, [.int bc, .ref h10, .ref h11, .ref h12, .ref h13])), (h10, .inl (dA 0, 12, .inl bg)), (h11, .inl (dA 0, 12, .inl bs)), (h12, .inl (dA 0, 12, .inl bt)), (h13, .inl (dA 0, 12, .inl be))]) (own := RL) (by decide) rfl (Nat.le_of_ble_eq_true rfl) ?_
  intro p e s m below meth c hx hb hr ha hown hml hlocks hP hK hX hS ls hl
  have hC := hX.1
  have hl : lv_has ls 6 [(0, .ref h0), (1, .int p1)] := hl
  rw [f_L_watched_11] at hf
  refine lv_iconst (v := 0) hx hb dL_watched_0 (by decide) ?_
  refine lv_istore_n (lv' := [(2, .int (0 : Int32)), (0, .ref h0), (1, .int p1)]) hx hb dL_watched_1 rfl hl (by decide) rfl (fun ls hl => ?_)
  refine lv_iconst (v := 0) hx hb dL_watched_2 (by decide) ?_
  refine lv_istore_n (lv' := [(3, .int (0 : Int32)), (2, .int (0 : Int32)), (0, .ref h0), (1, .int p1)]) hx hb dL_watched_3 rfl hl (by decide) rfl (fun ls hl => ?_)
  have hL4_24 : ∀ (n : Nat) (k : Int32 → Option Int32) (v_1 : Int32) (v_2 : Int32) (H : Heap) (locs : List Loc) (ls : Array Slot), va_P D cls [(h0, .inr (9, [.ref h1, .ref h21, .int xi, .ref h41, .ref h43, .ref h46, .ref h49, .int xe, .int xf])), (h1, .inr (6, [.int on, .int ot, .int op, .int os, .ref h2, .ref h6, .ref h9, .ref h14, .ref h17])), (h2, .inr (8, [.int sc, .ref h3, .ref h4, .ref h5])), (h3, .inl (dA 0, 4, .inl sd)), (h4, .inl (dA 0, 4, .inl sp)), (h5, .inl (dA 0, 4, .inl sw)), (h9, .inr (0, [.int bc, .ref h10, .ref h11, .ref h12, .ref h13])), (h10, .inl (dA 0, 12, .inl bg)), (h11, .inl (dA 0, 12, .inl bs)), (h12, .inl (dA 0, 12, .inl bt)), (h13, .inl (dA 0, 12, .inl be))] H → va_S noA s.heap H locs → lv_has ls 6 [(3, .int v_1), (2, .int v_2), (0, .ref h0), (1, .int p1)] → f_L_watched_11_L4 sc sd bc bs bt p1 k n v_1 v_2 = some rr → (∀ (y_24 : Int32) (H : Heap) (locs : List Loc) (ls : Array Slot), va_P D cls [(h0, .inr (9, [.ref h1, .ref h21, .int xi, .ref h41, .ref h43, .ref h46, .ref h49, .int xe, .int xf])), (h1, .inr (6, [.int on, .int ot, .int op, .int os, .ref h2, .ref h6, .ref h9, .ref h14, .ref h17])), (h2, .inr (8, [.int sc, .ref h3, .ref h4, .ref h5])), (h3, .inl (dA 0, 4, .inl sd)), (h4, .inl (dA 0, 4, .inl sp)), (h5, .inl (dA 0, 4, .inl sw)), (h9, .inr (0, [.int bc, .ref h10, .ref h11, .ref h12, .ref h13])), (h10, .inl (dA 0, 12, .inl bg)), (h11, .inl (dA 0, 12, .inl bs)), (h12, .inl (dA 0, 12, .inl bt)), (h13, .inl (dA 0, 12, .inl be))] H → va_S noA s.heap H locs → lv_has ls 6 [(2, .int y_24)] → k y_24 = some rr → W p l e ({ frames := 15, cells := 0, slots := 0, locals := 359 } : Room) s m ([.ref h0, .int p1] : List Value).toArray below meth c H locs 0 0 (MQ below (poPi rr) ([.ref h0, .int p1] : List Value).toArray s 0 0 noA) (F0 m 133 ls [])) → W p l e ({ frames := 15, cells := 0, slots := 0, locals := 359 } : Room) s m ([.ref h0, .int p1] : List Value).toArray below meth c H locs 0 0 (MQ below (poPi rr) ([.ref h0, .int p1] : List Value).toArray s 0 0 noA) (F0 m 4 ls []) := by
    intro n k
    induction n with
    | zero =>
      intro v_1 v_2 H locs ls hP hS hl hf hk
      rw [f_L_watched_11_L4] at hf
      cases hf
    | succ n ih =>
      intro v_1 v_2 H locs ls hP hS hl hf hk
      rw [f_L_watched_11_L4] at hf
      refine lv_iload_n hx hb dL_watched_4 rfl (lv_at hl 0 rfl) ?_
      refine lv_aload_n hx hb dL_watched_5 rfl (lv_at hl 2 rfl) ?_
      obtain ⟨r_3, hc3, hf⟩ := sf_c1e hf
      refine k_Pi (run_YV (As := []) (rest := [.int v_1]) ⟨hx, hb, hml, hown, ha⟩ (c_X11_bookingCount l D dA cA h0 h1 h2 h6 h9 h10 h11 h12 h13 h14 h17 h21 h41 h43 h46 h49   on ot op os bc xi xe xf  _ hc3) (gi_V m_744 m_745 m_746 m_31 m_747) yd_X11_bookingCount ⟨Nat.le_of_ble_eq_true rfl, Nat.le_of_ble_eq_true rfl⟩ ⟨rfl, rfl⟩ hK hX hS hP [0, 1, 6] rfl (va_recv hK hP (q0 := 0) rfl rfl) rfl hl.1 rfl (Nat.le_of_ble_eq_true rfl) dL_watched_6 ⟨Nat.le_of_ble_eq_true rfl, Nat.le_of_ble_eq_true rfl⟩) hP hS (fun H locs hP hS => ?_)
      refine lv_icmp_ge (tgt := 133) hx hb dL_watched_9 (by decide) (fun hc => ?_) (fun hc => ?_)
      · have hf := sf_bp hf hc
        exact hk _ _ _ _ (hP.sub [0, 1, 2, 3, 4, 5, 6, 7, 8, 9, 10] rfl) hS (lv_sub hl [1] rfl) hf
      · have hf := sf_bn hf hc
        refine lv_aload_n hx hb dL_watched_12 rfl (lv_at hl 2 rfl) ?_
        refine lv_iload_n hx hb dL_watched_13 rfl (lv_at hl 0 rfl) ?_
        obtain ⟨r_4, hc4, hf⟩ := sf_c1e hf
        refine k_Pi (run_YV (As := [.int v_1]) (rest := []) ⟨hx, hb, hml, hown, ha⟩ (c_X11_start l D dA cA h0 h1 h2 h6 h9 h10 h11 h12 h13 h14 h17 h21 h41 h43 h46 h49   on ot op os bc bg bs bt be xi xe xf v_1 _ hc4) (gi_V m_765 m_766 m_767 m_31 m_768) yd_X11_start ⟨Nat.le_of_ble_eq_true rfl, Nat.le_of_ble_eq_true rfl⟩ ⟨rfl, rfl⟩ hK hX hS hP [0, 1, 6, 7, 8, 9, 10] rfl (va_recv hK hP (q0 := 0) rfl rfl) rfl hl.1 rfl (Nat.le_of_ble_eq_true rfl) dL_watched_14 ⟨Nat.le_of_ble_eq_true rfl, Nat.le_of_ble_eq_true rfl⟩) hP hS (fun H locs hP hS => ?_)
        refine lv_iload_n hx hb dL_watched_17 rfl (lv_at hl 3 rfl) ?_
        refine sf_jo (J := fun (k_6 : Int32 → Option Int32) => ∀ (v_5 : Int32) (H : Heap) (locs : List Loc) (ls : Array Slot), va_P D cls [(h0, .inr (9, [.ref h1, .ref h21, .int xi, .ref h41, .ref h43, .ref h46, .ref h49, .int xe, .int xf])), (h1, .inr (6, [.int on, .int ot, .int op, .int os, .ref h2, .ref h6, .ref h9, .ref h14, .ref h17])), (h2, .inr (8, [.int sc, .ref h3, .ref h4, .ref h5])), (h3, .inl (dA 0, 4, .inl sd)), (h4, .inl (dA 0, 4, .inl sp)), (h5, .inl (dA 0, 4, .inl sw)), (h9, .inr (0, [.int bc, .ref h10, .ref h11, .ref h12, .ref h13])), (h10, .inl (dA 0, 12, .inl bg)), (h11, .inl (dA 0, 12, .inl bs)), (h12, .inl (dA 0, 12, .inl bt)), (h13, .inl (dA 0, 12, .inl be))] H → va_S noA s.heap H locs → lv_has ls 6 [(3, .int v_1), (2, .int v_2), (0, .ref h0), (1, .int p1)] → k_6 v_5 = some rr → W p l e ({ frames := 15, cells := 0, slots := 0, locals := 359 } : Room) s m ([.ref h0, .int p1] : List Value).toArray below meth c H locs 0 0 (MQ below (poPi rr) ([.ref h0, .int p1] : List Value).toArray s 0 0 noA) (F0 m 26 ls [.int v_5])) hf (fun v_5 H locs ls hP hS hl hf => ?_) (fun k_6 hJ6 hf => ?_)
        · skip
          refine lv_istore (lv' := [(4, .int v_5), (3, .int v_1), (2, .int v_2), (0, .ref h0), (1, .int p1)]) hx hb dL_watched_26 hl (by decide) rfl (fun ls hl => ?_)
          refine lv_iconst (v := 0) hx hb dL_watched_28 (by decide) ?_
          refine lv_istore (lv' := [(5, .int (0 : Int32)), (4, .int v_5), (3, .int v_1), (2, .int v_2), (0, .ref h0), (1, .int p1)]) hx hb dL_watched_29 hl (by decide) rfl (fun ls hl => ?_)
          have hL31_18 : ∀ (n : Nat) (k : Int32 → Option Int32) (v_7 : Int32) (v_8 : Int32) (H : Heap) (locs : List Loc) (ls : Array Slot), va_P D cls [(h0, .inr (9, [.ref h1, .ref h21, .int xi, .ref h41, .ref h43, .ref h46, .ref h49, .int xe, .int xf])), (h1, .inr (6, [.int on, .int ot, .int op, .int os, .ref h2, .ref h6, .ref h9, .ref h14, .ref h17])), (h2, .inr (8, [.int sc, .ref h3, .ref h4, .ref h5])), (h3, .inl (dA 0, 4, .inl sd)), (h4, .inl (dA 0, 4, .inl sp)), (h5, .inl (dA 0, 4, .inl sw)), (h9, .inr (0, [.int bc, .ref h10, .ref h11, .ref h12, .ref h13])), (h10, .inl (dA 0, 12, .inl bg)), (h11, .inl (dA 0, 12, .inl bs)), (h12, .inl (dA 0, 12, .inl bt)), (h13, .inl (dA 0, 12, .inl be))] H → va_S noA s.heap H locs → lv_has ls 6 [(5, .int v_7), (4, .int v_8), (3, .int v_1), (2, .int v_2), (0, .ref h0), (1, .int p1)] → f_L_watched_11_L31 sc sd bc bs bt p1 v_1 k n v_7 v_8 = some rr → (∀ (y_18 : Int32) (H : Heap) (locs : List Loc) (ls : Array Slot), va_P D cls [(h0, .inr (9, [.ref h1, .ref h21, .int xi, .ref h41, .ref h43, .ref h46, .ref h49, .int xe, .int xf])), (h1, .inr (6, [.int on, .int ot, .int op, .int os, .ref h2, .ref h6, .ref h9, .ref h14, .ref h17])), (h2, .inr (8, [.int sc, .ref h3, .ref h4, .ref h5])), (h3, .inl (dA 0, 4, .inl sd)), (h4, .inl (dA 0, 4, .inl sp)), (h5, .inl (dA 0, 4, .inl sw)), (h9, .inr (0, [.int bc, .ref h10, .ref h11, .ref h12, .ref h13])), (h10, .inl (dA 0, 12, .inl bg)), (h11, .inl (dA 0, 12, .inl bs)), (h12, .inl (dA 0, 12, .inl bt)), (h13, .inl (dA 0, 12, .inl be))] H → va_S noA s.heap H locs → lv_has ls 6 [(4, .int y_18), (3, .int v_1), (2, .int v_2), (0, .ref h0), (1, .int p1)] → k y_18 = some rr → W p l e ({ frames := 15, cells := 0, slots := 0, locals := 359 } : Room) s m ([.ref h0, .int p1] : List Value).toArray below meth c H locs 0 0 (MQ below (poPi rr) ([.ref h0, .int p1] : List Value).toArray s 0 0 noA) (F0 m 102 ls [])) → W p l e ({ frames := 15, cells := 0, slots := 0, locals := 359 } : Room) s m ([.ref h0, .int p1] : List Value).toArray below meth c H locs 0 0 (MQ below (poPi rr) ([.ref h0, .int p1] : List Value).toArray s 0 0 noA) (F0 m 31 ls []) := by
            intro n k
            induction n with
            | zero =>
              intro v_7 v_8 H locs ls hP hS hl hf hk
              rw [f_L_watched_11_L31] at hf
              cases hf
            | succ n ih =>
              intro v_7 v_8 H locs ls hP hS hl hf hk
              rw [f_L_watched_11_L31] at hf
              refine lv_iload hx hb dL_watched_31 (lv_at hl 0 rfl) ?_
              refine lv_aload_n hx hb dL_watched_33 rfl (lv_at hl 4 rfl) ?_
              obtain ⟨r_9, hc9, hf⟩ := sf_c1e hf
              refine k_Pi (run_YV (As := []) (rest := [.int v_7]) ⟨hx, hb, hml, hown, ha⟩ (c_X11_bookingCount l D dA cA h0 h1 h2 h6 h9 h10 h11 h12 h13 h14 h17 h21 h41 h43 h46 h49   on ot op os bc xi xe xf  _ hc9) (gi_V m_744 m_745 m_746 m_31 m_747) yd_X11_bookingCount ⟨Nat.le_of_ble_eq_true rfl, Nat.le_of_ble_eq_true rfl⟩ ⟨rfl, rfl⟩ hK hX hS hP [0, 1, 6] rfl (va_recv hK hP (q0 := 0) rfl rfl) rfl hl.1 rfl (Nat.le_of_ble_eq_true rfl) dL_watched_34 ⟨Nat.le_of_ble_eq_true rfl, Nat.le_of_ble_eq_true rfl⟩) hP hS (fun H locs hP hS => ?_)
              refine lv_icmp_ge (tgt := 102) hx hb dL_watched_37 (by decide) (fun hc => ?_) (fun hc => ?_)
              · have hf := sf_bp hf hc
                exact hk _ _ _ _ (hP.sub [0, 1, 2, 3, 4, 5, 6, 7, 8, 9, 10] rfl) hS (lv_sub hl [1, 2, 3, 4, 5] rfl) hf
              · have hf := sf_bn hf hc
                refine lv_iload hx hb dL_watched_40 (lv_at hl 1 rfl) ?_
                refine lv_if_eq (tgt := 102) hx hb dL_watched_42 (by decide) (fun hc => ?_) (fun hc => ?_)
                · have hf := sf_bp hf hc
                  exact hk _ _ _ _ (hP.sub [0, 1, 2, 3, 4, 5, 6, 7, 8, 9, 10] rfl) hS (lv_sub hl [1, 2, 3, 4, 5] rfl) hf
                · have hf := sf_bn hf hc
                  refine lv_aload_n hx hb dL_watched_45 rfl (lv_at hl 4 rfl) ?_
                  refine lv_iload hx hb dL_watched_46 (lv_at hl 0 rfl) ?_
                  obtain ⟨r_10, hc10, hf⟩ := sf_c1e hf
                  refine k_Pi (run_YV (As := [.int v_7]) (rest := []) ⟨hx, hb, hml, hown, ha⟩ (c_X11_start l D dA cA h0 h1 h2 h6 h9 h10 h11 h12 h13 h14 h17 h21 h41 h43 h46 h49   on ot op os bc bg bs bt be xi xe xf v_7 _ hc10) (gi_V m_765 m_766 m_767 m_31 m_768) yd_X11_start ⟨Nat.le_of_ble_eq_true rfl, Nat.le_of_ble_eq_true rfl⟩ ⟨rfl, rfl⟩ hK hX hS hP [0, 1, 6, 7, 8, 9, 10] rfl (va_recv hK hP (q0 := 0) rfl rfl) rfl hl.1 rfl (Nat.le_of_ble_eq_true rfl) dL_watched_48 ⟨Nat.le_of_ble_eq_true rfl, Nat.le_of_ble_eq_true rfl⟩) hP hS (fun H locs hP hS => ?_)
                  refine lv_iload_n hx hb dL_watched_51 rfl (lv_at hl 5 rfl) ?_
                  refine sf_jo (J := fun (k_12 : Int32 → Option Int32) => ∀ (v_11 : Int32) (H : Heap) (locs : List Loc) (ls : Array Slot), va_P D cls [(h0, .inr (9, [.ref h1, .ref h21, .int xi, .ref h41, .ref h43, .ref h46, .ref h49, .int xe, .int xf])), (h1, .inr (6, [.int on, .int ot, .int op, .int os, .ref h2, .ref h6, .ref h9, .ref h14, .ref h17])), (h2, .inr (8, [.int sc, .ref h3, .ref h4, .ref h5])), (h3, .inl (dA 0, 4, .inl sd)), (h4, .inl (dA 0, 4, .inl sp)), (h5, .inl (dA 0, 4, .inl sw)), (h9, .inr (0, [.int bc, .ref h10, .ref h11, .ref h12, .ref h13])), (h10, .inl (dA 0, 12, .inl bg)), (h11, .inl (dA 0, 12, .inl bs)), (h12, .inl (dA 0, 12, .inl bt)), (h13, .inl (dA 0, 12, .inl be))] H → va_S noA s.heap H locs → lv_has ls 6 [(5, .int v_7), (3, .int v_1), (2, .int v_2), (0, .ref h0), (1, .int p1)] → k_12 v_11 = some rr → W p l e ({ frames := 15, cells := 0, slots := 0, locals := 359 } : Room) s m ([.ref h0, .int p1] : List Value).toArray below meth c H locs 0 0 (MQ below (poPi rr) ([.ref h0, .int p1] : List Value).toArray s 0 0 noA) (F0 m 94 ls [.int v_11])) hf (fun v_11 H locs ls hP hS hl hf => ?_) (fun k_12 hJ12 hf => ?_)
                  · skip
                    refine lv_istore (lv' := [(4, .int v_11), (5, .int v_7), (3, .int v_1), (2, .int v_2), (0, .ref h0), (1, .int p1)]) hx hb dL_watched_94 hl (by decide) rfl (fun ls hl => ?_)
                    obtain ⟨x_13, ex_13, hf⟩ := sf_ne hf
                    refine ii_nc (lv' := [(5, .int x_13), (4, .int v_11), (3, .int v_1), (2, .int v_2), (0, .ref h0), (1, .int p1)]) (k := 1) hx hb dL_watched_96 hl rfl ex_13 (by decide) (by decide) rfl (fun ls hl => ?_)
                    refine lv_goto (tgt := 31) hx hb dL_watched_99 (by decide) ?_
                    exact ih _ _ _ _ _ (hP.sub [0, 1, 2, 3, 4, 5, 6, 7, 8, 9, 10] rfl) hS (lv_sub hl [0, 1, 2, 3, 4, 5] rfl) hf hk
                  refine lv_icmp_lt (tgt := 89) hx hb dL_watched_52 (by decide) (fun hc => ?_) (fun hc => ?_)
                  · have hf := sf_bp hf hc
                    refine lv_iconst (v := 1) hx hb dL_watched_89 (by decide) ?_
                    refine lv_goto (tgt := 94) hx hb dL_watched_90 (by decide) ?_
                    exact hJ12 _ _ _ _ (hP.sub [0, 1, 2, 3, 4, 5, 6, 7, 8, 9, 10] rfl) hS (lv_sub hl [0, 2, 3, 4, 5] rfl) hf
                  · have hf := sf_bn hf hc
                    refine lv_aload_n hx hb dL_watched_55 rfl (lv_at hl 4 rfl) ?_
                    refine lv_iload hx hb dL_watched_56 (lv_at hl 0 rfl) ?_
                    obtain ⟨r_14, hc14, hf⟩ := sf_c1e hf
                    refine k_Pi (run_YS (As := [.ref h0, .int v_7]) (rest := []) ⟨hx, hb, hml, hown, ha⟩ (c_L_endOf l D dA cA h0 h1 h2 h3 h4 h5 h6 h9 h10 h11 h12 h13 h14 h17 h21 h41 h43 h46 h49   on ot op os sc sd sp sw bc bg bs bt be xi xe xf v_7 _ hc14) (gi_S2 m_769 m_770 m_30 m_771) (yd_L_endOf).2 ⟨Nat.le_of_ble_eq_true rfl, Nat.le_of_ble_eq_true rfl⟩ ⟨rfl, rfl⟩ hK hX hS hP [0, 1, 2, 3, 4, 5, 6, 7, 8, 9, 10] rfl rfl hl.1 rfl (Nat.le_of_ble_eq_true rfl) dL_watched_58 ⟨Nat.le_of_ble_eq_true rfl, Nat.le_of_ble_eq_true rfl⟩) hP hS (fun H locs hP hS => ?_)
                    refine lv_aload_n hx hb dL_watched_61 rfl (lv_at hl 4 rfl) ?_
                    refine lv_iload_n hx hb dL_watched_62 rfl (lv_at hl 2 rfl) ?_
                    obtain ⟨r_15, hc15, hf⟩ := sf_c1e hf
                    refine k_Pi (run_YS (As := [.ref h0, .int v_1]) (rest := [.int r_14]) ⟨hx, hb, hml, hown, ha⟩ (c_L_endOf l D dA cA h0 h1 h2 h3 h4 h5 h6 h9 h10 h11 h12 h13 h14 h17 h21 h41 h43 h46 h49   on ot op os sc sd sp sw bc bg bs bt be xi xe xf v_1 _ hc15) (gi_S2 m_769 m_770 m_30 m_771) (yd_L_endOf).2 ⟨Nat.le_of_ble_eq_true rfl, Nat.le_of_ble_eq_true rfl⟩ ⟨rfl, rfl⟩ hK hX hS hP [0, 1, 2, 3, 4, 5, 6, 7, 8, 9, 10] rfl rfl hl.1 rfl (Nat.le_of_ble_eq_true rfl) dL_watched_63 ⟨Nat.le_of_ble_eq_true rfl, Nat.le_of_ble_eq_true rfl⟩) hP hS (fun H locs hP hS => ?_)
                    refine lv_icmp_gt (tgt := 89) hx hb dL_watched_66 (by decide) (fun hc => ?_) (fun hc => ?_)
                    · have hf := sf_bp hf hc
                      refine lv_iconst (v := 1) hx hb dL_watched_89 (by decide) ?_
                      refine lv_goto (tgt := 94) hx hb dL_watched_90 (by decide) ?_
                      exact hJ12 _ _ _ _ (hP.sub [0, 1, 2, 3, 4, 5, 6, 7, 8, 9, 10] rfl) hS (lv_sub hl [0, 2, 3, 4, 5] rfl) hf
                    · have hf := sf_bn hf hc
                      refine lv_aload_n hx hb dL_watched_69 rfl (lv_at hl 4 rfl) ?_
                      refine lv_iload hx hb dL_watched_70 (lv_at hl 0 rfl) ?_
                      obtain ⟨r_16, hc16, hf⟩ := sf_c1e hf
                      refine k_Pi (run_YS (As := [.ref h0, .int v_7]) (rest := []) ⟨hx, hb, hml, hown, ha⟩ (c_L_endOf l D dA cA h0 h1 h2 h3 h4 h5 h6 h9 h10 h11 h12 h13 h14 h17 h21 h41 h43 h46 h49   on ot op os sc sd sp sw bc bg bs bt be xi xe xf v_7 _ hc16) (gi_S2 m_769 m_770 m_30 m_771) (yd_L_endOf).2 ⟨Nat.le_of_ble_eq_true rfl, Nat.le_of_ble_eq_true rfl⟩ ⟨rfl, rfl⟩ hK hX hS hP [0, 1, 2, 3, 4, 5, 6, 7, 8, 9, 10] rfl rfl hl.1 rfl (Nat.le_of_ble_eq_true rfl) dL_watched_72 ⟨Nat.le_of_ble_eq_true rfl, Nat.le_of_ble_eq_true rfl⟩) hP hS (fun H locs hP hS => ?_)
                      refine lv_aload_n hx hb dL_watched_75 rfl (lv_at hl 4 rfl) ?_
                      refine lv_iload_n hx hb dL_watched_76 rfl (lv_at hl 2 rfl) ?_
                      obtain ⟨r_17, hc17, hf⟩ := sf_c1e hf
                      refine k_Pi (run_YS (As := [.ref h0, .int v_1]) (rest := [.int r_16]) ⟨hx, hb, hml, hown, ha⟩ (c_L_endOf l D dA cA h0 h1 h2 h3 h4 h5 h6 h9 h10 h11 h12 h13 h14 h17 h21 h41 h43 h46 h49   on ot op os sc sd sp sw bc bg bs bt be xi xe xf v_1 _ hc17) (gi_S2 m_769 m_770 m_30 m_771) (yd_L_endOf).2 ⟨Nat.le_of_ble_eq_true rfl, Nat.le_of_ble_eq_true rfl⟩ ⟨rfl, rfl⟩ hK hX hS hP [0, 1, 2, 3, 4, 5, 6, 7, 8, 9, 10] rfl rfl hl.1 rfl (Nat.le_of_ble_eq_true rfl) dL_watched_77 ⟨Nat.le_of_ble_eq_true rfl, Nat.le_of_ble_eq_true rfl⟩) hP hS (fun H locs hP hS => ?_)
                      refine lv_icmp_ne (tgt := 93) hx hb dL_watched_80 (by decide) (fun hc => ?_) (fun hc => ?_)
                      · have hf := sf_bn hf hc
                        refine lv_iconst (v := 0) hx hb dL_watched_93 (by decide) ?_
                        exact hJ12 _ _ _ _ (hP.sub [0, 1, 2, 3, 4, 5, 6, 7, 8, 9, 10] rfl) hS (lv_sub hl [0, 2, 3, 4, 5] rfl) hf
                      · have hf := sf_bp hf hc
                        refine lv_iload hx hb dL_watched_83 (lv_at hl 0 rfl) ?_
                        refine lv_iload_n hx hb dL_watched_85 rfl (lv_at hl 2 rfl) ?_
                        refine lv_icmp_lt (tgt := 93) hx hb dL_watched_86 (by decide) (fun hc => ?_) (fun hc => ?_)
                        · have hf := sf_bp hf hc
                          refine lv_iconst (v := 0) hx hb dL_watched_93 (by decide) ?_
                          exact hJ12 _ _ _ _ (hP.sub [0, 1, 2, 3, 4, 5, 6, 7, 8, 9, 10] rfl) hS (lv_sub hl [0, 2, 3, 4, 5] rfl) hf
                        · have hf := sf_bn hf hc
                          refine lv_iconst (v := 1) hx hb dL_watched_89 (by decide) ?_
                          refine lv_goto (tgt := 94) hx hb dL_watched_90 (by decide) ?_
                          exact hJ12 _ _ _ _ (hP.sub [0, 1, 2, 3, 4, 5, 6, 7, 8, 9, 10] rfl) hS (lv_sub hl [0, 2, 3, 4, 5] rfl) hf
          refine hL31_18 2000 _ _ _ _ _ _ hP hS (lv_sub hl [0, 1, 2, 3, 4, 5] rfl) hf (fun y_18 H locs ls hP hS hl hf => ?_)
          refine lv_iload hx hb dL_watched_102 (lv_at hl 0 rfl) ?_
          refine sf_jo (J := fun (k_20 : Int32 → Option Int32) => ∀ (v_19 : Int32) (H : Heap) (locs : List Loc) (ls : Array Slot), va_P D cls [(h0, .inr (9, [.ref h1, .ref h21, .int xi, .ref h41, .ref h43, .ref h46, .ref h49, .int xe, .int xf])), (h1, .inr (6, [.int on, .int ot, .int op, .int os, .ref h2, .ref h6, .ref h9, .ref h14, .ref h17])), (h2, .inr (8, [.int sc, .ref h3, .ref h4, .ref h5])), (h3, .inl (dA 0, 4, .inl sd)), (h4, .inl (dA 0, 4, .inl sp)), (h5, .inl (dA 0, 4, .inl sw)), (h9, .inr (0, [.int bc, .ref h10, .ref h11, .ref h12, .ref h13])), (h10, .inl (dA 0, 12, .inl bg)), (h11, .inl (dA 0, 12, .inl bs)), (h12, .inl (dA 0, 12, .inl bt)), (h13, .inl (dA 0, 12, .inl be))] H → va_S noA s.heap H locs → lv_has ls 6 [(3, .int v_1), (0, .ref h0), (1, .int p1)] → k_20 v_19 = some rr → W p l e ({ frames := 15, cells := 0, slots := 0, locals := 359 } : Room) s m ([.ref h0, .int p1] : List Value).toArray below meth c H locs 0 0 (MQ below (poPi rr) ([.ref h0, .int p1] : List Value).toArray s 0 0 noA) (F0 m 126 ls [.int v_19])) hf (fun v_19 H locs ls hP hS hl hf => ?_) (fun k_20 hJ20 hf => ?_)
          · skip
            refine lv_istore_n (lv' := [(2, .int v_19), (3, .int v_1), (0, .ref h0), (1, .int p1)]) hx hb dL_watched_126 rfl hl (by decide) rfl (fun ls hl => ?_)
            obtain ⟨x_21, ex_21, hf⟩ := sf_ne hf
            refine ii_nc (lv' := [(3, .int x_21), (2, .int v_19), (0, .ref h0), (1, .int p1)]) (k := 1) hx hb dL_watched_127 hl rfl ex_21 (by decide) (by decide) rfl (fun ls hl => ?_)
            refine lv_goto (tgt := 4) hx hb dL_watched_130 (by decide) ?_
            exact ih _ _ _ _ _ (hP.sub [0, 1, 2, 3, 4, 5, 6, 7, 8, 9, 10] rfl) hS (lv_sub hl [0, 1, 2, 3] rfl) hf hk
          refine lv_if_eq (tgt := 125) hx hb dL_watched_104 (by decide) (fun hc => ?_) (fun hc => ?_)
          · have hf := sf_bp hf hc
            refine lv_iload_n hx hb dL_watched_125 rfl (lv_at hl 2 rfl) ?_
            exact hJ20 _ _ _ _ (hP.sub [0, 1, 2, 3, 4, 5, 6, 7, 8, 9, 10] rfl) hS (lv_sub hl [1, 3, 4] rfl) hf
          · have hf := sf_bn hf hc
            refine lv_iload_n hx hb dL_watched_107 rfl (lv_at hl 2 rfl) ?_
            refine lv_iconst (v := 1) hx hb dL_watched_108 (by decide) ?_
            refine lv_aload_n hx hb dL_watched_109 rfl (lv_at hl 3 rfl) ?_
            refine lv_aload_n hx hb dL_watched_110 rfl (lv_at hl 3 rfl) ?_
            refine lv_iload_n hx hb dL_watched_111 rfl (lv_at hl 1 rfl) ?_
            obtain ⟨r_22, hc22, hf⟩ := sf_c1e hf
            refine k_Pi (run_YS (As := [.ref h0, .int v_1]) (rest := [.ref h0, .int (1 : Int32), .int v_2]) ⟨hx, hb, hml, hown, ha⟩ (c_L_endOf l D dA cA h0 h1 h2 h3 h4 h5 h6 h9 h10 h11 h12 h13 h14 h17 h21 h41 h43 h46 h49   on ot op os sc sd sp sw bc bg bs bt be xi xe xf v_1 _ hc22) (gi_S2 m_769 m_770 m_30 m_771) (yd_L_endOf).2 ⟨Nat.le_of_ble_eq_true rfl, Nat.le_of_ble_eq_true rfl⟩ ⟨rfl, rfl⟩ hK hX hS hP [0, 1, 2, 3, 4, 5, 6, 7, 8, 9, 10] rfl rfl hl.1 rfl (Nat.le_of_ble_eq_true rfl) dL_watched_112 ⟨Nat.le_of_ble_eq_true rfl, Nat.le_of_ble_eq_true rfl⟩) hP hS (fun H locs hP hS => ?_)
            obtain ⟨r_23, hc23, hf⟩ := sf_c1e hf
            refine k_Pi (run_YS (As := [.ref h0, .int r_22]) (rest := [.int (1 : Int32), .int v_2]) ⟨hx, hb, hml, hown, ha⟩ (c_L_watched_10 l D dA cA h0 h1 h2 h3 h4 h5 h6 h9 h10 h11 h12 h13 h14 h17 h21 h41 h43 h46 h49   on ot op os sc sd sp sw bc bg bs bt be xi xe xf r_22 _ hc23) (gi_S2 m_847 m_848 m_30 m_849) (yd_L_watched_10).2 ⟨Nat.le_of_ble_eq_true rfl, Nat.le_of_ble_eq_true rfl⟩ ⟨rfl, rfl⟩ hK hX hS hP [0, 1, 2, 3, 4, 5, 6, 7, 8, 9, 10] rfl rfl hl.1 rfl (Nat.le_of_ble_eq_true rfl) dL_watched_115 ⟨Nat.le_of_ble_eq_true rfl, Nat.le_of_ble_eq_true rfl⟩) hP hS (fun H locs hP hS => ?_)
            refine lv_iadd hx hb dL_watched_118 ?_
            refine mx_i hx hb ha hown hml hl.1 m_785 m_786 m_54 m_787 ⟨Nat.le_of_ble_eq_true rfl, Nat.le_of_ble_eq_true rfl⟩ ⟨Nat.le_of_ble_eq_true rfl, Nat.le_of_ble_eq_true rfl⟩ dL_watched_119 ?_
            refine lv_goto (tgt := 126) hx hb dL_watched_122 (by decide) ?_
            exact hJ20 _ _ _ _ (hP.sub [0, 1, 2, 3, 4, 5, 6, 7, 8, 9, 10] rfl) hS (lv_sub hl [1, 3, 4] rfl) hf
        refine lv_icmp_lt (tgt := 25) hx hb dL_watched_18 (by decide) (fun hc => ?_) (fun hc => ?_)
        · have hf := sf_bp hf hc
          refine lv_iconst (v := 0) hx hb dL_watched_25 (by decide) ?_
          exact hJ6 _ _ _ _ (hP.sub [0, 1, 2, 3, 4, 5, 6, 7, 8, 9, 10] rfl) hS (lv_sub hl [0, 1, 2, 3] rfl) hf
        · have hf := sf_bn hf hc
          refine lv_iconst (v := 1) hx hb dL_watched_21 (by decide) ?_
          refine lv_goto (tgt := 26) hx hb dL_watched_22 (by decide) ?_
          exact hJ6 _ _ _ _ (hP.sub [0, 1, 2, 3, 4, 5, 6, 7, 8, 9, 10] rfl) hS (lv_sub hl [0, 1, 2, 3] rfl) hf
  refine hL4_24 2000 _ _ _ _ _ _ hP hS (lv_sub hl [0, 1, 2, 3] rfl) hf (fun y_24 H locs ls hP hS hl hf => ?_)
  refine lv_iload_n hx hb dL_watched_133 rfl (lv_at hl 0 rfl) ?_
  exact rt_Pi hx hb hr hlocks (Option.some.inj hf) hS dL_watched_134

def f_L_watched_12_L31 (sc : Int32) (sd : Nat → Int32) (bc : Int32) (bs : Nat → Int32) (bt : Nat → Int32) (p1 : Int32) (v_1 : Int32) (k : Int32 → Option Int32) : Nat → Int32 → Int32 → Option Int32
  | 0, _, _ => none
  | n + 1, v_7, v_8 => sf_c1 (f_X11_bookingCount bc) (fun r_9 => sf_b (r_9 ≤ v_7) (k v_8) (sf_b (v_8 = (0 : Int32)) (k v_8) (sf_c1 (f_X11_start bc bt v_7) (fun r_10 => sf_j (fun (v_11 : Int32) => sf_n (v_7 + (1 : Int32)) (fun x_13 => f_L_watched_12_L31 sc sd bc bs bt p1 v_1 k n x_13 v_11)) (fun k_12 => sf_b (r_10 < p1) (k_12 (1 : Int32)) (sf_c1 (f_L_endOf sc sd bc bs bt v_7) (fun r_14 => sf_c1 (f_L_endOf sc sd bc bs bt v_1) (fun r_15 => sf_b (r_15 < r_14) (k_12 (1 : Int32)) (sf_c1 (f_L_endOf sc sd bc bs bt v_7) (fun r_16 => sf_c1 (f_L_endOf sc sd bc bs bt v_1) (fun r_17 => sf_b (r_16 = r_17) (sf_b (v_7 < v_1) (k_12 (0 : Int32)) (k_12 (1 : Int32))) (k_12 (0 : Int32)))))))))))))
def f_L_watched_12_L4 (sc : Int32) (sd : Nat → Int32) (bc : Int32) (bs : Nat → Int32) (bt : Nat → Int32) (p1 : Int32) (k : Int32 → Option Int32) : Nat → Int32 → Int32 → Option Int32
  | 0, _, _ => none
  | n + 1, v_1, v_2 => sf_c1 (f_X11_bookingCount bc) (fun r_3 => sf_b (r_3 ≤ v_1) (k v_2) (sf_c1 (f_X11_start bc bt v_1) (fun r_4 => sf_j (fun (v_5 : Int32) => f_L_watched_12_L31 sc sd bc bs bt p1 v_1 (fun y_18 => sf_j (fun (v_19 : Int32) => sf_n (v_1 + (1 : Int32)) (fun x_21 => f_L_watched_12_L4 sc sd bc bs bt p1 k n x_21 v_19)) (fun k_20 => sf_b (y_18 = (0 : Int32)) (k_20 v_2) (sf_c1 (f_L_endOf sc sd bc bs bt v_1) (fun r_22 => sf_c1 (f_L_watched_11 sc sd bc bs bt r_22) (fun r_23 => k_20 (if v_2 < ((1 : Int32) + r_23) then ((1 : Int32) + r_23) else v_2)))))) 2000 (0 : Int32) v_5) (fun k_6 => sf_b (r_4 < p1) (k_6 (0 : Int32)) (k_6 (1 : Int32))))))
def f_L_watched_12 (sc : Int32) (sd : Nat → Int32) (bc : Int32) (bs : Nat → Int32) (bt : Nat → Int32) (p1 : Int32) : Option Int32 :=
  f_L_watched_12_L4 sc sd bc bs bt p1 (fun y_24 => some y_24) 2000 (0 : Int32) (0 : Int32)
theorem yd_L_watched_12 : yL_watched.cls = RL ∧ yL_watched.cls ≠ "java/lang/invoke/MethodHandle" ∧ yL_watched.cls ≠ "java/lang/invoke/VarHandle" ∧ (parseMethodDescriptor yL_watched.desc).map (fun d => d.parameters.length) = some 2 := ⟨rfl, by decide, by decide, by decide +kernel⟩
set_option maxRecDepth 100000 in
set_option maxHeartbeats 8000000 in
theorem c_L_watched_12 (l : Launch) (D : va_G) (dA : Nat → ClassId) (cA : Nat → Nat) (h0 h1 h2 h3 h4 h5 h6 h9 h10 h11 h12 h13 h14 h17 h21 h41 h43 h46 h49 : Nat) (on : Int32) (ot : Int32) (op : Int32) (os : Int32) (sc : Int32) (sd : Nat → Int32) (sp : Nat → Int32) (sw : Nat → Int32) (bc : Int32) (bg : Nat → Int32) (bs : Nat → Int32) (bt : Nat → Int32) (be : Nat → Int32) (xi : Int32) (xe : Int32) (xf : Int32) (p1 : Int32) (rr : Int32) (hf : f_L_watched_12 sc sd bc bs bt p1 = some rr) : Met l yL_watched (wo (.code yL_watched cL_watched 6 (some .int))) ({ frames := 16, cells := 0, slots := 0, locals := 384 } : Room) (preY D dA cA [.ref h0, .int p1] [(h0, .inr (9, [.ref h1, .ref h21, .int xi, .ref h41, .ref h43, .ref h46, .ref h49, .int xe, .int xf])), (h1, .inr (6, [.int on, .int ot, .int op, .int os, .ref h2, .ref h6, .ref h9, .ref h14, .ref h17])), (h2, .inr (8, [.int sc, .ref h3, .ref h4, .ref h5])), (h3, .inl (dA 0, 4, .inl sd)), (h4, .inl (dA 0, 4, .inl sp)), (h5, .inl (dA 0, 4, .inl sw)), (h9, .inr (0, [.int bc, .ref h10, .ref h11, .ref h12, .ref h13])), (h10, .inl (dA 0, 12, .inl bg)), (h11, .inl (dA 0, 12, .inl bs)), (h12, .inl (dA 0, 12, .inl bt)), (h13, .inl (dA 0, 12, .inl be))]) (poPi rr) 0 0 noA := by
  refine of_Y (y := yL_watched) (cc := cL_watched) (maxL := 6) (ret := (some .int)) (av := [.ref h0, .int p1]) (ws := [(h0, .inr (9, [.ref h1, .ref h21, .int xi, .ref h41, .ref h43, .ref h46, .ref h49, .int xe, .int xf])), (h1, .inr (6, [.int on, .int ot, .int op, .int os, .ref h2, .ref h6, .ref h9, .ref h14, .ref h17])), (h2, .inr (8, [.int sc, .ref h3, .ref h4, .ref h5])), (h3, .inl (dA 0, 4, .inl sd)), (h4, .inl (dA 0, 4, .inl sp)), (h5, .inl (dA 0, 4, .inl sw)), (h9, .inr (0, [.int bc, .ref h10, .ref h11, .ref h12, .ref h13])), (h10, .inl (dA 0, 12, .inl bg)), (h11, .inl (dA 0, 12, .inl bs)), (h12, .inl (dA 0, 12, .inl bt)), (h13, .inl (dA 0, 12, .inl be))]) (own := RL) (by decide) rfl (Nat.le_of_ble_eq_true rfl) ?_
  intro p e s m below meth c hx hb hr ha hown hml hlocks hP hK hX hS ls hl
  have hC := hX.1
  have hl : lv_has ls 6 [(0, .ref h0), (1, .int p1)] := hl
  rw [f_L_watched_12] at hf
  refine lv_iconst (v := 0) hx hb dL_watched_0 (by decide) ?_
  refine lv_istore_n (lv' := [(2, .int (0 : Int32)), (0, .ref h0), (1, .int p1)]) hx hb dL_watched_1 rfl hl (by decide) rfl (fun ls hl => ?_)
  refine lv_iconst (v := 0) hx hb dL_watched_2 (by decide) ?_
  refine lv_istore_n (lv' := [(3, .int (0 : Int32)), (2, .int (0 : Int32)), (0, .ref h0), (1, .int p1)]) hx hb dL_watched_3 rfl hl (by decide) rfl (fun ls hl => ?_)
  have hL4_24 : ∀ (n : Nat) (k : Int32 → Option Int32) (v_1 : Int32) (v_2 : Int32) (H : Heap) (locs : List Loc) (ls : Array Slot), va_P D cls [(h0, .inr (9, [.ref h1, .ref h21, .int xi, .ref h41, .ref h43, .ref h46, .ref h49, .int xe, .int xf])), (h1, .inr (6, [.int on, .int ot, .int op, .int os, .ref h2, .ref h6, .ref h9, .ref h14, .ref h17])), (h2, .inr (8, [.int sc, .ref h3, .ref h4, .ref h5])), (h3, .inl (dA 0, 4, .inl sd)), (h4, .inl (dA 0, 4, .inl sp)), (h5, .inl (dA 0, 4, .inl sw)), (h9, .inr (0, [.int bc, .ref h10, .ref h11, .ref h12, .ref h13])), (h10, .inl (dA 0, 12, .inl bg)), (h11, .inl (dA 0, 12, .inl bs)), (h12, .inl (dA 0, 12, .inl bt)), (h13, .inl (dA 0, 12, .inl be))] H → va_S noA s.heap H locs → lv_has ls 6 [(3, .int v_1), (2, .int v_2), (0, .ref h0), (1, .int p1)] → f_L_watched_12_L4 sc sd bc bs bt p1 k n v_1 v_2 = some rr → (∀ (y_24 : Int32) (H : Heap) (locs : List Loc) (ls : Array Slot), va_P D cls [(h0, .inr (9, [.ref h1, .ref h21, .int xi, .ref h41, .ref h43, .ref h46, .ref h49, .int xe, .int xf])), (h1, .inr (6, [.int on, .int ot, .int op, .int os, .ref h2, .ref h6, .ref h9, .ref h14, .ref h17])), (h2, .inr (8, [.int sc, .ref h3, .ref h4, .ref h5])), (h3, .inl (dA 0, 4, .inl sd)), (h4, .inl (dA 0, 4, .inl sp)), (h5, .inl (dA 0, 4, .inl sw)), (h9, .inr (0, [.int bc, .ref h10, .ref h11, .ref h12, .ref h13])), (h10, .inl (dA 0, 12, .inl bg)), (h11, .inl (dA 0, 12, .inl bs)), (h12, .inl (dA 0, 12, .inl bt)), (h13, .inl (dA 0, 12, .inl be))] H → va_S noA s.heap H locs → lv_has ls 6 [(2, .int y_24)] → k y_24 = some rr → W p l e ({ frames := 16, cells := 0, slots := 0, locals := 384 } : Room) s m ([.ref h0, .int p1] : List Value).toArray below meth c H locs 0 0 (MQ below (poPi rr) ([.ref h0, .int p1] : List Value).toArray s 0 0 noA) (F0 m 133 ls [])) → W p l e ({ frames := 16, cells := 0, slots := 0, locals := 384 } : Room) s m ([.ref h0, .int p1] : List Value).toArray below meth c H locs 0 0 (MQ below (poPi rr) ([.ref h0, .int p1] : List Value).toArray s 0 0 noA) (F0 m 4 ls []) := by
    intro n k
    induction n with
    | zero =>
      intro v_1 v_2 H locs ls hP hS hl hf hk
      rw [f_L_watched_12_L4] at hf
      cases hf
    | succ n ih =>
      intro v_1 v_2 H locs ls hP hS hl hf hk
      rw [f_L_watched_12_L4] at hf
      refine lv_iload_n hx hb dL_watched_4 rfl (lv_at hl 0 rfl) ?_
      refine lv_aload_n hx hb dL_watched_5 rfl (lv_at hl 2 rfl) ?_
      obtain ⟨r_3, hc3, hf⟩ := sf_c1e hf
      refine k_Pi (run_YV (As := []) (rest := [.int v_1]) ⟨hx, hb, hml, hown, ha⟩ (c_X11_bookingCount l D dA cA h0 h1 h2 h6 h9 h10 h11 h12 h13 h14 h17 h21 h41 h43 h46 h49   on ot op os bc xi xe xf  _ hc3) (gi_V m_744 m_745 m_746 m_31 m_747) yd_X11_bookingCount ⟨Nat.le_of_ble_eq_true rfl, Nat.le_of_ble_eq_true rfl⟩ ⟨rfl, rfl⟩ hK hX hS hP [0, 1, 6] rfl (va_recv hK hP (q0 := 0) rfl rfl) rfl hl.1 rfl (Nat.le_of_ble_eq_true rfl) dL_watched_6 ⟨Nat.le_of_ble_eq_true rfl, Nat.le_of_ble_eq_true rfl⟩) hP hS (fun H locs hP hS => ?_)
      refine lv_icmp_ge (tgt := 133) hx hb dL_watched_9 (by decide) (fun hc => ?_) (fun hc => ?_)
      · have hf := sf_bp hf hc
        exact hk _ _ _ _ (hP.sub [0, 1, 2, 3, 4, 5, 6, 7, 8, 9, 10] rfl) hS (lv_sub hl [1] rfl) hf
      · have hf := sf_bn hf hc
        refine lv_aload_n hx hb dL_watched_12 rfl (lv_at hl 2 rfl) ?_
        refine lv_iload_n hx hb dL_watched_13 rfl (lv_at hl 0 rfl) ?_
        obtain ⟨r_4, hc4, hf⟩ := sf_c1e hf
        refine k_Pi (run_YV (As := [.int v_1]) (rest := []) ⟨hx, hb, hml, hown, ha⟩ (c_X11_start l D dA cA h0 h1 h2 h6 h9 h10 h11 h12 h13 h14 h17 h21 h41 h43 h46 h49   on ot op os bc bg bs bt be xi xe xf v_1 _ hc4) (gi_V m_765 m_766 m_767 m_31 m_768) yd_X11_start ⟨Nat.le_of_ble_eq_true rfl, Nat.le_of_ble_eq_true rfl⟩ ⟨rfl, rfl⟩ hK hX hS hP [0, 1, 6, 7, 8, 9, 10] rfl (va_recv hK hP (q0 := 0) rfl rfl) rfl hl.1 rfl (Nat.le_of_ble_eq_true rfl) dL_watched_14 ⟨Nat.le_of_ble_eq_true rfl, Nat.le_of_ble_eq_true rfl⟩) hP hS (fun H locs hP hS => ?_)
        refine lv_iload_n hx hb dL_watched_17 rfl (lv_at hl 3 rfl) ?_
        refine sf_jo (J := fun (k_6 : Int32 → Option Int32) => ∀ (v_5 : Int32) (H : Heap) (locs : List Loc) (ls : Array Slot), va_P D cls [(h0, .inr (9, [.ref h1, .ref h21, .int xi, .ref h41, .ref h43, .ref h46, .ref h49, .int xe, .int xf])), (h1, .inr (6, [.int on, .int ot, .int op, .int os, .ref h2, .ref h6, .ref h9, .ref h14, .ref h17])), (h2, .inr (8, [.int sc, .ref h3, .ref h4, .ref h5])), (h3, .inl (dA 0, 4, .inl sd)), (h4, .inl (dA 0, 4, .inl sp)), (h5, .inl (dA 0, 4, .inl sw)), (h9, .inr (0, [.int bc, .ref h10, .ref h11, .ref h12, .ref h13])), (h10, .inl (dA 0, 12, .inl bg)), (h11, .inl (dA 0, 12, .inl bs)), (h12, .inl (dA 0, 12, .inl bt)), (h13, .inl (dA 0, 12, .inl be))] H → va_S noA s.heap H locs → lv_has ls 6 [(3, .int v_1), (2, .int v_2), (0, .ref h0), (1, .int p1)] → k_6 v_5 = some rr → W p l e ({ frames := 16, cells := 0, slots := 0, locals := 384 } : Room) s m ([.ref h0, .int p1] : List Value).toArray below meth c H locs 0 0 (MQ below (poPi rr) ([.ref h0, .int p1] : List Value).toArray s 0 0 noA) (F0 m 26 ls [.int v_5])) hf (fun v_5 H locs ls hP hS hl hf => ?_) (fun k_6 hJ6 hf => ?_)
        · skip
          refine lv_istore (lv' := [(4, .int v_5), (3, .int v_1), (2, .int v_2), (0, .ref h0), (1, .int p1)]) hx hb dL_watched_26 hl (by decide) rfl (fun ls hl => ?_)
          refine lv_iconst (v := 0) hx hb dL_watched_28 (by decide) ?_
          refine lv_istore (lv' := [(5, .int (0 : Int32)), (4, .int v_5), (3, .int v_1), (2, .int v_2), (0, .ref h0), (1, .int p1)]) hx hb dL_watched_29 hl (by decide) rfl (fun ls hl => ?_)
          have hL31_18 : ∀ (n : Nat) (k : Int32 → Option Int32) (v_7 : Int32) (v_8 : Int32) (H : Heap) (locs : List Loc) (ls : Array Slot), va_P D cls [(h0, .inr (9, [.ref h1, .ref h21, .int xi, .ref h41, .ref h43, .ref h46, .ref h49, .int xe, .int xf])), (h1, .inr (6, [.int on, .int ot, .int op, .int os, .ref h2, .ref h6, .ref h9, .ref h14, .ref h17])), (h2, .inr (8, [.int sc, .ref h3, .ref h4, .ref h5])), (h3, .inl (dA 0, 4, .inl sd)), (h4, .inl (dA 0, 4, .inl sp)), (h5, .inl (dA 0, 4, .inl sw)), (h9, .inr (0, [.int bc, .ref h10, .ref h11, .ref h12, .ref h13])), (h10, .inl (dA 0, 12, .inl bg)), (h11, .inl (dA 0, 12, .inl bs)), (h12, .inl (dA 0, 12, .inl bt)), (h13, .inl (dA 0, 12, .inl be))] H → va_S noA s.heap H locs → lv_has ls 6 [(5, .int v_7), (4, .int v_8), (3, .int v_1), (2, .int v_2), (0, .ref h0), (1, .int p1)] → f_L_watched_12_L31 sc sd bc bs bt p1 v_1 k n v_7 v_8 = some rr → (∀ (y_18 : Int32) (H : Heap) (locs : List Loc) (ls : Array Slot), va_P D cls [(h0, .inr (9, [.ref h1, .ref h21, .int xi, .ref h41, .ref h43, .ref h46, .ref h49, .int xe, .int xf])), (h1, .inr (6, [.int on, .int ot, .int op, .int os, .ref h2, .ref h6, .ref h9, .ref h14, .ref h17])), (h2, .inr (8, [.int sc, .ref h3, .ref h4, .ref h5])), (h3, .inl (dA 0, 4, .inl sd)), (h4, .inl (dA 0, 4, .inl sp)), (h5, .inl (dA 0, 4, .inl sw)), (h9, .inr (0, [.int bc, .ref h10, .ref h11, .ref h12, .ref h13])), (h10, .inl (dA 0, 12, .inl bg)), (h11, .inl (dA 0, 12, .inl bs)), (h12, .inl (dA 0, 12, .inl bt)), (h13, .inl (dA 0, 12, .inl be))] H → va_S noA s.heap H locs → lv_has ls 6 [(4, .int y_18), (3, .int v_1), (2, .int v_2), (0, .ref h0), (1, .int p1)] → k y_18 = some rr → W p l e ({ frames := 16, cells := 0, slots := 0, locals := 384 } : Room) s m ([.ref h0, .int p1] : List Value).toArray below meth c H locs 0 0 (MQ below (poPi rr) ([.ref h0, .int p1] : List Value).toArray s 0 0 noA) (F0 m 102 ls [])) → W p l e ({ frames := 16, cells := 0, slots := 0, locals := 384 } : Room) s m ([.ref h0, .int p1] : List Value).toArray below meth c H locs 0 0 (MQ below (poPi rr) ([.ref h0, .int p1] : List Value).toArray s 0 0 noA) (F0 m 31 ls []) := by
            intro n k
            induction n with
            | zero =>
              intro v_7 v_8 H locs ls hP hS hl hf hk
              rw [f_L_watched_12_L31] at hf
              cases hf
            | succ n ih =>
              intro v_7 v_8 H locs ls hP hS hl hf hk
              rw [f_L_watched_12_L31] at hf
              refine lv_iload hx hb dL_watched_31 (lv_at hl 0 rfl) ?_
              refine lv_aload_n hx hb dL_watched_33 rfl (lv_at hl 4 rfl) ?_
              obtain ⟨r_9, hc9, hf⟩ := sf_c1e hf
              refine k_Pi (run_YV (As := []) (rest := [.int v_7]) ⟨hx, hb, hml, hown, ha⟩ (c_X11_bookingCount l D dA cA h0 h1 h2 h6 h9 h10 h11 h12 h13 h14 h17 h21 h41 h43 h46 h49   on ot op os bc xi xe xf  _ hc9) (gi_V m_744 m_745 m_746 m_31 m_747) yd_X11_bookingCount ⟨Nat.le_of_ble_eq_true rfl, Nat.le_of_ble_eq_true rfl⟩ ⟨rfl, rfl⟩ hK hX hS hP [0, 1, 6] rfl (va_recv hK hP (q0 := 0) rfl rfl) rfl hl.1 rfl (Nat.le_of_ble_eq_true rfl) dL_watched_34 ⟨Nat.le_of_ble_eq_true rfl, Nat.le_of_ble_eq_true rfl⟩) hP hS (fun H locs hP hS => ?_)
              refine lv_icmp_ge (tgt := 102) hx hb dL_watched_37 (by decide) (fun hc => ?_) (fun hc => ?_)
              · have hf := sf_bp hf hc
                exact hk _ _ _ _ (hP.sub [0, 1, 2, 3, 4, 5, 6, 7, 8, 9, 10] rfl) hS (lv_sub hl [1, 2, 3, 4, 5] rfl) hf
              · have hf := sf_bn hf hc
                refine lv_iload hx hb dL_watched_40 (lv_at hl 1 rfl) ?_
                refine lv_if_eq (tgt := 102) hx hb dL_watched_42 (by decide) (fun hc => ?_) (fun hc => ?_)
                · have hf := sf_bp hf hc
                  exact hk _ _ _ _ (hP.sub [0, 1, 2, 3, 4, 5, 6, 7, 8, 9, 10] rfl) hS (lv_sub hl [1, 2, 3, 4, 5] rfl) hf
                · have hf := sf_bn hf hc
                  refine lv_aload_n hx hb dL_watched_45 rfl (lv_at hl 4 rfl) ?_
                  refine lv_iload hx hb dL_watched_46 (lv_at hl 0 rfl) ?_
                  obtain ⟨r_10, hc10, hf⟩ := sf_c1e hf
                  refine k_Pi (run_YV (As := [.int v_7]) (rest := []) ⟨hx, hb, hml, hown, ha⟩ (c_X11_start l D dA cA h0 h1 h2 h6 h9 h10 h11 h12 h13 h14 h17 h21 h41 h43 h46 h49   on ot op os bc bg bs bt be xi xe xf v_7 _ hc10) (gi_V m_765 m_766 m_767 m_31 m_768) yd_X11_start ⟨Nat.le_of_ble_eq_true rfl, Nat.le_of_ble_eq_true rfl⟩ ⟨rfl, rfl⟩ hK hX hS hP [0, 1, 6, 7, 8, 9, 10] rfl (va_recv hK hP (q0 := 0) rfl rfl) rfl hl.1 rfl (Nat.le_of_ble_eq_true rfl) dL_watched_48 ⟨Nat.le_of_ble_eq_true rfl, Nat.le_of_ble_eq_true rfl⟩) hP hS (fun H locs hP hS => ?_)
                  refine lv_iload_n hx hb dL_watched_51 rfl (lv_at hl 5 rfl) ?_
                  refine sf_jo (J := fun (k_12 : Int32 → Option Int32) => ∀ (v_11 : Int32) (H : Heap) (locs : List Loc) (ls : Array Slot), va_P D cls [(h0, .inr (9, [.ref h1, .ref h21, .int xi, .ref h41, .ref h43, .ref h46, .ref h49, .int xe, .int xf])), (h1, .inr (6, [.int on, .int ot, .int op, .int os, .ref h2, .ref h6, .ref h9, .ref h14, .ref h17])), (h2, .inr (8, [.int sc, .ref h3, .ref h4, .ref h5])), (h3, .inl (dA 0, 4, .inl sd)), (h4, .inl (dA 0, 4, .inl sp)), (h5, .inl (dA 0, 4, .inl sw)), (h9, .inr (0, [.int bc, .ref h10, .ref h11, .ref h12, .ref h13])), (h10, .inl (dA 0, 12, .inl bg)), (h11, .inl (dA 0, 12, .inl bs)), (h12, .inl (dA 0, 12, .inl bt)), (h13, .inl (dA 0, 12, .inl be))] H → va_S noA s.heap H locs → lv_has ls 6 [(5, .int v_7), (3, .int v_1), (2, .int v_2), (0, .ref h0), (1, .int p1)] → k_12 v_11 = some rr → W p l e ({ frames := 16, cells := 0, slots := 0, locals := 384 } : Room) s m ([.ref h0, .int p1] : List Value).toArray below meth c H locs 0 0 (MQ below (poPi rr) ([.ref h0, .int p1] : List Value).toArray s 0 0 noA) (F0 m 94 ls [.int v_11])) hf (fun v_11 H locs ls hP hS hl hf => ?_) (fun k_12 hJ12 hf => ?_)
                  · skip
                    refine lv_istore (lv' := [(4, .int v_11), (5, .int v_7), (3, .int v_1), (2, .int v_2), (0, .ref h0), (1, .int p1)]) hx hb dL_watched_94 hl (by decide) rfl (fun ls hl => ?_)
                    obtain ⟨x_13, ex_13, hf⟩ := sf_ne hf
                    refine ii_nc (lv' := [(5, .int x_13), (4, .int v_11), (3, .int v_1), (2, .int v_2), (0, .ref h0), (1, .int p1)]) (k := 1) hx hb dL_watched_96 hl rfl ex_13 (by decide) (by decide) rfl (fun ls hl => ?_)
                    refine lv_goto (tgt := 31) hx hb dL_watched_99 (by decide) ?_
                    exact ih _ _ _ _ _ (hP.sub [0, 1, 2, 3, 4, 5, 6, 7, 8, 9, 10] rfl) hS (lv_sub hl [0, 1, 2, 3, 4, 5] rfl) hf hk
                  refine lv_icmp_lt (tgt := 89) hx hb dL_watched_52 (by decide) (fun hc => ?_) (fun hc => ?_)
                  · have hf := sf_bp hf hc
                    refine lv_iconst (v := 1) hx hb dL_watched_89 (by decide) ?_
                    refine lv_goto (tgt := 94) hx hb dL_watched_90 (by decide) ?_
                    exact hJ12 _ _ _ _ (hP.sub [0, 1, 2, 3, 4, 5, 6, 7, 8, 9, 10] rfl) hS (lv_sub hl [0, 2, 3, 4, 5] rfl) hf
                  · have hf := sf_bn hf hc
                    refine lv_aload_n hx hb dL_watched_55 rfl (lv_at hl 4 rfl) ?_
                    refine lv_iload hx hb dL_watched_56 (lv_at hl 0 rfl) ?_
                    obtain ⟨r_14, hc14, hf⟩ := sf_c1e hf
                    refine k_Pi (run_YS (As := [.ref h0, .int v_7]) (rest := []) ⟨hx, hb, hml, hown, ha⟩ (c_L_endOf l D dA cA h0 h1 h2 h3 h4 h5 h6 h9 h10 h11 h12 h13 h14 h17 h21 h41 h43 h46 h49   on ot op os sc sd sp sw bc bg bs bt be xi xe xf v_7 _ hc14) (gi_S2 m_769 m_770 m_30 m_771) (yd_L_endOf).2 ⟨Nat.le_of_ble_eq_true rfl, Nat.le_of_ble_eq_true rfl⟩ ⟨rfl, rfl⟩ hK hX hS hP [0, 1, 2, 3, 4, 5, 6, 7, 8, 9, 10] rfl rfl hl.1 rfl (Nat.le_of_ble_eq_true rfl) dL_watched_58 ⟨Nat.le_of_ble_eq_true rfl, Nat.le_of_ble_eq_true rfl⟩) hP hS (fun H locs hP hS => ?_)
                    refine lv_aload_n hx hb dL_watched_61 rfl (lv_at hl 4 rfl) ?_
                    refine lv_iload_n hx hb dL_watched_62 rfl (lv_at hl 2 rfl) ?_
                    obtain ⟨r_15, hc15, hf⟩ := sf_c1e hf
                    refine k_Pi (run_YS (As := [.ref h0, .int v_1]) (rest := [.int r_14]) ⟨hx, hb, hml, hown, ha⟩ (c_L_endOf l D dA cA h0 h1 h2 h3 h4 h5 h6 h9 h10 h11 h12 h13 h14 h17 h21 h41 h43 h46 h49   on ot op os sc sd sp sw bc bg bs bt be xi xe xf v_1 _ hc15) (gi_S2 m_769 m_770 m_30 m_771) (yd_L_endOf).2 ⟨Nat.le_of_ble_eq_true rfl, Nat.le_of_ble_eq_true rfl⟩ ⟨rfl, rfl⟩ hK hX hS hP [0, 1, 2, 3, 4, 5, 6, 7, 8, 9, 10] rfl rfl hl.1 rfl (Nat.le_of_ble_eq_true rfl) dL_watched_63 ⟨Nat.le_of_ble_eq_true rfl, Nat.le_of_ble_eq_true rfl⟩) hP hS (fun H locs hP hS => ?_)
                    refine lv_icmp_gt (tgt := 89) hx hb dL_watched_66 (by decide) (fun hc => ?_) (fun hc => ?_)
                    · have hf := sf_bp hf hc
                      refine lv_iconst (v := 1) hx hb dL_watched_89 (by decide) ?_
                      refine lv_goto (tgt := 94) hx hb dL_watched_90 (by decide) ?_
                      exact hJ12 _ _ _ _ (hP.sub [0, 1, 2, 3, 4, 5, 6, 7, 8, 9, 10] rfl) hS (lv_sub hl [0, 2, 3, 4, 5] rfl) hf
                    · have hf := sf_bn hf hc
                      refine lv_aload_n hx hb dL_watched_69 rfl (lv_at hl 4 rfl) ?_
                      refine lv_iload hx hb dL_watched_70 (lv_at hl 0 rfl) ?_
                      obtain ⟨r_16, hc16, hf⟩ := sf_c1e hf
                      refine k_Pi (run_YS (As := [.ref h0, .int v_7]) (rest := []) ⟨hx, hb, hml, hown, ha⟩ (c_L_endOf l D dA cA h0 h1 h2 h3 h4 h5 h6 h9 h10 h11 h12 h13 h14 h17 h21 h41 h43 h46 h49   on ot op os sc sd sp sw bc bg bs bt be xi xe xf v_7 _ hc16) (gi_S2 m_769 m_770 m_30 m_771) (yd_L_endOf).2 ⟨Nat.le_of_ble_eq_true rfl, Nat.le_of_ble_eq_true rfl⟩ ⟨rfl, rfl⟩ hK hX hS hP [0, 1, 2, 3, 4, 5, 6, 7, 8, 9, 10] rfl rfl hl.1 rfl (Nat.le_of_ble_eq_true rfl) dL_watched_72 ⟨Nat.le_of_ble_eq_true rfl, Nat.le_of_ble_eq_true rfl⟩) hP hS (fun H locs hP hS => ?_)
                      refine lv_aload_n hx hb dL_watched_75 rfl (lv_at hl 4 rfl) ?_
                      refine lv_iload_n hx hb dL_watched_76 rfl (lv_at hl 2 rfl) ?_
                      obtain ⟨r_17, hc17, hf⟩ := sf_c1e hf
                      refine k_Pi (run_YS (As := [.ref h0, .int v_1]) (rest := [.int r_16]) ⟨hx, hb, hml, hown, ha⟩ (c_L_endOf l D dA cA h0 h1 h2 h3 h4 h5 h6 h9 h10 h11 h12 h13 h14 h17 h21 h41 h43 h46 h49   on ot op os sc sd sp sw bc bg bs bt be xi xe xf v_1 _ hc17) (gi_S2 m_769 m_770 m_30 m_771) (yd_L_endOf).2 ⟨Nat.le_of_ble_eq_true rfl, Nat.le_of_ble_eq_true rfl⟩ ⟨rfl, rfl⟩ hK hX hS hP [0, 1, 2, 3, 4, 5, 6, 7, 8, 9, 10] rfl rfl hl.1 rfl (Nat.le_of_ble_eq_true rfl) dL_watched_77 ⟨Nat.le_of_ble_eq_true rfl, Nat.le_of_ble_eq_true rfl⟩) hP hS (fun H locs hP hS => ?_)
                      refine lv_icmp_ne (tgt := 93) hx hb dL_watched_80 (by decide) (fun hc => ?_) (fun hc => ?_)
                      · have hf := sf_bn hf hc
                        refine lv_iconst (v := 0) hx hb dL_watched_93 (by decide) ?_
                        exact hJ12 _ _ _ _ (hP.sub [0, 1, 2, 3, 4, 5, 6, 7, 8, 9, 10] rfl) hS (lv_sub hl [0, 2, 3, 4, 5] rfl) hf
                      · have hf := sf_bp hf hc
                        refine lv_iload hx hb dL_watched_83 (lv_at hl 0 rfl) ?_
                        refine lv_iload_n hx hb dL_watched_85 rfl (lv_at hl 2 rfl) ?_
                        refine lv_icmp_lt (tgt := 93) hx hb dL_watched_86 (by decide) (fun hc => ?_) (fun hc => ?_)
                        · have hf := sf_bp hf hc
                          refine lv_iconst (v := 0) hx hb dL_watched_93 (by decide) ?_
                          exact hJ12 _ _ _ _ (hP.sub [0, 1, 2, 3, 4, 5, 6, 7, 8, 9, 10] rfl) hS (lv_sub hl [0, 2, 3, 4, 5] rfl) hf
                        · have hf := sf_bn hf hc
                          refine lv_iconst (v := 1) hx hb dL_watched_89 (by decide) ?_
                          refine lv_goto (tgt := 94) hx hb dL_watched_90 (by decide) ?_
                          exact hJ12 _ _ _ _ (hP.sub [0, 1, 2, 3, 4, 5, 6, 7, 8, 9, 10] rfl) hS (lv_sub hl [0, 2, 3, 4, 5] rfl) hf
          refine hL31_18 2000 _ _ _ _ _ _ hP hS (lv_sub hl [0, 1, 2, 3, 4, 5] rfl) hf (fun y_18 H locs ls hP hS hl hf => ?_)
          refine lv_iload hx hb dL_watched_102 (lv_at hl 0 rfl) ?_
          refine sf_jo (J := fun (k_20 : Int32 → Option Int32) => ∀ (v_19 : Int32) (H : Heap) (locs : List Loc) (ls : Array Slot), va_P D cls [(h0, .inr (9, [.ref h1, .ref h21, .int xi, .ref h41, .ref h43, .ref h46, .ref h49, .int xe, .int xf])), (h1, .inr (6, [.int on, .int ot, .int op, .int os, .ref h2, .ref h6, .ref h9, .ref h14, .ref h17])), (h2, .inr (8, [.int sc, .ref h3, .ref h4, .ref h5])), (h3, .inl (dA 0, 4, .inl sd)), (h4, .inl (dA 0, 4, .inl sp)), (h5, .inl (dA 0, 4, .inl sw)), (h9, .inr (0, [.int bc, .ref h10, .ref h11, .ref h12, .ref h13])), (h10, .inl (dA 0, 12, .inl bg)), (h11, .inl (dA 0, 12, .inl bs)), (h12, .inl (dA 0, 12, .inl bt)), (h13, .inl (dA 0, 12, .inl be))] H → va_S noA s.heap H locs → lv_has ls 6 [(3, .int v_1), (0, .ref h0), (1, .int p1)] → k_20 v_19 = some rr → W p l e ({ frames := 16, cells := 0, slots := 0, locals := 384 } : Room) s m ([.ref h0, .int p1] : List Value).toArray below meth c H locs 0 0 (MQ below (poPi rr) ([.ref h0, .int p1] : List Value).toArray s 0 0 noA) (F0 m 126 ls [.int v_19])) hf (fun v_19 H locs ls hP hS hl hf => ?_) (fun k_20 hJ20 hf => ?_)
          · skip
            refine lv_istore_n (lv' := [(2, .int v_19), (3, .int v_1), (0, .ref h0), (1, .int p1)]) hx hb dL_watched_126 rfl hl (by decide) rfl (fun ls hl => ?_)
            obtain ⟨x_21, ex_21, hf⟩ := sf_ne hf
            refine ii_nc (lv' := [(3, .int x_21), (2, .int v_19), (0, .ref h0), (1, .int p1)]) (k := 1) hx hb dL_watched_127 hl rfl ex_21 (by decide) (by decide) rfl (fun ls hl => ?_)
            refine lv_goto (tgt := 4) hx hb dL_watched_130 (by decide) ?_
            exact ih _ _ _ _ _ (hP.sub [0, 1, 2, 3, 4, 5, 6, 7, 8, 9, 10] rfl) hS (lv_sub hl [0, 1, 2, 3] rfl) hf hk
          refine lv_if_eq (tgt := 125) hx hb dL_watched_104 (by decide) (fun hc => ?_) (fun hc => ?_)
          · have hf := sf_bp hf hc
            refine lv_iload_n hx hb dL_watched_125 rfl (lv_at hl 2 rfl) ?_
            exact hJ20 _ _ _ _ (hP.sub [0, 1, 2, 3, 4, 5, 6, 7, 8, 9, 10] rfl) hS (lv_sub hl [1, 3, 4] rfl) hf
          · have hf := sf_bn hf hc
            refine lv_iload_n hx hb dL_watched_107 rfl (lv_at hl 2 rfl) ?_
            refine lv_iconst (v := 1) hx hb dL_watched_108 (by decide) ?_
            refine lv_aload_n hx hb dL_watched_109 rfl (lv_at hl 3 rfl) ?_
            refine lv_aload_n hx hb dL_watched_110 rfl (lv_at hl 3 rfl) ?_
            refine lv_iload_n hx hb dL_watched_111 rfl (lv_at hl 1 rfl) ?_
            obtain ⟨r_22, hc22, hf⟩ := sf_c1e hf
            refine k_Pi (run_YS (As := [.ref h0, .int v_1]) (rest := [.ref h0, .int (1 : Int32), .int v_2]) ⟨hx, hb, hml, hown, ha⟩ (c_L_endOf l D dA cA h0 h1 h2 h3 h4 h5 h6 h9 h10 h11 h12 h13 h14 h17 h21 h41 h43 h46 h49   on ot op os sc sd sp sw bc bg bs bt be xi xe xf v_1 _ hc22) (gi_S2 m_769 m_770 m_30 m_771) (yd_L_endOf).2 ⟨Nat.le_of_ble_eq_true rfl, Nat.le_of_ble_eq_true rfl⟩ ⟨rfl, rfl⟩ hK hX hS hP [0, 1, 2, 3, 4, 5, 6, 7, 8, 9, 10] rfl rfl hl.1 rfl (Nat.le_of_ble_eq_true rfl) dL_watched_112 ⟨Nat.le_of_ble_eq_true rfl, Nat.le_of_ble_eq_true rfl⟩) hP hS (fun H locs hP hS => ?_)
            obtain ⟨r_23, hc23, hf⟩ := sf_c1e hf
            refine k_Pi (run_YS (As := [.ref h0, .int r_22]) (rest := [.int (1 : Int32), .int v_2]) ⟨hx, hb, hml, hown, ha⟩ (c_L_watched_11 l D dA cA h0 h1 h2 h3 h4 h5 h6 h9 h10 h11 h12 h13 h14 h17 h21 h41 h43 h46 h49   on ot op os sc sd sp sw bc bg bs bt be xi xe xf r_22 _ hc23) (gi_S2 m_847 m_848 m_30 m_849) (yd_L_watched_11).2 ⟨Nat.le_of_ble_eq_true rfl, Nat.le_of_ble_eq_true rfl⟩ ⟨rfl, rfl⟩ hK hX hS hP [0, 1, 2, 3, 4, 5, 6, 7, 8, 9, 10] rfl rfl hl.1 rfl (Nat.le_of_ble_eq_true rfl) dL_watched_115 ⟨Nat.le_of_ble_eq_true rfl, Nat.le_of_ble_eq_true rfl⟩) hP hS (fun H locs hP hS => ?_)
            refine lv_iadd hx hb dL_watched_118 ?_
            refine mx_i hx hb ha hown hml hl.1 m_785 m_786 m_54 m_787 ⟨Nat.le_of_ble_eq_true rfl, Nat.le_of_ble_eq_true rfl⟩ ⟨Nat.le_of_ble_eq_true rfl, Nat.le_of_ble_eq_true rfl⟩ dL_watched_119 ?_
            refine lv_goto (tgt := 126) hx hb dL_watched_122 (by decide) ?_
            exact hJ20 _ _ _ _ (hP.sub [0, 1, 2, 3, 4, 5, 6, 7, 8, 9, 10] rfl) hS (lv_sub hl [1, 3, 4] rfl) hf
        refine lv_icmp_lt (tgt := 25) hx hb dL_watched_18 (by decide) (fun hc => ?_) (fun hc => ?_)
        · have hf := sf_bp hf hc
          refine lv_iconst (v := 0) hx hb dL_watched_25 (by decide) ?_
          exact hJ6 _ _ _ _ (hP.sub [0, 1, 2, 3, 4, 5, 6, 7, 8, 9, 10] rfl) hS (lv_sub hl [0, 1, 2, 3] rfl) hf
        · have hf := sf_bn hf hc
          refine lv_iconst (v := 1) hx hb dL_watched_21 (by decide) ?_
          refine lv_goto (tgt := 26) hx hb dL_watched_22 (by decide) ?_
          exact hJ6 _ _ _ _ (hP.sub [0, 1, 2, 3, 4, 5, 6, 7, 8, 9, 10] rfl) hS (lv_sub hl [0, 1, 2, 3] rfl) hf
  refine hL4_24 2000 _ _ _ _ _ _ hP hS (lv_sub hl [0, 1, 2, 3] rfl) hf (fun y_24 H locs ls hP hS hl hf => ?_)
  refine lv_iload_n hx hb dL_watched_133 rfl (lv_at hl 0 rfl) ?_
  exact rt_Pi hx hb hr hlocks (Option.some.inj hf) hS dL_watched_134

def f_L_watched_13_L31 (sc : Int32) (sd : Nat → Int32) (bc : Int32) (bs : Nat → Int32) (bt : Nat → Int32) (p1 : Int32) (v_1 : Int32) (k : Int32 → Option Int32) : Nat → Int32 → Int32 → Option Int32
  | 0, _, _ => none
  | n + 1, v_7, v_8 => sf_c1 (f_X11_bookingCount bc) (fun r_9 => sf_b (r_9 ≤ v_7) (k v_8) (sf_b (v_8 = (0 : Int32)) (k v_8) (sf_c1 (f_X11_start bc bt v_7) (fun r_10 => sf_j (fun (v_11 : Int32) => sf_n (v_7 + (1 : Int32)) (fun x_13 => f_L_watched_13_L31 sc sd bc bs bt p1 v_1 k n x_13 v_11)) (fun k_12 => sf_b (r_10 < p1) (k_12 (1 : Int32)) (sf_c1 (f_L_endOf sc sd bc bs bt v_7) (fun r_14 => sf_c1 (f_L_endOf sc sd bc bs bt v_1) (fun r_15 => sf_b (r_15 < r_14) (k_12 (1 : Int32)) (sf_c1 (f_L_endOf sc sd bc bs bt v_7) (fun r_16 => sf_c1 (f_L_endOf sc sd bc bs bt v_1) (fun r_17 => sf_b (r_16 = r_17) (sf_b (v_7 < v_1) (k_12 (0 : Int32)) (k_12 (1 : Int32))) (k_12 (0 : Int32)))))))))))))
def f_L_watched_13_L4 (sc : Int32) (sd : Nat → Int32) (bc : Int32) (bs : Nat → Int32) (bt : Nat → Int32) (p1 : Int32) (k : Int32 → Option Int32) : Nat → Int32 → Int32 → Option Int32
  | 0, _, _ => none
  | n + 1, v_1, v_2 => sf_c1 (f_X11_bookingCount bc) (fun r_3 => sf_b (r_3 ≤ v_1) (k v_2) (sf_c1 (f_X11_start bc bt v_1) (fun r_4 => sf_j (fun (v_5 : Int32) => f_L_watched_13_L31 sc sd bc bs bt p1 v_1 (fun y_18 => sf_j (fun (v_19 : Int32) => sf_n (v_1 + (1 : Int32)) (fun x_21 => f_L_watched_13_L4 sc sd bc bs bt p1 k n x_21 v_19)) (fun k_20 => sf_b (y_18 = (0 : Int32)) (k_20 v_2) (sf_c1 (f_L_endOf sc sd bc bs bt v_1) (fun r_22 => sf_c1 (f_L_watched_12 sc sd bc bs bt r_22) (fun r_23 => k_20 (if v_2 < ((1 : Int32) + r_23) then ((1 : Int32) + r_23) else v_2)))))) 2000 (0 : Int32) v_5) (fun k_6 => sf_b (r_4 < p1) (k_6 (0 : Int32)) (k_6 (1 : Int32))))))
def f_L_watched_13 (sc : Int32) (sd : Nat → Int32) (bc : Int32) (bs : Nat → Int32) (bt : Nat → Int32) (p1 : Int32) : Option Int32 :=
  f_L_watched_13_L4 sc sd bc bs bt p1 (fun y_24 => some y_24) 2000 (0 : Int32) (0 : Int32)
theorem yd_L_watched_13 : yL_watched.cls = RL ∧ yL_watched.cls ≠ "java/lang/invoke/MethodHandle" ∧ yL_watched.cls ≠ "java/lang/invoke/VarHandle" ∧ (parseMethodDescriptor yL_watched.desc).map (fun d => d.parameters.length) = some 2 := ⟨rfl, by decide, by decide, by decide +kernel⟩
set_option maxRecDepth 100000 in
set_option maxHeartbeats 8000000 in
theorem c_L_watched_13 (l : Launch) (D : va_G) (dA : Nat → ClassId) (cA : Nat → Nat) (h0 h1 h2 h3 h4 h5 h6 h9 h10 h11 h12 h13 h14 h17 h21 h41 h43 h46 h49 : Nat) (on : Int32) (ot : Int32) (op : Int32) (os : Int32) (sc : Int32) (sd : Nat → Int32) (sp : Nat → Int32) (sw : Nat → Int32) (bc : Int32) (bg : Nat → Int32) (bs : Nat → Int32) (bt : Nat → Int32) (be : Nat → Int32) (xi : Int32) (xe : Int32) (xf : Int32) (p1 : Int32) (rr : Int32) (hf : f_L_watched_13 sc sd bc bs bt p1 = some rr) : Met l yL_watched (wo (.code yL_watched cL_watched 6 (some .int))) ({ frames := 17, cells := 0, slots := 0, locals := 409 } : Room) (preY D dA cA [.ref h0, .int p1] [(h0, .inr (9, [.ref h1, .ref h21, .int xi, .ref h41, .ref h43, .ref h46, .ref h49, .int xe, .int xf])), (h1, .inr (6, [.int on, .int ot, .int op, .int os, .ref h2, .ref h6, .ref h9, .ref h14, .ref h17])), (h2, .inr (8, [.int sc, .ref h3, .ref h4, .ref h5])), (h3, .inl (dA 0, 4, .inl sd)), (h4, .inl (dA 0, 4, .inl sp)), (h5, .inl (dA 0, 4, .inl sw)), (h9, .inr (0, [.int bc, .ref h10, .ref h11, .ref h12, .ref h13])), (h10, .inl (dA 0, 12, .inl bg)), (h11, .inl (dA 0, 12, .inl bs)), (h12, .inl (dA 0, 12, .inl bt)), (h13, .inl (dA 0, 12, .inl be))]) (poPi rr) 0 0 noA := by
  refine of_Y (y := yL_watched) (cc := cL_watched) (maxL := 6) (ret := (some .int)) (av := [.ref h0, .int p1]) (ws := [(h0, .inr (9, [.ref h1, .ref h21, .int xi, .ref h41, .ref h43, .ref h46, .ref h49, .int xe, .int xf])), (h1, .inr (6, [.int on, .int ot, .int op, .int os, .ref h2, .ref h6, .ref h9, .ref h14, .ref h17])), (h2, .inr (8, [.int sc, .ref h3, .ref h4, .ref h5])), (h3, .inl (dA 0, 4, .inl sd)), (h4, .inl (dA 0, 4, .inl sp)), (h5, .inl (dA 0, 4, .inl sw)), (h9, .inr (0, [.int bc, .ref h10, .ref h11, .ref h12, .ref h13])), (h10, .inl (dA 0, 12, .inl bg)), (h11, .inl (dA 0, 12, .inl bs)), (h12, .inl (dA 0, 12, .inl bt)), (h13, .inl (dA 0, 12, .inl be))]) (own := RL) (by decide) rfl (Nat.le_of_ble_eq_true rfl) ?_
  intro p e s m below meth c hx hb hr ha hown hml hlocks hP hK hX hS ls hl
  have hC := hX.1
  have hl : lv_has ls 6 [(0, .ref h0), (1, .int p1)] := hl
  rw [f_L_watched_13] at hf
  refine lv_iconst (v := 0) hx hb dL_watched_0 (by decide) ?_
  refine lv_istore_n (lv' := [(2, .int (0 : Int32)), (0, .ref h0), (1, .int p1)]) hx hb dL_watched_1 rfl hl (by decide) rfl (fun ls hl => ?_)
  refine lv_iconst (v := 0) hx hb dL_watched_2 (by decide) ?_
  refine lv_istore_n (lv' := [(3, .int (0 : Int32)), (2, .int (0 : Int32)), (0, .ref h0), (1, .int p1)]) hx hb dL_watched_3 rfl hl (by decide) rfl (fun ls hl => ?_)
  have hL4_24 : ∀ (n : Nat) (k : Int32 → Option Int32) (v_1 : Int32) (v_2 : Int32) (H : Heap) (locs : List Loc) (ls : Array Slot), va_P D cls [(h0, .inr (9, [.ref h1, .ref h21, .int xi, .ref h41, .ref h43, .ref h46, .ref h49, .int xe, .int xf])), (h1, .inr (6, [.int on, .int ot, .int op, .int os, .ref h2, .ref h6, .ref h9, .ref h14, .ref h17])), (h2, .inr (8, [.int sc, .ref h3, .ref h4, .ref h5])), (h3, .inl (dA 0, 4, .inl sd)), (h4, .inl (dA 0, 4, .inl sp)), (h5, .inl (dA 0, 4, .inl sw)), (h9, .inr (0, [.int bc, .ref h10, .ref h11, .ref h12, .ref h13])), (h10, .inl (dA 0, 12, .inl bg)), (h11, .inl (dA 0, 12, .inl bs)), (h12, .inl (dA 0, 12, .inl bt)), (h13, .inl (dA 0, 12, .inl be))] H → va_S noA s.heap H locs → lv_has ls 6 [(3, .int v_1), (2, .int v_2), (0, .ref h0), (1, .int p1)] → f_L_watched_13_L4 sc sd bc bs bt p1 k n v_1 v_2 = some rr → (∀ (y_24 : Int32) (H : Heap) (locs : List Loc) (ls : Array Slot), va_P D cls [(h0, .inr (9, [.ref h1, .ref h21, .int xi, .ref h41, .ref h43, .ref h46, .ref h49, .int xe, .int xf])), (h1, .inr (6, [.int on, .int ot, .int op, .int os, .ref h2, .ref h6, .ref h9, .ref h14, .ref h17])), (h2, .inr (8, [.int sc, .ref h3, .ref h4, .ref h5])), (h3, .inl (dA 0, 4, .inl sd)), (h4, .inl (dA 0, 4, .inl sp)), (h5, .inl (dA 0, 4, .inl sw)), (h9, .inr (0, [.int bc, .ref h10, .ref h11, .ref h12, .ref h13])), (h10, .inl (dA 0, 12, .inl bg)), (h11, .inl (dA 0, 12, .inl bs)), (h12, .inl (dA 0, 12, .inl bt)), (h13, .inl (dA 0, 12, .inl be))] H → va_S noA s.heap H locs → lv_has ls 6 [(2, .int y_24)] → k y_24 = some rr → W p l e ({ frames := 17, cells := 0, slots := 0, locals := 409 } : Room) s m ([.ref h0, .int p1] : List Value).toArray below meth c H locs 0 0 (MQ below (poPi rr) ([.ref h0, .int p1] : List Value).toArray s 0 0 noA) (F0 m 133 ls [])) → W p l e ({ frames := 17, cells := 0, slots := 0, locals := 409 } : Room) s m ([.ref h0, .int p1] : List Value).toArray below meth c H locs 0 0 (MQ below (poPi rr) ([.ref h0, .int p1] : List Value).toArray s 0 0 noA) (F0 m 4 ls []) := by
    intro n k
    induction n with
    | zero =>
      intro v_1 v_2 H locs ls hP hS hl hf hk
      rw [f_L_watched_13_L4] at hf
      cases hf
    | succ n ih =>
      intro v_1 v_2 H locs ls hP hS hl hf hk
      rw [f_L_watched_13_L4] at hf
      refine lv_iload_n hx hb dL_watched_4 rfl (lv_at hl 0 rfl) ?_
      refine lv_aload_n hx hb dL_watched_5 rfl (lv_at hl 2 rfl) ?_
      obtain ⟨r_3, hc3, hf⟩ := sf_c1e hf
      refine k_Pi (run_YV (As := []) (rest := [.int v_1]) ⟨hx, hb, hml, hown, ha⟩ (c_X11_bookingCount l D dA cA h0 h1 h2 h6 h9 h10 h11 h12 h13 h14 h17 h21 h41 h43 h46 h49   on ot op os bc xi xe xf  _ hc3) (gi_V m_744 m_745 m_746 m_31 m_747) yd_X11_bookingCount ⟨Nat.le_of_ble_eq_true rfl, Nat.le_of_ble_eq_true rfl⟩ ⟨rfl, rfl⟩ hK hX hS hP [0, 1, 6] rfl (va_recv hK hP (q0 := 0) rfl rfl) rfl hl.1 rfl (Nat.le_of_ble_eq_true rfl) dL_watched_6 ⟨Nat.le_of_ble_eq_true rfl, Nat.le_of_ble_eq_true rfl⟩) hP hS (fun H locs hP hS => ?_)
      refine lv_icmp_ge (tgt := 133) hx hb dL_watched_9 (by decide) (fun hc => ?_) (fun hc => ?_)
      · have hf := sf_bp hf hc
        exact hk _ _ _ _ (hP.sub [0, 1, 2, 3, 4, 5, 6, 7, 8, 9, 10] rfl) hS (lv_sub hl [1] rfl) hf
      · have hf := sf_bn hf hc
        refine lv_aload_n hx hb dL_watched_12 rfl (lv_at hl 2 rfl) ?_
        refine lv_iload_n hx hb dL_watched_13 rfl (lv_at hl 0 rfl) ?_
        obtain ⟨r_4, hc4, hf⟩ := sf_c1e hf
        refine k_Pi (run_YV (As := [.int v_1]) (rest := []) ⟨hx, hb, hml, hown, ha⟩ (c_X11_start l D dA cA h0 h1 h2 h6 h9 h10 h11 h12 h13 h14 h17 h21 h41 h43 h46 h49   on ot op os bc bg bs bt be xi xe xf v_1 _ hc4) (gi_V m_765 m_766 m_767 m_31 m_768) yd_X11_start ⟨Nat.le_of_ble_eq_true rfl, Nat.le_of_ble_eq_true rfl⟩ ⟨rfl, rfl⟩ hK hX hS hP [0, 1, 6, 7, 8, 9, 10] rfl (va_recv hK hP (q0 := 0) rfl rfl) rfl hl.1 rfl (Nat.le_of_ble_eq_true rfl) dL_watched_14 ⟨Nat.le_of_ble_eq_true rfl, Nat.le_of_ble_eq_true rfl⟩) hP hS (fun H locs hP hS => ?_)
        refine lv_iload_n hx hb dL_watched_17 rfl (lv_at hl 3 rfl) ?_
        refine sf_jo (J := fun (k_6 : Int32 → Option Int32) => ∀ (v_5 : Int32) (H : Heap) (locs : List Loc) (ls : Array Slot), va_P D cls [(h0, .inr (9, [.ref h1, .ref h21, .int xi, .ref h41, .ref h43, .ref h46, .ref h49, .int xe, .int xf])), (h1, .inr (6, [.int on, .int ot, .int op, .int os, .ref h2, .ref h6, .ref h9, .ref h14, .ref h17])), (h2, .inr (8, [.int sc, .ref h3, .ref h4, .ref h5])), (h3, .inl (dA 0, 4, .inl sd)), (h4, .inl (dA 0, 4, .inl sp)), (h5, .inl (dA 0, 4, .inl sw)), (h9, .inr (0, [.int bc, .ref h10, .ref h11, .ref h12, .ref h13])), (h10, .inl (dA 0, 12, .inl bg)), (h11, .inl (dA 0, 12, .inl bs)), (h12, .inl (dA 0, 12, .inl bt)), (h13, .inl (dA 0, 12, .inl be))] H → va_S noA s.heap H locs → lv_has ls 6 [(3, .int v_1), (2, .int v_2), (0, .ref h0), (1, .int p1)] → k_6 v_5 = some rr → W p l e ({ frames := 17, cells := 0, slots := 0, locals := 409 } : Room) s m ([.ref h0, .int p1] : List Value).toArray below meth c H locs 0 0 (MQ below (poPi rr) ([.ref h0, .int p1] : List Value).toArray s 0 0 noA) (F0 m 26 ls [.int v_5])) hf (fun v_5 H locs ls hP hS hl hf => ?_) (fun k_6 hJ6 hf => ?_)
        · skip
          refine lv_istore (lv' := [(4, .int v_5), (3, .int v_1), (2, .int v_2), (0, .ref h0), (1, .int p1)]) hx hb dL_watched_26 hl (by decide) rfl (fun ls hl => ?_)
          refine lv_iconst (v := 0) hx hb dL_watched_28 (by decide) ?_
          refine lv_istore (lv' := [(5, .int (0 : Int32)), (4, .int v_5), (3, .int v_1), (2, .int v_2), (0, .ref h0), (1, .int p1)]) hx hb dL_watched_29 hl (by decide) rfl (fun ls hl => ?_)
          have hL31_18 : ∀ (n : Nat) (k : Int32 → Option Int32) (v_7 : Int32) (v_8 : Int32) (H : Heap) (locs : List Loc) (ls : Array Slot), va_P D cls [(h0, .inr (9, [.ref h1, .ref h21, .int xi, .ref h41, .ref h43, .ref h46, .ref h49, .int xe, .int xf])), (h1, .inr (6, [.int on, .int ot, .int op, .int os, .ref h2, .ref h6, .ref h9, .ref h14, .ref h17])), (h2, .inr (8, [.int sc, .ref h3, .ref h4, .ref h5])), (h3, .inl (dA 0, 4, .inl sd)), (h4, .inl (dA 0, 4, .inl sp)), (h5, .inl (dA 0, 4, .inl sw)), (h9, .inr (0, [.int bc, .ref h10, .ref h11, .ref h12, .ref h13])), (h10, .inl (dA 0, 12, .inl bg)), (h11, .inl (dA 0, 12, .inl bs)), (h12, .inl (dA 0, 12, .inl bt)), (h13, .inl (dA 0, 12, .inl be))] H → va_S noA s.heap H locs → lv_has ls 6 [(5, .int v_7), (4, .int v_8), (3, .int v_1), (2, .int v_2), (0, .ref h0), (1, .int p1)] → f_L_watched_13_L31 sc sd bc bs bt p1 v_1 k n v_7 v_8 = some rr → (∀ (y_18 : Int32) (H : Heap) (locs : List Loc) (ls : Array Slot), va_P D cls [(h0, .inr (9, [.ref h1, .ref h21, .int xi, .ref h41, .ref h43, .ref h46, .ref h49, .int xe, .int xf])), (h1, .inr (6, [.int on, .int ot, .int op, .int os, .ref h2, .ref h6, .ref h9, .ref h14, .ref h17])), (h2, .inr (8, [.int sc, .ref h3, .ref h4, .ref h5])), (h3, .inl (dA 0, 4, .inl sd)), (h4, .inl (dA 0, 4, .inl sp)), (h5, .inl (dA 0, 4, .inl sw)), (h9, .inr (0, [.int bc, .ref h10, .ref h11, .ref h12, .ref h13])), (h10, .inl (dA 0, 12, .inl bg)), (h11, .inl (dA 0, 12, .inl bs)), (h12, .inl (dA 0, 12, .inl bt)), (h13, .inl (dA 0, 12, .inl be))] H → va_S noA s.heap H locs → lv_has ls 6 [(4, .int y_18), (3, .int v_1), (2, .int v_2), (0, .ref h0), (1, .int p1)] → k y_18 = some rr → W p l e ({ frames := 17, cells := 0, slots := 0, locals := 409 } : Room) s m ([.ref h0, .int p1] : List Value).toArray below meth c H locs 0 0 (MQ below (poPi rr) ([.ref h0, .int p1] : List Value).toArray s 0 0 noA) (F0 m 102 ls [])) → W p l e ({ frames := 17, cells := 0, slots := 0, locals := 409 } : Room) s m ([.ref h0, .int p1] : List Value).toArray below meth c H locs 0 0 (MQ below (poPi rr) ([.ref h0, .int p1] : List Value).toArray s 0 0 noA) (F0 m 31 ls []) := by
            intro n k
            induction n with
            | zero =>
              intro v_7 v_8 H locs ls hP hS hl hf hk
              rw [f_L_watched_13_L31] at hf
              cases hf
            | succ n ih =>
              intro v_7 v_8 H locs ls hP hS hl hf hk
              rw [f_L_watched_13_L31] at hf
              refine lv_iload hx hb dL_watched_31 (lv_at hl 0 rfl) ?_
              refine lv_aload_n hx hb dL_watched_33 rfl (lv_at hl 4 rfl) ?_
              obtain ⟨r_9, hc9, hf⟩ := sf_c1e hf
              refine k_Pi (run_YV (As := []) (rest := [.int v_7]) ⟨hx, hb, hml, hown, ha⟩ (c_X11_bookingCount l D dA cA h0 h1 h2 h6 h9 h10 h11 h12 h13 h14 h17 h21 h41 h43 h46 h49   on ot op os bc xi xe xf  _ hc9) (gi_V m_744 m_745 m_746 m_31 m_747) yd_X11_bookingCount ⟨Nat.le_of_ble_eq_true rfl, Nat.le_of_ble_eq_true rfl⟩ ⟨rfl, rfl⟩ hK hX hS hP [0, 1, 6] rfl (va_recv hK hP (q0 := 0) rfl rfl) rfl hl.1 rfl (Nat.le_of_ble_eq_true rfl) dL_watched_34 ⟨Nat.le_of_ble_eq_true rfl, Nat.le_of_ble_eq_true rfl⟩) hP hS (fun H locs hP hS => ?_)
              refine lv_icmp_ge (tgt := 102) hx hb dL_watched_37 (by decide) (fun hc => ?_) (fun hc => ?_)
              · have hf := sf_bp hf hc
                exact hk _ _ _ _ (hP.sub [0, 1, 2, 3, 4, 5, 6, 7, 8, 9, 10] rfl) hS (lv_sub hl [1, 2, 3, 4, 5] rfl) hf
              · have hf := sf_bn hf hc
                refine lv_iload hx hb dL_watched_40 (lv_at hl 1 rfl) ?_
                refine lv_if_eq (tgt := 102) hx hb dL_watched_42 (by decide) (fun hc => ?_) (fun hc => ?_)
                · have hf := sf_bp hf hc
                  exact hk _ _ _ _ (hP.sub [0, 1, 2, 3, 4, 5, 6, 7, 8, 9, 10] rfl) hS (lv_sub hl [1, 2, 3, 4, 5] rfl) hf
                · have hf := sf_bn hf hc
                  refine lv_aload_n hx hb dL_watched_45 rfl (lv_at hl 4 rfl) ?_
                  refine lv_iload hx hb dL_watched_46 (lv_at hl 0 rfl) ?_
                  obtain ⟨r_10, hc10, hf⟩ := sf_c1e hf
                  refine k_Pi (run_YV (As := [.int v_7]) (rest := []) ⟨hx, hb, hml, hown, ha⟩ (c_X11_start l D dA cA h0 h1 h2 h6 h9 h10 h11 h12 h13 h14 h17 h21 h41 h43 h46 h49   on ot op os bc bg bs bt be xi xe xf v_7 _ hc10) (gi_V m_765 m_766 m_767 m_31 m_768) yd_X11_start ⟨Nat.le_of_ble_eq_true rfl, Nat.le_of_ble_eq_true rfl⟩ ⟨rfl, rfl⟩ hK hX hS hP [0, 1, 6, 7, 8, 9, 10] rfl (va_recv hK hP (q0 := 0) rfl rfl) rfl hl.1 rfl (Nat.le_of_ble_eq_true rfl) dL_watched_48 ⟨Nat.le_of_ble_eq_true rfl, Nat.le_of_ble_eq_true rfl⟩) hP hS (fun H locs hP hS => ?_)
                  refine lv_iload_n hx hb dL_watched_51 rfl (lv_at hl 5 rfl) ?_
                  refine sf_jo (J := fun (k_12 : Int32 → Option Int32) => ∀ (v_11 : Int32) (H : Heap) (locs : List Loc) (ls : Array Slot), va_P D cls [(h0, .inr (9, [.ref h1, .ref h21, .int xi, .ref h41, .ref h43, .ref h46, .ref h49, .int xe, .int xf])), (h1, .inr (6, [.int on, .int ot, .int op, .int os, .ref h2, .ref h6, .ref h9, .ref h14, .ref h17])), (h2, .inr (8, [.int sc, .ref h3, .ref h4, .ref h5])), (h3, .inl (dA 0, 4, .inl sd)), (h4, .inl (dA 0, 4, .inl sp)), (h5, .inl (dA 0, 4, .inl sw)), (h9, .inr (0, [.int bc, .ref h10, .ref h11, .ref h12, .ref h13])), (h10, .inl (dA 0, 12, .inl bg)), (h11, .inl (dA 0, 12, .inl bs)), (h12, .inl (dA 0, 12, .inl bt)), (h13, .inl (dA 0, 12, .inl be))] H → va_S noA s.heap H locs → lv_has ls 6 [(5, .int v_7), (3, .int v_1), (2, .int v_2), (0, .ref h0), (1, .int p1)] → k_12 v_11 = some rr → W p l e ({ frames := 17, cells := 0, slots := 0, locals := 409 } : Room) s m ([.ref h0, .int p1] : List Value).toArray below meth c H locs 0 0 (MQ below (poPi rr) ([.ref h0, .int p1] : List Value).toArray s 0 0 noA) (F0 m 94 ls [.int v_11])) hf (fun v_11 H locs ls hP hS hl hf => ?_) (fun k_12 hJ12 hf => ?_)
                  · skip
                    refine lv_istore (lv' := [(4, .int v_11), (5, .int v_7), (3, .int v_1), (2, .int v_2), (0, .ref h0), (1, .int p1)]) hx hb dL_watched_94 hl (by decide) rfl (fun ls hl => ?_)
                    obtain ⟨x_13, ex_13, hf⟩ := sf_ne hf
                    refine ii_nc (lv' := [(5, .int x_13), (4, .int v_11), (3, .int v_1), (2, .int v_2), (0, .ref h0), (1, .int p1)]) (k := 1) hx hb dL_watched_96 hl rfl ex_13 (by decide) (by decide) rfl (fun ls hl => ?_)
                    refine lv_goto (tgt := 31) hx hb dL_watched_99 (by decide) ?_
                    exact ih _ _ _ _ _ (hP.sub [0, 1, 2, 3, 4, 5, 6, 7, 8, 9, 10] rfl) hS (lv_sub hl [0, 1, 2, 3, 4, 5] rfl) hf hk
                  refine lv_icmp_lt (tgt := 89) hx hb dL_watched_52 (by decide) (fun hc => ?_) (fun hc => ?_)
                  · have hf := sf_bp hf hc
                    refine lv_iconst (v := 1) hx hb dL_watched_89 (by decide) ?_
                    refine lv_goto (tgt := 94) hx hb dL_watched_90 (by decide) ?_
                    exact hJ12 _ _ _ _ (hP.sub [0, 1, 2, 3, 4, 5, 6, 7, 8, 9, 10] rfl) hS (lv_sub hl [0, 2, 3, 4, 5] rfl) hf
                  · have hf := sf_bn hf hc
                    refine lv_aload_n hx hb dL_watched_55 rfl (lv_at hl 4 rfl) ?_
                    refine lv_iload hx hb dL_watched_56 (lv_at hl 0 rfl) ?_
                    obtain ⟨r_14, hc14, hf⟩ := sf_c1e hf
                    refine k_Pi (run_YS (As := [.ref h0, .int v_7]) (rest := []) ⟨hx, hb, hml, hown, ha⟩ (c_L_endOf l D dA cA h0 h1 h2 h3 h4 h5 h6 h9 h10 h11 h12 h13 h14 h17 h21 h41 h43 h46 h49   on ot op os sc sd sp sw bc bg bs bt be xi xe xf v_7 _ hc14) (gi_S2 m_769 m_770 m_30 m_771) (yd_L_endOf).2 ⟨Nat.le_of_ble_eq_true rfl, Nat.le_of_ble_eq_true rfl⟩ ⟨rfl, rfl⟩ hK hX hS hP [0, 1, 2, 3, 4, 5, 6, 7, 8, 9, 10] rfl rfl hl.1 rfl (Nat.le_of_ble_eq_true rfl) dL_watched_58 ⟨Nat.le_of_ble_eq_true rfl, Nat.le_of_ble_eq_true rfl⟩) hP hS (fun H locs hP hS => ?_)
                    refine lv_aload_n hx hb dL_watched_61 rfl (lv_at hl 4 rfl) ?_
                    refine lv_iload_n hx hb dL_watched_62 rfl (lv_at hl 2 rfl) ?_
                    obtain ⟨r_15, hc15, hf⟩ := sf_c1e hf
                    refine k_Pi (run_YS (As := [.ref h0, .int v_1]) (rest := [.int r_14]) ⟨hx, hb, hml, hown, ha⟩ (c_L_endOf l D dA cA h0 h1 h2 h3 h4 h5 h6 h9 h10 h11 h12 h13 h14 h17 h21 h41 h43 h46 h49   on ot op os sc sd sp sw bc bg bs bt be xi xe xf v_1 _ hc15) (gi_S2 m_769 m_770 m_30 m_771) (yd_L_endOf).2 ⟨Nat.le_of_ble_eq_true rfl, Nat.le_of_ble_eq_true rfl⟩ ⟨rfl, rfl⟩ hK hX hS hP [0, 1, 2, 3, 4, 5, 6, 7, 8, 9, 10] rfl rfl hl.1 rfl (Nat.le_of_ble_eq_true rfl) dL_watched_63 ⟨Nat.le_of_ble_eq_true rfl, Nat.le_of_ble_eq_true rfl⟩) hP hS (fun H locs hP hS => ?_)
                    refine lv_icmp_gt (tgt := 89) hx hb dL_watched_66 (by decide) (fun hc => ?_) (fun hc => ?_)
                    · have hf := sf_bp hf hc
                      refine lv_iconst (v := 1) hx hb dL_watched_89 (by decide) ?_
                      refine lv_goto (tgt := 94) hx hb dL_watched_90 (by decide) ?_
                      exact hJ12 _ _ _ _ (hP.sub [0, 1, 2, 3, 4, 5, 6, 7, 8, 9, 10] rfl) hS (lv_sub hl [0, 2, 3, 4, 5] rfl) hf
                    · have hf := sf_bn hf hc
                      refine lv_aload_n hx hb dL_watched_69 rfl (lv_at hl 4 rfl) ?_
                      refine lv_iload hx hb dL_watched_70 (lv_at hl 0 rfl) ?_
                      obtain ⟨r_16, hc16, hf⟩ := sf_c1e hf
                      refine k_Pi (run_YS (As := [.ref h0, .int v_7]) (rest := []) ⟨hx, hb, hml, hown, ha⟩ (c_L_endOf l D dA cA h0 h1 h2 h3 h4 h5 h6 h9 h10 h11 h12 h13 h14 h17 h21 h41 h43 h46 h49   on ot op os sc sd sp sw bc bg bs bt be xi xe xf v_7 _ hc16) (gi_S2 m_769 m_770 m_30 m_771) (yd_L_endOf).2 ⟨Nat.le_of_ble_eq_true rfl, Nat.le_of_ble_eq_true rfl⟩ ⟨rfl, rfl⟩ hK hX hS hP [0, 1, 2, 3, 4, 5, 6, 7, 8, 9, 10] rfl rfl hl.1 rfl (Nat.le_of_ble_eq_true rfl) dL_watched_72 ⟨Nat.le_of_ble_eq_true rfl, Nat.le_of_ble_eq_true rfl⟩) hP hS (fun H locs hP hS => ?_)
                      refine lv_aload_n hx hb dL_watched_75 rfl (lv_at hl 4 rfl) ?_
                      refine lv_iload_n hx hb dL_watched_76 rfl (lv_at hl 2 rfl) ?_
                      obtain ⟨r_17, hc17, hf⟩ := sf_c1e hf
                      refine k_Pi (run_YS (As := [.ref h0, .int v_1]) (rest := [.int r_16]) ⟨hx, hb, hml, hown, ha⟩ (c_L_endOf l D dA cA h0 h1 h2 h3 h4 h5 h6 h9 h10 h11 h12 h13 h14 h17 h21 h41 h43 h46 h49   on ot op os sc sd sp sw bc bg bs bt be xi xe xf v_1 _ hc17) (gi_S2 m_769 m_770 m_30 m_771) (yd_L_endOf).2 ⟨Nat.le_of_ble_eq_true rfl, Nat.le_of_ble_eq_true rfl⟩ ⟨rfl, rfl⟩ hK hX hS hP [0, 1, 2, 3, 4, 5, 6, 7, 8, 9, 10] rfl rfl hl.1 rfl (Nat.le_of_ble_eq_true rfl) dL_watched_77 ⟨Nat.le_of_ble_eq_true rfl, Nat.le_of_ble_eq_true rfl⟩) hP hS (fun H locs hP hS => ?_)
                      refine lv_icmp_ne (tgt := 93) hx hb dL_watched_80 (by decide) (fun hc => ?_) (fun hc => ?_)
                      · have hf := sf_bn hf hc
                        refine lv_iconst (v := 0) hx hb dL_watched_93 (by decide) ?_
                        exact hJ12 _ _ _ _ (hP.sub [0, 1, 2, 3, 4, 5, 6, 7, 8, 9, 10] rfl) hS (lv_sub hl [0, 2, 3, 4, 5] rfl) hf
                      · have hf := sf_bp hf hc
                        refine lv_iload hx hb dL_watched_83 (lv_at hl 0 rfl) ?_
                        refine lv_iload_n hx hb dL_watched_85 rfl (lv_at hl 2 rfl) ?_
                        refine lv_icmp_lt (tgt := 93) hx hb dL_watched_86 (by decide) (fun hc => ?_) (fun hc => ?_)
                        · have hf := sf_bp hf hc
                          refine lv_iconst (v := 0) hx hb dL_watched_93 (by decide) ?_
                          exact hJ12 _ _ _ _ (hP.sub [0, 1, 2, 3, 4, 5, 6, 7, 8, 9, 10] rfl) hS (lv_sub hl [0, 2, 3, 4, 5] rfl) hf
                        · have hf := sf_bn hf hc
                          refine lv_iconst (v := 1) hx hb dL_watched_89 (by decide) ?_
                          refine lv_goto (tgt := 94) hx hb dL_watched_90 (by decide) ?_
                          exact hJ12 _ _ _ _ (hP.sub [0, 1, 2, 3, 4, 5, 6, 7, 8, 9, 10] rfl) hS (lv_sub hl [0, 2, 3, 4, 5] rfl) hf
          refine hL31_18 2000 _ _ _ _ _ _ hP hS (lv_sub hl [0, 1, 2, 3, 4, 5] rfl) hf (fun y_18 H locs ls hP hS hl hf => ?_)
          refine lv_iload hx hb dL_watched_102 (lv_at hl 0 rfl) ?_
          refine sf_jo (J := fun (k_20 : Int32 → Option Int32) => ∀ (v_19 : Int32) (H : Heap) (locs : List Loc) (ls : Array Slot), va_P D cls [(h0, .inr (9, [.ref h1, .ref h21, .int xi, .ref h41, .ref h43, .ref h46, .ref h49, .int xe, .int xf])), (h1, .inr (6, [.int on, .int ot, .int op, .int os, .ref h2, .ref h6, .ref h9, .ref h14, .ref h17])), (h2, .inr (8, [.int sc, .ref h3, .ref h4, .ref h5])), (h3, .inl (dA 0, 4, .inl sd)), (h4, .inl (dA 0, 4, .inl sp)), (h5, .inl (dA 0, 4, .inl sw)), (h9, .inr (0, [.int bc, .ref h10, .ref h11, .ref h12, .ref h13])), (h10, .inl (dA 0, 12, .inl bg)), (h11, .inl (dA 0, 12, .inl bs)), (h12, .inl (dA 0, 12, .inl bt)), (h13, .inl (dA 0, 12, .inl be))] H → va_S noA s.heap H locs → lv_has ls 6 [(3, .int v_1), (0, .ref h0), (1, .int p1)] → k_20 v_19 = some rr → W p l e ({ frames := 17, cells := 0, slots := 0, locals := 409 } : Room) s m ([.ref h0, .int p1] : List Value).toArray below meth c H locs 0 0 (MQ below (poPi rr) ([.ref h0, .int p1] : List Value).toArray s 0 0 noA) (F0 m 126 ls [.int v_19])) hf (fun v_19 H locs ls hP hS hl hf => ?_) (fun k_20 hJ20 hf => ?_)
          · skip
            refine lv_istore_n (lv' := [(2, .int v_19), (3, .int v_1), (0, .ref h0), (1, .int p1)]) hx hb dL_watched_126 rfl hl (by decide) rfl (fun ls hl => ?_)
            obtain ⟨x_21, ex_21, hf⟩ := sf_ne hf
            refine ii_nc (lv' := [(3, .int x_21), (2, .int v_19), (0, .ref h0), (1, .int p1)]) (k := 1) hx hb dL_watched_127 hl rfl ex_21 (by decide) (by decide) rfl (fun ls hl => ?_)
            refine lv_goto (tgt := 4) hx hb dL_watched_130 (by decide) ?_
            exact ih _ _ _ _ _ (hP.sub [0, 1, 2, 3, 4, 5, 6, 7, 8, 9, 10] rfl) hS (lv_sub hl [0, 1, 2, 3] rfl) hf hk
          refine lv_if_eq (tgt := 125) hx hb dL_watched_104 (by decide) (fun hc => ?_) (fun hc => ?_)
          · have hf := sf_bp hf hc
            refine lv_iload_n hx hb dL_watched_125 rfl (lv_at hl 2 rfl) ?_
            exact hJ20 _ _ _ _ (hP.sub [0, 1, 2, 3, 4, 5, 6, 7, 8, 9, 10] rfl) hS (lv_sub hl [1, 3, 4] rfl) hf
          · have hf := sf_bn hf hc
            refine lv_iload_n hx hb dL_watched_107 rfl (lv_at hl 2 rfl) ?_
            refine lv_iconst (v := 1) hx hb dL_watched_108 (by decide) ?_
            refine lv_aload_n hx hb dL_watched_109 rfl (lv_at hl 3 rfl) ?_
            refine lv_aload_n hx hb dL_watched_110 rfl (lv_at hl 3 rfl) ?_
            refine lv_iload_n hx hb dL_watched_111 rfl (lv_at hl 1 rfl) ?_
            obtain ⟨r_22, hc22, hf⟩ := sf_c1e hf
            refine k_Pi (run_YS (As := [.ref h0, .int v_1]) (rest := [.ref h0, .int (1 : Int32), .int v_2]) ⟨hx, hb, hml, hown, ha⟩ (c_L_endOf l D dA cA h0 h1 h2 h3 h4 h5 h6 h9 h10 h11 h12 h13 h14 h17 h21 h41 h43 h46 h49   on ot op os sc sd sp sw bc bg bs bt be xi xe xf v_1 _ hc22) (gi_S2 m_769 m_770 m_30 m_771) (yd_L_endOf).2 ⟨Nat.le_of_ble_eq_true rfl, Nat.le_of_ble_eq_true rfl⟩ ⟨rfl, rfl⟩ hK hX hS hP [0, 1, 2, 3, 4, 5, 6, 7, 8, 9, 10] rfl rfl hl.1 rfl (Nat.le_of_ble_eq_true rfl) dL_watched_112 ⟨Nat.le_of_ble_eq_true rfl, Nat.le_of_ble_eq_true rfl⟩) hP hS (fun H locs hP hS => ?_)
            obtain ⟨r_23, hc23, hf⟩ := sf_c1e hf
            refine k_Pi (run_YS (As := [.ref h0, .int r_22]) (rest := [.int (1 : Int32), .int v_2]) ⟨hx, hb, hml, hown, ha⟩ (c_L_watched_12 l D dA cA h0 h1 h2 h3 h4 h5 h6 h9 h10 h11 h12 h13 h14 h17 h21 h41 h43 h46 h49   on ot op os sc sd sp sw bc bg bs bt be xi xe xf r_22 _ hc23) (gi_S2 m_847 m_848 m_30 m_849) (yd_L_watched_12).2 ⟨Nat.le_of_ble_eq_true rfl, Nat.le_of_ble_eq_true rfl⟩ ⟨rfl, rfl⟩ hK hX hS hP [0, 1, 2, 3, 4, 5, 6, 7, 8, 9, 10] rfl rfl hl.1 rfl (Nat.le_of_ble_eq_true rfl) dL_watched_115 ⟨Nat.le_of_ble_eq_true rfl, Nat.le_of_ble_eq_true rfl⟩) hP hS (fun H locs hP hS => ?_)
            refine lv_iadd hx hb dL_watched_118 ?_
            refine mx_i hx hb ha hown hml hl.1 m_785 m_786 m_54 m_787 ⟨Nat.le_of_ble_eq_true rfl, Nat.le_of_ble_eq_true rfl⟩ ⟨Nat.le_of_ble_eq_true rfl, Nat.le_of_ble_eq_true rfl⟩ dL_watched_119 ?_
            refine lv_goto (tgt := 126) hx hb dL_watched_122 (by decide) ?_
            exact hJ20 _ _ _ _ (hP.sub [0, 1, 2, 3, 4, 5, 6, 7, 8, 9, 10] rfl) hS (lv_sub hl [1, 3, 4] rfl) hf
        refine lv_icmp_lt (tgt := 25) hx hb dL_watched_18 (by decide) (fun hc => ?_) (fun hc => ?_)
        · have hf := sf_bp hf hc
          refine lv_iconst (v := 0) hx hb dL_watched_25 (by decide) ?_
          exact hJ6 _ _ _ _ (hP.sub [0, 1, 2, 3, 4, 5, 6, 7, 8, 9, 10] rfl) hS (lv_sub hl [0, 1, 2, 3] rfl) hf
        · have hf := sf_bn hf hc
          refine lv_iconst (v := 1) hx hb dL_watched_21 (by decide) ?_
          refine lv_goto (tgt := 26) hx hb dL_watched_22 (by decide) ?_
          exact hJ6 _ _ _ _ (hP.sub [0, 1, 2, 3, 4, 5, 6, 7, 8, 9, 10] rfl) hS (lv_sub hl [0, 1, 2, 3] rfl) hf
  refine hL4_24 2000 _ _ _ _ _ _ hP hS (lv_sub hl [0, 1, 2, 3] rfl) hf (fun y_24 H locs ls hP hS hl hf => ?_)
  refine lv_iload_n hx hb dL_watched_133 rfl (lv_at hl 0 rfl) ?_
  exact rt_Pi hx hb hr hlocks (Option.some.inj hf) hS dL_watched_134

