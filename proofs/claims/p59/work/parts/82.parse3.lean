/-! one command, read by both -/
def zCore (ts : Nat → Int32) (tl tp : Int32) (tn : Nat → Int32) : Option (Option Nat × Int32 × (Nat → Int32)) := sf_c2 (f_X4_takeKeyword ts tl tp) (fun o_1 x_2 => sf_o o_1 (some (none, x_2, tn)) (fun i_3 => sf_g (i_3 < 7) (sf_b (i_3 = 6) (sf_c1 (f_X4_isNext ts tl x_2 (32 : Int32)) (fun r_4 => sf_b (r_4 = (0 : Int32)) (sf_g (sf_in (0 : Int32) 3 = true) (sf_n (upd tn (0 : Int32).toNatClampNeg (1 : Int32)) (fun a_8 => some ((some i_3), x_2, a_8)))) (sf_c3 (f_X4_takeNumbers ts tl x_2 tn i_3) (fun r_5 x_6 a_7 => sf_b (r_5 = (0 : Int32)) (some (none, x_6, a_7)) (some ((some i_3), x_6, a_7)))))) (sf_c3 (f_X4_takeNumbers ts tl x_2 tn i_3) (fun r_9 x_10 a_11 => sf_b (r_9 = (0 : Int32)) (some (none, x_10, a_11)) (some ((some i_3), x_10, a_11)))))))
def NUMS (i : Nat) (V : Nat → Nat) (tn : Nat → Int32) : Prop := ∀ j, j < zN i → tn j = nI (V j)
def CMDS (i : Nat) (V : Nat → Nat) (k : Nat) (mc : Nat → Int32) : Prop := mc (4 * k) = nI (zkw i 0) ∧ ∀ j, j < zN i → mc (4 * k + 1 + j) = nI (V j)
/-- what one reading comes to: the command i with numbers V up to p', or an error at p' -/
def RD (ts mI : Nat → Int32) (l p k : Nat) (mc : Nat → Int32) (p' : Nat) : Prop := p ≤ p' ∧ p' ≤ l ∧ ((∃ (i : Nat) (V : Nat → Nat), i < 7 ∧ p + 4 ≤ p' ∧ (∀ x, V x < 10000) ∧ (∀ tn, ∃ tn', zCore ts (nI l) (nI p) tn = some (some i, nI p', tn') ∧ NUMS i V tn') ∧ ∃ mc', f_X12_readCommand mI (nI l) (nI p) (nI 0) mc (nI k) = some (nI p', nI 0, mc', nI (k + 1)) ∧ (∀ x, x < 4 * k → mc' x = mc x) ∧ CMDS i V k mc') ∨ ((∀ tn, ∃ tn', zCore ts (nI l) (nI p) tn = some (none, nI p', tn')) ∧ ∃ mc', f_X12_readCommand mI (nI l) (nI p) (nI 0) mc (nI k) = some (nI p', nI 1, mc', nI (k + 1))))
section PR3
variable {c : Nat → Nat} {l : Nat} {ts mI : Nat → Int32}
theorem rd_slide (h : TT c l ts mI) {p k : Nat} (hp : p < l) (hc : c p = 115) (hk : k < 60) (mc : Nat → Int32) : ∃ p', RD ts mI l p k mc p' := by
  have hl := h.1
  have hbeh := fx_beh h (p := p) (by omega)
  rw [if_pos hp, hc] at hbeh
  have hsk := fx_skip h (p := p) (i := 0) (by omega) (by omega)
  have hkw := fx_kw1 h (i := 0) (by omega) hp hc
  have hkn : zkn 0 = 5 := rfl
  obtain ⟨m1, m2, m3⟩ := zml_b (c := c) (l := l) (p := p) (i := 0) (by omega) (by omega)
  rw [hkn] at hsk hkw m2
  by_cases z : zml c l p 0 < 5
  · rw [if_pos z] at hsk hkw
    refine ⟨p + zml c l p 0, by omega, m3, Or.inr ⟨fun tn => ⟨tn, ?_⟩, ?_⟩⟩
    · rw [zCore]
      exact sfc2_i hkw (sfo_n rfl)
    · refine ⟨(upd (upd (upd mc (4 * k) (nI 115)) (4 * k + 1) (nI 0)) (4 * k + 2) (nI 0)), ?_⟩
      rw [f_X12_readCommand]
      refine sfb_t (by decide) ?_
      refine sfc1_i hbeh ?_
      refine sfn_r (y := nI (4 * k)) (by rw [il_4, nI_mul]) ?_
      refine sfn_r (nI_1 k) ?_
      refine sfg_i (of_eq_true (nI_inT (by omega) (by omega))) ?_
      rw [nI_clamp (show 4 * k < 2 ^ 31 by omega)]
      refine sfn_r rfl ?_
      refine sfb_f (by decide) ?_
      refine sfb_f (by decide) ?_
      refine sfb_f (by decide) ?_
      refine sfb_f (by decide) ?_
      refine sfb_t (by decide) ?_
      refine sfc2_i hsk ?_
      refine sfc3_i (jn_w (mI := mI) (l := l) (d := 1) (by omega) (by omega)) ?_
      rw [show nI (4 * k) + (1 : Int32) = nI (4 * k + 1) from nI_add _ _]
      refine sfg_i (of_eq_true (nI_inT (by omega) (by omega))) ?_
      rw [nI_clamp (show 4 * k + 1 < 2 ^ 31 by omega)]
      refine sfn_r rfl ?_
      refine sfc3_i (jn_w (mI := mI) (l := l) (d := 1) (by omega) (by omega)) ?_
      rw [show nI (4 * k) + (2 : Int32) = nI (4 * k + 2) from nI_add _ _]
      refine sfg_i (of_eq_true (nI_inT (by omega) (by omega))) ?_
      rw [nI_clamp (show 4 * k + 2 < 2 ^ 31 by omega)]
      refine sfn_r rfl ?_
      rfl
  have ez : zml c l p 0 = 5 := by omega
  rw [if_neg z, ez] at hsk hkw
  have hp0 : p + 5 ≤ l := by omega
  by_cases s0 : zsp c l (p + 5)
  case neg =>
    have r0 := (jn_rn h (p := (p + 5)) (d := 1) (by omega) (by omega) (by omega)).2.2 s0
    refine ⟨(p + 5), by omega, by omega, Or.inr ⟨fun tn => ?_, ?_⟩⟩
    · have htn : f_X4_takeNumbers ts (nI l) (nI (p + 5)) tn 0 = some (nI 0, nI (p + 5), tn) := (ts_step h (i := 0) (j := 0) (p := (p + 5)) (m := 1999) (by omega) (by decide) (by omega) tn).2.2 s0
      refine ⟨tn, ?_⟩
      rw [zCore]
      exact sfc2_i hkw (sfo_s (sfg_i (by omega) (sfb_f (by omega) (sfc3_i htn (sfb_t (by decide) rfl)))))
    · refine ⟨(upd (upd (upd mc (4 * k) (nI 115)) (4 * k + 1) (nI 0)) (4 * k + 2) (nI 0)), ?_⟩
      rw [f_X12_readCommand]
      refine sfb_t (by decide) ?_
      refine sfc1_i hbeh ?_
      refine sfn_r (y := nI (4 * k)) (by rw [il_4, nI_mul]) ?_
      refine sfn_r (nI_1 k) ?_
      refine sfg_i (of_eq_true (nI_inT (by omega) (by omega))) ?_
      rw [nI_clamp (show 4 * k < 2 ^ 31 by omega)]
      refine sfn_r rfl ?_
      refine sfb_f (by decide) ?_
      refine sfb_f (by decide) ?_
      refine sfb_f (by decide) ?_
      refine sfb_f (by decide) ?_
      refine sfb_t (by decide) ?_
      refine sfc2_i hsk ?_
      refine sfc3_i r0 ?_
      rw [show nI (4 * k) + (1 : Int32) = nI (4 * k + 1) from nI_add _ _]
      refine sfg_i (of_eq_true (nI_inT (by omega) (by omega))) ?_
      rw [nI_clamp (show 4 * k + 1 < 2 ^ 31 by omega)]
      refine sfn_r rfl ?_
      refine sfc3_i (jn_w (mI := mI) (l := l) (d := 1) (by omega) (by omega)) ?_
      rw [show nI (4 * k) + (2 : Int32) = nI (4 * k + 2) from nI_add _ _]
      refine sfg_i (of_eq_true (nI_inT (by omega) (by omega))) ?_
      rw [nI_clamp (show 4 * k + 2 < 2 ^ 31 by omega)]
      refine sfn_r rfl ?_
      rfl
  have s0a := s0.1
  obtain ⟨b0, q0⟩ := zdv_lt (c := c) (l := l) (p := (p + 5)) (d := 1) (by omega) (by omega)
  rcases Nat.eq_zero_or_pos (zdc c l (p + 5) 1) with n0 | n0
  · have r0 := (jn_rn h (p := (p + 5)) (d := 1) (by omega) (by omega) (by omega)).2.1 s0 n0
    refine ⟨((p + 5) + 1), by omega, by omega, Or.inr ⟨fun tn => ?_, ?_⟩⟩
    · obtain ⟨tn', e9⟩ := (ts_step h (i := 0) (j := 0) (p := (p + 5)) (m := 1999) (k := fun y_17 z_18 => some (1, y_17, z_18)) (by omega) (by decide) (by omega) tn).2.1 s0 n0
      have htn : f_X4_takeNumbers ts (nI l) (nI (p + 5)) tn 0 = some (nI 0, nI ((p + 5) + 1), tn') := e9
      refine ⟨tn', ?_⟩
      rw [zCore]
      exact sfc2_i hkw (sfo_s (sfg_i (by omega) (sfb_f (by omega) (sfc3_i htn (sfb_t (by decide) rfl)))))
    · refine ⟨(upd (upd (upd mc (4 * k) (nI 115)) (4 * k + 1) (nI 0)) (4 * k + 2) (nI 0)), ?_⟩
      rw [f_X12_readCommand]
      refine sfb_t (by decide) ?_
      refine sfc1_i hbeh ?_
      refine sfn_r (y := nI (4 * k)) (by rw [il_4, nI_mul]) ?_
      refine sfn_r (nI_1 k) ?_
      refine sfg_i (of_eq_true (nI_inT (by omega) (by omega))) ?_
      rw [nI_clamp (show 4 * k < 2 ^ 31 by omega)]
      refine sfn_r rfl ?_
      refine sfb_f (by decide) ?_
      refine sfb_f (by decide) ?_
      refine sfb_f (by decide) ?_
      refine sfb_f (by decide) ?_
      refine sfb_t (by decide) ?_
      refine sfc2_i hsk ?_
      refine sfc3_i r0 ?_
      rw [show nI (4 * k) + (1 : Int32) = nI (4 * k + 1) from nI_add _ _]
      refine sfg_i (of_eq_true (nI_inT (by omega) (by omega))) ?_
      rw [nI_clamp (show 4 * k + 1 < 2 ^ 31 by omega)]
      refine sfn_r rfl ?_
      refine sfc3_i (jn_w (mI := mI) (l := l) (d := 1) (by omega) (by omega)) ?_
      rw [show nI (4 * k) + (2 : Int32) = nI (4 * k + 2) from nI_add _ _]
      refine sfg_i (of_eq_true (nI_inT (by omega) (by omega))) ?_
      rw [nI_clamp (show 4 * k + 2 < 2 ^ 31 by omega)]
      refine sfn_r rfl ?_
      rfl
  have r0 := (jn_rn h (p := (p + 5)) (d := 1) (by omega) (by omega) (by omega)).1 s0 n0
  by_cases s1 : zsp c l ((p + 5) + 1 + zdc c l (p + 5) 1)
  case neg =>
    have r1 := (jn_rn h (p := ((p + 5) + 1 + zdc c l (p + 5) 1)) (d := 1) (by omega) (by omega) (by omega)).2.2 s1
    refine ⟨((p + 5) + 1 + zdc c l (p + 5) 1), by omega, by omega, Or.inr ⟨fun tn => ?_, ?_⟩⟩
    · have htn : f_X4_takeNumbers ts (nI l) (nI (p + 5)) tn 0 = some (nI 0, nI ((p + 5) + 1 + zdc c l (p + 5) 1), (upd tn 0 (nI (zdv c l (p + 5) 1)))) := Eq.trans ((ts_step h (i := 0) (j := 0) (p := (p + 5)) (m := 1999) (by omega) (by decide) (by omega) tn).1 s0 n0) ((ts_step h (i := 0) (j := 1) (p := ((p + 5) + 1 + zdc c l (p + 5) 1)) (m := 1998) (by omega) (by decide) (by omega) (upd tn 0 (nI (zdv c l (p + 5) 1)))).2.2 s1)
      refine ⟨(upd tn 0 (nI (zdv c l (p + 5) 1))), ?_⟩
      rw [zCore]
      exact sfc2_i hkw (sfo_s (sfg_i (by omega) (sfb_f (by omega) (sfc3_i htn (sfb_t (by decide) rfl)))))
    · refine ⟨(upd (upd (upd mc (4 * k) (nI 115)) (4 * k + 1) (nI (zdv c l (p + 5) 1))) (4 * k + 2) (nI 0)), ?_⟩
      rw [f_X12_readCommand]
      refine sfb_t (by decide) ?_
      refine sfc1_i hbeh ?_
      refine sfn_r (y := nI (4 * k)) (by rw [il_4, nI_mul]) ?_
      refine sfn_r (nI_1 k) ?_
      refine sfg_i (of_eq_true (nI_inT (by omega) (by omega))) ?_
      rw [nI_clamp (show 4 * k < 2 ^ 31 by omega)]
      refine sfn_r rfl ?_
      refine sfb_f (by decide) ?_
      refine sfb_f (by decide) ?_
      refine sfb_f (by decide) ?_
      refine sfb_f (by decide) ?_
      refine sfb_t (by decide) ?_
      refine sfc2_i hsk ?_
      refine sfc3_i r0 ?_
      rw [show nI (4 * k) + (1 : Int32) = nI (4 * k + 1) from nI_add _ _]
      refine sfg_i (of_eq_true (nI_inT (by omega) (by omega))) ?_
      rw [nI_clamp (show 4 * k + 1 < 2 ^ 31 by omega)]
      refine sfn_r rfl ?_
      refine sfc3_i r1 ?_
      rw [show nI (4 * k) + (2 : Int32) = nI (4 * k + 2) from nI_add _ _]
      refine sfg_i (of_eq_true (nI_inT (by omega) (by omega))) ?_
      rw [nI_clamp (show 4 * k + 2 < 2 ^ 31 by omega)]
      refine sfn_r rfl ?_
      rfl
  have s1a := s1.1
  obtain ⟨b1, q1⟩ := zdv_lt (c := c) (l := l) (p := ((p + 5) + 1 + zdc c l (p + 5) 1)) (d := 1) (by omega) (by omega)
  rcases Nat.eq_zero_or_pos (zdc c l ((p + 5) + 1 + zdc c l (p + 5) 1) 1) with n1 | n1
  · have r1 := (jn_rn h (p := ((p + 5) + 1 + zdc c l (p + 5) 1)) (d := 1) (by omega) (by omega) (by omega)).2.1 s1 n1
    refine ⟨(((p + 5) + 1 + zdc c l (p + 5) 1) + 1), by omega, by omega, Or.inr ⟨fun tn => ?_, ?_⟩⟩
    · obtain ⟨tn', e9⟩ := (ts_step h (i := 0) (j := 1) (p := ((p + 5) + 1 + zdc c l (p + 5) 1)) (m := 1998) (k := fun y_17 z_18 => some (1, y_17, z_18)) (by omega) (by decide) (by omega) (upd tn 0 (nI (zdv c l (p + 5) 1)))).2.1 s1 n1
      have htn : f_X4_takeNumbers ts (nI l) (nI (p + 5)) tn 0 = some (nI 0, nI (((p + 5) + 1 + zdc c l (p + 5) 1) + 1), tn') := Eq.trans ((ts_step h (i := 0) (j := 0) (p := (p + 5)) (m := 1999) (by omega) (by decide) (by omega) tn).1 s0 n0) (e9)
      refine ⟨tn', ?_⟩
      rw [zCore]
      exact sfc2_i hkw (sfo_s (sfg_i (by omega) (sfb_f (by omega) (sfc3_i htn (sfb_t (by decide) rfl)))))
    · refine ⟨(upd (upd (upd mc (4 * k) (nI 115)) (4 * k + 1) (nI (zdv c l (p + 5) 1))) (4 * k + 2) (nI 0)), ?_⟩
      rw [f_X12_readCommand]
      refine sfb_t (by decide) ?_
      refine sfc1_i hbeh ?_
      refine sfn_r (y := nI (4 * k)) (by rw [il_4, nI_mul]) ?_
      refine sfn_r (nI_1 k) ?_
      refine sfg_i (of_eq_true (nI_inT (by omega) (by omega))) ?_
      rw [nI_clamp (show 4 * k < 2 ^ 31 by omega)]
      refine sfn_r rfl ?_
      refine sfb_f (by decide) ?_
      refine sfb_f (by decide) ?_
      refine sfb_f (by decide) ?_
      refine sfb_f (by decide) ?_
      refine sfb_t (by decide) ?_
      refine sfc2_i hsk ?_
      refine sfc3_i r0 ?_
      rw [show nI (4 * k) + (1 : Int32) = nI (4 * k + 1) from nI_add _ _]
      refine sfg_i (of_eq_true (nI_inT (by omega) (by omega))) ?_
      rw [nI_clamp (show 4 * k + 1 < 2 ^ 31 by omega)]
      refine sfn_r rfl ?_
      refine sfc3_i r1 ?_
      rw [show nI (4 * k) + (2 : Int32) = nI (4 * k + 2) from nI_add _ _]
      refine sfg_i (of_eq_true (nI_inT (by omega) (by omega))) ?_
      rw [nI_clamp (show 4 * k + 2 < 2 ^ 31 by omega)]
      refine sfn_r rfl ?_
      rfl
  have r1 := (jn_rn h (p := ((p + 5) + 1 + zdc c l (p + 5) 1)) (d := 1) (by omega) (by omega) (by omega)).1 s1 n1
  refine ⟨(((p + 5) + 1 + zdc c l (p + 5) 1) + 1 + zdc c l ((p + 5) + 1 + zdc c l (p + 5) 1) 1), by omega, by omega, Or.inl ⟨0, (fun x => if x = 0 then (zdv c l (p + 5) 1) else (zdv c l ((p + 5) + 1 + zdc c l (p + 5) 1) 1)), by omega, by omega, fun x => ?_, fun tn => ?_, ?_⟩⟩
  · dsimp only
    repeat' split
    all_goals omega
  · refine ⟨(upd (upd tn 0 (nI (zdv c l (p + 5) 1))) 1 (nI (zdv c l ((p + 5) + 1 + zdc c l (p + 5) 1) 1))), ?_, ?_⟩
    · have htn : f_X4_takeNumbers ts (nI l) (nI (p + 5)) tn 0 = some (1, nI (((p + 5) + 1 + zdc c l (p + 5) 1) + 1 + zdc c l ((p + 5) + 1 + zdc c l (p + 5) 1) 1), (upd (upd tn 0 (nI (zdv c l (p + 5) 1))) 1 (nI (zdv c l ((p + 5) + 1 + zdc c l (p + 5) 1) 1)))) := Eq.trans ((ts_step h (i := 0) (j := 0) (p := (p + 5)) (m := 1999) (by omega) (by decide) (by omega) tn).1 s0 n0) (Eq.trans ((ts_step h (i := 0) (j := 1) (p := ((p + 5) + 1 + zdc c l (p + 5) 1)) (m := 1998) (by omega) (by decide) (by omega) (upd tn 0 (nI (zdv c l (p + 5) 1)))).1 s1 n1) (ts_end (i := 0) (m := 1997) (by omega) (upd (upd tn 0 (nI (zdv c l (p + 5) 1))) 1 (nI (zdv c l ((p + 5) + 1 + zdc c l (p + 5) 1) 1)))))
      rw [zCore]
      refine sfc2_i hkw (sfo_s (sfg_i (by omega) ?_))
      refine sfb_f (by omega) ?_
      exact sfc3_i htn (sfb_f (by decide) rfl)
    · intro j hj
      have hj2 : j < 2 := hj
      rcases (by omega : j = 0 ∨ j = 1) with e0 | e0 <;> subst e0 <;> rfl
  · refine ⟨(upd (upd (upd mc (4 * k) (nI 115)) (4 * k + 1) (nI (zdv c l (p + 5) 1))) (4 * k + 2) (nI (zdv c l ((p + 5) + 1 + zdc c l (p + 5) 1) 1))), ?_, fun x hx => ?_, ?_, fun j hj => ?_⟩
    · rw [f_X12_readCommand]
      refine sfb_t (by decide) ?_
      refine sfc1_i hbeh ?_
      refine sfn_r (y := nI (4 * k)) (by rw [il_4, nI_mul]) ?_
      refine sfn_r (nI_1 k) ?_
      refine sfg_i (of_eq_true (nI_inT (by omega) (by omega))) ?_
      rw [nI_clamp (show 4 * k < 2 ^ 31 by omega)]
      refine sfn_r rfl ?_
      refine sfb_f (by decide) ?_
      refine sfb_f (by decide) ?_
      refine sfb_f (by decide) ?_
      refine sfb_f (by decide) ?_
      refine sfb_t (by decide) ?_
      refine sfc2_i hsk ?_
      refine sfc3_i r0 ?_
      rw [show nI (4 * k) + (1 : Int32) = nI (4 * k + 1) from nI_add _ _]
      refine sfg_i (of_eq_true (nI_inT (by omega) (by omega))) ?_
      rw [nI_clamp (show 4 * k + 1 < 2 ^ 31 by omega)]
      refine sfn_r rfl ?_
      refine sfc3_i r1 ?_
      rw [show nI (4 * k) + (2 : Int32) = nI (4 * k + 2) from nI_add _ _]
      refine sfg_i (of_eq_true (nI_inT (by omega) (by omega))) ?_
      rw [nI_clamp (show 4 * k + 2 < 2 ^ 31 by omega)]
      refine sfn_r rfl ?_
      rfl
    · simp (disch := omega) only [upd_neP]
    · simp (disch := omega) only [upd_neP, upd_eqP]
      rfl
    · have hj2 : j < 2 := hj
      rcases (by omega : j = 0 ∨ j = 1) with e0 | e0 <;> subst e0 <;> (simp (disch := omega) only [upd_neP, upd_eqP]; rfl)
theorem rd_guest (h : TT c l ts mI) {p k : Nat} (hp : p < l) (hc : c p = 103) (hk : k < 60) (mc : Nat → Int32) : ∃ p', RD ts mI l p k mc p' := by
  have hl := h.1
  have hbeh := fx_beh h (p := p) (by omega)
  rw [if_pos hp, hc] at hbeh
  have hsk := fx_skip h (p := p) (i := 1) (by omega) (by omega)
  have hkw := fx_kw1 h (i := 1) (by omega) hp hc
  have hkn : zkn 1 = 5 := rfl
  obtain ⟨m1, m2, m3⟩ := zml_b (c := c) (l := l) (p := p) (i := 1) (by omega) (by omega)
  rw [hkn] at hsk hkw m2
  by_cases z : zml c l p 1 < 5
  · rw [if_pos z] at hsk hkw
    refine ⟨p + zml c l p 1, by omega, m3, Or.inr ⟨fun tn => ⟨tn, ?_⟩, ?_⟩⟩
    · rw [zCore]
      exact sfc2_i hkw (sfo_n rfl)
    · refine ⟨(upd mc (4 * k) (nI 103)), ?_⟩
      rw [f_X12_readCommand]
      refine sfb_t (by decide) ?_
      refine sfc1_i hbeh ?_
      refine sfn_r (y := nI (4 * k)) (by rw [il_4, nI_mul]) ?_
      refine sfn_r (nI_1 k) ?_
      refine sfg_i (of_eq_true (nI_inT (by omega) (by omega))) ?_
      rw [nI_clamp (show 4 * k < 2 ^ 31 by omega)]
      refine sfn_r rfl ?_
      refine sfb_f (by decide) ?_
      refine sfb_f (by decide) ?_
      refine sfb_f (by decide) ?_
      refine sfb_f (by decide) ?_
      refine sfb_f (by decide) ?_
      refine sfb_f (by decide) ?_
      refine sfc2_i hsk ?_
      rfl
  have ez : zml c l p 1 = 5 := by omega
  rw [if_neg z, ez] at hsk hkw
  have hp0 : p + 5 ≤ l := by omega
  refine ⟨(p + 5), by omega, by omega, Or.inl ⟨1, (fun _ => 0), by omega, by omega, fun x => ?_, fun tn => ?_, ?_⟩⟩
  · show 0 < 10000
    omega
  · refine ⟨tn, ?_, ?_⟩
    · have htn : f_X4_takeNumbers ts (nI l) (nI (p + 5)) tn 1 = some (1, nI (p + 5), tn) := ts_end (i := 1) (m := 1999) (by omega) tn
      rw [zCore]
      refine sfc2_i hkw (sfo_s (sfg_i (by omega) ?_))
      refine sfb_f (by omega) ?_
      exact sfc3_i htn (sfb_f (by decide) rfl)
    · intro j hj
      have hj2 : j < 0 := hj
      omega
  · refine ⟨(upd mc (4 * k) (nI 103)), ?_, fun x hx => ?_, ?_, fun j hj => ?_⟩
    · rw [f_X12_readCommand]
      refine sfb_t (by decide) ?_
      refine sfc1_i hbeh ?_
      refine sfn_r (y := nI (4 * k)) (by rw [il_4, nI_mul]) ?_
      refine sfn_r (nI_1 k) ?_
      refine sfg_i (of_eq_true (nI_inT (by omega) (by omega))) ?_
      rw [nI_clamp (show 4 * k < 2 ^ 31 by omega)]
      refine sfn_r rfl ?_
      refine sfb_f (by decide) ?_
      refine sfb_f (by decide) ?_
      refine sfb_f (by decide) ?_
      refine sfb_f (by decide) ?_
      refine sfb_f (by decide) ?_
      refine sfb_f (by decide) ?_
      refine sfc2_i hsk ?_
      rfl
    · rw [upd_neP (by omega)]
    · rw [upd_eqP rfl]; rfl
    · exact absurd hj (Nat.not_lt_zero j)
theorem rd_book (h : TT c l ts mI) {p k : Nat} (hp : p < l) (hc : c p = 98) (hk : k < 60) (mc : Nat → Int32) : ∃ p', RD ts mI l p k mc p' := by
  have hl := h.1
  have hbeh := fx_beh h (p := p) (by omega)
  rw [if_pos hp, hc] at hbeh
  have hsk := fx_skip h (p := p) (i := 2) (by omega) (by omega)
  have hkw := fx_kw1 h (i := 2) (by omega) hp hc
  have hkn : zkn 2 = 4 := rfl
  obtain ⟨m1, m2, m3⟩ := zml_b (c := c) (l := l) (p := p) (i := 2) (by omega) (by omega)
  rw [hkn] at hsk hkw m2
  by_cases z : zml c l p 2 < 4
  · rw [if_pos z] at hsk hkw
    refine ⟨p + zml c l p 2, by omega, m3, Or.inr ⟨fun tn => ⟨tn, ?_⟩, ?_⟩⟩
    · rw [zCore]
      exact sfc2_i hkw (sfo_n rfl)
    · refine ⟨(upd (upd (upd (upd mc (4 * k) (nI 98)) (4 * k + 1) (nI 0)) (4 * k + 2) (nI 0)) (4 * k + 3) (nI 0)), ?_⟩
      rw [f_X12_readCommand]
      refine sfb_t (by decide) ?_
      refine sfc1_i hbeh ?_
      refine sfn_r (y := nI (4 * k)) (by rw [il_4, nI_mul]) ?_
      refine sfn_r (nI_1 k) ?_
      refine sfg_i (of_eq_true (nI_inT (by omega) (by omega))) ?_
      rw [nI_clamp (show 4 * k < 2 ^ 31 by omega)]
      refine sfn_r rfl ?_
      refine sfb_t (by decide) ?_
      refine sfc2_i hsk ?_
      refine sfc3_i (jn_w (mI := mI) (l := l) (d := 1) (by omega) (by omega)) ?_
      rw [show nI (4 * k) + (1 : Int32) = nI (4 * k + 1) from nI_add _ _]
      refine sfg_i (of_eq_true (nI_inT (by omega) (by omega))) ?_
      rw [nI_clamp (show 4 * k + 1 < 2 ^ 31 by omega)]
      refine sfn_r rfl ?_
      refine sfc3_i (jn_w (mI := mI) (l := l) (d := 1) (by omega) (by omega)) ?_
      rw [show nI (4 * k) + (2 : Int32) = nI (4 * k + 2) from nI_add _ _]
      refine sfg_i (of_eq_true (nI_inT (by omega) (by omega))) ?_
      rw [nI_clamp (show 4 * k + 2 < 2 ^ 31 by omega)]
      refine sfn_r rfl ?_
      refine sfc3_i (jn_w (mI := mI) (l := l) (d := 4) (by omega) (by omega)) ?_
      rw [show nI (4 * k) + (3 : Int32) = nI (4 * k + 3) from nI_add _ _]
      refine sfg_i (of_eq_true (nI_inT (by omega) (by omega))) ?_
      rw [nI_clamp (show 4 * k + 3 < 2 ^ 31 by omega)]
      refine sfn_r rfl ?_
      rfl
  have ez : zml c l p 2 = 4 := by omega
  rw [if_neg z, ez] at hsk hkw
  have hp0 : p + 4 ≤ l := by omega
  by_cases s0 : zsp c l (p + 4)
  case neg =>
    have r0 := (jn_rn h (p := (p + 4)) (d := 1) (by omega) (by omega) (by omega)).2.2 s0
    refine ⟨(p + 4), by omega, by omega, Or.inr ⟨fun tn => ?_, ?_⟩⟩
    · have htn : f_X4_takeNumbers ts (nI l) (nI (p + 4)) tn 2 = some (nI 0, nI (p + 4), tn) := (ts_step h (i := 2) (j := 0) (p := (p + 4)) (m := 1999) (by omega) (by decide) (by omega) tn).2.2 s0
      refine ⟨tn, ?_⟩
      rw [zCore]
      exact sfc2_i hkw (sfo_s (sfg_i (by omega) (sfb_f (by omega) (sfc3_i htn (sfb_t (by decide) rfl)))))
    · refine ⟨(upd (upd (upd (upd mc (4 * k) (nI 98)) (4 * k + 1) (nI 0)) (4 * k + 2) (nI 0)) (4 * k + 3) (nI 0)), ?_⟩
      rw [f_X12_readCommand]
      refine sfb_t (by decide) ?_
      refine sfc1_i hbeh ?_
      refine sfn_r (y := nI (4 * k)) (by rw [il_4, nI_mul]) ?_
      refine sfn_r (nI_1 k) ?_
      refine sfg_i (of_eq_true (nI_inT (by omega) (by omega))) ?_
      rw [nI_clamp (show 4 * k < 2 ^ 31 by omega)]
      refine sfn_r rfl ?_
      refine sfb_t (by decide) ?_
      refine sfc2_i hsk ?_
      refine sfc3_i r0 ?_
      rw [show nI (4 * k) + (1 : Int32) = nI (4 * k + 1) from nI_add _ _]
      refine sfg_i (of_eq_true (nI_inT (by omega) (by omega))) ?_
      rw [nI_clamp (show 4 * k + 1 < 2 ^ 31 by omega)]
      refine sfn_r rfl ?_
      refine sfc3_i (jn_w (mI := mI) (l := l) (d := 1) (by omega) (by omega)) ?_
      rw [show nI (4 * k) + (2 : Int32) = nI (4 * k + 2) from nI_add _ _]
      refine sfg_i (of_eq_true (nI_inT (by omega) (by omega))) ?_
      rw [nI_clamp (show 4 * k + 2 < 2 ^ 31 by omega)]
      refine sfn_r rfl ?_
      refine sfc3_i (jn_w (mI := mI) (l := l) (d := 4) (by omega) (by omega)) ?_
      rw [show nI (4 * k) + (3 : Int32) = nI (4 * k + 3) from nI_add _ _]
      refine sfg_i (of_eq_true (nI_inT (by omega) (by omega))) ?_
      rw [nI_clamp (show 4 * k + 3 < 2 ^ 31 by omega)]
      refine sfn_r rfl ?_
      rfl
  have s0a := s0.1
  obtain ⟨b0, q0⟩ := zdv_lt (c := c) (l := l) (p := (p + 4)) (d := 1) (by omega) (by omega)
  rcases Nat.eq_zero_or_pos (zdc c l (p + 4) 1) with n0 | n0
  · have r0 := (jn_rn h (p := (p + 4)) (d := 1) (by omega) (by omega) (by omega)).2.1 s0 n0
    refine ⟨((p + 4) + 1), by omega, by omega, Or.inr ⟨fun tn => ?_, ?_⟩⟩
    · obtain ⟨tn', e9⟩ := (ts_step h (i := 2) (j := 0) (p := (p + 4)) (m := 1999) (k := fun y_17 z_18 => some (1, y_17, z_18)) (by omega) (by decide) (by omega) tn).2.1 s0 n0
      have htn : f_X4_takeNumbers ts (nI l) (nI (p + 4)) tn 2 = some (nI 0, nI ((p + 4) + 1), tn') := e9
      refine ⟨tn', ?_⟩
      rw [zCore]
      exact sfc2_i hkw (sfo_s (sfg_i (by omega) (sfb_f (by omega) (sfc3_i htn (sfb_t (by decide) rfl)))))
    · refine ⟨(upd (upd (upd (upd mc (4 * k) (nI 98)) (4 * k + 1) (nI 0)) (4 * k + 2) (nI 0)) (4 * k + 3) (nI 0)), ?_⟩
      rw [f_X12_readCommand]
      refine sfb_t (by decide) ?_
      refine sfc1_i hbeh ?_
      refine sfn_r (y := nI (4 * k)) (by rw [il_4, nI_mul]) ?_
      refine sfn_r (nI_1 k) ?_
      refine sfg_i (of_eq_true (nI_inT (by omega) (by omega))) ?_
      rw [nI_clamp (show 4 * k < 2 ^ 31 by omega)]
      refine sfn_r rfl ?_
      refine sfb_t (by decide) ?_
      refine sfc2_i hsk ?_
      refine sfc3_i r0 ?_
      rw [show nI (4 * k) + (1 : Int32) = nI (4 * k + 1) from nI_add _ _]
      refine sfg_i (of_eq_true (nI_inT (by omega) (by omega))) ?_
      rw [nI_clamp (show 4 * k + 1 < 2 ^ 31 by omega)]
      refine sfn_r rfl ?_
      refine sfc3_i (jn_w (mI := mI) (l := l) (d := 1) (by omega) (by omega)) ?_
      rw [show nI (4 * k) + (2 : Int32) = nI (4 * k + 2) from nI_add _ _]
      refine sfg_i (of_eq_true (nI_inT (by omega) (by omega))) ?_
      rw [nI_clamp (show 4 * k + 2 < 2 ^ 31 by omega)]
      refine sfn_r rfl ?_
      refine sfc3_i (jn_w (mI := mI) (l := l) (d := 4) (by omega) (by omega)) ?_
      rw [show nI (4 * k) + (3 : Int32) = nI (4 * k + 3) from nI_add _ _]
      refine sfg_i (of_eq_true (nI_inT (by omega) (by omega))) ?_
      rw [nI_clamp (show 4 * k + 3 < 2 ^ 31 by omega)]
      refine sfn_r rfl ?_
      rfl
  have r0 := (jn_rn h (p := (p + 4)) (d := 1) (by omega) (by omega) (by omega)).1 s0 n0
  by_cases s1 : zsp c l ((p + 4) + 1 + zdc c l (p + 4) 1)
  case neg =>
    have r1 := (jn_rn h (p := ((p + 4) + 1 + zdc c l (p + 4) 1)) (d := 1) (by omega) (by omega) (by omega)).2.2 s1
    refine ⟨((p + 4) + 1 + zdc c l (p + 4) 1), by omega, by omega, Or.inr ⟨fun tn => ?_, ?_⟩⟩
    · have htn : f_X4_takeNumbers ts (nI l) (nI (p + 4)) tn 2 = some (nI 0, nI ((p + 4) + 1 + zdc c l (p + 4) 1), (upd tn 0 (nI (zdv c l (p + 4) 1)))) := Eq.trans ((ts_step h (i := 2) (j := 0) (p := (p + 4)) (m := 1999) (by omega) (by decide) (by omega) tn).1 s0 n0) ((ts_step h (i := 2) (j := 1) (p := ((p + 4) + 1 + zdc c l (p + 4) 1)) (m := 1998) (by omega) (by decide) (by omega) (upd tn 0 (nI (zdv c l (p + 4) 1)))).2.2 s1)
      refine ⟨(upd tn 0 (nI (zdv c l (p + 4) 1))), ?_⟩
      rw [zCore]
      exact sfc2_i hkw (sfo_s (sfg_i (by omega) (sfb_f (by omega) (sfc3_i htn (sfb_t (by decide) rfl)))))
    · refine ⟨(upd (upd (upd (upd mc (4 * k) (nI 98)) (4 * k + 1) (nI (zdv c l (p + 4) 1))) (4 * k + 2) (nI 0)) (4 * k + 3) (nI 0)), ?_⟩
      rw [f_X12_readCommand]
      refine sfb_t (by decide) ?_
      refine sfc1_i hbeh ?_
      refine sfn_r (y := nI (4 * k)) (by rw [il_4, nI_mul]) ?_
      refine sfn_r (nI_1 k) ?_
      refine sfg_i (of_eq_true (nI_inT (by omega) (by omega))) ?_
      rw [nI_clamp (show 4 * k < 2 ^ 31 by omega)]
      refine sfn_r rfl ?_
      refine sfb_t (by decide) ?_
      refine sfc2_i hsk ?_
      refine sfc3_i r0 ?_
      rw [show nI (4 * k) + (1 : Int32) = nI (4 * k + 1) from nI_add _ _]
      refine sfg_i (of_eq_true (nI_inT (by omega) (by omega))) ?_
      rw [nI_clamp (show 4 * k + 1 < 2 ^ 31 by omega)]
      refine sfn_r rfl ?_
      refine sfc3_i r1 ?_
      rw [show nI (4 * k) + (2 : Int32) = nI (4 * k + 2) from nI_add _ _]
      refine sfg_i (of_eq_true (nI_inT (by omega) (by omega))) ?_
      rw [nI_clamp (show 4 * k + 2 < 2 ^ 31 by omega)]
      refine sfn_r rfl ?_
      refine sfc3_i (jn_w (mI := mI) (l := l) (d := 4) (by omega) (by omega)) ?_
      rw [show nI (4 * k) + (3 : Int32) = nI (4 * k + 3) from nI_add _ _]
      refine sfg_i (of_eq_true (nI_inT (by omega) (by omega))) ?_
      rw [nI_clamp (show 4 * k + 3 < 2 ^ 31 by omega)]
      refine sfn_r rfl ?_
      rfl
  have s1a := s1.1
  obtain ⟨b1, q1⟩ := zdv_lt (c := c) (l := l) (p := ((p + 4) + 1 + zdc c l (p + 4) 1)) (d := 1) (by omega) (by omega)
  rcases Nat.eq_zero_or_pos (zdc c l ((p + 4) + 1 + zdc c l (p + 4) 1) 1) with n1 | n1
  · have r1 := (jn_rn h (p := ((p + 4) + 1 + zdc c l (p + 4) 1)) (d := 1) (by omega) (by omega) (by omega)).2.1 s1 n1
    refine ⟨(((p + 4) + 1 + zdc c l (p + 4) 1) + 1), by omega, by omega, Or.inr ⟨fun tn => ?_, ?_⟩⟩
    · obtain ⟨tn', e9⟩ := (ts_step h (i := 2) (j := 1) (p := ((p + 4) + 1 + zdc c l (p + 4) 1)) (m := 1998) (k := fun y_17 z_18 => some (1, y_17, z_18)) (by omega) (by decide) (by omega) (upd tn 0 (nI (zdv c l (p + 4) 1)))).2.1 s1 n1
      have htn : f_X4_takeNumbers ts (nI l) (nI (p + 4)) tn 2 = some (nI 0, nI (((p + 4) + 1 + zdc c l (p + 4) 1) + 1), tn') := Eq.trans ((ts_step h (i := 2) (j := 0) (p := (p + 4)) (m := 1999) (by omega) (by decide) (by omega) tn).1 s0 n0) (e9)
      refine ⟨tn', ?_⟩
      rw [zCore]
      exact sfc2_i hkw (sfo_s (sfg_i (by omega) (sfb_f (by omega) (sfc3_i htn (sfb_t (by decide) rfl)))))
    · refine ⟨(upd (upd (upd (upd mc (4 * k) (nI 98)) (4 * k + 1) (nI (zdv c l (p + 4) 1))) (4 * k + 2) (nI 0)) (4 * k + 3) (nI 0)), ?_⟩
      rw [f_X12_readCommand]
      refine sfb_t (by decide) ?_
      refine sfc1_i hbeh ?_
      refine sfn_r (y := nI (4 * k)) (by rw [il_4, nI_mul]) ?_
      refine sfn_r (nI_1 k) ?_
      refine sfg_i (of_eq_true (nI_inT (by omega) (by omega))) ?_
      rw [nI_clamp (show 4 * k < 2 ^ 31 by omega)]
      refine sfn_r rfl ?_
      refine sfb_t (by decide) ?_
      refine sfc2_i hsk ?_
      refine sfc3_i r0 ?_
      rw [show nI (4 * k) + (1 : Int32) = nI (4 * k + 1) from nI_add _ _]
      refine sfg_i (of_eq_true (nI_inT (by omega) (by omega))) ?_
      rw [nI_clamp (show 4 * k + 1 < 2 ^ 31 by omega)]
      refine sfn_r rfl ?_
      refine sfc3_i r1 ?_
      rw [show nI (4 * k) + (2 : Int32) = nI (4 * k + 2) from nI_add _ _]
      refine sfg_i (of_eq_true (nI_inT (by omega) (by omega))) ?_
      rw [nI_clamp (show 4 * k + 2 < 2 ^ 31 by omega)]
      refine sfn_r rfl ?_
      refine sfc3_i (jn_w (mI := mI) (l := l) (d := 4) (by omega) (by omega)) ?_
      rw [show nI (4 * k) + (3 : Int32) = nI (4 * k + 3) from nI_add _ _]
      refine sfg_i (of_eq_true (nI_inT (by omega) (by omega))) ?_
      rw [nI_clamp (show 4 * k + 3 < 2 ^ 31 by omega)]
      refine sfn_r rfl ?_
      rfl
  have r1 := (jn_rn h (p := ((p + 4) + 1 + zdc c l (p + 4) 1)) (d := 1) (by omega) (by omega) (by omega)).1 s1 n1
  by_cases s2 : zsp c l (((p + 4) + 1 + zdc c l (p + 4) 1) + 1 + zdc c l ((p + 4) + 1 + zdc c l (p + 4) 1) 1)
  case neg =>
    have r2 := (jn_rn h (p := (((p + 4) + 1 + zdc c l (p + 4) 1) + 1 + zdc c l ((p + 4) + 1 + zdc c l (p + 4) 1) 1)) (d := 4) (by omega) (by omega) (by omega)).2.2 s2
    refine ⟨(((p + 4) + 1 + zdc c l (p + 4) 1) + 1 + zdc c l ((p + 4) + 1 + zdc c l (p + 4) 1) 1), by omega, by omega, Or.inr ⟨fun tn => ?_, ?_⟩⟩
    · have htn : f_X4_takeNumbers ts (nI l) (nI (p + 4)) tn 2 = some (nI 0, nI (((p + 4) + 1 + zdc c l (p + 4) 1) + 1 + zdc c l ((p + 4) + 1 + zdc c l (p + 4) 1) 1), (upd (upd tn 0 (nI (zdv c l (p + 4) 1))) 1 (nI (zdv c l ((p + 4) + 1 + zdc c l (p + 4) 1) 1)))) := Eq.trans ((ts_step h (i := 2) (j := 0) (p := (p + 4)) (m := 1999) (by omega) (by decide) (by omega) tn).1 s0 n0) (Eq.trans ((ts_step h (i := 2) (j := 1) (p := ((p + 4) + 1 + zdc c l (p + 4) 1)) (m := 1998) (by omega) (by decide) (by omega) (upd tn 0 (nI (zdv c l (p + 4) 1)))).1 s1 n1) ((ts_step h (i := 2) (j := 2) (p := (((p + 4) + 1 + zdc c l (p + 4) 1) + 1 + zdc c l ((p + 4) + 1 + zdc c l (p + 4) 1) 1)) (m := 1997) (by omega) (by decide) (by omega) (upd (upd tn 0 (nI (zdv c l (p + 4) 1))) 1 (nI (zdv c l ((p + 4) + 1 + zdc c l (p + 4) 1) 1)))).2.2 s2))
      refine ⟨(upd (upd tn 0 (nI (zdv c l (p + 4) 1))) 1 (nI (zdv c l ((p + 4) + 1 + zdc c l (p + 4) 1) 1))), ?_⟩
      rw [zCore]
      exact sfc2_i hkw (sfo_s (sfg_i (by omega) (sfb_f (by omega) (sfc3_i htn (sfb_t (by decide) rfl)))))
    · refine ⟨(upd (upd (upd (upd mc (4 * k) (nI 98)) (4 * k + 1) (nI (zdv c l (p + 4) 1))) (4 * k + 2) (nI (zdv c l ((p + 4) + 1 + zdc c l (p + 4) 1) 1))) (4 * k + 3) (nI 0)), ?_⟩
      rw [f_X12_readCommand]
      refine sfb_t (by decide) ?_
      refine sfc1_i hbeh ?_
      refine sfn_r (y := nI (4 * k)) (by rw [il_4, nI_mul]) ?_
      refine sfn_r (nI_1 k) ?_
      refine sfg_i (of_eq_true (nI_inT (by omega) (by omega))) ?_
      rw [nI_clamp (show 4 * k < 2 ^ 31 by omega)]
      refine sfn_r rfl ?_
      refine sfb_t (by decide) ?_
      refine sfc2_i hsk ?_
      refine sfc3_i r0 ?_
      rw [show nI (4 * k) + (1 : Int32) = nI (4 * k + 1) from nI_add _ _]
      refine sfg_i (of_eq_true (nI_inT (by omega) (by omega))) ?_
      rw [nI_clamp (show 4 * k + 1 < 2 ^ 31 by omega)]
      refine sfn_r rfl ?_
      refine sfc3_i r1 ?_
      rw [show nI (4 * k) + (2 : Int32) = nI (4 * k + 2) from nI_add _ _]
      refine sfg_i (of_eq_true (nI_inT (by omega) (by omega))) ?_
      rw [nI_clamp (show 4 * k + 2 < 2 ^ 31 by omega)]
      refine sfn_r rfl ?_
      refine sfc3_i r2 ?_
      rw [show nI (4 * k) + (3 : Int32) = nI (4 * k + 3) from nI_add _ _]
      refine sfg_i (of_eq_true (nI_inT (by omega) (by omega))) ?_
      rw [nI_clamp (show 4 * k + 3 < 2 ^ 31 by omega)]
      refine sfn_r rfl ?_
      rfl
  have s2a := s2.1
  obtain ⟨b2, q2⟩ := zdv_lt (c := c) (l := l) (p := (((p + 4) + 1 + zdc c l (p + 4) 1) + 1 + zdc c l ((p + 4) + 1 + zdc c l (p + 4) 1) 1)) (d := 4) (by omega) (by omega)
  rcases Nat.eq_zero_or_pos (zdc c l (((p + 4) + 1 + zdc c l (p + 4) 1) + 1 + zdc c l ((p + 4) + 1 + zdc c l (p + 4) 1) 1) 4) with n2 | n2
  · have r2 := (jn_rn h (p := (((p + 4) + 1 + zdc c l (p + 4) 1) + 1 + zdc c l ((p + 4) + 1 + zdc c l (p + 4) 1) 1)) (d := 4) (by omega) (by omega) (by omega)).2.1 s2 n2
    refine ⟨((((p + 4) + 1 + zdc c l (p + 4) 1) + 1 + zdc c l ((p + 4) + 1 + zdc c l (p + 4) 1) 1) + 1), by omega, by omega, Or.inr ⟨fun tn => ?_, ?_⟩⟩
    · obtain ⟨tn', e9⟩ := (ts_step h (i := 2) (j := 2) (p := (((p + 4) + 1 + zdc c l (p + 4) 1) + 1 + zdc c l ((p + 4) + 1 + zdc c l (p + 4) 1) 1)) (m := 1997) (k := fun y_17 z_18 => some (1, y_17, z_18)) (by omega) (by decide) (by omega) (upd (upd tn 0 (nI (zdv c l (p + 4) 1))) 1 (nI (zdv c l ((p + 4) + 1 + zdc c l (p + 4) 1) 1)))).2.1 s2 n2
      have htn : f_X4_takeNumbers ts (nI l) (nI (p + 4)) tn 2 = some (nI 0, nI ((((p + 4) + 1 + zdc c l (p + 4) 1) + 1 + zdc c l ((p + 4) + 1 + zdc c l (p + 4) 1) 1) + 1), tn') := Eq.trans ((ts_step h (i := 2) (j := 0) (p := (p + 4)) (m := 1999) (by omega) (by decide) (by omega) tn).1 s0 n0) (Eq.trans ((ts_step h (i := 2) (j := 1) (p := ((p + 4) + 1 + zdc c l (p + 4) 1)) (m := 1998) (by omega) (by decide) (by omega) (upd tn 0 (nI (zdv c l (p + 4) 1)))).1 s1 n1) (e9))
      refine ⟨tn', ?_⟩
      rw [zCore]
      exact sfc2_i hkw (sfo_s (sfg_i (by omega) (sfb_f (by omega) (sfc3_i htn (sfb_t (by decide) rfl)))))
    · refine ⟨(upd (upd (upd (upd mc (4 * k) (nI 98)) (4 * k + 1) (nI (zdv c l (p + 4) 1))) (4 * k + 2) (nI (zdv c l ((p + 4) + 1 + zdc c l (p + 4) 1) 1))) (4 * k + 3) (nI 0)), ?_⟩
      rw [f_X12_readCommand]
      refine sfb_t (by decide) ?_
      refine sfc1_i hbeh ?_
      refine sfn_r (y := nI (4 * k)) (by rw [il_4, nI_mul]) ?_
      refine sfn_r (nI_1 k) ?_
      refine sfg_i (of_eq_true (nI_inT (by omega) (by omega))) ?_
      rw [nI_clamp (show 4 * k < 2 ^ 31 by omega)]
      refine sfn_r rfl ?_
      refine sfb_t (by decide) ?_
      refine sfc2_i hsk ?_
      refine sfc3_i r0 ?_
      rw [show nI (4 * k) + (1 : Int32) = nI (4 * k + 1) from nI_add _ _]
      refine sfg_i (of_eq_true (nI_inT (by omega) (by omega))) ?_
      rw [nI_clamp (show 4 * k + 1 < 2 ^ 31 by omega)]
      refine sfn_r rfl ?_
      refine sfc3_i r1 ?_
      rw [show nI (4 * k) + (2 : Int32) = nI (4 * k + 2) from nI_add _ _]
      refine sfg_i (of_eq_true (nI_inT (by omega) (by omega))) ?_
      rw [nI_clamp (show 4 * k + 2 < 2 ^ 31 by omega)]
      refine sfn_r rfl ?_
      refine sfc3_i r2 ?_
      rw [show nI (4 * k) + (3 : Int32) = nI (4 * k + 3) from nI_add _ _]
      refine sfg_i (of_eq_true (nI_inT (by omega) (by omega))) ?_
      rw [nI_clamp (show 4 * k + 3 < 2 ^ 31 by omega)]
      refine sfn_r rfl ?_
      rfl
  have r2 := (jn_rn h (p := (((p + 4) + 1 + zdc c l (p + 4) 1) + 1 + zdc c l ((p + 4) + 1 + zdc c l (p + 4) 1) 1)) (d := 4) (by omega) (by omega) (by omega)).1 s2 n2
  refine ⟨((((p + 4) + 1 + zdc c l (p + 4) 1) + 1 + zdc c l ((p + 4) + 1 + zdc c l (p + 4) 1) 1) + 1 + zdc c l (((p + 4) + 1 + zdc c l (p + 4) 1) + 1 + zdc c l ((p + 4) + 1 + zdc c l (p + 4) 1) 1) 4), by omega, by omega, Or.inl ⟨2, (fun x => if x = 0 then (zdv c l (p + 4) 1) else if x = 1 then (zdv c l ((p + 4) + 1 + zdc c l (p + 4) 1) 1) else (zdv c l (((p + 4) + 1 + zdc c l (p + 4) 1) + 1 + zdc c l ((p + 4) + 1 + zdc c l (p + 4) 1) 1) 4)), by omega, by omega, fun x => ?_, fun tn => ?_, ?_⟩⟩
  · dsimp only
    repeat' split
    all_goals omega
  · refine ⟨(upd (upd (upd tn 0 (nI (zdv c l (p + 4) 1))) 1 (nI (zdv c l ((p + 4) + 1 + zdc c l (p + 4) 1) 1))) 2 (nI (zdv c l (((p + 4) + 1 + zdc c l (p + 4) 1) + 1 + zdc c l ((p + 4) + 1 + zdc c l (p + 4) 1) 1) 4))), ?_, ?_⟩
    · have htn : f_X4_takeNumbers ts (nI l) (nI (p + 4)) tn 2 = some (1, nI ((((p + 4) + 1 + zdc c l (p + 4) 1) + 1 + zdc c l ((p + 4) + 1 + zdc c l (p + 4) 1) 1) + 1 + zdc c l (((p + 4) + 1 + zdc c l (p + 4) 1) + 1 + zdc c l ((p + 4) + 1 + zdc c l (p + 4) 1) 1) 4), (upd (upd (upd tn 0 (nI (zdv c l (p + 4) 1))) 1 (nI (zdv c l ((p + 4) + 1 + zdc c l (p + 4) 1) 1))) 2 (nI (zdv c l (((p + 4) + 1 + zdc c l (p + 4) 1) + 1 + zdc c l ((p + 4) + 1 + zdc c l (p + 4) 1) 1) 4)))) := Eq.trans ((ts_step h (i := 2) (j := 0) (p := (p + 4)) (m := 1999) (by omega) (by decide) (by omega) tn).1 s0 n0) (Eq.trans ((ts_step h (i := 2) (j := 1) (p := ((p + 4) + 1 + zdc c l (p + 4) 1)) (m := 1998) (by omega) (by decide) (by omega) (upd tn 0 (nI (zdv c l (p + 4) 1)))).1 s1 n1) (Eq.trans ((ts_step h (i := 2) (j := 2) (p := (((p + 4) + 1 + zdc c l (p + 4) 1) + 1 + zdc c l ((p + 4) + 1 + zdc c l (p + 4) 1) 1)) (m := 1997) (by omega) (by decide) (by omega) (upd (upd tn 0 (nI (zdv c l (p + 4) 1))) 1 (nI (zdv c l ((p + 4) + 1 + zdc c l (p + 4) 1) 1)))).1 s2 n2) (ts_end (i := 2) (m := 1996) (by omega) (upd (upd (upd tn 0 (nI (zdv c l (p + 4) 1))) 1 (nI (zdv c l ((p + 4) + 1 + zdc c l (p + 4) 1) 1))) 2 (nI (zdv c l (((p + 4) + 1 + zdc c l (p + 4) 1) + 1 + zdc c l ((p + 4) + 1 + zdc c l (p + 4) 1) 1) 4))))))
      rw [zCore]
      refine sfc2_i hkw (sfo_s (sfg_i (by omega) ?_))
      refine sfb_f (by omega) ?_
      exact sfc3_i htn (sfb_f (by decide) rfl)
    · intro j hj
      have hj2 : j < 3 := hj
      rcases (by omega : j = 0 ∨ j = 1 ∨ j = 2) with e0 | e0 | e0 <;> subst e0 <;> rfl
  · refine ⟨(upd (upd (upd (upd mc (4 * k) (nI 98)) (4 * k + 1) (nI (zdv c l (p + 4) 1))) (4 * k + 2) (nI (zdv c l ((p + 4) + 1 + zdc c l (p + 4) 1) 1))) (4 * k + 3) (nI (zdv c l (((p + 4) + 1 + zdc c l (p + 4) 1) + 1 + zdc c l ((p + 4) + 1 + zdc c l (p + 4) 1) 1) 4))), ?_, fun x hx => ?_, ?_, fun j hj => ?_⟩
    · rw [f_X12_readCommand]
      refine sfb_t (by decide) ?_
      refine sfc1_i hbeh ?_
      refine sfn_r (y := nI (4 * k)) (by rw [il_4, nI_mul]) ?_
      refine sfn_r (nI_1 k) ?_
      refine sfg_i (of_eq_true (nI_inT (by omega) (by omega))) ?_
      rw [nI_clamp (show 4 * k < 2 ^ 31 by omega)]
      refine sfn_r rfl ?_
      refine sfb_t (by decide) ?_
      refine sfc2_i hsk ?_
      refine sfc3_i r0 ?_
      rw [show nI (4 * k) + (1 : Int32) = nI (4 * k + 1) from nI_add _ _]
      refine sfg_i (of_eq_true (nI_inT (by omega) (by omega))) ?_
      rw [nI_clamp (show 4 * k + 1 < 2 ^ 31 by omega)]
      refine sfn_r rfl ?_
      refine sfc3_i r1 ?_
      rw [show nI (4 * k) + (2 : Int32) = nI (4 * k + 2) from nI_add _ _]
      refine sfg_i (of_eq_true (nI_inT (by omega) (by omega))) ?_
      rw [nI_clamp (show 4 * k + 2 < 2 ^ 31 by omega)]
      refine sfn_r rfl ?_
      refine sfc3_i r2 ?_
      rw [show nI (4 * k) + (3 : Int32) = nI (4 * k + 3) from nI_add _ _]
      refine sfg_i (of_eq_true (nI_inT (by omega) (by omega))) ?_
      rw [nI_clamp (show 4 * k + 3 < 2 ^ 31 by omega)]
      refine sfn_r rfl ?_
      rfl
    · simp (disch := omega) only [upd_neP]
    · simp (disch := omega) only [upd_neP, upd_eqP]
      rfl
    · have hj2 : j < 3 := hj
      rcases (by omega : j = 0 ∨ j = 1 ∨ j = 2) with e0 | e0 | e0 <;> subst e0 <;> (simp (disch := omega) only [upd_neP, upd_eqP]; rfl)
theorem rd_cancel (h : TT c l ts mI) {p k : Nat} (hp : p < l) (hc : c p = 99) (hk : k < 60) (mc : Nat → Int32) : ∃ p', RD ts mI l p k mc p' := by
  have hl := h.1
  have hbeh := fx_beh h (p := p) (by omega)
  rw [if_pos hp, hc] at hbeh
  have hsk := fx_skip h (p := p) (i := 3) (by omega) (by omega)
  have hkw := fx_kw1 h (i := 3) (by omega) hp hc
  have hkn : zkn 3 = 6 := rfl
  obtain ⟨m1, m2, m3⟩ := zml_b (c := c) (l := l) (p := p) (i := 3) (by omega) (by omega)
  rw [hkn] at hsk hkw m2
  by_cases z : zml c l p 3 < 6
  · rw [if_pos z] at hsk hkw
    refine ⟨p + zml c l p 3, by omega, m3, Or.inr ⟨fun tn => ⟨tn, ?_⟩, ?_⟩⟩
    · rw [zCore]
      exact sfc2_i hkw (sfo_n rfl)
    · refine ⟨(upd (upd mc (4 * k) (nI 99)) (4 * k + 1) (nI 0)), ?_⟩
      rw [f_X12_readCommand]
      refine sfb_t (by decide) ?_
      refine sfc1_i hbeh ?_
      refine sfn_r (y := nI (4 * k)) (by rw [il_4, nI_mul]) ?_
      refine sfn_r (nI_1 k) ?_
      refine sfg_i (of_eq_true (nI_inT (by omega) (by omega))) ?_
      rw [nI_clamp (show 4 * k < 2 ^ 31 by omega)]
      refine sfn_r rfl ?_
      refine sfb_f (by decide) ?_
      refine sfb_t (by decide) ?_
      refine sfc2_i hsk ?_
      refine sfc3_i (jn_w (mI := mI) (l := l) (d := 2) (by omega) (by omega)) ?_
      rw [show nI (4 * k) + (1 : Int32) = nI (4 * k + 1) from nI_add _ _]
      refine sfg_i (of_eq_true (nI_inT (by omega) (by omega))) ?_
      rw [nI_clamp (show 4 * k + 1 < 2 ^ 31 by omega)]
      refine sfn_r rfl ?_
      rfl
  have ez : zml c l p 3 = 6 := by omega
  rw [if_neg z, ez] at hsk hkw
  have hp0 : p + 6 ≤ l := by omega
  by_cases s0 : zsp c l (p + 6)
  case neg =>
    have r0 := (jn_rn h (p := (p + 6)) (d := 2) (by omega) (by omega) (by omega)).2.2 s0
    refine ⟨(p + 6), by omega, by omega, Or.inr ⟨fun tn => ?_, ?_⟩⟩
    · have htn : f_X4_takeNumbers ts (nI l) (nI (p + 6)) tn 3 = some (nI 0, nI (p + 6), tn) := (ts_step h (i := 3) (j := 0) (p := (p + 6)) (m := 1999) (by omega) (by decide) (by omega) tn).2.2 s0
      refine ⟨tn, ?_⟩
      rw [zCore]
      exact sfc2_i hkw (sfo_s (sfg_i (by omega) (sfb_f (by omega) (sfc3_i htn (sfb_t (by decide) rfl)))))
    · refine ⟨(upd (upd mc (4 * k) (nI 99)) (4 * k + 1) (nI 0)), ?_⟩
      rw [f_X12_readCommand]
      refine sfb_t (by decide) ?_
      refine sfc1_i hbeh ?_
      refine sfn_r (y := nI (4 * k)) (by rw [il_4, nI_mul]) ?_
      refine sfn_r (nI_1 k) ?_
      refine sfg_i (of_eq_true (nI_inT (by omega) (by omega))) ?_
      rw [nI_clamp (show 4 * k < 2 ^ 31 by omega)]
      refine sfn_r rfl ?_
      refine sfb_f (by decide) ?_
      refine sfb_t (by decide) ?_
      refine sfc2_i hsk ?_
      refine sfc3_i r0 ?_
      rw [show nI (4 * k) + (1 : Int32) = nI (4 * k + 1) from nI_add _ _]
      refine sfg_i (of_eq_true (nI_inT (by omega) (by omega))) ?_
      rw [nI_clamp (show 4 * k + 1 < 2 ^ 31 by omega)]
      refine sfn_r rfl ?_
      rfl
  have s0a := s0.1
  obtain ⟨b0, q0⟩ := zdv_lt (c := c) (l := l) (p := (p + 6)) (d := 2) (by omega) (by omega)
  rcases Nat.eq_zero_or_pos (zdc c l (p + 6) 2) with n0 | n0
  · have r0 := (jn_rn h (p := (p + 6)) (d := 2) (by omega) (by omega) (by omega)).2.1 s0 n0
    refine ⟨((p + 6) + 1), by omega, by omega, Or.inr ⟨fun tn => ?_, ?_⟩⟩
    · obtain ⟨tn', e9⟩ := (ts_step h (i := 3) (j := 0) (p := (p + 6)) (m := 1999) (k := fun y_17 z_18 => some (1, y_17, z_18)) (by omega) (by decide) (by omega) tn).2.1 s0 n0
      have htn : f_X4_takeNumbers ts (nI l) (nI (p + 6)) tn 3 = some (nI 0, nI ((p + 6) + 1), tn') := e9
      refine ⟨tn', ?_⟩
      rw [zCore]
      exact sfc2_i hkw (sfo_s (sfg_i (by omega) (sfb_f (by omega) (sfc3_i htn (sfb_t (by decide) rfl)))))
    · refine ⟨(upd (upd mc (4 * k) (nI 99)) (4 * k + 1) (nI 0)), ?_⟩
      rw [f_X12_readCommand]
      refine sfb_t (by decide) ?_
      refine sfc1_i hbeh ?_
      refine sfn_r (y := nI (4 * k)) (by rw [il_4, nI_mul]) ?_
      refine sfn_r (nI_1 k) ?_
      refine sfg_i (of_eq_true (nI_inT (by omega) (by omega))) ?_
      rw [nI_clamp (show 4 * k < 2 ^ 31 by omega)]
      refine sfn_r rfl ?_
      refine sfb_f (by decide) ?_
      refine sfb_t (by decide) ?_
      refine sfc2_i hsk ?_
      refine sfc3_i r0 ?_
      rw [show nI (4 * k) + (1 : Int32) = nI (4 * k + 1) from nI_add _ _]
      refine sfg_i (of_eq_true (nI_inT (by omega) (by omega))) ?_
      rw [nI_clamp (show 4 * k + 1 < 2 ^ 31 by omega)]
      refine sfn_r rfl ?_
      rfl
  have r0 := (jn_rn h (p := (p + 6)) (d := 2) (by omega) (by omega) (by omega)).1 s0 n0
  refine ⟨((p + 6) + 1 + zdc c l (p + 6) 2), by omega, by omega, Or.inl ⟨3, (fun x => (zdv c l (p + 6) 2)), by omega, by omega, fun x => ?_, fun tn => ?_, ?_⟩⟩
  · dsimp only
    repeat' split
    all_goals omega
  · refine ⟨(upd tn 0 (nI (zdv c l (p + 6) 2))), ?_, ?_⟩
    · have htn : f_X4_takeNumbers ts (nI l) (nI (p + 6)) tn 3 = some (1, nI ((p + 6) + 1 + zdc c l (p + 6) 2), (upd tn 0 (nI (zdv c l (p + 6) 2)))) := Eq.trans ((ts_step h (i := 3) (j := 0) (p := (p + 6)) (m := 1999) (by omega) (by decide) (by omega) tn).1 s0 n0) (ts_end (i := 3) (m := 1998) (by omega) (upd tn 0 (nI (zdv c l (p + 6) 2))))
      rw [zCore]
      refine sfc2_i hkw (sfo_s (sfg_i (by omega) ?_))
      refine sfb_f (by omega) ?_
      exact sfc3_i htn (sfb_f (by decide) rfl)
    · intro j hj
      have hj2 : j < 1 := hj
      have e0 : j = 0 := by omega
      subst e0
      rfl
  · refine ⟨(upd (upd mc (4 * k) (nI 99)) (4 * k + 1) (nI (zdv c l (p + 6) 2))), ?_, fun x hx => ?_, ?_, fun j hj => ?_⟩
    · rw [f_X12_readCommand]
      refine sfb_t (by decide) ?_
      refine sfc1_i hbeh ?_
      refine sfn_r (y := nI (4 * k)) (by rw [il_4, nI_mul]) ?_
      refine sfn_r (nI_1 k) ?_
      refine sfg_i (of_eq_true (nI_inT (by omega) (by omega))) ?_
      rw [nI_clamp (show 4 * k < 2 ^ 31 by omega)]
      refine sfn_r rfl ?_
      refine sfb_f (by decide) ?_
      refine sfb_t (by decide) ?_
      refine sfc2_i hsk ?_
      refine sfc3_i r0 ?_
      rw [show nI (4 * k) + (1 : Int32) = nI (4 * k + 1) from nI_add _ _]
      refine sfg_i (of_eq_true (nI_inT (by omega) (by omega))) ?_
      rw [nI_clamp (show 4 * k + 1 < 2 ^ 31 by omega)]
      refine sfn_r rfl ?_
      rfl
    · simp (disch := omega) only [upd_neP]
    · simp (disch := omega) only [upd_neP, upd_eqP]
      rfl
    · have hj2 : j < 1 := hj
      have e0 : j = 0 := by omega
      subst e0
      simp (disch := omega) only [upd_neP, upd_eqP]
theorem rd_queue (h : TT c l ts mI) {p k : Nat} (hp : p < l) (hc : c p = 113) (hk : k < 60) (mc : Nat → Int32) : ∃ p', RD ts mI l p k mc p' := by
  have hl := h.1
  have hbeh := fx_beh h (p := p) (by omega)
  rw [if_pos hp, hc] at hbeh
  have hsk := fx_skip h (p := p) (i := 4) (by omega) (by omega)
  have hkw := fx_kw1 h (i := 4) (by omega) hp hc
  have hkn : zkn 4 = 5 := rfl
  obtain ⟨m1, m2, m3⟩ := zml_b (c := c) (l := l) (p := p) (i := 4) (by omega) (by omega)
  rw [hkn] at hsk hkw m2
  by_cases z : zml c l p 4 < 5
  · rw [if_pos z] at hsk hkw
    refine ⟨p + zml c l p 4, by omega, m3, Or.inr ⟨fun tn => ⟨tn, ?_⟩, ?_⟩⟩
    · rw [zCore]
      exact sfc2_i hkw (sfo_n rfl)
    · refine ⟨(upd (upd (upd mc (4 * k) (nI 113)) (4 * k + 1) (nI 0)) (4 * k + 2) (nI 0)), ?_⟩
      rw [f_X12_readCommand]
      refine sfb_t (by decide) ?_
      refine sfc1_i hbeh ?_
      refine sfn_r (y := nI (4 * k)) (by rw [il_4, nI_mul]) ?_
      refine sfn_r (nI_1 k) ?_
      refine sfg_i (of_eq_true (nI_inT (by omega) (by omega))) ?_
      rw [nI_clamp (show 4 * k < 2 ^ 31 by omega)]
      refine sfn_r rfl ?_
      refine sfb_f (by decide) ?_
      refine sfb_f (by decide) ?_
      refine sfb_f (by decide) ?_
      refine sfb_t (by decide) ?_
      refine sfc2_i hsk ?_
      refine sfc3_i (jn_w (mI := mI) (l := l) (d := 1) (by omega) (by omega)) ?_
      rw [show nI (4 * k) + (1 : Int32) = nI (4 * k + 1) from nI_add _ _]
      refine sfg_i (of_eq_true (nI_inT (by omega) (by omega))) ?_
      rw [nI_clamp (show 4 * k + 1 < 2 ^ 31 by omega)]
      refine sfn_r rfl ?_
      refine sfc3_i (jn_w (mI := mI) (l := l) (d := 1) (by omega) (by omega)) ?_
      rw [show nI (4 * k) + (2 : Int32) = nI (4 * k + 2) from nI_add _ _]
      refine sfg_i (of_eq_true (nI_inT (by omega) (by omega))) ?_
      rw [nI_clamp (show 4 * k + 2 < 2 ^ 31 by omega)]
      refine sfn_r rfl ?_
      rfl
  have ez : zml c l p 4 = 5 := by omega
  rw [if_neg z, ez] at hsk hkw
  have hp0 : p + 5 ≤ l := by omega
  by_cases s0 : zsp c l (p + 5)
  case neg =>
    have r0 := (jn_rn h (p := (p + 5)) (d := 1) (by omega) (by omega) (by omega)).2.2 s0
    refine ⟨(p + 5), by omega, by omega, Or.inr ⟨fun tn => ?_, ?_⟩⟩
    · have htn : f_X4_takeNumbers ts (nI l) (nI (p + 5)) tn 4 = some (nI 0, nI (p + 5), tn) := (ts_step h (i := 4) (j := 0) (p := (p + 5)) (m := 1999) (by omega) (by decide) (by omega) tn).2.2 s0
      refine ⟨tn, ?_⟩
      rw [zCore]
      exact sfc2_i hkw (sfo_s (sfg_i (by omega) (sfb_f (by omega) (sfc3_i htn (sfb_t (by decide) rfl)))))
    · refine ⟨(upd (upd (upd mc (4 * k) (nI 113)) (4 * k + 1) (nI 0)) (4 * k + 2) (nI 0)), ?_⟩
      rw [f_X12_readCommand]
      refine sfb_t (by decide) ?_
      refine sfc1_i hbeh ?_
      refine sfn_r (y := nI (4 * k)) (by rw [il_4, nI_mul]) ?_
      refine sfn_r (nI_1 k) ?_
      refine sfg_i (of_eq_true (nI_inT (by omega) (by omega))) ?_
      rw [nI_clamp (show 4 * k < 2 ^ 31 by omega)]
      refine sfn_r rfl ?_
      refine sfb_f (by decide) ?_
      refine sfb_f (by decide) ?_
      refine sfb_f (by decide) ?_
      refine sfb_t (by decide) ?_
      refine sfc2_i hsk ?_
      refine sfc3_i r0 ?_
      rw [show nI (4 * k) + (1 : Int32) = nI (4 * k + 1) from nI_add _ _]
      refine sfg_i (of_eq_true (nI_inT (by omega) (by omega))) ?_
      rw [nI_clamp (show 4 * k + 1 < 2 ^ 31 by omega)]
      refine sfn_r rfl ?_
      refine sfc3_i (jn_w (mI := mI) (l := l) (d := 1) (by omega) (by omega)) ?_
      rw [show nI (4 * k) + (2 : Int32) = nI (4 * k + 2) from nI_add _ _]
      refine sfg_i (of_eq_true (nI_inT (by omega) (by omega))) ?_
      rw [nI_clamp (show 4 * k + 2 < 2 ^ 31 by omega)]
      refine sfn_r rfl ?_
      rfl
  have s0a := s0.1
  obtain ⟨b0, q0⟩ := zdv_lt (c := c) (l := l) (p := (p + 5)) (d := 1) (by omega) (by omega)
  rcases Nat.eq_zero_or_pos (zdc c l (p + 5) 1) with n0 | n0
  · have r0 := (jn_rn h (p := (p + 5)) (d := 1) (by omega) (by omega) (by omega)).2.1 s0 n0
    refine ⟨((p + 5) + 1), by omega, by omega, Or.inr ⟨fun tn => ?_, ?_⟩⟩
    · obtain ⟨tn', e9⟩ := (ts_step h (i := 4) (j := 0) (p := (p + 5)) (m := 1999) (k := fun y_17 z_18 => some (1, y_17, z_18)) (by omega) (by decide) (by omega) tn).2.1 s0 n0
      have htn : f_X4_takeNumbers ts (nI l) (nI (p + 5)) tn 4 = some (nI 0, nI ((p + 5) + 1), tn') := e9
      refine ⟨tn', ?_⟩
      rw [zCore]
      exact sfc2_i hkw (sfo_s (sfg_i (by omega) (sfb_f (by omega) (sfc3_i htn (sfb_t (by decide) rfl)))))
    · refine ⟨(upd (upd (upd mc (4 * k) (nI 113)) (4 * k + 1) (nI 0)) (4 * k + 2) (nI 0)), ?_⟩
      rw [f_X12_readCommand]
      refine sfb_t (by decide) ?_
      refine sfc1_i hbeh ?_
      refine sfn_r (y := nI (4 * k)) (by rw [il_4, nI_mul]) ?_
      refine sfn_r (nI_1 k) ?_
      refine sfg_i (of_eq_true (nI_inT (by omega) (by omega))) ?_
      rw [nI_clamp (show 4 * k < 2 ^ 31 by omega)]
      refine sfn_r rfl ?_
      refine sfb_f (by decide) ?_
      refine sfb_f (by decide) ?_
      refine sfb_f (by decide) ?_
      refine sfb_t (by decide) ?_
      refine sfc2_i hsk ?_
      refine sfc3_i r0 ?_
      rw [show nI (4 * k) + (1 : Int32) = nI (4 * k + 1) from nI_add _ _]
      refine sfg_i (of_eq_true (nI_inT (by omega) (by omega))) ?_
      rw [nI_clamp (show 4 * k + 1 < 2 ^ 31 by omega)]
      refine sfn_r rfl ?_
      refine sfc3_i (jn_w (mI := mI) (l := l) (d := 1) (by omega) (by omega)) ?_
      rw [show nI (4 * k) + (2 : Int32) = nI (4 * k + 2) from nI_add _ _]
      refine sfg_i (of_eq_true (nI_inT (by omega) (by omega))) ?_
      rw [nI_clamp (show 4 * k + 2 < 2 ^ 31 by omega)]
      refine sfn_r rfl ?_
      rfl
  have r0 := (jn_rn h (p := (p + 5)) (d := 1) (by omega) (by omega) (by omega)).1 s0 n0
  by_cases s1 : zsp c l ((p + 5) + 1 + zdc c l (p + 5) 1)
  case neg =>
    have r1 := (jn_rn h (p := ((p + 5) + 1 + zdc c l (p + 5) 1)) (d := 1) (by omega) (by omega) (by omega)).2.2 s1
    refine ⟨((p + 5) + 1 + zdc c l (p + 5) 1), by omega, by omega, Or.inr ⟨fun tn => ?_, ?_⟩⟩
    · have htn : f_X4_takeNumbers ts (nI l) (nI (p + 5)) tn 4 = some (nI 0, nI ((p + 5) + 1 + zdc c l (p + 5) 1), (upd tn 0 (nI (zdv c l (p + 5) 1)))) := Eq.trans ((ts_step h (i := 4) (j := 0) (p := (p + 5)) (m := 1999) (by omega) (by decide) (by omega) tn).1 s0 n0) ((ts_step h (i := 4) (j := 1) (p := ((p + 5) + 1 + zdc c l (p + 5) 1)) (m := 1998) (by omega) (by decide) (by omega) (upd tn 0 (nI (zdv c l (p + 5) 1)))).2.2 s1)
      refine ⟨(upd tn 0 (nI (zdv c l (p + 5) 1))), ?_⟩
      rw [zCore]
      exact sfc2_i hkw (sfo_s (sfg_i (by omega) (sfb_f (by omega) (sfc3_i htn (sfb_t (by decide) rfl)))))
    · refine ⟨(upd (upd (upd mc (4 * k) (nI 113)) (4 * k + 1) (nI (zdv c l (p + 5) 1))) (4 * k + 2) (nI 0)), ?_⟩
      rw [f_X12_readCommand]
      refine sfb_t (by decide) ?_
      refine sfc1_i hbeh ?_
      refine sfn_r (y := nI (4 * k)) (by rw [il_4, nI_mul]) ?_
      refine sfn_r (nI_1 k) ?_
      refine sfg_i (of_eq_true (nI_inT (by omega) (by omega))) ?_
      rw [nI_clamp (show 4 * k < 2 ^ 31 by omega)]
      refine sfn_r rfl ?_
      refine sfb_f (by decide) ?_
      refine sfb_f (by decide) ?_
      refine sfb_f (by decide) ?_
      refine sfb_t (by decide) ?_
      refine sfc2_i hsk ?_
      refine sfc3_i r0 ?_
      rw [show nI (4 * k) + (1 : Int32) = nI (4 * k + 1) from nI_add _ _]
      refine sfg_i (of_eq_true (nI_inT (by omega) (by omega))) ?_
      rw [nI_clamp (show 4 * k + 1 < 2 ^ 31 by omega)]
      refine sfn_r rfl ?_
      refine sfc3_i r1 ?_
      rw [show nI (4 * k) + (2 : Int32) = nI (4 * k + 2) from nI_add _ _]
      refine sfg_i (of_eq_true (nI_inT (by omega) (by omega))) ?_
      rw [nI_clamp (show 4 * k + 2 < 2 ^ 31 by omega)]
      refine sfn_r rfl ?_
      rfl
  have s1a := s1.1
  obtain ⟨b1, q1⟩ := zdv_lt (c := c) (l := l) (p := ((p + 5) + 1 + zdc c l (p + 5) 1)) (d := 1) (by omega) (by omega)
  rcases Nat.eq_zero_or_pos (zdc c l ((p + 5) + 1 + zdc c l (p + 5) 1) 1) with n1 | n1
  · have r1 := (jn_rn h (p := ((p + 5) + 1 + zdc c l (p + 5) 1)) (d := 1) (by omega) (by omega) (by omega)).2.1 s1 n1
    refine ⟨(((p + 5) + 1 + zdc c l (p + 5) 1) + 1), by omega, by omega, Or.inr ⟨fun tn => ?_, ?_⟩⟩
    · obtain ⟨tn', e9⟩ := (ts_step h (i := 4) (j := 1) (p := ((p + 5) + 1 + zdc c l (p + 5) 1)) (m := 1998) (k := fun y_17 z_18 => some (1, y_17, z_18)) (by omega) (by decide) (by omega) (upd tn 0 (nI (zdv c l (p + 5) 1)))).2.1 s1 n1
      have htn : f_X4_takeNumbers ts (nI l) (nI (p + 5)) tn 4 = some (nI 0, nI (((p + 5) + 1 + zdc c l (p + 5) 1) + 1), tn') := Eq.trans ((ts_step h (i := 4) (j := 0) (p := (p + 5)) (m := 1999) (by omega) (by decide) (by omega) tn).1 s0 n0) (e9)
      refine ⟨tn', ?_⟩
      rw [zCore]
      exact sfc2_i hkw (sfo_s (sfg_i (by omega) (sfb_f (by omega) (sfc3_i htn (sfb_t (by decide) rfl)))))
    · refine ⟨(upd (upd (upd mc (4 * k) (nI 113)) (4 * k + 1) (nI (zdv c l (p + 5) 1))) (4 * k + 2) (nI 0)), ?_⟩
      rw [f_X12_readCommand]
      refine sfb_t (by decide) ?_
      refine sfc1_i hbeh ?_
      refine sfn_r (y := nI (4 * k)) (by rw [il_4, nI_mul]) ?_
      refine sfn_r (nI_1 k) ?_
      refine sfg_i (of_eq_true (nI_inT (by omega) (by omega))) ?_
      rw [nI_clamp (show 4 * k < 2 ^ 31 by omega)]
      refine sfn_r rfl ?_
      refine sfb_f (by decide) ?_
      refine sfb_f (by decide) ?_
      refine sfb_f (by decide) ?_
      refine sfb_t (by decide) ?_
      refine sfc2_i hsk ?_
      refine sfc3_i r0 ?_
      rw [show nI (4 * k) + (1 : Int32) = nI (4 * k + 1) from nI_add _ _]
      refine sfg_i (of_eq_true (nI_inT (by omega) (by omega))) ?_
      rw [nI_clamp (show 4 * k + 1 < 2 ^ 31 by omega)]
      refine sfn_r rfl ?_
      refine sfc3_i r1 ?_
      rw [show nI (4 * k) + (2 : Int32) = nI (4 * k + 2) from nI_add _ _]
      refine sfg_i (of_eq_true (nI_inT (by omega) (by omega))) ?_
      rw [nI_clamp (show 4 * k + 2 < 2 ^ 31 by omega)]
      refine sfn_r rfl ?_
      rfl
  have r1 := (jn_rn h (p := ((p + 5) + 1 + zdc c l (p + 5) 1)) (d := 1) (by omega) (by omega) (by omega)).1 s1 n1
  refine ⟨(((p + 5) + 1 + zdc c l (p + 5) 1) + 1 + zdc c l ((p + 5) + 1 + zdc c l (p + 5) 1) 1), by omega, by omega, Or.inl ⟨4, (fun x => if x = 0 then (zdv c l (p + 5) 1) else (zdv c l ((p + 5) + 1 + zdc c l (p + 5) 1) 1)), by omega, by omega, fun x => ?_, fun tn => ?_, ?_⟩⟩
  · dsimp only
    repeat' split
    all_goals omega
  · refine ⟨(upd (upd tn 0 (nI (zdv c l (p + 5) 1))) 1 (nI (zdv c l ((p + 5) + 1 + zdc c l (p + 5) 1) 1))), ?_, ?_⟩
    · have htn : f_X4_takeNumbers ts (nI l) (nI (p + 5)) tn 4 = some (1, nI (((p + 5) + 1 + zdc c l (p + 5) 1) + 1 + zdc c l ((p + 5) + 1 + zdc c l (p + 5) 1) 1), (upd (upd tn 0 (nI (zdv c l (p + 5) 1))) 1 (nI (zdv c l ((p + 5) + 1 + zdc c l (p + 5) 1) 1)))) := Eq.trans ((ts_step h (i := 4) (j := 0) (p := (p + 5)) (m := 1999) (by omega) (by decide) (by omega) tn).1 s0 n0) (Eq.trans ((ts_step h (i := 4) (j := 1) (p := ((p + 5) + 1 + zdc c l (p + 5) 1)) (m := 1998) (by omega) (by decide) (by omega) (upd tn 0 (nI (zdv c l (p + 5) 1)))).1 s1 n1) (ts_end (i := 4) (m := 1997) (by omega) (upd (upd tn 0 (nI (zdv c l (p + 5) 1))) 1 (nI (zdv c l ((p + 5) + 1 + zdc c l (p + 5) 1) 1)))))
      rw [zCore]
      refine sfc2_i hkw (sfo_s (sfg_i (by omega) ?_))
      refine sfb_f (by omega) ?_
      exact sfc3_i htn (sfb_f (by decide) rfl)
    · intro j hj
      have hj2 : j < 2 := hj
      rcases (by omega : j = 0 ∨ j = 1) with e0 | e0 <;> subst e0 <;> rfl
  · refine ⟨(upd (upd (upd mc (4 * k) (nI 113)) (4 * k + 1) (nI (zdv c l (p + 5) 1))) (4 * k + 2) (nI (zdv c l ((p + 5) + 1 + zdc c l (p + 5) 1) 1))), ?_, fun x hx => ?_, ?_, fun j hj => ?_⟩
    · rw [f_X12_readCommand]
      refine sfb_t (by decide) ?_
      refine sfc1_i hbeh ?_
      refine sfn_r (y := nI (4 * k)) (by rw [il_4, nI_mul]) ?_
      refine sfn_r (nI_1 k) ?_
      refine sfg_i (of_eq_true (nI_inT (by omega) (by omega))) ?_
      rw [nI_clamp (show 4 * k < 2 ^ 31 by omega)]
      refine sfn_r rfl ?_
      refine sfb_f (by decide) ?_
      refine sfb_f (by decide) ?_
      refine sfb_f (by decide) ?_
      refine sfb_t (by decide) ?_
      refine sfc2_i hsk ?_
      refine sfc3_i r0 ?_
      rw [show nI (4 * k) + (1 : Int32) = nI (4 * k + 1) from nI_add _ _]
      refine sfg_i (of_eq_true (nI_inT (by omega) (by omega))) ?_
      rw [nI_clamp (show 4 * k + 1 < 2 ^ 31 by omega)]
      refine sfn_r rfl ?_
      refine sfc3_i r1 ?_
      rw [show nI (4 * k) + (2 : Int32) = nI (4 * k + 2) from nI_add _ _]
      refine sfg_i (of_eq_true (nI_inT (by omega) (by omega))) ?_
      rw [nI_clamp (show 4 * k + 2 < 2 ^ 31 by omega)]
      refine sfn_r rfl ?_
      rfl
    · simp (disch := omega) only [upd_neP]
    · simp (disch := omega) only [upd_neP, upd_eqP]
      rfl
    · have hj2 : j < 2 := hj
      rcases (by omega : j = 0 ∨ j = 1) with e0 | e0 <;> subst e0 <;> (simp (disch := omega) only [upd_neP, upd_eqP]; rfl)
theorem rd_leave (h : TT c l ts mI) {p k : Nat} (hp : p < l) (hc : c p = 108) (hk : k < 60) (mc : Nat → Int32) : ∃ p', RD ts mI l p k mc p' := by
  have hl := h.1
  have hbeh := fx_beh h (p := p) (by omega)
  rw [if_pos hp, hc] at hbeh
  have hsk := fx_skip h (p := p) (i := 5) (by omega) (by omega)
  have hkw := fx_kw1 h (i := 5) (by omega) hp hc
  have hkn : zkn 5 = 5 := rfl
  obtain ⟨m1, m2, m3⟩ := zml_b (c := c) (l := l) (p := p) (i := 5) (by omega) (by omega)
  rw [hkn] at hsk hkw m2
  by_cases z : zml c l p 5 < 5
  · rw [if_pos z] at hsk hkw
    refine ⟨p + zml c l p 5, by omega, m3, Or.inr ⟨fun tn => ⟨tn, ?_⟩, ?_⟩⟩
    · rw [zCore]
      exact sfc2_i hkw (sfo_n rfl)
    · refine ⟨(upd (upd mc (4 * k) (nI 108)) (4 * k + 1) (nI 0)), ?_⟩
      rw [f_X12_readCommand]
      refine sfb_t (by decide) ?_
      refine sfc1_i hbeh ?_
      refine sfn_r (y := nI (4 * k)) (by rw [il_4, nI_mul]) ?_
      refine sfn_r (nI_1 k) ?_
      refine sfg_i (of_eq_true (nI_inT (by omega) (by omega))) ?_
      rw [nI_clamp (show 4 * k < 2 ^ 31 by omega)]
      refine sfn_r rfl ?_
      refine sfb_f (by decide) ?_
      refine sfb_f (by decide) ?_
      refine sfb_t (by decide) ?_
      refine sfc2_i hsk ?_
      refine sfc3_i (jn_w (mI := mI) (l := l) (d := 1) (by omega) (by omega)) ?_
      rw [show nI (4 * k) + (1 : Int32) = nI (4 * k + 1) from nI_add _ _]
      refine sfg_i (of_eq_true (nI_inT (by omega) (by omega))) ?_
      rw [nI_clamp (show 4 * k + 1 < 2 ^ 31 by omega)]
      refine sfn_r rfl ?_
      rfl
  have ez : zml c l p 5 = 5 := by omega
  rw [if_neg z, ez] at hsk hkw
  have hp0 : p + 5 ≤ l := by omega
  by_cases s0 : zsp c l (p + 5)
  case neg =>
    have r0 := (jn_rn h (p := (p + 5)) (d := 1) (by omega) (by omega) (by omega)).2.2 s0
    refine ⟨(p + 5), by omega, by omega, Or.inr ⟨fun tn => ?_, ?_⟩⟩
    · have htn : f_X4_takeNumbers ts (nI l) (nI (p + 5)) tn 5 = some (nI 0, nI (p + 5), tn) := (ts_step h (i := 5) (j := 0) (p := (p + 5)) (m := 1999) (by omega) (by decide) (by omega) tn).2.2 s0
      refine ⟨tn, ?_⟩
      rw [zCore]
      exact sfc2_i hkw (sfo_s (sfg_i (by omega) (sfb_f (by omega) (sfc3_i htn (sfb_t (by decide) rfl)))))
    · refine ⟨(upd (upd mc (4 * k) (nI 108)) (4 * k + 1) (nI 0)), ?_⟩
      rw [f_X12_readCommand]
      refine sfb_t (by decide) ?_
      refine sfc1_i hbeh ?_
      refine sfn_r (y := nI (4 * k)) (by rw [il_4, nI_mul]) ?_
      refine sfn_r (nI_1 k) ?_
      refine sfg_i (of_eq_true (nI_inT (by omega) (by omega))) ?_
      rw [nI_clamp (show 4 * k < 2 ^ 31 by omega)]
      refine sfn_r rfl ?_
      refine sfb_f (by decide) ?_
      refine sfb_f (by decide) ?_
      refine sfb_t (by decide) ?_
      refine sfc2_i hsk ?_
      refine sfc3_i r0 ?_
      rw [show nI (4 * k) + (1 : Int32) = nI (4 * k + 1) from nI_add _ _]
      refine sfg_i (of_eq_true (nI_inT (by omega) (by omega))) ?_
      rw [nI_clamp (show 4 * k + 1 < 2 ^ 31 by omega)]
      refine sfn_r rfl ?_
      rfl
  have s0a := s0.1
  obtain ⟨b0, q0⟩ := zdv_lt (c := c) (l := l) (p := (p + 5)) (d := 1) (by omega) (by omega)
  rcases Nat.eq_zero_or_pos (zdc c l (p + 5) 1) with n0 | n0
  · have r0 := (jn_rn h (p := (p + 5)) (d := 1) (by omega) (by omega) (by omega)).2.1 s0 n0
    refine ⟨((p + 5) + 1), by omega, by omega, Or.inr ⟨fun tn => ?_, ?_⟩⟩
    · obtain ⟨tn', e9⟩ := (ts_step h (i := 5) (j := 0) (p := (p + 5)) (m := 1999) (k := fun y_17 z_18 => some (1, y_17, z_18)) (by omega) (by decide) (by omega) tn).2.1 s0 n0
      have htn : f_X4_takeNumbers ts (nI l) (nI (p + 5)) tn 5 = some (nI 0, nI ((p + 5) + 1), tn') := e9
      refine ⟨tn', ?_⟩
      rw [zCore]
      exact sfc2_i hkw (sfo_s (sfg_i (by omega) (sfb_f (by omega) (sfc3_i htn (sfb_t (by decide) rfl)))))
    · refine ⟨(upd (upd mc (4 * k) (nI 108)) (4 * k + 1) (nI 0)), ?_⟩
      rw [f_X12_readCommand]
      refine sfb_t (by decide) ?_
      refine sfc1_i hbeh ?_
      refine sfn_r (y := nI (4 * k)) (by rw [il_4, nI_mul]) ?_
      refine sfn_r (nI_1 k) ?_
      refine sfg_i (of_eq_true (nI_inT (by omega) (by omega))) ?_
      rw [nI_clamp (show 4 * k < 2 ^ 31 by omega)]
      refine sfn_r rfl ?_
      refine sfb_f (by decide) ?_
      refine sfb_f (by decide) ?_
      refine sfb_t (by decide) ?_
      refine sfc2_i hsk ?_
      refine sfc3_i r0 ?_
      rw [show nI (4 * k) + (1 : Int32) = nI (4 * k + 1) from nI_add _ _]
      refine sfg_i (of_eq_true (nI_inT (by omega) (by omega))) ?_
      rw [nI_clamp (show 4 * k + 1 < 2 ^ 31 by omega)]
      refine sfn_r rfl ?_
      rfl
  have r0 := (jn_rn h (p := (p + 5)) (d := 1) (by omega) (by omega) (by omega)).1 s0 n0
  refine ⟨((p + 5) + 1 + zdc c l (p + 5) 1), by omega, by omega, Or.inl ⟨5, (fun x => (zdv c l (p + 5) 1)), by omega, by omega, fun x => ?_, fun tn => ?_, ?_⟩⟩
  · dsimp only
    repeat' split
    all_goals omega
  · refine ⟨(upd tn 0 (nI (zdv c l (p + 5) 1))), ?_, ?_⟩
    · have htn : f_X4_takeNumbers ts (nI l) (nI (p + 5)) tn 5 = some (1, nI ((p + 5) + 1 + zdc c l (p + 5) 1), (upd tn 0 (nI (zdv c l (p + 5) 1)))) := Eq.trans ((ts_step h (i := 5) (j := 0) (p := (p + 5)) (m := 1999) (by omega) (by decide) (by omega) tn).1 s0 n0) (ts_end (i := 5) (m := 1998) (by omega) (upd tn 0 (nI (zdv c l (p + 5) 1))))
      rw [zCore]
      refine sfc2_i hkw (sfo_s (sfg_i (by omega) ?_))
      refine sfb_f (by omega) ?_
      exact sfc3_i htn (sfb_f (by decide) rfl)
    · intro j hj
      have hj2 : j < 1 := hj
      have e0 : j = 0 := by omega
      subst e0
      rfl
  · refine ⟨(upd (upd mc (4 * k) (nI 108)) (4 * k + 1) (nI (zdv c l (p + 5) 1))), ?_, fun x hx => ?_, ?_, fun j hj => ?_⟩
    · rw [f_X12_readCommand]
      refine sfb_t (by decide) ?_
      refine sfc1_i hbeh ?_
      refine sfn_r (y := nI (4 * k)) (by rw [il_4, nI_mul]) ?_
      refine sfn_r (nI_1 k) ?_
      refine sfg_i (of_eq_true (nI_inT (by omega) (by omega))) ?_
      rw [nI_clamp (show 4 * k < 2 ^ 31 by omega)]
      refine sfn_r rfl ?_
      refine sfb_f (by decide) ?_
      refine sfb_f (by decide) ?_
      refine sfb_t (by decide) ?_
      refine sfc2_i hsk ?_
      refine sfc3_i r0 ?_
      rw [show nI (4 * k) + (1 : Int32) = nI (4 * k + 1) from nI_add _ _]
      refine sfg_i (of_eq_true (nI_inT (by omega) (by omega))) ?_
      rw [nI_clamp (show 4 * k + 1 < 2 ^ 31 by omega)]
      refine sfn_r rfl ?_
      rfl
    · simp (disch := omega) only [upd_neP]
    · simp (disch := omega) only [upd_neP, upd_eqP]
      rfl
    · have hj2 : j < 1 := hj
      have e0 : j = 0 := by omega
      subst e0
      simp (disch := omega) only [upd_neP, upd_eqP]
theorem rd_wait (h : TT c l ts mI) {p k : Nat} (hp : p < l) (hc : c p = 119) (hk : k < 60) (mc : Nat → Int32) : ∃ p', RD ts mI l p k mc p' := by
  have hl := h.1
  have hbeh := fx_beh h (p := p) (by omega)
  rw [if_pos hp, hc] at hbeh
  have hsk := fx_skip h (p := p) (i := 6) (by omega) (by omega)
  have hkw := fx_kw1 h (i := 6) (by omega) hp hc
  have hkn : zkn 6 = 4 := rfl
  obtain ⟨m1, m2, m3⟩ := zml_b (c := c) (l := l) (p := p) (i := 6) (by omega) (by omega)
  rw [hkn] at hsk hkw m2
  by_cases z : zml c l p 6 < 4
  · rw [if_pos z] at hsk hkw
    refine ⟨p + zml c l p 6, by omega, m3, Or.inr ⟨fun tn => ⟨tn, ?_⟩, ?_⟩⟩
    · rw [zCore]
      exact sfc2_i hkw (sfo_n rfl)
    · refine ⟨upd (upd mc (4 * k) (nI 119)) (4 * k + 1) 1, ?_⟩
      rw [f_X12_readCommand]
      refine sfb_t (by decide) ?_
      refine sfc1_i hbeh ?_
      refine sfn_r (y := nI (4 * k)) (by rw [il_4, nI_mul]) ?_
      refine sfn_r (nI_1 k) ?_
      refine sfg_i (of_eq_true (nI_inT (by omega) (by omega))) ?_
      rw [nI_clamp (show 4 * k < 2 ^ 31 by omega)]
      refine sfn_r rfl ?_
      refine sfb_f (by decide) ?_
      refine sfb_f (by decide) ?_
      refine sfb_f (by decide) ?_
      refine sfb_f (by decide) ?_
      refine sfb_f (by decide) ?_
      refine sfb_t (by decide) ?_
      refine sfc2_i hsk ?_
      refine sfb_f (by decide) ?_
      rw [show nI (4 * k) + (1 : Int32) = nI (4 * k + 1) from nI_add _ _]
      refine sfg_i (of_eq_true (nI_inT (by omega) (by omega))) ?_
      rw [nI_clamp (show 4 * k + 1 < 2 ^ 31 by omega)]
      refine sfn_r rfl ?_
      rfl
  have ez : zml c l p 6 = 4 := by omega
  rw [if_neg z, ez] at hsk hkw
  have hp0 : p + 4 ≤ l := by omega
  have hnx := fx_next h (p := (p + 4)) (x := 32) (by omega) (by omega)
  have hb32 := fx_beh h (p := (p + 4)) (by omega)
  by_cases s0 : zsp c l (p + 4)
  case neg =>
    rw [if_neg (show ¬ ((p + 4) < l ∧ c (p + 4) = 32) from s0)] at hnx
    refine ⟨(p + 4), by omega, by omega, Or.inl ⟨6, fun _ => 1, by omega, by omega, fun x => (by decide : 1 < 10000), fun tn => ?_, ?_⟩⟩
    · refine ⟨upd tn 0 1, ?_, ?_⟩
      · rw [zCore]
        refine sfc2_i hkw (sfo_s (sfg_i (by omega) ?_))
        refine sfb_t (by omega) (sfc1_i hnx (sfb_t (by decide) ?_))
        exact sfg_i (by decide) rfl
      · intro j hj
        have hj2 : j < 1 := hj
        have e0 : j = 0 := by omega
        subst e0
        rfl
    · refine ⟨upd (upd mc (4 * k) (nI 119)) (4 * k + 1) 1, ?_, fun x hx => ?_, ?_, fun j hj => ?_⟩
      · have hne : ¬ (if (p + 4) < l then nI (c (p + 4)) else -nI 1) = (32 : Int32) := by
          by_cases y : (p + 4) < l
          · rw [if_pos y, il_32, nI_eqP (by have := (h.2 _ y).2.2; omega) (by omega)]
            exact fun e => s0 ⟨y, e⟩
          · rw [if_neg y]; decide
        rw [f_X12_readCommand]
        refine sfb_t (by decide) ?_
        refine sfc1_i hbeh ?_
        refine sfn_r (y := nI (4 * k)) (by rw [il_4, nI_mul]) ?_
        refine sfn_r (nI_1 k) ?_
        refine sfg_i (of_eq_true (nI_inT (by omega) (by omega))) ?_
        rw [nI_clamp (show 4 * k < 2 ^ 31 by omega)]
        refine sfn_r rfl ?_
        refine sfb_f (by decide) ?_
        refine sfb_f (by decide) ?_
        refine sfb_f (by decide) ?_
        refine sfb_f (by decide) ?_
        refine sfb_f (by decide) ?_
        refine sfb_t (by decide) ?_
        refine sfc2_i hsk ?_
        refine sfb_t (by decide) ?_
        refine sfc1_i hb32 ?_
        refine sfb_f hne ?_
        rw [show nI (4 * k) + (1 : Int32) = nI (4 * k + 1) from nI_add _ _]
        refine sfg_i (of_eq_true (nI_inT (by omega) (by omega))) ?_
        rw [nI_clamp (show 4 * k + 1 < 2 ^ 31 by omega)]
        refine sfn_r rfl ?_
        rfl
      · simp (disch := omega) only [upd_neP]
      · simp (disch := omega) only [upd_neP, upd_eqP]
        rfl
      · have hj2 : j < 1 := hj
        have e0 : j = 0 := by omega
        subst e0
        simp (disch := omega) only [upd_neP, upd_eqP]
        rfl
  rw [if_pos (show (p + 4) < l ∧ c (p + 4) = 32 from s0)] at hnx
  rw [if_pos s0.1, s0.2] at hb32
  have s0a := s0.1
  obtain ⟨b0, q0⟩ := zdv_lt (c := c) (l := l) (p := (p + 4)) (d := 2) (by omega) (by omega)
  rcases Nat.eq_zero_or_pos (zdc c l (p + 4) 2) with n0 | n0
  · have r0 := (jn_rn h (p := (p + 4)) (d := 2) (by omega) (by omega) (by omega)).2.1 s0 n0
    refine ⟨((p + 4) + 1), by omega, by omega, Or.inr ⟨fun tn => ?_, ?_⟩⟩
    · obtain ⟨tn', e9⟩ := (ts_step h (i := 6) (j := 0) (p := (p + 4)) (m := 1999) (k := fun y_17 z_18 => some (1, y_17, z_18)) (by omega) (by decide) (by omega) tn).2.1 s0 n0
      have htn : f_X4_takeNumbers ts (nI l) (nI (p + 4)) tn 6 = some (nI 0, nI ((p + 4) + 1), tn') := e9
      refine ⟨tn', ?_⟩
      rw [zCore]
      exact sfc2_i hkw (sfo_s (sfg_i (by omega) (sfb_t (by omega) (sfc1_i hnx (sfb_f (by decide) (sfc3_i htn (sfb_t (by decide) rfl)))))))
    · refine ⟨(upd (upd mc (4 * k) (nI 119)) (4 * k + 1) (nI 0)), ?_⟩
      rw [f_X12_readCommand]
      refine sfb_t (by decide) ?_
      refine sfc1_i hbeh ?_
      refine sfn_r (y := nI (4 * k)) (by rw [il_4, nI_mul]) ?_
      refine sfn_r (nI_1 k) ?_
      refine sfg_i (of_eq_true (nI_inT (by omega) (by omega))) ?_
      rw [nI_clamp (show 4 * k < 2 ^ 31 by omega)]
      refine sfn_r rfl ?_
      refine sfb_f (by decide) ?_
      refine sfb_f (by decide) ?_
      refine sfb_f (by decide) ?_
      refine sfb_f (by decide) ?_
      refine sfb_f (by decide) ?_
      refine sfb_t (by decide) ?_
      refine sfc2_i hsk ?_
      refine sfb_t (by decide) ?_
      refine sfc1_i hb32 ?_
      refine sfb_t (by decide) ?_
      refine sfc3_i r0 ?_
      rw [show nI (4 * k) + (1 : Int32) = nI (4 * k + 1) from nI_add _ _]
      refine sfg_i (of_eq_true (nI_inT (by omega) (by omega))) ?_
      rw [nI_clamp (show 4 * k + 1 < 2 ^ 31 by omega)]
      refine sfn_r rfl ?_
      rfl
  have r0 := (jn_rn h (p := (p + 4)) (d := 2) (by omega) (by omega) (by omega)).1 s0 n0
  refine ⟨((p + 4) + 1 + zdc c l (p + 4) 2), by omega, by omega, Or.inl ⟨6, (fun x => (zdv c l (p + 4) 2)), by omega, by omega, fun x => ?_, fun tn => ?_, ?_⟩⟩
  · dsimp only
    repeat' split
    all_goals omega
  · refine ⟨(upd tn 0 (nI (zdv c l (p + 4) 2))), ?_, ?_⟩
    · have htn : f_X4_takeNumbers ts (nI l) (nI (p + 4)) tn 6 = some (1, nI ((p + 4) + 1 + zdc c l (p + 4) 2), (upd tn 0 (nI (zdv c l (p + 4) 2)))) := Eq.trans ((ts_step h (i := 6) (j := 0) (p := (p + 4)) (m := 1999) (by omega) (by decide) (by omega) tn).1 s0 n0) (ts_end (i := 6) (m := 1998) (by omega) (upd tn 0 (nI (zdv c l (p + 4) 2))))
      rw [zCore]
      refine sfc2_i hkw (sfo_s (sfg_i (by omega) ?_))
      refine sfb_t (by omega) (sfc1_i hnx (sfb_f (by decide) ?_))
      exact sfc3_i htn (sfb_f (by decide) rfl)
    · intro j hj
      have hj2 : j < 1 := hj
      have e0 : j = 0 := by omega
      subst e0
      rfl
  · refine ⟨(upd (upd mc (4 * k) (nI 119)) (4 * k + 1) (nI (zdv c l (p + 4) 2))), ?_, fun x hx => ?_, ?_, fun j hj => ?_⟩
    · rw [f_X12_readCommand]
      refine sfb_t (by decide) ?_
      refine sfc1_i hbeh ?_
      refine sfn_r (y := nI (4 * k)) (by rw [il_4, nI_mul]) ?_
      refine sfn_r (nI_1 k) ?_
      refine sfg_i (of_eq_true (nI_inT (by omega) (by omega))) ?_
      rw [nI_clamp (show 4 * k < 2 ^ 31 by omega)]
      refine sfn_r rfl ?_
      refine sfb_f (by decide) ?_
      refine sfb_f (by decide) ?_
      refine sfb_f (by decide) ?_
      refine sfb_f (by decide) ?_
      refine sfb_f (by decide) ?_
      refine sfb_t (by decide) ?_
      refine sfc2_i hsk ?_
      refine sfb_t (by decide) ?_
      refine sfc1_i hb32 ?_
      refine sfb_t (by decide) ?_
      refine sfc3_i r0 ?_
      rw [show nI (4 * k) + (1 : Int32) = nI (4 * k + 1) from nI_add _ _]
      refine sfg_i (of_eq_true (nI_inT (by omega) (by omega))) ?_
      rw [nI_clamp (show 4 * k + 1 < 2 ^ 31 by omega)]
      refine sfn_r rfl ?_
      rfl
    · simp (disch := omega) only [upd_neP]
    · simp (disch := omega) only [upd_neP, upd_eqP]
      rfl
    · have hj2 : j < 1 := hj
      have e0 : j = 0 := by omega
      subst e0
      simp (disch := omega) only [upd_neP, upd_eqP]
/-- no keyword begins so -/
theorem rd_none (h : TT c l ts mI) {p k : Nat} (hp : p ≤ l) (hno : ∀ i, i < 7 → ¬ (p < l ∧ c p = zkw i 0)) (hk : k < 60) (mc : Nat → Int32) : ∃ p', RD ts mI l p k mc p' := by
  have hl := h.1
  have hbeh := fx_beh h hp
  have hsk := fx_skip h (i := 1) hp (by omega)
  have hkn : zkn 1 = 5 := rfl
  rw [zml_0 (hno 1 (by omega)), hkn, if_pos (by omega)] at hsk
  have hkw := fx_kw0 h hp hno
  have hne : ∀ i, i < 7 → ¬ (if p < l then nI (c p) else -nI 1) = nI (zkw i 0) := fun i hi => by
    have hw := zkw_b i (by omega) 0 (by omega)
    by_cases y : p < l
    · rw [if_pos y, nI_eqP (by have := (h.2 _ y).2.2; omega) (by omega)]
      exact fun e => hno i hi ⟨y, e⟩
    · rw [if_neg y]
      intro e2
      have := nI_neP (a := zkw i 0) 1 (by omega) (by omega) (by omega)
      rw [← this]; exact e2.symm
  refine ⟨p, Nat.le_refl p, hp, Or.inr ⟨fun tn => ⟨tn, ?_⟩, ⟨upd mc (4 * k) (if p < l then nI (c p) else -nI 1), ?_⟩⟩⟩
  · rw [zCore]
    exact sfc2_i hkw (sfo_n rfl)
  · rw [f_X12_readCommand]
    refine sfb_t (by decide) ?_
    refine sfc1_i hbeh ?_
    refine sfn_r (y := nI (4 * k)) (by rw [il_4, nI_mul]) ?_
    refine sfn_r (nI_1 k) ?_
    refine sfg_i (of_eq_true (nI_inT (by omega) (by omega))) ?_
    rw [nI_clamp (show 4 * k < 2 ^ 31 by omega)]
    refine sfn_r rfl ?_
    refine sfb_f (hne 2 (by omega)) ?_
    refine sfb_f (hne 3 (by omega)) ?_
    refine sfb_f (hne 5 (by omega)) ?_
    refine sfb_f (hne 4 (by omega)) ?_
    refine sfb_f (hne 0 (by omega)) ?_
    refine sfb_f (hne 6 (by omega)) ?_
    exact sfc2_i hsk rfl
theorem rd_all (h : TT c l ts mI) {p k : Nat} (hp : p ≤ l) (hk : k < 60) (mc : Nat → Int32) : ∃ p', RD ts mI l p k mc p' := by
  by_cases hx : ∃ i, i < 7 ∧ p < l ∧ c p = zkw i 0
  · obtain ⟨i, h1, h2, h3⟩ := hx
    rcases (by omega : i = 0 ∨ i = 1 ∨ i = 2 ∨ i = 3 ∨ i = 4 ∨ i = 5 ∨ i = 6) with e | e | e | e | e | e | e <;> subst e
    · exact rd_slide h h2 h3 hk mc
    · exact rd_guest h h2 h3 hk mc
    · exact rd_book h h2 h3 hk mc
    · exact rd_cancel h h2 h3 hk mc
    · exact rd_queue h h2 h3 hk mc
    · exact rd_leave h h2 h3 hk mc
    · exact rd_wait h h2 h3 hk mc
  · exact rd_none h hp (fun i h1 h2 => hx ⟨i, h1, h2⟩) hk mc
end PR3
