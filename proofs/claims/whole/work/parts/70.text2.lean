/-! the output: the class's own numbers, and a slide's description -/
theorem nI_mt {n : Nat} (hn : n < 2 ^ 31) : (-nI n).toInt = -(n : Int) := by
  rw [Int32.toInt_neg, nI_toInt hn]
  exact Int.bmod_eq_of_le (by omega) (by omega)
theorem nI_nNle {a b : Nat} (ha : a < 2 ^ 31) (hb : b < 2 ^ 31) : (-nI a ≤ -nI b) = (b ≤ a) := by
  rw [Int32.le_iff_toInt_le, nI_mt ha, nI_mt hb]
  exact propext ⟨fun _ => by omega, fun _ => by omega⟩
theorem nI_nNlt {a b : Nat} (ha : a < 2 ^ 31) (hb : b < 2 ^ 31) : (-nI a < -nI b) = (b < a) := by
  rw [Int32.lt_iff_toInt_lt, nI_mt ha, nI_mt hb]
  exact propext ⟨fun _ => by omega, fun _ => by omega⟩
theorem nI_ndiv {a b : Nat} (ha : a < 2 ^ 31) (hb : b < 2 ^ 31) (hb0 : 0 < b) : (-nI a) / nI b = -nI (a / b) := by
  apply Int32.toInt_inj.mp
  have h1 : a / b ≤ a := Nat.div_le_self a b
  rw [Int32.toInt_div_of_ne_right _ _ (fun e => by
    have h := congrArg Int32.toInt e
    rw [nI_toInt hb] at h
    have h2 : (-1 : Int32).toInt = -1 := by decide
    omega), nI_mt ha, nI_toInt hb, nI_mt (by omega), Int.neg_tdiv]
  congr 1
theorem nI_nmul (a b : Nat) : nI a * -nI b = -nI (a * b) := by rw [Int32.mul_neg, nI_mul]
theorem nI_nmulr (a b : Nat) : -nI a * nI b = -nI (a * b) := by rw [Int32.neg_mul, nI_mul]
theorem nI_nsub {a b : Nat} (h : b ≤ a) : -nI b - -nI a = nI (a - b) := by
  rw [Int32.sub_neg, Int32.add_comm, ← Int32.sub_eq_add_neg, nI_sub h]
theorem pow_nd {v : Nat} (hv : v < 10000000) : ∀ i, 1 ≤ i → i ≤ 7 → (10 ^ i ≤ v ↔ i < znd v) := fun i h1 h2 => by
  have h3 : i = 1 ∨ i = 2 ∨ i = 3 ∨ i = 4 ∨ i = 5 ∨ i = 6 ∨ i = 7 := by omega
  unfold znd
  rcases h3 with h | h | h | h | h | h | h <;> subst h
  all_goals
    repeat' split
    all_goals omega
theorem ss_loop {v : Nat} (hv : v < 10000000) {k : Unit → Option Int32} : ∀ m i, 1 ≤ i → i ≤ znd v → znd v - i < m → f_J6_stringSize_0f7a4_L16_1 (-nI v) k m (nI i) (-nI (10 ^ i)) = some (nI (znd v)) := by
  have hz := znd_pos v
  intro m
  induction m with
  | zero => intro i h1 h2 h3; omega
  | succ m ih =>
    intro i h1 h2 h3
    rw [f_J6_stringSize_0f7a4_L16_1]
    have hp := pow_nd hv i h1 (by omega)
    have hpl : 10 ^ i ≤ 10 ^ 7 := Nat.pow_le_pow_right (by omega) (by omega)
    have e1 : ((10 : Int32) ≤ nI i) = False := eq_false (by rw [il_10, nI_leP (by omega) (by omega)]; omega)
    have e2 : (-nI v ≤ -nI (10 ^ i)) = (10 ^ i ≤ v) := nI_nNle (by omega) (by omega)
    simp only [sf_b, sf_n, e1, e2, if_false]
    by_cases c : 10 ^ i ≤ v
    · have ih1 := ih (i + 1) (by omega) (by omega) (by omega)
      rw [if_pos c, il_10, nI_nmul, il_1, nI_add, show 10 * 10 ^ i = 10 ^ (i + 1) by rw [Nat.pow_succ, Nat.mul_comm]]
      exact ih1
    · rw [if_neg c, il_0, nI_add]
      have : i = znd v := by omega
      rw [this]; rfl
theorem ss_ok {v : Nat} (hv : v < 10000000) : f_J6_stringSize_0f7a4 (nI v) = some (nI (znd v)) := by
  have e1 : (nI v < (0 : Int32)) = False := eq_false (nI_pos (by omega))
  have hz := znd_pos v
  rw [f_J6_stringSize_0f7a4, sf_b]
  simp only [e1, if_false, sf_n]
  exact ss_loop hv 2000 1 (Nat.le_refl 1) hz.1 (by omega)
/-- the digits from pos on are written -/
def WD (c : Nat → Nat) (L v K pos : Nat) (w : Nat → Int32) : Prop := (∀ k, k < K → (w k).toInt8.toInt32 = w k) ∧ (∀ k, k < L → w k = nI (c k) ∧ c k < 128) ∧ (∀ k, pos ≤ k → k < L + znd v → w k = nI (zdj v (L + znd v - 1 - k)))
theorem WD_s {c : Nat → Nat} {L v K pos d : Nat} {w : Nat → Int32} (h : WD c L v K (pos + 1) w) (hp : L ≤ pos) (hp2 : pos < L + znd v) (e : d = zdj v (L + znd v - 1 - pos)) : WD c L v K pos (upd w pos (vp_nar .byte (nI d))) := by
  obtain ⟨h1, h2, h3⟩ := h
  have hd : d < 128 := by rw [e]; exact zdj_lt _ _
  rw [nb_small hd]
  refine ⟨fun k hk => ?_, fun k hk => ?_, fun k hk hk2 => ?_⟩
  · by_cases z : k = pos
    · rw [upd_eqP z]; exact by_small d hd
    · rw [upd_neP z]; exact h1 k hk
  · rw [upd_neP (by omega)]; exact h2 k hk
  · by_cases z : k = pos
    · rw [upd_eqP z, z, e]
    · rw [upd_neP z]; exact h3 k (by omega) hk2
theorem dgO_v (r : Nat) : dgO r = nI (48 + r % 10) := rfl
theorem dgT_v (r : Nat) : dgT r = nI (48 + r / 10) := rfl
theorem gc_loop {c : Nat → Nat} {L v K : Nat} (hv : v < 10000000) (hK : L + znd v ≤ K) (hK2 : K ≤ 286) {k : Int32 → Int32 → (Nat → Int32) → Option (Int32 × (Nat → Int32))} : ∀ m q pos w, znd q < m → pos = L + znd q → q = v / 10 ^ (L + znd v - pos) → pos ≤ L + znd v → WD c L v K pos w → ∃ q' pos' w', q' < 100 ∧ pos' = L + znd q' ∧ q' = v / 10 ^ (L + znd v - pos') ∧ pos' ≤ L + znd v ∧ WD c L v K pos' w' ∧ f_J6_getChars_ba4f3_L22 K k m (-nI q) (nI pos) w = k (-nI q') (nI pos') w' := by
  intro m
  induction m with
  | zero => intro q pos w h; omega
  | succ m ih =>
    intro q pos w h1 h2 h3 h4 h5
    rw [f_J6_getChars_ba4f3_L22]
    have hqv : q ≤ v := by rw [h3]; exact Nat.div_le_self _ _
    have hzv := znd_pos v
    have e1 : ((-100 : Int32) < -nI q) = (q < 100) := by
      rw [show (-100 : Int32) = -nI 100 from rfl, nI_nNlt (by omega) (by omega)]
    by_cases cq : q < 100
    · refine ⟨q, pos, w, cq, h2, h3, h4, h5, ?_⟩
      rw [sf_b, if_pos (by rw [e1]; exact cq)]
    · have hz := znd_100 (v := q) (by omega) (by omega)
      have hzq := znd_pos (q / 100)
      have hq1 : 48 + q % 100 % 10 = zdj v (L + znd v - 1 - (pos - 1)) := by
        rw [zdj, show L + znd v - 1 - (pos - 1) = L + znd v - pos by omega, ← h3]
        omega
      have hpw : v / 10 ^ (L + znd v - pos + 1) = q / 10 := by
        rw [Nat.pow_succ, ← Nat.div_div_eq_div_mul, ← h3]
      have hq2 : 48 + q % 100 / 10 = zdj v (L + znd v - 1 - (pos - 2)) := by
        rw [zdj, show L + znd v - 1 - (pos - 2) = L + znd v - pos + 1 by omega, hpw]
        omega
      have w1 : WD c L v K (pos - 1) (upd w (pos - 1) (vp_nar .byte (nI (48 + q % 100 % 10)))) := WD_s (by rw [show pos - 1 + 1 = pos by omega]; exact h5) (by omega) (by omega) hq1
      have w2 : WD c L v K (pos - 2) (upd (upd w (pos - 1) (vp_nar .byte (nI (48 + q % 100 % 10)))) (pos - 2) (vp_nar .byte (nI (48 + q % 100 / 10)))) := WD_s (by rw [show pos - 2 + 1 = pos - 1 by omega]; exact w1) (by omega) (by omega) hq2
      obtain ⟨q', pos', w', i1, i2, i3, i4, i5, i6⟩ := ih (q / 100) (pos - 2) _ (by omega) (by omega) (by
        rw [show L + znd v - (pos - 2) = L + znd v - pos + 1 + 1 by omega, Nat.pow_succ, ← Nat.div_div_eq_div_mul, hpw, Nat.div_div_eq_div_mul]) (by omega) w2
      refine ⟨q', pos', w', i1, i2, i3, i4, i5, ?_⟩
      rw [← i6]
      have f1 : -nI q / (100 : Int32) = -nI (q / 100) := by rw [show (100 : Int32) = nI 100 from rfl, nI_ndiv (by omega) (by omega) (by omega)]
      have f2 : -nI (q / 100) * (100 : Int32) - -nI q = nI (q % 100) := by
        rw [show (100 : Int32) = nI 100 from rfl, nI_nmulr, nI_nsub (Nat.div_mul_le_self q 100)]
        congr 1
        omega
      have f3 : nI pos + (-1 : Int32) = nI (pos - 1) := by rw [show (-1 : Int32) = -nI 1 from rfl, nI_addneg (by omega)]
      have f4 : nI (pos - 1) + (-1 : Int32) = nI (pos - 2) := by rw [show (-1 : Int32) = -nI 1 from rfl, nI_addneg (by omega), show pos - 1 - 1 = pos - 2 by omega]
      have g1 : (sf_in (nI (q % 100)) 100 = true) = True := nI_inT (by omega) (by omega)
      have g2 : (sf_in (nI (pos - 1)) K = true) = True := nI_inT (by omega) (by omega)
      have g3 : (sf_in (nI (pos - 2)) K = true) = True := nI_inT (by omega) (by omega)
      have n1 : (nI (q % 100)).toNatClampNeg = q % 100 := nI_clamp (by omega)
      have n2 : (nI (pos - 1)).toNatClampNeg = pos - 1 := nI_clamp (by omega)
      have n3 : (nI (pos - 2)).toNatClampNeg = pos - 2 := nI_clamp (by omega)
      rw [sf_b, if_neg (by rw [e1]; exact cq)]
      simp only [sf_n, sf_g, f1, f2, f3, f4, g1, g2, g3, n1, n2, n3, if_true, dgO_v, dgT_v]
def zkt (K : Nat) : Int32 → Int32 → (Nat → Int32) → Option (Int32 × (Nat → Int32)) := fun y_13 y_14 z_15 => sf_n (y_14 + (-1 : Int32)) (fun x_16 => sf_g (sf_in (-y_13) 100 = true) (sf_g (sf_in x_16 K = true) (sf_n (upd z_15 x_16.toNatClampNeg (vp_nar .byte (dgO (-y_13).toNatClampNeg))) (fun a_18 => sf_b ((-9 : Int32) ≤ y_13) (some (x_16, a_18)) (sf_n (x_16 + (-1 : Int32)) (fun x_19 => sf_g (sf_in (-y_13) 100 = true) (sf_g (sf_in x_19 K = true) (sf_n (upd a_18 x_19.toNatClampNeg (vp_nar .byte (dgT (-y_13).toNatClampNeg))) (fun a_21 => some (x_19, a_21))))))))))
theorem gc_un {sv : Nat → Int32} {K : Nat} {p0 p1 : Int32} (e0 : 0 ≤ p0) : f_J6_getChars_ba4f3 sv K p0 p1 = f_J6_getChars_ba4f3_L22 K (zkt K) 2000 (-p0) p1 sv := by
  unfold zkt
  rw [f_J6_getChars_ba4f3, sf_b, if_pos e0, sf_n]
theorem gc_ok {c : Nat → Nat} {L v K : Nat} {sv : Nat → Int32} (h : WB c L K sv) (hv : v < 10000000) (hK : L + znd v ≤ K) : ∃ r sv', f_J6_getChars_ba4f3 sv K (nI v) (nI (L + znd v)) = some (r, sv') ∧ WB (zwn c L v) (L + znd v) K sv' := by
  obtain ⟨k1, k2, k3, k4⟩ := h
  have hK2 : K ≤ 286 := by rcases k1 with h | h | h | h | h <;> omega
  have hz := znd_pos v
  have hw0 : WD c L v K (L + znd v) sv := ⟨k3, k4, fun k h1 h2 => by omega⟩
  have hfin : ∀ w, WD c L v K L w → WB (zwn c L v) (L + znd v) K w := fun w ⟨x1, x2, x3⟩ => by
    refine ⟨k1, hK, x1, fun k hk => ?_⟩
    by_cases z : k < L
    · rw [zwn, if_pos z]; exact x2 k z
    · rw [zwn, if_neg z]; exact ⟨x3 k (by omega) hk, zdj_lt _ _⟩
  obtain ⟨q, pos, w, i1, i2, i3, i4, i5, i6⟩ := gc_loop (c := c) (L := L) (K := K) hv hK hK2 (k := zkt K) 2000 v (L + znd v) sv (by omega) rfl (by rw [Nat.sub_self, Nat.pow_zero, Nat.div_one]) (Nat.le_refl _) hw0
  have hzq := znd_pos q
  have e0 : (0 : Int32) ≤ nI v := nI_pos' (by omega)
  have hq1 : 48 + q % 10 = zdj v (L + znd v - 1 - (pos - 1)) := by
    rw [zdj, show L + znd v - 1 - (pos - 1) = L + znd v - pos by omega, ← i3]
  have w1 : WD c L v K (pos - 1) (upd w (pos - 1) (vp_nar .byte (nI (48 + q % 10)))) := WD_s (by rw [show pos - 1 + 1 = pos by omega]; exact i5) (by omega) (by omega) hq1
  have f3 : nI pos + (-1 : Int32) = nI (pos - 1) := by rw [show (-1 : Int32) = -nI 1 from rfl, nI_addneg (by omega)]
  have nn : -(-nI q) = nI q := Int32.neg_neg
  have g1 : (sf_in (nI q) 100 = true) = True := nI_inT (by omega) (by omega)
  have g2 : (sf_in (nI (pos - 1)) K = true) = True := nI_inT (by omega) (by omega)
  have n1 : (nI q).toNatClampNeg = q := nI_clamp (by omega)
  have n2 : (nI (pos - 1)).toNatClampNeg = pos - 1 := nI_clamp (by omega)
  have e9 : ((-9 : Int32) ≤ -nI q) = (q ≤ 9) := by rw [show (-9 : Int32) = -nI 9 from rfl, nI_nNle (by omega) (by omega)]
  rw [gc_un e0, i6]
  simp only [zkt, sf_n, sf_g, f3, nn, g1, g2, n1, n2, if_true, dgO_v, dgT_v, sf_b, e9]
  by_cases c9 : q ≤ 9
  · have : znd q = 1 := by unfold znd; rw [if_pos (by omega)]
    rw [if_pos c9]
    refine ⟨_, _, rfl, hfin _ ?_⟩
    have e2 : pos - 1 = L := by omega
    rw [e2] at w1 ⊢
    exact w1
  · have hz2 : znd q = 2 := by unfold znd; rw [if_neg (by omega), if_pos (by omega)]
    have hpw : v / 10 ^ (L + znd v - pos + 1) = q / 10 := by
      rw [Nat.pow_succ, ← Nat.div_div_eq_div_mul, ← i3]
    have hq2 : 48 + q / 10 = zdj v (L + znd v - 1 - (pos - 2)) := by
      rw [zdj, show L + znd v - 1 - (pos - 2) = L + znd v - pos + 1 by omega, hpw]
      omega
    have w2 : WD c L v K (pos - 2) (upd (upd w (pos - 1) (vp_nar .byte (nI (48 + q % 10)))) (pos - 2) (vp_nar .byte (nI (48 + q / 10)))) := WD_s (by rw [show pos - 2 + 1 = pos - 1 by omega]; exact w1) (by omega) (by omega) hq2
    have f4 : nI (pos - 1) + (-1 : Int32) = nI (pos - 2) := by rw [show (-1 : Int32) = -nI 1 from rfl, nI_addneg (by omega), show pos - 1 - 1 = pos - 2 by omega]
    have g3 : (sf_in (nI (pos - 2)) K = true) = True := nI_inT (by omega) (by omega)
    have n3 : (nI (pos - 2)).toNatClampNeg = pos - 2 := nI_clamp (by omega)
    rw [if_neg c9]
    simp only [f4, g3, n3, if_true]
    refine ⟨_, _, rfl, hfin _ ?_⟩
    have e2 : pos - 2 = L := by omega
    rw [e2] at w2 ⊢
    exact w2
/-- a number behind the text, in the class -/
theorem app_nr {c : Nat → Nat} {L K v : Nat} {sv : Nat → Int32} (h : WB c L K sv) (hL : L + 8 ≤ 142) (hv : v < 10000000) : ∃ sv', f_J4_append_bf812 sv K (nI L) (nI v) = some (sv', nI (L + znd v)) ∧ WB (zwn c L v) (L + znd v) (sbN K (nI (L + znd v))) sv' := by
  have hz := znd_pos v
  have hLK := h.2.1
  obtain ⟨s1, e1, k1, k2⟩ := ensure_ok h (L' := L + znd v) (by omega) (by omega) (by omega)
  obtain ⟨r, sv', g1, g2⟩ := gc_ok k1 hv k2
  have ess := ss_ok hv
  have e6 : ((1 : Int32) = 0) = False := eq_false (by decide)
  refine ⟨sv', ?_, g2⟩
  simp only [f_J4_append_bf812, f_J5_append_c97b9, f_J5_isLatin1_aae02, ess, sf_c1, sf_c2, sf_b, sf_n, Option.getD_some, nI_add, e1, e6, if_false, g1]
/-- a number behind both texts -/
theorem jw_nr {c : Nat → Nat} {L K v : Nat} {sv mo : Nat → Int32} (h : WB c L K sv) (h2 : WM c L mo) (hL : L + 8 ≤ 142) (hv : v < 10000000) : ∃ K' sv' mo' c', sbN K (nI L + (f_J6_stringSize_0f7a4 (nI v)).getD 0) = K' ∧ (sbStep K K' = true) = True ∧ f_J4_append_bf812 sv K (nI L) (nI v) = some (sv', nI (L + znd v)) ∧ f_X12_saysNumber_7 mo (nI L) (nI v) = some (mo', nI (L + znd v)) ∧ WB c' (L + znd v) K' sv' ∧ WM c' (L + znd v) mo' := by
  have hz := znd_pos v
  obtain ⟨sv', g1, g2⟩ := app_nr h hL hv
  obtain ⟨mo', g3, g4⟩ := says_n h2 (by omega) hv
  have e1 : nI L + (f_J6_stringSize_0f7a4 (nI v)).getD 0 = nI (L + znd v) := by rw [ss_ok hv, Option.getD_some, nI_add]
  exact ⟨_, sv', mo', _, by rw [e1], eq_true (sbN_s h.1 (by omega)).2.1, g1, g3, g2, g4⟩
theorem jw_ch {c : Nat → Nat} {L K x : Nat} {sv mo : Nat → Int32} (h : WB c L K sv) (h2 : WM c L mo) (hL : L + 1 ≤ 142) (hx : x < 128) : ∃ K' sv' mo' c', sbN K (nI L + 1) = K' ∧ (sbStep K K' = true) = True ∧ f_J4_append_cf468 sv K (nI L) (nI x) = some (sv', nI (L + 1)) ∧ f_X12_says mo (nI L) (nI x) = some (mo', nI (L + 1)) ∧ WB c' (L + 1) K' sv' ∧ WM c' (L + 1) mo' := by
  obtain ⟨sv', g1, g2⟩ := app_ch h hL hx
  have g3 := says_ch h2 (by omega) hx
  have e1 : nI L + 1 = nI (L + 1) := nI_1 L
  exact ⟨_, sv', _, _, by rw [e1], eq_true (sbN_s h.1 hL).2.1, g1, g3.1, g2, g3.2⟩
