/-! rows of bytes that grow, and what is written into them -/
theorem nI_of0 (n : Nat) : Int32.ofNat n = nI n := rfl
theorem nI_sle {a b : Nat} (ha : a < 2 ^ 31) (hb : b < 2 ^ 31) : (nI a - nI b ≤ nI 0) = (a ≤ b) := by
  rw [Int32.le_iff_toInt_le, nI_stoInt ha hb, nI_toInt (by omega)]
  exact propext ⟨fun _ => by omega, fun _ => by omega⟩
theorem by_small : ∀ c, c < 128 → (nI c).toInt8.toInt32 = nI c := by decide +kernel
theorem nb_small {c : Nat} (h : c < 128) : vp_nar .byte (nI c) = nI c := by rw [vp_nar_byte]; exact by_small c h
theorem sh0 : ((0 : Int32) &&& 31) = 0 := by decide
def znd (v : Nat) : Nat := if v < 10 then 1 else if v < 100 then 2 else if v < 1000 then 3 else if v < 10000 then 4 else if v < 100000 then 5 else if v < 1000000 then 6 else 7
theorem znd_pos (v : Nat) : 1 ≤ znd v ∧ znd v ≤ 7 := by
  unfold znd
  repeat' split
  all_goals omega
theorem znd_10 {v : Nat} (h : 10 ≤ v) (h2 : v < 10000000) : znd v = znd (v / 10) + 1 := by
  unfold znd
  repeat' split
  all_goals omega
theorem znd_100 {v : Nat} (h : 100 ≤ v) (h2 : v < 10000000) : znd v = znd (v / 100) + 2 := by
  unfold znd
  repeat' split
  all_goals omega
def zdj (v j : Nat) : Nat := 48 + v / 10 ^ j % 10
theorem zdj_lt (v j : Nat) : zdj v j < 128 := by unfold zdj; omega
theorem zdj_s (v j : Nat) : zdj v (j + 1) = zdj (v / 10) j := by
  unfold zdj
  rw [Nat.pow_succ, Nat.mul_comm, ← Nat.div_div_eq_div_mul]
theorem zdj_0 (v : Nat) : zdj v 0 = 48 + v % 10 := by unfold zdj; rw [Nat.pow_zero, Nat.div_one]
theorem nI_mt {n : Nat} (hn : n < 2 ^ 31) : (-nI n).toInt = -(n : Int) := by
  rw [Int32.toInt_neg, nI_toInt hn]
  exact Int.bmod_eq_of_le (by omega) (by omega)
theorem nI_nNle {a b : Nat} (ha : a < 2 ^ 31) (hb : b < 2 ^ 31) : (-nI a ≤ -nI b) = (b ≤ a) := by
  rw [Int32.le_iff_toInt_le, nI_mt ha, nI_mt hb]
  exact propext ⟨fun _ => by omega, fun _ => by omega⟩
theorem nI_nNlt {a b : Nat} (ha : a < 2 ^ 31) (hb : b < 2 ^ 31) : (-nI a < -nI b) = (b < a) := by
  rw [Int32.lt_iff_toInt_lt, nI_mt ha, nI_mt hb]
  exact propext ⟨fun _ => by omega, fun _ => by omega⟩
theorem nI_ndiv {a b : Nat} (ha : a < 2 ^ 31) (hb : b < 2 ^ 31) (hb0 : 0 < b) : (-nI a) / nI b = -nI (a / b) := by
  apply Int32.toInt_inj.mp
  have h1 : a / b ≤ a := Nat.div_le_self a b
  rw [Int32.toInt_div_of_ne_right _ _ (fun e => by
    have h := congrArg Int32.toInt e
    rw [nI_toInt hb] at h
    have h2 : (-1 : Int32).toInt = -1 := by decide
    omega), nI_mt ha, nI_toInt hb, nI_mt (by omega), Int.neg_tdiv]
  congr 1
theorem nI_nmul (a b : Nat) : nI a * -nI b = -nI (a * b) := by rw [Int32.mul_neg, nI_mul]
theorem nI_nmulr (a b : Nat) : -nI a * nI b = -nI (a * b) := by rw [Int32.neg_mul, nI_mul]
theorem nI_nsub {a b : Nat} (h : b ≤ a) : -nI b - -nI a = nI (a - b) := by
  rw [Int32.sub_neg, Int32.add_comm, ← Int32.sub_eq_add_neg, nI_sub h]
theorem pow_nd {v : Nat} (hv : v < 10000000) : ∀ i, 1 ≤ i → i ≤ 7 → (10 ^ i ≤ v ↔ i < znd v) := fun i h1 h2 => by
  have h3 : i = 1 ∨ i = 2 ∨ i = 3 ∨ i = 4 ∨ i = 5 ∨ i = 6 ∨ i = 7 := by omega
  unfold znd
  rcases h3 with h | h | h | h | h | h | h <;> subst h
  all_goals
    repeat' split
    all_goals omega
theorem ss_loop {v : Nat} (hv : v < 10000000) {k : Unit → Option Int32} : ∀ m i, 1 ≤ i → i ≤ znd v → znd v - i < m → f_J6_stringSize_0f7a4_L16_1 (-nI v) k m (nI i) (-nI (10 ^ i)) = some (nI (znd v)) := by
  have hz := znd_pos v
  intro m
  induction m with
  | zero => intro i h1 h2 h3; omega
  | succ m ih =>
    intro i h1 h2 h3
    rw [f_J6_stringSize_0f7a4_L16_1]
    have hp := pow_nd hv i h1 (by omega)
    have hpl : 10 ^ i ≤ 10 ^ 7 := Nat.pow_le_pow_right (by omega) (by omega)
    have e1 : ((10 : Int32) ≤ nI i) = False := eq_false (by rw [il_10, nI_leP (by omega) (by omega)]; omega)
    have e2 : (-nI v ≤ -nI (10 ^ i)) = (10 ^ i ≤ v) := nI_nNle (by omega) (by omega)
    simp only [sf_b, sf_n, e1, e2, if_false]
    by_cases c : 10 ^ i ≤ v
    · have ih1 := ih (i + 1) (by omega) (by omega) (by omega)
      rw [if_pos c, il_10, nI_nmul, il_1, nI_add, show 10 * 10 ^ i = 10 ^ (i + 1) by rw [Nat.pow_succ, Nat.mul_comm]]
      exact ih1
    · rw [if_neg c, il_0, nI_add]
      have : i = znd v := by omega
      rw [this]; rfl
theorem ss_ok {v : Nat} (hv : v < 10000000) : f_J6_stringSize_0f7a4 (nI v) = some (nI (znd v)) := by
  have e1 : (nI v < (0 : Int32)) = False := eq_false (nI_pos (by omega))
  have hz := znd_pos v
  rw [f_J6_stringSize_0f7a4, sf_b]
  simp only [e1, if_false, sf_n]
  exact ss_loop hv 2000 1 (Nat.le_refl 1) hz.1 (by omega)
def WD (c : Nat → Nat) (L v K pos : Nat) (w : Nat → Int32) : Prop := (∀ k, k < K → (w k).toInt8.toInt32 = w k) ∧ (∀ k, k < L → w k = nI (c k) ∧ c k < 128) ∧ (∀ k, pos ≤ k → k < L + znd v → w k = nI (zdj v (L + znd v - 1 - k)))
theorem WD_s {c : Nat → Nat} {L v K pos d : Nat} {w : Nat → Int32} (h : WD c L v K (pos + 1) w) (hp : L ≤ pos) (hp2 : pos < L + znd v) (e : d = zdj v (L + znd v - 1 - pos)) : WD c L v K pos (upd w pos (vp_nar .byte (nI d))) := by
  obtain ⟨h1, h2, h3⟩ := h
  have hd : d < 128 := by rw [e]; exact zdj_lt _ _
  rw [nb_small hd]
  refine ⟨fun k hk => ?_, fun k hk => ?_, fun k hk hk2 => ?_⟩
  · by_cases z : k = pos
    · rw [upd_eqP z]; exact by_small d hd
    · rw [upd_neP z]; exact h1 k hk
  · rw [upd_neP (by omega)]; exact h2 k hk
  · by_cases z : k = pos
    · rw [upd_eqP z, z, e]
    · rw [upd_neP z]; exact h3 k (by omega) hk2
theorem dgO_v (r : Nat) : dgO r = nI (48 + r % 10) := rfl
theorem dgT_v (r : Nat) : dgT r = nI (48 + r / 10) := rfl
theorem gc_loop {c : Nat → Nat} {L v K : Nat} (hv : v < 10000000) (hK : L + znd v ≤ K) (hK2 : K ≤ 286) {k : Int32 → Int32 → (Nat → Int32) → Option (Int32 × (Nat → Int32))} : ∀ m q pos w, znd q < m → pos = L + znd q → q = v / 10 ^ (L + znd v - pos) → pos ≤ L + znd v → WD c L v K pos w → ∃ q' pos' w', q' < 100 ∧ pos' = L + znd q' ∧ q' = v / 10 ^ (L + znd v - pos') ∧ pos' ≤ L + znd v ∧ WD c L v K pos' w' ∧ f_J6_getChars_ba4f3_L22 K k m (-nI q) (nI pos) w = k (-nI q') (nI pos') w' := by
  intro m
  induction m with
  | zero => intro q pos w h; omega
  | succ m ih =>
    intro q pos w h1 h2 h3 h4 h5
    rw [f_J6_getChars_ba4f3_L22]
    have hqv : q ≤ v := by rw [h3]; exact Nat.div_le_self _ _
    have hzv := znd_pos v
    have e1 : ((-100 : Int32) < -nI q) = (q < 100) := by
      rw [show (-100 : Int32) = -nI 100 from rfl, nI_nNlt (by omega) (by omega)]
    by_cases cq : q < 100
    · refine ⟨q, pos, w, cq, h2, h3, h4, h5, ?_⟩
      rw [sf_b, if_pos (by rw [e1]; exact cq)]
    · have hz := znd_100 (v := q) (by omega) (by omega)
      have hzq := znd_pos (q / 100)
      have hq1 : 48 + q % 100 % 10 = zdj v (L + znd v - 1 - (pos - 1)) := by
        rw [zdj, show L + znd v - 1 - (pos - 1) = L + znd v - pos by omega, ← h3]
        omega
      have hpw : v / 10 ^ (L + znd v - pos + 1) = q / 10 := by
        rw [Nat.pow_succ, ← Nat.div_div_eq_div_mul, ← h3]
      have hq2 : 48 + q % 100 / 10 = zdj v (L + znd v - 1 - (pos - 2)) := by
        rw [zdj, show L + znd v - 1 - (pos - 2) = L + znd v - pos + 1 by omega, hpw]
        omega
      have w1 : WD c L v K (pos - 1) (upd w (pos - 1) (vp_nar .byte (nI (48 + q % 100 % 10)))) := WD_s (by rw [show pos - 1 + 1 = pos by omega]; exact h5) (by omega) (by omega) hq1
      have w2 : WD c L v K (pos - 2) (upd (upd w (pos - 1) (vp_nar .byte (nI (48 + q % 100 % 10)))) (pos - 2) (vp_nar .byte (nI (48 + q % 100 / 10)))) := WD_s (by rw [show pos - 2 + 1 = pos - 1 by omega]; exact w1) (by omega) (by omega) hq2
      obtain ⟨q', pos', w', i1, i2, i3, i4, i5, i6⟩ := ih (q / 100) (pos - 2) _ (by omega) (by omega) (by
        rw [show L + znd v - (pos - 2) = L + znd v - pos + 1 + 1 by omega, Nat.pow_succ, ← Nat.div_div_eq_div_mul, hpw, Nat.div_div_eq_div_mul]) (by omega) w2
      refine ⟨q', pos', w', i1, i2, i3, i4, i5, ?_⟩
      rw [← i6]
      have f1 : -nI q / (100 : Int32) = -nI (q / 100) := by rw [show (100 : Int32) = nI 100 from rfl, nI_ndiv (by omega) (by omega) (by omega)]
      have f2 : -nI (q / 100) * (100 : Int32) - -nI q = nI (q % 100) := by
        rw [show (100 : Int32) = nI 100 from rfl, nI_nmulr, nI_nsub (Nat.div_mul_le_self q 100)]
        congr 1
        omega
      have f3 : nI pos + (-1 : Int32) = nI (pos - 1) := by rw [show (-1 : Int32) = -nI 1 from rfl, nI_addneg (by omega)]
      have f4 : nI (pos - 1) + (-1 : Int32) = nI (pos - 2) := by rw [show (-1 : Int32) = -nI 1 from rfl, nI_addneg (by omega), show pos - 1 - 1 = pos - 2 by omega]
      have g1 : (sf_in (nI (q % 100)) 100 = true) = True := nI_inT (by omega) (by omega)
      have g2 : (sf_in (nI (pos - 1)) K = true) = True := nI_inT (by omega) (by omega)
      have g3 : (sf_in (nI (pos - 2)) K = true) = True := nI_inT (by omega) (by omega)
      have n1 : (nI (q % 100)).toNatClampNeg = q % 100 := nI_clamp (by omega)
      have n2 : (nI (pos - 1)).toNatClampNeg = pos - 1 := nI_clamp (by omega)
      have n3 : (nI (pos - 2)).toNatClampNeg = pos - 2 := nI_clamp (by omega)
      rw [sf_b, if_neg (by rw [e1]; exact cq)]
      simp only [sf_n, sf_g, f1, f2, f3, f4, g1, g2, g3, n1, n2, n3, if_true, dgO_v, dgT_v]
def zkt (K : Nat) : Int32 → Int32 → (Nat → Int32) → Option (Int32 × (Nat → Int32)) := fun y_13 y_14 z_15 => sf_n (y_14 + (-1 : Int32)) (fun x_16 => sf_g (sf_in (-y_13) 100 = true) (sf_g (sf_in x_16 K = true) (sf_n (upd z_15 x_16.toNatClampNeg (vp_nar .byte (dgO (-y_13).toNatClampNeg))) (fun a_18 => sf_b ((-9 : Int32) ≤ y_13) (some (x_16, a_18)) (sf_n (x_16 + (-1 : Int32)) (fun x_19 => sf_g (sf_in (-y_13) 100 = true) (sf_g (sf_in x_19 K = true) (sf_n (upd a_18 x_19.toNatClampNeg (vp_nar .byte (dgT (-y_13).toNatClampNeg))) (fun a_21 => some (x_19, a_21))))))))))
theorem gc_un {sv : Nat → Int32} {K : Nat} {p0 p1 : Int32} (e0 : 0 ≤ p0) : f_J6_getChars_ba4f3 sv K p0 p1 = f_J6_getChars_ba4f3_L22 K (zkt K) 2000 (-p0) p1 sv := by
  unfold zkt
  rw [f_J6_getChars_ba4f3, sf_b, if_pos e0, sf_n]
theorem sfc0_i {α : Type} {x : Option Unit} {k : Unit → Option α} {R : Option α} (h : x = some ()) (h2 : k () = R) : sf_c0 x k = R := by subst h; exact h2
theorem znd_1 {v : Nat} (h : v < 10) : znd v = 1 := by unfold znd; rw [if_pos h]
theorem by_ch : ∀ c, c < 128 → (((nI c &&& 255).toUInt32 % 65536).toInt32) = nI c ∧ ((nI c).toUInt32 % 65536).toInt32 = nI c := by decide +kernel
/-- the digits of a number -/
def dg (v : Nat) : List Nat := (List.range (znd v)).map (fun j => zdj v (znd v - 1 - j))
theorem dg_len (v : Nat) : (dg v).length = znd v := by rw [dg, List.length_map, List.length_range]
theorem gd_dg {v k : Nat} (h : k < znd v) : (dg v).getD k 0 = zdj v (znd v - 1 - k) := by
  rw [dg, List.getD_eq_getElem?_getD, List.getElem?_map, List.getElem?_range h]; rfl
theorem gd_app (l m : List Nat) (k : Nat) : (l ++ m).getD k 0 = if k < l.length then l.getD k 0 else m.getD (k - l.length) 0 := by
  rw [List.getD_eq_getElem?_getD, List.getD_eq_getElem?_getD, List.getD_eq_getElem?_getD, List.getElem?_append]
  split <;> rfl
/-- the row holds the text l, in K bytes -/
def GB (l : List Nat) (K : Nat) (sv : Nat → Int32) : Prop := (16 ≤ K ∧ K ≤ 286) ∧ l.length ≤ K ∧ (∀ k, k < K → (sv k).toInt8.toInt32 = sv k) ∧ (∀ k, k < l.length → sv k = nI (l.getD k 0) ∧ l.getD k 0 < 128)
theorem sbN_v {K L : Nat} (hK : K ≤ 286) (hL : L ≤ 286) : sbN K (nI L) = (if L ≤ K then K else (if 2 * K + 2 < L then L else 2 * K + 2)) := by
  have e : (nI L - Int32.ofNat K ≤ 0) = (L ≤ K) := by
    rw [nI_of0, il_0]
    exact nI_sle (by omega) (by omega)
  rw [sbN]
  by_cases c : L ≤ K
  · rw [if_pos c, if_pos (by rw [e]; exact c)]
  · rw [if_neg c, if_neg (by rw [e]; exact c), sbM, nI_clamp (by omega)]
theorem sbN_s {K L : Nat} (hK : 16 ≤ K ∧ K ≤ 286) (hL : L ≤ 142) : (16 ≤ sbN K (nI L) ∧ sbN K (nI L) ≤ 286) ∧ sbOk (sbN K (nI L)) = true ∧ L ≤ sbN K (nI L) ∧ K ≤ sbN K (nI L) := by
  rw [sbN_v hK.2 (by omega)]
  have h : ∀ n, n ≤ 286 → sbOk n = true := fun n hn => decide_eq_true hn
  by_cases c : L ≤ K
  · rw [if_pos c]; exact ⟨hK, h _ hK.2, c, Nat.le_refl _⟩
  · rw [if_neg c]
    by_cases d : 2 * K + 2 < L
    · rw [if_pos d]; exact ⟨by omega, h _ (by omega), Nat.le_refl _, by omega⟩
    · rw [if_neg d]; exact ⟨by omega, h _ (by omega), by omega, by omega⟩
theorem newCap {K L : Nat} (hK : K ≤ 286) (hL : L ≤ 286) (hl : K < L) : f_J5_newCapacity_0f7a4 K (nI L) = some (nI (if 2 * K + 2 < L then L else 2 * K + 2)) := by
  have e1 : nI L <<< ((0 : Int32) &&& 31) = nI L := by rw [sh0]; exact Int32.shiftLeft_zero
  have e2 : (2 : Int32) <<< ((0 : Int32) &&& 31) = nI 2 := by decide
  have e3 : ∀ n, nI n >>> ((0 : Int32) &&& 31) = nI n := fun n => by rw [sh0]; exact Int32.shiftRight_zero
  have e4 : nI K + nI 2 = nI (K + 2) := nI_add _ _
  have e5 : ∃ X, (if 2 * K + 2 < L then L else 2 * K + 2) = X ∧ K < X ∧ X ≤ 600 ∧ (if nI (L - K) < nI (K + 2) then nI (K + 2) else nI (L - K)) = nI (X - K) := by
    by_cases c : L - K < K + 2
    · refine ⟨2 * K + 2, by rw [if_neg (by omega)], by omega, by omega, ?_⟩
      rw [if_pos (by rw [nI_ltP (by omega) (by omega)]; exact c), show 2 * K + 2 - K = K + 2 by omega]
    · refine ⟨L, ?_, hl, by omega, ?_⟩
      · by_cases d : 2 * K + 2 < L
        · rw [if_pos d]
        · rw [if_neg d]; omega
      · rw [if_neg (by rw [nI_ltP (by omega) (by omega)]; exact c)]
  obtain ⟨X, x1, x2, x3, e5⟩ := e5
  have e6 : (nI X ≤ 0) = False := eq_false (by rw [il_0, nI_leP (by omega) (by omega)]; omega)
  have e7 : ((2147483639 : Int32) < nI X) = False := eq_false (by rw [show (2147483639 : Int32) = nI 2147483639 from rfl, nI_ltP (by omega) (by omega)]; omega)
  have e8 : (nI X = (2147483647 : Int32)) = False := eq_false (by rw [il_2147483647, nI_eqP (by omega) (by omega)]; omega)
  have e9 : K + (X - K) = X := by omega
  rw [x1]
  simp only [f_J5_newCapacity_0f7a4, f_J8_newLength_cabcc, sf_n, sf_c1, sf_b, nI_of0, e1, e2, nI_sub (Nat.le_of_lt hl), e4, e5, nI_add, e6, e7, e8, e3, e9, if_false]
theorem ensure_ok {l : List Nat} {K L' : Nat} {sv : Nat → Int32} (h : GB l K sv) (hL : l.length ≤ L') (hL' : L' ≤ 142) : ∃ sv', f_J5_ensure sv K (nI L') = some sv' ∧ GB l (sbN K (nI L')) sv' ∧ L' ≤ sbN K (nI L') := by
  obtain ⟨hK, h1, h2, h3⟩ := h
  have hs := sbN_s hK hL'
  have hv := sbN_v hK.2 (by omega : L' ≤ 286)
  have e : (nI L' - Int32.ofNat K ≤ 0) = (L' ≤ K) := by
    rw [nI_of0, il_0]
    exact nI_sle (by omega) (by omega)
  by_cases cc : L' ≤ K
  · rw [if_pos cc] at hv
    refine ⟨sv, ?_, ?_, ?_⟩
    · rw [f_J5_ensure, sf_b, if_pos (by rw [e]; exact cc)]
    · rw [hv]; exact ⟨hK, h1, h2, h3⟩
    · rw [hv]; exact cc
  · rw [if_neg cc] at hv
    have hM : sbM K (nI L') = (if 2 * K + 2 < L' then L' else 2 * K + 2) := by rw [sbM, nI_clamp (by omega)]
    have hX : ∃ X, (if 2 * K + 2 < L' then L' else 2 * K + 2) = X := ⟨_, rfl⟩
    obtain ⟨X, hX⟩ := hX
    rw [hX] at hv hM
    rw [hv] at hs
    obtain ⟨⟨b1, b2⟩, _, b3, b4⟩ := hs
    refine ⟨va_cpy sv (fun _ => 0) 0 0 K, ?_, ?_, ?_⟩
    · rw [f_J5_ensure, sf_b, if_neg (by rw [e]; exact cc)]
      refine sfc1_i (newCap hK.2 (by omega) (by omega)) ?_
      rw [hX, hM]
      have c1 : nI X = Int32.ofNat X ∧ (nI X).toNatClampNeg = X := ⟨rfl, nI_clamp (by omega)⟩
      refine sfg_i c1 ?_
      rw [f_J7_copyOf]
      refine sfg_i ⟨⟨?_, ?_, ?_, ?_, ?_, ?_, ?_⟩, h2⟩ rfl
      · rw [nI_of0, nI_eqP (by omega) (by omega)]; omega
      · rw [il_0, nI_ltP (by omega) (by omega)]; omega
      · rw [nI_of0, nI_ltP (by omega) (by omega)]; omega
      · rw [nI_of0, il_0, nI_ltP (by omega) (by omega)]; omega
      · rw [nI_of0]; exact nI_clamp (by omega)
      · rw [c1.2]; omega
      · rw [c1.2]; omega
    · rw [hv]
      refine ⟨⟨b1, b2⟩, by omega, fun k hk => ?_, fun k hk => ?_⟩
      · rw [va_cpy]
        split
        · rw [show 0 + (k - 0) = k by omega]; exact h2 k (by omega)
        · decide
      · rw [va_cpy, if_pos (by omega), show 0 + (k - 0) = k by omega]; exact h3 k hk
    · rw [hv]; exact b3
/-- a character more -/
theorem app_ch {l : List Nat} {K x : Nat} {sv : Nat → Int32} (h : GB l K sv) (hL : l.length + 1 ≤ 142) (hx : x < 128) : ∃ sv', f_J4_append_cf468 sv K (nI l.length) (nI x) = some (sv', nI (l.length + 1)) ∧ GB (l ++ [x]) (sbN K (nI (l.length + 1))) sv' := by
  have hLK := h.2.1
  obtain ⟨s1, e1, ⟨k1, k2, k3, k4⟩, k5⟩ := ensure_ok h (show l.length ≤ l.length + 1 from Nat.le_succ _) hL
  have e2 : nI l.length + 1 = nI (l.length + 1) := nI_1 _
  have e3 : f_J1_canEncode_fc78d (nI x) = some 1 := by
    rw [f_J1_canEncode_fc78d, sf_b, if_neg (by rw [show (255 : Int32) = nI 255 from rfl, nI_ltP (by omega) (by omega)]; omega)]
  have e4 : (sf_in (nI l.length) (sbN K (nI (l.length + 1))) = true) = True := nI_inT (by omega) (by omega)
  have e5 : vp_nar .byte (nI x).toInt8.toInt32 = nI x := by rw [by_small x hx, nb_small hx]
  have e6 : ((1 : Int32) = 0) = False := eq_false (by decide)
  refine ⟨upd s1 l.length (nI x), ?_, k1, by rw [List.length_append]; exact k5, fun k hk => ?_, fun k hk => ?_⟩
  · simp only [f_J4_append_cf468, f_J5_append_3fe6f, f_J5_isLatin1_aae02, sf_c1, sf_c2, sf_b, sf_n, sf_g, e2, e1, e3, e4, e6, if_false, if_true, e5, nI_clamp (show l.length < 2 ^ 31 by omega)]
  · by_cases z : k = l.length
    · rw [upd_eqP z]; exact by_small x hx
    · rw [upd_neP z]; exact k3 k hk
  · rw [List.length_append, List.length_singleton] at hk
    rw [gd_app]
    by_cases z : k = l.length
    · rw [upd_eqP z, if_neg (by omega), show k - l.length = 0 by omega]; exact ⟨rfl, hx⟩
    · rw [upd_neP z, if_pos (by omega)]; exact k4 k (by omega)
theorem gc_ok {l : List Nat} {v K : Nat} {sv : Nat → Int32} (h : GB l K sv) (hv : v < 10000000) (hK : l.length + znd v ≤ K) : ∃ r sv', f_J6_getChars_ba4f3 sv K (nI v) (nI (l.length + znd v)) = some (r, sv') ∧ GB (l ++ dg v) K sv' := by
  obtain ⟨L, hLl⟩ : ∃ L, l.length = L := ⟨_, rfl⟩
  obtain ⟨c, hcl⟩ : ∃ c : Nat → Nat, (fun k => l.getD k 0) = c := ⟨_, rfl⟩
  obtain ⟨k1, k2, k3, k4⟩ := h
  have hK2 : K ≤ 286 := k1.2
  have k4 : ∀ k, k < L → sv k = nI (c k) ∧ c k < 128 := by rw [← hLl, ← hcl]; exact k4
  rw [hLl] at hK k2 ⊢
  have hz := znd_pos v
  have hw0 : WD c L v K (L + znd v) sv := ⟨k3, k4, fun k h1 h2 => by omega⟩
  have hfin : ∀ w, WD c L v K L w → GB (l ++ dg v) K w := fun w ⟨x1, x2, x3⟩ => by
    refine ⟨k1, by rw [List.length_append, dg_len, hLl]; exact hK, x1, fun k hk => ?_⟩
    rw [List.length_append, dg_len, hLl] at hk
    rw [gd_app, hLl]
    by_cases z : k < L
    · rw [if_pos z]
      have h9 := x2 k z
      rw [← hcl] at h9
      exact h9
    · rw [if_neg z, gd_dg (by omega), show znd v - 1 - (k - L) = L + znd v - 1 - k by omega]; exact ⟨x3 k (by omega) hk, zdj_lt _ _⟩
  obtain ⟨q, pos, w, i1, i2, i3, i4, i5, i6⟩ := gc_loop (c := c) (L := L) (K := K) hv hK hK2 (k := zkt K) 2000 v (L + znd v) sv (by omega) rfl (by rw [Nat.sub_self, Nat.pow_zero, Nat.div_one]) (Nat.le_refl _) hw0
  have hzq := znd_pos q
  have e0 : (0 : Int32) ≤ nI v := nI_pos' (by omega)
  have hq1 : 48 + q % 10 = zdj v (L + znd v - 1 - (pos - 1)) := by
    rw [zdj, show L + znd v - 1 - (pos - 1) = L + znd v - pos by omega, ← i3]
  have w1 : WD c L v K (pos - 1) (upd w (pos - 1) (vp_nar .byte (nI (48 + q % 10)))) := WD_s (by rw [show pos - 1 + 1 = pos by omega]; exact i5) (by omega) (by omega) hq1
  have f3 : nI pos + (-1 : Int32) = nI (pos - 1) := by rw [show (-1 : Int32) = -nI 1 from rfl, nI_addneg (by omega)]
  have nn : -(-nI q) = nI q := Int32.neg_neg
  have g1 : (sf_in (nI q) 100 = true) = True := nI_inT (by omega) (by omega)
  have g2 : (sf_in (nI (pos - 1)) K = true) = True := nI_inT (by omega) (by omega)
  have n1 : (nI q).toNatClampNeg = q := nI_clamp (by omega)
  have n2 : (nI (pos - 1)).toNatClampNeg = pos - 1 := nI_clamp (by omega)
  have e9 : ((-9 : Int32) ≤ -nI q) = (q ≤ 9) := by rw [show (-9 : Int32) = -nI 9 from rfl, nI_nNle (by omega) (by omega)]
  rw [gc_un e0, i6]
  simp only [zkt, sf_n, sf_g, f3, nn, g1, g2, n1, n2, if_true, dgO_v, dgT_v, sf_b, e9]
  by_cases c9 : q ≤ 9
  · have : znd q = 1 := by unfold znd; rw [if_pos (by omega)]
    rw [if_pos c9]
    refine ⟨_, _, rfl, hfin _ ?_⟩
    have e2 : pos - 1 = L := by omega
    rw [e2] at w1 ⊢
    exact w1
  · have hz2 : znd q = 2 := by unfold znd; rw [if_neg (by omega), if_pos (by omega)]
    have hpw : v / 10 ^ (L + znd v - pos + 1) = q / 10 := by
      rw [Nat.pow_succ, ← Nat.div_div_eq_div_mul, ← i3]
    have hq2 : 48 + q / 10 = zdj v (L + znd v - 1 - (pos - 2)) := by
      rw [zdj, show L + znd v - 1 - (pos - 2) = L + znd v - pos + 1 by omega, hpw]
      omega
    have w2 : WD c L v K (pos - 2) (upd (upd w (pos - 1) (vp_nar .byte (nI (48 + q % 10)))) (pos - 2) (vp_nar .byte (nI (48 + q / 10)))) := WD_s (by rw [show pos - 2 + 1 = pos - 1 by omega]; exact w1) (by omega) (by omega) hq2
    have f4 : nI (pos - 1) + (-1 : Int32) = nI (pos - 2) := by rw [show (-1 : Int32) = -nI 1 from rfl, nI_addneg (by omega), show pos - 1 - 1 = pos - 2 by omega]
    have g3 : (sf_in (nI (pos - 2)) K = true) = True := nI_inT (by omega) (by omega)
    have n3 : (nI (pos - 2)).toNatClampNeg = pos - 2 := nI_clamp (by omega)
    rw [if_neg c9]
    simp only [f4, g3, n3, if_true]
    refine ⟨_, _, rfl, hfin _ ?_⟩
    have e2 : pos - 2 = L := by omega
    rw [e2] at w2 ⊢
    exact w2
/-- a number behind the text -/
theorem app_nr {l : List Nat} {K v : Nat} {sv : Nat → Int32} (h : GB l K sv) (hL : l.length + 8 ≤ 142) (hv : v < 10000000) : ∃ sv', f_J4_append_bf812 sv K (nI l.length) (nI v) = some (sv', nI (l.length + znd v)) ∧ GB (l ++ dg v) (sbN K (nI (l.length + znd v))) sv' := by
  have hz := znd_pos v
  have hLK := h.2.1
  obtain ⟨s1, e1, k1, k2⟩ := ensure_ok h (L' := l.length + znd v) (by omega) (by omega)
  obtain ⟨r, sv', g1, g2⟩ := gc_ok k1 hv k2
  have ess := ss_ok hv
  have e6 : ((1 : Int32) = 0) = False := eq_false (by decide)
  refine ⟨sv', ?_, g2⟩
  simp only [f_J4_append_bf812, f_J5_append_c97b9, f_J5_isLatin1_aae02, ess, sf_c1, sf_c2, sf_b, sf_n, Option.getD_some, nI_add, e1, e6, if_false, g1]
/-! texts made at run time -/
def TS (t : List Nat) (tK : Nat) (tv : Nat → Int32) : Prop := tK = t.length ∧ t.length ≤ 142 ∧ ∀ k, k < t.length → tv k = nI (t.getD k 0) ∧ t.getD k 0 < 128
theorem GB_0 : GB [] 16 (fun _ => 0) := ⟨⟨by omega, by omega⟩, Nat.zero_le _, fun _ _ => (by decide : (0 : Int32).toInt8.toInt32 = 0), fun k hk => absurd hk (Nat.not_lt_zero k)⟩
/-- a copied piece behind the text -/
theorem GB_cpy {l t : List Nat} {K : Nat} {sv tv : Nat → Int32} (h : GB l K sv) (hl : l.length + t.length ≤ K) (ht : ∀ k, k < t.length → tv k = nI (t.getD k 0) ∧ t.getD k 0 < 128) : GB (l ++ t) K (va_cpy tv sv 0 l.length t.length) := by
  obtain ⟨k1, k2, k3, k4⟩ := h
  refine ⟨k1, by rw [List.length_append]; exact hl, fun k hk => ?_, fun k hk => ?_⟩
  · rw [va_cpy]
    by_cases c : l.length ≤ k ∧ k < l.length + t.length
    · rw [if_pos c, show 0 + (k - l.length) = k - l.length by omega]
      obtain ⟨e1, e2⟩ := ht (k - l.length) (by omega)
      rw [e1]; exact by_small _ e2
    · rw [if_neg c]; exact k3 k hk
  · rw [List.length_append] at hk
    rw [va_cpy, gd_app]
    by_cases c : k < l.length
    · rw [if_neg (by omega), if_pos c]; exact k4 k c
    · rw [if_pos (by omega), if_neg c, show 0 + (k - l.length) = k - l.length by omega]; exact ht (k - l.length) (by omega)
theorem len_r (tK : Nat) : f_J0_length_8abf5_r tK = some (nI tK) := by
  rw [f_J0_length_8abf5_r]
  refine sfc1_i (a := 0) (by rw [f_J0_coder_7d493_r]; exact sfg_i (by decide) rfl) ?_
  rw [sh0, Int32.shiftRight_zero]; rfl
theorem len_s (i : Nat) : f_J0_length_8abf5 i = some (strLen i) := by
  rw [f_J0_length_8abf5]
  refine sfc1_i (a := 0) (by rw [f_J0_coder_7d493]; exact sfg_i (by decide) rfl) ?_
  rw [sh0, Int32.shiftRight_zero]
theorem cp_arg {x : Int32} : x <<< ((0 : Int32) &&& 31) = x := by rw [sh0]; exact Int32.shiftLeft_zero
theorem nn_0 {n : Nat} (h : n < 2 ^ 31) : ¬ nI n < (0 : Int32) := by rw [il_0, nI_ltP h (by omega)]; omega
theorem gr_app {l t : List Nat} {K tK : Nat} {sv tv : Nat → Int32} (h : GB l K sv) (ht : TS t tK tv) (hL : l.length + t.length ≤ 142) : ∃ sv' L', L' = l.length + t.length ∧ f_J4_append_15ec4_r sv K (nI l.length) tv tK = some (sv', sbN K (nI L'), nI L') ∧ GB (l ++ t) (sbN K (nI L')) sv' := by
  obtain ⟨rfl, t1, t2⟩ := ht
  obtain ⟨s1, e1, k1, k2⟩ := ensure_ok h (L' := l.length + t.length) (by omega) hL
  have hs := sbN_s h.1 hL
  have hcl : (nI l.length).toNatClampNeg = l.length := nI_clamp (by omega)
  have hct : (nI t.length).toNatClampNeg = t.length := nI_clamp (by omega)
  have h00 : (0 : Int32).toNatClampNeg = 0 := by decide
  have hput : f_J5_putStringAt_47b60_r s1 (sbN K (nI (l.length + t.length))) tv t.length (nI l.length) = some (va_cpy tv s1 0 l.length t.length) := by
    rw [f_J5_putStringAt_47b60_r]
    have hc : f_J0_coder_7d493_r = some 0 := by rw [f_J0_coder_7d493_r]; exact sfg_i (by decide) rfl
    refine sfc0_i (by rw [f_J5_inflateIfNeededFor_a7421_r]; exact sfc1_i hc (sfb_t rfl rfl)) ?_
    refine sfc1_i (a := va_cpy tv s1 0 l.length t.length) ?_ rfl
    rw [f_J0_getBytes_840e7_r]
    refine sfc1_i hc (sfb_t rfl ?_)
    rw [cp_arg, nI_of0, hcl, hct, h00]
    refine sfg_i ⟨⟨⟨by decide, nn_0 (by omega), nn_0 (by omega)⟩, by omega, by omega⟩, fun i hi => ?_⟩ rfl
    obtain ⟨x1, x2⟩ := t2 i hi
    rw [Nat.zero_add, x1]; exact by_small _ x2
  refine ⟨_, _, rfl, ?_, GB_cpy k1 (by omega) t2⟩
  rw [f_J4_append_15ec4_r]
  refine sfc3_i (a := va_cpy tv s1 0 l.length t.length) (b := sbN K (nI (l.length + t.length))) (c := nI (l.length + t.length)) ?_ rfl
  rw [f_J5_append_cf1ce_r]
  refine sfc1_i (len_r _) ?_
  rw [nI_add]
  exact sfn_r rfl (sfg_i hs.2.1 (sfc1_i e1 (sfc1_i hput (sfn_r rfl rfl))))
/-- a constant's characters -/
def CS (i : Nat) (t : List Nat) : Prop := strLen i = nI t.length ∧ cwL.getD i 0 = t.length ∧ ∀ k, k < t.length → strCh i k = nI (t.getD k 0) ∧ t.getD k 0 < 128
theorem gs_app {l t : List Nat} {K i : Nat} {sv : Nat → Int32} (h : GB l K sv) (ht : CS i t) (hL : l.length + t.length ≤ 142) : ∃ sv' L', L' = l.length + t.length ∧ f_J4_append_15ec4_s sv K (nI l.length) i = some (sv', sbN K (nI L'), nI L') ∧ GB (l ++ t) (sbN K (nI L')) sv' := by
  obtain ⟨t0, t1, t2⟩ := ht
  obtain ⟨s1, e1, k1, k2⟩ := ensure_ok h (L' := l.length + t.length) (by omega) hL
  have hs := sbN_s h.1 hL
  have hcl : (nI l.length).toNatClampNeg = l.length := nI_clamp (by omega)
  have hct : (nI t.length).toNatClampNeg = t.length := nI_clamp (by omega)
  have h00 : (0 : Int32).toNatClampNeg = 0 := by decide
  have hput : f_J5_putStringAt_47b60_s s1 (sbN K (nI (l.length + t.length))) (nI l.length) i = some (va_cpy (strCh i) s1 0 l.length t.length) := by
    rw [f_J5_putStringAt_47b60_s]
    have hc : f_J0_coder_7d493 i = some 0 := by rw [f_J0_coder_7d493]; exact sfg_i (by decide) rfl
    refine sfc0_i (by rw [f_J5_inflateIfNeededFor_a7421_s]; exact sfc1_i hc (sfb_t rfl rfl)) ?_
    refine sfc1_i (a := va_cpy (strCh i) s1 0 l.length t.length) ?_ rfl
    rw [f_J0_getBytes_840e7_s]
    refine sfc1_i hc (sfb_t rfl ?_)
    rw [cp_arg, t0, t1, hcl, hct, h00]
    refine sfg_i ⟨⟨⟨by decide, nn_0 (by omega), nn_0 (by omega)⟩, by omega, by omega⟩, fun j hj => ?_⟩ rfl
    obtain ⟨x1, x2⟩ := t2 j hj
    rw [Nat.zero_add, x1]; exact by_small _ x2
  refine ⟨_, _, rfl, ?_, GB_cpy k1 (by omega) t2⟩
  rw [f_J4_append_15ec4_s]
  refine sfc3_i (a := va_cpy (strCh i) s1 0 l.length t.length) (b := sbN K (nI (l.length + t.length))) (c := nI (l.length + t.length)) ?_ rfl
  rw [f_J5_append_cf1ce_s]
  refine sfc1_i (len_s _) ?_
  rw [t0, nI_add]
  exact sfn_r rfl (sfg_i hs.2.1 (sfc1_i e1 (sfc1_i hput (sfn_r rfl rfl))))
theorem to_str {l : List Nat} {K : Nat} {sv : Nat → Int32} (h : GB l K sv) (hL : l.length ≤ 142) : ∃ tv, f_J4_toString sv K (nI l.length) = some (l.length, tv) ∧ TS l l.length tv ∧ sbOk l.length = true := by
  obtain ⟨k1, k2, k3, k4⟩ := h
  have hcl : (nI l.length).toNatClampNeg = l.length := nI_clamp (by omega)
  refine ⟨va_cpy sv (fun _ => 0) 0 0 l.length, ?_, ⟨rfl, hL, fun k hk => ?_⟩, decide_eq_true (by omega)⟩
  · rw [f_J4_toString]
    refine sfg_i ⟨⟨nn_0 (by omega), by rw [il_0, nI_leP (by omega) (by omega)]; omega, ?_, by rw [hcl]; exact k2, by rw [hcl]; omega, fun e => ?_⟩, k3⟩ (by rw [hcl])
    · rw [nI_of0]
      by_cases c : l.length < K
      · rw [if_pos (by rw [nI_ltP (by omega) (by omega)]; exact c)]
      · rw [if_neg (by rw [nI_ltP (by omega) (by omega)]; exact c), show K = l.length by omega]
    · rw [nI_of0, nI_eqP (by omega) (by omega)] at e
      rw [hcl]; exact e
  · rw [va_cpy, if_pos (by omega), show 0 + (k - 0) = k by omega]; exact k4 k hk
theorem cs_ok : ∀ i, i < 16 → CS i (((cwB.getD i []).map Int32.toNatClampNeg)) := by
  intro i hi
  have h : ((List.range 16).all fun i => decide (strLen i = nI (((cwB.getD i []).map Int32.toNatClampNeg)).length) && decide (cwL.getD i 0 = (((cwB.getD i []).map Int32.toNatClampNeg)).length) && (List.range 16).all fun k => decide (k < (((cwB.getD i []).map Int32.toNatClampNeg)).length → strCh i k = nI ((((cwB.getD i []).map Int32.toNatClampNeg)).getD k 0) ∧ (((cwB.getD i []).map Int32.toNatClampNeg)).getD k 0 < 128)) = true := by decide +kernel
  have h1 := List.all_eq_true.mp h i (List.mem_range.mpr hi)
  rw [Bool.and_eq_true, Bool.and_eq_true] at h1
  obtain ⟨⟨h2, h3⟩, h4⟩ := h1
  refine ⟨of_decide_eq_true h2, of_decide_eq_true h3, fun k hk => ?_⟩
  have hk16 : k < 16 := by
    have h5 : ((List.range 16).all fun i => decide ((((cwB.getD i []).map Int32.toNatClampNeg)).length ≤ 16)) = true := by decide +kernel
    have h6 := of_decide_eq_true (List.all_eq_true.mp h5 i (List.mem_range.mpr hi))
    omega
  exact of_decide_eq_true (List.all_eq_true.mp h4 k (List.mem_range.mpr hk16)) hk
