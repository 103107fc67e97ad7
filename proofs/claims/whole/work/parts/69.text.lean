/-! the output: a row of bytes that grows, and the model's row of characters -/
theorem nI_of0 (n : Nat) : Int32.ofNat n = nI n := rfl
theorem nI_sle {a b : Nat} (ha : a < 2 ^ 31) (hb : b < 2 ^ 31) : (nI a - nI b ≤ nI 0) = (a ≤ b) := by
  rw [Int32.le_iff_toInt_le, nI_stoInt ha hb, nI_toInt (by omega)]
  exact propext ⟨fun _ => by omega, fun _ => by omega⟩
theorem by_small : ∀ c, c < 128 → (nI c).toInt8.toInt32 = nI c := by decide +kernel
theorem ch_small : ∀ c, c < 128 → vp_nar .char (nI c) = nI c := by decide +kernel
theorem nb_small {c : Nat} (h : c < 128) : vp_nar .byte (nI c) = nI c := by rw [vp_nar_byte]; exact by_small c h
def zK (K : Nat) : Prop := K = 16 ∨ K = 34 ∨ K = 70 ∨ K = 142 ∨ K = 286
/-- the class's bytes -/
def WB (c : Nat → Nat) (L K : Nat) (sv : Nat → Int32) : Prop := zK K ∧ L ≤ K ∧ (∀ k, k < K → (sv k).toInt8.toInt32 = sv k) ∧ (∀ k, k < L → sv k = nI (c k) ∧ c k < 128)
/-- the model's characters -/
def WM (c : Nat → Nat) (L : Nat) (mo : Nat → Int32) : Prop := ∀ k, k < L → mo k = nI (c k) ∧ c k < 128
theorem sbN_v {K L : Nat} (hK : zK K) (hL : L ≤ 286) : sbN K (nI L) = (if L ≤ K then K else 2 * K + 2) := by
  have e : (nI L - Int32.ofNat K ≤ 0) = (L ≤ K) := by
    rw [nI_of0, il_0]
    exact nI_sle (by omega) (by rcases hK with h | h | h | h | h <;> omega)
  rw [sbN]
  by_cases c : L ≤ K
  · rw [if_pos c, if_pos (by rw [e]; exact c)]
  · rw [if_neg c, if_neg (by rw [e]; exact c)]
theorem sbN_s {K L : Nat} (hK : zK K) (hL : L ≤ 142) : zK (sbN K (nI L)) ∧ sbStep K (sbN K (nI L)) = true ∧ (L ≤ 2 * K + 2 → L ≤ sbN K (nI L)) ∧ sbN K (nI L) ≤ 286 ∧ K ≤ sbN K (nI L) := by
  rw [sbN_v hK (by omega)]
  rcases hK with h | h | h | h | h <;> subst h
  · by_cases c : L ≤ 16
    · rw [if_pos c]; exact ⟨Or.inl rfl, rfl, fun _ => c, by omega, by omega⟩
    · rw [if_neg c]; exact ⟨Or.inr (Or.inl rfl), rfl, fun _ => by omega, by omega, by omega⟩
  · by_cases c : L ≤ 34
    · rw [if_pos c]; exact ⟨Or.inr (Or.inl rfl), rfl, fun _ => c, by omega, by omega⟩
    · rw [if_neg c]; exact ⟨Or.inr (Or.inr (Or.inl rfl)), rfl, fun _ => by omega, by omega, by omega⟩
  · by_cases c : L ≤ 70
    · rw [if_pos c]; exact ⟨Or.inr (Or.inr (Or.inl rfl)), rfl, fun _ => c, by omega, by omega⟩
    · rw [if_neg c]; exact ⟨Or.inr (Or.inr (Or.inr (Or.inl rfl))), rfl, fun _ => by omega, by omega, by omega⟩
  · rw [if_pos hL]; exact ⟨Or.inr (Or.inr (Or.inr (Or.inl rfl))), rfl, fun _ => hL, by omega, by omega⟩
  · rw [if_pos (by omega)]; exact ⟨Or.inr (Or.inr (Or.inr (Or.inr rfl))), rfl, fun _ => by omega, by omega, by omega⟩
theorem sh0 : ((0 : Int32) &&& 31) = 0 := by decide
theorem newCap {K L : Nat} (hK : K ≤ 286) (hL : L ≤ 2 * K + 2) (hl : K < L) : f_J5_newCapacity_0f7a4 K (nI L) = some (nI (2 * K + 2)) := by
  have e1 : nI L <<< ((0 : Int32) &&& 31) = nI L := by rw [sh0]; exact Int32.shiftLeft_zero
  have e2 : (2 : Int32) <<< ((0 : Int32) &&& 31) = nI 2 := by decide
  have e3 : ∀ n, nI n >>> ((0 : Int32) &&& 31) = nI n := fun n => by rw [sh0]; exact Int32.shiftRight_zero
  have e4 : nI K + nI 2 = nI (K + 2) := nI_add _ _
  have e5 : (if nI (L - K) < nI (K + 2) then nI (K + 2) else nI (L - K)) = nI (K + 2) := by
    by_cases c : L - K < K + 2
    · rw [if_pos (by rw [nI_ltP (by omega) (by omega)]; exact c)]
    · rw [if_neg (by rw [nI_ltP (by omega) (by omega)]; exact c), show L - K = K + 2 by omega]
  have e6 : (nI (2 * K + 2) ≤ 0) = False := eq_false (by rw [il_0, nI_leP (by omega) (by omega)]; omega)
  have e7 : ((2147483639 : Int32) < nI (2 * K + 2)) = False := eq_false (by rw [show (2147483639 : Int32) = nI 2147483639 from rfl, nI_ltP (by omega) (by omega)]; omega)
  have e8 : (nI (2 * K + 2) = (2147483647 : Int32)) = False := eq_false (by rw [il_2147483647, nI_eqP (by omega) (by omega)]; omega)
  have e9 : K + (K + 2) = 2 * K + 2 := by omega
  simp only [f_J5_newCapacity_0f7a4, f_J8_newLength_cabcc, sf_n, sf_c1, sf_b, nI_of0, e1, e2, nI_sub (Nat.le_of_lt hl), e4, e5, nI_add, e6, e7, e8, e3, e9, if_false]
theorem ensure_ok {c : Nat → Nat} {L K L' : Nat} {sv : Nat → Int32} (h : WB c L K sv) (hL : L ≤ L') (hL' : L' ≤ 142) (hL2 : L' ≤ K + 8) : ∃ sv', f_J5_ensure sv K (nI L') = some sv' ∧ WB c L (sbN K (nI L')) sv' ∧ L' ≤ sbN K (nI L') := by
  obtain ⟨hK, h1, h2, h3⟩ := h
  have hs := sbN_s hK hL'
  have hv := sbN_v hK (by omega : L' ≤ 286)
  have hK6 : 16 ≤ K ∧ K ≤ 286 := by rcases hK with h | h | h | h | h <;> omega
  have e : (nI L' - Int32.ofNat K ≤ 0) = (L' ≤ K) := by
    rw [nI_of0, il_0]
    exact nI_sle (by omega) (by omega)
  by_cases cc : L' ≤ K
  · rw [if_pos cc] at hv
    refine ⟨sv, ?_, ?_, ?_⟩
    · rw [f_J5_ensure, sf_b, if_pos (by rw [e]; exact cc)]
    · rw [hv]; exact ⟨hK, h1, h2, h3⟩
    · rw [hv]; exact cc
  · rw [if_neg cc] at hv
    refine ⟨va_cpy sv (fun _ => 0) 0 0 K, ?_, ?_, ?_⟩
    · rw [f_J5_ensure, sf_b, if_neg (by rw [e]; exact cc), newCap hK6.2 (by omega) (by omega)]
      have c1 : nI (2 * K + 2) = Int32.ofNat (2 * K + 2) ∧ (nI (2 * K + 2)).toNatClampNeg = 2 * K + 2 := ⟨rfl, nI_clamp (by omega)⟩
      show sf_g (nI (2 * K + 2) = Int32.ofNat (2 * K + 2) ∧ (nI (2 * K + 2)).toNatClampNeg = 2 * K + 2) (f_J7_copyOf sv K (nI (2 * K + 2))) = _
      rw [sf_g, if_pos c1, f_J7_copyOf, sf_g, if_pos]
      refine ⟨⟨?_, ?_, ?_, ?_, ?_, ?_, ?_⟩, h2⟩
      · rw [nI_of0, nI_eqP (by omega) (by omega)]; omega
      · rw [il_0, nI_ltP (by omega) (by omega)]; omega
      · rw [nI_of0, nI_ltP (by omega) (by omega)]; omega
      · rw [nI_of0, il_0, nI_ltP (by omega) (by omega)]; omega
      · rw [nI_of0]; exact nI_clamp (by omega)
      · rw [c1.2]; omega
      · rw [c1.2]; omega
    · rw [hv] at hs ⊢
      refine ⟨hs.1, by omega, fun k hk => ?_, fun k hk => ?_⟩
      · rw [va_cpy]
        split
        · rw [show 0 + (k - 0) = k by omega]; exact h2 k (by omega)
        · decide
      · rw [va_cpy, if_pos (by omega), show 0 + (k - 0) = k by omega]; exact h3 k hk
    · rw [hv]; omega
/-- a character more -/
theorem app_ch {c : Nat → Nat} {L K x : Nat} {sv : Nat → Int32} (h : WB c L K sv) (hL : L + 1 ≤ 142) (hx : x < 128) : ∃ sv', f_J4_append_cf468 sv K (nI L) (nI x) = some (sv', nI (L + 1)) ∧ WB (zu c L x) (L + 1) (sbN K (nI (L + 1))) sv' := by
  have hLK := h.2.1
  obtain ⟨s1, e1, ⟨k1, k2, k3, k4⟩, k5⟩ := ensure_ok h (Nat.le_succ L) hL (by omega)
  have hs := sbN_s h.1 hL
  have e2 : nI L + 1 = nI (L + 1) := nI_1 L
  have e3 : f_J1_canEncode_fc78d (nI x) = some 1 := by
    rw [f_J1_canEncode_fc78d, sf_b, if_neg (by rw [show (255 : Int32) = nI 255 from rfl, nI_ltP (by omega) (by omega)]; omega)]
  have e4 : (sf_in (nI L) (sbN K (nI (L + 1))) = true) = True := nI_inT (by omega) (by omega)
  have e5 : vp_nar .byte (nI x).toInt8.toInt32 = nI x := by rw [by_small x hx, nb_small hx]
  have e6 : ((1 : Int32) = 0) = False := eq_false (by decide)
  refine ⟨upd s1 L (nI x), ?_, k1, k5, fun k hk => ?_, fun k hk => ?_⟩
  · simp only [f_J4_append_cf468, f_J5_append_3fe6f, f_J5_isLatin1_aae02, sf_c1, sf_c2, sf_b, sf_n, sf_g, e2, e1, e3, e4, e6, if_false, if_true, e5, nI_clamp (show L < 2 ^ 31 by omega)]
  · by_cases z : k = L
    · rw [upd_eqP z]; exact by_small x hx
    · rw [upd_neP z]; exact k3 k hk
  · by_cases z : k = L
    · rw [upd_eqP z, zu_eq z]; exact ⟨rfl, hx⟩
    · rw [upd_neP z, zu_ne z]; exact k4 k (by omega)
theorem says_ch {c : Nat → Nat} {L x : Nat} {mo : Nat → Int32} (h : WM c L mo) (hL : L < 180) (hx : x < 128) : f_X12_says mo (nI L) (nI x) = some (upd mo L (nI x), nI (L + 1)) ∧ WM (zu c L x) (L + 1) (upd mo L (nI x)) := by
  refine ⟨?_, fun k hk => ?_⟩
  · have e4 : (sf_in (nI L) 180 = true) = True := nI_inT (by omega) (by omega)
    simp only [f_X12_says, sf_g, sf_n, e4, if_true, ch_small x hx, nI_clamp (show L < 2 ^ 31 by omega), il_1, nI_add]
  · by_cases z : k = L
    · rw [upd_eqP z, zu_eq z]; exact ⟨rfl, hx⟩
    · rw [upd_neP z, zu_ne z]; exact h k (by omega)
/-! numbers in decimal -/
def znd (v : Nat) : Nat := if v < 10 then 1 else if v < 100 then 2 else if v < 1000 then 3 else if v < 10000 then 4 else if v < 100000 then 5 else if v < 1000000 then 6 else 7
theorem znd_pos (v : Nat) : 1 ≤ znd v ∧ znd v ≤ 7 := by
  unfold znd
  repeat' split
  all_goals omega
theorem znd_10 {v : Nat} (h : 10 ≤ v) (h2 : v < 10000000) : znd v = znd (v / 10) + 1 := by
  unfold znd
  repeat' split
  all_goals omega
theorem znd_100 {v : Nat} (h : 100 ≤ v) (h2 : v < 10000000) : znd v = znd (v / 100) + 2 := by
  unfold znd
  repeat' split
  all_goals omega
/-- the j-th digit from the right -/
def zdj (v j : Nat) : Nat := 48 + v / 10 ^ j % 10
theorem zdj_lt (v j : Nat) : zdj v j < 128 := by unfold zdj; omega
theorem zdj_s (v j : Nat) : zdj v (j + 1) = zdj (v / 10) j := by
  unfold zdj
  rw [Nat.pow_succ, Nat.mul_comm, ← Nat.div_div_eq_div_mul]
theorem zdj_0 (v : Nat) : zdj v 0 = 48 + v % 10 := by unfold zdj; rw [Nat.pow_zero, Nat.div_one]
/-- the text with a number behind place L -/
def zwn (c : Nat → Nat) (L v : Nat) : Nat → Nat := fun i => if i < L then c i else zdj v (L + znd v - 1 - i)
theorem dig_ch {v : Nat} (hv : v < 2 ^ 31) : (((48 : Int32) + (nI v - nI v / 10 * 10)).toUInt32 % 65536).toInt32 = nI (48 + v % 10) := by
  have e1 : nI v - nI v / 10 * 10 = nI (v % 10) := by
    rw [il_10, nI_div hv (by omega) (by omega), nI_mul, nI_sub (Nat.div_mul_le_self v 10)]
    congr 1
    have := Nat.mod_add_div v 10
    omega
  have e2 : ∀ d, d < 10 → (((48 : Int32) + nI d).toUInt32 % 65536).toInt32 = nI (48 + d) := by decide +kernel
  rw [e1]
  exact e2 _ (Nat.mod_lt _ (by omega))
theorem says_1 {c : Nat → Nat} {L v : Nat} {mo : Nat → Int32} (h : WM c L mo) (hL : L < 180) (hv : v < 10) : ∃ mo', f_X12_says mo (nI L) ((((48 : Int32) + (nI v - nI v / 10 * 10)).toUInt32 % 65536).toInt32) = some (mo', nI (L + znd v)) ∧ WM (zwn c L v) (L + znd v) mo' := by
  have e : znd v = 1 := by unfold znd; rw [if_pos hv]
  have h1 := says_ch h hL (x := 48 + v % 10) (by omega)
  rw [dig_ch (by omega), h1.1, e]
  refine ⟨_, rfl, fun k hk => ?_⟩
  have h2 := h1.2 k hk
  have e2 : zwn c L v k = zu c L (48 + v % 10) k := by
    rw [zwn, e]
    by_cases z : k = L
    · rw [if_neg (by omega), zu_eq z, z, show L + 1 - 1 - L = 0 by omega, zdj_0]
    · rw [if_pos (by omega), zu_ne z]
  rw [e2]
  exact h2
theorem says_s {f : (Nat → Int32) → Int32 → Int32 → Option ((Nat → Int32) × Int32)} {b : Nat} (hb : b ≤ 1000000) (hf : ∀ {c : Nat → Nat} {L v : Nat} {mo : Nat → Int32}, WM c L mo → L + 8 ≤ 180 → v < b → ∃ mo', f mo (nI L) (nI v) = some (mo', nI (L + znd v)) ∧ WM (zwn c L v) (L + znd v) mo') {c : Nat → Nat} {L v : Nat} {mo : Nat → Int32} (h : WM c L mo) (hL : L + 8 ≤ 180) (hv : v < 10 * b) : ∃ mo', sf_b (nI v ≤ 9) (sf_c2 (f_X12_says mo (nI L) ((((48 : Int32) + (nI v - nI v / 10 * 10)).toUInt32 % 65536).toInt32)) (fun a_1 x_2 => some (a_1, x_2))) (sf_c2 (f mo (nI L) (nI v / 10)) (fun a_3 x_4 => sf_c2 (f_X12_says a_3 x_4 ((((48 : Int32) + (nI v - nI v / 10 * 10)).toUInt32 % 65536).toInt32)) (fun a_5 x_6 => some (a_5, x_6)))) = some (mo', nI (L + znd v)) ∧ WM (zwn c L v) (L + znd v) mo' := by
  by_cases z : v < 10
  · obtain ⟨mo', h1, h2⟩ := says_1 h (by omega) z
    refine ⟨mo', ?_, h2⟩
    rw [sf_b, if_pos (by rw [il_9, nI_leP (by omega) (by omega)]; omega), h1]
    rfl
  · obtain ⟨m1, g1, g2⟩ := hf h hL (v := v / 10) (by omega)
    have hn := znd_10 (v := v) (by omega) (by omega)
    have hp := znd_pos (v / 10)
    have h1 := says_ch g2 (by have := znd_pos v; omega) (x := 48 + v % 10) (by omega)
    refine ⟨upd m1 (L + znd (v / 10)) (nI (48 + v % 10)), ?_, fun k hk => ?_⟩
    · rw [sf_b, if_neg (by rw [il_9, nI_leP (by omega) (by omega)]; omega), dig_ch (by omega), il_10, nI_div (by omega) (by omega) (by omega), g1]
      show sf_c2 (f_X12_says m1 (nI (L + znd (v / 10))) (nI (48 + v % 10))) (fun a_5 x_6 => some (a_5, x_6)) = _
      rw [h1.1, hn, Nat.add_assoc]
      rfl
    · rw [hn] at hk
      have h2 := h1.2 k (by omega)
      have e2 : zwn c L v k = zu (zwn c L (v / 10)) (L + znd (v / 10)) (48 + v % 10) k := by
        rw [zwn, hn]
        by_cases y : k = L + znd (v / 10)
        · rw [zu_eq y, if_neg (by omega), y, show L + (znd (v / 10) + 1) - 1 - (L + znd (v / 10)) = 0 by omega, zdj_0]
        · rw [zu_ne y, zwn]
          by_cases x : k < L
          · rw [if_pos x, if_pos x]
          · rw [if_neg x, if_neg x, show L + (znd (v / 10) + 1) - 1 - k = (L + znd (v / 10) - 1 - k) + 1 by omega, zdj_s]
      rw [e2]
      exact h2
theorem says_n0 {c : Nat → Nat} {L v : Nat} {mo : Nat → Int32} (h : WM c L mo) (hL : L + 8 ≤ 180) (hv : v < 10) : ∃ mo', f_X12_saysNumber_0 mo (nI L) (nI v) = some (mo', nI (L + znd v)) ∧ WM (zwn c L v) (L + znd v) mo' := by
  obtain ⟨mo', h1, h2⟩ := says_1 h (by omega) hv
  refine ⟨mo', ?_, h2⟩
  rw [f_X12_saysNumber_0, sf_b, if_pos (by rw [il_9, nI_leP (by omega) (by omega)]; omega), h1]
  rfl
theorem says_n1 {c : Nat → Nat} {L v : Nat} {mo : Nat → Int32} (h : WM c L mo) (hL : L + 8 ≤ 180) (hv : v < 100) : ∃ mo', f_X12_saysNumber_1 mo (nI L) (nI v) = some (mo', nI (L + znd v)) ∧ WM (zwn c L v) (L + znd v) mo' := says_s (b := 10) (by omega) says_n0 h hL hv
theorem says_n2 {c : Nat → Nat} {L v : Nat} {mo : Nat → Int32} (h : WM c L mo) (hL : L + 8 ≤ 180) (hv : v < 1000) : ∃ mo', f_X12_saysNumber_2 mo (nI L) (nI v) = some (mo', nI (L + znd v)) ∧ WM (zwn c L v) (L + znd v) mo' := says_s (b := 100) (by omega) says_n1 h hL hv
theorem says_n3 {c : Nat → Nat} {L v : Nat} {mo : Nat → Int32} (h : WM c L mo) (hL : L + 8 ≤ 180) (hv : v < 10000) : ∃ mo', f_X12_saysNumber_3 mo (nI L) (nI v) = some (mo', nI (L + znd v)) ∧ WM (zwn c L v) (L + znd v) mo' := says_s (b := 1000) (by omega) says_n2 h hL hv
theorem says_n4 {c : Nat → Nat} {L v : Nat} {mo : Nat → Int32} (h : WM c L mo) (hL : L + 8 ≤ 180) (hv : v < 100000) : ∃ mo', f_X12_saysNumber_4 mo (nI L) (nI v) = some (mo', nI (L + znd v)) ∧ WM (zwn c L v) (L + znd v) mo' := says_s (b := 10000) (by omega) says_n3 h hL hv
theorem says_n5 {c : Nat → Nat} {L v : Nat} {mo : Nat → Int32} (h : WM c L mo) (hL : L + 8 ≤ 180) (hv : v < 1000000) : ∃ mo', f_X12_saysNumber_5 mo (nI L) (nI v) = some (mo', nI (L + znd v)) ∧ WM (zwn c L v) (L + znd v) mo' := says_s (b := 100000) (by omega) says_n4 h hL hv
theorem says_n6 {c : Nat → Nat} {L v : Nat} {mo : Nat → Int32} (h : WM c L mo) (hL : L + 8 ≤ 180) (hv : v < 10000000) : ∃ mo', f_X12_saysNumber_6 mo (nI L) (nI v) = some (mo', nI (L + znd v)) ∧ WM (zwn c L v) (L + znd v) mo' := says_s (b := 1000000) (by omega) says_n5 h hL hv
/-- as deep as the law's room goes; numbers below ten million -/
theorem says_n {c : Nat → Nat} {L v : Nat} {mo : Nat → Int32} (h : WM c L mo) (hL : L + 8 ≤ 180) (hv : v < 10000000) : ∃ mo', f_X12_saysNumber_7 mo (nI L) (nI v) = some (mo', nI (L + znd v)) ∧ WM (zwn c L v) (L + znd v) mo' := says_s (b := 1000000) (by omega) (fun h1 h2 h3 => says_n6 h1 h2 (by omega)) h hL hv
