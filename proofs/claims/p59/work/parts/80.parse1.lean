/-! the commands' text: keywords and numbers, in the class and in the model -/
def zkn (i : Nat) : Nat := [5, 5, 4, 6, 5, 5, 4, 1].getD i 0
def zkw (i j : Nat) : Nat := ([[115, 108, 105, 100, 101], [103, 117, 101, 115, 116], [98, 111, 111, 107], [99, 97, 110, 99, 101, 108], [113, 117, 101, 117, 101], [108, 101, 97, 118, 101], [119, 97, 105, 116], [32]].getD i []).getD j 0
theorem zkn_v : ∀ i, i < 8 → f_J0_length_8abf5 i = some (nI (zkn i)) := by decide +kernel
theorem zkn_b : ∀ i, i < 8 → zkn i ≤ 6 := by decide +kernel
theorem zkw_v : ∀ i, i < 8 → ∀ j, j < 6 → j < zkn i → f_J0_charAt_5068e i (nI j) = some (nI (zkw i j)) := by decide +kernel
theorem zkw_b : ∀ i, i < 8 → ∀ j, j < 6 → zkw i j < 128 := by decide +kernel
/-- both hold the text c of l characters -/
def TT (c : Nat → Nat) (l : Nat) (ts mI : Nat → Int32) : Prop := l ≤ 60 ∧ ∀ k, k < l → ts k = nI (c k) ∧ mI k = nI (c k) ∧ c k < 65536
/-- letters in common with the keyword i from p on -/
def zlt (c : Nat → Nat) (l p i : Nat) : Nat → Nat → Nat
  | 0, j => j
  | d + 1, j => if j < zkn i ∧ p + j < l ∧ c (p + j) = zkw i j then zlt c l p i d (j + 1) else j
theorem zlt_le {c : Nat → Nat} {l p i : Nat} (hp : p ≤ l) : ∀ d j, j ≤ zkn i → p + j ≤ l → j ≤ zlt c l p i d j ∧ zlt c l p i d j ≤ zkn i ∧ p + zlt c l p i d j ≤ l
  | 0, j, h1, h2 => ⟨Nat.le_refl _, h1, h2⟩
  | d + 1, j, h1, h2 => by
    rw [zlt]
    split
    · rename_i h
      have := zlt_le (c := c) (l := l) (p := p) (i := i) hp d (j + 1) (by omega) (by omega)
      omega
    · exact ⟨Nat.le_refl _, h1, h2⟩
section PRS
variable {c : Nat → Nat} {l : Nat} {ts mI : Nat → Int32}
theorem lo_lic (h : TT c l ts mI) {p i : Nat} (hp : p ≤ l) (hi : i < 8) {k : Int32 → Option Int32} : ∀ m d j, j ≤ zkn i → zkn i - j ≤ d → zkn i - j < m → f_X4_lettersInCommon_L2 ts (nI l) (nI p) i k m (nI j) = k (nI (zlt c l p i d j)) := by
  have hl := h.1
  have hkb := zkn_b i hi
  intro m
  induction m with
  | zero => intro d j h1 h2 h3; omega
  | succ m ih =>
    intro d j h1 h2 h3
    rw [f_X4_lettersInCommon_L2]
    refine sfc1_i (zkn_v i hi) ?_
    rcases Nat.lt_or_ge j (zkn i) with z | z
    · cases d with
      | zero => omega
      | succ d =>
        refine sfb_f (by rw [nI_leP (by omega) (by omega)]; omega) ?_
        rw [nI_add]
        rcases Nat.lt_or_ge (p + j) l with y | y
        · obtain ⟨t1, t2, t3⟩ := h.2 (p + j) y
          have hw := zkw_b i hi j (by omega)
          refine sfb_f (by rw [nI_leP (by omega) (by omega)]; omega) ?_
          refine sfg_i (of_eq_true (nI_inT (by omega) (by omega))) ?_
          refine sfc1_i (zkw_v i hi j (by omega) z) ?_
          rw [nI_clamp (by omega), t1, zlt]
          by_cases x : c (p + j) = zkw i j
          · refine sfb_t (by rw [x]) ?_
            refine sfn_r (nI_1 j) ?_
            rw [if_pos ⟨z, y, x⟩]
            exact ih d (j + 1) (by omega) (by omega) (by omega)
          · refine sfb_f (by rw [nI_eqP (by omega) (by omega)]; exact x) ?_
            rw [if_neg (fun e => x e.2.2)]
        · refine sfb_t (by rw [nI_leP (by omega) (by omega)]; exact y) ?_
          rw [zlt, if_neg (fun e => by omega)]
    · have e : j = zkn i := by omega
      refine sfb_t (by rw [nI_leP (by omega) (by omega)]; exact z) ?_
      cases d with
      | zero => rfl
      | succ d => rw [zlt, if_neg (fun e => by omega)]
def zml (c : Nat → Nat) (l p i : Nat) : Nat := zlt c l p i 7 0
theorem fx_lic (h : TT c l ts mI) {p i : Nat} (hp : p ≤ l) (hi : i < 8) : f_X4_lettersInCommon ts (nI l) (nI p) i = some (nI (zml c l p i)) := lo_lic h hp hi (k := fun y => some y) 2000 7 0 (Nat.zero_le _) (by have := zkn_b i hi; omega) (by have := zkn_b i hi; omega)
theorem zml_b {p i : Nat} (hp : p ≤ l) (hi : i < 8) : zml c l p i ≤ 6 ∧ zml c l p i ≤ zkn i ∧ p + zml c l p i ≤ l := by
  have := zlt_le (c := c) (i := i) hp 7 0 (Nat.zero_le _) hp
  have := zkn_b i hi
  unfold zml; omega
/-- the model's next character -/
theorem fx_beh (h : TT c l ts mI) {p : Nat} (hp : p ≤ l) : f_X12_behind mI (nI l) (nI p) = some (if p < l then nI (c p) else -nI 1) := by
  have hl := h.1
  rw [f_X12_behind]
  by_cases z : p < l
  · rw [if_pos z]
    refine sfb_f (by rw [nI_leP (by omega) (by omega)]; omega) ?_
    refine sfg_i (of_eq_true (nI_inT (by omega) (by omega))) ?_
    rw [nI_clamp (by omega), (h.2 p z).2.1]
  · rw [if_neg z]
    exact sfb_t (by rw [nI_leP (by omega) (by omega)]; omega) rfl
theorem lo_skip1 {i : Nat} (hi : i < 8) {k : Int32 → Int32 → Option (Int32 × Int32)} {a : Int32} : ∀ m j, f_X12_skip_L2 mI (nI l) i k (m + 1) (nI j) a (nI 1) = k a (nI 1) := fun m j => by
  rw [f_X12_skip_L2]
  refine sfc1_i (zkn_v i hi) ?_
  by_cases z : nI (zkn i) ≤ nI j
  · exact sfb_t z rfl
  · exact sfb_f z (sfb_f (by decide) rfl)
theorem lo_skip (h : TT c l ts mI) {p i : Nat} (hp : p ≤ l) (hi : i < 8) {k : Int32 → Int32 → Option (Int32 × Int32)} : ∀ m d j, j ≤ zkn i → p + j ≤ l → zkn i - j ≤ d → zkn i - j + 1 < m → f_X12_skip_L2 mI (nI l) i k m (nI j) (nI (p + j)) (nI 0) = k (nI (p + zlt c l p i d j)) (nI (if zlt c l p i d j < zkn i then 1 else 0)) := by
  have hl := h.1
  have hkb := zkn_b i hi
  intro m
  induction m with
  | zero => intro d j h1 h2 h3 h4; omega
  | succ m ih =>
    intro d j h1 h2 h3 h4
    rw [f_X12_skip_L2]
    refine sfc1_i (zkn_v i hi) ?_
    rcases Nat.lt_or_ge j (zkn i) with z | z
    · cases d with
      | zero => omega
      | succ d =>
        refine sfb_f (by rw [nI_leP (by omega) (by omega)]; omega) ?_
        refine sfb_t (by decide) ?_
        refine sfc1_i (fx_beh h h2) ?_
        refine sfc1_i (zkw_v i hi j (by omega) z) ?_
        have hw := zkw_b i hi j (by omega)
        have bad : (p + j < l → ¬ c (p + j) = zkw i j) → sf_b ((if p + j < l then nI (c (p + j)) else -nI 1) = nI (zkw i j)) (sf_n (nI (p + j) + 1) (fun x_7 => sf_n (nI j + 1) (fun x_8 => f_X12_skip_L2 mI (nI l) i k m x_8 x_7 0))) (sf_n (nI (p + j) + 0) (fun x_9 => sf_n (nI j + 1) (fun x_10 => f_X12_skip_L2 mI (nI l) i k m x_10 x_9 1))) = k (nI (p + zlt c l p i (d + 1) j)) (nI (if zlt c l p i (d + 1) j < zkn i then 1 else 0)) := fun hb => by
          have e : zlt c l p i (d + 1) j = j := by
            rw [zlt, if_neg (fun e => hb e.2.1 e.2.2)]
          rw [e, if_pos z]
          have ne : ¬ (if p + j < l then nI (c (p + j)) else -nI 1) = nI (zkw i j) := by
            by_cases y : p + j < l
            · rw [if_pos y, nI_eqP (by have := (h.2 _ y).2.2; omega) (by omega)]; exact hb y
            · rw [if_neg y]
              intro e2
              have := nI_neP (a := zkw i j) 1 (by omega) (by omega) (by omega)
              rw [← this]; exact e2.symm
          refine sfb_f ne ?_
          refine sfn_r (y := nI (p + j)) (by rw [il_0, nI_add, Nat.add_zero]) ?_
          refine sfn_r (nI_1 j) ?_
          cases m with
          | zero => omega
          | succ m => exact lo_skip1 hi m (j + 1)
        rcases Nat.lt_or_ge (p + j) l with y | y
        · by_cases x : c (p + j) = zkw i j
          · refine sfb_t (by rw [if_pos y, x]) ?_
            refine sfn_r (nI_1 (p + j)) ?_
            refine sfn_r (nI_1 j) ?_
            rw [zlt, if_pos ⟨z, y, x⟩]
            exact ih d (j + 1) (by omega) (by omega) (by omega) (by omega)
          · exact bad (fun _ => x)
        · exact bad (fun e => by omega)
    · have e : j = zkn i := by omega
      refine sfb_t (by rw [nI_leP (by omega) (by omega)]; exact z) ?_
      have e2 : zlt c l p i d j = j := by
        cases d with
        | zero => rfl
        | succ d => rw [zlt, if_neg (fun e => by omega)]
      rw [e2, if_neg (by omega)]
theorem fx_skip (h : TT c l ts mI) {p i : Nat} (hp : p ≤ l) (hi : i < 8) : f_X12_skip mI (nI l) (nI p) (nI 0) i = some (nI (p + zml c l p i), nI (if zml c l p i < zkn i then 1 else 0)) := lo_skip h hp hi (k := fun y_11 y_12 => some (y_11, y_12)) 2000 7 0 (Nat.zero_le _) hp (by have := zkn_b i hi; omega) (by have := zkn_b i hi; omega)
theorem fx_skip1 {i : Nat} (hi : i < 8) {a : Int32} : f_X12_skip mI (nI l) a (nI 1) i = some (a, nI 1) := lo_skip1 hi (k := fun y_11 y_12 => some (y_11, y_12)) 1999 0
/-! digits -/
def zdg (c : Nat → Nat) (l p : Nat) : Prop := p < l ∧ 48 ≤ c p ∧ c p ≤ 57
theorem fx_dig (h : TT c l ts mI) {p : Nat} (hp : p ≤ l) : (zdg c l p → f_X4_isDigitNext ts (nI l) (nI p) = some (nI 1) ∧ f_X12_isDigit mI (nI l) (nI p) (nI 0) = some (nI 1)) ∧ (¬ zdg c l p → f_X4_isDigitNext ts (nI l) (nI p) = some (nI 0) ∧ f_X12_isDigit mI (nI l) (nI p) (nI 0) = some (nI 0)) := by
  have hl := h.1
  constructor
  · intro ⟨z1, z2, z3⟩
    obtain ⟨t1, t2, t3⟩ := h.2 p z1
    constructor
    · rw [f_X4_isDigitNext]
      refine sfb_f (by rw [nI_leP (by omega) (by omega)]; omega) ?_
      refine sfg_i (of_eq_true (nI_inT (by omega) (by omega))) ?_
      rw [nI_clamp (by omega), t1]
      refine sfb_f (by rw [il_48, nI_ltP (by omega) (by omega)]; omega) ?_
      refine sfg_i (of_eq_true (nI_inT (by omega) (by omega))) ?_
      exact sfb_f (by rw [il_57, nI_ltP (by omega) (by omega)]; omega) rfl
    · rw [f_X12_isDigit]
      refine sfb_t (by decide) ?_
      refine sfc1_i (fx_beh h hp) ?_
      rw [if_pos z1]
      refine sfc1_i ((fm_ri (x := c p) (a := 48) (b := 57) (by omega) (by omega) (by omega)).1 ⟨z2, z3⟩) ?_
      exact sfb_f (by decide) rfl
  · intro hn
    constructor
    · rw [f_X4_isDigitNext]
      by_cases z1 : p < l
      · obtain ⟨t1, t2, t3⟩ := h.2 p z1
        refine sfb_f (by rw [nI_leP (by omega) (by omega)]; omega) ?_
        refine sfg_i (of_eq_true (nI_inT (by omega) (by omega))) ?_
        rw [nI_clamp (by omega), t1]
        by_cases z2 : c p < 48
        · exact sfb_t (by rw [il_48, nI_ltP (by omega) (by omega)]; exact z2) rfl
        · refine sfb_f (by rw [il_48, nI_ltP (by omega) (by omega)]; exact z2) ?_
          refine sfg_i (of_eq_true (nI_inT (by omega) (by omega))) ?_
          refine sfb_t ?_ rfl
          rw [il_57, nI_ltP (by omega) (by omega)]
          rcases Nat.lt_or_ge 57 (c p) with y | y
          · exact y
          · exact absurd ⟨z1, by omega, y⟩ hn
      · exact sfb_t (by rw [nI_leP (by omega) (by omega)]; omega) rfl
    · rw [f_X12_isDigit]
      refine sfb_t (by decide) ?_
      refine sfc1_i (fx_beh h hp) ?_
      by_cases z1 : p < l
      · rw [if_pos z1]
        have t3 := (h.2 p z1).2.2
        refine sfc1_i ((fm_ri (x := c p) (a := 48) (b := 57) (by omega) (by omega) (by omega)).2 (fun e => hn ⟨z1, e.1, e.2⟩)) ?_
        exact sfb_t (by decide) rfl
      · rw [if_neg z1]
        refine sfc1_i (a := (0 : Int32)) ?_ (sfb_t rfl rfl)
        rw [f_X12_in]
        exact sfb_t (by decide) rfl
/-- the digits from p on, n of them at most: how many, and their number behind v -/
def zdn (c : Nat → Nat) (l : Nat) : Nat → Nat → Nat → Nat × Nat
  | 0, _, v => (0, v)
  | n + 1, p, v => if p < l ∧ 48 ≤ c p ∧ c p ≤ 57 then ((zdn c l n (p + 1) (10 * v + (c p - 48))).1 + 1, (zdn c l n (p + 1) (10 * v + (c p - 48))).2) else (0, v)
theorem zdn_b : ∀ n p v, p ≤ l → p + (zdn c l n p v).1 ≤ l ∧ (zdn c l n p v).1 ≤ n ∧ (zdn c l n p v).2 < 10 ^ n * (v + 1)
  | 0, p, v, h => by
    show p + 0 ≤ l ∧ 0 ≤ 0 ∧ v < 10 ^ 0 * (v + 1)
    omega
  | n + 1, p, v, h => by
    rw [zdn]
    split
    · rename_i z
      obtain ⟨h1, h2, h3⟩ := zdn_b n (p + 1) (10 * v + (c p - 48)) (by omega)
      refine ⟨by show p + ((zdn c l n (p + 1) (10 * v + (c p - 48))).1 + 1) ≤ l; omega, by show (zdn c l n (p + 1) (10 * v + (c p - 48))).1 + 1 ≤ n + 1; omega, Nat.lt_of_lt_of_le h3 ?_⟩
      rw [Nat.pow_succ, Nat.mul_assoc]
      exact Nat.mul_le_mul_left _ (by omega)
    · refine ⟨h, Nat.zero_le _, ?_⟩
      show v < 10 ^ (n + 1) * (v + 1)
      have : 1 ≤ 10 ^ (n + 1) := Nat.one_le_pow _ _ (by omega)
      exact Nat.lt_of_lt_of_le (Nat.lt_succ_self v) (Nat.le_mul_of_pos_left _ this)
theorem lo_tn (h : TT c l ts mI) {d : Nat} (hd : d ≤ 4) {k : Int32 → Int32 → Int32 → Option (Int32 × Int32 × (Nat → Int32))} : ∀ m n a v p, a + n = d → p ≤ l → n < m → v < 10 ^ a → f_X4_takeNumber_L5 ts (nI l) (nI d) k m (nI a) (nI v) (nI p) = k (nI (a + (zdn c l n p v).1)) (nI (zdn c l n p v).2) (nI (p + (zdn c l n p v).1)) := by
  have hl := h.1
  intro m
  induction m with
  | zero => intro n a v p h1 h2 h3 h4; omega
  | succ m ih =>
    intro n a v p h1 h2 h3 h4
    rw [f_X4_takeNumber_L5]
    have hpa : 10 ^ a ≤ 10 ^ 4 := Nat.pow_le_pow_right (by omega) (by omega)
    cases n with
    | zero => exact sfb_t (by rw [nI_leP (by omega) (by omega)]; omega) rfl
    | succ n =>
      refine sfb_f (by rw [nI_leP (by omega) (by omega)]; omega) ?_
      by_cases z : zdg c l p
      · obtain ⟨t1, t2, t3⟩ := h.2 p z.1
        refine sfc1_i ((fx_dig h h2).1 z).1 ?_
        refine sfb_f (by decide) ?_
        refine sfg_i (of_eq_true (nI_inT (by have := z.1; omega) (by omega))) ?_
        rw [nI_clamp (by omega), t1, il_48, il_10, nI_sub z.2.1, nI_mul, nI_add]
        refine sfn_r rfl ?_
        refine sfn_r (nI_1 p) ?_
        refine sfn_r (nI_1 a) ?_
        have e : zdn c l (n + 1) p v = ((zdn c l n (p + 1) (10 * v + (c p - 48))).1 + 1, (zdn c l n (p + 1) (10 * v + (c p - 48))).2) := by
          rw [zdn, if_pos (show p < l ∧ 48 ≤ c p ∧ c p ≤ 57 from z)]
        rw [e, ih n (a + 1) (10 * v + (c p - 48)) (p + 1) (by omega) (by have := z.1; omega) (by omega) (by
          rw [Nat.pow_succ]
          have := z.2.2
          omega)]
        dsimp only
        rw [show a + ((zdn c l n (p + 1) (10 * v + (c p - 48))).1 + 1) = a + 1 + (zdn c l n (p + 1) (10 * v + (c p - 48))).1 by omega, show p + ((zdn c l n (p + 1) (10 * v + (c p - 48))).1 + 1) = p + 1 + (zdn c l n (p + 1) (10 * v + (c p - 48))).1 by omega]
      · refine sfc1_i ((fx_dig h h2).2 z).1 ?_
        refine sfb_t (by decide) ?_
        have e : zdn c l (n + 1) p v = (0, v) := by rw [zdn, if_neg (show ¬ (p < l ∧ 48 ≤ c p ∧ c p ≤ 57) from z)]
        rw [e]; rfl
theorem lo_rn (h : TT c l ts mI) {d : Nat} (hd : d ≤ 4) {k : Int32 → Int32 → Option (Int32 × Int32 × Int32)} : ∀ m n a v p, a + n = d → p ≤ l → n < m → v < 10 ^ a → f_X12_readNumber_L33_1 mI (nI l) (nI d) k m (nI a) (nI v) (nI p) = k (nI (zdn c l n p v).2) (nI (p + (zdn c l n p v).1)) := by
  have hl := h.1
  intro m
  induction m with
  | zero => intro n a v p h1 h2 h3 h4; omega
  | succ m ih =>
    intro n a v p h1 h2 h3 h4
    rw [f_X12_readNumber_L33_1]
    have hpa : 10 ^ a ≤ 10 ^ 4 := Nat.pow_le_pow_right (by omega) (by omega)
    cases n with
    | zero => exact sfb_t (by rw [nI_leP (by omega) (by omega)]; omega) rfl
    | succ n =>
      refine sfb_f (by rw [nI_leP (by omega) (by omega)]; omega) ?_
      by_cases z : zdg c l p
      · obtain ⟨t1, t2, t3⟩ := h.2 p z.1
        refine sfc1_i ((fx_dig h h2).1 z).2 ?_
        refine sfb_f (by decide) ?_
        refine sfg_i (of_eq_true (nI_inT (by have := z.1; omega) (by omega))) ?_
        rw [nI_clamp (by omega), t2, il_48, il_10, nI_mul, nI_add, nI_sub (by have := z.2.1; omega)]
        refine sfn_r rfl ?_
        refine sfn_r (nI_1 p) ?_
        refine sfn_r (nI_1 a) ?_
        have e : zdn c l (n + 1) p v = ((zdn c l n (p + 1) (10 * v + (c p - 48))).1 + 1, (zdn c l n (p + 1) (10 * v + (c p - 48))).2) := by
          rw [zdn, if_pos (show p < l ∧ 48 ≤ c p ∧ c p ≤ 57 from z)]
        have e5 : 10 * v + c p - 48 = 10 * v + (c p - 48) := by have := z.2.1; omega
        rw [e, e5, ih n (a + 1) (10 * v + (c p - 48)) (p + 1) (by omega) (by have := z.1; omega) (by omega) (by
          rw [Nat.pow_succ]
          have := z.2.2
          omega)]
        dsimp only
        rw [show p + ((zdn c l n (p + 1) (10 * v + (c p - 48))).1 + 1) = p + 1 + (zdn c l n (p + 1) (10 * v + (c p - 48))).1 by omega]
      · refine sfc1_i ((fx_dig h h2).2 z).2 ?_
        refine sfb_t (by decide) ?_
        have e : zdn c l (n + 1) p v = (0, v) := by rw [zdn, if_neg (show ¬ (p < l ∧ 48 ≤ c p ∧ c p ≤ 57) from z)]
        rw [e]; rfl
end PRS
