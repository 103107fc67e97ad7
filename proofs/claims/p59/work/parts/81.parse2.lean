/-! one number, one command: the class's reader and the model's -/
theorem sfo_n {α : Type} {a R : Option α} {k : Nat → Option α} (h : a = R) : sf_o none a k = R := h
theorem sfo_s {α : Type} {a R : Option α} {k : Nat → Option α} {i : Nat} (h : k i = R) : sf_o (some i) a k = R := h
section PR2
variable {c : Nat → Nat} {l : Nat} {ts mI : Nat → Int32}
theorem fx_next (h : TT c l ts mI) {p x : Nat} (hp : p ≤ l) (hx : x < 128) : f_X4_isNext ts (nI l) (nI p) (nI x) = some (if p < l ∧ c p = x then nI 1 else nI 0) := by
  have hl := h.1
  rw [f_X4_isNext]
  by_cases z : p < l
  · obtain ⟨t1, t2, t3⟩ := h.2 p z
    refine sfb_f (by rw [nI_leP (by omega) (by omega)]; omega) ?_
    refine sfg_i (of_eq_true (nI_inT (by omega) (by omega))) ?_
    rw [nI_clamp (by omega), t1]
    by_cases y : c p = x
    · rw [if_pos ⟨z, y⟩]
      exact sfb_t (by rw [y]) rfl
    · rw [if_neg (fun e => y e.2)]
      exact sfb_f (by rw [nI_eqP (by omega) (by omega)]; exact y) rfl
  · rw [if_neg (fun e => z e.1)]
    exact sfb_t (by rw [nI_leP (by omega) (by omega)]; omega) rfl
theorem fx_sign (h : TT c l ts mI) {p x : Nat} (hp : p ≤ l) (hx : x < 128) : (p < l ∧ c p = x → f_X4_takeSign ts (nI l) (nI p) (nI x) = some (nI 1, nI (p + 1))) ∧ (¬ (p < l ∧ c p = x) → f_X4_takeSign ts (nI l) (nI p) (nI x) = some (nI 0, nI p)) := by
  have hn := fx_next h hp hx
  constructor
  · intro z
    rw [if_pos z] at hn
    rw [f_X4_takeSign]
    exact sfc1_i hn (sfb_f (by decide) (sfn_r (nI_1 p) rfl))
  · intro z
    rw [if_neg z] at hn
    rw [f_X4_takeSign]
    exact sfc1_i hn (sfb_t (by decide) rfl)
/-- a blank stands at p, and d digits at most are read behind it -/
def zsp (c : Nat → Nat) (l p : Nat) : Prop := p < l ∧ c p = 32
def zdc (c : Nat → Nat) (l p d : Nat) : Nat := (zdn c l d (p + 1) 0).1
def zdv (c : Nat → Nat) (l p d : Nat) : Nat := (zdn c l d (p + 1) 0).2
theorem zdv_lt {p d : Nat} (hp : p + 1 ≤ l) (hd : d ≤ 4) : zdv c l p d < 10000 ∧ p + 1 + zdc c l p d ≤ l := by
  obtain ⟨h1, h2, h3⟩ := zdn_b (c := c) (l := l) d (p + 1) 0 hp
  have : 10 ^ d ≤ 10 ^ 4 := Nat.pow_le_pow_right (by omega) hd
  unfold zdv zdc
  omega
theorem zdc_0 {p d : Nat} (hd : 1 ≤ d) : (zdc c l p d = 0 → ¬ zdg c l (p + 1)) ∧ (0 < zdc c l p d → zdg c l (p + 1)) := by
  cases d with
  | zero => omega
  | succ d =>
    unfold zdc
    rw [zdn]
    constructor
    · intro e z
      rw [if_pos (show p + 1 < l ∧ 48 ≤ c (p + 1) ∧ c (p + 1) ≤ 57 from z)] at e
      exact absurd e (Nat.succ_ne_zero _)
    · intro e
      split at e
      · rename_i z; exact z
      · exact absurd e (Nat.lt_irrefl 0)
theorem zml7 {p : Nat} (hp : p ≤ l) : (zsp c l p → zml c l p 7 = 1) ∧ (¬ zsp c l p → zml c l p 7 = 0) := by
  constructor
  · intro ⟨z1, z2⟩
    unfold zml
    rw [zlt, if_pos ⟨by decide, z1, z2⟩, zlt, if_neg (fun e => absurd e.1 (by decide))]
  · intro z
    unfold zml
    rw [zlt, if_neg (fun e => z ⟨e.2.1, e.2.2⟩)]
theorem jn_tn (h : TT c l ts mI) {p d j : Nat} (hz : zsp c l p) (hd1 : 1 ≤ d) (hd : d ≤ 4) (hj : j < 3) (tn : Nat → Int32) : f_X4_takeNumber ts (nI l) (nI (p + 1)) tn (nI j) (nI d) = some (if zdc c l p d = 0 then nI 0 else nI 1, nI (p + 1 + zdc c l p d), upd tn j (nI (zdv c l p d))) := by
  have hz1 := hz.1
  have hl := h.1
  obtain ⟨g1, g2⟩ := zdv_lt (c := c) (l := l) (p := p) (d := d) (by omega) hd
  have h8 := lo_tn h hd (k := fun y_8 y_9 y_10 => sf_g (sf_in (nI j) 3 = true) (sf_n (upd tn (nI j).toNatClampNeg y_9) (fun a_11 => sf_b (y_8 ≤ 0) (some (0, y_10, a_11)) (some (1, y_10, a_11))))) 2000 d 0 0 (p + 1) (by omega) (by omega) (by omega) (by omega)
  refine Eq.trans h8 ?_
  refine sfg_i (of_eq_true (nI_inT (by omega) (by omega))) ?_
  rw [nI_clamp (by omega), Nat.zero_add]
  refine sfn_r rfl ?_
  by_cases z : zdc c l p d = 0
  · rw [if_pos z]
    have z' : (zdn c l d (p + 1) 0).1 = 0 := z
    exact sfb_t (by rw [z']; decide) rfl
  · rw [if_neg z]
    have hb := zdn_b (c := c) (l := l) d (p + 1) 0 (by omega)
    refine sfb_f ?_ rfl
    rw [il_0, nI_leP (by omega) (by omega)]
    have z' : ¬ (zdn c l d (p + 1) 0).1 = 0 := z
    omega
theorem jn_w {a : Int32} {d : Nat} (hd1 : 1 ≤ d) (hd : d ≤ 4) : f_X12_readNumber mI (nI l) a (nI 1) (nI d) = some (nI 0, a, nI 1) := by
  have h1 : f_X12_isDigit mI (nI l) a 1 = some (nI 0) := by
    rw [f_X12_isDigit]; exact sfb_f (by decide) rfl
  rw [f_X12_readNumber]
  refine sfc2_i (fx_skip1 (by omega)) ?_
  refine sfb_f (by decide) ?_
  show f_X12_readNumber_L33 mI (nI l) (nI d) _ (1999 + 1) 0 0 a = _
  rw [f_X12_readNumber_L33]
  refine sfb_f (by rw [il_0, nI_leP (by omega) (by omega)]; omega) ?_
  exact sfc1_i h1 (sfb_t (by decide) rfl)
theorem jn_rn (h : TT c l ts mI) {p d : Nat} (hp : p ≤ l) (hd1 : 1 ≤ d) (hd : d ≤ 4) : (zsp c l p → 0 < zdc c l p d → f_X12_readNumber mI (nI l) (nI p) (nI 0) (nI d) = some (nI (zdv c l p d), nI (p + 1 + zdc c l p d), nI 0)) ∧ (zsp c l p → zdc c l p d = 0 → f_X12_readNumber mI (nI l) (nI p) (nI 0) (nI d) = some (nI 0, nI (p + 1), nI 1)) ∧ (¬ zsp c l p → f_X12_readNumber mI (nI l) (nI p) (nI 0) (nI d) = some (nI 0, nI p, nI 1)) := by
  have hl := h.1
  have hsk := fx_skip h hp (i := 7) (by omega)
  have hk7 : zkn 7 = 1 := rfl
  refine ⟨fun z hn => ?_, fun z hn => ?_, fun z => ?_⟩
  · rw [(zml7 hp).1 z, hk7, if_neg (by omega)] at hsk
    have hz1 := z.1
    have hdg := ((fx_dig h (p := p + 1) (by omega)).1 ((zdc_0 hd1).2 hn)).2
    rw [f_X12_readNumber]
    refine sfc2_i hsk ?_
    refine sfb_t (by decide) ?_
    refine sfc1_i hdg ?_
    refine sfb_f (by decide) ?_
    exact lo_rn h hd (k := fun y_20 y_21 => some (y_20, y_21, 0)) 2000 d 0 0 (p + 1) (by omega) (by omega) (by omega) (by omega)
  · rw [(zml7 hp).1 z, hk7, if_neg (by omega)] at hsk
    have hz1 := z.1
    have hdg := ((fx_dig h (p := p + 1) (by omega)).2 ((zdc_0 hd1).1 hn)).2
    have h1 : f_X12_isDigit mI (nI l) (nI (p + 1)) 1 = some (nI 0) := by
      rw [f_X12_isDigit]; exact sfb_f (by decide) rfl
    rw [f_X12_readNumber]
    refine sfc2_i hsk ?_
    refine sfb_t (by decide) ?_
    refine sfc1_i hdg ?_
    refine sfb_t (by decide) ?_
    show f_X12_readNumber_L33_2 mI (nI l) (nI d) _ (1999 + 1) 0 0 (nI (p + 1)) = _
    rw [f_X12_readNumber_L33_2]
    refine sfb_f (by rw [il_0, nI_leP (by omega) (by omega)]; omega) ?_
    exact sfc1_i h1 (sfb_t (by decide) rfl)
  · rw [(zml7 hp).2 z, hk7, if_pos (by omega)] at hsk
    have h1 : f_X12_isDigit mI (nI l) (nI p) 1 = some (nI 0) := by
      rw [f_X12_isDigit]; exact sfb_f (by decide) rfl
    rw [f_X12_readNumber]
    refine sfc2_i hsk ?_
    refine sfb_f (by decide) ?_
    show f_X12_readNumber_L33 mI (nI l) (nI d) _ (1999 + 1) 0 0 (nI p) = _
    rw [f_X12_readNumber_L33]
    refine sfb_f (by rw [il_0, nI_leP (by omega) (by omega)]; omega) ?_
    exact sfc1_i h1 (sfb_t (by decide) rfl)
/-! the class's numbers behind a keyword -/
def zN (i : Nat) : Nat := [2, 0, 3, 1, 2, 1, 1].getD i 0
def zDg (i : Nat) : Nat := [1, 0, 4, 2, 1, 1, 2].getD i 0
theorem zN_v : ∀ i, i < 7 → enN i = nI (zN i) ∧ enD i = nI (zDg i) ∧ zN i ≤ 3 ∧ zDg i ≤ 4 ∧ (0 < zN i → 1 ≤ zDg i) := by decide +kernel
def zdd (i j : Nat) : Nat := if j + 1 = zN i then zDg i else 1
theorem zdd_b {i j : Nat} (hi : i < 7) (hj : j < zN i) : 1 ≤ zdd i j ∧ zdd i j ≤ 4 := by
  obtain ⟨_, _, h1, h2, h3⟩ := zN_v i hi
  unfold zdd
  split <;> omega
theorem ts_step (h : TT c l ts mI) {i j p m : Nat} (hi : i < 7) (hj : j < zN i) (hp : p ≤ l) {k : Int32 → (Nat → Int32) → Option (Int32 × Int32 × (Nat → Int32))} (tn : Nat → Int32) : (zsp c l p → 0 < zdc c l p (zdd i j) → f_X4_takeNumbers_L2 ts (nI l) i k (m + 1) (nI j) (nI p) tn = f_X4_takeNumbers_L2 ts (nI l) i k m (nI (j + 1)) (nI (p + 1 + zdc c l p (zdd i j))) (upd tn j (nI (zdv c l p (zdd i j))))) ∧ (zsp c l p → zdc c l p (zdd i j) = 0 → ∃ tn', f_X4_takeNumbers_L2 ts (nI l) i k (m + 1) (nI j) (nI p) tn = some (nI 0, nI (p + 1), tn')) ∧ (¬ zsp c l p → f_X4_takeNumbers_L2 ts (nI l) i k (m + 1) (nI j) (nI p) tn = some (nI 0, nI p, tn)) := by
  obtain ⟨v1, v2, v3, v4, v5⟩ := zN_v i hi
  obtain ⟨d1, d2⟩ := zdd_b hi hj
  have e1 : ¬ enN i ≤ nI j := by rw [v1, nI_leP (by omega) (by omega)]; omega
  have e2 : (nI j = enN i - 1) = (j + 1 = zN i) := by
    rw [v1, il_1, nI_sub (by omega), nI_eqP (by omega) (by omega)]
    exact propext ⟨fun _ => by omega, fun _ => by omega⟩
  have hs := fx_sign h hp (x := 32) (by omega)
  rw [f_X4_takeNumbers_L2]
  by_cases cl : j + 1 = zN i
  · have ed : enD i = nI (zdd i j) := by rw [v2, zdd, if_pos cl]
    refine ⟨fun z hn => ?_, fun z hn => ?_, fun z => ?_⟩
    · have ht := jn_tn h z d1 d2 (j := j) (by omega) tn
      rw [if_neg (by omega)] at ht
      refine sfb_f e1 (sfb_t (by rw [e2]; exact cl) (sfn_r ed ?_))
      refine sfc2_i (hs.1 z) (sfb_f (by decide) ?_)
      exact sfc3_i ht (sfb_f (by decide) (sfn_r (nI_1 j) rfl))
    · have ht := jn_tn h z d1 d2 (j := j) (by omega) tn
      rw [if_pos hn, hn, Nat.add_zero] at ht
      refine ⟨_, sfb_f e1 (sfb_t (by rw [e2]; exact cl) (sfn_r ed (sfc2_i (hs.1 z) (sfb_f (by decide) (sfc3_i ht (sfb_t (by decide) rfl))))))⟩
    · exact sfb_f e1 (sfb_t (by rw [e2]; exact cl) (sfn_r ed (sfc2_i (hs.2 z) (sfb_t (by decide) rfl))))
  · have ed : zdd i j = 1 := by rw [zdd, if_neg cl]
    refine ⟨fun z hn => ?_, fun z hn => ?_, fun z => ?_⟩
    · have ht := jn_tn h z d1 d2 (j := j) (by omega) tn
      rw [if_neg (by omega), ed] at ht
      refine sfb_f e1 (sfb_f (by rw [e2]; exact cl) ?_)
      refine sfc2_i (hs.1 z) (sfb_f (by decide) ?_)
      rw [ed]
      exact sfc3_i ht (sfb_f (by decide) (sfn_r (nI_1 j) rfl))
    · have ht := jn_tn h z d1 d2 (j := j) (by omega) tn
      rw [if_pos hn, hn, Nat.add_zero, ed] at ht
      refine ⟨_, sfb_f e1 (sfb_f (by rw [e2]; exact cl) (sfc2_i (hs.1 z) (sfb_f (by decide) (sfc3_i ht (sfb_t (by decide) rfl)))))⟩
    · exact sfb_f e1 (sfb_f (by rw [e2]; exact cl) (sfc2_i (hs.2 z) (sfb_t (by decide) rfl)))
theorem ts_end {i p m : Nat} (hi : i < 7) {k : Int32 → (Nat → Int32) → Option (Int32 × Int32 × (Nat → Int32))} (tn : Nat → Int32) : f_X4_takeNumbers_L2 ts (nI l) i k (m + 1) (nI (zN i)) (nI p) tn = k (nI p) tn := by
  obtain ⟨v1, v2, v3, v4, v5⟩ := zN_v i hi
  rw [f_X4_takeNumbers_L2]
  exact sfb_t (by rw [v1, nI_leP (by omega) (by omega)]; exact Nat.le_refl _) rfl
/-! the keyword -/
theorem zml_0 {p i : Nat} (h : ¬ (p < l ∧ c p = zkw i 0)) : zml c l p i = 0 := by
  unfold zml
  rw [zlt, if_neg (fun e => h ⟨by have := e.2.1; omega, e.2.2⟩)]
theorem zml_1 {p i : Nat} (hi : i < 7) (hp : p < l) (h : c p = zkw i 0) : 1 ≤ zml c l p i := by
  have h0 : 0 < zkn i := (by decide +kernel : ∀ i, i < 7 → 0 < zkn i) i hi
  unfold zml
  rw [zlt, if_pos ⟨h0, by omega, h⟩]
  exact (zlt_le (c := c) (l := l) (p := p) (i := i) (by omega) 6 1 (by omega) (by omega)).1
theorem zkw_d : ∀ i, i < 7 → ∀ j, j < 7 → zkw i 0 = zkw j 0 → i = j := by decide +kernel
theorem lo_kw0 (h : TT c l ts mI) {p : Nat} (hp : p ≤ l) (hno : ∀ i, i < 7 → zml c l p i = 0) {k : Int32 → Option Nat → Option (Option Nat × Int32)} : ∀ m j, j ≤ 7 → 7 - j < m → f_X4_takeKeyword_L15 ts (nI l) (nI p) k m (nI j) (nI 0) none = k (nI 0) none := by
  intro m
  induction m with
  | zero => intro j h1 h2; omega
  | succ m ih =>
    intro j h1 h2
    rw [f_X4_takeKeyword_L15]
    rcases Nat.lt_or_ge j 7 with z | z
    · refine sfb_f (by rw [il_7, nI_leP (by omega) (by omega)]; omega) ?_
      refine sfg_i (of_eq_true (nI_inT (by omega) (by omega))) ?_
      rw [nI_clamp (by omega)]
      refine sfc1_i (fx_lic h hp (by omega)) ?_
      rw [hno j z]
      refine sfb_t (by decide) (sfn_r (nI_1 j) ?_)
      exact ih (j + 1) (by omega) (by omega)
    · exact sfb_t (by rw [il_7, nI_leP (by omega) (by omega)]; exact z) rfl
theorem lo_kw1 (h : TT c l ts mI) {p i : Nat} (hp : p ≤ l) (hi : i < 7) (hi1 : 1 ≤ zml c l p i) (hno : ∀ j, j < 7 → j ≠ i → zml c l p j = 0) {k : Int32 → Option Nat → Option (Option Nat × Int32)} : ∀ m j, j ≤ 7 → 7 - j < m → f_X4_takeKeyword_L15 ts (nI l) (nI p) k m (nI j) (nI (if j ≤ i then 0 else zml c l p i)) (if j ≤ i then none else some i) = k (nI (zml c l p i)) (some i) := by
  have hb := zml_b (c := c) (l := l) (p := p) (i := i) hp (by omega)
  intro m
  induction m with
  | zero => intro j h1 h2; omega
  | succ m ih =>
    intro j h1 h2
    rw [f_X4_takeKeyword_L15]
    rcases Nat.lt_or_ge j 7 with z | z
    · have ih1 := ih (j + 1) (by omega) (by omega)
      refine sfb_f (by rw [il_7, nI_leP (by omega) (by omega)]; omega) ?_
      refine sfg_i (of_eq_true (nI_inT (by omega) (by omega))) ?_
      rw [nI_clamp (by omega)]
      refine sfc1_i (fx_lic h hp (by omega)) ?_
      rcases Nat.decEq j i with y | y
      · rw [hno j z y]
        refine sfb_t (by rw [nI_leP (by omega) (by split <;> omega)]; exact Nat.zero_le _) (sfn_r (nI_1 j) ?_)
        by_cases x : j ≤ i
        · rw [if_pos x, if_pos x]
          rw [if_pos (by omega : j + 1 ≤ i), if_pos (by omega : j + 1 ≤ i)] at ih1
          exact ih1
        · rw [if_neg x, if_neg x]
          rw [if_neg (by omega : ¬ j + 1 ≤ i), if_neg (by omega : ¬ j + 1 ≤ i)] at ih1
          exact ih1
      · rw [y] at ih1 ⊢
        rw [if_neg (by omega : ¬ i + 1 ≤ i), if_neg (by omega : ¬ i + 1 ≤ i)] at ih1
        rw [if_pos (Nat.le_refl i), if_pos (Nat.le_refl i)]
        refine sfb_f (by rw [nI_leP (by omega) (by omega)]; omega) ?_
        exact sfo_n (sfn_r (nI_1 i) ih1)
    · have e : j = 7 := by omega
      rw [if_neg (by omega : ¬ j ≤ i), if_neg (by omega : ¬ j ≤ i)]
      exact sfb_t (by rw [il_7, nI_leP (by omega) (by omega)]; exact z) rfl
theorem fx_kw0 (h : TT c l ts mI) {p : Nat} (hp : p ≤ l) (hno : ∀ i, i < 7 → ¬ (p < l ∧ c p = zkw i 0)) : f_X4_takeKeyword ts (nI l) (nI p) = some (none, nI p) := by
  have h8 := lo_kw0 h hp (fun i hi => zml_0 (hno i hi)) (k := fun y_10 o_11 => sf_n (nI p + y_10) (fun x_12 => sf_o o_11 (some (none, x_12)) (fun i_13 => sf_g (i_13 < 7) (sf_c1 (f_J0_length_8abf5 i_13) (fun r_14 => sf_b (r_14 ≤ y_10) (some ((some i_13), x_12)) (some (none, x_12))))))) 2000 0 (Nat.zero_le _) (by omega)
  refine Eq.trans h8 ?_
  refine sfn_r (nI_add p 0) (sfo_n ?_)
  rfl
theorem fx_kw1 (h : TT c l ts mI) {p i : Nat} (hi : i < 7) (hp : p < l) (hc : c p = zkw i 0) : f_X4_takeKeyword ts (nI l) (nI p) = some (if zml c l p i < zkn i then none else some i, nI (p + zml c l p i)) := by
  have hb := zml_b (c := c) (l := l) (p := p) (i := i) (by omega) (by omega)
  have hkb := zkn_b i (by omega)
  have h8 := lo_kw1 h (by omega) hi (zml_1 hi hp hc) (fun j hj hne => zml_0 (fun e => hne (zkw_d j hj i hi (by rw [← e.2, hc])))) (k := fun y_10 o_11 => sf_n (nI p + y_10) (fun x_12 => sf_o o_11 (some (none, x_12)) (fun i_13 => sf_g (i_13 < 7) (sf_c1 (f_J0_length_8abf5 i_13) (fun r_14 => sf_b (r_14 ≤ y_10) (some ((some i_13), x_12)) (some (none, x_12))))))) 2000 0 (Nat.zero_le _) (by omega)
  rw [if_pos (Nat.zero_le i), if_pos (Nat.zero_le i)] at h8
  refine Eq.trans h8 ?_
  refine sfn_r (nI_add p _) (sfo_s ?_)
  refine sfg_i hi ?_
  refine sfc1_i (zkn_v i (by omega)) ?_
  by_cases z : zml c l p i < zkn i
  · rw [if_pos z]
    exact sfb_f (by rw [nI_leP (by omega) (by omega)]; omega) rfl
  · rw [if_neg z]
    exact sfb_t (by rw [nI_leP (by omega) (by omega)]; omega) rfl
end PR2
