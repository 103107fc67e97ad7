/-! the law's sum of an office: a number of what the office says, and of nothing else -/
def zfo (f : Nat → Int64 → Int64) : Nat → Int64 → Int64
  | 0, h => h
  | n + 1, h => f n (zfo f n h)
def fzQ (M : Nat → Nat) (s : Nat) : Nat → Int64 → Int64 := fun k h => 41 * h + (nI (zq M s k)).toInt64
def fzS (M : Nat → Nat) : Nat → Int64 → Int64 := fun s h => zfo (fzQ M s) (zQ M s) (37 * h + ((100 : Int32) * nI (zD M s)).toInt64 + ((10 : Int32) * nI (zP M s)).toInt64 + (nI (zW M s)).toInt64)
def fzG (M : Nat → Nat) : Nat → Int64 → Int64 := fun g h => 43 * h + ((100 : Int32) * nI (zR M g)).toInt64 + (nI (zC M g)).toInt64
def fzB (M : Nat → Nat) : Nat → Int64 → Int64 := fun k h => 53 * (47 * h + ((10 : Int32) * nI (zG M k)).toInt64 + (nI (zS M k)).toInt64) + (nI (zT M k)).toInt64
def fzF (M : Nat → Nat) : Nat → Int64 → Int64 := fun k h => 59 * h + ((100 : Int32) * nI (zFM M k)).toInt64 + ((10 : Int32) * nI (zFS M k)).toInt64 + (nI (zFG M k)).toInt64
def zsm (M : Nat → Nat) : Int64 := zfo (fzF M) (M 4) (zfo (fzB M) (M 2) (zfo (fzG M) (M 1) (zfo (fzS M) (M 0) (31 * (31 * (7 + (nI (M 3)).toInt64) + ((1000 : Int32) * nI (M 5)).toInt64 + (nI (M 6)).toInt64) + (nI (M 7)).toInt64))))
section SUM
variable {M : Nat → Nat} {U : Nat} {on ot op os sc gc bc fc : Int32} {sd sp sw gp gr bg bs bt be ql qg fg fs fm : Nat → Int32}
theorem su90 (hV : VW M U) (hr : RO M on ot op os sc sd sp sw gc gp gr bc bg bs bt be ql qg fc fg fs fm) {s : Nat} (hs : s < M 0) {k : Int64 → Option Int64} (h0 : Int64) : ∀ m j, j ≤ zQ M s → zQ M s - j < m → f_L_sum_L90 sc ql qg (nI s) k m (nI j) (zfo (fzQ M s) j h0) = k (zfo (fzQ M s) (zQ M s) h0) := by
  have hb : zQ M s ≤ 16 := Nat.le_trans (hV.2.2.2.1.1 s (by have := hV.1.1; omega)).1 (by omega)
  intro m
  induction m with
  | zero => intro j hj hm; omega
  | succ m ih =>
    intro j hj hm
    rw [f_L_sum_L90]
    refine sfc1_i (a_queueLength hV hr hs).1 ?_
    rcases Nat.lt_or_ge j (zQ M s) with z | z
    · refine sfb_f (by rw [nI_leP (by omega) (by omega)]; omega) ?_
      exact sfc1_i (a_queued hV hr hs z).1 (sfn_r rfl (sfn_r (nI_1 j) (ih (j + 1) (by omega) (by omega))))
    · have e : j = zQ M s := by omega
      subst e
      exact sfb_t (by rw [nI_leP (by omega) (by omega)]; omega) rfl
theorem su46 (hV : VW M U) (hr : RO M on ot op os sc sd sp sw gc gp gr bc bg bs bt be ql qg fc fg fs fm) {k : Int64 → Option Int64} (h0 : Int64) : ∀ m j, j ≤ M 0 → M 0 - j < m → f_L_sum_L46 sc sd sp sw ql qg k m (nI j) (zfo (fzS M) j h0) = k (zfo (fzS M) (M 0) h0) := by
  have hb : M 0 ≤ 16 := Nat.le_trans hV.1.1 (by omega)
  have s0 := hr.2.1.1
  intro m
  induction m with
  | zero => intro j hj hm; omega
  | succ m ih =>
    intro j hj hm
    rw [f_L_sum_L46]
    refine sfc1_i (a := sc) rfl ?_
    rcases Nat.lt_or_ge j (M 0) with z | z
    · refine sfb_f (by rw [s0, nI_leP (by omega) (by omega)]; omega) ?_
      refine sfc1_i (a_duration hV hr z).1 (sfc1_i (a_price hV hr z).1 (sfc1_i (a_wetness hV hr z).1 (sfn_r rfl ?_)))
      have hq := (hV.2.2.2.1.1 j (by have := hV.1.1; omega)).1
      refine (su90 hV hr z _ 2000 0 (Nat.zero_le _) (by omega)).trans (sfn_r (nI_1 j) ?_)
      exact ih (j + 1) (by omega) (by omega)
    · have e : j = M 0 := by omega
      subst e
      exact sfb_t (by rw [s0, nI_leP (by omega) (by omega)]; omega) rfl
theorem su129 (hV : VW M U) (hr : RO M on ot op os sc sd sp sw gc gp gr bc bg bs bt be ql qg fc fg fs fm) {k : Int64 → Option Int64} (h0 : Int64) : ∀ m j, j ≤ M 1 → M 1 - j < m → f_L_sum_L129 gc gp gr k m (nI j) (zfo (fzG M) j h0) = k (zfo (fzG M) (M 1) h0) := by
  have hb : M 1 ≤ 16 := Nat.le_trans hV.1.2.1 (by omega)
  have g0 := hr.2.2.1.1
  intro m
  induction m with
  | zero => intro j hj hm; omega
  | succ m ih =>
    intro j hj hm
    rw [f_L_sum_L129]
    refine sfc1_i (a := gc) rfl ?_
    rcases Nat.lt_or_ge j (M 1) with z | z
    · refine sfb_f (by rw [g0, nI_leP (by omega) (by omega)]; omega) ?_
      exact sfc1_i (a_rides hV hr z).1 (sfc1_i (a_coins hV hr z).1 (sfn_r rfl (sfn_r (nI_1 j) (ih (j + 1) (by omega) (by omega)))))
    · have e : j = M 1 := by omega
      subst e
      exact sfb_t (by rw [g0, nI_leP (by omega) (by omega)]; omega) rfl
theorem su168 (hV : VW M U) (hr : RO M on ot op os sc sd sp sw gc gp gr bc bg bs bt be ql qg fc fg fs fm) {k : Int64 → Option Int64} (h0 : Int64) : ∀ m j, j ≤ M 2 → M 2 - j < m → f_L_sum_L168 bc bg bs bt k m (nI j) (zfo (fzB M) j h0) = k (zfo (fzB M) (M 2) h0) := by
  have hb : M 2 ≤ 16 := Nat.le_trans hV.1.2.2.1 (by omega)
  have b0 := hr.2.2.2.1.1
  intro m
  induction m with
  | zero => intro j hj hm; omega
  | succ m ih =>
    intro j hj hm
    rw [f_L_sum_L168]
    refine sfc1_i (a := bc) rfl ?_
    rcases Nat.lt_or_ge j (M 2) with z | z
    · refine sfb_f (by rw [b0, nI_leP (by omega) (by omega)]; omega) ?_
      exact sfc1_i (a_bookedGuest hV hr z).1 (sfc1_i (a_bookedSlide hV hr z).1 (sfn_r rfl (sfc1_i (a_start hV hr z).1 (sfn_r rfl (sfn_r (nI_1 j) (ih (j + 1) (by omega) (by omega)))))))
    · have e : j = M 2 := by omega
      subst e
      exact sfb_t (by rw [b0, nI_leP (by omega) (by omega)]; omega) rfl
theorem su220 (hV : VW M U) (hr : RO M on ot op os sc sd sp sw gc gp gr bc bg bs bt be ql qg fc fg fs fm) {k : Int64 → Option Int64} (h0 : Int64) : ∀ m j, j ≤ M 4 → M 4 - j < m → f_L_sum_L220 fc fg fs fm k m (nI j) (zfo (fzF M) j h0) = k (zfo (fzF M) (M 4) h0) := by
  have hb : M 4 ≤ 16 := Nat.le_trans hV.1.2.2.2.1 (by omega)
  have f0 := hr.2.2.2.2.2.1
  intro m
  induction m with
  | zero => intro j hj hm; omega
  | succ m ih =>
    intro j hj hm
    rw [f_L_sum_L220]
    refine sfc1_i (a := fc) rfl ?_
    rcases Nat.lt_or_ge j (M 4) with z | z
    · refine sfb_f (by rw [f0, nI_leP (by omega) (by omega)]; omega) ?_
      exact sfc1_i (a_finishMinute hV hr z).1 (sfc1_i (a_finishedSlide hV hr z).1 (sfc1_i (a_finishedGuest hV hr z).1 (sfn_r rfl (sfn_r (nI_1 j) (ih (j + 1) (by omega) (by omega))))))
    · have e : j = M 4 := by omega
      subst e
      exact sfb_t (by rw [f0, nI_leP (by omega) (by omega)]; omega) rfl
theorem su46_0 (hV : VW M U) (hr : RO M on ot op os sc sd sp sw gc gp gr bc bg bs bt be ql qg fc fg fs fm) {k : Int64 → Option Int64} (h0 : Int64) : f_L_sum_L46 sc sd sp sw ql qg k 2000 (0 : Int32) h0 = k (zfo (fzS M) (M 0) h0) := su46 hV hr h0 2000 0 (Nat.zero_le _) (by have := hV.1.1; omega)
theorem su129_0 (hV : VW M U) (hr : RO M on ot op os sc sd sp sw gc gp gr bc bg bs bt be ql qg fc fg fs fm) {k : Int64 → Option Int64} (h0 : Int64) : f_L_sum_L129 gc gp gr k 2000 (0 : Int32) h0 = k (zfo (fzG M) (M 1) h0) := su129 hV hr h0 2000 0 (Nat.zero_le _) (by have := hV.1.2.1; omega)
theorem su168_0 (hV : VW M U) (hr : RO M on ot op os sc sd sp sw gc gp gr bc bg bs bt be ql qg fc fg fs fm) {k : Int64 → Option Int64} (h0 : Int64) : f_L_sum_L168 bc bg bs bt k 2000 (0 : Int32) h0 = k (zfo (fzB M) (M 2) h0) := su168 hV hr h0 2000 0 (Nat.zero_le _) (by have := hV.1.2.2.1; omega)
theorem su220_0 (hV : VW M U) (hr : RO M on ot op os sc sd sp sw gc gp gr bc bg bs bt be ql qg fc fg fs fm) {k : Int64 → Option Int64} (h0 : Int64) : f_L_sum_L220 fc fg fs fm k 2000 (0 : Int32) h0 = k (zfo (fzF M) (M 4) h0) := su220 hV hr h0 2000 0 (Nat.zero_le _) (by have := hV.1.2.2.2.1; omega)
theorem lz_sum (hV : VW M U) (hr : RO M on ot op os sc sd sp sw gc gp gr bc bg bs bt be ql qg fc fg fs fm) : f_L_sum on ot op os sc sd sp sw gc gp gr bc bg bs bt ql qg fc fg fs fm = some (zsm M) := by
  obtain ⟨v0, v1, v2, v4, v3, vU⟩ := hV.1
  obtain ⟨n1, n2, n3, n4⟩ := hr.1
  rw [f_L_sum]
  refine sfc1_i (a := on) rfl (sfn_r rfl (sfc1_i (a := os) rfl (sfc1_i (a := op) rfl (sfn_r rfl (sfc1_i (a := ot) rfl (sfn_r rfl ?_))))))
  rw [n1, n2, n3, n4]
  refine (su46_0 hV hr _).trans ?_
  refine (su129_0 hV hr _).trans ?_
  refine (su168_0 hV hr _).trans ?_
  exact su220_0 hV hr _
end SUM
