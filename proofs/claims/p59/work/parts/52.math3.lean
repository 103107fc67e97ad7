/-! pairs of one minute: all pairs, and by runs -/
def ztri (r : Nat) : Nat := r * (r - 1) / 2
theorem ztri_s : ∀ (r : Nat), ztri (r + 1) = ztri r + r
  | 0 => rfl
  | r + 1 => by
    show (r + 1 + 1) * (r + 1 + 1 - 1) / 2 = (r + 1) * (r + 1 - 1) / 2 + (r + 1)
    rw [show r + 1 + 1 - 1 = r + 1 by omega, show r + 1 - 1 = r by omega, show (r + 1 + 1) * (r + 1) = (r + 1) * r + (r + 1) * 2 by rw [Nat.mul_comm (r + 1 + 1), ← Nat.mul_add], Nat.add_mul_div_right _ _ (by omega)]
/-- pairs among the first n rows, each with those before it -/
def zpp (R : Nat → Nat) (n : Nat) : Nat := zs (fun j => zc (fun i => decide (R i = R j)) j) n
theorem zpp_s {R : Nat → Nat} {n : Nat} : zpp R (n + 1) = zpp R n + zc (fun i => decide (R i = R n)) n := rfl
/-- each with those behind it: i < j < n -/
def zph (R : Nat → Nat) (n i : Nat) : Nat → Nat
  | 0 => 0
  | j + 1 => zph R n i j + (if i < j ∧ R i = R j then 1 else 0)
theorem zph_lo {R : Nat → Nat} {n i : Nat} : ∀ {m : Nat}, m ≤ i + 1 → zph R n i m = 0
  | 0, _ => rfl
  | m + 1, h => by rw [zph, zph_lo (by omega), if_neg (by omega)]
def zpo (R : Nat → Nat) (n : Nat) : Nat := zs (fun i => zph R n i n) n
theorem zs_zc {R : Nat → Nat} : ∀ {n : Nat} (m : Nat), zs (fun i => if R i = R m then 1 else 0) n = zc (fun i => decide (R i = R m)) n
  | 0, _ => rfl
  | n + 1, m => by
    rw [zs, zc, zs_zc m]
    by_cases h : R n = R m
    · simp [h]
    · simp [h]
theorem zpo_pp {R : Nat → Nat} : ∀ {n : Nat} (m : Nat), n ≤ m → zs (fun i => zph R m i n) n = zpp R n
  | 0, _, _ => rfl
  | n + 1, m, h => by
    have ih := zpo_pp (R := R) (n := n) m (by omega)
    rw [zpp_s, ← ih, zs]
    have h1 : zph R m n (n + 1) = 0 := zph_lo (by omega)
    have h2 : zs (fun i => zph R m i (n + 1)) n = zs (fun i => zph R m i n + (if R i = R n then 1 else 0)) n := zs_congr (fun k hk => by
      show zph R m k n + (if k < n ∧ R k = R n then 1 else 0) = _
      by_cases e : R k = R n
      · rw [if_pos ⟨hk, e⟩, if_pos e]
      · rw [if_neg (fun x => e x.2), if_neg e])
    rw [h1, h2, zs_add, zs_zc]
    omega
theorem zpo_eq {R : Nat → Nat} {n : Nat} : zpo R n = zpp R n := zpo_pp n (Nat.le_refl n)
/-- the rows turned round -/
theorem zpp_rev {R : Nat → Nat} : ∀ {n : Nat}, zpp (fun k => R (n - 1 - k)) n = zpp R n
  | 0 => rfl
  | n + 1 => by
    have ih := zpp_rev (R := R) (n := n)
    have h1 : zpp (fun k => R (n + 1 - 1 - k)) (n + 1) = zs (fun j => zc (fun i => decide (R (n + 1 - 1 - i) = R (n + 1 - 1 - j))) j) (n + 1) := rfl
    rw [h1, zs_shift]
    have h2 : zs (fun j => zc (fun i => decide (R (n + 1 - 1 - i) = R (n + 1 - 1 - (j + 1)))) (j + 1)) n = zs (fun j => (if R (n - 1 - j) = R n then 1 else 0) + zc (fun i => decide (R (n - 1 - i) = R (n - 1 - j))) j) n := zs_congr (fun j hj => by
      rw [zc_shift]
      have e1 : n + 1 - 1 - (j + 1) = n - 1 - j := by omega
      have e0 : n + 1 - 1 - 0 = n := by omega
      rw [e1, e0]
      have e2 : zc (fun k => decide (R (n + 1 - 1 - (k + 1)) = R (n - 1 - j))) j = zc (fun i => decide (R (n - 1 - i) = R (n - 1 - j))) j := zc_congr (fun k hk => by rw [show n + 1 - 1 - (k + 1) = n - 1 - k by omega])
      rw [e2]
      by_cases e : R n = R (n - 1 - j)
      · rw [if_pos (decide_eq_true e), if_pos e.symm]
      · rw [if_neg (by simp [e]), if_neg (fun x => e x.symm)])
    rw [h2, zs_add]
    have h3 : zs (fun j => if R (n - 1 - j) = R n then 1 else 0) n = zc (fun i => decide (R i = R n)) n := by
      have h4 : zs (fun j => if R (n - 1 - j) = R n then 1 else 0) n = zc (fun k => decide (R (n - 1 - k) = R n)) n := by
        have : ∀ m, zs (fun j => if R (n - 1 - j) = R n then 1 else 0) m = zc (fun k => decide (R (n - 1 - k) = R n)) m := fun m => by
          induction m with
          | zero => rfl
          | succ m ihm =>
            rw [zs, zc, ihm]
            by_cases h : R (n - 1 - m) = R n
            · simp [h]
            · simp [h]
        exact this n
      rw [h4]
      exact zc_rev (P := fun i => decide (R i = R n))
    have h5 : zs (fun j => zc (fun i => decide (R (n - 1 - i) = R (n - 1 - j))) j) n = zpp (fun k => R (n - 1 - k)) n := rfl
    rw [h3, h5, ih, zpp_s]
    have h6 : zc (fun i => decide (R (n + 1 - 1 - i) = R (n + 1 - 1 - 0))) 0 = 0 := rfl
    rw [h6]
    omega
/-- by runs: v rows done, r of the run, p pairs -/
def zru (R : Nat → Nat) (n v r p : Nat) : Prop := p + ztri r = zpp R v ∧ (v < n → r = zc (fun i => decide (R i = R v)) v) ∧ (v = n → r = 0)
theorem zru_0 {R : Nat → Nat} {n : Nat} : zru R n 0 0 0 := ⟨rfl, fun _ => rfl, fun _ => rfl⟩
theorem zru_end {R : Nat → Nat} {n r p : Nat} (h : zru R n n r p) : p = zpp R n := by
  have h1 := h.1
  rw [h.2.2 rfl] at h1
  exact h1
theorem zru_same {R : Nat → Nat} {n v r p : Nat} (h : zru R n v r p) (hv : v < n) (h1 : v + 1 < n) (e : R (v + 1) = R v) : zru R n (v + 1) (r + 1) p := by
  obtain ⟨a, b, _⟩ := h
  refine ⟨?_, fun _ => ?_, fun x => by omega⟩
  · rw [zpp_s, ztri_s, ← b hv]; omega
  · rw [zc_t (decide_eq_true e.symm), e, ← b hv]
theorem zru_next {R : Nat → Nat} {n v r p : Nat} (hm : ∀ i j, i ≤ j → j < n → R i ≤ R j) (h : zru R n v r p) (hv : v < n) (e : v + 1 = n ∨ R (v + 1) ≠ R v) : zru R n (v + 1) 0 (p + ztri (r + 1)) := by
  obtain ⟨a, b, _⟩ := h
  refine ⟨?_, fun h1 => ?_, fun _ => rfl⟩
  · rw [zpp_s, ztri_s, ← b hv]
    show p + (ztri r + r) + 0 = _
    omega
  · refine (zc_none (fun i hi => decide_eq_false (fun x => ?_))).symm
    have h2 := hm i v (by omega) hv
    have h3 := hm v (v + 1) (by omega) h1
    rcases e with e | e
    · omega
    · omega
theorem zpp_le {R : Nat → Nat} : ∀ {n : Nat}, zpp R n ≤ n * n
  | 0 => Nat.le_refl _
  | n + 1 => by
    have h1 := zpp_le (R := R) (n := n)
    have h2 := zc_le (P := fun i => decide (R i = R n)) (n := n)
    rw [zpp_s, show (n + 1) * (n + 1) = n * n + n + n + 1 by rw [Nat.mul_add, Nat.add_mul]; omega]
    omega
/-! free minutes: by trying, and by gaps. K: the bookings of the slide; D: its duration -/
def zcl (K : Nat → Bool) (T E : Nat → Nat) (n D m : Nat) : Prop := ∃ k, k < n ∧ K k = true ∧ T k < m + D ∧ m < E k
/-- by gaps: bookings that start before u are gone through, the minute is m -/
def zga (K : Nat → Bool) (T E : Nat → Nat) (n D f s u m : Nat) : Prop := f ≤ m ∧ (∀ x, f ≤ x → x < m → zcl K T E n D x) ∧ (∀ k, k < n → K k = true → T k < u → E k ≤ m) ∧ zc (fun k => K k && decide (u ≤ T k)) n + s ≤ n
theorem zga_0 {K : Nat → Bool} {T E : Nat → Nat} {n D f : Nat} : zga K T E n D f 0 0 f := ⟨Nat.le_refl _, fun x h1 h2 => by omega, fun k _ _ h => absurd h (Nat.not_lt_zero _), zc_le⟩
/-- b is the booking of K with the earliest start from u on -/
def zfi (K : Nat → Bool) (T : Nat → Nat) (n u b : Nat) : Prop := b < n ∧ K b = true ∧ u ≤ T b ∧ ∀ k, k < n → K k = true → u ≤ T k → T b ≤ T k
theorem zga_s {K : Nat → Bool} {T E : Nat → Nat} {n D f s u m b : Nat} (hE : ∀ k, k < n → K k = true → E k = T k + D) (h : zga K T E n D f s u m) (hb : zfi K T n u b) (ht : T b < m + D) : zga K T E n D f (s + 1) (T b + 1) (if m < E b then E b else m) := by
  obtain ⟨h1, h2, h3, h4⟩ := h
  obtain ⟨b1, b2, b3, b4⟩ := hb
  refine ⟨by split <;> omega, fun x hx1 hx2 => ?_, fun k k1 k2 k3 => ?_, ?_⟩
  · rcases Nat.lt_or_ge x m with z | z
    · exact h2 x hx1 z
    · refine ⟨b, b1, b2, by omega, ?_⟩
      split at hx2 <;> omega
  · rcases Nat.lt_or_ge (T k) u with z | z
    · have := h3 k k1 k2 z
      split <;> omega
    · have h5 := b4 k k1 k2 z
      have h6 := hE k k1 k2
      have h7 := hE b b1 b2
      split <;> omega
  · have := zc_lt (P := fun k => K k && decide (T b + 1 ≤ T k)) (Q := fun k => K k && decide (u ≤ T k)) (n := n) b (fun k _ hp => by
      rw [Bool.and_eq_true] at hp ⊢
      exact ⟨hp.1, decide_eq_true (by have := of_decide_eq_true hp.2; omega)⟩) b1 (by simp) (by simp [b2, b3])
    omega
/-- the minute is free if nothing is left that could be in the way -/
theorem zga_free {K : Nat → Bool} {T E : Nat → Nat} {n D f s u m : Nat} (h : zga K T E n D f s u m) (hn : ∀ k, k < n → K k = true → u ≤ T k → m + D ≤ T k) : ¬ zcl K T E n D m := by
  rintro ⟨k, h1, h2, h3, h4⟩
  rcases Nat.lt_or_ge (T k) u with z | z
  · have := h.2.2.1 k h1 h2 z; omega
  · have := hn k h1 h2 z; omega
theorem zga_full {K : Nat → Bool} {T E : Nat → Nat} {n D f u m : Nat} (h : zga K T E n D f n u m) : ∀ k, k < n → K k = true → ¬ u ≤ T k := fun k h1 h2 h3 => by
  have := zc_pos (P := fun k => K k && decide (u ≤ T k)) k h1 (by simp [h2, h3])
  have := h.2.2.2
  omega
