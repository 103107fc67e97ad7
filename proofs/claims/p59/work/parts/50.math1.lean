/-! counting, sums, greatest values over the first n numbers -/
def zc (P : Nat → Bool) : Nat → Nat
  | 0 => 0
  | n + 1 => zc P n + (if P n = true then 1 else 0)
def zs (f : Nat → Nat) : Nat → Nat
  | 0 => 0
  | n + 1 => zs f n + f n
def zm (f : Nat → Nat) : Nat → Nat
  | 0 => 0
  | n + 1 => if zm f n < f n then f n else zm f n
theorem zc_t {P : Nat → Bool} {n : Nat} (h : P n = true) : zc P (n + 1) = zc P n + 1 := by simp only [zc, h, if_true]
theorem zc_f {P : Nat → Bool} {n : Nat} (h : P n = false) : zc P (n + 1) = zc P n := by simp [zc, h]
theorem zc_congr {P Q : Nat → Bool} : ∀ {n : Nat}, (∀ k, k < n → P k = Q k) → zc P n = zc Q n
  | 0, _ => rfl
  | n + 1, h => by
    have h1 := zc_congr (n := n) (fun k hk => h k (by omega))
    simp only [zc, h1, h n (by omega)]
theorem zc_le {P : Nat → Bool} : ∀ {n : Nat}, zc P n ≤ n
  | 0 => Nat.le_refl _
  | n + 1 => by
    have h1 := zc_le (P := P) (n := n)
    rcases Bool.eq_false_or_eq_true (P n) with h | h
    · rw [zc_t h]; omega
    · rw [zc_f h]; omega
theorem zc_mono {P Q : Nat → Bool} : ∀ {n : Nat}, (∀ k, k < n → P k = true → Q k = true) → zc P n ≤ zc Q n
  | 0, _ => Nat.le_refl _
  | n + 1, h => by
    have h1 := zc_mono (n := n) (fun k hk => h k (by omega))
    have h2 := h n (by omega)
    rcases Bool.eq_false_or_eq_true (P n) with hp | hp
    · rw [zc_t hp, zc_t (h2 hp)]; omega
    · rw [zc_f hp]
      rcases Bool.eq_false_or_eq_true (Q n) with hq | hq
      · rw [zc_t hq]; omega
      · rw [zc_f hq]; omega
theorem zc_lt {P Q : Nat → Bool} : ∀ {n : Nat} (j : Nat), (∀ k, k < n → P k = true → Q k = true) → j < n → P j = false → Q j = true → zc P n < zc Q n
  | 0, j, _, hj, _, _ => absurd hj (Nat.not_lt_zero j)
  | n + 1, j, h, hj, hp, hq => by
    have hm := zc_mono (n := n) (fun k hk => h k (by omega))
    rcases Nat.lt_or_ge j n with z | z
    · have h1 := zc_lt (n := n) j (fun k hk => h k (by omega)) z hp hq
      have h2 := h n (by omega)
      rcases Bool.eq_false_or_eq_true (P n) with hp' | hp'
      · rw [zc_t hp', zc_t (h2 hp')]; omega
      · rw [zc_f hp']
        rcases Bool.eq_false_or_eq_true (Q n) with hq' | hq'
        · rw [zc_t hq']; omega
        · rw [zc_f hq']; omega
    · have : j = n := by omega
      subst this
      rw [zc_f hp, zc_t hq]; omega
theorem zc_pos {P : Nat → Bool} {n : Nat} (j : Nat) (hj : j < n) (hp : P j = true) : 0 < zc P n := by
  have h := zc_lt (P := fun _ => false) (Q := P) (n := n) j (fun _ _ h => by simp at h) hj rfl hp
  omega
theorem zc_none {P : Nat → Bool} : ∀ {n : Nat}, (∀ k, k < n → P k = false) → zc P n = 0
  | 0, _ => rfl
  | n + 1, h => by rw [zc_f (h n (by omega))]; exact zc_none (fun k hk => h k (by omega))
theorem zc_all0 {P : Nat → Bool} {n : Nat} (h : zc P n = 0) (k : Nat) (hk : k < n) : P k = false := by
  rcases Bool.eq_false_or_eq_true (P k) with hp | hp
  · have := zc_pos k hk hp; omega
  · exact hp
theorem zc_ex {P : Nat → Bool} : ∀ {n : Nat}, 0 < zc P n → ∃ k, k < n ∧ P k = true
  | 0, h => absurd h (Nat.not_lt_zero 0)
  | n + 1, h => by
    rcases Bool.eq_false_or_eq_true (P n) with hp | hp
    · exact ⟨n, by omega, hp⟩
    · rw [zc_f hp] at h
      obtain ⟨k, hk, hq⟩ := zc_ex h
      exact ⟨k, by omega, hq⟩
/-- the count without one that counts -/
theorem zc_ltn {P : Nat → Bool} {n : Nat} (j : Nat) (hj : j < n) (hp : P j = false) : zc P n < n := by
  have h := zc_lt (P := P) (Q := fun _ => true) (n := n) j (fun _ _ _ => rfl) hj hp rfl
  have h2 := zc_le (P := fun _ => true) (n := n)
  omega
theorem zc_shift {P : Nat → Bool} : ∀ {n : Nat}, zc P (n + 1) = (if P 0 = true then 1 else 0) + zc (fun k => P (k + 1)) n
  | 0 => by simp [zc]
  | n + 1 => by
    have h1 := zc_shift (P := P) (n := n)
    rw [zc, h1]
    simp only [zc]
    omega
theorem zc_rev {P : Nat → Bool} : ∀ {n : Nat}, zc (fun k => P (n - 1 - k)) n = zc P n
  | 0 => rfl
  | n + 1 => by
    have h1 := zc_rev (P := P) (n := n)
    rw [zc_shift]
    have h2 : zc (fun k => P (n + 1 - 1 - (k + 1))) n = zc (fun k => P (n - 1 - k)) n := zc_congr (fun k hk => by rw [show n + 1 - 1 - (k + 1) = n - 1 - k by omega])
    rw [h2, h1, zc]
    simp only [show n + 1 - 1 - 0 = n by omega]
    omega
theorem zs_congr {f g : Nat → Nat} : ∀ {n : Nat}, (∀ k, k < n → f k = g k) → zs f n = zs g n
  | 0, _ => rfl
  | n + 1, h => by
    have h1 := zs_congr (n := n) (fun k hk => h k (by omega))
    simp only [zs, h1, h n (by omega)]
theorem zs_add {f g : Nat → Nat} : ∀ {n : Nat}, zs (fun k => f k + g k) n = zs f n + zs g n
  | 0 => rfl
  | n + 1 => by simp only [zs, zs_add (f := f) (g := g) (n := n)]; omega
theorem zs_shift {f : Nat → Nat} : ∀ {n : Nat}, zs f (n + 1) = f 0 + zs (fun k => f (k + 1)) n
  | 0 => by simp [zs]
  | n + 1 => by
    have h1 := zs_shift (f := f) (n := n)
    rw [zs, h1]
    simp only [zs]
    omega
theorem zs_le {f : Nat → Nat} : ∀ {n : Nat} (j : Nat), j < n → f j ≤ zs f n
  | 0, j, h => absurd h (Nat.not_lt_zero j)
  | n + 1, j, h => by
    rcases Nat.lt_or_ge j n with z | z
    · have := zs_le (f := f) j z
      simp only [zs]; omega
    · have : j = n := by omega
      subst this
      simp only [zs]; omega
/-- one summand changed -/
theorem zs_set {f g : Nat → Nat} : ∀ {n : Nat} (j : Nat), j < n → (∀ k, k < n → k ≠ j → f k = g k) → zs f n + g j = zs g n + f j
  | 0, j, h, _ => absurd h (Nat.not_lt_zero j)
  | n + 1, j, h, hfg => by
    rcases Nat.lt_or_ge j n with z | z
    · have h1 := zs_set (n := n) j z (fun k hk => hfg k (by omega))
      simp only [zs, hfg n (by omega) (by omega)]; omega
    · have : j = n := by omega
      subst this
      have h1 : zs f j = zs g j := zs_congr (fun k hk => hfg k (by omega) (by omega))
      simp only [zs, h1]; omega
/-- one summand taken out -/
theorem zs_drop {f : Nat → Nat} : ∀ {n : Nat} (j : Nat), j ≤ n → zs (fun k => f (if k < j then k else k + 1)) n + f j = zs f (n + 1)
  | 0, j, h => by
    have : j = 0 := by omega
    subst this
    simp [zs]
  | n + 1, j, h => by
    rcases Nat.lt_or_ge n j with z | z
    · have : j = n + 1 := by omega
      subst this
      have h1 : zs (fun k => f (if k < n + 1 then k else k + 1)) (n + 1) = zs f (n + 1) := zs_congr (fun k hk => by rw [if_pos hk])
      rw [h1]; rfl
    · have h1 := zs_drop (f := f) (n := n) j z
      rw [zs, zs, if_neg (by omega)]
      omega
theorem zm_ge {f : Nat → Nat} : ∀ {n : Nat} (j : Nat), j < n → f j ≤ zm f n
  | 0, j, h => absurd h (Nat.not_lt_zero j)
  | n + 1, j, h => by
    rw [zm]
    rcases Nat.lt_or_ge j n with z | z
    · have := zm_ge (f := f) j z
      split <;> omega
    · have : j = n := by omega
      subst this
      split <;> omega
theorem zm_le {f : Nat → Nat} {m : Nat} : ∀ {n : Nat}, (∀ k, k < n → f k ≤ m) → zm f n ≤ m
  | 0, _ => Nat.zero_le _
  | n + 1, h => by
    have h1 := zm_le (f := f) (n := n) (fun k hk => h k (by omega))
    have h2 := h n (by omega)
    rw [zm]
    split <;> omega
theorem zm_ex {f : Nat → Nat} : ∀ {n : Nat}, 0 < zm f n → ∃ k, k < n ∧ f k = zm f n
  | 0, h => absurd h (Nat.not_lt_zero 0)
  | n + 1, h => by
    rw [zm] at h ⊢
    split
    · exact ⟨n, by omega, rfl⟩
    · rename_i hc
      rw [if_neg hc] at h
      obtain ⟨k, hk, e⟩ := zm_ex h
      exact ⟨k, by omega, e⟩
theorem zm_congr {f g : Nat → Nat} : ∀ {n : Nat}, (∀ k, k < n → f k = g k) → zm f n = zm g n
  | 0, _ => rfl
  | n + 1, h => by
    have h1 := zm_congr (n := n) (fun k hk => h k (by omega))
    simp only [zm, h1, h n (by omega)]
/-! an injection of n numbers into themselves meets each -/
theorem zp_onto : ∀ (n : Nat) (f : Nat → Nat), (∀ k, k < n → f k < n) → (∀ i j, i < n → j < n → f i = f j → i = j) → ∀ r, r < n → ∃ k, k < n ∧ f k = r
  | 0, _, _, _, r, h => absurd h (Nat.not_lt_zero r)
  | n + 1, f, hf, hi, r, hr => by
    have hn := hf n (by omega)
    have hv : ∀ k, k < n → f k = n → f n < n := fun k hk e => by
      have h1 : f n ≠ n := fun e2 => by
        have := hi k n (by omega) (by omega) (by omega)
        omega
      omega
    have hb : ∀ k, k < n → (if f k = n then f n else f k) < n := fun k hk => by
      split
      · rename_i e; exact hv k hk e
      · rename_i e
        have := hf k (by omega)
        omega
    have hj : ∀ i j, i < n → j < n → (if f i = n then f n else f i) = (if f j = n then f n else f j) → i = j := fun i j h1 h2 e => by
      split at e
      · rename_i e1
        split at e
        · rename_i e2
          exact hi i j (by omega) (by omega) (by omega)
        · have := hi n j (by omega) (by omega) e
          omega
      · split at e
        · have := hi i n (by omega) (by omega) e
          omega
        · exact hi i j (by omega) (by omega) e
    rcases Nat.lt_or_ge (f n) n with z | z
    · rcases Nat.lt_or_ge r n with y | y
      · obtain ⟨k, hk, e⟩ := zp_onto n (fun k => if f k = n then f n else f k) hb hj r y
        replace e : (if f k = n then f n else f k) = r := e
        split at e
        · exact ⟨n, by omega, e⟩
        · exact ⟨k, by omega, e⟩
      · obtain ⟨k, hk, e⟩ := zp_onto n (fun k => if f k = n then f n else f k) hb hj (f n) z
        replace e : (if f k = n then f n else f k) = f n := e
        split at e
        · rename_i e1; exact ⟨k, by omega, by omega⟩
        · have := hi k n (by omega) (by omega) e
          omega
    · rcases Nat.lt_or_ge r n with y | y
      · obtain ⟨k, hk, e⟩ := zp_onto n (fun k => if f k = n then f n else f k) hb hj r y
        replace e : (if f k = n then f n else f k) = r := e
        split at e
        · rename_i e1
          have := hv k hk e1
          omega
        · exact ⟨k, by omega, e⟩
      · exact ⟨n, by omega, by omega⟩
/-! ranks by an order b -/
def zrk (b : Nat → Nat → Bool) (n j : Nat) : Nat := zc (fun i => b i j) n
/-- b is a strict order of the numbers below n, any two of which it tells apart -/
def zo (b : Nat → Nat → Bool) (n : Nat) : Prop := (∀ i, i < n → b i i = false) ∧ (∀ i j k, i < n → j < n → k < n → b i j = true → b j k = true → b i k = true) ∧ (∀ i j, i < n → j < n → i ≠ j → b i j = true ∨ b j i = true)
theorem zrk_lt {b : Nat → Nat → Bool} {n : Nat} (h : zo b n) {j : Nat} (hj : j < n) : zrk b n j < n := zc_ltn j hj (h.1 j hj)
theorem zrk_mono {b : Nat → Nat → Bool} {n : Nat} (h : zo b n) {i j : Nat} (hi : i < n) (hj : j < n) (e : b i j = true) : zrk b n i < zrk b n j := zc_lt i (fun k hk hki => h.2.1 k i j hk hi hj hki e) hi (h.1 i hi) e
theorem zrk_inj {b : Nat → Nat → Bool} {n : Nat} (h : zo b n) {i j : Nat} (hi : i < n) (hj : j < n) (e : zrk b n i = zrk b n j) : i = j := by
  rcases Nat.decEq i j with z | z
  · rcases h.2.2 i j hi hj z with y | y
    · have := zrk_mono h hi hj y; omega
    · have := zrk_mono h hj hi y; omega
  · exact z
theorem zrk_onto {b : Nat → Nat → Bool} {n : Nat} (h : zo b n) {r : Nat} (hr : r < n) : ∃ k, k < n ∧ zrk b n k = r := zp_onto n (zrk b n) (fun _ hk => zrk_lt h hk) (fun _ _ h1 h2 e => zrk_inj h h1 h2 e) r hr
theorem zrk_back {b : Nat → Nat → Bool} {n : Nat} (h : zo b n) {i j : Nat} (hi : i < n) (hj : j < n) (e : zrk b n i < zrk b n j) : b i j = true := by
  rcases Nat.decEq i j with z | z
  · rcases h.2.2 i j hi hj z with y | y
    · exact y
    · have := zrk_mono h hj hi y; omega
  · subst z; omega
/-- the numbers by their ranks -/
theorem zrk_ord {b : Nat → Nat → Bool} {n : Nat} (h : zo b n) : ∃ o : Nat → Nat, ∀ r, r < n → o r < n ∧ zrk b n (o r) = r := by
  refine ⟨fun r => if hr : r < n then (zrk_onto h hr).choose else 0, fun r hr => ?_⟩
  dsimp only
  rw [dif_pos hr]
  exact (zrk_onto h hr).choose_spec
