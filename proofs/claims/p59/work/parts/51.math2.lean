/-! the greatest number of bookings that don't meet: by earliest ends, and by a table of chains -/
def zI : Nat := 2147483647
/-- the earliest end among the first j bookings that start from e on -/
def zne (T E : Nat → Nat) (e : Nat) : Nat → Nat
  | 0 => zI
  | j + 1 => if e ≤ T j then (if E j < zne T E e j then E j else zne T E e j) else zne T E e j
theorem zne_le {T E : Nat → Nat} {e : Nat} : ∀ {n : Nat} (k : Nat), k < n → e ≤ T k → zne T E e n ≤ E k
  | 0, k, h, _ => absurd h (Nat.not_lt_zero k)
  | n + 1, k, h, he => by
    rw [zne]
    rcases Nat.lt_or_ge k n with z | z
    · have := zne_le (T := T) (E := E) k z he
      split
      · split <;> omega
      · exact this
    · have : k = n := by omega
      subst this
      rw [if_pos he]
      split <;> omega
theorem zne_ex {T E : Nat → Nat} {e : Nat} : ∀ {n : Nat}, zne T E e n ≠ zI → ∃ k, k < n ∧ e ≤ T k ∧ E k = zne T E e n
  | 0, h => absurd rfl h
  | n + 1, h => by
    rw [zne] at h ⊢
    split
    · rename_i h1
      split
      · exact ⟨n, by omega, h1, rfl⟩
      · rename_i h2
        rw [if_pos h1, if_neg h2] at h
        obtain ⟨k, h3, h4, h5⟩ := zne_ex h
        exact ⟨k, by omega, h4, h5⟩
    · rename_i h1
      rw [if_neg h1] at h
      obtain ⟨k, h3, h4, h5⟩ := zne_ex h
      exact ⟨k, by omega, h4, h5⟩
theorem zne_inf {T E : Nat → Nat} {e : Nat} {n : Nat} (h : ∀ k, k < n → T k < e) : zne T E e n = zI := by
  rcases Nat.decEq (zne T E e n) zI with z | z
  · obtain ⟨k, h1, h2, _⟩ := zne_ex z
    have := h k h1
    omega
  · exact z
/-- the ends of the bookings that are taken -/
def zes (T E : Nat → Nat) (n : Nat) : Nat → Nat
  | 0 => 0
  | i + 1 => zne T E (zes T E n i) n
/-- the greatest l of an earlier rank that ends in time -/
def zmb (t f l : Nat → Nat) (r : Nat) : Nat → Nat
  | 0 => 0
  | j + 1 => if t r < f j then zmb t f l r j else (if zmb t f l r j < l j then l j else zmb t f l r j)
theorem zmb_congr {t f l l' : Nat → Nat} {r : Nat} : ∀ {n : Nat}, (∀ k, k < n → l k = l' k) → zmb t f l r n = zmb t f l' r n
  | 0, _ => rfl
  | n + 1, h => by
    have h1 := zmb_congr (t := t) (f := f) (r := r) (n := n) (fun k hk => h k (by omega))
    simp only [zmb, h1, h n (by omega)]
theorem zmb_ge {t f l : Nat → Nat} {r : Nat} : ∀ {n : Nat} (k : Nat), k < n → f k ≤ t r → l k ≤ zmb t f l r n
  | 0, k, h, _ => absurd h (Nat.not_lt_zero k)
  | n + 1, k, h, hf => by
    rw [zmb]
    rcases Nat.lt_or_ge k n with z | z
    · have := zmb_ge (t := t) (f := f) (l := l) (r := r) k z hf
      split
      · exact this
      · split <;> omega
    · have : k = n := by omega
      subst this
      rw [if_neg (by omega)]
      split <;> omega
theorem zmb_ex {t f l : Nat → Nat} {r : Nat} : ∀ {n : Nat}, 0 < zmb t f l r n → ∃ k, k < n ∧ f k ≤ t r ∧ l k = zmb t f l r n
  | 0, h => absurd h (Nat.not_lt_zero 0)
  | n + 1, h => by
    rw [zmb] at h ⊢
    split
    · rename_i h1
      rw [if_pos h1] at h
      obtain ⟨k, h2, h3, h4⟩ := zmb_ex h
      exact ⟨k, by omega, h3, h4⟩
    · rename_i h1
      rw [if_neg h1] at h
      split
      · exact ⟨n, by omega, by omega, rfl⟩
      · rename_i h5
        rw [if_neg h5] at h
        obtain ⟨k, h2, h3, h4⟩ := zmb_ex h
        exact ⟨k, by omega, h3, h4⟩
/-- the table as it is filled -/
def ztb (t f : Nat → Nat) : Nat → Nat → Nat
  | 0 => fun _ => 0
  | r + 1 => fun j => if j = r then 1 + zmb t f (ztb t f r) r r else ztb t f r j
def zl (t f : Nat → Nat) (r : Nat) : Nat := ztb t f (r + 1) r
theorem ztb_old {t f : Nat → Nat} : ∀ {n : Nat} (r : Nat), r < n → ztb t f n r = zl t f r
  | 0, r, h => absurd h (Nat.not_lt_zero r)
  | n + 1, r, h => by
    rcases Nat.decEq r n with z | z
    · show (if r = n then _ else ztb t f n r) = _
      rw [if_neg z]
      exact ztb_old r (by omega)
    · subst z; rfl
theorem zl_eq {t f : Nat → Nat} (r : Nat) : zl t f r = 1 + zmb t f (zl t f) r r := by
  show (if r = r then 1 + zmb t f (ztb t f r) r r else ztb t f r r) = _
  rw [if_pos rfl, zmb_congr (fun k hk => ztb_old k hk)]
theorem zl_pos {t f : Nat → Nat} (r : Nat) : 1 ≤ zl t f r := by rw [zl_eq]; omega
theorem zl_le {t f : Nat → Nat} : ∀ (n r : Nat), r < n → zl t f r ≤ r + 1
  | 0, r, h => absurd h (Nat.not_lt_zero r)
  | n + 1, r, h => by
    rw [zl_eq]
    rcases Nat.eq_zero_or_pos (zmb t f (zl t f) r r) with z | z
    · omega
    · obtain ⟨k, hk, _, e⟩ := zmb_ex z
      have := zl_le (t := t) (f := f) n k (by omega)
      omega
section CHAIN
variable {T E : Nat → Nat} {n : Nat} {o : Nat → Nat}
/-- what the table and the order say of each other -/
def zch (T E : Nat → Nat) (n : Nat) (o : Nat → Nat) : Prop := (∀ k, k < n → T k < E k ∧ E k < zI) ∧ (∀ r, r < n → o r < n) ∧ (∀ k, k < n → ∃ r, r < n ∧ o r = k) ∧ (∀ r r', r < r' → r' < n → T (o r) ≤ T (o r'))
theorem zes_up (h : zch T E n o) : ∀ i, zes T E n i = zI ∨ zes T E n i < zes T E n (i + 1) ∧ True
  | i => by
    rcases Nat.decEq (zes T E n i) zI with z | z
    · right
      refine ⟨?_, trivial⟩
      show zes T E n i < zne T E (zes T E n i) n
      rcases Nat.decEq (zne T E (zes T E n i) n) zI with y | y
      · obtain ⟨k, h1, h2, h3⟩ := zne_ex y
        have := h.1 k h1
        omega
      · rw [y]
        have hle : ∀ i, zes T E n i ≤ zI := fun i => by
          cases i with
          | zero => exact Nat.zero_le _
          | succ i =>
            show zne T E (zes T E n i) n ≤ zI
            rcases Nat.decEq (zne T E (zes T E n i) n) zI with x | x
            · obtain ⟨k, h1, _, h3⟩ := zne_ex x
              have := h.1 k h1
              omega
            · rw [x]; exact Nat.le_refl _
        have := hle i
        omega
    · left; exact z
theorem zes_inf (h : zch T E n o) {i : Nat} (e : zes T E n i = zI) : zes T E n (i + 1) = zI := by
  show zne T E (zes T E n i) n = zI
  exact zne_inf (fun k hk => by have := h.1 k hk; omega)
theorem zes_inf2 (h : zch T E n o) {i : Nat} (e : zes T E n i = zI) : ∀ d, zes T E n (i + d) = zI
  | 0 => e
  | d + 1 => zes_inf h (zes_inf2 h e d)
/-- the i-th booking taken ends a chain of i at least -/
theorem zes_l (h : zch T E n o) : ∀ i, zes T E n (i + 1) ≠ zI → ∃ r, r < n ∧ E (o r) = zes T E n (i + 1) ∧ i + 1 ≤ zl (fun r => T (o r)) (fun r => E (o r)) r
  | 0, hi => by
    obtain ⟨k, h1, _, h3⟩ := zne_ex (show zne T E (zes T E n 0) n ≠ zI from hi)
    obtain ⟨r, h4, h5⟩ := h.2.2.1 k h1
    subst h5
    exact ⟨r, h4, h3, zl_pos r⟩
  | i + 1, hi => by
    have hi' : zes T E n (i + 1) ≠ zI := fun e => hi (zes_inf h e)
    obtain ⟨r, h1, h2, h3⟩ := zes_l h i hi'
    obtain ⟨k, h4, h5, h6⟩ := zne_ex (show zne T E (zes T E n (i + 1)) n ≠ zI from hi)
    obtain ⟨r', h7, h8⟩ := h.2.2.1 k h4
    subst h8
    have hr : r < r' := by
      have h10 := h.1 _ (h.2.1 r h1)
      rcases Nat.lt_or_ge r r' with z | z
      · exact z
      · rcases Nat.decEq r r' with y | y
        · have := h.2.2.2 r' r (by omega) h1
          omega
        · subst y; omega
    refine ⟨r', h7, h6, ?_⟩
    rw [zl_eq]
    have := zmb_ge (t := fun r => T (o r)) (f := fun r => E (o r)) (l := zl (fun r => T (o r)) (fun r => E (o r))) (r := r') (n := r') r hr (by show E (o r) ≤ T (o r'); omega)
    omega
/-- taking the earliest end stays ahead of each chain -/
theorem zl_es (h : zch T E n o) : ∀ (m r : Nat), r < m → r < n → zes T E n (zl (fun r => T (o r)) (fun r => E (o r)) r) ≤ E (o r)
  | 0, r, hm, _ => absurd hm (Nat.not_lt_zero r)
  | m + 1, r, hm, hr => by
    rw [zl_eq]
    rcases Nat.eq_zero_or_pos (zmb (fun r => T (o r)) (fun r => E (o r)) (zl (fun r => T (o r)) (fun r => E (o r))) r r) with z | z
    · rw [z]
      exact zne_le (o r) (h.2.1 r hr) (Nat.zero_le _)
    · obtain ⟨k, h1, h2, h3⟩ := zmb_ex z
      have h4 := zl_es h m k (by omega) (by omega)
      rw [← h3, Nat.add_comm 1]
      exact zne_le (o r) (h.2.1 r hr) (by have h5 : E (o k) ≤ T (o r) := h2; omega)
/-- c bookings are taken -/
def zgc (T E : Nat → Nat) (n c : Nat) : Prop := (∀ i, i < c → zes T E n (i + 1) ≠ zI) ∧ zes T E n (c + 1) = zI
theorem zgc_one {c d : Nat} (h : zch T E n o) (hc : zgc T E n c) (hd : zgc T E n d) : c = d := by
  rcases Nat.lt_or_ge c d with z | z
  · exact absurd hc.2 (hd.1 c z)
  · rcases Nat.lt_or_ge d c with y | y
    · exact absurd hd.2 (hc.1 d y)
    · omega
theorem zgc_ex (h : zch T E n o) : ∃ c, c ≤ n ∧ zgc T E n c := by
  have hb : ∀ i, zes T E n (i + 1) ≠ zI → i + 1 ≤ n := fun i hi => by
    obtain ⟨r, h1, _, h3⟩ := zes_l h i hi
    have := zl_le (t := fun r => T (o r)) (f := fun r => E (o r)) n r h1
    omega
  have hs : ∀ d m, m + d = n → (∀ i, i < m → zes T E n (i + 1) ≠ zI) → ∃ c, c ≤ n ∧ zgc T E n c := fun d => by
    induction d with
    | zero =>
      intro m hm hi
      refine ⟨m, by omega, hi, ?_⟩
      rcases Nat.decEq (zes T E n (m + 1)) zI with z | z
      · have := hb m z; omega
      · exact z
    | succ d ih =>
      intro m hm hi
      rcases Nat.decEq (zes T E n (m + 1)) zI with z | z
      · refine ih (m + 1) (by omega) (fun i h1 => ?_)
        rcases Nat.lt_or_ge i m with y | y
        · exact hi i y
        · have : i = m := by omega
          subst this; exact z
      · exact ⟨m, by omega, hi, z⟩
  exact hs n 0 (by omega) (fun i hi => absurd hi (Nat.not_lt_zero i))
theorem zgc_zm (h : zch T E n o) {c : Nat} (hc : zgc T E n c) : zm (zl (fun r => T (o r)) (fun r => E (o r))) n = c := by
  apply Nat.le_antisymm
  · refine zm_le (fun r hr => ?_)
    rcases Nat.lt_or_ge c (zl (fun r => T (o r)) (fun r => E (o r)) r) with z | z
    · have h1 := zl_es h (r + 1) r (by omega) hr
      have h2 := zes_inf2 h hc.2 (zl (fun r => T (o r)) (fun r => E (o r)) r - (c + 1))
      rw [show c + 1 + (zl (fun r => T (o r)) (fun r => E (o r)) r - (c + 1)) = zl (fun r => T (o r)) (fun r => E (o r)) r by omega] at h2
      have h3 := h.1 _ (h.2.1 r hr)
      omega
    · exact z
  · cases c with
    | zero => exact Nat.zero_le _
    | succ c =>
      obtain ⟨r, h1, _, h3⟩ := zes_l h c (hc.1 c (by omega))
      have := zm_ge (f := zl (fun r => T (o r)) (fun r => E (o r))) r h1
      omega
end CHAIN
/-! the greatest number at once: for each start, and by a sweep -/
def zA (T E : Nat → Nat) (n t : Nat) : Nat := zc (fun k => decide (T k ≤ t ∧ t < E k)) n
/-- the next start or end from u on -/
def znx (T E : Nat → Nat) (u : Nat) : Nat → Nat
  | 0 => zI
  | j + 1 => if T j < u then (if E j < u then znx T E u j else (if E j < znx T E u j then E j else znx T E u j)) else (if E j < u then (if T j < znx T E u j then T j else znx T E u j) else (if E j < (if T j < znx T E u j then T j else znx T E u j) then E j else (if T j < znx T E u j then T j else znx T E u j)))
theorem znx_le {T E : Nat → Nat} {u : Nat} : ∀ {n : Nat} (k : Nat), k < n → (u ≤ T k → znx T E u n ≤ T k) ∧ (u ≤ E k → znx T E u n ≤ E k)
  | 0, k, h => absurd h (Nat.not_lt_zero k)
  | n + 1, k, h => by
    rcases Nat.lt_or_ge k n with z | z
    · have := znx_le (T := T) (E := E) (u := u) k z
      have h1 : znx T E u (n + 1) ≤ znx T E u n := by
        rw [znx]
        repeat' split
        all_goals omega
      omega
    · have : k = n := by omega
      subst this
      rw [znx]
      repeat' split
      all_goals omega
theorem znx_ex {T E : Nat → Nat} {u : Nat} : ∀ {n : Nat}, znx T E u n ≠ zI → ∃ k, k < n ∧ (u ≤ T k ∧ T k = znx T E u n ∨ u ≤ E k ∧ E k = znx T E u n)
  | 0, h => absurd rfl h
  | n + 1, h => by
    have hh : znx T E u (n + 1) = znx T E u n ∨ (u ≤ T n ∧ T n = znx T E u (n + 1) ∨ u ≤ E n ∧ E n = znx T E u (n + 1)) := by
      rw [znx]
      repeat' split
      all_goals omega
    rcases hh with e | e
    · rw [e] at h ⊢
      obtain ⟨k, h1, h2⟩ := znx_ex h
      exact ⟨k, by omega, h2⟩
    · exact ⟨n, by omega, e⟩
theorem znx_hi {T E : Nat → Nat} {u n : Nat} (h : ∀ k, k < n → T k < E k ∧ E k < zI) : znx T E u n ≤ zI := by
  rcases Nat.decEq (znx T E u n) zI with x | x
  · obtain ⟨k, h1, h2⟩ := znx_ex x
    have := h k h1
    omega
  · rw [x]; exact Nat.le_refl _
theorem znx_ge {T E : Nat → Nat} {u n : Nat} (hu : u ≤ zI) : u ≤ znx T E u n := by
  rcases Nat.decEq (znx T E u n) zI with x | x
  · obtain ⟨k, h1, h2⟩ := znx_ex x
    omega
  · rw [x]; exact hu
/-- starts at t, ends at t -/
def zst (T : Nat → Nat) (n t : Nat) : Nat := zc (fun k => decide (T k = t)) n
/-- how many bookings take place at t, from those before u -/
def zB (T E : Nat → Nat) (n u : Nat) : Nat := zc (fun k => decide (T k < u ∧ u ≤ E k)) n
theorem zB_step {T E : Nat → Nat} {u t : Nat} : ∀ {n : Nat}, (∀ k, k < n → T k < E k) → u ≤ t → (∀ k, k < n → (T k < u ∨ t ≤ T k) ∧ (E k < u ∨ t ≤ E k)) → zB T E n u + zst T n t = zB T E n (t + 1) + zst E n t
  | 0, _, _, _ => rfl
  | n + 1, h, hu, hn => by
    have ih := zB_step (n := n) (fun k hk => h k (by omega)) hu (fun k hk => hn k (by omega))
    have h1 := h n (by omega)
    have h2 := hn n (by omega)
    simp only [zB, zst] at ih ⊢
    simp only [zc, decide_eq_true_eq]
    repeat' split
    all_goals omega
theorem zB_A {T E : Nat → Nat} {t n : Nat} : zB T E n (t + 1) = zA T E n t := zc_congr (fun k _ => by
  show decide (T k < t + 1 ∧ t + 1 ≤ E k) = decide (T k ≤ t ∧ t < E k)
  rw [decide_eq_decide]; omega)
/-- among those that satisfy P, one with the greatest f -/
theorem zbest {P : Nat → Prop} {f : Nat → Nat} : ∀ n, (∃ k, k < n ∧ P k) → ∃ k, k < n ∧ P k ∧ ∀ i, i < n → P i → f i ≤ f k
  | 0, ⟨k, h, _⟩ => absurd h (Nat.not_lt_zero k)
  | n + 1, ⟨k, h1, h2⟩ => by
    by_cases hp : ∃ k, k < n ∧ P k
    · obtain ⟨b, g1, g2, g3⟩ := zbest (P := P) (f := f) n hp
      by_cases hj : P n ∧ f b < f n
      · refine ⟨n, by omega, hj.1, fun i a1 a2 => ?_⟩
        rcases Nat.lt_or_ge i n with y | y
        · have := g3 i y a2; omega
        · have : i = n := by omega
          subst this; omega
      · refine ⟨b, by omega, g2, fun i a1 a2 => ?_⟩
        rcases Nat.lt_or_ge i n with y | y
        · exact g3 i y a2
        · have : i = n := by omega
          subst this
          rcases Nat.lt_or_ge (f b) (f i) with x | x
          · exact absurd ⟨a2, x⟩ hj
          · exact x
    · refine ⟨k, h1, h2, fun i a1 a2 => ?_⟩
      rcases Nat.lt_or_ge i n with y | y
      · exact absurd ⟨i, y, a2⟩ hp
      · rcases Nat.lt_or_ge k n with x | x
        · exact absurd ⟨k, x, h2⟩ hp
        · have : i = k := by omega
          subst this; exact Nat.le_refl _
/-- the number at any time is at most that at some start -/
theorem zA_le {T E : Nat → Nat} {n t : Nat} : zA T E n t ≤ zm (fun k => zA T E n (T k)) n := by
  rcases Nat.eq_zero_or_pos (zA T E n t) with z | z
  · omega
  · obtain ⟨k0, hk0, hq⟩ := zc_ex z
    obtain ⟨k, h1, h2, h3⟩ := zbest (P := fun k => T k ≤ t ∧ t < E k) (f := T) n ⟨k0, hk0, of_decide_eq_true hq⟩
    have h4 : zA T E n t ≤ zA T E n (T k) := zc_mono (fun j hj hp => by
      have h5 := of_decide_eq_true hp
      have h6 := h3 j hj h5
      exact decide_eq_true (by omega))
    exact Nat.le_trans h4 (zm_ge (f := fun k => zA T E n (T k)) k h1)
/-- how many starts and ends there are from u on -/
def zd (T E : Nat → Nat) (n u : Nat) : Nat := zc (fun k => decide (u ≤ T k)) n + zc (fun k => decide (u ≤ E k)) n
theorem zd_le {T E : Nat → Nat} {n u : Nat} : zd T E n u ≤ 2 * n := by
  have h1 := zc_le (P := fun k => decide (u ≤ T k)) (n := n)
  have h2 := zc_le (P := fun k => decide (u ≤ E k)) (n := n)
  unfold zd; omega
theorem zd_step {T E : Nat → Nat} {n u : Nat} (h : znx T E u n ≠ zI) : zd T E n (znx T E u n + 1) < zd T E n u := by
  obtain ⟨k, h1, h2⟩ := znx_ex h
  have hT : ∀ j, j < n → decide (znx T E u n + 1 ≤ T j) = true → decide (u ≤ T j) = true := fun j _ hp => by
    have := of_decide_eq_true hp
    refine decide_eq_true ?_
    rcases h2 with h2 | h2 <;> omega
  have hE : ∀ j, j < n → decide (znx T E u n + 1 ≤ E j) = true → decide (u ≤ E j) = true := fun j _ hp => by
    have := of_decide_eq_true hp
    refine decide_eq_true ?_
    rcases h2 with h2 | h2 <;> omega
  have m1 := zc_mono hT
  have m2 := zc_mono hE
  unfold zd
  rcases h2 with h2 | h2
  · have := zc_lt k hT h1 (decide_eq_false (by omega)) (decide_eq_true h2.1)
    omega
  · have := zc_lt k hE h1 (decide_eq_false (by omega)) (decide_eq_true h2.1)
    omega
theorem zd_none {T E : Nat → Nat} {n u : Nat} (h : zd T E n u = 0) (k : Nat) (hk : k < n) : T k < u ∧ E k < u := by
  unfold zd at h
  have h1 := of_decide_eq_false (zc_all0 (P := fun k => decide (u ≤ T k)) (by omega) k hk)
  have h2 := of_decide_eq_false (zc_all0 (P := fun k => decide (u ≤ E k)) (by omega) k hk)
  omega
theorem zd_inf {T E : Nat → Nat} {n u : Nat} (h : znx T E u n = zI) (hb : ∀ k, k < n → T k < E k ∧ E k < zI) : zd T E n u = 0 := by
  have h1 : zc (fun k => decide (u ≤ T k)) n = 0 := zc_none (fun k hk => decide_eq_false (fun e => by
    have h3 := (znx_le (T := T) (E := E) (u := u) k hk).1 e
    have := hb k hk
    omega))
  have h2 : zc (fun k => decide (u ≤ E k)) n = 0 := zc_none (fun k hk => decide_eq_false (fun e => by
    have h3 := (znx_le (T := T) (E := E) (u := u) k hk).2 e
    have := hb k hk
    omega))
  unfold zd; omega
/-! the sweep: s steps done, the next stop is sought from u on, c at once, m the greatest so far -/
def zsw (T E : Nat → Nat) (n s u c m : Nat) : Prop := u ≤ zI + 1 ∧ c = zB T E n u ∧ zd T E n u + s ≤ 2 * n ∧ m ≤ zm (fun k => zA T E n (T k)) n ∧ (∀ k, k < n → T k < u → zA T E n (T k) ≤ m)
theorem zsw_0 {T E : Nat → Nat} {n : Nat} : zsw T E n 0 0 0 0 := by
  refine ⟨Nat.zero_le _, ?_, ?_, Nat.zero_le _, fun k _ h => absurd h (Nat.not_lt_zero _)⟩
  · exact (zc_none (fun k _ => decide_eq_false (by omega))).symm
  · exact zd_le
theorem zsw_end {T E : Nat → Nat} {n u c m : Nat} (h : zsw T E n (2 * n) u c m) : m = zm (fun k => zA T E n (T k)) n := by
  obtain ⟨h1, h2, h3, h4, h5⟩ := h
  refine Nat.le_antisymm h4 (zm_le (fun k hk => h5 k hk ?_))
  exact (zd_none (T := T) (E := E) (n := n) (by omega) k hk).1
theorem zB_inf {T E : Nat → Nat} {n : Nat} (hb : ∀ k, k < n → T k < E k ∧ E k < zI) : zB T E n (zI + 1) = 0 := zc_none (fun k hk => decide_eq_false (by have := hb k hk; omega))
theorem zst_inf {T : Nat → Nat} {n : Nat} (hb : ∀ k, k < n → T k < zI) : zst T n zI = 0 := zc_none (fun k hk => decide_eq_false (by have := hb k hk; omega))
theorem zd_big {T E : Nat → Nat} {n : Nat} (hb : ∀ k, k < n → T k < E k ∧ E k < zI) : zd T E n (zI + 1) = 0 := by
  unfold zd
  rw [zc_none (fun k hk => decide_eq_false (by have := hb k hk; omega)), zc_none (fun k hk => decide_eq_false (by have := hb k hk; omega))]
theorem znx_big {T E : Nat → Nat} {n : Nat} (hb : ∀ k, k < n → T k < E k ∧ E k < zI) : znx T E (zI + 1) n = zI := by
  rcases Nat.decEq (znx T E (zI + 1) n) zI with x | x
  · obtain ⟨k, h1, h2⟩ := znx_ex x
    have := hb k h1
    omega
  · exact x
theorem zsw_s {T E : Nat → Nat} {n s u c m : Nat} (hb : ∀ k, k < n → T k < E k ∧ E k < zI) (hs : s < 2 * n) (h : zsw T E n s u c m) : zB T E n (znx T E u n + 1) + zst E n (znx T E u n) = c + zst T n (znx T E u n) ∧ zsw T E n (s + 1) (znx T E u n + 1) (zB T E n (znx T E u n + 1)) (if m < zB T E n (znx T E u n + 1) then zB T E n (znx T E u n + 1) else m) := by
  obtain ⟨h1, h2, h3, h4, h5⟩ := h
  rcases Nat.lt_or_ge zI u with hu | hu
  · have e : u = zI + 1 := by omega
    subst e
    rw [znx_big hb, zB_inf hb] at *
    rw [zst_inf (fun k hk => (hb k hk).2), zst_inf (fun k hk => by have := hb k hk; omega), h2]
    refine ⟨rfl, Nat.le_refl _, (zB_inf hb).symm, by rw [zd_big hb]; omega, ?_, ?_⟩
    · rw [if_neg (Nat.not_lt_zero m)]; exact h4
    · rw [if_neg (Nat.not_lt_zero m)]; exact h5
  · have hge := znx_ge (T := T) (E := E) (n := n) hu
    have hn : ∀ k, k < n → (T k < u ∨ znx T E u n ≤ T k) ∧ (E k < u ∨ znx T E u n ≤ E k) := fun k hk => by
      have := znx_le (T := T) (E := E) (u := u) k hk
      omega
    have hst := zB_step (fun k hk => (hb k hk).1) hge hn
    refine ⟨by rw [h2]; omega, ?_, rfl, ?_, ?_, ?_⟩
    · have := znx_hi (u := u) hb
      omega
    · rcases Nat.decEq (znx T E u n) zI with x | x
      · have := zd_step x
        omega
      · have h6 := zd_inf x hb
        have h7 : zd T E n (znx T E u n + 1) = 0 := by
          rw [x]
          exact zd_big hb
        omega
    · have h6 : zB T E n (znx T E u n + 1) ≤ zm (fun k => zA T E n (T k)) n := by
        rw [zB_A]; exact zA_le
      split
      · exact h6
      · exact h4
    · intro k hk hT
      rcases Nat.lt_or_ge (T k) u with z | z
      · have := h5 k hk z
        split <;> omega
      · have : T k = znx T E u n := by
          have := (znx_le (T := T) (E := E) (u := u) k hk).1 z
          omega
        rw [this, ← zB_A]
        split <;> omega
