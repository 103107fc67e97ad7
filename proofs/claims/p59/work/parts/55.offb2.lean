/-! the office's bookings: the sweep, the removal -/
section OFFB2
variable {n : Nat} {bg bs bt be : Nat → Int32} {G S T E : Nat → Nat}
set_option maxHeartbeats 1000000 in
theorem lo_nx (h : zHB n bg bs bt be G S T E) {u : Nat} {p : Int32} (hp : p.toInt = (u : Int) - 1) {k : Int32 → Option Int32} : ∀ m j, j ≤ n → n - j < m → f_X1_nextStartOrEnd_L5 (nI n) bt be p k m (nI j) (nI (znx T E u j)) = k (nI (znx T E u n)) := by
  have hn := h.1
  have hI : ∀ j, znx T E u j < 2 ^ 31 ∨ n < j := fun j => by
    rcases Nat.lt_or_ge n j with y | y
    · exact Or.inr y
    · left
      have := znx_hi (T := T) (E := E) (u := u) (n := j) (fun i hi => by have := (h.2 i (by omega)).2; unfold zI; omega)
      unfold zI at this; omega
  intro m
  induction m with
  | zero => intro j hj hm; omega
  | succ m ih =>
    intro j hj hm
    rw [f_X1_nextStartOrEnd_L5]
    rcases Nat.lt_or_ge j n with z | z
    · obtain ⟨⟨h1, h2, h3, h4⟩, b1, b2, b3, b4, b5⟩ := h.2 j z
      have hnj : ¬ n ≤ j := by omega
      have hIj : znx T E u j < 2 ^ 31 := by
        rcases hI j with y | y
        · exact y
        · omega
      have ih1 := ih (j + 1) (by omega) (by omega)
      have hp1 : (nI (T j) ≤ p) = (T j < u) := nI_lep hp (by omega)
      have hp2 : (nI (E j) ≤ p) = (E j < u) := nI_lep hp (by omega)
      rw [znx] at ih1
      simp (disch := omega) only [sf_g, sf_b, sf_n, sf_c0, sf_c1, sf_c2, sf_c3, sf_c4, sf_c5, sf_c6, il_0, il_1, il_2, il_3, il_4, il_5, il_6, il_7, il_8, il_9, il_10, il_11, il_12, il_16, il_20, il_32, il_44, il_45, il_48, il_50, il_57, il_59, il_60, il_64, il_74, il_98, il_99, il_100, il_108, il_109, il_110, il_111, il_112, il_113, il_115, il_119, il_120, il_158, il_255, il_1106, il_2147483647, nI_add, nI_mul, nI_sub, nI_clamp, nI_inT, nI_eqP, nI_leP, nI_ltP, nI_neP, nI_nnP, nI_nlP, nI_nltP, nI_nleP, nI_div, nI_subneg, nI_if, if_true, if_false, ite_true, ite_false, ↓reduceIte, nI_spos, nI_szero, Nat.add_zero, sf_t1, sf_c7, sf_c8, sf_c9, n1_0, n4_0, n4_1, hnj, h3, h4, hp1, hp2]
      by_cases c1 : T j < u
      · by_cases c2 : E j < u
        · simp only [c1, c2, if_true] at ih1 ⊢
          exact ih1
        · simp only [c1, c2, if_true, if_false] at ih1 ⊢
          exact ih1
      · by_cases c2 : E j < u
        · simp only [c1, c2, if_true, if_false] at ih1 ⊢
          exact ih1
        · simp only [c1, c2, if_false] at ih1 ⊢
          by_cases c3 : T j < znx T E u j
          · simp (disch := omega) only [c3, if_true, nI_ltP] at ih1 ⊢
            exact ih1
          · simp (disch := omega) only [c3, if_false, nI_ltP] at ih1 ⊢
            exact ih1
    · have e : j = n := by omega
      subst e
      simp (disch := omega) only [sf_g, sf_b, sf_n, sf_c0, sf_c1, sf_c2, sf_c3, sf_c4, sf_c5, sf_c6, il_0, il_1, il_2, il_3, il_4, il_5, il_6, il_7, il_8, il_9, il_10, il_11, il_12, il_16, il_20, il_32, il_44, il_45, il_48, il_50, il_57, il_59, il_60, il_64, il_74, il_98, il_99, il_100, il_108, il_109, il_110, il_111, il_112, il_113, il_115, il_119, il_120, il_158, il_255, il_1106, il_2147483647, nI_add, nI_mul, nI_sub, nI_clamp, nI_inT, nI_eqP, nI_leP, nI_ltP, nI_neP, nI_nnP, nI_nlP, nI_nltP, nI_nleP, nI_div, nI_subneg, nI_if, if_true, if_false, ite_true, ite_false, ↓reduceIte, nI_spos, nI_szero, Nat.add_zero, sf_t1, sf_c7, sf_c8, sf_c9, n1_0, n4_0, n4_1, Nat.le_refl]
theorem fb_nx (h : zHB n bg bs bt be G S T E) {u : Nat} {p : Int32} (hp : p.toInt = (u : Int) - 1) : f_X1_nextStartOrEnd (nI n) bt be p = some (nI (znx T E u n)) := lo_nx h hp 2000 0 (Nat.zero_le _) (by have := h.1; omega)
theorem i_sub1 (x y : Int32) : x - y + nI 1 = x + nI 1 - y := by
  rw [Int32.sub_eq_add_neg, Int32.sub_eq_add_neg, Int32.add_assoc, Int32.add_comm (-y), ← Int32.add_assoc]
theorem i_sub2 (x y : Int32) : x - y + -nI 1 = x - (y + nI 1) := by
  rw [Int32.sub_eq_add_neg, Int32.sub_eq_add_neg, Int32.neg_add, Int32.sub_eq_add_neg, Int32.add_assoc]
set_option maxHeartbeats 1000000 in
theorem lo_sl (h : zHB n bg bs bt be G S T E) {t : Nat} (ht : t < 2 ^ 31) {k : Int32 → Option Int32} : ∀ m j, j ≤ n → n - j < m → f_X1_startsLessEndsAt_L4 (nI n) bt be (nI t) k m (nI j) (nI (zst T j t) - nI (zst E j t)) = k (nI (zst T n t) - nI (zst E n t)) := by
  have hn := h.1
  intro m
  induction m with
  | zero => intro j hj hm; omega
  | succ m ih =>
    intro j hj hm
    rw [f_X1_startsLessEndsAt_L4]
    rcases Nat.lt_or_ge j n with z | z
    · obtain ⟨⟨h1, h2, h3, h4⟩, b1, b2, b3, b4, b5⟩ := h.2 j z
      have hnj : (nI n ≤ nI j) = False := eq_false (by rw [nI_leP (by omega) (by omega)]; omega)
      have ih1 := ih (j + 1) (by omega) (by omega)
      have hin : (sf_in (nI j) 12 = true) = True := nI_inT (by omega) (by omega)
      have e1 : (nI (T j) = nI t) = (T j = t) := nI_eqP (by omega) ht
      have e2 : (nI (E j) = nI t) = (E j = t) := nI_eqP (by omega) ht
      have ej : nI j + nI 1 = nI (j + 1) := nI_add j 1
      have ec : (nI j).toNatClampNeg = j := nI_clamp (by omega)
      simp only [sf_b, sf_g, sf_n, hnj, hin, ec, h3, h4, e1, e2, if_true, if_false, il_1, ej]
      by_cases c1 : T j = t
      · have d1 : zst T (j + 1) t = zst T j t + 1 := zc_t (decide_eq_true c1)
        by_cases c2 : E j = t
        · have d2 : zst E (j + 1) t = zst E j t + 1 := zc_t (decide_eq_true c2)
          simp only [c1, c2, if_true]
          rw [i_sub1, i_sub2, nI_add, nI_add, ← d1, ← d2]
          exact ih1
        · have d2 : zst E (j + 1) t = zst E j t := zc_f (decide_eq_false c2)
          simp only [c1, c2, if_true, if_false]
          rw [i_sub1, nI_add, ← d1, ← d2]
          exact ih1
      · have d1 : zst T (j + 1) t = zst T j t := zc_f (decide_eq_false c1)
        by_cases c2 : E j = t
        · have d2 : zst E (j + 1) t = zst E j t + 1 := zc_t (decide_eq_true c2)
          simp only [c1, c2, if_true, if_false]
          rw [i_sub2, nI_add, ← d1, ← d2]
          exact ih1
        · have d2 : zst E (j + 1) t = zst E j t := zc_f (decide_eq_false c2)
          simp only [c1, c2, if_false]
          rw [← d1, ← d2]
          exact ih1
    · have e : j = n := by omega
      subst e
      simp (disch := omega) only [sf_b, nI_leP, Nat.le_refl, if_true]
theorem fb_sl (h : zHB n bg bs bt be G S T E) {t : Nat} (ht : t < 2 ^ 31) : f_X1_startsLessEndsAt (nI n) bt be (nI t) = some (nI (zst T n t) - nI (zst E n t)) := by
  have := lo_sl h ht (k := fun y => some y) 2000 0 (Nat.zero_le _) (by have := h.1; omega)
  have e0 : nI (zst T 0 t) - nI (zst E 0 t) = 0 := by
    show nI 0 - nI 0 = (0 : Int32)
    decide
  rw [e0] at this
  exact this
theorem i_addsub {a b c d : Nat} (h : d + b = c + a) : nI c + (nI a - nI b) = nI d := by
  rw [Int32.sub_eq_add_neg, ← Int32.add_assoc, ← Int32.sub_eq_add_neg, nI_add, nI_sub (by omega)]
  congr 1
  omega
theorem lo_sw (h : zHB n bg bs bt be G S T E) {k : Int32 → Option Int32} : ∀ m s, s ≤ 2 * n → 2 * n - s < m → ∀ (u c g : Nat) (p : Int32), p.toInt = (u : Int) - 1 → zsw T E n s u c g → f_X1_atOnceBySweeping_L9 (nI n) bt be k m (nI s) p (nI c) (nI g) = k (nI (zm (fun i => zA T E n (T i)) n)) := by
  have hn := h.1
  have hb : ∀ k, k < n → T k < E k ∧ E k < zI := fun i hi => by have := (h.2 i hi).2; unfold zI; omega
  have hA : ∀ t, zA T E n t ≤ 12 := fun t => by have := zc_le (P := fun k => decide (T k ≤ t ∧ t < E k)) (n := n); unfold zA; omega
  intro m
  induction m with
  | zero => intro s hs hm; omega
  | succ m ih =>
    intro s hs hm u c g p hp hz
    rw [f_X1_atOnceBySweeping_L9]
    rcases Nat.lt_or_ge s (2 * n) with z | z
    · have h1 := zsw_s hb z hz
      have hx : znx T E u n < 2 ^ 31 := by
        have := znx_hi (u := u) hb
        unfold zI at this; omega
      have h2 := ih (s + 1) (by omega) (by omega) _ _ _ (nI (znx T E u n)) (nI_bef hx) h1.2
      have h3 := i_addsub h1.1
      have hg : g ≤ 12 := Nat.le_trans hz.2.2.2.1 (zm_le (fun i _ => hA (T i)))
      have hB : zB T E n (znx T E u n + 1) ≤ 12 := by rw [zB_A]; exact hA _
      have hs2 : (nI 2 * nI n ≤ nI s) = False := eq_false (by rw [nI_mul, nI_leP (by omega) (by omega)]; omega)
      rw [fb_nx h hp]
      simp only [sf_b, sf_c1, sf_n, il_2, hs2, if_false]
      rw [fb_sl h hx]
      simp only [h3]
      simp (disch := omega) only [nI_ltP, nI_if, il_1, nI_add]
      exact h2
    · have e : s = 2 * n := by omega
      subst e
      have hs2 : (nI 2 * nI n ≤ nI (2 * n)) = True := eq_true (by rw [nI_mul, nI_leP (by omega) (by omega)]; exact Nat.le_refl _)
      simp only [sf_b, il_2, hs2, if_true]
      rw [zsw_end hz]
theorem fb_sweep (h : zHB n bg bs bt be G S T E) : f_X1_atOnceBySweeping (nI n) bt be = some (nI (zm (fun i => zA T E n (T i)) n)) := lo_sw h 2000 0 (Nat.zero_le _) (by have := h.1; omega) 0 0 0 (-nI 1) nI_bef0 zsw_0
/-- rows moved down by one, from b on, up to j -/
def zsh (f : Nat → Int32) (b j : Nat) : Nat → Int32 := fun k => if b ≤ k ∧ k + 1 < j then f (k + 1) else f k
theorem zsh_0 {f : Nat → Int32} {b : Nat} : zsh f b (b + 1) = f := funext fun k => if_neg (by omega)
theorem zsh_at {f : Nat → Int32} {b j : Nat} : zsh f b j j = f j := if_neg (by omega)
theorem zsh_s {f : Nat → Int32} {b j : Nat} (hb : b + 1 ≤ j) : upd (zsh f b j) (j - 1) (f j) = zsh f b (j + 1) := funext fun k => by
  by_cases e : k = j - 1
  · rw [upd_eqP e]
    show _ = if b ≤ k ∧ k + 1 < j + 1 then f (k + 1) else f k
    rw [if_pos (by omega), show k + 1 = j by omega]
  · rw [upd_neP e]
    show (if b ≤ k ∧ k + 1 < j then f (k + 1) else f k) = if b ≤ k ∧ k + 1 < j + 1 then f (k + 1) else f k
    by_cases c : b ≤ k ∧ k + 1 < j
    · rw [if_pos c, if_pos (by omega)]
    · rw [if_neg c, if_neg (by omega)]
theorem lo_rem {n : Nat} (hn : n ≤ 12) {b : Nat} (hb : b < n) {k : (Nat → Int32) → (Nat → Int32) → (Nat → Int32) → (Nat → Int32) → Option (Int32 × (Nat → Int32) × (Nat → Int32) × (Nat → Int32) × (Nat → Int32))} : ∀ m j, b + 1 ≤ j → j ≤ n → n - j < m → f_X1_remove_L4 (nI n) k m (nI j) (zsh bg b j) (zsh bs b j) (zsh bt b j) (zsh be b j) = k (zsh bg b n) (zsh bs b n) (zsh bt b n) (zsh be b n) := by
  intro m
  induction m with
  | zero => intro j hj hj2 hm; omega
  | succ m ih =>
    intro j hj hj2 hm
    rw [f_X1_remove_L4]
    rcases Nat.lt_or_ge j n with z | z
    · have hnj : ¬ n ≤ j := by omega
      have ih1 := ih (j + 1) (by omega) (by omega) (by omega)
      rw [← zsh_s hj, ← zsh_s hj, ← zsh_s hj, ← zsh_s hj] at ih1
      simp (disch := omega) only [sf_g, sf_b, sf_n, sf_c0, sf_c1, sf_c2, sf_c3, sf_c4, sf_c5, sf_c6, il_0, il_1, il_2, il_3, il_4, il_5, il_6, il_7, il_8, il_9, il_10, il_11, il_12, il_16, il_20, il_32, il_44, il_45, il_48, il_50, il_57, il_59, il_60, il_64, il_74, il_98, il_99, il_100, il_108, il_109, il_110, il_111, il_112, il_113, il_115, il_119, il_120, il_158, il_255, il_1106, il_2147483647, nI_add, nI_mul, nI_sub, nI_clamp, nI_inT, nI_eqP, nI_leP, nI_ltP, nI_neP, nI_nnP, nI_nlP, nI_nltP, nI_nleP, nI_div, nI_subneg, nI_if, if_true, if_false, ite_true, ite_false, ↓reduceIte, nI_spos, nI_szero, Nat.add_zero, sf_t1, sf_c7, sf_c8, sf_c9, n1_0, n4_0, n4_1, hnj, zsh_at]
      exact ih1
    · have e : j = n := by omega
      subst e
      simp (disch := omega) only [sf_g, sf_b, sf_n, sf_c0, sf_c1, sf_c2, sf_c3, sf_c4, sf_c5, sf_c6, il_0, il_1, il_2, il_3, il_4, il_5, il_6, il_7, il_8, il_9, il_10, il_11, il_12, il_16, il_20, il_32, il_44, il_45, il_48, il_50, il_57, il_59, il_60, il_64, il_74, il_98, il_99, il_100, il_108, il_109, il_110, il_111, il_112, il_113, il_115, il_119, il_120, il_158, il_255, il_1106, il_2147483647, nI_add, nI_mul, nI_sub, nI_clamp, nI_inT, nI_eqP, nI_leP, nI_ltP, nI_neP, nI_nnP, nI_nlP, nI_nltP, nI_nleP, nI_div, nI_subneg, nI_if, if_true, if_false, ite_true, ite_false, ↓reduceIte, nI_spos, nI_szero, Nat.add_zero, sf_t1, sf_c7, sf_c8, sf_c9, n1_0, n4_0, n4_1, Nat.le_refl]
theorem fb_rem {n : Nat} (hn : n ≤ 12) {b : Nat} (hb : b < n) : f_X1_remove (nI n) bg bs bt be (nI b) = some (nI (n - 1), zsh bg b n, zsh bs b n, zsh bt b n, zsh be b n) := by
  have h := lo_rem (bg := bg) (bs := bs) (bt := bt) (be := be) hn hb (k := fun z_12 z_13 z_14 z_15 => sf_n ((nI n - 1)) (fun x_16 => some (x_16, z_12, z_13, z_14, z_15))) 2000 (b + 1) (Nat.le_refl _) (by omega) (by omega)
  rw [zsh_0, zsh_0, zsh_0, zsh_0] at h
  rw [f_X1_remove]
  simp only [sf_n, il_1, nI_add] at h ⊢
  rw [h, nI_sub (by omega)]
end OFFB2
