/-! a booking finishes: what always holds, holds behind it -/
theorem V_fa {M : Nat → Nat} {U r e : Nat} (h : VP M U r e) {b : Nat} (hb : b < M 2) : VP (zfa M M b) U (r + 1) e ∧ (∀ x, x < M 2 - 1 → zE (zfa M M b) x = zE M (if x < b then x else x + 1)) := by
  have ho := V_open h hb
  obtain ⟨⟨v0, v1, v2, v4, v3, vU⟩, hS, hR, hQ, hB, hD, hF, hC⟩ := h
  have hg : zG M b < 10 := by have := (hB b hb).1; omega
  have hs : zS M b < 4 := by have := (hB b hb).2.1; omega
  obtain ⟨B1, B2, B3, B4⟩ := VB_drop (M' := zfa M M b) v2 hb v0 hB hD (fa_0 v2 hb hg hs) (fa_1 v2 hb hg hs) (fa_2 v2 hb hg hs) (fa_3 v2 hb hg hs) (fun x hx => fa_zD v2 hb hg hs hx) (fun x hx => fa_zP v2 hb hg hs hx) (fun x hx => fa_zGl v2 hb hg hs hx) (fun x hx => fa_zSl v2 hb hg hs hx) (fun x hx => fa_zTl v2 hb hg hs hx) (fun x h1 h2 => fa_zGh v2 hb hg hs h1 h2) (fun x h1 h2 => fa_zSh v2 hb hg hs h1 h2) (fun x h1 h2 => fa_zTh v2 hb hg hs h1 h2)
  refine ⟨⟨?_, ?_, ?_, VQ_c hQ v1 (fa_0 v2 hb hg hs) (fa_1 v2 hb hg hs) (fun x hx => fa_zQ v2 hb hg hs hx) (fun x y hx hy => fa_zq v2 hb hg hs hx hy) (fun x hx => fa_zV v2 hb hg hs hx), B1, B2, ?_, ?_, ?_⟩, fun x hx => (B4 x hx).2.2.2⟩
  · unfold V0
    rw [fa_0 v2 hb hg hs, fa_1 v2 hb hg hs, fa_2 v2 hb hg hs, fa_3 v2 hb hg hs, fa_4 v2 hb hg hs]
    refine ⟨v0, v1, by omega, ?_, v3, vU⟩
    split <;> omega
  · intro k hk
    rw [fa_0 v2 hb hg hs] at hk
    have := hS k hk
    rw [fa_zD v2 hb hg hs (by omega), fa_zP v2 hb hg hs (by omega)]
    rcases Nat.decEq k (zS M b) with z | z
    · rw [fa_zWo v2 hb hg hs (by omega) z]; exact this
    · rw [z, fa_zWn v2 hb hg hs]
      rw [z] at this
      have h2 : zfw (zW M (zS M b)) ≤ 9 := by unfold zfw; split <;> omega
      omega
  · intro k hk
    rw [fa_1 v2 hb hg hs] at hk
    have := hR k hk
    rcases Nat.decEq k (zG M b) with z | z
    · rw [fa_zRo v2 hb hg hs (by omega) z]; omega
    · rw [z, fa_zRn v2 hb hg hs]
      rw [z] at this
      omega
  · have hk : ∀ k, k < (if M 4 + 1 < 16 then M 4 + 1 else 16) → zFM (zfa M M b) k = (if k = 0 then M 3 else zFM M (k - 1)) := fun k hk => by
      cases k with
      | zero => rw [fa_zFM0 v2 hb hg hs, if_pos rfl]
      | succ k =>
        rw [fa_zFMs v2 hb hg hs (by split at hk <;> omega), if_neg (by omega), show k + 1 - 1 = k by omega]
    refine ⟨fun k hk2 => ?_, fun i j hi hj => ?_, ?_⟩
    · rw [fa_4 v2 hb hg hs] at hk2
      rw [hk k hk2, fa_3 v2 hb hg hs]
      split
      · exact Nat.le_refl _
      · exact hF.1 _ (by split at hk2 <;> omega)
    · rw [fa_4 v2 hb hg hs] at hj
      rw [hk i (by omega), hk j hj]
      have hj2 : j - 1 < M 4 ∨ j = 0 := by split at hj <;> omega
      split
      · rename_i c
        rw [if_pos (by omega)]; exact Nat.le_refl _
      · rename_i c
        split
        · exact hF.1 _ (by omega)
        · exact hF.2.1 _ _ (by omega) (by omega)
    · have hcp : ∀ g, zc (fun k => decide (zFG (zfa M M b) k = g)) (if M 4 + 1 < 16 then M 4 + 1 else 16) = (if zG M b = g then 1 else 0) + zc (fun k => decide (zFG M k = g)) (if M 4 + 1 < 16 then M 4 else 15) := fun g => by
        have e : (if M 4 + 1 < 16 then M 4 + 1 else 16) = (if M 4 + 1 < 16 then M 4 else 15) + 1 := by split <;> rfl
        rw [e, zc_shift]
        congr 1
        · show (if decide (zFG (zfa M M b) 0 = g) = true then 1 else 0) = _
          rw [fa_zFG0 v2 hb hg hs]
          by_cases c : zG M b = g
          · rw [if_pos c, if_pos (decide_eq_true c)]
          · rw [if_neg c, if_neg (by rw [decide_eq_false c]; decide)]
        · exact zc_congr (fun k hk => by
            show decide (zFG (zfa M M b) (k + 1) = g) = decide (zFG M k = g)
            rw [fa_zFGs v2 hb hg hs (by split at hk <;> omega)])
      refine ⟨fun k hk2 => ?_, fun g hg2 => ?_⟩
      · rw [fa_4 v2 hb hg hs] at hk2
        rw [fa_0 v2 hb hg hs, fa_1 v2 hb hg hs]
        cases k with
        | zero => rw [fa_zFG0 v2 hb hg hs, fa_zFS0 v2 hb hg hs]; exact ⟨(hB b hb).1, (hB b hb).2.1⟩
        | succ k =>
          rw [fa_zFGs v2 hb hg hs (by split at hk2 <;> omega), fa_zFSs v2 hb hg hs (by split at hk2 <;> omega)]
          exact hF.2.2.1 k (by split at hk2 <;> omega)
      · rw [fa_1 v2 hb hg hs] at hg2
        rw [fa_4 v2 hb hg hs, hcp g]
        obtain ⟨k1, k2⟩ := hF.2.2.2 g hg2
        have hR1 : zR (zfa M M b) g = zR M g + (if zG M b = g then 1 else 0) := by
          by_cases c : zG M b = g
          · rw [if_pos c, ← c, fa_zRn v2 hb hg hs]
          · rw [if_neg c, fa_zRo v2 hb hg hs (by omega) (fun x => c x.symm)]; rfl
        rw [hR1]
        by_cases c : M 4 + 1 < 16
        · simp only [if_pos c]
          have := k2 (by omega)
          exact ⟨by omega, fun _ => by omega⟩
        · have h15 : zc (fun k => decide (zFG M k = g)) 15 ≤ zc (fun k => decide (zFG M k = g)) (M 4) := by
            rcases Nat.lt_or_ge (M 4) 16 with z | z
            · rw [show M 4 = 15 by omega]; exact Nat.le_refl _
            · rw [show M 4 = 15 + 1 by omega, zc]; exact Nat.le_add_right _ _
          simp only [if_neg c]
          exact ⟨by omega, fun h => absurd h (by decide)⟩
  · rw [fa_1 v2 hb hg hs, fa_7 v2 hb hg hs]
    have h1 : zs (zC (zfa M M b)) (M 1) = zs (zC M) (M 1) := zs_congr (fun k hk => fa_zC v2 hb hg hs (by omega))
    rw [h1]; exact hC.1
  · have h2 := hC.2
    rw [fa_7 v2 hb hg hs]
    omega
theorem V_fb {M : Nat → Nat} {U r e : Nat} (h : VP M U r e) {b : Nat} (hb : b < M 2) : VP (zfa M (zfs M b) b) U (r + 1) e ∧ (∀ x, x < M 2 - 1 → zE (zfa M (zfs M b) b) x = zE M (if x < b then x else x + 1)) := by
  have ho := V_open h hb
  obtain ⟨⟨v0, v1, v2, v4, v3, vU⟩, hS, hR, hQ, hB, hD, hF, hC⟩ := h
  have hg : zG M b < 10 := by have := (hB b hb).1; omega
  have hs : zS M b < 4 := by have := (hB b hb).2.1; omega
  obtain ⟨B1, B2, B3, B4⟩ := VB_drop (M' := zfa M (zfs M b) b) v2 hb v0 hB hD (fb_0 v2 hb hg hs) (fb_1 v2 hb hg hs) (fb_2 v2 hb hg hs) (fb_3 v2 hb hg hs) (fun x hx => fb_zD v2 hb hg hs hx) (fun x hx => fb_zP v2 hb hg hs hx) (fun x hx => fb_zGl v2 hb hg hs hx) (fun x hx => fb_zSl v2 hb hg hs hx) (fun x hx => fb_zTl v2 hb hg hs hx) (fun x h1 h2 => fb_zGh v2 hb hg hs h1 h2) (fun x h1 h2 => fb_zSh v2 hb hg hs h1 h2) (fun x h1 h2 => fb_zTh v2 hb hg hs h1 h2)
  refine ⟨⟨?_, ?_, ?_, VQ_c hQ v1 (fb_0 v2 hb hg hs) (fb_1 v2 hb hg hs) (fun x hx => fb_zQ v2 hb hg hs hx) (fun x y hx hy => fb_zq v2 hb hg hs hx hy) (fun x hx => fb_zV v2 hb hg hs hx), B1, B2, ?_, ?_, ?_⟩, fun x hx => (B4 x hx).2.2.2⟩
  · unfold V0
    rw [fb_0 v2 hb hg hs, fb_1 v2 hb hg hs, fb_2 v2 hb hg hs, fb_3 v2 hb hg hs, fb_4 v2 hb hg hs]
    refine ⟨v0, v1, by omega, ?_, v3, vU⟩
    split <;> omega
  · intro k hk
    rw [fb_0 v2 hb hg hs] at hk
    have := hS k hk
    rw [fb_zD v2 hb hg hs (by omega), fb_zP v2 hb hg hs (by omega)]
    rcases Nat.decEq k (zS M b) with z | z
    · rw [fb_zWo v2 hb hg hs (by omega) z]; exact this
    · rw [z, fb_zWn v2 hb hg hs]
      rw [z] at this
      have h2 : zfw (zW M (zS M b)) ≤ 9 := by unfold zfw; split <;> omega
      omega
  · intro k hk
    rw [fb_1 v2 hb hg hs] at hk
    have := hR k hk
    rcases Nat.decEq k (zG M b) with z | z
    · rw [fb_zRo v2 hb hg hs (by omega) z]; omega
    · rw [z, fb_zRn v2 hb hg hs]
      rw [z] at this
      omega
  · have hk : ∀ k, k < (if M 4 + 1 < 16 then M 4 + 1 else 16) → zFM (zfa M (zfs M b) b) k = (if k = 0 then M 3 else zFM M (k - 1)) := fun k hk => by
      cases k with
      | zero => rw [fb_zFM0 v2 hb hg hs, if_pos rfl]
      | succ k =>
        rw [fb_zFMs v2 hb hg hs (by split at hk <;> omega), if_neg (by omega), show k + 1 - 1 = k by omega]
    refine ⟨fun k hk2 => ?_, fun i j hi hj => ?_, ?_⟩
    · rw [fb_4 v2 hb hg hs] at hk2
      rw [hk k hk2, fb_3 v2 hb hg hs]
      split
      · exact Nat.le_refl _
      · exact hF.1 _ (by split at hk2 <;> omega)
    · rw [fb_4 v2 hb hg hs] at hj
      rw [hk i (by omega), hk j hj]
      have hj2 : j - 1 < M 4 ∨ j = 0 := by split at hj <;> omega
      split
      · rename_i c
        rw [if_pos (by omega)]; exact Nat.le_refl _
      · rename_i c
        split
        · exact hF.1 _ (by omega)
        · exact hF.2.1 _ _ (by omega) (by omega)
    · have hcp : ∀ g, zc (fun k => decide (zFG (zfa M (zfs M b) b) k = g)) (if M 4 + 1 < 16 then M 4 + 1 else 16) = (if zG M b = g then 1 else 0) + zc (fun k => decide (zFG M k = g)) (if M 4 + 1 < 16 then M 4 else 15) := fun g => by
        have e : (if M 4 + 1 < 16 then M 4 + 1 else 16) = (if M 4 + 1 < 16 then M 4 else 15) + 1 := by split <;> rfl
        rw [e, zc_shift]
        congr 1
        · show (if decide (zFG (zfa M (zfs M b) b) 0 = g) = true then 1 else 0) = _
          rw [fb_zFG0 v2 hb hg hs]
          by_cases c : zG M b = g
          · rw [if_pos c, if_pos (decide_eq_true c)]
          · rw [if_neg c, if_neg (by rw [decide_eq_false c]; decide)]
        · exact zc_congr (fun k hk => by
            show decide (zFG (zfa M (zfs M b) b) (k + 1) = g) = decide (zFG M k = g)
            rw [fb_zFGs v2 hb hg hs (by split at hk <;> omega)])
      refine ⟨fun k hk2 => ?_, fun g hg2 => ?_⟩
      · rw [fb_4 v2 hb hg hs] at hk2
        rw [fb_0 v2 hb hg hs, fb_1 v2 hb hg hs]
        cases k with
        | zero => rw [fb_zFG0 v2 hb hg hs, fb_zFS0 v2 hb hg hs]; exact ⟨(hB b hb).1, (hB b hb).2.1⟩
        | succ k =>
          rw [fb_zFGs v2 hb hg hs (by split at hk2 <;> omega), fb_zFSs v2 hb hg hs (by split at hk2 <;> omega)]
          exact hF.2.2.1 k (by split at hk2 <;> omega)
      · rw [fb_1 v2 hb hg hs] at hg2
        rw [fb_4 v2 hb hg hs, hcp g]
        obtain ⟨k1, k2⟩ := hF.2.2.2 g hg2
        have hR1 : zR (zfa M (zfs M b) b) g = zR M g + (if zG M b = g then 1 else 0) := by
          by_cases c : zG M b = g
          · rw [if_pos c, ← c, fb_zRn v2 hb hg hs]
          · rw [if_neg c, fb_zRo v2 hb hg hs (by omega) (fun x => c x.symm)]; rfl
        rw [hR1]
        by_cases c : M 4 + 1 < 16
        · simp only [if_pos c]
          have := k2 (by omega)
          exact ⟨by omega, fun _ => by omega⟩
        · have h15 : zc (fun k => decide (zFG M k = g)) 15 ≤ zc (fun k => decide (zFG M k = g)) (M 4) := by
            rcases Nat.lt_or_ge (M 4) 16 with z | z
            · rw [show M 4 = 15 by omega]; exact Nat.le_refl _
            · rw [show M 4 = 15 + 1 by omega, zc]; exact Nat.le_add_right _ _
          simp only [if_neg c]
          exact ⟨by omega, fun h => absurd h (by decide)⟩
  · rw [fb_1 v2 hb hg hs, fb_7 v2 hb hg hs]
    have h1 := zs_set (f := zC (zfa M (zfs M b) b)) (g := zC M) (n := M 1) (zG M b) (hB b hb).1 (fun k hk hne => fb_zCo v2 hb hg hs (by omega) hne)
    rw [fb_zCn v2 hb hg hs] at h1
    have h2 := hC.1
    omega
  · have h2 := hC.2
    rw [fb_7 v2 hb hg hs]
    omega
theorem V_fn {M : Nat → Nat} {U r e : Nat} (h : VP M U r e) {b : Nat} (hb : b < M 2) : VP (zfn M b) U (r + 1) e ∧ zfn M b 2 = M 2 - 1 ∧ zfn M b 3 = M 3 ∧ (∀ x, x < M 2 - 1 → zE (zfn M b) x = zE M (if x < b then x else x + 1)) := by
  have h' := h
  obtain ⟨⟨v0, v1, v2, v4, v3, vU⟩, hS, hR, hQ, hB, hD, hF, hC⟩ := h'
  have hg : zG M b < 10 := by have := (hB b hb).1; omega
  have hs : zS M b < 4 := by have := (hB b hb).2.1; omega
  rcases Nat.lt_or_ge (zW M (zS M b)) 5 with z | z
  · have e1 : zfn M b = zfa M M b := by rw [zfn, if_pos z]
    rw [e1]
    exact ⟨(V_fa h hb).1, fa_2 v2 hb hg hs, fa_3 v2 hb hg hs, (V_fa h hb).2⟩
  · have e1 : zfn M b = zfa M (zfs M b) b := by rw [zfn, if_neg (by omega)]
    rw [e1]
    exact ⟨(V_fb h hb).1, fb_2 v2 hb hg hs, fb_3 v2 hb hg hs, (V_fb h hb).2⟩
/-! from what always holds to what the loops want -/
section OFF
variable {M : Nat → Nat} {U r e : Nat} {on ot op os sc gc bc fc : Int32} {sd sp sw gp gr bg bs bt be ql qg fg fs fm : Nat → Int32}
theorem zHB_of (h : VP M U r e) (hB : OB M bc bg bs bt be) : zHB (M 2) bg bs bt be (zG M) (zS M) (zT M) (zE M) := by
  obtain ⟨⟨v0, v1, v2, v4, v3, vU⟩, hS, hR, hQ, hVB, hD, hF, hC⟩ := h
  refine ⟨v2, fun k hk => ⟨hB.2 k hk, ?_⟩⟩
  obtain ⟨a, b, c, d⟩ := hVB k hk
  have := hS _ b
  have e1 : zE M k = zT M k + zD M (zS M k) := rfl
  omega
theorem zMB_of (h : VP M U r e) : zMB M := by
  obtain ⟨⟨v0, v1, v2, v4, v3, vU⟩, hS, hR, hQ, hVB, hD, hF, hC⟩ := h
  refine ⟨v2, fun k hk => ?_⟩
  obtain ⟨a, b, c, d⟩ := hVB k hk
  have := hS _ b
  have e1 : zE M k = zT M k + zD M (zS M k) := rfl
  omega
theorem zHQ_of (h : VP M U r e) (hQ : OQ M ql qg) : zHQ ql qg (zQ M) (zq M) := by
  obtain ⟨⟨v0, v1, v2, v4, v3, vU⟩, hS, hR, hVQ, hVB, hD, hF, hC⟩ := h
  exact fun k hk => ⟨(hQ k hk).1, (hVQ.1 k hk).1, fun j hj => ⟨(hQ k hk).2 j hj, by have := (hVQ.2.1 k hk j hj).1; omega⟩⟩
theorem zC_le (h : VP M U r e) {g : Nat} (hg : g < M 1) : zC M g ≤ 500 := by
  obtain ⟨⟨v0, v1, v2, v4, v3, vU⟩, hS, hR, hVQ, hVB, hD, hF, hC⟩ := h
  have h1 := zs_le (f := zC M) (n := M 1) g hg
  have h2 := hC.1
  omega
theorem zHG_of (h : VP M U r e) (hr : r < 100000000) (hG : OG M gc gp gr) : zHG (M 1) gp gr (zC M) (zR M) := by
  have hc : ∀ g, g < M 1 → zC M g ≤ 500 := fun g hg => zC_le h hg
  obtain ⟨⟨v0, v1, v2, v4, v3, vU⟩, hS, hR, hVQ, hVB, hD, hF, hC⟩ := h
  refine ⟨v1, fun k hk => ?_⟩
  have h1 := hG.2 k hk
  have h2 := hc k hk
  have h3 := hR k hk
  exact ⟨h1.1, h1.2, by omega, by omega⟩
theorem zHF_of (h : VP M U r e) (hF : OF M fc fg fs fm) : zHF (M 4) fm (fun k => zFM M (M 4 - 1 - k)) := by
  obtain ⟨⟨v0, v1, v2, v4, v3, vU⟩, hS, hR, hVQ, hVB, hD, hVF, hC⟩ := h
  refine ⟨v4, fun k hk => ⟨(hF.2 k hk).2.2, ?_⟩⟩
  have := hVF.1 (M 4 - 1 - k) (by omega)
  show zFM M (M 4 - 1 - k) < 2 ^ 31
  omega
theorem zo_of (h : VP M U r e) : zo (zbf (zS M) (zT M)) (M 2) := by
  obtain ⟨⟨v0, v1, v2, v4, v3, vU⟩, hS, hR, hVQ, hVB, hD, hVF, hC⟩ := h
  refine ⟨fun i _ => decide_eq_false (by omega), fun i j k _ _ _ h1 h2 => decide_eq_true (by
    have h1 := of_decide_eq_true h1
    have h2 := of_decide_eq_true h2
    omega), fun i j hi hj hne => ?_⟩
  by_cases c : zT M i < zT M j ∨ zT M i = zT M j ∧ zS M i < zS M j
  · exact Or.inl (decide_eq_true c)
  · refine Or.inr (decide_eq_true ?_)
    have hd : ∀ i j, i < j → j < M 2 → zS M i = zS M j → zT M i ≠ zT M j := fun i j h1 h2 h3 h4 => by
      have h5 := hD i j h1 h2 (Or.inr h3)
      have h6 := hS _ (hVB i (by omega)).2.1
      have h7 := hS _ (hVB j h2).2.1
      have e1 : zE M i = zT M i + zD M (zS M i) := rfl
      have e2 : zE M j = zT M j + zD M (zS M j) := rfl
      omega
    by_cases c2 : zS M i = zS M j
    · rcases Nat.lt_or_ge i j with z | z
      · have := hd i j z hj c2; omega
      · have := hd j i (by omega) hi c2.symm; omega
    · omega
/-- no two bookings of a slide take place at t -/
theorem on_one (h : VP M U r e) {s t i j : Nat} (hi : i < M 2) (hj : j < M 2) (h1 : zPo (zS M) (zT M) (zE M) s t i = true) (h2 : zPo (zS M) (zT M) (zE M) s t j = true) : i = j := by
  obtain ⟨⟨v0, v1, v2, v4, v3, vU⟩, hS, hR, hVQ, hVB, hD, hVF, hC⟩ := h
  have h1 := of_decide_eq_true h1
  have h2 := of_decide_eq_true h2
  rcases Nat.lt_or_ge i j with z | z
  · have := hD i j z hj (Or.inr (by omega)); omega
  · rcases Nat.lt_or_ge j i with y | y
    · have := hD j i y hi (Or.inr (by omega)); omega
    · omega
/-- the office's answer is the model's: the booking of s at t -/
theorem of_on (h : VP M U r e) (hB : OB M bc bg bs bt be) {s t : Nat} (hs : s < 100) (ht : t < 100000000) : f_X1_onSlideAt (nI (M 2)) bs bt be (nI s) (nI t) = some (zio (zla (zPo (zS M) (zT M) (zE M) s t) (M 2))) := by
  have hb := zHB_of h hB
  refine lo_onSlideAt hb hs ht (k := fun _ => some (-1 : Int32)) (fun b h1 h2 => ?_) (fun h1 => ?_) 2000 0 (Nat.zero_le _) (by have := hb.1; omega) (fun i hi => absurd hi (Nat.not_lt_zero i))
  · rw [zla_one h1 h2 (fun k hk hp => on_one h hk h1 hp h2), zio_c (by have := hb.1; omega)]
  · rw [zla_none h1, zio_n]; rfl
end OFF
