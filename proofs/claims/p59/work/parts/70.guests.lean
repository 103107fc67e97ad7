/-! what the law asks of the guests -/
theorem sfj_t2 {ρ γ δ : Type} {K : γ → δ → Option ρ} {B : (γ → δ → Option ρ) → Option ρ} {R : Option ρ} (v : γ) (w : δ) (hB : ∀ k : γ → δ → Option ρ, B k = k v w) (h : K v w = R) : sf_j K B = R := (hB K).trans h
/-- one more that counts -/
theorem zc_one {P Q : Nat → Bool} {x : Nat} : ∀ {m : Nat}, x < m → (∀ g, g < m → g ≠ x → P g = Q g) → P x = true → Q x = false → zc P m = zc Q m + 1
  | 0, h, _, _, _ => absurd h (Nat.not_lt_zero x)
  | m + 1, h, he, hp, hq => by
    rcases Nat.lt_or_ge x m with z | z
    · have ih := zc_one (P := P) (Q := Q) z (fun g h1 h2 => he g (by omega) h2) hp hq
      rw [zc, zc, ih, he m (by omega) (by omega)]
      omega
    · have e : x = m := by omega
      subst e
      have h0 : zc P x = zc Q x := zc_congr (fun g hg => he g (by omega) (by omega))
      rw [zc_t hp, zc_f hq, h0]
/-- as many as they are the image of -/
theorem zc_img {q : Nat → Nat} {m : Nat} : ∀ (n : Nat) (P : Nat → Bool), (∀ j, j < n → q j < m) → (∀ i j, i < j → j < n → q i ≠ q j) → (∀ g, g < m → (P g = true ↔ ∃ j, j < n ∧ q j = g)) → zc P m = n
  | 0, P, _, _, hP => zc_none (fun g hg => by
      cases h : P g with
      | false => rfl
      | true =>
        obtain ⟨j, hj, _⟩ := (hP g hg).mp h
        exact absurd hj (Nat.not_lt_zero j))
  | n + 1, P, hq, hi, hP => by
    have ih := zc_img (q := q) (m := m) n (fun g => P g && decide (g ≠ q n)) (fun j hj => hq j (by omega)) (fun i j h1 h2 => hi i j h1 (by omega)) (fun g hg => by
      constructor
      · intro h
        have h1 : P g = true ∧ decide (g ≠ q n) = true := by
          cases hp : P g <;> simp [hp] at h
          exact ⟨rfl, decide_eq_true h⟩
        obtain ⟨j, hj, e⟩ := (hP g hg).mp h1.1
        have h2 := of_decide_eq_true h1.2
        refine ⟨j, ?_, e⟩
        rcases Nat.lt_or_ge j n with z | z
        · exact z
        · have e2 : j = n := by omega
          rw [e2] at e
          exact absurd e.symm h2
      · intro ⟨j, hj, e⟩
        have h1 : P g = true := (hP g hg).mpr ⟨j, by omega, e⟩
        have h2 : g ≠ q n := fun e2 => hi j n hj (by omega) (by rw [e, e2])
        show (P g && decide (g ≠ q n)) = true
        rw [h1, decide_eq_true h2]; rfl)
    have h3 := zc_one (P := P) (Q := fun g => P g && decide (g ≠ q n)) (x := q n) (m := m) (hq n (by omega)) (fun g hg hn => by
      show P g = (P g && decide (g ≠ q n))
      rw [decide_eq_true hn, Bool.and_true]) ((hP (q n) (hq n (by omega))).mpr ⟨n, by omega, rfl⟩) (by
      show (P (q n) && decide (q n ≠ q n)) = false
      rw [decide_eq_false (fun h => h rfl), Bool.and_false])
    rw [h3, ih]
theorem zs_tail {f : Nat → Nat} {n : Nat} : ∀ {m : Nat}, n ≤ m → (∀ k, n ≤ k → k < m → f k = 0) → zs f m = zs f n
  | 0, h, _ => by rw [show n = 0 by omega]
  | m + 1, h, hf => by
    rcases Nat.lt_or_ge m n with z | z
    · rw [show n = m + 1 by omega]
    · rw [zs, hf m z (by omega), zs_tail z (fun k h1 h2 => hf k h1 (by omega))]; rfl
/-- those that wait, slide by slide -/
theorem zc_four {v : Nat → Nat} : ∀ {m : Nat}, (∀ g, g < m → v g ≤ 4) → zc (fun g => decide (v g ≠ 0)) m = zc (fun g => decide (v g = 1)) m + zc (fun g => decide (v g = 2)) m + zc (fun g => decide (v g = 3)) m + zc (fun g => decide (v g = 4)) m
  | 0, _ => rfl
  | m + 1, h => by
    have ih := zc_four (v := v) (m := m) (fun g hg => h g (by omega))
    have hm := h m (by omega)
    simp only [zc, decide_eq_true_eq]
    rw [ih]
    rcases (show v m = 0 ∨ v m = 1 ∨ v m = 2 ∨ v m = 3 ∨ v m = 4 by omega) with e | e | e | e | e <;> simp [e] <;> omega
theorem zq_count {M : Nat → Nat} (v0 : M 0 ≤ 4) (h : VQ M) : zs (zQ M) (M 0) = zc (fun g => decide (zV M g ≠ 0)) (M 1) := by
  obtain ⟨h1, h2, h3, h4⟩ := h
  have e1 : ∀ k, k < 4 → zc (fun g => decide (zV M g = k + 1)) (M 1) = zQ M k := fun k hk => zc_img (q := zq M k) (zQ M k) _ (fun j hj => (h2 k hk j hj).1) (fun i j hi hj => h3 k hk i j hi hj) (fun g hg => by
    constructor
    · intro hd
      have e := of_decide_eq_true hd
      obtain ⟨j, h5, h6⟩ := (h4 g hg).2 (by omega)
      rw [show zV M g - 1 = k by omega] at h5 h6
      exact ⟨j, h5, h6⟩
    · intro ⟨j, h5, h6⟩
      have := (h2 k hk j h5).2
      rw [h6] at this
      exact decide_eq_true this)
  rw [← zs_tail v0 (fun k h5 h6 => (h1 k h6).2 h5), zc_four (fun g hg => (h4 g hg).1)]
  have a0 : zc (fun g => decide (zV M g = 1)) (M 1) = zQ M 0 := e1 0 (by omega)
  have a1 : zc (fun g => decide (zV M g = 2)) (M 1) = zQ M 1 := e1 1 (by omega)
  have a2 : zc (fun g => decide (zV M g = 3)) (M 1) = zQ M 2 := e1 2 (by omega)
  have a3 : zc (fun g => decide (zV M g = 4)) (M 1) = zQ M 3 := e1 3 (by omega)
  show 0 + zQ M 0 + zQ M 1 + zQ M 2 + zQ M 3 = _
  rw [← a0, ← a1, ← a2, ← a3]
  omega
section GST
variable {M : Nat → Nat} {U : Nat} {on ot op os sc gc bc fc : Int32} {sd sp sw gp gr bg bs bt be ql qg fg fs fm : Nat → Int32}
set_option maxHeartbeats 1000000 in
theorem lg15 (hV : VW M U) (hr : RO M on ot op os sc sd sp sw gc gp gr bc bg bs bt be ql qg fc fg fs fm) {k : Int32 → Int32 → Option Int32} : ∀ m j, j ≤ M 1 → M 1 - j < m → f_L_guests_L15 gc gp gr ql qg gc k m (nI j) (nI (zc (fun g => decide (zV M g ≠ 0)) j)) (nI (zs (zC M) j)) = k (nI (zc (fun g => decide (zV M g ≠ 0)) (M 1))) (nI (zs (zC M) (M 1))) := by
  have v1 := hV.1.2.1
  have hU := hV.1.2.2.2.2
  have g0 := hr.2.2.1.1
  have hR := hV.2.2.1
  have hz := zbr_o (zR M) (zC M) (M 1)
  intro m
  induction m with
  | zero => intro j hj hm; omega
  | succ m ih =>
    intro j hj hm
    rw [f_L_guests_L15]
    rcases Nat.lt_or_ge j (M 1) with z | z
    · have hCj := zC_le hV z
      have hQ4 := (hV.2.2.2.1.2.2.2 j z).1
      refine sfb_f (by rw [g0, nI_leP (by omega) (by omega)]; omega) ?_
      obtain ⟨b, hb, eb⟩ := zrk_onto hz z
      have e1 := (a_byRides hV hr hb).2
      rw [eb] at e1
      refine sfc1_i e1 ?_
      have hCb := zC_le hV hb
      have hRb := hR b hb
      have hq : ∃ (u v w : Int32), (∀ (k : Int32 → Option Int32), sf_b (nI j = (0 : Int32)) (k (-1 : Int32)) (sf_c1 (f_L_byRides gc gp gr (nI j - (1 : Int32))) (fun r_27 => k r_27)) = k u) ∧ (∀ (k : Int32 → Option Int32), sf_b (nI j = (0 : Int32)) (k (1 : Int32)) (sf_c1 (f_L_rides gc gr u) (fun r_25 => sf_c1 (f_L_rides gc gr (nI b)) (fun r_26 => k (r_25 - r_26)))) = k v) ∧ (∀ (k : Int32 → Option Int32), sf_b (v = (0 : Int32)) (sf_c1 (f_L_coins gc gp u) (fun r_23 => sf_c1 (f_L_coins gc gp (nI b)) (fun r_24 => k (r_23 - r_24)))) (k v) = k w) ∧ ¬ w < (0 : Int32) ∧ (w = 0 → ¬ nI b < u) := by
        by_cases c : j = 0
        · refine ⟨-1, 1, 1, fun k => sfb_t (by rw [c]; rfl) rfl, fun k => sfb_t (by rw [c]; rfl) rfl, fun k => sfb_f (by decide) rfl, by decide, fun h => absurd h (by decide)⟩
        · have c0 : ¬ nI j = (0 : Int32) := by rw [il_0, nI_eqP (by omega) (by omega)]; exact c
          obtain ⟨b', hb', eb'⟩ := zrk_onto hz (r := j - 1) (by omega)
          have e2 := (a_byRides hV hr hb').2
          rw [eb'] at e2
          have hCb' := zC_le hV hb'
          have hRb' := hR b' hb'
          have hlt := of_decide_eq_true (zrk_back hz hb' hb (by omega))
          have ej : nI j - (1 : Int32) = nI (j - 1) := nI_sub (a := j) (b := 1) (by omega)
          by_cases d : zR M b' = zR M b
          · refine ⟨nI b', nI (zR M b') - nI (zR M b), nI (zC M b') - nI (zC M b), fun k => sfb_f c0 (sfc1_i (by rw [ej]; exact e2) rfl), fun k => sfb_f c0 (sfc1_i (a_rides hV hr hb').2 (sfc1_i (a_rides hV hr hb).2 rfl)), fun k => sfb_t (by rw [il_0, nI_szero (by omega) (by omega)]; exact d) (sfc1_i (a_coins hV hr hb').2 (sfc1_i (a_coins hV hr hb).2 rfl)), ?_, ?_⟩
            · intro h
              rw [il_0, Int32.lt_iff_toInt_lt, nI_stoInt (by omega) (by omega), nI_toInt (by omega)] at h
              omega
            · intro h
              rw [il_0, nI_szero (by omega) (by omega)] at h
              rw [nI_ltP (by omega) (by omega)]
              omega
          · refine ⟨nI b', nI (zR M b') - nI (zR M b), nI (zR M b') - nI (zR M b), fun k => sfb_f c0 (sfc1_i (by rw [ej]; exact e2) rfl), fun k => sfb_f c0 (sfc1_i (a_rides hV hr hb').2 (sfc1_i (a_rides hV hr hb).2 rfl)), fun k => sfb_f (by rw [il_0, nI_szero (by omega) (by omega)]; exact d) rfl, ?_, ?_⟩
            · intro h
              rw [il_0, Int32.lt_iff_toInt_lt, nI_stoInt (by omega) (by omega), nI_toInt (by omega)] at h
              omega
            · intro h
              rw [il_0, nI_szero (by omega) (by omega)] at h
              exact absurd h d
      obtain ⟨u, v, w, q1, q2, q3, q4, q5⟩ := hq
      refine sfj_t u q1 (sfj_t v q2 (sfj_t w q3 ?_))
      refine sfc1_i (a_coins hV hr z).2 (sfn_r (nI_add _ _) (sfc1_i (a_queueOf hV hr z) ?_))
      have hs : zs (zC M) j + zC M j = zs (zC M) (j + 1) := rfl
      have hc0 : (0 : Int32) ≤ nI (zC M j) := by rw [il_0, nI_leP (by omega) (by omega)]; omega
      have hb0 : ¬ nI b < (0 : Int32) := by rw [il_0, nI_ltP (by omega) (by omega)]; omega
      have hgo : ∀ x : Int32, x = nI (zc (fun g => decide (zV M g ≠ 0)) (j + 1)) → sf_b (nI b < (0 : Int32)) (some (0 : Int32)) (sf_b (w < (0 : Int32)) (some (0 : Int32)) (sf_b (w = (0 : Int32)) (sf_b (nI b < u) (some (0 : Int32)) (sf_c1 (f_L_coins gc gp (nI j)) (fun r_21 => sf_b ((0 : Int32) ≤ r_21) (sf_n (nI j + (1 : Int32)) (fun x_22 => f_L_guests_L15 gc gp gr ql qg gc k m x_22 x (nI (zs (zC M) j + zC M j)))) (some (0 : Int32))))) (sf_c1 (f_L_coins gc gp (nI j)) (fun r_19 => sf_b ((0 : Int32) ≤ r_19) (sf_n (nI j + (1 : Int32)) (fun x_20 => f_L_guests_L15 gc gp gr ql qg gc k m x_20 x (nI (zs (zC M) j + zC M j)))) (some (0 : Int32)))))) = k (nI (zc (fun g => decide (zV M g ≠ 0)) (M 1))) (nI (zs (zC M) (M 1))) := fun x hx => by
        subst hx
        refine sfb_f hb0 (sfb_f q4 ?_)
        rw [hs]
        by_cases c : w = 0
        · exact sfb_t c (sfb_f (q5 c) (sfc1_i (a_coins hV hr z).2 (sfb_t hc0 (sfn_r (nI_add j 1) (ih (j + 1) (by omega) (by omega))))))
        · exact sfb_f c (sfc1_i (a_coins hV hr z).2 (sfb_t hc0 (sfn_r (nI_add j 1) (ih (j + 1) (by omega) (by omega)))))
      by_cases c : zV M j = 0
      · rw [if_pos c]
        refine sfj_t (nI 0) (fun k => sfb_t (by decide) rfl) (sfn_r (nI_add _ _) (hgo _ ?_))
        rw [zc_f (P := fun g => decide (zV M g ≠ 0)) (decide_eq_false (fun h => h c))]
        exact congrArg nI (Nat.add_zero _)
      · rw [if_neg c]
        refine sfj_t (nI 1) (fun k => sfb_f (by rw [il_0, nI_ltP (by omega) (by omega)]; omega) rfl) (sfn_r (nI_add _ _) (hgo _ ?_))
        rw [zc_t (P := fun g => decide (zV M g ≠ 0)) (decide_eq_true c)]
    · have e : j = M 1 := by omega
      subst e
      exact sfb_t (by rw [g0, nI_leP (by omega) (by omega)]; omega) rfl
theorem lg165 (hV : VW M U) (hr : RO M on ot op os sc sd sp sw gc gp gr bc bg bs bt be ql qg fc fg fs fm) {k : Int32 → Option Int32} : ∀ m j, j ≤ M 0 → M 0 - j < m → f_L_guests_L165 sc ql k m (nI j) (nI (zs (zQ M) j)) = k (nI (zs (zQ M) (M 0))) := by
  have v0 := hV.1.1
  have s0 := hr.2.1.1
  intro m
  induction m with
  | zero => intro j hj hm; omega
  | succ m ih =>
    intro j hj hm
    rw [f_L_guests_L165]
    refine sfc1_i (a := sc) rfl ?_
    rcases Nat.lt_or_ge j (M 0) with z | z
    · exact sfb_f (by rw [s0, nI_leP (by omega) (by omega)]; omega) (sfc1_i (a_queueLength hV hr z).2 (sfn_r (nI_add _ _) (sfn_r (nI_add j 1) (ih (j + 1) (by omega) (by omega)))))
    · have e : j = M 0 := by omega
      subst e
      exact sfb_t (by rw [s0, nI_leP (by omega) (by omega)]; omega) rfl
theorem fl_dd {s g : Nat} (hs : s ≤ 500) (hg : g ≤ 10) (h0 : 0 < g) : sf_n64 (FP.ddiv (FP.i2d (nI s)) (FP.i2d (nI g))) = true ∧ Op.cmpValue (FP.dcmp (FP.ddiv (FP.i2d (nI s)) (FP.i2d (nI g))) (FP.ddiv (FP.i2d (nI s)) (FP.i2d (nI g)))) .l = 0 := by
  have h := List.all_eq_true.mp (List.all_eq_true.mp fl_d s (List.mem_range.mpr (by omega))) g (List.mem_range.mpr (by omega))
  have e : (g == 0) = false := by
    cases h1 : g == 0 with
    | false => rfl
    | true => exact absurd (beq_iff_eq.mp h1) (by omega)
  rw [e, Bool.false_or, Bool.and_eq_true] at h
  exact ⟨h.1, of_decide_eq_true h.2⟩
theorem l_guests (hV : VW M U) (hr : RO M on ot op os sc sd sp sw gc gp gr bc bg bs bt be ql qg fc fg fs fm) (hg : 0 < M 1) : f_L_guests ot sc gc gp gr ql qg = some 1 := by
  have v1 := hV.1.2.1
  have hU := hV.1.2.2.2.2
  have g0 := hr.2.2.1.1
  have n2 := hr.1.2.1
  have hC := hV.2.2.2.2.2.2.2
  have hG := zHG_of hV (by omega) hr.2.2.1
  have hcs := fg_coins hG
  have hsum : zs (zC M) (M 1) ≤ 500 := by have := hC.1; omega
  obtain ⟨f1, f2⟩ := fl_dd hsum v1 hg
  have zn : ¬ zin (M 1) gc := by rw [g0]; exact zin_n (by omega)
  have zm1 : ¬ zin (M 1) (-1) := zin_m (n := M 1) (k := 1) (by omega) (by omega) (by omega)
  have hmean : f_X11_meanCoins gc gp = some (FP.ddiv (FP.i2d (nI (zs (zC M) (M 1)))) (FP.i2d (nI (M 1)))) := by
    rw [g0, f_X11_meanCoins]
    exact sfb_f (by rw [il_0, nI_eqP (by omega) (by omega)]; omega) (sfc1_i hcs (sfg_i f1 rfl))
  rw [f_L_guests]
  refine sfc1_i (a := gc) rfl ?_
  refine (lg15 hV hr 12 0 (Nat.zero_le _) (by omega)).trans ?_
  refine (lg165 hV hr 6 0 (Nat.zero_le _) (by have := hV.1.1; omega)).trans ?_
  have e50 : nI (zs (zC M) (M 1)) + ot = (50 : Int32) * gc := by rw [n2, g0, il_50, nI_add, nI_mul, hC.1]
  have ewq : nI (zc (fun g => decide (zV M g ≠ 0)) (M 1)) = nI (zs (zQ M) (M 0)) := by rw [zq_count hV.1.1 hV.2.2.2.1]
  refine sfc1_i (a := ot) rfl (sfj_t 1 (fun k => ?_) (sfg_i (by decide) rfl))
  refine sfb_t e50 (sfb_t ewq (sfc1_i hmean (sfg_i (by rw [g0]; exact f1) (sfb_t (by rw [g0]; exact f2) ?_))))
  exact sfc1_i (x_byRides hV hr zn) (sfb_t rfl (sfc1_i (x_coins hV hr zn) (sfb_t rfl (sfc1_i (x_queueOf hV hr zn) (sfb_t rfl (sfc1_i (x_rides hV hr zm1) (sfb_t rfl rfl)))))))
end GST
