/-! the slides, one after the other -/
theorem sfc5_i {α γ0 γ1 γ2 γ3 γ4 : Type} {x : Option (γ0 × γ1 × γ2 × γ3 × γ4)} {k : γ0 → γ1 → γ2 → γ3 → γ4 → Option α} {R : Option α} {a0 : γ0} {a1 : γ1} {a2 : γ2} {a3 : γ3} {a4 : γ4} (h : x = some (a0, a1, a2, a3, a4)) (h2 : k a0 a1 a2 a3 a4 = R) : sf_c5 x k = R := by subst h; exact h2
section SLB
variable {M : Nat → Nat} {U : Nat} {on ot op os sc gc bc fc : Int32} {sd sp sw gp gr bg bs bt be ql qg fg fs fm : Nat → Int32}
theorem lo_busy (hV : VW M U) (hB : OB M bc bg bs bt be) {k : Int32 → Option Int32} : ∀ m j, j ≤ M 0 → M 0 - j < m → f_X8_busySlides_L4 (nI (M 3)) (nI (M 0)) (nI (M 2)) bs bt be k m (nI j) (nI (zc (fun s => decide (zla (zPo (zS M) (zT M) (zE M) s (M 3)) (M 2) ≠ 99)) j)) = k (nI (zc (fun s => decide (zla (zPo (zS M) (zT M) (zE M) s (M 3)) (M 2) ≠ 99)) (M 0))) := by
  have v0 := hV.1.1
  have v3 := hV.1.2.2.2.2
  intro m
  induction m with
  | zero => intro j hj h; omega
  | succ m ih =>
    intro j hj h
    rw [f_X8_busySlides_L4]
    rcases Nat.lt_or_ge j (M 0) with z | z
    · have ih1 := ih (j + 1) (by omega) (by omega)
      have hon := of_on hV hB (s := j) (t := M 3) (by omega) (by omega)
      refine sfb_f (by rw [nI_leP (by omega) (by omega)]; omega) (sfc1_i hon ?_)
      rcases zla_lt (P := zPo (zS M) (zT M) (zE M) j (M 3)) (n := M 2) with y | ⟨y, _⟩
      · rw [zc_f (P := (fun s => decide (zla (zPo (zS M) (zT M) (zE M) s (M 3)) (M 2) ≠ 99))) (n := j) (decide_eq_false (fun c => c y))] at ih1
        rw [y, zio_n]
        exact sfb_t (by decide) (sfn_r (nI_1 j) ih1)
      · have v2 := hV.1.2.2.1
        rw [zc_t (P := (fun s => decide (zla (zPo (zS M) (zT M) (zE M) s (M 3)) (M 2) ≠ 99))) (n := j) (decide_eq_true (by omega))] at ih1
        rw [zio_c (by omega)]
        refine sfb_f (fun h => ?_) (sfn_r (nI_1 _) (sfn_r (nI_1 j) ih1))
        have h2 := congrArg Int32.toInt h
        rw [nI_toInt (by omega), show (-1 : Int32).toInt = -1 by decide] at h2
        omega
    · have e : j = M 0 := by omega
      rw [e]
      exact sfb_t (by rw [nI_leP (by omega) (by omega)]; exact Nat.le_refl _) rfl
theorem lq0 (hV : VW M U) (hr : RO M on ot op os sc sd sp sw gc gp gr bc bg bs bt be ql qg fc fg fs fm) {s : Nat} (hs : s < M 0) {a : Nat → Int32} {mK : Nat} {x y : Int32} {k : Unit → Option (Int32 × (Nat → Int32) × Nat × Int32 × Int32)} : ∀ m j, j ≤ zQ M s → zQ M s - j < m → f_L_slides_L490 sc gc ql qg (nI s) a mK x y (nI (zQ M s)) k m (nI j) = k () := by
  have v0 := hV.1.1
  have v1 := hV.1.2.1
  have q5 := (hV.2.2.2.1.1 s (by omega)).1
  intro m
  induction m with
  | zero => intro j hj hm; omega
  | succ m ih =>
    intro j hj hm
    rw [f_L_slides_L490]
    rcases Nat.lt_or_ge j (zQ M s) with z | z
    · obtain ⟨h1, h2⟩ := hV.2.2.2.1.2.1 s (by omega) j z
      refine sfb_f (by rw [nI_leP (by omega) (by omega)]; omega) (sfc1_i (a_queued hV hr hs z).2 (sfc1_i (a_queueOf hV hr h1) ?_))
      rw [if_neg (by omega), h2]
      exact sfb_t rfl (sfn_r (nI_1 j) (ih (j + 1) (by omega) (by omega)))
    · have e : j = zQ M s := by omega
      subst e
      exact sfb_t (by rw [nI_leP (by omega) (by omega)]; omega) rfl
theorem lq_1 (hV : VW M U) (hr : RO M on ot op os sc sd sp sw gc gp gr bc bg bs bt be ql qg fc fg fs fm) {s : Nat} (hs : s < M 0) {a : Nat → Int32} {mK : Nat} {x y : Int32} {k : Unit → Option (Int32 × (Nat → Int32) × Nat × Int32 × Int32)} : ∀ m j, j ≤ zQ M s → zQ M s - j < m → f_L_slides_L490_1 sc gc ql qg (nI s) a mK x y (nI (zQ M s)) k m (nI j) = k () := by
  have v0 := hV.1.1
  have v1 := hV.1.2.1
  have q5 := (hV.2.2.2.1.1 s (by omega)).1
  intro m
  induction m with
  | zero => intro j hj hm; omega
  | succ m ih =>
    intro j hj hm
    rw [f_L_slides_L490_1]
    rcases Nat.lt_or_ge j (zQ M s) with z | z
    · obtain ⟨h1, h2⟩ := hV.2.2.2.1.2.1 s (by omega) j z
      refine sfb_f (by rw [nI_leP (by omega) (by omega)]; omega) (sfc1_i (a_queued hV hr hs z).2 (sfc1_i (a_queueOf hV hr h1) ?_))
      rw [if_neg (by omega), h2]
      exact sfb_t rfl (sfn_r (nI_1 j) (ih (j + 1) (by omega) (by omega)))
    · have e : j = zQ M s := by omega
      subst e
      exact sfb_t (by rw [nI_leP (by omega) (by omega)]; omega) rfl

theorem fl_g : ((List.range 5).all fun s => (List.range 5).all fun g => g == 0 || (sf_n32 (FP.fdiv (FP.i2f (nI s)) (FP.i2f (nI g))) && decide (Op.cmpValue (FP.fcmp (FP.fdiv (FP.i2f (nI s)) (FP.i2f (nI g))) (FP.fdiv (FP.i2f (nI s)) (FP.i2f (nI g)))) .l = 0))) = true := by decide +kernel
theorem fl_gg {s g : Nat} (hs : s ≤ 4) (hg : g ≤ 4) (h0 : 0 < g) : sf_n32 (FP.fdiv (FP.i2f (nI s)) (FP.i2f (nI g))) = true ∧ Op.cmpValue (FP.fcmp (FP.fdiv (FP.i2f (nI s)) (FP.i2f (nI g))) (FP.fdiv (FP.i2f (nI s)) (FP.i2f (nI g)))) .l = 0 := by
  have h := List.all_eq_true.mp (List.all_eq_true.mp fl_g s (List.mem_range.mpr (by omega))) g (List.mem_range.mpr (by omega))
  have e : (g == 0) = false := by
    cases h1 : g == 0 with
    | false => rfl
    | true => exact absurd (beq_iff_eq.mp h1) (by omega)
  rw [e, Bool.false_or, Bool.and_eq_true] at h
  exact ⟨h.1, of_decide_eq_true h.2⟩
theorem nzbk_lo {p : Int32} (hU : M 3 ≤ 4000000) (hp : p = nI (M 3) - 1) : ¬ zbk M p := fun ⟨t, h1, h2, h3⟩ => by
  have e := congrArg Int32.toInt (hp.symm.trans h3)
  rw [il_1, nI_stoInt (by omega) (by omega), nI_toInt (by omega)] at e
  omega
theorem nzbk_hi {p : Int32} (hU : M 3 ≤ 4000000) (hp : p = nI (M 3 + 121)) : ¬ zbk M p := fun ⟨t, h1, h2, h3⟩ => by
  rw [hp, nI_eq (by omega) (by omega)] at h3
  omega
/-- who rides, and how many slides are busy -/
theorem sl_rider (hV : VW M U) (hr : RO M on ot op os sc sd sp sw gc gp gr bc bg bs bt be ql qg fc fg fs fm) {s : Nat} (hs : s < M 0) : (∀ k : Int32 → Option (Int32 × (Nat → Int32) × Nat × Int32 × Int32), sf_b ((0 : Int32) ≤ zio (zla (zPo (zS M) (zT M) (zE M) s (M 3)) (M 2))) (sf_c1 (f_X11_bookedGuest bc bg (zio (zla (zPo (zS M) (zT M) (zE M) s (M 3)) (M 2)))) (fun r => k r)) (k (-13 : Int32)) = k (if (zla (zPo (zS M) (zT M) (zE M) s (M 3)) (M 2)) = 99 then -nI 13 else nI (zG M (zla (zPo (zS M) (zT M) (zE M) s (M 3)) (M 2))))) ∧ (∀ k : Int32 → Option (Int32 × (Nat → Int32) × Nat × Int32 × Int32), sf_b ((0 : Int32) ≤ zio (zla (zPo (zS M) (zT M) (zE M) s (M 3)) (M 2))) (k (1 : Int32)) (k (0 : Int32)) = k (nI (if (zla (zPo (zS M) (zT M) (zE M) s (M 3)) (M 2)) ≠ 99 then 1 else 0))) := by
  have v2 := hV.1.2.2.1
  rcases zla_lt (P := (zPo (zS M) (zT M) (zE M) s (M 3))) (n := M 2) with y | ⟨y, _⟩
  · rw [y, zio_n, if_pos rfl, if_neg (fun h => h rfl)]
    exact ⟨fun k => sfb_f (by decide) rfl, fun k => sfb_f (by decide) rfl⟩
  · rw [zio_c (by omega), if_neg (by omega), if_pos (by omega)]
    have h0 : (0 : Int32) ≤ nI (zla (zPo (zS M) (zT M) (zE M) s (M 3)) (M 2)) := by rw [il_0, nI_leP (by omega) (by omega)]; omega
    exact ⟨fun k => sfb_t h0 (sfc1_i (a_bookedGuest hV hr y).1 rfl), fun k => sfb_t h0 rfl⟩
set_option maxHeartbeats 1000000 in
theorem ls15 (hV : VW M U) (hr : RO M on ot op os sc sd sp sw gc gp gr bc bg bs bt be ql qg fc fg fs fm) {o : Nat → Nat} (ho : ZO M o) : ∀ m s (K L : Nat) (l : List Nat) (sv : Nat → Int32) (sm : Int32), s ≤ M 0 → M 0 - s < m → PB l K sv → l.length = L → L ≤ 142 → ∃ (K' L' : Nat) (l' : List Nat) (sv' : Nat → Int32) (sm' : Int32), (∀ k : Int32 → Int32 → Int32 → (Nat → Int32) → Nat → Option (Int32 × (Nat → Int32) × Nat × Int32 × Int32), f_L_slides_L15 on sc sd sp sw gc bc bg bs bt be ql qg sc on k m (nI s) (nI (zc (fun s => decide ((zla (zPo (zS M) (zT M) (zE M) s (M 3)) (M 2)) ≠ 99)) s)) sm (nI L) sv K = k (nI (zc (fun s => decide ((zla (zPo (zS M) (zT M) (zE M) s (M 3)) (M 2)) ≠ 99)) (M 0))) sm' (nI L') sv' K') ∧ PB l' K' sv' ∧ l'.length = L' ∧ L' ≤ 142 := by
  have v2 := hV.1.2.2.1
  have v1 := hV.1.2.1
  have v0 := hV.1.1
  have hU := hV.1.2.2.2.2
  have n1 := hr.1.1
  have s0 := hr.2.1.1
  have hz := zbw_o (zW M) (M 0)
  intro m
  induction m with
  | zero => intro s K L l sv sm hs hm; omega
  | succ m ih =>
    intro s K L l sv sm hs hm hP hl hL
    rcases Nat.lt_or_ge s (M 0) with z | z
    · obtain ⟨K', L', sv', sm', f1, f2, f3, f4⟩ := a_write hV hr ho z (sm := sm) hP hl hL
      obtain ⟨Kf, Lf, lf, svf, smf, hnext, hf1, hf2, hf3⟩ := ih (s + 1) K' L' _ sv' sm' (by omega) (by omega) f3 f4 (by omega)
      refine ⟨Kf, Lf, lf, svf, smf, fun k => ?_, hf1, hf2, hf3⟩
      rw [f_L_slides_L15]
      have hS := hV.2.1 s z
      have hd := a_during hV hr (s := s) (t := M 3) (by omega) (by omega)
      rw [← n1] at hd
      obtain ⟨r1, r2⟩ := sl_rider hV hr z
      have hwt := (a_wetness hV hr z).2
      refine sfb_f (by rw [s0, nI_leP (by omega) (by omega)]; omega) (sfc1_i hd (sfj_t _ r2 (sfn_r (nI_add _ _) (sfc1_i (a_rider hV hr z) (sfj_t _ r1 (sfb_t rfl (sfc1_i hwt (sfb_f (nn_0 (by omega)) (sfc1_i hwt (sfb_t (by rw [il_9, nI_leP (by omega) (by omega)]; omega) ?_))))))))))
      have hcb : zc (fun s => decide ((zla (zPo (zS M) (zT M) (zE M) s (M 3)) (M 2)) ≠ 99)) s + (if (zla (zPo (zS M) (zT M) (zE M) s (M 3)) (M 2)) ≠ 99 then 1 else 0) = zc (fun s => decide ((zla (zPo (zS M) (zT M) (zE M) s (M 3)) (M 2)) ≠ 99)) (s + 1) := by
        by_cases c : (zla (zPo (zS M) (zT M) (zE M) s (M 3)) (M 2)) ≠ 99
        · rw [if_pos c, zc_t (P := (fun s => decide ((zla (zPo (zS M) (zT M) (zE M) s (M 3)) (M 2)) ≠ 99))) (decide_eq_true c)]
        · rw [if_neg c, zc_f (P := (fun s => decide ((zla (zPo (zS M) (zT M) (zE M) s (M 3)) (M 2)) ≠ 99))) (decide_eq_false c)]; rfl
      rw [hcb]
      refine sfn_r rfl ?_
      refine (l100 hV hr z 121 124 _ _ (by rw [n1, show (120 : Int32) = nI 120 from rfl, nI_add, nI_toInt (by omega)]; omega) (Nat.le_refl _) (by omega) (Or.inr ⟨fun y y1 y2 => by omega, rfl⟩)).trans ?_
      -- the text
      have d1 := znd_1 (v := zD M s) (by omega)
      have d2 := znd_1 (v := zP M s) (by omega)
      have d3 := znd_1 (v := zW M s) (by omega)
      obtain ⟨K1, sv1, p1, p2, p3, p4, p5⟩ := jt_nr GB_0 (L := 0) rfl (v := zD M s) (by omega) (by omega)
      rw [d1] at p3 p5
      obtain ⟨K2, sv2, q1, q2, q3⟩ := jt_s p4 p5 cs_8 (by decide)
      obtain ⟨K3, sv3, u1, u2, u3, u4, u5⟩ := jt_nr q2 q3 (v := zP M s) (by decide) (by omega)
      rw [d2] at u3 u5
      obtain ⟨K4, sv4, t1, t2, t3⟩ := jt_s u4 u5 cs_9 (by decide)
      obtain ⟨K5, sv5, w1, w2, w3, w4, w5⟩ := jt_nr t2 t3 (v := zW M s) (by decide) (by omega)
      rw [d3] at w3 w5
      obtain ⟨K6, sv6, e1, e2, e3⟩ := jt_s w4 w5 cs_10 (by decide)
      obtain ⟨tv7, g1, g2, g3⟩ := jt_o e2 e3 (by decide)
      refine sfc1_i (a_duration hV hr z).1 (sfn_r p1 (sfg_i p2 (sfc2_i p3 (sfc3_i q1 (sfc1_i (a_price hV hr z).1 (sfn_r u1 (sfg_i u2 (sfc2_i u3 (sfc3_i t1 (sfc1_i (a_wetness hV hr z).1 (sfn_r w1 (sfg_i w2 (sfc2_i w3 (sfc3_i e1 (sfc2_i g1 (sfg_i g3 ?_))))))))))))))))
      refine l246 hV hr ho z (fun tK tv ht => ?_) 14 0 _ _ _ (Nat.zero_le _) (by omega) (by rw [zpre, List.append_nil]; rfl) g2
      -- ranks by wetness
      obtain ⟨b, hb, eb⟩ := zrk_onto hz z
      have x1 := (a_byWetness hV hr hb).2
      rw [eb] at x1
      refine sfc1_i x1 ?_
      have hSb := hV.2.1 b hb
      have hq : ∃ (u w : Int32), (∀ (k : Int32 → Option (Int32 × (Nat → Int32) × Nat × Int32 × Int32)), sf_b (nI s = (0 : Int32)) (k (-1 : Int32)) (sf_c1 (f_L_byWetness sc sw (nI s - (1 : Int32))) (fun r => k r)) = k u) ∧ (∀ (k : Int32 → Option (Int32 × (Nat → Int32) × Nat × Int32 × Int32)), sf_b (nI s = (0 : Int32)) (k (1 : Int32)) (sf_c1 (f_L_wetness sc sw u) (fun r => sf_c1 (f_L_wetness sc sw (nI b)) (fun r' => k (r - r')))) = k w) ∧ ¬ w < (0 : Int32) ∧ (w = 0 → ¬ nI b < u) := by
        by_cases c : s = 0
        · refine ⟨-1, 1, fun k => sfb_t (by rw [c]; rfl) rfl, fun k => sfb_t (by rw [c]; rfl) rfl, by decide, fun h => absurd h (by decide)⟩
        · have c0 : ¬ nI s = (0 : Int32) := by rw [il_0, nI_eqP (by omega) (by omega)]; exact c
          obtain ⟨b', hb', eb'⟩ := zrk_onto hz (r := s - 1) (by omega)
          have y1 := (a_byWetness hV hr hb').2
          rw [eb'] at y1
          have hSb' := hV.2.1 b' hb'
          have hlt := of_decide_eq_true (zrk_back hz hb' hb (by omega))
          have ej : nI s - (1 : Int32) = nI (s - 1) := nI_sub (a := s) (b := 1) (by omega)
          refine ⟨nI b', nI (zW M b') - nI (zW M b), fun k => sfb_f c0 (sfc1_i (by rw [ej]; exact y1) rfl), fun k => sfb_f c0 (sfc1_i (a_wetness hV hr hb').2 (sfc1_i (a_wetness hV hr hb).2 rfl)), ?_, ?_⟩
          · intro h
            rw [il_0, Int32.lt_iff_toInt_lt, nI_stoInt (by omega) (by omega), nI_toInt (by omega)] at h
            omega
          · intro h
            rw [il_0, nI_szero (by omega) (by omega)] at h
            rw [nI_ltP (by omega) (by omega)]
            omega
      obtain ⟨u, w, q1', q2', q3', q4'⟩ := hq
      refine sfj_t u q1' (sfj_t w q2' ?_)
      have hsp := a_spells f3.2 ht
      rw [f4] at hsp
      have ey1 : f_L_isFree on sc sd bc bs bt be (nI s) (on - (1 : Int32)) = some (-12) := y_isFree hV hr z (nzbk_lo (by omega) (by rw [n1]))
      have ey2 : f_L_firstFree on sc sd bc bs bt be (nI s) (on + (121 : Int32)) = some (-12) := y_firstFree hV hr z (nzbk_hi (by omega) (by rw [n1, show (121 : Int32) = nI 121 from rfl, nI_add]))
      have ey3 : f_L_byGaps on sc sd bc bs bt be (nI s) (on - (1 : Int32)) = some (-12) := y_byGaps hV hr z (nzbk_lo (by omega) (by rw [n1]))
      have hq5 := (hV.2.2.2.1.1 s (by omega)).1
      have zq1 : ¬ zin (zQ M s) (nI (zQ M s)) := zin_n (by omega)
      have zq2 : ¬ zin (zQ M s) (-1) := zin_m (n := zQ M s) (k := 1) (by omega) (by omega) (by omega)
      refine sfc5_i f1 (sfc1_i hsp (sfb_f (by decide) (sfb_f (nn_0 (by omega)) (sfb_f q3' ?_))))
      by_cases c : w = 0
      · refine sfb_t c (sfb_f (q4' c) (sfc1_i ey1 (sfb_t rfl (sfc1_i ey2 (sfb_t rfl (sfc1_i ey3 (sfb_t rfl (sfc1_i (a_queueLength hV hr z).2 ?_)))))))) 
        refine (lq_1 hV hr z 8 0 (Nat.zero_le _) (by omega)).trans ?_
        exact sfb_f (by rw [il_5, nI_ltP (by omega) (by omega)]; omega) (sfc1_i (x_queued hV hr z zq1) (sfb_t rfl (sfc1_i (x_queued hV hr z zq2) (sfb_t rfl (sfn_r (nI_1 s) (hnext k))))))
      · refine sfb_f c (sfc1_i ey1 (sfb_t rfl (sfc1_i ey2 (sfb_t rfl (sfc1_i ey3 (sfb_t rfl (sfc1_i (a_queueLength hV hr z).2 ?_))))))) 
        refine (lq0 hV hr z 8 0 (Nat.zero_le _) (by omega)).trans ?_
        exact sfb_f (by rw [il_5, nI_ltP (by omega) (by omega)]; omega) (sfc1_i (x_queued hV hr z zq1) (sfb_t rfl (sfc1_i (x_queued hV hr z zq2) (sfb_t rfl (sfn_r (nI_1 s) (hnext k))))))
    · have e : s = M 0 := by omega
      subst e
      refine ⟨K, L, l, sv, sm, fun k => ?_, hP, hl, hL⟩
      rw [f_L_slides_L15]
      exact sfb_t (by rw [s0, nI_leP (by omega) (by omega)]; omega) rfl
theorem l_slides (hV : VW M U) (hr : RO M on ot op os sc sd sp sw gc gp gr bc bg bs bt be ql qg fc fg fs fm) (hs0 : 0 < M 0) {K L : Nat} {l : List Nat} {sv : Nat → Int32} {sm : Int32} (hP : PB l K sv) (hl : l.length = L) (hL : L ≤ 142) : ∃ (K' L' : Nat) (l' : List Nat) (sv' : Nat → Int32) (sm' : Int32), f_L_slides on sc sd sp sw gc bc bg bs bt be ql qg sv K sm (nI L) = some (1, sv', K', sm', nI L') ∧ PB l' K' sv' ∧ l'.length = L' ∧ L' ≤ 142 := by
  have v0 := hV.1.1
  have n1 := hr.1.1
  have s0 := hr.2.1.1
  have b0 := hr.2.2.2.1.1
  obtain ⟨o, ho⟩ := zrk_ord (zo_of hV)
  have zn : ¬ zin (M 0) sc := by rw [s0]; exact zin_n (by omega)
  have zm1 : ¬ zin (M 0) (-1) := zin_m (n := M 0) (k := 1) (by omega) (by omega) (by omega)
  have hcb : zc (fun s => decide ((zla (zPo (zS M) (zT M) (zE M) s (M 3)) (M 2)) ≠ 99)) (M 0) ≤ 4 := Nat.le_trans zc_le v0
  obtain ⟨f1, f2⟩ := fl_gg hcb v0 hs0
  have hbusy : f_X11_busyShare on sc bc bs bt be = some (FP.fdiv (FP.i2f (nI (zc (fun s => decide ((zla (zPo (zS M) (zT M) (zE M) s (M 3)) (M 2)) ≠ 99)) (M 0)))) (FP.i2f (nI (M 0)))) := by
    rw [n1, s0, b0, f_X11_busyShare]
    refine sfb_f (by rw [il_0, nI_eqP (by omega) (by omega)]; omega) (sfc1_i (a := nI (zc (fun s => decide ((zla (zPo (zS M) (zT M) (zE M) s (M 3)) (M 2)) ≠ 99)) (M 0))) ?_ (sfg_i f1 rfl))
    rw [f_X8_busySlides]
    exact lo_busy hV hr.2.2.2.1 (k := fun y => some y) 2000 0 (Nat.zero_le _) (by omega)
  obtain ⟨K', L', l', sv', sm', h, h1, h2, h3⟩ := ls15 hV hr ho 6 0 K L l sv sm (Nat.zero_le _) (by omega) hP hl hL
  refine ⟨K', L', l', sv', sm', ?_, h1, h2, h3⟩
  rw [f_L_slides]
  refine sfc1_i (a := sc) rfl (sfc1_i (a := on) rfl ((h _).trans ?_))
  refine sfc1_i hbusy (sfg_i (by rw [s0]; exact f1) (sfb_t (by rw [s0]; exact f2) ?_))
  exact sfc1_i (x_byWetness hV hr zn) (sfb_t rfl (sfc1_i (x_duration hV hr zn) (sfb_t rfl (sfc1_i (x_price hV hr zn) (sfb_t rfl (sfc1_i (x_wetness hV hr zm1) (sfb_t rfl (sfc1_i (x_rider hV hr zn) (sfb_t rfl (sfc1_i (x_queueLength hV hr zn) (sfb_t rfl (sfc1_i (x_queued2 hV hr zn) (sfb_t rfl (sfc1_i (x_isFree hV hr zn) (sfb_t rfl (sfc1_i (x_firstFree hV hr zn) (sfb_t rfl (sfc1_i (x_byGaps hV hr zm1) (sfb_t rfl (sfc5_i (x_write hV hr zn) (sfb_t rfl rfl)))))))))))))))))))))
end SLB
