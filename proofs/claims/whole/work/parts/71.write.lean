/-! a slide's description, in the class and in the model -/
theorem sfc0_i {α : Type} {x : Option Unit} {k : Unit → Option α} {R : Option α} (h : x = some ()) (h2 : k () = R) : sf_c0 x k = R := by subst h; exact h2
theorem sfc1_i {α γ : Type} {x : Option γ} {k : γ → Option α} {R : Option α} {a : γ} (h : x = some a) (h2 : k a = R) : sf_c1 x k = R := by subst h; exact h2
theorem sfc2_i {α γ δ : Type} {x : Option (γ × δ)} {k : γ → δ → Option α} {R : Option α} {a : γ} {b : δ} (h : x = some (a, b)) (h2 : k a b = R) : sf_c2 x k = R := by subst h; exact h2
theorem sfc3_i {α γ δ ε : Type} {x : Option (γ × δ × ε)} {k : γ → δ → ε → Option α} {R : Option α} {a : γ} {b : δ} {c : ε} (h : x = some (a, b, c)) (h2 : k a b c = R) : sf_c3 x k = R := by subst h; exact h2
theorem sfb_t {α : Type} {c : Prop} [Decidable c] {a b R : Option α} (h : c) (h2 : a = R) : sf_b c a b = R := by rw [sf_b, if_pos h]; exact h2
theorem sfb_f {α : Type} {c : Prop} [Decidable c] {a b R : Option α} (h : ¬ c) (h2 : b = R) : sf_b c a b = R := by rw [sf_b, if_neg h]; exact h2
theorem sfn_r {α β : Type} {x y : β} {k : β → Option α} {R : Option α} (h : x = y) (h2 : k y = R) : sf_n x k = R := by subst h; exact h2
theorem isTh1 (mt : Int32) : f_X12_isThere mt (nI 1) = some (nI 1, nI 0) := by
  rw [f_X12_isThere, sf_b, if_neg (by decide), sf_g, if_pos (by decide)]; rfl
theorem isTh0 (mt : Int32) : f_X12_isThere mt (nI 0) = some (nI 0, nI 1) := by
  rw [f_X12_isThere, sf_b, if_pos (by decide), sf_g, if_pos (by decide)]; rfl
def WW (sv : Nat → Int32) (sK : Nat) (sn : Int32) (mo : Nat → Int32) (mO : Int32) : Prop := ∃ (c : Nat → Nat) (L : Nat), L ≤ 142 ∧ sn = nI L ∧ mO = nI L ∧ WB c L sK sv ∧ WM c L mo
section WRT
variable {M : Nat → Nat} {ms : Nat → Int32} {U : Nat} {on ot op os sc gc bc fc : Int32} {sd sp sw gp gr bg bs bt be ql qg fg fs fm : Nat → Int32}
theorem znd_1 {v : Nat} (h : v < 10) : znd v = 1 := by unfold znd; rw [if_pos h]
theorem sim_wb (hV : VW M U) (hm : MR M ms) (hr : RO M on ot op os sc sd sp sw gc gp gr bc bg bs bt be ql qg fc fg fs fm) {s : Nat} (hs : s < M 0) {km : Int32 → (Nat → Int32) → Option (Int32 × Int32 × (Nat → Int32) × Int32)} : ∀ (d r w u : Nat) (c : Nat → Nat) (L K : Nat) (sv mo : Nat → Int32) (p : Int32), r + d = M 2 → p.toInt = (u : Int) - 1 → (∀ k, k < M 2 → zS M k = s → (zrk (zbf (zS M) (zT M)) (M 2) k < r ↔ zT M k < u)) → w ≤ r → L ≤ 6 + 10 * w → WB c L K sv → WM c L mo → ∀ m m', d < m → M 2 - w < m' → ∃ (c' : Nat → Nat) (L' K' : Nat) (sv' mo' : Nat → Int32), f_X11_writeBookings_L13 (nI (M 2)) bg bs bt (nI s) (fun y_26 z_27 m_28 => some (z_27, m_28, y_26)) m' (nI w) p (nI L) sv K = some (sv', K', nI L') ∧ f_X12_writeSlide_L69 ms (nI s) km m (nI r) (nI L) mo = km (nI L') mo' ∧ L' ≤ 126 ∧ WB c' L' K' sv' ∧ WM c' L' mo' := by
  obtain ⟨h0, a1, a2, a3, a4, a5, a6, a7, a8, a9, a10, a11, a12⟩ := fm_all hm
  have hB := zMB_of hV
  have hz := zo_of hV
  have hb := zHB_of hV hr.2.2.2.1
  have hn := hB.1
  have hU := hV.1.2.2.2.2
  have v0 := hV.1.1
  have v1 := hV.1.2.1
  have c2 : ms (2 : Int32).toNatClampNeg = nI (M 2) := h0 2 (by omega)
  have i2 : sf_in (2 : Int32) 158 = true := by decide
  intro d
  induction d with
  | zero =>
    intro r w u c L K sv mo p hrd hp hru hw hL hWB hWM m m' hm1 hm2
    refine ⟨c, L, K, sv, mo, ?_, ?_, by omega, hWB, hWM⟩
    · cases m' with
      | zero => omega
      | succ m' =>
        rw [f_X11_writeBookings_L13]
        rcases Nat.lt_or_ge w (M 2) with z | z
        · refine sfb_f (by rw [nI_leP (by omega) (by omega)]; omega) ?_
          have hnx := fb_next hb (s := s) (by omega) hp
          have e99 : znb (zS M) (zT M) s u (M 2) = 99 := by
            rcases Nat.decEq (znb (zS M) (zT M) s u (M 2)) 99 with y | y
            · obtain ⟨f1, f2, f3, f4⟩ := znb_some (by omega) y
              have h1 := (hru _ f1 (of_decide_eq_true f2)).mp (by
                have := zrk_lt hz f1
                omega)
              omega
            · exact y
          rw [e99, zio_n] at hnx
          refine sfc1_i hnx (sfb_t rfl rfl)
        · exact sfb_t (by rw [nI_leP (by omega) (by omega)]; exact z) rfl
    · cases m with
      | zero => omega
      | succ m =>
        rw [f_X12_writeSlide_L69]
        refine sfg_i i2 (sfb_t ?_ rfl)
        rw [c2, nI_leP (by omega) (by omega)]; omega
  | succ d ih =>
    intro r w u c L K sv mo p hrd hp hru hw hL hWB hWM m m' hm1 hm2
    obtain ⟨b, hbn, hbr⟩ := zrk_onto hz (r := r) (by omega)
    obtain ⟨⟨g1, g2, g3, g4⟩, _⟩ := hb.2 b hbn
    obtain ⟨x1, x2, x3, x4, x5⟩ := hB.2 b hbn
    have hVB := hV.2.2.2.2.1 b hbn
    cases m with
    | zero => omega
    | succ m =>
      have hrk : f_X12_ranked ms (nI r) = some (nI b) := by rw [← hbr]; exact fm_ranked hm hB hz hbn
      have e0 : ¬ ms (2 : Int32).toNatClampNeg ≤ nI r := by rw [c2, nI_leP (by omega) (by omega)]; omega
      by_cases hsb : zS M b = s
      · cases m' with
        | zero => omega
        | succ m' =>
          have hnx := fb_next hb (s := s) (by omega) hp
          have hub : u ≤ zT M b := by
            rcases Nat.lt_or_ge (zT M b) u with y | y
            · have := (hru b hbn hsb).mpr y; omega
            · exact y
          have hfb : znb (zS M) (zT M) s u (M 2) = b := by
            have hne : znb (zS M) (zT M) s u (M 2) ≠ 99 := fun e => by
              have := znb_none (by omega) e b hbn hsb
              omega
            obtain ⟨f1, f2, f3, f4⟩ := znb_some (by omega) hne
            have f2' := of_decide_eq_true f2
            have h5 := f4 b hbn (decide_eq_true hsb) hub
            rcases Nat.lt_or_ge (zrk (zbf (zS M) (zT M)) (M 2) (znb (zS M) (zT M) s u (M 2))) r with y | y
            · have := (hru _ f1 f2').mp y; omega
            · rcases Nat.decEq (znb (zS M) (zT M) s u (M 2)) b with q | q
              · have h6 := zrk_back hz hbn f1 (by
                  rcases Nat.decEq (zrk (zbf (zS M) (zT M)) (M 2) (znb (zS M) (zT M) s u (M 2))) r with t | t
                  · omega
                  · exact absurd (zrk_inj hz f1 hbn (by omega)) q)
                have h7 := of_decide_eq_true h6
                omega
              · exact q
          rw [hfb, zio_c (by omega)] at hnx
          have n1 := znd_1 (v := zG M b) (by omega)
          have hzT := znd_pos (zT M b)
          obtain ⟨K1, sv1, mo1, c1', p1, p2, p3, p4, p5, p6⟩ := jw_ch hWB hWM (x := 32) (by omega) (by omega)
          obtain ⟨K2, sv2, mo2, c2', q1, q2, q3, q4, q5, q6⟩ := jw_nr p5 p6 (v := zG M b) (by omega) (by omega)
          rw [n1] at q3 q4 q5 q6
          obtain ⟨K3, sv3, mo3, c3', r1, r2, r3, r4, r5, r6⟩ := jw_ch q5 q6 (x := 64) (by omega) (by omega)
          obtain ⟨K4, sv4, mo4, c4', t1, t2, t3, t4, t5, t6⟩ := jw_nr r5 r6 (v := zT M b) (by omega) (by omega)
          obtain ⟨c', L', K', sv', mo', y1, y2, y3, y4, y5⟩ := ih (r + 1) (w + 1) (zT M b + 1) c4' (L + 1 + 1 + 1 + znd (zT M b)) K4 sv4 mo4 (nI (zT M b)) (by omega) (nI_bef (by omega)) (fun k hk hks => by
            constructor
            · intro hlt
              rcases Nat.decEq (zrk (zbf (zS M) (zT M)) (M 2) k) r with q | q
              · have := (hru k hk hks).mp (by omega); omega
              · have : k = b := zrk_inj hz hk hbn (by omega)
                rw [this]; omega
            · intro hlt
              rcases Nat.lt_or_ge (zrk (zbf (zS M) (zT M)) (M 2) k) (r + 1) with q | q
              · exact q
              · have h6 := of_decide_eq_true (zrk_back hz hbn hk (by omega))
                omega) (by omega) (by omega) t5 t6 m m' (by omega) (by omega)
          refine ⟨c', L', K', sv', mo', ?_, ?_, y3, y4, y5⟩
          · rw [f_X11_writeBookings_L13]
            refine sfb_f (by rw [nI_leP (by omega) (by omega)]; omega) ?_
            refine sfc1_i hnx ?_
            refine sfb_f (by rw [show (-1 : Int32) = -nI 1 from rfl, nI_neP 1 (by omega) (by omega) (by omega)]; exact id) ?_
            have ib : sf_in (nI b) 12 = true := of_eq_true (nI_inT (by omega) (by omega))
            have ic : (nI b).toNatClampNeg = b := nI_clamp (by omega)
            rw [ic]
            refine sfg_i ib ?_
            refine sfn_r g3 ?_
            refine sfn_r p1 ?_
            refine sfg_i (of_eq_true p2) ?_
            refine sfc2_i p3 ?_
            refine sfg_i ib ?_
            rw [g1]
            refine sfn_r q1 ?_
            refine sfg_i (of_eq_true q2) ?_
            refine sfc2_i q3 ?_
            refine sfn_r r1 ?_
            refine sfg_i (of_eq_true r2) ?_
            refine sfc2_i r3 ?_
            refine sfn_r t1 ?_
            refine sfg_i (of_eq_true t2) ?_
            refine sfc2_i t3 ?_
            refine sfn_r (nI_1 w) ?_
            exact y1
          · rw [f_X12_writeSlide_L69]
            refine sfg_i i2 (sfb_f e0 ?_)
            refine sfc1_i hrk ?_
            refine sfc1_i (a10 b (by omega)) ?_
            refine sfb_t (by rw [hsb]) ?_
            refine sfc2_i p4 ?_
            refine sfc1_i (a9 b (by omega)) ?_
            refine sfc2_i q4 ?_
            refine sfc2_i r4 ?_
            refine sfc1_i (a11 b (by omega)) ?_
            refine sfc2_i t4 ?_
            refine sfn_r (nI_1 r) ?_
            exact y2
      · obtain ⟨c', L', K', sv', mo', y1, y2, y3, y4, y5⟩ := ih (r + 1) w u c L K sv mo p (by omega) hp (fun k hk hks => by
          have h6 := hru k hk hks
          constructor
          · intro hlt
            refine h6.mp ?_
            rcases Nat.decEq (zrk (zbf (zS M) (zT M)) (M 2) k) r with q | q
            · omega
            · have : k = b := zrk_inj hz hk hbn (by omega)
              exact absurd (by rw [← this]; exact hks) hsb
          · intro hlt
            have := h6.mpr hlt
            omega) (by omega) hL hWB hWM m m' (by omega) hm2
        refine ⟨c', L', K', sv', mo', y1, ?_, y3, y4, y5⟩
        rw [f_X12_writeSlide_L69]
        refine sfg_i i2 (sfb_f e0 ?_)
        refine sfc1_i hrk ?_
        refine sfc1_i (a10 b (by omega)) ?_
        refine sfb_f (by rw [nI_eqP (by omega) (by omega)]; exact hsb) ?_
        refine sfn_r (nI_1 r) ?_
        exact y2
theorem q_writeSlide (hV : VW M U) (hm : MR M ms) (hr : RO M on ot op os sc sd sp sw gc gp gr bc bg bs bt be ql qg fc fg fs fm) (oL : Nat → Int64) (mt : Int32) {sv mo : Nat → Int32} {sK : Nat} {sm sn mO : Int32} (hW : WW sv sK sn mo mO) (p1 : Int32) : ∃ (k : Nat) (b : Int32) (sv' mo' : Nat → Int32) (sK' : Nat) (sm' sn' mO' : Int32) (q : Nat → Int64), k < 100 ∧ f_L_writeSlide sc sd sp sw bc bg bs bt sv sK sm sn oL p1 = some (nI k, sv', sK', sm', sn', q) ∧ f_X12_writeSlide ms mt mo mO p1 = some (b, nI k, mo', mO') ∧ (k = 0 → q 0 = b.toInt64) ∧ WW sv' sK' sn' mo' mO' := by
  obtain ⟨h0, a1, a2, a3, a4, a5, a6, a7, a8, a9, a10, a11, a12⟩ := fm_all hm
  have hv := hV
  obtain ⟨⟨v0, v1, v2, v4, v3, vU⟩, hS, hR, hVQ, hVB, hD, hVF, hC⟩ := hv
  have hr' := hr
  obtain ⟨⟨n1, n2, n3, n4⟩, oS, oG, oB, oQ, oF⟩ := hr'
  have s0 := oS.1
  have b0 := oB.1
  by_cases c : zin (M 0) p1
  case neg =>
    have x1 : f_X10_has (nI (M 0)) p1 = some (nI 0) := fh_0 (by omega) c
    have y1 := (fm_isS hm v0 p1).2 c
    refine ⟨1, nI 0, sv, mo, sK, sm, sn, mO, oL, by omega, ?_, ?_, fun e => by omega, hW⟩
    · have eT : f_TX11_writeSlide sc p1 = some 0 := by
        rw [f_TX11_writeSlide, f_TX11_checkSlide, s0, x1]; rfl
      rw [f_L_writeSlide, eT]; rfl
    · rw [f_X12_writeSlide]
      refine sfc1_i y1 ?_
      refine sfc2_i (isTh0 mt) ?_
      exact sfb_t rfl rfl
  have x1 : f_X10_has (nI (M 0)) p1 = some (nI 1) := fh_1 (by omega) c
  have y1 := (fm_isS hm v0 p1).1 c
  obtain ⟨s, hs, rfl⟩ := c
  have hs' : s < 4 := by omega
  obtain ⟨s1, s2, s3⟩ := oS.2 s hs
  obtain ⟨w1, w2, w3, w4, w5⟩ := hS s hs
  obtain ⟨c0, L0, hL0, rfl, rfl, hWB, hWM⟩ := hW
  have hK := hWB.1
  have hK6 : 16 ≤ sK ∧ sK ≤ 286 := by rcases hK with h | h | h | h | h <;> omega
  have hb0 : WB c0 0 sK sv := ⟨hK, Nat.zero_le _, hWB.2.2.1, fun k hk => absurd hk (Nat.not_lt_zero k)⟩
  have hm0 : WM c0 0 mo := fun k hk => absurd hk (Nat.not_lt_zero k)
  have d1 := znd_1 (v := zD M s) (by omega)
  have d2 := znd_1 (v := zP M s) (by omega)
  have d3 := znd_1 (v := zW M s) (by omega)
  obtain ⟨K1, sv1, mo1, c1, p1, p2, p3, p4, p5, p6⟩ := jw_nr hb0 hm0 (v := zD M s) (by omega) (by omega)
  rw [d1] at p3 p4 p5 p6
  obtain ⟨K2, sv2, mo2, c2, q1, q2, q3, q4, q5, q6⟩ := jw_ch p5 p6 (x := 109) (by omega) (by omega)
  obtain ⟨K3, sv3, mo3, c3, r1, r2, r3, r4, r5, r6⟩ := jw_nr q5 q6 (v := zP M s) (by omega) (by omega)
  rw [d2] at r3 r4 r5 r6
  obtain ⟨K4, sv4, mo4, c4, t1, t2, t3, t4, t5, t6⟩ := jw_ch r5 r6 (x := 99) (by omega) (by omega)
  obtain ⟨K5, sv5, mo5, c5, u1, u2, u3, u4, u5, u6⟩ := jw_nr t5 t6 (v := zW M s) (by omega) (by omega)
  rw [d3] at u3 u4 u5 u6
  obtain ⟨K6, sv6, mo6, c6, e1, e2, e3, e4, e5, e6⟩ := jw_ch u5 u6 (x := 119) (by omega) (by omega)
  obtain ⟨c', L', K', sv', mo', z1, z2, z3, z4, z5⟩ := sim_wb hV hm hr hs (km := fun y_36 z_37 => some (y_36, nI 0, z_37, y_36)) (M 2) 0 0 0 c6 (0 + 1 + 1 + 1 + 1 + 1 + 1) K6 sv6 mo6 (-nI 1) (by omega) nI_bef0 (fun k hk _ => ⟨fun h => absurd h (Nat.not_lt_zero _), fun h => absurd h (Nat.not_lt_zero _)⟩) (Nat.le_refl 0) (by omega) e5 e6 2000 2000 (by omega) (by omega)
  have hchk : f_X11_checkSlide (nI (M 0)) (nI s) = some () := by rw [f_X11_checkSlide, x1]; rfl
  have hTX : f_TX11_writeSlide (nI (M 0)) (nI s) = none := by
    rw [f_TX11_writeSlide, f_TX11_checkSlide, x1, hchk]; rfl
  have is : sf_in (nI s) 4 = true := of_eq_true (nI_inT (by omega) (by omega))
  have ic : (nI s).toNatClampNeg = s := nI_clamp (by omega)
  have hsb0 : sbN sK 0 = sK := by
    have := sbN_v hK (L := 0) (by omega)
    rw [if_pos (Nat.zero_le _)] at this
    exact this
  have hst0 : sbStep sK sK = true := by simp [sbStep]
  have hset : ∃ sm', f_J4_setLength_d00df sv sK sm (nI L0) 0 = some (sv, sm', 0) := by
    have g1 : f_J5_ensure sv sK 0 = some sv := by
      rw [f_J5_ensure, sf_b, if_pos]
      rw [nI_of0, il_0, nI_sle (by omega) (by omega)]
      exact Nat.zero_le _
    by_cases y : L0 = 0
    · refine ⟨sm, ?_⟩
      rw [f_J4_setLength_d00df, f_J5_setLength_d00df]
      refine sfc3_i (sfb_t (by decide) (sfc1_i g1 (sfb_t (by rw [y]; decide) (sfb_t (by rw [y]; decide) rfl)))) rfl
    · refine ⟨1, ?_⟩
      rw [f_J4_setLength_d00df, f_J5_setLength_d00df]
      refine sfc3_i (sfb_t (by decide) (sfc1_i g1 (sfb_t (nI_pos' (by omega)) (sfb_f (by rw [il_0, nI_leP (by omega) (by omega)]; omega) rfl)))) rfl
  obtain ⟨sm', hset⟩ := hset
  have hX : f_X11_writeSlide (nI (M 0)) sd sp sw (nI (M 2)) bg bs bt sv sK sm (nI L0) (nI s) = some (nI L', sv', K', sm', nI L') := by
    rw [f_X11_writeSlide]
    refine sfc0_i hchk ?_
    refine sfn_r hsb0 ?_
    refine sfg_i hst0 ?_
    refine sfc3_i hset ?_
    refine sfg_i is ?_
    rw [ic, s1, s2, s3]
    refine sfn_r p1 ?_
    refine sfg_i (of_eq_true p2) ?_
    refine sfc2_i p3 ?_
    refine sfn_r q1 ?_
    refine sfg_i (of_eq_true q2) ?_
    refine sfc2_i q3 ?_
    refine sfg_i is ?_
    refine sfn_r r1 ?_
    refine sfg_i (of_eq_true r2) ?_
    refine sfc2_i r3 ?_
    refine sfn_r t1 ?_
    refine sfg_i (of_eq_true t2) ?_
    refine sfc2_i t3 ?_
    refine sfg_i is ?_
    refine sfn_r u1 ?_
    refine sfg_i (of_eq_true u2) ?_
    refine sfc2_i u3 ?_
    refine sfn_r e1 ?_
    refine sfg_i (of_eq_true e2) ?_
    refine sfc2_i e3 ?_
    have hwb : f_X11_writeBookings (nI (M 2)) bg bs bt sv6 K6 (nI (0 + 1 + 1 + 1 + 1 + 1 + 1)) (nI s) = some (sv', K', nI L') := z1
    refine sfc3_i hwb ?_
    rfl
  have hY : f_X12_writeSlide ms mt mo (nI L0) (nI s) = some (nI L', nI 0, mo', nI L') := by
    rw [f_X12_writeSlide]
    refine sfc1_i y1 ?_
    refine sfc2_i (isTh1 mt) ?_
    refine sfb_f (by decide) ?_
    refine sfc1_i (a1 s hs') ?_
    refine sfc2_i p4 ?_
    refine sfc2_i q4 ?_
    refine sfc1_i (a2 s hs') ?_
    refine sfc2_i r4 ?_
    refine sfc2_i t4 ?_
    refine sfc1_i (a3 s hs') ?_
    refine sfc2_i u4 ?_
    refine sfc2_i e4 ?_
    exact z2
  refine ⟨0, nI L', sv', mo', K', sm', nI L', nI L', vp_updL oL 0 (nI L').toInt64, by omega, ?_, hY, fun _ => rfl, ⟨c', L', by omega, rfl, rfl, z4, z5⟩⟩
  rw [f_L_writeSlide, s0, b0, hTX, hX]
  rfl
theorem fm_in1' {n : Nat} {p : Int32} (hn : n ≤ 1000) (h : zin n p) : f_X12_in p (nI 0) (nI n - nI 1) = some (nI 1) := by
  obtain ⟨j, hj, rfl⟩ := h
  rw [nI_sub (by omega)]
  exact (fm_ri (x := j) (a := 0) (b := n - 1) (by omega) (by omega) (by omega)).1 (by omega)
theorem fm_in0' {n : Nat} {p : Int32} (hn : n ≤ 1000) (h : ¬ zin n p) : f_X12_in p (nI 0) (nI n - nI 1) = some (nI 0) := by
  rw [f_X12_in, sf_b, sf_b]
  by_cases c : p < nI 0
  · rw [if_pos c, il_0]
  · rw [if_neg c]
    obtain ⟨j, hj, rfl⟩ := nI_of c
    have h1 : ¬ j < n := fun e => h ⟨j, e, rfl⟩
    have h2 : nI n - nI 1 < nI j := by
      rw [Int32.lt_iff_toInt_lt, nI_stoInt (by omega) (by omega), nI_toInt hj]
      omega
    rw [if_pos h2, il_0]
theorem by_ch : ∀ c, c < 128 → (((nI c &&& 255).toUInt32 % 65536).toInt32) = nI c ∧ ((nI c).toUInt32 % 65536).toInt32 = nI c := by decide +kernel
theorem q_outputChar (oL : Nat → Int64) (mt : Int32) {sv mo : Nat → Int32} {sK : Nat} {sn mO : Int32} (hW : WW sv sK sn mo mO) (p1 : Int32) : zQm (f_L_outputChar sv sK sn oL p1) (f_X12_outputChar mt mo mO p1) := by
  obtain ⟨c, L, hL, rfl, rfl, ⟨k1, k2, k3, k4⟩, hWM⟩ := hW
  have hK6 : 16 ≤ sK ∧ sK ≤ 286 := by rcases k1 with h | h | h | h | h <;> omega
  by_cases d : p1 < 0
  · refine zQm_t (q := oL) (b := nI 32) 1 (by omega) ?_ ?_
    · have e : f_TX11_outputChar sv sK (nI L) p1 = some 0 := by rw [f_TX11_outputChar, sf_b, if_pos d]
      rw [f_L_outputChar, e]; rfl
    · rw [f_X12_outputChar]
      refine sfc1_i (a := (0 : Int32)) ?_ ?_
      · rw [f_X12_in, sf_b, if_pos d]
      · refine sfc2_i (isTh0 mt) (sfb_t rfl (sfg_i (by decide) rfl))
  · obtain ⟨j, hj, rfl⟩ := nI_of d
    by_cases f : j < L
    · obtain ⟨w1, w2⟩ := k4 j f
      obtain ⟨w3, _⟩ := hWM j f
      obtain ⟨y1, y2⟩ := by_ch (c j) w2
      have ic : (nI j).toNatClampNeg = j := nI_clamp hj
      have hch : f_J4_charAt_5068e sv sK (nI L) (nI j) = some (nI (c j)) := by
        have z1 : (if (Int32.ofNat sK >>> ((0 : Int32) &&& 31)) < nI L then (Int32.ofNat sK >>> ((0 : Int32) &&& 31)) else nI L) = nI L := by
          rw [sh0, nI_of0, Int32.shiftRight_zero, if_neg]
          rw [nI_ltP (by omega) (by omega)]; omega
        have z2 : f_J0_checkIndex_df160 (nI j) (nI L) = some () := by
          rw [f_J0_checkIndex_df160]
          refine sfc1_i (a := nI j) ?_ rfl
          rw [f_J3_checkIndex_8e157]
          exact sfb_f d (sfb_t (by rw [nI_ltP hj (by omega)]; exact f) rfl)
        rw [f_J4_charAt_5068e]
        refine sfc1_i (a := nI (c j)) ?_ (sfg_i y2 rfl)
        rw [f_J5_charAt_5068e]
        refine sfn_r z1 ?_
        refine sfc0_i z2 ?_
        refine sfg_i (of_eq_true (nI_inT (by omega) (by omega))) ?_
        rw [ic, w1, y1]
        exact sfg_i y2 rfl
      refine zQm_n (q := oL) (b := nI (c j)) ?_ ?_
      · have e1 : f_TX11_outputChar sv sK (nI L) (nI j) = none := by
          rw [f_TX11_outputChar]
          refine sfb_f d ?_
          refine sfc1_i (a := nI L) rfl ?_
          refine sfb_t (by rw [nI_ltP hj (by omega)]; exact f) ?_
          exact sfc1_i hch rfl
        have e2 : f_X11_outputChar sv sK (nI L) (nI j) = some (nI (c j)) := by
          rw [f_X11_outputChar]
          refine sfb_f d ?_
          refine sfc1_i (a := nI L) rfl ?_
          refine sfb_t (by rw [nI_ltP hj (by omega)]; exact f) ?_
          exact sfc1_i hch (sfg_i y2 rfl)
        rw [f_L_outputChar, e1, e2]; rfl
      · have hin : f_X12_in (nI j) 0 (nI L - 1) = some (nI 1) := fm_in1' (by omega) ⟨j, f, rfl⟩
        rw [f_X12_outputChar]
        refine sfc1_i hin ?_
        refine sfc2_i (isTh1 mt) (sfb_f (by decide) ?_)
        refine sfg_i (of_eq_true (nI_inT (by omega) (by omega))) ?_
        rw [ic, w3]
        exact sfg_i y2 rfl
    · refine zQm_t (q := oL) (b := nI 32) 1 (by omega) ?_ ?_
      · have e : f_TX11_outputChar sv sK (nI L) (nI j) = some 0 := by
          rw [f_TX11_outputChar]
          refine sfb_f d ?_
          refine sfc1_i (a := nI L) rfl ?_
          exact sfb_f (by rw [nI_ltP hj (by omega)]; exact f) rfl
        rw [f_L_outputChar, e]; rfl
      · have hin : f_X12_in (nI j) 0 (nI L - 1) = some (nI 0) := fm_in0' (by omega) (fun ⟨i, h1, h2⟩ => by
          rw [nI_eq hj (by omega)] at h2
          omega)
        rw [f_X12_outputChar]
        refine sfc1_i hin ?_
        exact sfc2_i (isTh0 mt) (sfb_t rfl (sfg_i (by decide) rfl))
end WRT
