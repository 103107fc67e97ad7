/-! a slide's description, as the park writes it and as the law spells it -/
def zK (K : Nat) : Prop := K = 16 ∨ K = 34 ∨ K = 70 ∨ K = 142 ∨ K = 286
theorem zk_s {K L : Nat} (hK : zK K) (h1 : L ≤ K + 8) (hL : L ≤ 142) : zK (sbN K (nI L)) ∧ sbStep K (sbN K (nI L)) = true := by
  rw [sbN_v (by rcases hK with h | h | h | h | h <;> omega) (by omega)]
  by_cases c : L ≤ K
  · rw [if_pos c]; exact ⟨hK, by rw [sbStep, decide_eq_true rfl]; rfl⟩
  · rw [if_neg c, if_neg (by rcases hK with h | h | h | h | h <;> omega)]
    rcases hK with h | h | h | h | h <;> subst h
    · exact ⟨Or.inr (Or.inl rfl), rfl⟩
    · exact ⟨Or.inr (Or.inr (Or.inl rfl)), rfl⟩
    · exact ⟨Or.inr (Or.inr (Or.inr (Or.inl rfl))), rfl⟩
    · exact ⟨Or.inr (Or.inr (Or.inr (Or.inr rfl))), rfl⟩
    · omega
def PB (l : List Nat) (K : Nat) (sv : Nat → Int32) : Prop := zK K ∧ GB l K sv
theorem len_nr (L v : Nat) (hv : v < 10000000) : nI L + (f_J6_stringSize_0f7a4 (nI v)).getD 0 = nI (L + znd v) := by rw [ss_ok hv, Option.getD_some, nI_add]
theorem jp_ch {l : List Nat} {K x L : Nat} {sv : Nat → Int32} (h : PB l K sv) (hl : l.length = L) (hL : L + 1 ≤ 142) (hx : x < 128) : ∃ K' sv', sbN K (nI L + 1) = K' ∧ sbStep K K' = true ∧ f_J4_append_cf468 sv K (nI L) (nI x) = some (sv', nI (L + 1)) ∧ PB (l ++ [x]) K' sv' ∧ (l ++ [x]).length = L + 1 := by
  subst hl
  obtain ⟨sv', g1, g2⟩ := app_ch h.2 hL hx
  have hz := zk_s h.1 (L := l.length + 1) (by have := h.2.2.1; omega) hL
  exact ⟨_, sv', by rw [nI_1], hz.2, g1, ⟨hz.1, g2⟩, by rw [List.length_append]; rfl⟩
theorem jp_nr {l : List Nat} {K v L : Nat} {sv : Nat → Int32} (h : PB l K sv) (hl : l.length = L) (hL : L + 8 ≤ 142) (hv : v < 10000000) : ∃ K' sv', sbN K (nI L + (f_J6_stringSize_0f7a4 (nI v)).getD 0) = K' ∧ sbStep K K' = true ∧ f_J4_append_bf812 sv K (nI L) (nI v) = some (sv', nI (L + znd v)) ∧ PB (l ++ dg v) K' sv' ∧ (l ++ dg v).length = L + znd v := by
  subst hl
  have hz7 := znd_pos v
  obtain ⟨sv', g1, g2⟩ := app_nr h.2 hL hv
  have hz := zk_s h.1 (L := l.length + znd v) (by have := h.2.2.1; omega) (by omega)
  exact ⟨_, sv', by rw [len_nr _ _ hv], hz.2, g1, ⟨hz.1, g2⟩, by rw [List.length_append, dg_len]⟩
theorem jt_nr {l : List Nat} {K v L : Nat} {sv : Nat → Int32} (h : GB l K sv) (hl : l.length = L) (hL : L + 8 ≤ 142) (hv : v < 10000000) : ∃ K' sv', sbN K (nI L + (f_J6_stringSize_0f7a4 (nI v)).getD 0) = K' ∧ sbOk K' = true ∧ f_J4_append_bf812 sv K (nI L) (nI v) = some (sv', nI (L + znd v)) ∧ GB (l ++ dg v) K' sv' ∧ (l ++ dg v).length = L + znd v := by
  subst hl
  have hz7 := znd_pos v
  obtain ⟨sv', g1, g2⟩ := app_nr h hL hv
  exact ⟨_, sv', by rw [len_nr _ _ hv], (sbN_s h.1 (by omega)).2.1, g1, g2, by rw [List.length_append, dg_len]⟩
theorem jt_s {l t : List Nat} {K L i : Nat} {sv : Nat → Int32} (h : GB l K sv) (hl : l.length = L) (ht : CS i t) (hL : L + t.length ≤ 142) : ∃ K' sv', f_J4_append_15ec4_s sv K (nI L) i = some (sv', K', nI (L + t.length)) ∧ GB (l ++ t) K' sv' ∧ (l ++ t).length = L + t.length := by
  subst hl
  obtain ⟨sv', L', rfl, g1, g2⟩ := gs_app h ht hL
  exact ⟨_, sv', g1, g2, List.length_append⟩
theorem jt_r {l t : List Nat} {K L tK : Nat} {sv tv : Nat → Int32} (h : GB l K sv) (hl : l.length = L) (ht : TS t tK tv) (hL : L + t.length ≤ 142) : ∃ K' sv', f_J4_append_15ec4_r sv K (nI L) tv tK = some (sv', K', nI (L + t.length)) ∧ GB (l ++ t) K' sv' ∧ (l ++ t).length = L + t.length := by
  subst hl
  obtain ⟨sv', L', rfl, g1, g2⟩ := gr_app h ht hL
  exact ⟨_, sv', g1, g2, List.length_append⟩
theorem jt_o {l : List Nat} {K L : Nat} {sv : Nat → Int32} (h : GB l K sv) (hl : l.length = L) (hL : L ≤ 142) : ∃ tv, f_J4_toString sv K (nI L) = some (L, tv) ∧ TS l L tv ∧ sbOk L = true := by
  subst hl
  exact to_str h hL
/-- a booking's words, those of the first r by start, and all -/
def zpc (M : Nat → Nat) (s : Nat) (o : Nat → Nat) (r : Nat) : List Nat := if zS M (o r) = s then (([32] ++ dg (zG M (o r))) ++ [64]) ++ dg (zT M (o r)) else []
def zpre (M : Nat → Nat) (s : Nat) (o : Nat → Nat) : Nat → List Nat
  | 0 => []
  | r + 1 => zpre M s o r ++ zpc M s o r
def zhd (M : Nat → Nat) (s : Nat) : List Nat := ((((dg (zD M s) ++ [109]) ++ dg (zP M s)) ++ [99]) ++ dg (zW M s)) ++ [119]
def zds (M : Nat → Nat) (s : Nat) (o : Nat → Nat) : List Nat := zhd M s ++ zpre M s o (M 2)
def ZO (M : Nat → Nat) (o : Nat → Nat) : Prop := ∀ r, r < M 2 → o r < M 2 ∧ zrk (zbf (zS M) (zT M)) (M 2) (o r) = r
section WRS
variable {M : Nat → Nat} {U : Nat} {on ot op os sc gc bc fc : Int32} {sd sp sw gp gr bg bs bt be ql qg fg fs fm : Nat → Int32}
theorem zpc_len (hV : VW M U) (hr : RO M on ot op os sc sd sp sw gc gp gr bc bg bs bt be ql qg fc fg fs fm) {o : Nat → Nat} (ho : ZO M o) {s r : Nat} (h : r < M 2) : (zpc M s o r).length ≤ 10 := by
  have hb := hV.2.2.2.2.1 (o r) (ho r h).1
  have v1 := hV.1.2.1
  have n1 := znd_1 (v := zG M (o r)) (by omega)
  have hz := znd_pos (zT M (o r))
  unfold zpc
  split
  · rw [List.length_append, List.length_append, List.length_append, dg_len, dg_len, n1]
    show 1 + 1 + 1 + znd (zT M (o r)) ≤ 10
    omega
  · exact Nat.zero_le _
theorem zhd_len (hV : VW M U) (hr : RO M on ot op os sc sd sp sw gc gp gr bc bg bs bt be ql qg fc fg fs fm) {s : Nat} (hs : s < M 0) : (zhd M s).length = 6 := by
  have hS := hV.2.1 s hs
  rw [zhd, List.length_append, List.length_append, List.length_append, List.length_append, List.length_append, dg_len, dg_len, dg_len, znd_1 (by omega), znd_1 (by omega), znd_1 (by omega)]
  rfl
theorem zpre_len (hV : VW M U) (hr : RO M on ot op os sc sd sp sw gc gp gr bc bg bs bt be ql qg fc fg fs fm) {o : Nat → Nat} (ho : ZO M o) {s : Nat} : ∀ r, r ≤ M 2 → (zpre M s o r).length ≤ 10 * r
  | 0, _ => Nat.le_refl _
  | r + 1, h => by
    have h1 := zpre_len hV hr ho (s := s) r (by omega)
    have h2 := zpc_len hV hr ho (s := s) (r := r) (by omega)
    rw [zpre, List.length_append]
    omega
theorem a_wb (hV : VW M U) (hr : RO M on ot op os sc sd sp sw gc gp gr bc bg bs bt be ql qg fc fg fs fm) {o : Nat → Nat} (ho : ZO M o) {s : Nat} (hs : s < M 0) : ∀ (d r w u : Nat) (K : Nat) (sv : Nat → Int32) (p : Int32) (l : List Nat) (L : Nat), r + d = M 2 → p.toInt = (u : Int) - 1 → (∀ k, k < M 2 → zS M k = s → (zrk (zbf (zS M) (zT M)) (M 2) k < r ↔ zT M k < u)) → w ≤ r → L ≤ 6 + 10 * w → l = zhd M s ++ zpre M s o r → l.length = L → PB l K sv → ∀ m', M 2 - w < m' → ∃ (K' L' : Nat) (sv' : Nat → Int32), f_X11_writeBookings_L13 (nI (M 2)) bg bs bt (nI s) (fun y_26 z_27 m_28 => some (z_27, m_28, y_26)) m' (nI w) p (nI L) sv K = some (sv', K', nI L') ∧ L' ≤ 126 ∧ PB (zds M s o) K' sv' ∧ (zds M s o).length = L' := by
  have hB := zMB_of hV
  have hz := zo_of hV
  have hb := zHB_of hV hr.2.2.2.1
  have hn := hB.1
  have hU := hV.1.2.2.2.2
  have v0 := hV.1.1
  have v1 := hV.1.2.1
  intro d
  induction d with
  | zero =>
    intro r w u K sv p l L hrd hp hru hw hL hl hlL hPB m' hm2
    have er : r = M 2 := by omega
    rw [er] at hl
    refine ⟨K, L, sv, ?_, by omega, by rw [zds, ← hl]; exact hPB, by rw [zds, ← hl]; exact hlL⟩
    cases m' with
    | zero => omega
    | succ m' =>
      rw [f_X11_writeBookings_L13]
      rcases Nat.lt_or_ge w (M 2) with z | z
      · refine sfb_f (by rw [nI_leP (by omega) (by omega)]; omega) ?_
        have hnx := fb_next hb (s := s) (by omega) hp
        have e99 : znb (zS M) (zT M) s u (M 2) = 99 := by
          rcases Nat.decEq (znb (zS M) (zT M) s u (M 2)) 99 with y | y
          · obtain ⟨f1, f2, f3, f4⟩ := znb_some (by omega) y
            have h1 := (hru _ f1 (of_decide_eq_true f2)).mp (by
              have := zrk_lt hz f1
              omega)
            omega
          · exact y
        rw [e99, zio_n] at hnx
        refine sfc1_i hnx (sfb_t rfl rfl)
      · exact sfb_t (by rw [nI_leP (by omega) (by omega)]; exact z) rfl
  | succ d ih =>
    intro r w u K sv p l L hrd hp hru hw hL hl hlL hPB m' hm2
    obtain ⟨hbn, hbr⟩ := ho r (by omega)
    obtain ⟨b, eb⟩ : ∃ b, o r = b := ⟨_, rfl⟩
    rw [eb] at hbn hbr
    obtain ⟨⟨g1, g2, g3, g4⟩, _⟩ := hb.2 b hbn
    obtain ⟨x1, x2, x3, x4, x5⟩ := hB.2 b hbn
    have hVB := hV.2.2.2.2.1 b hbn
    by_cases hsb : zS M b = s
    · cases m' with
      | zero => omega
      | succ m' =>
        have hnx := fb_next hb (s := s) (by omega) hp
        have hub : u ≤ zT M b := by
          rcases Nat.lt_or_ge (zT M b) u with y | y
          · have := (hru b hbn hsb).mpr y; omega
          · exact y
        have hfb : znb (zS M) (zT M) s u (M 2) = b := by
          have hne : znb (zS M) (zT M) s u (M 2) ≠ 99 := fun e => by
            have := znb_none (by omega) e b hbn hsb
            omega
          obtain ⟨f1, f2, f3, f4⟩ := znb_some (by omega) hne
          have f2' := of_decide_eq_true f2
          have h5 := f4 b hbn (decide_eq_true hsb) hub
          rcases Nat.lt_or_ge (zrk (zbf (zS M) (zT M)) (M 2) (znb (zS M) (zT M) s u (M 2))) r with y | y
          · have := (hru _ f1 f2').mp y; omega
          · rcases Nat.decEq (znb (zS M) (zT M) s u (M 2)) b with q | q
            · have h6 := zrk_back hz hbn f1 (by
                rcases Nat.decEq (zrk (zbf (zS M) (zT M)) (M 2) (znb (zS M) (zT M) s u (M 2))) r with t | t
                · omega
                · exact absurd (zrk_inj hz f1 hbn (by omega)) q)
              have h7 := of_decide_eq_true h6
              omega
            · exact q
        rw [hfb, zio_c (by omega)] at hnx
        have n1 := znd_1 (v := zG M b) (by omega)
        have hzT := znd_pos (zT M b)
        obtain ⟨K1, sv1, p1, p2, p3, p5, p6⟩ := jp_ch hPB hlL (x := 32) (by omega) (by omega)
        obtain ⟨K2, sv2, q1, q2, q3, q5, q6⟩ := jp_nr p5 p6 (v := zG M b) (by omega) (by omega)
        rw [n1] at q3 q6
        obtain ⟨K3, sv3, r1, r2, r3, r5, r6⟩ := jp_ch q5 q6 (x := 64) (by omega) (by omega)
        obtain ⟨K4, sv4, t1, t2, t3, t5, t6⟩ := jp_nr r5 r6 (v := zT M b) (by omega) (by omega)
        obtain ⟨K', L', sv', y1, y3, y4, y5⟩ := ih (r + 1) (w + 1) (zT M b + 1) K4 sv4 (nI (zT M b)) _ (L + 1 + 1 + 1 + znd (zT M b)) (by omega) (nI_bef (by omega)) (fun k hk hks => by
          constructor
          · intro hlt
            rcases Nat.decEq (zrk (zbf (zS M) (zT M)) (M 2) k) r with q | q
            · have := (hru k hk hks).mp (by omega); omega
            · have : k = b := zrk_inj hz hk hbn (by omega)
              rw [this]; omega
          · intro hlt
            rcases Nat.lt_or_ge (zrk (zbf (zS M) (zT M)) (M 2) k) (r + 1) with q | q
            · exact q
            · have h6 := of_decide_eq_true (zrk_back hz hbn hk (by omega))
              omega) (by omega) (by omega) (by rw [hl, zpre, zpc, eb, if_pos hsb]; simp only [List.append_assoc]) t6 t5 m' (by omega)
        refine ⟨K', L', sv', ?_, y3, y4, y5⟩
        rw [f_X11_writeBookings_L13]
        refine sfb_f (by rw [nI_leP (by omega) (by omega)]; omega) ?_
        refine sfc1_i hnx ?_
        refine sfb_f (by rw [show (-1 : Int32) = -nI 1 from rfl, nI_neP 1 (by omega) (by omega) (by omega)]; exact id) ?_
        have ib : sf_in (nI b) 12 = true := of_eq_true (nI_inT (by omega) (by omega))
        have ic : (nI b).toNatClampNeg = b := nI_clamp (by omega)
        rw [ic]
        refine sfg_i ib ?_
        refine sfn_r g3 ?_
        refine sfn_r p1 ?_
        refine sfg_i p2 ?_
        refine sfc2_i p3 ?_
        refine sfg_i ib ?_
        rw [g1]
        refine sfn_r q1 ?_
        refine sfg_i q2 ?_
        refine sfc2_i q3 ?_
        refine sfn_r r1 ?_
        refine sfg_i r2 ?_
        refine sfc2_i r3 ?_
        refine sfn_r t1 ?_
        refine sfg_i t2 ?_
        refine sfc2_i t3 ?_
        refine sfn_r (nI_1 w) ?_
        exact y1
    · obtain ⟨K', L', sv', y1, y3, y4, y5⟩ := ih (r + 1) w u K sv p l L (by omega) hp (fun k hk hks => by
        have h6 := hru k hk hks
        constructor
        · intro hlt
          refine h6.mp ?_
          rcases Nat.decEq (zrk (zbf (zS M) (zT M)) (M 2) k) r with q | q
          · omega
          · have : k = b := zrk_inj hz hk hbn (by omega)
            exact absurd (by rw [← this]; exact hks) hsb
        · intro hlt
          have := h6.mpr hlt
          omega) (by omega) hL (by rw [hl, zpre, zpc, eb, if_neg hsb, List.append_nil]) hlL hPB m' hm2
      exact ⟨K', L', sv', y1, y3, y4, y5⟩
theorem a_write (hV : VW M U) (hr : RO M on ot op os sc sd sp sw gc gp gr bc bg bs bt be ql qg fc fg fs fm) {o : Nat → Nat} (ho : ZO M o) {s : Nat} (hs : s < M 0) {l0 : List Nat} {sv : Nat → Int32} {sK L0 : Nat} {sm : Int32} (hP0 : PB l0 sK sv) (hl0 : l0.length = L0) (hL0 : L0 ≤ 142) : ∃ (K' L' : Nat) (sv' : Nat → Int32) (sm' : Int32), f_L_writeSlide sc sd sp sw bc bg bs bt sv sK sm (nI L0) (nI s) = some (nI L', sv', K', sm', nI L') ∧ L' ≤ 126 ∧ PB (zds M s o) K' sv' ∧ (zds M s o).length = L' := by
  have hv := hV
  obtain ⟨⟨v0, v1, v2, v4, v3, vU⟩, hS, hR, hVQ, hVB, hD, hVF, hC⟩ := hv
  have hr' := hr
  obtain ⟨⟨n1, n2, n3, n4⟩, oS, oG, oB, oQ, oF⟩ := hr'
  have s0 := oS.1
  have g0 := oG.1
  have b0 := oB.1
  have f0 := oF.1
  have x1 : f_X10_has (nI (M 0)) (nI s) = some (nI 1) := fh_1 (by omega) ⟨s, hs, rfl⟩
  have hs' : s < 4 := by omega
  obtain ⟨s1, s2, s3⟩ := oS.2 s hs
  obtain ⟨w1, w2, w3, w4, w5⟩ := hS s hs
  have hK := hP0.1
  have hK6 : 16 ≤ sK ∧ sK ≤ 286 := hP0.2.1
  have hb0 : PB [] sK sv := ⟨hK, hK6, Nat.zero_le _, hP0.2.2.2.1, fun k hk => absurd hk (Nat.not_lt_zero k)⟩
  have d1 := znd_1 (v := zD M s) (by omega)
  have d2 := znd_1 (v := zP M s) (by omega)
  have d3 := znd_1 (v := zW M s) (by omega)
  obtain ⟨K1, sv1, p1, p2, p3, p5, p6⟩ := jp_nr hb0 (L := 0) rfl (v := zD M s) (by omega) (by omega)
  rw [d1] at p3 p6
  obtain ⟨K2, sv2, q1, q2, q3, q5, q6⟩ := jp_ch p5 p6 (x := 109) (by omega) (by omega)
  obtain ⟨K3, sv3, r1, r2, r3, r5, r6⟩ := jp_nr q5 q6 (v := zP M s) (by omega) (by omega)
  rw [d2] at r3 r6
  obtain ⟨K4, sv4, t1, t2, t3, t5, t6⟩ := jp_ch r5 r6 (x := 99) (by omega) (by omega)
  obtain ⟨K5, sv5, u1, u2, u3, u5, u6⟩ := jp_nr t5 t6 (v := zW M s) (by omega) (by omega)
  rw [d3] at u3 u6
  obtain ⟨K6, sv6, e1, e2, e3, e5, e6⟩ := jp_ch u5 u6 (x := 119) (by omega) (by omega)
  obtain ⟨K', L', sv', z1, z3, z4, z5⟩ := a_wb hV hr ho hs (M 2) 0 0 0 K6 sv6 (-nI 1) _ (0 + 1 + 1 + 1 + 1 + 1 + 1) (by omega) nI_bef0 (fun k hk _ => ⟨fun h => absurd h (Nat.not_lt_zero _), fun h => absurd h (Nat.not_lt_zero _)⟩) (Nat.le_refl 0) (by omega) (by rw [zpre, List.append_nil]; rfl) e6 e5 2000 (by omega)
  have hchk : f_X11_checkSlide (nI (M 0)) (nI s) = some () := by rw [f_X11_checkSlide, x1]; rfl
  have hTX : f_TX11_writeSlide (nI (M 0)) (nI s) = none := by
    rw [f_TX11_writeSlide, f_TX11_checkSlide, x1, hchk]; rfl
  have is : sf_in (nI s) 4 = true := of_eq_true (nI_inT (by omega) (by omega))
  have ic : (nI s).toNatClampNeg = s := nI_clamp (by omega)
  have hsb0 : sbN sK 0 = sK := by
    have := sbN_v (K := sK) hK6.2 (L := 0) (by omega)
    rw [if_pos (Nat.zero_le _)] at this
    exact this
  have hst0 : sbStep sK sK = true := by simp [sbStep]
  have hset : ∃ sm', f_J4_setLength_d00df sv sK sm (nI L0) 0 = some (sv, sm', 0) := by
    have g1 : f_J5_ensure sv sK 0 = some sv := by
      rw [f_J5_ensure, sf_b, if_pos]
      rw [nI_of0, il_0, nI_sle (by omega) (by omega)]
      exact Nat.zero_le _
    by_cases y : L0 = 0
    · refine ⟨sm, ?_⟩
      rw [f_J4_setLength_d00df, f_J5_setLength_d00df]
      refine sfc3_i (sfb_t (by decide) (sfc1_i g1 (sfb_t (by rw [y]; decide) (sfb_t (by rw [y]; decide) rfl)))) rfl
    · refine ⟨1, ?_⟩
      rw [f_J4_setLength_d00df, f_J5_setLength_d00df]
      refine sfc3_i (sfb_t (by decide) (sfc1_i g1 (sfb_t (nI_pos' (by omega)) (sfb_f (by rw [il_0, nI_leP (by omega) (by omega)]; omega) rfl)))) rfl
  obtain ⟨sm', hset⟩ := hset
  have hX : f_X11_writeSlide (nI (M 0)) sd sp sw (nI (M 2)) bg bs bt sv sK sm (nI L0) (nI s) = some (nI L', sv', K', sm', nI L') := by
    rw [f_X11_writeSlide]
    refine sfc0_i hchk ?_
    refine sfn_r hsb0 ?_
    refine sfg_i hst0 ?_
    refine sfc3_i hset ?_
    refine sfg_i is ?_
    rw [ic, s1, s2, s3]
    refine sfn_r p1 ?_
    refine sfg_i p2 ?_
    refine sfc2_i p3 ?_
    refine sfn_r q1 ?_
    refine sfg_i q2 ?_
    refine sfc2_i q3 ?_
    refine sfg_i is ?_
    refine sfn_r r1 ?_
    refine sfg_i r2 ?_
    refine sfc2_i r3 ?_
    refine sfn_r t1 ?_
    refine sfg_i t2 ?_
    refine sfc2_i t3 ?_
    refine sfg_i is ?_
    refine sfn_r u1 ?_
    refine sfg_i u2 ?_
    refine sfc2_i u3 ?_
    refine sfn_r e1 ?_
    refine sfg_i e2 ?_
    refine sfc2_i e3 ?_
    have hwb : f_X11_writeBookings (nI (M 2)) bg bs bt sv6 K6 (nI (0 + 1 + 1 + 1 + 1 + 1 + 1)) (nI s) = some (sv', K', nI L') := z1
    refine sfc3_i hwb ?_
    rfl
  refine ⟨K', L', sv', sm', ?_, z3, z4, z5⟩
  rw [f_L_writeSlide, s0, b0, hTX, hX]
  rfl
theorem x_write (hV : VW M U) (hr : RO M on ot op os sc sd sp sw gc gp gr bc bg bs bt be ql qg fc fg fs fm) {sv : Nat → Int32} {sK : Nat} {sm sn p : Int32} (c : ¬ zin (M 0) p) : f_L_writeSlide sc sd sp sw bc bg bs bt sv sK sm sn p = some (-11, sv, sK, sm, sn) := by
  have hv := hV
  obtain ⟨⟨v0, v1, v2, v4, v3, vU⟩, hS, hR, hVQ, hVB, hD, hVF, hC⟩ := hv
  have hr' := hr
  obtain ⟨⟨n1, n2, n3, n4⟩, oS, oG, oB, oQ, oF⟩ := hr'
  have s0 := oS.1
  have g0 := oG.1
  have b0 := oB.1
  have f0 := oF.1
  have x1 : f_X10_has (nI (M 0)) p = some (nI 0) := fh_0 (by omega) c
  have eT : f_TX11_writeSlide sc p = some 0 := by
    rw [f_TX11_writeSlide, f_TX11_checkSlide, s0, x1]; rfl
  rw [f_L_writeSlide, eT]; rfl
end WRS
theorem a_out {l : List Nat} {K : Nat} {sv : Nat → Int32} (h : GB l K sv) (hL : l.length ≤ 142) {j : Nat} (f : j < l.length) : f_L_outputAt sv K (nI l.length) (nI j) = some (nI (l.getD j 0)) := by
  obtain ⟨k1, k2, k3, k4⟩ := h
  obtain ⟨w1, w2⟩ := k4 j f
  obtain ⟨y1, y2⟩ := by_ch _ w2
  have hj : j < 2 ^ 31 := by omega
  have d : ¬ nI j < (0 : Int32) := nn_0 hj
  have ic : (nI j).toNatClampNeg = j := nI_clamp hj
  have hch : f_J4_charAt_5068e sv K (nI l.length) (nI j) = some (nI (l.getD j 0)) := by
    have z1 : (if (Int32.ofNat K >>> ((0 : Int32) &&& 31)) < nI l.length then (Int32.ofNat K >>> ((0 : Int32) &&& 31)) else nI l.length) = nI l.length := by
      rw [sh0, nI_of0, Int32.shiftRight_zero, if_neg]
      rw [nI_ltP (by omega) (by omega)]; omega
    have z2 : f_J0_checkIndex_df160 (nI j) (nI l.length) = some () := by
      rw [f_J0_checkIndex_df160]
      refine sfc1_i (a := nI j) ?_ rfl
      rw [f_J3_checkIndex_8e157]
      exact sfb_f d (sfb_t (by rw [nI_ltP hj (by omega)]; exact f) rfl)
    rw [f_J4_charAt_5068e]
    refine sfc1_i (a := nI (l.getD j 0)) ?_ (sfg_i y2 rfl)
    rw [f_J5_charAt_5068e]
    refine sfn_r z1 ?_
    refine sfc0_i z2 ?_
    refine sfg_i (of_eq_true (nI_inT (by omega) (by omega))) ?_
    rw [ic, w1, y1]
    exact sfg_i y2 rfl
  have e1 : f_TX11_outputChar sv K (nI l.length) (nI j) = none := by
    rw [f_TX11_outputChar]
    refine sfb_f d ?_
    refine sfc1_i (a := nI l.length) rfl ?_
    refine sfb_t (by rw [nI_ltP hj (by omega)]; exact f) ?_
    exact sfc1_i hch rfl
  have e2 : f_X11_outputChar sv K (nI l.length) (nI j) = some (nI (l.getD j 0)) := by
    rw [f_X11_outputChar]
    refine sfb_f d ?_
    refine sfc1_i (a := nI l.length) rfl ?_
    refine sfb_t (by rw [nI_ltP hj (by omega)]; exact f) ?_
    exact sfc1_i hch (sfg_i y2 rfl)
  rw [f_L_outputAt, e1, e2]; rfl
theorem x_out {L K : Nat} {sv : Nat → Int32} (hL : L ≤ 142) : f_L_outputAt sv K (nI L) (nI L) = some (-11) := by
  have e : f_TX11_outputChar sv K (nI L) (nI L) = some 0 := by
    rw [f_TX11_outputChar]
    refine sfb_f (nn_0 (by omega)) ?_
    refine sfc1_i (a := nI L) rfl ?_
    exact sfb_f (by rw [nI_ltP (by omega) (by omega)]; omega) rfl
  rw [f_L_outputAt, e]; rfl
theorem a_char {t : List Nat} {tK : Nat} {tv : Nat → Int32} (h : TS t tK tv) {j : Nat} (f : j < t.length) : f_J0_charAt_5068e_r tv tK (nI j) = some (nI (t.getD j 0)) := by
  obtain ⟨rfl, hL, h2⟩ := h
  obtain ⟨w1, w2⟩ := h2 j f
  obtain ⟨y1, y2⟩ := by_ch _ w2
  have hj : j < 2 ^ 31 := by omega
  have d : ¬ nI j < (0 : Int32) := nn_0 hj
  have ic : (nI j).toNatClampNeg = j := nI_clamp hj
  have z2 : f_J0_checkIndex_df160 (nI j) (Int32.ofNat t.length) = some () := by
    rw [f_J0_checkIndex_df160]
    refine sfc1_i (a := nI j) ?_ rfl
    rw [f_J3_checkIndex_8e157]
    exact sfb_f d (sfb_t (by rw [nI_of0, nI_ltP hj (by omega)]; exact f) rfl)
  rw [f_J0_charAt_5068e_r]
  refine sfc1_i (a := 1) rfl (sfb_f (by decide) ?_)
  refine sfc1_i (a := nI (t.getD j 0)) ?_ (sfg_i y2 rfl)
  rw [f_J1_charAt_3b067_r]
  refine sfc0_i z2 (sfg_i (of_eq_true (nI_inT (by omega) (by omega))) ?_)
  rw [ic, w1, y1, y2]
  exact sfg_i rfl rfl
theorem sp_17 {l : List Nat} {K tK : Nat} {sv tv : Nat → Int32} (h : GB l K sv) (ht : TS l tK tv) {k : Int32 → Option Int32} : ∀ m j, j ≤ l.length → l.length - j < m → f_L_spells_L17 sv K (nI l.length) tv tK k m (nI j) 1 = k 1 := by
  have hL := ht.2.1
  have eK := ht.1
  intro m
  induction m with
  | zero => intro j hj hm; omega
  | succ m ih =>
    intro j hj hm
    rw [f_L_spells_L17]
    refine sfc1_i (len_r _) ?_
    rcases Nat.lt_or_ge j l.length with z | z
    · refine sfb_f (by rw [nI_leP (by omega) (by omega)]; omega) (sfb_f (by decide) (sfc1_i (a_out h hL z) (sfc1_i (a_char ht z) ?_)))
      exact sfj_t 1 (fun k => sfb_t rfl rfl) (sfn_r (nI_1 j) (ih (j + 1) (by omega) (by omega)))
    · exact sfb_t (by rw [nI_leP (by omega) (by omega)]; omega) rfl
/-- the law spells what the park has written -/
theorem a_spells {l : List Nat} {K tK : Nat} {sv tv : Nat → Int32} (h : GB l K sv) (ht : TS l tK tv) : f_L_spells sv K (nI l.length) tv tK (nI l.length) = some 1 := by
  have hL := ht.2.1
  rw [f_L_spells]
  refine sfc1_i (len_r _) (sfj_t 1 (fun k => sfb_t (by rw [ht.1]) rfl) ?_)
  refine (sp_17 h ht 300 0 (Nat.zero_le _) (by omega)).trans ?_
  exact sfj_t 1 (fun k => sfb_f (by decide) (sfc1_i (x_out hL) (sfb_t rfl rfl))) (sfg_i (by decide) rfl)
