/-! the drawn office -/
theorem VW_0 : VW (fun _ => 0) 0 := by
  refine ⟨⟨Nat.zero_le _, Nat.zero_le _, Nat.zero_le _, Nat.zero_le _, Nat.le_refl _, by omega⟩, fun k hk => absurd hk (Nat.not_lt_zero _), fun k hk => absurd hk (Nat.not_lt_zero _), ?_, fun k hk => absurd hk (Nat.not_lt_zero _), fun i j _ hj => absurd hj (Nat.not_lt_zero _), ⟨fun k hk => absurd hk (Nat.not_lt_zero _), fun i j _ hj => absurd hj (Nat.not_lt_zero _), fun k hk => absurd hk (Nat.not_lt_zero _), fun g hg => absurd hg (Nat.not_lt_zero _)⟩, ⟨rfl, Nat.le_refl _⟩⟩
  exact ⟨fun k hk => ⟨Nat.zero_le _, fun _ => rfl⟩, fun k hk j hj => absurd hj (Nat.not_lt_zero _), fun k hk i j _ hj => absurd hj (Nat.not_lt_zero _), fun g hg => absurd hg (Nat.not_lt_zero _)⟩
theorem RO_0 : RO (fun _ => 0) 0 0 0 0 0 (fun _ => 0) (fun _ => 0) (fun _ => 0) 0 (fun _ => 0) (fun _ => 0) 0 (fun _ => 0) (fun _ => 0) (fun _ => 0) (fun _ => 0) (fun _ => 0) (fun _ => 0) 0 (fun _ => 0) (fun _ => 0) (fun _ => 0) :=
  ⟨⟨rfl, rfl, rfl, rfl⟩, ⟨rfl, fun k hk => absurd hk (Nat.not_lt_zero _)⟩, ⟨rfl, fun k hk => absurd hk (Nat.not_lt_zero _)⟩, ⟨rfl, fun k hk => absurd hk (Nat.not_lt_zero _)⟩, fun k hk => ⟨rfl, fun j hj => absurd hj (Nat.not_lt_zero _)⟩, ⟨rfl, fun k hk => absurd hk (Nat.not_lt_zero _)⟩⟩
theorem sfj_t22 {ρ γ0 γ1 γ2 γ3 γ4 γ5 γ6 γ7 γ8 γ9 γ10 γ11 γ12 γ13 γ14 γ15 γ16 γ17 γ18 γ19 γ20 γ21 : Type} {K : γ0 → γ1 → γ2 → γ3 → γ4 → γ5 → γ6 → γ7 → γ8 → γ9 → γ10 → γ11 → γ12 → γ13 → γ14 → γ15 → γ16 → γ17 → γ18 → γ19 → γ20 → γ21 → Option ρ} {B : (γ0 → γ1 → γ2 → γ3 → γ4 → γ5 → γ6 → γ7 → γ8 → γ9 → γ10 → γ11 → γ12 → γ13 → γ14 → γ15 → γ16 → γ17 → γ18 → γ19 → γ20 → γ21 → Option ρ) → Option ρ} {R : Option ρ} (v0 : γ0) (v1 : γ1) (v2 : γ2) (v3 : γ3) (v4 : γ4) (v5 : γ5) (v6 : γ6) (v7 : γ7) (v8 : γ8) (v9 : γ9) (v10 : γ10) (v11 : γ11) (v12 : γ12) (v13 : γ13) (v14 : γ14) (v15 : γ15) (v16 : γ16) (v17 : γ17) (v18 : γ18) (v19 : γ19) (v20 : γ20) (v21 : γ21) (hB : ∀ k : γ0 → γ1 → γ2 → γ3 → γ4 → γ5 → γ6 → γ7 → γ8 → γ9 → γ10 → γ11 → γ12 → γ13 → γ14 → γ15 → γ16 → γ17 → γ18 → γ19 → γ20 → γ21 → Option ρ, B k = k v0 v1 v2 v3 v4 v5 v6 v7 v8 v9 v10 v11 v12 v13 v14 v15 v16 v17 v18 v19 v20 v21) (h : K v0 v1 v2 v3 v4 v5 v6 v7 v8 v9 v10 v11 v12 v13 v14 v15 v16 v17 v18 v19 v20 v21 = R) : sf_j K B = R := (hB K).trans h
section DRW
variable {M : Nat → Nat} {U : Nat} {H : Nat → Nat → Nat} {c : Nat} {yv : Nat → OffT} {yn yc : Int32} {on ot op os sc gc bc fc : Int32} {sd sp sw gp gr bg bs bt be ql qg fg fs fm : Nat → Int32}
theorem st_build2 (hV : VW M U) (hr : RO M on ot op os sc sd sp sw gc gp gr bc bg bs bt be ql qg fc fg fs fm) (hz : HZ U yv yn yc H c) {d p : Nat} (hd : 1 ≤ d ∧ d ≤ 9) (hp : 1 ≤ p ∧ p ≤ 9) (hn : M 0 < 4) : ∃ (sc' : Int32) (sd' : Nat → Int32) (sp' : Nat → Int32) (sw' : Nat → Int32) (yv' : Nat → OffT) (yn' yc' : Int32), f_L_build on ot op os sc sd sp sw gc gp gr bc bg bs bt be ql qg fc fg fs fm yv yn yc (nI d) (nI p) = some (nI (M 0), sc', sd', sp', sw', yv', yn', yc') ∧ VW (zbd M d p) U ∧ RO (zbd M d p) on ot op os sc' sd' sp' sw' gc gp gr bc bg bs bt be ql qg fc fg fs fm ∧ HZ U yv' yn' yc' (zpu M H) (zc8 c) := by
  obtain ⟨yv', hp1, _, hH, hy⟩ := HZ_prep hz on ot op os sc sd sp sw gc gp gr bc bg bs bt be ql qg fc fg fs fm
  obtain ⟨sc', sd', sp', sw', h1, h6⟩ := of_build hV hr hd hp hn
  obtain ⟨yn', yc', k1, k3⟩ := HZ_keep hH hV (by rw [hy]; exact hr)
  have h3 : M 0 < 2 ^ 31 := by omega
  refine ⟨sc', sd', sp', sw', yv', yn', yc', ?_, VW_of (V_bd hV hd hp hn) (bd_3 hn), h6, k3⟩
  rw [f_L_build]
  refine sft8_n ?_ (sfc8_i (a0 := nI (M 0)) ?_ rfl)
  · rw [f_TX11_buildSlide]
    exact sfc1_i hp1 (sfc5_i h1 (sft3_n (rec_s h3 k1).2 (sfc3_i (rec_s h3 k1).1 rfl)))
  · rw [f_X11_buildSlide]
    exact sfc1_i hp1 (sfc5_i h1 (sfc3_i (rec_s h3 k1).1 rfl))
theorem st_guest2 (hV : VW M U) (hr : RO M on ot op os sc sd sp sw gc gp gr bc bg bs bt be ql qg fc fg fs fm) (hz : HZ U yv yn yc H c) (hn : M 1 < 10) : ∃ (gc' : Int32) (gp' : Nat → Int32) (gr' : Nat → Int32) (yv' : Nat → OffT) (yn' yc' : Int32), f_L_addGuest on ot op os sc sd sp sw gc gp gr bc bg bs bt be ql qg fc fg fs fm yv yn yc = some (nI (M 1), gc', gp', gr', yv', yn', yc') ∧ VW (zgu M) U ∧ RO (zgu M) on ot op os sc sd sp sw gc' gp' gr' bc bg bs bt be ql qg fc fg fs fm ∧ HZ U yv' yn' yc' (zpu M H) (zc8 c) := by
  obtain ⟨yv', hp1, _, hH, hy⟩ := HZ_prep hz on ot op os sc sd sp sw gc gp gr bc bg bs bt be ql qg fc fg fs fm
  obtain ⟨gc', gp', gr', h1, h6⟩ := of_guest hV hr hn
  obtain ⟨yn', yc', k1, k3⟩ := HZ_keep hH hV (by rw [hy]; exact hr)
  have h3 : M 1 < 2 ^ 31 := by omega
  refine ⟨gc', gp', gr', yv', yn', yc', ?_, VW_of (V_gu hV hn) (gu_3 hn), h6, k3⟩
  rw [f_L_addGuest]
  refine sft7_n ?_ (sfc7_i (a0 := nI (M 1)) ?_ rfl)
  · rw [f_TX11_addGuest]
    exact sfc1_i hp1 (sfc4_i h1 (sft3_n (rec_s h3 k1).2 (sfc3_i (rec_s h3 k1).1 rfl)))
  · rw [f_X11_addGuest]
    exact sfc1_i hp1 (sfc4_i h1 (sfc3_i (rec_s h3 k1).1 rfl))
theorem ld35 {cA : Nat → Nat} (hL : cA 201 ≤ 260) {x4 : Nat} {S : Nat} (hS : S ≤ 4) : ∀ m j (M : Nat → Nat) (sc : Int32) (sd sp sw : Nat → Int32) (yv : Nat → OffT) (yn yc : Int32) (H : Nat → Nat → Nat) (c : Nat), j ≤ S → S - j < m → M 0 = j → M 1 = 0 → VW M 0 → RO M 0 0 0 0 sc sd sp sw 0 (fun _ => 0) (fun _ => 0) 0 (fun _ => 0) (fun _ => 0) (fun _ => 0) (fun _ => 0) (fun _ => 0) (fun _ => 0) 0 (fun _ => 0) (fun _ => 0) (fun _ => 0) → HZ 0 yv yn yc H c → ∃ (M' : Nat → Nat) (sc' : Int32) (sd' sp' sw' : Nat → Int32) (yv' : Nat → OffT) (yn' yc' : Int32) (H' : Nat → Nat → Nat) (c' : Nat), (∀ kk, f_L_drawn_L35 cA (nI x4) (nI S) kk m (nI j) sc sd sp sw yn yc yv = kk sc' sd' sp' sw' yn' yc' yv') ∧ M' 0 = S ∧ M' 1 = 0 ∧ VW M' 0 ∧ RO M' 0 0 0 0 sc' sd' sp' sw' 0 (fun _ => 0) (fun _ => 0) 0 (fun _ => 0) (fun _ => 0) (fun _ => 0) (fun _ => 0) (fun _ => 0) (fun _ => 0) 0 (fun _ => 0) (fun _ => 0) (fun _ => 0) ∧ HZ 0 yv' yn' yc' H' c' := by
  intro m
  induction m with
  | zero => intro j M sc sd sp sw yv yn yc H c hj hm; omega
  | succ m ih =>
    intro j M sc sd sp sw yv yn yc H c hj hm h0 h1 hV hr hz
    rcases Nat.lt_or_ge j S with z | z
    · obtain ⟨r, hcell⟩ := a_cell hL (a := 1 + j) (by omega)
      have hcell2 : f_L_cell cA ((1 : Int32) + nI j) = some r := by rw [il_1, nI_add]; exact hcell
      obtain ⟨e, b1, i1⟩ := ius_n r 1 (by simp)
      obtain ⟨e4, b4, i4⟩ := ius_n (nI e) 4 (by simp)
      have hp : (1 : Int32) + (nI e4 - nI e4 / (9 : Int32) * (9 : Int32)) = nI (1 + e4 % 9) := by
        rw [show nI e4 - nI e4 / (9 : Int32) * (9 : Int32) = nI (e4 % 9) from rem_n (b := 9) b4 (by omega) (by omega), il_1, nI_add]
      have hb : ∃ b : Nat, (b = 9 ∨ b = 3) ∧ ∀ {α : Type} (k : Int32 → Option α), sf_b ((nI x4 - nI x4 / (3 : Int32) * (3 : Int32)) = (0 : Int32)) (k (9 : Int32)) (k (3 : Int32)) = k (nI b) := by
        by_cases q : (nI x4 - nI x4 / (3 : Int32) * (3 : Int32)) = (0 : Int32)
        · exact ⟨9, Or.inl rfl, fun k => sfb_t q rfl⟩
        · exact ⟨3, Or.inr rfl, fun k => sfb_f q rfl⟩
      obtain ⟨b, hb9, hbk⟩ := hb
      have hd : (1 : Int32) + (nI e - nI e / nI b * nI b) = nI (1 + e % b) := by
        rw [rem_n b1 (by omega) (by omega), il_1, nI_add]
      have hmod : e % b < b := Nat.mod_lt _ (by omega)
      obtain ⟨sc', sd', sp', sw', yv', yn', yc', g1, g2, g3, g4⟩ := st_build2 hV hr hz (d := 1 + e % b) (p := 1 + e4 % 9) (by omega) (by omega) (by omega)
      obtain ⟨M2, sc2, sd2, sp2, sw2, yv2, yn2, yc2, H2, c2, f1, f2⟩ := ih (j + 1) _ sc' sd' sp' sw' yv' yn' yc' _ _ (by omega) (by omega) (by rw [bd_0 (by omega)]; omega) (by rw [bd_1 (by omega)]; exact h1) g2 g3 g4
      refine ⟨M2, sc2, sd2, sp2, sw2, yv2, yn2, yc2, H2, c2, fun kk => ?_, f2⟩
      rw [f_L_drawn_L35]
      refine sfb_f (by rw [nI_leP (by omega) (by omega)]; omega) (sfc1_i hcell2 (sfn_r i1 (sfj_t (nI b) (fun k => hbk k) (sfg_i ?_ ?_))))
      · rw [il_0, nI_eqP (by omega) (by omega)]; omega
      · rw [hd, i4, hp]
        exact sfc8_i g1 (sfb_t (by rw [h0]) (sfn_r (nI_1 j) (f1 kk)))
    · have e : j = S := by omega
      subst e
      refine ⟨M, sc, sd, sp, sw, yv, yn, yc, H, c, fun kk => ?_, h0, h1, hV, hr, hz⟩
      rw [f_L_drawn_L35]
      exact sfb_t (by rw [nI_leP (by omega) (by omega)]; omega) rfl
theorem ld99 {S G : Nat} (hG : G ≤ 10) {sc : Int32} {sd sp sw : Nat → Int32} : ∀ m j (M : Nat → Nat) (gc : Int32) (gp gr : Nat → Int32) (yv : Nat → OffT) (yn yc : Int32) (H : Nat → Nat → Nat) (c : Nat), j ≤ G → G - j < m → M 0 = S → M 1 = j → VW M 0 → RO M 0 0 0 0 sc sd sp sw gc gp gr 0 (fun _ => 0) (fun _ => 0) (fun _ => 0) (fun _ => 0) (fun _ => 0) (fun _ => 0) 0 (fun _ => 0) (fun _ => 0) (fun _ => 0) → HZ 0 yv yn yc H c → ∃ (M' : Nat → Nat) (gc' : Int32) (gp' gr' : Nat → Int32) (yv' : Nat → OffT) (yn' yc' : Int32) (H' : Nat → Nat → Nat) (c' : Nat), (∀ kk, f_L_drawn_L99 (nI G) sc sd sp sw kk m (nI j) gc gp gr yn yc yv = kk gc' gp' gr' yn' yc' yv') ∧ M' 0 = S ∧ M' 1 = G ∧ VW M' 0 ∧ RO M' 0 0 0 0 sc sd sp sw gc' gp' gr' 0 (fun _ => 0) (fun _ => 0) (fun _ => 0) (fun _ => 0) (fun _ => 0) (fun _ => 0) 0 (fun _ => 0) (fun _ => 0) (fun _ => 0) ∧ HZ 0 yv' yn' yc' H' c' := by
  intro m
  induction m with
  | zero => intro j M gc gp gr yv yn yc H c hj hm; omega
  | succ m ih =>
    intro j M gc gp gr yv yn yc H c hj hm h0 h1 hV hr hz
    rcases Nat.lt_or_ge j G with z | z
    · obtain ⟨gc', gp', gr', yv', yn', yc', g1, g2, g3, g4⟩ := st_guest2 hV hr hz (by omega)
      obtain ⟨M2, gc2, gp2, gr2, yv2, yn2, yc2, H2, c2, f1, f2⟩ := ih (j + 1) _ gc' gp' gr' yv' yn' yc' _ _ (by omega) (by omega) (by rw [gu_0 (by omega)]; exact h0) (by rw [gu_1 (by omega)]; omega) g2 g3 g4
      refine ⟨M2, gc2, gp2, gr2, yv2, yn2, yc2, H2, c2, fun kk => ?_, f2⟩
      rw [f_L_drawn_L99]
      exact sfb_f (by rw [nI_leP (by omega) (by omega)]; omega) (sfc7_i g1 (sfb_t (by rw [h1]) (sfn_r (nI_1 j) (f1 kk))))
    · have e : j = G := by omega
      subst e
      refine ⟨M, gc, gp, gr, yv, yn, yc, H, c, fun kk => ?_, h0, h1, hV, hr, hz⟩
      rw [f_L_drawn_L99]
      exact sfb_t (by rw [nI_leP (by omega) (by omega)]; omega) rfl
set_option maxHeartbeats 2000000 in
/-- one of the fourteen calls -/
theorem sw_dr {ρ : Type} (hV : VW M U) (hr : RO M on ot op os sc sd sp sw gc gp gr bc bg bs bt be ql qg fc fg fs fm) (hU : U + 60 ≤ 4000000) (hz : HZ U yv yn yc H c) (x4 x83 : Int32) (hx : ∃ e, e < 2 ^ 31 ∧ iushr x83 9 = nI e) {pg ps : Int32} (hg : zin (M 1) pg) (hs : zin (M 0) ps) : ∃ (is : Int32) (on' : Int32) (ot' : Int32) (op' : Int32) (os' : Int32) (sw' : Nat → Int32) (gp' : Nat → Int32) (gr' : Nat → Int32) (bc' : Int32) (bg' : Nat → Int32) (bs' : Nat → Int32) (bt' : Nat → Int32) (be' : Nat → Int32) (ql' : Nat → Int32) (qg' : Nat → Int32) (fc' : Int32) (fg' : Nat → Int32) (fs' : Nat → Int32) (fm' : Nat → Int32) (yn' yc' : Int32) (yv' : Nat → OffT), (∀ kk : Int32 → Int32 → Int32 → Int32 → Int32 → (Nat → Int32) → (Nat → Int32) → (Nat → Int32) → Int32 → (Nat → Int32) → (Nat → Int32) → (Nat → Int32) → (Nat → Int32) → (Nat → Int32) → (Nat → Int32) → Int32 → (Nat → Int32) → (Nat → Int32) → (Nat → Int32) → Int32 → Int32 → (Nat → OffT) → Option ρ, sf_b ((4 : Int32) ≤ (x83 - x83 / (8 : Int32) * (8 : Int32))) (sf_b ((6 : Int32) ≤ (x83 - x83 / (8 : Int32) * (8 : Int32))) (sf_c22 (f_L_pass on ot op os sc sd sp sw gc gp gr bc bg bs bt be ql qg fc fg fs fm yv yn yc ((1 : Int32) + ((iushr x83 (9 : Int32)) - (iushr x83 (9 : Int32)) / (4 : Int32) * (4 : Int32)))) (fun r_112 x_113 x_114 x_115 x_116 a_117 a_118 a_119 x_120 a_121 a_122 a_123 a_124 a_125 a_126 x_127 a_128 a_129 a_130 g_131 x_132 x_133 => kk r_112 x_113 x_114 x_115 x_116 a_117 a_118 a_119 x_120 a_121 a_122 a_123 a_124 a_125 a_126 x_127 a_128 a_129 a_130 x_132 x_133 g_131)) (sf_c6 (f_L_join on ot op os sc sd sp sw gc gp gr bc bg bs bt be ql qg fc fg fs fm yv yn yc pg ps) (fun r_134 a_135 a_136 g_137 x_138 x_139 => kk r_134 on ot op os sw gp gr bc bg bs bt be a_135 a_136 fc fg fs fm x_138 x_139 g_137))) (sf_c1 (f_X11_minute on) (fun r_140 => sf_j (fun (v_141 : Int32) => sf_g (¬ v_141 = 0) (sf_c11 (f_L_book on ot op os sc sd sp sw gc gp gr bc bg bs bt be ql qg fc fg fs fm yv yn yc pg ps (r_140 + ((iushr x83 (9 : Int32)) - (iushr x83 (9 : Int32)) / v_141 * v_141))) (fun r_144 x_145 a_146 x_147 a_148 a_149 a_150 a_151 g_152 x_153 x_154 => kk r_144 on x_145 op os sw a_146 gr x_147 a_148 a_149 a_150 a_151 ql qg fc fg fs fm x_153 x_154 g_152))) (fun k_142 => sf_b ((x4 - x4 / (2 : Int32) * (2 : Int32)) = (0 : Int32)) (k_142 (9 : Int32)) (k_142 (25 : Int32))))) = kk is on' ot' op' os' sw' gp' gr' bc' bg' bs' bt' be' ql' qg' fc' fg' fs' fm' yn' yc' yv') ∧ ¬ is = -1 ∧ ∃ (M' : Nat → Nat) (H' : Nat → Nat → Nat) (c' : Nat), VW M' (U + 60) ∧ RO M' on' ot' op' os' sc sd sp sw' gc gp' gr' bc' bg' bs' bt' be' ql' qg' fc' fg' fs' fm' ∧ HZ (U + 60) yv' yn' yc' H' c' := by
  by_cases c4 : (4 : Int32) ≤ (x83 - x83 / (8 : Int32) * (8 : Int32))
  · by_cases c6 : (6 : Int32) ≤ (x83 - x83 / (8 : Int32) * (8 : Int32))
    · skip
      obtain ⟨e, he, hx9⟩ := hx
      have hpw : (1 : Int32) + ((iushr x83 (9 : Int32)) - (iushr x83 (9 : Int32)) / (4 : Int32) * (4 : Int32)) = nI (1 + e % 4) := by
        rw [hx9, show nI e - nI e / (4 : Int32) * (4 : Int32) = nI (e % 4) from rem_n (b := 4) he (by omega) (by omega), il_1, nI_add]
      rw [hpw]
      obtain ⟨is, on', ot', op', os', sw', gp', gr', bc', bg', bs', bt', be', ql', qg', fc', fg', fs', fm', yv', yn', yc', g1, g2⟩ := st_pass hV hr hU hz (nI (1 + e % 4))
      refine ⟨is, on', ot', op', os', sw', gp', gr', bc', bg', bs', bt', be', ql', qg', fc', fg', fs', fm', yn', yc', yv', fun kk => sfb_t c4 (sfb_t c6 (sfc22_i g1 rfl)), ?_⟩
      rcases g2 with ⟨h1, h9, h2, h3⟩ | ⟨h1, M', h2, h3, h4⟩
      · exact ⟨fun _ => by
        rcases h9 with h9 | h9
        · rw [il_1, nI_ltP (by omega) (by omega)] at h9; omega
        · rw [il_60, nI_ltP (by omega) (by omega)] at h9; omega, M, H, c, VW_up hV (by omega) (by omega), h2, HZ_up h3 (by omega) (by omega)⟩
      · exact ⟨fun h => by rw [h] at h1; exact absurd h1 (by decide), M', zpu M H, zc8 c, h2, h3, h4⟩
    · skip
      obtain ⟨is, ql', qg', yv', yn', yc', g1, g2⟩ := st_join hV hr hU hz pg ps
      refine ⟨is, on, ot, op, os, sw, gp, gr, bc, bg, bs, bt, be, ql', qg', fc, fg, fs, fm, yn', yc', yv', fun kk => sfb_t c4 (sfb_f c6 (sfc6_i g1 rfl)), ?_⟩
      rcases g2 with ⟨h1, h9, h2, h3⟩ | ⟨h1, M', h2, h3, h4⟩
      · exact ⟨fun h => h9 h ⟨hg, hs⟩, M, H, c, VW_up hV (by omega) (by omega), h2, HZ_up h3 (by omega) (by omega)⟩
      · exact ⟨fun h => by rw [h] at h1; exact absurd h1 (by decide), M', zpu M H, zc8 c, h2, h3, h4⟩
  · by_cases c2 : (x4 - x4 / (2 : Int32) * (2 : Int32)) = (0 : Int32)
    · skip
      obtain ⟨is, ot', gp', bc', bg', bs', bt', be', yv', yn', yc', g1, g2⟩ := st_book hV hr hU hz pg ps _
      refine ⟨is, on, ot', op, os, sw, gp', gr, bc', bg', bs', bt', be', ql, qg, fc, fg, fs, fm, yn', yc', yv', fun kk => sfb_f c4 (sfc1_i (a := on) rfl (sfj_t 9 (fun k => sfb_t c2 rfl) (sfg_i (by decide) (sfc11_i g1 rfl)))), ?_⟩
      rcases g2 with ⟨h1, h9, h2, h3⟩ | ⟨h1, M', h2, h3, h4⟩
      · exact ⟨fun h => h9 h ⟨hg, hs⟩, M, H, c, VW_up hV (by omega) (by omega), h2, HZ_up h3 (by omega) (by omega)⟩
      · exact ⟨fun h => by rw [h] at h1; exact absurd h1 (by decide), M', zpu M H, zc8 c, h2, h3, h4⟩
    · skip
      obtain ⟨is, ot', gp', bc', bg', bs', bt', be', yv', yn', yc', g1, g2⟩ := st_book hV hr hU hz pg ps _
      refine ⟨is, on, ot', op, os, sw, gp', gr, bc', bg', bs', bt', be', ql, qg, fc, fg, fs, fm, yn', yc', yv', fun kk => sfb_f c4 (sfc1_i (a := on) rfl (sfj_t 25 (fun k => sfb_f c2 rfl) (sfg_i (by decide) (sfc11_i g1 rfl)))), ?_⟩
      rcases g2 with ⟨h1, h9, h2, h3⟩ | ⟨h1, M', h2, h3, h4⟩
      · exact ⟨fun h => h9 h ⟨hg, hs⟩, M, H, c, VW_up hV (by omega) (by omega), h2, HZ_up h3 (by omega) (by omega)⟩
      · exact ⟨fun h => by rw [h] at h1; exact absurd h1 (by decide), M', zpu M H, zc8 c, h2, h3, h4⟩
theorem ld126 {cA : Nat → Nat} (hL : cA 201 ≤ 260) {x4 S G : Nat} (hS : 0 < S ∧ S ≤ 4) (hG : 0 < G ∧ G ≤ 10) {sd sp : Nat → Int32} : ∀ m j (M : Nat → Nat) (U : Nat) (on : Int32) (ot : Int32) (op : Int32) (os : Int32) (sw : Nat → Int32) (gp : Nat → Int32) (gr : Nat → Int32) (bc : Int32) (bg : Nat → Int32) (bs : Nat → Int32) (bt : Nat → Int32) (be : Nat → Int32) (ql : Nat → Int32) (qg : Nat → Int32) (fc : Int32) (fg : Nat → Int32) (fs : Nat → Int32) (fm : Nat → Int32) (yv : Nat → OffT) (yn yc : Int32) (H : Nat → Nat → Nat) (c : Nat), j ≤ 14 → 14 - j < m → VW M U → U + 60 * (14 - j) ≤ 1000 → RO M on ot op os (nI S) sd sp sw (nI G) gp gr bc bg bs bt be ql qg fc fg fs fm → HZ U yv yn yc H c → ∃ (M' : Nat → Nat) (U' : Nat) (on' : Int32) (ot' : Int32) (op' : Int32) (os' : Int32) (sw' : Nat → Int32) (gp' : Nat → Int32) (gr' : Nat → Int32) (bc' : Int32) (bg' : Nat → Int32) (bs' : Nat → Int32) (bt' : Nat → Int32) (be' : Nat → Int32) (ql' : Nat → Int32) (qg' : Nat → Int32) (fc' : Int32) (fg' : Nat → Int32) (fs' : Nat → Int32) (fm' : Nat → Int32) (yv' : Nat → OffT) (yn' yc' : Int32) (H' : Nat → Nat → Nat) (c' : Nat), (∀ kk, f_L_drawn_L126 cA (nI x4) (nI S) (nI G) (nI S) sd sp (nI G) kk m (nI j) on ot op os sw gp gr bc bg bs bt be ql qg fc fg fs fm yn yc yv = kk on' ot' op' os' sw' gp' gr' bc' bg' bs' bt' be' ql' qg' fc' fg' fs' fm' yn' yc' yv') ∧ U' ≤ 1000 ∧ VW M' U' ∧ RO M' on' ot' op' os' (nI S) sd sp sw' (nI G) gp' gr' bc' bg' bs' bt' be' ql' qg' fc' fg' fs' fm' ∧ HZ U' yv' yn' yc' H' c' := by
  intro m
  induction m with
  | zero => intro j M U on ot op os sw gp gr bc bg bs bt be ql qg fc fg fs fm yv yn yc H c hj hm; omega
  | succ m ih =>
    intro j M U on ot op os sw gp gr bc bg bs bt be ql qg fc fg fs fm yv yn yc H c hj hm hV hU hr hz
    rcases Nat.lt_or_ge j 14 with z | z
    · obtain ⟨r, hcell⟩ := a_cell hL (a := 5 + j) (by omega)
      have hcell2 : f_L_cell cA ((5 : Int32) + nI j) = some r := by rw [il_5, nI_add]; exact hcell
      obtain ⟨e, b1, i1⟩ := ius_n r 1 (by simp)
      obtain ⟨e3, b3, i3⟩ := ius_n (nI e) 3 (by simp)
      obtain ⟨e6, b6, i6⟩ := ius_n (nI e) 6 (by simp)
      have v0 := hV.1.1
      have v1 := hV.1.2.1
      have e0 : M 0 = S := by
        have h := hr.2.1.1
        rw [nI_eq (by omega) (by omega)] at h
        exact h.symm
      have e1 : M 1 = G := by
        have h := hr.2.2.1.1
        rw [nI_eq (by omega) (by omega)] at h
        exact h.symm
      have m3 : e3 % G < G := Nat.mod_lt _ hG.1
      have m6 : e6 % S < S := Nat.mod_lt _ hS.1
      have q3 : nI e3 - nI e3 / nI G * nI G = nI (e3 % G) := rem_n b3 (by omega) (by omega)
      have q6 : nI e6 - nI e6 / nI S * nI S = nI (e6 % S) := rem_n b6 (by omega) (by omega)
      obtain ⟨is, on', ot', op', os', sw', gp', gr', bc', bg', bs', bt', be', ql', qg', fc', fg', fs', fm', yn', yc', yv', hsw, hne, M', H', c', f2, f3, f4⟩ := sw_dr (ρ := Int32 × Int32 × Int32 × Int32 × Int32 × (Nat → Int32) × (Nat → Int32) × (Nat → Int32) × Int32 × (Nat → Int32) × (Nat → Int32) × Int32 × (Nat → Int32) × (Nat → Int32) × (Nat → Int32) × (Nat → Int32) × (Nat → Int32) × (Nat → Int32) × Int32 × (Nat → Int32) × (Nat → Int32) × (Nat → Int32) × Int32 × Int32 × Int32 × Int32 × Int32 × (Nat → Int32) × (Nat → Int32) × (Nat → Int32) × Int32 × (Nat → Int32) × (Nat → Int32) × Int32 × (Nat → Int32) × (Nat → Int32) × (Nat → Int32) × (Nat → Int32) × (Nat → Int32) × (Nat → Int32) × Int32 × (Nat → Int32) × (Nat → Int32) × (Nat → Int32) × Int32 × (Nat → OffT) × Int32 × Int32 × (Nat → Int32) × (Nat → Int32) × (Nat → Int32) × Int32 × Int32 × (Nat → Int32) × (Nat → Int32) × Nat × Int32 × Int32 × Int32 × Int32) hV hr (by omega) hz (nI x4) (nI e) (ius_n (nI e) 9 (by simp)) (pg := nI (e3 % G)) (ps := nI (e6 % S)) ⟨e3 % G, by omega, rfl⟩ ⟨e6 % S, by omega, rfl⟩
      obtain ⟨M2, U2, on2, ot2, op2, os2, sw2, gp2, gr2, bc2, bg2, bs2, bt2, be2, ql2, qg2, fc2, fg2, fs2, fm2, yv2, yn2, yc2, H2, c2, f1, k2⟩ := ih (j + 1) M' (U + 60) on' ot' op' os' sw' gp' gr' bc' bg' bs' bt' be' ql' qg' fc' fg' fs' fm' yv' yn' yc' H' c' (by omega) (by omega) f2 (by omega) f3 f4
      refine ⟨M2, U2, on2, ot2, op2, os2, sw2, gp2, gr2, bc2, bg2, bs2, bt2, be2, ql2, qg2, fc2, fg2, fs2, fm2, yv2, yn2, yc2, H2, c2, fun kk => ?_, k2⟩
      rw [f_L_drawn_L126]
      refine sfb_f (by rw [show (14 : Int32) = nI 14 from rfl, nI_leP (by omega) (by omega)]; omega) (sfc1_i hcell2 (sfn_r i1 (sfg_i (by rw [il_0, nI_eqP (by omega) (by omega)]; omega) (sfn_r (y := nI (e3 % G)) (by rw [i3]; exact q3) (sfg_i (by rw [il_0, nI_eqP (by omega) (by omega)]; omega) (sfn_r (y := nI (e6 % S)) (by rw [i6]; exact q6) ?_))))))
      exact sfj_t22 is on' ot' op' os' sw' gp' gr' bc' bg' bs' bt' be' ql' qg' fc' fg' fs' fm' yn' yc' yv' hsw (sfb_f hne (sfn_r (nI_1 j) (f1 kk)))
    · have e : j = 14 := by omega
      subst e
      refine ⟨M, U, on, ot, op, os, sw, gp, gr, bc, bg, bs, bt, be, ql, qg, fc, fg, fs, fm, yv, yn, yc, H, c, fun kk => ?_, by omega, hV, hr, hz⟩
      rw [f_L_drawn_L126]
      exact sfb_t (by decide) rfl
theorem sfc60_i {α γ0 γ1 γ2 γ3 γ4 γ5 γ6 γ7 γ8 γ9 γ10 γ11 γ12 γ13 γ14 γ15 γ16 γ17 γ18 γ19 γ20 γ21 γ22 γ23 γ24 γ25 γ26 γ27 γ28 γ29 γ30 γ31 γ32 γ33 γ34 γ35 γ36 γ37 γ38 γ39 γ40 γ41 γ42 γ43 γ44 γ45 γ46 γ47 γ48 γ49 γ50 γ51 γ52 γ53 γ54 γ55 γ56 γ57 γ58 γ59 : Type} {x : Option (γ0 × γ1 × γ2 × γ3 × γ4 × γ5 × γ6 × γ7 × γ8 × γ9 × γ10 × γ11 × γ12 × γ13 × γ14 × γ15 × γ16 × γ17 × γ18 × γ19 × γ20 × γ21 × γ22 × γ23 × γ24 × γ25 × γ26 × γ27 × γ28 × γ29 × γ30 × γ31 × γ32 × γ33 × γ34 × γ35 × γ36 × γ37 × γ38 × γ39 × γ40 × γ41 × γ42 × γ43 × γ44 × γ45 × γ46 × γ47 × γ48 × γ49 × γ50 × γ51 × γ52 × γ53 × γ54 × γ55 × γ56 × γ57 × γ58 × γ59)} {k : γ0 → γ1 → γ2 → γ3 → γ4 → γ5 → γ6 → γ7 → γ8 → γ9 → γ10 → γ11 → γ12 → γ13 → γ14 → γ15 → γ16 → γ17 → γ18 → γ19 → γ20 → γ21 → γ22 → γ23 → γ24 → γ25 → γ26 → γ27 → γ28 → γ29 → γ30 → γ31 → γ32 → γ33 → γ34 → γ35 → γ36 → γ37 → γ38 → γ39 → γ40 → γ41 → γ42 → γ43 → γ44 → γ45 → γ46 → γ47 → γ48 → γ49 → γ50 → γ51 → γ52 → γ53 → γ54 → γ55 → γ56 → γ57 → γ58 → γ59 → Option α} {R : Option α} {a0 : γ0} {a1 : γ1} {a2 : γ2} {a3 : γ3} {a4 : γ4} {a5 : γ5} {a6 : γ6} {a7 : γ7} {a8 : γ8} {a9 : γ9} {a10 : γ10} {a11 : γ11} {a12 : γ12} {a13 : γ13} {a14 : γ14} {a15 : γ15} {a16 : γ16} {a17 : γ17} {a18 : γ18} {a19 : γ19} {a20 : γ20} {a21 : γ21} {a22 : γ22} {a23 : γ23} {a24 : γ24} {a25 : γ25} {a26 : γ26} {a27 : γ27} {a28 : γ28} {a29 : γ29} {a30 : γ30} {a31 : γ31} {a32 : γ32} {a33 : γ33} {a34 : γ34} {a35 : γ35} {a36 : γ36} {a37 : γ37} {a38 : γ38} {a39 : γ39} {a40 : γ40} {a41 : γ41} {a42 : γ42} {a43 : γ43} {a44 : γ44} {a45 : γ45} {a46 : γ46} {a47 : γ47} {a48 : γ48} {a49 : γ49} {a50 : γ50} {a51 : γ51} {a52 : γ52} {a53 : γ53} {a54 : γ54} {a55 : γ55} {a56 : γ56} {a57 : γ57} {a58 : γ58} {a59 : γ59} (h : x = some (a0, a1, a2, a3, a4, a5, a6, a7, a8, a9, a10, a11, a12, a13, a14, a15, a16, a17, a18, a19, a20, a21, a22, a23, a24, a25, a26, a27, a28, a29, a30, a31, a32, a33, a34, a35, a36, a37, a38, a39, a40, a41, a42, a43, a44, a45, a46, a47, a48, a49, a50, a51, a52, a53, a54, a55, a56, a57, a58, a59)) (h2 : k a0 a1 a2 a3 a4 a5 a6 a7 a8 a9 a10 a11 a12 a13 a14 a15 a16 a17 a18 a19 a20 a21 a22 a23 a24 a25 a26 a27 a28 a29 a30 a31 a32 a33 a34 a35 a36 a37 a38 a39 a40 a41 a42 a43 a44 a45 a46 a47 a48 a49 a50 a51 a52 a53 a54 a55 a56 a57 a58 a59 = R) : sf_c60 x k = R := by subst h; exact h2
theorem l_drawn {cA : Nat → Nat} (hL : cA 201 ≤ 260) : ∃ (M : Nat → Nat) (U : Nat) (on' : Int32) (ot' : Int32) (op' : Int32) (os' : Int32) (sc' : Int32) (sd' : Nat → Int32) (sp' : Nat → Int32) (sw' : Nat → Int32) (gc' : Int32) (gp' : Nat → Int32) (gr' : Nat → Int32) (bc' : Int32) (bg' : Nat → Int32) (bs' : Nat → Int32) (bt' : Nat → Int32) (be' : Nat → Int32) (ql' : Nat → Int32) (qg' : Nat → Int32) (fc' : Int32) (fg' : Nat → Int32) (fs' : Nat → Int32) (fm' : Nat → Int32) (yv' : Nat → OffT) (yn' yc' : Int32) (H : Nat → Nat → Nat) (c : Nat), f_L_drawn cA = some (on', ot', op', os', sc', sd', sp', sw', gc', gp', gr', bc', bg', bs', bt', be', ql', qg', fc', fg', fs', fm', 0, 0, 0, 0, 0, (fun _ => 0), (fun _ => 0), (fun _ => 0), 0, (fun _ => 0), (fun _ => 0), 0, (fun _ => 0), (fun _ => 0), (fun _ => 0), (fun _ => 0), (fun _ => 0), (fun _ => 0), 0, (fun _ => 0), (fun _ => 0), (fun _ => 0), 0, yv', yn', yc', (fun _ => 0), (fun _ => 0), (fun _ => 0), 0, 0, (fun _ => 0), (fun _ => 0), 16, 0, 0, -1, -1) ∧ U ≤ 1000 ∧ 0 < M 0 ∧ 0 < M 1 ∧ VW M U ∧ RO M on' ot' op' os' sc' sd' sp' sw' gc' gp' gr' bc' bg' bs' bt' be' ql' qg' fc' fg' fs' fm' ∧ HZ U yv' yn' yc' H c := by
  obtain ⟨r, hcell⟩ := a_cell hL (a := 0) (by omega)
  obtain ⟨e, b1, i1⟩ := ius_n r 1 (by simp)
  obtain ⟨e2, b2, i2⟩ := ius_n (nI e) 2 (by simp)
  have hS : (1 : Int32) + (nI e - nI e / (4 : Int32) * (4 : Int32)) = nI (1 + e % 4) := by
    rw [show nI e - nI e / (4 : Int32) * (4 : Int32) = nI (e % 4) from rem_n (b := 4) b1 (by omega) (by omega), il_1, nI_add]
  have hG : (2 : Int32) + (nI e2 - nI e2 / (7 : Int32) * (7 : Int32)) = nI (2 + e2 % 7) := by
    rw [show nI e2 - nI e2 / (7 : Int32) * (7 : Int32) = nI (e2 % 7) from rem_n (b := 7) b2 (by omega) (by omega), il_2, nI_add]
  obtain ⟨M1, sc1, sd1, sp1, sw1, yv1, yn1, yc1, H1, c1, f1, f2, f3, f4, f5, f6⟩ := ld35 hL (x4 := e) (S := 1 + e % 4) (by omega) 6 0 (fun _ => 0) 0 (fun _ => 0) (fun _ => 0) (fun _ => 0) (fun _ => zOff) 0 0 (fun _ _ => 0) 0 (Nat.zero_le _) (by omega) rfl rfl VW_0 RO_0 ⟨0, by omega, by omega, rfl, rfl, fun j hj => absurd hj (Nat.not_lt_zero _)⟩
  obtain ⟨M2, gc2, gp2, gr2, yv2, yn2, yc2, H2, c2, g1, g2, g3, g4, g5, g6⟩ := ld99 (S := 1 + e % 4) (G := 2 + e2 % 7) (by omega) 12 0 M1 0 (fun _ => 0) (fun _ => 0) yv1 yn1 yc1 H1 c1 (Nat.zero_le _) (by omega) f2 f3 f4 f5 f6
  have es : sc1 = nI (1 + e % 4) := by rw [g5.2.1.1, g2]
  have eg : gc2 = nI (2 + e2 % 7) := by rw [g5.2.2.1.1, g3]
  subst es eg
  obtain ⟨M3, U3, on3, ot3, op3, os3, sw3, gp3, gr3, bc3, bg3, bs3, bt3, be3, ql3, qg3, fc3, fg3, fs3, fm3, yv3, yn3, yc3, H3, c3, k1, k2, k3, k4, k5⟩ := ld126 hL (x4 := e) (S := 1 + e % 4) (G := 2 + e2 % 7) (by omega) (by omega) 16 0 M2 0 0 0 0 0 sw1 gp2 gr2 0 (fun _ => 0) (fun _ => 0) (fun _ => 0) (fun _ => 0) (fun _ => 0) (fun _ => 0) 0 (fun _ => 0) (fun _ => 0) (fun _ => 0) yv2 yn2 yc2 H2 c2 (Nat.zero_le _) (by omega) g4 (by omega) g5 g6
  have v0 := k3.1.1
  have v1 := k3.1.2.1
  have e0 : M3 0 = 1 + e % 4 := by
    have h := k4.2.1.1
    rw [nI_eq (by omega) (by omega)] at h
    exact h.symm
  have e1 : M3 1 = 2 + e2 % 7 := by
    have h := k4.2.2.1.1
    rw [nI_eq (by omega) (by omega)] at h
    exact h.symm
  refine ⟨M3, U3, on3, ot3, op3, os3, nI (1 + e % 4), sd1, sp1, sw3, nI (2 + e2 % 7), gp3, gr3, bc3, bg3, bs3, bt3, be3, ql3, qg3, fc3, fg3, fs3, fm3, yv3, yn3, yc3, H3, c3, ?_, k2, by omega, by omega, k3, k4, k5⟩
  rw [f_L_drawn]
  refine sfc1_i hcell (sfn_r i1 (sfn_r hS (sfn_r (y := nI (2 + e2 % 7)) (by rw [i2]; exact hG) ?_)))
  exact (f1 _).trans ((g1 _).trans (k1 _))
/-- the law answers 1 -/
theorem law_ok {cA : Nat → Nat} (hL : cA 201 ≤ 260) : f_L_law cA = some () := by
  obtain ⟨M, U, on', ot', op', os', sc', sd', sp', sw', gc', gp', gr', bc', bg', bs', bt', be', ql', qg', fc', fg', fs', fm', yv, yn, yc, H, c, h1, h2, h3, h4, hV, hr, hz⟩ := l_drawn hL
  obtain ⟨ko, kl, h5⟩ := l_bookings hV hr (fun _ => 0) (fun _ => 0)
  obtain ⟨K, L, l, sv, sm, h6, _⟩ := l_slides hV hr h3 (K := 16) (L := 0) (l := []) (sv := fun _ => 0) (sm := 0) ⟨Or.inl rfl, GB_0⟩ rfl (by omega)
  have h7 := l_guests hV hr h4
  have h8 := l_finishes hV hr
  obtain ⟨on2, ot2, op2, os2, sc2, sd2, sp2, sw2, gc2, gp2, gr2, bc2, bg2, bs2, bt2, be2, ql2, qg2, fc2, fg2, fs2, fm2, yv2, yn2, yc2, ts2, tl2, tp2, tn2, xe2, xf2, h9⟩ := l_undone hL hV hr (by omega) hz (fun _ => 0) 0 (fun _ => 0) (-1) (-1)
  rw [f_L_law]
  refine sfc60_i h1 (sfc3_i h5 (sfb_f (by decide) (sfc5_i h6 (sfb_f (by decide) (sfc1_i h7 (sfb_f (by decide) (sfc1_i h8 (sfb_f (by decide) ?_))))))))
  exact sfc32_i h9 (sfb_f (by decide) rfl)
end DRW
