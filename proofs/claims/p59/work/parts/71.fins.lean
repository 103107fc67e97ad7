/-! what the law asks of the finishes -/
section FIN
variable {M : Nat → Nat} {U : Nat} {on ot op os sc gc bc fc : Int32} {sd sp sw gp gr bg bs bt be ql qg fg fs fm : Nat → Int32}
theorem lf24 (hV : VW M U) (hr : RO M on ot op os sc sd sp sw gc gp gr bc bg bs bt be ql qg fc fg fs fm) {b a : Nat} (hb : b < M 4) (ha : a < 1000) {k : Int32 → Option Int32} : ∀ m j, j ≤ b → b - j < m → f_L_finishes_L24 fc fm (nI b) k m (nI j) (nI (a + zc (fun i => decide (zFM M i = zFM M b)) j)) = k (nI (a + zc (fun i => decide (zFM M i = zFM M b)) b)) := by
  have v4 := hV.1.2.2.2.1
  have hF := hV.2.2.2.2.2.2.1
  have hU := hV.1.2.2.2.2
  intro m
  induction m with
  | zero => intro j hj hm; omega
  | succ m ih =>
    intro j hj hm
    rw [f_L_finishes_L24]
    rcases Nat.lt_or_ge j b with z | z
    · have h1 := hF.1 j (by omega)
      have h2 := hF.1 b hb
      refine sfb_f (by rw [nI_leP (by omega) (by omega)]; omega) (sfc1_i (a_finishMinute hV hr hb).2 (sfc1_i (a_finishMinute hV hr (by omega : j < M 4)).2 ?_))
      have h := ih (j + 1) (by omega) (by omega)
      by_cases c : zFM M j = zFM M b
      · rw [zc_t (P := (fun i => decide (zFM M i = zFM M b))) (decide_eq_true c)] at h
        exact sfj_t (nI 1) (fun k => sfb_t (by rw [c]) rfl) (sfn_r (nI_add _ _) (sfn_r (nI_add j 1) h))
      · rw [zc_f (P := (fun i => decide (zFM M i = zFM M b))) (decide_eq_false c)] at h
        exact sfj_t (nI 0) (fun k => sfb_f (by rw [nI_eqP (by omega) (by omega)]; exact fun x => c x.symm) rfl) (sfn_r (nI_add _ _) (sfn_r (nI_add j 1) h))
    · have e : j = b := by omega
      subst e
      exact sfb_t (by rw [nI_leP (by omega) (by omega)]; omega) rfl
set_option maxHeartbeats 1000000 in
theorem lf15 (hV : VW M U) (hr : RO M on ot op os sc sd sp sw gc gp gr bc bg bs bt be ql qg fc fg fs fm) {k : Int32 → (Nat → Int32) → Option Int32} {R : Option Int32} (hk : ∀ w : Nat → Int32, (∀ g, g < 10 → w g = nI (zc (fun i => decide (zFG M i = g)) (M 4))) → k (nI (zpp (zFM M) (M 4))) w = R) : ∀ m j (w : Nat → Int32), j ≤ M 4 → M 4 - j < m → (∀ g, g < 10 → w g = nI (zc (fun i => decide (zFG M i = g)) j)) → f_L_finishes_L15 on fc fg fs fm fc k m (nI j) (nI (zpp (zFM M) j)) w = R := by
  have v4 := hV.1.2.2.2.1
  have v1 := hV.1.2.1
  have v0 := hV.1.1
  have hF := hV.2.2.2.2.2.2.1
  have hU := hV.1.2.2.2.2
  have f0 := hr.2.2.2.2.2.1
  have n1 := hr.1.1
  intro m
  induction m with
  | zero => intro j w hj hm; omega
  | succ m ih =>
    intro j w hj hm hw
    rw [f_L_finishes_L15]
    rcases Nat.lt_or_ge j (M 4) with z | z
    · have h1 := hF.1 j z
      obtain ⟨kg, ks⟩ := hF.2.2.1 j z
      have hp : zpp (zFM M) j < 1000 := by
        have h2 := zpp_le (R := zFM M) (n := j)
        have h3 : j * j ≤ 16 * 16 := Nat.mul_le_mul (by omega) (by omega)
        omega
      refine sfb_f (by rw [f0, nI_leP (by omega) (by omega)]; omega) ?_
      refine (lf24 hV hr z hp 18 0 (Nat.zero_le _) (by omega)).trans ?_
      rw [← zpp_s]
      refine sfc1_i (a_finishedGuest hV hr z).2 (sfg_i (by rw [nI_inT (by omega) (by omega)]; trivial) (sfg_i (by rw [nI_inT (by omega) (by omega)]; trivial) ?_))
      have hcz := zc_le (P := fun i => decide (zFG M i = zFG M j)) (n := j)
      have hw' : ∀ g, g < 10 → upd w (nI (zFG M j)).toNatClampNeg (w (nI (zFG M j)).toNatClampNeg + 1) g = nI (zc (fun i => decide (zFG M i = g)) (j + 1)) := fun g hg => by
        rw [nI_clamp (by omega)]
        by_cases c : zFG M j = g
        · rw [upd_eqP c.symm, hw _ (by omega), zc_t (P := fun i => decide (zFG M i = g)) (decide_eq_true c), c]
          exact nI_add _ 1
        · rw [upd_neP (fun x => c x.symm), hw g hg, zc_f (P := fun i => decide (zFG M i = g)) (decide_eq_false c)]
      have hs0 : (0 : Int32) ≤ nI (zFS M j) := by rw [il_0, nI_leP (by omega) (by omega)]; omega
      refine sfn_r rfl (sfc1_i (a_finishMinute hV hr z).2 (sfc1_i (a := on) rfl (sfb_f (by rw [n1, nI_ltP (by omega) (by omega)]; omega) ?_)))
      have hgo := ih (j + 1) (upd w (nI (zFG M j)).toNatClampNeg (w (nI (zFG M j)).toNatClampNeg + 1)) (by omega) (by omega) hw'
      by_cases c : j = 0
      · exact sfb_t (by rw [c]; decide) (sfc1_i (a_finishedSlide hV hr z).2 (sfb_t hs0 (sfn_r (nI_add j 1) hgo)))
      · have h2 := hF.2.1 (j - 1) j (by omega) z
        have h3 := hF.1 (j - 1) (by omega)
        have ej : nI j - (1 : Int32) = nI (j - 1) := nI_sub (a := j) (b := 1) (by omega)
        exact sfb_f (by rw [il_0, nI_leP (by omega) (by omega)]; omega) (sfc1_i (a_finishMinute hV hr z).2 (sfc1_i (by rw [ej]; exact (a_finishMinute hV hr (by omega : j - 1 < M 4)).2) (sfb_f (by rw [nI_ltP (by omega) (by omega)]; omega) (sfc1_i (a_finishedSlide hV hr z).2 (sfb_t hs0 (sfn_r (nI_add j 1) hgo))))))
    · have e : j = M 4 := by omega
      subst e
      exact sfb_t (by rw [f0, nI_leP (by omega) (by omega)]; omega) (hk w hw)
theorem lf127 (hV : VW M U) (hr : RO M on ot op os sc sd sp sw gc gp gr bc bg bs bt be ql qg fc fg fs fm) {z : Nat → Int32} (hz : ∀ g, g < 10 → z g = nI (zc (fun i => decide (zFG M i = g)) (M 4))) {k : Unit → Option Int32} : ∀ m j, j ≤ M 1 → M 1 - j < m → f_L_finishes_L127 gc gr fc z k m (nI j) = k () := by
  have v4 := hV.1.2.2.2.1
  have v1 := hV.1.2.1
  have hF := hV.2.2.2.2.2.2.1
  have hR := hV.2.2.1
  have hU := hV.1.2.2.2.2
  have f0 := hr.2.2.2.2.2.1
  have g0 := hr.2.2.1.1
  intro m
  induction m with
  | zero => intro j hj hm; omega
  | succ m ih =>
    intro j hj hm
    rw [f_L_finishes_L127]
    refine sfc1_i (a := gc) rfl ?_
    rcases Nat.lt_or_ge j (M 1) with y | y
    · have hRj := hR j y
      obtain ⟨k1, k2⟩ := hF.2.2.2 j y
      have hcz := zc_le (P := fun i => decide (zFG M i = j)) (n := M 4)
      have hzj : z (nI j).toNatClampNeg = nI (zc (fun i => decide (zFG M i = j)) (M 4)) := by rw [nI_clamp (by omega)]; exact hz j (by omega)
      refine sfb_f (by rw [g0, nI_leP (by omega) (by omega)]; omega) (sfc1_i (a_rides hV hr y).2 (sfg_i (by rw [nI_inT (by omega) (by omega)]; trivial) (sfb_f (by rw [hzj, nI_ltP (by omega) (by omega)]; omega) ?_)))
      have hgo := ih (j + 1) (by omega) (by omega)
      by_cases c : 16 ≤ M 4
      · exact sfb_t (by rw [f0, il_16, nI_leP (by omega) (by omega)]; exact c) (sfn_r (nI_add j 1) hgo)
      · exact sfb_f (by rw [f0, il_16, nI_leP (by omega) (by omega)]; exact c) (sfc1_i (a_rides hV hr y).2 (sfg_i (by rw [nI_inT (by omega) (by omega)]; trivial) (sfb_t (by rw [hzj, k2 (by omega)]) (sfn_r (nI_add j 1) hgo))))
    · have e : j = M 1 := by omega
      subst e
      exact sfb_t (by rw [g0, nI_leP (by omega) (by omega)]; omega) rfl
theorem l_finishes (hV : VW M U) (hr : RO M on ot op os sc sd sp sw gc gp gr bc bg bs bt be ql qg fc fg fs fm) : f_L_finishes on gc gr fc fg fs fm = some 1 := by
  have v4 := hV.1.2.2.2.1
  have v1 := hV.1.2.1
  have f0 := hr.2.2.2.2.2.1
  obtain ⟨e1, e2⟩ := a_pairs hV hr
  have p1 : f_X11_photoFinishes fc fm = some (nI (zpp (zFM M) (M 4))) := by simp only [f_X11_photoFinishes, sf_c1, e1]
  have p2 : f_X11_photoFinishesByRuns fc fm = some (nI (zpp (zFM M) (M 4))) := by simp only [f_X11_photoFinishesByRuns, sf_c1, e2]
  have zn : ¬ zin (M 4) fc := by rw [f0]; exact zin_n (by omega)
  have zm1 : ¬ zin (M 4) (-1) := zin_m (n := M 4) (k := 1) (by omega) (by omega) (by omega)
  rw [f_L_finishes]
  refine sfc1_i (a := fc) rfl (lf15 hV hr (fun w hw => ?_) 18 0 (fun _ => 0) (Nat.zero_le _) (by omega) (fun g hg => rfl))
  refine (lf127 hV hr hw 12 0 (Nat.zero_le _) (by omega)).trans ?_
  refine sfc1_i p1 (sfj_t 1 (fun k => ?_) (sfg_i (by decide) rfl))
  exact sfb_t rfl (sfc1_i p2 (sfb_t rfl (sfb_f (by rw [f0, il_16, nI_ltP (by omega) (by omega)]; omega) (sfc1_i (x_finishedGuest hV hr zn) (sfb_t rfl (sfc1_i (x_finishedSlide hV hr zn) (sfb_t rfl (sfc1_i (x_finishMinute hV hr zm1) (sfb_t rfl rfl)))))))))
end FIN
