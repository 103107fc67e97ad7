/-! what the law asks of the bookings -/
theorem sfj_t3 {ρ γ δ ε : Type} {K : γ → δ → ε → Option ρ} {B : (γ → δ → ε → Option ρ) → Option ρ} {R : Option ρ} (v : γ) (w : δ) (x : ε) (hB : ∀ k : γ → δ → ε → Option ρ, B k = k v w x) (h : K v w x = R) : sf_j K B = R := (hB K).trans h
section BKS
variable {M : Nat → Nat} {U : Nat} {on ot op os sc gc bc fc : Int32} {sd sp sw gp gr bg bs bt be ql qg fg fs fm : Nat → Int32}
theorem e_isAt (hV : VW M U) (hr : RO M on ot op os sc sd sp sw gc gp gr bc bg bs bt be ql qg fc fg fs fm) {j t : Nat} (hj : j < M 2) (ht : t < 2 ^ 30) : f_L_isAt sc sd bc bs bt (nI j) (nI t) = some (nI (if zT M j ≤ t ∧ t < zE M j then 1 else 0)) := by
  have hH := (zHB_of hV hr.2.2.2.1).2 j hj
  rw [f_L_isAt]
  refine sfc1_i (a_start hV hr hj).1 ?_
  by_cases c : t < zT M j
  · refine sfj_t (nI 0) (fun k => sfb_t (by rw [nI_ltP (by omega) (by omega)]; exact c) rfl) (sfg_i (by decide) ?_)
    rw [if_neg (by omega)]
  · by_cases d : zE M j ≤ t
    · refine sfj_t (nI 0) (fun k => sfb_f (by rw [nI_ltP (by omega) (by omega)]; exact c) (sfc1_i (e_endOf hV hr hj) (sfb_t (by rw [nI_leP (by omega) (by omega)]; exact d) rfl))) (sfg_i (by decide) ?_)
      rw [if_neg (by omega)]
    · refine sfj_t (nI 1) (fun k => sfb_f (by rw [nI_ltP (by omega) (by omega)]; exact c) (sfc1_i (e_endOf hV hr hj) (sfb_f (by rw [nI_leP (by omega) (by omega)]; exact d) rfl))) (sfg_i (by decide) ?_)
      rw [if_pos (by omega)]
theorem lb20 (hV : VW M U) (hr : RO M on ot op os sc sd sp sw gc gp gr bc bg bs bt be ql qg fc fg fs fm) {ko kl : Nat → Int32} {b : Nat} (hb : b < M 2) {k : Int32 → Option (Int32 × (Nat → Int32) × (Nat → Int32))} : ∀ m j, j ≤ M 2 → M 2 - j < m → f_L_bookings_L20 sc sd bc bg bs bt ko kl bc (nI b) k m (nI j) (nI (zA (zT M) (zE M) j (zT M b))) = k (nI (zA (zT M) (zE M) (M 2) (zT M b))) := by
  have v2 := hV.1.2.2.1
  have b0 := hr.2.2.2.1.1
  have hD := hV.2.2.2.2.2.1
  intro m
  induction m with
  | zero => intro j hj hm; omega
  | succ m ih =>
    intro j hj hm
    rw [f_L_bookings_L20]
    rcases Nat.lt_or_ge j (M 2) with z | z
    · have hH := (zHB_of hV hr.2.2.2.1).2 j z
      have hHb := (zHB_of hV hr.2.2.2.1).2 b hb
      refine sfb_f (by rw [b0, nI_leP (by omega) (by omega)]; omega) (sfj_t (nI 0) (fun k => ?_) ?_)
      · by_cases c : j = b
        · exact sfb_t (by rw [c]) rfl
        have hdj : (zG M b = zG M j ∨ zS M b = zS M j) → zE M j ≤ zT M b ∨ zE M b ≤ zT M j := fun hs => by
          rcases Nat.lt_or_ge j b with w | w
          · have := hD j b w hb (by omega); omega
          · have := hD b j (by omega) z hs; omega
        refine sfb_f (by rw [nI_eqP (by omega) (by omega)]; exact c) (sfc1_i (a_bookedSlide hV hr hb).1 (sfc1_i (a_bookedSlide hV hr z).1 ?_))
        by_cases cs : zS M b = zS M j
        · refine sfb_t (by rw [cs]) (sfc1_i (a_start hV hr hb).1 (sfc1_i (e_endOf hV hr z) ?_))
          by_cases ce : zE M j ≤ zT M b
          · exact sfb_t (by rw [nI_leP (by omega) (by omega)]; exact ce) rfl
          · have := hdj (Or.inr cs)
            exact sfb_f (by rw [nI_leP (by omega) (by omega)]; exact ce) (sfc1_i (a_start hV hr z).1 (sfc1_i (e_endOf hV hr hb) (sfb_t (by rw [nI_leP (by omega) (by omega)]; omega) rfl)))
        · refine sfb_f (by rw [nI_eqP (by omega) (by omega)]; exact cs) (sfc1_i (a_bookedGuest hV hr hb).1 (sfc1_i (a_bookedGuest hV hr z).1 ?_))
          by_cases cg : zG M b = zG M j
          · refine sfb_t (by rw [cg]) (sfc1_i (a_start hV hr hb).1 (sfc1_i (e_endOf hV hr z) ?_))
            by_cases ce : zE M j ≤ zT M b
            · exact sfb_t (by rw [nI_leP (by omega) (by omega)]; exact ce) rfl
            · have := hdj (Or.inl cg)
              exact sfb_f (by rw [nI_leP (by omega) (by omega)]; exact ce) (sfc1_i (a_start hV hr z).1 (sfc1_i (e_endOf hV hr hb) (sfb_t (by rw [nI_leP (by omega) (by omega)]; omega) rfl)))
          · exact sfb_f (by rw [nI_eqP (by omega) (by omega)]; exact cg) rfl
      · refine sfc1_i (a_start hV hr hb).1 (sfc1_i (e_isAt hV hr z (t := zT M b) (by omega)) ?_)
        have hz : zA (zT M) (zE M) (j + 1) (zT M b) = zA (zT M) (zE M) j (zT M b) + (if zT M j ≤ zT M b ∧ zT M b < zE M j then 1 else 0) := by
          by_cases c : zT M j ≤ zT M b ∧ zT M b < zE M j
          · rw [if_pos c]; exact zc_t (decide_eq_true c)
          · rw [if_neg c]; exact zc_f (decide_eq_false c)
        have h := ih (j + 1) (by omega) (by omega)
        rw [hz] at h
        by_cases c : zT M j ≤ zT M b ∧ zT M b < zE M j
        · rw [if_pos c] at h ⊢
          exact sfj_t (nI 1) (fun k => sfb_f (by decide) rfl) (sfn_r (nI_add _ _) (sfb_t rfl (sfn_r (nI_add j 1) h)))
        · rw [if_neg c] at h ⊢
          exact sfj_t (nI 0) (fun k => sfb_t rfl rfl) (sfn_r (nI_add _ _) (sfb_t rfl (sfn_r (nI_add j 1) h)))
    · have e : j = M 2 := by omega
      subst e
      exact sfb_t (by rw [b0, nI_leP (by omega) (by omega)]; omega) rfl
set_option maxHeartbeats 1000000 in
theorem lb9 (hV : VW M U) (hr : RO M on ot op os sc sd sp sw gc gp gr bc bg bs bt be ql qg fc fg fs fm) {ko kl : Nat → Int32} {k : Int32 → Option (Int32 × (Nat → Int32) × (Nat → Int32))} : ∀ m j, j ≤ M 2 → M 2 - j < m → f_L_bookings_L9 on sc sd bc bg bs bt ko kl bc k m (nI j) (nI (zm (fun i => zA (zT M) (zE M) (M 2) (zT M i)) j)) = k (nI (zm (fun i => zA (zT M) (zE M) (M 2) (zT M i)) (M 2))) := by
  have v2 := hV.1.2.2.1
  have hU := hV.1.2.2.2.2
  have b0 := hr.2.2.2.1.1
  have n1 := hr.1.1
  have hz := zo_of hV
  intro m
  induction m with
  | zero => intro j hj hm; omega
  | succ m ih =>
    intro j hj hm
    rw [f_L_bookings_L9]
    rcases Nat.lt_or_ge j (M 2) with z | z
    · have hH := (zHB_of hV hr.2.2.2.1).2
      have hHj := hH j z
      have hEj := (hV.2.2.2.2.1 j z).2.2.2
      have ha : zA (zT M) (zE M) (M 2) (zT M j) ≤ 12 := Nat.le_trans zc_le v2
      have hmx : zm (fun i => zA (zT M) (zE M) (M 2) (zT M i)) j ≤ 12 := zm_le (fun k _ => Nat.le_trans zc_le v2)
      refine sfb_f (by rw [b0, nI_leP (by omega) (by omega)]; omega) ?_
      refine (lb20 hV hr z 2000 0 (Nat.zero_le _) (by omega)).trans ?_
      refine sfn_r (y := nI (zm (fun i => zA (zT M) (zE M) (M 2) (zT M i)) (j + 1))) (by
        rw [zm]
        by_cases c : zm (fun i => zA (zT M) (zE M) (M 2) (zT M i)) j < zA (zT M) (zE M) (M 2) (zT M j)
        · rw [if_pos (by rw [nI_ltP (by omega) (by omega)]; exact c), if_pos c]
        · rw [if_neg (by rw [nI_ltP (by omega) (by omega)]; exact c), if_neg c]) ?_
      obtain ⟨b, hb, eb⟩ := zrk_onto hz z
      have e1 := (a_byStart hV hr hb).2
      rw [eb] at e1
      refine sfc1_i e1 ?_
      have hHb := hH b hb
      have hq : ∃ (u v w : Int32), (∀ (k : Int32 → Option (Int32 × (Nat → Int32) × (Nat → Int32))), sf_b (nI j = (0 : Int32)) (k (-1 : Int32)) (sf_c1 (f_L_byStart bc bs bt (nI j - (1 : Int32))) (fun r_48 => k r_48)) = k u) ∧ (∀ (k : Int32 → Option (Int32 × (Nat → Int32) × (Nat → Int32))), sf_b (nI j = (0 : Int32)) (k (1 : Int32)) (sf_c1 (f_X11_start bc bt (nI b)) (fun r_46 => sf_c1 (f_X11_start bc bt u) (fun r_47 => k (r_46 - r_47)))) = k v) ∧ (∀ (k : Int32 → Option (Int32 × (Nat → Int32) × (Nat → Int32))), sf_b (v = (0 : Int32)) (sf_c1 (f_X11_bookedSlide bc bs (nI b)) (fun r_44 => sf_c1 (f_X11_bookedSlide bc bs u) (fun r_45 => k (r_44 - r_45)))) (k v) = k w) ∧ ¬ w ≤ (0 : Int32) := by
        by_cases c : j = 0
        · refine ⟨-1, 1, 1, fun k => sfb_t (by rw [c]; rfl) rfl, fun k => sfb_t (by rw [c]; rfl) rfl, fun k => sfb_f (by decide) rfl, by decide⟩
        · have c0 : ¬ nI j = (0 : Int32) := by rw [il_0, nI_eqP (by omega) (by omega)]; exact c
          obtain ⟨b', hb', eb'⟩ := zrk_onto hz (r := j - 1) (by omega)
          have e2 := (a_byStart hV hr hb').2
          rw [eb'] at e2
          have hHb' := hH b' hb'
          have hlt := of_decide_eq_true (zrk_back hz hb' hb (by omega))
          have ej : nI j - (1 : Int32) = nI (j - 1) := nI_sub (a := j) (b := 1) (by omega)
          by_cases d : zT M b = zT M b'
          · refine ⟨nI b', nI (zT M b) - nI (zT M b'), nI (zS M b) - nI (zS M b'), fun k => sfb_f c0 (sfc1_i (by rw [ej]; exact e2) rfl), fun k => sfb_f c0 (sfc1_i (a_start hV hr hb).1 (sfc1_i (a_start hV hr hb').1 rfl)), fun k => sfb_t (by rw [il_0, nI_szero (by omega) (by omega)]; exact d) (sfc1_i (a_bookedSlide hV hr hb).1 (sfc1_i (a_bookedSlide hV hr hb').1 rfl)), ?_⟩
            intro h
            rw [il_0, Int32.le_iff_toInt_le, nI_stoInt (by omega) (by omega), nI_toInt (by omega)] at h
            omega
          · refine ⟨nI b', nI (zT M b) - nI (zT M b'), nI (zT M b) - nI (zT M b'), fun k => sfb_f c0 (sfc1_i (by rw [ej]; exact e2) rfl), fun k => sfb_f c0 (sfc1_i (a_start hV hr hb).1 (sfc1_i (a_start hV hr hb').1 rfl)), fun k => sfb_f (by rw [il_0, nI_szero (by omega) (by omega)]; exact d) rfl, ?_⟩
            intro h
            rw [il_0, Int32.le_iff_toInt_le, nI_stoInt (by omega) (by omega), nI_toInt (by omega)] at h
            omega
      obtain ⟨u, v, w, q1, q2, q3, q4⟩ := hq
      refine sfj_t u q1 (sfj_t v q2 (sfj_t w q3 ?_))
      refine sfb_f (by rw [il_0, nI_ltP (by omega) (by omega)]; omega) (sfb_f q4 (sfc1_i (a_hasStarted hV hr z) (sfc1_i (a_start hV hr z).1 (sfc1_i (a := on) rfl ?_))))
      refine sfj_t (nI (if M 3 < zT M j then 0 else 1)) (fun k => ?_) (sfb_t rfl (sfc1_i (e_endOf hV hr z) (sfc1_i (a := on) rfl (sfb_t (by rw [n1, nI_ltP (by omega) (by omega)]; omega) (sfn_r (nI_add j 1) (ih (j + 1) (by omega) (by omega)))))))
      by_cases c : M 3 < zT M j
      · rw [if_pos c]; exact sfb_t (by rw [n1, nI_ltP (by omega) (by omega)]; exact c) rfl
      · rw [if_neg c]; exact sfb_f (by rw [n1, nI_ltP (by omega) (by omega)]; exact c) rfl
    · have e : j = M 2 := by omega
      subst e
      exact sfb_t (by rw [b0, nI_leP (by omega) (by omega)]; omega) rfl
theorem l_bookings (hV : VW M U) (hr : RO M on ot op os sc sd sp sw gc gp gr bc bg bs bt be ql qg fc fg fs fm) (ko kl : Nat → Int32) : ∃ ko' kl', f_L_bookings on ot sc sd gc gp bc bg bs bt be fc fm ko kl = some (1, ko', kl') := by
  have v2 := hV.1.2.2.1
  have b0 := hr.2.2.2.1.1
  obtain ⟨d1, d2⟩ := a_once hV hr
  obtain ⟨c, ko1, kl1, c1, c2, c3, c4⟩ := a_watch hV hr ko kl
  obtain ⟨ko2, kl2, c5⟩ := a_consistent hV hr ko1 kl1
  have o1 : f_X11_mostAtOnce bc bt be = some (nI (zm (fun i => zA (zT M) (zE M) (M 2) (zT M i)) (M 2))) := by simp only [f_X11_mostAtOnce, sf_c1, d1]
  have o2 : f_X11_mostAtOnceBySweep bc bt be = some (nI (zm (fun i => zA (zT M) (zE M) (M 2) (zT M i)) (M 2))) := by simp only [f_X11_mostAtOnceBySweep, sf_c1, d2]
  have o3 : f_X11_mostWatched bc bt be = some (nI c) := by simp only [f_X11_mostWatched, sf_c1, c3]
  have o4 : f_X11_mostWatchedByTable bc bs bt be ko kl = some (nI c, ko1, kl1) := by simp only [f_X11_mostWatchedByTable, sf_c3, c4]
  have zn : ¬ zin (M 2) bc := by rw [b0]; exact zin_n (by omega)
  have zm1 : ¬ zin (M 2) (-1) := zin_m (n := M 2) (k := 1) (by omega) (by omega) (by omega)
  refine ⟨ko2, kl2, ?_⟩
  rw [f_L_bookings]
  refine sfc1_i (a := bc) rfl ?_
  refine (lb9 hV hr 14 0 (Nat.zero_le _) (by omega)).trans ?_
  refine sfc1_i o1 (sfj_t3 1 ko2 kl2 (fun k => ?_) (sfg_i (by decide) rfl))
  exact sfb_t rfl (sfc1_i o2 (sfb_t rfl (sfc1_i o3 (sfc1_i (a_watched hV hr c1 c2) (sfb_t rfl (sfc3_i o4 (sfc1_i o3 (sfb_t rfl (sfc3_i c5 (sfb_f (by decide) (sfc1_i (x_byStart hV hr zn) (sfb_t rfl (sfc1_i (x_byStart hV hr zm1) (sfb_t rfl (sfc1_i (x_bookedGuest hV hr zn) (sfb_t rfl (sfc1_i (x_bookedSlide hV hr zn) (sfb_t rfl (sfc1_i (x_start hV hr zm1) (sfb_t rfl (sfc1_i (x_hasStarted hV hr zn) (sfb_t rfl rfl))))))))))))))))))))))
end BKS
