/-! what the law asks of the slides: who rides, when it is free, what is written -/
section SLA
variable {M : Nat → Nat} {U : Nat} {on ot op os sc gc bc fc : Int32} {sd sp sw gp gr bg bs bt be ql qg fg fs fm : Nat → Int32}
theorem zPo_iff {s t j : Nat} : zPo (zS M) (zT M) (zE M) s t j = true ↔ zS M j = s ∧ zT M j ≤ t ∧ t < zE M j := ⟨fun h => of_decide_eq_true h, fun h => decide_eq_true h⟩
theorem ld5 (hV : VW M U) (hr : RO M on ot op os sc sd sp sw gc gp gr bc bg bs bt be ql qg fc fg fs fm) {s t : Nat} (hs : s < 100) (ht : t < 2 ^ 30) {k : Int32 → Option Int32} : ∀ m j, j ≤ M 2 → M 2 - j < m → f_L_during_L5 sc sd bc bs bt (nI s) (nI t) k m (nI j) (zio (zla (zPo (zS M) (zT M) (zE M) s t) j)) = k (zio (zla (zPo (zS M) (zT M) (zE M) s t) (M 2))) := by
  have v2 := hV.1.2.2.1
  have b0 := hr.2.2.2.1.1
  intro m
  induction m with
  | zero => intro j hj hm; omega
  | succ m ih =>
    intro j hj hm
    rw [f_L_during_L5]
    refine sfc1_i (a := bc) rfl ?_
    rcases Nat.lt_or_ge j (M 2) with z | z
    · have hVB := hV.2.2.2.2.1 j z
      have v0 := hV.1.1
      refine sfb_f (by rw [b0, nI_leP (by omega) (by omega)]; omega) (sfc1_i (a_bookedSlide hV hr z).1 ?_)
      have h := ih (j + 1) (by omega) (by omega)
      rw [zla] at h
      by_cases c : (zPo (zS M) (zT M) (zE M) s t) j = true
      · rw [if_pos c] at h
        obtain ⟨c1, c2, c3⟩ := zPo_iff.mp c
        refine sfj_t (nI j) (fun k => sfb_t (by rw [c1]) (sfc1_i (e_isAt hV hr z ht) (sfb_f ?_ rfl))) (sfn_r (nI_1 j) ?_)
        · rw [if_pos ⟨c2, c3⟩]; decide
        · rw [zio_c (by omega)] at h
          exact h
      · rw [if_neg c] at h
        refine sfj_t _ (fun k => ?_) (sfn_r (nI_1 j) h)
        by_cases d : zS M j = s
        · refine sfb_t (by rw [d]) (sfc1_i (e_isAt hV hr z ht) (sfb_t ?_ rfl))
          rw [if_neg (fun x => c (zPo_iff.mpr ⟨d, x.1, x.2⟩))]; rfl
        · exact sfb_f (by rw [nI_eqP (by omega) (by omega)]; exact d) rfl
    · have e : j = M 2 := by omega
      subst e
      exact sfb_t (by rw [b0, nI_leP (by omega) (by omega)]; omega) rfl
theorem a_during (hV : VW M U) (hr : RO M on ot op os sc sd sp sw gc gp gr bc bg bs bt be ql qg fc fg fs fm) {s t : Nat} (hs : s < 100) (ht : t < 2 ^ 30) : f_L_during sc sd bc bs bt (nI s) (nI t) = some (zio (zla (zPo (zS M) (zT M) (zE M) s t) (M 2))) := by
  have v2 := hV.1.2.2.1
  have h := ld5 hV hr hs ht (k := fun y => some y) 2000 0 (Nat.zero_le _) (by omega)
  rw [show zio (zla (zPo (zS M) (zT M) (zE M) s t) 0) = -1 from rfl] at h
  exact h
/-- the inner search: a booking of the slide in the minute x -/
theorem lo21_0 (hV : VW M U) (hr : RO M on ot op os sc sd sp sw gc gp gr bc bg bs bt be ql qg fc fg fs fm) {s x : Nat} {k : Int32 → Option Int32} : ∀ m j, j ≤ M 2 → M 2 - j < m → f_L_isOpen_L21 sc sd bc bg bs bt (-1) (nI s) (nI x) k m (nI j) (nI 0) = k (nI 0) := by
  have v2 := hV.1.2.2.1
  have b0 := hr.2.2.2.1.1
  intro m
  induction m with
  | zero => intro j hj hm; omega
  | succ m ih =>
    intro j hj hm
    rw [f_L_isOpen_L21]
    refine sfc1_i (a := bc) rfl ?_
    rcases Nat.lt_or_ge j (M 2) with z | z
    · exact sfb_f (by rw [b0, nI_leP (by omega) (by omega)]; omega) (sfj_t (nI 0) (fun k => sfb_t rfl rfl) (sfn_r (nI_1 j) (ih (j + 1) (by omega) (by omega))))
    · exact sfb_t (by rw [b0, nI_leP (by omega) (by omega)]; omega) rfl
theorem lo21_1 (hV : VW M U) (hr : RO M on ot op os sc sd sp sw gc gp gr bc bg bs bt be ql qg fc fg fs fm) {s x : Nat} (hs : s < 100) (hx : x < 2 ^ 30) {k : Int32 → Option Int32} : ∀ m j, j ≤ M 2 → M 2 - j < m → zc (zPo (zS M) (zT M) (zE M) s x) j = 0 → f_L_isOpen_L21 sc sd bc bg bs bt (-1) (nI s) (nI x) k m (nI j) (nI 1) = k (nI (if zc (zPo (zS M) (zT M) (zE M) s x) (M 2) = 0 then 1 else 0)) := by
  have v2 := hV.1.2.2.1
  have b0 := hr.2.2.2.1.1
  intro m
  induction m with
  | zero => intro j hj hm; omega
  | succ m ih =>
    intro j hj hm h0
    rw [f_L_isOpen_L21]
    refine sfc1_i (a := bc) rfl ?_
    rcases Nat.lt_or_ge j (M 2) with z | z
    · have hVB := hV.2.2.2.2.1 j z
      have v0 := hV.1.1
      have v1 := hV.1.2.1
      refine sfb_f (by rw [b0, nI_leP (by omega) (by omega)]; omega) ?_
      by_cases c : (zPo (zS M) (zT M) (zE M) s x) j = true
      · obtain ⟨c1, c2, c3⟩ := zPo_iff.mp c
        rw [if_neg (by have := zc_pos (n := M 2) j z c; omega)]
        refine sfj_t (nI 0) (fun k => sfb_f (by decide) (sfc1_i (e_isAt hV hr z hx) (sfb_f (by rw [if_pos ⟨c2, c3⟩]; decide) (sfc1_i (a_bookedSlide hV hr z).1 (sfb_t (by rw [c1]) rfl))))) (sfn_r (nI_1 j) ?_)
        exact lo21_0 hV hr m (j + 1) (by omega) (by omega)
      · have hf : (zPo (zS M) (zT M) (zE M) s x) j = false := by
          cases h : (zPo (zS M) (zT M) (zE M) s x) j with
          | true => exact absurd h c
          | false => rfl
        refine sfj_t (nI 1) (fun k => ?_) (sfn_r (nI_1 j) (ih (j + 1) (by omega) (by omega) (by rw [zc_f hf]; exact h0)))
        refine sfb_f (by decide) (sfc1_i (e_isAt hV hr z hx) ?_)
        by_cases d : zT M j ≤ x ∧ x < zE M j
        · refine sfb_f (by rw [if_pos d]; decide) (sfc1_i (a_bookedSlide hV hr z).1 (sfb_f (by rw [nI_eqP (by omega) (by omega)]; exact fun y => c (zPo_iff.mpr ⟨y, d.1, d.2⟩)) (sfc1_i (a_bookedGuest hV hr z).1 (sfb_f (by rw [il_1, nI_neP 1 (by omega) (by omega) (by omega)]; exact id) rfl))))
        · exact sfb_t (by rw [if_neg d]; rfl) rfl
    · have e : j = M 2 := by omega
      subst e
      rw [if_pos h0]
      exact sfb_t (by rw [b0, nI_leP (by omega) (by omega)]; omega) rfl
theorem lo6 (hV : VW M U) (hr : RO M on ot op os sc sd sp sw gc gp gr bc bg bs bt be ql qg fc fg fs fm) {s t : Nat} (hs : s < M 0) (ht : t < 2 ^ 29) {k : Int32 → Option Int32} : ∀ m i, i ≤ zD M s → zD M s - i < m → f_L_isOpen_L6 sc sd bc bg bs bt (-1) (nI s) (nI t) k m (nI (t + i)) (nI (if zc (fun i => decide (¬ zc (zPo (zS M) (zT M) (zE M) s (t + i)) (M 2) = 0)) i = 0 then 1 else 0)) = k (nI (if zc (fun i => decide (¬ zc (zPo (zS M) (zT M) (zE M) s (t + i)) (M 2) = 0)) (zD M s) = 0 then 1 else 0)) := by
  have v2 := hV.1.2.2.1
  have v0 := hV.1.1
  have hS := hV.2.1 s hs
  intro m
  induction m with
  | zero => intro i hi hm; omega
  | succ m ih =>
    intro i hi hm
    rw [f_L_isOpen_L6]
    refine sfc1_i (a_duration hV hr hs).1 ?_
    rw [nI_add]
    rcases Nat.lt_or_ge i (zD M s) with z | z
    · refine sfb_f (by rw [nI_leP (by omega) (by omega)]; omega) ?_
      have h := ih (i + 1) (by omega) (by omega)
      by_cases c : zc (fun i => decide (¬ zc (zPo (zS M) (zT M) (zE M) s (t + i)) (M 2) = 0)) i = 0
      · rw [if_pos c]
        refine (lo21_1 hV hr (by omega) (by omega : t + i < 2 ^ 30) 2000 0 (Nat.zero_le _) (by omega) rfl).trans (sfn_r (nI_1 _) ?_)
        by_cases d : zc (zPo (zS M) (zT M) (zE M) s (t + i)) (M 2) = 0
        · rw [if_pos d]
          rw [zc_f (P := (fun i => decide (¬ zc (zPo (zS M) (zT M) (zE M) s (t + i)) (M 2) = 0))) (decide_eq_false (fun x => x d)), if_pos c] at h
          exact h
        · rw [if_neg d]
          rw [zc_t (P := (fun i => decide (¬ zc (zPo (zS M) (zT M) (zE M) s (t + i)) (M 2) = 0))) (decide_eq_true d), if_neg (by omega)] at h
          exact h
      · rw [if_neg c]
        refine (lo21_0 hV hr 2000 0 (Nat.zero_le _) (by omega)).trans (sfn_r (nI_1 _) ?_)
        have c2 : ¬ zc (fun i => decide (¬ zc (zPo (zS M) (zT M) (zE M) s (t + i)) (M 2) = 0)) (i + 1) = 0 := by
          rw [zc]; omega
        rw [if_neg c2] at h
        exact h
    · have e : i = zD M s := by omega
      subst e
      exact sfb_t (by rw [nI_leP (by omega) (by omega)]; omega) rfl
theorem zne_iff (hV : VW M U) (hr : RO M on ot op os sc sd sp sw gc gp gr bc bg bs bt be ql qg fc fg fs fm) {s t : Nat} (hs : s < M 0) : zc (fun i => decide (¬ zc (zPo (zS M) (zT M) (zE M) s (t + i)) (M 2) = 0)) (zD M s) = 0 ↔ zc (zPa (zG M) (zS M) (zT M) (zE M) 1000 s t (t + zD M s)) (M 2) = 0 := by
  have hB := zMB_of hV
  have hS := hV.2.1 s hs
  constructor
  · intro h
    refine zc_none (fun k hk => decide_eq_false (fun ⟨e1, e2, e3⟩ => ?_))
    have hb := hB.2 k hk
    have e4 : zS M k = s := by omega
    have hx : ∃ i, i < zD M s ∧ zT M k ≤ t + i ∧ t + i < zE M k := by
      rcases Nat.lt_or_ge t (zT M k) with z | z
      · exact ⟨zT M k - t, by omega, by omega, by omega⟩
      · exact ⟨0, by omega, by omega, by omega⟩
    obtain ⟨i, i1, i2, i3⟩ := hx
    have h1 := of_decide_eq_false (zc_all0 h i i1)
    have h2 := zc_pos (n := M 2) (P := zPo (zS M) (zT M) (zE M) s (t + i)) k hk (zPo_iff.mpr ⟨e4, i2, i3⟩)
    exact h1 (by omega)
  · intro h
    refine zc_none (fun i hi => decide_eq_false (fun hn => hn (zc_none (fun k hk => ?_))))
    cases hp : zPo (zS M) (zT M) (zE M) s (t + i) k with
    | false => rfl
    | true =>
      obtain ⟨e1, e2, e3⟩ := zPo_iff.mp hp
      have h1 := of_decide_eq_false (zc_all0 h k hk)
      exact absurd ⟨Or.inr e1, by omega, by omega⟩ h1
theorem a_isOpen (hV : VW M U) (hr : RO M on ot op os sc sd sp sw gc gp gr bc bg bs bt be ql qg fc fg fs fm) {s t : Nat} (hs : s < M 0) (ht : t < 2 ^ 29) : f_L_isOpen sc sd bc bg bs bt (-1) (nI s) (nI t) = some (nI (if zc (zPa (zG M) (zS M) (zT M) (zE M) 1000 s t (t + zD M s)) (M 2) = 0 then 1 else 0)) := by
  have hS := hV.2.1 s hs
  rw [f_L_isOpen]
  refine (lo6 hV hr hs ht 2000 0 (Nat.zero_le _) (by omega)).trans ?_
  by_cases c : zc (zPa (zG M) (zS M) (zT M) (zE M) 1000 s t (t + zD M s)) (M 2) = 0
  · rw [if_pos c, if_pos ((zne_iff hV hr hs).mpr c)]
    exact sfg_i (by decide) rfl
  · rw [if_neg c, if_neg (fun x => c ((zne_iff hV hr hs).mp x))]
    exact sfg_i (by decide) rfl
/-- the first free minute among those from t to the last bookable one -/
def zff (M : Nat → Nat) (s t : Nat) (x : Int32) : Prop := (∃ f, t ≤ f ∧ f ≤ M 3 + 120 ∧ zfm M s f ∧ (∀ y, t ≤ y → y < f → ¬ zfm M s y) ∧ x = nI f) ∨ ((∀ y, t ≤ y → y ≤ M 3 + 120 → ¬ zfm M s y) ∧ x = -13)
theorem l100 (hV : VW M U) (hr : RO M on ot op os sc sd sp sw gc gp gr bc bg bs bt be ql qg fc fg fs fm) {s : Nat} (hs : s < M 0) {w : Nat → Int32} {mK : Nat} {v6 v7 : Int32} {k : Unit → Option (Int32 × (Nat → Int32) × Nat × Int32 × Int32)} : ∀ i m (p v : Int32), p.toInt = ((M 3 + i : Nat) : Int) - 1 → i ≤ 121 → i < m → zff M s (M 3 + i) v → f_L_slides_L100 on sc sd bc bg bs bt be on (nI s) v6 v7 w mK k m p v = k () := by
  have n1 := hr.1.1
  have hU := hV.1.2.2.2.2
  intro i
  induction i with
  | zero =>
    intro m p v hp hi hm hv
    cases m with
    | zero => omega
    | succ m =>
      rw [f_L_slides_L100]
      exact sfb_t (by rw [n1, Int32.lt_iff_toInt_lt, hp, nI_toInt (by omega)]; omega) rfl
  | succ i ih =>
    intro m p v hp hi hm hv
    cases m with
    | zero => omega
    | succ m =>
      obtain ⟨t, et⟩ : ∃ t, M 3 + i = t := ⟨_, rfl⟩
      have ep : p = nI t := Int32.toInt_inj.mp (by rw [hp, nI_toInt (by omega)]; omega)
      subst ep
      have ep2 : (nI t + (-1 : Int32)).toInt = ((M 3 + i : Nat) : Int) - 1 := by
        rw [et]
        cases t with
        | zero => decide
        | succ t => rw [show (-1 : Int32) = -nI 1 from rfl, nI_addneg (by omega), nI_toInt (by omega)]; omega
      rw [f_L_slides_L100]
      refine sfb_f (by rw [n1, nI_ltP (by omega) (by omega)]; omega) (sfc1_i (a_isOpen hV hr hs (t := t) (by omega)) ?_)
      have hff := a_free hV hr hs (t := t) (by omega) (by omega)
      have hx : ∃ x, (∀ (k : Int32 → Option (Int32 × (Nat → Int32) × Nat × Int32 × Int32)), sf_b (nI (if zc (zPa (zG M) (zS M) (zT M) (zE M) 1000 s t (t + zD M s)) (M 2) = 0 then 1 else 0) = (0 : Int32)) (k v) (k (nI t)) = k x) ∧ zff M s t x ∧ f_L_firstFree on sc sd bc bs bt be (nI s) (nI t) = some x ∧ f_L_byGaps on sc sd bc bs bt be (nI s) (nI t) = some x := by
        by_cases c : zc (zPa (zG M) (zS M) (zT M) (zE M) 1000 s t (t + zD M s)) (M 2) = 0
        · refine ⟨nI t, fun k => ?_, ?_⟩
          · rw [if_pos c]; exact sfb_f (by decide) rfl
          · rcases hff with ⟨f, f1, f2, f3, f4, f5, f6⟩ | ⟨f1, _, _⟩
            · have e : f = t := by
                rcases Nat.lt_or_ge t f with z | z
                · exact absurd c (f4 t (Nat.le_refl _) z)
                · omega
              subst e
              exact ⟨Or.inl ⟨f, f1, f2, f3, f4, rfl⟩, f5, f6⟩
            · exact absurd c (f1 t (Nat.le_refl _) (by omega))
        · refine ⟨v, fun k => ?_, ?_⟩
          · rw [if_neg c]; exact sfb_t rfl rfl
          · have hnt : ¬ zfm M s t := c
            rcases hv with ⟨g, g1, g2, g3, g4, g5⟩ | ⟨g1, g5⟩
            · have hz : zff M s t v := Or.inl ⟨g, by omega, g2, g3, fun y y1 y2 => by
                rcases Nat.decEq y t with q | q
                · exact g4 y (by omega) y2
                · rw [q]; exact hnt, g5⟩
              refine ⟨hz, ?_⟩
              rcases hff with ⟨f, f1, f2, f3, f4, f5, f6⟩ | ⟨f1, _, _⟩
              · have e : f = g := by
                  have hft : f ≠ t := fun q => hnt (by rw [← q]; exact f3)
                  rcases Nat.lt_or_ge f g with z | z
                  · exact absurd f3 (g4 f (by omega) z)
                  · rcases Nat.lt_or_ge g f with y | y
                    · exact absurd g3 (f4 g (by omega) y)
                    · omega
                rw [g5, ← e]
                exact ⟨f5, f6⟩
              · exact absurd g3 (f1 g (by omega) g2)
            · have hn2 : ∀ y, t ≤ y → y ≤ M 3 + 120 → ¬ zfm M s y := fun y y1 y2 => by
                rcases Nat.decEq y t with q | q
                · exact g1 y (by omega) y2
                · rw [q]; exact hnt
              refine ⟨Or.inr ⟨hn2, g5⟩, ?_⟩
              rcases hff with ⟨f, f1, f2, f3, f4, f5, f6⟩ | ⟨_, f5, f6⟩
              · exact absurd f3 (hn2 f f1 f2)
              · rw [g5]; exact ⟨f5, f6⟩
      obtain ⟨x, x1, x2, x3, x4⟩ := hx
      refine sfj_t x x1 (sfc1_i (a_isFree hV hr hs (by omega) (by omega)) (sfj_t (nI (if zc (zPa (zG M) (zS M) (zT M) (zE M) 1000 s t (t + zD M s)) (M 2) = 0 then 1 else 0)) (fun k => ?_) (sfb_t rfl (sfc1_i x3 (sfb_t rfl (sfc1_i x4 (sfb_t rfl (sfn_r rfl ?_))))))))
      · by_cases c : zc (zPa (zG M) (zS M) (zT M) (zE M) 1000 s t (t + zD M s)) (M 2) = 0
        · rw [if_pos c]; exact sfb_f (by decide) rfl
        · rw [if_neg c]; exact sfb_t rfl rfl
      · exact ih m _ x ep2 (by omega) (by omega) (by rw [et]; exact x2)
theorem cs_7 : CS 7 [32] := (show ((cwB.getD 7 []).map Int32.toNatClampNeg) = [32] by decide +kernel) ▸ cs_ok 7 (by omega)
theorem cs_8 : CS 8 [109] := (show ((cwB.getD 8 []).map Int32.toNatClampNeg) = [109] by decide +kernel) ▸ cs_ok 8 (by omega)
theorem cs_9 : CS 9 [99] := (show ((cwB.getD 9 []).map Int32.toNatClampNeg) = [99] by decide +kernel) ▸ cs_ok 9 (by omega)
theorem cs_10 : CS 10 [119] := (show ((cwB.getD 10 []).map Int32.toNatClampNeg) = [119] by decide +kernel) ▸ cs_ok 10 (by omega)
theorem cs_11 : CS 11 [64] := (show ((cwB.getD 11 []).map Int32.toNatClampNeg) = [64] by decide +kernel) ▸ cs_ok 11 (by omega)
theorem cs_12 : CS 12 [] := (show ((cwB.getD 12 []).map Int32.toNatClampNeg) = [] by decide +kernel) ▸ cs_ok 12 (by omega)
set_option maxHeartbeats 1000000 in
/-- the law's own text of a slide -/
theorem l246 (hV : VW M U) (hr : RO M on ot op os sc sd sp sw gc gp gr bc bg bs bt be ql qg fc fg fs fm) {o : Nat → Nat} (ho : ZO M o) {s : Nat} (hs : s < M 0) {k : Nat → (Nat → Int32) → Option (Int32 × (Nat → Int32) × Nat × Int32 × Int32)} {R : Option (Int32 × (Nat → Int32) × Nat × Int32 × Int32)} (hk : ∀ tK tv, TS (zds M s o) tK tv → k tK tv = R) : ∀ m r tK tv (l : List Nat), r ≤ M 2 → M 2 - r < m → l = zhd M s ++ zpre M s o r → TS l tK tv → f_L_slides_L246 bc bg bs bt (nI s) k m (nI r) tK tv = R := by
  have v2 := hV.1.2.2.1
  have v1 := hV.1.2.1
  have v0 := hV.1.1
  have hU := hV.1.2.2.2.2
  have b0 := hr.2.2.2.1.1
  intro m
  induction m with
  | zero => intro r tK tv l hr2 hm; omega
  | succ m ih =>
    intro r tK tv l hr2 hm hl ht
    rw [f_L_slides_L246]
    refine sfc1_i (a := bc) rfl ?_
    rcases Nat.lt_or_ge r (M 2) with z | z
    · obtain ⟨hbn, hbr⟩ := ho r z
      obtain ⟨b, eb⟩ : ∃ b, o r = b := ⟨_, rfl⟩
      rw [eb] at hbn hbr
      have hVB := hV.2.2.2.2.1 b hbn
      have hll : l.length ≤ 6 + 10 * r := by
        rw [hl, List.length_append, zhd_len hV hr hs]
        have := zpre_len hV hr ho (s := s) r hr2
        omega
      have e1 := (a_byStart hV hr hbn).1
      rw [hbr] at e1
      refine sfb_f (by rw [b0, nI_leP (by omega) (by omega)]; omega) (sfc1_i e1 ?_)
      obtain ⟨K1, sv1, p1, p2, p3⟩ := jt_r GB_0 (L := 0) rfl ht (by omega)
      refine sfc3_i p1 (sfc1_i (a_bookedSlide hV hr hbn).1 ?_)
      rw [List.nil_append] at p2 p3
      have hz7 := znd_pos (zT M b)
      have n1 := znd_1 (v := zG M b) (by omega)
      by_cases c : zS M b = s
      · refine sfb_t (by rw [c]) ?_
        obtain ⟨K2, sv2, q1, q2, q3⟩ := jt_s GB_0 (L := 0) rfl cs_7 (by decide)
        rw [List.nil_append] at q2 q3
        obtain ⟨K3, sv3, r1, r2, r3, r4, r5⟩ := jt_nr q2 q3 (v := zG M b) (by decide) (by omega)
        rw [n1] at r3 r5
        obtain ⟨K4, sv4, t1, t2, t3⟩ := jt_s r4 r5 cs_11 (by decide)
        obtain ⟨K5, sv5, u1, u2, u3, u4, u5⟩ := jt_nr t2 t3 (v := zT M b) (by decide) (by omega)
        have hlen : (0 + [32].length + 1 + [64].length + znd (zT M b)) ≤ 142 := by
          show 0 + 1 + 1 + 1 + znd (zT M b) ≤ 142
          omega
        obtain ⟨tv6, w1, w2, w3⟩ := jt_o u4 u5 hlen
        have hlen2 : (([32] ++ dg (zG M b)) ++ [64] ++ dg (zT M b)).length ≤ 10 := by
          rw [u5]
          show 0 + 1 + 1 + 1 + znd (zT M b) ≤ 10
          omega
        obtain ⟨K7, sv7, x1, x2, x3⟩ := jt_r p2 p3 w2 (by omega)
        obtain ⟨tv8, y1, y2, y3⟩ := jt_o x2 x3 (by omega)
        refine sfc3_i q1 (sfc1_i (a_bookedGuest hV hr hbn).1 (sfn_r r1 (sfg_i r2 (sfc2_i r3 (sfc3_i t1 (sfc1_i (a_start hV hr hbn).1 (sfn_r u1 (sfg_i u2 (sfc2_i u3 (sfc2_i w1 (sfg_i w3 (sfc3_i x1 (sfc2_i y1 (sfg_i y3 (sfn_r (nI_1 r) ?_)))))))))))))))
        exact ih (r + 1) _ _ _ (by omega) (by omega) (by rw [hl, zpre, zpc, eb, if_pos c, List.append_assoc (zhd M s)]) y2
      · refine sfb_f (by rw [nI_eqP (by omega) (by omega)]; exact c) ?_
        obtain ⟨K2, sv2, q1, q2, q3⟩ := jt_s p2 p3 cs_12 (by show 0 + l.length + 0 ≤ 142; omega)
        obtain ⟨tv3, w1, w2, w3⟩ := jt_o q2 q3 (by show 0 + l.length + 0 ≤ 142; omega)
        refine sfc3_i q1 (sfc2_i w1 (sfg_i w3 (sfn_r (nI_1 r) ?_)))
        exact ih (r + 1) _ _ _ (by omega) (by omega) (by rw [List.append_nil, hl, zpre, zpc, eb, if_neg c, List.append_nil]) w2
    · have e : r = M 2 := by omega
      subst e
      refine sfb_t (by rw [b0, nI_leP (by omega) (by omega)]; omega) (hk _ _ ?_)
      rw [zds, ← hl]
      exact ht
end SLA
