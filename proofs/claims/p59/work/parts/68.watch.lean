/-! the most bookings that can be watched: the law's own search -/
theorem n0_1 : ((0 : Nat) = 1) = False := by simp
theorem sfj_t {ρ γ : Type} {K : γ → Option ρ} {B : (γ → Option ρ) → Option ρ} {R : Option ρ} (v : γ) (hB : ∀ k : γ → Option ρ, B k = k v) (h : K v = R) : sf_j K B = R := (hB K).trans h
/-- no other than the first of the earliest ends from u on stays -/
def zbd0 (T E : Nat → Nat) (u b i : Nat) : Bool := decide (¬ (T i < u ∨ E b < E i ∨ E i = E b ∧ b ≤ i))
theorem zeb_spec {T E : Nat → Nat} {u : Nat} : ∀ {n : Nat}, n < 99 → (zeb T E u n = 99 ∧ ∀ i, i < n → T i < u) ∨ (zeb T E u n < n ∧ u ≤ T (zeb T E u n) ∧ ∀ i, i < n → u ≤ T i → E (zeb T E u n) < E i ∨ (E i = E (zeb T E u n) ∧ zeb T E u n ≤ i))
  | 0, _ => Or.inl ⟨rfl, fun i hi => absurd hi (Nat.not_lt_zero i)⟩
  | n + 1, hn => by
    have ih := zeb_spec (T := T) (E := E) (u := u) (n := n) (by omega)
    rw [zeb]
    by_cases c : u ≤ T n ∧ (zeb T E u n = 99 ∨ E n < E (zeb T E u n))
    · rw [if_pos c]
      right
      refine ⟨by omega, c.1, fun i hi hu => ?_⟩
      rcases ih with ⟨h1, h2⟩ | ⟨h1, h2, h3⟩
      · rcases Nat.lt_or_ge i n with z | z
        · have := h2 i z; omega
        · have e : i = n := by omega
          rw [e]; exact Or.inr ⟨rfl, Nat.le_refl _⟩
      · rcases Nat.lt_or_ge i n with z | z
        · have h4 := h3 i z hu
          have h5 : E n < E (zeb T E u n) := by omega
          left
          omega
        · have e : i = n := by omega
          rw [e]; exact Or.inr ⟨rfl, Nat.le_refl _⟩
    · rw [if_neg c]
      rcases ih with ⟨h1, h2⟩ | ⟨h1, h2, h3⟩
      · left
        refine ⟨h1, fun i hi => ?_⟩
        rcases Nat.lt_or_ge i n with z | z
        · exact h2 i z
        · have e : i = n := by omega
          rw [e]; omega
      · right
        refine ⟨by omega, h2, fun i hi hu => ?_⟩
        rcases Nat.lt_or_ge i n with z | z
        · exact h3 i z hu
        · have e : i = n := by omega
          rw [e] at hu ⊢
          omega
/-- the one that stays is the one that is looked for -/
theorem zbd0_iff {T E : Nat → Nat} {u n b : Nat} (hn : n < 99) (hb : b < n) : (u ≤ T b ∧ zc (zbd0 T E u b) n = 0) ↔ b = zeb T E u n := by
  constructor
  · intro ⟨h1, h2⟩
    rcases zeb_spec (T := T) (E := E) (u := u) hn with ⟨e1, e2⟩ | ⟨e1, e2, e3⟩
    · have := e2 b hb; omega
    · have h3 := of_decide_eq_false (zc_all0 h2 _ e1)
      have h4 := e3 b hb h1
      have h5 : T (zeb T E u n) < u ∨ E b < E (zeb T E u n) ∨ E (zeb T E u n) = E b ∧ b ≤ zeb T E u n := Classical.byContradiction h3
      omega
  · intro h
    rcases zeb_spec (T := T) (E := E) (u := u) hn with ⟨e1, e2⟩ | ⟨e1, e2, e3⟩
    · omega
    · rw [← h] at e2 e3
      refine ⟨e2, zc_none (fun i hi => decide_eq_false (fun hc => hc ?_))⟩
      rcases Nat.lt_or_ge (T i) u with z | z
      · exact Or.inl z
      · rcases e3 i hi z with w | w
        · exact Or.inr (Or.inl w)
        · exact Or.inr (Or.inr w)
section WAT
variable {M : Nat → Nat} {U : Nat} {on ot op os sc gc bc fc : Int32} {sd sp sw gp gr bg bs bt be ql qg fg fs fm : Nat → Int32}
theorem e_endOf (hV : VW M U) (hr : RO M on ot op os sc sd sp sw gc gp gr bc bg bs bt be ql qg fc fg fs fm) {j : Nat} (hj : j < M 2) : f_L_endOf sc sd bc bs bt (nI j) = some (nI (zE M j)) := by
  rw [f_L_endOf]
  refine sfc1_i (a_start hV hr hj).1 (sfc1_i (a_bookedSlide hV hr hj).1 (sfc1_i (a_duration hV hr (hV.2.2.2.2.1 j hj).2.1).1 ?_))
  rw [nI_add]; rfl
theorem sf_bj {ρ γ : Type} {c : Prop} [Decidable c] {K : γ → Option ρ} (a b : γ) : sf_j K (fun k => sf_b c (k a) (k b)) = sf_b c (K a) (K b) := rfl
theorem lw0_a (hV : VW M U) (hr : RO M on ot op os sc sd sp sw gc gp gr bc bg bs bt be ql qg fc fg fs fm) {u : Nat} {p : Int32} (hp : ∀ x, x < 2 ^ 31 → (nI x < p) = (x < u)) {b : Nat} (hb : b < M 2) {k : Int32 → Option Int32} : ∀ m j, j ≤ M 2 → M 2 - j < m → zc (zbd0 (zT M) (zE M) u b) j = 0 → f_L_watched_0_L31 sc sd bc bs bt p (nI b) k m (nI j) (nI 1) = k (nI (if zc (zbd0 (zT M) (zE M) u b) (M 2) = 0 then 1 else 0)) := by
  have v2 := hV.1.2.2.1
  have b0 := hr.2.2.2.1.1
  intro m
  induction m with
  | zero => intro j hj hm; omega
  | succ m ih =>
    intro j hj hm h0
    rw [f_L_watched_0_L31]
    refine sfc1_i (a := bc) rfl ?_
    rcases Nat.lt_or_ge j (M 2) with z | z
    · have hE := hV.2.2.2.2.1 j z
      have hEb := hV.2.2.2.2.1 b hb
      have hH := (zHB_of hV hr.2.2.2.1).2 j z
      have hHb := (zHB_of hV hr.2.2.2.1).2 b hb
      refine sfb_f (by rw [b0, nI_leP (by omega) (by omega)]; omega) (sfb_f (by decide) (sfc1_i (a_start hV hr z).1 ?_))
      by_cases c : zbd0 (zT M) (zE M) u b j = true
      · have hc : ¬ (zT M j < u ∨ zE M b < zE M j ∨ zE M j = zE M b ∧ b ≤ j) := of_decide_eq_true c
        rw [if_neg (by have := zc_pos (n := M 2) j z c; omega)]
        refine sfj_t (nI 0) (fun k => ?_) ?_
        · refine sfb_f (by rw [hp _ (by omega)]; omega) (sfc1_i (e_endOf hV hr z) (sfc1_i (e_endOf hV hr hb) (sfb_f (by rw [nI_ltP (by omega) (by omega)]; omega) (sfc1_i (e_endOf hV hr z) (sfc1_i (e_endOf hV hr hb) ?_)))))
          by_cases d : zE M j = zE M b
          · exact sfb_t (by rw [d]) (sfb_t (by rw [nI_ltP (by omega) (by omega)]; omega) rfl)
          · exact sfb_f (by rw [nI_eqP (by omega) (by omega)]; exact d) rfl
        · refine sfn_r (y := nI (j + 1)) (nI_add j 1) ?_
          cases m with
          | zero => omega
          | succ m =>
            rw [f_L_watched_0_L31]
            refine sfc1_i (a := bc) rfl ?_
            rcases Nat.lt_or_ge (j + 1) (M 2) with w | w
            · exact sfb_f (by rw [b0, nI_leP (by omega) (by omega)]; omega) (sfb_t rfl rfl)
            · exact sfb_t (by rw [b0, nI_leP (by omega) (by omega)]; omega) rfl
      · have hf : zbd0 (zT M) (zE M) u b j = false := by
          cases h : zbd0 (zT M) (zE M) u b j with
          | true => exact absurd h c
          | false => rfl
        have hc : zT M j < u ∨ zE M b < zE M j ∨ zE M j = zE M b ∧ b ≤ j := Classical.byContradiction (of_decide_eq_false hf)
        refine sfj_t (nI 1) (fun k => ?_) ?_
        · by_cases d : zT M j < u
          · exact sfb_t (by rw [hp _ (by omega)]; exact d) rfl
          refine sfb_f (by rw [hp _ (by omega)]; exact d) (sfc1_i (e_endOf hV hr z) (sfc1_i (e_endOf hV hr hb) ?_))
          by_cases d2 : zE M b < zE M j
          · exact sfb_t (by rw [nI_ltP (by omega) (by omega)]; exact d2) rfl
          · exact sfb_f (by rw [nI_ltP (by omega) (by omega)]; exact d2) (sfc1_i (e_endOf hV hr z) (sfc1_i (e_endOf hV hr hb) (sfb_t (by rw [show zE M j = zE M b by omega]) (sfb_f (by rw [nI_ltP (by omega) (by omega)]; omega) rfl))))
        · refine sfn_r (y := nI (j + 1)) (nI_add j 1) ?_
          exact ih (j + 1) (by omega) (by omega) (by rw [zc_f hf]; exact h0)
    · have e : j = M 2 := by omega
      subst e
      rw [if_pos h0]
      exact sfb_t (by rw [b0, nI_leP (by omega) (by omega)]; omega) rfl
theorem lw0_b (hV : VW M U) (hr : RO M on ot op os sc sd sp sw gc gp gr bc bg bs bt be ql qg fc fg fs fm) {u : Nat} {p : Int32} (hp : ∀ x, x < 2 ^ 31 → (nI x < p) = (x < u)) (hno : ∀ i, i < M 2 → zT M i < u) : ∀ m j, j ≤ M 2 → M 2 - j < m → f_L_watched_0_L4 sc sd bc bs bt p (fun y => some y) m (nI j) (nI 0) = some (nI 0) := by
  have v2 := hV.1.2.2.1
  have b0 := hr.2.2.2.1.1
  intro m
  induction m with
  | zero => intro j hj hm; omega
  | succ m ih =>
    intro j hj hm
    rw [f_L_watched_0_L4]
    refine sfc1_i (a := bc) rfl ?_
    rcases Nat.lt_or_ge j (M 2) with z | z
    · have hE := hV.2.2.2.2.1 j z
      have hH := (zHB_of hV hr.2.2.2.1).2 j z
      refine sfb_f (by rw [b0, nI_leP (by omega) (by omega)]; omega) ?_
      refine sfc1_i (a_start hV hr z).1 ?_
      refine sfj_t (nI 0) (fun k => sfb_t (by rw [hp _ (by omega)]; exact hno j z) rfl) ?_
      rw [f_L_watched_0_L31]
      refine sfc1_i (a := bc) rfl ?_
      have hz : M 2 ≠ 0 := by omega
      refine sfb_f (by rw [b0, il_0, nI_leP (by omega) (by omega)]; omega) (sfb_t rfl (sfb_t rfl (sfn_r (y := nI (j + 1)) (nI_add j 1) ?_)))
      exact ih (j + 1) (by omega) (by omega)
    · exact sfb_t (by rw [b0, nI_leP (by omega) (by omega)]; omega) rfl
theorem lw0 (hV : VW M U) (hr : RO M on ot op os sc sd sp sw gc gp gr bc bg bs bt be ql qg fc fg fs fm) {c : Nat} (hc : c ≤ M 2) (hg : zgc (zT M) (zE M) (M 2) c) : ∀ i p, (∀ x, x < 2 ^ 31 → (nI x < p) = (x < zes (zT M) (zE M) (M 2) i)) → i ≤ c → c - i ≤ 0 → f_L_watched_0 sc sd bc bs bt p = some (nI (c - i)) := by
  intro i p hp h1 h2
  have v2 := hV.1.2.2.1
  have e : i = c := by omega
  subst e
  rw [Nat.sub_self]
  have hH := (zHB_of hV hr.2.2.2.1).2
  have hno : ∀ k, k < M 2 → zT M k < zes (zT M) (zE M) (M 2) i := fun k hk => by
    rcases Nat.lt_or_ge (zT M k) (zes (zT M) (zE M) (M 2) i) with z | z
    · exact z
    · have h3 := zne_le (T := zT M) (E := zE M) k hk z
      have h4 : zne (zT M) (zE M) (zes (zT M) (zE M) (M 2) i) (M 2) = zI := hg.2
      have h5 := (hH k hk).2.2.2.2.1
      rw [h4] at h3
      unfold zI at h3
      omega
  exact lw0_b hV hr hp hno 2000 0 (Nat.zero_le _) (by omega)
theorem lw1_a (hV : VW M U) (hr : RO M on ot op os sc sd sp sw gc gp gr bc bg bs bt be ql qg fc fg fs fm) {u : Nat} {p : Int32} (hp : ∀ x, x < 2 ^ 31 → (nI x < p) = (x < u)) {b : Nat} (hb : b < M 2) {k : Int32 → Option Int32} : ∀ m j, j ≤ M 2 → M 2 - j < m → zc (zbd0 (zT M) (zE M) u b) j = 0 → f_L_watched_1_L31 sc sd bc bs bt p (nI b) k m (nI j) (nI 1) = k (nI (if zc (zbd0 (zT M) (zE M) u b) (M 2) = 0 then 1 else 0)) := by
  have v2 := hV.1.2.2.1
  have b0 := hr.2.2.2.1.1
  intro m
  induction m with
  | zero => intro j hj hm; omega
  | succ m ih =>
    intro j hj hm h0
    rw [f_L_watched_1_L31]
    refine sfc1_i (a := bc) rfl ?_
    rcases Nat.lt_or_ge j (M 2) with z | z
    · have hE := hV.2.2.2.2.1 j z
      have hEb := hV.2.2.2.2.1 b hb
      have hH := (zHB_of hV hr.2.2.2.1).2 j z
      have hHb := (zHB_of hV hr.2.2.2.1).2 b hb
      refine sfb_f (by rw [b0, nI_leP (by omega) (by omega)]; omega) (sfb_f (by decide) (sfc1_i (a_start hV hr z).1 ?_))
      by_cases c : zbd0 (zT M) (zE M) u b j = true
      · have hc : ¬ (zT M j < u ∨ zE M b < zE M j ∨ zE M j = zE M b ∧ b ≤ j) := of_decide_eq_true c
        rw [if_neg (by have := zc_pos (n := M 2) j z c; omega)]
        refine sfj_t (nI 0) (fun k => ?_) ?_
        · refine sfb_f (by rw [hp _ (by omega)]; omega) (sfc1_i (e_endOf hV hr z) (sfc1_i (e_endOf hV hr hb) (sfb_f (by rw [nI_ltP (by omega) (by omega)]; omega) (sfc1_i (e_endOf hV hr z) (sfc1_i (e_endOf hV hr hb) ?_)))))
          by_cases d : zE M j = zE M b
          · exact sfb_t (by rw [d]) (sfb_t (by rw [nI_ltP (by omega) (by omega)]; omega) rfl)
          · exact sfb_f (by rw [nI_eqP (by omega) (by omega)]; exact d) rfl
        · refine sfn_r (y := nI (j + 1)) (nI_add j 1) ?_
          cases m with
          | zero => omega
          | succ m =>
            rw [f_L_watched_1_L31]
            refine sfc1_i (a := bc) rfl ?_
            rcases Nat.lt_or_ge (j + 1) (M 2) with w | w
            · exact sfb_f (by rw [b0, nI_leP (by omega) (by omega)]; omega) (sfb_t rfl rfl)
            · exact sfb_t (by rw [b0, nI_leP (by omega) (by omega)]; omega) rfl
      · have hf : zbd0 (zT M) (zE M) u b j = false := by
          cases h : zbd0 (zT M) (zE M) u b j with
          | true => exact absurd h c
          | false => rfl
        have hc : zT M j < u ∨ zE M b < zE M j ∨ zE M j = zE M b ∧ b ≤ j := Classical.byContradiction (of_decide_eq_false hf)
        refine sfj_t (nI 1) (fun k => ?_) ?_
        · by_cases d : zT M j < u
          · exact sfb_t (by rw [hp _ (by omega)]; exact d) rfl
          refine sfb_f (by rw [hp _ (by omega)]; exact d) (sfc1_i (e_endOf hV hr z) (sfc1_i (e_endOf hV hr hb) ?_))
          by_cases d2 : zE M b < zE M j
          · exact sfb_t (by rw [nI_ltP (by omega) (by omega)]; exact d2) rfl
          · exact sfb_f (by rw [nI_ltP (by omega) (by omega)]; exact d2) (sfc1_i (e_endOf hV hr z) (sfc1_i (e_endOf hV hr hb) (sfb_t (by rw [show zE M j = zE M b by omega]) (sfb_f (by rw [nI_ltP (by omega) (by omega)]; omega) rfl))))
        · refine sfn_r (y := nI (j + 1)) (nI_add j 1) ?_
          exact ih (j + 1) (by omega) (by omega) (by rw [zc_f hf]; exact h0)
    · have e : j = M 2 := by omega
      subst e
      rw [if_pos h0]
      exact sfb_t (by rw [b0, nI_leP (by omega) (by omega)]; omega) rfl
theorem lw1_b (hV : VW M U) (hr : RO M on ot op os sc sd sp sw gc gp gr bc bg bs bt be ql qg fc fg fs fm) {u : Nat} {p : Int32} (hp : ∀ x, x < 2 ^ 31 → (nI x < p) = (x < u)) {r : Nat} (hr0 : 0 < r) (hr1 : r < 100) (hcall : zeb (zT M) (zE M) u (M 2) < M 2 → f_L_watched_0 sc sd bc bs bt (nI (zE M (zeb (zT M) (zE M) u (M 2)))) = some (nI (r - 1))) : ∀ m j, j ≤ M 2 → M 2 - j < m → f_L_watched_1_L4 sc sd bc bs bt p (fun y => some y) m (nI j) (nI (if zeb (zT M) (zE M) u (M 2) < j then r else 0)) = some (nI (if zeb (zT M) (zE M) u (M 2) < M 2 then r else 0)) := by
  have v2 := hV.1.2.2.1
  have b0 := hr.2.2.2.1.1
  intro m
  induction m with
  | zero => intro j hj hm; omega
  | succ m ih =>
    intro j hj hm
    rw [f_L_watched_1_L4]
    refine sfc1_i (a := bc) rfl ?_
    rcases Nat.lt_or_ge j (M 2) with z | z
    · have hE := hV.2.2.2.2.1 j z
      have hH := (zHB_of hV hr.2.2.2.1).2 j z
      refine sfb_f (by rw [b0, nI_leP (by omega) (by omega)]; omega) ?_
      refine sfc1_i (a_start hV hr z).1 ?_
      have hiff := zbd0_iff (T := zT M) (E := zE M) (u := u) (n := M 2) (b := j) (by omega) z
      -- what the inner search says
      have hin : ∀ (K : Int32 → Option Int32), sf_b (nI (zT M j) < p) (f_L_watched_1_L31 sc sd bc bs bt p (nI j) K 2000 (0 : Int32) (0 : Int32)) (f_L_watched_1_L31 sc sd bc bs bt p (nI j) K 2000 (0 : Int32) (1 : Int32)) = K (nI (if j = zeb (zT M) (zE M) u (M 2) then 1 else 0)) := fun K => by
        by_cases d : zT M j < u
        · refine sfb_t (by rw [hp _ (by omega)]; exact d) ?_
          rw [if_neg (fun x => by have := (hiff.mpr x).1; omega)]
          rw [f_L_watched_1_L31]
          refine sfc1_i (a := bc) rfl ?_
          have hz : M 2 ≠ 0 := by omega
          exact sfb_f (by rw [b0, il_0, nI_leP (by omega) (by omega)]; omega) (sfb_t rfl rfl)
        · refine sfb_f (by rw [hp _ (by omega)]; exact d) ?_
          refine (lw1_a hV hr hp z (k := K) 2000 0 (Nat.zero_le _) (by omega) rfl).trans ?_
          by_cases e : j = zeb (zT M) (zE M) u (M 2)
          · rw [if_pos e, if_pos (hiff.mpr e).2]
          · rw [if_neg e, if_neg (fun x => e (hiff.mp ⟨by omega, x⟩))]
      refine Eq.trans (sf_bj _ _) ?_
      refine (hin _).trans ?_
      by_cases e : j = zeb (zT M) (zE M) u (M 2)
      · rw [if_pos e, if_neg (by omega)]
        have hc := hcall (by omega)
        rw [← e] at hc
        refine sfj_t (nI r) (fun k => sfb_f (by decide) (sfc1_i (e_endOf hV hr z) (sfc1_i hc ?_))) (sfn_r (y := nI (j + 1)) (nI_add j 1) ?_)
        · have e1 : (1 : Int32) + nI (r - 1) = nI r := by
            rw [il_1, nI_add, show 1 + (r - 1) = r by omega]
          rw [e1, if_pos (by rw [nI_ltP (by omega) (by omega)]; exact hr0)]
        · have h := ih (j + 1) (by omega) (by omega)
          rw [if_pos (by omega)] at h
          exact h
      · rw [if_neg e]
        refine sfj_t (nI (if zeb (zT M) (zE M) u (M 2) < j then r else 0)) (fun k => sfb_t rfl rfl) (sfn_r (y := nI (j + 1)) (nI_add j 1) ?_)
        have h := ih (j + 1) (by omega) (by omega)
        by_cases w : zeb (zT M) (zE M) u (M 2) < j
        · rw [if_pos (by omega)] at h
          rw [if_pos w]
          exact h
        · rw [if_neg (by omega)] at h
          rw [if_neg w]
          exact h
    · have e : j = M 2 := by omega
      subst e
      exact sfb_t (by rw [b0, nI_leP (by omega) (by omega)]; omega) rfl
theorem lw1 (hV : VW M U) (hr : RO M on ot op os sc sd sp sw gc gp gr bc bg bs bt be ql qg fc fg fs fm) {c : Nat} (hc : c ≤ M 2) (hg : zgc (zT M) (zE M) (M 2) c) : ∀ i p, (∀ x, x < 2 ^ 31 → (nI x < p) = (x < zes (zT M) (zE M) (M 2) i)) → i ≤ c → c - i ≤ 1 → f_L_watched_1 sc sd bc bs bt p = some (nI (c - i)) := by
  intro i p hp h1 h2
  have v2 := hV.1.2.2.1
  have hH := (zHB_of hV hr.2.2.2.1).2
  have hEI : ∀ k, k < M 2 → zE M k < zI := fun k hk => by
    have := (hH k hk).2.2.2.2.1
    unfold zI
    omega
  rcases zeb_ne (T := zT M) (E := zE M) (u := zes (zT M) (zE M) (M 2) i) (j := M 2) (by omega) hEI with ⟨z1, z2⟩ | ⟨z1, z2, z3⟩
  · have e : c - i = 0 := by
      rcases Nat.lt_or_ge i c with w | w
      · exact absurd z2 (hg.1 i w)
      · omega
    rw [e]
    have h := lw1_b hV hr hp (r := 1) (by omega) (by omega) (fun h => by omega) 2000 0 (Nat.zero_le _) (by omega)
    rw [if_neg (by omega), if_neg (by omega)] at h
    exact h
  · have hlt : i < c := by
      rcases Nat.lt_or_ge i c with w | w
      · exact w
      · have e : i = c := by omega
        have h3 : zne (zT M) (zE M) (zes (zT M) (zE M) (M 2) i) (M 2) = zI := by rw [e]; exact hg.2
        omega
    have hcl : f_L_watched_0 sc sd bc bs bt (nI (zE M (zeb (zT M) (zE M) (zes (zT M) (zE M) (M 2) i) (M 2)))) = some (nI (c - i - 1)) := by
      have h4 := lw0 hV hr hc hg (i + 1) (nI (zE M (zeb (zT M) (zE M) (zes (zT M) (zE M) (M 2) i) (M 2)))) (fun x hx => by
        have h5 := (hH _ z1).2.2.2.2.1
        rw [nI_ltP hx (by omega), z2]; rfl) (by omega) (by omega)
      rw [show c - i - 1 = c - (i + 1) by omega]
      exact h4
    have h := lw1_b hV hr hp (r := c - i) (by omega) (by omega) (fun _ => hcl) 2000 0 (Nat.zero_le _) (by omega)
    rw [if_neg (by omega), if_pos z1] at h
    exact h
theorem lw2_a (hV : VW M U) (hr : RO M on ot op os sc sd sp sw gc gp gr bc bg bs bt be ql qg fc fg fs fm) {u : Nat} {p : Int32} (hp : ∀ x, x < 2 ^ 31 → (nI x < p) = (x < u)) {b : Nat} (hb : b < M 2) {k : Int32 → Option Int32} : ∀ m j, j ≤ M 2 → M 2 - j < m → zc (zbd0 (zT M) (zE M) u b) j = 0 → f_L_watched_2_L31 sc sd bc bs bt p (nI b) k m (nI j) (nI 1) = k (nI (if zc (zbd0 (zT M) (zE M) u b) (M 2) = 0 then 1 else 0)) := by
  have v2 := hV.1.2.2.1
  have b0 := hr.2.2.2.1.1
  intro m
  induction m with
  | zero => intro j hj hm; omega
  | succ m ih =>
    intro j hj hm h0
    rw [f_L_watched_2_L31]
    refine sfc1_i (a := bc) rfl ?_
    rcases Nat.lt_or_ge j (M 2) with z | z
    · have hE := hV.2.2.2.2.1 j z
      have hEb := hV.2.2.2.2.1 b hb
      have hH := (zHB_of hV hr.2.2.2.1).2 j z
      have hHb := (zHB_of hV hr.2.2.2.1).2 b hb
      refine sfb_f (by rw [b0, nI_leP (by omega) (by omega)]; omega) (sfb_f (by decide) (sfc1_i (a_start hV hr z).1 ?_))
      by_cases c : zbd0 (zT M) (zE M) u b j = true
      · have hc : ¬ (zT M j < u ∨ zE M b < zE M j ∨ zE M j = zE M b ∧ b ≤ j) := of_decide_eq_true c
        rw [if_neg (by have := zc_pos (n := M 2) j z c; omega)]
        refine sfj_t (nI 0) (fun k => ?_) ?_
        · refine sfb_f (by rw [hp _ (by omega)]; omega) (sfc1_i (e_endOf hV hr z) (sfc1_i (e_endOf hV hr hb) (sfb_f (by rw [nI_ltP (by omega) (by omega)]; omega) (sfc1_i (e_endOf hV hr z) (sfc1_i (e_endOf hV hr hb) ?_)))))
          by_cases d : zE M j = zE M b
          · exact sfb_t (by rw [d]) (sfb_t (by rw [nI_ltP (by omega) (by omega)]; omega) rfl)
          · exact sfb_f (by rw [nI_eqP (by omega) (by omega)]; exact d) rfl
        · refine sfn_r (y := nI (j + 1)) (nI_add j 1) ?_
          cases m with
          | zero => omega
          | succ m =>
            rw [f_L_watched_2_L31]
            refine sfc1_i (a := bc) rfl ?_
            rcases Nat.lt_or_ge (j + 1) (M 2) with w | w
            · exact sfb_f (by rw [b0, nI_leP (by omega) (by omega)]; omega) (sfb_t rfl rfl)
            · exact sfb_t (by rw [b0, nI_leP (by omega) (by omega)]; omega) rfl
      · have hf : zbd0 (zT M) (zE M) u b j = false := by
          cases h : zbd0 (zT M) (zE M) u b j with
          | true => exact absurd h c
          | false => rfl
        have hc : zT M j < u ∨ zE M b < zE M j ∨ zE M j = zE M b ∧ b ≤ j := Classical.byContradiction (of_decide_eq_false hf)
        refine sfj_t (nI 1) (fun k => ?_) ?_
        · by_cases d : zT M j < u
          · exact sfb_t (by rw [hp _ (by omega)]; exact d) rfl
          refine sfb_f (by rw [hp _ (by omega)]; exact d) (sfc1_i (e_endOf hV hr z) (sfc1_i (e_endOf hV hr hb) ?_))
          by_cases d2 : zE M b < zE M j
          · exact sfb_t (by rw [nI_ltP (by omega) (by omega)]; exact d2) rfl
          · exact sfb_f (by rw [nI_ltP (by omega) (by omega)]; exact d2) (sfc1_i (e_endOf hV hr z) (sfc1_i (e_endOf hV hr hb) (sfb_t (by rw [show zE M j = zE M b by omega]) (sfb_f (by rw [nI_ltP (by omega) (by omega)]; omega) rfl))))
        · refine sfn_r (y := nI (j + 1)) (nI_add j 1) ?_
          exact ih (j + 1) (by omega) (by omega) (by rw [zc_f hf]; exact h0)
    · have e : j = M 2 := by omega
      subst e
      rw [if_pos h0]
      exact sfb_t (by rw [b0, nI_leP (by omega) (by omega)]; omega) rfl
theorem lw2_b (hV : VW M U) (hr : RO M on ot op os sc sd sp sw gc gp gr bc bg bs bt be ql qg fc fg fs fm) {u : Nat} {p : Int32} (hp : ∀ x, x < 2 ^ 31 → (nI x < p) = (x < u)) {r : Nat} (hr0 : 0 < r) (hr1 : r < 100) (hcall : zeb (zT M) (zE M) u (M 2) < M 2 → f_L_watched_1 sc sd bc bs bt (nI (zE M (zeb (zT M) (zE M) u (M 2)))) = some (nI (r - 1))) : ∀ m j, j ≤ M 2 → M 2 - j < m → f_L_watched_2_L4 sc sd bc bs bt p (fun y => some y) m (nI j) (nI (if zeb (zT M) (zE M) u (M 2) < j then r else 0)) = some (nI (if zeb (zT M) (zE M) u (M 2) < M 2 then r else 0)) := by
  have v2 := hV.1.2.2.1
  have b0 := hr.2.2.2.1.1
  intro m
  induction m with
  | zero => intro j hj hm; omega
  | succ m ih =>
    intro j hj hm
    rw [f_L_watched_2_L4]
    refine sfc1_i (a := bc) rfl ?_
    rcases Nat.lt_or_ge j (M 2) with z | z
    · have hE := hV.2.2.2.2.1 j z
      have hH := (zHB_of hV hr.2.2.2.1).2 j z
      refine sfb_f (by rw [b0, nI_leP (by omega) (by omega)]; omega) ?_
      refine sfc1_i (a_start hV hr z).1 ?_
      have hiff := zbd0_iff (T := zT M) (E := zE M) (u := u) (n := M 2) (b := j) (by omega) z
      -- what the inner search says
      have hin : ∀ (K : Int32 → Option Int32), sf_b (nI (zT M j) < p) (f_L_watched_2_L31 sc sd bc bs bt p (nI j) K 2000 (0 : Int32) (0 : Int32)) (f_L_watched_2_L31 sc sd bc bs bt p (nI j) K 2000 (0 : Int32) (1 : Int32)) = K (nI (if j = zeb (zT M) (zE M) u (M 2) then 1 else 0)) := fun K => by
        by_cases d : zT M j < u
        · refine sfb_t (by rw [hp _ (by omega)]; exact d) ?_
          rw [if_neg (fun x => by have := (hiff.mpr x).1; omega)]
          rw [f_L_watched_2_L31]
          refine sfc1_i (a := bc) rfl ?_
          have hz : M 2 ≠ 0 := by omega
          exact sfb_f (by rw [b0, il_0, nI_leP (by omega) (by omega)]; omega) (sfb_t rfl rfl)
        · refine sfb_f (by rw [hp _ (by omega)]; exact d) ?_
          refine (lw2_a hV hr hp z (k := K) 2000 0 (Nat.zero_le _) (by omega) rfl).trans ?_
          by_cases e : j = zeb (zT M) (zE M) u (M 2)
          · rw [if_pos e, if_pos (hiff.mpr e).2]
          · rw [if_neg e, if_neg (fun x => e (hiff.mp ⟨by omega, x⟩))]
      refine Eq.trans (sf_bj _ _) ?_
      refine (hin _).trans ?_
      by_cases e : j = zeb (zT M) (zE M) u (M 2)
      · rw [if_pos e, if_neg (by omega)]
        have hc := hcall (by omega)
        rw [← e] at hc
        refine sfj_t (nI r) (fun k => sfb_f (by decide) (sfc1_i (e_endOf hV hr z) (sfc1_i hc ?_))) (sfn_r (y := nI (j + 1)) (nI_add j 1) ?_)
        · have e1 : (1 : Int32) + nI (r - 1) = nI r := by
            rw [il_1, nI_add, show 1 + (r - 1) = r by omega]
          rw [e1, if_pos (by rw [nI_ltP (by omega) (by omega)]; exact hr0)]
        · have h := ih (j + 1) (by omega) (by omega)
          rw [if_pos (by omega)] at h
          exact h
      · rw [if_neg e]
        refine sfj_t (nI (if zeb (zT M) (zE M) u (M 2) < j then r else 0)) (fun k => sfb_t rfl rfl) (sfn_r (y := nI (j + 1)) (nI_add j 1) ?_)
        have h := ih (j + 1) (by omega) (by omega)
        by_cases w : zeb (zT M) (zE M) u (M 2) < j
        · rw [if_pos (by omega)] at h
          rw [if_pos w]
          exact h
        · rw [if_neg (by omega)] at h
          rw [if_neg w]
          exact h
    · have e : j = M 2 := by omega
      subst e
      exact sfb_t (by rw [b0, nI_leP (by omega) (by omega)]; omega) rfl
theorem lw2 (hV : VW M U) (hr : RO M on ot op os sc sd sp sw gc gp gr bc bg bs bt be ql qg fc fg fs fm) {c : Nat} (hc : c ≤ M 2) (hg : zgc (zT M) (zE M) (M 2) c) : ∀ i p, (∀ x, x < 2 ^ 31 → (nI x < p) = (x < zes (zT M) (zE M) (M 2) i)) → i ≤ c → c - i ≤ 2 → f_L_watched_2 sc sd bc bs bt p = some (nI (c - i)) := by
  intro i p hp h1 h2
  have v2 := hV.1.2.2.1
  have hH := (zHB_of hV hr.2.2.2.1).2
  have hEI : ∀ k, k < M 2 → zE M k < zI := fun k hk => by
    have := (hH k hk).2.2.2.2.1
    unfold zI
    omega
  rcases zeb_ne (T := zT M) (E := zE M) (u := zes (zT M) (zE M) (M 2) i) (j := M 2) (by omega) hEI with ⟨z1, z2⟩ | ⟨z1, z2, z3⟩
  · have e : c - i = 0 := by
      rcases Nat.lt_or_ge i c with w | w
      · exact absurd z2 (hg.1 i w)
      · omega
    rw [e]
    have h := lw2_b hV hr hp (r := 1) (by omega) (by omega) (fun h => by omega) 2000 0 (Nat.zero_le _) (by omega)
    rw [if_neg (by omega), if_neg (by omega)] at h
    exact h
  · have hlt : i < c := by
      rcases Nat.lt_or_ge i c with w | w
      · exact w
      · have e : i = c := by omega
        have h3 : zne (zT M) (zE M) (zes (zT M) (zE M) (M 2) i) (M 2) = zI := by rw [e]; exact hg.2
        omega
    have hcl : f_L_watched_1 sc sd bc bs bt (nI (zE M (zeb (zT M) (zE M) (zes (zT M) (zE M) (M 2) i) (M 2)))) = some (nI (c - i - 1)) := by
      have h4 := lw1 hV hr hc hg (i + 1) (nI (zE M (zeb (zT M) (zE M) (zes (zT M) (zE M) (M 2) i) (M 2)))) (fun x hx => by
        have h5 := (hH _ z1).2.2.2.2.1
        rw [nI_ltP hx (by omega), z2]; rfl) (by omega) (by omega)
      rw [show c - i - 1 = c - (i + 1) by omega]
      exact h4
    have h := lw2_b hV hr hp (r := c - i) (by omega) (by omega) (fun _ => hcl) 2000 0 (Nat.zero_le _) (by omega)
    rw [if_neg (by omega), if_pos z1] at h
    exact h
theorem lw3_a (hV : VW M U) (hr : RO M on ot op os sc sd sp sw gc gp gr bc bg bs bt be ql qg fc fg fs fm) {u : Nat} {p : Int32} (hp : ∀ x, x < 2 ^ 31 → (nI x < p) = (x < u)) {b : Nat} (hb : b < M 2) {k : Int32 → Option Int32} : ∀ m j, j ≤ M 2 → M 2 - j < m → zc (zbd0 (zT M) (zE M) u b) j = 0 → f_L_watched_3_L31 sc sd bc bs bt p (nI b) k m (nI j) (nI 1) = k (nI (if zc (zbd0 (zT M) (zE M) u b) (M 2) = 0 then 1 else 0)) := by
  have v2 := hV.1.2.2.1
  have b0 := hr.2.2.2.1.1
  intro m
  induction m with
  | zero => intro j hj hm; omega
  | succ m ih =>
    intro j hj hm h0
    rw [f_L_watched_3_L31]
    refine sfc1_i (a := bc) rfl ?_
    rcases Nat.lt_or_ge j (M 2) with z | z
    · have hE := hV.2.2.2.2.1 j z
      have hEb := hV.2.2.2.2.1 b hb
      have hH := (zHB_of hV hr.2.2.2.1).2 j z
      have hHb := (zHB_of hV hr.2.2.2.1).2 b hb
      refine sfb_f (by rw [b0, nI_leP (by omega) (by omega)]; omega) (sfb_f (by decide) (sfc1_i (a_start hV hr z).1 ?_))
      by_cases c : zbd0 (zT M) (zE M) u b j = true
      · have hc : ¬ (zT M j < u ∨ zE M b < zE M j ∨ zE M j = zE M b ∧ b ≤ j) := of_decide_eq_true c
        rw [if_neg (by have := zc_pos (n := M 2) j z c; omega)]
        refine sfj_t (nI 0) (fun k => ?_) ?_
        · refine sfb_f (by rw [hp _ (by omega)]; omega) (sfc1_i (e_endOf hV hr z) (sfc1_i (e_endOf hV hr hb) (sfb_f (by rw [nI_ltP (by omega) (by omega)]; omega) (sfc1_i (e_endOf hV hr z) (sfc1_i (e_endOf hV hr hb) ?_)))))
          by_cases d : zE M j = zE M b
          · exact sfb_t (by rw [d]) (sfb_t (by rw [nI_ltP (by omega) (by omega)]; omega) rfl)
          · exact sfb_f (by rw [nI_eqP (by omega) (by omega)]; exact d) rfl
        · refine sfn_r (y := nI (j + 1)) (nI_add j 1) ?_
          cases m with
          | zero => omega
          | succ m =>
            rw [f_L_watched_3_L31]
            refine sfc1_i (a := bc) rfl ?_
            rcases Nat.lt_or_ge (j + 1) (M 2) with w | w
            · exact sfb_f (by rw [b0, nI_leP (by omega) (by omega)]; omega) (sfb_t rfl rfl)
            · exact sfb_t (by rw [b0, nI_leP (by omega) (by omega)]; omega) rfl
      · have hf : zbd0 (zT M) (zE M) u b j = false := by
          cases h : zbd0 (zT M) (zE M) u b j with
          | true => exact absurd h c
          | false => rfl
        have hc : zT M j < u ∨ zE M b < zE M j ∨ zE M j = zE M b ∧ b ≤ j := Classical.byContradiction (of_decide_eq_false hf)
        refine sfj_t (nI 1) (fun k => ?_) ?_
        · by_cases d : zT M j < u
          · exact sfb_t (by rw [hp _ (by omega)]; exact d) rfl
          refine sfb_f (by rw [hp _ (by omega)]; exact d) (sfc1_i (e_endOf hV hr z) (sfc1_i (e_endOf hV hr hb) ?_))
          by_cases d2 : zE M b < zE M j
          · exact sfb_t (by rw [nI_ltP (by omega) (by omega)]; exact d2) rfl
          · exact sfb_f (by rw [nI_ltP (by omega) (by omega)]; exact d2) (sfc1_i (e_endOf hV hr z) (sfc1_i (e_endOf hV hr hb) (sfb_t (by rw [show zE M j = zE M b by omega]) (sfb_f (by rw [nI_ltP (by omega) (by omega)]; omega) rfl))))
        · refine sfn_r (y := nI (j + 1)) (nI_add j 1) ?_
          exact ih (j + 1) (by omega) (by omega) (by rw [zc_f hf]; exact h0)
    · have e : j = M 2 := by omega
      subst e
      rw [if_pos h0]
      exact sfb_t (by rw [b0, nI_leP (by omega) (by omega)]; omega) rfl
theorem lw3_b (hV : VW M U) (hr : RO M on ot op os sc sd sp sw gc gp gr bc bg bs bt be ql qg fc fg fs fm) {u : Nat} {p : Int32} (hp : ∀ x, x < 2 ^ 31 → (nI x < p) = (x < u)) {r : Nat} (hr0 : 0 < r) (hr1 : r < 100) (hcall : zeb (zT M) (zE M) u (M 2) < M 2 → f_L_watched_2 sc sd bc bs bt (nI (zE M (zeb (zT M) (zE M) u (M 2)))) = some (nI (r - 1))) : ∀ m j, j ≤ M 2 → M 2 - j < m → f_L_watched_3_L4 sc sd bc bs bt p (fun y => some y) m (nI j) (nI (if zeb (zT M) (zE M) u (M 2) < j then r else 0)) = some (nI (if zeb (zT M) (zE M) u (M 2) < M 2 then r else 0)) := by
  have v2 := hV.1.2.2.1
  have b0 := hr.2.2.2.1.1
  intro m
  induction m with
  | zero => intro j hj hm; omega
  | succ m ih =>
    intro j hj hm
    rw [f_L_watched_3_L4]
    refine sfc1_i (a := bc) rfl ?_
    rcases Nat.lt_or_ge j (M 2) with z | z
    · have hE := hV.2.2.2.2.1 j z
      have hH := (zHB_of hV hr.2.2.2.1).2 j z
      refine sfb_f (by rw [b0, nI_leP (by omega) (by omega)]; omega) ?_
      refine sfc1_i (a_start hV hr z).1 ?_
      have hiff := zbd0_iff (T := zT M) (E := zE M) (u := u) (n := M 2) (b := j) (by omega) z
      -- what the inner search says
      have hin : ∀ (K : Int32 → Option Int32), sf_b (nI (zT M j) < p) (f_L_watched_3_L31 sc sd bc bs bt p (nI j) K 2000 (0 : Int32) (0 : Int32)) (f_L_watched_3_L31 sc sd bc bs bt p (nI j) K 2000 (0 : Int32) (1 : Int32)) = K (nI (if j = zeb (zT M) (zE M) u (M 2) then 1 else 0)) := fun K => by
        by_cases d : zT M j < u
        · refine sfb_t (by rw [hp _ (by omega)]; exact d) ?_
          rw [if_neg (fun x => by have := (hiff.mpr x).1; omega)]
          rw [f_L_watched_3_L31]
          refine sfc1_i (a := bc) rfl ?_
          have hz : M 2 ≠ 0 := by omega
          exact sfb_f (by rw [b0, il_0, nI_leP (by omega) (by omega)]; omega) (sfb_t rfl rfl)
        · refine sfb_f (by rw [hp _ (by omega)]; exact d) ?_
          refine (lw3_a hV hr hp z (k := K) 2000 0 (Nat.zero_le _) (by omega) rfl).trans ?_
          by_cases e : j = zeb (zT M) (zE M) u (M 2)
          · rw [if_pos e, if_pos (hiff.mpr e).2]
          · rw [if_neg e, if_neg (fun x => e (hiff.mp ⟨by omega, x⟩))]
      refine Eq.trans (sf_bj _ _) ?_
      refine (hin _).trans ?_
      by_cases e : j = zeb (zT M) (zE M) u (M 2)
      · rw [if_pos e, if_neg (by omega)]
        have hc := hcall (by omega)
        rw [← e] at hc
        refine sfj_t (nI r) (fun k => sfb_f (by decide) (sfc1_i (e_endOf hV hr z) (sfc1_i hc ?_))) (sfn_r (y := nI (j + 1)) (nI_add j 1) ?_)
        · have e1 : (1 : Int32) + nI (r - 1) = nI r := by
            rw [il_1, nI_add, show 1 + (r - 1) = r by omega]
          rw [e1, if_pos (by rw [nI_ltP (by omega) (by omega)]; exact hr0)]
        · have h := ih (j + 1) (by omega) (by omega)
          rw [if_pos (by omega)] at h
          exact h
      · rw [if_neg e]
        refine sfj_t (nI (if zeb (zT M) (zE M) u (M 2) < j then r else 0)) (fun k => sfb_t rfl rfl) (sfn_r (y := nI (j + 1)) (nI_add j 1) ?_)
        have h := ih (j + 1) (by omega) (by omega)
        by_cases w : zeb (zT M) (zE M) u (M 2) < j
        · rw [if_pos (by omega)] at h
          rw [if_pos w]
          exact h
        · rw [if_neg (by omega)] at h
          rw [if_neg w]
          exact h
    · have e : j = M 2 := by omega
      subst e
      exact sfb_t (by rw [b0, nI_leP (by omega) (by omega)]; omega) rfl
theorem lw3 (hV : VW M U) (hr : RO M on ot op os sc sd sp sw gc gp gr bc bg bs bt be ql qg fc fg fs fm) {c : Nat} (hc : c ≤ M 2) (hg : zgc (zT M) (zE M) (M 2) c) : ∀ i p, (∀ x, x < 2 ^ 31 → (nI x < p) = (x < zes (zT M) (zE M) (M 2) i)) → i ≤ c → c - i ≤ 3 → f_L_watched_3 sc sd bc bs bt p = some (nI (c - i)) := by
  intro i p hp h1 h2
  have v2 := hV.1.2.2.1
  have hH := (zHB_of hV hr.2.2.2.1).2
  have hEI : ∀ k, k < M 2 → zE M k < zI := fun k hk => by
    have := (hH k hk).2.2.2.2.1
    unfold zI
    omega
  rcases zeb_ne (T := zT M) (E := zE M) (u := zes (zT M) (zE M) (M 2) i) (j := M 2) (by omega) hEI with ⟨z1, z2⟩ | ⟨z1, z2, z3⟩
  · have e : c - i = 0 := by
      rcases Nat.lt_or_ge i c with w | w
      · exact absurd z2 (hg.1 i w)
      · omega
    rw [e]
    have h := lw3_b hV hr hp (r := 1) (by omega) (by omega) (fun h => by omega) 2000 0 (Nat.zero_le _) (by omega)
    rw [if_neg (by omega), if_neg (by omega)] at h
    exact h
  · have hlt : i < c := by
      rcases Nat.lt_or_ge i c with w | w
      · exact w
      · have e : i = c := by omega
        have h3 : zne (zT M) (zE M) (zes (zT M) (zE M) (M 2) i) (M 2) = zI := by rw [e]; exact hg.2
        omega
    have hcl : f_L_watched_2 sc sd bc bs bt (nI (zE M (zeb (zT M) (zE M) (zes (zT M) (zE M) (M 2) i) (M 2)))) = some (nI (c - i - 1)) := by
      have h4 := lw2 hV hr hc hg (i + 1) (nI (zE M (zeb (zT M) (zE M) (zes (zT M) (zE M) (M 2) i) (M 2)))) (fun x hx => by
        have h5 := (hH _ z1).2.2.2.2.1
        rw [nI_ltP hx (by omega), z2]; rfl) (by omega) (by omega)
      rw [show c - i - 1 = c - (i + 1) by omega]
      exact h4
    have h := lw3_b hV hr hp (r := c - i) (by omega) (by omega) (fun _ => hcl) 2000 0 (Nat.zero_le _) (by omega)
    rw [if_neg (by omega), if_pos z1] at h
    exact h
theorem lw4_a (hV : VW M U) (hr : RO M on ot op os sc sd sp sw gc gp gr bc bg bs bt be ql qg fc fg fs fm) {u : Nat} {p : Int32} (hp : ∀ x, x < 2 ^ 31 → (nI x < p) = (x < u)) {b : Nat} (hb : b < M 2) {k : Int32 → Option Int32} : ∀ m j, j ≤ M 2 → M 2 - j < m → zc (zbd0 (zT M) (zE M) u b) j = 0 → f_L_watched_4_L31 sc sd bc bs bt p (nI b) k m (nI j) (nI 1) = k (nI (if zc (zbd0 (zT M) (zE M) u b) (M 2) = 0 then 1 else 0)) := by
  have v2 := hV.1.2.2.1
  have b0 := hr.2.2.2.1.1
  intro m
  induction m with
  | zero => intro j hj hm; omega
  | succ m ih =>
    intro j hj hm h0
    rw [f_L_watched_4_L31]
    refine sfc1_i (a := bc) rfl ?_
    rcases Nat.lt_or_ge j (M 2) with z | z
    · have hE := hV.2.2.2.2.1 j z
      have hEb := hV.2.2.2.2.1 b hb
      have hH := (zHB_of hV hr.2.2.2.1).2 j z
      have hHb := (zHB_of hV hr.2.2.2.1).2 b hb
      refine sfb_f (by rw [b0, nI_leP (by omega) (by omega)]; omega) (sfb_f (by decide) (sfc1_i (a_start hV hr z).1 ?_))
      by_cases c : zbd0 (zT M) (zE M) u b j = true
      · have hc : ¬ (zT M j < u ∨ zE M b < zE M j ∨ zE M j = zE M b ∧ b ≤ j) := of_decide_eq_true c
        rw [if_neg (by have := zc_pos (n := M 2) j z c; omega)]
        refine sfj_t (nI 0) (fun k => ?_) ?_
        · refine sfb_f (by rw [hp _ (by omega)]; omega) (sfc1_i (e_endOf hV hr z) (sfc1_i (e_endOf hV hr hb) (sfb_f (by rw [nI_ltP (by omega) (by omega)]; omega) (sfc1_i (e_endOf hV hr z) (sfc1_i (e_endOf hV hr hb) ?_)))))
          by_cases d : zE M j = zE M b
          · exact sfb_t (by rw [d]) (sfb_t (by rw [nI_ltP (by omega) (by omega)]; omega) rfl)
          · exact sfb_f (by rw [nI_eqP (by omega) (by omega)]; exact d) rfl
        · refine sfn_r (y := nI (j + 1)) (nI_add j 1) ?_
          cases m with
          | zero => omega
          | succ m =>
            rw [f_L_watched_4_L31]
            refine sfc1_i (a := bc) rfl ?_
            rcases Nat.lt_or_ge (j + 1) (M 2) with w | w
            · exact sfb_f (by rw [b0, nI_leP (by omega) (by omega)]; omega) (sfb_t rfl rfl)
            · exact sfb_t (by rw [b0, nI_leP (by omega) (by omega)]; omega) rfl
      · have hf : zbd0 (zT M) (zE M) u b j = false := by
          cases h : zbd0 (zT M) (zE M) u b j with
          | true => exact absurd h c
          | false => rfl
        have hc : zT M j < u ∨ zE M b < zE M j ∨ zE M j = zE M b ∧ b ≤ j := Classical.byContradiction (of_decide_eq_false hf)
        refine sfj_t (nI 1) (fun k => ?_) ?_
        · by_cases d : zT M j < u
          · exact sfb_t (by rw [hp _ (by omega)]; exact d) rfl
          refine sfb_f (by rw [hp _ (by omega)]; exact d) (sfc1_i (e_endOf hV hr z) (sfc1_i (e_endOf hV hr hb) ?_))
          by_cases d2 : zE M b < zE M j
          · exact sfb_t (by rw [nI_ltP (by omega) (by omega)]; exact d2) rfl
          · exact sfb_f (by rw [nI_ltP (by omega) (by omega)]; exact d2) (sfc1_i (e_endOf hV hr z) (sfc1_i (e_endOf hV hr hb) (sfb_t (by rw [show zE M j = zE M b by omega]) (sfb_f (by rw [nI_ltP (by omega) (by omega)]; omega) rfl))))
        · refine sfn_r (y := nI (j + 1)) (nI_add j 1) ?_
          exact ih (j + 1) (by omega) (by omega) (by rw [zc_f hf]; exact h0)
    · have e : j = M 2 := by omega
      subst e
      rw [if_pos h0]
      exact sfb_t (by rw [b0, nI_leP (by omega) (by omega)]; omega) rfl
theorem lw4_b (hV : VW M U) (hr : RO M on ot op os sc sd sp sw gc gp gr bc bg bs bt be ql qg fc fg fs fm) {u : Nat} {p : Int32} (hp : ∀ x, x < 2 ^ 31 → (nI x < p) = (x < u)) {r : Nat} (hr0 : 0 < r) (hr1 : r < 100) (hcall : zeb (zT M) (zE M) u (M 2) < M 2 → f_L_watched_3 sc sd bc bs bt (nI (zE M (zeb (zT M) (zE M) u (M 2)))) = some (nI (r - 1))) : ∀ m j, j ≤ M 2 → M 2 - j < m → f_L_watched_4_L4 sc sd bc bs bt p (fun y => some y) m (nI j) (nI (if zeb (zT M) (zE M) u (M 2) < j then r else 0)) = some (nI (if zeb (zT M) (zE M) u (M 2) < M 2 then r else 0)) := by
  have v2 := hV.1.2.2.1
  have b0 := hr.2.2.2.1.1
  intro m
  induction m with
  | zero => intro j hj hm; omega
  | succ m ih =>
    intro j hj hm
    rw [f_L_watched_4_L4]
    refine sfc1_i (a := bc) rfl ?_
    rcases Nat.lt_or_ge j (M 2) with z | z
    · have hE := hV.2.2.2.2.1 j z
      have hH := (zHB_of hV hr.2.2.2.1).2 j z
      refine sfb_f (by rw [b0, nI_leP (by omega) (by omega)]; omega) ?_
      refine sfc1_i (a_start hV hr z).1 ?_
      have hiff := zbd0_iff (T := zT M) (E := zE M) (u := u) (n := M 2) (b := j) (by omega) z
      -- what the inner search says
      have hin : ∀ (K : Int32 → Option Int32), sf_b (nI (zT M j) < p) (f_L_watched_4_L31 sc sd bc bs bt p (nI j) K 2000 (0 : Int32) (0 : Int32)) (f_L_watched_4_L31 sc sd bc bs bt p (nI j) K 2000 (0 : Int32) (1 : Int32)) = K (nI (if j = zeb (zT M) (zE M) u (M 2) then 1 else 0)) := fun K => by
        by_cases d : zT M j < u
        · refine sfb_t (by rw [hp _ (by omega)]; exact d) ?_
          rw [if_neg (fun x => by have := (hiff.mpr x).1; omega)]
          rw [f_L_watched_4_L31]
          refine sfc1_i (a := bc) rfl ?_
          have hz : M 2 ≠ 0 := by omega
          exact sfb_f (by rw [b0, il_0, nI_leP (by omega) (by omega)]; omega) (sfb_t rfl rfl)
        · refine sfb_f (by rw [hp _ (by omega)]; exact d) ?_
          refine (lw4_a hV hr hp z (k := K) 2000 0 (Nat.zero_le _) (by omega) rfl).trans ?_
          by_cases e : j = zeb (zT M) (zE M) u (M 2)
          · rw [if_pos e, if_pos (hiff.mpr e).2]
          · rw [if_neg e, if_neg (fun x => e (hiff.mp ⟨by omega, x⟩))]
      refine Eq.trans (sf_bj _ _) ?_
      refine (hin _).trans ?_
      by_cases e : j = zeb (zT M) (zE M) u (M 2)
      · rw [if_pos e, if_neg (by omega)]
        have hc := hcall (by omega)
        rw [← e] at hc
        refine sfj_t (nI r) (fun k => sfb_f (by decide) (sfc1_i (e_endOf hV hr z) (sfc1_i hc ?_))) (sfn_r (y := nI (j + 1)) (nI_add j 1) ?_)
        · have e1 : (1 : Int32) + nI (r - 1) = nI r := by
            rw [il_1, nI_add, show 1 + (r - 1) = r by omega]
          rw [e1, if_pos (by rw [nI_ltP (by omega) (by omega)]; exact hr0)]
        · have h := ih (j + 1) (by omega) (by omega)
          rw [if_pos (by omega)] at h
          exact h
      · rw [if_neg e]
        refine sfj_t (nI (if zeb (zT M) (zE M) u (M 2) < j then r else 0)) (fun k => sfb_t rfl rfl) (sfn_r (y := nI (j + 1)) (nI_add j 1) ?_)
        have h := ih (j + 1) (by omega) (by omega)
        by_cases w : zeb (zT M) (zE M) u (M 2) < j
        · rw [if_pos (by omega)] at h
          rw [if_pos w]
          exact h
        · rw [if_neg (by omega)] at h
          rw [if_neg w]
          exact h
    · have e : j = M 2 := by omega
      subst e
      exact sfb_t (by rw [b0, nI_leP (by omega) (by omega)]; omega) rfl
theorem lw4 (hV : VW M U) (hr : RO M on ot op os sc sd sp sw gc gp gr bc bg bs bt be ql qg fc fg fs fm) {c : Nat} (hc : c ≤ M 2) (hg : zgc (zT M) (zE M) (M 2) c) : ∀ i p, (∀ x, x < 2 ^ 31 → (nI x < p) = (x < zes (zT M) (zE M) (M 2) i)) → i ≤ c → c - i ≤ 4 → f_L_watched_4 sc sd bc bs bt p = some (nI (c - i)) := by
  intro i p hp h1 h2
  have v2 := hV.1.2.2.1
  have hH := (zHB_of hV hr.2.2.2.1).2
  have hEI : ∀ k, k < M 2 → zE M k < zI := fun k hk => by
    have := (hH k hk).2.2.2.2.1
    unfold zI
    omega
  rcases zeb_ne (T := zT M) (E := zE M) (u := zes (zT M) (zE M) (M 2) i) (j := M 2) (by omega) hEI with ⟨z1, z2⟩ | ⟨z1, z2, z3⟩
  · have e : c - i = 0 := by
      rcases Nat.lt_or_ge i c with w | w
      · exact absurd z2 (hg.1 i w)
      · omega
    rw [e]
    have h := lw4_b hV hr hp (r := 1) (by omega) (by omega) (fun h => by omega) 2000 0 (Nat.zero_le _) (by omega)
    rw [if_neg (by omega), if_neg (by omega)] at h
    exact h
  · have hlt : i < c := by
      rcases Nat.lt_or_ge i c with w | w
      · exact w
      · have e : i = c := by omega
        have h3 : zne (zT M) (zE M) (zes (zT M) (zE M) (M 2) i) (M 2) = zI := by rw [e]; exact hg.2
        omega
    have hcl : f_L_watched_3 sc sd bc bs bt (nI (zE M (zeb (zT M) (zE M) (zes (zT M) (zE M) (M 2) i) (M 2)))) = some (nI (c - i - 1)) := by
      have h4 := lw3 hV hr hc hg (i + 1) (nI (zE M (zeb (zT M) (zE M) (zes (zT M) (zE M) (M 2) i) (M 2)))) (fun x hx => by
        have h5 := (hH _ z1).2.2.2.2.1
        rw [nI_ltP hx (by omega), z2]; rfl) (by omega) (by omega)
      rw [show c - i - 1 = c - (i + 1) by omega]
      exact h4
    have h := lw4_b hV hr hp (r := c - i) (by omega) (by omega) (fun _ => hcl) 2000 0 (Nat.zero_le _) (by omega)
    rw [if_neg (by omega), if_pos z1] at h
    exact h
theorem lw5_a (hV : VW M U) (hr : RO M on ot op os sc sd sp sw gc gp gr bc bg bs bt be ql qg fc fg fs fm) {u : Nat} {p : Int32} (hp : ∀ x, x < 2 ^ 31 → (nI x < p) = (x < u)) {b : Nat} (hb : b < M 2) {k : Int32 → Option Int32} : ∀ m j, j ≤ M 2 → M 2 - j < m → zc (zbd0 (zT M) (zE M) u b) j = 0 → f_L_watched_5_L31 sc sd bc bs bt p (nI b) k m (nI j) (nI 1) = k (nI (if zc (zbd0 (zT M) (zE M) u b) (M 2) = 0 then 1 else 0)) := by
  have v2 := hV.1.2.2.1
  have b0 := hr.2.2.2.1.1
  intro m
  induction m with
  | zero => intro j hj hm; omega
  | succ m ih =>
    intro j hj hm h0
    rw [f_L_watched_5_L31]
    refine sfc1_i (a := bc) rfl ?_
    rcases Nat.lt_or_ge j (M 2) with z | z
    · have hE := hV.2.2.2.2.1 j z
      have hEb := hV.2.2.2.2.1 b hb
      have hH := (zHB_of hV hr.2.2.2.1).2 j z
      have hHb := (zHB_of hV hr.2.2.2.1).2 b hb
      refine sfb_f (by rw [b0, nI_leP (by omega) (by omega)]; omega) (sfb_f (by decide) (sfc1_i (a_start hV hr z).1 ?_))
      by_cases c : zbd0 (zT M) (zE M) u b j = true
      · have hc : ¬ (zT M j < u ∨ zE M b < zE M j ∨ zE M j = zE M b ∧ b ≤ j) := of_decide_eq_true c
        rw [if_neg (by have := zc_pos (n := M 2) j z c; omega)]
        refine sfj_t (nI 0) (fun k => ?_) ?_
        · refine sfb_f (by rw [hp _ (by omega)]; omega) (sfc1_i (e_endOf hV hr z) (sfc1_i (e_endOf hV hr hb) (sfb_f (by rw [nI_ltP (by omega) (by omega)]; omega) (sfc1_i (e_endOf hV hr z) (sfc1_i (e_endOf hV hr hb) ?_)))))
          by_cases d : zE M j = zE M b
          · exact sfb_t (by rw [d]) (sfb_t (by rw [nI_ltP (by omega) (by omega)]; omega) rfl)
          · exact sfb_f (by rw [nI_eqP (by omega) (by omega)]; exact d) rfl
        · refine sfn_r (y := nI (j + 1)) (nI_add j 1) ?_
          cases m with
          | zero => omega
          | succ m =>
            rw [f_L_watched_5_L31]
            refine sfc1_i (a := bc) rfl ?_
            rcases Nat.lt_or_ge (j + 1) (M 2) with w | w
            · exact sfb_f (by rw [b0, nI_leP (by omega) (by omega)]; omega) (sfb_t rfl rfl)
            · exact sfb_t (by rw [b0, nI_leP (by omega) (by omega)]; omega) rfl
      · have hf : zbd0 (zT M) (zE M) u b j = false := by
          cases h : zbd0 (zT M) (zE M) u b j with
          | true => exact absurd h c
          | false => rfl
        have hc : zT M j < u ∨ zE M b < zE M j ∨ zE M j = zE M b ∧ b ≤ j := Classical.byContradiction (of_decide_eq_false hf)
        refine sfj_t (nI 1) (fun k => ?_) ?_
        · by_cases d : zT M j < u
          · exact sfb_t (by rw [hp _ (by omega)]; exact d) rfl
          refine sfb_f (by rw [hp _ (by omega)]; exact d) (sfc1_i (e_endOf hV hr z) (sfc1_i (e_endOf hV hr hb) ?_))
          by_cases d2 : zE M b < zE M j
          · exact sfb_t (by rw [nI_ltP (by omega) (by omega)]; exact d2) rfl
          · exact sfb_f (by rw [nI_ltP (by omega) (by omega)]; exact d2) (sfc1_i (e_endOf hV hr z) (sfc1_i (e_endOf hV hr hb) (sfb_t (by rw [show zE M j = zE M b by omega]) (sfb_f (by rw [nI_ltP (by omega) (by omega)]; omega) rfl))))
        · refine sfn_r (y := nI (j + 1)) (nI_add j 1) ?_
          exact ih (j + 1) (by omega) (by omega) (by rw [zc_f hf]; exact h0)
    · have e : j = M 2 := by omega
      subst e
      rw [if_pos h0]
      exact sfb_t (by rw [b0, nI_leP (by omega) (by omega)]; omega) rfl
theorem lw5_b (hV : VW M U) (hr : RO M on ot op os sc sd sp sw gc gp gr bc bg bs bt be ql qg fc fg fs fm) {u : Nat} {p : Int32} (hp : ∀ x, x < 2 ^ 31 → (nI x < p) = (x < u)) {r : Nat} (hr0 : 0 < r) (hr1 : r < 100) (hcall : zeb (zT M) (zE M) u (M 2) < M 2 → f_L_watched_4 sc sd bc bs bt (nI (zE M (zeb (zT M) (zE M) u (M 2)))) = some (nI (r - 1))) : ∀ m j, j ≤ M 2 → M 2 - j < m → f_L_watched_5_L4 sc sd bc bs bt p (fun y => some y) m (nI j) (nI (if zeb (zT M) (zE M) u (M 2) < j then r else 0)) = some (nI (if zeb (zT M) (zE M) u (M 2) < M 2 then r else 0)) := by
  have v2 := hV.1.2.2.1
  have b0 := hr.2.2.2.1.1
  intro m
  induction m with
  | zero => intro j hj hm; omega
  | succ m ih =>
    intro j hj hm
    rw [f_L_watched_5_L4]
    refine sfc1_i (a := bc) rfl ?_
    rcases Nat.lt_or_ge j (M 2) with z | z
    · have hE := hV.2.2.2.2.1 j z
      have hH := (zHB_of hV hr.2.2.2.1).2 j z
      refine sfb_f (by rw [b0, nI_leP (by omega) (by omega)]; omega) ?_
      refine sfc1_i (a_start hV hr z).1 ?_
      have hiff := zbd0_iff (T := zT M) (E := zE M) (u := u) (n := M 2) (b := j) (by omega) z
      -- what the inner search says
      have hin : ∀ (K : Int32 → Option Int32), sf_b (nI (zT M j) < p) (f_L_watched_5_L31 sc sd bc bs bt p (nI j) K 2000 (0 : Int32) (0 : Int32)) (f_L_watched_5_L31 sc sd bc bs bt p (nI j) K 2000 (0 : Int32) (1 : Int32)) = K (nI (if j = zeb (zT M) (zE M) u (M 2) then 1 else 0)) := fun K => by
        by_cases d : zT M j < u
        · refine sfb_t (by rw [hp _ (by omega)]; exact d) ?_
          rw [if_neg (fun x => by have := (hiff.mpr x).1; omega)]
          rw [f_L_watched_5_L31]
          refine sfc1_i (a := bc) rfl ?_
          have hz : M 2 ≠ 0 := by omega
          exact sfb_f (by rw [b0, il_0, nI_leP (by omega) (by omega)]; omega) (sfb_t rfl rfl)
        · refine sfb_f (by rw [hp _ (by omega)]; exact d) ?_
          refine (lw5_a hV hr hp z (k := K) 2000 0 (Nat.zero_le _) (by omega) rfl).trans ?_
          by_cases e : j = zeb (zT M) (zE M) u (M 2)
          · rw [if_pos e, if_pos (hiff.mpr e).2]
          · rw [if_neg e, if_neg (fun x => e (hiff.mp ⟨by omega, x⟩))]
      refine Eq.trans (sf_bj _ _) ?_
      refine (hin _).trans ?_
      by_cases e : j = zeb (zT M) (zE M) u (M 2)
      · rw [if_pos e, if_neg (by omega)]
        have hc := hcall (by omega)
        rw [← e] at hc
        refine sfj_t (nI r) (fun k => sfb_f (by decide) (sfc1_i (e_endOf hV hr z) (sfc1_i hc ?_))) (sfn_r (y := nI (j + 1)) (nI_add j 1) ?_)
        · have e1 : (1 : Int32) + nI (r - 1) = nI r := by
            rw [il_1, nI_add, show 1 + (r - 1) = r by omega]
          rw [e1, if_pos (by rw [nI_ltP (by omega) (by omega)]; exact hr0)]
        · have h := ih (j + 1) (by omega) (by omega)
          rw [if_pos (by omega)] at h
          exact h
      · rw [if_neg e]
        refine sfj_t (nI (if zeb (zT M) (zE M) u (M 2) < j then r else 0)) (fun k => sfb_t rfl rfl) (sfn_r (y := nI (j + 1)) (nI_add j 1) ?_)
        have h := ih (j + 1) (by omega) (by omega)
        by_cases w : zeb (zT M) (zE M) u (M 2) < j
        · rw [if_pos (by omega)] at h
          rw [if_pos w]
          exact h
        · rw [if_neg (by omega)] at h
          rw [if_neg w]
          exact h
    · have e : j = M 2 := by omega
      subst e
      exact sfb_t (by rw [b0, nI_leP (by omega) (by omega)]; omega) rfl
theorem lw5 (hV : VW M U) (hr : RO M on ot op os sc sd sp sw gc gp gr bc bg bs bt be ql qg fc fg fs fm) {c : Nat} (hc : c ≤ M 2) (hg : zgc (zT M) (zE M) (M 2) c) : ∀ i p, (∀ x, x < 2 ^ 31 → (nI x < p) = (x < zes (zT M) (zE M) (M 2) i)) → i ≤ c → c - i ≤ 5 → f_L_watched_5 sc sd bc bs bt p = some (nI (c - i)) := by
  intro i p hp h1 h2
  have v2 := hV.1.2.2.1
  have hH := (zHB_of hV hr.2.2.2.1).2
  have hEI : ∀ k, k < M 2 → zE M k < zI := fun k hk => by
    have := (hH k hk).2.2.2.2.1
    unfold zI
    omega
  rcases zeb_ne (T := zT M) (E := zE M) (u := zes (zT M) (zE M) (M 2) i) (j := M 2) (by omega) hEI with ⟨z1, z2⟩ | ⟨z1, z2, z3⟩
  · have e : c - i = 0 := by
      rcases Nat.lt_or_ge i c with w | w
      · exact absurd z2 (hg.1 i w)
      · omega
    rw [e]
    have h := lw5_b hV hr hp (r := 1) (by omega) (by omega) (fun h => by omega) 2000 0 (Nat.zero_le _) (by omega)
    rw [if_neg (by omega), if_neg (by omega)] at h
    exact h
  · have hlt : i < c := by
      rcases Nat.lt_or_ge i c with w | w
      · exact w
      · have e : i = c := by omega
        have h3 : zne (zT M) (zE M) (zes (zT M) (zE M) (M 2) i) (M 2) = zI := by rw [e]; exact hg.2
        omega
    have hcl : f_L_watched_4 sc sd bc bs bt (nI (zE M (zeb (zT M) (zE M) (zes (zT M) (zE M) (M 2) i) (M 2)))) = some (nI (c - i - 1)) := by
      have h4 := lw4 hV hr hc hg (i + 1) (nI (zE M (zeb (zT M) (zE M) (zes (zT M) (zE M) (M 2) i) (M 2)))) (fun x hx => by
        have h5 := (hH _ z1).2.2.2.2.1
        rw [nI_ltP hx (by omega), z2]; rfl) (by omega) (by omega)
      rw [show c - i - 1 = c - (i + 1) by omega]
      exact h4
    have h := lw5_b hV hr hp (r := c - i) (by omega) (by omega) (fun _ => hcl) 2000 0 (Nat.zero_le _) (by omega)
    rw [if_neg (by omega), if_pos z1] at h
    exact h
theorem lw6_a (hV : VW M U) (hr : RO M on ot op os sc sd sp sw gc gp gr bc bg bs bt be ql qg fc fg fs fm) {u : Nat} {p : Int32} (hp : ∀ x, x < 2 ^ 31 → (nI x < p) = (x < u)) {b : Nat} (hb : b < M 2) {k : Int32 → Option Int32} : ∀ m j, j ≤ M 2 → M 2 - j < m → zc (zbd0 (zT M) (zE M) u b) j = 0 → f_L_watched_6_L31 sc sd bc bs bt p (nI b) k m (nI j) (nI 1) = k (nI (if zc (zbd0 (zT M) (zE M) u b) (M 2) = 0 then 1 else 0)) := by
  have v2 := hV.1.2.2.1
  have b0 := hr.2.2.2.1.1
  intro m
  induction m with
  | zero => intro j hj hm; omega
  | succ m ih =>
    intro j hj hm h0
    rw [f_L_watched_6_L31]
    refine sfc1_i (a := bc) rfl ?_
    rcases Nat.lt_or_ge j (M 2) with z | z
    · have hE := hV.2.2.2.2.1 j z
      have hEb := hV.2.2.2.2.1 b hb
      have hH := (zHB_of hV hr.2.2.2.1).2 j z
      have hHb := (zHB_of hV hr.2.2.2.1).2 b hb
      refine sfb_f (by rw [b0, nI_leP (by omega) (by omega)]; omega) (sfb_f (by decide) (sfc1_i (a_start hV hr z).1 ?_))
      by_cases c : zbd0 (zT M) (zE M) u b j = true
      · have hc : ¬ (zT M j < u ∨ zE M b < zE M j ∨ zE M j = zE M b ∧ b ≤ j) := of_decide_eq_true c
        rw [if_neg (by have := zc_pos (n := M 2) j z c; omega)]
        refine sfj_t (nI 0) (fun k => ?_) ?_
        · refine sfb_f (by rw [hp _ (by omega)]; omega) (sfc1_i (e_endOf hV hr z) (sfc1_i (e_endOf hV hr hb) (sfb_f (by rw [nI_ltP (by omega) (by omega)]; omega) (sfc1_i (e_endOf hV hr z) (sfc1_i (e_endOf hV hr hb) ?_)))))
          by_cases d : zE M j = zE M b
          · exact sfb_t (by rw [d]) (sfb_t (by rw [nI_ltP (by omega) (by omega)]; omega) rfl)
          · exact sfb_f (by rw [nI_eqP (by omega) (by omega)]; exact d) rfl
        · refine sfn_r (y := nI (j + 1)) (nI_add j 1) ?_
          cases m with
          | zero => omega
          | succ m =>
            rw [f_L_watched_6_L31]
            refine sfc1_i (a := bc) rfl ?_
            rcases Nat.lt_or_ge (j + 1) (M 2) with w | w
            · exact sfb_f (by rw [b0, nI_leP (by omega) (by omega)]; omega) (sfb_t rfl rfl)
            · exact sfb_t (by rw [b0, nI_leP (by omega) (by omega)]; omega) rfl
      · have hf : zbd0 (zT M) (zE M) u b j = false := by
          cases h : zbd0 (zT M) (zE M) u b j with
          | true => exact absurd h c
          | false => rfl
        have hc : zT M j < u ∨ zE M b < zE M j ∨ zE M j = zE M b ∧ b ≤ j := Classical.byContradiction (of_decide_eq_false hf)
        refine sfj_t (nI 1) (fun k => ?_) ?_
        · by_cases d : zT M j < u
          · exact sfb_t (by rw [hp _ (by omega)]; exact d) rfl
          refine sfb_f (by rw [hp _ (by omega)]; exact d) (sfc1_i (e_endOf hV hr z) (sfc1_i (e_endOf hV hr hb) ?_))
          by_cases d2 : zE M b < zE M j
          · exact sfb_t (by rw [nI_ltP (by omega) (by omega)]; exact d2) rfl
          · exact sfb_f (by rw [nI_ltP (by omega) (by omega)]; exact d2) (sfc1_i (e_endOf hV hr z) (sfc1_i (e_endOf hV hr hb) (sfb_t (by rw [show zE M j = zE M b by omega]) (sfb_f (by rw [nI_ltP (by omega) (by omega)]; omega) rfl))))
        · refine sfn_r (y := nI (j + 1)) (nI_add j 1) ?_
          exact ih (j + 1) (by omega) (by omega) (by rw [zc_f hf]; exact h0)
    · have e : j = M 2 := by omega
      subst e
      rw [if_pos h0]
      exact sfb_t (by rw [b0, nI_leP (by omega) (by omega)]; omega) rfl
theorem lw6_b (hV : VW M U) (hr : RO M on ot op os sc sd sp sw gc gp gr bc bg bs bt be ql qg fc fg fs fm) {u : Nat} {p : Int32} (hp : ∀ x, x < 2 ^ 31 → (nI x < p) = (x < u)) {r : Nat} (hr0 : 0 < r) (hr1 : r < 100) (hcall : zeb (zT M) (zE M) u (M 2) < M 2 → f_L_watched_5 sc sd bc bs bt (nI (zE M (zeb (zT M) (zE M) u (M 2)))) = some (nI (r - 1))) : ∀ m j, j ≤ M 2 → M 2 - j < m → f_L_watched_6_L4 sc sd bc bs bt p (fun y => some y) m (nI j) (nI (if zeb (zT M) (zE M) u (M 2) < j then r else 0)) = some (nI (if zeb (zT M) (zE M) u (M 2) < M 2 then r else 0)) := by
  have v2 := hV.1.2.2.1
  have b0 := hr.2.2.2.1.1
  intro m
  induction m with
  | zero => intro j hj hm; omega
  | succ m ih =>
    intro j hj hm
    rw [f_L_watched_6_L4]
    refine sfc1_i (a := bc) rfl ?_
    rcases Nat.lt_or_ge j (M 2) with z | z
    · have hE := hV.2.2.2.2.1 j z
      have hH := (zHB_of hV hr.2.2.2.1).2 j z
      refine sfb_f (by rw [b0, nI_leP (by omega) (by omega)]; omega) ?_
      refine sfc1_i (a_start hV hr z).1 ?_
      have hiff := zbd0_iff (T := zT M) (E := zE M) (u := u) (n := M 2) (b := j) (by omega) z
      -- what the inner search says
      have hin : ∀ (K : Int32 → Option Int32), sf_b (nI (zT M j) < p) (f_L_watched_6_L31 sc sd bc bs bt p (nI j) K 2000 (0 : Int32) (0 : Int32)) (f_L_watched_6_L31 sc sd bc bs bt p (nI j) K 2000 (0 : Int32) (1 : Int32)) = K (nI (if j = zeb (zT M) (zE M) u (M 2) then 1 else 0)) := fun K => by
        by_cases d : zT M j < u
        · refine sfb_t (by rw [hp _ (by omega)]; exact d) ?_
          rw [if_neg (fun x => by have := (hiff.mpr x).1; omega)]
          rw [f_L_watched_6_L31]
          refine sfc1_i (a := bc) rfl ?_
          have hz : M 2 ≠ 0 := by omega
          exact sfb_f (by rw [b0, il_0, nI_leP (by omega) (by omega)]; omega) (sfb_t rfl rfl)
        · refine sfb_f (by rw [hp _ (by omega)]; exact d) ?_
          refine (lw6_a hV hr hp z (k := K) 2000 0 (Nat.zero_le _) (by omega) rfl).trans ?_
          by_cases e : j = zeb (zT M) (zE M) u (M 2)
          · rw [if_pos e, if_pos (hiff.mpr e).2]
          · rw [if_neg e, if_neg (fun x => e (hiff.mp ⟨by omega, x⟩))]
      refine Eq.trans (sf_bj _ _) ?_
      refine (hin _).trans ?_
      by_cases e : j = zeb (zT M) (zE M) u (M 2)
      · rw [if_pos e, if_neg (by omega)]
        have hc := hcall (by omega)
        rw [← e] at hc
        refine sfj_t (nI r) (fun k => sfb_f (by decide) (sfc1_i (e_endOf hV hr z) (sfc1_i hc ?_))) (sfn_r (y := nI (j + 1)) (nI_add j 1) ?_)
        · have e1 : (1 : Int32) + nI (r - 1) = nI r := by
            rw [il_1, nI_add, show 1 + (r - 1) = r by omega]
          rw [e1, if_pos (by rw [nI_ltP (by omega) (by omega)]; exact hr0)]
        · have h := ih (j + 1) (by omega) (by omega)
          rw [if_pos (by omega)] at h
          exact h
      · rw [if_neg e]
        refine sfj_t (nI (if zeb (zT M) (zE M) u (M 2) < j then r else 0)) (fun k => sfb_t rfl rfl) (sfn_r (y := nI (j + 1)) (nI_add j 1) ?_)
        have h := ih (j + 1) (by omega) (by omega)
        by_cases w : zeb (zT M) (zE M) u (M 2) < j
        · rw [if_pos (by omega)] at h
          rw [if_pos w]
          exact h
        · rw [if_neg (by omega)] at h
          rw [if_neg w]
          exact h
    · have e : j = M 2 := by omega
      subst e
      exact sfb_t (by rw [b0, nI_leP (by omega) (by omega)]; omega) rfl
theorem lw6 (hV : VW M U) (hr : RO M on ot op os sc sd sp sw gc gp gr bc bg bs bt be ql qg fc fg fs fm) {c : Nat} (hc : c ≤ M 2) (hg : zgc (zT M) (zE M) (M 2) c) : ∀ i p, (∀ x, x < 2 ^ 31 → (nI x < p) = (x < zes (zT M) (zE M) (M 2) i)) → i ≤ c → c - i ≤ 6 → f_L_watched_6 sc sd bc bs bt p = some (nI (c - i)) := by
  intro i p hp h1 h2
  have v2 := hV.1.2.2.1
  have hH := (zHB_of hV hr.2.2.2.1).2
  have hEI : ∀ k, k < M 2 → zE M k < zI := fun k hk => by
    have := (hH k hk).2.2.2.2.1
    unfold zI
    omega
  rcases zeb_ne (T := zT M) (E := zE M) (u := zes (zT M) (zE M) (M 2) i) (j := M 2) (by omega) hEI with ⟨z1, z2⟩ | ⟨z1, z2, z3⟩
  · have e : c - i = 0 := by
      rcases Nat.lt_or_ge i c with w | w
      · exact absurd z2 (hg.1 i w)
      · omega
    rw [e]
    have h := lw6_b hV hr hp (r := 1) (by omega) (by omega) (fun h => by omega) 2000 0 (Nat.zero_le _) (by omega)
    rw [if_neg (by omega), if_neg (by omega)] at h
    exact h
  · have hlt : i < c := by
      rcases Nat.lt_or_ge i c with w | w
      · exact w
      · have e : i = c := by omega
        have h3 : zne (zT M) (zE M) (zes (zT M) (zE M) (M 2) i) (M 2) = zI := by rw [e]; exact hg.2
        omega
    have hcl : f_L_watched_5 sc sd bc bs bt (nI (zE M (zeb (zT M) (zE M) (zes (zT M) (zE M) (M 2) i) (M 2)))) = some (nI (c - i - 1)) := by
      have h4 := lw5 hV hr hc hg (i + 1) (nI (zE M (zeb (zT M) (zE M) (zes (zT M) (zE M) (M 2) i) (M 2)))) (fun x hx => by
        have h5 := (hH _ z1).2.2.2.2.1
        rw [nI_ltP hx (by omega), z2]; rfl) (by omega) (by omega)
      rw [show c - i - 1 = c - (i + 1) by omega]
      exact h4
    have h := lw6_b hV hr hp (r := c - i) (by omega) (by omega) (fun _ => hcl) 2000 0 (Nat.zero_le _) (by omega)
    rw [if_neg (by omega), if_pos z1] at h
    exact h
theorem lw7_a (hV : VW M U) (hr : RO M on ot op os sc sd sp sw gc gp gr bc bg bs bt be ql qg fc fg fs fm) {u : Nat} {p : Int32} (hp : ∀ x, x < 2 ^ 31 → (nI x < p) = (x < u)) {b : Nat} (hb : b < M 2) {k : Int32 → Option Int32} : ∀ m j, j ≤ M 2 → M 2 - j < m → zc (zbd0 (zT M) (zE M) u b) j = 0 → f_L_watched_7_L31 sc sd bc bs bt p (nI b) k m (nI j) (nI 1) = k (nI (if zc (zbd0 (zT M) (zE M) u b) (M 2) = 0 then 1 else 0)) := by
  have v2 := hV.1.2.2.1
  have b0 := hr.2.2.2.1.1
  intro m
  induction m with
  | zero => intro j hj hm; omega
  | succ m ih =>
    intro j hj hm h0
    rw [f_L_watched_7_L31]
    refine sfc1_i (a := bc) rfl ?_
    rcases Nat.lt_or_ge j (M 2) with z | z
    · have hE := hV.2.2.2.2.1 j z
      have hEb := hV.2.2.2.2.1 b hb
      have hH := (zHB_of hV hr.2.2.2.1).2 j z
      have hHb := (zHB_of hV hr.2.2.2.1).2 b hb
      refine sfb_f (by rw [b0, nI_leP (by omega) (by omega)]; omega) (sfb_f (by decide) (sfc1_i (a_start hV hr z).1 ?_))
      by_cases c : zbd0 (zT M) (zE M) u b j = true
      · have hc : ¬ (zT M j < u ∨ zE M b < zE M j ∨ zE M j = zE M b ∧ b ≤ j) := of_decide_eq_true c
        rw [if_neg (by have := zc_pos (n := M 2) j z c; omega)]
        refine sfj_t (nI 0) (fun k => ?_) ?_
        · refine sfb_f (by rw [hp _ (by omega)]; omega) (sfc1_i (e_endOf hV hr z) (sfc1_i (e_endOf hV hr hb) (sfb_f (by rw [nI_ltP (by omega) (by omega)]; omega) (sfc1_i (e_endOf hV hr z) (sfc1_i (e_endOf hV hr hb) ?_)))))
          by_cases d : zE M j = zE M b
          · exact sfb_t (by rw [d]) (sfb_t (by rw [nI_ltP (by omega) (by omega)]; omega) rfl)
          · exact sfb_f (by rw [nI_eqP (by omega) (by omega)]; exact d) rfl
        · refine sfn_r (y := nI (j + 1)) (nI_add j 1) ?_
          cases m with
          | zero => omega
          | succ m =>
            rw [f_L_watched_7_L31]
            refine sfc1_i (a := bc) rfl ?_
            rcases Nat.lt_or_ge (j + 1) (M 2) with w | w
            · exact sfb_f (by rw [b0, nI_leP (by omega) (by omega)]; omega) (sfb_t rfl rfl)
            · exact sfb_t (by rw [b0, nI_leP (by omega) (by omega)]; omega) rfl
      · have hf : zbd0 (zT M) (zE M) u b j = false := by
          cases h : zbd0 (zT M) (zE M) u b j with
          | true => exact absurd h c
          | false => rfl
        have hc : zT M j < u ∨ zE M b < zE M j ∨ zE M j = zE M b ∧ b ≤ j := Classical.byContradiction (of_decide_eq_false hf)
        refine sfj_t (nI 1) (fun k => ?_) ?_
        · by_cases d : zT M j < u
          · exact sfb_t (by rw [hp _ (by omega)]; exact d) rfl
          refine sfb_f (by rw [hp _ (by omega)]; exact d) (sfc1_i (e_endOf hV hr z) (sfc1_i (e_endOf hV hr hb) ?_))
          by_cases d2 : zE M b < zE M j
          · exact sfb_t (by rw [nI_ltP (by omega) (by omega)]; exact d2) rfl
          · exact sfb_f (by rw [nI_ltP (by omega) (by omega)]; exact d2) (sfc1_i (e_endOf hV hr z) (sfc1_i (e_endOf hV hr hb) (sfb_t (by rw [show zE M j = zE M b by omega]) (sfb_f (by rw [nI_ltP (by omega) (by omega)]; omega) rfl))))
        · refine sfn_r (y := nI (j + 1)) (nI_add j 1) ?_
          exact ih (j + 1) (by omega) (by omega) (by rw [zc_f hf]; exact h0)
    · have e : j = M 2 := by omega
      subst e
      rw [if_pos h0]
      exact sfb_t (by rw [b0, nI_leP (by omega) (by omega)]; omega) rfl
theorem lw7_b (hV : VW M U) (hr : RO M on ot op os sc sd sp sw gc gp gr bc bg bs bt be ql qg fc fg fs fm) {u : Nat} {p : Int32} (hp : ∀ x, x < 2 ^ 31 → (nI x < p) = (x < u)) {r : Nat} (hr0 : 0 < r) (hr1 : r < 100) (hcall : zeb (zT M) (zE M) u (M 2) < M 2 → f_L_watched_6 sc sd bc bs bt (nI (zE M (zeb (zT M) (zE M) u (M 2)))) = some (nI (r - 1))) : ∀ m j, j ≤ M 2 → M 2 - j < m → f_L_watched_7_L4 sc sd bc bs bt p (fun y => some y) m (nI j) (nI (if zeb (zT M) (zE M) u (M 2) < j then r else 0)) = some (nI (if zeb (zT M) (zE M) u (M 2) < M 2 then r else 0)) := by
  have v2 := hV.1.2.2.1
  have b0 := hr.2.2.2.1.1
  intro m
  induction m with
  | zero => intro j hj hm; omega
  | succ m ih =>
    intro j hj hm
    rw [f_L_watched_7_L4]
    refine sfc1_i (a := bc) rfl ?_
    rcases Nat.lt_or_ge j (M 2) with z | z
    · have hE := hV.2.2.2.2.1 j z
      have hH := (zHB_of hV hr.2.2.2.1).2 j z
      refine sfb_f (by rw [b0, nI_leP (by omega) (by omega)]; omega) ?_
      refine sfc1_i (a_start hV hr z).1 ?_
      have hiff := zbd0_iff (T := zT M) (E := zE M) (u := u) (n := M 2) (b := j) (by omega) z
      -- what the inner search says
      have hin : ∀ (K : Int32 → Option Int32), sf_b (nI (zT M j) < p) (f_L_watched_7_L31 sc sd bc bs bt p (nI j) K 2000 (0 : Int32) (0 : Int32)) (f_L_watched_7_L31 sc sd bc bs bt p (nI j) K 2000 (0 : Int32) (1 : Int32)) = K (nI (if j = zeb (zT M) (zE M) u (M 2) then 1 else 0)) := fun K => by
        by_cases d : zT M j < u
        · refine sfb_t (by rw [hp _ (by omega)]; exact d) ?_
          rw [if_neg (fun x => by have := (hiff.mpr x).1; omega)]
          rw [f_L_watched_7_L31]
          refine sfc1_i (a := bc) rfl ?_
          have hz : M 2 ≠ 0 := by omega
          exact sfb_f (by rw [b0, il_0, nI_leP (by omega) (by omega)]; omega) (sfb_t rfl rfl)
        · refine sfb_f (by rw [hp _ (by omega)]; exact d) ?_
          refine (lw7_a hV hr hp z (k := K) 2000 0 (Nat.zero_le _) (by omega) rfl).trans ?_
          by_cases e : j = zeb (zT M) (zE M) u (M 2)
          · rw [if_pos e, if_pos (hiff.mpr e).2]
          · rw [if_neg e, if_neg (fun x => e (hiff.mp ⟨by omega, x⟩))]
      refine Eq.trans (sf_bj _ _) ?_
      refine (hin _).trans ?_
      by_cases e : j = zeb (zT M) (zE M) u (M 2)
      · rw [if_pos e, if_neg (by omega)]
        have hc := hcall (by omega)
        rw [← e] at hc
        refine sfj_t (nI r) (fun k => sfb_f (by decide) (sfc1_i (e_endOf hV hr z) (sfc1_i hc ?_))) (sfn_r (y := nI (j + 1)) (nI_add j 1) ?_)
        · have e1 : (1 : Int32) + nI (r - 1) = nI r := by
            rw [il_1, nI_add, show 1 + (r - 1) = r by omega]
          rw [e1, if_pos (by rw [nI_ltP (by omega) (by omega)]; exact hr0)]
        · have h := ih (j + 1) (by omega) (by omega)
          rw [if_pos (by omega)] at h
          exact h
      · rw [if_neg e]
        refine sfj_t (nI (if zeb (zT M) (zE M) u (M 2) < j then r else 0)) (fun k => sfb_t rfl rfl) (sfn_r (y := nI (j + 1)) (nI_add j 1) ?_)
        have h := ih (j + 1) (by omega) (by omega)
        by_cases w : zeb (zT M) (zE M) u (M 2) < j
        · rw [if_pos (by omega)] at h
          rw [if_pos w]
          exact h
        · rw [if_neg (by omega)] at h
          rw [if_neg w]
          exact h
    · have e : j = M 2 := by omega
      subst e
      exact sfb_t (by rw [b0, nI_leP (by omega) (by omega)]; omega) rfl
theorem lw7 (hV : VW M U) (hr : RO M on ot op os sc sd sp sw gc gp gr bc bg bs bt be ql qg fc fg fs fm) {c : Nat} (hc : c ≤ M 2) (hg : zgc (zT M) (zE M) (M 2) c) : ∀ i p, (∀ x, x < 2 ^ 31 → (nI x < p) = (x < zes (zT M) (zE M) (M 2) i)) → i ≤ c → c - i ≤ 7 → f_L_watched_7 sc sd bc bs bt p = some (nI (c - i)) := by
  intro i p hp h1 h2
  have v2 := hV.1.2.2.1
  have hH := (zHB_of hV hr.2.2.2.1).2
  have hEI : ∀ k, k < M 2 → zE M k < zI := fun k hk => by
    have := (hH k hk).2.2.2.2.1
    unfold zI
    omega
  rcases zeb_ne (T := zT M) (E := zE M) (u := zes (zT M) (zE M) (M 2) i) (j := M 2) (by omega) hEI with ⟨z1, z2⟩ | ⟨z1, z2, z3⟩
  · have e : c - i = 0 := by
      rcases Nat.lt_or_ge i c with w | w
      · exact absurd z2 (hg.1 i w)
      · omega
    rw [e]
    have h := lw7_b hV hr hp (r := 1) (by omega) (by omega) (fun h => by omega) 2000 0 (Nat.zero_le _) (by omega)
    rw [if_neg (by omega), if_neg (by omega)] at h
    exact h
  · have hlt : i < c := by
      rcases Nat.lt_or_ge i c with w | w
      · exact w
      · have e : i = c := by omega
        have h3 : zne (zT M) (zE M) (zes (zT M) (zE M) (M 2) i) (M 2) = zI := by rw [e]; exact hg.2
        omega
    have hcl : f_L_watched_6 sc sd bc bs bt (nI (zE M (zeb (zT M) (zE M) (zes (zT M) (zE M) (M 2) i) (M 2)))) = some (nI (c - i - 1)) := by
      have h4 := lw6 hV hr hc hg (i + 1) (nI (zE M (zeb (zT M) (zE M) (zes (zT M) (zE M) (M 2) i) (M 2)))) (fun x hx => by
        have h5 := (hH _ z1).2.2.2.2.1
        rw [nI_ltP hx (by omega), z2]; rfl) (by omega) (by omega)
      rw [show c - i - 1 = c - (i + 1) by omega]
      exact h4
    have h := lw7_b hV hr hp (r := c - i) (by omega) (by omega) (fun _ => hcl) 2000 0 (Nat.zero_le _) (by omega)
    rw [if_neg (by omega), if_pos z1] at h
    exact h
theorem lw8_a (hV : VW M U) (hr : RO M on ot op os sc sd sp sw gc gp gr bc bg bs bt be ql qg fc fg fs fm) {u : Nat} {p : Int32} (hp : ∀ x, x < 2 ^ 31 → (nI x < p) = (x < u)) {b : Nat} (hb : b < M 2) {k : Int32 → Option Int32} : ∀ m j, j ≤ M 2 → M 2 - j < m → zc (zbd0 (zT M) (zE M) u b) j = 0 → f_L_watched_8_L31 sc sd bc bs bt p (nI b) k m (nI j) (nI 1) = k (nI (if zc (zbd0 (zT M) (zE M) u b) (M 2) = 0 then 1 else 0)) := by
  have v2 := hV.1.2.2.1
  have b0 := hr.2.2.2.1.1
  intro m
  induction m with
  | zero => intro j hj hm; omega
  | succ m ih =>
    intro j hj hm h0
    rw [f_L_watched_8_L31]
    refine sfc1_i (a := bc) rfl ?_
    rcases Nat.lt_or_ge j (M 2) with z | z
    · have hE := hV.2.2.2.2.1 j z
      have hEb := hV.2.2.2.2.1 b hb
      have hH := (zHB_of hV hr.2.2.2.1).2 j z
      have hHb := (zHB_of hV hr.2.2.2.1).2 b hb
      refine sfb_f (by rw [b0, nI_leP (by omega) (by omega)]; omega) (sfb_f (by decide) (sfc1_i (a_start hV hr z).1 ?_))
      by_cases c : zbd0 (zT M) (zE M) u b j = true
      · have hc : ¬ (zT M j < u ∨ zE M b < zE M j ∨ zE M j = zE M b ∧ b ≤ j) := of_decide_eq_true c
        rw [if_neg (by have := zc_pos (n := M 2) j z c; omega)]
        refine sfj_t (nI 0) (fun k => ?_) ?_
        · refine sfb_f (by rw [hp _ (by omega)]; omega) (sfc1_i (e_endOf hV hr z) (sfc1_i (e_endOf hV hr hb) (sfb_f (by rw [nI_ltP (by omega) (by omega)]; omega) (sfc1_i (e_endOf hV hr z) (sfc1_i (e_endOf hV hr hb) ?_)))))
          by_cases d : zE M j = zE M b
          · exact sfb_t (by rw [d]) (sfb_t (by rw [nI_ltP (by omega) (by omega)]; omega) rfl)
          · exact sfb_f (by rw [nI_eqP (by omega) (by omega)]; exact d) rfl
        · refine sfn_r (y := nI (j + 1)) (nI_add j 1) ?_
          cases m with
          | zero => omega
          | succ m =>
            rw [f_L_watched_8_L31]
            refine sfc1_i (a := bc) rfl ?_
            rcases Nat.lt_or_ge (j + 1) (M 2) with w | w
            · exact sfb_f (by rw [b0, nI_leP (by omega) (by omega)]; omega) (sfb_t rfl rfl)
            · exact sfb_t (by rw [b0, nI_leP (by omega) (by omega)]; omega) rfl
      · have hf : zbd0 (zT M) (zE M) u b j = false := by
          cases h : zbd0 (zT M) (zE M) u b j with
          | true => exact absurd h c
          | false => rfl
        have hc : zT M j < u ∨ zE M b < zE M j ∨ zE M j = zE M b ∧ b ≤ j := Classical.byContradiction (of_decide_eq_false hf)
        refine sfj_t (nI 1) (fun k => ?_) ?_
        · by_cases d : zT M j < u
          · exact sfb_t (by rw [hp _ (by omega)]; exact d) rfl
          refine sfb_f (by rw [hp _ (by omega)]; exact d) (sfc1_i (e_endOf hV hr z) (sfc1_i (e_endOf hV hr hb) ?_))
          by_cases d2 : zE M b < zE M j
          · exact sfb_t (by rw [nI_ltP (by omega) (by omega)]; exact d2) rfl
          · exact sfb_f (by rw [nI_ltP (by omega) (by omega)]; exact d2) (sfc1_i (e_endOf hV hr z) (sfc1_i (e_endOf hV hr hb) (sfb_t (by rw [show zE M j = zE M b by omega]) (sfb_f (by rw [nI_ltP (by omega) (by omega)]; omega) rfl))))
        · refine sfn_r (y := nI (j + 1)) (nI_add j 1) ?_
          exact ih (j + 1) (by omega) (by omega) (by rw [zc_f hf]; exact h0)
    · have e : j = M 2 := by omega
      subst e
      rw [if_pos h0]
      exact sfb_t (by rw [b0, nI_leP (by omega) (by omega)]; omega) rfl
theorem lw8_b (hV : VW M U) (hr : RO M on ot op os sc sd sp sw gc gp gr bc bg bs bt be ql qg fc fg fs fm) {u : Nat} {p : Int32} (hp : ∀ x, x < 2 ^ 31 → (nI x < p) = (x < u)) {r : Nat} (hr0 : 0 < r) (hr1 : r < 100) (hcall : zeb (zT M) (zE M) u (M 2) < M 2 → f_L_watched_7 sc sd bc bs bt (nI (zE M (zeb (zT M) (zE M) u (M 2)))) = some (nI (r - 1))) : ∀ m j, j ≤ M 2 → M 2 - j < m → f_L_watched_8_L4 sc sd bc bs bt p (fun y => some y) m (nI j) (nI (if zeb (zT M) (zE M) u (M 2) < j then r else 0)) = some (nI (if zeb (zT M) (zE M) u (M 2) < M 2 then r else 0)) := by
  have v2 := hV.1.2.2.1
  have b0 := hr.2.2.2.1.1
  intro m
  induction m with
  | zero => intro j hj hm; omega
  | succ m ih =>
    intro j hj hm
    rw [f_L_watched_8_L4]
    refine sfc1_i (a := bc) rfl ?_
    rcases Nat.lt_or_ge j (M 2) with z | z
    · have hE := hV.2.2.2.2.1 j z
      have hH := (zHB_of hV hr.2.2.2.1).2 j z
      refine sfb_f (by rw [b0, nI_leP (by omega) (by omega)]; omega) ?_
      refine sfc1_i (a_start hV hr z).1 ?_
      have hiff := zbd0_iff (T := zT M) (E := zE M) (u := u) (n := M 2) (b := j) (by omega) z
      -- what the inner search says
      have hin : ∀ (K : Int32 → Option Int32), sf_b (nI (zT M j) < p) (f_L_watched_8_L31 sc sd bc bs bt p (nI j) K 2000 (0 : Int32) (0 : Int32)) (f_L_watched_8_L31 sc sd bc bs bt p (nI j) K 2000 (0 : Int32) (1 : Int32)) = K (nI (if j = zeb (zT M) (zE M) u (M 2) then 1 else 0)) := fun K => by
        by_cases d : zT M j < u
        · refine sfb_t (by rw [hp _ (by omega)]; exact d) ?_
          rw [if_neg (fun x => by have := (hiff.mpr x).1; omega)]
          rw [f_L_watched_8_L31]
          refine sfc1_i (a := bc) rfl ?_
          have hz : M 2 ≠ 0 := by omega
          exact sfb_f (by rw [b0, il_0, nI_leP (by omega) (by omega)]; omega) (sfb_t rfl rfl)
        · refine sfb_f (by rw [hp _ (by omega)]; exact d) ?_
          refine (lw8_a hV hr hp z (k := K) 2000 0 (Nat.zero_le _) (by omega) rfl).trans ?_
          by_cases e : j = zeb (zT M) (zE M) u (M 2)
          · rw [if_pos e, if_pos (hiff.mpr e).2]
          · rw [if_neg e, if_neg (fun x => e (hiff.mp ⟨by omega, x⟩))]
      refine Eq.trans (sf_bj _ _) ?_
      refine (hin _).trans ?_
      by_cases e : j = zeb (zT M) (zE M) u (M 2)
      · rw [if_pos e, if_neg (by omega)]
        have hc := hcall (by omega)
        rw [← e] at hc
        refine sfj_t (nI r) (fun k => sfb_f (by decide) (sfc1_i (e_endOf hV hr z) (sfc1_i hc ?_))) (sfn_r (y := nI (j + 1)) (nI_add j 1) ?_)
        · have e1 : (1 : Int32) + nI (r - 1) = nI r := by
            rw [il_1, nI_add, show 1 + (r - 1) = r by omega]
          rw [e1, if_pos (by rw [nI_ltP (by omega) (by omega)]; exact hr0)]
        · have h := ih (j + 1) (by omega) (by omega)
          rw [if_pos (by omega)] at h
          exact h
      · rw [if_neg e]
        refine sfj_t (nI (if zeb (zT M) (zE M) u (M 2) < j then r else 0)) (fun k => sfb_t rfl rfl) (sfn_r (y := nI (j + 1)) (nI_add j 1) ?_)
        have h := ih (j + 1) (by omega) (by omega)
        by_cases w : zeb (zT M) (zE M) u (M 2) < j
        · rw [if_pos (by omega)] at h
          rw [if_pos w]
          exact h
        · rw [if_neg (by omega)] at h
          rw [if_neg w]
          exact h
    · have e : j = M 2 := by omega
      subst e
      exact sfb_t (by rw [b0, nI_leP (by omega) (by omega)]; omega) rfl
theorem lw8 (hV : VW M U) (hr : RO M on ot op os sc sd sp sw gc gp gr bc bg bs bt be ql qg fc fg fs fm) {c : Nat} (hc : c ≤ M 2) (hg : zgc (zT M) (zE M) (M 2) c) : ∀ i p, (∀ x, x < 2 ^ 31 → (nI x < p) = (x < zes (zT M) (zE M) (M 2) i)) → i ≤ c → c - i ≤ 8 → f_L_watched_8 sc sd bc bs bt p = some (nI (c - i)) := by
  intro i p hp h1 h2
  have v2 := hV.1.2.2.1
  have hH := (zHB_of hV hr.2.2.2.1).2
  have hEI : ∀ k, k < M 2 → zE M k < zI := fun k hk => by
    have := (hH k hk).2.2.2.2.1
    unfold zI
    omega
  rcases zeb_ne (T := zT M) (E := zE M) (u := zes (zT M) (zE M) (M 2) i) (j := M 2) (by omega) hEI with ⟨z1, z2⟩ | ⟨z1, z2, z3⟩
  · have e : c - i = 0 := by
      rcases Nat.lt_or_ge i c with w | w
      · exact absurd z2 (hg.1 i w)
      · omega
    rw [e]
    have h := lw8_b hV hr hp (r := 1) (by omega) (by omega) (fun h => by omega) 2000 0 (Nat.zero_le _) (by omega)
    rw [if_neg (by omega), if_neg (by omega)] at h
    exact h
  · have hlt : i < c := by
      rcases Nat.lt_or_ge i c with w | w
      · exact w
      · have e : i = c := by omega
        have h3 : zne (zT M) (zE M) (zes (zT M) (zE M) (M 2) i) (M 2) = zI := by rw [e]; exact hg.2
        omega
    have hcl : f_L_watched_7 sc sd bc bs bt (nI (zE M (zeb (zT M) (zE M) (zes (zT M) (zE M) (M 2) i) (M 2)))) = some (nI (c - i - 1)) := by
      have h4 := lw7 hV hr hc hg (i + 1) (nI (zE M (zeb (zT M) (zE M) (zes (zT M) (zE M) (M 2) i) (M 2)))) (fun x hx => by
        have h5 := (hH _ z1).2.2.2.2.1
        rw [nI_ltP hx (by omega), z2]; rfl) (by omega) (by omega)
      rw [show c - i - 1 = c - (i + 1) by omega]
      exact h4
    have h := lw8_b hV hr hp (r := c - i) (by omega) (by omega) (fun _ => hcl) 2000 0 (Nat.zero_le _) (by omega)
    rw [if_neg (by omega), if_pos z1] at h
    exact h
theorem lw9_a (hV : VW M U) (hr : RO M on ot op os sc sd sp sw gc gp gr bc bg bs bt be ql qg fc fg fs fm) {u : Nat} {p : Int32} (hp : ∀ x, x < 2 ^ 31 → (nI x < p) = (x < u)) {b : Nat} (hb : b < M 2) {k : Int32 → Option Int32} : ∀ m j, j ≤ M 2 → M 2 - j < m → zc (zbd0 (zT M) (zE M) u b) j = 0 → f_L_watched_9_L31 sc sd bc bs bt p (nI b) k m (nI j) (nI 1) = k (nI (if zc (zbd0 (zT M) (zE M) u b) (M 2) = 0 then 1 else 0)) := by
  have v2 := hV.1.2.2.1
  have b0 := hr.2.2.2.1.1
  intro m
  induction m with
  | zero => intro j hj hm; omega
  | succ m ih =>
    intro j hj hm h0
    rw [f_L_watched_9_L31]
    refine sfc1_i (a := bc) rfl ?_
    rcases Nat.lt_or_ge j (M 2) with z | z
    · have hE := hV.2.2.2.2.1 j z
      have hEb := hV.2.2.2.2.1 b hb
      have hH := (zHB_of hV hr.2.2.2.1).2 j z
      have hHb := (zHB_of hV hr.2.2.2.1).2 b hb
      refine sfb_f (by rw [b0, nI_leP (by omega) (by omega)]; omega) (sfb_f (by decide) (sfc1_i (a_start hV hr z).1 ?_))
      by_cases c : zbd0 (zT M) (zE M) u b j = true
      · have hc : ¬ (zT M j < u ∨ zE M b < zE M j ∨ zE M j = zE M b ∧ b ≤ j) := of_decide_eq_true c
        rw [if_neg (by have := zc_pos (n := M 2) j z c; omega)]
        refine sfj_t (nI 0) (fun k => ?_) ?_
        · refine sfb_f (by rw [hp _ (by omega)]; omega) (sfc1_i (e_endOf hV hr z) (sfc1_i (e_endOf hV hr hb) (sfb_f (by rw [nI_ltP (by omega) (by omega)]; omega) (sfc1_i (e_endOf hV hr z) (sfc1_i (e_endOf hV hr hb) ?_)))))
          by_cases d : zE M j = zE M b
          · exact sfb_t (by rw [d]) (sfb_t (by rw [nI_ltP (by omega) (by omega)]; omega) rfl)
          · exact sfb_f (by rw [nI_eqP (by omega) (by omega)]; exact d) rfl
        · refine sfn_r (y := nI (j + 1)) (nI_add j 1) ?_
          cases m with
          | zero => omega
          | succ m =>
            rw [f_L_watched_9_L31]
            refine sfc1_i (a := bc) rfl ?_
            rcases Nat.lt_or_ge (j + 1) (M 2) with w | w
            · exact sfb_f (by rw [b0, nI_leP (by omega) (by omega)]; omega) (sfb_t rfl rfl)
            · exact sfb_t (by rw [b0, nI_leP (by omega) (by omega)]; omega) rfl
      · have hf : zbd0 (zT M) (zE M) u b j = false := by
          cases h : zbd0 (zT M) (zE M) u b j with
          | true => exact absurd h c
          | false => rfl
        have hc : zT M j < u ∨ zE M b < zE M j ∨ zE M j = zE M b ∧ b ≤ j := Classical.byContradiction (of_decide_eq_false hf)
        refine sfj_t (nI 1) (fun k => ?_) ?_
        · by_cases d : zT M j < u
          · exact sfb_t (by rw [hp _ (by omega)]; exact d) rfl
          refine sfb_f (by rw [hp _ (by omega)]; exact d) (sfc1_i (e_endOf hV hr z) (sfc1_i (e_endOf hV hr hb) ?_))
          by_cases d2 : zE M b < zE M j
          · exact sfb_t (by rw [nI_ltP (by omega) (by omega)]; exact d2) rfl
          · exact sfb_f (by rw [nI_ltP (by omega) (by omega)]; exact d2) (sfc1_i (e_endOf hV hr z) (sfc1_i (e_endOf hV hr hb) (sfb_t (by rw [show zE M j = zE M b by omega]) (sfb_f (by rw [nI_ltP (by omega) (by omega)]; omega) rfl))))
        · refine sfn_r (y := nI (j + 1)) (nI_add j 1) ?_
          exact ih (j + 1) (by omega) (by omega) (by rw [zc_f hf]; exact h0)
    · have e : j = M 2 := by omega
      subst e
      rw [if_pos h0]
      exact sfb_t (by rw [b0, nI_leP (by omega) (by omega)]; omega) rfl
theorem lw9_b (hV : VW M U) (hr : RO M on ot op os sc sd sp sw gc gp gr bc bg bs bt be ql qg fc fg fs fm) {u : Nat} {p : Int32} (hp : ∀ x, x < 2 ^ 31 → (nI x < p) = (x < u)) {r : Nat} (hr0 : 0 < r) (hr1 : r < 100) (hcall : zeb (zT M) (zE M) u (M 2) < M 2 → f_L_watched_8 sc sd bc bs bt (nI (zE M (zeb (zT M) (zE M) u (M 2)))) = some (nI (r - 1))) : ∀ m j, j ≤ M 2 → M 2 - j < m → f_L_watched_9_L4 sc sd bc bs bt p (fun y => some y) m (nI j) (nI (if zeb (zT M) (zE M) u (M 2) < j then r else 0)) = some (nI (if zeb (zT M) (zE M) u (M 2) < M 2 then r else 0)) := by
  have v2 := hV.1.2.2.1
  have b0 := hr.2.2.2.1.1
  intro m
  induction m with
  | zero => intro j hj hm; omega
  | succ m ih =>
    intro j hj hm
    rw [f_L_watched_9_L4]
    refine sfc1_i (a := bc) rfl ?_
    rcases Nat.lt_or_ge j (M 2) with z | z
    · have hE := hV.2.2.2.2.1 j z
      have hH := (zHB_of hV hr.2.2.2.1).2 j z
      refine sfb_f (by rw [b0, nI_leP (by omega) (by omega)]; omega) ?_
      refine sfc1_i (a_start hV hr z).1 ?_
      have hiff := zbd0_iff (T := zT M) (E := zE M) (u := u) (n := M 2) (b := j) (by omega) z
      -- what the inner search says
      have hin : ∀ (K : Int32 → Option Int32), sf_b (nI (zT M j) < p) (f_L_watched_9_L31 sc sd bc bs bt p (nI j) K 2000 (0 : Int32) (0 : Int32)) (f_L_watched_9_L31 sc sd bc bs bt p (nI j) K 2000 (0 : Int32) (1 : Int32)) = K (nI (if j = zeb (zT M) (zE M) u (M 2) then 1 else 0)) := fun K => by
        by_cases d : zT M j < u
        · refine sfb_t (by rw [hp _ (by omega)]; exact d) ?_
          rw [if_neg (fun x => by have := (hiff.mpr x).1; omega)]
          rw [f_L_watched_9_L31]
          refine sfc1_i (a := bc) rfl ?_
          have hz : M 2 ≠ 0 := by omega
          exact sfb_f (by rw [b0, il_0, nI_leP (by omega) (by omega)]; omega) (sfb_t rfl rfl)
        · refine sfb_f (by rw [hp _ (by omega)]; exact d) ?_
          refine (lw9_a hV hr hp z (k := K) 2000 0 (Nat.zero_le _) (by omega) rfl).trans ?_
          by_cases e : j = zeb (zT M) (zE M) u (M 2)
          · rw [if_pos e, if_pos (hiff.mpr e).2]
          · rw [if_neg e, if_neg (fun x => e (hiff.mp ⟨by omega, x⟩))]
      refine Eq.trans (sf_bj _ _) ?_
      refine (hin _).trans ?_
      by_cases e : j = zeb (zT M) (zE M) u (M 2)
      · rw [if_pos e, if_neg (by omega)]
        have hc := hcall (by omega)
        rw [← e] at hc
        refine sfj_t (nI r) (fun k => sfb_f (by decide) (sfc1_i (e_endOf hV hr z) (sfc1_i hc ?_))) (sfn_r (y := nI (j + 1)) (nI_add j 1) ?_)
        · have e1 : (1 : Int32) + nI (r - 1) = nI r := by
            rw [il_1, nI_add, show 1 + (r - 1) = r by omega]
          rw [e1, if_pos (by rw [nI_ltP (by omega) (by omega)]; exact hr0)]
        · have h := ih (j + 1) (by omega) (by omega)
          rw [if_pos (by omega)] at h
          exact h
      · rw [if_neg e]
        refine sfj_t (nI (if zeb (zT M) (zE M) u (M 2) < j then r else 0)) (fun k => sfb_t rfl rfl) (sfn_r (y := nI (j + 1)) (nI_add j 1) ?_)
        have h := ih (j + 1) (by omega) (by omega)
        by_cases w : zeb (zT M) (zE M) u (M 2) < j
        · rw [if_pos (by omega)] at h
          rw [if_pos w]
          exact h
        · rw [if_neg (by omega)] at h
          rw [if_neg w]
          exact h
    · have e : j = M 2 := by omega
      subst e
      exact sfb_t (by rw [b0, nI_leP (by omega) (by omega)]; omega) rfl
theorem lw9 (hV : VW M U) (hr : RO M on ot op os sc sd sp sw gc gp gr bc bg bs bt be ql qg fc fg fs fm) {c : Nat} (hc : c ≤ M 2) (hg : zgc (zT M) (zE M) (M 2) c) : ∀ i p, (∀ x, x < 2 ^ 31 → (nI x < p) = (x < zes (zT M) (zE M) (M 2) i)) → i ≤ c → c - i ≤ 9 → f_L_watched_9 sc sd bc bs bt p = some (nI (c - i)) := by
  intro i p hp h1 h2
  have v2 := hV.1.2.2.1
  have hH := (zHB_of hV hr.2.2.2.1).2
  have hEI : ∀ k, k < M 2 → zE M k < zI := fun k hk => by
    have := (hH k hk).2.2.2.2.1
    unfold zI
    omega
  rcases zeb_ne (T := zT M) (E := zE M) (u := zes (zT M) (zE M) (M 2) i) (j := M 2) (by omega) hEI with ⟨z1, z2⟩ | ⟨z1, z2, z3⟩
  · have e : c - i = 0 := by
      rcases Nat.lt_or_ge i c with w | w
      · exact absurd z2 (hg.1 i w)
      · omega
    rw [e]
    have h := lw9_b hV hr hp (r := 1) (by omega) (by omega) (fun h => by omega) 2000 0 (Nat.zero_le _) (by omega)
    rw [if_neg (by omega), if_neg (by omega)] at h
    exact h
  · have hlt : i < c := by
      rcases Nat.lt_or_ge i c with w | w
      · exact w
      · have e : i = c := by omega
        have h3 : zne (zT M) (zE M) (zes (zT M) (zE M) (M 2) i) (M 2) = zI := by rw [e]; exact hg.2
        omega
    have hcl : f_L_watched_8 sc sd bc bs bt (nI (zE M (zeb (zT M) (zE M) (zes (zT M) (zE M) (M 2) i) (M 2)))) = some (nI (c - i - 1)) := by
      have h4 := lw8 hV hr hc hg (i + 1) (nI (zE M (zeb (zT M) (zE M) (zes (zT M) (zE M) (M 2) i) (M 2)))) (fun x hx => by
        have h5 := (hH _ z1).2.2.2.2.1
        rw [nI_ltP hx (by omega), z2]; rfl) (by omega) (by omega)
      rw [show c - i - 1 = c - (i + 1) by omega]
      exact h4
    have h := lw9_b hV hr hp (r := c - i) (by omega) (by omega) (fun _ => hcl) 2000 0 (Nat.zero_le _) (by omega)
    rw [if_neg (by omega), if_pos z1] at h
    exact h
theorem lw10_a (hV : VW M U) (hr : RO M on ot op os sc sd sp sw gc gp gr bc bg bs bt be ql qg fc fg fs fm) {u : Nat} {p : Int32} (hp : ∀ x, x < 2 ^ 31 → (nI x < p) = (x < u)) {b : Nat} (hb : b < M 2) {k : Int32 → Option Int32} : ∀ m j, j ≤ M 2 → M 2 - j < m → zc (zbd0 (zT M) (zE M) u b) j = 0 → f_L_watched_10_L31 sc sd bc bs bt p (nI b) k m (nI j) (nI 1) = k (nI (if zc (zbd0 (zT M) (zE M) u b) (M 2) = 0 then 1 else 0)) := by
  have v2 := hV.1.2.2.1
  have b0 := hr.2.2.2.1.1
  intro m
  induction m with
  | zero => intro j hj hm; omega
  | succ m ih =>
    intro j hj hm h0
    rw [f_L_watched_10_L31]
    refine sfc1_i (a := bc) rfl ?_
    rcases Nat.lt_or_ge j (M 2) with z | z
    · have hE := hV.2.2.2.2.1 j z
      have hEb := hV.2.2.2.2.1 b hb
      have hH := (zHB_of hV hr.2.2.2.1).2 j z
      have hHb := (zHB_of hV hr.2.2.2.1).2 b hb
      refine sfb_f (by rw [b0, nI_leP (by omega) (by omega)]; omega) (sfb_f (by decide) (sfc1_i (a_start hV hr z).1 ?_))
      by_cases c : zbd0 (zT M) (zE M) u b j = true
      · have hc : ¬ (zT M j < u ∨ zE M b < zE M j ∨ zE M j = zE M b ∧ b ≤ j) := of_decide_eq_true c
        rw [if_neg (by have := zc_pos (n := M 2) j z c; omega)]
        refine sfj_t (nI 0) (fun k => ?_) ?_
        · refine sfb_f (by rw [hp _ (by omega)]; omega) (sfc1_i (e_endOf hV hr z) (sfc1_i (e_endOf hV hr hb) (sfb_f (by rw [nI_ltP (by omega) (by omega)]; omega) (sfc1_i (e_endOf hV hr z) (sfc1_i (e_endOf hV hr hb) ?_)))))
          by_cases d : zE M j = zE M b
          · exact sfb_t (by rw [d]) (sfb_t (by rw [nI_ltP (by omega) (by omega)]; omega) rfl)
          · exact sfb_f (by rw [nI_eqP (by omega) (by omega)]; exact d) rfl
        · refine sfn_r (y := nI (j + 1)) (nI_add j 1) ?_
          cases m with
          | zero => omega
          | succ m =>
            rw [f_L_watched_10_L31]
            refine sfc1_i (a := bc) rfl ?_
            rcases Nat.lt_or_ge (j + 1) (M 2) with w | w
            · exact sfb_f (by rw [b0, nI_leP (by omega) (by omega)]; omega) (sfb_t rfl rfl)
            · exact sfb_t (by rw [b0, nI_leP (by omega) (by omega)]; omega) rfl
      · have hf : zbd0 (zT M) (zE M) u b j = false := by
          cases h : zbd0 (zT M) (zE M) u b j with
          | true => exact absurd h c
          | false => rfl
        have hc : zT M j < u ∨ zE M b < zE M j ∨ zE M j = zE M b ∧ b ≤ j := Classical.byContradiction (of_decide_eq_false hf)
        refine sfj_t (nI 1) (fun k => ?_) ?_
        · by_cases d : zT M j < u
          · exact sfb_t (by rw [hp _ (by omega)]; exact d) rfl
          refine sfb_f (by rw [hp _ (by omega)]; exact d) (sfc1_i (e_endOf hV hr z) (sfc1_i (e_endOf hV hr hb) ?_))
          by_cases d2 : zE M b < zE M j
          · exact sfb_t (by rw [nI_ltP (by omega) (by omega)]; exact d2) rfl
          · exact sfb_f (by rw [nI_ltP (by omega) (by omega)]; exact d2) (sfc1_i (e_endOf hV hr z) (sfc1_i (e_endOf hV hr hb) (sfb_t (by rw [show zE M j = zE M b by omega]) (sfb_f (by rw [nI_ltP (by omega) (by omega)]; omega) rfl))))
        · refine sfn_r (y := nI (j + 1)) (nI_add j 1) ?_
          exact ih (j + 1) (by omega) (by omega) (by rw [zc_f hf]; exact h0)
    · have e : j = M 2 := by omega
      subst e
      rw [if_pos h0]
      exact sfb_t (by rw [b0, nI_leP (by omega) (by omega)]; omega) rfl
theorem lw10_b (hV : VW M U) (hr : RO M on ot op os sc sd sp sw gc gp gr bc bg bs bt be ql qg fc fg fs fm) {u : Nat} {p : Int32} (hp : ∀ x, x < 2 ^ 31 → (nI x < p) = (x < u)) {r : Nat} (hr0 : 0 < r) (hr1 : r < 100) (hcall : zeb (zT M) (zE M) u (M 2) < M 2 → f_L_watched_9 sc sd bc bs bt (nI (zE M (zeb (zT M) (zE M) u (M 2)))) = some (nI (r - 1))) : ∀ m j, j ≤ M 2 → M 2 - j < m → f_L_watched_10_L4 sc sd bc bs bt p (fun y => some y) m (nI j) (nI (if zeb (zT M) (zE M) u (M 2) < j then r else 0)) = some (nI (if zeb (zT M) (zE M) u (M 2) < M 2 then r else 0)) := by
  have v2 := hV.1.2.2.1
  have b0 := hr.2.2.2.1.1
  intro m
  induction m with
  | zero => intro j hj hm; omega
  | succ m ih =>
    intro j hj hm
    rw [f_L_watched_10_L4]
    refine sfc1_i (a := bc) rfl ?_
    rcases Nat.lt_or_ge j (M 2) with z | z
    · have hE := hV.2.2.2.2.1 j z
      have hH := (zHB_of hV hr.2.2.2.1).2 j z
      refine sfb_f (by rw [b0, nI_leP (by omega) (by omega)]; omega) ?_
      refine sfc1_i (a_start hV hr z).1 ?_
      have hiff := zbd0_iff (T := zT M) (E := zE M) (u := u) (n := M 2) (b := j) (by omega) z
      -- what the inner search says
      have hin : ∀ (K : Int32 → Option Int32), sf_b (nI (zT M j) < p) (f_L_watched_10_L31 sc sd bc bs bt p (nI j) K 2000 (0 : Int32) (0 : Int32)) (f_L_watched_10_L31 sc sd bc bs bt p (nI j) K 2000 (0 : Int32) (1 : Int32)) = K (nI (if j = zeb (zT M) (zE M) u (M 2) then 1 else 0)) := fun K => by
        by_cases d : zT M j < u
        · refine sfb_t (by rw [hp _ (by omega)]; exact d) ?_
          rw [if_neg (fun x => by have := (hiff.mpr x).1; omega)]
          rw [f_L_watched_10_L31]
          refine sfc1_i (a := bc) rfl ?_
          have hz : M 2 ≠ 0 := by omega
          exact sfb_f (by rw [b0, il_0, nI_leP (by omega) (by omega)]; omega) (sfb_t rfl rfl)
        · refine sfb_f (by rw [hp _ (by omega)]; exact d) ?_
          refine (lw10_a hV hr hp z (k := K) 2000 0 (Nat.zero_le _) (by omega) rfl).trans ?_
          by_cases e : j = zeb (zT M) (zE M) u (M 2)
          · rw [if_pos e, if_pos (hiff.mpr e).2]
          · rw [if_neg e, if_neg (fun x => e (hiff.mp ⟨by omega, x⟩))]
      refine Eq.trans (sf_bj _ _) ?_
      refine (hin _).trans ?_
      by_cases e : j = zeb (zT M) (zE M) u (M 2)
      · rw [if_pos e, if_neg (by omega)]
        have hc := hcall (by omega)
        rw [← e] at hc
        refine sfj_t (nI r) (fun k => sfb_f (by decide) (sfc1_i (e_endOf hV hr z) (sfc1_i hc ?_))) (sfn_r (y := nI (j + 1)) (nI_add j 1) ?_)
        · have e1 : (1 : Int32) + nI (r - 1) = nI r := by
            rw [il_1, nI_add, show 1 + (r - 1) = r by omega]
          rw [e1, if_pos (by rw [nI_ltP (by omega) (by omega)]; exact hr0)]
        · have h := ih (j + 1) (by omega) (by omega)
          rw [if_pos (by omega)] at h
          exact h
      · rw [if_neg e]
        refine sfj_t (nI (if zeb (zT M) (zE M) u (M 2) < j then r else 0)) (fun k => sfb_t rfl rfl) (sfn_r (y := nI (j + 1)) (nI_add j 1) ?_)
        have h := ih (j + 1) (by omega) (by omega)
        by_cases w : zeb (zT M) (zE M) u (M 2) < j
        · rw [if_pos (by omega)] at h
          rw [if_pos w]
          exact h
        · rw [if_neg (by omega)] at h
          rw [if_neg w]
          exact h
    · have e : j = M 2 := by omega
      subst e
      exact sfb_t (by rw [b0, nI_leP (by omega) (by omega)]; omega) rfl
theorem lw10 (hV : VW M U) (hr : RO M on ot op os sc sd sp sw gc gp gr bc bg bs bt be ql qg fc fg fs fm) {c : Nat} (hc : c ≤ M 2) (hg : zgc (zT M) (zE M) (M 2) c) : ∀ i p, (∀ x, x < 2 ^ 31 → (nI x < p) = (x < zes (zT M) (zE M) (M 2) i)) → i ≤ c → c - i ≤ 10 → f_L_watched_10 sc sd bc bs bt p = some (nI (c - i)) := by
  intro i p hp h1 h2
  have v2 := hV.1.2.2.1
  have hH := (zHB_of hV hr.2.2.2.1).2
  have hEI : ∀ k, k < M 2 → zE M k < zI := fun k hk => by
    have := (hH k hk).2.2.2.2.1
    unfold zI
    omega
  rcases zeb_ne (T := zT M) (E := zE M) (u := zes (zT M) (zE M) (M 2) i) (j := M 2) (by omega) hEI with ⟨z1, z2⟩ | ⟨z1, z2, z3⟩
  · have e : c - i = 0 := by
      rcases Nat.lt_or_ge i c with w | w
      · exact absurd z2 (hg.1 i w)
      · omega
    rw [e]
    have h := lw10_b hV hr hp (r := 1) (by omega) (by omega) (fun h => by omega) 2000 0 (Nat.zero_le _) (by omega)
    rw [if_neg (by omega), if_neg (by omega)] at h
    exact h
  · have hlt : i < c := by
      rcases Nat.lt_or_ge i c with w | w
      · exact w
      · have e : i = c := by omega
        have h3 : zne (zT M) (zE M) (zes (zT M) (zE M) (M 2) i) (M 2) = zI := by rw [e]; exact hg.2
        omega
    have hcl : f_L_watched_9 sc sd bc bs bt (nI (zE M (zeb (zT M) (zE M) (zes (zT M) (zE M) (M 2) i) (M 2)))) = some (nI (c - i - 1)) := by
      have h4 := lw9 hV hr hc hg (i + 1) (nI (zE M (zeb (zT M) (zE M) (zes (zT M) (zE M) (M 2) i) (M 2)))) (fun x hx => by
        have h5 := (hH _ z1).2.2.2.2.1
        rw [nI_ltP hx (by omega), z2]; rfl) (by omega) (by omega)
      rw [show c - i - 1 = c - (i + 1) by omega]
      exact h4
    have h := lw10_b hV hr hp (r := c - i) (by omega) (by omega) (fun _ => hcl) 2000 0 (Nat.zero_le _) (by omega)
    rw [if_neg (by omega), if_pos z1] at h
    exact h
theorem lw11_a (hV : VW M U) (hr : RO M on ot op os sc sd sp sw gc gp gr bc bg bs bt be ql qg fc fg fs fm) {u : Nat} {p : Int32} (hp : ∀ x, x < 2 ^ 31 → (nI x < p) = (x < u)) {b : Nat} (hb : b < M 2) {k : Int32 → Option Int32} : ∀ m j, j ≤ M 2 → M 2 - j < m → zc (zbd0 (zT M) (zE M) u b) j = 0 → f_L_watched_11_L31 sc sd bc bs bt p (nI b) k m (nI j) (nI 1) = k (nI (if zc (zbd0 (zT M) (zE M) u b) (M 2) = 0 then 1 else 0)) := by
  have v2 := hV.1.2.2.1
  have b0 := hr.2.2.2.1.1
  intro m
  induction m with
  | zero => intro j hj hm; omega
  | succ m ih =>
    intro j hj hm h0
    rw [f_L_watched_11_L31]
    refine sfc1_i (a := bc) rfl ?_
    rcases Nat.lt_or_ge j (M 2) with z | z
    · have hE := hV.2.2.2.2.1 j z
      have hEb := hV.2.2.2.2.1 b hb
      have hH := (zHB_of hV hr.2.2.2.1).2 j z
      have hHb := (zHB_of hV hr.2.2.2.1).2 b hb
      refine sfb_f (by rw [b0, nI_leP (by omega) (by omega)]; omega) (sfb_f (by decide) (sfc1_i (a_start hV hr z).1 ?_))
      by_cases c : zbd0 (zT M) (zE M) u b j = true
      · have hc : ¬ (zT M j < u ∨ zE M b < zE M j ∨ zE M j = zE M b ∧ b ≤ j) := of_decide_eq_true c
        rw [if_neg (by have := zc_pos (n := M 2) j z c; omega)]
        refine sfj_t (nI 0) (fun k => ?_) ?_
        · refine sfb_f (by rw [hp _ (by omega)]; omega) (sfc1_i (e_endOf hV hr z) (sfc1_i (e_endOf hV hr hb) (sfb_f (by rw [nI_ltP (by omega) (by omega)]; omega) (sfc1_i (e_endOf hV hr z) (sfc1_i (e_endOf hV hr hb) ?_)))))
          by_cases d : zE M j = zE M b
          · exact sfb_t (by rw [d]) (sfb_t (by rw [nI_ltP (by omega) (by omega)]; omega) rfl)
          · exact sfb_f (by rw [nI_eqP (by omega) (by omega)]; exact d) rfl
        · refine sfn_r (y := nI (j + 1)) (nI_add j 1) ?_
          cases m with
          | zero => omega
          | succ m =>
            rw [f_L_watched_11_L31]
            refine sfc1_i (a := bc) rfl ?_
            rcases Nat.lt_or_ge (j + 1) (M 2) with w | w
            · exact sfb_f (by rw [b0, nI_leP (by omega) (by omega)]; omega) (sfb_t rfl rfl)
            · exact sfb_t (by rw [b0, nI_leP (by omega) (by omega)]; omega) rfl
      · have hf : zbd0 (zT M) (zE M) u b j = false := by
          cases h : zbd0 (zT M) (zE M) u b j with
          | true => exact absurd h c
          | false => rfl
        have hc : zT M j < u ∨ zE M b < zE M j ∨ zE M j = zE M b ∧ b ≤ j := Classical.byContradiction (of_decide_eq_false hf)
        refine sfj_t (nI 1) (fun k => ?_) ?_
        · by_cases d : zT M j < u
          · exact sfb_t (by rw [hp _ (by omega)]; exact d) rfl
          refine sfb_f (by rw [hp _ (by omega)]; exact d) (sfc1_i (e_endOf hV hr z) (sfc1_i (e_endOf hV hr hb) ?_))
          by_cases d2 : zE M b < zE M j
          · exact sfb_t (by rw [nI_ltP (by omega) (by omega)]; exact d2) rfl
          · exact sfb_f (by rw [nI_ltP (by omega) (by omega)]; exact d2) (sfc1_i (e_endOf hV hr z) (sfc1_i (e_endOf hV hr hb) (sfb_t (by rw [show zE M j = zE M b by omega]) (sfb_f (by rw [nI_ltP (by omega) (by omega)]; omega) rfl))))
        · refine sfn_r (y := nI (j + 1)) (nI_add j 1) ?_
          exact ih (j + 1) (by omega) (by omega) (by rw [zc_f hf]; exact h0)
    · have e : j = M 2 := by omega
      subst e
      rw [if_pos h0]
      exact sfb_t (by rw [b0, nI_leP (by omega) (by omega)]; omega) rfl
theorem lw11_b (hV : VW M U) (hr : RO M on ot op os sc sd sp sw gc gp gr bc bg bs bt be ql qg fc fg fs fm) {u : Nat} {p : Int32} (hp : ∀ x, x < 2 ^ 31 → (nI x < p) = (x < u)) {r : Nat} (hr0 : 0 < r) (hr1 : r < 100) (hcall : zeb (zT M) (zE M) u (M 2) < M 2 → f_L_watched_10 sc sd bc bs bt (nI (zE M (zeb (zT M) (zE M) u (M 2)))) = some (nI (r - 1))) : ∀ m j, j ≤ M 2 → M 2 - j < m → f_L_watched_11_L4 sc sd bc bs bt p (fun y => some y) m (nI j) (nI (if zeb (zT M) (zE M) u (M 2) < j then r else 0)) = some (nI (if zeb (zT M) (zE M) u (M 2) < M 2 then r else 0)) := by
  have v2 := hV.1.2.2.1
  have b0 := hr.2.2.2.1.1
  intro m
  induction m with
  | zero => intro j hj hm; omega
  | succ m ih =>
    intro j hj hm
    rw [f_L_watched_11_L4]
    refine sfc1_i (a := bc) rfl ?_
    rcases Nat.lt_or_ge j (M 2) with z | z
    · have hE := hV.2.2.2.2.1 j z
      have hH := (zHB_of hV hr.2.2.2.1).2 j z
      refine sfb_f (by rw [b0, nI_leP (by omega) (by omega)]; omega) ?_
      refine sfc1_i (a_start hV hr z).1 ?_
      have hiff := zbd0_iff (T := zT M) (E := zE M) (u := u) (n := M 2) (b := j) (by omega) z
      -- what the inner search says
      have hin : ∀ (K : Int32 → Option Int32), sf_b (nI (zT M j) < p) (f_L_watched_11_L31 sc sd bc bs bt p (nI j) K 2000 (0 : Int32) (0 : Int32)) (f_L_watched_11_L31 sc sd bc bs bt p (nI j) K 2000 (0 : Int32) (1 : Int32)) = K (nI (if j = zeb (zT M) (zE M) u (M 2) then 1 else 0)) := fun K => by
        by_cases d : zT M j < u
        · refine sfb_t (by rw [hp _ (by omega)]; exact d) ?_
          rw [if_neg (fun x => by have := (hiff.mpr x).1; omega)]
          rw [f_L_watched_11_L31]
          refine sfc1_i (a := bc) rfl ?_
          have hz : M 2 ≠ 0 := by omega
          exact sfb_f (by rw [b0, il_0, nI_leP (by omega) (by omega)]; omega) (sfb_t rfl rfl)
        · refine sfb_f (by rw [hp _ (by omega)]; exact d) ?_
          refine (lw11_a hV hr hp z (k := K) 2000 0 (Nat.zero_le _) (by omega) rfl).trans ?_
          by_cases e : j = zeb (zT M) (zE M) u (M 2)
          · rw [if_pos e, if_pos (hiff.mpr e).2]
          · rw [if_neg e, if_neg (fun x => e (hiff.mp ⟨by omega, x⟩))]
      refine Eq.trans (sf_bj _ _) ?_
      refine (hin _).trans ?_
      by_cases e : j = zeb (zT M) (zE M) u (M 2)
      · rw [if_pos e, if_neg (by omega)]
        have hc := hcall (by omega)
        rw [← e] at hc
        refine sfj_t (nI r) (fun k => sfb_f (by decide) (sfc1_i (e_endOf hV hr z) (sfc1_i hc ?_))) (sfn_r (y := nI (j + 1)) (nI_add j 1) ?_)
        · have e1 : (1 : Int32) + nI (r - 1) = nI r := by
            rw [il_1, nI_add, show 1 + (r - 1) = r by omega]
          rw [e1, if_pos (by rw [nI_ltP (by omega) (by omega)]; exact hr0)]
        · have h := ih (j + 1) (by omega) (by omega)
          rw [if_pos (by omega)] at h
          exact h
      · rw [if_neg e]
        refine sfj_t (nI (if zeb (zT M) (zE M) u (M 2) < j then r else 0)) (fun k => sfb_t rfl rfl) (sfn_r (y := nI (j + 1)) (nI_add j 1) ?_)
        have h := ih (j + 1) (by omega) (by omega)
        by_cases w : zeb (zT M) (zE M) u (M 2) < j
        · rw [if_pos (by omega)] at h
          rw [if_pos w]
          exact h
        · rw [if_neg (by omega)] at h
          rw [if_neg w]
          exact h
    · have e : j = M 2 := by omega
      subst e
      exact sfb_t (by rw [b0, nI_leP (by omega) (by omega)]; omega) rfl
theorem lw11 (hV : VW M U) (hr : RO M on ot op os sc sd sp sw gc gp gr bc bg bs bt be ql qg fc fg fs fm) {c : Nat} (hc : c ≤ M 2) (hg : zgc (zT M) (zE M) (M 2) c) : ∀ i p, (∀ x, x < 2 ^ 31 → (nI x < p) = (x < zes (zT M) (zE M) (M 2) i)) → i ≤ c → c - i ≤ 11 → f_L_watched_11 sc sd bc bs bt p = some (nI (c - i)) := by
  intro i p hp h1 h2
  have v2 := hV.1.2.2.1
  have hH := (zHB_of hV hr.2.2.2.1).2
  have hEI : ∀ k, k < M 2 → zE M k < zI := fun k hk => by
    have := (hH k hk).2.2.2.2.1
    unfold zI
    omega
  rcases zeb_ne (T := zT M) (E := zE M) (u := zes (zT M) (zE M) (M 2) i) (j := M 2) (by omega) hEI with ⟨z1, z2⟩ | ⟨z1, z2, z3⟩
  · have e : c - i = 0 := by
      rcases Nat.lt_or_ge i c with w | w
      · exact absurd z2 (hg.1 i w)
      · omega
    rw [e]
    have h := lw11_b hV hr hp (r := 1) (by omega) (by omega) (fun h => by omega) 2000 0 (Nat.zero_le _) (by omega)
    rw [if_neg (by omega), if_neg (by omega)] at h
    exact h
  · have hlt : i < c := by
      rcases Nat.lt_or_ge i c with w | w
      · exact w
      · have e : i = c := by omega
        have h3 : zne (zT M) (zE M) (zes (zT M) (zE M) (M 2) i) (M 2) = zI := by rw [e]; exact hg.2
        omega
    have hcl : f_L_watched_10 sc sd bc bs bt (nI (zE M (zeb (zT M) (zE M) (zes (zT M) (zE M) (M 2) i) (M 2)))) = some (nI (c - i - 1)) := by
      have h4 := lw10 hV hr hc hg (i + 1) (nI (zE M (zeb (zT M) (zE M) (zes (zT M) (zE M) (M 2) i) (M 2)))) (fun x hx => by
        have h5 := (hH _ z1).2.2.2.2.1
        rw [nI_ltP hx (by omega), z2]; rfl) (by omega) (by omega)
      rw [show c - i - 1 = c - (i + 1) by omega]
      exact h4
    have h := lw11_b hV hr hp (r := c - i) (by omega) (by omega) (fun _ => hcl) 2000 0 (Nat.zero_le _) (by omega)
    rw [if_neg (by omega), if_pos z1] at h
    exact h
theorem lw12_a (hV : VW M U) (hr : RO M on ot op os sc sd sp sw gc gp gr bc bg bs bt be ql qg fc fg fs fm) {u : Nat} {p : Int32} (hp : ∀ x, x < 2 ^ 31 → (nI x < p) = (x < u)) {b : Nat} (hb : b < M 2) {k : Int32 → Option Int32} : ∀ m j, j ≤ M 2 → M 2 - j < m → zc (zbd0 (zT M) (zE M) u b) j = 0 → f_L_watched_12_L31 sc sd bc bs bt p (nI b) k m (nI j) (nI 1) = k (nI (if zc (zbd0 (zT M) (zE M) u b) (M 2) = 0 then 1 else 0)) := by
  have v2 := hV.1.2.2.1
  have b0 := hr.2.2.2.1.1
  intro m
  induction m with
  | zero => intro j hj hm; omega
  | succ m ih =>
    intro j hj hm h0
    rw [f_L_watched_12_L31]
    refine sfc1_i (a := bc) rfl ?_
    rcases Nat.lt_or_ge j (M 2) with z | z
    · have hE := hV.2.2.2.2.1 j z
      have hEb := hV.2.2.2.2.1 b hb
      have hH := (zHB_of hV hr.2.2.2.1).2 j z
      have hHb := (zHB_of hV hr.2.2.2.1).2 b hb
      refine sfb_f (by rw [b0, nI_leP (by omega) (by omega)]; omega) (sfb_f (by decide) (sfc1_i (a_start hV hr z).1 ?_))
      by_cases c : zbd0 (zT M) (zE M) u b j = true
      · have hc : ¬ (zT M j < u ∨ zE M b < zE M j ∨ zE M j = zE M b ∧ b ≤ j) := of_decide_eq_true c
        rw [if_neg (by have := zc_pos (n := M 2) j z c; omega)]
        refine sfj_t (nI 0) (fun k => ?_) ?_
        · refine sfb_f (by rw [hp _ (by omega)]; omega) (sfc1_i (e_endOf hV hr z) (sfc1_i (e_endOf hV hr hb) (sfb_f (by rw [nI_ltP (by omega) (by omega)]; omega) (sfc1_i (e_endOf hV hr z) (sfc1_i (e_endOf hV hr hb) ?_)))))
          by_cases d : zE M j = zE M b
          · exact sfb_t (by rw [d]) (sfb_t (by rw [nI_ltP (by omega) (by omega)]; omega) rfl)
          · exact sfb_f (by rw [nI_eqP (by omega) (by omega)]; exact d) rfl
        · refine sfn_r (y := nI (j + 1)) (nI_add j 1) ?_
          cases m with
          | zero => omega
          | succ m =>
            rw [f_L_watched_12_L31]
            refine sfc1_i (a := bc) rfl ?_
            rcases Nat.lt_or_ge (j + 1) (M 2) with w | w
            · exact sfb_f (by rw [b0, nI_leP (by omega) (by omega)]; omega) (sfb_t rfl rfl)
            · exact sfb_t (by rw [b0, nI_leP (by omega) (by omega)]; omega) rfl
      · have hf : zbd0 (zT M) (zE M) u b j = false := by
          cases h : zbd0 (zT M) (zE M) u b j with
          | true => exact absurd h c
          | false => rfl
        have hc : zT M j < u ∨ zE M b < zE M j ∨ zE M j = zE M b ∧ b ≤ j := Classical.byContradiction (of_decide_eq_false hf)
        refine sfj_t (nI 1) (fun k => ?_) ?_
        · by_cases d : zT M j < u
          · exact sfb_t (by rw [hp _ (by omega)]; exact d) rfl
          refine sfb_f (by rw [hp _ (by omega)]; exact d) (sfc1_i (e_endOf hV hr z) (sfc1_i (e_endOf hV hr hb) ?_))
          by_cases d2 : zE M b < zE M j
          · exact sfb_t (by rw [nI_ltP (by omega) (by omega)]; exact d2) rfl
          · exact sfb_f (by rw [nI_ltP (by omega) (by omega)]; exact d2) (sfc1_i (e_endOf hV hr z) (sfc1_i (e_endOf hV hr hb) (sfb_t (by rw [show zE M j = zE M b by omega]) (sfb_f (by rw [nI_ltP (by omega) (by omega)]; omega) rfl))))
        · refine sfn_r (y := nI (j + 1)) (nI_add j 1) ?_
          exact ih (j + 1) (by omega) (by omega) (by rw [zc_f hf]; exact h0)
    · have e : j = M 2 := by omega
      subst e
      rw [if_pos h0]
      exact sfb_t (by rw [b0, nI_leP (by omega) (by omega)]; omega) rfl
theorem lw12_b (hV : VW M U) (hr : RO M on ot op os sc sd sp sw gc gp gr bc bg bs bt be ql qg fc fg fs fm) {u : Nat} {p : Int32} (hp : ∀ x, x < 2 ^ 31 → (nI x < p) = (x < u)) {r : Nat} (hr0 : 0 < r) (hr1 : r < 100) (hcall : zeb (zT M) (zE M) u (M 2) < M 2 → f_L_watched_11 sc sd bc bs bt (nI (zE M (zeb (zT M) (zE M) u (M 2)))) = some (nI (r - 1))) : ∀ m j, j ≤ M 2 → M 2 - j < m → f_L_watched_12_L4 sc sd bc bs bt p (fun y => some y) m (nI j) (nI (if zeb (zT M) (zE M) u (M 2) < j then r else 0)) = some (nI (if zeb (zT M) (zE M) u (M 2) < M 2 then r else 0)) := by
  have v2 := hV.1.2.2.1
  have b0 := hr.2.2.2.1.1
  intro m
  induction m with
  | zero => intro j hj hm; omega
  | succ m ih =>
    intro j hj hm
    rw [f_L_watched_12_L4]
    refine sfc1_i (a := bc) rfl ?_
    rcases Nat.lt_or_ge j (M 2) with z | z
    · have hE := hV.2.2.2.2.1 j z
      have hH := (zHB_of hV hr.2.2.2.1).2 j z
      refine sfb_f (by rw [b0, nI_leP (by omega) (by omega)]; omega) ?_
      refine sfc1_i (a_start hV hr z).1 ?_
      have hiff := zbd0_iff (T := zT M) (E := zE M) (u := u) (n := M 2) (b := j) (by omega) z
      -- what the inner search says
      have hin : ∀ (K : Int32 → Option Int32), sf_b (nI (zT M j) < p) (f_L_watched_12_L31 sc sd bc bs bt p (nI j) K 2000 (0 : Int32) (0 : Int32)) (f_L_watched_12_L31 sc sd bc bs bt p (nI j) K 2000 (0 : Int32) (1 : Int32)) = K (nI (if j = zeb (zT M) (zE M) u (M 2) then 1 else 0)) := fun K => by
        by_cases d : zT M j < u
        · refine sfb_t (by rw [hp _ (by omega)]; exact d) ?_
          rw [if_neg (fun x => by have := (hiff.mpr x).1; omega)]
          rw [f_L_watched_12_L31]
          refine sfc1_i (a := bc) rfl ?_
          have hz : M 2 ≠ 0 := by omega
          exact sfb_f (by rw [b0, il_0, nI_leP (by omega) (by omega)]; omega) (sfb_t rfl rfl)
        · refine sfb_f (by rw [hp _ (by omega)]; exact d) ?_
          refine (lw12_a hV hr hp z (k := K) 2000 0 (Nat.zero_le _) (by omega) rfl).trans ?_
          by_cases e : j = zeb (zT M) (zE M) u (M 2)
          · rw [if_pos e, if_pos (hiff.mpr e).2]
          · rw [if_neg e, if_neg (fun x => e (hiff.mp ⟨by omega, x⟩))]
      refine Eq.trans (sf_bj _ _) ?_
      refine (hin _).trans ?_
      by_cases e : j = zeb (zT M) (zE M) u (M 2)
      · rw [if_pos e, if_neg (by omega)]
        have hc := hcall (by omega)
        rw [← e] at hc
        refine sfj_t (nI r) (fun k => sfb_f (by decide) (sfc1_i (e_endOf hV hr z) (sfc1_i hc ?_))) (sfn_r (y := nI (j + 1)) (nI_add j 1) ?_)
        · have e1 : (1 : Int32) + nI (r - 1) = nI r := by
            rw [il_1, nI_add, show 1 + (r - 1) = r by omega]
          rw [e1, if_pos (by rw [nI_ltP (by omega) (by omega)]; exact hr0)]
        · have h := ih (j + 1) (by omega) (by omega)
          rw [if_pos (by omega)] at h
          exact h
      · rw [if_neg e]
        refine sfj_t (nI (if zeb (zT M) (zE M) u (M 2) < j then r else 0)) (fun k => sfb_t rfl rfl) (sfn_r (y := nI (j + 1)) (nI_add j 1) ?_)
        have h := ih (j + 1) (by omega) (by omega)
        by_cases w : zeb (zT M) (zE M) u (M 2) < j
        · rw [if_pos (by omega)] at h
          rw [if_pos w]
          exact h
        · rw [if_neg (by omega)] at h
          rw [if_neg w]
          exact h
    · have e : j = M 2 := by omega
      subst e
      exact sfb_t (by rw [b0, nI_leP (by omega) (by omega)]; omega) rfl
theorem lw12 (hV : VW M U) (hr : RO M on ot op os sc sd sp sw gc gp gr bc bg bs bt be ql qg fc fg fs fm) {c : Nat} (hc : c ≤ M 2) (hg : zgc (zT M) (zE M) (M 2) c) : ∀ i p, (∀ x, x < 2 ^ 31 → (nI x < p) = (x < zes (zT M) (zE M) (M 2) i)) → i ≤ c → c - i ≤ 12 → f_L_watched_12 sc sd bc bs bt p = some (nI (c - i)) := by
  intro i p hp h1 h2
  have v2 := hV.1.2.2.1
  have hH := (zHB_of hV hr.2.2.2.1).2
  have hEI : ∀ k, k < M 2 → zE M k < zI := fun k hk => by
    have := (hH k hk).2.2.2.2.1
    unfold zI
    omega
  rcases zeb_ne (T := zT M) (E := zE M) (u := zes (zT M) (zE M) (M 2) i) (j := M 2) (by omega) hEI with ⟨z1, z2⟩ | ⟨z1, z2, z3⟩
  · have e : c - i = 0 := by
      rcases Nat.lt_or_ge i c with w | w
      · exact absurd z2 (hg.1 i w)
      · omega
    rw [e]
    have h := lw12_b hV hr hp (r := 1) (by omega) (by omega) (fun h => by omega) 2000 0 (Nat.zero_le _) (by omega)
    rw [if_neg (by omega), if_neg (by omega)] at h
    exact h
  · have hlt : i < c := by
      rcases Nat.lt_or_ge i c with w | w
      · exact w
      · have e : i = c := by omega
        have h3 : zne (zT M) (zE M) (zes (zT M) (zE M) (M 2) i) (M 2) = zI := by rw [e]; exact hg.2
        omega
    have hcl : f_L_watched_11 sc sd bc bs bt (nI (zE M (zeb (zT M) (zE M) (zes (zT M) (zE M) (M 2) i) (M 2)))) = some (nI (c - i - 1)) := by
      have h4 := lw11 hV hr hc hg (i + 1) (nI (zE M (zeb (zT M) (zE M) (zes (zT M) (zE M) (M 2) i) (M 2)))) (fun x hx => by
        have h5 := (hH _ z1).2.2.2.2.1
        rw [nI_ltP hx (by omega), z2]; rfl) (by omega) (by omega)
      rw [show c - i - 1 = c - (i + 1) by omega]
      exact h4
    have h := lw12_b hV hr hp (r := c - i) (by omega) (by omega) (fun _ => hcl) 2000 0 (Nat.zero_le _) (by omega)
    rw [if_neg (by omega), if_pos z1] at h
    exact h
theorem lw13_a (hV : VW M U) (hr : RO M on ot op os sc sd sp sw gc gp gr bc bg bs bt be ql qg fc fg fs fm) {u : Nat} {p : Int32} (hp : ∀ x, x < 2 ^ 31 → (nI x < p) = (x < u)) {b : Nat} (hb : b < M 2) {k : Int32 → Option Int32} : ∀ m j, j ≤ M 2 → M 2 - j < m → zc (zbd0 (zT M) (zE M) u b) j = 0 → f_L_watched_13_L31 sc sd bc bs bt p (nI b) k m (nI j) (nI 1) = k (nI (if zc (zbd0 (zT M) (zE M) u b) (M 2) = 0 then 1 else 0)) := by
  have v2 := hV.1.2.2.1
  have b0 := hr.2.2.2.1.1
  intro m
  induction m with
  | zero => intro j hj hm; omega
  | succ m ih =>
    intro j hj hm h0
    rw [f_L_watched_13_L31]
    refine sfc1_i (a := bc) rfl ?_
    rcases Nat.lt_or_ge j (M 2) with z | z
    · have hE := hV.2.2.2.2.1 j z
      have hEb := hV.2.2.2.2.1 b hb
      have hH := (zHB_of hV hr.2.2.2.1).2 j z
      have hHb := (zHB_of hV hr.2.2.2.1).2 b hb
      refine sfb_f (by rw [b0, nI_leP (by omega) (by omega)]; omega) (sfb_f (by decide) (sfc1_i (a_start hV hr z).1 ?_))
      by_cases c : zbd0 (zT M) (zE M) u b j = true
      · have hc : ¬ (zT M j < u ∨ zE M b < zE M j ∨ zE M j = zE M b ∧ b ≤ j) := of_decide_eq_true c
        rw [if_neg (by have := zc_pos (n := M 2) j z c; omega)]
        refine sfj_t (nI 0) (fun k => ?_) ?_
        · refine sfb_f (by rw [hp _ (by omega)]; omega) (sfc1_i (e_endOf hV hr z) (sfc1_i (e_endOf hV hr hb) (sfb_f (by rw [nI_ltP (by omega) (by omega)]; omega) (sfc1_i (e_endOf hV hr z) (sfc1_i (e_endOf hV hr hb) ?_)))))
          by_cases d : zE M j = zE M b
          · exact sfb_t (by rw [d]) (sfb_t (by rw [nI_ltP (by omega) (by omega)]; omega) rfl)
          · exact sfb_f (by rw [nI_eqP (by omega) (by omega)]; exact d) rfl
        · refine sfn_r (y := nI (j + 1)) (nI_add j 1) ?_
          cases m with
          | zero => omega
          | succ m =>
            rw [f_L_watched_13_L31]
            refine sfc1_i (a := bc) rfl ?_
            rcases Nat.lt_or_ge (j + 1) (M 2) with w | w
            · exact sfb_f (by rw [b0, nI_leP (by omega) (by omega)]; omega) (sfb_t rfl rfl)
            · exact sfb_t (by rw [b0, nI_leP (by omega) (by omega)]; omega) rfl
      · have hf : zbd0 (zT M) (zE M) u b j = false := by
          cases h : zbd0 (zT M) (zE M) u b j with
          | true => exact absurd h c
          | false => rfl
        have hc : zT M j < u ∨ zE M b < zE M j ∨ zE M j = zE M b ∧ b ≤ j := Classical.byContradiction (of_decide_eq_false hf)
        refine sfj_t (nI 1) (fun k => ?_) ?_
        · by_cases d : zT M j < u
          · exact sfb_t (by rw [hp _ (by omega)]; exact d) rfl
          refine sfb_f (by rw [hp _ (by omega)]; exact d) (sfc1_i (e_endOf hV hr z) (sfc1_i (e_endOf hV hr hb) ?_))
          by_cases d2 : zE M b < zE M j
          · exact sfb_t (by rw [nI_ltP (by omega) (by omega)]; exact d2) rfl
          · exact sfb_f (by rw [nI_ltP (by omega) (by omega)]; exact d2) (sfc1_i (e_endOf hV hr z) (sfc1_i (e_endOf hV hr hb) (sfb_t (by rw [show zE M j = zE M b by omega]) (sfb_f (by rw [nI_ltP (by omega) (by omega)]; omega) rfl))))
        · refine sfn_r (y := nI (j + 1)) (nI_add j 1) ?_
          exact ih (j + 1) (by omega) (by omega) (by rw [zc_f hf]; exact h0)
    · have e : j = M 2 := by omega
      subst e
      rw [if_pos h0]
      exact sfb_t (by rw [b0, nI_leP (by omega) (by omega)]; omega) rfl
theorem lw13_b (hV : VW M U) (hr : RO M on ot op os sc sd sp sw gc gp gr bc bg bs bt be ql qg fc fg fs fm) {u : Nat} {p : Int32} (hp : ∀ x, x < 2 ^ 31 → (nI x < p) = (x < u)) {r : Nat} (hr0 : 0 < r) (hr1 : r < 100) (hcall : zeb (zT M) (zE M) u (M 2) < M 2 → f_L_watched_12 sc sd bc bs bt (nI (zE M (zeb (zT M) (zE M) u (M 2)))) = some (nI (r - 1))) : ∀ m j, j ≤ M 2 → M 2 - j < m → f_L_watched_13_L4 sc sd bc bs bt p (fun y => some y) m (nI j) (nI (if zeb (zT M) (zE M) u (M 2) < j then r else 0)) = some (nI (if zeb (zT M) (zE M) u (M 2) < M 2 then r else 0)) := by
  have v2 := hV.1.2.2.1
  have b0 := hr.2.2.2.1.1
  intro m
  induction m with
  | zero => intro j hj hm; omega
  | succ m ih =>
    intro j hj hm
    rw [f_L_watched_13_L4]
    refine sfc1_i (a := bc) rfl ?_
    rcases Nat.lt_or_ge j (M 2) with z | z
    · have hE := hV.2.2.2.2.1 j z
      have hH := (zHB_of hV hr.2.2.2.1).2 j z
      refine sfb_f (by rw [b0, nI_leP (by omega) (by omega)]; omega) ?_
      refine sfc1_i (a_start hV hr z).1 ?_
      have hiff := zbd0_iff (T := zT M) (E := zE M) (u := u) (n := M 2) (b := j) (by omega) z
      -- what the inner search says
      have hin : ∀ (K : Int32 → Option Int32), sf_b (nI (zT M j) < p) (f_L_watched_13_L31 sc sd bc bs bt p (nI j) K 2000 (0 : Int32) (0 : Int32)) (f_L_watched_13_L31 sc sd bc bs bt p (nI j) K 2000 (0 : Int32) (1 : Int32)) = K (nI (if j = zeb (zT M) (zE M) u (M 2) then 1 else 0)) := fun K => by
        by_cases d : zT M j < u
        · refine sfb_t (by rw [hp _ (by omega)]; exact d) ?_
          rw [if_neg (fun x => by have := (hiff.mpr x).1; omega)]
          rw [f_L_watched_13_L31]
          refine sfc1_i (a := bc) rfl ?_
          have hz : M 2 ≠ 0 := by omega
          exact sfb_f (by rw [b0, il_0, nI_leP (by omega) (by omega)]; omega) (sfb_t rfl rfl)
        · refine sfb_f (by rw [hp _ (by omega)]; exact d) ?_
          refine (lw13_a hV hr hp z (k := K) 2000 0 (Nat.zero_le _) (by omega) rfl).trans ?_
          by_cases e : j = zeb (zT M) (zE M) u (M 2)
          · rw [if_pos e, if_pos (hiff.mpr e).2]
          · rw [if_neg e, if_neg (fun x => e (hiff.mp ⟨by omega, x⟩))]
      refine Eq.trans (sf_bj _ _) ?_
      refine (hin _).trans ?_
      by_cases e : j = zeb (zT M) (zE M) u (M 2)
      · rw [if_pos e, if_neg (by omega)]
        have hc := hcall (by omega)
        rw [← e] at hc
        refine sfj_t (nI r) (fun k => sfb_f (by decide) (sfc1_i (e_endOf hV hr z) (sfc1_i hc ?_))) (sfn_r (y := nI (j + 1)) (nI_add j 1) ?_)
        · have e1 : (1 : Int32) + nI (r - 1) = nI r := by
            rw [il_1, nI_add, show 1 + (r - 1) = r by omega]
          rw [e1, if_pos (by rw [nI_ltP (by omega) (by omega)]; exact hr0)]
        · have h := ih (j + 1) (by omega) (by omega)
          rw [if_pos (by omega)] at h
          exact h
      · rw [if_neg e]
        refine sfj_t (nI (if zeb (zT M) (zE M) u (M 2) < j then r else 0)) (fun k => sfb_t rfl rfl) (sfn_r (y := nI (j + 1)) (nI_add j 1) ?_)
        have h := ih (j + 1) (by omega) (by omega)
        by_cases w : zeb (zT M) (zE M) u (M 2) < j
        · rw [if_pos (by omega)] at h
          rw [if_pos w]
          exact h
        · rw [if_neg (by omega)] at h
          rw [if_neg w]
          exact h
    · have e : j = M 2 := by omega
      subst e
      exact sfb_t (by rw [b0, nI_leP (by omega) (by omega)]; omega) rfl
theorem lw13 (hV : VW M U) (hr : RO M on ot op os sc sd sp sw gc gp gr bc bg bs bt be ql qg fc fg fs fm) {c : Nat} (hc : c ≤ M 2) (hg : zgc (zT M) (zE M) (M 2) c) : ∀ i p, (∀ x, x < 2 ^ 31 → (nI x < p) = (x < zes (zT M) (zE M) (M 2) i)) → i ≤ c → c - i ≤ 13 → f_L_watched_13 sc sd bc bs bt p = some (nI (c - i)) := by
  intro i p hp h1 h2
  have v2 := hV.1.2.2.1
  have hH := (zHB_of hV hr.2.2.2.1).2
  have hEI : ∀ k, k < M 2 → zE M k < zI := fun k hk => by
    have := (hH k hk).2.2.2.2.1
    unfold zI
    omega
  rcases zeb_ne (T := zT M) (E := zE M) (u := zes (zT M) (zE M) (M 2) i) (j := M 2) (by omega) hEI with ⟨z1, z2⟩ | ⟨z1, z2, z3⟩
  · have e : c - i = 0 := by
      rcases Nat.lt_or_ge i c with w | w
      · exact absurd z2 (hg.1 i w)
      · omega
    rw [e]
    have h := lw13_b hV hr hp (r := 1) (by omega) (by omega) (fun h => by omega) 2000 0 (Nat.zero_le _) (by omega)
    rw [if_neg (by omega), if_neg (by omega)] at h
    exact h
  · have hlt : i < c := by
      rcases Nat.lt_or_ge i c with w | w
      · exact w
      · have e : i = c := by omega
        have h3 : zne (zT M) (zE M) (zes (zT M) (zE M) (M 2) i) (M 2) = zI := by rw [e]; exact hg.2
        omega
    have hcl : f_L_watched_12 sc sd bc bs bt (nI (zE M (zeb (zT M) (zE M) (zes (zT M) (zE M) (M 2) i) (M 2)))) = some (nI (c - i - 1)) := by
      have h4 := lw12 hV hr hc hg (i + 1) (nI (zE M (zeb (zT M) (zE M) (zes (zT M) (zE M) (M 2) i) (M 2)))) (fun x hx => by
        have h5 := (hH _ z1).2.2.2.2.1
        rw [nI_ltP hx (by omega), z2]; rfl) (by omega) (by omega)
      rw [show c - i - 1 = c - (i + 1) by omega]
      exact h4
    have h := lw13_b hV hr hp (r := c - i) (by omega) (by omega) (fun _ => hcl) 2000 0 (Nat.zero_le _) (by omega)
    rw [if_neg (by omega), if_pos z1] at h
    exact h
theorem a_watched (hV : VW M U) (hr : RO M on ot op os sc sd sp sw gc gp gr bc bg bs bt be ql qg fc fg fs fm) {c : Nat} (hc : c ≤ M 2) (hg : zgc (zT M) (zE M) (M 2) c) : f_L_watched_13 sc sd bc bs bt (-1) = some (nI c) := by
  have v2 := hV.1.2.2.1
  exact lw13 hV hr hc hg 0 (-1) (fun x hx => by
    refine propext ⟨fun h => ?_, fun h => absurd h (Nat.not_lt_zero x)⟩
    rw [il_1, Int32.lt_iff_toInt_lt, nI_toInt hx, nI_m1 (by omega) (by omega)] at h
    omega) (Nat.zero_le _) (by omega)
end WAT
