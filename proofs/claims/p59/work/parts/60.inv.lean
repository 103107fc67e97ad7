/-! what stays as it was -/
theorem OS_c {M M' : Nat → Nat} {sc : Int32} {sd sp sw : Nat → Int32} (h : OS M sc sd sp sw) (hn : M 0 ≤ 4) (e0 : M' 0 = M 0) (eD : ∀ x, x < 4 → zD M' x = zD M x) (eP : ∀ x, x < 4 → zP M' x = zP M x) (eW : ∀ x, x < 4 → zW M' x = zW M x) : OS M' sc sd sp sw := by
  refine ⟨by rw [e0]; exact h.1, fun k hk => ?_⟩
  rw [e0] at hk
  rw [eD k (by omega), eP k (by omega), eW k (by omega)]
  exact h.2 k hk
theorem OG_c {M M' : Nat → Nat} {gc : Int32} {gp gr : Nat → Int32} (h : OG M gc gp gr) (hn : M 1 ≤ 10) (e1 : M' 1 = M 1) (eC : ∀ x, x < 10 → zC M' x = zC M x) (eR : ∀ x, x < 10 → zR M' x = zR M x) : OG M' gc gp gr := by
  refine ⟨by rw [e1]; exact h.1, fun k hk => ?_⟩
  rw [e1] at hk
  rw [eC k (by omega), eR k (by omega)]
  exact h.2 k hk
theorem OB_c {M M' : Nat → Nat} {bc : Int32} {bg bs bt be : Nat → Int32} (h : OB M bc bg bs bt be) (hn : M 2 ≤ 12) (e2 : M' 2 = M 2) (eG : ∀ x, x < 12 → zG M' x = zG M x) (eS : ∀ x, x < 12 → zS M' x = zS M x) (eT : ∀ x, x < 12 → zT M' x = zT M x) (eD : ∀ x, x < M 2 → zD M' (zS M x) = zD M (zS M x)) : OB M' bc bg bs bt be := by
  refine ⟨by rw [e2]; exact h.1, fun k hk => ?_⟩
  rw [e2] at hk
  rw [zE, eG k (by omega), eS k (by omega), eT k (by omega), eD k hk]
  exact h.2 k hk
theorem OQ_c {M M' : Nat → Nat} {ql qg : Nat → Int32} (h : OQ M ql qg) (hn : ∀ k, k < 4 → zQ M k ≤ 5) (eQ : ∀ x, x < 4 → zQ M' x = zQ M x) (eq : ∀ x y, x < 4 → y < 5 → zq M' x y = zq M x y) : OQ M' ql qg := fun k hk => by
  have := hn k hk
  rw [eQ k hk]
  refine ⟨(h k hk).1, fun j hj => ?_⟩
  rw [eq k j hk (by omega)]
  exact (h k hk).2 j hj
theorem OF_c {M M' : Nat → Nat} {fc : Int32} {fg fs fm : Nat → Int32} (h : OF M fc fg fs fm) (hn : M 4 ≤ 16) (e4 : M' 4 = M 4) (eG : ∀ x, x < 16 → zFG M' x = zFG M x) (eS : ∀ x, x < 16 → zFS M' x = zFS M x) (eM : ∀ x, x < 16 → zFM M' x = zFM M x) : OF M' fc fg fs fm := by
  refine ⟨by rw [e4]; exact h.1, fun k hk => ?_⟩
  rw [e4] at hk ⊢
  rw [eG _ (by omega), eS _ (by omega), eM _ (by omega)]
  exact h.2 k hk
theorem VS_c {M M' : Nat → Nat} (h : VS M) (hn : M 0 ≤ 4) (e0 : M' 0 = M 0) (eD : ∀ x, x < 4 → zD M' x = zD M x) (eP : ∀ x, x < 4 → zP M' x = zP M x) (eW : ∀ x, x < 4 → zW M' x = zW M x) : VS M' := fun k hk => by
  rw [e0] at hk
  rw [eD k (by omega), eP k (by omega), eW k (by omega)]
  exact h k hk
theorem VR_c {M M' : Nat → Nat} {r : Nat} (h : VR M r) (hn : M 1 ≤ 10) (e1 : M' 1 = M 1) (eR : ∀ x, x < 10 → zR M' x = zR M x) : VR M' r := fun k hk => by
  rw [e1] at hk
  rw [eR k (by omega)]
  exact h k hk
theorem VQ_c {M M' : Nat → Nat} (h : VQ M) (hn1 : M 1 ≤ 10) (e0 : M' 0 = M 0) (e1 : M' 1 = M 1) (eQ : ∀ x, x < 4 → zQ M' x = zQ M x) (eq : ∀ x y, x < 4 → y < 5 → zq M' x y = zq M x y) (eV : ∀ x, x < 10 → zV M' x = zV M x) : VQ M' := by
  obtain ⟨h1, h2, h3, h4⟩ := h
  refine ⟨fun k hk => ?_, fun k hk j hj => ?_, fun k hk i j hi hj => ?_, fun g hg => ?_⟩
  · rw [eQ k hk, e0]; exact h1 k hk
  · rw [eQ k hk] at hj
    have := (h1 k hk).1
    have h5 := h2 k hk j hj
    rw [eq k j hk (by omega), e1, eV _ (by omega)]
    exact h5
  · rw [eQ k hk] at hj
    have := (h1 k hk).1
    rw [eq k i hk (by omega), eq k j hk (by omega)]
    exact h3 k hk i j hi hj
  · rw [e1] at hg
    obtain ⟨h5, h6⟩ := h4 g hg
    rw [eV g (by omega)]
    refine ⟨h5, fun hz => ?_⟩
    obtain ⟨j, h7, h8⟩ := h6 hz
    have := (h1 (zV M g - 1) (by omega)).1
    refine ⟨j, ?_, ?_⟩
    · rw [eQ _ (by omega)]; exact h7
    · rw [eq _ _ (by omega) (by omega)]; exact h8
theorem VF_c {M M' : Nat → Nat} (h : VF M) (hn : M 4 ≤ 16) (e3 : M 3 ≤ M' 3) (e4 : M' 4 = M 4) (eM : ∀ x, x < 16 → zFM M' x = zFM M x) (e0 : M 0 ≤ M' 0) (e1 : M 1 ≤ M' 1) (eG : ∀ x, x < 16 → zFG M' x = zFG M x) (eS : ∀ x, x < 16 → zFS M' x = zFS M x) (eR : ∀ x, x < M 1 → zR M' x = zR M x) (eN : ∀ g, M 1 ≤ g → g < M' 1 → zR M' g = 0) : VF M' := by
  refine ⟨fun k hk => ?_, fun i j hi hj => ?_, fun k hk => ?_, fun g hg => ?_⟩
  · rw [e4] at hk
    rw [eM k (by omega)]
    exact Nat.le_trans (h.1 k hk) e3
  · rw [e4] at hj
    rw [eM i (by omega), eM j (by omega)]
    exact h.2.1 i j hi hj
  · rw [e4] at hk
    have := h.2.2.1 k hk
    rw [eG k (by omega), eS k (by omega)]
    omega
  · have hc : zc (fun k => decide (zFG M' k = g)) (M 4) = zc (fun k => decide (zFG M k = g)) (M 4) := zc_congr (fun k hk => by
      show decide (zFG M' k = g) = decide (zFG M k = g)
      rw [eG k (by omega)])
    rw [e4, hc]
    rcases Nat.lt_or_ge g (M 1) with z | z
    · rw [eR g z]; exact h.2.2.2 g z
    · rw [eN g z hg]
      have h0 : zc (fun k => decide (zFG M k = g)) (M 4) = 0 := zc_none (fun k hk => by
        have := (h.2.2.1 k hk).1
        exact decide_eq_false (by omega))
      rw [h0]; exact ⟨Nat.le_refl _, fun _ => rfl⟩
/-- bookings as they were -/
theorem VBD_c {M M' : Nat → Nat} {e e' : Nat} (h : VB M e) (hd : VD M) (hn : M 2 ≤ 12) (hn0 : M 0 ≤ 4) (e0 : M 0 ≤ M' 0) (e1 : M 1 ≤ M' 1) (e2 : M' 2 = M 2) (e3 : M 3 ≤ M' 3) (he : e' ≤ e) (eG : ∀ x, x < 12 → zG M' x = zG M x) (eS : ∀ x, x < 12 → zS M' x = zS M x) (eT : ∀ x, x < 12 → zT M' x = zT M x) (eD : ∀ x, x < M 0 → zD M' x = zD M x) : VB M' e' ∧ VD M' := by
  have hE : ∀ k, k < M 2 → zE M' k = zE M k := fun k hk => by
    rw [zE, eS k (by omega), eT k (by omega), eD _ (h k hk).2.1, zE]
  refine ⟨fun k hk => ?_, fun i j hi hj hs => ?_⟩
  · rw [e2] at hk
    obtain ⟨a, b, c, d⟩ := h k hk
    rw [hE k hk, eG k (by omega), eS k (by omega), eT k (by omega)]
    omega
  · rw [e2] at hj
    rw [eG i (by omega), eG j (by omega), eS i (by omega), eS j (by omega)] at hs
    rw [hE i (by omega), hE j hj, eT i (by omega), eT j (by omega)]
    exact hd i j hi hj hs
/-- .. and the sum of what the open ones cost -/
theorem VO_c {M M' : Nat → Nat} {e : Nat} (h : VB M e) (hn : M 2 ≤ 12) (e2 : M' 2 = M 2) (eS : ∀ x, x < 12 → zS M' x = zS M x) (eP : ∀ x, x < M 0 → zP M' x = zP M x) : zs (fun k => zP M' (zS M' k)) (M' 2) = zs (fun k => zP M (zS M k)) (M 2) := by
  rw [e2]
  exact zs_congr (fun k hk => by
    show zP M' (zS M' k) = zP M (zS M k)
    rw [eS k (by omega), eP _ (h k hk).2.1])
def VP (M : Nat → Nat) (U r e : Nat) : Prop := V0 M U ∧ VS M ∧ VR M r ∧ VQ M ∧ VB M e ∧ VD M ∧ VF M ∧ VC M
/-- no booking of the guest or the slide meets the minutes from t on -/
def zfr (M : Nat → Nat) (g s t : Nat) : Prop := ∀ k, k < M 2 → (zG M k = g ∨ zS M k = s) → zE M k ≤ t ∨ t + zD M s ≤ zT M k
section INV
variable {M : Nat → Nat} {U r e : Nat}
theorem V_mk (h : VP M U r e) {g s t : Nat} (he : e ≤ M 3 + 1) (hg : g < M 1) (hs : s < M 0) (hn : M 2 < 12) (ht : M 3 ≤ t) (ht2 : t ≤ M 3 + 120) (hp : zP M s ≤ zC M g) (hf : zfr M g s t) : VP (zmk M g s t) U r e := by
  obtain ⟨⟨v0, v1, v2, v4, v3, vU⟩, hS, hR, hQ, hB, hD, hF, hC⟩ := h
  have hg' : g < 10 := by omega
  have hs' : s < 4 := by omega
  have eS : ∀ x, x < M 2 → zS (zmk M g s t) x = zS M x := fun x hx => mk_zSo hn hg' hs' (by omega) (by omega)
  have eT : ∀ x, x < M 2 → zT (zmk M g s t) x = zT M x := fun x hx => mk_zTo hn hg' hs' (by omega) (by omega)
  have eG : ∀ x, x < M 2 → zG (zmk M g s t) x = zG M x := fun x hx => mk_zGo hn hg' hs' (by omega) (by omega)
  have eE : ∀ x, x < M 2 → zE (zmk M g s t) x = zE M x := fun x hx => by
    rw [zE, eS x hx, eT x hx, mk_zD hn hg' hs' (by have := (hB x hx).2.1; omega), zE]
  have eEn : zE (zmk M g s t) (M 2) = t + zD M s := by
    rw [zE, mk_zSn hn hg' hs', mk_zTn hn hg' hs', mk_zD hn hg' hs' hs']
  have hSs := hS s hs
  refine ⟨?_, VS_c hS v0 (mk_0 hn hg' hs') (fun x hx => mk_zD hn hg' hs' hx) (fun x hx => mk_zP hn hg' hs' hx) (fun x hx => mk_zW hn hg' hs' hx), VR_c hR v1 (mk_1 hn hg' hs') (fun x hx => mk_zR hn hg' hs' hx), VQ_c hQ v1 (mk_0 hn hg' hs') (mk_1 hn hg' hs') (fun x hx => mk_zQ hn hg' hs' hx) (fun x y hx hy => mk_zq hn hg' hs' hx hy) (fun x hx => mk_zV hn hg' hs' hx), ?_, ?_, VF_c hF v4 (Nat.le_of_eq (mk_3 hn hg' hs').symm) (mk_4 hn hg' hs') (fun x hx => mk_zFM hn hg' hs' hx) (Nat.le_of_eq (mk_0 hn hg' hs').symm) (Nat.le_of_eq (mk_1 hn hg' hs').symm) (fun x hx => mk_zFG hn hg' hs' hx) (fun x hx => mk_zFS hn hg' hs' hx) (fun x hx => mk_zR hn hg' hs' (by omega)) (fun g h1 h2 => by rw [mk_1 hn hg' hs'] at h2; omega), ?_, ?_⟩
  · unfold V0
    rw [mk_0 hn hg' hs', mk_1 hn hg' hs', mk_2 hn hg' hs', mk_3 hn hg' hs', mk_4 hn hg' hs']
    omega
  · intro k hk
    rw [mk_2 hn hg' hs'] at hk
    rw [mk_0 hn hg' hs', mk_1 hn hg' hs', mk_3 hn hg' hs']
    rcases Nat.lt_or_ge k (M 2) with z | z
    · rw [eG k z, eS k z, eT k z, eE k z]
      exact hB k z
    · have : k = M 2 := by omega
      rw [this, mk_zGn hn hg' hs', mk_zSn hn hg' hs', mk_zTn hn hg' hs', eEn]
      omega
  · intro i j hi hj hsame
    rw [mk_2 hn hg' hs'] at hj
    rw [eG i (by omega), eS i (by omega)] at hsame
    rw [eE i (by omega), eT i (by omega)]
    rcases Nat.lt_or_ge j (M 2) with z | z
    · rw [eG j z, eS j z] at hsame
      rw [eE j z, eT j z]
      exact hD i j hi z hsame
    · have : j = M 2 := by omega
      rw [this, mk_zGn hn hg' hs', mk_zSn hn hg' hs'] at hsame
      rw [this, mk_zTn hn hg' hs', eEn]
      exact hf i (by omega) hsame
  · rw [mk_1 hn hg' hs', mk_7 hn hg' hs']
    have h1 := zs_set (f := zC (zmk M g s t)) (g := zC M) (n := M 1) g hg (fun k hk hne => mk_zCo hn hg' hs' (by omega) hne)
    rw [mk_zCn hn hg' hs'] at h1
    have h2 := hC.1
    omega
  · rw [mk_2 hn hg' hs', mk_7 hn hg' hs', zs]
    have h1 : zs (fun k => zP (zmk M g s t) (zS (zmk M g s t) k)) (M 2) = zs (fun k => zP M (zS M k)) (M 2) := zs_congr (fun k hk => by
      show zP (zmk M g s t) (zS (zmk M g s t) k) = zP M (zS M k)
      rw [eS k hk, mk_zP hn hg' hs' (by have := (hB k hk).2.1; omega)])
    rw [h1, mk_zSn hn hg' hs', mk_zP hn hg' hs' hs']
    have h2 := hC.2
    omega
/-- a booking less: what is left of the others -/
theorem VB_drop {M' : Nat → Nat} {b : Nat} (hn : M 2 ≤ 12) (hb : b < M 2) (hv0 : M 0 ≤ 4) (hB : VB M e) (hD : VD M) (e0 : M' 0 = M 0) (e1 : M' 1 = M 1) (e2 : M' 2 = M 2 - 1) (e3 : M' 3 = M 3) (eD : ∀ x, x < 4 → zD M' x = zD M x) (eP : ∀ x, x < 4 → zP M' x = zP M x) (lG : ∀ x, x < b → zG M' x = zG M x) (lS : ∀ x, x < b → zS M' x = zS M x) (lT : ∀ x, x < b → zT M' x = zT M x) (uG : ∀ x, b ≤ x → x + 1 < M 2 → zG M' x = zG M (x + 1)) (uS : ∀ x, b ≤ x → x + 1 < M 2 → zS M' x = zS M (x + 1)) (uT : ∀ x, b ≤ x → x + 1 < M 2 → zT M' x = zT M (x + 1)) : VB M' e ∧ VD M' ∧ zs (fun k => zP M' (zS M' k)) (M' 2) + zP M (zS M b) = zs (fun k => zP M (zS M k)) (M 2) ∧ (∀ x, x < M 2 - 1 → zG M' x = zG M (if x < b then x else x + 1) ∧ zS M' x = zS M (if x < b then x else x + 1) ∧ zT M' x = zT M (if x < b then x else x + 1) ∧ zE M' x = zE M (if x < b then x else x + 1)) := by
  have hall : ∀ x, x < M 2 - 1 → zG M' x = zG M (if x < b then x else x + 1) ∧ zS M' x = zS M (if x < b then x else x + 1) ∧ zT M' x = zT M (if x < b then x else x + 1) ∧ zE M' x = zE M (if x < b then x else x + 1) := fun x hx => by
    rcases Nat.lt_or_ge x b with z | z
    · rw [if_pos z, zE, zE, lG x z, lS x z, lT x z, eD _ (by have := (hB x (by omega)).2.1; omega)]
      exact ⟨rfl, rfl, rfl, rfl⟩
    · rw [if_neg (by omega), zE, zE, uG x z (by omega), uS x z (by omega), uT x z (by omega), eD _ (by have := (hB (x + 1) (by omega)).2.1; omega)]
      exact ⟨rfl, rfl, rfl, rfl⟩
  refine ⟨fun k hk => ?_, fun i j hi hj hsame => ?_, ?_, hall⟩
  · rw [e2] at hk
    obtain ⟨a1, a2, a3, a4⟩ := hall k hk
    rw [a1, a2, a3, a4, e0, e1, e3]
    exact hB _ (by split <;> omega)
  · rw [e2] at hj
    obtain ⟨a1, a2, a3, a4⟩ := hall i (by omega)
    obtain ⟨b1, b2, b3, b4⟩ := hall j hj
    rw [a1, a2, b1, b2] at hsame
    rw [a3, a4, b3, b4]
    exact hD _ _ (by split <;> split <;> omega) (by split <;> omega) hsame
  · rw [e2]
    have h1 : zs (fun k => zP M' (zS M' k)) (M 2 - 1) = zs (fun k => (fun j => zP M (zS M j)) (if k < b then k else k + 1)) (M 2 - 1) := zs_congr (fun k hk => by
      show zP M' (zS M' k) = zP M (zS M (if k < b then k else k + 1))
      rw [(hall k hk).2.1, eP _ (by have := (hB (if k < b then k else k + 1) (by split <;> omega)).2.1; omega)])
    rw [h1]
    have h2 := zs_drop (f := fun j => zP M (zS M j)) (n := M 2 - 1) b (by omega)
    rw [show M 2 - 1 + 1 = M 2 by omega] at h2
    exact h2
theorem V_open (h : VP M U r e) {b : Nat} (hb : b < M 2) : zP M (zS M b) ≤ M 7 := by
  obtain ⟨_, _, _, _, _, _, _, hC⟩ := h
  exact Nat.le_trans (zs_le (f := fun k => zP M (zS M k)) b hb) hC.2
theorem V_cn (h : VP M U r e) {b : Nat} (hb : b < M 2) : VP (zcn M b) U r e := by
  have ho := V_open h hb
  obtain ⟨⟨v0, v1, v2, v4, v3, vU⟩, hS, hR, hQ, hB, hD, hF, hC⟩ := h
  have hg : zG M b < 10 := by have := (hB b hb).1; omega
  have hs : zS M b < 4 := by have := (hB b hb).2.1; omega
  obtain ⟨B1, B2, B3, _⟩ := VB_drop (M' := zcn M b) v2 hb v0 hB hD (cn_0 v2 hb hg hs) (cn_1 v2 hb hg hs) (cn_2 v2 hb hg hs) (cn_3 v2 hb hg hs) (fun x hx => cn_zD v2 hb hg hs hx) (fun x hx => cn_zP v2 hb hg hs hx) (fun x hx => cn_zGl v2 hb hg hs hx) (fun x hx => cn_zSl v2 hb hg hs hx) (fun x hx => cn_zTl v2 hb hg hs hx) (fun x h1 h2 => cn_zGh v2 hb hg hs h1 h2) (fun x h1 h2 => cn_zSh v2 hb hg hs h1 h2) (fun x h1 h2 => cn_zTh v2 hb hg hs h1 h2)
  refine ⟨?_, VS_c hS v0 (cn_0 v2 hb hg hs) (fun x hx => cn_zD v2 hb hg hs hx) (fun x hx => cn_zP v2 hb hg hs hx) (fun x hx => cn_zW v2 hb hg hs hx), VR_c hR v1 (cn_1 v2 hb hg hs) (fun x hx => cn_zR v2 hb hg hs hx), VQ_c hQ v1 (cn_0 v2 hb hg hs) (cn_1 v2 hb hg hs) (fun x hx => cn_zQ v2 hb hg hs hx) (fun x y hx hy => cn_zq v2 hb hg hs hx hy) (fun x hx => cn_zV v2 hb hg hs hx), B1, B2, VF_c hF v4 (Nat.le_of_eq (cn_3 v2 hb hg hs).symm) (cn_4 v2 hb hg hs) (fun x hx => cn_zFM v2 hb hg hs hx) (Nat.le_of_eq (cn_0 v2 hb hg hs).symm) (Nat.le_of_eq (cn_1 v2 hb hg hs).symm) (fun x hx => cn_zFG v2 hb hg hs hx) (fun x hx => cn_zFS v2 hb hg hs hx) (fun x hx => cn_zR v2 hb hg hs (by omega)) (fun g h1 h2 => by rw [cn_1 v2 hb hg hs] at h2; omega), ?_, ?_⟩
  · unfold V0
    rw [cn_0 v2 hb hg hs, cn_1 v2 hb hg hs, cn_2 v2 hb hg hs, cn_3 v2 hb hg hs, cn_4 v2 hb hg hs]
    omega
  · rw [cn_1 v2 hb hg hs, cn_7 v2 hb hg hs]
    have h1 := zs_set (f := zC (zcn M b)) (g := zC M) (n := M 1) (zG M b) (hB b hb).1 (fun k hk hne => cn_zCo v2 hb hg hs (by omega) hne)
    rw [cn_zCn v2 hb hg hs] at h1
    have h2 := hC.1
    omega
  · have h2 := hC.2
    rw [cn_7 v2 hb hg hs]
    omega
theorem V_bd (h : VP M U r e) {d p : Nat} (hd : 1 ≤ d ∧ d ≤ 9) (hp : 1 ≤ p ∧ p ≤ 9) (hn : M 0 < 4) : VP (zbd M d p) U r e := by
  obtain ⟨⟨v0, v1, v2, v4, v3, vU⟩, hS, hR, hQ, hB, hD, hF, hC⟩ := h
  have hBD := VBD_c (M' := zbd M d p) hB hD v2 v0 (by rw [bd_0 hn]; omega) (Nat.le_of_eq (bd_1 hn).symm) (bd_2 hn) (Nat.le_of_eq (bd_3 hn).symm) (Nat.le_refl e) (fun x hx => bd_zG hn hx) (fun x hx => bd_zS hn hx) (fun x hx => bd_zT hn hx) (fun x hx => bd_zDo hn (by omega) (by omega))
  refine ⟨?_, ?_, VR_c hR v1 (bd_1 hn) (fun x hx => bd_zR hn hx), ?_, hBD.1, hBD.2, VF_c hF v4 (Nat.le_of_eq (bd_3 hn).symm) (bd_4 hn) (fun x hx => bd_zFM hn hx) (by rw [bd_0 hn]; omega) (Nat.le_of_eq (bd_1 hn).symm) (fun x hx => bd_zFG hn hx) (fun x hx => bd_zFS hn hx) (fun x hx => bd_zR hn (by omega)) (fun g h1 h2 => by rw [bd_1 hn] at h2; omega), ?_, ?_⟩
  · unfold V0
    rw [bd_0 hn, bd_1 hn, bd_2 hn, bd_3 hn, bd_4 hn]
    omega
  · intro k hk
    rw [bd_0 hn] at hk
    rcases Nat.lt_or_ge k (M 0) with z | z
    · rw [bd_zDo hn (by omega) (by omega), bd_zPo hn (by omega) (by omega), bd_zWo hn (by omega) (by omega)]
      exact hS k z
    · have : k = M 0 := by omega
      rw [this, bd_zDn hn, bd_zPn hn, bd_zWn hn]
      omega
  · obtain ⟨h1, h2, h3, h4⟩ := hQ
    have q0 : zQ M (M 0) = 0 := (h1 (M 0) hn).2 (Nat.le_refl _)
    have eQ : ∀ x, x < 4 → zQ (zbd M d p) x = zQ M x := fun x hx => by
      rcases Nat.decEq x (M 0) with z | z
      · exact bd_zQo hn hx z
      · rw [z, bd_zQn hn, q0]
    have eq : ∀ x y, x < 4 → y < zQ M x → zq (zbd M d p) x y = zq M x y := fun x y hx hy => by
      refine bd_zqo hn hx ?_ (fun e2 => ?_)
      · have := (h1 x hx).1; omega
      · rw [e2, q0] at hy; omega
    refine ⟨fun k hk => ?_, fun k hk j hj => ?_, fun k hk i j hi hj => ?_, fun g hg => ?_⟩
    · rw [eQ k hk, bd_0 hn]
      have := h1 k hk
      refine ⟨this.1, fun h5 => this.2 (by omega)⟩
    · rw [eQ k hk] at hj
      have h5 := h2 k hk j hj
      rw [eq k j hk hj, bd_1 hn, bd_zV hn (by omega)]
      exact h5
    · rw [eQ k hk] at hj
      rw [eq k i hk (by omega), eq k j hk hj]
      exact h3 k hk i j hi hj
    · rw [bd_1 hn] at hg
      obtain ⟨h5, h6⟩ := h4 g hg
      rw [bd_zV hn (by omega)]
      refine ⟨h5, fun hz => ?_⟩
      obtain ⟨j, h7, h8⟩ := h6 hz
      refine ⟨j, ?_, ?_⟩
      · rw [eQ _ (by omega)]; exact h7
      · rw [eq _ _ (by omega) h7]; exact h8
  · rw [bd_1 hn, bd_7 hn]
    have h1 : zs (zC (zbd M d p)) (M 1) = zs (zC M) (M 1) := zs_congr (fun k hk => bd_zC hn (by omega))
    rw [h1]; exact hC.1
  · rw [VO_c hB v2 (bd_2 hn) (fun x hx => bd_zS hn hx) (fun x hx => bd_zPo hn (by omega) (by omega)), bd_7 hn]
    exact hC.2
theorem V_gu (h : VP M U r e) (hn : M 1 < 10) : VP (zgu M) U r e := by
  obtain ⟨⟨v0, v1, v2, v4, v3, vU⟩, hS, hR, hQ, hB, hD, hF, hC⟩ := h
  have hBD := VBD_c (M' := zgu M) hB hD v2 v0 (Nat.le_of_eq (gu_0 hn).symm) (by rw [gu_1 hn]; omega) (gu_2 hn) (Nat.le_of_eq (gu_3 hn).symm) (Nat.le_refl e) (fun x hx => gu_zG hn hx) (fun x hx => gu_zS hn hx) (fun x hx => gu_zT hn hx) (fun x hx => gu_zD hn (by omega))
  refine ⟨?_, VS_c hS v0 (gu_0 hn) (fun x hx => gu_zD hn hx) (fun x hx => gu_zP hn hx) (fun x hx => gu_zW hn hx), ?_, ?_, hBD.1, hBD.2, VF_c hF v4 (Nat.le_of_eq (gu_3 hn).symm) (gu_4 hn) (fun x hx => gu_zFM hn hx) (Nat.le_of_eq (gu_0 hn).symm) (by rw [gu_1 hn]; omega) (fun x hx => gu_zFG hn hx) (fun x hx => gu_zFS hn hx) (fun x hx => gu_zRo hn (by omega) (by omega)) (fun g h1 h2 => by rw [gu_1 hn] at h2; rw [show g = M 1 by omega]; exact gu_zRn hn), ?_, ?_⟩
  · unfold V0
    rw [gu_0 hn, gu_1 hn, gu_2 hn, gu_3 hn, gu_4 hn]
    omega
  · intro k hk
    rw [gu_1 hn] at hk
    rcases Nat.lt_or_ge k (M 1) with z | z
    · rw [gu_zRo hn (by omega) (by omega)]
      exact hR k z
    · have : k = M 1 := by omega
      rw [this, gu_zRn hn]
      exact Nat.zero_le _
  · obtain ⟨h1, h2, h3, h4⟩ := hQ
    refine ⟨fun k hk => ?_, fun k hk j hj => ?_, fun k hk i j hi hj => ?_, fun g hg => ?_⟩
    · rw [gu_zQ hn hk, gu_0 hn]; exact h1 k hk
    · rw [gu_zQ hn hk] at hj
      have h5 := h2 k hk j hj
      have := (h1 k hk).1
      rw [gu_zq hn hk (by omega), gu_1 hn, gu_zVo hn (by omega) (by omega)]
      exact ⟨by omega, h5.2⟩
    · rw [gu_zQ hn hk] at hj
      have := (h1 k hk).1
      rw [gu_zq hn hk (by omega), gu_zq hn hk (by omega)]
      exact h3 k hk i j hi hj
    · rw [gu_1 hn] at hg
      rcases Nat.lt_or_ge g (M 1) with z | z
      · obtain ⟨h5, h6⟩ := h4 g z
        rw [gu_zVo hn (by omega) (by omega)]
        refine ⟨h5, fun hz => ?_⟩
        obtain ⟨j, h7, h8⟩ := h6 hz
        have := (h1 (zV M g - 1) (by omega)).1
        refine ⟨j, ?_, ?_⟩
        · rw [gu_zQ hn (by omega)]; exact h7
        · rw [gu_zq hn (by omega) (by omega)]; exact h8
      · have : g = M 1 := by omega
        rw [this, gu_zVn hn]
        exact ⟨Nat.zero_le _, fun hz => absurd rfl hz⟩
  · rw [gu_1 hn, gu_7 hn, zs, gu_zCn hn]
    have h1 : zs (zC (zgu M)) (M 1) = zs (zC M) (M 1) := zs_congr (fun k hk => gu_zCo hn (by omega) (by omega))
    have h2 := hC.1
    rw [h1]; omega
  · rw [VO_c hB v2 (gu_2 hn) (fun x hx => gu_zS hn hx) (fun x hx => gu_zP hn (by omega)), gu_7 hn]
    exact hC.2
theorem V_jn (h : VP M U r e) {g s : Nat} (hg : g < M 1) (hs : s < M 0) (hv : zV M g = 0) (hq : zQ M s < 5) : VP (zjn M g s) U r e := by
  obtain ⟨⟨v0, v1, v2, v4, v3, vU⟩, hS, hR, hQ, hB, hD, hF, hC⟩ := h
  have hg' : g < 10 := by omega
  have hs' : s < 4 := by omega
  have hBD := VBD_c (M' := zjn M g s) hB hD v2 v0 (Nat.le_of_eq (jn_0 hg' hs' hq).symm) (Nat.le_of_eq (jn_1 hg' hs' hq).symm) (jn_2 hg' hs' hq) (Nat.le_of_eq (jn_3 hg' hs' hq).symm) (Nat.le_refl e) (fun x hx => jn_zG hg' hs' hq hx) (fun x hx => jn_zS hg' hs' hq hx) (fun x hx => jn_zT hg' hs' hq hx) (fun x hx => jn_zD hg' hs' hq (by omega))
  refine ⟨?_, VS_c hS v0 (jn_0 hg' hs' hq) (fun x hx => jn_zD hg' hs' hq hx) (fun x hx => jn_zP hg' hs' hq hx) (fun x hx => jn_zW hg' hs' hq hx), VR_c hR v1 (jn_1 hg' hs' hq) (fun x hx => jn_zR hg' hs' hq hx), ?_, hBD.1, hBD.2, VF_c hF v4 (Nat.le_of_eq (jn_3 hg' hs' hq).symm) (jn_4 hg' hs' hq) (fun x hx => jn_zFM hg' hs' hq hx) (Nat.le_of_eq (jn_0 hg' hs' hq).symm) (Nat.le_of_eq (jn_1 hg' hs' hq).symm) (fun x hx => jn_zFG hg' hs' hq hx) (fun x hx => jn_zFS hg' hs' hq hx) (fun x hx => jn_zR hg' hs' hq (by omega)) (fun g h1 h2 => by rw [jn_1 hg' hs' hq] at h2; omega), ?_, ?_⟩
  · unfold V0
    rw [jn_0 hg' hs' hq, jn_1 hg' hs' hq, jn_2 hg' hs' hq, jn_3 hg' hs' hq, jn_4 hg' hs' hq]
    omega
  · obtain ⟨h1, h2, h3, h4⟩ := hQ
    have nin : ∀ k, k < 4 → ∀ j, j < zQ M k → zq M k j ≠ g := fun k hk j hj e2 => by
      have := (h2 k hk j hj).2
      rw [e2, hv] at this
      omega
    have eqo : ∀ k j, k < 4 → j < zQ M k → zq (zjn M g s) k j = zq M k j := fun k j hk hj => by
      have := (h1 k hk).1
      refine jn_zqo hg' hs' hq hk (by omega) ?_
      rcases Nat.decEq k s with z | z
      · exact Or.inl z
      · subst z; exact Or.inr (by omega)
    refine ⟨fun k hk => ?_, fun k hk j hj => ?_, fun k hk i j hi hj => ?_, fun x hx => ?_⟩
    · rw [jn_0 hg' hs' hq]
      rcases Nat.decEq k s with z | z
      · rw [jn_zQo hg' hs' hq hk z]; exact h1 k hk
      · rw [z, jn_zQn hg' hs' hq]
        exact ⟨by omega, fun h5 => by omega⟩
    · rw [jn_1 hg' hs' hq]
      have old : j < zQ M k → zq (zjn M g s) k j < M 1 ∧ zV (zjn M g s) (zq (zjn M g s) k j) = k + 1 := fun hj' => by
        have h5 := h2 k hk j hj'
        rw [eqo k j hk hj', jn_zVo hg' hs' hq (by omega) (nin k hk j hj')]
        exact h5
      rcases Nat.decEq k s with z | z
      · rw [jn_zQo hg' hs' hq hk z] at hj
        exact old hj
      · rw [z, jn_zQn hg' hs' hq] at hj
        rcases Nat.lt_or_ge j (zQ M s) with y | y
        · exact old (by rw [z]; exact y)
        · have : j = zQ M s := by omega
          rw [this, z, jn_zqn hg' hs' hq, jn_zVn hg' hs' hq]
          exact ⟨hg, rfl⟩
    · have old : j < zQ M k → zq (zjn M g s) k i ≠ zq (zjn M g s) k j := fun hj' => by
        rw [eqo k i hk (by omega), eqo k j hk hj']
        exact h3 k hk i j hi hj'
      rcases Nat.decEq k s with z | z
      · rw [jn_zQo hg' hs' hq hk z] at hj
        exact old hj
      · rw [z, jn_zQn hg' hs' hq] at hj
        rcases Nat.lt_or_ge j (zQ M s) with y | y
        · exact old (by rw [z]; exact y)
        · have : j = zQ M s := by omega
          rw [this, z, jn_zqn hg' hs' hq, eqo s i hs' (by omega)]
          exact nin s hs' i (by omega)
    · rw [jn_1 hg' hs' hq] at hx
      rcases Nat.decEq x g with z | z
      · obtain ⟨h5, h6⟩ := h4 x hx
        rw [jn_zVo hg' hs' hq (by omega) z]
        refine ⟨h5, fun hz => ?_⟩
        obtain ⟨j, h7, h8⟩ := h6 hz
        refine ⟨j, ?_, ?_⟩
        · rcases Nat.decEq (zV M x - 1) s with y | y
          · rw [jn_zQo hg' hs' hq (by omega) y]; exact h7
          · rw [y] at h7
            rw [y, jn_zQn hg' hs' hq]; omega
        · rw [eqo _ j (by omega) h7]; exact h8
      · rw [z, jn_zVn hg' hs' hq]
        refine ⟨by omega, fun _ => ⟨zQ M s, ?_, ?_⟩⟩
        · rw [show s + 1 - 1 = s by omega, jn_zQn hg' hs' hq]; omega
        · rw [show s + 1 - 1 = s by omega, jn_zqn hg' hs' hq]
  · rw [jn_1 hg' hs' hq, jn_7 hg' hs' hq]
    have h1 : zs (zC (zjn M g s)) (M 1) = zs (zC M) (M 1) := zs_congr (fun k hk => jn_zC hg' hs' hq (by omega))
    rw [h1]; exact hC.1
  · rw [VO_c hB v2 (jn_2 hg' hs' hq) (fun x hx => jn_zS hg' hs' hq hx) (fun x hx => jn_zP hg' hs' hq (by omega)), jn_7 hg' hs' hq]
    exact hC.2
theorem V_lv (h : VP M U r e) {g s p : Nat} (hs : s < 4) (hp : p < zQ M s) (hpg : zq M s p = g) : VP (zlv M s p g) U r e := by
  obtain ⟨⟨v0, v1, v2, v4, v3, vU⟩, hS, hR, hQ, hB, hD, hF, hC⟩ := h
  have hq := (hQ.1 s hs).1
  have hgg := hQ.2.1 s hs p hp
  rw [hpg] at hgg
  have hg' : g < 10 := by omega
  have hBD := VBD_c (M' := zlv M s p g) hB hD v2 v0 (Nat.le_of_eq (qv_0 hg' hs hq hp).symm) (Nat.le_of_eq (qv_1 hg' hs hq hp).symm) (qv_2 hg' hs hq hp) (Nat.le_of_eq (qv_3 hg' hs hq hp).symm) (Nat.le_refl e) (fun x hx => qv_zG hg' hs hq hp hx) (fun x hx => qv_zS hg' hs hq hp hx) (fun x hx => qv_zT hg' hs hq hp hx) (fun x hx => qv_zD hg' hs hq hp (by omega))
  refine ⟨?_, VS_c hS v0 (qv_0 hg' hs hq hp) (fun x hx => qv_zD hg' hs hq hp hx) (fun x hx => qv_zP hg' hs hq hp hx) (fun x hx => qv_zW hg' hs hq hp hx), VR_c hR v1 (qv_1 hg' hs hq hp) (fun x hx => qv_zR hg' hs hq hp hx), ?_, hBD.1, hBD.2, VF_c hF v4 (Nat.le_of_eq (qv_3 hg' hs hq hp).symm) (qv_4 hg' hs hq hp) (fun x hx => qv_zFM hg' hs hq hp hx) (Nat.le_of_eq (qv_0 hg' hs hq hp).symm) (Nat.le_of_eq (qv_1 hg' hs hq hp).symm) (fun x hx => qv_zFG hg' hs hq hp hx) (fun x hx => qv_zFS hg' hs hq hp hx) (fun x hx => qv_zR hg' hs hq hp (by omega)) (fun g h1 h2 => by rw [qv_1 hg' hs hq hp] at h2; omega), ?_, ?_⟩
  · unfold V0
    rw [qv_0 hg' hs hq hp, qv_1 hg' hs hq hp, qv_2 hg' hs hq hp, qv_3 hg' hs hq hp, qv_4 hg' hs hq hp]
    omega
  · obtain ⟨h1, h2, h3, h4⟩ := hQ
    -- the new row of s, by old places
    have eqs : ∀ j, j + 1 < zQ M s → zq (zlv M s p g) s j = zq M s (if j < p then j else j + 1) := fun j hj => by
      rcases Nat.lt_or_ge j p with z | z
      · rw [if_pos z]; exact qv_zqo hg' hs hq hp hs (by omega) (Or.inr (Or.inl z))
      · rw [if_neg (by omega)]; exact qv_zqh hg' hs hq hp z hj
    have eqo : ∀ k j, k < 4 → k ≠ s → j < zQ M k → zq (zlv M s p g) k j = zq M k j := fun k j hk hne hj => by
      have := (h1 k hk).1
      exact qv_zqo hg' hs hq hp hk (by omega) (Or.inl hne)
    have one : ∀ j, j < zQ M s → j ≠ p → zq M s j ≠ g := fun j hj hne e2 => by
      rcases Nat.lt_or_ge j p with z | z
      · exact h3 s hs j p z hp (by omega)
      · exact h3 s hs p j (by omega) hj (by omega)
    refine ⟨fun k hk => ?_, fun k hk j hj => ?_, fun k hk i j hi hj => ?_, fun x hx => ?_⟩
    · rw [qv_0 hg' hs hq hp]
      rcases Nat.decEq k s with z | z
      · rw [qv_zQo hg' hs hq hp hk z]; exact h1 k hk
      · rw [z, qv_zQn hg' hs hq hp]
        have := h1 s hs
        exact ⟨by omega, fun h5 => by have := this.2 h5; omega⟩
    · rw [qv_1 hg' hs hq hp]
      rcases Nat.decEq k s with z | z
      · rw [qv_zQo hg' hs hq hp hk z] at hj
        have h5 := h2 k hk j hj
        have hne : zq M k j ≠ g := fun e2 => by
          rw [e2] at h5
          omega
        rw [eqo k j hk z hj, qv_zVo hg' hs hq hp (by omega) hne]
        exact h5
      · rw [z, qv_zQn hg' hs hq hp] at hj
        rw [z, eqs j (by omega)]
        have h5 := h2 s hs (if j < p then j else j + 1) (by split <;> omega)
        rw [qv_zVo hg' hs hq hp (by omega) (one _ (by split <;> omega) (by split <;> omega))]
        exact h5
    · rcases Nat.decEq k s with z | z
      · rw [qv_zQo hg' hs hq hp hk z] at hj
        rw [eqo k i hk z (by omega), eqo k j hk z hj]
        exact h3 k hk i j hi hj
      · rw [z, qv_zQn hg' hs hq hp] at hj
        rw [z, eqs i (by omega), eqs j (by omega)]
        exact h3 s hs _ _ (by split <;> split <;> omega) (by split <;> omega)
    · rw [qv_1 hg' hs hq hp] at hx
      rcases Nat.decEq x g with z | z
      · obtain ⟨h5, h6⟩ := h4 x hx
        rw [qv_zVo hg' hs hq hp (by omega) z]
        refine ⟨h5, fun hz => ?_⟩
        obtain ⟨j, h7, h8⟩ := h6 hz
        rcases Nat.decEq (zV M x - 1) s with y | y
        · refine ⟨j, ?_, ?_⟩
          · rw [qv_zQo hg' hs hq hp (by omega) y]; exact h7
          · rw [eqo _ j (by omega) y h7]; exact h8
        · rw [y] at h7 h8 ⊢
          have hjp : j ≠ p := fun e2 => by
            subst e2
            omega
          refine ⟨if j < p then j else j - 1, ?_, ?_⟩
          · rw [qv_zQn hg' hs hq hp]; split <;> omega
          · rw [eqs _ (by split <;> omega)]
            rcases Nat.lt_or_ge j p with w | w
            · rw [if_pos w, if_pos w]; exact h8
            · rw [if_neg (by omega : ¬ j < p), if_neg (by omega), show j - 1 + 1 = j by omega]; exact h8
      · rw [z, qv_zVn hg' hs hq hp]
        exact ⟨Nat.zero_le _, fun hz => absurd rfl hz⟩
  · rw [qv_1 hg' hs hq hp, qv_7 hg' hs hq hp]
    have h1 : zs (zC (zlv M s p g)) (M 1) = zs (zC M) (M 1) := zs_congr (fun k hk => qv_zC hg' hs hq hp (by omega))
    rw [h1]; exact hC.1
  · rw [VO_c hB v2 (qv_2 hg' hs hq hp) (fun x hx => qv_zS hg' hs hq hp hx) (fun x hx => qv_zP hg' hs hq hp (by omega)), qv_7 hg' hs hq hp]
    exact hC.2
theorem V_dy (h : VP M U r e) {s w : Nat} (hs : s < M 0) (hw : w ≤ 9) : VP (zdy M s w) U r e := by
  obtain ⟨⟨v0, v1, v2, v4, v3, vU⟩, hS, hR, hQ, hB, hD, hF, hC⟩ := h
  have hs' : s < 4 := by omega
  have hBD := VBD_c (M' := zdy M s w) hB hD v2 v0 (Nat.le_of_eq (dy_0 hs').symm) (Nat.le_of_eq (dy_1 hs').symm) (dy_2 hs') (Nat.le_of_eq (dy_3 hs').symm) (Nat.le_refl e) (fun x hx => dy_zG hs' hx) (fun x hx => dy_zS hs' hx) (fun x hx => dy_zT hs' hx) (fun x hx => dy_zD hs' (by omega))
  refine ⟨?_, ?_, VR_c hR v1 (dy_1 hs') (fun x hx => dy_zR hs' hx), VQ_c hQ v1 (dy_0 hs') (dy_1 hs') (fun x hx => dy_zQ hs' hx) (fun x y hx hy => dy_zq hs' hx hy) (fun x hx => dy_zV hs' hx), hBD.1, hBD.2, VF_c hF v4 (Nat.le_of_eq (dy_3 hs').symm) (dy_4 hs') (fun x hx => dy_zFM hs' hx) (Nat.le_of_eq (dy_0 hs').symm) (Nat.le_of_eq (dy_1 hs').symm) (fun x hx => dy_zFG hs' hx) (fun x hx => dy_zFS hs' hx) (fun x hx => dy_zR hs' (by omega)) (fun g h1 h2 => by rw [dy_1 hs'] at h2; omega), ?_, ?_⟩
  · unfold V0
    rw [dy_0 hs', dy_1 hs', dy_2 hs', dy_3 hs', dy_4 hs']
    omega
  · intro k hk
    rw [dy_0 hs'] at hk
    have := hS k hk
    rw [dy_zD hs' (by omega), dy_zP hs' (by omega)]
    rcases Nat.decEq k s with z | z
    · rw [dy_zWo hs' (by omega) z]; exact this
    · rw [z, dy_zWn hs']
      rw [z] at this
      omega
  · rw [dy_1 hs', dy_7 hs']
    have h1 : zs (zC (zdy M s w)) (M 1) = zs (zC M) (M 1) := zs_congr (fun k hk => dy_zC hs' (by omega))
    rw [h1]; exact hC.1
  · rw [VO_c hB v2 (dy_2 hs') (fun x hx => dy_zS hs' hx) (fun x hx => dy_zP hs' (by omega)), dy_7 hs']
    exact hC.2
theorem V_tk (h : VP M U r e) : VP (ztk M) (U + 1) r e ∨ 4000000 < U + 1 := by
  obtain ⟨⟨v0, v1, v2, v4, v3, vU⟩, hS, hR, hQ, hB, hD, hF, hC⟩ := h
  rcases Nat.lt_or_ge 4000000 (U + 1) with z | z
  · exact Or.inr z
  left
  have hBD := VBD_c (M' := ztk M) hB hD v2 v0 (Nat.le_of_eq tk_0.symm) (Nat.le_of_eq tk_1.symm) tk_2 (by rw [tk_3]; omega) (Nat.le_refl e) (fun x hx => tk_zG hx) (fun x hx => tk_zS hx) (fun x hx => tk_zT hx) (fun x hx => tk_zD (by omega))
  refine ⟨?_, VS_c hS v0 tk_0 (fun x hx => tk_zD hx) (fun x hx => tk_zP hx) (fun x hx => tk_zW hx), VR_c hR v1 tk_1 (fun x hx => tk_zR hx), VQ_c hQ v1 tk_0 tk_1 (fun x hx => tk_zQ hx) (fun x y hx hy => tk_zq hx hy) (fun x hx => tk_zV hx), hBD.1, hBD.2, VF_c hF v4 (by rw [tk_3]; omega) tk_4 (fun x hx => tk_zFM hx) (Nat.le_of_eq (tk_0).symm) (Nat.le_of_eq (tk_1).symm) (fun x hx => tk_zFG hx) (fun x hx => tk_zFS hx) (fun x hx => tk_zR (by omega)) (fun g h1 h2 => by rw [tk_1] at h2; omega), ?_, ?_⟩
  · unfold V0
    rw [tk_0, tk_1, tk_2, tk_3, tk_4]
    omega
  · rw [tk_1, tk_7]
    have h1 : zs (zC (ztk M)) (M 1) = zs (zC M) (M 1) := zs_congr (fun k hk => tk_zC (by omega))
    rw [h1]; exact hC.1
  · rw [VO_c hB v2 tk_2 (fun x hx => tk_zS hx) (fun x hx => tk_zP (by omega)), tk_7]
    exact hC.2
end INV
