/-! the whole text, read by both -/
theorem sfc4_i {α γ δ ε ζ : Type} {x : Option (γ × δ × ε × ζ)} {k : γ → δ → ε → ζ → Option α} {R : Option α} {a : γ} {b : δ} {c : ε} {d : ζ} (h : x = some (a, b, c, d)) (h2 : k a b c d = R) : sf_c4 x k = R := by subst h; exact h2
/-- the commands from the k-th to the last, where each begins, and what the model noted of them -/
def PRG (ts : Nat → Int32) (l k N : Nat) (P I : Nat → Nat) (V : Nat → Nat → Nat) (mc : Nat → Int32) : Prop := ∀ j, k ≤ j → j < N → I j < 7 ∧ (∀ x, V j x < 10000) ∧ (∀ tn, ∃ tn', f_X4_readCommand ts (nI l) (nI (P j)) tn (nI j) = some (some (I j), nI (P (j + 1)), tn') ∧ NUMS (I j) (V j) tn') ∧ CMDS (I j) (V j) j mc
section PR4
variable {c : Nat → Nat} {l : Nat} {ts mI : Nat → Int32}
theorem rc_0 {p : Int32} {tn : Nat → Int32} {tl : Int32} : f_X4_readCommand ts tl p tn (nI 0) = zCore ts tl p tn := by
  rw [f_X4_readCommand]
  exact sfb_t (by decide) rfl
theorem rc_s (h : TT c l ts mI) {p k : Nat} (hp : p ≤ l) (hk : 1 ≤ k) (hk2 : k < 100) (tn : Nat → Int32) : (p < l ∧ c p = 59 → f_X4_readCommand ts (nI l) (nI p) tn (nI k) = zCore ts (nI l) (nI (p + 1)) tn) ∧ (¬ (p < l ∧ c p = 59) → f_X4_readCommand ts (nI l) (nI p) tn (nI k) = some (none, nI p, tn)) := by
  have hs := fx_sign h hp (x := 59) (by omega)
  have e0 : ¬ nI k ≤ (0 : Int32) := by rw [il_0, nI_leP (by omega) (by omega)]; omega
  constructor
  · intro z
    rw [f_X4_readCommand]
    refine sfb_f e0 ?_
    exact sfc2_i (hs.1 z) (sfb_f (by decide) rfl)
  · intro z
    rw [f_X4_readCommand]
    refine sfb_f e0 ?_
    exact sfc2_i (hs.2 z) (sfb_t (by decide) rfl)
theorem CMDS_c {i k : Nat} {V : Nat → Nat} {mc mc' : Nat → Int32} (h : CMDS i V k mc) (hi : i < 7) (e : ∀ x, x < 4 * (k + 1) → mc' x = mc x) : CMDS i V k mc' := by
  have h3 := (zN_v i hi).2.2.1
  exact ⟨by rw [e _ (by omega)]; exact h.1, fun j hj => by rw [e _ (by omega)]; exact h.2 j hj⟩
theorem lo_parse {α : Type} (h : TT c l ts mI) {kc : Int32 → (Nat → Int32) → Option (Int32 × Int32 × (Nat → Int32))} {km : Int32 → Int32 → Int32 → (Nat → Int32) → Option (Int32 × (Nat → Int32) × (Nat → Int32) × (Nat → Int32) × Int32 × Int32 × Int32 × Int32 × Int32 × Int32 × Int32 × (Nat → Int32) × Int32)} : ∀ (d k p : Nat) (mc : Nat → Int32), l - p ≤ d → p ≤ l → 1 ≤ k → 4 * k ≤ p → ∀ m', d < m' → (∃ (N : Nat) (P I : Nat → Nat) (V : Nat → Nat → Nat) (mc' : Nat → Int32), k ≤ N ∧ N ≤ 60 ∧ P k = p ∧ P N = l ∧ (∀ x, x < 4 * k → mc' x = mc x) ∧ PRG ts l k N P I V mc' ∧ (∀ m tn, d < m → ∃ tn', f_X4_countCommands_L6 ts (nI l) kc m (nI k) (nI p) tn = some (nI N, nI l, tn')) ∧ f_X12_runCommands_L19 mI (nI l) km m' (nI p) (nI 0) (nI k) mc = km (nI l) (nI 0) (nI N) mc') ∨ (∃ (e N w : Nat) (mc' : Nat → Int32), e ≤ l ∧ (w = 1 ∨ w = 0 ∧ e < l) ∧ (∀ m tn, d < m → ∃ tn', f_X4_countCommands_L6 ts (nI l) kc m (nI k) (nI p) tn = some (-nI 1, nI e, tn')) ∧ f_X12_runCommands_L19 mI (nI l) km m' (nI p) (nI 0) (nI k) mc = km (nI e) (nI w) (nI N) mc') := by
  have hl := h.1
  intro d
  induction d with
  | zero =>
    intro k p mc h1 h2 h3 h4 m' h5
    left
    have e : p = l := by omega
    refine ⟨k, fun _ => l, fun _ => 0, fun _ _ => 0, mc, Nat.le_refl k, by omega, e.symm, rfl, fun _ _ => rfl, fun j h6 h7 => by omega, fun m tn hm => ?_, ?_⟩
    · cases m with
      | zero => omega
      | succ m =>
        refine ⟨tn, ?_⟩
        rw [f_X4_countCommands_L6]
        refine sfb_f (by rw [il_60, nI_ltP (by omega) (by omega)]; omega) ?_
        refine sfb_f (by rw [il_0, nI_leP (by omega) (by omega)]; omega) ?_
        exact sfb_t (by rw [e]) (by rw [e])
    · cases m' with
      | zero => omega
      | succ m' =>
        have hb := fx_beh h h2
        rw [if_neg (by omega)] at hb
        rw [f_X12_runCommands_L19]
        refine sfb_t (by decide) ?_
        refine sfc1_i hb (sfb_f (by decide) ?_)
        rw [e]
  | succ d ih =>
    intro k p mc h1 h2 h3 h4 m' h5
    rcases Nat.lt_or_ge p l with z | z
    · have hb := fx_beh h h2
      rw [if_pos z] at hb
      have hpl : ¬ nI p = nI l := by rw [nI_eqP (by omega) (by omega)]; omega
      cases m' with
      | zero => omega
      | succ m' =>
      by_cases s : c p = 59
      · obtain ⟨p', q1, q2, q3⟩ := rd_all h (p := p + 1) (k := k) (by omega) (by omega) mc
        rcases q3 with ⟨i, V0, i1, i2, i3, i4, mc1, i5, i6, i7⟩ | ⟨i4, mc1, i5⟩
        · rcases ih (k + 1) p' mc1 (by omega) q2 (by omega) (by omega) m' (by omega) with ⟨N, P, I, V, mc', r1, r2, r3, r4, r5, r6, r7, r8⟩ | ⟨e, N, w, mc', r1, r2, r3, r4⟩
          · left
            refine ⟨N, fun j => if j = k then p else P j, fun j => if j = k then i else I j, fun j => if j = k then V0 else V j, mc', by omega, r2, if_pos rfl, by dsimp only; rw [if_neg (by omega)]; exact r4, fun x hx => by rw [r5 x (by omega), i6 x hx], fun j h6 h7 => ?_, fun m tn hm => ?_, ?_⟩
            · dsimp only
              rcases Nat.decEq j k with y | y
              · rw [if_neg y, if_neg y, if_neg y, if_neg (by omega)]
                exact r6 j (by omega) h7
              · rw [y, if_pos rfl, if_pos rfl, if_pos rfl, if_neg (by omega), r3]
                refine ⟨i1, i3, fun tn => ?_, CMDS_c i7 i1 r5⟩
                rw [(rc_s h h2 h3 (by omega) tn).1 ⟨z, s⟩]
                exact i4 tn
            · cases m with
              | zero => omega
              | succ m =>
                obtain ⟨tn1, j1, j2⟩ := i4 tn
                obtain ⟨tn2, j3⟩ := r7 m tn1 (by omega)
                refine ⟨tn2, ?_⟩
                rw [f_X4_countCommands_L6]
                refine sfb_f (by rw [il_60, nI_ltP (by omega) (by omega)]; omega) ?_
                refine sfb_f (by rw [il_0, nI_leP (by omega) (by omega)]; omega) ?_
                refine sfb_f hpl ?_
                refine sfc3_i (((rc_s h h2 h3 (by omega) tn).1 ⟨z, s⟩).trans j1) ?_
                refine sfo_s (sfg_i i1 ?_)
                exact sfn_r (nI_1 k) j3
            · rw [f_X12_runCommands_L19]
              refine sfb_t (by decide) ?_
              refine sfc1_i hb (sfb_t (by rw [s]; rfl) ?_)
              refine sfn_r (nI_1 p) ?_
              exact sfc4_i i5 r8
          · right
            refine ⟨e, N, w, mc', r1, r2, fun m tn hm => ?_, ?_⟩
            · cases m with
              | zero => omega
              | succ m =>
                obtain ⟨tn1, j1, j2⟩ := i4 tn
                obtain ⟨tn2, j3⟩ := r3 m tn1 (by omega)
                refine ⟨tn2, ?_⟩
                rw [f_X4_countCommands_L6]
                refine sfb_f (by rw [il_60, nI_ltP (by omega) (by omega)]; omega) ?_
                refine sfb_f (by rw [il_0, nI_leP (by omega) (by omega)]; omega) ?_
                refine sfb_f hpl ?_
                refine sfc3_i (((rc_s h h2 h3 (by omega) tn).1 ⟨z, s⟩).trans j1) ?_
                refine sfo_s (sfg_i i1 ?_)
                exact sfn_r (nI_1 k) j3
            · rw [f_X12_runCommands_L19]
              refine sfb_t (by decide) ?_
              refine sfc1_i hb (sfb_t (by rw [s]; rfl) ?_)
              refine sfn_r (nI_1 p) ?_
              exact sfc4_i i5 r4
        · right
          refine ⟨p', k + 1, 1, mc1, q2, Or.inl rfl, fun m tn hm => ?_, ?_⟩
          · cases m with
            | zero => omega
            | succ m =>
              obtain ⟨tn1, j1⟩ := i4 tn
              refine ⟨tn1, ?_⟩
              rw [f_X4_countCommands_L6]
              refine sfb_f (by rw [il_60, nI_ltP (by omega) (by omega)]; omega) ?_
              refine sfb_f (by rw [il_0, nI_leP (by omega) (by omega)]; omega) ?_
              refine sfb_f hpl ?_
              refine sfc3_i (((rc_s h h2 h3 (by omega) tn).1 ⟨z, s⟩).trans j1) ?_
              exact sfo_n rfl
          · rw [f_X12_runCommands_L19]
            refine sfb_t (by decide) ?_
            refine sfc1_i hb (sfb_t (by rw [s]; rfl) ?_)
            refine sfn_r (nI_1 p) ?_
            refine sfc4_i i5 ?_
            cases m' with
            | zero => omega
            | succ m' =>
              rw [f_X12_runCommands_L19]
              exact sfb_f (by decide) rfl
      · right
        refine ⟨p, k, 0, mc, h2, Or.inr ⟨rfl, z⟩, fun m tn hm => ?_, ?_⟩
        · cases m with
          | zero => omega
          | succ m =>
            refine ⟨tn, ?_⟩
            rw [f_X4_countCommands_L6]
            refine sfb_f (by rw [il_60, nI_ltP (by omega) (by omega)]; omega) ?_
            refine sfb_f (by rw [il_0, nI_leP (by omega) (by omega)]; omega) ?_
            refine sfb_f hpl ?_
            refine sfc3_i ((rc_s h h2 h3 (by omega) tn).2 (fun e => s e.2)) ?_
            exact sfo_n rfl
        · rw [f_X12_runCommands_L19]
          refine sfb_t (by decide) ?_
          refine sfc1_i hb (sfb_f ?_ rfl)
          rw [show (59 : Int32) = nI 59 from rfl, nI_eqP (by have := (h.2 p z).2.2; omega) (by omega)]
          exact s
    · rcases ih k p mc (by omega) h2 h3 h4 m' (by omega) with ⟨N, P, I, V, mc', r1, r2, r3, r4, r5, r6, r7, r8⟩ | ⟨e, N, w, mc', r1, r2, r3, r4⟩
      · exact Or.inl ⟨N, P, I, V, mc', r1, r2, r3, r4, r5, r6, fun m tn hm => r7 m tn (by omega), r8⟩
      · exact Or.inr ⟨e, N, w, mc', r1, r2, fun m tn hm => r3 m tn (by omega), r4⟩
/-- the text as a whole -/
theorem fx_parse (h : TT c l ts mI) (mc : Nat → Int32) {km : Int32 → Int32 → Int32 → (Nat → Int32) → Option (Int32 × (Nat → Int32) × (Nat → Int32) × (Nat → Int32) × Int32 × Int32 × Int32 × Int32 × Int32 × Int32 × Int32 × (Nat → Int32) × Int32)} : (∃ (N : Nat) (P I : Nat → Nat) (V : Nat → Nat → Nat) (mc' : Nat → Int32), 1 ≤ N ∧ N ≤ 60 ∧ P 0 = 0 ∧ P N = l ∧ PRG ts l 0 N P I V mc' ∧ (∀ tp tn, ∃ tn', f_X4_countCommands ts (nI l) tp tn = some (nI N, nI l, tn')) ∧ (∃ x1 x2 a3 x4, f_X12_readCommand mI (nI l) 0 0 mc 0 = some (x1, x2, a3, x4) ∧ f_X12_runCommands_L19 mI (nI l) km 2000 x1 x2 x4 a3 = km (nI l) (nI 0) (nI N) mc')) ∨ (∃ (e N w : Nat) (mc' : Nat → Int32), e ≤ l ∧ (w = 1 ∨ w = 0 ∧ e < l) ∧ (∀ tp tn, ∃ tn', f_X4_countCommands ts (nI l) tp tn = some (-nI 1, nI e, tn')) ∧ (∃ x1 x2 a3 x4, f_X12_readCommand mI (nI l) 0 0 mc 0 = some (x1, x2, a3, x4) ∧ f_X12_runCommands_L19 mI (nI l) km 2000 x1 x2 x4 a3 = km (nI e) (nI w) (nI N) mc')) := by
  have hl := h.1
  have cc : ∀ tp tn R, f_X4_countCommands_L6 ts (nI l) (fun y_15 z_16 => some ((-1 : Int32), y_15, z_16)) (1999 + 1) (nI 0) (nI 0) tn = R → f_X4_countCommands ts (nI l) tp tn = R := fun tp tn R hR => by
    rw [f_X4_countCommands]
    exact sfc1_i (a := (0 : Int32)) rfl hR
  obtain ⟨p', q1, q2, q3⟩ := rd_all h (p := 0) (k := 0) (Nat.zero_le _) (by omega) mc
  rcases q3 with ⟨i, V0, i1, i2, i3, i4, mc1, i5, i6, i7⟩ | ⟨i4, mc1, i5⟩
  · rcases lo_parse (α := Int32) h (kc := fun y_15 z_16 => some ((-1 : Int32), y_15, z_16)) (km := km) 60 1 p' mc1 (by omega) q2 (Nat.le_refl 1) (by omega) 2000 (by omega) with ⟨N, P, I, V, mc', r1, r2, r3, r4, r5, r6, r7, r8⟩ | ⟨e, N, w, mc', r1, r2, r3, r4⟩
    · left
      refine ⟨N, fun j => if j = 0 then 0 else P j, fun j => if j = 0 then i else I j, fun j => if j = 0 then V0 else V j, mc', r1, r2, if_pos rfl, by dsimp only; rw [if_neg (by omega)]; exact r4, fun j h6 h7 => ?_, fun tp tn => ?_, ⟨_, _, _, _, i5, r8⟩⟩
      · dsimp only
        rcases Nat.decEq j 0 with y | y
        · rw [if_neg y, if_neg y, if_neg y, if_neg (by omega)]
          exact r6 j (by omega) h7
        · rw [y, if_pos rfl, if_pos rfl, if_pos rfl, if_neg (by omega), r3]
          refine ⟨i1, i3, fun tn => ?_, CMDS_c i7 i1 r5⟩
          rw [rc_0]
          exact i4 tn
      · obtain ⟨tn1, j1, j2⟩ := i4 tn
        obtain ⟨tn2, j3⟩ := r7 1999 tn1 (by omega)
        refine ⟨tn2, cc tp tn _ ?_⟩
        rw [f_X4_countCommands_L6]
        refine sfb_f (by decide) ?_
        refine sfb_t (by decide) ?_
        refine sfc3_i (rc_0.trans j1) ?_
        refine sfo_s (sfg_i i1 ?_)
        exact sfn_r (nI_1 0) j3
    · right
      refine ⟨e, N, w, mc', r1, r2, fun tp tn => ?_, ⟨_, _, _, _, i5, r4⟩⟩
      obtain ⟨tn1, j1, j2⟩ := i4 tn
      obtain ⟨tn2, j3⟩ := r3 1999 tn1 (by omega)
      refine ⟨tn2, cc tp tn _ ?_⟩
      rw [f_X4_countCommands_L6]
      refine sfb_f (by decide) ?_
      refine sfb_t (by decide) ?_
      refine sfc3_i (rc_0.trans j1) ?_
      refine sfo_s (sfg_i i1 ?_)
      exact sfn_r (nI_1 0) j3
  · right
    refine ⟨p', 0 + 1, 1, mc1, q2, Or.inl rfl, fun tp tn => ?_, ⟨_, _, _, _, i5, ?_⟩⟩
    · obtain ⟨tn1, j1⟩ := i4 tn
      refine ⟨tn1, cc tp tn _ ?_⟩
      rw [f_X4_countCommands_L6]
      refine sfb_f (by decide) ?_
      refine sfb_t (by decide) ?_
      refine sfc3_i (rc_0.trans j1) ?_
      exact sfo_n rfl
    · show f_X12_runCommands_L19 mI (nI l) km (1999 + 1) _ _ _ _ = _
      rw [f_X12_runCommands_L19]
      exact sfb_f (by decide) rfl
end PR4
