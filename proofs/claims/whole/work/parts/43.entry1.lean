/-! OWN ROWS: the entry's facts out of the Statement's words -/
theorem e_D {args : Array Value} {s : State} (ha : ∀ w ∈ aw, w.before args s = true) : ∃ D : va_G, ∀ (c : Nat) (q : vw_C), cls[c]? = some q → u_Kn s q.1 q.2.1 q.2.2 (D.1 c) (D.2 c) := by
  have hc : ∀ c : Nat, ∃ p : ClassId × (Nat → Nat), ∀ q : vw_C, cls[c]? = some q → u_Kn s q.1 q.2.1 q.2.2 p.1 p.2 := by
    intro c
    by_cases h12 : 12 ≤ c
    · refine ⟨(0, fun _ => 0), fun q hq => ?_⟩
      have : cls[c]? = none := List.getElem?_eq_none (by simpa [cls] using h12)
      rw [this] at hq
      cases hq
    rcases (show c = 0 ∨ c = 1 ∨ c = 2 ∨ c = 3 ∨ c = 4 ∨ c = 5 ∨ c = 6 ∨ c = 7 ∨ c = 8 ∨ c = 9 ∨ c = 10 ∨ c = 11 by omega) with rfl | rfl | rfl | rfl | rfl | rfl | rfl | rfl | rfl | rfl | rfl | rfl
    · obtain ⟨a, b, h⟩ := u_known (C := RX1) (T := TX1) (N := 5) ha in_X1 (ha _ m_173)
      exact ⟨(a, b), fun q hq => by cases hq; exact h⟩
    · obtain ⟨a, b, h⟩ := u_known (C := RX2) (T := TX2) (N := 2) ha in_X2 (ha _ m_302)
      exact ⟨(a, b), fun q hq => by cases hq; exact h⟩
    · obtain ⟨a, b, h⟩ := u_known (C := RX4) (T := TX4) (N := 4) ha in_X4 (ha _ m_315)
      exact ⟨(a, b), fun q hq => by cases hq; exact h⟩
    · obtain ⟨a, b, h⟩ := u_known (C := RX5) (T := TX5) (N := 4) ha in_X5 (ha _ m_222)
      exact ⟨(a, b), fun q hq => by cases hq; exact h⟩
    · obtain ⟨a, b, h⟩ := u_known (C := RX6) (T := TX6) (N := 3) ha in_X6 (ha _ m_151)
      exact ⟨(a, b), fun q hq => by cases hq; exact h⟩
    · obtain ⟨a, b, h⟩ := u_known (C := RX7) (T := TX7) (N := 3) ha in_X7 (ha _ m_282)
      exact ⟨(a, b), fun q hq => by cases hq; exact h⟩
    · obtain ⟨a, b, h⟩ := u_known (C := RX8) (T := TX8) (N := 9) ha in_X8 (ha _ m_117)
      exact ⟨(a, b), fun q hq => by cases hq; exact h⟩
    · obtain ⟨a, b, h⟩ := u_known (C := RX9) (T := TX9) (N := 2) ha in_X9 (ha _ m_207)
      exact ⟨(a, b), fun q hq => by cases hq; exact h⟩
    · obtain ⟨a, b, h⟩ := u_known (C := RX10) (T := TX10) (N := 4) ha in_X10 (ha _ m_123)
      exact ⟨(a, b), fun q hq => by cases hq; exact h⟩
    · obtain ⟨a, b, h⟩ := u_known (C := RX11) (T := TX11) (N := 9) ha in_X11 (ha _ m_109)
      exact ⟨(a, b), fun q hq => by cases hq; exact h⟩
    · obtain ⟨a, b, h⟩ := u_known (C := RX12) (T := TX12) (N := 17) ha in_X12 (ha _ m_1644)
      exact ⟨(a, b), fun q hq => by cases hq; exact h⟩
    · obtain ⟨a, b, h⟩ := u_known (C := RJ4) (T := TJ4) (N := 4) ha in_SB (ha _ m_338)
      exact ⟨(a, b), fun q hq => by cases hq; exact h⟩
  obtain ⟨f, hf⟩ := Classical.axiomOfChoice hc
  exact ⟨(fun c => (f c).1, fun c => (f c).2), fun c q hq => hf c q hq⟩
theorem e_P {args : Array Value} {s : State} {ty : FieldType} (h : (Cond.arrayClass ty).before args s = true) : ∃ c : ClassId, ArrOfT s c ty ∧ s.vm.findClass ("[" ++ ty.toString) = some c := by
  obtain ⟨c, k, comp, h1, h2, h3⟩ := Cond.arrayClass_spec h
  exact ⟨c, fun n z => ⟨(fun _ h => by cases h), k, h2, comp, h3⟩, h1⟩
theorem e_O {args : Array Value} {s : State} {C : String} (h : (Cond.arrayOver (.object C)).before args s = true) : ∃ c : ClassId, ArrOfT s c (.object C) ∧ va_RA s c (.object C) := by
  obtain ⟨comp, c, k, h1, h2, h3, h4, h5⟩ := Cond.arrayOver_spec h
  exact ⟨c, fun n z => ⟨(fun _ h => by cases h), k, h3, comp, h4⟩, ⟨k, comp, h3, h4, h1, h5⟩⟩
theorem e_K {args : Array Value} {s : State} (ha : ∀ w ∈ aw, w.before args s = true) (hO : (Cond.arrayOver (.object "SlidePark$Office")).before args s = true) : ∃ (D : va_G) (dA : Nat → ClassId), va_K D cls (tysA dA) s := by
  obtain ⟨D, hD⟩ := e_D ha
  obtain ⟨c0, a0, b0⟩ := e_P (ha _ m_149)
  obtain ⟨c1, a1, b1⟩ := e_P (ha _ m_336)
  obtain ⟨c2, a2, b2⟩ := e_P (ha _ m_369)
  obtain ⟨c3, a3, b3⟩ := e_O hO
  obtain ⟨c4, a4, b4⟩ := e_P (ha _ m_2110)
  obtain ⟨c5, a5, b5⟩ := e_P (ha _ m_2111)
  refine ⟨D, (fun k => if k = 0 then c0 else if k = 1 then c1 else if k = 2 then c2 else if k = 3 then c3 else if k = 4 then c4 else c5), hD, ?_⟩
  intro k q hq
  by_cases h6 : 6 ≤ k
  · rw [List.getElem?_eq_none (by simpa [tysA] using h6)] at hq
    cases hq
  rcases (show k = 0 ∨ k = 1 ∨ k = 2 ∨ k = 3 ∨ k = 4 ∨ k = 5 by omega) with rfl | rfl | rfl | rfl | rfl | rfl
  · cases hq; exact ⟨a0, b0⟩
  · cases hq; exact ⟨a1, b1⟩
  · cases hq; exact ⟨a2, b2⟩
  · cases hq; exact ⟨a3, b3⟩
  · cases hq; exact ⟨a4, b4⟩
  · cases hq; exact ⟨a5, b5⟩
