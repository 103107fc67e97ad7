/-! OWN ROWS: the shallow functions' combinators, and the calls, returns and stores in one row each -/
abbrev wo (w : Cond) : List Cond := w :: aw
theorem gi_aw {ws : List Cond} (h : ∀ w ∈ ws, w ∈ aw) : GoodIn aw ws := fun w hw => ⟨h w hw, good_of_word (aw_good w (h w hw))⟩
theorem gi_wo {c : Cond} (h : c ∈ aw) : ∀ w ∈ wo c, w ∈ aw := fun w hw => (List.mem_cons.mp hw).elim (fun e => e ▸ h) id
theorem gi_V {own C : String} {idx : Nat} {y : MethodName} {c : Cond} (h1 : Cond.methodLink own idx y ∈ aw) (h2 : Cond.instanceMethod y ∈ aw) (h3 : Cond.selects C y y ∈ aw) (h4 : Cond.initialized C ∈ aw) (h5 : c ∈ aw) : GoodIn aw (wsV own idx C y (wo c)) := gi_aw (fun w hw => by
  rcases List.mem_append.mp hw with h | h
  · simp only [List.mem_cons, List.not_mem_nil, or_false] at h
    rcases h with rfl | rfl | rfl | rfl <;> assumption
  · exact gi_wo h5 w h)
theorem gi_S {own : String} {idx : Nat} {y : MethodName} {c : Cond} (h1 : Cond.methodLink own idx y ∈ aw) (h2 : Cond.static y ∈ aw) (h4 : Cond.initialized own ∈ aw) (h5 : c ∈ aw) : GoodIn aw (wsS own idx y (wo c)) := gi_aw (fun w hw => by
  rcases List.mem_append.mp hw with h | h
  · simp only [List.mem_cons, List.not_mem_nil, or_false] at h
    rcases h with rfl | rfl | rfl <;> assumption
  · exact gi_wo h5 w h)
theorem gi_I {c : Cond} (h5 : c ∈ aw) : GoodIn aw (wo c) := gi_aw (gi_wo h5)
section SF
variable {α β : Type}
def sf_g (c : Prop) [Decidable c] (k : Option α) : Option α := if c then k else none
theorem sf_ge {c : Prop} [Decidable c] {k : Option α} {r : α} (h : sf_g c k = some r) : c ∧ k = some r := by
  by_cases hc : c
  · exact ⟨hc, by simpa [sf_g, hc] using h⟩
  · simp [sf_g, hc] at h
def sf_b (c : Prop) [Decidable c] (a b : Option α) : Option α := if c then a else b
theorem sf_bp {c : Prop} [Decidable c] {a b : Option α} {r : α} (h : sf_b c a b = some r) (hc : c) : a = some r := by simpa [sf_b, hc] using h
theorem sf_bn {c : Prop} [Decidable c] {a b : Option α} {r : α} (h : sf_b c a b = some r) (hc : ¬ c) : b = some r := by simpa [sf_b, hc] using h
def sf_n (x : β) (k : β → Option α) : Option α := k x
theorem sf_ne {x : β} {k : β → Option α} {r : α} (h : sf_n x k = some r) : ∃ z, z = x ∧ k z = some r := ⟨x, rfl, h⟩
def sf_in (i : Int32) (n : Nat) : Bool := decide (¬ (i < 0 ∨ n ≤ i.toNatClampNeg))
theorem sf_inv {i : Int32} {n : Nat} (h : sf_in i n = true) : vp_in i n := of_decide_eq_true (p := ¬ (i < 0 ∨ n ≤ i.toNatClampNeg)) h
end SF
def sf_c0 {α : Type} (x : Option Unit) (k : Unit → Option α) : Option α := match x with | some u => k u | none => none
theorem sf_c0e {α : Type} {x : Option Unit} {k : Unit → Option α} {r : α} (h : sf_c0 x k = some r) : x = some () ∧ k () = some r := by
  cases x with
  | none => cases h
  | some v => exact ⟨rfl, h⟩
def sf_c1 {α : Type} {γ0 : Type} (x : Option (γ0)) (k : γ0 → Option α) : Option α := match x with | some a0 => k a0 | none => none
theorem sf_c1e {α : Type} {γ0 : Type} {x : Option (γ0)} {k : γ0 → Option α} {r : α} (h : sf_c1 x k = some r) : ∃ a0, x = some a0 ∧ k a0 = some r := by
  cases x with
  | none => cases h
  | some v => exact ⟨v, rfl, h⟩
def sf_c2 {α : Type} {γ0 : Type} {γ1 : Type} (x : Option (γ0 × γ1)) (k : γ0 → γ1 → Option α) : Option α := match x with | some (a0, a1) => k a0 a1 | none => none
theorem sf_c2e {α : Type} {γ0 : Type} {γ1 : Type} {x : Option (γ0 × γ1)} {k : γ0 → γ1 → Option α} {r : α} (h : sf_c2 x k = some r) : ∃ a0 a1, x = some (a0, a1) ∧ k a0 a1 = some r := by
  cases x with
  | none => cases h
  | some v => exact ⟨v.1, v.2, rfl, h⟩
def sf_c3 {α : Type} {γ0 : Type} {γ1 : Type} {γ2 : Type} (x : Option (γ0 × γ1 × γ2)) (k : γ0 → γ1 → γ2 → Option α) : Option α := match x with | some (a0, a1, a2) => k a0 a1 a2 | none => none
theorem sf_c3e {α : Type} {γ0 : Type} {γ1 : Type} {γ2 : Type} {x : Option (γ0 × γ1 × γ2)} {k : γ0 → γ1 → γ2 → Option α} {r : α} (h : sf_c3 x k = some r) : ∃ a0 a1 a2, x = some (a0, a1, a2) ∧ k a0 a1 a2 = some r := by
  cases x with
  | none => cases h
  | some v => exact ⟨v.1, v.2.1, v.2.2, rfl, h⟩
def sf_c4 {α : Type} {γ0 : Type} {γ1 : Type} {γ2 : Type} {γ3 : Type} (x : Option (γ0 × γ1 × γ2 × γ3)) (k : γ0 → γ1 → γ2 → γ3 → Option α) : Option α := match x with | some (a0, a1, a2, a3) => k a0 a1 a2 a3 | none => none
theorem sf_c4e {α : Type} {γ0 : Type} {γ1 : Type} {γ2 : Type} {γ3 : Type} {x : Option (γ0 × γ1 × γ2 × γ3)} {k : γ0 → γ1 → γ2 → γ3 → Option α} {r : α} (h : sf_c4 x k = some r) : ∃ a0 a1 a2 a3, x = some (a0, a1, a2, a3) ∧ k a0 a1 a2 a3 = some r := by
  cases x with
  | none => cases h
  | some v => exact ⟨v.1, v.2.1, v.2.2.1, v.2.2.2, rfl, h⟩
def sf_c5 {α : Type} {γ0 : Type} {γ1 : Type} {γ2 : Type} {γ3 : Type} {γ4 : Type} (x : Option (γ0 × γ1 × γ2 × γ3 × γ4)) (k : γ0 → γ1 → γ2 → γ3 → γ4 → Option α) : Option α := match x with | some (a0, a1, a2, a3, a4) => k a0 a1 a2 a3 a4 | none => none
theorem sf_c5e {α : Type} {γ0 : Type} {γ1 : Type} {γ2 : Type} {γ3 : Type} {γ4 : Type} {x : Option (γ0 × γ1 × γ2 × γ3 × γ4)} {k : γ0 → γ1 → γ2 → γ3 → γ4 → Option α} {r : α} (h : sf_c5 x k = some r) : ∃ a0 a1 a2 a3 a4, x = some (a0, a1, a2, a3, a4) ∧ k a0 a1 a2 a3 a4 = some r := by
  cases x with
  | none => cases h
  | some v => exact ⟨v.1, v.2.1, v.2.2.1, v.2.2.2.1, v.2.2.2.2, rfl, h⟩
def sf_c6 {α : Type} {γ0 : Type} {γ1 : Type} {γ2 : Type} {γ3 : Type} {γ4 : Type} {γ5 : Type} (x : Option (γ0 × γ1 × γ2 × γ3 × γ4 × γ5)) (k : γ0 → γ1 → γ2 → γ3 → γ4 → γ5 → Option α) : Option α := match x with | some (a0, a1, a2, a3, a4, a5) => k a0 a1 a2 a3 a4 a5 | none => none
theorem sf_c6e {α : Type} {γ0 : Type} {γ1 : Type} {γ2 : Type} {γ3 : Type} {γ4 : Type} {γ5 : Type} {x : Option (γ0 × γ1 × γ2 × γ3 × γ4 × γ5)} {k : γ0 → γ1 → γ2 → γ3 → γ4 → γ5 → Option α} {r : α} (h : sf_c6 x k = some r) : ∃ a0 a1 a2 a3 a4 a5, x = some (a0, a1, a2, a3, a4, a5) ∧ k a0 a1 a2 a3 a4 a5 = some r := by
  cases x with
  | none => cases h
  | some v => exact ⟨v.1, v.2.1, v.2.2.1, v.2.2.2.1, v.2.2.2.2.1, v.2.2.2.2.2, rfl, h⟩
def sf_c7 {α : Type} {γ0 : Type} {γ1 : Type} {γ2 : Type} {γ3 : Type} {γ4 : Type} {γ5 : Type} {γ6 : Type} (x : Option (γ0 × γ1 × γ2 × γ3 × γ4 × γ5 × γ6)) (k : γ0 → γ1 → γ2 → γ3 → γ4 → γ5 → γ6 → Option α) : Option α := match x with | some (a0, a1, a2, a3, a4, a5, a6) => k a0 a1 a2 a3 a4 a5 a6 | none => none
theorem sf_c7e {α : Type} {γ0 : Type} {γ1 : Type} {γ2 : Type} {γ3 : Type} {γ4 : Type} {γ5 : Type} {γ6 : Type} {x : Option (γ0 × γ1 × γ2 × γ3 × γ4 × γ5 × γ6)} {k : γ0 → γ1 → γ2 → γ3 → γ4 → γ5 → γ6 → Option α} {r : α} (h : sf_c7 x k = some r) : ∃ a0 a1 a2 a3 a4 a5 a6, x = some (a0, a1, a2, a3, a4, a5, a6) ∧ k a0 a1 a2 a3 a4 a5 a6 = some r := by
  cases x with
  | none => cases h
  | some v => exact ⟨v.1, v.2.1, v.2.2.1, v.2.2.2.1, v.2.2.2.2.1, v.2.2.2.2.2.1, v.2.2.2.2.2.2, rfl, h⟩
def sf_c8 {α : Type} {γ0 : Type} {γ1 : Type} {γ2 : Type} {γ3 : Type} {γ4 : Type} {γ5 : Type} {γ6 : Type} {γ7 : Type} (x : Option (γ0 × γ1 × γ2 × γ3 × γ4 × γ5 × γ6 × γ7)) (k : γ0 → γ1 → γ2 → γ3 → γ4 → γ5 → γ6 → γ7 → Option α) : Option α := match x with | some (a0, a1, a2, a3, a4, a5, a6, a7) => k a0 a1 a2 a3 a4 a5 a6 a7 | none => none
theorem sf_c8e {α : Type} {γ0 : Type} {γ1 : Type} {γ2 : Type} {γ3 : Type} {γ4 : Type} {γ5 : Type} {γ6 : Type} {γ7 : Type} {x : Option (γ0 × γ1 × γ2 × γ3 × γ4 × γ5 × γ6 × γ7)} {k : γ0 → γ1 → γ2 → γ3 → γ4 → γ5 → γ6 → γ7 → Option α} {r : α} (h : sf_c8 x k = some r) : ∃ a0 a1 a2 a3 a4 a5 a6 a7, x = some (a0, a1, a2, a3, a4, a5, a6, a7) ∧ k a0 a1 a2 a3 a4 a5 a6 a7 = some r := by
  cases x with
  | none => cases h
  | some v => exact ⟨v.1, v.2.1, v.2.2.1, v.2.2.2.1, v.2.2.2.2.1, v.2.2.2.2.2.1, v.2.2.2.2.2.2.1, v.2.2.2.2.2.2.2, rfl, h⟩
def sf_c9 {α : Type} {γ0 : Type} {γ1 : Type} {γ2 : Type} {γ3 : Type} {γ4 : Type} {γ5 : Type} {γ6 : Type} {γ7 : Type} {γ8 : Type} (x : Option (γ0 × γ1 × γ2 × γ3 × γ4 × γ5 × γ6 × γ7 × γ8)) (k : γ0 → γ1 → γ2 → γ3 → γ4 → γ5 → γ6 → γ7 → γ8 → Option α) : Option α := match x with | some (a0, a1, a2, a3, a4, a5, a6, a7, a8) => k a0 a1 a2 a3 a4 a5 a6 a7 a8 | none => none
theorem sf_c9e {α : Type} {γ0 : Type} {γ1 : Type} {γ2 : Type} {γ3 : Type} {γ4 : Type} {γ5 : Type} {γ6 : Type} {γ7 : Type} {γ8 : Type} {x : Option (γ0 × γ1 × γ2 × γ3 × γ4 × γ5 × γ6 × γ7 × γ8)} {k : γ0 → γ1 → γ2 → γ3 → γ4 → γ5 → γ6 → γ7 → γ8 → Option α} {r : α} (h : sf_c9 x k = some r) : ∃ a0 a1 a2 a3 a4 a5 a6 a7 a8, x = some (a0, a1, a2, a3, a4, a5, a6, a7, a8) ∧ k a0 a1 a2 a3 a4 a5 a6 a7 a8 = some r := by
  cases x with
  | none => cases h
  | some v => exact ⟨v.1, v.2.1, v.2.2.1, v.2.2.2.1, v.2.2.2.2.1, v.2.2.2.2.2.1, v.2.2.2.2.2.2.1, v.2.2.2.2.2.2.2.1, v.2.2.2.2.2.2.2.2, rfl, h⟩
def sf_c10 {α : Type} {γ0 : Type} {γ1 : Type} {γ2 : Type} {γ3 : Type} {γ4 : Type} {γ5 : Type} {γ6 : Type} {γ7 : Type} {γ8 : Type} {γ9 : Type} (x : Option (γ0 × γ1 × γ2 × γ3 × γ4 × γ5 × γ6 × γ7 × γ8 × γ9)) (k : γ0 → γ1 → γ2 → γ3 → γ4 → γ5 → γ6 → γ7 → γ8 → γ9 → Option α) : Option α := match x with | some (a0, a1, a2, a3, a4, a5, a6, a7, a8, a9) => k a0 a1 a2 a3 a4 a5 a6 a7 a8 a9 | none => none
theorem sf_c10e {α : Type} {γ0 : Type} {γ1 : Type} {γ2 : Type} {γ3 : Type} {γ4 : Type} {γ5 : Type} {γ6 : Type} {γ7 : Type} {γ8 : Type} {γ9 : Type} {x : Option (γ0 × γ1 × γ2 × γ3 × γ4 × γ5 × γ6 × γ7 × γ8 × γ9)} {k : γ0 → γ1 → γ2 → γ3 → γ4 → γ5 → γ6 → γ7 → γ8 → γ9 → Option α} {r : α} (h : sf_c10 x k = some r) : ∃ a0 a1 a2 a3 a4 a5 a6 a7 a8 a9, x = some (a0, a1, a2, a3, a4, a5, a6, a7, a8, a9) ∧ k a0 a1 a2 a3 a4 a5 a6 a7 a8 a9 = some r := by
  cases x with
  | none => cases h
  | some v => exact ⟨v.1, v.2.1, v.2.2.1, v.2.2.2.1, v.2.2.2.2.1, v.2.2.2.2.2.1, v.2.2.2.2.2.2.1, v.2.2.2.2.2.2.2.1, v.2.2.2.2.2.2.2.2.1, v.2.2.2.2.2.2.2.2.2, rfl, h⟩
def sf_c11 {α : Type} {γ0 : Type} {γ1 : Type} {γ2 : Type} {γ3 : Type} {γ4 : Type} {γ5 : Type} {γ6 : Type} {γ7 : Type} {γ8 : Type} {γ9 : Type} {γ10 : Type} (x : Option (γ0 × γ1 × γ2 × γ3 × γ4 × γ5 × γ6 × γ7 × γ8 × γ9 × γ10)) (k : γ0 → γ1 → γ2 → γ3 → γ4 → γ5 → γ6 → γ7 → γ8 → γ9 → γ10 → Option α) : Option α := match x with | some (a0, a1, a2, a3, a4, a5, a6, a7, a8, a9, a10) => k a0 a1 a2 a3 a4 a5 a6 a7 a8 a9 a10 | none => none
theorem sf_c11e {α : Type} {γ0 : Type} {γ1 : Type} {γ2 : Type} {γ3 : Type} {γ4 : Type} {γ5 : Type} {γ6 : Type} {γ7 : Type} {γ8 : Type} {γ9 : Type} {γ10 : Type} {x : Option (γ0 × γ1 × γ2 × γ3 × γ4 × γ5 × γ6 × γ7 × γ8 × γ9 × γ10)} {k : γ0 → γ1 → γ2 → γ3 → γ4 → γ5 → γ6 → γ7 → γ8 → γ9 → γ10 → Option α} {r : α} (h : sf_c11 x k = some r) : ∃ a0 a1 a2 a3 a4 a5 a6 a7 a8 a9 a10, x = some (a0, a1, a2, a3, a4, a5, a6, a7, a8, a9, a10) ∧ k a0 a1 a2 a3 a4 a5 a6 a7 a8 a9 a10 = some r := by
  cases x with
  | none => cases h
  | some v => exact ⟨v.1, v.2.1, v.2.2.1, v.2.2.2.1, v.2.2.2.2.1, v.2.2.2.2.2.1, v.2.2.2.2.2.2.1, v.2.2.2.2.2.2.2.1, v.2.2.2.2.2.2.2.2.1, v.2.2.2.2.2.2.2.2.2.1, v.2.2.2.2.2.2.2.2.2.2, rfl, h⟩
def sf_c12 {α : Type} {γ0 : Type} {γ1 : Type} {γ2 : Type} {γ3 : Type} {γ4 : Type} {γ5 : Type} {γ6 : Type} {γ7 : Type} {γ8 : Type} {γ9 : Type} {γ10 : Type} {γ11 : Type} (x : Option (γ0 × γ1 × γ2 × γ3 × γ4 × γ5 × γ6 × γ7 × γ8 × γ9 × γ10 × γ11)) (k : γ0 → γ1 → γ2 → γ3 → γ4 → γ5 → γ6 → γ7 → γ8 → γ9 → γ10 → γ11 → Option α) : Option α := match x with | some (a0, a1, a2, a3, a4, a5, a6, a7, a8, a9, a10, a11) => k a0 a1 a2 a3 a4 a5 a6 a7 a8 a9 a10 a11 | none => none
theorem sf_c12e {α : Type} {γ0 : Type} {γ1 : Type} {γ2 : Type} {γ3 : Type} {γ4 : Type} {γ5 : Type} {γ6 : Type} {γ7 : Type} {γ8 : Type} {γ9 : Type} {γ10 : Type} {γ11 : Type} {x : Option (γ0 × γ1 × γ2 × γ3 × γ4 × γ5 × γ6 × γ7 × γ8 × γ9 × γ10 × γ11)} {k : γ0 → γ1 → γ2 → γ3 → γ4 → γ5 → γ6 → γ7 → γ8 → γ9 → γ10 → γ11 → Option α} {r : α} (h : sf_c12 x k = some r) : ∃ a0 a1 a2 a3 a4 a5 a6 a7 a8 a9 a10 a11, x = some (a0, a1, a2, a3, a4, a5, a6, a7, a8, a9, a10, a11) ∧ k a0 a1 a2 a3 a4 a5 a6 a7 a8 a9 a10 a11 = some r := by
  cases x with
  | none => cases h
  | some v => exact ⟨v.1, v.2.1, v.2.2.1, v.2.2.2.1, v.2.2.2.2.1, v.2.2.2.2.2.1, v.2.2.2.2.2.2.1, v.2.2.2.2.2.2.2.1, v.2.2.2.2.2.2.2.2.1, v.2.2.2.2.2.2.2.2.2.1, v.2.2.2.2.2.2.2.2.2.2.1, v.2.2.2.2.2.2.2.2.2.2.2, rfl, h⟩
def sf_c13 {α : Type} {γ0 : Type} {γ1 : Type} {γ2 : Type} {γ3 : Type} {γ4 : Type} {γ5 : Type} {γ6 : Type} {γ7 : Type} {γ8 : Type} {γ9 : Type} {γ10 : Type} {γ11 : Type} {γ12 : Type} (x : Option (γ0 × γ1 × γ2 × γ3 × γ4 × γ5 × γ6 × γ7 × γ8 × γ9 × γ10 × γ11 × γ12)) (k : γ0 → γ1 → γ2 → γ3 → γ4 → γ5 → γ6 → γ7 → γ8 → γ9 → γ10 → γ11 → γ12 → Option α) : Option α := match x with | some (a0, a1, a2, a3, a4, a5, a6, a7, a8, a9, a10, a11, a12) => k a0 a1 a2 a3 a4 a5 a6 a7 a8 a9 a10 a11 a12 | none => none
theorem sf_c13e {α : Type} {γ0 : Type} {γ1 : Type} {γ2 : Type} {γ3 : Type} {γ4 : Type} {γ5 : Type} {γ6 : Type} {γ7 : Type} {γ8 : Type} {γ9 : Type} {γ10 : Type} {γ11 : Type} {γ12 : Type} {x : Option (γ0 × γ1 × γ2 × γ3 × γ4 × γ5 × γ6 × γ7 × γ8 × γ9 × γ10 × γ11 × γ12)} {k : γ0 → γ1 → γ2 → γ3 → γ4 → γ5 → γ6 → γ7 → γ8 → γ9 → γ10 → γ11 → γ12 → Option α} {r : α} (h : sf_c13 x k = some r) : ∃ a0 a1 a2 a3 a4 a5 a6 a7 a8 a9 a10 a11 a12, x = some (a0, a1, a2, a3, a4, a5, a6, a7, a8, a9, a10, a11, a12) ∧ k a0 a1 a2 a3 a4 a5 a6 a7 a8 a9 a10 a11 a12 = some r := by
  cases x with
  | none => cases h
  | some v => exact ⟨v.1, v.2.1, v.2.2.1, v.2.2.2.1, v.2.2.2.2.1, v.2.2.2.2.2.1, v.2.2.2.2.2.2.1, v.2.2.2.2.2.2.2.1, v.2.2.2.2.2.2.2.2.1, v.2.2.2.2.2.2.2.2.2.1, v.2.2.2.2.2.2.2.2.2.2.1, v.2.2.2.2.2.2.2.2.2.2.2.1, v.2.2.2.2.2.2.2.2.2.2.2.2, rfl, h⟩
theorem fm_of_map {γ : Type} {is : List Nat} {ws wc : List γ} (h : is.map (fun i => ws[i]?) = wc.map some) : is.filterMap (fun i => ws[i]?) = wc := by
  have e : is.filterMap (fun i => ws[i]?) = (is.map (fun i => ws[i]?)).filterMap id := by rw [List.filterMap_map]; rfl
  rw [e, h, List.filterMap_map]
  simp
/-- the classes whose objects the worlds hold -/
abbrev cls : List vw_C := [(RX1, TX1, 5), (RX2, TX2, 2), (RX4, TX4, 4), (RX5, TX5, 4), (RX6, TX6, 3), (RX7, TX7, 3), (RX8, TX8, 9), (RX9, TX9, 2), (RX10, TX10, 4), (RX11, TX11, 9), (RX12, TX12, 17), (RJ4, TJ4, 4)]
abbrev tysA (dA : Nat → ClassId) : List (ClassId × FieldType) := [(dA 0, .int), (dA 1, .char), (dA 2, .byte), (dA 3, .object "SlidePark$Office"), (dA 4, .long), (dA 5, .double)]
/-- a method's start: P for one that changes nothing, M for one that does -/
def preP (D : va_G) (dA : Nat → ClassId) (av : List Value) (ws : va_W) : Array Value → State → Prop := va_Pc av (fun U => va_P D cls ws U.heap ∧ va_K D cls (tysA dA) U)
def preM (D : va_G) (dA : Nat → ClassId) (av : List Value) (sz : Nat) (ws : va_W) : Array Value → State → Prop := va_Pc av (fun U => U.heap.size = sz ∧ va_P D cls ws U.heap ∧ va_K D cls (tysA dA) U ∧ va_D (fun _ => True) ws)
theorem preP_bl {D : va_G} {dA : Nat → ClassId} {av : List Value} {ws : va_W} : FrameBlind (preP D dA av ws) := fun a U g mk q => by
  obtain ⟨q0, qP, qK⟩ := q
  exact ⟨q0, qP, va_K.moved (u := U) (U := U.calling g mk a) (Vm.Alike.refl U.vm) qK⟩
theorem preM_bl {D : va_G} {dA : Nat → ClassId} {av : List Value} {sz : Nat} {ws : va_W} : FrameBlind (preM D dA av sz ws) := fun a U g mk q => by
  obtain ⟨q0, q1, qP, qK, qD⟩ := q
  exact ⟨q0, q1, qP, va_K.moved (u := U) (U := U.calling g mk a) (Vm.Alike.refl U.vm) qK, qD⟩
abbrev noA : Nat → Prop := fun _ => False
abbrev poPi (r : Int32) : Array Value → State → Outcome → State → Prop := va_Qi (fun (r' : Int32) (_ : Unit) => r' = r) (fun _ _ => True) noA
abbrev poPd (r : UInt64) : Array Value → State → Outcome → State → Prop := va_Qd (fun (r' : UInt64) (_ : Unit) => r' = r) (fun _ _ => True) noA
abbrev poPf (r : UInt32) : Array Value → State → Outcome → State → Prop := va_Qf (fun (r' : UInt32) (_ : Unit) => r' = r) (fun _ _ => True) noA
abbrev poMi (D : va_G) (r : Int32) (w1 : va_W) (A : Nat → Prop) : Array Value → State → Outcome → State → Prop := va_Qi (fun (r' : Int32) (_ : Unit) => r' = r) (fun _ t => va_P D cls w1 t.heap ∧ va_D A w1) A
abbrev poMv (D : va_G) (w1 : va_W) (A : Nat → Prop) : Array Value → State → Outcome → State → Prop := va_Qv (fun (_ : Unit) => True) (fun _ t => va_P D cls w1 t.heap ∧ va_D A w1) A
section ENT
variable {l : Launch} {y : MethodName} {own : String} {cc : ByteArray} {maxL : Nat} {ret : Option FieldType} {rm : Room} {D : va_G} {dA : Nat → ClassId} {av : List Value} {ws : va_W} {sz : Nat} {mc ms : Nat}
/-- the entry of a method that changes nothing -/
theorem of_P {Qc : Array Value → State → Outcome → State → Prop} (hy : plainName y.cls = true) (ho : y.cls = own) (hlen : (lg_sl av).length ≤ maxL)
    (body : ∀ (p : Program) (e : Env) (s : State) (m : MethodId) (below : List Frame) (meth : Method) (c : Code), p.tables.exec = Jvm.exec → c.code = cc → meth.sig.returnType = ret → (∀ w ∈ aw, w.before av.toArray s = true) → s.vm.findClass own = some m.cls → c.maxLocals = maxL → meth.locks = false →
      va_P D cls ws s.heap → va_K D cls (tysA dA) s → va_S noA s.heap s.heap [] → ∀ ls : Array Slot, lv_has ls maxL (lv_args 0 av) → W p l e rm s m av.toArray below meth c s.heap [] 0 0 (MQ below Qc av.toArray s 0 0 noA) (F0 m 0 ls [])) :
    Met l y (wo (.code y cc maxL ret)) rm (preP D dA av ws) Qc 0 0 noA := by
  refine Met.ofW (cc := cc) (maxL := maxL) (ret := ret) hy rfl ?_
  intro p e s m args below meth c s₁ B hml hv
  obtain ⟨rfl, hP, hK⟩ := hv
  have hts := atoms_spec (ws := wo (.code y cc maxL ret)) B.pre
  have hl := lv_entry av (n := maxL) hlen
  rw [lg_entry_eq]
  exact body p e s m below meth c B.exec B.bytes B.returns (fun w h => hts w (List.mem_cons_of_mem _ h)) (ho ▸ findClass_of_methodNamed B.named) hml B.notSynchronized hP hK va_S.rf _ hl
/-- the entry of a method that changes its world -/
theorem of_M {Qc : (Nat → Prop) → Array Value → State → Outcome → State → Prop} (hy : plainName y.cls = true) (ho : y.cls = own) (hlen : (lg_sl av).length ≤ maxL)
    (body : ∀ (p : Program) (e : Env) (s : State) (m : MethodId) (below : List Frame) (meth : Method) (c : Code) (A : Nat → Prop), p.tables.exec = Jvm.exec → c.code = cc → meth.sig.returnType = ret → (∀ w ∈ aw, w.before av.toArray s = true) → s.vm.findClass own = some m.cls → c.maxLocals = maxL → meth.locks = false → meth.name = y.name →
      va_P D cls ws s.heap → va_K D cls (tysA dA) s → va_D A ws → va_S A s.heap s.heap [] → (∀ q : Nat, s.heap.size ≤ q → A q) → ∀ ls : Array Slot, lv_has ls maxL (lv_args 0 av) → W p l e rm s m av.toArray below meth c s.heap [] 0 0 (MQ below (Qc A) av.toArray s mc ms A) (F0 m 0 ls [])) :
    Met l y (wo (.code y cc maxL ret)) rm (preM D dA av sz ws) (Qc (va_A ws sz)) mc ms (va_A ws sz) := by
  refine Met.ofW (cc := cc) (maxL := maxL) (ret := ret) hy rfl ?_
  intro p e s m args below meth c s₁ B hml hv
  obtain ⟨rfl, hsz, hP, hK, hD0⟩ := hv
  have hts := atoms_spec (ws := wo (.code y cc maxL ret)) B.pre
  have hl := lv_entry av (n := maxL) hlen
  rw [lg_entry_eq]
  subst hsz
  exact body p e s m below meth c _ B.exec B.bytes B.returns (fun w h => hts w (List.mem_cons_of_mem _ h)) (ho ▸ findClass_of_methodNamed B.named) hml B.notSynchronized (name_of_methodNamed B.named B.method).1 hP hK hD0.self va_S.rf (fun q h => Or.inr h) _ hl
end ENT
section CR
variable {p : Program} {l : Launch} {e : Env} {R : Room} {s : State} {m : MethodId} {args : Array Value} {below : List Frame} {meth : Method} {c : Code} {H H0 : Heap} {locs : List Loc} {cells slots : Nat} {Q : State → Prop}
variable {y : MethodName} {bytes cc : ByteArray} {maxL nL mc ms n index pc : Nat} {ret : Option FieldType} {rm : Room} {Qc : Array Value → State → Outcome → State → Prop} {own C : String} {b : Addr} {As rest st0 : List Value} {ls : Array Slot} {D : va_G} {dA : Nat → ClassId} {ws wc wr w1 : va_W} {A0 : Nat → Prop}
/-- a virtual call of a method that changes nothing -/
theorem run_PV (S : CallFix p m c cc nL s args aw own) (hM : Met l y (wo (.code y bytes maxL ret)) rm (preP D dA (.ref b :: As) wc) Qc 0 0 noA) (g : GoodIn aw (wsV own index C y (wo (.code y bytes maxL ret)))) (hd : y.cls = C ∧ y.cls ≠ "java/lang/invoke/MethodHandle" ∧ y.cls ≠ "java/lang/invoke/VarHandle" ∧ (parseMethodDescriptor y.desc).map (fun d => d.parameters.length) = some n)
    (hR : rm.frames + 1 ≤ R.frames ∧ 8 + (maxL + 11) + rm.locals ≤ R.locals) (hrm : rm.cells = 0 ∧ rm.slots = 0) (hK : va_K D cls (tysA dA) s) (hP : va_P D cls ws H) (is : List Nat) (hC : is.filterMap (fun i => ws[i]?) = wc) (q0 ci : Nat) {q : vw_C} {fs : List Value} (hq : q.1 = C) (hci : cls[ci]? = some q) (he : ws[q0]? = some (b, .inr (ci, fs)))
    (hn : As.length = n) (hsize : ls.size = nL) (hst : st0 = As.reverse ++ .ref b :: rest) (hW : (rest.map fun v => v.category).sum ≤ 8) (hdg : decode cc pc = .ok (.invokevirtual index, 3)) (hf : cells ≤ R.cells ∧ slots ≤ R.slots) :
    va_Run p l e R s m args below meth c H locs cells slots 0 0 (F0 m pc ls st0) rest (Qc (Value.ref b :: As).toArray) noA :=
  va_runV S hM (cwV n S.2.2.2.2 g rfl hrm.1 hrm.2 hd hR) ⟨preP_bl, hq ▸ va_recv hK hP hci he, fun U hU hW => ⟨rfl, by rw [hU]; exact hP.sub is hC, va_K.moved hW.alike hK⟩⟩ rfl hn hsize hst (lv_room hW) hdg hf
theorem run_PS (S : CallFix p m c cc nL s args aw own) (hM : Met l y (wo (.code y bytes maxL ret)) rm (preP D dA As wc) Qc 0 0 noA) (g : GoodIn aw (wsS own index y (wo (.code y bytes maxL ret)))) (hd : y.cls = own ∧ y.cls ≠ "java/lang/invoke/MethodHandle" ∧ y.cls ≠ "java/lang/invoke/VarHandle" ∧ (parseMethodDescriptor y.desc).map (fun d => d.parameters.length) = some n)
    (hR : rm.frames + 1 ≤ R.frames ∧ 8 + (maxL + 11) + rm.locals ≤ R.locals) (hrm : rm.cells = 0 ∧ rm.slots = 0) (hK : va_K D cls (tysA dA) s) (hP : va_P D cls ws H) (is : List Nat) (hC : is.filterMap (fun i => ws[i]?) = wc)
    (hn : As.length = n) (hsize : ls.size = nL) (hst : st0 = As.reverse ++ rest) (hW : (rest.map fun v => v.category).sum ≤ 8) (hdg : decode cc pc = .ok (.invokestatic index, 3)) (hf : cells ≤ R.cells ∧ slots ≤ R.slots) :
    va_Run p l e R s m args below meth c H locs cells slots 0 0 (F0 m pc ls st0) rest (Qc As.toArray) noA :=
  va_runS S hM (cwS n S.2.2.2.2 g rfl hrm.1 hrm.2 hd hR) ⟨preP_bl, fun U hU hW => ⟨rfl, by rw [hU]; exact hP.sub is hC, va_K.moved hW.alike hK⟩⟩ rfl hn hsize hst (lv_room hW) hdg hf
theorem run_MV (S : CallFix p m c cc nL s args aw own) (hM : Met l y (wo (.code y bytes maxL ret)) rm (preM D dA (.ref b :: As) H.size wc) Qc mc ms (va_A wc H.size)) (g : GoodIn aw (wsV own index C y (wo (.code y bytes maxL ret)))) (hd : y.cls = C ∧ y.cls ≠ "java/lang/invoke/MethodHandle" ∧ y.cls ≠ "java/lang/invoke/VarHandle" ∧ (parseMethodDescriptor y.desc).map (fun d => d.parameters.length) = some n)
    (hR : rm.frames + 1 ≤ R.frames ∧ 8 + (maxL + 11) + rm.locals ≤ R.locals) (hrm : rm.cells = mc ∧ rm.slots = ms) (hK : va_K D cls (tysA dA) s) (hP : va_P D cls ws H) (hD : va_D A0 ws) (is : List Nat) (hnd : va_nd is = true) (hC : is.map (fun i => ws[i]?) = wc.map some) (q0 ci : Nat) {q : vw_C} {fs : List Value} (hq : q.1 = C) (hci : cls[ci]? = some q) (he : ws[q0]? = some (b, .inr (ci, fs)))
    (hn : As.length = n) (hsize : ls.size = nL) (hst : st0 = As.reverse ++ .ref b :: rest) (hW : (rest.map fun v => v.category).sum ≤ 8) (hdg : decode cc pc = .ok (.invokevirtual index, 3)) (hf : cells + mc ≤ R.cells ∧ slots + ms ≤ R.slots) :
    va_Run p l e R s m args below meth c H locs cells slots mc ms (F0 m pc ls st0) rest (Qc (Value.ref b :: As).toArray) (va_A wc H.size) :=
  va_runV S hM (cwV n S.2.2.2.2 g rfl hrm.1 hrm.2 hd hR) ⟨preM_bl, hq ▸ va_recv hK hP hci he, fun U hU hW => ⟨rfl, by rw [hU], by rw [hU]; exact hP.sub is (fm_of_map hC), va_K.moved hW.alike hK, (hD.sub is hnd hC).weaken (fun _ _ _ _ => trivial)⟩⟩ rfl hn hsize hst (lv_room hW) hdg hf
theorem run_MS (S : CallFix p m c cc nL s args aw own) (hM : Met l y (wo (.code y bytes maxL ret)) rm (preM D dA As H.size wc) Qc mc ms (va_A wc H.size)) (g : GoodIn aw (wsS own index y (wo (.code y bytes maxL ret)))) (hd : y.cls = own ∧ y.cls ≠ "java/lang/invoke/MethodHandle" ∧ y.cls ≠ "java/lang/invoke/VarHandle" ∧ (parseMethodDescriptor y.desc).map (fun d => d.parameters.length) = some n)
    (hR : rm.frames + 1 ≤ R.frames ∧ 8 + (maxL + 11) + rm.locals ≤ R.locals) (hrm : rm.cells = mc ∧ rm.slots = ms) (hK : va_K D cls (tysA dA) s) (hP : va_P D cls ws H) (hD : va_D A0 ws) (is : List Nat) (hnd : va_nd is = true) (hC : is.map (fun i => ws[i]?) = wc.map some)
    (hn : As.length = n) (hsize : ls.size = nL) (hst : st0 = As.reverse ++ rest) (hW : (rest.map fun v => v.category).sum ≤ 8) (hdg : decode cc pc = .ok (.invokestatic index, 3)) (hf : cells + mc ≤ R.cells ∧ slots + ms ≤ R.slots) :
    va_Run p l e R s m args below meth c H locs cells slots mc ms (F0 m pc ls st0) rest (Qc As.toArray) (va_A wc H.size) :=
  va_runS S hM (cwS n S.2.2.2.2 g rfl hrm.1 hrm.2 hd hR) ⟨preM_bl, fun U hU hW => ⟨rfl, by rw [hU], by rw [hU]; exact hP.sub is (fm_of_map hC), va_K.moved hW.alike hK, (hD.sub is hnd hC).weaken (fun _ _ _ _ => trivial)⟩⟩ rfl hn hsize hst (lv_room hW) hdg hf
/-- behind a call that changes nothing -/
theorem k_Pi {r : Int32} {a : Array Value} (hr : va_Run p l e R s m args below meth c H locs cells slots 0 0 (F0 m pc ls st0) rest (poPi r a) noA) (hP : va_P D cls ws H) (hS : va_S A0 H0 H locs)
    (kk : ∀ (H1 : Heap) (locs1 : List Loc), va_P D cls ws H1 → va_S A0 H0 H1 locs1 → W p l e R s m args below meth c H1 locs1 cells slots Q (F0 m (pc + 3) ls (.int r :: rest))) : W p l e R s m args below meth c H locs cells slots Q (F0 m pc ls st0) :=
  va_calli hr hS (fun _ _ h => h.elim) (fun _ h => h.elim) (fun r' u t H1 locs1 ht hvm hw hB hz hk hS1 => by
    obtain rfl : r' = r := hw
    exact kk H1 locs1 (hP.kept (fun k q hq => hk q.1 (hP k q hq).lt (fun z => z))) hS1)
theorem k_Pd {r : UInt64} {a : Array Value} (hr : va_Run p l e R s m args below meth c H locs cells slots 0 0 (F0 m pc ls st0) rest (poPd r a) noA) (hP : va_P D cls ws H) (hS : va_S A0 H0 H locs)
    (kk : ∀ (H1 : Heap) (locs1 : List Loc), va_P D cls ws H1 → va_S A0 H0 H1 locs1 → W p l e R s m args below meth c H1 locs1 cells slots Q (F0 m (pc + 3) ls (.double r :: rest))) : W p l e R s m args below meth c H locs cells slots Q (F0 m pc ls st0) :=
  va_calld hr hS (fun _ _ h => h.elim) (fun _ h => h.elim) (fun r' u t H1 locs1 ht hvm hw hB hz hk hS1 => by
    obtain rfl : r' = r := hw
    exact kk H1 locs1 (hP.kept (fun k q hq => hk q.1 (hP k q hq).lt (fun z => z))) hS1)
theorem k_Pf {r : UInt32} {a : Array Value} (hr : va_Run p l e R s m args below meth c H locs cells slots 0 0 (F0 m pc ls st0) rest (poPf r a) noA) (hP : va_P D cls ws H) (hS : va_S A0 H0 H locs)
    (kk : ∀ (H1 : Heap) (locs1 : List Loc), va_P D cls ws H1 → va_S A0 H0 H1 locs1 → W p l e R s m args below meth c H1 locs1 cells slots Q (F0 m (pc + 3) ls (.float r :: rest))) : W p l e R s m args below meth c H locs cells slots Q (F0 m pc ls st0) :=
  va_callf hr hS (fun _ _ h => h.elim) (fun _ h => h.elim) (fun r' u t H1 locs1 ht hvm hw hB hz hk hS1 => by
    obtain rfl : r' = r := hw
    exact kk H1 locs1 (hP.kept (fun k q hq => hk q.1 (hP k q hq).lt (fun z => z))) hS1)
/-- behind a call that changes its world: the other cells first, then the callee's -/
theorem k_Mi {r : Int32} {a : Array Value} (hr : va_Run p l e R s m args below meth c H locs cells slots mc ms (F0 m pc ls st0) rest (poMi D r w1 (va_A wc H.size) a) (va_A wc H.size)) (hP : va_P D cls ws H) (hD : va_D A0 ws) (hS : va_S A0 H0 H locs) (hA : ∀ q, H0.size ≤ q → A0 q) (isC isR : List Nat) (hC : isC.map (fun i => ws[i]?) = wc.map some) (hRr : isR.map (fun i => ws[i]?) = wr.map some) (hnd : va_nd isR = true) (hdis : ∀ i ∈ isR, i ∉ isC)
    (kk : ∀ (H1 : Heap) (locs1 : List Loc), va_P D cls (wr ++ w1) H1 → va_D A0 (wr ++ w1) → va_S A0 H0 H1 locs1 → W p l e R s m args below meth c H1 locs1 (cells + mc) (slots + ms) Q (F0 m (pc + 3) ls (.int r :: rest))) : W p l e R s m args below meth c H locs cells slots Q (F0 m pc ls st0) := by
  have hF := va_free hD hS hA isC hC
  refine va_calli hr hS (fun q _ h => hF q h) hF (fun r' u t H1 locs1 ht hvm hw hB hz hk hS1 => ?_)
  obtain rfl : r' = r := hw
  obtain ⟨hP1, hD1⟩ := hB
  rw [ht] at hP1
  obtain ⟨hP2, hD2⟩ := va_join hP hD isC isR hC hRr hnd hdis hk hF hP1 hD1
  exact kk H1 locs1 hP2 hD2 hS1
theorem k_Mv {a : Array Value} (hr : va_Run p l e R s m args below meth c H locs cells slots mc ms (F0 m pc ls st0) rest (poMv D w1 (va_A wc H.size) a) (va_A wc H.size)) (hP : va_P D cls ws H) (hD : va_D A0 ws) (hS : va_S A0 H0 H locs) (hA : ∀ q, H0.size ≤ q → A0 q) (isC isR : List Nat) (hC : isC.map (fun i => ws[i]?) = wc.map some) (hRr : isR.map (fun i => ws[i]?) = wr.map some) (hnd : va_nd isR = true) (hdis : ∀ i ∈ isR, i ∉ isC)
    (kk : ∀ (H1 : Heap) (locs1 : List Loc), va_P D cls (wr ++ w1) H1 → va_D A0 (wr ++ w1) → va_S A0 H0 H1 locs1 → W p l e R s m args below meth c H1 locs1 (cells + mc) (slots + ms) Q (F0 m (pc + 3) ls rest)) : W p l e R s m args below meth c H locs cells slots Q (F0 m pc ls st0) := by
  have hF := va_free hD hS hA isC hC
  refine va_callv hr hS (fun q _ h => hF q h) hF (fun u t H1 locs1 ht hvm hw hB hz hk hS1 => ?_)
  obtain ⟨hP1, hD1⟩ := hB
  rw [ht] at hP1
  obtain ⟨hP2, hD2⟩ := va_join hP hD isC isR hC hRr hnd hdis hk hF hP1 hD1
  exact kk H1 locs1 hP2 hD2 hS1
/-- a computed number under a name -/
theorem tp_i {x z : Int32} (h : z = x) (k : W p l e R s m args below meth c H locs cells slots Q (F0 m pc ls (.int z :: rest))) : W p l e R s m args below meth c H locs cells slots Q (F0 m pc ls (.int x :: rest)) := by
  subst h
  exact k
end CR
section RT
variable {p : Program} {l : Launch} {e : Env} {R : Room} {s : State} {m : MethodId} {args : Array Value} {below : List Frame} {meth : Method} {c : Code} {H H0 : Heap} {locs : List Loc} {cells slots : Nat} {Q : State → Prop} {cc : ByteArray} {pc : Nat} {ls : Array Slot} {D : va_G} {w1 ws : va_W} {A : Nat → Prop} {rest : List Value} {dA : Nat → ClassId}
theorem rt_Pi {v r : Int32} (hx : p.tables.exec = Jvm.exec) (hb : c.code = cc) (hr : meth.sig.returnType = some .int) (hk : meth.locks = false) (hv : v = r) (hS : va_S noA s.heap H locs) (hdg : decode cc pc = .ok (.ireturn, 1)) : W p l e R s m args below meth c H locs cells slots (MQ below (poPi r) args s cells slots noA) (F0 m pc ls [.int v]) :=
  W.iret hx hb hr (fun t ht hW => ⟨⟨v, (), rfl, hv, trivial⟩, hS.F ht⟩) hS.2.2 hdg hk
theorem sf_z1 {v : Int32} (h : v = 0 ∨ v = 1) : narrow .boolean (.int v) = .int v := by rcases h with rfl | rfl <;> rfl
theorem sf_z2 {v : Int32} (h : v = 0 ∨ v = 1) : fits .boolean (.int v) = true := by rcases h with rfl | rfl <;> rfl
theorem rt_Pz {v r : Int32} {ty : FieldType} (hx : p.tables.exec = Jvm.exec) (hb : c.code = cc) (hr : meth.sig.returnType = some ty) (hk : meth.locks = false) (hv : v = r) (hn : narrow ty (.int v) = .int v) (hS : va_S noA s.heap H locs) (hdg : decode cc pc = .ok (.ireturn, 1)) : W p l e R s m args below meth c H locs cells slots (MQ below (poPi r) args s cells slots noA) (F0 m pc ls [.int v]) :=
  W.zret hx hb hr hn (fun t ht hW => ⟨⟨v, (), rfl, hv, trivial⟩, hS.F ht⟩) hS.2.2 hdg hk
theorem rt_Mi {v : Int32} (hx : p.tables.exec = Jvm.exec) (hb : c.code = cc) (hr : meth.sig.returnType = some .int) (hk : meth.locks = false) (hP : va_P D cls w1 H) (hD : va_D A w1) (hS : va_S A s.heap H locs) (hdg : decode cc pc = .ok (.ireturn, 1)) : W p l e R s m args below meth c H locs cells slots (MQ below (poMi D v w1 A) args s cells slots A) (F0 m pc ls [.int v]) :=
  W.iret hx hb hr (fun t ht hW => ⟨⟨v, (), rfl, rfl, by rw [ht]; exact hP, hD⟩, hS.F ht⟩) hS.2.2 hdg hk
theorem rt_Mz {v : Int32} {ty : FieldType} (hx : p.tables.exec = Jvm.exec) (hb : c.code = cc) (hr : meth.sig.returnType = some ty) (hk : meth.locks = false) (hn : narrow ty (.int v) = .int v) (hP : va_P D cls w1 H) (hD : va_D A w1) (hS : va_S A s.heap H locs) (hdg : decode cc pc = .ok (.ireturn, 1)) : W p l e R s m args below meth c H locs cells slots (MQ below (poMi D v w1 A) args s cells slots A) (F0 m pc ls [.int v]) :=
  W.zret hx hb hr hn (fun t ht hW => ⟨⟨v, (), rfl, rfl, by rw [ht]; exact hP, hD⟩, hS.F ht⟩) hS.2.2 hdg hk
theorem rt_Mv (hx : p.tables.exec = Jvm.exec) (hb : c.code = cc) (hr : meth.sig.returnType = none) (hk : meth.locks = false) (hP : va_P D cls w1 H) (hD : va_D A w1) (hS : va_S A s.heap H locs) (hdg : decode cc pc = .ok (.return_, 1)) : W p l e R s m args below meth c H locs cells slots (MQ below (poMv D w1 A) args s cells slots A) (F0 m pc ls []) :=
  W.vret hx hb hr (fun t ht hW => ⟨⟨(), rfl, trivial, by rw [ht]; exact hP, hD⟩, hS.F ht⟩) hS.2.2 hdg hk
/-- stores that name the new world -/
theorem ia_st {ws' : va_W} (hx : p.tables.exec = Jvm.exec) (hb : c.code = cc) (hK : va_K D cls (tysA dA) s) (hP : va_P D cls ws H) (hD : va_D A ws) (hS : va_S A H0 H locs) (q0 : Nat) {a : Nat} {n : Nat} {f g : Nat → Int32} (ha : ws[q0]? = some (a, .inl (dA 0, n, .inl f))) {i x : Int32} (hin : sf_in i n = true) (hg : g = upd f i.toNatClampNeg x) (hw : ws.set q0 (a, .inl (dA 0, n, .inl g)) = ws') (hdg : decode cc pc = .ok (.iastore, 1))
    (kk : ∀ (H1 : Heap) (locs1 : List Loc), va_P D cls ws' H1 → va_D A ws' → va_S A H0 H1 locs1 → W p l e R s m args below meth c H1 locs1 cells slots Q (F0 m (pc + 1) ls rest)) : W p l e R s m args below meth c H locs cells slots Q (F0 m pc ls (.int x :: .int i :: .ref a :: rest)) := by
  subst hw hg
  exact va_iast hx hb hK hP hD hS q0 0 ha rfl (sf_inv hin) hdg kk
theorem ca_st {ws' : va_W} (hx : p.tables.exec = Jvm.exec) (hb : c.code = cc) (hK : va_K D cls (tysA dA) s) (hP : va_P D cls ws H) (hD : va_D A ws) (hS : va_S A H0 H locs) (q0 : Nat) {a : Nat} {n : Nat} {f g : Nat → Int32} (ha : ws[q0]? = some (a, .inl (dA 1, n, .inl f))) {i x : Int32} (hin : sf_in i n = true) (hg : g = upd f i.toNatClampNeg (vp_nar .char x)) (hw : ws.set q0 (a, .inl (dA 1, n, .inl g)) = ws') (hdg : decode cc pc = .ok (.castore, 1))
    (kk : ∀ (H1 : Heap) (locs1 : List Loc), va_P D cls ws' H1 → va_D A ws' → va_S A H0 H1 locs1 → W p l e R s m args below meth c H1 locs1 cells slots Q (F0 m (pc + 1) ls rest)) : W p l e R s m args below meth c H locs cells slots Q (F0 m pc ls (.int x :: .int i :: .ref a :: rest)) := by
  subst hw hg
  exact va_cast hx hb hK hP hD hS q0 1 ha rfl (sf_inv hin) hdg kk
theorem ia_ld (hx : p.tables.exec = Jvm.exec) (hb : c.code = cc) (hK : va_K D cls (tysA dA) s) (hP : va_P D cls ws H) (q0 : Nat) {a : Nat} {n : Nat} {f : Nat → Int32} (ha : ws[q0]? = some (a, .inl (dA 0, n, .inl f))) {i : Int32} (hin : sf_in i n = true) (hdg : decode cc pc = .ok (.iaload, 1))
    (kk : W p l e R s m args below meth c H locs cells slots Q (F0 m (pc + 1) ls (.int (f i.toNatClampNeg) :: rest))) : W p l e R s m args below meth c H locs cells slots Q (F0 m pc ls (.int i :: .ref a :: rest)) :=
  va_iald hx hb hK hP q0 0 ha rfl (sf_inv hin) hdg kk
theorem ca_ld (hx : p.tables.exec = Jvm.exec) (hb : c.code = cc) (hK : va_K D cls (tysA dA) s) (hP : va_P D cls ws H) (q0 : Nat) {a : Nat} {n : Nat} {f : Nat → Int32} (ha : ws[q0]? = some (a, .inl (dA 1, n, .inl f))) {i : Int32} (hin : sf_in i n = true) (hdg : decode cc pc = .ok (.caload, 1))
    (kk : W p l e R s m args below meth c H locs cells slots Q (F0 m (pc + 1) ls (.int (f i.toNatClampNeg) :: rest))) : W p l e R s m args below meth c H locs cells slots Q (F0 m pc ls (.int i :: .ref a :: rest)) :=
  va_cald hx hb hK hP q0 1 ha rfl (sf_inv hin) hdg kk
end RT
section PF
variable {p : Program} {l : Launch} {e : Env} {R : Room} {s : State} {m : MethodId} {args : Array Value} {below : List Frame} {meth : Method} {c : Code} {H H0 : Heap} {locs : List Loc} {cells slots : Nat} {Q : State → Prop} {cc : ByteArray} {pc : Nat} {ls : Array Slot} {D : va_G} {ws ws' : va_W} {A : Nat → Prop} {rest : List Value} {dA : Nat → ClassId}
/-- getfield -/
theorem gt_f {own C : String} {T : u_T} {N ci index : Nat} (hx : p.tables.exec = Jvm.exec) (hb : c.code = cc) (ha : ∀ w ∈ aw, w.before args s = true) (hin : ∀ w ∈ u_ws C T N, w ∈ aw) (hown : s.vm.findClass own = some m.cls) (hK : va_K D cls (tysA dA) s) (hP : va_P D cls ws H) (q0 : Nat) {a : Nat} {fs : List Value} (he : ws[q0]? = some (a, .inr (ci, fs))) (hc : cls[ci]? = some (C, T, N)) (k : Nat) (hk : k < N) (hlink : Cond.fieldLink own index (T k).1 (T k).2.1 (T k).2.2.1 ∈ aw) {v : Value} (hv : fs[k]? = some v) (hdg : decode cc pc = .ok (.getfield index, 3))
    (kk : W p l e R s m args below meth c H locs cells slots Q (F0 m (pc + 3) ls (v :: rest))) : W p l e R s m args below meth c H locs cells slots Q (F0 m pc ls (.ref a :: rest)) :=
  va_get hx hb ha hin hown hK hP q0 he hc k hk (ha _ hlink) (fun _ h => h) hv hdg kk
/-- putfield -/
theorem pt_f {own C : String} {T : u_T} {N ci index : Nat} (hx : p.tables.exec = Jvm.exec) (hb : c.code = cc) (ha : ∀ w ∈ aw, w.before args s = true) (hin : ∀ w ∈ u_ws C T N, w ∈ aw) (ty0 : Nat → FieldType) (hty : ∀ k, k < N → parseFieldDescriptor (T k).2.2.1 = some (ty0 k)) (hnm : ∀ a, a < N → ∀ b, b < N → a ≠ b → (T a).2.1 ≠ (T b).2.1) (hown : s.vm.findClass own = some m.cls) (hK : va_K D cls (tysA dA) s) (hP : va_P D cls ws H) (hD : va_D A ws) (hS : va_S A H0 H locs) (q0 : Nat) {a : Nat} {fs : List Value} (he : ws[q0]? = some (a, .inr (ci, fs))) (hc : cls[ci]? = some (C, T, N)) (k : Nat) (hk : k < N) (hlink : Cond.fieldLink own index (T k).1 (T k).2.1 (T k).2.2.1 ∈ aw) (hfin : (T k).2.2.2 = false) {ty : FieldType} {v : Value} (hd : parseFieldDescriptor (T k).2.2.1 = some ty) (hn : narrow ty v = v) (hfit : fits ty v = true) (hl : k < fs.length) (hw : ws.set q0 (a, .inr (ci, fs.set k v)) = ws')
    (hdg : decode cc pc = .ok (.putfield index, 3)) (kk : ∀ (H1 : Heap) (locs1 : List Loc), va_P D cls ws' H1 → va_D A ws' → va_S A H0 H1 locs1 → W p l e R s m args below meth c H1 locs1 cells slots Q (F0 m (pc + 3) ls rest)) : W p l e R s m args below meth c H locs cells slots Q (F0 m pc ls (v :: .ref a :: rest)) := by
  subst hw
  exact va_put hx hb ha hin ty0 hty hnm hown hK hP hD hS q0 he hc k hk (ha _ hlink) (fun _ h => h) hfin hd hn hfit hl hdg kk
theorem pt_F {own C : String} {T : u_T} {N ci index : Nat} (hx : p.tables.exec = Jvm.exec) (hb : c.code = cc) (ha : ∀ w ∈ aw, w.before args s = true) (hin : ∀ w ∈ u_ws C T N, w ∈ aw) (ty0 : Nat → FieldType) (hty : ∀ k, k < N → parseFieldDescriptor (T k).2.2.1 = some (ty0 k)) (hnm : ∀ a, a < N → ∀ b, b < N → a ≠ b → (T a).2.1 ≠ (T b).2.1) (hown : s.vm.findClass own = some m.cls) (hK : va_K D cls (tysA dA) s) (hP : va_P D cls ws H) (hD : va_D A ws) (hS : va_S A H0 H locs) (q0 : Nat) {a : Nat} {fs : List Value} (he : ws[q0]? = some (a, .inr (ci, fs))) (hc : cls[ci]? = some (C, T, N)) (k : Nat) (hk : k < N) (hlink : Cond.fieldLink own index (T k).1 (T k).2.1 (T k).2.2.1 ∈ aw) (hfin : (T k).2.2.2 = true) (hini : meth.name = "<init>") (hdecl : (T k).1 = own) {ty : FieldType} {v : Value} (hd : parseFieldDescriptor (T k).2.2.1 = some ty) (hn : narrow ty v = v) (hfit : fits ty v = true) (hl : k < fs.length) (hw : ws.set q0 (a, .inr (ci, fs.set k v)) = ws')
    (hdg : decode cc pc = .ok (.putfield index, 3)) (kk : ∀ (H1 : Heap) (locs1 : List Loc), va_P D cls ws' H1 → va_D A ws' → va_S A H0 H1 locs1 → W p l e R s m args below meth c H1 locs1 cells slots Q (F0 m (pc + 3) ls rest)) : W p l e R s m args below meth c H locs cells slots Q (F0 m pc ls (v :: .ref a :: rest)) := by
  subst hw
  exact va_putF hx hb ha hin ty0 hty hnm hown hK hP hD hS q0 he hc k hk (ha _ hlink) (fun _ h => h) hfin hini hdecl hd hn hfit hl hdg kk
theorem ii_nc {i nL k : Nat} {n : Int} {x z d : Int32} {lv lv' : List (Nat × Value)} (hx : p.tables.exec = Jvm.exec) (hb : c.code = cc) (hdg : decode cc pc = .ok (.iinc i n, 3)) (h : lv_has ls nL lv) (hk : lv[k]? = some (i, .int x)) (hz : z = x + d) (hd : Int32.ofInt n = d) (hn : i < nL) (hl : (i, Value.int z) :: lv.filter (fun q => !(q.1 == i) && !(q.1 + 1 == i && q.2.category == 2)) = lv')
    (kk : ∀ ls' : Array Slot, lv_has ls' nL lv' → W p l e R s m args below meth c H locs cells slots Q (F0 m (pc + 3) ls' rest)) : W p l e R s m args below meth c H locs cells slots Q (F0 m pc ls rest) :=
  lv_iinc hx hb hdg h hk (by rw [hz, hd]) hn hl kk
theorem mx_i {own : String} {index nL : Nat} {x y : Int32} (hx : p.tables.exec = Jvm.exec) (hb : c.code = cc) (ha : ∀ w ∈ aw, w.before args s = true) (hown : s.vm.findClass own = some m.cls) (hml : c.maxLocals = nL) (hsz : ls.size = nL) (hlink : Cond.methodLink own index Lib.Math.max.name ∈ aw) (hst : Cond.static Lib.Math.max.name ∈ aw) (hini : Cond.initialized "java/lang/Math" ∈ aw) (hcode : Cond.code Lib.Math.max.name Lib.Math.max.code 2 (some .int) ∈ aw) (hR : 1 ≤ R.frames ∧ (rest.map fun v => v.category).sum + 13 ≤ R.locals) (hf : cells ≤ R.cells ∧ slots ≤ R.slots) (hdg : decode cc pc = .ok (.invokestatic index, 3))
    (kk : W p l e R s m args below meth c H locs cells slots Q (F0 m (pc + 3) ls (.int (if x < y then y else x) :: rest))) : W p l e R s m args below meth c H locs cells slots Q (F0 m pc ls (.int y :: .int x :: rest)) :=
  va_mmax hx hb (hml.trans hsz.symm) hown (ha _ hlink) (ha _ hst) (ha _ hini) (ha _ hcode) hR.1 hR.2 hf.1 hf.2 hdg kk
theorem mn_i {own : String} {index nL : Nat} {x y : Int32} (hx : p.tables.exec = Jvm.exec) (hb : c.code = cc) (ha : ∀ w ∈ aw, w.before args s = true) (hown : s.vm.findClass own = some m.cls) (hml : c.maxLocals = nL) (hsz : ls.size = nL) (hlink : Cond.methodLink own index Lib.Math.min.name ∈ aw) (hst : Cond.static Lib.Math.min.name ∈ aw) (hini : Cond.initialized "java/lang/Math" ∈ aw) (hcode : Cond.code Lib.Math.min.name Lib.Math.min.code 2 (some .int) ∈ aw) (hR : 1 ≤ R.frames ∧ (rest.map fun v => v.category).sum + 13 ≤ R.locals) (hf : cells ≤ R.cells ∧ slots ≤ R.slots) (hdg : decode cc pc = .ok (.invokestatic index, 3))
    (kk : W p l e R s m args below meth c H locs cells slots Q (F0 m (pc + 3) ls (.int (if y < x then y else x) :: rest))) : W p l e R s m args below meth c H locs cells slots Q (F0 m pc ls (.int y :: .int x :: rest)) :=
  va_mmin hx hb (hml.trans hsz.symm) hown (ha _ hlink) (ha _ hst) (ha _ hini) (ha _ hcode) hR.1 hR.2 hf.1 hf.2 hdg kk
/-- System.arraycopy of ints -/
theorem cp_i {ws' : va_W} {own : String} {index nL : Nat} (hx : p.tables.exec = Jvm.exec) (hb : c.code = cc) (ha : ∀ w ∈ aw, w.before args s = true) (hown : s.vm.findClass own = some m.cls) (hml : c.maxLocals = nL) (hsz : ls.size = nL) (hlink : Cond.methodLink own index arraycopyName ∈ aw) (hnat : Cond.native arraycopyName ∈ aw) (hst : Cond.static arraycopyName ∈ aw) (hini : Cond.initialized "java/lang/System" ∈ aw)
    (hK : va_K D cls (tysA dA) s) (hP : va_P D cls ws H) (hD : va_D A ws) (hS : va_S A H0 H locs) (q0 q1 : Nat) {a a0 : Nat} {n0 n1 : Nat} {f g h : Nat → Int32} (ha0 : ws[q0]? = some (a0, .inl (dA 0, n0, .inl f))) (ha1 : ws[q1]? = some (a, .inl (dA 0, n1, .inl g))) {sp dp n : Int32} (hb4 : (¬ sp < 0 ∧ ¬ dp < 0 ∧ ¬ n < 0) ∧ sp.toNatClampNeg + n.toNatClampNeg ≤ n0 ∧ dp.toNatClampNeg + n.toNatClampNeg ≤ n1) (hh : h = va_cpy f g sp.toNatClampNeg dp.toNatClampNeg n.toNatClampNeg) (hw : ws.set q1 (a, .inl (dA 0, n1, .inl h)) = ws')
    (hR : 1 ≤ R.frames ∧ (rest.map fun v => v.category).sum + (nativeFrameWords "java/lang/System" "arraycopy" 5 + 11) ≤ R.locals) (hdg : decode cc pc = .ok (.invokestatic index, 3))
    (kk : ∀ (H1 : Heap) (locs1 : List Loc), va_P D cls ws' H1 → va_D A ws' → va_S A H0 H1 locs1 → W p l e R s m args below meth c H1 locs1 cells slots Q (F0 m (pc + 3) ls rest)) : W p l e R s m args below meth c H locs cells slots Q (F0 m pc ls (.int n :: .int dp :: .ref a :: .int sp :: .ref a0 :: rest)) := by
  subst hw hh
  exact va_copyi hx hb (hml.trans hsz.symm) hown (ha _ hlink) (ha _ hnat) (ha _ hst) (ha _ hini) hK hP hD hS q0 q1 0 0 ha0 ha1 rfl rfl rfl hb4.1.1 hb4.1.2.1 hb4.1.2.2 hb4.2.1 hb4.2.2 (fun i _ => rfl) hR.1 hR.2 hdg kk
end PF
/-- two arrays that agree as far as they reach are one picture -/
theorem va_P_ext {D : va_G} {ws : va_W} {H : Heap} (hP : va_P D cls ws H) (q0 : Nat) {a : Nat} {cA : ClassId} {n : Nat} {f g : Nat → Int32} (ha : ws[q0]? = some (a, .inl (cA, n, .inl f))) (hfg : ∀ k, k < n → f k = g k) : va_P D cls (ws.set q0 (a, .inl (cA, n, .inl g))) H := by
  intro k q hk
  by_cases h : k = q0
  · subst h
    have hlt : k < ws.length := by
      rcases Nat.lt_or_ge k ws.length with h | h
      · exact h
      · rw [List.getElem?_eq_none h] at ha; cases ha
    rw [List.getElem?_set_self hlt] at hk
    cases hk
    have h1 := hP k _ ha
    have e : vp_cell cA (n, .inl g) = vp_cell cA (n, .inl f) := by
      simp only [vp_cell, arrV]
      congr 1
      apply Array.ext
      · simp
      · intro i h1 h2
        simp only [Array.getElem_ofFn]
        rw [hfg i (by simpa using h1)]
    show H[a]? = some (vp_cell cA (n, .inl g))
    rw [e]
    exact h1
  · rw [List.getElem?_set_ne (Ne.symm h)] at hk
    exact hP k q hk
section CPF
variable {p : Program} {l : Launch} {e : Env} {R : Room} {s : State} {m : MethodId} {args : Array Value} {below : List Frame} {meth : Method} {c : Code} {H H0 : Heap} {locs : List Loc} {cells slots : Nat} {Q : State → Prop} {cc : ByteArray} {pc : Nat} {ls : Array Slot} {D : va_G} {ws ws' : va_W} {A : Nat → Prop} {rest : List Value} {dA : Nat → ClassId}
/-- a whole row copied over another -/
theorem cp_if {own : String} {index nL : Nat} (hx : p.tables.exec = Jvm.exec) (hb : c.code = cc) (ha : ∀ w ∈ aw, w.before args s = true) (hown : s.vm.findClass own = some m.cls) (hml : c.maxLocals = nL) (hsz : ls.size = nL) (hlink : Cond.methodLink own index arraycopyName ∈ aw) (hnat : Cond.native arraycopyName ∈ aw) (hst : Cond.static arraycopyName ∈ aw) (hini : Cond.initialized "java/lang/System" ∈ aw)
    (hK : va_K D cls (tysA dA) s) (hP : va_P D cls ws H) (hD : va_D A ws) (hS : va_S A H0 H locs) (q0 q1 : Nat) {a a0 : Nat} {n0 n1 : Nat} {f g : Nat → Int32} (ha0 : ws[q0]? = some (a0, .inl (dA 0, n0, .inl f))) (ha1 : ws[q1]? = some (a, .inl (dA 0, n1, .inl g))) {n : Int32} (hb4 : ¬ n < 0 ∧ n.toNatClampNeg = n1 ∧ n1 ≤ n0) (hw : ws.set q1 (a, .inl (dA 0, n1, .inl f)) = ws')
    (hR : 1 ≤ R.frames ∧ (rest.map fun v => v.category).sum + (nativeFrameWords "java/lang/System" "arraycopy" 5 + 11) ≤ R.locals) (hdg : decode cc pc = .ok (.invokestatic index, 3))
    (kk : ∀ (H1 : Heap) (locs1 : List Loc), va_P D cls ws' H1 → va_D A ws' → va_S A H0 H1 locs1 → W p l e R s m args below meth c H1 locs1 cells slots Q (F0 m (pc + 3) ls rest)) : W p l e R s m args below meth c H locs cells slots Q (F0 m pc ls (.int n :: .int 0 :: .ref a :: .int 0 :: .ref a0 :: rest)) := by
  obtain ⟨k1, k2, k3⟩ := hb4
  refine cp_i hx hb ha hown hml hsz hlink hnat hst hini hK hP hD hS q0 q1 ha0 ha1 ⟨⟨by decide, by decide, k1⟩, by rw [k2]; exact Nat.le_trans (Nat.le_of_eq (Nat.zero_add _)) k3, by rw [k2]; exact Nat.le_of_eq (Nat.zero_add _)⟩ rfl rfl hR hdg (fun H1 locs1 hP1 hD1 hS1 => ?_)
  have hlt : q1 < ws.length := by
    rcases Nat.lt_or_ge q1 ws.length with h | h
    · exact h
    · rw [List.getElem?_eq_none h] at ha1; cases ha1
  have hP2 := va_P_ext hP1 q1 (List.getElem?_set_self hlt) (g := f) (fun k hk => by rw [k2]; show va_cpy f g 0 0 n1 k = f k; simp [va_cpy, hk])
  rw [List.set_set, hw] at hP2
  have hD2 := hD1.set (p := q1) (List.getElem?_set_self hlt) (e := .inl (dA 0, n1, .inl f))
  rw [List.set_set, hw] at hD2
  exact kk H1 locs1 hP2 hD2 hS1
end CPF
theorem in_X1 : ∀ w ∈ u_ws RX1 TX1 5, w ∈ aw := by decide +kernel
theorem in_X2 : ∀ w ∈ u_ws RX2 TX2 2, w ∈ aw := by decide +kernel
theorem in_X4 : ∀ w ∈ u_ws RX4 TX4 4, w ∈ aw := by decide +kernel
theorem in_X5 : ∀ w ∈ u_ws RX5 TX5 4, w ∈ aw := by decide +kernel
theorem in_X6 : ∀ w ∈ u_ws RX6 TX6 3, w ∈ aw := by decide +kernel
theorem in_X8 : ∀ w ∈ u_ws RX8 TX8 9, w ∈ aw := by decide +kernel
theorem in_X9 : ∀ w ∈ u_ws RX9 TX9 2, w ∈ aw := by decide +kernel
theorem in_X10 : ∀ w ∈ u_ws RX10 TX10 4, w ∈ aw := by decide +kernel
theorem in_X12 : ∀ w ∈ u_ws RX12 TX12 17, w ∈ aw := by decide +kernel
