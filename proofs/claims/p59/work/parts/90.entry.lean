/-! OWN ROWS: the entry: what the Statement says of the start, as the parts want it -/
theorem e_D {args : Array Value} {s : State} (ha : ∀ w ∈ aw, w.before args s = true) : ∃ D : va_G, ∀ (c : Nat) (q : vw_C), cls[c]? = some q → u_Kn s q.1 q.2.1 q.2.2 (D.1 c) (D.2 c) := by
  have hc : ∀ c : Nat, ∃ p : ClassId × (Nat → Nat), ∀ q : vw_C, cls[c]? = some q → u_Kn s q.1 q.2.1 q.2.2 p.1 p.2 := by
    intro c
    by_cases h12 : 12 ≤ c
    · refine ⟨(0, fun _ => 0), fun q hq => ?_⟩
      have : cls[c]? = none := List.getElem?_eq_none (by simpa [cls] using h12)
      rw [this] at hq
      cases hq
    rcases (show c = 0 ∨ c = 1 ∨ c = 2 ∨ c = 3 ∨ c = 4 ∨ c = 5 ∨ c = 6 ∨ c = 7 ∨ c = 8 ∨ c = 9 ∨ c = 10 ∨ c = 11 by omega) with rfl | rfl | rfl | rfl | rfl | rfl | rfl | rfl | rfl | rfl | rfl | rfl
    · obtain ⟨a, b, h⟩ := u_known (C := RX1) (T := TX1) (N := 5) ha in_X1 (ha _ m_135)
      exact ⟨(a, b), fun q hq => by cases hq; exact h⟩
    · obtain ⟨a, b, h⟩ := u_known (C := RX2) (T := TX2) (N := 2) ha in_X2 (ha _ m_264)
      exact ⟨(a, b), fun q hq => by cases hq; exact h⟩
    · obtain ⟨a, b, h⟩ := u_known (C := RX4) (T := TX4) (N := 4) ha in_X4 (ha _ m_277)
      exact ⟨(a, b), fun q hq => by cases hq; exact h⟩
    · obtain ⟨a, b, h⟩ := u_known (C := RX5) (T := TX5) (N := 4) ha in_X5 (ha _ m_184)
      exact ⟨(a, b), fun q hq => by cases hq; exact h⟩
    · obtain ⟨a, b, h⟩ := u_known (C := RX6) (T := TX6) (N := 3) ha in_X6 (ha _ m_113)
      exact ⟨(a, b), fun q hq => by cases hq; exact h⟩
    · obtain ⟨a, b, h⟩ := u_known (C := RX7) (T := TX7) (N := 3) ha in_X7 (ha _ m_244)
      exact ⟨(a, b), fun q hq => by cases hq; exact h⟩
    · obtain ⟨a, b, h⟩ := u_known (C := RX8) (T := TX8) (N := 9) ha in_X8 (ha _ m_79)
      exact ⟨(a, b), fun q hq => by cases hq; exact h⟩
    · obtain ⟨a, b, h⟩ := u_known (C := RX9) (T := TX9) (N := 2) ha in_X9 (ha _ m_169)
      exact ⟨(a, b), fun q hq => by cases hq; exact h⟩
    · obtain ⟨a, b, h⟩ := u_known (C := RX10) (T := TX10) (N := 4) ha in_X10 (ha _ m_85)
      exact ⟨(a, b), fun q hq => by cases hq; exact h⟩
    · obtain ⟨a, b, h⟩ := u_known (C := RX11) (T := TX11) (N := 9) ha in_X11 (ha _ m_71)
      exact ⟨(a, b), fun q hq => by cases hq; exact h⟩
    · obtain ⟨a, b, h⟩ := u_known (C := RJ0) (T := TJ0) (N := 4) ha in_ST (ha _ m_604)
      exact ⟨(a, b), fun q hq => by cases hq; exact h⟩
    · obtain ⟨a, b, h⟩ := u_known (C := RJ4) (T := TJ4) (N := 4) ha in_SB (ha _ m_300)
      exact ⟨(a, b), fun q hq => by cases hq; exact h⟩
  obtain ⟨f, hf⟩ := Classical.axiomOfChoice hc
  exact ⟨(fun c => (f c).1, fun c => (f c).2), fun c q hq => hf c q hq⟩
theorem e_P {args : Array Value} {s : State} {ty : FieldType} (h : (Cond.arrayClass ty).before args s = true) : ∃ c : ClassId, ArrOfT s c ty ∧ s.vm.findClass ("[" ++ ty.toString) = some c := by
  obtain ⟨c, k, comp, h1, h2, h3⟩ := Cond.arrayClass_spec h
  exact ⟨c, fun n z => ⟨(fun _ h => by cases h), k, h2, comp, h3⟩, h1⟩
theorem e_O {args : Array Value} {s : State} {C : String} (h : (Cond.arrayOver (.object C)).before args s = true) : ∃ c : ClassId, ArrOfT s c (.object C) ∧ va_RA s c (.object C) := by
  obtain ⟨comp, c, k, h1, h2, h3, h4, h5⟩ := Cond.arrayOver_spec h
  exact ⟨c, fun n z => ⟨(fun _ h => by cases h), k, h3, comp, h4⟩, ⟨k, comp, h3, h4, h1, h5⟩⟩
theorem e_K {args : Array Value} {s : State} (ha : ∀ w ∈ aw, w.before args s = true) (hO : (Cond.arrayOver (.object "SlidePark$Office")).before args s = true) : ∃ (D : va_G) (dA : Nat → ClassId), va_K D cls (tysA dA) s := by
  obtain ⟨D, hD⟩ := e_D ha
  obtain ⟨c0, a0, b0⟩ := e_P (ha _ m_111)
  obtain ⟨c1, a1, b1⟩ := e_P (ha _ m_298)
  obtain ⟨c2, a2, b2⟩ := e_P (ha _ m_331)
  obtain ⟨c4, a4, b4⟩ := e_P (ha _ m_1633)
  obtain ⟨c3, a3, b3⟩ := e_O hO
  refine ⟨D, (fun k => if k = 0 then c0 else if k = 1 then c1 else if k = 2 then c2 else if k = 3 then c3 else c4), hD, ?_⟩
  intro k q hq
  by_cases h6 : 5 ≤ k
  · rw [List.getElem?_eq_none (by simpa [tysA] using h6)] at hq
    cases hq
  rcases (show k = 0 ∨ k = 1 ∨ k = 2 ∨ k = 3 ∨ k = 4 by omega) with rfl | rfl | rfl | rfl | rfl
  · cases hq; exact ⟨a0, b0⟩
  · cases hq; exact ⟨a1, b1⟩
  · cases hq; exact ⟨a2, b2⟩
  · cases hq; exact ⟨a3, b3⟩
  · cases hq; exact ⟨a4, b4⟩
def zflB : List Cond := flatC (Jvm.Cond.and given_1 narrow_1)
def ztmB (i : Nat) : Term := ([(Jvm.Term.string "SlidePark$Command" (56 : Nat)), (Jvm.Term.string "SlidePark$Command" (62 : Nat)), (Jvm.Term.string "SlidePark$Command" (65 : Nat)), (Jvm.Term.string "SlidePark$Command" (68 : Nat)), (Jvm.Term.string "SlidePark$Command" (71 : Nat)), (Jvm.Term.string "SlidePark$Command" (74 : Nat)), (Jvm.Term.string "SlidePark$Command" (77 : Nat)), (Jvm.Term.string "SlideParkLaw" (290 : Nat)), (Jvm.Term.string "SlideParkLaw" (277 : Nat)), (Jvm.Term.string "SlideParkLaw" (282 : Nat)), (Jvm.Term.string "SlideParkLaw" (284 : Nat)), (Jvm.Term.string "SlideParkLaw" (292 : Nat)), (Jvm.Term.string "SlideParkLaw" (294 : Nat)), (Jvm.Term.string "SlideParkLaw" (383 : Nat)), (Jvm.Term.string "SlideParkLaw" (385 : Nat)), (Jvm.Term.string "SlideParkLaw" (387 : Nat))] : List Term).getD i (.int 0)
def zsbB : List Nat := [1223, 1232, 1241, 1249, 1259, 1268, 1215, 807, 785, 790, 795, 812, 817, 1080, 1090, 1100]
def zebB : List Nat := [244, 250, 257, 265, 274, 284, 229]
def zneB : List (List Nat) := [[0, 256, 263, 271, 280, 290, 249], [256, 0, 264, 272, 281, 291, 255], [263, 264, 0, 273, 282, 292, 262], [271, 272, 273, 0, 283, 293, 270], [280, 281, 282, 283, 0, 294, 279], [290, 291, 292, 293, 294, 0, 289], [249, 255, 262, 270, 279, 289, 0]]
def zlsB : List Nat := [1645, 1646, 1647, 1648, 1649, 1650, 1550]
abbrev zc7B (i : Nat) : Term := .static "SlidePark$Command" (cwN.getD i "") "LSlidePark$Command;"
theorem q_s0 : ∀ i, i < 16 → zflB[zsbB.getD i 0]? = some (.exactly (ztmB i) "java/lang/String") := by decide +kernel
theorem q_s1 : ∀ i, i < 16 → zflB[zsbB.getD i 0 + 1]? = some (.eq (.field (ztmB i) "java/lang/String" "coder" "B") (.int 0)) := by decide +kernel
theorem q_s2 : ∀ i, i < 16 → zflB[zsbB.getD i 0 + 2]? = some (.arrayOf (.field (ztmB i) "java/lang/String" "value" "[B") .byte) := by decide +kernel
theorem q_s3 : ∀ i, i < 16 → zflB[zsbB.getD i 0 + 3]? = some (.eq (.length (.field (ztmB i) "java/lang/String" "value" "[B")) (.int (Int32.ofNat (cwL.getD i 0)))) := by decide +kernel
theorem q_s4 : ∀ i, i < 16 → ∀ j, j < cwL.getD i 0 → zflB[zsbB.getD i 0 + 4 + j]? = some (.eq (.elem (.field (ztmB i) "java/lang/String" "value" "[B") (.int (Int32.ofNat j))) (.int ((cwB.getD i []).getD j 0))) := by decide +kernel
theorem q_s5 : ∀ i, i < 16 → cwL.getD i 0 < 2 ^ 31 := by decide
theorem q_s6 : ∀ i, i < 16 → ∀ j, j < 16 → Int32.ofNat (cwL.getD i 0) = Int32.ofNat (cwL.getD j 0) → (0 < cwL.getD i 0 → 0 < cwL.getD j 0 → (cwB.getD i []).getD 0 0 = (cwB.getD j []).getD 0 0) → i = j := by decide +kernel
theorem q_e0 : ∀ i, i < 7 → zflB[zebB.getD i 0]? = some (.exactly (zc7B i) "SlidePark$Command") := by decide +kernel
theorem q_e1 : ∀ i, i < 7 → zflB[zebB.getD i 0 + 1]? = some (.eq (.field (zc7B i) "java/lang/Enum" "ordinal" "I") (.int (([0, 1, 2, 3, 4, 5, 6] : List Int32).getD i 0))) := by decide +kernel
theorem q_e2 : ∀ i, i < 7 → zflB[zebB.getD i 0 + 2]? = some (.eq (.field (zc7B i) "SlidePark$Command" "keyword" "Ljava/lang/String;") (ztmB i)) := by decide +kernel
theorem q_e3 : ∀ i, i < 7 → zflB[zebB.getD i 0 + 3]? = some (.eq (.field (zc7B i) "SlidePark$Command" "numberCount" "I") (.int (([2, 0, 3, 1, 2, 1, 1] : List Int32).getD i 0))) := by decide +kernel
theorem q_e4 : ∀ i, i < 7 → zflB[zebB.getD i 0 + 4]? = some (.eq (.field (zc7B i) "SlidePark$Command" "lastDigits" "I") (.int (([1, 0, 4, 2, 1, 1, 2] : List Int32).getD i 0))) := by decide +kernel
theorem q_e5 : ∀ i, i < 7 → ∀ j, j < 7 → i ≠ j → zflB[(zneB.getD i []).getD j 0]? = some (.not (.eq (zc7B i) (zc7B j))) ∨ zflB[(zneB.getD i []).getD j 0]? = some (.not (.eq (zc7B j) (zc7B i))) := by decide +kernel
theorem q_e6 : ∀ i, i < 7 → tables_1[zlsB.getD i 0]? = some (.laysStatic "SlidePark$Command" (cwN.getD i "") "LSlidePark$Command;") := by decide +kernel
theorem q_c0 : ∀ j, j < 7 → zflB[222 + j]? = some (.eq (.elem (.static "SlidePark" "COMMANDS" "[LSlidePark$Command;") (.int (Int32.ofNat j))) (zc7B j)) := by decide +kernel
theorem q_w0 : ∀ j, j < 7 → zflB[237 + j]? = some (.eq (.elem (.static "SlidePark$1" "$SwitchMap$SlidePark$Command" "[I") (.int (Int32.ofNat j))) (.int (swm j))) := by decide +kernel
theorem q_t0 : ∀ j, j < 100 → zflB[113 + j]? = some (.eq (.elem (.static "java/lang/Integer" "DigitTens" "[B") (.int (Int32.ofNat j))) (.int (dgT j))) := by decide +kernel
theorem q_o0 : ∀ j, j < 100 → zflB[10 + j]? = some (.eq (.elem (.static "java/lang/Integer" "DigitOnes" "[B") (.int (Int32.ofNat j))) (.int (dgO j))) := by decide +kernel
theorem e_S {args : Array Value} {s : State} {A : Nat → Prop} (hs : ∀ (i : Nat) (w : Cond), zflB[i]? = some w → w.before args s = true) (ht : ∀ (i : Nat) (w : Cond), tables_1[i]? = some w → w.before args s = true) (hA : ∀ a : Nat, a < s.heap.size → ¬ A a) : ∃ adK adV : Nat → Nat, vk_S 16 cwL cwB adK adV A s s.heap ∧ ∀ i, i < 16 → (ztmB i).eval args s none [] s = some (.ref (adK i)) := by
  have h0 : ∀ i : Nat, ∃ q : Nat × Nat, i < 16 → vk_S 1 [cwL.getD i 0] [cwB.getD i []] (fun _ => q.1) (fun _ => q.2) A s s.heap ∧ (ztmB i).eval args s none [] s = some (.ref q.1) := by
    intro i
    by_cases hi : i < 16
    · obtain ⟨k, v, h1, h2⟩ := vk_Sof (args := args) (s := s) (N := 1) (tm := fun _ => ztmB i) (len := [cwL.getD i 0]) (byt := [cwB.getD i []]) (A := A)
        (fun j hj => by rw [show j = 0 by omega]; exact q_s5 i hi) (fun j hj => hs _ _ (q_s0 i hi)) (fun j hj => hs _ _ (q_s1 i hi)) (fun j hj => hs _ _ (q_s2 i hi))
        (fun j hj => by rw [show j = 0 by omega]; exact hs _ _ (q_s3 i hi)) (fun j hj k hk => by
          have e : j = 0 := by omega
          subst e
          exact hs _ _ (q_s4 i hi k hk)) (fun a b ha hb hab => absurd (by omega : a = b) hab) hA
      refine ⟨(k 0, v 0), fun _ => ⟨⟨fun j hj => ?_, fun a b ha hb _ => by omega⟩, h2 0 (by omega)⟩⟩
      rw [show j = 0 by omega]
      exact h1.1 0 (by omega)
    · exact ⟨(0, 0), fun h => absurd h hi⟩
  obtain ⟨ad, had⟩ := Classical.axiomOfChoice h0
  refine ⟨fun i => (ad i).1, fun i => (ad i).2, ⟨fun i hi => (had i hi).1.1 0 (by omega), fun i j hi hj e => ?_⟩, fun i hi => (had i hi).2⟩
  have e3 : (ztmB i).eval args s none [] s = (ztmB j).eval args s none [] s := by
    rw [(had i hi).2, (had j hj).2]
    exact congrArg (fun a => some (Value.ref a)) e
  have e4 : (Term.field (ztmB i) "java/lang/String" "value" "[B").eval args s none [] s = (Term.field (ztmB j) "java/lang/String" "value" "[B").eval args s none [] s := by
    rw [va_fe (had i hi).2, va_fe (had j hj).2]
    exact congrArg (fun a => s.fieldOf? a "java/lang/String" "value" "[B") e
  apply q_s6 i hi j hj
  · have e1 := va_eqt (hs _ _ (q_s3 i hi))
    have e2 := va_eqt (hs _ _ (q_s3 j hj))
    have e5 : (Term.length (.field (ztmB i) "java/lang/String" "value" "[B")).eval args s none [] s = (Term.length (.field (ztmB j) "java/lang/String" "value" "[B")).eval args s none [] s := by
      first | (simp only [Term.eval, e3]; done) | (simp only [Term.eval] at e4 ⊢; rw [e4])
    rw [e5, e2] at e1
    exact (Value.int.inj (Option.some.inj e1)).symm
  · intro p1 p2
    have e1 := va_eqt (hs _ _ (q_s4 i hi 0 p1))
    have e2 := va_eqt (hs _ _ (q_s4 j hj 0 p2))
    have e5 : (Term.elem (.field (ztmB i) "java/lang/String" "value" "[B") (.int (Int32.ofNat 0))).eval args s none [] s = (Term.elem (.field (ztmB j) "java/lang/String" "value" "[B") (.int (Int32.ofNat 0))).eval args s none [] s := by
      first | (simp only [Term.eval, e3]; done) | (simp only [Term.eval] at e4 ⊢; rw [e4])
    rw [e5, e2] at e1
    exact (Value.int.inj (Option.some.inj e1)).symm
theorem e_E {args : Array Value} {s : State} {A : Nat → Prop} (hs : ∀ (i : Nat) (w : Cond), zflB[i]? = some w → w.before args s = true) (ht : ∀ (i : Nat) (w : Cond), tables_1[i]? = some w → w.before args s = true) (hA : ∀ a : Nat, a < s.heap.size → ¬ A a) : ∃ ad : Nat → Nat, va_En "SlidePark$Command" "LSlidePark$Command;" cwN cwF ad A s s.heap ∧ ∀ i, i < 7 → (zc7B i).eval args s none [] s = some (.ref (ad i)) := by
  refine va_Enof2 (args := args) (fun i hi => ht _ _ (q_e6 i hi)) (ht 35 _ (by decide +kernel)) (fun i hi => hs _ _ (q_e0 i hi)) (fun q hq => ?_) (fun i j hi hj hij => ?_) hA
  · simp only [cwF, List.mem_cons, List.not_mem_nil, or_false] at hq
    rcases hq with rfl | rfl | rfl
    · exact fun i hi => hs _ _ (q_e1 i hi)
    · exact fun i hi => hs _ _ (q_e3 i hi)
    · exact fun i hi => hs _ _ (q_e4 i hi)
  · rcases q_e5 i hi j hj hij with h | h
    · exact Or.inl (hs _ _ h)
    · exact Or.inr (hs _ _ h)
theorem e_msg {args : Array Value} {s : State} {A : Nat → Prop} (hs : ∀ (i : Nat) (w : Cond), zflB[i]? = some w → w.before args s = true) (ht : ∀ (i : Nat) (w : Cond), tables_1[i]? = some w → w.before args s = true) (hA : ∀ a : Nat, a < s.heap.size → ¬ A a) (i k : Nat) (own : String) (h : zflB[i]? = some (.exactly (.string own k) "java/lang/String")) : ∃ a : Nat, (Term.string own k).eval args s none [] s = some (.ref a) := by
  obtain ⟨a, c, cell, kk, q1, _⟩ := Cond.exactly_spec (hs _ _ h)
  exact ⟨a, q1⟩
def zcaB (b L : Nat) (xs : Nat → Int32) (kS vS ad : Nat → Nat) (l : List Nat) (k : Nat) : Nat := if k = 200 then b else if k = 201 then L else if 1000 ≤ k then (xs (k - 1000)).toBitVec.toNat else if 120 ≤ k then vS (k - 120) else if 100 ≤ k then kS (k - 100) else if k < 24 then ad (k - 16) else l.getD (k - 24) 0
section ZCA
variable {b L : Nat} {xs : Nat → Int32} {kS vS ad : Nat → Nat} {l : List Nat} {i : Nat}
theorem zca_0 (h : i < 16) : zcaB b L xs kS vS ad l (100 + i) = kS i := by
  rw [zcaB, if_neg (by omega), if_neg (by omega), if_neg (by omega), if_neg (by omega), if_pos (by omega), show 100 + i - 100 = i by omega]
theorem zca_1 (h : i < 16) : zcaB b L xs kS vS ad l (120 + i) = vS i := by
  rw [zcaB, if_neg (by omega), if_neg (by omega), if_neg (by omega), if_pos (by omega), show 120 + i - 120 = i by omega]
theorem zca_2 (h : i < 8) : zcaB b L xs kS vS ad l (16 + i) = ad i := by
  rw [zcaB, if_neg (by omega), if_neg (by omega), if_neg (by omega), if_neg (by omega), if_neg (by omega), if_pos (by omega), show 16 + i - 16 = i by omega]
theorem zca_3 (h : i < 40) : zcaB b L xs kS vS ad l (24 + i) = l.getD i 0 := by
  rw [zcaB, if_neg (by omega), if_neg (by omega), if_neg (by omega), if_neg (by omega), if_neg (by omega), if_neg (by omega), show 24 + i - 24 = i by omega]
theorem zca_4 : zcaB b L xs kS vS ad l (1000 + i) = (xs i).toBitVec.toNat := by
  rw [zcaB, if_neg (by omega), if_neg (by omega), if_pos (by omega), show 1000 + i - 1000 = i by omega]
end ZCA
theorem zca_n (x : Int32) : Int32.ofNat x.toBitVec.toNat = x := by
  apply Int32.toBitVec_inj.mp
  first
  | (rw [Int32.toBitVec_ofNat]; simp; done)
  | (simp; done)
  | (show BitVec.ofNat 32 x.toBitVec.toNat = x.toBitVec; simp)
theorem e_X {s : State} {A : Nat → Prop} {b L : Nat} {xs f : Nat → Int32} (h : va_X b L xs s s.heap) (hf : ∀ j, xs j = f j) (hA : ∀ a : Nat, a < s.heap.size → ¬ A a) : va_T .int b L (fun j => .int (f j)) A s s.heap := by
  obtain ⟨scr, h1, h2, h3, h4, h5⟩ := h
  refine ⟨scr, h1, h2, h3, Nat.le_of_eq h4.symm, by rw [h4], fun j hj => by rw [h5 j hj, hf j], hA b ?_⟩
  exact (Array.getElem?_eq_some_iff.mp h1).1
theorem e_all {args : Array Value} {s : State} (ht : ∀ (i : Nat) (w : Cond), tables_1[i]? = some w → w.before args s = true) {L : List Cond} {ix : List Nat} (h : ∀ i, i < L.length → tables_1[ix.getD i 0]? = L[i]?) : ∀ w ∈ L, w.before args s = true := by
  intro w hw
  obtain ⟨i, hi⟩ := List.mem_iff_getElem?.mp hw
  have hl : i < L.length := (List.getElem?_eq_some_iff.mp hi).1
  exact ht _ _ ((h i hl).trans hi)
theorem q_nest : ∀ i, i < cwNest.length → tables_1[([50, 56, 84, 106, 140, 155, 221, 235, 248, 1541] : List Nat).getD i 0]? = cwNest[i]? := by decide +kernel
theorem q_excW : ∀ i, i < excW.length → tables_1[([395, 467, 483, 499, 515, 1339, 397, 399, 401, 990] : List Nat).getD i 0]? = excW[i]? := by decide +kernel
theorem q_excN : ∀ i, i < 8 → zflB[([307, 346, 347, 348, 308, 328, 349, 309] : List Nat).getD i 0]? = some (.not (.castable (excN.getD i ("", "")).1 (excN.getD i ("", "")).2)) := by decide +kernel
theorem e_selP {args : Array Value} {s : State} {x y z : MethodName} {C : String} (h0 : (Cond.selects C x z).before args s = true) (hz : z.cls = y.cls) (hy : y.cls ≠ "java/lang/invoke/MethodHandle" ∧ y.cls ≠ "java/lang/invoke/VarHandle") (hpriv : (Cond.privateMethod y).before args s = true) (hinst : (Cond.instanceMethod y).before args s = true) : (Cond.selects C y y).before args s = true := by
  obtain ⟨c, r, m, hc, _, hm, _, k, hk, hni⟩ := Cond.selects_spec h0
  obtain ⟨mk, methM, hnamed, hmethM, -, -⟩ := Cond.instanceMethod_spec hinst
  have hfound : s.methodFound? y.cls y.name y.desc = some mk := State.methodFound?_of_named hnamed hy
  have hcls : mk.cls = m.cls := Option.some.inj ((findClass_of_methodNamed hnamed).symm.trans (by rw [← hz]; exact findClass_of_methodNamed hm))
  have hsel : selectMethod {} s.vm c mk = .method mk := selectMethod_private hmethM (Cond.privateMethod_at hpriv mk methM hnamed hmethM)
  rw [← hcls] at hk
  simp only [Cond.before, Cond.holds, Cond.value, hc, hfound, hnamed, hsel, hk]
  simp; exact hni
theorem e_C {args : Array Value} {s : State} {A : Nat → Prop} (hs : ∀ (i : Nat) (w : Cond), zflB[i]? = some w → w.before args s = true) (ht : ∀ (i : Nat) (w : Cond), tables_1[i]? = some w → w.before args s = true) (hA : ∀ a : Nat, a < s.heap.size → ¬ A a) (b L : Nat) (xs : Nat → Int32) (hx : va_X b L xs s s.heap) : ∃ cA : Nat → Nat, CWX cA A s ∧ cA 200 = b ∧ cA 201 = L := by
  obtain ⟨kS, vS, h1, h2⟩ := e_S hs ht hA
  obtain ⟨ad, h3, h4⟩ := e_E hs ht hA
  have h5 : va_Ef 7 "SlidePark$Command" "keyword" "Ljava/lang/String;" (fun i => .ref (kS i)) ad A s s.heap := va_Efof (nm := cwN) (tm := ztmB) h4 (fun i hi => hs _ _ (q_e2 i hi)) (fun i hi => h2 i (by omega)) hA
  obtain ⟨tC, c1, c2⟩ := va_Tof (args := args) (s := s) (tm := .static "SlidePark" "COMMANDS" "[LSlidePark$Command;") (ty := .object "SlidePark$Command") (N := 7) (f := fun j => .ref (ad j)) (A := A) (by decide) (hs 219 _ (by decide +kernel)) (va_eqt (hs 220 _ (by decide +kernel))) (fun j hj => va_eqv (hs _ _ (q_c0 j hj)) (h4 j hj)) hA
  have c3 : va_Z "SlidePark" "COMMANDS" "[LSlidePark$Command;" (.ref tC) A s s.heap := va_Zof (args := args) (ht 1542 _ (by decide +kernel)) (ht 1 _ (by decide +kernel)) c1 hA
  obtain ⟨tW, w1, w2⟩ := va_Tof (args := args) (s := s) (tm := .static "SlidePark$1" "$SwitchMap$SlidePark$Command" "[I") (ty := .int) (N := 7) (f := fun j => .int (swm j)) (A := A) (by decide) (hs 235 _ (by decide +kernel)) (va_eqt (hs 236 _ (by decide +kernel))) (fun j hj => va_eqt (hs _ _ (q_w0 j hj))) hA
  have w3 : va_Z "SlidePark$1" "$SwitchMap$SlidePark$Command" "[I" (.ref tW) A s s.heap := va_Zof (args := args) (ht 1575 _ (by decide +kernel)) (ht 36 _ (by decide +kernel)) w1 hA
  have z1 : va_Z "java/lang/String" "COMPACT_STRINGS" "Z" (.int 1) A s s.heap := va_Zof (args := args) (ht 279 _ (by decide +kernel)) (ht 13 _ (by decide +kernel)) (va_eqi (hs 4 _ (by decide +kernel))) hA
  have z2 : va_Zq "jdk/internal/util/Preconditions" "SIOOBE_FORMATTER" "Ljava/util/function/BiFunction;" A s s.heap := (vx_Zqof (args := args) (ht 1019 _ (by decide +kernel)) (ht 30 _ (by decide +kernel)) (hs 213 _ (by decide +kernel)) hA).1
  have z3 : vx_Zq Bundle.tN "UNASSIGNED_STACK" Bundle.steD A s s.heap := vx_Zqof (args := args) (ht 420 _ (by decide +kernel)) (ht 16 _ (by decide +kernel)) (hs 5 _ (by decide +kernel)) hA
  have z4 : vx_Zq Bundle.tN "SUPPRESSED_SENTINEL" Bundle.listD A s s.heap := vx_Zqof (args := args) (ht 422 _ (by decide +kernel)) (ht 16 _ (by decide +kernel)) (hs 6 _ (by decide +kernel)) hA
  obtain ⟨tT, t1, t2⟩ := va_Tof (args := args) (s := s) (tm := .static "java/lang/Integer" "DigitTens" "[B") (ty := .byte) (N := 100) (f := fun j => .int (dgT j)) (A := A) (by decide) (hs 111 _ (by decide +kernel)) (va_eqt (hs 112 _ (by decide +kernel))) (fun j hj => va_eqt (hs _ _ (q_t0 j hj))) hA
  have t3 : va_Z "java/lang/Integer" "DigitTens" "[B" (.ref tT) A s s.heap := va_Zof (args := args) (ht 1005 _ (by decide +kernel)) (ht 27 _ (by decide +kernel)) t1 hA
  obtain ⟨tO, o1, o2⟩ := va_Tof (args := args) (s := s) (tm := .static "java/lang/Integer" "DigitOnes" "[B") (ty := .byte) (N := 100) (f := fun j => .int (dgO j)) (A := A) (by decide) (hs 8 _ (by decide +kernel)) (va_eqt (hs 9 _ (by decide +kernel))) (fun j hj => va_eqt (hs _ _ (q_o0 j hj))) hA
  have o3 : va_Z "java/lang/Integer" "DigitOnes" "[B" (.ref tO) A s s.heap := va_Zof (args := args) (ht 1003 _ (by decide +kernel)) (ht 27 _ (by decide +kernel)) o1 hA
  obtain ⟨m32, hm32⟩ := e_msg hs ht hA 393 374 "SlidePark" (by decide +kernel)
  obtain ⟨m33, hm33⟩ := e_msg hs ht hA 437 376 "SlidePark" (by decide +kernel)
  obtain ⟨m34, hm34⟩ := e_msg hs ht hA 465 378 "SlidePark" (by decide +kernel)
  obtain ⟨m35, hm35⟩ := e_msg hs ht hA 524 380 "SlidePark" (by decide +kernel)
  obtain ⟨m36, hm36⟩ := e_msg hs ht hA 567 156 "SlidePark" (by decide +kernel)
  obtain ⟨m37, hm37⟩ := e_msg hs ht hA 605 392 "SlidePark" (by decide +kernel)
  obtain ⟨m38, hm38⟩ := e_msg hs ht hA 633 386 "SlidePark" (by decide +kernel)
  obtain ⟨m39, hm39⟩ := e_msg hs ht hA 659 178 "SlidePark" (by decide +kernel)
  obtain ⟨m40, hm40⟩ := e_msg hs ht hA 684 127 "SlidePark" (by decide +kernel)
  obtain ⟨m41, hm41⟩ := e_msg hs ht hA 728 397 "SlidePark" (by decide +kernel)
  obtain ⟨m42, hm42⟩ := e_msg hs ht hA 758 401 "SlidePark" (by decide +kernel)
  obtain ⟨m43, hm43⟩ := e_msg hs ht hA 917 350 "SlidePark" (by decide +kernel)
  obtain ⟨m44, hm44⟩ := e_msg hs ht hA 953 161 "SlidePark" (by decide +kernel)
  obtain ⟨m45, hm45⟩ := e_msg hs ht hA 982 389 "SlidePark" (by decide +kernel)
  obtain ⟨m46, hm46⟩ := e_msg hs ht hA 1008 259 "SlidePark" (by decide +kernel)
  obtain ⟨m47, hm47⟩ := e_msg hs ht hA 1031 253 "SlidePark" (by decide +kernel)
  obtain ⟨m48, hm48⟩ := e_msg hs ht hA 1054 399 "SlidePark" (by decide +kernel)
  obtain ⟨m49, hm49⟩ := e_msg hs ht hA 1117 287 "SlidePark" (by decide +kernel)
  obtain ⟨m50, hm50⟩ := e_msg hs ht hA 1145 305 "SlidePark" (by decide +kernel)
  obtain ⟨m51, hm51⟩ := e_msg hs ht hA 1170 324 "SlidePark" (by decide +kernel)
  obtain ⟨m52, hm52⟩ := e_msg hs ht hA 1190 358 "SlidePark" (by decide +kernel)
  have z24 : zcaB b L xs kS vS ad ([tC, tW, 0, tT, tO, 0, 0, 0, m32, m33, m34, m35, m36, m37, m38, m39, m40, m41, m42, m43, m44, m45, m46, m47, m48, m49, m50, m51, m52] : List Nat) 24 = tC := zca_3 (b := b) (L := L) (xs := xs) (kS := kS) (vS := vS) (ad := ad) (l := ([tC, tW, 0, tT, tO, 0, 0, 0, m32, m33, m34, m35, m36, m37, m38, m39, m40, m41, m42, m43, m44, m45, m46, m47, m48, m49, m50, m51, m52] : List Nat)) (i := 0) (by decide)
  have z25 : zcaB b L xs kS vS ad ([tC, tW, 0, tT, tO, 0, 0, 0, m32, m33, m34, m35, m36, m37, m38, m39, m40, m41, m42, m43, m44, m45, m46, m47, m48, m49, m50, m51, m52] : List Nat) 25 = tW := zca_3 (b := b) (L := L) (xs := xs) (kS := kS) (vS := vS) (ad := ad) (l := ([tC, tW, 0, tT, tO, 0, 0, 0, m32, m33, m34, m35, m36, m37, m38, m39, m40, m41, m42, m43, m44, m45, m46, m47, m48, m49, m50, m51, m52] : List Nat)) (i := 1) (by decide)
  have z27 : zcaB b L xs kS vS ad ([tC, tW, 0, tT, tO, 0, 0, 0, m32, m33, m34, m35, m36, m37, m38, m39, m40, m41, m42, m43, m44, m45, m46, m47, m48, m49, m50, m51, m52] : List Nat) 27 = tT := zca_3 (b := b) (L := L) (xs := xs) (kS := kS) (vS := vS) (ad := ad) (l := ([tC, tW, 0, tT, tO, 0, 0, 0, m32, m33, m34, m35, m36, m37, m38, m39, m40, m41, m42, m43, m44, m45, m46, m47, m48, m49, m50, m51, m52] : List Nat)) (i := 3) (by decide)
  have z28 : zcaB b L xs kS vS ad ([tC, tW, 0, tT, tO, 0, 0, 0, m32, m33, m34, m35, m36, m37, m38, m39, m40, m41, m42, m43, m44, m45, m46, m47, m48, m49, m50, m51, m52] : List Nat) 28 = tO := zca_3 (b := b) (L := L) (xs := xs) (kS := kS) (vS := vS) (ad := ad) (l := ([tC, tW, 0, tT, tO, 0, 0, 0, m32, m33, m34, m35, m36, m37, m38, m39, m40, m41, m42, m43, m44, m45, m46, m47, m48, m49, m50, m51, m52] : List Nat)) (i := 4) (by decide)
  have z200 : zcaB b L xs kS vS ad ([tC, tW, 0, tT, tO, 0, 0, 0, m32, m33, m34, m35, m36, m37, m38, m39, m40, m41, m42, m43, m44, m45, m46, m47, m48, m49, m50, m51, m52] : List Nat) 200 = b := if_pos rfl
  have z201 : zcaB b L xs kS vS ad ([tC, tW, 0, tT, tO, 0, 0, 0, m32, m33, m34, m35, m36, m37, m38, m39, m40, m41, m42, m43, m44, m45, m46, m47, m48, m49, m50, m51, m52] : List Nat) 201 = L := (if_neg (by decide)).trans (if_pos rfl)
  have y0 : ∀ i, i < 16 → zcaB b L xs kS vS ad ([tC, tW, 0, tT, tO, 0, 0, 0, m32, m33, m34, m35, m36, m37, m38, m39, m40, m41, m42, m43, m44, m45, m46, m47, m48, m49, m50, m51, m52] : List Nat) (100 + i) = kS i := fun i hi => zca_0 (b := b) (L := L) (xs := xs) (kS := kS) (vS := vS) (ad := ad) (l := ([tC, tW, 0, tT, tO, 0, 0, 0, m32, m33, m34, m35, m36, m37, m38, m39, m40, m41, m42, m43, m44, m45, m46, m47, m48, m49, m50, m51, m52] : List Nat)) hi
  have y1 : ∀ i, i < 16 → zcaB b L xs kS vS ad ([tC, tW, 0, tT, tO, 0, 0, 0, m32, m33, m34, m35, m36, m37, m38, m39, m40, m41, m42, m43, m44, m45, m46, m47, m48, m49, m50, m51, m52] : List Nat) (120 + i) = vS i := fun i hi => zca_1 (b := b) (L := L) (xs := xs) (kS := kS) (vS := vS) (ad := ad) (l := ([tC, tW, 0, tT, tO, 0, 0, 0, m32, m33, m34, m35, m36, m37, m38, m39, m40, m41, m42, m43, m44, m45, m46, m47, m48, m49, m50, m51, m52] : List Nat)) hi
  have y2 : ∀ i, i < 8 → zcaB b L xs kS vS ad ([tC, tW, 0, tT, tO, 0, 0, 0, m32, m33, m34, m35, m36, m37, m38, m39, m40, m41, m42, m43, m44, m45, m46, m47, m48, m49, m50, m51, m52] : List Nat) (16 + i) = ad i := fun i hi => zca_2 (b := b) (L := L) (xs := xs) (kS := kS) (vS := vS) (ad := ad) (l := ([tC, tW, 0, tT, tO, 0, 0, 0, m32, m33, m34, m35, m36, m37, m38, m39, m40, m41, m42, m43, m44, m45, m46, m47, m48, m49, m50, m51, m52] : List Nat)) hi
  have y4 : ∀ i, zcaB b L xs kS vS ad ([tC, tW, 0, tT, tO, 0, 0, 0, m32, m33, m34, m35, m36, m37, m38, m39, m40, m41, m42, m43, m44, m45, m46, m47, m48, m49, m50, m51, m52] : List Nat) (1000 + i) = (xs i).toBitVec.toNat := fun i => zca_4 (b := b) (L := L) (xs := xs) (kS := kS) (vS := vS) (ad := ad) (l := ([tC, tW, 0, tT, tO, 0, 0, 0, m32, m33, m34, m35, m36, m37, m38, m39, m40, m41, m42, m43, m44, m45, m46, m47, m48, m49, m50, m51, m52] : List Nat))
  have yR : ∀ q ∈ cwR, vk_R q.1 q.2.1 q.2.2.1 (zcaB b L xs kS vS ad ([tC, tW, 0, tT, tO, 0, 0, 0, m32, m33, m34, m35, m36, m37, m38, m39, m40, m41, m42, m43, m44, m45, m46, m47, m48, m49, m50, m51, m52] : List Nat) q.2.2.2) s := by
    intro q hq
    simp only [cwR, List.mem_cons, List.not_mem_nil, or_false] at hq
    rcases hq with rfl | rfl | rfl | rfl | rfl | rfl | rfl | rfl | rfl | rfl | rfl | rfl | rfl | rfl | rfl | rfl | rfl | rfl | rfl | rfl | rfl | rfl | rfl | rfl | rfl | rfl | rfl | rfl | rfl | rfl
    · have q : vk_R RL 277 "m" (kS 8) s := vk_R.of (A := args) (ht 1037 _ (by decide +kernel)) (h2 8 (by decide))
      have z : kS 8 = zcaB b L xs kS vS ad ([tC, tW, 0, tT, tO, 0, 0, 0, m32, m33, m34, m35, m36, m37, m38, m39, m40, m41, m42, m43, m44, m45, m46, m47, m48, m49, m50, m51, m52] : List Nat) 108 := (zca_0 (b := b) (L := L) (xs := xs) (kS := kS) (vS := vS) (ad := ad) (l := ([tC, tW, 0, tT, tO, 0, 0, 0, m32, m33, m34, m35, m36, m37, m38, m39, m40, m41, m42, m43, m44, m45, m46, m47, m48, m49, m50, m51, m52] : List Nat)) (i := 8) (by decide)).symm
      rw [z] at q
      exact q
    · have q : vk_R RL 282 "c" (kS 9) s := vk_R.of (A := args) (ht 1099 _ (by decide +kernel)) (h2 9 (by decide))
      have z : kS 9 = zcaB b L xs kS vS ad ([tC, tW, 0, tT, tO, 0, 0, 0, m32, m33, m34, m35, m36, m37, m38, m39, m40, m41, m42, m43, m44, m45, m46, m47, m48, m49, m50, m51, m52] : List Nat) 109 := (zca_0 (b := b) (L := L) (xs := xs) (kS := kS) (vS := vS) (ad := ad) (l := ([tC, tW, 0, tT, tO, 0, 0, 0, m32, m33, m34, m35, m36, m37, m38, m39, m40, m41, m42, m43, m44, m45, m46, m47, m48, m49, m50, m51, m52] : List Nat)) (i := 9) (by decide)).symm
      rw [z] at q
      exact q
    · have q : vk_R RL 284 "w" (kS 10) s := vk_R.of (A := args) (ht 1100 _ (by decide +kernel)) (h2 10 (by decide))
      have z : kS 10 = zcaB b L xs kS vS ad ([tC, tW, 0, tT, tO, 0, 0, 0, m32, m33, m34, m35, m36, m37, m38, m39, m40, m41, m42, m43, m44, m45, m46, m47, m48, m49, m50, m51, m52] : List Nat) 110 := (zca_0 (b := b) (L := L) (xs := xs) (kS := kS) (vS := vS) (ad := ad) (l := ([tC, tW, 0, tT, tO, 0, 0, 0, m32, m33, m34, m35, m36, m37, m38, m39, m40, m41, m42, m43, m44, m45, m46, m47, m48, m49, m50, m51, m52] : List Nat)) (i := 10) (by decide)).symm
      rw [z] at q
      exact q
    · have q : vk_R RL 290 " " (kS 7) s := vk_R.of (A := args) (ht 1164 _ (by decide +kernel)) (h2 7 (by decide))
      have z : kS 7 = zcaB b L xs kS vS ad ([tC, tW, 0, tT, tO, 0, 0, 0, m32, m33, m34, m35, m36, m37, m38, m39, m40, m41, m42, m43, m44, m45, m46, m47, m48, m49, m50, m51, m52] : List Nat) 107 := (zca_0 (b := b) (L := L) (xs := xs) (kS := kS) (vS := vS) (ad := ad) (l := ([tC, tW, 0, tT, tO, 0, 0, 0, m32, m33, m34, m35, m36, m37, m38, m39, m40, m41, m42, m43, m44, m45, m46, m47, m48, m49, m50, m51, m52] : List Nat)) (i := 7) (by decide)).symm
      rw [z] at q
      exact q
    · have q : vk_R RL 292 "@" (kS 11) s := vk_R.of (A := args) (ht 1165 _ (by decide +kernel)) (h2 11 (by decide))
      have z : kS 11 = zcaB b L xs kS vS ad ([tC, tW, 0, tT, tO, 0, 0, 0, m32, m33, m34, m35, m36, m37, m38, m39, m40, m41, m42, m43, m44, m45, m46, m47, m48, m49, m50, m51, m52] : List Nat) 111 := (zca_0 (b := b) (L := L) (xs := xs) (kS := kS) (vS := vS) (ad := ad) (l := ([tC, tW, 0, tT, tO, 0, 0, 0, m32, m33, m34, m35, m36, m37, m38, m39, m40, m41, m42, m43, m44, m45, m46, m47, m48, m49, m50, m51, m52] : List Nat)) (i := 11) (by decide)).symm
      rw [z] at q
      exact q
    · have q : vk_R RL 294 "" (kS 12) s := vk_R.of (A := args) (ht 1166 _ (by decide +kernel)) (h2 12 (by decide))
      have z : kS 12 = zcaB b L xs kS vS ad ([tC, tW, 0, tT, tO, 0, 0, 0, m32, m33, m34, m35, m36, m37, m38, m39, m40, m41, m42, m43, m44, m45, m46, m47, m48, m49, m50, m51, m52] : List Nat) 112 := (zca_0 (b := b) (L := L) (xs := xs) (kS := kS) (vS := vS) (ad := ad) (l := ([tC, tW, 0, tT, tO, 0, 0, 0, m32, m33, m34, m35, m36, m37, m38, m39, m40, m41, m42, m43, m44, m45, m46, m47, m48, m49, m50, m51, m52] : List Nat)) (i := 12) (by decide)).symm
      rw [z] at q
      exact q
    · have q : vk_R RL 383 "queue " (kS 13) s := vk_R.of (A := args) (ht 1492 _ (by decide +kernel)) (h2 13 (by decide))
      have z : kS 13 = zcaB b L xs kS vS ad ([tC, tW, 0, tT, tO, 0, 0, 0, m32, m33, m34, m35, m36, m37, m38, m39, m40, m41, m42, m43, m44, m45, m46, m47, m48, m49, m50, m51, m52] : List Nat) 113 := (zca_0 (b := b) (L := L) (xs := xs) (kS := kS) (vS := vS) (ad := ad) (l := ([tC, tW, 0, tT, tO, 0, 0, 0, m32, m33, m34, m35, m36, m37, m38, m39, m40, m41, m42, m43, m44, m45, m46, m47, m48, m49, m50, m51, m52] : List Nat)) (i := 13) (by decide)).symm
      rw [z] at q
      exact q
    · have q : vk_R RL 385 ";wait " (kS 14) s := vk_R.of (A := args) (ht 1493 _ (by decide +kernel)) (h2 14 (by decide))
      have z : kS 14 = zcaB b L xs kS vS ad ([tC, tW, 0, tT, tO, 0, 0, 0, m32, m33, m34, m35, m36, m37, m38, m39, m40, m41, m42, m43, m44, m45, m46, m47, m48, m49, m50, m51, m52] : List Nat) 114 := (zca_0 (b := b) (L := L) (xs := xs) (kS := kS) (vS := vS) (ad := ad) (l := ([tC, tW, 0, tT, tO, 0, 0, 0, m32, m33, m34, m35, m36, m37, m38, m39, m40, m41, m42, m43, m44, m45, m46, m47, m48, m49, m50, m51, m52] : List Nat)) (i := 14) (by decide)).symm
      rw [z] at q
      exact q
    · have q : vk_R RL 387 ";guest;leave " (kS 15) s := vk_R.of (A := args) (ht 1494 _ (by decide +kernel)) (h2 15 (by decide))
      have z : kS 15 = zcaB b L xs kS vS ad ([tC, tW, 0, tT, tO, 0, 0, 0, m32, m33, m34, m35, m36, m37, m38, m39, m40, m41, m42, m43, m44, m45, m46, m47, m48, m49, m50, m51, m52] : List Nat) 115 := (zca_0 (b := b) (L := L) (xs := xs) (kS := kS) (vS := vS) (ad := ad) (l := ([tC, tW, 0, tT, tO, 0, 0, 0, m32, m33, m34, m35, m36, m37, m38, m39, m40, m41, m42, m43, m44, m45, m46, m47, m48, m49, m50, m51, m52] : List Nat)) (i := 15) (by decide)).symm
      rw [z] at q
      exact q
    · have q : vk_R RX11 374 "there is no such guest, slide or booking" (m32) s := vk_R.of (A := args) (ht 439 _ (by decide +kernel)) hm32
      have z : m32 = zcaB b L xs kS vS ad ([tC, tW, 0, tT, tO, 0, 0, 0, m32, m33, m34, m35, m36, m37, m38, m39, m40, m41, m42, m43, m44, m45, m46, m47, m48, m49, m50, m51, m52] : List Nat) 32 := (zca_3 (b := b) (L := L) (xs := xs) (kS := kS) (vS := vS) (ad := ad) (l := ([tC, tW, 0, tT, tO, 0, 0, 0, m32, m33, m34, m35, m36, m37, m38, m39, m40, m41, m42, m43, m44, m45, m46, m47, m48, m49, m50, m51, m52] : List Nat)) (i := 8) (by decide)).symm
      rw [z] at q
      exact q
    · have q : vk_R RX11 376 "a number is out of range" (m33) s := vk_R.of (A := args) (ht 474 _ (by decide +kernel)) hm33
      have z : m33 = zcaB b L xs kS vS ad ([tC, tW, 0, tT, tO, 0, 0, 0, m32, m33, m34, m35, m36, m37, m38, m39, m40, m41, m42, m43, m44, m45, m46, m47, m48, m49, m50, m51, m52] : List Nat) 33 := (zca_3 (b := b) (L := L) (xs := xs) (kS := kS) (vS := vS) (ad := ad) (l := ([tC, tW, 0, tT, tO, 0, 0, 0, m32, m33, m34, m35, m36, m37, m38, m39, m40, m41, m42, m43, m44, m45, m46, m47, m48, m49, m50, m51, m52] : List Nat)) (i := 9) (by decide)).symm
      rw [z] at q
      exact q
    · have q : vk_R RX11 378 "a limit is reached, or the office does not allow it now" (m34) s := vk_R.of (A := args) (ht 490 _ (by decide +kernel)) hm34
      have z : m34 = zcaB b L xs kS vS ad ([tC, tW, 0, tT, tO, 0, 0, 0, m32, m33, m34, m35, m36, m37, m38, m39, m40, m41, m42, m43, m44, m45, m46, m47, m48, m49, m50, m51, m52] : List Nat) 34 := (zca_3 (b := b) (L := L) (xs := xs) (kS := kS) (vS := vS) (ad := ad) (l := ([tC, tW, 0, tT, tO, 0, 0, 0, m32, m33, m34, m35, m36, m37, m38, m39, m40, m41, m42, m43, m44, m45, m46, m47, m48, m49, m50, m51, m52] : List Nat)) (i := 10) (by decide)).symm
      rw [z] at q
      exact q
    · have q : vk_R RX11 380 "a booking or a full queue is in the way" (m35) s := vk_R.of (A := args) (ht 506 _ (by decide +kernel)) hm35
      have z : m35 = zcaB b L xs kS vS ad ([tC, tW, 0, tT, tO, 0, 0, 0, m32, m33, m34, m35, m36, m37, m38, m39, m40, m41, m42, m43, m44, m45, m46, m47, m48, m49, m50, m51, m52] : List Nat) 35 := (zca_3 (b := b) (L := L) (xs := xs) (kS := kS) (vS := vS) (ad := ad) (l := ([tC, tW, 0, tT, tO, 0, 0, 0, m32, m33, m34, m35, m36, m37, m38, m39, m40, m41, m42, m43, m44, m45, m46, m47, m48, m49, m50, m51, m52] : List Nat)) (i := 11) (by decide)).symm
      rw [z] at q
      exact q
    · have q : vk_R RX11 156 "the guest does not wait in a queue" (m36) s := vk_R.of (A := args) (ht 522 _ (by decide +kernel)) hm36
      have z : m36 = zcaB b L xs kS vS ad ([tC, tW, 0, tT, tO, 0, 0, 0, m32, m33, m34, m35, m36, m37, m38, m39, m40, m41, m42, m43, m44, m45, m46, m47, m48, m49, m50, m51, m52] : List Nat) 36 := (zca_3 (b := b) (L := L) (xs := xs) (kS := kS) (vS := vS) (ad := ad) (l := ([tC, tW, 0, tT, tO, 0, 0, 0, m32, m33, m34, m35, m36, m37, m38, m39, m40, m41, m42, m43, m44, m45, m46, m47, m48, m49, m50, m51, m52] : List Nat)) (i := 12) (by decide)).symm
      rw [z] at q
      exact q
    · have q : vk_R RX11 392 "there is no such booking" (m37) s := vk_R.of (A := args) (ht 730 _ (by decide +kernel)) hm37
      have z : m37 = zcaB b L xs kS vS ad ([tC, tW, 0, tT, tO, 0, 0, 0, m32, m33, m34, m35, m36, m37, m38, m39, m40, m41, m42, m43, m44, m45, m46, m47, m48, m49, m50, m51, m52] : List Nat) 37 := (zca_3 (b := b) (L := L) (xs := xs) (kS := kS) (vS := vS) (ad := ad) (l := ([tC, tW, 0, tT, tO, 0, 0, 0, m32, m33, m34, m35, m36, m37, m38, m39, m40, m41, m42, m43, m44, m45, m46, m47, m48, m49, m50, m51, m52] : List Nat)) (i := 13) (by decide)).symm
      rw [z] at q
      exact q
    · have q : vk_R RX11 386 "there is no such slide" (m38) s := vk_R.of (A := args) (ht 751 _ (by decide +kernel)) hm38
      have z : m38 = zcaB b L xs kS vS ad ([tC, tW, 0, tT, tO, 0, 0, 0, m32, m33, m34, m35, m36, m37, m38, m39, m40, m41, m42, m43, m44, m45, m46, m47, m48, m49, m50, m51, m52] : List Nat) 38 := (zca_3 (b := b) (L := L) (xs := xs) (kS := kS) (vS := vS) (ad := ad) (l := ([tC, tW, 0, tT, tO, 0, 0, 0, m32, m33, m34, m35, m36, m37, m38, m39, m40, m41, m42, m43, m44, m45, m46, m47, m48, m49, m50, m51, m52] : List Nat)) (i := 14) (by decide)).symm
      rw [z] at q
      exact q
    · have q : vk_R RX11 178 "there is no such rank" (m39) s := vk_R.of (A := args) (ht 770 _ (by decide +kernel)) hm39
      have z : m39 = zcaB b L xs kS vS ad ([tC, tW, 0, tT, tO, 0, 0, 0, m32, m33, m34, m35, m36, m37, m38, m39, m40, m41, m42, m43, m44, m45, m46, m47, m48, m49, m50, m51, m52] : List Nat) 39 := (zca_3 (b := b) (L := L) (xs := xs) (kS := kS) (vS := vS) (ad := ad) (l := ([tC, tW, 0, tT, tO, 0, 0, 0, m32, m33, m34, m35, m36, m37, m38, m39, m40, m41, m42, m43, m44, m45, m46, m47, m48, m49, m50, m51, m52] : List Nat)) (i := 15) (by decide)).symm
      rw [z] at q
      exact q
    · have q : vk_R RX11 127 "no booking of this slide takes place now" (m40) s := vk_R.of (A := args) (ht 889 _ (by decide +kernel)) hm40
      have z : m40 = zcaB b L xs kS vS ad ([tC, tW, 0, tT, tO, 0, 0, 0, m32, m33, m34, m35, m36, m37, m38, m39, m40, m41, m42, m43, m44, m45, m46, m47, m48, m49, m50, m51, m52] : List Nat) 40 := (zca_3 (b := b) (L := L) (xs := xs) (kS := kS) (vS := vS) (ad := ad) (l := ([tC, tW, 0, tT, tO, 0, 0, 0, m32, m33, m34, m35, m36, m37, m38, m39, m40, m41, m42, m43, m44, m45, m46, m47, m48, m49, m50, m51, m52] : List Nat)) (i := 16) (by decide)).symm
      rw [z] at q
      exact q
    · have q : vk_R RX11 397 "the minute is out of range" (m41) s := vk_R.of (A := args) (ht 912 _ (by decide +kernel)) hm41
      have z : m41 = zcaB b L xs kS vS ad ([tC, tW, 0, tT, tO, 0, 0, 0, m32, m33, m34, m35, m36, m37, m38, m39, m40, m41, m42, m43, m44, m45, m46, m47, m48, m49, m50, m51, m52] : List Nat) 41 := (zca_3 (b := b) (L := L) (xs := xs) (kS := kS) (vS := vS) (ad := ad) (l := ([tC, tW, 0, tT, tO, 0, 0, 0, m32, m33, m34, m35, m36, m37, m38, m39, m40, m41, m42, m43, m44, m45, m46, m47, m48, m49, m50, m51, m52] : List Nat)) (i := 17) (by decide)).symm
      rw [z] at q
      exact q
    · have q : vk_R RX11 401 "there is no such minute" (m42) s := vk_R.of (A := args) (ht 936 _ (by decide +kernel)) hm42
      have z : m42 = zcaB b L xs kS vS ad ([tC, tW, 0, tT, tO, 0, 0, 0, m32, m33, m34, m35, m36, m37, m38, m39, m40, m41, m42, m43, m44, m45, m46, m47, m48, m49, m50, m51, m52] : List Nat) 42 := (zca_3 (b := b) (L := L) (xs := xs) (kS := kS) (vS := vS) (ad := ad) (l := ([tC, tW, 0, tT, tO, 0, 0, 0, m32, m33, m34, m35, m36, m37, m38, m39, m40, m41, m42, m43, m44, m45, m46, m47, m48, m49, m50, m51, m52] : List Nat)) (i := 18) (by decide)).symm
      rw [z] at q
      exact q
    · have q : vk_R RX11 350 "the output has no such character" (m43) s := vk_R.of (A := args) (ht 1277 _ (by decide +kernel)) hm43
      have z : m43 = zcaB b L xs kS vS ad ([tC, tW, 0, tT, tO, 0, 0, 0, m32, m33, m34, m35, m36, m37, m38, m39, m40, m41, m42, m43, m44, m45, m46, m47, m48, m49, m50, m51, m52] : List Nat) 43 := (zca_3 (b := b) (L := L) (xs := xs) (kS := kS) (vS := vS) (ad := ad) (l := ([tC, tW, 0, tT, tO, 0, 0, 0, m32, m33, m34, m35, m36, m37, m38, m39, m40, m41, m42, m43, m44, m45, m46, m47, m48, m49, m50, m51, m52] : List Nat)) (i := 19) (by decide)).symm
      rw [z] at q
      exact q
    · have q : vk_R RX11 161 "there is no such position" (m44) s := vk_R.of (A := args) (ht 1317 _ (by decide +kernel)) hm44
      have z : m44 = zcaB b L xs kS vS ad ([tC, tW, 0, tT, tO, 0, 0, 0, m32, m33, m34, m35, m36, m37, m38, m39, m40, m41, m42, m43, m44, m45, m46, m47, m48, m49, m50, m51, m52] : List Nat) 44 := (zca_3 (b := b) (L := L) (xs := xs) (kS := kS) (vS := vS) (ad := ad) (l := ([tC, tW, 0, tT, tO, 0, 0, 0, m32, m33, m34, m35, m36, m37, m38, m39, m40, m41, m42, m43, m44, m45, m46, m47, m48, m49, m50, m51, m52] : List Nat)) (i := 20) (by decide)).symm
      rw [z] at q
      exact q
    · have q : vk_R RX11 389 "there is no such guest" (m45) s := vk_R.of (A := args) (ht 1331 _ (by decide +kernel)) hm45
      have z : m45 = zcaB b L xs kS vS ad ([tC, tW, 0, tT, tO, 0, 0, 0, m32, m33, m34, m35, m36, m37, m38, m39, m40, m41, m42, m43, m44, m45, m46, m47, m48, m49, m50, m51, m52] : List Nat) 45 := (zca_3 (b := b) (L := L) (xs := xs) (kS := kS) (vS := vS) (ad := ad) (l := ([tC, tW, 0, tT, tO, 0, 0, 0, m32, m33, m34, m35, m36, m37, m38, m39, m40, m41, m42, m43, m44, m45, m46, m47, m48, m49, m50, m51, m52] : List Nat)) (i := 21) (by decide)).symm
      rw [z] at q
      exact q
    · have q : vk_R RX11 259 "there are no slides" (m46) s := vk_R.of (A := args) (ht 1346 _ (by decide +kernel)) hm46
      have z : m46 = zcaB b L xs kS vS ad ([tC, tW, 0, tT, tO, 0, 0, 0, m32, m33, m34, m35, m36, m37, m38, m39, m40, m41, m42, m43, m44, m45, m46, m47, m48, m49, m50, m51, m52] : List Nat) 46 := (zca_3 (b := b) (L := L) (xs := xs) (kS := kS) (vS := vS) (ad := ad) (l := ([tC, tW, 0, tT, tO, 0, 0, 0, m32, m33, m34, m35, m36, m37, m38, m39, m40, m41, m42, m43, m44, m45, m46, m47, m48, m49, m50, m51, m52] : List Nat)) (i := 22) (by decide)).symm
      rw [z] at q
      exact q
    · have q : vk_R RX11 253 "there are no guests" (m47) s := vk_R.of (A := args) (ht 1407 _ (by decide +kernel)) hm47
      have z : m47 = zcaB b L xs kS vS ad ([tC, tW, 0, tT, tO, 0, 0, 0, m32, m33, m34, m35, m36, m37, m38, m39, m40, m41, m42, m43, m44, m45, m46, m47, m48, m49, m50, m51, m52] : List Nat) 47 := (zca_3 (b := b) (L := L) (xs := xs) (kS := kS) (vS := vS) (ad := ad) (l := ([tC, tW, 0, tT, tO, 0, 0, 0, m32, m33, m34, m35, m36, m37, m38, m39, m40, m41, m42, m43, m44, m45, m46, m47, m48, m49, m50, m51, m52] : List Nat)) (i := 23) (by decide)).symm
      rw [z] at q
      exact q
    · have q : vk_R RX11 399 "no such finish is kept" (m48) s := vk_R.of (A := args) (ht 1426 _ (by decide +kernel)) hm48
      have z : m48 = zcaB b L xs kS vS ad ([tC, tW, 0, tT, tO, 0, 0, 0, m32, m33, m34, m35, m36, m37, m38, m39, m40, m41, m42, m43, m44, m45, m46, m47, m48, m49, m50, m51, m52] : List Nat) 48 := (zca_3 (b := b) (L := L) (xs := xs) (kS := kS) (vS := vS) (ad := ad) (l := ([tC, tW, 0, tT, tO, 0, 0, 0, m32, m33, m34, m35, m36, m37, m38, m39, m40, m41, m42, m43, m44, m45, m46, m47, m48, m49, m50, m51, m52] : List Nat)) (i := 24) (by decide)).symm
      rw [z] at q
      exact q
    · have q : vk_R RX11 287 "the input buffer is full" (m49) s := vk_R.of (A := args) (ht 1505 _ (by decide +kernel)) hm49
      have z : m49 = zcaB b L xs kS vS ad ([tC, tW, 0, tT, tO, 0, 0, 0, m32, m33, m34, m35, m36, m37, m38, m39, m40, m41, m42, m43, m44, m45, m46, m47, m48, m49, m50, m51, m52] : List Nat) 49 := (zca_3 (b := b) (L := L) (xs := xs) (kS := kS) (vS := vS) (ad := ad) (l := ([tC, tW, 0, tT, tO, 0, 0, 0, m32, m33, m34, m35, m36, m37, m38, m39, m40, m41, m42, m43, m44, m45, m46, m47, m48, m49, m50, m51, m52] : List Nat)) (i := 25) (by decide)).symm
      rw [z] at q
      exact q
    · have q : vk_R RX11 305 "the text is malformed" (m50) s := vk_R.of (A := args) (ht 1567 _ (by decide +kernel)) hm50
      have z : m50 = zcaB b L xs kS vS ad ([tC, tW, 0, tT, tO, 0, 0, 0, m32, m33, m34, m35, m36, m37, m38, m39, m40, m41, m42, m43, m44, m45, m46, m47, m48, m49, m50, m51, m52] : List Nat) 50 := (zca_3 (b := b) (L := L) (xs := xs) (kS := kS) (vS := vS) (ad := ad) (l := ([tC, tW, 0, tT, tO, 0, 0, 0, m32, m33, m34, m35, m36, m37, m38, m39, m40, m41, m42, m43, m44, m45, m46, m47, m48, m49, m50, m51, m52] : List Nat)) (i := 26) (by decide)).symm
      rw [z] at q
      exact q
    · have q : vk_R RX11 324 "a command failed" (m51) s := vk_R.of (A := args) (ht 1586 _ (by decide +kernel)) hm51
      have z : m51 = zcaB b L xs kS vS ad ([tC, tW, 0, tT, tO, 0, 0, 0, m32, m33, m34, m35, m36, m37, m38, m39, m40, m41, m42, m43, m44, m45, m46, m47, m48, m49, m50, m51, m52] : List Nat) 51 := (zca_3 (b := b) (L := L) (xs := xs) (kS := kS) (vS := vS) (ad := ad) (l := ([tC, tW, 0, tT, tO, 0, 0, 0, m32, m33, m34, m35, m36, m37, m38, m39, m40, m41, m42, m43, m44, m45, m46, m47, m48, m49, m50, m51, m52] : List Nat)) (i := 27) (by decide)).symm
      rw [z] at q
      exact q
    · have q : vk_R RX11 358 "no call can be undone" (m52) s := vk_R.of (A := args) (ht 1598 _ (by decide +kernel)) hm52
      have z : m52 = zcaB b L xs kS vS ad ([tC, tW, 0, tT, tO, 0, 0, 0, m32, m33, m34, m35, m36, m37, m38, m39, m40, m41, m42, m43, m44, m45, m46, m47, m48, m49, m50, m51, m52] : List Nat) 52 := (zca_3 (b := b) (L := L) (xs := xs) (kS := kS) (vS := vS) (ad := ad) (l := ([tC, tW, 0, tT, tO, 0, 0, 0, m32, m33, m34, m35, m36, m37, m38, m39, m40, m41, m42, m43, m44, m45, m46, m47, m48, m49, m50, m51, m52] : List Nat)) (i := 28) (by decide)).symm
      rw [z] at q
      exact q
  generalize zcaB b L xs kS vS ad ([tC, tW, 0, tT, tO, 0, 0, 0, m32, m33, m34, m35, m36, m37, m38, m39, m40, m41, m42, m43, m44, m45, m46, m47, m48, m49, m50, m51, m52] : List Nat) = zc at z24 z25 z27 z28 z200 z201 y0 y1 y2 y4 yR
  subst z24 z25 z27 z28 z200 z201
  refine ⟨zc, ⟨⟨⟨?_, ?_, ?_, c3, ?_, w3, w2, z1, z2⟩, ⟨z3, z4⟩, yR, ?_⟩, ?_, ?_, t3, t2, o3, o2, ?_, ?_, ?_⟩, rfl, rfl⟩
  · refine ⟨fun i hi => ?_, fun i j hi hj e => ?_⟩
    · have a := y0 i hi
      have b := y1 i hi
      simp only [a, b]
      exact h1.1 i hi
    · simp only [y0 i hi, y0 j hj] at e
      exact h1.2 i j hi hj e
  · refine ⟨fun i hi => ?_, fun i j hi hj e => ?_⟩
    · have hi7 : i < 7 := hi
      have a := y2 i (by omega)
      simp only [a]
      exact h3.1 i hi
    · have hi7 : i < 7 := hi
      have hj7 : j < 7 := hj
      simp only [y2 i (by omega), y2 j (by omega)] at e
      exact h3.2 i j hi hj e
  · intro i hi
    have a := y0 i (by omega)
    have b := y2 i (by omega)
    simp only [a, b]
    exact h5 i hi
  · obtain ⟨cell, x1, x2, x3, x4, x5, x6, x7⟩ := c2
    refine ⟨cell, x1, x2, x3, x4, x5, fun j hj => ?_, x7⟩
    have b := y2 j (by omega)
    show cell.slots[j]? = some (Value.ref (zc (16 + j)))
    rw [b]
    exact x6 j hj
  · exact fun w hw => va_Nw.of (cwNest_t w hw) (e_all ht q_nest w hw)
  · exact fun w hw => va_Nw.of (excW_t w hw) (e_all ht q_excW w hw)
  · intro q hq
    obtain ⟨i, hi⟩ := List.mem_iff_getElem?.mp hq
    have hl : i < 8 := (List.getElem?_eq_some_iff.mp hi).1
    have h := hs _ _ (q_excN i hl)
    rw [show excN.getD i ("", "") = q by rw [List.getD_eq_getElem?_getD, hi]; rfl] at h
    exact va_Nc.of h
  · intro w hw
    have hw1 := hw
    simp only [selW, List.mem_cons, List.not_mem_nil, or_false] at hw
    rcases hw with rfl | rfl | rfl | rfl
    · exact va_Nw.of (selW_t _ hw1) (e_selP (x := ⟨"java/lang/AbstractStringBuilder", "isLatin1", "()Z"⟩) (z := ⟨"java/lang/AbstractStringBuilder", "isLatin1", "()Z"⟩) (ht 997 _ (by decide +kernel)) rfl (by decide) (ht 966 _ (by decide +kernel)) (ht 967 _ (by decide +kernel)))
    · exact va_Nw.of (selW_t _ hw1) (e_selP (x := ⟨"java/lang/AbstractStringBuilder", "isLatin1", "()Z"⟩) (z := ⟨"java/lang/AbstractStringBuilder", "isLatin1", "()Z"⟩) (ht 997 _ (by decide +kernel)) rfl (by decide) (ht 970 _ (by decide +kernel)) (ht 971 _ (by decide +kernel)))
    · exact va_Nw.of (selW_t _ hw1) (e_selP (x := ⟨"java/lang/AbstractStringBuilder", "isLatin1", "()Z"⟩) (z := ⟨"java/lang/AbstractStringBuilder", "isLatin1", "()Z"⟩) (ht 997 _ (by decide +kernel)) rfl (by decide) (ht 1062 _ (by decide +kernel)) (ht 1063 _ (by decide +kernel)))
    · exact va_Nw.of (selW_t _ hw1) (e_selP (x := ⟨"java/lang/AbstractStringBuilder", "isLatin1", "()Z"⟩) (z := ⟨"java/lang/AbstractStringBuilder", "isLatin1", "()Z"⟩) (ht 997 _ (by decide +kernel)) rfl (by decide) (ht 1066 _ (by decide +kernel)) (ht 1067 _ (by decide +kernel)))
  · have h := ht 220 (Cond.arrayOver (.object "SlidePark$Office")) (by decide +kernel)
    show (Cond.arrayOver (.object "SlidePark$Office")).before #[] s = true
    first | exact h | (simp only [Cond.before, Cond.holds, Cond.value] at h ⊢; exact h)
  · refine e_X hx (fun j => ?_) hA
    show xs j = Int32.ofNat (zc (1000 + j))
    rw [y4 j, zca_n]
