/-! OWN ROWS: the entry: what the Statement says of the start, as the parts want it -/
def zFL : List Cond := flatC (Jvm.Cond.and given_1 narrow_1)
def zTm (i : Nat) : Term := ([(Jvm.Term.string "SlidePark$Command" (56 : Nat)), (Jvm.Term.string "SlidePark$Command" (62 : Nat)), (Jvm.Term.string "SlidePark$Command" (65 : Nat)), (Jvm.Term.string "SlidePark$Command" (68 : Nat)), (Jvm.Term.string "SlidePark$Command" (71 : Nat)), (Jvm.Term.string "SlidePark$Command" (74 : Nat)), (Jvm.Term.string "SlidePark$Command" (77 : Nat)), (Jvm.Term.string "SlideParkModel" (213 : Nat))] : List Term).getD i (.int 0)
def zSB : List Nat := [1319, 1329, 1339, 1348, 1359, 1369, 1310, 1261]
def zEB : List Nat := [244, 250, 257, 265, 274, 284, 23]
def zNE : List (List Nat) := [[0, 256, 263, 271, 280, 290, 249], [256, 0, 264, 272, 281, 291, 255], [263, 264, 0, 273, 282, 292, 262], [271, 272, 273, 0, 283, 293, 270], [280, 281, 282, 283, 0, 294, 279], [290, 291, 292, 293, 294, 0, 289], [249, 255, 262, 270, 279, 289, 0]]
def zLS : List Nat := [2084, 2085, 2086, 2087, 2088, 2089, 1222]
abbrev zC7 (i : Nat) : Term := .static "SlidePark$Command" (cwN.getD i "") "LSlidePark$Command;"
theorem q_s0 : ∀ i, i < 8 → zFL[zSB.getD i 0]? = some (.exactly (zTm i) "java/lang/String") := by decide +kernel
theorem q_s1 : ∀ i, i < 8 → zFL[zSB.getD i 0 + 1]? = some (.eq (.field (zTm i) "java/lang/String" "coder" "B") (.int 0)) := by decide +kernel
theorem q_s2 : ∀ i, i < 8 → zFL[zSB.getD i 0 + 2]? = some (.arrayOf (.field (zTm i) "java/lang/String" "value" "[B") .byte) := by decide +kernel
theorem q_s3 : ∀ i, i < 8 → zFL[zSB.getD i 0 + 3]? = some (.eq (.length (.field (zTm i) "java/lang/String" "value" "[B")) (.int (Int32.ofNat (cwL.getD i 0)))) := by decide +kernel
theorem q_s4 : ∀ i, i < 8 → ∀ j, j < cwL.getD i 0 → zFL[zSB.getD i 0 + 4 + j]? = some (.eq (.elem (.field (zTm i) "java/lang/String" "value" "[B") (.int (Int32.ofNat j))) (.int ((cwB.getD i []).getD j 0))) := by decide +kernel
theorem q_s5 : ∀ i, i < 8 → cwL.getD i 0 < 2 ^ 31 ∧ 0 < cwL.getD i 0 := by decide
theorem q_s6 : ∀ i, i < 8 → ∀ j, j < 8 → (cwB.getD i []).getD 0 0 = (cwB.getD j []).getD 0 0 → i = j := by decide +kernel
theorem q_e0 : ∀ i, i < 7 → zFL[zEB.getD i 0]? = some (.exactly (zC7 i) "SlidePark$Command") := by decide +kernel
theorem q_e1 : ∀ i, i < 7 → zFL[zEB.getD i 0 + 1]? = some (.eq (.field (zC7 i) "java/lang/Enum" "ordinal" "I") (.int (([0, 1, 2, 3, 4, 5, 6] : List Int32).getD i 0))) := by decide +kernel
theorem q_e2 : ∀ i, i < 7 → zFL[zEB.getD i 0 + 2]? = some (.eq (.field (zC7 i) "SlidePark$Command" "keyword" "Ljava/lang/String;") (zTm i)) := by decide +kernel
theorem q_e3 : ∀ i, i < 7 → zFL[zEB.getD i 0 + 3]? = some (.eq (.field (zC7 i) "SlidePark$Command" "numberCount" "I") (.int (([2, 0, 3, 1, 2, 1, 1] : List Int32).getD i 0))) := by decide +kernel
theorem q_e4 : ∀ i, i < 7 → zFL[zEB.getD i 0 + 4]? = some (.eq (.field (zC7 i) "SlidePark$Command" "lastDigits" "I") (.int (([1, 0, 4, 2, 1, 1, 2] : List Int32).getD i 0))) := by decide +kernel
theorem q_e5 : ∀ i, i < 7 → ∀ j, j < 7 → i ≠ j → zFL[(zNE.getD i []).getD j 0]? = some (.not (.eq (zC7 i) (zC7 j))) ∨ zFL[(zNE.getD i []).getD j 0]? = some (.not (.eq (zC7 j) (zC7 i))) := by decide +kernel
theorem q_e6 : ∀ i, i < 7 → tables_1[zLS.getD i 0]? = some (.laysStatic "SlidePark$Command" (cwN.getD i "") "LSlidePark$Command;") := by decide +kernel
theorem q_c0 : ∀ j, j < 7 → zFL[12 + j]? = some (.eq (.elem (.static "SlidePark" "COMMANDS" "[LSlidePark$Command;") (.int (Int32.ofNat j))) (zC7 j)) := by decide +kernel
theorem q_w0 : ∀ j, j < 7 → zFL[31 + j]? = some (.eq (.elem (.static "SlidePark$1" "$SwitchMap$SlidePark$Command" "[I") (.int (Int32.ofNat j))) (.int (swm j))) := by decide +kernel
theorem q_t0 : ∀ j, j < 100 → zFL[144 + j]? = some (.eq (.elem (.static "java/lang/Integer" "DigitTens" "[B") (.int (Int32.ofNat j))) (.int (dgT j))) := by decide +kernel
theorem q_o0 : ∀ j, j < 100 → zFL[41 + j]? = some (.eq (.elem (.static "java/lang/Integer" "DigitOnes" "[B") (.int (Int32.ofNat j))) (.int (dgO j))) := by decide +kernel
theorem e_S {args : Array Value} {s : State} {A : Nat → Prop} (hs : ∀ (i : Nat) (w : Cond), zFL[i]? = some w → w.before args s = true) (ht : ∀ (i : Nat) (w : Cond), tables_1[i]? = some w → w.before args s = true) (hA : ∀ a : Nat, a < s.heap.size → ¬ A a) : ∃ adK adV : Nat → Nat, vk_S 8 cwL cwB adK adV A s s.heap ∧ ∀ i, i < 8 → (zTm i).eval args s none [] s = some (.ref (adK i)) := by
  have h0 : ∀ i : Nat, ∃ q : Nat × Nat, i < 8 → vk_S 1 [cwL.getD i 0] [cwB.getD i []] (fun _ => q.1) (fun _ => q.2) A s s.heap ∧ (zTm i).eval args s none [] s = some (.ref q.1) := by
    intro i
    by_cases hi : i < 8
    · obtain ⟨k, v, h1, h2⟩ := vk_Sof (args := args) (s := s) (N := 1) (tm := fun _ => zTm i) (len := [cwL.getD i 0]) (byt := [cwB.getD i []]) (A := A)
        (fun j hj => by rw [show j = 0 by omega]; exact (q_s5 i hi).1) (fun j hj => hs _ _ (q_s0 i hi)) (fun j hj => hs _ _ (q_s1 i hi)) (fun j hj => hs _ _ (q_s2 i hi))
        (fun j hj => by rw [show j = 0 by omega]; exact hs _ _ (q_s3 i hi)) (fun j hj k hk => by
          have e : j = 0 := by omega
          subst e
          exact hs _ _ (q_s4 i hi k hk)) (fun a b ha hb hab => absurd (by omega : a = b) hab) hA
      refine ⟨(k 0, v 0), fun _ => ⟨⟨fun j hj => ?_, fun a b ha hb _ => by omega⟩, h2 0 (by omega)⟩⟩
      rw [show j = 0 by omega]
      exact h1.1 0 (by omega)
    · exact ⟨(0, 0), fun h => absurd h hi⟩
  obtain ⟨ad, had⟩ := Classical.axiomOfChoice h0
  refine ⟨fun i => (ad i).1, fun i => (ad i).2, ⟨fun i hi => (had i hi).1.1 0 (by omega), fun i j hi hj e => ?_⟩, fun i hi => (had i hi).2⟩
  apply q_s6 i hi j hj
  have e1 := va_eqt (hs _ _ (q_s4 i hi 0 (q_s5 i hi).2))
  have e2 := va_eqt (hs _ _ (q_s4 j hj 0 (q_s5 j hj).2))
  have e3 : (zTm i).eval args s none [] s = (zTm j).eval args s none [] s := by
    rw [(had i hi).2, (had j hj).2]
    exact congrArg (fun a => some (Value.ref a)) e
  have e4 : (Term.field (zTm i) "java/lang/String" "value" "[B").eval args s none [] s = (Term.field (zTm j) "java/lang/String" "value" "[B").eval args s none [] s := by
    rw [va_fe (had i hi).2, va_fe (had j hj).2]
    exact congrArg (fun a => s.fieldOf? a "java/lang/String" "value" "[B") e
  have e5 : (Term.elem (.field (zTm i) "java/lang/String" "value" "[B") (.int (Int32.ofNat 0))).eval args s none [] s = (Term.elem (.field (zTm j) "java/lang/String" "value" "[B") (.int (Int32.ofNat 0))).eval args s none [] s := by
    simp only [Term.eval, e4]
  rw [e5, e2] at e1
  exact (Value.int.inj (Option.some.inj e1)).symm
theorem e_E {args : Array Value} {s : State} {A : Nat → Prop} (hs : ∀ (i : Nat) (w : Cond), zFL[i]? = some w → w.before args s = true) (ht : ∀ (i : Nat) (w : Cond), tables_1[i]? = some w → w.before args s = true) (hA : ∀ a : Nat, a < s.heap.size → ¬ A a) : ∃ ad : Nat → Nat, va_En "SlidePark$Command" "LSlidePark$Command;" cwN cwF ad A s s.heap ∧ ∀ i, i < 7 → (zC7 i).eval args s none [] s = some (.ref (ad i)) := by
  refine va_Enof2 (args := args) (fun i hi => ht _ _ (q_e6 i hi)) (ht 31 _ (by decide +kernel)) (fun i hi => hs _ _ (q_e0 i hi)) (fun q hq => ?_) (fun i j hi hj hij => ?_) hA
  · simp only [cwF, List.mem_cons, List.not_mem_nil, or_false] at hq
    rcases hq with rfl | rfl | rfl
    · exact fun i hi => hs _ _ (q_e1 i hi)
    · exact fun i hi => hs _ _ (q_e3 i hi)
    · exact fun i hi => hs _ _ (q_e4 i hi)
  · rcases q_e5 i hi j hj hij with h | h
    · exact Or.inl (hs _ _ h)
    · exact Or.inr (hs _ _ h)
theorem e_msg {args : Array Value} {s : State} {A : Nat → Prop} (hs : ∀ (i : Nat) (w : Cond), zFL[i]? = some w → w.before args s = true) (ht : ∀ (i : Nat) (w : Cond), tables_1[i]? = some w → w.before args s = true) (hA : ∀ a : Nat, a < s.heap.size → ¬ A a) (i k : Nat) (own : String) (h : zFL[i]? = some (.exactly (.string own k) "java/lang/String")) : ∃ a : Nat, (Term.string own k).eval args s none [] s = some (.ref a) := by
  obtain ⟨a, c, cell, kk, q1, _⟩ := Cond.exactly_spec (hs _ _ h)
  exact ⟨a, q1⟩
theorem e_C {args : Array Value} {s : State} {A : Nat → Prop} (hs : ∀ (i : Nat) (w : Cond), zFL[i]? = some w → w.before args s = true) (ht : ∀ (i : Nat) (w : Cond), tables_1[i]? = some w → w.before args s = true) (hA : ∀ a : Nat, a < s.heap.size → ¬ A a) : ∃ cA : Nat → Nat, CWX cA A s := by
  obtain ⟨kS, vS, h1, h2⟩ := e_S hs ht hA
  obtain ⟨ad, h3, h4⟩ := e_E hs ht hA
  have h5 : va_Ef 7 "SlidePark$Command" "keyword" "Ljava/lang/String;" (fun i => .ref (kS i)) ad A s s.heap := va_Efof (nm := cwN) (tm := zTm) h4 (fun i hi => hs _ _ (q_e2 i hi)) (fun i hi => h2 i (by omega)) hA
  obtain ⟨tC, c1, c2⟩ := va_Tof (args := args) (s := s) (tm := .static "SlidePark" "COMMANDS" "[LSlidePark$Command;") (ty := .object "SlidePark$Command") (N := 7) (f := fun j => .ref (ad j)) (A := A) (by decide) (hs 9 _ (by decide +kernel)) (va_eqt (hs 10 _ (by decide +kernel))) (fun j hj => va_eqv (hs _ _ (q_c0 j hj)) (h4 j hj)) hA
  have c3 : va_Z "SlidePark" "COMMANDS" "[LSlidePark$Command;" (.ref tC) A s s.heap := va_Zof (args := args) (ht 1169 _ (by decide +kernel)) (ht 1 _ (by decide +kernel)) c1 hA
  obtain ⟨tW, w1, w2⟩ := va_Tof (args := args) (s := s) (tm := .static "SlidePark$1" "$SwitchMap$SlidePark$Command" "[I") (ty := .int) (N := 7) (f := fun j => .int (swm j)) (A := A) (by decide) (hs 29 _ (by decide +kernel)) (va_eqt (hs 30 _ (by decide +kernel))) (fun j hj => va_eqt (hs _ _ (q_w0 j hj))) hA
  have w3 : va_Z "SlidePark$1" "$SwitchMap$SlidePark$Command" "[I" (.ref tW) A s s.heap := va_Zof (args := args) (ht 1247 _ (by decide +kernel)) (ht 32 _ (by decide +kernel)) w1 hA
  have z1 : va_Z "java/lang/String" "COMPACT_STRINGS" "Z" (.int 1) A s s.heap := va_Zof (args := args) (ht 277 _ (by decide +kernel)) (ht 13 _ (by decide +kernel)) (va_eqi (hs 4 _ (by decide +kernel))) hA
  have z2 : va_Zq "jdk/internal/util/Preconditions" "SIOOBE_FORMATTER" "Ljava/util/function/BiFunction;" A s s.heap := (vx_Zqof (args := args) (ht 1198 _ (by decide +kernel)) (ht 29 _ (by decide +kernel)) (hs 19 _ (by decide +kernel)) hA).1
  have z3 : vx_Zq Bundle.tN "UNASSIGNED_STACK" Bundle.steD A s s.heap := vx_Zqof (args := args) (ht 549 _ (by decide +kernel)) (ht 17 _ (by decide +kernel)) (hs 5 _ (by decide +kernel)) hA
  have z4 : vx_Zq Bundle.tN "SUPPRESSED_SENTINEL" Bundle.listD A s s.heap := vx_Zqof (args := args) (ht 551 _ (by decide +kernel)) (ht 17 _ (by decide +kernel)) (hs 6 _ (by decide +kernel)) hA
  obtain ⟨tT, t1, t2⟩ := va_Tof (args := args) (s := s) (tm := .static "java/lang/Integer" "DigitTens" "[B") (ty := .byte) (N := 100) (f := fun j => .int (dgT j)) (A := A) (by decide) (hs 142 _ (by decide +kernel)) (va_eqt (hs 143 _ (by decide +kernel))) (fun j hj => va_eqt (hs _ _ (q_t0 j hj))) hA
  have t3 : va_Z "java/lang/Integer" "DigitTens" "[B" (.ref tT) A s s.heap := va_Zof (args := args) (ht 1408 _ (by decide +kernel)) (ht 37 _ (by decide +kernel)) t1 hA
  obtain ⟨tO, o1, o2⟩ := va_Tof (args := args) (s := s) (tm := .static "java/lang/Integer" "DigitOnes" "[B") (ty := .byte) (N := 100) (f := fun j => .int (dgO j)) (A := A) (by decide) (hs 39 _ (by decide +kernel)) (va_eqt (hs 40 _ (by decide +kernel))) (fun j hj => va_eqt (hs _ _ (q_o0 j hj))) hA
  have o3 : va_Z "java/lang/Integer" "DigitOnes" "[B" (.ref tO) A s s.heap := va_Zof (args := args) (ht 1406 _ (by decide +kernel)) (ht 37 _ (by decide +kernel)) o1 hA
  obtain ⟨m32, hm32⟩ := e_msg hs ht hA 419 374 "SlidePark" (by decide +kernel)
  obtain ⟨m33, hm33⟩ := e_msg hs ht hA 463 376 "SlidePark" (by decide +kernel)
  obtain ⟨m34, hm34⟩ := e_msg hs ht hA 491 378 "SlidePark" (by decide +kernel)
  obtain ⟨m35, hm35⟩ := e_msg hs ht hA 550 380 "SlidePark" (by decide +kernel)
  obtain ⟨m36, hm36⟩ := e_msg hs ht hA 593 156 "SlidePark" (by decide +kernel)
  obtain ⟨m37, hm37⟩ := e_msg hs ht hA 631 386 "SlidePark" (by decide +kernel)
  obtain ⟨m38, hm38⟩ := e_msg hs ht hA 657 127 "SlidePark" (by decide +kernel)
  obtain ⟨m39, hm39⟩ := e_msg hs ht hA 701 389 "SlidePark" (by decide +kernel)
  obtain ⟨m40, hm40⟩ := e_msg hs ht hA 727 161 "SlidePark" (by decide +kernel)
  obtain ⟨m41, hm41⟩ := e_msg hs ht hA 756 392 "SlidePark" (by decide +kernel)
  obtain ⟨m42, hm42⟩ := e_msg hs ht hA 784 178 "SlidePark" (by decide +kernel)
  obtain ⟨m43, hm43⟩ := e_msg hs ht hA 809 397 "SlidePark" (by decide +kernel)
  obtain ⟨m44, hm44⟩ := e_msg hs ht hA 839 401 "SlidePark" (by decide +kernel)
  obtain ⟨m45, hm45⟩ := e_msg hs ht hA 866 399 "SlidePark" (by decide +kernel)
  obtain ⟨m46, hm46⟩ := e_msg hs ht hA 892 253 "SlidePark" (by decide +kernel)
  obtain ⟨m47, hm47⟩ := e_msg hs ht hA 915 259 "SlidePark" (by decide +kernel)
  obtain ⟨m48, hm48⟩ := e_msg hs ht hA 938 287 "SlidePark" (by decide +kernel)
  obtain ⟨m49, hm49⟩ := e_msg hs ht hA 966 305 "SlidePark" (by decide +kernel)
  obtain ⟨m50, hm50⟩ := e_msg hs ht hA 991 324 "SlidePark" (by decide +kernel)
  obtain ⟨m51, hm51⟩ := e_msg hs ht hA 1011 330 "SlidePark" (by decide +kernel)
  obtain ⟨m52, hm52⟩ := e_msg hs ht hA 1036 332 "SlidePark" (by decide +kernel)
  obtain ⟨m53, hm53⟩ := e_msg hs ht hA 1160 350 "SlidePark" (by decide +kernel)
  obtain ⟨m54, hm54⟩ := e_msg hs ht hA 1196 358 "SlidePark" (by decide +kernel)
  obtain ⟨m55, hm55⟩ := e_msg hs ht hA 1221 366 "SlidePark" (by decide +kernel)
  refine ⟨fun k => if k < 8 then kS k else if k < 16 then vS (k - 8) else if k < 24 then ad (k - 16) else ([tC, tW, 0, tT, tO, 0, 0, 0, m32, m33, m34, m35, m36, m37, m38, m39, m40, m41, m42, m43, m44, m45, m46, m47, m48, m49, m50, m51, m52, m53, m54, m55] : List Nat).getD (k - 24) 0, ⟨⟨?_, ?_, ?_, c3, ?_, w3, w2, z1, (by sorry)⟩, ⟨z3, z4⟩, ?_, ?_⟩, ?_, ?_, t3, t2, o3, o2, ?_, ?_⟩
  · refine ⟨fun i hi => ?_, fun i j hi hj e => ?_⟩
    · simp only [hi, if_true, show ¬ 8 + i < 8 by omega, if_false, show 8 + i < 16 by omega, show 8 + i - 8 = i by omega]
      exact h1.1 i hi
    · simp only [hi, hj, if_true] at e
      exact h1.2 i j hi hj e
  · have e : (fun i => if 16 + i < 8 then kS (16 + i) else if 16 + i < 16 then vS (16 + i - 8) else if 16 + i < 24 then ad (16 + i - 16) else ([tC, tW, 0, tT, tO, 0, 0, 0, m32, m33, m34, m35, m36, m37, m38, m39, m40, m41, m42, m43, m44, m45, m46, m47, m48, m49, m50, m51, m52, m53, m54, m55] : List Nat).getD (16 + i - 24) 0) = fun i => 0 := rfl
    sorry
  all_goals sorry
