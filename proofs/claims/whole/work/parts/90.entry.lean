/-! OWN ROWS: the entry: what the Statement says of the start, as the parts want it -/
def zflB : List Cond := flatC (Jvm.Cond.and given_1 narrow_1)
def ztmB (i : Nat) : Term := ([(Jvm.Term.string "SlidePark$Command" (56 : Nat)), (Jvm.Term.string "SlidePark$Command" (62 : Nat)), (Jvm.Term.string "SlidePark$Command" (65 : Nat)), (Jvm.Term.string "SlidePark$Command" (68 : Nat)), (Jvm.Term.string "SlidePark$Command" (71 : Nat)), (Jvm.Term.string "SlidePark$Command" (74 : Nat)), (Jvm.Term.string "SlidePark$Command" (77 : Nat)), (Jvm.Term.string "SlideParkModel" (213 : Nat))] : List Term).getD i (.int 0)
def zsbB : List Nat := [1319, 1329, 1339, 1348, 1359, 1369, 1310, 1261]
def zebB : List Nat := [244, 250, 257, 265, 274, 284, 23]
def zneB : List (List Nat) := [[0, 256, 263, 271, 280, 290, 249], [256, 0, 264, 272, 281, 291, 255], [263, 264, 0, 273, 282, 292, 262], [271, 272, 273, 0, 283, 293, 270], [280, 281, 282, 283, 0, 294, 279], [290, 291, 292, 293, 294, 0, 289], [249, 255, 262, 270, 279, 289, 0]]
def zlsB : List Nat := [2084, 2085, 2086, 2087, 2088, 2089, 1222]
abbrev zc7B (i : Nat) : Term := .static "SlidePark$Command" (cwN.getD i "") "LSlidePark$Command;"
theorem q_s0 : ∀ i, i < 8 → zflB[zsbB.getD i 0]? = some (.exactly (ztmB i) "java/lang/String") := by decide +kernel
theorem q_s1 : ∀ i, i < 8 → zflB[zsbB.getD i 0 + 1]? = some (.eq (.field (ztmB i) "java/lang/String" "coder" "B") (.int 0)) := by decide +kernel
theorem q_s2 : ∀ i, i < 8 → zflB[zsbB.getD i 0 + 2]? = some (.arrayOf (.field (ztmB i) "java/lang/String" "value" "[B") .byte) := by decide +kernel
theorem q_s3 : ∀ i, i < 8 → zflB[zsbB.getD i 0 + 3]? = some (.eq (.length (.field (ztmB i) "java/lang/String" "value" "[B")) (.int (Int32.ofNat (cwL.getD i 0)))) := by decide +kernel
theorem q_s4 : ∀ i, i < 8 → ∀ j, j < cwL.getD i 0 → zflB[zsbB.getD i 0 + 4 + j]? = some (.eq (.elem (.field (ztmB i) "java/lang/String" "value" "[B") (.int (Int32.ofNat j))) (.int ((cwB.getD i []).getD j 0))) := by decide +kernel
theorem q_s5 : ∀ i, i < 8 → cwL.getD i 0 < 2 ^ 31 ∧ 0 < cwL.getD i 0 := by decide
theorem q_s6 : ∀ i, i < 8 → ∀ j, j < 8 → (cwB.getD i []).getD 0 0 = (cwB.getD j []).getD 0 0 → i = j := by decide +kernel
theorem q_e0 : ∀ i, i < 7 → zflB[zebB.getD i 0]? = some (.exactly (zc7B i) "SlidePark$Command") := by decide +kernel
theorem q_e1 : ∀ i, i < 7 → zflB[zebB.getD i 0 + 1]? = some (.eq (.field (zc7B i) "java/lang/Enum" "ordinal" "I") (.int (([0, 1, 2, 3, 4, 5, 6] : List Int32).getD i 0))) := by decide +kernel
theorem q_e2 : ∀ i, i < 7 → zflB[zebB.getD i 0 + 2]? = some (.eq (.field (zc7B i) "SlidePark$Command" "keyword" "Ljava/lang/String;") (ztmB i)) := by decide +kernel
theorem q_e3 : ∀ i, i < 7 → zflB[zebB.getD i 0 + 3]? = some (.eq (.field (zc7B i) "SlidePark$Command" "numberCount" "I") (.int (([2, 0, 3, 1, 2, 1, 1] : List Int32).getD i 0))) := by decide +kernel
theorem q_e4 : ∀ i, i < 7 → zflB[zebB.getD i 0 + 4]? = some (.eq (.field (zc7B i) "SlidePark$Command" "lastDigits" "I") (.int (([1, 0, 4, 2, 1, 1, 2] : List Int32).getD i 0))) := by decide +kernel
theorem q_e5 : ∀ i, i < 7 → ∀ j, j < 7 → i ≠ j → zflB[(zneB.getD i []).getD j 0]? = some (.not (.eq (zc7B i) (zc7B j))) ∨ zflB[(zneB.getD i []).getD j 0]? = some (.not (.eq (zc7B j) (zc7B i))) := by decide +kernel
theorem q_e6 : ∀ i, i < 7 → tables_1[zlsB.getD i 0]? = some (.laysStatic "SlidePark$Command" (cwN.getD i "") "LSlidePark$Command;") := by decide +kernel
theorem q_c0 : ∀ j, j < 7 → zflB[12 + j]? = some (.eq (.elem (.static "SlidePark" "COMMANDS" "[LSlidePark$Command;") (.int (Int32.ofNat j))) (zc7B j)) := by decide +kernel
theorem q_w0 : ∀ j, j < 7 → zflB[31 + j]? = some (.eq (.elem (.static "SlidePark$1" "$SwitchMap$SlidePark$Command" "[I") (.int (Int32.ofNat j))) (.int (swm j))) := by decide +kernel
theorem q_t0 : ∀ j, j < 100 → zflB[144 + j]? = some (.eq (.elem (.static "java/lang/Integer" "DigitTens" "[B") (.int (Int32.ofNat j))) (.int (dgT j))) := by decide +kernel
theorem q_o0 : ∀ j, j < 100 → zflB[41 + j]? = some (.eq (.elem (.static "java/lang/Integer" "DigitOnes" "[B") (.int (Int32.ofNat j))) (.int (dgO j))) := by decide +kernel
theorem e_S {args : Array Value} {s : State} {A : Nat → Prop} (hs : ∀ (i : Nat) (w : Cond), zflB[i]? = some w → w.before args s = true) (ht : ∀ (i : Nat) (w : Cond), tables_1[i]? = some w → w.before args s = true) (hA : ∀ a : Nat, a < s.heap.size → ¬ A a) : ∃ adK adV : Nat → Nat, vk_S 8 cwL cwB adK adV A s s.heap ∧ ∀ i, i < 8 → (ztmB i).eval args s none [] s = some (.ref (adK i)) := by
  have h0 : ∀ i : Nat, ∃ q : Nat × Nat, i < 8 → vk_S 1 [cwL.getD i 0] [cwB.getD i []] (fun _ => q.1) (fun _ => q.2) A s s.heap ∧ (ztmB i).eval args s none [] s = some (.ref q.1) := by
    intro i
    by_cases hi : i < 8
    · obtain ⟨k, v, h1, h2⟩ := vk_Sof (args := args) (s := s) (N := 1) (tm := fun _ => ztmB i) (len := [cwL.getD i 0]) (byt := [cwB.getD i []]) (A := A)
        (fun j hj => by rw [show j = 0 by omega]; exact (q_s5 i hi).1) (fun j hj => hs _ _ (q_s0 i hi)) (fun j hj => hs _ _ (q_s1 i hi)) (fun j hj => hs _ _ (q_s2 i hi))
        (fun j hj => by rw [show j = 0 by omega]; exact hs _ _ (q_s3 i hi)) (fun j hj k hk => by
          have e : j = 0 := by omega
          subst e
          exact hs _ _ (q_s4 i hi k hk)) (fun a b ha hb hab => absurd (by omega : a = b) hab) hA
      refine ⟨(k 0, v 0), fun _ => ⟨⟨fun j hj => ?_, fun a b ha hb _ => by omega⟩, h2 0 (by omega)⟩⟩
      rw [show j = 0 by omega]
      exact h1.1 0 (by omega)
    · exact ⟨(0, 0), fun h => absurd h hi⟩
  obtain ⟨ad, had⟩ := Classical.axiomOfChoice h0
  refine ⟨fun i => (ad i).1, fun i => (ad i).2, ⟨fun i hi => (had i hi).1.1 0 (by omega), fun i j hi hj e => ?_⟩, fun i hi => (had i hi).2⟩
  apply q_s6 i hi j hj
  have e1 := va_eqt (hs _ _ (q_s4 i hi 0 (q_s5 i hi).2))
  have e2 := va_eqt (hs _ _ (q_s4 j hj 0 (q_s5 j hj).2))
  have e3 : (ztmB i).eval args s none [] s = (ztmB j).eval args s none [] s := by
    rw [(had i hi).2, (had j hj).2]
    exact congrArg (fun a => some (Value.ref a)) e
  have e4 : (Term.field (ztmB i) "java/lang/String" "value" "[B").eval args s none [] s = (Term.field (ztmB j) "java/lang/String" "value" "[B").eval args s none [] s := by
    rw [va_fe (had i hi).2, va_fe (had j hj).2]
    exact congrArg (fun a => s.fieldOf? a "java/lang/String" "value" "[B") e
  have e5 : (Term.elem (.field (ztmB i) "java/lang/String" "value" "[B") (.int (Int32.ofNat 0))).eval args s none [] s = (Term.elem (.field (ztmB j) "java/lang/String" "value" "[B") (.int (Int32.ofNat 0))).eval args s none [] s := by
    first | (simp only [Term.eval, e3]; done) | (simp only [Term.eval] at e4 ⊢; rw [e4])
  rw [e5, e2] at e1
  exact (Value.int.inj (Option.some.inj e1)).symm
theorem e_E {args : Array Value} {s : State} {A : Nat → Prop} (hs : ∀ (i : Nat) (w : Cond), zflB[i]? = some w → w.before args s = true) (ht : ∀ (i : Nat) (w : Cond), tables_1[i]? = some w → w.before args s = true) (hA : ∀ a : Nat, a < s.heap.size → ¬ A a) : ∃ ad : Nat → Nat, va_En "SlidePark$Command" "LSlidePark$Command;" cwN cwF ad A s s.heap ∧ ∀ i, i < 7 → (zc7B i).eval args s none [] s = some (.ref (ad i)) := by
  refine va_Enof2 (args := args) (fun i hi => ht _ _ (q_e6 i hi)) (ht 31 _ (by decide +kernel)) (fun i hi => hs _ _ (q_e0 i hi)) (fun q hq => ?_) (fun i j hi hj hij => ?_) hA
  · simp only [cwF, List.mem_cons, List.not_mem_nil, or_false] at hq
    rcases hq with rfl | rfl | rfl
    · exact fun i hi => hs _ _ (q_e1 i hi)
    · exact fun i hi => hs _ _ (q_e3 i hi)
    · exact fun i hi => hs _ _ (q_e4 i hi)
  · rcases q_e5 i hi j hj hij with h | h
    · exact Or.inl (hs _ _ h)
    · exact Or.inr (hs _ _ h)
theorem e_msg {args : Array Value} {s : State} {A : Nat → Prop} (hs : ∀ (i : Nat) (w : Cond), zflB[i]? = some w → w.before args s = true) (ht : ∀ (i : Nat) (w : Cond), tables_1[i]? = some w → w.before args s = true) (hA : ∀ a : Nat, a < s.heap.size → ¬ A a) (i k : Nat) (own : String) (h : zflB[i]? = some (.exactly (.string own k) "java/lang/String")) : ∃ a : Nat, (Term.string own k).eval args s none [] s = some (.ref a) := by
  obtain ⟨a, c, cell, kk, q1, _⟩ := Cond.exactly_spec (hs _ _ h)
  exact ⟨a, q1⟩
def zcaB (kS vS ad : Nat → Nat) (l : List Nat) (k : Nat) : Nat := if k < 8 then kS k else if k < 16 then vS (k - 8) else if k < 24 then ad (k - 16) else l.getD (k - 24) 0
theorem zca_0 {kS vS ad : Nat → Nat} {l : List Nat} {i : Nat} (h : i < 8) : zcaB kS vS ad l i = kS i := if_pos h
theorem zca_1 {kS vS ad : Nat → Nat} {l : List Nat} {i : Nat} (h : i < 8) : zcaB kS vS ad l (8 + i) = vS i := by
  rw [zcaB, if_neg (by omega), if_pos (by omega), show 8 + i - 8 = i by omega]
theorem zca_2 {kS vS ad : Nat → Nat} {l : List Nat} {i : Nat} (h : i < 8) : zcaB kS vS ad l (16 + i) = ad i := by
  rw [zcaB, if_neg (by omega), if_neg (by omega), if_pos (by omega), show 16 + i - 16 = i by omega]
theorem e_all {args : Array Value} {s : State} (ht : ∀ (i : Nat) (w : Cond), tables_1[i]? = some w → w.before args s = true) {L : List Cond} {ix : List Nat} (h : ∀ i, i < L.length → tables_1[ix.getD i 0]? = L[i]?) : ∀ w ∈ L, w.before args s = true := by
  intro w hw
  obtain ⟨i, hi⟩ := List.mem_iff_getElem?.mp hw
  have hl : i < L.length := (List.getElem?_eq_some_iff.mp hi).1
  exact ht _ _ ((h i hl).trans hi)
theorem q_nest : ∀ i, i < cwNest.length → tables_1[([48, 54, 82, 104, 138, 153, 219, 233, 246, 1168] : List Nat).getD i 0]? = cwNest[i]? := by decide +kernel
theorem q_excW : ∀ i, i < excW.length → tables_1[([524, 596, 612, 628, 644, 1104, 526, 528, 530] : List Nat).getD i 0]? = excW[i]? := by decide +kernel
theorem q_excN : ∀ i, i < 8 → zflB[([308, 349, 350, 351, 309, 330, 352, 310] : List Nat).getD i 0]? = some (.not (.castable (excN.getD i ("", "")).1 (excN.getD i ("", "")).2)) := by decide +kernel
theorem e_selP {args : Array Value} {s : State} {x y z : MethodName} {C : String} (h0 : (Cond.selects C x z).before args s = true) (hz : z.cls = y.cls) (hy : y.cls ≠ "java/lang/invoke/MethodHandle" ∧ y.cls ≠ "java/lang/invoke/VarHandle") (hpriv : (Cond.privateMethod y).before args s = true) (hinst : (Cond.instanceMethod y).before args s = true) : (Cond.selects C y y).before args s = true := by
  obtain ⟨c, r, m, hc, _, hm, _, k, hk, hni⟩ := Cond.selects_spec h0
  obtain ⟨mk, methM, hnamed, hmethM, -, -⟩ := Cond.instanceMethod_spec hinst
  have hfound : s.methodFound? y.cls y.name y.desc = some mk := State.methodFound?_of_named hnamed hy
  have hcls : mk.cls = m.cls := Option.some.inj ((findClass_of_methodNamed hnamed).symm.trans (by rw [← hz]; exact findClass_of_methodNamed hm))
  have hsel : selectMethod {} s.vm c mk = .method mk := selectMethod_private hmethM (Cond.privateMethod_at hpriv mk methM hnamed hmethM)
  rw [← hcls] at hk
  simp only [Cond.before, Cond.holds, Cond.value, hc, hfound, hnamed, hsel, hk]
  simp; exact hni
theorem e_C {args : Array Value} {s : State} {A : Nat → Prop} (hs : ∀ (i : Nat) (w : Cond), zflB[i]? = some w → w.before args s = true) (ht : ∀ (i : Nat) (w : Cond), tables_1[i]? = some w → w.before args s = true) (hA : ∀ a : Nat, a < s.heap.size → ¬ A a) : ∃ cA : Nat → Nat, CWX cA A s := by
  obtain ⟨kS, vS, h1, h2⟩ := e_S hs ht hA
  obtain ⟨ad, h3, h4⟩ := e_E hs ht hA
  have h5 : va_Ef 7 "SlidePark$Command" "keyword" "Ljava/lang/String;" (fun i => .ref (kS i)) ad A s s.heap := va_Efof (nm := cwN) (tm := ztmB) h4 (fun i hi => hs _ _ (q_e2 i hi)) (fun i hi => h2 i (by omega)) hA
  obtain ⟨tC, c1, c2⟩ := va_Tof (args := args) (s := s) (tm := .static "SlidePark" "COMMANDS" "[LSlidePark$Command;") (ty := .object "SlidePark$Command") (N := 7) (f := fun j => .ref (ad j)) (A := A) (by decide) (hs 9 _ (by decide +kernel)) (va_eqt (hs 10 _ (by decide +kernel))) (fun j hj => va_eqv (hs _ _ (q_c0 j hj)) (h4 j hj)) hA
  have c3 : va_Z "SlidePark" "COMMANDS" "[LSlidePark$Command;" (.ref tC) A s s.heap := va_Zof (args := args) (ht 1169 _ (by decide +kernel)) (ht 1 _ (by decide +kernel)) c1 hA
  obtain ⟨tW, w1, w2⟩ := va_Tof (args := args) (s := s) (tm := .static "SlidePark$1" "$SwitchMap$SlidePark$Command" "[I") (ty := .int) (N := 7) (f := fun j => .int (swm j)) (A := A) (by decide) (hs 29 _ (by decide +kernel)) (va_eqt (hs 30 _ (by decide +kernel))) (fun j hj => va_eqt (hs _ _ (q_w0 j hj))) hA
  have w3 : va_Z "SlidePark$1" "$SwitchMap$SlidePark$Command" "[I" (.ref tW) A s s.heap := va_Zof (args := args) (ht 1247 _ (by decide +kernel)) (ht 32 _ (by decide +kernel)) w1 hA
  have z1 : va_Z "java/lang/String" "COMPACT_STRINGS" "Z" (.int 1) A s s.heap := va_Zof (args := args) (ht 277 _ (by decide +kernel)) (ht 13 _ (by decide +kernel)) (va_eqi (hs 4 _ (by decide +kernel))) hA
  have z2 : va_Zq "jdk/internal/util/Preconditions" "SIOOBE_FORMATTER" "Ljava/util/function/BiFunction;" A s s.heap := (vx_Zqof (args := args) (ht 1198 _ (by decide +kernel)) (ht 29 _ (by decide +kernel)) (hs 19 _ (by decide +kernel)) hA).1
  have z3 : vx_Zq Bundle.tN "UNASSIGNED_STACK" Bundle.steD A s s.heap := vx_Zqof (args := args) (ht 549 _ (by decide +kernel)) (ht 17 _ (by decide +kernel)) (hs 5 _ (by decide +kernel)) hA
  have z4 : vx_Zq Bundle.tN "SUPPRESSED_SENTINEL" Bundle.listD A s s.heap := vx_Zqof (args := args) (ht 551 _ (by decide +kernel)) (ht 17 _ (by decide +kernel)) (hs 6 _ (by decide +kernel)) hA
  obtain ⟨tT, t1, t2⟩ := va_Tof (args := args) (s := s) (tm := .static "java/lang/Integer" "DigitTens" "[B") (ty := .byte) (N := 100) (f := fun j => .int (dgT j)) (A := A) (by decide) (hs 142 _ (by decide +kernel)) (va_eqt (hs 143 _ (by decide +kernel))) (fun j hj => va_eqt (hs _ _ (q_t0 j hj))) hA
  have t3 : va_Z "java/lang/Integer" "DigitTens" "[B" (.ref tT) A s s.heap := va_Zof (args := args) (ht 1408 _ (by decide +kernel)) (ht 37 _ (by decide +kernel)) t1 hA
  obtain ⟨tO, o1, o2⟩ := va_Tof (args := args) (s := s) (tm := .static "java/lang/Integer" "DigitOnes" "[B") (ty := .byte) (N := 100) (f := fun j => .int (dgO j)) (A := A) (by decide) (hs 39 _ (by decide +kernel)) (va_eqt (hs 40 _ (by decide +kernel))) (fun j hj => va_eqt (hs _ _ (q_o0 j hj))) hA
  have o3 : va_Z "java/lang/Integer" "DigitOnes" "[B" (.ref tO) A s s.heap := va_Zof (args := args) (ht 1406 _ (by decide +kernel)) (ht 37 _ (by decide +kernel)) o1 hA
  obtain ⟨m32, hm32⟩ := e_msg hs ht hA 419 374 "SlidePark" (by decide +kernel)
  obtain ⟨m33, hm33⟩ := e_msg hs ht hA 463 376 "SlidePark" (by decide +kernel)
  obtain ⟨m34, hm34⟩ := e_msg hs ht hA 491 378 "SlidePark" (by decide +kernel)
  obtain ⟨m35, hm35⟩ := e_msg hs ht hA 550 380 "SlidePark" (by decide +kernel)
  obtain ⟨m36, hm36⟩ := e_msg hs ht hA 593 156 "SlidePark" (by decide +kernel)
  obtain ⟨m37, hm37⟩ := e_msg hs ht hA 631 386 "SlidePark" (by decide +kernel)
  obtain ⟨m38, hm38⟩ := e_msg hs ht hA 657 127 "SlidePark" (by decide +kernel)
  obtain ⟨m39, hm39⟩ := e_msg hs ht hA 701 389 "SlidePark" (by decide +kernel)
  obtain ⟨m40, hm40⟩ := e_msg hs ht hA 727 161 "SlidePark" (by decide +kernel)
  obtain ⟨m41, hm41⟩ := e_msg hs ht hA 756 392 "SlidePark" (by decide +kernel)
  obtain ⟨m42, hm42⟩ := e_msg hs ht hA 784 178 "SlidePark" (by decide +kernel)
  obtain ⟨m43, hm43⟩ := e_msg hs ht hA 809 397 "SlidePark" (by decide +kernel)
  obtain ⟨m44, hm44⟩ := e_msg hs ht hA 839 401 "SlidePark" (by decide +kernel)
  obtain ⟨m45, hm45⟩ := e_msg hs ht hA 866 399 "SlidePark" (by decide +kernel)
  obtain ⟨m46, hm46⟩ := e_msg hs ht hA 892 253 "SlidePark" (by decide +kernel)
  obtain ⟨m47, hm47⟩ := e_msg hs ht hA 915 259 "SlidePark" (by decide +kernel)
  obtain ⟨m48, hm48⟩ := e_msg hs ht hA 938 287 "SlidePark" (by decide +kernel)
  obtain ⟨m49, hm49⟩ := e_msg hs ht hA 966 305 "SlidePark" (by decide +kernel)
  obtain ⟨m50, hm50⟩ := e_msg hs ht hA 991 324 "SlidePark" (by decide +kernel)
  obtain ⟨m51, hm51⟩ := e_msg hs ht hA 1011 330 "SlidePark" (by decide +kernel)
  obtain ⟨m52, hm52⟩ := e_msg hs ht hA 1036 332 "SlidePark" (by decide +kernel)
  obtain ⟨m53, hm53⟩ := e_msg hs ht hA 1160 350 "SlidePark" (by decide +kernel)
  obtain ⟨m54, hm54⟩ := e_msg hs ht hA 1196 358 "SlidePark" (by decide +kernel)
  obtain ⟨m55, hm55⟩ := e_msg hs ht hA 1221 366 "SlidePark" (by decide +kernel)
  refine ⟨zcaB kS vS ad ([tC, tW, 0, tT, tO, 0, 0, 0, m32, m33, m34, m35, m36, m37, m38, m39, m40, m41, m42, m43, m44, m45, m46, m47, m48, m49, m50, m51, m52, m53, m54, m55] : List Nat), ⟨⟨?_, ?_, ?_, c3, ?_, w3, w2, z1, z2⟩, ⟨z3, z4⟩, ?_, ?_⟩, ?_, ?_, t3, t2, o3, o2, ?_, ?_⟩
  · refine ⟨fun i hi => ?_, fun i j hi hj e => ?_⟩
    · have a := zca_0 (kS := kS) (vS := vS) (ad := ad) (l := ([tC, tW, 0, tT, tO, 0, 0, 0, m32, m33, m34, m35, m36, m37, m38, m39, m40, m41, m42, m43, m44, m45, m46, m47, m48, m49, m50, m51, m52, m53, m54, m55] : List Nat)) hi
      have b := zca_1 (kS := kS) (vS := vS) (ad := ad) (l := ([tC, tW, 0, tT, tO, 0, 0, 0, m32, m33, m34, m35, m36, m37, m38, m39, m40, m41, m42, m43, m44, m45, m46, m47, m48, m49, m50, m51, m52, m53, m54, m55] : List Nat)) hi
      simp only [a, b]
      exact h1.1 i hi
    · rw [zca_0 hi, zca_0 hj] at e
      exact h1.2 i j hi hj e
  · refine ⟨fun i hi => ?_, fun i j hi hj e => ?_⟩
    · have hi7 : i < 7 := hi
      have a := zca_2 (kS := kS) (vS := vS) (ad := ad) (l := ([tC, tW, 0, tT, tO, 0, 0, 0, m32, m33, m34, m35, m36, m37, m38, m39, m40, m41, m42, m43, m44, m45, m46, m47, m48, m49, m50, m51, m52, m53, m54, m55] : List Nat)) (i := i) (by omega)
      simp only [a]
      exact h3.1 i hi
    · have hi7 : i < 7 := hi
      have hj7 : j < 7 := hj
      have e2 : zcaB kS vS ad ([tC, tW, 0, tT, tO, 0, 0, 0, m32, m33, m34, m35, m36, m37, m38, m39, m40, m41, m42, m43, m44, m45, m46, m47, m48, m49, m50, m51, m52, m53, m54, m55] : List Nat) (16 + i) = zcaB kS vS ad ([tC, tW, 0, tT, tO, 0, 0, 0, m32, m33, m34, m35, m36, m37, m38, m39, m40, m41, m42, m43, m44, m45, m46, m47, m48, m49, m50, m51, m52, m53, m54, m55] : List Nat) (16 + j) := e
      rw [zca_2 (by omega), zca_2 (by omega)] at e2
      exact h3.2 i j hi hj e2
  · intro i hi
    have a := zca_0 (kS := kS) (vS := vS) (ad := ad) (l := ([tC, tW, 0, tT, tO, 0, 0, 0, m32, m33, m34, m35, m36, m37, m38, m39, m40, m41, m42, m43, m44, m45, m46, m47, m48, m49, m50, m51, m52, m53, m54, m55] : List Nat)) (i := i) (by omega)
    have b := zca_2 (kS := kS) (vS := vS) (ad := ad) (l := ([tC, tW, 0, tT, tO, 0, 0, 0, m32, m33, m34, m35, m36, m37, m38, m39, m40, m41, m42, m43, m44, m45, m46, m47, m48, m49, m50, m51, m52, m53, m54, m55] : List Nat)) (i := i) (by omega)
    simp only [a, b]
    exact h5 i hi
  · obtain ⟨cell, x1, x2, x3, x4, x5, x6, x7⟩ := c2
    refine ⟨cell, x1, x2, x3, x4, x5, fun j hj => ?_, x7⟩
    have b := zca_2 (kS := kS) (vS := vS) (ad := ad) (l := ([tC, tW, 0, tT, tO, 0, 0, 0, m32, m33, m34, m35, m36, m37, m38, m39, m40, m41, m42, m43, m44, m45, m46, m47, m48, m49, m50, m51, m52, m53, m54, m55] : List Nat)) (i := j) (by omega)
    show cell.slots[j]? = some (Value.ref (zcaB kS vS ad ([tC, tW, 0, tT, tO, 0, 0, 0, m32, m33, m34, m35, m36, m37, m38, m39, m40, m41, m42, m43, m44, m45, m46, m47, m48, m49, m50, m51, m52, m53, m54, m55] : List Nat) (16 + j)))
    rw [b]
    exact x6 j hj
  · intro q hq
    simp only [cwR, List.mem_cons, List.not_mem_nil, or_false] at hq
    rcases hq with rfl | rfl | rfl | rfl | rfl | rfl | rfl | rfl | rfl | rfl | rfl | rfl | rfl | rfl | rfl | rfl | rfl | rfl | rfl | rfl | rfl | rfl | rfl | rfl | rfl | rfl | rfl | rfl | rfl | rfl | rfl | rfl
    · exact vk_R.of (A := args) (ht 1990 _ (by decide +kernel)) (va_eqv (hs 1328 _ (by decide +kernel)) (h2 0 (by decide)))
    · exact vk_R.of (A := args) (ht 1991 _ (by decide +kernel)) (va_eqv (hs 1368 _ (by decide +kernel)) (h2 4 (by decide)))
    · exact vk_R.of (A := args) (ht 2002 _ (by decide +kernel)) (h2 7 (by decide))
    · exact vk_R.of (A := args) (ht 2007 _ (by decide +kernel)) (va_eqv (hs 1347 _ (by decide +kernel)) (h2 2 (by decide)))
    · exact vk_R.of (A := args) (ht 2008 _ (by decide +kernel)) (va_eqv (hs 1358 _ (by decide +kernel)) (h2 3 (by decide)))
    · exact vk_R.of (A := args) (ht 2009 _ (by decide +kernel)) (va_eqv (hs 1378 _ (by decide +kernel)) (h2 5 (by decide)))
    · exact vk_R.of (A := args) (ht 2010 _ (by decide +kernel)) (va_eqv (hs 1318 _ (by decide +kernel)) (h2 6 (by decide)))
    · exact vk_R.of (A := args) (ht 2011 _ (by decide +kernel)) (va_eqv (hs 1338 _ (by decide +kernel)) (h2 1 (by decide)))
    · exact vk_R.of (A := args) (ht 568 _ (by decide +kernel)) hm32
    · exact vk_R.of (A := args) (ht 603 _ (by decide +kernel)) hm33
    · exact vk_R.of (A := args) (ht 619 _ (by decide +kernel)) hm34
    · exact vk_R.of (A := args) (ht 635 _ (by decide +kernel)) hm35
    · exact vk_R.of (A := args) (ht 651 _ (by decide +kernel)) hm36
    · exact vk_R.of (A := args) (ht 869 _ (by decide +kernel)) hm37
    · exact vk_R.of (A := args) (ht 892 _ (by decide +kernel)) hm38
    · exact vk_R.of (A := args) (ht 905 _ (by decide +kernel)) hm39
    · exact vk_R.of (A := args) (ht 928 _ (by decide +kernel)) hm40
    · exact vk_R.of (A := args) (ht 942 _ (by decide +kernel)) hm41
    · exact vk_R.of (A := args) (ht 972 _ (by decide +kernel)) hm42
    · exact vk_R.of (A := args) (ht 985 _ (by decide +kernel)) hm43
    · exact vk_R.of (A := args) (ht 1009 _ (by decide +kernel)) hm44
    · exact vk_R.of (A := args) (ht 1037 _ (by decide +kernel)) hm45
    · exact vk_R.of (A := args) (ht 1111 _ (by decide +kernel)) hm46
    · exact vk_R.of (A := args) (ht 1120 _ (by decide +kernel)) hm47
    · exact vk_R.of (A := args) (ht 1132 _ (by decide +kernel)) hm48
    · exact vk_R.of (A := args) (ht 1239 _ (by decide +kernel)) hm49
    · exact vk_R.of (A := args) (ht 1258 _ (by decide +kernel)) hm50
    · exact vk_R.of (A := args) (ht 1266 _ (by decide +kernel)) hm51
    · exact vk_R.of (A := args) (ht 1274 _ (by decide +kernel)) hm52
    · exact vk_R.of (A := args) (ht 1538 _ (by decide +kernel)) hm53
    · exact vk_R.of (A := args) (ht 1556 _ (by decide +kernel)) hm54
    · exact vk_R.of (A := args) (ht 1568 _ (by decide +kernel)) hm55
  · exact fun w hw => va_Nw.of (cwNest_t w hw) (e_all ht q_nest w hw)
  · exact fun w hw => va_Nw.of (excW_t w hw) (e_all ht q_excW w hw)
  · intro q hq
    obtain ⟨i, hi⟩ := List.mem_iff_getElem?.mp hq
    have hl : i < 8 := (List.getElem?_eq_some_iff.mp hi).1
    have h := hs _ _ (q_excN i hl)
    rw [show excN.getD i ("", "") = q by rw [List.getD_eq_getElem?_getD, hi]; rfl] at h
    exact va_Nc.of h
  · intro w hw
    have hw1 := hw
    simp only [selW, List.mem_cons, List.not_mem_nil, or_false] at hw
    rcases hw with rfl | rfl
    · exact va_Nw.of (selW_t _ hw1) (e_selP (x := ⟨"java/lang/AbstractStringBuilder", "isLatin1", "()Z"⟩) (z := ⟨"java/lang/AbstractStringBuilder", "isLatin1", "()Z"⟩) (ht 1340 _ (by decide +kernel)) rfl (by decide) (ht 1309 _ (by decide +kernel)) (ht 1310 _ (by decide +kernel)))
    · exact va_Nw.of (selW_t _ hw1) (e_selP (x := ⟨"java/lang/AbstractStringBuilder", "isLatin1", "()Z"⟩) (z := ⟨"java/lang/AbstractStringBuilder", "isLatin1", "()Z"⟩) (ht 1340 _ (by decide +kernel)) rfl (by decide) (ht 1313 _ (by decide +kernel)) (ht 1314 _ (by decide +kernel)))
  · have h := ht 218 (Cond.arrayOver (.object "SlidePark$Office")) (by decide +kernel)
    show (Cond.arrayOver (.object "SlidePark$Office")).before #[] s = true
    first | exact h | (simp only [Cond.before, Cond.holds, Cond.value] at h ⊢; exact h)
