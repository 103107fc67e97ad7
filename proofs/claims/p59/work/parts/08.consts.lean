/-! OWN ROWS: the constants that the class and the model read: texts, commands, statics -/
def cwN : List String := ["SLIDE", "GUEST", "BOOK", "CANCEL", "QUEUE", "LEAVE", "WAIT"]
def cwF : List (String × String × String × List Int32) := [("java/lang/Enum", "ordinal", "I", [0, 1, 2, 3, 4, 5, 6]), ("SlidePark$Command", "numberCount", "I", [2, 0, 3, 1, 2, 1, 1]), ("SlidePark$Command", "lastDigits", "I", [1, 0, 4, 2, 1, 1, 2])]
def cwL : List Nat := [5, 5, 4, 6, 5, 5, 4, 1, 1, 1, 1, 1, 0, 6, 6, 13]
def cwB : List (List Int32) := [[115, 108, 105, 100, 101], [103, 117, 101, 115, 116], [98, 111, 111, 107], [99, 97, 110, 99, 101, 108], [113, 117, 101, 117, 101], [108, 101, 97, 118, 101], [119, 97, 105, 116], [32], [109], [99], [119], [64], [], [113, 117, 101, 117, 101, 32], [59, 119, 97, 105, 116, 32], [59, 103, 117, 101, 115, 116, 59, 108, 101, 97, 118, 101, 32]]
def swm (j : Nat) : Int32 := [(1 : Int32), 2, 3, 4, 5, 6, 0].getD j 0
def strLen (i : Nat) : Int32 := Int32.ofNat (cwL.getD i 0)
def strCh (i k : Nat) : Int32 := (cwB.getD i []).getD k 0
def enN (i : Nat) : Int32 := [(2 : Int32), 0, 3, 1, 2, 1, 1].getD i 0
def enD (i : Nat) : Int32 := [(1 : Int32), 0, 4, 2, 1, 1, 2].getD i 0
def enO (i : Nat) : Int32 := [(0 : Int32), 1, 2, 3, 4, 5, 6].getD i 0
def cwR : List (String × Nat × String × Nat) := [(RL, 277, "m", 108), (RL, 282, "c", 109), (RL, 284, "w", 110), (RL, 290, " ", 107), (RL, 292, "@", 111), (RL, 294, "", 112), (RL, 383, "queue ", 113), (RL, 385, ";wait ", 114), (RL, 387, ";guest;leave ", 115), (RX11, 374, "there is no such guest, slide or booking", 32), (RX11, 376, "a number is out of range", 33), (RX11, 378, "a limit is reached, or the office does not allow it now", 34), (RX11, 380, "a booking or a full queue is in the way", 35), (RX11, 156, "the guest does not wait in a queue", 36), (RX11, 392, "there is no such booking", 37), (RX11, 386, "there is no such slide", 38), (RX11, 178, "there is no such rank", 39), (RX11, 127, "no booking of this slide takes place now", 40), (RX11, 397, "the minute is out of range", 41), (RX11, 401, "there is no such minute", 42), (RX11, 350, "the output has no such character", 43), (RX11, 161, "there is no such position", 44), (RX11, 389, "there is no such guest", 45), (RX11, 259, "there are no slides", 46), (RX11, 253, "there are no guests", 47), (RX11, 399, "no such finish is kept", 48), (RX11, 287, "the input buffer is full", 49), (RX11, 305, "the text is malformed", 50), (RX11, 324, "a command failed", 51), (RX11, 358, "no call can be undone", 52)]
def cwNest : List Cond := [Cond.methodLinkNest RX11 9 yX8_init "SlidePark", Cond.methodLinkNest RX8 26 yX10_init "SlidePark", Cond.methodLinkNest RX8 33 yX6_init "SlidePark", Cond.methodLinkNest RX8 40 yX1_init "SlidePark", Cond.methodLinkNest RX8 47 yX9_init "SlidePark", Cond.methodLinkNest RX8 54 yX5_init "SlidePark", Cond.methodLinkNest RX7 24 yX8_init "SlidePark", Cond.methodLinkNest RX11 32 yX2_init "SlidePark", Cond.methodLinkNest RX11 39 yX4_init "SlidePark", Cond.fieldLinkNest RX4 54 "SlidePark" "COMMANDS" "[LSlidePark$Command;" "SlidePark"]
def CW (cA : Nat → Nat) (A : Nat → Prop) (U : State) : Prop :=
  (vk_S 16 cwL cwB (fun i => cA (100 + i)) (fun i => cA (120 + i)) A U U.heap ∧ va_En "SlidePark$Command" "LSlidePark$Command;" cwN cwF (fun i => cA (16 + i)) A U U.heap ∧ va_Ef 7 "SlidePark$Command" "keyword" "Ljava/lang/String;" (fun i => .ref (cA (100 + i))) (fun i => cA (16 + i)) A U U.heap ∧
    va_Z "SlidePark" "COMMANDS" "[LSlidePark$Command;" (.ref (cA 24)) A U U.heap ∧ va_T (.object "SlidePark$Command") (cA 24) 7 (fun j => .ref (cA (16 + j))) A U U.heap ∧ va_Z "SlidePark$1" "$SwitchMap$SlidePark$Command" "[I" (.ref (cA 25)) A U U.heap ∧ va_T .int (cA 25) 7 (fun j => .int (swm j)) A U U.heap ∧
    va_Z "java/lang/String" "COMPACT_STRINGS" "Z" (.int 1) A U U.heap ∧ va_Zq "jdk/internal/util/Preconditions" "SIOOBE_FORMATTER" "Ljava/util/function/BiFunction;" A U U.heap) ∧
  (vx_Zq Bundle.tN "UNASSIGNED_STACK" Bundle.steD A U U.heap ∧ vx_Zq Bundle.tN "SUPPRESSED_SENTINEL" Bundle.listD A U U.heap) ∧
  (∀ q ∈ cwR, vk_R q.1 q.2.1 q.2.2.1 (cA q.2.2.2) U) ∧ ∀ w ∈ cwNest, va_Nw w U
theorem cwNest_t : ∀ w ∈ cwNest, w.onTables = true := by decide
theorem cwNest_to {s U : State} (hW : s.WarmedH U.vm) (h : ∀ w ∈ cwNest, va_Nw w s) : ∀ w ∈ cwNest, va_Nw w U := by
  intro w hw
  have hw1 := h w hw
  unfold cwNest at hw
  simp only [List.mem_cons, List.not_mem_nil, or_false] at hw
  rcases hw with rfl | rfl | rfl | rfl | rfl | rfl | rfl | rfl | rfl | rfl
  all_goals first | exact va_Nw.warmM hW hw1 | exact va_Nw.warmF hW hw1
theorem CW.to {cA : Nat → Nat} {A B : Nat → Prop} {s U : State} {H : Heap} {locs : List Loc} (h : CW cA A s) (hS : va_S A s.heap H locs) (hU : U.heap = H) (hW : s.WarmedH U.vm) (hB : ∀ q, B q → A q) : CW cA B U := by
  obtain ⟨⟨h1, h2, h3, h4, h5, h6, h7, h8, h9⟩, ⟨h10, h11⟩, h12, h13⟩ := h
  have kq := hS.2.1
  subst hU
  exact ⟨⟨((h1.kept kq).moved hW.alike).narrow hB, ((h2.kept kq).moved hW.alike).narrow hB, ((h3.kept kq).moved hW.alike).narrow hB, ((h4.kept kq).moved hW.alike).narrow hB, ((h5.kept kq).moved hW.alike).narrow hB, ((h6.kept kq).moved hW.alike).narrow hB, ((h7.kept kq).moved hW.alike).narrow hB, ((h8.kept kq).moved hW.alike).narrow hB, ((h9.kept kq).moved hW.alike).narrow hB⟩,
    ⟨((h10.kept kq).moved hW.alike).narrow hB, ((h11.kept kq).moved hW.alike).narrow hB⟩, fun q hq => (h12 q hq).warm hW, cwNest_to hW h13⟩
theorem CW.bl {cA : Nat → Nat} {A : Nat → Prop} {U : State} {g : JFrame} {mk : MethodId} {a : Array Value} (h : CW cA A U) : CW cA A (U.calling g mk a) := by
  obtain ⟨⟨h1, h2, h3, h4, h5, h6, h7, h8, h9⟩, ⟨h10, h11⟩, h12, h13⟩ := h
  have hv : U.vm.Alike (U.calling g mk a).vm := Vm.Alike.refl U.vm
  exact ⟨⟨h1.moved (U := U.calling g mk a) hv, h2.moved (U := U.calling g mk a) hv, h3.moved (U := U.calling g mk a) hv, h4.moved (U := U.calling g mk a) hv, h5.moved (U := U.calling g mk a) hv, h6.moved (U := U.calling g mk a) hv, h7.moved (U := U.calling g mk a) hv, h8.moved (U := U.calling g mk a) hv, h9.moved (U := U.calling g mk a) hv⟩,
    ⟨h10.moved (U := U.calling g mk a) hv, h11.moved (U := U.calling g mk a) hv⟩, fun q hq => (h12 q hq).same rfl, fun w hw => va_Nw.same (u := U) (U := U.calling g mk a) (cwNest_t w hw) rfl (h13 w hw)⟩
def preQ (D : va_G) (dA : Nat → ClassId) (cA : Nat → Nat) (av : List Value) (ws : va_W) : Array Value → State → Prop := va_Pc av (fun U => va_P D cls ws U.heap ∧ va_K D cls (tysA dA) U ∧ CW cA noA U)
def preN (D : va_G) (dA : Nat → ClassId) (cA : Nat → Nat) (av : List Value) (sz : Nat) (ws : va_W) : Array Value → State → Prop := va_Pc av (fun U => U.heap.size = sz ∧ va_P D cls ws U.heap ∧ va_K D cls (tysA dA) U ∧ va_D (fun _ => True) ws ∧ CW cA (va_A ws sz) U)
theorem preQ_bl {D : va_G} {dA : Nat → ClassId} {cA : Nat → Nat} {av : List Value} {ws : va_W} : FrameBlind (preQ D dA cA av ws) := fun a U g mk q => by
  obtain ⟨q0, qP, qK, qC⟩ := q
  exact ⟨q0, qP, va_K.moved (u := U) (U := U.calling g mk a) (Vm.Alike.refl U.vm) qK, qC.bl⟩
theorem preN_bl {D : va_G} {dA : Nat → ClassId} {cA : Nat → Nat} {av : List Value} {sz : Nat} {ws : va_W} : FrameBlind (preN D dA cA av sz ws) := fun a U g mk q => by
  obtain ⟨q0, q1, qP, qK, qD, qC⟩ := q
  exact ⟨q0, q1, qP, va_K.moved (u := U) (U := U.calling g mk a) (Vm.Alike.refl U.vm) qK, qD, qC.bl⟩
section ENTC
variable {l : Launch} {y : MethodName} {own : String} {cc : ByteArray} {maxL : Nat} {ret : Option FieldType} {rm : Room} {D : va_G} {dA : Nat → ClassId} {cA : Nat → Nat} {av : List Value} {ws : va_W} {sz : Nat} {mc ms : Nat}
theorem of_Q {Qc : Array Value → State → Outcome → State → Prop} (hy : plainName y.cls = true) (ho : y.cls = own) (hlen : (lg_sl av).length ≤ maxL)
    (body : ∀ (p : Program) (e : Env) (s : State) (m : MethodId) (below : List Frame) (meth : Method) (c : Code), p.tables.exec = Jvm.exec → c.code = cc → meth.sig.returnType = ret → (∀ w ∈ aw, w.before av.toArray s = true) → s.vm.findClass own = some m.cls → c.maxLocals = maxL → meth.locks = false →
      va_P D cls ws s.heap → va_K D cls (tysA dA) s → CW cA noA s → va_S noA s.heap s.heap [] → ∀ ls : Array Slot, lv_has ls maxL (lv_args 0 av) → W p l e rm s m av.toArray below meth c s.heap [] 0 0 (MQ below Qc av.toArray s 0 0 noA) (F0 m 0 ls [])) :
    Met l y (wo (.code y cc maxL ret)) rm (preQ D dA cA av ws) Qc 0 0 noA := by
  refine Met.ofW (cc := cc) (maxL := maxL) (ret := ret) hy rfl ?_
  intro p e s m args below meth c s₁ B hml hv
  obtain ⟨rfl, hP, hK, hC⟩ := hv
  have hts := atoms_spec (ws := wo (.code y cc maxL ret)) B.pre
  have hl := lv_entry av (n := maxL) hlen
  rw [lg_entry_eq]
  exact body p e s m below meth c B.exec B.bytes B.returns (fun w h => hts w (List.mem_cons_of_mem _ h)) (ho ▸ findClass_of_methodNamed B.named) hml B.notSynchronized hP hK hC va_S.rf _ hl
theorem of_N {Qc : (Nat → Prop) → Array Value → State → Outcome → State → Prop} (hy : plainName y.cls = true) (ho : y.cls = own) (hlen : (lg_sl av).length ≤ maxL)
    (body : ∀ (p : Program) (e : Env) (s : State) (m : MethodId) (below : List Frame) (meth : Method) (c : Code) (A : Nat → Prop), p.tables.exec = Jvm.exec → c.code = cc → meth.sig.returnType = ret → (∀ w ∈ aw, w.before av.toArray s = true) → s.vm.findClass own = some m.cls → c.maxLocals = maxL → meth.locks = false → meth.name = y.name →
      va_P D cls ws s.heap → va_K D cls (tysA dA) s → va_D A ws → CW cA A s → va_S A s.heap s.heap [] → (∀ q : Nat, s.heap.size ≤ q → A q) → ∀ ls : Array Slot, lv_has ls maxL (lv_args 0 av) → W p l e rm s m av.toArray below meth c s.heap [] 0 0 (MQ below (Qc A) av.toArray s mc ms A) (F0 m 0 ls [])) :
    Met l y (wo (.code y cc maxL ret)) rm (preN D dA cA av sz ws) (Qc (va_A ws sz)) mc ms (va_A ws sz) := by
  refine Met.ofW (cc := cc) (maxL := maxL) (ret := ret) hy rfl ?_
  intro p e s m args below meth c s₁ B hml hv
  obtain ⟨rfl, hsz, hP, hK, hD0, hC⟩ := hv
  have hts := atoms_spec (ws := wo (.code y cc maxL ret)) B.pre
  have hl := lv_entry av (n := maxL) hlen
  rw [lg_entry_eq]
  subst hsz
  exact body p e s m below meth c _ B.exec B.bytes B.returns (fun w h => hts w (List.mem_cons_of_mem _ h)) (ho ▸ findClass_of_methodNamed B.named) hml B.notSynchronized (name_of_methodNamed B.named B.method).1 hP hK hD0.self hC va_S.rf (fun q h => Or.inr h) _ hl
end ENTC
section CRC
variable {p : Program} {l : Launch} {e : Env} {R : Room} {s : State} {m : MethodId} {args : Array Value} {below : List Frame} {meth : Method} {c : Code} {H : Heap} {locs : List Loc} {cells slots : Nat} {Q : State → Prop}
variable {y : MethodName} {bytes cc : ByteArray} {maxL nL mc ms n index pc : Nat} {ret : Option FieldType} {rm : Room} {Qc : Array Value → State → Outcome → State → Prop} {own C : String} {b : Addr} {As rest st0 : List Value} {ls : Array Slot} {D : va_G} {dA : Nat → ClassId} {cA : Nat → Nat} {ws wc wr w1 : va_W} {A0 : Nat → Prop}
/-- the receiver is of class C -/
abbrev rcv (s : State) (H : Heap) (C : String) (b : Addr) : Prop := ∃ cellB : Cell, H[b]? = some cellB ∧ cellB.vm.isStatics = false ∧ s.vm.findClass C = some cellB.cls
theorem run_QV (S : CallFix p m c cc nL s args aw own) (hM : Met l y (wo (.code y bytes maxL ret)) rm (preQ D dA cA (.ref b :: As) wc) Qc 0 0 noA) (g : GoodIn aw (wsV own index C y (wo (.code y bytes maxL ret)))) (hd : y.cls = C ∧ y.cls ≠ "java/lang/invoke/MethodHandle" ∧ y.cls ≠ "java/lang/invoke/VarHandle" ∧ (parseMethodDescriptor y.desc).map (fun d => d.parameters.length) = some n)
    (hR : rm.frames + 1 ≤ R.frames ∧ 8 + (maxL + 11) + rm.locals ≤ R.locals) (hrm : rm.cells = 0 ∧ rm.slots = 0) (hK : va_K D cls (tysA dA) s) (hC0 : CW cA A0 s) (hS : va_S A0 s.heap H locs) (hP : va_P D cls ws H) (is : List Nat) (hC : is.filterMap (fun i => ws[i]?) = wc) (hrv : rcv s H C b)
    (hn : As.length = n) (hsize : ls.size = nL) (hst : st0 = As.reverse ++ .ref b :: rest) (hW : (rest.map fun v => v.category).sum ≤ 8) (hdg : decode cc pc = .ok (.invokevirtual index, 3)) (hf : cells ≤ R.cells ∧ slots ≤ R.slots) :
    va_Run p l e R s m args below meth c H locs cells slots 0 0 (F0 m pc ls st0) rest (Qc (Value.ref b :: As).toArray) noA :=
  va_runV S hM (cwV n S.2.2.2.2 g rfl hrm.1 hrm.2 hd hR) ⟨preQ_bl, hrv, fun U hU hW => ⟨rfl, by rw [hU]; exact hP.sub is hC, va_K.moved hW.alike hK, hC0.to hS hU hW (fun _ h => h.elim)⟩⟩ rfl hn hsize hst (lv_room hW) hdg hf
theorem run_QS (S : CallFix p m c cc nL s args aw own) (hM : Met l y (wo (.code y bytes maxL ret)) rm (preQ D dA cA As wc) Qc 0 0 noA) (g : GoodIn aw (va_wsS own index y (wo (.code y bytes maxL ret)))) (hd : y.cls ≠ "java/lang/invoke/MethodHandle" ∧ y.cls ≠ "java/lang/invoke/VarHandle" ∧ (parseMethodDescriptor y.desc).map (fun d => d.parameters.length) = some n)
    (hR : rm.frames + 1 ≤ R.frames ∧ 8 + (maxL + 11) + rm.locals ≤ R.locals) (hrm : rm.cells = 0 ∧ rm.slots = 0) (hK : va_K D cls (tysA dA) s) (hC0 : CW cA A0 s) (hS : va_S A0 s.heap H locs) (hP : va_P D cls ws H) (is : List Nat) (hC : is.filterMap (fun i => ws[i]?) = wc)
    (hn : As.length = n) (hsize : ls.size = nL) (hst : st0 = As.reverse ++ rest) (hW : (rest.map fun v => v.category).sum ≤ 8) (hdg : decode cc pc = .ok (.invokestatic index, 3)) (hf : cells ≤ R.cells ∧ slots ≤ R.slots) :
    va_Run p l e R s m args below meth c H locs cells slots 0 0 (F0 m pc ls st0) rest (Qc As.toArray) noA :=
  va_runS S hM (va_cwS n S.2.2.2.2 g rfl hrm.1 hrm.2 hd hR) ⟨preQ_bl, fun U hU hW => ⟨rfl, by rw [hU]; exact hP.sub is hC, va_K.moved hW.alike hK, hC0.to hS hU hW (fun _ h => h.elim)⟩⟩ rfl hn hsize hst (lv_room hW) hdg hf
theorem run_NV (S : CallFix p m c cc nL s args aw own) (hM : Met l y (wo (.code y bytes maxL ret)) rm (preN D dA cA (.ref b :: As) H.size wc) Qc mc ms (va_A wc H.size)) (g : GoodIn aw (wsV own index C y (wo (.code y bytes maxL ret)))) (hd : y.cls = C ∧ y.cls ≠ "java/lang/invoke/MethodHandle" ∧ y.cls ≠ "java/lang/invoke/VarHandle" ∧ (parseMethodDescriptor y.desc).map (fun d => d.parameters.length) = some n)
    (hR : rm.frames + 1 ≤ R.frames ∧ 8 + (maxL + 11) + rm.locals ≤ R.locals) (hrm : rm.cells = mc ∧ rm.slots = ms) (hK : va_K D cls (tysA dA) s) (hC0 : CW cA A0 s) (hS : va_S A0 s.heap H locs) (hA : ∀ q, s.heap.size ≤ q → A0 q) (hP : va_P D cls ws H) (hD : va_D A0 ws) (is : List Nat) (hnd : va_nd is = true) (hC : is.map (fun i => ws[i]?) = wc.map some) (hrv : rcv s H C b)
    (hn : As.length = n) (hsize : ls.size = nL) (hst : st0 = As.reverse ++ .ref b :: rest) (hW : (rest.map fun v => v.category).sum ≤ 8) (hdg : decode cc pc = .ok (.invokevirtual index, 3)) (hf : cells + mc ≤ R.cells ∧ slots + ms ≤ R.slots) :
    va_Run p l e R s m args below meth c H locs cells slots mc ms (F0 m pc ls st0) rest (Qc (Value.ref b :: As).toArray) (va_A wc H.size) :=
  va_runV S hM (cwV n S.2.2.2.2 g rfl hrm.1 hrm.2 hd hR) ⟨preN_bl, hrv, fun U hU hW => ⟨rfl, by rw [hU], by rw [hU]; exact hP.sub is (fm_of_map hC), va_K.moved hW.alike hK, (hD.sub is hnd hC).weaken (fun _ _ _ _ => trivial), hC0.to hS hU hW (va_free hD hS hA is hC)⟩⟩ rfl hn hsize hst (lv_room hW) hdg hf
/-- behind a call that answers a constant of the enum, or null -/
theorem k_Ne {r : Option Nat} {ad : Nat → Nat} {a : Array Value} (hr : va_Run p l e R s m args below meth c H locs cells slots mc ms (F0 m pc ls st0) rest (va_Qe ad (fun (r' : Option Nat) (_ : Unit) => r' = r) (fun _ t => va_P D cls w1 t.heap ∧ va_D (va_A wc H.size) w1) (va_A wc H.size) a) (va_A wc H.size)) (hP : va_P D cls ws H) (hD : va_D A0 ws) (hS : va_S A0 s.heap H locs) (hA : ∀ q, s.heap.size ≤ q → A0 q) (isC isR : List Nat) (hC : isC.map (fun i => ws[i]?) = wc.map some) (hRr : isR.map (fun i => ws[i]?) = wr.map some) (hnd : va_nd isR = true) (hdis : ∀ i ∈ isR, i ∉ isC)
    (kk : ∀ (H1 : Heap) (locs1 : List Loc), va_P D cls (wr ++ w1) H1 → va_D A0 (wr ++ w1) → va_S A0 s.heap H1 locs1 → W p l e R s m args below meth c H1 locs1 (cells + mc) (slots + ms) Q (F0 m (pc + 3) ls (va_re ad r :: rest))) : W p l e R s m args below meth c H locs cells slots Q (F0 m pc ls st0) := by
  have hF := va_free hD hS hA isC hC
  refine va_calle hr hS (fun q _ h => hF q h) hF (fun r' u t H1 locs1 ht hvm hw hB hz hk hS1 => ?_)
  obtain rfl : r' = r := hw
  obtain ⟨hP1, hD1⟩ := hB
  rw [ht] at hP1
  obtain ⟨hP2, hD2⟩ := va_join hP hD isC isR hC hRr hnd hdis hk hF hP1 hD1
  exact kk H1 locs1 hP2 hD2 hS1
abbrev poNe (D : va_G) (cA : Nat → Nat) (r : Option Nat) (w1 : va_W) (A : Nat → Prop) : Array Value → State → Outcome → State → Prop := va_Qe (fun i => cA (16 + i)) (fun (r' : Option Nat) (_ : Unit) => r' = r) (fun _ t => va_P D cls w1 t.heap ∧ va_D A w1) A
theorem rt_Ne {A : Nat → Prop} {r : Option Nat} {rt : FieldType} (hx : p.tables.exec = Jvm.exec) (hb : c.code = cc) (hr : meth.sig.returnType = some rt) (hrt : ∃ n, rt = .object n) (hk : meth.locks = false) (hP : va_P D cls w1 H) (hD : va_D A w1) (hS : va_S A s.heap H locs) (hdg : decode cc pc = .ok (.areturn, 1)) : W p l e R s m args below meth c H locs cells slots (MQ below (poNe D cA r w1 A) args s cells slots A) (F0 m pc ls [va_re (fun i => cA (16 + i)) r]) :=
  W.aret hx hb hr (Or.inl hrt) (by cases r with | none => exact Or.inl rfl | some i => exact Or.inr ⟨_, rfl⟩) (fun t ht hW => ⟨⟨r, (), rfl, rfl, by rw [ht]; exact hP, hD⟩, hS.F ht⟩) hS.2.2 hdg hk
/-- void methods that change nothing -/
abbrev poPv : Array Value → State → Outcome → State → Prop := va_Qv (fun (_ : Unit) => True) (fun _ _ => True) noA
theorem rt_Pv (hx : p.tables.exec = Jvm.exec) (hb : c.code = cc) (hr : meth.sig.returnType = none) (hk : meth.locks = false) (hS : va_S noA s.heap H locs) (hdg : decode cc pc = .ok (.return_, 1)) : W p l e R s m args below meth c H locs cells slots (MQ below poPv args s cells slots noA) (F0 m pc ls []) :=
  W.vret hx hb hr (fun t ht hW => ⟨⟨(), rfl, trivial, trivial⟩, hS.F ht⟩) hS.2.2 hdg hk
theorem k_Pv {H0 : Heap} {a : Array Value} (hr : va_Run p l e R s m args below meth c H locs cells slots 0 0 (F0 m pc ls st0) rest (poPv a) noA) (hP : va_P D cls ws H) (hS : va_S A0 H0 H locs)
    (kk : ∀ (H1 : Heap) (locs1 : List Loc), va_P D cls ws H1 → va_S A0 H0 H1 locs1 → W p l e R s m args below meth c H1 locs1 cells slots Q (F0 m (pc + 3) ls rest)) : W p l e R s m args below meth c H locs cells slots Q (F0 m pc ls st0) :=
  va_callv hr hS (fun _ _ h => h.elim) (fun _ h => h.elim) (fun u t H1 locs1 ht hvm hw hB hz hk hS1 =>
    kk H1 locs1 (hP.kept (fun k q hq => hk q.1 (hP k q hq).lt (fun z => z))) hS1)
end CRC
theorem sf_inl {i : Int32} {n : Nat} (h : sf_in i n = true) : i.toNatClampNeg < n := Nat.lt_of_not_le (fun z => sf_inv h (Or.inr z))
theorem gi_S2 {own : String} {idx : Nat} {y : MethodName} {c : Cond} (h1 : Cond.methodLink own idx y ∈ aw) (h2 : Cond.static y ∈ aw) (h4 : Cond.initialized y.cls ∈ aw) (h5 : c ∈ aw) : GoodIn aw (va_wsS own idx y (wo c)) := gi_aw (fun w hw => by
  rcases List.mem_append.mp hw with h | h
  · simp only [List.mem_cons, List.not_mem_nil, or_false] at h
    rcases h with rfl | rfl | rfl <;> assumption
  · exact gi_wo h5 w h)
def sf_o {α : Type} (t : Option Nat) (a : Option α) (k : Nat → Option α) : Option α := match t with | none => a | some i => k i
theorem sf_oe {α : Type} {t : Option Nat} {a : Option α} {k : Nat → Option α} {r : α} (h : sf_o t a k = some r) : (t = none ∧ a = some r) ∨ ∃ i, t = some i ∧ k i = some r := by
  cases t with
  | none => exact Or.inl ⟨rfl, h⟩
  | some i => exact Or.inr ⟨i, rfl, h⟩
theorem sf_by {v : Int32} (h : v.toInt8.toInt32 = v) : narrow .byte (.int v) = .int v := by
  have h2 := pk_nb v
  rw [h] at h2
  exact h2
theorem gi_U {own C owner : String} {idx : Nat} {x y : MethodName} {c : Cond} (h1 : Cond.methodLink own idx x ∈ aw) (h2 : Cond.sameMethod x.cls owner x.name x.desc ∈ aw) (h3 : Cond.selects C x y ∈ aw) (h4 : Cond.instanceMethod y ∈ aw) (h5 : Cond.initialized y.cls ∈ aw) (h6 : c ∈ aw) : GoodIn aw (va_wsU own idx C owner x y (wo c)) := gi_aw (fun w hw => by
  rcases List.mem_append.mp hw with h | h
  · simp only [List.mem_cons, List.not_mem_nil, or_false] at h
    rcases h with rfl | rfl | rfl | rfl | rfl <;> assumption
  · exact gi_wo h6 w h)
section CRU
variable {p : Program} {l : Launch} {e : Env} {R : Room} {s : State} {m : MethodId} {args : Array Value} {below : List Frame} {meth : Method} {c : Code} {H : Heap} {locs : List Loc} {cells slots : Nat} {Q : State → Prop}
variable {x y : MethodName} {bytes cc : ByteArray} {maxL nL n index pc : Nat} {ret : Option FieldType} {rm : Room} {Qc : Array Value → State → Outcome → State → Prop} {own C owner : String} {b : Addr} {As rest st0 : List Value} {ls : Array Slot} {D : va_G} {dA : Nat → ClassId} {cA : Nat → Nat} {ws wc : va_W} {A0 : Nat → Prop}
/-- an inherited method that changes nothing -/
theorem run_QU (S : CallFix p m c cc nL s args aw own) (hM : Met l y (wo (.code y bytes maxL ret)) rm (preQ D dA cA (.ref b :: As) wc) Qc 0 0 noA) (g : GoodIn aw (va_wsU own index C owner x y (wo (.code y bytes maxL ret)))) (hd : y = ⟨owner, x.name, x.desc⟩ ∧ owner ≠ "java/lang/invoke/MethodHandle" ∧ owner ≠ "java/lang/invoke/VarHandle" ∧ (parseMethodDescriptor x.desc).map (fun d => d.parameters.length) = some n)
    (hR : rm.frames + 1 ≤ R.frames ∧ 8 + (maxL + 11) + rm.locals ≤ R.locals) (hrm : rm.cells = 0 ∧ rm.slots = 0) (hK : va_K D cls (tysA dA) s) (hC0 : CW cA A0 s) (hS : va_S A0 s.heap H locs) (hP : va_P D cls ws H) (is : List Nat) (hC : is.filterMap (fun i => ws[i]?) = wc) (hrv : rcv s H C b)
    (hn : As.length = n) (hsize : ls.size = nL) (hst : st0 = As.reverse ++ .ref b :: rest) (hW : (rest.map fun v => v.category).sum ≤ 8) (hdg : decode cc pc = .ok (.invokevirtual index, 3)) (hf : cells ≤ R.cells ∧ slots ≤ R.slots) :
    va_Run p l e R s m args below meth c H locs cells slots 0 0 (F0 m pc ls st0) rest (Qc (Value.ref b :: As).toArray) noA :=
  va_runU S hM (va_cwU n S.2.2.2.2 g rfl hrm.1 hrm.2 hd.1 hd.2 hR) ⟨preQ_bl, hrv, fun U hU hW => ⟨rfl, by rw [hU]; exact hP.sub is hC, va_K.moved hW.alike hK, hC0.to hS hU hW (fun _ h => h.elim)⟩⟩ rfl hn hsize hst (lv_room hW) hdg hf
end CRU
theorem yu_ordinal : yJx29ce0_ordinal_8abf5 = ⟨"java/lang/Enum", "ordinal", "()I"⟩ ∧ "java/lang/Enum" ≠ "java/lang/invoke/MethodHandle" ∧ "java/lang/Enum" ≠ "java/lang/invoke/VarHandle" ∧ (parseMethodDescriptor "()I").map (fun d => d.parameters.length) = some 0 := ⟨rfl, by decide, by decide, by decide +kernel⟩
