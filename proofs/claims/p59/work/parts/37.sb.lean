/-! OWN ROWS: a text builder as the JDK's code (Latin-1): its row of bytes moves when it grows -/
def sbK (c : Nat) : Nat := if c ≤ 16 then 0 else if c ≤ 34 then 1 else if c ≤ 70 then 2 else if c ≤ 142 then 3 else 4
def sbU (c : Nat) : Nat := if c ≤ 16 then 0 else if c ≤ 34 then 34 else if c ≤ 70 then 104 else if c ≤ 142 then 246 else 532
def gcC (a b : Nat) : Nat := if a = b then 0 else 1
def gcS (a b : Nat) : Nat := if a = b then 0 else b
def sbM (c : Nat) (m : Int32) : Nat := if 2 * c + 2 < m.toNatClampNeg then m.toNatClampNeg else 2 * c + 2
theorem sbM_ge (c : Nat) (m : Int32) : 2 * c + 2 ≤ sbM c m := by unfold sbM; split <;> omega
def sbN (c : Nat) (m : Int32) : Nat := if m - Int32.ofNat c ≤ 0 then c else sbM c m
/-- a row of bytes that stays small -/
def sbOk (n : Nat) : Bool := decide (n ≤ 286)
theorem gcC_le (a b : Nat) : gcC a b ≤ 1 := by unfold gcC; split <;> omega
theorem gcS_le (a : Nat) {b : Nat} (h : sbOk b = true) : gcS a b ≤ 286 := by have := of_decide_eq_true (p := b ≤ 286) h; unfold gcS; split <;> omega
def sbStep (a b : Nat) : Bool := decide (b = a) || (decide (b = 2 * a + 2) && (decide (a = 16) || decide (a = 34) || decide (a = 70) || decide (a = 142)))
theorem sbStep_or {a b : Nat} (h : sbStep a b = true) : b = a ∨ (b = 2 * a + 2 ∧ (a = 16 ∨ a = 34 ∨ a = 70 ∨ a = 142)) := by
  simp only [sbStep, Bool.or_eq_true, Bool.and_eq_true, decide_eq_true_eq] at h
  omega
theorem sbK_stp {a b x : Nat} (h : sbStep a b = true) (e : b = x) : sbK a + gcC a x ≤ sbK b := by
  subst e
  rcases sbStep_or h with rfl | ⟨rfl, rfl | rfl | rfl | rfl⟩
  · simp [gcC]
  all_goals decide
theorem sbU_stp {a b x : Nat} (h : sbStep a b = true) (e : b = x) : sbU a + gcS a x ≤ sbU b := by
  subst e
  rcases sbStep_or h with rfl | ⟨rfl, rfl | rfl | rfl | rfl⟩
  · simp [gcS]
  all_goals decide
theorem sbK_le (c : Nat) : sbK c ≤ 4 := by
  unfold sbK
  repeat' split
  all_goals omega
theorem sbU_le (c : Nat) : sbU c ≤ 532 := by
  unfold sbU
  repeat' split
  all_goals omega
theorem gcC_g (a : Nat) (m : Int32) : gcC a (sbM a m) = 1 := if_neg (by have := sbM_ge a m; omega)
theorem gcS_g (a : Nat) (m : Int32) : gcS a (sbM a m) = sbM a m := if_neg (by have := sbM_ge a m; omega)
theorem nw_eq {D : va_G} {dA : Nat → ClassId} {s : State} {cA cB : ClassId} {ty : FieldType} {t0 : Nat} (hK : va_K D cls (tysA dA) s) (ht : (tysA dA)[t0]? = some (cB, ty)) (hK1 : va_K D cls (tysA dA ++ [(cA, ty)]) s) (hpr : ∀ C, ty ≠ .object C) : cA = cB := by
  have h1 := (hK1.2 5 (cA, ty) rfl).2
  have h2 := (hK.2 t0 _ ht).2
  cases ty with
  | object C => exact absurd rfl (hpr C)
  | _ => exact Option.some.inj (h1.symm.trans h2)
section NW
variable {p : Program} {l : Launch} {e : Env} {R : Room} {s : State} {m : MethodId} {args : Array Value} {below : List Frame} {meth : Method} {c : Code} {H H0 : Heap} {locs : List Loc} {cells slots : Nat} {Q : State → Prop} {cc : ByteArray} {pc : Nat} {ls : Array Slot} {D : va_G} {ws ws' : va_W} {A A0 : Nat → Prop} {rest st0 : List Value} {dA : Nat → ClassId} {cA : Nat → Nat}
theorem nw_p (hexec : p.tables.exec = Jvm.exec) (hb : c.code = cc) {atype : ArrayType} (harr : (Cond.arrayClass (newarray.typeOf atype)).before args s = true) {ty : FieldType} (hty : newarray.typeOf atype = ty) (hK : va_K D cls (tysA dA) s) (hP : va_P D cls ws H) (hD : va_D A ws) (hS : va_S A H0 H locs) (hA : ∀ q, H0.size ≤ q → A q)
    {n : Int32} {N' : Nat} {a0 : vp_A} (ha : ∀ cA : ClassId, vp_cell cA a0 = arrV cA N' (fun _ => defaultValue ty)) (hn : ¬ n < 0) (hN : n.toNatClampNeg = N') (hbytes : N' * componentBytes ty ≤ 536870912) (hcells : cells + 1 ≤ R.cells) (hslots : slots + N' ≤ R.slots) (hdg : decode cc pc = .ok (.newarray atype, 2)) (t0 : Nat) {cB : ClassId} (ht : (tysA dA)[t0]? = some (cB, ty)) (hpr : ∀ C, ty ≠ .object C)
    (kk : ∀ (q : Nat) (H1 : Heap), va_P D cls (ws ++ [(q, .inl (cB, a0))]) H1 → va_D A (ws ++ [(q, .inl (cB, a0))]) → va_S A H0 H1 locs → W p l e R s m args below meth c H1 locs (cells + 1) (slots + N') Q (F0 m (pc + 2) ls (.ref q :: rest))) : W p l e R s m args below meth c H locs cells slots Q (F0 m pc ls (.int n :: rest)) :=
  va_newa hexec hb harr hty hK hP hD hS hA ha hn hN hbytes hcells hslots hdg (fun q cA H1 hK1 hP1 hD1 hS1 => by
    obtain rfl := nw_eq hK ht hK1 hpr
    exact kk q H1 hP1 hD1 hS1)
/-- posts whose row of bytes may have moved -/
abbrev poGv (D : va_G) (w : Nat → va_W) (A : Nat → Prop) : Array Value → State → Outcome → State → Prop := va_Qv (fun _ : Nat => True) (fun u t => va_P D cls (w u) t.heap ∧ va_D A (w u)) A
abbrev poGi (D : va_G) (r : Int32) (w : Nat → va_W) (A : Nat → Prop) : Array Value → State → Outcome → State → Prop := va_Qi (fun (r' : Int32) (_ : Nat) => r' = r) (fun u t => va_P D cls (w u) t.heap ∧ va_D A (w u)) A
abbrev poGr (D : va_G) (h : Nat) (w : Nat → va_W) (A : Nat → Prop) : Array Value → State → Outcome → State → Prop := va_Qr (fun _ : Nat => True) (fun u a t => a = h ∧ va_P D cls (w u) t.heap ∧ va_D A (w u)) A
abbrev poCp (D : va_G) (w : Nat → va_W) (A : Nat → Prop) : Array Value → State → Outcome → State → Prop := va_Qr (fun _ : Unit => True) (fun _ a t => va_P D cls (w a) t.heap ∧ va_D A (w a)) A
theorem rt_Gv {w : Nat → va_W} {u : Nat} (hx : p.tables.exec = Jvm.exec) (hb : c.code = cc) (hr : meth.sig.returnType = none) (hk : meth.locks = false) (hP : va_P D cls (w u) H) (hD : va_D A (w u)) (hS : va_S A s.heap H locs) (hdg : decode cc pc = .ok (.return_, 1)) : W p l e R s m args below meth c H locs cells slots (MQ below (poGv D w A) args s cells slots A) (F0 m pc ls []) :=
  W.vret hx hb hr (fun t ht hW => ⟨⟨u, rfl, trivial, by rw [ht]; exact hP, hD⟩, hS.F ht⟩) hS.2.2 hdg hk
theorem rt_Gi {w : Nat → va_W} {u : Nat} {v : Int32} (hx : p.tables.exec = Jvm.exec) (hb : c.code = cc) (hr : meth.sig.returnType = some .int) (hk : meth.locks = false) (hP : va_P D cls (w u) H) (hD : va_D A (w u)) (hS : va_S A s.heap H locs) (hdg : decode cc pc = .ok (.ireturn, 1)) : W p l e R s m args below meth c H locs cells slots (MQ below (poGi D v w A) args s cells slots A) (F0 m pc ls [.int v]) :=
  W.iret hx hb hr (fun t ht hW => ⟨⟨v, u, rfl, rfl, by rw [ht]; exact hP, hD⟩, hS.F ht⟩) hS.2.2 hdg hk
theorem rt_Gr {w : Nat → va_W} {u h : Nat} {rt : FieldType} (hx : p.tables.exec = Jvm.exec) (hb : c.code = cc) (hr : meth.sig.returnType = some rt) (hrt : (∃ n, rt = .object n) ∨ ∃ t, rt = .array t) (hk : meth.locks = false) (hP : va_P D cls (w u) H) (hD : va_D A (w u)) (hS : va_S A s.heap H locs) (hdg : decode cc pc = .ok (.areturn, 1)) : W p l e R s m args below meth c H locs cells slots (MQ below (poGr D h w A) args s cells slots A) (F0 m pc ls [.ref h]) :=
  W.aret hx hb hr hrt (Or.inr ⟨_, rfl⟩) (fun t ht hW => ⟨⟨u, h, rfl, trivial, rfl, by rw [ht]; exact hP, hD⟩, hS.F ht⟩) hS.2.2 hdg hk
theorem rt_Cp {w : Nat → va_W} {h : Nat} {rt : FieldType} (hx : p.tables.exec = Jvm.exec) (hb : c.code = cc) (hr : meth.sig.returnType = some rt) (hrt : (∃ n, rt = .object n) ∨ ∃ t, rt = .array t) (hk : meth.locks = false) (hP : va_P D cls (w h) H) (hD : va_D A (w h)) (hS : va_S A s.heap H locs) (hdg : decode cc pc = .ok (.areturn, 1)) : W p l e R s m args below meth c H locs cells slots (MQ below (poCp D w A) args s cells slots A) (F0 m pc ls [.ref h]) :=
  W.aret hx hb hr hrt (Or.inr ⟨_, rfl⟩) (fun t ht hW => ⟨⟨(), h, rfl, trivial, by rw [ht]; exact hP, hD⟩, hS.F ht⟩) hS.2.2 hdg hk
variable {mc ms : Nat} {wc wr X pl : va_W}
theorem k_Gv {w1 : Nat → va_W} {a : Array Value} (hr : va_Run p l e R s m args below meth c H locs cells slots mc ms (F0 m pc ls st0) rest (poGv D w1 (va_A wc H.size) a) (va_A wc H.size)) (hP : va_P D cls ws H) (hD : va_D A0 ws) (hS : va_S A0 H0 H locs) (hA : ∀ q, H0.size ≤ q → A0 q) (isC isR : List Nat) (hC : isC.map (fun i => ws[i]?) = wc.map some) (hRr : isR.map (fun i => ws[i]?) = wr.map some) (hnd : va_nd isR = true) (hdis : ∀ i ∈ isR, i ∉ isC)
    (kk : ∀ (u : Nat) (H1 : Heap) (locs1 : List Loc), va_P D cls (wr ++ w1 u) H1 → va_D A0 (wr ++ w1 u) → va_S A0 H0 H1 locs1 → W p l e R s m args below meth c H1 locs1 (cells + mc) (slots + ms) Q (F0 m (pc + 3) ls rest)) : W p l e R s m args below meth c H locs cells slots Q (F0 m pc ls st0) := by
  have hF := va_free hD hS hA isC hC
  refine va_callv hr hS (fun q _ h => hF q h) hF (fun u t H1 locs1 ht hvm hw hB hz hk hS1 => ?_)
  obtain ⟨hP1, hD1⟩ := hB
  rw [ht] at hP1
  obtain ⟨hP2, hD2⟩ := va_join hP hD isC isR hC hRr hnd hdis hk hF hP1 hD1
  exact kk u H1 locs1 hP2 hD2 hS1
theorem k_Gi {w1 : Nat → va_W} {r : Int32} {a : Array Value} (hr : va_Run p l e R s m args below meth c H locs cells slots mc ms (F0 m pc ls st0) rest (poGi D r w1 (va_A wc H.size) a) (va_A wc H.size)) (hP : va_P D cls ws H) (hD : va_D A0 ws) (hS : va_S A0 H0 H locs) (hA : ∀ q, H0.size ≤ q → A0 q) (isC isR : List Nat) (hC : isC.map (fun i => ws[i]?) = wc.map some) (hRr : isR.map (fun i => ws[i]?) = wr.map some) (hnd : va_nd isR = true) (hdis : ∀ i ∈ isR, i ∉ isC)
    (kk : ∀ (u : Nat) (H1 : Heap) (locs1 : List Loc), va_P D cls (wr ++ w1 u) H1 → va_D A0 (wr ++ w1 u) → va_S A0 H0 H1 locs1 → W p l e R s m args below meth c H1 locs1 (cells + mc) (slots + ms) Q (F0 m (pc + 3) ls (.int r :: rest))) : W p l e R s m args below meth c H locs cells slots Q (F0 m pc ls st0) := by
  have hF := va_free hD hS hA isC hC
  refine va_calli hr hS (fun q _ h => hF q h) hF (fun r' u t H1 locs1 ht hvm hw hB hz hk hS1 => ?_)
  obtain rfl : r' = r := hw
  obtain ⟨hP1, hD1⟩ := hB
  rw [ht] at hP1
  obtain ⟨hP2, hD2⟩ := va_join hP hD isC isR hC hRr hnd hdis hk hF hP1 hD1
  exact kk u H1 locs1 hP2 hD2 hS1
theorem k_TGi {w1 : Nat → va_W} {r : Int32} {a : Array Value} (hr : va_Run p l e R s m args below meth c H locs cells slots mc ms (F0 m pc ls st0) rest (poGi D r w1 (va_A wc H.size) a) (va_A wc H.size)) (hP : va_P D cls (X ++ pl) H) (hD : va_D A0 (X ++ pl)) (hS : va_S A0 H0 H locs) (hA : ∀ q, H0.size ≤ q → A0 q) (isC isR : List Nat) (hC : isC.map (fun i => X[i]?) = wc.map some) (hRr : isR.map (fun i => X[i]?) = wr.map some) (hnd : va_nd isR = true) (hdis : ∀ i ∈ isR, i ∉ isC)
    (kk : ∀ (u : Nat) (H1 : Heap) (locs1 : List Loc), va_P D cls ((wr ++ w1 u) ++ pl) H1 → va_D A0 ((wr ++ w1 u) ++ pl) → va_S A0 H0 H1 locs1 → W p l e R s m args below meth c H1 locs1 (cells + mc) (slots + ms) Q (F0 m (pc + 3) ls (.int r :: rest))) : W p l e R s m args below meth c H locs cells slots Q (F0 m pc ls st0) := by
  have hF := va_free hD hS hA isC (tl_map hC)
  refine va_calli hr hS (fun q _ h => hF q h) hF (fun r' u t H1 locs1 ht hvm hw hB hz hk hS1 => ?_)
  obtain rfl : r' = r := hw
  obtain ⟨hP1, hD1⟩ := hB
  rw [ht] at hP1
  obtain ⟨hP2, hD2⟩ := va_joinQ hP hD isC isR hC hRr hnd hdis hk hF hP1 hD1
  exact kk u H1 locs1 hP2 hD2 hS1
theorem k_Gr {w1 : Nat → va_W} {h : Nat} {a : Array Value} (hr : va_Run p l e R s m args below meth c H locs cells slots mc ms (F0 m pc ls st0) rest (poGr D h w1 (va_A wc H.size) a) (va_A wc H.size)) (hP : va_P D cls ws H) (hD : va_D A0 ws) (hS : va_S A0 H0 H locs) (hA : ∀ q, H0.size ≤ q → A0 q) (isC isR : List Nat) (hC : isC.map (fun i => ws[i]?) = wc.map some) (hRr : isR.map (fun i => ws[i]?) = wr.map some) (hnd : va_nd isR = true) (hdis : ∀ i ∈ isR, i ∉ isC)
    (kk : ∀ (u : Nat) (H1 : Heap) (locs1 : List Loc), va_P D cls (wr ++ w1 u) H1 → va_D A0 (wr ++ w1 u) → va_S A0 H0 H1 locs1 → W p l e R s m args below meth c H1 locs1 (cells + mc) (slots + ms) Q (F0 m (pc + 3) ls (.ref h :: rest))) : W p l e R s m args below meth c H locs cells slots Q (F0 m pc ls st0) := by
  have hF := va_free hD hS hA isC hC
  refine va_callr hr hS (fun q _ h => hF q h) hF (fun u ra t H1 locs1 ht hvm hw hB hz hk hS1 => ?_)
  obtain ⟨rfl, hP1, hD1⟩ := hB
  rw [ht] at hP1
  obtain ⟨hP2, hD2⟩ := va_join hP hD isC isR hC hRr hnd hdis hk hF hP1 hD1
  exact kk u H1 locs1 hP2 hD2 hS1
theorem k_Cp {w1 : Nat → va_W} {a : Array Value} (hr : va_Run p l e R s m args below meth c H locs cells slots mc ms (F0 m pc ls st0) rest (poCp D w1 (va_A wc H.size) a) (va_A wc H.size)) (hP : va_P D cls ws H) (hD : va_D A0 ws) (hS : va_S A0 H0 H locs) (hA : ∀ q, H0.size ≤ q → A0 q) (isC isR : List Nat) (hC : isC.map (fun i => ws[i]?) = wc.map some) (hRr : isR.map (fun i => ws[i]?) = wr.map some) (hnd : va_nd isR = true) (hdis : ∀ i ∈ isR, i ∉ isC)
    (kk : ∀ (u : Nat) (H1 : Heap) (locs1 : List Loc), va_P D cls (wr ++ w1 u) H1 → va_D A0 (wr ++ w1 u) → va_S A0 H0 H1 locs1 → W p l e R s m args below meth c H1 locs1 (cells + mc) (slots + ms) Q (F0 m (pc + 3) ls (.ref u :: rest))) : W p l e R s m args below meth c H locs cells slots Q (F0 m pc ls st0) := by
  have hF := va_free hD hS hA isC hC
  refine va_callr hr hS (fun q _ h => hF q h) hF (fun u ra t H1 locs1 ht hvm hw hB hz hk hS1 => ?_)
  obtain ⟨hP1, hD1⟩ := hB
  rw [ht] at hP1
  obtain ⟨hP2, hD2⟩ := va_join hP hD isC isR hC hRr hnd hdis hk hF hP1 hD1
  exact kk ra H1 locs1 hP2 hD2 hS1
/-- a byte put, a byte got -/
theorem ba_st (hx : p.tables.exec = Jvm.exec) (hb : c.code = cc) (hK : va_K D cls (tysA dA) s) (hP : va_P D cls ws H) (hD : va_D A ws) (hS : va_S A H0 H locs) (q0 : Nat) {a : Nat} {n : Nat} {f g : Nat → Int32} (ha : ws[q0]? = some (a, .inl (dA 2, n, .inl f))) {i x : Int32} (hin : sf_in i n = true) (hg : g = upd f i.toNatClampNeg (vp_nar .byte x)) (hw : ws.set q0 (a, .inl (dA 2, n, .inl g)) = ws') (hdg : decode cc pc = .ok (.bastore, 1))
    (kk : ∀ (H1 : Heap) (locs1 : List Loc), va_P D cls ws' H1 → va_D A ws' → va_S A H0 H1 locs1 → W p l e R s m args below meth c H1 locs1 cells slots Q (F0 m (pc + 1) ls rest)) : W p l e R s m args below meth c H locs cells slots Q (F0 m pc ls (.int x :: .int i :: .ref a :: rest)) := by
  subst hw hg
  exact va_bast hx hb hK hP hD hS q0 2 ha rfl (sf_inv hin) hdg kk
theorem ba_ld (hx : p.tables.exec = Jvm.exec) (hb : c.code = cc) (hK : va_K D cls (tysA dA) s) (hP : va_P D cls ws H) (q0 : Nat) {a : Nat} {n : Nat} {f : Nat → Int32} (ha : ws[q0]? = some (a, .inl (dA 2, n, .inl f))) {i : Int32} (hin : sf_in i n = true) (hdg : decode cc pc = .ok (.baload, 1))
    (kk : W p l e R s m args below meth c H locs cells slots Q (F0 m (pc + 1) ls (.int (f i.toNatClampNeg) :: rest))) : W p l e R s m args below meth c H locs cells slots Q (F0 m pc ls (.int i :: .ref a :: rest)) :=
  va_bald hx hb hK hP q0 2 ha rfl (sf_inv hin) hdg kk
variable {y : MethodName} {bytes : ByteArray} {maxL nL n index : Nat} {ret : Option FieldType} {rm : Room} {Qc : Array Value → State → Outcome → State → Prop} {own C owner : String} {b : Nat} {As : List Value} {cC : ClassId}
theorem gi_SU {own : String} {idx : Nat} {y : MethodName} {c : Cond} (h1 : Cond.methodLink own idx y ∈ aw) (h2 : Cond.sameMethod y.cls y.cls y.name y.desc ∈ aw) (h3 : Cond.superclass own y.cls ∈ aw) (h4 : Cond.instanceMethod y ∈ aw) (h5 : Cond.initialized y.cls ∈ aw) (h6 : c ∈ aw) : GoodIn aw (va_wsSU own idx y (wo c)) := gi_aw (fun w hw => by
  rcases List.mem_append.mp hw with h | h
  · simp only [List.mem_cons, List.not_mem_nil, or_false] at h
    rcases h with rfl | rfl | rfl | rfl | rfl <;> assumption
  · exact gi_wo h6 w h)
/-- super's method -/
theorem run_XU (hat : ClassAt s C cC) (S : CallFix p m c cc nL s args aw own) (hM : Met l y (wo (.code y bytes maxL ret)) rm (preX D dA cA (.ref b :: As) H.size wc) Qc mc ms (va_A wc H.size)) (g : GoodIn aw (va_wsSU own index y (wo (.code y bytes maxL ret)))) (hd : y.name ≠ "<init>" ∧ (parseMethodDescriptor y.desc).map (fun d => d.parameters.length) = some n)
    (hR : rm.frames + 1 ≤ R.frames ∧ 8 + (maxL + 11) + rm.locals ≤ R.locals) (hrm : rm.cells = mc ∧ rm.slots = ms) (hK : va_K D cls (tysA dA) s) (hC0 : CWX cA A0 s) (hS : va_S A0 s.heap H locs) (hA : ∀ q, s.heap.size ≤ q → A0 q) (hP : va_P D cls ws H) (hD : va_D A0 ws) (is : List Nat) (hnd : va_nd is = true) (hC : is.map (fun i => ws[i]?) = wc.map some) (hrv : rcv s H C b)
    (hn : As.length = n) (hsize : ls.size = nL) (hst : st0 = As.reverse ++ .ref b :: rest) (hW : (rest.map fun v => v.category).sum ≤ 8) (hdg : decode cc pc = .ok (.invokespecial index, 3)) (hf : cells + mc ≤ R.cells ∧ slots + ms ≤ R.slots) :
    va_Run p l e R s m args below meth c H locs cells slots mc ms (F0 m pc ls st0) rest (Qc (Value.ref b :: As).toArray) (va_A wc H.size) :=
  va_runSU hat S hM (va_cwSU n S.2.2.2.2 g rfl hrm.1 hrm.2 hd hR) ⟨preX_bl, hrv, fun U hU hW => ⟨rfl, by rw [hU], by rw [hU]; exact hP.sub is (fm_of_map hC), va_K.moved hW.alike hK, (hD.sub is hnd hC).weaken (fun _ _ _ _ => trivial), hC0.to hS hU hW (va_free hD hS hA is hC)⟩⟩ rfl hn hsize hst (lv_room hW) hdg hf
theorem run_YU (hat : ClassAt s C cC) (S : CallFix p m c cc nL s args aw own) (hM : Met l y (wo (.code y bytes maxL ret)) rm (preY D dA cA (.ref b :: As) wc) Qc 0 0 noA) (g : GoodIn aw (va_wsSU own index y (wo (.code y bytes maxL ret)))) (hd : y.name ≠ "<init>" ∧ (parseMethodDescriptor y.desc).map (fun d => d.parameters.length) = some n)
    (hR : rm.frames + 1 ≤ R.frames ∧ 8 + (maxL + 11) + rm.locals ≤ R.locals) (hrm : rm.cells = 0 ∧ rm.slots = 0) (hK : va_K D cls (tysA dA) s) (hC0 : CWX cA A0 s) (hS : va_S A0 s.heap H locs) (hP : va_P D cls ws H) (is : List Nat) (hC : is.filterMap (fun i => ws[i]?) = wc) (hrv : rcv s H C b)
    (hn : As.length = n) (hsize : ls.size = nL) (hst : st0 = As.reverse ++ .ref b :: rest) (hW : (rest.map fun v => v.category).sum ≤ 8) (hdg : decode cc pc = .ok (.invokespecial index, 3)) (hf : cells ≤ R.cells ∧ slots ≤ R.slots) :
    va_Run p l e R s m args below meth c H locs cells slots 0 0 (F0 m pc ls st0) rest (Qc (Value.ref b :: As).toArray) noA :=
  va_runSU hat S hM (va_cwSU n S.2.2.2.2 g rfl hrm.1 hrm.2 hd hR) ⟨preY_bl, hrv, fun U hU hW => ⟨rfl, by rw [hU]; exact hP.sub is hC, va_K.moved hW.alike hK, hC0.to hS hU hW (fun _ h => h.elim)⟩⟩ rfl hn hsize hst (lv_room hW) hdg hf
/-- an inherited method, its choice given beside the tables -/
theorem gi_W {own C owner : String} {idx : Nat} {y : MethodName} {c : Cond} (h1 : Cond.methodLink own idx y ∈ aw) (h2 : Cond.sameMethod y.cls owner y.name y.desc ∈ aw) (h4 : Cond.instanceMethod y ∈ aw) (h5 : Cond.initialized y.cls ∈ aw) (h6 : c ∈ aw) : GoodIn (Cond.selects C y y :: aw) (va_wsU own idx C owner y y (wo c)) := by
  have up : ∀ w ∈ aw, w ∈ Cond.selects C y y :: aw := fun w h => List.mem_cons_of_mem _ h
  intro w hw
  have hg : (w ∈ aw) ∨ w = Cond.selects C y y := by
    rcases List.mem_append.mp hw with h | h
    · simp only [List.mem_cons, List.not_mem_nil, or_false] at h
      rcases h with rfl | rfl | rfl | rfl | rfl
      · exact Or.inl h1
      · exact Or.inl h2
      · exact Or.inr rfl
      · exact Or.inl h4
      · exact Or.inl h5
    · exact Or.inl (gi_wo h6 w h)
  rcases hg with h | rfl
  · exact ⟨up w h, good_of_word (aw_good w h)⟩
  · exact ⟨List.mem_cons_self, good_of_word rfl⟩
theorem run_XW (S : CallFix p m c cc nL s args aw own) (hsl : va_Nw (.selects C y y) s) (hM : Met l y (wo (.code y bytes maxL ret)) rm (preX D dA cA (.ref b :: As) H.size wc) Qc mc ms (va_A wc H.size)) (g : GoodIn (Cond.selects C y y :: aw) (va_wsU own index C owner y y (wo (.code y bytes maxL ret)))) (hd : y = ⟨owner, y.name, y.desc⟩ ∧ owner ≠ "java/lang/invoke/MethodHandle" ∧ owner ≠ "java/lang/invoke/VarHandle" ∧ (parseMethodDescriptor y.desc).map (fun d => d.parameters.length) = some n)
    (hR : rm.frames + 1 ≤ R.frames ∧ 8 + (maxL + 11) + rm.locals ≤ R.locals) (hrm : rm.cells = mc ∧ rm.slots = ms) (hK : va_K D cls (tysA dA) s) (hC0 : CWX cA A0 s) (hS : va_S A0 s.heap H locs) (hA : ∀ q, s.heap.size ≤ q → A0 q) (hP : va_P D cls ws H) (hD : va_D A0 ws) (is : List Nat) (hnd : va_nd is = true) (hC : is.map (fun i => ws[i]?) = wc.map some) (hrv : rcv s H C b)
    (hn : As.length = n) (hsize : ls.size = nL) (hst : st0 = As.reverse ++ .ref b :: rest) (hW : (rest.map fun v => v.category).sum ≤ 8) (hdg : decode cc pc = .ok (.invokevirtual index, 3)) (hf : cells + mc ≤ R.cells ∧ slots + ms ≤ R.slots) :
    va_Run p l e R s m args below meth c H locs cells slots mc ms (F0 m pc ls st0) rest (Qc (Value.ref b :: As).toArray) (va_A wc H.size) := by
  obtain ⟨s1, s2, s3, s4, s5⟩ := S
  have s6 : ∀ w ∈ Cond.selects C y y :: aw, w.before args s = true := fun w hw => (List.mem_cons.mp hw).elim (fun e => by rw [e]; exact hsl.use rfl) (s5 w)
  exact va_runU (Ts := Cond.selects C y y :: aw) ⟨s1, s2, s3, s4, s6⟩ hM (va_cwU n s6 g rfl hrm.1 hrm.2 hd.1 hd.2 hR) ⟨preX_bl, hrv, fun U hU hW => ⟨rfl, by rw [hU], by rw [hU]; exact hP.sub is (fm_of_map hC), va_K.moved hW.alike hK, (hD.sub is hnd hC).weaken (fun _ _ _ _ => trivial), hC0.to hS hU hW (va_free hD hS hA is hC)⟩⟩ rfl hn hsize hst (lv_room hW) hdg hf
theorem run_YW (S : CallFix p m c cc nL s args aw own) (hsl : va_Nw (.selects C y y) s) (hM : Met l y (wo (.code y bytes maxL ret)) rm (preY D dA cA (.ref b :: As) wc) Qc 0 0 noA) (g : GoodIn (Cond.selects C y y :: aw) (va_wsU own index C owner y y (wo (.code y bytes maxL ret)))) (hd : y = ⟨owner, y.name, y.desc⟩ ∧ owner ≠ "java/lang/invoke/MethodHandle" ∧ owner ≠ "java/lang/invoke/VarHandle" ∧ (parseMethodDescriptor y.desc).map (fun d => d.parameters.length) = some n)
    (hR : rm.frames + 1 ≤ R.frames ∧ 8 + (maxL + 11) + rm.locals ≤ R.locals) (hrm : rm.cells = 0 ∧ rm.slots = 0) (hK : va_K D cls (tysA dA) s) (hC0 : CWX cA A0 s) (hS : va_S A0 s.heap H locs) (hP : va_P D cls ws H) (is : List Nat) (hC : is.filterMap (fun i => ws[i]?) = wc) (hrv : rcv s H C b)
    (hn : As.length = n) (hsize : ls.size = nL) (hst : st0 = As.reverse ++ .ref b :: rest) (hW : (rest.map fun v => v.category).sum ≤ 8) (hdg : decode cc pc = .ok (.invokevirtual index, 3)) (hf : cells ≤ R.cells ∧ slots ≤ R.slots) :
    va_Run p l e R s m args below meth c H locs cells slots 0 0 (F0 m pc ls st0) rest (Qc (Value.ref b :: As).toArray) noA := by
  obtain ⟨s1, s2, s3, s4, s5⟩ := S
  have s6 : ∀ w ∈ Cond.selects C y y :: aw, w.before args s = true := fun w hw => (List.mem_cons.mp hw).elim (fun e => by rw [e]; exact hsl.use rfl) (s5 w)
  exact va_runU (Ts := Cond.selects C y y :: aw) ⟨s1, s2, s3, s4, s6⟩ hM (va_cwU n s6 g rfl hrm.1 hrm.2 hd.1 hd.2 hR) ⟨preY_bl, hrv, fun U hU hW => ⟨rfl, by rw [hU]; exact hP.sub is hC, va_K.moved hW.alike hK, hC0.to hS hU hW (fun _ h => h.elim)⟩⟩ rfl hn hsize hst (lv_room hW) hdg hf
end NW
section RXS
variable {p : Program} {l : Launch} {e : Env} {R : Room} {s : State} {m : MethodId} {args : Array Value} {below : List Frame} {meth : Method} {c : Code} {H : Heap} {locs : List Loc} {cells slots : Nat}
variable {y : MethodName} {bytes cc : ByteArray} {maxL nL mc ms n index pc : Nat} {ret : Option FieldType} {rm : Room} {Qc : Array Value → State → Outcome → State → Prop} {own : String} {As rest st0 : List Value} {ls : Array Slot} {D : va_G} {dA : Nat → ClassId} {cA : Nat → Nat} {ws wc : va_W} {A0 : Nat → Prop}
theorem run_XS (S : CallFix p m c cc nL s args aw own) (hM : Met l y (wo (.code y bytes maxL ret)) rm (preX D dA cA As H.size wc) Qc mc ms (va_A wc H.size)) (g : GoodIn aw (va_wsS own index y (wo (.code y bytes maxL ret)))) (hd : y.cls ≠ "java/lang/invoke/MethodHandle" ∧ y.cls ≠ "java/lang/invoke/VarHandle" ∧ (parseMethodDescriptor y.desc).map (fun d => d.parameters.length) = some n)
    (hR : rm.frames + 1 ≤ R.frames ∧ 8 + (maxL + 11) + rm.locals ≤ R.locals) (hrm : rm.cells = mc ∧ rm.slots = ms) (hK : va_K D cls (tysA dA) s) (hC0 : CWX cA A0 s) (hS : va_S A0 s.heap H locs) (hA : ∀ q, s.heap.size ≤ q → A0 q) (hP : va_P D cls ws H) (hD : va_D A0 ws) (is : List Nat) (hnd : va_nd is = true) (hC : is.map (fun i => ws[i]?) = wc.map some)
    (hn : As.length = n) (hsize : ls.size = nL) (hst : st0 = As.reverse ++ rest) (hW : (rest.map fun v => v.category).sum ≤ 8) (hdg : decode cc pc = .ok (.invokestatic index, 3)) (hf : cells + mc ≤ R.cells ∧ slots + ms ≤ R.slots) :
    va_Run p l e R s m args below meth c H locs cells slots mc ms (F0 m pc ls st0) rest (Qc As.toArray) (va_A wc H.size) :=
  va_runS S hM (va_cwS n S.2.2.2.2 g rfl hrm.1 hrm.2 hd hR) ⟨preX_bl, fun U hU hW => ⟨rfl, by rw [hU], by rw [hU]; exact hP.sub is (fm_of_map hC), va_K.moved hW.alike hK, (hD.sub is hnd hC).weaken (fun _ _ _ _ => trivial), hC0.to hS hU hW (va_free hD hS hA is hC)⟩⟩ rfl hn hsize hst (lv_room hW) hdg hf
end RXS
def f_J8_newLength_cabcc (p0 : Int32) (p1 : Int32) (p2 : Int32) : Option Int32 :=
  sf_n ((p0 + (if p1 < p2 then p2 else p1))) (fun x_1 => sf_b (x_1 ≤ (0 : Int32)) (none) (sf_b ((2147483639 : Int32) < x_1) (none) (some x_1)))
theorem yd_J8_newLength_cabcc : yJ8_newLength_cabcc.cls = RJ8 ∧ yJ8_newLength_cabcc.cls ≠ "java/lang/invoke/MethodHandle" ∧ yJ8_newLength_cabcc.cls ≠ "java/lang/invoke/VarHandle" ∧ (parseMethodDescriptor yJ8_newLength_cabcc.desc).map (fun d => d.parameters.length) = some 3 := ⟨rfl, by decide, by decide, by decide +kernel⟩
set_option maxRecDepth 100000 in
set_option maxHeartbeats 4000000 in
theorem c_J8_newLength_cabcc (l : Launch) (D : va_G) (dA : Nat → ClassId) (cA : Nat → Nat) (p0 : Int32) (p1 : Int32) (p2 : Int32) (rr : Int32) (hf : f_J8_newLength_cabcc p0 p1 p2 = some rr) : Met l yJ8_newLength_cabcc (wo (.code yJ8_newLength_cabcc cJ8_newLength_cabcc 4 (some .int))) ({ frames := 1, cells := 0, slots := 0, locals := 80 } : Room) (preY D dA cA [.int p0, .int p1, .int p2] []) (poPi rr) 0 0 noA := by
  refine of_Y (y := yJ8_newLength_cabcc) (cc := cJ8_newLength_cabcc) (maxL := 4) (ret := (some .int)) (av := [.int p0, .int p1, .int p2]) (ws := []) (own := RJ8) (by decide) rfl (Nat.le_of_ble_eq_true rfl) ?_
  intro p e s m below meth c hx hb hr ha hown hml hlocks hP hK hX hS ls hl
  have hC := hX.1
  have hl : lv_has ls 4 [(0, .int p0), (1, .int p1), (2, .int p2)] := hl
  rw [f_J8_newLength_cabcc] at hf
  refine lv_iload_n hx hb dJ8_newLength_cabcc_0 rfl (lv_at hl 0 rfl) ?_
  refine lv_iload_n hx hb dJ8_newLength_cabcc_1 rfl (lv_at hl 1 rfl) ?_
  refine lv_iload_n hx hb dJ8_newLength_cabcc_2 rfl (lv_at hl 2 rfl) ?_
  refine mx_i hx hb ha hown hml hl.1 m_1006 m_786 m_54 m_787 ⟨Nat.le_of_ble_eq_true rfl, Nat.le_of_ble_eq_true rfl⟩ ⟨Nat.le_of_ble_eq_true rfl, Nat.le_of_ble_eq_true rfl⟩ dJ8_newLength_cabcc_3 ?_
  refine lv_iadd hx hb dJ8_newLength_cabcc_6 ?_
  obtain ⟨x_1, ex_1, hf⟩ := sf_ne hf
  refine tp_i ex_1 ?_
  refine lv_istore_n (lv' := [(3, .int x_1), (0, .int p0), (1, .int p1), (2, .int p2)]) hx hb dJ8_newLength_cabcc_7 rfl hl (by decide) rfl (fun ls hl => ?_)
  refine lv_iconst (v := 0) hx hb dJ8_newLength_cabcc_8 (by decide) ?_
  refine lv_iload_n hx hb dJ8_newLength_cabcc_9 rfl (lv_at hl 0 rfl) ?_
  refine lv_icmp_ge (tgt := 21) hx hb dJ8_newLength_cabcc_10 (by decide) (fun hc => ?_) (fun hc => ?_)
  · have hf := sf_bp hf hc
    refine lv_iload_n hx hb dJ8_newLength_cabcc_21 rfl (lv_at hl 1 rfl) ?_
    refine lv_iload_n hx hb dJ8_newLength_cabcc_22 rfl (lv_at hl 2 rfl) ?_
    cases hf
  · have hf := sf_bn hf hc
    refine lv_iload_n hx hb dJ8_newLength_cabcc_13 rfl (lv_at hl 0 rfl) ?_
    refine lv_ldc (v := 2147483639) hx hb hown (ha _ m_1007) dJ8_newLength_cabcc_14 ?_
    refine lv_icmp_gt (tgt := 21) hx hb dJ8_newLength_cabcc_16 (by decide) (fun hc => ?_) (fun hc => ?_)
    · have hf := sf_bp hf hc
      refine lv_iload_n hx hb dJ8_newLength_cabcc_21 rfl (lv_at hl 1 rfl) ?_
      refine lv_iload_n hx hb dJ8_newLength_cabcc_22 rfl (lv_at hl 2 rfl) ?_
      cases hf
    · have hf := sf_bn hf hc
      refine lv_iload_n hx hb dJ8_newLength_cabcc_19 rfl (lv_at hl 0 rfl) ?_
      exact rt_Pi hx hb hr hlocks (Option.some.inj hf) hS dJ8_newLength_cabcc_20

def f_J5_isLatin1_aae02 : Option Int32 :=
  some (1 : Int32)
theorem yd_J5_isLatin1_aae02 : yJ5_isLatin1_aae02.cls = RJ5 ∧ yJ5_isLatin1_aae02.cls ≠ "java/lang/invoke/MethodHandle" ∧ yJ5_isLatin1_aae02.cls ≠ "java/lang/invoke/VarHandle" ∧ (parseMethodDescriptor yJ5_isLatin1_aae02.desc).map (fun d => d.parameters.length) = some 0 := ⟨rfl, by decide, by decide, by decide +kernel⟩
set_option maxRecDepth 100000 in
set_option maxHeartbeats 4000000 in
theorem c_J5_isLatin1_aae02 (l : Launch) (D : va_G) (dA : Nat → ClassId) (cA : Nat → Nat) (h0 h1 : Nat) (sm : Int32) (sn : Int32) (rr : Int32) (hf : f_J5_isLatin1_aae02  = some rr) : Met l yJ5_isLatin1_aae02 (wo (.code yJ5_isLatin1_aae02 cJ5_isLatin1_aae02 1 (some .boolean))) ({ frames := 0, cells := 0, slots := 0, locals := 0 } : Room) (preY D dA cA [.ref h0] [(h0, .inr (11, [.ref h1, .int (0 : Int32), .int sm, .int sn]))]) (poPi rr) 0 0 noA := by
  refine of_Y (y := yJ5_isLatin1_aae02) (cc := cJ5_isLatin1_aae02) (maxL := 1) (ret := (some .boolean)) (av := [.ref h0]) (ws := [(h0, .inr (11, [.ref h1, .int (0 : Int32), .int sm, .int sn]))]) (own := RJ5) (by decide) rfl (Nat.le_of_ble_eq_true rfl) ?_
  intro p e s m below meth c hx hb hr ha hown hml hlocks hP hK hX hS ls hl
  have hC := hX.1
  have hl : lv_has ls 1 [(0, .ref h0)] := hl
  rw [f_J5_isLatin1_aae02] at hf
  refine va_gets hx hb hC.1.2.2.2.2.2.2.2.1 hS hown (ha _ m_308) (fun _ h => h) dJ5_isLatin1_aae02_0 ?_
  refine lv_if_eq (tgt := 17) hx hb dJ5_isLatin1_aae02_3 (by decide) (fun hc => absurd hc (by decide)) (fun hc => ?_)
  refine lv_aload_n hx hb dJ5_isLatin1_aae02_6 rfl (lv_at hl 0 rfl) ?_
  refine gt_f (C := RJ4) (T := TJ4) (N := 4) hx hb ha in_SB hown hK hP 0 rfl rfl 1 (by decide) m_318 rfl dJ5_isLatin1_aae02_7 ?_
  refine lv_if_ne (tgt := 17) hx hb dJ5_isLatin1_aae02_10 (by decide) (fun hc => absurd (by decide) hc) (fun hc => ?_)
  refine lv_iconst (v := 1) hx hb dJ5_isLatin1_aae02_13 (by decide) ?_
  refine lv_goto (tgt := 18) hx hb dJ5_isLatin1_aae02_14 (by decide) ?_
  exact rt_Pz hx hb hr hlocks (Option.some.inj hf) rfl hS dJ5_isLatin1_aae02_18

def f_J5_newCapacity_0f7a4 (sK : Nat) (p0 : Int32) : Option Int32 :=
  sf_n ((Int32.ofNat sK)) (fun x_1 => sf_n ((p0 <<< ((0 : Int32) &&& 31))) (fun x_2 => sf_n ((x_2 - x_1)) (fun x_3 => sf_c1 (f_J8_newLength_cabcc x_1 x_3 (x_1 + ((2 : Int32) <<< ((0 : Int32) &&& 31)))) (fun r_4 => sf_b (r_4 = (2147483647 : Int32)) (none) (some (r_4 >>> ((0 : Int32) &&& 31)))))))
theorem yd_J5_newCapacity_0f7a4 : yJ5_newCapacity_0f7a4.cls = RJ5 ∧ yJ5_newCapacity_0f7a4.cls ≠ "java/lang/invoke/MethodHandle" ∧ yJ5_newCapacity_0f7a4.cls ≠ "java/lang/invoke/VarHandle" ∧ (parseMethodDescriptor yJ5_newCapacity_0f7a4.desc).map (fun d => d.parameters.length) = some 1 := ⟨rfl, by decide, by decide, by decide +kernel⟩
set_option maxRecDepth 100000 in
set_option maxHeartbeats 4000000 in
theorem c_J5_newCapacity_0f7a4 (l : Launch) (D : va_G) (dA : Nat → ClassId) (cA : Nat → Nat) (h0 h1 : Nat) (sv : Nat → Int32) (sK : Nat) (sm : Int32) (sn : Int32) (p0 : Int32) (rr : Int32) (hf : f_J5_newCapacity_0f7a4 sK p0 = some rr) : Met l yJ5_newCapacity_0f7a4 (wo (.code yJ5_newCapacity_0f7a4 cJ5_newCapacity_0f7a4 6 (some .int))) ({ frames := 2, cells := 0, slots := 0, locals := 103 } : Room) (preY D dA cA [.ref h0, .int p0] [(h0, .inr (11, [.ref h1, .int (0 : Int32), .int sm, .int sn])), (h1, .inl (dA 2, sK, .inl sv))]) (poPi rr) 0 0 noA := by
  refine of_Y (y := yJ5_newCapacity_0f7a4) (cc := cJ5_newCapacity_0f7a4) (maxL := 6) (ret := (some .int)) (av := [.ref h0, .int p0]) (ws := [(h0, .inr (11, [.ref h1, .int (0 : Int32), .int sm, .int sn])), (h1, .inl (dA 2, sK, .inl sv))]) (own := RJ5) (by decide) rfl (Nat.le_of_ble_eq_true rfl) ?_
  intro p e s m below meth c hx hb hr ha hown hml hlocks hP hK hX hS ls hl
  have hC := hX.1
  have hl : lv_has ls 6 [(0, .ref h0), (1, .int p0)] := hl
  rw [f_J5_newCapacity_0f7a4] at hf
  refine lv_aload_n hx hb dJ5_newCapacity_0f7a4_0 rfl (lv_at hl 0 rfl) ?_
  refine gt_f (C := RJ4) (T := TJ4) (N := 4) hx hb ha in_SB hown hK hP 0 rfl rfl 0 (by decide) m_317 rfl dJ5_newCapacity_0f7a4_1 ?_
  refine va_alen (v := Int32.ofNat sK) hx hb hK hP 1 2 rfl rfl rfl dJ5_newCapacity_0f7a4_4 ?_
  obtain ⟨x_1, ex_1, hf⟩ := sf_ne hf
  refine tp_i ex_1 ?_
  refine lv_istore_n (lv' := [(2, .int x_1), (0, .ref h0), (1, .int p0)]) hx hb dJ5_newCapacity_0f7a4_5 rfl hl (by decide) rfl (fun ls hl => ?_)
  refine lv_iload_n hx hb dJ5_newCapacity_0f7a4_6 rfl (lv_at hl 2 rfl) ?_
  refine lv_aload_n hx hb dJ5_newCapacity_0f7a4_7 rfl (lv_at hl 1 rfl) ?_
  refine gt_f (C := RJ4) (T := TJ4) (N := 4) hx hb ha in_SB hown hK hP 0 rfl rfl 1 (by decide) m_318 rfl dJ5_newCapacity_0f7a4_8 ?_
  refine lv_ishl hx hb dJ5_newCapacity_0f7a4_11 ?_
  obtain ⟨x_2, ex_2, hf⟩ := sf_ne hf
  refine tp_i ex_2 ?_
  refine lv_istore_n (lv' := [(3, .int x_2), (2, .int x_1), (0, .ref h0), (1, .int p0)]) hx hb dJ5_newCapacity_0f7a4_12 rfl hl (by decide) rfl (fun ls hl => ?_)
  refine lv_iload_n hx hb dJ5_newCapacity_0f7a4_13 rfl (lv_at hl 0 rfl) ?_
  refine lv_iload_n hx hb dJ5_newCapacity_0f7a4_14 rfl (lv_at hl 1 rfl) ?_
  refine lv_isub hx hb dJ5_newCapacity_0f7a4_15 ?_
  obtain ⟨x_3, ex_3, hf⟩ := sf_ne hf
  refine tp_i ex_3 ?_
  refine lv_istore (lv' := [(4, .int x_3), (3, .int x_2), (2, .int x_1), (0, .ref h0), (1, .int p0)]) hx hb dJ5_newCapacity_0f7a4_16 hl (by decide) rfl (fun ls hl => ?_)
  refine lv_iload_n hx hb dJ5_newCapacity_0f7a4_18 rfl (lv_at hl 2 rfl) ?_
  refine lv_iload hx hb dJ5_newCapacity_0f7a4_19 (lv_at hl 0 rfl) ?_
  refine lv_iload_n hx hb dJ5_newCapacity_0f7a4_21 rfl (lv_at hl 2 rfl) ?_
  refine lv_iconst (v := 2) hx hb dJ5_newCapacity_0f7a4_22 (by decide) ?_
  refine lv_aload_n hx hb dJ5_newCapacity_0f7a4_23 rfl (lv_at hl 3 rfl) ?_
  refine gt_f (C := RJ4) (T := TJ4) (N := 4) hx hb ha in_SB hown hK hP 0 rfl rfl 1 (by decide) m_318 rfl dJ5_newCapacity_0f7a4_24 ?_
  refine lv_ishl hx hb dJ5_newCapacity_0f7a4_27 ?_
  refine lv_iadd hx hb dJ5_newCapacity_0f7a4_28 ?_
  obtain ⟨r_4, hc4, hf⟩ := sf_c1e hf
  refine k_Pi (run_YS (As := [.int x_1, .int x_3, .int (x_1 + ((2 : Int32) <<< ((0 : Int32) &&& 31)))]) (rest := []) ⟨hx, hb, hml, hown, ha⟩ (c_J8_newLength_cabcc l D dA cA     x_1 x_3 (x_1 + ((2 : Int32) <<< ((0 : Int32) &&& 31))) _  hc4) (gi_S2 m_1003 m_1004 m_58 m_1005) (yd_J8_newLength_cabcc).2 ⟨Nat.le_of_ble_eq_true rfl, Nat.le_of_ble_eq_true rfl⟩ ⟨rfl, rfl⟩ hK hX hS hP [] rfl rfl hl.1 rfl (Nat.le_of_ble_eq_true rfl) dJ5_newCapacity_0f7a4_29 ⟨Nat.le_of_ble_eq_true rfl, Nat.le_of_ble_eq_true rfl⟩) hP hS (fun H locs hP hS => ?_)
  refine lv_istore (lv' := [(5, .int r_4), (4, .int x_3), (3, .int x_2), (2, .int x_1), (0, .ref h0), (1, .int p0)]) hx hb dJ5_newCapacity_0f7a4_32 hl (by decide) rfl (fun ls hl => ?_)
  refine lv_iload hx hb dJ5_newCapacity_0f7a4_34 (lv_at hl 0 rfl) ?_
  refine lv_ldc (v := 2147483647) hx hb hown (ha _ m_1011) dJ5_newCapacity_0f7a4_36 ?_
  refine lv_icmp_ne (tgt := 51) hx hb dJ5_newCapacity_0f7a4_38 (by decide) (fun hc => ?_) (fun hc => ?_)
  · have hf := sf_bn hf hc
    refine lv_iload hx hb dJ5_newCapacity_0f7a4_51 (lv_at hl 0 rfl) ?_
    refine lv_aload_n hx hb dJ5_newCapacity_0f7a4_53 rfl (lv_at hl 4 rfl) ?_
    refine gt_f (C := RJ4) (T := TJ4) (N := 4) hx hb ha in_SB hown hK hP 0 rfl rfl 1 (by decide) m_318 rfl dJ5_newCapacity_0f7a4_54 ?_
    refine lv_ishr hx hb dJ5_newCapacity_0f7a4_57 ?_
    exact rt_Pi hx hb hr hlocks (Option.some.inj hf) hS dJ5_newCapacity_0f7a4_58
  · have hf := sf_bp hf hc
    cases hf

def f_J1_canEncode_fc78d (p0 : Int32) : Option Int32 :=
  sf_b ((255 : Int32) < p0) (some (0 : Int32)) (some (1 : Int32))
theorem yd_J1_canEncode_fc78d : yJ1_canEncode_fc78d.cls = RJ1 ∧ yJ1_canEncode_fc78d.cls ≠ "java/lang/invoke/MethodHandle" ∧ yJ1_canEncode_fc78d.cls ≠ "java/lang/invoke/VarHandle" ∧ (parseMethodDescriptor yJ1_canEncode_fc78d.desc).map (fun d => d.parameters.length) = some 1 := ⟨rfl, by decide, by decide, by decide +kernel⟩
set_option maxRecDepth 100000 in
set_option maxHeartbeats 4000000 in
theorem c_J1_canEncode_fc78d (l : Launch) (D : va_G) (dA : Nat → ClassId) (cA : Nat → Nat) (p0 : Int32) (rr : Int32) (hf : f_J1_canEncode_fc78d p0 = some rr) : Met l yJ1_canEncode_fc78d (wo (.code yJ1_canEncode_fc78d cJ1_canEncode_fc78d 1 (some .boolean))) ({ frames := 0, cells := 0, slots := 0, locals := 0 } : Room) (preY D dA cA [.int p0] []) (poPi rr) 0 0 noA := by
  refine of_Y (y := yJ1_canEncode_fc78d) (cc := cJ1_canEncode_fc78d) (maxL := 1) (ret := (some .boolean)) (av := [.int p0]) (ws := []) (own := RJ1) (by decide) rfl (Nat.le_of_ble_eq_true rfl) ?_
  intro p e s m below meth c hx hb hr ha hown hml hlocks hP hK hX hS ls hl
  have hC := hX.1
  have hl : lv_has ls 1 [(0, .int p0)] := hl
  rw [f_J1_canEncode_fc78d] at hf
  refine lv_iload_n hx hb dJ1_canEncode_fc78d_0 rfl (lv_at hl 0 rfl) ?_
  refine lv_sipush (v := 255) hx hb dJ1_canEncode_fc78d_1 (by decide) ?_
  refine lv_icmp_gt (tgt := 11) hx hb dJ1_canEncode_fc78d_4 (by decide) (fun hc => ?_) (fun hc => ?_)
  · have hf := sf_bp hf hc
    refine lv_iconst (v := 0) hx hb dJ1_canEncode_fc78d_11 (by decide) ?_
    exact rt_Pz hx hb hr hlocks (Option.some.inj hf) rfl hS dJ1_canEncode_fc78d_12
  · have hf := sf_bn hf hc
    refine lv_iconst (v := 1) hx hb dJ1_canEncode_fc78d_7 (by decide) ?_
    refine lv_goto (tgt := 12) hx hb dJ1_canEncode_fc78d_8 (by decide) ?_
    exact rt_Pz hx hb hr hlocks (Option.some.inj hf) rfl hS dJ1_canEncode_fc78d_12

def f_J6_stringSize_0f7a4_L16 (p0 : Int32) (k : Unit → Option Int32) : Nat → Int32 → Int32 → Option Int32
  | 0, _, _ => none
  | n + 1, v_1, v_2 => sf_b ((10 : Int32) ≤ v_1) (k ()) (sf_b (p0 ≤ v_2) (sf_n (((10 : Int32) * v_2)) (fun x_3 => sf_n (v_1 + (1 : Int32)) (fun x_4 => f_J6_stringSize_0f7a4_L16 p0 k n x_4 x_3))) (some (v_1 + (1 : Int32))))
def f_J6_stringSize_0f7a4_L16_1 (x_5 : Int32) (k : Unit → Option Int32) : Nat → Int32 → Int32 → Option Int32
  | 0, _, _ => none
  | n + 1, v_6, v_7 => sf_b ((10 : Int32) ≤ v_6) (k ()) (sf_b (x_5 ≤ v_7) (sf_n (((10 : Int32) * v_7)) (fun x_8 => sf_n (v_6 + (1 : Int32)) (fun x_9 => f_J6_stringSize_0f7a4_L16_1 x_5 k n x_9 x_8))) (some (v_6 + (0 : Int32))))
def f_J6_stringSize_0f7a4 (p0 : Int32) : Option Int32 :=
  sf_b (p0 < (0 : Int32)) (f_J6_stringSize_0f7a4_L16 p0 (fun _ => some ((10 : Int32) + (1 : Int32))) 2000 (1 : Int32) (-10 : Int32)) (sf_n ((-p0)) (fun x_5 => f_J6_stringSize_0f7a4_L16_1 x_5 (fun _ => some ((10 : Int32) + (0 : Int32))) 2000 (1 : Int32) (-10 : Int32)))
theorem yd_J6_stringSize_0f7a4 : yJ6_stringSize_0f7a4.cls = RJ6 ∧ yJ6_stringSize_0f7a4.cls ≠ "java/lang/invoke/MethodHandle" ∧ yJ6_stringSize_0f7a4.cls ≠ "java/lang/invoke/VarHandle" ∧ (parseMethodDescriptor yJ6_stringSize_0f7a4.desc).map (fun d => d.parameters.length) = some 1 := ⟨rfl, by decide, by decide, by decide +kernel⟩
set_option maxRecDepth 100000 in
set_option maxHeartbeats 4000000 in
theorem c_J6_stringSize_0f7a4 (l : Launch) (D : va_G) (dA : Nat → ClassId) (cA : Nat → Nat) (p0 : Int32) (rr : Int32) (hf : f_J6_stringSize_0f7a4 p0 = some rr) : Met l yJ6_stringSize_0f7a4 (wo (.code yJ6_stringSize_0f7a4 cJ6_stringSize_0f7a4 4 (some .int))) ({ frames := 0, cells := 0, slots := 0, locals := 0 } : Room) (preY D dA cA [.int p0] []) (poPi rr) 0 0 noA := by
  refine of_Y (y := yJ6_stringSize_0f7a4) (cc := cJ6_stringSize_0f7a4) (maxL := 4) (ret := (some .int)) (av := [.int p0]) (ws := []) (own := RJ6) (by decide) rfl (Nat.le_of_ble_eq_true rfl) ?_
  intro p e s m below meth c hx hb hr ha hown hml hlocks hP hK hX hS ls hl
  have hC := hX.1
  have hl : lv_has ls 4 [(0, .int p0)] := hl
  rw [f_J6_stringSize_0f7a4] at hf
  refine lv_iconst (v := 1) hx hb dJ6_stringSize_0f7a4_0 (by decide) ?_
  refine lv_istore_n (lv' := [(1, .int (1 : Int32)), (0, .int p0)]) hx hb dJ6_stringSize_0f7a4_1 rfl hl (by decide) rfl (fun ls hl => ?_)
  refine lv_iload_n hx hb dJ6_stringSize_0f7a4_2 rfl (lv_at hl 1 rfl) ?_
  refine lv_if_lt (tgt := 11) hx hb dJ6_stringSize_0f7a4_3 (by decide) (fun hc => ?_) (fun hc => ?_)
  · have hf := sf_bp hf hc
    refine lv_bipush (v := -10) hx hb dJ6_stringSize_0f7a4_11 (by decide) ?_
    refine lv_istore_n (lv' := [(2, .int (-10 : Int32)), (1, .int (1 : Int32)), (0, .int p0)]) hx hb dJ6_stringSize_0f7a4_13 rfl hl (by decide) rfl (fun ls hl => ?_)
    refine lv_iconst (v := 1) hx hb dJ6_stringSize_0f7a4_14 (by decide) ?_
    refine lv_istore_n (lv' := [(3, .int (1 : Int32)), (2, .int (-10 : Int32)), (1, .int (1 : Int32)), (0, .int p0)]) hx hb dJ6_stringSize_0f7a4_15 rfl hl (by decide) rfl (fun ls hl => ?_)
    have hL16 : ∀ (n : Nat) (k : Unit → Option Int32) (v_1 : Int32) (v_2 : Int32) (H : Heap) (locs : List Loc) (ls : Array Slot), va_P D cls [] H → va_S noA s.heap H locs → lv_has ls 4 [(3, .int v_1), (2, .int v_2), (1, .int (1 : Int32)), (0, .int p0)] → f_J6_stringSize_0f7a4_L16 p0 k n v_1 v_2 = some rr → (∀ (H : Heap) (locs : List Loc) (ls : Array Slot), va_P D cls [] H → va_S noA s.heap H locs → lv_has ls 4 [(1, .int (1 : Int32))] → k () = some rr → W p l e ({ frames := 0, cells := 0, slots := 0, locals := 0 } : Room) s m ([.int p0] : List Value).toArray below meth c H locs 0 0 (MQ below (poPi rr) ([.int p0] : List Value).toArray s 0 0 noA) (F0 m 42 ls [])) → W p l e ({ frames := 0, cells := 0, slots := 0, locals := 0 } : Room) s m ([.int p0] : List Value).toArray below meth c H locs 0 0 (MQ below (poPi rr) ([.int p0] : List Value).toArray s 0 0 noA) (F0 m 16 ls []) := by
      intro n k
      induction n with
      | zero =>
        intro v_1 v_2 H locs ls hP hS hl hf hk
        rw [f_J6_stringSize_0f7a4_L16] at hf
        cases hf
      | succ n ih =>
        intro v_1 v_2 H locs ls hP hS hl hf hk
        rw [f_J6_stringSize_0f7a4_L16] at hf
        refine lv_iload_n hx hb dJ6_stringSize_0f7a4_16 rfl (lv_at hl 0 rfl) ?_
        refine lv_bipush (v := 10) hx hb dJ6_stringSize_0f7a4_17 (by decide) ?_
        refine lv_icmp_ge (tgt := 42) hx hb dJ6_stringSize_0f7a4_19 (by decide) (fun hc => ?_) (fun hc => ?_)
        · have hf := sf_bp hf hc
          exact hk _ _ _ hP hS (lv_sub hl [2] rfl) hf
        · have hf := sf_bn hf hc
          refine lv_iload_n hx hb dJ6_stringSize_0f7a4_22 rfl (lv_at hl 3 rfl) ?_
          refine lv_iload_n hx hb dJ6_stringSize_0f7a4_23 rfl (lv_at hl 1 rfl) ?_
          refine lv_icmp_le (tgt := 31) hx hb dJ6_stringSize_0f7a4_24 (by decide) (fun hc => ?_) (fun hc => ?_)
          · have hf := sf_bp hf hc
            refine lv_bipush (v := 10) hx hb dJ6_stringSize_0f7a4_31 (by decide) ?_
            refine lv_iload_n hx hb dJ6_stringSize_0f7a4_33 rfl (lv_at hl 1 rfl) ?_
            refine lv_imul hx hb dJ6_stringSize_0f7a4_34 ?_
            obtain ⟨x_3, ex_3, hf⟩ := sf_ne hf
            refine tp_i ex_3 ?_
            refine lv_istore_n (lv' := [(2, .int x_3), (3, .int v_1), (1, .int (1 : Int32)), (0, .int p0)]) hx hb dJ6_stringSize_0f7a4_35 rfl hl (by decide) rfl (fun ls hl => ?_)
            obtain ⟨x_4, ex_4, hf⟩ := sf_ne hf
            refine ii_nc (lv' := [(3, .int x_4), (2, .int x_3), (1, .int (1 : Int32)), (0, .int p0)]) (k := 1) hx hb dJ6_stringSize_0f7a4_36 hl rfl ex_4 (by decide) (by decide) rfl (fun ls hl => ?_)
            refine lv_goto (tgt := 16) hx hb dJ6_stringSize_0f7a4_39 (by decide) ?_
            exact ih _ _ _ _ _ hP hS (lv_sub hl [0, 1, 2, 3] rfl) hf hk
          · have hf := sf_bn hf hc
            refine lv_iload_n hx hb dJ6_stringSize_0f7a4_27 rfl (lv_at hl 0 rfl) ?_
            refine lv_iload_n hx hb dJ6_stringSize_0f7a4_28 rfl (lv_at hl 2 rfl) ?_
            refine lv_iadd hx hb dJ6_stringSize_0f7a4_29 ?_
            exact rt_Pi hx hb hr hlocks (Option.some.inj hf) hS dJ6_stringSize_0f7a4_30
    refine hL16 _ _ _ _ _ _ _ hP hS (lv_sub hl [0, 1, 2, 3] rfl) hf (fun  H locs ls hP hS hl hf => ?_)
    refine lv_bipush (v := 10) hx hb dJ6_stringSize_0f7a4_42 (by decide) ?_
    refine lv_iload_n hx hb dJ6_stringSize_0f7a4_44 rfl (lv_at hl 0 rfl) ?_
    refine lv_iadd hx hb dJ6_stringSize_0f7a4_45 ?_
    exact rt_Pi hx hb hr hlocks (Option.some.inj hf) hS dJ6_stringSize_0f7a4_46
  · have hf := sf_bn hf hc
    refine lv_iconst (v := 0) hx hb dJ6_stringSize_0f7a4_6 (by decide) ?_
    refine lv_istore_n (lv' := [(1, .int (0 : Int32)), (0, .int p0)]) hx hb dJ6_stringSize_0f7a4_7 rfl hl (by decide) rfl (fun ls hl => ?_)
    refine lv_iload_n hx hb dJ6_stringSize_0f7a4_8 rfl (lv_at hl 1 rfl) ?_
    refine lv_ineg hx hb dJ6_stringSize_0f7a4_9 ?_
    obtain ⟨x_5, ex_5, hf⟩ := sf_ne hf
    refine tp_i ex_5 ?_
    refine lv_istore_n (lv' := [(0, .int x_5), (1, .int (0 : Int32))]) hx hb dJ6_stringSize_0f7a4_10 rfl hl (by decide) rfl (fun ls hl => ?_)
    refine lv_bipush (v := -10) hx hb dJ6_stringSize_0f7a4_11 (by decide) ?_
    refine lv_istore_n (lv' := [(2, .int (-10 : Int32)), (0, .int x_5), (1, .int (0 : Int32))]) hx hb dJ6_stringSize_0f7a4_13 rfl hl (by decide) rfl (fun ls hl => ?_)
    refine lv_iconst (v := 1) hx hb dJ6_stringSize_0f7a4_14 (by decide) ?_
    refine lv_istore_n (lv' := [(3, .int (1 : Int32)), (2, .int (-10 : Int32)), (0, .int x_5), (1, .int (0 : Int32))]) hx hb dJ6_stringSize_0f7a4_15 rfl hl (by decide) rfl (fun ls hl => ?_)
    have hL16 : ∀ (n : Nat) (k : Unit → Option Int32) (v_6 : Int32) (v_7 : Int32) (H : Heap) (locs : List Loc) (ls : Array Slot), va_P D cls [] H → va_S noA s.heap H locs → lv_has ls 4 [(3, .int v_6), (2, .int v_7), (0, .int x_5), (1, .int (0 : Int32))] → f_J6_stringSize_0f7a4_L16_1 x_5 k n v_6 v_7 = some rr → (∀ (H : Heap) (locs : List Loc) (ls : Array Slot), va_P D cls [] H → va_S noA s.heap H locs → lv_has ls 4 [(1, .int (0 : Int32))] → k () = some rr → W p l e ({ frames := 0, cells := 0, slots := 0, locals := 0 } : Room) s m ([.int p0] : List Value).toArray below meth c H locs 0 0 (MQ below (poPi rr) ([.int p0] : List Value).toArray s 0 0 noA) (F0 m 42 ls [])) → W p l e ({ frames := 0, cells := 0, slots := 0, locals := 0 } : Room) s m ([.int p0] : List Value).toArray below meth c H locs 0 0 (MQ below (poPi rr) ([.int p0] : List Value).toArray s 0 0 noA) (F0 m 16 ls []) := by
      intro n k
      induction n with
      | zero =>
        intro v_6 v_7 H locs ls hP hS hl hf hk
        rw [f_J6_stringSize_0f7a4_L16_1] at hf
        cases hf
      | succ n ih =>
        intro v_6 v_7 H locs ls hP hS hl hf hk
        rw [f_J6_stringSize_0f7a4_L16_1] at hf
        refine lv_iload_n hx hb dJ6_stringSize_0f7a4_16 rfl (lv_at hl 0 rfl) ?_
        refine lv_bipush (v := 10) hx hb dJ6_stringSize_0f7a4_17 (by decide) ?_
        refine lv_icmp_ge (tgt := 42) hx hb dJ6_stringSize_0f7a4_19 (by decide) (fun hc => ?_) (fun hc => ?_)
        · have hf := sf_bp hf hc
          exact hk _ _ _ hP hS (lv_sub hl [3] rfl) hf
        · have hf := sf_bn hf hc
          refine lv_iload_n hx hb dJ6_stringSize_0f7a4_22 rfl (lv_at hl 2 rfl) ?_
          refine lv_iload_n hx hb dJ6_stringSize_0f7a4_23 rfl (lv_at hl 1 rfl) ?_
          refine lv_icmp_le (tgt := 31) hx hb dJ6_stringSize_0f7a4_24 (by decide) (fun hc => ?_) (fun hc => ?_)
          · have hf := sf_bp hf hc
            refine lv_bipush (v := 10) hx hb dJ6_stringSize_0f7a4_31 (by decide) ?_
            refine lv_iload_n hx hb dJ6_stringSize_0f7a4_33 rfl (lv_at hl 1 rfl) ?_
            refine lv_imul hx hb dJ6_stringSize_0f7a4_34 ?_
            obtain ⟨x_8, ex_8, hf⟩ := sf_ne hf
            refine tp_i ex_8 ?_
            refine lv_istore_n (lv' := [(2, .int x_8), (3, .int v_6), (0, .int x_5), (1, .int (0 : Int32))]) hx hb dJ6_stringSize_0f7a4_35 rfl hl (by decide) rfl (fun ls hl => ?_)
            obtain ⟨x_9, ex_9, hf⟩ := sf_ne hf
            refine ii_nc (lv' := [(3, .int x_9), (2, .int x_8), (0, .int x_5), (1, .int (0 : Int32))]) (k := 1) hx hb dJ6_stringSize_0f7a4_36 hl rfl ex_9 (by decide) (by decide) rfl (fun ls hl => ?_)
            refine lv_goto (tgt := 16) hx hb dJ6_stringSize_0f7a4_39 (by decide) ?_
            exact ih _ _ _ _ _ hP hS (lv_sub hl [0, 1, 2, 3] rfl) hf hk
          · have hf := sf_bn hf hc
            refine lv_iload_n hx hb dJ6_stringSize_0f7a4_27 rfl (lv_at hl 0 rfl) ?_
            refine lv_iload_n hx hb dJ6_stringSize_0f7a4_28 rfl (lv_at hl 3 rfl) ?_
            refine lv_iadd hx hb dJ6_stringSize_0f7a4_29 ?_
            exact rt_Pi hx hb hr hlocks (Option.some.inj hf) hS dJ6_stringSize_0f7a4_30
    refine hL16 _ _ _ _ _ _ _ hP hS (lv_sub hl [0, 1, 2, 3] rfl) hf (fun  H locs ls hP hS hl hf => ?_)
    refine lv_bipush (v := 10) hx hb dJ6_stringSize_0f7a4_42 (by decide) ?_
    refine lv_iload_n hx hb dJ6_stringSize_0f7a4_44 rfl (lv_at hl 0 rfl) ?_
    refine lv_iadd hx hb dJ6_stringSize_0f7a4_45 ?_
    exact rt_Pi hx hb hr hlocks (Option.some.inj hf) hS dJ6_stringSize_0f7a4_46

def f_J6_getChars_ba4f3_L22 (sK : Nat) (k : Int32 → Int32 → (Nat → Int32) → Option (Int32 × (Nat → Int32))) : Nat → Int32 → Int32 → (Nat → Int32) → Option (Int32 × (Nat → Int32))
  | 0, _, _, _ => none
  | n + 1, v_2, v_3, w_4 => sf_b ((-100 : Int32) < v_2) (k v_2 v_3 w_4) (sf_n ((v_2 / (100 : Int32))) (fun x_5 => sf_n (((x_5 * (100 : Int32)) - v_2)) (fun x_6 => sf_n (v_3 + (-1 : Int32)) (fun x_7 => sf_g (sf_in x_6 100 = true) (sf_g (sf_in x_7 sK = true) (sf_n (upd w_4 x_7.toNatClampNeg (vp_nar .byte (dgO x_6.toNatClampNeg))) (fun a_9 => sf_n (x_7 + (-1 : Int32)) (fun x_10 => sf_g (sf_in x_6 100 = true) (sf_g (sf_in x_10 sK = true) (sf_n (upd a_9 x_10.toNatClampNeg (vp_nar .byte (dgT x_6.toNatClampNeg))) (fun a_12 => f_J6_getChars_ba4f3_L22 sK k n x_5 x_10 a_12)))))))))))
def f_J6_getChars_ba4f3_L22_1 (sK : Nat) (k : Int32 → Int32 → (Nat → Int32) → Option (Int32 × (Nat → Int32))) : Nat → Int32 → Int32 → (Nat → Int32) → Option (Int32 × (Nat → Int32))
  | 0, _, _, _ => none
  | n + 1, v_22, v_23, w_24 => sf_b ((-100 : Int32) < v_23) (k v_22 v_23 w_24) (sf_n ((v_23 / (100 : Int32))) (fun x_25 => sf_n (((x_25 * (100 : Int32)) - v_23)) (fun x_26 => sf_n (v_22 + (-1 : Int32)) (fun x_27 => sf_g (sf_in x_26 100 = true) (sf_g (sf_in x_27 sK = true) (sf_n (upd w_24 x_27.toNatClampNeg (vp_nar .byte (dgO x_26.toNatClampNeg))) (fun a_29 => sf_n (x_27 + (-1 : Int32)) (fun x_30 => sf_g (sf_in x_26 100 = true) (sf_g (sf_in x_30 sK = true) (sf_n (upd a_29 x_30.toNatClampNeg (vp_nar .byte (dgT x_26.toNatClampNeg))) (fun a_32 => f_J6_getChars_ba4f3_L22_1 sK k n x_30 x_25 a_32)))))))))))
def f_J6_getChars_ba4f3 (sv : Nat → Int32) (sK : Nat) (p0 : Int32) (p1 : Int32) : Option (Int32 × (Nat → Int32)) :=
  sf_b ((0 : Int32) ≤ p0) (sf_n ((-p0)) (fun x_1 => f_J6_getChars_ba4f3_L22 sK (fun y_13 y_14 z_15 => sf_n (y_14 + (-1 : Int32)) (fun x_16 => sf_g (sf_in (-y_13) 100 = true) (sf_g (sf_in x_16 sK = true) (sf_n (upd z_15 x_16.toNatClampNeg (vp_nar .byte (dgO (-y_13).toNatClampNeg))) (fun a_18 => sf_b ((-9 : Int32) ≤ y_13) (some (x_16, a_18)) (sf_n (x_16 + (-1 : Int32)) (fun x_19 => sf_g (sf_in (-y_13) 100 = true) (sf_g (sf_in x_19 sK = true) (sf_n (upd a_18 x_19.toNatClampNeg (vp_nar .byte (dgT (-y_13).toNatClampNeg))) (fun a_21 => some (x_19, a_21))))))))))) 2000 x_1 p1 sv)) (f_J6_getChars_ba4f3_L22_1 sK (fun y_33 y_34 z_35 => sf_n (y_33 + (-1 : Int32)) (fun x_36 => sf_g (sf_in (-y_34) 100 = true) (sf_g (sf_in x_36 sK = true) (sf_n (upd z_35 x_36.toNatClampNeg (vp_nar .byte (dgO (-y_34).toNatClampNeg))) (fun a_38 => sf_b ((-9 : Int32) ≤ y_34) (sf_n (x_36 + (-1 : Int32)) (fun x_39 => sf_g (sf_in x_39 sK = true) (sf_n (upd a_38 x_39.toNatClampNeg (vp_nar .byte (45 : Int32))) (fun a_40 => some (x_39, a_40))))) (sf_n (x_36 + (-1 : Int32)) (fun x_41 => sf_g (sf_in (-y_34) 100 = true) (sf_g (sf_in x_41 sK = true) (sf_n (upd a_38 x_41.toNatClampNeg (vp_nar .byte (dgT (-y_34).toNatClampNeg))) (fun a_43 => sf_n (x_41 + (-1 : Int32)) (fun x_44 => sf_g (sf_in x_44 sK = true) (sf_n (upd a_43 x_44.toNatClampNeg (vp_nar .byte (45 : Int32))) (fun a_45 => some (x_44, a_45)))))))))))))) 2000 p1 p0 sv)
theorem yd_J6_getChars_ba4f3 : yJ6_getChars_ba4f3.cls = RJ6 ∧ yJ6_getChars_ba4f3.cls ≠ "java/lang/invoke/MethodHandle" ∧ yJ6_getChars_ba4f3.cls ≠ "java/lang/invoke/VarHandle" ∧ (parseMethodDescriptor yJ6_getChars_ba4f3.desc).map (fun d => d.parameters.length) = some 3 := ⟨rfl, by decide, by decide, by decide +kernel⟩
set_option maxRecDepth 100000 in
set_option maxHeartbeats 4000000 in
theorem c_J6_getChars_ba4f3 (l : Launch) (D : va_G) (dA : Nat → ClassId) (cA : Nat → Nat) (h0 : Nat) (sz : Nat) (sv : Nat → Int32) (sK : Nat) (p0 : Int32) (p1 : Int32) (rr : Int32) (q_sv : Nat → Int32) (hf : f_J6_getChars_ba4f3 sv sK p0 p1 = some (rr, q_sv)) : Met l yJ6_getChars_ba4f3 (wo (.code yJ6_getChars_ba4f3 cJ6_getChars_ba4f3 7 (some .int))) ({ frames := 0, cells := 0, slots := 0, locals := 0 } : Room) (preX D dA cA [.int p0, .int p1, .ref h0] sz [(h0, .inl (dA 2, sK, .inl sv))]) (poMi D rr [(h0, .inl (dA 2, sK, .inl q_sv))] (va_A [(h0, .inl (dA 2, sK, .inl sv))] sz)) 0 0 (va_A [(h0, .inl (dA 2, sK, .inl sv))] sz) := by
  refine of_X (y := yJ6_getChars_ba4f3) (cc := cJ6_getChars_ba4f3) (maxL := 7) (ret := (some .int)) (av := [.int p0, .int p1, .ref h0]) (ws := [(h0, .inl (dA 2, sK, .inl sv))]) (sz := sz) (own := RJ6) (Qc := poMi D rr [(h0, .inl (dA 2, sK, .inl q_sv))]) (by decide) rfl (Nat.le_of_ble_eq_true rfl) ?_
  intro p e s m below meth c A hx hb hr ha hown hml hlocks hin hP hK hD hX hS hA ls hl
  have hC := hX.1
  have hl : lv_has ls 7 [(0, .int p0), (1, .int p1), (2, .ref h0)] := hl
  rw [f_J6_getChars_ba4f3] at hf
  refine lv_iload_n hx hb dJ6_getChars_ba4f3_0 rfl (lv_at hl 1 rfl) ?_
  refine lv_istore (lv' := [(5, .int p1), (0, .int p0), (1, .int p1), (2, .ref h0)]) hx hb dJ6_getChars_ba4f3_1 hl (by decide) rfl (fun ls hl => ?_)
  refine lv_iload_n hx hb dJ6_getChars_ba4f3_3 rfl (lv_at hl 1 rfl) ?_
  refine lv_if_ge (tgt := 11) hx hb dJ6_getChars_ba4f3_4 (by decide) (fun hc => ?_) (fun hc => ?_)
  · have hf := sf_bp hf hc
    refine lv_iconst (v := 0) hx hb dJ6_getChars_ba4f3_11 (by decide) ?_
    refine lv_istore (lv' := [(6, .int (0 : Int32)), (5, .int p1), (0, .int p0), (1, .int p1), (2, .ref h0)]) hx hb dJ6_getChars_ba4f3_12 hl (by decide) rfl (fun ls hl => ?_)
    refine lv_iload hx hb dJ6_getChars_ba4f3_14 (lv_at hl 0 rfl) ?_
    refine lv_if_ne (tgt := 22) hx hb dJ6_getChars_ba4f3_16 (by decide) (fun hc => absurd (by decide) hc) (fun hc => ?_)
    refine lv_iload_n hx hb dJ6_getChars_ba4f3_19 rfl (lv_at hl 2 rfl) ?_
    refine lv_ineg hx hb dJ6_getChars_ba4f3_20 ?_
    obtain ⟨x_1, ex_1, hf⟩ := sf_ne hf
    refine tp_i ex_1 ?_
    refine lv_istore_n (lv' := [(0, .int x_1), (6, .int (0 : Int32)), (5, .int p1), (1, .int p1), (2, .ref h0)]) hx hb dJ6_getChars_ba4f3_21 rfl hl (by decide) rfl (fun ls hl => ?_)
    have hL22 : ∀ (n : Nat) (k : Int32 → Int32 → (Nat → Int32) → Option (Int32 × (Nat → Int32))) (v_2 : Int32) (v_3 : Int32) (w_4 : (Nat → Int32)) (H : Heap) (locs : List Loc) (ls : Array Slot), va_P D cls [(h0, .inl (dA 2, sK, .inl w_4))] H → va_D A [(h0, .inl (dA 2, sK, .inl w_4))] → va_S A s.heap H locs → lv_has ls 7 [(0, .int v_2), (6, .int (0 : Int32)), (5, .int v_3), (2, .ref h0)] → f_J6_getChars_ba4f3_L22 sK k n v_2 v_3 w_4 = some (rr, q_sv) → (∀ (y_13 : Int32) (y_14 : Int32) (z_15 : (Nat → Int32)) (H : Heap) (locs : List Loc) (ls : Array Slot), va_P D cls [(h0, .inl (dA 2, sK, .inl z_15))] H → va_D A [(h0, .inl (dA 2, sK, .inl z_15))] → va_S A s.heap H locs → lv_has ls 7 [(0, .int y_13), (6, .int (0 : Int32)), (5, .int y_14), (2, .ref h0)] → k y_13 y_14 z_15 = some (rr, q_sv) → W p l e ({ frames := 0, cells := 0, slots := 0, locals := 0 } : Room) s m ([.int p0, .int p1, .ref h0] : List Value).toArray below meth c H locs 0 0 (MQ below (poMi D rr [(h0, .inl (dA 2, sK, .inl q_sv))] A) ([.int p0, .int p1, .ref h0] : List Value).toArray s 0 0 A) (F0 m 72 ls [])) → W p l e ({ frames := 0, cells := 0, slots := 0, locals := 0 } : Room) s m ([.int p0, .int p1, .ref h0] : List Value).toArray below meth c H locs 0 0 (MQ below (poMi D rr [(h0, .inl (dA 2, sK, .inl q_sv))] A) ([.int p0, .int p1, .ref h0] : List Value).toArray s 0 0 A) (F0 m 22 ls []) := by
      intro n k
      induction n with
      | zero =>
        intro v_2 v_3 w_4 H locs ls hP hD hS hl hf hk
        rw [f_J6_getChars_ba4f3_L22] at hf
        cases hf
      | succ n ih =>
        intro v_2 v_3 w_4 H locs ls hP hD hS hl hf hk
        rw [f_J6_getChars_ba4f3_L22] at hf
        refine lv_iload_n hx hb dJ6_getChars_ba4f3_22 rfl (lv_at hl 0 rfl) ?_
        refine lv_bipush (v := -100) hx hb dJ6_getChars_ba4f3_23 (by decide) ?_
        refine lv_icmp_gt (tgt := 72) hx hb dJ6_getChars_ba4f3_25 (by decide) (fun hc => ?_) (fun hc => ?_)
        · have hf := sf_bp hf hc
          exact hk _ _ _ _ _ _ (hP.sub [0] rfl) (hD.sub [0] (by decide) rfl) hS (lv_sub hl [0, 1, 2, 3] rfl) hf
        · have hf := sf_bn hf hc
          refine lv_iload_n hx hb dJ6_getChars_ba4f3_28 rfl (lv_at hl 0 rfl) ?_
          refine lv_bipush (v := 100) hx hb dJ6_getChars_ba4f3_29 (by decide) ?_
          refine lv_idiv hx hb dJ6_getChars_ba4f3_31 (by decide) ?_
          obtain ⟨x_5, ex_5, hf⟩ := sf_ne hf
          refine tp_i ex_5 ?_
          refine lv_istore_n (lv' := [(3, .int x_5), (0, .int v_2), (6, .int (0 : Int32)), (5, .int v_3), (2, .ref h0)]) hx hb dJ6_getChars_ba4f3_32 rfl hl (by decide) rfl (fun ls hl => ?_)
          refine lv_iload_n hx hb dJ6_getChars_ba4f3_33 rfl (lv_at hl 0 rfl) ?_
          refine lv_bipush (v := 100) hx hb dJ6_getChars_ba4f3_34 (by decide) ?_
          refine lv_imul hx hb dJ6_getChars_ba4f3_36 ?_
          refine lv_iload_n hx hb dJ6_getChars_ba4f3_37 rfl (lv_at hl 1 rfl) ?_
          refine lv_isub hx hb dJ6_getChars_ba4f3_38 ?_
          obtain ⟨x_6, ex_6, hf⟩ := sf_ne hf
          refine tp_i ex_6 ?_
          refine lv_istore (lv' := [(4, .int x_6), (3, .int x_5), (0, .int v_2), (6, .int (0 : Int32)), (5, .int v_3), (2, .ref h0)]) hx hb dJ6_getChars_ba4f3_39 hl (by decide) rfl (fun ls hl => ?_)
          refine lv_iload_n hx hb dJ6_getChars_ba4f3_41 rfl (lv_at hl 1 rfl) ?_
          refine lv_istore_n (lv' := [(0, .int x_5), (4, .int x_6), (3, .int x_5), (6, .int (0 : Int32)), (5, .int v_3), (2, .ref h0)]) hx hb dJ6_getChars_ba4f3_42 rfl hl (by decide) rfl (fun ls hl => ?_)
          refine lv_aload_n hx hb dJ6_getChars_ba4f3_43 rfl (lv_at hl 5 rfl) ?_
          obtain ⟨x_7, ex_7, hf⟩ := sf_ne hf
          refine ii_nc (lv' := [(5, .int x_7), (0, .int x_5), (4, .int x_6), (3, .int x_5), (6, .int (0 : Int32)), (2, .ref h0)]) (k := 4) hx hb dJ6_getChars_ba4f3_44 hl rfl ex_7 (by decide) (by decide) rfl (fun ls hl => ?_)
          refine lv_iload hx hb dJ6_getChars_ba4f3_47 (lv_at hl 0 rfl) ?_
          refine va_gets hx hb hX.2.2.2.2.2.1 hS hown (ha _ m_1032) (fun _ h => h) dJ6_getChars_ba4f3_49 ?_
          refine lv_iload hx hb dJ6_getChars_ba4f3_52 (lv_at hl 2 rfl) ?_
          obtain ⟨h_8, hf⟩ := sf_ge hf
          refine va_tb (v := .int (dgO x_6.toNatClampNeg)) hx hb hX.2.2.2.2.2.2.1 hS (sf_inv h_8) rfl dJ6_getChars_ba4f3_54 ?_
          obtain ⟨hi, hf⟩ := sf_ge hf
          obtain ⟨a_9, ea_9, hf⟩ := sf_ne hf
          refine ba_st (ws' := [(h0, .inl (dA 2, sK, .inl a_9))]) hx hb hK hP hD hS 0 rfl hi ea_9 rfl dJ6_getChars_ba4f3_55 (fun H locs hP hD hS => ?_)
          refine lv_aload_n hx hb dJ6_getChars_ba4f3_56 rfl (lv_at hl 5 rfl) ?_
          obtain ⟨x_10, ex_10, hf⟩ := sf_ne hf
          refine ii_nc (lv' := [(5, .int x_10), (0, .int x_5), (4, .int x_6), (3, .int x_5), (6, .int (0 : Int32)), (2, .ref h0)]) (k := 0) hx hb dJ6_getChars_ba4f3_57 hl rfl ex_10 (by decide) (by decide) rfl (fun ls hl => ?_)
          refine lv_iload hx hb dJ6_getChars_ba4f3_60 (lv_at hl 0 rfl) ?_
          refine va_gets hx hb hX.2.2.2.1 hS hown (ha _ m_1034) (fun _ h => h) dJ6_getChars_ba4f3_62 ?_
          refine lv_iload hx hb dJ6_getChars_ba4f3_65 (lv_at hl 2 rfl) ?_
          obtain ⟨h_11, hf⟩ := sf_ge hf
          refine va_tb (v := .int (dgT x_6.toNatClampNeg)) hx hb hX.2.2.2.2.1 hS (sf_inv h_11) rfl dJ6_getChars_ba4f3_67 ?_
          obtain ⟨hi, hf⟩ := sf_ge hf
          obtain ⟨a_12, ea_12, hf⟩ := sf_ne hf
          refine ba_st (ws' := [(h0, .inl (dA 2, sK, .inl a_12))]) hx hb hK hP hD hS 0 rfl hi ea_12 rfl dJ6_getChars_ba4f3_68 (fun H locs hP hD hS => ?_)
          refine lv_goto (tgt := 22) hx hb dJ6_getChars_ba4f3_69 (by decide) ?_
          exact ih _ _ _ _ _ _ (hP.sub [0] rfl) (hD.sub [0] (by decide) rfl) hS (lv_sub hl [1, 4, 0, 5] rfl) hf hk
    refine hL22 _ _ _ _ _ _ _ _ hP hD hS (lv_sub hl [0, 1, 2, 4] rfl) hf (fun y_13 y_14 z_15 H locs ls hP hD hS hl hf => ?_)
    refine lv_aload_n hx hb dJ6_getChars_ba4f3_72 rfl (lv_at hl 3 rfl) ?_
    obtain ⟨x_16, ex_16, hf⟩ := sf_ne hf
    refine ii_nc (lv' := [(5, .int x_16), (0, .int y_13), (6, .int (0 : Int32)), (2, .ref h0)]) (k := 2) hx hb dJ6_getChars_ba4f3_73 hl rfl ex_16 (by decide) (by decide) rfl (fun ls hl => ?_)
    refine lv_iload hx hb dJ6_getChars_ba4f3_76 (lv_at hl 0 rfl) ?_
    refine va_gets hx hb hX.2.2.2.2.2.1 hS hown (ha _ m_1032) (fun _ h => h) dJ6_getChars_ba4f3_78 ?_
    refine lv_iload_n hx hb dJ6_getChars_ba4f3_81 rfl (lv_at hl 1 rfl) ?_
    refine lv_ineg hx hb dJ6_getChars_ba4f3_82 ?_
    obtain ⟨h_17, hf⟩ := sf_ge hf
    refine va_tb (v := .int (dgO (-y_13).toNatClampNeg)) hx hb hX.2.2.2.2.2.2.1 hS (sf_inv h_17) rfl dJ6_getChars_ba4f3_83 ?_
    obtain ⟨hi, hf⟩ := sf_ge hf
    obtain ⟨a_18, ea_18, hf⟩ := sf_ne hf
    refine ba_st (ws' := [(h0, .inl (dA 2, sK, .inl a_18))]) hx hb hK hP hD hS 0 rfl hi ea_18 rfl dJ6_getChars_ba4f3_84 (fun H locs hP hD hS => ?_)
    refine lv_iload_n hx hb dJ6_getChars_ba4f3_85 rfl (lv_at hl 1 rfl) ?_
    refine lv_bipush (v := -9) hx hb dJ6_getChars_ba4f3_86 (by decide) ?_
    refine lv_icmp_ge (tgt := 104) hx hb dJ6_getChars_ba4f3_88 (by decide) (fun hc => ?_) (fun hc => ?_)
    · have hf := sf_bp hf hc
      refine lv_iload hx hb dJ6_getChars_ba4f3_104 (lv_at hl 2 rfl) ?_
      refine lv_if_eq (tgt := 118) hx hb dJ6_getChars_ba4f3_106 (by decide) (fun hc => ?_) (fun hc => absurd (by decide) hc)
      refine lv_iload hx hb dJ6_getChars_ba4f3_118 (lv_at hl 0 rfl) ?_
      cases hf
      exact rt_Mi hx hb hr hlocks (hP.sub [0] rfl) (hD.sub [0] (by decide) rfl) hS dJ6_getChars_ba4f3_120
    · have hf := sf_bn hf hc
      refine lv_aload_n hx hb dJ6_getChars_ba4f3_91 rfl (lv_at hl 3 rfl) ?_
      obtain ⟨x_19, ex_19, hf⟩ := sf_ne hf
      refine ii_nc (lv' := [(5, .int x_19), (0, .int y_13), (6, .int (0 : Int32)), (2, .ref h0)]) (k := 0) hx hb dJ6_getChars_ba4f3_92 hl rfl ex_19 (by decide) (by decide) rfl (fun ls hl => ?_)
      refine lv_iload hx hb dJ6_getChars_ba4f3_95 (lv_at hl 0 rfl) ?_
      refine va_gets hx hb hX.2.2.2.1 hS hown (ha _ m_1034) (fun _ h => h) dJ6_getChars_ba4f3_97 ?_
      refine lv_iload_n hx hb dJ6_getChars_ba4f3_100 rfl (lv_at hl 1 rfl) ?_
      refine lv_ineg hx hb dJ6_getChars_ba4f3_101 ?_
      obtain ⟨h_20, hf⟩ := sf_ge hf
      refine va_tb (v := .int (dgT (-y_13).toNatClampNeg)) hx hb hX.2.2.2.2.1 hS (sf_inv h_20) rfl dJ6_getChars_ba4f3_102 ?_
      obtain ⟨hi, hf⟩ := sf_ge hf
      obtain ⟨a_21, ea_21, hf⟩ := sf_ne hf
      refine ba_st (ws' := [(h0, .inl (dA 2, sK, .inl a_21))]) hx hb hK hP hD hS 0 rfl hi ea_21 rfl dJ6_getChars_ba4f3_103 (fun H locs hP hD hS => ?_)
      refine lv_iload hx hb dJ6_getChars_ba4f3_104 (lv_at hl 2 rfl) ?_
      refine lv_if_eq (tgt := 118) hx hb dJ6_getChars_ba4f3_106 (by decide) (fun hc => ?_) (fun hc => absurd (by decide) hc)
      refine lv_iload hx hb dJ6_getChars_ba4f3_118 (lv_at hl 0 rfl) ?_
      cases hf
      exact rt_Mi hx hb hr hlocks (hP.sub [0] rfl) (hD.sub [0] (by decide) rfl) hS dJ6_getChars_ba4f3_120
  · have hf := sf_bn hf hc
    refine lv_iconst (v := 1) hx hb dJ6_getChars_ba4f3_7 (by decide) ?_
    refine lv_goto (tgt := 12) hx hb dJ6_getChars_ba4f3_8 (by decide) ?_
    refine lv_istore (lv' := [(6, .int (1 : Int32)), (5, .int p1), (0, .int p0), (1, .int p1), (2, .ref h0)]) hx hb dJ6_getChars_ba4f3_12 hl (by decide) rfl (fun ls hl => ?_)
    refine lv_iload hx hb dJ6_getChars_ba4f3_14 (lv_at hl 0 rfl) ?_
    refine lv_if_ne (tgt := 22) hx hb dJ6_getChars_ba4f3_16 (by decide) (fun hc => ?_) (fun hc => absurd hc (by decide))
    have hL22 : ∀ (n : Nat) (k : Int32 → Int32 → (Nat → Int32) → Option (Int32 × (Nat → Int32))) (v_22 : Int32) (v_23 : Int32) (w_24 : (Nat → Int32)) (H : Heap) (locs : List Loc) (ls : Array Slot), va_P D cls [(h0, .inl (dA 2, sK, .inl w_24))] H → va_D A [(h0, .inl (dA 2, sK, .inl w_24))] → va_S A s.heap H locs → lv_has ls 7 [(6, .int (1 : Int32)), (5, .int v_22), (0, .int v_23), (2, .ref h0)] → f_J6_getChars_ba4f3_L22_1 sK k n v_22 v_23 w_24 = some (rr, q_sv) → (∀ (y_33 : Int32) (y_34 : Int32) (z_35 : (Nat → Int32)) (H : Heap) (locs : List Loc) (ls : Array Slot), va_P D cls [(h0, .inl (dA 2, sK, .inl z_35))] H → va_D A [(h0, .inl (dA 2, sK, .inl z_35))] → va_S A s.heap H locs → lv_has ls 7 [(6, .int (1 : Int32)), (5, .int y_33), (0, .int y_34), (2, .ref h0)] → k y_33 y_34 z_35 = some (rr, q_sv) → W p l e ({ frames := 0, cells := 0, slots := 0, locals := 0 } : Room) s m ([.int p0, .int p1, .ref h0] : List Value).toArray below meth c H locs 0 0 (MQ below (poMi D rr [(h0, .inl (dA 2, sK, .inl q_sv))] A) ([.int p0, .int p1, .ref h0] : List Value).toArray s 0 0 A) (F0 m 72 ls [])) → W p l e ({ frames := 0, cells := 0, slots := 0, locals := 0 } : Room) s m ([.int p0, .int p1, .ref h0] : List Value).toArray below meth c H locs 0 0 (MQ below (poMi D rr [(h0, .inl (dA 2, sK, .inl q_sv))] A) ([.int p0, .int p1, .ref h0] : List Value).toArray s 0 0 A) (F0 m 22 ls []) := by
      intro n k
      induction n with
      | zero =>
        intro v_22 v_23 w_24 H locs ls hP hD hS hl hf hk
        rw [f_J6_getChars_ba4f3_L22_1] at hf
        cases hf
      | succ n ih =>
        intro v_22 v_23 w_24 H locs ls hP hD hS hl hf hk
        rw [f_J6_getChars_ba4f3_L22_1] at hf
        refine lv_iload_n hx hb dJ6_getChars_ba4f3_22 rfl (lv_at hl 2 rfl) ?_
        refine lv_bipush (v := -100) hx hb dJ6_getChars_ba4f3_23 (by decide) ?_
        refine lv_icmp_gt (tgt := 72) hx hb dJ6_getChars_ba4f3_25 (by decide) (fun hc => ?_) (fun hc => ?_)
        · have hf := sf_bp hf hc
          exact hk _ _ _ _ _ _ (hP.sub [0] rfl) (hD.sub [0] (by decide) rfl) hS (lv_sub hl [0, 1, 2, 3] rfl) hf
        · have hf := sf_bn hf hc
          refine lv_iload_n hx hb dJ6_getChars_ba4f3_28 rfl (lv_at hl 2 rfl) ?_
          refine lv_bipush (v := 100) hx hb dJ6_getChars_ba4f3_29 (by decide) ?_
          refine lv_idiv hx hb dJ6_getChars_ba4f3_31 (by decide) ?_
          obtain ⟨x_25, ex_25, hf⟩ := sf_ne hf
          refine tp_i ex_25 ?_
          refine lv_istore_n (lv' := [(3, .int x_25), (6, .int (1 : Int32)), (5, .int v_22), (0, .int v_23), (2, .ref h0)]) hx hb dJ6_getChars_ba4f3_32 rfl hl (by decide) rfl (fun ls hl => ?_)
          refine lv_iload_n hx hb dJ6_getChars_ba4f3_33 rfl (lv_at hl 0 rfl) ?_
          refine lv_bipush (v := 100) hx hb dJ6_getChars_ba4f3_34 (by decide) ?_
          refine lv_imul hx hb dJ6_getChars_ba4f3_36 ?_
          refine lv_iload_n hx hb dJ6_getChars_ba4f3_37 rfl (lv_at hl 3 rfl) ?_
          refine lv_isub hx hb dJ6_getChars_ba4f3_38 ?_
          obtain ⟨x_26, ex_26, hf⟩ := sf_ne hf
          refine tp_i ex_26 ?_
          refine lv_istore (lv' := [(4, .int x_26), (3, .int x_25), (6, .int (1 : Int32)), (5, .int v_22), (0, .int v_23), (2, .ref h0)]) hx hb dJ6_getChars_ba4f3_39 hl (by decide) rfl (fun ls hl => ?_)
          refine lv_iload_n hx hb dJ6_getChars_ba4f3_41 rfl (lv_at hl 1 rfl) ?_
          refine lv_istore_n (lv' := [(0, .int x_25), (4, .int x_26), (3, .int x_25), (6, .int (1 : Int32)), (5, .int v_22), (2, .ref h0)]) hx hb dJ6_getChars_ba4f3_42 rfl hl (by decide) rfl (fun ls hl => ?_)
          refine lv_aload_n hx hb dJ6_getChars_ba4f3_43 rfl (lv_at hl 5 rfl) ?_
          obtain ⟨x_27, ex_27, hf⟩ := sf_ne hf
          refine ii_nc (lv' := [(5, .int x_27), (0, .int x_25), (4, .int x_26), (3, .int x_25), (6, .int (1 : Int32)), (2, .ref h0)]) (k := 4) hx hb dJ6_getChars_ba4f3_44 hl rfl ex_27 (by decide) (by decide) rfl (fun ls hl => ?_)
          refine lv_iload hx hb dJ6_getChars_ba4f3_47 (lv_at hl 0 rfl) ?_
          refine va_gets hx hb hX.2.2.2.2.2.1 hS hown (ha _ m_1032) (fun _ h => h) dJ6_getChars_ba4f3_49 ?_
          refine lv_iload hx hb dJ6_getChars_ba4f3_52 (lv_at hl 2 rfl) ?_
          obtain ⟨h_28, hf⟩ := sf_ge hf
          refine va_tb (v := .int (dgO x_26.toNatClampNeg)) hx hb hX.2.2.2.2.2.2.1 hS (sf_inv h_28) rfl dJ6_getChars_ba4f3_54 ?_
          obtain ⟨hi, hf⟩ := sf_ge hf
          obtain ⟨a_29, ea_29, hf⟩ := sf_ne hf
          refine ba_st (ws' := [(h0, .inl (dA 2, sK, .inl a_29))]) hx hb hK hP hD hS 0 rfl hi ea_29 rfl dJ6_getChars_ba4f3_55 (fun H locs hP hD hS => ?_)
          refine lv_aload_n hx hb dJ6_getChars_ba4f3_56 rfl (lv_at hl 5 rfl) ?_
          obtain ⟨x_30, ex_30, hf⟩ := sf_ne hf
          refine ii_nc (lv' := [(5, .int x_30), (0, .int x_25), (4, .int x_26), (3, .int x_25), (6, .int (1 : Int32)), (2, .ref h0)]) (k := 0) hx hb dJ6_getChars_ba4f3_57 hl rfl ex_30 (by decide) (by decide) rfl (fun ls hl => ?_)
          refine lv_iload hx hb dJ6_getChars_ba4f3_60 (lv_at hl 0 rfl) ?_
          refine va_gets hx hb hX.2.2.2.1 hS hown (ha _ m_1034) (fun _ h => h) dJ6_getChars_ba4f3_62 ?_
          refine lv_iload hx hb dJ6_getChars_ba4f3_65 (lv_at hl 2 rfl) ?_
          obtain ⟨h_31, hf⟩ := sf_ge hf
          refine va_tb (v := .int (dgT x_26.toNatClampNeg)) hx hb hX.2.2.2.2.1 hS (sf_inv h_31) rfl dJ6_getChars_ba4f3_67 ?_
          obtain ⟨hi, hf⟩ := sf_ge hf
          obtain ⟨a_32, ea_32, hf⟩ := sf_ne hf
          refine ba_st (ws' := [(h0, .inl (dA 2, sK, .inl a_32))]) hx hb hK hP hD hS 0 rfl hi ea_32 rfl dJ6_getChars_ba4f3_68 (fun H locs hP hD hS => ?_)
          refine lv_goto (tgt := 22) hx hb dJ6_getChars_ba4f3_69 (by decide) ?_
          exact ih _ _ _ _ _ _ (hP.sub [0] rfl) (hD.sub [0] (by decide) rfl) hS (lv_sub hl [4, 0, 1, 5] rfl) hf hk
    refine hL22 _ _ _ _ _ _ _ _ hP hD hS (lv_sub hl [0, 1, 2, 4] rfl) hf (fun y_33 y_34 z_35 H locs ls hP hD hS hl hf => ?_)
    refine lv_aload_n hx hb dJ6_getChars_ba4f3_72 rfl (lv_at hl 3 rfl) ?_
    obtain ⟨x_36, ex_36, hf⟩ := sf_ne hf
    refine ii_nc (lv' := [(5, .int x_36), (6, .int (1 : Int32)), (0, .int y_34), (2, .ref h0)]) (k := 1) hx hb dJ6_getChars_ba4f3_73 hl rfl ex_36 (by decide) (by decide) rfl (fun ls hl => ?_)
    refine lv_iload hx hb dJ6_getChars_ba4f3_76 (lv_at hl 0 rfl) ?_
    refine va_gets hx hb hX.2.2.2.2.2.1 hS hown (ha _ m_1032) (fun _ h => h) dJ6_getChars_ba4f3_78 ?_
    refine lv_iload_n hx hb dJ6_getChars_ba4f3_81 rfl (lv_at hl 2 rfl) ?_
    refine lv_ineg hx hb dJ6_getChars_ba4f3_82 ?_
    obtain ⟨h_37, hf⟩ := sf_ge hf
    refine va_tb (v := .int (dgO (-y_34).toNatClampNeg)) hx hb hX.2.2.2.2.2.2.1 hS (sf_inv h_37) rfl dJ6_getChars_ba4f3_83 ?_
    obtain ⟨hi, hf⟩ := sf_ge hf
    obtain ⟨a_38, ea_38, hf⟩ := sf_ne hf
    refine ba_st (ws' := [(h0, .inl (dA 2, sK, .inl a_38))]) hx hb hK hP hD hS 0 rfl hi ea_38 rfl dJ6_getChars_ba4f3_84 (fun H locs hP hD hS => ?_)
    refine lv_iload_n hx hb dJ6_getChars_ba4f3_85 rfl (lv_at hl 2 rfl) ?_
    refine lv_bipush (v := -9) hx hb dJ6_getChars_ba4f3_86 (by decide) ?_
    refine lv_icmp_ge (tgt := 104) hx hb dJ6_getChars_ba4f3_88 (by decide) (fun hc => ?_) (fun hc => ?_)
    · have hf := sf_bp hf hc
      refine lv_iload hx hb dJ6_getChars_ba4f3_104 (lv_at hl 1 rfl) ?_
      refine lv_if_eq (tgt := 118) hx hb dJ6_getChars_ba4f3_106 (by decide) (fun hc => absurd hc (by decide)) (fun hc => ?_)
      refine lv_aload_n hx hb dJ6_getChars_ba4f3_109 rfl (lv_at hl 3 rfl) ?_
      obtain ⟨x_39, ex_39, hf⟩ := sf_ne hf
      refine ii_nc (lv' := [(5, .int x_39), (6, .int (1 : Int32)), (0, .int y_34), (2, .ref h0)]) (k := 0) hx hb dJ6_getChars_ba4f3_110 hl rfl ex_39 (by decide) (by decide) rfl (fun ls hl => ?_)
      refine lv_iload hx hb dJ6_getChars_ba4f3_113 (lv_at hl 0 rfl) ?_
      refine lv_bipush (v := 45) hx hb dJ6_getChars_ba4f3_115 (by decide) ?_
      obtain ⟨hi, hf⟩ := sf_ge hf
      obtain ⟨a_40, ea_40, hf⟩ := sf_ne hf
      refine ba_st (ws' := [(h0, .inl (dA 2, sK, .inl a_40))]) hx hb hK hP hD hS 0 rfl hi ea_40 rfl dJ6_getChars_ba4f3_117 (fun H locs hP hD hS => ?_)
      refine lv_iload hx hb dJ6_getChars_ba4f3_118 (lv_at hl 0 rfl) ?_
      cases hf
      exact rt_Mi hx hb hr hlocks (hP.sub [0] rfl) (hD.sub [0] (by decide) rfl) hS dJ6_getChars_ba4f3_120
    · have hf := sf_bn hf hc
      refine lv_aload_n hx hb dJ6_getChars_ba4f3_91 rfl (lv_at hl 3 rfl) ?_
      obtain ⟨x_41, ex_41, hf⟩ := sf_ne hf
      refine ii_nc (lv' := [(5, .int x_41), (6, .int (1 : Int32)), (0, .int y_34), (2, .ref h0)]) (k := 0) hx hb dJ6_getChars_ba4f3_92 hl rfl ex_41 (by decide) (by decide) rfl (fun ls hl => ?_)
      refine lv_iload hx hb dJ6_getChars_ba4f3_95 (lv_at hl 0 rfl) ?_
      refine va_gets hx hb hX.2.2.2.1 hS hown (ha _ m_1034) (fun _ h => h) dJ6_getChars_ba4f3_97 ?_
      refine lv_iload_n hx hb dJ6_getChars_ba4f3_100 rfl (lv_at hl 2 rfl) ?_
      refine lv_ineg hx hb dJ6_getChars_ba4f3_101 ?_
      obtain ⟨h_42, hf⟩ := sf_ge hf
      refine va_tb (v := .int (dgT (-y_34).toNatClampNeg)) hx hb hX.2.2.2.2.1 hS (sf_inv h_42) rfl dJ6_getChars_ba4f3_102 ?_
      obtain ⟨hi, hf⟩ := sf_ge hf
      obtain ⟨a_43, ea_43, hf⟩ := sf_ne hf
      refine ba_st (ws' := [(h0, .inl (dA 2, sK, .inl a_43))]) hx hb hK hP hD hS 0 rfl hi ea_43 rfl dJ6_getChars_ba4f3_103 (fun H locs hP hD hS => ?_)
      refine lv_iload hx hb dJ6_getChars_ba4f3_104 (lv_at hl 1 rfl) ?_
      refine lv_if_eq (tgt := 118) hx hb dJ6_getChars_ba4f3_106 (by decide) (fun hc => absurd hc (by decide)) (fun hc => ?_)
      refine lv_aload_n hx hb dJ6_getChars_ba4f3_109 rfl (lv_at hl 3 rfl) ?_
      obtain ⟨x_44, ex_44, hf⟩ := sf_ne hf
      refine ii_nc (lv' := [(5, .int x_44), (6, .int (1 : Int32)), (0, .int y_34), (2, .ref h0)]) (k := 0) hx hb dJ6_getChars_ba4f3_110 hl rfl ex_44 (by decide) (by decide) rfl (fun ls hl => ?_)
      refine lv_iload hx hb dJ6_getChars_ba4f3_113 (lv_at hl 0 rfl) ?_
      refine lv_bipush (v := 45) hx hb dJ6_getChars_ba4f3_115 (by decide) ?_
      obtain ⟨hi, hf⟩ := sf_ge hf
      obtain ⟨a_45, ea_45, hf⟩ := sf_ne hf
      refine ba_st (ws' := [(h0, .inl (dA 2, sK, .inl a_45))]) hx hb hK hP hD hS 0 rfl hi ea_45 rfl dJ6_getChars_ba4f3_117 (fun H locs hP hD hS => ?_)
      refine lv_iload hx hb dJ6_getChars_ba4f3_118 (lv_at hl 0 rfl) ?_
      cases hf
      exact rt_Mi hx hb hr hlocks (hP.sub [0] rfl) (hD.sub [0] (by decide) rfl) hS dJ6_getChars_ba4f3_120

def f_J5_length_8abf5 (sn : Int32) : Option Int32 :=
  some sn
theorem yd_J5_length_8abf5 : yJ5_length_8abf5.cls = RJ5 ∧ yJ5_length_8abf5.cls ≠ "java/lang/invoke/MethodHandle" ∧ yJ5_length_8abf5.cls ≠ "java/lang/invoke/VarHandle" ∧ (parseMethodDescriptor yJ5_length_8abf5.desc).map (fun d => d.parameters.length) = some 0 := ⟨rfl, by decide, by decide, by decide +kernel⟩
set_option maxRecDepth 100000 in
set_option maxHeartbeats 4000000 in
theorem c_J5_length_8abf5 (l : Launch) (D : va_G) (dA : Nat → ClassId) (cA : Nat → Nat) (h0 h1 : Nat) (sm : Int32) (sn : Int32) (rr : Int32) (hf : f_J5_length_8abf5 sn = some rr) : Met l yJ5_length_8abf5 (wo (.code yJ5_length_8abf5 cJ5_length_8abf5 1 (some .int))) ({ frames := 0, cells := 0, slots := 0, locals := 0 } : Room) (preY D dA cA [.ref h0] [(h0, .inr (11, [.ref h1, .int (0 : Int32), .int sm, .int sn]))]) (poPi rr) 0 0 noA := by
  refine of_Y (y := yJ5_length_8abf5) (cc := cJ5_length_8abf5) (maxL := 1) (ret := (some .int)) (av := [.ref h0]) (ws := [(h0, .inr (11, [.ref h1, .int (0 : Int32), .int sm, .int sn]))]) (own := RJ5) (by decide) rfl (Nat.le_of_ble_eq_true rfl) ?_
  intro p e s m below meth c hx hb hr ha hown hml hlocks hP hK hX hS ls hl
  have hC := hX.1
  have hl : lv_has ls 1 [(0, .ref h0)] := hl
  rw [f_J5_length_8abf5] at hf
  refine lv_aload_n hx hb dJ5_length_8abf5_0 rfl (lv_at hl 0 rfl) ?_
  refine gt_f (C := RJ4) (T := TJ4) (N := 4) hx hb ha in_SB hown hK hP 0 rfl rfl 3 (by decide) m_321 rfl dJ5_length_8abf5_1 ?_
  exact rt_Pi hx hb hr hlocks (Option.some.inj hf) hS dJ5_length_8abf5_4

def f_J5_charAt_5068e (sv : Nat → Int32) (sK : Nat) (sn : Int32) (p0 : Int32) : Option Int32 :=
  sf_n ((if ((Int32.ofNat sK) >>> ((0 : Int32) &&& 31)) < sn then ((Int32.ofNat sK) >>> ((0 : Int32) &&& 31)) else sn)) (fun x_1 => sf_c0 (f_J0_checkIndex_df160 p0 x_1) (fun _ => sf_g (sf_in p0 sK = true) (sf_g ((((((sv p0.toNatClampNeg) &&& (255 : Int32)).toUInt32 % 65536).toInt32).toUInt32 % 65536).toInt32 = ((((sv p0.toNatClampNeg) &&& (255 : Int32)).toUInt32 % 65536).toInt32)) (some ((((sv p0.toNatClampNeg) &&& (255 : Int32)).toUInt32 % 65536).toInt32)))))
theorem yd_J5_charAt_5068e : yJ5_charAt_5068e.cls = RJ5 ∧ yJ5_charAt_5068e.cls ≠ "java/lang/invoke/MethodHandle" ∧ yJ5_charAt_5068e.cls ≠ "java/lang/invoke/VarHandle" ∧ (parseMethodDescriptor yJ5_charAt_5068e.desc).map (fun d => d.parameters.length) = some 1 := ⟨rfl, by decide, by decide, by decide +kernel⟩
set_option maxRecDepth 100000 in
set_option maxHeartbeats 4000000 in
theorem c_J5_charAt_5068e (l : Launch) (D : va_G) (dA : Nat → ClassId) (cA : Nat → Nat) (h0 h1 : Nat) (sv : Nat → Int32) (sK : Nat) (sm : Int32) (sn : Int32) (p0 : Int32) (rr : Int32) (hf : f_J5_charAt_5068e sv sK sn p0 = some rr) : Met l yJ5_charAt_5068e (wo (.code yJ5_charAt_5068e cJ5_charAt_5068e 5 (some .char))) ({ frames := 2, cells := 0, slots := 0, locals := 80 } : Room) (preY D dA cA [.ref h0, .int p0] [(h0, .inr (11, [.ref h1, .int (0 : Int32), .int sm, .int sn])), (h1, .inl (dA 2, sK, .inl sv))]) (poPi rr) 0 0 noA := by
  refine of_Y (y := yJ5_charAt_5068e) (cc := cJ5_charAt_5068e) (maxL := 5) (ret := (some .char)) (av := [.ref h0, .int p0]) (ws := [(h0, .inr (11, [.ref h1, .int (0 : Int32), .int sm, .int sn])), (h1, .inl (dA 2, sK, .inl sv))]) (own := RJ5) (by decide) rfl (Nat.le_of_ble_eq_true rfl) ?_
  intro p e s m below meth c hx hb hr ha hown hml hlocks hP hK hX hS ls hl
  have hC := hX.1
  have hl : lv_has ls 5 [(0, .ref h0), (1, .int p0)] := hl
  rw [f_J5_charAt_5068e] at hf
  refine lv_aload_n hx hb dJ5_charAt_5068e_0 rfl (lv_at hl 0 rfl) ?_
  refine gt_f (C := RJ4) (T := TJ4) (N := 4) hx hb ha in_SB hown hK hP 0 rfl rfl 1 (by decide) m_318 rfl dJ5_charAt_5068e_1 ?_
  refine lv_istore_n (lv' := [(2, .int (0 : Int32)), (0, .ref h0), (1, .int p0)]) hx hb dJ5_charAt_5068e_4 rfl hl (by decide) rfl (fun ls hl => ?_)
  refine lv_aload_n hx hb dJ5_charAt_5068e_5 rfl (lv_at hl 1 rfl) ?_
  refine gt_f (C := RJ4) (T := TJ4) (N := 4) hx hb ha in_SB hown hK hP 0 rfl rfl 0 (by decide) m_317 rfl dJ5_charAt_5068e_6 ?_
  refine lv_astore_n (lv' := [(3, .ref h1), (2, .int (0 : Int32)), (0, .ref h0), (1, .int p0)]) hx hb dJ5_charAt_5068e_9 rfl hl (by decide) rfl (fun ls hl => ?_)
  refine lv_aload_n hx hb dJ5_charAt_5068e_10 rfl (lv_at hl 2 rfl) ?_
  refine gt_f (C := RJ4) (T := TJ4) (N := 4) hx hb ha in_SB hown hK hP 0 rfl rfl 3 (by decide) m_321 rfl dJ5_charAt_5068e_11 ?_
  refine lv_aload_n hx hb dJ5_charAt_5068e_14 rfl (lv_at hl 0 rfl) ?_
  refine va_alen (v := Int32.ofNat sK) hx hb hK hP 1 2 rfl rfl rfl dJ5_charAt_5068e_15 ?_
  refine lv_iload_n hx hb dJ5_charAt_5068e_16 rfl (lv_at hl 1 rfl) ?_
  refine lv_ishr hx hb dJ5_charAt_5068e_17 ?_
  refine mn_i hx hb ha hown hml hl.1 m_1315 m_564 m_54 m_565 ⟨Nat.le_of_ble_eq_true rfl, Nat.le_of_ble_eq_true rfl⟩ ⟨Nat.le_of_ble_eq_true rfl, Nat.le_of_ble_eq_true rfl⟩ dJ5_charAt_5068e_18 ?_
  obtain ⟨x_1, ex_1, hf⟩ := sf_ne hf
  refine tp_i ex_1 ?_
  refine lv_istore (lv' := [(4, .int x_1), (3, .ref h1), (2, .int (0 : Int32)), (0, .ref h0), (1, .int p0)]) hx hb dJ5_charAt_5068e_21 hl (by decide) rfl (fun ls hl => ?_)
  refine lv_iload_n hx hb dJ5_charAt_5068e_23 rfl (lv_at hl 4 rfl) ?_
  refine lv_iload hx hb dJ5_charAt_5068e_24 (lv_at hl 0 rfl) ?_
  obtain ⟨hc1, hf⟩ := sf_c0e hf
  refine k_Pv (run_QS (As := [.int p0, .int x_1]) (rest := []) ⟨hx, hb, hml, hown, ha⟩ (c_J0_checkIndex_df160 l D dA cA     p0 x_1   hc1) (gi_S2 m_1316 m_1285 m_43 m_1286) (yd_J0_checkIndex_df160).2 ⟨Nat.le_of_ble_eq_true rfl, Nat.le_of_ble_eq_true rfl⟩ ⟨rfl, rfl⟩ hK hC hS hP [] rfl rfl hl.1 rfl (Nat.le_of_ble_eq_true rfl) dJ5_charAt_5068e_26 ⟨Nat.le_of_ble_eq_true rfl, Nat.le_of_ble_eq_true rfl⟩) hP hS (fun H locs hP hS => ?_)
  refine lv_iload_n hx hb dJ5_charAt_5068e_29 rfl (lv_at hl 2 rfl) ?_
  refine lv_if_ne (tgt := 42) hx hb dJ5_charAt_5068e_30 (by decide) (fun hc => absurd (by decide) hc) (fun hc => ?_)
  refine lv_aload_n hx hb dJ5_charAt_5068e_33 rfl (lv_at hl 1 rfl) ?_
  refine lv_iload_n hx hb dJ5_charAt_5068e_34 rfl (lv_at hl 4 rfl) ?_
  obtain ⟨hi, hf⟩ := sf_ge hf
  refine ba_ld hx hb hK hP 1 rfl hi dJ5_charAt_5068e_35 ?_
  refine lv_sipush (v := 255) hx hb dJ5_charAt_5068e_36 (by decide) ?_
  refine lv_iand hx hb dJ5_charAt_5068e_39 ?_
  refine lv_i2c hx hb dJ5_charAt_5068e_40 rfl ?_
  obtain ⟨hz, hf⟩ := sf_ge hf
  exact rt_Pz hx hb hr hlocks (Option.some.inj hf) (sf_ch hz) hS dJ5_charAt_5068e_41

def f_J7_copyOf (sv : Nat → Int32) (sK : Nat) (p0 : Int32) : Option (Nat → Int32) :=
  sf_g ((¬ p0 = Int32.ofNat sK ∧ ¬ p0 < 0 ∧ ¬ p0 < Int32.ofNat sK ∧ ¬ Int32.ofNat sK < 0 ∧ (Int32.ofNat sK).toNatClampNeg = sK ∧ sK ≤ p0.toNatClampNeg ∧ p0.toNatClampNeg ≤ 65536) ∧ ∀ i, i < sK → (sv i).toInt8.toInt32 = sv i) (some (va_cpy sv (fun _ => 0) 0 0 sK))
theorem yd_J7_copyOf : (parseMethodDescriptor yJ7_copyOf_9075b.desc).map (fun d => d.parameters.length) = some 2 := by decide +kernel
set_option maxRecDepth 100000 in
set_option maxHeartbeats 4000000 in
theorem c_J7_copyOf (l : Launch) (D : va_G) (dA : Nat → ClassId) (cA : Nat → Nat) (h0 : Nat) (sz : Nat) (sv : Nat → Int32) (sK : Nat) (p0 : Int32) (N : Nat) (hN : p0.toNatClampNeg = N) (q_sv : Nat → Int32) (hf : f_J7_copyOf sv sK p0 = some q_sv) : Met l yJ7_copyOf_9075b (wo (.code yJ7_copyOf_9075b cJ7_copyOf_9075b 3 (some (.array .byte)))) ({ frames := 1, cells := 1, slots := N, locals := 90 } : Room) (preX D dA cA [.ref h0, .int p0] sz [(h0, .inl (dA 2, sK, .inl sv))]) (poCp D (fun u => [(h0, .inl (dA 2, sK, .inl sv)), (u, .inl (dA 2, N, .inl q_sv))]) (va_A [(h0, .inl (dA 2, sK, .inl sv))] sz)) 1 N (va_A [(h0, .inl (dA 2, sK, .inl sv))] sz) := by
  obtain ⟨⟨⟨g1, g2, g3, g4, g5, g6, g7⟩, g8⟩, hf⟩ := sf_ge hf
  obtain rfl := Option.some.inj hf
  refine of_X (y := yJ7_copyOf_9075b) (cc := cJ7_copyOf_9075b) (maxL := 3) (ret := (some (.array .byte))) (av := [.ref h0, .int p0]) (ws := [(h0, .inl (dA 2, sK, .inl sv))]) (sz := sz) (own := RJ7) (Qc := poCp D _) (by decide) rfl (Nat.le_of_ble_eq_true rfl) ?_
  intro p e s m below meth c A hx hb hr ha hown hml hlocks hin hP hK hD hX hS hA ls hl
  have hl : lv_has ls 3 [(0, .ref h0), (1, .int p0)] := hl
  refine lv_iload_n hx hb dJ7_copyOf_9075b_0 rfl (lv_at hl 1 rfl) ?_
  refine lv_aload_n hx hb dJ7_copyOf_9075b_1 rfl (lv_at hl 0 rfl) ?_
  refine va_alen (v := Int32.ofNat sK) hx hb hK hP 0 2 rfl rfl rfl dJ7_copyOf_9075b_2 ?_
  refine lv_icmp_ne (tgt := 14) hx hb dJ7_copyOf_9075b_3 (by decide) (fun hc => ?_) (fun hc => absurd hc g1)
  refine lv_iload_n hx hb dJ7_copyOf_9075b_14 rfl (lv_at hl 1 rfl) ?_
  refine nw_p (atype := .byte) (a0 := (N, .inl (fun _ => 0))) hx hb (ha _ m_331) rfl hK hP hD hS hA (fun _ => rfl) g2 hN (Nat.le_trans (Nat.mul_le_mul_right _ (Nat.le_trans (Nat.le_of_eq hN.symm) g7)) (by decide)) (Nat.le_of_ble_eq_true rfl) (Nat.le_of_eq (Nat.zero_add _)) dJ7_copyOf_9075b_15 2 rfl (fun _ h => nomatch h) (fun q H hP hD hS => ?_)
  refine lv_astore_n (lv' := [(2, .ref q), (0, .ref h0), (1, .int p0)]) hx hb dJ7_copyOf_9075b_17 rfl hl (by decide) rfl (fun ls hl => ?_)
  refine lv_aload_n hx hb dJ7_copyOf_9075b_18 rfl (lv_at hl 1 rfl) ?_
  refine lv_iconst (v := 0) hx hb dJ7_copyOf_9075b_19 (by decide) ?_
  refine lv_aload_n hx hb dJ7_copyOf_9075b_20 rfl (lv_at hl 0 rfl) ?_
  refine lv_iconst (v := 0) hx hb dJ7_copyOf_9075b_21 (by decide) ?_
  refine lv_aload_n hx hb dJ7_copyOf_9075b_22 rfl (lv_at hl 1 rfl) ?_
  refine va_alen (v := Int32.ofNat sK) hx hb hK hP 0 2 rfl rfl rfl dJ7_copyOf_9075b_23 ?_
  refine lv_iload_n hx hb dJ7_copyOf_9075b_24 rfl (lv_at hl 2 rfl) ?_
  refine mn_i hx hb ha hown hml hl.1 m_1022 m_564 m_54 m_565 ⟨Nat.le_of_ble_eq_true rfl, Nat.le_of_ble_eq_true rfl⟩ ⟨Nat.le_of_ble_eq_true rfl, Nat.le_of_eq (Nat.zero_add _)⟩ dJ7_copyOf_9075b_25 ?_
  refine tp_i (z := Int32.ofNat sK) (if_neg g3).symm ?_
  refine va_copyi (own := RJ7) hx hb (hml.trans hl.1.symm) hown (ha _ m_1023) (ha _ m_387) (ha _ m_386) (ha _ m_45) hK hP hD hS 0 1 2 2 rfl rfl rfl rfl rfl (by decide) (by decide) g4 (by rw [g5]; exact Nat.le_of_eq (Nat.zero_add _)) (by rw [g5]; exact Nat.le_trans (Nat.le_of_eq (Nat.zero_add _)) (Nat.le_trans g6 (Nat.le_of_eq hN))) (fun i hi => ?_) (Nat.le_of_ble_eq_true rfl) (Nat.le_of_ble_eq_true rfl) dJ7_copyOf_9075b_28 (fun H locs hP hD hS => ?_)
  · rw [g5] at hi
    have h9 := pk_fb (sv i)
    rw [g8 i hi] at h9
    rw [show ((0 : Int32).toNatClampNeg + i) = i from Nat.zero_add i]
    exact h9
  rw [g5] at hP hD
  refine lv_aload_n hx hb dJ7_copyOf_9075b_31 rfl (lv_at hl 0 rfl) ?_
  refine W.widen (k := 1) (n := N) (by decide) (Nat.le_of_eq (Nat.zero_add _)) ?_
  exact rt_Cp hx hb hr (Or.inr ⟨_, rfl⟩) hlocks (hP.sub [0, 1] rfl) (hD.sub [0, 1] (by decide) rfl) hS dJ7_copyOf_9075b_32
def f_J5_ensure (sv : Nat → Int32) (sK : Nat) (p0 : Int32) : Option (Nat → Int32) :=
  sf_b (p0 - Int32.ofNat sK ≤ 0) (some sv) (sf_c1 (f_J5_newCapacity_0f7a4 sK p0) (fun r => sf_g (r = Int32.ofNat (sbM sK p0) ∧ r.toNatClampNeg = sbM sK p0) (f_J7_copyOf sv sK r)))
theorem yd_J5_ensure : yJ5_ensureCapacityInternal_d00df.cls = RJ5 ∧ yJ5_ensureCapacityInternal_d00df.cls ≠ "java/lang/invoke/MethodHandle" ∧ yJ5_ensureCapacityInternal_d00df.cls ≠ "java/lang/invoke/VarHandle" ∧ (parseMethodDescriptor yJ5_ensureCapacityInternal_d00df.desc).map (fun d => d.parameters.length) = some 1 := ⟨rfl, by decide, by decide, by decide +kernel⟩
set_option maxRecDepth 100000 in
set_option maxHeartbeats 4000000 in
theorem c_J5_ensure (l : Launch) (D : va_G) (dA : Nat → ClassId) (cA : Nat → Nat) (h0 h1 : Nat) (sz : Nat) (sv : Nat → Int32) (sK : Nat) (sm sn : Int32) (p0 : Int32) (q_sv : Nat → Int32) (q_sK : Nat) (hq : q_sK = sbN sK p0) (hf : f_J5_ensure sv sK p0 = some q_sv) : Met l yJ5_ensureCapacityInternal_d00df (wo (.code yJ5_ensureCapacityInternal_d00df cJ5_ensureCapacityInternal_d00df 3 none)) ({ frames := 3, cells := gcC sK q_sK, slots := gcS sK q_sK, locals := 128 } : Room) (preX D dA cA [.ref h0, .int p0] sz [(h0, .inr (11, [.ref h1, .int (0 : Int32), .int sm, .int sn])), (h1, .inl (dA 2, sK, .inl sv))]) (poGv D (fun u => [(h0, .inr (11, [.ref u, .int (0 : Int32), .int sm, .int sn])), (u, .inl (dA 2, q_sK, .inl q_sv))]) (va_A [(h0, .inr (11, [.ref h1, .int (0 : Int32), .int sm, .int sn])), (h1, .inl (dA 2, sK, .inl sv))] sz)) (gcC sK q_sK) (gcS sK q_sK) (va_A [(h0, .inr (11, [.ref h1, .int (0 : Int32), .int sm, .int sn])), (h1, .inl (dA 2, sK, .inl sv))] sz) := by
  have hcap : (p0 - Int32.ofNat sK ≤ 0 ∧ q_sK = sK) ∨ (¬ p0 - Int32.ofNat sK ≤ 0 ∧ q_sK = sbM sK p0) := by
    by_cases h : p0 - Int32.ofNat sK ≤ 0
    · exact Or.inl ⟨h, hq.trans (if_pos h)⟩
    · exact Or.inr ⟨h, hq.trans (if_neg h)⟩
  clear hq
  refine of_X (y := yJ5_ensureCapacityInternal_d00df) (cc := cJ5_ensureCapacityInternal_d00df) (maxL := 3) (ret := none) (av := [.ref h0, .int p0]) (ws := [(h0, .inr (11, [.ref h1, .int (0 : Int32), .int sm, .int sn])), (h1, .inl (dA 2, sK, .inl sv))]) (sz := sz) (own := RJ5) (Qc := poGv D _) (by decide) rfl (Nat.le_of_ble_eq_true rfl) ?_
  intro p e s m below meth c A hx hb hr ha hown hml hlocks hin hP hK hD hX hS hA ls hl
  have hl : lv_has ls 3 [(0, .ref h0), (1, .int p0)] := hl
  rw [f_J5_ensure] at hf
  refine lv_aload_n hx hb dJ5_ensureCapacityInternal_d00df_0 rfl (lv_at hl 0 rfl) ?_
  refine gt_f (C := RJ4) (T := TJ4) (N := 4) hx hb ha in_SB hown hK hP 0 rfl rfl 0 (by decide) m_317 rfl dJ5_ensureCapacityInternal_d00df_1 ?_
  refine va_alen (v := Int32.ofNat sK) hx hb hK hP 1 2 rfl rfl rfl dJ5_ensureCapacityInternal_d00df_4 ?_
  refine lv_aload_n hx hb dJ5_ensureCapacityInternal_d00df_5 rfl (lv_at hl 0 rfl) ?_
  refine gt_f (C := RJ4) (T := TJ4) (N := 4) hx hb ha in_SB hown hK hP 0 rfl rfl 1 (by decide) m_318 rfl dJ5_ensureCapacityInternal_d00df_6 ?_
  refine lv_ishr hx hb dJ5_ensureCapacityInternal_d00df_9 ?_
  refine tp_i (z := Int32.ofNat sK) (sb_shr0 _).symm ?_
  refine lv_istore_n (lv' := [(2, .int (Int32.ofNat sK)), (0, .ref h0), (1, .int p0)]) hx hb dJ5_ensureCapacityInternal_d00df_10 rfl hl (by decide) rfl (fun ls hl => ?_)
  refine lv_iload_n hx hb dJ5_ensureCapacityInternal_d00df_11 rfl (lv_at hl 2 rfl) ?_
  refine lv_iload_n hx hb dJ5_ensureCapacityInternal_d00df_12 rfl (lv_at hl 0 rfl) ?_
  refine lv_isub hx hb dJ5_ensureCapacityInternal_d00df_13 ?_
  refine lv_if_le (tgt := 38) hx hb dJ5_ensureCapacityInternal_d00df_14 (by decide) (fun hc => ?_) (fun hc => ?_)
  · obtain rfl : q_sK = sK := hcap.elim (fun h => h.2) (fun h => absurd hc h.1)
    obtain rfl := Option.some.inj (sf_bp hf hc)
    refine W.widen (k := gcC q_sK q_sK) (n := gcS q_sK q_sK) (Nat.zero_le _) (Nat.zero_le _) ?_
    exact rt_Gv (u := h1) hx hb hr hlocks (hP.sub [0, 1] rfl) (hD.sub [0, 1] (by decide) rfl) hS dJ5_ensureCapacityInternal_d00df_38
  · obtain rfl : q_sK = sbM sK p0 := hcap.elim (fun h => absurd h.1 hc) (fun h => h.2)
    have hf := sf_bn hf hc
    obtain ⟨r, hc1, hf⟩ := sf_c1e hf
    obtain ⟨⟨hr1, hr2⟩, hf⟩ := sf_ge hf
    refine lv_aload_n hx hb dJ5_ensureCapacityInternal_d00df_17 rfl (lv_at hl 1 rfl) ?_
    refine lv_aload_n hx hb dJ5_ensureCapacityInternal_d00df_18 rfl (lv_at hl 1 rfl) ?_
    refine gt_f (C := RJ4) (T := TJ4) (N := 4) hx hb ha in_SB hown hK hP 0 rfl rfl 0 (by decide) m_317 rfl dJ5_ensureCapacityInternal_d00df_19 ?_
    refine lv_aload_n hx hb dJ5_ensureCapacityInternal_d00df_22 rfl (lv_at hl 1 rfl) ?_
    refine lv_iload_n hx hb dJ5_ensureCapacityInternal_d00df_23 rfl (lv_at hl 2 rfl) ?_
    refine k_Pi (run_YW (As := [.int p0]) (rest := [.ref h1, .ref h0]) ⟨hx, hb, hml, hown, ha⟩ (hX.2.2.2.2.2.2.2.1 _ (List.mem_of_getElem? (i := 1) rfl)) (c_J5_newCapacity_0f7a4 l D dA cA h0 h1 sv sK sm sn p0 _ hc1) (gi_W (C := RJ4) (owner := RJ5) m_999 m_1637 m_1001 m_41 m_1002) ⟨rfl, by decide, by decide, (yd_J5_newCapacity_0f7a4).2.2.2⟩ ⟨Nat.le_of_ble_eq_true rfl, Nat.le_of_ble_eq_true rfl⟩ ⟨rfl, rfl⟩ hK hX hS hP [0, 1] rfl (va_recv hK hP (q0 := 0) rfl rfl) rfl hl.1 rfl (Nat.le_of_ble_eq_true rfl) dJ5_ensureCapacityInternal_d00df_24 ⟨Nat.zero_le _, Nat.zero_le _⟩) hP hS (fun H locs hP hS => ?_)
    refine lv_aload_n hx hb dJ5_ensureCapacityInternal_d00df_27 rfl (lv_at hl 1 rfl) ?_
    refine gt_f (C := RJ4) (T := TJ4) (N := 4) hx hb ha in_SB hown hK hP 0 rfl rfl 1 (by decide) m_318 rfl dJ5_ensureCapacityInternal_d00df_28 ?_
    refine lv_ishl hx hb dJ5_ensureCapacityInternal_d00df_31 ?_
    refine tp_i (z := r) (sb_shl0 _).symm ?_
    refine k_Cp (wr := [(h0, .inr (11, [.ref h1, .int (0 : Int32), .int sm, .int sn]))]) (run_XS (As := [.ref h1, .int r]) (rest := [.ref h0]) ⟨hx, hb, hml, hown, ha⟩ (c_J7_copyOf l D dA cA h1 _ sv sK r (sbM sK p0) hr2 _ hf) (gi_S2 m_1012 m_1013 m_59 m_1014) ⟨by decide, by decide, yd_J7_copyOf⟩ ⟨Nat.le_of_ble_eq_true rfl, Nat.le_of_ble_eq_true rfl⟩ ⟨rfl, rfl⟩ hK hX hS hA hP hD [1] (by decide) rfl rfl hl.1 rfl (Nat.le_of_ble_eq_true rfl) dJ5_ensureCapacityInternal_d00df_32 ⟨by rw [gcC_g]; exact Nat.le_refl _, by rw [gcS_g]; exact Nat.le_of_eq (Nat.zero_add _)⟩) hP hD hS hA [1] [0] rfl rfl (by decide) (by decide) (fun u H locs hP hD hS => ?_)
    refine pt_f (C := RJ4) (T := TJ4) (N := 4) (ws' := [(h0, .inr (11, [.ref u, .int (0 : Int32), .int sm, .int sn])), (h1, .inl (dA 2, sK, .inl sv)), (u, .inl (dA 2, sbM sK p0, .inl q_sv))]) (ty := .array .byte) hx hb ha in_SB tySB tySB_ok nmSB hown hK hP hD hS 0 rfl rfl 0 (by decide) m_317 rfl (tySB_ok 0 (by decide)) rfl rfl (Nat.le_of_ble_eq_true rfl) rfl dJ5_ensureCapacityInternal_d00df_35 (fun H locs hP hD hS => ?_)
    refine W.widen (k := gcC sK (sbM sK p0)) (n := gcS sK (sbM sK p0)) (by rw [gcC_g]; exact Nat.le_refl _) (by rw [gcS_g]; exact Nat.le_of_eq (Nat.zero_add _)) ?_
    exact rt_Gv (u := u) hx hb hr hlocks (hP.sub [0, 2] rfl) (hD.sub [0, 2] (by decide) rfl) hS dJ5_ensureCapacityInternal_d00df_38

def f_J5_append_3fe6f (sv : Nat → Int32) (sK : Nat) (sn : Int32) (p0 : Int32) : Option ((Nat → Int32) × Int32) :=
  sf_c1 (f_J5_ensure sv sK (sn + (1 : Int32))) (fun a_1 => sf_c1 (f_J5_isLatin1_aae02) (fun r_3 => sf_b (r_3 = (0 : Int32)) (sf_c1 (f_J5_isLatin1_aae02) (fun r_4 => sf_b (r_4 = (0 : Int32)) (sf_n ((sn + (1 : Int32))) (fun x_5 => none)) (none))) (sf_c1 (f_J1_canEncode_fc78d p0) (fun r_6 => sf_b (r_6 = (0 : Int32)) (sf_c1 (f_J5_isLatin1_aae02) (fun r_7 => sf_b (r_7 = (0 : Int32)) (sf_n ((sn + (1 : Int32))) (fun x_8 => none)) (none))) (sf_n ((sn + (1 : Int32))) (fun x_9 => sf_g (sf_in sn (sbN sK (sn + (1 : Int32))) = true) (sf_n (upd a_1 sn.toNatClampNeg (vp_nar .byte p0.toInt8.toInt32)) (fun a_10 => some (a_10, x_9)))))))))
theorem yd_J5_append_3fe6f : yJ5_append_3fe6f.cls = RJ5 ∧ yJ5_append_3fe6f.cls ≠ "java/lang/invoke/MethodHandle" ∧ yJ5_append_3fe6f.cls ≠ "java/lang/invoke/VarHandle" ∧ (parseMethodDescriptor yJ5_append_3fe6f.desc).map (fun d => d.parameters.length) = some 1 := ⟨rfl, by decide, by decide, by decide +kernel⟩
set_option maxRecDepth 100000 in
set_option maxHeartbeats 4000000 in
theorem c_J5_append_3fe6f (l : Launch) (D : va_G) (dA : Nat → ClassId) (cA : Nat → Nat) (h0 h1 : Nat) (sz : Nat) (sv : Nat → Int32) (sK : Nat) (sm : Int32) (sn : Int32) (p0 : Int32) (q_sv : Nat → Int32) (q_sn : Int32) (q_sK : Nat) (hq : q_sK = sbN sK (sn + (1 : Int32))) (hf : f_J5_append_3fe6f sv sK sn p0 = some (q_sv, q_sn)) : Met l yJ5_append_3fe6f (wo (.code yJ5_append_3fe6f cJ5_append_3fe6f 2 (some (.object "java/lang/AbstractStringBuilder")))) ({ frames := 4, cells := gcC sK q_sK, slots := gcS sK q_sK, locals := 150 } : Room) (preX D dA cA [.ref h0, .int p0] sz [(h0, .inr (11, [.ref h1, .int (0 : Int32), .int sm, .int sn])), (h1, .inl (dA 2, sK, .inl sv))]) (poGr D h0 (fun u => [(h0, .inr (11, [.ref u, .int (0 : Int32), .int sm, .int q_sn])), (u, .inl (dA 2, q_sK, .inl q_sv))]) (va_A [(h0, .inr (11, [.ref h1, .int (0 : Int32), .int sm, .int sn])), (h1, .inl (dA 2, sK, .inl sv))] sz)) (gcC sK q_sK) (gcS sK q_sK) (va_A [(h0, .inr (11, [.ref h1, .int (0 : Int32), .int sm, .int sn])), (h1, .inl (dA 2, sK, .inl sv))] sz) := by
  subst hq
  refine of_X (y := yJ5_append_3fe6f) (cc := cJ5_append_3fe6f) (maxL := 2) (ret := (some (.object "java/lang/AbstractStringBuilder"))) (av := [.ref h0, .int p0]) (ws := [(h0, .inr (11, [.ref h1, .int (0 : Int32), .int sm, .int sn])), (h1, .inl (dA 2, sK, .inl sv))]) (sz := sz) (own := RJ5) (Qc := poGr D h0 _) (by decide) rfl (Nat.le_of_ble_eq_true rfl) ?_
  intro p e s m below meth c A hx hb hr ha hown hml hlocks hin hP hK hD hX hS hA ls hl
  have hC := hX.1
  have hl : lv_has ls 2 [(0, .ref h0), (1, .int p0)] := hl
  rw [f_J5_append_3fe6f] at hf
  refine lv_aload_n hx hb dJ5_append_3fe6f_0 rfl (lv_at hl 0 rfl) ?_
  refine lv_aload_n hx hb dJ5_append_3fe6f_1 rfl (lv_at hl 0 rfl) ?_
  refine gt_f (C := RJ4) (T := TJ4) (N := 4) hx hb ha in_SB hown hK hP 0 rfl rfl 3 (by decide) m_321 rfl dJ5_append_3fe6f_2 ?_
  refine lv_iconst (v := 1) hx hb dJ5_append_3fe6f_5 (by decide) ?_
  refine lv_iadd hx hb dJ5_append_3fe6f_6 ?_
  obtain ⟨a_1, hc1, hf⟩ := sf_c1e hf
  refine k_Gv (wr := []) (run_XW (As := [.int (sn + (1 : Int32))]) (rest := []) ⟨hx, hb, hml, hown, ha⟩ (hX.2.2.2.2.2.2.2.1 _ (List.mem_of_getElem? (i := 0) rfl)) (c_J5_ensure l D dA cA h0 h1  _ sv sK sm sn (sn + (1 : Int32)) _  (sbN sK (sn + (1 : Int32))) rfl hc1) (gi_W (C := RJ4) (owner := RJ5) m_995 m_1636 m_997 m_41 m_998) ⟨rfl, by decide, by decide, (yd_J5_ensure).2.2.2⟩ ⟨Nat.le_of_ble_eq_true rfl, Nat.le_of_ble_eq_true rfl⟩ ⟨rfl, rfl⟩ hK hX hS hA hP hD [0, 1] (by decide) rfl (va_recv hK hP (q0 := 0) rfl rfl) rfl hl.1 rfl (Nat.le_of_ble_eq_true rfl) dJ5_append_3fe6f_7 ⟨Nat.le_of_eq (Nat.zero_add _), Nat.le_of_eq (Nat.zero_add _)⟩) hP hD hS hA [0, 1] [] rfl rfl (by decide) (by decide) (fun b_2 H locs hP hD hS => ?_)
  refine W.widen (k := gcC sK (sbN sK (sn + (1 : Int32)))) (n := gcS sK (sbN sK (sn + (1 : Int32)))) (Nat.le_of_eq (Nat.zero_add _)) (Nat.le_of_eq (Nat.zero_add _)) ?_
  refine lv_aload_n hx hb dJ5_append_3fe6f_10 rfl (lv_at hl 0 rfl) ?_
  obtain ⟨r_3, hc3, hf⟩ := sf_c1e hf
  refine k_Pi (run_YW (As := []) (rest := []) ⟨hx, hb, hml, hown, ha⟩ (va_Nw.of rfl (ha _ m_1027)) (c_J5_isLatin1_aae02 l D dA cA h0 b_2   sm sn  _  hc3) (gi_W (C := RJ4) (owner := RJ5) m_1024 m_1026 m_1025 m_41 m_1028) ⟨rfl, by decide, by decide, (yd_J5_isLatin1_aae02).2.2.2⟩ ⟨Nat.le_of_ble_eq_true rfl, Nat.le_of_ble_eq_true rfl⟩ ⟨rfl, rfl⟩ hK hX hS hP [0] rfl (va_recv hK hP (q0 := 0) rfl rfl) rfl hl.1 rfl (Nat.le_of_ble_eq_true rfl) dJ5_append_3fe6f_11 ⟨Nat.le_refl _, Nat.le_refl _⟩) hP hS (fun H locs hP hS => ?_)
  refine lv_if_eq (tgt := 45) hx hb dJ5_append_3fe6f_14 (by decide) (fun hc => ?_) (fun hc => ?_)
  · have hf := sf_bp hf hc
    refine lv_aload_n hx hb dJ5_append_3fe6f_45 rfl (lv_at hl 0 rfl) ?_
    obtain ⟨r_4, hc4, hf⟩ := sf_c1e hf
    refine k_Pi (run_YW (As := []) (rest := []) ⟨hx, hb, hml, hown, ha⟩ (va_Nw.of rfl (ha _ m_1027)) (c_J5_isLatin1_aae02 l D dA cA h0 b_2   sm sn  _  hc4) (gi_W (C := RJ4) (owner := RJ5) m_1024 m_1026 m_1025 m_41 m_1028) ⟨rfl, by decide, by decide, (yd_J5_isLatin1_aae02).2.2.2⟩ ⟨Nat.le_of_ble_eq_true rfl, Nat.le_of_ble_eq_true rfl⟩ ⟨rfl, rfl⟩ hK hX hS hP [0] rfl (va_recv hK hP (q0 := 0) rfl rfl) rfl hl.1 rfl (Nat.le_of_ble_eq_true rfl) dJ5_append_3fe6f_46 ⟨Nat.le_refl _, Nat.le_refl _⟩) hP hS (fun H locs hP hS => ?_)
    refine lv_if_eq (tgt := 56) hx hb dJ5_append_3fe6f_49 (by decide) (fun hc => ?_) (fun hc => ?_)
    · have hf := sf_bp hf hc
      refine lv_aload_n hx hb dJ5_append_3fe6f_56 rfl (lv_at hl 0 rfl) ?_
      refine gt_f (C := RJ4) (T := TJ4) (N := 4) hx hb ha in_SB hown hK hP 0 rfl rfl 0 (by decide) m_317 rfl dJ5_append_3fe6f_57 ?_
      refine lv_aload_n hx hb dJ5_append_3fe6f_60 rfl (lv_at hl 0 rfl) ?_
      refine lv_dup hx hb dJ5_append_3fe6f_61 rfl ?_
      refine gt_f (C := RJ4) (T := TJ4) (N := 4) hx hb ha in_SB hown hK hP 0 rfl rfl 3 (by decide) m_321 rfl dJ5_append_3fe6f_62 ?_
      refine lv_dup_x1 hx hb dJ5_append_3fe6f_65 rfl rfl ?_
      refine lv_iconst (v := 1) hx hb dJ5_append_3fe6f_66 (by decide) ?_
      refine lv_iadd hx hb dJ5_append_3fe6f_67 ?_
      obtain ⟨x_5, ex_5, hf⟩ := sf_ne hf
      refine tp_i ex_5 ?_
      refine pt_f (C := RJ4) (T := TJ4) (N := 4) (ws' := [(h0, .inr (11, [.ref b_2, .int (0 : Int32), .int sm, .int x_5])), (b_2, .inl (dA 2, (sbN sK (sn + (1 : Int32))), .inl a_1))]) (ty := .int) hx hb ha in_SB tySB tySB_ok nmSB hown hK hP hD hS 0 rfl rfl 3 (by decide) m_321 rfl (tySB_ok 3 (by decide)) rfl rfl (Nat.le_of_ble_eq_true rfl) rfl dJ5_append_3fe6f_68 (fun H locs hP hD hS => ?_)
      refine lv_iload_n hx hb dJ5_append_3fe6f_71 rfl (lv_at hl 1 rfl) ?_
      cases hf
    · have hf := sf_bn hf hc
      refine lv_aload_n hx hb dJ5_append_3fe6f_52 rfl (lv_at hl 0 rfl) ?_
      cases hf
  · have hf := sf_bn hf hc
    refine lv_iload_n hx hb dJ5_append_3fe6f_17 rfl (lv_at hl 1 rfl) ?_
    obtain ⟨r_6, hc6, hf⟩ := sf_c1e hf
    refine k_Pi (run_YS (As := [.int p0]) (rest := []) ⟨hx, hb, hml, hown, ha⟩ (c_J1_canEncode_fc78d l D dA cA     p0 _  hc6) (gi_S2 m_1275 m_1276 m_61 m_1277) (yd_J1_canEncode_fc78d).2 ⟨Nat.le_of_ble_eq_true rfl, Nat.le_of_ble_eq_true rfl⟩ ⟨rfl, rfl⟩ hK hX hS hP [] rfl rfl hl.1 rfl (Nat.le_of_ble_eq_true rfl) dJ5_append_3fe6f_18 ⟨Nat.le_refl _, Nat.le_refl _⟩) hP hS (fun H locs hP hS => ?_)
    refine lv_if_eq (tgt := 45) hx hb dJ5_append_3fe6f_21 (by decide) (fun hc => ?_) (fun hc => ?_)
    · have hf := sf_bp hf hc
      refine lv_aload_n hx hb dJ5_append_3fe6f_45 rfl (lv_at hl 0 rfl) ?_
      obtain ⟨r_7, hc7, hf⟩ := sf_c1e hf
      refine k_Pi (run_YW (As := []) (rest := []) ⟨hx, hb, hml, hown, ha⟩ (va_Nw.of rfl (ha _ m_1027)) (c_J5_isLatin1_aae02 l D dA cA h0 b_2   sm sn  _  hc7) (gi_W (C := RJ4) (owner := RJ5) m_1024 m_1026 m_1025 m_41 m_1028) ⟨rfl, by decide, by decide, (yd_J5_isLatin1_aae02).2.2.2⟩ ⟨Nat.le_of_ble_eq_true rfl, Nat.le_of_ble_eq_true rfl⟩ ⟨rfl, rfl⟩ hK hX hS hP [0] rfl (va_recv hK hP (q0 := 0) rfl rfl) rfl hl.1 rfl (Nat.le_of_ble_eq_true rfl) dJ5_append_3fe6f_46 ⟨Nat.le_refl _, Nat.le_refl _⟩) hP hS (fun H locs hP hS => ?_)
      refine lv_if_eq (tgt := 56) hx hb dJ5_append_3fe6f_49 (by decide) (fun hc => ?_) (fun hc => ?_)
      · have hf := sf_bp hf hc
        refine lv_aload_n hx hb dJ5_append_3fe6f_56 rfl (lv_at hl 0 rfl) ?_
        refine gt_f (C := RJ4) (T := TJ4) (N := 4) hx hb ha in_SB hown hK hP 0 rfl rfl 0 (by decide) m_317 rfl dJ5_append_3fe6f_57 ?_
        refine lv_aload_n hx hb dJ5_append_3fe6f_60 rfl (lv_at hl 0 rfl) ?_
        refine lv_dup hx hb dJ5_append_3fe6f_61 rfl ?_
        refine gt_f (C := RJ4) (T := TJ4) (N := 4) hx hb ha in_SB hown hK hP 0 rfl rfl 3 (by decide) m_321 rfl dJ5_append_3fe6f_62 ?_
        refine lv_dup_x1 hx hb dJ5_append_3fe6f_65 rfl rfl ?_
        refine lv_iconst (v := 1) hx hb dJ5_append_3fe6f_66 (by decide) ?_
        refine lv_iadd hx hb dJ5_append_3fe6f_67 ?_
        obtain ⟨x_8, ex_8, hf⟩ := sf_ne hf
        refine tp_i ex_8 ?_
        refine pt_f (C := RJ4) (T := TJ4) (N := 4) (ws' := [(h0, .inr (11, [.ref b_2, .int (0 : Int32), .int sm, .int x_8])), (b_2, .inl (dA 2, (sbN sK (sn + (1 : Int32))), .inl a_1))]) (ty := .int) hx hb ha in_SB tySB tySB_ok nmSB hown hK hP hD hS 0 rfl rfl 3 (by decide) m_321 rfl (tySB_ok 3 (by decide)) rfl rfl (Nat.le_of_ble_eq_true rfl) rfl dJ5_append_3fe6f_68 (fun H locs hP hD hS => ?_)
        refine lv_iload_n hx hb dJ5_append_3fe6f_71 rfl (lv_at hl 1 rfl) ?_
        cases hf
      · have hf := sf_bn hf hc
        refine lv_aload_n hx hb dJ5_append_3fe6f_52 rfl (lv_at hl 0 rfl) ?_
        cases hf
    · have hf := sf_bn hf hc
      refine lv_aload_n hx hb dJ5_append_3fe6f_24 rfl (lv_at hl 0 rfl) ?_
      refine gt_f (C := RJ4) (T := TJ4) (N := 4) hx hb ha in_SB hown hK hP 0 rfl rfl 0 (by decide) m_317 rfl dJ5_append_3fe6f_25 ?_
      refine lv_aload_n hx hb dJ5_append_3fe6f_28 rfl (lv_at hl 0 rfl) ?_
      refine lv_dup hx hb dJ5_append_3fe6f_29 rfl ?_
      refine gt_f (C := RJ4) (T := TJ4) (N := 4) hx hb ha in_SB hown hK hP 0 rfl rfl 3 (by decide) m_321 rfl dJ5_append_3fe6f_30 ?_
      refine lv_dup_x1 hx hb dJ5_append_3fe6f_33 rfl rfl ?_
      refine lv_iconst (v := 1) hx hb dJ5_append_3fe6f_34 (by decide) ?_
      refine lv_iadd hx hb dJ5_append_3fe6f_35 ?_
      obtain ⟨x_9, ex_9, hf⟩ := sf_ne hf
      refine tp_i ex_9 ?_
      refine pt_f (C := RJ4) (T := TJ4) (N := 4) (ws' := [(h0, .inr (11, [.ref b_2, .int (0 : Int32), .int sm, .int x_9])), (b_2, .inl (dA 2, (sbN sK (sn + (1 : Int32))), .inl a_1))]) (ty := .int) hx hb ha in_SB tySB tySB_ok nmSB hown hK hP hD hS 0 rfl rfl 3 (by decide) m_321 rfl (tySB_ok 3 (by decide)) rfl rfl (Nat.le_of_ble_eq_true rfl) rfl dJ5_append_3fe6f_36 (fun H locs hP hD hS => ?_)
      refine lv_iload_n hx hb dJ5_append_3fe6f_39 rfl (lv_at hl 1 rfl) ?_
      refine lv_i2b hx hb dJ5_append_3fe6f_40 rfl ?_
      obtain ⟨hi, hf⟩ := sf_ge hf
      obtain ⟨a_10, ea_10, hf⟩ := sf_ne hf
      refine ba_st (ws' := [(h0, .inr (11, [.ref b_2, .int (0 : Int32), .int sm, .int x_9])), (b_2, .inl (dA 2, (sbN sK (sn + (1 : Int32))), .inl a_10))]) hx hb hK hP hD hS 1 rfl hi ea_10 rfl dJ5_append_3fe6f_41 (fun H locs hP hD hS => ?_)
      refine lv_goto (tgt := 75) hx hb dJ5_append_3fe6f_42 (by decide) ?_
      refine lv_aload_n hx hb dJ5_append_3fe6f_75 rfl (lv_at hl 0 rfl) ?_
      cases hf
      exact rt_Gr (u := b_2) hx hb hr (Or.inl ⟨_, rfl⟩) hlocks (hP.sub [0, 1] rfl) (hD.sub [0, 1] (by decide) rfl) hS dJ5_append_3fe6f_76

def f_J5_append_c97b9 (sv : Nat → Int32) (sK : Nat) (sn : Int32) (p0 : Int32) : Option ((Nat → Int32) × Int32) :=
  sf_c1 (f_J6_stringSize_0f7a4 p0) (fun r_1 => sf_n ((sn + ((f_J6_stringSize_0f7a4 p0).getD 0))) (fun x_2 => sf_c1 (f_J5_ensure sv sK x_2) (fun a_3 => sf_c1 (f_J5_isLatin1_aae02) (fun r_5 => sf_b (r_5 = (0 : Int32)) (none) (sf_c2 (f_J6_getChars_ba4f3 a_3 (sbN sK x_2) p0 x_2) (fun r_6 a_7 => some (a_7, x_2)))))))
theorem yd_J5_append_c97b9 : yJ5_append_c97b9.cls = RJ5 ∧ yJ5_append_c97b9.cls ≠ "java/lang/invoke/MethodHandle" ∧ yJ5_append_c97b9.cls ≠ "java/lang/invoke/VarHandle" ∧ (parseMethodDescriptor yJ5_append_c97b9.desc).map (fun d => d.parameters.length) = some 1 := ⟨rfl, by decide, by decide, by decide +kernel⟩
set_option maxRecDepth 100000 in
set_option maxHeartbeats 4000000 in
theorem c_J5_append_c97b9 (l : Launch) (D : va_G) (dA : Nat → ClassId) (cA : Nat → Nat) (h0 h1 : Nat) (sz : Nat) (sv : Nat → Int32) (sK : Nat) (sm : Int32) (sn : Int32) (p0 : Int32) (q_sv : Nat → Int32) (q_sn : Int32) (q_sK : Nat) (hq : q_sK = sbN sK (sn + ((f_J6_stringSize_0f7a4 p0).getD 0))) (hf : f_J5_append_c97b9 sv sK sn p0 = some (q_sv, q_sn)) : Met l yJ5_append_c97b9 (wo (.code yJ5_append_c97b9 cJ5_append_c97b9 4 (some (.object "java/lang/AbstractStringBuilder")))) ({ frames := 4, cells := gcC sK q_sK, slots := gcS sK q_sK, locals := 150 } : Room) (preX D dA cA [.ref h0, .int p0] sz [(h0, .inr (11, [.ref h1, .int (0 : Int32), .int sm, .int sn])), (h1, .inl (dA 2, sK, .inl sv))]) (poGr D h0 (fun u => [(h0, .inr (11, [.ref u, .int (0 : Int32), .int sm, .int q_sn])), (u, .inl (dA 2, q_sK, .inl q_sv))]) (va_A [(h0, .inr (11, [.ref h1, .int (0 : Int32), .int sm, .int sn])), (h1, .inl (dA 2, sK, .inl sv))] sz)) (gcC sK q_sK) (gcS sK q_sK) (va_A [(h0, .inr (11, [.ref h1, .int (0 : Int32), .int sm, .int sn])), (h1, .inl (dA 2, sK, .inl sv))] sz) := by
  subst hq
  refine of_X (y := yJ5_append_c97b9) (cc := cJ5_append_c97b9) (maxL := 4) (ret := (some (.object "java/lang/AbstractStringBuilder"))) (av := [.ref h0, .int p0]) (ws := [(h0, .inr (11, [.ref h1, .int (0 : Int32), .int sm, .int sn])), (h1, .inl (dA 2, sK, .inl sv))]) (sz := sz) (own := RJ5) (Qc := poGr D h0 _) (by decide) rfl (Nat.le_of_ble_eq_true rfl) ?_
  intro p e s m below meth c A hx hb hr ha hown hml hlocks hin hP hK hD hX hS hA ls hl
  have hC := hX.1
  have hl : lv_has ls 4 [(0, .ref h0), (1, .int p0)] := hl
  rw [f_J5_append_c97b9] at hf
  refine lv_aload_n hx hb dJ5_append_c97b9_0 rfl (lv_at hl 0 rfl) ?_
  refine gt_f (C := RJ4) (T := TJ4) (N := 4) hx hb ha in_SB hown hK hP 0 rfl rfl 3 (by decide) m_321 rfl dJ5_append_c97b9_1 ?_
  refine lv_istore_n (lv' := [(2, .int sn), (0, .ref h0), (1, .int p0)]) hx hb dJ5_append_c97b9_4 rfl hl (by decide) rfl (fun ls hl => ?_)
  refine lv_iload_n hx hb dJ5_append_c97b9_5 rfl (lv_at hl 0 rfl) ?_
  refine lv_iload_n hx hb dJ5_append_c97b9_6 rfl (lv_at hl 2 rfl) ?_
  obtain ⟨r_1, hc1, hf⟩ := sf_c1e hf
  obtain rfl : ((f_J6_stringSize_0f7a4 p0).getD 0) = r_1 := by rw [hc1]; rfl
  refine k_Pi (run_YS (As := [.int p0]) (rest := [.int sn]) ⟨hx, hb, hml, hown, ha⟩ (c_J6_stringSize_0f7a4 l D dA cA     p0 _  hc1) (gi_S2 m_992 m_993 m_57 m_994) (yd_J6_stringSize_0f7a4).2 ⟨Nat.le_of_ble_eq_true rfl, Nat.le_of_ble_eq_true rfl⟩ ⟨rfl, rfl⟩ hK hX hS hP [] rfl rfl hl.1 rfl (Nat.le_of_ble_eq_true rfl) dJ5_append_c97b9_7 ⟨Nat.zero_le _, Nat.zero_le _⟩) hP hS (fun H locs hP hS => ?_)
  refine lv_iadd hx hb dJ5_append_c97b9_10 ?_
  obtain ⟨x_2, ex_2, hf⟩ := sf_ne hf
  refine tp_i ex_2 ?_
  rw [← ex_2]
  refine lv_istore_n (lv' := [(3, .int x_2), (2, .int sn), (0, .ref h0), (1, .int p0)]) hx hb dJ5_append_c97b9_11 rfl hl (by decide) rfl (fun ls hl => ?_)
  refine lv_aload_n hx hb dJ5_append_c97b9_12 rfl (lv_at hl 2 rfl) ?_
  refine lv_iload_n hx hb dJ5_append_c97b9_13 rfl (lv_at hl 0 rfl) ?_
  obtain ⟨a_3, hc3, hf⟩ := sf_c1e hf
  refine k_Gv (wr := []) (run_XW (As := [.int x_2]) (rest := []) ⟨hx, hb, hml, hown, ha⟩ (hX.2.2.2.2.2.2.2.1 _ (List.mem_of_getElem? (i := 0) rfl)) (c_J5_ensure l D dA cA h0 h1  _ sv sK sm sn x_2 _  (sbN sK x_2) rfl hc3) (gi_W (C := RJ4) (owner := RJ5) m_995 m_1636 m_997 m_41 m_998) ⟨rfl, by decide, by decide, (yd_J5_ensure).2.2.2⟩ ⟨Nat.le_of_ble_eq_true rfl, Nat.le_of_ble_eq_true rfl⟩ ⟨rfl, rfl⟩ hK hX hS hA hP hD [0, 1] (by decide) rfl (va_recv hK hP (q0 := 0) rfl rfl) rfl hl.1 rfl (Nat.le_of_ble_eq_true rfl) dJ5_append_c97b9_14 ⟨Nat.le_of_eq (Nat.zero_add _), Nat.le_of_eq (Nat.zero_add _)⟩) hP hD hS hA [0, 1] [] rfl rfl (by decide) (by decide) (fun b_4 H locs hP hD hS => ?_)
  refine W.widen (k := gcC sK (sbN sK x_2)) (n := gcS sK (sbN sK x_2)) (Nat.le_of_eq (Nat.zero_add _)) (Nat.le_of_eq (Nat.zero_add _)) ?_
  refine lv_aload_n hx hb dJ5_append_c97b9_17 rfl (lv_at hl 2 rfl) ?_
  obtain ⟨r_5, hc5, hf⟩ := sf_c1e hf
  refine k_Pi (run_YW (As := []) (rest := []) ⟨hx, hb, hml, hown, ha⟩ (va_Nw.of rfl (ha _ m_1027)) (c_J5_isLatin1_aae02 l D dA cA h0 b_4   sm sn  _  hc5) (gi_W (C := RJ4) (owner := RJ5) m_1024 m_1026 m_1025 m_41 m_1028) ⟨rfl, by decide, by decide, (yd_J5_isLatin1_aae02).2.2.2⟩ ⟨Nat.le_of_ble_eq_true rfl, Nat.le_of_ble_eq_true rfl⟩ ⟨rfl, rfl⟩ hK hX hS hP [0] rfl (va_recv hK hP (q0 := 0) rfl rfl) rfl hl.1 rfl (Nat.le_of_ble_eq_true rfl) dJ5_append_c97b9_18 ⟨Nat.le_refl _, Nat.le_refl _⟩) hP hS (fun H locs hP hS => ?_)
  refine lv_if_eq (tgt := 37) hx hb dJ5_append_c97b9_21 (by decide) (fun hc => ?_) (fun hc => ?_)
  · have hf := sf_bp hf hc
    refine lv_iload_n hx hb dJ5_append_c97b9_37 rfl (lv_at hl 3 rfl) ?_
    refine lv_iload_n hx hb dJ5_append_c97b9_38 rfl (lv_at hl 1 rfl) ?_
    refine lv_iload_n hx hb dJ5_append_c97b9_39 rfl (lv_at hl 0 rfl) ?_
    refine lv_aload_n hx hb dJ5_append_c97b9_40 rfl (lv_at hl 2 rfl) ?_
    refine gt_f (C := RJ4) (T := TJ4) (N := 4) hx hb ha in_SB hown hK hP 0 rfl rfl 0 (by decide) m_317 rfl dJ5_append_c97b9_41 ?_
    cases hf
  · have hf := sf_bn hf hc
    refine lv_iload_n hx hb dJ5_append_c97b9_24 rfl (lv_at hl 3 rfl) ?_
    refine lv_iload_n hx hb dJ5_append_c97b9_25 rfl (lv_at hl 0 rfl) ?_
    refine lv_aload_n hx hb dJ5_append_c97b9_26 rfl (lv_at hl 2 rfl) ?_
    refine gt_f (C := RJ4) (T := TJ4) (N := 4) hx hb ha in_SB hown hK hP 0 rfl rfl 0 (by decide) m_317 rfl dJ5_append_c97b9_27 ?_
    obtain ⟨r_6, a_7, hc7, hf⟩ := sf_c2e hf
    refine k_Mi (wr := [(h0, .inr (11, [.ref b_4, .int (0 : Int32), .int sm, .int sn]))]) (run_XS (As := [.int p0, .int x_2, .ref b_4]) (rest := []) ⟨hx, hb, hml, hown, ha⟩ (c_J6_getChars_ba4f3 l D dA cA b_4  _ a_3 (sbN sK x_2) p0 x_2 _ _  hc7) (gi_S2 m_1029 m_1030 m_57 m_1031) (yd_J6_getChars_ba4f3).2 ⟨Nat.le_of_ble_eq_true rfl, Nat.le_of_ble_eq_true rfl⟩ ⟨rfl, rfl⟩ hK hX hS hA hP hD [1] (by decide) rfl rfl hl.1 rfl (Nat.le_of_ble_eq_true rfl) dJ5_append_c97b9_30 ⟨Nat.le_refl _, Nat.le_refl _⟩) hP hD hS hA [1] [0] rfl rfl (by decide) (by decide) (fun H locs hP hD hS => ?_)
    refine lv_pop hx hb dJ5_append_c97b9_33 rfl ?_
    refine lv_goto (tgt := 48) hx hb dJ5_append_c97b9_34 (by decide) ?_
    refine lv_aload_n hx hb dJ5_append_c97b9_48 rfl (lv_at hl 2 rfl) ?_
    refine lv_iload_n hx hb dJ5_append_c97b9_49 rfl (lv_at hl 0 rfl) ?_
    refine pt_f (C := RJ4) (T := TJ4) (N := 4) (ws' := [(h0, .inr (11, [.ref b_4, .int (0 : Int32), .int sm, .int x_2])), (b_4, .inl (dA 2, (sbN sK x_2), .inl a_7))]) (ty := .int) hx hb ha in_SB tySB tySB_ok nmSB hown hK hP hD hS 0 rfl rfl 3 (by decide) m_321 rfl (tySB_ok 3 (by decide)) rfl rfl (Nat.le_of_ble_eq_true rfl) rfl dJ5_append_c97b9_50 (fun H locs hP hD hS => ?_)
    refine lv_aload_n hx hb dJ5_append_c97b9_53 rfl (lv_at hl 2 rfl) ?_
    cases hf
    exact rt_Gr (u := b_4) hx hb hr (Or.inl ⟨_, rfl⟩) hlocks (hP.sub [0, 1] rfl) (hD.sub [0, 1] (by decide) rfl) hS dJ5_append_c97b9_54

def f_J5_setLength_d00df (sv : Nat → Int32) (sK : Nat) (sm : Int32) (sn : Int32) (p0 : Int32) : Option ((Nat → Int32) × Int32 × Int32) :=
  sf_b ((0 : Int32) ≤ p0) (sf_c1 (f_J5_ensure sv sK p0) (fun a_1 => sf_b (p0 ≤ sn) (sf_b (sn ≤ p0) (some (a_1, sm, p0)) (some (a_1, (1 : Int32), p0))) (sf_c1 (f_J5_isLatin1_aae02) (fun r_3 => sf_b (r_3 = (0 : Int32)) (none) (none))))) (none)
theorem yd_J5_setLength_d00df : yJ5_setLength_d00df.cls = RJ5 ∧ yJ5_setLength_d00df.cls ≠ "java/lang/invoke/MethodHandle" ∧ yJ5_setLength_d00df.cls ≠ "java/lang/invoke/VarHandle" ∧ (parseMethodDescriptor yJ5_setLength_d00df.desc).map (fun d => d.parameters.length) = some 1 := ⟨rfl, by decide, by decide, by decide +kernel⟩
set_option maxRecDepth 100000 in
set_option maxHeartbeats 4000000 in
theorem c_J5_setLength_d00df (l : Launch) (D : va_G) (dA : Nat → ClassId) (cA : Nat → Nat) (h0 h1 : Nat) (sz : Nat) (sv : Nat → Int32) (sK : Nat) (sm : Int32) (sn : Int32) (p0 : Int32) (q_sv : Nat → Int32) (q_sm : Int32) (q_sn : Int32) (q_sK : Nat) (hq : q_sK = sbN sK p0) (hf : f_J5_setLength_d00df sv sK sm sn p0 = some (q_sv, q_sm, q_sn)) : Met l yJ5_setLength_d00df (wo (.code yJ5_setLength_d00df cJ5_setLength_d00df 2 none)) ({ frames := 4, cells := gcC sK q_sK, slots := gcS sK q_sK, locals := 150 } : Room) (preX D dA cA [.ref h0, .int p0] sz [(h0, .inr (11, [.ref h1, .int (0 : Int32), .int sm, .int sn])), (h1, .inl (dA 2, sK, .inl sv))]) (poGv D (fun u => [(h0, .inr (11, [.ref u, .int (0 : Int32), .int q_sm, .int q_sn])), (u, .inl (dA 2, q_sK, .inl q_sv))]) (va_A [(h0, .inr (11, [.ref h1, .int (0 : Int32), .int sm, .int sn])), (h1, .inl (dA 2, sK, .inl sv))] sz)) (gcC sK q_sK) (gcS sK q_sK) (va_A [(h0, .inr (11, [.ref h1, .int (0 : Int32), .int sm, .int sn])), (h1, .inl (dA 2, sK, .inl sv))] sz) := by
  subst hq
  refine of_X (y := yJ5_setLength_d00df) (cc := cJ5_setLength_d00df) (maxL := 2) (ret := none) (av := [.ref h0, .int p0]) (ws := [(h0, .inr (11, [.ref h1, .int (0 : Int32), .int sm, .int sn])), (h1, .inl (dA 2, sK, .inl sv))]) (sz := sz) (own := RJ5) (Qc := poGv D _) (by decide) rfl (Nat.le_of_ble_eq_true rfl) ?_
  intro p e s m below meth c A hx hb hr ha hown hml hlocks hin hP hK hD hX hS hA ls hl
  have hC := hX.1
  have hl : lv_has ls 2 [(0, .ref h0), (1, .int p0)] := hl
  rw [f_J5_setLength_d00df] at hf
  refine lv_iload_n hx hb dJ5_setLength_d00df_0 rfl (lv_at hl 1 rfl) ?_
  refine lv_if_ge (tgt := 13) hx hb dJ5_setLength_d00df_1 (by decide) (fun hc => ?_) (fun hc => ?_)
  · have hf := sf_bp hf hc
    refine lv_aload_n hx hb dJ5_setLength_d00df_13 rfl (lv_at hl 0 rfl) ?_
    refine lv_iload_n hx hb dJ5_setLength_d00df_14 rfl (lv_at hl 1 rfl) ?_
    obtain ⟨a_1, hc1, hf⟩ := sf_c1e hf
    refine k_Gv (wr := []) (run_XW (As := [.int p0]) (rest := []) ⟨hx, hb, hml, hown, ha⟩ (hX.2.2.2.2.2.2.2.1 _ (List.mem_of_getElem? (i := 0) rfl)) (c_J5_ensure l D dA cA h0 h1  _ sv sK sm sn p0 _  (sbN sK p0) rfl hc1) (gi_W (C := RJ4) (owner := RJ5) m_995 m_1636 m_997 m_41 m_998) ⟨rfl, by decide, by decide, (yd_J5_ensure).2.2.2⟩ ⟨Nat.le_of_ble_eq_true rfl, Nat.le_of_ble_eq_true rfl⟩ ⟨rfl, rfl⟩ hK hX hS hA hP hD [0, 1] (by decide) rfl (va_recv hK hP (q0 := 0) rfl rfl) rfl hl.1 rfl (Nat.le_of_ble_eq_true rfl) dJ5_setLength_d00df_15 ⟨Nat.le_of_eq (Nat.zero_add _), Nat.le_of_eq (Nat.zero_add _)⟩) hP hD hS hA [0, 1] [] rfl rfl (by decide) (by decide) (fun b_2 H locs hP hD hS => ?_)
    refine W.widen (k := gcC sK (sbN sK p0)) (n := gcS sK (sbN sK p0)) (Nat.le_of_eq (Nat.zero_add _)) (Nat.le_of_eq (Nat.zero_add _)) ?_
    refine lv_aload_n hx hb dJ5_setLength_d00df_18 rfl (lv_at hl 0 rfl) ?_
    refine gt_f (C := RJ4) (T := TJ4) (N := 4) hx hb ha in_SB hown hK hP 0 rfl rfl 3 (by decide) m_321 rfl dJ5_setLength_d00df_19 ?_
    refine lv_iload_n hx hb dJ5_setLength_d00df_22 rfl (lv_at hl 1 rfl) ?_
    refine lv_icmp_ge (tgt := 63) hx hb dJ5_setLength_d00df_23 (by decide) (fun hc => ?_) (fun hc => ?_)
    · have hf := sf_bp hf hc
      refine lv_aload_n hx hb dJ5_setLength_d00df_63 rfl (lv_at hl 0 rfl) ?_
      refine gt_f (C := RJ4) (T := TJ4) (N := 4) hx hb ha in_SB hown hK hP 0 rfl rfl 3 (by decide) m_321 rfl dJ5_setLength_d00df_64 ?_
      refine lv_iload_n hx hb dJ5_setLength_d00df_67 rfl (lv_at hl 1 rfl) ?_
      refine lv_icmp_le (tgt := 76) hx hb dJ5_setLength_d00df_68 (by decide) (fun hc => ?_) (fun hc => ?_)
      · have hf := sf_bp hf hc
        refine lv_aload_n hx hb dJ5_setLength_d00df_76 rfl (lv_at hl 0 rfl) ?_
        refine lv_iload_n hx hb dJ5_setLength_d00df_77 rfl (lv_at hl 1 rfl) ?_
        refine pt_f (C := RJ4) (T := TJ4) (N := 4) (ws' := [(h0, .inr (11, [.ref b_2, .int (0 : Int32), .int sm, .int p0])), (b_2, .inl (dA 2, (sbN sK p0), .inl a_1))]) (ty := .int) hx hb ha in_SB tySB tySB_ok nmSB hown hK hP hD hS 0 rfl rfl 3 (by decide) m_321 rfl (tySB_ok 3 (by decide)) rfl rfl (Nat.le_of_ble_eq_true rfl) rfl dJ5_setLength_d00df_78 (fun H locs hP hD hS => ?_)
        cases hf
        exact rt_Gv (u := b_2) hx hb hr hlocks (hP.sub [0, 1] rfl) (hD.sub [0, 1] (by decide) rfl) hS dJ5_setLength_d00df_81
      · have hf := sf_bn hf hc
        refine lv_aload_n hx hb dJ5_setLength_d00df_71 rfl (lv_at hl 0 rfl) ?_
        refine lv_iconst (v := 1) hx hb dJ5_setLength_d00df_72 (by decide) ?_
        refine pt_f (C := RJ4) (T := TJ4) (N := 4) (ws' := [(h0, .inr (11, [.ref b_2, .int (0 : Int32), .int (1 : Int32), .int sn])), (b_2, .inl (dA 2, (sbN sK p0), .inl a_1))]) (ty := .boolean) hx hb ha in_SB tySB tySB_ok nmSB hown hK hP hD hS 0 rfl rfl 2 (by decide) m_319 rfl (tySB_ok 2 (by decide)) rfl rfl (Nat.le_of_ble_eq_true rfl) rfl dJ5_setLength_d00df_73 (fun H locs hP hD hS => ?_)
        refine lv_aload_n hx hb dJ5_setLength_d00df_76 rfl (lv_at hl 0 rfl) ?_
        refine lv_iload_n hx hb dJ5_setLength_d00df_77 rfl (lv_at hl 1 rfl) ?_
        refine pt_f (C := RJ4) (T := TJ4) (N := 4) (ws' := [(h0, .inr (11, [.ref b_2, .int (0 : Int32), .int (1 : Int32), .int p0])), (b_2, .inl (dA 2, (sbN sK p0), .inl a_1))]) (ty := .int) hx hb ha in_SB tySB tySB_ok nmSB hown hK hP hD hS 0 rfl rfl 3 (by decide) m_321 rfl (tySB_ok 3 (by decide)) rfl rfl (Nat.le_of_ble_eq_true rfl) rfl dJ5_setLength_d00df_78 (fun H locs hP hD hS => ?_)
        cases hf
        exact rt_Gv (u := b_2) hx hb hr hlocks (hP.sub [0, 1] rfl) (hD.sub [0, 1] (by decide) rfl) hS dJ5_setLength_d00df_81
    · have hf := sf_bn hf hc
      refine lv_aload_n hx hb dJ5_setLength_d00df_26 rfl (lv_at hl 0 rfl) ?_
      obtain ⟨r_3, hc3, hf⟩ := sf_c1e hf
      refine k_Pi (run_YW (As := []) (rest := []) ⟨hx, hb, hml, hown, ha⟩ (va_Nw.of rfl (ha _ m_1027)) (c_J5_isLatin1_aae02 l D dA cA h0 b_2   sm sn  _  hc3) (gi_W (C := RJ4) (owner := RJ5) m_1024 m_1026 m_1025 m_41 m_1028) ⟨rfl, by decide, by decide, (yd_J5_isLatin1_aae02).2.2.2⟩ ⟨Nat.le_of_ble_eq_true rfl, Nat.le_of_ble_eq_true rfl⟩ ⟨rfl, rfl⟩ hK hX hS hP [0] rfl (va_recv hK hP (q0 := 0) rfl rfl) rfl hl.1 rfl (Nat.le_of_ble_eq_true rfl) dJ5_setLength_d00df_27 ⟨Nat.le_refl _, Nat.le_refl _⟩) hP hS (fun H locs hP hS => ?_)
      refine lv_if_eq (tgt := 48) hx hb dJ5_setLength_d00df_30 (by decide) (fun hc => ?_) (fun hc => ?_)
      · have hf := sf_bp hf hc
        refine lv_aload_n hx hb dJ5_setLength_d00df_48 rfl (lv_at hl 0 rfl) ?_
        refine gt_f (C := RJ4) (T := TJ4) (N := 4) hx hb ha in_SB hown hK hP 0 rfl rfl 0 (by decide) m_317 rfl dJ5_setLength_d00df_49 ?_
        refine lv_aload_n hx hb dJ5_setLength_d00df_52 rfl (lv_at hl 0 rfl) ?_
        refine gt_f (C := RJ4) (T := TJ4) (N := 4) hx hb ha in_SB hown hK hP 0 rfl rfl 3 (by decide) m_321 rfl dJ5_setLength_d00df_53 ?_
        refine lv_iload_n hx hb dJ5_setLength_d00df_56 rfl (lv_at hl 1 rfl) ?_
        cases hf
      · have hf := sf_bn hf hc
        refine lv_aload_n hx hb dJ5_setLength_d00df_33 rfl (lv_at hl 0 rfl) ?_
        refine gt_f (C := RJ4) (T := TJ4) (N := 4) hx hb ha in_SB hown hK hP 0 rfl rfl 0 (by decide) m_317 rfl dJ5_setLength_d00df_34 ?_
        refine lv_aload_n hx hb dJ5_setLength_d00df_37 rfl (lv_at hl 0 rfl) ?_
        refine gt_f (C := RJ4) (T := TJ4) (N := 4) hx hb ha in_SB hown hK hP 0 rfl rfl 3 (by decide) m_321 rfl dJ5_setLength_d00df_38 ?_
        refine lv_iload_n hx hb dJ5_setLength_d00df_41 rfl (lv_at hl 1 rfl) ?_
        cases hf
  · have hf := sf_bn hf hc
    cases hf

def f_J4_append_cf468 (sv : Nat → Int32) (sK : Nat) (sn : Int32) (p0 : Int32) : Option ((Nat → Int32) × Int32) :=
  sf_c2 (f_J5_append_3fe6f sv sK sn p0) (fun a_1 x_2 => some (a_1, x_2))
theorem yd_J4_append_cf468 : yJ4_append_cf468.cls = RJ4 ∧ yJ4_append_cf468.cls ≠ "java/lang/invoke/MethodHandle" ∧ yJ4_append_cf468.cls ≠ "java/lang/invoke/VarHandle" ∧ (parseMethodDescriptor yJ4_append_cf468.desc).map (fun d => d.parameters.length) = some 1 := ⟨rfl, by decide, by decide, by decide +kernel⟩
set_option maxRecDepth 100000 in
set_option maxHeartbeats 4000000 in
theorem c_J4_append_cf468 (l : Launch) (D : va_G) (dA : Nat → ClassId) (cA : Nat → Nat) (h0 h1 : Nat) (sz : Nat) (sv : Nat → Int32) (sK : Nat) (sm : Int32) (sn : Int32) (p0 : Int32) (q_sv : Nat → Int32) (q_sn : Int32) (q_sK : Nat) (hq : q_sK = sbN sK (sn + (1 : Int32))) (hf : f_J4_append_cf468 sv sK sn p0 = some (q_sv, q_sn)) : Met l yJ4_append_cf468 (wo (.code yJ4_append_cf468 cJ4_append_cf468 2 (some (.object "java/lang/StringBuilder")))) ({ frames := 5, cells := gcC sK q_sK, slots := gcS sK q_sK, locals := 171 } : Room) (preX D dA cA [.ref h0, .int p0] sz [(h0, .inr (11, [.ref h1, .int (0 : Int32), .int sm, .int sn])), (h1, .inl (dA 2, sK, .inl sv))]) (poGr D h0 (fun u => [(h0, .inr (11, [.ref u, .int (0 : Int32), .int sm, .int q_sn])), (u, .inl (dA 2, q_sK, .inl q_sv))]) (va_A [(h0, .inr (11, [.ref h1, .int (0 : Int32), .int sm, .int sn])), (h1, .inl (dA 2, sK, .inl sv))] sz)) (gcC sK q_sK) (gcS sK q_sK) (va_A [(h0, .inr (11, [.ref h1, .int (0 : Int32), .int sm, .int sn])), (h1, .inl (dA 2, sK, .inl sv))] sz) := by
  subst hq
  refine of_X (y := yJ4_append_cf468) (cc := cJ4_append_cf468) (maxL := 2) (ret := (some (.object "java/lang/StringBuilder"))) (av := [.ref h0, .int p0]) (ws := [(h0, .inr (11, [.ref h1, .int (0 : Int32), .int sm, .int sn])), (h1, .inl (dA 2, sK, .inl sv))]) (sz := sz) (own := RJ4) (Qc := poGr D h0 _) (by decide) rfl (Nat.le_of_ble_eq_true rfl) ?_
  intro p e s m below meth c A hx hb hr ha hown hml hlocks hin hP hK hD hX hS hA ls hl
  have hC := hX.1
  have hl : lv_has ls 2 [(0, .ref h0), (1, .int p0)] := hl
  rw [f_J4_append_cf468] at hf
  refine lv_aload_n hx hb dJ4_append_cf468_0 rfl (lv_at hl 0 rfl) ?_
  refine lv_iload_n hx hb dJ4_append_cf468_1 rfl (lv_at hl 1 rfl) ?_
  obtain ⟨a_1, x_2, hc2, hf⟩ := sf_c2e hf
  refine k_Gr (wr := []) (run_XU (As := [.int p0]) (rest := []) ((hK.1 11 _ rfl).2) ⟨hx, hb, hml, hown, ha⟩ (c_J5_append_3fe6f l D dA cA h0 h1  _ sv sK sm sn p0 _ _  (sbN sK (sn + (1 : Int32))) rfl hc2) (gi_SU m_1272 m_1644 m_330 m_1273 m_41 m_1274) ⟨by decide, (yd_J5_append_3fe6f).2.2.2⟩ ⟨Nat.le_of_ble_eq_true rfl, Nat.le_of_ble_eq_true rfl⟩ ⟨rfl, rfl⟩ hK hX hS hA hP hD [0, 1] (by decide) rfl (va_recv hK hP (q0 := 0) rfl rfl) rfl hl.1 rfl (Nat.le_of_ble_eq_true rfl) dJ4_append_cf468_2 ⟨Nat.le_of_eq (Nat.zero_add _), Nat.le_of_eq (Nat.zero_add _)⟩) hP hD hS hA [0, 1] [] rfl rfl (by decide) (by decide) (fun b_3 H locs hP hD hS => ?_)
  refine W.widen (k := gcC sK (sbN sK (sn + (1 : Int32)))) (n := gcS sK (sbN sK (sn + (1 : Int32)))) (Nat.le_of_eq (Nat.zero_add _)) (Nat.le_of_eq (Nat.zero_add _)) ?_
  refine lv_pop hx hb dJ4_append_cf468_5 rfl ?_
  refine lv_aload_n hx hb dJ4_append_cf468_6 rfl (lv_at hl 0 rfl) ?_
  cases hf
  exact rt_Gr (u := b_3) hx hb hr (Or.inl ⟨_, rfl⟩) hlocks (hP.sub [0, 1] rfl) (hD.sub [0, 1] (by decide) rfl) hS dJ4_append_cf468_7

def f_J4_append_bf812 (sv : Nat → Int32) (sK : Nat) (sn : Int32) (p0 : Int32) : Option ((Nat → Int32) × Int32) :=
  sf_c2 (f_J5_append_c97b9 sv sK sn p0) (fun a_1 x_2 => some (a_1, x_2))
theorem yd_J4_append_bf812 : yJ4_append_bf812.cls = RJ4 ∧ yJ4_append_bf812.cls ≠ "java/lang/invoke/MethodHandle" ∧ yJ4_append_bf812.cls ≠ "java/lang/invoke/VarHandle" ∧ (parseMethodDescriptor yJ4_append_bf812.desc).map (fun d => d.parameters.length) = some 1 := ⟨rfl, by decide, by decide, by decide +kernel⟩
set_option maxRecDepth 100000 in
set_option maxHeartbeats 4000000 in
theorem c_J4_append_bf812 (l : Launch) (D : va_G) (dA : Nat → ClassId) (cA : Nat → Nat) (h0 h1 : Nat) (sz : Nat) (sv : Nat → Int32) (sK : Nat) (sm : Int32) (sn : Int32) (p0 : Int32) (q_sv : Nat → Int32) (q_sn : Int32) (q_sK : Nat) (hq : q_sK = sbN sK (sn + ((f_J6_stringSize_0f7a4 p0).getD 0))) (hf : f_J4_append_bf812 sv sK sn p0 = some (q_sv, q_sn)) : Met l yJ4_append_bf812 (wo (.code yJ4_append_bf812 cJ4_append_bf812 2 (some (.object "java/lang/StringBuilder")))) ({ frames := 5, cells := gcC sK q_sK, slots := gcS sK q_sK, locals := 173 } : Room) (preX D dA cA [.ref h0, .int p0] sz [(h0, .inr (11, [.ref h1, .int (0 : Int32), .int sm, .int sn])), (h1, .inl (dA 2, sK, .inl sv))]) (poGr D h0 (fun u => [(h0, .inr (11, [.ref u, .int (0 : Int32), .int sm, .int q_sn])), (u, .inl (dA 2, q_sK, .inl q_sv))]) (va_A [(h0, .inr (11, [.ref h1, .int (0 : Int32), .int sm, .int sn])), (h1, .inl (dA 2, sK, .inl sv))] sz)) (gcC sK q_sK) (gcS sK q_sK) (va_A [(h0, .inr (11, [.ref h1, .int (0 : Int32), .int sm, .int sn])), (h1, .inl (dA 2, sK, .inl sv))] sz) := by
  subst hq
  refine of_X (y := yJ4_append_bf812) (cc := cJ4_append_bf812) (maxL := 2) (ret := (some (.object "java/lang/StringBuilder"))) (av := [.ref h0, .int p0]) (ws := [(h0, .inr (11, [.ref h1, .int (0 : Int32), .int sm, .int sn])), (h1, .inl (dA 2, sK, .inl sv))]) (sz := sz) (own := RJ4) (Qc := poGr D h0 _) (by decide) rfl (Nat.le_of_ble_eq_true rfl) ?_
  intro p e s m below meth c A hx hb hr ha hown hml hlocks hin hP hK hD hX hS hA ls hl
  have hC := hX.1
  have hl : lv_has ls 2 [(0, .ref h0), (1, .int p0)] := hl
  rw [f_J4_append_bf812] at hf
  refine lv_aload_n hx hb dJ4_append_bf812_0 rfl (lv_at hl 0 rfl) ?_
  refine lv_iload_n hx hb dJ4_append_bf812_1 rfl (lv_at hl 1 rfl) ?_
  obtain ⟨a_1, x_2, hc2, hf⟩ := sf_c2e hf
  refine k_Gr (wr := []) (run_XU (As := [.int p0]) (rest := []) ((hK.1 11 _ rfl).2) ⟨hx, hb, hml, hown, ha⟩ (c_J5_append_c97b9 l D dA cA h0 h1  _ sv sK sm sn p0 _ _  (sbN sK (sn + ((f_J6_stringSize_0f7a4 p0).getD 0))) rfl hc2) (gi_SU m_989 m_1635 m_330 m_990 m_41 m_991) ⟨by decide, (yd_J5_append_c97b9).2.2.2⟩ ⟨Nat.le_of_ble_eq_true rfl, Nat.le_of_ble_eq_true rfl⟩ ⟨rfl, rfl⟩ hK hX hS hA hP hD [0, 1] (by decide) rfl (va_recv hK hP (q0 := 0) rfl rfl) rfl hl.1 rfl (Nat.le_of_ble_eq_true rfl) dJ4_append_bf812_2 ⟨Nat.le_of_eq (Nat.zero_add _), Nat.le_of_eq (Nat.zero_add _)⟩) hP hD hS hA [0, 1] [] rfl rfl (by decide) (by decide) (fun b_3 H locs hP hD hS => ?_)
  refine W.widen (k := gcC sK (sbN sK (sn + ((f_J6_stringSize_0f7a4 p0).getD 0)))) (n := gcS sK (sbN sK (sn + ((f_J6_stringSize_0f7a4 p0).getD 0)))) (Nat.le_of_eq (Nat.zero_add _)) (Nat.le_of_eq (Nat.zero_add _)) ?_
  refine lv_pop hx hb dJ4_append_bf812_5 rfl ?_
  refine lv_aload_n hx hb dJ4_append_bf812_6 rfl (lv_at hl 0 rfl) ?_
  cases hf
  exact rt_Gr (u := b_3) hx hb hr (Or.inl ⟨_, rfl⟩) hlocks (hP.sub [0, 1] rfl) (hD.sub [0, 1] (by decide) rfl) hS dJ4_append_bf812_7

def f_J4_setLength_d00df (sv : Nat → Int32) (sK : Nat) (sm : Int32) (sn : Int32) (p0 : Int32) : Option ((Nat → Int32) × Int32 × Int32) :=
  sf_c3 (f_J5_setLength_d00df sv sK sm sn p0) (fun a_1 x_2 x_3 => some (a_1, x_2, x_3))
theorem yd_J4_setLength_d00df : yJ4_setLength_d00df.cls = RJ4 ∧ yJ4_setLength_d00df.cls ≠ "java/lang/invoke/MethodHandle" ∧ yJ4_setLength_d00df.cls ≠ "java/lang/invoke/VarHandle" ∧ (parseMethodDescriptor yJ4_setLength_d00df.desc).map (fun d => d.parameters.length) = some 1 := ⟨rfl, by decide, by decide, by decide +kernel⟩
set_option maxRecDepth 100000 in
set_option maxHeartbeats 4000000 in
theorem c_J4_setLength_d00df (l : Launch) (D : va_G) (dA : Nat → ClassId) (cA : Nat → Nat) (h0 h1 : Nat) (sz : Nat) (sv : Nat → Int32) (sK : Nat) (sm : Int32) (sn : Int32) (p0 : Int32) (q_sv : Nat → Int32) (q_sm : Int32) (q_sn : Int32) (q_sK : Nat) (hq : q_sK = sbN sK p0) (hf : f_J4_setLength_d00df sv sK sm sn p0 = some (q_sv, q_sm, q_sn)) : Met l yJ4_setLength_d00df (wo (.code yJ4_setLength_d00df cJ4_setLength_d00df 2 none)) ({ frames := 5, cells := gcC sK q_sK, slots := gcS sK q_sK, locals := 171 } : Room) (preX D dA cA [.ref h0, .int p0] sz [(h0, .inr (11, [.ref h1, .int (0 : Int32), .int sm, .int sn])), (h1, .inl (dA 2, sK, .inl sv))]) (poGv D (fun u => [(h0, .inr (11, [.ref u, .int (0 : Int32), .int q_sm, .int q_sn])), (u, .inl (dA 2, q_sK, .inl q_sv))]) (va_A [(h0, .inr (11, [.ref h1, .int (0 : Int32), .int sm, .int sn])), (h1, .inl (dA 2, sK, .inl sv))] sz)) (gcC sK q_sK) (gcS sK q_sK) (va_A [(h0, .inr (11, [.ref h1, .int (0 : Int32), .int sm, .int sn])), (h1, .inl (dA 2, sK, .inl sv))] sz) := by
  subst hq
  refine of_X (y := yJ4_setLength_d00df) (cc := cJ4_setLength_d00df) (maxL := 2) (ret := none) (av := [.ref h0, .int p0]) (ws := [(h0, .inr (11, [.ref h1, .int (0 : Int32), .int sm, .int sn])), (h1, .inl (dA 2, sK, .inl sv))]) (sz := sz) (own := RJ4) (Qc := poGv D _) (by decide) rfl (Nat.le_of_ble_eq_true rfl) ?_
  intro p e s m below meth c A hx hb hr ha hown hml hlocks hin hP hK hD hX hS hA ls hl
  have hC := hX.1
  have hl : lv_has ls 2 [(0, .ref h0), (1, .int p0)] := hl
  rw [f_J4_setLength_d00df] at hf
  refine lv_aload_n hx hb dJ4_setLength_d00df_0 rfl (lv_at hl 0 rfl) ?_
  refine lv_iload_n hx hb dJ4_setLength_d00df_1 rfl (lv_at hl 1 rfl) ?_
  obtain ⟨a_1, x_2, x_3, hc3, hf⟩ := sf_c3e hf
  refine k_Gv (wr := []) (run_XU (As := [.int p0]) (rest := []) ((hK.1 11 _ rfl).2) ⟨hx, hb, hml, hown, ha⟩ (c_J5_setLength_d00df l D dA cA h0 h1  _ sv sK sm sn p0 _ _ _  (sbN sK p0) rfl hc3) (gi_SU m_1219 m_1643 m_330 m_1220 m_41 m_1221) ⟨by decide, (yd_J5_setLength_d00df).2.2.2⟩ ⟨Nat.le_of_ble_eq_true rfl, Nat.le_of_ble_eq_true rfl⟩ ⟨rfl, rfl⟩ hK hX hS hA hP hD [0, 1] (by decide) rfl (va_recv hK hP (q0 := 0) rfl rfl) rfl hl.1 rfl (Nat.le_of_ble_eq_true rfl) dJ4_setLength_d00df_2 ⟨Nat.le_of_eq (Nat.zero_add _), Nat.le_of_eq (Nat.zero_add _)⟩) hP hD hS hA [0, 1] [] rfl rfl (by decide) (by decide) (fun b_4 H locs hP hD hS => ?_)
  refine W.widen (k := gcC sK (sbN sK p0)) (n := gcS sK (sbN sK p0)) (Nat.le_of_eq (Nat.zero_add _)) (Nat.le_of_eq (Nat.zero_add _)) ?_
  cases hf
  exact rt_Gv (u := b_4) hx hb hr hlocks (hP.sub [0, 1] rfl) (hD.sub [0, 1] (by decide) rfl) hS dJ4_setLength_d00df_5

def f_J4_length_8abf5 (sn : Int32) : Option Int32 :=
  sf_c1 (f_J5_length_8abf5 sn) (fun r_1 => some r_1)
theorem yd_J4_length_8abf5 : yJ4_length_8abf5.cls = RJ4 ∧ yJ4_length_8abf5.cls ≠ "java/lang/invoke/MethodHandle" ∧ yJ4_length_8abf5.cls ≠ "java/lang/invoke/VarHandle" ∧ (parseMethodDescriptor yJ4_length_8abf5.desc).map (fun d => d.parameters.length) = some 0 := ⟨rfl, by decide, by decide, by decide +kernel⟩
set_option maxRecDepth 100000 in
set_option maxHeartbeats 4000000 in
theorem c_J4_length_8abf5 (l : Launch) (D : va_G) (dA : Nat → ClassId) (cA : Nat → Nat) (h0 h1 : Nat) (sm : Int32) (sn : Int32) (rr : Int32) (hf : f_J4_length_8abf5 sn = some rr) : Met l yJ4_length_8abf5 (wo (.code yJ4_length_8abf5 cJ4_length_8abf5 1 (some .int))) ({ frames := 1, cells := 0, slots := 0, locals := 20 } : Room) (preY D dA cA [.ref h0] [(h0, .inr (11, [.ref h1, .int (0 : Int32), .int sm, .int sn]))]) (poPi rr) 0 0 noA := by
  refine of_Y (y := yJ4_length_8abf5) (cc := cJ4_length_8abf5) (maxL := 1) (ret := (some .int)) (av := [.ref h0]) (ws := [(h0, .inr (11, [.ref h1, .int (0 : Int32), .int sm, .int sn]))]) (own := RJ4) (by decide) rfl (Nat.le_of_ble_eq_true rfl) ?_
  intro p e s m below meth c hx hb hr ha hown hml hlocks hP hK hX hS ls hl
  have hC := hX.1
  have hl : lv_has ls 1 [(0, .ref h0)] := hl
  rw [f_J4_length_8abf5] at hf
  refine lv_aload_n hx hb dJ4_length_8abf5_0 rfl (lv_at hl 0 rfl) ?_
  obtain ⟨r_1, hc1, hf⟩ := sf_c1e hf
  refine k_Pi (run_YU (As := []) (rest := []) ((hK.1 11 _ rfl).2) ⟨hx, hb, hml, hown, ha⟩ (c_J5_length_8abf5 l D dA cA h0 h1   sm sn  _  hc1) (gi_SU m_1154 m_1150 m_330 m_1149 m_41 m_1155) ⟨by decide, (yd_J5_length_8abf5).2.2.2⟩ ⟨Nat.le_of_ble_eq_true rfl, Nat.le_of_ble_eq_true rfl⟩ ⟨rfl, rfl⟩ hK hX hS hP [0] rfl (va_recv hK hP (q0 := 0) rfl rfl) rfl hl.1 rfl (Nat.le_of_ble_eq_true rfl) dJ4_length_8abf5_1 ⟨Nat.le_of_ble_eq_true rfl, Nat.le_of_ble_eq_true rfl⟩) hP hS (fun H locs hP hS => ?_)
  exact rt_Pi hx hb hr hlocks (Option.some.inj hf) hS dJ4_length_8abf5_4

def f_J4_charAt_5068e (sv : Nat → Int32) (sK : Nat) (sn : Int32) (p0 : Int32) : Option Int32 :=
  sf_c1 (f_J5_charAt_5068e sv sK sn p0) (fun r_1 => sf_g ((r_1.toUInt32 % 65536).toInt32 = r_1) (some r_1))
theorem yd_J4_charAt_5068e : yJ4_charAt_5068e.cls = RJ4 ∧ yJ4_charAt_5068e.cls ≠ "java/lang/invoke/MethodHandle" ∧ yJ4_charAt_5068e.cls ≠ "java/lang/invoke/VarHandle" ∧ (parseMethodDescriptor yJ4_charAt_5068e.desc).map (fun d => d.parameters.length) = some 1 := ⟨rfl, by decide, by decide, by decide +kernel⟩
set_option maxRecDepth 100000 in
set_option maxHeartbeats 4000000 in
theorem c_J4_charAt_5068e (l : Launch) (D : va_G) (dA : Nat → ClassId) (cA : Nat → Nat) (h0 h1 : Nat) (sv : Nat → Int32) (sK : Nat) (sm : Int32) (sn : Int32) (p0 : Int32) (rr : Int32) (hf : f_J4_charAt_5068e sv sK sn p0 = some rr) : Met l yJ4_charAt_5068e (wo (.code yJ4_charAt_5068e cJ4_charAt_5068e 2 (some .char))) ({ frames := 3, cells := 0, slots := 0, locals := 104 } : Room) (preY D dA cA [.ref h0, .int p0] [(h0, .inr (11, [.ref h1, .int (0 : Int32), .int sm, .int sn])), (h1, .inl (dA 2, sK, .inl sv))]) (poPi rr) 0 0 noA := by
  refine of_Y (y := yJ4_charAt_5068e) (cc := cJ4_charAt_5068e) (maxL := 2) (ret := (some .char)) (av := [.ref h0, .int p0]) (ws := [(h0, .inr (11, [.ref h1, .int (0 : Int32), .int sm, .int sn])), (h1, .inl (dA 2, sK, .inl sv))]) (own := RJ4) (by decide) rfl (Nat.le_of_ble_eq_true rfl) ?_
  intro p e s m below meth c hx hb hr ha hown hml hlocks hP hK hX hS ls hl
  have hC := hX.1
  have hl : lv_has ls 2 [(0, .ref h0), (1, .int p0)] := hl
  rw [f_J4_charAt_5068e] at hf
  refine lv_aload_n hx hb dJ4_charAt_5068e_0 rfl (lv_at hl 0 rfl) ?_
  refine lv_iload_n hx hb dJ4_charAt_5068e_1 rfl (lv_at hl 1 rfl) ?_
  obtain ⟨r_1, hc1, hf⟩ := sf_c1e hf
  refine k_Pi (run_YU (As := [.int p0]) (rest := []) ((hK.1 11 _ rfl).2) ⟨hx, hb, hml, hown, ha⟩ (c_J5_charAt_5068e l D dA cA h0 h1   sv sK sm sn p0 _  hc1) (gi_SU m_1312 m_1646 m_330 m_1313 m_41 m_1314) ⟨by decide, (yd_J5_charAt_5068e).2.2.2⟩ ⟨Nat.le_of_ble_eq_true rfl, Nat.le_of_ble_eq_true rfl⟩ ⟨rfl, rfl⟩ hK hX hS hP [0, 1] rfl (va_recv hK hP (q0 := 0) rfl rfl) rfl hl.1 rfl (Nat.le_of_ble_eq_true rfl) dJ4_charAt_5068e_2 ⟨Nat.le_of_ble_eq_true rfl, Nat.le_of_ble_eq_true rfl⟩) hP hS (fun H locs hP hS => ?_)
  obtain ⟨hz, hf⟩ := sf_ge hf
  exact rt_Pz hx hb hr hlocks (Option.some.inj hf) (sf_ch hz) hS dJ4_charAt_5068e_5

