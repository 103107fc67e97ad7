/-! OWN ROWS: the law's side: ways that meet again, room in loops, longs, texts made at run time -/
def sf_j {κ ρ : Type} (K : κ) (B : κ → Option ρ) : Option ρ := B K
theorem sf_jo {κ ρ : Type} {K : κ} {B : κ → Option ρ} {r : ρ} {P : Prop} {J : κ → Prop} (h : sf_j K B = some r) (hJ : J K) (hh : ∀ k, J k → B k = some r → P) : P := hh K hJ h
theorem lp_a {a n c M : Nat} (h : a + (n + 1) * c ≤ M) : a + c ≤ M := by
  rw [Nat.succ_mul] at h
  omega
theorem lp_b {a n c M : Nat} (h : a + (n + 1) * c ≤ M) : (a + c) + n * c ≤ M := by
  rw [Nat.succ_mul] at h
  omega
theorem i_sub0 (x : Int32) : x - 0 = x := Int32.toBitVec_inj.mp (by rw [Int32.toBitVec_sub]; exact BitVec.sub_zero _)
/-- Java's >>> -/
def iushr (x y : Int32) : Int32 := (x.toUInt32 >>> (y.toUInt32 &&& Int32.toUInt32 31)).toInt32
section LAWR
variable {p : Program} {l : Launch} {e : Env} {R : Room} {s : State} {m : MethodId} {args : Array Value} {below : List Frame} {meth : Method} {c : Code} {H H0 : Heap} {locs : List Loc} {cells slots : Nat} {Q : State → Prop} {cc : ByteArray} {pc : Nat} {ls : Array Slot} {D : va_G} {ws ws' : va_W} {A A0 : Nat → Prop} {rest st0 : List Value} {dA : Nat → ClassId} {cA : Nat → Nat}
theorem lw_ldcS {own tx : String} {index q : Nat} (hx : p.tables.exec = Jvm.exec) (hb : c.code = cc) (hown : s.vm.findClass own = some m.cls) (hZ : vk_R own index tx q s) (hdg : decode cc pc = .ok (.ldc_w index, 3))
    (k : W p l e R s m args below meth c H locs cells slots Q (F0 m (pc + 3) ls (.ref q :: rest))) : W p l e R s m args below meth c H locs cells slots Q (F0 m pc ls rest) := by
  intro T hT X
  obtain ⟨t, a1, b1⟩ := k T hT X
  exact ⟨t, X.ldcStringW hx hown (text := tx) (a := q) hZ.1 hZ.2 (g := F0 m pc ls rest) rfl (by rw [hb]; exact hdg) t a1, b1⟩
theorem tp_l {x z : Int64} (h : z = x) (k : W p l e R s m args below meth c H locs cells slots Q (F0 m pc ls (.long z :: rest))) : W p l e R s m args below meth c H locs cells slots Q (F0 m pc ls (.long x :: rest)) := by
  subst h
  exact k
abbrev poPl (r : Int64) : Array Value → State → Outcome → State → Prop := va_Ql (fun (r' : Int64) (_ : Unit) => r' = r) (fun _ _ => True) noA
theorem rt_Pl {v r : Int64} (hx : p.tables.exec = Jvm.exec) (hb : c.code = cc) (hr : meth.sig.returnType = some .long) (hk : meth.locks = false) (hv : v = r) (hS : va_S noA s.heap H locs) (hdg : decode cc pc = .ok (.lreturn, 1)) : W p l e R s m args below meth c H locs cells slots (MQ below (poPl r) args s cells slots noA) (F0 m pc ls [.long v]) :=
  W.lret hx hb hr (fun t ht hW => ⟨⟨v, (), rfl, hv, trivial⟩, hS.F ht⟩) hS.2.2 hdg hk
theorem rt_Gz {w : Nat → va_W} {u : Nat} {v : Int32} {ty : FieldType} (hx : p.tables.exec = Jvm.exec) (hb : c.code = cc) (hr : meth.sig.returnType = some ty) (hk : meth.locks = false) (hn : narrow ty (.int v) = .int v) (hP : va_P D cls (w u) H) (hD : va_D A (w u)) (hS : va_S A s.heap H locs) (hdg : decode cc pc = .ok (.ireturn, 1)) : W p l e R s m args below meth c H locs cells slots (MQ below (poGi D v w A) args s cells slots A) (F0 m pc ls [.int v]) :=
  W.zret hx hb hr hn (fun t ht hW => ⟨⟨v, u, rfl, rfl, by rw [ht]; exact hP, hD⟩, hS.F ht⟩) hS.2.2 hdg hk
/-- a reference that was there before, nothing changed -/
abbrev poPr (h : Nat) : Array Value → State → Outcome → State → Prop := va_Qr (fun _ : Unit => True) (fun _ a _ => a = h) noA
theorem rt_Pr {h : Nat} {rt : FieldType} (hx : p.tables.exec = Jvm.exec) (hb : c.code = cc) (hr : meth.sig.returnType = some rt) (hrt : (∃ n, rt = .object n) ∨ ∃ t, rt = .array t) (hk : meth.locks = false) (hS : va_S noA s.heap H locs) (hdg : decode cc pc = .ok (.areturn, 1)) : W p l e R s m args below meth c H locs cells slots (MQ below (poPr h) args s cells slots noA) (F0 m pc ls [.ref h]) :=
  W.aret hx hb hr hrt (Or.inr ⟨_, rfl⟩) (fun t ht hW => ⟨⟨(), h, rfl, trivial, rfl⟩, hS.F ht⟩) hS.2.2 hdg hk
/-- a text made -/
abbrev poT (D : va_G) (w : Nat → Nat → va_W) (A : Nat → Prop) : Array Value → State → Outcome → State → Prop := va_Qr (fun _ : Nat => True) (fun u a t => va_P D cls (w a u) t.heap ∧ va_D A (w a u)) A
theorem rt_T {w : Nat → Nat → va_W} {a u : Nat} {rt : FieldType} (hx : p.tables.exec = Jvm.exec) (hb : c.code = cc) (hr : meth.sig.returnType = some rt) (hrt : (∃ n, rt = .object n) ∨ ∃ t, rt = .array t) (hk : meth.locks = false) (hP : va_P D cls (w a u) H) (hD : va_D A (w a u)) (hS : va_S A s.heap H locs) (hdg : decode cc pc = .ok (.areturn, 1)) : W p l e R s m args below meth c H locs cells slots (MQ below (poT D w A) args s cells slots A) (F0 m pc ls [.ref a]) :=
  W.aret hx hb hr hrt (Or.inr ⟨_, rfl⟩) (fun t ht hW => ⟨⟨u, a, rfl, trivial, by rw [ht]; exact hP, hD⟩, hS.F ht⟩) hS.2.2 hdg hk
/-- an office made -/
abbrev poD (D : va_G) (w : (Nat → Nat) → (Nat → Nat) → va_W) (A : Nat → Prop) : Array Value → State → Outcome → State → Prop := va_Qr (fun _ : (Nat → Nat) × (Nat → Nat) => True) (fun u a t => a = u.1 0 ∧ va_P D cls (w u.1 u.2) t.heap ∧ va_D A (w u.1 u.2)) A
theorem rt_D {w : (Nat → Nat) → (Nat → Nat) → va_W} {a : Nat → Nat} {aH : Nat → Nat} {h : Nat} (h0 : h = a 0) {rt : FieldType} (hx : p.tables.exec = Jvm.exec) (hb : c.code = cc) (hr : meth.sig.returnType = some rt) (hrt : (∃ n, rt = .object n) ∨ ∃ t, rt = .array t) (hk : meth.locks = false) (hP : va_P D cls (w a aH) H) (hD : va_D A (w a aH)) (hS : va_S A s.heap H locs) (hdg : decode cc pc = .ok (.areturn, 1)) : W p l e R s m args below meth c H locs cells slots (MQ below (poD D w A) args s cells slots A) (F0 m pc ls [.ref h]) :=
  W.aret hx hb hr hrt (Or.inr ⟨_, rfl⟩) (fun t ht hW => ⟨⟨(a, aH), h, rfl, trivial, h0, by rw [ht]; exact hP, hD⟩, hS.F ht⟩) hS.2.2 hdg hk
variable {mc ms : Nat} {wc wr X pl : va_W}
theorem k_Pl {r : Int64} {a : Array Value} (hr : va_Run p l e R s m args below meth c H locs cells slots 0 0 (F0 m pc ls st0) rest (poPl r a) noA) (hP : va_P D cls ws H) (hS : va_S A0 H0 H locs)
    (kk : ∀ (H1 : Heap) (locs1 : List Loc), va_P D cls ws H1 → va_S A0 H0 H1 locs1 → W p l e R s m args below meth c H1 locs1 cells slots Q (F0 m (pc + 3) ls (.long r :: rest))) : W p l e R s m args below meth c H locs cells slots Q (F0 m pc ls st0) :=
  va_calll hr hS (fun _ _ h => h.elim) (fun _ h => h.elim) (fun r' u t H1 locs1 ht hvm hw hB hz hk hS1 => by
    obtain rfl : r' = r := hw
    exact kk H1 locs1 (hP.kept (fun k q hq => hk q.1 (hP k q hq).lt (fun z => z))) hS1)
theorem k_Pr {h : Nat} {a : Array Value} (hr : va_Run p l e R s m args below meth c H locs cells slots 0 0 (F0 m pc ls st0) rest (poPr h a) noA) (hP : va_P D cls ws H) (hS : va_S A0 H0 H locs)
    (kk : ∀ (H1 : Heap) (locs1 : List Loc), va_P D cls ws H1 → va_S A0 H0 H1 locs1 → W p l e R s m args below meth c H1 locs1 cells slots Q (F0 m (pc + 3) ls (.ref h :: rest))) : W p l e R s m args below meth c H locs cells slots Q (F0 m pc ls st0) :=
  va_callr hr hS (fun _ _ h => h.elim) (fun _ h => h.elim) (fun u ra t H1 locs1 ht hvm hw hB hz hk hS1 => by
    obtain rfl : ra = h := hB
    exact kk H1 locs1 (hP.kept (fun k q hq => hk q.1 (hP k q hq).lt (fun z => z))) hS1)
theorem k_T {w1 : Nat → Nat → va_W} {a : Array Value} (hr : va_Run p l e R s m args below meth c H locs cells slots mc ms (F0 m pc ls st0) rest (poT D w1 (va_A wc H.size) a) (va_A wc H.size)) (hP : va_P D cls ws H) (hD : va_D A0 ws) (hS : va_S A0 H0 H locs) (hA : ∀ q, H0.size ≤ q → A0 q) (isC isR : List Nat) (hC : isC.map (fun i => ws[i]?) = wc.map some) (hRr : isR.map (fun i => ws[i]?) = wr.map some) (hnd : va_nd isR = true) (hdis : ∀ i ∈ isR, i ∉ isC)
    (kk : ∀ (ra u : Nat) (H1 : Heap) (locs1 : List Loc), va_P D cls (wr ++ w1 ra u) H1 → va_D A0 (wr ++ w1 ra u) → va_S A0 H0 H1 locs1 → W p l e R s m args below meth c H1 locs1 (cells + mc) (slots + ms) Q (F0 m (pc + 3) ls (.ref ra :: rest))) : W p l e R s m args below meth c H locs cells slots Q (F0 m pc ls st0) := by
  have hF := va_free hD hS hA isC hC
  refine va_callr hr hS (fun q _ h => hF q h) hF (fun u ra t H1 locs1 ht hvm hw hB hz hk hS1 => ?_)
  obtain ⟨hP1, hD1⟩ := hB
  rw [ht] at hP1
  obtain ⟨hP2, hD2⟩ := va_join hP hD isC isR hC hRr hnd hdis hk hF hP1 hD1
  exact kk ra u H1 locs1 hP2 hD2 hS1
theorem k_TT {w1 : Nat → Nat → va_W} {a : Array Value} (hr : va_Run p l e R s m args below meth c H locs cells slots mc ms (F0 m pc ls st0) rest (poT D w1 (va_A wc H.size) a) (va_A wc H.size)) (hP : va_P D cls (X ++ pl) H) (hD : va_D A0 (X ++ pl)) (hS : va_S A0 H0 H locs) (hA : ∀ q, H0.size ≤ q → A0 q) (isC isR : List Nat) (hC : isC.map (fun i => X[i]?) = wc.map some) (hRr : isR.map (fun i => X[i]?) = wr.map some) (hnd : va_nd isR = true) (hdis : ∀ i ∈ isR, i ∉ isC)
    (kk : ∀ (ra u : Nat) (H1 : Heap) (locs1 : List Loc), va_P D cls ((wr ++ w1 ra u) ++ pl) H1 → va_D A0 ((wr ++ w1 ra u) ++ pl) → va_S A0 H0 H1 locs1 → W p l e R s m args below meth c H1 locs1 (cells + mc) (slots + ms) Q (F0 m (pc + 3) ls (.ref ra :: rest))) : W p l e R s m args below meth c H locs cells slots Q (F0 m pc ls st0) := by
  have hF := va_free hD hS hA isC (tl_map hC)
  refine va_callr hr hS (fun q _ h => hF q h) hF (fun u ra t H1 locs1 ht hvm hw hB hz hk hS1 => ?_)
  obtain ⟨hP1, hD1⟩ := hB
  rw [ht] at hP1
  obtain ⟨hP2, hD2⟩ := va_joinQ hP hD isC isR hC hRr hnd hdis hk hF hP1 hD1
  exact kk ra u H1 locs1 hP2 hD2 hS1
theorem k_TGr {w1 : Nat → va_W} {h : Nat} {a : Array Value} (hr : va_Run p l e R s m args below meth c H locs cells slots mc ms (F0 m pc ls st0) rest (poGr D h w1 (va_A wc H.size) a) (va_A wc H.size)) (hP : va_P D cls (X ++ pl) H) (hD : va_D A0 (X ++ pl)) (hS : va_S A0 H0 H locs) (hA : ∀ q, H0.size ≤ q → A0 q) (isC isR : List Nat) (hC : isC.map (fun i => X[i]?) = wc.map some) (hRr : isR.map (fun i => X[i]?) = wr.map some) (hnd : va_nd isR = true) (hdis : ∀ i ∈ isR, i ∉ isC)
    (kk : ∀ (u : Nat) (H1 : Heap) (locs1 : List Loc), va_P D cls ((wr ++ w1 u) ++ pl) H1 → va_D A0 ((wr ++ w1 u) ++ pl) → va_S A0 H0 H1 locs1 → W p l e R s m args below meth c H1 locs1 (cells + mc) (slots + ms) Q (F0 m (pc + 3) ls (.ref h :: rest))) : W p l e R s m args below meth c H locs cells slots Q (F0 m pc ls st0) := by
  have hF := va_free hD hS hA isC (tl_map hC)
  refine va_callr hr hS (fun q _ h => hF q h) hF (fun u ra t H1 locs1 ht hvm hw hB hz hk hS1 => ?_)
  obtain ⟨rfl, hP1, hD1⟩ := hB
  rw [ht] at hP1
  obtain ⟨hP2, hD2⟩ := va_joinQ hP hD isC isR hC hRr hnd hdis hk hF hP1 hD1
  exact kk u H1 locs1 hP2 hD2 hS1
theorem k_D {w1 : (Nat → Nat) → (Nat → Nat) → va_W} {a : Array Value} (hr : va_Run p l e R s m args below meth c H locs cells slots mc ms (F0 m pc ls st0) rest (poD D w1 (va_A wc H.size) a) (va_A wc H.size)) (hP : va_P D cls ws H) (hD : va_D A0 ws) (hS : va_S A0 H0 H locs) (hA : ∀ q, H0.size ≤ q → A0 q) (isC isR : List Nat) (hC : isC.map (fun i => ws[i]?) = wc.map some) (hRr : isR.map (fun i => ws[i]?) = wr.map some) (hnd : va_nd isR = true) (hdis : ∀ i ∈ isR, i ∉ isC)
    (kk : ∀ (u aH : Nat → Nat) (H1 : Heap) (locs1 : List Loc), va_P D cls (wr ++ w1 u aH) H1 → va_D A0 (wr ++ w1 u aH) → va_S A0 H0 H1 locs1 → W p l e R s m args below meth c H1 locs1 (cells + mc) (slots + ms) Q (F0 m (pc + 3) ls (.ref (u 0) :: rest))) : W p l e R s m args below meth c H locs cells slots Q (F0 m pc ls st0) := by
  have hF := va_free hD hS hA isC hC
  refine va_callr hr hS (fun q _ h => hF q h) hF (fun u ra t H1 locs1 ht hvm hw hB hz hk hS1 => ?_)
  obtain ⟨rfl, hP1, hD1⟩ := hB
  rw [ht] at hP1
  obtain ⟨hP2, hD2⟩ := va_join hP hD isC isR hC hRr hnd hdis hk hF hP1 hD1
  exact kk u.1 u.2 H1 locs1 hP2 hD2 hS1
theorem b_fit {x : Int32} (h : x.toInt8.toInt32 = x) : fits .byte (.int x) = true := by
  have h9 := pk_fb x
  rw [h] at h9
  exact h9
/-- bytes copied out of a row of the world -/
theorem cp_b {own : String} {index nL : Nat} (hx : p.tables.exec = Jvm.exec) (hb : c.code = cc) (ha : ∀ w ∈ aw, w.before args s = true) (hown : s.vm.findClass own = some m.cls) (hml : c.maxLocals = nL) (hsz : ls.size = nL) (hlink : Cond.methodLink own index arraycopyName ∈ aw) (hnat : Cond.native arraycopyName ∈ aw) (hst : Cond.static arraycopyName ∈ aw) (hini : Cond.initialized "java/lang/System" ∈ aw)
    (hK : va_K D cls (tysA dA) s) (hP : va_P D cls ws H) (hD : va_D A ws) (hS : va_S A H0 H locs) (q0 q1 : Nat) {a a0 : Nat} {n0 n1 : Nat} {f g h : Nat → Int32} (ha0 : ws[q0]? = some (a0, .inl (dA 2, n0, .inl f))) (ha1 : ws[q1]? = some (a, .inl (dA 2, n1, .inl g))) {sp dp n : Int32} (hb4 : ((¬ sp < 0 ∧ ¬ dp < 0 ∧ ¬ n < 0) ∧ sp.toNatClampNeg + n.toNatClampNeg ≤ n0 ∧ dp.toNatClampNeg + n.toNatClampNeg ≤ n1) ∧ ∀ i, i < n.toNatClampNeg → (f (sp.toNatClampNeg + i)).toInt8.toInt32 = f (sp.toNatClampNeg + i)) (hh : h = va_cpy f g sp.toNatClampNeg dp.toNatClampNeg n.toNatClampNeg) (hw : ws.set q1 (a, .inl (dA 2, n1, .inl h)) = ws')
    (hR : 1 ≤ R.frames ∧ (rest.map fun v => v.category).sum + (nativeFrameWords "java/lang/System" "arraycopy" 5 + 11) ≤ R.locals) (hdg : decode cc pc = .ok (.invokestatic index, 3))
    (kk : ∀ (H1 : Heap) (locs1 : List Loc), va_P D cls ws' H1 → va_D A ws' → va_S A H0 H1 locs1 → W p l e R s m args below meth c H1 locs1 cells slots Q (F0 m (pc + 3) ls rest)) : W p l e R s m args below meth c H locs cells slots Q (F0 m pc ls (.int n :: .int dp :: .ref a :: .int sp :: .ref a0 :: rest)) := by
  subst hw hh
  exact va_copyi hx hb (hml.trans hsz.symm) hown (ha _ hlink) (ha _ hnat) (ha _ hst) (ha _ hini) hK hP hD hS q0 q1 2 2 ha0 ha1 rfl rfl rfl hb4.1.1.1 hb4.1.1.2.1 hb4.1.1.2.2 hb4.1.2.1 hb4.1.2.2 (fun i hi => b_fit (hb4.2 i hi)) hR.1 hR.2 hdg kk
/-- bytes copied out of a constant text -/
theorem cp_k {own : String} {index nL : Nat} (hx : p.tables.exec = Jvm.exec) (hb : c.code = cc) (ha : ∀ w ∈ aw, w.before args s = true) (hown : s.vm.findClass own = some m.cls) (hml : c.maxLocals = nL) (hsz : ls.size = nL) (hlink : Cond.methodLink own index arraycopyName ∈ aw) (hnat : Cond.native arraycopyName ∈ aw) (hst : Cond.static arraycopyName ∈ aw) (hini : Cond.initialized "java/lang/System" ∈ aw)
    (hK : va_K D cls (tysA dA) s) (hP : va_P D cls ws H) (hD : va_D A ws) (hS : va_S A s.heap H locs) {a0 n0 : Nat} {f : Nat → Int32} (hT : va_T .byte a0 n0 (fun j => .int (f j)) A s s.heap) (q1 : Nat) {a : Nat} {n1 : Nat} {g h : Nat → Int32} (ha1 : ws[q1]? = some (a, .inl (dA 2, n1, .inl g))) {sp dp n : Int32} (hb4 : ((¬ sp < 0 ∧ ¬ dp < 0 ∧ ¬ n < 0) ∧ sp.toNatClampNeg + n.toNatClampNeg ≤ n0 ∧ dp.toNatClampNeg + n.toNatClampNeg ≤ n1) ∧ ∀ i, i < n.toNatClampNeg → (f (sp.toNatClampNeg + i)).toInt8.toInt32 = f (sp.toNatClampNeg + i)) (hh : h = va_cpy f g sp.toNatClampNeg dp.toNatClampNeg n.toNatClampNeg) (hw : ws.set q1 (a, .inl (dA 2, n1, .inl h)) = ws')
    (hR : 1 ≤ R.frames ∧ (rest.map fun v => v.category).sum + (nativeFrameWords "java/lang/System" "arraycopy" 5 + 11) ≤ R.locals) (hdg : decode cc pc = .ok (.invokestatic index, 3))
    (kk : ∀ (H1 : Heap) (locs1 : List Loc), va_P D cls ws' H1 → va_D A ws' → va_S A s.heap H1 locs1 → W p l e R s m args below meth c H1 locs1 cells slots Q (F0 m (pc + 3) ls rest)) : W p l e R s m args below meth c H locs cells slots Q (F0 m pc ls (.int n :: .int dp :: .ref a :: .int sp :: .ref a0 :: rest)) := by
  subst hw hh
  exact vk_copyt hx hb (hml.trans hsz.symm) hown (ha _ hlink) (ha _ hnat) (ha _ hst) (ha _ hini) hK hP hD hS hT q1 2 ha1 rfl hb4.1.1.1 hb4.1.1.2.1 hb4.1.1.2.2 hb4.1.2.1 hb4.1.2.2 (fun i hi => b_fit (hb4.2 i hi)) hR.1 hR.2 hdg kk
variable {x y : MethodName} {bytes b0 : ByteArray} {maxL nL n index m0 : Nat} {ret r0 : Option FieldType} {rm : Room} {Qc : Array Value → State → Outcome → State → Prop} {own C owner : String} {b : Nat} {As : List Value}
theorem gi_O {c0 : Cond} {idx : Nat} (h1 : Cond.methodLink own idx x ∈ aw) (h2 : Cond.sameMethod x.cls owner x.name x.desc ∈ aw) (h3 : Cond.instanceMethod ⟨owner, x.name, x.desc⟩ ∈ aw) (h4 : Cond.selects C x y ∈ aw) (h5 : Cond.instanceMethod y ∈ aw) (h6 : Cond.initialized y.cls ∈ aw) (h7 : c0 ∈ aw) : GoodIn aw (va_wsO own idx C owner x y (wo c0)) := gi_aw (fun w hw => by
  rcases List.mem_append.mp hw with h | h
  · simp only [List.mem_cons, List.not_mem_nil, or_false] at h
    rcases h with rfl | rfl | rfl | rfl | rfl | rfl <;> assumption
  · exact gi_wo h7 w h)
/-- an overriding method that changes nothing -/
theorem run_YO (S : CallFix p m c cc nL s args aw own) (hM : Met l y (wo (.code y bytes maxL ret)) rm (preY D dA cA (.ref b :: As) wc) Qc 0 0 noA) (g : GoodIn aw (va_wsO own index C owner x y (wo (.code y bytes maxL ret)))) (h0 : Cond.code ⟨owner, x.name, x.desc⟩ b0 m0 r0 ∈ aw) (hd : owner ≠ "java/lang/invoke/MethodHandle" ∧ owner ≠ "java/lang/invoke/VarHandle" ∧ (parseMethodDescriptor x.desc).map (fun d => d.parameters.length) = some n)
    (hR : rm.frames + 1 ≤ R.frames ∧ 8 + (maxL + 11) + rm.locals ≤ R.locals) (hrm : rm.cells = 0 ∧ rm.slots = 0) (hK : va_K D cls (tysA dA) s) (hC0 : CWX cA A0 s) (hS : va_S A0 s.heap H locs) (hP : va_P D cls ws H) (is : List Nat) (hC : is.filterMap (fun i => ws[i]?) = wc) (hrv : rcv s H C b)
    (hn : As.length = n) (hsize : ls.size = nL) (hst : st0 = As.reverse ++ .ref b :: rest) (hW : (rest.map fun v => v.category).sum ≤ 8) (hdg : decode cc pc = .ok (.invokevirtual index, 3)) (hf : cells ≤ R.cells ∧ slots ≤ R.slots) :
    va_Run p l e R s m args below meth c H locs cells slots 0 0 (F0 m pc ls st0) rest (Qc (Value.ref b :: As).toArray) noA :=
  va_runU S hM (va_cwO n S.2.2.2.2 g rfl hrm.1 hrm.2 h0 hd hR) ⟨preY_bl, hrv, fun U hU hW => ⟨rfl, by rw [hU]; exact hP.sub is hC, va_K.moved hW.alike hK, hC0.to hS hU hW (fun _ h => h.elim)⟩⟩ rfl hn hsize hst (lv_room hW) hdg hf
end LAWR
def f_J0_coder_7d493_r : Option Int32 :=
  sf_g (((0 : Int32).toUInt32 % 65536).toInt32 = (0 : Int32)) (some (0 : Int32))
theorem yd_J0_coder_7d493_r : yJ0_coder_7d493.cls = RJ0 ∧ yJ0_coder_7d493.cls ≠ "java/lang/invoke/MethodHandle" ∧ yJ0_coder_7d493.cls ≠ "java/lang/invoke/VarHandle" ∧ (parseMethodDescriptor yJ0_coder_7d493.desc).map (fun d => d.parameters.length) = some 0 := ⟨rfl, by decide, by decide, by decide +kernel⟩
set_option maxRecDepth 100000 in
set_option maxHeartbeats 8000000 in
theorem c_J0_coder_7d493_r (l : Launch) (D : va_G) (dA : Nat → ClassId) (cA : Nat → Nat) (h0 h1 : Nat) (rr : Int32) (hf : f_J0_coder_7d493_r  = some rr) : Met l yJ0_coder_7d493 (wo (.code yJ0_coder_7d493 cJ0_coder_7d493 1 (some .byte))) ({ frames := 0, cells := 0, slots := 0, locals := 0 } : Room) (preY D dA cA [.ref h0] [(h0, .inr (10, [.ref h1, .int (0 : Int32), .int (0 : Int32), .int (0 : Int32)]))]) (poPi rr) 0 0 noA := by
  refine of_Y (y := yJ0_coder_7d493) (cc := cJ0_coder_7d493) (maxL := 1) (ret := (some .byte)) (av := [.ref h0]) (ws := [(h0, .inr (10, [.ref h1, .int (0 : Int32), .int (0 : Int32), .int (0 : Int32)]))]) (own := RJ0) (by decide) rfl (Nat.le_of_ble_eq_true rfl) ?_
  intro p e s m below meth c hx hb hr ha hown hml hlocks hP hK hX hS ls hl
  have hC := hX.1
  have hl : lv_has ls 1 [(0, .ref h0)] := hl
  rw [f_J0_coder_7d493_r] at hf
  refine va_gets hx hb hC.1.2.2.2.2.2.2.2.1 hS hown (ha _ m_1090) (fun _ h => h) dJ0_coder_7d493_0 ?_
  refine lv_if_eq (tgt := 13) hx hb dJ0_coder_7d493_3 (by decide) (fun hc => absurd hc (by decide)) (fun hc => ?_)
  refine lv_aload_n hx hb dJ0_coder_7d493_6 rfl (lv_at hl 0 rfl) ?_
  refine gt_f (C := RJ0) (T := TJ0) (N := 4) hx hb ha in_ST hown hK hP 0 rfl rfl 1 (by decide) m_1188 rfl dJ0_coder_7d493_7 ?_
  refine lv_goto (tgt := 14) hx hb dJ0_coder_7d493_10 (by decide) ?_
  obtain ⟨hz, hf⟩ := sf_ge hf
  exact rt_Pz hx hb hr hlocks (Option.some.inj hf) (sf_ch hz) hS dJ0_coder_7d493_14

def f_J0_length_8abf5_r (tK : Nat) : Option Int32 :=
  sf_c1 (f_J0_coder_7d493_r) (fun r_1 => some ((Int32.ofNat tK) >>> (r_1 &&& 31)))
theorem yd_J0_length_8abf5_r : yJ0_length_8abf5.cls = RJ0 ∧ yJ0_length_8abf5.cls ≠ "java/lang/invoke/MethodHandle" ∧ yJ0_length_8abf5.cls ≠ "java/lang/invoke/VarHandle" ∧ (parseMethodDescriptor yJ0_length_8abf5.desc).map (fun d => d.parameters.length) = some 0 := ⟨rfl, by decide, by decide, by decide +kernel⟩
set_option maxRecDepth 100000 in
set_option maxHeartbeats 8000000 in
theorem c_J0_length_8abf5_r (l : Launch) (D : va_G) (dA : Nat → ClassId) (cA : Nat → Nat) (h0 h1 : Nat) (tv : Nat → Int32) (tK : Nat) (rr : Int32) (hf : f_J0_length_8abf5_r tK = some rr) : Met l yJ0_length_8abf5 (wo (.code yJ0_length_8abf5 cJ0_length_8abf5 1 (some .int))) ({ frames := 1, cells := 0, slots := 0, locals := 20 } : Room) (preY D dA cA [.ref h0] [(h0, .inr (10, [.ref h1, .int (0 : Int32), .int (0 : Int32), .int (0 : Int32)])), (h1, .inl (dA 2, tK, .inl tv))]) (poPi rr) 0 0 noA := by
  refine of_Y (y := yJ0_length_8abf5) (cc := cJ0_length_8abf5) (maxL := 1) (ret := (some .int)) (av := [.ref h0]) (ws := [(h0, .inr (10, [.ref h1, .int (0 : Int32), .int (0 : Int32), .int (0 : Int32)])), (h1, .inl (dA 2, tK, .inl tv))]) (own := RJ0) (by decide) rfl (Nat.le_of_ble_eq_true rfl) ?_
  intro p e s m below meth c hx hb hr ha hown hml hlocks hP hK hX hS ls hl
  have hC := hX.1
  have hl : lv_has ls 1 [(0, .ref h0)] := hl
  rw [f_J0_length_8abf5_r] at hf
  refine lv_aload_n hx hb dJ0_length_8abf5_0 rfl (lv_at hl 0 rfl) ?_
  refine gt_f (C := RJ0) (T := TJ0) (N := 4) hx hb ha in_ST hown hK hP 0 rfl rfl 0 (by decide) m_1187 rfl dJ0_length_8abf5_1 ?_
  refine va_alen (v := Int32.ofNat tK) hx hb hK hP 1 2 rfl rfl rfl dJ0_length_8abf5_4 ?_
  refine lv_aload_n hx hb dJ0_length_8abf5_5 rfl (lv_at hl 0 rfl) ?_
  obtain ⟨r_1, hc1, hf⟩ := sf_c1e hf
  refine k_Pi (run_YV (As := []) (rest := [.int (Int32.ofNat tK)]) ⟨hx, hb, hml, hown, ha⟩ (c_J0_coder_7d493_r l D dA cA h0 h1     _ hc1) (gi_V m_1086 m_1087 m_1088 m_43 m_1089) yd_J0_coder_7d493_r ⟨Nat.le_of_ble_eq_true rfl, Nat.le_of_ble_eq_true rfl⟩ ⟨rfl, rfl⟩ hK hX hS hP [0] rfl (va_recv hK hP (q0 := 0) rfl rfl) rfl hl.1 rfl (Nat.le_of_ble_eq_true rfl) dJ0_length_8abf5_6 ⟨Nat.le_of_ble_eq_true rfl, Nat.le_of_ble_eq_true rfl⟩) hP hS (fun H locs hP hS => ?_)
  refine lv_ishr hx hb dJ0_length_8abf5_9 ?_
  exact rt_Pi hx hb hr hlocks (Option.some.inj hf) hS dJ0_length_8abf5_10

def f_J0_isLatin1_aae02_r : Option Int32 :=
  some (1 : Int32)
theorem yd_J0_isLatin1_aae02_r : yJ0_isLatin1_aae02.cls = RJ0 ∧ yJ0_isLatin1_aae02.cls ≠ "java/lang/invoke/MethodHandle" ∧ yJ0_isLatin1_aae02.cls ≠ "java/lang/invoke/VarHandle" ∧ (parseMethodDescriptor yJ0_isLatin1_aae02.desc).map (fun d => d.parameters.length) = some 0 := ⟨rfl, by decide, by decide, by decide +kernel⟩
set_option maxRecDepth 100000 in
set_option maxHeartbeats 8000000 in
theorem c_J0_isLatin1_aae02_r (l : Launch) (D : va_G) (dA : Nat → ClassId) (cA : Nat → Nat) (h0 h1 : Nat) (rr : Int32) (hf : f_J0_isLatin1_aae02_r  = some rr) : Met l yJ0_isLatin1_aae02 (wo (.code yJ0_isLatin1_aae02 cJ0_isLatin1_aae02 1 (some .boolean))) ({ frames := 0, cells := 0, slots := 0, locals := 0 } : Room) (preY D dA cA [.ref h0] [(h0, .inr (10, [.ref h1, .int (0 : Int32), .int (0 : Int32), .int (0 : Int32)]))]) (poPi rr) 0 0 noA := by
  refine of_Y (y := yJ0_isLatin1_aae02) (cc := cJ0_isLatin1_aae02) (maxL := 1) (ret := (some .boolean)) (av := [.ref h0]) (ws := [(h0, .inr (10, [.ref h1, .int (0 : Int32), .int (0 : Int32), .int (0 : Int32)]))]) (own := RJ0) (by decide) rfl (Nat.le_of_ble_eq_true rfl) ?_
  intro p e s m below meth c hx hb hr ha hown hml hlocks hP hK hX hS ls hl
  have hC := hX.1
  have hl : lv_has ls 1 [(0, .ref h0)] := hl
  rw [f_J0_isLatin1_aae02_r] at hf
  refine va_gets hx hb hC.1.2.2.2.2.2.2.2.1 hS hown (ha _ m_1090) (fun _ h => h) dJ0_isLatin1_aae02_0 ?_
  refine lv_if_eq (tgt := 17) hx hb dJ0_isLatin1_aae02_3 (by decide) (fun hc => absurd hc (by decide)) (fun hc => ?_)
  refine lv_aload_n hx hb dJ0_isLatin1_aae02_6 rfl (lv_at hl 0 rfl) ?_
  refine gt_f (C := RJ0) (T := TJ0) (N := 4) hx hb ha in_ST hown hK hP 0 rfl rfl 1 (by decide) m_1188 rfl dJ0_isLatin1_aae02_7 ?_
  refine lv_if_ne (tgt := 17) hx hb dJ0_isLatin1_aae02_10 (by decide) (fun hc => absurd (by decide) hc) (fun hc => ?_)
  refine lv_iconst (v := 1) hx hb dJ0_isLatin1_aae02_13 (by decide) ?_
  refine lv_goto (tgt := 18) hx hb dJ0_isLatin1_aae02_14 (by decide) ?_
  exact rt_Pz hx hb hr hlocks (Option.some.inj hf) rfl hS dJ0_isLatin1_aae02_18

def f_J1_charAt_3b067_r (tv : Nat → Int32) (tK : Nat) (p1 : Int32) : Option Int32 :=
  sf_c0 (f_J0_checkIndex_df160 p1 (Int32.ofNat tK)) (fun _ => sf_g (sf_in p1 tK = true) (sf_g ((((((tv p1.toNatClampNeg) &&& (255 : Int32)).toUInt32 % 65536).toInt32).toUInt32 % 65536).toInt32 = ((((tv p1.toNatClampNeg) &&& (255 : Int32)).toUInt32 % 65536).toInt32)) (some ((((tv p1.toNatClampNeg) &&& (255 : Int32)).toUInt32 % 65536).toInt32))))
theorem yd_J1_charAt_3b067_r : yJ1_charAt_3b067.cls = RJ1 ∧ yJ1_charAt_3b067.cls ≠ "java/lang/invoke/MethodHandle" ∧ yJ1_charAt_3b067.cls ≠ "java/lang/invoke/VarHandle" ∧ (parseMethodDescriptor yJ1_charAt_3b067.desc).map (fun d => d.parameters.length) = some 2 := ⟨rfl, by decide, by decide, by decide +kernel⟩
set_option maxRecDepth 100000 in
set_option maxHeartbeats 8000000 in
theorem c_J1_charAt_3b067_r (l : Launch) (D : va_G) (dA : Nat → ClassId) (cA : Nat → Nat) (h0 : Nat) (tv : Nat → Int32) (tK : Nat) (p1 : Int32) (rr : Int32) (hf : f_J1_charAt_3b067_r tv tK p1 = some rr) : Met l yJ1_charAt_3b067 (wo (.code yJ1_charAt_3b067 cJ1_charAt_3b067 2 (some .char))) ({ frames := 2, cells := 0, slots := 0, locals := 43 } : Room) (preY D dA cA [.ref h0, .int p1] [(h0, .inl (dA 2, tK, .inl tv))]) (poPi rr) 0 0 noA := by
  refine of_Y (y := yJ1_charAt_3b067) (cc := cJ1_charAt_3b067) (maxL := 2) (ret := (some .char)) (av := [.ref h0, .int p1]) (ws := [(h0, .inl (dA 2, tK, .inl tv))]) (own := RJ1) (by decide) rfl (Nat.le_of_ble_eq_true rfl) ?_
  intro p e s m below meth c hx hb hr ha hown hml hlocks hP hK hX hS ls hl
  have hC := hX.1
  have hl : lv_has ls 2 [(0, .ref h0), (1, .int p1)] := hl
  rw [f_J1_charAt_3b067_r] at hf
  refine lv_iload_n hx hb dJ1_charAt_3b067_0 rfl (lv_at hl 1 rfl) ?_
  refine lv_aload_n hx hb dJ1_charAt_3b067_1 rfl (lv_at hl 0 rfl) ?_
  refine va_alen (v := Int32.ofNat tK) hx hb hK hP 0 2 rfl rfl rfl dJ1_charAt_3b067_2 ?_
  obtain ⟨hc0, hf⟩ := sf_c0e hf
  refine k_Pv (run_QS (As := [.int p1, .int (Int32.ofNat tK)]) (rest := []) ⟨hx, hb, hml, hown, ha⟩ (c_J0_checkIndex_df160 l D dA cA    p1 (Int32.ofNat tK)  hc0) (gi_S2 m_1329 m_1285 m_43 m_1286) (yd_J0_checkIndex_df160).2 ⟨Nat.le_of_ble_eq_true rfl, Nat.le_of_ble_eq_true rfl⟩ ⟨rfl, rfl⟩ hK hC hS hP [] rfl rfl hl.1 rfl (Nat.le_of_ble_eq_true rfl) dJ1_charAt_3b067_3 ⟨Nat.le_of_ble_eq_true rfl, Nat.le_of_ble_eq_true rfl⟩) hP hS (fun H locs hP hS => ?_)
  refine lv_aload_n hx hb dJ1_charAt_3b067_6 rfl (lv_at hl 0 rfl) ?_
  refine lv_iload_n hx hb dJ1_charAt_3b067_7 rfl (lv_at hl 1 rfl) ?_
  obtain ⟨hi, hf⟩ := sf_ge hf
  refine ba_ld hx hb hK hP 0 rfl hi dJ1_charAt_3b067_8 ?_
  refine lv_sipush (v := 255) hx hb dJ1_charAt_3b067_9 (by decide) ?_
  refine lv_iand hx hb dJ1_charAt_3b067_12 ?_
  refine lv_i2c hx hb dJ1_charAt_3b067_13 rfl ?_
  obtain ⟨hz, hf⟩ := sf_ge hf
  exact rt_Pz hx hb hr hlocks (Option.some.inj hf) (sf_ch hz) hS dJ1_charAt_3b067_14

def f_J0_charAt_5068e_r (tv : Nat → Int32) (tK : Nat) (p0 : Int32) : Option Int32 :=
  sf_c1 (f_J0_isLatin1_aae02_r) (fun r_1 => sf_b (r_1 = (0 : Int32)) (none) (sf_c1 (f_J1_charAt_3b067_r tv tK p0) (fun r_2 => sf_g ((r_2.toUInt32 % 65536).toInt32 = r_2) (some r_2))))
theorem yd_J0_charAt_5068e_r : yJ0_charAt_5068e.cls = RJ0 ∧ yJ0_charAt_5068e.cls ≠ "java/lang/invoke/MethodHandle" ∧ yJ0_charAt_5068e.cls ≠ "java/lang/invoke/VarHandle" ∧ (parseMethodDescriptor yJ0_charAt_5068e.desc).map (fun d => d.parameters.length) = some 1 := ⟨rfl, by decide, by decide, by decide +kernel⟩
set_option maxRecDepth 100000 in
set_option maxHeartbeats 8000000 in
theorem c_J0_charAt_5068e_r (l : Launch) (D : va_G) (dA : Nat → ClassId) (cA : Nat → Nat) (h0 h1 : Nat) (tv : Nat → Int32) (tK : Nat) (p0 : Int32) (rr : Int32) (hf : f_J0_charAt_5068e_r tv tK p0 = some rr) : Met l yJ0_charAt_5068e (wo (.code yJ0_charAt_5068e cJ0_charAt_5068e 2 (some .char))) ({ frames := 3, cells := 0, slots := 0, locals := 64 } : Room) (preY D dA cA [.ref h0, .int p0] [(h0, .inr (10, [.ref h1, .int (0 : Int32), .int (0 : Int32), .int (0 : Int32)])), (h1, .inl (dA 2, tK, .inl tv))]) (poPi rr) 0 0 noA := by
  refine of_Y (y := yJ0_charAt_5068e) (cc := cJ0_charAt_5068e) (maxL := 2) (ret := (some .char)) (av := [.ref h0, .int p0]) (ws := [(h0, .inr (10, [.ref h1, .int (0 : Int32), .int (0 : Int32), .int (0 : Int32)])), (h1, .inl (dA 2, tK, .inl tv))]) (own := RJ0) (by decide) rfl (Nat.le_of_ble_eq_true rfl) ?_
  intro p e s m below meth c hx hb hr ha hown hml hlocks hP hK hX hS ls hl
  have hC := hX.1
  have hl : lv_has ls 2 [(0, .ref h0), (1, .int p0)] := hl
  rw [f_J0_charAt_5068e_r] at hf
  refine lv_aload_n hx hb dJ0_charAt_5068e_0 rfl (lv_at hl 0 rfl) ?_
  obtain ⟨r_1, hc1, hf⟩ := sf_c1e hf
  refine k_Pi (run_YV (As := []) (rest := []) ⟨hx, hb, hml, hown, ha⟩ (c_J0_isLatin1_aae02_r l D dA cA h0 h1     _ hc1) (gi_V m_1322 m_1323 m_1324 m_43 m_1325) yd_J0_isLatin1_aae02_r ⟨Nat.le_of_ble_eq_true rfl, Nat.le_of_ble_eq_true rfl⟩ ⟨rfl, rfl⟩ hK hX hS hP [0] rfl (va_recv hK hP (q0 := 0) rfl rfl) rfl hl.1 rfl (Nat.le_of_ble_eq_true rfl) dJ0_charAt_5068e_1 ⟨Nat.le_of_ble_eq_true rfl, Nat.le_of_ble_eq_true rfl⟩) hP hS (fun H locs hP hS => ?_)
  refine lv_if_eq (tgt := 16) hx hb dJ0_charAt_5068e_4 (by decide) (fun hc => ?_) (fun hc => ?_)
  · have hf := sf_bp hf hc
    refine lv_aload_n hx hb dJ0_charAt_5068e_16 rfl (lv_at hl 0 rfl) ?_
    refine gt_f (C := RJ0) (T := TJ0) (N := 4) hx hb ha in_ST hown hK hP 0 rfl rfl 0 (by decide) m_1187 rfl dJ0_charAt_5068e_17 ?_
    refine lv_iload_n hx hb dJ0_charAt_5068e_20 rfl (lv_at hl 1 rfl) ?_
    cases hf
  · have hf := sf_bn hf hc
    refine lv_aload_n hx hb dJ0_charAt_5068e_7 rfl (lv_at hl 0 rfl) ?_
    refine gt_f (C := RJ0) (T := TJ0) (N := 4) hx hb ha in_ST hown hK hP 0 rfl rfl 0 (by decide) m_1187 rfl dJ0_charAt_5068e_8 ?_
    refine lv_iload_n hx hb dJ0_charAt_5068e_11 rfl (lv_at hl 1 rfl) ?_
    obtain ⟨r_2, hc2, hf⟩ := sf_c1e hf
    refine k_Pi (run_YS (As := [.ref h1, .int p0]) (rest := []) ⟨hx, hb, hml, hown, ha⟩ (c_J1_charAt_3b067_r l D dA cA h1   tv tK p0 _ hc2) (gi_S2 m_1326 m_1327 m_61 m_1328) (yd_J1_charAt_3b067_r).2 ⟨Nat.le_of_ble_eq_true rfl, Nat.le_of_ble_eq_true rfl⟩ ⟨rfl, rfl⟩ hK hX hS hP [1] rfl rfl hl.1 rfl (Nat.le_of_ble_eq_true rfl) dJ0_charAt_5068e_12 ⟨Nat.le_of_ble_eq_true rfl, Nat.le_of_ble_eq_true rfl⟩) hP hS (fun H locs hP hS => ?_)
    obtain ⟨hz, hf⟩ := sf_ge hf
    exact rt_Pz hx hb hr hlocks (Option.some.inj hf) (sf_ch hz) hS dJ0_charAt_5068e_15

def f_J0_getBytes_840e7_s (sv : Nat → Int32) (sK : Nat) (i0 : Nat) (p1 : Int32) (p2 : Int32) : Option (Nat → Int32) :=
  sf_c1 (f_J0_coder_7d493 i0) (fun r_1 => sf_b (r_1 = p2) (sf_g (((¬ (0 : Int32) < 0 ∧ ¬ (p1 <<< (p2 &&& 31)) < 0 ∧ ¬ (strLen i0) < 0) ∧ (0 : Int32).toNatClampNeg + (strLen i0).toNatClampNeg ≤ (cwL.getD i0 0) ∧ (p1 <<< (p2 &&& 31)).toNatClampNeg + (strLen i0).toNatClampNeg ≤ sK) ∧ ∀ i, i < (strLen i0).toNatClampNeg → ((strCh i0) ((0 : Int32).toNatClampNeg + i)).toInt8.toInt32 = (strCh i0) ((0 : Int32).toNatClampNeg + i)) (sf_n (va_cpy (strCh i0) sv (0 : Int32).toNatClampNeg (p1 <<< (p2 &&& 31)).toNatClampNeg (strLen i0).toNatClampNeg) (fun a_2 => some a_2))) (none))
theorem yd_J0_getBytes_840e7_s : yJ0_getBytes_840e7.cls = RJ0 ∧ yJ0_getBytes_840e7.cls ≠ "java/lang/invoke/MethodHandle" ∧ yJ0_getBytes_840e7.cls ≠ "java/lang/invoke/VarHandle" ∧ (parseMethodDescriptor yJ0_getBytes_840e7.desc).map (fun d => d.parameters.length) = some 3 := ⟨rfl, by decide, by decide, by decide +kernel⟩
set_option maxRecDepth 100000 in
set_option maxHeartbeats 8000000 in
theorem c_J0_getBytes_840e7_s (l : Launch) (D : va_G) (dA : Nat → ClassId) (cA : Nat → Nat) (h0 : Nat) (sz : Nat) (sv : Nat → Int32) (sK : Nat) (i0 : Nat) (hi0 : i0 < 16) (p1 : Int32) (p2 : Int32) (q_sv : Nat → Int32) (hf : f_J0_getBytes_840e7_s sv sK i0 p1 p2 = some q_sv) : Met l yJ0_getBytes_840e7 (wo (.code yJ0_getBytes_840e7 cJ0_getBytes_840e7 4 none)) ({ frames := 1, cells := 0, slots := 0, locals := 90 } : Room) (preX D dA cA [.ref (cA (100 + i0)), .ref h0, .int p1, .int p2] sz [(h0, .inl (dA 2, sK, .inl sv))]) (poMv D [(h0, .inl (dA 2, sK, .inl q_sv))] (va_A [(h0, .inl (dA 2, sK, .inl sv))] sz)) 0 0 (va_A [(h0, .inl (dA 2, sK, .inl sv))] sz) := by
  refine of_X (y := yJ0_getBytes_840e7) (cc := cJ0_getBytes_840e7) (maxL := 4) (ret := none) (av := [.ref (cA (100 + i0)), .ref h0, .int p1, .int p2]) (ws := [(h0, .inl (dA 2, sK, .inl sv))]) (sz := sz) (own := RJ0) (Qc := poMv D [(h0, .inl (dA 2, sK, .inl q_sv))]) (by decide) rfl (Nat.le_of_ble_eq_true rfl) ?_
  intro p e s m below meth c A hx hb hr ha hown hml hlocks hin hP hK hD hX hS hA ls hl
  have hC := hX.1
  have hl : lv_has ls 4 [(0, .ref (cA (100 + i0))), (1, .ref h0), (2, .int p1), (3, .int p2)] := hl
  rw [f_J0_getBytes_840e7_s] at hf
  refine lv_aload_n hx hb dJ0_getBytes_840e7_0 rfl (lv_at hl 0 rfl) ?_
  obtain ⟨r_1, hc1, hf⟩ := sf_c1e hf
  refine k_Pi (run_QV (As := []) (rest := []) ⟨hx, hb, hml, hown, ha⟩ (c_J0_coder_7d493 l D dA cA    i0 hi0 _ hc1) (gi_V m_1086 m_1087 m_1088 m_43 m_1089) yd_J0_coder_7d493 ⟨Nat.le_of_ble_eq_true rfl, Nat.le_of_ble_eq_true rfl⟩ ⟨rfl, rfl⟩ hK hC hS hP [] rfl (vk_recv (adK := fun i => cA (100 + i)) hC.1.1 hi0 hS) rfl hl.1 rfl (Nat.le_of_ble_eq_true rfl) dJ0_getBytes_840e7_1 ⟨Nat.le_of_ble_eq_true rfl, Nat.le_of_ble_eq_true rfl⟩) hP hS (fun H locs hP hS => ?_)
  refine lv_iload_n hx hb dJ0_getBytes_840e7_4 rfl (lv_at hl 3 rfl) ?_
  refine lv_icmp_ne (tgt := 28) hx hb dJ0_getBytes_840e7_5 (by decide) (fun hc => ?_) (fun hc => ?_)
  · have hf := sf_bn hf hc
    refine lv_aload_n hx hb dJ0_getBytes_840e7_28 rfl (lv_at hl 0 rfl) ?_
    refine vk_getf hx hb (hC.1.1.1 i0 hi0).2.2.1 hS hown (ha _ m_1187) (fun _ h => h) dJ0_getBytes_840e7_29 ?_
    refine lv_iconst (v := 0) hx hb dJ0_getBytes_840e7_32 (by decide) ?_
    refine lv_aload_n hx hb dJ0_getBytes_840e7_33 rfl (lv_at hl 1 rfl) ?_
    refine lv_iload_n hx hb dJ0_getBytes_840e7_34 rfl (lv_at hl 2 rfl) ?_
    refine lv_aload_n hx hb dJ0_getBytes_840e7_35 rfl (lv_at hl 0 rfl) ?_
    refine vk_getf hx hb (hC.1.1.1 i0 hi0).2.2.1 hS hown (ha _ m_1187) (fun _ h => h) dJ0_getBytes_840e7_36 ?_
    refine va_tlen (v := strLen i0) hx hb (hC.1.1.1 i0 hi0).2.2.2 hS rfl dJ0_getBytes_840e7_39 ?_
    cases hf
  · have hf := sf_bp hf hc
    refine lv_aload_n hx hb dJ0_getBytes_840e7_8 rfl (lv_at hl 0 rfl) ?_
    refine vk_getf hx hb (hC.1.1.1 i0 hi0).2.2.1 hS hown (ha _ m_1187) (fun _ h => h) dJ0_getBytes_840e7_9 ?_
    refine lv_iconst (v := 0) hx hb dJ0_getBytes_840e7_12 (by decide) ?_
    refine lv_aload_n hx hb dJ0_getBytes_840e7_13 rfl (lv_at hl 1 rfl) ?_
    refine lv_iload_n hx hb dJ0_getBytes_840e7_14 rfl (lv_at hl 2 rfl) ?_
    refine lv_iload_n hx hb dJ0_getBytes_840e7_15 rfl (lv_at hl 3 rfl) ?_
    refine lv_ishl hx hb dJ0_getBytes_840e7_16 ?_
    refine lv_aload_n hx hb dJ0_getBytes_840e7_17 rfl (lv_at hl 0 rfl) ?_
    refine vk_getf hx hb (hC.1.1.1 i0 hi0).2.2.1 hS hown (ha _ m_1187) (fun _ h => h) dJ0_getBytes_840e7_18 ?_
    refine va_tlen (v := strLen i0) hx hb (hC.1.1.1 i0 hi0).2.2.2 hS rfl dJ0_getBytes_840e7_21 ?_
    obtain ⟨hi, hf⟩ := sf_ge hf
    obtain ⟨a_2, ea_2, hf⟩ := sf_ne hf
    refine cp_k (ws' := [(h0, .inl (dA 2, sK, .inl a_2))]) hx hb ha hown hml hl.1 m_1123 m_387 m_386 m_45 hK hP hD hS (hC.1.1.1 i0 hi0).2.2.2 0 rfl hi ea_2 rfl ⟨Nat.le_of_ble_eq_true rfl, Nat.le_of_ble_eq_true rfl⟩ dJ0_getBytes_840e7_22 (fun H locs hP hD hS => ?_)
    refine lv_goto (tgt := 43) hx hb dJ0_getBytes_840e7_25 (by decide) ?_
    cases hf
    refine W.widen (k := 0) (n := 0) (Nat.le_of_ble_eq_true (n := 0) (m := 0) rfl) (Nat.le_of_ble_eq_true (n := 0) (m := 0) rfl) ?_
    exact rt_Mv hx hb hr hlocks (hP.sub [0] rfl) (hD.sub [0] (by decide) rfl) hS dJ0_getBytes_840e7_43

def f_J0_getBytes_840e7_r (tv : Nat → Int32) (tK : Nat) (sv : Nat → Int32) (sK : Nat) (p1 : Int32) (p2 : Int32) : Option (Nat → Int32) :=
  sf_c1 (f_J0_coder_7d493_r) (fun r_1 => sf_b (r_1 = p2) (sf_g (((¬ (0 : Int32) < 0 ∧ ¬ (p1 <<< (p2 &&& 31)) < 0 ∧ ¬ (Int32.ofNat tK) < 0) ∧ (0 : Int32).toNatClampNeg + (Int32.ofNat tK).toNatClampNeg ≤ tK ∧ (p1 <<< (p2 &&& 31)).toNatClampNeg + (Int32.ofNat tK).toNatClampNeg ≤ sK) ∧ ∀ i, i < (Int32.ofNat tK).toNatClampNeg → (tv ((0 : Int32).toNatClampNeg + i)).toInt8.toInt32 = tv ((0 : Int32).toNatClampNeg + i)) (sf_n (va_cpy tv sv (0 : Int32).toNatClampNeg (p1 <<< (p2 &&& 31)).toNatClampNeg (Int32.ofNat tK).toNatClampNeg) (fun a_2 => some a_2))) (none))
theorem yd_J0_getBytes_840e7_r : yJ0_getBytes_840e7.cls = RJ0 ∧ yJ0_getBytes_840e7.cls ≠ "java/lang/invoke/MethodHandle" ∧ yJ0_getBytes_840e7.cls ≠ "java/lang/invoke/VarHandle" ∧ (parseMethodDescriptor yJ0_getBytes_840e7.desc).map (fun d => d.parameters.length) = some 3 := ⟨rfl, by decide, by decide, by decide +kernel⟩
set_option maxRecDepth 100000 in
set_option maxHeartbeats 8000000 in
theorem c_J0_getBytes_840e7_r (l : Launch) (D : va_G) (dA : Nat → ClassId) (cA : Nat → Nat) (h0 h1 h2 : Nat) (sz : Nat) (tv : Nat → Int32) (tK : Nat) (sv : Nat → Int32) (sK : Nat) (p1 : Int32) (p2 : Int32) (q_sv : Nat → Int32) (hf : f_J0_getBytes_840e7_r tv tK sv sK p1 p2 = some q_sv) : Met l yJ0_getBytes_840e7 (wo (.code yJ0_getBytes_840e7 cJ0_getBytes_840e7 4 none)) ({ frames := 1, cells := 0, slots := 0, locals := 90 } : Room) (preX D dA cA [.ref h0, .ref h2, .int p1, .int p2] sz [(h0, .inr (10, [.ref h1, .int (0 : Int32), .int (0 : Int32), .int (0 : Int32)])), (h1, .inl (dA 2, tK, .inl tv)), (h2, .inl (dA 2, sK, .inl sv))]) (poMv D [(h0, .inr (10, [.ref h1, .int (0 : Int32), .int (0 : Int32), .int (0 : Int32)])), (h1, .inl (dA 2, tK, .inl tv)), (h2, .inl (dA 2, sK, .inl q_sv))] (va_A [(h0, .inr (10, [.ref h1, .int (0 : Int32), .int (0 : Int32), .int (0 : Int32)])), (h1, .inl (dA 2, tK, .inl tv)), (h2, .inl (dA 2, sK, .inl sv))] sz)) 0 0 (va_A [(h0, .inr (10, [.ref h1, .int (0 : Int32), .int (0 : Int32), .int (0 : Int32)])), (h1, .inl (dA 2, tK, .inl tv)), (h2, .inl (dA 2, sK, .inl sv))] sz) := by
  refine of_X (y := yJ0_getBytes_840e7) (cc := cJ0_getBytes_840e7) (maxL := 4) (ret := none) (av := [.ref h0, .ref h2, .int p1, .int p2]) (ws := [(h0, .inr (10, [.ref h1, .int (0 : Int32), .int (0 : Int32), .int (0 : Int32)])), (h1, .inl (dA 2, tK, .inl tv)), (h2, .inl (dA 2, sK, .inl sv))]) (sz := sz) (own := RJ0) (Qc := poMv D [(h0, .inr (10, [.ref h1, .int (0 : Int32), .int (0 : Int32), .int (0 : Int32)])), (h1, .inl (dA 2, tK, .inl tv)), (h2, .inl (dA 2, sK, .inl q_sv))]) (by decide) rfl (Nat.le_of_ble_eq_true rfl) ?_
  intro p e s m below meth c A hx hb hr ha hown hml hlocks hin hP hK hD hX hS hA ls hl
  have hC := hX.1
  have hl : lv_has ls 4 [(0, .ref h0), (1, .ref h2), (2, .int p1), (3, .int p2)] := hl
  rw [f_J0_getBytes_840e7_r] at hf
  refine lv_aload_n hx hb dJ0_getBytes_840e7_0 rfl (lv_at hl 0 rfl) ?_
  obtain ⟨r_1, hc1, hf⟩ := sf_c1e hf
  refine k_Pi (run_YV (As := []) (rest := []) ⟨hx, hb, hml, hown, ha⟩ (c_J0_coder_7d493_r l D dA cA h0 h1     _ hc1) (gi_V m_1086 m_1087 m_1088 m_43 m_1089) yd_J0_coder_7d493_r ⟨Nat.le_of_ble_eq_true rfl, Nat.le_of_ble_eq_true rfl⟩ ⟨rfl, rfl⟩ hK hX hS hP [0] rfl (va_recv hK hP (q0 := 0) rfl rfl) rfl hl.1 rfl (Nat.le_of_ble_eq_true rfl) dJ0_getBytes_840e7_1 ⟨Nat.le_of_ble_eq_true rfl, Nat.le_of_ble_eq_true rfl⟩) hP hS (fun H locs hP hS => ?_)
  refine lv_iload_n hx hb dJ0_getBytes_840e7_4 rfl (lv_at hl 3 rfl) ?_
  refine lv_icmp_ne (tgt := 28) hx hb dJ0_getBytes_840e7_5 (by decide) (fun hc => ?_) (fun hc => ?_)
  · have hf := sf_bn hf hc
    refine lv_aload_n hx hb dJ0_getBytes_840e7_28 rfl (lv_at hl 0 rfl) ?_
    refine gt_f (C := RJ0) (T := TJ0) (N := 4) hx hb ha in_ST hown hK hP 0 rfl rfl 0 (by decide) m_1187 rfl dJ0_getBytes_840e7_29 ?_
    refine lv_iconst (v := 0) hx hb dJ0_getBytes_840e7_32 (by decide) ?_
    refine lv_aload_n hx hb dJ0_getBytes_840e7_33 rfl (lv_at hl 1 rfl) ?_
    refine lv_iload_n hx hb dJ0_getBytes_840e7_34 rfl (lv_at hl 2 rfl) ?_
    refine lv_aload_n hx hb dJ0_getBytes_840e7_35 rfl (lv_at hl 0 rfl) ?_
    refine gt_f (C := RJ0) (T := TJ0) (N := 4) hx hb ha in_ST hown hK hP 0 rfl rfl 0 (by decide) m_1187 rfl dJ0_getBytes_840e7_36 ?_
    refine va_alen (v := Int32.ofNat tK) hx hb hK hP 1 2 rfl rfl rfl dJ0_getBytes_840e7_39 ?_
    cases hf
  · have hf := sf_bp hf hc
    refine lv_aload_n hx hb dJ0_getBytes_840e7_8 rfl (lv_at hl 0 rfl) ?_
    refine gt_f (C := RJ0) (T := TJ0) (N := 4) hx hb ha in_ST hown hK hP 0 rfl rfl 0 (by decide) m_1187 rfl dJ0_getBytes_840e7_9 ?_
    refine lv_iconst (v := 0) hx hb dJ0_getBytes_840e7_12 (by decide) ?_
    refine lv_aload_n hx hb dJ0_getBytes_840e7_13 rfl (lv_at hl 1 rfl) ?_
    refine lv_iload_n hx hb dJ0_getBytes_840e7_14 rfl (lv_at hl 2 rfl) ?_
    refine lv_iload_n hx hb dJ0_getBytes_840e7_15 rfl (lv_at hl 3 rfl) ?_
    refine lv_ishl hx hb dJ0_getBytes_840e7_16 ?_
    refine lv_aload_n hx hb dJ0_getBytes_840e7_17 rfl (lv_at hl 0 rfl) ?_
    refine gt_f (C := RJ0) (T := TJ0) (N := 4) hx hb ha in_ST hown hK hP 0 rfl rfl 0 (by decide) m_1187 rfl dJ0_getBytes_840e7_18 ?_
    refine va_alen (v := Int32.ofNat tK) hx hb hK hP 1 2 rfl rfl rfl dJ0_getBytes_840e7_21 ?_
    obtain ⟨hi, hf⟩ := sf_ge hf
    obtain ⟨a_2, ea_2, hf⟩ := sf_ne hf
    refine cp_b (ws' := [(h0, .inr (10, [.ref h1, .int (0 : Int32), .int (0 : Int32), .int (0 : Int32)])), (h1, .inl (dA 2, tK, .inl tv)), (h2, .inl (dA 2, sK, .inl a_2))]) hx hb ha hown hml hl.1 m_1123 m_387 m_386 m_45 hK hP hD hS 1 2 rfl rfl hi ea_2 rfl ⟨Nat.le_of_ble_eq_true rfl, Nat.le_of_ble_eq_true rfl⟩ dJ0_getBytes_840e7_22 (fun H locs hP hD hS => ?_)
    refine lv_goto (tgt := 43) hx hb dJ0_getBytes_840e7_25 (by decide) ?_
    cases hf
    refine W.widen (k := 0) (n := 0) (Nat.le_of_ble_eq_true (n := 0) (m := 0) rfl) (Nat.le_of_ble_eq_true (n := 0) (m := 0) rfl) ?_
    exact rt_Mv hx hb hr hlocks (hP.sub [0, 1, 2] rfl) (hD.sub [0, 1, 2] (by decide) rfl) hS dJ0_getBytes_840e7_43

def f_J5_inflateIfNeededFor_a7421_s (i1 : Nat) : Option Unit :=
  sf_c1 (f_J0_coder_7d493 i1) (fun r_1 => sf_b ((0 : Int32) = r_1) (some ()) (none))
theorem yd_J5_inflateIfNeededFor_a7421_s : yJ5_inflateIfNeededFor_a7421.cls = RJ5 ∧ yJ5_inflateIfNeededFor_a7421.cls ≠ "java/lang/invoke/MethodHandle" ∧ yJ5_inflateIfNeededFor_a7421.cls ≠ "java/lang/invoke/VarHandle" ∧ (parseMethodDescriptor yJ5_inflateIfNeededFor_a7421.desc).map (fun d => d.parameters.length) = some 1 := ⟨rfl, by decide, by decide, by decide +kernel⟩
set_option maxRecDepth 100000 in
set_option maxHeartbeats 8000000 in
theorem c_J5_inflateIfNeededFor_a7421_s (l : Launch) (D : va_G) (dA : Nat → ClassId) (cA : Nat → Nat) (h0 h1 : Nat) (sm : Int32) (sn : Int32) (i1 : Nat) (hi1 : i1 < 16) (hf : f_J5_inflateIfNeededFor_a7421_s i1 = some ()) : Met l yJ5_inflateIfNeededFor_a7421 (wo (.code yJ5_inflateIfNeededFor_a7421 cJ5_inflateIfNeededFor_a7421 2 none)) ({ frames := 1, cells := 0, slots := 0, locals := 20 } : Room) (preY D dA cA [.ref h0, .ref (cA (100 + i1))] [(h0, .inr (11, [.ref h1, .int (0 : Int32), .int sm, .int sn]))]) (poPv) 0 0 noA := by
  refine of_Y (y := yJ5_inflateIfNeededFor_a7421) (cc := cJ5_inflateIfNeededFor_a7421) (maxL := 2) (ret := none) (av := [.ref h0, .ref (cA (100 + i1))]) (ws := [(h0, .inr (11, [.ref h1, .int (0 : Int32), .int sm, .int sn]))]) (own := RJ5) (by decide) rfl (Nat.le_of_ble_eq_true rfl) ?_
  intro p e s m below meth c hx hb hr ha hown hml hlocks hP hK hX hS ls hl
  have hC := hX.1
  have hl : lv_has ls 2 [(0, .ref h0), (1, .ref (cA (100 + i1)))] := hl
  rw [f_J5_inflateIfNeededFor_a7421_s] at hf
  refine va_gets hx hb hC.1.2.2.2.2.2.2.2.1 hS hown (ha _ m_308) (fun _ h => h) dJ5_inflateIfNeededFor_a7421_0 ?_
  refine lv_if_eq (tgt := 21) hx hb dJ5_inflateIfNeededFor_a7421_3 (by decide) (fun hc => absurd hc (by decide)) (fun hc => ?_)
  refine lv_aload_n hx hb dJ5_inflateIfNeededFor_a7421_6 rfl (lv_at hl 0 rfl) ?_
  refine gt_f (C := RJ4) (T := TJ4) (N := 4) hx hb ha in_SB hown hK hP 0 rfl rfl 1 (by decide) m_318 rfl dJ5_inflateIfNeededFor_a7421_7 ?_
  refine lv_aload_n hx hb dJ5_inflateIfNeededFor_a7421_10 rfl (lv_at hl 1 rfl) ?_
  obtain ⟨r_1, hc1, hf⟩ := sf_c1e hf
  refine k_Pi (run_QV (As := []) (rest := [.int (0 : Int32)]) ⟨hx, hb, hml, hown, ha⟩ (c_J0_coder_7d493 l D dA cA    i1 hi1 _ hc1) (gi_V m_1099 m_1087 m_1088 m_43 m_1089) yd_J0_coder_7d493 ⟨Nat.le_of_ble_eq_true rfl, Nat.le_of_ble_eq_true rfl⟩ ⟨rfl, rfl⟩ hK hC hS hP [] rfl (vk_recv (adK := fun i => cA (100 + i)) hC.1.1 hi1 hS) rfl hl.1 rfl (Nat.le_of_ble_eq_true rfl) dJ5_inflateIfNeededFor_a7421_11 ⟨Nat.le_of_ble_eq_true rfl, Nat.le_of_ble_eq_true rfl⟩) hP hS (fun H locs hP hS => ?_)
  refine lv_icmp_eq (tgt := 21) hx hb dJ5_inflateIfNeededFor_a7421_14 (by decide) (fun hc => ?_) (fun hc => ?_)
  · have hf := sf_bp hf hc
    exact rt_Pv hx hb hr hlocks hS dJ5_inflateIfNeededFor_a7421_21
  · have hf := sf_bn hf hc
    refine lv_aload_n hx hb dJ5_inflateIfNeededFor_a7421_17 rfl (lv_at hl 0 rfl) ?_
    cases hf

def f_J5_inflateIfNeededFor_a7421_r : Option Unit :=
  sf_c1 (f_J0_coder_7d493_r) (fun r_1 => sf_b ((0 : Int32) = r_1) (some ()) (none))
theorem yd_J5_inflateIfNeededFor_a7421_r : yJ5_inflateIfNeededFor_a7421.cls = RJ5 ∧ yJ5_inflateIfNeededFor_a7421.cls ≠ "java/lang/invoke/MethodHandle" ∧ yJ5_inflateIfNeededFor_a7421.cls ≠ "java/lang/invoke/VarHandle" ∧ (parseMethodDescriptor yJ5_inflateIfNeededFor_a7421.desc).map (fun d => d.parameters.length) = some 1 := ⟨rfl, by decide, by decide, by decide +kernel⟩
set_option maxRecDepth 100000 in
set_option maxHeartbeats 8000000 in
theorem c_J5_inflateIfNeededFor_a7421_r (l : Launch) (D : va_G) (dA : Nat → ClassId) (cA : Nat → Nat) (h0 h1 h2 h3 : Nat) (sm : Int32) (sn : Int32) (hf : f_J5_inflateIfNeededFor_a7421_r  = some ()) : Met l yJ5_inflateIfNeededFor_a7421 (wo (.code yJ5_inflateIfNeededFor_a7421 cJ5_inflateIfNeededFor_a7421 2 none)) ({ frames := 1, cells := 0, slots := 0, locals := 20 } : Room) (preY D dA cA [.ref h0, .ref h2] [(h0, .inr (11, [.ref h1, .int (0 : Int32), .int sm, .int sn])), (h2, .inr (10, [.ref h3, .int (0 : Int32), .int (0 : Int32), .int (0 : Int32)]))]) (poPv) 0 0 noA := by
  refine of_Y (y := yJ5_inflateIfNeededFor_a7421) (cc := cJ5_inflateIfNeededFor_a7421) (maxL := 2) (ret := none) (av := [.ref h0, .ref h2]) (ws := [(h0, .inr (11, [.ref h1, .int (0 : Int32), .int sm, .int sn])), (h2, .inr (10, [.ref h3, .int (0 : Int32), .int (0 : Int32), .int (0 : Int32)]))]) (own := RJ5) (by decide) rfl (Nat.le_of_ble_eq_true rfl) ?_
  intro p e s m below meth c hx hb hr ha hown hml hlocks hP hK hX hS ls hl
  have hC := hX.1
  have hl : lv_has ls 2 [(0, .ref h0), (1, .ref h2)] := hl
  rw [f_J5_inflateIfNeededFor_a7421_r] at hf
  refine va_gets hx hb hC.1.2.2.2.2.2.2.2.1 hS hown (ha _ m_308) (fun _ h => h) dJ5_inflateIfNeededFor_a7421_0 ?_
  refine lv_if_eq (tgt := 21) hx hb dJ5_inflateIfNeededFor_a7421_3 (by decide) (fun hc => absurd hc (by decide)) (fun hc => ?_)
  refine lv_aload_n hx hb dJ5_inflateIfNeededFor_a7421_6 rfl (lv_at hl 0 rfl) ?_
  refine gt_f (C := RJ4) (T := TJ4) (N := 4) hx hb ha in_SB hown hK hP 0 rfl rfl 1 (by decide) m_318 rfl dJ5_inflateIfNeededFor_a7421_7 ?_
  refine lv_aload_n hx hb dJ5_inflateIfNeededFor_a7421_10 rfl (lv_at hl 1 rfl) ?_
  obtain ⟨r_1, hc1, hf⟩ := sf_c1e hf
  refine k_Pi (run_YV (As := []) (rest := [.int (0 : Int32)]) ⟨hx, hb, hml, hown, ha⟩ (c_J0_coder_7d493_r l D dA cA h2 h3     _ hc1) (gi_V m_1099 m_1087 m_1088 m_43 m_1089) yd_J0_coder_7d493_r ⟨Nat.le_of_ble_eq_true rfl, Nat.le_of_ble_eq_true rfl⟩ ⟨rfl, rfl⟩ hK hX hS hP [1] rfl (va_recv hK hP (q0 := 1) rfl rfl) rfl hl.1 rfl (Nat.le_of_ble_eq_true rfl) dJ5_inflateIfNeededFor_a7421_11 ⟨Nat.le_of_ble_eq_true rfl, Nat.le_of_ble_eq_true rfl⟩) hP hS (fun H locs hP hS => ?_)
  refine lv_icmp_eq (tgt := 21) hx hb dJ5_inflateIfNeededFor_a7421_14 (by decide) (fun hc => ?_) (fun hc => ?_)
  · have hf := sf_bp hf hc
    exact rt_Pv hx hb hr hlocks hS dJ5_inflateIfNeededFor_a7421_21
  · have hf := sf_bn hf hc
    refine lv_aload_n hx hb dJ5_inflateIfNeededFor_a7421_17 rfl (lv_at hl 0 rfl) ?_
    cases hf

def f_J5_putStringAt_47b60_s (sv : Nat → Int32) (sK : Nat) (p0 : Int32) (i2 : Nat) : Option (Nat → Int32) :=
  sf_c0 (f_J5_inflateIfNeededFor_a7421_s i2) (fun _ => sf_c1 (f_J0_getBytes_840e7_s sv sK i2 p0 (0 : Int32)) (fun a_1 => some a_1))
theorem yd_J5_putStringAt_47b60_s : yJ5_putStringAt_47b60.cls = RJ5 ∧ yJ5_putStringAt_47b60.cls ≠ "java/lang/invoke/MethodHandle" ∧ yJ5_putStringAt_47b60.cls ≠ "java/lang/invoke/VarHandle" ∧ (parseMethodDescriptor yJ5_putStringAt_47b60.desc).map (fun d => d.parameters.length) = some 2 := ⟨rfl, by decide, by decide, by decide +kernel⟩
set_option maxRecDepth 100000 in
set_option maxHeartbeats 8000000 in
theorem c_J5_putStringAt_47b60_s (l : Launch) (D : va_G) (dA : Nat → ClassId) (cA : Nat → Nat) (h0 h1 : Nat) (sz : Nat) (sv : Nat → Int32) (sK : Nat) (sm : Int32) (sn : Int32) (p0 : Int32) (i2 : Nat) (hi2 : i2 < 16) (q_sv : Nat → Int32) (hf : f_J5_putStringAt_47b60_s sv sK p0 i2 = some q_sv) : Met l yJ5_putStringAt_47b60 (wo (.code yJ5_putStringAt_47b60 cJ5_putStringAt_47b60 3 none)) ({ frames := 2, cells := 0, slots := 0, locals := 113 } : Room) (preX D dA cA [.ref h0, .int p0, .ref (cA (100 + i2))] sz [(h0, .inr (11, [.ref h1, .int (0 : Int32), .int sm, .int sn])), (h1, .inl (dA 2, sK, .inl sv))]) (poMv D [(h0, .inr (11, [.ref h1, .int (0 : Int32), .int sm, .int sn])), (h1, .inl (dA 2, sK, .inl q_sv))] (va_A [(h0, .inr (11, [.ref h1, .int (0 : Int32), .int sm, .int sn])), (h1, .inl (dA 2, sK, .inl sv))] sz)) 0 0 (va_A [(h0, .inr (11, [.ref h1, .int (0 : Int32), .int sm, .int sn])), (h1, .inl (dA 2, sK, .inl sv))] sz) := by
  refine of_X (y := yJ5_putStringAt_47b60) (cc := cJ5_putStringAt_47b60) (maxL := 3) (ret := none) (av := [.ref h0, .int p0, .ref (cA (100 + i2))]) (ws := [(h0, .inr (11, [.ref h1, .int (0 : Int32), .int sm, .int sn])), (h1, .inl (dA 2, sK, .inl sv))]) (sz := sz) (own := RJ5) (Qc := poMv D [(h0, .inr (11, [.ref h1, .int (0 : Int32), .int sm, .int sn])), (h1, .inl (dA 2, sK, .inl q_sv))]) (by decide) rfl (Nat.le_of_ble_eq_true rfl) ?_
  intro p e s m below meth c A hx hb hr ha hown hml hlocks hin hP hK hD hX hS hA ls hl
  have hC := hX.1
  have hl : lv_has ls 3 [(0, .ref h0), (1, .int p0), (2, .ref (cA (100 + i2)))] := hl
  rw [f_J5_putStringAt_47b60_s] at hf
  refine lv_aload_n hx hb dJ5_putStringAt_47b60_0 rfl (lv_at hl 0 rfl) ?_
  refine lv_aload_n hx hb dJ5_putStringAt_47b60_1 rfl (lv_at hl 2 rfl) ?_
  obtain ⟨hc0, hf⟩ := sf_c0e hf
  refine k_Pv (run_YW (As := [.ref (cA (100 + i2))]) (rest := []) ⟨hx, hb, hml, hown, ha⟩ (hX.2.2.2.2.2.2.2.1 _ (List.mem_of_getElem? (i := 3) rfl)) (c_J5_inflateIfNeededFor_a7421_s l D dA cA h0 h1   sm sn i2 hi2  hc0) (gi_W (C := RJ4) (owner := RJ5) m_1095 m_1641 m_1097 m_41 m_1098) ⟨rfl, by decide, by decide, (yd_J5_inflateIfNeededFor_a7421_s).2.2.2⟩ ⟨Nat.le_of_ble_eq_true rfl, Nat.le_of_ble_eq_true rfl⟩ ⟨rfl, rfl⟩ hK hX hS hP [0] rfl (va_recv hK hP (q0 := 0) rfl rfl) rfl hl.1 rfl (Nat.le_of_ble_eq_true rfl) dJ5_putStringAt_47b60_2 ⟨Nat.le_of_ble_eq_true rfl, Nat.le_of_ble_eq_true rfl⟩) hP hS (fun H locs hP hS => ?_)
  refine lv_aload_n hx hb dJ5_putStringAt_47b60_5 rfl (lv_at hl 2 rfl) ?_
  refine lv_aload_n hx hb dJ5_putStringAt_47b60_6 rfl (lv_at hl 0 rfl) ?_
  refine gt_f (C := RJ4) (T := TJ4) (N := 4) hx hb ha in_SB hown hK hP 0 rfl rfl 0 (by decide) m_317 rfl dJ5_putStringAt_47b60_7 ?_
  refine lv_iload_n hx hb dJ5_putStringAt_47b60_10 rfl (lv_at hl 1 rfl) ?_
  refine lv_aload_n hx hb dJ5_putStringAt_47b60_11 rfl (lv_at hl 0 rfl) ?_
  refine gt_f (C := RJ4) (T := TJ4) (N := 4) hx hb ha in_SB hown hK hP 0 rfl rfl 1 (by decide) m_318 rfl dJ5_putStringAt_47b60_12 ?_
  obtain ⟨a_1, hc1, hf⟩ := sf_c1e hf
  refine k_Mv (wr := [(h0, .inr (11, [.ref h1, .int (0 : Int32), .int sm, .int sn]))]) (run_XV (As := [.ref h1, .int p0, .int (0 : Int32)]) (rest := []) ⟨hx, hb, hml, hown, ha⟩ (c_J0_getBytes_840e7_s l D dA cA h1  _ sv sK i2 hi2 p0 (0 : Int32) _ hc1) (gi_V m_1119 m_1120 m_1121 m_43 m_1122) yd_J0_getBytes_840e7_s ⟨Nat.le_of_ble_eq_true rfl, Nat.le_of_ble_eq_true rfl⟩ ⟨rfl, rfl⟩ hK hX hS hA hP hD [1] (by decide) rfl (vk_recv (adK := fun i => cA (100 + i)) hC.1.1 hi2 hS) rfl hl.1 rfl (Nat.le_of_ble_eq_true rfl) dJ5_putStringAt_47b60_15 ⟨Nat.le_of_ble_eq_true rfl, Nat.le_of_ble_eq_true rfl⟩) hP hD hS hA [1] [0] rfl rfl (by decide) (by decide) (fun H locs hP hD hS => ?_)
  cases hf
  refine W.widen (k := 0) (n := 0) (Nat.le_of_ble_eq_true (n := 0) (m := 0) rfl) (Nat.le_of_ble_eq_true (n := 0) (m := 0) rfl) ?_
  exact rt_Mv hx hb hr hlocks (hP.sub [0, 1] rfl) (hD.sub [0, 1] (by decide) rfl) hS dJ5_putStringAt_47b60_18

def f_J5_putStringAt_47b60_r (sv : Nat → Int32) (sK : Nat) (tv : Nat → Int32) (tK : Nat) (p0 : Int32) : Option (Nat → Int32) :=
  sf_c0 (f_J5_inflateIfNeededFor_a7421_r) (fun _ => sf_c1 (f_J0_getBytes_840e7_r tv tK sv sK p0 (0 : Int32)) (fun a_1 => some a_1))
theorem yd_J5_putStringAt_47b60_r : yJ5_putStringAt_47b60.cls = RJ5 ∧ yJ5_putStringAt_47b60.cls ≠ "java/lang/invoke/MethodHandle" ∧ yJ5_putStringAt_47b60.cls ≠ "java/lang/invoke/VarHandle" ∧ (parseMethodDescriptor yJ5_putStringAt_47b60.desc).map (fun d => d.parameters.length) = some 2 := ⟨rfl, by decide, by decide, by decide +kernel⟩
set_option maxRecDepth 100000 in
set_option maxHeartbeats 8000000 in
theorem c_J5_putStringAt_47b60_r (l : Launch) (D : va_G) (dA : Nat → ClassId) (cA : Nat → Nat) (h0 h1 h2 h3 : Nat) (sz : Nat) (sv : Nat → Int32) (sK : Nat) (sm : Int32) (sn : Int32) (tv : Nat → Int32) (tK : Nat) (p0 : Int32) (q_sv : Nat → Int32) (hf : f_J5_putStringAt_47b60_r sv sK tv tK p0 = some q_sv) : Met l yJ5_putStringAt_47b60 (wo (.code yJ5_putStringAt_47b60 cJ5_putStringAt_47b60 3 none)) ({ frames := 2, cells := 0, slots := 0, locals := 113 } : Room) (preX D dA cA [.ref h0, .int p0, .ref h2] sz [(h0, .inr (11, [.ref h1, .int (0 : Int32), .int sm, .int sn])), (h1, .inl (dA 2, sK, .inl sv)), (h2, .inr (10, [.ref h3, .int (0 : Int32), .int (0 : Int32), .int (0 : Int32)])), (h3, .inl (dA 2, tK, .inl tv))]) (poMv D [(h0, .inr (11, [.ref h1, .int (0 : Int32), .int sm, .int sn])), (h1, .inl (dA 2, sK, .inl q_sv)), (h2, .inr (10, [.ref h3, .int (0 : Int32), .int (0 : Int32), .int (0 : Int32)])), (h3, .inl (dA 2, tK, .inl tv))] (va_A [(h0, .inr (11, [.ref h1, .int (0 : Int32), .int sm, .int sn])), (h1, .inl (dA 2, sK, .inl sv)), (h2, .inr (10, [.ref h3, .int (0 : Int32), .int (0 : Int32), .int (0 : Int32)])), (h3, .inl (dA 2, tK, .inl tv))] sz)) 0 0 (va_A [(h0, .inr (11, [.ref h1, .int (0 : Int32), .int sm, .int sn])), (h1, .inl (dA 2, sK, .inl sv)), (h2, .inr (10, [.ref h3, .int (0 : Int32), .int (0 : Int32), .int (0 : Int32)])), (h3, .inl (dA 2, tK, .inl tv))] sz) := by
  refine of_X (y := yJ5_putStringAt_47b60) (cc := cJ5_putStringAt_47b60) (maxL := 3) (ret := none) (av := [.ref h0, .int p0, .ref h2]) (ws := [(h0, .inr (11, [.ref h1, .int (0 : Int32), .int sm, .int sn])), (h1, .inl (dA 2, sK, .inl sv)), (h2, .inr (10, [.ref h3, .int (0 : Int32), .int (0 : Int32), .int (0 : Int32)])), (h3, .inl (dA 2, tK, .inl tv))]) (sz := sz) (own := RJ5) (Qc := poMv D [(h0, .inr (11, [.ref h1, .int (0 : Int32), .int sm, .int sn])), (h1, .inl (dA 2, sK, .inl q_sv)), (h2, .inr (10, [.ref h3, .int (0 : Int32), .int (0 : Int32), .int (0 : Int32)])), (h3, .inl (dA 2, tK, .inl tv))]) (by decide) rfl (Nat.le_of_ble_eq_true rfl) ?_
  intro p e s m below meth c A hx hb hr ha hown hml hlocks hin hP hK hD hX hS hA ls hl
  have hC := hX.1
  have hl : lv_has ls 3 [(0, .ref h0), (1, .int p0), (2, .ref h2)] := hl
  rw [f_J5_putStringAt_47b60_r] at hf
  refine lv_aload_n hx hb dJ5_putStringAt_47b60_0 rfl (lv_at hl 0 rfl) ?_
  refine lv_aload_n hx hb dJ5_putStringAt_47b60_1 rfl (lv_at hl 2 rfl) ?_
  obtain ⟨hc0, hf⟩ := sf_c0e hf
  refine k_Pv (run_YW (As := [.ref h2]) (rest := []) ⟨hx, hb, hml, hown, ha⟩ (hX.2.2.2.2.2.2.2.1 _ (List.mem_of_getElem? (i := 3) rfl)) (c_J5_inflateIfNeededFor_a7421_r l D dA cA h0 h1 h2 h3   sm sn   hc0) (gi_W (C := RJ4) (owner := RJ5) m_1095 m_1641 m_1097 m_41 m_1098) ⟨rfl, by decide, by decide, (yd_J5_inflateIfNeededFor_a7421_r).2.2.2⟩ ⟨Nat.le_of_ble_eq_true rfl, Nat.le_of_ble_eq_true rfl⟩ ⟨rfl, rfl⟩ hK hX hS hP [0, 2] rfl (va_recv hK hP (q0 := 0) rfl rfl) rfl hl.1 rfl (Nat.le_of_ble_eq_true rfl) dJ5_putStringAt_47b60_2 ⟨Nat.le_of_ble_eq_true rfl, Nat.le_of_ble_eq_true rfl⟩) hP hS (fun H locs hP hS => ?_)
  refine lv_aload_n hx hb dJ5_putStringAt_47b60_5 rfl (lv_at hl 2 rfl) ?_
  refine lv_aload_n hx hb dJ5_putStringAt_47b60_6 rfl (lv_at hl 0 rfl) ?_
  refine gt_f (C := RJ4) (T := TJ4) (N := 4) hx hb ha in_SB hown hK hP 0 rfl rfl 0 (by decide) m_317 rfl dJ5_putStringAt_47b60_7 ?_
  refine lv_iload_n hx hb dJ5_putStringAt_47b60_10 rfl (lv_at hl 1 rfl) ?_
  refine lv_aload_n hx hb dJ5_putStringAt_47b60_11 rfl (lv_at hl 0 rfl) ?_
  refine gt_f (C := RJ4) (T := TJ4) (N := 4) hx hb ha in_SB hown hK hP 0 rfl rfl 1 (by decide) m_318 rfl dJ5_putStringAt_47b60_12 ?_
  obtain ⟨a_1, hc1, hf⟩ := sf_c1e hf
  refine k_Mv (wr := [(h0, .inr (11, [.ref h1, .int (0 : Int32), .int sm, .int sn]))]) (run_XV (As := [.ref h1, .int p0, .int (0 : Int32)]) (rest := []) ⟨hx, hb, hml, hown, ha⟩ (c_J0_getBytes_840e7_r l D dA cA h2 h3 h1  _ tv tK sv sK p0 (0 : Int32) _ hc1) (gi_V m_1119 m_1120 m_1121 m_43 m_1122) yd_J0_getBytes_840e7_r ⟨Nat.le_of_ble_eq_true rfl, Nat.le_of_ble_eq_true rfl⟩ ⟨rfl, rfl⟩ hK hX hS hA hP hD [2, 3, 1] (by decide) rfl (va_recv hK hP (q0 := 2) rfl rfl) rfl hl.1 rfl (Nat.le_of_ble_eq_true rfl) dJ5_putStringAt_47b60_15 ⟨Nat.le_of_ble_eq_true rfl, Nat.le_of_ble_eq_true rfl⟩) hP hD hS hA [2, 3, 1] [0] rfl rfl (by decide) (by decide) (fun H locs hP hD hS => ?_)
  cases hf
  refine W.widen (k := 0) (n := 0) (Nat.le_of_ble_eq_true (n := 0) (m := 0) rfl) (Nat.le_of_ble_eq_true (n := 0) (m := 0) rfl) ?_
  exact rt_Mv hx hb hr hlocks (hP.sub [0, 3, 1, 2] rfl) (hD.sub [0, 3, 1, 2] (by decide) rfl) hS dJ5_putStringAt_47b60_18

def f_J5_append_cf1ce_s (sv : Nat → Int32) (sK : Nat) (sn : Int32) (i1 : Nat) : Option ((Nat → Int32) × Nat × Int32) :=
  sf_c1 (f_J0_length_8abf5 i1) (fun r_1 => sf_n (sbN sK (sn + r_1)) (fun d_2 => sf_g (sbOk d_2 = true) (sf_c1 (f_J5_ensure sv sK (sn + r_1)) (fun a_3 => sf_c1 (f_J5_putStringAt_47b60_s a_3 d_2 sn i1) (fun a_5 => sf_n ((sn + r_1)) (fun x_6 => some (a_5, d_2, x_6)))))))
theorem yd_J5_append_cf1ce_s : yJ5_append_cf1ce.cls = RJ5 ∧ yJ5_append_cf1ce.cls ≠ "java/lang/invoke/MethodHandle" ∧ yJ5_append_cf1ce.cls ≠ "java/lang/invoke/VarHandle" ∧ (parseMethodDescriptor yJ5_append_cf1ce.desc).map (fun d => d.parameters.length) = some 1 := ⟨rfl, by decide, by decide, by decide +kernel⟩
set_option maxRecDepth 100000 in
set_option maxHeartbeats 8000000 in
theorem c_J5_append_cf1ce_s (l : Launch) (D : va_G) (dA : Nat → ClassId) (cA : Nat → Nat) (h0 h1 : Nat) (sz : Nat) (sv : Nat → Int32) (sK : Nat) (sm : Int32) (sn : Int32) (i1 : Nat) (hi1 : i1 < 16) (q_sv : Nat → Int32) (q_sK : Nat) (q_sn : Int32) (hf : f_J5_append_cf1ce_s sv sK sn i1 = some (q_sv, q_sK, q_sn)) : Met l yJ5_append_cf1ce (wo (.code yJ5_append_cf1ce cJ5_append_cf1ce 3 (some (.object "java/lang/AbstractStringBuilder")))) ({ frames := 4, cells := 1, slots := 286, locals := 150 } : Room) (preX D dA cA [.ref h0, .ref (cA (100 + i1))] sz [(h0, .inr (11, [.ref h1, .int (0 : Int32), .int sm, .int sn])), (h1, .inl (dA 2, sK, .inl sv))]) (poGr D h0 (fun u => [(h0, .inr (11, [.ref u, .int (0 : Int32), .int sm, .int q_sn])), (u, .inl (dA 2, q_sK, .inl q_sv))]) (va_A [(h0, .inr (11, [.ref h1, .int (0 : Int32), .int sm, .int sn])), (h1, .inl (dA 2, sK, .inl sv))] sz)) 1 286 (va_A [(h0, .inr (11, [.ref h1, .int (0 : Int32), .int sm, .int sn])), (h1, .inl (dA 2, sK, .inl sv))] sz) := by
  refine of_X (y := yJ5_append_cf1ce) (cc := cJ5_append_cf1ce) (maxL := 3) (ret := (some (.object "java/lang/AbstractStringBuilder"))) (av := [.ref h0, .ref (cA (100 + i1))]) (ws := [(h0, .inr (11, [.ref h1, .int (0 : Int32), .int sm, .int sn])), (h1, .inl (dA 2, sK, .inl sv))]) (sz := sz) (own := RJ5) (Qc := poGr D h0 (fun u => [(h0, .inr (11, [.ref u, .int (0 : Int32), .int sm, .int q_sn])), (u, .inl (dA 2, q_sK, .inl q_sv))])) (by decide) rfl (Nat.le_of_ble_eq_true rfl) ?_
  intro p e s m below meth c A hx hb hr ha hown hml hlocks hin hP hK hD hX hS hA ls hl
  have hC := hX.1
  have hl : lv_has ls 3 [(0, .ref h0), (1, .ref (cA (100 + i1)))] := hl
  rw [f_J5_append_cf1ce_s] at hf
  refine lv_aload_n hx hb dJ5_append_cf1ce_0 rfl (lv_at hl 1 rfl) ?_
  refine lv_ifnonnull (tgt := 9) hx hb dJ5_append_cf1ce_1 (by decide) ?_
  refine lv_aload_n hx hb dJ5_append_cf1ce_9 rfl (lv_at hl 1 rfl) ?_
  obtain ⟨r_1, hc1, hf⟩ := sf_c1e hf
  refine k_Pi (run_QV (As := []) (rest := []) ⟨hx, hb, hml, hown, ha⟩ (c_J0_length_8abf5 l D dA cA    i1 hi1 _ hc1) (gi_V m_1082 m_1083 m_1084 m_43 m_1085) yd_J0_length_8abf5 ⟨Nat.le_of_ble_eq_true rfl, Nat.le_of_ble_eq_true rfl⟩ ⟨rfl, rfl⟩ hK hC hS hP [] rfl (vk_recv (adK := fun i => cA (100 + i)) hC.1.1 hi1 hS) rfl hl.1 rfl (Nat.le_of_ble_eq_true rfl) dJ5_append_cf1ce_10 ⟨Nat.le_of_ble_eq_true rfl, Nat.le_of_ble_eq_true rfl⟩) hP hS (fun H locs hP hS => ?_)
  refine lv_istore_n (lv' := [(2, .int r_1), (0, .ref h0), (1, .ref (cA (100 + i1)))]) hx hb dJ5_append_cf1ce_13 rfl hl (by decide) rfl (fun ls hl => ?_)
  refine lv_aload_n hx hb dJ5_append_cf1ce_14 rfl (lv_at hl 1 rfl) ?_
  refine lv_aload_n hx hb dJ5_append_cf1ce_15 rfl (lv_at hl 1 rfl) ?_
  refine gt_f (C := RJ4) (T := TJ4) (N := 4) hx hb ha in_SB hown hK hP 0 rfl rfl 3 (by decide) m_321 rfl dJ5_append_cf1ce_16 ?_
  refine lv_iload_n hx hb dJ5_append_cf1ce_19 rfl (lv_at hl 0 rfl) ?_
  refine lv_iadd hx hb dJ5_append_cf1ce_20 ?_
  obtain ⟨d_2, ed_2, hf⟩ := sf_ne hf
  obtain ⟨hok2, hf⟩ := sf_ge hf
  obtain ⟨a_3, hc3, hf⟩ := sf_c1e hf
  refine k_Gv (wr := []) (run_XW (As := [.int (sn + r_1)]) (rest := []) ⟨hx, hb, hml, hown, ha⟩ (hX.2.2.2.2.2.2.2.1 _ (List.mem_of_getElem? (i := 0) rfl)) (c_J5_ensure l D dA cA h0 h1 _ sv sK sm sn (sn + r_1) _  d_2 ed_2 hc3) (gi_W (C := RJ4) (owner := RJ5) m_995 m_1636 m_997 m_41 m_998) ⟨rfl, by decide, by decide, (yd_J5_ensure).2.2.2⟩ ⟨Nat.le_of_ble_eq_true rfl, Nat.le_of_ble_eq_true rfl⟩ ⟨rfl, rfl⟩ hK hX hS hA hP hD [0, 1] (by decide) rfl (va_recv hK hP (q0 := 0) rfl rfl) rfl hl.1 rfl (Nat.le_of_ble_eq_true rfl) dJ5_append_cf1ce_21 ⟨Nat.le_trans (Nat.add_le_add_left (gcC_le _ _) 0) (Nat.le_of_ble_eq_true rfl), Nat.le_trans (Nat.add_le_add_left (gcS_le _ hok2) 0) (Nat.le_of_ble_eq_true rfl)⟩) hP hD hS hA [0, 1] [] rfl rfl (by decide) (by decide) (fun b_4 H locs hP hD hS => ?_)
  refine W.widen (k := 1) (n := 286) (Nat.le_trans (Nat.add_le_add_left (gcC_le _ _) 0) (Nat.le_of_ble_eq_true rfl)) (Nat.le_trans (Nat.add_le_add_left (gcS_le _ hok2) 0) (Nat.le_of_ble_eq_true rfl)) ?_
  refine lv_aload_n hx hb dJ5_append_cf1ce_24 rfl (lv_at hl 1 rfl) ?_
  refine lv_aload_n hx hb dJ5_append_cf1ce_25 rfl (lv_at hl 1 rfl) ?_
  refine gt_f (C := RJ4) (T := TJ4) (N := 4) hx hb ha in_SB hown hK hP 0 rfl rfl 3 (by decide) m_321 rfl dJ5_append_cf1ce_26 ?_
  refine lv_aload_n hx hb dJ5_append_cf1ce_29 rfl (lv_at hl 2 rfl) ?_
  obtain ⟨a_5, hc5, hf⟩ := sf_c1e hf
  refine k_Mv (wr := []) (run_XW (As := [.int sn, .ref (cA (100 + i1))]) (rest := []) ⟨hx, hb, hml, hown, ha⟩ (hX.2.2.2.2.2.2.2.1 _ (List.mem_of_getElem? (i := 2) rfl)) (c_J5_putStringAt_47b60_s l D dA cA h0 b_4  _ a_3 d_2 sm sn sn i1 hi1 _ hc5) (gi_W (C := RJ4) (owner := RJ5) m_1091 m_1640 m_1093 m_41 m_1094) ⟨rfl, by decide, by decide, (yd_J5_putStringAt_47b60_s).2.2.2⟩ ⟨Nat.le_of_ble_eq_true rfl, Nat.le_of_ble_eq_true rfl⟩ ⟨rfl, rfl⟩ hK hX hS hA hP hD [0, 1] (by decide) rfl (va_recv hK hP (q0 := 0) rfl rfl) rfl hl.1 rfl (Nat.le_of_ble_eq_true rfl) dJ5_append_cf1ce_30 ⟨Nat.le_of_ble_eq_true rfl, Nat.le_of_ble_eq_true rfl⟩) hP hD hS hA [0, 1] [] rfl rfl (by decide) (by decide) (fun H locs hP hD hS => ?_)
  refine lv_aload_n hx hb dJ5_append_cf1ce_33 rfl (lv_at hl 1 rfl) ?_
  refine lv_dup hx hb dJ5_append_cf1ce_34 rfl ?_
  refine gt_f (C := RJ4) (T := TJ4) (N := 4) hx hb ha in_SB hown hK hP 0 rfl rfl 3 (by decide) m_321 rfl dJ5_append_cf1ce_35 ?_
  refine lv_iload_n hx hb dJ5_append_cf1ce_38 rfl (lv_at hl 0 rfl) ?_
  refine lv_iadd hx hb dJ5_append_cf1ce_39 ?_
  obtain ⟨x_6, ex_6, hf⟩ := sf_ne hf
  refine tp_i ex_6 ?_
  refine pt_f (C := RJ4) (T := TJ4) (N := 4) (ws' := [(h0, .inr (11, [.ref b_4, .int (0 : Int32), .int sm, .int x_6])), (b_4, .inl (dA 2, d_2, .inl a_5))]) (ty := .int) hx hb ha in_SB tySB tySB_ok nmSB hown hK hP hD hS 0 rfl rfl 3 (by decide) m_321 rfl (tySB_ok 3 (by decide)) rfl rfl (Nat.le_of_ble_eq_true rfl) rfl dJ5_append_cf1ce_40 (fun H locs hP hD hS => ?_)
  refine lv_aload_n hx hb dJ5_append_cf1ce_43 rfl (lv_at hl 1 rfl) ?_
  cases hf
  refine W.widen (k := 1) (n := 286) (Nat.le_of_ble_eq_true (n := 1) (m := 1) rfl) (Nat.le_of_ble_eq_true (n := 286) (m := 286) rfl) ?_
  exact rt_Gr (u := b_4) hx hb hr (Or.inl ⟨_, rfl⟩) hlocks (hP.sub [0, 1] rfl) (hD.sub [0, 1] (by decide) rfl) hS dJ5_append_cf1ce_44

def f_J5_append_cf1ce_r (sv : Nat → Int32) (sK : Nat) (sn : Int32) (tv : Nat → Int32) (tK : Nat) : Option ((Nat → Int32) × Nat × Int32) :=
  sf_c1 (f_J0_length_8abf5_r tK) (fun r_1 => sf_n (sbN sK (sn + r_1)) (fun d_2 => sf_g (sbOk d_2 = true) (sf_c1 (f_J5_ensure sv sK (sn + r_1)) (fun a_3 => sf_c1 (f_J5_putStringAt_47b60_r a_3 d_2 tv tK sn) (fun a_5 => sf_n ((sn + r_1)) (fun x_6 => some (a_5, d_2, x_6)))))))
theorem yd_J5_append_cf1ce_r : yJ5_append_cf1ce.cls = RJ5 ∧ yJ5_append_cf1ce.cls ≠ "java/lang/invoke/MethodHandle" ∧ yJ5_append_cf1ce.cls ≠ "java/lang/invoke/VarHandle" ∧ (parseMethodDescriptor yJ5_append_cf1ce.desc).map (fun d => d.parameters.length) = some 1 := ⟨rfl, by decide, by decide, by decide +kernel⟩
set_option maxRecDepth 100000 in
set_option maxHeartbeats 8000000 in
theorem c_J5_append_cf1ce_r (l : Launch) (D : va_G) (dA : Nat → ClassId) (cA : Nat → Nat) (h0 h1 h2 h3 : Nat) (sz : Nat) (sv : Nat → Int32) (sK : Nat) (sm : Int32) (sn : Int32) (tv : Nat → Int32) (tK : Nat) (q_sv : Nat → Int32) (q_sK : Nat) (q_sn : Int32) (hf : f_J5_append_cf1ce_r sv sK sn tv tK = some (q_sv, q_sK, q_sn)) : Met l yJ5_append_cf1ce (wo (.code yJ5_append_cf1ce cJ5_append_cf1ce 3 (some (.object "java/lang/AbstractStringBuilder")))) ({ frames := 4, cells := 1, slots := 286, locals := 150 } : Room) (preX D dA cA [.ref h0, .ref h2] sz [(h0, .inr (11, [.ref h1, .int (0 : Int32), .int sm, .int sn])), (h1, .inl (dA 2, sK, .inl sv)), (h2, .inr (10, [.ref h3, .int (0 : Int32), .int (0 : Int32), .int (0 : Int32)])), (h3, .inl (dA 2, tK, .inl tv))]) (poGr D h0 (fun u => [(h0, .inr (11, [.ref u, .int (0 : Int32), .int sm, .int q_sn])), (u, .inl (dA 2, q_sK, .inl q_sv)), (h2, .inr (10, [.ref h3, .int (0 : Int32), .int (0 : Int32), .int (0 : Int32)])), (h3, .inl (dA 2, tK, .inl tv))]) (va_A [(h0, .inr (11, [.ref h1, .int (0 : Int32), .int sm, .int sn])), (h1, .inl (dA 2, sK, .inl sv)), (h2, .inr (10, [.ref h3, .int (0 : Int32), .int (0 : Int32), .int (0 : Int32)])), (h3, .inl (dA 2, tK, .inl tv))] sz)) 1 286 (va_A [(h0, .inr (11, [.ref h1, .int (0 : Int32), .int sm, .int sn])), (h1, .inl (dA 2, sK, .inl sv)), (h2, .inr (10, [.ref h3, .int (0 : Int32), .int (0 : Int32), .int (0 : Int32)])), (h3, .inl (dA 2, tK, .inl tv))] sz) := by
  refine of_X (y := yJ5_append_cf1ce) (cc := cJ5_append_cf1ce) (maxL := 3) (ret := (some (.object "java/lang/AbstractStringBuilder"))) (av := [.ref h0, .ref h2]) (ws := [(h0, .inr (11, [.ref h1, .int (0 : Int32), .int sm, .int sn])), (h1, .inl (dA 2, sK, .inl sv)), (h2, .inr (10, [.ref h3, .int (0 : Int32), .int (0 : Int32), .int (0 : Int32)])), (h3, .inl (dA 2, tK, .inl tv))]) (sz := sz) (own := RJ5) (Qc := poGr D h0 (fun u => [(h0, .inr (11, [.ref u, .int (0 : Int32), .int sm, .int q_sn])), (u, .inl (dA 2, q_sK, .inl q_sv)), (h2, .inr (10, [.ref h3, .int (0 : Int32), .int (0 : Int32), .int (0 : Int32)])), (h3, .inl (dA 2, tK, .inl tv))])) (by decide) rfl (Nat.le_of_ble_eq_true rfl) ?_
  intro p e s m below meth c A hx hb hr ha hown hml hlocks hin hP hK hD hX hS hA ls hl
  have hC := hX.1
  have hl : lv_has ls 3 [(0, .ref h0), (1, .ref h2)] := hl
  rw [f_J5_append_cf1ce_r] at hf
  refine lv_aload_n hx hb dJ5_append_cf1ce_0 rfl (lv_at hl 1 rfl) ?_
  refine lv_ifnonnull (tgt := 9) hx hb dJ5_append_cf1ce_1 (by decide) ?_
  refine lv_aload_n hx hb dJ5_append_cf1ce_9 rfl (lv_at hl 1 rfl) ?_
  obtain ⟨r_1, hc1, hf⟩ := sf_c1e hf
  refine k_Pi (run_YV (As := []) (rest := []) ⟨hx, hb, hml, hown, ha⟩ (c_J0_length_8abf5_r l D dA cA h2 h3   tv tK  _ hc1) (gi_V m_1082 m_1083 m_1084 m_43 m_1085) yd_J0_length_8abf5_r ⟨Nat.le_of_ble_eq_true rfl, Nat.le_of_ble_eq_true rfl⟩ ⟨rfl, rfl⟩ hK hX hS hP [2, 3] rfl (va_recv hK hP (q0 := 2) rfl rfl) rfl hl.1 rfl (Nat.le_of_ble_eq_true rfl) dJ5_append_cf1ce_10 ⟨Nat.le_of_ble_eq_true rfl, Nat.le_of_ble_eq_true rfl⟩) hP hS (fun H locs hP hS => ?_)
  refine lv_istore_n (lv' := [(2, .int r_1), (0, .ref h0), (1, .ref h2)]) hx hb dJ5_append_cf1ce_13 rfl hl (by decide) rfl (fun ls hl => ?_)
  refine lv_aload_n hx hb dJ5_append_cf1ce_14 rfl (lv_at hl 1 rfl) ?_
  refine lv_aload_n hx hb dJ5_append_cf1ce_15 rfl (lv_at hl 1 rfl) ?_
  refine gt_f (C := RJ4) (T := TJ4) (N := 4) hx hb ha in_SB hown hK hP 0 rfl rfl 3 (by decide) m_321 rfl dJ5_append_cf1ce_16 ?_
  refine lv_iload_n hx hb dJ5_append_cf1ce_19 rfl (lv_at hl 0 rfl) ?_
  refine lv_iadd hx hb dJ5_append_cf1ce_20 ?_
  obtain ⟨d_2, ed_2, hf⟩ := sf_ne hf
  obtain ⟨hok2, hf⟩ := sf_ge hf
  obtain ⟨a_3, hc3, hf⟩ := sf_c1e hf
  refine k_Gv (wr := [(h2, .inr (10, [.ref h3, .int (0 : Int32), .int (0 : Int32), .int (0 : Int32)])), (h3, .inl (dA 2, tK, .inl tv))]) (run_XW (As := [.int (sn + r_1)]) (rest := []) ⟨hx, hb, hml, hown, ha⟩ (hX.2.2.2.2.2.2.2.1 _ (List.mem_of_getElem? (i := 0) rfl)) (c_J5_ensure l D dA cA h0 h1 _ sv sK sm sn (sn + r_1) _  d_2 ed_2 hc3) (gi_W (C := RJ4) (owner := RJ5) m_995 m_1636 m_997 m_41 m_998) ⟨rfl, by decide, by decide, (yd_J5_ensure).2.2.2⟩ ⟨Nat.le_of_ble_eq_true rfl, Nat.le_of_ble_eq_true rfl⟩ ⟨rfl, rfl⟩ hK hX hS hA hP hD [0, 1] (by decide) rfl (va_recv hK hP (q0 := 0) rfl rfl) rfl hl.1 rfl (Nat.le_of_ble_eq_true rfl) dJ5_append_cf1ce_21 ⟨Nat.le_trans (Nat.add_le_add_left (gcC_le _ _) 0) (Nat.le_of_ble_eq_true rfl), Nat.le_trans (Nat.add_le_add_left (gcS_le _ hok2) 0) (Nat.le_of_ble_eq_true rfl)⟩) hP hD hS hA [0, 1] [2, 3] rfl rfl (by decide) (by decide) (fun b_4 H locs hP hD hS => ?_)
  refine W.widen (k := 1) (n := 286) (Nat.le_trans (Nat.add_le_add_left (gcC_le _ _) 0) (Nat.le_of_ble_eq_true rfl)) (Nat.le_trans (Nat.add_le_add_left (gcS_le _ hok2) 0) (Nat.le_of_ble_eq_true rfl)) ?_
  refine lv_aload_n hx hb dJ5_append_cf1ce_24 rfl (lv_at hl 1 rfl) ?_
  refine lv_aload_n hx hb dJ5_append_cf1ce_25 rfl (lv_at hl 1 rfl) ?_
  refine gt_f (C := RJ4) (T := TJ4) (N := 4) hx hb ha in_SB hown hK hP 2 rfl rfl 3 (by decide) m_321 rfl dJ5_append_cf1ce_26 ?_
  refine lv_aload_n hx hb dJ5_append_cf1ce_29 rfl (lv_at hl 2 rfl) ?_
  obtain ⟨a_5, hc5, hf⟩ := sf_c1e hf
  refine k_Mv (wr := []) (run_XW (As := [.int sn, .ref h2]) (rest := []) ⟨hx, hb, hml, hown, ha⟩ (hX.2.2.2.2.2.2.2.1 _ (List.mem_of_getElem? (i := 2) rfl)) (c_J5_putStringAt_47b60_r l D dA cA h0 b_4 h2 h3  _ a_3 d_2 sm sn tv tK sn _ hc5) (gi_W (C := RJ4) (owner := RJ5) m_1091 m_1640 m_1093 m_41 m_1094) ⟨rfl, by decide, by decide, (yd_J5_putStringAt_47b60_r).2.2.2⟩ ⟨Nat.le_of_ble_eq_true rfl, Nat.le_of_ble_eq_true rfl⟩ ⟨rfl, rfl⟩ hK hX hS hA hP hD [2, 3, 0, 1] (by decide) rfl (va_recv hK hP (q0 := 2) rfl rfl) rfl hl.1 rfl (Nat.le_of_ble_eq_true rfl) dJ5_append_cf1ce_30 ⟨Nat.le_of_ble_eq_true rfl, Nat.le_of_ble_eq_true rfl⟩) hP hD hS hA [2, 3, 0, 1] [] rfl rfl (by decide) (by decide) (fun H locs hP hD hS => ?_)
  refine lv_aload_n hx hb dJ5_append_cf1ce_33 rfl (lv_at hl 1 rfl) ?_
  refine lv_dup hx hb dJ5_append_cf1ce_34 rfl ?_
  refine gt_f (C := RJ4) (T := TJ4) (N := 4) hx hb ha in_SB hown hK hP 0 rfl rfl 3 (by decide) m_321 rfl dJ5_append_cf1ce_35 ?_
  refine lv_iload_n hx hb dJ5_append_cf1ce_38 rfl (lv_at hl 0 rfl) ?_
  refine lv_iadd hx hb dJ5_append_cf1ce_39 ?_
  obtain ⟨x_6, ex_6, hf⟩ := sf_ne hf
  refine tp_i ex_6 ?_
  refine pt_f (C := RJ4) (T := TJ4) (N := 4) (ws' := [(h0, .inr (11, [.ref b_4, .int (0 : Int32), .int sm, .int x_6])), (b_4, .inl (dA 2, d_2, .inl a_5)), (h2, .inr (10, [.ref h3, .int (0 : Int32), .int (0 : Int32), .int (0 : Int32)])), (h3, .inl (dA 2, tK, .inl tv))]) (ty := .int) hx hb ha in_SB tySB tySB_ok nmSB hown hK hP hD hS 0 rfl rfl 3 (by decide) m_321 rfl (tySB_ok 3 (by decide)) rfl rfl (Nat.le_of_ble_eq_true rfl) rfl dJ5_append_cf1ce_40 (fun H locs hP hD hS => ?_)
  refine lv_aload_n hx hb dJ5_append_cf1ce_43 rfl (lv_at hl 1 rfl) ?_
  cases hf
  refine W.widen (k := 1) (n := 286) (Nat.le_of_ble_eq_true (n := 1) (m := 1) rfl) (Nat.le_of_ble_eq_true (n := 286) (m := 286) rfl) ?_
  exact rt_Gr (u := b_4) hx hb hr (Or.inl ⟨_, rfl⟩) hlocks (hP.sub [0, 1, 2, 3] rfl) (hD.sub [0, 1, 2, 3] (by decide) rfl) hS dJ5_append_cf1ce_44

def f_J4_append_15ec4_s (sv : Nat → Int32) (sK : Nat) (sn : Int32) (i1 : Nat) : Option ((Nat → Int32) × Nat × Int32) :=
  sf_c3 (f_J5_append_cf1ce_s sv sK sn i1) (fun a_1 d_2 x_3 => some (a_1, d_2, x_3))
theorem yd_J4_append_15ec4_s : yJ4_append_15ec4.cls = RJ4 ∧ yJ4_append_15ec4.cls ≠ "java/lang/invoke/MethodHandle" ∧ yJ4_append_15ec4.cls ≠ "java/lang/invoke/VarHandle" ∧ (parseMethodDescriptor yJ4_append_15ec4.desc).map (fun d => d.parameters.length) = some 1 := ⟨rfl, by decide, by decide, by decide +kernel⟩
set_option maxRecDepth 100000 in
set_option maxHeartbeats 8000000 in
theorem c_J4_append_15ec4_s (l : Launch) (D : va_G) (dA : Nat → ClassId) (cA : Nat → Nat) (h0 h1 : Nat) (sz : Nat) (sv : Nat → Int32) (sK : Nat) (sm : Int32) (sn : Int32) (i1 : Nat) (hi1 : i1 < 16) (q_sv : Nat → Int32) (q_sK : Nat) (q_sn : Int32) (hf : f_J4_append_15ec4_s sv sK sn i1 = some (q_sv, q_sK, q_sn)) : Met l yJ4_append_15ec4 (wo (.code yJ4_append_15ec4 cJ4_append_15ec4 2 (some (.object "java/lang/StringBuilder")))) ({ frames := 5, cells := 1, slots := 286, locals := 172 } : Room) (preX D dA cA [.ref h0, .ref (cA (100 + i1))] sz [(h0, .inr (11, [.ref h1, .int (0 : Int32), .int sm, .int sn])), (h1, .inl (dA 2, sK, .inl sv))]) (poGr D h0 (fun u => [(h0, .inr (11, [.ref u, .int (0 : Int32), .int sm, .int q_sn])), (u, .inl (dA 2, q_sK, .inl q_sv))]) (va_A [(h0, .inr (11, [.ref h1, .int (0 : Int32), .int sm, .int sn])), (h1, .inl (dA 2, sK, .inl sv))] sz)) 1 286 (va_A [(h0, .inr (11, [.ref h1, .int (0 : Int32), .int sm, .int sn])), (h1, .inl (dA 2, sK, .inl sv))] sz) := by
  refine of_X (y := yJ4_append_15ec4) (cc := cJ4_append_15ec4) (maxL := 2) (ret := (some (.object "java/lang/StringBuilder"))) (av := [.ref h0, .ref (cA (100 + i1))]) (ws := [(h0, .inr (11, [.ref h1, .int (0 : Int32), .int sm, .int sn])), (h1, .inl (dA 2, sK, .inl sv))]) (sz := sz) (own := RJ4) (Qc := poGr D h0 (fun u => [(h0, .inr (11, [.ref u, .int (0 : Int32), .int sm, .int q_sn])), (u, .inl (dA 2, q_sK, .inl q_sv))])) (by decide) rfl (Nat.le_of_ble_eq_true rfl) ?_
  intro p e s m below meth c A hx hb hr ha hown hml hlocks hin hP hK hD hX hS hA ls hl
  have hC := hX.1
  have hl : lv_has ls 2 [(0, .ref h0), (1, .ref (cA (100 + i1)))] := hl
  rw [f_J4_append_15ec4_s] at hf
  refine lv_aload_n hx hb dJ4_append_15ec4_0 rfl (lv_at hl 0 rfl) ?_
  refine lv_aload_n hx hb dJ4_append_15ec4_1 rfl (lv_at hl 1 rfl) ?_
  obtain ⟨a_1, d_2, x_3, hc3, hf⟩ := sf_c3e hf
  refine k_Gr (wr := []) (run_XU (As := [.ref (cA (100 + i1))]) (rest := []) ((hK.1 11 _ rfl).2) ⟨hx, hb, hml, hown, ha⟩ (c_J5_append_cf1ce_s l D dA cA h0 h1 _ sv sK sm sn i1 hi1 _ _ _  hc3) (gi_SU m_1072 m_1638 m_330 m_1073 m_41 m_1074) ⟨by decide, (yd_J5_append_cf1ce_s).2.2.2⟩ ⟨Nat.le_of_ble_eq_true rfl, Nat.le_of_ble_eq_true rfl⟩ ⟨rfl, rfl⟩ hK hX hS hA hP hD [0, 1] (by decide) rfl (va_recv hK hP (q0 := 0) rfl rfl) rfl hl.1 rfl (Nat.le_of_ble_eq_true rfl) dJ4_append_15ec4_2 ⟨Nat.le_of_ble_eq_true rfl, Nat.le_of_ble_eq_true rfl⟩) hP hD hS hA [0, 1] [] rfl rfl (by decide) (by decide) (fun b_4 H locs hP hD hS => ?_)
  refine W.widen (k := 1) (n := 286) (Nat.le_of_ble_eq_true rfl) (Nat.le_of_ble_eq_true rfl) ?_
  refine lv_pop hx hb dJ4_append_15ec4_5 rfl ?_
  refine lv_aload_n hx hb dJ4_append_15ec4_6 rfl (lv_at hl 0 rfl) ?_
  cases hf
  refine W.widen (k := 1) (n := 286) (Nat.le_of_ble_eq_true (n := 1) (m := 1) rfl) (Nat.le_of_ble_eq_true (n := 286) (m := 286) rfl) ?_
  exact rt_Gr (u := b_4) hx hb hr (Or.inl ⟨_, rfl⟩) hlocks (hP.sub [0, 1] rfl) (hD.sub [0, 1] (by decide) rfl) hS dJ4_append_15ec4_7

def f_J4_append_15ec4_r (sv : Nat → Int32) (sK : Nat) (sn : Int32) (tv : Nat → Int32) (tK : Nat) : Option ((Nat → Int32) × Nat × Int32) :=
  sf_c3 (f_J5_append_cf1ce_r sv sK sn tv tK) (fun a_1 d_2 x_3 => some (a_1, d_2, x_3))
theorem yd_J4_append_15ec4_r : yJ4_append_15ec4.cls = RJ4 ∧ yJ4_append_15ec4.cls ≠ "java/lang/invoke/MethodHandle" ∧ yJ4_append_15ec4.cls ≠ "java/lang/invoke/VarHandle" ∧ (parseMethodDescriptor yJ4_append_15ec4.desc).map (fun d => d.parameters.length) = some 1 := ⟨rfl, by decide, by decide, by decide +kernel⟩
set_option maxRecDepth 100000 in
set_option maxHeartbeats 8000000 in
theorem c_J4_append_15ec4_r (l : Launch) (D : va_G) (dA : Nat → ClassId) (cA : Nat → Nat) (h0 h1 h2 h3 : Nat) (sz : Nat) (sv : Nat → Int32) (sK : Nat) (sm : Int32) (sn : Int32) (tv : Nat → Int32) (tK : Nat) (q_sv : Nat → Int32) (q_sK : Nat) (q_sn : Int32) (hf : f_J4_append_15ec4_r sv sK sn tv tK = some (q_sv, q_sK, q_sn)) : Met l yJ4_append_15ec4 (wo (.code yJ4_append_15ec4 cJ4_append_15ec4 2 (some (.object "java/lang/StringBuilder")))) ({ frames := 5, cells := 1, slots := 286, locals := 172 } : Room) (preX D dA cA [.ref h0, .ref h2] sz [(h0, .inr (11, [.ref h1, .int (0 : Int32), .int sm, .int sn])), (h1, .inl (dA 2, sK, .inl sv)), (h2, .inr (10, [.ref h3, .int (0 : Int32), .int (0 : Int32), .int (0 : Int32)])), (h3, .inl (dA 2, tK, .inl tv))]) (poGr D h0 (fun u => [(h0, .inr (11, [.ref u, .int (0 : Int32), .int sm, .int q_sn])), (u, .inl (dA 2, q_sK, .inl q_sv)), (h2, .inr (10, [.ref h3, .int (0 : Int32), .int (0 : Int32), .int (0 : Int32)])), (h3, .inl (dA 2, tK, .inl tv))]) (va_A [(h0, .inr (11, [.ref h1, .int (0 : Int32), .int sm, .int sn])), (h1, .inl (dA 2, sK, .inl sv)), (h2, .inr (10, [.ref h3, .int (0 : Int32), .int (0 : Int32), .int (0 : Int32)])), (h3, .inl (dA 2, tK, .inl tv))] sz)) 1 286 (va_A [(h0, .inr (11, [.ref h1, .int (0 : Int32), .int sm, .int sn])), (h1, .inl (dA 2, sK, .inl sv)), (h2, .inr (10, [.ref h3, .int (0 : Int32), .int (0 : Int32), .int (0 : Int32)])), (h3, .inl (dA 2, tK, .inl tv))] sz) := by
  refine of_X (y := yJ4_append_15ec4) (cc := cJ4_append_15ec4) (maxL := 2) (ret := (some (.object "java/lang/StringBuilder"))) (av := [.ref h0, .ref h2]) (ws := [(h0, .inr (11, [.ref h1, .int (0 : Int32), .int sm, .int sn])), (h1, .inl (dA 2, sK, .inl sv)), (h2, .inr (10, [.ref h3, .int (0 : Int32), .int (0 : Int32), .int (0 : Int32)])), (h3, .inl (dA 2, tK, .inl tv))]) (sz := sz) (own := RJ4) (Qc := poGr D h0 (fun u => [(h0, .inr (11, [.ref u, .int (0 : Int32), .int sm, .int q_sn])), (u, .inl (dA 2, q_sK, .inl q_sv)), (h2, .inr (10, [.ref h3, .int (0 : Int32), .int (0 : Int32), .int (0 : Int32)])), (h3, .inl (dA 2, tK, .inl tv))])) (by decide) rfl (Nat.le_of_ble_eq_true rfl) ?_
  intro p e s m below meth c A hx hb hr ha hown hml hlocks hin hP hK hD hX hS hA ls hl
  have hC := hX.1
  have hl : lv_has ls 2 [(0, .ref h0), (1, .ref h2)] := hl
  rw [f_J4_append_15ec4_r] at hf
  refine lv_aload_n hx hb dJ4_append_15ec4_0 rfl (lv_at hl 0 rfl) ?_
  refine lv_aload_n hx hb dJ4_append_15ec4_1 rfl (lv_at hl 1 rfl) ?_
  obtain ⟨a_1, d_2, x_3, hc3, hf⟩ := sf_c3e hf
  refine k_Gr (wr := []) (run_XU (As := [.ref h2]) (rest := []) ((hK.1 11 _ rfl).2) ⟨hx, hb, hml, hown, ha⟩ (c_J5_append_cf1ce_r l D dA cA h0 h1 h2 h3 _ sv sK sm sn tv tK  _ _ _  hc3) (gi_SU m_1072 m_1638 m_330 m_1073 m_41 m_1074) ⟨by decide, (yd_J5_append_cf1ce_r).2.2.2⟩ ⟨Nat.le_of_ble_eq_true rfl, Nat.le_of_ble_eq_true rfl⟩ ⟨rfl, rfl⟩ hK hX hS hA hP hD [0, 1, 2, 3] (by decide) rfl (va_recv hK hP (q0 := 0) rfl rfl) rfl hl.1 rfl (Nat.le_of_ble_eq_true rfl) dJ4_append_15ec4_2 ⟨Nat.le_of_ble_eq_true rfl, Nat.le_of_ble_eq_true rfl⟩) hP hD hS hA [0, 1, 2, 3] [] rfl rfl (by decide) (by decide) (fun b_4 H locs hP hD hS => ?_)
  refine W.widen (k := 1) (n := 286) (Nat.le_of_ble_eq_true rfl) (Nat.le_of_ble_eq_true rfl) ?_
  refine lv_pop hx hb dJ4_append_15ec4_5 rfl ?_
  refine lv_aload_n hx hb dJ4_append_15ec4_6 rfl (lv_at hl 0 rfl) ?_
  cases hf
  refine W.widen (k := 1) (n := 286) (Nat.le_of_ble_eq_true (n := 1) (m := 1) rfl) (Nat.le_of_ble_eq_true (n := 286) (m := 286) rfl) ?_
  exact rt_Gr (u := b_4) hx hb hr (Or.inl ⟨_, rfl⟩) hlocks (hP.sub [0, 1, 2, 3] rfl) (hD.sub [0, 1, 2, 3] (by decide) rfl) hS dJ4_append_15ec4_7

def f_J7_checkLength_df160 (p0 : Int32) (p1 : Int32) : Option Unit :=
  sf_b (p0 ≤ p1) (some ()) (none)
theorem yd_J7_checkLength_df160 : yJ7_checkLength_df160.cls = RJ7 ∧ yJ7_checkLength_df160.cls ≠ "java/lang/invoke/MethodHandle" ∧ yJ7_checkLength_df160.cls ≠ "java/lang/invoke/VarHandle" ∧ (parseMethodDescriptor yJ7_checkLength_df160.desc).map (fun d => d.parameters.length) = some 2 := ⟨rfl, by decide, by decide, by decide +kernel⟩
set_option maxRecDepth 100000 in
set_option maxHeartbeats 8000000 in
theorem c_J7_checkLength_df160 (l : Launch) (D : va_G) (dA : Nat → ClassId) (cA : Nat → Nat) (p0 : Int32) (p1 : Int32) (hf : f_J7_checkLength_df160 p0 p1 = some ()) : Met l yJ7_checkLength_df160 (wo (.code yJ7_checkLength_df160 cJ7_checkLength_df160 2 none)) ({ frames := 0, cells := 0, slots := 0, locals := 0 } : Room) (preY D dA cA [.int p0, .int p1] []) (poPv) 0 0 noA := by
  refine of_Y (y := yJ7_checkLength_df160) (cc := cJ7_checkLength_df160) (maxL := 2) (ret := none) (av := [.int p0, .int p1]) (ws := []) (own := RJ7) (by decide) rfl (Nat.le_of_ble_eq_true rfl) ?_
  intro p e s m below meth c hx hb hr ha hown hml hlocks hP hK hX hS ls hl
  have hC := hX.1
  have hl : lv_has ls 2 [(0, .int p0), (1, .int p1)] := hl
  rw [f_J7_checkLength_df160] at hf
  refine lv_iload_n hx hb dJ7_checkLength_df160_0 rfl (lv_at hl 1 rfl) ?_
  refine lv_iload_n hx hb dJ7_checkLength_df160_1 rfl (lv_at hl 0 rfl) ?_
  refine lv_icmp_ge (tgt := 37) hx hb dJ7_checkLength_df160_2 (by decide) (fun hc => ?_) (fun hc => ?_)
  · have hf := sf_bp hf hc
    exact rt_Pv hx hb hr hlocks hS dJ7_checkLength_df160_37
  · have hf := sf_bn hf hc
    cases hf

theorem yd_J5_getValue : yJ5_getValue_6d5f1 = ⟨RJ5, yJ5_getValue_6d5f1.name, yJ5_getValue_6d5f1.desc⟩ ∧ RJ5 ≠ "java/lang/invoke/MethodHandle" ∧ RJ5 ≠ "java/lang/invoke/VarHandle" ∧ (parseMethodDescriptor yJ5_getValue_6d5f1.desc).map (fun d => d.parameters.length) = some 0 := ⟨rfl, by decide, by decide, by decide +kernel⟩
theorem c_J5_getValue (l : Launch) (D : va_G) (dA : Nat → ClassId) (cA : Nat → Nat) (h0 h1 : Nat) (sm sn : Int32) : Met l yJ5_getValue_6d5f1 (wo (.code yJ5_getValue_6d5f1 cJ5_getValue_6d5f1 1 (some (.array .byte)))) ({ frames := 0, cells := 0, slots := 0, locals := 0 } : Room) (preY D dA cA [.ref h0] [(h0, .inr (11, [.ref h1, .int (0 : Int32), .int sm, .int sn]))]) (poPr h1) 0 0 noA := by
  refine of_Y (y := yJ5_getValue_6d5f1) (cc := cJ5_getValue_6d5f1) (maxL := 1) (ret := (some (.array .byte))) (av := [.ref h0]) (ws := [(h0, .inr (11, [.ref h1, .int (0 : Int32), .int sm, .int sn]))]) (own := RJ5) (by decide) rfl (Nat.le_of_ble_eq_true rfl) ?_
  intro p e s m below meth c hx hb hr ha hown hml hlocks hP hK hX hS ls hl
  have hl : lv_has ls 1 [(0, .ref h0)] := hl
  refine lv_aload_n hx hb dJ5_getValue_6d5f1_0 rfl (lv_at hl 0 rfl) ?_
  refine gt_f (C := RJ4) (T := TJ4) (N := 4) hx hb ha in_SB hown hK hP 0 rfl rfl 0 (by decide) m_317 rfl dJ5_getValue_6d5f1_1 ?_
  exact rt_Pr hx hb hr (Or.inr ⟨_, rfl⟩) hlocks hS dJ5_getValue_6d5f1_4

/-- when the first p2 bytes of a row can be copied out -/
abbrev cRg (sv : Nat → Int32) (sK : Nat) (p2 : Int32) : Prop := (¬ p2 < 0 ∧ (0 : Int32) ≤ p2 ∧ (if p2 < Int32.ofNat sK then p2 else Int32.ofNat sK) = p2 ∧ p2.toNatClampNeg ≤ sK ∧ p2.toNatClampNeg ≤ 65536 ∧ (p2 = Int32.ofNat sK → p2.toNatClampNeg = sK)) ∧ ∀ i, i < sK → (sv i).toInt8.toInt32 = sv i
theorem yd_J7_copyOfRangeByte : (parseMethodDescriptor yJ7_copyOfRangeByte_39247.desc).map (fun d => d.parameters.length) = some 3 := by decide +kernel
set_option maxRecDepth 100000 in
set_option maxHeartbeats 4000000 in
theorem c_J7_copyOfRangeByte (l : Launch) (D : va_G) (dA : Nat → ClassId) (cA : Nat → Nat) (h0 : Nat) (sz : Nat) (sv : Nat → Int32) (sK : Nat) (p2 : Int32) (N : Nat) (hN : p2.toNatClampNeg = N) (hf : cRg sv sK p2) : Met l yJ7_copyOfRangeByte_39247 (wo (.code yJ7_copyOfRangeByte_39247 cJ7_copyOfRangeByte_39247 5 (some (.array .byte)))) ({ frames := 1, cells := 1, slots := N, locals := 90 } : Room) (preX D dA cA [.ref h0, .int 0, .int p2] sz [(h0, .inl (dA 2, sK, .inl sv))]) (poCp D (fun u => [(h0, .inl (dA 2, sK, .inl sv)), (u, .inl (dA 2, N, .inl (va_cpy sv (fun _ => 0) 0 0 N)))]) (va_A [(h0, .inl (dA 2, sK, .inl sv))] sz)) 1 N (va_A [(h0, .inl (dA 2, sK, .inl sv))] sz) := by
  obtain ⟨⟨g1, g2, g3, g4, g5, g6⟩, g8⟩ := hf
  refine of_X (y := yJ7_copyOfRangeByte_39247) (cc := cJ7_copyOfRangeByte_39247) (maxL := 5) (ret := (some (.array .byte))) (av := [.ref h0, .int 0, .int p2]) (ws := [(h0, .inl (dA 2, sK, .inl sv))]) (sz := sz) (own := RJ7) (Qc := poCp D _) (by decide) rfl (Nat.le_of_ble_eq_true rfl) ?_
  intro p e s m below meth c A hx hb hr ha hown hml hlocks hin hP hK hD hX hS hA ls hl
  have hl : lv_has ls 5 [(0, .ref h0), (1, .int 0), (2, .int p2)] := hl
  refine lv_iload_n hx hb dJ7_copyOfRangeByte_39247_0 rfl (lv_at hl 1 rfl) ?_
  refine lv_iload_n hx hb dJ7_copyOfRangeByte_39247_1 rfl (lv_at hl 2 rfl) ?_
  refine k_Pv (run_YS (As := [.int 0, .int p2]) (rest := []) ⟨hx, hb, hml, hown, ha⟩ (c_J7_checkLength_df160 l D dA cA 0 p2 (if_pos g2)) (gi_S2 m_1163 m_1164 m_59 m_1165) (yd_J7_checkLength_df160).2 ⟨Nat.le_of_ble_eq_true rfl, Nat.le_of_ble_eq_true rfl⟩ ⟨rfl, rfl⟩ hK hX hS hP [] rfl rfl hl.1 rfl (Nat.le_of_ble_eq_true rfl) dJ7_copyOfRangeByte_39247_2 ⟨Nat.zero_le _, Nat.zero_le _⟩) hP hS (fun H locs hP hS => ?_)
  refine lv_iload_n hx hb dJ7_copyOfRangeByte_39247_5 rfl (lv_at hl 2 rfl) ?_
  refine lv_iload_n hx hb dJ7_copyOfRangeByte_39247_6 rfl (lv_at hl 1 rfl) ?_
  refine lv_isub hx hb dJ7_copyOfRangeByte_39247_7 ?_
  refine tp_i (z := p2) (i_sub0 _).symm ?_
  refine lv_istore_n (lv' := [(3, .int p2), (0, .ref h0), (1, .int 0), (2, .int p2)]) hx hb dJ7_copyOfRangeByte_39247_8 rfl hl (by decide) rfl (fun ls hl => ?_)
  refine lv_iload_n hx hb dJ7_copyOfRangeByte_39247_9 rfl (lv_at hl 0 rfl) ?_
  refine nw_p (atype := .byte) (a0 := (N, .inl (fun _ => 0))) hx hb (ha _ m_331) rfl hK hP hD hS hA (fun _ => rfl) g1 hN (Nat.le_trans (Nat.mul_le_mul_right _ (Nat.le_trans (Nat.le_of_eq hN.symm) g5)) (by decide)) (Nat.le_of_ble_eq_true rfl) (Nat.le_of_eq (Nat.zero_add _)) dJ7_copyOfRangeByte_39247_10 2 rfl (fun _ h => nomatch h) (fun q H hP hD hS => ?_)
  refine lv_astore (lv' := [(4, .ref q), (3, .int p2), (0, .ref h0), (1, .int 0), (2, .int p2)]) hx hb dJ7_copyOfRangeByte_39247_12 hl (by decide) rfl (fun ls hl => ?_)
  refine lv_aload_n hx hb dJ7_copyOfRangeByte_39247_14 rfl (lv_at hl 2 rfl) ?_
  refine lv_iload_n hx hb dJ7_copyOfRangeByte_39247_15 rfl (lv_at hl 3 rfl) ?_
  refine lv_aload hx hb dJ7_copyOfRangeByte_39247_16 (lv_at hl 0 rfl) ?_
  refine lv_iconst (v := 0) hx hb dJ7_copyOfRangeByte_39247_18 (by decide) ?_
  refine lv_aload_n hx hb dJ7_copyOfRangeByte_39247_19 rfl (lv_at hl 2 rfl) ?_
  refine va_alen (v := Int32.ofNat sK) hx hb hK hP 0 2 rfl rfl rfl dJ7_copyOfRangeByte_39247_20 ?_
  refine lv_iload_n hx hb dJ7_copyOfRangeByte_39247_21 rfl (lv_at hl 3 rfl) ?_
  refine lv_isub hx hb dJ7_copyOfRangeByte_39247_22 ?_
  refine tp_i (z := Int32.ofNat sK) (i_sub0 _).symm ?_
  refine lv_iload_n hx hb dJ7_copyOfRangeByte_39247_23 rfl (lv_at hl 1 rfl) ?_
  refine mn_i hx hb ha hown hml hl.1 m_1022 m_564 m_54 m_565 ⟨Nat.le_of_ble_eq_true rfl, Nat.le_of_ble_eq_true rfl⟩ ⟨Nat.le_of_ble_eq_true rfl, Nat.le_of_eq (Nat.zero_add _)⟩ dJ7_copyOfRangeByte_39247_24 ?_
  refine tp_i (z := p2) g3.symm ?_
  refine va_copyi (own := RJ7) hx hb (hml.trans hl.1.symm) hown (ha _ m_1023) (ha _ m_387) (ha _ m_386) (ha _ m_45) hK hP hD hS 0 1 2 2 rfl rfl rfl rfl rfl (by decide) (by decide) g1 (Nat.le_trans (Nat.le_of_eq (Nat.zero_add _)) g4) (Nat.le_trans (Nat.le_of_eq (Nat.zero_add _)) (Nat.le_of_eq hN)) (fun i hi => b_fit (g8 _ (by rw [show ((0 : Int32).toNatClampNeg + i) = i from Nat.zero_add i]; exact Nat.lt_of_lt_of_le hi g4))) (Nat.le_of_ble_eq_true rfl) (Nat.le_of_ble_eq_true rfl) dJ7_copyOfRangeByte_39247_27 (fun H locs hP hD hS => ?_)
  rw [hN] at hP hD
  refine lv_aload hx hb dJ7_copyOfRangeByte_39247_30 (lv_at hl 0 rfl) ?_
  refine W.widen (k := 1) (n := N) (by decide) (Nat.le_of_eq (Nat.zero_add _)) ?_
  exact rt_Cp hx hb hr (Or.inr ⟨_, rfl⟩) hlocks (hP.sub [0, 1] rfl) (hD.sub [0, 1] (by decide) rfl) hS dJ7_copyOfRangeByte_39247_32

theorem yd_J7_copyOfRange : (parseMethodDescriptor yJ7_copyOfRange_39247.desc).map (fun d => d.parameters.length) = some 3 := by decide +kernel
theorem cRg_cpy {sv : Nat → Int32} {n k : Nat} (h : k < n) : sv k = va_cpy sv (fun _ => 0) 0 0 n k := by
  unfold va_cpy
  rw [if_pos ⟨Nat.zero_le _, by omega⟩]
  congr 1
  omega
set_option maxRecDepth 100000 in
set_option maxHeartbeats 4000000 in
theorem c_J7_copyOfRange (l : Launch) (D : va_G) (dA : Nat → ClassId) (cA : Nat → Nat) (h0 : Nat) (sz : Nat) (sv : Nat → Int32) (sK : Nat) (p2 : Int32) (N : Nat) (hN : p2.toNatClampNeg = N) (hf : cRg sv sK p2) : Met l yJ7_copyOfRange_39247 (wo (.code yJ7_copyOfRange_39247 cJ7_copyOfRange_39247 3 (some (.array .byte)))) ({ frames := 2, cells := 1, slots := N, locals := 114 } : Room) (preX D dA cA [.ref h0, .int 0, .int p2] sz [(h0, .inl (dA 2, sK, .inl sv))]) (poCp D (fun u => [(h0, .inl (dA 2, sK, .inl sv)), (u, .inl (dA 2, N, .inl (va_cpy sv (fun _ => 0) 0 0 N)))]) (va_A [(h0, .inl (dA 2, sK, .inl sv))] sz)) 1 N (va_A [(h0, .inl (dA 2, sK, .inl sv))] sz) := by
  refine of_X (y := yJ7_copyOfRange_39247) (cc := cJ7_copyOfRange_39247) (maxL := 3) (ret := (some (.array .byte))) (av := [.ref h0, .int 0, .int p2]) (ws := [(h0, .inl (dA 2, sK, .inl sv))]) (sz := sz) (own := RJ7) (Qc := poCp D _) (by decide) rfl (Nat.le_of_ble_eq_true rfl) ?_
  intro p e s m below meth c A hx hb hr ha hown hml hlocks hin hP hK hD hX hS hA ls hl
  have hl : lv_has ls 3 [(0, .ref h0), (1, .int 0), (2, .int p2)] := hl
  refine lv_iload_n hx hb dJ7_copyOfRange_39247_0 rfl (lv_at hl 1 rfl) ?_
  refine lv_if_ne (tgt := 10) hx hb dJ7_copyOfRange_39247_1 (by decide) (fun hc => absurd (by decide) hc) (fun hc => ?_)
  refine lv_iload_n hx hb dJ7_copyOfRange_39247_4 rfl (lv_at hl 2 rfl) ?_
  refine lv_aload_n hx hb dJ7_copyOfRange_39247_5 rfl (lv_at hl 0 rfl) ?_
  refine va_alen (v := Int32.ofNat sK) hx hb hK hP 0 2 rfl rfl rfl dJ7_copyOfRange_39247_6 ?_
  refine lv_icmp_eq (tgt := 17) hx hb dJ7_copyOfRange_39247_7 (by decide) (fun hc => ?_) (fun hc => ?_)
  · obtain rfl : sK = N := (hf.1.2.2.2.2.2 hc).symm.trans hN
    have hnm : s.vm.findClass "[B" = some (dA 2) := (hK.2 2 _ rfl).2
    refine lv_aload_n hx hb dJ7_copyOfRange_39247_17 rfl (lv_at hl 0 rfl) ?_
    refine va_clone (own := RJ7) (x := (sK, .inl sv)) hx hb (hml.trans hl.1.symm) hown (ha _ m_1015) (ha _ m_1016) (ha _ m_1017) (ha _ m_1018) (ha _ m_1019) (hX.2.1 _ (List.mem_of_getElem? (i := 9) rfl)) hK hP hD hS hA 0 2 rfl rfl hnm ?_ (Nat.le_of_ble_eq_true rfl) (Nat.le_of_ble_eq_true rfl) (Nat.le_of_ble_eq_true rfl) (Nat.le_of_eq (Nat.zero_add _)) dJ7_copyOfRange_39247_18 (fun q H hK1 hP hD hS => ?_)
    · exact va_fit (F := fun j => .int (sv j)) (fun i hi => b_fit (hf.2 i hi))
    refine va_castA (own := RJ7) (x := (sK, .inl sv)) hx hb hown (ha _ m_1021) hP 1 rfl hnm dJ7_copyOfRange_39247_21 ?_
    have hP := va_P_ext hP 1 rfl (fun k hk => cRg_cpy (sv := sv) hk)
    have hD := hD.set (p := 1) (e := .inl (dA 2, sK, .inl (va_cpy sv (fun _ => 0) 0 0 sK))) rfl
    refine W.widen (k := 1) (n := sK) (by decide) (Nat.le_of_eq (Nat.zero_add _)) ?_
    exact rt_Cp hx hb hr (Or.inr ⟨_, rfl⟩) hlocks (hP.sub [0, 1] rfl) (hD.sub [0, 1] (by decide) rfl) hS dJ7_copyOfRange_39247_24
  · refine lv_aload_n hx hb dJ7_copyOfRange_39247_10 rfl (lv_at hl 0 rfl) ?_
    refine lv_iload_n hx hb dJ7_copyOfRange_39247_11 rfl (lv_at hl 1 rfl) ?_
    refine lv_iload_n hx hb dJ7_copyOfRange_39247_12 rfl (lv_at hl 2 rfl) ?_
    refine k_Cp (wr := []) (run_XS (As := [.ref h0, .int 0, .int p2]) (rest := []) ⟨hx, hb, hml, hown, ha⟩ (c_J7_copyOfRangeByte l D dA cA h0 _ sv sK p2 N hN hf) (gi_S2 m_1160 m_1161 m_59 m_1162) ⟨by decide, by decide, yd_J7_copyOfRangeByte⟩ ⟨Nat.le_of_ble_eq_true rfl, Nat.le_of_ble_eq_true rfl⟩ ⟨rfl, rfl⟩ hK hX hS hA hP hD [0] (by decide) rfl rfl hl.1 rfl (Nat.le_of_ble_eq_true rfl) dJ7_copyOfRange_39247_13 ⟨Nat.le_of_ble_eq_true rfl, Nat.le_of_eq (Nat.zero_add _)⟩) hP hD hS hA [0] [] rfl rfl (by decide) (by decide) (fun u H locs hP hD hS => ?_)
    refine W.widen (k := 1) (n := N) (by decide) (Nat.le_of_eq (Nat.zero_add _)) ?_
    exact rt_Cp hx hb hr (Or.inr ⟨_, rfl⟩) hlocks (hP.sub [0, 1] rfl) (hD.sub [0, 1] (by decide) rfl) hS dJ7_copyOfRange_39247_16

theorem yd_J0_initB : yJ0_init_db425.name = "<init>" ∧ yJ0_init_db425.cls ≠ "java/lang/invoke/MethodHandle" ∧ yJ0_init_db425.cls ≠ "java/lang/invoke/VarHandle" ∧ (parseMethodDescriptor yJ0_init_db425.desc).map (fun d => d.parameters.length) = some 2 := ⟨rfl, by decide, by decide, by decide +kernel⟩
set_option maxRecDepth 100000 in
set_option maxHeartbeats 4000000 in
theorem c_J0_initB (l : Launch) (D : va_G) (dA : Nat → ClassId) (cA : Nat → Nat) (h0 h1 h2 : Nat) (sz : Nat) (sv : Nat → Int32) (sK : Nat) (sm sn : Int32) (N : Nat) (hN : sn.toNatClampNeg = N) (hf : cRg sv sK sn) : Met l yJ0_init_db425 (wo (.code yJ0_init_db425 cJ0_init_db425 5 none)) ({ frames := 3, cells := 1, slots := N, locals := 136 } : Room) (preX D dA cA [.ref h0, .ref h1, .null] sz [(h0, .inr (10, [.null, .int 0, .int 0, .int 0])), (h1, .inr (11, [.ref h2, .int (0 : Int32), .int sm, .int sn])), (h2, .inl (dA 2, sK, .inl sv))]) (poGv D (fun u => [(h0, .inr (10, [.ref u, .int (0 : Int32), .int (0 : Int32), .int (0 : Int32)])), (h1, .inr (11, [.ref h2, .int (0 : Int32), .int sm, .int sn])), (h2, .inl (dA 2, sK, .inl sv)), (u, .inl (dA 2, N, .inl (va_cpy sv (fun _ => 0) 0 0 N)))]) (va_A [(h0, .inr (10, [.null, .int 0, .int 0, .int 0])), (h1, .inr (11, [.ref h2, .int (0 : Int32), .int sm, .int sn])), (h2, .inl (dA 2, sK, .inl sv))] sz)) 1 N (va_A [(h0, .inr (10, [.null, .int 0, .int 0, .int 0])), (h1, .inr (11, [.ref h2, .int (0 : Int32), .int sm, .int sn])), (h2, .inl (dA 2, sK, .inl sv))] sz) := by
  refine of_X (y := yJ0_init_db425) (cc := cJ0_init_db425) (maxL := 5) (ret := none) (av := [.ref h0, .ref h1, .null]) (ws := [(h0, .inr (10, [.null, .int 0, .int 0, .int 0])), (h1, .inr (11, [.ref h2, .int (0 : Int32), .int sm, .int sn])), (h2, .inl (dA 2, sK, .inl sv))]) (sz := sz) (own := RJ0) (Qc := poGv D _) (by decide) rfl (Nat.le_of_ble_eq_true rfl) ?_
  intro p e s m below meth c A hx hb hr ha hown hml hlocks hin hP hK hD hX hS hA ls hl
  have hC := hX.1
  have hl : lv_has ls 5 [(0, .ref h0), (1, .ref h1), (2, .null)] := hl
  refine lv_aload_n hx hb dJ0_init_db425_0 rfl (lv_at hl 0 rfl) ?_
  refine ob_i hx hb hml hl.1 hown ha m_1142 dJ0_init_db425_1 ⟨Nat.le_of_ble_eq_true rfl, Nat.le_of_ble_eq_true rfl⟩ ?_
  refine lv_aload_n hx hb dJ0_init_db425_4 rfl (lv_at hl 1 rfl) ?_
  refine k_Pr (run_YW (As := []) (rest := []) ⟨hx, hb, hml, hown, ha⟩ (va_Nw.of rfl (ha _ m_1146)) (c_J5_getValue l D dA cA h1 h2 sm sn) (gi_W (C := RJ4) (owner := RJ5) m_1143 m_1145 m_1144 m_41 m_1147) yd_J5_getValue ⟨Nat.le_of_ble_eq_true rfl, Nat.le_of_ble_eq_true rfl⟩ ⟨rfl, rfl⟩ hK hX hS hP [1] rfl (va_recv hK hP (q0 := 1) rfl rfl) rfl hl.1 rfl (Nat.le_of_ble_eq_true rfl) dJ0_init_db425_5 ⟨Nat.zero_le _, Nat.zero_le _⟩) hP hS (fun H locs hP hS => ?_)
  refine lv_astore_n (lv' := [(3, .ref h2), (0, .ref h0), (1, .ref h1), (2, .null)]) hx hb dJ0_init_db425_8 rfl hl (by decide) rfl (fun ls hl => ?_)
  refine lv_aload_n hx hb dJ0_init_db425_9 rfl (lv_at hl 2 rfl) ?_
  refine k_Pi (r := sn) (run_YO (x := yJ5_length_8abf5) (owner := RJ5) (C := RJ4) (As := []) (rest := []) ⟨hx, hb, hml, hown, ha⟩ (c_J4_length_8abf5 l D dA cA h1 h2 sm sn sn rfl) (gi_O m_1148 m_1150 m_1149 m_1151 m_1152 m_42 m_1153) (b0 := cJ5_length_8abf5) (m0 := 1) (r0 := (some .int)) m_1155 ⟨by decide, by decide, by decide +kernel⟩ ⟨Nat.le_of_ble_eq_true rfl, Nat.le_of_ble_eq_true rfl⟩ ⟨rfl, rfl⟩ hK hX hS hP [1] rfl (va_recv hK hP (q0 := 1) rfl rfl) rfl hl.1 rfl (Nat.le_of_ble_eq_true rfl) dJ0_init_db425_10 ⟨Nat.zero_le _, Nat.zero_le _⟩) hP hS (fun H locs hP hS => ?_)
  refine lv_istore (lv' := [(4, .int sn), (3, .ref h2), (0, .ref h0), (1, .ref h1), (2, .null)]) hx hb dJ0_init_db425_13 hl (by decide) rfl (fun ls hl => ?_)
  refine lv_aload_n hx hb dJ0_init_db425_15 rfl (lv_at hl 3 rfl) ?_
  refine k_Pi (r := 1) (run_YW (As := []) (rest := []) ⟨hx, hb, hml, hown, ha⟩ (va_Nw.of rfl (ha _ m_1027)) (c_J5_isLatin1_aae02 l D dA cA h1 h2 sm sn 1 rfl) (gi_W (C := RJ4) (owner := RJ5) m_1156 m_1026 m_1025 m_41 m_1028) ⟨rfl, by decide, by decide, (yd_J5_isLatin1_aae02).2.2.2⟩ ⟨Nat.le_of_ble_eq_true rfl, Nat.le_of_ble_eq_true rfl⟩ ⟨rfl, rfl⟩ hK hX hS hP [1] rfl (va_recv hK hP (q0 := 1) rfl rfl) rfl hl.1 rfl (Nat.le_of_ble_eq_true rfl) dJ0_init_db425_16 ⟨Nat.zero_le _, Nat.zero_le _⟩) hP hS (fun H locs hP hS => ?_)
  refine lv_if_eq (tgt := 41) hx hb dJ0_init_db425_19 (by decide) (fun hc => absurd hc (by decide)) (fun hc => ?_)
  refine lv_aload_n hx hb dJ0_init_db425_22 rfl (lv_at hl 2 rfl) ?_
  refine lv_iconst (v := 0) hx hb dJ0_init_db425_23 (by decide) ?_
  refine pt_F (C := RJ0) (T := TJ0) (N := 4) (ws' := [(h0, .inr (10, [.null, .int 0, .int 0, .int 0])), (h1, .inr (11, [.ref h2, .int (0 : Int32), .int sm, .int sn])), (h2, .inl (dA 2, sK, .inl sv))]) (ty := .byte) hx hb ha in_ST tyST tyST_ok nmST hown hK hP hD hS 0 rfl rfl 1 (by decide) m_1188 rfl hin rfl (tyST_ok 1 (by decide)) rfl rfl (Nat.le_of_ble_eq_true rfl) rfl dJ0_init_db425_24 (fun H locs hP hD hS => ?_)
  refine lv_aload_n hx hb dJ0_init_db425_27 rfl (lv_at hl 2 rfl) ?_
  refine lv_aload_n hx hb dJ0_init_db425_28 rfl (lv_at hl 1 rfl) ?_
  refine lv_iconst (v := 0) hx hb dJ0_init_db425_29 (by decide) ?_
  refine lv_iload hx hb dJ0_init_db425_30 (lv_at hl 0 rfl) ?_
  refine k_Cp (wr := [(h0, .inr (10, [.null, .int 0, .int 0, .int 0])), (h1, .inr (11, [.ref h2, .int (0 : Int32), .int sm, .int sn]))]) (run_XS (As := [.ref h2, .int 0, .int sn]) (rest := [.ref h0]) ⟨hx, hb, hml, hown, ha⟩ (c_J7_copyOfRange l D dA cA h2 _ sv sK sn N hN hf) (gi_S2 m_1157 m_1158 m_59 m_1159) ⟨by decide, by decide, yd_J7_copyOfRange⟩ ⟨Nat.le_of_ble_eq_true rfl, Nat.le_of_ble_eq_true rfl⟩ ⟨rfl, rfl⟩ hK hX hS hA hP hD [2] (by decide) rfl rfl hl.1 rfl (Nat.le_of_ble_eq_true rfl) dJ0_init_db425_32 ⟨Nat.le_of_ble_eq_true rfl, Nat.le_of_eq (Nat.zero_add _)⟩) hP hD hS hA [2] [0, 1] rfl rfl (by decide) (by decide) (fun u H locs hP hD hS => ?_)
  refine pt_F (C := RJ0) (T := TJ0) (N := 4) (ws' := [(h0, .inr (10, [.ref u, .int (0 : Int32), .int (0 : Int32), .int (0 : Int32)])), (h1, .inr (11, [.ref h2, .int (0 : Int32), .int sm, .int sn])), (h2, .inl (dA 2, sK, .inl sv)), (u, .inl (dA 2, N, .inl (va_cpy sv (fun _ => 0) 0 0 N)))]) (ty := .array .byte) hx hb ha in_ST tyST tyST_ok nmST hown hK hP hD hS 0 rfl rfl 0 (by decide) m_1187 rfl hin rfl (tyST_ok 0 (by decide)) rfl rfl (Nat.le_of_ble_eq_true rfl) rfl dJ0_init_db425_35 (fun H locs hP hD hS => ?_)
  refine lv_goto (tgt := 97) hx hb dJ0_init_db425_38 (by decide) ?_
  refine W.widen (k := 1) (n := N) (by decide) (Nat.le_of_eq (Nat.zero_add _)) ?_
  exact rt_Gv (u := u) hx hb hr hlocks (hP.sub [0, 1, 2, 3] rfl) (hD.sub [0, 1, 2, 3] (by decide) rfl) hS dJ0_init_db425_97

theorem yd_J0_initA : yJ0_init_81219.name = "<init>" ∧ yJ0_init_81219.cls ≠ "java/lang/invoke/MethodHandle" ∧ yJ0_init_81219.cls ≠ "java/lang/invoke/VarHandle" ∧ (parseMethodDescriptor yJ0_init_81219.desc).map (fun d => d.parameters.length) = some 1 := ⟨rfl, by decide, by decide, by decide +kernel⟩
set_option maxRecDepth 100000 in
set_option maxHeartbeats 4000000 in
theorem c_J0_initA (l : Launch) (D : va_G) (dA : Nat → ClassId) (cA : Nat → Nat) (h0 h1 h2 : Nat) (sz : Nat) (sv : Nat → Int32) (sK : Nat) (sm sn : Int32) (N : Nat) (hN : sn.toNatClampNeg = N) (hf : cRg sv sK sn) : Met l yJ0_init_81219 (wo (.code yJ0_init_81219 cJ0_init_81219 2 none)) ({ frames := 4, cells := 1, slots := N, locals := 160 } : Room) (preX D dA cA [.ref h0, .ref h1] sz [(h0, .inr (10, [.null, .int 0, .int 0, .int 0])), (h1, .inr (11, [.ref h2, .int (0 : Int32), .int sm, .int sn])), (h2, .inl (dA 2, sK, .inl sv))]) (poGv D (fun u => [(h0, .inr (10, [.ref u, .int (0 : Int32), .int (0 : Int32), .int (0 : Int32)])), (h1, .inr (11, [.ref h2, .int (0 : Int32), .int sm, .int sn])), (h2, .inl (dA 2, sK, .inl sv)), (u, .inl (dA 2, N, .inl (va_cpy sv (fun _ => 0) 0 0 N)))]) (va_A [(h0, .inr (10, [.null, .int 0, .int 0, .int 0])), (h1, .inr (11, [.ref h2, .int (0 : Int32), .int sm, .int sn])), (h2, .inl (dA 2, sK, .inl sv))] sz)) 1 N (va_A [(h0, .inr (10, [.null, .int 0, .int 0, .int 0])), (h1, .inr (11, [.ref h2, .int (0 : Int32), .int sm, .int sn])), (h2, .inl (dA 2, sK, .inl sv))] sz) := by
  refine of_X (y := yJ0_init_81219) (cc := cJ0_init_81219) (maxL := 2) (ret := none) (av := [.ref h0, .ref h1]) (ws := [(h0, .inr (10, [.null, .int 0, .int 0, .int 0])), (h1, .inr (11, [.ref h2, .int (0 : Int32), .int sm, .int sn])), (h2, .inl (dA 2, sK, .inl sv))]) (sz := sz) (own := RJ0) (Qc := poGv D _) (by decide) rfl (Nat.le_of_ble_eq_true rfl) ?_
  intro p e s m below meth c A hx hb hr ha hown hml hlocks hin hP hK hD hX hS hA ls hl
  have hl : lv_has ls 2 [(0, .ref h0), (1, .ref h1)] := hl
  refine lv_aload_n hx hb dJ0_init_81219_0 rfl (lv_at hl 0 rfl) ?_
  refine lv_aload_n hx hb dJ0_init_81219_1 rfl (lv_at hl 1 rfl) ?_
  refine lv_null hx hb dJ0_init_81219_2 ?_
  refine k_Gv (wr := []) (run_II (As := [.ref h1, .null]) (rest := []) ⟨hx, hb, hml, hown, ha⟩ (c_J0_initB l D dA cA h0 h1 h2 _ sv sK sm sn N hN hf) m_1139 m_43 m_1140 m_1141 rfl yd_J0_initB ⟨Nat.le_of_ble_eq_true rfl, Nat.le_of_ble_eq_true rfl⟩ ⟨rfl, rfl⟩ hK hX hS hA hP hD [0, 1, 2] (by decide) rfl rfl hl.1 rfl (Nat.le_of_ble_eq_true rfl) dJ0_init_81219_3 ⟨Nat.le_of_ble_eq_true rfl, Nat.le_of_eq (Nat.zero_add _)⟩) hP hD hS hA [0, 1, 2] [] rfl rfl (by decide) (by decide) (fun u H locs hP hD hS => ?_)
  refine W.widen (k := 1) (n := N) (by decide) (Nat.le_of_eq (Nat.zero_add _)) ?_
  exact rt_Gv (u := u) hx hb hr hlocks (hP.sub [0, 1, 2, 3] rfl) (hD.sub [0, 1, 2, 3] (by decide) rfl) hS dJ0_init_81219_6

def f_J4_toString (sv : Nat → Int32) (sK : Nat) (sn : Int32) : Option (Nat × (Nat → Int32)) :=
  sf_g (cRg sv sK sn) (some (sn.toNatClampNeg, va_cpy sv (fun _ => 0) 0 0 sn.toNatClampNeg))
theorem yd_J4_toString : yJ4_toString_0e30d.cls = RJ4 ∧ yJ4_toString_0e30d.cls ≠ "java/lang/invoke/MethodHandle" ∧ yJ4_toString_0e30d.cls ≠ "java/lang/invoke/VarHandle" ∧ (parseMethodDescriptor yJ4_toString_0e30d.desc).map (fun d => d.parameters.length) = some 0 := ⟨rfl, by decide, by decide, by decide +kernel⟩
set_option maxRecDepth 100000 in
set_option maxHeartbeats 4000000 in
theorem c_J4_toString (l : Launch) (D : va_G) (dA : Nat → ClassId) (cA : Nat → Nat) (h0 h1 : Nat) (sz : Nat) (sv : Nat → Int32) (sK : Nat) (sm sn : Int32) (q_tK : Nat) (q_tv : Nat → Int32) (hf : f_J4_toString sv sK sn = some (q_tK, q_tv)) : Met l yJ4_toString_0e30d (wo (.code yJ4_toString_0e30d cJ4_toString_0e30d 1 (some (.object "java/lang/String")))) ({ frames := 5, cells := 2, slots := 4 + q_tK, locals := 181 } : Room) (preX D dA cA [.ref h0] sz [(h0, .inr (11, [.ref h1, .int (0 : Int32), .int sm, .int sn])), (h1, .inl (dA 2, sK, .inl sv))]) (poT D (fun a u => [(h0, .inr (11, [.ref h1, .int (0 : Int32), .int sm, .int sn])), (h1, .inl (dA 2, sK, .inl sv)), (a, .inr (10, [.ref u, .int (0 : Int32), .int (0 : Int32), .int (0 : Int32)])), (u, .inl (dA 2, q_tK, .inl q_tv))]) (va_A [(h0, .inr (11, [.ref h1, .int (0 : Int32), .int sm, .int sn])), (h1, .inl (dA 2, sK, .inl sv))] sz)) 2 (4 + q_tK) (va_A [(h0, .inr (11, [.ref h1, .int (0 : Int32), .int sm, .int sn])), (h1, .inl (dA 2, sK, .inl sv))] sz) := by
  obtain ⟨hg, hf⟩ := sf_ge hf
  cases hf
  refine of_X (y := yJ4_toString_0e30d) (cc := cJ4_toString_0e30d) (maxL := 1) (ret := (some (.object "java/lang/String"))) (av := [.ref h0]) (ws := [(h0, .inr (11, [.ref h1, .int (0 : Int32), .int sm, .int sn])), (h1, .inl (dA 2, sK, .inl sv))]) (sz := sz) (own := RJ4) (Qc := poT D _) (by decide) rfl (Nat.le_of_ble_eq_true rfl) ?_
  intro p e s m below meth c A hx hb hr ha hown hml hlocks hin hP hK hD hX hS hA ls hl
  have hl : lv_has ls 1 [(0, .ref h0)] := hl
  refine va_new (c0 := c) (ci := 10) (fs := [.null, .int 0, .int 0, .int 0]) (C := RJ0) (T := TJ0) (N := 4) hx hb ha in_ST tyST tyST_ok hown (ha _ m_1135) (ha _ m_604) (ha _ m_43) hK hP hD hS hA rfl (fun j hj => by rcases (show j = 0 ∨ j = 1 ∨ j = 2 ∨ j = 3 by omega) with rfl | rfl | rfl | rfl <;> rfl) (Nat.le_of_ble_eq_true rfl) (Nat.le_trans (Nat.le_of_eq (Nat.zero_add _)) (Nat.le_add_right _ _)) dJ4_toString_0e30d_0 (fun q H hP hD hS => ?_)
  refine lv_dup hx hb dJ4_toString_0e30d_3 rfl ?_
  refine lv_aload_n hx hb dJ4_toString_0e30d_4 rfl (lv_at hl 0 rfl) ?_
  refine k_Gv (wr := []) (run_II (As := [.ref h0]) (rest := [.ref q]) ⟨hx, hb, hml, hown, ha⟩ (c_J0_initA l D dA cA q h0 h1 _ sv sK sm sn _ rfl hg) m_1136 m_43 m_1137 m_1138 rfl yd_J0_initA ⟨Nat.le_of_ble_eq_true rfl, Nat.le_of_ble_eq_true rfl⟩ ⟨rfl, rfl⟩ hK hX hS hA hP hD [2, 0, 1] (by decide) rfl rfl hl.1 rfl (Nat.le_of_ble_eq_true rfl) dJ4_toString_0e30d_5 ⟨Nat.le_of_ble_eq_true rfl, Nat.le_refl _⟩) hP hD hS hA [2, 0, 1] [] rfl rfl (by decide) (by decide) (fun u H locs hP hD hS => ?_)
  refine W.widen (k := 2) (n := 4 + sn.toNatClampNeg) (by decide) (by omega) ?_
  exact rt_T hx hb hr (Or.inl ⟨_, rfl⟩) hlocks (hP.sub [1, 2, 0, 3] rfl) (hD.sub [1, 2, 0, 3] (by decide) rfl) hS dJ4_toString_0e30d_8
