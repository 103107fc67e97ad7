/-! the commands are carried out, by both -/
theorem sfc6_i {α γ0 γ1 γ2 γ3 γ4 γ5 : Type} {x : Option (γ0 × γ1 × γ2 × γ3 × γ4 × γ5)} {k : γ0 → γ1 → γ2 → γ3 → γ4 → γ5 → Option α} {R : Option α} {a0 : γ0} {a1 : γ1} {a2 : γ2} {a3 : γ3} {a4 : γ4} {a5 : γ5} (h : x = some (a0, a1, a2, a3, a4, a5)) (h2 : k a0 a1 a2 a3 a4 a5 = R) : sf_c6 x k = R := by subst h; exact h2
theorem sfc7_i {α γ0 γ1 γ2 γ3 γ4 γ5 γ6 : Type} {x : Option (γ0 × γ1 × γ2 × γ3 × γ4 × γ5 × γ6)} {k : γ0 → γ1 → γ2 → γ3 → γ4 → γ5 → γ6 → Option α} {R : Option α} {a0 : γ0} {a1 : γ1} {a2 : γ2} {a3 : γ3} {a4 : γ4} {a5 : γ5} {a6 : γ6} (h : x = some (a0, a1, a2, a3, a4, a5, a6)) (h2 : k a0 a1 a2 a3 a4 a5 a6 = R) : sf_c7 x k = R := by subst h; exact h2
theorem sfc8_i {α γ0 γ1 γ2 γ3 γ4 γ5 γ6 γ7 : Type} {x : Option (γ0 × γ1 × γ2 × γ3 × γ4 × γ5 × γ6 × γ7)} {k : γ0 → γ1 → γ2 → γ3 → γ4 → γ5 → γ6 → γ7 → Option α} {R : Option α} {a0 : γ0} {a1 : γ1} {a2 : γ2} {a3 : γ3} {a4 : γ4} {a5 : γ5} {a6 : γ6} {a7 : γ7} (h : x = some (a0, a1, a2, a3, a4, a5, a6, a7)) (h2 : k a0 a1 a2 a3 a4 a5 a6 a7 = R) : sf_c8 x k = R := by subst h; exact h2
theorem sfc9_i {α γ0 γ1 γ2 γ3 γ4 γ5 γ6 γ7 γ8 : Type} {x : Option (γ0 × γ1 × γ2 × γ3 × γ4 × γ5 × γ6 × γ7 × γ8)} {k : γ0 → γ1 → γ2 → γ3 → γ4 → γ5 → γ6 → γ7 → γ8 → Option α} {R : Option α} {a0 : γ0} {a1 : γ1} {a2 : γ2} {a3 : γ3} {a4 : γ4} {a5 : γ5} {a6 : γ6} {a7 : γ7} {a8 : γ8} (h : x = some (a0, a1, a2, a3, a4, a5, a6, a7, a8)) (h2 : k a0 a1 a2 a3 a4 a5 a6 a7 a8 = R) : sf_c9 x k = R := by subst h; exact h2
theorem sfc12_i {α γ0 γ1 γ2 γ3 γ4 γ5 γ6 γ7 γ8 γ9 γ10 γ11 : Type} {x : Option (γ0 × γ1 × γ2 × γ3 × γ4 × γ5 × γ6 × γ7 × γ8 × γ9 × γ10 × γ11)} {k : γ0 → γ1 → γ2 → γ3 → γ4 → γ5 → γ6 → γ7 → γ8 → γ9 → γ10 → γ11 → Option α} {R : Option α} {a0 : γ0} {a1 : γ1} {a2 : γ2} {a3 : γ3} {a4 : γ4} {a5 : γ5} {a6 : γ6} {a7 : γ7} {a8 : γ8} {a9 : γ9} {a10 : γ10} {a11 : γ11} (h : x = some (a0, a1, a2, a3, a4, a5, a6, a7, a8, a9, a10, a11)) (h2 : k a0 a1 a2 a3 a4 a5 a6 a7 a8 a9 a10 a11 = R) : sf_c12 x k = R := by subst h; exact h2
theorem sfc13_i {α γ0 γ1 γ2 γ3 γ4 γ5 γ6 γ7 γ8 γ9 γ10 γ11 γ12 : Type} {x : Option (γ0 × γ1 × γ2 × γ3 × γ4 × γ5 × γ6 × γ7 × γ8 × γ9 × γ10 × γ11 × γ12)} {k : γ0 → γ1 → γ2 → γ3 → γ4 → γ5 → γ6 → γ7 → γ8 → γ9 → γ10 → γ11 → γ12 → Option α} {R : Option α} {a0 : γ0} {a1 : γ1} {a2 : γ2} {a3 : γ3} {a4 : γ4} {a5 : γ5} {a6 : γ6} {a7 : γ7} {a8 : γ8} {a9 : γ9} {a10 : γ10} {a11 : γ11} {a12 : γ12} (h : x = some (a0, a1, a2, a3, a4, a5, a6, a7, a8, a9, a10, a11, a12)) (h2 : k a0 a1 a2 a3 a4 a5 a6 a7 a8 a9 a10 a11 a12 = R) : sf_c13 x k = R := by subst h; exact h2
theorem sfc19_i {α γ0 γ1 γ2 γ3 γ4 γ5 γ6 γ7 γ8 γ9 γ10 γ11 γ12 γ13 γ14 γ15 γ16 γ17 γ18 : Type} {x : Option (γ0 × γ1 × γ2 × γ3 × γ4 × γ5 × γ6 × γ7 × γ8 × γ9 × γ10 × γ11 × γ12 × γ13 × γ14 × γ15 × γ16 × γ17 × γ18)} {k : γ0 → γ1 → γ2 → γ3 → γ4 → γ5 → γ6 → γ7 → γ8 → γ9 → γ10 → γ11 → γ12 → γ13 → γ14 → γ15 → γ16 → γ17 → γ18 → Option α} {R : Option α} {a0 : γ0} {a1 : γ1} {a2 : γ2} {a3 : γ3} {a4 : γ4} {a5 : γ5} {a6 : γ6} {a7 : γ7} {a8 : γ8} {a9 : γ9} {a10 : γ10} {a11 : γ11} {a12 : γ12} {a13 : γ13} {a14 : γ14} {a15 : γ15} {a16 : γ16} {a17 : γ17} {a18 : γ18} (h : x = some (a0, a1, a2, a3, a4, a5, a6, a7, a8, a9, a10, a11, a12, a13, a14, a15, a16, a17, a18)) (h2 : k a0 a1 a2 a3 a4 a5 a6 a7 a8 a9 a10 a11 a12 a13 a14 a15 a16 a17 a18 = R) : sf_c19 x k = R := by subst h; exact h2
theorem sfc22_i {α γ0 γ1 γ2 γ3 γ4 γ5 γ6 γ7 γ8 γ9 γ10 γ11 γ12 γ13 γ14 γ15 γ16 γ17 γ18 γ19 γ20 γ21 : Type} {x : Option (γ0 × γ1 × γ2 × γ3 × γ4 × γ5 × γ6 × γ7 × γ8 × γ9 × γ10 × γ11 × γ12 × γ13 × γ14 × γ15 × γ16 × γ17 × γ18 × γ19 × γ20 × γ21)} {k : γ0 → γ1 → γ2 → γ3 → γ4 → γ5 → γ6 → γ7 → γ8 → γ9 → γ10 → γ11 → γ12 → γ13 → γ14 → γ15 → γ16 → γ17 → γ18 → γ19 → γ20 → γ21 → Option α} {R : Option α} {a0 : γ0} {a1 : γ1} {a2 : γ2} {a3 : γ3} {a4 : γ4} {a5 : γ5} {a6 : γ6} {a7 : γ7} {a8 : γ8} {a9 : γ9} {a10 : γ10} {a11 : γ11} {a12 : γ12} {a13 : γ13} {a14 : γ14} {a15 : γ15} {a16 : γ16} {a17 : γ17} {a18 : γ18} {a19 : γ19} {a20 : γ20} {a21 : γ21} (h : x = some (a0, a1, a2, a3, a4, a5, a6, a7, a8, a9, a10, a11, a12, a13, a14, a15, a16, a17, a18, a19, a20, a21)) (h2 : k a0 a1 a2 a3 a4 a5 a6 a7 a8 a9 a10 a11 a12 a13 a14 a15 a16 a17 a18 a19 a20 a21 = R) : sf_c22 x k = R := by subst h; exact h2
theorem sfc23_i {α γ0 γ1 γ2 γ3 γ4 γ5 γ6 γ7 γ8 γ9 γ10 γ11 γ12 γ13 γ14 γ15 γ16 γ17 γ18 γ19 γ20 γ21 γ22 : Type} {x : Option (γ0 × γ1 × γ2 × γ3 × γ4 × γ5 × γ6 × γ7 × γ8 × γ9 × γ10 × γ11 × γ12 × γ13 × γ14 × γ15 × γ16 × γ17 × γ18 × γ19 × γ20 × γ21 × γ22)} {k : γ0 → γ1 → γ2 → γ3 → γ4 → γ5 → γ6 → γ7 → γ8 → γ9 → γ10 → γ11 → γ12 → γ13 → γ14 → γ15 → γ16 → γ17 → γ18 → γ19 → γ20 → γ21 → γ22 → Option α} {R : Option α} {a0 : γ0} {a1 : γ1} {a2 : γ2} {a3 : γ3} {a4 : γ4} {a5 : γ5} {a6 : γ6} {a7 : γ7} {a8 : γ8} {a9 : γ9} {a10 : γ10} {a11 : γ11} {a12 : γ12} {a13 : γ13} {a14 : γ14} {a15 : γ15} {a16 : γ16} {a17 : γ17} {a18 : γ18} {a19 : γ19} {a20 : γ20} {a21 : γ21} {a22 : γ22} (h : x = some (a0, a1, a2, a3, a4, a5, a6, a7, a8, a9, a10, a11, a12, a13, a14, a15, a16, a17, a18, a19, a20, a21, a22)) (h2 : k a0 a1 a2 a3 a4 a5 a6 a7 a8 a9 a10 a11 a12 a13 a14 a15 a16 a17 a18 a19 a20 a21 a22 = R) : sf_c23 x k = R := by subst h; exact h2
theorem sfc24_i {α γ0 γ1 γ2 γ3 γ4 γ5 γ6 γ7 γ8 γ9 γ10 γ11 γ12 γ13 γ14 γ15 γ16 γ17 γ18 γ19 γ20 γ21 γ22 γ23 : Type} {x : Option (γ0 × γ1 × γ2 × γ3 × γ4 × γ5 × γ6 × γ7 × γ8 × γ9 × γ10 × γ11 × γ12 × γ13 × γ14 × γ15 × γ16 × γ17 × γ18 × γ19 × γ20 × γ21 × γ22 × γ23)} {k : γ0 → γ1 → γ2 → γ3 → γ4 → γ5 → γ6 → γ7 → γ8 → γ9 → γ10 → γ11 → γ12 → γ13 → γ14 → γ15 → γ16 → γ17 → γ18 → γ19 → γ20 → γ21 → γ22 → γ23 → Option α} {R : Option α} {a0 : γ0} {a1 : γ1} {a2 : γ2} {a3 : γ3} {a4 : γ4} {a5 : γ5} {a6 : γ6} {a7 : γ7} {a8 : γ8} {a9 : γ9} {a10 : γ10} {a11 : γ11} {a12 : γ12} {a13 : γ13} {a14 : γ14} {a15 : γ15} {a16 : γ16} {a17 : γ17} {a18 : γ18} {a19 : γ19} {a20 : γ20} {a21 : γ21} {a22 : γ22} {a23 : γ23} (h : x = some (a0, a1, a2, a3, a4, a5, a6, a7, a8, a9, a10, a11, a12, a13, a14, a15, a16, a17, a18, a19, a20, a21, a22, a23)) (h2 : k a0 a1 a2 a3 a4 a5 a6 a7 a8 a9 a10 a11 a12 a13 a14 a15 a16 a17 a18 a19 a20 a21 a22 a23 = R) : sf_c24 x k = R := by subst h; exact h2
theorem sfc26_i {α γ0 γ1 γ2 γ3 γ4 γ5 γ6 γ7 γ8 γ9 γ10 γ11 γ12 γ13 γ14 γ15 γ16 γ17 γ18 γ19 γ20 γ21 γ22 γ23 γ24 γ25 : Type} {x : Option (γ0 × γ1 × γ2 × γ3 × γ4 × γ5 × γ6 × γ7 × γ8 × γ9 × γ10 × γ11 × γ12 × γ13 × γ14 × γ15 × γ16 × γ17 × γ18 × γ19 × γ20 × γ21 × γ22 × γ23 × γ24 × γ25)} {k : γ0 → γ1 → γ2 → γ3 → γ4 → γ5 → γ6 → γ7 → γ8 → γ9 → γ10 → γ11 → γ12 → γ13 → γ14 → γ15 → γ16 → γ17 → γ18 → γ19 → γ20 → γ21 → γ22 → γ23 → γ24 → γ25 → Option α} {R : Option α} {a0 : γ0} {a1 : γ1} {a2 : γ2} {a3 : γ3} {a4 : γ4} {a5 : γ5} {a6 : γ6} {a7 : γ7} {a8 : γ8} {a9 : γ9} {a10 : γ10} {a11 : γ11} {a12 : γ12} {a13 : γ13} {a14 : γ14} {a15 : γ15} {a16 : γ16} {a17 : γ17} {a18 : γ18} {a19 : γ19} {a20 : γ20} {a21 : γ21} {a22 : γ22} {a23 : γ23} {a24 : γ24} {a25 : γ25} (h : x = some (a0, a1, a2, a3, a4, a5, a6, a7, a8, a9, a10, a11, a12, a13, a14, a15, a16, a17, a18, a19, a20, a21, a22, a23, a24, a25)) (h2 : k a0 a1 a2 a3 a4 a5 a6 a7 a8 a9 a10 a11 a12 a13 a14 a15 a16 a17 a18 a19 a20 a21 a22 a23 a24 a25 = R) : sf_c26 x k = R := by subst h; exact h2
theorem sfc32_i {α γ0 γ1 γ2 γ3 γ4 γ5 γ6 γ7 γ8 γ9 γ10 γ11 γ12 γ13 γ14 γ15 γ16 γ17 γ18 γ19 γ20 γ21 γ22 γ23 γ24 γ25 γ26 γ27 γ28 γ29 γ30 γ31 : Type} {x : Option (γ0 × γ1 × γ2 × γ3 × γ4 × γ5 × γ6 × γ7 × γ8 × γ9 × γ10 × γ11 × γ12 × γ13 × γ14 × γ15 × γ16 × γ17 × γ18 × γ19 × γ20 × γ21 × γ22 × γ23 × γ24 × γ25 × γ26 × γ27 × γ28 × γ29 × γ30 × γ31)} {k : γ0 → γ1 → γ2 → γ3 → γ4 → γ5 → γ6 → γ7 → γ8 → γ9 → γ10 → γ11 → γ12 → γ13 → γ14 → γ15 → γ16 → γ17 → γ18 → γ19 → γ20 → γ21 → γ22 → γ23 → γ24 → γ25 → γ26 → γ27 → γ28 → γ29 → γ30 → γ31 → Option α} {R : Option α} {a0 : γ0} {a1 : γ1} {a2 : γ2} {a3 : γ3} {a4 : γ4} {a5 : γ5} {a6 : γ6} {a7 : γ7} {a8 : γ8} {a9 : γ9} {a10 : γ10} {a11 : γ11} {a12 : γ12} {a13 : γ13} {a14 : γ14} {a15 : γ15} {a16 : γ16} {a17 : γ17} {a18 : γ18} {a19 : γ19} {a20 : γ20} {a21 : γ21} {a22 : γ22} {a23 : γ23} {a24 : γ24} {a25 : γ25} {a26 : γ26} {a27 : γ27} {a28 : γ28} {a29 : γ29} {a30 : γ30} {a31 : γ31} (h : x = some (a0, a1, a2, a3, a4, a5, a6, a7, a8, a9, a10, a11, a12, a13, a14, a15, a16, a17, a18, a19, a20, a21, a22, a23, a24, a25, a26, a27, a28, a29, a30, a31)) (h2 : k a0 a1 a2 a3 a4 a5 a6 a7 a8 a9 a10 a11 a12 a13 a14 a15 a16 a17 a18 a19 a20 a21 a22 a23 a24 a25 a26 a27 a28 a29 a30 a31 = R) : sf_c32 x k = R := by subst h; exact h2
section EXE
variable {M : Nat → Nat} {ms : Nat → Int32} {U : Nat} {on ot op os sc gc bc fc : Int32} {sd sp sw gp gr bg bs bt be ql qg fg fs fm : Nat → Int32}
theorem VW_up {U' : Nat} (h : VW M U) (hU : U ≤ U') (h2 : U' ≤ 4000000) : VW M U' := by
  obtain ⟨⟨x1, x2, x3, x4, x5, x6⟩, x7⟩ := h
  exact ⟨⟨x1, x2, x3, x4, by omega, h2⟩, x7⟩
theorem pf_build (hV : VW M U) (hU : U + 60 ≤ 4000000) (hm : MR M ms) (hr : RO M on ot op os sc sd sp sw gc gp gr bc bg bs bt be ql qg fc fg fs fm) {tn mc : Nat → Int32} {V : Nat → Nat} {j : Nat} (hj : j < 60) (hn : NUMS 0 V tn) (hc : CMDS 0 V j mc) : (∃ o c : Nat, 1 ≤ o ∧ o ≤ 5 ∧ 1 ≤ c ∧ c ≤ 4 ∧ f_X11_perform on ot op os sc sd sp sw gc gp gr bc bg bs bt be ql qg fc fg fs fm tn 0 = some (-nI o, on, ot, op, os, sc, sd, sp, sw, gc, gp, gr, bc, bg, bs, bt, be, ql, qg, fc, fg, fs, fm) ∧ f_X12_does ms (nI 0) mc (nI j) = some (ms, nI c)) ∨ (∃ (a : Nat) (M' : Nat → Nat) (ms' : Nat → Int32), ∃ on' ot' op' os' sc' sd' sp' sw' gc' gp' gr' bc' bg' bs' bt' be' ql' qg' fc' fg' fs' fm', f_X11_perform on ot op os sc sd sp sw gc gp gr bc bg bs bt be ql qg fc fg fs fm tn 0 = some (nI a, on', ot', op', os', sc', sd', sp', sw', gc', gp', gr', bc', bg', bs', bt', be', ql', qg', fc', fg', fs', fm') ∧ f_X12_does ms (nI 0) mc (nI j) = some (ms', nI 0) ∧ a < 2 ^ 31 ∧ VW M' (U + 60) ∧ MR M' ms' ∧ RO M' on' ot' op' os' sc' sd' sp' sw' gc' gp' gr' bc' bg' bs' bt' be' ql' qg' fc' fg' fs' fm') := by
  have t0 : tn (0 : Int32).toNatClampNeg = nI (V 0) := hn 0 (by decide)
  have t1 : tn (1 : Int32).toNatClampNeg = nI (V 1) := hn 1 (by decide)
  have e4 : (4 : Int32) * nI j = nI (4 * j) := by rw [il_4, nI_mul]
  have c0 : mc (nI (4 * j)).toNatClampNeg = nI 115 := by rw [nI_clamp (by omega)]; exact hc.1
  have c1 : mc (nI (4 * j) + 1).toNatClampNeg = nI (V 0) := by
    rw [show nI (4 * j) + (1 : Int32) = nI (4 * j + 1) from nI_add _ _, nI_clamp (by omega)]
    exact hc.2 0 (by decide)
  have c2 : mc (nI (4 * j) + 2).toNatClampNeg = nI (V 1) := by
    rw [show nI (4 * j) + (2 : Int32) = nI (4 * j + 2) from nI_add _ _, nI_clamp (by omega)]
    exact hc.2 1 (by decide)
  have g1 : sf_in (nI (4 * j) + 1) 240 = true := by
    rw [show nI (4 * j) + (1 : Int32) = nI (4 * j + 1) from nI_add _ _]
    exact of_eq_true (nI_inT (by omega) (by omega))
  have g2 : sf_in (nI (4 * j) + 2) 240 = true := by
    rw [show nI (4 * j) + (2 : Int32) = nI (4 * j + 2) from nI_add _ _]
    exact of_eq_true (nI_inT (by omega) (by omega))
  have g3 : sf_in (nI (4 * j) + 3) 240 = true := by
    rw [show nI (4 * j) + (3 : Int32) = nI (4 * j + 3) from nI_add _ _]
    exact of_eq_true (nI_inT (by omega) (by omega))
  have g0 : sf_in (nI (4 * j)) 240 = true := of_eq_true (nI_inT (by omega) (by omega))
  rcases sim_build hV hm hr (nI (V 0)) (nI (V 1)) (nI 0) with ⟨c, o, h1, h2, h3⟩ | ⟨a, M', ms', sc', sd', sp', sw', h1, h2, h3, h4, h5, h6⟩
  · left
    refine ⟨o, c, by omega, by omega, by omega, by omega, ?_, ?_⟩
    · rw [f_X11_perform]
      refine sfc1_i (a := enO 0) rfl ?_
      refine sfg_i (by decide) ?_
      refine sfb_t (by decide) ?_
      refine sfg_i (by decide) ?_
      refine sfg_i (by decide) ?_
      rw [t0, t1]
      exact sfc5_i h2 rfl
    · rw [f_X12_does, e4]
      refine sfg_i g1 ?_
      refine sfn_r c1 ?_
      refine sfg_i g2 ?_
      refine sfn_r c2 ?_
      refine sfg_i g0 ?_
      rw [c0]
      refine sfb_f (by decide) ?_
      refine sfb_f (by decide) ?_
      refine sfb_f (by decide) ?_
      refine sfb_f (by decide) ?_
      refine sfb_t (by decide) ?_
      exact sfc3_i h3 rfl
  · right
    refine ⟨a, M', ms', on, ot, op, os, sc', sd', sp', sw', gc, gp, gr, bc, bg, bs, bt, be, ql, qg, fc, fg, fs, fm, ?_, ?_, h3, VW_up h4 (by omega) hU, h5, h6⟩
    · rw [f_X11_perform]
      refine sfc1_i (a := enO 0) rfl ?_
      refine sfg_i (by decide) ?_
      refine sfb_t (by decide) ?_
      refine sfg_i (by decide) ?_
      refine sfg_i (by decide) ?_
      rw [t0, t1]
      exact sfc5_i h1 rfl
    · rw [f_X12_does, e4]
      refine sfg_i g1 ?_
      refine sfn_r c1 ?_
      refine sfg_i g2 ?_
      refine sfn_r c2 ?_
      refine sfg_i g0 ?_
      rw [c0]
      refine sfb_f (by decide) ?_
      refine sfb_f (by decide) ?_
      refine sfb_f (by decide) ?_
      refine sfb_f (by decide) ?_
      refine sfb_t (by decide) ?_
      exact sfc3_i h2 rfl
theorem pf_guest (hV : VW M U) (hU : U + 60 ≤ 4000000) (hm : MR M ms) (hr : RO M on ot op os sc sd sp sw gc gp gr bc bg bs bt be ql qg fc fg fs fm) {tn mc : Nat → Int32} {V : Nat → Nat} {j : Nat} (hj : j < 60) (hn : NUMS 1 V tn) (hc : CMDS 1 V j mc) : (∃ o c : Nat, 1 ≤ o ∧ o ≤ 5 ∧ 1 ≤ c ∧ c ≤ 4 ∧ f_X11_perform on ot op os sc sd sp sw gc gp gr bc bg bs bt be ql qg fc fg fs fm tn 1 = some (-nI o, on, ot, op, os, sc, sd, sp, sw, gc, gp, gr, bc, bg, bs, bt, be, ql, qg, fc, fg, fs, fm) ∧ f_X12_does ms (nI 0) mc (nI j) = some (ms, nI c)) ∨ (∃ (a : Nat) (M' : Nat → Nat) (ms' : Nat → Int32), ∃ on' ot' op' os' sc' sd' sp' sw' gc' gp' gr' bc' bg' bs' bt' be' ql' qg' fc' fg' fs' fm', f_X11_perform on ot op os sc sd sp sw gc gp gr bc bg bs bt be ql qg fc fg fs fm tn 1 = some (nI a, on', ot', op', os', sc', sd', sp', sw', gc', gp', gr', bc', bg', bs', bt', be', ql', qg', fc', fg', fs', fm') ∧ f_X12_does ms (nI 0) mc (nI j) = some (ms', nI 0) ∧ a < 2 ^ 31 ∧ VW M' (U + 60) ∧ MR M' ms' ∧ RO M' on' ot' op' os' sc' sd' sp' sw' gc' gp' gr' bc' bg' bs' bt' be' ql' qg' fc' fg' fs' fm') := by
  have e4 : (4 : Int32) * nI j = nI (4 * j) := by rw [il_4, nI_mul]
  have c0 : mc (nI (4 * j)).toNatClampNeg = nI 103 := by rw [nI_clamp (by omega)]; exact hc.1
  have g1 : sf_in (nI (4 * j) + 1) 240 = true := by
    rw [show nI (4 * j) + (1 : Int32) = nI (4 * j + 1) from nI_add _ _]
    exact of_eq_true (nI_inT (by omega) (by omega))
  have g2 : sf_in (nI (4 * j) + 2) 240 = true := by
    rw [show nI (4 * j) + (2 : Int32) = nI (4 * j + 2) from nI_add _ _]
    exact of_eq_true (nI_inT (by omega) (by omega))
  have g3 : sf_in (nI (4 * j) + 3) 240 = true := by
    rw [show nI (4 * j) + (3 : Int32) = nI (4 * j + 3) from nI_add _ _]
    exact of_eq_true (nI_inT (by omega) (by omega))
  have g0 : sf_in (nI (4 * j)) 240 = true := of_eq_true (nI_inT (by omega) (by omega))
  rcases sim_guest hV hm hr (nI 0) with ⟨c, o, h1, h2, h3⟩ | ⟨a, M', ms', gc', gp', gr', h1, h2, h3, h4, h5, h6⟩
  · left
    refine ⟨o, c, by omega, by omega, by omega, by omega, ?_, ?_⟩
    · rw [f_X11_perform]
      refine sfc1_i (a := enO 1) rfl ?_
      refine sfg_i (by decide) ?_
      refine sfb_f (by decide) ?_
      refine sfb_t (by decide) ?_
      exact sfc4_i h2 rfl
    · rw [f_X12_does, e4]
      refine sfg_i g1 ?_
      refine sfn_r rfl ?_
      refine sfg_i g2 ?_
      refine sfn_r rfl ?_
      refine sfg_i g0 ?_
      rw [c0]
      refine sfb_f (by decide) ?_
      refine sfb_f (by decide) ?_
      refine sfb_f (by decide) ?_
      refine sfb_f (by decide) ?_
      refine sfb_f (by decide) ?_
      refine sfb_f (by decide) ?_
      exact sfc3_i h3 rfl
  · right
    refine ⟨a, M', ms', on, ot, op, os, sc, sd, sp, sw, gc', gp', gr', bc, bg, bs, bt, be, ql, qg, fc, fg, fs, fm, ?_, ?_, h3, VW_up h4 (by omega) hU, h5, h6⟩
    · rw [f_X11_perform]
      refine sfc1_i (a := enO 1) rfl ?_
      refine sfg_i (by decide) ?_
      refine sfb_f (by decide) ?_
      refine sfb_t (by decide) ?_
      exact sfc4_i h1 rfl
    · rw [f_X12_does, e4]
      refine sfg_i g1 ?_
      refine sfn_r rfl ?_
      refine sfg_i g2 ?_
      refine sfn_r rfl ?_
      refine sfg_i g0 ?_
      rw [c0]
      refine sfb_f (by decide) ?_
      refine sfb_f (by decide) ?_
      refine sfb_f (by decide) ?_
      refine sfb_f (by decide) ?_
      refine sfb_f (by decide) ?_
      refine sfb_f (by decide) ?_
      exact sfc3_i h2 rfl
theorem pf_book (hV : VW M U) (hU : U + 60 ≤ 4000000) (hm : MR M ms) (hr : RO M on ot op os sc sd sp sw gc gp gr bc bg bs bt be ql qg fc fg fs fm) {tn mc : Nat → Int32} {V : Nat → Nat} {j : Nat} (hj : j < 60) (hn : NUMS 2 V tn) (hc : CMDS 2 V j mc) : (∃ o c : Nat, 1 ≤ o ∧ o ≤ 5 ∧ 1 ≤ c ∧ c ≤ 4 ∧ f_X11_perform on ot op os sc sd sp sw gc gp gr bc bg bs bt be ql qg fc fg fs fm tn 2 = some (-nI o, on, ot, op, os, sc, sd, sp, sw, gc, gp, gr, bc, bg, bs, bt, be, ql, qg, fc, fg, fs, fm) ∧ f_X12_does ms (nI 0) mc (nI j) = some (ms, nI c)) ∨ (∃ (a : Nat) (M' : Nat → Nat) (ms' : Nat → Int32), ∃ on' ot' op' os' sc' sd' sp' sw' gc' gp' gr' bc' bg' bs' bt' be' ql' qg' fc' fg' fs' fm', f_X11_perform on ot op os sc sd sp sw gc gp gr bc bg bs bt be ql qg fc fg fs fm tn 2 = some (nI a, on', ot', op', os', sc', sd', sp', sw', gc', gp', gr', bc', bg', bs', bt', be', ql', qg', fc', fg', fs', fm') ∧ f_X12_does ms (nI 0) mc (nI j) = some (ms', nI 0) ∧ a < 2 ^ 31 ∧ VW M' (U + 60) ∧ MR M' ms' ∧ RO M' on' ot' op' os' sc' sd' sp' sw' gc' gp' gr' bc' bg' bs' bt' be' ql' qg' fc' fg' fs' fm') := by
  have t0 : tn (0 : Int32).toNatClampNeg = nI (V 0) := hn 0 (by decide)
  have t1 : tn (1 : Int32).toNatClampNeg = nI (V 1) := hn 1 (by decide)
  have t2 : tn (2 : Int32).toNatClampNeg = nI (V 2) := hn 2 (by decide)
  have e4 : (4 : Int32) * nI j = nI (4 * j) := by rw [il_4, nI_mul]
  have c0 : mc (nI (4 * j)).toNatClampNeg = nI 98 := by rw [nI_clamp (by omega)]; exact hc.1
  have c1 : mc (nI (4 * j) + 1).toNatClampNeg = nI (V 0) := by
    rw [show nI (4 * j) + (1 : Int32) = nI (4 * j + 1) from nI_add _ _, nI_clamp (by omega)]
    exact hc.2 0 (by decide)
  have c2 : mc (nI (4 * j) + 2).toNatClampNeg = nI (V 1) := by
    rw [show nI (4 * j) + (2 : Int32) = nI (4 * j + 2) from nI_add _ _, nI_clamp (by omega)]
    exact hc.2 1 (by decide)
  have c3 : mc (nI (4 * j) + 3).toNatClampNeg = nI (V 2) := by
    rw [show nI (4 * j) + (3 : Int32) = nI (4 * j + 3) from nI_add _ _, nI_clamp (by omega)]
    exact hc.2 2 (by decide)
  have g1 : sf_in (nI (4 * j) + 1) 240 = true := by
    rw [show nI (4 * j) + (1 : Int32) = nI (4 * j + 1) from nI_add _ _]
    exact of_eq_true (nI_inT (by omega) (by omega))
  have g2 : sf_in (nI (4 * j) + 2) 240 = true := by
    rw [show nI (4 * j) + (2 : Int32) = nI (4 * j + 2) from nI_add _ _]
    exact of_eq_true (nI_inT (by omega) (by omega))
  have g3 : sf_in (nI (4 * j) + 3) 240 = true := by
    rw [show nI (4 * j) + (3 : Int32) = nI (4 * j + 3) from nI_add _ _]
    exact of_eq_true (nI_inT (by omega) (by omega))
  have g0 : sf_in (nI (4 * j)) 240 = true := of_eq_true (nI_inT (by omega) (by omega))
  rcases sim_book hV hm hr (nI (V 0)) (nI (V 1)) (nI (V 2)) (nI 0) with ⟨c, o, h1, h2, h3⟩ | ⟨a, M', ms', ot', gp', bc', bg', bs', bt', be', h1, h2, h3, h4, h5, h6⟩
  · left
    refine ⟨o, c, by omega, by omega, by omega, by omega, ?_, ?_⟩
    · rw [f_X11_perform]
      refine sfc1_i (a := enO 2) rfl ?_
      refine sfg_i (by decide) ?_
      refine sfb_f (by decide) ?_
      refine sfb_f (by decide) ?_
      refine sfb_t (by decide) ?_
      refine sfg_i (by decide) ?_
      refine sfg_i (by decide) ?_
      refine sfg_i (by decide) ?_
      rw [t0, t1, t2]
      exact sfc8_i h2 rfl
    · rw [f_X12_does, e4]
      refine sfg_i g1 ?_
      refine sfn_r c1 ?_
      refine sfg_i g2 ?_
      refine sfn_r c2 ?_
      refine sfg_i g0 ?_
      rw [c0]
      refine sfb_t (by decide) ?_
      refine sfg_i g3 ?_
      rw [c3]
      exact sfc3_i h3 rfl
  · right
    refine ⟨a, M', ms', on, ot', op, os, sc, sd, sp, sw, gc, gp', gr, bc', bg', bs', bt', be', ql, qg, fc, fg, fs, fm, ?_, ?_, h3, VW_up h4 (by omega) hU, h5, h6⟩
    · rw [f_X11_perform]
      refine sfc1_i (a := enO 2) rfl ?_
      refine sfg_i (by decide) ?_
      refine sfb_f (by decide) ?_
      refine sfb_f (by decide) ?_
      refine sfb_t (by decide) ?_
      refine sfg_i (by decide) ?_
      refine sfg_i (by decide) ?_
      refine sfg_i (by decide) ?_
      rw [t0, t1, t2]
      exact sfc8_i h1 rfl
    · rw [f_X12_does, e4]
      refine sfg_i g1 ?_
      refine sfn_r c1 ?_
      refine sfg_i g2 ?_
      refine sfn_r c2 ?_
      refine sfg_i g0 ?_
      rw [c0]
      refine sfb_t (by decide) ?_
      refine sfg_i g3 ?_
      rw [c3]
      exact sfc3_i h2 rfl
theorem pf_cancel (hV : VW M U) (hU : U + 60 ≤ 4000000) (hm : MR M ms) (hr : RO M on ot op os sc sd sp sw gc gp gr bc bg bs bt be ql qg fc fg fs fm) {tn mc : Nat → Int32} {V : Nat → Nat} {j : Nat} (hj : j < 60) (hn : NUMS 3 V tn) (hc : CMDS 3 V j mc) : (∃ o c : Nat, 1 ≤ o ∧ o ≤ 5 ∧ 1 ≤ c ∧ c ≤ 4 ∧ f_X11_perform on ot op os sc sd sp sw gc gp gr bc bg bs bt be ql qg fc fg fs fm tn 3 = some (-nI o, on, ot, op, os, sc, sd, sp, sw, gc, gp, gr, bc, bg, bs, bt, be, ql, qg, fc, fg, fs, fm) ∧ f_X12_does ms (nI 0) mc (nI j) = some (ms, nI c)) ∨ (∃ (a : Nat) (M' : Nat → Nat) (ms' : Nat → Int32), ∃ on' ot' op' os' sc' sd' sp' sw' gc' gp' gr' bc' bg' bs' bt' be' ql' qg' fc' fg' fs' fm', f_X11_perform on ot op os sc sd sp sw gc gp gr bc bg bs bt be ql qg fc fg fs fm tn 3 = some (nI a, on', ot', op', os', sc', sd', sp', sw', gc', gp', gr', bc', bg', bs', bt', be', ql', qg', fc', fg', fs', fm') ∧ f_X12_does ms (nI 0) mc (nI j) = some (ms', nI 0) ∧ a < 2 ^ 31 ∧ VW M' (U + 60) ∧ MR M' ms' ∧ RO M' on' ot' op' os' sc' sd' sp' sw' gc' gp' gr' bc' bg' bs' bt' be' ql' qg' fc' fg' fs' fm') := by
  have t0 : tn (0 : Int32).toNatClampNeg = nI (V 0) := hn 0 (by decide)
  have e4 : (4 : Int32) * nI j = nI (4 * j) := by rw [il_4, nI_mul]
  have c0 : mc (nI (4 * j)).toNatClampNeg = nI 99 := by rw [nI_clamp (by omega)]; exact hc.1
  have c1 : mc (nI (4 * j) + 1).toNatClampNeg = nI (V 0) := by
    rw [show nI (4 * j) + (1 : Int32) = nI (4 * j + 1) from nI_add _ _, nI_clamp (by omega)]
    exact hc.2 0 (by decide)
  have g1 : sf_in (nI (4 * j) + 1) 240 = true := by
    rw [show nI (4 * j) + (1 : Int32) = nI (4 * j + 1) from nI_add _ _]
    exact of_eq_true (nI_inT (by omega) (by omega))
  have g2 : sf_in (nI (4 * j) + 2) 240 = true := by
    rw [show nI (4 * j) + (2 : Int32) = nI (4 * j + 2) from nI_add _ _]
    exact of_eq_true (nI_inT (by omega) (by omega))
  have g3 : sf_in (nI (4 * j) + 3) 240 = true := by
    rw [show nI (4 * j) + (3 : Int32) = nI (4 * j + 3) from nI_add _ _]
    exact of_eq_true (nI_inT (by omega) (by omega))
  have g0 : sf_in (nI (4 * j)) 240 = true := of_eq_true (nI_inT (by omega) (by omega))
  rcases sim_cancel hV hm hr (nI (V 0)) (nI 0) with ⟨c, o, h1, h2, h3⟩ | ⟨a, M', ms', ot', op', gp', bc', bg', bs', bt', be', h1, h2, h3, h4, h5, h6⟩
  · left
    refine ⟨o, c, by omega, by omega, by omega, by omega, ?_, ?_⟩
    · rw [f_X11_perform]
      refine sfc1_i (a := enO 3) rfl ?_
      refine sfg_i (by decide) ?_
      refine sfb_f (by decide) ?_
      refine sfb_f (by decide) ?_
      refine sfb_f (by decide) ?_
      refine sfb_t (by decide) ?_
      refine sfg_i (by decide) ?_
      rw [t0]
      exact sfc9_i h2 rfl
    · rw [f_X12_does, e4]
      refine sfg_i g1 ?_
      refine sfn_r c1 ?_
      refine sfg_i g2 ?_
      refine sfn_r rfl ?_
      refine sfg_i g0 ?_
      rw [c0]
      refine sfb_f (by decide) ?_
      refine sfb_t (by decide) ?_
      exact sfc3_i h3 rfl
  · right
    refine ⟨a, M', ms', on, ot', op', os, sc, sd, sp, sw, gc, gp', gr, bc', bg', bs', bt', be', ql, qg, fc, fg, fs, fm, ?_, ?_, h3, VW_up h4 (by omega) hU, h5, h6⟩
    · rw [f_X11_perform]
      refine sfc1_i (a := enO 3) rfl ?_
      refine sfg_i (by decide) ?_
      refine sfb_f (by decide) ?_
      refine sfb_f (by decide) ?_
      refine sfb_f (by decide) ?_
      refine sfb_t (by decide) ?_
      refine sfg_i (by decide) ?_
      rw [t0]
      exact sfc9_i h1 rfl
    · rw [f_X12_does, e4]
      refine sfg_i g1 ?_
      refine sfn_r c1 ?_
      refine sfg_i g2 ?_
      refine sfn_r rfl ?_
      refine sfg_i g0 ?_
      rw [c0]
      refine sfb_f (by decide) ?_
      refine sfb_t (by decide) ?_
      exact sfc3_i h2 rfl
theorem pf_join (hV : VW M U) (hU : U + 60 ≤ 4000000) (hm : MR M ms) (hr : RO M on ot op os sc sd sp sw gc gp gr bc bg bs bt be ql qg fc fg fs fm) {tn mc : Nat → Int32} {V : Nat → Nat} {j : Nat} (hj : j < 60) (hn : NUMS 4 V tn) (hc : CMDS 4 V j mc) : (∃ o c : Nat, 1 ≤ o ∧ o ≤ 5 ∧ 1 ≤ c ∧ c ≤ 4 ∧ f_X11_perform on ot op os sc sd sp sw gc gp gr bc bg bs bt be ql qg fc fg fs fm tn 4 = some (-nI o, on, ot, op, os, sc, sd, sp, sw, gc, gp, gr, bc, bg, bs, bt, be, ql, qg, fc, fg, fs, fm) ∧ f_X12_does ms (nI 0) mc (nI j) = some (ms, nI c)) ∨ (∃ (a : Nat) (M' : Nat → Nat) (ms' : Nat → Int32), ∃ on' ot' op' os' sc' sd' sp' sw' gc' gp' gr' bc' bg' bs' bt' be' ql' qg' fc' fg' fs' fm', f_X11_perform on ot op os sc sd sp sw gc gp gr bc bg bs bt be ql qg fc fg fs fm tn 4 = some (nI a, on', ot', op', os', sc', sd', sp', sw', gc', gp', gr', bc', bg', bs', bt', be', ql', qg', fc', fg', fs', fm') ∧ f_X12_does ms (nI 0) mc (nI j) = some (ms', nI 0) ∧ a < 2 ^ 31 ∧ VW M' (U + 60) ∧ MR M' ms' ∧ RO M' on' ot' op' os' sc' sd' sp' sw' gc' gp' gr' bc' bg' bs' bt' be' ql' qg' fc' fg' fs' fm') := by
  have t0 : tn (0 : Int32).toNatClampNeg = nI (V 0) := hn 0 (by decide)
  have t1 : tn (1 : Int32).toNatClampNeg = nI (V 1) := hn 1 (by decide)
  have e4 : (4 : Int32) * nI j = nI (4 * j) := by rw [il_4, nI_mul]
  have c0 : mc (nI (4 * j)).toNatClampNeg = nI 113 := by rw [nI_clamp (by omega)]; exact hc.1
  have c1 : mc (nI (4 * j) + 1).toNatClampNeg = nI (V 0) := by
    rw [show nI (4 * j) + (1 : Int32) = nI (4 * j + 1) from nI_add _ _, nI_clamp (by omega)]
    exact hc.2 0 (by decide)
  have c2 : mc (nI (4 * j) + 2).toNatClampNeg = nI (V 1) := by
    rw [show nI (4 * j) + (2 : Int32) = nI (4 * j + 2) from nI_add _ _, nI_clamp (by omega)]
    exact hc.2 1 (by decide)
  have g1 : sf_in (nI (4 * j) + 1) 240 = true := by
    rw [show nI (4 * j) + (1 : Int32) = nI (4 * j + 1) from nI_add _ _]
    exact of_eq_true (nI_inT (by omega) (by omega))
  have g2 : sf_in (nI (4 * j) + 2) 240 = true := by
    rw [show nI (4 * j) + (2 : Int32) = nI (4 * j + 2) from nI_add _ _]
    exact of_eq_true (nI_inT (by omega) (by omega))
  have g3 : sf_in (nI (4 * j) + 3) 240 = true := by
    rw [show nI (4 * j) + (3 : Int32) = nI (4 * j + 3) from nI_add _ _]
    exact of_eq_true (nI_inT (by omega) (by omega))
  have g0 : sf_in (nI (4 * j)) 240 = true := of_eq_true (nI_inT (by omega) (by omega))
  rcases sim_join hV hm hr (nI (V 0)) (nI (V 1)) (nI 0) with ⟨c, o, h1, h2, h3⟩ | ⟨a, M', ms', ql', qg', h1, h2, h3, h4, h5, h6⟩
  · left
    refine ⟨o, c, by omega, by omega, by omega, by omega, ?_, ?_⟩
    · rw [f_X11_perform]
      refine sfc1_i (a := enO 4) rfl ?_
      refine sfg_i (by decide) ?_
      refine sfb_f (by decide) ?_
      refine sfb_f (by decide) ?_
      refine sfb_f (by decide) ?_
      refine sfb_f (by decide) ?_
      refine sfb_t (by decide) ?_
      refine sfg_i (by decide) ?_
      refine sfg_i (by decide) ?_
      rw [t0, t1]
      exact sfc3_i h2 rfl
    · rw [f_X12_does, e4]
      refine sfg_i g1 ?_
      refine sfn_r c1 ?_
      refine sfg_i g2 ?_
      refine sfn_r c2 ?_
      refine sfg_i g0 ?_
      rw [c0]
      refine sfb_f (by decide) ?_
      refine sfb_f (by decide) ?_
      refine sfb_f (by decide) ?_
      refine sfb_t (by decide) ?_
      exact sfc3_i h3 rfl
  · right
    refine ⟨a, M', ms', on, ot, op, os, sc, sd, sp, sw, gc, gp, gr, bc, bg, bs, bt, be, ql', qg', fc, fg, fs, fm, ?_, ?_, h3, VW_up h4 (by omega) hU, h5, h6⟩
    · rw [f_X11_perform]
      refine sfc1_i (a := enO 4) rfl ?_
      refine sfg_i (by decide) ?_
      refine sfb_f (by decide) ?_
      refine sfb_f (by decide) ?_
      refine sfb_f (by decide) ?_
      refine sfb_f (by decide) ?_
      refine sfb_t (by decide) ?_
      refine sfg_i (by decide) ?_
      refine sfg_i (by decide) ?_
      rw [t0, t1]
      exact sfc3_i h1 rfl
    · rw [f_X12_does, e4]
      refine sfg_i g1 ?_
      refine sfn_r c1 ?_
      refine sfg_i g2 ?_
      refine sfn_r c2 ?_
      refine sfg_i g0 ?_
      rw [c0]
      refine sfb_f (by decide) ?_
      refine sfb_f (by decide) ?_
      refine sfb_f (by decide) ?_
      refine sfb_t (by decide) ?_
      exact sfc3_i h2 rfl
theorem pf_leave (hV : VW M U) (hU : U + 60 ≤ 4000000) (hm : MR M ms) (hr : RO M on ot op os sc sd sp sw gc gp gr bc bg bs bt be ql qg fc fg fs fm) {tn mc : Nat → Int32} {V : Nat → Nat} {j : Nat} (hj : j < 60) (hn : NUMS 5 V tn) (hc : CMDS 5 V j mc) : (∃ o c : Nat, 1 ≤ o ∧ o ≤ 5 ∧ 1 ≤ c ∧ c ≤ 4 ∧ f_X11_perform on ot op os sc sd sp sw gc gp gr bc bg bs bt be ql qg fc fg fs fm tn 5 = some (-nI o, on, ot, op, os, sc, sd, sp, sw, gc, gp, gr, bc, bg, bs, bt, be, ql, qg, fc, fg, fs, fm) ∧ f_X12_does ms (nI 0) mc (nI j) = some (ms, nI c)) ∨ (∃ (a : Nat) (M' : Nat → Nat) (ms' : Nat → Int32), ∃ on' ot' op' os' sc' sd' sp' sw' gc' gp' gr' bc' bg' bs' bt' be' ql' qg' fc' fg' fs' fm', f_X11_perform on ot op os sc sd sp sw gc gp gr bc bg bs bt be ql qg fc fg fs fm tn 5 = some (nI a, on', ot', op', os', sc', sd', sp', sw', gc', gp', gr', bc', bg', bs', bt', be', ql', qg', fc', fg', fs', fm') ∧ f_X12_does ms (nI 0) mc (nI j) = some (ms', nI 0) ∧ a < 2 ^ 31 ∧ VW M' (U + 60) ∧ MR M' ms' ∧ RO M' on' ot' op' os' sc' sd' sp' sw' gc' gp' gr' bc' bg' bs' bt' be' ql' qg' fc' fg' fs' fm') := by
  have t0 : tn (0 : Int32).toNatClampNeg = nI (V 0) := hn 0 (by decide)
  have e4 : (4 : Int32) * nI j = nI (4 * j) := by rw [il_4, nI_mul]
  have c0 : mc (nI (4 * j)).toNatClampNeg = nI 108 := by rw [nI_clamp (by omega)]; exact hc.1
  have c1 : mc (nI (4 * j) + 1).toNatClampNeg = nI (V 0) := by
    rw [show nI (4 * j) + (1 : Int32) = nI (4 * j + 1) from nI_add _ _, nI_clamp (by omega)]
    exact hc.2 0 (by decide)
  have g1 : sf_in (nI (4 * j) + 1) 240 = true := by
    rw [show nI (4 * j) + (1 : Int32) = nI (4 * j + 1) from nI_add _ _]
    exact of_eq_true (nI_inT (by omega) (by omega))
  have g2 : sf_in (nI (4 * j) + 2) 240 = true := by
    rw [show nI (4 * j) + (2 : Int32) = nI (4 * j + 2) from nI_add _ _]
    exact of_eq_true (nI_inT (by omega) (by omega))
  have g3 : sf_in (nI (4 * j) + 3) 240 = true := by
    rw [show nI (4 * j) + (3 : Int32) = nI (4 * j + 3) from nI_add _ _]
    exact of_eq_true (nI_inT (by omega) (by omega))
  have g0 : sf_in (nI (4 * j)) 240 = true := of_eq_true (nI_inT (by omega) (by omega))
  rcases sim_leave hV hm hr (nI (V 0)) (nI 0) with ⟨c, o, h1, h2, h3⟩ | ⟨a, M', ms', ql', qg', h1, h2, h3, h4, h5, h6⟩
  · left
    refine ⟨o, c, by omega, by omega, by omega, by omega, ?_, ?_⟩
    · rw [f_X11_perform]
      refine sfc1_i (a := enO 5) rfl ?_
      refine sfg_i (by decide) ?_
      refine sfb_f (by decide) ?_
      refine sfb_f (by decide) ?_
      refine sfb_f (by decide) ?_
      refine sfb_f (by decide) ?_
      refine sfb_f (by decide) ?_
      refine sfb_t (by decide) ?_
      refine sfg_i (by decide) ?_
      rw [t0]
      exact sfc3_i h2 rfl
    · rw [f_X12_does, e4]
      refine sfg_i g1 ?_
      refine sfn_r c1 ?_
      refine sfg_i g2 ?_
      refine sfn_r rfl ?_
      refine sfg_i g0 ?_
      rw [c0]
      refine sfb_f (by decide) ?_
      refine sfb_f (by decide) ?_
      refine sfb_t (by decide) ?_
      exact sfc3_i h3 rfl
  · right
    refine ⟨a, M', ms', on, ot, op, os, sc, sd, sp, sw, gc, gp, gr, bc, bg, bs, bt, be, ql', qg', fc, fg, fs, fm, ?_, ?_, h3, VW_up h4 (by omega) hU, h5, h6⟩
    · rw [f_X11_perform]
      refine sfc1_i (a := enO 5) rfl ?_
      refine sfg_i (by decide) ?_
      refine sfb_f (by decide) ?_
      refine sfb_f (by decide) ?_
      refine sfb_f (by decide) ?_
      refine sfb_f (by decide) ?_
      refine sfb_f (by decide) ?_
      refine sfb_t (by decide) ?_
      refine sfg_i (by decide) ?_
      rw [t0]
      exact sfc3_i h1 rfl
    · rw [f_X12_does, e4]
      refine sfg_i g1 ?_
      refine sfn_r c1 ?_
      refine sfg_i g2 ?_
      refine sfn_r rfl ?_
      refine sfg_i g0 ?_
      rw [c0]
      refine sfb_f (by decide) ?_
      refine sfb_f (by decide) ?_
      refine sfb_t (by decide) ?_
      exact sfc3_i h2 rfl
theorem pf_wait (hV : VW M U) (hU : U + 60 ≤ 4000000) (hm : MR M ms) (hr : RO M on ot op os sc sd sp sw gc gp gr bc bg bs bt be ql qg fc fg fs fm) {tn mc : Nat → Int32} {V : Nat → Nat} {j : Nat} (hj : j < 60) (hn : NUMS 6 V tn) (hc : CMDS 6 V j mc) : (∃ o c : Nat, 1 ≤ o ∧ o ≤ 5 ∧ 1 ≤ c ∧ c ≤ 4 ∧ f_X11_perform on ot op os sc sd sp sw gc gp gr bc bg bs bt be ql qg fc fg fs fm tn 6 = some (-nI o, on, ot, op, os, sc, sd, sp, sw, gc, gp, gr, bc, bg, bs, bt, be, ql, qg, fc, fg, fs, fm) ∧ f_X12_does ms (nI 0) mc (nI j) = some (ms, nI c)) ∨ (∃ (a : Nat) (M' : Nat → Nat) (ms' : Nat → Int32), ∃ on' ot' op' os' sc' sd' sp' sw' gc' gp' gr' bc' bg' bs' bt' be' ql' qg' fc' fg' fs' fm', f_X11_perform on ot op os sc sd sp sw gc gp gr bc bg bs bt be ql qg fc fg fs fm tn 6 = some (nI a, on', ot', op', os', sc', sd', sp', sw', gc', gp', gr', bc', bg', bs', bt', be', ql', qg', fc', fg', fs', fm') ∧ f_X12_does ms (nI 0) mc (nI j) = some (ms', nI 0) ∧ a < 2 ^ 31 ∧ VW M' (U + 60) ∧ MR M' ms' ∧ RO M' on' ot' op' os' sc' sd' sp' sw' gc' gp' gr' bc' bg' bs' bt' be' ql' qg' fc' fg' fs' fm') := by
  have t0 : tn (0 : Int32).toNatClampNeg = nI (V 0) := hn 0 (by decide)
  have e4 : (4 : Int32) * nI j = nI (4 * j) := by rw [il_4, nI_mul]
  have c0 : mc (nI (4 * j)).toNatClampNeg = nI 119 := by rw [nI_clamp (by omega)]; exact hc.1
  have c1 : mc (nI (4 * j) + 1).toNatClampNeg = nI (V 0) := by
    rw [show nI (4 * j) + (1 : Int32) = nI (4 * j + 1) from nI_add _ _, nI_clamp (by omega)]
    exact hc.2 0 (by decide)
  have g1 : sf_in (nI (4 * j) + 1) 240 = true := by
    rw [show nI (4 * j) + (1 : Int32) = nI (4 * j + 1) from nI_add _ _]
    exact of_eq_true (nI_inT (by omega) (by omega))
  have g2 : sf_in (nI (4 * j) + 2) 240 = true := by
    rw [show nI (4 * j) + (2 : Int32) = nI (4 * j + 2) from nI_add _ _]
    exact of_eq_true (nI_inT (by omega) (by omega))
  have g3 : sf_in (nI (4 * j) + 3) 240 = true := by
    rw [show nI (4 * j) + (3 : Int32) = nI (4 * j + 3) from nI_add _ _]
    exact of_eq_true (nI_inT (by omega) (by omega))
  have g0 : sf_in (nI (4 * j)) 240 = true := of_eq_true (nI_inT (by omega) (by omega))
  rcases sim_wait hV hU hm hr (nI (V 0)) (nI 0) with ⟨c, o, h1, h2, h3⟩ | ⟨a, M', ms', on', ot', op', os', sw', gp', gr', bc', bg', bs', bt', be', ql', qg', fc', fg', fs', fm', h1, h2, h3, h4, h5, h6⟩
  · left
    refine ⟨o, c, by omega, by omega, by omega, by omega, ?_, ?_⟩
    · rw [f_X11_perform]
      refine sfc1_i (a := enO 6) rfl ?_
      refine sfg_i (by decide) ?_
      refine sfb_f (by decide) ?_
      refine sfb_f (by decide) ?_
      refine sfb_f (by decide) ?_
      refine sfb_f (by decide) ?_
      refine sfb_f (by decide) ?_
      refine sfb_f (by decide) ?_
      refine sfg_i (by decide) ?_
      rw [t0]
      exact sfc19_i h2 rfl
    · rw [f_X12_does, e4]
      refine sfg_i g1 ?_
      refine sfn_r c1 ?_
      refine sfg_i g2 ?_
      refine sfn_r rfl ?_
      refine sfg_i g0 ?_
      rw [c0]
      refine sfb_f (by decide) ?_
      refine sfb_f (by decide) ?_
      refine sfb_f (by decide) ?_
      refine sfb_f (by decide) ?_
      refine sfb_f (by decide) ?_
      refine sfb_t (by decide) ?_
      exact sfc3_i h3 rfl
  · right
    refine ⟨a, M', ms', on', ot', op', os', sc, sd, sp, sw', gc, gp', gr', bc', bg', bs', bt', be', ql', qg', fc', fg', fs', fm', ?_, ?_, h3, h4, h5, h6⟩
    · rw [f_X11_perform]
      refine sfc1_i (a := enO 6) rfl ?_
      refine sfg_i (by decide) ?_
      refine sfb_f (by decide) ?_
      refine sfb_f (by decide) ?_
      refine sfb_f (by decide) ?_
      refine sfb_f (by decide) ?_
      refine sfb_f (by decide) ?_
      refine sfb_f (by decide) ?_
      refine sfg_i (by decide) ?_
      rw [t0]
      exact sfc19_i h1 rfl
    · rw [f_X12_does, e4]
      refine sfg_i g1 ?_
      refine sfn_r c1 ?_
      refine sfg_i g2 ?_
      refine sfn_r rfl ?_
      refine sfg_i g0 ?_
      rw [c0]
      refine sfb_f (by decide) ?_
      refine sfb_f (by decide) ?_
      refine sfb_f (by decide) ?_
      refine sfb_f (by decide) ?_
      refine sfb_f (by decide) ?_
      refine sfb_t (by decide) ?_
      exact sfc3_i h2 rfl
theorem pf_all (hV : VW M U) (hU : U + 60 ≤ 4000000) (hm : MR M ms) (hr : RO M on ot op os sc sd sp sw gc gp gr bc bg bs bt be ql qg fc fg fs fm) {tn mc : Nat → Int32} {V : Nat → Nat} {i j : Nat} (hi : i < 7) (hj : j < 60) (hn : NUMS i V tn) (hc : CMDS i V j mc) : (∃ o c : Nat, 1 ≤ o ∧ o ≤ 5 ∧ 1 ≤ c ∧ c ≤ 4 ∧ f_X11_perform on ot op os sc sd sp sw gc gp gr bc bg bs bt be ql qg fc fg fs fm tn i = some (-nI o, on, ot, op, os, sc, sd, sp, sw, gc, gp, gr, bc, bg, bs, bt, be, ql, qg, fc, fg, fs, fm) ∧ f_X12_does ms (nI 0) mc (nI j) = some (ms, nI c)) ∨ (∃ (a : Nat) (M' : Nat → Nat) (ms' : Nat → Int32), ∃ on' ot' op' os' sc' sd' sp' sw' gc' gp' gr' bc' bg' bs' bt' be' ql' qg' fc' fg' fs' fm', f_X11_perform on ot op os sc sd sp sw gc gp gr bc bg bs bt be ql qg fc fg fs fm tn i = some (nI a, on', ot', op', os', sc', sd', sp', sw', gc', gp', gr', bc', bg', bs', bt', be', ql', qg', fc', fg', fs', fm') ∧ f_X12_does ms (nI 0) mc (nI j) = some (ms', nI 0) ∧ a < 2 ^ 31 ∧ VW M' (U + 60) ∧ MR M' ms' ∧ RO M' on' ot' op' os' sc' sd' sp' sw' gc' gp' gr' bc' bg' bs' bt' be' ql' qg' fc' fg' fs' fm') := by
  rcases (by omega : i = 0 ∨ i = 1 ∨ i = 2 ∨ i = 3 ∨ i = 4 ∨ i = 5 ∨ i = 6) with e | e | e | e | e | e | e <;> subst e
  · exact pf_build hV hU hm hr hj hn hc
  · exact pf_guest hV hU hm hr hj hn hc
  · exact pf_book hV hU hm hr hj hn hc
  · exact pf_cancel hV hU hm hr hj hn hc
  · exact pf_join hV hU hm hr hj hn hc
  · exact pf_leave hV hU hm hr hj hn hc
  · exact pf_wait hV hU hm hr hj hn hc
end EXE
theorem en_fail (a b mp : Nat → Int32) (mn r : Int32) : f_X12_ends a b mp mn 2 r = some (0, b, mp, mn) := by
  rw [f_X12_ends]
  exact sfb_f (by decide) rfl
theorem lo_exec {ts mc : Nat → Int32} {l N : Nat} {P I : Nat → Nat} {V : Nat → Nat → Nat} (hp : PRG ts l 0 N P I V mc) (hN : N ≤ 60) {mE y15 mn mF : Int32} {a21 mp : Nat → Int32} : ∀ (d j : Nat) (M : Nat → Nat) (ms : Nat → Int32) (U : Nat) (tn : Nat → Int32) (on : Int32) (ot : Int32) (op : Int32) (os : Int32) (sc : Int32) (sd : Nat → Int32) (sp : Nat → Int32) (sw : Nat → Int32) (gc : Int32) (gp : Nat → Int32) (gr : Nat → Int32) (bc : Int32) (bg : Nat → Int32) (bs : Nat → Int32) (bt : Nat → Int32) (be : Nat → Int32) (ql : Nat → Int32) (qg : Nat → Int32) (fc : Int32) (fg : Nat → Int32) (fs : Nat → Int32) (fm : Nat → Int32), j + d = N → VW M U → U + 60 * d ≤ 4000000 → MR M ms → RO M on ot op os sc sd sp sw gc gp gr bc bg bs bt be ql qg fc fg fs fm → ∀ m, d < m → ∃ on' ot' op' os' sc' sd' sp' sw' gc' gp' gr' bc' bg' bs' bt' be' ql' qg' fc' fg' fs' fm', ∃ (tn' : Nat → Int32), ((∃ (M' : Nat → Nat) (ms' : Nat → Int32), VW M' (U + 60 * d) ∧ MR M' ms' ∧ RO M' on' ot' op' os' sc' sd' sp' sw' gc' gp' gr' bc' bg' bs' bt' be' ql' qg' fc' fg' fs' fm' ∧ (∀ kX, f_X11_runCommands_L62 ts (nI l) (nI N) kX m (nI j) on ot op os sc sd sp sw gc gp gr bc bg bs bt be ql qg fc fg fs fm (nI (P j)) tn = kX (nI N) on' ot' op' os' sc' sd' sp' sw' gc' gp' gr' bc' bg' bs' bt' be' ql' qg' fc' fg' fs' fm' (nI (P N)) tn') ∧ (∀ kT, f_TX11_runCommands_L62 ts (nI l) (nI N) kT m (nI j) on ot op os sc sd sp sw gc gp gr bc bg bs bt be ql qg fc fg fs fm (nI (P j)) tn = kT (nI N) on' ot' op' os' sc' sd' sp' sw' gc' gp' gr' bc' bg' bs' bt' be' ql' qg' fc' fg' fs' fm' (nI (P N)) tn') ∧ (∀ k, f_X12_runCommands_L125 mE y15 (nI N) mc a21 k m (nI j) mn (nI 0) mF ms mp = k mn (nI 0) mF ms' mp)) ∨ (∃ (e : Nat) (pl : Int32), e < N ∧ (∀ kX, f_X11_runCommands_L62 ts (nI l) (nI N) kX m (nI j) on ot op os sc sd sp sw gc gp gr bc bg bs bt be ql qg fc fg fs fm (nI (P j)) tn = kX (nI e) on' ot' op' os' sc' sd' sp' sw' gc' gp' gr' bc' bg' bs' bt' be' ql' qg' fc' fg' fs' fm' pl tn') ∧ (∀ kT, f_TX11_runCommands_L62 ts (nI l) (nI N) kT m (nI j) on ot op os sc sd sp sw gc gp gr bc bg bs bt be ql qg fc fg fs fm (nI (P j)) tn = kT (nI e) on' ot' op' os' sc' sd' sp' sw' gc' gp' gr' bc' bg' bs' bt' be' ql' qg' fc' fg' fs' fm' pl tn') ∧ (∀ k, f_X12_runCommands_L125 mE y15 (nI N) mc a21 k m (nI j) mn (nI 0) mF ms mp = some (0, a21, a21, mp, mn, 2, 0, y15, 0, mE, nI e, mc, nI N)))) := by
  intro d
  induction d with
  | zero =>
    intro j M ms U tn on ot op os sc sd sp sw gc gp gr bc bg bs bt be ql qg fc fg fs fm hj hV hU hm hr m hm2
    have e : j = N := by omega
    refine ⟨on, ot, op, os, sc, sd, sp, sw, gc, gp, gr, bc, bg, bs, bt, be, ql, qg, fc, fg, fs, fm, tn, Or.inl ⟨M, ms, hV, hm, hr, fun kX => ?_, fun kT => ?_, fun k => ?_⟩⟩
    · cases m with
      | zero => omega
      | succ m =>
        rw [f_X11_runCommands_L62, e]
        exact sfb_t (by rw [nI_leP (by omega) (by omega)]; exact Nat.le_refl _) rfl
    · cases m with
      | zero => omega
      | succ m =>
        rw [f_TX11_runCommands_L62, e]
        exact sfb_t (by rw [nI_leP (by omega) (by omega)]; exact Nat.le_refl _) rfl
    · cases m with
      | zero => omega
      | succ m =>
        rw [f_X12_runCommands_L125, e]
        exact sfb_t (by rw [nI_leP (by omega) (by omega)]; exact Nat.le_refl _) rfl
  | succ d ih =>
    intro j M ms U tn on ot op os sc sd sp sw gc gp gr bc bg bs bt be ql qg fc fg fs fm hj hV hU hm hr m hm2
    obtain ⟨i1, i2, i3, i4⟩ := hp j (Nat.zero_le _) (by omega)
    obtain ⟨tn1, j1, j2⟩ := i3 tn
    have hnj : ¬ nI N ≤ nI j := by rw [nI_leP (by omega) (by omega)]; omega
    cases m with
    | zero => omega
    | succ m =>
    rcases pf_all hV (by omega) hm hr i1 (by omega) j2 i4 with ⟨o, c, o1, o2, o3, o4, p1, p2⟩ | ⟨a, M1, ms1, on1, ot1, op1, os1, sc1, sd1, sp1, sw1, gc1, gp1, gr1, bc1, bg1, bs1, bt1, be1, ql1, qg1, fc1, fg1, fs1, fm1, p1, p2, p3, p4, p5, p6⟩
    · have ho : -nI o < (0 : Int32) := by
        rw [Int32.lt_iff_toInt_lt, nI_mt (by omega)]
        have : (0 : Int32).toInt = 0 := by decide
        omega
      refine ⟨on, ot, op, os, sc, sd, sp, sw, gc, gp, gr, bc, bg, bs, bt, be, ql, qg, fc, fg, fs, fm, tn1, Or.inr ⟨j, nI (P (j + 1)), by omega, fun kX => ?_, fun kT => ?_, fun k => ?_⟩⟩
      · rw [f_X11_runCommands_L62]
        exact sfb_f hnj (sfc3_i j1 (sfo_s (sfg_i i1 (sfc23_i p1 (sfb_t ho rfl)))))
      · rw [f_TX11_runCommands_L62]
        exact sfb_f hnj (sfc3_i j1 (sfo_s (sfg_i i1 (sfc23_i p1 (sfb_t ho rfl)))))
      · rw [f_X12_runCommands_L125]
        refine sfb_f hnj (sfc2_i p2 (sfb_f ?_ ?_))
        · rw [il_0, nI_leP (by omega) (by omega)]; omega
        · refine sfc2_i (a := (0 : Int32)) (b := (2 : Int32)) rfl ?_
          exact sfc4_i (en_fail _ _ _ _ _) rfl
    · have ha : ¬ nI a < (0 : Int32) := nI_pos p3
      obtain ⟨on', ot', op', os', sc', sd', sp', sw', gc', gp', gr', bc', bg', bs', bt', be', ql', qg', fc', fg', fs', fm', tn', q⟩ := ih (j + 1) M1 ms1 (U + 60) tn1 on1 ot1 op1 os1 sc1 sd1 sp1 sw1 gc1 gp1 gr1 bc1 bg1 bs1 bt1 be1 ql1 qg1 fc1 fg1 fs1 fm1 (by omega) p4 (by omega) p5 p6 m (by omega)
      refine ⟨on', ot', op', os', sc', sd', sp', sw', gc', gp', gr', bc', bg', bs', bt', be', ql', qg', fc', fg', fs', fm', tn', ?_⟩
      rcases q with ⟨M', ms', q1, q2, q3, q4, q5, q6⟩ | ⟨e, pl, q1, q2, q3, q4⟩
      · left
        refine ⟨M', ms', by rw [show U + 60 * (d + 1) = U + 60 + 60 * d by omega]; exact q1, q2, q3, fun kX => ?_, fun kT => ?_, fun k => ?_⟩
        · rw [f_X11_runCommands_L62, ← q4 kX]
          exact sfb_f hnj (sfc3_i j1 (sfo_s (sfg_i i1 (sfc23_i p1 (sfb_f ha (sfn_r (nI_1 j) rfl))))))
        · rw [f_TX11_runCommands_L62, ← q5 kT]
          exact sfb_f hnj (sfc3_i j1 (sfo_s (sfg_i i1 (sfc23_i p1 (sfb_f ha (sfn_r (nI_1 j) rfl))))))
        · rw [f_X12_runCommands_L125, ← q6 k]
          exact sfb_f hnj (sfc2_i p2 (sfb_t (by decide) (sfn_r (nI_1 j) rfl)))
      · right
        refine ⟨e, pl, q1, fun kX => ?_, fun kT => ?_, fun k => ?_⟩
        · rw [f_X11_runCommands_L62, ← q2 kX]
          exact sfb_f hnj (sfc3_i j1 (sfo_s (sfg_i i1 (sfc23_i p1 (sfb_f ha (sfn_r (nI_1 j) rfl))))))
        · rw [f_TX11_runCommands_L62, ← q3 kT]
          exact sfb_f hnj (sfc3_i j1 (sfo_s (sfg_i i1 (sfc23_i p1 (sfb_f ha (sfn_r (nI_1 j) rfl))))))
        · rw [f_X12_runCommands_L125, ← q4 k]
          exact sfb_f hnj (sfc2_i p2 (sfb_t (by decide) (sfn_r (nI_1 j) rfl)))
