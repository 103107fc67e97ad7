/-! the offices that are kept, the latest first -/
theorem sfc10_i {α γ0 γ1 γ2 γ3 γ4 γ5 γ6 γ7 γ8 γ9 : Type} {x : Option (γ0 × γ1 × γ2 × γ3 × γ4 × γ5 × γ6 × γ7 × γ8 × γ9)} {k : γ0 → γ1 → γ2 → γ3 → γ4 → γ5 → γ6 → γ7 → γ8 → γ9 → Option α} {R : Option α} {a0 : γ0} {a1 : γ1} {a2 : γ2} {a3 : γ3} {a4 : γ4} {a5 : γ5} {a6 : γ6} {a7 : γ7} {a8 : γ8} {a9 : γ9} (h : x = some (a0, a1, a2, a3, a4, a5, a6, a7, a8, a9)) (h2 : k a0 a1 a2 a3 a4 a5 a6 a7 a8 a9 = R) : sf_c10 x k = R := by subst h; exact h2
theorem sfc11_i {α γ0 γ1 γ2 γ3 γ4 γ5 γ6 γ7 γ8 γ9 γ10 : Type} {x : Option (γ0 × γ1 × γ2 × γ3 × γ4 × γ5 × γ6 × γ7 × γ8 × γ9 × γ10)} {k : γ0 → γ1 → γ2 → γ3 → γ4 → γ5 → γ6 → γ7 → γ8 → γ9 → γ10 → Option α} {R : Option α} {a0 : γ0} {a1 : γ1} {a2 : γ2} {a3 : γ3} {a4 : γ4} {a5 : γ5} {a6 : γ6} {a7 : γ7} {a8 : γ8} {a9 : γ9} {a10 : γ10} (h : x = some (a0, a1, a2, a3, a4, a5, a6, a7, a8, a9, a10)) (h2 : k a0 a1 a2 a3 a4 a5 a6 a7 a8 a9 a10 = R) : sf_c11 x k = R := by subst h; exact h2
theorem sfc25_i {α γ0 γ1 γ2 γ3 γ4 γ5 γ6 γ7 γ8 γ9 γ10 γ11 γ12 γ13 γ14 γ15 γ16 γ17 γ18 γ19 γ20 γ21 γ22 γ23 γ24 : Type} {x : Option (γ0 × γ1 × γ2 × γ3 × γ4 × γ5 × γ6 × γ7 × γ8 × γ9 × γ10 × γ11 × γ12 × γ13 × γ14 × γ15 × γ16 × γ17 × γ18 × γ19 × γ20 × γ21 × γ22 × γ23 × γ24)} {k : γ0 → γ1 → γ2 → γ3 → γ4 → γ5 → γ6 → γ7 → γ8 → γ9 → γ10 → γ11 → γ12 → γ13 → γ14 → γ15 → γ16 → γ17 → γ18 → γ19 → γ20 → γ21 → γ22 → γ23 → γ24 → Option α} {R : Option α} {a0 : γ0} {a1 : γ1} {a2 : γ2} {a3 : γ3} {a4 : γ4} {a5 : γ5} {a6 : γ6} {a7 : γ7} {a8 : γ8} {a9 : γ9} {a10 : γ10} {a11 : γ11} {a12 : γ12} {a13 : γ13} {a14 : γ14} {a15 : γ15} {a16 : γ16} {a17 : γ17} {a18 : γ18} {a19 : γ19} {a20 : γ20} {a21 : γ21} {a22 : γ22} {a23 : γ23} {a24 : γ24} (h : x = some (a0, a1, a2, a3, a4, a5, a6, a7, a8, a9, a10, a11, a12, a13, a14, a15, a16, a17, a18, a19, a20, a21, a22, a23, a24)) (h2 : k a0 a1 a2 a3 a4 a5 a6 a7 a8 a9 a10 a11 a12 a13 a14 a15 a16 a17 a18 a19 a20 a21 a22 a23 a24 = R) : sf_c25 x k = R := by subst h; exact h2
theorem sfc31_i {α γ0 γ1 γ2 γ3 γ4 γ5 γ6 γ7 γ8 γ9 γ10 γ11 γ12 γ13 γ14 γ15 γ16 γ17 γ18 γ19 γ20 γ21 γ22 γ23 γ24 γ25 γ26 γ27 γ28 γ29 γ30 : Type} {x : Option (γ0 × γ1 × γ2 × γ3 × γ4 × γ5 × γ6 × γ7 × γ8 × γ9 × γ10 × γ11 × γ12 × γ13 × γ14 × γ15 × γ16 × γ17 × γ18 × γ19 × γ20 × γ21 × γ22 × γ23 × γ24 × γ25 × γ26 × γ27 × γ28 × γ29 × γ30)} {k : γ0 → γ1 → γ2 → γ3 → γ4 → γ5 → γ6 → γ7 → γ8 → γ9 → γ10 → γ11 → γ12 → γ13 → γ14 → γ15 → γ16 → γ17 → γ18 → γ19 → γ20 → γ21 → γ22 → γ23 → γ24 → γ25 → γ26 → γ27 → γ28 → γ29 → γ30 → Option α} {R : Option α} {a0 : γ0} {a1 : γ1} {a2 : γ2} {a3 : γ3} {a4 : γ4} {a5 : γ5} {a6 : γ6} {a7 : γ7} {a8 : γ8} {a9 : γ9} {a10 : γ10} {a11 : γ11} {a12 : γ12} {a13 : γ13} {a14 : γ14} {a15 : γ15} {a16 : γ16} {a17 : γ17} {a18 : γ18} {a19 : γ19} {a20 : γ20} {a21 : γ21} {a22 : γ22} {a23 : γ23} {a24 : γ24} {a25 : γ25} {a26 : γ26} {a27 : γ27} {a28 : γ28} {a29 : γ29} {a30 : γ30} (h : x = some (a0, a1, a2, a3, a4, a5, a6, a7, a8, a9, a10, a11, a12, a13, a14, a15, a16, a17, a18, a19, a20, a21, a22, a23, a24, a25, a26, a27, a28, a29, a30)) (h2 : k a0 a1 a2 a3 a4 a5 a6 a7 a8 a9 a10 a11 a12 a13 a14 a15 a16 a17 a18 a19 a20 a21 a22 a23 a24 a25 a26 a27 a28 a29 a30 = R) : sf_c31 x k = R := by subst h; exact h2
theorem sft1_s {α : Type} {x : Option (Nat)} {k : Nat → Option α} {n R : Option α} {a0 : Nat} (h : x = some (a0)) (h2 : k a0 = R) : sf_t1 x k n = R := by subst h; exact h2
theorem sft1_n {α : Type} {x : Option (Nat)} {k : Nat → Option α} {n R : Option α} (h : x = none) (h2 : n = R) : sf_t1 x k n = R := by subst h; exact h2
theorem sft3_s {α γ1 γ2 : Type} {x : Option (Nat × γ1 × γ2)} {k : Nat → γ1 → γ2 → Option α} {n R : Option α} {a0 : Nat} {a1 : γ1} {a2 : γ2} (h : x = some (a0, a1, a2)) (h2 : k a0 a1 a2 = R) : sf_t3 x k n = R := by subst h; exact h2
theorem sft3_n {α γ1 γ2 : Type} {x : Option (Nat × γ1 × γ2)} {k : Nat → γ1 → γ2 → Option α} {n R : Option α} (h : x = none) (h2 : n = R) : sf_t3 x k n = R := by subst h; exact h2
theorem sft6_s {α γ1 γ2 γ3 γ4 γ5 : Type} {x : Option (Nat × γ1 × γ2 × γ3 × γ4 × γ5)} {k : Nat → γ1 → γ2 → γ3 → γ4 → γ5 → Option α} {n R : Option α} {a0 : Nat} {a1 : γ1} {a2 : γ2} {a3 : γ3} {a4 : γ4} {a5 : γ5} (h : x = some (a0, a1, a2, a3, a4, a5)) (h2 : k a0 a1 a2 a3 a4 a5 = R) : sf_t6 x k n = R := by subst h; exact h2
theorem sft6_n {α γ1 γ2 γ3 γ4 γ5 : Type} {x : Option (Nat × γ1 × γ2 × γ3 × γ4 × γ5)} {k : Nat → γ1 → γ2 → γ3 → γ4 → γ5 → Option α} {n R : Option α} (h : x = none) (h2 : n = R) : sf_t6 x k n = R := by subst h; exact h2
theorem sft7_s {α γ1 γ2 γ3 γ4 γ5 γ6 : Type} {x : Option (Nat × γ1 × γ2 × γ3 × γ4 × γ5 × γ6)} {k : Nat → γ1 → γ2 → γ3 → γ4 → γ5 → γ6 → Option α} {n R : Option α} {a0 : Nat} {a1 : γ1} {a2 : γ2} {a3 : γ3} {a4 : γ4} {a5 : γ5} {a6 : γ6} (h : x = some (a0, a1, a2, a3, a4, a5, a6)) (h2 : k a0 a1 a2 a3 a4 a5 a6 = R) : sf_t7 x k n = R := by subst h; exact h2
theorem sft7_n {α γ1 γ2 γ3 γ4 γ5 γ6 : Type} {x : Option (Nat × γ1 × γ2 × γ3 × γ4 × γ5 × γ6)} {k : Nat → γ1 → γ2 → γ3 → γ4 → γ5 → γ6 → Option α} {n R : Option α} (h : x = none) (h2 : n = R) : sf_t7 x k n = R := by subst h; exact h2
theorem sft8_s {α γ1 γ2 γ3 γ4 γ5 γ6 γ7 : Type} {x : Option (Nat × γ1 × γ2 × γ3 × γ4 × γ5 × γ6 × γ7)} {k : Nat → γ1 → γ2 → γ3 → γ4 → γ5 → γ6 → γ7 → Option α} {n R : Option α} {a0 : Nat} {a1 : γ1} {a2 : γ2} {a3 : γ3} {a4 : γ4} {a5 : γ5} {a6 : γ6} {a7 : γ7} (h : x = some (a0, a1, a2, a3, a4, a5, a6, a7)) (h2 : k a0 a1 a2 a3 a4 a5 a6 a7 = R) : sf_t8 x k n = R := by subst h; exact h2
theorem sft8_n {α γ1 γ2 γ3 γ4 γ5 γ6 γ7 : Type} {x : Option (Nat × γ1 × γ2 × γ3 × γ4 × γ5 × γ6 × γ7)} {k : Nat → γ1 → γ2 → γ3 → γ4 → γ5 → γ6 → γ7 → Option α} {n R : Option α} (h : x = none) (h2 : n = R) : sf_t8 x k n = R := by subst h; exact h2
theorem sft11_s {α γ1 γ2 γ3 γ4 γ5 γ6 γ7 γ8 γ9 γ10 : Type} {x : Option (Nat × γ1 × γ2 × γ3 × γ4 × γ5 × γ6 × γ7 × γ8 × γ9 × γ10)} {k : Nat → γ1 → γ2 → γ3 → γ4 → γ5 → γ6 → γ7 → γ8 → γ9 → γ10 → Option α} {n R : Option α} {a0 : Nat} {a1 : γ1} {a2 : γ2} {a3 : γ3} {a4 : γ4} {a5 : γ5} {a6 : γ6} {a7 : γ7} {a8 : γ8} {a9 : γ9} {a10 : γ10} (h : x = some (a0, a1, a2, a3, a4, a5, a6, a7, a8, a9, a10)) (h2 : k a0 a1 a2 a3 a4 a5 a6 a7 a8 a9 a10 = R) : sf_t11 x k n = R := by subst h; exact h2
theorem sft11_n {α γ1 γ2 γ3 γ4 γ5 γ6 γ7 γ8 γ9 γ10 : Type} {x : Option (Nat × γ1 × γ2 × γ3 × γ4 × γ5 × γ6 × γ7 × γ8 × γ9 × γ10)} {k : Nat → γ1 → γ2 → γ3 → γ4 → γ5 → γ6 → γ7 → γ8 → γ9 → γ10 → Option α} {n R : Option α} (h : x = none) (h2 : n = R) : sf_t11 x k n = R := by subst h; exact h2
theorem sft12_s {α γ1 γ2 γ3 γ4 γ5 γ6 γ7 γ8 γ9 γ10 γ11 : Type} {x : Option (Nat × γ1 × γ2 × γ3 × γ4 × γ5 × γ6 × γ7 × γ8 × γ9 × γ10 × γ11)} {k : Nat → γ1 → γ2 → γ3 → γ4 → γ5 → γ6 → γ7 → γ8 → γ9 → γ10 → γ11 → Option α} {n R : Option α} {a0 : Nat} {a1 : γ1} {a2 : γ2} {a3 : γ3} {a4 : γ4} {a5 : γ5} {a6 : γ6} {a7 : γ7} {a8 : γ8} {a9 : γ9} {a10 : γ10} {a11 : γ11} (h : x = some (a0, a1, a2, a3, a4, a5, a6, a7, a8, a9, a10, a11)) (h2 : k a0 a1 a2 a3 a4 a5 a6 a7 a8 a9 a10 a11 = R) : sf_t12 x k n = R := by subst h; exact h2
theorem sft12_n {α γ1 γ2 γ3 γ4 γ5 γ6 γ7 γ8 γ9 γ10 γ11 : Type} {x : Option (Nat × γ1 × γ2 × γ3 × γ4 × γ5 × γ6 × γ7 × γ8 × γ9 × γ10 × γ11)} {k : Nat → γ1 → γ2 → γ3 → γ4 → γ5 → γ6 → γ7 → γ8 → γ9 → γ10 → γ11 → Option α} {n R : Option α} (h : x = none) (h2 : n = R) : sf_t12 x k n = R := by subst h; exact h2
theorem sft22_s {α γ1 γ2 γ3 γ4 γ5 γ6 γ7 γ8 γ9 γ10 γ11 γ12 γ13 γ14 γ15 γ16 γ17 γ18 γ19 γ20 γ21 : Type} {x : Option (Nat × γ1 × γ2 × γ3 × γ4 × γ5 × γ6 × γ7 × γ8 × γ9 × γ10 × γ11 × γ12 × γ13 × γ14 × γ15 × γ16 × γ17 × γ18 × γ19 × γ20 × γ21)} {k : Nat → γ1 → γ2 → γ3 → γ4 → γ5 → γ6 → γ7 → γ8 → γ9 → γ10 → γ11 → γ12 → γ13 → γ14 → γ15 → γ16 → γ17 → γ18 → γ19 → γ20 → γ21 → Option α} {n R : Option α} {a0 : Nat} {a1 : γ1} {a2 : γ2} {a3 : γ3} {a4 : γ4} {a5 : γ5} {a6 : γ6} {a7 : γ7} {a8 : γ8} {a9 : γ9} {a10 : γ10} {a11 : γ11} {a12 : γ12} {a13 : γ13} {a14 : γ14} {a15 : γ15} {a16 : γ16} {a17 : γ17} {a18 : γ18} {a19 : γ19} {a20 : γ20} {a21 : γ21} (h : x = some (a0, a1, a2, a3, a4, a5, a6, a7, a8, a9, a10, a11, a12, a13, a14, a15, a16, a17, a18, a19, a20, a21)) (h2 : k a0 a1 a2 a3 a4 a5 a6 a7 a8 a9 a10 a11 a12 a13 a14 a15 a16 a17 a18 a19 a20 a21 = R) : sf_t22 x k n = R := by subst h; exact h2
theorem sft22_n {α γ1 γ2 γ3 γ4 γ5 γ6 γ7 γ8 γ9 γ10 γ11 γ12 γ13 γ14 γ15 γ16 γ17 γ18 γ19 γ20 γ21 : Type} {x : Option (Nat × γ1 × γ2 × γ3 × γ4 × γ5 × γ6 × γ7 × γ8 × γ9 × γ10 × γ11 × γ12 × γ13 × γ14 × γ15 × γ16 × γ17 × γ18 × γ19 × γ20 × γ21)} {k : Nat → γ1 → γ2 → γ3 → γ4 → γ5 → γ6 → γ7 → γ8 → γ9 → γ10 → γ11 → γ12 → γ13 → γ14 → γ15 → γ16 → γ17 → γ18 → γ19 → γ20 → γ21 → Option α} {n R : Option α} (h : x = none) (h2 : n = R) : sf_t22 x k n = R := by subst h; exact h2
theorem sft24_s {α γ1 γ2 γ3 γ4 γ5 γ6 γ7 γ8 γ9 γ10 γ11 γ12 γ13 γ14 γ15 γ16 γ17 γ18 γ19 γ20 γ21 γ22 γ23 : Type} {x : Option (Nat × γ1 × γ2 × γ3 × γ4 × γ5 × γ6 × γ7 × γ8 × γ9 × γ10 × γ11 × γ12 × γ13 × γ14 × γ15 × γ16 × γ17 × γ18 × γ19 × γ20 × γ21 × γ22 × γ23)} {k : Nat → γ1 → γ2 → γ3 → γ4 → γ5 → γ6 → γ7 → γ8 → γ9 → γ10 → γ11 → γ12 → γ13 → γ14 → γ15 → γ16 → γ17 → γ18 → γ19 → γ20 → γ21 → γ22 → γ23 → Option α} {n R : Option α} {a0 : Nat} {a1 : γ1} {a2 : γ2} {a3 : γ3} {a4 : γ4} {a5 : γ5} {a6 : γ6} {a7 : γ7} {a8 : γ8} {a9 : γ9} {a10 : γ10} {a11 : γ11} {a12 : γ12} {a13 : γ13} {a14 : γ14} {a15 : γ15} {a16 : γ16} {a17 : γ17} {a18 : γ18} {a19 : γ19} {a20 : γ20} {a21 : γ21} {a22 : γ22} {a23 : γ23} (h : x = some (a0, a1, a2, a3, a4, a5, a6, a7, a8, a9, a10, a11, a12, a13, a14, a15, a16, a17, a18, a19, a20, a21, a22, a23)) (h2 : k a0 a1 a2 a3 a4 a5 a6 a7 a8 a9 a10 a11 a12 a13 a14 a15 a16 a17 a18 a19 a20 a21 a22 a23 = R) : sf_t24 x k n = R := by subst h; exact h2
theorem sft24_n {α γ1 γ2 γ3 γ4 γ5 γ6 γ7 γ8 γ9 γ10 γ11 γ12 γ13 γ14 γ15 γ16 γ17 γ18 γ19 γ20 γ21 γ22 γ23 : Type} {x : Option (Nat × γ1 × γ2 × γ3 × γ4 × γ5 × γ6 × γ7 × γ8 × γ9 × γ10 × γ11 × γ12 × γ13 × γ14 × γ15 × γ16 × γ17 × γ18 × γ19 × γ20 × γ21 × γ22 × γ23)} {k : Nat → γ1 → γ2 → γ3 → γ4 → γ5 → γ6 → γ7 → γ8 → γ9 → γ10 → γ11 → γ12 → γ13 → γ14 → γ15 → γ16 → γ17 → γ18 → γ19 → γ20 → γ21 → γ22 → γ23 → Option α} {n R : Option α} (h : x = none) (h2 : n = R) : sf_t24 x k n = R := by subst h; exact h2
theorem sft25_s {α γ1 γ2 γ3 γ4 γ5 γ6 γ7 γ8 γ9 γ10 γ11 γ12 γ13 γ14 γ15 γ16 γ17 γ18 γ19 γ20 γ21 γ22 γ23 γ24 : Type} {x : Option (Nat × γ1 × γ2 × γ3 × γ4 × γ5 × γ6 × γ7 × γ8 × γ9 × γ10 × γ11 × γ12 × γ13 × γ14 × γ15 × γ16 × γ17 × γ18 × γ19 × γ20 × γ21 × γ22 × γ23 × γ24)} {k : Nat → γ1 → γ2 → γ3 → γ4 → γ5 → γ6 → γ7 → γ8 → γ9 → γ10 → γ11 → γ12 → γ13 → γ14 → γ15 → γ16 → γ17 → γ18 → γ19 → γ20 → γ21 → γ22 → γ23 → γ24 → Option α} {n R : Option α} {a0 : Nat} {a1 : γ1} {a2 : γ2} {a3 : γ3} {a4 : γ4} {a5 : γ5} {a6 : γ6} {a7 : γ7} {a8 : γ8} {a9 : γ9} {a10 : γ10} {a11 : γ11} {a12 : γ12} {a13 : γ13} {a14 : γ14} {a15 : γ15} {a16 : γ16} {a17 : γ17} {a18 : γ18} {a19 : γ19} {a20 : γ20} {a21 : γ21} {a22 : γ22} {a23 : γ23} {a24 : γ24} (h : x = some (a0, a1, a2, a3, a4, a5, a6, a7, a8, a9, a10, a11, a12, a13, a14, a15, a16, a17, a18, a19, a20, a21, a22, a23, a24)) (h2 : k a0 a1 a2 a3 a4 a5 a6 a7 a8 a9 a10 a11 a12 a13 a14 a15 a16 a17 a18 a19 a20 a21 a22 a23 a24 = R) : sf_t25 x k n = R := by subst h; exact h2
theorem sft25_n {α γ1 γ2 γ3 γ4 γ5 γ6 γ7 γ8 γ9 γ10 γ11 γ12 γ13 γ14 γ15 γ16 γ17 γ18 γ19 γ20 γ21 γ22 γ23 γ24 : Type} {x : Option (Nat × γ1 × γ2 × γ3 × γ4 × γ5 × γ6 × γ7 × γ8 × γ9 × γ10 × γ11 × γ12 × γ13 × γ14 × γ15 × γ16 × γ17 × γ18 × γ19 × γ20 × γ21 × γ22 × γ23 × γ24)} {k : Nat → γ1 → γ2 → γ3 → γ4 → γ5 → γ6 → γ7 → γ8 → γ9 → γ10 → γ11 → γ12 → γ13 → γ14 → γ15 → γ16 → γ17 → γ18 → γ19 → γ20 → γ21 → γ22 → γ23 → γ24 → Option α} {n R : Option α} (h : x = none) (h2 : n = R) : sf_t25 x k n = R := by subst h; exact h2
theorem sft31_s {α γ1 γ2 γ3 γ4 γ5 γ6 γ7 γ8 γ9 γ10 γ11 γ12 γ13 γ14 γ15 γ16 γ17 γ18 γ19 γ20 γ21 γ22 γ23 γ24 γ25 γ26 γ27 γ28 γ29 γ30 : Type} {x : Option (Nat × γ1 × γ2 × γ3 × γ4 × γ5 × γ6 × γ7 × γ8 × γ9 × γ10 × γ11 × γ12 × γ13 × γ14 × γ15 × γ16 × γ17 × γ18 × γ19 × γ20 × γ21 × γ22 × γ23 × γ24 × γ25 × γ26 × γ27 × γ28 × γ29 × γ30)} {k : Nat → γ1 → γ2 → γ3 → γ4 → γ5 → γ6 → γ7 → γ8 → γ9 → γ10 → γ11 → γ12 → γ13 → γ14 → γ15 → γ16 → γ17 → γ18 → γ19 → γ20 → γ21 → γ22 → γ23 → γ24 → γ25 → γ26 → γ27 → γ28 → γ29 → γ30 → Option α} {n R : Option α} {a0 : Nat} {a1 : γ1} {a2 : γ2} {a3 : γ3} {a4 : γ4} {a5 : γ5} {a6 : γ6} {a7 : γ7} {a8 : γ8} {a9 : γ9} {a10 : γ10} {a11 : γ11} {a12 : γ12} {a13 : γ13} {a14 : γ14} {a15 : γ15} {a16 : γ16} {a17 : γ17} {a18 : γ18} {a19 : γ19} {a20 : γ20} {a21 : γ21} {a22 : γ22} {a23 : γ23} {a24 : γ24} {a25 : γ25} {a26 : γ26} {a27 : γ27} {a28 : γ28} {a29 : γ29} {a30 : γ30} (h : x = some (a0, a1, a2, a3, a4, a5, a6, a7, a8, a9, a10, a11, a12, a13, a14, a15, a16, a17, a18, a19, a20, a21, a22, a23, a24, a25, a26, a27, a28, a29, a30)) (h2 : k a0 a1 a2 a3 a4 a5 a6 a7 a8 a9 a10 a11 a12 a13 a14 a15 a16 a17 a18 a19 a20 a21 a22 a23 a24 a25 a26 a27 a28 a29 a30 = R) : sf_t31 x k n = R := by subst h; exact h2
theorem sft31_n {α γ1 γ2 γ3 γ4 γ5 γ6 γ7 γ8 γ9 γ10 γ11 γ12 γ13 γ14 γ15 γ16 γ17 γ18 γ19 γ20 γ21 γ22 γ23 γ24 γ25 γ26 γ27 γ28 γ29 γ30 : Type} {x : Option (Nat × γ1 × γ2 × γ3 × γ4 × γ5 × γ6 × γ7 × γ8 × γ9 × γ10 × γ11 × γ12 × γ13 × γ14 × γ15 × γ16 × γ17 × γ18 × γ19 × γ20 × γ21 × γ22 × γ23 × γ24 × γ25 × γ26 × γ27 × γ28 × γ29 × γ30)} {k : Nat → γ1 → γ2 → γ3 → γ4 → γ5 → γ6 → γ7 → γ8 → γ9 → γ10 → γ11 → γ12 → γ13 → γ14 → γ15 → γ16 → γ17 → γ18 → γ19 → γ20 → γ21 → γ22 → γ23 → γ24 → γ25 → γ26 → γ27 → γ28 → γ29 → γ30 → Option α} {n R : Option α} (h : x = none) (h2 : n = R) : sf_t31 x k n = R := by subst h; exact h2
def ROt (M : Nat → Nat) (v : OffT) : Prop := match v with | (on, ot, op, os, sc, sd, sp, sw, gc, gp, gr, bc, bg, bs, bt, be, ql, qg, fc, fg, fs, fm) => RO M on ot op os sc sd sp sw gc gp gr bc bg bs bt be ql qg fc fg fs fm
def HZ (U : Nat) (yv : Nat → OffT) (yn yc : Int32) (H : Nat → Nat → Nat) (c : Nat) : Prop := ∃ n, n < 9 ∧ c ≤ 8 ∧ yn = nI n ∧ yc = nI c ∧ ∀ j, j < c → VW (H j) U ∧ ROt (H j) (yv ((n + 8 - j) % 9))
section HST
variable {U : Nat} {yv : Nat → OffT} {yn yc : Int32} {H : Nat → Nat → Nat} {c : Nat}
theorem updO_n {i : Nat} {x : OffT} {k : Nat} (h : k ≠ i) : updO yv i x k = yv k := if_neg h
theorem updO_s {i : Nat} {x : OffT} {k : Nat} (h : k = i) : updO yv i x k = x := if_pos h
theorem HZ_up {U' : Nat} (h : HZ U yv yn yc H c) (h1 : U ≤ U') (h2 : U' ≤ 4000000) : HZ U' yv yn yc H c := by
  obtain ⟨n, x1, x2, x3, x4, x6⟩ := h
  refine ⟨n, x1, x2, x3, x4, fun j hj => ?_⟩
  obtain ⟨y1, y3⟩ := x6 j hj
  exact ⟨VW_up y1 h1 h2, y3⟩
/-- the next slot is written before it counts -/
theorem HZ_prep (h : HZ U yv yn yc H c) (on : Int32) (ot : Int32) (op : Int32) (os : Int32) (sc : Int32) (sd : Nat → Int32) (sp : Nat → Int32) (sw : Nat → Int32) (gc : Int32) (gp : Nat → Int32) (gr : Nat → Int32) (bc : Int32) (bg : Nat → Int32) (bs : Nat → Int32) (bt : Nat → Int32) (be : Nat → Int32) (ql : Nat → Int32) (qg : Nat → Int32) (fc : Int32) (fg : Nat → Int32) (fs : Nat → Int32) (fm : Nat → Int32) : ∃ yv', f_X7_prepare yv yn on ot op os sc sd sp sw gc gp gr bc bg bs bt be ql qg fc fg fs fm = some yv' ∧ (∀ (on' : Int32) (ot' : Int32) (op' : Int32) (os' : Int32) (sc' : Int32) (sd' : Nat → Int32) (sp' : Nat → Int32) (sw' : Nat → Int32) (gc' : Int32) (gp' : Nat → Int32) (gr' : Nat → Int32) (bc' : Int32) (bg' : Nat → Int32) (bs' : Nat → Int32) (bt' : Nat → Int32) (be' : Nat → Int32) (ql' : Nat → Int32) (qg' : Nat → Int32) (fc' : Int32) (fg' : Nat → Int32) (fs' : Nat → Int32) (fm' : Nat → Int32), f_X7_dropChanges yv' yn on' ot' op' os' sc' sd' sp' sw' gc' gp' gr' bc' bg' bs' bt' be' ql' qg' fc' fg' fs' fm' = some (on, ot, op, os, sc, sd, sp, sw, gc, gp, gr, bc, bg, bs, bt, be, ql, qg, fc, fg, fs, fm)) ∧ HZ U yv' yn yc H c ∧ yv' yn.toNatClampNeg = (on, ot, op, os, sc, sd, sp, sw, gc, gp, gr, bc, bg, bs, bt, be, ql, qg, fc, fg, fs, fm) := by
  obtain ⟨n, x1, x2, x3, x4, x6⟩ := h
  subst x3
  have hi : sf_in (nI n) 9 = true := of_eq_true (nI_inT x1 (by omega))
  have e : updO yv (nI n).toNatClampNeg (on, ot, op, os, sc, sd, sp, sw, gc, gp, gr, bc, bg, bs, bt, be, ql, qg, fc, fg, fs, fm) (nI n).toNatClampNeg = (on, ot, op, os, sc, sd, sp, sw, gc, gp, gr, bc, bg, bs, bt, be, ql, qg, fc, fg, fs, fm) := updO_s rfl
  refine ⟨updO yv (nI n).toNatClampNeg (on, ot, op, os, sc, sd, sp, sw, gc, gp, gr, bc, bg, bs, bt, be, ql, qg, fc, fg, fs, fm), ?_, ?_, ⟨n, x1, x2, rfl, x4, fun j hj => ?_⟩, e⟩
  · rw [f_X7_prepare]; exact sfg_i hi rfl
  · intro on' ot' op' os' sc' sd' sp' sw' gc' gp' gr' bc' bg' bs' bt' be' ql' qg' fc' fg' fs' fm'
    rw [f_X7_dropChanges]
    refine sfg_i hi ?_
    rw [e]
  · obtain ⟨y1, y3⟩ := x6 j hj
    refine ⟨y1, ?_⟩
    rw [updO_n (by rw [nI_clamp (by omega)]; omega)]
    exact y3
theorem keep_8 {n c : Nat} (hn : n < 9) (hc : c ≤ 8) : f_X7_keep (nI n) (nI c) = some (nI ((n + 1) % 9), nI (if c = 8 then 8 else c + 1)) := by
  have hm : (if nI c + 1 < (8 : Int32) then nI c + 1 else 8) = nI (if c = 8 then 8 else c + 1) := by
    rcases Nat.lt_or_ge (c + 1) 8 with y | y
    · rw [if_neg (by omega : ¬ c = 8), if_pos]
      · exact nI_1 c
      · rw [nI_1, show (8 : Int32) = nI 8 from rfl, nI_ltP (by omega) (by omega)]; omega
    · rw [show (if c = 8 then 8 else c + 1) = 8 by by_cases e : c = 8 <;> simp [e] <;> omega, if_neg]
      · rfl
      · rw [nI_1, show (8 : Int32) = nI 8 from rfl, nI_ltP (by omega) (by omega)]; omega
  rw [f_X7_keep]
  rcases Nat.decEq n 8 with y | y
  · refine sfb_f (by rw [show (8 : Int32) = nI 8 from rfl, nI_eqP (by omega) (by omega)]; exact y) ?_
    refine sfn_r (nI_1 n) (sfn_r hm ?_)
    rw [show (n + 1) % 9 = n + 1 by omega]
  · subst y
    exact sfb_t (by decide) (sfn_r hm rfl)
def zpu (M : Nat → Nat) (H : Nat → Nat → Nat) : Nat → Nat → Nat := fun j => if j = 0 then M else H (j - 1)
def zc8 (c : Nat) : Nat := if c = 8 then 8 else c + 1
/-- a success counts -/
theorem HZ_keep (h : HZ U yv yn yc H c) {M : Nat → Nat} (hV : VW M U) (hr : ROt M (yv yn.toNatClampNeg)) : ∃ yn' yc', f_X7_keep yn yc = some (yn', yc') ∧ HZ U yv yn' yc' (zpu M H) (zc8 c) := by
  obtain ⟨n, x1, x2, x3, x4, x6⟩ := h
  subst x3 x4
  rw [nI_clamp (by omega)] at hr
  have h8 : zc8 c ≤ 8 ∧ zc8 c ≤ c + 1 := by unfold zc8; split <;> omega
  refine ⟨_, _, keep_8 x1 x2, (n + 1) % 9, by omega, h8.1, rfl, rfl, fun j hj => ?_⟩
  rcases Nat.decEq j 0 with z | z
  · rw [zpu, if_neg z]
    obtain ⟨y1, y3⟩ := x6 (j - 1) (by omega)
    rw [show ((n + 1) % 9 + 8 - j) % 9 = (n + 8 - (j - 1)) % 9 by omega]
    exact ⟨y1, y3⟩
  · rw [zpu, if_pos z, show ((n + 1) % 9 + 8 - j) % 9 = n by omega]
    exact ⟨hV, hr⟩
theorem rec_s {yn' yc' : Int32} {a : Nat} (ha : a < 2 ^ 31) (h : f_X7_keep yn yc = some (yn', yc')) : f_X11_recorded yn yc (nI a) = some (nI a, yn', yc') ∧ f_TX11_recorded yn yc (nI a) = none := by
  have c : (0 : Int32) ≤ nI a := by
    rw [show (0 : Int32) = nI 0 from rfl, nI_leP (by omega) (by omega)]; omega
  constructor
  · rw [f_X11_recorded]; exact sfb_t c (sfc2_i h rfl)
  · rw [f_TX11_recorded]; exact sfb_t c (sfc2_i h rfl)
theorem rec_1 : f_TX11_recorded yn yc (-nI 1) = some (0, yn, yc) := by
  rw [f_TX11_recorded]
  refine sfb_f (by decide) (sft1_s (a0 := 0) ?_ rfl)
  rw [f_TX11_refuse]
  exact sfb_f (by decide) (sfb_f (by decide) (sfb_f (by decide) (sfb_t (by decide) rfl)))
theorem rec_2 : f_TX11_recorded yn yc (-nI 2) = some (1, yn, yc) := by
  rw [f_TX11_recorded]
  refine sfb_f (by decide) (sft1_s (a0 := 1) ?_ rfl)
  rw [f_TX11_refuse]
  exact sfb_f (by decide) (sfb_f (by decide) (sfb_t (by decide) rfl))
theorem rec_3 : f_TX11_recorded yn yc (-nI 3) = some (2, yn, yc) := by
  rw [f_TX11_recorded]
  refine sfb_f (by decide) (sft1_s (a0 := 2) ?_ rfl)
  rw [f_TX11_refuse]
  exact sfb_f (by decide) (sfb_t (by decide) rfl)
theorem rec_4 : f_TX11_recorded yn yc (-nI 4) = some (3, yn, yc) := by
  rw [f_TX11_recorded]
  refine sfb_f (by decide) (sft1_s (a0 := 3) ?_ rfl)
  rw [f_TX11_refuse]
  exact sfb_t (by decide) rfl
theorem rec_5 : f_TX11_recorded yn yc (-nI 5) = some (4, yn, yc) := by
  rw [f_TX11_recorded]
  refine sfb_f (by decide) (sft1_s (a0 := 4) ?_ rfl)
  rw [f_TX11_refuse]
  exact sfb_f (by decide) (sfb_f (by decide) (sfb_f (by decide) (sfb_f (by decide) rfl)))
end HST
