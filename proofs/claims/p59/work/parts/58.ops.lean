/-! the operations on the row of numbers, and what the row says behind each -/
def zcp (M : Nat → Nat) (sp dp n : Nat) : Nat → Nat := fun k => if dp ≤ k ∧ k < dp + n then M (sp + (k - dp)) else M k
theorem zcpI {M : Nat → Nat} {sp dp n k : Nat} (h : dp ≤ k ∧ k < dp + n) : zcp M sp dp n k = M (sp + (k - dp)) := if_pos h
theorem zcpO {M : Nat → Nat} {sp dp n k : Nat} (h : k < dp ∨ dp + n ≤ k) : zcp M sp dp n k = M k := if_neg (by omega)
theorem MR.cpy {M : Nat → Nat} {ms : Nat → Int32} (h : MR M ms) {sp dp n : Nat} (hs : sp + n ≤ 158) : MR (zcp M sp dp n) (va_cpy ms ms sp dp n) := fun k hk => by
  by_cases e : dp ≤ k ∧ k < dp + n
  · rw [zcpI e, va_cpy, if_pos e]; exact h _ (by omega)
  · rw [zcpO (by omega), va_cpy, if_neg e]; exact h k hk
theorem cpyO {α : Type} {f g : Nat → α} {sp dp n k : Nat} (h : k < dp ∨ dp + n ≤ k) : va_cpy f g sp dp n k = g k := if_neg (by omega)
/-- a slide is built -/
def zbd (M : Nat → Nat) (d p : Nat) : Nat → Nat := zu (zu (zu (fun i => if 8 + 9 * M 0 ≤ i ∧ i < 17 + 9 * M 0 then 0 else M i) (8 + 9 * M 0) d) (8 + 9 * M 0 + 1) p) 0 (M 0 + 1)
/-- a guest comes -/
def zgu (M : Nat → Nat) : Nat → Nat := zu (zu (zu (zu M (44 + 3 * M 1) 50) (44 + 3 * M 1 + 1) 0) (44 + 3 * M 1 + 2) 0) 1 (M 1 + 1)
/-- a booking is made -/
def zmk (M : Nat → Nat) (g s t : Nat) : Nat → Nat := zu (zu (zu (zu (zu (zu M (44 + 3 * g) (zC M g - zP M s)) 7 (M 7 + zP M s)) (74 + 3 * M 2) g) (74 + 3 * M 2 + 1) s) (74 + 3 * M 2 + 2) t) 2 (M 2 + 1)
/-- one is cancelled -/
def zcn (M : Nat → Nat) (b : Nat) : Nat → Nat := zcp (zu (zu (zu (zu M (44 + 3 * zG M b) (zC M (zG M b) + zP M (zS M b))) 7 (M 7 - zP M (zS M b))) 6 (M 6 + zP M (zS M b))) 2 (M 2 - 1)) (74 + 3 * b + 3) (74 + 3 * b) (3 * (M 2 - 1 - b))
/-- a guest joins a queue -/
def zjn (M : Nat → Nat) (g s : Nat) : Nat → Nat := zu (zu (zu M (8 + 9 * s + 4 + zQ M s) g) (8 + 9 * s + 3) (zQ M s + 1)) (44 + 3 * g + 2) (s + 1)
/-- the guest g, at place p, leaves the queue of s -/
def zqs (M : Nat → Nat) (a b : Nat) : Nat → Nat := fun i => if a ≤ i ∧ i + 1 < b then M (i + 1) else M i
theorem zqsI {M : Nat → Nat} {a b i : Nat} (h : a ≤ i ∧ i + 1 < b) : zqs M a b i = M (i + 1) := if_pos h
theorem zqsO {M : Nat → Nat} {a b i : Nat} (h : i < a ∨ b ≤ i + 1) : zqs M a b i = M i := if_neg (by omega)
def zlv (M : Nat → Nat) (s p g : Nat) : Nat → Nat := zu (zu (zqs M (8 + 9 * s + 4 + p) (8 + 9 * s + 4 + zQ M s)) (8 + 9 * s + 3) (zQ M s - 1)) (44 + 3 * g + 2) 0
/-- another wetness -/
def zdy (M : Nat → Nat) (s w : Nat) : Nat → Nat := zu M (8 + 9 * s + 2) w
/-- the next minute -/
def ztk (M : Nat → Nat) : Nat → Nat := zu M 3 (M 3 + 1)
/-- a booking finishes -/
def zfw (w : Nat) : Nat := if w + 2 < 9 then w + 2 else 9
def zfa (M N : Nat → Nat) (b : Nat) : Nat → Nat := zcp (zu (zu (zu (zu (zu (zu (zcp (zu N (8 + 9 * zS M b + 2) (zfw (zW M (zS M b)))) 110 113 45) 110 (zG M b)) 111 (zS M b)) 112 (M 3)) 4 (if M 4 + 1 < 16 then M 4 + 1 else 16)) (44 + 3 * zG M b + 1) (zR M (zG M b) + 1)) 2 (M 2 - 1)) (74 + 3 * b + 3) (74 + 3 * b) (3 * (M 2 - 1 - b))
def zfs (M : Nat → Nat) (b : Nat) : Nat → Nat := zu (zu (zu (zu M (44 + 3 * zG M b) (zC M (zG M b) + zP M (zS M b) / 2)) 7 (M 7 - zP M (zS M b) / 2)) 6 (M 6 + zP M (zS M b) / 2)) 5 (M 5 + 1)
def zfn (M : Nat → Nat) (b : Nat) : Nat → Nat := if zW M (zS M b) < 5 then zfa M M b else zfa M (zfs M b) b
theorem bd_1 {M : Nat → Nat} {d p : Nat} (h : M 0 < 4) : zbd M d p 1 = M 1 := by
  simp only [zbd, zD, zP, zW, zQ, zq, zC, zR, zV, zG, zS, zT, zFG, zFS, zFM] at * <;> simp (disch := omega) only [zu_eq, zu_ne, zcpI, zcpO, zqsI, zqsO, if_pos, if_neg]
theorem bd_2 {M : Nat → Nat} {d p : Nat} (h : M 0 < 4) : zbd M d p 2 = M 2 := by
  simp only [zbd, zD, zP, zW, zQ, zq, zC, zR, zV, zG, zS, zT, zFG, zFS, zFM] at * <;> simp (disch := omega) only [zu_eq, zu_ne, zcpI, zcpO, zqsI, zqsO, if_pos, if_neg]
theorem bd_3 {M : Nat → Nat} {d p : Nat} (h : M 0 < 4) : zbd M d p 3 = M 3 := by
  simp only [zbd, zD, zP, zW, zQ, zq, zC, zR, zV, zG, zS, zT, zFG, zFS, zFM] at * <;> simp (disch := omega) only [zu_eq, zu_ne, zcpI, zcpO, zqsI, zqsO, if_pos, if_neg]
theorem bd_4 {M : Nat → Nat} {d p : Nat} (h : M 0 < 4) : zbd M d p 4 = M 4 := by
  simp only [zbd, zD, zP, zW, zQ, zq, zC, zR, zV, zG, zS, zT, zFG, zFS, zFM] at * <;> simp (disch := omega) only [zu_eq, zu_ne, zcpI, zcpO, zqsI, zqsO, if_pos, if_neg]
theorem bd_5 {M : Nat → Nat} {d p : Nat} (h : M 0 < 4) : zbd M d p 5 = M 5 := by
  simp only [zbd, zD, zP, zW, zQ, zq, zC, zR, zV, zG, zS, zT, zFG, zFS, zFM] at * <;> simp (disch := omega) only [zu_eq, zu_ne, zcpI, zcpO, zqsI, zqsO, if_pos, if_neg]
theorem bd_6 {M : Nat → Nat} {d p : Nat} (h : M 0 < 4) : zbd M d p 6 = M 6 := by
  simp only [zbd, zD, zP, zW, zQ, zq, zC, zR, zV, zG, zS, zT, zFG, zFS, zFM] at * <;> simp (disch := omega) only [zu_eq, zu_ne, zcpI, zcpO, zqsI, zqsO, if_pos, if_neg]
theorem bd_7 {M : Nat → Nat} {d p : Nat} (h : M 0 < 4) : zbd M d p 7 = M 7 := by
  simp only [zbd, zD, zP, zW, zQ, zq, zC, zR, zV, zG, zS, zT, zFG, zFS, zFM] at * <;> simp (disch := omega) only [zu_eq, zu_ne, zcpI, zcpO, zqsI, zqsO, if_pos, if_neg]
theorem bd_zC {M : Nat → Nat} {d p : Nat} {x : Nat} (h : M 0 < 4) (hx : x < 10) : zC (zbd M d p) x = zC M x := by
  simp only [zbd, zD, zP, zW, zQ, zq, zC, zR, zV, zG, zS, zT, zFG, zFS, zFM] at * <;> simp (disch := omega) only [zu_eq, zu_ne, zcpI, zcpO, zqsI, zqsO, if_pos, if_neg]
theorem bd_zR {M : Nat → Nat} {d p : Nat} {x : Nat} (h : M 0 < 4) (hx : x < 10) : zR (zbd M d p) x = zR M x := by
  simp only [zbd, zD, zP, zW, zQ, zq, zC, zR, zV, zG, zS, zT, zFG, zFS, zFM] at * <;> simp (disch := omega) only [zu_eq, zu_ne, zcpI, zcpO, zqsI, zqsO, if_pos, if_neg]
theorem bd_zV {M : Nat → Nat} {d p : Nat} {x : Nat} (h : M 0 < 4) (hx : x < 10) : zV (zbd M d p) x = zV M x := by
  simp only [zbd, zD, zP, zW, zQ, zq, zC, zR, zV, zG, zS, zT, zFG, zFS, zFM] at * <;> simp (disch := omega) only [zu_eq, zu_ne, zcpI, zcpO, zqsI, zqsO, if_pos, if_neg]
theorem bd_zG {M : Nat → Nat} {d p : Nat} {x : Nat} (h : M 0 < 4) (hx : x < 12) : zG (zbd M d p) x = zG M x := by
  simp only [zbd, zD, zP, zW, zQ, zq, zC, zR, zV, zG, zS, zT, zFG, zFS, zFM] at * <;> simp (disch := omega) only [zu_eq, zu_ne, zcpI, zcpO, zqsI, zqsO, if_pos, if_neg]
theorem bd_zS {M : Nat → Nat} {d p : Nat} {x : Nat} (h : M 0 < 4) (hx : x < 12) : zS (zbd M d p) x = zS M x := by
  simp only [zbd, zD, zP, zW, zQ, zq, zC, zR, zV, zG, zS, zT, zFG, zFS, zFM] at * <;> simp (disch := omega) only [zu_eq, zu_ne, zcpI, zcpO, zqsI, zqsO, if_pos, if_neg]
theorem bd_zT {M : Nat → Nat} {d p : Nat} {x : Nat} (h : M 0 < 4) (hx : x < 12) : zT (zbd M d p) x = zT M x := by
  simp only [zbd, zD, zP, zW, zQ, zq, zC, zR, zV, zG, zS, zT, zFG, zFS, zFM] at * <;> simp (disch := omega) only [zu_eq, zu_ne, zcpI, zcpO, zqsI, zqsO, if_pos, if_neg]
theorem bd_zFG {M : Nat → Nat} {d p : Nat} {x : Nat} (h : M 0 < 4) (hx : x < 16) : zFG (zbd M d p) x = zFG M x := by
  simp only [zbd, zD, zP, zW, zQ, zq, zC, zR, zV, zG, zS, zT, zFG, zFS, zFM] at * <;> simp (disch := omega) only [zu_eq, zu_ne, zcpI, zcpO, zqsI, zqsO, if_pos, if_neg]
theorem bd_zFS {M : Nat → Nat} {d p : Nat} {x : Nat} (h : M 0 < 4) (hx : x < 16) : zFS (zbd M d p) x = zFS M x := by
  simp only [zbd, zD, zP, zW, zQ, zq, zC, zR, zV, zG, zS, zT, zFG, zFS, zFM] at * <;> simp (disch := omega) only [zu_eq, zu_ne, zcpI, zcpO, zqsI, zqsO, if_pos, if_neg]
theorem bd_zFM {M : Nat → Nat} {d p : Nat} {x : Nat} (h : M 0 < 4) (hx : x < 16) : zFM (zbd M d p) x = zFM M x := by
  simp only [zbd, zD, zP, zW, zQ, zq, zC, zR, zV, zG, zS, zT, zFG, zFS, zFM] at * <;> simp (disch := omega) only [zu_eq, zu_ne, zcpI, zcpO, zqsI, zqsO, if_pos, if_neg]
theorem bd_0 {M : Nat → Nat} {d p : Nat} (h : M 0 < 4)  : zbd M d p 0 = M 0 + 1 := by
  simp only [zbd, zD, zP, zW, zQ, zq, zC, zR, zV, zG, zS, zT, zFG, zFS, zFM] at * <;> simp (disch := omega) only [zu_eq, zu_ne, zcpI, zcpO, zqsI, zqsO, if_pos, if_neg]
theorem bd_zDo {M : Nat → Nat} {d p : Nat} (h : M 0 < 4) {x : Nat} (hx : x < 4) (hn : x ≠ M 0) : zD (zbd M d p) x = zD M x := by
  simp only [zbd, zD, zP, zW, zQ, zq, zC, zR, zV, zG, zS, zT, zFG, zFS, zFM] at * <;> simp (disch := omega) only [zu_eq, zu_ne, zcpI, zcpO, zqsI, zqsO, if_pos, if_neg]
theorem bd_zPo {M : Nat → Nat} {d p : Nat} (h : M 0 < 4) {x : Nat} (hx : x < 4) (hn : x ≠ M 0) : zP (zbd M d p) x = zP M x := by
  simp only [zbd, zD, zP, zW, zQ, zq, zC, zR, zV, zG, zS, zT, zFG, zFS, zFM] at * <;> simp (disch := omega) only [zu_eq, zu_ne, zcpI, zcpO, zqsI, zqsO, if_pos, if_neg]
theorem bd_zWo {M : Nat → Nat} {d p : Nat} (h : M 0 < 4) {x : Nat} (hx : x < 4) (hn : x ≠ M 0) : zW (zbd M d p) x = zW M x := by
  simp only [zbd, zD, zP, zW, zQ, zq, zC, zR, zV, zG, zS, zT, zFG, zFS, zFM] at * <;> simp (disch := omega) only [zu_eq, zu_ne, zcpI, zcpO, zqsI, zqsO, if_pos, if_neg]
theorem bd_zQo {M : Nat → Nat} {d p : Nat} (h : M 0 < 4) {x : Nat} (hx : x < 4) (hn : x ≠ M 0) : zQ (zbd M d p) x = zQ M x := by
  simp only [zbd, zD, zP, zW, zQ, zq, zC, zR, zV, zG, zS, zT, zFG, zFS, zFM] at * <;> simp (disch := omega) only [zu_eq, zu_ne, zcpI, zcpO, zqsI, zqsO, if_pos, if_neg]
theorem bd_zqo {M : Nat → Nat} {d p : Nat} (h : M 0 < 4) {x y : Nat} (hx : x < 4) (hy : y < 5) (hn : x ≠ M 0) : zq (zbd M d p) x y = zq M x y := by
  simp only [zbd, zD, zP, zW, zQ, zq, zC, zR, zV, zG, zS, zT, zFG, zFS, zFM] at * <;> simp (disch := omega) only [zu_eq, zu_ne, zcpI, zcpO, zqsI, zqsO, if_pos, if_neg]
theorem bd_zDn {M : Nat → Nat} {d p : Nat} (h : M 0 < 4)  : zD (zbd M d p) (M 0) = d := by
  simp only [zbd, zD, zP, zW, zQ, zq, zC, zR, zV, zG, zS, zT, zFG, zFS, zFM] at * <;> simp (disch := omega) only [zu_eq, zu_ne, zcpI, zcpO, zqsI, zqsO, if_pos, if_neg]
theorem bd_zPn {M : Nat → Nat} {d p : Nat} (h : M 0 < 4)  : zP (zbd M d p) (M 0) = p := by
  simp only [zbd, zD, zP, zW, zQ, zq, zC, zR, zV, zG, zS, zT, zFG, zFS, zFM] at * <;> simp (disch := omega) only [zu_eq, zu_ne, zcpI, zcpO, zqsI, zqsO, if_pos, if_neg]
theorem bd_zWn {M : Nat → Nat} {d p : Nat} (h : M 0 < 4)  : zW (zbd M d p) (M 0) = 0 := by
  simp only [zbd, zD, zP, zW, zQ, zq, zC, zR, zV, zG, zS, zT, zFG, zFS, zFM] at * <;> simp (disch := omega) only [zu_eq, zu_ne, zcpI, zcpO, zqsI, zqsO, if_pos, if_neg]
theorem bd_zQn {M : Nat → Nat} {d p : Nat} (h : M 0 < 4)  : zQ (zbd M d p) (M 0) = 0 := by
  simp only [zbd, zD, zP, zW, zQ, zq, zC, zR, zV, zG, zS, zT, zFG, zFS, zFM] at * <;> simp (disch := omega) only [zu_eq, zu_ne, zcpI, zcpO, zqsI, zqsO, if_pos, if_neg]
theorem gu_0 {M : Nat → Nat}  (h : M 1 < 10) : zgu M 0 = M 0 := by
  simp only [zgu, zD, zP, zW, zQ, zq, zC, zR, zV, zG, zS, zT, zFG, zFS, zFM] at * <;> simp (disch := omega) only [zu_eq, zu_ne, zcpI, zcpO, zqsI, zqsO, if_pos, if_neg]
theorem gu_2 {M : Nat → Nat}  (h : M 1 < 10) : zgu M 2 = M 2 := by
  simp only [zgu, zD, zP, zW, zQ, zq, zC, zR, zV, zG, zS, zT, zFG, zFS, zFM] at * <;> simp (disch := omega) only [zu_eq, zu_ne, zcpI, zcpO, zqsI, zqsO, if_pos, if_neg]
theorem gu_3 {M : Nat → Nat}  (h : M 1 < 10) : zgu M 3 = M 3 := by
  simp only [zgu, zD, zP, zW, zQ, zq, zC, zR, zV, zG, zS, zT, zFG, zFS, zFM] at * <;> simp (disch := omega) only [zu_eq, zu_ne, zcpI, zcpO, zqsI, zqsO, if_pos, if_neg]
theorem gu_4 {M : Nat → Nat}  (h : M 1 < 10) : zgu M 4 = M 4 := by
  simp only [zgu, zD, zP, zW, zQ, zq, zC, zR, zV, zG, zS, zT, zFG, zFS, zFM] at * <;> simp (disch := omega) only [zu_eq, zu_ne, zcpI, zcpO, zqsI, zqsO, if_pos, if_neg]
theorem gu_5 {M : Nat → Nat}  (h : M 1 < 10) : zgu M 5 = M 5 := by
  simp only [zgu, zD, zP, zW, zQ, zq, zC, zR, zV, zG, zS, zT, zFG, zFS, zFM] at * <;> simp (disch := omega) only [zu_eq, zu_ne, zcpI, zcpO, zqsI, zqsO, if_pos, if_neg]
theorem gu_6 {M : Nat → Nat}  (h : M 1 < 10) : zgu M 6 = M 6 := by
  simp only [zgu, zD, zP, zW, zQ, zq, zC, zR, zV, zG, zS, zT, zFG, zFS, zFM] at * <;> simp (disch := omega) only [zu_eq, zu_ne, zcpI, zcpO, zqsI, zqsO, if_pos, if_neg]
theorem gu_7 {M : Nat → Nat}  (h : M 1 < 10) : zgu M 7 = M 7 := by
  simp only [zgu, zD, zP, zW, zQ, zq, zC, zR, zV, zG, zS, zT, zFG, zFS, zFM] at * <;> simp (disch := omega) only [zu_eq, zu_ne, zcpI, zcpO, zqsI, zqsO, if_pos, if_neg]
theorem gu_zD {M : Nat → Nat}  {x : Nat} (h : M 1 < 10) (hx : x < 4) : zD (zgu M) x = zD M x := by
  simp only [zgu, zD, zP, zW, zQ, zq, zC, zR, zV, zG, zS, zT, zFG, zFS, zFM] at * <;> simp (disch := omega) only [zu_eq, zu_ne, zcpI, zcpO, zqsI, zqsO, if_pos, if_neg]
theorem gu_zP {M : Nat → Nat}  {x : Nat} (h : M 1 < 10) (hx : x < 4) : zP (zgu M) x = zP M x := by
  simp only [zgu, zD, zP, zW, zQ, zq, zC, zR, zV, zG, zS, zT, zFG, zFS, zFM] at * <;> simp (disch := omega) only [zu_eq, zu_ne, zcpI, zcpO, zqsI, zqsO, if_pos, if_neg]
theorem gu_zW {M : Nat → Nat}  {x : Nat} (h : M 1 < 10) (hx : x < 4) : zW (zgu M) x = zW M x := by
  simp only [zgu, zD, zP, zW, zQ, zq, zC, zR, zV, zG, zS, zT, zFG, zFS, zFM] at * <;> simp (disch := omega) only [zu_eq, zu_ne, zcpI, zcpO, zqsI, zqsO, if_pos, if_neg]
theorem gu_zQ {M : Nat → Nat}  {x : Nat} (h : M 1 < 10) (hx : x < 4) : zQ (zgu M) x = zQ M x := by
  simp only [zgu, zD, zP, zW, zQ, zq, zC, zR, zV, zG, zS, zT, zFG, zFS, zFM] at * <;> simp (disch := omega) only [zu_eq, zu_ne, zcpI, zcpO, zqsI, zqsO, if_pos, if_neg]
theorem gu_zq {M : Nat → Nat}  {x y : Nat} (h : M 1 < 10) (hx : x < 4) (hy : y < 5) : zq (zgu M) x y = zq M x y := by
  simp only [zgu, zD, zP, zW, zQ, zq, zC, zR, zV, zG, zS, zT, zFG, zFS, zFM] at * <;> simp (disch := omega) only [zu_eq, zu_ne, zcpI, zcpO, zqsI, zqsO, if_pos, if_neg]
theorem gu_zG {M : Nat → Nat}  {x : Nat} (h : M 1 < 10) (hx : x < 12) : zG (zgu M) x = zG M x := by
  simp only [zgu, zD, zP, zW, zQ, zq, zC, zR, zV, zG, zS, zT, zFG, zFS, zFM] at * <;> simp (disch := omega) only [zu_eq, zu_ne, zcpI, zcpO, zqsI, zqsO, if_pos, if_neg]
theorem gu_zS {M : Nat → Nat}  {x : Nat} (h : M 1 < 10) (hx : x < 12) : zS (zgu M) x = zS M x := by
  simp only [zgu, zD, zP, zW, zQ, zq, zC, zR, zV, zG, zS, zT, zFG, zFS, zFM] at * <;> simp (disch := omega) only [zu_eq, zu_ne, zcpI, zcpO, zqsI, zqsO, if_pos, if_neg]
theorem gu_zT {M : Nat → Nat}  {x : Nat} (h : M 1 < 10) (hx : x < 12) : zT (zgu M) x = zT M x := by
  simp only [zgu, zD, zP, zW, zQ, zq, zC, zR, zV, zG, zS, zT, zFG, zFS, zFM] at * <;> simp (disch := omega) only [zu_eq, zu_ne, zcpI, zcpO, zqsI, zqsO, if_pos, if_neg]
theorem gu_zFG {M : Nat → Nat}  {x : Nat} (h : M 1 < 10) (hx : x < 16) : zFG (zgu M) x = zFG M x := by
  simp only [zgu, zD, zP, zW, zQ, zq, zC, zR, zV, zG, zS, zT, zFG, zFS, zFM] at * <;> simp (disch := omega) only [zu_eq, zu_ne, zcpI, zcpO, zqsI, zqsO, if_pos, if_neg]
theorem gu_zFS {M : Nat → Nat}  {x : Nat} (h : M 1 < 10) (hx : x < 16) : zFS (zgu M) x = zFS M x := by
  simp only [zgu, zD, zP, zW, zQ, zq, zC, zR, zV, zG, zS, zT, zFG, zFS, zFM] at * <;> simp (disch := omega) only [zu_eq, zu_ne, zcpI, zcpO, zqsI, zqsO, if_pos, if_neg]
theorem gu_zFM {M : Nat → Nat}  {x : Nat} (h : M 1 < 10) (hx : x < 16) : zFM (zgu M) x = zFM M x := by
  simp only [zgu, zD, zP, zW, zQ, zq, zC, zR, zV, zG, zS, zT, zFG, zFS, zFM] at * <;> simp (disch := omega) only [zu_eq, zu_ne, zcpI, zcpO, zqsI, zqsO, if_pos, if_neg]
theorem gu_1 {M : Nat → Nat}  (h : M 1 < 10)  : zgu M 1 = M 1 + 1 := by
  simp only [zgu, zD, zP, zW, zQ, zq, zC, zR, zV, zG, zS, zT, zFG, zFS, zFM] at * <;> simp (disch := omega) only [zu_eq, zu_ne, zcpI, zcpO, zqsI, zqsO, if_pos, if_neg]
theorem gu_zCo {M : Nat → Nat}  (h : M 1 < 10) {x : Nat} (hx : x < 10) (hn : x ≠ M 1) : zC (zgu M) x = zC M x := by
  simp only [zgu, zD, zP, zW, zQ, zq, zC, zR, zV, zG, zS, zT, zFG, zFS, zFM] at * <;> simp (disch := omega) only [zu_eq, zu_ne, zcpI, zcpO, zqsI, zqsO, if_pos, if_neg]
theorem gu_zRo {M : Nat → Nat}  (h : M 1 < 10) {x : Nat} (hx : x < 10) (hn : x ≠ M 1) : zR (zgu M) x = zR M x := by
  simp only [zgu, zD, zP, zW, zQ, zq, zC, zR, zV, zG, zS, zT, zFG, zFS, zFM] at * <;> simp (disch := omega) only [zu_eq, zu_ne, zcpI, zcpO, zqsI, zqsO, if_pos, if_neg]
theorem gu_zVo {M : Nat → Nat}  (h : M 1 < 10) {x : Nat} (hx : x < 10) (hn : x ≠ M 1) : zV (zgu M) x = zV M x := by
  simp only [zgu, zD, zP, zW, zQ, zq, zC, zR, zV, zG, zS, zT, zFG, zFS, zFM] at * <;> simp (disch := omega) only [zu_eq, zu_ne, zcpI, zcpO, zqsI, zqsO, if_pos, if_neg]
theorem gu_zCn {M : Nat → Nat}  (h : M 1 < 10)  : zC (zgu M) (M 1) = 50 := by
  simp only [zgu, zD, zP, zW, zQ, zq, zC, zR, zV, zG, zS, zT, zFG, zFS, zFM] at * <;> simp (disch := omega) only [zu_eq, zu_ne, zcpI, zcpO, zqsI, zqsO, if_pos, if_neg]
theorem gu_zRn {M : Nat → Nat}  (h : M 1 < 10)  : zR (zgu M) (M 1) = 0 := by
  simp only [zgu, zD, zP, zW, zQ, zq, zC, zR, zV, zG, zS, zT, zFG, zFS, zFM] at * <;> simp (disch := omega) only [zu_eq, zu_ne, zcpI, zcpO, zqsI, zqsO, if_pos, if_neg]
theorem gu_zVn {M : Nat → Nat}  (h : M 1 < 10)  : zV (zgu M) (M 1) = 0 := by
  simp only [zgu, zD, zP, zW, zQ, zq, zC, zR, zV, zG, zS, zT, zFG, zFS, zFM] at * <;> simp (disch := omega) only [zu_eq, zu_ne, zcpI, zcpO, zqsI, zqsO, if_pos, if_neg]
theorem mk_0 {M : Nat → Nat} {g s t : Nat} (h : M 2 < 12) (hg : g < 10) (hs : s < 4) : zmk M g s t 0 = M 0 := by
  simp only [zmk, zD, zP, zW, zQ, zq, zC, zR, zV, zG, zS, zT, zFG, zFS, zFM] at * <;> simp (disch := omega) only [zu_eq, zu_ne, zcpI, zcpO, zqsI, zqsO, if_pos, if_neg]
theorem mk_1 {M : Nat → Nat} {g s t : Nat} (h : M 2 < 12) (hg : g < 10) (hs : s < 4) : zmk M g s t 1 = M 1 := by
  simp only [zmk, zD, zP, zW, zQ, zq, zC, zR, zV, zG, zS, zT, zFG, zFS, zFM] at * <;> simp (disch := omega) only [zu_eq, zu_ne, zcpI, zcpO, zqsI, zqsO, if_pos, if_neg]
theorem mk_3 {M : Nat → Nat} {g s t : Nat} (h : M 2 < 12) (hg : g < 10) (hs : s < 4) : zmk M g s t 3 = M 3 := by
  simp only [zmk, zD, zP, zW, zQ, zq, zC, zR, zV, zG, zS, zT, zFG, zFS, zFM] at * <;> simp (disch := omega) only [zu_eq, zu_ne, zcpI, zcpO, zqsI, zqsO, if_pos, if_neg]
theorem mk_4 {M : Nat → Nat} {g s t : Nat} (h : M 2 < 12) (hg : g < 10) (hs : s < 4) : zmk M g s t 4 = M 4 := by
  simp only [zmk, zD, zP, zW, zQ, zq, zC, zR, zV, zG, zS, zT, zFG, zFS, zFM] at * <;> simp (disch := omega) only [zu_eq, zu_ne, zcpI, zcpO, zqsI, zqsO, if_pos, if_neg]
theorem mk_5 {M : Nat → Nat} {g s t : Nat} (h : M 2 < 12) (hg : g < 10) (hs : s < 4) : zmk M g s t 5 = M 5 := by
  simp only [zmk, zD, zP, zW, zQ, zq, zC, zR, zV, zG, zS, zT, zFG, zFS, zFM] at * <;> simp (disch := omega) only [zu_eq, zu_ne, zcpI, zcpO, zqsI, zqsO, if_pos, if_neg]
theorem mk_6 {M : Nat → Nat} {g s t : Nat} (h : M 2 < 12) (hg : g < 10) (hs : s < 4) : zmk M g s t 6 = M 6 := by
  simp only [zmk, zD, zP, zW, zQ, zq, zC, zR, zV, zG, zS, zT, zFG, zFS, zFM] at * <;> simp (disch := omega) only [zu_eq, zu_ne, zcpI, zcpO, zqsI, zqsO, if_pos, if_neg]
theorem mk_zD {M : Nat → Nat} {g s t : Nat} {x : Nat} (h : M 2 < 12) (hg : g < 10) (hs : s < 4) (hx : x < 4) : zD (zmk M g s t) x = zD M x := by
  simp only [zmk, zD, zP, zW, zQ, zq, zC, zR, zV, zG, zS, zT, zFG, zFS, zFM] at * <;> simp (disch := omega) only [zu_eq, zu_ne, zcpI, zcpO, zqsI, zqsO, if_pos, if_neg]
theorem mk_zP {M : Nat → Nat} {g s t : Nat} {x : Nat} (h : M 2 < 12) (hg : g < 10) (hs : s < 4) (hx : x < 4) : zP (zmk M g s t) x = zP M x := by
  simp only [zmk, zD, zP, zW, zQ, zq, zC, zR, zV, zG, zS, zT, zFG, zFS, zFM] at * <;> simp (disch := omega) only [zu_eq, zu_ne, zcpI, zcpO, zqsI, zqsO, if_pos, if_neg]
theorem mk_zW {M : Nat → Nat} {g s t : Nat} {x : Nat} (h : M 2 < 12) (hg : g < 10) (hs : s < 4) (hx : x < 4) : zW (zmk M g s t) x = zW M x := by
  simp only [zmk, zD, zP, zW, zQ, zq, zC, zR, zV, zG, zS, zT, zFG, zFS, zFM] at * <;> simp (disch := omega) only [zu_eq, zu_ne, zcpI, zcpO, zqsI, zqsO, if_pos, if_neg]
theorem mk_zQ {M : Nat → Nat} {g s t : Nat} {x : Nat} (h : M 2 < 12) (hg : g < 10) (hs : s < 4) (hx : x < 4) : zQ (zmk M g s t) x = zQ M x := by
  simp only [zmk, zD, zP, zW, zQ, zq, zC, zR, zV, zG, zS, zT, zFG, zFS, zFM] at * <;> simp (disch := omega) only [zu_eq, zu_ne, zcpI, zcpO, zqsI, zqsO, if_pos, if_neg]
theorem mk_zq {M : Nat → Nat} {g s t : Nat} {x y : Nat} (h : M 2 < 12) (hg : g < 10) (hs : s < 4) (hx : x < 4) (hy : y < 5) : zq (zmk M g s t) x y = zq M x y := by
  simp only [zmk, zD, zP, zW, zQ, zq, zC, zR, zV, zG, zS, zT, zFG, zFS, zFM] at * <;> simp (disch := omega) only [zu_eq, zu_ne, zcpI, zcpO, zqsI, zqsO, if_pos, if_neg]
theorem mk_zR {M : Nat → Nat} {g s t : Nat} {x : Nat} (h : M 2 < 12) (hg : g < 10) (hs : s < 4) (hx : x < 10) : zR (zmk M g s t) x = zR M x := by
  simp only [zmk, zD, zP, zW, zQ, zq, zC, zR, zV, zG, zS, zT, zFG, zFS, zFM] at * <;> simp (disch := omega) only [zu_eq, zu_ne, zcpI, zcpO, zqsI, zqsO, if_pos, if_neg]
theorem mk_zV {M : Nat → Nat} {g s t : Nat} {x : Nat} (h : M 2 < 12) (hg : g < 10) (hs : s < 4) (hx : x < 10) : zV (zmk M g s t) x = zV M x := by
  simp only [zmk, zD, zP, zW, zQ, zq, zC, zR, zV, zG, zS, zT, zFG, zFS, zFM] at * <;> simp (disch := omega) only [zu_eq, zu_ne, zcpI, zcpO, zqsI, zqsO, if_pos, if_neg]
theorem mk_zFG {M : Nat → Nat} {g s t : Nat} {x : Nat} (h : M 2 < 12) (hg : g < 10) (hs : s < 4) (hx : x < 16) : zFG (zmk M g s t) x = zFG M x := by
  simp only [zmk, zD, zP, zW, zQ, zq, zC, zR, zV, zG, zS, zT, zFG, zFS, zFM] at * <;> simp (disch := omega) only [zu_eq, zu_ne, zcpI, zcpO, zqsI, zqsO, if_pos, if_neg]
theorem mk_zFS {M : Nat → Nat} {g s t : Nat} {x : Nat} (h : M 2 < 12) (hg : g < 10) (hs : s < 4) (hx : x < 16) : zFS (zmk M g s t) x = zFS M x := by
  simp only [zmk, zD, zP, zW, zQ, zq, zC, zR, zV, zG, zS, zT, zFG, zFS, zFM] at * <;> simp (disch := omega) only [zu_eq, zu_ne, zcpI, zcpO, zqsI, zqsO, if_pos, if_neg]
theorem mk_zFM {M : Nat → Nat} {g s t : Nat} {x : Nat} (h : M 2 < 12) (hg : g < 10) (hs : s < 4) (hx : x < 16) : zFM (zmk M g s t) x = zFM M x := by
  simp only [zmk, zD, zP, zW, zQ, zq, zC, zR, zV, zG, zS, zT, zFG, zFS, zFM] at * <;> simp (disch := omega) only [zu_eq, zu_ne, zcpI, zcpO, zqsI, zqsO, if_pos, if_neg]
theorem mk_2 {M : Nat → Nat} {g s t : Nat} (h : M 2 < 12) (hg : g < 10) (hs : s < 4)  : zmk M g s t 2 = M 2 + 1 := by
  simp only [zmk, zD, zP, zW, zQ, zq, zC, zR, zV, zG, zS, zT, zFG, zFS, zFM] at * <;> simp (disch := omega) only [zu_eq, zu_ne, zcpI, zcpO, zqsI, zqsO, if_pos, if_neg]
theorem mk_7 {M : Nat → Nat} {g s t : Nat} (h : M 2 < 12) (hg : g < 10) (hs : s < 4)  : zmk M g s t 7 = M 7 + zP M s := by
  simp only [zmk, zD, zP, zW, zQ, zq, zC, zR, zV, zG, zS, zT, zFG, zFS, zFM] at * <;> simp (disch := omega) only [zu_eq, zu_ne, zcpI, zcpO, zqsI, zqsO, if_pos, if_neg]
theorem mk_zCo {M : Nat → Nat} {g s t : Nat} (h : M 2 < 12) (hg : g < 10) (hs : s < 4) {x : Nat} (hx : x < 10) (hn : x ≠ g) : zC (zmk M g s t) x = zC M x := by
  simp only [zmk, zD, zP, zW, zQ, zq, zC, zR, zV, zG, zS, zT, zFG, zFS, zFM] at * <;> simp (disch := omega) only [zu_eq, zu_ne, zcpI, zcpO, zqsI, zqsO, if_pos, if_neg]
theorem mk_zCn {M : Nat → Nat} {g s t : Nat} (h : M 2 < 12) (hg : g < 10) (hs : s < 4)  : zC (zmk M g s t) g = zC M g - zP M s := by
  simp only [zmk, zD, zP, zW, zQ, zq, zC, zR, zV, zG, zS, zT, zFG, zFS, zFM] at * <;> simp (disch := omega) only [zu_eq, zu_ne, zcpI, zcpO, zqsI, zqsO, if_pos, if_neg]
theorem mk_zGo {M : Nat → Nat} {g s t : Nat} (h : M 2 < 12) (hg : g < 10) (hs : s < 4) {x : Nat} (hx : x < 12) (hn : x ≠ M 2) : zG (zmk M g s t) x = zG M x := by
  simp only [zmk, zD, zP, zW, zQ, zq, zC, zR, zV, zG, zS, zT, zFG, zFS, zFM] at * <;> simp (disch := omega) only [zu_eq, zu_ne, zcpI, zcpO, zqsI, zqsO, if_pos, if_neg]
theorem mk_zSo {M : Nat → Nat} {g s t : Nat} (h : M 2 < 12) (hg : g < 10) (hs : s < 4) {x : Nat} (hx : x < 12) (hn : x ≠ M 2) : zS (zmk M g s t) x = zS M x := by
  simp only [zmk, zD, zP, zW, zQ, zq, zC, zR, zV, zG, zS, zT, zFG, zFS, zFM] at * <;> simp (disch := omega) only [zu_eq, zu_ne, zcpI, zcpO, zqsI, zqsO, if_pos, if_neg]
theorem mk_zTo {M : Nat → Nat} {g s t : Nat} (h : M 2 < 12) (hg : g < 10) (hs : s < 4) {x : Nat} (hx : x < 12) (hn : x ≠ M 2) : zT (zmk M g s t) x = zT M x := by
  simp only [zmk, zD, zP, zW, zQ, zq, zC, zR, zV, zG, zS, zT, zFG, zFS, zFM] at * <;> simp (disch := omega) only [zu_eq, zu_ne, zcpI, zcpO, zqsI, zqsO, if_pos, if_neg]
theorem mk_zGn {M : Nat → Nat} {g s t : Nat} (h : M 2 < 12) (hg : g < 10) (hs : s < 4)  : zG (zmk M g s t) (M 2) = g := by
  simp only [zmk, zD, zP, zW, zQ, zq, zC, zR, zV, zG, zS, zT, zFG, zFS, zFM] at * <;> simp (disch := omega) only [zu_eq, zu_ne, zcpI, zcpO, zqsI, zqsO, if_pos, if_neg]
theorem mk_zSn {M : Nat → Nat} {g s t : Nat} (h : M 2 < 12) (hg : g < 10) (hs : s < 4)  : zS (zmk M g s t) (M 2) = s := by
  simp only [zmk, zD, zP, zW, zQ, zq, zC, zR, zV, zG, zS, zT, zFG, zFS, zFM] at * <;> simp (disch := omega) only [zu_eq, zu_ne, zcpI, zcpO, zqsI, zqsO, if_pos, if_neg]
theorem mk_zTn {M : Nat → Nat} {g s t : Nat} (h : M 2 < 12) (hg : g < 10) (hs : s < 4)  : zT (zmk M g s t) (M 2) = t := by
  simp only [zmk, zD, zP, zW, zQ, zq, zC, zR, zV, zG, zS, zT, zFG, zFS, zFM] at * <;> simp (disch := omega) only [zu_eq, zu_ne, zcpI, zcpO, zqsI, zqsO, if_pos, if_neg]
theorem cn_0 {M : Nat → Nat} {b : Nat} (h : M 2 ≤ 12) (hb : b < M 2) (hg : zG M b < 10) (hs : zS M b < 4) : zcn M b 0 = M 0 := by
  simp only [zcn, zD, zP, zW, zQ, zq, zC, zR, zV, zG, zS, zT, zFG, zFS, zFM] at * <;> simp (disch := omega) only [zu_eq, zu_ne, zcpI, zcpO, zqsI, zqsO, if_pos, if_neg]
theorem cn_1 {M : Nat → Nat} {b : Nat} (h : M 2 ≤ 12) (hb : b < M 2) (hg : zG M b < 10) (hs : zS M b < 4) : zcn M b 1 = M 1 := by
  simp only [zcn, zD, zP, zW, zQ, zq, zC, zR, zV, zG, zS, zT, zFG, zFS, zFM] at * <;> simp (disch := omega) only [zu_eq, zu_ne, zcpI, zcpO, zqsI, zqsO, if_pos, if_neg]
theorem cn_3 {M : Nat → Nat} {b : Nat} (h : M 2 ≤ 12) (hb : b < M 2) (hg : zG M b < 10) (hs : zS M b < 4) : zcn M b 3 = M 3 := by
  simp only [zcn, zD, zP, zW, zQ, zq, zC, zR, zV, zG, zS, zT, zFG, zFS, zFM] at * <;> simp (disch := omega) only [zu_eq, zu_ne, zcpI, zcpO, zqsI, zqsO, if_pos, if_neg]
theorem cn_4 {M : Nat → Nat} {b : Nat} (h : M 2 ≤ 12) (hb : b < M 2) (hg : zG M b < 10) (hs : zS M b < 4) : zcn M b 4 = M 4 := by
  simp only [zcn, zD, zP, zW, zQ, zq, zC, zR, zV, zG, zS, zT, zFG, zFS, zFM] at * <;> simp (disch := omega) only [zu_eq, zu_ne, zcpI, zcpO, zqsI, zqsO, if_pos, if_neg]
theorem cn_5 {M : Nat → Nat} {b : Nat} (h : M 2 ≤ 12) (hb : b < M 2) (hg : zG M b < 10) (hs : zS M b < 4) : zcn M b 5 = M 5 := by
  simp only [zcn, zD, zP, zW, zQ, zq, zC, zR, zV, zG, zS, zT, zFG, zFS, zFM] at * <;> simp (disch := omega) only [zu_eq, zu_ne, zcpI, zcpO, zqsI, zqsO, if_pos, if_neg]
theorem cn_zD {M : Nat → Nat} {b : Nat} {x : Nat} (h : M 2 ≤ 12) (hb : b < M 2) (hg : zG M b < 10) (hs : zS M b < 4) (hx : x < 4) : zD (zcn M b) x = zD M x := by
  simp only [zcn, zD, zP, zW, zQ, zq, zC, zR, zV, zG, zS, zT, zFG, zFS, zFM] at * <;> simp (disch := omega) only [zu_eq, zu_ne, zcpI, zcpO, zqsI, zqsO, if_pos, if_neg]
theorem cn_zP {M : Nat → Nat} {b : Nat} {x : Nat} (h : M 2 ≤ 12) (hb : b < M 2) (hg : zG M b < 10) (hs : zS M b < 4) (hx : x < 4) : zP (zcn M b) x = zP M x := by
  simp only [zcn, zD, zP, zW, zQ, zq, zC, zR, zV, zG, zS, zT, zFG, zFS, zFM] at * <;> simp (disch := omega) only [zu_eq, zu_ne, zcpI, zcpO, zqsI, zqsO, if_pos, if_neg]
theorem cn_zW {M : Nat → Nat} {b : Nat} {x : Nat} (h : M 2 ≤ 12) (hb : b < M 2) (hg : zG M b < 10) (hs : zS M b < 4) (hx : x < 4) : zW (zcn M b) x = zW M x := by
  simp only [zcn, zD, zP, zW, zQ, zq, zC, zR, zV, zG, zS, zT, zFG, zFS, zFM] at * <;> simp (disch := omega) only [zu_eq, zu_ne, zcpI, zcpO, zqsI, zqsO, if_pos, if_neg]
theorem cn_zQ {M : Nat → Nat} {b : Nat} {x : Nat} (h : M 2 ≤ 12) (hb : b < M 2) (hg : zG M b < 10) (hs : zS M b < 4) (hx : x < 4) : zQ (zcn M b) x = zQ M x := by
  simp only [zcn, zD, zP, zW, zQ, zq, zC, zR, zV, zG, zS, zT, zFG, zFS, zFM] at * <;> simp (disch := omega) only [zu_eq, zu_ne, zcpI, zcpO, zqsI, zqsO, if_pos, if_neg]
theorem cn_zq {M : Nat → Nat} {b : Nat} {x y : Nat} (h : M 2 ≤ 12) (hb : b < M 2) (hg : zG M b < 10) (hs : zS M b < 4) (hx : x < 4) (hy : y < 5) : zq (zcn M b) x y = zq M x y := by
  simp only [zcn, zD, zP, zW, zQ, zq, zC, zR, zV, zG, zS, zT, zFG, zFS, zFM] at * <;> simp (disch := omega) only [zu_eq, zu_ne, zcpI, zcpO, zqsI, zqsO, if_pos, if_neg]
theorem cn_zR {M : Nat → Nat} {b : Nat} {x : Nat} (h : M 2 ≤ 12) (hb : b < M 2) (hg : zG M b < 10) (hs : zS M b < 4) (hx : x < 10) : zR (zcn M b) x = zR M x := by
  simp only [zcn, zD, zP, zW, zQ, zq, zC, zR, zV, zG, zS, zT, zFG, zFS, zFM] at * <;> simp (disch := omega) only [zu_eq, zu_ne, zcpI, zcpO, zqsI, zqsO, if_pos, if_neg]
theorem cn_zV {M : Nat → Nat} {b : Nat} {x : Nat} (h : M 2 ≤ 12) (hb : b < M 2) (hg : zG M b < 10) (hs : zS M b < 4) (hx : x < 10) : zV (zcn M b) x = zV M x := by
  simp only [zcn, zD, zP, zW, zQ, zq, zC, zR, zV, zG, zS, zT, zFG, zFS, zFM] at * <;> simp (disch := omega) only [zu_eq, zu_ne, zcpI, zcpO, zqsI, zqsO, if_pos, if_neg]
theorem cn_zFG {M : Nat → Nat} {b : Nat} {x : Nat} (h : M 2 ≤ 12) (hb : b < M 2) (hg : zG M b < 10) (hs : zS M b < 4) (hx : x < 16) : zFG (zcn M b) x = zFG M x := by
  simp only [zcn, zD, zP, zW, zQ, zq, zC, zR, zV, zG, zS, zT, zFG, zFS, zFM] at * <;> simp (disch := omega) only [zu_eq, zu_ne, zcpI, zcpO, zqsI, zqsO, if_pos, if_neg]
theorem cn_zFS {M : Nat → Nat} {b : Nat} {x : Nat} (h : M 2 ≤ 12) (hb : b < M 2) (hg : zG M b < 10) (hs : zS M b < 4) (hx : x < 16) : zFS (zcn M b) x = zFS M x := by
  simp only [zcn, zD, zP, zW, zQ, zq, zC, zR, zV, zG, zS, zT, zFG, zFS, zFM] at * <;> simp (disch := omega) only [zu_eq, zu_ne, zcpI, zcpO, zqsI, zqsO, if_pos, if_neg]
theorem cn_zFM {M : Nat → Nat} {b : Nat} {x : Nat} (h : M 2 ≤ 12) (hb : b < M 2) (hg : zG M b < 10) (hs : zS M b < 4) (hx : x < 16) : zFM (zcn M b) x = zFM M x := by
  simp only [zcn, zD, zP, zW, zQ, zq, zC, zR, zV, zG, zS, zT, zFG, zFS, zFM] at * <;> simp (disch := omega) only [zu_eq, zu_ne, zcpI, zcpO, zqsI, zqsO, if_pos, if_neg]
theorem cn_2 {M : Nat → Nat} {b : Nat} (h : M 2 ≤ 12) (hb : b < M 2) (hg : zG M b < 10) (hs : zS M b < 4)  : zcn M b 2 = M 2 - 1 := by
  simp only [zcn, zD, zP, zW, zQ, zq, zC, zR, zV, zG, zS, zT, zFG, zFS, zFM] at * <;> simp (disch := omega) only [zu_eq, zu_ne, zcpI, zcpO, zqsI, zqsO, if_pos, if_neg]
theorem cn_6 {M : Nat → Nat} {b : Nat} (h : M 2 ≤ 12) (hb : b < M 2) (hg : zG M b < 10) (hs : zS M b < 4)  : zcn M b 6 = M 6 + zP M (zS M b) := by
  simp only [zcn, zD, zP, zW, zQ, zq, zC, zR, zV, zG, zS, zT, zFG, zFS, zFM] at * <;> simp (disch := omega) only [zu_eq, zu_ne, zcpI, zcpO, zqsI, zqsO, if_pos, if_neg]
theorem cn_7 {M : Nat → Nat} {b : Nat} (h : M 2 ≤ 12) (hb : b < M 2) (hg : zG M b < 10) (hs : zS M b < 4)  : zcn M b 7 = M 7 - zP M (zS M b) := by
  simp only [zcn, zD, zP, zW, zQ, zq, zC, zR, zV, zG, zS, zT, zFG, zFS, zFM] at * <;> simp (disch := omega) only [zu_eq, zu_ne, zcpI, zcpO, zqsI, zqsO, if_pos, if_neg]
theorem cn_zCo {M : Nat → Nat} {b : Nat} (h : M 2 ≤ 12) (hb : b < M 2) (hg : zG M b < 10) (hs : zS M b < 4) {x : Nat} (hx : x < 10) (hn : x ≠ zG M b) : zC (zcn M b) x = zC M x := by
  simp only [zcn, zD, zP, zW, zQ, zq, zC, zR, zV, zG, zS, zT, zFG, zFS, zFM] at * <;> simp (disch := omega) only [zu_eq, zu_ne, zcpI, zcpO, zqsI, zqsO, if_pos, if_neg]
theorem cn_zCn {M : Nat → Nat} {b : Nat} (h : M 2 ≤ 12) (hb : b < M 2) (hg : zG M b < 10) (hs : zS M b < 4)  : zC (zcn M b) (zG M b) = zC M (zG M b) + zP M (zS M b) := by
  simp only [zcn, zD, zP, zW, zQ, zq, zC, zR, zV, zG, zS, zT, zFG, zFS, zFM] at * <;> simp (disch := omega) only [zu_eq, zu_ne, zcpI, zcpO, zqsI, zqsO, if_pos, if_neg]
theorem cn_zGl {M : Nat → Nat} {b : Nat} (h : M 2 ≤ 12) (hb : b < M 2) (hg : zG M b < 10) (hs : zS M b < 4) {x : Nat} (hx : x < b) : zG (zcn M b) x = zG M x := by
  simp only [zcn, zD, zP, zW, zQ, zq, zC, zR, zV, zG, zS, zT, zFG, zFS, zFM] at * <;> simp (disch := omega) only [zu_eq, zu_ne, zcpI, zcpO, zqsI, zqsO, if_pos, if_neg]
theorem cn_zSl {M : Nat → Nat} {b : Nat} (h : M 2 ≤ 12) (hb : b < M 2) (hg : zG M b < 10) (hs : zS M b < 4) {x : Nat} (hx : x < b) : zS (zcn M b) x = zS M x := by
  simp only [zcn, zD, zP, zW, zQ, zq, zC, zR, zV, zG, zS, zT, zFG, zFS, zFM] at * <;> simp (disch := omega) only [zu_eq, zu_ne, zcpI, zcpO, zqsI, zqsO, if_pos, if_neg]
theorem cn_zTl {M : Nat → Nat} {b : Nat} (h : M 2 ≤ 12) (hb : b < M 2) (hg : zG M b < 10) (hs : zS M b < 4) {x : Nat} (hx : x < b) : zT (zcn M b) x = zT M x := by
  simp only [zcn, zD, zP, zW, zQ, zq, zC, zR, zV, zG, zS, zT, zFG, zFS, zFM] at * <;> simp (disch := omega) only [zu_eq, zu_ne, zcpI, zcpO, zqsI, zqsO, if_pos, if_neg]
theorem cn_zGh {M : Nat → Nat} {b : Nat} (h : M 2 ≤ 12) (hb : b < M 2) (hg : zG M b < 10) (hs : zS M b < 4) {x : Nat} (hx : b ≤ x) (hx2 : x + 1 < M 2) : zG (zcn M b) x = zG M (x + 1) := by
  simp only [zcn, zD, zP, zW, zQ, zq, zC, zR, zV, zG, zS, zT, zFG, zFS, zFM] at *
  simp (disch := omega) only [zu_eq, zu_ne, zcpI, zcpO, zqsI, zqsO, if_pos, if_neg]
  exact congrArg M (by omega)
theorem cn_zSh {M : Nat → Nat} {b : Nat} (h : M 2 ≤ 12) (hb : b < M 2) (hg : zG M b < 10) (hs : zS M b < 4) {x : Nat} (hx : b ≤ x) (hx2 : x + 1 < M 2) : zS (zcn M b) x = zS M (x + 1) := by
  simp only [zcn, zD, zP, zW, zQ, zq, zC, zR, zV, zG, zS, zT, zFG, zFS, zFM] at *
  simp (disch := omega) only [zu_eq, zu_ne, zcpI, zcpO, zqsI, zqsO, if_pos, if_neg]
  exact congrArg M (by omega)
theorem cn_zTh {M : Nat → Nat} {b : Nat} (h : M 2 ≤ 12) (hb : b < M 2) (hg : zG M b < 10) (hs : zS M b < 4) {x : Nat} (hx : b ≤ x) (hx2 : x + 1 < M 2) : zT (zcn M b) x = zT M (x + 1) := by
  simp only [zcn, zD, zP, zW, zQ, zq, zC, zR, zV, zG, zS, zT, zFG, zFS, zFM] at *
  simp (disch := omega) only [zu_eq, zu_ne, zcpI, zcpO, zqsI, zqsO, if_pos, if_neg]
  exact congrArg M (by omega)
theorem jn_0 {M : Nat → Nat} {g s : Nat} (hg : g < 10) (hs : s < 4) (hq : zQ M s < 5) : zjn M g s 0 = M 0 := by
  simp only [zjn, zD, zP, zW, zQ, zq, zC, zR, zV, zG, zS, zT, zFG, zFS, zFM] at * <;> simp (disch := omega) only [zu_eq, zu_ne, zcpI, zcpO, zqsI, zqsO, if_pos, if_neg]
theorem jn_1 {M : Nat → Nat} {g s : Nat} (hg : g < 10) (hs : s < 4) (hq : zQ M s < 5) : zjn M g s 1 = M 1 := by
  simp only [zjn, zD, zP, zW, zQ, zq, zC, zR, zV, zG, zS, zT, zFG, zFS, zFM] at * <;> simp (disch := omega) only [zu_eq, zu_ne, zcpI, zcpO, zqsI, zqsO, if_pos, if_neg]
theorem jn_2 {M : Nat → Nat} {g s : Nat} (hg : g < 10) (hs : s < 4) (hq : zQ M s < 5) : zjn M g s 2 = M 2 := by
  simp only [zjn, zD, zP, zW, zQ, zq, zC, zR, zV, zG, zS, zT, zFG, zFS, zFM] at * <;> simp (disch := omega) only [zu_eq, zu_ne, zcpI, zcpO, zqsI, zqsO, if_pos, if_neg]
theorem jn_3 {M : Nat → Nat} {g s : Nat} (hg : g < 10) (hs : s < 4) (hq : zQ M s < 5) : zjn M g s 3 = M 3 := by
  simp only [zjn, zD, zP, zW, zQ, zq, zC, zR, zV, zG, zS, zT, zFG, zFS, zFM] at * <;> simp (disch := omega) only [zu_eq, zu_ne, zcpI, zcpO, zqsI, zqsO, if_pos, if_neg]
theorem jn_4 {M : Nat → Nat} {g s : Nat} (hg : g < 10) (hs : s < 4) (hq : zQ M s < 5) : zjn M g s 4 = M 4 := by
  simp only [zjn, zD, zP, zW, zQ, zq, zC, zR, zV, zG, zS, zT, zFG, zFS, zFM] at * <;> simp (disch := omega) only [zu_eq, zu_ne, zcpI, zcpO, zqsI, zqsO, if_pos, if_neg]
theorem jn_5 {M : Nat → Nat} {g s : Nat} (hg : g < 10) (hs : s < 4) (hq : zQ M s < 5) : zjn M g s 5 = M 5 := by
  simp only [zjn, zD, zP, zW, zQ, zq, zC, zR, zV, zG, zS, zT, zFG, zFS, zFM] at * <;> simp (disch := omega) only [zu_eq, zu_ne, zcpI, zcpO, zqsI, zqsO, if_pos, if_neg]
theorem jn_6 {M : Nat → Nat} {g s : Nat} (hg : g < 10) (hs : s < 4) (hq : zQ M s < 5) : zjn M g s 6 = M 6 := by
  simp only [zjn, zD, zP, zW, zQ, zq, zC, zR, zV, zG, zS, zT, zFG, zFS, zFM] at * <;> simp (disch := omega) only [zu_eq, zu_ne, zcpI, zcpO, zqsI, zqsO, if_pos, if_neg]
theorem jn_7 {M : Nat → Nat} {g s : Nat} (hg : g < 10) (hs : s < 4) (hq : zQ M s < 5) : zjn M g s 7 = M 7 := by
  simp only [zjn, zD, zP, zW, zQ, zq, zC, zR, zV, zG, zS, zT, zFG, zFS, zFM] at * <;> simp (disch := omega) only [zu_eq, zu_ne, zcpI, zcpO, zqsI, zqsO, if_pos, if_neg]
theorem jn_zD {M : Nat → Nat} {g s : Nat} {x : Nat} (hg : g < 10) (hs : s < 4) (hq : zQ M s < 5) (hx : x < 4) : zD (zjn M g s) x = zD M x := by
  simp only [zjn, zD, zP, zW, zQ, zq, zC, zR, zV, zG, zS, zT, zFG, zFS, zFM] at * <;> simp (disch := omega) only [zu_eq, zu_ne, zcpI, zcpO, zqsI, zqsO, if_pos, if_neg]
theorem jn_zP {M : Nat → Nat} {g s : Nat} {x : Nat} (hg : g < 10) (hs : s < 4) (hq : zQ M s < 5) (hx : x < 4) : zP (zjn M g s) x = zP M x := by
  simp only [zjn, zD, zP, zW, zQ, zq, zC, zR, zV, zG, zS, zT, zFG, zFS, zFM] at * <;> simp (disch := omega) only [zu_eq, zu_ne, zcpI, zcpO, zqsI, zqsO, if_pos, if_neg]
theorem jn_zW {M : Nat → Nat} {g s : Nat} {x : Nat} (hg : g < 10) (hs : s < 4) (hq : zQ M s < 5) (hx : x < 4) : zW (zjn M g s) x = zW M x := by
  simp only [zjn, zD, zP, zW, zQ, zq, zC, zR, zV, zG, zS, zT, zFG, zFS, zFM] at * <;> simp (disch := omega) only [zu_eq, zu_ne, zcpI, zcpO, zqsI, zqsO, if_pos, if_neg]
theorem jn_zC {M : Nat → Nat} {g s : Nat} {x : Nat} (hg : g < 10) (hs : s < 4) (hq : zQ M s < 5) (hx : x < 10) : zC (zjn M g s) x = zC M x := by
  simp only [zjn, zD, zP, zW, zQ, zq, zC, zR, zV, zG, zS, zT, zFG, zFS, zFM] at * <;> simp (disch := omega) only [zu_eq, zu_ne, zcpI, zcpO, zqsI, zqsO, if_pos, if_neg]
theorem jn_zR {M : Nat → Nat} {g s : Nat} {x : Nat} (hg : g < 10) (hs : s < 4) (hq : zQ M s < 5) (hx : x < 10) : zR (zjn M g s) x = zR M x := by
  simp only [zjn, zD, zP, zW, zQ, zq, zC, zR, zV, zG, zS, zT, zFG, zFS, zFM] at * <;> simp (disch := omega) only [zu_eq, zu_ne, zcpI, zcpO, zqsI, zqsO, if_pos, if_neg]
theorem jn_zG {M : Nat → Nat} {g s : Nat} {x : Nat} (hg : g < 10) (hs : s < 4) (hq : zQ M s < 5) (hx : x < 12) : zG (zjn M g s) x = zG M x := by
  simp only [zjn, zD, zP, zW, zQ, zq, zC, zR, zV, zG, zS, zT, zFG, zFS, zFM] at * <;> simp (disch := omega) only [zu_eq, zu_ne, zcpI, zcpO, zqsI, zqsO, if_pos, if_neg]
theorem jn_zS {M : Nat → Nat} {g s : Nat} {x : Nat} (hg : g < 10) (hs : s < 4) (hq : zQ M s < 5) (hx : x < 12) : zS (zjn M g s) x = zS M x := by
  simp only [zjn, zD, zP, zW, zQ, zq, zC, zR, zV, zG, zS, zT, zFG, zFS, zFM] at * <;> simp (disch := omega) only [zu_eq, zu_ne, zcpI, zcpO, zqsI, zqsO, if_pos, if_neg]
theorem jn_zT {M : Nat → Nat} {g s : Nat} {x : Nat} (hg : g < 10) (hs : s < 4) (hq : zQ M s < 5) (hx : x < 12) : zT (zjn M g s) x = zT M x := by
  simp only [zjn, zD, zP, zW, zQ, zq, zC, zR, zV, zG, zS, zT, zFG, zFS, zFM] at * <;> simp (disch := omega) only [zu_eq, zu_ne, zcpI, zcpO, zqsI, zqsO, if_pos, if_neg]
theorem jn_zFG {M : Nat → Nat} {g s : Nat} {x : Nat} (hg : g < 10) (hs : s < 4) (hq : zQ M s < 5) (hx : x < 16) : zFG (zjn M g s) x = zFG M x := by
  simp only [zjn, zD, zP, zW, zQ, zq, zC, zR, zV, zG, zS, zT, zFG, zFS, zFM] at * <;> simp (disch := omega) only [zu_eq, zu_ne, zcpI, zcpO, zqsI, zqsO, if_pos, if_neg]
theorem jn_zFS {M : Nat → Nat} {g s : Nat} {x : Nat} (hg : g < 10) (hs : s < 4) (hq : zQ M s < 5) (hx : x < 16) : zFS (zjn M g s) x = zFS M x := by
  simp only [zjn, zD, zP, zW, zQ, zq, zC, zR, zV, zG, zS, zT, zFG, zFS, zFM] at * <;> simp (disch := omega) only [zu_eq, zu_ne, zcpI, zcpO, zqsI, zqsO, if_pos, if_neg]
theorem jn_zFM {M : Nat → Nat} {g s : Nat} {x : Nat} (hg : g < 10) (hs : s < 4) (hq : zQ M s < 5) (hx : x < 16) : zFM (zjn M g s) x = zFM M x := by
  simp only [zjn, zD, zP, zW, zQ, zq, zC, zR, zV, zG, zS, zT, zFG, zFS, zFM] at * <;> simp (disch := omega) only [zu_eq, zu_ne, zcpI, zcpO, zqsI, zqsO, if_pos, if_neg]
theorem jn_zQo {M : Nat → Nat} {g s : Nat} (hg : g < 10) (hs : s < 4) (hq : zQ M s < 5) {x : Nat} (hx : x < 4) (hn : x ≠ s) : zQ (zjn M g s) x = zQ M x := by
  simp only [zjn, zD, zP, zW, zQ, zq, zC, zR, zV, zG, zS, zT, zFG, zFS, zFM] at * <;> simp (disch := omega) only [zu_eq, zu_ne, zcpI, zcpO, zqsI, zqsO, if_pos, if_neg]
theorem jn_zQn {M : Nat → Nat} {g s : Nat} (hg : g < 10) (hs : s < 4) (hq : zQ M s < 5)  : zQ (zjn M g s) s = zQ M s + 1 := by
  simp only [zjn, zD, zP, zW, zQ, zq, zC, zR, zV, zG, zS, zT, zFG, zFS, zFM] at * <;> simp (disch := omega) only [zu_eq, zu_ne, zcpI, zcpO, zqsI, zqsO, if_pos, if_neg]
theorem jn_zqo {M : Nat → Nat} {g s : Nat} (hg : g < 10) (hs : s < 4) (hq : zQ M s < 5) {x y : Nat} (hx : x < 4) (hy : y < 5) (hn : x ≠ s ∨ y ≠ zQ M s) : zq (zjn M g s) x y = zq M x y := by
  simp only [zjn, zD, zP, zW, zQ, zq, zC, zR, zV, zG, zS, zT, zFG, zFS, zFM] at * <;> simp (disch := omega) only [zu_eq, zu_ne, zcpI, zcpO, zqsI, zqsO, if_pos, if_neg]
theorem jn_zqn {M : Nat → Nat} {g s : Nat} (hg : g < 10) (hs : s < 4) (hq : zQ M s < 5)  : zq (zjn M g s) s (zQ M s) = g := by
  simp only [zjn, zD, zP, zW, zQ, zq, zC, zR, zV, zG, zS, zT, zFG, zFS, zFM] at * <;> simp (disch := omega) only [zu_eq, zu_ne, zcpI, zcpO, zqsI, zqsO, if_pos, if_neg]
theorem jn_zVo {M : Nat → Nat} {g s : Nat} (hg : g < 10) (hs : s < 4) (hq : zQ M s < 5) {x : Nat} (hx : x < 10) (hn : x ≠ g) : zV (zjn M g s) x = zV M x := by
  simp only [zjn, zD, zP, zW, zQ, zq, zC, zR, zV, zG, zS, zT, zFG, zFS, zFM] at * <;> simp (disch := omega) only [zu_eq, zu_ne, zcpI, zcpO, zqsI, zqsO, if_pos, if_neg]
theorem jn_zVn {M : Nat → Nat} {g s : Nat} (hg : g < 10) (hs : s < 4) (hq : zQ M s < 5)  : zV (zjn M g s) g = s + 1 := by
  simp only [zjn, zD, zP, zW, zQ, zq, zC, zR, zV, zG, zS, zT, zFG, zFS, zFM] at * <;> simp (disch := omega) only [zu_eq, zu_ne, zcpI, zcpO, zqsI, zqsO, if_pos, if_neg]
theorem qv_0 {M : Nat → Nat} {s p g : Nat} (hg : g < 10) (hs : s < 4) (hq : zQ M s ≤ 5) (hp : p < zQ M s) : zlv M s p g 0 = M 0 := by
  simp only [zlv, zD, zP, zW, zQ, zq, zC, zR, zV, zG, zS, zT, zFG, zFS, zFM] at * <;> simp (disch := omega) only [zu_eq, zu_ne, zcpI, zcpO, zqsI, zqsO, if_pos, if_neg]
theorem qv_1 {M : Nat → Nat} {s p g : Nat} (hg : g < 10) (hs : s < 4) (hq : zQ M s ≤ 5) (hp : p < zQ M s) : zlv M s p g 1 = M 1 := by
  simp only [zlv, zD, zP, zW, zQ, zq, zC, zR, zV, zG, zS, zT, zFG, zFS, zFM] at * <;> simp (disch := omega) only [zu_eq, zu_ne, zcpI, zcpO, zqsI, zqsO, if_pos, if_neg]
theorem qv_2 {M : Nat → Nat} {s p g : Nat} (hg : g < 10) (hs : s < 4) (hq : zQ M s ≤ 5) (hp : p < zQ M s) : zlv M s p g 2 = M 2 := by
  simp only [zlv, zD, zP, zW, zQ, zq, zC, zR, zV, zG, zS, zT, zFG, zFS, zFM] at * <;> simp (disch := omega) only [zu_eq, zu_ne, zcpI, zcpO, zqsI, zqsO, if_pos, if_neg]
theorem qv_3 {M : Nat → Nat} {s p g : Nat} (hg : g < 10) (hs : s < 4) (hq : zQ M s ≤ 5) (hp : p < zQ M s) : zlv M s p g 3 = M 3 := by
  simp only [zlv, zD, zP, zW, zQ, zq, zC, zR, zV, zG, zS, zT, zFG, zFS, zFM] at * <;> simp (disch := omega) only [zu_eq, zu_ne, zcpI, zcpO, zqsI, zqsO, if_pos, if_neg]
theorem qv_4 {M : Nat → Nat} {s p g : Nat} (hg : g < 10) (hs : s < 4) (hq : zQ M s ≤ 5) (hp : p < zQ M s) : zlv M s p g 4 = M 4 := by
  simp only [zlv, zD, zP, zW, zQ, zq, zC, zR, zV, zG, zS, zT, zFG, zFS, zFM] at * <;> simp (disch := omega) only [zu_eq, zu_ne, zcpI, zcpO, zqsI, zqsO, if_pos, if_neg]
theorem qv_5 {M : Nat → Nat} {s p g : Nat} (hg : g < 10) (hs : s < 4) (hq : zQ M s ≤ 5) (hp : p < zQ M s) : zlv M s p g 5 = M 5 := by
  simp only [zlv, zD, zP, zW, zQ, zq, zC, zR, zV, zG, zS, zT, zFG, zFS, zFM] at * <;> simp (disch := omega) only [zu_eq, zu_ne, zcpI, zcpO, zqsI, zqsO, if_pos, if_neg]
theorem qv_6 {M : Nat → Nat} {s p g : Nat} (hg : g < 10) (hs : s < 4) (hq : zQ M s ≤ 5) (hp : p < zQ M s) : zlv M s p g 6 = M 6 := by
  simp only [zlv, zD, zP, zW, zQ, zq, zC, zR, zV, zG, zS, zT, zFG, zFS, zFM] at * <;> simp (disch := omega) only [zu_eq, zu_ne, zcpI, zcpO, zqsI, zqsO, if_pos, if_neg]
theorem qv_7 {M : Nat → Nat} {s p g : Nat} (hg : g < 10) (hs : s < 4) (hq : zQ M s ≤ 5) (hp : p < zQ M s) : zlv M s p g 7 = M 7 := by
  simp only [zlv, zD, zP, zW, zQ, zq, zC, zR, zV, zG, zS, zT, zFG, zFS, zFM] at * <;> simp (disch := omega) only [zu_eq, zu_ne, zcpI, zcpO, zqsI, zqsO, if_pos, if_neg]
theorem qv_zD {M : Nat → Nat} {s p g : Nat} {x : Nat} (hg : g < 10) (hs : s < 4) (hq : zQ M s ≤ 5) (hp : p < zQ M s) (hx : x < 4) : zD (zlv M s p g) x = zD M x := by
  simp only [zlv, zD, zP, zW, zQ, zq, zC, zR, zV, zG, zS, zT, zFG, zFS, zFM] at * <;> simp (disch := omega) only [zu_eq, zu_ne, zcpI, zcpO, zqsI, zqsO, if_pos, if_neg]
theorem qv_zP {M : Nat → Nat} {s p g : Nat} {x : Nat} (hg : g < 10) (hs : s < 4) (hq : zQ M s ≤ 5) (hp : p < zQ M s) (hx : x < 4) : zP (zlv M s p g) x = zP M x := by
  simp only [zlv, zD, zP, zW, zQ, zq, zC, zR, zV, zG, zS, zT, zFG, zFS, zFM] at * <;> simp (disch := omega) only [zu_eq, zu_ne, zcpI, zcpO, zqsI, zqsO, if_pos, if_neg]
theorem qv_zW {M : Nat → Nat} {s p g : Nat} {x : Nat} (hg : g < 10) (hs : s < 4) (hq : zQ M s ≤ 5) (hp : p < zQ M s) (hx : x < 4) : zW (zlv M s p g) x = zW M x := by
  simp only [zlv, zD, zP, zW, zQ, zq, zC, zR, zV, zG, zS, zT, zFG, zFS, zFM] at * <;> simp (disch := omega) only [zu_eq, zu_ne, zcpI, zcpO, zqsI, zqsO, if_pos, if_neg]
theorem qv_zC {M : Nat → Nat} {s p g : Nat} {x : Nat} (hg : g < 10) (hs : s < 4) (hq : zQ M s ≤ 5) (hp : p < zQ M s) (hx : x < 10) : zC (zlv M s p g) x = zC M x := by
  simp only [zlv, zD, zP, zW, zQ, zq, zC, zR, zV, zG, zS, zT, zFG, zFS, zFM] at * <;> simp (disch := omega) only [zu_eq, zu_ne, zcpI, zcpO, zqsI, zqsO, if_pos, if_neg]
theorem qv_zR {M : Nat → Nat} {s p g : Nat} {x : Nat} (hg : g < 10) (hs : s < 4) (hq : zQ M s ≤ 5) (hp : p < zQ M s) (hx : x < 10) : zR (zlv M s p g) x = zR M x := by
  simp only [zlv, zD, zP, zW, zQ, zq, zC, zR, zV, zG, zS, zT, zFG, zFS, zFM] at * <;> simp (disch := omega) only [zu_eq, zu_ne, zcpI, zcpO, zqsI, zqsO, if_pos, if_neg]
theorem qv_zG {M : Nat → Nat} {s p g : Nat} {x : Nat} (hg : g < 10) (hs : s < 4) (hq : zQ M s ≤ 5) (hp : p < zQ M s) (hx : x < 12) : zG (zlv M s p g) x = zG M x := by
  simp only [zlv, zD, zP, zW, zQ, zq, zC, zR, zV, zG, zS, zT, zFG, zFS, zFM] at * <;> simp (disch := omega) only [zu_eq, zu_ne, zcpI, zcpO, zqsI, zqsO, if_pos, if_neg]
theorem qv_zS {M : Nat → Nat} {s p g : Nat} {x : Nat} (hg : g < 10) (hs : s < 4) (hq : zQ M s ≤ 5) (hp : p < zQ M s) (hx : x < 12) : zS (zlv M s p g) x = zS M x := by
  simp only [zlv, zD, zP, zW, zQ, zq, zC, zR, zV, zG, zS, zT, zFG, zFS, zFM] at * <;> simp (disch := omega) only [zu_eq, zu_ne, zcpI, zcpO, zqsI, zqsO, if_pos, if_neg]
theorem qv_zT {M : Nat → Nat} {s p g : Nat} {x : Nat} (hg : g < 10) (hs : s < 4) (hq : zQ M s ≤ 5) (hp : p < zQ M s) (hx : x < 12) : zT (zlv M s p g) x = zT M x := by
  simp only [zlv, zD, zP, zW, zQ, zq, zC, zR, zV, zG, zS, zT, zFG, zFS, zFM] at * <;> simp (disch := omega) only [zu_eq, zu_ne, zcpI, zcpO, zqsI, zqsO, if_pos, if_neg]
theorem qv_zFG {M : Nat → Nat} {s p g : Nat} {x : Nat} (hg : g < 10) (hs : s < 4) (hq : zQ M s ≤ 5) (hp : p < zQ M s) (hx : x < 16) : zFG (zlv M s p g) x = zFG M x := by
  simp only [zlv, zD, zP, zW, zQ, zq, zC, zR, zV, zG, zS, zT, zFG, zFS, zFM] at * <;> simp (disch := omega) only [zu_eq, zu_ne, zcpI, zcpO, zqsI, zqsO, if_pos, if_neg]
theorem qv_zFS {M : Nat → Nat} {s p g : Nat} {x : Nat} (hg : g < 10) (hs : s < 4) (hq : zQ M s ≤ 5) (hp : p < zQ M s) (hx : x < 16) : zFS (zlv M s p g) x = zFS M x := by
  simp only [zlv, zD, zP, zW, zQ, zq, zC, zR, zV, zG, zS, zT, zFG, zFS, zFM] at * <;> simp (disch := omega) only [zu_eq, zu_ne, zcpI, zcpO, zqsI, zqsO, if_pos, if_neg]
theorem qv_zFM {M : Nat → Nat} {s p g : Nat} {x : Nat} (hg : g < 10) (hs : s < 4) (hq : zQ M s ≤ 5) (hp : p < zQ M s) (hx : x < 16) : zFM (zlv M s p g) x = zFM M x := by
  simp only [zlv, zD, zP, zW, zQ, zq, zC, zR, zV, zG, zS, zT, zFG, zFS, zFM] at * <;> simp (disch := omega) only [zu_eq, zu_ne, zcpI, zcpO, zqsI, zqsO, if_pos, if_neg]
theorem qv_zQo {M : Nat → Nat} {s p g : Nat} (hg : g < 10) (hs : s < 4) (hq : zQ M s ≤ 5) (hp : p < zQ M s) {x : Nat} (hx : x < 4) (hn : x ≠ s) : zQ (zlv M s p g) x = zQ M x := by
  simp only [zlv, zD, zP, zW, zQ, zq, zC, zR, zV, zG, zS, zT, zFG, zFS, zFM] at * <;> simp (disch := omega) only [zu_eq, zu_ne, zcpI, zcpO, zqsI, zqsO, if_pos, if_neg]
theorem qv_zQn {M : Nat → Nat} {s p g : Nat} (hg : g < 10) (hs : s < 4) (hq : zQ M s ≤ 5) (hp : p < zQ M s)  : zQ (zlv M s p g) s = zQ M s - 1 := by
  simp only [zlv, zD, zP, zW, zQ, zq, zC, zR, zV, zG, zS, zT, zFG, zFS, zFM] at * <;> simp (disch := omega) only [zu_eq, zu_ne, zcpI, zcpO, zqsI, zqsO, if_pos, if_neg]
theorem qv_zqo {M : Nat → Nat} {s p g : Nat} (hg : g < 10) (hs : s < 4) (hq : zQ M s ≤ 5) (hp : p < zQ M s) {x y : Nat} (hx : x < 4) (hy : y < 5) (hn : x ≠ s ∨ y < p ∨ zQ M s ≤ y + 1) : zq (zlv M s p g) x y = zq M x y := by
  simp only [zlv, zD, zP, zW, zQ, zq, zC, zR, zV, zG, zS, zT, zFG, zFS, zFM] at * <;> simp (disch := omega) only [zu_eq, zu_ne, zcpI, zcpO, zqsI, zqsO, if_pos, if_neg]
theorem qv_zVo {M : Nat → Nat} {s p g : Nat} (hg : g < 10) (hs : s < 4) (hq : zQ M s ≤ 5) (hp : p < zQ M s) {x : Nat} (hx : x < 10) (hn : x ≠ g) : zV (zlv M s p g) x = zV M x := by
  simp only [zlv, zD, zP, zW, zQ, zq, zC, zR, zV, zG, zS, zT, zFG, zFS, zFM] at * <;> simp (disch := omega) only [zu_eq, zu_ne, zcpI, zcpO, zqsI, zqsO, if_pos, if_neg]
theorem qv_zVn {M : Nat → Nat} {s p g : Nat} (hg : g < 10) (hs : s < 4) (hq : zQ M s ≤ 5) (hp : p < zQ M s)  : zV (zlv M s p g) g = 0 := by
  simp only [zlv, zD, zP, zW, zQ, zq, zC, zR, zV, zG, zS, zT, zFG, zFS, zFM] at * <;> simp (disch := omega) only [zu_eq, zu_ne, zcpI, zcpO, zqsI, zqsO, if_pos, if_neg]
theorem qv_zqh {M : Nat → Nat} {s p g : Nat} (hg : g < 10) (hs : s < 4) (hq : zQ M s ≤ 5) (hp : p < zQ M s) {y : Nat} (h1 : p ≤ y) (h2 : y + 1 < zQ M s) : zq (zlv M s p g) s y = zq M s (y + 1) := by
  simp only [zlv, zq, zQ] at *
  simp (disch := omega) only [zu_eq, zu_ne, zqsI, zqsO, if_pos, if_neg]
  exact congrArg M (by omega)
theorem dy_0 {M : Nat → Nat} {s w : Nat} (hs : s < 4) : zdy M s w 0 = M 0 := by
  simp only [zdy, zD, zP, zW, zQ, zq, zC, zR, zV, zG, zS, zT, zFG, zFS, zFM] at * <;> simp (disch := omega) only [zu_eq, zu_ne, zcpI, zcpO, zqsI, zqsO, if_pos, if_neg]
theorem dy_1 {M : Nat → Nat} {s w : Nat} (hs : s < 4) : zdy M s w 1 = M 1 := by
  simp only [zdy, zD, zP, zW, zQ, zq, zC, zR, zV, zG, zS, zT, zFG, zFS, zFM] at * <;> simp (disch := omega) only [zu_eq, zu_ne, zcpI, zcpO, zqsI, zqsO, if_pos, if_neg]
theorem dy_2 {M : Nat → Nat} {s w : Nat} (hs : s < 4) : zdy M s w 2 = M 2 := by
  simp only [zdy, zD, zP, zW, zQ, zq, zC, zR, zV, zG, zS, zT, zFG, zFS, zFM] at * <;> simp (disch := omega) only [zu_eq, zu_ne, zcpI, zcpO, zqsI, zqsO, if_pos, if_neg]
theorem dy_3 {M : Nat → Nat} {s w : Nat} (hs : s < 4) : zdy M s w 3 = M 3 := by
  simp only [zdy, zD, zP, zW, zQ, zq, zC, zR, zV, zG, zS, zT, zFG, zFS, zFM] at * <;> simp (disch := omega) only [zu_eq, zu_ne, zcpI, zcpO, zqsI, zqsO, if_pos, if_neg]
theorem dy_4 {M : Nat → Nat} {s w : Nat} (hs : s < 4) : zdy M s w 4 = M 4 := by
  simp only [zdy, zD, zP, zW, zQ, zq, zC, zR, zV, zG, zS, zT, zFG, zFS, zFM] at * <;> simp (disch := omega) only [zu_eq, zu_ne, zcpI, zcpO, zqsI, zqsO, if_pos, if_neg]
theorem dy_5 {M : Nat → Nat} {s w : Nat} (hs : s < 4) : zdy M s w 5 = M 5 := by
  simp only [zdy, zD, zP, zW, zQ, zq, zC, zR, zV, zG, zS, zT, zFG, zFS, zFM] at * <;> simp (disch := omega) only [zu_eq, zu_ne, zcpI, zcpO, zqsI, zqsO, if_pos, if_neg]
theorem dy_6 {M : Nat → Nat} {s w : Nat} (hs : s < 4) : zdy M s w 6 = M 6 := by
  simp only [zdy, zD, zP, zW, zQ, zq, zC, zR, zV, zG, zS, zT, zFG, zFS, zFM] at * <;> simp (disch := omega) only [zu_eq, zu_ne, zcpI, zcpO, zqsI, zqsO, if_pos, if_neg]
theorem dy_7 {M : Nat → Nat} {s w : Nat} (hs : s < 4) : zdy M s w 7 = M 7 := by
  simp only [zdy, zD, zP, zW, zQ, zq, zC, zR, zV, zG, zS, zT, zFG, zFS, zFM] at * <;> simp (disch := omega) only [zu_eq, zu_ne, zcpI, zcpO, zqsI, zqsO, if_pos, if_neg]
theorem dy_zD {M : Nat → Nat} {s w : Nat} {x : Nat} (hs : s < 4) (hx : x < 4) : zD (zdy M s w) x = zD M x := by
  simp only [zdy, zD, zP, zW, zQ, zq, zC, zR, zV, zG, zS, zT, zFG, zFS, zFM] at * <;> simp (disch := omega) only [zu_eq, zu_ne, zcpI, zcpO, zqsI, zqsO, if_pos, if_neg]
theorem dy_zP {M : Nat → Nat} {s w : Nat} {x : Nat} (hs : s < 4) (hx : x < 4) : zP (zdy M s w) x = zP M x := by
  simp only [zdy, zD, zP, zW, zQ, zq, zC, zR, zV, zG, zS, zT, zFG, zFS, zFM] at * <;> simp (disch := omega) only [zu_eq, zu_ne, zcpI, zcpO, zqsI, zqsO, if_pos, if_neg]
theorem dy_zQ {M : Nat → Nat} {s w : Nat} {x : Nat} (hs : s < 4) (hx : x < 4) : zQ (zdy M s w) x = zQ M x := by
  simp only [zdy, zD, zP, zW, zQ, zq, zC, zR, zV, zG, zS, zT, zFG, zFS, zFM] at * <;> simp (disch := omega) only [zu_eq, zu_ne, zcpI, zcpO, zqsI, zqsO, if_pos, if_neg]
theorem dy_zq {M : Nat → Nat} {s w : Nat} {x y : Nat} (hs : s < 4) (hx : x < 4) (hy : y < 5) : zq (zdy M s w) x y = zq M x y := by
  simp only [zdy, zD, zP, zW, zQ, zq, zC, zR, zV, zG, zS, zT, zFG, zFS, zFM] at * <;> simp (disch := omega) only [zu_eq, zu_ne, zcpI, zcpO, zqsI, zqsO, if_pos, if_neg]
theorem dy_zC {M : Nat → Nat} {s w : Nat} {x : Nat} (hs : s < 4) (hx : x < 10) : zC (zdy M s w) x = zC M x := by
  simp only [zdy, zD, zP, zW, zQ, zq, zC, zR, zV, zG, zS, zT, zFG, zFS, zFM] at * <;> simp (disch := omega) only [zu_eq, zu_ne, zcpI, zcpO, zqsI, zqsO, if_pos, if_neg]
theorem dy_zR {M : Nat → Nat} {s w : Nat} {x : Nat} (hs : s < 4) (hx : x < 10) : zR (zdy M s w) x = zR M x := by
  simp only [zdy, zD, zP, zW, zQ, zq, zC, zR, zV, zG, zS, zT, zFG, zFS, zFM] at * <;> simp (disch := omega) only [zu_eq, zu_ne, zcpI, zcpO, zqsI, zqsO, if_pos, if_neg]
theorem dy_zV {M : Nat → Nat} {s w : Nat} {x : Nat} (hs : s < 4) (hx : x < 10) : zV (zdy M s w) x = zV M x := by
  simp only [zdy, zD, zP, zW, zQ, zq, zC, zR, zV, zG, zS, zT, zFG, zFS, zFM] at * <;> simp (disch := omega) only [zu_eq, zu_ne, zcpI, zcpO, zqsI, zqsO, if_pos, if_neg]
theorem dy_zG {M : Nat → Nat} {s w : Nat} {x : Nat} (hs : s < 4) (hx : x < 12) : zG (zdy M s w) x = zG M x := by
  simp only [zdy, zD, zP, zW, zQ, zq, zC, zR, zV, zG, zS, zT, zFG, zFS, zFM] at * <;> simp (disch := omega) only [zu_eq, zu_ne, zcpI, zcpO, zqsI, zqsO, if_pos, if_neg]
theorem dy_zS {M : Nat → Nat} {s w : Nat} {x : Nat} (hs : s < 4) (hx : x < 12) : zS (zdy M s w) x = zS M x := by
  simp only [zdy, zD, zP, zW, zQ, zq, zC, zR, zV, zG, zS, zT, zFG, zFS, zFM] at * <;> simp (disch := omega) only [zu_eq, zu_ne, zcpI, zcpO, zqsI, zqsO, if_pos, if_neg]
theorem dy_zT {M : Nat → Nat} {s w : Nat} {x : Nat} (hs : s < 4) (hx : x < 12) : zT (zdy M s w) x = zT M x := by
  simp only [zdy, zD, zP, zW, zQ, zq, zC, zR, zV, zG, zS, zT, zFG, zFS, zFM] at * <;> simp (disch := omega) only [zu_eq, zu_ne, zcpI, zcpO, zqsI, zqsO, if_pos, if_neg]
theorem dy_zFG {M : Nat → Nat} {s w : Nat} {x : Nat} (hs : s < 4) (hx : x < 16) : zFG (zdy M s w) x = zFG M x := by
  simp only [zdy, zD, zP, zW, zQ, zq, zC, zR, zV, zG, zS, zT, zFG, zFS, zFM] at * <;> simp (disch := omega) only [zu_eq, zu_ne, zcpI, zcpO, zqsI, zqsO, if_pos, if_neg]
theorem dy_zFS {M : Nat → Nat} {s w : Nat} {x : Nat} (hs : s < 4) (hx : x < 16) : zFS (zdy M s w) x = zFS M x := by
  simp only [zdy, zD, zP, zW, zQ, zq, zC, zR, zV, zG, zS, zT, zFG, zFS, zFM] at * <;> simp (disch := omega) only [zu_eq, zu_ne, zcpI, zcpO, zqsI, zqsO, if_pos, if_neg]
theorem dy_zFM {M : Nat → Nat} {s w : Nat} {x : Nat} (hs : s < 4) (hx : x < 16) : zFM (zdy M s w) x = zFM M x := by
  simp only [zdy, zD, zP, zW, zQ, zq, zC, zR, zV, zG, zS, zT, zFG, zFS, zFM] at * <;> simp (disch := omega) only [zu_eq, zu_ne, zcpI, zcpO, zqsI, zqsO, if_pos, if_neg]
theorem dy_zWo {M : Nat → Nat} {s w : Nat} (hs : s < 4) {x : Nat} (hx : x < 4) (hn : x ≠ s) : zW (zdy M s w) x = zW M x := by
  simp only [zdy, zD, zP, zW, zQ, zq, zC, zR, zV, zG, zS, zT, zFG, zFS, zFM] at * <;> simp (disch := omega) only [zu_eq, zu_ne, zcpI, zcpO, zqsI, zqsO, if_pos, if_neg]
theorem dy_zWn {M : Nat → Nat} {s w : Nat} (hs : s < 4)  : zW (zdy M s w) s = w := by
  simp only [zdy, zD, zP, zW, zQ, zq, zC, zR, zV, zG, zS, zT, zFG, zFS, zFM] at * <;> simp (disch := omega) only [zu_eq, zu_ne, zcpI, zcpO, zqsI, zqsO, if_pos, if_neg]
theorem tk_0 {M : Nat → Nat}   : ztk M 0 = M 0 := by
  simp only [ztk, zD, zP, zW, zQ, zq, zC, zR, zV, zG, zS, zT, zFG, zFS, zFM] at * <;> simp (disch := omega) only [zu_eq, zu_ne, zcpI, zcpO, zqsI, zqsO, if_pos, if_neg]
theorem tk_1 {M : Nat → Nat}   : ztk M 1 = M 1 := by
  simp only [ztk, zD, zP, zW, zQ, zq, zC, zR, zV, zG, zS, zT, zFG, zFS, zFM] at * <;> simp (disch := omega) only [zu_eq, zu_ne, zcpI, zcpO, zqsI, zqsO, if_pos, if_neg]
theorem tk_2 {M : Nat → Nat}   : ztk M 2 = M 2 := by
  simp only [ztk, zD, zP, zW, zQ, zq, zC, zR, zV, zG, zS, zT, zFG, zFS, zFM] at * <;> simp (disch := omega) only [zu_eq, zu_ne, zcpI, zcpO, zqsI, zqsO, if_pos, if_neg]
theorem tk_4 {M : Nat → Nat}   : ztk M 4 = M 4 := by
  simp only [ztk, zD, zP, zW, zQ, zq, zC, zR, zV, zG, zS, zT, zFG, zFS, zFM] at * <;> simp (disch := omega) only [zu_eq, zu_ne, zcpI, zcpO, zqsI, zqsO, if_pos, if_neg]
theorem tk_5 {M : Nat → Nat}   : ztk M 5 = M 5 := by
  simp only [ztk, zD, zP, zW, zQ, zq, zC, zR, zV, zG, zS, zT, zFG, zFS, zFM] at * <;> simp (disch := omega) only [zu_eq, zu_ne, zcpI, zcpO, zqsI, zqsO, if_pos, if_neg]
theorem tk_6 {M : Nat → Nat}   : ztk M 6 = M 6 := by
  simp only [ztk, zD, zP, zW, zQ, zq, zC, zR, zV, zG, zS, zT, zFG, zFS, zFM] at * <;> simp (disch := omega) only [zu_eq, zu_ne, zcpI, zcpO, zqsI, zqsO, if_pos, if_neg]
theorem tk_7 {M : Nat → Nat}   : ztk M 7 = M 7 := by
  simp only [ztk, zD, zP, zW, zQ, zq, zC, zR, zV, zG, zS, zT, zFG, zFS, zFM] at * <;> simp (disch := omega) only [zu_eq, zu_ne, zcpI, zcpO, zqsI, zqsO, if_pos, if_neg]
theorem tk_zD {M : Nat → Nat}  {x : Nat}  (hx : x < 4) : zD (ztk M) x = zD M x := by
  simp only [ztk, zD, zP, zW, zQ, zq, zC, zR, zV, zG, zS, zT, zFG, zFS, zFM] at * <;> simp (disch := omega) only [zu_eq, zu_ne, zcpI, zcpO, zqsI, zqsO, if_pos, if_neg]
theorem tk_zP {M : Nat → Nat}  {x : Nat}  (hx : x < 4) : zP (ztk M) x = zP M x := by
  simp only [ztk, zD, zP, zW, zQ, zq, zC, zR, zV, zG, zS, zT, zFG, zFS, zFM] at * <;> simp (disch := omega) only [zu_eq, zu_ne, zcpI, zcpO, zqsI, zqsO, if_pos, if_neg]
theorem tk_zW {M : Nat → Nat}  {x : Nat}  (hx : x < 4) : zW (ztk M) x = zW M x := by
  simp only [ztk, zD, zP, zW, zQ, zq, zC, zR, zV, zG, zS, zT, zFG, zFS, zFM] at * <;> simp (disch := omega) only [zu_eq, zu_ne, zcpI, zcpO, zqsI, zqsO, if_pos, if_neg]
theorem tk_zQ {M : Nat → Nat}  {x : Nat}  (hx : x < 4) : zQ (ztk M) x = zQ M x := by
  simp only [ztk, zD, zP, zW, zQ, zq, zC, zR, zV, zG, zS, zT, zFG, zFS, zFM] at * <;> simp (disch := omega) only [zu_eq, zu_ne, zcpI, zcpO, zqsI, zqsO, if_pos, if_neg]
theorem tk_zq {M : Nat → Nat}  {x y : Nat}  (hx : x < 4) (hy : y < 5) : zq (ztk M) x y = zq M x y := by
  simp only [ztk, zD, zP, zW, zQ, zq, zC, zR, zV, zG, zS, zT, zFG, zFS, zFM] at * <;> simp (disch := omega) only [zu_eq, zu_ne, zcpI, zcpO, zqsI, zqsO, if_pos, if_neg]
theorem tk_zC {M : Nat → Nat}  {x : Nat}  (hx : x < 10) : zC (ztk M) x = zC M x := by
  simp only [ztk, zD, zP, zW, zQ, zq, zC, zR, zV, zG, zS, zT, zFG, zFS, zFM] at * <;> simp (disch := omega) only [zu_eq, zu_ne, zcpI, zcpO, zqsI, zqsO, if_pos, if_neg]
theorem tk_zR {M : Nat → Nat}  {x : Nat}  (hx : x < 10) : zR (ztk M) x = zR M x := by
  simp only [ztk, zD, zP, zW, zQ, zq, zC, zR, zV, zG, zS, zT, zFG, zFS, zFM] at * <;> simp (disch := omega) only [zu_eq, zu_ne, zcpI, zcpO, zqsI, zqsO, if_pos, if_neg]
theorem tk_zV {M : Nat → Nat}  {x : Nat}  (hx : x < 10) : zV (ztk M) x = zV M x := by
  simp only [ztk, zD, zP, zW, zQ, zq, zC, zR, zV, zG, zS, zT, zFG, zFS, zFM] at * <;> simp (disch := omega) only [zu_eq, zu_ne, zcpI, zcpO, zqsI, zqsO, if_pos, if_neg]
theorem tk_zG {M : Nat → Nat}  {x : Nat}  (hx : x < 12) : zG (ztk M) x = zG M x := by
  simp only [ztk, zD, zP, zW, zQ, zq, zC, zR, zV, zG, zS, zT, zFG, zFS, zFM] at * <;> simp (disch := omega) only [zu_eq, zu_ne, zcpI, zcpO, zqsI, zqsO, if_pos, if_neg]
theorem tk_zS {M : Nat → Nat}  {x : Nat}  (hx : x < 12) : zS (ztk M) x = zS M x := by
  simp only [ztk, zD, zP, zW, zQ, zq, zC, zR, zV, zG, zS, zT, zFG, zFS, zFM] at * <;> simp (disch := omega) only [zu_eq, zu_ne, zcpI, zcpO, zqsI, zqsO, if_pos, if_neg]
theorem tk_zT {M : Nat → Nat}  {x : Nat}  (hx : x < 12) : zT (ztk M) x = zT M x := by
  simp only [ztk, zD, zP, zW, zQ, zq, zC, zR, zV, zG, zS, zT, zFG, zFS, zFM] at * <;> simp (disch := omega) only [zu_eq, zu_ne, zcpI, zcpO, zqsI, zqsO, if_pos, if_neg]
theorem tk_zFG {M : Nat → Nat}  {x : Nat}  (hx : x < 16) : zFG (ztk M) x = zFG M x := by
  simp only [ztk, zD, zP, zW, zQ, zq, zC, zR, zV, zG, zS, zT, zFG, zFS, zFM] at * <;> simp (disch := omega) only [zu_eq, zu_ne, zcpI, zcpO, zqsI, zqsO, if_pos, if_neg]
theorem tk_zFS {M : Nat → Nat}  {x : Nat}  (hx : x < 16) : zFS (ztk M) x = zFS M x := by
  simp only [ztk, zD, zP, zW, zQ, zq, zC, zR, zV, zG, zS, zT, zFG, zFS, zFM] at * <;> simp (disch := omega) only [zu_eq, zu_ne, zcpI, zcpO, zqsI, zqsO, if_pos, if_neg]
theorem tk_zFM {M : Nat → Nat}  {x : Nat}  (hx : x < 16) : zFM (ztk M) x = zFM M x := by
  simp only [ztk, zD, zP, zW, zQ, zq, zC, zR, zV, zG, zS, zT, zFG, zFS, zFM] at * <;> simp (disch := omega) only [zu_eq, zu_ne, zcpI, zcpO, zqsI, zqsO, if_pos, if_neg]
theorem tk_3 {M : Nat → Nat}    : ztk M 3 = M 3 + 1 := by
  simp only [ztk, zD, zP, zW, zQ, zq, zC, zR, zV, zG, zS, zT, zFG, zFS, zFM] at * <;> simp (disch := omega) only [zu_eq, zu_ne, zcpI, zcpO, zqsI, zqsO, if_pos, if_neg]
theorem fa_0 {M : Nat → Nat} {b : Nat} (h : M 2 ≤ 12) (hb : b < M 2) (hg : zG M b < 10) (hs : zS M b < 4) : zfa M M b 0 = M 0 := by
  simp only [zfa, zD, zP, zW, zQ, zq, zC, zR, zV, zG, zS, zT, zFG, zFS, zFM] at * <;> simp (disch := omega) only [zu_eq, zu_ne, zcpI, zcpO, zqsI, zqsO, if_pos, if_neg]
theorem fa_1 {M : Nat → Nat} {b : Nat} (h : M 2 ≤ 12) (hb : b < M 2) (hg : zG M b < 10) (hs : zS M b < 4) : zfa M M b 1 = M 1 := by
  simp only [zfa, zD, zP, zW, zQ, zq, zC, zR, zV, zG, zS, zT, zFG, zFS, zFM] at * <;> simp (disch := omega) only [zu_eq, zu_ne, zcpI, zcpO, zqsI, zqsO, if_pos, if_neg]
theorem fa_3 {M : Nat → Nat} {b : Nat} (h : M 2 ≤ 12) (hb : b < M 2) (hg : zG M b < 10) (hs : zS M b < 4) : zfa M M b 3 = M 3 := by
  simp only [zfa, zD, zP, zW, zQ, zq, zC, zR, zV, zG, zS, zT, zFG, zFS, zFM] at * <;> simp (disch := omega) only [zu_eq, zu_ne, zcpI, zcpO, zqsI, zqsO, if_pos, if_neg]
theorem fa_5 {M : Nat → Nat} {b : Nat} (h : M 2 ≤ 12) (hb : b < M 2) (hg : zG M b < 10) (hs : zS M b < 4) : zfa M M b 5 = M 5 := by
  simp only [zfa, zD, zP, zW, zQ, zq, zC, zR, zV, zG, zS, zT, zFG, zFS, zFM] at * <;> simp (disch := omega) only [zu_eq, zu_ne, zcpI, zcpO, zqsI, zqsO, if_pos, if_neg]
theorem fa_6 {M : Nat → Nat} {b : Nat} (h : M 2 ≤ 12) (hb : b < M 2) (hg : zG M b < 10) (hs : zS M b < 4) : zfa M M b 6 = M 6 := by
  simp only [zfa, zD, zP, zW, zQ, zq, zC, zR, zV, zG, zS, zT, zFG, zFS, zFM] at * <;> simp (disch := omega) only [zu_eq, zu_ne, zcpI, zcpO, zqsI, zqsO, if_pos, if_neg]
theorem fa_7 {M : Nat → Nat} {b : Nat} (h : M 2 ≤ 12) (hb : b < M 2) (hg : zG M b < 10) (hs : zS M b < 4) : zfa M M b 7 = M 7 := by
  simp only [zfa, zD, zP, zW, zQ, zq, zC, zR, zV, zG, zS, zT, zFG, zFS, zFM] at * <;> simp (disch := omega) only [zu_eq, zu_ne, zcpI, zcpO, zqsI, zqsO, if_pos, if_neg]
theorem fa_zD {M : Nat → Nat} {b : Nat} {x : Nat} (h : M 2 ≤ 12) (hb : b < M 2) (hg : zG M b < 10) (hs : zS M b < 4) (hx : x < 4) : zD (zfa M M b) x = zD M x := by
  simp only [zfa, zD, zP, zW, zQ, zq, zC, zR, zV, zG, zS, zT, zFG, zFS, zFM] at * <;> simp (disch := omega) only [zu_eq, zu_ne, zcpI, zcpO, zqsI, zqsO, if_pos, if_neg]
theorem fa_zP {M : Nat → Nat} {b : Nat} {x : Nat} (h : M 2 ≤ 12) (hb : b < M 2) (hg : zG M b < 10) (hs : zS M b < 4) (hx : x < 4) : zP (zfa M M b) x = zP M x := by
  simp only [zfa, zD, zP, zW, zQ, zq, zC, zR, zV, zG, zS, zT, zFG, zFS, zFM] at * <;> simp (disch := omega) only [zu_eq, zu_ne, zcpI, zcpO, zqsI, zqsO, if_pos, if_neg]
theorem fa_zQ {M : Nat → Nat} {b : Nat} {x : Nat} (h : M 2 ≤ 12) (hb : b < M 2) (hg : zG M b < 10) (hs : zS M b < 4) (hx : x < 4) : zQ (zfa M M b) x = zQ M x := by
  simp only [zfa, zD, zP, zW, zQ, zq, zC, zR, zV, zG, zS, zT, zFG, zFS, zFM] at * <;> simp (disch := omega) only [zu_eq, zu_ne, zcpI, zcpO, zqsI, zqsO, if_pos, if_neg]
theorem fa_zq {M : Nat → Nat} {b : Nat} {x y : Nat} (h : M 2 ≤ 12) (hb : b < M 2) (hg : zG M b < 10) (hs : zS M b < 4) (hx : x < 4) (hy : y < 5) : zq (zfa M M b) x y = zq M x y := by
  simp only [zfa, zD, zP, zW, zQ, zq, zC, zR, zV, zG, zS, zT, zFG, zFS, zFM] at * <;> simp (disch := omega) only [zu_eq, zu_ne, zcpI, zcpO, zqsI, zqsO, if_pos, if_neg]
theorem fa_zV {M : Nat → Nat} {b : Nat} {x : Nat} (h : M 2 ≤ 12) (hb : b < M 2) (hg : zG M b < 10) (hs : zS M b < 4) (hx : x < 10) : zV (zfa M M b) x = zV M x := by
  simp only [zfa, zD, zP, zW, zQ, zq, zC, zR, zV, zG, zS, zT, zFG, zFS, zFM] at * <;> simp (disch := omega) only [zu_eq, zu_ne, zcpI, zcpO, zqsI, zqsO, if_pos, if_neg]
theorem fa_zC {M : Nat → Nat} {b : Nat} {x : Nat} (h : M 2 ≤ 12) (hb : b < M 2) (hg : zG M b < 10) (hs : zS M b < 4) (hx : x < 10) : zC (zfa M M b) x = zC M x := by
  simp only [zfa, zD, zP, zW, zQ, zq, zC, zR, zV, zG, zS, zT, zFG, zFS, zFM] at * <;> simp (disch := omega) only [zu_eq, zu_ne, zcpI, zcpO, zqsI, zqsO, if_pos, if_neg]
theorem fa_2 {M : Nat → Nat} {b : Nat} (h : M 2 ≤ 12) (hb : b < M 2) (hg : zG M b < 10) (hs : zS M b < 4)  : zfa M M b 2 = M 2 - 1 := by
  simp only [zfa, zD, zP, zW, zQ, zq, zC, zR, zV, zG, zS, zT, zFG, zFS, zFM] at * <;> simp (disch := omega) only [zu_eq, zu_ne, zcpI, zcpO, zqsI, zqsO, if_pos, if_neg]
theorem fa_4 {M : Nat → Nat} {b : Nat} (h : M 2 ≤ 12) (hb : b < M 2) (hg : zG M b < 10) (hs : zS M b < 4)  : zfa M M b 4 = (if M 4 + 1 < 16 then M 4 + 1 else 16) := by
  simp only [zfa, zD, zP, zW, zQ, zq, zC, zR, zV, zG, zS, zT, zFG, zFS, zFM] at * <;> simp (disch := omega) only [zu_eq, zu_ne, zcpI, zcpO, zqsI, zqsO, if_pos, if_neg]
theorem fa_zRo {M : Nat → Nat} {b : Nat} (h : M 2 ≤ 12) (hb : b < M 2) (hg : zG M b < 10) (hs : zS M b < 4) {x : Nat} (hx : x < 10) (hn : x ≠ zG M b) : zR (zfa M M b) x = zR M x := by
  simp only [zfa, zD, zP, zW, zQ, zq, zC, zR, zV, zG, zS, zT, zFG, zFS, zFM] at * <;> simp (disch := omega) only [zu_eq, zu_ne, zcpI, zcpO, zqsI, zqsO, if_pos, if_neg]
theorem fa_zRn {M : Nat → Nat} {b : Nat} (h : M 2 ≤ 12) (hb : b < M 2) (hg : zG M b < 10) (hs : zS M b < 4)  : zR (zfa M M b) (zG M b) = zR M (zG M b) + 1 := by
  simp only [zfa, zD, zP, zW, zQ, zq, zC, zR, zV, zG, zS, zT, zFG, zFS, zFM] at * <;> simp (disch := omega) only [zu_eq, zu_ne, zcpI, zcpO, zqsI, zqsO, if_pos, if_neg]
theorem fa_zWo {M : Nat → Nat} {b : Nat} (h : M 2 ≤ 12) (hb : b < M 2) (hg : zG M b < 10) (hs : zS M b < 4) {x : Nat} (hx : x < 4) (hn : x ≠ zS M b) : zW (zfa M M b) x = zW M x := by
  simp only [zfa, zD, zP, zW, zQ, zq, zC, zR, zV, zG, zS, zT, zFG, zFS, zFM] at * <;> simp (disch := omega) only [zu_eq, zu_ne, zcpI, zcpO, zqsI, zqsO, if_pos, if_neg]
theorem fa_zWn {M : Nat → Nat} {b : Nat} (h : M 2 ≤ 12) (hb : b < M 2) (hg : zG M b < 10) (hs : zS M b < 4)  : zW (zfa M M b) (zS M b) = zfw (zW M (zS M b)) := by
  simp only [zfa, zD, zP, zW, zQ, zq, zC, zR, zV, zG, zS, zT, zFG, zFS, zFM] at * <;> simp (disch := omega) only [zu_eq, zu_ne, zcpI, zcpO, zqsI, zqsO, if_pos, if_neg]
theorem fa_zFG0 {M : Nat → Nat} {b : Nat} (h : M 2 ≤ 12) (hb : b < M 2) (hg : zG M b < 10) (hs : zS M b < 4)  : zFG (zfa M M b) 0 = zG M b := by
  simp only [zfa, zD, zP, zW, zQ, zq, zC, zR, zV, zG, zS, zT, zFG, zFS, zFM] at * <;> simp (disch := omega) only [zu_eq, zu_ne, zcpI, zcpO, zqsI, zqsO, if_pos, if_neg]
theorem fa_zFS0 {M : Nat → Nat} {b : Nat} (h : M 2 ≤ 12) (hb : b < M 2) (hg : zG M b < 10) (hs : zS M b < 4)  : zFS (zfa M M b) 0 = zS M b := by
  simp only [zfa, zD, zP, zW, zQ, zq, zC, zR, zV, zG, zS, zT, zFG, zFS, zFM] at * <;> simp (disch := omega) only [zu_eq, zu_ne, zcpI, zcpO, zqsI, zqsO, if_pos, if_neg]
theorem fa_zFM0 {M : Nat → Nat} {b : Nat} (h : M 2 ≤ 12) (hb : b < M 2) (hg : zG M b < 10) (hs : zS M b < 4)  : zFM (zfa M M b) 0 = M 3 := by
  simp only [zfa, zD, zP, zW, zQ, zq, zC, zR, zV, zG, zS, zT, zFG, zFS, zFM] at * <;> simp (disch := omega) only [zu_eq, zu_ne, zcpI, zcpO, zqsI, zqsO, if_pos, if_neg]
theorem fa_zGl {M : Nat → Nat} {b : Nat} (h : M 2 ≤ 12) (hb : b < M 2) (hg : zG M b < 10) (hs : zS M b < 4) {x : Nat} (hx : x < b) : zG (zfa M M b) x = zG M x := by
  simp only [zfa, zD, zP, zW, zQ, zq, zC, zR, zV, zG, zS, zT, zFG, zFS, zFM] at * <;> simp (disch := omega) only [zu_eq, zu_ne, zcpI, zcpO, zqsI, zqsO, if_pos, if_neg]
theorem fa_zSl {M : Nat → Nat} {b : Nat} (h : M 2 ≤ 12) (hb : b < M 2) (hg : zG M b < 10) (hs : zS M b < 4) {x : Nat} (hx : x < b) : zS (zfa M M b) x = zS M x := by
  simp only [zfa, zD, zP, zW, zQ, zq, zC, zR, zV, zG, zS, zT, zFG, zFS, zFM] at * <;> simp (disch := omega) only [zu_eq, zu_ne, zcpI, zcpO, zqsI, zqsO, if_pos, if_neg]
theorem fa_zTl {M : Nat → Nat} {b : Nat} (h : M 2 ≤ 12) (hb : b < M 2) (hg : zG M b < 10) (hs : zS M b < 4) {x : Nat} (hx : x < b) : zT (zfa M M b) x = zT M x := by
  simp only [zfa, zD, zP, zW, zQ, zq, zC, zR, zV, zG, zS, zT, zFG, zFS, zFM] at * <;> simp (disch := omega) only [zu_eq, zu_ne, zcpI, zcpO, zqsI, zqsO, if_pos, if_neg]
theorem fa_zGh {M : Nat → Nat} {b : Nat} (h : M 2 ≤ 12) (hb : b < M 2) (hg : zG M b < 10) (hs : zS M b < 4) {x : Nat} (hx : b ≤ x) (hx2 : x + 1 < M 2) : zG (zfa M M b) x = zG M (x + 1) := by
  simp only [zfa, zD, zP, zW, zQ, zq, zC, zR, zV, zG, zS, zT, zFG, zFS, zFM] at *
  simp (disch := omega) only [zu_eq, zu_ne, zcpI, zcpO, zqsI, zqsO, if_pos, if_neg]
  exact congrArg M (by omega)
theorem fa_zSh {M : Nat → Nat} {b : Nat} (h : M 2 ≤ 12) (hb : b < M 2) (hg : zG M b < 10) (hs : zS M b < 4) {x : Nat} (hx : b ≤ x) (hx2 : x + 1 < M 2) : zS (zfa M M b) x = zS M (x + 1) := by
  simp only [zfa, zD, zP, zW, zQ, zq, zC, zR, zV, zG, zS, zT, zFG, zFS, zFM] at *
  simp (disch := omega) only [zu_eq, zu_ne, zcpI, zcpO, zqsI, zqsO, if_pos, if_neg]
  exact congrArg M (by omega)
theorem fa_zTh {M : Nat → Nat} {b : Nat} (h : M 2 ≤ 12) (hb : b < M 2) (hg : zG M b < 10) (hs : zS M b < 4) {x : Nat} (hx : b ≤ x) (hx2 : x + 1 < M 2) : zT (zfa M M b) x = zT M (x + 1) := by
  simp only [zfa, zD, zP, zW, zQ, zq, zC, zR, zV, zG, zS, zT, zFG, zFS, zFM] at *
  simp (disch := omega) only [zu_eq, zu_ne, zcpI, zcpO, zqsI, zqsO, if_pos, if_neg]
  exact congrArg M (by omega)
theorem fa_zFGs {M : Nat → Nat} {b : Nat} (h : M 2 ≤ 12) (hb : b < M 2) (hg : zG M b < 10) (hs : zS M b < 4) {x : Nat} (hx : x + 1 < 16) : zFG (zfa M M b) (x + 1) = zFG M x := by
  simp only [zfa, zD, zP, zW, zQ, zq, zC, zR, zV, zG, zS, zT, zFG, zFS, zFM] at *
  simp (disch := omega) only [zu_eq, zu_ne, zcpI, zcpO, zqsI, zqsO, if_pos, if_neg]
  exact congrArg M (by omega)
theorem fa_zFSs {M : Nat → Nat} {b : Nat} (h : M 2 ≤ 12) (hb : b < M 2) (hg : zG M b < 10) (hs : zS M b < 4) {x : Nat} (hx : x + 1 < 16) : zFS (zfa M M b) (x + 1) = zFS M x := by
  simp only [zfa, zD, zP, zW, zQ, zq, zC, zR, zV, zG, zS, zT, zFG, zFS, zFM] at *
  simp (disch := omega) only [zu_eq, zu_ne, zcpI, zcpO, zqsI, zqsO, if_pos, if_neg]
  exact congrArg M (by omega)
theorem fa_zFMs {M : Nat → Nat} {b : Nat} (h : M 2 ≤ 12) (hb : b < M 2) (hg : zG M b < 10) (hs : zS M b < 4) {x : Nat} (hx : x + 1 < 16) : zFM (zfa M M b) (x + 1) = zFM M x := by
  simp only [zfa, zD, zP, zW, zQ, zq, zC, zR, zV, zG, zS, zT, zFG, zFS, zFM] at *
  simp (disch := omega) only [zu_eq, zu_ne, zcpI, zcpO, zqsI, zqsO, if_pos, if_neg]
  exact congrArg M (by omega)
theorem fb_0 {M : Nat → Nat} {b : Nat} (h : M 2 ≤ 12) (hb : b < M 2) (hg : zG M b < 10) (hs : zS M b < 4) : zfa M (zfs M b) b 0 = M 0 := by
  simp only [zfa, zfs, zD, zP, zW, zQ, zq, zC, zR, zV, zG, zS, zT, zFG, zFS, zFM] at * <;> simp (disch := omega) only [zu_eq, zu_ne, zcpI, zcpO, zqsI, zqsO, if_pos, if_neg]
theorem fb_1 {M : Nat → Nat} {b : Nat} (h : M 2 ≤ 12) (hb : b < M 2) (hg : zG M b < 10) (hs : zS M b < 4) : zfa M (zfs M b) b 1 = M 1 := by
  simp only [zfa, zfs, zD, zP, zW, zQ, zq, zC, zR, zV, zG, zS, zT, zFG, zFS, zFM] at * <;> simp (disch := omega) only [zu_eq, zu_ne, zcpI, zcpO, zqsI, zqsO, if_pos, if_neg]
theorem fb_3 {M : Nat → Nat} {b : Nat} (h : M 2 ≤ 12) (hb : b < M 2) (hg : zG M b < 10) (hs : zS M b < 4) : zfa M (zfs M b) b 3 = M 3 := by
  simp only [zfa, zfs, zD, zP, zW, zQ, zq, zC, zR, zV, zG, zS, zT, zFG, zFS, zFM] at * <;> simp (disch := omega) only [zu_eq, zu_ne, zcpI, zcpO, zqsI, zqsO, if_pos, if_neg]
theorem fb_zD {M : Nat → Nat} {b : Nat} {x : Nat} (h : M 2 ≤ 12) (hb : b < M 2) (hg : zG M b < 10) (hs : zS M b < 4) (hx : x < 4) : zD (zfa M (zfs M b) b) x = zD M x := by
  simp only [zfa, zfs, zD, zP, zW, zQ, zq, zC, zR, zV, zG, zS, zT, zFG, zFS, zFM] at * <;> simp (disch := omega) only [zu_eq, zu_ne, zcpI, zcpO, zqsI, zqsO, if_pos, if_neg]
theorem fb_zP {M : Nat → Nat} {b : Nat} {x : Nat} (h : M 2 ≤ 12) (hb : b < M 2) (hg : zG M b < 10) (hs : zS M b < 4) (hx : x < 4) : zP (zfa M (zfs M b) b) x = zP M x := by
  simp only [zfa, zfs, zD, zP, zW, zQ, zq, zC, zR, zV, zG, zS, zT, zFG, zFS, zFM] at * <;> simp (disch := omega) only [zu_eq, zu_ne, zcpI, zcpO, zqsI, zqsO, if_pos, if_neg]
theorem fb_zQ {M : Nat → Nat} {b : Nat} {x : Nat} (h : M 2 ≤ 12) (hb : b < M 2) (hg : zG M b < 10) (hs : zS M b < 4) (hx : x < 4) : zQ (zfa M (zfs M b) b) x = zQ M x := by
  simp only [zfa, zfs, zD, zP, zW, zQ, zq, zC, zR, zV, zG, zS, zT, zFG, zFS, zFM] at * <;> simp (disch := omega) only [zu_eq, zu_ne, zcpI, zcpO, zqsI, zqsO, if_pos, if_neg]
theorem fb_zq {M : Nat → Nat} {b : Nat} {x y : Nat} (h : M 2 ≤ 12) (hb : b < M 2) (hg : zG M b < 10) (hs : zS M b < 4) (hx : x < 4) (hy : y < 5) : zq (zfa M (zfs M b) b) x y = zq M x y := by
  simp only [zfa, zfs, zD, zP, zW, zQ, zq, zC, zR, zV, zG, zS, zT, zFG, zFS, zFM] at * <;> simp (disch := omega) only [zu_eq, zu_ne, zcpI, zcpO, zqsI, zqsO, if_pos, if_neg]
theorem fb_zV {M : Nat → Nat} {b : Nat} {x : Nat} (h : M 2 ≤ 12) (hb : b < M 2) (hg : zG M b < 10) (hs : zS M b < 4) (hx : x < 10) : zV (zfa M (zfs M b) b) x = zV M x := by
  simp only [zfa, zfs, zD, zP, zW, zQ, zq, zC, zR, zV, zG, zS, zT, zFG, zFS, zFM] at * <;> simp (disch := omega) only [zu_eq, zu_ne, zcpI, zcpO, zqsI, zqsO, if_pos, if_neg]
theorem fb_5 {M : Nat → Nat} {b : Nat} (h : M 2 ≤ 12) (hb : b < M 2) (hg : zG M b < 10) (hs : zS M b < 4)  : zfa M (zfs M b) b 5 = M 5 + 1 := by
  simp only [zfa, zfs, zD, zP, zW, zQ, zq, zC, zR, zV, zG, zS, zT, zFG, zFS, zFM] at * <;> simp (disch := omega) only [zu_eq, zu_ne, zcpI, zcpO, zqsI, zqsO, if_pos, if_neg]
theorem fb_6 {M : Nat → Nat} {b : Nat} (h : M 2 ≤ 12) (hb : b < M 2) (hg : zG M b < 10) (hs : zS M b < 4)  : zfa M (zfs M b) b 6 = M 6 + zP M (zS M b) / 2 := by
  simp only [zfa, zfs, zD, zP, zW, zQ, zq, zC, zR, zV, zG, zS, zT, zFG, zFS, zFM] at * <;> simp (disch := omega) only [zu_eq, zu_ne, zcpI, zcpO, zqsI, zqsO, if_pos, if_neg]
theorem fb_7 {M : Nat → Nat} {b : Nat} (h : M 2 ≤ 12) (hb : b < M 2) (hg : zG M b < 10) (hs : zS M b < 4)  : zfa M (zfs M b) b 7 = M 7 - zP M (zS M b) / 2 := by
  simp only [zfa, zfs, zD, zP, zW, zQ, zq, zC, zR, zV, zG, zS, zT, zFG, zFS, zFM] at * <;> simp (disch := omega) only [zu_eq, zu_ne, zcpI, zcpO, zqsI, zqsO, if_pos, if_neg]
theorem fb_zCo {M : Nat → Nat} {b : Nat} (h : M 2 ≤ 12) (hb : b < M 2) (hg : zG M b < 10) (hs : zS M b < 4) {x : Nat} (hx : x < 10) (hn : x ≠ zG M b) : zC (zfa M (zfs M b) b) x = zC M x := by
  simp only [zfa, zfs, zD, zP, zW, zQ, zq, zC, zR, zV, zG, zS, zT, zFG, zFS, zFM] at * <;> simp (disch := omega) only [zu_eq, zu_ne, zcpI, zcpO, zqsI, zqsO, if_pos, if_neg]
theorem fb_zCn {M : Nat → Nat} {b : Nat} (h : M 2 ≤ 12) (hb : b < M 2) (hg : zG M b < 10) (hs : zS M b < 4)  : zC (zfa M (zfs M b) b) (zG M b) = zC M (zG M b) + zP M (zS M b) / 2 := by
  simp only [zfa, zfs, zD, zP, zW, zQ, zq, zC, zR, zV, zG, zS, zT, zFG, zFS, zFM] at * <;> simp (disch := omega) only [zu_eq, zu_ne, zcpI, zcpO, zqsI, zqsO, if_pos, if_neg]
theorem fb_2 {M : Nat → Nat} {b : Nat} (h : M 2 ≤ 12) (hb : b < M 2) (hg : zG M b < 10) (hs : zS M b < 4)  : zfa M (zfs M b) b 2 = M 2 - 1 := by
  simp only [zfa, zfs, zD, zP, zW, zQ, zq, zC, zR, zV, zG, zS, zT, zFG, zFS, zFM] at * <;> simp (disch := omega) only [zu_eq, zu_ne, zcpI, zcpO, zqsI, zqsO, if_pos, if_neg]
theorem fb_4 {M : Nat → Nat} {b : Nat} (h : M 2 ≤ 12) (hb : b < M 2) (hg : zG M b < 10) (hs : zS M b < 4)  : zfa M (zfs M b) b 4 = (if M 4 + 1 < 16 then M 4 + 1 else 16) := by
  simp only [zfa, zfs, zD, zP, zW, zQ, zq, zC, zR, zV, zG, zS, zT, zFG, zFS, zFM] at * <;> simp (disch := omega) only [zu_eq, zu_ne, zcpI, zcpO, zqsI, zqsO, if_pos, if_neg]
theorem fb_zRo {M : Nat → Nat} {b : Nat} (h : M 2 ≤ 12) (hb : b < M 2) (hg : zG M b < 10) (hs : zS M b < 4) {x : Nat} (hx : x < 10) (hn : x ≠ zG M b) : zR (zfa M (zfs M b) b) x = zR M x := by
  simp only [zfa, zfs, zD, zP, zW, zQ, zq, zC, zR, zV, zG, zS, zT, zFG, zFS, zFM] at * <;> simp (disch := omega) only [zu_eq, zu_ne, zcpI, zcpO, zqsI, zqsO, if_pos, if_neg]
theorem fb_zRn {M : Nat → Nat} {b : Nat} (h : M 2 ≤ 12) (hb : b < M 2) (hg : zG M b < 10) (hs : zS M b < 4)  : zR (zfa M (zfs M b) b) (zG M b) = zR M (zG M b) + 1 := by
  simp only [zfa, zfs, zD, zP, zW, zQ, zq, zC, zR, zV, zG, zS, zT, zFG, zFS, zFM] at * <;> simp (disch := omega) only [zu_eq, zu_ne, zcpI, zcpO, zqsI, zqsO, if_pos, if_neg]
theorem fb_zWo {M : Nat → Nat} {b : Nat} (h : M 2 ≤ 12) (hb : b < M 2) (hg : zG M b < 10) (hs : zS M b < 4) {x : Nat} (hx : x < 4) (hn : x ≠ zS M b) : zW (zfa M (zfs M b) b) x = zW M x := by
  simp only [zfa, zfs, zD, zP, zW, zQ, zq, zC, zR, zV, zG, zS, zT, zFG, zFS, zFM] at * <;> simp (disch := omega) only [zu_eq, zu_ne, zcpI, zcpO, zqsI, zqsO, if_pos, if_neg]
theorem fb_zWn {M : Nat → Nat} {b : Nat} (h : M 2 ≤ 12) (hb : b < M 2) (hg : zG M b < 10) (hs : zS M b < 4)  : zW (zfa M (zfs M b) b) (zS M b) = zfw (zW M (zS M b)) := by
  simp only [zfa, zfs, zD, zP, zW, zQ, zq, zC, zR, zV, zG, zS, zT, zFG, zFS, zFM] at * <;> simp (disch := omega) only [zu_eq, zu_ne, zcpI, zcpO, zqsI, zqsO, if_pos, if_neg]
theorem fb_zFG0 {M : Nat → Nat} {b : Nat} (h : M 2 ≤ 12) (hb : b < M 2) (hg : zG M b < 10) (hs : zS M b < 4)  : zFG (zfa M (zfs M b) b) 0 = zG M b := by
  simp only [zfa, zfs, zD, zP, zW, zQ, zq, zC, zR, zV, zG, zS, zT, zFG, zFS, zFM] at * <;> simp (disch := omega) only [zu_eq, zu_ne, zcpI, zcpO, zqsI, zqsO, if_pos, if_neg]
theorem fb_zFS0 {M : Nat → Nat} {b : Nat} (h : M 2 ≤ 12) (hb : b < M 2) (hg : zG M b < 10) (hs : zS M b < 4)  : zFS (zfa M (zfs M b) b) 0 = zS M b := by
  simp only [zfa, zfs, zD, zP, zW, zQ, zq, zC, zR, zV, zG, zS, zT, zFG, zFS, zFM] at * <;> simp (disch := omega) only [zu_eq, zu_ne, zcpI, zcpO, zqsI, zqsO, if_pos, if_neg]
theorem fb_zFM0 {M : Nat → Nat} {b : Nat} (h : M 2 ≤ 12) (hb : b < M 2) (hg : zG M b < 10) (hs : zS M b < 4)  : zFM (zfa M (zfs M b) b) 0 = M 3 := by
  simp only [zfa, zfs, zD, zP, zW, zQ, zq, zC, zR, zV, zG, zS, zT, zFG, zFS, zFM] at * <;> simp (disch := omega) only [zu_eq, zu_ne, zcpI, zcpO, zqsI, zqsO, if_pos, if_neg]
theorem fb_zGl {M : Nat → Nat} {b : Nat} (h : M 2 ≤ 12) (hb : b < M 2) (hg : zG M b < 10) (hs : zS M b < 4) {x : Nat} (hx : x < b) : zG (zfa M (zfs M b) b) x = zG M x := by
  simp only [zfa, zfs, zD, zP, zW, zQ, zq, zC, zR, zV, zG, zS, zT, zFG, zFS, zFM] at * <;> simp (disch := omega) only [zu_eq, zu_ne, zcpI, zcpO, zqsI, zqsO, if_pos, if_neg]
theorem fb_zSl {M : Nat → Nat} {b : Nat} (h : M 2 ≤ 12) (hb : b < M 2) (hg : zG M b < 10) (hs : zS M b < 4) {x : Nat} (hx : x < b) : zS (zfa M (zfs M b) b) x = zS M x := by
  simp only [zfa, zfs, zD, zP, zW, zQ, zq, zC, zR, zV, zG, zS, zT, zFG, zFS, zFM] at * <;> simp (disch := omega) only [zu_eq, zu_ne, zcpI, zcpO, zqsI, zqsO, if_pos, if_neg]
theorem fb_zTl {M : Nat → Nat} {b : Nat} (h : M 2 ≤ 12) (hb : b < M 2) (hg : zG M b < 10) (hs : zS M b < 4) {x : Nat} (hx : x < b) : zT (zfa M (zfs M b) b) x = zT M x := by
  simp only [zfa, zfs, zD, zP, zW, zQ, zq, zC, zR, zV, zG, zS, zT, zFG, zFS, zFM] at * <;> simp (disch := omega) only [zu_eq, zu_ne, zcpI, zcpO, zqsI, zqsO, if_pos, if_neg]
theorem fb_zGh {M : Nat → Nat} {b : Nat} (h : M 2 ≤ 12) (hb : b < M 2) (hg : zG M b < 10) (hs : zS M b < 4) {x : Nat} (hx : b ≤ x) (hx2 : x + 1 < M 2) : zG (zfa M (zfs M b) b) x = zG M (x + 1) := by
  simp only [zfa, zfs, zD, zP, zW, zQ, zq, zC, zR, zV, zG, zS, zT, zFG, zFS, zFM] at *
  simp (disch := omega) only [zu_eq, zu_ne, zcpI, zcpO, zqsI, zqsO, if_pos, if_neg]
  exact congrArg M (by omega)
theorem fb_zSh {M : Nat → Nat} {b : Nat} (h : M 2 ≤ 12) (hb : b < M 2) (hg : zG M b < 10) (hs : zS M b < 4) {x : Nat} (hx : b ≤ x) (hx2 : x + 1 < M 2) : zS (zfa M (zfs M b) b) x = zS M (x + 1) := by
  simp only [zfa, zfs, zD, zP, zW, zQ, zq, zC, zR, zV, zG, zS, zT, zFG, zFS, zFM] at *
  simp (disch := omega) only [zu_eq, zu_ne, zcpI, zcpO, zqsI, zqsO, if_pos, if_neg]
  exact congrArg M (by omega)
theorem fb_zTh {M : Nat → Nat} {b : Nat} (h : M 2 ≤ 12) (hb : b < M 2) (hg : zG M b < 10) (hs : zS M b < 4) {x : Nat} (hx : b ≤ x) (hx2 : x + 1 < M 2) : zT (zfa M (zfs M b) b) x = zT M (x + 1) := by
  simp only [zfa, zfs, zD, zP, zW, zQ, zq, zC, zR, zV, zG, zS, zT, zFG, zFS, zFM] at *
  simp (disch := omega) only [zu_eq, zu_ne, zcpI, zcpO, zqsI, zqsO, if_pos, if_neg]
  exact congrArg M (by omega)
theorem fb_zFGs {M : Nat → Nat} {b : Nat} (h : M 2 ≤ 12) (hb : b < M 2) (hg : zG M b < 10) (hs : zS M b < 4) {x : Nat} (hx : x + 1 < 16) : zFG (zfa M (zfs M b) b) (x + 1) = zFG M x := by
  simp only [zfa, zfs, zD, zP, zW, zQ, zq, zC, zR, zV, zG, zS, zT, zFG, zFS, zFM] at *
  simp (disch := omega) only [zu_eq, zu_ne, zcpI, zcpO, zqsI, zqsO, if_pos, if_neg]
  exact congrArg M (by omega)
theorem fb_zFSs {M : Nat → Nat} {b : Nat} (h : M 2 ≤ 12) (hb : b < M 2) (hg : zG M b < 10) (hs : zS M b < 4) {x : Nat} (hx : x + 1 < 16) : zFS (zfa M (zfs M b) b) (x + 1) = zFS M x := by
  simp only [zfa, zfs, zD, zP, zW, zQ, zq, zC, zR, zV, zG, zS, zT, zFG, zFS, zFM] at *
  simp (disch := omega) only [zu_eq, zu_ne, zcpI, zcpO, zqsI, zqsO, if_pos, if_neg]
  exact congrArg M (by omega)
theorem fb_zFMs {M : Nat → Nat} {b : Nat} (h : M 2 ≤ 12) (hb : b < M 2) (hg : zG M b < 10) (hs : zS M b < 4) {x : Nat} (hx : x + 1 < 16) : zFM (zfa M (zfs M b) b) (x + 1) = zFM M x := by
  simp only [zfa, zfs, zD, zP, zW, zQ, zq, zC, zR, zV, zG, zS, zT, zFG, zFS, zFM] at *
  simp (disch := omega) only [zu_eq, zu_ne, zcpI, zcpO, zqsI, zqsO, if_pos, if_neg]
  exact congrArg M (by omega)
