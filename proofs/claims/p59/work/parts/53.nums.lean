/-! numbers as nI: what simp turns every term into -/
theorem il_0 : (0 : Int32) = nI 0 := rfl
theorem il_1 : (1 : Int32) = nI 1 := rfl
theorem il_2 : (2 : Int32) = nI 2 := rfl
theorem il_3 : (3 : Int32) = nI 3 := rfl
theorem il_4 : (4 : Int32) = nI 4 := rfl
theorem il_5 : (5 : Int32) = nI 5 := rfl
theorem il_6 : (6 : Int32) = nI 6 := rfl
theorem il_7 : (7 : Int32) = nI 7 := rfl
theorem il_8 : (8 : Int32) = nI 8 := rfl
theorem il_9 : (9 : Int32) = nI 9 := rfl
theorem il_10 : (10 : Int32) = nI 10 := rfl
theorem il_11 : (11 : Int32) = nI 11 := rfl
theorem il_12 : (12 : Int32) = nI 12 := rfl
theorem il_16 : (16 : Int32) = nI 16 := rfl
theorem il_20 : (20 : Int32) = nI 20 := rfl
theorem il_32 : (32 : Int32) = nI 32 := rfl
theorem il_44 : (44 : Int32) = nI 44 := rfl
theorem il_45 : (45 : Int32) = nI 45 := rfl
theorem il_48 : (48 : Int32) = nI 48 := rfl
theorem il_50 : (50 : Int32) = nI 50 := rfl
theorem il_57 : (57 : Int32) = nI 57 := rfl
theorem il_59 : (59 : Int32) = nI 59 := rfl
theorem il_60 : (60 : Int32) = nI 60 := rfl
theorem il_64 : (64 : Int32) = nI 64 := rfl
theorem il_74 : (74 : Int32) = nI 74 := rfl
theorem il_98 : (98 : Int32) = nI 98 := rfl
theorem il_99 : (99 : Int32) = nI 99 := rfl
theorem il_100 : (100 : Int32) = nI 100 := rfl
theorem il_108 : (108 : Int32) = nI 108 := rfl
theorem il_109 : (109 : Int32) = nI 109 := rfl
theorem il_110 : (110 : Int32) = nI 110 := rfl
theorem il_111 : (111 : Int32) = nI 111 := rfl
theorem il_112 : (112 : Int32) = nI 112 := rfl
theorem il_113 : (113 : Int32) = nI 113 := rfl
theorem il_115 : (115 : Int32) = nI 115 := rfl
theorem il_119 : (119 : Int32) = nI 119 := rfl
theorem il_120 : (120 : Int32) = nI 120 := rfl
theorem il_158 : (158 : Int32) = nI 158 := rfl
theorem il_255 : (255 : Int32) = nI 255 := rfl
theorem il_1106 : (1106 : Int32) = nI 1106 := rfl
theorem il_2147483647 : (2147483647 : Int32) = nI 2147483647 := rfl
theorem n1_0 : ((1 : Nat) = 0) = False := eq_false (by decide)
theorem n4_0 : ((4 : Nat) = 0) = False := eq_false (by decide)
theorem n4_1 : ((4 : Nat) = 1) = False := eq_false (by decide)
theorem nI_sub {a b : Nat} (h : b ≤ a) : nI a - nI b = nI (a - b) := by
  have : nI a = nI (a - b) + nI b := by rw [nI_add, Nat.sub_add_cancel h]
  rw [this, Int32.add_sub_cancel]
theorem nI_mul (a b : Nat) : nI a * nI b = nI (a * b) := (Int32.ofNat_mul a b).symm
theorem nI_inT {k n : Nat} (h : k < n) (hn : n < 2 ^ 31) : (sf_in (nI k) n = true) = True := eq_true (decide_eq_true (nI_in h hn))
theorem nI_eqP {a b : Nat} (ha : a < 2 ^ 31) (hb : b < 2 ^ 31) : (nI a = nI b) = (a = b) := propext (nI_eq ha hb)
theorem nI_leP {a b : Nat} (ha : a < 2 ^ 31) (hb : b < 2 ^ 31) : (nI a ≤ nI b) = (a ≤ b) := propext (nI_leI ha hb)
theorem nI_ltP {a b : Nat} (ha : a < 2 ^ 31) (hb : b < 2 ^ 31) : (nI a < nI b) = (a < b) := propext (nI_ltI ha hb)
theorem nI_m1 {n : Nat} (hn : 0 < n) (hn2 : n < 2 ^ 31) : (-nI n).toInt = -(n : Int) := by
  rw [Int32.toInt_neg, nI_toInt hn2]
  exact Int.bmod_eq_of_le (by omega) (by omega)
theorem nI_neP {a : Nat} (n : Nat) (ha : a < 2 ^ 31) (hn : 0 < n) (hn2 : n < 2 ^ 31) : (nI a = -nI n) = False := eq_false (fun e => by
  have h := congrArg Int32.toInt e
  rw [nI_toInt ha, nI_m1 hn hn2] at h
  omega)
theorem nI_nnP {a n : Nat} (ha : 0 < a) (ha2 : a < 2 ^ 31) (hn : 0 < n) (hn2 : n < 2 ^ 31) : (-nI a = -nI n) = (a = n) := propext ⟨fun e => by
  have h := congrArg Int32.toInt e
  rw [nI_m1 ha ha2, nI_m1 hn hn2] at h
  omega, fun e => by rw [e]⟩
theorem nI_nlP {a n : Nat} (ha : a < 2 ^ 31) (hn : 0 < n) (hn2 : n < 2 ^ 31) : (nI a ≤ -nI n) = False := eq_false (fun e => by
  rw [Int32.le_iff_toInt_le, nI_toInt ha, nI_m1 hn hn2] at e
  omega)
theorem nI_nltP {a n : Nat} (ha : a < 2 ^ 31) (hn : 0 < n) (hn2 : n < 2 ^ 31) : (-nI n < nI a) = True := eq_true (by
  rw [Int32.lt_iff_toInt_lt, nI_toInt ha, nI_m1 hn hn2]
  omega)
theorem nI_nleP {a n : Nat} (ha : a < 2 ^ 31) (hn : 0 < n) (hn2 : n < 2 ^ 31) : (-nI n ≤ nI a) = True := eq_true (by
  rw [Int32.le_iff_toInt_le, nI_toInt ha, nI_m1 hn hn2]
  omega)
theorem nI_div {a b : Nat} (ha : a < 2 ^ 31) (hb : b < 2 ^ 31) (hb0 : 0 < b) : nI a / nI b = nI (a / b) := by
  apply Int32.toInt_inj.mp
  have h1 : a / b ≤ a := Nat.div_le_self a b
  rw [Int32.toInt_div_of_ne_right _ _ (fun e => by
    have h := congrArg Int32.toInt e
    rw [nI_toInt hb] at h
    have h2 : (-1 : Int32).toInt = -1 := by decide
    omega), nI_toInt ha, nI_toInt hb, nI_toInt (by omega)]
  exact (Int.ofNat_tdiv a b).symm
theorem nI_subneg (a b : Nat) : nI a - -nI b = nI (a + b) := by rw [Int32.sub_neg, nI_add]
theorem nI_addneg {a b : Nat} (h : b ≤ a) : nI a + -nI b = nI (a - b) := by rw [← Int32.sub_eq_add_neg, nI_sub h]
theorem nI_stoInt {a b : Nat} (ha : a < 2 ^ 31) (hb : b < 2 ^ 31) : (nI a - nI b).toInt = (a : Int) - b := by
  rw [Int32.toInt_sub, nI_toInt ha, nI_toInt hb]
  exact Int.bmod_eq_of_le (by omega) (by omega)
theorem nI_spos {a b : Nat} (ha : a < 2 ^ 31) (hb : b < 2 ^ 31) : (nI 0 < nI a - nI b) = (b < a) := by
  rw [Int32.lt_iff_toInt_lt, nI_stoInt ha hb, nI_toInt (by omega)]
  exact propext ⟨fun _ => by omega, fun _ => by omega⟩
theorem nI_szero {a b : Nat} (ha : a < 2 ^ 31) (hb : b < 2 ^ 31) : (nI a - nI b = nI 0) = (a = b) := by
  rw [← Int32.toInt_inj, nI_stoInt ha hb, nI_toInt (by omega)]
  exact propext ⟨fun _ => by omega, fun _ => by omega⟩
theorem upd_eqP {f : Nat → Int32} {i j : Nat} {x : Int32} (h : j = i) : upd f i x j = x := if_pos h
theorem upd_neP {f : Nat → Int32} {i j : Nat} {x : Int32} (h : j ≠ i) : upd f i x j = f j := if_neg h
def zu (M : Nat → Nat) (i v : Nat) : Nat → Nat := fun j => if j = i then v else M j
theorem zu_eq {M : Nat → Nat} {i j v : Nat} (h : j = i) : zu M i v j = v := if_pos h
theorem zu_ne {M : Nat → Nat} {i j v : Nat} (h : j ≠ i) : zu M i v j = M j := if_neg h
theorem nI_if {p : Prop} [Decidable p] (a b : Nat) : (if p then nI a else nI b) = nI (if p then a else b) := by split <;> rfl
/-- the model's row holds the numbers M -/
def MR (M : Nat → Nat) (ms : Nat → Int32) : Prop := ∀ k, k < 158 → ms k = nI (M k)
theorem MR.upd {M : Nat → Nat} {ms : Nat → Int32} (h : MR M ms) (i v : Nat) : MR (zu M i v) (upd ms i (nI v)) := fun k hk => by
  by_cases e : k = i
  · rw [upd_eqP e, zu_eq e]
  · rw [upd_neP e, zu_ne e]; exact h k hk
/-! what the row says -/
def zD (M : Nat → Nat) (k : Nat) : Nat := M (8 + 9 * k)
def zP (M : Nat → Nat) (k : Nat) : Nat := M (8 + 9 * k + 1)
def zW (M : Nat → Nat) (k : Nat) : Nat := M (8 + 9 * k + 2)
def zQ (M : Nat → Nat) (k : Nat) : Nat := M (8 + 9 * k + 3)
def zq (M : Nat → Nat) (k j : Nat) : Nat := M (8 + 9 * k + (4 + j))
def zC (M : Nat → Nat) (k : Nat) : Nat := M (44 + 3 * k)
def zR (M : Nat → Nat) (k : Nat) : Nat := M (44 + 3 * k + 1)
def zV (M : Nat → Nat) (k : Nat) : Nat := M (44 + 3 * k + 2)
def zG (M : Nat → Nat) (k : Nat) : Nat := M (74 + 3 * k)
def zS (M : Nat → Nat) (k : Nat) : Nat := M (74 + 3 * k + 1)
def zT (M : Nat → Nat) (k : Nat) : Nat := M (74 + 3 * k + 2)
def zE (M : Nat → Nat) (k : Nat) : Nat := zT M k + zD M (zS M k)
def zFG (M : Nat → Nat) (k : Nat) : Nat := M (110 + 3 * k)
def zFS (M : Nat → Nat) (k : Nat) : Nat := M (110 + 3 * k + 1)
def zFM (M : Nat → Nat) (k : Nat) : Nat := M (110 + 3 * k + 2)
/-! what always holds of it; U: a bound of the present minute -/
def V0 (M : Nat → Nat) (U : Nat) : Prop := M 0 ≤ 4 ∧ M 1 ≤ 10 ∧ M 2 ≤ 12 ∧ M 4 ≤ 16 ∧ M 3 ≤ U ∧ U ≤ 4000000
def VS (M : Nat → Nat) : Prop := ∀ k, k < M 0 → 1 ≤ zD M k ∧ zD M k ≤ 9 ∧ 1 ≤ zP M k ∧ zP M k ≤ 9 ∧ zW M k ≤ 9
def VR (M : Nat → Nat) (r : Nat) : Prop := ∀ g, g < M 1 → zR M g ≤ r
def VQ (M : Nat → Nat) : Prop := (∀ k, k < 4 → zQ M k ≤ 5 ∧ (M 0 ≤ k → zQ M k = 0)) ∧ (∀ k, k < 4 → ∀ j, j < zQ M k → zq M k j < M 1 ∧ zV M (zq M k j) = k + 1) ∧ (∀ k, k < 4 → ∀ i j, i < j → j < zQ M k → zq M k i ≠ zq M k j) ∧ (∀ g, g < M 1 → zV M g ≤ 4 ∧ (zV M g ≠ 0 → ∃ j, j < zQ M (zV M g - 1) ∧ zq M (zV M g - 1) j = g))
def VB (M : Nat → Nat) (e : Nat) : Prop := ∀ k, k < M 2 → zG M k < M 1 ∧ zS M k < M 0 ∧ zT M k ≤ M 3 + 120 ∧ e ≤ zE M k
def VD (M : Nat → Nat) : Prop := ∀ i j, i < j → j < M 2 → (zG M i = zG M j ∨ zS M i = zS M j) → zE M i ≤ zT M j ∨ zE M j ≤ zT M i
/-- the kept finishes are of guests and slides that are there; how many are kept of a guest -/
def VK (M : Nat → Nat) : Prop := (∀ k, k < M 4 → zFG M k < M 1 ∧ zFS M k < M 0) ∧ (∀ g, g < M 1 → zc (fun k => decide (zFG M k = g)) (M 4) ≤ zR M g ∧ (M 4 < 16 → zc (fun k => decide (zFG M k = g)) (M 4) = zR M g))
def VF (M : Nat → Nat) : Prop := (∀ k, k < M 4 → zFM M k ≤ M 3) ∧ ((∀ i j, i ≤ j → j < M 4 → zFM M j ≤ zFM M i) ∧ VK M)
def VC (M : Nat → Nat) : Prop := zs (zC M) (M 1) + M 7 = 50 * M 1 ∧ zs (fun k => zP M (zS M k)) (M 2) ≤ M 7
/-! the office's rows against the model's -/
def OS (M : Nat → Nat) (sc : Int32) (sd sp sw : Nat → Int32) : Prop := sc = nI (M 0) ∧ ∀ k, k < M 0 → sd k = nI (zD M k) ∧ sp k = nI (zP M k) ∧ sw k = nI (zW M k)
def OG (M : Nat → Nat) (gc : Int32) (gp gr : Nat → Int32) : Prop := gc = nI (M 1) ∧ ∀ k, k < M 1 → gp k = nI (zC M k) ∧ gr k = nI (zR M k)
def OB (M : Nat → Nat) (bc : Int32) (bg bs bt be : Nat → Int32) : Prop := bc = nI (M 2) ∧ ∀ k, k < M 2 → bg k = nI (zG M k) ∧ bs k = nI (zS M k) ∧ bt k = nI (zT M k) ∧ be k = nI (zE M k)
def OQ (M : Nat → Nat) (ql qg : Nat → Int32) : Prop := ∀ k, k < 4 → ql k = nI (zQ M k) ∧ ∀ j, j < zQ M k → qg (k * 5 + j) = nI (zq M k j)
def OF (M : Nat → Nat) (fc : Int32) (fg fs fm : Nat → Int32) : Prop := fc = nI (M 4) ∧ ∀ r, r < M 4 → fg r = nI (zFG M (M 4 - 1 - r)) ∧ fs r = nI (zFS M (M 4 - 1 - r)) ∧ fm r = nI (zFM M (M 4 - 1 - r))
def ON (M : Nat → Nat) (on ot op os : Int32) : Prop := on = nI (M 3) ∧ ot = nI (M 7) ∧ op = nI (M 6) ∧ os = nI (M 5)
