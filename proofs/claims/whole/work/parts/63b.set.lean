/-! sets as ints -/
def tb (x p : Int) : Bool := x.toNat.testBit p.toNat
def xw (x p : Int) (q : Bool) : Int := (wb x.toNat p.toNat q : Int)
/-- the set of those under n, as a number -/
def bI (P : Int → Bool) (n : Int) : Int := (bs (fun i : Nat => P (i : Int)) n.toNat : Int)
theorem i_tb {x p : Int} (hx : 0 ≤ x ∧ x < 2147483648) (hp : 0 ≤ p ∧ p < 32) : oand (oshr x p) 1 = if tb x p = true then 1 else 0 := by
  have := n_bit (a := x.toNat) (p := p.toNat) (by omega) (by omega)
  rw [Int.toNat_of_nonneg hx.1, Int.toNat_of_nonneg hp.1] at this
  exact this
theorem two_nat (n : Nat) : ((2 ^ n : Nat) : Int) = (2 : Int) ^ n := Int.natCast_pow 2 n
theorem i_shl1 {p : Int} (h : 0 ≤ p ∧ p < 31) : oshl 1 p = ((2 ^ p.toNat : Nat) : Int) := by
  have := n_shl1 (p := p.toNat) (by omega)
  rw [Int.toNat_of_nonneg h.1] at this
  exact this
theorem i_wb {x p : Int} (n : Nat) (h : n ≤ 31) (hx : 0 ≤ x ∧ x < ((2 ^ n : Nat) : Int)) (hp : 0 ≤ p ∧ p < (n : Int)) (q : Bool) : (if q = true then oor x (oshl 1 p) else oand x (oxor (oshl 1 p) (-1))) = xw x p q := by
  have := n_wb (x := x.toNat) (p := p.toNat) (n := n) h (by omega) (by omega) q
  rw [Int.toNat_of_nonneg hx.1, Int.toNat_of_nonneg hp.1] at this
  exact this
theorem tb_xw {x p i : Int} (hp : 0 ≤ p) (hi : 0 ≤ i) (q : Bool) : tb (xw x p q) i = if i = p then q else tb x i := by
  unfold tb xw
  rw [Int.toNat_natCast, wb_tb]
  by_cases h : i = p
  · rw [if_pos (by omega), if_pos h]
  · rw [if_neg (by omega), if_neg h]
theorem xw_lt {x p : Int} {q : Bool} (n : Nat) (hx : 0 ≤ x ∧ x < ((2 ^ n : Nat) : Int)) (hp : 0 ≤ p ∧ p < (n : Int)) : 0 ≤ xw x p q ∧ xw x p q < ((2 ^ n : Nat) : Int) := by
  have := wb_lt (x := x.toNat) (p := p.toNat) (n := n) (q := q) (by omega) (by omega)
  unfold xw
  omega
theorem tb_bI (P : Int → Bool) (n : Int) {i : Int} (hi : 0 ≤ i) : tb (bI P n) i = (decide (i < n) && P i) := by
  unfold tb bI
  rw [Int.toNat_natCast, bs_tb, Int.toNat_of_nonneg hi]
  congr 1
  by_cases h : i < n
  · rw [decide_eq_true h, decide_eq_true (by omega)]
  · rw [decide_eq_false h, decide_eq_false (by omega)]
theorem bI_lt (P : Int → Bool) (n : Int) : 0 ≤ bI P n ∧ bI P n < ((2 ^ n.toNat : Nat) : Int) := by
  have := bs_lt (fun i : Nat => P (i : Int)) n.toNat
  unfold bI
  omega
theorem bI_le (P : Int → Bool) (n : Int) (m : Nat) (h : n ≤ m) : 0 ≤ bI P n ∧ bI P n < ((2 ^ m : Nat) : Int) := by
  have h1 := bI_lt P n
  have h2 : 2 ^ n.toNat ≤ 2 ^ m := Nat.pow_le_pow_right (by decide) (by omega)
  omega
theorem bI_ext {P Q : Int → Bool} {n : Int} (h : ∀ i : Int, 0 ≤ i → i < n → P i = Q i) : bI P n = bI Q n := by
  unfold bI
  rw [bs_ext fun i hi => h i (by omega) (by omega)]
theorem bI_0 (P : Int → Bool) : bI P 0 = 0 := rfl
theorem bI_xw (P : Int → Bool) {n : Int} (h : 0 ≤ n) : xw (bI P n) n (P n) = bI P (n + 1) := by
  unfold xw bI
  rw [Int.toNat_natCast, show (n + 1).toNat = n.toNat + 1 by omega, bs, Int.toNat_of_nonneg h]
theorem tb_ext {x y : Int} (hx : 0 ≤ x) (hy : 0 ≤ y) (h : ∀ i : Int, 0 ≤ i → tb x i = tb y i) : x = y := by
  have : x.toNat = y.toNat := Nat.eq_of_testBit_eq fun i => by
    have := h i (Int.natCast_nonneg i)
    unfold tb at this
    rw [Int.toNat_natCast] at this
    exact this
  omega
theorem tb_big {x i : Int} (n : Nat) (hx : x < ((2 ^ n : Nat) : Int)) (hi : (n : Int) ≤ i) : tb x i = false := tb_hi (n := n) (by
  have := Nat.two_pow_pos n
  omega) (by omega)
theorem bI_of {x : Int} (n : Int) (hx : 0 ≤ x ∧ x < ((2 ^ n.toNat : Nat) : Int)) : bI (fun i => tb x i) n = x := by
  refine tb_ext (bI_lt _ _).1 hx.1 fun i hi => ?_
  rw [tb_bI _ _ hi]
  by_cases h : i < n
  · rw [decide_eq_true h, Bool.true_and]
  · rw [decide_eq_false h, Bool.false_and, tb_big n.toNat hx.2 (by omega)]
/-- x, and p if q -/
theorem i_or {x p : Int} (n : Nat) (h : n ≤ 31) (hx : 0 ≤ x ∧ x < ((2 ^ n : Nat) : Int)) (hp : 0 ≤ p ∧ p < (n : Int)) : oor x (oshl 1 p) = xw x p true := i_wb n h hx hp true
theorem xw_same {x p : Int} (hx : 0 ≤ x) (hp : 0 ≤ p) {q : Bool} (h : tb x p = q) : xw x p q = x := by
  refine tb_ext (by unfold xw; omega) hx fun i hi => ?_
  rw [tb_xw hp hi]
  by_cases e : i = p
  · rw [if_pos e, e, h]
  · rw [if_neg e]
/-- how many are in a set of numbers under 12 -/
def pcI (x : Int) : Int := (pc x.toNat 12 : Int)
