/-! ===== numbers without wrapping; sets as bits ===== -/
theorem n_add {x y : Int} (h : -2147483648 ≤ x + y ∧ x + y < 2147483648) : oadd x y = x + y := wr_id h
theorem n_sub {x y : Int} (h : -2147483648 ≤ x - y ∧ x - y < 2147483648) : osub x y = x - y := wr_id h
theorem n_mul {x y : Int} (h : -2147483648 ≤ x * y ∧ x * y < 2147483648) : omul x y = x * y := wr_id h
theorem n_div {x y : Int} (h : 0 ≤ x ∧ x < 2147483648 ∧ 0 < y) : odiv x y = x / y := by
  unfold odiv dv
  rw [if_pos h.1]
  refine wr_id ⟨?_, ?_⟩
  · have := Int.ediv_nonneg h.1 (Int.le_of_lt h.2.2)
    omega
  · have := Int.ediv_le_self (b := y) h.1
    have := h.2.1
    omega
theorem n_rmd {x y : Int} (h : 0 ≤ x) : rmd x y = x % y := if_pos h
theorem n_max (x y : Int) : omax x y = max x y := by
  unfold omax
  rw [Int.max_def]
  split <;> split <;> omega
theorem n_min (x y : Int) : omin x y = min x y := by
  unfold omin
  rw [Int.min_def]
  split <;> split <;> omega
theorem bv_int {x : BitVec 32} {a : Nat} (h : x.toNat = a) (ha : a < 2147483648) : x.toInt = (a : Int) := by
  rw [BitVec.toInt_eq_toNat_of_lt (by rw [h]; show 2 * a < 4294967296; omega), h]
theorem bv_nat {a : Nat} (ha : a < 2147483648) : (BitVec.ofNat 32 a).toNat = a := by
  rw [BitVec.toNat_ofNat]
  exact Nat.mod_eq_of_lt (by show a < 4294967296; omega)
theorem n_and {a b : Nat} (ha : a < 2147483648) (hb : b < 2147483648) : oand (a : Int) (b : Int) = ((a &&& b : Nat) : Int) := by
  unfold oand
  rw [← Int32.toInt_toBitVec, Int32.toBitVec_and, Int32.toBitVec_ofInt, Int32.toBitVec_ofInt, BitVec.ofInt_natCast, BitVec.ofInt_natCast]
  exact bv_int (by rw [BitVec.toNat_and, bv_nat ha, bv_nat hb]) (Nat.lt_of_le_of_lt Nat.and_le_left ha)
theorem n_or {a b : Nat} (ha : a < 2147483648) (hb : b < 2147483648) : oor (a : Int) (b : Int) = ((a ||| b : Nat) : Int) := by
  unfold oor
  rw [← Int32.toInt_toBitVec, Int32.toBitVec_or, Int32.toBitVec_ofInt, Int32.toBitVec_ofInt, BitVec.ofInt_natCast, BitVec.ofInt_natCast]
  exact bv_int (by rw [BitVec.toNat_or, bv_nat ha, bv_nat hb]) (Nat.or_lt_two_pow (n := 31) ha hb)
theorem n_xor {a b : Nat} (ha : a < 2147483648) (hb : b < 2147483648) : oxor (a : Int) (b : Int) = ((a ^^^ b : Nat) : Int) := by
  unfold oxor
  rw [← Int32.toInt_toBitVec, Int32.toBitVec_xor, Int32.toBitVec_ofInt, Int32.toBitVec_ofInt, BitVec.ofInt_natCast, BitVec.ofInt_natCast]
  exact bv_int (by rw [BitVec.toNat_xor, bv_nat ha, bv_nat hb]) (Nat.xor_lt_two_pow (n := 31) ha hb)
theorem n_not {a b : Nat} (ha : a < 2147483648) (hb : b < 2147483648) : oand (a : Int) (oxor (b : Int) (-1)) = ((a ^^^ (a &&& b) : Nat) : Int) := by
  unfold oand oxor
  rw [i_of, ← Int32.toInt_toBitVec, Int32.toBitVec_and, Int32.toBitVec_xor, Int32.toBitVec_ofInt, Int32.toBitVec_ofInt, BitVec.ofInt_natCast, BitVec.ofInt_natCast]
  have e : BitVec.ofNat 32 a &&& (BitVec.ofNat 32 b ^^^ (Int32.ofInt (-1)).toBitVec) = BitVec.ofNat 32 (a ^^^ (a &&& b)) := by
    rw [show (Int32.ofInt (-1)).toBitVec = BitVec.allOnes 32 from by decide]
    apply BitVec.eq_of_getLsbD_eq
    intro i hi
    simp only [BitVec.getLsbD_and, BitVec.getLsbD_xor, BitVec.getLsbD_ofNat, BitVec.getLsbD_allOnes, Nat.testBit_xor, Nat.testBit_and, hi, decide_true, Bool.true_and]
    cases a.testBit i <;> cases b.testBit i <;> rfl
  rw [e]
  have h1 : (a ^^^ (a &&& b)) < 2147483648 := Nat.xor_lt_two_pow (n := 31) ha (Nat.lt_of_le_of_lt Nat.and_le_left ha)
  exact bv_int (bv_nat h1) h1
theorem n_shl1 {p : Nat} (h : p < 31) : oshl 1 (p : Int) = ((2 ^ p : Nat) : Int) := by
  have key : ∀ p : Fin 31, oshl 1 ((p : Nat) : Int) = ((2 ^ (p : Nat) : Nat) : Int) := by decide +kernel
  exact key ⟨p, h⟩
theorem n_shr {a p : Nat} (ha : a < 2147483648) (hp : p < 32) : oshr (a : Int) (p : Int) = ((a >>> p : Nat) : Int) := by
  unfold oshr
  rw [← Int32.toInt_toBitVec, Int32.toBitVec_shiftRight, Int32.toBitVec_ofInt, BitVec.ofInt_natCast]
  have key : ∀ p : Fin 32, ((Int32.ofInt ((p : Nat) : Int) &&& 31).toBitVec.smod 32) = BitVec.ofNat 32 (p : Nat) := by decide +kernel
  rw [key ⟨p, hp⟩]
  have hm : (BitVec.ofNat 32 a).msb = false := by
    rw [BitVec.msb_eq_decide, decide_eq_false_iff_not, bv_nat ha]
    show ¬ 2147483648 ≤ a
    omega
  refine bv_int ?_ (Nat.lt_of_le_of_lt (Nat.shiftRight_le a p) ha)
  rw [BitVec.sshiftRight', BitVec.sshiftRight_eq_of_msb_false hm, BitVec.toNat_ushiftRight, bv_nat ha, bv_nat (by omega)]
theorem n_bit {a p : Nat} (ha : a < 2147483648) (hp : p < 32) : oand (oshr (a : Int) (p : Int)) 1 = if a.testBit p = true then 1 else 0 := by
  rw [n_shr ha hp]
  have := n_and (a := a >>> p) (b := 1) (Nat.lt_of_le_of_lt (Nat.shiftRight_le a p) ha) (by decide)
  rw [show ((1 : Nat) : Int) = 1 from rfl] at this
  rw [this, Nat.testBit]
  have h2 : (a >>> p) &&& 1 = (a >>> p) % 2 := Nat.and_one_is_mod _
  rw [Nat.and_comm 1, h2]
  rcases Nat.mod_two_eq_zero_or_one (a >>> p) with h | h <;> rw [h] <;> rfl
/-- bit p of a set becomes q -/
def wb (x p : Nat) (q : Bool) : Nat := if q = true then x ||| 2 ^ p else x ^^^ (x &&& 2 ^ p)
theorem wb_tb (x p : Nat) (q : Bool) (i : Nat) : (wb x p q).testBit i = if i = p then q else x.testBit i := by
  unfold wb
  by_cases hq : q = true
  · rw [if_pos hq, Nat.testBit_or, Nat.testBit_two_pow, hq]
    by_cases hi : i = p
    · rw [if_pos hi, decide_eq_true hi.symm, Bool.or_true]
    · rw [if_neg hi, decide_eq_false (fun h => hi h.symm), Bool.or_false]
  · rw [if_neg hq, Nat.testBit_xor, Nat.testBit_and, Nat.testBit_two_pow]
    by_cases hi : i = p
    · rw [if_pos hi, decide_eq_true hi.symm, Bool.and_true, Bool.xor_self]
      exact (Bool.eq_false_iff.mpr hq).symm
    · rw [if_neg hi, decide_eq_false (fun h => hi h.symm), Bool.and_false, Bool.xor_false]
theorem tb_lt {x n : Nat} (h : ∀ i, n ≤ i → x.testBit i = false) : x < 2 ^ n := Nat.lt_pow_two_of_testBit x h
theorem tb_hi {x n i : Nat} (h : x < 2 ^ n) (hi : n ≤ i) : x.testBit i = false := Nat.testBit_lt_two_pow (Nat.lt_of_lt_of_le h (Nat.pow_le_pow_right (by decide) hi))
theorem wb_lt {x p n : Nat} {q : Bool} (hx : x < 2 ^ n) (hp : p < n) : wb x p q < 2 ^ n := tb_lt fun i hi => by
  rw [wb_tb, if_neg (by omega)]
  exact tb_hi hx hi
/-- the numbers under n for which P holds, as bits -/
def bs (P : Nat → Bool) : Nat → Nat
  | 0 => 0
  | n + 1 => wb (bs P n) n (P n)
theorem bs_lt (P : Nat → Bool) : ∀ n, bs P n < 2 ^ n
  | 0 => Nat.one_pos
  | n + 1 => wb_lt (Nat.lt_of_lt_of_le (bs_lt P n) (Nat.pow_le_pow_right (by decide) (Nat.le_succ n))) (Nat.lt_succ_self n)
theorem bs_tb (P : Nat → Bool) : ∀ n i, (bs P n).testBit i = (decide (i < n) && P i)
  | 0, i => by rw [bs, Nat.zero_testBit, decide_eq_false (Nat.not_lt_zero i), Bool.false_and]
  | n + 1, i => by
    rw [bs, wb_tb, bs_tb P n i]
    by_cases h : i = n
    · subst h
      rw [if_pos rfl, decide_eq_true (Nat.lt_succ_self i), Bool.true_and]
    · rw [if_neg h]
      by_cases h2 : i < n
      · rw [decide_eq_true h2, decide_eq_true (Nat.lt_succ_of_lt h2)]
      · rw [decide_eq_false h2, decide_eq_false (by omega)]
theorem bs_ext {P Q : Nat → Bool} {n : Nat} (h : ∀ i, i < n → P i = Q i) : bs P n = bs Q n := by
  apply Nat.eq_of_testBit_eq
  intro i
  rw [bs_tb, bs_tb]
  by_cases hi : i < n
  · rw [h i hi]
  · rw [decide_eq_false hi, Bool.false_and, Bool.false_and]
theorem bs_of {x n : Nat} (h : x < 2 ^ n) : bs (fun i => x.testBit i) n = x := by
  apply Nat.eq_of_testBit_eq
  intro i
  rw [bs_tb]
  by_cases hi : i < n
  · rw [decide_eq_true hi, Bool.true_and]
  · rw [decide_eq_false hi, Bool.false_and, tb_hi h (by omega)]
theorem bs_or (P : Nat → Bool) (n : Nat) (q : Bool) (h : P n = q) : (if q = true then bs P n ||| 2 ^ n else bs P n) = bs P (n + 1) := by
  rw [bs, h]
  apply Nat.eq_of_testBit_eq
  intro i
  rw [wb_tb]
  cases q with
  | true =>
    rw [if_pos rfl, Nat.testBit_or, Nat.testBit_two_pow]
    by_cases hi : i = n
    · rw [if_pos hi, decide_eq_true hi.symm, Bool.or_true]
    · rw [if_neg hi, decide_eq_false (fun h => hi h.symm), Bool.or_false]
  | false =>
    rw [if_neg (by decide)]
    by_cases hi : i = n
    · rw [if_pos hi, hi]
      exact tb_hi (bs_lt P n) (Nat.le_refl n)
    · rw [if_neg hi]
theorem n_wb {x p n : Nat} (h : n ≤ 31) (hx : x < 2 ^ n) (hp : p < n) (q : Bool) : (if q = true then oor (x : Int) (oshl 1 (p : Int)) else oand (x : Int) (oxor (oshl 1 (p : Int)) (-1))) = (wb x p q : Int) := by
  have h31 : x < 2147483648 := Nat.lt_of_lt_of_le hx (Nat.pow_le_pow_right (by decide) h)
  have hp2 : 2 ^ p < 2147483648 := Nat.lt_of_lt_of_le (Nat.pow_lt_pow_right (by decide) hp) (Nat.pow_le_pow_right (by decide) h)
  rw [n_shl1 (by omega)]
  unfold wb
  by_cases hq : q = true
  · rw [if_pos hq, if_pos hq, n_or h31 hp2]
  · rw [if_neg hq, if_neg hq, n_not h31 hp2]
/-- how many numbers under n are in a set -/
def pc (x : Nat) : Nat → Nat
  | 0 => 0
  | n + 1 => pc x n + if x.testBit n = true then 1 else 0
theorem pc_le (x : Nat) : ∀ n, pc x n ≤ n
  | 0 => Nat.le_refl 0
  | n + 1 => by have := pc_le x n; unfold pc; split <;> omega
theorem pc_hi {x n : Nat} (h : x < 2 ^ n) : ∀ m, pc x (n + m) = pc x n
  | 0 => rfl
  | m + 1 => by
    show pc x (n + m) + (if x.testBit (n + m) = true then 1 else 0) = _
    rw [tb_hi h (Nat.le_add_right n m), pc_hi h m]
    rfl
/-- Integer.bitCount on small sets -/
def bcJ (x : Int) : Int :=
  let a := osub x (oand (oushr x 1) 1431655765)
  let b := oadd (oand a 858993459) (oand (oushr a 2) 858993459)
  let c := oand (oadd b (oushr b 4)) 252645135
  let d := oadd c (oushr c 8)
  let e := oadd d (oushr d 16)
  oand e 63
set_option maxRecDepth 100000 in
theorem bcJ_ok : (List.range 4096).all (fun x => decide (bcJ (x : Int) = (pc x 12 : Int))) = true := by decide +kernel
theorem bcJ_pc {x : Nat} (h : x < 4096) : bcJ (x : Int) = (pc x 12 : Int) := of_decide_eq_true (List.all_eq_true.mp bcJ_ok x (List.mem_range.mpr h))
