/-! ===== NUMBERS: ints of the machine and whole numbers ===== -/
theorem i_rt {v : Int} (h : InR v) : (Int32.ofInt v).toInt = v := by
  rw [Int32.toInt_ofInt]
  exact Int.bmod_eq_of_le (by have := h.1; simp only [Int32.size]; omega) (by have := h.2; simp only [Int32.size]; omega)
theorem i_of (x : Int32) : Int32.ofInt x.toInt = x := Int32.ofInt_toInt x
theorem i_in (x : Int32) : InR x.toInt := ⟨by have := Int32.le_toInt x; omega, by have := Int32.toInt_lt x; omega⟩
theorem wr_in (z : Int) : InR (wr z) := by unfold wr; constructor <;> omega
theorem wr_id {z : Int} (h : InR z) : wr z = z := by unfold wr; have := h.1; have := h.2; omega
theorem i_bm (z : Int) : z.bmod 4294967296 = wr z := by
  unfold wr
  rw [Int.bmod_def]
  split <;> omega
theorem i_wr (z : Int) : Int32.ofInt (wr z) = Int32.ofInt z := by
  apply Int32.toInt_inj.mp
  rw [i_rt (wr_in z), Int32.toInt_ofInt]
  exact (i_bm z).symm
theorem i_tw (z : Int) : (Int32.ofInt z).toInt = wr z := by rw [← i_wr, i_rt (wr_in z)]
theorem o_add (x y : Int) : Int32.ofInt (oadd x y) = Int32.ofInt x + Int32.ofInt y := by unfold oadd; rw [i_wr, Int32.ofInt_add]
theorem o_sub (x y : Int) : Int32.ofInt (osub x y) = Int32.ofInt x - Int32.ofInt y := by unfold osub; rw [i_wr, Int32.ofInt_sub]
theorem o_mul (x y : Int) : Int32.ofInt (omul x y) = Int32.ofInt x * Int32.ofInt y := by unfold omul; rw [i_wr, Int32.ofInt_mul]
theorem o_neg (x : Int) : Int32.ofInt (oneg x) = -Int32.ofInt x := by unfold oneg; rw [i_wr, Int32.ofInt_neg]
theorem o_and (x y : Int) : Int32.ofInt (oand x y) = Int32.ofInt x &&& Int32.ofInt y := i_of _
theorem o_or (x y : Int) : Int32.ofInt (oor x y) = Int32.ofInt x ||| Int32.ofInt y := i_of _
theorem o_xor (x y : Int) : Int32.ofInt (oxor x y) = Int32.ofInt x ^^^ Int32.ofInt y := i_of _
theorem o_shl (x y : Int) : Int32.ofInt (oshl x y) = Int32.ofInt x <<< (Int32.ofInt y &&& 31) := i_of _
theorem o_shr (x y : Int) : Int32.ofInt (oshr x y) = Int32.ofInt x >>> (Int32.ofInt y &&& 31) := i_of _
theorem o_ushr (x y : Int) : Int32.ofInt (oushr x y) = ((Int32.ofInt x).toUInt32 >>> ((Int32.ofInt y).toUInt32 &&& Int32.toUInt32 31)).toInt32 := i_of _
theorem dv_t (x y : Int) : x.tdiv y = dv x y := by
  unfold dv
  split
  · exact Int.tdiv_eq_ediv_of_nonneg (by assumption)
  · have h : 0 ≤ -x := by omega
    rw [← Int.tdiv_eq_ediv_of_nonneg h, Int.neg_tdiv, Int.neg_neg]
theorem rmd_t (x y : Int) : x.tmod y = rmd x y := by
  unfold rmd
  split
  · exact Int.tmod_eq_emod_of_nonneg (by assumption)
  · have h : 0 ≤ -x := by omega
    rw [← Int.tmod_eq_emod_of_nonneg h, Int.neg_tmod, Int.neg_neg]
theorem o_div {x y : Int} (hx : InR x) (hy : InR y) : Int32.ofInt (odiv x y) = Int32.ofInt x / Int32.ofInt y := by
  apply Int32.toInt_inj.mp
  rw [Int32.toInt_div, i_rt hx, i_rt hy, dv_t]
  unfold odiv
  rw [i_rt (wr_in _)]
  exact (i_bm _).symm
theorem rmd_d (x y : Int) : rmd x y = x - dv x y * y := by
  rw [← rmd_t, ← dv_t, Int.tmod_def, Int.mul_comm]
theorem em_nn {x : Int} (h : 0 ≤ x) (y : Int) : 0 ≤ x % y := by
  by_cases hy : y = 0
  · subst hy; rw [Int.emod_zero]; exact h
  · exact Int.emod_nonneg x hy
theorem em_le {x : Int} (h : 0 ≤ x) (y : Int) : x % y ≤ x := by
  have key : ∀ m : Nat, x % (m : Int) ≤ x := by
    intro m
    obtain ⟨n, rfl⟩ := Int.eq_ofNat_of_zero_le h
    rw [← Int.natCast_emod]
    exact Int.ofNat_le.mpr (Nat.mod_le n m)
  rcases Int.natAbs_eq y with e | e <;> rw [e]
  · exact key _
  · rw [Int.emod_neg]; exact key _
theorem rmd_in {x y : Int} (hx : InR x) : InR (rmd x y) := by
  have := hx.1; have := hx.2
  unfold rmd
  by_cases h : 0 ≤ x
  · rw [if_pos h]
    have h1 := em_nn h y
    have h2 : x % y ≤ x := em_le h y
    constructor <;> omega
  · rw [if_neg h]
    have h0 : 0 ≤ -x := by omega
    have h1 := em_nn h0 y
    have h2 : (-x) % y ≤ -x := em_le h0 y
    constructor <;> omega
theorem o_rem {x y : Int} (hx : InR x) (hy : InR y) : Int32.ofInt (rmd x y) = Int32.ofInt x - Int32.ofInt x / Int32.ofInt y * Int32.ofInt y := by
  rw [rmd_d, ← o_div hx hy]
  unfold odiv
  rw [i_wr, ← Int32.ofInt_mul, ← Int32.ofInt_sub]
theorem q_lt {x y : Int} (hx : InR x) (hy : InR y) : Int32.ofInt x < Int32.ofInt y ↔ x < y := by rw [Int32.lt_iff_toInt_lt, i_rt hx, i_rt hy]
theorem q_le {x y : Int} (hx : InR x) (hy : InR y) : Int32.ofInt x ≤ Int32.ofInt y ↔ x ≤ y := by rw [Int32.le_iff_toInt_le, i_rt hx, i_rt hy]
theorem q_eq {x y : Int} (hx : InR x) (hy : InR y) : Int32.ofInt x = Int32.ofInt y ↔ x = y := by rw [← Int32.toInt_inj, i_rt hx, i_rt hy]
theorem ob_in (x : Int) : InR (ob x) := by unfold ob; constructor <;> omega
theorem os_in (x : Int) : InR (os x) := by unfold os; constructor <;> omega
theorem o_b (x : Int) : (Int32.ofInt x).toInt8.toInt32 = Int32.ofInt (ob x) := by
  apply Int32.toInt_inj.mp
  rw [Int8.toInt_toInt32, Int32.toInt_toInt8, i_rt (ob_in x), i_tw, Int.bmod_def]
  unfold ob wr
  split <;> omega
theorem o_s (x : Int) : (Int32.ofInt x).toInt16.toInt32 = Int32.ofInt (os x) := by
  apply Int32.toInt_inj.mp
  rw [Int16.toInt_toInt32, Int32.toInt_toInt16, i_rt (os_in x), i_tw, Int.bmod_def]
  unfold os wr
  split <;> omega
theorem l_rt {v : Int} (h : InL v) : (Int64.ofInt v).toInt = v := by
  rw [Int64.toInt_ofInt]
  exact Int.bmod_eq_of_le (by have := h.1; simp only [Int64.size]; omega) (by have := h.2; simp only [Int64.size]; omega)
theorem l_of (x : Int64) : Int64.ofInt x.toInt = x := Int64.ofInt_toInt x
theorem l_in (x : Int64) : InL x.toInt := ⟨by have := Int64.le_toInt x; omega, by have := Int64.toInt_lt x; omega⟩
theorem o_l2i {x : Int} (hx : InL x) : (Int64.ofInt x).toInt32 = Int32.ofInt (wr x) := by
  apply Int32.toInt_inj.mp
  rw [Int64.toInt_toInt32, l_rt hx, i_rt (wr_in x)]
  exact i_bm x
theorem o_i2l {x : Int} (hx : InR x) : (Int32.ofInt x).toInt64 = Int64.ofInt x := by
  apply Int64.toInt_inj.mp
  rw [Int32.toInt_toInt64, i_rt hx, l_rt ⟨by have := hx.1; omega, by have := hx.2; omega⟩]
theorem o_cl {i : Int} {n : Nat} (hi : InR i) (h0 : 0 ≤ i) (hn : i < n) : vp_in (Int32.ofInt i) n := vp_in_iff.mpr (by rw [i_rt hi]; exact ⟨h0, hn⟩)
theorem o_tn {i : Int} (hi : InR i) : (Int32.ofInt i).toNatClampNeg = i.toNat := by
  show (Int32.ofInt i).toInt.toNat = _
  rw [i_rt hi]
