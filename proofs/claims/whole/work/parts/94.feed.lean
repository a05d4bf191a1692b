/-! ===== bytes; feed ===== -/
theorem oand_255 (z : Int) : oand z 255 = z % 256 := by
  unfold oand
  have h1 : ((Int32.ofInt z &&& Int32.ofInt 255).toBitVec).toNat = (BitVec.ofInt 32 z).toNat % 256 := by
    show (BitVec.ofInt 32 z &&& 255#32).toNat = _
    rw [BitVec.toNat_and]
    exact Nat.and_two_pow_sub_one_eq_mod _ 8
  have h2 : (BitVec.ofInt 32 z).toNat = (z % 4294967296).toNat := BitVec.toNat_ofInt (n := 32) z
  show ((Int32.ofInt z &&& Int32.ofInt 255).toBitVec).toInt = _
  generalize (Int32.ofInt z &&& Int32.ofInt 255).toBitVec = b at h1
  rw [BitVec.toInt_eq_toNat_of_lt (by omega), h1, h2]
  omega
theorem oland_255 (z : Int) : oland z 255 = z % 256 := by
  unfold oland
  have h1 : ((Int64.ofInt z &&& Int64.ofInt 255).toBitVec).toNat = (BitVec.ofInt 64 z).toNat % 256 := by
    show (BitVec.ofInt 64 z &&& 255#64).toNat = _
    rw [BitVec.toNat_and]
    exact Nat.and_two_pow_sub_one_eq_mod _ 8
  have h2 : (BitVec.ofInt 64 z).toNat = (z % 18446744073709551616).toNat := BitVec.toNat_ofInt (n := 64) z
  show ((Int64.ofInt z &&& Int64.ofInt 255).toBitVec).toInt = _
  generalize (Int64.ofInt z &&& Int64.ofInt 255).toBitVec = b at h1
  rw [BitVec.toInt_eq_toNat_of_lt (by omega), h1, h2]
  omega
theorem byte_8 (a : Int) {s : Nat} (hs : s ≤ 56) (e1 : (((Int32.ofInt (s : Int)).toInt64 &&& 63).toBitVec.smod 64).toNat = s) (e2 : ((Int32.ofInt (s : Int)).toInt64.toUInt64 &&& Int64.toUInt64 63).toNat % 64 = s) : oand (wr (olshr a (s : Int))) 255 = wr (oland (olushr a (s : Int)) 255) := by
  rw [oand_255, oland_255]
  have k1 : olshr a (s : Int) = (BitVec.ofInt 64 a).toInt / ((2 ^ s : Nat) : Int) := by
    show ((BitVec.ofInt 64 a).sshiftRight (((Int32.ofInt (s : Int)).toInt64 &&& 63).toBitVec.smod 64).toNat).toInt = _
    rw [e1, BitVec.toInt_sshiftRight, Int.shiftRight_eq_div_pow]
  have k3 : ∀ b : BitVec 64, b.toInt = (b.toNat : Int) ∨ b.toInt = (b.toNat : Int) - 18446744073709551616 := fun b => by
    rw [BitVec.toInt_eq_toNat_cond]
    split
    · exact Or.inl rfl
    · exact Or.inr rfl
  have k2 : olushr a (s : Int) % 256 = (((BitVec.ofInt 64 a).toNat / 2 ^ s : Nat) : Int) % 256 := by
    show (BitVec.toInt (BitVec.ofInt 64 a >>> (((Int32.ofInt (s : Int)).toInt64.toUInt64 &&& Int64.toUInt64 63).toBitVec % 64))) % 256 = _
    have g : (BitVec.ofInt 64 a >>> (((Int32.ofInt (s : Int)).toInt64.toUInt64 &&& Int64.toUInt64 63).toBitVec % 64)).toNat = (BitVec.ofInt 64 a).toNat / 2 ^ s := by
      show (BitVec.ofInt 64 a >>> (((Int32.ofInt (s : Int)).toInt64.toUInt64 &&& Int64.toUInt64 63).toBitVec % 64).toNat).toNat = _
      rw [BitVec.toNat_ushiftRight, Nat.shiftRight_eq_div_pow]
      have e3 : (((Int32.ofInt (s : Int)).toInt64.toUInt64 &&& Int64.toUInt64 63).toBitVec % 64).toNat = s := e2
      rw [e3]
    rcases k3 (BitVec.ofInt 64 a >>> (((Int32.ofInt (s : Int)).toInt64.toUInt64 &&& Int64.toUInt64 63).toBitVec % 64)) with e | e
    · rw [e, g]
    · rw [e, g]; omega
  have k4 : (BitVec.ofInt 64 a).toInt / ((2 ^ s : Nat) : Int) % 256 = (((BitVec.ofInt 64 a).toNat / 2 ^ s : Nat) : Int) % 256 := by
    rcases k3 (BitVec.ofInt 64 a) with e | e
    · rw [e]; rfl
    · have pw : (2 : Nat) ^ s * (256 * 2 ^ (56 - s)) = 18446744073709551616 := by
        rw [show (256 : Nat) = 2 ^ 8 from rfl, ← Nat.pow_add, ← Nat.pow_add, show s + (8 + (56 - s)) = 64 by omega]
      have pwi : ((2 ^ s : Nat) : Int) * (-((256 * 2 ^ (56 - s) : Nat) : Int)) = -18446744073709551616 := by
        rw [Int.mul_neg, ← Int.natCast_mul, pw]
        rfl
      have pos := Nat.two_pow_pos s
      rw [e, Int.sub_eq_add_neg, ← pwi, Int.add_mul_ediv_left _ _ (by omega)]
      show ((((BitVec.ofInt 64 a).toNat / 2 ^ s : Nat) : Int) + -((256 * 2 ^ (56 - s) : Nat) : Int)) % 256 = _
      omega
  rw [k1, k2]
  unfold wr
  generalize (BitVec.ofInt 64 a).toNat / 2 ^ s = N at k4 ⊢
  generalize (BitVec.ofInt 64 a).toInt / ((2 ^ s : Nat) : Int) = M at k4 ⊢
  omega
theorem byte_at (a : Int) {i : Int} (h : 0 ≤ i ∧ i < 8) : oand (wr (olshr a (8 * i))) 255 = wr (oland (olushr a (8 * i)) 255) := by
  have c : i = 0 ∨ i = 1 ∨ i = 2 ∨ i = 3 ∨ i = 4 ∨ i = 5 ∨ i = 6 ∨ i = 7 := by omega
  rcases c with e | e | e | e | e | e | e | e <;> subst e
  · exact byte_8 a (s := 0) (by decide) (by decide +kernel) (by decide +kernel)
  · exact byte_8 a (s := 8) (by decide) (by decide +kernel) (by decide +kernel)
  · exact byte_8 a (s := 16) (by decide) (by decide +kernel) (by decide +kernel)
  · exact byte_8 a (s := 24) (by decide) (by decide +kernel) (by decide +kernel)
  · exact byte_8 a (s := 32) (by decide) (by decide +kernel) (by decide +kernel)
  · exact byte_8 a (s := 40) (by decide) (by decide +kernel) (by decide +kernel)
  · exact byte_8 a (s := 48) (by decide) (by decide +kernel) (by decide +kernel)
  · exact byte_8 a (s := 56) (by decide) (by decide +kernel) (by decide +kernel)
theorem byte_lt (z : Int) : 0 ≤ oand z 255 ∧ oand z 255 ≤ 255 := by
  rw [oand_255]
  omega
