/-! ===== the first memory keeps the invariant ===== -/
theorem sg0_n (k : Nat) {i : Int} (h : 0 ≤ i) : sg0 (k : Int) i = (S0.getD k []).getD i.toNat 0 := by
  unfold sg0
  rw [if_pos ⟨by omega, h⟩, Int.toNat_natCast]
theorem z88 : ∀ j : Nat, j < 8 → sg0 88 (j : Int) = 0 := by decide +kernel
theorem o_64 : ∀ j : Nat, j < 64 → sg0 10 (j : Int) = sg0 90 (j : Int) ∧ 1 ≤ sg0 90 (j : Int) ∧ sg0 90 (j : Int) ≤ 300 := by decide +kernel
theorem o_24 : ∀ j : Nat, j < 24 → sg0 11 (j : Int) = sg0 91 (j : Int) ∧ 0 ≤ sg0 91 (j : Int) ∧ sg0 91 (j : Int) ≤ 200 := by decide +kernel
theorem o_4 : ∀ j : Nat, j < 4 → sg0 12 (j : Int) = sg0 93 (j : Int) ∧ 0 ≤ sg0 93 (j : Int) ∧ sg0 93 (j : Int) < 16 := by decide +kernel
theorem o_44 : ∀ p : Nat, p < 4 → ∀ q : Nat, q < 4 → tb (sg0 93 (p : Int)) (q : Int) = tb (sg0 93 (q : Int)) (p : Int) := by decide +kernel
theorem o_12 : ∀ j : Nat, j < 12 → sg0 13 (j : Int) = 0 := by decide +kernel
theorem WR_0 : WR sg0 := by
  have e1 : sg0 88 1 = 0 := z88 1 (by decide)
  have e2 : sg0 88 2 = 0 := z88 2 (by decide)
  have e3 : sg0 88 3 = 0 := z88 3 (by decide)
  have e4 : sg0 88 4 = 0 := z88 4 (by decide)
  have e5 : sg0 88 5 = 0 := z88 5 (by decide)
  have e6 : sg0 88 6 = 0 := z88 6 (by decide)
  have e7 : sg0 88 7 = 0 := z88 7 (by decide)
  have up : ∀ {P : Int → Prop} {n : Nat}, (∀ j : Nat, j < n → P (j : Int)) → ∀ i : Int, 0 ≤ i → i < (n : Int) → P i := fun h i i0 i1 => by
    have := h i.toNat (by omega)
    rw [Int.toNat_of_nonneg i0] at this
    exact this
  refine ⟨?_, ?_, ?_, ?_, ?_, ?_, ?_, ?_, ?_, ?_, ?_, ?_, ?_, ?_, ?_, ?_, ?_⟩
  · exact ⟨by decide +kernel, by decide +kernel, by decide +kernel, by omega, by omega, fun p j p0 p1 => by omega⟩
  · exact ⟨by decide +kernel, by decide +kernel, by decide +kernel, by omega, by omega, fun p j p0 p1 => by omega⟩
  · exact ⟨by decide +kernel, by decide +kernel, by decide +kernel, by omega, by omega, fun p j p0 p1 => by omega⟩
  · exact ⟨by decide +kernel, by decide +kernel, by decide +kernel, by omega, by omega, fun p j p0 p1 => by omega⟩
  · exact ⟨by decide +kernel, by decide +kernel, by decide +kernel, by omega, by omega, fun p j p0 p1 => by omega⟩
  · exact ⟨by decide +kernel, by decide +kernel, by decide +kernel, by omega, by omega, fun p j p0 p1 => by omega⟩
  · exact ⟨by decide +kernel, by decide +kernel, by decide +kernel, by omega, by omega, fun p j p0 p1 => by omega⟩
  · refine ⟨up fun j hj => (o_64 j hj).1, up fun j hj => (o_24 j hj).1, up fun j hj => (o_4 j hj).1, fun p p0 p1 => by omega, fun p p0 p1 => ?_, ?_, ?_⟩
    · exact up (P := fun p => sg0 13 p = 0) o_12 p (by omega) p1
    · rw [e2]
      decide +kernel
    · decide +kernel
  · exact fun p p0 p1 => by omega
  · exact fun p p0 p1 => by omega
  · exact fun p q p0 p1 => by omega
  · exact fun p p0 p1 => by omega
  · exact fun p p0 p1 => by omega
  · exact fun p p0 p1 => by omega
  · exact fun p p0 p1 => by omega
  · exact fun p p0 p1 => by omega
  · refine ⟨up fun j hj => (o_64 j hj).2, up fun j hj => (o_24 j hj).2, up fun j hj => (o_4 j hj).2, fun p q p0 p1 q0 q1 => ?_, by decide +kernel, by decide +kernel⟩
    have := o_44 p.toNat (by omega) q.toNat (by omega)
    rw [Int.toNat_of_nonneg p0, Int.toNat_of_nonneg q0] at this
    exact this
theorem h_4 : ∀ s : Nat, s < 4 → (sg0 80 (s : Int) = sg0 123 (s : Int) ∧ sg0 123 (s : Int) = -1 ∧ sg0 81 (s : Int) = sg0 124 (s : Int) ∧ sg0 124 (s : Int) = 0) ∧ sg0 126 (s : Int) = -1 ∧ sg0 83 (s : Int) = 4 := by decide +kernel
theorem Inv_0 : Inv sg0 := by
  refine ⟨WR_0, ?_, ?_, fun s s0 s1 => ?_, fun s s0 s1 => ?_, ?_, ?_⟩
  · have e : sg0 87 23 = 0 := by decide +kernel
    exact ⟨by decide +kernel, by decide +kernel, by decide +kernel, by omega, by omega, fun p j p0 p1 => by omega⟩
  · have e : sg0 87 29 = 0 := by decide +kernel
    exact ⟨by decide +kernel, by omega, by omega, fun i i0 i1 => by omega, by decide +kernel, by decide +kernel⟩
  · have h := (h_4 s.toNat (by omega)).1
    rw [Int.toNat_of_nonneg s0] at h
    obtain ⟨h1, h2, h3, h4⟩ := h
    exact ⟨h1, by omega, by omega, h3, by omega, by omega, fun y => by omega⟩
  · have h := (h_4 s.toNat (by omega)).2
    rw [Int.toNat_of_nonneg s0] at h
    exact Or.inl h
  · have e : sg0 87 59 = 0 := by decide +kernel
    exact ⟨by decide +kernel, by omega, by omega, fun i i0 i1 => by omega⟩
  · have e : sg0 0 2 = 0 := by decide +kernel
    refine ⟨by decide +kernel, Or.inl e, fun y => by omega, ?_⟩
    unfold KS
    decide +kernel
