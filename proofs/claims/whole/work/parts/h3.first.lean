/-! ===== the first memory ===== -/
def PM : List Nat := [0, 1, 20, 2, 4, 6, 8, 10, 12, 14, 16, 17, 18, 19, 21, 23, 25, 27, 29, 31, 33, 35, 36, 37, 38, 3, 5, 7, 9, 11, 13, 15, 22, 24, 26, 28, 30, 32, 34, 39, 40, 41, 42, 43, 44, 45, 46, 47, 48, 49, 50, 51, 52, 53, 54, 55, 56, 57, 58, 59, 60, 61, 62, 63, 64, 65, 66, 67, 68, 69, 70, 71, 72, 73, 74, 75, 76, 77, 78, 79, 80, 81, 82, 83, 84, 85, 86, 87, 88, 89, 90, 91, 92, 93, 94, 95, 96, 97, 98, 99, 100, 101, 102, 103, 104, 105, 106, 107, 108, 109, 110, 111, 112, 113, 114, 115, 116, 117, 118, 119, 120, 121, 122, 123, 124, 125, 126, 127, 128, 129, 130]
def S0 : List (List Int) := [[0, 0, 0, 0, 0, 0, 0, 0, 0, 0, 0, 0], [0, 0, 0, 0, 0, 0, 0, 0, 0, 0, 0, 0, 0], [0, 0, 0, 0, 0, 0, 0, 0, 0, 0, 0, 0, 0], [5, 8, 0, 0], [5, 12, 0, 0], [4, 3, 0, 0], [4, 8, 0, 0], [5, 40, 0, 0], [2, 16, 0, 0], [5, 8, 0, 0], List.replicate 64 60, [], [4, 4, 11, 4], [], [5, 8, 0, 0], [5, 12, 0, 0], [4, 3, 0, 0], [4, 8, 0, 0], [5, 40, 0, 0], [2, 16, 0, 0], [5, 8, 0, 0], List.replicate 64 60, [], [4, 4, 11, 4], [], [], [], [], [], [], [], [], [], [], [], [], [], [], [], [0, 0, 0, 0, 0, 0, 0, 0, 0, 0, 0, -3], [], [], [], [], [], [], [0, 0, 0, 0, 0, 0, 0, 0, 0], [0, 0, 0], [], [], [], [], [], [], [], [3, 8, 0, 0], [], [0, 0, 0, 0], [0, 0, 0], [], [], [], [0, 0], [], [0, 0, 0, 0, 0, 0, 0], [], [], [], [5, 8, 0, 0], [], [0, 0], [], [0, 0, 0, 0, 0, 0, 0, 0, 0, -3], [], [], [], [], [], [], [0, 0, 0, 0, 0, 0, 0, 0, 0, -1, 0, 0], [-1, -1, -1, -1], [], [], [4, 4, 4, 4], [], [], [], List.replicate 64 0, [], [], List.replicate 64 60, [], [], [4, 4, 11, 4], [], [], [], [], [], [], [], [], [], [], [], [], [], [], [], [], [], [], [], [], [], [], [], [], [], [], [], [], [], [-1, -1, -1, -1], [], [], [-1, -1, -1, -1], [], [], [], []]
/-- what the cells hold when both are built -/
def sg0 : cvM := fun k i => if 0 ≤ k ∧ 0 ≤ i then (S0.getD k.toNat []).getD i.toNat 0 else 0
def ckF (q : cvL) (v : List Int) (x : kc) : Bool := match q, x with
  | .inl (c, fs), .inl (c', ks) => decide (c = c') && (decide (fs.length = ks.length) && (List.range fs.length).all fun j => match fs.getD j none with
    | none => decide (ks.getD j (9, 0) = (0, v.getD j 0))
    | some r => decide (ks.getD j (9, 0) = (3, (PM.getD r.toNat 0 : Int))))
  | .inr n, .inr (m, a) => decide (n = m) && decide (v = a)
  | _, _ => false
set_option maxRecDepth 20000 in
theorem ck_all : (List.range 131).all (fun k => ckF (LAY.getD k (.inr 0)) (S0.getD k []) (lC_3.getD (PM.getD k 0) (.inr (0, [])))) = true := by decide +kernel
theorem PM_lt : ∀ k : Nat, k < 131 → PM.getD k 0 < 131 := by decide +kernel
theorem PM_inj : ∀ i : Nat, i < 131 → ∀ j : Nat, j < 131 → PM.getD i 0 = PM.getD j 0 → i = j := by decide +kernel
theorem LAY_n : LAY.length = 131 := by decide +kernel
theorem lC_n : lC_3.length = 131 := by decide +kernel
theorem S0_in : ∀ l ∈ S0, ∀ x ∈ l, -2147483648 ≤ x ∧ x < 2147483648 := by decide +kernel
theorem sg0_at (k j : Nat) : sg0 (k : Int) (j : Int) = (S0.getD k []).getD j 0 := by
  unfold sg0
  rw [if_pos ⟨by omega, by omega⟩, Int.toNat_natCast, Int.toNat_natCast]
theorem getD_mem_or {α : Type} (l : List α) (j : Nat) (d : α) : l.getD j d = d ∨ l.getD j d ∈ l := by
  by_cases h : j < l.length
  · rw [List.getD_eq_getElem?_getD, List.getElem?_eq_getElem h]
    exact Or.inr (List.getElem_mem h)
  · rw [List.getD_eq_getElem?_getD, List.getElem?_eq_none (by omega)]
    exact Or.inl rfl
theorem sg0_in (k i : Int) : -2147483648 ≤ sg0 k i ∧ sg0 k i < 2147483648 := by
  unfold sg0
  by_cases z : 0 ≤ k ∧ 0 ≤ i
  · rw [if_pos z]
    rcases getD_mem_or S0 k.toNat [] with e | e
    · rw [e, show ([] : List Int).getD i.toNat 0 = 0 from rfl]
      decide
    · rcases getD_mem_or (S0.getD k.toNat []) i.toNat 0 with e2 | e2
      · rw [e2]
        decide
      · exact S0_in _ e _ e2
  · rw [if_neg z]
    decide
theorem ck_E {cA : ClassId} {h0 sz : Nat} {av : List Value} {q : cvL} {x : kc} (k : Nat) (h : ckF q (S0.getD k []) x = true) : kce cA h0 sz av x = cellE cA (fun i => sz + PM.getD i 0) (sg0 (k : Int)) q := by
  match q, x with
  | .inl (c, fs), .inl (c', ks) =>
    have h : (decide (c = c') && (decide (fs.length = ks.length) && (List.range fs.length).all fun j => match fs.getD j none with
      | none => decide (ks.getD j (9, 0) = (0, (S0.getD k []).getD j 0))
      | some r => decide (ks.getD j (9, 0) = (3, (PM.getD r.toNat 0 : Int))))) = true := h
    rw [Bool.and_eq_true, Bool.and_eq_true, decide_eq_true_eq, decide_eq_true_eq] at h
    obtain ⟨rfl, hl, ha⟩ := h
    show Sum.inr (c, ks.map (kcv h0 sz av)) = Sum.inr (c, fs.mapIdx fun j o => slotV (fun i => sz + PM.getD i 0) (sg0 (k : Int) j) o)
    refine congrArg (fun l => Sum.inr (c, l)) (List.ext_getElem (by rw [List.length_map, List.length_mapIdx, hl]) fun j h1 h2 => ?_)
    rw [List.length_map] at h1
    rw [List.getElem_map, List.getElem_mapIdx]
    have hj := List.all_eq_true.mp ha j (List.mem_range.mpr (by omega))
    have e1 : ks.getD j (9, 0) = ks[j] := by
      rw [List.getD_eq_getElem?_getD, List.getElem?_eq_getElem h1]
      rfl
    have h3 : j < fs.length := by omega
    have e2 : fs.getD j none = fs[j] := by
      rw [List.getD_eq_getElem?_getD, List.getElem?_eq_getElem h3]
      rfl
    rw [e1, e2] at hj
    rw [sg0_at k j]
    cases ef : fs[j] with
    | none =>
      rw [ef] at hj
      rw [of_decide_eq_true hj]
      rfl
    | some r =>
      rw [ef] at hj
      rw [of_decide_eq_true hj]
      show Value.ref (sz + ((PM.getD r.toNat 0 : Nat) : Int).toNat) = Value.ref (sz + PM.getD r.toNat 0)
      rw [Int.toNat_natCast]
  | .inr n, .inr (m, a) =>
    have h : (decide (n = m) && decide (S0.getD k [] = a)) = true := h
    rw [Bool.and_eq_true, decide_eq_true_eq, decide_eq_true_eq] at h
    obtain ⟨rfl, rfl⟩ := h
    show Sum.inl (cA, n, Sum.inl fun j => Int32.ofInt ((S0.getD k []).getD j 0)) = Sum.inl (cA, n, Sum.inl fun j : Nat => Int32.ofInt (sg0 (k : Int) (j : Int)))
    refine congrArg (fun f => Sum.inl (cA, n, Sum.inl f)) (funext fun j => ?_)
    rw [sg0_at]
  | .inl _, .inr _ => cases h
  | .inr _, .inl _ => cases h
theorem first_P {D : va_G} {cA : ClassId} {h0 sz : Nat} {av : List Value} {H : Heap} (h : va_P D classes (kws cA h0 sz av lC_3) H) : va_P D classes (wld cA (fun i => sz + PM.getD i 0) sg0) H := by
  intro k q hk
  unfold wld at hk
  rw [List.getElem?_mapIdx] at hk
  cases hl : LAY[k]? with
  | none =>
    rw [hl] at hk
    cases hk
  | some x =>
    rw [hl] at hk
    have hk : some (sz + PM.getD k 0, cellE cA (fun i => sz + PM.getD i 0) (sg0 (k : Int)) x) = some q := hk
    injection hk with hk
    have k1 : k < 131 := by
      have := (List.getElem?_eq_some_iff.mp hl).1
      rw [LAY_n] at this
      exact this
    have hc := List.all_eq_true.mp ck_all k (List.mem_range.mpr k1)
    have p1 : PM.getD k 0 < lC_3.length := by
      rw [lC_n]
      exact PM_lt k k1
    rw [show LAY.getD k (.inr 0) = x by rw [List.getD_eq_getElem?_getD, hl]; rfl, show lC_3.getD (PM.getD k 0) (.inr (0, [])) = lC_3[PM.getD k 0] by rw [List.getD_eq_getElem?_getD, List.getElem?_eq_getElem p1]; rfl] at hc
    have e := ck_E (cA := cA) (h0 := h0) (sz := sz) (av := av) k hc
    have w := kws_at (cA := cA) (h0 := h0) (sz := sz) (av := av) (List.getElem?_eq_getElem p1)
    rw [← hk, ← e]
    exact h _ _ w
theorem first_A (sz : Nat) : Ap (fun q => sz ≤ q) (fun i => sz + PM.getD i 0) := by
  refine ⟨fun i j hi hj e => ?_, fun k _ => Nat.le_add_right _ _⟩
  rw [LAY_n] at hi hj
  exact PM_inj i hi j hj (by have e : sz + PM.getD i 0 = sz + PM.getD j 0 := e; omega)
