/-! ===== the reference's FETCH ===== -/
theorem i_and0 {x y : Int} (hx : 0 ≤ x ∧ x < 2147483648) (hy : 0 ≤ y ∧ y < 2147483648) : oand x (oxor y (-1)) = 0 ↔ ∀ i, 0 ≤ i → tb x i = true → tb y i = true := by
  constructor
  · intro h i hi ht
    have := tb_not (i := i) hx hy
    rw [h, tb_0, ht, Bool.true_and] at this
    cases hb : tb y i with
    | true => rfl
    | false => rw [hb] at this; cases this
  · intro h
    refine tb_ext (by rw [i_not hx hy]; omega) (by decide) fun i hi => ?_
    rw [tb_not hx hy, tb_0]
    cases hb : tb x i with
    | false => rfl
    | true => rw [h i hi hb]; rfl
theorem xw_gt {x p : Int} (hx : 0 ≤ x) (hp : 0 ≤ p) (h : tb x p = false) : x < xw x p true := by
  have e : x = xw (xw x p true) p false := by
    refine tb_ext hx (by unfold xw; omega) fun i hi => ?_
    rw [tb_xw hp hi, tb_xw hp hi]
    by_cases z : i = p
    · rw [if_pos z, z, h]
    · rw [if_neg z, if_neg z]
  have e2 : xw x p true = ((x.toNat ||| 2 ^ p.toNat : Nat) : Int) := rfl
  have l : x.toNat ≤ x.toNat ||| 2 ^ p.toNat := Nat.left_le_or
  rcases Nat.lt_or_ge x.toNat (x.toNat ||| 2 ^ p.toNat) with q | q
  · rw [e2]; omega
  · have : xw x p true = x := by rw [e2]; omega
    have t := tb_xw (x := x) (p := p) (i := p) hp hp true
    rw [this, h, if_pos rfl] at t
    cases t
theorem sub_le {x y : Int} (hx : 0 ≤ x) (hy : 0 ≤ y) (h : ∀ i, 0 ≤ i → tb x i = true → tb y i = true) : x ≤ y := by
  have e : x.toNat &&& y.toNat = x.toNat := Nat.eq_of_testBit_eq fun i => by
    rw [Nat.testBit_and]
    have := h (i : Int) (by omega)
    unfold tb at this
    rw [Int.toNat_natCast] at this
    cases hb : x.toNat.testBit i with
    | false => rfl
    | true => rw [this hb]; rfl
  have l : x.toNat &&& y.toNat ≤ y.toNat := Nat.and_le_right
  rw [e] at l
  omega
/-- the least of some, with -1 or with a great number at first -/
theorem least2 (P : Int → Bool) (w : Int → Int) {n : Int} (hn : 0 ≤ n) (hw : ∀ o, 0 ≤ o → o < n → P o = true → 0 ≤ w o ∧ w o ≤ 1000000) : ((∀ o, 0 ≤ o → o < n → P o = false) ∧ itI (fun o b => if P o = true then (if b < 0 ∨ w o < b then w o else b) else b) (-1) n = -1 ∧ itI (fun o b => if P o = true then min b (w o) else b) 1000000 n = 1000000) ∨ (itI (fun o b => if P o = true then (if b < 0 ∨ w o < b then w o else b) else b) (-1) n = itI (fun o b => if P o = true then min b (w o) else b) 1000000 n ∧ 0 ≤ itI (fun o b => if P o = true then min b (w o) else b) 1000000 n ∧ itI (fun o b => if P o = true then min b (w o) else b) 1000000 n ≤ 1000000) := by
  have key : ∀ m : Nat, (m : Int) ≤ n → ((∀ o, 0 ≤ o → o < (m : Int) → P o = false) ∧ itI (fun o b => if P o = true then (if b < 0 ∨ w o < b then w o else b) else b) (-1) (m : Int) = -1 ∧ itI (fun o b => if P o = true then min b (w o) else b) 1000000 (m : Int) = 1000000) ∨ (itI (fun o b => if P o = true then (if b < 0 ∨ w o < b then w o else b) else b) (-1) (m : Int) = itI (fun o b => if P o = true then min b (w o) else b) 1000000 (m : Int) ∧ 0 ≤ itI (fun o b => if P o = true then min b (w o) else b) 1000000 (m : Int) ∧ itI (fun o b => if P o = true then min b (w o) else b) 1000000 (m : Int) ≤ 1000000) := by
    intro m
    induction m with
    | zero => intro _; exact Or.inl ⟨fun o a b => by omega, rfl, rfl⟩
    | succ m ih =>
      intro hm
      rw [Int.natCast_succ, itI_s _ _ (by omega), itI_s _ _ (by omega)]
      have hwm := hw (m : Int) (by omega) (by omega)
      have ih := ih (by omega)
      generalize itI (fun o b => if P o = true then (if b < 0 ∨ w o < b then w o else b) else b) (-1) (m : Int) = x at *
      generalize itI (fun o b => if P o = true then min b (w o) else b) 1000000 (m : Int) = y at *
      by_cases q : P (m : Int) = true
      · have hwm := hwm q
        rw [if_pos q, if_pos q]
        refine Or.inr ?_
        rcases ih with ⟨_, e1, e2⟩ | ⟨e1, e2, e3⟩
        · rw [e1, e2, if_pos (Or.inl (by decide))]; omega
        · rw [e1]
          by_cases z : w (m : Int) < y
          · rw [if_pos (Or.inr z)]; omega
          · rw [if_neg (by omega)]; omega
      · rw [if_neg q, if_neg q]
        rcases ih with ⟨e0, e1, e2⟩ | ih
        · refine Or.inl ⟨fun o a b => ?_, e1, e2⟩
          by_cases z : o = (m : Int)
          · rw [z]; cases hb : P (m : Int) with
            | true => exact absurd hb q
            | false => rfl
          · exact e0 o a (by omega)
        · exact Or.inr ih
  have := key n.toNat (by omega)
  rw [Int.toNat_of_nonneg hn] at this
  exact this
theorem itI_more {α : Type} (f : Int → α → α) (a : α) {n : Int} (hn : 0 ≤ n) : ∀ m : Nat, (∀ j x, n ≤ j → j < n + (m : Int) → f j x = x) → itI f a (n + (m : Int)) = itI f a n := by
  intro m
  induction m with
  | zero => intro _; rw [show n + ((0 : Nat) : Int) = n by omega]
  | succ m ih =>
    intro h
    rw [show n + ((m + 1 : Nat) : Int) = n + (m : Int) + 1 by omega, itI_s _ _ (by omega), h _ _ (by omega) (by omega)]
    exact ih fun j x a b => h j x a (by omega)
theorem itI_ext {α : Type} {f g : Int → α → α} (a : α) {n : Int} (hn : 0 ≤ n) (h : ∀ j x, 0 ≤ j → j < n → f j x = g j x) : itI f a n = itI g a n := by
  have key : ∀ m : Nat, (m : Int) ≤ n → itI f a (m : Int) = itI g a (m : Int) := by
    intro m
    induction m with
    | zero => intro _; rfl
    | succ m ih =>
      intro hm
      rw [Int.natCast_succ, itI_s _ _ (by omega), itI_s _ _ (by omega), ih (by omega)]
      exact h _ _ (by omega) (by omega)
  have := key n.toNat (by omega)
  rw [Int.toNat_of_nonneg hn] at this
  exact this
/-- what is left of all, if some are done -/
def lft (all done : Int) : Int := bI (fun i => tb all i && !(tb done i)) 8
theorem lft_bd (all done : Int) : 0 ≤ lft all done ∧ lft all done < 256 := bI_lt _ 8
theorem tb_lft {all done i : Int} (hi : 0 ≤ i) (ha : all < 256) : tb (lft all done) i = (tb all i && !(tb done i)) := by
  unfold lft
  rw [tb_bI _ _ hi]
  rcases Int.lt_or_le i 8 with q | q
  · rw [decide_eq_true q, Bool.true_and]
  · rw [decide_eq_false (by omega), tb_big 8 (by exact ha) q]; rfl
theorem lft_s {all done o : Int} (ha : all < 256) (ho : 0 ≤ o) : lft all (xw done o true) = xw (lft all done) o false := by
  refine tb_ext (lft_bd _ _).1 (by unfold xw; omega) fun i hi => ?_
  rw [tb_lft hi ha, tb_xw ho hi, tb_xw ho hi, tb_lft hi ha]
  by_cases e : i = o
  · rw [if_pos e, if_pos e]; simp
  · rw [if_neg e, if_neg e]
/-- the table is right at one place -/
def tgo (τ σ : cvM) (e all done c : Int) : Prop := ∀ f, p8 (lft all done) ≤ f → τ 122 (8 * done + c) = shm σ e f c (lft all done)
