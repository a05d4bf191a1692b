/-! ===== the search that cuts off, and all orders ===== -/
abbrev Cd := List (Int × Int) × Int
def lastT (l : List (Int × Int)) : Int := (l.getLastD (0, 0)).2
/-- what is kept: less late first, then an earlier end, then who came first -/
def better (b : Option Cd) (c : Cd) : Option Cd := match b with
  | none => some c
  | some d => if c.2 < d.2 ∨ (c.2 = d.2 ∧ lastT c.1 < lastT d.1) then some c else some d
def okL (b : Option Cd) (x : Int) : Bool := match b with
  | none => true
  | some d => decide (x ≤ d.2)
section
variable (arr : Int → Int → Int → Int → Option Int) (tk : Int → Int → Int) (lt : Int → Int → Int)
def alls : Nat → Int → Int → Int → Int → List (Int × Int) → Int → List Cd
  | 0, _, _, _, L, pre, _ => [(pre, L)]
  | k + 1, a, t, D, L, pre, R => (sl (tb R) 8).flatMap fun c => match arr a t D c with
    | none => []
    | some u => alls k c u (tk t D) (L + lt c u) (pre ++ [(c, u)]) (xw R c false)
def dfs : Nat → Int → Int → Int → Int → List (Int × Int) → Int → Option Cd → Option Cd
  | 0, _, _, _, L, pre, _, b => better b (pre, L)
  | k + 1, a, t, D, L, pre, R, b => (sl (tb R) 8).foldl (fun b c => match arr a t D c with
    | none => b
    | some u => if okL b (L + lt c u) = true then dfs k c u (tk t D) (L + lt c u) (pre ++ [(c, u)]) (xw R c false) b else b) b
theorem alls_ge (h : ∀ c u, 0 ≤ lt c u) : ∀ k a t D L pre R, ∀ x ∈ alls arr tk lt k a t D L pre R, L ≤ x.2 := by
  intro k
  induction k with
  | zero =>
    intro a t D L pre R x hx
    rw [alls, List.mem_singleton] at hx
    rw [hx]
    exact Int.le_refl _
  | succ k ih =>
    intro a t D L pre R x hx
    rw [alls, List.mem_flatMap] at hx
    obtain ⟨c, _, hx⟩ := hx
    cases e : arr a t D c with
    | none => rw [e] at hx; exact absurd hx (List.not_mem_nil)
    | some u =>
      rw [e] at hx
      have := ih c u (tk t D) (L + lt c u) (pre ++ [(c, u)]) (xw R c false) x hx
      have := h c u
      omega
theorem better_no {d : Cd} : ∀ l : List Cd, (∀ x ∈ l, d.2 < x.2) → l.foldl better (some d) = some d := by
  intro l
  induction l with
  | nil => intro _; rfl
  | cons x l ih =>
    intro hx
    have h1 := hx x (List.mem_cons_self)
    have e : better (some d) x = some d := by
      unfold better
      exact if_neg (by omega)
    rw [List.foldl_cons, e]
    exact ih fun y hy => hx y (List.mem_cons_of_mem _ hy)
theorem dfs_alls (h : ∀ c u, 0 ≤ lt c u) : ∀ k a t D L pre R b, dfs arr tk lt k a t D L pre R b = (alls arr tk lt k a t D L pre R).foldl better b := by
  intro k
  induction k with
  | zero => intro a t D L pre R b; rfl
  | succ k ih =>
    intro a t D L pre R b
    rw [dfs, alls]
    generalize sl (tb R) 8 = l
    induction l generalizing b with
    | nil => rfl
    | cons c l ih2 =>
      rw [List.foldl_cons, List.flatMap_cons, List.foldl_append, ih2]
      congr 1
      cases e : arr a t D c with
      | none => rfl
      | some u =>
        show (if okL b (L + lt c u) = true then _ else b) = (alls arr tk lt k c u (tk t D) (L + lt c u) (pre ++ [(c, u)]) (xw R c false)).foldl better b
        by_cases q : okL b (L + lt c u) = true
        · rw [if_pos q, ih]
        · rw [if_neg q]
          cases b with
          | none => exact absurd rfl q
          | some d =>
            refine (better_no _ fun x hx => ?_).symm
            have h1 := alls_ge arr tk lt h k c u (tk t D) (L + lt c u) (pre ++ [(c, u)]) (xw R c false) x hx
            have h2 : ¬ L + lt c u ≤ d.2 := fun y => q (decide_eq_true y)
            omega
/-- one order ridden -/
def ride : List Int → Int → Int → Int → Option (List (Int × Int))
  | [], _, _, _ => some []
  | c :: l, a, t, D => match arr a t D c with
    | none => none
    | some u => (ride l c u (tk t D)).map ((c, u) :: ·)
def lates (l : List (Int × Int)) : Int := l.foldr (fun x s => lt x.1 x.2 + s) 0
end
def picks {α : Type} : List α → List (α × List α)
  | [] => []
  | x :: l => (x, l) :: (picks l).map fun p => (p.1, x :: p.2)
def perms {α : Type} : Nat → List α → List (List α)
  | 0, _ => [[]]
  | n + 1, l => (picks l).flatMap fun p => (perms n p.2).map (p.1 :: ·)
theorem picks_app {α : Type} (l : List α) (x : α) : picks (l ++ [x]) = (picks l).map (fun p => (p.1, p.2 ++ [x])) ++ [(x, l)] := by
  induction l with
  | nil => rfl
  | cons y l ih =>
    simp only [List.cons_append, picks, ih, List.map_append, List.map_cons, List.map_map, List.map_nil]
    rfl
theorem picks_map {α β : Type} (f : α → β) (l : List α) : picks (l.map f) = (picks l).map fun p => (f p.1, p.2.map f) := by
  induction l with
  | nil => rfl
  | cons y l ih =>
    rw [List.map_cons, picks, picks, ih, List.map_cons, List.map_map, List.map_map]
    rfl
theorem perms_map {α β : Type} (f : α → β) : ∀ (n : Nat) (l : List α), perms n (l.map f) = (perms n l).map (List.map f) := by
  intro n
  induction n with
  | zero => intro l; rfl
  | succ n ih =>
    intro l
    rw [perms, perms, picks_map]
    generalize picks l = P
    induction P with
    | nil => rfl
    | cons p P ih2 =>
      rw [List.map_cons, List.flatMap_cons, List.flatMap_cons, List.map_append, ih2, ih, List.map_map, List.map_map]
      rfl
theorem picks_sl (P : Int → Bool) (n : Nat) : picks (sl P (n : Int)) = (sl P (n : Int)).map fun c => (c, sl (fun i => P i && !decide (i = c)) (n : Int)) := by
  induction n with
  | zero => rfl
  | succ n ih =>
    have s : ∀ Q : Int → Bool, sl Q ((n + 1 : Nat) : Int) = sl Q (n : Int) ++ (if Q (n : Int) = true then [(n : Int)] else []) := fun Q => sl_s Q (n := (n : Int)) (Int.natCast_nonneg n)
    have far : ∀ c ∈ sl P (n : Int), sl (fun i => P i && !decide (i = c)) ((n + 1 : Nat) : Int) = sl (fun i => P i && !decide (i = c)) (n : Int) ++ (if P (n : Int) = true then [(n : Int)] else []) := fun c hc => by
      have := (sl_mem.mp hc).2.1
      rw [s]
      show _ ++ (if (P (n : Int) && !decide ((n : Int) = c)) = true then [(n : Int)] else []) = _
      rw [decide_eq_false (by omega), Bool.not_false, Bool.and_true]
    rw [s P]
    by_cases q : P (n : Int) = true
    · rw [if_pos q, picks_app, ih, List.map_append, List.map_map, List.map_cons, List.map_nil]
      congr 1
      · refine List.map_congr_left fun c hc => ?_
        rw [far c hc, if_pos q]
        rfl
      · rw [s]
        show [((n : Int), sl P (n : Int))] = [((n : Int), sl (fun i => P i && !decide (i = (n : Int))) (n : Int) ++ (if (P (n : Int) && !decide ((n : Int) = (n : Int))) = true then [(n : Int)] else []))]
        rw [decide_eq_true rfl, Bool.not_true, Bool.and_false, if_neg (by decide), List.append_nil]
        rw [sl_ext (P := fun i => P i && !decide (i = (n : Int))) (Q := P) fun i i0 i1 => by rw [decide_eq_false (by omega), Bool.not_false, Bool.and_true]]
    · rw [if_neg q, List.append_nil, ih]
      refine List.map_congr_left fun c hc => ?_
      rw [far c hc, if_neg q, List.append_nil]
theorem fm_congr {α β : Type} {f g : α → Option β} {l : List α} (h : ∀ x, f x = g x) : l.filterMap f = l.filterMap g := by
  rw [show f = g from funext h]
theorem alls_perms (arr : Int → Int → Int → Int → Option Int) (tk : Int → Int → Int) (lt : Int → Int → Int) : ∀ k a t D L pre R, 0 ≤ R → alls arr tk lt k a t D L pre R = (perms k (sl (tb R) 8)).filterMap fun l => (ride arr tk l a t D).map fun g => (pre ++ g, L + lates lt g) := by
  intro k
  induction k with
  | zero =>
    intro a t D L pre R _
    show [(pre, L)] = [(pre ++ [], L + 0)]
    rw [List.append_nil, Int.add_zero]
  | succ k ih =>
    intro a t D L pre R hR
    have hp := picks_sl (tb R) 8
    rw [show ((8 : Nat) : Int) = 8 from rfl] at hp
    rw [alls, perms, hp]
    have hm : ∀ c ∈ sl (tb R) 8, 0 ≤ c := fun c hc => (sl_mem.mp hc).1
    generalize sl (tb R) 8 = l at hm ⊢
    induction l with
    | nil => rfl
    | cons c l ih2 =>
      rw [List.map_cons, List.flatMap_cons, List.flatMap_cons, List.filterMap_append, ih2 fun x hx => hm x (List.mem_cons_of_mem _ hx), List.filterMap_map]
      congr 1
      have c0 := hm c List.mem_cons_self
      have e : sl (tb (xw R c false)) 8 = sl (fun i => tb R i && !decide (i = c)) 8 := sl_ext fun i i0 i1 => by
        rw [tb_xw c0 i0]
        by_cases z : i = c
        · rw [if_pos z, decide_eq_true z, Bool.not_true, Bool.and_false]
        · rw [if_neg z, decide_eq_false z, Bool.not_false, Bool.and_true]
      cases h : arr a t D c with
      | none =>
        refine (List.filterMap_eq_nil_iff.mpr fun x _ => ?_).symm
        show (ride arr tk (c :: x) a t D).map _ = none
        rw [ride, h]
        rfl
      | some u =>
        show alls arr tk lt k c u (tk t D) (L + lt c u) (pre ++ [(c, u)]) (xw R c false) = _
        rw [ih _ _ _ _ _ _ (by unfold xw; omega), e]
        refine fm_congr fun x => ?_
        show _ = (ride arr tk (c :: x) a t D).map _
        rw [ride, h]
        show _ = ((ride arr tk x c u (tk t D)).map ((c, u) :: ·)).map _
        cases ride arr tk x c u (tk t D) with
        | none => rfl
        | some g =>
          show some (pre ++ [(c, u)] ++ g, L + lt c u + lates lt g) = some (pre ++ ((c, u) :: g), L + lates lt ((c, u) :: g))
          rw [List.append_assoc]
          show some (pre ++ ((c, u) :: g), L + lt c u + lates lt g) = some (pre ++ ((c, u) :: g), L + (lt c u + lates lt g))
          rw [Int.add_assoc]
