/-! ===== less: who can be split among vans ===== -/
def goodP (σ : cvM) (pl : Int) (v : Int) (s : Nat) (R : Nat → Bool) (p : Nat) : Bool := decide (p &&& s = p) && (R (tdN s p) && decide (0 ≤ lateN σ pl (rdL σ pl) v (p : Int)))
def rcB (σ : cvM) (pl : Int) : Nat → Nat → Bool
  | 0, s => decide (s = 0)
  | k + 1, s => rcB σ pl k s || (List.range (s + 1)).any fun p => decide (1 ≤ p) && goodP σ pl ((vnL σ pl).getD k 0) s (rcB σ pl k) p
def RCl (σ : cvM) (pl : Int) : List Int → Nat → Prop
  | [], s => s = 0
  | v :: vs, s => ∃ p : Nat, p &&& s = p ∧ 0 ≤ lateN σ pl (rdL σ pl) v (p : Int) ∧ RCl σ pl vs (tdN s p)
theorem late0 (σ : cvM) (pl v : Int) (l : List Int) : lateN σ pl l v 0 = 0 := if_pos rfl
theorem td_0 (s : Nat) : tdN s 0 = s := by
  unfold tdN
  rw [Nat.and_zero, Nat.xor_zero]
theorem td_sub {s p q : Nat} (h : q &&& tdN s p = q) : q &&& s = q ∧ ∀ i, q.testBit i = true → p.testBit i = false := by
  have hh := and_tb.mp h
  refine ⟨and_tb.mpr fun i hi => ?_, fun i hi => ?_⟩
  · have := hh i hi
    rw [td_tb] at this
    exact (Bool.and_eq_true_iff.mp this).1
  · have := hh i hi
    rw [td_tb] at this
    have := (Bool.and_eq_true_iff.mp this).2
    rw [Bool.not_eq_true'] at this
    exact this
theorem RCl_swap {σ : cvM} {pl : Int} (v w : Int) (vs : List Int) (s : Nat) (h : RCl σ pl (v :: w :: vs) s) : RCl σ pl (w :: v :: vs) s := by
  obtain ⟨p, p1, p2, q, q1, q2, q3⟩ := h
  obtain ⟨a, b⟩ := td_sub q1
  refine ⟨q, a, q2, p, and_tb.mpr fun i hi => ?_, p2, ?_⟩
  · rw [td_tb, and_tb.mp p1 i hi]
    cases t : q.testBit i
    · rfl
    · have := b i t
      rw [this] at hi
      cases hi
  · have : tdN (tdN s q) p = tdN (tdN s p) q := Nat.eq_of_testBit_eq fun i => by
      rw [td_tb, td_tb, td_tb, td_tb]
      cases s.testBit i <;> cases p.testBit i <;> cases q.testBit i <;> rfl
    rw [this]
    exact q3
theorem RCl_perm {σ : cvM} {pl : Int} {l l' : List Int} (h : l.Perm l') : ∀ s, RCl σ pl l s → RCl σ pl l' s := by
  induction h with
  | nil => intro s h; exact h
  | cons x _ ih => rintro s ⟨p, a, b, c⟩; exact ⟨p, a, b, ih _ c⟩
  | swap x y l => intro s h; exact RCl_swap _ _ _ s h
  | trans _ _ ih1 ih2 => intro s h; exact ih2 s (ih1 s h)
theorem RCl_skip {σ : cvM} {pl : Int} {Q : Int → Bool} (hq : ∀ v, Q v = false → ∀ p : Nat, 0 ≤ lateN σ pl (rdL σ pl) v (p : Int) → p = 0) : ∀ (l : List Int) (s : Nat), RCl σ pl (l.filter Q) s ↔ RCl σ pl l s := by
  intro l
  induction l with
  | nil => intro s; exact Iff.rfl
  | cons v l ih =>
    intro s
    rw [List.filter_cons]
    by_cases z : Q v = true
    · rw [if_pos z]
      exact ⟨fun ⟨p, a, b, c⟩ => ⟨p, a, b, (ih _).mp c⟩, fun ⟨p, a, b, c⟩ => ⟨p, a, b, (ih _).mpr c⟩⟩
    · rw [if_neg z, ih]
      have z' : Q v = false := by cases e : Q v; rfl; exact absurd e z
      constructor
      · intro h
        refine ⟨0, Nat.zero_and s, ?_, by rw [td_0]; exact h⟩
        rw [show ((0 : Nat) : Int) = 0 from rfl, late0]
        exact Int.le_refl 0
      · rintro ⟨p, a, b, c⟩
        have := hq v z' p b
        rw [this, td_0] at c
        exact c
theorem rc_RC {σ : cvM} {pl : Int} : ∀ k, k ≤ (vnL σ pl).length → ∀ s, rcB σ pl k s = true ↔ RCl σ pl ((vnL σ pl).take k).reverse s := by
  intro k
  induction k with
  | zero => intro _ s; show decide (s = 0) = true ↔ s = 0; rw [decide_eq_true_eq]
  | succ k ih =>
    intro hk s
    have hl : k < (vnL σ pl).length := by omega
    have e : ((vnL σ pl).take (k + 1)).reverse = (vnL σ pl).getD k 0 :: ((vnL σ pl).take k).reverse := by
      rw [List.take_succ_eq_append_getElem hl, List.reverse_append, List.getD_eq_getElem?_getD, List.getElem?_eq_getElem hl]
      rfl
    rw [e, rcB, Bool.or_eq_true, List.any_eq_true]
    constructor
    · rintro (h | ⟨p, hp, h⟩)
      · refine ⟨0, Nat.zero_and s, ?_, ?_⟩
        · rw [show ((0 : Nat) : Int) = 0 from rfl, late0]
          exact Int.le_refl 0
        · rw [td_0]
          exact (ih (by omega) s).mp h
      · have h := Bool.and_eq_true_iff.mp h
        have h2 := Bool.and_eq_true_iff.mp h.2
        have h3 := Bool.and_eq_true_iff.mp h2.2
        exact ⟨p, of_decide_eq_true h2.1, of_decide_eq_true h3.2, (ih (by omega) _).mp h3.1⟩
    · rintro ⟨p, a, b, c⟩
      by_cases z : p = 0
      · rw [z, td_0] at c
        exact Or.inl ((ih (by omega) s).mpr c)
      · refine Or.inr ⟨p, List.mem_range.mpr (lt_n a (Nat.lt_succ_self s)), ?_⟩
        unfold goodP
        rw [decide_eq_true (show 1 ≤ p by omega), decide_eq_true a, decide_eq_true b, (ih (by omega) _).mpr c]
        rfl
theorem vn_Q {σ : cvM} (h : WR σ) (pl : Int) : vnL σ pl = ([0, 1, 2] : List Int).filter fun v => decide (v < σ 88 3) && decide (σ 94 (4 * v) = pl) := by
  have c5 := cnt_5 h
  have e : vnL σ pl = sl (fun v => decide (v < σ 88 3) && decide (σ 94 (4 * v) = pl)) 3 := by
    rw [sl_more (fun v => decide (v < σ 88 3) && decide (σ 94 (4 * v) = pl)) c5.2.1 c5.2.2 fun i i0 i1 => by rw [decide_eq_false (by omega), Bool.false_and]]
    exact sl_ext fun i i0 i1 => by rw [decide_eq_true i1, Bool.true_and]
  rw [e]
  rfl
/-- the class's and the reference's way to say it -/
theorem rc_plan {σ : cvM} (h : WR σ) (pl : Int) (s : Nat) : rcB σ pl (vnL σ pl).length s = true ↔ ∃ f c r : Nat, DSN s f c r ∧ v3N σ pl f c r ≠ none := by
  rw [rc_RC _ (Nat.le_refl _), List.take_length]
  have sk : ∀ v, (decide (v < σ 88 3) && decide (σ 94 (4 * v) = pl)) = false → ∀ p : Nat, 0 ≤ lateN σ pl (rdL σ pl) v (p : Int) → p = 0 := fun v hv p hp => by
    by_cases z : p = 0
    · exact z
    · unfold lateN at hp
      rw [if_neg (by omega), if_neg fun y => by
        rw [decide_eq_true y.1.1.1.2, decide_eq_true y.1.1.2] at hv
        cases hv] at hp
      omega
  have p1 : RCl σ pl (vnL σ pl).reverse s ↔ RCl σ pl [0, 1, 2] s := by
    rw [← RCl_skip sk [0, 1, 2] s, ← vn_Q h pl]
    exact ⟨RCl_perm (List.reverse_perm _) s, RCl_perm (List.reverse_perm _).symm s⟩
  rw [p1]
  constructor
  · rintro ⟨f, f1, f2, c, c1, c2, r, r1, r2, r3⟩
    have r3 : tdN (tdN (tdN s f) c) r = 0 := r3
    have e : r = tdN (tdN s f) c := Nat.eq_of_testBit_eq fun i => by
      have a := and_tb.mp r1 i
      have b : (tdN (tdN (tdN s f) c) r).testBit i = false := by rw [r3]; exact Nat.zero_testBit i
      rw [td_tb] at b
      cases q : r.testBit i
      · rw [q] at b
        cases t : (tdN (tdN s f) c).testBit i
        · rfl
        · rw [t] at b; cases b
      · exact (a q).symm
    refine ⟨f, c, tdN s f, ⟨f1, rfl, c1⟩, ?_⟩
    unfold v3N
    rw [e] at r2
    rw [if_pos ⟨⟨f2, c2⟩, r2⟩]
    exact fun y => by cases y
  · rintro ⟨f, c, r, ⟨f1, rfl, c1⟩, hv⟩
    unfold v3N at hv
    by_cases q : (0 ≤ lateN σ pl (rdL σ pl) 0 (f : Int) ∧ 0 ≤ lateN σ pl (rdL σ pl) 1 (c : Int)) ∧ 0 ≤ lateN σ pl (rdL σ pl) 2 (tdN (tdN s f) c : Int)
    · refine ⟨f, f1, q.1.1, c, c1, q.1.2, tdN (tdN s f) c, Nat.and_self _, q.2, ?_⟩
      show tdN (tdN (tdN s f) c) (tdN (tdN s f) c) = 0
      unfold tdN
      rw [Nat.and_self, Nat.xor_self]
    · rw [if_neg q] at hv
      exact absurd rfl hv
/-- the least to leave out -/
def lsO (a b : Nat) : Prop := pc a 12 < pc b 12 ∨ (pc a 12 = pc b 12 ∧ a < b)
def leO (F : Nat → Prop) (A o : Nat) : Prop := o ≤ A ∧ F o ∧ ∀ a, a ≤ A → F a → ¬ lsO a o
theorem leO_uniq {F : Nat → Prop} {A o o' : Nat} (h : leO F A o) (h' : leO F A o') : o = o' := by
  have a := h.2.2 o' h'.1 h'.2.1
  have b := h'.2.2 o h.1 h.2.1
  unfold lsO at a b
  omega
