/-! ===== THE INVARIANT of the two halves ===== -/
def itN {α : Type} (f : Int → α → α) (a : α) : Nat → α
  | 0 => a
  | n + 1 => f (n : Int) (itN f a n)
def itI {α : Type} (f : Int → α → α) (a : α) (n : Int) : α := itN f a n.toNat
theorem itI_0 {α : Type} (f : Int → α → α) (a : α) : itI f a 0 = a := rfl
theorem itI_s {α : Type} (f : Int → α → α) (a : α) {n : Int} (h : 0 ≤ n) : itI f a (n + 1) = f n (itI f a n) := by
  unfold itI
  rw [show (n + 1).toNat = n.toNat + 1 by omega, itN, Int.toNat_of_nonneg h]
/-- what is kept, as the world -/
def keptv (σ : cvM) : cvM := fun k i => if k = 1 then σ 2 i else if 3 ≤ k ∧ k ≤ 13 then σ (k + 11) i else if 25 ≤ k ∧ k ≤ 31 then σ (k + 7) i else if k = 88 then σ 130 i else if k = 89 then σ 130 (8 + i) else if k = 90 then σ 130 (48 + i) else if k = 91 then σ 130 (112 + i) else if k = 92 then σ 130 (136 + i) else if k = 93 then σ 130 (220 + i) else if k = 94 then σ 130 (224 + i) else if k = 95 then σ 130 (236 + i) else if k = 96 then σ 130 (268 + i) else if k = 97 then σ 130 (468 + i) else if k = 98 then σ 130 (500 + i) else 0
def RW (σ : cvM) : Prop := σ 55 0 = 3 ∧ σ 55 1 = 8 ∧ σ 55 3 = σ 87 23 ∧ 0 ≤ σ 87 23 ∧ σ 87 23 ≤ 8 ∧ ∀ p j : Int, 0 ≤ p → p < σ 87 23 → 0 ≤ j → j < 3 → σ 56 (p * 3 + j) = σ 107 (3 * p + j)
def TP (σ : cvM) : Prop := σ 64 1 = σ 87 29 ∧ 0 ≤ σ 87 29 ∧ σ 87 29 ≤ 200 ∧ (∀ i : Int, 0 ≤ i → i < σ 87 29 → σ 65 i = σ 111 i ∧ 0 ≤ σ 111 i ∧ σ 111 i ≤ 255) ∧ σ 68 0 = 5 ∧ σ 68 1 = 8
def HS (σ : cvM) : Prop := ∀ s : Int, 0 ≤ s → s < 4 → σ 80 s = σ 123 s ∧ -1 ≤ σ 123 s ∧ σ 123 s ≤ 3 ∧ σ 81 s = σ 124 s ∧ 0 ≤ σ 124 s ∧ σ 124 s ≤ 40 ∧ (0 ≤ σ 123 s → ∀ j : Int, 0 ≤ j → j < 40 → σ 82 (s * 40 + j) = σ 125 (40 * s + j))
def HF (σ : cvM) : Prop := ∀ s : Int, 0 ≤ s → s < 4 → (σ 126 s = -1 ∧ σ 83 s = 4) ∨ (0 ≤ σ 126 s ∧ σ 126 s ≤ 3 ∧ σ 83 s = σ 126 s ∧ σ 84 s = σ 127 s ∧ 0 ≤ σ 127 s ∧ σ 127 s < 100 ∧ (σ 126 s = 3 → σ 127 s ≤ 3 ∧ σ 85 s = σ 128 s))
def HT (σ : cvM) : Prop := σ 79 8 = σ 87 59 ∧ 0 ≤ σ 87 59 ∧ σ 87 59 ≤ 30 ∧ ∀ i : Int, 0 ≤ i → i < σ 87 59 → σ 86 i = σ 129 i
def KS (σ : cvM) : Prop := σ 14 0 = 5 ∧ σ 14 1 = 8 ∧ σ 15 0 = 5 ∧ σ 15 1 = 12 ∧ σ 16 0 = 4 ∧ σ 16 1 = 3 ∧ σ 17 0 = 4 ∧ σ 17 1 = 8 ∧ σ 18 0 = 5 ∧ σ 18 1 = 40 ∧ σ 19 0 = 2 ∧ σ 19 1 = 16 ∧ σ 20 0 = 5 ∧ σ 20 1 = 8
def KP (σ : cvM) : Prop := σ 0 2 = σ 87 61 ∧ (σ 0 2 = 0 ∨ σ 0 2 = 1) ∧ (σ 0 2 = 1 → WR (keptv σ)) ∧ KS σ
def Inv (σ : cvM) : Prop := WR σ ∧ RW σ ∧ TP σ ∧ HS σ ∧ HF σ ∧ HT σ ∧ KP σ
theorem WR.congr2 {σ τ : cvM} (h : WR σ) (e : ∀ k i : Int, k = 1 ∨ (3 ≤ k ∧ k ≤ 13) ∨ (25 ≤ k ∧ k ≤ 31) ∨ (88 ≤ k ∧ k ≤ 98) → τ k i = σ k i) : WR τ := h.congr fun k i hr => e k i (by unfold rel at hr; omega)
theorem RW.congr {σ τ : cvM} (h : RW σ) (e1 : τ 55 = σ 55) (e2 : τ 56 = σ 56) (e3 : τ 87 23 = σ 87 23) (e4 : τ 107 = σ 107) : RW τ := by
  unfold RW at h ⊢
  rw [e1, e2, e3, e4]
  exact h
theorem TP.congr {σ τ : cvM} (h : TP σ) (e1 : τ 64 1 = σ 64 1) (e2 : τ 65 = σ 65) (e3 : τ 87 29 = σ 87 29) (e4 : τ 111 = σ 111) (e5 : τ 68 = σ 68) : TP τ := by
  unfold TP at h ⊢
  rw [e1, e2, e3, e4, e5]
  exact h
theorem HS.congr {σ τ : cvM} (h : HS σ) (e1 : τ 80 = σ 80) (e2 : τ 123 = σ 123) (e3 : τ 81 = σ 81) (e4 : τ 124 = σ 124) (e5 : τ 82 = σ 82) (e6 : τ 125 = σ 125) : HS τ := by
  unfold HS at h ⊢
  rw [e1, e2, e3, e4, e5, e6]
  exact h
theorem HF.congr {σ τ : cvM} (h : HF σ) (e1 : τ 126 = σ 126) (e2 : τ 83 = σ 83) (e3 : τ 84 = σ 84) (e4 : τ 127 = σ 127) (e5 : τ 85 = σ 85) (e6 : τ 128 = σ 128) : HF τ := by
  unfold HF at h ⊢
  rw [e1, e2, e3, e4, e5, e6]
  exact h
theorem HT.congr {σ τ : cvM} (h : HT σ) (e1 : τ 79 8 = σ 79 8) (e2 : τ 87 59 = σ 87 59) (e3 : τ 86 = σ 86) (e4 : τ 129 = σ 129) : HT τ := by
  unfold HT at h ⊢
  rw [e1, e2, e3, e4]
  exact h
theorem KP.congr {σ τ : cvM} (h : KP σ) (e1 : τ 0 2 = σ 0 2) (e2 : τ 87 61 = σ 87 61) (e : ∀ k : Int, k = 2 ∨ (14 ≤ k ∧ k ≤ 24) ∨ (32 ≤ k ∧ k ≤ 38) ∨ k = 130 → τ k = σ k) : KP τ := by
  obtain ⟨h1, h2, h3, h4⟩ := h
  refine ⟨by rw [e1, e2]; exact h1, by rw [e1]; exact h2, fun hk => ?_, ?_⟩
  · rw [e1] at hk
    refine (h3 hk).congr2 fun k i hr => ?_
    have p1 := e 2 (by omega)
    have p2 := e 130 (by omega)
    unfold keptv
    rw [p1, p2]
    by_cases c1 : k = 1
    · rw [if_pos c1, if_pos c1]
    · rw [if_neg c1, if_neg c1]
      by_cases c2 : 3 ≤ k ∧ k ≤ 13
      · rw [if_pos c2, if_pos c2, e (k + 11) (by omega)]
      · rw [if_neg c2, if_neg c2]
        by_cases c3 : 25 ≤ k ∧ k ≤ 31
        · rw [if_pos c3, if_pos c3, e (k + 7) (by omega)]
        · rw [if_neg c3, if_neg c3]
  · unfold KS at h4 ⊢
    rw [e 14 (by omega), e 15 (by omega), e 16 (by omega), e 17 (by omega), e 18 (by omega), e 19 (by omega), e 20 (by omega)]
    exact h4
/-- the cells that are more than notes -/
def pub (k i : Int) : Prop := (0 ≤ k ∧ k ≤ 38) ∨ k = 55 ∨ k = 56 ∨ k = 65 ∨ k = 68 ∨ (80 ≤ k ∧ k ≤ 86) ∨ (88 ≤ k ∧ k ≤ 98) ∨ k = 107 ∨ k = 111 ∨ (123 ≤ k ∧ k ≤ 130) ∨ (k = 64 ∧ i = 1) ∨ (k = 79 ∧ i = 8) ∨ (k = 87 ∧ (i = 23 ∨ i = 29 ∨ i = 59 ∨ i = 61))
def EqP (σ τ : cvM) : Prop := ∀ k i : Int, pub k i → τ k i = σ k i
theorem EqP.rf (σ : cvM) : EqP σ σ := fun _ _ _ => rfl
theorem EqP.tr {σ τ υ : cvM} (h : EqP σ τ) (g : EqP τ υ) : EqP σ υ := fun k i p => (g k i p).trans (h k i p)
theorem Inv.congr {σ τ : cvM} (h : Inv σ) (e : EqP σ τ) : Inv τ := by
  obtain ⟨h1, h2, h3, h4, h5, h6, h7⟩ := h
  have o : ∀ k : Int, (∀ i, pub k i) → τ k = σ k := fun k hk => funext fun i => e k i (hk i)
  have p (k : Int) (hk : (0 ≤ k ∧ k ≤ 38) ∨ k = 55 ∨ k = 56 ∨ k = 65 ∨ k = 68 ∨ (80 ≤ k ∧ k ≤ 86) ∨ (88 ≤ k ∧ k ≤ 98) ∨ k = 107 ∨ k = 111 ∨ (123 ≤ k ∧ k ≤ 130)) : τ k = σ k := o k fun i => by unfold pub; omega
  refine ⟨h1.congr2 fun k i hr => by rw [p k (by omega)], h2.congr (p 55 (by omega)) (p 56 (by omega)) (e 87 23 (by unfold pub; omega)) (p 107 (by omega)), h3.congr (e 64 1 (by unfold pub; omega)) (p 65 (by omega)) (e 87 29 (by unfold pub; omega)) (p 111 (by omega)) (p 68 (by omega)), h4.congr (p 80 (by omega)) (p 123 (by omega)) (p 81 (by omega)) (p 124 (by omega)) (p 82 (by omega)) (p 125 (by omega)), h5.congr (p 126 (by omega)) (p 83 (by omega)) (p 84 (by omega)) (p 127 (by omega)) (p 85 (by omega)) (p 128 (by omega)), h6.congr (e 79 8 (by unfold pub; omega)) (e 87 59 (by unfold pub; omega)) (p 86 (by omega)) (p 129 (by omega)), h7.congr (by rw [p 0 (by omega)]) (e 87 61 (by unfold pub; omega)) fun k hk => p k (by omega)⟩
theorem EqP.WR {σ τ : cvM} (h : EqP σ τ) (g : WR σ) : WR τ := g.congr2 fun k i hr => h k i (by unfold pub; omega)
/-- a call of the class and one of the reference, behind it, answer alike and keep the invariant -/
def Ag (f g : cvF) (as : List Int) : Prop := ∀ σ, Inv σ → ∃ v σ1 σ2, f (0 :: as) σ = some (v, σ1) ∧ g (87 :: as) σ1 = some (v, σ2) ∧ Inv σ2
theorem Ag.pure {f g : cvF} {as : List Int} (h : ∀ σ, Inv σ → ∃ v, f (0 :: as) σ = some (v, σ) ∧ g (87 :: as) σ = some (v, σ)) : Ag f g as := fun σ hI => by
  obtain ⟨v, h1, h2⟩ := h σ hI
  exact ⟨v, σ, σ, h1, h2, hI⟩
/-- a call that only takes notes -/
def FR (f : cvF) (as : List Int) (σ : cvM) (v : Int) : Prop := ∃ τ, f as σ = some (v, τ) ∧ EqP σ τ
theorem Ag.notes {f g : cvF} {as : List Int} (V : cvM → Int) (h1 : ∀ σ, Inv σ → FR f (0 :: as) σ (V σ)) (h2 : ∀ σ, Inv σ → FR g (87 :: as) σ (V σ)) (h3 : ∀ σ τ, Inv σ → EqP σ τ → V τ = V σ) : Ag f g as := fun σ hI => by
  obtain ⟨τ, a1, a2⟩ := h1 σ hI
  obtain ⟨υ, b1, b2⟩ := h2 τ (hI.congr a2)
  rw [h3 σ τ hI a2] at b1
  exact ⟨V σ, τ, υ, a1, b1, (hI.congr a2).congr b2⟩
theorem Inv.W {σ : cvM} (h : Inv σ) : WR σ := h.1
theorem Inv.R {σ : cvM} (h : Inv σ) : RW σ := h.2.1
theorem Inv.T {σ : cvM} (h : Inv σ) : TP σ := h.2.2.1
theorem Inv.S {σ : cvM} (h : Inv σ) : HS σ := h.2.2.2.1
theorem Inv.F {σ : cvM} (h : Inv σ) : HF σ := h.2.2.2.2.1
theorem Inv.X {σ : cvM} (h : Inv σ) : HT σ := h.2.2.2.2.2.1
theorem Inv.K {σ : cvM} (h : Inv σ) : KP σ := h.2.2.2.2.2.2
