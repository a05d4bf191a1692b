/-! ===== plans: orders and numbers (pure) ===== -/
def ltL : List Int → List Int → Prop
  | x :: a, y :: b => x < y ∨ (x = y ∧ ltL a b)
  | [], _ => False
  | _ :: _, [] => False
theorem ltL_irr : ∀ a : List Int, ¬ ltL a a
  | [], h => h
  | x :: a, h => by
    rcases h with h | h
    · omega
    · exact ltL_irr a h.2
theorem ltL_tr : ∀ a b c : List Int, ltL a b → ltL b c → ltL a c
  | [], _, _, h, _ => h.elim
  | _ :: _, [], _, h, _ => h.elim
  | _ :: _, _ :: _, [], _, h => h.elim
  | x :: a, y :: b, z :: c, h, g => by
    rcases h with h | ⟨rfl, h⟩
    · rcases g with g | ⟨rfl, g⟩
      · exact Or.inl (by omega)
      · exact Or.inl h
    · rcases g with g | ⟨rfl, g⟩
      · exact Or.inl g
      · exact Or.inr ⟨rfl, ltL_tr a b c h g⟩
theorem ltL_tri : ∀ a b : List Int, a.length = b.length → a = b ∨ ltL a b ∨ ltL b a
  | [], [], _ => Or.inl rfl
  | [], _ :: _, h => by cases h
  | _ :: _, [], h => by cases h
  | x :: a, y :: b, h => by
    rcases Int.lt_trichotomy x y with z | z | z
    · exact Or.inr (Or.inl (Or.inl z))
    · subst z
      rcases ltL_tri a b (by simpa using h) with e | e | e
      · exact Or.inl (by rw [e])
      · exact Or.inr (Or.inl (Or.inr ⟨rfl, e⟩))
      · exact Or.inr (Or.inr (Or.inr ⟨rfl, e⟩))
    · exact Or.inr (Or.inr (Or.inl z))
theorem ltL_at : ∀ (k : Nat) (a b : List Int), k < a.length → k < b.length → (∀ j : Nat, j < k → a.getD j 0 = b.getD j 0) → a.getD k 0 ≠ b.getD k 0 → (ltL a b ↔ a.getD k 0 < b.getD k 0)
  | _, [], _, h, _, _, _ => absurd h (Nat.not_lt_zero _)
  | _, _ :: _, [], _, h, _, _ => absurd h (Nat.not_lt_zero _)
  | 0, x :: a, y :: b, _, _, _, ne => by
    have ne : x ≠ y := ne
    show (x < y ∨ (x = y ∧ ltL a b)) ↔ x < y
    exact ⟨fun h => h.resolve_right fun z => ne z.1, Or.inl⟩
  | k + 1, x :: a, y :: b, ha, hb, pre, ne => by
    have e : x = y := pre 0 (by omega)
    have ih := ltL_at k a b (by simpa using ha) (by simpa using hb) (fun j hj => pre (j + 1) (by omega)) ne
    show (x < y ∨ (x = y ∧ ltL a b)) ↔ a.getD k 0 < b.getD k 0
    rw [← ih]
    exact ⟨fun h => by
      rcases h with h | h
      · omega
      · exact h.2, fun h => Or.inr ⟨e, h⟩⟩
/-- digits, the first one is worth the most -/
def dg (b : Nat) : Nat → Nat → List Nat
  | 0, _ => []
  | n + 1, w => (w / b ^ n) :: dg b n (w % b ^ n)
theorem dg_len (b : Nat) : ∀ n w, (dg b n w).length = n
  | 0, _ => rfl
  | n + 1, w => by rw [dg, List.length_cons, dg_len b n]
theorem dg_lt {b : Nat} : ∀ n w, w < b ^ n → ∀ d ∈ dg b n w, d < b
  | 0, _, _, d, h => by cases h
  | n + 1, w, hw, d, h => by
    rw [dg] at h
    have hb : 0 < b ^ n := by
      rcases Nat.eq_zero_or_pos (b ^ n) with z | z
      · rw [Nat.pow_succ, z, Nat.zero_mul] at hw
        omega
      · exact z
    rcases List.mem_cons.mp h with rfl | h
    · rw [Nat.pow_succ, Nat.mul_comm] at hw
      exact Nat.div_lt_of_lt_mul (by rw [Nat.mul_comm]; exact hw)
    · exact dg_lt n _ (Nat.mod_lt _ hb) d h
theorem dg_sur {b : Nat} : ∀ (l : List Nat), (∀ d ∈ l, d < b) → ∃ w, w < b ^ l.length ∧ dg b l.length w = l
  | [], _ => ⟨0, by simp, rfl⟩
  | d :: l, h => by
    obtain ⟨w, h1, h2⟩ := dg_sur l fun x hx => h x (List.mem_cons_of_mem _ hx)
    have hd := h d List.mem_cons_self
    refine ⟨d * b ^ l.length + w, ?_, ?_⟩
    · rw [List.length_cons, Nat.pow_succ]
      have : (d + 1) * b ^ l.length ≤ b * b ^ l.length := Nat.mul_le_mul_right _ hd
      rw [Nat.add_mul, Nat.one_mul] at this
      rw [Nat.mul_comm (b ^ l.length)]
      omega
    · rw [List.length_cons, dg]
      have hp : 0 < b ^ l.length := by omega
      rw [Nat.mul_comm d, Nat.mul_add_div hp, Nat.mul_add_mod, Nat.div_eq_of_lt h1, Nat.mod_eq_of_lt h1, h2]
      rfl
theorem dg_mono {b : Nat} {f : Nat → Int} (hf : ∀ i j, i < j → j < b → f i < f j) : ∀ n w w', w < w' → w' < b ^ n → ltL ((dg b n w).map f) ((dg b n w').map f)
  | 0, w, w', h, h' => by
    rw [Nat.pow_zero] at h'
    omega
  | n + 1, w, w', h, h' => by
    have hb : 0 < b ^ n := by
      rcases Nat.eq_zero_or_pos (b ^ n) with z | z
      · rw [Nat.pow_succ, z, Nat.zero_mul] at h'
        omega
      · exact z
    have hq' : w' / b ^ n < b := by
      rw [Nat.pow_succ, Nat.mul_comm] at h'
      exact Nat.div_lt_of_lt_mul (by rw [Nat.mul_comm]; exact h')
    have le : w / b ^ n ≤ w' / b ^ n := Nat.div_le_div_right (Nat.le_of_lt h)
    rw [dg, dg]
    show f (w / b ^ n) < f (w' / b ^ n) ∨ (f (w / b ^ n) = f (w' / b ^ n) ∧ ltL ((dg b n (w % b ^ n)).map f) ((dg b n (w' % b ^ n)).map f))
    rcases Nat.lt_or_ge (w / b ^ n) (w' / b ^ n) with z | z
    · exact Or.inl (hf _ _ z hq')
    · have e : w / b ^ n = w' / b ^ n := Nat.le_antisymm le z
      refine Or.inr ⟨by rw [e], dg_mono hf n _ _ ?_ (Nat.mod_lt _ hb)⟩
      have d1 := Nat.div_add_mod w (b ^ n)
      have d2 := Nat.div_add_mod w' (b ^ n)
      rw [e] at d1
      omega
theorem dg_get {b : Nat} : ∀ n w, w < b ^ n → ∀ i, i < n → (dg b n w).getD i 0 = w / b ^ (n - 1 - i) % b
  | 0, _, _, i, h => absurd h (Nat.not_lt_zero _)
  | n + 1, w, hw, i, hi => by
    have hb : 0 < b ^ n := by
      rcases Nat.eq_zero_or_pos (b ^ n) with z | z
      · rw [Nat.pow_succ, z, Nat.zero_mul] at hw
        omega
      · exact z
    rw [dg]
    cases i with
    | zero =>
      show w / b ^ n = _
      have q : w / b ^ n < b := by
        rw [Nat.pow_succ, Nat.mul_comm] at hw
        exact Nat.div_lt_of_lt_mul (by rw [Nat.mul_comm]; exact hw)
      rw [show n + 1 - 1 - 0 = n by omega, Nat.mod_eq_of_lt q]
    | succ i =>
      show (dg b n (w % b ^ n)).getD i 0 = _
      rw [dg_get n _ (Nat.mod_lt _ hb) i (by omega), show n + 1 - 1 - (i + 1) = n - 1 - i by omega]
      have e : b ^ n = b ^ (n - 1 - i) * b ^ (i + 1) := by rw [← Nat.pow_add, show n - 1 - i + (i + 1) = n by omega]
      rw [e, Nat.mod_mul_right_div_self]
      exact Nat.mod_mod_of_dvd _ (by rw [Nat.pow_succ]; exact Nat.dvd_mul_left b (b ^ i))
/-- the next lesser part of a set -/
theorem sub_next : ∀ (x y s : Nat), x &&& s = x → y &&& s = y → y < x → y ≤ (x - 1) &&& s := by
  intro x
  induction x using Nat.strongRecOn with
  | _ x ih =>
    intro y s hx hy h
    have x2 : (x / 2) &&& (s / 2) = x / 2 := by rw [← Nat.and_div_two, hx]
    have y2 : (y / 2) &&& (s / 2) = y / 2 := by rw [← Nat.and_div_two, hy]
    have em : ∀ a c : Nat, (a &&& c) % 2 = (a % 2) * (c % 2) := fun a c => by
      have := Nat.and_mod_two_pow (a := a) (b := c) (n := 1)
      rw [Nat.pow_one] at this
      rw [this]
      rcases Nat.mod_two_eq_zero_or_one a with p | p <;> rcases Nat.mod_two_eq_zero_or_one c with q | q <;> rw [p, q] <;> rfl
    have d := Nat.div_add_mod ((x - 1) &&& s) 2
    rw [Nat.and_div_two, em] at d
    have my := em y s
    rw [hy] at my
    rcases Nat.mod_two_eq_zero_or_one x with bx | bx
    · have e1 : (x - 1) / 2 = x / 2 - 1 := by omega
      have e2 : (x - 1) % 2 = 1 := by omega
      rw [e1, e2, Nat.one_mul] at d
      have ih' := ih (x / 2) (by omega) (y / 2) (s / 2) x2 y2 (by omega)
      rcases Nat.mod_two_eq_zero_or_one s with bs | bs
      · rw [bs, Nat.mul_zero] at my
        omega
      · omega
    · have e1 : (x - 1) / 2 = x / 2 := by omega
      have e2 : (x - 1) % 2 = 0 := by omega
      rw [e1, e2, Nat.zero_mul, x2] at d
      omega
/-! plans as lists: the VAN of each RIDER -/
abbrev As : Type := Int × List Int
def btA (p q : As) : Prop := p.1 < q.1 ∨ (p.1 = q.1 ∧ ltL p.2 q.2)
theorem btA_tr {p q r : As} (h : btA p q) (g : btA q r) : btA p r := by
  unfold btA at *
  rcases h with h | h
  · rcases g with g | g
    · exact Or.inl (by omega)
    · exact Or.inl (by omega)
  · rcases g with g | g
    · exact Or.inl (by omega)
    · exact Or.inr ⟨by omega, ltL_tr _ _ _ h.2 g.2⟩
theorem btA_irr (p : As) : ¬ btA p p := fun h => by
  rcases h with h | h
  · omega
  · exact ltL_irr _ h.2
def AV (n : Nat) (a : List Int) : Prop := a.length = n ∧ ∀ q ∈ a, 0 ≤ q ∧ q < 3
def PB (vl : List Int → Option Int) (n : Nat) (b : Option As) : Prop := match b with
  | none => ∀ a, AV n a → vl a = none
  | some p => (AV n p.2 ∧ vl p.2 = some p.1) ∧ ∀ a S, AV n a → vl a = some S → ¬ btA (S, a) p
theorem PB_uniq {vl : List Int → Option Int} {n : Nat} {b b' : Option As} (h : PB vl n b) (h' : PB vl n b') : b = b' := by
  cases b with
  | none =>
    cases b' with
    | none => rfl
    | some p =>
      have := h p.2 h'.1.1
      rw [h'.1.2] at this
      cases this
  | some p =>
    cases b' with
    | none =>
      have := h' p.2 h.1.1
      rw [h.1.2] at this
      cases this
    | some q =>
      have a := h.2 q.2 q.1 h'.1.1 h'.1.2
      have b := h'.2 p.2 p.1 h.1.1 h.1.2
      have s : p.1 = q.1 := by
        rcases Int.lt_trichotomy p.1 q.1 with z | z | z
        · exact absurd (Or.inl z) b
        · exact z
        · exact absurd (Or.inl z) a
      rcases ltL_tri p.2 q.2 (h.1.1.1.trans h'.1.1.1.symm) with z | z | z
      · exact congrArg some (Prod.ext s z)
      · exact absurd (Or.inr ⟨s, z⟩) b
      · exact absurd (Or.inr ⟨s.symm, z⟩) a
/-- PERSONS of a set of RIDERS -/
def psN (l : List Int) (s : Int) : Int := bI (fun p => anyI (fun k => tb s k && decide (l.getD k.toNat 0 = p)) (l.length : Int)) 12
theorem psN_lt (l : List Int) (s : Int) : 0 ≤ psN l s ∧ psN l s < 4096 := bI_lt _ 12
/-- LATE of a set in a VAN; below 0: it can't ride so -/
def lateN (σ : cvM) (pl : Int) (l : List Int) (v s : Int) : Int := if s = 0 then 0 else if (((0 ≤ v ∧ v < σ 88 3) ∧ σ 94 (4 * v) = pl) ∧ pcI s ≤ σ 94 (4 * v + 1)) ∧ peace σ (psN l s) (σ 88 2) = true then (match bestT σ v (psN l s) with
  | none => -1
  | some d => d.2) else -1
/-- what a plan is worth -/
def valN (σ : cvM) (pl : Int) (l : List Int) (a : List Int) : Option Int := if (0 ≤ lateN σ pl l 0 (ceM a 0) ∧ 0 ≤ lateN σ pl l 1 (ceM a 1)) ∧ 0 ≤ lateN σ pl l 2 (ceM a 2) then some (lateN σ pl l 0 (ceM a 0) + lateN σ pl l 1 (ceM a 1) + lateN σ pl l 2 (ceM a 2)) else none
theorem bestT_hi {σ : cvM} (h : WR σ) {v x : Int} {d : Cd} (e : bestT σ v x = some d) : d.2 ≤ 4800000 := by
  have c4 := cnt_4 h
  obtain ⟨O, hO, e1, e2⟩ := bestT_ride h e
  have bs := bestT_some h e
  have tm := bestT_tm h e
  have gl : d.1.length ≤ 4 := by
    have := ride_len _ _ _ _ _ _ _ e1
    have l1 : d.1.length = (d.1.map (·.1)).length := by rw [List.length_map]
    rw [l1, this, List.length_map, (PLx_l _ bs O hO).1]
    exact bs.2
  have lm : ∀ q ∈ sl (tb x) (σ 88 2), 0 ≤ q ∧ q < σ 88 2 := fun q hq => by
    have := sl_mem.mp hq
    exact ⟨this.1, this.2.1⟩
  have ll : (sl (tb x) (σ 88 2)).length ≤ 12 := by
    have := sl_le (tb x) c4.2.1
    omega
  rw [e2]
  have key : ∀ g : List (Int × Int), (∀ y ∈ g, 0 ≤ y.2 ∧ y.2 ≤ 1439) → lates (lateL σ (sl (tb x) (σ 88 2))) g ≤ 1200000 * (g.length : Int) := by
    intro g
    induction g with
    | nil => intro _; exact Int.le_refl 0
    | cons y g ih =>
      intro hg
      have hy := hg y List.mem_cons_self
      have a := lateL_all h (c := y.1) (u := y.2) (by omega) lm ll
      have b := ih fun z hz => hg z (List.mem_cons_of_mem _ hz)
      rw [lates_c, List.length_cons]
      omega
  have := key d.1 tm
  omega
theorem lateN_bd {σ : cvM} (h : WR σ) (pl : Int) (l : List Int) (v s : Int) : -1 ≤ lateN σ pl l v s ∧ lateN σ pl l v s ≤ 4800000 := by
  unfold lateN
  split
  · omega
  · split
    · cases e : bestT σ v (psN l s) with
      | none => show (-1 : Int) ≤ -1 ∧ (-1 : Int) ≤ 4800000; omega
      | some d =>
        have := bestT_nn h e
        have := bestT_hi h e
        show -1 ≤ d.2 ∧ d.2 ≤ 4800000
        omega
    · omega
