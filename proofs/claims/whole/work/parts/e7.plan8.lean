/-! ===== plans: both find the same ===== -/
theorem vnL_lt {σ : cvM} (h : WR σ) (pl : Int) : (vnL σ pl).Pairwise (· < ·) := by
  have c5 := cnt_5 h
  have := sl_lt (fun v => decide (σ 94 (4 * v) = pl)) (σ 88 3).toNat
  rw [Int.toNat_of_nonneg c5.2.1] at this
  exact this
theorem vnL_mono {σ : cvM} (h : WR σ) (pl : Int) : ∀ i j : Nat, i < j → j < (vnL σ pl).length → (vnL σ pl).getD i 0 < (vnL σ pl).getD j 0 := fun i j hij hj => by
  have := List.pairwise_iff_getElem.mp (vnL_lt h pl) i j (by omega) hj hij
  rw [List.getD_eq_getElem?_getD, List.getD_eq_getElem?_getD, List.getElem?_eq_getElem hj, List.getElem?_eq_getElem (show i < (vnL σ pl).length by omega)]
  exact this
theorem vnL_inj {σ : cvM} (h : WR σ) (pl : Int) {i j : Nat} (hi : i < (vnL σ pl).length) (hj : j < (vnL σ pl).length) (e : (vnL σ pl).getD i 0 = (vnL σ pl).getD j 0) : i = j := by
  rcases Nat.lt_trichotomy i j with z | z | z
  · have := vnL_mono h pl i j z hj
    omega
  · exact z
  · have := vnL_mono h pl j i z hi
    omega
/-- the plan of a way -/
def wyA (σ : cvM) (pl : Int) (w : Nat) : List Int := (dg (vnL σ pl).length (rdL σ pl).length w).map fun d : Nat => (vnL σ pl).getD d 0
theorem wyA_len (σ : cvM) (pl : Int) (w : Nat) : (wyA σ pl w).length = (rdL σ pl).length := by
  unfold wyA
  rw [List.length_map, dg_len]
theorem wyA_get {σ : cvM} {pl : Int} {w : Nat} (hw : w < (vnL σ pl).length ^ (rdL σ pl).length) {j : Nat} (hj : j < (rdL σ pl).length) : ∃ d, d < (vnL σ pl).length ∧ (wyA σ pl w).getD j (-1) = (vnL σ pl).getD d 0 ∧ (wyD (vnL σ pl).length (rdL σ pl).length w).getD j (-1) = (d : Int) := by
  have hl : j < (dg (vnL σ pl).length (rdL σ pl).length w).length := by rw [dg_len]; exact hj
  refine ⟨(dg (vnL σ pl).length (rdL σ pl).length w)[j], dg_lt _ _ hw _ (List.getElem_mem hl), ?_, ?_⟩
  · unfold wyA
    rw [List.getD_eq_getElem?_getD, List.getElem?_map, List.getElem?_eq_getElem hl]
    rfl
  · unfold wyD
    rw [List.getD_eq_getElem?_getD, List.getElem?_map, List.getElem?_eq_getElem hl]
    rfl
theorem wyA_ce {σ : cvM} (h : WR σ) {pl : Int} (l8 : (rdL σ pl).length ≤ 8) {w : Nat} (hw : w < (vnL σ pl).length ^ (rdL σ pl).length) {i : Nat} (hi : i < (vnL σ pl).length) : ceM (wyA σ pl w) ((vnL σ pl).getD i 0) = ceM (wyD (vnL σ pl).length (rdL σ pl).length w) (i : Int) := by
  unfold ceM
  refine bI_ext fun j j0 j1 => ?_
  by_cases z : j.toNat < (rdL σ pl).length
  · obtain ⟨d, hd, e1, e2⟩ := wyA_get hw z
    rw [e1, e2]
    by_cases y : d = i
    · rw [y, decide_eq_true rfl, decide_eq_true rfl]
    · rw [decide_eq_false fun e => y (vnL_inj h pl hd hi e), decide_eq_false fun e => y (by omega)]
  · have vm := (vnL_mem (σ := σ) (pl := pl) hi).1
    have a1 : (wyA σ pl w).getD j.toNat (-1) = -1 := by
      rw [List.getD_eq_getElem?_getD, List.getElem?_eq_none (by rw [wyA_len]; omega)]
      rfl
    have a2 : (wyD (vnL σ pl).length (rdL σ pl).length w).getD j.toNat (-1) = -1 := by
      rw [List.getD_eq_getElem?_getD, List.getElem?_eq_none (by unfold wyD; rw [List.length_map, dg_len]; omega)]
      rfl
    rw [a1, a2, decide_eq_false (by omega), decide_eq_false (by omega)]
theorem wyA_no {σ : cvM} {pl : Int} {w : Nat} (hw : w < (vnL σ pl).length ^ (rdL σ pl).length) {v : Int} (v0 : 0 ≤ v) (hv : ¬ ((0 ≤ v ∧ v < σ 88 3) ∧ σ 94 (4 * v) = pl)) : ceM (wyA σ pl w) v = 0 := by
  refine tb_ext (ceM_lt _ _).1 (Int.le_refl 0) fun j j0 => ?_
  unfold ceM
  rw [tb_bI _ _ j0, show tb 0 j = false from Nat.zero_testBit _]
  by_cases z : j.toNat < (rdL σ pl).length
  · obtain ⟨d, hd, e1, _⟩ := wyA_get hw z
    have vm := vnL_mem (σ := σ) (pl := pl) hd
    have nn : ¬ (vnL σ pl).getD d 0 = v := fun e => hv (by rw [← e]; exact vm)
    rw [e1, decide_eq_false nn, Bool.and_false]
  · rw [List.getD_eq_getElem?_getD, List.getElem?_eq_none (by rw [wyA_len]; omega)]
    rw [decide_eq_false (show ¬ ((none : Option Int).getD (-1)) = v by show ¬ (-1 : Int) = v; omega), Bool.and_false]
theorem sum3 {Q : Int → Bool} {f : Int → Int} (hf : ∀ v, Q v = false → f v = 0) : sumK (fun i => f ((sl Q 3).getD i 0)) (sl Q 3).length = if (0 ≤ f 0 ∧ 0 ≤ f 1) ∧ 0 ≤ f 2 then some (f 0 + f 1 + f 2) else none := by
  have e : sl Q 3 = (if Q 0 = true then [0] else []) ++ (if Q 1 = true then [1] else []) ++ (if Q 2 = true then [2] else []) := by
    have a := sl_s Q (n := 2) (by decide)
    have b := sl_s Q (n := 1) (by decide)
    have c := sl_s Q (n := 0) (by decide)
    rw [show (2 : Int) + 1 = 3 from rfl] at a
    rw [show (1 : Int) + 1 = 2 from rfl] at b
    rw [show (0 : Int) + 1 = 1 from rfl, sl_0, List.nil_append] at c
    rw [a, b, c]
  rw [e]
  have z0 := hf 0
  have z1 := hf 1
  have z2 := hf 2
  have l1 : ∀ x : Int, sumK (fun i => f ([x].getD i 0)) [x].length = if 0 ≤ f x then some (f x) else none := fun x => by
    show (if f x < 0 then none else some (0 + f x)) = _
    by_cases q : f x < 0
    · rw [if_pos q, if_neg (by omega)]
    · rw [if_neg q, if_pos (by omega), Int.zero_add]
  have l2 : ∀ x y : Int, sumK (fun i => f ([x, y].getD i 0)) [x, y].length = if 0 ≤ f x ∧ 0 ≤ f y then some (f x + f y) else none := fun x y => by
    show (match (if f x < 0 then none else some (0 + f x)) with
      | none => none
      | some a => if f y < 0 then none else some (a + f y)) = _
    by_cases q : f x < 0
    · rw [if_pos q, if_neg (by omega)]
    · rw [if_neg q, Int.zero_add]
      show (if f y < 0 then none else some (f x + f y)) = _
      by_cases q2 : f y < 0
      · rw [if_pos q2, if_neg (by omega)]
      · rw [if_neg q2, if_pos (by omega)]
  have l3 : ∀ x y z : Int, sumK (fun i => f ([x, y, z].getD i 0)) [x, y, z].length = if (0 ≤ f x ∧ 0 ≤ f y) ∧ 0 ≤ f z then some (f x + f y + f z) else none := fun x y z => by
    show (match (match (if f x < 0 then none else some (0 + f x)) with
      | none => none
      | some a => if f y < 0 then none else some (a + f y)) with
      | none => none
      | some a => if f z < 0 then none else some (a + f z)) = _
    by_cases q : f x < 0
    · rw [if_pos q, if_neg (by omega)]
    · rw [if_neg q, Int.zero_add]
      show (match (if f y < 0 then none else some (f x + f y)) with
        | none => none
        | some a => if f z < 0 then none else some (a + f z)) = _
      by_cases q2 : f y < 0
      · rw [if_pos q2, if_neg (by omega)]
      · rw [if_neg q2]
        show (if f z < 0 then none else some (f x + f y + f z)) = _
        by_cases q3 : f z < 0
        · rw [if_pos q3, if_neg (by omega)]
        · rw [if_neg q3, if_pos (by omega)]
  have fin : ∀ (A B : Prop) [Decidable A] [Decidable B] (a b : Int), (A ↔ B) → a = b → (if A then some a else none) = if B then some b else none := fun A B _ _ a b hab e => by
    by_cases q : A
    · rw [if_pos q, if_pos (hab.mp q), e]
    · rw [if_neg q, if_neg fun y => q (hab.mpr y)]
  cases q0 : Q 0 <;> cases q1 : Q 1 <;> cases q2 : Q 2
  · have a := z0 q0
    have b := z1 q1
    have c := z2 q2
    show some (0 : Int) = _
    rw [if_pos (by omega), a, b, c]
    rfl
  · have a := z0 q0
    have b := z1 q1
    exact (l1 2).trans (fin _ _ _ _ (by omega) (by omega))
  · have a := z0 q0
    have c := z2 q2
    exact (l1 1).trans (fin _ _ _ _ (by omega) (by omega))
  · have a := z0 q0
    exact (l2 1 2).trans (fin _ _ _ _ (by omega) (by omega))
  · have b := z1 q1
    have c := z2 q2
    exact (l1 0).trans (fin _ _ _ _ (by omega) (by omega))
  · have b := z1 q1
    exact (l2 0 2).trans (fin _ _ _ _ (by omega) (by omega))
  · have c := z2 q2
    exact (l2 0 1).trans (fin _ _ _ _ (by omega) (by omega))
  · exact l3 0 1 2
theorem wyA_val {σ : cvM} (h : WR σ) {pl : Int} (l8 : (rdL σ pl).length ≤ 8) {w : Nat} (hw : w < (vnL σ pl).length ^ (rdL σ pl).length) : valN σ pl (rdL σ pl) (wyA σ pl w) = sumK (wyG σ pl w) (vnL σ pl).length := by
  have c5 := cnt_5 h
  have eq : vnL σ pl = sl (fun v => decide (v < σ 88 3) && decide (σ 94 (4 * v) = pl)) 3 := by
    rw [sl_more (fun v => decide (v < σ 88 3) && decide (σ 94 (4 * v) = pl)) c5.2.1 c5.2.2 fun i i0 i1 => by rw [decide_eq_false (by omega), Bool.false_and]]
    exact sl_ext fun i i0 i1 => by rw [decide_eq_true i1, Bool.true_and]
  have s := sum3 (Q := fun v => decide (v < σ 88 3) && decide (σ 94 (4 * v) = pl)) (f := fun v => if 0 ≤ v then lateN σ pl (rdL σ pl) v (ceM (wyA σ pl w) v) else 0) fun v hv => by
    show (if 0 ≤ v then lateN σ pl (rdL σ pl) v (ceM (wyA σ pl w) v) else 0) = 0
    by_cases v0 : 0 ≤ v
    · rw [if_pos v0, wyA_no hw v0 fun y => by
        have hv : (decide (v < σ 88 3) && decide (σ 94 (4 * v) = pl)) = false := hv
        rw [decide_eq_true y.1.2, decide_eq_true y.2] at hv
        cases hv]
      exact if_pos rfl
    · rw [if_neg v0]
  rw [← eq] at s
  have g : ∀ k, k ≤ (vnL σ pl).length → sumK (fun i => if 0 ≤ (vnL σ pl).getD i 0 then lateN σ pl (rdL σ pl) ((vnL σ pl).getD i 0) (ceM (wyA σ pl w) ((vnL σ pl).getD i 0)) else 0) k = sumK (wyG σ pl w) k := by
    intro k
    induction k with
    | zero => intro _; rfl
    | succ k ih =>
      intro hk
      have vm := (vnL_mem (σ := σ) (pl := pl) (show k < (vnL σ pl).length by omega)).1
      rw [sumK, sumK, ih (by omega), if_pos vm.1, wyA_ce h l8 hw (by omega)]
      rfl
  rw [g _ (Nat.le_refl _)] at s
  rw [s]
  rfl
theorem AV_wy {σ : cvM} {pl : Int} (l8 : (rdL σ pl).length ≤ 8) {a : List Int} (ha : AV (rdL σ pl).length a) {S : Int} (e : valN σ pl (rdL σ pl) a = some S) : ∃ w, w < (vnL σ pl).length ^ (rdL σ pl).length ∧ wyA σ pl w = a := by
  have pos : ∀ v : Int, 0 ≤ v → v < 3 → 0 ≤ lateN σ pl (rdL σ pl) v (ceM a v) := fun v v0 v3 => by
    unfold valN at e
    split at e
    · rename_i q
      have : v = 0 ∨ v = 1 ∨ v = 2 := by omega
      rcases this with rfl | rfl | rfl
      · exact q.1.1
      · exact q.1.2
      · exact q.2
    · cases e
  have inv : ∀ v ∈ a, v ∈ vnL σ pl := fun v hv => by
    obtain ⟨j, hj, ej⟩ := List.getElem_of_mem hv
    have vb := ha.2 v hv
    have p := pos v vb.1 vb.2
    have j8 : j < 8 := by have := ha.1; omega
    have t : tb (ceM a v) (j : Int) = true := by
      unfold ceM
      rw [tb_bI _ _ (by omega), decide_eq_true (show (j : Int) < 8 by omega), Bool.true_and, Int.toNat_natCast, List.getD_eq_getElem?_getD, List.getElem?_eq_getElem hj]
      exact decide_eq_true ej
    have n0 : ceM a v ≠ 0 := fun z => by
      rw [z, show tb 0 (j : Int) = false from Nat.zero_testBit _] at t
      cases t
    unfold lateN at p
    rw [if_neg n0] at p
    split at p
    · rename_i q
      exact sl_mem.mpr ⟨vb.1, q.1.1.1.2, decide_eq_true q.1.1.2⟩
    · omega
  obtain ⟨w, h1, h2⟩ := dg_sur (b := (vnL σ pl).length) (a.map fun v => (ixL (vnL σ pl) v).toNat) fun d hd => by
    obtain ⟨v, hv, rfl⟩ := List.mem_map.mp hd
    obtain ⟨j, j1, j2, _, _⟩ := ixL_in (inv v hv)
    rw [j2, Int.toNat_natCast]
    exact j1
  rw [List.length_map, ha.1] at h1 h2
  refine ⟨w, h1, ?_⟩
  unfold wyA
  rw [h2, List.map_map]
  have : ∀ v ∈ a, (((fun d : Nat => (vnL σ pl).getD d 0) ∘ fun v => (ixL (vnL σ pl) v).toNat) v) = v := fun v hv => by
    obtain ⟨j, j1, j2, j3, _⟩ := ixL_in (inv v hv)
    show (vnL σ pl).getD (ixL (vnL σ pl) v).toNat 0 = v
    rw [j2, Int.toNat_natCast, j3]
  rw [List.map_congr_left this, List.map_id']
theorem wyB_PB {σ : cvM} (h : WR σ) {pl : Int} (l8 : (rdL σ pl).length ≤ 8) {b : Option (Int × Nat)} (hb : wyB σ pl ((vnL σ pl).length ^ (rdL σ pl).length) b) : PB (valN σ pl (rdL σ pl)) (rdL σ pl).length (b.map fun p => (p.1, wyA σ pl p.2)) := by
  have mono : ∀ w w', w < w' → w' < (vnL σ pl).length ^ (rdL σ pl).length → ltL (wyA σ pl w) (wyA σ pl w') := fun w w' h1 h2 => dg_mono (fun i j hij hj => vnL_mono h pl i j hij hj) _ w w' h1 h2
  cases b with
  | none =>
    intro a ha
    cases e : valN σ pl (rdL σ pl) a with
    | none => rfl
    | some S =>
      obtain ⟨w, h1, rfl⟩ := AV_wy l8 ha e
      rw [wyA_val h l8 h1, hb w h1] at e
      cases e
  | some p =>
    obtain ⟨p0, p1, p2, p3⟩ := hb
    refine ⟨⟨⟨wyA_len _ _ _, fun q hq => ?_⟩, ?_⟩, fun a S ha e => ?_⟩
    · obtain ⟨j, hj, ej⟩ := List.getElem_of_mem hq
      have hj' : j < (rdL σ pl).length := by rw [← wyA_len σ pl p.2]; exact hj
      obtain ⟨d, hd, e1, _⟩ := wyA_get p1 hj'
      have vm := (vnL_mem (σ := σ) (pl := pl) hd).1
      have c5 := cnt_5 h
      rw [List.getD_eq_getElem?_getD, List.getElem?_eq_getElem hj] at e1
      have e1 : (wyA σ pl p.2)[j] = (vnL σ pl).getD d 0 := e1
      have ej : (wyA σ pl p.2)[j] = q := ej
      omega
    · show valN σ pl (rdL σ pl) (wyA σ pl p.2) = some p.1
      rw [wyA_val h l8 p1]
      exact p2
    · obtain ⟨w, h1, rfl⟩ := AV_wy l8 ha e
      rw [wyA_val h l8 h1] at e
      have := p3 w S h1 e
      rintro (y | ⟨y1, y2⟩)
      · exact this (Or.inl y)
      · have y1 : S = p.1 := y1
        have y2 : ltL (wyA σ pl w) (wyA σ pl p.2) := y2
        rcases Nat.lt_trichotomy w p.2 with z | z | z
        · exact this (Or.inr ⟨y1, z⟩)
        · rw [z] at y2
          exact ltL_irr _ y2
        · exact ltL_irr _ (ltL_tr _ _ _ y2 (mono _ _ z h1))
