/-! ===== read: the grammar ===== -/
def bndS {α β : Type} (x : Sum Int α) (f : α → Sum Int β) : Sum Int β := match x with
  | .inl e => .inl e
  | .inr a => f a
def numA (T : Int → Int) (N l q : Int) : Sum Int (Int × Int) := if 1000 + l ≤ tkC T N q then .inr (tkC T N q - 1000, nxT T N q) else .inl q
def pasA (T : Int → Int) (N c q : Int) : Sum Int Int := if tkC T N q = c then .inr (nxT T N q) else .inl q
def cauF (T : Int → Int) (N : Int) : Nat → Int → Int → Sum Int (Int × Int)
  | 0, _, q => .inl q
  | n + 1, s, q => if 0 ≤ tkC T N q ∧ tkC T N q ≤ 4 then (if tkC T N (nxT T N q) = 11 then cauF T N n (oor s (oshl 1 (tkC T N q))) (nxT T N (nxT T N q)) else .inr (oor s (oshl 1 (tkC T N q)), nxT T N q)) else .inl q
def cauA (T : Int → Int) (N s q : Int) : Sum Int (Int × Int) := cauF T N (N - q + 1).toNat s q
def byA (T : Int → Int) (N q : Int) : Sum Int (List Int × Int) := bndS (cauA T N 0 q) fun c => bndS (pasA T N 6 c.2) fun q2 => bndS (numA T N 0 q2) fun o => bndS (pasA T N 7 o.2) fun q4 => bndS (numA T N 0 q4) fun p => bndS (pasA T N 8 p.2) fun q6 => bndS (numA T N 1 q6) fun e => bndS (pasA T N 12 e.2) fun q8 => .inr ([0, c.1, o.1, p.1, e.1], q8)
def frA (T : Int → Int) (N s q : Int) : Sum Int (List Int × Int) := bndS (numA T N 0 q) fun o => bndS (pasA T N 12 o.2) fun q2 => .inr ([s, 0, o.1, -9, -9], q2)
def lineA (T : Int → Int) (N q : Int) : Sum Int (List Int × Int) := if tkC T N q = 5 then byA T N (nxT T N q) else if tkC T N q = 9 then frA T N 1 (nxT T N q) else if tkC T N q = 10 then frA T N 2 (nxT T N q) else .inl q
def linA (T : Int → Int) (N : Int) : Nat → Int → Sum Int (List (List Int))
  | 0, q => if tkC T N q = 14 then .inr [] else .inl q
  | m + 1, q => if tkC T N q = 14 then .inr [] else bndS (lineA T N q) fun r => bndS (linA T N m r.2) fun rs => .inr (r.1 :: rs)
theorem tk_lt (T : Int → Int) {N q : Int} (hq : q ≤ N) (h : tkC T N q ≠ 14) : q < N := by
  rcases Int.lt_or_eq_of_le hq with z | z
  · exact z
  · exact absurd ((tk_end T hq).2.mpr z) h
theorem nxT_le (T : Int → Int) {N q : Int} (hq : q ≤ N) : q ≤ nxT T N q ∧ nxT T N q ≤ N := by
  rcases Int.lt_or_eq_of_le hq with z | z
  · have := nxT_s T z
    omega
  · rw [z, nxT_N]
    omega
theorem cauF_fuel (T : Int → Int) (N : Int) : ∀ (m m' : Nat) (s q : Int), q ≤ N → N - q < (m : Int) → N - q < (m' : Int) → cauF T N m s q = cauF T N m' s q
  | 0, _, _, _, h, h1, _ => by omega
  | _ + 1, 0, _, _, h, _, h2 => by omega
  | m + 1, m' + 1, s, q, h, h1, h2 => by
    show (if _ then _ else _) = (if _ then _ else _)
    by_cases z : 0 ≤ tkC T N q ∧ tkC T N q ≤ 4
    · rw [if_pos z, if_pos z]
      by_cases z2 : tkC T N (nxT T N q) = 11
      · rw [if_pos z2, if_pos z2]
        have q1 := nxT_s T (tk_lt T h (by omega))
        have q2 := nxT_s T (tk_lt T q1.2 (by omega))
        exact cauF_fuel T N m m' _ _ q2.2 (by omega) (by omega)
      · rw [if_neg z2, if_neg z2]
    · rw [if_neg z, if_neg z]
theorem cauA_s (T : Int → Int) {N q : Int} (s : Int) (h : q ≤ N) : cauA T N s q = if 0 ≤ tkC T N q ∧ tkC T N q ≤ 4 then (if tkC T N (nxT T N q) = 11 then cauA T N (oor s (oshl 1 (tkC T N q))) (nxT T N (nxT T N q)) else .inr (oor s (oshl 1 (tkC T N q)), nxT T N q)) else .inl q := by
  have e : (N - q + 1).toNat = (N - q).toNat + 1 := by omega
  unfold cauA
  rw [e]
  show (if _ then _ else _) = _
  by_cases z : 0 ≤ tkC T N q ∧ tkC T N q ≤ 4
  · rw [if_pos z, if_pos z]
    by_cases z2 : tkC T N (nxT T N q) = 11
    · rw [if_pos z2, if_pos z2]
      have q1 := nxT_s T (tk_lt T h (by omega))
      have q2 := nxT_s T (tk_lt T q1.2 (by omega))
      exact cauF_fuel T N _ _ _ _ q2.2 (by omega) (by omega)
    · rw [if_neg z2, if_neg z2]
  · rw [if_neg z, if_neg z]
theorem cau_or {s c : Int} (hs : 0 ≤ s ∧ s < 32) (hc : 0 ≤ c ∧ c ≤ 4) : 1 ≤ oor s (oshl 1 c) ∧ oor s (oshl 1 c) < 32 := by
  have o := i_or (x := s) (p := c) 5 (by decide) hs (by omega)
  have l := xw_lt (x := s) (p := c) (q := true) 5 hs (by omega)
  have t := tb_xw (x := s) (p := c) (q := true) hc.1 hc.1
  rw [if_pos rfl] at t
  rw [o]
  have l : 0 ≤ xw s c true ∧ xw s c true < 32 := l
  refine ⟨?_, l.2⟩
  rcases Int.lt_or_eq_of_le l.1 with z | z
  · omega
  · rw [← z, tb_0] at t
    cases t
theorem cauF_bd (T : Int → Int) (N : Int) : ∀ (m : Nat) (s q : Int), (0 ≤ s ∧ s < 32) → q ≤ N → match cauF T N m s q with
    | .inl f => q ≤ f ∧ f ≤ N
    | .inr r => (1 ≤ r.1 ∧ r.1 < 32) ∧ q ≤ r.2 ∧ r.2 ≤ N
  | 0, _, q, _, h => ⟨Int.le_refl _, h⟩
  | m + 1, s, q, hs, h => by
    show match (if 0 ≤ tkC T N q ∧ tkC T N q ≤ 4 then (if tkC T N (nxT T N q) = 11 then cauF T N m (oor s (oshl 1 (tkC T N q))) (nxT T N (nxT T N q)) else .inr (oor s (oshl 1 (tkC T N q)), nxT T N q)) else .inl q) with
    | .inl f => q ≤ f ∧ f ≤ N
    | .inr r => (1 ≤ r.1 ∧ r.1 < 32) ∧ q ≤ r.2 ∧ r.2 ≤ N
    have n1 := nxT_le T h
    have n2 := nxT_le T n1.2
    by_cases z : 0 ≤ tkC T N q ∧ tkC T N q ≤ 4
    · rw [if_pos z]
      have o := cau_or hs z
      by_cases z2 : tkC T N (nxT T N q) = 11
      · rw [if_pos z2]
        have ih := cauF_bd T N m (oor s (oshl 1 (tkC T N q))) (nxT T N (nxT T N q)) (by omega) n2.2
        cases e : cauF T N m (oor s (oshl 1 (tkC T N q))) (nxT T N (nxT T N q)) with
        | inl f => rw [e] at ih; have ih : _ ∧ _ := ih; exact ⟨by omega, ih.2⟩
        | inr r => rw [e] at ih; have ih : _ ∧ _ ∧ _ := ih; exact ⟨ih.1, by omega, ih.2.2⟩
      · rw [if_neg z2]
        exact ⟨o, n1⟩
    · rw [if_neg z]
      exact ⟨Int.le_refl _, h⟩
/-- how a part of the tape ends: where it is at fault, or what was read and where it goes on -/
def okS {α : Type} (N q : Int) (P : α → Int → Prop) : Sum Int α → Prop
  | .inl f => q ≤ f ∧ f ≤ N
  | .inr a => ∃ q', P a q' ∧ q ≤ q' ∧ q' ≤ N
theorem okS_bnd {α β : Type} {N q : Int} {P : α → Int → Prop} {P' : β → Int → Prop} {x : Sum Int α} {f : α → Sum Int β} (h : okS N q P x) (k : ∀ a q', P a q' → q' ≤ N → okS N q' P' (f a)) : okS N q P' (bndS x f) := by
  cases x with
  | inl e => exact h
  | inr a =>
    obtain ⟨q', p, h1, h2⟩ := h
    have := k a q' p h2
    show okS N q P' (f a)
    cases e : f a with
    | inl e' => rw [e] at this; have this : _ ∧ _ := this; exact ⟨by omega, this.2⟩
    | inr b =>
      rw [e] at this
      obtain ⟨q2, p2, h3, h4⟩ := this
      exact ⟨q2, p2, by omega, h4⟩
theorem num_ok (T : Int → Int) {N l q : Int} (hl : 0 ≤ l) (hq : q ≤ N) : okS N q (fun a q' => a.2 = q' ∧ l ≤ a.1 ∧ a.1 ≤ 999) (numA T N l q) := by
  have n := nxT_le T hq
  unfold numA
  by_cases z : 1000 + l ≤ tkC T N q
  · rw [if_pos z]
    have v := tk_val T N q (by omega)
    exact ⟨_, ⟨rfl, by show l ≤ tkC T N q - 1000; omega, by show tkC T N q - 1000 ≤ 999; omega⟩, n⟩
  · rw [if_neg z]
    exact ⟨Int.le_refl _, hq⟩
theorem pas_ok (T : Int → Int) {N c q : Int} (hq : q ≤ N) : okS N q (fun a q' => a = q') (pasA T N c q) := by
  have n := nxT_le T hq
  unfold pasA
  by_cases z : tkC T N q = c
  · rw [if_pos z]
    exact ⟨_, rfl, n⟩
  · rw [if_neg z]
    exact ⟨Int.le_refl _, hq⟩
/-- a LINE's numbers -/
def rwOk (r : List Int) : Prop := (0 ≤ r.getD 0 0 ∧ r.getD 0 0 ≤ 2) ∧ (0 ≤ r.getD 1 0 ∧ r.getD 1 0 < 32) ∧ (0 ≤ r.getD 2 0 ∧ r.getD 2 0 ≤ 999) ∧ (r.getD 0 0 = 0 → 0 ≤ r.getD 3 0 ∧ r.getD 3 0 ≤ 999 ∧ 1 ≤ r.getD 4 0 ∧ r.getD 4 0 ≤ 999) ∧ (r.getD 0 0 ≠ 0 → r.getD 1 0 = 0)
theorem by_ok (T : Int → Int) {N q : Int} (hq : q ≤ N) : okS N q (fun a q' => a.2 = q' ∧ rwOk a.1) (byA T N q) := by
  unfold byA
  refine okS_bnd (P := fun c q' => c.2 = q' ∧ 1 ≤ c.1 ∧ c.1 < 32) ?_ ?_
  · have b := cauF_bd T N (N - q + 1).toNat 0 q (by decide) hq
    unfold cauA
    cases e : cauF T N (N - q + 1).toNat 0 q with
    | inl f => rw [e] at b; exact b
    | inr r => rw [e] at b; have b : _ ∧ _ := b; exact ⟨_, ⟨rfl, b.1⟩, b.2⟩
  rintro c q1 ⟨rfl, c1, c2⟩ h1
  refine okS_bnd (pas_ok T h1) ?_
  rintro q2 _ rfl h2
  refine okS_bnd (num_ok T (by decide) h2) ?_
  rintro o _ ⟨rfl, o1, o2⟩ h3
  refine okS_bnd (pas_ok T h3) ?_
  rintro q4 _ rfl h4
  refine okS_bnd (num_ok T (by decide) h4) ?_
  rintro p _ ⟨rfl, p1, p2⟩ h5
  refine okS_bnd (pas_ok T h5) ?_
  rintro q6 _ rfl h6
  refine okS_bnd (num_ok T (by decide) h6) ?_
  rintro e _ ⟨rfl, e1, e2⟩ h7
  refine okS_bnd (pas_ok T h7) ?_
  rintro q8 _ rfl h8
  exact ⟨q8, ⟨rfl, ⟨show (0 : Int) ≤ 0 by decide, show (0 : Int) ≤ 2 by decide⟩, ⟨by show 0 ≤ c.1; omega, c2⟩, ⟨o1, o2⟩, fun _ => ⟨p1, p2, e1, e2⟩, fun y => absurd rfl y⟩, Int.le_refl _, h8⟩
theorem fr_ok (T : Int → Int) {N q s : Int} (hs : s = 1 ∨ s = 2) (hq : q ≤ N) : okS N q (fun a q' => a.2 = q' ∧ rwOk a.1) (frA T N s q) := by
  unfold frA
  refine okS_bnd (num_ok T (by decide) hq) ?_
  rintro o _ ⟨rfl, o1, o2⟩ h3
  refine okS_bnd (pas_ok T h3) ?_
  rintro q8 _ rfl h8
  exact ⟨q8, ⟨rfl, ⟨by show 0 ≤ s; omega, by show s ≤ 2; omega⟩, ⟨show (0 : Int) ≤ 0 by decide, show (0 : Int) < 32 by decide⟩, ⟨o1, o2⟩, fun (y : s = 0) => by omega, fun _ => rfl⟩, Int.le_refl _, h8⟩
theorem line_ok (T : Int → Int) {N q : Int} (hq : q ≤ N) : okS N q (fun a q' => a.2 = q' ∧ rwOk a.1) (lineA T N q) := by
  have n := nxT_le T hq
  have up : ∀ x : Sum Int (List Int × Int), okS N (nxT T N q) (fun a q' => a.2 = q' ∧ rwOk a.1) x → okS N q (fun a q' => a.2 = q' ∧ rwOk a.1) x := fun x hx => by
    cases x with
    | inl f => have hx : _ ∧ _ := hx; exact ⟨by omega, hx.2⟩
    | inr a => obtain ⟨q', p, h1, h2⟩ := hx; exact ⟨q', p, by omega, h2⟩
  unfold lineA
  by_cases z1 : tkC T N q = 5
  · rw [if_pos z1]
    exact up _ (by_ok T n.2)
  · rw [if_neg z1]
    by_cases z2 : tkC T N q = 9
    · rw [if_pos z2]
      exact up _ (fr_ok T (Or.inl rfl) n.2)
    · rw [if_neg z2]
      by_cases z3 : tkC T N q = 10
      · rw [if_pos z3]
        exact up _ (fr_ok T (Or.inr rfl) n.2)
      · rw [if_neg z3]
        exact ⟨Int.le_refl _, hq⟩
theorem lin_ok (T : Int → Int) {N : Int} : ∀ (m : Nat) {q : Int}, q ≤ N → match linA T N m q with
    | .inl f => q ≤ f ∧ f ≤ N
    | .inr rs => rs.length ≤ m ∧ ∀ r ∈ rs, rwOk r
  | 0, q, hq => by
    show match (if tkC T N q = 14 then Sum.inr [] else Sum.inl q) with
    | .inl f => q ≤ f ∧ f ≤ N
    | .inr rs => rs.length ≤ 0 ∧ ∀ r ∈ rs, rwOk r
    by_cases z : tkC T N q = 14
    · rw [if_pos z]
      exact ⟨Nat.le_refl _, fun r hr => by cases hr⟩
    · rw [if_neg z]
      exact ⟨Int.le_refl _, hq⟩
  | m + 1, q, hq => by
    show match (if tkC T N q = 14 then Sum.inr [] else bndS (lineA T N q) fun r => bndS (linA T N m r.2) fun rs => .inr (r.1 :: rs)) with
    | .inl f => q ≤ f ∧ f ≤ N
    | .inr rs => rs.length ≤ m + 1 ∧ ∀ r ∈ rs, rwOk r
    by_cases z : tkC T N q = 14
    · rw [if_pos z]
      exact ⟨Nat.zero_le _, fun r hr => by cases hr⟩
    · rw [if_neg z]
      have l := line_ok T hq
      cases e : lineA T N q with
      | inl f => rw [e] at l; exact l
      | inr a =>
        rw [e] at l
        obtain ⟨q', ⟨p1, p2⟩, h1, h2⟩ := l
        have ih := lin_ok T m h2
        show match (bndS (linA T N m a.2) fun rs => Sum.inr (a.1 :: rs)) with
        | .inl f => q ≤ f ∧ f ≤ N
        | .inr rs => rs.length ≤ m + 1 ∧ ∀ r ∈ rs, rwOk r
        rw [p1]
        cases e2 : linA T N m q' with
        | inl f =>
          rw [e2] at ih
          have ih : _ ∧ _ := ih
          exact ⟨by omega, ih.2⟩
        | inr rs =>
          rw [e2] at ih
          have ih : _ ∧ _ := ih
          refine ⟨by show (a.1 :: rs).length ≤ m + 1; rw [List.length_cons]; omega, fun r hr => ?_⟩
          rcases List.mem_cons.mp hr with rfl | hr
          · exact p2
          · exact ih.2 r hr
