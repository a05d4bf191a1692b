/-! ===== read: tokens ===== -/
def upF (P : Int → Bool) : Nat → Int → Int
  | 0, q => q
  | n + 1, q => if P q = true then upF P n (q + 1) else q
/-- where a row of places with P, from q on, ends -/
def upI (P : Int → Bool) (q N : Int) : Int := upF P (N - q).toNat q
theorem upI_N (P : Int → Bool) (N : Int) : upI P N N = N := by
  unfold upI
  rw [show (N - N).toNat = 0 by omega]
  rfl
theorem upI_go {P : Int → Bool} {q N : Int} (h : q < N) (p : P q = true) : upI P q N = upI P (q + 1) N := by
  unfold upI
  rw [show (N - q).toNat = (N - (q + 1)).toNat + 1 by omega]
  show (if P q = true then _ else _) = _
  rw [if_pos p]
theorem upI_no {P : Int → Bool} {q N : Int} (p : ¬ P q = true) : upI P q N = q := by
  unfold upI
  cases (N - q).toNat with
  | zero => rfl
  | succ n => exact if_neg p
theorem upI_at {P : Int → Bool} {q t N : Int} (h : q ≤ t) (ht : t ≤ N) (p : ∀ i, q ≤ i → i < t → P i = true) (e : t = N ∨ ¬ P t = true) : upI P q N = t := by
  obtain ⟨m, rfl⟩ : ∃ m : Nat, q = t - (m : Int) := ⟨(t - q).toNat, by omega⟩
  clear h
  induction m with
  | zero =>
    rw [show t - ((0 : Nat) : Int) = t by omega]
    rcases e with e | e
    · rw [e]; exact upI_N P N
    · exact upI_no e
  | succ m ih =>
    rw [upI_go (by omega) (p _ (by omega) (by omega)), show t - ((m + 1 : Nat) : Int) + 1 = t - (m : Int) by omega]
    exact ih fun i hi => p i (by omega)
theorem upF_s (P : Int → Bool) : ∀ (n : Nat) (q : Int), (q ≤ upF P n q ∧ upF P n q ≤ q + (n : Int)) ∧ (∀ i, q ≤ i → i < upF P n q → P i = true) ∧ (upF P n q = q + (n : Int) ∨ ¬ P (upF P n q) = true)
  | 0, q => ⟨⟨Int.le_refl _, by show q ≤ _; omega⟩, fun i h1 h2 => by have h2 : i < q := h2; omega, Or.inl (by show q = _; omega)⟩
  | n + 1, q => by
    show (q ≤ (if P q = true then upF P n (q + 1) else q) ∧ (if P q = true then upF P n (q + 1) else q) ≤ q + ((n + 1 : Nat) : Int)) ∧ (∀ i, q ≤ i → i < (if P q = true then upF P n (q + 1) else q) → P i = true) ∧ ((if P q = true then upF P n (q + 1) else q) = q + ((n + 1 : Nat) : Int) ∨ ¬ P (if P q = true then upF P n (q + 1) else q) = true)
    by_cases h : P q = true
    · rw [if_pos h]
      obtain ⟨h1, h2, h3⟩ := upF_s P n (q + 1)
      refine ⟨by omega, fun i i0 i1 => ?_, ?_⟩
      · by_cases z : i = q
        · rw [z]; exact h
        · exact h2 i (by omega) i1
      · rcases h3 with h3 | h3
        · exact Or.inl (by omega)
        · exact Or.inr h3
    · rw [if_neg h]
      exact ⟨by omega, fun i h1 h2 => by omega, Or.inr h⟩
theorem upI_s (P : Int → Bool) {q N : Int} (h : q ≤ N) : (q ≤ upI P q N ∧ upI P q N ≤ N) ∧ (∀ i, q ≤ i → i < upI P q N → P i = true) ∧ (upI P q N = N ∨ ¬ P (upI P q N) = true) := by
  have s := upF_s P (N - q).toNat q
  rw [show q + ((N - q).toNat : Int) = N by omega] at s
  exact s
def soB (b : Int) : Int := if 48 ≤ b ∧ b ≤ 57 then 1000 else if 97 ≤ b ∧ b ≤ 122 then 5 else 13
theorem soB_d {b : Int} : soB b = 1000 ↔ (48 ≤ b ∧ b ≤ 57) := by
  unfold soB
  split
  · exact ⟨fun _ => by assumption, fun _ => rfl⟩
  · rename_i h
    split
    · exact ⟨fun y => absurd y (by decide), fun y => absurd y h⟩
    · exact ⟨fun y => absurd y (by decide), fun y => absurd y h⟩
theorem soB_l {b : Int} : soB b = 5 ↔ (97 ≤ b ∧ b ≤ 122) := by
  unfold soB
  split
  · exact ⟨fun y => absurd y (by decide), fun y => by omega⟩
  · split
    · exact ⟨fun _ => by assumption, fun _ => rfl⟩
    · rename_i h
      exact ⟨fun y => absurd y (by decide), fun y => absurd y h⟩
theorem soB_3 (b : Int) : soB b = 1000 ∨ soB b = 5 ∨ soB b = 13 := by
  unfold soB
  split
  · exact Or.inl rfl
  · split
    · exact Or.inr (Or.inl rfl)
    · exact Or.inr (Or.inr rfl)
theorem i5_5 {α : Type} (a b : α) : (if (5 : Int) = 5 then a else b) = a := if_pos rfl
theorem i5_k {α : Type} (a b : α) : (if (5 : Int) = 1000 then a else b) = b := if_neg (by decide)
theorem ik_5 {α : Type} (a b : α) : (if (1000 : Int) = 5 then a else b) = b := if_neg (by decide)
theorem ik_k {α : Type} (a b : α) : (if (1000 : Int) = 1000 then a else b) = a := if_pos rfl
theorem i13_5 {α : Type} (a b : α) : (if (13 : Int) = 5 then a else b) = b := if_neg (by decide)
theorem i13_k {α : Type} (a b : α) : (if (13 : Int) = 1000 then a else b) = b := if_neg (by decide)
def skT (T : Int → Int) (N q : Int) : Int := upI (fun i => decide (T i = 32)) q N
def enT (T : Int → Int) (N q : Int) : Int := if q < N then (if soB (T q) = 13 then q + 1 else upI (fun i => decide (soB (T i) = soB (T q))) (q + 1) N) else N
def nxT (T : Int → Int) (N q : Int) : Int := skT T N (enT T N q)
def wrd (T : Int → Int) (q : Int) (k : Nat) : List Int := (List.range k).map fun j : Nat => T (q + (j : Int))
def nuV (T : Int → Int) (q : Int) : Nat → Int
  | 0 => 0
  | k + 1 => nuV T q k * 10 + T (q + (k : Int)) - 48
def haR : List Int → Int
  | [] => 0
  | b :: l => 27 * haR l + b - 96
def wdC (l : List Int) : Int := if l = txL.getD 0 [] then 0 else if l = txL.getD 1 [] then 1 else if l = txL.getD 2 [] then 2 else if l = txL.getD 3 [] then 3 else if l = txL.getD 4 [] then 4 else if l = txL.getD 5 [] then 5 else if l = txL.getD 6 [] then 6 else if l = txL.getD 7 [] then 7 else if l = txL.getD 8 [] then 8 else if l = txL.getD 9 [] then 9 else if l = txL.getD 10 [] then 10 else if l = txL.getD 11 [] then 11 else 13
theorem wdC_at : ∀ w : Nat, w < 12 → wdC (txL.getD w []) = (w : Int) := by decide
theorem wdC_no {l : List Int} (h : ∀ w : Nat, w < 12 → l ≠ txL.getD w []) : wdC l = 13 := by
  unfold wdC
  rw [if_neg (h 0 (by decide)), if_neg (h 1 (by decide)), if_neg (h 2 (by decide)), if_neg (h 3 (by decide)), if_neg (h 4 (by decide)), if_neg (h 5 (by decide)), if_neg (h 6 (by decide)), if_neg (h 7 (by decide)), if_neg (h 8 (by decide)), if_neg (h 9 (by decide)), if_neg (h 10 (by decide)), if_neg (h 11 (by decide))]
theorem wdC_of (l : List Int) : (∃ w : Nat, w < 12 ∧ l = txL.getD w [] ∧ wdC l = (w : Int)) ∨ ((∀ w : Nat, w < 12 → l ≠ txL.getD w []) ∧ wdC l = 13) := by
  by_cases h : ∃ w : Nat, w < 12 ∧ l = txL.getD w []
  · obtain ⟨w, h1, h2⟩ := h
    exact Or.inl ⟨w, h1, h2, by rw [h2]; exact wdC_at w h1⟩
  · have h2 : ∀ w : Nat, w < 12 → l ≠ txL.getD w [] := fun w hw e => h ⟨w, hw, e⟩
    exact Or.inr ⟨h2, wdC_no h2⟩
def tkC (T : Int → Int) (N q : Int) : Int := if q < N then (if soB (T q) = 1000 then (if 3 < enT T N q - q then 13 else 1000 + nuV T q (enT T N q - q).toNat) else if soB (T q) = 5 then wdC (wrd T q (enT T N q - q).toNat) else if T q = 59 then 12 else 13) else 14
def kdT (T : Int → Int) (N q : Int) : Int := if q < N then (if soB (T q) = 5 then 1 else if soB (T q) = 1000 then 2 else 3) else 0
def vlT (T : Int → Int) (N q : Int) : Int := if q < N then (if soB (T q) = 5 then (if 6 < enT T N q - q then 0 else haR (wrd T q (enT T N q - q).toNat).reverse) else if soB (T q) = 1000 then (if 3 < enT T N q - q then nuV T q 3 else nuV T q (enT T N q - q).toNat) else T q) else 0
theorem skT_s (T : Int → Int) {q N : Int} (h : q ≤ N) : (q ≤ skT T N q ∧ skT T N q ≤ N) ∧ (∀ i, q ≤ i → i < skT T N q → T i = 32) ∧ (skT T N q < N → T (skT T N q) ≠ 32) := by
  obtain ⟨h1, h2, h3⟩ := upI_s (fun i => decide (T i = 32)) h
  refine ⟨h1, fun i i0 i1 => of_decide_eq_true (h2 i i0 i1), fun hl e => ?_⟩
  rcases h3 with h3 | h3
  · have hl : upI (fun i => decide (T i = 32)) q N < N := hl
    omega
  · exact h3 (decide_eq_true e)
theorem enT_N (T : Int → Int) (N : Int) : enT T N N = N := if_neg (Int.lt_irrefl _)
theorem enT_s (T : Int → Int) {q N : Int} (h : q < N) : q < enT T N q ∧ enT T N q ≤ N := by
  unfold enT
  rw [if_pos h]
  split
  · omega
  · have := (upI_s (fun i => decide (soB (T i) = soB (T q))) (q := q + 1) (N := N) (by omega)).1
    omega
theorem enT_p (T : Int → Int) {q N : Int} (h : q < N) : ∀ i, q ≤ i → i < enT T N q → soB (T i) = soB (T q) := by
  unfold enT
  rw [if_pos h]
  split
  · intro i i0 i1
    rw [show i = q by omega]
  · intro i i0 i1
    by_cases z : i = q
    · rw [z]
    · exact of_decide_eq_true ((upI_s (fun i => decide (soB (T i) = soB (T q))) (q := q + 1) (N := N) (by omega)).2.1 i (by omega) i1)
theorem nxT_N (T : Int → Int) (N : Int) : nxT T N N = N := by
  unfold nxT
  rw [enT_N]
  exact upI_N _ _
theorem nxT_s (T : Int → Int) {q N : Int} (h : q < N) : q < nxT T N q ∧ nxT T N q ≤ N := by
  have e := enT_s T h
  have s := (skT_s T (q := enT T N q) (N := N) e.2).1
  unfold nxT
  omega
theorem haR_nn : ∀ {l : List Int}, (∀ b ∈ l, 97 ≤ b ∧ b ≤ 122) → 0 ≤ haR l ∧ (l ≠ [] → 1 ≤ haR l)
  | [], _ => ⟨Int.le_refl _, fun h => absurd rfl h⟩
  | b :: l, h => by
    have ih := (haR_nn (l := l) fun x hx => h x (List.mem_cons_of_mem _ hx)).1
    have hb := h b (List.mem_cons_self ..)
    have e : haR (b :: l) = 27 * haR l + b - 96 := rfl
    rw [e]
    exact ⟨by omega, fun _ => by omega⟩
theorem haR_inj : ∀ {l l' : List Int}, (∀ b ∈ l, 97 ≤ b ∧ b ≤ 122) → (∀ b ∈ l', 97 ≤ b ∧ b ≤ 122) → haR l = haR l' → l = l'
  | [], [], _, _, _ => rfl
  | [], b :: l', _, h', e => by
    have := (haR_nn h').2 (fun y => by cases y)
    have e : 0 = haR (b :: l') := e
    omega
  | b :: l, [], h, _, e => by
    have := (haR_nn h).2 (fun y => by cases y)
    have e : haR (b :: l) = 0 := e
    omega
  | b :: l, b' :: l', h, h', e => by
    have hb := h b (List.mem_cons_self ..)
    have hb' := h' b' (List.mem_cons_self ..)
    have e : 27 * haR l + b - 96 = 27 * haR l' + b' - 96 := e
    have eb : b = b' := by omega
    have el : haR l = haR l' := by omega
    rw [eb, haR_inj (fun x hx => h x (List.mem_cons_of_mem _ hx)) (fun x hx => h' x (List.mem_cons_of_mem _ hx)) el]
def hsL : List Int := [16079, 197814, 365260, 1905383, 286880, 79, 311436, 316351, 99233, 131360, 267347, 423]
theorem hs_w : ∀ w : Nat, w < 12 → (haR (txL.getD w []).reverse = hsL.getD w 0 ∧ 1 ≤ hsL.getD w 0 ∧ (txL.getD w []).length ≤ 5) ∧ ∀ b ∈ (txL.getD w []).reverse, 97 ≤ b ∧ b ≤ 122 := by decide
theorem wrd_len (T : Int → Int) (q : Int) (k : Nat) : (wrd T q k).length = k := by
  unfold wrd
  rw [List.length_map, List.length_range]
theorem wrd_s (T : Int → Int) (q : Int) (k : Nat) : wrd T q (k + 1) = wrd T q k ++ [T (q + (k : Int))] := by
  unfold wrd
  rw [List.range_succ, List.map_append]
  rfl
theorem wrd_mem {T : Int → Int} {q : Int} {k : Nat} {b : Int} (h : b ∈ wrd T q k) : ∃ j : Nat, j < k ∧ b = T (q + (j : Int)) := by
  unfold wrd at h
  obtain ⟨j, h1, h2⟩ := List.mem_map.mp h
  exact ⟨j, List.mem_range.mp h1, h2.symm⟩
theorem tk_word (T : Int → Int) (N q : Int) {w : Nat} (hw : w < 12) : (kdT T N q = 1 ∧ vlT T N q = hsL.getD w 0) ↔ tkC T N q = (w : Int) := by
  unfold kdT vlT tkC
  by_cases h : q < N
  · rw [if_pos h, if_pos h, if_pos h]
    have en := enT_s T h
    have ep := enT_p T h
    rcases soB_3 (T q) with s | s | s
    · simp only [s, i5_k, ik_5, i13_5, i13_k, ↓reduceIte]
      refine ⟨fun y => absurd y.1 (by decide), fun y => ?_⟩
      split at y
      · omega
      · exfalso
        have nn : 0 ≤ nuV T q (enT T N q - q).toNat := by
          have dg : ∀ j : Nat, j < (enT T N q - q).toNat → 48 ≤ T (q + (j : Int)) := fun j hj => (soB_d.mp ((ep _ (by omega) (by omega)).trans s)).1
          generalize (enT T N q - q).toNat = k at dg
          clear y
          induction k with
          | zero => exact Int.le_refl _
          | succ k ih =>
            have i := ih fun j hj => dg j (by omega)
            have d := dg k (by omega)
            show 0 ≤ nuV T q k * 10 + T (q + (k : Int)) - 48
            omega
        omega
    · simp only [s, i5_k, ik_5, i13_5, i13_k, ↓reduceIte]
      have lm : ∀ b ∈ (wrd T q (enT T N q - q).toNat).reverse, 97 ≤ b ∧ b ≤ 122 := fun b hb => by
        obtain ⟨j, h1, h2⟩ := wrd_mem (List.mem_reverse.mp hb)
        rw [h2]
        exact soB_l.mp ((ep _ (by omega) (by omega)).trans s)
      obtain ⟨⟨a1, a2, a3⟩, a4⟩ := hs_w w hw
      have le := wrd_len T q (enT T N q - q).toNat
      constructor
      · rintro ⟨_, y⟩
        split at y
        · omega
        · have e := haR_inj lm a4 (y.trans a1.symm)
          rw [List.reverse_inj.mp e]
          exact wdC_at w hw
      · intro y
        rcases wdC_of (wrd T q (enT T N q - q).toNat) with ⟨w', b1, b2, b3⟩ | ⟨_, b3⟩
        · have ww : w' = w := by omega
          rw [ww] at b2
          rw [b2] at le
          refine ⟨trivial, ?_⟩
          rw [if_neg (by omega), b2]
          exact a1
        · omega
    · simp only [s, i5_k, ik_5, i13_5, i13_k, ↓reduceIte]
      refine ⟨fun y => absurd y.1 (by decide), fun y => ?_⟩
      split at y <;> omega
  · rw [if_neg h, if_neg h, if_neg h]
    exact ⟨fun y => absurd y.1 (by decide), fun y => by omega⟩
theorem nuV_bd (T : Int → Int) (q : Int) {k : Nat} (hk : k ≤ 3) (h : ∀ j : Nat, j < k → 48 ≤ T (q + (j : Int)) ∧ T (q + (j : Int)) ≤ 57) : 0 ≤ nuV T q k ∧ nuV T q k ≤ 999 := by
  have c : k = 0 ∨ k = 1 ∨ k = 2 ∨ k = 3 := by omega
  rcases c with rfl | rfl | rfl | rfl
  · exact ⟨Int.le_refl _, show (0 : Int) ≤ 999 by decide⟩
  · have := h 0 (by decide)
    show 0 ≤ (0 : Int) * 10 + T (q + ((0 : Nat) : Int)) - 48 ∧ (0 : Int) * 10 + T (q + ((0 : Nat) : Int)) - 48 ≤ 999
    omega
  · have h0 := h 0 (by decide)
    have h1 := h 1 (by decide)
    show 0 ≤ ((0 : Int) * 10 + T (q + ((0 : Nat) : Int)) - 48) * 10 + T (q + ((1 : Nat) : Int)) - 48 ∧ ((0 : Int) * 10 + T (q + ((0 : Nat) : Int)) - 48) * 10 + T (q + ((1 : Nat) : Int)) - 48 ≤ 999
    omega
  · have h0 := h 0 (by decide)
    have h1 := h 1 (by decide)
    have h2 := h 2 (by decide)
    show 0 ≤ (((0 : Int) * 10 + T (q + ((0 : Nat) : Int)) - 48) * 10 + T (q + ((1 : Nat) : Int)) - 48) * 10 + T (q + ((2 : Nat) : Int)) - 48 ∧ (((0 : Int) * 10 + T (q + ((0 : Nat) : Int)) - 48) * 10 + T (q + ((1 : Nat) : Int)) - 48) * 10 + T (q + ((2 : Nat) : Int)) - 48 ≤ 999
    omega
theorem tk_num (T : Int → Int) (N q : Int) {l : Int} (hl : 0 ≤ l) : ((kdT T N q = 2 ∧ enT T N q - q ≤ 3) ∧ l ≤ vlT T N q) ↔ 1000 + l ≤ tkC T N q := by
  unfold kdT vlT tkC
  by_cases h : q < N
  · rw [if_pos h, if_pos h, if_pos h]
    rcases soB_3 (T q) with s | s | s
    · simp only [s, i5_k, ik_5, i13_5, i13_k, ↓reduceIte]
      by_cases z : 3 < enT T N q - q
      · rw [if_pos z, if_pos z]
        exact ⟨fun y => by omega, fun y => by omega⟩
      · rw [if_neg z, if_neg z]
        exact ⟨fun y => by omega, fun y => ⟨⟨trivial, by omega⟩, by omega⟩⟩
    · simp only [s, i5_k, ik_5, i13_5, i13_k, ↓reduceIte]
      refine ⟨fun y => absurd y.1.1 (by decide), fun y => ?_⟩
      rcases wdC_of (wrd T q (enT T N q - q).toNat) with ⟨w', b1, b2, b3⟩ | ⟨_, b3⟩ <;> omega
    · simp only [s, i5_k, ik_5, i13_5, i13_k, ↓reduceIte]
      refine ⟨fun y => absurd y.1.1 (by decide), fun y => ?_⟩
      split at y <;> omega
  · rw [if_neg h, if_neg h, if_neg h]
    exact ⟨fun y => absurd y.1.1 (by decide), fun y => by omega⟩
theorem tk_val (T : Int → Int) (N q : Int) (h : 1000 ≤ tkC T N q) : vlT T N q = tkC T N q - 1000 ∧ tkC T N q ≤ 1999 := by
  have hk := (tk_num T N q (l := 0) (Int.le_refl _)).mpr h
  unfold kdT at hk
  unfold vlT tkC
  by_cases h : q < N
  · rw [if_pos h] at hk ⊢
    rw [if_pos h]
    have en := enT_s T h
    have ep := enT_p T h
    rcases soB_3 (T q) with s | s | s
    · simp only [s, i5_k, ik_5, i13_5, i13_k, ↓reduceIte]
      rw [if_neg (by omega), if_neg (by omega)]
      have b := nuV_bd T q (k := (enT T N q - q).toNat) (by omega) fun j hj => soB_d.mp ((ep _ (by omega) (by omega)).trans s)
      omega
    · simp only [s, i5_k, ik_5, i13_5, i13_k, ↓reduceIte] at hk
      exact absurd hk.1.1 (by decide)
    · simp only [s, i5_k, ik_5, i13_5, i13_k, ↓reduceIte] at hk
      exact absurd hk.1.1 (by decide)
  · rw [if_neg h] at hk
    exact absurd hk.1.1 (by decide)
theorem tk_semi (T : Int → Int) (N q : Int) : (kdT T N q = 3 ∧ vlT T N q = 59) ↔ tkC T N q = 12 := by
  unfold kdT vlT tkC
  by_cases h : q < N
  · rw [if_pos h, if_pos h, if_pos h]
    have en := enT_s T h
    have ep := enT_p T h
    rcases soB_3 (T q) with s | s | s
    · simp only [s, i5_k, ik_5, i13_5, i13_k, ↓reduceIte]
      refine ⟨fun y => absurd y.1 (by decide), fun y => ?_⟩
      split at y
      · omega
      · have b := nuV_bd T q (k := (enT T N q - q).toNat) (by omega) fun j hj => soB_d.mp ((ep _ (by omega) (by omega)).trans s)
        omega
    · simp only [s, i5_k, ik_5, i13_5, i13_k, ↓reduceIte]
      refine ⟨fun y => absurd y.1 (by decide), fun y => ?_⟩
      rcases wdC_of (wrd T q (enT T N q - q).toNat) with ⟨w', b1, b2, b3⟩ | ⟨_, b3⟩ <;> omega
    · simp only [s, i5_k, ik_5, i13_5, i13_k, ↓reduceIte]
      by_cases z : T q = 59
      · rw [if_pos z]; exact ⟨fun _ => rfl, fun _ => ⟨trivial, z⟩⟩
      · rw [if_neg z]; exact ⟨fun y => absurd y.2 z, fun y => absurd y (by decide)⟩
  · rw [if_neg h, if_neg h, if_neg h]
    exact ⟨fun y => absurd y.1 (by decide), fun y => absurd y (by decide)⟩
theorem tk_end (T : Int → Int) {N q : Int} (hq : q ≤ N) : (kdT T N q = 0 ↔ q = N) ∧ (tkC T N q = 14 ↔ q = N) := by
  unfold kdT tkC
  by_cases h : q < N
  · rw [if_pos h, if_pos h]
    have en := enT_s T h
    have ep := enT_p T h
    rcases soB_3 (T q) with s | s | s
    · simp only [s, i5_k, ik_5, i13_5, i13_k, ↓reduceIte]
      refine ⟨⟨fun y => absurd y (by decide), fun y => by omega⟩, fun y => ?_, fun y => by omega⟩
      split at y
      · omega
      · have b := nuV_bd T q (k := (enT T N q - q).toNat) (by omega) fun j hj => soB_d.mp ((ep _ (by omega) (by omega)).trans s)
        omega
    · simp only [s, i5_k, ik_5, i13_5, i13_k, ↓reduceIte]
      refine ⟨⟨fun y => absurd y (by decide), fun y => by omega⟩, fun y => ?_, fun y => by omega⟩
      rcases wdC_of (wrd T q (enT T N q - q).toNat) with ⟨w', b1, b2, b3⟩ | ⟨_, b3⟩ <;> omega
    · simp only [s, i5_k, ik_5, i13_5, i13_k, ↓reduceIte]
      refine ⟨⟨fun y => absurd y (by decide), fun y => by omega⟩, fun y => ?_, fun y => by omega⟩
      split at y <;> omega
  · rw [if_neg h, if_neg h]
    exact ⟨⟨fun _ => by omega, fun _ => rfl⟩, fun _ => by omega, fun _ => rfl⟩
