/-! ===== LOOPS ===== -/
theorem itn_det {S R : Type} {f : S → Option (S ⊕ R)} : ∀ (n m : Nat) (s : S) (r r' : R), itn f n s = some r → itn f m s = some r' → r = r'
  | 0, _, _, _, _, h, _ => by cases h
  | _ + 1, 0, _, _, _, _, h => by cases h
  | n + 1, m + 1, s, r, r', h, h' => by
    unfold itn at h h'
    cases hf : f s with
    | none => rw [hf] at h; cases h
    | some q =>
      rw [hf] at h h'
      cases q with
      | inl s' => exact itn_det n m s' r r' h h'
      | inr z =>
        have h : some z = some r := h
        have h' : some z = some r' := h'
        cases h; cases h'; rfl
theorem lp_some {S R : Type} {f : S → Option (S ⊕ R)} {s : S} {n : Nat} {r : R} (h : itn f n s = some r) : lp f s = some r := by
  unfold lp
  have he : ∃ r n, itn f n s = some r := ⟨r, n, h⟩
  rw [dif_pos he]
  obtain ⟨m, hm⟩ := he.choose_spec
  rw [itn_det m n s _ r hm h]
def WQ (o : Option cvR) (Q : cvR → Prop) : Prop := ∃ r, o = some r ∧ Q r
def WF (o : Option (Int × cvM)) (Q : Int → cvM → Prop) : Prop := ∃ v σ, o = some (v, σ) ∧ Q v σ
def l_u (r : Option cvR) : Option ((cvE × cvM) ⊕ cvR) := r.bind fun w => if w.1 = 0 then some (.inl (w.2.2.1, w.2.2.2)) else none
def l_b (r : Option cvR) (u : cvS) : Option ((cvE × cvM) ⊕ cvR) := r.bind fun q => if q.1 = 0 ∨ q.1 = 2 then (u q.2.2.1 q.2.2.2).bind fun w => if w.1 = 0 then some (.inl (w.2.2.1, w.2.2.2)) else none else if q.1 = 1 then some (.inr (0, 0, q.2.2.1, q.2.2.2)) else some (.inr q)
def l_c (r : Option (Bool × cvM)) (b u : cvS) (E : cvE) : Option ((cvE × cvM) ⊕ cvR) := r.bind fun r => if r.1 = true then l_b (b E r.2) u else some (.inr (0, 0, E, r.2))
theorem ev_lp (c : cvC) (b u : cvS) (E : cvE) (σ : cvM) : lpS c b u (E, σ) = l_c (c E σ) b u E := Eq.trans rfl rfl
theorem ev_lc (q : Bool) (σ : cvM) (b u : cvS) (E : cvE) : l_c (some (q, σ)) b u E = if q = true then l_b (b E σ) u else some (.inr (0, 0, E, σ)) := Eq.trans rfl rfl
theorem ev_lb0 (w : Int) (E : cvE) (σ : cvM) (u : cvS) : l_b (some (0, w, E, σ)) u = l_u (u E σ) := Eq.trans rfl rfl
theorem ev_lb2 (w : Int) (E : cvE) (σ : cvM) (u : cvS) : l_b (some (2, w, E, σ)) u = l_u (u E σ) := Eq.trans rfl rfl
theorem ev_lb1 (w : Int) (E : cvE) (σ : cvM) (u : cvS) : l_b (some (1, w, E, σ)) u = some (.inr (0, 0, E, σ)) := Eq.trans rfl rfl
theorem ev_lb3 (w : Int) (E : cvE) (σ : cvM) (u : cvS) : l_b (some (3, w, E, σ)) u = some (.inr (3, w, E, σ)) := Eq.trans rfl rfl
theorem ev_lbi (P : Prop) [Decidable P] (x y : Option cvR) (u : cvS) : l_b (if P then x else y) u = if P then l_b x u else l_b y u := by split <;> rfl
theorem ev_lu (w : Int) (E : cvE) (σ : cvM) : l_u (some (0, w, E, σ)) = some (.inl (E, σ)) := Eq.trans rfl rfl
theorem ev_ass (x : Option cvR) (a b : cvS) : s_seq (s_seq x a) b = s_seq x (xs_seq a b) := by
  cases x with
  | none => rfl
  | some r =>
    show s_seq (if r.1 = 0 then a r.2.2.1 r.2.2.2 else some r) b = if r.1 = 0 then xs_seq a b r.2.2.1 r.2.2.2 else some r
    by_cases h : r.1 = 0
    · rw [if_pos h, if_pos h]; rfl
    · rw [if_neg h, if_neg h]
      show (if r.1 = 0 then _ else _) = _
      rw [if_neg h]
/-- a loop whose states are known: st i after i rounds; it ends at round n -/
theorem lp_for {c : cvC} {b u : cvS} {E : cvE} {σ : cvM} (st : Nat → cvE × cvM) (n : Nat) (r : cvR) (hE : st 0 = (E, σ)) (hs : ∀ i, i < n → lpS c b u (st i) = some (.inl (st (i + 1)))) (he : lpS c b u (st n) = some (.inr r)) : xs_lp c b u E σ = some r := by
  have key : ∀ m i, i + m = n → itn (lpS c b u) (m + 1) (st i) = some r := by
    intro m
    induction m with
    | zero =>
      intro i hi
      have : i = n := by omega
      subst this
      unfold itn
      rw [he]
      rfl
    | succ m ih =>
      intro i hi
      unfold itn
      rw [hs i (by omega)]
      exact ih (i + 1) (by omega)
  unfold xs_lp
  rw [← hE]
  exact lp_some (key n 0 (by omega))
/-- one round: it ends with Q, or goes on with N -/
def RS (o : Option ((cvE × cvM) ⊕ cvR)) (N : cvE → cvM → Prop) (Q : cvR → Prop) : Prop := (∃ E σ, o = some (.inl (E, σ)) ∧ N E σ) ∨ ∃ r, o = some (.inr r) ∧ Q r
theorem RS.go {E : cvE} {σ : cvM} {N : cvE → cvM → Prop} {Q : cvR → Prop} (h : N E σ) : RS (some (.inl (E, σ))) N Q := Or.inl ⟨E, σ, rfl, h⟩
theorem RS.done {r : cvR} {N : cvE → cvM → Prop} {Q : cvR → Prop} (h : Q r) : RS (some (.inr r)) N Q := Or.inr ⟨r, rfl, h⟩
/-- a loop with an invariant and a measure -/
theorem wq_lp {c : cvC} {b u : cvS} {E : cvE} {σ : cvM} {Q : cvR → Prop} (I : Nat → cvE → cvM → Prop) (n : Nat) (h : I n E σ) (hs : ∀ k E σ, I k E σ → RS (lpS c b u (E, σ)) (fun E' σ' => ∃ k', k' < k ∧ I k' E' σ') Q) : WQ (xs_lp c b u E σ) Q := by
  have key : ∀ n k E σ, k ≤ n → I k E σ → ∃ r m, itn (lpS c b u) m (E, σ) = some r ∧ Q r := by
    intro n
    induction n with
    | zero =>
      intro k E σ hk hI
      rcases hs k E σ hI with ⟨E', σ', _, k', h1, _⟩ | ⟨r, h1, h2⟩
      · omega
      · exact ⟨r, 1, by unfold itn; rw [h1]; rfl, h2⟩
    | succ n ih =>
      intro k E σ hk hI
      rcases hs k E σ hI with ⟨E', σ', h0, k', h1, h2⟩ | ⟨r, h1, h2⟩
      · obtain ⟨r, m, a1, a2⟩ := ih k' E' σ' (by omega) h2
        exact ⟨r, m + 1, by unfold itn; rw [h0]; exact a1, a2⟩
      · exact ⟨r, 1, by unfold itn; rw [h1]; rfl, h2⟩
  obtain ⟨r, m, a1, a2⟩ := key n n E σ (Nat.le_refl n) h
  exact ⟨r, lp_some a1, a2⟩
/-- a loop that counts up to n, with an invariant at each round -/
theorem wq_up {c : cvC} {b u : cvS} {E : cvE} {σ : cvM} {Q : cvR → Prop} (I : Nat → cvE → cvM → Prop) (n : Nat) (h : I 0 E σ) (hs : ∀ k E σ, k < n → I k E σ → RS (lpS c b u (E, σ)) (fun E' σ' => I (k + 1) E' σ') Q) (he : ∀ E σ, I n E σ → RS (lpS c b u (E, σ)) (fun _ _ => False) Q) : WQ (xs_lp c b u E σ) Q := by
  refine wq_lp (fun k E σ => k ≤ n ∧ I (n - k) E σ) n ⟨Nat.le_refl n, by rw [Nat.sub_self]; exact h⟩ ?_
  intro k E σ hI
  by_cases hk : k = 0
  · subst hk
    rcases he E σ hI.2 with ⟨_, _, _, h⟩ | h
    · exact h.elim
    · exact Or.inr h
  · rcases hs (n - k) E σ (by omega) hI.2 with ⟨E', σ', h1, h2⟩ | h
    · refine Or.inl ⟨E', σ', h1, k - 1, by omega, by omega, ?_⟩
      rw [show n - (k - 1) = n - k + 1 by omega]
      exact h2
    · exact Or.inr h
theorem wf_lp {c : cvC} {b u : cvS} {E : cvE} {σ : cvM} {vd : Bool} {rest : cvS} {Q : Int → cvM → Prop} (Q' : cvR → Prop) (h : WQ (xs_lp c b u E σ) Q') (k : ∀ r, Q' r → WF (f_fin vd (s_seq (some r) rest)) Q) : WF (f_fin vd (s_seq (xs_lp c b u E σ) rest)) Q := by
  obtain ⟨r, h1, h2⟩ := h
  rw [h1]
  exact k r h2
theorem wf_lp0 {c : cvC} {b u : cvS} {E : cvE} {σ : cvM} {vd : Bool} {Q : Int → cvM → Prop} (Q' : cvR → Prop) (h : WQ (xs_lp c b u E σ) Q') (k : ∀ r, Q' r → WF (f_fin vd (some r)) Q) : WF (f_fin vd (xs_lp c b u E σ)) Q := by
  obtain ⟨r, h1, h2⟩ := h
  rw [h1]
  exact k r h2
theorem ls_lp {c : cvC} {b u : cvS} {E : cvE} {σ : cvM} {rest v : cvS} {N : cvE → cvM → Prop} {Q : cvR → Prop} (Q' : cvR → Prop) (h : WQ (xs_lp c b u E σ) Q') (k : ∀ r, Q' r → RS (l_b (s_seq (some r) rest) v) N Q) : RS (l_b (s_seq (xs_lp c b u E σ) rest) v) N Q := by
  obtain ⟨r, h1, h2⟩ := h
  rw [h1]
  exact k r h2
theorem ls_lp0 {c : cvC} {b u : cvS} {E : cvE} {σ : cvM} {v : cvS} {N : cvE → cvM → Prop} {Q : cvR → Prop} (Q' : cvR → Prop) (h : WQ (xs_lp c b u E σ) Q') (k : ∀ r, Q' r → RS (l_b (some r) v) N Q) : RS (l_b (xs_lp c b u E σ) v) N Q := by
  obtain ⟨r, h1, h2⟩ := h
  rw [h1]
  exact k r h2
theorem WF.of {o : Option (Int × cvM)} {V : Int} {τ : cvM} (h : WF o fun v σ => v = V ∧ σ = τ) : o = some (V, τ) := by
  obtain ⟨v, σ, h1, rfl, rfl⟩ := h
  exact h1
theorem WF.mk {v : Int} {σ : cvM} {Q : Int → cvM → Prop} (h : Q v σ) : WF (some (v, σ)) Q := ⟨v, σ, rfl, h⟩
theorem WF.imp {o : Option (Int × cvM)} {Q Q' : Int → cvM → Prop} (h : WF o Q) (k : ∀ v σ, Q v σ → Q' v σ) : WF o Q' := by
  obtain ⟨v, σ, h1, h2⟩ := h
  exact ⟨v, σ, h1, k v σ h2⟩
theorem WQ.imp {o : Option cvR} {Q Q' : cvR → Prop} (h : WQ o Q) (k : ∀ r, Q r → Q' r) : WQ o Q' := by
  obtain ⟨r, h1, h2⟩ := h
  exact ⟨r, h1, k r h2⟩
theorem WF.ite {P : Prop} [Decidable P] {x y : Option (Int × cvM)} {Q : Int → cvM → Prop} (h1 : P → WF x Q) (h2 : ¬ P → WF y Q) : WF (if P then x else y) Q := by
  split
  · exact h1 (by assumption)
  · exact h2 (by assumption)
theorem RS.ite {P : Prop} [Decidable P] {x y : Option ((cvE × cvM) ⊕ cvR)} {N : cvE → cvM → Prop} {Q : cvR → Prop} (h1 : P → RS x N Q) (h2 : ¬ P → RS y N Q) : RS (if P then x else y) N Q := by
  split
  · exact h1 (by assumption)
  · exact h2 (by assumption)
theorem u_M (σ : cvM) (k i v k' i' : Int) : updM σ k i v k' i' = if k' = k ∧ i' = i then v else σ k' i' := Eq.trans rfl rfl
theorem cp_M (σ : cvM) (a b n k i : Int) : cpM σ a b n k i = if k = b ∧ 0 ≤ i ∧ i < n then σ a i else σ k i := Eq.trans rfl rfl
/-- the same, counting in ints -/
theorem lp_I {c : cvC} {b u : cvS} {E : cvE} {σ : cvM} (st : Int → cvE × cvM) (a n : Int) (r : cvR) (h : a ≤ n) (hE : st a = (E, σ)) (hs : ∀ i, a ≤ i → i < n → lpS c b u (st i) = some (.inl (st (i + 1)))) (he : lpS c b u (st n) = some (.inr r)) : xs_lp c b u E σ = some r := by
  refine lp_for (fun k => st (a + (k : Int))) (n - a).toNat r ?_ ?_ ?_
  · show st (a + ((0 : Nat) : Int)) = _
    rw [show a + ((0 : Nat) : Int) = a by omega]
    exact hE
  · intro i hi
    show lpS c b u (st (a + (i : Int))) = some (.inl (st (a + ((i + 1 : Nat) : Int))))
    rw [show a + ((i + 1 : Nat) : Int) = (a + (i : Int)) + 1 by omega]
    exact hs _ (by omega) (by omega)
  · show lpS c b u (st (a + ((n - a).toNat : Int))) = _
    rw [show a + ((n - a).toNat : Int) = n by omega]
    exact he
theorem wq_I {c : cvC} {b u : cvS} {E : cvE} {σ : cvM} {Q : cvR → Prop} (I : Int → cvE → cvM → Prop) (a n : Int) (ha : a ≤ n) (h : I a E σ) (hs : ∀ k E σ, a ≤ k → k < n → I k E σ → RS (lpS c b u (E, σ)) (fun E' σ' => I (k + 1) E' σ') Q) (he : ∀ E σ, I n E σ → RS (lpS c b u (E, σ)) (fun _ _ => False) Q) : WQ (xs_lp c b u E σ) Q := by
  refine wq_up (fun k E σ => I (a + (k : Int)) E σ) (n - a).toNat ?_ ?_ ?_
  · show I (a + ((0 : Nat) : Int)) E σ
    rw [show a + ((0 : Nat) : Int) = a by omega]
    exact h
  · intro k E σ hk hI
    have := hs (a + (k : Int)) E σ (by omega) (by omega) hI
    show RS _ (fun E' σ' => I (a + ((k + 1 : Nat) : Int)) E' σ') Q
    rw [show a + ((k + 1 : Nat) : Int) = a + (k : Int) + 1 by omega]
    exact this
  · intro E σ hI
    have hI : I (a + ((n - a).toNat : Int)) E σ := hI
    rw [show a + ((n - a).toNat : Int) = n by omega] at hI
    exact he E σ hI
