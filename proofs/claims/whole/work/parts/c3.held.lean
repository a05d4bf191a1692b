/-! ===== held ===== -/
theorem fstI_some {α : Type} {f : Int → Option α} {r : α} : ∀ (k : Nat) (c : Int), fstI f k c = some r → ∃ i, c ≤ i ∧ i < c + (k : Int) ∧ f i = some r := by
  intro k
  induction k with
  | zero => intro c e; cases e
  | succ k ih =>
    intro c e
    rw [fstI] at e
    cases q : f c with
    | some r' =>
      rw [q] at e
      have e : some r' = some r := e
      exact ⟨c, Int.le_refl c, by omega, by rw [q, e]⟩
    | none =>
      rw [q] at e
      obtain ⟨i, a, b, d⟩ := ih (c + 1) e
      exact ⟨i, by omega, by omega, d⟩
theorem fstI_no {α : Type} {f : Int → Option α} : ∀ (k : Nat) (c : Int), fstI f k c = none → ∀ i, c ≤ i → i < c + (k : Int) → f i = none := by
  intro k
  induction k with
  | zero => intro c _ i a b; omega
  | succ k ih =>
    intro c e i a b
    rw [fstI] at e
    cases q : f c with
    | some r' => rw [q] at e; cases e
    | none =>
      rw [q] at e
      by_cases z : i = c
      · rw [z]; exact q
      · exact ih (c + 1) e i (by omega) (by omega)
theorem fstI_add {α : Type} (f : Int → Option α) : ∀ (k j : Nat) (c : Int), fstI f (k + j) c = match fstI f k c with
  | some r => some r
  | none => fstI f j (c + (k : Int)) := by
  intro k
  induction k with
  | zero => intro j c; rw [Nat.zero_add, show c + ((0 : Nat) : Int) = c by omega]; rfl
  | succ k ih =>
    intro j c
    rw [show k + 1 + j = (k + j) + 1 by omega, fstI, fstI]
    cases q : f c with
    | some r => rfl
    | none =>
      show fstI f (k + j) (c + 1) = match fstI f k (c + 1) with
        | some r => some r
        | none => fstI f j (c + ((k + 1 : Nat) : Int))
      rw [ih j (c + 1), show c + 1 + (k : Int) = c + ((k + 1 : Nat) : Int) by omega]
theorem fstI_ext {α : Type} {f g : Int → Option α} : ∀ (k : Nat) (c : Int), (∀ i, c ≤ i → i < c + (k : Int) → f i = g i) → fstI f k c = fstI g k c := by
  intro k
  induction k with
  | zero => intro c _; rfl
  | succ k ih =>
    intro c h
    rw [fstI, fstI, h c (Int.le_refl c) (by omega), ih (c + 1) fun i a b => h i (by omega) (by omega)]
theorem ceF_len {cap L : Int} (hL : L ≤ 8) {fb : Nat → Int → Bool} : ∀ (m : Nat) (pre s : List Int), (∀ q ∈ pre, 0 ≤ q ∧ q < 8) → ceF cap L fb m pre = some s → s.length = pre.length + m ∧ ∀ q ∈ s, 0 ≤ q ∧ q < 8 := by
  intro m
  induction m with
  | zero => intro pre s hq e; injection e with e; rw [← e]; exact ⟨rfl, hq⟩
  | succ m ih =>
    intro pre s hq e
    rw [ceF] at e
    obtain ⟨i, a, b, q⟩ := fstI_some _ _ e
    split at q
    · rename_i z
      have := ih (pre ++ [i]) s (fun y hy => by
        rcases List.mem_append.mp hy with w | w
        · exact hq y w
        · rw [List.mem_singleton] at w
          omega) q
      rw [List.length_append, List.length_singleton] at this
      exact ⟨by omega, this.2⟩
    · cases q
theorem ceF_big {cap L L' : Int} {fb : Nat → Int → Bool} {n : Nat} (h : (n : Int) ≤ L) (h' : (n : Int) ≤ L') : ∀ (m : Nat) (pre : List Int), pre.length + m = n → 0 ≤ usT pre → usT pre ≤ (pre.length : Int) → ceF cap L fb m pre = ceF cap L' fb m pre := by
  intro m
  induction m with
  | zero => intro pre _ _ _; rfl
  | succ m ih =>
    intro pre hl h0 hu
    rw [ceF, ceF]
    refine fstI_ext _ _ fun i a b => ?_
    have la : (pre ++ [i]).length = pre.length + 1 := by rw [List.length_append, List.length_singleton]
    have ua := usT_app pre i
    have e := ih (pre ++ [i]) (by omega) (by omega) (by omega)
    by_cases ok : ceOk cap fb pre i = true
    · rw [if_pos ⟨by omega, ok⟩, if_pos ⟨by omega, ok⟩, e]
    · rw [if_neg fun y => ok y.2, if_neg fun y => ok y.2]
/-- CELLS: how many, and the part of each -/
def heG (σ : cvM) (c x L : Int) : Option (Int × List Int) := (ceF (σ 89 (5 * c + 2)) L (feB σ (sl (tb x) 12)) (sl (tb x) 12).length []).map fun s => (L, s)
def heA (σ : cvM) (c x : Int) : Option (Int × List Int) := fstI (heG σ c x) (σ 89 (5 * c + 1) + 1).toNat 0
theorem heG_L {σ : cvM} {c x L : Int} {r : Int × List Int} (e : heG σ c x L = some r) : r.1 = L ∧ ceF (σ 89 (5 * c + 2)) L (feB σ (sl (tb x) 12)) (sl (tb x) 12).length [] = some r.2 := by
  unfold heG at e
  cases q : ceF (σ 89 (5 * c + 2)) L (feB σ (sl (tb x) 12)) (sl (tb x) 12).length [] with
  | none => rw [q] at e; cases e
  | some s =>
    rw [q] at e
    have e : some (L, s) = some r := e
    injection e with e
    rw [← e]
    exact ⟨rfl, rfl⟩
theorem he_eq {σ : cvM} {c x : Int} (hr : 0 ≤ σ 89 (5 * c + 1)) : heA σ c x = (fstI (heG σ c x) ((sl (tb x) 12).length + 1) 0).bind fun r => if r.1 ≤ σ 89 (5 * c + 1) then some r else none := by
  unfold heA
  by_cases q : σ 89 (5 * c + 1) ≤ ((sl (tb x) 12).length : Int)
  · have a := fstI_add (heG σ c x) (σ 89 (5 * c + 1) + 1).toNat ((sl (tb x) 12).length + 1 - (σ 89 (5 * c + 1) + 1).toNat) 0
    rw [show (σ 89 (5 * c + 1) + 1).toNat + ((sl (tb x) 12).length + 1 - (σ 89 (5 * c + 1) + 1).toNat) = (sl (tb x) 12).length + 1 by omega] at a
    rw [a]
    cases e : fstI (heG σ c x) (σ 89 (5 * c + 1) + 1).toNat 0 with
    | some r =>
      obtain ⟨i, i0, i1, ei⟩ := fstI_some _ _ e
      have := (heG_L ei).1
      show some r = if r.1 ≤ σ 89 (5 * c + 1) then some r else none
      rw [if_pos (by omega)]
    | none =>
      show none = (fstI (heG σ c x) ((sl (tb x) 12).length + 1 - (σ 89 (5 * c + 1) + 1).toNat) (0 + ((σ 89 (5 * c + 1) + 1).toNat : Int))).bind fun r => if r.1 ≤ σ 89 (5 * c + 1) then some r else none
      cases e2 : fstI (heG σ c x) ((sl (tb x) 12).length + 1 - (σ 89 (5 * c + 1) + 1).toNat) (0 + ((σ 89 (5 * c + 1) + 1).toNat : Int)) with
      | none => rfl
      | some r =>
        obtain ⟨i, i0, i1, ei⟩ := fstI_some _ _ e2
        have := (heG_L ei).1
        show none = if r.1 ≤ σ 89 (5 * c + 1) then some r else none
        rw [if_neg (by omega)]
  · have a := fstI_add (heG σ c x) ((sl (tb x) 12).length + 1) ((σ 89 (5 * c + 1) + 1).toNat - ((sl (tb x) 12).length + 1)) 0
    rw [show (sl (tb x) 12).length + 1 + ((σ 89 (5 * c + 1) + 1).toNat - ((sl (tb x) 12).length + 1)) = (σ 89 (5 * c + 1) + 1).toNat by omega] at a
    rw [a]
    cases e : fstI (heG σ c x) ((sl (tb x) 12).length + 1) 0 with
    | some r =>
      obtain ⟨i, i0, i1, ei⟩ := fstI_some _ _ e
      have := (heG_L ei).1
      show some r = if r.1 ≤ σ 89 (5 * c + 1) then some r else none
      rw [if_pos (by omega)]
    | none =>
      show fstI (heG σ c x) ((σ 89 (5 * c + 1) + 1).toNat - ((sl (tb x) 12).length + 1)) (0 + (((sl (tb x) 12).length + 1 : Nat) : Int)) = none
      refine fstI_none _ _ fun i hi => ?_
      have no := fstI_no _ _ e ((sl (tb x) 12).length : Int) (by omega) (by omega)
      unfold heG at no ⊢
      rw [ceF_big (L := i) (L' := ((sl (tb x) 12).length : Int)) (n := (sl (tb x) 12).length) (by omega) (Int.le_refl _) _ [] (by simp) (by decide) (by decide)]
      cases q : ceF (σ 89 (5 * c + 2)) ((sl (tb x) 12).length : Int) (feB σ (sl (tb x) 12)) (sl (tb x) 12).length [] with
      | none => rfl
      | some s => rw [q] at no; cases no
def frS (σ τ : cvM) : Prop := ∀ k i : Int, ¬ (57 ≤ k ∧ k ≤ 61) → τ k i = σ k i
theorem frS.E {σ τ : cvM} (h : frS σ τ) : EqP σ τ := fun k i hk => h k i (by unfold pub at hk; omega)
theorem pN_tb {σ : cvM} (h : WR σ) {x : Int} (hx : 0 ≤ x ∧ x < pN σ) : (0 ≤ x ∧ x < 4096) ∧ ∀ p : Int, 0 ≤ p → tb x p = true → p < σ 88 2 := by
  have pn := pN_le h
  refine ⟨by omega, fun p p0 pt => ?_⟩
  by_cases z : p < σ 88 2
  · exact z
  · rw [tb_big (σ 88 2).toNat (show x < ((2 ^ (σ 88 2).toNat : Nat) : Int) from hx.2) (by omega)] at pt
    cases pt
theorem s1_split {σ : cvM} (h : WR σ) {c x : Int} (hc : (0 ≤ c ∧ c < σ 88 1) ∧ σ 89 (5 * c) = 1) (hx : 0 ≤ x ∧ x < pN σ) (hb : pcI x ≤ 8) : ∃ υ, f1_split [57, c, x] σ = some (match heA σ c x with
  | none => -4
  | some r => r.1, υ) ∧ frS σ υ ∧ ∀ r, heA σ c x = some r → clP r.2 υ ∧ bdI58 σ x υ := by
  have c3 := cnt_3 h
  obtain ⟨hx2, hp⟩ := pN_tb h hx
  have gp := h.rP c hc.1.1 hc.1.2
  have g6 := gp.2.2.2.2.2.2.2.2.2 hc.2
  obtain ⟨υ1, a1, a2, a3⟩ := (s0_gather58 h (τ := σ) (fun _ _ _ => rfl) hx2 hp).1 hb
  have w1 : WR υ1 := h.congr2 fun k i hk => a2 k i (by omega)
  have e2 := cell_3 w1 (p := c) (j := 2) (by rw [a2 88 1 (by decide)]; omega)
  rw [a2 89 _ (by omega)] at e2
  generalize h2 : updM υ1 57 3 (σ 89 (5 * c + 2)) = υ2
  have o2 : ∀ k i : Int, k ≠ 57 → υ2 k i = υ1 k i := fun k i hk => by rw [← h2, upd_ne _ hk]
  have w2 : WR υ2 := w1.congr2 fun k i hk => o2 k i (by omega)
  have e1 := cell_3 w2 (p := c) (j := 1) (by rw [o2 88 1 (by decide), a2 88 1 (by decide)]; omega)
  rw [o2 89 _ (by decide), a2 89 _ (by omega)] at e1
  have fr2 : frS σ υ2 := fun k i hk => by rw [o2 k i (by omega), a2 k i (by omega)]
  have b2 : bdI58 σ x υ2 := ⟨by rw [o2 58 _ (by decide)]; exact a3.1, fun j hj => by rw [o2 59 _ (by decide)]; exact a3.2.1 j hj, fun j hj => by rw [o2 60 _ (by decide)]; exact a3.2.2 j hj⟩
  have cap2 : υ2 57 3 = σ 89 (5 * c + 2) := by rw [← h2, upd_at]
  have mn : omin 8 (σ 89 (5 * c + 1)) = σ 89 (5 * c + 1) := by rw [n_min]; omega
  have pl := pcI_sl hx2
  suffices hs : WF (f1_split [57, c, x] σ) (fun w υ => (w = match heA σ c x with
      | none => -4
      | some r => r.1) ∧ frS σ υ ∧ ∀ r, heA σ c x = some r → clP r.2 υ ∧ bdI58 σ x υ) by
    obtain ⟨w, υ, e1, rfl, e2⟩ := hs
    exact ⟨υ, e1, e2⟩
  simp only [u1_split, b1_split, ev_op, ev_op2, ev_op1, ev_dv, ev_dv2, ev_dv1, ev_un, ev_un1, ev_lit, ev_l0, ev_l1, ev_l2, ev_l3, ev_l4, ev_l5, ev_l6, ev_l7, ev_l8, ev_l9, ev_l10, ev_l11, ev_rf, ev_gi, ev_gi1, ev_gi2, ev_gr, ev_gr1, ev_at0, ev_at, ev_al, ev_al2, ev_al1, ev_an, ev_an1, ev_vs0, ev_vs, ev_vs2, ev_vs1, ev_ca, ev_ca1, ev_cv, ev_cv1, ev_cv2, ev_if, ev_if1, ev_cmp, ev_cmp2, ev_cmp1, ev_not, ev_not1, ev_and, ev_and1, ev_or, ev_or1, ev_e, ev_e1, ev_cif, ev_cif1, ev_qlt, ev_qle, ev_qgt, ev_qge, ev_qeq, ev_qne, ev_skip, ev_brk, ev_cnt, ev_retv, ev_seq, ev_seq0, ev_seq1, ev_seq2, ev_seq3, ev_seqi, ev_sif, ev_sif1, ev_ret, ev_ret1, ev_retz, ev_retzb, ev_retzc, ev_retz1, ev_retc, ev_asg, ev_s0, ev_s1, ev_s2, ev_s3, ev_s4, ev_s5, ev_s6, ev_s7, ev_s8, ev_s9, ev_s10, ev_s11, ev_exp, ev_exp1, ev_pf, ev_pf2, ev_pf1, ev_pz, ev_pz2, ev_pz1, ev_of, ev_of2, ev_of1, ev_st, ev_as, ev_as3, ev_as2, ev_as1, ev_oa, ev_oa3, ev_oa2, ev_oa1, ev_oa0, ev_cp, ev_cp3, ev_cp2, ev_cp1, ev_sw, ev_sw1, ev_swb0, ev_swb1, ev_swb3, ev_swbi, ev_fin3, ev_fin0, ev_fini, ev_iv, ev_ic, ev_b1, ev_b2, ev_b3, ev_b4, ev_b5, ev_b6, ev_or12, ev_lp, ev_lc, ev_lb0, ev_lb1, ev_lb2, ev_lb3, ev_lbi, ev_lu, ev_ass, Int.reduceAdd, Int.reduceSub, Int.reduceMul, Int.reduceNeg, Int.reduceLT, Int.reduceLE, Int.reduceGT, Int.reduceGE, Int.reduceEq, Int.reduceNe, Int.reduceDiv, Int.reduceMod, Int.reduceToNat, Nat.reduceAdd, Nat.reduceMul, Nat.reduceSub, Nat.reduceLT, Nat.reduceEqDiff, Int.reduceNatCast', reduceIte, ite_true, ite_false, if_true, if_false, decide_eq_true_eq, decide_true, decide_false, decide_not, Bool.not_eq_true', decide_eq_false_iff_not, Bool.not_not, Bool.and_eq_true, Bool.or_eq_true, Bool.not_true, Bool.not_false, not_true_eq_false, not_false_eq_true, true_and, and_true, false_and, and_false, true_or, or_true, false_or, or_false, Bool.true_and, Bool.and_true, Bool.false_and, Bool.and_false, Bool.true_or, Bool.or_true, Bool.or_false, Bool.false_or, Bool.not_eq_false', Bool.true_eq_false, Bool.false_eq_true, eq_self, Classical.not_not, ite_not, ne_eq, Option.some.injEq, Prod.mk.injEq, L_1, L_3, L_57, L_58, a1, e2, h2, e1, mn]
  refine wf_lp (fun r => (∃ E υ s, r = (3, s.1, E, υ) ∧ heA σ c x = some s ∧ frS σ υ ∧ clP s.2 υ ∧ bdI58 σ x υ) ∨ ∃ E υ, r = (0, 0, E, υ) ∧ heA σ c x = none ∧ frS σ υ) (wq_I (fun L E υ => E = [some 57, some c, some x, some (σ 89 (5 * c + 1)), some L] ∧ heA σ c x = fstI (heG σ c x) (σ 89 (5 * c + 1) + 1 - L).toNat L ∧ frS σ υ ∧ bdI58 σ x υ ∧ υ 57 3 = σ 89 (5 * c + 2)) 0 (σ 89 (5 * c + 1) + 1) (by omega) ⟨rfl, by rw [Int.sub_zero]; rfl, fr2, b2, cap2⟩ ?_ ?_) ?_
  · rintro L E υ L0 L1 ⟨rfl, eh, fr, bd, cp⟩
    have q : L ≤ σ 89 (5 * c + 1) := by omega
    have l8 : 0 ≤ L ∧ L ≤ 8 := by omega
    have n8 : (sl (tb x) 12).length ≤ 8 := by omega
    have en : (σ 89 (5 * c + 1) + 1 - L).toNat = (σ 89 (5 * c + 1) + 1 - (L + 1)).toNat + 1 := by omega
    rw [en, fstI] at eh
    have sf := sJ_fill L_61 (v := 0) (show (0 : Int) ≤ 8 ∧ (8 : Int) < 100000 by decide) υ
    have n1 := n_add (show -2147483648 ≤ L + 1 ∧ L + 1 < 2147483648 by omega)
    generalize h3 : fM υ 61 (fun _ => 0) 8 = υ3 at sf
    have o3 : ∀ k i : Int, k ≠ 61 → υ3 k i = υ k i := fun k i hk => by rw [← h3, fM_ne _ _ _ hk]
    have cl3 : clP [] υ3 := fun c' c0 c8 => by rw [← h3, fM_at _ _ ⟨c0, c8⟩, ceM_0 c0]
    have b3 : bdI58 σ x υ3 := ⟨by rw [o3 58 _ (by decide)]; exact bd.1, fun j hj => by rw [o3 59 _ (by decide)]; exact bd.2.1 j hj, fun j hj => by rw [o3 60 _ (by decide)]; exact bd.2.2 j hj⟩
    obtain ⟨υ4, d1, d2, d3⟩ := s1_fits (σ := σ) (x := x) (n := (sl (tb x) 12).length) rfl n8 (cap := σ 89 (5 * c + 2)) l8 (sl (tb x) 12).length 9 (by omega) υ3 [] (by simp) (fun q hq => absurd hq List.not_mem_nil) b3 (by rw [o3 57 _ (by decide), cp]) cl3
    have fr4 : frS σ υ4 := fun k i hk => by rw [d2 k i (by omega), o3 k i (by omega), fr k i hk]
    have b4 : bdI58 σ x υ4 := ⟨by rw [d2 58 _ (by decide)]; exact b3.1, fun j hj => by rw [d2 59 _ (by decide)]; exact b3.2.1 j hj, fun j hj => by rw [d2 60 _ (by decide)]; exact b3.2.2 j hj⟩
    have d1 : f1_fits 10 [57, 0, 0, L] υ3 = _ := d1
    cases e : ceF (σ 89 (5 * c + 2)) L (feB σ (sl (tb x) 12)) (sl (tb x) 12).length [] with
    | some s =>
      rw [e] at d1 d3
      have d1 : f1_fits 10 [57, 0, 0, L] υ3 = some (1, υ4) := d1
      have eg : heG σ c x L = some (L, s) := by unfold heG; rw [e]; rfl
      rw [eg] at eh
      simp only [ev_op, ev_op2, ev_op1, ev_dv, ev_dv2, ev_dv1, ev_un, ev_un1, ev_lit, ev_l0, ev_l1, ev_l2, ev_l3, ev_l4, ev_l5, ev_l6, ev_l7, ev_l8, ev_l9, ev_l10, ev_l11, ev_rf, ev_gi, ev_gi1, ev_gi2, ev_gr, ev_gr1, ev_at0, ev_at, ev_al, ev_al2, ev_al1, ev_an, ev_an1, ev_vs0, ev_vs, ev_vs2, ev_vs1, ev_ca, ev_ca1, ev_cv, ev_cv1, ev_cv2, ev_if, ev_if1, ev_cmp, ev_cmp2, ev_cmp1, ev_not, ev_not1, ev_and, ev_and1, ev_or, ev_or1, ev_e, ev_e1, ev_cif, ev_cif1, ev_qlt, ev_qle, ev_qgt, ev_qge, ev_qeq, ev_qne, ev_skip, ev_brk, ev_cnt, ev_retv, ev_seq, ev_seq0, ev_seq1, ev_seq2, ev_seq3, ev_seqi, ev_sif, ev_sif1, ev_ret, ev_ret1, ev_retz, ev_retzb, ev_retzc, ev_retz1, ev_retc, ev_asg, ev_s0, ev_s1, ev_s2, ev_s3, ev_s4, ev_s5, ev_s6, ev_s7, ev_s8, ev_s9, ev_s10, ev_s11, ev_exp, ev_exp1, ev_pf, ev_pf2, ev_pf1, ev_pz, ev_pz2, ev_pz1, ev_of, ev_of2, ev_of1, ev_st, ev_as, ev_as3, ev_as2, ev_as1, ev_oa, ev_oa3, ev_oa2, ev_oa1, ev_oa0, ev_cp, ev_cp3, ev_cp2, ev_cp1, ev_sw, ev_sw1, ev_swb0, ev_swb1, ev_swb3, ev_swbi, ev_fin3, ev_fin0, ev_fini, ev_iv, ev_ic, ev_b1, ev_b2, ev_b3, ev_b4, ev_b5, ev_b6, ev_or12, ev_lp, ev_lc, ev_lb0, ev_lb1, ev_lb2, ev_lb3, ev_lbi, ev_lu, ev_ass, Int.reduceAdd, Int.reduceSub, Int.reduceMul, Int.reduceNeg, Int.reduceLT, Int.reduceLE, Int.reduceGT, Int.reduceGE, Int.reduceEq, Int.reduceNe, Int.reduceDiv, Int.reduceMod, Int.reduceToNat, Nat.reduceAdd, Nat.reduceMul, Nat.reduceSub, Nat.reduceLT, Nat.reduceEqDiff, Int.reduceNatCast', reduceIte, ite_true, ite_false, if_true, if_false, decide_eq_true_eq, decide_true, decide_false, decide_not, Bool.not_eq_true', decide_eq_false_iff_not, Bool.not_not, Bool.and_eq_true, Bool.or_eq_true, Bool.not_true, Bool.not_false, not_true_eq_false, not_false_eq_true, true_and, and_true, false_and, and_false, true_or, or_true, false_or, or_false, Bool.true_and, Bool.and_true, Bool.false_and, Bool.and_false, Bool.true_or, Bool.or_true, Bool.or_false, Bool.false_or, Bool.not_eq_false', Bool.true_eq_false, Bool.false_eq_true, eq_self, Classical.not_not, ite_not, ne_eq, Option.some.injEq, Prod.mk.injEq, L_57, L_61, q, sf, d1]
      exact RS.done (Or.inl ⟨_, υ4, (L, s), rfl, eh, fr4, d3, b4⟩)
    | none =>
      rw [e] at d1 d3
      have d1 : f1_fits 10 [57, 0, 0, L] υ3 = some (0, υ4) := d1
      have eg : heG σ c x L = none := by unfold heG; rw [e]; rfl
      rw [eg] at eh
      simp only [ev_op, ev_op2, ev_op1, ev_dv, ev_dv2, ev_dv1, ev_un, ev_un1, ev_lit, ev_l0, ev_l1, ev_l2, ev_l3, ev_l4, ev_l5, ev_l6, ev_l7, ev_l8, ev_l9, ev_l10, ev_l11, ev_rf, ev_gi, ev_gi1, ev_gi2, ev_gr, ev_gr1, ev_at0, ev_at, ev_al, ev_al2, ev_al1, ev_an, ev_an1, ev_vs0, ev_vs, ev_vs2, ev_vs1, ev_ca, ev_ca1, ev_cv, ev_cv1, ev_cv2, ev_if, ev_if1, ev_cmp, ev_cmp2, ev_cmp1, ev_not, ev_not1, ev_and, ev_and1, ev_or, ev_or1, ev_e, ev_e1, ev_cif, ev_cif1, ev_qlt, ev_qle, ev_qgt, ev_qge, ev_qeq, ev_qne, ev_skip, ev_brk, ev_cnt, ev_retv, ev_seq, ev_seq0, ev_seq1, ev_seq2, ev_seq3, ev_seqi, ev_sif, ev_sif1, ev_ret, ev_ret1, ev_retz, ev_retzb, ev_retzc, ev_retz1, ev_retc, ev_asg, ev_s0, ev_s1, ev_s2, ev_s3, ev_s4, ev_s5, ev_s6, ev_s7, ev_s8, ev_s9, ev_s10, ev_s11, ev_exp, ev_exp1, ev_pf, ev_pf2, ev_pf1, ev_pz, ev_pz2, ev_pz1, ev_of, ev_of2, ev_of1, ev_st, ev_as, ev_as3, ev_as2, ev_as1, ev_oa, ev_oa3, ev_oa2, ev_oa1, ev_oa0, ev_cp, ev_cp3, ev_cp2, ev_cp1, ev_sw, ev_sw1, ev_swb0, ev_swb1, ev_swb3, ev_swbi, ev_fin3, ev_fin0, ev_fini, ev_iv, ev_ic, ev_b1, ev_b2, ev_b3, ev_b4, ev_b5, ev_b6, ev_or12, ev_lp, ev_lc, ev_lb0, ev_lb1, ev_lb2, ev_lb3, ev_lbi, ev_lu, ev_ass, Int.reduceAdd, Int.reduceSub, Int.reduceMul, Int.reduceNeg, Int.reduceLT, Int.reduceLE, Int.reduceGT, Int.reduceGE, Int.reduceEq, Int.reduceNe, Int.reduceDiv, Int.reduceMod, Int.reduceToNat, Nat.reduceAdd, Nat.reduceMul, Nat.reduceSub, Nat.reduceLT, Nat.reduceEqDiff, Int.reduceNatCast', reduceIte, ite_true, ite_false, if_true, if_false, decide_eq_true_eq, decide_true, decide_false, decide_not, Bool.not_eq_true', decide_eq_false_iff_not, Bool.not_not, Bool.and_eq_true, Bool.or_eq_true, Bool.not_true, Bool.not_false, not_true_eq_false, not_false_eq_true, true_and, and_true, false_and, and_false, true_or, or_true, false_or, or_false, Bool.true_and, Bool.and_true, Bool.false_and, Bool.and_false, Bool.true_or, Bool.or_true, Bool.or_false, Bool.false_or, Bool.not_eq_false', Bool.true_eq_false, Bool.false_eq_true, eq_self, Classical.not_not, ite_not, ne_eq, Option.some.injEq, Prod.mk.injEq, L_57, L_61, q, sf, d1, n1]
      exact RS.go ⟨rfl, eh, fr4, b4, by rw [d2 57 _ (by decide), o3 57 _ (by decide), cp]⟩
  · rintro E υ ⟨rfl, eh, fr, bd, cp⟩
    have q : ¬ σ 89 (5 * c + 1) + 1 ≤ σ 89 (5 * c + 1) := by omega
    rw [show (σ 89 (5 * c + 1) + 1 - (σ 89 (5 * c + 1) + 1)).toNat = 0 by omega] at eh
    simp only [ev_op, ev_op2, ev_op1, ev_dv, ev_dv2, ev_dv1, ev_un, ev_un1, ev_lit, ev_l0, ev_l1, ev_l2, ev_l3, ev_l4, ev_l5, ev_l6, ev_l7, ev_l8, ev_l9, ev_l10, ev_l11, ev_rf, ev_gi, ev_gi1, ev_gi2, ev_gr, ev_gr1, ev_at0, ev_at, ev_al, ev_al2, ev_al1, ev_an, ev_an1, ev_vs0, ev_vs, ev_vs2, ev_vs1, ev_ca, ev_ca1, ev_cv, ev_cv1, ev_cv2, ev_if, ev_if1, ev_cmp, ev_cmp2, ev_cmp1, ev_not, ev_not1, ev_and, ev_and1, ev_or, ev_or1, ev_e, ev_e1, ev_cif, ev_cif1, ev_qlt, ev_qle, ev_qgt, ev_qge, ev_qeq, ev_qne, ev_skip, ev_brk, ev_cnt, ev_retv, ev_seq, ev_seq0, ev_seq1, ev_seq2, ev_seq3, ev_seqi, ev_sif, ev_sif1, ev_ret, ev_ret1, ev_retz, ev_retzb, ev_retzc, ev_retz1, ev_retc, ev_asg, ev_s0, ev_s1, ev_s2, ev_s3, ev_s4, ev_s5, ev_s6, ev_s7, ev_s8, ev_s9, ev_s10, ev_s11, ev_exp, ev_exp1, ev_pf, ev_pf2, ev_pf1, ev_pz, ev_pz2, ev_pz1, ev_of, ev_of2, ev_of1, ev_st, ev_as, ev_as3, ev_as2, ev_as1, ev_oa, ev_oa3, ev_oa2, ev_oa1, ev_oa0, ev_cp, ev_cp3, ev_cp2, ev_cp1, ev_sw, ev_sw1, ev_swb0, ev_swb1, ev_swb3, ev_swbi, ev_fin3, ev_fin0, ev_fini, ev_iv, ev_ic, ev_b1, ev_b2, ev_b3, ev_b4, ev_b5, ev_b6, ev_or12, ev_lp, ev_lc, ev_lb0, ev_lb1, ev_lb2, ev_lb3, ev_lbi, ev_lu, ev_ass, Int.reduceAdd, Int.reduceSub, Int.reduceMul, Int.reduceNeg, Int.reduceLT, Int.reduceLE, Int.reduceGT, Int.reduceGE, Int.reduceEq, Int.reduceNe, Int.reduceDiv, Int.reduceMod, Int.reduceToNat, Nat.reduceAdd, Nat.reduceMul, Nat.reduceSub, Nat.reduceLT, Nat.reduceEqDiff, Int.reduceNatCast', reduceIte, ite_true, ite_false, if_true, if_false, decide_eq_true_eq, decide_true, decide_false, decide_not, Bool.not_eq_true', decide_eq_false_iff_not, Bool.not_not, Bool.and_eq_true, Bool.or_eq_true, Bool.not_true, Bool.not_false, not_true_eq_false, not_false_eq_true, true_and, and_true, false_and, and_false, true_or, or_true, false_or, or_false, Bool.true_and, Bool.and_true, Bool.false_and, Bool.and_false, Bool.true_or, Bool.or_true, Bool.or_false, Bool.false_or, Bool.not_eq_false', Bool.true_eq_false, Bool.false_eq_true, eq_self, Classical.not_not, ite_not, ne_eq, Option.some.injEq, Prod.mk.injEq, q]
    exact RS.done (Or.inr ⟨_, υ, rfl, eh, fr⟩)
  · rintro r (⟨E, υ, s, rfl, e, fr, cl, bd⟩ | ⟨E, υ, rfl, e, fr⟩)
    · simp only [ev_op, ev_op2, ev_op1, ev_dv, ev_dv2, ev_dv1, ev_un, ev_un1, ev_lit, ev_l0, ev_l1, ev_l2, ev_l3, ev_l4, ev_l5, ev_l6, ev_l7, ev_l8, ev_l9, ev_l10, ev_l11, ev_rf, ev_gi, ev_gi1, ev_gi2, ev_gr, ev_gr1, ev_at0, ev_at, ev_al, ev_al2, ev_al1, ev_an, ev_an1, ev_vs0, ev_vs, ev_vs2, ev_vs1, ev_ca, ev_ca1, ev_cv, ev_cv1, ev_cv2, ev_if, ev_if1, ev_cmp, ev_cmp2, ev_cmp1, ev_not, ev_not1, ev_and, ev_and1, ev_or, ev_or1, ev_e, ev_e1, ev_cif, ev_cif1, ev_qlt, ev_qle, ev_qgt, ev_qge, ev_qeq, ev_qne, ev_skip, ev_brk, ev_cnt, ev_retv, ev_seq, ev_seq0, ev_seq1, ev_seq2, ev_seq3, ev_seqi, ev_sif, ev_sif1, ev_ret, ev_ret1, ev_retz, ev_retzb, ev_retzc, ev_retz1, ev_retc, ev_asg, ev_s0, ev_s1, ev_s2, ev_s3, ev_s4, ev_s5, ev_s6, ev_s7, ev_s8, ev_s9, ev_s10, ev_s11, ev_exp, ev_exp1, ev_pf, ev_pf2, ev_pf1, ev_pz, ev_pz2, ev_pz1, ev_of, ev_of2, ev_of1, ev_st, ev_as, ev_as3, ev_as2, ev_as1, ev_oa, ev_oa3, ev_oa2, ev_oa1, ev_oa0, ev_cp, ev_cp3, ev_cp2, ev_cp1, ev_sw, ev_sw1, ev_swb0, ev_swb1, ev_swb3, ev_swbi, ev_fin3, ev_fin0, ev_fini, ev_iv, ev_ic, ev_b1, ev_b2, ev_b3, ev_b4, ev_b5, ev_b6, ev_or12, ev_lp, ev_lc, ev_lb0, ev_lb1, ev_lb2, ev_lb3, ev_lbi, ev_lu, ev_ass]
      rw [e]
      refine WF.mk ⟨rfl, fr, fun r hr => ?_⟩
      injection hr with hr
      rw [← hr]
      exact ⟨cl, bd⟩
    · simp only [ev_op, ev_op2, ev_op1, ev_dv, ev_dv2, ev_dv1, ev_un, ev_un1, ev_lit, ev_l0, ev_l1, ev_l2, ev_l3, ev_l4, ev_l5, ev_l6, ev_l7, ev_l8, ev_l9, ev_l10, ev_l11, ev_rf, ev_gi, ev_gi1, ev_gi2, ev_gr, ev_gr1, ev_at0, ev_at, ev_al, ev_al2, ev_al1, ev_an, ev_an1, ev_vs0, ev_vs, ev_vs2, ev_vs1, ev_ca, ev_ca1, ev_cv, ev_cv1, ev_cv2, ev_if, ev_if1, ev_cmp, ev_cmp2, ev_cmp1, ev_not, ev_not1, ev_and, ev_and1, ev_or, ev_or1, ev_e, ev_e1, ev_cif, ev_cif1, ev_qlt, ev_qle, ev_qgt, ev_qge, ev_qeq, ev_qne, ev_skip, ev_brk, ev_cnt, ev_retv, ev_seq, ev_seq0, ev_seq1, ev_seq2, ev_seq3, ev_seqi, ev_sif, ev_sif1, ev_ret, ev_ret1, ev_retz, ev_retzb, ev_retzc, ev_retz1, ev_retc, ev_asg, ev_s0, ev_s1, ev_s2, ev_s3, ev_s4, ev_s5, ev_s6, ev_s7, ev_s8, ev_s9, ev_s10, ev_s11, ev_exp, ev_exp1, ev_pf, ev_pf2, ev_pf1, ev_pz, ev_pz2, ev_pz1, ev_of, ev_of2, ev_of1, ev_st, ev_as, ev_as3, ev_as2, ev_as1, ev_oa, ev_oa3, ev_oa2, ev_oa1, ev_oa0, ev_cp, ev_cp3, ev_cp2, ev_cp1, ev_sw, ev_sw1, ev_swb0, ev_swb1, ev_swb3, ev_swbi, ev_fin3, ev_fin0, ev_fini, ev_iv, ev_ic, ev_b1, ev_b2, ev_b3, ev_b4, ev_b5, ev_b6, ev_or12, ev_lp, ev_lc, ev_lb0, ev_lb1, ev_lb2, ev_lb3, ev_lbi, ev_lu, ev_ass]
      rw [e]
      exact WF.mk ⟨rfl, fr, fun r hr => by cases hr⟩
theorem ixL_in {l : List Int} {p : Int} (h : p ∈ l) : ∃ j : Nat, j < l.length ∧ ixL l p = (j : Int) ∧ l.getD j 0 = p ∧ ∀ i : Nat, i < j → l.getD i 0 ≠ p := by
  have key : ∀ (l : List Int), p ∈ l → ∃ j : Nat, j < l.length ∧ l.getD j 0 = p ∧ ∀ i : Nat, i < j → l.getD i 0 ≠ p := by
    intro l
    induction l with
    | nil => intro h; cases h
    | cons q l ih =>
      intro h
      by_cases z : q = p
      · exact ⟨0, by simp, z, fun i hi => absurd hi (Nat.not_lt_zero _)⟩
      · rcases List.mem_cons.mp h with e | e
        · exact absurd e.symm z
        · obtain ⟨j, a, b, d⟩ := ih e
          refine ⟨j + 1, by simpa using a, b, fun i hi => ?_⟩
          cases i with
          | zero => exact z
          | succ i => exact d i (by omega)
  obtain ⟨j, a, b, d⟩ := key l h
  exact ⟨j, a, ixL_at a b d, b, d⟩
theorem s1_partWith {σ τ : cvM} {x : Int} (h8 : (sl (tb x) 12).length ≤ 8) (hb : bdI58 σ x τ) {s : List Int} (sl' : s.length = (sl (tb x) 12).length) (sq : ∀ q ∈ s, 0 ≤ q ∧ q < 8) (hc : clP s τ) {p : Int} (hp : p ∈ sl (tb x) 12) : f1_partWith [57, p] τ = some (s.getD (ixL (sl (tb x) 12) p).toNat (-1), τ) := by
  have ix := s0_indexOf58 h8 hb p
  obtain ⟨j, j1, j2, _, _⟩ := ixL_in hp
  rw [j2] at ix ⊢
  rw [Int.toNat_natCast]
  have hj : j < s.length := by omega
  have ev : s.getD j (-1) = s[j] := by rw [List.getD_eq_getElem?_getD, List.getElem?_eq_getElem hj]; rfl
  have sb := sq _ (List.getElem_mem hj)
  rw [ev]
  have j0 : 0 ≤ (j : Int) := by omega
  simp only [u1_partWith, b1_partWith, ev_op, ev_op2, ev_op1, ev_dv, ev_dv2, ev_dv1, ev_un, ev_un1, ev_lit, ev_l0, ev_l1, ev_l2, ev_l3, ev_l4, ev_l5, ev_l6, ev_l7, ev_l8, ev_l9, ev_l10, ev_l11, ev_rf, ev_gi, ev_gi1, ev_gi2, ev_gr, ev_gr1, ev_at0, ev_at, ev_al, ev_al2, ev_al1, ev_an, ev_an1, ev_vs0, ev_vs, ev_vs2, ev_vs1, ev_ca, ev_ca1, ev_cv, ev_cv1, ev_cv2, ev_if, ev_if1, ev_cmp, ev_cmp2, ev_cmp1, ev_not, ev_not1, ev_and, ev_and1, ev_or, ev_or1, ev_e, ev_e1, ev_cif, ev_cif1, ev_qlt, ev_qle, ev_qgt, ev_qge, ev_qeq, ev_qne, ev_skip, ev_brk, ev_cnt, ev_retv, ev_seq, ev_seq0, ev_seq1, ev_seq2, ev_seq3, ev_seqi, ev_sif, ev_sif1, ev_ret, ev_ret1, ev_retz, ev_retzb, ev_retzc, ev_retz1, ev_retc, ev_asg, ev_s0, ev_s1, ev_s2, ev_s3, ev_s4, ev_s5, ev_s6, ev_s7, ev_s8, ev_s9, ev_s10, ev_s11, ev_exp, ev_exp1, ev_pf, ev_pf2, ev_pf1, ev_pz, ev_pz2, ev_pz1, ev_of, ev_of2, ev_of1, ev_st, ev_as, ev_as3, ev_as2, ev_as1, ev_oa, ev_oa3, ev_oa2, ev_oa1, ev_oa0, ev_cp, ev_cp3, ev_cp2, ev_cp1, ev_sw, ev_sw1, ev_swb0, ev_swb1, ev_swb3, ev_swbi, ev_fin3, ev_fin0, ev_fini, ev_iv, ev_ic, ev_b1, ev_b2, ev_b3, ev_b4, ev_b5, ev_b6, ev_or12, ev_lp, ev_lc, ev_lb0, ev_lb1, ev_lb2, ev_lb3, ev_lbi, ev_lu, ev_ass, Int.reduceAdd, Int.reduceSub, Int.reduceMul, Int.reduceNeg, Int.reduceLT, Int.reduceLE, Int.reduceGT, Int.reduceGE, Int.reduceEq, Int.reduceNe, Int.reduceDiv, Int.reduceMod, Int.reduceToNat, Nat.reduceAdd, Nat.reduceMul, Nat.reduceSub, Nat.reduceLT, Nat.reduceEqDiff, Int.reduceNatCast', reduceIte, ite_true, ite_false, if_true, if_false, decide_eq_true_eq, decide_true, decide_false, decide_not, Bool.not_eq_true', decide_eq_false_iff_not, Bool.not_not, Bool.and_eq_true, Bool.or_eq_true, Bool.not_true, Bool.not_false, not_true_eq_false, not_false_eq_true, true_and, and_true, false_and, and_false, true_or, or_true, false_or, or_false, Bool.true_and, Bool.and_true, Bool.false_and, Bool.and_false, Bool.true_or, Bool.or_true, Bool.or_false, Bool.false_or, Bool.not_eq_false', Bool.true_eq_false, Bool.false_eq_true, eq_self, Classical.not_not, ite_not, ne_eq, Option.some.injEq, Prod.mk.injEq, L_57, L_58, ix]
  refine WF.of (wf_lp (fun r => ∃ E, r = (3, s[j], E, τ)) (wq_I (fun c E υ => E = [some 57, some p, some (j : Int), some c] ∧ υ = τ) 0 s[j] sb.1 ⟨rfl, rfl⟩ ?_ ?_) ?_)
  · rintro c E υ c0 c1 ⟨rfl, e⟩
    rw [e]
    have c8 : c < 8 := by omega
    have rc : 0 ≤ c ∧ c < 8 := ⟨c0, c8⟩
    have n1 := n_add (show -2147483648 ≤ c + 1 ∧ c + 1 < 2147483648 by omega)
    have g := hc c c0 c8
    have ml := ceM_lt s c
    have b := s11_bit (x := ceM s c) (p := (j : Int)) ⟨⟨ml.1, Int.lt_trans ml.2 (by decide)⟩, j0, by omega⟩ τ
    have tf : tb (ceM s c) (j : Int) = false := by
      unfold ceM
      rw [tb_bI _ _ j0, Int.toNat_natCast, ev, decide_eq_false (show ¬ s[j] = c by omega), Bool.and_false]
    rw [tf, if_neg (by decide)] at b
    simp only [ev_op, ev_op2, ev_op1, ev_dv, ev_dv2, ev_dv1, ev_un, ev_un1, ev_lit, ev_l0, ev_l1, ev_l2, ev_l3, ev_l4, ev_l5, ev_l6, ev_l7, ev_l8, ev_l9, ev_l10, ev_l11, ev_rf, ev_gi, ev_gi1, ev_gi2, ev_gr, ev_gr1, ev_at0, ev_at, ev_al, ev_al2, ev_al1, ev_an, ev_an1, ev_vs0, ev_vs, ev_vs2, ev_vs1, ev_ca, ev_ca1, ev_cv, ev_cv1, ev_cv2, ev_if, ev_if1, ev_cmp, ev_cmp2, ev_cmp1, ev_not, ev_not1, ev_and, ev_and1, ev_or, ev_or1, ev_e, ev_e1, ev_cif, ev_cif1, ev_qlt, ev_qle, ev_qgt, ev_qge, ev_qeq, ev_qne, ev_skip, ev_brk, ev_cnt, ev_retv, ev_seq, ev_seq0, ev_seq1, ev_seq2, ev_seq3, ev_seqi, ev_sif, ev_sif1, ev_ret, ev_ret1, ev_retz, ev_retzb, ev_retzc, ev_retz1, ev_retc, ev_asg, ev_s0, ev_s1, ev_s2, ev_s3, ev_s4, ev_s5, ev_s6, ev_s7, ev_s8, ev_s9, ev_s10, ev_s11, ev_exp, ev_exp1, ev_pf, ev_pf2, ev_pf1, ev_pz, ev_pz2, ev_pz1, ev_of, ev_of2, ev_of1, ev_st, ev_as, ev_as3, ev_as2, ev_as1, ev_oa, ev_oa3, ev_oa2, ev_oa1, ev_oa0, ev_cp, ev_cp3, ev_cp2, ev_cp1, ev_sw, ev_sw1, ev_swb0, ev_swb1, ev_swb3, ev_swbi, ev_fin3, ev_fin0, ev_fini, ev_iv, ev_ic, ev_b1, ev_b2, ev_b3, ev_b4, ev_b5, ev_b6, ev_or12, ev_lp, ev_lc, ev_lb0, ev_lb1, ev_lb2, ev_lb3, ev_lbi, ev_lu, ev_ass, Int.reduceAdd, Int.reduceSub, Int.reduceMul, Int.reduceNeg, Int.reduceLT, Int.reduceLE, Int.reduceGT, Int.reduceGE, Int.reduceEq, Int.reduceNe, Int.reduceDiv, Int.reduceMod, Int.reduceToNat, Nat.reduceAdd, Nat.reduceMul, Nat.reduceSub, Nat.reduceLT, Nat.reduceEqDiff, Int.reduceNatCast', reduceIte, ite_true, ite_false, if_true, if_false, decide_eq_true_eq, decide_true, decide_false, decide_not, Bool.not_eq_true', decide_eq_false_iff_not, Bool.not_not, Bool.and_eq_true, Bool.or_eq_true, Bool.not_true, Bool.not_false, not_true_eq_false, not_false_eq_true, true_and, and_true, false_and, and_false, true_or, or_true, false_or, or_false, Bool.true_and, Bool.and_true, Bool.false_and, Bool.and_false, Bool.true_or, Bool.or_true, Bool.or_false, Bool.false_or, Bool.not_eq_false', Bool.true_eq_false, Bool.false_eq_true, eq_self, Classical.not_not, ite_not, ne_eq, Option.some.injEq, Prod.mk.injEq, L_57, L_61, c8, j0, rc, g, b, n1]
    exact RS.go ⟨rfl, rfl⟩
  · rintro E υ ⟨rfl, e⟩
    rw [e]
    have g := hc s[j] sb.1 sb.2
    have ml := ceM_lt s s[j]
    have b := s11_bit (x := ceM s s[j]) (p := (j : Int)) ⟨⟨ml.1, Int.lt_trans ml.2 (by decide)⟩, j0, by omega⟩ τ
    have tt : tb (ceM s s[j]) (j : Int) = true := by
      unfold ceM
      rw [tb_bI _ _ j0, Int.toNat_natCast, ev, decide_eq_true rfl, decide_eq_true (show (j : Int) < 8 by omega)]
      rfl
    rw [tt, if_pos rfl] at b
    have c8 : s[j] < 8 := sb.2
    have rc : 0 ≤ s[j] ∧ s[j] < 8 := sb
    simp only [ev_op, ev_op2, ev_op1, ev_dv, ev_dv2, ev_dv1, ev_un, ev_un1, ev_lit, ev_l0, ev_l1, ev_l2, ev_l3, ev_l4, ev_l5, ev_l6, ev_l7, ev_l8, ev_l9, ev_l10, ev_l11, ev_rf, ev_gi, ev_gi1, ev_gi2, ev_gr, ev_gr1, ev_at0, ev_at, ev_al, ev_al2, ev_al1, ev_an, ev_an1, ev_vs0, ev_vs, ev_vs2, ev_vs1, ev_ca, ev_ca1, ev_cv, ev_cv1, ev_cv2, ev_if, ev_if1, ev_cmp, ev_cmp2, ev_cmp1, ev_not, ev_not1, ev_and, ev_and1, ev_or, ev_or1, ev_e, ev_e1, ev_cif, ev_cif1, ev_qlt, ev_qle, ev_qgt, ev_qge, ev_qeq, ev_qne, ev_skip, ev_brk, ev_cnt, ev_retv, ev_seq, ev_seq0, ev_seq1, ev_seq2, ev_seq3, ev_seqi, ev_sif, ev_sif1, ev_ret, ev_ret1, ev_retz, ev_retzb, ev_retzc, ev_retz1, ev_retc, ev_asg, ev_s0, ev_s1, ev_s2, ev_s3, ev_s4, ev_s5, ev_s6, ev_s7, ev_s8, ev_s9, ev_s10, ev_s11, ev_exp, ev_exp1, ev_pf, ev_pf2, ev_pf1, ev_pz, ev_pz2, ev_pz1, ev_of, ev_of2, ev_of1, ev_st, ev_as, ev_as3, ev_as2, ev_as1, ev_oa, ev_oa3, ev_oa2, ev_oa1, ev_oa0, ev_cp, ev_cp3, ev_cp2, ev_cp1, ev_sw, ev_sw1, ev_swb0, ev_swb1, ev_swb3, ev_swbi, ev_fin3, ev_fin0, ev_fini, ev_iv, ev_ic, ev_b1, ev_b2, ev_b3, ev_b4, ev_b5, ev_b6, ev_or12, ev_lp, ev_lc, ev_lb0, ev_lb1, ev_lb2, ev_lb3, ev_lbi, ev_lu, ev_ass, Int.reduceAdd, Int.reduceSub, Int.reduceMul, Int.reduceNeg, Int.reduceLT, Int.reduceLE, Int.reduceGT, Int.reduceGE, Int.reduceEq, Int.reduceNe, Int.reduceDiv, Int.reduceMod, Int.reduceToNat, Nat.reduceAdd, Nat.reduceMul, Nat.reduceSub, Nat.reduceLT, Nat.reduceEqDiff, Int.reduceNatCast', reduceIte, ite_true, ite_false, if_true, if_false, decide_eq_true_eq, decide_true, decide_false, decide_not, Bool.not_eq_true', decide_eq_false_iff_not, Bool.not_not, Bool.and_eq_true, Bool.or_eq_true, Bool.not_true, Bool.not_false, not_true_eq_false, not_false_eq_true, true_and, and_true, false_and, and_false, true_or, or_true, false_or, or_false, Bool.true_and, Bool.and_true, Bool.false_and, Bool.and_false, Bool.true_or, Bool.or_true, Bool.or_false, Bool.false_or, Bool.not_eq_false', Bool.true_eq_false, Bool.false_eq_true, eq_self, Classical.not_not, ite_not, ne_eq, Option.some.injEq, Prod.mk.injEq, L_57, L_61, c8, j0, rc, g, b]
    exact RS.done ⟨_, rfl⟩
  · rintro r ⟨E, rfl⟩
    simp only [ev_op, ev_op2, ev_op1, ev_dv, ev_dv2, ev_dv1, ev_un, ev_un1, ev_lit, ev_l0, ev_l1, ev_l2, ev_l3, ev_l4, ev_l5, ev_l6, ev_l7, ev_l8, ev_l9, ev_l10, ev_l11, ev_rf, ev_gi, ev_gi1, ev_gi2, ev_gr, ev_gr1, ev_at0, ev_at, ev_al, ev_al2, ev_al1, ev_an, ev_an1, ev_vs0, ev_vs, ev_vs2, ev_vs1, ev_ca, ev_ca1, ev_cv, ev_cv1, ev_cv2, ev_if, ev_if1, ev_cmp, ev_cmp2, ev_cmp1, ev_not, ev_not1, ev_and, ev_and1, ev_or, ev_or1, ev_e, ev_e1, ev_cif, ev_cif1, ev_qlt, ev_qle, ev_qgt, ev_qge, ev_qeq, ev_qne, ev_skip, ev_brk, ev_cnt, ev_retv, ev_seq, ev_seq0, ev_seq1, ev_seq2, ev_seq3, ev_seqi, ev_sif, ev_sif1, ev_ret, ev_ret1, ev_retz, ev_retzb, ev_retzc, ev_retz1, ev_retc, ev_asg, ev_s0, ev_s1, ev_s2, ev_s3, ev_s4, ev_s5, ev_s6, ev_s7, ev_s8, ev_s9, ev_s10, ev_s11, ev_exp, ev_exp1, ev_pf, ev_pf2, ev_pf1, ev_pz, ev_pz2, ev_pz1, ev_of, ev_of2, ev_of1, ev_st, ev_as, ev_as3, ev_as2, ev_as1, ev_oa, ev_oa3, ev_oa2, ev_oa1, ev_oa0, ev_cp, ev_cp3, ev_cp2, ev_cp1, ev_sw, ev_sw1, ev_swb0, ev_swb1, ev_swb3, ev_swbi, ev_fin3, ev_fin0, ev_fini, ev_iv, ev_ic, ev_b1, ev_b2, ev_b3, ev_b4, ev_b5, ev_b6, ev_or12, ev_lp, ev_lc, ev_lb0, ev_lb1, ev_lb2, ev_lb3, ev_lbi, ev_lu, ev_ass]
    exact WF.mk ⟨rfl, rfl⟩
/-- what is answered -/
noncomputable def vH (c x w : Int) (σ : cvM) : Int := if (((0 ≤ c ∧ c < σ 88 1) ∧ σ 89 (5 * c) = 1) ∧ 0 ≤ x ∧ x < pN σ) ∧ -1 ≤ w ∧ w < σ 88 2 then (if 8 < pcI x then -2 else match heA σ c x with
  | none => -4
  | some r => if w = -1 then r.1 else if tb x w = true then r.2.getD (ixL (sl (tb x) 12) w).toNat (-1) else -3) else -1
theorem heA_s {σ : cvM} {c x : Int} (h6 : σ 89 (5 * c + 1) ≤ 6) {r : Int × List Int} (e : heA σ c x = some r) : (r.2.length = (sl (tb x) 12).length ∧ ∀ q ∈ r.2, 0 ≤ q ∧ q < 8) ∧ 0 ≤ r.1 ∧ r.1 ≤ 8 := by
  obtain ⟨i, i0, i1, ei⟩ := fstI_some _ _ e
  obtain ⟨e1, e2⟩ := heG_L ei
  have := ceF_len (L := i) (by omega) _ [] _ (fun q hq => absurd hq List.not_mem_nil) e2
  refine ⟨⟨?_, this.2⟩, by omega, by omega⟩
  rw [this.1]
  simp
theorem fr_held (c x w : Int) {σ : cvM} (hI : Inv σ) : FR f11_held (0 :: [c, x, w]) σ (vH c x w σ) := by
  have h := hI.W
  have c4 := cnt_4 h
  have e1 := s11_isCourt h c
  have e2 := s11_arePersons h x
  have e3 := s11_isPerson h w
  unfold vH
  by_cases q1 : (0 ≤ c ∧ c < σ 88 1) ∧ σ 89 (5 * c) = 1
  · rw [if_pos q1] at e1
    by_cases q2 : 0 ≤ x ∧ x < pN σ
    · rw [if_pos q2] at e2
      obtain ⟨hx, hp⟩ := pN_tb h q2
      have bc := sJ_bitCount hx σ
      have gp := h.rP c q1.1.1 q1.1.2
      have g6 := gp.2.2.2.2.2.2.2.2.2 q1.2
      by_cases q3 : -1 ≤ w ∧ w < σ 88 2
      · rw [if_pos ⟨⟨q1, q2⟩, q3⟩]
        by_cases q4 : 8 < pcI x
        · rw [if_pos q4]
          refine ⟨σ, ?_, EqP.rf σ⟩
          by_cases q5 : w = -1
          · simp only [u11_held, b11_held, ev_op, ev_op2, ev_op1, ev_dv, ev_dv2, ev_dv1, ev_un, ev_un1, ev_lit, ev_l0, ev_l1, ev_l2, ev_l3, ev_l4, ev_l5, ev_l6, ev_l7, ev_l8, ev_l9, ev_l10, ev_l11, ev_rf, ev_gi, ev_gi1, ev_gi2, ev_gr, ev_gr1, ev_at0, ev_at, ev_al, ev_al2, ev_al1, ev_an, ev_an1, ev_vs0, ev_vs, ev_vs2, ev_vs1, ev_ca, ev_ca1, ev_cv, ev_cv1, ev_cv2, ev_if, ev_if1, ev_cmp, ev_cmp2, ev_cmp1, ev_not, ev_not1, ev_and, ev_and1, ev_or, ev_or1, ev_e, ev_e1, ev_cif, ev_cif1, ev_qlt, ev_qle, ev_qgt, ev_qge, ev_qeq, ev_qne, ev_skip, ev_brk, ev_cnt, ev_retv, ev_seq, ev_seq0, ev_seq1, ev_seq2, ev_seq3, ev_seqi, ev_sif, ev_sif1, ev_ret, ev_ret1, ev_retz, ev_retzb, ev_retzc, ev_retz1, ev_retc, ev_asg, ev_s0, ev_s1, ev_s2, ev_s3, ev_s4, ev_s5, ev_s6, ev_s7, ev_s8, ev_s9, ev_s10, ev_s11, ev_exp, ev_exp1, ev_pf, ev_pf2, ev_pf1, ev_pz, ev_pz2, ev_pz1, ev_of, ev_of2, ev_of1, ev_st, ev_as, ev_as3, ev_as2, ev_as1, ev_oa, ev_oa3, ev_oa2, ev_oa1, ev_oa0, ev_cp, ev_cp3, ev_cp2, ev_cp1, ev_sw, ev_sw1, ev_swb0, ev_swb1, ev_swb3, ev_swbi, ev_fin3, ev_fin0, ev_fini, ev_iv, ev_ic, ev_b1, ev_b2, ev_b3, ev_b4, ev_b5, ev_b6, ev_or12, ev_lp, ev_lc, ev_lb0, ev_lb1, ev_lb2, ev_lb3, ev_lbi, ev_lu, ev_ass, Int.reduceAdd, Int.reduceSub, Int.reduceMul, Int.reduceNeg, Int.reduceLT, Int.reduceLE, Int.reduceGT, Int.reduceGE, Int.reduceEq, Int.reduceNe, Int.reduceDiv, Int.reduceMod, Int.reduceToNat, Nat.reduceAdd, Nat.reduceMul, Nat.reduceSub, Nat.reduceLT, Nat.reduceEqDiff, Int.reduceNatCast', reduceIte, ite_true, ite_false, if_true, if_false, decide_eq_true_eq, decide_true, decide_false, decide_not, Bool.not_eq_true', decide_eq_false_iff_not, Bool.not_not, Bool.and_eq_true, Bool.or_eq_true, Bool.not_true, Bool.not_false, not_true_eq_false, not_false_eq_true, true_and, and_true, false_and, and_false, true_or, or_true, false_or, or_false, Bool.true_and, Bool.and_true, Bool.false_and, Bool.and_false, Bool.true_or, Bool.or_true, Bool.or_false, Bool.false_or, Bool.not_eq_false', Bool.true_eq_false, Bool.false_eq_true, eq_self, Classical.not_not, ite_not, ne_eq, Option.some.injEq, Prod.mk.injEq, L_0, e1, e2, q5, bc, q4]
          · rw [if_pos (by omega)] at e3
            simp only [u11_held, b11_held, ev_op, ev_op2, ev_op1, ev_dv, ev_dv2, ev_dv1, ev_un, ev_un1, ev_lit, ev_l0, ev_l1, ev_l2, ev_l3, ev_l4, ev_l5, ev_l6, ev_l7, ev_l8, ev_l9, ev_l10, ev_l11, ev_rf, ev_gi, ev_gi1, ev_gi2, ev_gr, ev_gr1, ev_at0, ev_at, ev_al, ev_al2, ev_al1, ev_an, ev_an1, ev_vs0, ev_vs, ev_vs2, ev_vs1, ev_ca, ev_ca1, ev_cv, ev_cv1, ev_cv2, ev_if, ev_if1, ev_cmp, ev_cmp2, ev_cmp1, ev_not, ev_not1, ev_and, ev_and1, ev_or, ev_or1, ev_e, ev_e1, ev_cif, ev_cif1, ev_qlt, ev_qle, ev_qgt, ev_qge, ev_qeq, ev_qne, ev_skip, ev_brk, ev_cnt, ev_retv, ev_seq, ev_seq0, ev_seq1, ev_seq2, ev_seq3, ev_seqi, ev_sif, ev_sif1, ev_ret, ev_ret1, ev_retz, ev_retzb, ev_retzc, ev_retz1, ev_retc, ev_asg, ev_s0, ev_s1, ev_s2, ev_s3, ev_s4, ev_s5, ev_s6, ev_s7, ev_s8, ev_s9, ev_s10, ev_s11, ev_exp, ev_exp1, ev_pf, ev_pf2, ev_pf1, ev_pz, ev_pz2, ev_pz1, ev_of, ev_of2, ev_of1, ev_st, ev_as, ev_as3, ev_as2, ev_as1, ev_oa, ev_oa3, ev_oa2, ev_oa1, ev_oa0, ev_cp, ev_cp3, ev_cp2, ev_cp1, ev_sw, ev_sw1, ev_swb0, ev_swb1, ev_swb3, ev_swbi, ev_fin3, ev_fin0, ev_fini, ev_iv, ev_ic, ev_b1, ev_b2, ev_b3, ev_b4, ev_b5, ev_b6, ev_or12, ev_lp, ev_lc, ev_lb0, ev_lb1, ev_lb2, ev_lb3, ev_lbi, ev_lu, ev_ass, Int.reduceAdd, Int.reduceSub, Int.reduceMul, Int.reduceNeg, Int.reduceLT, Int.reduceLE, Int.reduceGT, Int.reduceGE, Int.reduceEq, Int.reduceNe, Int.reduceDiv, Int.reduceMod, Int.reduceToNat, Nat.reduceAdd, Nat.reduceMul, Nat.reduceSub, Nat.reduceLT, Nat.reduceEqDiff, Int.reduceNatCast', reduceIte, ite_true, ite_false, if_true, if_false, decide_eq_true_eq, decide_true, decide_false, decide_not, Bool.not_eq_true', decide_eq_false_iff_not, Bool.not_not, Bool.and_eq_true, Bool.or_eq_true, Bool.not_true, Bool.not_false, not_true_eq_false, not_false_eq_true, true_and, and_true, false_and, and_false, true_or, or_true, false_or, or_false, Bool.true_and, Bool.and_true, Bool.false_and, Bool.and_false, Bool.true_or, Bool.or_true, Bool.or_false, Bool.false_or, Bool.not_eq_false', Bool.true_eq_false, Bool.false_eq_true, eq_self, Classical.not_not, ite_not, ne_eq, Option.some.injEq, Prod.mk.injEq, L_0, e1, e2, q5, e3, bc, q4]
        · rw [if_neg q4]
          obtain ⟨υ, s1, s2, s3⟩ := s1_split h q1 q2 (by omega)
          have n8 : (sl (tb x) 12).length ≤ 8 := by
            have := pcI_sl hx
            omega
          refine ⟨υ, ?_, s2.E⟩
          cases e : heA σ c x with
          | none =>
            rw [e] at s1
            have s1 : f1_split [57, c, x] σ = some (-4, υ) := s1
            by_cases q5 : w = -1
            · simp only [u11_held, b11_held, ev_op, ev_op2, ev_op1, ev_dv, ev_dv2, ev_dv1, ev_un, ev_un1, ev_lit, ev_l0, ev_l1, ev_l2, ev_l3, ev_l4, ev_l5, ev_l6, ev_l7, ev_l8, ev_l9, ev_l10, ev_l11, ev_rf, ev_gi, ev_gi1, ev_gi2, ev_gr, ev_gr1, ev_at0, ev_at, ev_al, ev_al2, ev_al1, ev_an, ev_an1, ev_vs0, ev_vs, ev_vs2, ev_vs1, ev_ca, ev_ca1, ev_cv, ev_cv1, ev_cv2, ev_if, ev_if1, ev_cmp, ev_cmp2, ev_cmp1, ev_not, ev_not1, ev_and, ev_and1, ev_or, ev_or1, ev_e, ev_e1, ev_cif, ev_cif1, ev_qlt, ev_qle, ev_qgt, ev_qge, ev_qeq, ev_qne, ev_skip, ev_brk, ev_cnt, ev_retv, ev_seq, ev_seq0, ev_seq1, ev_seq2, ev_seq3, ev_seqi, ev_sif, ev_sif1, ev_ret, ev_ret1, ev_retz, ev_retzb, ev_retzc, ev_retz1, ev_retc, ev_asg, ev_s0, ev_s1, ev_s2, ev_s3, ev_s4, ev_s5, ev_s6, ev_s7, ev_s8, ev_s9, ev_s10, ev_s11, ev_exp, ev_exp1, ev_pf, ev_pf2, ev_pf1, ev_pz, ev_pz2, ev_pz1, ev_of, ev_of2, ev_of1, ev_st, ev_as, ev_as3, ev_as2, ev_as1, ev_oa, ev_oa3, ev_oa2, ev_oa1, ev_oa0, ev_cp, ev_cp3, ev_cp2, ev_cp1, ev_sw, ev_sw1, ev_swb0, ev_swb1, ev_swb3, ev_swbi, ev_fin3, ev_fin0, ev_fini, ev_iv, ev_ic, ev_b1, ev_b2, ev_b3, ev_b4, ev_b5, ev_b6, ev_or12, ev_lp, ev_lc, ev_lb0, ev_lb1, ev_lb2, ev_lb3, ev_lbi, ev_lu, ev_ass, Int.reduceAdd, Int.reduceSub, Int.reduceMul, Int.reduceNeg, Int.reduceLT, Int.reduceLE, Int.reduceGT, Int.reduceGE, Int.reduceEq, Int.reduceNe, Int.reduceDiv, Int.reduceMod, Int.reduceToNat, Nat.reduceAdd, Nat.reduceMul, Nat.reduceSub, Nat.reduceLT, Nat.reduceEqDiff, Int.reduceNatCast', reduceIte, ite_true, ite_false, if_true, if_false, decide_eq_true_eq, decide_true, decide_false, decide_not, Bool.not_eq_true', decide_eq_false_iff_not, Bool.not_not, Bool.and_eq_true, Bool.or_eq_true, Bool.not_true, Bool.not_false, not_true_eq_false, not_false_eq_true, true_and, and_true, false_and, and_false, true_or, or_true, false_or, or_false, Bool.true_and, Bool.and_true, Bool.false_and, Bool.and_false, Bool.true_or, Bool.or_true, Bool.or_false, Bool.false_or, Bool.not_eq_false', Bool.true_eq_false, Bool.false_eq_true, eq_self, Classical.not_not, ite_not, ne_eq, Option.some.injEq, Prod.mk.injEq, L_0, L_57, e1, e2, q5, bc, q4, s1]
            · rw [if_pos (by omega)] at e3
              simp only [u11_held, b11_held, ev_op, ev_op2, ev_op1, ev_dv, ev_dv2, ev_dv1, ev_un, ev_un1, ev_lit, ev_l0, ev_l1, ev_l2, ev_l3, ev_l4, ev_l5, ev_l6, ev_l7, ev_l8, ev_l9, ev_l10, ev_l11, ev_rf, ev_gi, ev_gi1, ev_gi2, ev_gr, ev_gr1, ev_at0, ev_at, ev_al, ev_al2, ev_al1, ev_an, ev_an1, ev_vs0, ev_vs, ev_vs2, ev_vs1, ev_ca, ev_ca1, ev_cv, ev_cv1, ev_cv2, ev_if, ev_if1, ev_cmp, ev_cmp2, ev_cmp1, ev_not, ev_not1, ev_and, ev_and1, ev_or, ev_or1, ev_e, ev_e1, ev_cif, ev_cif1, ev_qlt, ev_qle, ev_qgt, ev_qge, ev_qeq, ev_qne, ev_skip, ev_brk, ev_cnt, ev_retv, ev_seq, ev_seq0, ev_seq1, ev_seq2, ev_seq3, ev_seqi, ev_sif, ev_sif1, ev_ret, ev_ret1, ev_retz, ev_retzb, ev_retzc, ev_retz1, ev_retc, ev_asg, ev_s0, ev_s1, ev_s2, ev_s3, ev_s4, ev_s5, ev_s6, ev_s7, ev_s8, ev_s9, ev_s10, ev_s11, ev_exp, ev_exp1, ev_pf, ev_pf2, ev_pf1, ev_pz, ev_pz2, ev_pz1, ev_of, ev_of2, ev_of1, ev_st, ev_as, ev_as3, ev_as2, ev_as1, ev_oa, ev_oa3, ev_oa2, ev_oa1, ev_oa0, ev_cp, ev_cp3, ev_cp2, ev_cp1, ev_sw, ev_sw1, ev_swb0, ev_swb1, ev_swb3, ev_swbi, ev_fin3, ev_fin0, ev_fini, ev_iv, ev_ic, ev_b1, ev_b2, ev_b3, ev_b4, ev_b5, ev_b6, ev_or12, ev_lp, ev_lc, ev_lb0, ev_lb1, ev_lb2, ev_lb3, ev_lbi, ev_lu, ev_ass, Int.reduceAdd, Int.reduceSub, Int.reduceMul, Int.reduceNeg, Int.reduceLT, Int.reduceLE, Int.reduceGT, Int.reduceGE, Int.reduceEq, Int.reduceNe, Int.reduceDiv, Int.reduceMod, Int.reduceToNat, Nat.reduceAdd, Nat.reduceMul, Nat.reduceSub, Nat.reduceLT, Nat.reduceEqDiff, Int.reduceNatCast', reduceIte, ite_true, ite_false, if_true, if_false, decide_eq_true_eq, decide_true, decide_false, decide_not, Bool.not_eq_true', decide_eq_false_iff_not, Bool.not_not, Bool.and_eq_true, Bool.or_eq_true, Bool.not_true, Bool.not_false, not_true_eq_false, not_false_eq_true, true_and, and_true, false_and, and_false, true_or, or_true, false_or, or_false, Bool.true_and, Bool.and_true, Bool.false_and, Bool.and_false, Bool.true_or, Bool.or_true, Bool.or_false, Bool.false_or, Bool.not_eq_false', Bool.true_eq_false, Bool.false_eq_true, eq_self, Classical.not_not, ite_not, ne_eq, Option.some.injEq, Prod.mk.injEq, L_0, L_57, e1, e2, q5, e3, bc, q4, s1]
          | some r =>
            obtain ⟨⟨r1, r2⟩, r3, r4⟩ := heA_s g6 e
            obtain ⟨cl, bd⟩ := s3 r e
            rw [e] at s1
            have s1 : f1_split [57, c, x] σ = some (r.1, υ) := s1
            have r0 : ¬ r.1 < 0 := by omega
            by_cases q5 : w = -1
            · show _ = some (if w = -1 then r.1 else _, υ)
              rw [if_pos q5]
              simp only [u11_held, b11_held, ev_op, ev_op2, ev_op1, ev_dv, ev_dv2, ev_dv1, ev_un, ev_un1, ev_lit, ev_l0, ev_l1, ev_l2, ev_l3, ev_l4, ev_l5, ev_l6, ev_l7, ev_l8, ev_l9, ev_l10, ev_l11, ev_rf, ev_gi, ev_gi1, ev_gi2, ev_gr, ev_gr1, ev_at0, ev_at, ev_al, ev_al2, ev_al1, ev_an, ev_an1, ev_vs0, ev_vs, ev_vs2, ev_vs1, ev_ca, ev_ca1, ev_cv, ev_cv1, ev_cv2, ev_if, ev_if1, ev_cmp, ev_cmp2, ev_cmp1, ev_not, ev_not1, ev_and, ev_and1, ev_or, ev_or1, ev_e, ev_e1, ev_cif, ev_cif1, ev_qlt, ev_qle, ev_qgt, ev_qge, ev_qeq, ev_qne, ev_skip, ev_brk, ev_cnt, ev_retv, ev_seq, ev_seq0, ev_seq1, ev_seq2, ev_seq3, ev_seqi, ev_sif, ev_sif1, ev_ret, ev_ret1, ev_retz, ev_retzb, ev_retzc, ev_retz1, ev_retc, ev_asg, ev_s0, ev_s1, ev_s2, ev_s3, ev_s4, ev_s5, ev_s6, ev_s7, ev_s8, ev_s9, ev_s10, ev_s11, ev_exp, ev_exp1, ev_pf, ev_pf2, ev_pf1, ev_pz, ev_pz2, ev_pz1, ev_of, ev_of2, ev_of1, ev_st, ev_as, ev_as3, ev_as2, ev_as1, ev_oa, ev_oa3, ev_oa2, ev_oa1, ev_oa0, ev_cp, ev_cp3, ev_cp2, ev_cp1, ev_sw, ev_sw1, ev_swb0, ev_swb1, ev_swb3, ev_swbi, ev_fin3, ev_fin0, ev_fini, ev_iv, ev_ic, ev_b1, ev_b2, ev_b3, ev_b4, ev_b5, ev_b6, ev_or12, ev_lp, ev_lc, ev_lb0, ev_lb1, ev_lb2, ev_lb3, ev_lbi, ev_lu, ev_ass, Int.reduceAdd, Int.reduceSub, Int.reduceMul, Int.reduceNeg, Int.reduceLT, Int.reduceLE, Int.reduceGT, Int.reduceGE, Int.reduceEq, Int.reduceNe, Int.reduceDiv, Int.reduceMod, Int.reduceToNat, Nat.reduceAdd, Nat.reduceMul, Nat.reduceSub, Nat.reduceLT, Nat.reduceEqDiff, Int.reduceNatCast', reduceIte, ite_true, ite_false, if_true, if_false, decide_eq_true_eq, decide_true, decide_false, decide_not, Bool.not_eq_true', decide_eq_false_iff_not, Bool.not_not, Bool.and_eq_true, Bool.or_eq_true, Bool.not_true, Bool.not_false, not_true_eq_false, not_false_eq_true, true_and, and_true, false_and, and_false, true_or, or_true, false_or, or_false, Bool.true_and, Bool.and_true, Bool.false_and, Bool.and_false, Bool.true_or, Bool.or_true, Bool.or_false, Bool.false_or, Bool.not_eq_false', Bool.true_eq_false, Bool.false_eq_true, eq_self, Classical.not_not, ite_not, ne_eq, Option.some.injEq, Prod.mk.injEq, L_0, L_57, e1, e2, eq_true q5, bc, q4, s1]
            · rw [if_pos (by omega)] at e3
              show _ = some (if w = -1 then r.1 else if tb x w = true then r.2.getD (ixL (sl (tb x) 12) w).toNat (-1) else -3, υ)
              rw [if_neg q5]
              have b := s11_bit (x := x) (p := w) (by omega) υ
              by_cases q6 : tb x w = true
              · rw [if_pos q6] at b ⊢
                have pw := s1_partWith n8 bd r1 r2 cl (p := w) (sl_mem.mpr ⟨by omega, by omega, q6⟩)
                simp only [u11_held, b11_held, ev_op, ev_op2, ev_op1, ev_dv, ev_dv2, ev_dv1, ev_un, ev_un1, ev_lit, ev_l0, ev_l1, ev_l2, ev_l3, ev_l4, ev_l5, ev_l6, ev_l7, ev_l8, ev_l9, ev_l10, ev_l11, ev_rf, ev_gi, ev_gi1, ev_gi2, ev_gr, ev_gr1, ev_at0, ev_at, ev_al, ev_al2, ev_al1, ev_an, ev_an1, ev_vs0, ev_vs, ev_vs2, ev_vs1, ev_ca, ev_ca1, ev_cv, ev_cv1, ev_cv2, ev_if, ev_if1, ev_cmp, ev_cmp2, ev_cmp1, ev_not, ev_not1, ev_and, ev_and1, ev_or, ev_or1, ev_e, ev_e1, ev_cif, ev_cif1, ev_qlt, ev_qle, ev_qgt, ev_qge, ev_qeq, ev_qne, ev_skip, ev_brk, ev_cnt, ev_retv, ev_seq, ev_seq0, ev_seq1, ev_seq2, ev_seq3, ev_seqi, ev_sif, ev_sif1, ev_ret, ev_ret1, ev_retz, ev_retzb, ev_retzc, ev_retz1, ev_retc, ev_asg, ev_s0, ev_s1, ev_s2, ev_s3, ev_s4, ev_s5, ev_s6, ev_s7, ev_s8, ev_s9, ev_s10, ev_s11, ev_exp, ev_exp1, ev_pf, ev_pf2, ev_pf1, ev_pz, ev_pz2, ev_pz1, ev_of, ev_of2, ev_of1, ev_st, ev_as, ev_as3, ev_as2, ev_as1, ev_oa, ev_oa3, ev_oa2, ev_oa1, ev_oa0, ev_cp, ev_cp3, ev_cp2, ev_cp1, ev_sw, ev_sw1, ev_swb0, ev_swb1, ev_swb3, ev_swbi, ev_fin3, ev_fin0, ev_fini, ev_iv, ev_ic, ev_b1, ev_b2, ev_b3, ev_b4, ev_b5, ev_b6, ev_or12, ev_lp, ev_lc, ev_lb0, ev_lb1, ev_lb2, ev_lb3, ev_lbi, ev_lu, ev_ass, Int.reduceAdd, Int.reduceSub, Int.reduceMul, Int.reduceNeg, Int.reduceLT, Int.reduceLE, Int.reduceGT, Int.reduceGE, Int.reduceEq, Int.reduceNe, Int.reduceDiv, Int.reduceMod, Int.reduceToNat, Nat.reduceAdd, Nat.reduceMul, Nat.reduceSub, Nat.reduceLT, Nat.reduceEqDiff, Int.reduceNatCast', reduceIte, ite_true, ite_false, if_true, if_false, decide_eq_true_eq, decide_true, decide_false, decide_not, Bool.not_eq_true', decide_eq_false_iff_not, Bool.not_not, Bool.and_eq_true, Bool.or_eq_true, Bool.not_true, Bool.not_false, not_true_eq_false, not_false_eq_true, true_and, and_true, false_and, and_false, true_or, or_true, false_or, or_false, Bool.true_and, Bool.and_true, Bool.false_and, Bool.and_false, Bool.true_or, Bool.or_true, Bool.or_false, Bool.false_or, Bool.not_eq_false', Bool.true_eq_false, Bool.false_eq_true, eq_self, Classical.not_not, ite_not, ne_eq, Option.some.injEq, Prod.mk.injEq, L_0, L_57, e1, e2, q5, e3, bc, q4, s1, r0, b, pw]
              · rw [if_neg q6] at b ⊢
                simp only [u11_held, b11_held, ev_op, ev_op2, ev_op1, ev_dv, ev_dv2, ev_dv1, ev_un, ev_un1, ev_lit, ev_l0, ev_l1, ev_l2, ev_l3, ev_l4, ev_l5, ev_l6, ev_l7, ev_l8, ev_l9, ev_l10, ev_l11, ev_rf, ev_gi, ev_gi1, ev_gi2, ev_gr, ev_gr1, ev_at0, ev_at, ev_al, ev_al2, ev_al1, ev_an, ev_an1, ev_vs0, ev_vs, ev_vs2, ev_vs1, ev_ca, ev_ca1, ev_cv, ev_cv1, ev_cv2, ev_if, ev_if1, ev_cmp, ev_cmp2, ev_cmp1, ev_not, ev_not1, ev_and, ev_and1, ev_or, ev_or1, ev_e, ev_e1, ev_cif, ev_cif1, ev_qlt, ev_qle, ev_qgt, ev_qge, ev_qeq, ev_qne, ev_skip, ev_brk, ev_cnt, ev_retv, ev_seq, ev_seq0, ev_seq1, ev_seq2, ev_seq3, ev_seqi, ev_sif, ev_sif1, ev_ret, ev_ret1, ev_retz, ev_retzb, ev_retzc, ev_retz1, ev_retc, ev_asg, ev_s0, ev_s1, ev_s2, ev_s3, ev_s4, ev_s5, ev_s6, ev_s7, ev_s8, ev_s9, ev_s10, ev_s11, ev_exp, ev_exp1, ev_pf, ev_pf2, ev_pf1, ev_pz, ev_pz2, ev_pz1, ev_of, ev_of2, ev_of1, ev_st, ev_as, ev_as3, ev_as2, ev_as1, ev_oa, ev_oa3, ev_oa2, ev_oa1, ev_oa0, ev_cp, ev_cp3, ev_cp2, ev_cp1, ev_sw, ev_sw1, ev_swb0, ev_swb1, ev_swb3, ev_swbi, ev_fin3, ev_fin0, ev_fini, ev_iv, ev_ic, ev_b1, ev_b2, ev_b3, ev_b4, ev_b5, ev_b6, ev_or12, ev_lp, ev_lc, ev_lb0, ev_lb1, ev_lb2, ev_lb3, ev_lbi, ev_lu, ev_ass, Int.reduceAdd, Int.reduceSub, Int.reduceMul, Int.reduceNeg, Int.reduceLT, Int.reduceLE, Int.reduceGT, Int.reduceGE, Int.reduceEq, Int.reduceNe, Int.reduceDiv, Int.reduceMod, Int.reduceToNat, Nat.reduceAdd, Nat.reduceMul, Nat.reduceSub, Nat.reduceLT, Nat.reduceEqDiff, Int.reduceNatCast', reduceIte, ite_true, ite_false, if_true, if_false, decide_eq_true_eq, decide_true, decide_false, decide_not, Bool.not_eq_true', decide_eq_false_iff_not, Bool.not_not, Bool.and_eq_true, Bool.or_eq_true, Bool.not_true, Bool.not_false, not_true_eq_false, not_false_eq_true, true_and, and_true, false_and, and_false, true_or, or_true, false_or, or_false, Bool.true_and, Bool.and_true, Bool.false_and, Bool.and_false, Bool.true_or, Bool.or_true, Bool.or_false, Bool.false_or, Bool.not_eq_false', Bool.true_eq_false, Bool.false_eq_true, eq_self, Classical.not_not, ite_not, ne_eq, Option.some.injEq, Prod.mk.injEq, L_0, L_57, e1, e2, q5, e3, bc, q4, s1, r0, b]
      · rw [if_neg fun y => q3 y.2]
        have q5 : ¬ w = -1 := by omega
        rw [if_neg (by omega)] at e3
        refine ⟨σ, ?_, EqP.rf σ⟩
        simp only [u11_held, b11_held, ev_op, ev_op2, ev_op1, ev_dv, ev_dv2, ev_dv1, ev_un, ev_un1, ev_lit, ev_l0, ev_l1, ev_l2, ev_l3, ev_l4, ev_l5, ev_l6, ev_l7, ev_l8, ev_l9, ev_l10, ev_l11, ev_rf, ev_gi, ev_gi1, ev_gi2, ev_gr, ev_gr1, ev_at0, ev_at, ev_al, ev_al2, ev_al1, ev_an, ev_an1, ev_vs0, ev_vs, ev_vs2, ev_vs1, ev_ca, ev_ca1, ev_cv, ev_cv1, ev_cv2, ev_if, ev_if1, ev_cmp, ev_cmp2, ev_cmp1, ev_not, ev_not1, ev_and, ev_and1, ev_or, ev_or1, ev_e, ev_e1, ev_cif, ev_cif1, ev_qlt, ev_qle, ev_qgt, ev_qge, ev_qeq, ev_qne, ev_skip, ev_brk, ev_cnt, ev_retv, ev_seq, ev_seq0, ev_seq1, ev_seq2, ev_seq3, ev_seqi, ev_sif, ev_sif1, ev_ret, ev_ret1, ev_retz, ev_retzb, ev_retzc, ev_retz1, ev_retc, ev_asg, ev_s0, ev_s1, ev_s2, ev_s3, ev_s4, ev_s5, ev_s6, ev_s7, ev_s8, ev_s9, ev_s10, ev_s11, ev_exp, ev_exp1, ev_pf, ev_pf2, ev_pf1, ev_pz, ev_pz2, ev_pz1, ev_of, ev_of2, ev_of1, ev_st, ev_as, ev_as3, ev_as2, ev_as1, ev_oa, ev_oa3, ev_oa2, ev_oa1, ev_oa0, ev_cp, ev_cp3, ev_cp2, ev_cp1, ev_sw, ev_sw1, ev_swb0, ev_swb1, ev_swb3, ev_swbi, ev_fin3, ev_fin0, ev_fini, ev_iv, ev_ic, ev_b1, ev_b2, ev_b3, ev_b4, ev_b5, ev_b6, ev_or12, ev_lp, ev_lc, ev_lb0, ev_lb1, ev_lb2, ev_lb3, ev_lbi, ev_lu, ev_ass, Int.reduceAdd, Int.reduceSub, Int.reduceMul, Int.reduceNeg, Int.reduceLT, Int.reduceLE, Int.reduceGT, Int.reduceGE, Int.reduceEq, Int.reduceNe, Int.reduceDiv, Int.reduceMod, Int.reduceToNat, Nat.reduceAdd, Nat.reduceMul, Nat.reduceSub, Nat.reduceLT, Nat.reduceEqDiff, Int.reduceNatCast', reduceIte, ite_true, ite_false, if_true, if_false, decide_eq_true_eq, decide_true, decide_false, decide_not, Bool.not_eq_true', decide_eq_false_iff_not, Bool.not_not, Bool.and_eq_true, Bool.or_eq_true, Bool.not_true, Bool.not_false, not_true_eq_false, not_false_eq_true, true_and, and_true, false_and, and_false, true_or, or_true, false_or, or_false, Bool.true_and, Bool.and_true, Bool.false_and, Bool.and_false, Bool.true_or, Bool.or_true, Bool.or_false, Bool.false_or, Bool.not_eq_false', Bool.true_eq_false, Bool.false_eq_true, eq_self, Classical.not_not, ite_not, ne_eq, Option.some.injEq, Prod.mk.injEq, L_0, e1, e2, q5, e3]
    · rw [if_neg q2] at e2
      rw [if_neg fun y => q2 y.1.2]
      refine ⟨σ, ?_, EqP.rf σ⟩
      simp only [u11_held, b11_held, ev_op, ev_op2, ev_op1, ev_dv, ev_dv2, ev_dv1, ev_un, ev_un1, ev_lit, ev_l0, ev_l1, ev_l2, ev_l3, ev_l4, ev_l5, ev_l6, ev_l7, ev_l8, ev_l9, ev_l10, ev_l11, ev_rf, ev_gi, ev_gi1, ev_gi2, ev_gr, ev_gr1, ev_at0, ev_at, ev_al, ev_al2, ev_al1, ev_an, ev_an1, ev_vs0, ev_vs, ev_vs2, ev_vs1, ev_ca, ev_ca1, ev_cv, ev_cv1, ev_cv2, ev_if, ev_if1, ev_cmp, ev_cmp2, ev_cmp1, ev_not, ev_not1, ev_and, ev_and1, ev_or, ev_or1, ev_e, ev_e1, ev_cif, ev_cif1, ev_qlt, ev_qle, ev_qgt, ev_qge, ev_qeq, ev_qne, ev_skip, ev_brk, ev_cnt, ev_retv, ev_seq, ev_seq0, ev_seq1, ev_seq2, ev_seq3, ev_seqi, ev_sif, ev_sif1, ev_ret, ev_ret1, ev_retz, ev_retzb, ev_retzc, ev_retz1, ev_retc, ev_asg, ev_s0, ev_s1, ev_s2, ev_s3, ev_s4, ev_s5, ev_s6, ev_s7, ev_s8, ev_s9, ev_s10, ev_s11, ev_exp, ev_exp1, ev_pf, ev_pf2, ev_pf1, ev_pz, ev_pz2, ev_pz1, ev_of, ev_of2, ev_of1, ev_st, ev_as, ev_as3, ev_as2, ev_as1, ev_oa, ev_oa3, ev_oa2, ev_oa1, ev_oa0, ev_cp, ev_cp3, ev_cp2, ev_cp1, ev_sw, ev_sw1, ev_swb0, ev_swb1, ev_swb3, ev_swbi, ev_fin3, ev_fin0, ev_fini, ev_iv, ev_ic, ev_b1, ev_b2, ev_b3, ev_b4, ev_b5, ev_b6, ev_or12, ev_lp, ev_lc, ev_lb0, ev_lb1, ev_lb2, ev_lb3, ev_lbi, ev_lu, ev_ass, Int.reduceAdd, Int.reduceSub, Int.reduceMul, Int.reduceNeg, Int.reduceLT, Int.reduceLE, Int.reduceGT, Int.reduceGE, Int.reduceEq, Int.reduceNe, Int.reduceDiv, Int.reduceMod, Int.reduceToNat, Nat.reduceAdd, Nat.reduceMul, Nat.reduceSub, Nat.reduceLT, Nat.reduceEqDiff, Int.reduceNatCast', reduceIte, ite_true, ite_false, if_true, if_false, decide_eq_true_eq, decide_true, decide_false, decide_not, Bool.not_eq_true', decide_eq_false_iff_not, Bool.not_not, Bool.and_eq_true, Bool.or_eq_true, Bool.not_true, Bool.not_false, not_true_eq_false, not_false_eq_true, true_and, and_true, false_and, and_false, true_or, or_true, false_or, or_false, Bool.true_and, Bool.and_true, Bool.false_and, Bool.and_false, Bool.true_or, Bool.or_true, Bool.or_false, Bool.false_or, Bool.not_eq_false', Bool.true_eq_false, Bool.false_eq_true, eq_self, Classical.not_not, ite_not, ne_eq, Option.some.injEq, Prod.mk.injEq, L_0, e1, e2]
  · rw [if_neg q1] at e1
    rw [if_neg fun y => q1 y.1.1]
    refine ⟨σ, ?_, EqP.rf σ⟩
    simp only [u11_held, b11_held, ev_op, ev_op2, ev_op1, ev_dv, ev_dv2, ev_dv1, ev_un, ev_un1, ev_lit, ev_l0, ev_l1, ev_l2, ev_l3, ev_l4, ev_l5, ev_l6, ev_l7, ev_l8, ev_l9, ev_l10, ev_l11, ev_rf, ev_gi, ev_gi1, ev_gi2, ev_gr, ev_gr1, ev_at0, ev_at, ev_al, ev_al2, ev_al1, ev_an, ev_an1, ev_vs0, ev_vs, ev_vs2, ev_vs1, ev_ca, ev_ca1, ev_cv, ev_cv1, ev_cv2, ev_if, ev_if1, ev_cmp, ev_cmp2, ev_cmp1, ev_not, ev_not1, ev_and, ev_and1, ev_or, ev_or1, ev_e, ev_e1, ev_cif, ev_cif1, ev_qlt, ev_qle, ev_qgt, ev_qge, ev_qeq, ev_qne, ev_skip, ev_brk, ev_cnt, ev_retv, ev_seq, ev_seq0, ev_seq1, ev_seq2, ev_seq3, ev_seqi, ev_sif, ev_sif1, ev_ret, ev_ret1, ev_retz, ev_retzb, ev_retzc, ev_retz1, ev_retc, ev_asg, ev_s0, ev_s1, ev_s2, ev_s3, ev_s4, ev_s5, ev_s6, ev_s7, ev_s8, ev_s9, ev_s10, ev_s11, ev_exp, ev_exp1, ev_pf, ev_pf2, ev_pf1, ev_pz, ev_pz2, ev_pz1, ev_of, ev_of2, ev_of1, ev_st, ev_as, ev_as3, ev_as2, ev_as1, ev_oa, ev_oa3, ev_oa2, ev_oa1, ev_oa0, ev_cp, ev_cp3, ev_cp2, ev_cp1, ev_sw, ev_sw1, ev_swb0, ev_swb1, ev_swb3, ev_swbi, ev_fin3, ev_fin0, ev_fini, ev_iv, ev_ic, ev_b1, ev_b2, ev_b3, ev_b4, ev_b5, ev_b6, ev_or12, ev_lp, ev_lc, ev_lb0, ev_lb1, ev_lb2, ev_lb3, ev_lbi, ev_lu, ev_ass, Int.reduceAdd, Int.reduceSub, Int.reduceMul, Int.reduceNeg, Int.reduceLT, Int.reduceLE, Int.reduceGT, Int.reduceGE, Int.reduceEq, Int.reduceNe, Int.reduceDiv, Int.reduceMod, Int.reduceToNat, Nat.reduceAdd, Nat.reduceMul, Nat.reduceSub, Nat.reduceLT, Nat.reduceEqDiff, Int.reduceNatCast', reduceIte, ite_true, ite_false, if_true, if_false, decide_eq_true_eq, decide_true, decide_false, decide_not, Bool.not_eq_true', decide_eq_false_iff_not, Bool.not_not, Bool.and_eq_true, Bool.or_eq_true, Bool.not_true, Bool.not_false, not_true_eq_false, not_false_eq_true, true_and, and_true, false_and, and_false, true_or, or_true, false_or, or_false, Bool.true_and, Bool.and_true, Bool.false_and, Bool.and_false, Bool.true_or, Bool.or_true, Bool.or_false, Bool.false_or, Bool.not_eq_false', Bool.true_eq_false, Bool.false_eq_true, eq_self, Classical.not_not, ite_not, ne_eq, Option.some.injEq, Prod.mk.injEq, L_0, e1]
