/-! ===== sets, lists, quantifiers under n ===== -/
def anyI (P : Int → Bool) (n : Int) : Bool := (List.range n.toNat).any fun i => P (i : Int)
theorem anyI_0 (P : Int → Bool) : anyI P 0 = false := rfl
theorem anyI_s (P : Int → Bool) {n : Int} (h : 0 ≤ n) : anyI P (n + 1) = (anyI P n || P n) := by
  unfold anyI
  rw [show (n + 1).toNat = n.toNat + 1 by omega, List.range_succ, List.any_append]
  simp [Int.toNat_of_nonneg h]
theorem anyI_t {P : Int → Bool} {n : Int} : anyI P n = true ↔ ∃ i : Int, 0 ≤ i ∧ i < n ∧ P i = true := by
  unfold anyI
  rw [List.any_eq_true]
  constructor
  · rintro ⟨x, hx, hp⟩
    have := List.mem_range.mp hx
    exact ⟨(x : Int), by omega, by omega, hp⟩
  · rintro ⟨i, h0, h1, hp⟩
    refine ⟨i.toNat, List.mem_range.mpr (by omega), ?_⟩
    rw [Int.toNat_of_nonneg h0]
    exact hp
theorem anyI_ext {P Q : Int → Bool} {n : Int} (h : ∀ i : Int, 0 ≤ i → i < n → P i = Q i) : anyI P n = anyI Q n := by
  rw [Bool.eq_iff_iff, anyI_t, anyI_t]
  constructor
  · rintro ⟨i, h0, h1, h2⟩; exact ⟨i, h0, h1, by rw [← h i h0 h1]; exact h2⟩
  · rintro ⟨i, h0, h1, h2⟩; exact ⟨i, h0, h1, by rw [h i h0 h1]; exact h2⟩
def allI (P : Int → Bool) (n : Int) : Bool := !(anyI (fun i => !(P i)) n)
theorem allI_0 (P : Int → Bool) : allI P 0 = true := rfl
theorem allI_s (P : Int → Bool) {n : Int} (h : 0 ≤ n) : allI P (n + 1) = (allI P n && P n) := by
  unfold allI
  rw [anyI_s _ h]
  cases anyI (fun i => !(P i)) n <;> cases P n <;> rfl
theorem allI_t {P : Int → Bool} {n : Int} : allI P n = true ↔ ∀ i : Int, 0 ≤ i → i < n → P i = true := by
  unfold allI
  rw [Bool.not_eq_true', ← Bool.not_eq_true, anyI_t]
  constructor
  · intro h i h0 h1
    cases hp : P i with
    | true => rfl
    | false => exact (h ⟨i, h0, h1, by rw [hp]; rfl⟩).elim
  · rintro h ⟨i, h0, h1, h2⟩
    rw [h i h0 h1] at h2
    cases h2
/-- those under n for which P holds, in their order -/
def sl (P : Int → Bool) (n : Int) : List Int := ((List.range n.toNat).map fun i : Nat => (i : Int)).filter P
theorem sl_0 (P : Int → Bool) : sl P 0 = [] := rfl
theorem sl_s (P : Int → Bool) {n : Int} (h : 0 ≤ n) : sl P (n + 1) = sl P n ++ (if P n = true then [n] else []) := by
  unfold sl
  rw [show (n + 1).toNat = n.toNat + 1 by omega, List.range_succ, List.map_append, List.filter_append]
  congr 1
  rw [List.map_cons, List.map_nil, Int.toNat_of_nonneg h, List.filter_cons, List.filter_nil]
theorem sl_mem {P : Int → Bool} {n i : Int} : i ∈ sl P n ↔ 0 ≤ i ∧ i < n ∧ P i = true := by
  unfold sl
  rw [List.mem_filter, List.mem_map]
  constructor
  · rintro ⟨⟨a, ha, rfl⟩, hp⟩
    have := List.mem_range.mp ha
    exact ⟨by omega, by omega, hp⟩
  · rintro ⟨h0, h1, hp⟩
    exact ⟨⟨i.toNat, List.mem_range.mpr (by omega), Int.toNat_of_nonneg h0⟩, hp⟩
theorem sl_le (P : Int → Bool) {n : Int} (h : 0 ≤ n) : ((sl P n).length : Int) ≤ n := by
  unfold sl
  have h1 := List.length_filter_le P ((List.range n.toNat).map fun i : Nat => (i : Int))
  rw [List.length_map, List.length_range] at h1
  omega
theorem sl_ext {P Q : Int → Bool} {n : Int} (h : ∀ i : Int, 0 ≤ i → i < n → P i = Q i) : sl P n = sl Q n := by
  unfold sl
  refine List.filter_congr fun x hx => ?_
  obtain ⟨a, ha, rfl⟩ := List.mem_map.mp hx
  have := List.mem_range.mp ha
  exact h _ (by omega) (by omega)
/-- the first places of array k are the list's -/
def aM (σ : cvM) (k : Int) (l : List Int) : cvM := fun k' i => if k' = k ∧ 0 ≤ i ∧ i < (l.length : Int) then l.getD i.toNat 0 else σ k' i
theorem aM_ne {σ : cvM} {k k' : Int} (l : List Int) (i : Int) (h : k' ≠ k) : aM σ k l k' i = σ k' i := if_neg fun q => h q.1
theorem aM_at (σ : cvM) (k : Int) {l : List Int} {i : Int} (h : 0 ≤ i ∧ i < (l.length : Int)) : aM σ k l k i = l.getD i.toNat 0 := if_pos ⟨rfl, h.1, h.2⟩
theorem aM_0 (σ : cvM) (k : Int) : aM σ k [] = σ := by
  funext k' i
  unfold aM
  rw [if_neg]
  rintro ⟨_, h1, h2⟩
  have h2 : i < 0 := h2
  omega
theorem aM_s (σ : cvM) (k : Int) (l : List Int) (v : Int) : updM (aM σ k l) k (l.length : Int) v = aM σ k (l ++ [v]) := by
  funext k' i
  unfold updM aM
  by_cases hk : k' = k
  · by_cases hi : i = (l.length : Int)
    · subst hi
      rw [if_pos ⟨hk, rfl⟩, if_pos ⟨hk, by omega, by rw [List.length_append]; simp; omega⟩, Int.toNat_natCast, List.getD_eq_getElem?_getD, List.getElem?_append_right (Nat.le_refl _), Nat.sub_self]
      rfl
    · rw [if_neg (fun q => hi q.2)]
      by_cases h0 : 0 ≤ i ∧ i < (l.length : Int)
      · rw [if_pos ⟨hk, h0.1, h0.2⟩, if_pos ⟨hk, h0.1, by rw [List.length_append]; simp; omega⟩, List.getD_eq_getElem?_getD, List.getD_eq_getElem?_getD, List.getElem?_append_left (by omega)]
      · rw [if_neg (fun q => h0 q.2), if_neg]
        rintro ⟨_, h1, h2⟩
        rw [List.length_append] at h2
        simp at h2
        omega
  · rw [if_neg (fun q => hk q.1), if_neg (fun q => hk q.1), if_neg (fun q => hk q.1)]
theorem upd_ne {σ : cvM} {k i v k' : Int} (i' : Int) (h : k' ≠ k) : updM σ k i v k' i' = σ k' i' := if_neg fun q => h q.1
theorem upd_at (σ : cvM) (k i v : Int) : updM σ k i v k i = v := if_pos ⟨rfl, rfl⟩
theorem upd_ni {σ : cvM} {k i v k' i' : Int} (h : i' ≠ i) : updM σ k i v k' i' = σ k' i' := if_neg fun q => h q.2
theorem upd_comm {σ : cvM} {k i v k2 i2 v2 : Int} (h : k ≠ k2 ∨ i ≠ i2) : updM (updM σ k i v) k2 i2 v2 = updM (updM σ k2 i2 v2) k i v := by
  funext a b
  unfold updM
  by_cases h1 : a = k2 ∧ b = i2
  · rw [if_pos h1, if_neg, if_pos h1]
    rintro ⟨e1, e2⟩
    rcases h with q | q
    · exact q (e1.symm.trans h1.1)
    · exact q (e2.symm.trans h1.2)
  · rw [if_neg h1]
    by_cases h2 : a = k ∧ b = i
    · rw [if_pos h2, if_pos h2]
    · rw [if_neg h2, if_neg h2, if_neg h1]
theorem upd_twice (σ : cvM) (k i v w : Int) : updM (updM σ k i v) k i w = updM σ k i w := by
  funext a b
  unfold updM
  by_cases h : a = k ∧ b = i
  · rw [if_pos h, if_pos h]
  · rw [if_neg h, if_neg h, if_neg h]
theorem upd_aM {σ : cvM} {k i v k2 : Int} (l : List Int) (h : k ≠ k2) : aM (updM σ k i v) k2 l = updM (aM σ k2 l) k i v := by
  funext a b
  show (if a = k2 ∧ 0 ≤ b ∧ b < (l.length : Int) then l.getD b.toNat 0 else if a = k ∧ b = i then v else σ a b) = if a = k ∧ b = i then v else if a = k2 ∧ 0 ≤ b ∧ b < (l.length : Int) then l.getD b.toNat 0 else σ a b
  by_cases h1 : a = k2
  · have h2 : ¬ (a = k ∧ b = i) := fun q => h (q.1.symm.trans h1)
    rw [if_neg h2, if_neg h2]
  · have h2 : ¬ (a = k2 ∧ 0 ≤ b ∧ b < (l.length : Int)) := fun q => h1 q.1
    rw [if_neg h2, if_neg h2]
/-! ===== the class's sets ===== -/
/-- FOES, as the numbers have it -/
def foe (σ : cvM) (a b : Int) : Bool := tb (σ 92 (7 * a + 6)) b || tb (σ 93 (σ 92 (7 * a))) (σ 92 (7 * b))
theorem s10_areFoes {σ : cvM} (h : WR σ) {a b : Int} (ha : 0 ≤ a ∧ a < σ 88 2) (hb : 0 ≤ b ∧ b < σ 88 2) : f10_areFoes [1, a, b] σ = some (if ¬ a = b ∧ foe σ a b = true then 1 else 0, σ) := by
  have c := cnt_4 h
  have ea := cell_4 h (p := a) (j := 0) ⟨ha.1, ha.2, by decide, by decide⟩
  have eb := cell_4 h (p := b) (j := 0) ⟨hb.1, hb.2, by decide, by decide⟩
  rw [Int.add_zero] at ea eb
  have ra := h.rQ a ha.1 ha.2
  have rb := h.rQ b hb.1 hb.2
  have g1 := h.wA.2.2.1 (σ 92 (7 * a)) (by omega) (by omega)
  have g2 := h.wA.2.2.2.1 a ha.1 ha.2
  have g3 := h.rA.2.2.1 (σ 92 (7 * a)) (by omega) (by omega)
  have c1 : 0 ≤ σ 92 (7 * a) := ra.1
  have c2 : σ 92 (7 * a) ≤ 3 := ra.2.1
  have t1 := s11_bit (x := σ 93 (σ 92 (7 * a))) (p := σ 92 (7 * b)) (by omega) σ
  have t2 := s11_bit (x := σ 92 (7 * a + 6)) (p := b) (by omega) σ
  by_cases e : a = b
  · simp only [u10_areFoes, b10_areFoes, has_4 h, ev_op, ev_op2, ev_op1, ev_dv, ev_dv2, ev_dv1, ev_un, ev_un1, ev_lit, ev_l0, ev_l1, ev_l2, ev_l3, ev_l4, ev_l5, ev_l6, ev_l7, ev_l8, ev_l9, ev_l10, ev_l11, ev_rf, ev_gi, ev_gi1, ev_gi2, ev_gr, ev_gr1, ev_at0, ev_at, ev_al, ev_al2, ev_al1, ev_an, ev_an1, ev_vs0, ev_vs, ev_vs2, ev_vs1, ev_ca, ev_ca1, ev_cv, ev_cv1, ev_cv2, ev_if, ev_if1, ev_cmp, ev_cmp2, ev_cmp1, ev_not, ev_not1, ev_and, ev_and1, ev_or, ev_or1, ev_e, ev_e1, ev_cif, ev_cif1, ev_qlt, ev_qle, ev_qgt, ev_qge, ev_qeq, ev_qne, ev_skip, ev_brk, ev_cnt, ev_retv, ev_seq, ev_seq0, ev_seq1, ev_seq2, ev_seq3, ev_seqi, ev_sif, ev_sif1, ev_ret, ev_ret1, ev_retz, ev_retzb, ev_retzc, ev_retz1, ev_retc, ev_asg, ev_s0, ev_s1, ev_s2, ev_s3, ev_s4, ev_s5, ev_s6, ev_s7, ev_s8, ev_s9, ev_s10, ev_s11, ev_exp, ev_exp1, ev_pf, ev_pf2, ev_pf1, ev_pz, ev_pz2, ev_pz1, ev_of, ev_of2, ev_of1, ev_st, ev_as, ev_as3, ev_as2, ev_as1, ev_oa, ev_oa3, ev_oa2, ev_oa1, ev_oa0, ev_cp, ev_cp3, ev_cp2, ev_cp1, ev_sw, ev_sw1, ev_swb0, ev_swb1, ev_swb3, ev_swbi, ev_fin3, ev_fin0, ev_fini, ev_iv, ev_ic, ev_b1, ev_b2, ev_b3, ev_b4, ev_b5, ev_b6, ev_or12, ev_lp, ev_lc, ev_lb0, ev_lb1, ev_lb2, ev_lb3, ev_lbi, ev_lu, ev_ass, Int.reduceAdd, Int.reduceSub, Int.reduceMul, Int.reduceNeg, Int.reduceLT, Int.reduceLE, Int.reduceGT, Int.reduceGE, Int.reduceEq, Int.reduceNe, Int.reduceDiv, Int.reduceMod, Int.reduceToNat, Nat.reduceAdd, Nat.reduceMul, Nat.reduceSub, Nat.reduceLT, Nat.reduceEqDiff, Int.reduceNatCast', reduceIte, ite_true, ite_false, if_true, if_false, decide_eq_true_eq, decide_true, decide_false, decide_not, Bool.not_eq_true', decide_eq_false_iff_not, Bool.not_not, Bool.and_eq_true, Bool.or_eq_true, Bool.not_true, Bool.not_false, not_true_eq_false, not_false_eq_true, true_and, and_true, false_and, and_false, true_or, or_true, false_or, or_false, Bool.true_and, Bool.and_true, Bool.false_and, Bool.and_false, Bool.true_or, Bool.or_true, Bool.or_false, Bool.false_or, Bool.not_eq_false', Bool.true_eq_false, Bool.false_eq_true, eq_self, Classical.not_not, ite_not, ne_eq, Option.some.injEq, Prod.mk.injEq, L_1, L_4, L_12, L_13, ha, hb, e]
  · simp only [u10_areFoes, b10_areFoes, has_4 h, ea, eb, s11_isWithin, ev_op, ev_op2, ev_op1, ev_dv, ev_dv2, ev_dv1, ev_un, ev_un1, ev_lit, ev_l0, ev_l1, ev_l2, ev_l3, ev_l4, ev_l5, ev_l6, ev_l7, ev_l8, ev_l9, ev_l10, ev_l11, ev_rf, ev_gi, ev_gi1, ev_gi2, ev_gr, ev_gr1, ev_at0, ev_at, ev_al, ev_al2, ev_al1, ev_an, ev_an1, ev_vs0, ev_vs, ev_vs2, ev_vs1, ev_ca, ev_ca1, ev_cv, ev_cv1, ev_cv2, ev_if, ev_if1, ev_cmp, ev_cmp2, ev_cmp1, ev_not, ev_not1, ev_and, ev_and1, ev_or, ev_or1, ev_e, ev_e1, ev_cif, ev_cif1, ev_qlt, ev_qle, ev_qgt, ev_qge, ev_qeq, ev_qne, ev_skip, ev_brk, ev_cnt, ev_retv, ev_seq, ev_seq0, ev_seq1, ev_seq2, ev_seq3, ev_seqi, ev_sif, ev_sif1, ev_ret, ev_ret1, ev_retz, ev_retzb, ev_retzc, ev_retz1, ev_retc, ev_asg, ev_s0, ev_s1, ev_s2, ev_s3, ev_s4, ev_s5, ev_s6, ev_s7, ev_s8, ev_s9, ev_s10, ev_s11, ev_exp, ev_exp1, ev_pf, ev_pf2, ev_pf1, ev_pz, ev_pz2, ev_pz1, ev_of, ev_of2, ev_of1, ev_st, ev_as, ev_as3, ev_as2, ev_as1, ev_oa, ev_oa3, ev_oa2, ev_oa1, ev_oa0, ev_cp, ev_cp3, ev_cp2, ev_cp1, ev_sw, ev_sw1, ev_swb0, ev_swb1, ev_swb3, ev_swbi, ev_fin3, ev_fin0, ev_fini, ev_iv, ev_ic, ev_b1, ev_b2, ev_b3, ev_b4, ev_b5, ev_b6, ev_or12, ev_lp, ev_lc, ev_lb0, ev_lb1, ev_lb2, ev_lb3, ev_lbi, ev_lu, ev_ass, Int.reduceAdd, Int.reduceSub, Int.reduceMul, Int.reduceNeg, Int.reduceLT, Int.reduceLE, Int.reduceGT, Int.reduceGE, Int.reduceEq, Int.reduceNe, Int.reduceDiv, Int.reduceMod, Int.reduceToNat, Nat.reduceAdd, Nat.reduceMul, Nat.reduceSub, Nat.reduceLT, Nat.reduceEqDiff, Int.reduceNatCast', reduceIte, ite_true, ite_false, if_true, if_false, decide_eq_true_eq, decide_true, decide_false, decide_not, Bool.not_eq_true', decide_eq_false_iff_not, Bool.not_not, Bool.and_eq_true, Bool.or_eq_true, Bool.not_true, Bool.not_false, not_true_eq_false, not_false_eq_true, true_and, and_true, false_and, and_false, true_or, or_true, false_or, or_false, Bool.true_and, Bool.and_true, Bool.false_and, Bool.and_false, Bool.true_or, Bool.or_true, Bool.or_false, Bool.false_or, Bool.not_eq_false', Bool.true_eq_false, Bool.false_eq_true, eq_self, Classical.not_not, ite_not, ne_eq, Option.some.injEq, Prod.mk.injEq, L_1, L_4, L_12, L_13, ha, hb, e, c1, c2]
    rw [ev_at _ _ _ _ (by omega)]
    simp only [ev_op, ev_op2, ev_op1, ev_dv, ev_dv2, ev_dv1, ev_un, ev_un1, ev_lit, ev_l0, ev_l1, ev_l2, ev_l3, ev_l4, ev_l5, ev_l6, ev_l7, ev_l8, ev_l9, ev_l10, ev_l11, ev_rf, ev_gi, ev_gi1, ev_gi2, ev_gr, ev_gr1, ev_at0, ev_at, ev_al, ev_al2, ev_al1, ev_an, ev_an1, ev_vs0, ev_vs, ev_vs2, ev_vs1, ev_ca, ev_ca1, ev_cv, ev_cv1, ev_cv2, ev_if, ev_if1, ev_cmp, ev_cmp2, ev_cmp1, ev_not, ev_not1, ev_and, ev_and1, ev_or, ev_or1, ev_e, ev_e1, ev_cif, ev_cif1, ev_qlt, ev_qle, ev_qgt, ev_qge, ev_qeq, ev_qne, ev_skip, ev_brk, ev_cnt, ev_retv, ev_seq, ev_seq0, ev_seq1, ev_seq2, ev_seq3, ev_seqi, ev_sif, ev_sif1, ev_ret, ev_ret1, ev_retz, ev_retzb, ev_retzc, ev_retz1, ev_retc, ev_asg, ev_s0, ev_s1, ev_s2, ev_s3, ev_s4, ev_s5, ev_s6, ev_s7, ev_s8, ev_s9, ev_s10, ev_s11, ev_exp, ev_exp1, ev_pf, ev_pf2, ev_pf1, ev_pz, ev_pz2, ev_pz1, ev_of, ev_of2, ev_of1, ev_st, ev_as, ev_as3, ev_as2, ev_as1, ev_oa, ev_oa3, ev_oa2, ev_oa1, ev_oa0, ev_cp, ev_cp3, ev_cp2, ev_cp1, ev_sw, ev_sw1, ev_swb0, ev_swb1, ev_swb3, ev_swbi, ev_fin3, ev_fin0, ev_fini, ev_iv, ev_ic, ev_b1, ev_b2, ev_b3, ev_b4, ev_b5, ev_b6, ev_or12, ev_lp, ev_lc, ev_lb0, ev_lb1, ev_lb2, ev_lb3, ev_lbi, ev_lu, ev_ass, Int.reduceAdd, Int.reduceSub, Int.reduceMul, Int.reduceNeg, Int.reduceLT, Int.reduceLE, Int.reduceGT, Int.reduceGE, Int.reduceEq, Int.reduceNe, Int.reduceDiv, Int.reduceMod, Int.reduceToNat, Nat.reduceAdd, Nat.reduceMul, Nat.reduceSub, Nat.reduceLT, Nat.reduceEqDiff, Int.reduceNatCast', reduceIte, ite_true, ite_false, if_true, if_false, decide_eq_true_eq, decide_true, decide_false, decide_not, Bool.not_eq_true', decide_eq_false_iff_not, Bool.not_not, Bool.and_eq_true, Bool.or_eq_true, Bool.not_true, Bool.not_false, not_true_eq_false, not_false_eq_true, true_and, and_true, false_and, and_false, true_or, or_true, false_or, or_false, Bool.true_and, Bool.and_true, Bool.false_and, Bool.and_false, Bool.true_or, Bool.or_true, Bool.or_false, Bool.false_or, Bool.not_eq_false', Bool.true_eq_false, Bool.false_eq_true, eq_self, Classical.not_not, ite_not, ne_eq, Option.some.injEq, Prod.mk.injEq, eb, g1, t1, L_1, L_4, L_12, L_13]
    rw [ev_at _ _ _ _ (by omega)]
    simp only [ev_op, ev_op2, ev_op1, ev_dv, ev_dv2, ev_dv1, ev_un, ev_un1, ev_lit, ev_l0, ev_l1, ev_l2, ev_l3, ev_l4, ev_l5, ev_l6, ev_l7, ev_l8, ev_l9, ev_l10, ev_l11, ev_rf, ev_gi, ev_gi1, ev_gi2, ev_gr, ev_gr1, ev_at0, ev_at, ev_al, ev_al2, ev_al1, ev_an, ev_an1, ev_vs0, ev_vs, ev_vs2, ev_vs1, ev_ca, ev_ca1, ev_cv, ev_cv1, ev_cv2, ev_if, ev_if1, ev_cmp, ev_cmp2, ev_cmp1, ev_not, ev_not1, ev_and, ev_and1, ev_or, ev_or1, ev_e, ev_e1, ev_cif, ev_cif1, ev_qlt, ev_qle, ev_qgt, ev_qge, ev_qeq, ev_qne, ev_skip, ev_brk, ev_cnt, ev_retv, ev_seq, ev_seq0, ev_seq1, ev_seq2, ev_seq3, ev_seqi, ev_sif, ev_sif1, ev_ret, ev_ret1, ev_retz, ev_retzb, ev_retzc, ev_retz1, ev_retc, ev_asg, ev_s0, ev_s1, ev_s2, ev_s3, ev_s4, ev_s5, ev_s6, ev_s7, ev_s8, ev_s9, ev_s10, ev_s11, ev_exp, ev_exp1, ev_pf, ev_pf2, ev_pf1, ev_pz, ev_pz2, ev_pz1, ev_of, ev_of2, ev_of1, ev_st, ev_as, ev_as3, ev_as2, ev_as1, ev_oa, ev_oa3, ev_oa2, ev_oa1, ev_oa0, ev_cp, ev_cp3, ev_cp2, ev_cp1, ev_sw, ev_sw1, ev_swb0, ev_swb1, ev_swb3, ev_swbi, ev_fin3, ev_fin0, ev_fini, ev_iv, ev_ic, ev_b1, ev_b2, ev_b3, ev_b4, ev_b5, ev_b6, ev_or12, ev_lp, ev_lc, ev_lb0, ev_lb1, ev_lb2, ev_lb3, ev_lbi, ev_lu, ev_ass, Int.reduceAdd, Int.reduceSub, Int.reduceMul, Int.reduceNeg, Int.reduceLT, Int.reduceLE, Int.reduceGT, Int.reduceGE, Int.reduceEq, Int.reduceNe, Int.reduceDiv, Int.reduceMod, Int.reduceToNat, Nat.reduceAdd, Nat.reduceMul, Nat.reduceSub, Nat.reduceLT, Nat.reduceEqDiff, Int.reduceNatCast', reduceIte, ite_true, ite_false, if_true, if_false, decide_eq_true_eq, decide_true, decide_false, decide_not, Bool.not_eq_true', decide_eq_false_iff_not, Bool.not_not, Bool.and_eq_true, Bool.or_eq_true, Bool.not_true, Bool.not_false, not_true_eq_false, not_false_eq_true, true_and, and_true, false_and, and_false, true_or, or_true, false_or, or_false, Bool.true_and, Bool.and_true, Bool.false_and, Bool.and_false, Bool.true_or, Bool.or_true, Bool.or_false, Bool.false_or, Bool.not_eq_false', Bool.true_eq_false, Bool.false_eq_true, eq_self, Classical.not_not, ite_not, ne_eq, Option.some.injEq, Prod.mk.injEq, g2, t2]
    unfold foe
    cases tb (σ 93 (σ 92 (7 * a))) (σ 92 (7 * b)) <;> cases tb (σ 92 (7 * a + 6)) b <;> rfl
/-- the PERSONS whose HOME a place is -/
def homeS (σ : cvM) (pl : Int) : Int → Bool := fun p => decide (σ 92 (7 * p + 1) = pl)
theorem s10_personsOf {σ : cvM} (h : WR σ) (pl : Int) : f10_personsOf [1, pl] σ = some (bI (homeS σ pl) (σ 88 2), σ) := by
  have c := cnt_4 h
  simp only [u10_personsOf, b10_personsOf, ev_op, ev_op2, ev_op1, ev_dv, ev_dv2, ev_dv1, ev_un, ev_un1, ev_lit, ev_l0, ev_l1, ev_l2, ev_l3, ev_l4, ev_l5, ev_l6, ev_l7, ev_l8, ev_l9, ev_l10, ev_l11, ev_rf, ev_gi, ev_gi1, ev_gi2, ev_gr, ev_gr1, ev_at0, ev_at, ev_al, ev_al2, ev_al1, ev_an, ev_an1, ev_vs0, ev_vs, ev_vs2, ev_vs1, ev_ca, ev_ca1, ev_cv, ev_cv1, ev_cv2, ev_if, ev_if1, ev_cmp, ev_cmp2, ev_cmp1, ev_not, ev_not1, ev_and, ev_and1, ev_or, ev_or1, ev_e, ev_e1, ev_cif, ev_cif1, ev_qlt, ev_qle, ev_qgt, ev_qge, ev_qeq, ev_qne, ev_skip, ev_brk, ev_cnt, ev_retv, ev_seq, ev_seq0, ev_seq1, ev_seq2, ev_seq3, ev_seqi, ev_sif, ev_sif1, ev_ret, ev_ret1, ev_retz, ev_retzb, ev_retzc, ev_retz1, ev_retc, ev_asg, ev_s0, ev_s1, ev_s2, ev_s3, ev_s4, ev_s5, ev_s6, ev_s7, ev_s8, ev_s9, ev_s10, ev_s11, ev_exp, ev_exp1, ev_pf, ev_pf2, ev_pf1, ev_pz, ev_pz2, ev_pz1, ev_of, ev_of2, ev_of1, ev_st, ev_as, ev_as3, ev_as2, ev_as1, ev_oa, ev_oa3, ev_oa2, ev_oa1, ev_oa0, ev_cp, ev_cp3, ev_cp2, ev_cp1, ev_sw, ev_sw1, ev_swb0, ev_swb1, ev_swb3, ev_swbi, ev_fin3, ev_fin0, ev_fini, ev_iv, ev_ic, ev_b1, ev_b2, ev_b3, ev_b4, ev_b5, ev_b6, ev_or12, ev_lp, ev_lc, ev_lb0, ev_lb1, ev_lb2, ev_lb3, ev_lbi, ev_lu, ev_ass, Int.reduceAdd, Int.reduceSub, Int.reduceMul, Int.reduceNeg, Int.reduceLT, Int.reduceLE, Int.reduceGT, Int.reduceGE, Int.reduceEq, Int.reduceNe, Int.reduceDiv, Int.reduceMod, Int.reduceToNat, Nat.reduceAdd, Nat.reduceMul, Nat.reduceSub, Nat.reduceLT, Nat.reduceEqDiff, Int.reduceNatCast', reduceIte, ite_true, ite_false, if_true, if_false, decide_eq_true_eq, decide_true, decide_false, decide_not, Bool.not_eq_true', decide_eq_false_iff_not, Bool.not_not, Bool.and_eq_true, Bool.or_eq_true, Bool.not_true, Bool.not_false, not_true_eq_false, not_false_eq_true, true_and, and_true, false_and, and_false, true_or, or_true, false_or, or_false, Bool.true_and, Bool.and_true, Bool.false_and, Bool.and_false, Bool.true_or, Bool.or_true, Bool.or_false, Bool.false_or, Bool.not_eq_false', Bool.true_eq_false, Bool.false_eq_true, eq_self, Classical.not_not, ite_not, ne_eq, Option.some.injEq, Prod.mk.injEq, L_1, L_4]
  rw [lp_I (fun i => ([some 1, some pl, some (bI (homeS σ pl) i), some i], σ)) 0 (σ 88 2) (0, 0, [some 1, some pl, some (bI (homeS σ pl) (σ 88 2)), some (σ 88 2)], σ) c.2.1 ?_ ?_ ?_]
  · simp only [ev_op, ev_op2, ev_op1, ev_dv, ev_dv2, ev_dv1, ev_un, ev_un1, ev_lit, ev_l0, ev_l1, ev_l2, ev_l3, ev_l4, ev_l5, ev_l6, ev_l7, ev_l8, ev_l9, ev_l10, ev_l11, ev_rf, ev_gi, ev_gi1, ev_gi2, ev_gr, ev_gr1, ev_at0, ev_at, ev_al, ev_al2, ev_al1, ev_an, ev_an1, ev_vs0, ev_vs, ev_vs2, ev_vs1, ev_ca, ev_ca1, ev_cv, ev_cv1, ev_cv2, ev_if, ev_if1, ev_cmp, ev_cmp2, ev_cmp1, ev_not, ev_not1, ev_and, ev_and1, ev_or, ev_or1, ev_e, ev_e1, ev_cif, ev_cif1, ev_qlt, ev_qle, ev_qgt, ev_qge, ev_qeq, ev_qne, ev_skip, ev_brk, ev_cnt, ev_retv, ev_seq, ev_seq0, ev_seq1, ev_seq2, ev_seq3, ev_seqi, ev_sif, ev_sif1, ev_ret, ev_ret1, ev_retz, ev_retzb, ev_retzc, ev_retz1, ev_retc, ev_asg, ev_s0, ev_s1, ev_s2, ev_s3, ev_s4, ev_s5, ev_s6, ev_s7, ev_s8, ev_s9, ev_s10, ev_s11, ev_exp, ev_exp1, ev_pf, ev_pf2, ev_pf1, ev_pz, ev_pz2, ev_pz1, ev_of, ev_of2, ev_of1, ev_st, ev_as, ev_as3, ev_as2, ev_as1, ev_oa, ev_oa3, ev_oa2, ev_oa1, ev_oa0, ev_cp, ev_cp3, ev_cp2, ev_cp1, ev_sw, ev_sw1, ev_swb0, ev_swb1, ev_swb3, ev_swbi, ev_fin3, ev_fin0, ev_fini, ev_iv, ev_ic, ev_b1, ev_b2, ev_b3, ev_b4, ev_b5, ev_b6, ev_or12, ev_lp, ev_lc, ev_lb0, ev_lb1, ev_lb2, ev_lb3, ev_lbi, ev_lu, ev_ass]
  · rfl
  · intro i h0 h1
    have e := cell_4 h (p := i) (j := 1) ⟨h0, h1, by decide, by decide⟩
    have t := s11_withBit (x := bI (homeS σ pl) i) (p := i) (σ 92 (7 * i + 1) = pl) 12 (by omega) (bI_le _ _ 12 (by omega)) σ
    simp only [ev_op, ev_op2, ev_op1, ev_dv, ev_dv2, ev_dv1, ev_un, ev_un1, ev_lit, ev_l0, ev_l1, ev_l2, ev_l3, ev_l4, ev_l5, ev_l6, ev_l7, ev_l8, ev_l9, ev_l10, ev_l11, ev_rf, ev_gi, ev_gi1, ev_gi2, ev_gr, ev_gr1, ev_at0, ev_at, ev_al, ev_al2, ev_al1, ev_an, ev_an1, ev_vs0, ev_vs, ev_vs2, ev_vs1, ev_ca, ev_ca1, ev_cv, ev_cv1, ev_cv2, ev_if, ev_if1, ev_cmp, ev_cmp2, ev_cmp1, ev_not, ev_not1, ev_and, ev_and1, ev_or, ev_or1, ev_e, ev_e1, ev_cif, ev_cif1, ev_qlt, ev_qle, ev_qgt, ev_qge, ev_qeq, ev_qne, ev_skip, ev_brk, ev_cnt, ev_retv, ev_seq, ev_seq0, ev_seq1, ev_seq2, ev_seq3, ev_seqi, ev_sif, ev_sif1, ev_ret, ev_ret1, ev_retz, ev_retzb, ev_retzc, ev_retz1, ev_retc, ev_asg, ev_s0, ev_s1, ev_s2, ev_s3, ev_s4, ev_s5, ev_s6, ev_s7, ev_s8, ev_s9, ev_s10, ev_s11, ev_exp, ev_exp1, ev_pf, ev_pf2, ev_pf1, ev_pz, ev_pz2, ev_pz1, ev_of, ev_of2, ev_of1, ev_st, ev_as, ev_as3, ev_as2, ev_as1, ev_oa, ev_oa3, ev_oa2, ev_oa1, ev_oa0, ev_cp, ev_cp3, ev_cp2, ev_cp1, ev_sw, ev_sw1, ev_swb0, ev_swb1, ev_swb3, ev_swbi, ev_fin3, ev_fin0, ev_fini, ev_iv, ev_ic, ev_b1, ev_b2, ev_b3, ev_b4, ev_b5, ev_b6, ev_or12, ev_lp, ev_lc, ev_lb0, ev_lb1, ev_lb2, ev_lb3, ev_lbi, ev_lu, ev_ass, Int.reduceAdd, Int.reduceSub, Int.reduceMul, Int.reduceNeg, Int.reduceLT, Int.reduceLE, Int.reduceGT, Int.reduceGE, Int.reduceEq, Int.reduceNe, Int.reduceDiv, Int.reduceMod, Int.reduceToNat, Nat.reduceAdd, Nat.reduceMul, Nat.reduceSub, Nat.reduceLT, Nat.reduceEqDiff, Int.reduceNatCast', reduceIte, ite_true, ite_false, if_true, if_false, decide_eq_true_eq, decide_true, decide_false, decide_not, Bool.not_eq_true', decide_eq_false_iff_not, Bool.not_not, Bool.and_eq_true, Bool.or_eq_true, Bool.not_true, Bool.not_false, not_true_eq_false, not_false_eq_true, true_and, and_true, false_and, and_false, true_or, or_true, false_or, or_false, Bool.true_and, Bool.and_true, Bool.false_and, Bool.and_false, Bool.true_or, Bool.or_true, Bool.or_false, Bool.false_or, Bool.not_eq_false', Bool.true_eq_false, Bool.false_eq_true, eq_self, Classical.not_not, ite_not, ne_eq, Option.some.injEq, Prod.mk.injEq, L_1, L_4, c.1, h1, e, t]
    rw [show decide (σ 92 (7 * i + 1) = pl) = homeS σ pl i from rfl, bI_xw _ h0, n_add (by omega)]
  · have q : ¬ σ 88 2 < σ 88 2 := by omega
    simp only [ev_op, ev_op2, ev_op1, ev_dv, ev_dv2, ev_dv1, ev_un, ev_un1, ev_lit, ev_l0, ev_l1, ev_l2, ev_l3, ev_l4, ev_l5, ev_l6, ev_l7, ev_l8, ev_l9, ev_l10, ev_l11, ev_rf, ev_gi, ev_gi1, ev_gi2, ev_gr, ev_gr1, ev_at0, ev_at, ev_al, ev_al2, ev_al1, ev_an, ev_an1, ev_vs0, ev_vs, ev_vs2, ev_vs1, ev_ca, ev_ca1, ev_cv, ev_cv1, ev_cv2, ev_if, ev_if1, ev_cmp, ev_cmp2, ev_cmp1, ev_not, ev_not1, ev_and, ev_and1, ev_or, ev_or1, ev_e, ev_e1, ev_cif, ev_cif1, ev_qlt, ev_qle, ev_qgt, ev_qge, ev_qeq, ev_qne, ev_skip, ev_brk, ev_cnt, ev_retv, ev_seq, ev_seq0, ev_seq1, ev_seq2, ev_seq3, ev_seqi, ev_sif, ev_sif1, ev_ret, ev_ret1, ev_retz, ev_retzb, ev_retzc, ev_retz1, ev_retc, ev_asg, ev_s0, ev_s1, ev_s2, ev_s3, ev_s4, ev_s5, ev_s6, ev_s7, ev_s8, ev_s9, ev_s10, ev_s11, ev_exp, ev_exp1, ev_pf, ev_pf2, ev_pf1, ev_pz, ev_pz2, ev_pz1, ev_of, ev_of2, ev_of1, ev_st, ev_as, ev_as3, ev_as2, ev_as1, ev_oa, ev_oa3, ev_oa2, ev_oa1, ev_oa0, ev_cp, ev_cp3, ev_cp2, ev_cp1, ev_sw, ev_sw1, ev_swb0, ev_swb1, ev_swb3, ev_swbi, ev_fin3, ev_fin0, ev_fini, ev_iv, ev_ic, ev_b1, ev_b2, ev_b3, ev_b4, ev_b5, ev_b6, ev_or12, ev_lp, ev_lc, ev_lb0, ev_lb1, ev_lb2, ev_lb3, ev_lbi, ev_lu, ev_ass, Int.reduceAdd, Int.reduceSub, Int.reduceMul, Int.reduceNeg, Int.reduceLT, Int.reduceLE, Int.reduceGT, Int.reduceGE, Int.reduceEq, Int.reduceNe, Int.reduceDiv, Int.reduceMod, Int.reduceToNat, Nat.reduceAdd, Nat.reduceMul, Nat.reduceSub, Nat.reduceLT, Nat.reduceEqDiff, Int.reduceNatCast', reduceIte, ite_true, ite_false, if_true, if_false, decide_eq_true_eq, decide_true, decide_false, decide_not, Bool.not_eq_true', decide_eq_false_iff_not, Bool.not_not, Bool.and_eq_true, Bool.or_eq_true, Bool.not_true, Bool.not_false, not_true_eq_false, not_false_eq_true, true_and, and_true, false_and, and_false, true_or, or_true, false_or, or_false, Bool.true_and, Bool.and_true, Bool.false_and, Bool.and_false, Bool.true_or, Bool.or_true, Bool.or_false, Bool.false_or, Bool.not_eq_false', Bool.true_eq_false, Bool.false_eq_true, eq_self, Classical.not_not, ite_not, ne_eq, Option.some.injEq, Prod.mk.injEq, L_1, L_4, c.1, q]
/-- RIDERS of a place -/
def ridS (σ : cvM) (pl : Int) : Int → Bool := fun p => decide (σ 92 (7 * p + 1) = pl) && decide (σ 92 (7 * p + 5) = 0)
theorem i_not {x y : Int} (hx : 0 ≤ x ∧ x < 2147483648) (hy : 0 ≤ y ∧ y < 2147483648) : oand x (oxor y (-1)) = ((x.toNat ^^^ (x.toNat &&& y.toNat) : Nat) : Int) := by
  have := n_not (a := x.toNat) (b := y.toNat) (by omega) (by omega)
  rw [Int.toNat_of_nonneg hx.1, Int.toNat_of_nonneg hy.1] at this
  exact this
theorem tb_not {x y i : Int} (hx : 0 ≤ x ∧ x < 2147483648) (hy : 0 ≤ y ∧ y < 2147483648) : tb (oand x (oxor y (-1))) i = (tb x i && !(tb y i)) := by
  rw [i_not hx hy]
  unfold tb
  rw [Int.toNat_natCast, Nat.testBit_xor, Nat.testBit_and]
  cases x.toNat.testBit i.toNat <;> cases y.toNat.testBit i.toNat <;> rfl
theorem i_andN {x y : Int} (hx : 0 ≤ x ∧ x < 2147483648) (hy : 0 ≤ y ∧ y < 2147483648) : oand x y = ((x.toNat &&& y.toNat : Nat) : Int) := by
  have := n_and (a := x.toNat) (b := y.toNat) (by omega) (by omega)
  rw [Int.toNat_of_nonneg hx.1, Int.toNat_of_nonneg hy.1] at this
  exact this
theorem tb_and {x y i : Int} (hx : 0 ≤ x ∧ x < 2147483648) (hy : 0 ≤ y ∧ y < 2147483648) : tb (oand x y) i = (tb x i && tb y i) := by
  rw [i_andN hx hy]
  unfold tb
  rw [Int.toNat_natCast, Nat.testBit_and]
theorem s10_ridersOf {σ : cvM} (h : WR σ) (pl : Int) : f10_ridersOf [1, pl] σ = some (bI (ridS σ pl) (σ 88 2), σ) := by
  have c := cnt_4 h
  have hw := h.wA.2.2.2.2.2.1
  have b1 := bI_le (homeS σ pl) (σ 88 2) 12 (by omega)
  have b2 := bI_le (fun p => decide (σ 92 (7 * p + 5) = 1)) (σ 88 2) 12 (by omega)
  have k : ((2 ^ 12 : Nat) : Int) = 4096 := rfl
  rw [k] at b1 b2
  have e : oand (bI (homeS σ pl) (σ 88 2)) (oxor (σ 1 11) (-1)) = bI (ridS σ pl) (σ 88 2) := by
    rw [hw]
    have p1 : 0 ≤ bI (homeS σ pl) (σ 88 2) ∧ bI (homeS σ pl) (σ 88 2) < 2147483648 := by omega
    have p2 : 0 ≤ bI (fun p => decide (σ 92 (7 * p + 5) = 1)) (σ 88 2) ∧ bI (fun p => decide (σ 92 (7 * p + 5) = 1)) (σ 88 2) < 2147483648 := by omega
    refine tb_ext ?_ (bI_lt _ _).1 fun i hi => ?_
    · rw [i_not p1 p2]; omega
    · rw [tb_not p1 p2, tb_bI _ _ hi, tb_bI _ _ hi, tb_bI _ _ hi]
      by_cases hn : i < σ 88 2
      · have r := h.rQ i hi hn
        rw [decide_eq_true hn]
        unfold homeS ridS
        have : decide (σ 92 (7 * i + 5) = 0) = !(decide (σ 92 (7 * i + 5) = 1)) := by
          by_cases q : σ 92 (7 * i + 5) = 1
          · rw [q]; rfl
          · rw [decide_eq_false q, decide_eq_true (by omega)]; rfl
        rw [this]
        cases decide (σ 92 (7 * i + 1) = pl) <;> cases decide (σ 92 (7 * i + 5) = 1) <;> rfl
      · rw [decide_eq_false hn]; rfl
  simp only [u10_ridersOf, b10_ridersOf, s10_personsOf h, ev_op, ev_op2, ev_op1, ev_dv, ev_dv2, ev_dv1, ev_un, ev_un1, ev_lit, ev_l0, ev_l1, ev_l2, ev_l3, ev_l4, ev_l5, ev_l6, ev_l7, ev_l8, ev_l9, ev_l10, ev_l11, ev_rf, ev_gi, ev_gi1, ev_gi2, ev_gr, ev_gr1, ev_at0, ev_at, ev_al, ev_al2, ev_al1, ev_an, ev_an1, ev_vs0, ev_vs, ev_vs2, ev_vs1, ev_ca, ev_ca1, ev_cv, ev_cv1, ev_cv2, ev_if, ev_if1, ev_cmp, ev_cmp2, ev_cmp1, ev_not, ev_not1, ev_and, ev_and1, ev_or, ev_or1, ev_e, ev_e1, ev_cif, ev_cif1, ev_qlt, ev_qle, ev_qgt, ev_qge, ev_qeq, ev_qne, ev_skip, ev_brk, ev_cnt, ev_retv, ev_seq, ev_seq0, ev_seq1, ev_seq2, ev_seq3, ev_seqi, ev_sif, ev_sif1, ev_ret, ev_ret1, ev_retz, ev_retzb, ev_retzc, ev_retz1, ev_retc, ev_asg, ev_s0, ev_s1, ev_s2, ev_s3, ev_s4, ev_s5, ev_s6, ev_s7, ev_s8, ev_s9, ev_s10, ev_s11, ev_exp, ev_exp1, ev_pf, ev_pf2, ev_pf1, ev_pz, ev_pz2, ev_pz1, ev_of, ev_of2, ev_of1, ev_st, ev_as, ev_as3, ev_as2, ev_as1, ev_oa, ev_oa3, ev_oa2, ev_oa1, ev_oa0, ev_cp, ev_cp3, ev_cp2, ev_cp1, ev_sw, ev_sw1, ev_swb0, ev_swb1, ev_swb3, ev_swbi, ev_fin3, ev_fin0, ev_fini, ev_iv, ev_ic, ev_b1, ev_b2, ev_b3, ev_b4, ev_b5, ev_b6, ev_or12, ev_lp, ev_lc, ev_lb0, ev_lb1, ev_lb2, ev_lb3, ev_lbi, ev_lu, ev_ass, Int.reduceAdd, Int.reduceSub, Int.reduceMul, Int.reduceNeg, Int.reduceLT, Int.reduceLE, Int.reduceGT, Int.reduceGE, Int.reduceEq, Int.reduceNe, Int.reduceDiv, Int.reduceMod, Int.reduceToNat, Nat.reduceAdd, Nat.reduceMul, Nat.reduceSub, Nat.reduceLT, Nat.reduceEqDiff, Int.reduceNatCast', reduceIte, ite_true, ite_false, if_true, if_false, decide_eq_true_eq, decide_true, decide_false, decide_not, Bool.not_eq_true', decide_eq_false_iff_not, Bool.not_not, Bool.and_eq_true, Bool.or_eq_true, Bool.not_true, Bool.not_false, not_true_eq_false, not_false_eq_true, true_and, and_true, false_and, and_false, true_or, or_true, false_or, or_false, Bool.true_and, Bool.and_true, Bool.false_and, Bool.and_false, Bool.true_or, Bool.or_true, Bool.or_false, Bool.false_or, Bool.not_eq_false', Bool.true_eq_false, Bool.false_eq_true, eq_self, Classical.not_not, ite_not, ne_eq, Option.some.injEq, Prod.mk.injEq, L_1, L_4, e]
/-- what a PERSON lacks at a place -/
def lackS (σ : cvM) (p pl : Int) : Int → Bool := fun t => decide (σ 97 (2 * t) = p) && decide (0 ≤ σ 97 (2 * t + 1)) && !(decide (σ 97 (2 * t + 1) = pl))
theorem s10_lackedBy {σ : cvM} (h : WR σ) (p pl : Int) : f10_lackedBy [1, p, pl] σ = some (bI (lackS σ p pl) (σ 88 6), σ) := by
  have c := cnt_8 h
  simp only [u10_lackedBy, b10_lackedBy, ev_op, ev_op2, ev_op1, ev_dv, ev_dv2, ev_dv1, ev_un, ev_un1, ev_lit, ev_l0, ev_l1, ev_l2, ev_l3, ev_l4, ev_l5, ev_l6, ev_l7, ev_l8, ev_l9, ev_l10, ev_l11, ev_rf, ev_gi, ev_gi1, ev_gi2, ev_gr, ev_gr1, ev_at0, ev_at, ev_al, ev_al2, ev_al1, ev_an, ev_an1, ev_vs0, ev_vs, ev_vs2, ev_vs1, ev_ca, ev_ca1, ev_cv, ev_cv1, ev_cv2, ev_if, ev_if1, ev_cmp, ev_cmp2, ev_cmp1, ev_not, ev_not1, ev_and, ev_and1, ev_or, ev_or1, ev_e, ev_e1, ev_cif, ev_cif1, ev_qlt, ev_qle, ev_qgt, ev_qge, ev_qeq, ev_qne, ev_skip, ev_brk, ev_cnt, ev_retv, ev_seq, ev_seq0, ev_seq1, ev_seq2, ev_seq3, ev_seqi, ev_sif, ev_sif1, ev_ret, ev_ret1, ev_retz, ev_retzb, ev_retzc, ev_retz1, ev_retc, ev_asg, ev_s0, ev_s1, ev_s2, ev_s3, ev_s4, ev_s5, ev_s6, ev_s7, ev_s8, ev_s9, ev_s10, ev_s11, ev_exp, ev_exp1, ev_pf, ev_pf2, ev_pf1, ev_pz, ev_pz2, ev_pz1, ev_of, ev_of2, ev_of1, ev_st, ev_as, ev_as3, ev_as2, ev_as1, ev_oa, ev_oa3, ev_oa2, ev_oa1, ev_oa0, ev_cp, ev_cp3, ev_cp2, ev_cp1, ev_sw, ev_sw1, ev_swb0, ev_swb1, ev_swb3, ev_swbi, ev_fin3, ev_fin0, ev_fini, ev_iv, ev_ic, ev_b1, ev_b2, ev_b3, ev_b4, ev_b5, ev_b6, ev_or12, ev_lp, ev_lc, ev_lb0, ev_lb1, ev_lb2, ev_lb3, ev_lbi, ev_lu, ev_ass, Int.reduceAdd, Int.reduceSub, Int.reduceMul, Int.reduceNeg, Int.reduceLT, Int.reduceLE, Int.reduceGT, Int.reduceGE, Int.reduceEq, Int.reduceNe, Int.reduceDiv, Int.reduceMod, Int.reduceToNat, Nat.reduceAdd, Nat.reduceMul, Nat.reduceSub, Nat.reduceLT, Nat.reduceEqDiff, Int.reduceNatCast', reduceIte, ite_true, ite_false, if_true, if_false, decide_eq_true_eq, decide_true, decide_false, decide_not, Bool.not_eq_true', decide_eq_false_iff_not, Bool.not_not, Bool.and_eq_true, Bool.or_eq_true, Bool.not_true, Bool.not_false, not_true_eq_false, not_false_eq_true, true_and, and_true, false_and, and_false, true_or, or_true, false_or, or_false, Bool.true_and, Bool.and_true, Bool.false_and, Bool.and_false, Bool.true_or, Bool.or_true, Bool.or_false, Bool.false_or, Bool.not_eq_false', Bool.true_eq_false, Bool.false_eq_true, eq_self, Classical.not_not, ite_not, ne_eq, Option.some.injEq, Prod.mk.injEq, L_1, L_8]
  rw [lp_I (fun i => ([some 1, some p, some pl, some (bI (lackS σ p pl) i), some i, if i = 0 then none else some (σ 97 (2 * (i - 1) + 1))], σ)) 0 (σ 88 6) (0, 0, [some 1, some p, some pl, some (bI (lackS σ p pl) (σ 88 6)), some (σ 88 6), if σ 88 6 = 0 then none else some (σ 97 (2 * (σ 88 6 - 1) + 1))], σ) c.2.1 ?_ ?_ ?_]
  · simp only [ev_op, ev_op2, ev_op1, ev_dv, ev_dv2, ev_dv1, ev_un, ev_un1, ev_lit, ev_l0, ev_l1, ev_l2, ev_l3, ev_l4, ev_l5, ev_l6, ev_l7, ev_l8, ev_l9, ev_l10, ev_l11, ev_rf, ev_gi, ev_gi1, ev_gi2, ev_gr, ev_gr1, ev_at0, ev_at, ev_al, ev_al2, ev_al1, ev_an, ev_an1, ev_vs0, ev_vs, ev_vs2, ev_vs1, ev_ca, ev_ca1, ev_cv, ev_cv1, ev_cv2, ev_if, ev_if1, ev_cmp, ev_cmp2, ev_cmp1, ev_not, ev_not1, ev_and, ev_and1, ev_or, ev_or1, ev_e, ev_e1, ev_cif, ev_cif1, ev_qlt, ev_qle, ev_qgt, ev_qge, ev_qeq, ev_qne, ev_skip, ev_brk, ev_cnt, ev_retv, ev_seq, ev_seq0, ev_seq1, ev_seq2, ev_seq3, ev_seqi, ev_sif, ev_sif1, ev_ret, ev_ret1, ev_retz, ev_retzb, ev_retzc, ev_retz1, ev_retc, ev_asg, ev_s0, ev_s1, ev_s2, ev_s3, ev_s4, ev_s5, ev_s6, ev_s7, ev_s8, ev_s9, ev_s10, ev_s11, ev_exp, ev_exp1, ev_pf, ev_pf2, ev_pf1, ev_pz, ev_pz2, ev_pz1, ev_of, ev_of2, ev_of1, ev_st, ev_as, ev_as3, ev_as2, ev_as1, ev_oa, ev_oa3, ev_oa2, ev_oa1, ev_oa0, ev_cp, ev_cp3, ev_cp2, ev_cp1, ev_sw, ev_sw1, ev_swb0, ev_swb1, ev_swb3, ev_swbi, ev_fin3, ev_fin0, ev_fini, ev_iv, ev_ic, ev_b1, ev_b2, ev_b3, ev_b4, ev_b5, ev_b6, ev_or12, ev_lp, ev_lc, ev_lb0, ev_lb1, ev_lb2, ev_lb3, ev_lbi, ev_lu, ev_ass]
  · rfl
  · intro i h0 h1
    have e0 := cell_8 h (p := i) (j := 0) ⟨h0, h1, by decide, by decide⟩
    have e1 := cell_8 h (p := i) (j := 1) ⟨h0, h1, by decide, by decide⟩
    rw [Int.add_zero] at e0
    have t := s11_withBit (x := bI (lackS σ p pl) i) (p := i) (lackS σ p pl i = true) 16 (by omega) (bI_le _ _ 16 (by omega)) σ
    have e2 : (if lackS σ p pl i = true then (1 : Int) else 0) = (if (σ 97 (2 * i) = p ∧ 0 ≤ σ 97 (2 * i + 1)) ∧ ¬ σ 97 (2 * i + 1) = pl then 1 else 0) := by
      unfold lackS
      simp only [Bool.and_eq_true, decide_eq_true_eq, Bool.not_eq_true', decide_eq_false_iff_not]
    rw [e2] at t
    simp only [ev_op, ev_op2, ev_op1, ev_dv, ev_dv2, ev_dv1, ev_un, ev_un1, ev_lit, ev_l0, ev_l1, ev_l2, ev_l3, ev_l4, ev_l5, ev_l6, ev_l7, ev_l8, ev_l9, ev_l10, ev_l11, ev_rf, ev_gi, ev_gi1, ev_gi2, ev_gr, ev_gr1, ev_at0, ev_at, ev_al, ev_al2, ev_al1, ev_an, ev_an1, ev_vs0, ev_vs, ev_vs2, ev_vs1, ev_ca, ev_ca1, ev_cv, ev_cv1, ev_cv2, ev_if, ev_if1, ev_cmp, ev_cmp2, ev_cmp1, ev_not, ev_not1, ev_and, ev_and1, ev_or, ev_or1, ev_e, ev_e1, ev_cif, ev_cif1, ev_qlt, ev_qle, ev_qgt, ev_qge, ev_qeq, ev_qne, ev_skip, ev_brk, ev_cnt, ev_retv, ev_seq, ev_seq0, ev_seq1, ev_seq2, ev_seq3, ev_seqi, ev_sif, ev_sif1, ev_ret, ev_ret1, ev_retz, ev_retzb, ev_retzc, ev_retz1, ev_retc, ev_asg, ev_s0, ev_s1, ev_s2, ev_s3, ev_s4, ev_s5, ev_s6, ev_s7, ev_s8, ev_s9, ev_s10, ev_s11, ev_exp, ev_exp1, ev_pf, ev_pf2, ev_pf1, ev_pz, ev_pz2, ev_pz1, ev_of, ev_of2, ev_of1, ev_st, ev_as, ev_as3, ev_as2, ev_as1, ev_oa, ev_oa3, ev_oa2, ev_oa1, ev_oa0, ev_cp, ev_cp3, ev_cp2, ev_cp1, ev_sw, ev_sw1, ev_swb0, ev_swb1, ev_swb3, ev_swbi, ev_fin3, ev_fin0, ev_fini, ev_iv, ev_ic, ev_b1, ev_b2, ev_b3, ev_b4, ev_b5, ev_b6, ev_or12, ev_lp, ev_lc, ev_lb0, ev_lb1, ev_lb2, ev_lb3, ev_lbi, ev_lu, ev_ass, Int.reduceAdd, Int.reduceSub, Int.reduceMul, Int.reduceNeg, Int.reduceLT, Int.reduceLE, Int.reduceGT, Int.reduceGE, Int.reduceEq, Int.reduceNe, Int.reduceDiv, Int.reduceMod, Int.reduceToNat, Nat.reduceAdd, Nat.reduceMul, Nat.reduceSub, Nat.reduceLT, Nat.reduceEqDiff, Int.reduceNatCast', reduceIte, ite_true, ite_false, if_true, if_false, decide_eq_true_eq, decide_true, decide_false, decide_not, Bool.not_eq_true', decide_eq_false_iff_not, Bool.not_not, Bool.and_eq_true, Bool.or_eq_true, Bool.not_true, Bool.not_false, not_true_eq_false, not_false_eq_true, true_and, and_true, false_and, and_false, true_or, or_true, false_or, or_false, Bool.true_and, Bool.and_true, Bool.false_and, Bool.and_false, Bool.true_or, Bool.or_true, Bool.or_false, Bool.false_or, Bool.not_eq_false', Bool.true_eq_false, Bool.false_eq_true, eq_self, Classical.not_not, ite_not, ne_eq, Option.some.injEq, Prod.mk.injEq, L_1, L_8, c.1, h1, e0, e1, t]
    rw [show decide (lackS σ p pl i = true) = lackS σ p pl i from by simp, bI_xw _ h0, n_add (by omega), if_neg (by omega), show i + 1 - 1 = i by omega]
  · have q : ¬ σ 88 6 < σ 88 6 := by omega
    simp only [ev_op, ev_op2, ev_op1, ev_dv, ev_dv2, ev_dv1, ev_un, ev_un1, ev_lit, ev_l0, ev_l1, ev_l2, ev_l3, ev_l4, ev_l5, ev_l6, ev_l7, ev_l8, ev_l9, ev_l10, ev_l11, ev_rf, ev_gi, ev_gi1, ev_gi2, ev_gr, ev_gr1, ev_at0, ev_at, ev_al, ev_al2, ev_al1, ev_an, ev_an1, ev_vs0, ev_vs, ev_vs2, ev_vs1, ev_ca, ev_ca1, ev_cv, ev_cv1, ev_cv2, ev_if, ev_if1, ev_cmp, ev_cmp2, ev_cmp1, ev_not, ev_not1, ev_and, ev_and1, ev_or, ev_or1, ev_e, ev_e1, ev_cif, ev_cif1, ev_qlt, ev_qle, ev_qgt, ev_qge, ev_qeq, ev_qne, ev_skip, ev_brk, ev_cnt, ev_retv, ev_seq, ev_seq0, ev_seq1, ev_seq2, ev_seq3, ev_seqi, ev_sif, ev_sif1, ev_ret, ev_ret1, ev_retz, ev_retzb, ev_retzc, ev_retz1, ev_retc, ev_asg, ev_s0, ev_s1, ev_s2, ev_s3, ev_s4, ev_s5, ev_s6, ev_s7, ev_s8, ev_s9, ev_s10, ev_s11, ev_exp, ev_exp1, ev_pf, ev_pf2, ev_pf1, ev_pz, ev_pz2, ev_pz1, ev_of, ev_of2, ev_of1, ev_st, ev_as, ev_as3, ev_as2, ev_as1, ev_oa, ev_oa3, ev_oa2, ev_oa1, ev_oa0, ev_cp, ev_cp3, ev_cp2, ev_cp1, ev_sw, ev_sw1, ev_swb0, ev_swb1, ev_swb3, ev_swbi, ev_fin3, ev_fin0, ev_fini, ev_iv, ev_ic, ev_b1, ev_b2, ev_b3, ev_b4, ev_b5, ev_b6, ev_or12, ev_lp, ev_lc, ev_lb0, ev_lb1, ev_lb2, ev_lb3, ev_lbi, ev_lu, ev_ass, Int.reduceAdd, Int.reduceSub, Int.reduceMul, Int.reduceNeg, Int.reduceLT, Int.reduceLE, Int.reduceGT, Int.reduceGE, Int.reduceEq, Int.reduceNe, Int.reduceDiv, Int.reduceMod, Int.reduceToNat, Nat.reduceAdd, Nat.reduceMul, Nat.reduceSub, Nat.reduceLT, Nat.reduceEqDiff, Int.reduceNatCast', reduceIte, ite_true, ite_false, if_true, if_false, decide_eq_true_eq, decide_true, decide_false, decide_not, Bool.not_eq_true', decide_eq_false_iff_not, Bool.not_not, Bool.and_eq_true, Bool.or_eq_true, Bool.not_true, Bool.not_false, not_true_eq_false, not_false_eq_true, true_and, and_true, false_and, and_false, true_or, or_true, false_or, or_false, Bool.true_and, Bool.and_true, Bool.false_and, Bool.and_false, Bool.true_or, Bool.or_true, Bool.or_false, Bool.false_or, Bool.not_eq_false', Bool.true_eq_false, Bool.false_eq_true, eq_self, Classical.not_not, ite_not, ne_eq, Option.some.injEq, Prod.mk.injEq, L_1, L_8, c.1, q]
theorem sJ_bitCount {x : Int} (h : 0 ≤ x ∧ x < 4096) (σ : cvM) : fJ_bitCount [x] σ = some (pcI x, σ) := by
  have e := bcJ_pc (x := x.toNat) (by omega)
  rw [Int.toNat_of_nonneg h.1] at e
  simp only [uJ_bitCount, bJ_bitCount, ev_op, ev_op2, ev_op1, ev_dv, ev_dv2, ev_dv1, ev_un, ev_un1, ev_lit, ev_l0, ev_l1, ev_l2, ev_l3, ev_l4, ev_l5, ev_l6, ev_l7, ev_l8, ev_l9, ev_l10, ev_l11, ev_rf, ev_gi, ev_gi1, ev_gi2, ev_gr, ev_gr1, ev_at0, ev_at, ev_al, ev_al2, ev_al1, ev_an, ev_an1, ev_vs0, ev_vs, ev_vs2, ev_vs1, ev_ca, ev_ca1, ev_cv, ev_cv1, ev_cv2, ev_if, ev_if1, ev_cmp, ev_cmp2, ev_cmp1, ev_not, ev_not1, ev_and, ev_and1, ev_or, ev_or1, ev_e, ev_e1, ev_cif, ev_cif1, ev_qlt, ev_qle, ev_qgt, ev_qge, ev_qeq, ev_qne, ev_skip, ev_brk, ev_cnt, ev_retv, ev_seq, ev_seq0, ev_seq1, ev_seq2, ev_seq3, ev_seqi, ev_sif, ev_sif1, ev_ret, ev_ret1, ev_retz, ev_retzb, ev_retzc, ev_retz1, ev_retc, ev_asg, ev_s0, ev_s1, ev_s2, ev_s3, ev_s4, ev_s5, ev_s6, ev_s7, ev_s8, ev_s9, ev_s10, ev_s11, ev_exp, ev_exp1, ev_pf, ev_pf2, ev_pf1, ev_pz, ev_pz2, ev_pz1, ev_of, ev_of2, ev_of1, ev_st, ev_as, ev_as3, ev_as2, ev_as1, ev_oa, ev_oa3, ev_oa2, ev_oa1, ev_oa0, ev_cp, ev_cp3, ev_cp2, ev_cp1, ev_sw, ev_sw1, ev_swb0, ev_swb1, ev_swb3, ev_swbi, ev_fin3, ev_fin0, ev_fini, ev_iv, ev_ic, ev_b1, ev_b2, ev_b3, ev_b4, ev_b5, ev_b6, ev_or12, ev_lp, ev_lc, ev_lb0, ev_lb1, ev_lb2, ev_lb3, ev_lbi, ev_lu, ev_ass, Int.reduceAdd, Int.reduceSub, Int.reduceMul, Int.reduceNeg, Int.reduceLT, Int.reduceLE, Int.reduceGT, Int.reduceGE, Int.reduceEq, Int.reduceNe, Int.reduceDiv, Int.reduceMod, Int.reduceToNat, Nat.reduceAdd, Nat.reduceMul, Nat.reduceSub, Nat.reduceLT, Nat.reduceEqDiff, Int.reduceNatCast', reduceIte, ite_true, ite_false, if_true, if_false, decide_eq_true_eq, decide_true, decide_false, decide_not, Bool.not_eq_true', decide_eq_false_iff_not, Bool.not_not, Bool.and_eq_true, Bool.or_eq_true, Bool.not_true, Bool.not_false, not_true_eq_false, not_false_eq_true, true_and, and_true, false_and, and_false, true_or, or_true, false_or, or_false, Bool.true_and, Bool.and_true, Bool.false_and, Bool.and_false, Bool.true_or, Bool.or_true, Bool.or_false, Bool.false_or, Bool.not_eq_false', Bool.true_eq_false, Bool.false_eq_true, eq_self, Classical.not_not, ite_not, ne_eq, Option.some.injEq, Prod.mk.injEq]
  rw [show pcI x = bcJ x from e.symm]
  rfl
