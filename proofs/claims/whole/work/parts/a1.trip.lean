/-! ===== the trip: what it is made of (class) ===== -/
/-- the DELAYS of a VAN up to a minute, as a set -/
def dlP (σ : cvM) (v t d : Int) : Bool := decide (σ 95 (4 * d) = v) && decide (σ 95 (4 * d + 1) ≤ t)
def dlS (σ : cvM) (v t : Int) : Int := bI (dlP σ v t) (σ 88 4)
/-- the minutes of a set of DELAYS -/
def dlM (σ : cvM) (x n : Int) : Int := itI (fun d a => a + if tb x d = true then σ 95 (4 * d + 3) else 0) 0 n
theorem dlS_lt {σ : cvM} (h : WR σ) (v t : Int) : 0 ≤ dlS σ v t ∧ dlS σ v t < 256 := by
  have c := cnt_6 h
  exact bI_le _ _ 8 (by omega)
theorem dlM_bd {σ : cvM} (h : WR σ) (x : Int) {n : Int} (hn : 0 ≤ n ∧ n ≤ σ 88 4) : 0 ≤ dlM σ x n ∧ dlM σ x n ≤ 240 * n := by
  refine itI_inv (fun i a => 0 ≤ a ∧ a ≤ 240 * i) hn.1 (by omega) fun i a i0 i1 g => ?_
  have := h.rD i i0 (by omega)
  show 0 ≤ a + (if tb x i = true then σ 95 (4 * i + 3) else 0) ∧ a + (if tb x i = true then σ 95 (4 * i + 3) else 0) ≤ 240 * (i + 1)
  split <;> omega
theorem s9_lostBy {σ : cvM} (h : WR σ) (t : Int) : f9_lostBy [39, t] σ = some (dlS σ (σ 39 4) t, σ) := by
  have c := cnt_6 h
  simp only [u9_lostBy, b9_lostBy, ev_op, ev_op2, ev_op1, ev_dv, ev_dv2, ev_dv1, ev_un, ev_un1, ev_lit, ev_l0, ev_l1, ev_l2, ev_l3, ev_l4, ev_l5, ev_l6, ev_l7, ev_l8, ev_l9, ev_l10, ev_l11, ev_rf, ev_gi, ev_gi1, ev_gi2, ev_gr, ev_gr1, ev_at0, ev_at, ev_al, ev_al2, ev_al1, ev_an, ev_an1, ev_vs0, ev_vs, ev_vs2, ev_vs1, ev_ca, ev_ca1, ev_cv, ev_cv1, ev_cv2, ev_if, ev_if1, ev_cmp, ev_cmp2, ev_cmp1, ev_not, ev_not1, ev_and, ev_and1, ev_or, ev_or1, ev_e, ev_e1, ev_cif, ev_cif1, ev_qlt, ev_qle, ev_qgt, ev_qge, ev_qeq, ev_qne, ev_skip, ev_brk, ev_cnt, ev_retv, ev_seq, ev_seq0, ev_seq1, ev_seq2, ev_seq3, ev_seqi, ev_sif, ev_sif1, ev_ret, ev_ret1, ev_retz, ev_retzb, ev_retzc, ev_retz1, ev_retc, ev_asg, ev_s0, ev_s1, ev_s2, ev_s3, ev_s4, ev_s5, ev_s6, ev_s7, ev_s8, ev_s9, ev_s10, ev_s11, ev_exp, ev_exp1, ev_pf, ev_pf2, ev_pf1, ev_pz, ev_pz2, ev_pz1, ev_of, ev_of2, ev_of1, ev_st, ev_as, ev_as3, ev_as2, ev_as1, ev_oa, ev_oa3, ev_oa2, ev_oa1, ev_oa0, ev_cp, ev_cp3, ev_cp2, ev_cp1, ev_sw, ev_sw1, ev_swb0, ev_swb1, ev_swb3, ev_swbi, ev_fin3, ev_fin0, ev_fini, ev_iv, ev_ic, ev_b1, ev_b2, ev_b3, ev_b4, ev_b5, ev_b6, ev_or12, ev_lp, ev_lc, ev_lb0, ev_lb1, ev_lb2, ev_lb3, ev_lbi, ev_lu, ev_ass, Int.reduceAdd, Int.reduceSub, Int.reduceMul, Int.reduceNeg, Int.reduceLT, Int.reduceLE, Int.reduceGT, Int.reduceGE, Int.reduceEq, Int.reduceNe, Int.reduceDiv, Int.reduceMod, Int.reduceToNat, Nat.reduceAdd, Nat.reduceMul, Nat.reduceSub, Nat.reduceLT, Nat.reduceEqDiff, Int.reduceNatCast', reduceIte, ite_true, ite_false, if_true, if_false, decide_eq_true_eq, decide_true, decide_false, decide_not, Bool.not_eq_true', decide_eq_false_iff_not, Bool.not_not, Bool.and_eq_true, Bool.or_eq_true, Bool.not_true, Bool.not_false, not_true_eq_false, not_false_eq_true, true_and, and_true, false_and, and_false, true_or, or_true, false_or, or_false, Bool.true_and, Bool.and_true, Bool.false_and, Bool.and_false, Bool.true_or, Bool.or_true, Bool.or_false, Bool.false_or, Bool.not_eq_false', Bool.true_eq_false, Bool.false_eq_true, eq_self, Classical.not_not, ite_not, ne_eq, Option.some.injEq, Prod.mk.injEq, L_1, L_6, L_39]
  unfold dlS
  rw [lp_I (fun i => ([some 39, some t, some (bI (dlP σ (σ 39 4) t) i), some i, if i = 0 then none else some (if dlP σ (σ 39 4) t (i - 1) = true then 1 else 0)], σ)) 0 (σ 88 4) (0, 0, [some 39, some t, some (bI (dlP σ (σ 39 4) t) (σ 88 4)), some (σ 88 4), if σ 88 4 = 0 then none else some (if dlP σ (σ 39 4) t (σ 88 4 - 1) = true then 1 else 0)], σ) c.2.1 ?_ ?_ ?_]
  · simp only [ev_op, ev_op2, ev_op1, ev_dv, ev_dv2, ev_dv1, ev_un, ev_un1, ev_lit, ev_l0, ev_l1, ev_l2, ev_l3, ev_l4, ev_l5, ev_l6, ev_l7, ev_l8, ev_l9, ev_l10, ev_l11, ev_rf, ev_gi, ev_gi1, ev_gi2, ev_gr, ev_gr1, ev_at0, ev_at, ev_al, ev_al2, ev_al1, ev_an, ev_an1, ev_vs0, ev_vs, ev_vs2, ev_vs1, ev_ca, ev_ca1, ev_cv, ev_cv1, ev_cv2, ev_if, ev_if1, ev_cmp, ev_cmp2, ev_cmp1, ev_not, ev_not1, ev_and, ev_and1, ev_or, ev_or1, ev_e, ev_e1, ev_cif, ev_cif1, ev_qlt, ev_qle, ev_qgt, ev_qge, ev_qeq, ev_qne, ev_skip, ev_brk, ev_cnt, ev_retv, ev_seq, ev_seq0, ev_seq1, ev_seq2, ev_seq3, ev_seqi, ev_sif, ev_sif1, ev_ret, ev_ret1, ev_retz, ev_retzb, ev_retzc, ev_retz1, ev_retc, ev_asg, ev_s0, ev_s1, ev_s2, ev_s3, ev_s4, ev_s5, ev_s6, ev_s7, ev_s8, ev_s9, ev_s10, ev_s11, ev_exp, ev_exp1, ev_pf, ev_pf2, ev_pf1, ev_pz, ev_pz2, ev_pz1, ev_of, ev_of2, ev_of1, ev_st, ev_as, ev_as3, ev_as2, ev_as1, ev_oa, ev_oa3, ev_oa2, ev_oa1, ev_oa0, ev_cp, ev_cp3, ev_cp2, ev_cp1, ev_sw, ev_sw1, ev_swb0, ev_swb1, ev_swb3, ev_swbi, ev_fin3, ev_fin0, ev_fini, ev_iv, ev_ic, ev_b1, ev_b2, ev_b3, ev_b4, ev_b5, ev_b6, ev_or12, ev_lp, ev_lc, ev_lb0, ev_lb1, ev_lb2, ev_lb3, ev_lbi, ev_lu, ev_ass]
  · rfl
  · intro i h0 h1
    have e0 := cell_6 h (p := i) (j := 0) ⟨h0, h1, by decide, by decide⟩
    have e1 := cell_6 h (p := i) (j := 1) ⟨h0, h1, by decide, by decide⟩
    rw [Int.add_zero] at e0
    have w := s11_withBit (x := bI (dlP σ (σ 39 4) t) i) (p := i) (dlP σ (σ 39 4) t i = true) 8 (by omega) (bI_le _ _ 8 (by omega)) σ
    have e2 : (if σ 95 (4 * i) = σ 39 4 ∧ σ 95 (4 * i + 1) ≤ t then (1 : Int) else 0) = if dlP σ (σ 39 4) t i = true then 1 else 0 := by
      unfold dlP
      simp only [Bool.and_eq_true, decide_eq_true_eq]
    rw [if_neg (show ¬ i + 1 = 0 by omega), show i + 1 - 1 = i by omega]
    simp only [ev_op, ev_op2, ev_op1, ev_dv, ev_dv2, ev_dv1, ev_un, ev_un1, ev_lit, ev_l0, ev_l1, ev_l2, ev_l3, ev_l4, ev_l5, ev_l6, ev_l7, ev_l8, ev_l9, ev_l10, ev_l11, ev_rf, ev_gi, ev_gi1, ev_gi2, ev_gr, ev_gr1, ev_at0, ev_at, ev_al, ev_al2, ev_al1, ev_an, ev_an1, ev_vs0, ev_vs, ev_vs2, ev_vs1, ev_ca, ev_ca1, ev_cv, ev_cv1, ev_cv2, ev_if, ev_if1, ev_cmp, ev_cmp2, ev_cmp1, ev_not, ev_not1, ev_and, ev_and1, ev_or, ev_or1, ev_e, ev_e1, ev_cif, ev_cif1, ev_qlt, ev_qle, ev_qgt, ev_qge, ev_qeq, ev_qne, ev_skip, ev_brk, ev_cnt, ev_retv, ev_seq, ev_seq0, ev_seq1, ev_seq2, ev_seq3, ev_seqi, ev_sif, ev_sif1, ev_ret, ev_ret1, ev_retz, ev_retzb, ev_retzc, ev_retz1, ev_retc, ev_asg, ev_s0, ev_s1, ev_s2, ev_s3, ev_s4, ev_s5, ev_s6, ev_s7, ev_s8, ev_s9, ev_s10, ev_s11, ev_exp, ev_exp1, ev_pf, ev_pf2, ev_pf1, ev_pz, ev_pz2, ev_pz1, ev_of, ev_of2, ev_of1, ev_st, ev_as, ev_as3, ev_as2, ev_as1, ev_oa, ev_oa3, ev_oa2, ev_oa1, ev_oa0, ev_cp, ev_cp3, ev_cp2, ev_cp1, ev_sw, ev_sw1, ev_swb0, ev_swb1, ev_swb3, ev_swbi, ev_fin3, ev_fin0, ev_fini, ev_iv, ev_ic, ev_b1, ev_b2, ev_b3, ev_b4, ev_b5, ev_b6, ev_or12, ev_lp, ev_lc, ev_lb0, ev_lb1, ev_lb2, ev_lb3, ev_lbi, ev_lu, ev_ass, Int.reduceAdd, Int.reduceSub, Int.reduceMul, Int.reduceNeg, Int.reduceLT, Int.reduceLE, Int.reduceGT, Int.reduceGE, Int.reduceEq, Int.reduceNe, Int.reduceDiv, Int.reduceMod, Int.reduceToNat, Nat.reduceAdd, Nat.reduceMul, Nat.reduceSub, Nat.reduceLT, Nat.reduceEqDiff, Int.reduceNatCast', reduceIte, ite_true, ite_false, if_true, if_false, decide_eq_true_eq, decide_true, decide_false, decide_not, Bool.not_eq_true', decide_eq_false_iff_not, Bool.not_not, Bool.and_eq_true, Bool.or_eq_true, Bool.not_true, Bool.not_false, not_true_eq_false, not_false_eq_true, true_and, and_true, false_and, and_false, true_or, or_true, false_or, or_false, Bool.true_and, Bool.and_true, Bool.false_and, Bool.and_false, Bool.true_or, Bool.or_true, Bool.or_false, Bool.false_or, Bool.not_eq_false', Bool.true_eq_false, Bool.false_eq_true, eq_self, Classical.not_not, ite_not, ne_eq, Option.some.injEq, Prod.mk.injEq, L_1, L_6, L_39, c.1, h1, e0, e1, e2, w]
    rw [show decide (dlP σ (σ 39 4) t i = true) = dlP σ (σ 39 4) t i from by simp, bI_xw _ h0, n_add (by omega)]
  · have q : ¬ σ 88 4 < σ 88 4 := by omega
    simp only [ev_op, ev_op2, ev_op1, ev_dv, ev_dv2, ev_dv1, ev_un, ev_un1, ev_lit, ev_l0, ev_l1, ev_l2, ev_l3, ev_l4, ev_l5, ev_l6, ev_l7, ev_l8, ev_l9, ev_l10, ev_l11, ev_rf, ev_gi, ev_gi1, ev_gi2, ev_gr, ev_gr1, ev_at0, ev_at, ev_al, ev_al2, ev_al1, ev_an, ev_an1, ev_vs0, ev_vs, ev_vs2, ev_vs1, ev_ca, ev_ca1, ev_cv, ev_cv1, ev_cv2, ev_if, ev_if1, ev_cmp, ev_cmp2, ev_cmp1, ev_not, ev_not1, ev_and, ev_and1, ev_or, ev_or1, ev_e, ev_e1, ev_cif, ev_cif1, ev_qlt, ev_qle, ev_qgt, ev_qge, ev_qeq, ev_qne, ev_skip, ev_brk, ev_cnt, ev_retv, ev_seq, ev_seq0, ev_seq1, ev_seq2, ev_seq3, ev_seqi, ev_sif, ev_sif1, ev_ret, ev_ret1, ev_retz, ev_retzb, ev_retzc, ev_retz1, ev_retc, ev_asg, ev_s0, ev_s1, ev_s2, ev_s3, ev_s4, ev_s5, ev_s6, ev_s7, ev_s8, ev_s9, ev_s10, ev_s11, ev_exp, ev_exp1, ev_pf, ev_pf2, ev_pf1, ev_pz, ev_pz2, ev_pz1, ev_of, ev_of2, ev_of1, ev_st, ev_as, ev_as3, ev_as2, ev_as1, ev_oa, ev_oa3, ev_oa2, ev_oa1, ev_oa0, ev_cp, ev_cp3, ev_cp2, ev_cp1, ev_sw, ev_sw1, ev_swb0, ev_swb1, ev_swb3, ev_swbi, ev_fin3, ev_fin0, ev_fini, ev_iv, ev_ic, ev_b1, ev_b2, ev_b3, ev_b4, ev_b5, ev_b6, ev_or12, ev_lp, ev_lc, ev_lb0, ev_lb1, ev_lb2, ev_lb3, ev_lbi, ev_lu, ev_ass, Int.reduceAdd, Int.reduceSub, Int.reduceMul, Int.reduceNeg, Int.reduceLT, Int.reduceLE, Int.reduceGT, Int.reduceGE, Int.reduceEq, Int.reduceNe, Int.reduceDiv, Int.reduceMod, Int.reduceToNat, Nat.reduceAdd, Nat.reduceMul, Nat.reduceSub, Nat.reduceLT, Nat.reduceEqDiff, Int.reduceNatCast', reduceIte, ite_true, ite_false, if_true, if_false, decide_eq_true_eq, decide_true, decide_false, decide_not, Bool.not_eq_true', decide_eq_false_iff_not, Bool.not_not, Bool.and_eq_true, Bool.or_eq_true, Bool.not_true, Bool.not_false, not_true_eq_false, not_false_eq_true, true_and, and_true, false_and, and_false, true_or, or_true, false_or, or_false, Bool.true_and, Bool.and_true, Bool.false_and, Bool.and_false, Bool.true_or, Bool.or_true, Bool.or_false, Bool.false_or, Bool.not_eq_false', Bool.true_eq_false, Bool.false_eq_true, eq_self, Classical.not_not, ite_not, ne_eq, Option.some.injEq, Prod.mk.injEq, L_1, L_6, L_39, c.1, q]
theorem s9_lostMinutes {σ : cvM} (h : WR σ) {x : Int} (hx : 0 ≤ x ∧ x < 2147483648) : f9_lostMinutes [39, x] σ = some (dlM σ x (σ 88 4), σ) := by
  have c := cnt_6 h
  simp only [u9_lostMinutes, b9_lostMinutes, ev_op, ev_op2, ev_op1, ev_dv, ev_dv2, ev_dv1, ev_un, ev_un1, ev_lit, ev_l0, ev_l1, ev_l2, ev_l3, ev_l4, ev_l5, ev_l6, ev_l7, ev_l8, ev_l9, ev_l10, ev_l11, ev_rf, ev_gi, ev_gi1, ev_gi2, ev_gr, ev_gr1, ev_at0, ev_at, ev_al, ev_al2, ev_al1, ev_an, ev_an1, ev_vs0, ev_vs, ev_vs2, ev_vs1, ev_ca, ev_ca1, ev_cv, ev_cv1, ev_cv2, ev_if, ev_if1, ev_cmp, ev_cmp2, ev_cmp1, ev_not, ev_not1, ev_and, ev_and1, ev_or, ev_or1, ev_e, ev_e1, ev_cif, ev_cif1, ev_qlt, ev_qle, ev_qgt, ev_qge, ev_qeq, ev_qne, ev_skip, ev_brk, ev_cnt, ev_retv, ev_seq, ev_seq0, ev_seq1, ev_seq2, ev_seq3, ev_seqi, ev_sif, ev_sif1, ev_ret, ev_ret1, ev_retz, ev_retzb, ev_retzc, ev_retz1, ev_retc, ev_asg, ev_s0, ev_s1, ev_s2, ev_s3, ev_s4, ev_s5, ev_s6, ev_s7, ev_s8, ev_s9, ev_s10, ev_s11, ev_exp, ev_exp1, ev_pf, ev_pf2, ev_pf1, ev_pz, ev_pz2, ev_pz1, ev_of, ev_of2, ev_of1, ev_st, ev_as, ev_as3, ev_as2, ev_as1, ev_oa, ev_oa3, ev_oa2, ev_oa1, ev_oa0, ev_cp, ev_cp3, ev_cp2, ev_cp1, ev_sw, ev_sw1, ev_swb0, ev_swb1, ev_swb3, ev_swbi, ev_fin3, ev_fin0, ev_fini, ev_iv, ev_ic, ev_b1, ev_b2, ev_b3, ev_b4, ev_b5, ev_b6, ev_or12, ev_lp, ev_lc, ev_lb0, ev_lb1, ev_lb2, ev_lb3, ev_lbi, ev_lu, ev_ass, Int.reduceAdd, Int.reduceSub, Int.reduceMul, Int.reduceNeg, Int.reduceLT, Int.reduceLE, Int.reduceGT, Int.reduceGE, Int.reduceEq, Int.reduceNe, Int.reduceDiv, Int.reduceMod, Int.reduceToNat, Nat.reduceAdd, Nat.reduceMul, Nat.reduceSub, Nat.reduceLT, Nat.reduceEqDiff, Int.reduceNatCast', reduceIte, ite_true, ite_false, if_true, if_false, decide_eq_true_eq, decide_true, decide_false, decide_not, Bool.not_eq_true', decide_eq_false_iff_not, Bool.not_not, Bool.and_eq_true, Bool.or_eq_true, Bool.not_true, Bool.not_false, not_true_eq_false, not_false_eq_true, true_and, and_true, false_and, and_false, true_or, or_true, false_or, or_false, Bool.true_and, Bool.and_true, Bool.false_and, Bool.and_false, Bool.true_or, Bool.or_true, Bool.or_false, Bool.false_or, Bool.not_eq_false', Bool.true_eq_false, Bool.false_eq_true, eq_self, Classical.not_not, ite_not, ne_eq, Option.some.injEq, Prod.mk.injEq, L_1, L_6, L_39]
  rw [lp_I (fun i => ([some 39, some x, some (dlM σ x i), some i], σ)) 0 (σ 88 4) (0, 0, [some 39, some x, some (dlM σ x (σ 88 4)), some (σ 88 4)], σ) c.2.1 ?_ ?_ ?_]
  · simp only [ev_op, ev_op2, ev_op1, ev_dv, ev_dv2, ev_dv1, ev_un, ev_un1, ev_lit, ev_l0, ev_l1, ev_l2, ev_l3, ev_l4, ev_l5, ev_l6, ev_l7, ev_l8, ev_l9, ev_l10, ev_l11, ev_rf, ev_gi, ev_gi1, ev_gi2, ev_gr, ev_gr1, ev_at0, ev_at, ev_al, ev_al2, ev_al1, ev_an, ev_an1, ev_vs0, ev_vs, ev_vs2, ev_vs1, ev_ca, ev_ca1, ev_cv, ev_cv1, ev_cv2, ev_if, ev_if1, ev_cmp, ev_cmp2, ev_cmp1, ev_not, ev_not1, ev_and, ev_and1, ev_or, ev_or1, ev_e, ev_e1, ev_cif, ev_cif1, ev_qlt, ev_qle, ev_qgt, ev_qge, ev_qeq, ev_qne, ev_skip, ev_brk, ev_cnt, ev_retv, ev_seq, ev_seq0, ev_seq1, ev_seq2, ev_seq3, ev_seqi, ev_sif, ev_sif1, ev_ret, ev_ret1, ev_retz, ev_retzb, ev_retzc, ev_retz1, ev_retc, ev_asg, ev_s0, ev_s1, ev_s2, ev_s3, ev_s4, ev_s5, ev_s6, ev_s7, ev_s8, ev_s9, ev_s10, ev_s11, ev_exp, ev_exp1, ev_pf, ev_pf2, ev_pf1, ev_pz, ev_pz2, ev_pz1, ev_of, ev_of2, ev_of1, ev_st, ev_as, ev_as3, ev_as2, ev_as1, ev_oa, ev_oa3, ev_oa2, ev_oa1, ev_oa0, ev_cp, ev_cp3, ev_cp2, ev_cp1, ev_sw, ev_sw1, ev_swb0, ev_swb1, ev_swb3, ev_swbi, ev_fin3, ev_fin0, ev_fini, ev_iv, ev_ic, ev_b1, ev_b2, ev_b3, ev_b4, ev_b5, ev_b6, ev_or12, ev_lp, ev_lc, ev_lb0, ev_lb1, ev_lb2, ev_lb3, ev_lbi, ev_lu, ev_ass]
  · rfl
  · intro i h0 h1
    have e3 := cell_6 h (p := i) (j := 3) ⟨h0, h1, by decide, by decide⟩
    have b := s11_bit (x := x) (p := i) ⟨hx, by omega⟩ σ
    have bd := dlM_bd h x (n := i) (by omega)
    have d3 := h.rD i h0 h1
    have s : dlM σ x (i + 1) = dlM σ x i + if tb x i = true then σ 95 (4 * i + 3) else 0 := itI_s _ _ h0
    rw [s]
    have a1 := n_add (show -2147483648 ≤ i + 1 ∧ i + 1 < 2147483648 by omega)
    by_cases q : tb x i = true
    · rw [if_pos q] at b ⊢
      have a2 := n_add (show -2147483648 ≤ dlM σ x i + σ 95 (4 * i + 3) ∧ dlM σ x i + σ 95 (4 * i + 3) < 2147483648 by omega)
      simp only [ev_op, ev_op2, ev_op1, ev_dv, ev_dv2, ev_dv1, ev_un, ev_un1, ev_lit, ev_l0, ev_l1, ev_l2, ev_l3, ev_l4, ev_l5, ev_l6, ev_l7, ev_l8, ev_l9, ev_l10, ev_l11, ev_rf, ev_gi, ev_gi1, ev_gi2, ev_gr, ev_gr1, ev_at0, ev_at, ev_al, ev_al2, ev_al1, ev_an, ev_an1, ev_vs0, ev_vs, ev_vs2, ev_vs1, ev_ca, ev_ca1, ev_cv, ev_cv1, ev_cv2, ev_if, ev_if1, ev_cmp, ev_cmp2, ev_cmp1, ev_not, ev_not1, ev_and, ev_and1, ev_or, ev_or1, ev_e, ev_e1, ev_cif, ev_cif1, ev_qlt, ev_qle, ev_qgt, ev_qge, ev_qeq, ev_qne, ev_skip, ev_brk, ev_cnt, ev_retv, ev_seq, ev_seq0, ev_seq1, ev_seq2, ev_seq3, ev_seqi, ev_sif, ev_sif1, ev_ret, ev_ret1, ev_retz, ev_retzb, ev_retzc, ev_retz1, ev_retc, ev_asg, ev_s0, ev_s1, ev_s2, ev_s3, ev_s4, ev_s5, ev_s6, ev_s7, ev_s8, ev_s9, ev_s10, ev_s11, ev_exp, ev_exp1, ev_pf, ev_pf2, ev_pf1, ev_pz, ev_pz2, ev_pz1, ev_of, ev_of2, ev_of1, ev_st, ev_as, ev_as3, ev_as2, ev_as1, ev_oa, ev_oa3, ev_oa2, ev_oa1, ev_oa0, ev_cp, ev_cp3, ev_cp2, ev_cp1, ev_sw, ev_sw1, ev_swb0, ev_swb1, ev_swb3, ev_swbi, ev_fin3, ev_fin0, ev_fini, ev_iv, ev_ic, ev_b1, ev_b2, ev_b3, ev_b4, ev_b5, ev_b6, ev_or12, ev_lp, ev_lc, ev_lb0, ev_lb1, ev_lb2, ev_lb3, ev_lbi, ev_lu, ev_ass, Int.reduceAdd, Int.reduceSub, Int.reduceMul, Int.reduceNeg, Int.reduceLT, Int.reduceLE, Int.reduceGT, Int.reduceGE, Int.reduceEq, Int.reduceNe, Int.reduceDiv, Int.reduceMod, Int.reduceToNat, Nat.reduceAdd, Nat.reduceMul, Nat.reduceSub, Nat.reduceLT, Nat.reduceEqDiff, Int.reduceNatCast', reduceIte, ite_true, ite_false, if_true, if_false, decide_eq_true_eq, decide_true, decide_false, decide_not, Bool.not_eq_true', decide_eq_false_iff_not, Bool.not_not, Bool.and_eq_true, Bool.or_eq_true, Bool.not_true, Bool.not_false, not_true_eq_false, not_false_eq_true, true_and, and_true, false_and, and_false, true_or, or_true, false_or, or_false, Bool.true_and, Bool.and_true, Bool.false_and, Bool.and_false, Bool.true_or, Bool.or_true, Bool.or_false, Bool.false_or, Bool.not_eq_false', Bool.true_eq_false, Bool.false_eq_true, eq_self, Classical.not_not, ite_not, ne_eq, Option.some.injEq, Prod.mk.injEq, L_1, L_6, L_39, c.1, h1, e3, b, a1, a2]
    · rw [if_neg q] at b ⊢
      simp only [ev_op, ev_op2, ev_op1, ev_dv, ev_dv2, ev_dv1, ev_un, ev_un1, ev_lit, ev_l0, ev_l1, ev_l2, ev_l3, ev_l4, ev_l5, ev_l6, ev_l7, ev_l8, ev_l9, ev_l10, ev_l11, ev_rf, ev_gi, ev_gi1, ev_gi2, ev_gr, ev_gr1, ev_at0, ev_at, ev_al, ev_al2, ev_al1, ev_an, ev_an1, ev_vs0, ev_vs, ev_vs2, ev_vs1, ev_ca, ev_ca1, ev_cv, ev_cv1, ev_cv2, ev_if, ev_if1, ev_cmp, ev_cmp2, ev_cmp1, ev_not, ev_not1, ev_and, ev_and1, ev_or, ev_or1, ev_e, ev_e1, ev_cif, ev_cif1, ev_qlt, ev_qle, ev_qgt, ev_qge, ev_qeq, ev_qne, ev_skip, ev_brk, ev_cnt, ev_retv, ev_seq, ev_seq0, ev_seq1, ev_seq2, ev_seq3, ev_seqi, ev_sif, ev_sif1, ev_ret, ev_ret1, ev_retz, ev_retzb, ev_retzc, ev_retz1, ev_retc, ev_asg, ev_s0, ev_s1, ev_s2, ev_s3, ev_s4, ev_s5, ev_s6, ev_s7, ev_s8, ev_s9, ev_s10, ev_s11, ev_exp, ev_exp1, ev_pf, ev_pf2, ev_pf1, ev_pz, ev_pz2, ev_pz1, ev_of, ev_of2, ev_of1, ev_st, ev_as, ev_as3, ev_as2, ev_as1, ev_oa, ev_oa3, ev_oa2, ev_oa1, ev_oa0, ev_cp, ev_cp3, ev_cp2, ev_cp1, ev_sw, ev_sw1, ev_swb0, ev_swb1, ev_swb3, ev_swbi, ev_fin3, ev_fin0, ev_fini, ev_iv, ev_ic, ev_b1, ev_b2, ev_b3, ev_b4, ev_b5, ev_b6, ev_or12, ev_lp, ev_lc, ev_lb0, ev_lb1, ev_lb2, ev_lb3, ev_lbi, ev_lu, ev_ass, Int.reduceAdd, Int.reduceSub, Int.reduceMul, Int.reduceNeg, Int.reduceLT, Int.reduceLE, Int.reduceGT, Int.reduceGE, Int.reduceEq, Int.reduceNe, Int.reduceDiv, Int.reduceMod, Int.reduceToNat, Nat.reduceAdd, Nat.reduceMul, Nat.reduceSub, Nat.reduceLT, Nat.reduceEqDiff, Int.reduceNatCast', reduceIte, ite_true, ite_false, if_true, if_false, decide_eq_true_eq, decide_true, decide_false, decide_not, Bool.not_eq_true', decide_eq_false_iff_not, Bool.not_not, Bool.and_eq_true, Bool.or_eq_true, Bool.not_true, Bool.not_false, not_true_eq_false, not_false_eq_true, true_and, and_true, false_and, and_false, true_or, or_true, false_or, or_false, Bool.true_and, Bool.and_true, Bool.false_and, Bool.and_false, Bool.true_or, Bool.or_true, Bool.or_false, Bool.false_or, Bool.not_eq_false', Bool.true_eq_false, Bool.false_eq_true, eq_self, Classical.not_not, ite_not, ne_eq, Option.some.injEq, Prod.mk.injEq, L_1, L_6, L_39, c.1, h1, b, a1, Int.add_zero]
  · have q : ¬ σ 88 4 < σ 88 4 := by omega
    simp only [ev_op, ev_op2, ev_op1, ev_dv, ev_dv2, ev_dv1, ev_un, ev_un1, ev_lit, ev_l0, ev_l1, ev_l2, ev_l3, ev_l4, ev_l5, ev_l6, ev_l7, ev_l8, ev_l9, ev_l10, ev_l11, ev_rf, ev_gi, ev_gi1, ev_gi2, ev_gr, ev_gr1, ev_at0, ev_at, ev_al, ev_al2, ev_al1, ev_an, ev_an1, ev_vs0, ev_vs, ev_vs2, ev_vs1, ev_ca, ev_ca1, ev_cv, ev_cv1, ev_cv2, ev_if, ev_if1, ev_cmp, ev_cmp2, ev_cmp1, ev_not, ev_not1, ev_and, ev_and1, ev_or, ev_or1, ev_e, ev_e1, ev_cif, ev_cif1, ev_qlt, ev_qle, ev_qgt, ev_qge, ev_qeq, ev_qne, ev_skip, ev_brk, ev_cnt, ev_retv, ev_seq, ev_seq0, ev_seq1, ev_seq2, ev_seq3, ev_seqi, ev_sif, ev_sif1, ev_ret, ev_ret1, ev_retz, ev_retzb, ev_retzc, ev_retz1, ev_retc, ev_asg, ev_s0, ev_s1, ev_s2, ev_s3, ev_s4, ev_s5, ev_s6, ev_s7, ev_s8, ev_s9, ev_s10, ev_s11, ev_exp, ev_exp1, ev_pf, ev_pf2, ev_pf1, ev_pz, ev_pz2, ev_pz1, ev_of, ev_of2, ev_of1, ev_st, ev_as, ev_as3, ev_as2, ev_as1, ev_oa, ev_oa3, ev_oa2, ev_oa1, ev_oa0, ev_cp, ev_cp3, ev_cp2, ev_cp1, ev_sw, ev_sw1, ev_swb0, ev_swb1, ev_swb3, ev_swbi, ev_fin3, ev_fin0, ev_fini, ev_iv, ev_ic, ev_b1, ev_b2, ev_b3, ev_b4, ev_b5, ev_b6, ev_or12, ev_lp, ev_lc, ev_lb0, ev_lb1, ev_lb2, ev_lb3, ev_lbi, ev_lu, ev_ass, Int.reduceAdd, Int.reduceSub, Int.reduceMul, Int.reduceNeg, Int.reduceLT, Int.reduceLE, Int.reduceGT, Int.reduceGE, Int.reduceEq, Int.reduceNe, Int.reduceDiv, Int.reduceMod, Int.reduceToNat, Nat.reduceAdd, Nat.reduceMul, Nat.reduceSub, Nat.reduceLT, Nat.reduceEqDiff, Int.reduceNatCast', reduceIte, ite_true, ite_false, if_true, if_false, decide_eq_true_eq, decide_true, decide_false, decide_not, Bool.not_eq_true', decide_eq_false_iff_not, Bool.not_not, Bool.and_eq_true, Bool.or_eq_true, Bool.not_true, Bool.not_false, not_true_eq_false, not_false_eq_true, true_and, and_true, false_and, and_false, true_or, or_true, false_or, or_false, Bool.true_and, Bool.and_true, Bool.false_and, Bool.and_false, Bool.true_or, Bool.or_true, Bool.or_false, Bool.false_or, Bool.not_eq_false', Bool.true_eq_false, Bool.false_eq_true, eq_self, Classical.not_not, ite_not, ne_eq, Option.some.injEq, Prod.mk.injEq, L_1, L_6, L_39, c.1, q]
/-- when a VAN comes to a place -/
def dr0 (σ : cvM) (a c t : Int) : Int := if a = c then 0 else drv σ a c t
def cmT (σ : cvM) (a c t : Int) : Int := max (t + dr0 σ a c t) (σ 89 (5 * c + 3))
theorem cmT_bd {σ : cvM} (h : WR σ) {a c t : Int} (hc : 0 ≤ c ∧ c < σ 88 1) (ha : 0 ≤ a ∧ a < 8) (ht : 0 ≤ t) : t ≤ cmT σ a c t ∧ cmT σ a c t ≤ max (t + 900) 1439 := by
  have c3 := cnt_3 h
  have g := h.rP c hc.1 hc.2
  have d := drv_bd h (a := a) (b := c) (t := t) (by omega) ht
  unfold cmT dr0
  split <;> omega
theorem s9_reach {σ : cvM} (h : WR σ) {a c t : Int} (hc : 0 ≤ c ∧ c < σ 88 1) (ha : 0 ≤ a ∧ a < 8) (ht : 0 ≤ t ∧ t < 100000) : f9_reach [39, a, c, t] σ = some (if cmT σ a c t ≤ σ 39 5 ∧ cmT σ a c t ≤ σ 89 (5 * c + 4) then cmT σ a c t else -3, σ) := by
  have c3 := cnt_3 h
  have g := h.rP c hc.1 hc.2
  have d := s10_driveMinutes h (a := a) (b := c) (t := t) (by omega) (by omega)
  have e3 := cell_3 h (p := c) (j := 3) (by omega)
  have e4 := cell_3 h (p := c) (j := 4) (by omega)
  have bd := drv_bd h (a := a) (b := c) (t := t) (by omega) ht.1
  have a1 : oadd t (if a = c then 0 else drv σ a c t) = t + dr0 σ a c t := by
    unfold dr0
    exact n_add (by split <;> omega)
  have a2 : omax (t + dr0 σ a c t) (σ 89 (5 * c + 3)) = cmT σ a c t := by
    rw [n_max]; rfl
  simp only [u9_reach, b9_reach, ev_op, ev_op2, ev_op1, ev_dv, ev_dv2, ev_dv1, ev_un, ev_un1, ev_lit, ev_l0, ev_l1, ev_l2, ev_l3, ev_l4, ev_l5, ev_l6, ev_l7, ev_l8, ev_l9, ev_l10, ev_l11, ev_rf, ev_gi, ev_gi1, ev_gi2, ev_gr, ev_gr1, ev_at0, ev_at, ev_al, ev_al2, ev_al1, ev_an, ev_an1, ev_vs0, ev_vs, ev_vs2, ev_vs1, ev_ca, ev_ca1, ev_cv, ev_cv1, ev_cv2, ev_if, ev_if1, ev_cmp, ev_cmp2, ev_cmp1, ev_not, ev_not1, ev_and, ev_and1, ev_or, ev_or1, ev_e, ev_e1, ev_cif, ev_cif1, ev_qlt, ev_qle, ev_qgt, ev_qge, ev_qeq, ev_qne, ev_skip, ev_brk, ev_cnt, ev_retv, ev_seq, ev_seq0, ev_seq1, ev_seq2, ev_seq3, ev_seqi, ev_sif, ev_sif1, ev_ret, ev_ret1, ev_retz, ev_retzb, ev_retzc, ev_retz1, ev_retc, ev_asg, ev_s0, ev_s1, ev_s2, ev_s3, ev_s4, ev_s5, ev_s6, ev_s7, ev_s8, ev_s9, ev_s10, ev_s11, ev_exp, ev_exp1, ev_pf, ev_pf2, ev_pf1, ev_pz, ev_pz2, ev_pz1, ev_of, ev_of2, ev_of1, ev_st, ev_as, ev_as3, ev_as2, ev_as1, ev_oa, ev_oa3, ev_oa2, ev_oa1, ev_oa0, ev_cp, ev_cp3, ev_cp2, ev_cp1, ev_sw, ev_sw1, ev_swb0, ev_swb1, ev_swb3, ev_swbi, ev_fin3, ev_fin0, ev_fini, ev_iv, ev_ic, ev_b1, ev_b2, ev_b3, ev_b4, ev_b5, ev_b6, ev_or12, ev_lp, ev_lc, ev_lb0, ev_lb1, ev_lb2, ev_lb3, ev_lbi, ev_lu, ev_ass, Int.reduceAdd, Int.reduceSub, Int.reduceMul, Int.reduceNeg, Int.reduceLT, Int.reduceLE, Int.reduceGT, Int.reduceGE, Int.reduceEq, Int.reduceNe, Int.reduceDiv, Int.reduceMod, Int.reduceToNat, Nat.reduceAdd, Nat.reduceMul, Nat.reduceSub, Nat.reduceLT, Nat.reduceEqDiff, Int.reduceNatCast', reduceIte, ite_true, ite_false, if_true, if_false, decide_eq_true_eq, decide_true, decide_false, decide_not, Bool.not_eq_true', decide_eq_false_iff_not, Bool.not_not, Bool.and_eq_true, Bool.or_eq_true, Bool.not_true, Bool.not_false, not_true_eq_false, not_false_eq_true, true_and, and_true, false_and, and_false, true_or, or_true, false_or, or_false, Bool.true_and, Bool.and_true, Bool.false_and, Bool.and_false, Bool.true_or, Bool.or_true, Bool.or_false, Bool.false_or, Bool.not_eq_false', Bool.true_eq_false, Bool.false_eq_true, eq_self, Classical.not_not, ite_not, ne_eq, Option.some.injEq, Prod.mk.injEq, L_1, L_3, L_39, d, e3, e4, a1, a2]
/-- how late those of a list are at a court -/
def lateP (σ : cvM) (c u q : Int) : Int := if σ 92 (7 * q + 2) = c then max 0 (u - σ 92 (7 * q + 3)) else 0
def lateL (σ : cvM) (l : List Int) (c u : Int) : Int := l.foldl (fun a q => a + lateP σ c u q) 0
theorem lateL_app (σ : cvM) (l : List Int) (q c u : Int) : lateL σ (l ++ [q]) c u = lateL σ l c u + lateP σ c u q := by
  unfold lateL
  rw [List.foldl_append]
  rfl
def crt (σ : cvM) (l : List Int) : List Int := l.map fun q => σ 92 (7 * q + 2)
def due (σ : cvM) (l : List Int) : List Int := l.map fun q => σ 92 (7 * q + 3)
/-- the TRIP's memory with a list of persons -/
def gaM (σ : cvM) (l : List Int) : cvM := updM (aM (aM σ 40 (crt σ l)) 41 (due σ l)) 39 3 (l.length : Int)
theorem gaM_o {σ : cvM} (l : List Int) {k : Int} (i : Int) (h : ¬ (k = 39 ∨ k = 40 ∨ k = 41)) : gaM σ l k i = σ k i := by
  unfold gaM
  rw [upd_ne _ (by omega), aM_ne _ _ (by omega), aM_ne _ _ (by omega)]
theorem gaM_E (σ : cvM) (l : List Int) : EqP σ (gaM σ l) := fun k i hk => gaM_o l i (by unfold pub at hk; omega)
theorem gaM_s (σ : cvM) (l : List Int) (q : Int) : updM (updM (updM (gaM σ l) 40 (l.length : Int) (σ 92 (7 * q + 2))) 41 (l.length : Int) (σ 92 (7 * q + 3))) 39 3 ((l.length : Int) + 1) = gaM σ (l ++ [q]) := by
  unfold gaM
  have h1 : (crt σ l).length = l.length := List.length_map ..
  have h2 : (due σ l).length = l.length := List.length_map ..
  rw [upd_comm (k := 39) (k2 := 40) (Or.inl (by decide)), upd_comm (k := 39) (k2 := 41) (Or.inl (by decide)), upd_twice]
  rw [← upd_aM (k := 40) (k2 := 41) _ (by decide)]
  have e1 := aM_s σ 40 (crt σ l) (σ 92 (7 * q + 2))
  rw [h1] at e1
  rw [e1]
  have e2 := aM_s (aM σ 40 (crt σ l ++ [σ 92 (7 * q + 2)])) 41 (due σ l) (σ 92 (7 * q + 3))
  rw [h2] at e2
  rw [e2, List.length_append]
  have c1 : crt σ (l ++ [q]) = crt σ l ++ [σ 92 (7 * q + 2)] := List.map_append ..
  have c2 : due σ (l ++ [q]) = due σ l ++ [σ 92 (7 * q + 3)] := List.map_append ..
  rw [c1, c2]
  rfl
/-- the courts of a set, as a set -/
def coP (σ : cvM) (x n c : Int) : Bool := anyI (fun q => tb x q && decide (σ 92 (7 * q + 2) = c)) n
def coS (σ : cvM) (x n : Int) : Int := bI (coP σ x n) 8
theorem coS_0 (σ : cvM) (x : Int) : coS σ x 0 = 0 := by
  unfold coS
  refine (bI_ext (P := coP σ x 0) (Q := fun _ => false) fun i _ _ => rfl).trans ?_
  decide
theorem coS_s {σ : cvM} (h : WR σ) {x n : Int} (hn : 0 ≤ n ∧ n < σ 88 2) : coS σ x (n + 1) = if tb x n = true then xw (coS σ x n) (σ 92 (7 * n + 2)) true else coS σ x n := by
  have g := h.rQ n hn.1 hn.2
  have c3 := cnt_3 h
  have l1 := bI_lt (coP σ x (n + 1)) 8
  have l2 := bI_lt (coP σ x n) 8
  have s : ∀ c, coP σ x (n + 1) c = (coP σ x n c || (tb x n && decide (σ 92 (7 * n + 2) = c))) := fun c => anyI_s _ hn.1
  unfold coS
  by_cases q : tb x n = true
  · rw [if_pos q]
    have l3 := xw_lt (x := bI (coP σ x n) 8) (p := σ 92 (7 * n + 2)) (q := true) 8 l2 (by omega)
    refine tb_ext l1.1 l3.1 fun i i0 => ?_
    rw [tb_xw (by omega) i0, tb_bI _ _ i0, tb_bI _ _ i0, s, q, Bool.true_and]
    by_cases z : i = σ 92 (7 * n + 2)
    · rw [if_pos z, decide_eq_true (show σ 92 (7 * n + 2) = i by omega), Bool.or_true, decide_eq_true (show i < 8 by omega)]
      rfl
    · rw [if_neg z, decide_eq_false (show ¬ σ 92 (7 * n + 2) = i by omega), Bool.or_false]
  · rw [if_neg q]
    refine bI_ext fun i i0 i1 => ?_
    rw [s]
    cases e : tb x n
    · rw [Bool.false_and, Bool.or_false]
    · exact absurd e q
theorem s9_gather {σ : cvM} (h : WR σ) {x : Int} (hx : 0 ≤ x ∧ x < 4096) : f9_gather [39, x] σ = some (coS σ x (σ 88 2), gaM σ (sl (tb x) (σ 88 2))) := by
  have c := cnt_4 h
  have c3 := cnt_3 h
  have w0 : updM σ 39 3 0 = gaM σ (sl (tb x) 0) := by
    unfold gaM
    rw [sl_0]
    show _ = updM (aM (aM σ 40 []) 41 []) 39 3 0
    rw [aM_0, aM_0]
  simp only [u9_gather, b9_gather, ev_op, ev_op2, ev_op1, ev_dv, ev_dv2, ev_dv1, ev_un, ev_un1, ev_lit, ev_l0, ev_l1, ev_l2, ev_l3, ev_l4, ev_l5, ev_l6, ev_l7, ev_l8, ev_l9, ev_l10, ev_l11, ev_rf, ev_gi, ev_gi1, ev_gi2, ev_gr, ev_gr1, ev_at0, ev_at, ev_al, ev_al2, ev_al1, ev_an, ev_an1, ev_vs0, ev_vs, ev_vs2, ev_vs1, ev_ca, ev_ca1, ev_cv, ev_cv1, ev_cv2, ev_if, ev_if1, ev_cmp, ev_cmp2, ev_cmp1, ev_not, ev_not1, ev_and, ev_and1, ev_or, ev_or1, ev_e, ev_e1, ev_cif, ev_cif1, ev_qlt, ev_qle, ev_qgt, ev_qge, ev_qeq, ev_qne, ev_skip, ev_brk, ev_cnt, ev_retv, ev_seq, ev_seq0, ev_seq1, ev_seq2, ev_seq3, ev_seqi, ev_sif, ev_sif1, ev_ret, ev_ret1, ev_retz, ev_retzb, ev_retzc, ev_retz1, ev_retc, ev_asg, ev_s0, ev_s1, ev_s2, ev_s3, ev_s4, ev_s5, ev_s6, ev_s7, ev_s8, ev_s9, ev_s10, ev_s11, ev_exp, ev_exp1, ev_pf, ev_pf2, ev_pf1, ev_pz, ev_pz2, ev_pz1, ev_of, ev_of2, ev_of1, ev_st, ev_as, ev_as3, ev_as2, ev_as1, ev_oa, ev_oa3, ev_oa2, ev_oa1, ev_oa0, ev_cp, ev_cp3, ev_cp2, ev_cp1, ev_sw, ev_sw1, ev_swb0, ev_swb1, ev_swb3, ev_swbi, ev_fin3, ev_fin0, ev_fini, ev_iv, ev_ic, ev_b1, ev_b2, ev_b3, ev_b4, ev_b5, ev_b6, ev_or12, ev_lp, ev_lc, ev_lb0, ev_lb1, ev_lb2, ev_lb3, ev_lbi, ev_lu, ev_ass, Int.reduceAdd, Int.reduceSub, Int.reduceMul, Int.reduceNeg, Int.reduceLT, Int.reduceLE, Int.reduceGT, Int.reduceGE, Int.reduceEq, Int.reduceNe, Int.reduceDiv, Int.reduceMod, Int.reduceToNat, Nat.reduceAdd, Nat.reduceMul, Nat.reduceSub, Nat.reduceLT, Nat.reduceEqDiff, Int.reduceNatCast', reduceIte, ite_true, ite_false, if_true, if_false, decide_eq_true_eq, decide_true, decide_false, decide_not, Bool.not_eq_true', decide_eq_false_iff_not, Bool.not_not, Bool.and_eq_true, Bool.or_eq_true, Bool.not_true, Bool.not_false, not_true_eq_false, not_false_eq_true, true_and, and_true, false_and, and_false, true_or, or_true, false_or, or_false, Bool.true_and, Bool.and_true, Bool.false_and, Bool.and_false, Bool.true_or, Bool.or_true, Bool.or_false, Bool.false_or, Bool.not_eq_false', Bool.true_eq_false, Bool.false_eq_true, eq_self, Classical.not_not, ite_not, ne_eq, Option.some.injEq, Prod.mk.injEq, L_1, L_4, L_39]
  rw [lp_I (fun i => ([some 39, some x, some (coS σ x i), some i], gaM σ (sl (tb x) i))) 0 (σ 88 2) (0, 0, [some 39, some x, some (coS σ x (σ 88 2)), some (σ 88 2)], gaM σ (sl (tb x) (σ 88 2))) c.2.1 ?_ ?_ ?_]
  · simp only [ev_op, ev_op2, ev_op1, ev_dv, ev_dv2, ev_dv1, ev_un, ev_un1, ev_lit, ev_l0, ev_l1, ev_l2, ev_l3, ev_l4, ev_l5, ev_l6, ev_l7, ev_l8, ev_l9, ev_l10, ev_l11, ev_rf, ev_gi, ev_gi1, ev_gi2, ev_gr, ev_gr1, ev_at0, ev_at, ev_al, ev_al2, ev_al1, ev_an, ev_an1, ev_vs0, ev_vs, ev_vs2, ev_vs1, ev_ca, ev_ca1, ev_cv, ev_cv1, ev_cv2, ev_if, ev_if1, ev_cmp, ev_cmp2, ev_cmp1, ev_not, ev_not1, ev_and, ev_and1, ev_or, ev_or1, ev_e, ev_e1, ev_cif, ev_cif1, ev_qlt, ev_qle, ev_qgt, ev_qge, ev_qeq, ev_qne, ev_skip, ev_brk, ev_cnt, ev_retv, ev_seq, ev_seq0, ev_seq1, ev_seq2, ev_seq3, ev_seqi, ev_sif, ev_sif1, ev_ret, ev_ret1, ev_retz, ev_retzb, ev_retzc, ev_retz1, ev_retc, ev_asg, ev_s0, ev_s1, ev_s2, ev_s3, ev_s4, ev_s5, ev_s6, ev_s7, ev_s8, ev_s9, ev_s10, ev_s11, ev_exp, ev_exp1, ev_pf, ev_pf2, ev_pf1, ev_pz, ev_pz2, ev_pz1, ev_of, ev_of2, ev_of1, ev_st, ev_as, ev_as3, ev_as2, ev_as1, ev_oa, ev_oa3, ev_oa2, ev_oa1, ev_oa0, ev_cp, ev_cp3, ev_cp2, ev_cp1, ev_sw, ev_sw1, ev_swb0, ev_swb1, ev_swb3, ev_swbi, ev_fin3, ev_fin0, ev_fini, ev_iv, ev_ic, ev_b1, ev_b2, ev_b3, ev_b4, ev_b5, ev_b6, ev_or12, ev_lp, ev_lc, ev_lb0, ev_lb1, ev_lb2, ev_lb3, ev_lbi, ev_lu, ev_ass]
  · rw [w0, coS_0]
  · intro i h0 h1
    have hl := sl_le (tb x) h0
    have hl0 := Int.natCast_nonneg (sl (tb x) i).length
    have g := h.rQ i h0 h1
    have s1 := sl_s (tb x) h0
    have s2 := coS_s h (x := x) ⟨h0, h1⟩
    have l2 := bI_lt (coP σ x i) 8
    have b := s11_bit (x := x) (p := i) (by omega) (gaM σ (sl (tb x) i))
    have e43 : gaM σ (sl (tb x) i) 4 3 = σ 88 2 := by rw [gaM_o _ _ (by decide), c.1]
    have e39 : gaM σ (sl (tb x) i) 39 3 = ((sl (tb x) i).length : Int) := upd_at _ _ _ _
    have q12 : ((sl (tb x) i).length : Int) < 12 := by omega
    by_cases q : tb x i = true
    · rw [if_pos q] at b s1 s2
      have hE := gaM_E σ (sl (tb x) i)
      have w1 := hE.WR h
      have e2 := cell_4 w1 (p := i) (j := 2) (by rw [gaM_o _ _ (by decide)]; omega)
      rw [gaM_o _ _ (by decide)] at e2
      have w2 : WR (updM (gaM σ (sl (tb x) i)) 40 ((sl (tb x) i).length : Int) (σ 92 (7 * i + 2))) := w1.congr2 fun k j hk => upd_ne _ (by omega)
      have e3 := cell_4 w2 (p := i) (j := 3) (by rw [upd_ne _ (by decide), gaM_o _ _ (by decide)]; omega)
      rw [upd_ne _ (by decide), gaM_o _ _ (by decide)] at e3
      have e39b : ∀ v, (updM (gaM σ (sl (tb x) i)) 40 ((sl (tb x) i).length : Int) v) 39 3 = ((sl (tb x) i).length : Int) := fun v => by rw [upd_ne _ (by decide), e39]
      have e39c : ∀ v w, (updM (updM (gaM σ (sl (tb x) i)) 40 ((sl (tb x) i).length : Int) v) 41 ((sl (tb x) i).length : Int) w) 39 3 = ((sl (tb x) i).length : Int) := fun v w => by rw [upd_ne _ (by decide), e39b]
      have e40 : ∀ v w, (updM (updM (gaM σ (sl (tb x) i)) 40 ((sl (tb x) i).length : Int) v) 41 ((sl (tb x) i).length : Int) w) 40 ((sl (tb x) i).length : Int) = v := fun v w => by rw [upd_ne _ (by decide), upd_at]
      have r : 0 ≤ ((sl (tb x) i).length : Int) ∧ ((sl (tb x) i).length : Int) < 12 := ⟨hl0, q12⟩
      have o1 : oor (coS σ x i) (oshl 1 (σ 92 (7 * i + 2))) = xw (coS σ x i) (σ 92 (7 * i + 2)) true := i_or 8 (by decide) l2 (by omega)
      have a1 : oadd ((sl (tb x) i).length : Int) 1 = ((sl (tb x) i).length : Int) + 1 := n_add (by omega)
      have gs := gaM_s σ (sl (tb x) i) i
      rw [s1, s2, ← gs]
      generalize ((sl (tb x) i).length : Int) = m at e39 e39b e39c e40 e3 r a1 q12 ⊢
      generalize gaM σ (sl (tb x) i) = τ at b e43 e39 e39b e39c e40 e2 e3 ⊢
      simp only [ev_op, ev_op2, ev_op1, ev_dv, ev_dv2, ev_dv1, ev_un, ev_un1, ev_lit, ev_l0, ev_l1, ev_l2, ev_l3, ev_l4, ev_l5, ev_l6, ev_l7, ev_l8, ev_l9, ev_l10, ev_l11, ev_rf, ev_gi, ev_gi1, ev_gi2, ev_gr, ev_gr1, ev_at0, ev_at, ev_al, ev_al2, ev_al1, ev_an, ev_an1, ev_vs0, ev_vs, ev_vs2, ev_vs1, ev_ca, ev_ca1, ev_cv, ev_cv1, ev_cv2, ev_if, ev_if1, ev_cmp, ev_cmp2, ev_cmp1, ev_not, ev_not1, ev_and, ev_and1, ev_or, ev_or1, ev_e, ev_e1, ev_cif, ev_cif1, ev_qlt, ev_qle, ev_qgt, ev_qge, ev_qeq, ev_qne, ev_skip, ev_brk, ev_cnt, ev_retv, ev_seq, ev_seq0, ev_seq1, ev_seq2, ev_seq3, ev_seqi, ev_sif, ev_sif1, ev_ret, ev_ret1, ev_retz, ev_retzb, ev_retzc, ev_retz1, ev_retc, ev_asg, ev_s0, ev_s1, ev_s2, ev_s3, ev_s4, ev_s5, ev_s6, ev_s7, ev_s8, ev_s9, ev_s10, ev_s11, ev_exp, ev_exp1, ev_pf, ev_pf2, ev_pf1, ev_pz, ev_pz2, ev_pz1, ev_of, ev_of2, ev_of1, ev_st, ev_as, ev_as3, ev_as2, ev_as1, ev_oa, ev_oa3, ev_oa2, ev_oa1, ev_oa0, ev_cp, ev_cp3, ev_cp2, ev_cp1, ev_sw, ev_sw1, ev_swb0, ev_swb1, ev_swb3, ev_swbi, ev_fin3, ev_fin0, ev_fini, ev_iv, ev_ic, ev_b1, ev_b2, ev_b3, ev_b4, ev_b5, ev_b6, ev_or12, ev_lp, ev_lc, ev_lb0, ev_lb1, ev_lb2, ev_lb3, ev_lbi, ev_lu, ev_ass, Int.reduceAdd, Int.reduceSub, Int.reduceMul, Int.reduceNeg, Int.reduceLT, Int.reduceLE, Int.reduceGT, Int.reduceGE, Int.reduceEq, Int.reduceNe, Int.reduceDiv, Int.reduceMod, Int.reduceToNat, Nat.reduceAdd, Nat.reduceMul, Nat.reduceSub, Nat.reduceLT, Nat.reduceEqDiff, Int.reduceNatCast', reduceIte, ite_true, ite_false, if_true, if_false, decide_eq_true_eq, decide_true, decide_false, decide_not, Bool.not_eq_true', decide_eq_false_iff_not, Bool.not_not, Bool.and_eq_true, Bool.or_eq_true, Bool.not_true, Bool.not_false, not_true_eq_false, not_false_eq_true, true_and, and_true, false_and, and_false, true_or, or_true, false_or, or_false, Bool.true_and, Bool.and_true, Bool.false_and, Bool.and_false, Bool.true_or, Bool.or_true, Bool.or_false, Bool.false_or, Bool.not_eq_false', Bool.true_eq_false, Bool.false_eq_true, eq_self, Classical.not_not, ite_not, ne_eq, Option.some.injEq, Prod.mk.injEq, L_1, L_4, L_39, L_40, L_41, e43, h1, e39, q12, b, e2, e3, e39b, e39c, e40, r, o1, a1, n_add (show -2147483648 ≤ i + 1 ∧ i + 1 < 2147483648 by omega)]
    · rw [if_neg q] at b s1 s2
      rw [List.append_nil] at s1
      rw [s1, s2]
      simp only [ev_op, ev_op2, ev_op1, ev_dv, ev_dv2, ev_dv1, ev_un, ev_un1, ev_lit, ev_l0, ev_l1, ev_l2, ev_l3, ev_l4, ev_l5, ev_l6, ev_l7, ev_l8, ev_l9, ev_l10, ev_l11, ev_rf, ev_gi, ev_gi1, ev_gi2, ev_gr, ev_gr1, ev_at0, ev_at, ev_al, ev_al2, ev_al1, ev_an, ev_an1, ev_vs0, ev_vs, ev_vs2, ev_vs1, ev_ca, ev_ca1, ev_cv, ev_cv1, ev_cv2, ev_if, ev_if1, ev_cmp, ev_cmp2, ev_cmp1, ev_not, ev_not1, ev_and, ev_and1, ev_or, ev_or1, ev_e, ev_e1, ev_cif, ev_cif1, ev_qlt, ev_qle, ev_qgt, ev_qge, ev_qeq, ev_qne, ev_skip, ev_brk, ev_cnt, ev_retv, ev_seq, ev_seq0, ev_seq1, ev_seq2, ev_seq3, ev_seqi, ev_sif, ev_sif1, ev_ret, ev_ret1, ev_retz, ev_retzb, ev_retzc, ev_retz1, ev_retc, ev_asg, ev_s0, ev_s1, ev_s2, ev_s3, ev_s4, ev_s5, ev_s6, ev_s7, ev_s8, ev_s9, ev_s10, ev_s11, ev_exp, ev_exp1, ev_pf, ev_pf2, ev_pf1, ev_pz, ev_pz2, ev_pz1, ev_of, ev_of2, ev_of1, ev_st, ev_as, ev_as3, ev_as2, ev_as1, ev_oa, ev_oa3, ev_oa2, ev_oa1, ev_oa0, ev_cp, ev_cp3, ev_cp2, ev_cp1, ev_sw, ev_sw1, ev_swb0, ev_swb1, ev_swb3, ev_swbi, ev_fin3, ev_fin0, ev_fini, ev_iv, ev_ic, ev_b1, ev_b2, ev_b3, ev_b4, ev_b5, ev_b6, ev_or12, ev_lp, ev_lc, ev_lb0, ev_lb1, ev_lb2, ev_lb3, ev_lbi, ev_lu, ev_ass, Int.reduceAdd, Int.reduceSub, Int.reduceMul, Int.reduceNeg, Int.reduceLT, Int.reduceLE, Int.reduceGT, Int.reduceGE, Int.reduceEq, Int.reduceNe, Int.reduceDiv, Int.reduceMod, Int.reduceToNat, Nat.reduceAdd, Nat.reduceMul, Nat.reduceSub, Nat.reduceLT, Nat.reduceEqDiff, Int.reduceNatCast', reduceIte, ite_true, ite_false, if_true, if_false, decide_eq_true_eq, decide_true, decide_false, decide_not, Bool.not_eq_true', decide_eq_false_iff_not, Bool.not_not, Bool.and_eq_true, Bool.or_eq_true, Bool.not_true, Bool.not_false, not_true_eq_false, not_false_eq_true, true_and, and_true, false_and, and_false, true_or, or_true, false_or, or_false, Bool.true_and, Bool.and_true, Bool.false_and, Bool.and_false, Bool.true_or, Bool.or_true, Bool.or_false, Bool.false_or, Bool.not_eq_false', Bool.true_eq_false, Bool.false_eq_true, eq_self, Classical.not_not, ite_not, ne_eq, Option.some.injEq, Prod.mk.injEq, L_1, L_4, L_39, L_40, L_41, e43, h1, e39, q12, b, n_add (show -2147483648 ≤ i + 1 ∧ i + 1 < 2147483648 by omega)]
  · have e43 : gaM σ (sl (tb x) (σ 88 2)) 4 3 = σ 88 2 := by rw [gaM_o _ _ (by decide), c.1]
    have q : ¬ σ 88 2 < σ 88 2 := by omega
    simp only [ev_op, ev_op2, ev_op1, ev_dv, ev_dv2, ev_dv1, ev_un, ev_un1, ev_lit, ev_l0, ev_l1, ev_l2, ev_l3, ev_l4, ev_l5, ev_l6, ev_l7, ev_l8, ev_l9, ev_l10, ev_l11, ev_rf, ev_gi, ev_gi1, ev_gi2, ev_gr, ev_gr1, ev_at0, ev_at, ev_al, ev_al2, ev_al1, ev_an, ev_an1, ev_vs0, ev_vs, ev_vs2, ev_vs1, ev_ca, ev_ca1, ev_cv, ev_cv1, ev_cv2, ev_if, ev_if1, ev_cmp, ev_cmp2, ev_cmp1, ev_not, ev_not1, ev_and, ev_and1, ev_or, ev_or1, ev_e, ev_e1, ev_cif, ev_cif1, ev_qlt, ev_qle, ev_qgt, ev_qge, ev_qeq, ev_qne, ev_skip, ev_brk, ev_cnt, ev_retv, ev_seq, ev_seq0, ev_seq1, ev_seq2, ev_seq3, ev_seqi, ev_sif, ev_sif1, ev_ret, ev_ret1, ev_retz, ev_retzb, ev_retzc, ev_retz1, ev_retc, ev_asg, ev_s0, ev_s1, ev_s2, ev_s3, ev_s4, ev_s5, ev_s6, ev_s7, ev_s8, ev_s9, ev_s10, ev_s11, ev_exp, ev_exp1, ev_pf, ev_pf2, ev_pf1, ev_pz, ev_pz2, ev_pz1, ev_of, ev_of2, ev_of1, ev_st, ev_as, ev_as3, ev_as2, ev_as1, ev_oa, ev_oa3, ev_oa2, ev_oa1, ev_oa0, ev_cp, ev_cp3, ev_cp2, ev_cp1, ev_sw, ev_sw1, ev_swb0, ev_swb1, ev_swb3, ev_swbi, ev_fin3, ev_fin0, ev_fini, ev_iv, ev_ic, ev_b1, ev_b2, ev_b3, ev_b4, ev_b5, ev_b6, ev_or12, ev_lp, ev_lc, ev_lb0, ev_lb1, ev_lb2, ev_lb3, ev_lbi, ev_lu, ev_ass, Int.reduceAdd, Int.reduceSub, Int.reduceMul, Int.reduceNeg, Int.reduceLT, Int.reduceLE, Int.reduceGT, Int.reduceGE, Int.reduceEq, Int.reduceNe, Int.reduceDiv, Int.reduceMod, Int.reduceToNat, Nat.reduceAdd, Nat.reduceMul, Nat.reduceSub, Nat.reduceLT, Nat.reduceEqDiff, Int.reduceNatCast', reduceIte, ite_true, ite_false, if_true, if_false, decide_eq_true_eq, decide_true, decide_false, decide_not, Bool.not_eq_true', decide_eq_false_iff_not, Bool.not_not, Bool.and_eq_true, Bool.or_eq_true, Bool.not_true, Bool.not_false, not_true_eq_false, not_false_eq_true, true_and, and_true, false_and, and_false, true_or, or_true, false_or, or_false, Bool.true_and, Bool.and_true, Bool.false_and, Bool.and_false, Bool.true_or, Bool.or_true, Bool.or_false, Bool.false_or, Bool.not_eq_false', Bool.true_eq_false, Bool.false_eq_true, eq_self, Classical.not_not, ite_not, ne_eq, Option.some.injEq, Prod.mk.injEq, L_1, L_4, L_39, e43, q]
theorem lateP_bd {σ : cvM} (h : WR σ) {c u q : Int} (hu : -3 ≤ u ∧ u < 100000) (hq : 0 ≤ q ∧ q < σ 88 2) : 0 ≤ lateP σ c u q ∧ lateP σ c u q < 100000 := by
  have g := h.rQ q hq.1 hq.2
  unfold lateP
  split <;> omega
theorem lateL_bd {σ : cvM} (h : WR σ) {c u : Int} (hu : -3 ≤ u ∧ u < 100000) (x : Int) {n : Int} (hn : 0 ≤ n ∧ n ≤ σ 88 2) : 0 ≤ lateL σ (sl (tb x) n) c u ∧ lateL σ (sl (tb x) n) c u ≤ 100000 * n := by
  have key : ∀ m : Nat, (m : Int) ≤ σ 88 2 → 0 ≤ lateL σ (sl (tb x) (m : Int)) c u ∧ lateL σ (sl (tb x) (m : Int)) c u ≤ 100000 * (m : Int) := by
    intro m
    induction m with
    | zero => intro _; exact ⟨Int.le_refl 0, Int.le_refl 0⟩
    | succ m ih =>
      intro hm
      have i1 := ih (by omega)
      have s := sl_s (tb x) (n := (m : Int)) (by omega)
      rw [show ((m + 1 : Nat) : Int) = (m : Int) + 1 by omega, s]
      by_cases q : tb x (m : Int) = true
      · rw [if_pos q, lateL_app]
        have := lateP_bd h (c := c) hu (q := (m : Int)) (by omega)
        omega
      · rw [if_neg q, List.append_nil]
        omega
  have := key n.toNat (by omega)
  rw [Int.toNat_of_nonneg hn.1] at this
  exact this
