/-! the o-loop, the c-loop, the loop over what is done -/
noncomputable abbrev fe_c3 : cvC := (xc_cmp qlt (xe_loc 8) (xe_al (xe_gr 12 0 (xe_loc 0)) (xe_lit 1)))
noncomputable abbrev fe_b3 : cvS := (xs_if (xc_and (xc_and (xc_cmp qeq (xe_op oand (xe_op oshr (xe_loc 4) (xe_loc 8)) (xe_lit 1)) (xe_lit 1)) (xc_cmp qeq (xe_op oand (xe_op oshr (xe_loc 5) (xe_loc 8)) (xe_lit 1)) (xe_lit 0))) (xc_cmp qne (xe_loc 8) (xe_loc 6))) (xs_seq (xs_asg 9 (xe_op oadd (xe_al (xe_gr 12 2 (xe_loc 0)) (xe_op oadd (xe_op omul (xe_lit 8) (xe_loc 6)) (xe_loc 8))) (xe_al (xe_gr 12 48 (xe_loc 0)) (xe_op oadd (xe_op omul (xe_lit 8) (xe_op oor (xe_loc 5) (xe_op oshl (xe_lit 1) (xe_loc 8)))) (xe_loc 8))))) (xs_asg 7 (xe_if (xc_or (xc_cmp qlt (xe_loc 7) (xe_lit 0)) (xc_cmp qlt (xe_loc 9) (xe_loc 7))) (xe_loc 9) (xe_loc 7)))) xs_skip)
noncomputable abbrev fe_u3 : cvS := (xs_asg 8 (xe_op oadd (xe_loc 8) (xe_lit 1)))
noncomputable abbrev fe_c2 : cvC := (xc_cmp qlt (xe_loc 6) (xe_al (xe_gr 12 0 (xe_loc 0)) (xe_lit 1)))
noncomputable abbrev fe_b2 : cvS := (xs_seq (xs_asg 7 (xe_if (xc_cmp qeq (xe_loc 5) (xe_loc 4)) (xe_if (xc_cmp qeq (xe_loc 6) (xe_loc 2)) (xe_lit 0) (xe_al (xe_gr 12 2 (xe_loc 0)) (xe_op oadd (xe_op omul (xe_lit 8) (xe_loc 6)) (xe_loc 2)))) (xe_lit (-1)))) (xs_seq (xs_seq (xs_asg 8 (xe_lit 0)) (xs_lp (xc_cmp qlt (xe_loc 8) (xe_al (xe_gr 12 0 (xe_loc 0)) (xe_lit 1))) (xs_if (xc_and (xc_and (xc_cmp qeq (xe_op oand (xe_op oshr (xe_loc 4) (xe_loc 8)) (xe_lit 1)) (xe_lit 1)) (xc_cmp qeq (xe_op oand (xe_op oshr (xe_loc 5) (xe_loc 8)) (xe_lit 1)) (xe_lit 0))) (xc_cmp qne (xe_loc 8) (xe_loc 6))) (xs_seq (xs_asg 9 (xe_op oadd (xe_al (xe_gr 12 2 (xe_loc 0)) (xe_op oadd (xe_op omul (xe_lit 8) (xe_loc 6)) (xe_loc 8))) (xe_al (xe_gr 12 48 (xe_loc 0)) (xe_op oadd (xe_op omul (xe_lit 8) (xe_op oor (xe_loc 5) (xe_op oshl (xe_lit 1) (xe_loc 8)))) (xe_loc 8))))) (xs_asg 7 (xe_if (xc_or (xc_cmp qlt (xe_loc 7) (xe_lit 0)) (xc_cmp qlt (xe_loc 9) (xe_loc 7))) (xe_loc 9) (xe_loc 7)))) xs_skip) (xs_asg 8 (xe_op oadd (xe_loc 8) (xe_lit 1))))) (xs_as (xe_gr 12 48 (xe_loc 0)) (xe_op oadd (xe_op omul (xe_lit 8) (xe_loc 5)) (xe_loc 6)) (xe_loc 7))))
noncomputable abbrev fe_u2 : cvS := (xs_asg 6 (xe_op oadd (xe_loc 6) (xe_lit 1)))
theorem ix8 {x o : Int} (hx : 0 ≤ x ∧ x < 256) (ho : 0 ≤ o ∧ o < 8) : oadd (omul 8 x) o = 8 * x + o ∧ 0 ≤ 8 * x + o ∧ 8 * x + o < 2048 := by
  refine ⟨by rw [n_mul (by omega), n_add (by omega)], by omega, by omega⟩
/-- one way more -/
def fg (υ : cvM) (all done c o b : Int) : Int := if tb all o = true ∧ tb done o = false ∧ ¬ o = c then (if b < 0 ∨ oadd (υ 90 (8 * c + o)) (υ 122 (8 * xw done o true + o)) < b then oadd (υ 90 (8 * c + o)) (υ 122 (8 * xw done o true + o)) else b) else b
theorem fe_in {υ : cvM} (n : Int) (hn : υ 88 1 = n ∧ 0 ≤ n ∧ n ≤ 8) {all done c : Int} (ha : 0 ≤ all ∧ all < 256) (hd : 0 ≤ done ∧ done < 256) (hc : 0 ≤ c ∧ c < n) (x1 x2 x3 : Int) (b0 : Int) (x9 : Option Int) : ∃ y, xs_lp fe_c3 fe_b3 fe_u3 [some 87, some x1, some x2, some x3, some all, some done, some c, some b0, some 0, x9] υ = some (0, 0, [some 87, some x1, some x2, some x3, some all, some done, some c, some (itI (fg υ all done c) b0 n), some n, y], υ) := by
  suffices hh : WQ (xs_lp fe_c3 fe_b3 fe_u3 [some 87, some x1, some x2, some x3, some all, some done, some c, some b0, some 0, x9] υ) (fun r => ∃ y, r = (0, 0, [some 87, some x1, some x2, some x3, some all, some done, some c, some (itI (fg υ all done c) b0 n), some n, y], υ)) by
    obtain ⟨r, e, y, rfl⟩ := hh
    exact ⟨y, e⟩
  refine wq_I (fun o E τ => ∃ y, E = [some 87, some x1, some x2, some x3, some all, some done, some c, some (itI (fg υ all done c) b0 o), some o, y] ∧ τ = υ) 0 n hn.2.1 ⟨x9, rfl, rfl⟩ ?_ ?_
  · rintro o E τ o0 o1 ⟨y, rfl, rfl⟩
    have n2 := n_add (show -2147483648 ≤ o + 1 ∧ o + 1 < 2147483648 by omega)
    have t1 := i_tb (x := all) (p := o) (by omega) (by omega)
    have t2 := i_tb (x := done) (p := o) (by omega) (by omega)
    have s : itI (fg τ all done c) b0 (o + 1) = fg τ all done c o (itI (fg τ all done c) b0 o) := itI_s _ _ o0
    have o1' : o < τ 88 1 := by omega
    have m2 : oadd (omul 8 c) o = 8 * c + o := by rw [n_mul (by omega), n_add (by omega)]
    have r2 : 0 ≤ 8 * c + o ∧ 8 * c + o < 64 := by omega
    have e3 := i_or (x := done) (p := o) 8 (by decide) (by omega) (by omega)
    have b3 := xw8 (x := done) (p := o) (q := true) (by omega) (by omega)
    have m3 := (ix8 b3 (show 0 ≤ o ∧ o < 8 from ⟨o0, Int.lt_of_lt_of_le o1 hn.2.2⟩)).1
    have r3 := (ix8 b3 (show 0 ≤ o ∧ o < 8 from ⟨o0, Int.lt_of_lt_of_le o1 hn.2.2⟩)).2
    generalize itI (fg τ all done c) b0 o = b at *
    rw [s]
    unfold fg
    by_cases z1 : tb all o = true
    · by_cases z2 : tb done o = true
      · have z2' : ¬ tb done o = false := by rw [z2]; decide
        rw [if_neg fun z => z2' z.2.1]
        simp only [ev_op, ev_op2, ev_op1, ev_dv, ev_dv2, ev_dv1, ev_un, ev_un1, ev_lit, ev_l0, ev_l1, ev_l2, ev_l3, ev_l4, ev_l5, ev_l6, ev_l7, ev_l8, ev_l9, ev_l10, ev_l11, ev_rf, ev_gi, ev_gi1, ev_gi2, ev_gr, ev_gr1, ev_at0, ev_at, ev_al, ev_al2, ev_al1, ev_an, ev_an1, ev_vs0, ev_vs, ev_vs2, ev_vs1, ev_ca, ev_ca1, ev_cv, ev_cv1, ev_cv2, ev_if, ev_if1, ev_cmp, ev_cmp2, ev_cmp1, ev_not, ev_not1, ev_and, ev_and1, ev_or, ev_or1, ev_e, ev_e1, ev_cif, ev_cif1, ev_qlt, ev_qle, ev_qgt, ev_qge, ev_qeq, ev_qne, ev_skip, ev_brk, ev_cnt, ev_retv, ev_seq, ev_seq0, ev_seq1, ev_seq2, ev_seq3, ev_seqi, ev_sif, ev_sif1, ev_ret, ev_ret1, ev_retz, ev_retzb, ev_retzc, ev_retz1, ev_retc, ev_asg, ev_s0, ev_s1, ev_s2, ev_s3, ev_s4, ev_s5, ev_s6, ev_s7, ev_s8, ev_s9, ev_s10, ev_s11, ev_exp, ev_exp1, ev_pf, ev_pf2, ev_pf1, ev_pz, ev_pz2, ev_pz1, ev_of, ev_of2, ev_of1, ev_st, ev_as, ev_as3, ev_as2, ev_as1, ev_oa, ev_oa3, ev_oa2, ev_oa1, ev_oa0, ev_cp, ev_cp3, ev_cp2, ev_cp1, ev_sw, ev_sw1, ev_swb0, ev_swb1, ev_swb3, ev_swbi, ev_fin3, ev_fin0, ev_fini, ev_iv, ev_ic, ev_b1, ev_b2, ev_b3, ev_b4, ev_b5, ev_b6, ev_or12, ev_lp, ev_lc, ev_lb0, ev_lb1, ev_lb2, ev_lb3, ev_lbi, ev_lu, ev_ass, Int.reduceAdd, Int.reduceSub, Int.reduceMul, Int.reduceNeg, Int.reduceLT, Int.reduceLE, Int.reduceGT, Int.reduceGE, Int.reduceEq, Int.reduceNe, Int.reduceDiv, Int.reduceMod, Int.reduceToNat, Nat.reduceAdd, Nat.reduceMul, Nat.reduceSub, Nat.reduceLT, Nat.reduceEqDiff, Int.reduceNatCast', reduceIte, ite_true, ite_false, if_true, if_false, decide_eq_true_eq, decide_true, decide_false, decide_not, Bool.not_eq_true', decide_eq_false_iff_not, Bool.not_not, Bool.and_eq_true, Bool.or_eq_true, Bool.not_true, Bool.not_false, not_true_eq_false, not_false_eq_true, true_and, and_true, false_and, and_false, true_or, or_true, false_or, or_false, Bool.true_and, Bool.and_true, Bool.false_and, Bool.and_false, Bool.true_or, Bool.or_true, Bool.or_false, Bool.false_or, Bool.not_eq_false', Bool.true_eq_false, Bool.false_eq_true, eq_self, Classical.not_not, ite_not, ne_eq, Option.some.injEq, Prod.mk.injEq, L_87, L_88, L_90, o1', t1, t2, z1, z2, n2]
        exact RS.go ⟨_, rfl, rfl⟩
      · have z2' : tb done o = false := by
          cases hh : tb done o with
          | true => exact absurd hh z2
          | false => rfl
        by_cases z3 : o = c
        · rw [if_neg fun z => z.2.2 z3]
          simp only [ev_op, ev_op2, ev_op1, ev_dv, ev_dv2, ev_dv1, ev_un, ev_un1, ev_lit, ev_l0, ev_l1, ev_l2, ev_l3, ev_l4, ev_l5, ev_l6, ev_l7, ev_l8, ev_l9, ev_l10, ev_l11, ev_rf, ev_gi, ev_gi1, ev_gi2, ev_gr, ev_gr1, ev_at0, ev_at, ev_al, ev_al2, ev_al1, ev_an, ev_an1, ev_vs0, ev_vs, ev_vs2, ev_vs1, ev_ca, ev_ca1, ev_cv, ev_cv1, ev_cv2, ev_if, ev_if1, ev_cmp, ev_cmp2, ev_cmp1, ev_not, ev_not1, ev_and, ev_and1, ev_or, ev_or1, ev_e, ev_e1, ev_cif, ev_cif1, ev_qlt, ev_qle, ev_qgt, ev_qge, ev_qeq, ev_qne, ev_skip, ev_brk, ev_cnt, ev_retv, ev_seq, ev_seq0, ev_seq1, ev_seq2, ev_seq3, ev_seqi, ev_sif, ev_sif1, ev_ret, ev_ret1, ev_retz, ev_retzb, ev_retzc, ev_retz1, ev_retc, ev_asg, ev_s0, ev_s1, ev_s2, ev_s3, ev_s4, ev_s5, ev_s6, ev_s7, ev_s8, ev_s9, ev_s10, ev_s11, ev_exp, ev_exp1, ev_pf, ev_pf2, ev_pf1, ev_pz, ev_pz2, ev_pz1, ev_of, ev_of2, ev_of1, ev_st, ev_as, ev_as3, ev_as2, ev_as1, ev_oa, ev_oa3, ev_oa2, ev_oa1, ev_oa0, ev_cp, ev_cp3, ev_cp2, ev_cp1, ev_sw, ev_sw1, ev_swb0, ev_swb1, ev_swb3, ev_swbi, ev_fin3, ev_fin0, ev_fini, ev_iv, ev_ic, ev_b1, ev_b2, ev_b3, ev_b4, ev_b5, ev_b6, ev_or12, ev_lp, ev_lc, ev_lb0, ev_lb1, ev_lb2, ev_lb3, ev_lbi, ev_lu, ev_ass, Int.reduceAdd, Int.reduceSub, Int.reduceMul, Int.reduceNeg, Int.reduceLT, Int.reduceLE, Int.reduceGT, Int.reduceGE, Int.reduceEq, Int.reduceNe, Int.reduceDiv, Int.reduceMod, Int.reduceToNat, Nat.reduceAdd, Nat.reduceMul, Nat.reduceSub, Nat.reduceLT, Nat.reduceEqDiff, Int.reduceNatCast', reduceIte, ite_true, ite_false, if_true, if_false, decide_eq_true_eq, decide_true, decide_false, decide_not, Bool.not_eq_true', decide_eq_false_iff_not, Bool.not_not, Bool.and_eq_true, Bool.or_eq_true, Bool.not_true, Bool.not_false, not_true_eq_false, not_false_eq_true, true_and, and_true, false_and, and_false, true_or, or_true, false_or, or_false, Bool.true_and, Bool.and_true, Bool.false_and, Bool.and_false, Bool.true_or, Bool.or_true, Bool.or_false, Bool.false_or, Bool.not_eq_false', Bool.true_eq_false, Bool.false_eq_true, eq_self, Classical.not_not, ite_not, ne_eq, Option.some.injEq, Prod.mk.injEq, L_87, L_88, L_90, o1', t1, t2, z1, z2', ← z3, n2]
          exact RS.go ⟨_, rfl, rfl⟩
        · rw [if_pos ⟨z1, z2', z3⟩]
          simp only [ev_op, ev_op2, ev_op1, ev_dv, ev_dv2, ev_dv1, ev_un, ev_un1, ev_lit, ev_l0, ev_l1, ev_l2, ev_l3, ev_l4, ev_l5, ev_l6, ev_l7, ev_l8, ev_l9, ev_l10, ev_l11, ev_rf, ev_gi, ev_gi1, ev_gi2, ev_gr, ev_gr1, ev_at0, ev_at, ev_al, ev_al2, ev_al1, ev_an, ev_an1, ev_vs0, ev_vs, ev_vs2, ev_vs1, ev_ca, ev_ca1, ev_cv, ev_cv1, ev_cv2, ev_if, ev_if1, ev_cmp, ev_cmp2, ev_cmp1, ev_not, ev_not1, ev_and, ev_and1, ev_or, ev_or1, ev_e, ev_e1, ev_cif, ev_cif1, ev_qlt, ev_qle, ev_qgt, ev_qge, ev_qeq, ev_qne, ev_skip, ev_brk, ev_cnt, ev_retv, ev_seq, ev_seq0, ev_seq1, ev_seq2, ev_seq3, ev_seqi, ev_sif, ev_sif1, ev_ret, ev_ret1, ev_retz, ev_retzb, ev_retzc, ev_retz1, ev_retc, ev_asg, ev_s0, ev_s1, ev_s2, ev_s3, ev_s4, ev_s5, ev_s6, ev_s7, ev_s8, ev_s9, ev_s10, ev_s11, ev_exp, ev_exp1, ev_pf, ev_pf2, ev_pf1, ev_pz, ev_pz2, ev_pz1, ev_of, ev_of2, ev_of1, ev_st, ev_as, ev_as3, ev_as2, ev_as1, ev_oa, ev_oa3, ev_oa2, ev_oa1, ev_oa0, ev_cp, ev_cp3, ev_cp2, ev_cp1, ev_sw, ev_sw1, ev_swb0, ev_swb1, ev_swb3, ev_swbi, ev_fin3, ev_fin0, ev_fini, ev_iv, ev_ic, ev_b1, ev_b2, ev_b3, ev_b4, ev_b5, ev_b6, ev_or12, ev_lp, ev_lc, ev_lb0, ev_lb1, ev_lb2, ev_lb3, ev_lbi, ev_lu, ev_ass, Int.reduceAdd, Int.reduceSub, Int.reduceMul, Int.reduceNeg, Int.reduceLT, Int.reduceLE, Int.reduceGT, Int.reduceGE, Int.reduceEq, Int.reduceNe, Int.reduceDiv, Int.reduceMod, Int.reduceToNat, Nat.reduceAdd, Nat.reduceMul, Nat.reduceSub, Nat.reduceLT, Nat.reduceEqDiff, Int.reduceNatCast', reduceIte, ite_true, ite_false, if_true, if_false, decide_eq_true_eq, decide_true, decide_false, decide_not, Bool.not_eq_true', decide_eq_false_iff_not, Bool.not_not, Bool.and_eq_true, Bool.or_eq_true, Bool.not_true, Bool.not_false, not_true_eq_false, not_false_eq_true, true_and, and_true, false_and, and_false, true_or, or_true, false_or, or_false, Bool.true_and, Bool.and_true, Bool.false_and, Bool.and_false, Bool.true_or, Bool.or_true, Bool.or_false, Bool.false_or, Bool.not_eq_false', Bool.true_eq_false, Bool.false_eq_true, eq_self, Classical.not_not, ite_not, ne_eq, Option.some.injEq, Prod.mk.injEq, L_87, L_88, L_90, L_122, o1', t1, t2, z1, z2', z3, m2, r2, e3, m3, r3, n2]
          exact RS.go ⟨_, rfl, rfl⟩
    · have z1' : tb all o = false := by
        cases hh : tb all o with
        | true => exact absurd hh z1
        | false => rfl
      rw [if_neg fun z => z1 z.1]
      simp only [ev_op, ev_op2, ev_op1, ev_dv, ev_dv2, ev_dv1, ev_un, ev_un1, ev_lit, ev_l0, ev_l1, ev_l2, ev_l3, ev_l4, ev_l5, ev_l6, ev_l7, ev_l8, ev_l9, ev_l10, ev_l11, ev_rf, ev_gi, ev_gi1, ev_gi2, ev_gr, ev_gr1, ev_at0, ev_at, ev_al, ev_al2, ev_al1, ev_an, ev_an1, ev_vs0, ev_vs, ev_vs2, ev_vs1, ev_ca, ev_ca1, ev_cv, ev_cv1, ev_cv2, ev_if, ev_if1, ev_cmp, ev_cmp2, ev_cmp1, ev_not, ev_not1, ev_and, ev_and1, ev_or, ev_or1, ev_e, ev_e1, ev_cif, ev_cif1, ev_qlt, ev_qle, ev_qgt, ev_qge, ev_qeq, ev_qne, ev_skip, ev_brk, ev_cnt, ev_retv, ev_seq, ev_seq0, ev_seq1, ev_seq2, ev_seq3, ev_seqi, ev_sif, ev_sif1, ev_ret, ev_ret1, ev_retz, ev_retzb, ev_retzc, ev_retz1, ev_retc, ev_asg, ev_s0, ev_s1, ev_s2, ev_s3, ev_s4, ev_s5, ev_s6, ev_s7, ev_s8, ev_s9, ev_s10, ev_s11, ev_exp, ev_exp1, ev_pf, ev_pf2, ev_pf1, ev_pz, ev_pz2, ev_pz1, ev_of, ev_of2, ev_of1, ev_st, ev_as, ev_as3, ev_as2, ev_as1, ev_oa, ev_oa3, ev_oa2, ev_oa1, ev_oa0, ev_cp, ev_cp3, ev_cp2, ev_cp1, ev_sw, ev_sw1, ev_swb0, ev_swb1, ev_swb3, ev_swbi, ev_fin3, ev_fin0, ev_fini, ev_iv, ev_ic, ev_b1, ev_b2, ev_b3, ev_b4, ev_b5, ev_b6, ev_or12, ev_lp, ev_lc, ev_lb0, ev_lb1, ev_lb2, ev_lb3, ev_lbi, ev_lu, ev_ass, Int.reduceAdd, Int.reduceSub, Int.reduceMul, Int.reduceNeg, Int.reduceLT, Int.reduceLE, Int.reduceGT, Int.reduceGE, Int.reduceEq, Int.reduceNe, Int.reduceDiv, Int.reduceMod, Int.reduceToNat, Nat.reduceAdd, Nat.reduceMul, Nat.reduceSub, Nat.reduceLT, Nat.reduceEqDiff, Int.reduceNatCast', reduceIte, ite_true, ite_false, if_true, if_false, decide_eq_true_eq, decide_true, decide_false, decide_not, Bool.not_eq_true', decide_eq_false_iff_not, Bool.not_not, Bool.and_eq_true, Bool.or_eq_true, Bool.not_true, Bool.not_false, not_true_eq_false, not_false_eq_true, true_and, and_true, false_and, and_false, true_or, or_true, false_or, or_false, Bool.true_and, Bool.and_true, Bool.false_and, Bool.and_false, Bool.true_or, Bool.or_true, Bool.or_false, Bool.false_or, Bool.not_eq_false', Bool.true_eq_false, Bool.false_eq_true, eq_self, Classical.not_not, ite_not, ne_eq, Option.some.injEq, Prod.mk.injEq, L_87, L_88, L_90, o1', t1, t2, z1', n2]
      exact RS.go ⟨_, rfl, rfl⟩
  · rintro E τ ⟨y, rfl, rfl⟩
    have q : ¬ n < n := by omega
    simp only [ev_op, ev_op2, ev_op1, ev_dv, ev_dv2, ev_dv1, ev_un, ev_un1, ev_lit, ev_l0, ev_l1, ev_l2, ev_l3, ev_l4, ev_l5, ev_l6, ev_l7, ev_l8, ev_l9, ev_l10, ev_l11, ev_rf, ev_gi, ev_gi1, ev_gi2, ev_gr, ev_gr1, ev_at0, ev_at, ev_al, ev_al2, ev_al1, ev_an, ev_an1, ev_vs0, ev_vs, ev_vs2, ev_vs1, ev_ca, ev_ca1, ev_cv, ev_cv1, ev_cv2, ev_if, ev_if1, ev_cmp, ev_cmp2, ev_cmp1, ev_not, ev_not1, ev_and, ev_and1, ev_or, ev_or1, ev_e, ev_e1, ev_cif, ev_cif1, ev_qlt, ev_qle, ev_qgt, ev_qge, ev_qeq, ev_qne, ev_skip, ev_brk, ev_cnt, ev_retv, ev_seq, ev_seq0, ev_seq1, ev_seq2, ev_seq3, ev_seqi, ev_sif, ev_sif1, ev_ret, ev_ret1, ev_retz, ev_retzb, ev_retzc, ev_retz1, ev_retc, ev_asg, ev_s0, ev_s1, ev_s2, ev_s3, ev_s4, ev_s5, ev_s6, ev_s7, ev_s8, ev_s9, ev_s10, ev_s11, ev_exp, ev_exp1, ev_pf, ev_pf2, ev_pf1, ev_pz, ev_pz2, ev_pz1, ev_of, ev_of2, ev_of1, ev_st, ev_as, ev_as3, ev_as2, ev_as1, ev_oa, ev_oa3, ev_oa2, ev_oa1, ev_oa0, ev_cp, ev_cp3, ev_cp2, ev_cp1, ev_sw, ev_sw1, ev_swb0, ev_swb1, ev_swb3, ev_swbi, ev_fin3, ev_fin0, ev_fini, ev_iv, ev_ic, ev_b1, ev_b2, ev_b3, ev_b4, ev_b5, ev_b6, ev_or12, ev_lp, ev_lc, ev_lb0, ev_lb1, ev_lb2, ev_lb3, ev_lbi, ev_lu, ev_ass, Int.reduceAdd, Int.reduceSub, Int.reduceMul, Int.reduceNeg, Int.reduceLT, Int.reduceLE, Int.reduceGT, Int.reduceGE, Int.reduceEq, Int.reduceNe, Int.reduceDiv, Int.reduceMod, Int.reduceToNat, Nat.reduceAdd, Nat.reduceMul, Nat.reduceSub, Nat.reduceLT, Nat.reduceEqDiff, Int.reduceNatCast', reduceIte, ite_true, ite_false, if_true, if_false, decide_eq_true_eq, decide_true, decide_false, decide_not, Bool.not_eq_true', decide_eq_false_iff_not, Bool.not_not, Bool.and_eq_true, Bool.or_eq_true, Bool.not_true, Bool.not_false, not_true_eq_false, not_false_eq_true, true_and, and_true, false_and, and_false, true_or, or_true, false_or, or_false, Bool.true_and, Bool.and_true, Bool.false_and, Bool.and_false, Bool.true_or, Bool.or_true, Bool.or_false, Bool.false_or, Bool.not_eq_false', Bool.true_eq_false, Bool.false_eq_true, eq_self, Classical.not_not, ite_not, ne_eq, Option.some.injEq, Prod.mk.injEq, L_87, L_88, hn.1, q]
    exact RS.done ⟨_, rfl⟩
/-- the value of a place of the table -/
def fvl (υ : cvM) (e all done c n : Int) : Int := itI (fg υ all done c) (if done = all then rm υ c e else -1) n
theorem fvl_ok {σ υ : cvM} (h : WR σ) (hu : ∀ a, a ≠ 122 → υ a = σ a) {e all done c : Int} (he : 0 ≤ e ∧ e < σ 88 1) (ha : 0 ≤ all ∧ all < 256) (hin : ∀ i, 0 ≤ i → tb all i = true → i < σ 88 1) (hd : 0 ≤ done) (hsub : ∀ i, 0 ≤ i → tb done i = true → tb all i = true) (hc : 0 ≤ c ∧ c < σ 88 1) (hcl : tb (lft all done) c = false) (hg : ∀ o, 0 ≤ o → o < σ 88 1 → tb all o = true → tb done o = false → tgo υ σ e all (xw done o true) o) : ∀ f, p8 (lft all done) ≤ f → fvl υ e all done c (σ 88 1) = shm σ e f c (lft all done) := by
  intro f hf
  have c3 := cnt_3 h
  have lb := lft_bd all done
  have e90 := hu 90 (by decide)
  have rmu : rm υ c e = rm σ c e := by unfold rm; rw [e90]
  by_cases z2 : done = all
  · have l0 : lft all done = 0 := by
      refine tb_ext lb.1 (by decide) fun j j0 => ?_
      rw [tb_lft j0 ha.2, z2, tb_0]
      cases tb all j <;> rfl
    have G0 : fvl υ e all done c (σ 88 1) = rm σ c e := by
      unfold fvl
      rw [if_pos z2, rmu]
      refine itI_inv (I := fun _ x => x = rm σ c e) c3.2.1 rfl fun j x j0 j1 hx => ?_
      unfold fg
      rw [if_neg, hx]
      rintro ⟨a1, a2, _⟩
      rw [z2, a1] at a2
      cases a2
    rw [G0, l0]
    cases f with
    | zero => rfl
    | succ f => unfold shm; rw [if_pos rfl]
  · have l0 : lft all done ≠ 0 := fun e => z2 (by
      refine tb_ext hd ha.1 fun j j0 => ?_
      have := tb_lft (all := all) (done := done) j0 ha.2
      rw [e, tb_0] at this
      cases hA : tb all j with
      | false =>
        cases hD : tb done j with
        | false => rfl
        | true => rw [hsub j j0 hD] at hA; cases hA
      | true =>
        rw [hA] at this
        cases hD : tb done j with
        | true => rfl
        | false => rw [hD] at this; cases this)
    obtain ⟨j, j0, j1, j2⟩ := p8_ex lb l0
    have jn : j < σ 88 1 := by
      rw [tb_lft j0 ha.2] at j2
      simp only [Bool.and_eq_true] at j2
      exact hin j j0 j2.1
    have hp8 := p8_out (x := lft all done) ⟨j0, j1⟩ j2
    obtain ⟨f, rfl⟩ : ∃ g, f = g + 1 := ⟨f - 1, by omega⟩
    let w : Int → Int := fun o => oadd (υ 90 (8 * c + o)) (υ 122 (8 * xw done o true + o))
    have hcell : ∀ o, 0 ≤ o → o < 8 → tb (lft all done) o = true → w o = rm σ c o + shm σ e f o (xw (lft all done) o false) ∧ 0 ≤ w o ∧ w o ≤ 1000000 := by
      intro o o0 o1 ho
      have ho2 := ho
      rw [tb_lft o0 ha.2] at ho2
      simp only [Bool.and_eq_true, Bool.not_eq_true'] at ho2
      have hno := hin o o0 ho2.1
      have g := hg o o0 hno ho2.1 ho2.2
      have hp9 := p8_out (x := lft all done) ⟨o0, o1⟩ ho
      have hx8 := xw8 (x := lft all done) (p := o) (q := false) lb ⟨o0, o1⟩
      have g1 := g f (by rw [lft_s ha.2 o0]; omega)
      have g2 := g (p8 (xw (lft all done) o false)) (by rw [lft_s ha.2 o0]; exact Nat.le_refl _)
      have bl := shm_le h (e := e) ⟨he.1, by omega⟩ (p8 (xw (lft all done) o false)) o (xw (lft all done) o false) ⟨o0, o1⟩ hx8 (Nat.le_refl _)
      have bl2 := shm_bd h (e := e) ⟨he.1, by omega⟩ (p8 (xw (lft all done) o false)) o (xw (lft all done) o false) ⟨o0, o1⟩
      have p9 : p8 (xw (lft all done) o false) ≤ 8 := pc_le _ 8
      have rr := rm_bd h (a := c) (b := o) (by omega) ⟨o0, o1⟩
      have hne : ¬ c = o := fun e => by rw [e, ho] at hcl; cases hcl
      have er : rm σ c o = σ 90 (8 * c + o) := if_neg hne
      rw [lft_s ha.2 o0] at g1 g2
      show oadd (υ 90 (8 * c + o)) (υ 122 (8 * xw done o true + o)) = _ ∧ 0 ≤ oadd (υ 90 (8 * c + o)) (υ 122 (8 * xw done o true + o)) ∧ oadd (υ 90 (8 * c + o)) (υ 122 (8 * xw done o true + o)) ≤ 1000000
      rw [e90, ← er]
      have n1 := n_add (show -2147483648 ≤ rm σ c o + υ 122 (8 * xw done o true + o) ∧ rm σ c o + υ 122 (8 * xw done o true + o) < 2147483648 by omega)
      rw [n1]
      refine ⟨by rw [g1], ?_⟩
      omega
    unfold shm
    rw [if_neg l0]
    have L := least2 (fun o => tb (lft all done) o) w c3.2.1 (fun o o0 o1 ho => (hcell o o0 (by omega) ho).2)
    have M := itI_more (fun o b => if tb (lft all done) o = true then min b (w o) else b) 1000000 c3.2.1 (8 - σ 88 1).toNat (fun o x o0 o1 => by
      rw [if_neg]
      intro ho
      rw [tb_lft (by omega) ha.2] at ho
      simp only [Bool.and_eq_true] at ho
      have := hin o (by omega) ho.1
      omega)
    rw [show σ 88 1 + ((8 - σ 88 1).toNat : Int) = 8 by omega] at M
    have X : itI (fun o b => if tb (lft all done) o = true then min b (w o) else b) 1000000 8 = itI (fun o b => if tb (lft all done) o = true then min b (rm σ c o + shm σ e f o (xw (lft all done) o false)) else b) 1000000 8 := itI_ext _ (by decide) fun o x o0 o1 => by
      by_cases ho : tb (lft all done) o = true
      · rw [if_pos ho, if_pos ho, (hcell o o0 o1 ho).1]
      · rw [if_neg ho, if_neg ho]
    have Y : fvl υ e all done c (σ 88 1) = itI (fun o b => if tb (lft all done) o = true then (if b < 0 ∨ w o < b then w o else b) else b) (-1) (σ 88 1) := by
      unfold fvl
      rw [if_neg z2]
      refine itI_ext _ c3.2.1 fun o x o0 o1 => ?_
      unfold fg
      have tl := tb_lft (all := all) (done := done) o0 ha.2
      by_cases ho : tb (lft all done) o = true
      · rw [if_pos ho]
        rw [ho] at tl
        have tl := tl.symm
        simp only [Bool.and_eq_true, Bool.not_eq_true'] at tl
        rw [if_pos ⟨tl.1, tl.2, fun e => by rw [← e, ho] at hcl; cases hcl⟩]
      · rw [if_neg ho, if_neg]
        rintro ⟨a1, a2, _⟩
        rw [a1, a2] at tl
        exact ho tl
    rw [Y, ← X, M]
    rcases L with ⟨L0, _⟩ | ⟨L1, _⟩
    · have := L0 j j0 jn
      rw [j2] at this
      cases this
    · exact L1
