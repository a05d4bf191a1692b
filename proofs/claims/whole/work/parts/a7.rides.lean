/-! ===== the model's ride: the delays of one leg ===== -/
theorem tb_oor {x y : Int} (hx : 0 ≤ x ∧ x < 2147483648) (hy : 0 ≤ y ∧ y < 2147483648) (i : Int) : tb (oor x y) i = (tb x i || tb y i) := by
  have e := n_or (a := x.toNat) (b := y.toNat) (by omega) (by omega)
  rw [Int.toNat_of_nonneg hx.1, Int.toNat_of_nonneg hy.1] at e
  rw [e]
  unfold tb
  rw [Int.toNat_natCast, Nat.testBit_or]
/-- the set and the minutes as the model gathers them -/
def dnS (σ : cvM) (v t D i : Int) : Int := oor D (bI (dlP σ v t) i)
def dnM (σ : cvM) (v t D n : Int) : Int := itI (fun d a => a + if (dlP σ v t d && !(tb D d)) = true then σ 95 (4 * d + 3) else 0) 0 n
theorem dnM_dl {σ : cvM} (h : WR σ) (v t : Int) {D : Int} (hD : 0 ≤ D ∧ D < 256) : dnM σ v t D (σ 88 4) = dlM σ (oand (dlS σ v t) (oxor D (-1))) (σ 88 4) := by
  have c := cnt_6 h
  have l := dlS_lt h v t
  refine itI_ext 0 c.2.1 fun d a d0 d1 => ?_
  rw [tb_not (by omega) (by omega)]
  unfold dlS
  rw [tb_bI _ _ d0, decide_eq_true d1, Bool.true_and]
theorem lp_lost {τ : cvM} (h : WR τ) {v t D : Int} (hD : 0 ≤ D ∧ D < 256) (S a j : Int) (x8 : Option Int) : xs_lp ((xc_cmp qlt (xe_loc 8) (xe_al (xe_gr 12 0 (xe_loc 0)) (xe_lit 4)))) ((xs_if (xc_and (xc_and (xc_cmp qeq (xe_al (xe_gr 12 7 (xe_loc 0)) (xe_op omul (xe_lit 4) (xe_loc 8))) (xe_loc 1)) (xc_cmp qle (xe_al (xe_gr 12 7 (xe_loc 0)) (xe_op oadd (xe_op omul (xe_lit 4) (xe_loc 8)) (xe_lit 1))) (xe_loc 4))) (xc_cmp qeq (xe_op oand (xe_op oshr (xe_loc 5) (xe_loc 8)) (xe_lit 1)) (xe_lit 0))) (xs_seq (xs_asg 7 (xe_op oadd (xe_loc 7) (xe_al (xe_gr 12 7 (xe_loc 0)) (xe_op oadd (xe_op omul (xe_lit 4) (xe_loc 8)) (xe_lit 3))))) (xs_asg 5 (xe_op oor (xe_loc 5) (xe_op oshl (xe_lit 1) (xe_loc 8))))) xs_skip)) ((xs_asg 8 (xe_op oadd (xe_loc 8) (xe_lit 1)))) [some 87, some v, some S, some a, some t, some D, some j, some 0, some 0] τ = some (0, 0, [some 87, some v, some S, some a, some t, some (tkT τ v t D), some j, some (dlM τ (oand (dlS τ v t) (oxor D (-1))) (τ 88 4)), some (τ 88 4)], τ) := by
  have c := cnt_6 h
  rw [← dnM_dl h v t hD]
  have bl : ∀ i, i ≤ 8 → 0 ≤ bI (dlP τ v t) i ∧ bI (dlP τ v t) i < 256 := fun i hi => bI_le _ _ 8 (by omega)
  have ol : ∀ i, i ≤ 8 → 0 ≤ dnS τ v t D i ∧ dnS τ v t D i < 256 := fun i hi => oor_lt 8 (by decide) hD (bl i hi)
  have bd : ∀ i, 0 ≤ i → i ≤ τ 88 4 → 0 ≤ dnM τ v t D i ∧ dnM τ v t D i ≤ 240 * i := fun i i0 i1 => by
    refine itI_inv (fun i a => 0 ≤ a ∧ a ≤ 240 * i) i0 (by omega) fun k a k0 k1 g => ?_
    have := h.rD k k0 (by omega)
    show 0 ≤ a + (if (dlP τ v t k && !(tb D k)) = true then τ 95 (4 * k + 3) else 0) ∧ a + (if (dlP τ v t k && !(tb D k)) = true then τ 95 (4 * k + 3) else 0) ≤ 240 * (k + 1)
    split <;> omega
  have z0 : dnS τ v t D 0 = D := by
    unfold dnS
    rw [bI_0]
    have e := n_or (a := D.toNat) (b := 0) (by omega) (by omega)
    rw [Int.toNat_of_nonneg hD.1, Nat.or_zero, Int.toNat_of_nonneg hD.1] at e
    exact e
  rw [lp_I (fun i => ([some 87, some v, some S, some a, some t, some (dnS τ v t D i), some j, some (dnM τ v t D i), some i], τ)) 0 (τ 88 4) (0, 0, [some 87, some v, some S, some a, some t, some (tkT τ v t D), some j, some (dnM τ v t D (τ 88 4)), some (τ 88 4)], τ) c.2.1 ?_ ?_ ?_]
  · rw [z0]
    rfl
  · intro i h0 h1
    have m0 : omul 4 i = 4 * i := n_mul (by omega)
    have m1 : oadd (4 * i) 1 = 4 * i + 1 := n_add (by omega)
    have m3 : oadd (4 * i) 3 = 4 * i + 3 := n_add (by omega)
    have r0 : 0 ≤ 4 * i ∧ 4 * i < 32 := by omega
    have r1 : 0 ≤ 4 * i + 1 ∧ 4 * i + 1 < 32 := by omega
    have r3 : 0 ≤ 4 * i + 3 ∧ 4 * i + 3 < 32 := by omega
    have n1 := n_add (show -2147483648 ≤ i + 1 ∧ i + 1 < 2147483648 by omega)
    have o1 := ol i (by omega)
    have t1 : oand (oshr (dnS τ v t D i) i) 1 = if tb (dnS τ v t D i) i = true then 1 else 0 := i_tb (by omega) (by omega)
    have bl1 := bl i (by omega)
    have bi : tb (dnS τ v t D i) i = tb D i := by
      unfold dnS
      rw [tb_oor (by omega) (by omega), tb_bI _ _ h0, decide_eq_false (show ¬ i < i by omega), Bool.false_and, Bool.or_false]
    rw [bi] at t1
    have sM : dnM τ v t D (i + 1) = dnM τ v t D i + if (dlP τ v t i && !(tb D i)) = true then τ 95 (4 * i + 3) else 0 := itI_s _ _ h0
    have bb := bd i h0 (by omega)
    have gd := h.rD i h0 h1
    have o2 := ol (i + 1) (by omega)
    have bl2 := bl (i + 1) (by omega)
    have same : (dlP τ v t i && !(tb D i)) = false → dnS τ v t D (i + 1) = dnS τ v t D i := fun e => by
      refine tb_ext o2.1 o1.1 fun k k0 => ?_
      unfold dnS
      rw [tb_oor (by omega) (by omega), tb_oor (by omega) (by omega), tb_bI _ _ k0, tb_bI _ _ k0]
      by_cases z : k = i
      · rw [z, decide_eq_true (show i < i + 1 by omega), decide_eq_false (show ¬ i < i by omega)]
        cases e1 : dlP τ v t i <;> cases e2 : tb D i <;> simp [e1, e2] at e ⊢
      · by_cases z2 : k < i
        · rw [decide_eq_true z2, decide_eq_true (show k < i + 1 by omega)]
        · rw [decide_eq_false z2, decide_eq_false (show ¬ k < i + 1 by omega)]
    have more : (dlP τ v t i && !(tb D i)) = true → oor (dnS τ v t D i) (oshl 1 i) = dnS τ v t D (i + 1) := fun e => by
      rw [i_or 8 (by decide) o1 (by omega)]
      have xl := xw_lt (x := dnS τ v t D i) (p := i) (q := true) 8 o1 (by omega)
      refine tb_ext xl.1 o2.1 fun k k0 => ?_
      rw [tb_xw h0 k0]
      unfold dnS
      rw [tb_oor (by omega) (by omega), tb_oor (by omega) (by omega), tb_bI _ _ k0, tb_bI _ _ k0]
      by_cases z : k = i
      · rw [if_pos z, z, decide_eq_true (show i < i + 1 by omega), (Bool.and_eq_true_iff.mp e).1, Bool.true_and, Bool.or_true]
      · rw [if_neg z]
        by_cases z2 : k < i
        · rw [decide_eq_true z2, decide_eq_true (show k < i + 1 by omega)]
        · rw [decide_eq_false z2, decide_eq_false (show ¬ k < i + 1 by omega)]
    by_cases q1 : τ 95 (4 * i) = v
    · by_cases q2 : τ 95 (4 * i + 1) ≤ t
      · have p1 : dlP τ v t i = true := by unfold dlP; rw [decide_eq_true q1, decide_eq_true q2]; rfl
        by_cases q3 : tb D i = true
        · rw [if_pos q3] at t1
          have e : (dlP τ v t i && !(tb D i)) = false := by rw [p1, q3]; rfl
          rw [sM, if_neg (by rw [e]; decide), same e, Int.add_zero]
          simp only [ev_op, ev_op2, ev_op1, ev_dv, ev_dv2, ev_dv1, ev_un, ev_un1, ev_lit, ev_l0, ev_l1, ev_l2, ev_l3, ev_l4, ev_l5, ev_l6, ev_l7, ev_l8, ev_l9, ev_l10, ev_l11, ev_rf, ev_gi, ev_gi1, ev_gi2, ev_gr, ev_gr1, ev_at0, ev_at, ev_al, ev_al2, ev_al1, ev_an, ev_an1, ev_vs0, ev_vs, ev_vs2, ev_vs1, ev_ca, ev_ca1, ev_cv, ev_cv1, ev_cv2, ev_if, ev_if1, ev_cmp, ev_cmp2, ev_cmp1, ev_not, ev_not1, ev_and, ev_and1, ev_or, ev_or1, ev_e, ev_e1, ev_cif, ev_cif1, ev_qlt, ev_qle, ev_qgt, ev_qge, ev_qeq, ev_qne, ev_skip, ev_brk, ev_cnt, ev_retv, ev_seq, ev_seq0, ev_seq1, ev_seq2, ev_seq3, ev_seqi, ev_sif, ev_sif1, ev_ret, ev_ret1, ev_retz, ev_retzb, ev_retzc, ev_retz1, ev_retc, ev_asg, ev_s0, ev_s1, ev_s2, ev_s3, ev_s4, ev_s5, ev_s6, ev_s7, ev_s8, ev_s9, ev_s10, ev_s11, ev_exp, ev_exp1, ev_pf, ev_pf2, ev_pf1, ev_pz, ev_pz2, ev_pz1, ev_of, ev_of2, ev_of1, ev_st, ev_as, ev_as3, ev_as2, ev_as1, ev_oa, ev_oa3, ev_oa2, ev_oa1, ev_oa0, ev_cp, ev_cp3, ev_cp2, ev_cp1, ev_sw, ev_sw1, ev_swb0, ev_swb1, ev_swb3, ev_swbi, ev_fin3, ev_fin0, ev_fini, ev_iv, ev_ic, ev_b1, ev_b2, ev_b3, ev_b4, ev_b5, ev_b6, ev_or12, ev_lp, ev_lc, ev_lb0, ev_lb1, ev_lb2, ev_lb3, ev_lbi, ev_lu, ev_ass, Int.reduceAdd, Int.reduceSub, Int.reduceMul, Int.reduceNeg, Int.reduceLT, Int.reduceLE, Int.reduceGT, Int.reduceGE, Int.reduceEq, Int.reduceNe, Int.reduceDiv, Int.reduceMod, Int.reduceToNat, Nat.reduceAdd, Nat.reduceMul, Nat.reduceSub, Nat.reduceLT, Nat.reduceEqDiff, Int.reduceNatCast', reduceIte, ite_true, ite_false, if_true, if_false, decide_eq_true_eq, decide_true, decide_false, decide_not, Bool.not_eq_true', decide_eq_false_iff_not, Bool.not_not, Bool.and_eq_true, Bool.or_eq_true, Bool.not_true, Bool.not_false, not_true_eq_false, not_false_eq_true, true_and, and_true, false_and, and_false, true_or, or_true, false_or, or_false, Bool.true_and, Bool.and_true, Bool.false_and, Bool.and_false, Bool.true_or, Bool.or_true, Bool.or_false, Bool.false_or, Bool.not_eq_false', Bool.true_eq_false, Bool.false_eq_true, eq_self, Classical.not_not, ite_not, ne_eq, Option.some.injEq, Prod.mk.injEq, L_87, L_88, L_95, h1, m0, m1, r0, r1, eq_true q1, q2, t1, n1]
        · rw [if_neg q3] at t1
          have q3' : tb D i = false := by cases e : tb D i; rfl; exact absurd e q3
          have e : (dlP τ v t i && !(tb D i)) = true := by rw [p1, q3']; rfl
          have a1 : oadd (dnM τ v t D i) (τ 95 (4 * i + 3)) = dnM τ v t D i + τ 95 (4 * i + 3) := n_add (by omega)
          have mo := more e
          rw [sM, if_pos e]
          simp only [ev_op, ev_op2, ev_op1, ev_dv, ev_dv2, ev_dv1, ev_un, ev_un1, ev_lit, ev_l0, ev_l1, ev_l2, ev_l3, ev_l4, ev_l5, ev_l6, ev_l7, ev_l8, ev_l9, ev_l10, ev_l11, ev_rf, ev_gi, ev_gi1, ev_gi2, ev_gr, ev_gr1, ev_at0, ev_at, ev_al, ev_al2, ev_al1, ev_an, ev_an1, ev_vs0, ev_vs, ev_vs2, ev_vs1, ev_ca, ev_ca1, ev_cv, ev_cv1, ev_cv2, ev_if, ev_if1, ev_cmp, ev_cmp2, ev_cmp1, ev_not, ev_not1, ev_and, ev_and1, ev_or, ev_or1, ev_e, ev_e1, ev_cif, ev_cif1, ev_qlt, ev_qle, ev_qgt, ev_qge, ev_qeq, ev_qne, ev_skip, ev_brk, ev_cnt, ev_retv, ev_seq, ev_seq0, ev_seq1, ev_seq2, ev_seq3, ev_seqi, ev_sif, ev_sif1, ev_ret, ev_ret1, ev_retz, ev_retzb, ev_retzc, ev_retz1, ev_retc, ev_asg, ev_s0, ev_s1, ev_s2, ev_s3, ev_s4, ev_s5, ev_s6, ev_s7, ev_s8, ev_s9, ev_s10, ev_s11, ev_exp, ev_exp1, ev_pf, ev_pf2, ev_pf1, ev_pz, ev_pz2, ev_pz1, ev_of, ev_of2, ev_of1, ev_st, ev_as, ev_as3, ev_as2, ev_as1, ev_oa, ev_oa3, ev_oa2, ev_oa1, ev_oa0, ev_cp, ev_cp3, ev_cp2, ev_cp1, ev_sw, ev_sw1, ev_swb0, ev_swb1, ev_swb3, ev_swbi, ev_fin3, ev_fin0, ev_fini, ev_iv, ev_ic, ev_b1, ev_b2, ev_b3, ev_b4, ev_b5, ev_b6, ev_or12, ev_lp, ev_lc, ev_lb0, ev_lb1, ev_lb2, ev_lb3, ev_lbi, ev_lu, ev_ass, Int.reduceAdd, Int.reduceSub, Int.reduceMul, Int.reduceNeg, Int.reduceLT, Int.reduceLE, Int.reduceGT, Int.reduceGE, Int.reduceEq, Int.reduceNe, Int.reduceDiv, Int.reduceMod, Int.reduceToNat, Nat.reduceAdd, Nat.reduceMul, Nat.reduceSub, Nat.reduceLT, Nat.reduceEqDiff, Int.reduceNatCast', reduceIte, ite_true, ite_false, if_true, if_false, decide_eq_true_eq, decide_true, decide_false, decide_not, Bool.not_eq_true', decide_eq_false_iff_not, Bool.not_not, Bool.and_eq_true, Bool.or_eq_true, Bool.not_true, Bool.not_false, not_true_eq_false, not_false_eq_true, true_and, and_true, false_and, and_false, true_or, or_true, false_or, or_false, Bool.true_and, Bool.and_true, Bool.false_and, Bool.and_false, Bool.true_or, Bool.or_true, Bool.or_false, Bool.false_or, Bool.not_eq_false', Bool.true_eq_false, Bool.false_eq_true, eq_self, Classical.not_not, ite_not, ne_eq, Option.some.injEq, Prod.mk.injEq, L_87, L_88, L_95, h1, m0, m1, m3, r0, r1, r3, eq_true q1, q2, t1, n1, a1, mo]
      · have e : (dlP τ v t i && !(tb D i)) = false := by unfold dlP; rw [decide_eq_false q2, Bool.and_false]; rfl
        rw [sM, if_neg (by rw [e]; decide), same e, Int.add_zero]
        simp only [ev_op, ev_op2, ev_op1, ev_dv, ev_dv2, ev_dv1, ev_un, ev_un1, ev_lit, ev_l0, ev_l1, ev_l2, ev_l3, ev_l4, ev_l5, ev_l6, ev_l7, ev_l8, ev_l9, ev_l10, ev_l11, ev_rf, ev_gi, ev_gi1, ev_gi2, ev_gr, ev_gr1, ev_at0, ev_at, ev_al, ev_al2, ev_al1, ev_an, ev_an1, ev_vs0, ev_vs, ev_vs2, ev_vs1, ev_ca, ev_ca1, ev_cv, ev_cv1, ev_cv2, ev_if, ev_if1, ev_cmp, ev_cmp2, ev_cmp1, ev_not, ev_not1, ev_and, ev_and1, ev_or, ev_or1, ev_e, ev_e1, ev_cif, ev_cif1, ev_qlt, ev_qle, ev_qgt, ev_qge, ev_qeq, ev_qne, ev_skip, ev_brk, ev_cnt, ev_retv, ev_seq, ev_seq0, ev_seq1, ev_seq2, ev_seq3, ev_seqi, ev_sif, ev_sif1, ev_ret, ev_ret1, ev_retz, ev_retzb, ev_retzc, ev_retz1, ev_retc, ev_asg, ev_s0, ev_s1, ev_s2, ev_s3, ev_s4, ev_s5, ev_s6, ev_s7, ev_s8, ev_s9, ev_s10, ev_s11, ev_exp, ev_exp1, ev_pf, ev_pf2, ev_pf1, ev_pz, ev_pz2, ev_pz1, ev_of, ev_of2, ev_of1, ev_st, ev_as, ev_as3, ev_as2, ev_as1, ev_oa, ev_oa3, ev_oa2, ev_oa1, ev_oa0, ev_cp, ev_cp3, ev_cp2, ev_cp1, ev_sw, ev_sw1, ev_swb0, ev_swb1, ev_swb3, ev_swbi, ev_fin3, ev_fin0, ev_fini, ev_iv, ev_ic, ev_b1, ev_b2, ev_b3, ev_b4, ev_b5, ev_b6, ev_or12, ev_lp, ev_lc, ev_lb0, ev_lb1, ev_lb2, ev_lb3, ev_lbi, ev_lu, ev_ass, Int.reduceAdd, Int.reduceSub, Int.reduceMul, Int.reduceNeg, Int.reduceLT, Int.reduceLE, Int.reduceGT, Int.reduceGE, Int.reduceEq, Int.reduceNe, Int.reduceDiv, Int.reduceMod, Int.reduceToNat, Nat.reduceAdd, Nat.reduceMul, Nat.reduceSub, Nat.reduceLT, Nat.reduceEqDiff, Int.reduceNatCast', reduceIte, ite_true, ite_false, if_true, if_false, decide_eq_true_eq, decide_true, decide_false, decide_not, Bool.not_eq_true', decide_eq_false_iff_not, Bool.not_not, Bool.and_eq_true, Bool.or_eq_true, Bool.not_true, Bool.not_false, not_true_eq_false, not_false_eq_true, true_and, and_true, false_and, and_false, true_or, or_true, false_or, or_false, Bool.true_and, Bool.and_true, Bool.false_and, Bool.and_false, Bool.true_or, Bool.or_true, Bool.or_false, Bool.false_or, Bool.not_eq_false', Bool.true_eq_false, Bool.false_eq_true, eq_self, Classical.not_not, ite_not, ne_eq, Option.some.injEq, Prod.mk.injEq, L_87, L_88, L_95, h1, m0, m1, r0, r1, eq_true q1, q2, n1]
    · have e : (dlP τ v t i && !(tb D i)) = false := by unfold dlP; rw [decide_eq_false q1]; rfl
      rw [sM, if_neg (by rw [e]; decide), same e, Int.add_zero]
      simp only [ev_op, ev_op2, ev_op1, ev_dv, ev_dv2, ev_dv1, ev_un, ev_un1, ev_lit, ev_l0, ev_l1, ev_l2, ev_l3, ev_l4, ev_l5, ev_l6, ev_l7, ev_l8, ev_l9, ev_l10, ev_l11, ev_rf, ev_gi, ev_gi1, ev_gi2, ev_gr, ev_gr1, ev_at0, ev_at, ev_al, ev_al2, ev_al1, ev_an, ev_an1, ev_vs0, ev_vs, ev_vs2, ev_vs1, ev_ca, ev_ca1, ev_cv, ev_cv1, ev_cv2, ev_if, ev_if1, ev_cmp, ev_cmp2, ev_cmp1, ev_not, ev_not1, ev_and, ev_and1, ev_or, ev_or1, ev_e, ev_e1, ev_cif, ev_cif1, ev_qlt, ev_qle, ev_qgt, ev_qge, ev_qeq, ev_qne, ev_skip, ev_brk, ev_cnt, ev_retv, ev_seq, ev_seq0, ev_seq1, ev_seq2, ev_seq3, ev_seqi, ev_sif, ev_sif1, ev_ret, ev_ret1, ev_retz, ev_retzb, ev_retzc, ev_retz1, ev_retc, ev_asg, ev_s0, ev_s1, ev_s2, ev_s3, ev_s4, ev_s5, ev_s6, ev_s7, ev_s8, ev_s9, ev_s10, ev_s11, ev_exp, ev_exp1, ev_pf, ev_pf2, ev_pf1, ev_pz, ev_pz2, ev_pz1, ev_of, ev_of2, ev_of1, ev_st, ev_as, ev_as3, ev_as2, ev_as1, ev_oa, ev_oa3, ev_oa2, ev_oa1, ev_oa0, ev_cp, ev_cp3, ev_cp2, ev_cp1, ev_sw, ev_sw1, ev_swb0, ev_swb1, ev_swb3, ev_swbi, ev_fin3, ev_fin0, ev_fini, ev_iv, ev_ic, ev_b1, ev_b2, ev_b3, ev_b4, ev_b5, ev_b6, ev_or12, ev_lp, ev_lc, ev_lb0, ev_lb1, ev_lb2, ev_lb3, ev_lbi, ev_lu, ev_ass, Int.reduceAdd, Int.reduceSub, Int.reduceMul, Int.reduceNeg, Int.reduceLT, Int.reduceLE, Int.reduceGT, Int.reduceGE, Int.reduceEq, Int.reduceNe, Int.reduceDiv, Int.reduceMod, Int.reduceToNat, Nat.reduceAdd, Nat.reduceMul, Nat.reduceSub, Nat.reduceLT, Nat.reduceEqDiff, Int.reduceNatCast', reduceIte, ite_true, ite_false, if_true, if_false, decide_eq_true_eq, decide_true, decide_false, decide_not, Bool.not_eq_true', decide_eq_false_iff_not, Bool.not_not, Bool.and_eq_true, Bool.or_eq_true, Bool.not_true, Bool.not_false, not_true_eq_false, not_false_eq_true, true_and, and_true, false_and, and_false, true_or, or_true, false_or, or_false, Bool.true_and, Bool.and_true, Bool.false_and, Bool.and_false, Bool.true_or, Bool.or_true, Bool.or_false, Bool.false_or, Bool.not_eq_false', Bool.true_eq_false, Bool.false_eq_true, eq_self, Classical.not_not, ite_not, ne_eq, Option.some.injEq, Prod.mk.injEq, L_87, L_88, L_95, h1, m0, m1, r0, r1, q1, n1]
  · have q : ¬ τ 88 4 < τ 88 4 := by omega
    have e : dnS τ v t D (τ 88 4) = tkT τ v t D := rfl
    simp only [ev_op, ev_op2, ev_op1, ev_dv, ev_dv2, ev_dv1, ev_un, ev_un1, ev_lit, ev_l0, ev_l1, ev_l2, ev_l3, ev_l4, ev_l5, ev_l6, ev_l7, ev_l8, ev_l9, ev_l10, ev_l11, ev_rf, ev_gi, ev_gi1, ev_gi2, ev_gr, ev_gr1, ev_at0, ev_at, ev_al, ev_al2, ev_al1, ev_an, ev_an1, ev_vs0, ev_vs, ev_vs2, ev_vs1, ev_ca, ev_ca1, ev_cv, ev_cv1, ev_cv2, ev_if, ev_if1, ev_cmp, ev_cmp2, ev_cmp1, ev_not, ev_not1, ev_and, ev_and1, ev_or, ev_or1, ev_e, ev_e1, ev_cif, ev_cif1, ev_qlt, ev_qle, ev_qgt, ev_qge, ev_qeq, ev_qne, ev_skip, ev_brk, ev_cnt, ev_retv, ev_seq, ev_seq0, ev_seq1, ev_seq2, ev_seq3, ev_seqi, ev_sif, ev_sif1, ev_ret, ev_ret1, ev_retz, ev_retzb, ev_retzc, ev_retz1, ev_retc, ev_asg, ev_s0, ev_s1, ev_s2, ev_s3, ev_s4, ev_s5, ev_s6, ev_s7, ev_s8, ev_s9, ev_s10, ev_s11, ev_exp, ev_exp1, ev_pf, ev_pf2, ev_pf1, ev_pz, ev_pz2, ev_pz1, ev_of, ev_of2, ev_of1, ev_st, ev_as, ev_as3, ev_as2, ev_as1, ev_oa, ev_oa3, ev_oa2, ev_oa1, ev_oa0, ev_cp, ev_cp3, ev_cp2, ev_cp1, ev_sw, ev_sw1, ev_swb0, ev_swb1, ev_swb3, ev_swbi, ev_fin3, ev_fin0, ev_fini, ev_iv, ev_ic, ev_b1, ev_b2, ev_b3, ev_b4, ev_b5, ev_b6, ev_or12, ev_lp, ev_lc, ev_lb0, ev_lb1, ev_lb2, ev_lb3, ev_lbi, ev_lu, ev_ass, Int.reduceAdd, Int.reduceSub, Int.reduceMul, Int.reduceNeg, Int.reduceLT, Int.reduceLE, Int.reduceGT, Int.reduceGE, Int.reduceEq, Int.reduceNe, Int.reduceDiv, Int.reduceMod, Int.reduceToNat, Nat.reduceAdd, Nat.reduceMul, Nat.reduceSub, Nat.reduceLT, Nat.reduceEqDiff, Int.reduceNatCast', reduceIte, ite_true, ite_false, if_true, if_false, decide_eq_true_eq, decide_true, decide_false, decide_not, Bool.not_eq_true', decide_eq_false_iff_not, Bool.not_not, Bool.and_eq_true, Bool.or_eq_true, Bool.not_true, Bool.not_false, not_true_eq_false, not_false_eq_true, true_and, and_true, false_and, and_false, true_or, or_true, false_or, or_false, Bool.true_and, Bool.and_true, Bool.false_and, Bool.and_false, Bool.true_or, Bool.or_true, Bool.or_false, Bool.false_or, Bool.not_eq_false', Bool.true_eq_false, Bool.false_eq_true, eq_self, Classical.not_not, ite_not, ne_eq, Option.some.injEq, Prod.mk.injEq, L_87, L_88, q, e]
