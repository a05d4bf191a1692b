/-! ===== prove: the reference ===== -/
/-- the set of those who ride with the k-th -/
theorem s12_with {υ : cvM} {l a : List Int} (l8 : l.length ≤ 8) (lm : ∀ j : Nat, j < l.length → 0 ≤ l.getD j 0 ∧ l.getD j 0 < 12) (e2 : υ 87 18 = (l.length : Int)) (ew : ∀ j : Nat, j < l.length → υ 104 (j : Int) = l.getD j 0) (ea : ∀ j : Nat, j < l.length → υ 106 (j : Int) = a.getD j (-1)) {k : Nat} (hk : k < l.length) (x1 x2 : Option Int) : WQ (xs_lp ((xc_cmp qlt (xe_loc 5) (xe_gi 12 18 (xe_loc 0)))) ((xs_asg 4 (xe_op oor (xe_loc 4) (xe_if (xc_cmp qeq (xe_al (xe_gr 12 21 (xe_loc 0)) (xe_loc 5)) (xe_al (xe_gr 12 21 (xe_loc 0)) (xe_loc 3))) (xe_op oshl (xe_lit 1) (xe_al (xe_gr 12 19 (xe_loc 0)) (xe_loc 5))) (xe_lit 0))))) ((xs_asg 5 (xe_op oadd (xe_loc 5) (xe_lit 1)))) [some 87, x1, x2, some (k : Int), some 0, some 0] υ) (fun r => r = (0, 0, [some 87, x1, x2, some (k : Int), some (psN l (ceM a (a.getD k (-1)))), some (l.length : Int)], υ)) := by
  refine wq_I (fun i E υ' => ∃ W, E = [some 87, x1, x2, some (k : Int), some W, some i] ∧ υ' = υ ∧ (0 ≤ W ∧ W < 4096) ∧ ∀ o : Int, 0 ≤ o → tb W o = anyI (fun m => tb (ceM a (a.getD k (-1))) m && decide (l.getD m.toNat 0 = o)) i) 0 (l.length : Int) (by omega) ⟨0, rfl, rfl, by decide, fun o o0 => Nat.zero_testBit _⟩ ?_ ?_
  · rintro i E υ' i0 i1 ⟨W, rfl, e, hW, hT⟩
    rw [e]
    obtain ⟨m, rfl⟩ : ∃ m : Nat, i = (m : Int) := ⟨i.toNat, by omega⟩
    have ml : m < l.length := by omega
    have g := ew m ml
    have g1 := ea m ml
    have g2 := ea k hk
    have li := lm m ml
    have r12 : 0 ≤ (m : Int) ∧ (m : Int) < 12 := by omega
    have r8 : 0 ≤ (m : Int) ∧ (m : Int) < 8 := by omega
    have k8 : 0 ≤ (k : Int) ∧ (k : Int) < 8 := by omega
    have l12 : 0 ≤ l.getD m 0 ∧ l.getD m 0 < ((12 : Nat) : Int) := by omega
    have n1 := fun _ : Unit => n_add (show -2147483648 ≤ (m : Int) + 1 ∧ (m : Int) + 1 < 2147483648 by omega)
    have t : tb (ceM a (a.getD k (-1))) (m : Int) = decide (a.getD m (-1) = a.getD k (-1)) := by
      unfold ceM
      rw [tb_bI _ _ (by omega), Int.toNat_natCast, decide_eq_true r8.2, Bool.true_and]
    by_cases z : a.getD m (-1) = a.getD k (-1)
    · have o1 := i_or (x := W) (p := l.getD m 0) 12 (by decide) hW l12
      have xl := xw_lt (x := W) (p := l.getD m 0) (q := true) 12 hW l12
      have zt := eq_true z
      simp only [ev_op, ev_op2, ev_op1, ev_dv, ev_dv2, ev_dv1, ev_un, ev_un1, ev_lit, ev_l0, ev_l1, ev_l2, ev_l3, ev_l4, ev_l5, ev_l6, ev_l7, ev_l8, ev_l9, ev_l10, ev_l11, ev_rf, ev_gi, ev_gi1, ev_gi2, ev_gr, ev_gr1, ev_at0, ev_at, ev_al, ev_al2, ev_al1, ev_an, ev_an1, ev_vs0, ev_vs, ev_vs2, ev_vs1, ev_ca, ev_ca1, ev_cv, ev_cv1, ev_cv2, ev_if, ev_if1, ev_cmp, ev_cmp2, ev_cmp1, ev_not, ev_not1, ev_and, ev_and1, ev_or, ev_or1, ev_e, ev_e1, ev_cif, ev_cif1, ev_qlt, ev_qle, ev_qgt, ev_qge, ev_qeq, ev_qne, ev_skip, ev_brk, ev_cnt, ev_retv, ev_seq, ev_seq0, ev_seq1, ev_seq2, ev_seq3, ev_seqi, ev_sif, ev_sif1, ev_ret, ev_ret1, ev_retz, ev_retzb, ev_retzc, ev_retz1, ev_retc, ev_asg, ev_s0, ev_s1, ev_s2, ev_s3, ev_s4, ev_s5, ev_s6, ev_s7, ev_s8, ev_s9, ev_s10, ev_s11, ev_exp, ev_exp1, ev_pf, ev_pf2, ev_pf1, ev_pz, ev_pz2, ev_pz1, ev_of, ev_of2, ev_of1, ev_st, ev_as, ev_as3, ev_as2, ev_as1, ev_oa, ev_oa3, ev_oa2, ev_oa1, ev_oa0, ev_cp, ev_cp3, ev_cp2, ev_cp1, ev_sw, ev_sw1, ev_swb0, ev_swb1, ev_swb3, ev_swbi, ev_fin3, ev_fin0, ev_fini, ev_iv, ev_ic, ev_b1, ev_b2, ev_b3, ev_b4, ev_b5, ev_b6, ev_or12, ev_lp, ev_lc, ev_lb0, ev_lb1, ev_lb2, ev_lb3, ev_lbi, ev_lu, ev_ass, Int.reduceAdd, Int.reduceSub, Int.reduceMul, Int.reduceNeg, Int.reduceLT, Int.reduceLE, Int.reduceGT, Int.reduceGE, Int.reduceEq, Int.reduceNe, Int.reduceDiv, Int.reduceMod, Int.reduceToNat, Nat.reduceAdd, Nat.reduceMul, Nat.reduceSub, Nat.reduceLT, Nat.reduceEqDiff, Int.reduceNatCast', reduceIte, ite_true, ite_false, if_true, if_false, decide_eq_true_eq, decide_true, decide_false, decide_not, Bool.not_eq_true', decide_eq_false_iff_not, Bool.not_not, Bool.and_eq_true, Bool.or_eq_true, Bool.not_true, Bool.not_false, not_true_eq_false, not_false_eq_true, true_and, and_true, false_and, and_false, true_or, or_true, false_or, or_false, Bool.true_and, Bool.and_true, Bool.false_and, Bool.and_false, Bool.true_or, Bool.or_true, Bool.or_false, Bool.false_or, Bool.not_eq_false', Bool.true_eq_false, Bool.false_eq_true, eq_self, Classical.not_not, ite_not, ne_eq, Option.some.injEq, Prod.mk.injEq, L_87, L_104, L_106, e2, i1, r12, r8, k8, g, g1, g2, zt, n1 ()]
      refine RS.go ⟨_, rfl, rfl, by rw [o1]; exact xl, fun o o0 => ?_⟩
      rw [o1, tb_xw li.1 o0, anyI_s _ i0, hT o o0, t, decide_eq_true z, Bool.true_and, Int.toNat_natCast]
      by_cases y : o = l.getD m 0
      · rw [if_pos y, y, decide_eq_true rfl, Bool.or_true]
      · rw [if_neg y, decide_eq_false fun e => y e.symm, Bool.or_false]
    · have o0' := n_or (a := W.toNat) (b := 0) (by omega) (by decide)
      rw [Int.toNat_of_nonneg hW.1, Nat.or_zero, Int.toNat_of_nonneg hW.1] at o0'
      have o0' : oor W 0 = W := o0'
      simp only [ev_op, ev_op2, ev_op1, ev_dv, ev_dv2, ev_dv1, ev_un, ev_un1, ev_lit, ev_l0, ev_l1, ev_l2, ev_l3, ev_l4, ev_l5, ev_l6, ev_l7, ev_l8, ev_l9, ev_l10, ev_l11, ev_rf, ev_gi, ev_gi1, ev_gi2, ev_gr, ev_gr1, ev_at0, ev_at, ev_al, ev_al2, ev_al1, ev_an, ev_an1, ev_vs0, ev_vs, ev_vs2, ev_vs1, ev_ca, ev_ca1, ev_cv, ev_cv1, ev_cv2, ev_if, ev_if1, ev_cmp, ev_cmp2, ev_cmp1, ev_not, ev_not1, ev_and, ev_and1, ev_or, ev_or1, ev_e, ev_e1, ev_cif, ev_cif1, ev_qlt, ev_qle, ev_qgt, ev_qge, ev_qeq, ev_qne, ev_skip, ev_brk, ev_cnt, ev_retv, ev_seq, ev_seq0, ev_seq1, ev_seq2, ev_seq3, ev_seqi, ev_sif, ev_sif1, ev_ret, ev_ret1, ev_retz, ev_retzb, ev_retzc, ev_retz1, ev_retc, ev_asg, ev_s0, ev_s1, ev_s2, ev_s3, ev_s4, ev_s5, ev_s6, ev_s7, ev_s8, ev_s9, ev_s10, ev_s11, ev_exp, ev_exp1, ev_pf, ev_pf2, ev_pf1, ev_pz, ev_pz2, ev_pz1, ev_of, ev_of2, ev_of1, ev_st, ev_as, ev_as3, ev_as2, ev_as1, ev_oa, ev_oa3, ev_oa2, ev_oa1, ev_oa0, ev_cp, ev_cp3, ev_cp2, ev_cp1, ev_sw, ev_sw1, ev_swb0, ev_swb1, ev_swb3, ev_swbi, ev_fin3, ev_fin0, ev_fini, ev_iv, ev_ic, ev_b1, ev_b2, ev_b3, ev_b4, ev_b5, ev_b6, ev_or12, ev_lp, ev_lc, ev_lb0, ev_lb1, ev_lb2, ev_lb3, ev_lbi, ev_lu, ev_ass, Int.reduceAdd, Int.reduceSub, Int.reduceMul, Int.reduceNeg, Int.reduceLT, Int.reduceLE, Int.reduceGT, Int.reduceGE, Int.reduceEq, Int.reduceNe, Int.reduceDiv, Int.reduceMod, Int.reduceToNat, Nat.reduceAdd, Nat.reduceMul, Nat.reduceSub, Nat.reduceLT, Nat.reduceEqDiff, Int.reduceNatCast', reduceIte, ite_true, ite_false, if_true, if_false, decide_eq_true_eq, decide_true, decide_false, decide_not, Bool.not_eq_true', decide_eq_false_iff_not, Bool.not_not, Bool.and_eq_true, Bool.or_eq_true, Bool.not_true, Bool.not_false, not_true_eq_false, not_false_eq_true, true_and, and_true, false_and, and_false, true_or, or_true, false_or, or_false, Bool.true_and, Bool.and_true, Bool.false_and, Bool.and_false, Bool.true_or, Bool.or_true, Bool.or_false, Bool.false_or, Bool.not_eq_false', Bool.true_eq_false, Bool.false_eq_true, eq_self, Classical.not_not, ite_not, ne_eq, Option.some.injEq, Prod.mk.injEq, L_87, L_104, L_106, e2, i1, r12, r8, k8, g, g1, g2, z, o0', n1 ()]
      refine RS.go ⟨_, rfl, rfl, hW, fun o o0 => ?_⟩
      rw [anyI_s _ i0, hT o o0, t, decide_eq_false z, Bool.false_and, Bool.or_false]
  · rintro E υ' ⟨W, rfl, e, hW, hT⟩
    rw [e]
    have z : ¬ (l.length : Int) < (l.length : Int) := by omega
    have eW : W = psN l (ceM a (a.getD k (-1))) := by
      refine tb_ext hW.1 (psN_lt l _).1 fun o o0 => ?_
      rw [hT o o0]
      unfold psN
      rw [tb_bI _ _ o0]
      by_cases y : o < 12
      · rw [decide_eq_true y, Bool.true_and]
      · rw [decide_eq_false y, Bool.false_and]
        cases e : anyI (fun m => tb (ceM a (a.getD k (-1))) m && decide (l.getD m.toNat 0 = o)) (l.length : Int)
        · rfl
        · obtain ⟨m, m0, m1, m2⟩ := anyI_t.mp e
          rw [Bool.and_eq_true, decide_eq_true_eq] at m2
          have := lm m.toNat (by omega)
          omega
    rw [eW]
    simp only [ev_op, ev_op2, ev_op1, ev_dv, ev_dv2, ev_dv1, ev_un, ev_un1, ev_lit, ev_l0, ev_l1, ev_l2, ev_l3, ev_l4, ev_l5, ev_l6, ev_l7, ev_l8, ev_l9, ev_l10, ev_l11, ev_rf, ev_gi, ev_gi1, ev_gi2, ev_gr, ev_gr1, ev_at0, ev_at, ev_al, ev_al2, ev_al1, ev_an, ev_an1, ev_vs0, ev_vs, ev_vs2, ev_vs1, ev_ca, ev_ca1, ev_cv, ev_cv1, ev_cv2, ev_if, ev_if1, ev_cmp, ev_cmp2, ev_cmp1, ev_not, ev_not1, ev_and, ev_and1, ev_or, ev_or1, ev_e, ev_e1, ev_cif, ev_cif1, ev_qlt, ev_qle, ev_qgt, ev_qge, ev_qeq, ev_qne, ev_skip, ev_brk, ev_cnt, ev_retv, ev_seq, ev_seq0, ev_seq1, ev_seq2, ev_seq3, ev_seqi, ev_sif, ev_sif1, ev_ret, ev_ret1, ev_retz, ev_retzb, ev_retzc, ev_retz1, ev_retc, ev_asg, ev_s0, ev_s1, ev_s2, ev_s3, ev_s4, ev_s5, ev_s6, ev_s7, ev_s8, ev_s9, ev_s10, ev_s11, ev_exp, ev_exp1, ev_pf, ev_pf2, ev_pf1, ev_pz, ev_pz2, ev_pz1, ev_of, ev_of2, ev_of1, ev_st, ev_as, ev_as3, ev_as2, ev_as1, ev_oa, ev_oa3, ev_oa2, ev_oa1, ev_oa0, ev_cp, ev_cp3, ev_cp2, ev_cp1, ev_sw, ev_sw1, ev_swb0, ev_swb1, ev_swb3, ev_swbi, ev_fin3, ev_fin0, ev_fini, ev_iv, ev_ic, ev_b1, ev_b2, ev_b3, ev_b4, ev_b5, ev_b6, ev_or12, ev_lp, ev_lc, ev_lb0, ev_lb1, ev_lb2, ev_lb3, ev_lbi, ev_lu, ev_ass, Int.reduceAdd, Int.reduceSub, Int.reduceMul, Int.reduceNeg, Int.reduceLT, Int.reduceLE, Int.reduceGT, Int.reduceGE, Int.reduceEq, Int.reduceNe, Int.reduceDiv, Int.reduceMod, Int.reduceToNat, Nat.reduceAdd, Nat.reduceMul, Nat.reduceSub, Nat.reduceLT, Nat.reduceEqDiff, Int.reduceNatCast', reduceIte, ite_true, ite_false, if_true, if_false, decide_eq_true_eq, decide_true, decide_false, decide_not, Bool.not_eq_true', decide_eq_false_iff_not, Bool.not_not, Bool.and_eq_true, Bool.or_eq_true, Bool.not_true, Bool.not_false, not_true_eq_false, not_false_eq_true, true_and, and_true, false_and, and_false, true_or, or_true, false_or, or_false, Bool.true_and, Bool.and_true, Bool.false_and, Bool.and_false, Bool.true_or, Bool.or_true, Bool.or_false, Bool.false_or, Bool.not_eq_false', Bool.true_eq_false, Bool.false_eq_true, eq_self, Classical.not_not, ite_not, ne_eq, Option.some.injEq, Prod.mk.injEq, L_87, e2, z]
    exact RS.done rfl
def frXr (σ τ : cvM) : Prop := ∀ k i : Int, ¬ ((k = 87 ∧ (i = 11 ∨ i = 17 ∨ i = 23)) ∨ (99 ≤ k ∧ k ≤ 103) ∨ k = 107) → τ k i = σ k i
def roX (σ : cvM) (pl : Int) (a : List Int) (j : Nat) (υ : cvM) : Prop := υ 107 (3 * (j : Int) + 0) = (rdL σ pl).getD j 0 ∧ υ 107 (3 * (j : Int) + 1) = a.getD j (-1) ∧ υ 107 (3 * (j : Int) + 2) = tmR σ pl a j
theorem s12_prove {σ τ : cvM} (h : WR σ) {pl : Int} (l8 : (rdL σ pl).length ≤ 8) {S : Int} {w : Nat} (hw : w < (vnL σ pl).length ^ (rdL σ pl).length) (S0 : 0 ≤ S) (hp : ∃ υ, f12_plan [87, pl] τ = some (S, υ) ∧ plI σ pl (some (S, wyA σ pl w)) υ) : ∃ υ0 υ, frP σ υ0 ∧ f12_prove [87, pl] τ = some (((rdL σ pl).length : Int), υ) ∧ frXr υ0 υ ∧ υ 87 23 = ((rdL σ pl).length : Int) ∧ ∀ j : Nat, j < (rdL σ pl).length → roX σ pl (wyA σ pl w) j υ := by
  obtain ⟨υ0, p1, ⟨fr, e18, e104⟩, _, _, _, pe3, e106⟩ := hp
  suffices hW : WF (f12_prove [87, pl] τ) (fun v υ => v = ((rdL σ pl).length : Int) ∧ frXr υ0 υ ∧ υ 87 23 = ((rdL σ pl).length : Int) ∧ ∀ j : Nat, j < (rdL σ pl).length → roX σ pl (wyA σ pl w) j υ) by
    obtain ⟨v, υ, e, rfl, r⟩ := hW
    exact ⟨υ0, υ, fr, e, r⟩
  have c4 := cnt_4 h
  have lm : ∀ j : Nat, j < (rdL σ pl).length → 0 ≤ (rdL σ pl).getD j 0 ∧ (rdL σ pl).getD j 0 < 12 := fun j hj => by
    have := (rdL_mem hj).1
    omega
  have pn : ¬ S < 0 := by omega
  simp only [u12_prove, b12_prove, ev_op, ev_op2, ev_op1, ev_dv, ev_dv2, ev_dv1, ev_un, ev_un1, ev_lit, ev_l0, ev_l1, ev_l2, ev_l3, ev_l4, ev_l5, ev_l6, ev_l7, ev_l8, ev_l9, ev_l10, ev_l11, ev_rf, ev_gi, ev_gi1, ev_gi2, ev_gr, ev_gr1, ev_at0, ev_at, ev_al, ev_al2, ev_al1, ev_an, ev_an1, ev_vs0, ev_vs, ev_vs2, ev_vs1, ev_ca, ev_ca1, ev_cv, ev_cv1, ev_cv2, ev_if, ev_if1, ev_cmp, ev_cmp2, ev_cmp1, ev_not, ev_not1, ev_and, ev_and1, ev_or, ev_or1, ev_e, ev_e1, ev_cif, ev_cif1, ev_qlt, ev_qle, ev_qgt, ev_qge, ev_qeq, ev_qne, ev_skip, ev_brk, ev_cnt, ev_retv, ev_seq, ev_seq0, ev_seq1, ev_seq2, ev_seq3, ev_seqi, ev_sif, ev_sif1, ev_ret, ev_ret1, ev_retz, ev_retzb, ev_retzc, ev_retz1, ev_retc, ev_asg, ev_s0, ev_s1, ev_s2, ev_s3, ev_s4, ev_s5, ev_s6, ev_s7, ev_s8, ev_s9, ev_s10, ev_s11, ev_exp, ev_exp1, ev_pf, ev_pf2, ev_pf1, ev_pz, ev_pz2, ev_pz1, ev_of, ev_of2, ev_of1, ev_st, ev_as, ev_as3, ev_as2, ev_as1, ev_oa, ev_oa3, ev_oa2, ev_oa1, ev_oa0, ev_cp, ev_cp3, ev_cp2, ev_cp1, ev_sw, ev_sw1, ev_swb0, ev_swb1, ev_swb3, ev_swbi, ev_fin3, ev_fin0, ev_fini, ev_iv, ev_ic, ev_b1, ev_b2, ev_b3, ev_b4, ev_b5, ev_b6, ev_or12, ev_lp, ev_lc, ev_lb0, ev_lb1, ev_lb2, ev_lb3, ev_lbi, ev_lu, ev_ass, Int.reduceAdd, Int.reduceSub, Int.reduceMul, Int.reduceNeg, Int.reduceLT, Int.reduceLE, Int.reduceGT, Int.reduceGE, Int.reduceEq, Int.reduceNe, Int.reduceDiv, Int.reduceMod, Int.reduceToNat, Nat.reduceAdd, Nat.reduceMul, Nat.reduceSub, Nat.reduceLT, Nat.reduceEqDiff, Int.reduceNatCast', reduceIte, ite_true, ite_false, if_true, if_false, decide_eq_true_eq, decide_true, decide_false, decide_not, Bool.not_eq_true', decide_eq_false_iff_not, Bool.not_not, Bool.and_eq_true, Bool.or_eq_true, Bool.not_true, Bool.not_false, not_true_eq_false, not_false_eq_true, true_and, and_true, false_and, and_false, true_or, or_true, false_or, or_false, Bool.true_and, Bool.and_true, Bool.false_and, Bool.and_false, Bool.true_or, Bool.or_true, Bool.or_false, Bool.false_or, Bool.not_eq_false', Bool.true_eq_false, Bool.false_eq_true, eq_self, Classical.not_not, ite_not, ne_eq, Option.some.injEq, Prod.mk.injEq, L_87, p1, pn]
  refine wf_lp (fun r => ∃ E υ, r = (0, 0, E, υ) ∧ (∃ E', E = some 87 :: E') ∧ frXr υ0 υ ∧ υ 87 23 = ((rdL σ pl).length : Int) ∧ ∀ j : Nat, j < (rdL σ pl).length → roX σ pl (wyA σ pl w) j υ) (wq_I (fun i E υ => (∃ x4 x5, E = [some 87, some pl, some S, some i, x4, x5]) ∧ frXr υ0 υ ∧ υ 87 23 = ((rdL σ pl).length : Int) ∧ ∀ j : Nat, (j : Int) < i → roX σ pl (wyA σ pl w) j υ) 0 ((rdL σ pl).length : Int) (by omega) ⟨⟨_, _, rfl⟩, fun k i hk => upd_no (by omega), by rw [upd_at]; exact e18, fun j hj => by omega⟩ ?_ ?_) ?_
  · rintro i E υ i0 i1 ⟨⟨x4, x5, rfl⟩, f, f23, g⟩
    obtain ⟨k, rfl⟩ : ∃ k : Nat, i = (k : Int) := ⟨i.toNat, by omega⟩
    have kl : k < (rdL σ pl).length := by omega
    have g18 : υ 87 18 = ((rdL σ pl).length : Int) := by rw [f 87 18 (by decide)]; exact e18
    have g104 : ∀ j : Nat, j < (rdL σ pl).length → υ 104 (j : Int) = (rdL σ pl).getD j 0 := fun j hj => by rw [f 104 _ (by omega)]; exact e104 j hj
    have g106 : ∀ j : Nat, j < (rdL σ pl).length → υ 106 (j : Int) = (wyA σ pl w).getD j (-1) := fun j hj => by
      rw [f 106 _ (by omega), e106 j hj]
      exact getD_any (by rw [wyA_len]; exact hj) _ _
    have em : ∀ k : Int, 88 ≤ k → k ≤ 98 → υ k = σ k := fun k a b => funext fun i => by rw [f k i (by omega), fr k i (by omega)]
    have hw2 : WR υ := h.congr2 fun a b hr => by rw [f a b (by omega), fr a b (by omega)]
    obtain ⟨r, l1, rfl⟩ := s12_with l8 lm g18 g104 g106 kl (some pl) (some S)
    obtain ⟨d, d1, d2, d3⟩ := wyA_get hw kl
    have vm := vnL_mem d1
    rw [← d2] at vm
    have pb := psN_lt (rdL σ pl) (ceM (wyA σ pl w) ((wyA σ pl w).getD k (-1)))
    have tmk : tmR σ pl (wyA σ pl w) k = (match bestT σ ((wyA σ pl w).getD k (-1)) (psN (rdL σ pl) (ceM (wyA σ pl w) ((wyA σ pl w).getD k (-1)))) with
      | none => -1
      | some d => tmL d.1 (σ 92 (7 * (rdL σ pl).getD k 0 + 2))) := rfl
    have pk := lm k kl
    have gk := g104 k kl
    have ga := g106 k kl
    generalize psN (rdL σ pl) (ceM (wyA σ pl w) ((wyA σ pl w).getD k (-1))) = X at l1 pb tmk
    obtain ⟨bt, ct⟩ := bestT_eq em ((wyA σ pl w).getD k (-1)) X
    obtain ⟨υ1, a1, a2, a3, a4, a5⟩ := s12_routes (σ := υ) hw2 (v := (wyA σ pl w).getD k (-1)) (x := X) (by rw [em 88 (by decide) (by decide)]; exact vm.1) pb
    rw [bt] at a1 a5
    rw [ct] at a3 a4 a5
    have h18 : υ1 87 18 = ((rdL σ pl).length : Int) := by rw [a2 87 18 (by decide)]; exact g18
    have h104 : υ1 104 (k : Int) = (rdL σ pl).getD k 0 := by rw [a2 104 _ (by omega)]; exact gk
    have h106 : υ1 106 (k : Int) = (wyA σ pl w).getD k (-1) := by rw [a2 106 _ (by omega)]; exact ga
    have r12 : 0 ≤ (k : Int) ∧ (k : Int) < 12 := by omega
    have r8 : 0 ≤ (k : Int) ∧ (k : Int) < 8 := by omega
    have n1 := fun _ : Unit => n_add (show -2147483648 ≤ (k : Int) + 1 ∧ (k : Int) + 1 < 2147483648 by omega)
    have m0 := fun _ : Unit => n_mul (show -2147483648 ≤ 3 * (k : Int) ∧ 3 * (k : Int) < 2147483648 by omega)
    have m1 := fun _ : Unit => n_add (show -2147483648 ≤ 3 * (k : Int) + 1 ∧ 3 * (k : Int) + 1 < 2147483648 by omega)
    have m2 := fun _ : Unit => n_add (show -2147483648 ≤ 3 * (k : Int) + 2 ∧ 3 * (k : Int) + 2 < 2147483648 by omega)
    have r0 : 0 ≤ 3 * (k : Int) ∧ 3 * (k : Int) < 36 := by omega
    have r1 : 0 ≤ 3 * (k : Int) + 1 ∧ 3 * (k : Int) + 1 < 36 := by omega
    have r2 : 0 ≤ 3 * (k : Int) + 2 ∧ 3 * (k : Int) + 2 < 36 := by omega
    have fin : ∀ T : Int, T = tmR σ pl (wyA σ pl w) k → frXr υ0 (updM (updM (updM υ1 107 (3 * (k : Int)) ((rdL σ pl).getD k 0)) 107 (3 * (k : Int) + 1) ((wyA σ pl w).getD k (-1))) 107 (3 * (k : Int) + 2) T) ∧ (updM (updM (updM υ1 107 (3 * (k : Int)) ((rdL σ pl).getD k 0)) 107 (3 * (k : Int) + 1) ((wyA σ pl w).getD k (-1))) 107 (3 * (k : Int) + 2) T) 87 23 = ((rdL σ pl).length : Int) ∧ ∀ j : Nat, (j : Int) < (k : Int) + 1 → roX σ pl (wyA σ pl w) j (updM (updM (updM υ1 107 (3 * (k : Int)) ((rdL σ pl).getD k 0)) 107 (3 * (k : Int) + 1) ((wyA σ pl w).getD k (-1))) 107 (3 * (k : Int) + 2) T) := fun T hT => by
      clear n1 m0 m1 m2
      refine ⟨fun a b hk => ?_, ?_, fun j hj => ?_⟩
      · rw [upd_no (by omega), upd_no (by omega), upd_no (by omega), a2 a b (by omega), f a b hk]
      · rw [upd_no (by omega), upd_no (by omega), upd_no (by omega), a2 87 23 (by decide)]
        exact f23
      · by_cases z : j = k
        · subst z
          refine ⟨?_, ?_, ?_⟩
          · rw [Int.add_zero, upd_no (by omega), upd_no (by omega), upd_at]
          · rw [upd_no (by omega), upd_at]
          · rw [upd_at]
            exact hT
        · obtain ⟨t0, t1, t2⟩ := g j (by omega)
          refine ⟨?_, ?_, ?_⟩
          · rw [upd_no (by omega), upd_no (by omega), upd_no (by omega), a2 107 _ (by omega)]
            exact t0
          · rw [upd_no (by omega), upd_no (by omega), upd_no (by omega), a2 107 _ (by omega)]
            exact t1
          · rw [upd_no (by omega), upd_no (by omega), upd_no (by omega), a2 107 _ (by omega)]
            exact t2
    have h106' : (updM υ1 107 (3 * (k : Int)) ((rdL σ pl).getD k 0)) 106 (k : Int) = (wyA σ pl w).getD k (-1) := by rw [upd_no (by omega)]; exact h106
    cases e : bestT σ ((wyA σ pl w).getD k (-1)) X with
    | none =>
      rw [e] at a1 tmk
      have a1 : f12_routes [87, (wyA σ pl w).getD k (-1), X] υ = some (0, υ1) := a1
      simp only [ev_op, ev_op2, ev_op1, ev_dv, ev_dv2, ev_dv1, ev_un, ev_un1, ev_lit, ev_l0, ev_l1, ev_l2, ev_l3, ev_l4, ev_l5, ev_l6, ev_l7, ev_l8, ev_l9, ev_l10, ev_l11, ev_rf, ev_gi, ev_gi1, ev_gi2, ev_gr, ev_gr1, ev_at0, ev_at, ev_al, ev_al2, ev_al1, ev_an, ev_an1, ev_vs0, ev_vs, ev_vs2, ev_vs1, ev_ca, ev_ca1, ev_cv, ev_cv1, ev_cv2, ev_if, ev_if1, ev_cmp, ev_cmp2, ev_cmp1, ev_not, ev_not1, ev_and, ev_and1, ev_or, ev_or1, ev_e, ev_e1, ev_cif, ev_cif1, ev_qlt, ev_qle, ev_qgt, ev_qge, ev_qeq, ev_qne, ev_skip, ev_brk, ev_cnt, ev_retv, ev_seq, ev_seq0, ev_seq1, ev_seq2, ev_seq3, ev_seqi, ev_sif, ev_sif1, ev_ret, ev_ret1, ev_retz, ev_retzb, ev_retzc, ev_retz1, ev_retc, ev_asg, ev_s0, ev_s1, ev_s2, ev_s3, ev_s4, ev_s5, ev_s6, ev_s7, ev_s8, ev_s9, ev_s10, ev_s11, ev_exp, ev_exp1, ev_pf, ev_pf2, ev_pf1, ev_pz, ev_pz2, ev_pz1, ev_of, ev_of2, ev_of1, ev_st, ev_as, ev_as3, ev_as2, ev_as1, ev_oa, ev_oa3, ev_oa2, ev_oa1, ev_oa0, ev_cp, ev_cp3, ev_cp2, ev_cp1, ev_sw, ev_sw1, ev_swb0, ev_swb1, ev_swb3, ev_swbi, ev_fin3, ev_fin0, ev_fini, ev_iv, ev_ic, ev_b1, ev_b2, ev_b3, ev_b4, ev_b5, ev_b6, ev_or12, ev_lp, ev_lc, ev_lb0, ev_lb1, ev_lb2, ev_lb3, ev_lbi, ev_lu, ev_ass, Int.reduceAdd, Int.reduceSub, Int.reduceMul, Int.reduceNeg, Int.reduceLT, Int.reduceLE, Int.reduceGT, Int.reduceGE, Int.reduceEq, Int.reduceNe, Int.reduceDiv, Int.reduceMod, Int.reduceToNat, Nat.reduceAdd, Nat.reduceMul, Nat.reduceSub, Nat.reduceLT, Nat.reduceEqDiff, Int.reduceNatCast', reduceIte, ite_true, ite_false, if_true, if_false, decide_eq_true_eq, decide_true, decide_false, decide_not, Bool.not_eq_true', decide_eq_false_iff_not, Bool.not_not, Bool.and_eq_true, Bool.or_eq_true, Bool.not_true, Bool.not_false, not_true_eq_false, not_false_eq_true, true_and, and_true, false_and, and_false, true_or, or_true, false_or, or_false, Bool.true_and, Bool.and_true, Bool.false_and, Bool.and_false, Bool.true_or, Bool.or_true, Bool.or_false, Bool.false_or, Bool.not_eq_false', Bool.true_eq_false, Bool.false_eq_true, eq_self, Classical.not_not, ite_not, ne_eq, Option.some.injEq, Prod.mk.injEq, L_87, L_104, L_106, L_107, g18, i1, l1, r8, r12, ga, a1, h104, h106, h106', m0 (), m1 (), m2 (), r0, r1, r2, n1 ()]
      exact RS.go ⟨⟨_, _, rfl⟩, fin (-1) tmk.symm⟩
    | some D =>
      rw [e] at a1 tmk
      have a1 : f12_routes [87, (wyA σ pl w).getD k (-1), X] υ = some (1, υ1) := a1
      have bs := bestT_some h e
      obtain ⟨_, _, q3, q4⟩ := a5 D e
      have tk := fun υ2 (hn : υ2 87 11 = υ1 87 11) (h99 : ∀ i, υ2 99 i = υ1 99 i) (h102 : ∀ i, υ2 102 i = υ1 102 i) (h103 : ∀ i, υ2 103 i = υ1 103 i) => s12_timeOf (τ := υ2) L_102 L_103 bs.2 (hn.trans a3) q3 (fun j hj => by
        obtain ⟨y1, y2, y3, y4⟩ := q4 j hj
        rw [h102, h99, h103]
        exact ⟨y1, y2, y3, y4⟩) (σ 92 (7 * (rdL σ pl).getD k 0 + 2))
      have tk2 := tk (updM (updM υ1 107 (3 * (k : Int)) ((rdL σ pl).getD k 0)) 107 (3 * (k : Int) + 1) ((wyA σ pl w).getD k (-1))) (by rw [upd_no (by omega), upd_no (by omega)]) (fun i => by rw [upd_no (by omega), upd_no (by omega)]) (fun i => by rw [upd_no (by omega), upd_no (by omega)]) (fun i => by rw [upd_no (by omega), upd_no (by omega)])
      have gt := s12_get (p := (rdL σ pl).getD k 0) (w := 2) (by omega) (updM (updM υ1 107 (3 * (k : Int)) ((rdL σ pl).getD k 0)) 107 (3 * (k : Int) + 1) ((wyA σ pl w).getD k (-1)))
      rw [upd_no (by omega), upd_no (by omega), a2 92 _ (by omega), em 92 (by decide) (by decide)] at gt
      have h104' : (updM (updM υ1 107 (3 * (k : Int)) ((rdL σ pl).getD k 0)) 107 (3 * (k : Int) + 1) ((wyA σ pl w).getD k (-1))) 104 (k : Int) = (rdL σ pl).getD k 0 := by rw [upd_no (by omega), upd_no (by omega)]; exact h104
      simp only [ev_op, ev_op2, ev_op1, ev_dv, ev_dv2, ev_dv1, ev_un, ev_un1, ev_lit, ev_l0, ev_l1, ev_l2, ev_l3, ev_l4, ev_l5, ev_l6, ev_l7, ev_l8, ev_l9, ev_l10, ev_l11, ev_rf, ev_gi, ev_gi1, ev_gi2, ev_gr, ev_gr1, ev_at0, ev_at, ev_al, ev_al2, ev_al1, ev_an, ev_an1, ev_vs0, ev_vs, ev_vs2, ev_vs1, ev_ca, ev_ca1, ev_cv, ev_cv1, ev_cv2, ev_if, ev_if1, ev_cmp, ev_cmp2, ev_cmp1, ev_not, ev_not1, ev_and, ev_and1, ev_or, ev_or1, ev_e, ev_e1, ev_cif, ev_cif1, ev_qlt, ev_qle, ev_qgt, ev_qge, ev_qeq, ev_qne, ev_skip, ev_brk, ev_cnt, ev_retv, ev_seq, ev_seq0, ev_seq1, ev_seq2, ev_seq3, ev_seqi, ev_sif, ev_sif1, ev_ret, ev_ret1, ev_retz, ev_retzb, ev_retzc, ev_retz1, ev_retc, ev_asg, ev_s0, ev_s1, ev_s2, ev_s3, ev_s4, ev_s5, ev_s6, ev_s7, ev_s8, ev_s9, ev_s10, ev_s11, ev_exp, ev_exp1, ev_pf, ev_pf2, ev_pf1, ev_pz, ev_pz2, ev_pz1, ev_of, ev_of2, ev_of1, ev_st, ev_as, ev_as3, ev_as2, ev_as1, ev_oa, ev_oa3, ev_oa2, ev_oa1, ev_oa0, ev_cp, ev_cp3, ev_cp2, ev_cp1, ev_sw, ev_sw1, ev_swb0, ev_swb1, ev_swb3, ev_swbi, ev_fin3, ev_fin0, ev_fini, ev_iv, ev_ic, ev_b1, ev_b2, ev_b3, ev_b4, ev_b5, ev_b6, ev_or12, ev_lp, ev_lc, ev_lb0, ev_lb1, ev_lb2, ev_lb3, ev_lbi, ev_lu, ev_ass, Int.reduceAdd, Int.reduceSub, Int.reduceMul, Int.reduceNeg, Int.reduceLT, Int.reduceLE, Int.reduceGT, Int.reduceGE, Int.reduceEq, Int.reduceNe, Int.reduceDiv, Int.reduceMod, Int.reduceToNat, Nat.reduceAdd, Nat.reduceMul, Nat.reduceSub, Nat.reduceLT, Nat.reduceEqDiff, Int.reduceNatCast', reduceIte, ite_true, ite_false, if_true, if_false, decide_eq_true_eq, decide_true, decide_false, decide_not, Bool.not_eq_true', decide_eq_false_iff_not, Bool.not_not, Bool.and_eq_true, Bool.or_eq_true, Bool.not_true, Bool.not_false, not_true_eq_false, not_false_eq_true, true_and, and_true, false_and, and_false, true_or, or_true, false_or, or_false, Bool.true_and, Bool.and_true, Bool.false_and, Bool.and_false, Bool.true_or, Bool.or_true, Bool.or_false, Bool.false_or, Bool.not_eq_false', Bool.true_eq_false, Bool.false_eq_true, eq_self, Classical.not_not, ite_not, ne_eq, Option.some.injEq, Prod.mk.injEq, L_87, L_102, L_103, L_104, L_106, L_107, g18, i1, l1, r8, r12, ga, a1, h104, h106, h104', h106', gt, tk2, m0 (), m1 (), m2 (), r0, r1, r2, n1 ()]
      exact RS.go ⟨⟨_, _, rfl⟩, fin _ tmk.symm⟩
  · rintro E υ ⟨⟨x4, x5, rfl⟩, f, f23, g⟩
    have g18 : υ 87 18 = ((rdL σ pl).length : Int) := by rw [f 87 18 (by decide)]; exact e18
    have q : ¬ ((rdL σ pl).length : Int) < ((rdL σ pl).length : Int) := by omega
    simp only [ev_op, ev_op2, ev_op1, ev_dv, ev_dv2, ev_dv1, ev_un, ev_un1, ev_lit, ev_l0, ev_l1, ev_l2, ev_l3, ev_l4, ev_l5, ev_l6, ev_l7, ev_l8, ev_l9, ev_l10, ev_l11, ev_rf, ev_gi, ev_gi1, ev_gi2, ev_gr, ev_gr1, ev_at0, ev_at, ev_al, ev_al2, ev_al1, ev_an, ev_an1, ev_vs0, ev_vs, ev_vs2, ev_vs1, ev_ca, ev_ca1, ev_cv, ev_cv1, ev_cv2, ev_if, ev_if1, ev_cmp, ev_cmp2, ev_cmp1, ev_not, ev_not1, ev_and, ev_and1, ev_or, ev_or1, ev_e, ev_e1, ev_cif, ev_cif1, ev_qlt, ev_qle, ev_qgt, ev_qge, ev_qeq, ev_qne, ev_skip, ev_brk, ev_cnt, ev_retv, ev_seq, ev_seq0, ev_seq1, ev_seq2, ev_seq3, ev_seqi, ev_sif, ev_sif1, ev_ret, ev_ret1, ev_retz, ev_retzb, ev_retzc, ev_retz1, ev_retc, ev_asg, ev_s0, ev_s1, ev_s2, ev_s3, ev_s4, ev_s5, ev_s6, ev_s7, ev_s8, ev_s9, ev_s10, ev_s11, ev_exp, ev_exp1, ev_pf, ev_pf2, ev_pf1, ev_pz, ev_pz2, ev_pz1, ev_of, ev_of2, ev_of1, ev_st, ev_as, ev_as3, ev_as2, ev_as1, ev_oa, ev_oa3, ev_oa2, ev_oa1, ev_oa0, ev_cp, ev_cp3, ev_cp2, ev_cp1, ev_sw, ev_sw1, ev_swb0, ev_swb1, ev_swb3, ev_swbi, ev_fin3, ev_fin0, ev_fini, ev_iv, ev_ic, ev_b1, ev_b2, ev_b3, ev_b4, ev_b5, ev_b6, ev_or12, ev_lp, ev_lc, ev_lb0, ev_lb1, ev_lb2, ev_lb3, ev_lbi, ev_lu, ev_ass, Int.reduceAdd, Int.reduceSub, Int.reduceMul, Int.reduceNeg, Int.reduceLT, Int.reduceLE, Int.reduceGT, Int.reduceGE, Int.reduceEq, Int.reduceNe, Int.reduceDiv, Int.reduceMod, Int.reduceToNat, Nat.reduceAdd, Nat.reduceMul, Nat.reduceSub, Nat.reduceLT, Nat.reduceEqDiff, Int.reduceNatCast', reduceIte, ite_true, ite_false, if_true, if_false, decide_eq_true_eq, decide_true, decide_false, decide_not, Bool.not_eq_true', decide_eq_false_iff_not, Bool.not_not, Bool.and_eq_true, Bool.or_eq_true, Bool.not_true, Bool.not_false, not_true_eq_false, not_false_eq_true, true_and, and_true, false_and, and_false, true_or, or_true, false_or, or_false, Bool.true_and, Bool.and_true, Bool.false_and, Bool.and_false, Bool.true_or, Bool.or_true, Bool.or_false, Bool.false_or, Bool.not_eq_false', Bool.true_eq_false, Bool.false_eq_true, eq_self, Classical.not_not, ite_not, ne_eq, Option.some.injEq, Prod.mk.injEq, L_87, g18, q]
    exact RS.done ⟨_, υ, rfl, ⟨_, rfl⟩, f, f23, fun j hj => g j (by omega)⟩
  · rintro r ⟨E, υ, rfl, ⟨E', rfl⟩, f, f23, g⟩
    simp only [ev_op, ev_op2, ev_op1, ev_dv, ev_dv2, ev_dv1, ev_un, ev_un1, ev_lit, ev_l0, ev_l1, ev_l2, ev_l3, ev_l4, ev_l5, ev_l6, ev_l7, ev_l8, ev_l9, ev_l10, ev_l11, ev_rf, ev_gi, ev_gi1, ev_gi2, ev_gr, ev_gr1, ev_at0, ev_at, ev_al, ev_al2, ev_al1, ev_an, ev_an1, ev_vs0, ev_vs, ev_vs2, ev_vs1, ev_ca, ev_ca1, ev_cv, ev_cv1, ev_cv2, ev_if, ev_if1, ev_cmp, ev_cmp2, ev_cmp1, ev_not, ev_not1, ev_and, ev_and1, ev_or, ev_or1, ev_e, ev_e1, ev_cif, ev_cif1, ev_qlt, ev_qle, ev_qgt, ev_qge, ev_qeq, ev_qne, ev_skip, ev_brk, ev_cnt, ev_retv, ev_seq, ev_seq0, ev_seq1, ev_seq2, ev_seq3, ev_seqi, ev_sif, ev_sif1, ev_ret, ev_ret1, ev_retz, ev_retzb, ev_retzc, ev_retz1, ev_retc, ev_asg, ev_s0, ev_s1, ev_s2, ev_s3, ev_s4, ev_s5, ev_s6, ev_s7, ev_s8, ev_s9, ev_s10, ev_s11, ev_exp, ev_exp1, ev_pf, ev_pf2, ev_pf1, ev_pz, ev_pz2, ev_pz1, ev_of, ev_of2, ev_of1, ev_st, ev_as, ev_as3, ev_as2, ev_as1, ev_oa, ev_oa3, ev_oa2, ev_oa1, ev_oa0, ev_cp, ev_cp3, ev_cp2, ev_cp1, ev_sw, ev_sw1, ev_swb0, ev_swb1, ev_swb3, ev_swbi, ev_fin3, ev_fin0, ev_fini, ev_iv, ev_ic, ev_b1, ev_b2, ev_b3, ev_b4, ev_b5, ev_b6, ev_or12, ev_lp, ev_lc, ev_lb0, ev_lb1, ev_lb2, ev_lb3, ev_lbi, ev_lu, ev_ass, Int.reduceAdd, Int.reduceSub, Int.reduceMul, Int.reduceNeg, Int.reduceLT, Int.reduceLE, Int.reduceGT, Int.reduceGE, Int.reduceEq, Int.reduceNe, Int.reduceDiv, Int.reduceMod, Int.reduceToNat, Nat.reduceAdd, Nat.reduceMul, Nat.reduceSub, Nat.reduceLT, Nat.reduceEqDiff, Int.reduceNatCast', reduceIte, ite_true, ite_false, if_true, if_false, decide_eq_true_eq, decide_true, decide_false, decide_not, Bool.not_eq_true', decide_eq_false_iff_not, Bool.not_not, Bool.and_eq_true, Bool.or_eq_true, Bool.not_true, Bool.not_false, not_true_eq_false, not_false_eq_true, true_and, and_true, false_and, and_false, true_or, or_true, false_or, or_false, Bool.true_and, Bool.and_true, Bool.false_and, Bool.and_false, Bool.true_or, Bool.or_true, Bool.or_false, Bool.false_or, Bool.not_eq_false', Bool.true_eq_false, Bool.false_eq_true, eq_self, Classical.not_not, ite_not, ne_eq, Option.some.injEq, Prod.mk.injEq, L_87, f23]
    exact WF.mk ⟨rfl, f, f23, g⟩
