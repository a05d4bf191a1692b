/-! ===== read ===== -/
theorem ag_read : Ag f11_read f12_read [] := fun σ hI => by
  have h := hI.W
  have hT := hI.T
  obtain ⟨t1, t2, t3, t4, t5, t6⟩ := hT
  have hc : cT (σ 111) (σ 87 29) σ := ⟨t1, ⟨t2, t3⟩, fun i i0 i1 => (t4 i i0 i1).1⟩
  have hm : mT (σ 111) (σ 87 29) σ := ⟨rfl, ⟨t2, t3⟩, fun i _ _ => rfl⟩
  obtain ⟨w, υ1, a1, a2, a3, a4⟩ := s7_parse hc t5 t6
  have hl := h.lines
  have lo := lin_ok (σ 111) (N := σ 87 29) 8 (q := skT (σ 111) (σ 87 29) 0) (skT_s (σ 111) t2).1.2
  cases e : linA (σ 111) (σ 87 29) 8 (skT (σ 111) (σ 87 29) 0) with
  | inl f =>
    rw [e] at a4 lo
    obtain ⟨rfl, w0, w1⟩ := a4
    have hm1 : mT (σ 111) (σ 87 29) υ1 := ⟨by rw [a2 87 29 (by omega)], ⟨t2, t3⟩, fun i _ _ => by rw [a2 111 i (by omega)]⟩
    obtain ⟨w', υ2, b1, b2, b3, b4⟩ := s12_read hm1
    rw [e] at b4
    obtain ⟨rfl, b5, b6⟩ := b4
    have sb := n_sub (show -2147483648 ≤ -100 - w ∧ -100 - w < 2147483648 by omega)
    have fr : ∀ k i : Int, ¬ ((64 ≤ k ∧ k ≤ 69) ∨ k = 112 ∨ (k = 87 ∧ 29 ≤ i ∧ i ≤ 34)) → υ2 k i = σ k i := fun k i hk => by
      by_cases z : k = 98
      · rw [z, b5, a2 98 i (by omega)]
      · by_cases z2 : k = 88 ∧ i = 7
        · rw [z2.1, z2.2, b6, a2 88 7 (by omega)]
        · rw [b2 k i (by omega), a2 k i (by omega)]
    refine ⟨-100 - w, υ1, υ2, ?_, b1, hI.read (fun k i hk => fr k i (by omega)) (h.congr2 fun k i hk => fr k i (by omega)) ⟨?_, ?_, ?_, fun i i0 i1 => ?_, ?_, ?_⟩⟩
    · simp only [u11_read, b11_read, ev_op, ev_op2, ev_op1, ev_dv, ev_dv2, ev_dv1, ev_un, ev_un1, ev_lit, ev_l0, ev_l1, ev_l2, ev_l3, ev_l4, ev_l5, ev_l6, ev_l7, ev_l8, ev_l9, ev_l10, ev_l11, ev_rf, ev_gi, ev_gi1, ev_gi2, ev_gr, ev_gr1, ev_at0, ev_at, ev_al, ev_al2, ev_al1, ev_an, ev_an1, ev_vs0, ev_vs, ev_vs2, ev_vs1, ev_ca, ev_ca1, ev_cv, ev_cv1, ev_cv2, ev_if, ev_if1, ev_cmp, ev_cmp2, ev_cmp1, ev_not, ev_not1, ev_and, ev_and1, ev_or, ev_or1, ev_e, ev_e1, ev_cif, ev_cif1, ev_qlt, ev_qle, ev_qgt, ev_qge, ev_qeq, ev_qne, ev_skip, ev_brk, ev_cnt, ev_retv, ev_seq, ev_seq0, ev_seq1, ev_seq2, ev_seq3, ev_seqi, ev_sif, ev_sif1, ev_ret, ev_ret1, ev_retz, ev_retzb, ev_retzc, ev_retz1, ev_retc, ev_asg, ev_s0, ev_s1, ev_s2, ev_s3, ev_s4, ev_s5, ev_s6, ev_s7, ev_s8, ev_s9, ev_s10, ev_s11, ev_exp, ev_exp1, ev_pf, ev_pf2, ev_pf1, ev_pz, ev_pz2, ev_pz1, ev_of, ev_of2, ev_of1, ev_st, ev_as, ev_as3, ev_as2, ev_as1, ev_oa, ev_oa3, ev_oa2, ev_oa1, ev_oa0, ev_cp, ev_cp3, ev_cp2, ev_cp1, ev_sw, ev_sw1, ev_swb0, ev_swb1, ev_swb3, ev_swbi, ev_fin3, ev_fin0, ev_fini, ev_iv, ev_ic, ev_b1, ev_b2, ev_b3, ev_b4, ev_b5, ev_b6, ev_or12, ev_lp, ev_lc, ev_lb0, ev_lb1, ev_lb2, ev_lb3, ev_lbi, ev_lu, ev_ass, Int.reduceAdd, Int.reduceSub, Int.reduceMul, Int.reduceNeg, Int.reduceLT, Int.reduceLE, Int.reduceGT, Int.reduceGE, Int.reduceEq, Int.reduceNe, Int.reduceDiv, Int.reduceMod, Int.reduceToNat, Nat.reduceAdd, Nat.reduceMul, Nat.reduceSub, Nat.reduceLT, Nat.reduceEqDiff, Int.reduceNatCast', reduceIte, ite_true, ite_false, if_true, if_false, decide_eq_true_eq, decide_true, decide_false, decide_not, Bool.not_eq_true', decide_eq_false_iff_not, Bool.not_not, Bool.and_eq_true, Bool.or_eq_true, Bool.not_true, Bool.not_false, not_true_eq_false, not_false_eq_true, true_and, and_true, false_and, and_false, true_or, or_true, false_or, or_false, Bool.true_and, Bool.and_true, Bool.false_and, Bool.and_false, Bool.true_or, Bool.or_true, Bool.or_false, Bool.false_or, Bool.not_eq_false', Bool.true_eq_false, Bool.false_eq_true, eq_self, Classical.not_not, ite_not, ne_eq, Option.some.injEq, Prod.mk.injEq, L_0, L_64, a1, w0, sb]
    · rw [b3, b2 64 1 (by omega), a3]
    · rw [b3]; decide
    · rw [b3]; decide
    · rw [b3] at i1
      omega
    · rw [b2 68 0 (by omega), a2 68 0 (by omega)]; exact t5
    · rw [b2 68 1 (by omega), a2 68 1 (by omega)]; exact t6
  | inr rs =>
    rw [e] at a4 lo
    obtain ⟨rfl, ls⟩ := a4
    obtain ⟨l8, rok⟩ := lo
    obtain ⟨_, _, l3, l4⟩ := ls
    have e91 : υ1 9 1 = 8 := by rw [a2 9 1 (by omega)]; exact hl.2.1
    obtain ⟨υ2, c1, c2, c3, c4, c5⟩ := r8_become_9_68 (σ := υ1) (by rw [l3, e91]; omega)
    have fo : ∀ k i : Int, ¬ (k = 9 ∨ k = 31 ∨ (k = 64 ∧ (i = 1 ∨ i = 4 ∨ i = 5)) ∨ k = 66 ∨ k = 67 ∨ (k = 68 ∧ i = 3) ∨ k = 69) → υ2 k i = σ k i := fun k i hk => by rw [c5 k (by omega) (by omega), a2 k i (by omega)]
    have hm1 : mT (σ 111) (σ 87 29) υ2 := ⟨by rw [fo 87 29 (by omega)], ⟨t2, t3⟩, fun i _ _ => by rw [fo 111 i (by omega)]⟩
    obtain ⟨w', υ3, b1, b2, b3, b4⟩ := s12_read hm1
    rw [e] at b4
    obtain ⟨rfl, b5, b6⟩ := b4
    have fr : ∀ k i : Int, ¬ (k = 9 ∨ k = 31 ∨ k = 98 ∨ (k = 88 ∧ i = 7) ∨ (64 ≤ k ∧ k ≤ 69) ∨ k = 112 ∨ (k = 87 ∧ 29 ≤ i ∧ i ≤ 34)) → υ3 k i = σ k i := fun k i hk => by rw [b2 k i (by omega), fo k i (by omega)]
    have g93 : υ2 9 3 = (rs.length : Int) := c2.trans l3
    refine ⟨(rs.length : Int), υ2, υ3, ?_, b1, hI.read (fun k i hk => fr k i (by omega)) (WR_lines h (fun k i h1 h2 => fr k i (by omega)) ?_ ?_) ⟨?_, ?_, ?_, fun i i0 i1 => ?_, ?_, ?_⟩⟩
    · simp only [u11_read, b11_read, ev_op, ev_op2, ev_op1, ev_dv, ev_dv2, ev_dv1, ev_un, ev_un1, ev_lit, ev_l0, ev_l1, ev_l2, ev_l3, ev_l4, ev_l5, ev_l6, ev_l7, ev_l8, ev_l9, ev_l10, ev_l11, ev_rf, ev_gi, ev_gi1, ev_gi2, ev_gr, ev_gr1, ev_at0, ev_at, ev_al, ev_al2, ev_al1, ev_an, ev_an1, ev_vs0, ev_vs, ev_vs2, ev_vs1, ev_ca, ev_ca1, ev_cv, ev_cv1, ev_cv2, ev_if, ev_if1, ev_cmp, ev_cmp2, ev_cmp1, ev_not, ev_not1, ev_and, ev_and1, ev_or, ev_or1, ev_e, ev_e1, ev_cif, ev_cif1, ev_qlt, ev_qle, ev_qgt, ev_qge, ev_qeq, ev_qne, ev_skip, ev_brk, ev_cnt, ev_retv, ev_seq, ev_seq0, ev_seq1, ev_seq2, ev_seq3, ev_seqi, ev_sif, ev_sif1, ev_ret, ev_ret1, ev_retz, ev_retzb, ev_retzc, ev_retz1, ev_retc, ev_asg, ev_s0, ev_s1, ev_s2, ev_s3, ev_s4, ev_s5, ev_s6, ev_s7, ev_s8, ev_s9, ev_s10, ev_s11, ev_exp, ev_exp1, ev_pf, ev_pf2, ev_pf1, ev_pz, ev_pz2, ev_pz1, ev_of, ev_of2, ev_of1, ev_st, ev_as, ev_as3, ev_as2, ev_as1, ev_oa, ev_oa3, ev_oa2, ev_oa1, ev_oa0, ev_cp, ev_cp3, ev_cp2, ev_cp1, ev_sw, ev_sw1, ev_swb0, ev_swb1, ev_swb3, ev_swbi, ev_fin3, ev_fin0, ev_fini, ev_iv, ev_ic, ev_b1, ev_b2, ev_b3, ev_b4, ev_b5, ev_b6, ev_or12, ev_lp, ev_lc, ev_lb0, ev_lb1, ev_lb2, ev_lb3, ev_lbi, ev_lu, ev_ass, Int.reduceAdd, Int.reduceSub, Int.reduceMul, Int.reduceNeg, Int.reduceLT, Int.reduceLE, Int.reduceGT, Int.reduceGE, Int.reduceEq, Int.reduceNe, Int.reduceDiv, Int.reduceMod, Int.reduceToNat, Nat.reduceAdd, Nat.reduceMul, Nat.reduceSub, Nat.reduceLT, Nat.reduceEqDiff, Int.reduceNatCast', reduceIte, ite_true, ite_false, if_true, if_false, decide_eq_true_eq, decide_true, decide_false, decide_not, Bool.not_eq_true', decide_eq_false_iff_not, Bool.not_not, Bool.and_eq_true, Bool.or_eq_true, Bool.not_true, Bool.not_false, not_true_eq_false, not_false_eq_true, true_and, and_true, false_and, and_false, true_or, or_true, false_or, or_false, Bool.true_and, Bool.and_true, Bool.false_and, Bool.and_false, Bool.true_or, Bool.or_true, Bool.or_false, Bool.false_or, Bool.not_eq_false', Bool.true_eq_false, Bool.false_eq_true, eq_self, Classical.not_not, ite_not, ne_eq, Option.some.injEq, Prod.mk.injEq, L_0, L_1, L_9, L_64, L_68, a1, c1, g93]
    · refine ⟨?_, ?_, ?_, ?_, ?_, fun p j p0 p1 j0 j1 => ?_⟩
      · rw [b2 9 0 (by omega), c3 0 (by decide), a2 9 0 (by omega)]; exact hl.1
      · rw [b2 9 1 (by omega), c3 1 (by decide)]; exact e91
      · rw [b2 9 3 (by omega), g93, b5]
      · rw [b5]; omega
      · rw [b5]; omega
      · rw [b5] at p1
        obtain ⟨i, rfl⟩ : ∃ i : Nat, p = (i : Int) := ⟨p.toNat, by omega⟩
        rw [b2 31 _ (by omega), c4 _ (by omega) (by omega), l4 i (by omega) j j0 j1]
        exact (b6 i (by omega) j j0 j1).symm
    · intro l l0 l1
      rw [b5] at l1
      obtain ⟨i, rfl⟩ : ∃ i : Nat, l = (i : Int) := ⟨l.toNat, by omega⟩
      have il : i < rs.length := by omega
      have x0 := b6 i il 0 (by decide) (by decide)
      have x1 := b6 i il 1 (by decide) (by decide)
      have x2 := b6 i il 2 (by decide) (by decide)
      have x3 := b6 i il 3 (by decide) (by decide)
      have x4 := b6 i il 4 (by decide) (by decide)
      rw [Int.add_zero] at x0
      have mem : rs.getD i [] ∈ rs := by
        rw [List.getD_eq_getElem?_getD, List.getElem?_eq_getElem il]
        exact List.getElem_mem il
      have r := rok _ mem
      rw [x0, x1, x2, x3, x4]
      obtain ⟨r1, r2, r3, r4, r5⟩ := r
      exact ⟨r1.1, r1.2, r2.1, r2.2, r3.1, r3.2, r4, r5⟩
    · rw [b3, b2 64 1 (by omega), c5 64 (by decide) (by decide), a3]
    · rw [b3]; decide
    · rw [b3]; decide
    · rw [b3] at i1
      omega
    · rw [b2 68 0 (by omega), fo 68 0 (by omega)]; exact t5
    · rw [b2 68 1 (by omega), fo 68 1 (by omega)]; exact t6
