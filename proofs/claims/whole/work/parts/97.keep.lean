/-! ===== keep, again ===== -/
theorem r12_allO {σ : cvM} : ∃ τ, f12_moveAll [87, 1] σ = some (0, τ) ∧ (∀ i, 0 ≤ i → i < 8 → τ 130 (0 + i) = σ 88 i) ∧ (∀ i, 0 ≤ i → i < 40 → τ 130 (8 + i) = σ 89 i) ∧ (∀ i, 0 ≤ i → i < 64 → τ 130 (48 + i) = σ 90 i) ∧ (∀ i, 0 ≤ i → i < 24 → τ 130 (112 + i) = σ 91 i) ∧ (∀ i, 0 ≤ i → i < 84 → τ 130 (136 + i) = σ 92 i) ∧ (∀ i, 0 ≤ i → i < 4 → τ 130 (220 + i) = σ 93 i) ∧ (∀ i, 0 ≤ i → i < 12 → τ 130 (224 + i) = σ 94 i) ∧ (∀ i, 0 ≤ i → i < 32 → τ 130 (236 + i) = σ 95 i) ∧ (∀ i, 0 ≤ i → i < 200 → τ 130 (268 + i) = σ 96 i) ∧ (∀ i, 0 ≤ i → i < 32 → τ 130 (468 + i) = σ 97 i) ∧ (∀ i, 0 ≤ i → i < 40 → τ 130 (500 + i) = σ 98 i) ∧ (∀ i : Int, i ≠ 63 → τ 87 i = σ 87 i) ∧ ∀ k : Int, k ≠ 87 → k ≠ 130 → τ k = σ k := by
  generalize hg : updM σ 87 63 0 = m0
  have g0 : m0 87 63 = 0 := by rw [← hg, upd_at]
  have g1 : ∀ i : Int, i ≠ 63 → m0 87 i = σ 87 i := fun i hi => by rw [← hg, upd_ni hi]
  have g2 : ∀ k : Int, k ≠ 87 → m0 k = σ k := fun k hk => by rw [← hg]; exact funext fun i => upd_ne _ hk
  obtain ⟨m1, e0, l0, b0, c0, d0, f0⟩ := r12_moveO (σ := m0) L_88 (by decide) g0 (by decide) (by decide) (by decide)
  rw [show (0 : Int) + 8 = 8 from rfl] at l0
  obtain ⟨m2, e1, l1, b1, c1, d1, f1⟩ := r12_moveO (σ := m1) L_89 (by decide) l0 (by decide) (by decide) (by decide)
  rw [show (8 : Int) + 40 = 48 from rfl] at l1
  obtain ⟨m3, e2, l2, b2, c2, d2, f2⟩ := r12_moveO (σ := m2) L_90 (by decide) l1 (by decide) (by decide) (by decide)
  rw [show (48 : Int) + 64 = 112 from rfl] at l2
  obtain ⟨m4, e3, l3, b3, c3, d3, f3⟩ := r12_moveO (σ := m3) L_91 (by decide) l2 (by decide) (by decide) (by decide)
  rw [show (112 : Int) + 24 = 136 from rfl] at l3
  obtain ⟨m5, e4, l4, b4, c4, d4, f4⟩ := r12_moveO (σ := m4) L_92 (by decide) l3 (by decide) (by decide) (by decide)
  rw [show (136 : Int) + 84 = 220 from rfl] at l4
  obtain ⟨m6, e5, l5, b5, c5, d5, f5⟩ := r12_moveO (σ := m5) L_93 (by decide) l4 (by decide) (by decide) (by decide)
  rw [show (220 : Int) + 4 = 224 from rfl] at l5
  obtain ⟨m7, e6, l6, b6, c6, d6, f6⟩ := r12_moveO (σ := m6) L_94 (by decide) l5 (by decide) (by decide) (by decide)
  rw [show (224 : Int) + 12 = 236 from rfl] at l6
  obtain ⟨m8, e7, l7, b7, c7, d7, f7⟩ := r12_moveO (σ := m7) L_95 (by decide) l6 (by decide) (by decide) (by decide)
  rw [show (236 : Int) + 32 = 268 from rfl] at l7
  obtain ⟨m9, e8, l8, b8, c8, d8, f8⟩ := r12_moveO (σ := m8) L_96 (by decide) l7 (by decide) (by decide) (by decide)
  rw [show (268 : Int) + 200 = 468 from rfl] at l8
  obtain ⟨m10, e9, l9, b9, c9, d9, f9⟩ := r12_moveO (σ := m9) L_97 (by decide) l8 (by decide) (by decide) (by decide)
  rw [show (468 : Int) + 32 = 500 from rfl] at l9
  obtain ⟨m11, e10, l10, b10, c10, d10, f10⟩ := r12_moveO (σ := m10) L_98 (by decide) l9 (by decide) (by decide) (by decide)
  rw [show (500 : Int) + 40 = 540 from rfl] at l10
  refine ⟨m11, ?_, fun i i0 i1 => ?_, fun i i0 i1 => ?_, fun i i0 i1 => ?_, fun i i0 i1 => ?_, fun i i0 i1 => ?_, fun i i0 i1 => ?_, fun i i0 i1 => ?_, fun i i0 i1 => ?_, fun i i0 i1 => ?_, fun i i0 i1 => ?_, fun i i0 i1 => ?_, fun i hi => ?_, fun k k1 k2 => ?_⟩
  · simp only [u12_moveAll, b12_moveAll, ev_op, ev_op2, ev_op1, ev_dv, ev_dv2, ev_dv1, ev_un, ev_un1, ev_lit, ev_l0, ev_l1, ev_l2, ev_l3, ev_l4, ev_l5, ev_l6, ev_l7, ev_l8, ev_l9, ev_l10, ev_l11, ev_rf, ev_gi, ev_gi1, ev_gi2, ev_gr, ev_gr1, ev_at0, ev_at, ev_al, ev_al2, ev_al1, ev_an, ev_an1, ev_vs0, ev_vs, ev_vs2, ev_vs1, ev_ca, ev_ca1, ev_cv, ev_cv1, ev_cv2, ev_if, ev_if1, ev_cmp, ev_cmp2, ev_cmp1, ev_not, ev_not1, ev_and, ev_and1, ev_or, ev_or1, ev_e, ev_e1, ev_cif, ev_cif1, ev_qlt, ev_qle, ev_qgt, ev_qge, ev_qeq, ev_qne, ev_skip, ev_brk, ev_cnt, ev_retv, ev_seq, ev_seq0, ev_seq1, ev_seq2, ev_seq3, ev_seqi, ev_sif, ev_sif1, ev_ret, ev_ret1, ev_retz, ev_retzb, ev_retzc, ev_retz1, ev_retc, ev_asg, ev_s0, ev_s1, ev_s2, ev_s3, ev_s4, ev_s5, ev_s6, ev_s7, ev_s8, ev_s9, ev_s10, ev_s11, ev_exp, ev_exp1, ev_pf, ev_pf2, ev_pf1, ev_pz, ev_pz2, ev_pz1, ev_of, ev_of2, ev_of1, ev_st, ev_as, ev_as3, ev_as2, ev_as1, ev_oa, ev_oa3, ev_oa2, ev_oa1, ev_oa0, ev_cp, ev_cp3, ev_cp2, ev_cp1, ev_sw, ev_sw1, ev_swb0, ev_swb1, ev_swb3, ev_swbi, ev_fin3, ev_fin0, ev_fini, ev_iv, ev_ic, ev_b1, ev_b2, ev_b3, ev_b4, ev_b5, ev_b6, ev_or12, ev_lp, ev_lc, ev_lb0, ev_lb1, ev_lb2, ev_lb3, ev_lbi, ev_lu, ev_ass, Int.reduceAdd, Int.reduceSub, Int.reduceMul, Int.reduceNeg, Int.reduceLT, Int.reduceLE, Int.reduceGT, Int.reduceGE, Int.reduceEq, Int.reduceNe, Int.reduceDiv, Int.reduceMod, Int.reduceToNat, Nat.reduceAdd, Nat.reduceMul, Nat.reduceSub, Nat.reduceLT, Nat.reduceEqDiff, Int.reduceNatCast', reduceIte, ite_true, ite_false, if_true, if_false, decide_eq_true_eq, decide_true, decide_false, decide_not, Bool.not_eq_true', decide_eq_false_iff_not, Bool.not_not, Bool.and_eq_true, Bool.or_eq_true, Bool.not_true, Bool.not_false, not_true_eq_false, not_false_eq_true, true_and, and_true, false_and, and_false, true_or, or_true, false_or, or_false, Bool.true_and, Bool.and_true, Bool.false_and, Bool.and_false, Bool.true_or, Bool.or_true, Bool.or_false, Bool.false_or, Bool.not_eq_false', Bool.true_eq_false, Bool.false_eq_true, eq_self, Classical.not_not, ite_not, ne_eq, Option.some.injEq, Prod.mk.injEq, L_87, hg, e0, e1, e2, e3, e4, e5, e6, e7, e8, e9, e10]
  · rw [d10 _ (by omega), d9 _ (by omega), d8 _ (by omega), d7 _ (by omega), d6 _ (by omega), d5 _ (by omega), d4 _ (by omega), d3 _ (by omega), d2 _ (by omega), d1 _ (by omega), c0 i i0 i1, g2 88 (by decide)]
  · rw [d10 _ (by omega), d9 _ (by omega), d8 _ (by omega), d7 _ (by omega), d6 _ (by omega), d5 _ (by omega), d4 _ (by omega), d3 _ (by omega), d2 _ (by omega), c1 i i0 i1, f0 89 (by decide) (by decide), g2 89 (by decide)]
  · rw [d10 _ (by omega), d9 _ (by omega), d8 _ (by omega), d7 _ (by omega), d6 _ (by omega), d5 _ (by omega), d4 _ (by omega), d3 _ (by omega), c2 i i0 i1, f1 90 (by decide) (by decide), f0 90 (by decide) (by decide), g2 90 (by decide)]
  · rw [d10 _ (by omega), d9 _ (by omega), d8 _ (by omega), d7 _ (by omega), d6 _ (by omega), d5 _ (by omega), d4 _ (by omega), c3 i i0 i1, f2 91 (by decide) (by decide), f1 91 (by decide) (by decide), f0 91 (by decide) (by decide), g2 91 (by decide)]
  · rw [d10 _ (by omega), d9 _ (by omega), d8 _ (by omega), d7 _ (by omega), d6 _ (by omega), d5 _ (by omega), c4 i i0 i1, f3 92 (by decide) (by decide), f2 92 (by decide) (by decide), f1 92 (by decide) (by decide), f0 92 (by decide) (by decide), g2 92 (by decide)]
  · rw [d10 _ (by omega), d9 _ (by omega), d8 _ (by omega), d7 _ (by omega), d6 _ (by omega), c5 i i0 i1, f4 93 (by decide) (by decide), f3 93 (by decide) (by decide), f2 93 (by decide) (by decide), f1 93 (by decide) (by decide), f0 93 (by decide) (by decide), g2 93 (by decide)]
  · rw [d10 _ (by omega), d9 _ (by omega), d8 _ (by omega), d7 _ (by omega), c6 i i0 i1, f5 94 (by decide) (by decide), f4 94 (by decide) (by decide), f3 94 (by decide) (by decide), f2 94 (by decide) (by decide), f1 94 (by decide) (by decide), f0 94 (by decide) (by decide), g2 94 (by decide)]
  · rw [d10 _ (by omega), d9 _ (by omega), d8 _ (by omega), c7 i i0 i1, f6 95 (by decide) (by decide), f5 95 (by decide) (by decide), f4 95 (by decide) (by decide), f3 95 (by decide) (by decide), f2 95 (by decide) (by decide), f1 95 (by decide) (by decide), f0 95 (by decide) (by decide), g2 95 (by decide)]
  · rw [d10 _ (by omega), d9 _ (by omega), c8 i i0 i1, f7 96 (by decide) (by decide), f6 96 (by decide) (by decide), f5 96 (by decide) (by decide), f4 96 (by decide) (by decide), f3 96 (by decide) (by decide), f2 96 (by decide) (by decide), f1 96 (by decide) (by decide), f0 96 (by decide) (by decide), g2 96 (by decide)]
  · rw [d10 _ (by omega), c9 i i0 i1, f8 97 (by decide) (by decide), f7 97 (by decide) (by decide), f6 97 (by decide) (by decide), f5 97 (by decide) (by decide), f4 97 (by decide) (by decide), f3 97 (by decide) (by decide), f2 97 (by decide) (by decide), f1 97 (by decide) (by decide), f0 97 (by decide) (by decide), g2 97 (by decide)]
  · rw [c10 i i0 i1, f9 98 (by decide) (by decide), f8 98 (by decide) (by decide), f7 98 (by decide) (by decide), f6 98 (by decide) (by decide), f5 98 (by decide) (by decide), f4 98 (by decide) (by decide), f3 98 (by decide) (by decide), f2 98 (by decide) (by decide), f1 98 (by decide) (by decide), f0 98 (by decide) (by decide), g2 98 (by decide)]
  · rw [b10 i hi, b9 i hi, b8 i hi, b7 i hi, b6 i hi, b5 i hi, b4 i hi, b3 i hi, b2 i hi, b1 i hi, b0 i hi, g1 i hi]
  · rw [f10 k k1 k2, f9 k k1 k2, f8 k k1 k2, f7 k k1 k2, f6 k k1 k2, f5 k k1 k2, f4 k k1 k2, f3 k k1 k2, f2 k k1 k2, f1 k k1 k2, f0 k k1 k2, g2 k k1]
theorem r12_allI {σ : cvM} : ∃ τ, f12_moveAll [87, 0] σ = some (0, τ) ∧ (∀ i, 0 ≤ i → i < 8 → τ 88 i = σ 130 (0 + i)) ∧ (∀ i, 0 ≤ i → i < 40 → τ 89 i = σ 130 (8 + i)) ∧ (∀ i, 0 ≤ i → i < 64 → τ 90 i = σ 130 (48 + i)) ∧ (∀ i, 0 ≤ i → i < 24 → τ 91 i = σ 130 (112 + i)) ∧ (∀ i, 0 ≤ i → i < 84 → τ 92 i = σ 130 (136 + i)) ∧ (∀ i, 0 ≤ i → i < 4 → τ 93 i = σ 130 (220 + i)) ∧ (∀ i, 0 ≤ i → i < 12 → τ 94 i = σ 130 (224 + i)) ∧ (∀ i, 0 ≤ i → i < 32 → τ 95 i = σ 130 (236 + i)) ∧ (∀ i, 0 ≤ i → i < 200 → τ 96 i = σ 130 (268 + i)) ∧ (∀ i, 0 ≤ i → i < 32 → τ 97 i = σ 130 (468 + i)) ∧ (∀ i, 0 ≤ i → i < 40 → τ 98 i = σ 130 (500 + i)) ∧ (∀ i : Int, i ≠ 63 → τ 87 i = σ 87 i) ∧ ∀ k : Int, k ≠ 87 → k ≠ 88 → k ≠ 89 → k ≠ 90 → k ≠ 91 → k ≠ 92 → k ≠ 93 → k ≠ 94 → k ≠ 95 → k ≠ 96 → k ≠ 97 → k ≠ 98 → τ k = σ k := by
  generalize hg : updM σ 87 63 0 = m0
  have g0 : m0 87 63 = 0 := by rw [← hg, upd_at]
  have g1 : ∀ i : Int, i ≠ 63 → m0 87 i = σ 87 i := fun i hi => by rw [← hg, upd_ni hi]
  have g2 : ∀ k : Int, k ≠ 87 → m0 k = σ k := fun k hk => by rw [← hg]; exact funext fun i => upd_ne _ hk
  obtain ⟨m1, e0, l0, b0, c0, f0⟩ := r12_moveI (σ := m0) L_88 (by decide) g0 (by decide) (by decide) (by decide)
  rw [show (0 : Int) + 8 = 8 from rfl] at l0
  obtain ⟨m2, e1, l1, b1, c1, f1⟩ := r12_moveI (σ := m1) L_89 (by decide) l0 (by decide) (by decide) (by decide)
  rw [show (8 : Int) + 40 = 48 from rfl] at l1
  obtain ⟨m3, e2, l2, b2, c2, f2⟩ := r12_moveI (σ := m2) L_90 (by decide) l1 (by decide) (by decide) (by decide)
  rw [show (48 : Int) + 64 = 112 from rfl] at l2
  obtain ⟨m4, e3, l3, b3, c3, f3⟩ := r12_moveI (σ := m3) L_91 (by decide) l2 (by decide) (by decide) (by decide)
  rw [show (112 : Int) + 24 = 136 from rfl] at l3
  obtain ⟨m5, e4, l4, b4, c4, f4⟩ := r12_moveI (σ := m4) L_92 (by decide) l3 (by decide) (by decide) (by decide)
  rw [show (136 : Int) + 84 = 220 from rfl] at l4
  obtain ⟨m6, e5, l5, b5, c5, f5⟩ := r12_moveI (σ := m5) L_93 (by decide) l4 (by decide) (by decide) (by decide)
  rw [show (220 : Int) + 4 = 224 from rfl] at l5
  obtain ⟨m7, e6, l6, b6, c6, f6⟩ := r12_moveI (σ := m6) L_94 (by decide) l5 (by decide) (by decide) (by decide)
  rw [show (224 : Int) + 12 = 236 from rfl] at l6
  obtain ⟨m8, e7, l7, b7, c7, f7⟩ := r12_moveI (σ := m7) L_95 (by decide) l6 (by decide) (by decide) (by decide)
  rw [show (236 : Int) + 32 = 268 from rfl] at l7
  obtain ⟨m9, e8, l8, b8, c8, f8⟩ := r12_moveI (σ := m8) L_96 (by decide) l7 (by decide) (by decide) (by decide)
  rw [show (268 : Int) + 200 = 468 from rfl] at l8
  obtain ⟨m10, e9, l9, b9, c9, f9⟩ := r12_moveI (σ := m9) L_97 (by decide) l8 (by decide) (by decide) (by decide)
  rw [show (468 : Int) + 32 = 500 from rfl] at l9
  obtain ⟨m11, e10, l10, b10, c10, f10⟩ := r12_moveI (σ := m10) L_98 (by decide) l9 (by decide) (by decide) (by decide)
  rw [show (500 : Int) + 40 = 540 from rfl] at l10
  refine ⟨m11, ?_, fun i i0 i1 => ?_, fun i i0 i1 => ?_, fun i i0 i1 => ?_, fun i i0 i1 => ?_, fun i i0 i1 => ?_, fun i i0 i1 => ?_, fun i i0 i1 => ?_, fun i i0 i1 => ?_, fun i i0 i1 => ?_, fun i i0 i1 => ?_, fun i i0 i1 => ?_, fun i hi => ?_, fun k k1 k88 k89 k90 k91 k92 k93 k94 k95 k96 k97 k98 => ?_⟩
  · simp only [u12_moveAll, b12_moveAll, ev_op, ev_op2, ev_op1, ev_dv, ev_dv2, ev_dv1, ev_un, ev_un1, ev_lit, ev_l0, ev_l1, ev_l2, ev_l3, ev_l4, ev_l5, ev_l6, ev_l7, ev_l8, ev_l9, ev_l10, ev_l11, ev_rf, ev_gi, ev_gi1, ev_gi2, ev_gr, ev_gr1, ev_at0, ev_at, ev_al, ev_al2, ev_al1, ev_an, ev_an1, ev_vs0, ev_vs, ev_vs2, ev_vs1, ev_ca, ev_ca1, ev_cv, ev_cv1, ev_cv2, ev_if, ev_if1, ev_cmp, ev_cmp2, ev_cmp1, ev_not, ev_not1, ev_and, ev_and1, ev_or, ev_or1, ev_e, ev_e1, ev_cif, ev_cif1, ev_qlt, ev_qle, ev_qgt, ev_qge, ev_qeq, ev_qne, ev_skip, ev_brk, ev_cnt, ev_retv, ev_seq, ev_seq0, ev_seq1, ev_seq2, ev_seq3, ev_seqi, ev_sif, ev_sif1, ev_ret, ev_ret1, ev_retz, ev_retzb, ev_retzc, ev_retz1, ev_retc, ev_asg, ev_s0, ev_s1, ev_s2, ev_s3, ev_s4, ev_s5, ev_s6, ev_s7, ev_s8, ev_s9, ev_s10, ev_s11, ev_exp, ev_exp1, ev_pf, ev_pf2, ev_pf1, ev_pz, ev_pz2, ev_pz1, ev_of, ev_of2, ev_of1, ev_st, ev_as, ev_as3, ev_as2, ev_as1, ev_oa, ev_oa3, ev_oa2, ev_oa1, ev_oa0, ev_cp, ev_cp3, ev_cp2, ev_cp1, ev_sw, ev_sw1, ev_swb0, ev_swb1, ev_swb3, ev_swbi, ev_fin3, ev_fin0, ev_fini, ev_iv, ev_ic, ev_b1, ev_b2, ev_b3, ev_b4, ev_b5, ev_b6, ev_or12, ev_lp, ev_lc, ev_lb0, ev_lb1, ev_lb2, ev_lb3, ev_lbi, ev_lu, ev_ass, Int.reduceAdd, Int.reduceSub, Int.reduceMul, Int.reduceNeg, Int.reduceLT, Int.reduceLE, Int.reduceGT, Int.reduceGE, Int.reduceEq, Int.reduceNe, Int.reduceDiv, Int.reduceMod, Int.reduceToNat, Nat.reduceAdd, Nat.reduceMul, Nat.reduceSub, Nat.reduceLT, Nat.reduceEqDiff, Int.reduceNatCast', reduceIte, ite_true, ite_false, if_true, if_false, decide_eq_true_eq, decide_true, decide_false, decide_not, Bool.not_eq_true', decide_eq_false_iff_not, Bool.not_not, Bool.and_eq_true, Bool.or_eq_true, Bool.not_true, Bool.not_false, not_true_eq_false, not_false_eq_true, true_and, and_true, false_and, and_false, true_or, or_true, false_or, or_false, Bool.true_and, Bool.and_true, Bool.false_and, Bool.and_false, Bool.true_or, Bool.or_true, Bool.or_false, Bool.false_or, Bool.not_eq_false', Bool.true_eq_false, Bool.false_eq_true, eq_self, Classical.not_not, ite_not, ne_eq, Option.some.injEq, Prod.mk.injEq, L_87, hg, e0, e1, e2, e3, e4, e5, e6, e7, e8, e9, e10]
  · rw [f10 88 (by decide) (by decide), f9 88 (by decide) (by decide), f8 88 (by decide) (by decide), f7 88 (by decide) (by decide), f6 88 (by decide) (by decide), f5 88 (by decide) (by decide), f4 88 (by decide) (by decide), f3 88 (by decide) (by decide), f2 88 (by decide) (by decide), f1 88 (by decide) (by decide), c0 i i0 i1, g2 130 (by decide)]
  · rw [f10 89 (by decide) (by decide), f9 89 (by decide) (by decide), f8 89 (by decide) (by decide), f7 89 (by decide) (by decide), f6 89 (by decide) (by decide), f5 89 (by decide) (by decide), f4 89 (by decide) (by decide), f3 89 (by decide) (by decide), f2 89 (by decide) (by decide), c1 i i0 i1, f0 130 (by decide) (by decide), g2 130 (by decide)]
  · rw [f10 90 (by decide) (by decide), f9 90 (by decide) (by decide), f8 90 (by decide) (by decide), f7 90 (by decide) (by decide), f6 90 (by decide) (by decide), f5 90 (by decide) (by decide), f4 90 (by decide) (by decide), f3 90 (by decide) (by decide), c2 i i0 i1, f1 130 (by decide) (by decide), f0 130 (by decide) (by decide), g2 130 (by decide)]
  · rw [f10 91 (by decide) (by decide), f9 91 (by decide) (by decide), f8 91 (by decide) (by decide), f7 91 (by decide) (by decide), f6 91 (by decide) (by decide), f5 91 (by decide) (by decide), f4 91 (by decide) (by decide), c3 i i0 i1, f2 130 (by decide) (by decide), f1 130 (by decide) (by decide), f0 130 (by decide) (by decide), g2 130 (by decide)]
  · rw [f10 92 (by decide) (by decide), f9 92 (by decide) (by decide), f8 92 (by decide) (by decide), f7 92 (by decide) (by decide), f6 92 (by decide) (by decide), f5 92 (by decide) (by decide), c4 i i0 i1, f3 130 (by decide) (by decide), f2 130 (by decide) (by decide), f1 130 (by decide) (by decide), f0 130 (by decide) (by decide), g2 130 (by decide)]
  · rw [f10 93 (by decide) (by decide), f9 93 (by decide) (by decide), f8 93 (by decide) (by decide), f7 93 (by decide) (by decide), f6 93 (by decide) (by decide), c5 i i0 i1, f4 130 (by decide) (by decide), f3 130 (by decide) (by decide), f2 130 (by decide) (by decide), f1 130 (by decide) (by decide), f0 130 (by decide) (by decide), g2 130 (by decide)]
  · rw [f10 94 (by decide) (by decide), f9 94 (by decide) (by decide), f8 94 (by decide) (by decide), f7 94 (by decide) (by decide), c6 i i0 i1, f5 130 (by decide) (by decide), f4 130 (by decide) (by decide), f3 130 (by decide) (by decide), f2 130 (by decide) (by decide), f1 130 (by decide) (by decide), f0 130 (by decide) (by decide), g2 130 (by decide)]
  · rw [f10 95 (by decide) (by decide), f9 95 (by decide) (by decide), f8 95 (by decide) (by decide), c7 i i0 i1, f6 130 (by decide) (by decide), f5 130 (by decide) (by decide), f4 130 (by decide) (by decide), f3 130 (by decide) (by decide), f2 130 (by decide) (by decide), f1 130 (by decide) (by decide), f0 130 (by decide) (by decide), g2 130 (by decide)]
  · rw [f10 96 (by decide) (by decide), f9 96 (by decide) (by decide), c8 i i0 i1, f7 130 (by decide) (by decide), f6 130 (by decide) (by decide), f5 130 (by decide) (by decide), f4 130 (by decide) (by decide), f3 130 (by decide) (by decide), f2 130 (by decide) (by decide), f1 130 (by decide) (by decide), f0 130 (by decide) (by decide), g2 130 (by decide)]
  · rw [f10 97 (by decide) (by decide), c9 i i0 i1, f8 130 (by decide) (by decide), f7 130 (by decide) (by decide), f6 130 (by decide) (by decide), f5 130 (by decide) (by decide), f4 130 (by decide) (by decide), f3 130 (by decide) (by decide), f2 130 (by decide) (by decide), f1 130 (by decide) (by decide), f0 130 (by decide) (by decide), g2 130 (by decide)]
  · rw [c10 i i0 i1, f9 130 (by decide) (by decide), f8 130 (by decide) (by decide), f7 130 (by decide) (by decide), f6 130 (by decide) (by decide), f5 130 (by decide) (by decide), f4 130 (by decide) (by decide), f3 130 (by decide) (by decide), f2 130 (by decide) (by decide), f1 130 (by decide) (by decide), f0 130 (by decide) (by decide), g2 130 (by decide)]
  · rw [b10 i hi, b9 i hi, b8 i hi, b7 i hi, b6 i hi, b5 i hi, b4 i hi, b3 i hi, b2 i hi, b1 i hi, b0 i hi, g1 i hi]
  · rw [f10 k k1 k98, f9 k k1 k97, f8 k k1 k96, f7 k k1 k95, f6 k k1 k94, f5 k k1 k93, f4 k k1 k92, f3 k k1 k91, f2 k k1 k90, f1 k k1 k89, f0 k k1 k88, g2 k k1]
theorem ag_keep : Ag f11_keep f12_keep [] := fun σ hI => by
  have h := hI.W
  have hk := hI.K
  obtain ⟨ks0, ks1, ks2, ks3, ks4, ks5, ks6, ks7, ks8, ks9, ks10, ks11, ks12, ks13⟩ := hk.2.2.2
  have t0 := h.places
  have t1 := h.persons
  have t2 := h.vans
  have t3 := h.delays
  have t4 := h.entries
  have t5 := h.things
  have t6 := h.lines
  obtain ⟨m, em, w1, w2, a0, a1, a2, a3, a4, a5, a6, b0, b1, b2, b3, b4, b5, b6, c0, c1, c2, c3, c4, c5, c6, d0, d1, d2, d3, fr⟩ := r10_become_2 (σ := σ) (by rw [t0.2.2.1, ks1]; exact t0.2.2.2.2.1) (by rw [t1.2.2.1, ks3]; exact t1.2.2.2.2.1) (by rw [t2.2.2.1, ks5]; exact t2.2.2.2.2.1) (by rw [t3.2.2.1, ks7]; exact t3.2.2.2.2.1) (by rw [t4.2.2.1, ks9]; exact t4.2.2.2.2.1) (by rw [t5.2.2.1, ks11]; exact t5.2.2.2.2.1) (by rw [t6.2.2.1, ks13]; exact t6.2.2.2.2.1)
  have fr2 : ∀ k : Int, ¬ (k = 2 ∨ (14 ≤ k ∧ k ≤ 24) ∨ (32 ≤ k ∧ k ≤ 38)) → m k = σ k := fun k hk => fr k (by omega) (by omega) (by omega) (by omega) (by omega) (by omega) (by omega) (by omega) (by omega) (by omega) (by omega) (by omega) (by omega) (by omega) (by omega) (by omega) (by omega) (by omega) (by omega)
  generalize h1 : updM m 0 2 1 = σ1
  have g1 : ∀ k : Int, k ≠ 0 → σ1 k = m k := fun k hk => by rw [← h1]; exact funext fun i => upd_ne _ hk
  have g2 : σ1 0 2 = 1 := by rw [← h1, upd_at]
  obtain ⟨n, en, x0, x1, x2, x3, x4, x5, x6, x7, x8, x9, x10, y1, y2⟩ := r12_allO (σ := σ1)
  generalize h2 : updM n 87 61 1 = σ2
  have g3 : ∀ k : Int, k ≠ 87 → σ2 k = n k := fun k hk => by rw [← h2]; exact funext fun i => upd_ne _ hk
  have g4 : σ2 87 61 = 1 := by rw [← h2, upd_at]
  have g5 : ∀ i : Int, i ≠ 61 → σ2 87 i = n 87 i := fun i hi => by rw [← h2, upd_ni hi]
  refine ⟨1, σ1, σ2, ?_, ?_, ?_⟩
  · simp only [u11_keep, b11_keep, ev_op, ev_op2, ev_op1, ev_dv, ev_dv2, ev_dv1, ev_un, ev_un1, ev_lit, ev_l0, ev_l1, ev_l2, ev_l3, ev_l4, ev_l5, ev_l6, ev_l7, ev_l8, ev_l9, ev_l10, ev_l11, ev_rf, ev_gi, ev_gi1, ev_gi2, ev_gr, ev_gr1, ev_at0, ev_at, ev_al, ev_al2, ev_al1, ev_an, ev_an1, ev_vs0, ev_vs, ev_vs2, ev_vs1, ev_ca, ev_ca1, ev_cv, ev_cv1, ev_cv2, ev_if, ev_if1, ev_cmp, ev_cmp2, ev_cmp1, ev_not, ev_not1, ev_and, ev_and1, ev_or, ev_or1, ev_e, ev_e1, ev_cif, ev_cif1, ev_qlt, ev_qle, ev_qgt, ev_qge, ev_qeq, ev_qne, ev_skip, ev_brk, ev_cnt, ev_retv, ev_seq, ev_seq0, ev_seq1, ev_seq2, ev_seq3, ev_seqi, ev_sif, ev_sif1, ev_ret, ev_ret1, ev_retz, ev_retzb, ev_retzc, ev_retz1, ev_retc, ev_asg, ev_s0, ev_s1, ev_s2, ev_s3, ev_s4, ev_s5, ev_s6, ev_s7, ev_s8, ev_s9, ev_s10, ev_s11, ev_exp, ev_exp1, ev_pf, ev_pf2, ev_pf1, ev_pz, ev_pz2, ev_pz1, ev_of, ev_of2, ev_of1, ev_st, ev_as, ev_as3, ev_as2, ev_as1, ev_oa, ev_oa3, ev_oa2, ev_oa1, ev_oa0, ev_cp, ev_cp3, ev_cp2, ev_cp1, ev_sw, ev_sw1, ev_swb0, ev_swb1, ev_swb3, ev_swbi, ev_fin3, ev_fin0, ev_fini, ev_iv, ev_ic, ev_b1, ev_b2, ev_b3, ev_b4, ev_b5, ev_b6, ev_or12, ev_lp, ev_lc, ev_lb0, ev_lb1, ev_lb2, ev_lb3, ev_lbi, ev_lu, ev_ass, Int.reduceAdd, Int.reduceSub, Int.reduceMul, Int.reduceNeg, Int.reduceLT, Int.reduceLE, Int.reduceGT, Int.reduceGE, Int.reduceEq, Int.reduceNe, Int.reduceDiv, Int.reduceMod, Int.reduceToNat, Nat.reduceAdd, Nat.reduceMul, Nat.reduceSub, Nat.reduceLT, Nat.reduceEqDiff, Int.reduceNatCast', reduceIte, ite_true, ite_false, if_true, if_false, decide_eq_true_eq, decide_true, decide_false, decide_not, Bool.not_eq_true', decide_eq_false_iff_not, Bool.not_not, Bool.and_eq_true, Bool.or_eq_true, Bool.not_true, Bool.not_false, not_true_eq_false, not_false_eq_true, true_and, and_true, false_and, and_false, true_or, or_true, false_or, or_false, Bool.true_and, Bool.and_true, Bool.false_and, Bool.and_false, Bool.true_or, Bool.or_true, Bool.or_false, Bool.false_or, Bool.not_eq_false', Bool.true_eq_false, Bool.false_eq_true, eq_self, Classical.not_not, ite_not, ne_eq, Option.some.injEq, Prod.mk.injEq, L_0, L_1, L_2, em, h1]
  · simp only [u12_keep, b12_keep, ev_op, ev_op2, ev_op1, ev_dv, ev_dv2, ev_dv1, ev_un, ev_un1, ev_lit, ev_l0, ev_l1, ev_l2, ev_l3, ev_l4, ev_l5, ev_l6, ev_l7, ev_l8, ev_l9, ev_l10, ev_l11, ev_rf, ev_gi, ev_gi1, ev_gi2, ev_gr, ev_gr1, ev_at0, ev_at, ev_al, ev_al2, ev_al1, ev_an, ev_an1, ev_vs0, ev_vs, ev_vs2, ev_vs1, ev_ca, ev_ca1, ev_cv, ev_cv1, ev_cv2, ev_if, ev_if1, ev_cmp, ev_cmp2, ev_cmp1, ev_not, ev_not1, ev_and, ev_and1, ev_or, ev_or1, ev_e, ev_e1, ev_cif, ev_cif1, ev_qlt, ev_qle, ev_qgt, ev_qge, ev_qeq, ev_qne, ev_skip, ev_brk, ev_cnt, ev_retv, ev_seq, ev_seq0, ev_seq1, ev_seq2, ev_seq3, ev_seqi, ev_sif, ev_sif1, ev_ret, ev_ret1, ev_retz, ev_retzb, ev_retzc, ev_retz1, ev_retc, ev_asg, ev_s0, ev_s1, ev_s2, ev_s3, ev_s4, ev_s5, ev_s6, ev_s7, ev_s8, ev_s9, ev_s10, ev_s11, ev_exp, ev_exp1, ev_pf, ev_pf2, ev_pf1, ev_pz, ev_pz2, ev_pz1, ev_of, ev_of2, ev_of1, ev_st, ev_as, ev_as3, ev_as2, ev_as1, ev_oa, ev_oa3, ev_oa2, ev_oa1, ev_oa0, ev_cp, ev_cp3, ev_cp2, ev_cp1, ev_sw, ev_sw1, ev_swb0, ev_swb1, ev_swb3, ev_swbi, ev_fin3, ev_fin0, ev_fini, ev_iv, ev_ic, ev_b1, ev_b2, ev_b3, ev_b4, ev_b5, ev_b6, ev_or12, ev_lp, ev_lc, ev_lb0, ev_lb1, ev_lb2, ev_lb3, ev_lbi, ev_lu, ev_ass, Int.reduceAdd, Int.reduceSub, Int.reduceMul, Int.reduceNeg, Int.reduceLT, Int.reduceLE, Int.reduceGT, Int.reduceGE, Int.reduceEq, Int.reduceNe, Int.reduceDiv, Int.reduceMod, Int.reduceToNat, Nat.reduceAdd, Nat.reduceMul, Nat.reduceSub, Nat.reduceLT, Nat.reduceEqDiff, Int.reduceNatCast', reduceIte, ite_true, ite_false, if_true, if_false, decide_eq_true_eq, decide_true, decide_false, decide_not, Bool.not_eq_true', decide_eq_false_iff_not, Bool.not_not, Bool.and_eq_true, Bool.or_eq_true, Bool.not_true, Bool.not_false, not_true_eq_false, not_false_eq_true, true_and, and_true, false_and, and_false, true_or, or_true, false_or, or_false, Bool.true_and, Bool.and_true, Bool.false_and, Bool.and_false, Bool.true_or, Bool.or_true, Bool.or_false, Bool.false_or, Bool.not_eq_false', Bool.true_eq_false, Bool.false_eq_true, eq_self, Classical.not_not, ite_not, ne_eq, Option.some.injEq, Prod.mk.injEq, L_87, en, h2]
  · have p : ∀ k : Int, ¬ (k = 0 ∨ k = 2 ∨ (14 ≤ k ∧ k ≤ 24) ∨ (32 ≤ k ∧ k ≤ 38) ∨ k = 87 ∨ k = 130) → σ2 k = σ k := fun k hk => by rw [g3 k (by omega), y2 k (by omega) (by omega), g1 k (by omega), fr2 k (by omega)]
    have q : ∀ i : Int, i ≠ 61 → i ≠ 63 → σ2 87 i = σ 87 i := fun i i1 i2 => by rw [g5 i i1, y1 i i2, g1 87 (by decide), fr2 87 (by decide)]
    have z : ∀ k : Int, k ≠ 0 → k ≠ 87 → k ≠ 130 → σ2 k = m k := fun k k0 k1 k2 => by rw [g3 k k1, y2 k k1 k2, g1 k k0]
    have v : ∀ k : Int, 88 ≤ k → k ≤ 98 → σ1 k = σ k := fun k k0 k1 => by rw [g1 k (by omega), fr2 k (by omega)]
    refine ⟨h.congr2 fun k i hr => by rw [p k (by omega)], hI.R.congr (p 55 (by decide)) (p 56 (by decide)) (q 23 (by decide) (by decide)) (p 107 (by decide)), hI.T.congr (by rw [p 64 (by decide)]) (p 65 (by decide)) (q 29 (by decide) (by decide)) (p 111 (by decide)) (p 68 (by decide)), hI.S.congr (p 80 (by decide)) (p 123 (by decide)) (p 81 (by decide)) (p 124 (by decide)) (p 82 (by decide)) (p 125 (by decide)), hI.F.congr (p 126 (by decide)) (p 83 (by decide)) (p 84 (by decide)) (p 127 (by decide)) (p 85 (by decide)) (p 128 (by decide)), hI.X.congr (by rw [p 79 (by decide)]) (q 59 (by decide) (by decide)) (p 86 (by decide)) (p 129 (by decide)), ?_, ?_, fun _ => ?_, ?_⟩
    · rw [g4, g3 0 (by decide), y2 0 (by decide) (by decide), g2]
    · rw [g3 0 (by decide), y2 0 (by decide) (by decide), g2]
      exact Or.inr rfl
    · refine h.congr fun k i hr => ?_
      clear p q hI hk fr fr2 em en h1 h2
      unfold rel at hr
      rcases hr with hr | hr | hr | hr | hr | hr | hr | hr | hr | hr | hr | hr | hr | hr | hr | hr | hr | hr | hr | hr | hr | hr | hr | hr
      · obtain ⟨rfl, e⟩ := hr
        show σ2 2 i = σ 1 i
        rw [z 2 (by decide) (by decide) (by decide)]
        rcases e with rfl | rfl
        · exact w1
        · exact w2
      · obtain ⟨l1, l2, e⟩ := hr
        have kc : k = 3 ∨ k = 4 ∨ k = 5 ∨ k = 6 ∨ k = 7 ∨ k = 8 ∨ k = 9 := by omega
        rcases kc with rfl | rfl | rfl | rfl | rfl | rfl | rfl
        · show σ2 14 i = σ 3 i
          rw [z 14 (by decide) (by decide) (by decide)]
          rcases e with rfl | rfl | rfl
          · rw [b0 0 (by decide), ks0, t0.1]
          · rw [b0 1 (by decide), ks1, t0.2.1]
          · exact a0
        · show σ2 15 i = σ 4 i
          rw [z 15 (by decide) (by decide) (by decide)]
          rcases e with rfl | rfl | rfl
          · rw [b1 0 (by decide), ks2, t1.1]
          · rw [b1 1 (by decide), ks3, t1.2.1]
          · exact a1
        · show σ2 16 i = σ 5 i
          rw [z 16 (by decide) (by decide) (by decide)]
          rcases e with rfl | rfl | rfl
          · rw [b2 0 (by decide), ks4, t2.1]
          · rw [b2 1 (by decide), ks5, t2.2.1]
          · exact a2
        · show σ2 17 i = σ 6 i
          rw [z 17 (by decide) (by decide) (by decide)]
          rcases e with rfl | rfl | rfl
          · rw [b3 0 (by decide), ks6, t3.1]
          · rw [b3 1 (by decide), ks7, t3.2.1]
          · exact a3
        · show σ2 18 i = σ 7 i
          rw [z 18 (by decide) (by decide) (by decide)]
          rcases e with rfl | rfl | rfl
          · rw [b4 0 (by decide), ks8, t4.1]
          · rw [b4 1 (by decide), ks9, t4.2.1]
          · exact a4
        · show σ2 19 i = σ 8 i
          rw [z 19 (by decide) (by decide) (by decide)]
          rcases e with rfl | rfl | rfl
          · rw [b5 0 (by decide), ks10, t5.1]
          · rw [b5 1 (by decide), ks11, t5.2.1]
          · exact a5
        · show σ2 20 i = σ 9 i
          rw [z 20 (by decide) (by decide) (by decide)]
          rcases e with rfl | rfl | rfl
          · rw [b6 0 (by decide), ks12, t6.1]
          · rw [b6 1 (by decide), ks13, t6.2.1]
          · exact a6
      · obtain ⟨rfl, e1, e2⟩ := hr
        show σ2 21 i = σ 10 i
        rw [z 21 (by decide) (by decide) (by decide)]
        exact d0 i e1 e2
      · obtain ⟨rfl, e1, e2⟩ := hr
        show σ2 22 i = σ 11 i
        rw [z 22 (by decide) (by decide) (by decide)]
        exact d1 i e1 e2
      · obtain ⟨rfl, e1, e2⟩ := hr
        show σ2 23 i = σ 12 i
        rw [z 23 (by decide) (by decide) (by decide)]
        exact d2 i e1 e2
      · obtain ⟨rfl, e1, e2⟩ := hr
        show σ2 24 i = σ 13 i
        rw [z 24 (by decide) (by decide) (by decide)]
        exact d3 i e1 e2
      · obtain ⟨rfl, e1, e2⟩ := hr
        show σ2 32 i = σ 25 i
        rw [z 32 (by decide) (by decide) (by decide)]
        exact c0 i e1 e2
      · obtain ⟨rfl, e1, e2⟩ := hr
        show σ2 33 i = σ 26 i
        rw [z 33 (by decide) (by decide) (by decide)]
        exact c1 i e1 e2
      · obtain ⟨rfl, e1, e2⟩ := hr
        show σ2 34 i = σ 27 i
        rw [z 34 (by decide) (by decide) (by decide)]
        exact c2 i e1 e2
      · obtain ⟨rfl, e1, e2⟩ := hr
        show σ2 35 i = σ 28 i
        rw [z 35 (by decide) (by decide) (by decide)]
        exact c3 i e1 e2
      · obtain ⟨rfl, e1, e2⟩ := hr
        show σ2 36 i = σ 29 i
        rw [z 36 (by decide) (by decide) (by decide)]
        exact c4 i e1 e2
      · obtain ⟨rfl, e1, e2⟩ := hr
        show σ2 37 i = σ 30 i
        rw [z 37 (by decide) (by decide) (by decide)]
        exact c5 i e1 e2
      · obtain ⟨rfl, e1, e2⟩ := hr
        show σ2 38 i = σ 31 i
        rw [z 38 (by decide) (by decide) (by decide)]
        exact c6 i e1 e2
      · obtain ⟨rfl, e1, e2⟩ := hr
        have this := x0 i e1 e2
        rw [Int.zero_add] at this
        show σ2 130 i = σ 88 i
        rw [g3 130 (by decide), this, v 88 (by decide) (by decide)]
      · obtain ⟨rfl, e1, e2⟩ := hr
        have this := x1 i e1 e2
        skip
        show σ2 130 (8 + i) = σ 89 i
        rw [g3 130 (by decide), this, v 89 (by decide) (by decide)]
      · obtain ⟨rfl, e1, e2⟩ := hr
        have this := x2 i e1 e2
        skip
        show σ2 130 (48 + i) = σ 90 i
        rw [g3 130 (by decide), this, v 90 (by decide) (by decide)]
      · obtain ⟨rfl, e1, e2⟩ := hr
        have this := x3 i e1 e2
        skip
        show σ2 130 (112 + i) = σ 91 i
        rw [g3 130 (by decide), this, v 91 (by decide) (by decide)]
      · obtain ⟨rfl, e1, e2⟩ := hr
        have this := x4 i e1 e2
        skip
        show σ2 130 (136 + i) = σ 92 i
        rw [g3 130 (by decide), this, v 92 (by decide) (by decide)]
      · obtain ⟨rfl, e1, e2⟩ := hr
        have this := x5 i e1 e2
        skip
        show σ2 130 (220 + i) = σ 93 i
        rw [g3 130 (by decide), this, v 93 (by decide) (by decide)]
      · obtain ⟨rfl, e1, e2⟩ := hr
        have this := x6 i e1 e2
        skip
        show σ2 130 (224 + i) = σ 94 i
        rw [g3 130 (by decide), this, v 94 (by decide) (by decide)]
      · obtain ⟨rfl, e1, e2⟩ := hr
        have this := x7 i e1 e2
        skip
        show σ2 130 (236 + i) = σ 95 i
        rw [g3 130 (by decide), this, v 95 (by decide) (by decide)]
      · obtain ⟨rfl, e1, e2⟩ := hr
        have this := x8 i e1 e2
        skip
        show σ2 130 (268 + i) = σ 96 i
        rw [g3 130 (by decide), this, v 96 (by decide) (by decide)]
      · obtain ⟨rfl, e1, e2⟩ := hr
        have this := x9 i e1 e2
        skip
        show σ2 130 (468 + i) = σ 97 i
        rw [g3 130 (by decide), this, v 97 (by decide) (by decide)]
      · obtain ⟨rfl, e1, e2⟩ := hr
        have this := x10 i e1 e2
        skip
        show σ2 130 (500 + i) = σ 98 i
        rw [g3 130 (by decide), this, v 98 (by decide) (by decide)]
    · unfold KS
      rw [z 14 (by decide) (by decide) (by decide), b0 0 (by decide), b0 1 (by decide), z 15 (by decide) (by decide) (by decide), b1 0 (by decide), b1 1 (by decide), z 16 (by decide) (by decide) (by decide), b2 0 (by decide), b2 1 (by decide), z 17 (by decide) (by decide) (by decide), b3 0 (by decide), b3 1 (by decide), z 18 (by decide) (by decide) (by decide), b4 0 (by decide), b4 1 (by decide), z 19 (by decide) (by decide) (by decide), b5 0 (by decide), b5 1 (by decide), z 20 (by decide) (by decide) (by decide), b6 0 (by decide), b6 1 (by decide)]
      exact hk.2.2.2
theorem ag_again : Ag f11_again f12_again [] := fun σ hI => by
  have h := hI.W
  have hk := hI.K
  obtain ⟨k1, k2, k3, ks⟩ := hk
  by_cases q0 : σ 0 2 = 1
  · have k4 : σ 87 61 = 1 := by rw [← k1, q0]
    have hw := k3 q0
    have t0 := h.places
    have u0 := hw.places
    have t1 := h.persons
    have u1 := hw.persons
    have t2 := h.vans
    have u2 := hw.vans
    have t3 := h.delays
    have u3 := hw.delays
    have t4 := h.entries
    have u4 := hw.entries
    have t5 := h.things
    have u5 := hw.things
    have t6 := h.lines
    have u6 := hw.lines
    obtain ⟨ks0, ks1, ks2, ks3, ks4, ks5, ks6, ks7, ks8, ks9, ks10, ks11, ks12, ks13⟩ := ks
    obtain ⟨m, em, w1, w2, a0, a1, a2, a3, a4, a5, a6, b0, b1, b2, b3, b4, b5, b6, c0, c1, c2, c3, c4, c5, c6, d0, d1, d2, d3, fr⟩ := r10_become_1 (σ := σ) (by rw [t0.2.1]; exact Int.le_trans (Int.le_of_eq u0.2.2.1) u0.2.2.2.2.1) (by rw [t1.2.1]; exact Int.le_trans (Int.le_of_eq u1.2.2.1) u1.2.2.2.2.1) (by rw [t2.2.1]; exact Int.le_trans (Int.le_of_eq u2.2.2.1) u2.2.2.2.2.1) (by rw [t3.2.1]; exact Int.le_trans (Int.le_of_eq u3.2.2.1) u3.2.2.2.2.1) (by rw [t4.2.1]; exact Int.le_trans (Int.le_of_eq u4.2.2.1) u4.2.2.2.2.1) (by rw [t5.2.1]; exact Int.le_trans (Int.le_of_eq u5.2.2.1) u5.2.2.2.2.1) (by rw [t6.2.1]; exact Int.le_trans (Int.le_of_eq u6.2.2.1) u6.2.2.2.2.1)
    have fr2 : ∀ k : Int, ¬ (k = 1 ∨ (3 ≤ k ∧ k ≤ 13) ∨ (25 ≤ k ∧ k ≤ 31)) → m k = σ k := fun k hk => fr k (by omega) (by omega) (by omega) (by omega) (by omega) (by omega) (by omega) (by omega) (by omega) (by omega) (by omega) (by omega) (by omega) (by omega) (by omega) (by omega) (by omega) (by omega) (by omega)
    obtain ⟨n, en, x0, x1, x2, x3, x4, x5, x6, x7, x8, x9, x10, y1, y2⟩ := r12_allI (σ := m)
    have y3 : ∀ k : Int, ¬ (87 ≤ k ∧ k ≤ 98) → n k = m k := fun k hk => y2 k (by omega) (by omega) (by omega) (by omega) (by omega) (by omega) (by omega) (by omega) (by omega) (by omega) (by omega) (by omega)
    refine ⟨1, m, n, ?_, ?_, ?_⟩
    · simp only [u11_again, b11_again, ev_op, ev_op2, ev_op1, ev_dv, ev_dv2, ev_dv1, ev_un, ev_un1, ev_lit, ev_l0, ev_l1, ev_l2, ev_l3, ev_l4, ev_l5, ev_l6, ev_l7, ev_l8, ev_l9, ev_l10, ev_l11, ev_rf, ev_gi, ev_gi1, ev_gi2, ev_gr, ev_gr1, ev_at0, ev_at, ev_al, ev_al2, ev_al1, ev_an, ev_an1, ev_vs0, ev_vs, ev_vs2, ev_vs1, ev_ca, ev_ca1, ev_cv, ev_cv1, ev_cv2, ev_if, ev_if1, ev_cmp, ev_cmp2, ev_cmp1, ev_not, ev_not1, ev_and, ev_and1, ev_or, ev_or1, ev_e, ev_e1, ev_cif, ev_cif1, ev_qlt, ev_qle, ev_qgt, ev_qge, ev_qeq, ev_qne, ev_skip, ev_brk, ev_cnt, ev_retv, ev_seq, ev_seq0, ev_seq1, ev_seq2, ev_seq3, ev_seqi, ev_sif, ev_sif1, ev_ret, ev_ret1, ev_retz, ev_retzb, ev_retzc, ev_retz1, ev_retc, ev_asg, ev_s0, ev_s1, ev_s2, ev_s3, ev_s4, ev_s5, ev_s6, ev_s7, ev_s8, ev_s9, ev_s10, ev_s11, ev_exp, ev_exp1, ev_pf, ev_pf2, ev_pf1, ev_pz, ev_pz2, ev_pz1, ev_of, ev_of2, ev_of1, ev_st, ev_as, ev_as3, ev_as2, ev_as1, ev_oa, ev_oa3, ev_oa2, ev_oa1, ev_oa0, ev_cp, ev_cp3, ev_cp2, ev_cp1, ev_sw, ev_sw1, ev_swb0, ev_swb1, ev_swb3, ev_swbi, ev_fin3, ev_fin0, ev_fini, ev_iv, ev_ic, ev_b1, ev_b2, ev_b3, ev_b4, ev_b5, ev_b6, ev_or12, ev_lp, ev_lc, ev_lb0, ev_lb1, ev_lb2, ev_lb3, ev_lbi, ev_lu, ev_ass, Int.reduceAdd, Int.reduceSub, Int.reduceMul, Int.reduceNeg, Int.reduceLT, Int.reduceLE, Int.reduceGT, Int.reduceGE, Int.reduceEq, Int.reduceNe, Int.reduceDiv, Int.reduceMod, Int.reduceToNat, Nat.reduceAdd, Nat.reduceMul, Nat.reduceSub, Nat.reduceLT, Nat.reduceEqDiff, Int.reduceNatCast', reduceIte, ite_true, ite_false, if_true, if_false, decide_eq_true_eq, decide_true, decide_false, decide_not, Bool.not_eq_true', decide_eq_false_iff_not, Bool.not_not, Bool.and_eq_true, Bool.or_eq_true, Bool.not_true, Bool.not_false, not_true_eq_false, not_false_eq_true, true_and, and_true, false_and, and_false, true_or, or_true, false_or, or_false, Bool.true_and, Bool.and_true, Bool.false_and, Bool.and_false, Bool.true_or, Bool.or_true, Bool.or_false, Bool.false_or, Bool.not_eq_false', Bool.true_eq_false, Bool.false_eq_true, eq_self, Classical.not_not, ite_not, ne_eq, Option.some.injEq, Prod.mk.injEq, L_0, L_1, L_2, em, q0]
    · have k5 : m 87 61 = 1 := by rw [fr2 87 (by decide), k4]
      simp only [u12_again, b12_again, ev_op, ev_op2, ev_op1, ev_dv, ev_dv2, ev_dv1, ev_un, ev_un1, ev_lit, ev_l0, ev_l1, ev_l2, ev_l3, ev_l4, ev_l5, ev_l6, ev_l7, ev_l8, ev_l9, ev_l10, ev_l11, ev_rf, ev_gi, ev_gi1, ev_gi2, ev_gr, ev_gr1, ev_at0, ev_at, ev_al, ev_al2, ev_al1, ev_an, ev_an1, ev_vs0, ev_vs, ev_vs2, ev_vs1, ev_ca, ev_ca1, ev_cv, ev_cv1, ev_cv2, ev_if, ev_if1, ev_cmp, ev_cmp2, ev_cmp1, ev_not, ev_not1, ev_and, ev_and1, ev_or, ev_or1, ev_e, ev_e1, ev_cif, ev_cif1, ev_qlt, ev_qle, ev_qgt, ev_qge, ev_qeq, ev_qne, ev_skip, ev_brk, ev_cnt, ev_retv, ev_seq, ev_seq0, ev_seq1, ev_seq2, ev_seq3, ev_seqi, ev_sif, ev_sif1, ev_ret, ev_ret1, ev_retz, ev_retzb, ev_retzc, ev_retz1, ev_retc, ev_asg, ev_s0, ev_s1, ev_s2, ev_s3, ev_s4, ev_s5, ev_s6, ev_s7, ev_s8, ev_s9, ev_s10, ev_s11, ev_exp, ev_exp1, ev_pf, ev_pf2, ev_pf1, ev_pz, ev_pz2, ev_pz1, ev_of, ev_of2, ev_of1, ev_st, ev_as, ev_as3, ev_as2, ev_as1, ev_oa, ev_oa3, ev_oa2, ev_oa1, ev_oa0, ev_cp, ev_cp3, ev_cp2, ev_cp1, ev_sw, ev_sw1, ev_swb0, ev_swb1, ev_swb3, ev_swbi, ev_fin3, ev_fin0, ev_fini, ev_iv, ev_ic, ev_b1, ev_b2, ev_b3, ev_b4, ev_b5, ev_b6, ev_or12, ev_lp, ev_lc, ev_lb0, ev_lb1, ev_lb2, ev_lb3, ev_lbi, ev_lu, ev_ass, Int.reduceAdd, Int.reduceSub, Int.reduceMul, Int.reduceNeg, Int.reduceLT, Int.reduceLE, Int.reduceGT, Int.reduceGE, Int.reduceEq, Int.reduceNe, Int.reduceDiv, Int.reduceMod, Int.reduceToNat, Nat.reduceAdd, Nat.reduceMul, Nat.reduceSub, Nat.reduceLT, Nat.reduceEqDiff, Int.reduceNatCast', reduceIte, ite_true, ite_false, if_true, if_false, decide_eq_true_eq, decide_true, decide_false, decide_not, Bool.not_eq_true', decide_eq_false_iff_not, Bool.not_not, Bool.and_eq_true, Bool.or_eq_true, Bool.not_true, Bool.not_false, not_true_eq_false, not_false_eq_true, true_and, and_true, false_and, and_false, true_or, or_true, false_or, or_false, Bool.true_and, Bool.and_true, Bool.false_and, Bool.and_false, Bool.true_or, Bool.or_true, Bool.or_false, Bool.false_or, Bool.not_eq_false', Bool.true_eq_false, Bool.false_eq_true, eq_self, Classical.not_not, ite_not, ne_eq, Option.some.injEq, Prod.mk.injEq, L_87, en, k5]
    · have p : ∀ k : Int, ¬ (k = 1 ∨ (3 ≤ k ∧ k ≤ 13) ∨ (25 ≤ k ∧ k ≤ 31) ∨ (87 ≤ k ∧ k ≤ 98)) → n k = σ k := fun k hk => by rw [y3 k (by omega), fr2 k (by omega)]
      have q : ∀ i : Int, i ≠ 63 → n 87 i = σ 87 i := fun i i2 => by rw [y1 i i2, fr2 87 (by decide)]
      have v : m 130 = σ 130 := fr2 130 (by decide)
      have hKS : KS n := by
        unfold KS
        rw [p 14 (by decide), p 15 (by decide), p 16 (by decide), p 17 (by decide), p 18 (by decide), p 19 (by decide), p 20 (by decide)]
        exact ⟨ks0, ks1, ks2, ks3, ks4, ks5, ks6, ks7, ks8, ks9, ks10, ks11, ks12, ks13⟩
      refine ⟨?_, hI.R.congr (p 55 (by decide)) (p 56 (by decide)) (q 23 (by decide)) (p 107 (by decide)), hI.T.congr (by rw [p 64 (by decide)]) (p 65 (by decide)) (q 29 (by decide)) (p 111 (by decide)) (p 68 (by decide)), hI.S.congr (p 80 (by decide)) (p 123 (by decide)) (p 81 (by decide)) (p 124 (by decide)) (p 82 (by decide)) (p 125 (by decide)), hI.F.congr (p 126 (by decide)) (p 83 (by decide)) (p 84 (by decide)) (p 127 (by decide)) (p 85 (by decide)) (p 128 (by decide)), hI.X.congr (by rw [p 79 (by decide)]) (q 59 (by decide)) (p 86 (by decide)) (p 129 (by decide)), hI.K.congr (by rw [p 0 (by decide)]) (q 61 (by decide)) fun k hk => p k (by omega)⟩
      refine hw.congr fun k i hr => ?_
      clear p q hI fr fr2 em en
      unfold rel at hr
      rcases hr with hr | hr | hr | hr | hr | hr | hr | hr | hr | hr | hr | hr | hr | hr | hr | hr | hr | hr | hr | hr | hr | hr | hr | hr
      · obtain ⟨rfl, e⟩ := hr
        show n 1 i = σ 2 i
        rw [y3 1 (by decide)]
        rcases e with rfl | rfl
        · exact w1
        · exact w2
      · obtain ⟨l1, l2, e⟩ := hr
        have kc : k = 3 ∨ k = 4 ∨ k = 5 ∨ k = 6 ∨ k = 7 ∨ k = 8 ∨ k = 9 := by omega
        rcases kc with rfl | rfl | rfl | rfl | rfl | rfl | rfl
        · show n 3 i = σ 14 i
          rw [y3 3 (by decide)]
          rcases e with rfl | rfl | rfl
          · rw [b0 0 (by decide), ks0, t0.1]
          · rw [b0 1 (by decide), ks1, t0.2.1]
          · exact a0
        · show n 4 i = σ 15 i
          rw [y3 4 (by decide)]
          rcases e with rfl | rfl | rfl
          · rw [b1 0 (by decide), ks2, t1.1]
          · rw [b1 1 (by decide), ks3, t1.2.1]
          · exact a1
        · show n 5 i = σ 16 i
          rw [y3 5 (by decide)]
          rcases e with rfl | rfl | rfl
          · rw [b2 0 (by decide), ks4, t2.1]
          · rw [b2 1 (by decide), ks5, t2.2.1]
          · exact a2
        · show n 6 i = σ 17 i
          rw [y3 6 (by decide)]
          rcases e with rfl | rfl | rfl
          · rw [b3 0 (by decide), ks6, t3.1]
          · rw [b3 1 (by decide), ks7, t3.2.1]
          · exact a3
        · show n 7 i = σ 18 i
          rw [y3 7 (by decide)]
          rcases e with rfl | rfl | rfl
          · rw [b4 0 (by decide), ks8, t4.1]
          · rw [b4 1 (by decide), ks9, t4.2.1]
          · exact a4
        · show n 8 i = σ 19 i
          rw [y3 8 (by decide)]
          rcases e with rfl | rfl | rfl
          · rw [b5 0 (by decide), ks10, t5.1]
          · rw [b5 1 (by decide), ks11, t5.2.1]
          · exact a5
        · show n 9 i = σ 20 i
          rw [y3 9 (by decide)]
          rcases e with rfl | rfl | rfl
          · rw [b6 0 (by decide), ks12, t6.1]
          · rw [b6 1 (by decide), ks13, t6.2.1]
          · exact a6
      · obtain ⟨rfl, e1, e2⟩ := hr
        show n 10 i = σ 21 i
        rw [y3 10 (by decide)]
        exact d0 i e1 e2
      · obtain ⟨rfl, e1, e2⟩ := hr
        show n 11 i = σ 22 i
        rw [y3 11 (by decide)]
        exact d1 i e1 e2
      · obtain ⟨rfl, e1, e2⟩ := hr
        show n 12 i = σ 23 i
        rw [y3 12 (by decide)]
        exact d2 i e1 e2
      · obtain ⟨rfl, e1, e2⟩ := hr
        show n 13 i = σ 24 i
        rw [y3 13 (by decide)]
        exact d3 i e1 e2
      · obtain ⟨rfl, e1, e2⟩ := hr
        show n 25 i = σ 32 i
        rw [y3 25 (by decide)]
        exact c0 i e1 e2
      · obtain ⟨rfl, e1, e2⟩ := hr
        show n 26 i = σ 33 i
        rw [y3 26 (by decide)]
        exact c1 i e1 e2
      · obtain ⟨rfl, e1, e2⟩ := hr
        show n 27 i = σ 34 i
        rw [y3 27 (by decide)]
        exact c2 i e1 e2
      · obtain ⟨rfl, e1, e2⟩ := hr
        show n 28 i = σ 35 i
        rw [y3 28 (by decide)]
        exact c3 i e1 e2
      · obtain ⟨rfl, e1, e2⟩ := hr
        show n 29 i = σ 36 i
        rw [y3 29 (by decide)]
        exact c4 i e1 e2
      · obtain ⟨rfl, e1, e2⟩ := hr
        show n 30 i = σ 37 i
        rw [y3 30 (by decide)]
        exact c5 i e1 e2
      · obtain ⟨rfl, e1, e2⟩ := hr
        show n 31 i = σ 38 i
        rw [y3 31 (by decide)]
        exact c6 i e1 e2
      · obtain ⟨rfl, e1, e2⟩ := hr
        have this := x0 i e1 e2
        rw [Int.zero_add] at this
        show n 88 i = σ 130 i
        rw [this, v]
      · obtain ⟨rfl, e1, e2⟩ := hr
        have this := x1 i e1 e2
        skip
        show n 89 i = σ 130 (8 + i)
        rw [this, v]
      · obtain ⟨rfl, e1, e2⟩ := hr
        have this := x2 i e1 e2
        skip
        show n 90 i = σ 130 (48 + i)
        rw [this, v]
      · obtain ⟨rfl, e1, e2⟩ := hr
        have this := x3 i e1 e2
        skip
        show n 91 i = σ 130 (112 + i)
        rw [this, v]
      · obtain ⟨rfl, e1, e2⟩ := hr
        have this := x4 i e1 e2
        skip
        show n 92 i = σ 130 (136 + i)
        rw [this, v]
      · obtain ⟨rfl, e1, e2⟩ := hr
        have this := x5 i e1 e2
        skip
        show n 93 i = σ 130 (220 + i)
        rw [this, v]
      · obtain ⟨rfl, e1, e2⟩ := hr
        have this := x6 i e1 e2
        skip
        show n 94 i = σ 130 (224 + i)
        rw [this, v]
      · obtain ⟨rfl, e1, e2⟩ := hr
        have this := x7 i e1 e2
        skip
        show n 95 i = σ 130 (236 + i)
        rw [this, v]
      · obtain ⟨rfl, e1, e2⟩ := hr
        have this := x8 i e1 e2
        skip
        show n 96 i = σ 130 (268 + i)
        rw [this, v]
      · obtain ⟨rfl, e1, e2⟩ := hr
        have this := x9 i e1 e2
        skip
        show n 97 i = σ 130 (468 + i)
        rw [this, v]
      · obtain ⟨rfl, e1, e2⟩ := hr
        have this := x10 i e1 e2
        skip
        show n 98 i = σ 130 (500 + i)
        rw [this, v]
  · have q1 : σ 0 2 = 0 := by omega
    have q2 : σ 87 61 = 0 := by rw [← k1, q1]
    refine ⟨-3, σ, σ, ?_, ?_, hI⟩
    · simp only [u11_again, b11_again, ev_op, ev_op2, ev_op1, ev_dv, ev_dv2, ev_dv1, ev_un, ev_un1, ev_lit, ev_l0, ev_l1, ev_l2, ev_l3, ev_l4, ev_l5, ev_l6, ev_l7, ev_l8, ev_l9, ev_l10, ev_l11, ev_rf, ev_gi, ev_gi1, ev_gi2, ev_gr, ev_gr1, ev_at0, ev_at, ev_al, ev_al2, ev_al1, ev_an, ev_an1, ev_vs0, ev_vs, ev_vs2, ev_vs1, ev_ca, ev_ca1, ev_cv, ev_cv1, ev_cv2, ev_if, ev_if1, ev_cmp, ev_cmp2, ev_cmp1, ev_not, ev_not1, ev_and, ev_and1, ev_or, ev_or1, ev_e, ev_e1, ev_cif, ev_cif1, ev_qlt, ev_qle, ev_qgt, ev_qge, ev_qeq, ev_qne, ev_skip, ev_brk, ev_cnt, ev_retv, ev_seq, ev_seq0, ev_seq1, ev_seq2, ev_seq3, ev_seqi, ev_sif, ev_sif1, ev_ret, ev_ret1, ev_retz, ev_retzb, ev_retzc, ev_retz1, ev_retc, ev_asg, ev_s0, ev_s1, ev_s2, ev_s3, ev_s4, ev_s5, ev_s6, ev_s7, ev_s8, ev_s9, ev_s10, ev_s11, ev_exp, ev_exp1, ev_pf, ev_pf2, ev_pf1, ev_pz, ev_pz2, ev_pz1, ev_of, ev_of2, ev_of1, ev_st, ev_as, ev_as3, ev_as2, ev_as1, ev_oa, ev_oa3, ev_oa2, ev_oa1, ev_oa0, ev_cp, ev_cp3, ev_cp2, ev_cp1, ev_sw, ev_sw1, ev_swb0, ev_swb1, ev_swb3, ev_swbi, ev_fin3, ev_fin0, ev_fini, ev_iv, ev_ic, ev_b1, ev_b2, ev_b3, ev_b4, ev_b5, ev_b6, ev_or12, ev_lp, ev_lc, ev_lb0, ev_lb1, ev_lb2, ev_lb3, ev_lbi, ev_lu, ev_ass, Int.reduceAdd, Int.reduceSub, Int.reduceMul, Int.reduceNeg, Int.reduceLT, Int.reduceLE, Int.reduceGT, Int.reduceGE, Int.reduceEq, Int.reduceNe, Int.reduceDiv, Int.reduceMod, Int.reduceToNat, Nat.reduceAdd, Nat.reduceMul, Nat.reduceSub, Nat.reduceLT, Nat.reduceEqDiff, Int.reduceNatCast', reduceIte, ite_true, ite_false, if_true, if_false, decide_eq_true_eq, decide_true, decide_false, decide_not, Bool.not_eq_true', decide_eq_false_iff_not, Bool.not_not, Bool.and_eq_true, Bool.or_eq_true, Bool.not_true, Bool.not_false, not_true_eq_false, not_false_eq_true, true_and, and_true, false_and, and_false, true_or, or_true, false_or, or_false, Bool.true_and, Bool.and_true, Bool.false_and, Bool.and_false, Bool.true_or, Bool.or_true, Bool.or_false, Bool.false_or, Bool.not_eq_false', Bool.true_eq_false, Bool.false_eq_true, eq_self, Classical.not_not, ite_not, ne_eq, Option.some.injEq, Prod.mk.injEq, L_0, q1]
    · simp only [u12_again, b12_again, ev_op, ev_op2, ev_op1, ev_dv, ev_dv2, ev_dv1, ev_un, ev_un1, ev_lit, ev_l0, ev_l1, ev_l2, ev_l3, ev_l4, ev_l5, ev_l6, ev_l7, ev_l8, ev_l9, ev_l10, ev_l11, ev_rf, ev_gi, ev_gi1, ev_gi2, ev_gr, ev_gr1, ev_at0, ev_at, ev_al, ev_al2, ev_al1, ev_an, ev_an1, ev_vs0, ev_vs, ev_vs2, ev_vs1, ev_ca, ev_ca1, ev_cv, ev_cv1, ev_cv2, ev_if, ev_if1, ev_cmp, ev_cmp2, ev_cmp1, ev_not, ev_not1, ev_and, ev_and1, ev_or, ev_or1, ev_e, ev_e1, ev_cif, ev_cif1, ev_qlt, ev_qle, ev_qgt, ev_qge, ev_qeq, ev_qne, ev_skip, ev_brk, ev_cnt, ev_retv, ev_seq, ev_seq0, ev_seq1, ev_seq2, ev_seq3, ev_seqi, ev_sif, ev_sif1, ev_ret, ev_ret1, ev_retz, ev_retzb, ev_retzc, ev_retz1, ev_retc, ev_asg, ev_s0, ev_s1, ev_s2, ev_s3, ev_s4, ev_s5, ev_s6, ev_s7, ev_s8, ev_s9, ev_s10, ev_s11, ev_exp, ev_exp1, ev_pf, ev_pf2, ev_pf1, ev_pz, ev_pz2, ev_pz1, ev_of, ev_of2, ev_of1, ev_st, ev_as, ev_as3, ev_as2, ev_as1, ev_oa, ev_oa3, ev_oa2, ev_oa1, ev_oa0, ev_cp, ev_cp3, ev_cp2, ev_cp1, ev_sw, ev_sw1, ev_swb0, ev_swb1, ev_swb3, ev_swbi, ev_fin3, ev_fin0, ev_fini, ev_iv, ev_ic, ev_b1, ev_b2, ev_b3, ev_b4, ev_b5, ev_b6, ev_or12, ev_lp, ev_lc, ev_lb0, ev_lb1, ev_lb2, ev_lb3, ev_lbi, ev_lu, ev_ass, Int.reduceAdd, Int.reduceSub, Int.reduceMul, Int.reduceNeg, Int.reduceLT, Int.reduceLE, Int.reduceGT, Int.reduceGE, Int.reduceEq, Int.reduceNe, Int.reduceDiv, Int.reduceMod, Int.reduceToNat, Nat.reduceAdd, Nat.reduceMul, Nat.reduceSub, Nat.reduceLT, Nat.reduceEqDiff, Int.reduceNatCast', reduceIte, ite_true, ite_false, if_true, if_false, decide_eq_true_eq, decide_true, decide_false, decide_not, Bool.not_eq_true', decide_eq_false_iff_not, Bool.not_not, Bool.and_eq_true, Bool.or_eq_true, Bool.not_true, Bool.not_false, not_true_eq_false, not_false_eq_true, true_and, and_true, false_and, and_false, true_or, or_true, false_or, or_false, Bool.true_and, Bool.and_true, Bool.false_and, Bool.and_false, Bool.true_or, Bool.or_true, Bool.or_false, Bool.false_or, Bool.not_eq_false', Bool.true_eq_false, Bool.false_eq_true, eq_self, Classical.not_not, ite_not, ne_eq, Option.some.injEq, Prod.mk.injEq, L_87, q2]
