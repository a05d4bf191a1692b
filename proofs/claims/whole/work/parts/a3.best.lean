/-! ===== the trip: what is kept ===== -/
def bestR (n : Nat) (b : Option Cd) (τ : cvM) : Prop := match b with
  | none => τ 39 11 = -3
  | some d => 0 ≤ d.2 ∧ τ 39 11 = d.2 ∧ d.1.length = n ∧ ∀ (j : Nat) (hj : j < d.1.length), τ 44 (j : Int) = d.1[j].1 ∧ τ 45 (j : Int) = d.1[j].2
def preR (l : List (Int × Int)) (τ : cvM) : Prop := ∀ (j : Nat) (hj : j < l.length), τ 42 (j : Int) = l[j].1 ∧ τ 43 (j : Int) = l[j].2
theorem lastT_at {l : List (Int × Int)} {n : Nat} (h : l.length = n + 1) : lastT l = (l[n]'(by omega)).2 := by
  unfold lastT
  rw [List.getLastD_eq_getLast?, List.getLast?_eq_getElem?, show l.length - 1 = n by omega, List.getElem?_eq_getElem (by omega)]
  rfl
/-- what the search may change -/
def frT (σ τ : cvM) : Prop := ∀ k i : Int, ¬ ((k = 39 ∧ i = 11) ∨ k = 42 ∨ k = 43 ∨ k = 44 ∨ k = 45) → τ k i = σ k i
theorem frT.rf (σ : cvM) : frT σ σ := fun _ _ _ => rfl
theorem frT.tr {σ τ υ : cvM} (h : frT σ τ) (g : frT τ υ) : frT σ υ := fun k i p => (g k i p).trans (h k i p)
theorem frT.k {σ τ : cvM} (h : frT σ τ) (k : Int) (hk : ¬ (39 ≤ k ∧ k ≤ 45)) : τ k = σ k := funext fun i => h k i (by omega)
theorem frT.WR {σ τ : cvM} (h : frT σ τ) (g : WR σ) : WR τ := g.congr2 fun k i hr => h k i (by omega)
def cpB (τ : cvM) (L i : Int) : cvM := rwM (rwM (updM τ 39 11 L) 44 0 i (τ 42)) 45 0 i (τ 43)
theorem cpB_s (τ : cvM) (L : Int) {i : Int} (h : 0 ≤ i) : updM (updM (cpB τ L i) 44 i (τ 42 i)) 45 i (τ 43 i) = cpB τ L (i + 1) := by
  unfold cpB
  have e1 := rw_s (rwM (updM τ 39 11 L) 44 0 i (τ 42)) 45 0 (τ 43) (τ 43 i) h
  have e2 := rw_s (updM τ 39 11 L) 44 0 (τ 42) (τ 42 i) h
  rw [Int.zero_add] at e1 e2
  have f1 : (fun j => if j = i then τ 43 i else τ 43 j) = τ 43 := funext fun j => by
    by_cases z : j = i
    · rw [if_pos z, z]
    · rw [if_neg z]
  have f2 : (fun j => if j = i then τ 42 i else τ 42 j) = τ 42 := funext fun j => by
    by_cases z : j = i
    · rw [if_pos z, z]
    · rw [if_neg z]
  rw [f1] at e1
  rw [f2] at e2
  funext x y
  by_cases z : x = 44
  · subst z
    rw [upd_ne _ (by decide), rwM_ne _ (by decide), ← e2]
    by_cases z2 : y = i
    · rw [z2, upd_at, upd_at]
    · rw [upd_ni z2, upd_ni z2, rwM_ne _ (by decide)]
  · by_cases z1 : x = 45
    · subst z1
      have e3 := rw_s (rwM (updM τ 39 11 L) 44 0 (i + 1) (τ 42)) 45 0 (τ 43) (τ 43 i) h
      rw [Int.zero_add, f1] at e3
      rw [← e3]
      by_cases z2 : y = i
      · rw [z2, upd_at, upd_at]
      · rw [upd_ni z2, upd_ni z2, upd_ni z2]
        rw [r_M, r_M, r_M, r_M, if_neg (show ¬ ((45 : Int) = 44 ∧ 0 ≤ y ∧ y < 0 + i) by omega), if_neg (show ¬ ((45 : Int) = 44 ∧ 0 ≤ y ∧ y < 0 + (i + 1)) by omega)]
    · rw [upd_ne _ z1, upd_ne _ z, rwM_ne _ z1, rwM_ne _ z, rwM_ne _ z1, rwM_ne _ z]
theorem cpB_o (τ : cvM) (L : Int) {k i : Int} (h : ¬ ((k = 39 ∧ i = 11) ∨ k = 44 ∨ k = 45)) : cpB τ L 4 k i = τ k i := by
  unfold cpB
  rw [rwM_ne _ (by omega), rwM_ne _ (by omega)]
  unfold updM
  rw [if_neg (by omega)]
theorem s9_keep {τ : cvM} {n : Nat} (hn : 1 ≤ n ∧ n ≤ 4) (hn10 : τ 39 10 = (n : Int)) {b : Option Cd} (hb : bestR n b τ) {pre : List (Int × Int)} (hl : pre.length = n) (hp : preR pre τ) {L : Int} (hL : 0 ≤ L) : ∃ υ, f9_keepIfBetter [39, L] τ = some (0, υ) ∧ frT τ υ ∧ preR pre υ ∧ bestR n (better b (pre, L)) υ := by
  have e1 : osub (n : Int) 1 = (n : Int) - 1 := n_sub (by omega)
  have q1 : ¬ (n : Int) - 1 < 0 := by omega
  have q2 : ¬ 4 ≤ (n : Int) - 1 := by omega
  have r : 0 ≤ (n : Int) - 1 ∧ (n : Int) - 1 < 4 := by omega
  have lp : ∀ E, xs_lp ((xc_cmp qlt (xe_loc 4) (xe_lit 4))) ((xs_seq (xs_as (xe_gr 9 8 (xe_loc 0)) (xe_loc 4) (xe_al (xe_gr 9 6 (xe_loc 0)) (xe_loc 4))) (xs_as (xe_gr 9 9 (xe_loc 0)) (xe_loc 4) (xe_al (xe_gr 9 7 (xe_loc 0)) (xe_loc 4))))) ((xs_asg 4 (xe_op oadd (xe_loc 4) (xe_lit 1)))) [some 39, some L, some ((n : Int) - 1), some E, some 0] (updM τ 39 11 L) = some (0, 0, [some 39, some L, some ((n : Int) - 1), some E, some 4], cpB τ L 4) := fun E => by
    rw [lp_I (fun i => ([some 39, some L, some ((n : Int) - 1), some E, some i], cpB τ L i)) 0 4 (0, 0, [some 39, some L, some ((n : Int) - 1), some E, some 4], cpB τ L 4) (by decide) ?_ ?_ ?_]
    · show (_, cpB τ L 0) = _
      congr 1
      unfold cpB
      funext x y
      rw [r_M, r_M, if_neg (by omega), if_neg (by omega)]
    · intro i h0 h1
      have s := cpB_s τ L h0
      have r4 : 0 ≤ i ∧ i < 4 := ⟨h0, h1⟩
      have g1 : cpB τ L i 42 i = τ 42 i := by unfold cpB; rw [rwM_ne _ (by decide), rwM_ne _ (by decide), upd_ne _ (by decide)]
      have g2 : ∀ v, (updM (cpB τ L i) 44 i v) 43 i = τ 43 i := fun v => by unfold cpB; rw [upd_ne _ (by decide), rwM_ne _ (by decide), rwM_ne _ (by decide), upd_ne _ (by decide)]
      simp only [ev_op, ev_op2, ev_op1, ev_dv, ev_dv2, ev_dv1, ev_un, ev_un1, ev_lit, ev_l0, ev_l1, ev_l2, ev_l3, ev_l4, ev_l5, ev_l6, ev_l7, ev_l8, ev_l9, ev_l10, ev_l11, ev_rf, ev_gi, ev_gi1, ev_gi2, ev_gr, ev_gr1, ev_at0, ev_at, ev_al, ev_al2, ev_al1, ev_an, ev_an1, ev_vs0, ev_vs, ev_vs2, ev_vs1, ev_ca, ev_ca1, ev_cv, ev_cv1, ev_cv2, ev_if, ev_if1, ev_cmp, ev_cmp2, ev_cmp1, ev_not, ev_not1, ev_and, ev_and1, ev_or, ev_or1, ev_e, ev_e1, ev_cif, ev_cif1, ev_qlt, ev_qle, ev_qgt, ev_qge, ev_qeq, ev_qne, ev_skip, ev_brk, ev_cnt, ev_retv, ev_seq, ev_seq0, ev_seq1, ev_seq2, ev_seq3, ev_seqi, ev_sif, ev_sif1, ev_ret, ev_ret1, ev_retz, ev_retzb, ev_retzc, ev_retz1, ev_retc, ev_asg, ev_s0, ev_s1, ev_s2, ev_s3, ev_s4, ev_s5, ev_s6, ev_s7, ev_s8, ev_s9, ev_s10, ev_s11, ev_exp, ev_exp1, ev_pf, ev_pf2, ev_pf1, ev_pz, ev_pz2, ev_pz1, ev_of, ev_of2, ev_of1, ev_st, ev_as, ev_as3, ev_as2, ev_as1, ev_oa, ev_oa3, ev_oa2, ev_oa1, ev_oa0, ev_cp, ev_cp3, ev_cp2, ev_cp1, ev_sw, ev_sw1, ev_swb0, ev_swb1, ev_swb3, ev_swbi, ev_fin3, ev_fin0, ev_fini, ev_iv, ev_ic, ev_b1, ev_b2, ev_b3, ev_b4, ev_b5, ev_b6, ev_or12, ev_lp, ev_lc, ev_lb0, ev_lb1, ev_lb2, ev_lb3, ev_lbi, ev_lu, ev_ass, Int.reduceAdd, Int.reduceSub, Int.reduceMul, Int.reduceNeg, Int.reduceLT, Int.reduceLE, Int.reduceGT, Int.reduceGE, Int.reduceEq, Int.reduceNe, Int.reduceDiv, Int.reduceMod, Int.reduceToNat, Nat.reduceAdd, Nat.reduceMul, Nat.reduceSub, Nat.reduceLT, Nat.reduceEqDiff, Int.reduceNatCast', reduceIte, ite_true, ite_false, if_true, if_false, decide_eq_true_eq, decide_true, decide_false, decide_not, Bool.not_eq_true', decide_eq_false_iff_not, Bool.not_not, Bool.and_eq_true, Bool.or_eq_true, Bool.not_true, Bool.not_false, not_true_eq_false, not_false_eq_true, true_and, and_true, false_and, and_false, true_or, or_true, false_or, or_false, Bool.true_and, Bool.and_true, Bool.false_and, Bool.and_false, Bool.true_or, Bool.or_true, Bool.or_false, Bool.false_or, Bool.not_eq_false', Bool.true_eq_false, Bool.false_eq_true, eq_self, Classical.not_not, ite_not, ne_eq, Option.some.injEq, Prod.mk.injEq, L_39, L_42, L_43, L_44, L_45, h1, r4, g1, g2, s, n_add (show -2147483648 ≤ i + 1 ∧ i + 1 < 2147483648 by omega)]
    · simp only [ev_op, ev_op2, ev_op1, ev_dv, ev_dv2, ev_dv1, ev_un, ev_un1, ev_lit, ev_l0, ev_l1, ev_l2, ev_l3, ev_l4, ev_l5, ev_l6, ev_l7, ev_l8, ev_l9, ev_l10, ev_l11, ev_rf, ev_gi, ev_gi1, ev_gi2, ev_gr, ev_gr1, ev_at0, ev_at, ev_al, ev_al2, ev_al1, ev_an, ev_an1, ev_vs0, ev_vs, ev_vs2, ev_vs1, ev_ca, ev_ca1, ev_cv, ev_cv1, ev_cv2, ev_if, ev_if1, ev_cmp, ev_cmp2, ev_cmp1, ev_not, ev_not1, ev_and, ev_and1, ev_or, ev_or1, ev_e, ev_e1, ev_cif, ev_cif1, ev_qlt, ev_qle, ev_qgt, ev_qge, ev_qeq, ev_qne, ev_skip, ev_brk, ev_cnt, ev_retv, ev_seq, ev_seq0, ev_seq1, ev_seq2, ev_seq3, ev_seqi, ev_sif, ev_sif1, ev_ret, ev_ret1, ev_retz, ev_retzb, ev_retzc, ev_retz1, ev_retc, ev_asg, ev_s0, ev_s1, ev_s2, ev_s3, ev_s4, ev_s5, ev_s6, ev_s7, ev_s8, ev_s9, ev_s10, ev_s11, ev_exp, ev_exp1, ev_pf, ev_pf2, ev_pf1, ev_pz, ev_pz2, ev_pz1, ev_of, ev_of2, ev_of1, ev_st, ev_as, ev_as3, ev_as2, ev_as1, ev_oa, ev_oa3, ev_oa2, ev_oa1, ev_oa0, ev_cp, ev_cp3, ev_cp2, ev_cp1, ev_sw, ev_sw1, ev_swb0, ev_swb1, ev_swb3, ev_swbi, ev_fin3, ev_fin0, ev_fini, ev_iv, ev_ic, ev_b1, ev_b2, ev_b3, ev_b4, ev_b5, ev_b6, ev_or12, ev_lp, ev_lc, ev_lb0, ev_lb1, ev_lb2, ev_lb3, ev_lbi, ev_lu, ev_ass, Int.reduceAdd, Int.reduceSub, Int.reduceMul, Int.reduceNeg, Int.reduceLT, Int.reduceLE, Int.reduceGT, Int.reduceGE, Int.reduceEq, Int.reduceNe, Int.reduceDiv, Int.reduceMod, Int.reduceToNat, Nat.reduceAdd, Nat.reduceMul, Nat.reduceSub, Nat.reduceLT, Nat.reduceEqDiff, Int.reduceNatCast', reduceIte, ite_true, ite_false, if_true, if_false, decide_eq_true_eq, decide_true, decide_false, decide_not, Bool.not_eq_true', decide_eq_false_iff_not, Bool.not_not, Bool.and_eq_true, Bool.or_eq_true, Bool.not_true, Bool.not_false, not_true_eq_false, not_false_eq_true, true_and, and_true, false_and, and_false, true_or, or_true, false_or, or_false, Bool.true_and, Bool.and_true, Bool.false_and, Bool.and_false, Bool.true_or, Bool.or_true, Bool.or_false, Bool.false_or, Bool.not_eq_false', Bool.true_eq_false, Bool.false_eq_true, eq_self, Classical.not_not, ite_not, ne_eq, Option.some.injEq, Prod.mk.injEq]
  have yes : ∃ υ, cpB τ L 4 = υ ∧ frT τ υ ∧ preR pre υ ∧ bestR n (some (pre, L)) υ := by
    refine ⟨_, rfl, fun k i hk => cpB_o τ L (by omega), fun j hj => ?_, hL, ?_, hl, fun j hj => ?_⟩
    · rw [cpB_o τ L (by omega), cpB_o τ L (by omega)]
      exact hp j hj
    · unfold cpB
      rw [rwM_ne _ (by decide), rwM_ne _ (by decide), upd_at]
    · have hj2 : j < pre.length := hj
      have g := hp j hj
      unfold cpB
      refine ⟨?_, ?_⟩
      · rw [rwM_ne _ (by decide), r_M, if_pos ⟨rfl, by omega, by omega⟩, Int.sub_zero]
        exact g.1
      · rw [r_M, if_pos ⟨rfl, by omega, by omega⟩, Int.sub_zero]
        exact g.2
  obtain ⟨υ, y1, y2, y3, y4⟩ := yes
  rw [y1] at lp
  cases b with
  | none =>
    have hb : τ 39 11 = -3 := hb
    have q3 : τ 39 11 < 0 := by omega
    refine ⟨υ, ?_, y2, y3, y4⟩
    simp only [u9_keepIfBetter, b9_keepIfBetter, ev_op, ev_op2, ev_op1, ev_dv, ev_dv2, ev_dv1, ev_un, ev_un1, ev_lit, ev_l0, ev_l1, ev_l2, ev_l3, ev_l4, ev_l5, ev_l6, ev_l7, ev_l8, ev_l9, ev_l10, ev_l11, ev_rf, ev_gi, ev_gi1, ev_gi2, ev_gr, ev_gr1, ev_at0, ev_at, ev_al, ev_al2, ev_al1, ev_an, ev_an1, ev_vs0, ev_vs, ev_vs2, ev_vs1, ev_ca, ev_ca1, ev_cv, ev_cv1, ev_cv2, ev_if, ev_if1, ev_cmp, ev_cmp2, ev_cmp1, ev_not, ev_not1, ev_and, ev_and1, ev_or, ev_or1, ev_e, ev_e1, ev_cif, ev_cif1, ev_qlt, ev_qle, ev_qgt, ev_qge, ev_qeq, ev_qne, ev_skip, ev_brk, ev_cnt, ev_retv, ev_seq, ev_seq0, ev_seq1, ev_seq2, ev_seq3, ev_seqi, ev_sif, ev_sif1, ev_ret, ev_ret1, ev_retz, ev_retzb, ev_retzc, ev_retz1, ev_retc, ev_asg, ev_s0, ev_s1, ev_s2, ev_s3, ev_s4, ev_s5, ev_s6, ev_s7, ev_s8, ev_s9, ev_s10, ev_s11, ev_exp, ev_exp1, ev_pf, ev_pf2, ev_pf1, ev_pz, ev_pz2, ev_pz1, ev_of, ev_of2, ev_of1, ev_st, ev_as, ev_as3, ev_as2, ev_as1, ev_oa, ev_oa3, ev_oa2, ev_oa1, ev_oa0, ev_cp, ev_cp3, ev_cp2, ev_cp1, ev_sw, ev_sw1, ev_swb0, ev_swb1, ev_swb3, ev_swbi, ev_fin3, ev_fin0, ev_fini, ev_iv, ev_ic, ev_b1, ev_b2, ev_b3, ev_b4, ev_b5, ev_b6, ev_or12, ev_lp, ev_lc, ev_lb0, ev_lb1, ev_lb2, ev_lb3, ev_lbi, ev_lu, ev_ass, Int.reduceAdd, Int.reduceSub, Int.reduceMul, Int.reduceNeg, Int.reduceLT, Int.reduceLE, Int.reduceGT, Int.reduceGE, Int.reduceEq, Int.reduceNe, Int.reduceDiv, Int.reduceMod, Int.reduceToNat, Nat.reduceAdd, Nat.reduceMul, Nat.reduceSub, Nat.reduceLT, Nat.reduceEqDiff, Int.reduceNatCast', reduceIte, ite_true, ite_false, if_true, if_false, decide_eq_true_eq, decide_true, decide_false, decide_not, Bool.not_eq_true', decide_eq_false_iff_not, Bool.not_not, Bool.and_eq_true, Bool.or_eq_true, Bool.not_true, Bool.not_false, not_true_eq_false, not_false_eq_true, true_and, and_true, false_and, and_false, true_or, or_true, false_or, or_false, Bool.true_and, Bool.and_true, Bool.false_and, Bool.and_false, Bool.true_or, Bool.or_true, Bool.or_false, Bool.false_or, Bool.not_eq_false', Bool.true_eq_false, Bool.false_eq_true, eq_self, Classical.not_not, ite_not, ne_eq, Option.some.injEq, Prod.mk.injEq, L_39, L_43, L_45, hn10, e1, q1, q2, q3, lp]
  | some d =>
    obtain ⟨b1, b2, b3, b4⟩ := hb
    have q3 : ¬ d.2 < 0 := by omega
    have g1 : τ 43 ((n : Int) - 1) = lastT pre := by
      rw [lastT_at (n := n - 1) (by omega), ← (hp (n - 1) (by omega)).2, show ((n - 1 : Nat) : Int) = (n : Int) - 1 by omega]
    have g2 : τ 45 ((n : Int) - 1) = lastT d.1 := by
      rw [lastT_at (n := n - 1) (by omega), ← (b4 (n - 1) (by omega)).2, show ((n - 1 : Nat) : Int) = (n : Int) - 1 by omega]
    by_cases z : L < d.2 ∨ (L = d.2 ∧ lastT pre < lastT d.1)
    · have e : better (some d) (pre, L) = some (pre, L) := if_pos z
      rw [e]
      refine ⟨υ, ?_, y2, y3, y4⟩
      by_cases z1 : L < d.2
      · simp only [u9_keepIfBetter, b9_keepIfBetter, ev_op, ev_op2, ev_op1, ev_dv, ev_dv2, ev_dv1, ev_un, ev_un1, ev_lit, ev_l0, ev_l1, ev_l2, ev_l3, ev_l4, ev_l5, ev_l6, ev_l7, ev_l8, ev_l9, ev_l10, ev_l11, ev_rf, ev_gi, ev_gi1, ev_gi2, ev_gr, ev_gr1, ev_at0, ev_at, ev_al, ev_al2, ev_al1, ev_an, ev_an1, ev_vs0, ev_vs, ev_vs2, ev_vs1, ev_ca, ev_ca1, ev_cv, ev_cv1, ev_cv2, ev_if, ev_if1, ev_cmp, ev_cmp2, ev_cmp1, ev_not, ev_not1, ev_and, ev_and1, ev_or, ev_or1, ev_e, ev_e1, ev_cif, ev_cif1, ev_qlt, ev_qle, ev_qgt, ev_qge, ev_qeq, ev_qne, ev_skip, ev_brk, ev_cnt, ev_retv, ev_seq, ev_seq0, ev_seq1, ev_seq2, ev_seq3, ev_seqi, ev_sif, ev_sif1, ev_ret, ev_ret1, ev_retz, ev_retzb, ev_retzc, ev_retz1, ev_retc, ev_asg, ev_s0, ev_s1, ev_s2, ev_s3, ev_s4, ev_s5, ev_s6, ev_s7, ev_s8, ev_s9, ev_s10, ev_s11, ev_exp, ev_exp1, ev_pf, ev_pf2, ev_pf1, ev_pz, ev_pz2, ev_pz1, ev_of, ev_of2, ev_of1, ev_st, ev_as, ev_as3, ev_as2, ev_as1, ev_oa, ev_oa3, ev_oa2, ev_oa1, ev_oa0, ev_cp, ev_cp3, ev_cp2, ev_cp1, ev_sw, ev_sw1, ev_swb0, ev_swb1, ev_swb3, ev_swbi, ev_fin3, ev_fin0, ev_fini, ev_iv, ev_ic, ev_b1, ev_b2, ev_b3, ev_b4, ev_b5, ev_b6, ev_or12, ev_lp, ev_lc, ev_lb0, ev_lb1, ev_lb2, ev_lb3, ev_lbi, ev_lu, ev_ass, Int.reduceAdd, Int.reduceSub, Int.reduceMul, Int.reduceNeg, Int.reduceLT, Int.reduceLE, Int.reduceGT, Int.reduceGE, Int.reduceEq, Int.reduceNe, Int.reduceDiv, Int.reduceMod, Int.reduceToNat, Nat.reduceAdd, Nat.reduceMul, Nat.reduceSub, Nat.reduceLT, Nat.reduceEqDiff, Int.reduceNatCast', reduceIte, ite_true, ite_false, if_true, if_false, decide_eq_true_eq, decide_true, decide_false, decide_not, Bool.not_eq_true', decide_eq_false_iff_not, Bool.not_not, Bool.and_eq_true, Bool.or_eq_true, Bool.not_true, Bool.not_false, not_true_eq_false, not_false_eq_true, true_and, and_true, false_and, and_false, true_or, or_true, false_or, or_false, Bool.true_and, Bool.and_true, Bool.false_and, Bool.and_false, Bool.true_or, Bool.or_true, Bool.or_false, Bool.false_or, Bool.not_eq_false', Bool.true_eq_false, Bool.false_eq_true, eq_self, Classical.not_not, ite_not, ne_eq, Option.some.injEq, Prod.mk.injEq, L_39, L_43, L_45, hn10, e1, q1, q2, b2, q3, z1, lp]
      · have z2 := z.resolve_left z1
        have z3 := z2.1
        subst z3
        simp only [u9_keepIfBetter, b9_keepIfBetter, ev_op, ev_op2, ev_op1, ev_dv, ev_dv2, ev_dv1, ev_un, ev_un1, ev_lit, ev_l0, ev_l1, ev_l2, ev_l3, ev_l4, ev_l5, ev_l6, ev_l7, ev_l8, ev_l9, ev_l10, ev_l11, ev_rf, ev_gi, ev_gi1, ev_gi2, ev_gr, ev_gr1, ev_at0, ev_at, ev_al, ev_al2, ev_al1, ev_an, ev_an1, ev_vs0, ev_vs, ev_vs2, ev_vs1, ev_ca, ev_ca1, ev_cv, ev_cv1, ev_cv2, ev_if, ev_if1, ev_cmp, ev_cmp2, ev_cmp1, ev_not, ev_not1, ev_and, ev_and1, ev_or, ev_or1, ev_e, ev_e1, ev_cif, ev_cif1, ev_qlt, ev_qle, ev_qgt, ev_qge, ev_qeq, ev_qne, ev_skip, ev_brk, ev_cnt, ev_retv, ev_seq, ev_seq0, ev_seq1, ev_seq2, ev_seq3, ev_seqi, ev_sif, ev_sif1, ev_ret, ev_ret1, ev_retz, ev_retzb, ev_retzc, ev_retz1, ev_retc, ev_asg, ev_s0, ev_s1, ev_s2, ev_s3, ev_s4, ev_s5, ev_s6, ev_s7, ev_s8, ev_s9, ev_s10, ev_s11, ev_exp, ev_exp1, ev_pf, ev_pf2, ev_pf1, ev_pz, ev_pz2, ev_pz1, ev_of, ev_of2, ev_of1, ev_st, ev_as, ev_as3, ev_as2, ev_as1, ev_oa, ev_oa3, ev_oa2, ev_oa1, ev_oa0, ev_cp, ev_cp3, ev_cp2, ev_cp1, ev_sw, ev_sw1, ev_swb0, ev_swb1, ev_swb3, ev_swbi, ev_fin3, ev_fin0, ev_fini, ev_iv, ev_ic, ev_b1, ev_b2, ev_b3, ev_b4, ev_b5, ev_b6, ev_or12, ev_lp, ev_lc, ev_lb0, ev_lb1, ev_lb2, ev_lb3, ev_lbi, ev_lu, ev_ass, Int.reduceAdd, Int.reduceSub, Int.reduceMul, Int.reduceNeg, Int.reduceLT, Int.reduceLE, Int.reduceGT, Int.reduceGE, Int.reduceEq, Int.reduceNe, Int.reduceDiv, Int.reduceMod, Int.reduceToNat, Nat.reduceAdd, Nat.reduceMul, Nat.reduceSub, Nat.reduceLT, Nat.reduceEqDiff, Int.reduceNatCast', reduceIte, ite_true, ite_false, if_true, if_false, decide_eq_true_eq, decide_true, decide_false, decide_not, Bool.not_eq_true', decide_eq_false_iff_not, Bool.not_not, Bool.and_eq_true, Bool.or_eq_true, Bool.not_true, Bool.not_false, not_true_eq_false, not_false_eq_true, true_and, and_true, false_and, and_false, true_or, or_true, false_or, or_false, Bool.true_and, Bool.and_true, Bool.false_and, Bool.and_false, Bool.true_or, Bool.or_true, Bool.or_false, Bool.false_or, Bool.not_eq_false', Bool.true_eq_false, Bool.false_eq_true, eq_self, Classical.not_not, ite_not, ne_eq, Option.some.injEq, Prod.mk.injEq, L_39, L_43, L_45, hn10, e1, q1, q2, b2, q3, z1, r, g1, g2, z2.2, lp]
    · have e : better (some d) (pre, L) = some d := if_neg z
      rw [e]
      refine ⟨τ, ?_, frT.rf τ, hp, b1, b2, b3, b4⟩
      have z1 : ¬ L < d.2 := fun y => z (Or.inl y)
      by_cases z2 : L = d.2
      · have z3 : ¬ lastT pre < lastT d.1 := fun y => z (Or.inr ⟨z2, y⟩)
        simp only [u9_keepIfBetter, b9_keepIfBetter, ev_op, ev_op2, ev_op1, ev_dv, ev_dv2, ev_dv1, ev_un, ev_un1, ev_lit, ev_l0, ev_l1, ev_l2, ev_l3, ev_l4, ev_l5, ev_l6, ev_l7, ev_l8, ev_l9, ev_l10, ev_l11, ev_rf, ev_gi, ev_gi1, ev_gi2, ev_gr, ev_gr1, ev_at0, ev_at, ev_al, ev_al2, ev_al1, ev_an, ev_an1, ev_vs0, ev_vs, ev_vs2, ev_vs1, ev_ca, ev_ca1, ev_cv, ev_cv1, ev_cv2, ev_if, ev_if1, ev_cmp, ev_cmp2, ev_cmp1, ev_not, ev_not1, ev_and, ev_and1, ev_or, ev_or1, ev_e, ev_e1, ev_cif, ev_cif1, ev_qlt, ev_qle, ev_qgt, ev_qge, ev_qeq, ev_qne, ev_skip, ev_brk, ev_cnt, ev_retv, ev_seq, ev_seq0, ev_seq1, ev_seq2, ev_seq3, ev_seqi, ev_sif, ev_sif1, ev_ret, ev_ret1, ev_retz, ev_retzb, ev_retzc, ev_retz1, ev_retc, ev_asg, ev_s0, ev_s1, ev_s2, ev_s3, ev_s4, ev_s5, ev_s6, ev_s7, ev_s8, ev_s9, ev_s10, ev_s11, ev_exp, ev_exp1, ev_pf, ev_pf2, ev_pf1, ev_pz, ev_pz2, ev_pz1, ev_of, ev_of2, ev_of1, ev_st, ev_as, ev_as3, ev_as2, ev_as1, ev_oa, ev_oa3, ev_oa2, ev_oa1, ev_oa0, ev_cp, ev_cp3, ev_cp2, ev_cp1, ev_sw, ev_sw1, ev_swb0, ev_swb1, ev_swb3, ev_swbi, ev_fin3, ev_fin0, ev_fini, ev_iv, ev_ic, ev_b1, ev_b2, ev_b3, ev_b4, ev_b5, ev_b6, ev_or12, ev_lp, ev_lc, ev_lb0, ev_lb1, ev_lb2, ev_lb3, ev_lbi, ev_lu, ev_ass, Int.reduceAdd, Int.reduceSub, Int.reduceMul, Int.reduceNeg, Int.reduceLT, Int.reduceLE, Int.reduceGT, Int.reduceGE, Int.reduceEq, Int.reduceNe, Int.reduceDiv, Int.reduceMod, Int.reduceToNat, Nat.reduceAdd, Nat.reduceMul, Nat.reduceSub, Nat.reduceLT, Nat.reduceEqDiff, Int.reduceNatCast', reduceIte, ite_true, ite_false, if_true, if_false, decide_eq_true_eq, decide_true, decide_false, decide_not, Bool.not_eq_true', decide_eq_false_iff_not, Bool.not_not, Bool.and_eq_true, Bool.or_eq_true, Bool.not_true, Bool.not_false, not_true_eq_false, not_false_eq_true, true_and, and_true, false_and, and_false, true_or, or_true, false_or, or_false, Bool.true_and, Bool.and_true, Bool.false_and, Bool.and_false, Bool.true_or, Bool.or_true, Bool.or_false, Bool.false_or, Bool.not_eq_false', Bool.true_eq_false, Bool.false_eq_true, eq_self, Classical.not_not, ite_not, ne_eq, Option.some.injEq, Prod.mk.injEq, L_39, L_43, L_45, hn10, e1, q1, q2, b2, q3, z1, eq_true z2, r, g1, g2, z3]
      · simp only [u9_keepIfBetter, b9_keepIfBetter, ev_op, ev_op2, ev_op1, ev_dv, ev_dv2, ev_dv1, ev_un, ev_un1, ev_lit, ev_l0, ev_l1, ev_l2, ev_l3, ev_l4, ev_l5, ev_l6, ev_l7, ev_l8, ev_l9, ev_l10, ev_l11, ev_rf, ev_gi, ev_gi1, ev_gi2, ev_gr, ev_gr1, ev_at0, ev_at, ev_al, ev_al2, ev_al1, ev_an, ev_an1, ev_vs0, ev_vs, ev_vs2, ev_vs1, ev_ca, ev_ca1, ev_cv, ev_cv1, ev_cv2, ev_if, ev_if1, ev_cmp, ev_cmp2, ev_cmp1, ev_not, ev_not1, ev_and, ev_and1, ev_or, ev_or1, ev_e, ev_e1, ev_cif, ev_cif1, ev_qlt, ev_qle, ev_qgt, ev_qge, ev_qeq, ev_qne, ev_skip, ev_brk, ev_cnt, ev_retv, ev_seq, ev_seq0, ev_seq1, ev_seq2, ev_seq3, ev_seqi, ev_sif, ev_sif1, ev_ret, ev_ret1, ev_retz, ev_retzb, ev_retzc, ev_retz1, ev_retc, ev_asg, ev_s0, ev_s1, ev_s2, ev_s3, ev_s4, ev_s5, ev_s6, ev_s7, ev_s8, ev_s9, ev_s10, ev_s11, ev_exp, ev_exp1, ev_pf, ev_pf2, ev_pf1, ev_pz, ev_pz2, ev_pz1, ev_of, ev_of2, ev_of1, ev_st, ev_as, ev_as3, ev_as2, ev_as1, ev_oa, ev_oa3, ev_oa2, ev_oa1, ev_oa0, ev_cp, ev_cp3, ev_cp2, ev_cp1, ev_sw, ev_sw1, ev_swb0, ev_swb1, ev_swb3, ev_swbi, ev_fin3, ev_fin0, ev_fini, ev_iv, ev_ic, ev_b1, ev_b2, ev_b3, ev_b4, ev_b5, ev_b6, ev_or12, ev_lp, ev_lc, ev_lb0, ev_lb1, ev_lb2, ev_lb3, ev_lbi, ev_lu, ev_ass, Int.reduceAdd, Int.reduceSub, Int.reduceMul, Int.reduceNeg, Int.reduceLT, Int.reduceLE, Int.reduceGT, Int.reduceGE, Int.reduceEq, Int.reduceNe, Int.reduceDiv, Int.reduceMod, Int.reduceToNat, Nat.reduceAdd, Nat.reduceMul, Nat.reduceSub, Nat.reduceLT, Nat.reduceEqDiff, Int.reduceNatCast', reduceIte, ite_true, ite_false, if_true, if_false, decide_eq_true_eq, decide_true, decide_false, decide_not, Bool.not_eq_true', decide_eq_false_iff_not, Bool.not_not, Bool.and_eq_true, Bool.or_eq_true, Bool.not_true, Bool.not_false, not_true_eq_false, not_false_eq_true, true_and, and_true, false_and, and_false, true_or, or_true, false_or, or_false, Bool.true_and, Bool.and_true, Bool.false_and, Bool.and_false, Bool.true_or, Bool.or_true, Bool.or_false, Bool.false_or, Bool.not_eq_false', Bool.true_eq_false, Bool.false_eq_true, eq_self, Classical.not_not, ite_not, ne_eq, Option.some.injEq, Prod.mk.injEq, L_39, L_43, L_45, hn10, e1, q1, q2, b2, q3, z1, z2]
