/-! ===== the night: the reference's loop ===== -/
noncomputable abbrev nwC : cvC := (xc_cmp qge (xe_loc 4) (xe_lit 0))
noncomputable abbrev nwB : cvS := (xs_seq (xs_if (xc_cmp qeq (xe_loc 4) (xe_gi 12 42 (xe_loc 0))) (xs_seq (xs_pf 12 43 (xe_loc 0) (xe_al (xe_gr 12 45 (xe_loc 0)) (xe_loc 4))) (xs_seq (xs_pf 12 44 (xe_loc 0) (xe_al (xe_gr 12 46 (xe_loc 0)) (xe_loc 4))) (xs_seq (xs_seq (xs_asg 6 (xe_lit 0)) (xs_lp (xc_cmp qlt (xe_loc 6) (xe_gi 12 42 (xe_loc 0))) (xs_as (xe_gr 12 40 (xe_loc 0)) (xe_loc 6) (xe_al (xe_gr 12 39 (xe_loc 0)) (xe_loc 6))) (xs_asg 6 (xe_op oadd (xe_loc 6) (xe_lit 1))))) (xs_seq (xs_asg 4 (xe_op oadd (xe_loc 4) (xe_lit (-1)))) (xs_seq (xs_asg 5 (xe_if (xc_cmp qge (xe_loc 4) (xe_lit 0)) (xe_al (xe_gr 12 39 (xe_loc 0)) (xe_loc 4)) (xe_lit (-1)))) xs_cnt))))) xs_skip) (xs_seq (xs_as (xe_gr 12 39 (xe_loc 0)) (xe_loc 4) (xe_op oadd (xe_loc 5) (xe_lit 1))) (xs_seq (xs_if (xc_cmp qge (xe_al (xe_gr 12 39 (xe_loc 0)) (xe_loc 4)) (xe_al (xe_gr 12 0 (xe_loc 0)) (xe_lit 1))) (xs_seq (xs_asg 4 (xe_op oadd (xe_loc 4) (xe_lit (-1)))) (xs_seq (xs_asg 5 (xe_if (xc_cmp qge (xe_loc 4) (xe_lit 0)) (xe_al (xe_gr 12 39 (xe_loc 0)) (xe_loc 4)) (xe_lit (-1)))) xs_cnt)) xs_skip) (xs_seq (xs_asg 5 (xe_al (xe_gr 12 39 (xe_loc 0)) (xe_loc 4))) (xs_if (xc_e (xe_cv 12 f12_isGood_ [(xe_loc 0), (xe_loc 4)])) (xs_seq (xs_asg 4 (xe_op oadd (xe_loc 4) (xe_lit 1))) (xs_asg 5 (xe_lit (-1)))) xs_skip)))))
noncomputable abbrev nwU : cvS := xs_skip
def gN (f : Int → Option Cn → Option Cn) : Nat → Int → Option Cn → Option Cn
  | 0, _, b => b
  | r + 1, pl, b => gN f r (pl + 1) (f pl b)
theorem gN_it (f : Int → Option Cn → Option Cn) (b : Option Cn) : ∀ (r : Nat) (pl : Int), 0 ≤ pl → gN f r pl (itI f b pl) = itI f b (pl + (r : Int)) := by
  intro r
  induction r with
  | zero => intro pl _; rw [show pl + ((0 : Nat) : Int) = pl by omega]; rfl
  | succ r ih =>
    intro pl h
    rw [gN, ← itI_s f b h, ih (pl + 1) (by omega), show pl + 1 + (r : Int) = pl + ((r + 1 : Nat) : Int) by omega]
theorem itI_over {α : Type} {f : Int → α → α} {b : α} {n : Int} (hn : 0 ≤ n) : ∀ k : Nat, (∀ i c, n ≤ i → i < n + (k : Int) → f i c = c) → itI f b (n + (k : Int)) = itI f b n := by
  intro k
  induction k with
  | zero => intro _; rw [show n + ((0 : Nat) : Int) = n by omega]
  | succ k ih =>
    intro h
    rw [show n + ((k + 1 : Nat) : Int) = n + (k : Int) + 1 by omega, itI_s _ _ (by omega), h _ _ (by omega) (by omega)]
    exact ih fun i c i0 i1 => h i c i0 (by omega)
def lastN (pre : List Int) : Int := if pre.length = 0 then -1 else pre.getD (pre.length - 1) 0
def entS (σ : cvM) (c x m : Int) (l : List Int) (mm : Nat) : Prop := ∀ (pre : List Int) (b : Option Cn), pre.length + mm = l.length → (∀ q ∈ pre, 0 ≤ q ∧ q < 8) → (∀ d, b = some d → LN σ c m l pre < d.1) → ∀ (υ : cvM) (x6 : Option Int), bsN σ c x m l υ → mSN σ c m l pre υ → mbN l.length b υ → ∃ x6' υ', xs_lp nwC nwB nwU [some 87, some c, some x, some m, some (pre.length : Int), some (-1), x6] υ = xs_lp nwC nwB nwU [some 87, some c, some x, some m, some ((pre.length : Int) - 1), some (lastN pre), x6'] υ' ∧ bsN σ c x m l υ' ∧ mSN σ c m l pre υ' ∧ mbN l.length (nF (rmN σ c x m) (coN σ c m l) mm pre (LN σ c m l pre) b) υ'
/-- one round that goes back -/
theorem last_from {σ : cvM} {c m : Int} {l pre : List Int} {υ : cvM} (hs : mSN σ c m l pre υ) : (pre.length = 0 ∧ lastN pre = -1) ∨ (0 ≤ (pre.length : Int) - 1 ∧ υ 116 ((pre.length : Int) - 1) = lastN pre) := by
  unfold lastN
  by_cases z : pre.length = 0
  · exact Or.inl ⟨z, if_pos z⟩
  · refine Or.inr ⟨by omega, ?_⟩
    rw [if_neg z]
    have := hs.1 (pre.length - 1) (by omega)
    rw [show ((pre.length - 1 : Nat) : Int) = (pre.length : Int) - 1 by omega] at this
    exact this
theorem nt_0 {σ : cvM} (h : WR σ) {c x m : Int} {l : List Int} (l6 : l.length ≤ 6) (hc : 0 ≤ c ∧ c < 8) (hm : 0 ≤ m) : entS σ c x m l 0 := by
  intro pre b hl hq hw υ x6 hb hs hbb
  obtain ⟨fr, b1, b2, b3⟩ := hb
  have kn : (pre.length : Int) = (l.length : Int) := by omega
  have k0 : 0 ≤ (pre.length : Int) := by omega
  have r7 : 0 ≤ (l.length : Int) ∧ (l.length : Int) < 7 := by omega
  have g119 := (hs.2 pre.length (Nat.le_refl _)).1
  have g120 := (hs.2 pre.length (Nat.le_refl _)).2
  have bA := pAN_bd σ l pre (j := (pre.length : Int)) k0
  have bD := pDN_bd h hc hm hq (j := (pre.length : Int)) (by omega)
  have eL : LN σ c m l pre = 100000 * pAN σ l pre (pre.length : Int) + pDN σ c m pre (pre.length : Int) := rfl
  rw [kn] at g119 g120 bA bD eL k0
  generalize pAN σ l pre (l.length : Int) = A at g119 bA eL
  generalize pDN σ c m pre (l.length : Int) = D at g120 bD eL
  have en : nF (rmN σ c x m) (coN σ c m l) 0 pre (LN σ c m l pre) b = some (LN σ c m l pre, pre) := by
    show betN b (LN σ c m l pre, pre) = _
    cases b with
    | none => rfl
    | some d => exact if_pos (hw d rfl)
  rw [en]
  have k120 : updM υ 87 43 A 120 (l.length : Int) = D := by rw [upd_ne _ (by decide), g120]
  have cp : WQ (xs_lp ((xc_cmp qlt (xe_loc 6) (xe_gi 12 42 (xe_loc 0)))) ((xs_as (xe_gr 12 40 (xe_loc 0)) (xe_loc 6) (xe_al (xe_gr 12 39 (xe_loc 0)) (xe_loc 6)))) ((xs_asg 6 (xe_op oadd (xe_loc 6) (xe_lit 1)))) [some 87, some c, some x, some m, some (l.length : Int), some (-1), some 0] (updM (updM υ 87 43 A) 87 44 D)) (fun r => ∃ υ', r = (0, 0, [some 87, some c, some x, some m, some (l.length : Int), some (-1), some (l.length : Int)], υ') ∧ (∀ k i : Int, k ≠ 117 → υ' k i = updM (updM υ 87 43 A) 87 44 D k i) ∧ ∀ j : Nat, j < l.length → υ' 117 (j : Int) = υ 116 (j : Int)) := by
    refine wq_I (fun i E υ' => E = [some 87, some c, some x, some m, some (l.length : Int), some (-1), some i] ∧ (∀ k i : Int, k ≠ 117 → υ' k i = updM (updM υ 87 43 A) 87 44 D k i) ∧ ∀ j : Nat, (j : Int) < i → υ' 117 (j : Int) = υ 116 (j : Int)) 0 (l.length : Int) (by omega) ⟨rfl, fun _ _ _ => rfl, fun j hj => by omega⟩ ?_ ?_
    · rintro i E υ' i0 i1 ⟨rfl, f, g⟩
      have r6 : 0 ≤ i ∧ i < 6 := by omega
      have g42 : υ' 87 42 = (l.length : Int) := by rw [f 87 42 (by decide), upd_ni (by decide), upd_ni (by decide), b1]
      have g116 : υ' 116 i = υ 116 i := by rw [f 116 i (by decide), upd_ne _ (by decide), upd_ne _ (by decide)]
      have n1 := fun _ : Unit => n_add (show -2147483648 ≤ i + 1 ∧ i + 1 < 2147483648 by omega)
      simp only [ev_op, ev_op2, ev_op1, ev_dv, ev_dv2, ev_dv1, ev_un, ev_un1, ev_lit, ev_l0, ev_l1, ev_l2, ev_l3, ev_l4, ev_l5, ev_l6, ev_l7, ev_l8, ev_l9, ev_l10, ev_l11, ev_rf, ev_gi, ev_gi1, ev_gi2, ev_gr, ev_gr1, ev_at0, ev_at, ev_al, ev_al2, ev_al1, ev_an, ev_an1, ev_vs0, ev_vs, ev_vs2, ev_vs1, ev_ca, ev_ca1, ev_cv, ev_cv1, ev_cv2, ev_if, ev_if1, ev_cmp, ev_cmp2, ev_cmp1, ev_not, ev_not1, ev_and, ev_and1, ev_or, ev_or1, ev_e, ev_e1, ev_cif, ev_cif1, ev_qlt, ev_qle, ev_qgt, ev_qge, ev_qeq, ev_qne, ev_skip, ev_brk, ev_cnt, ev_retv, ev_seq, ev_seq0, ev_seq1, ev_seq2, ev_seq3, ev_seqi, ev_sif, ev_sif1, ev_ret, ev_ret1, ev_retz, ev_retzb, ev_retzc, ev_retz1, ev_retc, ev_asg, ev_s0, ev_s1, ev_s2, ev_s3, ev_s4, ev_s5, ev_s6, ev_s7, ev_s8, ev_s9, ev_s10, ev_s11, ev_exp, ev_exp1, ev_pf, ev_pf2, ev_pf1, ev_pz, ev_pz2, ev_pz1, ev_of, ev_of2, ev_of1, ev_st, ev_as, ev_as3, ev_as2, ev_as1, ev_oa, ev_oa3, ev_oa2, ev_oa1, ev_oa0, ev_cp, ev_cp3, ev_cp2, ev_cp1, ev_sw, ev_sw1, ev_swb0, ev_swb1, ev_swb3, ev_swbi, ev_fin3, ev_fin0, ev_fini, ev_iv, ev_ic, ev_b1, ev_b2, ev_b3, ev_b4, ev_b5, ev_b6, ev_or12, ev_lp, ev_lc, ev_lb0, ev_lb1, ev_lb2, ev_lb3, ev_lbi, ev_lu, ev_ass, Int.reduceAdd, Int.reduceSub, Int.reduceMul, Int.reduceNeg, Int.reduceLT, Int.reduceLE, Int.reduceGT, Int.reduceGE, Int.reduceEq, Int.reduceNe, Int.reduceDiv, Int.reduceMod, Int.reduceToNat, Nat.reduceAdd, Nat.reduceMul, Nat.reduceSub, Nat.reduceLT, Nat.reduceEqDiff, Int.reduceNatCast', reduceIte, ite_true, ite_false, if_true, if_false, decide_eq_true_eq, decide_true, decide_false, decide_not, Bool.not_eq_true', decide_eq_false_iff_not, Bool.not_not, Bool.and_eq_true, Bool.or_eq_true, Bool.not_true, Bool.not_false, not_true_eq_false, not_false_eq_true, true_and, and_true, false_and, and_false, true_or, or_true, false_or, or_false, Bool.true_and, Bool.and_true, Bool.false_and, Bool.and_false, Bool.true_or, Bool.or_true, Bool.or_false, Bool.false_or, Bool.not_eq_false', Bool.true_eq_false, Bool.false_eq_true, eq_self, Classical.not_not, ite_not, ne_eq, Option.some.injEq, Prod.mk.injEq, L_87, L_116, L_117, g42, i1, r6, g116, n1 ()]
      refine RS.go ⟨rfl, fun k j hk => by rw [upd_ne _ hk, f k j hk], fun j hj => ?_⟩
      by_cases z : (j : Int) = i
      · rw [z, upd_at]
      · rw [upd_ni z]
        exact g j (by omega)
    · rintro E υ' ⟨rfl, f, g⟩
      have g42 : υ' 87 42 = (l.length : Int) := by rw [f 87 42 (by decide), upd_ni (by decide), upd_ni (by decide), b1]
      have q : ¬ (l.length : Int) < (l.length : Int) := by omega
      simp only [ev_op, ev_op2, ev_op1, ev_dv, ev_dv2, ev_dv1, ev_un, ev_un1, ev_lit, ev_l0, ev_l1, ev_l2, ev_l3, ev_l4, ev_l5, ev_l6, ev_l7, ev_l8, ev_l9, ev_l10, ev_l11, ev_rf, ev_gi, ev_gi1, ev_gi2, ev_gr, ev_gr1, ev_at0, ev_at, ev_al, ev_al2, ev_al1, ev_an, ev_an1, ev_vs0, ev_vs, ev_vs2, ev_vs1, ev_ca, ev_ca1, ev_cv, ev_cv1, ev_cv2, ev_if, ev_if1, ev_cmp, ev_cmp2, ev_cmp1, ev_not, ev_not1, ev_and, ev_and1, ev_or, ev_or1, ev_e, ev_e1, ev_cif, ev_cif1, ev_qlt, ev_qle, ev_qgt, ev_qge, ev_qeq, ev_qne, ev_skip, ev_brk, ev_cnt, ev_retv, ev_seq, ev_seq0, ev_seq1, ev_seq2, ev_seq3, ev_seqi, ev_sif, ev_sif1, ev_ret, ev_ret1, ev_retz, ev_retzb, ev_retzc, ev_retz1, ev_retc, ev_asg, ev_s0, ev_s1, ev_s2, ev_s3, ev_s4, ev_s5, ev_s6, ev_s7, ev_s8, ev_s9, ev_s10, ev_s11, ev_exp, ev_exp1, ev_pf, ev_pf2, ev_pf1, ev_pz, ev_pz2, ev_pz1, ev_of, ev_of2, ev_of1, ev_st, ev_as, ev_as3, ev_as2, ev_as1, ev_oa, ev_oa3, ev_oa2, ev_oa1, ev_oa0, ev_cp, ev_cp3, ev_cp2, ev_cp1, ev_sw, ev_sw1, ev_swb0, ev_swb1, ev_swb3, ev_swbi, ev_fin3, ev_fin0, ev_fini, ev_iv, ev_ic, ev_b1, ev_b2, ev_b3, ev_b4, ev_b5, ev_b6, ev_or12, ev_lp, ev_lc, ev_lb0, ev_lb1, ev_lb2, ev_lb3, ev_lbi, ev_lu, ev_ass, Int.reduceAdd, Int.reduceSub, Int.reduceMul, Int.reduceNeg, Int.reduceLT, Int.reduceLE, Int.reduceGT, Int.reduceGE, Int.reduceEq, Int.reduceNe, Int.reduceDiv, Int.reduceMod, Int.reduceToNat, Nat.reduceAdd, Nat.reduceMul, Nat.reduceSub, Nat.reduceLT, Nat.reduceEqDiff, Int.reduceNatCast', reduceIte, ite_true, ite_false, if_true, if_false, decide_eq_true_eq, decide_true, decide_false, decide_not, Bool.not_eq_true', decide_eq_false_iff_not, Bool.not_not, Bool.and_eq_true, Bool.or_eq_true, Bool.not_true, Bool.not_false, not_true_eq_false, not_false_eq_true, true_and, and_true, false_and, and_false, true_or, or_true, false_or, or_false, Bool.true_and, Bool.and_true, Bool.false_and, Bool.and_false, Bool.true_or, Bool.or_true, Bool.or_false, Bool.false_or, Bool.not_eq_false', Bool.true_eq_false, Bool.false_eq_true, eq_self, Classical.not_not, ite_not, ne_eq, Option.some.injEq, Prod.mk.injEq, L_87, g42, q]
      exact RS.done ⟨υ', rfl, f, fun j hj => g j (by omega)⟩
  obtain ⟨r, lp1, υ', rfl, f, g⟩ := cp
  have fa : ∀ k i : Int, ¬ ((k = 87 ∧ (i = 43 ∨ i = 44)) ∨ k = 117) → υ' k i = υ k i := fun k i hk => by rw [f k i (by omega), upd_no (by omega), upd_no (by omega)]
  have hs' : mSN σ c m l pre υ' := ⟨fun j hj => by rw [fa 116 _ (by omega)]; exact hs.1 j hj, fun j hj => by rw [fa 119 _ (by omega), fa 120 _ (by omega)]; exact hs.2 j hj⟩
  have hb' : bsN σ c x m l υ' := ⟨fun k i hk => by rw [fa k i (by omega), fr k i hk], by rw [fa 87 42 (by omega)]; exact b1, fun j hj => by rw [fa 115 _ (by omega)]; exact b2 j hj, fun pl p0 p1 => by rw [fa 118 _ (by omega), fa 121 _ (by omega)]; exact b3 pl p0 p1⟩
  have hbb' : mbN l.length (some (LN σ c m l pre, pre)) υ' := by
    refine ⟨by show 0 ≤ LN σ c m l pre; omega, ?_, ?_, by show pre.length = l.length; omega, fun j hj => ?_⟩
    · show υ' 87 43 = LN σ c m l pre / 100000
      rw [f 87 43 (by decide), upd_ni (by decide), upd_at, eL]
      omega
    · show υ' 87 44 = LN σ c m l pre % 100000
      rw [f 87 44 (by decide), upd_at, eL]
      omega
    · rw [g j hj]
      exact hs.1 j (by omega)
  have lf := last_from hs'
  rw [kn] at lf
  have nm : Unit → oadd (l.length : Int) (-1) = (l.length : Int) - 1 := fun _ => n_add (by omega)
  rcases lf with ⟨z, e⟩ | ⟨z, e⟩
  · have zl : ¬ 0 ≤ (l.length : Int) - 1 := by omega
    refine ⟨some (l.length : Int), υ', ?_, hb', hs', hbb'⟩
    rw [kn, e]
    refine lp_go ?_
    simp only [nwC, nwB, nwU, ev_op, ev_op2, ev_op1, ev_dv, ev_dv2, ev_dv1, ev_un, ev_un1, ev_lit, ev_l0, ev_l1, ev_l2, ev_l3, ev_l4, ev_l5, ev_l6, ev_l7, ev_l8, ev_l9, ev_l10, ev_l11, ev_rf, ev_gi, ev_gi1, ev_gi2, ev_gr, ev_gr1, ev_at0, ev_at, ev_al, ev_al2, ev_al1, ev_an, ev_an1, ev_vs0, ev_vs, ev_vs2, ev_vs1, ev_ca, ev_ca1, ev_cv, ev_cv1, ev_cv2, ev_if, ev_if1, ev_cmp, ev_cmp2, ev_cmp1, ev_not, ev_not1, ev_and, ev_and1, ev_or, ev_or1, ev_e, ev_e1, ev_cif, ev_cif1, ev_qlt, ev_qle, ev_qgt, ev_qge, ev_qeq, ev_qne, ev_skip, ev_brk, ev_cnt, ev_retv, ev_seq, ev_seq0, ev_seq1, ev_seq2, ev_seq3, ev_seqi, ev_sif, ev_sif1, ev_ret, ev_ret1, ev_retz, ev_retzb, ev_retzc, ev_retz1, ev_retc, ev_asg, ev_s0, ev_s1, ev_s2, ev_s3, ev_s4, ev_s5, ev_s6, ev_s7, ev_s8, ev_s9, ev_s10, ev_s11, ev_exp, ev_exp1, ev_pf, ev_pf2, ev_pf1, ev_pz, ev_pz2, ev_pz1, ev_of, ev_of2, ev_of1, ev_st, ev_as, ev_as3, ev_as2, ev_as1, ev_oa, ev_oa3, ev_oa2, ev_oa1, ev_oa0, ev_cp, ev_cp3, ev_cp2, ev_cp1, ev_sw, ev_sw1, ev_swb0, ev_swb1, ev_swb3, ev_swbi, ev_fin3, ev_fin0, ev_fini, ev_iv, ev_ic, ev_b1, ev_b2, ev_b3, ev_b4, ev_b5, ev_b6, ev_or12, ev_lp, ev_lc, ev_lb0, ev_lb1, ev_lb2, ev_lb3, ev_lbi, ev_lu, ev_ass, Int.reduceAdd, Int.reduceSub, Int.reduceMul, Int.reduceNeg, Int.reduceLT, Int.reduceLE, Int.reduceGT, Int.reduceGE, Int.reduceEq, Int.reduceNe, Int.reduceDiv, Int.reduceMod, Int.reduceToNat, Nat.reduceAdd, Nat.reduceMul, Nat.reduceSub, Nat.reduceLT, Nat.reduceEqDiff, Int.reduceNatCast', reduceIte, ite_true, ite_false, if_true, if_false, decide_eq_true_eq, decide_true, decide_false, decide_not, Bool.not_eq_true', decide_eq_false_iff_not, Bool.not_not, Bool.and_eq_true, Bool.or_eq_true, Bool.not_true, Bool.not_false, not_true_eq_false, not_false_eq_true, true_and, and_true, false_and, and_false, true_or, or_true, false_or, or_false, Bool.true_and, Bool.and_true, Bool.false_and, Bool.and_false, Bool.true_or, Bool.or_true, Bool.or_false, Bool.false_or, Bool.not_eq_false', Bool.true_eq_false, Bool.false_eq_true, eq_self, Classical.not_not, ite_not, ne_eq, Option.some.injEq, Prod.mk.injEq, L_87, L_116, L_117, L_119, L_120, k0, b1, r7, g119, k120, lp1, nm (), zl]
  · have r6 : 0 ≤ (l.length : Int) - 1 ∧ (l.length : Int) - 1 < 6 := by omega
    refine ⟨some (l.length : Int), υ', ?_, hb', hs', hbb'⟩
    rw [kn]
    refine lp_go ?_
    simp only [nwC, nwB, nwU, ev_op, ev_op2, ev_op1, ev_dv, ev_dv2, ev_dv1, ev_un, ev_un1, ev_lit, ev_l0, ev_l1, ev_l2, ev_l3, ev_l4, ev_l5, ev_l6, ev_l7, ev_l8, ev_l9, ev_l10, ev_l11, ev_rf, ev_gi, ev_gi1, ev_gi2, ev_gr, ev_gr1, ev_at0, ev_at, ev_al, ev_al2, ev_al1, ev_an, ev_an1, ev_vs0, ev_vs, ev_vs2, ev_vs1, ev_ca, ev_ca1, ev_cv, ev_cv1, ev_cv2, ev_if, ev_if1, ev_cmp, ev_cmp2, ev_cmp1, ev_not, ev_not1, ev_and, ev_and1, ev_or, ev_or1, ev_e, ev_e1, ev_cif, ev_cif1, ev_qlt, ev_qle, ev_qgt, ev_qge, ev_qeq, ev_qne, ev_skip, ev_brk, ev_cnt, ev_retv, ev_seq, ev_seq0, ev_seq1, ev_seq2, ev_seq3, ev_seqi, ev_sif, ev_sif1, ev_ret, ev_ret1, ev_retz, ev_retzb, ev_retzc, ev_retz1, ev_retc, ev_asg, ev_s0, ev_s1, ev_s2, ev_s3, ev_s4, ev_s5, ev_s6, ev_s7, ev_s8, ev_s9, ev_s10, ev_s11, ev_exp, ev_exp1, ev_pf, ev_pf2, ev_pf1, ev_pz, ev_pz2, ev_pz1, ev_of, ev_of2, ev_of1, ev_st, ev_as, ev_as3, ev_as2, ev_as1, ev_oa, ev_oa3, ev_oa2, ev_oa1, ev_oa0, ev_cp, ev_cp3, ev_cp2, ev_cp1, ev_sw, ev_sw1, ev_swb0, ev_swb1, ev_swb3, ev_swbi, ev_fin3, ev_fin0, ev_fini, ev_iv, ev_ic, ev_b1, ev_b2, ev_b3, ev_b4, ev_b5, ev_b6, ev_or12, ev_lp, ev_lc, ev_lb0, ev_lb1, ev_lb2, ev_lb3, ev_lbi, ev_lu, ev_ass, Int.reduceAdd, Int.reduceSub, Int.reduceMul, Int.reduceNeg, Int.reduceLT, Int.reduceLE, Int.reduceGT, Int.reduceGE, Int.reduceEq, Int.reduceNe, Int.reduceDiv, Int.reduceMod, Int.reduceToNat, Nat.reduceAdd, Nat.reduceMul, Nat.reduceSub, Nat.reduceLT, Nat.reduceEqDiff, Int.reduceNatCast', reduceIte, ite_true, ite_false, if_true, if_false, decide_eq_true_eq, decide_true, decide_false, decide_not, Bool.not_eq_true', decide_eq_false_iff_not, Bool.not_not, Bool.and_eq_true, Bool.or_eq_true, Bool.not_true, Bool.not_false, not_true_eq_false, not_false_eq_true, true_and, and_true, false_and, and_false, true_or, or_true, false_or, or_false, Bool.true_and, Bool.and_true, Bool.false_and, Bool.and_false, Bool.true_or, Bool.or_true, Bool.or_false, Bool.false_or, Bool.not_eq_false', Bool.true_eq_false, Bool.false_eq_true, eq_self, Classical.not_not, ite_not, ne_eq, Option.some.injEq, Prod.mk.injEq, L_87, L_116, L_117, L_119, L_120, k0, b1, r7, g119, k120, lp1, nm (), z, r6, e]
theorem nt_in {σ : cvM} (h : WR σ) {c x m : Int} {l : List Int} (l6 : l.length ≤ 6) (lm : ∀ j : Nat, j < l.length → 0 ≤ l.getD j 0 ∧ l.getD j 0 < σ 88 2) (hc : 0 ≤ c ∧ c < 8) (hm : 0 ≤ m ∧ m ≤ 1439) {mm : Nat} (ent : entS σ c x m l mm) : ∀ (r : Nat) (pre : List Int) (pl : Int) (b : Option Cn), pre.length + (mm + 1) = l.length → (∀ q ∈ pre, 0 ≤ q ∧ q < 8) → 0 ≤ pl → pl + (r : Int) = σ 88 1 → ∀ (υ : cvM) (x6 : Option Int), bsN σ c x m l υ → mSN σ c m l pre υ → mbN l.length b υ → ∃ x6' υ', xs_lp nwC nwB nwU [some 87, some c, some x, some m, some (pre.length : Int), some (pl - 1), x6] υ = xs_lp nwC nwB nwU [some 87, some c, some x, some m, some ((pre.length : Int) - 1), some (lastN pre), x6'] υ' ∧ bsN σ c x m l υ' ∧ mSN σ c m l pre υ' ∧ mbN l.length (gN (fun pl b => if cnN pre pl < rmN σ c x m pl then nF (rmN σ c x m) (coN σ c m l) mm (pre ++ [pl]) (LN σ c m l pre + coN σ c m l pre.length pl) b else b) r pl b) υ' := by
  have c3 := cnt_3 h
  intro r
  induction r with
  | zero =>
    intro pre pl b hl hq p0 hr υ x6 hb hs hbb
    have hb0 := hb
    obtain ⟨fr, b1, b2, b3⟩ := hb
    have k0 : 0 ≤ (pre.length : Int) := by omega
    have kn : ¬ (pre.length : Int) = (l.length : Int) := by omega
    have r6 : 0 ≤ (pre.length : Int) ∧ (pre.length : Int) < 6 := by omega
    have e88 : ∀ v, updM υ 116 (pre.length : Int) v 88 1 = σ 88 1 := fun v => by rw [upd_ne _ (by decide), fr 88 1 (by decide)]
    have q1 : σ 88 1 ≤ pl := by omega
    have fa : ∀ k i : Int, ¬ (k = 116 ∧ i = (pre.length : Int)) → updM υ 116 (pre.length : Int) pl k i = υ k i := fun k i hk => upd_no hk
    have hs' : mSN σ c m l pre (updM υ 116 (pre.length : Int) pl) := ⟨fun j hj => by rw [fa 116 _ (by omega)]; exact hs.1 j hj, fun j hj => by rw [fa 119 _ (by omega), fa 120 _ (by omega)]; exact hs.2 j hj⟩
    have hb' : bsN σ c x m l (updM υ 116 (pre.length : Int) pl) := ⟨fun k i hk => by rw [fa k i (by omega), fr k i hk], by rw [fa 87 42 (by omega)]; exact b1, fun j hj => by rw [fa 115 _ (by omega)]; exact b2 j hj, fun pl p0 p1 => by rw [fa 118 _ (by omega), fa 121 _ (by omega)]; exact b3 pl p0 p1⟩
    have hbb' : mbN l.length b (updM υ 116 (pre.length : Int) pl) := hbb.congr (fa _ _ (by omega)) (fa _ _ (by omega)) fun i => fa _ _ (by omega)
    have lf := last_from hs'
    have gk : updM υ 116 (pre.length : Int) pl 116 (pre.length : Int) = pl := upd_at _ _ _ _
    have np : Unit → oadd (pl - 1) 1 = pl := fun _ => by rw [n_add (by omega)]; omega
    have nm : Unit → oadd (pre.length : Int) (-1) = (pre.length : Int) - 1 := fun _ => n_add (by omega)
    rcases lf with ⟨z, e⟩ | ⟨z, e⟩
    · have zl : ¬ 0 ≤ (pre.length : Int) - 1 := by omega
      refine ⟨x6, updM υ 116 (pre.length : Int) pl, ?_, hb', hs', hbb'⟩
      rw [e]
      refine lp_go ?_
      simp only [nwC, nwB, nwU, ev_op, ev_op2, ev_op1, ev_dv, ev_dv2, ev_dv1, ev_un, ev_un1, ev_lit, ev_l0, ev_l1, ev_l2, ev_l3, ev_l4, ev_l5, ev_l6, ev_l7, ev_l8, ev_l9, ev_l10, ev_l11, ev_rf, ev_gi, ev_gi1, ev_gi2, ev_gr, ev_gr1, ev_at0, ev_at, ev_al, ev_al2, ev_al1, ev_an, ev_an1, ev_vs0, ev_vs, ev_vs2, ev_vs1, ev_ca, ev_ca1, ev_cv, ev_cv1, ev_cv2, ev_if, ev_if1, ev_cmp, ev_cmp2, ev_cmp1, ev_not, ev_not1, ev_and, ev_and1, ev_or, ev_or1, ev_e, ev_e1, ev_cif, ev_cif1, ev_qlt, ev_qle, ev_qgt, ev_qge, ev_qeq, ev_qne, ev_skip, ev_brk, ev_cnt, ev_retv, ev_seq, ev_seq0, ev_seq1, ev_seq2, ev_seq3, ev_seqi, ev_sif, ev_sif1, ev_ret, ev_ret1, ev_retz, ev_retzb, ev_retzc, ev_retz1, ev_retc, ev_asg, ev_s0, ev_s1, ev_s2, ev_s3, ev_s4, ev_s5, ev_s6, ev_s7, ev_s8, ev_s9, ev_s10, ev_s11, ev_exp, ev_exp1, ev_pf, ev_pf2, ev_pf1, ev_pz, ev_pz2, ev_pz1, ev_of, ev_of2, ev_of1, ev_st, ev_as, ev_as3, ev_as2, ev_as1, ev_oa, ev_oa3, ev_oa2, ev_oa1, ev_oa0, ev_cp, ev_cp3, ev_cp2, ev_cp1, ev_sw, ev_sw1, ev_swb0, ev_swb1, ev_swb3, ev_swbi, ev_fin3, ev_fin0, ev_fini, ev_iv, ev_ic, ev_b1, ev_b2, ev_b3, ev_b4, ev_b5, ev_b6, ev_or12, ev_lp, ev_lc, ev_lb0, ev_lb1, ev_lb2, ev_lb3, ev_lbi, ev_lu, ev_ass, Int.reduceAdd, Int.reduceSub, Int.reduceMul, Int.reduceNeg, Int.reduceLT, Int.reduceLE, Int.reduceGT, Int.reduceGE, Int.reduceEq, Int.reduceNe, Int.reduceDiv, Int.reduceMod, Int.reduceToNat, Nat.reduceAdd, Nat.reduceMul, Nat.reduceSub, Nat.reduceLT, Nat.reduceEqDiff, Int.reduceNatCast', reduceIte, ite_true, ite_false, if_true, if_false, decide_eq_true_eq, decide_true, decide_false, decide_not, Bool.not_eq_true', decide_eq_false_iff_not, Bool.not_not, Bool.and_eq_true, Bool.or_eq_true, Bool.not_true, Bool.not_false, not_true_eq_false, not_false_eq_true, true_and, and_true, false_and, and_false, true_or, or_true, false_or, or_false, Bool.true_and, Bool.and_true, Bool.false_and, Bool.and_false, Bool.true_or, Bool.or_true, Bool.or_false, Bool.false_or, Bool.not_eq_false', Bool.true_eq_false, Bool.false_eq_true, eq_self, Classical.not_not, ite_not, ne_eq, Option.some.injEq, Prod.mk.injEq, L_87, L_88, L_116, k0, b1, kn, r6, np (), gk, e88, q1, nm (), zl]
    · have r6' : 0 ≤ (pre.length : Int) - 1 ∧ (pre.length : Int) - 1 < 6 := by omega
      refine ⟨x6, updM υ 116 (pre.length : Int) pl, ?_, hb', hs', hbb'⟩
      refine lp_go ?_
      simp only [nwC, nwB, nwU, ev_op, ev_op2, ev_op1, ev_dv, ev_dv2, ev_dv1, ev_un, ev_un1, ev_lit, ev_l0, ev_l1, ev_l2, ev_l3, ev_l4, ev_l5, ev_l6, ev_l7, ev_l8, ev_l9, ev_l10, ev_l11, ev_rf, ev_gi, ev_gi1, ev_gi2, ev_gr, ev_gr1, ev_at0, ev_at, ev_al, ev_al2, ev_al1, ev_an, ev_an1, ev_vs0, ev_vs, ev_vs2, ev_vs1, ev_ca, ev_ca1, ev_cv, ev_cv1, ev_cv2, ev_if, ev_if1, ev_cmp, ev_cmp2, ev_cmp1, ev_not, ev_not1, ev_and, ev_and1, ev_or, ev_or1, ev_e, ev_e1, ev_cif, ev_cif1, ev_qlt, ev_qle, ev_qgt, ev_qge, ev_qeq, ev_qne, ev_skip, ev_brk, ev_cnt, ev_retv, ev_seq, ev_seq0, ev_seq1, ev_seq2, ev_seq3, ev_seqi, ev_sif, ev_sif1, ev_ret, ev_ret1, ev_retz, ev_retzb, ev_retzc, ev_retz1, ev_retc, ev_asg, ev_s0, ev_s1, ev_s2, ev_s3, ev_s4, ev_s5, ev_s6, ev_s7, ev_s8, ev_s9, ev_s10, ev_s11, ev_exp, ev_exp1, ev_pf, ev_pf2, ev_pf1, ev_pz, ev_pz2, ev_pz1, ev_of, ev_of2, ev_of1, ev_st, ev_as, ev_as3, ev_as2, ev_as1, ev_oa, ev_oa3, ev_oa2, ev_oa1, ev_oa0, ev_cp, ev_cp3, ev_cp2, ev_cp1, ev_sw, ev_sw1, ev_swb0, ev_swb1, ev_swb3, ev_swbi, ev_fin3, ev_fin0, ev_fini, ev_iv, ev_ic, ev_b1, ev_b2, ev_b3, ev_b4, ev_b5, ev_b6, ev_or12, ev_lp, ev_lc, ev_lb0, ev_lb1, ev_lb2, ev_lb3, ev_lbi, ev_lu, ev_ass, Int.reduceAdd, Int.reduceSub, Int.reduceMul, Int.reduceNeg, Int.reduceLT, Int.reduceLE, Int.reduceGT, Int.reduceGE, Int.reduceEq, Int.reduceNe, Int.reduceDiv, Int.reduceMod, Int.reduceToNat, Nat.reduceAdd, Nat.reduceMul, Nat.reduceSub, Nat.reduceLT, Nat.reduceEqDiff, Int.reduceNatCast', reduceIte, ite_true, ite_false, if_true, if_false, decide_eq_true_eq, decide_true, decide_false, decide_not, Bool.not_eq_true', decide_eq_false_iff_not, Bool.not_not, Bool.and_eq_true, Bool.or_eq_true, Bool.not_true, Bool.not_false, not_true_eq_false, not_false_eq_true, true_and, and_true, false_and, and_false, true_or, or_true, false_or, or_false, Bool.true_and, Bool.and_true, Bool.false_and, Bool.and_false, Bool.true_or, Bool.or_true, Bool.or_false, Bool.false_or, Bool.not_eq_false', Bool.true_eq_false, Bool.false_eq_true, eq_self, Classical.not_not, ite_not, ne_eq, Option.some.injEq, Prod.mk.injEq, L_87, L_88, L_116, k0, b1, kn, r6, np (), gk, e88, q1, nm (), z, r6', e]
  | succ r ih =>
    intro pre pl b hl hq p0 hr υ x6 hb hs hbb
    obtain ⟨fr, b1, b2, b3⟩ := hb
    have k0 : 0 ≤ (pre.length : Int) := by omega
    have kn : ¬ (pre.length : Int) = (l.length : Int) := by omega
    have r6 : 0 ≤ (pre.length : Int) ∧ (pre.length : Int) < 6 := by omega
    have e88 : ∀ v, updM υ 116 (pre.length : Int) v 88 1 = σ 88 1 := fun v => by rw [upd_ne _ (by decide), fr 88 1 (by decide)]
    have hpl : 0 ≤ pl ∧ pl < σ 88 1 := by omega
    have q1 : ¬ σ 88 1 ≤ pl := by omega
    have hpn : pre.length < l.length := by omega
    have fa : ∀ k i : Int, ¬ (k = 116 ∧ i = (pre.length : Int)) → updM υ 116 (pre.length : Int) pl k i = υ k i := fun k i hk => upd_no hk
    have hs' : mSN σ c m l pre (updM υ 116 (pre.length : Int) pl) := ⟨fun j hj => by rw [fa 116 _ (by omega)]; exact hs.1 j hj, fun j hj => by rw [fa 119 _ (by omega), fa 120 _ (by omega)]; exact hs.2 j hj⟩
    have hb' : bsN σ c x m l (updM υ 116 (pre.length : Int) pl) := ⟨fun k i hk => by rw [fa k i (by omega), fr k i hk], by rw [fa 87 42 (by omega)]; exact b1, fun j hj => by rw [fa 115 _ (by omega)]; exact b2 j hj, fun pl p0 p1 => by rw [fa 118 _ (by omega), fa 121 _ (by omega)]; exact b3 pl p0 p1⟩
    have hbb' : mbN l.length b (updM υ 116 (pre.length : Int) pl) := hbb.congr (fa _ _ (by omega)) (fa _ _ (by omega)) fun i => fa _ _ (by omega)
    have gk : updM υ 116 (pre.length : Int) pl 116 (pre.length : Int) = pl := upd_at _ _ _ _
    obtain ⟨w, υ1, g1, g2, g3, g4, g5⟩ := s12_isGood_ h hc hm l6 lm hb' hpn hq hs' hbb' hpl gk
    have fb : ∀ k i : Int, ¬ ((k = 116 ∧ i = (pre.length : Int)) ∨ ((k = 119 ∨ k = 120) ∧ i = (pre.length : Int) + 1)) → υ1 k i = υ k i := fun k i hk => by rw [g3 k i (by omega), fa k i (by omega)]
    have g116 : υ1 116 (pre.length : Int) = pl := by rw [g3 116 _ (by omega), gk]
    have hs1 : mSN σ c m l pre υ1 := ⟨fun j hj => by rw [fb 116 _ (by omega)]; exact hs.1 j hj, fun j hj => by rw [fb 119 _ (by omega), fb 120 _ (by omega)]; exact hs.2 j hj⟩
    have hb1 : bsN σ c x m l υ1 := ⟨fun k i hk => by rw [fb k i (by omega), fr k i hk], by rw [fb 87 42 (by omega)]; exact b1, fun j hj => by rw [fb 115 _ (by omega)]; exact b2 j hj, fun pl p0 p1 => by rw [fb 118 _ (by omega), fb 121 _ (by omega)]; exact b3 pl p0 p1⟩
    have hbb1 : mbN l.length b υ1 := hbb.congr (fb _ _ (by omega)) (fb _ _ (by omega)) fun i => fb _ _ (by omega)
    have np : Unit → oadd (pl - 1) 1 = pl := fun _ => by rw [n_add (by omega)]; omega
    have nk := fun _ : Unit => n_add (show -2147483648 ≤ (pre.length : Int) + 1 ∧ (pre.length : Int) + 1 < 2147483648 by omega)
    have la : (pre ++ [pl]).length = pre.length + 1 := by rw [List.length_append, List.length_singleton]
    have hqA : ∀ q ∈ pre ++ [pl], 0 ≤ q ∧ q < 8 := fun q hq' => by
      rcases List.mem_append.mp hq' with e | e
      · exact hq q e
      · rw [List.mem_singleton] at e
        omega
    have pe : pl = pl + 1 - 1 := by omega
    rcases g2 with ⟨rfl, y1, y2⟩ | ⟨rfl, y1⟩
    · have st : xs_lp nwC nwB nwU [some 87, some c, some x, some m, some (pre.length : Int), some (pl - 1), x6] υ = xs_lp nwC nwB nwU [some 87, some c, some x, some m, some ((pre.length : Int) + 1), some (-1), x6] υ1 := by
        refine lp_go ?_
        simp only [nwC, nwB, nwU, ev_op, ev_op2, ev_op1, ev_dv, ev_dv2, ev_dv1, ev_un, ev_un1, ev_lit, ev_l0, ev_l1, ev_l2, ev_l3, ev_l4, ev_l5, ev_l6, ev_l7, ev_l8, ev_l9, ev_l10, ev_l11, ev_rf, ev_gi, ev_gi1, ev_gi2, ev_gr, ev_gr1, ev_at0, ev_at, ev_al, ev_al2, ev_al1, ev_an, ev_an1, ev_vs0, ev_vs, ev_vs2, ev_vs1, ev_ca, ev_ca1, ev_cv, ev_cv1, ev_cv2, ev_if, ev_if1, ev_cmp, ev_cmp2, ev_cmp1, ev_not, ev_not1, ev_and, ev_and1, ev_or, ev_or1, ev_e, ev_e1, ev_cif, ev_cif1, ev_qlt, ev_qle, ev_qgt, ev_qge, ev_qeq, ev_qne, ev_skip, ev_brk, ev_cnt, ev_retv, ev_seq, ev_seq0, ev_seq1, ev_seq2, ev_seq3, ev_seqi, ev_sif, ev_sif1, ev_ret, ev_ret1, ev_retz, ev_retzb, ev_retzc, ev_retz1, ev_retc, ev_asg, ev_s0, ev_s1, ev_s2, ev_s3, ev_s4, ev_s5, ev_s6, ev_s7, ev_s8, ev_s9, ev_s10, ev_s11, ev_exp, ev_exp1, ev_pf, ev_pf2, ev_pf1, ev_pz, ev_pz2, ev_pz1, ev_of, ev_of2, ev_of1, ev_st, ev_as, ev_as3, ev_as2, ev_as1, ev_oa, ev_oa3, ev_oa2, ev_oa1, ev_oa0, ev_cp, ev_cp3, ev_cp2, ev_cp1, ev_sw, ev_sw1, ev_swb0, ev_swb1, ev_swb3, ev_swbi, ev_fin3, ev_fin0, ev_fini, ev_iv, ev_ic, ev_b1, ev_b2, ev_b3, ev_b4, ev_b5, ev_b6, ev_or12, ev_lp, ev_lc, ev_lb0, ev_lb1, ev_lb2, ev_lb3, ev_lbi, ev_lu, ev_ass, Int.reduceAdd, Int.reduceSub, Int.reduceMul, Int.reduceNeg, Int.reduceLT, Int.reduceLE, Int.reduceGT, Int.reduceGE, Int.reduceEq, Int.reduceNe, Int.reduceDiv, Int.reduceMod, Int.reduceToNat, Nat.reduceAdd, Nat.reduceMul, Nat.reduceSub, Nat.reduceLT, Nat.reduceEqDiff, Int.reduceNatCast', reduceIte, ite_true, ite_false, if_true, if_false, decide_eq_true_eq, decide_true, decide_false, decide_not, Bool.not_eq_true', decide_eq_false_iff_not, Bool.not_not, Bool.and_eq_true, Bool.or_eq_true, Bool.not_true, Bool.not_false, not_true_eq_false, not_false_eq_true, true_and, and_true, false_and, and_false, true_or, or_true, false_or, or_false, Bool.true_and, Bool.and_true, Bool.false_and, Bool.and_false, Bool.true_or, Bool.or_true, Bool.or_false, Bool.false_or, Bool.not_eq_false', Bool.true_eq_false, Bool.false_eq_true, eq_self, Classical.not_not, ite_not, ne_eq, Option.some.injEq, Prod.mk.injEq, L_87, L_88, L_116, k0, b1, kn, r6, np (), gk, e88, q1, g1, nk ()]
      have hsA : mSN σ c m l (pre ++ [pl]) υ1 := by
        refine ⟨fun j hj => ?_, fun j hj => ?_⟩
        · rw [getD_ap0]
          by_cases z : j = pre.length
          · rw [if_pos z, z, g116]
          · rw [if_neg z]
            exact hs1.1 j (by omega)
        · by_cases z : j = pre.length + 1
          · rw [z, show ((pre.length + 1 : Nat) : Int) = (pre.length : Int) + 1 by omega]
            exact ⟨g4, g5⟩
          · rw [pAN_app _ _ _ _ (by omega), pDN_app _ _ _ _ _ (by omega)]
            exact hs1.2 j (by omega)
      obtain ⟨z6, υ2, d1, d2, d3, d4⟩ := ent (pre ++ [pl]) b (by omega) hqA y2 υ1 x6 hb1 hsA hbb1
      rw [la, show ((pre.length + 1 : Nat) : Int) = (pre.length : Int) + 1 by omega, show (pre.length : Int) + 1 - 1 = (pre.length : Int) by omega] at d1
      have el : lastN (pre ++ [pl]) = pl := by
        unfold lastN
        rw [la, if_neg (by omega), show pre.length + 1 - 1 = pre.length by omega, getD_ap0, if_pos rfl]
      rw [el] at d1
      rw [LN_app] at d4
      have hs2 : mSN σ c m l pre υ2 := by
        refine ⟨fun j hj => ?_, fun j hj => ?_⟩
        · rw [d3.1 j (by omega), getD_ap0, if_neg (by omega)]
        · have := d3.2 j (by omega)
          rw [pAN_app _ _ _ _ (by omega), pDN_app _ _ _ _ _ (by omega)] at this
          exact this
      obtain ⟨z7, υ3, e1, e2, e3, e4⟩ := ih pre (pl + 1) _ hl hq (by omega) (by omega) υ2 z6 d2 hs2 d4
      rw [← pe] at e1
      refine ⟨z7, υ3, (st.trans d1).trans e1, e2, e3, ?_⟩
      rw [gN, if_pos y1]
      exact e4
    · have st : xs_lp nwC nwB nwU [some 87, some c, some x, some m, some (pre.length : Int), some (pl - 1), x6] υ = xs_lp nwC nwB nwU [some 87, some c, some x, some m, some (pre.length : Int), some pl, x6] υ1 := by
        refine lp_go ?_
        simp only [nwC, nwB, nwU, ev_op, ev_op2, ev_op1, ev_dv, ev_dv2, ev_dv1, ev_un, ev_un1, ev_lit, ev_l0, ev_l1, ev_l2, ev_l3, ev_l4, ev_l5, ev_l6, ev_l7, ev_l8, ev_l9, ev_l10, ev_l11, ev_rf, ev_gi, ev_gi1, ev_gi2, ev_gr, ev_gr1, ev_at0, ev_at, ev_al, ev_al2, ev_al1, ev_an, ev_an1, ev_vs0, ev_vs, ev_vs2, ev_vs1, ev_ca, ev_ca1, ev_cv, ev_cv1, ev_cv2, ev_if, ev_if1, ev_cmp, ev_cmp2, ev_cmp1, ev_not, ev_not1, ev_and, ev_and1, ev_or, ev_or1, ev_e, ev_e1, ev_cif, ev_cif1, ev_qlt, ev_qle, ev_qgt, ev_qge, ev_qeq, ev_qne, ev_skip, ev_brk, ev_cnt, ev_retv, ev_seq, ev_seq0, ev_seq1, ev_seq2, ev_seq3, ev_seqi, ev_sif, ev_sif1, ev_ret, ev_ret1, ev_retz, ev_retzb, ev_retzc, ev_retz1, ev_retc, ev_asg, ev_s0, ev_s1, ev_s2, ev_s3, ev_s4, ev_s5, ev_s6, ev_s7, ev_s8, ev_s9, ev_s10, ev_s11, ev_exp, ev_exp1, ev_pf, ev_pf2, ev_pf1, ev_pz, ev_pz2, ev_pz1, ev_of, ev_of2, ev_of1, ev_st, ev_as, ev_as3, ev_as2, ev_as1, ev_oa, ev_oa3, ev_oa2, ev_oa1, ev_oa0, ev_cp, ev_cp3, ev_cp2, ev_cp1, ev_sw, ev_sw1, ev_swb0, ev_swb1, ev_swb3, ev_swbi, ev_fin3, ev_fin0, ev_fini, ev_iv, ev_ic, ev_b1, ev_b2, ev_b3, ev_b4, ev_b5, ev_b6, ev_or12, ev_lp, ev_lc, ev_lb0, ev_lb1, ev_lb2, ev_lb3, ev_lbi, ev_lu, ev_ass, Int.reduceAdd, Int.reduceSub, Int.reduceMul, Int.reduceNeg, Int.reduceLT, Int.reduceLE, Int.reduceGT, Int.reduceGE, Int.reduceEq, Int.reduceNe, Int.reduceDiv, Int.reduceMod, Int.reduceToNat, Nat.reduceAdd, Nat.reduceMul, Nat.reduceSub, Nat.reduceLT, Nat.reduceEqDiff, Int.reduceNatCast', reduceIte, ite_true, ite_false, if_true, if_false, decide_eq_true_eq, decide_true, decide_false, decide_not, Bool.not_eq_true', decide_eq_false_iff_not, Bool.not_not, Bool.and_eq_true, Bool.or_eq_true, Bool.not_true, Bool.not_false, not_true_eq_false, not_false_eq_true, true_and, and_true, false_and, and_false, true_or, or_true, false_or, or_false, Bool.true_and, Bool.and_true, Bool.false_and, Bool.and_false, Bool.true_or, Bool.or_true, Bool.or_false, Bool.false_or, Bool.not_eq_false', Bool.true_eq_false, Bool.false_eq_true, eq_self, Classical.not_not, ite_not, ne_eq, Option.some.injEq, Prod.mk.injEq, L_87, L_88, L_116, k0, b1, kn, r6, np (), gk, e88, q1, g1]
      obtain ⟨z7, υ3, e1, e2, e3, e4⟩ := ih pre (pl + 1) b hl hq (by omega) (by omega) υ1 x6 hb1 hs1 hbb1
      rw [← pe] at e1
      refine ⟨z7, υ3, st.trans e1, e2, e3, ?_⟩
      rw [gN]
      have same : (if cnN pre pl < rmN σ c x m pl then nF (rmN σ c x m) (coN σ c m l) mm (pre ++ [pl]) (LN σ c m l pre + coN σ c m l pre.length pl) b else b) = b := by
        by_cases z : cnN pre pl < rmN σ c x m pl
        · rw [if_pos z]
          obtain ⟨d, rfl, hd⟩ := y1 z
          rw [LN_app] at hd
          refine nF_lb (rs := fun _ => 0) (n := l.length) (fun i q hi q0 q1 hr' => ?_) rfl mm _ _ d (by omega) (by show d.1 ≤ _ + 0; omega)
          have := coN_bd h hc (pl := q) (m := m) ⟨q0, q1⟩ hm.1 l i
          show (0 : Int) ≤ _ + 0
          omega
        · rw [if_neg z]
      rw [same]
      exact e4
theorem nt_en {σ : cvM} (h : WR σ) {c x m : Int} {l : List Int} (l6 : l.length ≤ 6) (lm : ∀ j : Nat, j < l.length → 0 ≤ l.getD j 0 ∧ l.getD j 0 < σ 88 2) (hc : 0 ≤ c ∧ c < 8) (hm : 0 ≤ m ∧ m ≤ 1439) : ∀ mm : Nat, entS σ c x m l mm := by
  have c3 := cnt_3 h
  intro mm
  induction mm with
  | zero => exact nt_0 h l6 hc hm.1
  | succ mm ihm =>
    intro pre b hl hq hw υ x6 hb hs hbb
    obtain ⟨z7, υ3, e1, e2, e3, e4⟩ := nt_in h l6 lm hc hm ihm (σ 88 1).toNat pre 0 b hl hq (Int.le_refl 0) (by omega) υ x6 hb hs hbb
    refine ⟨z7, υ3, e1, e2, e3, ?_⟩
    rw [nF]
    have g := gN_it (fun pl b => if cnN pre pl < rmN σ c x m pl then nF (rmN σ c x m) (coN σ c m l) mm (pre ++ [pl]) (LN σ c m l pre + coN σ c m l pre.length pl) b else b) b (σ 88 1).toNat 0 (Int.le_refl 0)
    rw [itI_0] at g
    rw [g, show (0 : Int) + ((σ 88 1).toNat : Int) = σ 88 1 by omega] at e4
    have mo := itI_over (f := fun pl b => if cnN pre pl < rmN σ c x m pl then nF (rmN σ c x m) (coN σ c m l) mm (pre ++ [pl]) (LN σ c m l pre + coN σ c m l pre.length pl) b else b) (b := b) c3.2.1 (8 - σ 88 1).toNat fun i bb i0 i1 => by
      have rz : rmN σ c x m i = 0 := if_neg fun y => by omega
      have := cnN_nn pre i
      show (if cnN pre i < rmN σ c x m i then nF (rmN σ c x m) (coN σ c m l) mm (pre ++ [i]) (LN σ c m l pre + coN σ c m l pre.length i) bb else bb) = bb
      rw [rz, if_neg (by omega)]
    rw [show σ 88 1 + ((8 - σ 88 1).toNat : Int) = 8 by omega] at mo
    rw [mo]
    exact e4
