/-! ===== read: the reference's lines ===== -/
theorem by_ch (T : Int → Int) (N q : Int) (x1 x2 : Sum Int Int) (y3 : Sum Int (Int × Int)) (x3 x4 : Sum Int Int) (y5 : Sum Int (Int × Int)) (x5 x6 : Sum Int Int) (y7 : Sum Int (Int × Int)) (x7 x8 : Sum Int Int) (h1 : x1 = sndS (cauA T N 0 q)) (h2 : x2 = bndS x1 (pasA T N 6)) (h3 : y3 = bndS x2 (numA T N 0)) (h3' : x3 = sndS y3) (h4 : x4 = bndS x3 (pasA T N 7)) (h5 : y5 = bndS x4 (numA T N 0)) (h5' : x5 = sndS y5) (h6 : x6 = bndS x5 (pasA T N 8)) (h7 : y7 = bndS x6 (numA T N 1)) (h7' : x7 = sndS y7) (h8 : x8 = bndS x7 (pasA T N 12)) : match byA T N q with
    | .inl f => x8 = .inl f
    | .inr r => x8 = .inr r.2 ∧ ∃ c o p e, cauA T N 0 q = .inr c ∧ y3 = .inr o ∧ y5 = .inr p ∧ y7 = .inr e ∧ r.1 = [0, c.1, o.1, p.1, e.1] := by
  subst h1 h2 h3 h3' h4 h5 h5' h6 h7 h7' h8
  unfold byA
  cases e1 : cauA T N 0 q with
  | inl f => simp only [bndS, sndS]
  | inr c =>
    cases e2 : pasA T N 6 c.2 with
    | inl f => simp only [bndS, sndS, e2]
    | inr q2 =>
      cases e3 : numA T N 0 q2 with
      | inl f => simp only [bndS, sndS, e2, e3]
      | inr o =>
        cases e4 : pasA T N 7 o.2 with
        | inl f => simp only [bndS, sndS, e2, e3, e4]
        | inr q4 =>
          cases e5 : numA T N 0 q4 with
          | inl f => simp only [bndS, sndS, e2, e3, e4, e5]
          | inr p =>
            cases e6 : pasA T N 8 p.2 with
            | inl f => simp only [bndS, sndS, e2, e3, e4, e5, e6]
            | inr q6 =>
              cases e7 : numA T N 1 q6 with
              | inl f => simp only [bndS, sndS, e2, e3, e4, e5, e6, e7]
              | inr e =>
                cases e8 : pasA T N 12 e.2 with
                | inl f => simp only [bndS, sndS, e2, e3, e4, e5, e6, e7, e8]
                | inr q8 =>
                  simp only [bndS, sndS, e2, e3, e4, e5, e6, e7, e8]
                  exact ⟨trivial, c, o, p, e, rfl, rfl, rfl, rfl, rfl⟩
theorem fr_ch (T : Int → Int) (N s q : Int) (y3 : Sum Int (Int × Int)) (x3 x8 : Sum Int Int) (h3 : y3 = numA T N 0 q) (h3' : x3 = sndS y3) (h8 : x8 = bndS x3 (pasA T N 12)) : match frA T N s q with
    | .inl f => x8 = .inl f
    | .inr r => x8 = .inr r.2 ∧ ∃ o, y3 = .inr o ∧ r.1 = [s, 0, o.1, -9, -9] := by
  subst h3 h3' h8
  unfold frA
  cases e3 : numA T N 0 q with
  | inl f => simp only [bndS, sndS]
  | inr o =>
    cases e8 : pasA T N 12 o.2 with
    | inl f => simp only [bndS, sndS, e8]
    | inr q8 =>
      simp only [bndS, sndS, e8]
      exact ⟨trivial, o, rfl, rfl⟩
def frMf (n : Int) (σ τ : cvM) : Prop := ∀ a b : Int, ¬ ((a = 87 ∧ 30 ≤ b ∧ b ≤ 34) ∨ (a = 112 ∧ 5 * n ≤ b)) → τ a b = σ a b
theorem s12_wantLine {T : Int → Int} {N : Int} {υ : cvM} {q : Int} (h : mG T N υ q) {n : Int} (hn : 0 ≤ n ∧ n ≤ 8) : ∃ υ', f12_wantLine [87, n] υ = some (0, υ') ∧ frMf n υ υ' ∧ (n = 8 → stM T N υ' (.inl q)) ∧ (n < 8 → match lineA T N q with
    | .inl f => stM T N υ' (.inl f)
    | .inr c => stM T N υ' (.inr c.2) ∧ ∀ j : Int, 0 ≤ j → j < 5 → υ' 112 (5 * n + j) = c.1.getD j.toNat 0) := by
  have y := fun w hw => word_y h (w := w) hw
  have no := fun w hw => word_n h (w := w) hw
  have iw5 : f12_isWord [87, 79] υ = some (if tkC T N q = 5 then 1 else 0, υ) := by
    by_cases z : tkC T N q = 5
    · rw [if_pos z]; exact y 5 (by decide) z
    · rw [if_neg z]; exact no 5 (by decide) z
  have iw9 : f12_isWord [87, 131360] υ = some (if tkC T N q = 9 then 1 else 0, υ) := by
    by_cases z : tkC T N q = 9
    · rw [if_pos z]; exact y 9 (by decide) z
    · rw [if_neg z]; exact no 9 (by decide) z
  have iw10 : f12_isWord [87, 267347] υ = some (if tkC T N q = 10 then 1 else 0, υ) := by
    by_cases z : tkC T N q = 10
    · rw [if_pos z]; exact y 10 (by decide) z
    · rw [if_neg z]; exact no 10 (by decide) z
  clear y no
  obtain ⟨w1, w2⟩ := wrong_st h
  have w := wrong_s h
  have m5 := fun _ : Unit => n_mul (show -2147483648 ≤ 5 * n ∧ 5 * n < 2147483648 by omega)
  have a1 := fun _ : Unit => n_add (show -2147483648 ≤ 5 * n + 1 ∧ 5 * n + 1 < 2147483648 by omega)
  have a2 := fun _ : Unit => n_add (show -2147483648 ≤ 5 * n + 2 ∧ 5 * n + 2 < 2147483648 by omega)
  have a3 := fun _ : Unit => n_add (show -2147483648 ≤ 5 * n + 3 ∧ 5 * n + 3 < 2147483648 by omega)
  have a4 := fun _ : Unit => n_add (show -2147483648 ≤ 5 * n + 4 ∧ 5 * n + 4 < 2147483648 by omega)
  obtain ⟨υ1, b1, b2, b3⟩ := adv_s h
  have semi := tk_semi T N
  have word := fun (w : Nat) (hw : w < 12) => fun q => tk_word T N q hw
  have wk6 : ∀ q, (kdT T N q = 1 ∧ vlT T N q = 311436) ↔ tkC T N q = 6 := word 6 (by decide)
  have wk7 : ∀ q, (kdT T N q = 1 ∧ vlT T N q = 316351) ↔ tkC T N q = 7 := word 7 (by decide)
  have wk8 : ∀ q, (kdT T N q = 1 ∧ vlT T N q = 99233) ↔ tkC T N q = 8 := word 8 (by decide)
  clear word
  have free : ∀ s : Int, n < 8 → ∃ v υ4 υ5, f12_wantNumber [87, 0] (updM (updM υ1 112 (5 * n) s) 112 (5 * n + 1) 0) = some (v, υ4) ∧ f12_want [87, 3, 59] (updM (updM (updM υ4 112 (5 * n + 2) v) 112 (5 * n + 3) (-9)) 112 (5 * n + 4) (-9)) = some (0, υ5) ∧ frMf n υ υ5 ∧ (match frA T N s (nxT T N q) with
    | .inl f => stM T N υ5 (.inl f)
    | .inr c => stM T N υ5 (.inr c.2) ∧ ∀ j : Int, 0 ≤ j → j < 5 → υ5 112 (5 * n + j) = c.1.getD j.toNat 0) := fun s _ => by
    clear m5 a1 a2 a3 a4
    have s1 : stM T N (updM (updM υ1 112 (5 * n) s) 112 (5 * n + 1) 0) (.inr (nxT T N q)) := stM.fr (υ := υ1) b3 fun a b hk => by rw [upd_no (by omega), upd_no (by omega)]
    obtain ⟨v, υ4, c1, c2, c3, c4⟩ := s12_wantNumber s1 (l := 0) (by decide)
    have c4 : ∀ o, numA T N 0 (nxT T N q) = .inr o → v = o.1 := c4
    have c3 : stM T N υ4 (sndS (numA T N 0 (nxT T N q))) := c3
    have s4 : stM T N (updM (updM (updM υ4 112 (5 * n + 2) v) 112 (5 * n + 3) (-9)) 112 (5 * n + 4) (-9)) _ := c3.fr fun a b hk => by rw [upd_no (by omega), upd_no (by omega), upd_no (by omega)]
    obtain ⟨υ5, d1, d2, d3⟩ := s12_want s4 semi
    have ch := fr_ch T N s (nxT T N q) _ _ _ rfl rfl rfl
    refine ⟨v, υ4, υ5, c1, d1, fun a b hk => ?_, ?_⟩
    · rw [d2 a b (by omega), upd_no (by omega), upd_no (by omega), upd_no (by omega), c2 a b (by omega), upd_no (by omega), upd_no (by omega), b2 a b (by omega)]
    · cases e : frA T N s (nxT T N q) with
      | inl f =>
        rw [e] at ch
        have ch : bndS (sndS (numA T N 0 (nxT T N q))) (pasA T N 12) = .inl f := ch
        rw [ch] at d3
        exact d3
      | inr c =>
        rw [e] at ch
        obtain ⟨ch, o, y3, row⟩ := ch
        rw [ch] at d3
        refine ⟨d3, fun j j0 j1 => ?_⟩
        have vo := c4 o y3
        rw [row, d2 112 _ (by omega)]
        have : j = 0 ∨ j = 1 ∨ j = 2 ∨ j = 3 ∨ j = 4 := by omega
        rcases this with rfl | rfl | rfl | rfl | rfl
        · rw [upd_no (by omega), upd_no (by omega), upd_no (by omega), c2 112 _ (by omega), upd_no (by omega), Int.add_zero, upd_at]; rfl
        · rw [upd_no (by omega), upd_no (by omega), upd_no (by omega), c2 112 _ (by omega), upd_at]; rfl
        · rw [upd_no (by omega), upd_no (by omega), upd_at, vo]; rfl
        · rw [upd_no (by omega), upd_at]; rfl
        · rw [upd_at]; rfl
  by_cases n8 : n = 8
  · have n8t := eq_true n8
    refine ⟨updM υ 87 34 q, ?_, fun a b hk => w1 a b (by omega), fun _ => w2, fun y => by omega⟩
    by_cases z5 : tkC T N q = 5
    · rw [if_pos z5] at iw5
      simp only [u12_wantLine, b12_wantLine, ev_op, ev_op2, ev_op1, ev_dv, ev_dv2, ev_dv1, ev_un, ev_un1, ev_lit, ev_l0, ev_l1, ev_l2, ev_l3, ev_l4, ev_l5, ev_l6, ev_l7, ev_l8, ev_l9, ev_l10, ev_l11, ev_rf, ev_gi, ev_gi1, ev_gi2, ev_gr, ev_gr1, ev_at0, ev_at, ev_al, ev_al2, ev_al1, ev_an, ev_an1, ev_vs0, ev_vs, ev_vs2, ev_vs1, ev_ca, ev_ca1, ev_cv, ev_cv1, ev_cv2, ev_if, ev_if1, ev_cmp, ev_cmp2, ev_cmp1, ev_not, ev_not1, ev_and, ev_and1, ev_or, ev_or1, ev_e, ev_e1, ev_cif, ev_cif1, ev_qlt, ev_qle, ev_qgt, ev_qge, ev_qeq, ev_qne, ev_skip, ev_brk, ev_cnt, ev_retv, ev_seq, ev_seq0, ev_seq1, ev_seq2, ev_seq3, ev_seqi, ev_sif, ev_sif1, ev_ret, ev_ret1, ev_retz, ev_retzb, ev_retzc, ev_retz1, ev_retc, ev_asg, ev_s0, ev_s1, ev_s2, ev_s3, ev_s4, ev_s5, ev_s6, ev_s7, ev_s8, ev_s9, ev_s10, ev_s11, ev_exp, ev_exp1, ev_pf, ev_pf2, ev_pf1, ev_pz, ev_pz2, ev_pz1, ev_of, ev_of2, ev_of1, ev_st, ev_as, ev_as3, ev_as2, ev_as1, ev_oa, ev_oa3, ev_oa2, ev_oa1, ev_oa0, ev_cp, ev_cp3, ev_cp2, ev_cp1, ev_sw, ev_sw1, ev_swb0, ev_swb1, ev_swb3, ev_swbi, ev_fin3, ev_fin0, ev_fini, ev_iv, ev_ic, ev_b1, ev_b2, ev_b3, ev_b4, ev_b5, ev_b6, ev_or12, ev_lp, ev_lc, ev_lb0, ev_lb1, ev_lb2, ev_lb3, ev_lbi, ev_lu, ev_ass, Int.reduceAdd, Int.reduceSub, Int.reduceMul, Int.reduceNeg, Int.reduceLT, Int.reduceLE, Int.reduceGT, Int.reduceGE, Int.reduceEq, Int.reduceNe, Int.reduceDiv, Int.reduceMod, Int.reduceToNat, Nat.reduceAdd, Nat.reduceMul, Nat.reduceSub, Nat.reduceLT, Nat.reduceEqDiff, Int.reduceNatCast', reduceIte, ite_true, ite_false, if_true, if_false, decide_eq_true_eq, decide_true, decide_false, decide_not, Bool.not_eq_true', decide_eq_false_iff_not, Bool.not_not, Bool.and_eq_true, Bool.or_eq_true, Bool.not_true, Bool.not_false, not_true_eq_false, not_false_eq_true, true_and, and_true, false_and, and_false, true_or, or_true, false_or, or_false, Bool.true_and, Bool.and_true, Bool.false_and, Bool.and_false, Bool.true_or, Bool.or_true, Bool.or_false, Bool.false_or, Bool.not_eq_false', Bool.true_eq_false, Bool.false_eq_true, eq_self, Classical.not_not, ite_not, ne_eq, Option.some.injEq, Prod.mk.injEq, L_87, iw5, n8t, w]
    · rw [if_neg z5] at iw5
      by_cases z9 : tkC T N q = 9
      · rw [if_pos z9] at iw9
        simp only [u12_wantLine, b12_wantLine, ev_op, ev_op2, ev_op1, ev_dv, ev_dv2, ev_dv1, ev_un, ev_un1, ev_lit, ev_l0, ev_l1, ev_l2, ev_l3, ev_l4, ev_l5, ev_l6, ev_l7, ev_l8, ev_l9, ev_l10, ev_l11, ev_rf, ev_gi, ev_gi1, ev_gi2, ev_gr, ev_gr1, ev_at0, ev_at, ev_al, ev_al2, ev_al1, ev_an, ev_an1, ev_vs0, ev_vs, ev_vs2, ev_vs1, ev_ca, ev_ca1, ev_cv, ev_cv1, ev_cv2, ev_if, ev_if1, ev_cmp, ev_cmp2, ev_cmp1, ev_not, ev_not1, ev_and, ev_and1, ev_or, ev_or1, ev_e, ev_e1, ev_cif, ev_cif1, ev_qlt, ev_qle, ev_qgt, ev_qge, ev_qeq, ev_qne, ev_skip, ev_brk, ev_cnt, ev_retv, ev_seq, ev_seq0, ev_seq1, ev_seq2, ev_seq3, ev_seqi, ev_sif, ev_sif1, ev_ret, ev_ret1, ev_retz, ev_retzb, ev_retzc, ev_retz1, ev_retc, ev_asg, ev_s0, ev_s1, ev_s2, ev_s3, ev_s4, ev_s5, ev_s6, ev_s7, ev_s8, ev_s9, ev_s10, ev_s11, ev_exp, ev_exp1, ev_pf, ev_pf2, ev_pf1, ev_pz, ev_pz2, ev_pz1, ev_of, ev_of2, ev_of1, ev_st, ev_as, ev_as3, ev_as2, ev_as1, ev_oa, ev_oa3, ev_oa2, ev_oa1, ev_oa0, ev_cp, ev_cp3, ev_cp2, ev_cp1, ev_sw, ev_sw1, ev_swb0, ev_swb1, ev_swb3, ev_swbi, ev_fin3, ev_fin0, ev_fini, ev_iv, ev_ic, ev_b1, ev_b2, ev_b3, ev_b4, ev_b5, ev_b6, ev_or12, ev_lp, ev_lc, ev_lb0, ev_lb1, ev_lb2, ev_lb3, ev_lbi, ev_lu, ev_ass, Int.reduceAdd, Int.reduceSub, Int.reduceMul, Int.reduceNeg, Int.reduceLT, Int.reduceLE, Int.reduceGT, Int.reduceGE, Int.reduceEq, Int.reduceNe, Int.reduceDiv, Int.reduceMod, Int.reduceToNat, Nat.reduceAdd, Nat.reduceMul, Nat.reduceSub, Nat.reduceLT, Nat.reduceEqDiff, Int.reduceNatCast', reduceIte, ite_true, ite_false, if_true, if_false, decide_eq_true_eq, decide_true, decide_false, decide_not, Bool.not_eq_true', decide_eq_false_iff_not, Bool.not_not, Bool.and_eq_true, Bool.or_eq_true, Bool.not_true, Bool.not_false, not_true_eq_false, not_false_eq_true, true_and, and_true, false_and, and_false, true_or, or_true, false_or, or_false, Bool.true_and, Bool.and_true, Bool.false_and, Bool.and_false, Bool.true_or, Bool.or_true, Bool.or_false, Bool.false_or, Bool.not_eq_false', Bool.true_eq_false, Bool.false_eq_true, eq_self, Classical.not_not, ite_not, ne_eq, Option.some.injEq, Prod.mk.injEq, L_87, iw5, iw9, n8t, w]
      · rw [if_neg z9] at iw9
        by_cases z10 : tkC T N q = 10
        · rw [if_pos z10] at iw10
          simp only [u12_wantLine, b12_wantLine, ev_op, ev_op2, ev_op1, ev_dv, ev_dv2, ev_dv1, ev_un, ev_un1, ev_lit, ev_l0, ev_l1, ev_l2, ev_l3, ev_l4, ev_l5, ev_l6, ev_l7, ev_l8, ev_l9, ev_l10, ev_l11, ev_rf, ev_gi, ev_gi1, ev_gi2, ev_gr, ev_gr1, ev_at0, ev_at, ev_al, ev_al2, ev_al1, ev_an, ev_an1, ev_vs0, ev_vs, ev_vs2, ev_vs1, ev_ca, ev_ca1, ev_cv, ev_cv1, ev_cv2, ev_if, ev_if1, ev_cmp, ev_cmp2, ev_cmp1, ev_not, ev_not1, ev_and, ev_and1, ev_or, ev_or1, ev_e, ev_e1, ev_cif, ev_cif1, ev_qlt, ev_qle, ev_qgt, ev_qge, ev_qeq, ev_qne, ev_skip, ev_brk, ev_cnt, ev_retv, ev_seq, ev_seq0, ev_seq1, ev_seq2, ev_seq3, ev_seqi, ev_sif, ev_sif1, ev_ret, ev_ret1, ev_retz, ev_retzb, ev_retzc, ev_retz1, ev_retc, ev_asg, ev_s0, ev_s1, ev_s2, ev_s3, ev_s4, ev_s5, ev_s6, ev_s7, ev_s8, ev_s9, ev_s10, ev_s11, ev_exp, ev_exp1, ev_pf, ev_pf2, ev_pf1, ev_pz, ev_pz2, ev_pz1, ev_of, ev_of2, ev_of1, ev_st, ev_as, ev_as3, ev_as2, ev_as1, ev_oa, ev_oa3, ev_oa2, ev_oa1, ev_oa0, ev_cp, ev_cp3, ev_cp2, ev_cp1, ev_sw, ev_sw1, ev_swb0, ev_swb1, ev_swb3, ev_swbi, ev_fin3, ev_fin0, ev_fini, ev_iv, ev_ic, ev_b1, ev_b2, ev_b3, ev_b4, ev_b5, ev_b6, ev_or12, ev_lp, ev_lc, ev_lb0, ev_lb1, ev_lb2, ev_lb3, ev_lbi, ev_lu, ev_ass, Int.reduceAdd, Int.reduceSub, Int.reduceMul, Int.reduceNeg, Int.reduceLT, Int.reduceLE, Int.reduceGT, Int.reduceGE, Int.reduceEq, Int.reduceNe, Int.reduceDiv, Int.reduceMod, Int.reduceToNat, Nat.reduceAdd, Nat.reduceMul, Nat.reduceSub, Nat.reduceLT, Nat.reduceEqDiff, Int.reduceNatCast', reduceIte, ite_true, ite_false, if_true, if_false, decide_eq_true_eq, decide_true, decide_false, decide_not, Bool.not_eq_true', decide_eq_false_iff_not, Bool.not_not, Bool.and_eq_true, Bool.or_eq_true, Bool.not_true, Bool.not_false, not_true_eq_false, not_false_eq_true, true_and, and_true, false_and, and_false, true_or, or_true, false_or, or_false, Bool.true_and, Bool.and_true, Bool.false_and, Bool.and_false, Bool.true_or, Bool.or_true, Bool.or_false, Bool.false_or, Bool.not_eq_false', Bool.true_eq_false, Bool.false_eq_true, eq_self, Classical.not_not, ite_not, ne_eq, Option.some.injEq, Prod.mk.injEq, L_87, iw5, iw9, iw10, n8t, w]
        · rw [if_neg z10] at iw10
          simp only [u12_wantLine, b12_wantLine, ev_op, ev_op2, ev_op1, ev_dv, ev_dv2, ev_dv1, ev_un, ev_un1, ev_lit, ev_l0, ev_l1, ev_l2, ev_l3, ev_l4, ev_l5, ev_l6, ev_l7, ev_l8, ev_l9, ev_l10, ev_l11, ev_rf, ev_gi, ev_gi1, ev_gi2, ev_gr, ev_gr1, ev_at0, ev_at, ev_al, ev_al2, ev_al1, ev_an, ev_an1, ev_vs0, ev_vs, ev_vs2, ev_vs1, ev_ca, ev_ca1, ev_cv, ev_cv1, ev_cv2, ev_if, ev_if1, ev_cmp, ev_cmp2, ev_cmp1, ev_not, ev_not1, ev_and, ev_and1, ev_or, ev_or1, ev_e, ev_e1, ev_cif, ev_cif1, ev_qlt, ev_qle, ev_qgt, ev_qge, ev_qeq, ev_qne, ev_skip, ev_brk, ev_cnt, ev_retv, ev_seq, ev_seq0, ev_seq1, ev_seq2, ev_seq3, ev_seqi, ev_sif, ev_sif1, ev_ret, ev_ret1, ev_retz, ev_retzb, ev_retzc, ev_retz1, ev_retc, ev_asg, ev_s0, ev_s1, ev_s2, ev_s3, ev_s4, ev_s5, ev_s6, ev_s7, ev_s8, ev_s9, ev_s10, ev_s11, ev_exp, ev_exp1, ev_pf, ev_pf2, ev_pf1, ev_pz, ev_pz2, ev_pz1, ev_of, ev_of2, ev_of1, ev_st, ev_as, ev_as3, ev_as2, ev_as1, ev_oa, ev_oa3, ev_oa2, ev_oa1, ev_oa0, ev_cp, ev_cp3, ev_cp2, ev_cp1, ev_sw, ev_sw1, ev_swb0, ev_swb1, ev_swb3, ev_swbi, ev_fin3, ev_fin0, ev_fini, ev_iv, ev_ic, ev_b1, ev_b2, ev_b3, ev_b4, ev_b5, ev_b6, ev_or12, ev_lp, ev_lc, ev_lb0, ev_lb1, ev_lb2, ev_lb3, ev_lbi, ev_lu, ev_ass, Int.reduceAdd, Int.reduceSub, Int.reduceMul, Int.reduceNeg, Int.reduceLT, Int.reduceLE, Int.reduceGT, Int.reduceGE, Int.reduceEq, Int.reduceNe, Int.reduceDiv, Int.reduceMod, Int.reduceToNat, Nat.reduceAdd, Nat.reduceMul, Nat.reduceSub, Nat.reduceLT, Nat.reduceEqDiff, Int.reduceNatCast', reduceIte, ite_true, ite_false, if_true, if_false, decide_eq_true_eq, decide_true, decide_false, decide_not, Bool.not_eq_true', decide_eq_false_iff_not, Bool.not_not, Bool.and_eq_true, Bool.or_eq_true, Bool.not_true, Bool.not_false, not_true_eq_false, not_false_eq_true, true_and, and_true, false_and, and_false, true_or, or_true, false_or, or_false, Bool.true_and, Bool.and_true, Bool.false_and, Bool.and_false, Bool.true_or, Bool.or_true, Bool.or_false, Bool.false_or, Bool.not_eq_false', Bool.true_eq_false, Bool.false_eq_true, eq_self, Classical.not_not, ite_not, ne_eq, Option.some.injEq, Prod.mk.injEq, L_87, iw5, iw9, iw10, w]
  · have r0 : 0 ≤ 5 * n ∧ 5 * n < 40 := by omega
    have r1 : 0 ≤ 5 * n + 1 ∧ 5 * n + 1 < 40 := by omega
    have r2 : 0 ≤ 5 * n + 2 ∧ 5 * n + 2 < 40 := by omega
    have r3 : 0 ≤ 5 * n + 3 ∧ 5 * n + 3 < 40 := by omega
    have r4 : 0 ≤ 5 * n + 4 ∧ 5 * n + 4 < 40 := by omega
    unfold lineA
    by_cases z5 : tkC T N q = 5
    · rw [if_pos z5] at iw5 ⊢
      have s1 : stM T N (updM (updM υ1 112 (5 * n) 0) 112 (5 * n + 1) 0) (.inr (nxT T N q)) := stM.fr (υ := υ1) b3 fun a b hk => by rw [upd_no (by omega), upd_no (by omega)]
      obtain ⟨v1, υ2, c1, c2, c3, c4⟩ := s12_wantCauses (T := T) (N := N) (q := nxT T N q) s1
      have s2 : stM T N (updM υ2 112 (5 * n + 1) v1) _ := c3.fr fun a b hk => by rw [upd_no (by omega)]
      obtain ⟨υ3, d1, d2, d3⟩ := s12_want s2 wk6
      obtain ⟨v4, υ4, e1, e2, e3, e4⟩ := s12_wantNumber d3 (l := 0) (by decide)
      have s4 : stM T N (updM υ4 112 (5 * n + 2) v4) _ := e3.fr fun a b hk => by rw [upd_no (by omega)]
      obtain ⟨υ5, i1, i2, i3⟩ := s12_want s4 wk7
      obtain ⟨v6, υ6, j1, j2, j3, j4⟩ := s12_wantNumber i3 (l := 0) (by decide)
      have s6 : stM T N (updM υ6 112 (5 * n + 3) v6) _ := j3.fr fun a b hk => by rw [upd_no (by omega)]
      obtain ⟨υ7, k1, k2, k3⟩ := s12_want s6 wk8
      obtain ⟨v8, υ8, l1, l2, l3, l4⟩ := s12_wantNumber k3 (l := 1) (by decide)
      have s8 : stM T N (updM υ8 112 (5 * n + 4) v8) _ := l3.fr fun a b hk => by rw [upd_no (by omega)]
      obtain ⟨υ9, o1, o2, o3⟩ := s12_want s8 semi
      have ch := by_ch T N (nxT T N q) _ _ _ _ _ _ _ _ _ _ _ rfl rfl rfl rfl rfl rfl rfl rfl rfl rfl rfl
      refine ⟨υ9, ?_, ?_, fun y => absurd y n8, fun _ => ?_⟩
      · simp only [u12_wantLine, b12_wantLine, ev_op, ev_op2, ev_op1, ev_dv, ev_dv2, ev_dv1, ev_un, ev_un1, ev_lit, ev_l0, ev_l1, ev_l2, ev_l3, ev_l4, ev_l5, ev_l6, ev_l7, ev_l8, ev_l9, ev_l10, ev_l11, ev_rf, ev_gi, ev_gi1, ev_gi2, ev_gr, ev_gr1, ev_at0, ev_at, ev_al, ev_al2, ev_al1, ev_an, ev_an1, ev_vs0, ev_vs, ev_vs2, ev_vs1, ev_ca, ev_ca1, ev_cv, ev_cv1, ev_cv2, ev_if, ev_if1, ev_cmp, ev_cmp2, ev_cmp1, ev_not, ev_not1, ev_and, ev_and1, ev_or, ev_or1, ev_e, ev_e1, ev_cif, ev_cif1, ev_qlt, ev_qle, ev_qgt, ev_qge, ev_qeq, ev_qne, ev_skip, ev_brk, ev_cnt, ev_retv, ev_seq, ev_seq0, ev_seq1, ev_seq2, ev_seq3, ev_seqi, ev_sif, ev_sif1, ev_ret, ev_ret1, ev_retz, ev_retzb, ev_retzc, ev_retz1, ev_retc, ev_asg, ev_s0, ev_s1, ev_s2, ev_s3, ev_s4, ev_s5, ev_s6, ev_s7, ev_s8, ev_s9, ev_s10, ev_s11, ev_exp, ev_exp1, ev_pf, ev_pf2, ev_pf1, ev_pz, ev_pz2, ev_pz1, ev_of, ev_of2, ev_of1, ev_st, ev_as, ev_as3, ev_as2, ev_as1, ev_oa, ev_oa3, ev_oa2, ev_oa1, ev_oa0, ev_cp, ev_cp3, ev_cp2, ev_cp1, ev_sw, ev_sw1, ev_swb0, ev_swb1, ev_swb3, ev_swbi, ev_fin3, ev_fin0, ev_fini, ev_iv, ev_ic, ev_b1, ev_b2, ev_b3, ev_b4, ev_b5, ev_b6, ev_or12, ev_lp, ev_lc, ev_lb0, ev_lb1, ev_lb2, ev_lb3, ev_lbi, ev_lu, ev_ass, Int.reduceAdd, Int.reduceSub, Int.reduceMul, Int.reduceNeg, Int.reduceLT, Int.reduceLE, Int.reduceGT, Int.reduceGE, Int.reduceEq, Int.reduceNe, Int.reduceDiv, Int.reduceMod, Int.reduceToNat, Nat.reduceAdd, Nat.reduceMul, Nat.reduceSub, Nat.reduceLT, Nat.reduceEqDiff, Int.reduceNatCast', reduceIte, ite_true, ite_false, if_true, if_false, decide_eq_true_eq, decide_true, decide_false, decide_not, Bool.not_eq_true', decide_eq_false_iff_not, Bool.not_not, Bool.and_eq_true, Bool.or_eq_true, Bool.not_true, Bool.not_false, not_true_eq_false, not_false_eq_true, true_and, and_true, false_and, and_false, true_or, or_true, false_or, or_false, Bool.true_and, Bool.and_true, Bool.false_and, Bool.and_false, Bool.true_or, Bool.or_true, Bool.or_false, Bool.false_or, Bool.not_eq_false', Bool.true_eq_false, Bool.false_eq_true, eq_self, Classical.not_not, ite_not, ne_eq, Option.some.injEq, Prod.mk.injEq, L_87, L_112, iw5, n8, b1, m5 (), a1 (), a2 (), a3 (), a4 (), r0, r1, r2, r3, r4, c1, d1, e1, i1, j1, k1, l1, o1]
      · clear m5 a1 a2 a3 a4
        intro a b hk
        rw [o2 a b (by omega), upd_no (by omega), l2 a b (by omega), k2 a b (by omega), upd_no (by omega), j2 a b (by omega), i2 a b (by omega), upd_no (by omega), e2 a b (by omega), d2 a b (by omega), upd_no (by omega), c2 a b (by omega), upd_no (by omega), upd_no (by omega), b2 a b (by omega)]
      · clear m5 a1 a2 a3 a4
        cases e : byA T N (nxT T N q) with
        | inl f =>
          rw [e] at ch
          have o3 := o3
          rw [show _ = Sum.inl f from ch] at o3
          exact o3
        | inr r =>
          rw [e] at ch
          obtain ⟨ch, c, o, p, ee, t1, t2, t3, t4, row⟩ := ch
          rw [ch] at o3
          refine ⟨o3, fun j j0 j1' => ?_⟩
          have x1 := c4 c t1
          have x2 := e4 o t2
          have x3 := j4 p t3
          have x4 := l4 ee t4
          rw [row, o2 112 _ (by omega)]
          have : j = 0 ∨ j = 1 ∨ j = 2 ∨ j = 3 ∨ j = 4 := by omega
          rcases this with rfl | rfl | rfl | rfl | rfl
          · rw [upd_no (by omega), l2 112 _ (by omega), k2 112 _ (by omega), upd_no (by omega), j2 112 _ (by omega), i2 112 _ (by omega), upd_no (by omega), e2 112 _ (by omega), d2 112 _ (by omega), upd_no (by omega), c2 112 _ (by omega), upd_no (by omega), Int.add_zero, upd_at]; rfl
          · rw [upd_no (by omega), l2 112 _ (by omega), k2 112 _ (by omega), upd_no (by omega), j2 112 _ (by omega), i2 112 _ (by omega), upd_no (by omega), e2 112 _ (by omega), d2 112 _ (by omega), upd_at, x1]; rfl
          · rw [upd_no (by omega), l2 112 _ (by omega), k2 112 _ (by omega), upd_no (by omega), j2 112 _ (by omega), i2 112 _ (by omega), upd_at, x2]; rfl
          · rw [upd_no (by omega), l2 112 _ (by omega), k2 112 _ (by omega), upd_at, x3]; rfl
          · rw [upd_at, x4]; rfl
    · rw [if_neg z5] at iw5 ⊢
      by_cases z9 : tkC T N q = 9
      · rw [if_pos z9] at iw9 ⊢
        obtain ⟨v, υ4, υ5, c1, d1, d2, d3⟩ := free 1 (by omega)
        refine ⟨υ5, ?_, d2, fun y => absurd y n8, fun _ => d3⟩
        simp only [u12_wantLine, b12_wantLine, ev_op, ev_op2, ev_op1, ev_dv, ev_dv2, ev_dv1, ev_un, ev_un1, ev_lit, ev_l0, ev_l1, ev_l2, ev_l3, ev_l4, ev_l5, ev_l6, ev_l7, ev_l8, ev_l9, ev_l10, ev_l11, ev_rf, ev_gi, ev_gi1, ev_gi2, ev_gr, ev_gr1, ev_at0, ev_at, ev_al, ev_al2, ev_al1, ev_an, ev_an1, ev_vs0, ev_vs, ev_vs2, ev_vs1, ev_ca, ev_ca1, ev_cv, ev_cv1, ev_cv2, ev_if, ev_if1, ev_cmp, ev_cmp2, ev_cmp1, ev_not, ev_not1, ev_and, ev_and1, ev_or, ev_or1, ev_e, ev_e1, ev_cif, ev_cif1, ev_qlt, ev_qle, ev_qgt, ev_qge, ev_qeq, ev_qne, ev_skip, ev_brk, ev_cnt, ev_retv, ev_seq, ev_seq0, ev_seq1, ev_seq2, ev_seq3, ev_seqi, ev_sif, ev_sif1, ev_ret, ev_ret1, ev_retz, ev_retzb, ev_retzc, ev_retz1, ev_retc, ev_asg, ev_s0, ev_s1, ev_s2, ev_s3, ev_s4, ev_s5, ev_s6, ev_s7, ev_s8, ev_s9, ev_s10, ev_s11, ev_exp, ev_exp1, ev_pf, ev_pf2, ev_pf1, ev_pz, ev_pz2, ev_pz1, ev_of, ev_of2, ev_of1, ev_st, ev_as, ev_as3, ev_as2, ev_as1, ev_oa, ev_oa3, ev_oa2, ev_oa1, ev_oa0, ev_cp, ev_cp3, ev_cp2, ev_cp1, ev_sw, ev_sw1, ev_swb0, ev_swb1, ev_swb3, ev_swbi, ev_fin3, ev_fin0, ev_fini, ev_iv, ev_ic, ev_b1, ev_b2, ev_b3, ev_b4, ev_b5, ev_b6, ev_or12, ev_lp, ev_lc, ev_lb0, ev_lb1, ev_lb2, ev_lb3, ev_lbi, ev_lu, ev_ass, Int.reduceAdd, Int.reduceSub, Int.reduceMul, Int.reduceNeg, Int.reduceLT, Int.reduceLE, Int.reduceGT, Int.reduceGE, Int.reduceEq, Int.reduceNe, Int.reduceDiv, Int.reduceMod, Int.reduceToNat, Nat.reduceAdd, Nat.reduceMul, Nat.reduceSub, Nat.reduceLT, Nat.reduceEqDiff, Int.reduceNatCast', reduceIte, ite_true, ite_false, if_true, if_false, decide_eq_true_eq, decide_true, decide_false, decide_not, Bool.not_eq_true', decide_eq_false_iff_not, Bool.not_not, Bool.and_eq_true, Bool.or_eq_true, Bool.not_true, Bool.not_false, not_true_eq_false, not_false_eq_true, true_and, and_true, false_and, and_false, true_or, or_true, false_or, or_false, Bool.true_and, Bool.and_true, Bool.false_and, Bool.and_false, Bool.true_or, Bool.or_true, Bool.or_false, Bool.false_or, Bool.not_eq_false', Bool.true_eq_false, Bool.false_eq_true, eq_self, Classical.not_not, ite_not, ne_eq, Option.some.injEq, Prod.mk.injEq, L_87, L_112, iw5, iw9, n8, b1, m5 (), a1 (), a2 (), a3 (), a4 (), r0, r1, r2, r3, r4, c1, d1]
      · rw [if_neg z9] at iw9 ⊢
        by_cases z10 : tkC T N q = 10
        · rw [if_pos z10] at iw10 ⊢
          obtain ⟨v, υ4, υ5, c1, d1, d2, d3⟩ := free 2 (by omega)
          refine ⟨υ5, ?_, d2, fun y => absurd y n8, fun _ => d3⟩
          simp only [u12_wantLine, b12_wantLine, ev_op, ev_op2, ev_op1, ev_dv, ev_dv2, ev_dv1, ev_un, ev_un1, ev_lit, ev_l0, ev_l1, ev_l2, ev_l3, ev_l4, ev_l5, ev_l6, ev_l7, ev_l8, ev_l9, ev_l10, ev_l11, ev_rf, ev_gi, ev_gi1, ev_gi2, ev_gr, ev_gr1, ev_at0, ev_at, ev_al, ev_al2, ev_al1, ev_an, ev_an1, ev_vs0, ev_vs, ev_vs2, ev_vs1, ev_ca, ev_ca1, ev_cv, ev_cv1, ev_cv2, ev_if, ev_if1, ev_cmp, ev_cmp2, ev_cmp1, ev_not, ev_not1, ev_and, ev_and1, ev_or, ev_or1, ev_e, ev_e1, ev_cif, ev_cif1, ev_qlt, ev_qle, ev_qgt, ev_qge, ev_qeq, ev_qne, ev_skip, ev_brk, ev_cnt, ev_retv, ev_seq, ev_seq0, ev_seq1, ev_seq2, ev_seq3, ev_seqi, ev_sif, ev_sif1, ev_ret, ev_ret1, ev_retz, ev_retzb, ev_retzc, ev_retz1, ev_retc, ev_asg, ev_s0, ev_s1, ev_s2, ev_s3, ev_s4, ev_s5, ev_s6, ev_s7, ev_s8, ev_s9, ev_s10, ev_s11, ev_exp, ev_exp1, ev_pf, ev_pf2, ev_pf1, ev_pz, ev_pz2, ev_pz1, ev_of, ev_of2, ev_of1, ev_st, ev_as, ev_as3, ev_as2, ev_as1, ev_oa, ev_oa3, ev_oa2, ev_oa1, ev_oa0, ev_cp, ev_cp3, ev_cp2, ev_cp1, ev_sw, ev_sw1, ev_swb0, ev_swb1, ev_swb3, ev_swbi, ev_fin3, ev_fin0, ev_fini, ev_iv, ev_ic, ev_b1, ev_b2, ev_b3, ev_b4, ev_b5, ev_b6, ev_or12, ev_lp, ev_lc, ev_lb0, ev_lb1, ev_lb2, ev_lb3, ev_lbi, ev_lu, ev_ass, Int.reduceAdd, Int.reduceSub, Int.reduceMul, Int.reduceNeg, Int.reduceLT, Int.reduceLE, Int.reduceGT, Int.reduceGE, Int.reduceEq, Int.reduceNe, Int.reduceDiv, Int.reduceMod, Int.reduceToNat, Nat.reduceAdd, Nat.reduceMul, Nat.reduceSub, Nat.reduceLT, Nat.reduceEqDiff, Int.reduceNatCast', reduceIte, ite_true, ite_false, if_true, if_false, decide_eq_true_eq, decide_true, decide_false, decide_not, Bool.not_eq_true', decide_eq_false_iff_not, Bool.not_not, Bool.and_eq_true, Bool.or_eq_true, Bool.not_true, Bool.not_false, not_true_eq_false, not_false_eq_true, true_and, and_true, false_and, and_false, true_or, or_true, false_or, or_false, Bool.true_and, Bool.and_true, Bool.false_and, Bool.and_false, Bool.true_or, Bool.or_true, Bool.or_false, Bool.false_or, Bool.not_eq_false', Bool.true_eq_false, Bool.false_eq_true, eq_self, Classical.not_not, ite_not, ne_eq, Option.some.injEq, Prod.mk.injEq, L_87, L_112, iw5, iw9, iw10, n8, b1, m5 (), a1 (), a2 (), a3 (), a4 (), r0, r1, r2, r3, r4, c1, d1]
        · rw [if_neg z10] at iw10 ⊢
          refine ⟨updM υ 87 34 q, ?_, fun a b hk => w1 a b (by omega), fun y => absurd y n8, fun _ => w2⟩
          simp only [u12_wantLine, b12_wantLine, ev_op, ev_op2, ev_op1, ev_dv, ev_dv2, ev_dv1, ev_un, ev_un1, ev_lit, ev_l0, ev_l1, ev_l2, ev_l3, ev_l4, ev_l5, ev_l6, ev_l7, ev_l8, ev_l9, ev_l10, ev_l11, ev_rf, ev_gi, ev_gi1, ev_gi2, ev_gr, ev_gr1, ev_at0, ev_at, ev_al, ev_al2, ev_al1, ev_an, ev_an1, ev_vs0, ev_vs, ev_vs2, ev_vs1, ev_ca, ev_ca1, ev_cv, ev_cv1, ev_cv2, ev_if, ev_if1, ev_cmp, ev_cmp2, ev_cmp1, ev_not, ev_not1, ev_and, ev_and1, ev_or, ev_or1, ev_e, ev_e1, ev_cif, ev_cif1, ev_qlt, ev_qle, ev_qgt, ev_qge, ev_qeq, ev_qne, ev_skip, ev_brk, ev_cnt, ev_retv, ev_seq, ev_seq0, ev_seq1, ev_seq2, ev_seq3, ev_seqi, ev_sif, ev_sif1, ev_ret, ev_ret1, ev_retz, ev_retzb, ev_retzc, ev_retz1, ev_retc, ev_asg, ev_s0, ev_s1, ev_s2, ev_s3, ev_s4, ev_s5, ev_s6, ev_s7, ev_s8, ev_s9, ev_s10, ev_s11, ev_exp, ev_exp1, ev_pf, ev_pf2, ev_pf1, ev_pz, ev_pz2, ev_pz1, ev_of, ev_of2, ev_of1, ev_st, ev_as, ev_as3, ev_as2, ev_as1, ev_oa, ev_oa3, ev_oa2, ev_oa1, ev_oa0, ev_cp, ev_cp3, ev_cp2, ev_cp1, ev_sw, ev_sw1, ev_swb0, ev_swb1, ev_swb3, ev_swbi, ev_fin3, ev_fin0, ev_fini, ev_iv, ev_ic, ev_b1, ev_b2, ev_b3, ev_b4, ev_b5, ev_b6, ev_or12, ev_lp, ev_lc, ev_lb0, ev_lb1, ev_lb2, ev_lb3, ev_lbi, ev_lu, ev_ass, Int.reduceAdd, Int.reduceSub, Int.reduceMul, Int.reduceNeg, Int.reduceLT, Int.reduceLE, Int.reduceGT, Int.reduceGE, Int.reduceEq, Int.reduceNe, Int.reduceDiv, Int.reduceMod, Int.reduceToNat, Nat.reduceAdd, Nat.reduceMul, Nat.reduceSub, Nat.reduceLT, Nat.reduceEqDiff, Int.reduceNatCast', reduceIte, ite_true, ite_false, if_true, if_false, decide_eq_true_eq, decide_true, decide_false, decide_not, Bool.not_eq_true', decide_eq_false_iff_not, Bool.not_not, Bool.and_eq_true, Bool.or_eq_true, Bool.not_true, Bool.not_false, not_true_eq_false, not_false_eq_true, true_and, and_true, false_and, and_false, true_or, or_true, false_or, or_false, Bool.true_and, Bool.and_true, Bool.false_and, Bool.and_false, Bool.true_or, Bool.or_true, Bool.or_false, Bool.false_or, Bool.not_eq_false', Bool.true_eq_false, Bool.false_eq_true, eq_self, Classical.not_not, ite_not, ne_eq, Option.some.injEq, Prod.mk.injEq, L_87, iw5, iw9, iw10, w]
