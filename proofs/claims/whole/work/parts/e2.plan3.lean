/-! ===== plans: the class solves ===== -/
def encL (z : Int) : Int := if z < 0 then -3 else z
theorem s5_lateOf {σ τ : cvM} (h : WR σ) {pl : Int} (l8 : (rdL σ pl).length ≤ 8) (hi : loI σ pl τ) {i : Nat} (ik : i < (vnL σ pl).length) {s : Int} (hs : 0 ≤ s ∧ s < 256) : ∃ υ, f5_lateOf [46, (i : Int), s] τ = some (encL (lateN σ pl (rdL σ pl) ((vnL σ pl).getD i 0) s), υ) ∧ loI σ pl υ ∧ ∀ k j : Int, ¬ (39 ≤ k ∧ k ≤ 45) → k ≠ 51 → υ k j = τ k j := by
  obtain ⟨fr, ⟨v1, v2⟩, ⟨b1, b2, b3⟩, hl⟩ := hi
  by_cases s0 : s = 0
  · have z : lateN σ pl (rdL σ pl) ((vnL σ pl).getD i 0) s = 0 := if_pos s0
    rw [z]
    refine ⟨τ, ?_, ⟨fr, ⟨v1, v2⟩, ⟨b1, b2, b3⟩, hl⟩, fun _ _ _ _ => rfl⟩
    simp only [u5_lateOf, b5_lateOf, ev_op, ev_op2, ev_op1, ev_dv, ev_dv2, ev_dv1, ev_un, ev_un1, ev_lit, ev_l0, ev_l1, ev_l2, ev_l3, ev_l4, ev_l5, ev_l6, ev_l7, ev_l8, ev_l9, ev_l10, ev_l11, ev_rf, ev_gi, ev_gi1, ev_gi2, ev_gr, ev_gr1, ev_at0, ev_at, ev_al, ev_al2, ev_al1, ev_an, ev_an1, ev_vs0, ev_vs, ev_vs2, ev_vs1, ev_ca, ev_ca1, ev_cv, ev_cv1, ev_cv2, ev_if, ev_if1, ev_cmp, ev_cmp2, ev_cmp1, ev_not, ev_not1, ev_and, ev_and1, ev_or, ev_or1, ev_e, ev_e1, ev_cif, ev_cif1, ev_qlt, ev_qle, ev_qgt, ev_qge, ev_qeq, ev_qne, ev_skip, ev_brk, ev_cnt, ev_retv, ev_seq, ev_seq0, ev_seq1, ev_seq2, ev_seq3, ev_seqi, ev_sif, ev_sif1, ev_ret, ev_ret1, ev_retz, ev_retzb, ev_retzc, ev_retz1, ev_retc, ev_asg, ev_s0, ev_s1, ev_s2, ev_s3, ev_s4, ev_s5, ev_s6, ev_s7, ev_s8, ev_s9, ev_s10, ev_s11, ev_exp, ev_exp1, ev_pf, ev_pf2, ev_pf1, ev_pz, ev_pz2, ev_pz1, ev_of, ev_of2, ev_of1, ev_st, ev_as, ev_as3, ev_as2, ev_as1, ev_oa, ev_oa3, ev_oa2, ev_oa1, ev_oa0, ev_cp, ev_cp3, ev_cp2, ev_cp1, ev_sw, ev_sw1, ev_swb0, ev_swb1, ev_swb3, ev_swbi, ev_fin3, ev_fin0, ev_fini, ev_iv, ev_ic, ev_b1, ev_b2, ev_b3, ev_b4, ev_b5, ev_b6, ev_or12, ev_lp, ev_lc, ev_lb0, ev_lb1, ev_lb2, ev_lb3, ev_lbi, ev_lu, ev_ass, Int.reduceAdd, Int.reduceSub, Int.reduceMul, Int.reduceNeg, Int.reduceLT, Int.reduceLE, Int.reduceGT, Int.reduceGE, Int.reduceEq, Int.reduceNe, Int.reduceDiv, Int.reduceMod, Int.reduceToNat, Nat.reduceAdd, Nat.reduceMul, Nat.reduceSub, Nat.reduceLT, Nat.reduceEqDiff, Int.reduceNatCast', reduceIte, ite_true, ite_false, if_true, if_false, decide_eq_true_eq, decide_true, decide_false, decide_not, Bool.not_eq_true', decide_eq_false_iff_not, Bool.not_not, Bool.and_eq_true, Bool.or_eq_true, Bool.not_true, Bool.not_false, not_true_eq_false, not_false_eq_true, true_and, and_true, false_and, and_false, true_or, or_true, false_or, or_false, Bool.true_and, Bool.and_true, Bool.false_and, Bool.and_false, Bool.true_or, Bool.or_true, Bool.or_false, Bool.false_or, Bool.not_eq_false', Bool.true_eq_false, Bool.false_eq_true, eq_self, Classical.not_not, ite_not, ne_eq, Option.some.injEq, Prod.mk.injEq, eq_true s0]
    rfl
  · have k3 := vnL_le h pl
    have q1 : ¬ (i : Int) < 0 := by omega
    have q2 : ¬ ((vnL σ pl).length : Int) ≤ (i : Int) := by omega
    have q3 : ¬ s < 0 := by omega
    have q4 : ¬ 256 ≤ s := by omega
    have r768 : 0 ≤ 256 * (i : Int) + s ∧ 256 * (i : Int) + s < 768 := by omega
    have ri3 : 0 ≤ (i : Int) ∧ (i : Int) < 3 := by omega
    have at1 : oadd (omul (i : Int) 256) s = 256 * (i : Int) + s := by rw [n_mul (by omega), n_add (by omega)]; omega
    have hh := hl i s ik hs.1 hs.2
    have lb := lateN_bd h pl (rdL σ pl) ((vnL σ pl).getD i 0) s
    by_cases kn : τ 51 (256 * (i : Int) + s) = -100
    · have w := fr.WR h
      have vm := vnL_mem (σ := σ) (pl := pl) ik
      have vi := v2 i ik
      have bc := sJ_bitCount (x := s) (by omega) τ
      have e1 := cell_5 w (p := (vnL σ pl).getD i 0) (j := 1) (by rw [fr 88 3 (by decide)]; omega)
      rw [fr.k 94 (by decide)] at e1
      have lm : ∀ j : Nat, j < (rdL σ pl).length → 0 ≤ (rdL σ pl).getD j 0 ∧ (rdL σ pl).getD j 0 < σ 88 2 := fun j hj => (rdL_mem hj).1
      have c4 := cnt_4 h
      have hf := s0_hasFoes h (τ := τ) l8 lm b1 b3 hs
      have pi := s0_personsIn (τ := τ) l8 (fun j hj => by have := lm j hj; omega) b1 b2 hs
      have pb := psN_lt (rdL σ pl) s
      have ln : lateN σ pl (rdL σ pl) ((vnL σ pl).getD i 0) s = if pcI s ≤ σ 94 (4 * (vnL σ pl).getD i 0 + 1) ∧ peace σ (psN (rdL σ pl) s) (σ 88 2) = true then (match bestT σ ((vnL σ pl).getD i 0) (psN (rdL σ pl) s) with
        | none => -1
        | some d => d.2) else -1 := by
        unfold lateN
        rw [if_neg s0]
        by_cases y : pcI s ≤ σ 94 (4 * (vnL σ pl).getD i 0 + 1) ∧ peace σ (psN (rdL σ pl) s) (σ 88 2) = true
        · rw [if_pos ⟨⟨vm, y.1⟩, y.2⟩, if_pos y]
          cases bestT σ ((vnL σ pl).getD i 0) (psN (rdL σ pl) s) <;> rfl
        · rw [if_neg fun z => y ⟨z.1.2, z.2⟩, if_neg y]
      have fin : ∀ (υ : cvM) (z : Int), frL σ υ → (∀ k j : Int, ¬ (39 ≤ k ∧ k ≤ 45) → υ k j = τ k j) → z = encL (lateN σ pl (rdL σ pl) ((vnL σ pl).getD i 0) s) → loI σ pl (updM υ 51 (256 * (i : Int) + s) z) ∧ ∀ k j : Int, ¬ (39 ≤ k ∧ k ≤ 45) → k ≠ 51 → updM υ 51 (256 * (i : Int) + s) z k j = τ k j := by
        intro υ z f1 f2 hz
        clear at1
        refine ⟨⟨fun k j hk => by rw [upd_no (by omega), f1 k j hk], ⟨by rw [upd_ne _ (by decide), f2 46 4 (by decide)]; exact v1, fun j hj => by rw [upd_ne _ (by decide), f2 50 _ (by decide)]; exact v2 j hj⟩, ⟨by rw [upd_ne _ (by decide), f2 47 2 (by decide)]; exact b1, fun j hj => by rw [upd_ne _ (by decide), f2 48 _ (by decide)]; exact b2 j hj, fun j hj => by rw [upd_ne _ (by decide), f2 49 _ (by decide)]; exact b3 j hj⟩, fun i' s' h1 h2 h3 => ?_⟩, fun k j hk hk2 => by rw [upd_ne _ hk2, f2 k j hk]⟩
        by_cases y : 256 * (i' : Int) + s' = 256 * (i : Int) + s
        · have e1 : i' = i := by omega
          have e2 : s' = s := by omega
          subst e1 e2
          rw [upd_at, hz]
          exact Or.inr rfl
        · rw [upd_ni y, f2 51 _ (by decide)]
          exact hl i' s' h1 h2 h3
      have rd : ∀ (υ : cvM) (z : Int), updM υ 51 (256 * (i : Int) + s) z 51 (256 * (i : Int) + s) = z := fun υ z => upd_at _ _ _ _
      by_cases y1 : pcI s ≤ σ 94 (4 * (vnL σ pl).getD i 0 + 1)
      · by_cases y2 : peace σ (psN (rdL σ pl) s) (σ 88 2) = true
        · rw [if_pos y2] at hf
          rw [if_pos ⟨y1, y2⟩] at ln
          have ff : frF σ σ := fun _ _ _ => rfl
          -- the search, in a world with notes
          have wf := w
          obtain ⟨υ, g1, g2, g3, g4⟩ := s9_find w (v := (vnL σ pl).getD i 0) (x := psN (rdL σ pl) s) (by rw [fr 88 3 (by decide)]; exact vm.1) pb
          have be := bestT_eq (σ := σ) (τ := τ) (fun k h1 h2 => fr.k k (by omega)) ((vnL σ pl).getD i 0) (psN (rdL σ pl) s)
          rw [be.1] at g1 g4
          have fu : frL σ υ := fun k j hk => by rw [g2 k j (by omega), fr k j hk]
          cases e : bestT σ ((vnL σ pl).getD i 0) (psN (rdL σ pl) s) with
          | none =>
            rw [e] at g1 ln
            have g1 : f9_find [39, (vnL σ pl).getD i 0, psN (rdL σ pl) s] τ = some (0, υ) := g1
            have ln : lateN σ pl (rdL σ pl) ((vnL σ pl).getD i 0) s = -1 := ln
            have ez : (-3 : Int) = encL (lateN σ pl (rdL σ pl) ((vnL σ pl).getD i 0) s) := by rw [ln]; rfl
            obtain ⟨p1, p2⟩ := fin υ (-3) fu g2 ez
            refine ⟨updM υ 51 (256 * (i : Int) + s) (-3), ?_, p1, p2⟩
            rw [← ez]
            simp only [u5_lateOf, b5_lateOf, ev_op, ev_op2, ev_op1, ev_dv, ev_dv2, ev_dv1, ev_un, ev_un1, ev_lit, ev_l0, ev_l1, ev_l2, ev_l3, ev_l4, ev_l5, ev_l6, ev_l7, ev_l8, ev_l9, ev_l10, ev_l11, ev_rf, ev_gi, ev_gi1, ev_gi2, ev_gr, ev_gr1, ev_at0, ev_at, ev_al, ev_al2, ev_al1, ev_an, ev_an1, ev_vs0, ev_vs, ev_vs2, ev_vs1, ev_ca, ev_ca1, ev_cv, ev_cv1, ev_cv2, ev_if, ev_if1, ev_cmp, ev_cmp2, ev_cmp1, ev_not, ev_not1, ev_and, ev_and1, ev_or, ev_or1, ev_e, ev_e1, ev_cif, ev_cif1, ev_qlt, ev_qle, ev_qgt, ev_qge, ev_qeq, ev_qne, ev_skip, ev_brk, ev_cnt, ev_retv, ev_seq, ev_seq0, ev_seq1, ev_seq2, ev_seq3, ev_seqi, ev_sif, ev_sif1, ev_ret, ev_ret1, ev_retz, ev_retzb, ev_retzc, ev_retz1, ev_retc, ev_asg, ev_s0, ev_s1, ev_s2, ev_s3, ev_s4, ev_s5, ev_s6, ev_s7, ev_s8, ev_s9, ev_s10, ev_s11, ev_exp, ev_exp1, ev_pf, ev_pf2, ev_pf1, ev_pz, ev_pz2, ev_pz1, ev_of, ev_of2, ev_of1, ev_st, ev_as, ev_as3, ev_as2, ev_as1, ev_oa, ev_oa3, ev_oa2, ev_oa1, ev_oa0, ev_cp, ev_cp3, ev_cp2, ev_cp1, ev_sw, ev_sw1, ev_swb0, ev_swb1, ev_swb3, ev_swbi, ev_fin3, ev_fin0, ev_fini, ev_iv, ev_ic, ev_b1, ev_b2, ev_b3, ev_b4, ev_b5, ev_b6, ev_or12, ev_lp, ev_lc, ev_lb0, ev_lb1, ev_lb2, ev_lb3, ev_lbi, ev_lu, ev_ass, Int.reduceAdd, Int.reduceSub, Int.reduceMul, Int.reduceNeg, Int.reduceLT, Int.reduceLE, Int.reduceGT, Int.reduceGE, Int.reduceEq, Int.reduceNe, Int.reduceDiv, Int.reduceMod, Int.reduceToNat, Nat.reduceAdd, Nat.reduceMul, Nat.reduceSub, Nat.reduceLT, Nat.reduceEqDiff, Int.reduceNatCast', reduceIte, ite_true, ite_false, if_true, if_false, decide_eq_true_eq, decide_true, decide_false, decide_not, Bool.not_eq_true', decide_eq_false_iff_not, Bool.not_not, Bool.and_eq_true, Bool.or_eq_true, Bool.not_true, Bool.not_false, not_true_eq_false, not_false_eq_true, true_and, and_true, false_and, and_false, true_or, or_true, false_or, or_false, Bool.true_and, Bool.and_true, Bool.false_and, Bool.and_false, Bool.true_or, Bool.or_true, Bool.or_false, Bool.false_or, Bool.not_eq_false', Bool.true_eq_false, Bool.false_eq_true, eq_self, Classical.not_not, ite_not, ne_eq, Option.some.injEq, Prod.mk.injEq, L_1, L_5, L_39, L_46, L_47, L_50, L_51, s0, v1, q1, q2, q3, q4, at1, r768, eq_true kn, bc, ri3, vi, e1, y1, hf, pi, g1, rd]
          | some d =>
            rw [e] at g1 g4 ln
            have g1 : f9_find [39, (vnL σ pl).getD i 0, psN (rdL σ pl) s] τ = some (1, υ) := g1
            have ln : lateN σ pl (rdL σ pl) ((vnL σ pl).getD i 0) s = d.2 := ln
            have d0 : 0 ≤ d.2 := g4.1
            have d11 : υ 39 11 = d.2 := g4.2.1
            have ez : d.2 = encL (lateN σ pl (rdL σ pl) ((vnL σ pl).getD i 0) s) := by rw [ln]; exact (if_neg (by omega)).symm
            obtain ⟨p1, p2⟩ := fin υ d.2 fu g2 ez
            refine ⟨updM υ 51 (256 * (i : Int) + s) d.2, ?_, p1, p2⟩
            rw [← ez]
            simp only [u5_lateOf, b5_lateOf, ev_op, ev_op2, ev_op1, ev_dv, ev_dv2, ev_dv1, ev_un, ev_un1, ev_lit, ev_l0, ev_l1, ev_l2, ev_l3, ev_l4, ev_l5, ev_l6, ev_l7, ev_l8, ev_l9, ev_l10, ev_l11, ev_rf, ev_gi, ev_gi1, ev_gi2, ev_gr, ev_gr1, ev_at0, ev_at, ev_al, ev_al2, ev_al1, ev_an, ev_an1, ev_vs0, ev_vs, ev_vs2, ev_vs1, ev_ca, ev_ca1, ev_cv, ev_cv1, ev_cv2, ev_if, ev_if1, ev_cmp, ev_cmp2, ev_cmp1, ev_not, ev_not1, ev_and, ev_and1, ev_or, ev_or1, ev_e, ev_e1, ev_cif, ev_cif1, ev_qlt, ev_qle, ev_qgt, ev_qge, ev_qeq, ev_qne, ev_skip, ev_brk, ev_cnt, ev_retv, ev_seq, ev_seq0, ev_seq1, ev_seq2, ev_seq3, ev_seqi, ev_sif, ev_sif1, ev_ret, ev_ret1, ev_retz, ev_retzb, ev_retzc, ev_retz1, ev_retc, ev_asg, ev_s0, ev_s1, ev_s2, ev_s3, ev_s4, ev_s5, ev_s6, ev_s7, ev_s8, ev_s9, ev_s10, ev_s11, ev_exp, ev_exp1, ev_pf, ev_pf2, ev_pf1, ev_pz, ev_pz2, ev_pz1, ev_of, ev_of2, ev_of1, ev_st, ev_as, ev_as3, ev_as2, ev_as1, ev_oa, ev_oa3, ev_oa2, ev_oa1, ev_oa0, ev_cp, ev_cp3, ev_cp2, ev_cp1, ev_sw, ev_sw1, ev_swb0, ev_swb1, ev_swb3, ev_swbi, ev_fin3, ev_fin0, ev_fini, ev_iv, ev_ic, ev_b1, ev_b2, ev_b3, ev_b4, ev_b5, ev_b6, ev_or12, ev_lp, ev_lc, ev_lb0, ev_lb1, ev_lb2, ev_lb3, ev_lbi, ev_lu, ev_ass, Int.reduceAdd, Int.reduceSub, Int.reduceMul, Int.reduceNeg, Int.reduceLT, Int.reduceLE, Int.reduceGT, Int.reduceGE, Int.reduceEq, Int.reduceNe, Int.reduceDiv, Int.reduceMod, Int.reduceToNat, Nat.reduceAdd, Nat.reduceMul, Nat.reduceSub, Nat.reduceLT, Nat.reduceEqDiff, Int.reduceNatCast', reduceIte, ite_true, ite_false, if_true, if_false, decide_eq_true_eq, decide_true, decide_false, decide_not, Bool.not_eq_true', decide_eq_false_iff_not, Bool.not_not, Bool.and_eq_true, Bool.or_eq_true, Bool.not_true, Bool.not_false, not_true_eq_false, not_false_eq_true, true_and, and_true, false_and, and_false, true_or, or_true, false_or, or_false, Bool.true_and, Bool.and_true, Bool.false_and, Bool.and_false, Bool.true_or, Bool.or_true, Bool.or_false, Bool.false_or, Bool.not_eq_false', Bool.true_eq_false, Bool.false_eq_true, eq_self, Classical.not_not, ite_not, ne_eq, Option.some.injEq, Prod.mk.injEq, L_1, L_5, L_39, L_46, L_47, L_50, L_51, s0, v1, q1, q2, q3, q4, at1, r768, eq_true kn, bc, ri3, vi, e1, y1, hf, pi, g1, d11, rd]
        · rw [if_neg y2] at hf
          rw [if_neg fun z => y2 z.2] at ln
          have ez : (-3 : Int) = encL (lateN σ pl (rdL σ pl) ((vnL σ pl).getD i 0) s) := by rw [ln]; rfl
          obtain ⟨p1, p2⟩ := fin τ (-3) fr (fun _ _ _ => rfl) ez
          refine ⟨updM τ 51 (256 * (i : Int) + s) (-3), ?_, p1, p2⟩
          rw [← ez]
          simp only [u5_lateOf, b5_lateOf, ev_op, ev_op2, ev_op1, ev_dv, ev_dv2, ev_dv1, ev_un, ev_un1, ev_lit, ev_l0, ev_l1, ev_l2, ev_l3, ev_l4, ev_l5, ev_l6, ev_l7, ev_l8, ev_l9, ev_l10, ev_l11, ev_rf, ev_gi, ev_gi1, ev_gi2, ev_gr, ev_gr1, ev_at0, ev_at, ev_al, ev_al2, ev_al1, ev_an, ev_an1, ev_vs0, ev_vs, ev_vs2, ev_vs1, ev_ca, ev_ca1, ev_cv, ev_cv1, ev_cv2, ev_if, ev_if1, ev_cmp, ev_cmp2, ev_cmp1, ev_not, ev_not1, ev_and, ev_and1, ev_or, ev_or1, ev_e, ev_e1, ev_cif, ev_cif1, ev_qlt, ev_qle, ev_qgt, ev_qge, ev_qeq, ev_qne, ev_skip, ev_brk, ev_cnt, ev_retv, ev_seq, ev_seq0, ev_seq1, ev_seq2, ev_seq3, ev_seqi, ev_sif, ev_sif1, ev_ret, ev_ret1, ev_retz, ev_retzb, ev_retzc, ev_retz1, ev_retc, ev_asg, ev_s0, ev_s1, ev_s2, ev_s3, ev_s4, ev_s5, ev_s6, ev_s7, ev_s8, ev_s9, ev_s10, ev_s11, ev_exp, ev_exp1, ev_pf, ev_pf2, ev_pf1, ev_pz, ev_pz2, ev_pz1, ev_of, ev_of2, ev_of1, ev_st, ev_as, ev_as3, ev_as2, ev_as1, ev_oa, ev_oa3, ev_oa2, ev_oa1, ev_oa0, ev_cp, ev_cp3, ev_cp2, ev_cp1, ev_sw, ev_sw1, ev_swb0, ev_swb1, ev_swb3, ev_swbi, ev_fin3, ev_fin0, ev_fini, ev_iv, ev_ic, ev_b1, ev_b2, ev_b3, ev_b4, ev_b5, ev_b6, ev_or12, ev_lp, ev_lc, ev_lb0, ev_lb1, ev_lb2, ev_lb3, ev_lbi, ev_lu, ev_ass, Int.reduceAdd, Int.reduceSub, Int.reduceMul, Int.reduceNeg, Int.reduceLT, Int.reduceLE, Int.reduceGT, Int.reduceGE, Int.reduceEq, Int.reduceNe, Int.reduceDiv, Int.reduceMod, Int.reduceToNat, Nat.reduceAdd, Nat.reduceMul, Nat.reduceSub, Nat.reduceLT, Nat.reduceEqDiff, Int.reduceNatCast', reduceIte, ite_true, ite_false, if_true, if_false, decide_eq_true_eq, decide_true, decide_false, decide_not, Bool.not_eq_true', decide_eq_false_iff_not, Bool.not_not, Bool.and_eq_true, Bool.or_eq_true, Bool.not_true, Bool.not_false, not_true_eq_false, not_false_eq_true, true_and, and_true, false_and, and_false, true_or, or_true, false_or, or_false, Bool.true_and, Bool.and_true, Bool.false_and, Bool.and_false, Bool.true_or, Bool.or_true, Bool.or_false, Bool.false_or, Bool.not_eq_false', Bool.true_eq_false, Bool.false_eq_true, eq_self, Classical.not_not, ite_not, ne_eq, Option.some.injEq, Prod.mk.injEq, L_1, L_5, L_46, L_47, L_50, L_51, s0, v1, q1, q2, q3, q4, at1, r768, eq_true kn, bc, ri3, vi, e1, y1, hf, rd]
      · rw [if_neg fun z => y1 z.1] at ln
        have ez : (-3 : Int) = encL (lateN σ pl (rdL σ pl) ((vnL σ pl).getD i 0) s) := by rw [ln]; rfl
        obtain ⟨p1, p2⟩ := fin τ (-3) fr (fun _ _ _ => rfl) ez
        refine ⟨updM τ 51 (256 * (i : Int) + s) (-3), ?_, p1, p2⟩
        rw [← ez]
        simp only [u5_lateOf, b5_lateOf, ev_op, ev_op2, ev_op1, ev_dv, ev_dv2, ev_dv1, ev_un, ev_un1, ev_lit, ev_l0, ev_l1, ev_l2, ev_l3, ev_l4, ev_l5, ev_l6, ev_l7, ev_l8, ev_l9, ev_l10, ev_l11, ev_rf, ev_gi, ev_gi1, ev_gi2, ev_gr, ev_gr1, ev_at0, ev_at, ev_al, ev_al2, ev_al1, ev_an, ev_an1, ev_vs0, ev_vs, ev_vs2, ev_vs1, ev_ca, ev_ca1, ev_cv, ev_cv1, ev_cv2, ev_if, ev_if1, ev_cmp, ev_cmp2, ev_cmp1, ev_not, ev_not1, ev_and, ev_and1, ev_or, ev_or1, ev_e, ev_e1, ev_cif, ev_cif1, ev_qlt, ev_qle, ev_qgt, ev_qge, ev_qeq, ev_qne, ev_skip, ev_brk, ev_cnt, ev_retv, ev_seq, ev_seq0, ev_seq1, ev_seq2, ev_seq3, ev_seqi, ev_sif, ev_sif1, ev_ret, ev_ret1, ev_retz, ev_retzb, ev_retzc, ev_retz1, ev_retc, ev_asg, ev_s0, ev_s1, ev_s2, ev_s3, ev_s4, ev_s5, ev_s6, ev_s7, ev_s8, ev_s9, ev_s10, ev_s11, ev_exp, ev_exp1, ev_pf, ev_pf2, ev_pf1, ev_pz, ev_pz2, ev_pz1, ev_of, ev_of2, ev_of1, ev_st, ev_as, ev_as3, ev_as2, ev_as1, ev_oa, ev_oa3, ev_oa2, ev_oa1, ev_oa0, ev_cp, ev_cp3, ev_cp2, ev_cp1, ev_sw, ev_sw1, ev_swb0, ev_swb1, ev_swb3, ev_swbi, ev_fin3, ev_fin0, ev_fini, ev_iv, ev_ic, ev_b1, ev_b2, ev_b3, ev_b4, ev_b5, ev_b6, ev_or12, ev_lp, ev_lc, ev_lb0, ev_lb1, ev_lb2, ev_lb3, ev_lbi, ev_lu, ev_ass, Int.reduceAdd, Int.reduceSub, Int.reduceMul, Int.reduceNeg, Int.reduceLT, Int.reduceLE, Int.reduceGT, Int.reduceGE, Int.reduceEq, Int.reduceNe, Int.reduceDiv, Int.reduceMod, Int.reduceToNat, Nat.reduceAdd, Nat.reduceMul, Nat.reduceSub, Nat.reduceLT, Nat.reduceEqDiff, Int.reduceNatCast', reduceIte, ite_true, ite_false, if_true, if_false, decide_eq_true_eq, decide_true, decide_false, decide_not, Bool.not_eq_true', decide_eq_false_iff_not, Bool.not_not, Bool.and_eq_true, Bool.or_eq_true, Bool.not_true, Bool.not_false, not_true_eq_false, not_false_eq_true, true_and, and_true, false_and, and_false, true_or, or_true, false_or, or_false, Bool.true_and, Bool.and_true, Bool.false_and, Bool.and_false, Bool.true_or, Bool.or_true, Bool.or_false, Bool.false_or, Bool.not_eq_false', Bool.true_eq_false, Bool.false_eq_true, eq_self, Classical.not_not, ite_not, ne_eq, Option.some.injEq, Prod.mk.injEq, L_1, L_5, L_46, L_47, L_50, L_51, s0, v1, q1, q2, q3, q4, at1, r768, eq_true kn, bc, ri3, vi, e1, y1, rd]
    · have ev : τ 51 (256 * (i : Int) + s) = encL (lateN σ pl (rdL σ pl) ((vnL σ pl).getD i 0) s) := hh.resolve_left kn
      refine ⟨τ, ?_, ⟨fr, ⟨v1, v2⟩, ⟨b1, b2, b3⟩, hl⟩, fun _ _ _ _ => rfl⟩
      rw [← ev]
      simp only [u5_lateOf, b5_lateOf, ev_op, ev_op2, ev_op1, ev_dv, ev_dv2, ev_dv1, ev_un, ev_un1, ev_lit, ev_l0, ev_l1, ev_l2, ev_l3, ev_l4, ev_l5, ev_l6, ev_l7, ev_l8, ev_l9, ev_l10, ev_l11, ev_rf, ev_gi, ev_gi1, ev_gi2, ev_gr, ev_gr1, ev_at0, ev_at, ev_al, ev_al2, ev_al1, ev_an, ev_an1, ev_vs0, ev_vs, ev_vs2, ev_vs1, ev_ca, ev_ca1, ev_cv, ev_cv1, ev_cv2, ev_if, ev_if1, ev_cmp, ev_cmp2, ev_cmp1, ev_not, ev_not1, ev_and, ev_and1, ev_or, ev_or1, ev_e, ev_e1, ev_cif, ev_cif1, ev_qlt, ev_qle, ev_qgt, ev_qge, ev_qeq, ev_qne, ev_skip, ev_brk, ev_cnt, ev_retv, ev_seq, ev_seq0, ev_seq1, ev_seq2, ev_seq3, ev_seqi, ev_sif, ev_sif1, ev_ret, ev_ret1, ev_retz, ev_retzb, ev_retzc, ev_retz1, ev_retc, ev_asg, ev_s0, ev_s1, ev_s2, ev_s3, ev_s4, ev_s5, ev_s6, ev_s7, ev_s8, ev_s9, ev_s10, ev_s11, ev_exp, ev_exp1, ev_pf, ev_pf2, ev_pf1, ev_pz, ev_pz2, ev_pz1, ev_of, ev_of2, ev_of1, ev_st, ev_as, ev_as3, ev_as2, ev_as1, ev_oa, ev_oa3, ev_oa2, ev_oa1, ev_oa0, ev_cp, ev_cp3, ev_cp2, ev_cp1, ev_sw, ev_sw1, ev_swb0, ev_swb1, ev_swb3, ev_swbi, ev_fin3, ev_fin0, ev_fini, ev_iv, ev_ic, ev_b1, ev_b2, ev_b3, ev_b4, ev_b5, ev_b6, ev_or12, ev_lp, ev_lc, ev_lb0, ev_lb1, ev_lb2, ev_lb3, ev_lbi, ev_lu, ev_ass, Int.reduceAdd, Int.reduceSub, Int.reduceMul, Int.reduceNeg, Int.reduceLT, Int.reduceLE, Int.reduceGT, Int.reduceGE, Int.reduceEq, Int.reduceNe, Int.reduceDiv, Int.reduceMod, Int.reduceToNat, Nat.reduceAdd, Nat.reduceMul, Nat.reduceSub, Nat.reduceLT, Nat.reduceEqDiff, Int.reduceNatCast', reduceIte, ite_true, ite_false, if_true, if_false, decide_eq_true_eq, decide_true, decide_false, decide_not, Bool.not_eq_true', decide_eq_false_iff_not, Bool.not_not, Bool.and_eq_true, Bool.or_eq_true, Bool.not_true, Bool.not_false, not_true_eq_false, not_false_eq_true, true_and, and_true, false_and, and_false, true_or, or_true, false_or, or_false, Bool.true_and, Bool.and_true, Bool.false_and, Bool.and_false, Bool.true_or, Bool.or_true, Bool.or_false, Bool.false_or, Bool.not_eq_false', Bool.true_eq_false, Bool.false_eq_true, eq_self, Classical.not_not, ite_not, ne_eq, Option.some.injEq, Prod.mk.injEq, L_46, L_51, s0, v1, q1, q2, q3, q4, at1, r768, kn]
/-- the digits of a way -/
def wyD (k n w : Nat) : List Int := (dg k n w).map fun d : Nat => (d : Int)
theorem s5_spread {σ τ : cvM} {pl : Int} (k3 : (vnL σ pl).length ≤ 3) (l8 : (rdL σ pl).length ≤ 8) (hi : loI σ pl τ) {w : Nat} (hw : w < (vnL σ pl).length ^ (rdL σ pl).length) : ∃ υ, f5_spread [46, (w : Int)] τ = some (0, υ) ∧ (∀ k j : Int, k ≠ 52 → υ k j = τ k j) ∧ ∀ j : Int, 0 ≤ j → j < 3 → υ 52 j = ceM (wyD (vnL σ pl).length (rdL σ pl).length w) j := by
  obtain ⟨fr, ⟨v1, v2⟩, ⟨b1, b2, b3⟩, hl⟩ := hi
  generalize hk : (vnL σ pl).length = k at v1 k3 hw ⊢
  generalize hn : (rdL σ pl).length = n at b1 l8 hw ⊢
  have sf := sJ_fill L_52 (v := 0) (show (0 : Int) ≤ 3 ∧ (3 : Int) < 100000 by decide) τ
  generalize h3 : fM τ 52 (fun _ => 0) 3 = υ3 at sf
  have o3 : ∀ k i : Int, k ≠ 52 → υ3 k i = τ k i := fun k i hk => by rw [← h3, fM_ne _ _ _ hk]
  have z3 : ∀ j : Int, 0 ≤ j → j < 3 → υ3 52 j = 0 := fun j j0 j1 => by rw [← h3, fM_at _ _ ⟨j0, j1⟩]
  have g4 : υ3 46 4 = (k : Int) := by rw [o3 46 4 (by decide), v1]
  have g2 : υ3 47 2 = (n : Int) := by rw [o3 47 2 (by decide), b1]
  by_cases k0 : k = 0
  · subst k0
    have n0 : n = 0 := by
      cases n with
      | zero => rfl
      | succ n => rw [Nat.pow_succ, Nat.mul_zero] at hw; omega
    subst n0
    have g4 : υ3 46 4 = 0 := g4
    refine ⟨υ3, ?_, o3, fun j j0 j1 => ?_⟩
    · simp only [u5_spread, b5_spread, ev_op, ev_op2, ev_op1, ev_dv, ev_dv2, ev_dv1, ev_un, ev_un1, ev_lit, ev_l0, ev_l1, ev_l2, ev_l3, ev_l4, ev_l5, ev_l6, ev_l7, ev_l8, ev_l9, ev_l10, ev_l11, ev_rf, ev_gi, ev_gi1, ev_gi2, ev_gr, ev_gr1, ev_at0, ev_at, ev_al, ev_al2, ev_al1, ev_an, ev_an1, ev_vs0, ev_vs, ev_vs2, ev_vs1, ev_ca, ev_ca1, ev_cv, ev_cv1, ev_cv2, ev_if, ev_if1, ev_cmp, ev_cmp2, ev_cmp1, ev_not, ev_not1, ev_and, ev_and1, ev_or, ev_or1, ev_e, ev_e1, ev_cif, ev_cif1, ev_qlt, ev_qle, ev_qgt, ev_qge, ev_qeq, ev_qne, ev_skip, ev_brk, ev_cnt, ev_retv, ev_seq, ev_seq0, ev_seq1, ev_seq2, ev_seq3, ev_seqi, ev_sif, ev_sif1, ev_ret, ev_ret1, ev_retz, ev_retzb, ev_retzc, ev_retz1, ev_retc, ev_asg, ev_s0, ev_s1, ev_s2, ev_s3, ev_s4, ev_s5, ev_s6, ev_s7, ev_s8, ev_s9, ev_s10, ev_s11, ev_exp, ev_exp1, ev_pf, ev_pf2, ev_pf1, ev_pz, ev_pz2, ev_pz1, ev_of, ev_of2, ev_of1, ev_st, ev_as, ev_as3, ev_as2, ev_as1, ev_oa, ev_oa3, ev_oa2, ev_oa1, ev_oa0, ev_cp, ev_cp3, ev_cp2, ev_cp1, ev_sw, ev_sw1, ev_swb0, ev_swb1, ev_swb3, ev_swbi, ev_fin3, ev_fin0, ev_fini, ev_iv, ev_ic, ev_b1, ev_b2, ev_b3, ev_b4, ev_b5, ev_b6, ev_or12, ev_lp, ev_lc, ev_lb0, ev_lb1, ev_lb2, ev_lb3, ev_lbi, ev_lu, ev_ass, Int.reduceAdd, Int.reduceSub, Int.reduceMul, Int.reduceNeg, Int.reduceLT, Int.reduceLE, Int.reduceGT, Int.reduceGE, Int.reduceEq, Int.reduceNe, Int.reduceDiv, Int.reduceMod, Int.reduceToNat, Nat.reduceAdd, Nat.reduceMul, Nat.reduceSub, Nat.reduceLT, Nat.reduceEqDiff, Int.reduceNatCast', reduceIte, ite_true, ite_false, if_true, if_false, decide_eq_true_eq, decide_true, decide_false, decide_not, Bool.not_eq_true', decide_eq_false_iff_not, Bool.not_not, Bool.and_eq_true, Bool.or_eq_true, Bool.not_true, Bool.not_false, not_true_eq_false, not_false_eq_true, true_and, and_true, false_and, and_false, true_or, or_true, false_or, or_false, Bool.true_and, Bool.and_true, Bool.false_and, Bool.and_false, Bool.true_or, Bool.or_true, Bool.or_false, Bool.false_or, Bool.not_eq_false', Bool.true_eq_false, Bool.false_eq_true, eq_self, Classical.not_not, ite_not, ne_eq, Option.some.injEq, Prod.mk.injEq, L_46, L_52, sf, g4]
    · rw [z3 j j0 j1]
      exact (ceM_0 j0).symm
  · have q1 : ¬ (k : Int) < 1 := by omega
    have kz : (k : Int) ≠ 0 := by omega
    have sn : osub (n : Int) 1 = (n : Int) - 1 := n_sub (by omega)
    suffices hs : WF (f5_spread [46, (w : Int)] τ) (fun v υ => v = 0 ∧ (∀ k j : Int, k ≠ 52 → υ k j = τ k j) ∧ ∀ j : Int, 0 ≤ j → j < 3 → υ 52 j = ceM (wyD k n w) j) by
      obtain ⟨v, υ, e1, rfl, e2⟩ := hs
      exact ⟨υ, e1, e2⟩
    simp only [u5_spread, b5_spread, ev_op, ev_op2, ev_op1, ev_dv, ev_dv2, ev_dv1, ev_un, ev_un1, ev_lit, ev_l0, ev_l1, ev_l2, ev_l3, ev_l4, ev_l5, ev_l6, ev_l7, ev_l8, ev_l9, ev_l10, ev_l11, ev_rf, ev_gi, ev_gi1, ev_gi2, ev_gr, ev_gr1, ev_at0, ev_at, ev_al, ev_al2, ev_al1, ev_an, ev_an1, ev_vs0, ev_vs, ev_vs2, ev_vs1, ev_ca, ev_ca1, ev_cv, ev_cv1, ev_cv2, ev_if, ev_if1, ev_cmp, ev_cmp2, ev_cmp1, ev_not, ev_not1, ev_and, ev_and1, ev_or, ev_or1, ev_e, ev_e1, ev_cif, ev_cif1, ev_qlt, ev_qle, ev_qgt, ev_qge, ev_qeq, ev_qne, ev_skip, ev_brk, ev_cnt, ev_retv, ev_seq, ev_seq0, ev_seq1, ev_seq2, ev_seq3, ev_seqi, ev_sif, ev_sif1, ev_ret, ev_ret1, ev_retz, ev_retzb, ev_retzc, ev_retz1, ev_retc, ev_asg, ev_s0, ev_s1, ev_s2, ev_s3, ev_s4, ev_s5, ev_s6, ev_s7, ev_s8, ev_s9, ev_s10, ev_s11, ev_exp, ev_exp1, ev_pf, ev_pf2, ev_pf1, ev_pz, ev_pz2, ev_pz1, ev_of, ev_of2, ev_of1, ev_st, ev_as, ev_as3, ev_as2, ev_as1, ev_oa, ev_oa3, ev_oa2, ev_oa1, ev_oa0, ev_cp, ev_cp3, ev_cp2, ev_cp1, ev_sw, ev_sw1, ev_swb0, ev_swb1, ev_swb3, ev_swbi, ev_fin3, ev_fin0, ev_fini, ev_iv, ev_ic, ev_b1, ev_b2, ev_b3, ev_b4, ev_b5, ev_b6, ev_or12, ev_lp, ev_lc, ev_lb0, ev_lb1, ev_lb2, ev_lb3, ev_lbi, ev_lu, ev_ass, Int.reduceAdd, Int.reduceSub, Int.reduceMul, Int.reduceNeg, Int.reduceLT, Int.reduceLE, Int.reduceGT, Int.reduceGE, Int.reduceEq, Int.reduceNe, Int.reduceDiv, Int.reduceMod, Int.reduceToNat, Nat.reduceAdd, Nat.reduceMul, Nat.reduceSub, Nat.reduceLT, Nat.reduceEqDiff, Int.reduceNatCast', reduceIte, ite_true, ite_false, if_true, if_false, decide_eq_true_eq, decide_true, decide_false, decide_not, Bool.not_eq_true', decide_eq_false_iff_not, Bool.not_not, Bool.and_eq_true, Bool.or_eq_true, Bool.not_true, Bool.not_false, not_true_eq_false, not_false_eq_true, true_and, and_true, false_and, and_false, true_or, or_true, false_or, or_false, Bool.true_and, Bool.and_true, Bool.false_and, Bool.and_false, Bool.true_or, Bool.or_true, Bool.or_false, Bool.false_or, Bool.not_eq_false', Bool.true_eq_false, Bool.false_eq_true, eq_self, Classical.not_not, ite_not, ne_eq, Option.some.injEq, Prod.mk.injEq, L_46, L_47, L_52, sf, g4, g2, q1, sn]
    clear sn
    have dl := dg_len k n w
    have wl : (wyD k n w).length = n := by unfold wyD; rw [List.length_map, dl]
    have wk : w < 6561 := by
      have a : k ^ n ≤ 3 ^ n := Nat.pow_le_pow_left k3 n
      have b : 3 ^ n ≤ 3 ^ 8 := Nat.pow_le_pow_right (by decide) l8
      have c : (3 : Nat) ^ 8 = 6561 := by decide
      omega
    have gd : ∀ i : Nat, i < n → (wyD k n w).getD i (-1) = ((w / k ^ (n - 1 - i) % k : Nat) : Int) := fun i hi => by
      have g := dg_get n w hw i hi
      unfold wyD
      rw [List.getD_eq_getElem?_getD, List.getElem?_map]
      rw [List.getD_eq_getElem?_getD] at g
      rw [List.getElem?_eq_getElem (by omega)] at g ⊢
      show ((dg k n w)[i] : Int) = _
      have g : (dg k n w)[i]'(by omega) = w / k ^ (n - 1 - i) % k := g
      rw [g]
    refine wf_lp0 (fun r => ∃ E υ, r = (0, 0, E, υ) ∧ (∀ k j : Int, k ≠ 52 → υ k j = τ k j) ∧ ∀ j : Int, 0 ≤ j → j < 3 → υ 52 j = ceM (wyD k n w) j) (wq_I (fun t E υ => ∃ tn : Nat, (tn : Int) = t ∧ E = [some 46, some (w : Int), some ((w / k ^ tn : Nat) : Int), some ((n : Int) - 1 - t)] ∧ (∀ k j : Int, k ≠ 52 → υ k j = τ k j) ∧ ∀ j : Int, 0 ≤ j → j < 3 → υ 52 j = bI (fun i => decide ((n : Int) - t ≤ i) && decide ((wyD k n w).getD i.toNat (-1) = j)) 8) 0 (n : Int) (by omega) ⟨0, rfl, by rw [Nat.pow_zero, Nat.div_one, Int.sub_zero], o3, fun j j0 j1 => ?_⟩ ?_ ?_) ?_
    · rw [z3 j j0 j1]
      refine (tb_ext (bI_lt _ _).1 (Int.le_refl 0) fun i i0 => ?_).symm
      rw [tb_bI _ _ i0, show tb 0 i = false from Nat.zero_testBit _]
      by_cases y : (n : Int) - 0 ≤ i
      · rw [List.getD_eq_getElem?_getD, List.getElem?_eq_none (by omega)]
        rw [decide_eq_false (show ¬ ((none : Option Int).getD (-1)) = j by show ¬ (-1 : Int) = j; omega), Bool.and_false, Bool.and_false]
      · rw [decide_eq_false y, Bool.false_and, Bool.and_false]
    · rintro t E υ t0 t1 ⟨tn, et, rfl, fo, fs⟩
      obtain ⟨i, ei⟩ : ∃ i : Nat, (n : Int) - 1 - t = (i : Int) := ⟨((n : Int) - 1 - t).toNat, by omega⟩
      have il : i < n := by omega
      have i8 : i < 8 := by omega
      have tni : tn = n - 1 - i := by omega
      have i0 : 0 ≤ (i : Int) := by omega
      have dgi := gd i il
      rw [← tni] at dgi
      have dlt : w / k ^ tn % k < k := Nat.mod_lt _ (Nat.pos_of_ne_zero k0)
      have nxe : w / k ^ (tn + 1) = w / k ^ tn / k := by rw [Nat.pow_succ, Nat.div_div_eq_div_mul]
      have h46 : υ 46 4 = (k : Int) := by rw [fo 46 4 (by decide), v1]
      have rdb : ((w / k ^ tn : Nat) : Int) < 2147483648 := by
        have := Nat.div_le_self w (k ^ tn)
        omega
      have rd0 : 0 ≤ ((w / k ^ tn : Nat) : Int) := Int.natCast_nonneg _
      have rm : rmd ((w / k ^ tn : Nat) : Int) (k : Int) = ((w / k ^ tn % k : Nat) : Int) := by
        rw [n_rmd rd0, Int.natCast_emod]
      have dvv : odiv ((w / k ^ tn : Nat) : Int) (k : Int) = ((w / k ^ (tn + 1) : Nat) : Int) := by
        rw [n_div ⟨rd0, rdb, by omega⟩, nxe]
        rfl
      have et2 : ((tn + 1 : Nat) : Int) = t + 1 := by omega
      have en : (n : Int) - 1 - (t + 1) = (i : Int) - 1 := by omega
      have fS := fs ((w / k ^ tn % k : Nat) : Int) (Int.natCast_nonneg _) (by omega)
      rw [ei, en]
      generalize ((w / k ^ tn : Nat) : Int) = R at rm dvv ⊢
      generalize hdd : ((w / k ^ tn % k : Nat) : Int) = d at rm dgi fS ⊢
      have d3 : 0 ≤ d ∧ d < 3 := by omega
      have bl := bI_le (fun i => decide ((n : Int) - t ≤ i) && decide ((wyD k n w).getD i.toNat (-1) = d)) 8 8 (by decide)
      have o1 := i_or (x := bI (fun i => decide ((n : Int) - t ≤ i) && decide ((wyD k n w).getD i.toNat (-1) = d)) 8) (p := (i : Int)) 8 (by decide) bl (by omega)
      have am : Unit → oadd (i : Int) (-1) = (i : Int) - 1 := fun _ => n_add (by omega)
      have h46b : ∀ v, updM υ 52 d v 46 4 = (k : Int) := fun v => by rw [upd_ne _ (by decide), h46]
      simp only [ev_op, ev_op2, ev_op1, ev_dv, ev_dv2, ev_dv1, ev_un, ev_un1, ev_lit, ev_l0, ev_l1, ev_l2, ev_l3, ev_l4, ev_l5, ev_l6, ev_l7, ev_l8, ev_l9, ev_l10, ev_l11, ev_rf, ev_gi, ev_gi1, ev_gi2, ev_gr, ev_gr1, ev_at0, ev_at, ev_al, ev_al2, ev_al1, ev_an, ev_an1, ev_vs0, ev_vs, ev_vs2, ev_vs1, ev_ca, ev_ca1, ev_cv, ev_cv1, ev_cv2, ev_if, ev_if1, ev_cmp, ev_cmp2, ev_cmp1, ev_not, ev_not1, ev_and, ev_and1, ev_or, ev_or1, ev_e, ev_e1, ev_cif, ev_cif1, ev_qlt, ev_qle, ev_qgt, ev_qge, ev_qeq, ev_qne, ev_skip, ev_brk, ev_cnt, ev_retv, ev_seq, ev_seq0, ev_seq1, ev_seq2, ev_seq3, ev_seqi, ev_sif, ev_sif1, ev_ret, ev_ret1, ev_retz, ev_retzb, ev_retzc, ev_retz1, ev_retc, ev_asg, ev_s0, ev_s1, ev_s2, ev_s3, ev_s4, ev_s5, ev_s6, ev_s7, ev_s8, ev_s9, ev_s10, ev_s11, ev_exp, ev_exp1, ev_pf, ev_pf2, ev_pf1, ev_pz, ev_pz2, ev_pz1, ev_of, ev_of2, ev_of1, ev_st, ev_as, ev_as3, ev_as2, ev_as1, ev_oa, ev_oa3, ev_oa2, ev_oa1, ev_oa0, ev_cp, ev_cp3, ev_cp2, ev_cp1, ev_sw, ev_sw1, ev_swb0, ev_swb1, ev_swb3, ev_swbi, ev_fin3, ev_fin0, ev_fini, ev_iv, ev_ic, ev_b1, ev_b2, ev_b3, ev_b4, ev_b5, ev_b6, ev_or12, ev_lp, ev_lc, ev_lb0, ev_lb1, ev_lb2, ev_lb3, ev_lbi, ev_lu, ev_ass, Int.reduceAdd, Int.reduceSub, Int.reduceMul, Int.reduceNeg, Int.reduceLT, Int.reduceLE, Int.reduceGT, Int.reduceGE, Int.reduceEq, Int.reduceNe, Int.reduceDiv, Int.reduceMod, Int.reduceToNat, Nat.reduceAdd, Nat.reduceMul, Nat.reduceSub, Nat.reduceLT, Nat.reduceEqDiff, Int.reduceNatCast', reduceIte, ite_true, ite_false, if_true, if_false, decide_eq_true_eq, decide_true, decide_false, decide_not, Bool.not_eq_true', decide_eq_false_iff_not, Bool.not_not, Bool.and_eq_true, Bool.or_eq_true, Bool.not_true, Bool.not_false, not_true_eq_false, not_false_eq_true, true_and, and_true, false_and, and_false, true_or, or_true, false_or, or_false, Bool.true_and, Bool.and_true, Bool.false_and, Bool.and_false, Bool.true_or, Bool.or_true, Bool.or_false, Bool.false_or, Bool.not_eq_false', Bool.true_eq_false, Bool.false_eq_true, eq_self, Classical.not_not, ite_not, ne_eq, Option.some.injEq, Prod.mk.injEq, L_46, L_52, i0, h46, h46b, ev_dv1 _ _ _ _ kz, rm, d3, fS, o1, dvv, am ()]
      refine RS.go ?_
      refine ⟨tn + 1, et2, rfl, fun k j hk => by rw [upd_ne _ hk, fo k j hk], fun j j0 j1 => ?_⟩
      have lA := bI_lt (fun i => decide ((n : Int) - (t + 1) ≤ i) && decide ((wyD k n w).getD i.toNat (-1) = j)) 8
      by_cases y : j = d
      · rw [y, upd_at]
        rw [y] at lA
        have xl := xw_lt (x := bI (fun i => decide ((n : Int) - t ≤ i) && decide ((wyD k n w).getD i.toNat (-1) = d)) 8) (p := (i : Int)) (q := true) 8 bl (by omega)
        refine tb_ext xl.1 lA.1 fun a a0 => ?_
        rw [tb_xw i0 a0, tb_bI _ _ a0, tb_bI _ _ a0]
        by_cases z : a = (i : Int)
        · rw [if_pos z, z, decide_eq_true (show (i : Int) < 8 by omega), decide_eq_true (show (n : Int) - (t + 1) ≤ (i : Int) by omega), Int.toNat_natCast, dgi, decide_eq_true rfl]
          rfl
        · rw [if_neg z]
          by_cases z2 : (n : Int) - t ≤ a
          · rw [decide_eq_true z2, decide_eq_true (show (n : Int) - (t + 1) ≤ a by omega)]
          · rw [decide_eq_false z2, decide_eq_false (show ¬ (n : Int) - (t + 1) ≤ a by omega)]
      · rw [upd_ni y, fs j j0 j1]
        refine bI_ext fun a a0 a1 => ?_
        by_cases z : a = (i : Int)
        · rw [z, Int.toNat_natCast, dgi, decide_eq_false (show ¬ d = j from fun e => y e.symm), Bool.and_false, Bool.and_false]
        · by_cases z2 : (n : Int) - t ≤ a
          · rw [decide_eq_true z2, decide_eq_true (show (n : Int) - (t + 1) ≤ a by omega)]
          · rw [decide_eq_false z2, decide_eq_false (show ¬ (n : Int) - (t + 1) ≤ a by omega)]
    · rintro E υ ⟨tn, et, rfl, fo, fs⟩
      have q : ¬ 0 ≤ (n : Int) - 1 - (n : Int) := by omega
      simp only [ev_op, ev_op2, ev_op1, ev_dv, ev_dv2, ev_dv1, ev_un, ev_un1, ev_lit, ev_l0, ev_l1, ev_l2, ev_l3, ev_l4, ev_l5, ev_l6, ev_l7, ev_l8, ev_l9, ev_l10, ev_l11, ev_rf, ev_gi, ev_gi1, ev_gi2, ev_gr, ev_gr1, ev_at0, ev_at, ev_al, ev_al2, ev_al1, ev_an, ev_an1, ev_vs0, ev_vs, ev_vs2, ev_vs1, ev_ca, ev_ca1, ev_cv, ev_cv1, ev_cv2, ev_if, ev_if1, ev_cmp, ev_cmp2, ev_cmp1, ev_not, ev_not1, ev_and, ev_and1, ev_or, ev_or1, ev_e, ev_e1, ev_cif, ev_cif1, ev_qlt, ev_qle, ev_qgt, ev_qge, ev_qeq, ev_qne, ev_skip, ev_brk, ev_cnt, ev_retv, ev_seq, ev_seq0, ev_seq1, ev_seq2, ev_seq3, ev_seqi, ev_sif, ev_sif1, ev_ret, ev_ret1, ev_retz, ev_retzb, ev_retzc, ev_retz1, ev_retc, ev_asg, ev_s0, ev_s1, ev_s2, ev_s3, ev_s4, ev_s5, ev_s6, ev_s7, ev_s8, ev_s9, ev_s10, ev_s11, ev_exp, ev_exp1, ev_pf, ev_pf2, ev_pf1, ev_pz, ev_pz2, ev_pz1, ev_of, ev_of2, ev_of1, ev_st, ev_as, ev_as3, ev_as2, ev_as1, ev_oa, ev_oa3, ev_oa2, ev_oa1, ev_oa0, ev_cp, ev_cp3, ev_cp2, ev_cp1, ev_sw, ev_sw1, ev_swb0, ev_swb1, ev_swb3, ev_swbi, ev_fin3, ev_fin0, ev_fini, ev_iv, ev_ic, ev_b1, ev_b2, ev_b3, ev_b4, ev_b5, ev_b6, ev_or12, ev_lp, ev_lc, ev_lb0, ev_lb1, ev_lb2, ev_lb3, ev_lbi, ev_lu, ev_ass, Int.reduceAdd, Int.reduceSub, Int.reduceMul, Int.reduceNeg, Int.reduceLT, Int.reduceLE, Int.reduceGT, Int.reduceGE, Int.reduceEq, Int.reduceNe, Int.reduceDiv, Int.reduceMod, Int.reduceToNat, Nat.reduceAdd, Nat.reduceMul, Nat.reduceSub, Nat.reduceLT, Nat.reduceEqDiff, Int.reduceNatCast', reduceIte, ite_true, ite_false, if_true, if_false, decide_eq_true_eq, decide_true, decide_false, decide_not, Bool.not_eq_true', decide_eq_false_iff_not, Bool.not_not, Bool.and_eq_true, Bool.or_eq_true, Bool.not_true, Bool.not_false, not_true_eq_false, not_false_eq_true, true_and, and_true, false_and, and_false, true_or, or_true, false_or, or_false, Bool.true_and, Bool.and_true, Bool.false_and, Bool.and_false, Bool.true_or, Bool.or_true, Bool.or_false, Bool.false_or, Bool.not_eq_false', Bool.true_eq_false, Bool.false_eq_true, eq_self, Classical.not_not, ite_not, ne_eq, Option.some.injEq, Prod.mk.injEq, q]
      refine RS.done ⟨_, υ, rfl, fo, fun j j0 j1 => ?_⟩
      rw [fs j j0 j1]
      unfold ceM
      refine bI_ext fun a a0 a1 => ?_
      rw [decide_eq_true (show (n : Int) - (n : Int) ≤ a by omega), Bool.true_and]
    · rintro r ⟨E, υ, rfl, fo, fs⟩
      simp only [ev_op, ev_op2, ev_op1, ev_dv, ev_dv2, ev_dv1, ev_un, ev_un1, ev_lit, ev_l0, ev_l1, ev_l2, ev_l3, ev_l4, ev_l5, ev_l6, ev_l7, ev_l8, ev_l9, ev_l10, ev_l11, ev_rf, ev_gi, ev_gi1, ev_gi2, ev_gr, ev_gr1, ev_at0, ev_at, ev_al, ev_al2, ev_al1, ev_an, ev_an1, ev_vs0, ev_vs, ev_vs2, ev_vs1, ev_ca, ev_ca1, ev_cv, ev_cv1, ev_cv2, ev_if, ev_if1, ev_cmp, ev_cmp2, ev_cmp1, ev_not, ev_not1, ev_and, ev_and1, ev_or, ev_or1, ev_e, ev_e1, ev_cif, ev_cif1, ev_qlt, ev_qle, ev_qgt, ev_qge, ev_qeq, ev_qne, ev_skip, ev_brk, ev_cnt, ev_retv, ev_seq, ev_seq0, ev_seq1, ev_seq2, ev_seq3, ev_seqi, ev_sif, ev_sif1, ev_ret, ev_ret1, ev_retz, ev_retzb, ev_retzc, ev_retz1, ev_retc, ev_asg, ev_s0, ev_s1, ev_s2, ev_s3, ev_s4, ev_s5, ev_s6, ev_s7, ev_s8, ev_s9, ev_s10, ev_s11, ev_exp, ev_exp1, ev_pf, ev_pf2, ev_pf1, ev_pz, ev_pz2, ev_pz1, ev_of, ev_of2, ev_of1, ev_st, ev_as, ev_as3, ev_as2, ev_as1, ev_oa, ev_oa3, ev_oa2, ev_oa1, ev_oa0, ev_cp, ev_cp3, ev_cp2, ev_cp1, ev_sw, ev_sw1, ev_swb0, ev_swb1, ev_swb3, ev_swbi, ev_fin3, ev_fin0, ev_fini, ev_iv, ev_ic, ev_b1, ev_b2, ev_b3, ev_b4, ev_b5, ev_b6, ev_or12, ev_lp, ev_lc, ev_lb0, ev_lb1, ev_lb2, ev_lb3, ev_lbi, ev_lu, ev_ass]
      exact WF.mk ⟨rfl, fo, fs⟩
