/-! ===== the trip: find ===== -/
def leaT (σ : cvM) (v : Int) : Int := max (σ 94 (4 * v + 2)) (σ 89 (5 * σ 94 (4 * v) + 3))
def endT (σ : cvM) (v : Int) : Int := σ 94 (4 * v + 2) + σ 94 (4 * v + 3)
/-- the best RIDE of a VAN with a set -/
def bestT (σ : cvM) (v x : Int) : Option Cd := if (1 ≤ pcI (coS σ x (σ 88 2)) ∧ pcI (coS σ x (σ 88 2)) ≤ 4) ∧ leaT σ v ≤ σ 89 (5 * σ 94 (4 * v) + 4) then dfs (arrT σ v (endT σ v)) (tkT σ v) (lateL σ (sl (tb x) (σ 88 2))) (pcI (coS σ x (σ 88 2))).toNat (σ 94 (4 * v)) (leaT σ v) 0 0 [] (coS σ x (σ 88 2)) none else none
theorem rideEq {σ τ : cvM} (e : ∀ k, k = 88 ∨ k = 89 ∨ k = 90 ∨ k = 91 ∨ k = 92 ∨ k = 95 → τ k = σ k) (v E : Int) (l : List Int) : arrT τ v E = arrT σ v E ∧ tkT τ v = tkT σ v ∧ lateL τ l = lateL σ l := by
  refine ⟨?_, ?_, ?_⟩
  · funext a t D c
    unfold arrT dlS dlP dlM cmT dr0 drv
    rw [e 88 (by omega), e 89 (by omega), e 90 (by omega), e 91 (by omega), e 95 (by omega)]
  · funext t D
    unfold tkT dlS dlP
    rw [e 88 (by omega), e 95 (by omega)]
  · funext c u
    unfold lateL lateP
    rw [e 92 (by omega)]
theorem s9_find {σ : cvM} (h : WR σ) {v x : Int} (hv : 0 ≤ v ∧ v < σ 88 3) (hx : 0 ≤ x ∧ x < 4096) : ∃ υ, f9_find [39, v, x] σ = some (if (bestT σ v x).isSome = true then 1 else 0, υ) ∧ (∀ k i : Int, ¬ (39 ≤ k ∧ k ≤ 45) → υ k i = σ k i) ∧ υ 39 10 = pcI (coS σ x (σ 88 2)) ∧ bestR (pcI (coS σ x (σ 88 2))).toNat (bestT σ v x) υ := by
  have c4 := cnt_4 h
  have c3 := cnt_3 h
  have gv := h.rV v hv.1 hv.2
  have gh := h.rP _ gv.1 gv.2.1
  have cl := bI_lt (coP σ x (σ 88 2)) 8
  have cl : 0 ≤ coS σ x (σ 88 2) ∧ coS σ x (σ 88 2) < 256 := cl
  generalize h1 : updM (updM σ 39 4 v) 39 11 (-3) = σ1
  have o1 : ∀ k i : Int, k ≠ 39 → σ1 k i = σ k i := fun k i hk => by rw [← h1, upd_ne _ hk, upd_ne _ hk]
  have o1k : ∀ k : Int, k ≠ 39 → σ1 k = σ k := fun k hk => funext fun i => o1 k i hk
  have w1 : WR σ1 := h.congr2 fun k i hk => o1 k i (by omega)
  have ga := s9_gather w1 hx
  have ce : coS σ1 x (σ1 88 2) = coS σ x (σ 88 2) := by
    unfold coS coP
    rw [o1k 88 (by decide), o1k 92 (by decide)]
  rw [ce, o1 88 2 (by decide)] at ga
  generalize hl : sl (tb x) (σ 88 2) = l at ga
  have lm : ∀ q ∈ l, 0 ≤ q ∧ q < σ 88 2 := fun q hq => by
    rw [← hl] at hq
    have := sl_mem.mp hq
    exact ⟨this.1, this.2.1⟩
  have ll : l.length ≤ 12 := by
    rw [← hl]
    have := sl_le (tb x) c4.2.1
    omega
  generalize h2 : gaM σ1 l = σ2 at ga
  have o2 : ∀ k i : Int, ¬ (39 ≤ k ∧ k ≤ 41) → σ2 k i = σ k i := fun k i hk => by rw [← h2, gaM_o _ _ (by omega), o1 k i (by omega)]
  have i2 : gaI σ1 l σ2 := by rw [← h2]; exact gaM_I σ1 l
  have z4 : σ2 39 4 = v := by
    rw [← h2, ← h1]
    unfold gaM
    rw [upd_ni (by decide), aM_ne _ _ (by decide), aM_ne _ _ (by decide), upd_ni (by decide), upd_at]
  have z11 : σ2 39 11 = -3 := by
    rw [← h2, ← h1]
    unfold gaM
    rw [upd_ni (by decide), aM_ne _ _ (by decide), aM_ne _ _ (by decide), upd_at]
  have bc := sJ_bitCount (x := coS σ x (σ 88 2)) (by omega) σ2
  generalize hR : coS σ x (σ 88 2) = R at ga bc cl
  have ub : bestT σ v x = if (1 ≤ pcI R ∧ pcI R ≤ 4) ∧ leaT σ v ≤ σ 89 (5 * σ 94 (4 * v) + 4) then dfs (arrT σ v (endT σ v)) (tkT σ v) (lateL σ l) (pcI R).toNat (σ 94 (4 * v)) (leaT σ v) 0 0 [] R none else none := by
    unfold bestT
    rw [hl, hR]
  rw [ub]
  generalize h3 : updM σ2 39 10 (pcI R) = σ3
  have o3 : ∀ k i : Int, ¬ (39 ≤ k ∧ k ≤ 41) → σ3 k i = σ k i := fun k i hk => by rw [← h3, upd_ne _ (by omega), o2 k i hk]
  have w3 : WR σ3 := h.congr2 fun k i hk => o3 k i (by omega)
  have z10 : σ3 39 10 = pcI R := by rw [← h3, upd_at]
  have z11b : σ3 39 11 = -3 := by rw [← h3, upd_ni (by decide), z11]
  have e2 := cell_5 w3 (p := v) (j := 2) (by rw [o3 88 3 (by decide)]; omega)
  have e0 := cell_5 w3 (p := v) (j := 0) (by rw [o3 88 3 (by decide)]; omega)
  have e3 := cell_5 w3 (p := v) (j := 3) (by rw [o3 88 3 (by decide)]; omega)
  rw [o3 94 _ (by decide)] at e2 e0 e3
  rw [Int.add_zero] at e0
  by_cases q : 1 ≤ pcI R ∧ pcI R ≤ 4
  · have q1 : ¬ pcI R < 1 := by omega
    have q2 : ¬ 4 < pcI R := by omega
    have aE : oadd (σ 94 (4 * v + 2)) (σ 94 (4 * v + 3)) = endT σ v := n_add (by omega)
    generalize h4 : updM σ3 39 5 (endT σ v) = σ4
    have o4 : ∀ k i : Int, ¬ (39 ≤ k ∧ k ≤ 41) → σ4 k i = σ k i := fun k i hk => by rw [← h4, upd_ne _ (by omega), o3 k i hk]
    have w4 : WR σ4 := h.congr2 fun k i hk => o4 k i (by omega)
    have z4b : σ4 39 4 = v := by rw [← h4, ← h3, upd_ni (by decide), upd_ni (by decide), z4]
    have z5 : σ4 39 5 = endT σ v := by rw [← h4, upd_at]
    have z10b : σ4 39 10 = pcI R := by rw [← h4, upd_ni (by decide), z10]
    have z11c : σ4 39 11 = -3 := by rw [← h4, upd_ni (by decide), z11b]
    have g3 := cell_3 w4 (p := σ 94 (4 * v)) (j := 3) (by rw [o4 88 1 (by decide)]; omega)
    have g4 := cell_3 w4 (p := σ 94 (4 * v)) (j := 4) (by rw [o4 88 1 (by decide)]; omega)
    rw [o4 89 _ (by decide)] at g3 g4
    have aM' : omax (σ 94 (4 * v + 2)) (σ 89 (5 * σ 94 (4 * v) + 3)) = leaT σ v := by rw [n_max]; rfl
    by_cases q3 : leaT σ v ≤ σ 89 (5 * σ 94 (4 * v) + 4)
    · have qq : ((1 ≤ pcI R ∧ pcI R ≤ 4) ∧ leaT σ v ≤ σ 89 (5 * σ 94 (4 * v) + 4)) := ⟨q, q3⟩
      rw [if_pos qq]
      have q4 : ¬ σ 89 (5 * σ 94 (4 * v) + 4) < leaT σ v := by omega
      have lb : 0 ≤ leaT σ v ∧ leaT σ v ≤ 5000 := by unfold leaT; omega
      have i4 : gaI σ4 l σ4 := by
        unfold gaI at i2 ⊢
        rw [← h4, ← h3, upd_ni (by decide), upd_ni (by decide)]
        refine ⟨i2.1, fun i hi => ?_⟩
        have := i2.2 i hi
        rw [o1 92 _ (by decide), o1 92 _ (by decide)] at this
        rw [upd_ne _ (by decide), upd_ne _ (by decide), upd_ne _ (by decide), upd_ne _ (by decide), upd_ne _ (by decide), upd_ne _ (by decide), upd_ne _ (by decide), upd_ne _ (by decide), o2 92 _ (by decide), o2 92 _ (by decide)]
        exact this
      obtain ⟨υ, u1, u2, u3, u4⟩ := s9_goOn w4 (l := l) (by rw [o4 88 2 (by decide)]; exact lm) ll i4 (n := (pcI R).toNat) (by omega) (by rw [z10b]; omega) (pcI R).toNat 5 (by omega) σ4 (σ 94 (4 * v)) (leaT σ v) 0 R 0 [] none (frT.rf σ4) (by omega) lb (by decide) cl (fun c c0 ct => by
        rw [← hR] at ct
        unfold coS at ct
        rw [tb_bI _ _ c0] at ct
        have ct := (Bool.and_eq_true_iff.mp ct).2
        unfold coP at ct
        rw [o4 88 1 (by decide)]
        obtain ⟨y, y0, y1, y2⟩ := anyI_t.mp ct
        have y2 := Bool.and_eq_true_iff.mp y2
        have := of_decide_eq_true y2.2
        have g := h.rQ y y0 y1
        omega) (by omega) (by show 0 + _ = _; omega) (by decide) (fun j hj => absurd hj (Nat.not_lt_zero _)) z11c
      have re := rideEq (σ := σ) (τ := σ4) (fun k hk => funext fun i => o4 k i (by omega)) v (endT σ v) l
      rw [z4b, z5, re.1, re.2.1, re.2.2] at u4
      generalize dfs (arrT σ v (endT σ v)) (tkT σ v) (lateL σ l) (pcI R).toNat (σ 94 (4 * v)) (leaT σ v) 0 0 [] R none = B at u4 ⊢
      refine ⟨υ, ?_, fun k i hk => by rw [u2 k i (by omega), o4 k i (by omega)], by rw [u2 39 10 (by decide), z10b], u4⟩
      cases B with
      | none =>
        have u5 : υ 39 11 = -3 := u4
        simp only [u9_find, b9_find, ev_op, ev_op2, ev_op1, ev_dv, ev_dv2, ev_dv1, ev_un, ev_un1, ev_lit, ev_l0, ev_l1, ev_l2, ev_l3, ev_l4, ev_l5, ev_l6, ev_l7, ev_l8, ev_l9, ev_l10, ev_l11, ev_rf, ev_gi, ev_gi1, ev_gi2, ev_gr, ev_gr1, ev_at0, ev_at, ev_al, ev_al2, ev_al1, ev_an, ev_an1, ev_vs0, ev_vs, ev_vs2, ev_vs1, ev_ca, ev_ca1, ev_cv, ev_cv1, ev_cv2, ev_if, ev_if1, ev_cmp, ev_cmp2, ev_cmp1, ev_not, ev_not1, ev_and, ev_and1, ev_or, ev_or1, ev_e, ev_e1, ev_cif, ev_cif1, ev_qlt, ev_qle, ev_qgt, ev_qge, ev_qeq, ev_qne, ev_skip, ev_brk, ev_cnt, ev_retv, ev_seq, ev_seq0, ev_seq1, ev_seq2, ev_seq3, ev_seqi, ev_sif, ev_sif1, ev_ret, ev_ret1, ev_retz, ev_retzb, ev_retzc, ev_retz1, ev_retc, ev_asg, ev_s0, ev_s1, ev_s2, ev_s3, ev_s4, ev_s5, ev_s6, ev_s7, ev_s8, ev_s9, ev_s10, ev_s11, ev_exp, ev_exp1, ev_pf, ev_pf2, ev_pf1, ev_pz, ev_pz2, ev_pz1, ev_of, ev_of2, ev_of1, ev_st, ev_as, ev_as3, ev_as2, ev_as1, ev_oa, ev_oa3, ev_oa2, ev_oa1, ev_oa0, ev_cp, ev_cp3, ev_cp2, ev_cp1, ev_sw, ev_sw1, ev_swb0, ev_swb1, ev_swb3, ev_swbi, ev_fin3, ev_fin0, ev_fini, ev_iv, ev_ic, ev_b1, ev_b2, ev_b3, ev_b4, ev_b5, ev_b6, ev_or12, ev_lp, ev_lc, ev_lb0, ev_lb1, ev_lb2, ev_lb3, ev_lbi, ev_lu, ev_ass, Int.reduceAdd, Int.reduceSub, Int.reduceMul, Int.reduceNeg, Int.reduceLT, Int.reduceLE, Int.reduceGT, Int.reduceGE, Int.reduceEq, Int.reduceNe, Int.reduceDiv, Int.reduceMod, Int.reduceToNat, Nat.reduceAdd, Nat.reduceMul, Nat.reduceSub, Nat.reduceLT, Nat.reduceEqDiff, Int.reduceNatCast', reduceIte, ite_true, ite_false, if_true, if_false, decide_eq_true_eq, decide_true, decide_false, decide_not, Bool.not_eq_true', decide_eq_false_iff_not, Bool.not_not, Bool.and_eq_true, Bool.or_eq_true, Bool.not_true, Bool.not_false, not_true_eq_false, not_false_eq_true, true_and, and_true, false_and, and_false, true_or, or_true, false_or, or_false, Bool.true_and, Bool.and_true, Bool.false_and, Bool.and_false, Bool.true_or, Bool.or_true, Bool.or_false, Bool.false_or, Bool.not_eq_false', Bool.true_eq_false, Bool.false_eq_true, eq_self, Classical.not_not, ite_not, ne_eq, Option.some.injEq, Prod.mk.injEq, L_1, L_3, L_5, L_39, h1, ga, bc, h3, z10, q1, q2, e2, e0, e3, aE, h4, g3, g4, aM', q4, u1, u5, Option.isSome]
      | some dd =>
        have u5 : υ 39 11 = dd.2 := u4.2.1
        have u6 : 0 ≤ dd.2 := u4.1
        simp only [u9_find, b9_find, ev_op, ev_op2, ev_op1, ev_dv, ev_dv2, ev_dv1, ev_un, ev_un1, ev_lit, ev_l0, ev_l1, ev_l2, ev_l3, ev_l4, ev_l5, ev_l6, ev_l7, ev_l8, ev_l9, ev_l10, ev_l11, ev_rf, ev_gi, ev_gi1, ev_gi2, ev_gr, ev_gr1, ev_at0, ev_at, ev_al, ev_al2, ev_al1, ev_an, ev_an1, ev_vs0, ev_vs, ev_vs2, ev_vs1, ev_ca, ev_ca1, ev_cv, ev_cv1, ev_cv2, ev_if, ev_if1, ev_cmp, ev_cmp2, ev_cmp1, ev_not, ev_not1, ev_and, ev_and1, ev_or, ev_or1, ev_e, ev_e1, ev_cif, ev_cif1, ev_qlt, ev_qle, ev_qgt, ev_qge, ev_qeq, ev_qne, ev_skip, ev_brk, ev_cnt, ev_retv, ev_seq, ev_seq0, ev_seq1, ev_seq2, ev_seq3, ev_seqi, ev_sif, ev_sif1, ev_ret, ev_ret1, ev_retz, ev_retzb, ev_retzc, ev_retz1, ev_retc, ev_asg, ev_s0, ev_s1, ev_s2, ev_s3, ev_s4, ev_s5, ev_s6, ev_s7, ev_s8, ev_s9, ev_s10, ev_s11, ev_exp, ev_exp1, ev_pf, ev_pf2, ev_pf1, ev_pz, ev_pz2, ev_pz1, ev_of, ev_of2, ev_of1, ev_st, ev_as, ev_as3, ev_as2, ev_as1, ev_oa, ev_oa3, ev_oa2, ev_oa1, ev_oa0, ev_cp, ev_cp3, ev_cp2, ev_cp1, ev_sw, ev_sw1, ev_swb0, ev_swb1, ev_swb3, ev_swbi, ev_fin3, ev_fin0, ev_fini, ev_iv, ev_ic, ev_b1, ev_b2, ev_b3, ev_b4, ev_b5, ev_b6, ev_or12, ev_lp, ev_lc, ev_lb0, ev_lb1, ev_lb2, ev_lb3, ev_lbi, ev_lu, ev_ass, Int.reduceAdd, Int.reduceSub, Int.reduceMul, Int.reduceNeg, Int.reduceLT, Int.reduceLE, Int.reduceGT, Int.reduceGE, Int.reduceEq, Int.reduceNe, Int.reduceDiv, Int.reduceMod, Int.reduceToNat, Nat.reduceAdd, Nat.reduceMul, Nat.reduceSub, Nat.reduceLT, Nat.reduceEqDiff, Int.reduceNatCast', reduceIte, ite_true, ite_false, if_true, if_false, decide_eq_true_eq, decide_true, decide_false, decide_not, Bool.not_eq_true', decide_eq_false_iff_not, Bool.not_not, Bool.and_eq_true, Bool.or_eq_true, Bool.not_true, Bool.not_false, not_true_eq_false, not_false_eq_true, true_and, and_true, false_and, and_false, true_or, or_true, false_or, or_false, Bool.true_and, Bool.and_true, Bool.false_and, Bool.and_false, Bool.true_or, Bool.or_true, Bool.or_false, Bool.false_or, Bool.not_eq_false', Bool.true_eq_false, Bool.false_eq_true, eq_self, Classical.not_not, ite_not, ne_eq, Option.some.injEq, Prod.mk.injEq, L_1, L_3, L_5, L_39, h1, ga, bc, h3, z10, q1, q2, e2, e0, e3, aE, h4, g3, g4, aM', q4, u1, u5, u6, Option.isSome]
    · have qq : ¬ ((1 ≤ pcI R ∧ pcI R ≤ 4) ∧ leaT σ v ≤ σ 89 (5 * σ 94 (4 * v) + 4)) := fun y => q3 y.2
      rw [if_neg qq]
      have q4 : σ 89 (5 * σ 94 (4 * v) + 4) < leaT σ v := by omega
      refine ⟨σ4, ?_, fun k i hk => o4 k i (by omega), z10b, z11c⟩
      simp only [u9_find, b9_find, ev_op, ev_op2, ev_op1, ev_dv, ev_dv2, ev_dv1, ev_un, ev_un1, ev_lit, ev_l0, ev_l1, ev_l2, ev_l3, ev_l4, ev_l5, ev_l6, ev_l7, ev_l8, ev_l9, ev_l10, ev_l11, ev_rf, ev_gi, ev_gi1, ev_gi2, ev_gr, ev_gr1, ev_at0, ev_at, ev_al, ev_al2, ev_al1, ev_an, ev_an1, ev_vs0, ev_vs, ev_vs2, ev_vs1, ev_ca, ev_ca1, ev_cv, ev_cv1, ev_cv2, ev_if, ev_if1, ev_cmp, ev_cmp2, ev_cmp1, ev_not, ev_not1, ev_and, ev_and1, ev_or, ev_or1, ev_e, ev_e1, ev_cif, ev_cif1, ev_qlt, ev_qle, ev_qgt, ev_qge, ev_qeq, ev_qne, ev_skip, ev_brk, ev_cnt, ev_retv, ev_seq, ev_seq0, ev_seq1, ev_seq2, ev_seq3, ev_seqi, ev_sif, ev_sif1, ev_ret, ev_ret1, ev_retz, ev_retzb, ev_retzc, ev_retz1, ev_retc, ev_asg, ev_s0, ev_s1, ev_s2, ev_s3, ev_s4, ev_s5, ev_s6, ev_s7, ev_s8, ev_s9, ev_s10, ev_s11, ev_exp, ev_exp1, ev_pf, ev_pf2, ev_pf1, ev_pz, ev_pz2, ev_pz1, ev_of, ev_of2, ev_of1, ev_st, ev_as, ev_as3, ev_as2, ev_as1, ev_oa, ev_oa3, ev_oa2, ev_oa1, ev_oa0, ev_cp, ev_cp3, ev_cp2, ev_cp1, ev_sw, ev_sw1, ev_swb0, ev_swb1, ev_swb3, ev_swbi, ev_fin3, ev_fin0, ev_fini, ev_iv, ev_ic, ev_b1, ev_b2, ev_b3, ev_b4, ev_b5, ev_b6, ev_or12, ev_lp, ev_lc, ev_lb0, ev_lb1, ev_lb2, ev_lb3, ev_lbi, ev_lu, ev_ass, Int.reduceAdd, Int.reduceSub, Int.reduceMul, Int.reduceNeg, Int.reduceLT, Int.reduceLE, Int.reduceGT, Int.reduceGE, Int.reduceEq, Int.reduceNe, Int.reduceDiv, Int.reduceMod, Int.reduceToNat, Nat.reduceAdd, Nat.reduceMul, Nat.reduceSub, Nat.reduceLT, Nat.reduceEqDiff, Int.reduceNatCast', reduceIte, ite_true, ite_false, if_true, if_false, decide_eq_true_eq, decide_true, decide_false, decide_not, Bool.not_eq_true', decide_eq_false_iff_not, Bool.not_not, Bool.and_eq_true, Bool.or_eq_true, Bool.not_true, Bool.not_false, not_true_eq_false, not_false_eq_true, true_and, and_true, false_and, and_false, true_or, or_true, false_or, or_false, Bool.true_and, Bool.and_true, Bool.false_and, Bool.and_false, Bool.true_or, Bool.or_true, Bool.or_false, Bool.false_or, Bool.not_eq_false', Bool.true_eq_false, Bool.false_eq_true, eq_self, Classical.not_not, ite_not, ne_eq, Option.some.injEq, Prod.mk.injEq, L_1, L_3, L_5, L_39, h1, ga, bc, h3, z10, q1, q2, e2, e0, e3, aE, h4, g3, g4, aM', q4, Option.isSome]
  · have qq : ¬ ((1 ≤ pcI R ∧ pcI R ≤ 4) ∧ leaT σ v ≤ σ 89 (5 * σ 94 (4 * v) + 4)) := fun y => q y.1
    rw [if_neg qq]
    refine ⟨σ3, ?_, fun k i hk => o3 k i (by omega), z10, z11b⟩
    by_cases q1 : pcI R < 1
    · simp only [u9_find, b9_find, ev_op, ev_op2, ev_op1, ev_dv, ev_dv2, ev_dv1, ev_un, ev_un1, ev_lit, ev_l0, ev_l1, ev_l2, ev_l3, ev_l4, ev_l5, ev_l6, ev_l7, ev_l8, ev_l9, ev_l10, ev_l11, ev_rf, ev_gi, ev_gi1, ev_gi2, ev_gr, ev_gr1, ev_at0, ev_at, ev_al, ev_al2, ev_al1, ev_an, ev_an1, ev_vs0, ev_vs, ev_vs2, ev_vs1, ev_ca, ev_ca1, ev_cv, ev_cv1, ev_cv2, ev_if, ev_if1, ev_cmp, ev_cmp2, ev_cmp1, ev_not, ev_not1, ev_and, ev_and1, ev_or, ev_or1, ev_e, ev_e1, ev_cif, ev_cif1, ev_qlt, ev_qle, ev_qgt, ev_qge, ev_qeq, ev_qne, ev_skip, ev_brk, ev_cnt, ev_retv, ev_seq, ev_seq0, ev_seq1, ev_seq2, ev_seq3, ev_seqi, ev_sif, ev_sif1, ev_ret, ev_ret1, ev_retz, ev_retzb, ev_retzc, ev_retz1, ev_retc, ev_asg, ev_s0, ev_s1, ev_s2, ev_s3, ev_s4, ev_s5, ev_s6, ev_s7, ev_s8, ev_s9, ev_s10, ev_s11, ev_exp, ev_exp1, ev_pf, ev_pf2, ev_pf1, ev_pz, ev_pz2, ev_pz1, ev_of, ev_of2, ev_of1, ev_st, ev_as, ev_as3, ev_as2, ev_as1, ev_oa, ev_oa3, ev_oa2, ev_oa1, ev_oa0, ev_cp, ev_cp3, ev_cp2, ev_cp1, ev_sw, ev_sw1, ev_swb0, ev_swb1, ev_swb3, ev_swbi, ev_fin3, ev_fin0, ev_fini, ev_iv, ev_ic, ev_b1, ev_b2, ev_b3, ev_b4, ev_b5, ev_b6, ev_or12, ev_lp, ev_lc, ev_lb0, ev_lb1, ev_lb2, ev_lb3, ev_lbi, ev_lu, ev_ass, Int.reduceAdd, Int.reduceSub, Int.reduceMul, Int.reduceNeg, Int.reduceLT, Int.reduceLE, Int.reduceGT, Int.reduceGE, Int.reduceEq, Int.reduceNe, Int.reduceDiv, Int.reduceMod, Int.reduceToNat, Nat.reduceAdd, Nat.reduceMul, Nat.reduceSub, Nat.reduceLT, Nat.reduceEqDiff, Int.reduceNatCast', reduceIte, ite_true, ite_false, if_true, if_false, decide_eq_true_eq, decide_true, decide_false, decide_not, Bool.not_eq_true', decide_eq_false_iff_not, Bool.not_not, Bool.and_eq_true, Bool.or_eq_true, Bool.not_true, Bool.not_false, not_true_eq_false, not_false_eq_true, true_and, and_true, false_and, and_false, true_or, or_true, false_or, or_false, Bool.true_and, Bool.and_true, Bool.false_and, Bool.and_false, Bool.true_or, Bool.or_true, Bool.or_false, Bool.false_or, Bool.not_eq_false', Bool.true_eq_false, Bool.false_eq_true, eq_self, Classical.not_not, ite_not, ne_eq, Option.some.injEq, Prod.mk.injEq, L_1, L_3, L_5, L_39, h1, ga, bc, h3, z10, q1, Option.isSome]
    · have q2 : 4 < pcI R := by omega
      simp only [u9_find, b9_find, ev_op, ev_op2, ev_op1, ev_dv, ev_dv2, ev_dv1, ev_un, ev_un1, ev_lit, ev_l0, ev_l1, ev_l2, ev_l3, ev_l4, ev_l5, ev_l6, ev_l7, ev_l8, ev_l9, ev_l10, ev_l11, ev_rf, ev_gi, ev_gi1, ev_gi2, ev_gr, ev_gr1, ev_at0, ev_at, ev_al, ev_al2, ev_al1, ev_an, ev_an1, ev_vs0, ev_vs, ev_vs2, ev_vs1, ev_ca, ev_ca1, ev_cv, ev_cv1, ev_cv2, ev_if, ev_if1, ev_cmp, ev_cmp2, ev_cmp1, ev_not, ev_not1, ev_and, ev_and1, ev_or, ev_or1, ev_e, ev_e1, ev_cif, ev_cif1, ev_qlt, ev_qle, ev_qgt, ev_qge, ev_qeq, ev_qne, ev_skip, ev_brk, ev_cnt, ev_retv, ev_seq, ev_seq0, ev_seq1, ev_seq2, ev_seq3, ev_seqi, ev_sif, ev_sif1, ev_ret, ev_ret1, ev_retz, ev_retzb, ev_retzc, ev_retz1, ev_retc, ev_asg, ev_s0, ev_s1, ev_s2, ev_s3, ev_s4, ev_s5, ev_s6, ev_s7, ev_s8, ev_s9, ev_s10, ev_s11, ev_exp, ev_exp1, ev_pf, ev_pf2, ev_pf1, ev_pz, ev_pz2, ev_pz1, ev_of, ev_of2, ev_of1, ev_st, ev_as, ev_as3, ev_as2, ev_as1, ev_oa, ev_oa3, ev_oa2, ev_oa1, ev_oa0, ev_cp, ev_cp3, ev_cp2, ev_cp1, ev_sw, ev_sw1, ev_swb0, ev_swb1, ev_swb3, ev_swbi, ev_fin3, ev_fin0, ev_fini, ev_iv, ev_ic, ev_b1, ev_b2, ev_b3, ev_b4, ev_b5, ev_b6, ev_or12, ev_lp, ev_lc, ev_lb0, ev_lb1, ev_lb2, ev_lb3, ev_lbi, ev_lu, ev_ass, Int.reduceAdd, Int.reduceSub, Int.reduceMul, Int.reduceNeg, Int.reduceLT, Int.reduceLE, Int.reduceGT, Int.reduceGE, Int.reduceEq, Int.reduceNe, Int.reduceDiv, Int.reduceMod, Int.reduceToNat, Nat.reduceAdd, Nat.reduceMul, Nat.reduceSub, Nat.reduceLT, Nat.reduceEqDiff, Int.reduceNatCast', reduceIte, ite_true, ite_false, if_true, if_false, decide_eq_true_eq, decide_true, decide_false, decide_not, Bool.not_eq_true', decide_eq_false_iff_not, Bool.not_not, Bool.and_eq_true, Bool.or_eq_true, Bool.not_true, Bool.not_false, not_true_eq_false, not_false_eq_true, true_and, and_true, false_and, and_false, true_or, or_true, false_or, or_false, Bool.true_and, Bool.and_true, Bool.false_and, Bool.and_false, Bool.true_or, Bool.or_true, Bool.or_false, Bool.false_or, Bool.not_eq_false', Bool.true_eq_false, Bool.false_eq_true, eq_self, Classical.not_not, ite_not, ne_eq, Option.some.injEq, Prod.mk.injEq, L_1, L_3, L_5, L_39, h1, ga, bc, h3, z10, q1, q2, Option.isSome]
