/-! ===== prove: the class's rows ===== -/
/-- when a RIDER arrives by a way -/
def tmR (σ : cvM) (pl : Int) (a : List Int) (j : Nat) : Int := match bestT σ (a.getD j (-1)) (psN (rdL σ pl) (ceM a (a.getD j (-1)))) with
  | none => -1
  | some d => tmL d.1 (σ 92 (7 * (rdL σ pl).getD j 0 + 2))
def roW (σ : cvM) (pl : Int) (a : List Int) (j : Nat) (υ : cvM) : Prop := υ 56 ((j : Int) * 3 + 0) = (rdL σ pl).getD j 0 ∧ υ 56 ((j : Int) * 3 + 1) = a.getD j (-1)
theorem wyA_nx {σ : cvM} {pl : Int} {w j : Nat} (hj : ¬ j < (rdL σ pl).length) : (wyA σ pl w).getD j (-1) = -1 := by
  rw [List.getD_eq_getElem?_getD, List.getElem?_eq_none (by rw [wyA_len]; omega)]
  rfl
theorem wyD_no {k n w j : Nat} (hj : ¬ j < n) : (wyD k n w).getD j (-1) = -1 := by
  have : (wyD k n w).length = n := by
    unfold wyD
    rw [List.length_map]
    exact dg_len k n w
  rw [List.getD_eq_getElem?_getD, List.getElem?_eq_none (by omega)]
  rfl
/-- the sets by VAN and by place among the VANS -/
theorem ceM_AD {σ : cvM} (h : WR σ) {pl : Int} {w : Nat} (hw : w < (vnL σ pl).length ^ (rdL σ pl).length) {i : Nat} (hi : i < (vnL σ pl).length) : ceM (wyD (vnL σ pl).length (rdL σ pl).length w) (i : Int) = ceM (wyA σ pl w) ((vnL σ pl).getD i 0) := by
  unfold ceM
  refine bI_ext fun j j0 j1 => ?_
  have vm := vnL_mem hi
  by_cases q : j.toNat < (rdL σ pl).length
  · obtain ⟨d, d1, d2, d3⟩ := wyA_get hw q
    rw [d2, d3]
    by_cases z : d = i
    · rw [z, decide_eq_true rfl, decide_eq_true rfl]
    · rw [decide_eq_false (by omega), decide_eq_false fun y => z (vnL_inj h pl d1 hi y)]
  · rw [wyA_nx q, wyD_no q, decide_eq_false (by omega), decide_eq_false (by omega)]
theorem rdL_inj {σ : cvM} (h : WR σ) {pl : Int} {i j : Nat} (hi : i < (rdL σ pl).length) (hj : j < (rdL σ pl).length) (e : (rdL σ pl).getD i 0 = (rdL σ pl).getD j 0) : i = j := by
  have c4 := cnt_4 h
  obtain ⟨n, hn⟩ : ∃ n : Nat, σ 88 2 = (n : Int) := ⟨(σ 88 2).toNat, by omega⟩
  have pw := List.pairwise_iff_getElem.mp (sl_lt (ridS σ pl) n)
  unfold rdL at hi hj e
  rw [hn] at hi hj e
  rw [List.getD_eq_getElem?_getD, List.getD_eq_getElem?_getD, List.getElem?_eq_getElem hi, List.getElem?_eq_getElem hj] at e
  have e : (sl (ridS σ pl) (n : Int))[i] = (sl (ridS σ pl) (n : Int))[j] := e
  rcases Nat.lt_trichotomy i j with z | z | z
  · have := pw _ _ hi hj z
    omega
  · exact z
  · have := pw _ _ hj hi z
    omega
theorem valN_pos {σ : cvM} {pl : Int} {a : List Int} {S : Int} (e : valN σ pl (rdL σ pl) a = some S) {v : Int} (v0 : 0 ≤ v) (v3 : v < 3) : 0 ≤ lateN σ pl (rdL σ pl) v (ceM a v) := by
  unfold valN at e
  split at e
  · rename_i q
    have : v = 0 ∨ v = 1 ∨ v = 2 := by omega
    rcases this with rfl | rfl | rfl
    · exact q.1.1
    · exact q.1.2
    · exact q.2
  · cases e
theorem lateN_some {σ : cvM} {pl v s : Int} {l : List Int} (hp : 0 ≤ lateN σ pl l v s) (hs : s ≠ 0) : ∃ d, bestT σ v (psN l s) = some d := by
  unfold lateN at hp
  rw [if_neg hs] at hp
  split at hp
  · cases e : bestT σ v (psN l s) with
    | none => rw [e] at hp; exact absurd hp (by decide)
    | some d => exact ⟨d, rfl⟩
  · exact absurd hp (by decide)
theorem psN_has {l : List Int} {s : Int} {j : Nat} (hj : j < l.length) (hm : 0 ≤ l.getD j 0 ∧ l.getD j 0 < 12) (ht : tb s (j : Int) = true) : tb (psN l s) (l.getD j 0) = true := (psN_tb hm).mpr ⟨j, hj, ht, rfl⟩
def frWr (σ τ : cvM) : Prop := ∀ k i : Int, ¬ ((39 ≤ k ∧ k ≤ 45) ∨ k = 56 ∨ (k = 55 ∧ i = 3)) → τ k i = σ k i
theorem s5_writeRows {σ τ : cvM} (h : WR σ) {pl : Int} (l8 : (rdL σ pl).length ≤ 8) (hl : loI σ pl τ) {p : Int × Nat} (hs : wyS σ pl (some p) τ) (hw : p.2 < (vnL σ pl).length ^ (rdL σ pl).length) (hv : valN σ pl (rdL σ pl) (wyA σ pl p.2) = some p.1) (e0 : σ 55 0 = 3) (e1 : σ 55 1 = 8) : ∃ υ, f5_writeRows [46, 55] τ = some (((rdL σ pl).length : Int), υ) ∧ frWr τ υ ∧ υ 55 3 = ((rdL σ pl).length : Int) ∧ ∀ j : Nat, j < (rdL σ pl).length → roW σ pl (wyA σ pl p.2) j υ ∧ υ 56 ((j : Int) * 3 + 2) = tmR σ pl (wyA σ pl p.2) j := by
  obtain ⟨fl, hvn, hbd, _⟩ := hl
  have k3 := vnL_le h pl
  have c4 := cnt_4 h
  have cv := cnt_5 h
  suffices hW : WF (f5_writeRows [46, 55] τ) (fun w υ => w = ((rdL σ pl).length : Int) ∧ frWr τ υ ∧ υ 55 3 = ((rdL σ pl).length : Int) ∧ ∀ j : Nat, j < (rdL σ pl).length → roW σ pl (wyA σ pl p.2) j υ ∧ υ 56 ((j : Int) * 3 + 2) = tmR σ pl (wyA σ pl p.2) j) by
    obtain ⟨w, υ, e, rfl, r⟩ := hW
    exact ⟨υ, e, r⟩
  have o : ∀ υ, frWr τ υ → (υ 55 0 = 3 ∧ υ 55 1 = 8) ∧ (υ 46 4 = ((vnL σ pl).length : Int) ∧ ∀ j : Nat, j < (vnL σ pl).length → υ 50 (j : Int) = (vnL σ pl).getD j 0) ∧ (υ 47 2 = ((rdL σ pl).length : Int) ∧ (∀ j : Nat, j < (rdL σ pl).length → υ 48 (j : Int) = (rdL σ pl).getD j 0) ∧ ∀ j : Nat, j < (rdL σ pl).length → υ 49 (j : Int) = bI (feB σ (rdL σ pl) j) ((rdL σ pl).length : Int)) ∧ wyS σ pl (some p) υ ∧ WR υ ∧ ∀ k : Int, 88 ≤ k → k ≤ 98 → υ k = σ k := fun υ f => by
    refine ⟨⟨?_, ?_⟩, ⟨?_, fun j hj => ?_⟩, ⟨?_, fun j hj => ?_, fun j hj => ?_⟩, fun q hq j j0 j1 => ?_, ?_, fun k a b => funext fun i => ?_⟩
    · rw [f 55 0 (by decide), fl 55 0 (by decide)]; exact e0
    · rw [f 55 1 (by decide), fl 55 1 (by decide)]; exact e1
    · rw [f 46 4 (by decide)]; exact hvn.1
    · rw [f 50 _ (by omega)]; exact hvn.2 j hj
    · rw [f 47 2 (by decide)]; exact hbd.1
    · rw [f 48 _ (by omega)]; exact hbd.2.1 j hj
    · rw [f 49 _ (by omega)]; exact hbd.2.2 j hj
    · rw [f 53 _ (by omega)]; exact hs q hq j j0 j1
    · exact (fl.WR h).congr2 fun k i hr => f k i (by omega)
    · rw [f k i (by omega), fl k i (by omega)]
  have lm : ∀ j : Nat, j < (rdL σ pl).length → 0 ≤ (rdL σ pl).getD j 0 ∧ (rdL σ pl).getD j 0 < σ 88 2 := fun j hj => (rdL_mem hj).1
  simp only [u5_writeRows, b5_writeRows, ev_op, ev_op2, ev_op1, ev_dv, ev_dv2, ev_dv1, ev_un, ev_un1, ev_lit, ev_l0, ev_l1, ev_l2, ev_l3, ev_l4, ev_l5, ev_l6, ev_l7, ev_l8, ev_l9, ev_l10, ev_l11, ev_rf, ev_gi, ev_gi1, ev_gi2, ev_gr, ev_gr1, ev_at0, ev_at, ev_al, ev_al2, ev_al1, ev_an, ev_an1, ev_vs0, ev_vs, ev_vs2, ev_vs1, ev_ca, ev_ca1, ev_cv, ev_cv1, ev_cv2, ev_if, ev_if1, ev_cmp, ev_cmp2, ev_cmp1, ev_not, ev_not1, ev_and, ev_and1, ev_or, ev_or1, ev_e, ev_e1, ev_cif, ev_cif1, ev_qlt, ev_qle, ev_qgt, ev_qge, ev_qeq, ev_qne, ev_skip, ev_brk, ev_cnt, ev_retv, ev_seq, ev_seq0, ev_seq1, ev_seq2, ev_seq3, ev_seqi, ev_sif, ev_sif1, ev_ret, ev_ret1, ev_retz, ev_retzb, ev_retzc, ev_retz1, ev_retc, ev_asg, ev_s0, ev_s1, ev_s2, ev_s3, ev_s4, ev_s5, ev_s6, ev_s7, ev_s8, ev_s9, ev_s10, ev_s11, ev_exp, ev_exp1, ev_pf, ev_pf2, ev_pf1, ev_pz, ev_pz2, ev_pz1, ev_of, ev_of2, ev_of1, ev_st, ev_as, ev_as3, ev_as2, ev_as1, ev_oa, ev_oa3, ev_oa2, ev_oa1, ev_oa0, ev_cp, ev_cp3, ev_cp2, ev_cp1, ev_sw, ev_sw1, ev_swb0, ev_swb1, ev_swb3, ev_swbi, ev_fin3, ev_fin0, ev_fini, ev_iv, ev_ic, ev_b1, ev_b2, ev_b3, ev_b4, ev_b5, ev_b6, ev_or12, ev_lp, ev_lc, ev_lb0, ev_lb1, ev_lb2, ev_lb3, ev_lbi, ev_lu, ev_ass, Int.reduceAdd, Int.reduceSub, Int.reduceMul, Int.reduceNeg, Int.reduceLT, Int.reduceLE, Int.reduceGT, Int.reduceGE, Int.reduceEq, Int.reduceNe, Int.reduceDiv, Int.reduceMod, Int.reduceToNat, Nat.reduceAdd, Nat.reduceMul, Nat.reduceSub, Nat.reduceLT, Nat.reduceEqDiff, Int.reduceNatCast', reduceIte, ite_true, ite_false, if_true, if_false, decide_eq_true_eq, decide_true, decide_false, decide_not, Bool.not_eq_true', decide_eq_false_iff_not, Bool.not_not, Bool.and_eq_true, Bool.or_eq_true, Bool.not_true, Bool.not_false, not_true_eq_false, not_false_eq_true, true_and, and_true, false_and, and_false, true_or, or_true, false_or, or_false, Bool.true_and, Bool.and_true, Bool.false_and, Bool.and_false, Bool.true_or, Bool.or_true, Bool.or_false, Bool.false_or, Bool.not_eq_false', Bool.true_eq_false, Bool.false_eq_true, eq_self, Classical.not_not, ite_not, ne_eq, Option.some.injEq, Prod.mk.injEq, L_55]
  refine wf_lp (fun r => ∃ υ, r = (0, 0, [some 46, some 55, some ((rdL σ pl).length : Int)], υ) ∧ frWr τ υ ∧ υ 55 3 = ((rdL σ pl).length : Int) ∧ ∀ j : Nat, j < (rdL σ pl).length → roW σ pl (wyA σ pl p.2) j υ) (wq_I (fun i E υ => E = [some 46, some 55, some i] ∧ frWr τ υ ∧ υ 55 3 = i ∧ ∀ j : Nat, (j : Int) < i → roW σ pl (wyA σ pl p.2) j υ) 0 ((rdL σ pl).length : Int) (by omega) ⟨rfl, fun k i hk => upd_no (by omega), upd_at _ _ _ _, fun j hj => by omega⟩ ?_ ?_) ?_
  · rintro i E υ i0 i1 ⟨rfl, f, f3, g⟩
    obtain ⟨k, rfl⟩ : ∃ k : Nat, i = (k : Int) := ⟨i.toNat, by omega⟩
    have kl : k < (rdL σ pl).length := by omega
    obtain ⟨⟨r0, r1⟩, hv2, hb2, hs2, hw2, em⟩ := o υ f
    have g2 := hb2.1
    have gw := hb2.2.1 k kl
    have r8 : 0 ≤ (k : Int) ∧ (k : Int) < 8 := by omega
    have n1 := fun _ : Unit => n_add (show -2147483648 ≤ (k : Int) + 1 ∧ (k : Int) + 1 < 2147483648 by omega)
    have mem : (rdL σ pl).getD k 0 ∈ rdL σ pl := by
      rw [List.getD_eq_getElem?_getD, List.getElem?_eq_getElem kl]
      exact List.getElem_mem kl
    have vw := s5_vanWith (σ := σ) (τ := υ) h l8 hv2 hb2 hs2 hw mem
    obtain ⟨j, j1, j2, j3, j4⟩ := ixL_in mem
    have jk : j = k := rdL_inj h j1 kl j3
    rw [j2, Int.toNat_natCast, jk] at vw
    have ad := s8_add_55 r0 r1 f3 (by omega) ((rdL σ pl).getD k 0) ((wyA σ pl p.2).getD k (-1)) 0
    simp only [ev_op, ev_op2, ev_op1, ev_dv, ev_dv2, ev_dv1, ev_un, ev_un1, ev_lit, ev_l0, ev_l1, ev_l2, ev_l3, ev_l4, ev_l5, ev_l6, ev_l7, ev_l8, ev_l9, ev_l10, ev_l11, ev_rf, ev_gi, ev_gi1, ev_gi2, ev_gr, ev_gr1, ev_at0, ev_at, ev_al, ev_al2, ev_al1, ev_an, ev_an1, ev_vs0, ev_vs, ev_vs2, ev_vs1, ev_ca, ev_ca1, ev_cv, ev_cv1, ev_cv2, ev_if, ev_if1, ev_cmp, ev_cmp2, ev_cmp1, ev_not, ev_not1, ev_and, ev_and1, ev_or, ev_or1, ev_e, ev_e1, ev_cif, ev_cif1, ev_qlt, ev_qle, ev_qgt, ev_qge, ev_qeq, ev_qne, ev_skip, ev_brk, ev_cnt, ev_retv, ev_seq, ev_seq0, ev_seq1, ev_seq2, ev_seq3, ev_seqi, ev_sif, ev_sif1, ev_ret, ev_ret1, ev_retz, ev_retzb, ev_retzc, ev_retz1, ev_retc, ev_asg, ev_s0, ev_s1, ev_s2, ev_s3, ev_s4, ev_s5, ev_s6, ev_s7, ev_s8, ev_s9, ev_s10, ev_s11, ev_exp, ev_exp1, ev_pf, ev_pf2, ev_pf1, ev_pz, ev_pz2, ev_pz1, ev_of, ev_of2, ev_of1, ev_st, ev_as, ev_as3, ev_as2, ev_as1, ev_oa, ev_oa3, ev_oa2, ev_oa1, ev_oa0, ev_cp, ev_cp3, ev_cp2, ev_cp1, ev_sw, ev_sw1, ev_swb0, ev_swb1, ev_swb3, ev_swbi, ev_fin3, ev_fin0, ev_fini, ev_iv, ev_ic, ev_b1, ev_b2, ev_b3, ev_b4, ev_b5, ev_b6, ev_or12, ev_lp, ev_lc, ev_lb0, ev_lb1, ev_lb2, ev_lb3, ev_lbi, ev_lu, ev_ass, Int.reduceAdd, Int.reduceSub, Int.reduceMul, Int.reduceNeg, Int.reduceLT, Int.reduceLE, Int.reduceGT, Int.reduceGE, Int.reduceEq, Int.reduceNe, Int.reduceDiv, Int.reduceMod, Int.reduceToNat, Nat.reduceAdd, Nat.reduceMul, Nat.reduceSub, Nat.reduceLT, Nat.reduceEqDiff, Int.reduceNatCast', reduceIte, ite_true, ite_false, if_true, if_false, decide_eq_true_eq, decide_true, decide_false, decide_not, Bool.not_eq_true', decide_eq_false_iff_not, Bool.not_not, Bool.and_eq_true, Bool.or_eq_true, Bool.not_true, Bool.not_false, not_true_eq_false, not_false_eq_true, true_and, and_true, false_and, and_false, true_or, or_true, false_or, or_false, Bool.true_and, Bool.and_true, Bool.false_and, Bool.and_false, Bool.true_or, Bool.or_true, Bool.or_false, Bool.false_or, Bool.not_eq_false', Bool.true_eq_false, Bool.false_eq_true, eq_self, Classical.not_not, ite_not, ne_eq, Option.some.injEq, Prod.mk.injEq, L_46, L_47, L_48, L_55, g2, i1, r8, gw, vw, ad, n1 ()]
    refine RS.go ⟨rfl, fun a b hk => ?_, ?_, fun m hm => ?_⟩
    · rw [upd_no (by omega), upd_no (by omega), upd_no (by omega), upd_no (by omega), f a b hk]
    · rw [upd_no (by omega), upd_no (by omega), upd_no (by omega), upd_at]
    · by_cases z : m = k
      · subst z
        exact ⟨by rw [upd_no (by omega), upd_no (by omega), upd_at], by rw [upd_no (by omega), upd_at]⟩
      · obtain ⟨x1, x2⟩ := g m (by omega)
        exact ⟨by rw [upd_no (by omega), upd_no (by omega), upd_no (by omega), upd_no (by omega), x1], by rw [upd_no (by omega), upd_no (by omega), upd_no (by omega), upd_no (by omega), x2]⟩
  · rintro E υ ⟨rfl, f, f3, g⟩
    obtain ⟨⟨r0, r1⟩, hv2, hb2, hs2, hw2, em⟩ := o υ f
    have g2 := hb2.1
    have q : ¬ ((rdL σ pl).length : Int) < ((rdL σ pl).length : Int) := by omega
    simp only [ev_op, ev_op2, ev_op1, ev_dv, ev_dv2, ev_dv1, ev_un, ev_un1, ev_lit, ev_l0, ev_l1, ev_l2, ev_l3, ev_l4, ev_l5, ev_l6, ev_l7, ev_l8, ev_l9, ev_l10, ev_l11, ev_rf, ev_gi, ev_gi1, ev_gi2, ev_gr, ev_gr1, ev_at0, ev_at, ev_al, ev_al2, ev_al1, ev_an, ev_an1, ev_vs0, ev_vs, ev_vs2, ev_vs1, ev_ca, ev_ca1, ev_cv, ev_cv1, ev_cv2, ev_if, ev_if1, ev_cmp, ev_cmp2, ev_cmp1, ev_not, ev_not1, ev_and, ev_and1, ev_or, ev_or1, ev_e, ev_e1, ev_cif, ev_cif1, ev_qlt, ev_qle, ev_qgt, ev_qge, ev_qeq, ev_qne, ev_skip, ev_brk, ev_cnt, ev_retv, ev_seq, ev_seq0, ev_seq1, ev_seq2, ev_seq3, ev_seqi, ev_sif, ev_sif1, ev_ret, ev_ret1, ev_retz, ev_retzb, ev_retzc, ev_retz1, ev_retc, ev_asg, ev_s0, ev_s1, ev_s2, ev_s3, ev_s4, ev_s5, ev_s6, ev_s7, ev_s8, ev_s9, ev_s10, ev_s11, ev_exp, ev_exp1, ev_pf, ev_pf2, ev_pf1, ev_pz, ev_pz2, ev_pz1, ev_of, ev_of2, ev_of1, ev_st, ev_as, ev_as3, ev_as2, ev_as1, ev_oa, ev_oa3, ev_oa2, ev_oa1, ev_oa0, ev_cp, ev_cp3, ev_cp2, ev_cp1, ev_sw, ev_sw1, ev_swb0, ev_swb1, ev_swb3, ev_swbi, ev_fin3, ev_fin0, ev_fini, ev_iv, ev_ic, ev_b1, ev_b2, ev_b3, ev_b4, ev_b5, ev_b6, ev_or12, ev_lp, ev_lc, ev_lb0, ev_lb1, ev_lb2, ev_lb3, ev_lbi, ev_lu, ev_ass, Int.reduceAdd, Int.reduceSub, Int.reduceMul, Int.reduceNeg, Int.reduceLT, Int.reduceLE, Int.reduceGT, Int.reduceGE, Int.reduceEq, Int.reduceNe, Int.reduceDiv, Int.reduceMod, Int.reduceToNat, Nat.reduceAdd, Nat.reduceMul, Nat.reduceSub, Nat.reduceLT, Nat.reduceEqDiff, Int.reduceNatCast', reduceIte, ite_true, ite_false, if_true, if_false, decide_eq_true_eq, decide_true, decide_false, decide_not, Bool.not_eq_true', decide_eq_false_iff_not, Bool.not_not, Bool.and_eq_true, Bool.or_eq_true, Bool.not_true, Bool.not_false, not_true_eq_false, not_false_eq_true, true_and, and_true, false_and, and_false, true_or, or_true, false_or, or_false, Bool.true_and, Bool.and_true, Bool.false_and, Bool.and_false, Bool.true_or, Bool.or_true, Bool.or_false, Bool.false_or, Bool.not_eq_false', Bool.true_eq_false, Bool.false_eq_true, eq_self, Classical.not_not, ite_not, ne_eq, Option.some.injEq, Prod.mk.injEq, L_46, L_47, g2, q]
    exact RS.done ⟨υ, rfl, f, f3, fun j hj => g j (by omega)⟩
  · rintro r ⟨υ, rfl, f, f3, g⟩
    simp only [ev_op, ev_op2, ev_op1, ev_dv, ev_dv2, ev_dv1, ev_un, ev_un1, ev_lit, ev_l0, ev_l1, ev_l2, ev_l3, ev_l4, ev_l5, ev_l6, ev_l7, ev_l8, ev_l9, ev_l10, ev_l11, ev_rf, ev_gi, ev_gi1, ev_gi2, ev_gr, ev_gr1, ev_at0, ev_at, ev_al, ev_al2, ev_al1, ev_an, ev_an1, ev_vs0, ev_vs, ev_vs2, ev_vs1, ev_ca, ev_ca1, ev_cv, ev_cv1, ev_cv2, ev_if, ev_if1, ev_cmp, ev_cmp2, ev_cmp1, ev_not, ev_not1, ev_and, ev_and1, ev_or, ev_or1, ev_e, ev_e1, ev_cif, ev_cif1, ev_qlt, ev_qle, ev_qgt, ev_qge, ev_qeq, ev_qne, ev_skip, ev_brk, ev_cnt, ev_retv, ev_seq, ev_seq0, ev_seq1, ev_seq2, ev_seq3, ev_seqi, ev_sif, ev_sif1, ev_ret, ev_ret1, ev_retz, ev_retzb, ev_retzc, ev_retz1, ev_retc, ev_asg, ev_s0, ev_s1, ev_s2, ev_s3, ev_s4, ev_s5, ev_s6, ev_s7, ev_s8, ev_s9, ev_s10, ev_s11, ev_exp, ev_exp1, ev_pf, ev_pf2, ev_pf1, ev_pz, ev_pz2, ev_pz1, ev_of, ev_of2, ev_of1, ev_st, ev_as, ev_as3, ev_as2, ev_as1, ev_oa, ev_oa3, ev_oa2, ev_oa1, ev_oa0, ev_cp, ev_cp3, ev_cp2, ev_cp1, ev_sw, ev_sw1, ev_swb0, ev_swb1, ev_swb3, ev_swbi, ev_fin3, ev_fin0, ev_fini, ev_iv, ev_ic, ev_b1, ev_b2, ev_b3, ev_b4, ev_b5, ev_b6, ev_or12, ev_lp, ev_lc, ev_lb0, ev_lb1, ev_lb2, ev_lb3, ev_lbi, ev_lu, ev_ass]
    refine wf_lp (fun r => ∃ E υ, r = (0, 0, [some 46, some 55, E], υ) ∧ frWr τ υ ∧ υ 55 3 = ((rdL σ pl).length : Int) ∧ ∀ j : Nat, j < (rdL σ pl).length → roW σ pl (wyA σ pl p.2) j υ ∧ υ 56 ((j : Int) * 3 + 2) = tmR σ pl (wyA σ pl p.2) j) (wq_I (fun i E υ => E = [some 46, some 55, some i] ∧ frWr τ υ ∧ υ 55 3 = ((rdL σ pl).length : Int) ∧ ∀ j : Nat, j < (rdL σ pl).length → roW σ pl (wyA σ pl p.2) j υ ∧ ((wyD (vnL σ pl).length (rdL σ pl).length p.2).getD j (-1) < i → υ 56 ((j : Int) * 3 + 2) = tmR σ pl (wyA σ pl p.2) j)) 0 ((vnL σ pl).length : Int) (by omega) ⟨rfl, f, f3, fun j hj => ⟨g j hj, fun y => ?_⟩⟩ ?_ ?_) ?_
    · obtain ⟨d, d1, d2, d3⟩ := wyA_get hw hj
      omega
    · rintro i E υ i0 i1 ⟨rfl, f, f3, g⟩
      obtain ⟨k, rfl⟩ : ∃ k : Nat, i = (k : Int) := ⟨i.toNat, by omega⟩
      have kl : k < (vnL σ pl).length := by omega
      obtain ⟨⟨r0, r1⟩, hv2, hb2, hs2, hw2, em⟩ := o υ f
      have g4 := hv2.1
      have g50 := hv2.2 k kl
      have g53 := hs2 p rfl (k : Int) i0 (by omega)
      have r3 : 0 ≤ (k : Int) ∧ (k : Int) < 3 := by omega
      have n1 := fun _ : Unit => n_add (show -2147483648 ≤ (k : Int) + 1 ∧ (k : Int) + 1 < 2147483648 by omega)
      have sb := ceM_lt (wyD (vnL σ pl).length (rdL σ pl).length p.2) (k : Int)
      have ad := ceM_AD h hw kl
      have vm := vnL_mem kl
      have bit : ∀ j : Nat, j < (rdL σ pl).length → tb (ceM (wyD (vnL σ pl).length (rdL σ pl).length p.2) (k : Int)) (j : Int) = decide ((wyD (vnL σ pl).length (rdL σ pl).length p.2).getD j (-1) = (k : Int)) := fun j hj => by
        unfold ceM
        rw [tb_bI _ _ (by omega), Int.toNat_natCast, decide_eq_true (by omega), Bool.true_and]
      generalize eS : ceM (wyD (vnL σ pl).length (rdL σ pl).length p.2) (k : Int) = S at g53 sb ad bit
      by_cases z : S = 0
      · rw [z] at g53
        simp only [ev_op, ev_op2, ev_op1, ev_dv, ev_dv2, ev_dv1, ev_un, ev_un1, ev_lit, ev_l0, ev_l1, ev_l2, ev_l3, ev_l4, ev_l5, ev_l6, ev_l7, ev_l8, ev_l9, ev_l10, ev_l11, ev_rf, ev_gi, ev_gi1, ev_gi2, ev_gr, ev_gr1, ev_at0, ev_at, ev_al, ev_al2, ev_al1, ev_an, ev_an1, ev_vs0, ev_vs, ev_vs2, ev_vs1, ev_ca, ev_ca1, ev_cv, ev_cv1, ev_cv2, ev_if, ev_if1, ev_cmp, ev_cmp2, ev_cmp1, ev_not, ev_not1, ev_and, ev_and1, ev_or, ev_or1, ev_e, ev_e1, ev_cif, ev_cif1, ev_qlt, ev_qle, ev_qgt, ev_qge, ev_qeq, ev_qne, ev_skip, ev_brk, ev_cnt, ev_retv, ev_seq, ev_seq0, ev_seq1, ev_seq2, ev_seq3, ev_seqi, ev_sif, ev_sif1, ev_ret, ev_ret1, ev_retz, ev_retzb, ev_retzc, ev_retz1, ev_retc, ev_asg, ev_s0, ev_s1, ev_s2, ev_s3, ev_s4, ev_s5, ev_s6, ev_s7, ev_s8, ev_s9, ev_s10, ev_s11, ev_exp, ev_exp1, ev_pf, ev_pf2, ev_pf1, ev_pz, ev_pz2, ev_pz1, ev_of, ev_of2, ev_of1, ev_st, ev_as, ev_as3, ev_as2, ev_as1, ev_oa, ev_oa3, ev_oa2, ev_oa1, ev_oa0, ev_cp, ev_cp3, ev_cp2, ev_cp1, ev_sw, ev_sw1, ev_swb0, ev_swb1, ev_swb3, ev_swbi, ev_fin3, ev_fin0, ev_fini, ev_iv, ev_ic, ev_b1, ev_b2, ev_b3, ev_b4, ev_b5, ev_b6, ev_or12, ev_lp, ev_lc, ev_lb0, ev_lb1, ev_lb2, ev_lb3, ev_lbi, ev_lu, ev_ass, Int.reduceAdd, Int.reduceSub, Int.reduceMul, Int.reduceNeg, Int.reduceLT, Int.reduceLE, Int.reduceGT, Int.reduceGE, Int.reduceEq, Int.reduceNe, Int.reduceDiv, Int.reduceMod, Int.reduceToNat, Nat.reduceAdd, Nat.reduceMul, Nat.reduceSub, Nat.reduceLT, Nat.reduceEqDiff, Int.reduceNatCast', reduceIte, ite_true, ite_false, if_true, if_false, decide_eq_true_eq, decide_true, decide_false, decide_not, Bool.not_eq_true', decide_eq_false_iff_not, Bool.not_not, Bool.and_eq_true, Bool.or_eq_true, Bool.not_true, Bool.not_false, not_true_eq_false, not_false_eq_true, true_and, and_true, false_and, and_false, true_or, or_true, false_or, or_false, Bool.true_and, Bool.and_true, Bool.false_and, Bool.and_false, Bool.true_or, Bool.or_true, Bool.or_false, Bool.false_or, Bool.not_eq_false', Bool.true_eq_false, Bool.false_eq_true, eq_self, Classical.not_not, ite_not, ne_eq, Option.some.injEq, Prod.mk.injEq, L_46, L_53, g4, i1, r3, g53, n1 ()]
        refine RS.go ⟨rfl, f, f3, fun j hj => ⟨(g j hj).1, fun y => ?_⟩⟩
        have b := bit j hj
        rw [z, tb_0] at b
        have nk : ¬ (wyD (vnL σ pl).length (rdL σ pl).length p.2).getD j (-1) = (k : Int) := fun y2 => by
          rw [decide_eq_true y2] at b
          cases b
        exact (g j hj).2 (by omega)
      · have lp := valN_pos hv (v := (vnL σ pl).getD k 0) vm.1.1 (by omega)
        rw [← ad] at lp
        obtain ⟨d, hd⟩ := lateN_some lp z
        have pb := psN_lt (rdL σ pl) S
        obtain ⟨bt, ct⟩ := bestT_eq em ((vnL σ pl).getD k 0) (psN (rdL σ pl) S)
        obtain ⟨υ1, a1, a2, a3, a4⟩ := s9_find (σ := υ) hw2 (v := (vnL σ pl).getD k 0) (x := psN (rdL σ pl) S) (by rw [em 88 (by decide) (by decide)]; exact vm.1) pb
        rw [coL_n hw2, ct] at a3 a4
        rw [Int.toNat_natCast] at a4
        rw [bt, hd] at a1 a4
        have a1 : f9_find [39, (vnL σ pl).getD k 0, psN (rdL σ pl) S] υ = some (1, υ1) := a1
        have pi := s0_personsIn (τ := υ) l8 (fun j hj => by have := lm j hj; omega) hb2.1 hb2.2.1 sb
        have f1 : frWr τ υ1 := fun a b hk => (a2 a b (by omega)).trans (f a b hk)
        obtain ⟨⟨r0', r1'⟩, hv3, hb3, hs3, hw3, em3⟩ := o υ1 f1
        have bs := bestT_some h hd
        obtain ⟨υ2, b1, b2, b3⟩ := s5_writeArrivals (σ := υ1) hw3 l8 (fun j hj => by rw [em3 88 (by decide) (by decide)]; exact lm j hj) hb3.1 hb3.2.1 r0' r1' (by rw [a2 55 3 (by decide)]; exact f3) bs.2 a3 a4 sb (fun j hj ht => by
          rw [em3 92 (by decide) (by decide)]
          have := lm j hj
          exact bestT_co h hd _ this.1 this.2 (psN_has hj (by omega) ht))
        have g53' : υ1 53 (k : Int) = S := by rw [a2 53 _ (by omega)]; exact g53
        simp only [ev_op, ev_op2, ev_op1, ev_dv, ev_dv2, ev_dv1, ev_un, ev_un1, ev_lit, ev_l0, ev_l1, ev_l2, ev_l3, ev_l4, ev_l5, ev_l6, ev_l7, ev_l8, ev_l9, ev_l10, ev_l11, ev_rf, ev_gi, ev_gi1, ev_gi2, ev_gr, ev_gr1, ev_at0, ev_at, ev_al, ev_al2, ev_al1, ev_an, ev_an1, ev_vs0, ev_vs, ev_vs2, ev_vs1, ev_ca, ev_ca1, ev_cv, ev_cv1, ev_cv2, ev_if, ev_if1, ev_cmp, ev_cmp2, ev_cmp1, ev_not, ev_not1, ev_and, ev_and1, ev_or, ev_or1, ev_e, ev_e1, ev_cif, ev_cif1, ev_qlt, ev_qle, ev_qgt, ev_qge, ev_qeq, ev_qne, ev_skip, ev_brk, ev_cnt, ev_retv, ev_seq, ev_seq0, ev_seq1, ev_seq2, ev_seq3, ev_seqi, ev_sif, ev_sif1, ev_ret, ev_ret1, ev_retz, ev_retzb, ev_retzc, ev_retz1, ev_retc, ev_asg, ev_s0, ev_s1, ev_s2, ev_s3, ev_s4, ev_s5, ev_s6, ev_s7, ev_s8, ev_s9, ev_s10, ev_s11, ev_exp, ev_exp1, ev_pf, ev_pf2, ev_pf1, ev_pz, ev_pz2, ev_pz1, ev_of, ev_of2, ev_of1, ev_st, ev_as, ev_as3, ev_as2, ev_as1, ev_oa, ev_oa3, ev_oa2, ev_oa1, ev_oa0, ev_cp, ev_cp3, ev_cp2, ev_cp1, ev_sw, ev_sw1, ev_swb0, ev_swb1, ev_swb3, ev_swbi, ev_fin3, ev_fin0, ev_fini, ev_iv, ev_ic, ev_b1, ev_b2, ev_b3, ev_b4, ev_b5, ev_b6, ev_or12, ev_lp, ev_lc, ev_lb0, ev_lb1, ev_lb2, ev_lb3, ev_lbi, ev_lu, ev_ass, Int.reduceAdd, Int.reduceSub, Int.reduceMul, Int.reduceNeg, Int.reduceLT, Int.reduceLE, Int.reduceGT, Int.reduceGE, Int.reduceEq, Int.reduceNe, Int.reduceDiv, Int.reduceMod, Int.reduceToNat, Nat.reduceAdd, Nat.reduceMul, Nat.reduceSub, Nat.reduceLT, Nat.reduceEqDiff, Int.reduceNatCast', reduceIte, ite_true, ite_false, if_true, if_false, decide_eq_true_eq, decide_true, decide_false, decide_not, Bool.not_eq_true', decide_eq_false_iff_not, Bool.not_not, Bool.and_eq_true, Bool.or_eq_true, Bool.not_true, Bool.not_false, not_true_eq_false, not_false_eq_true, true_and, and_true, false_and, and_false, true_or, or_true, false_or, or_false, Bool.true_and, Bool.and_true, Bool.false_and, Bool.and_false, Bool.true_or, Bool.or_true, Bool.or_false, Bool.false_or, Bool.not_eq_false', Bool.true_eq_false, Bool.false_eq_true, eq_self, Classical.not_not, ite_not, ne_eq, Option.some.injEq, Prod.mk.injEq, L_39, L_46, L_47, L_50, L_53, L_55, g4, i1, r3, g53, z, g50, pi, a1, g53', b1, n1 ()]
        refine RS.go ⟨rfl, fun a b hk => ?_, ?_, fun j hj => ?_⟩
        · rw [b2 a b (by omega)]
          exact f1 a b hk
        · rw [b2 55 3 (by decide), a2 55 3 (by decide)]
          exact f3
        · obtain ⟨t0, t1, t2⟩ := b3 j hj
          obtain ⟨⟨x0, x1⟩, x2⟩ := g j hj
          refine ⟨⟨by rw [t0, a2 56 _ (by decide)]; exact x0, by rw [t1, a2 56 _ (by decide)]; exact x1⟩, fun y => ?_⟩
          rw [t2, bit j hj, em3 92 (by decide) (by decide)]
          by_cases y2 : (wyD (vnL σ pl).length (rdL σ pl).length p.2).getD j (-1) = (k : Int)
          · rw [if_pos (decide_eq_true y2)]
            obtain ⟨d', d1, d2, d3⟩ := wyA_get hw hj
            have dk : d' = k := by omega
            rw [dk] at d2
            unfold tmR
            rw [d2, ← ad, hd]
          · rw [if_neg (by rw [decide_eq_false y2]; decide), a2 56 _ (by decide)]
            exact x2 (by omega)
    · rintro E υ ⟨rfl, f, f3, g⟩
      obtain ⟨⟨r0, r1⟩, hv2, hb2, hs2, hw2, em⟩ := o υ f
      have g4 := hv2.1
      have q : ¬ ((vnL σ pl).length : Int) < ((vnL σ pl).length : Int) := by omega
      simp only [ev_op, ev_op2, ev_op1, ev_dv, ev_dv2, ev_dv1, ev_un, ev_un1, ev_lit, ev_l0, ev_l1, ev_l2, ev_l3, ev_l4, ev_l5, ev_l6, ev_l7, ev_l8, ev_l9, ev_l10, ev_l11, ev_rf, ev_gi, ev_gi1, ev_gi2, ev_gr, ev_gr1, ev_at0, ev_at, ev_al, ev_al2, ev_al1, ev_an, ev_an1, ev_vs0, ev_vs, ev_vs2, ev_vs1, ev_ca, ev_ca1, ev_cv, ev_cv1, ev_cv2, ev_if, ev_if1, ev_cmp, ev_cmp2, ev_cmp1, ev_not, ev_not1, ev_and, ev_and1, ev_or, ev_or1, ev_e, ev_e1, ev_cif, ev_cif1, ev_qlt, ev_qle, ev_qgt, ev_qge, ev_qeq, ev_qne, ev_skip, ev_brk, ev_cnt, ev_retv, ev_seq, ev_seq0, ev_seq1, ev_seq2, ev_seq3, ev_seqi, ev_sif, ev_sif1, ev_ret, ev_ret1, ev_retz, ev_retzb, ev_retzc, ev_retz1, ev_retc, ev_asg, ev_s0, ev_s1, ev_s2, ev_s3, ev_s4, ev_s5, ev_s6, ev_s7, ev_s8, ev_s9, ev_s10, ev_s11, ev_exp, ev_exp1, ev_pf, ev_pf2, ev_pf1, ev_pz, ev_pz2, ev_pz1, ev_of, ev_of2, ev_of1, ev_st, ev_as, ev_as3, ev_as2, ev_as1, ev_oa, ev_oa3, ev_oa2, ev_oa1, ev_oa0, ev_cp, ev_cp3, ev_cp2, ev_cp1, ev_sw, ev_sw1, ev_swb0, ev_swb1, ev_swb3, ev_swbi, ev_fin3, ev_fin0, ev_fini, ev_iv, ev_ic, ev_b1, ev_b2, ev_b3, ev_b4, ev_b5, ev_b6, ev_or12, ev_lp, ev_lc, ev_lb0, ev_lb1, ev_lb2, ev_lb3, ev_lbi, ev_lu, ev_ass, Int.reduceAdd, Int.reduceSub, Int.reduceMul, Int.reduceNeg, Int.reduceLT, Int.reduceLE, Int.reduceGT, Int.reduceGE, Int.reduceEq, Int.reduceNe, Int.reduceDiv, Int.reduceMod, Int.reduceToNat, Nat.reduceAdd, Nat.reduceMul, Nat.reduceSub, Nat.reduceLT, Nat.reduceEqDiff, Int.reduceNatCast', reduceIte, ite_true, ite_false, if_true, if_false, decide_eq_true_eq, decide_true, decide_false, decide_not, Bool.not_eq_true', decide_eq_false_iff_not, Bool.not_not, Bool.and_eq_true, Bool.or_eq_true, Bool.not_true, Bool.not_false, not_true_eq_false, not_false_eq_true, true_and, and_true, false_and, and_false, true_or, or_true, false_or, or_false, Bool.true_and, Bool.and_true, Bool.false_and, Bool.and_false, Bool.true_or, Bool.or_true, Bool.or_false, Bool.false_or, Bool.not_eq_false', Bool.true_eq_false, Bool.false_eq_true, eq_self, Classical.not_not, ite_not, ne_eq, Option.some.injEq, Prod.mk.injEq, L_46, g4, q]
      refine RS.done ⟨_, υ, rfl, f, f3, fun j hj => ⟨(g j hj).1, (g j hj).2 ?_⟩⟩
      obtain ⟨d', d1, d2, d3⟩ := wyA_get hw hj
      omega
    · rintro r ⟨E, υ, rfl, f, f3, g⟩
      simp only [ev_op, ev_op2, ev_op1, ev_dv, ev_dv2, ev_dv1, ev_un, ev_un1, ev_lit, ev_l0, ev_l1, ev_l2, ev_l3, ev_l4, ev_l5, ev_l6, ev_l7, ev_l8, ev_l9, ev_l10, ev_l11, ev_rf, ev_gi, ev_gi1, ev_gi2, ev_gr, ev_gr1, ev_at0, ev_at, ev_al, ev_al2, ev_al1, ev_an, ev_an1, ev_vs0, ev_vs, ev_vs2, ev_vs1, ev_ca, ev_ca1, ev_cv, ev_cv1, ev_cv2, ev_if, ev_if1, ev_cmp, ev_cmp2, ev_cmp1, ev_not, ev_not1, ev_and, ev_and1, ev_or, ev_or1, ev_e, ev_e1, ev_cif, ev_cif1, ev_qlt, ev_qle, ev_qgt, ev_qge, ev_qeq, ev_qne, ev_skip, ev_brk, ev_cnt, ev_retv, ev_seq, ev_seq0, ev_seq1, ev_seq2, ev_seq3, ev_seqi, ev_sif, ev_sif1, ev_ret, ev_ret1, ev_retz, ev_retzb, ev_retzc, ev_retz1, ev_retc, ev_asg, ev_s0, ev_s1, ev_s2, ev_s3, ev_s4, ev_s5, ev_s6, ev_s7, ev_s8, ev_s9, ev_s10, ev_s11, ev_exp, ev_exp1, ev_pf, ev_pf2, ev_pf1, ev_pz, ev_pz2, ev_pz1, ev_of, ev_of2, ev_of1, ev_st, ev_as, ev_as3, ev_as2, ev_as1, ev_oa, ev_oa3, ev_oa2, ev_oa1, ev_oa0, ev_cp, ev_cp3, ev_cp2, ev_cp1, ev_sw, ev_sw1, ev_swb0, ev_swb1, ev_swb3, ev_swbi, ev_fin3, ev_fin0, ev_fini, ev_iv, ev_ic, ev_b1, ev_b2, ev_b3, ev_b4, ev_b5, ev_b6, ev_or12, ev_lp, ev_lc, ev_lb0, ev_lb1, ev_lb2, ev_lb3, ev_lbi, ev_lu, ev_ass, Int.reduceAdd, Int.reduceSub, Int.reduceMul, Int.reduceNeg, Int.reduceLT, Int.reduceLE, Int.reduceGT, Int.reduceGE, Int.reduceEq, Int.reduceNe, Int.reduceDiv, Int.reduceMod, Int.reduceToNat, Nat.reduceAdd, Nat.reduceMul, Nat.reduceSub, Nat.reduceLT, Nat.reduceEqDiff, Int.reduceNatCast', reduceIte, ite_true, ite_false, if_true, if_false, decide_eq_true_eq, decide_true, decide_false, decide_not, Bool.not_eq_true', decide_eq_false_iff_not, Bool.not_not, Bool.and_eq_true, Bool.or_eq_true, Bool.not_true, Bool.not_false, not_true_eq_false, not_false_eq_true, true_and, and_true, false_and, and_false, true_or, or_true, false_or, or_false, Bool.true_and, Bool.and_true, Bool.false_and, Bool.and_false, Bool.true_or, Bool.or_true, Bool.or_false, Bool.false_or, Bool.not_eq_false', Bool.true_eq_false, Bool.false_eq_true, eq_self, Classical.not_not, ite_not, ne_eq, Option.some.injEq, Prod.mk.injEq, L_55, f3]
      exact WF.mk ⟨rfl, f, f3, g⟩
