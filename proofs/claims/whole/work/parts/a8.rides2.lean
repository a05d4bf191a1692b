/-! ===== the model's ride ===== -/
theorem ride_len (arr : Int → Int → Int → Int → Option Int) (tk : Int → Int → Int) : ∀ (l : List Int) (a t D : Int) (g : List (Int × Int)), ride arr tk l a t D = some g → g.map (·.1) = l := by
  intro l
  induction l with
  | nil => intro a t D g e; injection e with e; rw [← e]; rfl
  | cons c l ih =>
    intro a t D g e
    rw [ride] at e
    cases e1 : arr a t D c with
    | none => simp only [e1] at e; exact absurd e (by simp)
    | some u =>
      simp only [e1] at e
      cases e2 : ride arr tk l c u (tk t D) with
      | none => simp only [e2] at e; exact absurd e (by simp)
      | some g' =>
        rw [e2] at e
        injection e with e
        rw [← e]
        show c :: g'.map (·.1) = c :: l
        rw [ih _ _ _ _ e2]
theorem lp_rides {τ : cvM} (h : WR τ) {v : Int} (hv : 0 ≤ v ∧ v < τ 88 3) {n : Nat} (hn : 1 ≤ n ∧ n ≤ 4) (e11 : τ 87 11 = (n : Int)) {O : List Int} (hO : O.length = n) (h100 : ∀ (j : Nat) (hj : j < O.length), 0 ≤ τ 100 (j : Int) ∧ τ 100 (j : Int) < 8 ∧ τ 99 (τ 100 (j : Int)) = O[j]) (hc : ∀ c ∈ O, 0 ≤ c ∧ c < τ 88 1) {hm lea : Int} (hhm : 0 ≤ hm ∧ hm < 8) (hlea : 0 ≤ lea ∧ lea ≤ 1439) (hne : ∀ (j : Nat) (hj : j < O.length), (if j = 0 then hm else O.getD (j - 1) 0) ≠ O[j]) (S : Int) : WQ (xs_lp ((xc_cmp qlt (xe_loc 6) (xe_gi 12 11 (xe_loc 0)))) ((xs_seq (xs_asg 7 (xe_lit 0)) (xs_seq (xs_seq (xs_asg 8 (xe_lit 0)) (xs_lp (xc_cmp qlt (xe_loc 8) (xe_al (xe_gr 12 0 (xe_loc 0)) (xe_lit 4))) (xs_if (xc_and (xc_and (xc_cmp qeq (xe_al (xe_gr 12 7 (xe_loc 0)) (xe_op omul (xe_lit 4) (xe_loc 8))) (xe_loc 1)) (xc_cmp qle (xe_al (xe_gr 12 7 (xe_loc 0)) (xe_op oadd (xe_op omul (xe_lit 4) (xe_loc 8)) (xe_lit 1))) (xe_loc 4))) (xc_cmp qeq (xe_op oand (xe_op oshr (xe_loc 5) (xe_loc 8)) (xe_lit 1)) (xe_lit 0))) (xs_seq (xs_asg 7 (xe_op oadd (xe_loc 7) (xe_al (xe_gr 12 7 (xe_loc 0)) (xe_op oadd (xe_op omul (xe_lit 4) (xe_loc 8)) (xe_lit 3))))) (xs_asg 5 (xe_op oor (xe_loc 5) (xe_op oshl (xe_lit 1) (xe_loc 8))))) xs_skip) (xs_asg 8 (xe_op oadd (xe_loc 8) (xe_lit 1))))) (xs_seq (xs_asg 4 (xe_op oadd (xe_loc 4) (xe_loc 7))) (xs_seq (xs_asg 8 (xe_al (xe_gr 12 12 (xe_loc 0)) (xe_al (xe_gr 12 13 (xe_loc 0)) (xe_loc 6)))) (xs_seq (xs_asg 4 (xe_op oadd (xe_loc 4) (xe_cv 12 f12_driveOf [(xe_loc 0), (xe_loc 3), (xe_loc 8), (xe_loc 4)]))) (xs_seq (xs_asg 4 (xe_if (xc_cmp qgt (xe_loc 4) (xe_cv 12 f12_from [(xe_loc 0), (xe_loc 8)])) (xe_loc 4) (xe_cv 12 f12_from [(xe_loc 0), (xe_loc 8)]))) (xs_seq (xs_if (xc_cmp qgt (xe_loc 4) (xe_cv 12 f12_till [(xe_loc 0), (xe_loc 8)])) (xs_retz (xe_lit 0)) xs_skip) (xs_seq (xs_as (xe_gr 12 14 (xe_loc 0)) (xe_loc 6) (xe_loc 4)) (xs_asg 3 (xe_loc 8))))))))))) ((xs_asg 6 (xe_op oadd (xe_loc 6) (xe_lit 1)))) [some 87, some v, some S, some hm, some lea, some 0, some 0, none, none] τ) (fun r => match ride (arrT τ v 5000) (tkT τ v) O hm lea 0 with
    | none => ∃ E υ, r = (3, 0, E, υ) ∧ ∀ k i : Int, k ≠ 101 → υ k i = τ k i
    | some g => ∃ a D x7 x8 υ, r = (0, 0, [some 87, some v, some S, some a, some (lastT g), some D, some (n : Int), x7, x8], υ) ∧ (∀ k i : Int, k ≠ 101 → υ k i = τ k i) ∧ ∀ (j : Nat) (hj : j < g.length), υ 101 (j : Int) = g[j].2) := by
  have c3 := cnt_3 h
  refine wq_I (fun j E υ => ∃ a t D x7 x8 g, E = [some 87, some v, some S, some a, some t, some D, some j, x7, x8] ∧ (∀ k i : Int, k ≠ 101 → υ k i = τ k i) ∧ g.length = j.toNat ∧ (∀ (i : Nat) (hi : i < g.length), υ 101 (i : Int) = g[i].2) ∧ ride (arrT τ v 5000) (tkT τ v) O hm lea 0 = (ride (arrT τ v 5000) (tkT τ v) (O.drop j.toNat) a t D).map (g ++ ·) ∧ a = (if j.toNat = 0 then hm else O.getD (j.toNat - 1) 0) ∧ (0 ≤ a ∧ a < 8) ∧ (0 ≤ t ∧ t ≤ 1439) ∧ (0 ≤ D ∧ D < 256) ∧ (0 < j → t = lastT g)) 0 (n : Int) (by omega) ⟨hm, lea, 0, none, none, [], rfl, fun _ _ _ => rfl, rfl, fun i hi => absurd hi (Nat.not_lt_zero _), ?_, rfl, hhm, hlea, by decide, fun z => absurd z (by decide)⟩ ?_ ?_
  · rw [show (0 : Int).toNat = 0 from rfl, List.drop_zero]
    cases ride (arrT τ v 5000) (tkT τ v) O hm lea 0 <;> rfl
  · rintro j E υ j0 j1 ⟨a, t, D, x7, x8, g, rfl, f, gl, g1, er, ea, ab, tb1, Db, tl⟩
    have hj : j.toNat < O.length := by omega
    have fk : ∀ k : Int, k ≠ 101 → υ k = τ k := fun k hk => funext fun i => f k i hk
    have w : WR υ := h.congr2 fun k i hk => f k i (by omega)
    have lo := lp_lost w (v := v) (t := t) Db S a j x8
    have re := rideEq (σ := τ) (τ := υ) (fun k hk => fk k (by omega)) v 5000 []
    have e8 := h100 j.toNat hj
    rw [Int.toNat_of_nonneg j0] at e8
    have cc := hc O[j.toNat] (List.getElem_mem _)
    have ne := hne j.toNat hj
    rw [← ea] at ne
    have r1 : 0 ≤ j ∧ j < 4 := by omega
    have md := dlM_bd h (oand (dlS τ v t) (oxor D (-1))) (n := τ 88 4) (by have := cnt_6 h; omega)
    have cd := cnt_6 h
    have dlE : dlM υ (oand (dlS υ v t) (oxor D (-1))) (υ 88 4) = dlM τ (oand (dlS τ v t) (oxor D (-1))) (τ 88 4) := by
      unfold dlM dlS dlP
      rw [fk 88 (by decide), fk 95 (by decide)]
    rw [re.2.1, dlE, fk 88 (by decide)] at lo
    have ed : O.drop j.toNat = O[j.toNat] :: O.drop (j.toNat + 1) := List.drop_eq_getElem_cons hj
    rw [ed, ride] at er
    have ea2 : arrT τ v 5000 a t D O[j.toNat] = if cmT τ a O[j.toNat] (t + dlM τ (oand (dlS τ v t) (oxor D (-1))) (τ 88 4)) ≤ 5000 ∧ cmT τ a O[j.toNat] (t + dlM τ (oand (dlS τ v t) (oxor D (-1))) (τ 88 4)) ≤ τ 89 (5 * O[j.toNat] + 4) then some (cmT τ a O[j.toNat] (t + dlM τ (oand (dlS τ v t) (oxor D (-1))) (τ 88 4))) else none := rfl
    have aT : oadd t (dlM τ (oand (dlS τ v t) (oxor D (-1))) (τ 88 4)) = t + dlM τ (oand (dlS τ v t) (oxor D (-1))) (τ 88 4) := n_add (by omega)
    have Tb : 0 ≤ t + dlM τ (oand (dlS τ v t) (oxor D (-1))) (τ 88 4) ∧ t + dlM τ (oand (dlS τ v t) (oxor D (-1))) (τ 88 4) ≤ 3359 := by omega
    generalize dlM τ (oand (dlS τ v t) (oxor D (-1))) (τ 88 4) = M at lo ea2 aT Tb
    have gc := h.rP _ cc.1 cc.2
    have dlb := dlS_lt h v t
    have ol : 0 ≤ tkT τ v t D ∧ tkT τ v t D < 256 := oor_lt 8 (by decide) Db dlb
    have hl2 : (g ++ [(O[j.toNat], cmT τ a O[j.toNat] (t + M))]).length = (j + 1).toNat := by rw [List.length_append, gl]; show j.toNat + 1 = _; omega
    have eO : O.getD j.toNat 0 = O[j.toNat] := by rw [List.getD_eq_getElem?_getD, List.getElem?_eq_getElem hj]; rfl
    generalize O[j.toNat] = c at e8 cc ne ea2 er gc hl2 eO
    have cb := cmT_bd h (a := a) (c := c) (t := t + M) cc ab Tb.1
    have dv := s12_driveOf w (a := a) (b := c) (t := t + M) (by omega) (by omega)
    have de : drv υ a c (t + M) = drv τ a c (t + M) := by
      unfold drv
      rw [fk 90 (by decide), fk 91 (by decide)]
    rw [de] at dv
    have db := drv_bd h (a := a) (b := c) (t := t + M) (by omega) Tb.1
    have aD : oadd (t + M) (drv τ a c (t + M)) = t + M + drv τ a c (t + M) := n_add (by omega)
    have ff := s12_from (p := c) (by omega) υ
    have ft := s12_till (p := c) (by omega) υ
    rw [f 89 _ (by decide)] at ff ft
    have ce : cmT τ a c (t + M) = if τ 89 (5 * c + 3) < t + M + drv τ a c (t + M) then t + M + drv τ a c (t + M) else τ 89 (5 * c + 3) := by
      unfold cmT dr0
      rw [if_neg ne]
      split <;> omega
    have n1 := n_add (show -2147483648 ≤ j + 1 ∧ j + 1 < 2147483648 by omega)
    have u11 : υ 87 11 = (n : Int) := by rw [f 87 11 (by decide), e11]
    have u100 : υ 100 j = τ 100 j := f 100 j (by decide)
    have u99 : υ 99 (τ 100 j) = c := by rw [f 99 _ (by decide), e8.2.2]
    have e81 : 0 ≤ τ 100 j ∧ τ 100 j < 8 := ⟨e8.1, e8.2.1⟩
    generalize cmT τ a c (t + M) = u at ce cb ea2 hl2
    by_cases z : u ≤ τ 89 (5 * c + 4)
    · have z2 : ¬ τ 89 (5 * c + 4) < u := by omega
      rw [if_pos ⟨by omega, z⟩] at ea2
      simp only [ea2] at er
      have fin : ∀ x7 x8, ∃ a' t' D' x7' x8' g', [some 87, some v, some S, some c, some u, some (tkT τ v t D), some (j + 1), x7, x8] = [some 87, some v, some S, some a', some t', some D', some (j + 1), x7', x8'] ∧ (∀ k i : Int, k ≠ 101 → updM υ 101 j u k i = τ k i) ∧ g'.length = (j + 1).toNat ∧ (∀ (i : Nat) (hi : i < g'.length), updM υ 101 j u 101 (i : Int) = g'[i].2) ∧ ride (arrT τ v 5000) (tkT τ v) O hm lea 0 = (ride (arrT τ v 5000) (tkT τ v) (O.drop (j + 1).toNat) a' t' D').map (g' ++ ·) ∧ a' = (if (j + 1).toNat = 0 then hm else O.getD ((j + 1).toNat - 1) 0) ∧ (0 ≤ a' ∧ a' < 8) ∧ (0 ≤ t' ∧ t' ≤ 1439) ∧ (0 ≤ D' ∧ D' < 256) ∧ (0 < j + 1 → t' = lastT g') := fun x7 x8 => by
        refine ⟨c, u, tkT τ v t D, x7, x8, g ++ [(c, u)], rfl, fun k i hk => by rw [upd_ne _ hk, f k i hk], hl2, fun i hi => ?_, ?_, ?_, by omega, by omega, ol, fun _ => ?_⟩
        · rw [List.length_append] at hi
          have hi : i < g.length + 1 := hi
          by_cases y : i < g.length
          · rw [upd_ni (by omega), List.getElem_append_left y]
            exact g1 i y
          · have y2 : i = g.length := by omega
            subst y2
            rw [show ((g.length : Nat) : Int) = j by omega, upd_at, List.getElem_append_right (Nat.le_refl _)]
            simp
        · rw [er, show (j + 1).toNat = j.toNat + 1 by omega]
          cases ride (arrT τ v 5000) (tkT τ v) (O.drop (j.toNat + 1)) c u (tkT τ v t D) with
          | none => rfl
          | some g' =>
            show some (g ++ ((c, u) :: g')) = some (g ++ [(c, u)] ++ g')
            rw [List.append_assoc]
            rfl
        · rw [if_neg (by omega), show (j + 1).toNat - 1 = j.toNat by omega, eO]
        · unfold lastT
          rw [List.getLastD_concat]
      by_cases zz : τ 89 (5 * c + 3) < t + M + drv τ a c (t + M)
      · rw [if_pos zz] at ce
        subst ce
        simp only [ev_op, ev_op2, ev_op1, ev_dv, ev_dv2, ev_dv1, ev_un, ev_un1, ev_lit, ev_l0, ev_l1, ev_l2, ev_l3, ev_l4, ev_l5, ev_l6, ev_l7, ev_l8, ev_l9, ev_l10, ev_l11, ev_rf, ev_gi, ev_gi1, ev_gi2, ev_gr, ev_gr1, ev_at0, ev_at, ev_al, ev_al2, ev_al1, ev_an, ev_an1, ev_vs0, ev_vs, ev_vs2, ev_vs1, ev_ca, ev_ca1, ev_cv, ev_cv1, ev_cv2, ev_if, ev_if1, ev_cmp, ev_cmp2, ev_cmp1, ev_not, ev_not1, ev_and, ev_and1, ev_or, ev_or1, ev_e, ev_e1, ev_cif, ev_cif1, ev_qlt, ev_qle, ev_qgt, ev_qge, ev_qeq, ev_qne, ev_skip, ev_brk, ev_cnt, ev_retv, ev_seq, ev_seq0, ev_seq1, ev_seq2, ev_seq3, ev_seqi, ev_sif, ev_sif1, ev_ret, ev_ret1, ev_retz, ev_retzb, ev_retzc, ev_retz1, ev_retc, ev_asg, ev_s0, ev_s1, ev_s2, ev_s3, ev_s4, ev_s5, ev_s6, ev_s7, ev_s8, ev_s9, ev_s10, ev_s11, ev_exp, ev_exp1, ev_pf, ev_pf2, ev_pf1, ev_pz, ev_pz2, ev_pz1, ev_of, ev_of2, ev_of1, ev_st, ev_as, ev_as3, ev_as2, ev_as1, ev_oa, ev_oa3, ev_oa2, ev_oa1, ev_oa0, ev_cp, ev_cp3, ev_cp2, ev_cp1, ev_sw, ev_sw1, ev_swb0, ev_swb1, ev_swb3, ev_swbi, ev_fin3, ev_fin0, ev_fini, ev_iv, ev_ic, ev_b1, ev_b2, ev_b3, ev_b4, ev_b5, ev_b6, ev_or12, ev_lp, ev_lc, ev_lb0, ev_lb1, ev_lb2, ev_lb3, ev_lbi, ev_lu, ev_ass, Int.reduceAdd, Int.reduceSub, Int.reduceMul, Int.reduceNeg, Int.reduceLT, Int.reduceLE, Int.reduceGT, Int.reduceGE, Int.reduceEq, Int.reduceNe, Int.reduceDiv, Int.reduceMod, Int.reduceToNat, Nat.reduceAdd, Nat.reduceMul, Nat.reduceSub, Nat.reduceLT, Nat.reduceEqDiff, Int.reduceNatCast', reduceIte, ite_true, ite_false, if_true, if_false, decide_eq_true_eq, decide_true, decide_false, decide_not, Bool.not_eq_true', decide_eq_false_iff_not, Bool.not_not, Bool.and_eq_true, Bool.or_eq_true, Bool.not_true, Bool.not_false, not_true_eq_false, not_false_eq_true, true_and, and_true, false_and, and_false, true_or, or_true, false_or, or_false, Bool.true_and, Bool.and_true, Bool.false_and, Bool.and_false, Bool.true_or, Bool.or_true, Bool.or_false, Bool.false_or, Bool.not_eq_false', Bool.true_eq_false, Bool.false_eq_true, eq_self, Classical.not_not, ite_not, ne_eq, Option.some.injEq, Prod.mk.injEq, L_87, L_88, L_99, L_100, L_101, u11, j1, lo, aT, u100, e81, u99, r1, dv, aD, ff, zz, ft, z2, n1]
        refine RS.go ?_
        exact fin _ _
      · rw [if_neg zz] at ce
        subst ce
        simp only [ev_op, ev_op2, ev_op1, ev_dv, ev_dv2, ev_dv1, ev_un, ev_un1, ev_lit, ev_l0, ev_l1, ev_l2, ev_l3, ev_l4, ev_l5, ev_l6, ev_l7, ev_l8, ev_l9, ev_l10, ev_l11, ev_rf, ev_gi, ev_gi1, ev_gi2, ev_gr, ev_gr1, ev_at0, ev_at, ev_al, ev_al2, ev_al1, ev_an, ev_an1, ev_vs0, ev_vs, ev_vs2, ev_vs1, ev_ca, ev_ca1, ev_cv, ev_cv1, ev_cv2, ev_if, ev_if1, ev_cmp, ev_cmp2, ev_cmp1, ev_not, ev_not1, ev_and, ev_and1, ev_or, ev_or1, ev_e, ev_e1, ev_cif, ev_cif1, ev_qlt, ev_qle, ev_qgt, ev_qge, ev_qeq, ev_qne, ev_skip, ev_brk, ev_cnt, ev_retv, ev_seq, ev_seq0, ev_seq1, ev_seq2, ev_seq3, ev_seqi, ev_sif, ev_sif1, ev_ret, ev_ret1, ev_retz, ev_retzb, ev_retzc, ev_retz1, ev_retc, ev_asg, ev_s0, ev_s1, ev_s2, ev_s3, ev_s4, ev_s5, ev_s6, ev_s7, ev_s8, ev_s9, ev_s10, ev_s11, ev_exp, ev_exp1, ev_pf, ev_pf2, ev_pf1, ev_pz, ev_pz2, ev_pz1, ev_of, ev_of2, ev_of1, ev_st, ev_as, ev_as3, ev_as2, ev_as1, ev_oa, ev_oa3, ev_oa2, ev_oa1, ev_oa0, ev_cp, ev_cp3, ev_cp2, ev_cp1, ev_sw, ev_sw1, ev_swb0, ev_swb1, ev_swb3, ev_swbi, ev_fin3, ev_fin0, ev_fini, ev_iv, ev_ic, ev_b1, ev_b2, ev_b3, ev_b4, ev_b5, ev_b6, ev_or12, ev_lp, ev_lc, ev_lb0, ev_lb1, ev_lb2, ev_lb3, ev_lbi, ev_lu, ev_ass, Int.reduceAdd, Int.reduceSub, Int.reduceMul, Int.reduceNeg, Int.reduceLT, Int.reduceLE, Int.reduceGT, Int.reduceGE, Int.reduceEq, Int.reduceNe, Int.reduceDiv, Int.reduceMod, Int.reduceToNat, Nat.reduceAdd, Nat.reduceMul, Nat.reduceSub, Nat.reduceLT, Nat.reduceEqDiff, Int.reduceNatCast', reduceIte, ite_true, ite_false, if_true, if_false, decide_eq_true_eq, decide_true, decide_false, decide_not, Bool.not_eq_true', decide_eq_false_iff_not, Bool.not_not, Bool.and_eq_true, Bool.or_eq_true, Bool.not_true, Bool.not_false, not_true_eq_false, not_false_eq_true, true_and, and_true, false_and, and_false, true_or, or_true, false_or, or_false, Bool.true_and, Bool.and_true, Bool.false_and, Bool.and_false, Bool.true_or, Bool.or_true, Bool.or_false, Bool.false_or, Bool.not_eq_false', Bool.true_eq_false, Bool.false_eq_true, eq_self, Classical.not_not, ite_not, ne_eq, Option.some.injEq, Prod.mk.injEq, L_87, L_88, L_99, L_100, L_101, u11, j1, lo, aT, u100, e81, u99, r1, dv, aD, ff, zz, ft, z2, n1]
        refine RS.go ?_
        exact fin _ _
    · have z2 : τ 89 (5 * c + 4) < u := by omega
      rw [if_neg fun y => z y.2] at ea2
      simp only [ea2] at er
      have er2 : ride (arrT τ v 5000) (tkT τ v) O hm lea 0 = none := by rw [er]; rfl
      by_cases zz : τ 89 (5 * c + 3) < t + M + drv τ a c (t + M)
      · rw [if_pos zz] at ce
        subst ce
        simp only [ev_op, ev_op2, ev_op1, ev_dv, ev_dv2, ev_dv1, ev_un, ev_un1, ev_lit, ev_l0, ev_l1, ev_l2, ev_l3, ev_l4, ev_l5, ev_l6, ev_l7, ev_l8, ev_l9, ev_l10, ev_l11, ev_rf, ev_gi, ev_gi1, ev_gi2, ev_gr, ev_gr1, ev_at0, ev_at, ev_al, ev_al2, ev_al1, ev_an, ev_an1, ev_vs0, ev_vs, ev_vs2, ev_vs1, ev_ca, ev_ca1, ev_cv, ev_cv1, ev_cv2, ev_if, ev_if1, ev_cmp, ev_cmp2, ev_cmp1, ev_not, ev_not1, ev_and, ev_and1, ev_or, ev_or1, ev_e, ev_e1, ev_cif, ev_cif1, ev_qlt, ev_qle, ev_qgt, ev_qge, ev_qeq, ev_qne, ev_skip, ev_brk, ev_cnt, ev_retv, ev_seq, ev_seq0, ev_seq1, ev_seq2, ev_seq3, ev_seqi, ev_sif, ev_sif1, ev_ret, ev_ret1, ev_retz, ev_retzb, ev_retzc, ev_retz1, ev_retc, ev_asg, ev_s0, ev_s1, ev_s2, ev_s3, ev_s4, ev_s5, ev_s6, ev_s7, ev_s8, ev_s9, ev_s10, ev_s11, ev_exp, ev_exp1, ev_pf, ev_pf2, ev_pf1, ev_pz, ev_pz2, ev_pz1, ev_of, ev_of2, ev_of1, ev_st, ev_as, ev_as3, ev_as2, ev_as1, ev_oa, ev_oa3, ev_oa2, ev_oa1, ev_oa0, ev_cp, ev_cp3, ev_cp2, ev_cp1, ev_sw, ev_sw1, ev_swb0, ev_swb1, ev_swb3, ev_swbi, ev_fin3, ev_fin0, ev_fini, ev_iv, ev_ic, ev_b1, ev_b2, ev_b3, ev_b4, ev_b5, ev_b6, ev_or12, ev_lp, ev_lc, ev_lb0, ev_lb1, ev_lb2, ev_lb3, ev_lbi, ev_lu, ev_ass, Int.reduceAdd, Int.reduceSub, Int.reduceMul, Int.reduceNeg, Int.reduceLT, Int.reduceLE, Int.reduceGT, Int.reduceGE, Int.reduceEq, Int.reduceNe, Int.reduceDiv, Int.reduceMod, Int.reduceToNat, Nat.reduceAdd, Nat.reduceMul, Nat.reduceSub, Nat.reduceLT, Nat.reduceEqDiff, Int.reduceNatCast', reduceIte, ite_true, ite_false, if_true, if_false, decide_eq_true_eq, decide_true, decide_false, decide_not, Bool.not_eq_true', decide_eq_false_iff_not, Bool.not_not, Bool.and_eq_true, Bool.or_eq_true, Bool.not_true, Bool.not_false, not_true_eq_false, not_false_eq_true, true_and, and_true, false_and, and_false, true_or, or_true, false_or, or_false, Bool.true_and, Bool.and_true, Bool.false_and, Bool.and_false, Bool.true_or, Bool.or_true, Bool.or_false, Bool.false_or, Bool.not_eq_false', Bool.true_eq_false, Bool.false_eq_true, eq_self, Classical.not_not, ite_not, ne_eq, Option.some.injEq, Prod.mk.injEq, L_87, L_88, L_99, L_100, L_101, u11, j1, lo, aT, u100, e81, u99, r1, dv, aD, ff, zz, ft, z2, n1]
        refine RS.done ?_
        rw [er2]
        exact ⟨_, _, rfl, f⟩
      · rw [if_neg zz] at ce
        subst ce
        simp only [ev_op, ev_op2, ev_op1, ev_dv, ev_dv2, ev_dv1, ev_un, ev_un1, ev_lit, ev_l0, ev_l1, ev_l2, ev_l3, ev_l4, ev_l5, ev_l6, ev_l7, ev_l8, ev_l9, ev_l10, ev_l11, ev_rf, ev_gi, ev_gi1, ev_gi2, ev_gr, ev_gr1, ev_at0, ev_at, ev_al, ev_al2, ev_al1, ev_an, ev_an1, ev_vs0, ev_vs, ev_vs2, ev_vs1, ev_ca, ev_ca1, ev_cv, ev_cv1, ev_cv2, ev_if, ev_if1, ev_cmp, ev_cmp2, ev_cmp1, ev_not, ev_not1, ev_and, ev_and1, ev_or, ev_or1, ev_e, ev_e1, ev_cif, ev_cif1, ev_qlt, ev_qle, ev_qgt, ev_qge, ev_qeq, ev_qne, ev_skip, ev_brk, ev_cnt, ev_retv, ev_seq, ev_seq0, ev_seq1, ev_seq2, ev_seq3, ev_seqi, ev_sif, ev_sif1, ev_ret, ev_ret1, ev_retz, ev_retzb, ev_retzc, ev_retz1, ev_retc, ev_asg, ev_s0, ev_s1, ev_s2, ev_s3, ev_s4, ev_s5, ev_s6, ev_s7, ev_s8, ev_s9, ev_s10, ev_s11, ev_exp, ev_exp1, ev_pf, ev_pf2, ev_pf1, ev_pz, ev_pz2, ev_pz1, ev_of, ev_of2, ev_of1, ev_st, ev_as, ev_as3, ev_as2, ev_as1, ev_oa, ev_oa3, ev_oa2, ev_oa1, ev_oa0, ev_cp, ev_cp3, ev_cp2, ev_cp1, ev_sw, ev_sw1, ev_swb0, ev_swb1, ev_swb3, ev_swbi, ev_fin3, ev_fin0, ev_fini, ev_iv, ev_ic, ev_b1, ev_b2, ev_b3, ev_b4, ev_b5, ev_b6, ev_or12, ev_lp, ev_lc, ev_lb0, ev_lb1, ev_lb2, ev_lb3, ev_lbi, ev_lu, ev_ass, Int.reduceAdd, Int.reduceSub, Int.reduceMul, Int.reduceNeg, Int.reduceLT, Int.reduceLE, Int.reduceGT, Int.reduceGE, Int.reduceEq, Int.reduceNe, Int.reduceDiv, Int.reduceMod, Int.reduceToNat, Nat.reduceAdd, Nat.reduceMul, Nat.reduceSub, Nat.reduceLT, Nat.reduceEqDiff, Int.reduceNatCast', reduceIte, ite_true, ite_false, if_true, if_false, decide_eq_true_eq, decide_true, decide_false, decide_not, Bool.not_eq_true', decide_eq_false_iff_not, Bool.not_not, Bool.and_eq_true, Bool.or_eq_true, Bool.not_true, Bool.not_false, not_true_eq_false, not_false_eq_true, true_and, and_true, false_and, and_false, true_or, or_true, false_or, or_false, Bool.true_and, Bool.and_true, Bool.false_and, Bool.and_false, Bool.true_or, Bool.or_true, Bool.or_false, Bool.false_or, Bool.not_eq_false', Bool.true_eq_false, Bool.false_eq_true, eq_self, Classical.not_not, ite_not, ne_eq, Option.some.injEq, Prod.mk.injEq, L_87, L_88, L_99, L_100, L_101, u11, j1, lo, aT, u100, e81, u99, r1, dv, aD, ff, zz, ft, z2, n1]
        refine RS.done ?_
        rw [er2]
        exact ⟨_, _, rfl, f⟩
  · rintro E υ ⟨a, t, D, x7, x8, g, rfl, f, gl, g1, er, ea, ab, tb1, Db, tl⟩
    have q : ¬ (n : Int) < (n : Int) := by omega
    have e : υ 87 11 = (n : Int) := by rw [f 87 11 (by decide), e11]
    simp only [ev_op, ev_op2, ev_op1, ev_dv, ev_dv2, ev_dv1, ev_un, ev_un1, ev_lit, ev_l0, ev_l1, ev_l2, ev_l3, ev_l4, ev_l5, ev_l6, ev_l7, ev_l8, ev_l9, ev_l10, ev_l11, ev_rf, ev_gi, ev_gi1, ev_gi2, ev_gr, ev_gr1, ev_at0, ev_at, ev_al, ev_al2, ev_al1, ev_an, ev_an1, ev_vs0, ev_vs, ev_vs2, ev_vs1, ev_ca, ev_ca1, ev_cv, ev_cv1, ev_cv2, ev_if, ev_if1, ev_cmp, ev_cmp2, ev_cmp1, ev_not, ev_not1, ev_and, ev_and1, ev_or, ev_or1, ev_e, ev_e1, ev_cif, ev_cif1, ev_qlt, ev_qle, ev_qgt, ev_qge, ev_qeq, ev_qne, ev_skip, ev_brk, ev_cnt, ev_retv, ev_seq, ev_seq0, ev_seq1, ev_seq2, ev_seq3, ev_seqi, ev_sif, ev_sif1, ev_ret, ev_ret1, ev_retz, ev_retzb, ev_retzc, ev_retz1, ev_retc, ev_asg, ev_s0, ev_s1, ev_s2, ev_s3, ev_s4, ev_s5, ev_s6, ev_s7, ev_s8, ev_s9, ev_s10, ev_s11, ev_exp, ev_exp1, ev_pf, ev_pf2, ev_pf1, ev_pz, ev_pz2, ev_pz1, ev_of, ev_of2, ev_of1, ev_st, ev_as, ev_as3, ev_as2, ev_as1, ev_oa, ev_oa3, ev_oa2, ev_oa1, ev_oa0, ev_cp, ev_cp3, ev_cp2, ev_cp1, ev_sw, ev_sw1, ev_swb0, ev_swb1, ev_swb3, ev_swbi, ev_fin3, ev_fin0, ev_fini, ev_iv, ev_ic, ev_b1, ev_b2, ev_b3, ev_b4, ev_b5, ev_b6, ev_or12, ev_lp, ev_lc, ev_lb0, ev_lb1, ev_lb2, ev_lb3, ev_lbi, ev_lu, ev_ass, Int.reduceAdd, Int.reduceSub, Int.reduceMul, Int.reduceNeg, Int.reduceLT, Int.reduceLE, Int.reduceGT, Int.reduceGE, Int.reduceEq, Int.reduceNe, Int.reduceDiv, Int.reduceMod, Int.reduceToNat, Nat.reduceAdd, Nat.reduceMul, Nat.reduceSub, Nat.reduceLT, Nat.reduceEqDiff, Int.reduceNatCast', reduceIte, ite_true, ite_false, if_true, if_false, decide_eq_true_eq, decide_true, decide_false, decide_not, Bool.not_eq_true', decide_eq_false_iff_not, Bool.not_not, Bool.and_eq_true, Bool.or_eq_true, Bool.not_true, Bool.not_false, not_true_eq_false, not_false_eq_true, true_and, and_true, false_and, and_false, true_or, or_true, false_or, or_false, Bool.true_and, Bool.and_true, Bool.false_and, Bool.and_false, Bool.true_or, Bool.or_true, Bool.or_false, Bool.false_or, Bool.not_eq_false', Bool.true_eq_false, Bool.false_eq_true, eq_self, Classical.not_not, ite_not, ne_eq, Option.some.injEq, Prod.mk.injEq, L_87, e, q]
    refine RS.done ?_
    rw [Int.toNat_natCast, List.drop_of_length_le (by omega)] at er
    have er2 : ride (arrT τ v 5000) (tkT τ v) O hm lea 0 = some g := by
      rw [er]
      show some (g ++ []) = some g
      rw [List.append_nil]
    have tt := tl (by omega)
    subst tt
    rw [er2]
    exact ⟨_, _, _, _, _, rfl, f, g1⟩
