/-! ===== the trip: the search ===== -/
theorem oor_lt {x y : Int} (n : Nat) (hn : n ≤ 31) (hx : 0 ≤ x ∧ x < ((2 ^ n : Nat) : Int)) (hy : 0 ≤ y ∧ y < ((2 ^ n : Nat) : Int)) : 0 ≤ oor x y ∧ oor x y < ((2 ^ n : Nat) : Int) := by
  have h31 : (2 : Nat) ^ n ≤ 2 ^ 31 := Nat.pow_le_pow_right (by decide) hn
  have e31 : (2 : Nat) ^ 31 = 2147483648 := by decide
  have e := n_or (a := x.toNat) (b := y.toNat) (by omega) (by omega)
  rw [Int.toNat_of_nonneg hx.1, Int.toNat_of_nonneg hy.1] at e
  have := Nat.or_lt_two_pow (x := x.toNat) (y := y.toNat) (n := n) (by omega) (by omega)
  rw [e]
  omega
theorem anot_lt {x y : Int} (n : Nat) (hn : n ≤ 31) (hx : 0 ≤ x ∧ x < ((2 ^ n : Nat) : Int)) (hy : 0 ≤ y ∧ y < 2147483648) : 0 ≤ oand x (oxor y (-1)) ∧ oand x (oxor y (-1)) < ((2 ^ n : Nat) : Int) := by
  have h31 : (2 : Nat) ^ n ≤ 2 ^ 31 := Nat.pow_le_pow_right (by decide) hn
  have e31 : (2 : Nat) ^ 31 = 2147483648 := by decide
  rw [i_not (by omega) hy]
  have a : x.toNat &&& y.toNat < 2 ^ n := Nat.lt_of_le_of_lt Nat.and_le_left (show x.toNat < 2 ^ n by omega)
  have := Nat.xor_lt_two_pow (x := x.toNat) (y := x.toNat &&& y.toNat) (n := n) (by omega) a
  omega
theorem pcI_xw {x c : Int} (hc : 0 ≤ c ∧ c < 12) (h : tb x c = true) : pcI (xw x c false) + 1 = pcI x := by
  have := pc_wb (x := x.toNat) (p := c.toNat) h 12
  rw [if_pos (by omega)] at this
  unfold pcI xw
  rw [Int.toNat_natCast]
  omega
theorem pcI_0 {x : Int} (hx : 0 ≤ x ∧ x < 4096) (h : pcI x = 0) : x = 0 := by
  refine tb_ext hx.1 (Int.le_refl 0) fun i i0 => ?_
  rw [show tb 0 i = false from Nat.zero_testBit _]
  by_cases z : i < 12
  · exact pc_0 12 (by unfold pcI at h; omega) i.toNat (by omega)
  · exact tb_big 12 hx.2 (by omega)
def arrT (σ : cvM) (v E a t D c : Int) : Option Int := if cmT σ a c (t + dlM σ (oand (dlS σ v t) (oxor D (-1))) (σ 88 4)) ≤ E ∧ cmT σ a c (t + dlM σ (oand (dlS σ v t) (oxor D (-1))) (σ 88 4)) ≤ σ 89 (5 * c + 4) then some (cmT σ a c (t + dlM σ (oand (dlS σ v t) (oxor D (-1))) (σ 88 4))) else none
def tkT (σ : cvM) (v t D : Int) : Int := oor D (dlS σ v t)
theorem f9_lostBy' {σ τ : cvM} (h : WR σ) (f : frT σ τ) (t : Int) : f9_lostBy [39, t] τ = some (dlS σ (σ 39 4) t, τ) := by
  rw [s9_lostBy (f.WR h)]
  unfold dlS dlP
  rw [f.k 88 (by decide), f.k 95 (by decide), f 39 4 (by decide)]
theorem f9_lostMinutes' {σ τ : cvM} (h : WR σ) (f : frT σ τ) {x : Int} (hx : 0 ≤ x ∧ x < 2147483648) : f9_lostMinutes [39, x] τ = some (dlM σ x (σ 88 4), τ) := by
  rw [s9_lostMinutes (f.WR h) hx]
  unfold dlM
  rw [f.k 88 (by decide), f.k 95 (by decide)]
theorem f9_reach' {σ τ : cvM} (h : WR σ) (f : frT σ τ) {a c t : Int} (hc : 0 ≤ c ∧ c < σ 88 1) (ha : 0 ≤ a ∧ a < 8) (ht : 0 ≤ t ∧ t < 100000) : f9_reach [39, a, c, t] τ = some (if cmT σ a c t ≤ σ 39 5 ∧ cmT σ a c t ≤ σ 89 (5 * c + 4) then cmT σ a c t else -3, τ) := by
  rw [s9_reach (f.WR h) (by rw [f.k 88 (by decide)]; exact hc) ha ht]
  unfold cmT dr0 drv
  rw [f.k 89 (by decide), f.k 90 (by decide), f.k 91 (by decide), f 39 5 (by decide)]
theorem gaI.fr {σ τ : cvM} {l : List Int} (h : gaI σ l σ) (f : frT σ τ) : gaI τ l τ := by
  unfold gaI at h ⊢
  rw [f 39 3 (by decide), f.k 92 (by decide)]
  refine ⟨h.1, fun i hi => ?_⟩
  rw [f 40 i (by omega), f 41 i (by omega)]
  exact h.2 i hi
theorem f9_lateAt' {σ τ : cvM} (h : WR σ) (f : frT σ τ) {l : List Int} (hl : ∀ q ∈ l, 0 ≤ q ∧ q < σ 88 2) (hn : l.length ≤ 12) (hg : gaI σ l σ) (c : Int) {u : Int} (hu : -3 ≤ u ∧ u < 100000) : f9_lateAt [39, c, u] τ = some (lateL σ l c u, τ) := by
  rw [s9_lateAt (f.WR h) (by rw [f.k 88 (by decide)]; exact hl) hn (hg.fr f) c hu]
  unfold lateL lateP
  rw [f.k 92 (by decide)]
theorem lateL_all {σ : cvM} (h : WR σ) {c u : Int} (hu : -3 ≤ u ∧ u < 100000) {l : List Int} (hl : ∀ q ∈ l, 0 ≤ q ∧ q < σ 88 2) (hn : l.length ≤ 12) : 0 ≤ lateL σ l c u ∧ lateL σ l c u ≤ 1200000 := by
  have := lateL_tk h (c := c) hu hl l.length (Nat.le_refl _)
  rw [List.take_length] at this
  omega
noncomputable abbrev goC : cvC := (xc_cmp qlt (xe_loc 9) (xe_lit 8))
noncomputable abbrev goB (rec : cvF) : cvS := (xs_seq (xs_if (xc_cmp qeq (xe_ca f11_bit [(xe_loc 4), (xe_loc 9)]) (xe_lit 0)) xs_cnt xs_skip) (xs_seq (xs_asg 10 (xe_cv 9 f9_reach [(xe_loc 0), (xe_loc 1), (xe_loc 9), (xe_loc 8)])) (xs_seq (xs_asg 11 (xe_op oadd (xe_loc 5) (xe_cv 9 f9_lateAt [(xe_loc 0), (xe_loc 9), (xe_loc 10)]))) (xs_if (xc_and (xc_cmp qge (xe_loc 10) (xe_lit 0)) (xc_or (xc_cmp qlt (xe_gi 9 11 (xe_loc 0)) (xe_lit 0)) (xc_cmp qle (xe_loc 11) (xe_gi 9 11 (xe_loc 0))))) (xs_seq (xs_as (xe_gr 9 6 (xe_loc 0)) (xe_loc 6) (xe_loc 9)) (xs_seq (xs_as (xe_gr 9 7 (xe_loc 0)) (xe_loc 6) (xe_loc 10)) (xs_exp (xe_ca rec [(xe_loc 0), (xe_loc 9), (xe_loc 10), (xe_op oor (xe_loc 3) (xe_loc 7)), (xe_ca f11_withBit [(xe_loc 4), (xe_loc 9), (xe_lit 0)]), (xe_loc 11)])))) xs_skip))))
noncomputable abbrev goU : cvS := (xs_asg 9 (xe_op oadd (xe_loc 9) (xe_lit 1)))
theorem s9_goOn {σ : cvM} (h : WR σ) {l : List Int} (hl : ∀ q ∈ l, 0 ≤ q ∧ q < σ 88 2) (hn : l.length ≤ 12) (hg : gaI σ l σ) {n : Nat} (hn4 : 1 ≤ n ∧ n ≤ 4) (h10 : σ 39 10 = (n : Int)) : ∀ (k d : Nat), k ≤ d → ∀ (τ : cvM) (a t D R L : Int) (pre : List (Int × Int)) (b : Option Cd), frT σ τ → (0 ≤ a ∧ a < 8) → (0 ≤ t ∧ t ≤ 5000) → (0 ≤ D ∧ D < 256) → (0 ≤ R ∧ R < 256) → (∀ c, 0 ≤ c → tb R c = true → c < σ 88 1) → pcI R = (k : Int) → pre.length + k = n → (0 ≤ L ∧ L ≤ 1300000 * (pre.length : Int)) → preR pre τ → bestR n b τ → ∃ υ, f9_goOn (d + 1) [39, a, t, D, R, L] τ = some (0, υ) ∧ frT τ υ ∧ preR pre υ ∧ bestR n (dfs (arrT σ (σ 39 4) (σ 39 5)) (tkT σ (σ 39 4)) (lateL σ l) k a t D L pre R b) υ := by
  intro k
  induction k with
  | zero =>
    intro d _ τ a t D R L pre b fr ha ht hD hR hc hp hpl hL pr be
    have R0 := pcI_0 (by omega) hp
    subst R0
    have hk := s9_keep (τ := τ) hn4 (by rw [fr 39 10 (by decide)]; exact h10) be (pre := pre) (by omega) pr hL.1
    obtain ⟨υ, e1, e2, e3, e4⟩ := hk
    refine ⟨υ, ?_, e2, e3, e4⟩
    have bc := sJ_bitCount (x := 0) (by decide) τ
    rw [hp] at bc
    have e10 : τ 39 10 = (n : Int) := by rw [fr 39 10 (by decide)]; exact h10
    have e6 : osub (n : Int) ((0 : Nat) : Int) = (n : Int) := by rw [n_sub (by omega)]; omega
    rw [u9_goOn]
    unfold b9_goOn
    simp only [ev_op, ev_op2, ev_op1, ev_dv, ev_dv2, ev_dv1, ev_un, ev_un1, ev_lit, ev_l0, ev_l1, ev_l2, ev_l3, ev_l4, ev_l5, ev_l6, ev_l7, ev_l8, ev_l9, ev_l10, ev_l11, ev_rf, ev_gi, ev_gi1, ev_gi2, ev_gr, ev_gr1, ev_at0, ev_at, ev_al, ev_al2, ev_al1, ev_an, ev_an1, ev_vs0, ev_vs, ev_vs2, ev_vs1, ev_ca, ev_ca1, ev_cv, ev_cv1, ev_cv2, ev_if, ev_if1, ev_cmp, ev_cmp2, ev_cmp1, ev_not, ev_not1, ev_and, ev_and1, ev_or, ev_or1, ev_e, ev_e1, ev_cif, ev_cif1, ev_qlt, ev_qle, ev_qgt, ev_qge, ev_qeq, ev_qne, ev_skip, ev_brk, ev_cnt, ev_retv, ev_seq, ev_seq0, ev_seq1, ev_seq2, ev_seq3, ev_seqi, ev_sif, ev_sif1, ev_ret, ev_ret1, ev_retz, ev_retzb, ev_retzc, ev_retz1, ev_retc, ev_asg, ev_s0, ev_s1, ev_s2, ev_s3, ev_s4, ev_s5, ev_s6, ev_s7, ev_s8, ev_s9, ev_s10, ev_s11, ev_exp, ev_exp1, ev_pf, ev_pf2, ev_pf1, ev_pz, ev_pz2, ev_pz1, ev_of, ev_of2, ev_of1, ev_st, ev_as, ev_as3, ev_as2, ev_as1, ev_oa, ev_oa3, ev_oa2, ev_oa1, ev_oa0, ev_cp, ev_cp3, ev_cp2, ev_cp1, ev_sw, ev_sw1, ev_swb0, ev_swb1, ev_swb3, ev_swbi, ev_fin3, ev_fin0, ev_fini, ev_iv, ev_ic, ev_b1, ev_b2, ev_b3, ev_b4, ev_b5, ev_b6, ev_or12, ev_lp, ev_lc, ev_lb0, ev_lb1, ev_lb2, ev_lb3, ev_lbi, ev_lu, ev_ass, Int.reduceAdd, Int.reduceSub, Int.reduceMul, Int.reduceNeg, Int.reduceLT, Int.reduceLE, Int.reduceGT, Int.reduceGE, Int.reduceEq, Int.reduceNe, Int.reduceDiv, Int.reduceMod, Int.reduceToNat, Nat.reduceAdd, Nat.reduceMul, Nat.reduceSub, Nat.reduceLT, Nat.reduceEqDiff, Int.reduceNatCast', reduceIte, ite_true, ite_false, if_true, if_false, decide_eq_true_eq, decide_true, decide_false, decide_not, Bool.not_eq_true', decide_eq_false_iff_not, Bool.not_not, Bool.and_eq_true, Bool.or_eq_true, Bool.not_true, Bool.not_false, not_true_eq_false, not_false_eq_true, true_and, and_true, false_and, and_false, true_or, or_true, false_or, or_false, Bool.true_and, Bool.and_true, Bool.false_and, Bool.and_false, Bool.true_or, Bool.or_true, Bool.or_false, Bool.false_or, Bool.not_eq_false', Bool.true_eq_false, Bool.false_eq_true, eq_self, Classical.not_not, ite_not, ne_eq, Option.some.injEq, Prod.mk.injEq, L_39, e10, bc, e6, e1]
  | succ k ih =>
    intro d hd τ a t D R L pre b fr ha ht hD hR hc hp hpl hL pr be
    obtain ⟨d, rfl⟩ : ∃ d', d = d' + 1 := ⟨d - 1, by omega⟩
    have bc := sJ_bitCount (x := R) (by omega) τ
    rw [hp] at bc
    have e10 : τ 39 10 = (n : Int) := by rw [fr 39 10 (by decide)]; exact h10
    have e6 : osub (n : Int) ((k + 1 : Nat) : Int) = (pre.length : Int) := by rw [n_sub (by omega)]; omega
    have R0 : ¬ R = 0 := fun e => by
      rw [e] at hp
      have : pcI 0 = 0 := by decide
      omega
    have q1 : ¬ (pre.length : Int) < 0 := by omega
    have q2 : ¬ 4 ≤ (pre.length : Int) := by omega
    have dl := dlS_lt h (σ 39 4) t
    have s7 := f9_lostBy' h fr t
    have an := anot_lt (x := dlS σ (σ 39 4) t) (y := D) 8 (by decide) dl (by omega)
    have s8 := f9_lostMinutes' h fr (x := oand (dlS σ (σ 39 4) t) (oxor D (-1))) (by omega)
    have cd := cnt_6 h
    have mb := dlM_bd h (oand (dlS σ (σ 39 4) t) (oxor D (-1))) (n := σ 88 4) (by omega)
    have a8 : oadd t (dlM σ (oand (dlS σ (σ 39 4) t) (oxor D (-1))) (σ 88 4)) = t + dlM σ (oand (dlS σ (σ 39 4) t) (oxor D (-1))) (σ 88 4) := n_add (by omega)
    have ol := oor_lt (x := D) (y := dlS σ (σ 39 4) t) 8 (by decide) hD dl
    suffices hs : WF (f9_goOn (d + 1 + 1) [39, a, t, D, R, L] τ) (fun v υ => v = 0 ∧ frT τ υ ∧ preR pre υ ∧ bestR n (dfs (arrT σ (σ 39 4) (σ 39 5)) (tkT σ (σ 39 4)) (lateL σ l) (k + 1) a t D L pre R b) υ) by
      obtain ⟨v, υ, e, rfl, e2⟩ := hs
      exact ⟨υ, e, e2⟩
    rw [u9_goOn]
    unfold b9_goOn
    simp only [ev_op, ev_op2, ev_op1, ev_dv, ev_dv2, ev_dv1, ev_un, ev_un1, ev_lit, ev_l0, ev_l1, ev_l2, ev_l3, ev_l4, ev_l5, ev_l6, ev_l7, ev_l8, ev_l9, ev_l10, ev_l11, ev_rf, ev_gi, ev_gi1, ev_gi2, ev_gr, ev_gr1, ev_at0, ev_at, ev_al, ev_al2, ev_al1, ev_an, ev_an1, ev_vs0, ev_vs, ev_vs2, ev_vs1, ev_ca, ev_ca1, ev_cv, ev_cv1, ev_cv2, ev_if, ev_if1, ev_cmp, ev_cmp2, ev_cmp1, ev_not, ev_not1, ev_and, ev_and1, ev_or, ev_or1, ev_e, ev_e1, ev_cif, ev_cif1, ev_qlt, ev_qle, ev_qgt, ev_qge, ev_qeq, ev_qne, ev_skip, ev_brk, ev_cnt, ev_retv, ev_seq, ev_seq0, ev_seq1, ev_seq2, ev_seq3, ev_seqi, ev_sif, ev_sif1, ev_ret, ev_ret1, ev_retz, ev_retzb, ev_retzc, ev_retz1, ev_retc, ev_asg, ev_s0, ev_s1, ev_s2, ev_s3, ev_s4, ev_s5, ev_s6, ev_s7, ev_s8, ev_s9, ev_s10, ev_s11, ev_exp, ev_exp1, ev_pf, ev_pf2, ev_pf1, ev_pz, ev_pz2, ev_pz1, ev_of, ev_of2, ev_of1, ev_st, ev_as, ev_as3, ev_as2, ev_as1, ev_oa, ev_oa3, ev_oa2, ev_oa1, ev_oa0, ev_cp, ev_cp3, ev_cp2, ev_cp1, ev_sw, ev_sw1, ev_swb0, ev_swb1, ev_swb3, ev_swbi, ev_fin3, ev_fin0, ev_fini, ev_iv, ev_ic, ev_b1, ev_b2, ev_b3, ev_b4, ev_b5, ev_b6, ev_or12, ev_lp, ev_lc, ev_lb0, ev_lb1, ev_lb2, ev_lb3, ev_lbi, ev_lu, ev_ass, Int.reduceAdd, Int.reduceSub, Int.reduceMul, Int.reduceNeg, Int.reduceLT, Int.reduceLE, Int.reduceGT, Int.reduceGE, Int.reduceEq, Int.reduceNe, Int.reduceDiv, Int.reduceMod, Int.reduceToNat, Nat.reduceAdd, Nat.reduceMul, Nat.reduceSub, Nat.reduceLT, Nat.reduceEqDiff, Int.reduceNatCast', reduceIte, ite_true, ite_false, if_true, if_false, decide_eq_true_eq, decide_true, decide_false, decide_not, Bool.not_eq_true', decide_eq_false_iff_not, Bool.not_not, Bool.and_eq_true, Bool.or_eq_true, Bool.not_true, Bool.not_false, not_true_eq_false, not_false_eq_true, true_and, and_true, false_and, and_false, true_or, or_true, false_or, or_false, Bool.true_and, Bool.and_true, Bool.false_and, Bool.and_false, Bool.true_or, Bool.or_true, Bool.or_false, Bool.false_or, Bool.not_eq_false', Bool.true_eq_false, Bool.false_eq_true, eq_self, Classical.not_not, ite_not, ne_eq, Option.some.injEq, Prod.mk.injEq, L_39, e10, bc, e6, R0, q1, q2, s7, s8, a8]
    rw [dfs]
    have ea : ∀ c, arrT σ (σ 39 4) (σ 39 5) a t D c = if cmT σ a c (t + dlM σ (oand (dlS σ (σ 39 4) t) (oxor D (-1))) (σ 88 4)) ≤ σ 39 5 ∧ cmT σ a c (t + dlM σ (oand (dlS σ (σ 39 4) t) (oxor D (-1))) (σ 88 4)) ≤ σ 89 (5 * c + 4) then some (cmT σ a c (t + dlM σ (oand (dlS σ (σ 39 4) t) (oxor D (-1))) (σ 88 4))) else none := fun c => rfl
    have et : tkT σ (σ 39 4) t D = oor D (dlS σ (σ 39 4) t) := rfl
    rw [et]
    have t1b : 0 ≤ t + dlM σ (oand (dlS σ (σ 39 4) t) (oxor D (-1))) (σ 88 4) ∧ t + dlM σ (oand (dlS σ (σ 39 4) t) (oxor D (-1))) (σ 88 4) ≤ 6920 := by omega
    clear an s8 mb a8 s7 et
    generalize hT : t + dlM σ (oand (dlS σ (σ 39 4) t) (oxor D (-1))) (σ 88 4) = T at ea t1b ⊢
    clear hT
    generalize hDD : oor D (dlS σ (σ 39 4) t) = DD at ol ⊢
    generalize hF : (fun (b : Option Cd) (c : Int) => match arrT σ (σ 39 4) (σ 39 5) a t D c with
      | none => b
      | some u => if okL b (L + lateL σ l c u) = true then dfs (arrT σ (σ 39 4) (σ 39 5)) (tkT σ (σ 39 4)) (lateL σ l) k c u DD (L + lateL σ l c u) (pre ++ [(c, u)]) (xw R c false) b else b) = F
    have hF0 : ∀ b c, arrT σ (σ 39 4) (σ 39 5) a t D c = none → F b c = b := fun b c e => by
      rw [← hF]
      simp only [e]
    have hF1 : ∀ b c u, arrT σ (σ 39 4) (σ 39 5) a t D c = some u → F b c = if okL b (L + lateL σ l c u) = true then dfs (arrT σ (σ 39 4) (σ 39 5)) (tkT σ (σ 39 4)) (lateL σ l) k c u DD (L + lateL σ l c u) (pre ++ [(c, u)]) (xw R c false) b else b := fun b c u e => by
      rw [← hF]
      simp only [e]
    clear hF
    refine wf_lp0 (fun r => ∃ E υ, r = (0, 0, E, υ) ∧ frT τ υ ∧ preR pre υ ∧ bestR n ((sl (tb R) 8).foldl F b) υ) (wq_I (fun c E υ => ∃ x10 x11, E = [some 39, some a, some t, some D, some R, some L, some (pre.length : Int), some (dlS σ (σ 39 4) t), some T, some c, x10, x11] ∧ frT τ υ ∧ preR pre υ ∧ bestR n ((sl (tb R) c).foldl F b) υ) 0 8 (by decide) ⟨none, none, rfl, frT.rf τ, pr, be⟩ ?_ ?_) ?_
    · rintro c E υ c0 c1 ⟨x10, x11, rfl, f1, p1, b1⟩
      have fr1 := fr.tr f1
      have bt := s11_bit (x := R) (p := c) (by omega) υ
      have n1 := n_add (show -2147483648 ≤ c + 1 ∧ c + 1 < 2147483648 by omega)
      have s1 := sl_s (tb R) c0
      by_cases q : tb R c = true
      · rw [if_pos q] at bt s1
        have cc := hc c c0 q
        have re := f9_reach' h fr1 (a := a) (c := c) (t := T) ⟨c0, cc⟩ ha (by omega)
        have tb1 := cmT_bd h (a := a) (c := c) (t := T) ⟨c0, cc⟩ ha t1b.1
        rw [s1, List.foldl_append]
        show RS _ (fun E' σ' => ∃ x10 x11, _ ∧ _ ∧ _ ∧ bestR n (F ((sl (tb R) c).foldl F b) c) σ') _
        generalize (sl (tb R) c).foldl F b = bb at b1 ⊢
        by_cases z : cmT σ a c T ≤ σ 39 5 ∧ cmT σ a c T ≤ σ 89 (5 * c + 4)
        · rw [if_pos z] at re
          have g := h.rP c c0 cc
          have e := (ea c).trans (if_pos z)
          rw [hF1 _ _ _ e]
          generalize cmT σ a c T = u at re z tb1 e ⊢
          have la := f9_lateAt' h fr1 hl hn hg c (u := u) (by omega)
          have lb := lateL_all h (c := c) (u := u) (by omega) hl hn
          have aL := n_add (show -2147483648 ≤ L + lateL σ l c u ∧ L + lateL σ l c u < 2147483648 by omega)
          have u0 : 0 ≤ u := by omega
          generalize lateL σ l c u = y at la lb aL ⊢
          have m1 : 0 ≤ (pre.length : Int) ∧ (pre.length : Int) < 4 := by omega
          have go : okL bb (L + y) = true → ∃ ω, f9_goOn (d + 1) [39, c, u, DD, xw R c false, L + y] (updM (updM υ 42 (pre.length : Int) c) 43 (pre.length : Int) u) = some (0, ω) ∧ frT τ ω ∧ preR pre ω ∧ bestR n (dfs (arrT σ (σ 39 4) (σ 39 5)) (tkT σ (σ 39 4)) (lateL σ l) k c u DD (L + y) (pre ++ [(c, u)]) (xw R c false) bb) ω := fun _ => by
            have fw : frT υ (updM (updM υ 42 (pre.length : Int) c) 43 (pre.length : Int) u) := fun k i hk => by rw [upd_ne _ (by omega), upd_ne _ (by omega)]
            have xl := xw_lt (x := R) (p := c) (q := false) 8 hR (by omega)
            obtain ⟨ω, w1, w2, w3, w4⟩ := ih d (by omega) (updM (updM υ 42 (pre.length : Int) c) 43 (pre.length : Int) u) c u DD (xw R c false) (L + y) (pre ++ [(c, u)]) bb (fr1.tr fw) (by omega) (by omega) ol xl (fun c' c0' e' => by
                rw [tb_xw c0 c0'] at e'
                by_cases zz : c' = c
                · rw [if_pos zz] at e'
                  exact absurd e' (by decide)
                · rw [if_neg zz] at e'
                  exact hc c' c0' e') (by have := pcI_xw (x := R) (c := c) (by omega) q; omega) (by rw [List.length_append]; show pre.length + 1 + k = n; omega) (by
                rw [List.length_append]
                show 0 ≤ L + y ∧ L + y ≤ 1300000 * ((pre.length + 1 : Nat) : Int)
                omega) (fun j hj => by
                rw [List.length_append] at hj
                have hj : j < pre.length + 1 := hj
                by_cases zz : j < pre.length
                · rw [upd_ne _ (by decide), upd_ni (by omega), upd_ni (by omega), upd_ne _ (by decide), List.getElem_append_left zz]
                  exact p1 j zz
                · have zz2 : j = pre.length := by omega
                  subst zz2
                  rw [upd_ne _ (by decide), upd_at, upd_at, List.getElem_append_right (Nat.le_refl _)]
                  simp) (by
                cases bb with
                | none =>
                  show updM (updM υ 42 (pre.length : Int) c) 43 (pre.length : Int) u 39 11 = -3
                  rw [upd_ne _ (by decide), upd_ne _ (by decide)]
                  exact b1
                | some dd =>
                  obtain ⟨k1, k2, k3, k4⟩ := b1
                  refine ⟨k1, ?_, k3, fun j hj => ?_⟩
                  · rw [upd_ne _ (by decide), upd_ne _ (by decide)]
                    exact k2
                  · rw [upd_ne _ (by decide), upd_ne _ (by decide), upd_ne _ (by decide), upd_ne _ (by decide)]
                    exact k4 j hj)
            refine ⟨ω, w1, f1.tr (fw.tr w2), fun j hj => ?_, w4⟩
            have := w3 j (by rw [List.length_append]; omega)
            rw [List.getElem_append_left hj] at this
            exact this
          have wb := s11_withBit (x := R) (p := c) False 8 (by omega) hR
          rw [if_neg (fun y => y), decide_eq_false (fun y => y)] at wb
          cases bb with
          | none =>
            have b1' : υ 39 11 = -3 := b1
            obtain ⟨ω, w1, w2, w3, w4⟩ := go rfl
            rw [if_pos (show okL none (L + y) = true from rfl)]
            simp only [ev_op, ev_op2, ev_op1, ev_dv, ev_dv2, ev_dv1, ev_un, ev_un1, ev_lit, ev_l0, ev_l1, ev_l2, ev_l3, ev_l4, ev_l5, ev_l6, ev_l7, ev_l8, ev_l9, ev_l10, ev_l11, ev_rf, ev_gi, ev_gi1, ev_gi2, ev_gr, ev_gr1, ev_at0, ev_at, ev_al, ev_al2, ev_al1, ev_an, ev_an1, ev_vs0, ev_vs, ev_vs2, ev_vs1, ev_ca, ev_ca1, ev_cv, ev_cv1, ev_cv2, ev_if, ev_if1, ev_cmp, ev_cmp2, ev_cmp1, ev_not, ev_not1, ev_and, ev_and1, ev_or, ev_or1, ev_e, ev_e1, ev_cif, ev_cif1, ev_qlt, ev_qle, ev_qgt, ev_qge, ev_qeq, ev_qne, ev_skip, ev_brk, ev_cnt, ev_retv, ev_seq, ev_seq0, ev_seq1, ev_seq2, ev_seq3, ev_seqi, ev_sif, ev_sif1, ev_ret, ev_ret1, ev_retz, ev_retzb, ev_retzc, ev_retz1, ev_retc, ev_asg, ev_s0, ev_s1, ev_s2, ev_s3, ev_s4, ev_s5, ev_s6, ev_s7, ev_s8, ev_s9, ev_s10, ev_s11, ev_exp, ev_exp1, ev_pf, ev_pf2, ev_pf1, ev_pz, ev_pz2, ev_pz1, ev_of, ev_of2, ev_of1, ev_st, ev_as, ev_as3, ev_as2, ev_as1, ev_oa, ev_oa3, ev_oa2, ev_oa1, ev_oa0, ev_cp, ev_cp3, ev_cp2, ev_cp1, ev_sw, ev_sw1, ev_swb0, ev_swb1, ev_swb3, ev_swbi, ev_fin3, ev_fin0, ev_fini, ev_iv, ev_ic, ev_b1, ev_b2, ev_b3, ev_b4, ev_b5, ev_b6, ev_or12, ev_lp, ev_lc, ev_lb0, ev_lb1, ev_lb2, ev_lb3, ev_lbi, ev_lu, ev_ass, Int.reduceAdd, Int.reduceSub, Int.reduceMul, Int.reduceNeg, Int.reduceLT, Int.reduceLE, Int.reduceGT, Int.reduceGE, Int.reduceEq, Int.reduceNe, Int.reduceDiv, Int.reduceMod, Int.reduceToNat, Nat.reduceAdd, Nat.reduceMul, Nat.reduceSub, Nat.reduceLT, Nat.reduceEqDiff, Int.reduceNatCast', reduceIte, ite_true, ite_false, if_true, if_false, decide_eq_true_eq, decide_true, decide_false, decide_not, Bool.not_eq_true', decide_eq_false_iff_not, Bool.not_not, Bool.and_eq_true, Bool.or_eq_true, Bool.not_true, Bool.not_false, not_true_eq_false, not_false_eq_true, true_and, and_true, false_and, and_false, true_or, or_true, false_or, or_false, Bool.true_and, Bool.and_true, Bool.false_and, Bool.and_false, Bool.true_or, Bool.or_true, Bool.or_false, Bool.false_or, Bool.not_eq_false', Bool.true_eq_false, Bool.false_eq_true, eq_self, Classical.not_not, ite_not, ne_eq, Option.some.injEq, Prod.mk.injEq, L_39, L_42, L_43, c1, bt, re, la, aL, u0, b1', m1, wb, hDD, w1, n1]
            exact RS.go ⟨_, _, rfl, w2, w3, w4⟩
          | some dd =>
            obtain ⟨k1, k2, k3, k4⟩ := b1
            have k5 : ¬ dd.2 < 0 := by omega
            by_cases zz : L + y ≤ dd.2
            · obtain ⟨ω, w1, w2, w3, w4⟩ := go (decide_eq_true zz)
              rw [if_pos (show okL (some dd) (L + y) = true from decide_eq_true zz)]
              simp only [ev_op, ev_op2, ev_op1, ev_dv, ev_dv2, ev_dv1, ev_un, ev_un1, ev_lit, ev_l0, ev_l1, ev_l2, ev_l3, ev_l4, ev_l5, ev_l6, ev_l7, ev_l8, ev_l9, ev_l10, ev_l11, ev_rf, ev_gi, ev_gi1, ev_gi2, ev_gr, ev_gr1, ev_at0, ev_at, ev_al, ev_al2, ev_al1, ev_an, ev_an1, ev_vs0, ev_vs, ev_vs2, ev_vs1, ev_ca, ev_ca1, ev_cv, ev_cv1, ev_cv2, ev_if, ev_if1, ev_cmp, ev_cmp2, ev_cmp1, ev_not, ev_not1, ev_and, ev_and1, ev_or, ev_or1, ev_e, ev_e1, ev_cif, ev_cif1, ev_qlt, ev_qle, ev_qgt, ev_qge, ev_qeq, ev_qne, ev_skip, ev_brk, ev_cnt, ev_retv, ev_seq, ev_seq0, ev_seq1, ev_seq2, ev_seq3, ev_seqi, ev_sif, ev_sif1, ev_ret, ev_ret1, ev_retz, ev_retzb, ev_retzc, ev_retz1, ev_retc, ev_asg, ev_s0, ev_s1, ev_s2, ev_s3, ev_s4, ev_s5, ev_s6, ev_s7, ev_s8, ev_s9, ev_s10, ev_s11, ev_exp, ev_exp1, ev_pf, ev_pf2, ev_pf1, ev_pz, ev_pz2, ev_pz1, ev_of, ev_of2, ev_of1, ev_st, ev_as, ev_as3, ev_as2, ev_as1, ev_oa, ev_oa3, ev_oa2, ev_oa1, ev_oa0, ev_cp, ev_cp3, ev_cp2, ev_cp1, ev_sw, ev_sw1, ev_swb0, ev_swb1, ev_swb3, ev_swbi, ev_fin3, ev_fin0, ev_fini, ev_iv, ev_ic, ev_b1, ev_b2, ev_b3, ev_b4, ev_b5, ev_b6, ev_or12, ev_lp, ev_lc, ev_lb0, ev_lb1, ev_lb2, ev_lb3, ev_lbi, ev_lu, ev_ass, Int.reduceAdd, Int.reduceSub, Int.reduceMul, Int.reduceNeg, Int.reduceLT, Int.reduceLE, Int.reduceGT, Int.reduceGE, Int.reduceEq, Int.reduceNe, Int.reduceDiv, Int.reduceMod, Int.reduceToNat, Nat.reduceAdd, Nat.reduceMul, Nat.reduceSub, Nat.reduceLT, Nat.reduceEqDiff, Int.reduceNatCast', reduceIte, ite_true, ite_false, if_true, if_false, decide_eq_true_eq, decide_true, decide_false, decide_not, Bool.not_eq_true', decide_eq_false_iff_not, Bool.not_not, Bool.and_eq_true, Bool.or_eq_true, Bool.not_true, Bool.not_false, not_true_eq_false, not_false_eq_true, true_and, and_true, false_and, and_false, true_or, or_true, false_or, or_false, Bool.true_and, Bool.and_true, Bool.false_and, Bool.and_false, Bool.true_or, Bool.or_true, Bool.or_false, Bool.false_or, Bool.not_eq_false', Bool.true_eq_false, Bool.false_eq_true, eq_self, Classical.not_not, ite_not, ne_eq, Option.some.injEq, Prod.mk.injEq, L_39, L_42, L_43, c1, bt, re, la, aL, u0, k2, k5, zz, m1, wb, hDD, w1, n1]
              exact RS.go ⟨_, _, rfl, w2, w3, w4⟩
            · rw [if_neg (show ¬ okL (some dd) (L + y) = true from fun y => zz (of_decide_eq_true y))]
              simp only [ev_op, ev_op2, ev_op1, ev_dv, ev_dv2, ev_dv1, ev_un, ev_un1, ev_lit, ev_l0, ev_l1, ev_l2, ev_l3, ev_l4, ev_l5, ev_l6, ev_l7, ev_l8, ev_l9, ev_l10, ev_l11, ev_rf, ev_gi, ev_gi1, ev_gi2, ev_gr, ev_gr1, ev_at0, ev_at, ev_al, ev_al2, ev_al1, ev_an, ev_an1, ev_vs0, ev_vs, ev_vs2, ev_vs1, ev_ca, ev_ca1, ev_cv, ev_cv1, ev_cv2, ev_if, ev_if1, ev_cmp, ev_cmp2, ev_cmp1, ev_not, ev_not1, ev_and, ev_and1, ev_or, ev_or1, ev_e, ev_e1, ev_cif, ev_cif1, ev_qlt, ev_qle, ev_qgt, ev_qge, ev_qeq, ev_qne, ev_skip, ev_brk, ev_cnt, ev_retv, ev_seq, ev_seq0, ev_seq1, ev_seq2, ev_seq3, ev_seqi, ev_sif, ev_sif1, ev_ret, ev_ret1, ev_retz, ev_retzb, ev_retzc, ev_retz1, ev_retc, ev_asg, ev_s0, ev_s1, ev_s2, ev_s3, ev_s4, ev_s5, ev_s6, ev_s7, ev_s8, ev_s9, ev_s10, ev_s11, ev_exp, ev_exp1, ev_pf, ev_pf2, ev_pf1, ev_pz, ev_pz2, ev_pz1, ev_of, ev_of2, ev_of1, ev_st, ev_as, ev_as3, ev_as2, ev_as1, ev_oa, ev_oa3, ev_oa2, ev_oa1, ev_oa0, ev_cp, ev_cp3, ev_cp2, ev_cp1, ev_sw, ev_sw1, ev_swb0, ev_swb1, ev_swb3, ev_swbi, ev_fin3, ev_fin0, ev_fini, ev_iv, ev_ic, ev_b1, ev_b2, ev_b3, ev_b4, ev_b5, ev_b6, ev_or12, ev_lp, ev_lc, ev_lb0, ev_lb1, ev_lb2, ev_lb3, ev_lbi, ev_lu, ev_ass, Int.reduceAdd, Int.reduceSub, Int.reduceMul, Int.reduceNeg, Int.reduceLT, Int.reduceLE, Int.reduceGT, Int.reduceGE, Int.reduceEq, Int.reduceNe, Int.reduceDiv, Int.reduceMod, Int.reduceToNat, Nat.reduceAdd, Nat.reduceMul, Nat.reduceSub, Nat.reduceLT, Nat.reduceEqDiff, Int.reduceNatCast', reduceIte, ite_true, ite_false, if_true, if_false, decide_eq_true_eq, decide_true, decide_false, decide_not, Bool.not_eq_true', decide_eq_false_iff_not, Bool.not_not, Bool.and_eq_true, Bool.or_eq_true, Bool.not_true, Bool.not_false, not_true_eq_false, not_false_eq_true, true_and, and_true, false_and, and_false, true_or, or_true, false_or, or_false, Bool.true_and, Bool.and_true, Bool.false_and, Bool.and_false, Bool.true_or, Bool.or_true, Bool.or_false, Bool.false_or, Bool.not_eq_false', Bool.true_eq_false, Bool.false_eq_true, eq_self, Classical.not_not, ite_not, ne_eq, Option.some.injEq, Prod.mk.injEq, L_39, L_42, L_43, c1, bt, re, la, aL, u0, k2, k5, zz, n1]
              exact RS.go ⟨_, _, rfl, f1, p1, k1, k2, k3, k4⟩
        · rw [if_neg z] at re
          have e := (ea c).trans (if_neg z)
          rw [hF0 _ _ e]
          have la := f9_lateAt' h fr1 hl hn hg c (u := -3) (by decide)
          have lb := lateL_all h (c := c) (u := -3) (by decide) hl hn
          have aL := n_add (show -2147483648 ≤ L + lateL σ l c (-3) ∧ L + lateL σ l c (-3) < 2147483648 by omega)
          simp only [ev_op, ev_op2, ev_op1, ev_dv, ev_dv2, ev_dv1, ev_un, ev_un1, ev_lit, ev_l0, ev_l1, ev_l2, ev_l3, ev_l4, ev_l5, ev_l6, ev_l7, ev_l8, ev_l9, ev_l10, ev_l11, ev_rf, ev_gi, ev_gi1, ev_gi2, ev_gr, ev_gr1, ev_at0, ev_at, ev_al, ev_al2, ev_al1, ev_an, ev_an1, ev_vs0, ev_vs, ev_vs2, ev_vs1, ev_ca, ev_ca1, ev_cv, ev_cv1, ev_cv2, ev_if, ev_if1, ev_cmp, ev_cmp2, ev_cmp1, ev_not, ev_not1, ev_and, ev_and1, ev_or, ev_or1, ev_e, ev_e1, ev_cif, ev_cif1, ev_qlt, ev_qle, ev_qgt, ev_qge, ev_qeq, ev_qne, ev_skip, ev_brk, ev_cnt, ev_retv, ev_seq, ev_seq0, ev_seq1, ev_seq2, ev_seq3, ev_seqi, ev_sif, ev_sif1, ev_ret, ev_ret1, ev_retz, ev_retzb, ev_retzc, ev_retz1, ev_retc, ev_asg, ev_s0, ev_s1, ev_s2, ev_s3, ev_s4, ev_s5, ev_s6, ev_s7, ev_s8, ev_s9, ev_s10, ev_s11, ev_exp, ev_exp1, ev_pf, ev_pf2, ev_pf1, ev_pz, ev_pz2, ev_pz1, ev_of, ev_of2, ev_of1, ev_st, ev_as, ev_as3, ev_as2, ev_as1, ev_oa, ev_oa3, ev_oa2, ev_oa1, ev_oa0, ev_cp, ev_cp3, ev_cp2, ev_cp1, ev_sw, ev_sw1, ev_swb0, ev_swb1, ev_swb3, ev_swbi, ev_fin3, ev_fin0, ev_fini, ev_iv, ev_ic, ev_b1, ev_b2, ev_b3, ev_b4, ev_b5, ev_b6, ev_or12, ev_lp, ev_lc, ev_lb0, ev_lb1, ev_lb2, ev_lb3, ev_lbi, ev_lu, ev_ass, Int.reduceAdd, Int.reduceSub, Int.reduceMul, Int.reduceNeg, Int.reduceLT, Int.reduceLE, Int.reduceGT, Int.reduceGE, Int.reduceEq, Int.reduceNe, Int.reduceDiv, Int.reduceMod, Int.reduceToNat, Nat.reduceAdd, Nat.reduceMul, Nat.reduceSub, Nat.reduceLT, Nat.reduceEqDiff, Int.reduceNatCast', reduceIte, ite_true, ite_false, if_true, if_false, decide_eq_true_eq, decide_true, decide_false, decide_not, Bool.not_eq_true', decide_eq_false_iff_not, Bool.not_not, Bool.and_eq_true, Bool.or_eq_true, Bool.not_true, Bool.not_false, not_true_eq_false, not_false_eq_true, true_and, and_true, false_and, and_false, true_or, or_true, false_or, or_false, Bool.true_and, Bool.and_true, Bool.false_and, Bool.and_false, Bool.true_or, Bool.or_true, Bool.or_false, Bool.false_or, Bool.not_eq_false', Bool.true_eq_false, Bool.false_eq_true, eq_self, Classical.not_not, ite_not, ne_eq, Option.some.injEq, Prod.mk.injEq, L_39, c1, bt, re, la, aL, n1]
          exact RS.go ⟨_, _, rfl, f1, p1, b1⟩
      · rw [if_neg q] at bt s1
        rw [List.append_nil] at s1
        rw [s1]
        simp only [ev_op, ev_op2, ev_op1, ev_dv, ev_dv2, ev_dv1, ev_un, ev_un1, ev_lit, ev_l0, ev_l1, ev_l2, ev_l3, ev_l4, ev_l5, ev_l6, ev_l7, ev_l8, ev_l9, ev_l10, ev_l11, ev_rf, ev_gi, ev_gi1, ev_gi2, ev_gr, ev_gr1, ev_at0, ev_at, ev_al, ev_al2, ev_al1, ev_an, ev_an1, ev_vs0, ev_vs, ev_vs2, ev_vs1, ev_ca, ev_ca1, ev_cv, ev_cv1, ev_cv2, ev_if, ev_if1, ev_cmp, ev_cmp2, ev_cmp1, ev_not, ev_not1, ev_and, ev_and1, ev_or, ev_or1, ev_e, ev_e1, ev_cif, ev_cif1, ev_qlt, ev_qle, ev_qgt, ev_qge, ev_qeq, ev_qne, ev_skip, ev_brk, ev_cnt, ev_retv, ev_seq, ev_seq0, ev_seq1, ev_seq2, ev_seq3, ev_seqi, ev_sif, ev_sif1, ev_ret, ev_ret1, ev_retz, ev_retzb, ev_retzc, ev_retz1, ev_retc, ev_asg, ev_s0, ev_s1, ev_s2, ev_s3, ev_s4, ev_s5, ev_s6, ev_s7, ev_s8, ev_s9, ev_s10, ev_s11, ev_exp, ev_exp1, ev_pf, ev_pf2, ev_pf1, ev_pz, ev_pz2, ev_pz1, ev_of, ev_of2, ev_of1, ev_st, ev_as, ev_as3, ev_as2, ev_as1, ev_oa, ev_oa3, ev_oa2, ev_oa1, ev_oa0, ev_cp, ev_cp3, ev_cp2, ev_cp1, ev_sw, ev_sw1, ev_swb0, ev_swb1, ev_swb3, ev_swbi, ev_fin3, ev_fin0, ev_fini, ev_iv, ev_ic, ev_b1, ev_b2, ev_b3, ev_b4, ev_b5, ev_b6, ev_or12, ev_lp, ev_lc, ev_lb0, ev_lb1, ev_lb2, ev_lb3, ev_lbi, ev_lu, ev_ass, Int.reduceAdd, Int.reduceSub, Int.reduceMul, Int.reduceNeg, Int.reduceLT, Int.reduceLE, Int.reduceGT, Int.reduceGE, Int.reduceEq, Int.reduceNe, Int.reduceDiv, Int.reduceMod, Int.reduceToNat, Nat.reduceAdd, Nat.reduceMul, Nat.reduceSub, Nat.reduceLT, Nat.reduceEqDiff, Int.reduceNatCast', reduceIte, ite_true, ite_false, if_true, if_false, decide_eq_true_eq, decide_true, decide_false, decide_not, Bool.not_eq_true', decide_eq_false_iff_not, Bool.not_not, Bool.and_eq_true, Bool.or_eq_true, Bool.not_true, Bool.not_false, not_true_eq_false, not_false_eq_true, true_and, and_true, false_and, and_false, true_or, or_true, false_or, or_false, Bool.true_and, Bool.and_true, Bool.false_and, Bool.and_false, Bool.true_or, Bool.or_true, Bool.or_false, Bool.false_or, Bool.not_eq_false', Bool.true_eq_false, Bool.false_eq_true, eq_self, Classical.not_not, ite_not, ne_eq, Option.some.injEq, Prod.mk.injEq, L_39, c1, bt, n1]
        exact RS.go ⟨_, _, rfl, f1, p1, b1⟩
    · rintro E υ ⟨x10, x11, rfl, f1, p1, b1⟩
      simp only [ev_op, ev_op2, ev_op1, ev_dv, ev_dv2, ev_dv1, ev_un, ev_un1, ev_lit, ev_l0, ev_l1, ev_l2, ev_l3, ev_l4, ev_l5, ev_l6, ev_l7, ev_l8, ev_l9, ev_l10, ev_l11, ev_rf, ev_gi, ev_gi1, ev_gi2, ev_gr, ev_gr1, ev_at0, ev_at, ev_al, ev_al2, ev_al1, ev_an, ev_an1, ev_vs0, ev_vs, ev_vs2, ev_vs1, ev_ca, ev_ca1, ev_cv, ev_cv1, ev_cv2, ev_if, ev_if1, ev_cmp, ev_cmp2, ev_cmp1, ev_not, ev_not1, ev_and, ev_and1, ev_or, ev_or1, ev_e, ev_e1, ev_cif, ev_cif1, ev_qlt, ev_qle, ev_qgt, ev_qge, ev_qeq, ev_qne, ev_skip, ev_brk, ev_cnt, ev_retv, ev_seq, ev_seq0, ev_seq1, ev_seq2, ev_seq3, ev_seqi, ev_sif, ev_sif1, ev_ret, ev_ret1, ev_retz, ev_retzb, ev_retzc, ev_retz1, ev_retc, ev_asg, ev_s0, ev_s1, ev_s2, ev_s3, ev_s4, ev_s5, ev_s6, ev_s7, ev_s8, ev_s9, ev_s10, ev_s11, ev_exp, ev_exp1, ev_pf, ev_pf2, ev_pf1, ev_pz, ev_pz2, ev_pz1, ev_of, ev_of2, ev_of1, ev_st, ev_as, ev_as3, ev_as2, ev_as1, ev_oa, ev_oa3, ev_oa2, ev_oa1, ev_oa0, ev_cp, ev_cp3, ev_cp2, ev_cp1, ev_sw, ev_sw1, ev_swb0, ev_swb1, ev_swb3, ev_swbi, ev_fin3, ev_fin0, ev_fini, ev_iv, ev_ic, ev_b1, ev_b2, ev_b3, ev_b4, ev_b5, ev_b6, ev_or12, ev_lp, ev_lc, ev_lb0, ev_lb1, ev_lb2, ev_lb3, ev_lbi, ev_lu, ev_ass, Int.reduceAdd, Int.reduceSub, Int.reduceMul, Int.reduceNeg, Int.reduceLT, Int.reduceLE, Int.reduceGT, Int.reduceGE, Int.reduceEq, Int.reduceNe, Int.reduceDiv, Int.reduceMod, Int.reduceToNat, Nat.reduceAdd, Nat.reduceMul, Nat.reduceSub, Nat.reduceLT, Nat.reduceEqDiff, Int.reduceNatCast', reduceIte, ite_true, ite_false, if_true, if_false, decide_eq_true_eq, decide_true, decide_false, decide_not, Bool.not_eq_true', decide_eq_false_iff_not, Bool.not_not, Bool.and_eq_true, Bool.or_eq_true, Bool.not_true, Bool.not_false, not_true_eq_false, not_false_eq_true, true_and, and_true, false_and, and_false, true_or, or_true, false_or, or_false, Bool.true_and, Bool.and_true, Bool.false_and, Bool.and_false, Bool.true_or, Bool.or_true, Bool.or_false, Bool.false_or, Bool.not_eq_false', Bool.true_eq_false, Bool.false_eq_true, eq_self, Classical.not_not, ite_not, ne_eq, Option.some.injEq, Prod.mk.injEq]
      exact RS.done ⟨_, _, rfl, f1, p1, b1⟩
    · rintro r ⟨E, υ, rfl, f1, p1, b1⟩
      simp only [ev_op, ev_op2, ev_op1, ev_dv, ev_dv2, ev_dv1, ev_un, ev_un1, ev_lit, ev_l0, ev_l1, ev_l2, ev_l3, ev_l4, ev_l5, ev_l6, ev_l7, ev_l8, ev_l9, ev_l10, ev_l11, ev_rf, ev_gi, ev_gi1, ev_gi2, ev_gr, ev_gr1, ev_at0, ev_at, ev_al, ev_al2, ev_al1, ev_an, ev_an1, ev_vs0, ev_vs, ev_vs2, ev_vs1, ev_ca, ev_ca1, ev_cv, ev_cv1, ev_cv2, ev_if, ev_if1, ev_cmp, ev_cmp2, ev_cmp1, ev_not, ev_not1, ev_and, ev_and1, ev_or, ev_or1, ev_e, ev_e1, ev_cif, ev_cif1, ev_qlt, ev_qle, ev_qgt, ev_qge, ev_qeq, ev_qne, ev_skip, ev_brk, ev_cnt, ev_retv, ev_seq, ev_seq0, ev_seq1, ev_seq2, ev_seq3, ev_seqi, ev_sif, ev_sif1, ev_ret, ev_ret1, ev_retz, ev_retzb, ev_retzc, ev_retz1, ev_retc, ev_asg, ev_s0, ev_s1, ev_s2, ev_s3, ev_s4, ev_s5, ev_s6, ev_s7, ev_s8, ev_s9, ev_s10, ev_s11, ev_exp, ev_exp1, ev_pf, ev_pf2, ev_pf1, ev_pz, ev_pz2, ev_pz1, ev_of, ev_of2, ev_of1, ev_st, ev_as, ev_as3, ev_as2, ev_as1, ev_oa, ev_oa3, ev_oa2, ev_oa1, ev_oa0, ev_cp, ev_cp3, ev_cp2, ev_cp1, ev_sw, ev_sw1, ev_swb0, ev_swb1, ev_swb3, ev_swbi, ev_fin3, ev_fin0, ev_fini, ev_iv, ev_ic, ev_b1, ev_b2, ev_b3, ev_b4, ev_b5, ev_b6, ev_or12, ev_lp, ev_lc, ev_lb0, ev_lb1, ev_lb2, ev_lb3, ev_lbi, ev_lu, ev_ass]
      exact WF.mk ⟨rfl, f1, p1, b1⟩
