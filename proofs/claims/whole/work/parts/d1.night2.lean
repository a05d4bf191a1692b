/-! ===== the night: what it is of ===== -/
def ntI (σ : cvM) (x m pl n : Int) : Int := itI (fun p a => a + if tb x p = false ∧ whr σ p m (σ 88 0) = pl then 1 else 0) 0 n
theorem ntI_s (σ : cvM) (x m pl : Int) {n : Int} (h : 0 ≤ n) : ntI σ x m pl (n + 1) = ntI σ x m pl n + if tb x n = false ∧ whr σ n m (σ 88 0) = pl then 1 else 0 := itI_s _ _ h
theorem ntI_bd (σ : cvM) (x m pl : Int) {n : Int} (h : 0 ≤ n) : 0 ≤ ntI σ x m pl n ∧ ntI σ x m pl n ≤ n := by
  refine itI_inv (fun i a => 0 ≤ a ∧ a ≤ i) h (by omega) fun i a i0 i1 g => ?_
  show 0 ≤ a + (if tb x i = false ∧ whr σ i m (σ 88 0) = pl then 1 else 0) ∧ a + (if tb x i = false ∧ whr σ i m (σ 88 0) = pl then 1 else 0) ≤ i + 1
  split <;> omega
/-- ROOM of a PLACE that night -/
def rmN (σ : cvM) (c x m pl : Int) : Int := if ((0 ≤ pl ∧ pl < σ 88 1) ∧ ¬ σ 89 (5 * pl) = 1) ∧ σ 89 (5 * pl + 3) ≤ m + dr0 σ c pl m ∧ m + dr0 σ c pl m ≤ σ 89 (5 * pl + 4) then σ 89 (5 * pl + 1) - ntI σ x m pl (σ 88 2) else 0
/-- what it costs -/
def coN (σ : cvM) (c m : Int) (l : List Int) (i : Nat) (pl : Int) : Int := (if pl = σ 92 (7 * l.getD i 0 + 1) then 0 else 100000) + dr0 σ c pl m
def lsN (rm : Int → Int) (co : Nat → Int → Int) (i : Nat) (n : Int) : Int := itI (fun pl a => if 0 < rm pl then min a (co i pl) else a) 1000000 n
def wgN (rm : Int → Int) (co : Nat → Int → Int) (i : Nat) : Int := if lsN rm co i 8 = 1000000 then 0 else lsN rm co i 8
def rsB (rm : Int → Int) (co : Nat → Int → Int) (n : Nat) : Nat → Int
  | 0 => 0
  | t + 1 => rsB rm co n t + wgN rm co (n - 1 - t)
def rsN (rm : Int → Int) (co : Nat → Int → Int) (n i : Nat) : Int := rsB rm co n (n - i)
theorem dr0_bd {σ : cvM} (h : WR σ) {a b t : Int} (ha : 0 ≤ a ∧ a < 8) (hb : 0 ≤ b ∧ b < 8) (ht : 0 ≤ t) : 0 ≤ dr0 σ a b t ∧ dr0 σ a b t ≤ 900 := by
  have := drv_bd h (a := a) (b := b) (t := t) (by omega) ht
  unfold dr0
  split <;> omega
theorem coN_bd {σ : cvM} (h : WR σ) {c m pl : Int} (hc : 0 ≤ c ∧ c < 8) (hp : 0 ≤ pl ∧ pl < 8) (hm : 0 ≤ m) (l : List Int) (i : Nat) : 0 ≤ coN σ c m l i pl ∧ coN σ c m l i pl ≤ 200000 := by
  have := dr0_bd h hc hp hm
  unfold coN
  split <;> omega
theorem rmN_bd {σ : cvM} (h : WR σ) (c x m pl : Int) : -100 ≤ rmN σ c x m pl ∧ rmN σ c x m pl ≤ 100 := by
  have c4 := cnt_4 h
  unfold rmN
  split
  · rename_i q
    have := ntI_bd σ x m pl c4.2.1
    have := h.rP pl q.1.1.1 q.1.1.2
    omega
  · omega
theorem lsN_bd {rm : Int → Int} {co : Nat → Int → Int} {i : Nat} (hco : ∀ pl, 0 ≤ pl → pl < 8 → 0 ≤ co i pl ∧ co i pl ≤ 200000) {n : Int} (hn : 0 ≤ n ∧ n ≤ 8) : 0 ≤ lsN rm co i n ∧ lsN rm co i n ≤ 1000000 ∧ (lsN rm co i n = 1000000 ∨ lsN rm co i n ≤ 200000) := by
  refine itI_inv (fun _ a => 0 ≤ a ∧ a ≤ 1000000 ∧ (a = 1000000 ∨ a ≤ 200000)) hn.1 (by omega) fun pl a p0 p1 g => ?_
  have := hco pl p0 (by omega)
  show 0 ≤ (if 0 < rm pl then min a (co i pl) else a) ∧ (if 0 < rm pl then min a (co i pl) else a) ≤ 1000000 ∧ ((if 0 < rm pl then min a (co i pl) else a) = 1000000 ∨ (if 0 < rm pl then min a (co i pl) else a) ≤ 200000)
  split <;> omega
theorem lsN_le {rm : Int → Int} {co : Nat → Int → Int} {i : Nat} {pl : Int} (p0 : 0 ≤ pl) (hr : 0 < rm pl) : ∀ k : Nat, lsN rm co i (pl + 1 + (k : Int)) ≤ co i pl := by
  intro k
  induction k with
  | zero =>
    rw [show pl + 1 + ((0 : Nat) : Int) = pl + 1 by omega]
    have s : lsN rm co i (pl + 1) = if 0 < rm pl then min (lsN rm co i pl) (co i pl) else lsN rm co i pl := itI_s _ _ p0
    rw [s, if_pos hr]
    omega
  | succ k ih =>
    have s : lsN rm co i (pl + 1 + (k : Int) + 1) = if 0 < rm (pl + 1 + (k : Int)) then min (lsN rm co i (pl + 1 + (k : Int))) (co i (pl + 1 + (k : Int))) else lsN rm co i (pl + 1 + (k : Int)) := itI_s _ _ (by omega)
    rw [show pl + 1 + ((k + 1 : Nat) : Int) = pl + 1 + (k : Int) + 1 by omega, s]
    split <;> omega
theorem wgN_bd {rm : Int → Int} {co : Nat → Int → Int} {i : Nat} (hco : ∀ pl, 0 ≤ pl → pl < 8 → 0 ≤ co i pl ∧ co i pl ≤ 200000) : (0 ≤ wgN rm co i ∧ wgN rm co i ≤ 200000) ∧ ∀ pl, 0 ≤ pl → pl < 8 → 0 < rm pl → wgN rm co i ≤ co i pl := by
  have b := lsN_bd (rm := rm) hco (n := 8) (by decide)
  refine ⟨?_, fun pl p0 p1 hr => ?_⟩
  · unfold wgN
    split <;> omega
  · have := lsN_le (co := co) (i := i) p0 hr (7 - pl).toNat
    rw [show pl + 1 + ((7 - pl).toNat : Int) = 8 by omega] at this
    have := hco pl p0 p1
    unfold wgN
    split <;> omega
theorem rsN_n (rm : Int → Int) (co : Nat → Int → Int) (n : Nat) : rsN rm co n n = 0 := by
  unfold rsN
  rw [Nat.sub_self]
  rfl
theorem rsN_s (rm : Int → Int) (co : Nat → Int → Int) {n i : Nat} (hi : i < n) : rsN rm co n i = rsN rm co n (i + 1) + wgN rm co i := by
  unfold rsN
  rw [show n - i = (n - (i + 1)) + 1 by omega, rsB, show n - 1 - (n - (i + 1)) = i by omega]
theorem rsB_bd {rm : Int → Int} {co : Nat → Int → Int} {n : Nat} (hco : ∀ (i : Nat) (pl : Int), i < n → 0 ≤ pl → pl < 8 → 0 ≤ co i pl ∧ co i pl ≤ 200000) : ∀ t : Nat, t ≤ n → 0 ≤ rsB rm co n t ∧ rsB rm co n t ≤ 200000 * (t : Int) := by
  intro t
  induction t with
  | zero => intro _; exact ⟨Int.le_refl 0, Int.le_refl 0⟩
  | succ t ih =>
    intro ht
    have := ih (by omega)
    have := (wgN_bd (rm := rm) (co := co) (i := n - 1 - t) fun pl p0 p1 => hco _ pl (by omega) p0 p1).1
    rw [rsB]
    omega
theorem nF_in {rm : Int → Int} {co : Nat → Int → Int} {n : Nat} (hco : ∀ (i : Nat) (pl : Int), i < n → 0 ≤ pl → pl < 8 → 0 ≤ co i pl ∧ co i pl ≤ 200000) : ∀ (m : Nat) (pre : List Int) (L : Int) (b : Option Cn) (d : Cn), pre.length + m = n → nF rm co m pre L b = some d → b = some d ∨ (d.2.length = n ∧ L ≤ d.1 ∧ d.1 ≤ L + 200000 * (m : Int)) := by
  intro m
  induction m with
  | zero =>
    intro pre L b d hl e
    have e : betN b (L, pre) = some d := e
    cases b with
    | none =>
      injection e with e
      rw [← e]
      exact Or.inr ⟨by show pre.length = n; omega, Int.le_refl _, by show L ≤ L + 200000 * ((0 : Nat) : Int); omega⟩
    | some d0 =>
      have e : (if L < d0.1 then some (L, pre) else some d0) = some d := e
      split at e
      · injection e with e
        rw [← e]
        exact Or.inr ⟨by show pre.length = n; omega, Int.le_refl _, by show L ≤ L + 200000 * ((0 : Nat) : Int); omega⟩
      · exact Or.inl e
  | succ m ih =>
    intro pre L b d hl e
    rw [nF] at e
    have key : ∀ d, itI (fun pl b => if cnN pre pl < rm pl then nF rm co m (pre ++ [pl]) (L + co pre.length pl) b else b) b 8 = some d → b = some d ∨ (d.2.length = n ∧ L ≤ d.1 ∧ d.1 ≤ L + 200000 * ((m + 1 : Nat) : Int)) := by
      refine itI_inv (fun _ (z : Option Cn) => ∀ d, z = some d → b = some d ∨ (d.2.length = n ∧ L ≤ d.1 ∧ d.1 ≤ L + 200000 * ((m + 1 : Nat) : Int))) (by decide) (fun d e => Or.inl e) fun pl z p0 p1 g d e => ?_
      have e : (if cnN pre pl < rm pl then nF rm co m (pre ++ [pl]) (L + co pre.length pl) z else z) = some d := e
      split at e
      · have la : (pre ++ [pl]).length = pre.length + 1 := by rw [List.length_append, List.length_singleton]
        rcases ih _ _ _ _ (by omega) e with y | y
        · exact g d y
        · have := hco pre.length pl (by omega) p0 p1
          exact Or.inr ⟨y.1, by omega, by omega⟩
      · exact g d e
    exact key d e
/-- THE NIGHT -/
def niA (σ : cvM) (c x m : Int) : Option Cn := nF (rmN σ c x m) (coN σ c m (sl (tb x) 12)) (sl (tb x) 12).length [] 0 none
def frZ (σ τ : cvM) : Prop := ∀ k i : Int, ¬ (72 ≤ k ∧ k ≤ 78) → τ k i = σ k i
theorem frZ.k {σ τ : cvM} (h : frZ σ τ) (k : Int) (hk : ¬ (72 ≤ k ∧ k ≤ 78)) : τ k = σ k := funext fun i => h k i hk
theorem frZ.WR {σ τ : cvM} (h : frZ σ τ) (g : WR σ) : WR τ := g.congr2 fun k i hr => h k i (by omega)
theorem frZ.E {σ τ : cvM} (h : frZ σ τ) : EqP σ τ := fun k i hk => h k i (by unfold pub at hk; omega)
theorem whr_eq {σ τ : cvM} (e : ∀ k : Int, 88 ≤ k → k ≤ 98 → τ k = σ k) (p m k : Int) : whr τ p m k = whr σ p m k := by
  unfold whr lat
  rw [e 88 (by decide) (by decide), e 92 (by decide) (by decide), e 96 (by decide) (by decide)]
theorem s6_roomAt {σ τ : cvM} (h : WR σ) (f : frZ σ τ) {c x m pl : Int} (hc : 0 ≤ c ∧ c < 8) (hx : 0 ≤ x ∧ x < 4096) (hm : 0 ≤ m ∧ m ≤ 1439) (hpl : 0 ≤ pl ∧ pl < 8) : f6_roomAt [72, c, pl, x, m] τ = some (rmN σ c x m pl, τ) := by
  have w := f.WR h
  have c3 := cnt_3 h
  have c4 := cnt_4 h
  have hs := has_3 w pl
  rw [f 88 1 (by decide)] at hs
  have f43 : τ 4 3 = σ 88 2 := by rw [f 4 3 (by decide)]; exact c4.1
  have f12 : τ 1 12 = σ 88 0 := by rw [f 1 12 (by decide)]; exact h.wA.2.2.2.2.2.2
  have fd : dr0 τ c pl m = dr0 σ c pl m := by
    unfold dr0 drv
    rw [f.k 90 (by decide), f.k 91 (by decide)]
  have dm := s10_driveMinutes w (a := c) (b := pl) (t := m) (by omega) (by omega)
  have dm : f10_driveMinutes [1, c, pl, m] τ = some (dr0 τ c pl m, τ) := dm
  rw [fd] at dm
  have db := dr0_bd h hc hpl hm.1
  unfold rmN
  by_cases q1 : 0 ≤ pl ∧ pl < σ 88 1
  · rw [if_pos q1] at hs
    have k0 := cell_3 w (p := pl) (j := 0) (by rw [f 88 1 (by decide)]; omega)
    have k1 := cell_3 w (p := pl) (j := 1) (by rw [f 88 1 (by decide)]; omega)
    have k3 := cell_3 w (p := pl) (j := 3) (by rw [f 88 1 (by decide)]; omega)
    have k4 := cell_3 w (p := pl) (j := 4) (by rw [f 88 1 (by decide)]; omega)
    rw [Int.add_zero, f.k 89 (by decide)] at k0
    rw [f.k 89 (by decide)] at k1 k3 k4
    by_cases q2 : σ 89 (5 * pl) = 1
    · rw [if_neg fun y => y.1.2 q2]
      simp only [u6_roomAt, b6_roomAt, ev_op, ev_op2, ev_op1, ev_dv, ev_dv2, ev_dv1, ev_un, ev_un1, ev_lit, ev_l0, ev_l1, ev_l2, ev_l3, ev_l4, ev_l5, ev_l6, ev_l7, ev_l8, ev_l9, ev_l10, ev_l11, ev_rf, ev_gi, ev_gi1, ev_gi2, ev_gr, ev_gr1, ev_at0, ev_at, ev_al, ev_al2, ev_al1, ev_an, ev_an1, ev_vs0, ev_vs, ev_vs2, ev_vs1, ev_ca, ev_ca1, ev_cv, ev_cv1, ev_cv2, ev_if, ev_if1, ev_cmp, ev_cmp2, ev_cmp1, ev_not, ev_not1, ev_and, ev_and1, ev_or, ev_or1, ev_e, ev_e1, ev_cif, ev_cif1, ev_qlt, ev_qle, ev_qgt, ev_qge, ev_qeq, ev_qne, ev_skip, ev_brk, ev_cnt, ev_retv, ev_seq, ev_seq0, ev_seq1, ev_seq2, ev_seq3, ev_seqi, ev_sif, ev_sif1, ev_ret, ev_ret1, ev_retz, ev_retzb, ev_retzc, ev_retz1, ev_retc, ev_asg, ev_s0, ev_s1, ev_s2, ev_s3, ev_s4, ev_s5, ev_s6, ev_s7, ev_s8, ev_s9, ev_s10, ev_s11, ev_exp, ev_exp1, ev_pf, ev_pf2, ev_pf1, ev_pz, ev_pz2, ev_pz1, ev_of, ev_of2, ev_of1, ev_st, ev_as, ev_as3, ev_as2, ev_as1, ev_oa, ev_oa3, ev_oa2, ev_oa1, ev_oa0, ev_cp, ev_cp3, ev_cp2, ev_cp1, ev_sw, ev_sw1, ev_swb0, ev_swb1, ev_swb3, ev_swbi, ev_fin3, ev_fin0, ev_fini, ev_iv, ev_ic, ev_b1, ev_b2, ev_b3, ev_b4, ev_b5, ev_b6, ev_or12, ev_lp, ev_lc, ev_lb0, ev_lb1, ev_lb2, ev_lb3, ev_lbi, ev_lu, ev_ass, Int.reduceAdd, Int.reduceSub, Int.reduceMul, Int.reduceNeg, Int.reduceLT, Int.reduceLE, Int.reduceGT, Int.reduceGE, Int.reduceEq, Int.reduceNe, Int.reduceDiv, Int.reduceMod, Int.reduceToNat, Nat.reduceAdd, Nat.reduceMul, Nat.reduceSub, Nat.reduceLT, Nat.reduceEqDiff, Int.reduceNatCast', reduceIte, ite_true, ite_false, if_true, if_false, decide_eq_true_eq, decide_true, decide_false, decide_not, Bool.not_eq_true', decide_eq_false_iff_not, Bool.not_not, Bool.and_eq_true, Bool.or_eq_true, Bool.not_true, Bool.not_false, not_true_eq_false, not_false_eq_true, true_and, and_true, false_and, and_false, true_or, or_true, false_or, or_false, Bool.true_and, Bool.and_true, Bool.false_and, Bool.and_false, Bool.true_or, Bool.or_true, Bool.or_false, Bool.false_or, Bool.not_eq_false', Bool.true_eq_false, Bool.false_eq_true, eq_self, Classical.not_not, ite_not, ne_eq, Option.some.injEq, Prod.mk.injEq, L_1, L_3, L_72, hs, k0, eq_true q2]
    · have gp := h.rP pl q1.1 q1.2
      have ad : oadd m (dr0 σ c pl m) = m + dr0 σ c pl m := n_add (by omega)
      have iw := s11_isWithin (m + dr0 σ c pl m) (σ 89 (5 * pl + 3)) (σ 89 (5 * pl + 4)) τ
      by_cases q3 : σ 89 (5 * pl + 3) ≤ m + dr0 σ c pl m ∧ m + dr0 σ c pl m ≤ σ 89 (5 * pl + 4)
      · rw [if_pos q3] at iw
        rw [if_pos ⟨⟨q1, q2⟩, q3⟩]
        simp only [u6_roomAt, b6_roomAt, ev_op, ev_op2, ev_op1, ev_dv, ev_dv2, ev_dv1, ev_un, ev_un1, ev_lit, ev_l0, ev_l1, ev_l2, ev_l3, ev_l4, ev_l5, ev_l6, ev_l7, ev_l8, ev_l9, ev_l10, ev_l11, ev_rf, ev_gi, ev_gi1, ev_gi2, ev_gr, ev_gr1, ev_at0, ev_at, ev_al, ev_al2, ev_al1, ev_an, ev_an1, ev_vs0, ev_vs, ev_vs2, ev_vs1, ev_ca, ev_ca1, ev_cv, ev_cv1, ev_cv2, ev_if, ev_if1, ev_cmp, ev_cmp2, ev_cmp1, ev_not, ev_not1, ev_and, ev_and1, ev_or, ev_or1, ev_e, ev_e1, ev_cif, ev_cif1, ev_qlt, ev_qle, ev_qgt, ev_qge, ev_qeq, ev_qne, ev_skip, ev_brk, ev_cnt, ev_retv, ev_seq, ev_seq0, ev_seq1, ev_seq2, ev_seq3, ev_seqi, ev_sif, ev_sif1, ev_ret, ev_ret1, ev_retz, ev_retzb, ev_retzc, ev_retz1, ev_retc, ev_asg, ev_s0, ev_s1, ev_s2, ev_s3, ev_s4, ev_s5, ev_s6, ev_s7, ev_s8, ev_s9, ev_s10, ev_s11, ev_exp, ev_exp1, ev_pf, ev_pf2, ev_pf1, ev_pz, ev_pz2, ev_pz1, ev_of, ev_of2, ev_of1, ev_st, ev_as, ev_as3, ev_as2, ev_as1, ev_oa, ev_oa3, ev_oa2, ev_oa1, ev_oa0, ev_cp, ev_cp3, ev_cp2, ev_cp1, ev_sw, ev_sw1, ev_swb0, ev_swb1, ev_swb3, ev_swbi, ev_fin3, ev_fin0, ev_fini, ev_iv, ev_ic, ev_b1, ev_b2, ev_b3, ev_b4, ev_b5, ev_b6, ev_or12, ev_lp, ev_lc, ev_lb0, ev_lb1, ev_lb2, ev_lb3, ev_lbi, ev_lu, ev_ass, Int.reduceAdd, Int.reduceSub, Int.reduceMul, Int.reduceNeg, Int.reduceLT, Int.reduceLE, Int.reduceGT, Int.reduceGE, Int.reduceEq, Int.reduceNe, Int.reduceDiv, Int.reduceMod, Int.reduceToNat, Nat.reduceAdd, Nat.reduceMul, Nat.reduceSub, Nat.reduceLT, Nat.reduceEqDiff, Int.reduceNatCast', reduceIte, ite_true, ite_false, if_true, if_false, decide_eq_true_eq, decide_true, decide_false, decide_not, Bool.not_eq_true', decide_eq_false_iff_not, Bool.not_not, Bool.and_eq_true, Bool.or_eq_true, Bool.not_true, Bool.not_false, not_true_eq_false, not_false_eq_true, true_and, and_true, false_and, and_false, true_or, or_true, false_or, or_false, Bool.true_and, Bool.and_true, Bool.false_and, Bool.and_false, Bool.true_or, Bool.or_true, Bool.or_false, Bool.false_or, Bool.not_eq_false', Bool.true_eq_false, Bool.false_eq_true, eq_self, Classical.not_not, ite_not, ne_eq, Option.some.injEq, Prod.mk.injEq, L_1, L_3, L_72, hs, k0, q2, dm, ad, k3, k4, iw, k1]
        generalize dr0 σ c pl m = D
        rw [lp_I (fun i => ([some 72, some c, some pl, some x, some m, some (m + D), some (σ 89 (5 * pl + 1) - ntI σ x m pl i), some i], τ)) 0 (σ 88 2) (0, 0, [some 72, some c, some pl, some x, some m, some (m + D), some (σ 89 (5 * pl + 1) - ntI σ x m pl (σ 88 2)), some (σ 88 2)], τ) c4.2.1 ?_ ?_ ?_]
        · simp only [ev_op, ev_op2, ev_op1, ev_dv, ev_dv2, ev_dv1, ev_un, ev_un1, ev_lit, ev_l0, ev_l1, ev_l2, ev_l3, ev_l4, ev_l5, ev_l6, ev_l7, ev_l8, ev_l9, ev_l10, ev_l11, ev_rf, ev_gi, ev_gi1, ev_gi2, ev_gr, ev_gr1, ev_at0, ev_at, ev_al, ev_al2, ev_al1, ev_an, ev_an1, ev_vs0, ev_vs, ev_vs2, ev_vs1, ev_ca, ev_ca1, ev_cv, ev_cv1, ev_cv2, ev_if, ev_if1, ev_cmp, ev_cmp2, ev_cmp1, ev_not, ev_not1, ev_and, ev_and1, ev_or, ev_or1, ev_e, ev_e1, ev_cif, ev_cif1, ev_qlt, ev_qle, ev_qgt, ev_qge, ev_qeq, ev_qne, ev_skip, ev_brk, ev_cnt, ev_retv, ev_seq, ev_seq0, ev_seq1, ev_seq2, ev_seq3, ev_seqi, ev_sif, ev_sif1, ev_ret, ev_ret1, ev_retz, ev_retzb, ev_retzc, ev_retz1, ev_retc, ev_asg, ev_s0, ev_s1, ev_s2, ev_s3, ev_s4, ev_s5, ev_s6, ev_s7, ev_s8, ev_s9, ev_s10, ev_s11, ev_exp, ev_exp1, ev_pf, ev_pf2, ev_pf1, ev_pz, ev_pz2, ev_pz1, ev_of, ev_of2, ev_of1, ev_st, ev_as, ev_as3, ev_as2, ev_as1, ev_oa, ev_oa3, ev_oa2, ev_oa1, ev_oa0, ev_cp, ev_cp3, ev_cp2, ev_cp1, ev_sw, ev_sw1, ev_swb0, ev_swb1, ev_swb3, ev_swbi, ev_fin3, ev_fin0, ev_fini, ev_iv, ev_ic, ev_b1, ev_b2, ev_b3, ev_b4, ev_b5, ev_b6, ev_or12, ev_lp, ev_lc, ev_lb0, ev_lb1, ev_lb2, ev_lb3, ev_lbi, ev_lu, ev_ass]
        · show (_, τ) = _
          rw [show ntI σ x m pl 0 = 0 from rfl, Int.sub_zero]
        · intro i i0 i1
          have b := s11_bit (x := x) (p := i) (by omega) τ
          have wi := s2_whereIs w (p := i) (by rw [f 88 2 (by decide)]; omega) m (σ 88 0)
          rw [whr_eq (σ := σ) (τ := τ) (fun k h1 h2 => f.k k (by omega))] at wi
          have s := ntI_s σ x m pl i0
          have nb := ntI_bd σ x m pl i0
          have n1 := n_add (show -2147483648 ≤ i + 1 ∧ i + 1 < 2147483648 by omega)
          rw [s]
          by_cases z1 : tb x i = true
          · rw [if_pos z1] at b
            rw [if_neg (fun y => by rw [z1] at y; exact absurd y.1 (by decide)), Int.add_zero]
            simp only [ev_op, ev_op2, ev_op1, ev_dv, ev_dv2, ev_dv1, ev_un, ev_un1, ev_lit, ev_l0, ev_l1, ev_l2, ev_l3, ev_l4, ev_l5, ev_l6, ev_l7, ev_l8, ev_l9, ev_l10, ev_l11, ev_rf, ev_gi, ev_gi1, ev_gi2, ev_gr, ev_gr1, ev_at0, ev_at, ev_al, ev_al2, ev_al1, ev_an, ev_an1, ev_vs0, ev_vs, ev_vs2, ev_vs1, ev_ca, ev_ca1, ev_cv, ev_cv1, ev_cv2, ev_if, ev_if1, ev_cmp, ev_cmp2, ev_cmp1, ev_not, ev_not1, ev_and, ev_and1, ev_or, ev_or1, ev_e, ev_e1, ev_cif, ev_cif1, ev_qlt, ev_qle, ev_qgt, ev_qge, ev_qeq, ev_qne, ev_skip, ev_brk, ev_cnt, ev_retv, ev_seq, ev_seq0, ev_seq1, ev_seq2, ev_seq3, ev_seqi, ev_sif, ev_sif1, ev_ret, ev_ret1, ev_retz, ev_retzb, ev_retzc, ev_retz1, ev_retc, ev_asg, ev_s0, ev_s1, ev_s2, ev_s3, ev_s4, ev_s5, ev_s6, ev_s7, ev_s8, ev_s9, ev_s10, ev_s11, ev_exp, ev_exp1, ev_pf, ev_pf2, ev_pf1, ev_pz, ev_pz2, ev_pz1, ev_of, ev_of2, ev_of1, ev_st, ev_as, ev_as3, ev_as2, ev_as1, ev_oa, ev_oa3, ev_oa2, ev_oa1, ev_oa0, ev_cp, ev_cp3, ev_cp2, ev_cp1, ev_sw, ev_sw1, ev_swb0, ev_swb1, ev_swb3, ev_swbi, ev_fin3, ev_fin0, ev_fini, ev_iv, ev_ic, ev_b1, ev_b2, ev_b3, ev_b4, ev_b5, ev_b6, ev_or12, ev_lp, ev_lc, ev_lb0, ev_lb1, ev_lb2, ev_lb3, ev_lbi, ev_lu, ev_ass, Int.reduceAdd, Int.reduceSub, Int.reduceMul, Int.reduceNeg, Int.reduceLT, Int.reduceLE, Int.reduceGT, Int.reduceGE, Int.reduceEq, Int.reduceNe, Int.reduceDiv, Int.reduceMod, Int.reduceToNat, Nat.reduceAdd, Nat.reduceMul, Nat.reduceSub, Nat.reduceLT, Nat.reduceEqDiff, Int.reduceNatCast', reduceIte, ite_true, ite_false, if_true, if_false, decide_eq_true_eq, decide_true, decide_false, decide_not, Bool.not_eq_true', decide_eq_false_iff_not, Bool.not_not, Bool.and_eq_true, Bool.or_eq_true, Bool.not_true, Bool.not_false, not_true_eq_false, not_false_eq_true, true_and, and_true, false_and, and_false, true_or, or_true, false_or, or_false, Bool.true_and, Bool.and_true, Bool.false_and, Bool.and_false, Bool.true_or, Bool.or_true, Bool.or_false, Bool.false_or, Bool.not_eq_false', Bool.true_eq_false, Bool.false_eq_true, eq_self, Classical.not_not, ite_not, ne_eq, Option.some.injEq, Prod.mk.injEq, L_1, L_4, L_62, L_72, f43, i1, b, n1]
          · rw [if_neg z1] at b
            have z1' : tb x i = false := by cases e : tb x i; rfl; exact absurd e z1
            by_cases z2 : whr σ i m (σ 88 0) = pl
            · rw [if_pos ⟨z1', z2⟩]
              have nn : oadd (σ 89 (5 * pl + 1) - ntI σ x m pl i) (-1) = σ 89 (5 * pl + 1) - (ntI σ x m pl i + 1) := by
                clear n1
                rw [n_add (by omega)]
                omega
              simp only [ev_op, ev_op2, ev_op1, ev_dv, ev_dv2, ev_dv1, ev_un, ev_un1, ev_lit, ev_l0, ev_l1, ev_l2, ev_l3, ev_l4, ev_l5, ev_l6, ev_l7, ev_l8, ev_l9, ev_l10, ev_l11, ev_rf, ev_gi, ev_gi1, ev_gi2, ev_gr, ev_gr1, ev_at0, ev_at, ev_al, ev_al2, ev_al1, ev_an, ev_an1, ev_vs0, ev_vs, ev_vs2, ev_vs1, ev_ca, ev_ca1, ev_cv, ev_cv1, ev_cv2, ev_if, ev_if1, ev_cmp, ev_cmp2, ev_cmp1, ev_not, ev_not1, ev_and, ev_and1, ev_or, ev_or1, ev_e, ev_e1, ev_cif, ev_cif1, ev_qlt, ev_qle, ev_qgt, ev_qge, ev_qeq, ev_qne, ev_skip, ev_brk, ev_cnt, ev_retv, ev_seq, ev_seq0, ev_seq1, ev_seq2, ev_seq3, ev_seqi, ev_sif, ev_sif1, ev_ret, ev_ret1, ev_retz, ev_retzb, ev_retzc, ev_retz1, ev_retc, ev_asg, ev_s0, ev_s1, ev_s2, ev_s3, ev_s4, ev_s5, ev_s6, ev_s7, ev_s8, ev_s9, ev_s10, ev_s11, ev_exp, ev_exp1, ev_pf, ev_pf2, ev_pf1, ev_pz, ev_pz2, ev_pz1, ev_of, ev_of2, ev_of1, ev_st, ev_as, ev_as3, ev_as2, ev_as1, ev_oa, ev_oa3, ev_oa2, ev_oa1, ev_oa0, ev_cp, ev_cp3, ev_cp2, ev_cp1, ev_sw, ev_sw1, ev_swb0, ev_swb1, ev_swb3, ev_swbi, ev_fin3, ev_fin0, ev_fini, ev_iv, ev_ic, ev_b1, ev_b2, ev_b3, ev_b4, ev_b5, ev_b6, ev_or12, ev_lp, ev_lc, ev_lb0, ev_lb1, ev_lb2, ev_lb3, ev_lbi, ev_lu, ev_ass, Int.reduceAdd, Int.reduceSub, Int.reduceMul, Int.reduceNeg, Int.reduceLT, Int.reduceLE, Int.reduceGT, Int.reduceGE, Int.reduceEq, Int.reduceNe, Int.reduceDiv, Int.reduceMod, Int.reduceToNat, Nat.reduceAdd, Nat.reduceMul, Nat.reduceSub, Nat.reduceLT, Nat.reduceEqDiff, Int.reduceNatCast', reduceIte, ite_true, ite_false, if_true, if_false, decide_eq_true_eq, decide_true, decide_false, decide_not, Bool.not_eq_true', decide_eq_false_iff_not, Bool.not_not, Bool.and_eq_true, Bool.or_eq_true, Bool.not_true, Bool.not_false, not_true_eq_false, not_false_eq_true, true_and, and_true, false_and, and_false, true_or, or_true, false_or, or_false, Bool.true_and, Bool.and_true, Bool.false_and, Bool.and_false, Bool.true_or, Bool.or_true, Bool.or_false, Bool.false_or, Bool.not_eq_false', Bool.true_eq_false, Bool.false_eq_true, eq_self, Classical.not_not, ite_not, ne_eq, Option.some.injEq, Prod.mk.injEq, L_1, L_4, L_62, L_72, f43, f12, i1, b, wi, eq_true z2, nn, n1]
            · rw [if_neg fun y => z2 y.2, Int.add_zero]
              simp only [ev_op, ev_op2, ev_op1, ev_dv, ev_dv2, ev_dv1, ev_un, ev_un1, ev_lit, ev_l0, ev_l1, ev_l2, ev_l3, ev_l4, ev_l5, ev_l6, ev_l7, ev_l8, ev_l9, ev_l10, ev_l11, ev_rf, ev_gi, ev_gi1, ev_gi2, ev_gr, ev_gr1, ev_at0, ev_at, ev_al, ev_al2, ev_al1, ev_an, ev_an1, ev_vs0, ev_vs, ev_vs2, ev_vs1, ev_ca, ev_ca1, ev_cv, ev_cv1, ev_cv2, ev_if, ev_if1, ev_cmp, ev_cmp2, ev_cmp1, ev_not, ev_not1, ev_and, ev_and1, ev_or, ev_or1, ev_e, ev_e1, ev_cif, ev_cif1, ev_qlt, ev_qle, ev_qgt, ev_qge, ev_qeq, ev_qne, ev_skip, ev_brk, ev_cnt, ev_retv, ev_seq, ev_seq0, ev_seq1, ev_seq2, ev_seq3, ev_seqi, ev_sif, ev_sif1, ev_ret, ev_ret1, ev_retz, ev_retzb, ev_retzc, ev_retz1, ev_retc, ev_asg, ev_s0, ev_s1, ev_s2, ev_s3, ev_s4, ev_s5, ev_s6, ev_s7, ev_s8, ev_s9, ev_s10, ev_s11, ev_exp, ev_exp1, ev_pf, ev_pf2, ev_pf1, ev_pz, ev_pz2, ev_pz1, ev_of, ev_of2, ev_of1, ev_st, ev_as, ev_as3, ev_as2, ev_as1, ev_oa, ev_oa3, ev_oa2, ev_oa1, ev_oa0, ev_cp, ev_cp3, ev_cp2, ev_cp1, ev_sw, ev_sw1, ev_swb0, ev_swb1, ev_swb3, ev_swbi, ev_fin3, ev_fin0, ev_fini, ev_iv, ev_ic, ev_b1, ev_b2, ev_b3, ev_b4, ev_b5, ev_b6, ev_or12, ev_lp, ev_lc, ev_lb0, ev_lb1, ev_lb2, ev_lb3, ev_lbi, ev_lu, ev_ass, Int.reduceAdd, Int.reduceSub, Int.reduceMul, Int.reduceNeg, Int.reduceLT, Int.reduceLE, Int.reduceGT, Int.reduceGE, Int.reduceEq, Int.reduceNe, Int.reduceDiv, Int.reduceMod, Int.reduceToNat, Nat.reduceAdd, Nat.reduceMul, Nat.reduceSub, Nat.reduceLT, Nat.reduceEqDiff, Int.reduceNatCast', reduceIte, ite_true, ite_false, if_true, if_false, decide_eq_true_eq, decide_true, decide_false, decide_not, Bool.not_eq_true', decide_eq_false_iff_not, Bool.not_not, Bool.and_eq_true, Bool.or_eq_true, Bool.not_true, Bool.not_false, not_true_eq_false, not_false_eq_true, true_and, and_true, false_and, and_false, true_or, or_true, false_or, or_false, Bool.true_and, Bool.and_true, Bool.false_and, Bool.and_false, Bool.true_or, Bool.or_true, Bool.or_false, Bool.false_or, Bool.not_eq_false', Bool.true_eq_false, Bool.false_eq_true, eq_self, Classical.not_not, ite_not, ne_eq, Option.some.injEq, Prod.mk.injEq, L_1, L_4, L_62, L_72, f43, f12, i1, b, wi, z2, n1]
        · have q : ¬ σ 88 2 < σ 88 2 := by omega
          simp only [ev_op, ev_op2, ev_op1, ev_dv, ev_dv2, ev_dv1, ev_un, ev_un1, ev_lit, ev_l0, ev_l1, ev_l2, ev_l3, ev_l4, ev_l5, ev_l6, ev_l7, ev_l8, ev_l9, ev_l10, ev_l11, ev_rf, ev_gi, ev_gi1, ev_gi2, ev_gr, ev_gr1, ev_at0, ev_at, ev_al, ev_al2, ev_al1, ev_an, ev_an1, ev_vs0, ev_vs, ev_vs2, ev_vs1, ev_ca, ev_ca1, ev_cv, ev_cv1, ev_cv2, ev_if, ev_if1, ev_cmp, ev_cmp2, ev_cmp1, ev_not, ev_not1, ev_and, ev_and1, ev_or, ev_or1, ev_e, ev_e1, ev_cif, ev_cif1, ev_qlt, ev_qle, ev_qgt, ev_qge, ev_qeq, ev_qne, ev_skip, ev_brk, ev_cnt, ev_retv, ev_seq, ev_seq0, ev_seq1, ev_seq2, ev_seq3, ev_seqi, ev_sif, ev_sif1, ev_ret, ev_ret1, ev_retz, ev_retzb, ev_retzc, ev_retz1, ev_retc, ev_asg, ev_s0, ev_s1, ev_s2, ev_s3, ev_s4, ev_s5, ev_s6, ev_s7, ev_s8, ev_s9, ev_s10, ev_s11, ev_exp, ev_exp1, ev_pf, ev_pf2, ev_pf1, ev_pz, ev_pz2, ev_pz1, ev_of, ev_of2, ev_of1, ev_st, ev_as, ev_as3, ev_as2, ev_as1, ev_oa, ev_oa3, ev_oa2, ev_oa1, ev_oa0, ev_cp, ev_cp3, ev_cp2, ev_cp1, ev_sw, ev_sw1, ev_swb0, ev_swb1, ev_swb3, ev_swbi, ev_fin3, ev_fin0, ev_fini, ev_iv, ev_ic, ev_b1, ev_b2, ev_b3, ev_b4, ev_b5, ev_b6, ev_or12, ev_lp, ev_lc, ev_lb0, ev_lb1, ev_lb2, ev_lb3, ev_lbi, ev_lu, ev_ass, Int.reduceAdd, Int.reduceSub, Int.reduceMul, Int.reduceNeg, Int.reduceLT, Int.reduceLE, Int.reduceGT, Int.reduceGE, Int.reduceEq, Int.reduceNe, Int.reduceDiv, Int.reduceMod, Int.reduceToNat, Nat.reduceAdd, Nat.reduceMul, Nat.reduceSub, Nat.reduceLT, Nat.reduceEqDiff, Int.reduceNatCast', reduceIte, ite_true, ite_false, if_true, if_false, decide_eq_true_eq, decide_true, decide_false, decide_not, Bool.not_eq_true', decide_eq_false_iff_not, Bool.not_not, Bool.and_eq_true, Bool.or_eq_true, Bool.not_true, Bool.not_false, not_true_eq_false, not_false_eq_true, true_and, and_true, false_and, and_false, true_or, or_true, false_or, or_false, Bool.true_and, Bool.and_true, Bool.false_and, Bool.and_false, Bool.true_or, Bool.or_true, Bool.or_false, Bool.false_or, Bool.not_eq_false', Bool.true_eq_false, Bool.false_eq_true, eq_self, Classical.not_not, ite_not, ne_eq, Option.some.injEq, Prod.mk.injEq, L_1, L_4, L_72, f43, q]
      · rw [if_neg q3] at iw
        rw [if_neg fun y => q3 y.2]
        simp only [u6_roomAt, b6_roomAt, ev_op, ev_op2, ev_op1, ev_dv, ev_dv2, ev_dv1, ev_un, ev_un1, ev_lit, ev_l0, ev_l1, ev_l2, ev_l3, ev_l4, ev_l5, ev_l6, ev_l7, ev_l8, ev_l9, ev_l10, ev_l11, ev_rf, ev_gi, ev_gi1, ev_gi2, ev_gr, ev_gr1, ev_at0, ev_at, ev_al, ev_al2, ev_al1, ev_an, ev_an1, ev_vs0, ev_vs, ev_vs2, ev_vs1, ev_ca, ev_ca1, ev_cv, ev_cv1, ev_cv2, ev_if, ev_if1, ev_cmp, ev_cmp2, ev_cmp1, ev_not, ev_not1, ev_and, ev_and1, ev_or, ev_or1, ev_e, ev_e1, ev_cif, ev_cif1, ev_qlt, ev_qle, ev_qgt, ev_qge, ev_qeq, ev_qne, ev_skip, ev_brk, ev_cnt, ev_retv, ev_seq, ev_seq0, ev_seq1, ev_seq2, ev_seq3, ev_seqi, ev_sif, ev_sif1, ev_ret, ev_ret1, ev_retz, ev_retzb, ev_retzc, ev_retz1, ev_retc, ev_asg, ev_s0, ev_s1, ev_s2, ev_s3, ev_s4, ev_s5, ev_s6, ev_s7, ev_s8, ev_s9, ev_s10, ev_s11, ev_exp, ev_exp1, ev_pf, ev_pf2, ev_pf1, ev_pz, ev_pz2, ev_pz1, ev_of, ev_of2, ev_of1, ev_st, ev_as, ev_as3, ev_as2, ev_as1, ev_oa, ev_oa3, ev_oa2, ev_oa1, ev_oa0, ev_cp, ev_cp3, ev_cp2, ev_cp1, ev_sw, ev_sw1, ev_swb0, ev_swb1, ev_swb3, ev_swbi, ev_fin3, ev_fin0, ev_fini, ev_iv, ev_ic, ev_b1, ev_b2, ev_b3, ev_b4, ev_b5, ev_b6, ev_or12, ev_lp, ev_lc, ev_lb0, ev_lb1, ev_lb2, ev_lb3, ev_lbi, ev_lu, ev_ass, Int.reduceAdd, Int.reduceSub, Int.reduceMul, Int.reduceNeg, Int.reduceLT, Int.reduceLE, Int.reduceGT, Int.reduceGE, Int.reduceEq, Int.reduceNe, Int.reduceDiv, Int.reduceMod, Int.reduceToNat, Nat.reduceAdd, Nat.reduceMul, Nat.reduceSub, Nat.reduceLT, Nat.reduceEqDiff, Int.reduceNatCast', reduceIte, ite_true, ite_false, if_true, if_false, decide_eq_true_eq, decide_true, decide_false, decide_not, Bool.not_eq_true', decide_eq_false_iff_not, Bool.not_not, Bool.and_eq_true, Bool.or_eq_true, Bool.not_true, Bool.not_false, not_true_eq_false, not_false_eq_true, true_and, and_true, false_and, and_false, true_or, or_true, false_or, or_false, Bool.true_and, Bool.and_true, Bool.false_and, Bool.and_false, Bool.true_or, Bool.or_true, Bool.or_false, Bool.false_or, Bool.not_eq_false', Bool.true_eq_false, Bool.false_eq_true, eq_self, Classical.not_not, ite_not, ne_eq, Option.some.injEq, Prod.mk.injEq, L_1, L_3, L_72, hs, k0, q2, dm, ad, k3, k4, iw]
  · rw [if_neg q1] at hs
    rw [if_neg fun y => q1 y.1.1]
    simp only [u6_roomAt, b6_roomAt, ev_op, ev_op2, ev_op1, ev_dv, ev_dv2, ev_dv1, ev_un, ev_un1, ev_lit, ev_l0, ev_l1, ev_l2, ev_l3, ev_l4, ev_l5, ev_l6, ev_l7, ev_l8, ev_l9, ev_l10, ev_l11, ev_rf, ev_gi, ev_gi1, ev_gi2, ev_gr, ev_gr1, ev_at0, ev_at, ev_al, ev_al2, ev_al1, ev_an, ev_an1, ev_vs0, ev_vs, ev_vs2, ev_vs1, ev_ca, ev_ca1, ev_cv, ev_cv1, ev_cv2, ev_if, ev_if1, ev_cmp, ev_cmp2, ev_cmp1, ev_not, ev_not1, ev_and, ev_and1, ev_or, ev_or1, ev_e, ev_e1, ev_cif, ev_cif1, ev_qlt, ev_qle, ev_qgt, ev_qge, ev_qeq, ev_qne, ev_skip, ev_brk, ev_cnt, ev_retv, ev_seq, ev_seq0, ev_seq1, ev_seq2, ev_seq3, ev_seqi, ev_sif, ev_sif1, ev_ret, ev_ret1, ev_retz, ev_retzb, ev_retzc, ev_retz1, ev_retc, ev_asg, ev_s0, ev_s1, ev_s2, ev_s3, ev_s4, ev_s5, ev_s6, ev_s7, ev_s8, ev_s9, ev_s10, ev_s11, ev_exp, ev_exp1, ev_pf, ev_pf2, ev_pf1, ev_pz, ev_pz2, ev_pz1, ev_of, ev_of2, ev_of1, ev_st, ev_as, ev_as3, ev_as2, ev_as1, ev_oa, ev_oa3, ev_oa2, ev_oa1, ev_oa0, ev_cp, ev_cp3, ev_cp2, ev_cp1, ev_sw, ev_sw1, ev_swb0, ev_swb1, ev_swb3, ev_swbi, ev_fin3, ev_fin0, ev_fini, ev_iv, ev_ic, ev_b1, ev_b2, ev_b3, ev_b4, ev_b5, ev_b6, ev_or12, ev_lp, ev_lc, ev_lb0, ev_lb1, ev_lb2, ev_lb3, ev_lbi, ev_lu, ev_ass, Int.reduceAdd, Int.reduceSub, Int.reduceMul, Int.reduceNeg, Int.reduceLT, Int.reduceLE, Int.reduceGT, Int.reduceGE, Int.reduceEq, Int.reduceNe, Int.reduceDiv, Int.reduceMod, Int.reduceToNat, Nat.reduceAdd, Nat.reduceMul, Nat.reduceSub, Nat.reduceLT, Nat.reduceEqDiff, Int.reduceNatCast', reduceIte, ite_true, ite_false, if_true, if_false, decide_eq_true_eq, decide_true, decide_false, decide_not, Bool.not_eq_true', decide_eq_false_iff_not, Bool.not_not, Bool.and_eq_true, Bool.or_eq_true, Bool.not_true, Bool.not_false, not_true_eq_false, not_false_eq_true, true_and, and_true, false_and, and_false, true_or, or_true, false_or, or_false, Bool.true_and, Bool.and_true, Bool.false_and, Bool.and_false, Bool.true_or, Bool.or_true, Bool.or_false, Bool.false_or, Bool.not_eq_false', Bool.true_eq_false, Bool.false_eq_true, eq_self, Classical.not_not, ite_not, ne_eq, Option.some.injEq, Prod.mk.injEq, L_1, L_3, L_72, hs]
theorem s6_weigh {σ τ : cvM} (h : WR σ) (f : frZ σ τ) {c m : Int} (hc : 0 ≤ c ∧ c < 8) (hm : 0 ≤ m ∧ m ≤ 1439) {l : List Int} {i : Nat} (hi : i < 6) (hl : 0 ≤ l.getD i 0 ∧ l.getD i 0 < σ 88 2) (hw : τ 73 (i : Int) = l.getD i 0) {rm : Int → Int} (hr : ∀ pl, 0 ≤ pl → pl < 8 → τ 76 pl = rm pl) : ∃ υ, f6_weigh [72, (i : Int), c, m] τ = some (wgN rm (coN σ c m l) i, υ) ∧ (∀ k j : Int, ¬ (k = 74 ∧ 8 * (i : Int) ≤ j ∧ j < 8 * (i : Int) + 8) → υ k j = τ k j) ∧ ∀ pl : Int, 0 ≤ pl → pl < 8 → υ 74 (8 * (i : Int) + pl) = coN σ c m l i pl := by
  have w := f.WR h
  have c4 := cnt_4 h
  have r6 : 0 ≤ (i : Int) ∧ (i : Int) < 6 := by omega
  have e1 := cell_4 w (p := l.getD i 0) (j := 1) (by rw [f 88 2 (by decide)]; omega)
  rw [f.k 92 (by decide)] at e1
  suffices hs : WF (f6_weigh [72, (i : Int), c, m] τ) (fun v υ => v = wgN rm (coN σ c m l) i ∧ (∀ k j : Int, ¬ (k = 74 ∧ 8 * (i : Int) ≤ j ∧ j < 8 * (i : Int) + 8) → υ k j = τ k j) ∧ ∀ pl : Int, 0 ≤ pl → pl < 8 → υ 74 (8 * (i : Int) + pl) = coN σ c m l i pl) by
    obtain ⟨v, υ, e1, rfl, e2⟩ := hs
    exact ⟨υ, e1, e2⟩
  simp only [u6_weigh, b6_weigh, ev_op, ev_op2, ev_op1, ev_dv, ev_dv2, ev_dv1, ev_un, ev_un1, ev_lit, ev_l0, ev_l1, ev_l2, ev_l3, ev_l4, ev_l5, ev_l6, ev_l7, ev_l8, ev_l9, ev_l10, ev_l11, ev_rf, ev_gi, ev_gi1, ev_gi2, ev_gr, ev_gr1, ev_at0, ev_at, ev_al, ev_al2, ev_al1, ev_an, ev_an1, ev_vs0, ev_vs, ev_vs2, ev_vs1, ev_ca, ev_ca1, ev_cv, ev_cv1, ev_cv2, ev_if, ev_if1, ev_cmp, ev_cmp2, ev_cmp1, ev_not, ev_not1, ev_and, ev_and1, ev_or, ev_or1, ev_e, ev_e1, ev_cif, ev_cif1, ev_qlt, ev_qle, ev_qgt, ev_qge, ev_qeq, ev_qne, ev_skip, ev_brk, ev_cnt, ev_retv, ev_seq, ev_seq0, ev_seq1, ev_seq2, ev_seq3, ev_seqi, ev_sif, ev_sif1, ev_ret, ev_ret1, ev_retz, ev_retzb, ev_retzc, ev_retz1, ev_retc, ev_asg, ev_s0, ev_s1, ev_s2, ev_s3, ev_s4, ev_s5, ev_s6, ev_s7, ev_s8, ev_s9, ev_s10, ev_s11, ev_exp, ev_exp1, ev_pf, ev_pf2, ev_pf1, ev_pz, ev_pz2, ev_pz1, ev_of, ev_of2, ev_of1, ev_st, ev_as, ev_as3, ev_as2, ev_as1, ev_oa, ev_oa3, ev_oa2, ev_oa1, ev_oa0, ev_cp, ev_cp3, ev_cp2, ev_cp1, ev_sw, ev_sw1, ev_swb0, ev_swb1, ev_swb3, ev_swbi, ev_fin3, ev_fin0, ev_fini, ev_iv, ev_ic, ev_b1, ev_b2, ev_b3, ev_b4, ev_b5, ev_b6, ev_or12, ev_lp, ev_lc, ev_lb0, ev_lb1, ev_lb2, ev_lb3, ev_lbi, ev_lu, ev_ass, Int.reduceAdd, Int.reduceSub, Int.reduceMul, Int.reduceNeg, Int.reduceLT, Int.reduceLE, Int.reduceGT, Int.reduceGE, Int.reduceEq, Int.reduceNe, Int.reduceDiv, Int.reduceMod, Int.reduceToNat, Nat.reduceAdd, Nat.reduceMul, Nat.reduceSub, Nat.reduceLT, Nat.reduceEqDiff, Int.reduceNatCast', reduceIte, ite_true, ite_false, if_true, if_false, decide_eq_true_eq, decide_true, decide_false, decide_not, Bool.not_eq_true', decide_eq_false_iff_not, Bool.not_not, Bool.and_eq_true, Bool.or_eq_true, Bool.not_true, Bool.not_false, not_true_eq_false, not_false_eq_true, true_and, and_true, false_and, and_false, true_or, or_true, false_or, or_false, Bool.true_and, Bool.and_true, Bool.false_and, Bool.and_false, Bool.true_or, Bool.or_true, Bool.or_false, Bool.false_or, Bool.not_eq_false', Bool.true_eq_false, Bool.false_eq_true, eq_self, Classical.not_not, ite_not, ne_eq, Option.some.injEq, Prod.mk.injEq, L_1, L_4, L_72, L_73, r6, hw, e1]
  refine wf_lp (fun r => ∃ E υ, r = (0, 0, [some 72, some (i : Int), some c, some m, some (σ 92 (7 * l.getD i 0 + 1)), some (lsN rm (coN σ c m l) i 8), some 8, E], υ) ∧ (∀ k j : Int, ¬ (k = 74 ∧ 8 * (i : Int) ≤ j ∧ j < 8 * (i : Int) + 8) → υ k j = τ k j) ∧ ∀ pl : Int, 0 ≤ pl → pl < 8 → υ 74 (8 * (i : Int) + pl) = coN σ c m l i pl) (wq_I (fun pl E υ => ∃ x7, E = [some 72, some (i : Int), some c, some m, some (σ 92 (7 * l.getD i 0 + 1)), some (lsN rm (coN σ c m l) i pl), some pl, x7] ∧ (∀ k j : Int, ¬ (k = 74 ∧ 8 * (i : Int) ≤ j ∧ j < 8 * (i : Int) + 8) → υ k j = τ k j) ∧ ∀ q : Int, 0 ≤ q → q < pl → υ 74 (8 * (i : Int) + q) = coN σ c m l i q) 0 8 (by decide) ⟨none, rfl, fun _ _ _ => rfl, fun q q0 q1 => by omega⟩ ?_ ?_) ?_
  · rintro pl E υ p0 p1 ⟨x7, rfl, fr, hh⟩
    have fz : frZ σ υ := fun k j hk => by rw [fr k j (by omega), f k j hk]
    have w' := fz.WR h
    have dm := s10_driveMinutes w' (a := c) (b := pl) (t := m) (by omega) (by omega)
    have dm : f10_driveMinutes [1, c, pl, m] υ = some (dr0 υ c pl m, υ) := dm
    have fd : dr0 υ c pl m = dr0 σ c pl m := by
      unfold dr0 drv
      rw [fz.k 90 (by decide), fz.k 91 (by decide)]
    rw [fd] at dm
    have db := dr0_bd h hc ⟨p0, p1⟩ hm.1
    have cb := coN_bd h (c := c) (m := m) (pl := pl) hc ⟨p0, p1⟩ hm.1 l i
    have lb := lsN_bd (rm := rm) (co := coN σ c m l) (i := i) (fun q q0 q1 => coN_bd h hc ⟨q0, q1⟩ hm.1 l i) (n := pl) (by omega)
    have g76 := hr pl p0 p1
    rw [← fr 76 pl (by omega)] at g76
    have ls : lsN rm (coN σ c m l) i (pl + 1) = if 0 < rm pl then min (lsN rm (coN σ c m l) i pl) (coN σ c m l i pl) else lsN rm (coN σ c m l) i pl := itI_s _ _ p0
    have r8 : 0 ≤ pl ∧ pl < 8 := ⟨p0, p1⟩
    have r48 : 0 ≤ 8 * (i : Int) + pl ∧ 8 * (i : Int) + pl < 48 := by omega
    have fin : (∀ k j : Int, ¬ (k = 74 ∧ 8 * (i : Int) ≤ j ∧ j < 8 * (i : Int) + 8) → updM υ 74 (8 * (i : Int) + pl) (coN σ c m l i pl) k j = τ k j) ∧ ∀ q : Int, 0 ≤ q → q < pl + 1 → updM υ 74 (8 * (i : Int) + pl) (coN σ c m l i pl) 74 (8 * (i : Int) + q) = coN σ c m l i q := by
      refine ⟨fun k j hk => by rw [upd_no (by omega), fr k j hk], fun q q0 q1 => ?_⟩
      by_cases z : q = pl
      · rw [z, upd_at]
      · rw [upd_ni (by omega)]
        exact hh q q0 (by omega)
    have g76' : updM υ 74 (8 * (i : Int) + pl) (coN σ c m l i pl) 76 pl = rm pl := by rw [upd_ne _ (by decide), g76]
    have a8 : oadd (omul (i : Int) 8) pl = 8 * (i : Int) + pl := by rw [n_mul (by omega), n_add (by omega)]; omega
    have ac : ∀ b : Int, b = (if pl = σ 92 (7 * l.getD i 0 + 1) then 0 else 100000) → oadd b (dr0 σ c pl m) = coN σ c m l i pl := fun b hb => by
      clear a8
      rw [hb]
      exact n_add (by split <;> omega)
    have mi : omin (lsN rm (coN σ c m l) i pl) (coN σ c m l i pl) = min (lsN rm (coN σ c m l) i pl) (coN σ c m l i pl) := n_min _ _
    have n1 := n_add (show -2147483648 ≤ pl + 1 ∧ pl + 1 < 2147483648 by clear a8 mi; omega)
    rw [ls]
    by_cases z1 : pl = σ 92 (7 * l.getD i 0 + 1)
    · have ac := ac 0 (by rw [if_pos z1])
      generalize coN σ c m l i pl = C at ac mi fin g76' ⊢
      generalize lsN rm (coN σ c m l) i pl = S at mi ⊢
      by_cases z2 : 0 < rm pl
      · rw [if_pos z2]
        simp only [ev_op, ev_op2, ev_op1, ev_dv, ev_dv2, ev_dv1, ev_un, ev_un1, ev_lit, ev_l0, ev_l1, ev_l2, ev_l3, ev_l4, ev_l5, ev_l6, ev_l7, ev_l8, ev_l9, ev_l10, ev_l11, ev_rf, ev_gi, ev_gi1, ev_gi2, ev_gr, ev_gr1, ev_at0, ev_at, ev_al, ev_al2, ev_al1, ev_an, ev_an1, ev_vs0, ev_vs, ev_vs2, ev_vs1, ev_ca, ev_ca1, ev_cv, ev_cv1, ev_cv2, ev_if, ev_if1, ev_cmp, ev_cmp2, ev_cmp1, ev_not, ev_not1, ev_and, ev_and1, ev_or, ev_or1, ev_e, ev_e1, ev_cif, ev_cif1, ev_qlt, ev_qle, ev_qgt, ev_qge, ev_qeq, ev_qne, ev_skip, ev_brk, ev_cnt, ev_retv, ev_seq, ev_seq0, ev_seq1, ev_seq2, ev_seq3, ev_seqi, ev_sif, ev_sif1, ev_ret, ev_ret1, ev_retz, ev_retzb, ev_retzc, ev_retz1, ev_retc, ev_asg, ev_s0, ev_s1, ev_s2, ev_s3, ev_s4, ev_s5, ev_s6, ev_s7, ev_s8, ev_s9, ev_s10, ev_s11, ev_exp, ev_exp1, ev_pf, ev_pf2, ev_pf1, ev_pz, ev_pz2, ev_pz1, ev_of, ev_of2, ev_of1, ev_st, ev_as, ev_as3, ev_as2, ev_as1, ev_oa, ev_oa3, ev_oa2, ev_oa1, ev_oa0, ev_cp, ev_cp3, ev_cp2, ev_cp1, ev_sw, ev_sw1, ev_swb0, ev_swb1, ev_swb3, ev_swbi, ev_fin3, ev_fin0, ev_fini, ev_iv, ev_ic, ev_b1, ev_b2, ev_b3, ev_b4, ev_b5, ev_b6, ev_or12, ev_lp, ev_lc, ev_lb0, ev_lb1, ev_lb2, ev_lb3, ev_lbi, ev_lu, ev_ass, Int.reduceAdd, Int.reduceSub, Int.reduceMul, Int.reduceNeg, Int.reduceLT, Int.reduceLE, Int.reduceGT, Int.reduceGE, Int.reduceEq, Int.reduceNe, Int.reduceDiv, Int.reduceMod, Int.reduceToNat, Nat.reduceAdd, Nat.reduceMul, Nat.reduceSub, Nat.reduceLT, Nat.reduceEqDiff, Int.reduceNatCast', reduceIte, ite_true, ite_false, if_true, if_false, decide_eq_true_eq, decide_true, decide_false, decide_not, Bool.not_eq_true', decide_eq_false_iff_not, Bool.not_not, Bool.and_eq_true, Bool.or_eq_true, Bool.not_true, Bool.not_false, not_true_eq_false, not_false_eq_true, true_and, and_true, false_and, and_false, true_or, or_true, false_or, or_false, Bool.true_and, Bool.and_true, Bool.false_and, Bool.and_false, Bool.true_or, Bool.or_true, Bool.or_false, Bool.false_or, Bool.not_eq_false', Bool.true_eq_false, Bool.false_eq_true, eq_self, Classical.not_not, ite_not, ne_eq, Option.some.injEq, Prod.mk.injEq, L_1, L_72, L_74, L_76, p1, eq_true z1, dm, ac, a8, r48, r8, g76', z2, mi, n1]
        exact RS.go ⟨_, rfl, fin⟩
      · rw [if_neg z2]
        simp only [ev_op, ev_op2, ev_op1, ev_dv, ev_dv2, ev_dv1, ev_un, ev_un1, ev_lit, ev_l0, ev_l1, ev_l2, ev_l3, ev_l4, ev_l5, ev_l6, ev_l7, ev_l8, ev_l9, ev_l10, ev_l11, ev_rf, ev_gi, ev_gi1, ev_gi2, ev_gr, ev_gr1, ev_at0, ev_at, ev_al, ev_al2, ev_al1, ev_an, ev_an1, ev_vs0, ev_vs, ev_vs2, ev_vs1, ev_ca, ev_ca1, ev_cv, ev_cv1, ev_cv2, ev_if, ev_if1, ev_cmp, ev_cmp2, ev_cmp1, ev_not, ev_not1, ev_and, ev_and1, ev_or, ev_or1, ev_e, ev_e1, ev_cif, ev_cif1, ev_qlt, ev_qle, ev_qgt, ev_qge, ev_qeq, ev_qne, ev_skip, ev_brk, ev_cnt, ev_retv, ev_seq, ev_seq0, ev_seq1, ev_seq2, ev_seq3, ev_seqi, ev_sif, ev_sif1, ev_ret, ev_ret1, ev_retz, ev_retzb, ev_retzc, ev_retz1, ev_retc, ev_asg, ev_s0, ev_s1, ev_s2, ev_s3, ev_s4, ev_s5, ev_s6, ev_s7, ev_s8, ev_s9, ev_s10, ev_s11, ev_exp, ev_exp1, ev_pf, ev_pf2, ev_pf1, ev_pz, ev_pz2, ev_pz1, ev_of, ev_of2, ev_of1, ev_st, ev_as, ev_as3, ev_as2, ev_as1, ev_oa, ev_oa3, ev_oa2, ev_oa1, ev_oa0, ev_cp, ev_cp3, ev_cp2, ev_cp1, ev_sw, ev_sw1, ev_swb0, ev_swb1, ev_swb3, ev_swbi, ev_fin3, ev_fin0, ev_fini, ev_iv, ev_ic, ev_b1, ev_b2, ev_b3, ev_b4, ev_b5, ev_b6, ev_or12, ev_lp, ev_lc, ev_lb0, ev_lb1, ev_lb2, ev_lb3, ev_lbi, ev_lu, ev_ass, Int.reduceAdd, Int.reduceSub, Int.reduceMul, Int.reduceNeg, Int.reduceLT, Int.reduceLE, Int.reduceGT, Int.reduceGE, Int.reduceEq, Int.reduceNe, Int.reduceDiv, Int.reduceMod, Int.reduceToNat, Nat.reduceAdd, Nat.reduceMul, Nat.reduceSub, Nat.reduceLT, Nat.reduceEqDiff, Int.reduceNatCast', reduceIte, ite_true, ite_false, if_true, if_false, decide_eq_true_eq, decide_true, decide_false, decide_not, Bool.not_eq_true', decide_eq_false_iff_not, Bool.not_not, Bool.and_eq_true, Bool.or_eq_true, Bool.not_true, Bool.not_false, not_true_eq_false, not_false_eq_true, true_and, and_true, false_and, and_false, true_or, or_true, false_or, or_false, Bool.true_and, Bool.and_true, Bool.false_and, Bool.and_false, Bool.true_or, Bool.or_true, Bool.or_false, Bool.false_or, Bool.not_eq_false', Bool.true_eq_false, Bool.false_eq_true, eq_self, Classical.not_not, ite_not, ne_eq, Option.some.injEq, Prod.mk.injEq, L_1, L_72, L_74, L_76, p1, eq_true z1, dm, ac, a8, r48, r8, g76', z2, n1]
        exact RS.go ⟨_, rfl, fin⟩
    · have ac := ac 100000 (by rw [if_neg z1])
      generalize coN σ c m l i pl = C at ac mi fin g76' ⊢
      generalize lsN rm (coN σ c m l) i pl = S at mi ⊢
      by_cases z2 : 0 < rm pl
      · rw [if_pos z2]
        simp only [ev_op, ev_op2, ev_op1, ev_dv, ev_dv2, ev_dv1, ev_un, ev_un1, ev_lit, ev_l0, ev_l1, ev_l2, ev_l3, ev_l4, ev_l5, ev_l6, ev_l7, ev_l8, ev_l9, ev_l10, ev_l11, ev_rf, ev_gi, ev_gi1, ev_gi2, ev_gr, ev_gr1, ev_at0, ev_at, ev_al, ev_al2, ev_al1, ev_an, ev_an1, ev_vs0, ev_vs, ev_vs2, ev_vs1, ev_ca, ev_ca1, ev_cv, ev_cv1, ev_cv2, ev_if, ev_if1, ev_cmp, ev_cmp2, ev_cmp1, ev_not, ev_not1, ev_and, ev_and1, ev_or, ev_or1, ev_e, ev_e1, ev_cif, ev_cif1, ev_qlt, ev_qle, ev_qgt, ev_qge, ev_qeq, ev_qne, ev_skip, ev_brk, ev_cnt, ev_retv, ev_seq, ev_seq0, ev_seq1, ev_seq2, ev_seq3, ev_seqi, ev_sif, ev_sif1, ev_ret, ev_ret1, ev_retz, ev_retzb, ev_retzc, ev_retz1, ev_retc, ev_asg, ev_s0, ev_s1, ev_s2, ev_s3, ev_s4, ev_s5, ev_s6, ev_s7, ev_s8, ev_s9, ev_s10, ev_s11, ev_exp, ev_exp1, ev_pf, ev_pf2, ev_pf1, ev_pz, ev_pz2, ev_pz1, ev_of, ev_of2, ev_of1, ev_st, ev_as, ev_as3, ev_as2, ev_as1, ev_oa, ev_oa3, ev_oa2, ev_oa1, ev_oa0, ev_cp, ev_cp3, ev_cp2, ev_cp1, ev_sw, ev_sw1, ev_swb0, ev_swb1, ev_swb3, ev_swbi, ev_fin3, ev_fin0, ev_fini, ev_iv, ev_ic, ev_b1, ev_b2, ev_b3, ev_b4, ev_b5, ev_b6, ev_or12, ev_lp, ev_lc, ev_lb0, ev_lb1, ev_lb2, ev_lb3, ev_lbi, ev_lu, ev_ass, Int.reduceAdd, Int.reduceSub, Int.reduceMul, Int.reduceNeg, Int.reduceLT, Int.reduceLE, Int.reduceGT, Int.reduceGE, Int.reduceEq, Int.reduceNe, Int.reduceDiv, Int.reduceMod, Int.reduceToNat, Nat.reduceAdd, Nat.reduceMul, Nat.reduceSub, Nat.reduceLT, Nat.reduceEqDiff, Int.reduceNatCast', reduceIte, ite_true, ite_false, if_true, if_false, decide_eq_true_eq, decide_true, decide_false, decide_not, Bool.not_eq_true', decide_eq_false_iff_not, Bool.not_not, Bool.and_eq_true, Bool.or_eq_true, Bool.not_true, Bool.not_false, not_true_eq_false, not_false_eq_true, true_and, and_true, false_and, and_false, true_or, or_true, false_or, or_false, Bool.true_and, Bool.and_true, Bool.false_and, Bool.and_false, Bool.true_or, Bool.or_true, Bool.or_false, Bool.false_or, Bool.not_eq_false', Bool.true_eq_false, Bool.false_eq_true, eq_self, Classical.not_not, ite_not, ne_eq, Option.some.injEq, Prod.mk.injEq, L_1, L_72, L_74, L_76, p1, z1, dm, ac, a8, r48, r8, g76', z2, mi, n1]
        exact RS.go ⟨_, rfl, fin⟩
      · rw [if_neg z2]
        simp only [ev_op, ev_op2, ev_op1, ev_dv, ev_dv2, ev_dv1, ev_un, ev_un1, ev_lit, ev_l0, ev_l1, ev_l2, ev_l3, ev_l4, ev_l5, ev_l6, ev_l7, ev_l8, ev_l9, ev_l10, ev_l11, ev_rf, ev_gi, ev_gi1, ev_gi2, ev_gr, ev_gr1, ev_at0, ev_at, ev_al, ev_al2, ev_al1, ev_an, ev_an1, ev_vs0, ev_vs, ev_vs2, ev_vs1, ev_ca, ev_ca1, ev_cv, ev_cv1, ev_cv2, ev_if, ev_if1, ev_cmp, ev_cmp2, ev_cmp1, ev_not, ev_not1, ev_and, ev_and1, ev_or, ev_or1, ev_e, ev_e1, ev_cif, ev_cif1, ev_qlt, ev_qle, ev_qgt, ev_qge, ev_qeq, ev_qne, ev_skip, ev_brk, ev_cnt, ev_retv, ev_seq, ev_seq0, ev_seq1, ev_seq2, ev_seq3, ev_seqi, ev_sif, ev_sif1, ev_ret, ev_ret1, ev_retz, ev_retzb, ev_retzc, ev_retz1, ev_retc, ev_asg, ev_s0, ev_s1, ev_s2, ev_s3, ev_s4, ev_s5, ev_s6, ev_s7, ev_s8, ev_s9, ev_s10, ev_s11, ev_exp, ev_exp1, ev_pf, ev_pf2, ev_pf1, ev_pz, ev_pz2, ev_pz1, ev_of, ev_of2, ev_of1, ev_st, ev_as, ev_as3, ev_as2, ev_as1, ev_oa, ev_oa3, ev_oa2, ev_oa1, ev_oa0, ev_cp, ev_cp3, ev_cp2, ev_cp1, ev_sw, ev_sw1, ev_swb0, ev_swb1, ev_swb3, ev_swbi, ev_fin3, ev_fin0, ev_fini, ev_iv, ev_ic, ev_b1, ev_b2, ev_b3, ev_b4, ev_b5, ev_b6, ev_or12, ev_lp, ev_lc, ev_lb0, ev_lb1, ev_lb2, ev_lb3, ev_lbi, ev_lu, ev_ass, Int.reduceAdd, Int.reduceSub, Int.reduceMul, Int.reduceNeg, Int.reduceLT, Int.reduceLE, Int.reduceGT, Int.reduceGE, Int.reduceEq, Int.reduceNe, Int.reduceDiv, Int.reduceMod, Int.reduceToNat, Nat.reduceAdd, Nat.reduceMul, Nat.reduceSub, Nat.reduceLT, Nat.reduceEqDiff, Int.reduceNatCast', reduceIte, ite_true, ite_false, if_true, if_false, decide_eq_true_eq, decide_true, decide_false, decide_not, Bool.not_eq_true', decide_eq_false_iff_not, Bool.not_not, Bool.and_eq_true, Bool.or_eq_true, Bool.not_true, Bool.not_false, not_true_eq_false, not_false_eq_true, true_and, and_true, false_and, and_false, true_or, or_true, false_or, or_false, Bool.true_and, Bool.and_true, Bool.false_and, Bool.and_false, Bool.true_or, Bool.or_true, Bool.or_false, Bool.false_or, Bool.not_eq_false', Bool.true_eq_false, Bool.false_eq_true, eq_self, Classical.not_not, ite_not, ne_eq, Option.some.injEq, Prod.mk.injEq, L_1, L_72, L_74, L_76, p1, z1, dm, ac, a8, r48, r8, g76', z2, n1]
        exact RS.go ⟨_, rfl, fin⟩
  · rintro E υ ⟨x7, rfl, fr, hh⟩
    simp only [ev_op, ev_op2, ev_op1, ev_dv, ev_dv2, ev_dv1, ev_un, ev_un1, ev_lit, ev_l0, ev_l1, ev_l2, ev_l3, ev_l4, ev_l5, ev_l6, ev_l7, ev_l8, ev_l9, ev_l10, ev_l11, ev_rf, ev_gi, ev_gi1, ev_gi2, ev_gr, ev_gr1, ev_at0, ev_at, ev_al, ev_al2, ev_al1, ev_an, ev_an1, ev_vs0, ev_vs, ev_vs2, ev_vs1, ev_ca, ev_ca1, ev_cv, ev_cv1, ev_cv2, ev_if, ev_if1, ev_cmp, ev_cmp2, ev_cmp1, ev_not, ev_not1, ev_and, ev_and1, ev_or, ev_or1, ev_e, ev_e1, ev_cif, ev_cif1, ev_qlt, ev_qle, ev_qgt, ev_qge, ev_qeq, ev_qne, ev_skip, ev_brk, ev_cnt, ev_retv, ev_seq, ev_seq0, ev_seq1, ev_seq2, ev_seq3, ev_seqi, ev_sif, ev_sif1, ev_ret, ev_ret1, ev_retz, ev_retzb, ev_retzc, ev_retz1, ev_retc, ev_asg, ev_s0, ev_s1, ev_s2, ev_s3, ev_s4, ev_s5, ev_s6, ev_s7, ev_s8, ev_s9, ev_s10, ev_s11, ev_exp, ev_exp1, ev_pf, ev_pf2, ev_pf1, ev_pz, ev_pz2, ev_pz1, ev_of, ev_of2, ev_of1, ev_st, ev_as, ev_as3, ev_as2, ev_as1, ev_oa, ev_oa3, ev_oa2, ev_oa1, ev_oa0, ev_cp, ev_cp3, ev_cp2, ev_cp1, ev_sw, ev_sw1, ev_swb0, ev_swb1, ev_swb3, ev_swbi, ev_fin3, ev_fin0, ev_fini, ev_iv, ev_ic, ev_b1, ev_b2, ev_b3, ev_b4, ev_b5, ev_b6, ev_or12, ev_lp, ev_lc, ev_lb0, ev_lb1, ev_lb2, ev_lb3, ev_lbi, ev_lu, ev_ass, Int.reduceAdd, Int.reduceSub, Int.reduceMul, Int.reduceNeg, Int.reduceLT, Int.reduceLE, Int.reduceGT, Int.reduceGE, Int.reduceEq, Int.reduceNe, Int.reduceDiv, Int.reduceMod, Int.reduceToNat, Nat.reduceAdd, Nat.reduceMul, Nat.reduceSub, Nat.reduceLT, Nat.reduceEqDiff, Int.reduceNatCast', reduceIte, ite_true, ite_false, if_true, if_false, decide_eq_true_eq, decide_true, decide_false, decide_not, Bool.not_eq_true', decide_eq_false_iff_not, Bool.not_not, Bool.and_eq_true, Bool.or_eq_true, Bool.not_true, Bool.not_false, not_true_eq_false, not_false_eq_true, true_and, and_true, false_and, and_false, true_or, or_true, false_or, or_false, Bool.true_and, Bool.and_true, Bool.false_and, Bool.and_false, Bool.true_or, Bool.or_true, Bool.or_false, Bool.false_or, Bool.not_eq_false', Bool.true_eq_false, Bool.false_eq_true, eq_self, Classical.not_not, ite_not, ne_eq, Option.some.injEq, Prod.mk.injEq]
    exact RS.done ⟨_, υ, rfl, fr, hh⟩
  · rintro r ⟨E, υ, rfl, fr, hh⟩
    unfold wgN
    generalize lsN rm (coN σ c m l) i 8 = S
    by_cases z : S = 1000000
    · rw [if_pos z]
      simp only [ev_op, ev_op2, ev_op1, ev_dv, ev_dv2, ev_dv1, ev_un, ev_un1, ev_lit, ev_l0, ev_l1, ev_l2, ev_l3, ev_l4, ev_l5, ev_l6, ev_l7, ev_l8, ev_l9, ev_l10, ev_l11, ev_rf, ev_gi, ev_gi1, ev_gi2, ev_gr, ev_gr1, ev_at0, ev_at, ev_al, ev_al2, ev_al1, ev_an, ev_an1, ev_vs0, ev_vs, ev_vs2, ev_vs1, ev_ca, ev_ca1, ev_cv, ev_cv1, ev_cv2, ev_if, ev_if1, ev_cmp, ev_cmp2, ev_cmp1, ev_not, ev_not1, ev_and, ev_and1, ev_or, ev_or1, ev_e, ev_e1, ev_cif, ev_cif1, ev_qlt, ev_qle, ev_qgt, ev_qge, ev_qeq, ev_qne, ev_skip, ev_brk, ev_cnt, ev_retv, ev_seq, ev_seq0, ev_seq1, ev_seq2, ev_seq3, ev_seqi, ev_sif, ev_sif1, ev_ret, ev_ret1, ev_retz, ev_retzb, ev_retzc, ev_retz1, ev_retc, ev_asg, ev_s0, ev_s1, ev_s2, ev_s3, ev_s4, ev_s5, ev_s6, ev_s7, ev_s8, ev_s9, ev_s10, ev_s11, ev_exp, ev_exp1, ev_pf, ev_pf2, ev_pf1, ev_pz, ev_pz2, ev_pz1, ev_of, ev_of2, ev_of1, ev_st, ev_as, ev_as3, ev_as2, ev_as1, ev_oa, ev_oa3, ev_oa2, ev_oa1, ev_oa0, ev_cp, ev_cp3, ev_cp2, ev_cp1, ev_sw, ev_sw1, ev_swb0, ev_swb1, ev_swb3, ev_swbi, ev_fin3, ev_fin0, ev_fini, ev_iv, ev_ic, ev_b1, ev_b2, ev_b3, ev_b4, ev_b5, ev_b6, ev_or12, ev_lp, ev_lc, ev_lb0, ev_lb1, ev_lb2, ev_lb3, ev_lbi, ev_lu, ev_ass, Int.reduceAdd, Int.reduceSub, Int.reduceMul, Int.reduceNeg, Int.reduceLT, Int.reduceLE, Int.reduceGT, Int.reduceGE, Int.reduceEq, Int.reduceNe, Int.reduceDiv, Int.reduceMod, Int.reduceToNat, Nat.reduceAdd, Nat.reduceMul, Nat.reduceSub, Nat.reduceLT, Nat.reduceEqDiff, Int.reduceNatCast', reduceIte, ite_true, ite_false, if_true, if_false, decide_eq_true_eq, decide_true, decide_false, decide_not, Bool.not_eq_true', decide_eq_false_iff_not, Bool.not_not, Bool.and_eq_true, Bool.or_eq_true, Bool.not_true, Bool.not_false, not_true_eq_false, not_false_eq_true, true_and, and_true, false_and, and_false, true_or, or_true, false_or, or_false, Bool.true_and, Bool.and_true, Bool.false_and, Bool.and_false, Bool.true_or, Bool.or_true, Bool.or_false, Bool.false_or, Bool.not_eq_false', Bool.true_eq_false, Bool.false_eq_true, eq_self, Classical.not_not, ite_not, ne_eq, Option.some.injEq, Prod.mk.injEq, eq_true z]
      exact WF.mk ⟨rfl, fr, hh⟩
    · rw [if_neg z]
      simp only [ev_op, ev_op2, ev_op1, ev_dv, ev_dv2, ev_dv1, ev_un, ev_un1, ev_lit, ev_l0, ev_l1, ev_l2, ev_l3, ev_l4, ev_l5, ev_l6, ev_l7, ev_l8, ev_l9, ev_l10, ev_l11, ev_rf, ev_gi, ev_gi1, ev_gi2, ev_gr, ev_gr1, ev_at0, ev_at, ev_al, ev_al2, ev_al1, ev_an, ev_an1, ev_vs0, ev_vs, ev_vs2, ev_vs1, ev_ca, ev_ca1, ev_cv, ev_cv1, ev_cv2, ev_if, ev_if1, ev_cmp, ev_cmp2, ev_cmp1, ev_not, ev_not1, ev_and, ev_and1, ev_or, ev_or1, ev_e, ev_e1, ev_cif, ev_cif1, ev_qlt, ev_qle, ev_qgt, ev_qge, ev_qeq, ev_qne, ev_skip, ev_brk, ev_cnt, ev_retv, ev_seq, ev_seq0, ev_seq1, ev_seq2, ev_seq3, ev_seqi, ev_sif, ev_sif1, ev_ret, ev_ret1, ev_retz, ev_retzb, ev_retzc, ev_retz1, ev_retc, ev_asg, ev_s0, ev_s1, ev_s2, ev_s3, ev_s4, ev_s5, ev_s6, ev_s7, ev_s8, ev_s9, ev_s10, ev_s11, ev_exp, ev_exp1, ev_pf, ev_pf2, ev_pf1, ev_pz, ev_pz2, ev_pz1, ev_of, ev_of2, ev_of1, ev_st, ev_as, ev_as3, ev_as2, ev_as1, ev_oa, ev_oa3, ev_oa2, ev_oa1, ev_oa0, ev_cp, ev_cp3, ev_cp2, ev_cp1, ev_sw, ev_sw1, ev_swb0, ev_swb1, ev_swb3, ev_swbi, ev_fin3, ev_fin0, ev_fini, ev_iv, ev_ic, ev_b1, ev_b2, ev_b3, ev_b4, ev_b5, ev_b6, ev_or12, ev_lp, ev_lc, ev_lb0, ev_lb1, ev_lb2, ev_lb3, ev_lbi, ev_lu, ev_ass, Int.reduceAdd, Int.reduceSub, Int.reduceMul, Int.reduceNeg, Int.reduceLT, Int.reduceLE, Int.reduceGT, Int.reduceGE, Int.reduceEq, Int.reduceNe, Int.reduceDiv, Int.reduceMod, Int.reduceToNat, Nat.reduceAdd, Nat.reduceMul, Nat.reduceSub, Nat.reduceLT, Nat.reduceEqDiff, Int.reduceNatCast', reduceIte, ite_true, ite_false, if_true, if_false, decide_eq_true_eq, decide_true, decide_false, decide_not, Bool.not_eq_true', decide_eq_false_iff_not, Bool.not_not, Bool.and_eq_true, Bool.or_eq_true, Bool.not_true, Bool.not_false, not_true_eq_false, not_false_eq_true, true_and, and_true, false_and, and_false, true_or, or_true, false_or, or_false, Bool.true_and, Bool.and_true, Bool.false_and, Bool.and_false, Bool.true_or, Bool.or_true, Bool.or_false, Bool.false_or, Bool.not_eq_false', Bool.true_eq_false, Bool.false_eq_true, eq_self, Classical.not_not, ite_not, ne_eq, Option.some.injEq, Prod.mk.injEq, z]
      exact WF.mk ⟨rfl, fr, hh⟩
