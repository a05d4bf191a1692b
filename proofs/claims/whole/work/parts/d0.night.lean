/-! ===== the night: the search (pure), the class's ===== -/
def cnN (pre : List Int) (pl : Int) : Int := ((pre.filter (fun q => decide (q = pl))).length : Int)
theorem cnN_nn (pre : List Int) (pl : Int) : 0 ≤ cnN pre pl := Int.natCast_nonneg _
theorem cnN_le (pre : List Int) (pl : Int) : cnN pre pl ≤ (pre.length : Int) := by
  have := List.length_filter_le (fun q => decide (q = pl)) pre
  unfold cnN
  omega
theorem cnN_app (pre : List Int) (c pl : Int) : cnN (pre ++ [c]) pl = cnN pre pl + if c = pl then 1 else 0 := by
  unfold cnN
  rw [List.filter_append, List.length_append, List.filter_cons, List.filter_nil]
  by_cases z : c = pl
  · rw [if_pos (decide_eq_true z), if_pos z]
    rfl
  · rw [if_neg (by rw [decide_eq_false z]; decide), if_neg z]
    rfl
abbrev Cn : Type := Int × List Int
def betN (b : Option Cn) (c : Cn) : Option Cn := match b with
  | none => some c
  | some d => if c.1 < d.1 then some c else some d
section
variable (rm : Int → Int) (co : Nat → Int → Int)
def nF : Nat → List Int → Int → Option Cn → Option Cn
  | 0, pre, L, b => betN b (L, pre)
  | m + 1, pre, L, b => itI (fun pl b => if cnN pre pl < rm pl then nF m (pre ++ [pl]) (L + co pre.length pl) b else b) b 8
end
/-- nothing below that is dear already -/
theorem nF_lb {rm : Int → Int} {co : Nat → Int → Int} {rs : Nat → Int} {n : Nat} (h : ∀ (i : Nat) (pl : Int), i < n → 0 ≤ pl → pl < 8 → 0 < rm pl → rs i ≤ co i pl + rs (i + 1)) (h0 : rs n = 0) : ∀ (m : Nat) (pre : List Int) (L : Int) (d : Cn), pre.length + m = n → d.1 ≤ L + rs pre.length → nF rm co m pre L (some d) = some d := by
  intro m
  induction m with
  | zero =>
    intro pre L d hl hd
    have e : pre.length = n := by omega
    rw [e, h0] at hd
    show (if L < d.1 then some (L, pre) else some d) = some d
    rw [if_neg (by omega)]
  | succ m ih =>
    intro pre L d hl hd
    rw [nF]
    refine itI_inv (fun _ b => b = some d) (by decide) rfl fun pl b p0 p1 e => ?_
    show (if cnN pre pl < rm pl then nF rm co m (pre ++ [pl]) (L + co pre.length pl) b else b) = some d
    rw [e]
    split
    · rename_i q
      have nn := cnN_nn pre pl
      have b1 := h pre.length pl (by omega) p0 p1 (by omega)
      have la : (pre ++ [pl]).length = pre.length + 1 := by rw [List.length_append, List.length_singleton]
      refine ih _ _ d (by omega) ?_
      rw [la]
      omega
    · rfl
/-- the class's night -/
def nSb (n : Nat) (b : Option Cn) (υ : cvM) : Prop := match b with
  | none => υ 72 9 = -3
  | some d => 0 ≤ d.1 ∧ υ 72 9 = d.1 ∧ d.2.length = n ∧ ∀ j : Nat, j < n → υ 78 (j : Int) = d.2.getD j 0
def nSt (n : Nat) (rm : Int → Int) (co : Nat → Int → Int) (rs : Nat → Int) (pre : List Int) (υ : cvM) : Prop := υ 72 3 = (n : Int) ∧ (∀ pl : Int, 0 ≤ pl → pl < 8 → υ 76 pl = rm pl - cnN pre pl) ∧ (∀ j : Nat, j < pre.length → υ 77 (j : Int) = pre.getD j 0) ∧ (∀ (i : Nat) (pl : Int), i < n → 0 ≤ pl → pl < 8 → υ 74 (8 * (i : Int) + pl) = co i pl) ∧ ∀ i : Nat, i ≤ n → υ 75 (i : Int) = rs i
def frX (σ τ : cvM) : Prop := ∀ k i : Int, ¬ ((k = 72 ∧ i = 9) ∨ k = 76 ∨ k = 77 ∨ k = 78) → τ k i = σ k i
theorem getD_ap0 (pre : List Int) (c : Int) (i : Nat) : (pre ++ [c]).getD i 0 = if i = pre.length then c else pre.getD i 0 := by
  by_cases z : i = pre.length
  · rw [if_pos z, z, List.getD_eq_getElem?_getD, List.getElem?_append_right (Nat.le_refl _), Nat.sub_self]
    rfl
  · rw [if_neg z, List.getD_eq_getElem?_getD, List.getD_eq_getElem?_getD]
    by_cases y : i < pre.length
    · rw [List.getElem?_append_left y]
    · rw [List.getElem?_eq_none (by rw [List.length_append, List.length_singleton]; omega), List.getElem?_eq_none (by omega)]
theorem s6_send {n : Nat} (n6 : n ≤ 6) {rm : Int → Int} {co : Nat → Int → Int} {rs : Nat → Int} (hrm : ∀ pl, 0 ≤ pl → pl < 8 → -100 ≤ rm pl ∧ rm pl ≤ 100) (hco : ∀ (i : Nat) (pl : Int), i < n → 0 ≤ pl → pl < 8 → 0 ≤ co i pl ∧ co i pl ≤ 200000) (hrs : ∀ i : Nat, i ≤ n → 0 ≤ rs i ∧ rs i ≤ 2000000) (hlb : ∀ (i : Nat) (pl : Int), i < n → 0 ≤ pl → pl < 8 → 0 < rm pl → rs i ≤ co i pl + rs (i + 1)) (h0 : rs n = 0) : ∀ (m d : Nat), m ≤ d → ∀ (υ : cvM) (pre : List Int) (L : Int) (b : Option Cn), pre.length + m = n → (0 ≤ L ∧ L ≤ 200000 * (pre.length : Int)) → nSt n rm co rs pre υ → nSb n b υ → (∀ d, b = some d → L + rs pre.length < d.1) → ∃ υ', f6_send (d + 1) [72, (pre.length : Int), L] υ = some (0, υ') ∧ frX υ υ' ∧ nSt n rm co rs pre υ' ∧ nSb n (nF rm co m pre L b) υ' := by
  intro m
  induction m with
  | zero =>
    intro d _ υ pre L b hl hL hs hb hw
    obtain ⟨s1, s2, s3, s4, s5⟩ := hs
    have q : (n : Int) ≤ (pre.length : Int) := by omega
    have cp := s11_copy (σ := updM υ 72 9 L) L_77 L_78 (by decide)
    refine ⟨rwM (updM υ 72 9 L) 78 0 6 (updM υ 72 9 L 77), ?_, fun k i hk => by rw [rwM_ne _ (by omega), upd_no (by omega)], ⟨?_, fun pl p0 p1 => ?_, fun j hj => ?_, fun i pl h1 h2 h3 => ?_, fun i hi => ?_⟩, ?_⟩
    · rw [u6_send]
      unfold b6_send
      simp only [ev_op, ev_op2, ev_op1, ev_dv, ev_dv2, ev_dv1, ev_un, ev_un1, ev_lit, ev_l0, ev_l1, ev_l2, ev_l3, ev_l4, ev_l5, ev_l6, ev_l7, ev_l8, ev_l9, ev_l10, ev_l11, ev_rf, ev_gi, ev_gi1, ev_gi2, ev_gr, ev_gr1, ev_at0, ev_at, ev_al, ev_al2, ev_al1, ev_an, ev_an1, ev_vs0, ev_vs, ev_vs2, ev_vs1, ev_ca, ev_ca1, ev_cv, ev_cv1, ev_cv2, ev_if, ev_if1, ev_cmp, ev_cmp2, ev_cmp1, ev_not, ev_not1, ev_and, ev_and1, ev_or, ev_or1, ev_e, ev_e1, ev_cif, ev_cif1, ev_qlt, ev_qle, ev_qgt, ev_qge, ev_qeq, ev_qne, ev_skip, ev_brk, ev_cnt, ev_retv, ev_seq, ev_seq0, ev_seq1, ev_seq2, ev_seq3, ev_seqi, ev_sif, ev_sif1, ev_ret, ev_ret1, ev_retz, ev_retzb, ev_retzc, ev_retz1, ev_retc, ev_asg, ev_s0, ev_s1, ev_s2, ev_s3, ev_s4, ev_s5, ev_s6, ev_s7, ev_s8, ev_s9, ev_s10, ev_s11, ev_exp, ev_exp1, ev_pf, ev_pf2, ev_pf1, ev_pz, ev_pz2, ev_pz1, ev_of, ev_of2, ev_of1, ev_st, ev_as, ev_as3, ev_as2, ev_as1, ev_oa, ev_oa3, ev_oa2, ev_oa1, ev_oa0, ev_cp, ev_cp3, ev_cp2, ev_cp1, ev_sw, ev_sw1, ev_swb0, ev_swb1, ev_swb3, ev_swbi, ev_fin3, ev_fin0, ev_fini, ev_iv, ev_ic, ev_b1, ev_b2, ev_b3, ev_b4, ev_b5, ev_b6, ev_or12, ev_lp, ev_lc, ev_lb0, ev_lb1, ev_lb2, ev_lb3, ev_lbi, ev_lu, ev_ass, Int.reduceAdd, Int.reduceSub, Int.reduceMul, Int.reduceNeg, Int.reduceLT, Int.reduceLE, Int.reduceGT, Int.reduceGE, Int.reduceEq, Int.reduceNe, Int.reduceDiv, Int.reduceMod, Int.reduceToNat, Nat.reduceAdd, Nat.reduceMul, Nat.reduceSub, Nat.reduceLT, Nat.reduceEqDiff, Int.reduceNatCast', reduceIte, ite_true, ite_false, if_true, if_false, decide_eq_true_eq, decide_true, decide_false, decide_not, Bool.not_eq_true', decide_eq_false_iff_not, Bool.not_not, Bool.and_eq_true, Bool.or_eq_true, Bool.not_true, Bool.not_false, not_true_eq_false, not_false_eq_true, true_and, and_true, false_and, and_false, true_or, or_true, false_or, or_false, Bool.true_and, Bool.and_true, Bool.false_and, Bool.and_false, Bool.true_or, Bool.or_true, Bool.or_false, Bool.false_or, Bool.not_eq_false', Bool.true_eq_false, Bool.false_eq_true, eq_self, Classical.not_not, ite_not, ne_eq, Option.some.injEq, Prod.mk.injEq, L_72, L_77, L_78, s1, q, cp]
    · rw [rwM_ne _ (by decide), upd_ni (by decide)]; exact s1
    · rw [rwM_ne _ (by decide), upd_ne _ (by decide)]; exact s2 pl p0 p1
    · rw [rwM_ne _ (by decide), upd_ne _ (by decide)]; exact s3 j hj
    · rw [rwM_ne _ (by decide), upd_ne _ (by decide)]; exact s4 i pl h1 h2 h3
    · rw [rwM_ne _ (by decide), upd_ne _ (by decide)]; exact s5 i hi
    · have e : nF rm co 0 pre L b = some (L, pre) := by
        show betN b (L, pre) = _
        cases b with
        | none => rfl
        | some d0 =>
          have := hw d0 rfl
          rw [show pre.length = n by omega, h0] at this
          exact if_pos (by show L < d0.1; omega)
      rw [e]
      refine ⟨hL.1, ?_, by show pre.length = n; omega, fun j hj => ?_⟩
      · rw [rwM_ne _ (by decide), upd_at]
      · show _ = pre.getD j 0
        rw [r_M, if_pos ⟨rfl, by omega, by omega⟩, Int.sub_zero, upd_ne _ (by decide)]
        exact s3 j (by omega)
  | succ m ih =>
    intro d hd υ pre L b hl hL hs hb hw
    obtain ⟨d, rfl⟩ : ∃ d', d = d' + 1 := ⟨d - 1, by omega⟩
    have q1 : ¬ (n : Int) ≤ (pre.length : Int) := by omega
    have q2 : ¬ 6 ≤ (pre.length : Int) := by omega
    have hpn : pre.length < n := by omega
    have hmd : m ≤ d := by omega
    have hpm : pre.length + 1 + m = n := by omega
    have r6 : 0 ≤ (pre.length : Int) ∧ (pre.length : Int) < 6 := by omega
    have r7 : 0 ≤ (pre.length : Int) + 1 ∧ (pre.length : Int) + 1 < 7 := by omega
    suffices hs : WF (f6_send (d + 1 + 1) [72, (pre.length : Int), L] υ) (fun w υ' => w = 0 ∧ frX υ υ' ∧ nSt n rm co rs pre υ' ∧ nSb n (nF rm co (m + 1) pre L b) υ') by
      obtain ⟨w, υ', e1, rfl, e2⟩ := hs
      exact ⟨υ', e1, e2⟩
    rw [nF]
    generalize hf : (fun pl b => if cnN pre pl < rm pl then nF rm co m (pre ++ [pl]) (L + co pre.length pl) b else b) = f
    have hf0 : ∀ pl b, ¬ cnN pre pl < rm pl → f pl b = b := fun pl b hc => by rw [← hf]; exact if_neg hc
    have hf1 : ∀ pl b, cnN pre pl < rm pl → f pl b = nF rm co m (pre ++ [pl]) (L + co pre.length pl) b := fun pl b hc => by rw [← hf]; exact if_pos hc
    rw [u6_send]
    unfold b6_send
    simp only [ev_op, ev_op2, ev_op1, ev_dv, ev_dv2, ev_dv1, ev_un, ev_un1, ev_lit, ev_l0, ev_l1, ev_l2, ev_l3, ev_l4, ev_l5, ev_l6, ev_l7, ev_l8, ev_l9, ev_l10, ev_l11, ev_rf, ev_gi, ev_gi1, ev_gi2, ev_gr, ev_gr1, ev_at0, ev_at, ev_al, ev_al2, ev_al1, ev_an, ev_an1, ev_vs0, ev_vs, ev_vs2, ev_vs1, ev_ca, ev_ca1, ev_cv, ev_cv1, ev_cv2, ev_if, ev_if1, ev_cmp, ev_cmp2, ev_cmp1, ev_not, ev_not1, ev_and, ev_and1, ev_or, ev_or1, ev_e, ev_e1, ev_cif, ev_cif1, ev_qlt, ev_qle, ev_qgt, ev_qge, ev_qeq, ev_qne, ev_skip, ev_brk, ev_cnt, ev_retv, ev_seq, ev_seq0, ev_seq1, ev_seq2, ev_seq3, ev_seqi, ev_sif, ev_sif1, ev_ret, ev_ret1, ev_retz, ev_retzb, ev_retzc, ev_retz1, ev_retc, ev_asg, ev_s0, ev_s1, ev_s2, ev_s3, ev_s4, ev_s5, ev_s6, ev_s7, ev_s8, ev_s9, ev_s10, ev_s11, ev_exp, ev_exp1, ev_pf, ev_pf2, ev_pf1, ev_pz, ev_pz2, ev_pz1, ev_of, ev_of2, ev_of1, ev_st, ev_as, ev_as3, ev_as2, ev_as1, ev_oa, ev_oa3, ev_oa2, ev_oa1, ev_oa0, ev_cp, ev_cp3, ev_cp2, ev_cp1, ev_sw, ev_sw1, ev_swb0, ev_swb1, ev_swb3, ev_swbi, ev_fin3, ev_fin0, ev_fini, ev_iv, ev_ic, ev_b1, ev_b2, ev_b3, ev_b4, ev_b5, ev_b6, ev_or12, ev_lp, ev_lc, ev_lb0, ev_lb1, ev_lb2, ev_lb3, ev_lbi, ev_lu, ev_ass, Int.reduceAdd, Int.reduceSub, Int.reduceMul, Int.reduceNeg, Int.reduceLT, Int.reduceLE, Int.reduceGT, Int.reduceGE, Int.reduceEq, Int.reduceNe, Int.reduceDiv, Int.reduceMod, Int.reduceToNat, Nat.reduceAdd, Nat.reduceMul, Nat.reduceSub, Nat.reduceLT, Nat.reduceEqDiff, Int.reduceNatCast', reduceIte, ite_true, ite_false, if_true, if_false, decide_eq_true_eq, decide_true, decide_false, decide_not, Bool.not_eq_true', decide_eq_false_iff_not, Bool.not_not, Bool.and_eq_true, Bool.or_eq_true, Bool.not_true, Bool.not_false, not_true_eq_false, not_false_eq_true, true_and, and_true, false_and, and_false, true_or, or_true, false_or, or_false, Bool.true_and, Bool.and_true, Bool.false_and, Bool.and_false, Bool.true_or, Bool.or_true, Bool.or_false, Bool.false_or, Bool.not_eq_false', Bool.true_eq_false, Bool.false_eq_true, eq_self, Classical.not_not, ite_not, ne_eq, Option.some.injEq, Prod.mk.injEq, L_72, hs.1, q1, q2]
    refine wf_lp0 (fun r => ∃ E υ', r = (0, 0, E, υ') ∧ frX υ υ' ∧ nSt n rm co rs pre υ' ∧ nSb n (itI f b 8) υ') (wq_I (fun pl E υ' => ∃ x4 x5, E = [some 72, some (pre.length : Int), some L, some pl, x4, x5] ∧ frX υ υ' ∧ nSt n rm co rs pre υ' ∧ nSb n (itI f b pl) υ') 0 8 (by decide) ⟨none, none, rfl, fun _ _ _ => rfl, hs, hb⟩ ?_ ?_) ?_
    · rintro pl E υ' p0 p1 ⟨x4, x5, rfl, fr, hs', hb'⟩
      obtain ⟨s1, s2, s3, s4, s5⟩ := hs'
      rw [itI_s f b p0]
      generalize itI f b pl = bb at hb' ⊢
      have r48 : 0 ≤ 8 * (pre.length : Int) + pl ∧ 8 * (pre.length : Int) + pl < 48 := by omega
      have r8 : 0 ≤ pl ∧ pl < 8 := ⟨p0, p1⟩
      have c1 := hco pre.length pl hpn p0 p1
      have c2 := hrs (pre.length + 1) (by omega)
      have c3 := hrm pl p0 p1
      have cn0 := cnN_nn pre pl
      have cn1 := cnN_le pre pl
      have g74 := s4 pre.length pl hpn p0 p1
      have g75 := s5 (pre.length + 1) (by omega)
      rw [show ((pre.length + 1 : Nat) : Int) = (pre.length : Int) + 1 by omega] at g75
      have g76 := s2 pl p0 p1
      have Lb : 0 ≤ L + co pre.length pl ∧ L + co pre.length pl ≤ 200000 * ((pre.length : Int) + 1) := by omega
      have a8 : Unit → oadd (omul (pre.length : Int) 8) pl = 8 * (pre.length : Int) + pl := fun _ => by rw [n_mul (by omega), n_add (by omega)]; omega
      have aL : Unit → oadd L (co pre.length pl) = L + co pre.length pl := fun _ => n_add (by omega)
      have ap : Unit → oadd (pre.length : Int) 1 = (pre.length : Int) + 1 := fun _ => n_add (by omega)
      have ar : Unit → oadd (L + co pre.length pl) (rs (pre.length + 1)) = L + co pre.length pl + rs (pre.length + 1) := fun _ => n_add (by omega)
      have n1 := fun _ : Unit => n_add (show -2147483648 ≤ pl + 1 ∧ pl + 1 < 2147483648 by omega)
      have sb1 : Unit → osub (rm pl - cnN pre pl) 1 = rm pl - cnN pre pl - 1 := fun _ => n_sub (by omega)
      have sa1 : Unit → oadd (rm pl - cnN pre pl - 1) 1 = rm pl - cnN pre pl := fun _ => by rw [n_add (by omega)]; omega
      -- a call below
      have call : cnN pre pl < rm pl → (∀ d, bb = some d → L + co pre.length pl + rs (pre.length + 1) < d.1) → ∃ υ2, f6_send (d + 1) [72, (pre.length : Int) + 1, L + co pre.length pl] (updM (updM υ' 76 pl (rm pl - cnN pre pl - 1)) 77 (pre.length : Int) pl) = some (0, υ2) ∧ υ2 76 pl = rm pl - cnN pre pl - 1 ∧ frX υ (updM υ2 76 pl (rm pl - cnN pre pl)) ∧ nSt n rm co rs pre (updM υ2 76 pl (rm pl - cnN pre pl)) ∧ nSb n (f pl bb) (updM υ2 76 pl (rm pl - cnN pre pl)) := by
        intro hc hw'
        clear a8 aL ap ar n1 sb1 sa1
        have la : (pre ++ [pl]).length = pre.length + 1 := by rw [List.length_append, List.length_singleton]
        have hsA : nSt n rm co rs (pre ++ [pl]) (updM (updM υ' 76 pl (rm pl - cnN pre pl - 1)) 77 (pre.length : Int) pl) := by
          refine ⟨?_, fun q q0 q1 => ?_, fun j hj => ?_, fun i q h1 h2 h3 => ?_, fun i hi => ?_⟩
          · rw [upd_ne _ (by decide), upd_ne _ (by decide)]; exact s1
          · rw [upd_ne _ (by decide), cnN_app]
            by_cases z : q = pl
            · rw [z, upd_at, if_pos rfl]; omega
            · rw [upd_ni z, if_neg fun e => z e.symm, s2 q q0 q1]; omega
          · rw [getD_ap0]
            by_cases z : j = pre.length
            · rw [if_pos z, z, upd_at]
            · rw [if_neg z, upd_ni (by omega), upd_ne _ (by decide)]
              exact s3 j (by omega)
          · rw [upd_ne _ (by decide), upd_ne _ (by decide)]; exact s4 i q h1 h2 h3
          · rw [upd_ne _ (by decide), upd_ne _ (by decide)]; exact s5 i hi
        have hbA : nSb n bb (updM (updM υ' 76 pl (rm pl - cnN pre pl - 1)) 77 (pre.length : Int) pl) := by
          cases bb with
          | none =>
            have hb' : υ' 72 9 = -3 := hb'
            show _ = (-3 : Int)
            rw [upd_ne _ (by decide), upd_ne _ (by decide)]; exact hb'
          | some d0 =>
            obtain ⟨b1, b2, b3, b4⟩ := hb'
            refine ⟨b1, ?_, b3, fun j hj => ?_⟩
            · rw [upd_ne _ (by decide), upd_ne _ (by decide)]; exact b2
            · rw [upd_ne _ (by decide), upd_ne _ (by decide)]; exact b4 j hj
        have ih' := ih d hmd _ (pre ++ [pl]) (L + co pre.length pl) bb (by omega) (by rw [la]; omega) hsA hbA (by rw [la]; exact hw')
        obtain ⟨υ2, i1, i2, ⟨t1, t2, t3, t4, t5⟩, i4⟩ := ih'
        rw [la, show ((pre.length + 1 : Nat) : Int) = (pre.length : Int) + 1 by omega] at i1
        refine ⟨υ2, i1, ?_, fun k i hk => ?_, ⟨?_, fun q q0 q1 => ?_, fun j hj => ?_, fun i q h1 h2 h3 => ?_, fun i hi => ?_⟩, ?_⟩
        · rw [t2 pl p0 p1, cnN_app, if_pos rfl]; omega
        · rw [upd_no (by omega), i2 k i hk, upd_no (by omega), upd_no (by omega)]
          exact fr k i hk
        · rw [upd_ne _ (by decide)]; exact t1
        · by_cases z : q = pl
          · rw [z, upd_at]
          · rw [upd_ni z, t2 q q0 q1, cnN_app, if_neg fun e => z e.symm]; omega
        · rw [upd_ne _ (by decide), t3 j (by omega), getD_ap0, if_neg (by omega)]
        · rw [upd_ne _ (by decide)]; exact t4 i q h1 h2 h3
        · rw [upd_ne _ (by decide)]; exact t5 i hi
        · rw [hf1 pl bb hc]
          generalize nF rm co m (pre ++ [pl]) (L + co pre.length pl) bb = bc at i4 ⊢
          cases bc with
          | none =>
            have i4 : υ2 72 9 = -3 := i4
            show _ = (-3 : Int)
            rw [upd_ne _ (by decide)]; exact i4
          | some d0 =>
            obtain ⟨b1, b2, b3, b4⟩ := i4
            refine ⟨b1, ?_, b3, fun j hj => ?_⟩
            · rw [upd_ne _ (by decide)]; exact b2
            · rw [upd_ne _ (by decide)]; exact b4 j hj
      have keep : (cnN pre pl < rm pl → ∃ d, bb = some d ∧ d.1 ≤ L + co pre.length pl + rs (pre.length + 1)) → f pl bb = bb := by
        intro hk
        by_cases hc : cnN pre pl < rm pl
        · obtain ⟨d0, e, hd0⟩ := hk hc
          rw [hf1 pl bb hc, e]
          have la : (pre ++ [pl]).length = pre.length + 1 := by rw [List.length_append, List.length_singleton]
          exact nF_lb hlb h0 m _ _ d0 (by rw [la]; exact hpm) (by rw [la]; exact hd0)
        · exact hf0 pl bb hc
      have e9 : (bb = none ∧ υ' 72 9 = -3) ∨ ∃ d0, bb = some d0 ∧ 0 ≤ d0.1 ∧ υ' 72 9 = d0.1 := by
        cases bb with
        | none => exact Or.inl ⟨rfl, hb'⟩
        | some d0 => exact Or.inr ⟨d0, rfl, hb'.1, hb'.2.1⟩
      by_cases hc : cnN pre pl < rm pl
      · have rc : 0 < rm pl - cnN pre pl := Int.sub_pos.mpr hc
        rcases e9 with ⟨eb, e9⟩ | ⟨d0, eb, d00, e9⟩
        · obtain ⟨υ2, i1, i2, i3, i4, i5⟩ := call hc fun d hd => by rw [eb] at hd; cases hd
          have z9 : (-3 : Int) < 0 := by decide
          simp only [ev_op, ev_op2, ev_op1, ev_dv, ev_dv2, ev_dv1, ev_un, ev_un1, ev_lit, ev_l0, ev_l1, ev_l2, ev_l3, ev_l4, ev_l5, ev_l6, ev_l7, ev_l8, ev_l9, ev_l10, ev_l11, ev_rf, ev_gi, ev_gi1, ev_gi2, ev_gr, ev_gr1, ev_at0, ev_at, ev_al, ev_al2, ev_al1, ev_an, ev_an1, ev_vs0, ev_vs, ev_vs2, ev_vs1, ev_ca, ev_ca1, ev_cv, ev_cv1, ev_cv2, ev_if, ev_if1, ev_cmp, ev_cmp2, ev_cmp1, ev_not, ev_not1, ev_and, ev_and1, ev_or, ev_or1, ev_e, ev_e1, ev_cif, ev_cif1, ev_qlt, ev_qle, ev_qgt, ev_qge, ev_qeq, ev_qne, ev_skip, ev_brk, ev_cnt, ev_retv, ev_seq, ev_seq0, ev_seq1, ev_seq2, ev_seq3, ev_seqi, ev_sif, ev_sif1, ev_ret, ev_ret1, ev_retz, ev_retzb, ev_retzc, ev_retz1, ev_retc, ev_asg, ev_s0, ev_s1, ev_s2, ev_s3, ev_s4, ev_s5, ev_s6, ev_s7, ev_s8, ev_s9, ev_s10, ev_s11, ev_exp, ev_exp1, ev_pf, ev_pf2, ev_pf1, ev_pz, ev_pz2, ev_pz1, ev_of, ev_of2, ev_of1, ev_st, ev_as, ev_as3, ev_as2, ev_as1, ev_oa, ev_oa3, ev_oa2, ev_oa1, ev_oa0, ev_cp, ev_cp3, ev_cp2, ev_cp1, ev_sw, ev_sw1, ev_swb0, ev_swb1, ev_swb3, ev_swbi, ev_fin3, ev_fin0, ev_fini, ev_iv, ev_ic, ev_b1, ev_b2, ev_b3, ev_b4, ev_b5, ev_b6, ev_or12, ev_lp, ev_lc, ev_lb0, ev_lb1, ev_lb2, ev_lb3, ev_lbi, ev_lu, ev_ass, Int.reduceAdd, Int.reduceSub, Int.reduceMul, Int.reduceNeg, Int.reduceLT, Int.reduceLE, Int.reduceGT, Int.reduceGE, Int.reduceEq, Int.reduceNe, Int.reduceDiv, Int.reduceMod, Int.reduceToNat, Nat.reduceAdd, Nat.reduceMul, Nat.reduceSub, Nat.reduceLT, Nat.reduceEqDiff, Int.reduceNatCast', reduceIte, ite_true, ite_false, if_true, if_false, decide_eq_true_eq, decide_true, decide_false, decide_not, Bool.not_eq_true', decide_eq_false_iff_not, Bool.not_not, Bool.and_eq_true, Bool.or_eq_true, Bool.not_true, Bool.not_false, not_true_eq_false, not_false_eq_true, true_and, and_true, false_and, and_false, true_or, or_true, false_or, or_false, Bool.true_and, Bool.and_true, Bool.false_and, Bool.and_false, Bool.true_or, Bool.or_true, Bool.or_false, Bool.false_or, Bool.not_eq_false', Bool.true_eq_false, Bool.false_eq_true, eq_self, Classical.not_not, ite_not, ne_eq, Option.some.injEq, Prod.mk.injEq, L_72, L_74, L_75, L_76, L_77, p1, r48, r8, r6, r7, a8 (), g74, aL (), e9, g76, rc, sb1 (), ap (), i1, i2, sa1 (), n1 ()]
          exact RS.go ⟨_, _, rfl, i3, i4, i5⟩
        · have z9 : ¬ d0.1 < 0 := Int.not_lt.mpr d00
          by_cases hw' : L + co pre.length pl + rs (pre.length + 1) < d0.1
          · obtain ⟨υ2, i1, i2, i3, i4, i5⟩ := call hc fun d hd => by rw [eb] at hd; injection hd with hd; rw [← hd]; exact hw'
            simp only [ev_op, ev_op2, ev_op1, ev_dv, ev_dv2, ev_dv1, ev_un, ev_un1, ev_lit, ev_l0, ev_l1, ev_l2, ev_l3, ev_l4, ev_l5, ev_l6, ev_l7, ev_l8, ev_l9, ev_l10, ev_l11, ev_rf, ev_gi, ev_gi1, ev_gi2, ev_gr, ev_gr1, ev_at0, ev_at, ev_al, ev_al2, ev_al1, ev_an, ev_an1, ev_vs0, ev_vs, ev_vs2, ev_vs1, ev_ca, ev_ca1, ev_cv, ev_cv1, ev_cv2, ev_if, ev_if1, ev_cmp, ev_cmp2, ev_cmp1, ev_not, ev_not1, ev_and, ev_and1, ev_or, ev_or1, ev_e, ev_e1, ev_cif, ev_cif1, ev_qlt, ev_qle, ev_qgt, ev_qge, ev_qeq, ev_qne, ev_skip, ev_brk, ev_cnt, ev_retv, ev_seq, ev_seq0, ev_seq1, ev_seq2, ev_seq3, ev_seqi, ev_sif, ev_sif1, ev_ret, ev_ret1, ev_retz, ev_retzb, ev_retzc, ev_retz1, ev_retc, ev_asg, ev_s0, ev_s1, ev_s2, ev_s3, ev_s4, ev_s5, ev_s6, ev_s7, ev_s8, ev_s9, ev_s10, ev_s11, ev_exp, ev_exp1, ev_pf, ev_pf2, ev_pf1, ev_pz, ev_pz2, ev_pz1, ev_of, ev_of2, ev_of1, ev_st, ev_as, ev_as3, ev_as2, ev_as1, ev_oa, ev_oa3, ev_oa2, ev_oa1, ev_oa0, ev_cp, ev_cp3, ev_cp2, ev_cp1, ev_sw, ev_sw1, ev_swb0, ev_swb1, ev_swb3, ev_swbi, ev_fin3, ev_fin0, ev_fini, ev_iv, ev_ic, ev_b1, ev_b2, ev_b3, ev_b4, ev_b5, ev_b6, ev_or12, ev_lp, ev_lc, ev_lb0, ev_lb1, ev_lb2, ev_lb3, ev_lbi, ev_lu, ev_ass, Int.reduceAdd, Int.reduceSub, Int.reduceMul, Int.reduceNeg, Int.reduceLT, Int.reduceLE, Int.reduceGT, Int.reduceGE, Int.reduceEq, Int.reduceNe, Int.reduceDiv, Int.reduceMod, Int.reduceToNat, Nat.reduceAdd, Nat.reduceMul, Nat.reduceSub, Nat.reduceLT, Nat.reduceEqDiff, Int.reduceNatCast', reduceIte, ite_true, ite_false, if_true, if_false, decide_eq_true_eq, decide_true, decide_false, decide_not, Bool.not_eq_true', decide_eq_false_iff_not, Bool.not_not, Bool.and_eq_true, Bool.or_eq_true, Bool.not_true, Bool.not_false, not_true_eq_false, not_false_eq_true, true_and, and_true, false_and, and_false, true_or, or_true, false_or, or_false, Bool.true_and, Bool.and_true, Bool.false_and, Bool.and_false, Bool.true_or, Bool.or_true, Bool.or_false, Bool.false_or, Bool.not_eq_false', Bool.true_eq_false, Bool.false_eq_true, eq_self, Classical.not_not, ite_not, ne_eq, Option.some.injEq, Prod.mk.injEq, L_72, L_74, L_75, L_76, L_77, p1, r48, r8, r6, r7, a8 (), g74, aL (), e9, z9, ap (), g75, ar (), hw', g76, rc, sb1 (), i1, i2, sa1 (), n1 ()]
            exact RS.go ⟨_, _, rfl, i3, i4, i5⟩
          · rw [keep fun _ => ⟨d0, eb, Int.not_lt.mp hw'⟩]
            simp only [ev_op, ev_op2, ev_op1, ev_dv, ev_dv2, ev_dv1, ev_un, ev_un1, ev_lit, ev_l0, ev_l1, ev_l2, ev_l3, ev_l4, ev_l5, ev_l6, ev_l7, ev_l8, ev_l9, ev_l10, ev_l11, ev_rf, ev_gi, ev_gi1, ev_gi2, ev_gr, ev_gr1, ev_at0, ev_at, ev_al, ev_al2, ev_al1, ev_an, ev_an1, ev_vs0, ev_vs, ev_vs2, ev_vs1, ev_ca, ev_ca1, ev_cv, ev_cv1, ev_cv2, ev_if, ev_if1, ev_cmp, ev_cmp2, ev_cmp1, ev_not, ev_not1, ev_and, ev_and1, ev_or, ev_or1, ev_e, ev_e1, ev_cif, ev_cif1, ev_qlt, ev_qle, ev_qgt, ev_qge, ev_qeq, ev_qne, ev_skip, ev_brk, ev_cnt, ev_retv, ev_seq, ev_seq0, ev_seq1, ev_seq2, ev_seq3, ev_seqi, ev_sif, ev_sif1, ev_ret, ev_ret1, ev_retz, ev_retzb, ev_retzc, ev_retz1, ev_retc, ev_asg, ev_s0, ev_s1, ev_s2, ev_s3, ev_s4, ev_s5, ev_s6, ev_s7, ev_s8, ev_s9, ev_s10, ev_s11, ev_exp, ev_exp1, ev_pf, ev_pf2, ev_pf1, ev_pz, ev_pz2, ev_pz1, ev_of, ev_of2, ev_of1, ev_st, ev_as, ev_as3, ev_as2, ev_as1, ev_oa, ev_oa3, ev_oa2, ev_oa1, ev_oa0, ev_cp, ev_cp3, ev_cp2, ev_cp1, ev_sw, ev_sw1, ev_swb0, ev_swb1, ev_swb3, ev_swbi, ev_fin3, ev_fin0, ev_fini, ev_iv, ev_ic, ev_b1, ev_b2, ev_b3, ev_b4, ev_b5, ev_b6, ev_or12, ev_lp, ev_lc, ev_lb0, ev_lb1, ev_lb2, ev_lb3, ev_lbi, ev_lu, ev_ass, Int.reduceAdd, Int.reduceSub, Int.reduceMul, Int.reduceNeg, Int.reduceLT, Int.reduceLE, Int.reduceGT, Int.reduceGE, Int.reduceEq, Int.reduceNe, Int.reduceDiv, Int.reduceMod, Int.reduceToNat, Nat.reduceAdd, Nat.reduceMul, Nat.reduceSub, Nat.reduceLT, Nat.reduceEqDiff, Int.reduceNatCast', reduceIte, ite_true, ite_false, if_true, if_false, decide_eq_true_eq, decide_true, decide_false, decide_not, Bool.not_eq_true', decide_eq_false_iff_not, Bool.not_not, Bool.and_eq_true, Bool.or_eq_true, Bool.not_true, Bool.not_false, not_true_eq_false, not_false_eq_true, true_and, and_true, false_and, and_false, true_or, or_true, false_or, or_false, Bool.true_and, Bool.and_true, Bool.false_and, Bool.and_false, Bool.true_or, Bool.or_true, Bool.or_false, Bool.false_or, Bool.not_eq_false', Bool.true_eq_false, Bool.false_eq_true, eq_self, Classical.not_not, ite_not, ne_eq, Option.some.injEq, Prod.mk.injEq, L_72, L_74, L_75, L_76, L_77, p1, r48, r8, r6, r7, a8 (), g74, aL (), e9, z9, ap (), g75, ar (), hw', g76, rc, n1 ()]
            exact RS.go ⟨_, _, rfl, fr, ⟨s1, s2, s3, s4, s5⟩, hb'⟩
      · have rc : ¬ 0 < rm pl - cnN pre pl := fun y => hc (Int.sub_pos.mp y)
        rw [keep fun y => absurd y hc]
        rcases e9 with ⟨eb, e9⟩ | ⟨d0, eb, d00, e9⟩
        · simp only [ev_op, ev_op2, ev_op1, ev_dv, ev_dv2, ev_dv1, ev_un, ev_un1, ev_lit, ev_l0, ev_l1, ev_l2, ev_l3, ev_l4, ev_l5, ev_l6, ev_l7, ev_l8, ev_l9, ev_l10, ev_l11, ev_rf, ev_gi, ev_gi1, ev_gi2, ev_gr, ev_gr1, ev_at0, ev_at, ev_al, ev_al2, ev_al1, ev_an, ev_an1, ev_vs0, ev_vs, ev_vs2, ev_vs1, ev_ca, ev_ca1, ev_cv, ev_cv1, ev_cv2, ev_if, ev_if1, ev_cmp, ev_cmp2, ev_cmp1, ev_not, ev_not1, ev_and, ev_and1, ev_or, ev_or1, ev_e, ev_e1, ev_cif, ev_cif1, ev_qlt, ev_qle, ev_qgt, ev_qge, ev_qeq, ev_qne, ev_skip, ev_brk, ev_cnt, ev_retv, ev_seq, ev_seq0, ev_seq1, ev_seq2, ev_seq3, ev_seqi, ev_sif, ev_sif1, ev_ret, ev_ret1, ev_retz, ev_retzb, ev_retzc, ev_retz1, ev_retc, ev_asg, ev_s0, ev_s1, ev_s2, ev_s3, ev_s4, ev_s5, ev_s6, ev_s7, ev_s8, ev_s9, ev_s10, ev_s11, ev_exp, ev_exp1, ev_pf, ev_pf2, ev_pf1, ev_pz, ev_pz2, ev_pz1, ev_of, ev_of2, ev_of1, ev_st, ev_as, ev_as3, ev_as2, ev_as1, ev_oa, ev_oa3, ev_oa2, ev_oa1, ev_oa0, ev_cp, ev_cp3, ev_cp2, ev_cp1, ev_sw, ev_sw1, ev_swb0, ev_swb1, ev_swb3, ev_swbi, ev_fin3, ev_fin0, ev_fini, ev_iv, ev_ic, ev_b1, ev_b2, ev_b3, ev_b4, ev_b5, ev_b6, ev_or12, ev_lp, ev_lc, ev_lb0, ev_lb1, ev_lb2, ev_lb3, ev_lbi, ev_lu, ev_ass, Int.reduceAdd, Int.reduceSub, Int.reduceMul, Int.reduceNeg, Int.reduceLT, Int.reduceLE, Int.reduceGT, Int.reduceGE, Int.reduceEq, Int.reduceNe, Int.reduceDiv, Int.reduceMod, Int.reduceToNat, Nat.reduceAdd, Nat.reduceMul, Nat.reduceSub, Nat.reduceLT, Nat.reduceEqDiff, Int.reduceNatCast', reduceIte, ite_true, ite_false, if_true, if_false, decide_eq_true_eq, decide_true, decide_false, decide_not, Bool.not_eq_true', decide_eq_false_iff_not, Bool.not_not, Bool.and_eq_true, Bool.or_eq_true, Bool.not_true, Bool.not_false, not_true_eq_false, not_false_eq_true, true_and, and_true, false_and, and_false, true_or, or_true, false_or, or_false, Bool.true_and, Bool.and_true, Bool.false_and, Bool.and_false, Bool.true_or, Bool.or_true, Bool.or_false, Bool.false_or, Bool.not_eq_false', Bool.true_eq_false, Bool.false_eq_true, eq_self, Classical.not_not, ite_not, ne_eq, Option.some.injEq, Prod.mk.injEq, L_72, L_74, L_75, L_76, L_77, p1, r48, r8, r6, r7, a8 (), g74, aL (), e9, g76, rc, n1 ()]
          exact RS.go ⟨_, _, rfl, fr, ⟨s1, s2, s3, s4, s5⟩, hb'⟩
        · have z9 : ¬ d0.1 < 0 := Int.not_lt.mpr d00
          by_cases hw' : L + co pre.length pl + rs (pre.length + 1) < d0.1
          · simp only [ev_op, ev_op2, ev_op1, ev_dv, ev_dv2, ev_dv1, ev_un, ev_un1, ev_lit, ev_l0, ev_l1, ev_l2, ev_l3, ev_l4, ev_l5, ev_l6, ev_l7, ev_l8, ev_l9, ev_l10, ev_l11, ev_rf, ev_gi, ev_gi1, ev_gi2, ev_gr, ev_gr1, ev_at0, ev_at, ev_al, ev_al2, ev_al1, ev_an, ev_an1, ev_vs0, ev_vs, ev_vs2, ev_vs1, ev_ca, ev_ca1, ev_cv, ev_cv1, ev_cv2, ev_if, ev_if1, ev_cmp, ev_cmp2, ev_cmp1, ev_not, ev_not1, ev_and, ev_and1, ev_or, ev_or1, ev_e, ev_e1, ev_cif, ev_cif1, ev_qlt, ev_qle, ev_qgt, ev_qge, ev_qeq, ev_qne, ev_skip, ev_brk, ev_cnt, ev_retv, ev_seq, ev_seq0, ev_seq1, ev_seq2, ev_seq3, ev_seqi, ev_sif, ev_sif1, ev_ret, ev_ret1, ev_retz, ev_retzb, ev_retzc, ev_retz1, ev_retc, ev_asg, ev_s0, ev_s1, ev_s2, ev_s3, ev_s4, ev_s5, ev_s6, ev_s7, ev_s8, ev_s9, ev_s10, ev_s11, ev_exp, ev_exp1, ev_pf, ev_pf2, ev_pf1, ev_pz, ev_pz2, ev_pz1, ev_of, ev_of2, ev_of1, ev_st, ev_as, ev_as3, ev_as2, ev_as1, ev_oa, ev_oa3, ev_oa2, ev_oa1, ev_oa0, ev_cp, ev_cp3, ev_cp2, ev_cp1, ev_sw, ev_sw1, ev_swb0, ev_swb1, ev_swb3, ev_swbi, ev_fin3, ev_fin0, ev_fini, ev_iv, ev_ic, ev_b1, ev_b2, ev_b3, ev_b4, ev_b5, ev_b6, ev_or12, ev_lp, ev_lc, ev_lb0, ev_lb1, ev_lb2, ev_lb3, ev_lbi, ev_lu, ev_ass, Int.reduceAdd, Int.reduceSub, Int.reduceMul, Int.reduceNeg, Int.reduceLT, Int.reduceLE, Int.reduceGT, Int.reduceGE, Int.reduceEq, Int.reduceNe, Int.reduceDiv, Int.reduceMod, Int.reduceToNat, Nat.reduceAdd, Nat.reduceMul, Nat.reduceSub, Nat.reduceLT, Nat.reduceEqDiff, Int.reduceNatCast', reduceIte, ite_true, ite_false, if_true, if_false, decide_eq_true_eq, decide_true, decide_false, decide_not, Bool.not_eq_true', decide_eq_false_iff_not, Bool.not_not, Bool.and_eq_true, Bool.or_eq_true, Bool.not_true, Bool.not_false, not_true_eq_false, not_false_eq_true, true_and, and_true, false_and, and_false, true_or, or_true, false_or, or_false, Bool.true_and, Bool.and_true, Bool.false_and, Bool.and_false, Bool.true_or, Bool.or_true, Bool.or_false, Bool.false_or, Bool.not_eq_false', Bool.true_eq_false, Bool.false_eq_true, eq_self, Classical.not_not, ite_not, ne_eq, Option.some.injEq, Prod.mk.injEq, L_72, L_74, L_75, L_76, L_77, p1, r48, r8, r6, r7, a8 (), g74, aL (), e9, z9, ap (), g75, ar (), hw', g76, rc, n1 ()]
            exact RS.go ⟨_, _, rfl, fr, ⟨s1, s2, s3, s4, s5⟩, hb'⟩
          · simp only [ev_op, ev_op2, ev_op1, ev_dv, ev_dv2, ev_dv1, ev_un, ev_un1, ev_lit, ev_l0, ev_l1, ev_l2, ev_l3, ev_l4, ev_l5, ev_l6, ev_l7, ev_l8, ev_l9, ev_l10, ev_l11, ev_rf, ev_gi, ev_gi1, ev_gi2, ev_gr, ev_gr1, ev_at0, ev_at, ev_al, ev_al2, ev_al1, ev_an, ev_an1, ev_vs0, ev_vs, ev_vs2, ev_vs1, ev_ca, ev_ca1, ev_cv, ev_cv1, ev_cv2, ev_if, ev_if1, ev_cmp, ev_cmp2, ev_cmp1, ev_not, ev_not1, ev_and, ev_and1, ev_or, ev_or1, ev_e, ev_e1, ev_cif, ev_cif1, ev_qlt, ev_qle, ev_qgt, ev_qge, ev_qeq, ev_qne, ev_skip, ev_brk, ev_cnt, ev_retv, ev_seq, ev_seq0, ev_seq1, ev_seq2, ev_seq3, ev_seqi, ev_sif, ev_sif1, ev_ret, ev_ret1, ev_retz, ev_retzb, ev_retzc, ev_retz1, ev_retc, ev_asg, ev_s0, ev_s1, ev_s2, ev_s3, ev_s4, ev_s5, ev_s6, ev_s7, ev_s8, ev_s9, ev_s10, ev_s11, ev_exp, ev_exp1, ev_pf, ev_pf2, ev_pf1, ev_pz, ev_pz2, ev_pz1, ev_of, ev_of2, ev_of1, ev_st, ev_as, ev_as3, ev_as2, ev_as1, ev_oa, ev_oa3, ev_oa2, ev_oa1, ev_oa0, ev_cp, ev_cp3, ev_cp2, ev_cp1, ev_sw, ev_sw1, ev_swb0, ev_swb1, ev_swb3, ev_swbi, ev_fin3, ev_fin0, ev_fini, ev_iv, ev_ic, ev_b1, ev_b2, ev_b3, ev_b4, ev_b5, ev_b6, ev_or12, ev_lp, ev_lc, ev_lb0, ev_lb1, ev_lb2, ev_lb3, ev_lbi, ev_lu, ev_ass, Int.reduceAdd, Int.reduceSub, Int.reduceMul, Int.reduceNeg, Int.reduceLT, Int.reduceLE, Int.reduceGT, Int.reduceGE, Int.reduceEq, Int.reduceNe, Int.reduceDiv, Int.reduceMod, Int.reduceToNat, Nat.reduceAdd, Nat.reduceMul, Nat.reduceSub, Nat.reduceLT, Nat.reduceEqDiff, Int.reduceNatCast', reduceIte, ite_true, ite_false, if_true, if_false, decide_eq_true_eq, decide_true, decide_false, decide_not, Bool.not_eq_true', decide_eq_false_iff_not, Bool.not_not, Bool.and_eq_true, Bool.or_eq_true, Bool.not_true, Bool.not_false, not_true_eq_false, not_false_eq_true, true_and, and_true, false_and, and_false, true_or, or_true, false_or, or_false, Bool.true_and, Bool.and_true, Bool.false_and, Bool.and_false, Bool.true_or, Bool.or_true, Bool.or_false, Bool.false_or, Bool.not_eq_false', Bool.true_eq_false, Bool.false_eq_true, eq_self, Classical.not_not, ite_not, ne_eq, Option.some.injEq, Prod.mk.injEq, L_72, L_74, L_75, L_76, L_77, p1, r48, r8, r6, r7, a8 (), g74, aL (), e9, z9, ap (), g75, ar (), hw', g76, rc, n1 ()]
            exact RS.go ⟨_, _, rfl, fr, ⟨s1, s2, s3, s4, s5⟩, hb'⟩
    · rintro E υ' ⟨x4, x5, rfl, fr, hs', hb'⟩
      simp only [ev_op, ev_op2, ev_op1, ev_dv, ev_dv2, ev_dv1, ev_un, ev_un1, ev_lit, ev_l0, ev_l1, ev_l2, ev_l3, ev_l4, ev_l5, ev_l6, ev_l7, ev_l8, ev_l9, ev_l10, ev_l11, ev_rf, ev_gi, ev_gi1, ev_gi2, ev_gr, ev_gr1, ev_at0, ev_at, ev_al, ev_al2, ev_al1, ev_an, ev_an1, ev_vs0, ev_vs, ev_vs2, ev_vs1, ev_ca, ev_ca1, ev_cv, ev_cv1, ev_cv2, ev_if, ev_if1, ev_cmp, ev_cmp2, ev_cmp1, ev_not, ev_not1, ev_and, ev_and1, ev_or, ev_or1, ev_e, ev_e1, ev_cif, ev_cif1, ev_qlt, ev_qle, ev_qgt, ev_qge, ev_qeq, ev_qne, ev_skip, ev_brk, ev_cnt, ev_retv, ev_seq, ev_seq0, ev_seq1, ev_seq2, ev_seq3, ev_seqi, ev_sif, ev_sif1, ev_ret, ev_ret1, ev_retz, ev_retzb, ev_retzc, ev_retz1, ev_retc, ev_asg, ev_s0, ev_s1, ev_s2, ev_s3, ev_s4, ev_s5, ev_s6, ev_s7, ev_s8, ev_s9, ev_s10, ev_s11, ev_exp, ev_exp1, ev_pf, ev_pf2, ev_pf1, ev_pz, ev_pz2, ev_pz1, ev_of, ev_of2, ev_of1, ev_st, ev_as, ev_as3, ev_as2, ev_as1, ev_oa, ev_oa3, ev_oa2, ev_oa1, ev_oa0, ev_cp, ev_cp3, ev_cp2, ev_cp1, ev_sw, ev_sw1, ev_swb0, ev_swb1, ev_swb3, ev_swbi, ev_fin3, ev_fin0, ev_fini, ev_iv, ev_ic, ev_b1, ev_b2, ev_b3, ev_b4, ev_b5, ev_b6, ev_or12, ev_lp, ev_lc, ev_lb0, ev_lb1, ev_lb2, ev_lb3, ev_lbi, ev_lu, ev_ass, Int.reduceAdd, Int.reduceSub, Int.reduceMul, Int.reduceNeg, Int.reduceLT, Int.reduceLE, Int.reduceGT, Int.reduceGE, Int.reduceEq, Int.reduceNe, Int.reduceDiv, Int.reduceMod, Int.reduceToNat, Nat.reduceAdd, Nat.reduceMul, Nat.reduceSub, Nat.reduceLT, Nat.reduceEqDiff, Int.reduceNatCast', reduceIte, ite_true, ite_false, if_true, if_false, decide_eq_true_eq, decide_true, decide_false, decide_not, Bool.not_eq_true', decide_eq_false_iff_not, Bool.not_not, Bool.and_eq_true, Bool.or_eq_true, Bool.not_true, Bool.not_false, not_true_eq_false, not_false_eq_true, true_and, and_true, false_and, and_false, true_or, or_true, false_or, or_false, Bool.true_and, Bool.and_true, Bool.false_and, Bool.and_false, Bool.true_or, Bool.or_true, Bool.or_false, Bool.false_or, Bool.not_eq_false', Bool.true_eq_false, Bool.false_eq_true, eq_self, Classical.not_not, ite_not, ne_eq, Option.some.injEq, Prod.mk.injEq]
      exact RS.done ⟨_, υ', rfl, fr, hs', hb'⟩
    · rintro r ⟨E, υ', rfl, fr, hs', hb'⟩
      simp only [ev_op, ev_op2, ev_op1, ev_dv, ev_dv2, ev_dv1, ev_un, ev_un1, ev_lit, ev_l0, ev_l1, ev_l2, ev_l3, ev_l4, ev_l5, ev_l6, ev_l7, ev_l8, ev_l9, ev_l10, ev_l11, ev_rf, ev_gi, ev_gi1, ev_gi2, ev_gr, ev_gr1, ev_at0, ev_at, ev_al, ev_al2, ev_al1, ev_an, ev_an1, ev_vs0, ev_vs, ev_vs2, ev_vs1, ev_ca, ev_ca1, ev_cv, ev_cv1, ev_cv2, ev_if, ev_if1, ev_cmp, ev_cmp2, ev_cmp1, ev_not, ev_not1, ev_and, ev_and1, ev_or, ev_or1, ev_e, ev_e1, ev_cif, ev_cif1, ev_qlt, ev_qle, ev_qgt, ev_qge, ev_qeq, ev_qne, ev_skip, ev_brk, ev_cnt, ev_retv, ev_seq, ev_seq0, ev_seq1, ev_seq2, ev_seq3, ev_seqi, ev_sif, ev_sif1, ev_ret, ev_ret1, ev_retz, ev_retzb, ev_retzc, ev_retz1, ev_retc, ev_asg, ev_s0, ev_s1, ev_s2, ev_s3, ev_s4, ev_s5, ev_s6, ev_s7, ev_s8, ev_s9, ev_s10, ev_s11, ev_exp, ev_exp1, ev_pf, ev_pf2, ev_pf1, ev_pz, ev_pz2, ev_pz1, ev_of, ev_of2, ev_of1, ev_st, ev_as, ev_as3, ev_as2, ev_as1, ev_oa, ev_oa3, ev_oa2, ev_oa1, ev_oa0, ev_cp, ev_cp3, ev_cp2, ev_cp1, ev_sw, ev_sw1, ev_swb0, ev_swb1, ev_swb3, ev_swbi, ev_fin3, ev_fin0, ev_fini, ev_iv, ev_ic, ev_b1, ev_b2, ev_b3, ev_b4, ev_b5, ev_b6, ev_or12, ev_lp, ev_lc, ev_lb0, ev_lb1, ev_lb2, ev_lb3, ev_lbi, ev_lu, ev_ass]
      exact WF.mk ⟨rfl, fr, hs', hb'⟩
