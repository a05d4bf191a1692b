/-! ===== plan, vanOf ===== -/
theorem tb_nat (x i : Nat) : tb (x : Int) (i : Int) = x.testBit i := by
  unfold tb
  rw [Int.toNat_natCast, Int.toNat_natCast]
theorem td_tb (r c i : Nat) : (tdN r c).testBit i = (r.testBit i && !(c.testBit i)) := by
  unfold tdN
  rw [Nat.testBit_xor, Nat.testBit_and]
  cases r.testBit i <;> cases c.testBit i <;> rfl
theorem and_tb {x s : Nat} : x &&& s = x ↔ ∀ i, x.testBit i = true → s.testBit i = true := by
  constructor
  · intro e i hi
    have : (x &&& s).testBit i = x.testBit i := by rw [e]
    rw [Nat.testBit_and, hi, Bool.true_and] at this
    exact this
  · intro hh
    refine Nat.eq_of_testBit_eq fun i => ?_
    rw [Nat.testBit_and]
    cases q : x.testBit i
    · rfl
    · rw [hh i q]
      rfl
/-- the sets of a plan -/
theorem ce_tb {n : Nat} (n8 : n ≤ 8) {a : List Int} (ha : AV n a) {v : Int} (v0 : 0 ≤ v) (i : Nat) : (ceM a v).toNat.testBit i = (decide (i < n) && decide (a.getD i (-1) = v)) := by
  have ml := ceM_lt a v
  have e : (ceM a v).toNat.testBit i = tb (ceM a v) (i : Int) := by
    unfold tb
    rw [Int.toNat_natCast]
  rw [e]
  unfold ceM
  rw [tb_bI _ _ (by omega), Int.toNat_natCast]
  by_cases z : i < n
  · rw [decide_eq_true z, decide_eq_true (show (i : Int) < 8 by omega)]
  · rw [decide_eq_false z, List.getD_eq_getElem?_getD, List.getElem?_eq_none (by rw [ha.1]; omega)]
    rw [decide_eq_false (show ¬ ((none : Option Int).getD (-1)) = v by show ¬ (-1 : Int) = v; omega), Bool.and_false, Bool.false_and]
theorem ce_nat {a : List Int} (v : Int) : ((ceM a v).toNat : Int) = ceM a v := Int.toNat_of_nonneg (ceM_lt a v).1
theorem all_tb (n i : Nat) : (2 ^ n - 1).testBit i = decide (i < n) := Nat.testBit_two_pow_sub_one n i
theorem AV_at {n : Nat} {a : List Int} (ha : AV n a) {i : Nat} (hi : i < n) : a.getD i (-1) = 0 ∨ a.getD i (-1) = 1 ∨ a.getD i (-1) = 2 := by
  have hl : i < a.length := by rw [ha.1]; exact hi
  have := ha.2 _ (List.getElem_mem hl)
  rw [List.getD_eq_getElem?_getD, List.getElem?_eq_getElem hl]
  show a[i] = 0 ∨ a[i] = 1 ∨ a[i] = 2
  omega
theorem AV_DS {σ : cvM} {pl : Int} (l8 : (rdL σ pl).length ≤ 8) {a : List Int} (ha : AV (rdL σ pl).length a) : ∃ f c r : Nat, DSN (2 ^ (rdL σ pl).length - 1) f c r ∧ v3N σ pl f c r = valN σ pl (rdL σ pl) a ∧ vbL (rdL σ pl).length (f : Int) (c : Int) = a := by
  refine ⟨(ceM a 0).toNat, (ceM a 1).toNat, tdN (2 ^ (rdL σ pl).length - 1) (ceM a 0).toNat, ⟨?_, rfl, ?_⟩, ?_, ?_⟩
  · refine and_tb.mpr fun i hi => ?_
    rw [ce_tb l8 ha (by decide)] at hi
    rw [all_tb]
    exact (Bool.and_eq_true_iff.mp hi).1
  · refine and_tb.mpr fun i hi => ?_
    rw [ce_tb l8 ha (by decide)] at hi
    have hi := Bool.and_eq_true_iff.mp hi
    have e1 := of_decide_eq_true hi.2
    rw [td_tb, all_tb, hi.1, ce_tb l8 ha (by decide), e1, decide_eq_false (show ¬ (1 : Int) = 0 by decide), Bool.and_false]
    rfl
  · have third : tdN (tdN (2 ^ (rdL σ pl).length - 1) (ceM a 0).toNat) (ceM a 1).toNat = (ceM a 2).toNat := by
      refine Nat.eq_of_testBit_eq fun i => ?_
      rw [td_tb, td_tb, all_tb, ce_tb l8 ha (by decide), ce_tb l8 ha (by decide), ce_tb l8 ha (by decide)]
      by_cases z : i < (rdL σ pl).length
      · rw [decide_eq_true z]
        rcases AV_at ha z with e | e | e <;> rw [e] <;> rfl
      · rw [decide_eq_false z]
        rfl
    unfold v3N valN
    rw [third, ce_nat, ce_nat, ce_nat]
  · refine List.ext_getElem (by rw [vbL_len, ha.1]) fun i h1 h2 => ?_
    have hi : i < (rdL σ pl).length := by rw [vbL_len] at h1; exact h1
    have g := vbL_get ((ceM a 0).toNat : Int) ((ceM a 1).toNat : Int) hi (-1)
    rw [List.getD_eq_getElem?_getD, List.getElem?_eq_getElem h1] at g
    have g : (vbL (rdL σ pl).length ((ceM a 0).toNat : Int) ((ceM a 1).toNat : Int))[i] = vbI (i : Int) ((ceM a 0).toNat : Int) ((ceM a 1).toNat : Int) := g
    have ea : a.getD i (-1) = a[i] := by rw [List.getD_eq_getElem?_getD, List.getElem?_eq_getElem h2]; rfl
    rw [g, ← ea]
    unfold vbI
    rw [tb_nat, tb_nat, ce_tb l8 ha (by decide), ce_tb l8 ha (by decide), decide_eq_true hi]
    rcases AV_at ha hi with e | e | e <;> rw [e] <;> rfl
theorem DS_AV {σ : cvM} {pl : Int} (l8 : (rdL σ pl).length ≤ 8) {f c r : Nat} (hd : DSN (2 ^ (rdL σ pl).length - 1) f c r) : AV (rdL σ pl).length (vbL (rdL σ pl).length (f : Int) (c : Int)) ∧ valN σ pl (rdL σ pl) (vbL (rdL σ pl).length (f : Int) (c : Int)) = v3N σ pl f c r := by
  obtain ⟨h1, rfl, h3⟩ := hd
  have hf := and_tb.mp h1
  have hc := and_tb.mp h3
  have av : AV (rdL σ pl).length (vbL (rdL σ pl).length (f : Int) (c : Int)) := by
    refine ⟨vbL_len _ _ _, fun q hq => ?_⟩
    unfold vbL at hq
    obtain ⟨k, _, rfl⟩ := List.mem_map.mp hq
    show 0 ≤ vbI (k : Int) (f : Int) (c : Int) ∧ vbI (k : Int) (f : Int) (c : Int) < 3
    unfold vbI
    split
    · omega
    · split <;> omega
  have e0 : (ceM (vbL (rdL σ pl).length (f : Int) (c : Int)) 0).toNat = f := by
    refine Nat.eq_of_testBit_eq fun i => ?_
    rw [ce_tb l8 av (by decide)]
    by_cases z : i < (rdL σ pl).length
    · rw [decide_eq_true z, Bool.true_and, vbL_get _ _ z]
      unfold vbI
      rw [tb_nat, tb_nat]
      cases q : f.testBit i
      · cases q2 : c.testBit i <;> rfl
      · rfl
    · rw [decide_eq_false z, Bool.false_and]
      cases q : f.testBit i
      · rfl
      · have := hf i q
        rw [all_tb, decide_eq_false z] at this
        cases this
  have cx : ∀ i, c.testBit i = true → i < (rdL σ pl).length ∧ f.testBit i = false := fun i q => by
    have := hc i q
    rw [td_tb, all_tb] at this
    have := Bool.and_eq_true_iff.mp this
    refine ⟨of_decide_eq_true this.1, ?_⟩
    have t := this.2
    rw [Bool.not_eq_true'] at t
    exact t
  have e1 : (ceM (vbL (rdL σ pl).length (f : Int) (c : Int)) 1).toNat = c := by
    refine Nat.eq_of_testBit_eq fun i => ?_
    rw [ce_tb l8 av (by decide)]
    by_cases z : i < (rdL σ pl).length
    · rw [decide_eq_true z, Bool.true_and, vbL_get _ _ z]
      unfold vbI
      rw [tb_nat, tb_nat]
      cases q2 : c.testBit i
      · cases q : f.testBit i <;> rfl
      · rw [(cx i q2).2]
        rfl
    · rw [decide_eq_false z, Bool.false_and]
      cases q : c.testBit i
      · rfl
      · exact absurd (cx i q).1 z
  have e2 : (ceM (vbL (rdL σ pl).length (f : Int) (c : Int)) 2).toNat = tdN (tdN (2 ^ (rdL σ pl).length - 1) f) c := by
    refine Nat.eq_of_testBit_eq fun i => ?_
    rw [ce_tb l8 av (by decide), td_tb, td_tb, all_tb]
    by_cases z : i < (rdL σ pl).length
    · rw [decide_eq_true z, Bool.true_and, vbL_get _ _ z]
      unfold vbI
      rw [tb_nat, tb_nat]
      cases q : f.testBit i <;> cases q2 : c.testBit i <;> rfl
    · rw [decide_eq_false z, Bool.false_and]
      rfl
  refine ⟨av, ?_⟩
  have i0 := ce_nat (a := vbL (rdL σ pl).length (f : Int) (c : Int)) 0
  have i1 := ce_nat (a := vbL (rdL σ pl).length (f : Int) (c : Int)) 1
  have i2 := ce_nat (a := vbL (rdL σ pl).length (f : Int) (c : Int)) 2
  rw [e0] at i0
  rw [e1] at i1
  rw [e2] at i2
  unfold v3N valN
  rw [← i0, ← i1, ← i2]
theorem PD_PB {σ : cvM} {pl : Int} (l8 : (rdL σ pl).length ≤ 8) {b : Option As} (hb : PD σ pl (DSN (2 ^ (rdL σ pl).length - 1)) b) : PB (valN σ pl (rdL σ pl)) (rdL σ pl).length b := by
  cases b with
  | none =>
    intro a ha
    obtain ⟨f, c, r, h1, h2, _⟩ := AV_DS (σ := σ) l8 ha
    rw [← h2]
    exact hb f c r h1
  | some p =>
    obtain ⟨⟨f, c, r, h1, h2, h3⟩, h4⟩ := hb
    obtain ⟨d1, d2⟩ := DS_AV (σ := σ) l8 h1
    refine ⟨⟨by rw [h3]; exact d1, by rw [h3, d2]; exact h2⟩, fun a S ha e => ?_⟩
    obtain ⟨f', c', r', g1, g2, g3⟩ := AV_DS (σ := σ) l8 ha
    have := h4 f' c' r' S g1 (by rw [g2]; exact e)
    rw [g3] at this
    exact this
theorem lateN_eq {σ τ : cvM} (e : ∀ k : Int, 88 ≤ k → k ≤ 98 → τ k = σ k) (pl : Int) : lateN τ pl = lateN σ pl := by
  funext l v s
  unfold lateN
  rw [e 88 (by decide) (by decide), e 94 (by decide) (by decide), (bestT_eq e v _).1, peace_eq e]
theorem rdL_eq {σ τ : cvM} (e : ∀ k : Int, 88 ≤ k → k ≤ 98 → τ k = σ k) (pl : Int) : rdL τ pl = rdL σ pl := by
  unfold rdL ridS
  rw [e 88 (by decide) (by decide), e 92 (by decide) (by decide)]
theorem valN_eq {σ τ : cvM} (e : ∀ k : Int, 88 ≤ k → k ≤ 98 → τ k = σ k) (pl : Int) : valN τ pl = valN σ pl := by
  funext l a
  unfold valN
  rw [lateN_eq e]
/-- the class's plan, and the reference's behind it -/
theorem plan_both {σ : cvM} (hI : Inv σ) {pl : Int} (hh : (0 ≤ pl ∧ pl < σ 88 1) ∧ ¬ σ 89 (5 * pl) = 1) : (8 < (rdL σ pl).length ∧ (∃ τ, f5_solve [46, pl] σ = some (-2, τ) ∧ EqP σ τ ∧ ∃ υ, f12_plan [87, pl] τ = some (-2, υ) ∧ EqP τ υ)) ∨ ((rdL σ pl).length ≤ 8 ∧ ∃ (b : Option As) (bw : Option (Int × Nat)) (τ υ : cvM), b = bw.map (fun p => (p.1, wyA σ pl p.2)) ∧ (∀ p, bw = some p → p.2 < (vnL σ pl).length ^ (rdL σ pl).length) ∧ (∀ p, b = some p → 0 ≤ p.1 ∧ AV (rdL σ pl).length p.2 ∧ valN σ pl (rdL σ pl) p.2 = some p.1) ∧ f5_solve [46, pl] σ = some (match b with
  | none => -3
  | some p => p.1, τ) ∧ loI σ pl τ ∧ wyS σ pl bw τ ∧ ∀ τ', WR τ' → (∀ k : Int, 88 ≤ k → k ≤ 98 → τ' k = σ k) → ∃ υ, f12_plan [87, pl] τ' = some (match b with
  | none => -3
  | some p => p.1, υ) ∧ plI τ' pl b υ) := by
  have h := hI.W
  obtain ⟨s1, s2⟩ := s5_solve h pl
  by_cases q : (rdL σ pl).length ≤ 8
  · obtain ⟨bw, τ, a1, a2, a3, a4⟩ := s2 q
    have pb := wyB_PB h q a2
    refine Or.inr ⟨q, bw.map (fun p => (p.1, wyA σ pl p.2)), bw, τ, τ, rfl, fun p hp => by subst hp; exact a2.2.1, fun p hp => ?_, ?_, a3, a4, fun τ' h2 em => ?_⟩
    · cases bw with
      | none => cases hp
      | some p' =>
        injection hp with hp
        rw [← hp]
        exact ⟨a2.1, pb.1.1, pb.1.2⟩
    · rw [a1]
      cases bw <;> rfl
    · have hh2 : (0 ≤ pl ∧ pl < τ' 88 1) ∧ ¬ τ' 89 (5 * pl) = 1 := by
        rw [em 88 (by decide) (by decide), em 89 (by decide) (by decide)]
        exact hh
      have re := rdL_eq em pl
      have q2 : (rdL τ' pl).length ≤ 8 := by rw [re]; exact q
      obtain ⟨υ, c1, c2, c3⟩ := (s12_lacksPlan h2 hh2).2 q2
      have pb2 := pw2_le q2
      have sh : oshl 1 ((rdL τ' pl).length : Int) = pw2 (rdL τ' pl).length := by
        have := i_shl1 (p := ((rdL τ' pl).length : Int)) (by omega)
        rw [Int.toNat_natCast] at this
        exact this
      have all : osub (pw2 (rdL τ' pl).length) 1 = ((2 ^ (rdL τ' pl).length - 1 : Nat) : Int) := by
        rw [n_sub (by omega)]
        have := Nat.two_pow_pos (rdL τ' pl).length
        unfold pw2
        omega
      have hS : ((2 ^ (rdL τ' pl).length - 1 : Nat) : Int) < pw2 (rdL τ' pl).length := by
        have := Nat.two_pow_pos (rdL τ' pl).length
        clear all sh
        unfold pw2
        omega
      obtain ⟨b2, υ2, d1, d2, d3⟩ := s12_plans h2 q2 c2 c3 hS
      have pB := PD_PB q2 d3
      rw [valN_eq em, re] at pB
      have eb : b2 = bw.map (fun p => (p.1, wyA σ pl p.2)) := PB_uniq pB pb
      subst eb
      have g18 := c2.2.1
      refine ⟨υ2, ?_, d2⟩
      cases bw with
      | none =>
        have d1 : f12_plans [87, ((2 ^ (rdL τ' pl).length - 1 : Nat) : Int)] υ = some (-1, υ2) := d1
        simp only [u12_plan, b12_plan, ev_op, ev_op2, ev_op1, ev_dv, ev_dv2, ev_dv1, ev_un, ev_un1, ev_lit, ev_l0, ev_l1, ev_l2, ev_l3, ev_l4, ev_l5, ev_l6, ev_l7, ev_l8, ev_l9, ev_l10, ev_l11, ev_rf, ev_gi, ev_gi1, ev_gi2, ev_gr, ev_gr1, ev_at0, ev_at, ev_al, ev_al2, ev_al1, ev_an, ev_an1, ev_vs0, ev_vs, ev_vs2, ev_vs1, ev_ca, ev_ca1, ev_cv, ev_cv1, ev_cv2, ev_if, ev_if1, ev_cmp, ev_cmp2, ev_cmp1, ev_not, ev_not1, ev_and, ev_and1, ev_or, ev_or1, ev_e, ev_e1, ev_cif, ev_cif1, ev_qlt, ev_qle, ev_qgt, ev_qge, ev_qeq, ev_qne, ev_skip, ev_brk, ev_cnt, ev_retv, ev_seq, ev_seq0, ev_seq1, ev_seq2, ev_seq3, ev_seqi, ev_sif, ev_sif1, ev_ret, ev_ret1, ev_retz, ev_retzb, ev_retzc, ev_retz1, ev_retc, ev_asg, ev_s0, ev_s1, ev_s2, ev_s3, ev_s4, ev_s5, ev_s6, ev_s7, ev_s8, ev_s9, ev_s10, ev_s11, ev_exp, ev_exp1, ev_pf, ev_pf2, ev_pf1, ev_pz, ev_pz2, ev_pz1, ev_of, ev_of2, ev_of1, ev_st, ev_as, ev_as3, ev_as2, ev_as1, ev_oa, ev_oa3, ev_oa2, ev_oa1, ev_oa0, ev_cp, ev_cp3, ev_cp2, ev_cp1, ev_sw, ev_sw1, ev_swb0, ev_swb1, ev_swb3, ev_swbi, ev_fin3, ev_fin0, ev_fini, ev_iv, ev_ic, ev_b1, ev_b2, ev_b3, ev_b4, ev_b5, ev_b6, ev_or12, ev_lp, ev_lc, ev_lb0, ev_lb1, ev_lb2, ev_lb3, ev_lbi, ev_lu, ev_ass, Int.reduceAdd, Int.reduceSub, Int.reduceMul, Int.reduceNeg, Int.reduceLT, Int.reduceLE, Int.reduceGT, Int.reduceGE, Int.reduceEq, Int.reduceNe, Int.reduceDiv, Int.reduceMod, Int.reduceToNat, Nat.reduceAdd, Nat.reduceMul, Nat.reduceSub, Nat.reduceLT, Nat.reduceEqDiff, Int.reduceNatCast', reduceIte, ite_true, ite_false, if_true, if_false, decide_eq_true_eq, decide_true, decide_false, decide_not, Bool.not_eq_true', decide_eq_false_iff_not, Bool.not_not, Bool.and_eq_true, Bool.or_eq_true, Bool.not_true, Bool.not_false, not_true_eq_false, not_false_eq_true, true_and, and_true, false_and, and_false, true_or, or_true, false_or, or_false, Bool.true_and, Bool.and_true, Bool.false_and, Bool.and_false, Bool.true_or, Bool.or_true, Bool.or_false, Bool.false_or, Bool.not_eq_false', Bool.true_eq_false, Bool.false_eq_true, eq_self, Classical.not_not, ite_not, ne_eq, Option.some.injEq, Prod.mk.injEq, L_87, c1, g18, sh, all, d1]
        rfl
      | some p =>
        have p0 : 0 ≤ p.1 := a2.1
        have pn : ¬ p.1 < 0 := Int.not_lt.mpr p0
        have d1 : f12_plans [87, ((2 ^ (rdL τ' pl).length - 1 : Nat) : Int)] υ = some (p.1, υ2) := d1
        simp only [u12_plan, b12_plan, ev_op, ev_op2, ev_op1, ev_dv, ev_dv2, ev_dv1, ev_un, ev_un1, ev_lit, ev_l0, ev_l1, ev_l2, ev_l3, ev_l4, ev_l5, ev_l6, ev_l7, ev_l8, ev_l9, ev_l10, ev_l11, ev_rf, ev_gi, ev_gi1, ev_gi2, ev_gr, ev_gr1, ev_at0, ev_at, ev_al, ev_al2, ev_al1, ev_an, ev_an1, ev_vs0, ev_vs, ev_vs2, ev_vs1, ev_ca, ev_ca1, ev_cv, ev_cv1, ev_cv2, ev_if, ev_if1, ev_cmp, ev_cmp2, ev_cmp1, ev_not, ev_not1, ev_and, ev_and1, ev_or, ev_or1, ev_e, ev_e1, ev_cif, ev_cif1, ev_qlt, ev_qle, ev_qgt, ev_qge, ev_qeq, ev_qne, ev_skip, ev_brk, ev_cnt, ev_retv, ev_seq, ev_seq0, ev_seq1, ev_seq2, ev_seq3, ev_seqi, ev_sif, ev_sif1, ev_ret, ev_ret1, ev_retz, ev_retzb, ev_retzc, ev_retz1, ev_retc, ev_asg, ev_s0, ev_s1, ev_s2, ev_s3, ev_s4, ev_s5, ev_s6, ev_s7, ev_s8, ev_s9, ev_s10, ev_s11, ev_exp, ev_exp1, ev_pf, ev_pf2, ev_pf1, ev_pz, ev_pz2, ev_pz1, ev_of, ev_of2, ev_of1, ev_st, ev_as, ev_as3, ev_as2, ev_as1, ev_oa, ev_oa3, ev_oa2, ev_oa1, ev_oa0, ev_cp, ev_cp3, ev_cp2, ev_cp1, ev_sw, ev_sw1, ev_swb0, ev_swb1, ev_swb3, ev_swbi, ev_fin3, ev_fin0, ev_fini, ev_iv, ev_ic, ev_b1, ev_b2, ev_b3, ev_b4, ev_b5, ev_b6, ev_or12, ev_lp, ev_lc, ev_lb0, ev_lb1, ev_lb2, ev_lb3, ev_lbi, ev_lu, ev_ass, Int.reduceAdd, Int.reduceSub, Int.reduceMul, Int.reduceNeg, Int.reduceLT, Int.reduceLE, Int.reduceGT, Int.reduceGE, Int.reduceEq, Int.reduceNe, Int.reduceDiv, Int.reduceMod, Int.reduceToNat, Nat.reduceAdd, Nat.reduceMul, Nat.reduceSub, Nat.reduceLT, Nat.reduceEqDiff, Int.reduceNatCast', reduceIte, ite_true, ite_false, if_true, if_false, decide_eq_true_eq, decide_true, decide_false, decide_not, Bool.not_eq_true', decide_eq_false_iff_not, Bool.not_not, Bool.and_eq_true, Bool.or_eq_true, Bool.not_true, Bool.not_false, not_true_eq_false, not_false_eq_true, true_and, and_true, false_and, and_false, true_or, or_true, false_or, or_false, Bool.true_and, Bool.and_true, Bool.false_and, Bool.and_false, Bool.true_or, Bool.or_true, Bool.or_false, Bool.false_or, Bool.not_eq_false', Bool.true_eq_false, Bool.false_eq_true, eq_self, Classical.not_not, ite_not, ne_eq, Option.some.injEq, Prod.mk.injEq, L_87, c1, g18, sh, all, d1, pn]
        rfl
  · obtain ⟨τ, a1, a2⟩ := s1 (by omega)
    have h2 : WR τ := a2.WR h
    have em := a2.E.m
    have hh2 : (0 ≤ pl ∧ pl < τ 88 1) ∧ ¬ τ 89 (5 * pl) = 1 := by
      rw [em 88 (by decide) (by decide), em 89 (by decide) (by decide)]
      exact hh
    obtain ⟨υ, c1, c2⟩ := (s12_lacksPlan h2 hh2).1 (by rw [rdL_eq em]; omega)
    refine Or.inl ⟨by omega, τ, a1, a2.E, υ, ?_, c2.E⟩
    simp only [u12_plan, b12_plan, ev_op, ev_op2, ev_op1, ev_dv, ev_dv2, ev_dv1, ev_un, ev_un1, ev_lit, ev_l0, ev_l1, ev_l2, ev_l3, ev_l4, ev_l5, ev_l6, ev_l7, ev_l8, ev_l9, ev_l10, ev_l11, ev_rf, ev_gi, ev_gi1, ev_gi2, ev_gr, ev_gr1, ev_at0, ev_at, ev_al, ev_al2, ev_al1, ev_an, ev_an1, ev_vs0, ev_vs, ev_vs2, ev_vs1, ev_ca, ev_ca1, ev_cv, ev_cv1, ev_cv2, ev_if, ev_if1, ev_cmp, ev_cmp2, ev_cmp1, ev_not, ev_not1, ev_and, ev_and1, ev_or, ev_or1, ev_e, ev_e1, ev_cif, ev_cif1, ev_qlt, ev_qle, ev_qgt, ev_qge, ev_qeq, ev_qne, ev_skip, ev_brk, ev_cnt, ev_retv, ev_seq, ev_seq0, ev_seq1, ev_seq2, ev_seq3, ev_seqi, ev_sif, ev_sif1, ev_ret, ev_ret1, ev_retz, ev_retzb, ev_retzc, ev_retz1, ev_retc, ev_asg, ev_s0, ev_s1, ev_s2, ev_s3, ev_s4, ev_s5, ev_s6, ev_s7, ev_s8, ev_s9, ev_s10, ev_s11, ev_exp, ev_exp1, ev_pf, ev_pf2, ev_pf1, ev_pz, ev_pz2, ev_pz1, ev_of, ev_of2, ev_of1, ev_st, ev_as, ev_as3, ev_as2, ev_as1, ev_oa, ev_oa3, ev_oa2, ev_oa1, ev_oa0, ev_cp, ev_cp3, ev_cp2, ev_cp1, ev_sw, ev_sw1, ev_swb0, ev_swb1, ev_swb3, ev_swbi, ev_fin3, ev_fin0, ev_fini, ev_iv, ev_ic, ev_b1, ev_b2, ev_b3, ev_b4, ev_b5, ev_b6, ev_or12, ev_lp, ev_lc, ev_lb0, ev_lb1, ev_lb2, ev_lb3, ev_lbi, ev_lu, ev_ass, Int.reduceAdd, Int.reduceSub, Int.reduceMul, Int.reduceNeg, Int.reduceLT, Int.reduceLE, Int.reduceGT, Int.reduceGE, Int.reduceEq, Int.reduceNe, Int.reduceDiv, Int.reduceMod, Int.reduceToNat, Nat.reduceAdd, Nat.reduceMul, Nat.reduceSub, Nat.reduceLT, Nat.reduceEqDiff, Int.reduceNatCast', reduceIte, ite_true, ite_false, if_true, if_false, decide_eq_true_eq, decide_true, decide_false, decide_not, Bool.not_eq_true', decide_eq_false_iff_not, Bool.not_not, Bool.and_eq_true, Bool.or_eq_true, Bool.not_true, Bool.not_false, not_true_eq_false, not_false_eq_true, true_and, and_true, false_and, and_false, true_or, or_true, false_or, or_false, Bool.true_and, Bool.and_true, Bool.false_and, Bool.and_false, Bool.true_or, Bool.or_true, Bool.or_false, Bool.false_or, Bool.not_eq_false', Bool.true_eq_false, Bool.false_eq_true, eq_self, Classical.not_not, ite_not, ne_eq, Option.some.injEq, Prod.mk.injEq, L_87, c1]
theorem ag_plan (pl : Int) : Ag f11_plan f12_plan [pl] := fun σ hI => by
  have h := hI.W
  have eh := s11_isHome h pl
  by_cases q : (0 ≤ pl ∧ pl < σ 88 1) ∧ ¬ σ 89 (5 * pl) = 1
  · rw [if_pos q] at eh
    rcases plan_both hI q with ⟨_, τ, a1, a2, υ, a3, a4⟩ | ⟨_, b, bw, τ, _, _, _, _, a1, a2, _, a3⟩
    · refine ⟨-2, τ, υ, ?_, a3, (hI.congr a2).congr a4⟩
      simp only [u11_plan, b11_plan, ev_op, ev_op2, ev_op1, ev_dv, ev_dv2, ev_dv1, ev_un, ev_un1, ev_lit, ev_l0, ev_l1, ev_l2, ev_l3, ev_l4, ev_l5, ev_l6, ev_l7, ev_l8, ev_l9, ev_l10, ev_l11, ev_rf, ev_gi, ev_gi1, ev_gi2, ev_gr, ev_gr1, ev_at0, ev_at, ev_al, ev_al2, ev_al1, ev_an, ev_an1, ev_vs0, ev_vs, ev_vs2, ev_vs1, ev_ca, ev_ca1, ev_cv, ev_cv1, ev_cv2, ev_if, ev_if1, ev_cmp, ev_cmp2, ev_cmp1, ev_not, ev_not1, ev_and, ev_and1, ev_or, ev_or1, ev_e, ev_e1, ev_cif, ev_cif1, ev_qlt, ev_qle, ev_qgt, ev_qge, ev_qeq, ev_qne, ev_skip, ev_brk, ev_cnt, ev_retv, ev_seq, ev_seq0, ev_seq1, ev_seq2, ev_seq3, ev_seqi, ev_sif, ev_sif1, ev_ret, ev_ret1, ev_retz, ev_retzb, ev_retzc, ev_retz1, ev_retc, ev_asg, ev_s0, ev_s1, ev_s2, ev_s3, ev_s4, ev_s5, ev_s6, ev_s7, ev_s8, ev_s9, ev_s10, ev_s11, ev_exp, ev_exp1, ev_pf, ev_pf2, ev_pf1, ev_pz, ev_pz2, ev_pz1, ev_of, ev_of2, ev_of1, ev_st, ev_as, ev_as3, ev_as2, ev_as1, ev_oa, ev_oa3, ev_oa2, ev_oa1, ev_oa0, ev_cp, ev_cp3, ev_cp2, ev_cp1, ev_sw, ev_sw1, ev_swb0, ev_swb1, ev_swb3, ev_swbi, ev_fin3, ev_fin0, ev_fini, ev_iv, ev_ic, ev_b1, ev_b2, ev_b3, ev_b4, ev_b5, ev_b6, ev_or12, ev_lp, ev_lc, ev_lb0, ev_lb1, ev_lb2, ev_lb3, ev_lbi, ev_lu, ev_ass, Int.reduceAdd, Int.reduceSub, Int.reduceMul, Int.reduceNeg, Int.reduceLT, Int.reduceLE, Int.reduceGT, Int.reduceGE, Int.reduceEq, Int.reduceNe, Int.reduceDiv, Int.reduceMod, Int.reduceToNat, Nat.reduceAdd, Nat.reduceMul, Nat.reduceSub, Nat.reduceLT, Nat.reduceEqDiff, Int.reduceNatCast', reduceIte, ite_true, ite_false, if_true, if_false, decide_eq_true_eq, decide_true, decide_false, decide_not, Bool.not_eq_true', decide_eq_false_iff_not, Bool.not_not, Bool.and_eq_true, Bool.or_eq_true, Bool.not_true, Bool.not_false, not_true_eq_false, not_false_eq_true, true_and, and_true, false_and, and_false, true_or, or_true, false_or, or_false, Bool.true_and, Bool.and_true, Bool.false_and, Bool.and_false, Bool.true_or, Bool.or_true, Bool.or_false, Bool.false_or, Bool.not_eq_false', Bool.true_eq_false, Bool.false_eq_true, eq_self, Classical.not_not, ite_not, ne_eq, Option.some.injEq, Prod.mk.injEq, L_0, L_46, eh, a1]
    · obtain ⟨υ, b1, b2⟩ := a3 τ (a2.1.WR h) a2.1.E.m
      refine ⟨_, τ, υ, ?_, b1, (hI.congr a2.1.E).congr b2.1.1.E⟩
      simp only [u11_plan, b11_plan, ev_op, ev_op2, ev_op1, ev_dv, ev_dv2, ev_dv1, ev_un, ev_un1, ev_lit, ev_l0, ev_l1, ev_l2, ev_l3, ev_l4, ev_l5, ev_l6, ev_l7, ev_l8, ev_l9, ev_l10, ev_l11, ev_rf, ev_gi, ev_gi1, ev_gi2, ev_gr, ev_gr1, ev_at0, ev_at, ev_al, ev_al2, ev_al1, ev_an, ev_an1, ev_vs0, ev_vs, ev_vs2, ev_vs1, ev_ca, ev_ca1, ev_cv, ev_cv1, ev_cv2, ev_if, ev_if1, ev_cmp, ev_cmp2, ev_cmp1, ev_not, ev_not1, ev_and, ev_and1, ev_or, ev_or1, ev_e, ev_e1, ev_cif, ev_cif1, ev_qlt, ev_qle, ev_qgt, ev_qge, ev_qeq, ev_qne, ev_skip, ev_brk, ev_cnt, ev_retv, ev_seq, ev_seq0, ev_seq1, ev_seq2, ev_seq3, ev_seqi, ev_sif, ev_sif1, ev_ret, ev_ret1, ev_retz, ev_retzb, ev_retzc, ev_retz1, ev_retc, ev_asg, ev_s0, ev_s1, ev_s2, ev_s3, ev_s4, ev_s5, ev_s6, ev_s7, ev_s8, ev_s9, ev_s10, ev_s11, ev_exp, ev_exp1, ev_pf, ev_pf2, ev_pf1, ev_pz, ev_pz2, ev_pz1, ev_of, ev_of2, ev_of1, ev_st, ev_as, ev_as3, ev_as2, ev_as1, ev_oa, ev_oa3, ev_oa2, ev_oa1, ev_oa0, ev_cp, ev_cp3, ev_cp2, ev_cp1, ev_sw, ev_sw1, ev_swb0, ev_swb1, ev_swb3, ev_swbi, ev_fin3, ev_fin0, ev_fini, ev_iv, ev_ic, ev_b1, ev_b2, ev_b3, ev_b4, ev_b5, ev_b6, ev_or12, ev_lp, ev_lc, ev_lb0, ev_lb1, ev_lb2, ev_lb3, ev_lbi, ev_lu, ev_ass, Int.reduceAdd, Int.reduceSub, Int.reduceMul, Int.reduceNeg, Int.reduceLT, Int.reduceLE, Int.reduceGT, Int.reduceGE, Int.reduceEq, Int.reduceNe, Int.reduceDiv, Int.reduceMod, Int.reduceToNat, Nat.reduceAdd, Nat.reduceMul, Nat.reduceSub, Nat.reduceLT, Nat.reduceEqDiff, Int.reduceNatCast', reduceIte, ite_true, ite_false, if_true, if_false, decide_eq_true_eq, decide_true, decide_false, decide_not, Bool.not_eq_true', decide_eq_false_iff_not, Bool.not_not, Bool.and_eq_true, Bool.or_eq_true, Bool.not_true, Bool.not_false, not_true_eq_false, not_false_eq_true, true_and, and_true, false_and, and_false, true_or, or_true, false_or, or_false, Bool.true_and, Bool.and_true, Bool.false_and, Bool.and_false, Bool.true_or, Bool.or_true, Bool.or_false, Bool.false_or, Bool.not_eq_false', Bool.true_eq_false, Bool.false_eq_true, eq_self, Classical.not_not, ite_not, ne_eq, Option.some.injEq, Prod.mk.injEq, L_0, L_46, eh, a1]
  · rw [if_neg q] at eh
    have eh2 := s12_isHome h pl
    rw [if_neg q] at eh2
    refine ⟨-1, σ, σ, ?_, ?_, hI⟩
    · simp only [u11_plan, b11_plan, ev_op, ev_op2, ev_op1, ev_dv, ev_dv2, ev_dv1, ev_un, ev_un1, ev_lit, ev_l0, ev_l1, ev_l2, ev_l3, ev_l4, ev_l5, ev_l6, ev_l7, ev_l8, ev_l9, ev_l10, ev_l11, ev_rf, ev_gi, ev_gi1, ev_gi2, ev_gr, ev_gr1, ev_at0, ev_at, ev_al, ev_al2, ev_al1, ev_an, ev_an1, ev_vs0, ev_vs, ev_vs2, ev_vs1, ev_ca, ev_ca1, ev_cv, ev_cv1, ev_cv2, ev_if, ev_if1, ev_cmp, ev_cmp2, ev_cmp1, ev_not, ev_not1, ev_and, ev_and1, ev_or, ev_or1, ev_e, ev_e1, ev_cif, ev_cif1, ev_qlt, ev_qle, ev_qgt, ev_qge, ev_qeq, ev_qne, ev_skip, ev_brk, ev_cnt, ev_retv, ev_seq, ev_seq0, ev_seq1, ev_seq2, ev_seq3, ev_seqi, ev_sif, ev_sif1, ev_ret, ev_ret1, ev_retz, ev_retzb, ev_retzc, ev_retz1, ev_retc, ev_asg, ev_s0, ev_s1, ev_s2, ev_s3, ev_s4, ev_s5, ev_s6, ev_s7, ev_s8, ev_s9, ev_s10, ev_s11, ev_exp, ev_exp1, ev_pf, ev_pf2, ev_pf1, ev_pz, ev_pz2, ev_pz1, ev_of, ev_of2, ev_of1, ev_st, ev_as, ev_as3, ev_as2, ev_as1, ev_oa, ev_oa3, ev_oa2, ev_oa1, ev_oa0, ev_cp, ev_cp3, ev_cp2, ev_cp1, ev_sw, ev_sw1, ev_swb0, ev_swb1, ev_swb3, ev_swbi, ev_fin3, ev_fin0, ev_fini, ev_iv, ev_ic, ev_b1, ev_b2, ev_b3, ev_b4, ev_b5, ev_b6, ev_or12, ev_lp, ev_lc, ev_lb0, ev_lb1, ev_lb2, ev_lb3, ev_lbi, ev_lu, ev_ass, Int.reduceAdd, Int.reduceSub, Int.reduceMul, Int.reduceNeg, Int.reduceLT, Int.reduceLE, Int.reduceGT, Int.reduceGE, Int.reduceEq, Int.reduceNe, Int.reduceDiv, Int.reduceMod, Int.reduceToNat, Nat.reduceAdd, Nat.reduceMul, Nat.reduceSub, Nat.reduceLT, Nat.reduceEqDiff, Int.reduceNatCast', reduceIte, ite_true, ite_false, if_true, if_false, decide_eq_true_eq, decide_true, decide_false, decide_not, Bool.not_eq_true', decide_eq_false_iff_not, Bool.not_not, Bool.and_eq_true, Bool.or_eq_true, Bool.not_true, Bool.not_false, not_true_eq_false, not_false_eq_true, true_and, and_true, false_and, and_false, true_or, or_true, false_or, or_false, Bool.true_and, Bool.and_true, Bool.false_and, Bool.and_false, Bool.true_or, Bool.or_true, Bool.or_false, Bool.false_or, Bool.not_eq_false', Bool.true_eq_false, Bool.false_eq_true, eq_self, Classical.not_not, ite_not, ne_eq, Option.some.injEq, Prod.mk.injEq, L_0, eh]
    · have lp : f12_lacksPlan [87, pl] σ = some (-1, σ) := by simp only [u12_lacksPlan, b12_lacksPlan, ev_op, ev_op2, ev_op1, ev_dv, ev_dv2, ev_dv1, ev_un, ev_un1, ev_lit, ev_l0, ev_l1, ev_l2, ev_l3, ev_l4, ev_l5, ev_l6, ev_l7, ev_l8, ev_l9, ev_l10, ev_l11, ev_rf, ev_gi, ev_gi1, ev_gi2, ev_gr, ev_gr1, ev_at0, ev_at, ev_al, ev_al2, ev_al1, ev_an, ev_an1, ev_vs0, ev_vs, ev_vs2, ev_vs1, ev_ca, ev_ca1, ev_cv, ev_cv1, ev_cv2, ev_if, ev_if1, ev_cmp, ev_cmp2, ev_cmp1, ev_not, ev_not1, ev_and, ev_and1, ev_or, ev_or1, ev_e, ev_e1, ev_cif, ev_cif1, ev_qlt, ev_qle, ev_qgt, ev_qge, ev_qeq, ev_qne, ev_skip, ev_brk, ev_cnt, ev_retv, ev_seq, ev_seq0, ev_seq1, ev_seq2, ev_seq3, ev_seqi, ev_sif, ev_sif1, ev_ret, ev_ret1, ev_retz, ev_retzb, ev_retzc, ev_retz1, ev_retc, ev_asg, ev_s0, ev_s1, ev_s2, ev_s3, ev_s4, ev_s5, ev_s6, ev_s7, ev_s8, ev_s9, ev_s10, ev_s11, ev_exp, ev_exp1, ev_pf, ev_pf2, ev_pf1, ev_pz, ev_pz2, ev_pz1, ev_of, ev_of2, ev_of1, ev_st, ev_as, ev_as3, ev_as2, ev_as1, ev_oa, ev_oa3, ev_oa2, ev_oa1, ev_oa0, ev_cp, ev_cp3, ev_cp2, ev_cp1, ev_sw, ev_sw1, ev_swb0, ev_swb1, ev_swb3, ev_swbi, ev_fin3, ev_fin0, ev_fini, ev_iv, ev_ic, ev_b1, ev_b2, ev_b3, ev_b4, ev_b5, ev_b6, ev_or12, ev_lp, ev_lc, ev_lb0, ev_lb1, ev_lb2, ev_lb3, ev_lbi, ev_lu, ev_ass, Int.reduceAdd, Int.reduceSub, Int.reduceMul, Int.reduceNeg, Int.reduceLT, Int.reduceLE, Int.reduceGT, Int.reduceGE, Int.reduceEq, Int.reduceNe, Int.reduceDiv, Int.reduceMod, Int.reduceToNat, Nat.reduceAdd, Nat.reduceMul, Nat.reduceSub, Nat.reduceLT, Nat.reduceEqDiff, Int.reduceNatCast', reduceIte, ite_true, ite_false, if_true, if_false, decide_eq_true_eq, decide_true, decide_false, decide_not, Bool.not_eq_true', decide_eq_false_iff_not, Bool.not_not, Bool.and_eq_true, Bool.or_eq_true, Bool.not_true, Bool.not_false, not_true_eq_false, not_false_eq_true, true_and, and_true, false_and, and_false, true_or, or_true, false_or, or_false, Bool.true_and, Bool.and_true, Bool.false_and, Bool.and_false, Bool.true_or, Bool.or_true, Bool.or_false, Bool.false_or, Bool.not_eq_false', Bool.true_eq_false, Bool.false_eq_true, eq_self, Classical.not_not, ite_not, ne_eq, Option.some.injEq, Prod.mk.injEq, L_87, eh2]
      simp only [u12_plan, b12_plan, ev_op, ev_op2, ev_op1, ev_dv, ev_dv2, ev_dv1, ev_un, ev_un1, ev_lit, ev_l0, ev_l1, ev_l2, ev_l3, ev_l4, ev_l5, ev_l6, ev_l7, ev_l8, ev_l9, ev_l10, ev_l11, ev_rf, ev_gi, ev_gi1, ev_gi2, ev_gr, ev_gr1, ev_at0, ev_at, ev_al, ev_al2, ev_al1, ev_an, ev_an1, ev_vs0, ev_vs, ev_vs2, ev_vs1, ev_ca, ev_ca1, ev_cv, ev_cv1, ev_cv2, ev_if, ev_if1, ev_cmp, ev_cmp2, ev_cmp1, ev_not, ev_not1, ev_and, ev_and1, ev_or, ev_or1, ev_e, ev_e1, ev_cif, ev_cif1, ev_qlt, ev_qle, ev_qgt, ev_qge, ev_qeq, ev_qne, ev_skip, ev_brk, ev_cnt, ev_retv, ev_seq, ev_seq0, ev_seq1, ev_seq2, ev_seq3, ev_seqi, ev_sif, ev_sif1, ev_ret, ev_ret1, ev_retz, ev_retzb, ev_retzc, ev_retz1, ev_retc, ev_asg, ev_s0, ev_s1, ev_s2, ev_s3, ev_s4, ev_s5, ev_s6, ev_s7, ev_s8, ev_s9, ev_s10, ev_s11, ev_exp, ev_exp1, ev_pf, ev_pf2, ev_pf1, ev_pz, ev_pz2, ev_pz1, ev_of, ev_of2, ev_of1, ev_st, ev_as, ev_as3, ev_as2, ev_as1, ev_oa, ev_oa3, ev_oa2, ev_oa1, ev_oa0, ev_cp, ev_cp3, ev_cp2, ev_cp1, ev_sw, ev_sw1, ev_swb0, ev_swb1, ev_swb3, ev_swbi, ev_fin3, ev_fin0, ev_fini, ev_iv, ev_ic, ev_b1, ev_b2, ev_b3, ev_b4, ev_b5, ev_b6, ev_or12, ev_lp, ev_lc, ev_lb0, ev_lb1, ev_lb2, ev_lb3, ev_lbi, ev_lu, ev_ass, Int.reduceAdd, Int.reduceSub, Int.reduceMul, Int.reduceNeg, Int.reduceLT, Int.reduceLE, Int.reduceGT, Int.reduceGE, Int.reduceEq, Int.reduceNe, Int.reduceDiv, Int.reduceMod, Int.reduceToNat, Nat.reduceAdd, Nat.reduceMul, Nat.reduceSub, Nat.reduceLT, Nat.reduceEqDiff, Int.reduceNatCast', reduceIte, ite_true, ite_false, if_true, if_false, decide_eq_true_eq, decide_true, decide_false, decide_not, Bool.not_eq_true', decide_eq_false_iff_not, Bool.not_not, Bool.and_eq_true, Bool.or_eq_true, Bool.not_true, Bool.not_false, not_true_eq_false, not_false_eq_true, true_and, and_true, false_and, and_false, true_or, or_true, false_or, or_false, Bool.true_and, Bool.and_true, Bool.false_and, Bool.and_false, Bool.true_or, Bool.or_true, Bool.or_false, Bool.false_or, Bool.not_eq_false', Bool.true_eq_false, Bool.false_eq_true, eq_self, Classical.not_not, ite_not, ne_eq, Option.some.injEq, Prod.mk.injEq, L_87, lp]
