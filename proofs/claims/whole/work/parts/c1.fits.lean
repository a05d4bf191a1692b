/-! ===== cells: the search (pure), the class's ===== -/
def fstI {α : Type} (f : Int → Option α) : Nat → Int → Option α
  | 0, _ => none
  | k + 1, c => match f c with
    | some r => some r
    | none => fstI f k (c + 1)
theorem fstI_none {α : Type} {f : Int → Option α} : ∀ (k : Nat) (c : Int), (∀ i, c ≤ i → f i = none) → fstI f k c = none := by
  intro k
  induction k with
  | zero => intro c _; rfl
  | succ k ih =>
    intro c h
    rw [fstI, h c (Int.le_refl c)]
    exact ih (c + 1) fun i hi => h i (by omega)
def ceM (pre : List Int) (c : Int) : Int := bI (fun j => decide (pre.getD j.toNat (-1) = c)) 8
def usT (pre : List Int) : Int := pre.foldl (fun t q => if t ≤ q then q + 1 else t) 0
def ceOk (cap : Int) (fb : Nat → Int → Bool) (pre : List Int) (c : Int) : Bool := decide (pcI (ceM pre c) < cap) && !(anyI (fun j => decide (pre.getD j.toNat (-1) = c) && fb pre.length j) (pre.length : Int))
def ceF (cap L : Int) (fb : Nat → Int → Bool) : Nat → List Int → Option (List Int)
  | 0, pre => some pre
  | m + 1, pre => fstI (fun c => if c < L ∧ ceOk cap fb pre c = true then ceF cap L fb m (pre ++ [c]) else none) (usT pre + 1).toNat 0
theorem usT_app (pre : List Int) (c : Int) : usT (pre ++ [c]) = max (usT pre) (c + 1) := by
  unfold usT
  rw [List.foldl_append]
  show (if pre.foldl _ 0 ≤ c then c + 1 else pre.foldl _ 0) = _
  generalize pre.foldl (fun t q => if t ≤ q then q + 1 else t) 0 = t
  split <;> omega
theorem usT_bd {m : Int} (hm : 0 ≤ m) : ∀ (pre : List Int), (∀ q ∈ pre, 0 ≤ q ∧ q < m) → 0 ≤ usT pre ∧ usT pre ≤ m := by
  have key : ∀ (pre : List Int) (t : Int), 0 ≤ t ∧ t ≤ m → (∀ q ∈ pre, 0 ≤ q ∧ q < m) → 0 ≤ pre.foldl (fun t q => if t ≤ q then q + 1 else t) t ∧ pre.foldl (fun t q => if t ≤ q then q + 1 else t) t ≤ m := by
    intro pre
    induction pre with
    | nil => intro t ht _; exact ht
    | cons q pre ih =>
      intro t ht hq
      rw [List.foldl_cons]
      have := hq q List.mem_cons_self
      exact ih _ (by split <;> omega) fun y hy => hq y (List.mem_cons_of_mem _ hy)
  exact fun pre h => key pre 0 (by omega) h
theorem getD_app (pre : List Int) (c : Int) (i : Nat) : (pre ++ [c]).getD i (-1) = if i = pre.length then c else pre.getD i (-1) := by
  by_cases z : i = pre.length
  · rw [if_pos z, z, List.getD_eq_getElem?_getD, List.getElem?_append_right (Nat.le_refl _), Nat.sub_self]
    rfl
  · rw [if_neg z, List.getD_eq_getElem?_getD, List.getD_eq_getElem?_getD]
    by_cases y : i < pre.length
    · rw [List.getElem?_append_left y]
    · rw [List.getElem?_eq_none (by rw [List.length_append, List.length_singleton]; omega), List.getElem?_eq_none (by omega)]
theorem ceM_lt (pre : List Int) (c : Int) : 0 ≤ ceM pre c ∧ ceM pre c < 256 := bI_lt _ 8
theorem ceM_0 {c : Int} (hc : 0 ≤ c) : ceM [] c = 0 := by
  refine tb_ext (ceM_lt _ _).1 (Int.le_refl 0) fun i i0 => ?_
  unfold ceM
  rw [tb_bI _ _ i0, show tb 0 i = false from Nat.zero_testBit _]
  show (decide (i < 8) && decide ((-1 : Int) = c)) = false
  rw [decide_eq_false (show ¬ (-1 : Int) = c by omega), Bool.and_false]
theorem ceM_ne {pre : List Int} {c c' : Int} (hc : 0 ≤ c') (h : c' ≠ c) : ceM (pre ++ [c]) c' = ceM pre c' := by
  unfold ceM
  refine bI_ext fun i i0 i1 => ?_
  rw [getD_app]
  by_cases z : i.toNat = pre.length
  · rw [if_pos z, z, List.getD_eq_getElem?_getD, List.getElem?_eq_none (Nat.le_refl _)]
    show decide (c = c') = decide ((-1 : Int) = c')
    rw [decide_eq_false (fun e => h e.symm), decide_eq_false (show ¬ (-1 : Int) = c' by omega)]
  · rw [if_neg z]
theorem ceM_eq {pre : List Int} (hl : pre.length < 8) (c : Int) : oor (ceM pre c) (oshl 1 (pre.length : Int)) = ceM (pre ++ [c]) c := by
  have l1 := ceM_lt pre c
  have l2 := ceM_lt (pre ++ [c]) c
  rw [i_or 8 (by decide) l1 (by omega)]
  have l3 := xw_lt (x := ceM pre c) (p := (pre.length : Int)) (q := true) 8 l1 (by omega)
  refine tb_ext l3.1 l2.1 fun i i0 => ?_
  rw [tb_xw (by omega) i0]
  unfold ceM
  rw [tb_bI _ _ i0, tb_bI _ _ i0, getD_app]
  by_cases z : i = (pre.length : Int)
  · rw [if_pos z, if_pos (by omega), decide_eq_true rfl, decide_eq_true (by omega)]
    rfl
  · rw [if_neg z, if_neg (by omega)]
/-- the class's parts -/
def clP (pre : List Int) (τ : cvM) : Prop := ∀ c : Int, 0 ≤ c → c < 8 → τ 61 c = ceM pre c
theorem ceOk_and {σ : cvM} {x : Int} {n : Nat} (hn : (sl (tb x) 12).length = n) (n8 : n ≤ 8) {cap : Int} {pre : List Int} (hp : pre.length < n) {c : Int} (hc : 0 ≤ c) : ceOk cap (feB σ (sl (tb x) 12)) pre c = true ↔ pcI (ceM pre c) < cap ∧ oand (ceM pre c) (bI (feB σ (sl (tb x) 12) pre.length) (n : Int)) = 0 := by
  have l1 := ceM_lt pre c
  have l2 := bI_le (feB σ (sl (tb x) 12) pre.length) (n : Int) 8 (by omega)
  have l2 : 0 ≤ bI (feB σ (sl (tb x) 12) pre.length) (n : Int) ∧ bI (feB σ (sl (tb x) 12) pre.length) (n : Int) < 256 := l2
  unfold ceOk
  rw [Bool.and_eq_true, decide_eq_true_eq, Bool.not_eq_true']
  refine and_congr_right fun _ => ?_
  constructor
  · intro e
    have an := i_andN (x := ceM pre c) (y := bI (feB σ (sl (tb x) 12) pre.length) (n : Int)) (by omega) (by omega)
    refine tb_ext (by rw [an]; omega) (Int.le_refl 0) fun i i0 => ?_
    rw [tb_and (by omega) (by omega), show tb 0 i = false from Nat.zero_testBit _]
    unfold ceM
    rw [tb_bI _ _ i0, tb_bI _ _ i0]
    by_cases z : i < (pre.length : Int)
    · have ne : (decide (pre.getD i.toNat (-1) = c) && feB σ (sl (tb x) 12) pre.length i) = false := by
        cases q : (decide (pre.getD i.toNat (-1) = c) && feB σ (sl (tb x) 12) pre.length i)
        · rfl
        · have : anyI (fun j => decide (pre.getD j.toNat (-1) = c) && feB σ (sl (tb x) 12) pre.length j) (pre.length : Int) = true := anyI_t.mpr ⟨i, i0, z, q⟩
          rw [this] at e
          cases e
      cases q1 : decide (pre.getD i.toNat (-1) = c)
      · rw [Bool.and_false, Bool.false_and]
      · rw [q1, Bool.true_and] at ne
        rw [ne, Bool.and_false, Bool.and_false]
    · rw [List.getD_eq_getElem?_getD, List.getElem?_eq_none (by omega)]
      show (decide (i < 8) && decide ((-1 : Int) = c) && _) = false
      rw [decide_eq_false (show ¬ (-1 : Int) = c by omega), Bool.and_false, Bool.false_and]
  · intro e
    cases q : anyI (fun j => decide (pre.getD j.toNat (-1) = c) && feB σ (sl (tb x) 12) pre.length j) (pre.length : Int)
    · rfl
    · obtain ⟨i, i0, i1, q⟩ := anyI_t.mp q
      have q := Bool.and_eq_true_iff.mp q
      have t : tb (oand (ceM pre c) (bI (feB σ (sl (tb x) 12) pre.length) (n : Int))) i = true := by
        rw [tb_and (by omega) (by omega)]
        unfold ceM
        rw [tb_bI _ _ i0, tb_bI _ _ i0, q.1, q.2, decide_eq_true (show i < 8 by omega), decide_eq_true (show i < (n : Int) by omega)]
        rfl
      rw [e, show tb 0 i = false from Nat.zero_testBit _] at t
      cases t
theorem s1_fits {σ : cvM} {x : Int} {n : Nat} (hn : (sl (tb x) 12).length = n) (n8 : n ≤ 8) {cap L : Int} (hL : 0 ≤ L ∧ L ≤ 8) : ∀ (m d : Nat), m ≤ d → ∀ (υ : cvM) (pre : List Int), pre.length + m = n → (∀ q ∈ pre, 0 ≤ q ∧ q < 8) → bdI58 σ x υ → υ 57 3 = cap → clP pre υ → ∃ υ', f1_fits (d + 1) [57, (pre.length : Int), usT pre, L] υ = some (if (ceF cap L (feB σ (sl (tb x) 12)) m pre).isSome = true then 1 else 0, υ') ∧ (∀ k i : Int, k ≠ 61 → υ' k i = υ k i) ∧ clP ((ceF cap L (feB σ (sl (tb x) 12)) m pre).getD pre) υ' := by
  intro m
  induction m with
  | zero =>
    intro d _ υ pre hl hq hb hcap hcl
    have b1 := hb.1
    rw [hn] at b1
    have q : (n : Int) ≤ (pre.length : Int) := by omega
    refine ⟨υ, ?_, fun _ _ _ => rfl, hcl⟩
    rw [u1_fits]
    unfold b1_fits
    simp only [ev_op, ev_op2, ev_op1, ev_dv, ev_dv2, ev_dv1, ev_un, ev_un1, ev_lit, ev_l0, ev_l1, ev_l2, ev_l3, ev_l4, ev_l5, ev_l6, ev_l7, ev_l8, ev_l9, ev_l10, ev_l11, ev_rf, ev_gi, ev_gi1, ev_gi2, ev_gr, ev_gr1, ev_at0, ev_at, ev_al, ev_al2, ev_al1, ev_an, ev_an1, ev_vs0, ev_vs, ev_vs2, ev_vs1, ev_ca, ev_ca1, ev_cv, ev_cv1, ev_cv2, ev_if, ev_if1, ev_cmp, ev_cmp2, ev_cmp1, ev_not, ev_not1, ev_and, ev_and1, ev_or, ev_or1, ev_e, ev_e1, ev_cif, ev_cif1, ev_qlt, ev_qle, ev_qgt, ev_qge, ev_qeq, ev_qne, ev_skip, ev_brk, ev_cnt, ev_retv, ev_seq, ev_seq0, ev_seq1, ev_seq2, ev_seq3, ev_seqi, ev_sif, ev_sif1, ev_ret, ev_ret1, ev_retz, ev_retzb, ev_retzc, ev_retz1, ev_retc, ev_asg, ev_s0, ev_s1, ev_s2, ev_s3, ev_s4, ev_s5, ev_s6, ev_s7, ev_s8, ev_s9, ev_s10, ev_s11, ev_exp, ev_exp1, ev_pf, ev_pf2, ev_pf1, ev_pz, ev_pz2, ev_pz1, ev_of, ev_of2, ev_of1, ev_st, ev_as, ev_as3, ev_as2, ev_as1, ev_oa, ev_oa3, ev_oa2, ev_oa1, ev_oa0, ev_cp, ev_cp3, ev_cp2, ev_cp1, ev_sw, ev_sw1, ev_swb0, ev_swb1, ev_swb3, ev_swbi, ev_fin3, ev_fin0, ev_fini, ev_iv, ev_ic, ev_b1, ev_b2, ev_b3, ev_b4, ev_b5, ev_b6, ev_or12, ev_lp, ev_lc, ev_lb0, ev_lb1, ev_lb2, ev_lb3, ev_lbi, ev_lu, ev_ass, Int.reduceAdd, Int.reduceSub, Int.reduceMul, Int.reduceNeg, Int.reduceLT, Int.reduceLE, Int.reduceGT, Int.reduceGE, Int.reduceEq, Int.reduceNe, Int.reduceDiv, Int.reduceMod, Int.reduceToNat, Nat.reduceAdd, Nat.reduceMul, Nat.reduceSub, Nat.reduceLT, Nat.reduceEqDiff, Int.reduceNatCast', reduceIte, ite_true, ite_false, if_true, if_false, decide_eq_true_eq, decide_true, decide_false, decide_not, Bool.not_eq_true', decide_eq_false_iff_not, Bool.not_not, Bool.and_eq_true, Bool.or_eq_true, Bool.not_true, Bool.not_false, not_true_eq_false, not_false_eq_true, true_and, and_true, false_and, and_false, true_or, or_true, false_or, or_false, Bool.true_and, Bool.and_true, Bool.false_and, Bool.and_false, Bool.true_or, Bool.or_true, Bool.or_false, Bool.false_or, Bool.not_eq_false', Bool.true_eq_false, Bool.false_eq_true, eq_self, Classical.not_not, ite_not, ne_eq, Option.some.injEq, Prod.mk.injEq, L_57, L_58, b1, q]
    rfl
  | succ m ih =>
    intro d hd υ pre hl hq hb hcap hcl
    obtain ⟨d, rfl⟩ : ∃ d', d = d' + 1 := ⟨d - 1, by omega⟩
    have h1 : pre.length < n := by omega
    have h8 : pre.length < 8 := by omega
    have hm : pre.length + 1 + m = n := by omega
    have hmd : m ≤ d := by omega
    have b1 := hb.1
    rw [hn] at b1
    have b3 := hb.2.2 pre.length (by omega)
    rw [hn] at b3
    have q1 : ¬ (n : Int) ≤ (pre.length : Int) := by omega
    have q2 : ¬ 8 ≤ (pre.length : Int) := by omega
    have ub := usT_bd (m := 8) (by decide) pre hq
    have r8 : 0 ≤ (pre.length : Int) ∧ (pre.length : Int) < 8 := by omega
    have np := n_add (show -2147483648 ≤ (pre.length : Int) + 1 ∧ (pre.length : Int) + 1 < 2147483648 by omega)
    suffices hs : WF (f1_fits (d + 1 + 1) [57, (pre.length : Int), usT pre, L] υ) (fun w υ' => w = (if (ceF cap L (feB σ (sl (tb x) 12)) (m + 1) pre).isSome = true then 1 else 0) ∧ (∀ k i : Int, k ≠ 61 → υ' k i = υ k i) ∧ clP ((ceF cap L (feB σ (sl (tb x) 12)) (m + 1) pre).getD pre) υ') by
      obtain ⟨w, υ', e1, rfl, e2⟩ := hs
      exact ⟨υ', e1, e2⟩
    rw [ceF]
    generalize hf : (fun c => if c < L ∧ ceOk cap (feB σ (sl (tb x) 12)) pre c = true then ceF cap L (feB σ (sl (tb x) 12)) m (pre ++ [c]) else none) = f
    have hf0 : ∀ c, ¬ (c < L ∧ ceOk cap (feB σ (sl (tb x) 12)) pre c = true) → f c = none := fun c hc => by rw [← hf]; exact if_neg hc
    have hf1 : ∀ c, (c < L ∧ ceOk cap (feB σ (sl (tb x) 12)) pre c = true) → f c = ceF cap L (feB σ (sl (tb x) 12)) m (pre ++ [c]) := fun c hc => by rw [← hf]; exact if_pos hc
    rw [u1_fits]
    unfold b1_fits
    simp only [ev_op, ev_op2, ev_op1, ev_dv, ev_dv2, ev_dv1, ev_un, ev_un1, ev_lit, ev_l0, ev_l1, ev_l2, ev_l3, ev_l4, ev_l5, ev_l6, ev_l7, ev_l8, ev_l9, ev_l10, ev_l11, ev_rf, ev_gi, ev_gi1, ev_gi2, ev_gr, ev_gr1, ev_at0, ev_at, ev_al, ev_al2, ev_al1, ev_an, ev_an1, ev_vs0, ev_vs, ev_vs2, ev_vs1, ev_ca, ev_ca1, ev_cv, ev_cv1, ev_cv2, ev_if, ev_if1, ev_cmp, ev_cmp2, ev_cmp1, ev_not, ev_not1, ev_and, ev_and1, ev_or, ev_or1, ev_e, ev_e1, ev_cif, ev_cif1, ev_qlt, ev_qle, ev_qgt, ev_qge, ev_qeq, ev_qne, ev_skip, ev_brk, ev_cnt, ev_retv, ev_seq, ev_seq0, ev_seq1, ev_seq2, ev_seq3, ev_seqi, ev_sif, ev_sif1, ev_ret, ev_ret1, ev_retz, ev_retzb, ev_retzc, ev_retz1, ev_retc, ev_asg, ev_s0, ev_s1, ev_s2, ev_s3, ev_s4, ev_s5, ev_s6, ev_s7, ev_s8, ev_s9, ev_s10, ev_s11, ev_exp, ev_exp1, ev_pf, ev_pf2, ev_pf1, ev_pz, ev_pz2, ev_pz1, ev_of, ev_of2, ev_of1, ev_st, ev_as, ev_as3, ev_as2, ev_as1, ev_oa, ev_oa3, ev_oa2, ev_oa1, ev_oa0, ev_cp, ev_cp3, ev_cp2, ev_cp1, ev_sw, ev_sw1, ev_swb0, ev_swb1, ev_swb3, ev_swbi, ev_fin3, ev_fin0, ev_fini, ev_iv, ev_ic, ev_b1, ev_b2, ev_b3, ev_b4, ev_b5, ev_b6, ev_or12, ev_lp, ev_lc, ev_lb0, ev_lb1, ev_lb2, ev_lb3, ev_lbi, ev_lu, ev_ass, Int.reduceAdd, Int.reduceSub, Int.reduceMul, Int.reduceNeg, Int.reduceLT, Int.reduceLE, Int.reduceGT, Int.reduceGE, Int.reduceEq, Int.reduceNe, Int.reduceDiv, Int.reduceMod, Int.reduceToNat, Nat.reduceAdd, Nat.reduceMul, Nat.reduceSub, Nat.reduceLT, Nat.reduceEqDiff, Int.reduceNatCast', reduceIte, ite_true, ite_false, if_true, if_false, decide_eq_true_eq, decide_true, decide_false, decide_not, Bool.not_eq_true', decide_eq_false_iff_not, Bool.not_not, Bool.and_eq_true, Bool.or_eq_true, Bool.not_true, Bool.not_false, not_true_eq_false, not_false_eq_true, true_and, and_true, false_and, and_false, true_or, or_true, false_or, or_false, Bool.true_and, Bool.and_true, Bool.false_and, Bool.and_false, Bool.true_or, Bool.or_true, Bool.or_false, Bool.false_or, Bool.not_eq_false', Bool.true_eq_false, Bool.false_eq_true, eq_self, Classical.not_not, ite_not, ne_eq, Option.some.injEq, Prod.mk.injEq, L_57, L_58, b1, q1, q2]
    refine wf_lp (fun r => (∃ E υ' s, r = (3, 1, E, υ') ∧ fstI f (usT pre + 1).toNat 0 = some s ∧ (∀ k i : Int, k ≠ 61 → υ' k i = υ k i) ∧ clP s υ') ∨ ∃ E υ', r = (0, 0, E, υ') ∧ fstI f (usT pre + 1).toNat 0 = none ∧ (∀ k i : Int, k ≠ 61 → υ' k i = υ k i) ∧ clP pre υ') (wq_I (fun c E υ' => ∃ x5 x6, E = [some 57, some (pre.length : Int), some (usT pre), some L, some c, x5, x6] ∧ fstI f (usT pre + 1).toNat 0 = fstI f (usT pre + 1 - c).toNat c ∧ (∀ k i : Int, k ≠ 61 → υ' k i = υ k i) ∧ clP pre υ') 0 (usT pre + 1) (by omega) ⟨none, none, rfl, by rw [Int.sub_zero], fun _ _ _ => rfl, hcl⟩ ?_ ?_) ?_
    · rintro c E υ' c0 c1 ⟨x5, x6, rfl, ef, fr, cl⟩
      have n1 := n_add (show -2147483648 ≤ c + 1 ∧ c + 1 < 2147483648 by omega)
      have p1 : c ≤ usT pre := by omega
      rw [show (usT pre + 1 - c).toNat = (usT pre + 1 - (c + 1)).toNat + 1 by omega, fstI] at ef
      by_cases z : c < L
      · have z8 : c < 8 := by omega
        have g := cl c c0 z8
        have ml := ceM_lt pre c
        have bc := sJ_bitCount (x := ceM pre c) (by omega) υ'
        have g60 : υ' 60 (pre.length : Int) = bI (feB σ (sl (tb x) 12) pre.length) (n : Int) := by rw [fr 60 _ (by decide), b3]
        have gc : υ' 57 3 = cap := by rw [fr 57 _ (by decide), hcap]
        have ok := ceOk_and (σ := σ) (x := x) hn n8 (cap := cap) (pre := pre) h1 c0
        have rc : 0 ≤ c ∧ c < 8 := ⟨c0, z8⟩
        by_cases y1 : pcI (ceM pre c) < cap
        · by_cases y2 : oand (ceM pre c) (bI (feB σ (sl (tb x) 12) pre.length) (n : Int)) = 0
          · have oke := ok.mpr ⟨y1, y2⟩
            have fe := hf1 c ⟨z, oke⟩
            have me := ceM_eq (pre := pre) h8 c
            have clA : clP (pre ++ [c]) (updM υ' 61 c (ceM (pre ++ [c]) c)) := fun c' c0' c8' => by
              by_cases e : c' = c
              · rw [e, upd_at]
              · rw [upd_ni e, ceM_ne c0' e]
                exact cl c' c0' c8'
            have frA : ∀ k i : Int, k ≠ 61 → updM υ' 61 c (ceM (pre ++ [c]) c) k i = υ k i := fun k i hk => by rw [upd_ne _ hk, fr k i hk]
            have la : (pre ++ [c]).length = pre.length + 1 := by rw [List.length_append, List.length_singleton]
            have ih' := ih d hmd (updM υ' 61 c (ceM (pre ++ [c]) c)) (pre ++ [c]) (by rw [la]; exact hm) (fun q hq' => by
              rcases List.mem_append.mp hq' with e | e
              · exact hq q e
              · rw [List.mem_singleton] at e
                rw [e]
                exact rc) ⟨by rw [frA 58 _ (by decide)]; exact hb.1, fun j hj => by rw [frA 59 _ (by decide)]; exact hb.2.1 j hj, fun j hj => by rw [frA 60 _ (by decide)]; exact hb.2.2 j hj⟩ (by rw [frA 57 _ (by decide), hcap]) clA
            obtain ⟨υ2, i1, i2, i3⟩ := ih'
            rw [usT_app, la, show ((pre.length + 1 : Nat) : Int) = (pre.length : Int) + 1 by omega] at i1
            have mx : omax (usT pre) (c + 1) = max (usT pre) (c + 1) := n_max _ _
            rw [fe] at ef
            cases ec : ceF cap L (feB σ (sl (tb x) 12)) m (pre ++ [c]) with
            | some s =>
              rw [ec] at i1 i3 ef
              have i1 : f1_fits (d + 1) [57, (pre.length : Int) + 1, max (usT pre) (c + 1), L] (updM υ' 61 c (ceM (pre ++ [c]) c)) = some (1, υ2) := i1
              simp only [ev_op, ev_op2, ev_op1, ev_dv, ev_dv2, ev_dv1, ev_un, ev_un1, ev_lit, ev_l0, ev_l1, ev_l2, ev_l3, ev_l4, ev_l5, ev_l6, ev_l7, ev_l8, ev_l9, ev_l10, ev_l11, ev_rf, ev_gi, ev_gi1, ev_gi2, ev_gr, ev_gr1, ev_at0, ev_at, ev_al, ev_al2, ev_al1, ev_an, ev_an1, ev_vs0, ev_vs, ev_vs2, ev_vs1, ev_ca, ev_ca1, ev_cv, ev_cv1, ev_cv2, ev_if, ev_if1, ev_cmp, ev_cmp2, ev_cmp1, ev_not, ev_not1, ev_and, ev_and1, ev_or, ev_or1, ev_e, ev_e1, ev_cif, ev_cif1, ev_qlt, ev_qle, ev_qgt, ev_qge, ev_qeq, ev_qne, ev_skip, ev_brk, ev_cnt, ev_retv, ev_seq, ev_seq0, ev_seq1, ev_seq2, ev_seq3, ev_seqi, ev_sif, ev_sif1, ev_ret, ev_ret1, ev_retz, ev_retzb, ev_retzc, ev_retz1, ev_retc, ev_asg, ev_s0, ev_s1, ev_s2, ev_s3, ev_s4, ev_s5, ev_s6, ev_s7, ev_s8, ev_s9, ev_s10, ev_s11, ev_exp, ev_exp1, ev_pf, ev_pf2, ev_pf1, ev_pz, ev_pz2, ev_pz1, ev_of, ev_of2, ev_of1, ev_st, ev_as, ev_as3, ev_as2, ev_as1, ev_oa, ev_oa3, ev_oa2, ev_oa1, ev_oa0, ev_cp, ev_cp3, ev_cp2, ev_cp1, ev_sw, ev_sw1, ev_swb0, ev_swb1, ev_swb3, ev_swbi, ev_fin3, ev_fin0, ev_fini, ev_iv, ev_ic, ev_b1, ev_b2, ev_b3, ev_b4, ev_b5, ev_b6, ev_or12, ev_lp, ev_lc, ev_lb0, ev_lb1, ev_lb2, ev_lb3, ev_lbi, ev_lu, ev_ass, Int.reduceAdd, Int.reduceSub, Int.reduceMul, Int.reduceNeg, Int.reduceLT, Int.reduceLE, Int.reduceGT, Int.reduceGE, Int.reduceEq, Int.reduceNe, Int.reduceDiv, Int.reduceMod, Int.reduceToNat, Nat.reduceAdd, Nat.reduceMul, Nat.reduceSub, Nat.reduceLT, Nat.reduceEqDiff, Int.reduceNatCast', reduceIte, ite_true, ite_false, if_true, if_false, decide_eq_true_eq, decide_true, decide_false, decide_not, Bool.not_eq_true', decide_eq_false_iff_not, Bool.not_not, Bool.and_eq_true, Bool.or_eq_true, Bool.not_true, Bool.not_false, not_true_eq_false, not_false_eq_true, true_and, and_true, false_and, and_false, true_or, or_true, false_or, or_false, Bool.true_and, Bool.and_true, Bool.false_and, Bool.and_false, Bool.true_or, Bool.or_true, Bool.or_false, Bool.false_or, Bool.not_eq_false', Bool.true_eq_false, Bool.false_eq_true, eq_self, Classical.not_not, ite_not, ne_eq, Option.some.injEq, Prod.mk.injEq, L_57, L_58, L_60, L_61, p1, z, z8, rc, r8, g, bc, gc, y1, g60, eq_true y2, me, np, n1, mx, i1]
              refine RS.done (Or.inl ⟨_, υ2, s, rfl, ef, fun k i hk => by rw [i2 k i hk, frA k i hk], i3⟩)
            | none =>
              rw [ec] at i1 i3 ef
              have i1 : f1_fits (d + 1) [57, (pre.length : Int) + 1, max (usT pre) (c + 1), L] (updM υ' 61 c (ceM (pre ++ [c]) c)) = some (0, υ2) := i1
              simp only [ev_op, ev_op2, ev_op1, ev_dv, ev_dv2, ev_dv1, ev_un, ev_un1, ev_lit, ev_l0, ev_l1, ev_l2, ev_l3, ev_l4, ev_l5, ev_l6, ev_l7, ev_l8, ev_l9, ev_l10, ev_l11, ev_rf, ev_gi, ev_gi1, ev_gi2, ev_gr, ev_gr1, ev_at0, ev_at, ev_al, ev_al2, ev_al1, ev_an, ev_an1, ev_vs0, ev_vs, ev_vs2, ev_vs1, ev_ca, ev_ca1, ev_cv, ev_cv1, ev_cv2, ev_if, ev_if1, ev_cmp, ev_cmp2, ev_cmp1, ev_not, ev_not1, ev_and, ev_and1, ev_or, ev_or1, ev_e, ev_e1, ev_cif, ev_cif1, ev_qlt, ev_qle, ev_qgt, ev_qge, ev_qeq, ev_qne, ev_skip, ev_brk, ev_cnt, ev_retv, ev_seq, ev_seq0, ev_seq1, ev_seq2, ev_seq3, ev_seqi, ev_sif, ev_sif1, ev_ret, ev_ret1, ev_retz, ev_retzb, ev_retzc, ev_retz1, ev_retc, ev_asg, ev_s0, ev_s1, ev_s2, ev_s3, ev_s4, ev_s5, ev_s6, ev_s7, ev_s8, ev_s9, ev_s10, ev_s11, ev_exp, ev_exp1, ev_pf, ev_pf2, ev_pf1, ev_pz, ev_pz2, ev_pz1, ev_of, ev_of2, ev_of1, ev_st, ev_as, ev_as3, ev_as2, ev_as1, ev_oa, ev_oa3, ev_oa2, ev_oa1, ev_oa0, ev_cp, ev_cp3, ev_cp2, ev_cp1, ev_sw, ev_sw1, ev_swb0, ev_swb1, ev_swb3, ev_swbi, ev_fin3, ev_fin0, ev_fini, ev_iv, ev_ic, ev_b1, ev_b2, ev_b3, ev_b4, ev_b5, ev_b6, ev_or12, ev_lp, ev_lc, ev_lb0, ev_lb1, ev_lb2, ev_lb3, ev_lbi, ev_lu, ev_ass, Int.reduceAdd, Int.reduceSub, Int.reduceMul, Int.reduceNeg, Int.reduceLT, Int.reduceLE, Int.reduceGT, Int.reduceGE, Int.reduceEq, Int.reduceNe, Int.reduceDiv, Int.reduceMod, Int.reduceToNat, Nat.reduceAdd, Nat.reduceMul, Nat.reduceSub, Nat.reduceLT, Nat.reduceEqDiff, Int.reduceNatCast', reduceIte, ite_true, ite_false, if_true, if_false, decide_eq_true_eq, decide_true, decide_false, decide_not, Bool.not_eq_true', decide_eq_false_iff_not, Bool.not_not, Bool.and_eq_true, Bool.or_eq_true, Bool.not_true, Bool.not_false, not_true_eq_false, not_false_eq_true, true_and, and_true, false_and, and_false, true_or, or_true, false_or, or_false, Bool.true_and, Bool.and_true, Bool.false_and, Bool.and_false, Bool.true_or, Bool.or_true, Bool.or_false, Bool.false_or, Bool.not_eq_false', Bool.true_eq_false, Bool.false_eq_true, eq_self, Classical.not_not, ite_not, ne_eq, Option.some.injEq, Prod.mk.injEq, L_57, L_58, L_60, L_61, p1, z, z8, rc, r8, g, bc, gc, y1, g60, eq_true y2, me, np, n1, mx, i1]
              refine RS.go ⟨_, _, rfl, ef, fun k i hk => by rw [upd_ne _ hk, i2 k i hk, frA k i hk], fun c' c0' c8' => ?_⟩
              by_cases e : c' = c
              · rw [e, upd_at]
              · rw [upd_ni e]
                have := i3 c' c0' c8'
                rw [this]
                exact ceM_ne c0' e
          · have fe := hf0 c fun y => y2 (ok.mp y.2).2
            rw [fe] at ef
            simp only [ev_op, ev_op2, ev_op1, ev_dv, ev_dv2, ev_dv1, ev_un, ev_un1, ev_lit, ev_l0, ev_l1, ev_l2, ev_l3, ev_l4, ev_l5, ev_l6, ev_l7, ev_l8, ev_l9, ev_l10, ev_l11, ev_rf, ev_gi, ev_gi1, ev_gi2, ev_gr, ev_gr1, ev_at0, ev_at, ev_al, ev_al2, ev_al1, ev_an, ev_an1, ev_vs0, ev_vs, ev_vs2, ev_vs1, ev_ca, ev_ca1, ev_cv, ev_cv1, ev_cv2, ev_if, ev_if1, ev_cmp, ev_cmp2, ev_cmp1, ev_not, ev_not1, ev_and, ev_and1, ev_or, ev_or1, ev_e, ev_e1, ev_cif, ev_cif1, ev_qlt, ev_qle, ev_qgt, ev_qge, ev_qeq, ev_qne, ev_skip, ev_brk, ev_cnt, ev_retv, ev_seq, ev_seq0, ev_seq1, ev_seq2, ev_seq3, ev_seqi, ev_sif, ev_sif1, ev_ret, ev_ret1, ev_retz, ev_retzb, ev_retzc, ev_retz1, ev_retc, ev_asg, ev_s0, ev_s1, ev_s2, ev_s3, ev_s4, ev_s5, ev_s6, ev_s7, ev_s8, ev_s9, ev_s10, ev_s11, ev_exp, ev_exp1, ev_pf, ev_pf2, ev_pf1, ev_pz, ev_pz2, ev_pz1, ev_of, ev_of2, ev_of1, ev_st, ev_as, ev_as3, ev_as2, ev_as1, ev_oa, ev_oa3, ev_oa2, ev_oa1, ev_oa0, ev_cp, ev_cp3, ev_cp2, ev_cp1, ev_sw, ev_sw1, ev_swb0, ev_swb1, ev_swb3, ev_swbi, ev_fin3, ev_fin0, ev_fini, ev_iv, ev_ic, ev_b1, ev_b2, ev_b3, ev_b4, ev_b5, ev_b6, ev_or12, ev_lp, ev_lc, ev_lb0, ev_lb1, ev_lb2, ev_lb3, ev_lbi, ev_lu, ev_ass, Int.reduceAdd, Int.reduceSub, Int.reduceMul, Int.reduceNeg, Int.reduceLT, Int.reduceLE, Int.reduceGT, Int.reduceGE, Int.reduceEq, Int.reduceNe, Int.reduceDiv, Int.reduceMod, Int.reduceToNat, Nat.reduceAdd, Nat.reduceMul, Nat.reduceSub, Nat.reduceLT, Nat.reduceEqDiff, Int.reduceNatCast', reduceIte, ite_true, ite_false, if_true, if_false, decide_eq_true_eq, decide_true, decide_false, decide_not, Bool.not_eq_true', decide_eq_false_iff_not, Bool.not_not, Bool.and_eq_true, Bool.or_eq_true, Bool.not_true, Bool.not_false, not_true_eq_false, not_false_eq_true, true_and, and_true, false_and, and_false, true_or, or_true, false_or, or_false, Bool.true_and, Bool.and_true, Bool.false_and, Bool.and_false, Bool.true_or, Bool.or_true, Bool.or_false, Bool.false_or, Bool.not_eq_false', Bool.true_eq_false, Bool.false_eq_true, eq_self, Classical.not_not, ite_not, ne_eq, Option.some.injEq, Prod.mk.injEq, L_57, L_58, L_60, L_61, p1, z, z8, rc, r8, g, bc, gc, y1, g60, y2, n1]
            exact RS.go ⟨_, _, rfl, ef, fr, cl⟩
        · have fe := hf0 c fun y => y1 (ok.mp y.2).1
          rw [fe] at ef
          simp only [ev_op, ev_op2, ev_op1, ev_dv, ev_dv2, ev_dv1, ev_un, ev_un1, ev_lit, ev_l0, ev_l1, ev_l2, ev_l3, ev_l4, ev_l5, ev_l6, ev_l7, ev_l8, ev_l9, ev_l10, ev_l11, ev_rf, ev_gi, ev_gi1, ev_gi2, ev_gr, ev_gr1, ev_at0, ev_at, ev_al, ev_al2, ev_al1, ev_an, ev_an1, ev_vs0, ev_vs, ev_vs2, ev_vs1, ev_ca, ev_ca1, ev_cv, ev_cv1, ev_cv2, ev_if, ev_if1, ev_cmp, ev_cmp2, ev_cmp1, ev_not, ev_not1, ev_and, ev_and1, ev_or, ev_or1, ev_e, ev_e1, ev_cif, ev_cif1, ev_qlt, ev_qle, ev_qgt, ev_qge, ev_qeq, ev_qne, ev_skip, ev_brk, ev_cnt, ev_retv, ev_seq, ev_seq0, ev_seq1, ev_seq2, ev_seq3, ev_seqi, ev_sif, ev_sif1, ev_ret, ev_ret1, ev_retz, ev_retzb, ev_retzc, ev_retz1, ev_retc, ev_asg, ev_s0, ev_s1, ev_s2, ev_s3, ev_s4, ev_s5, ev_s6, ev_s7, ev_s8, ev_s9, ev_s10, ev_s11, ev_exp, ev_exp1, ev_pf, ev_pf2, ev_pf1, ev_pz, ev_pz2, ev_pz1, ev_of, ev_of2, ev_of1, ev_st, ev_as, ev_as3, ev_as2, ev_as1, ev_oa, ev_oa3, ev_oa2, ev_oa1, ev_oa0, ev_cp, ev_cp3, ev_cp2, ev_cp1, ev_sw, ev_sw1, ev_swb0, ev_swb1, ev_swb3, ev_swbi, ev_fin3, ev_fin0, ev_fini, ev_iv, ev_ic, ev_b1, ev_b2, ev_b3, ev_b4, ev_b5, ev_b6, ev_or12, ev_lp, ev_lc, ev_lb0, ev_lb1, ev_lb2, ev_lb3, ev_lbi, ev_lu, ev_ass, Int.reduceAdd, Int.reduceSub, Int.reduceMul, Int.reduceNeg, Int.reduceLT, Int.reduceLE, Int.reduceGT, Int.reduceGE, Int.reduceEq, Int.reduceNe, Int.reduceDiv, Int.reduceMod, Int.reduceToNat, Nat.reduceAdd, Nat.reduceMul, Nat.reduceSub, Nat.reduceLT, Nat.reduceEqDiff, Int.reduceNatCast', reduceIte, ite_true, ite_false, if_true, if_false, decide_eq_true_eq, decide_true, decide_false, decide_not, Bool.not_eq_true', decide_eq_false_iff_not, Bool.not_not, Bool.and_eq_true, Bool.or_eq_true, Bool.not_true, Bool.not_false, not_true_eq_false, not_false_eq_true, true_and, and_true, false_and, and_false, true_or, or_true, false_or, or_false, Bool.true_and, Bool.and_true, Bool.false_and, Bool.and_false, Bool.true_or, Bool.or_true, Bool.or_false, Bool.false_or, Bool.not_eq_false', Bool.true_eq_false, Bool.false_eq_true, eq_self, Classical.not_not, ite_not, ne_eq, Option.some.injEq, Prod.mk.injEq, L_57, L_58, L_60, L_61, p1, z, z8, rc, g, bc, gc, y1, n1]
          exact RS.go ⟨_, _, rfl, ef, fr, cl⟩
      · have no : fstI f (usT pre + 1).toNat 0 = none := by
          rw [ef, hf0 c fun y => z y.1]
          exact fstI_none _ _ fun i hi => hf0 i fun y => by omega
        simp only [ev_op, ev_op2, ev_op1, ev_dv, ev_dv2, ev_dv1, ev_un, ev_un1, ev_lit, ev_l0, ev_l1, ev_l2, ev_l3, ev_l4, ev_l5, ev_l6, ev_l7, ev_l8, ev_l9, ev_l10, ev_l11, ev_rf, ev_gi, ev_gi1, ev_gi2, ev_gr, ev_gr1, ev_at0, ev_at, ev_al, ev_al2, ev_al1, ev_an, ev_an1, ev_vs0, ev_vs, ev_vs2, ev_vs1, ev_ca, ev_ca1, ev_cv, ev_cv1, ev_cv2, ev_if, ev_if1, ev_cmp, ev_cmp2, ev_cmp1, ev_not, ev_not1, ev_and, ev_and1, ev_or, ev_or1, ev_e, ev_e1, ev_cif, ev_cif1, ev_qlt, ev_qle, ev_qgt, ev_qge, ev_qeq, ev_qne, ev_skip, ev_brk, ev_cnt, ev_retv, ev_seq, ev_seq0, ev_seq1, ev_seq2, ev_seq3, ev_seqi, ev_sif, ev_sif1, ev_ret, ev_ret1, ev_retz, ev_retzb, ev_retzc, ev_retz1, ev_retc, ev_asg, ev_s0, ev_s1, ev_s2, ev_s3, ev_s4, ev_s5, ev_s6, ev_s7, ev_s8, ev_s9, ev_s10, ev_s11, ev_exp, ev_exp1, ev_pf, ev_pf2, ev_pf1, ev_pz, ev_pz2, ev_pz1, ev_of, ev_of2, ev_of1, ev_st, ev_as, ev_as3, ev_as2, ev_as1, ev_oa, ev_oa3, ev_oa2, ev_oa1, ev_oa0, ev_cp, ev_cp3, ev_cp2, ev_cp1, ev_sw, ev_sw1, ev_swb0, ev_swb1, ev_swb3, ev_swbi, ev_fin3, ev_fin0, ev_fini, ev_iv, ev_ic, ev_b1, ev_b2, ev_b3, ev_b4, ev_b5, ev_b6, ev_or12, ev_lp, ev_lc, ev_lb0, ev_lb1, ev_lb2, ev_lb3, ev_lbi, ev_lu, ev_ass, Int.reduceAdd, Int.reduceSub, Int.reduceMul, Int.reduceNeg, Int.reduceLT, Int.reduceLE, Int.reduceGT, Int.reduceGE, Int.reduceEq, Int.reduceNe, Int.reduceDiv, Int.reduceMod, Int.reduceToNat, Nat.reduceAdd, Nat.reduceMul, Nat.reduceSub, Nat.reduceLT, Nat.reduceEqDiff, Int.reduceNatCast', reduceIte, ite_true, ite_false, if_true, if_false, decide_eq_true_eq, decide_true, decide_false, decide_not, Bool.not_eq_true', decide_eq_false_iff_not, Bool.not_not, Bool.and_eq_true, Bool.or_eq_true, Bool.not_true, Bool.not_false, not_true_eq_false, not_false_eq_true, true_and, and_true, false_and, and_false, true_or, or_true, false_or, or_false, Bool.true_and, Bool.and_true, Bool.false_and, Bool.and_false, Bool.true_or, Bool.or_true, Bool.or_false, Bool.false_or, Bool.not_eq_false', Bool.true_eq_false, Bool.false_eq_true, eq_self, Classical.not_not, ite_not, ne_eq, Option.some.injEq, Prod.mk.injEq, L_57, p1, z]
        exact RS.done (Or.inr ⟨_, υ', rfl, no, fr, cl⟩)
    · rintro E υ' ⟨x5, x6, rfl, ef, fr, cl⟩
      have p1 : ¬ usT pre + 1 ≤ usT pre := by omega
      rw [show (usT pre + 1 - (usT pre + 1)).toNat = 0 by omega] at ef
      simp only [ev_op, ev_op2, ev_op1, ev_dv, ev_dv2, ev_dv1, ev_un, ev_un1, ev_lit, ev_l0, ev_l1, ev_l2, ev_l3, ev_l4, ev_l5, ev_l6, ev_l7, ev_l8, ev_l9, ev_l10, ev_l11, ev_rf, ev_gi, ev_gi1, ev_gi2, ev_gr, ev_gr1, ev_at0, ev_at, ev_al, ev_al2, ev_al1, ev_an, ev_an1, ev_vs0, ev_vs, ev_vs2, ev_vs1, ev_ca, ev_ca1, ev_cv, ev_cv1, ev_cv2, ev_if, ev_if1, ev_cmp, ev_cmp2, ev_cmp1, ev_not, ev_not1, ev_and, ev_and1, ev_or, ev_or1, ev_e, ev_e1, ev_cif, ev_cif1, ev_qlt, ev_qle, ev_qgt, ev_qge, ev_qeq, ev_qne, ev_skip, ev_brk, ev_cnt, ev_retv, ev_seq, ev_seq0, ev_seq1, ev_seq2, ev_seq3, ev_seqi, ev_sif, ev_sif1, ev_ret, ev_ret1, ev_retz, ev_retzb, ev_retzc, ev_retz1, ev_retc, ev_asg, ev_s0, ev_s1, ev_s2, ev_s3, ev_s4, ev_s5, ev_s6, ev_s7, ev_s8, ev_s9, ev_s10, ev_s11, ev_exp, ev_exp1, ev_pf, ev_pf2, ev_pf1, ev_pz, ev_pz2, ev_pz1, ev_of, ev_of2, ev_of1, ev_st, ev_as, ev_as3, ev_as2, ev_as1, ev_oa, ev_oa3, ev_oa2, ev_oa1, ev_oa0, ev_cp, ev_cp3, ev_cp2, ev_cp1, ev_sw, ev_sw1, ev_swb0, ev_swb1, ev_swb3, ev_swbi, ev_fin3, ev_fin0, ev_fini, ev_iv, ev_ic, ev_b1, ev_b2, ev_b3, ev_b4, ev_b5, ev_b6, ev_or12, ev_lp, ev_lc, ev_lb0, ev_lb1, ev_lb2, ev_lb3, ev_lbi, ev_lu, ev_ass, Int.reduceAdd, Int.reduceSub, Int.reduceMul, Int.reduceNeg, Int.reduceLT, Int.reduceLE, Int.reduceGT, Int.reduceGE, Int.reduceEq, Int.reduceNe, Int.reduceDiv, Int.reduceMod, Int.reduceToNat, Nat.reduceAdd, Nat.reduceMul, Nat.reduceSub, Nat.reduceLT, Nat.reduceEqDiff, Int.reduceNatCast', reduceIte, ite_true, ite_false, if_true, if_false, decide_eq_true_eq, decide_true, decide_false, decide_not, Bool.not_eq_true', decide_eq_false_iff_not, Bool.not_not, Bool.and_eq_true, Bool.or_eq_true, Bool.not_true, Bool.not_false, not_true_eq_false, not_false_eq_true, true_and, and_true, false_and, and_false, true_or, or_true, false_or, or_false, Bool.true_and, Bool.and_true, Bool.false_and, Bool.and_false, Bool.true_or, Bool.or_true, Bool.or_false, Bool.false_or, Bool.not_eq_false', Bool.true_eq_false, Bool.false_eq_true, eq_self, Classical.not_not, ite_not, ne_eq, Option.some.injEq, Prod.mk.injEq, L_57, p1]
      exact RS.done (Or.inr ⟨_, υ', rfl, ef, fr, cl⟩)
    · rintro r (⟨E, υ', s, rfl, e, fr, cl⟩ | ⟨E, υ', rfl, e, fr, cl⟩)
      · simp only [ev_op, ev_op2, ev_op1, ev_dv, ev_dv2, ev_dv1, ev_un, ev_un1, ev_lit, ev_l0, ev_l1, ev_l2, ev_l3, ev_l4, ev_l5, ev_l6, ev_l7, ev_l8, ev_l9, ev_l10, ev_l11, ev_rf, ev_gi, ev_gi1, ev_gi2, ev_gr, ev_gr1, ev_at0, ev_at, ev_al, ev_al2, ev_al1, ev_an, ev_an1, ev_vs0, ev_vs, ev_vs2, ev_vs1, ev_ca, ev_ca1, ev_cv, ev_cv1, ev_cv2, ev_if, ev_if1, ev_cmp, ev_cmp2, ev_cmp1, ev_not, ev_not1, ev_and, ev_and1, ev_or, ev_or1, ev_e, ev_e1, ev_cif, ev_cif1, ev_qlt, ev_qle, ev_qgt, ev_qge, ev_qeq, ev_qne, ev_skip, ev_brk, ev_cnt, ev_retv, ev_seq, ev_seq0, ev_seq1, ev_seq2, ev_seq3, ev_seqi, ev_sif, ev_sif1, ev_ret, ev_ret1, ev_retz, ev_retzb, ev_retzc, ev_retz1, ev_retc, ev_asg, ev_s0, ev_s1, ev_s2, ev_s3, ev_s4, ev_s5, ev_s6, ev_s7, ev_s8, ev_s9, ev_s10, ev_s11, ev_exp, ev_exp1, ev_pf, ev_pf2, ev_pf1, ev_pz, ev_pz2, ev_pz1, ev_of, ev_of2, ev_of1, ev_st, ev_as, ev_as3, ev_as2, ev_as1, ev_oa, ev_oa3, ev_oa2, ev_oa1, ev_oa0, ev_cp, ev_cp3, ev_cp2, ev_cp1, ev_sw, ev_sw1, ev_swb0, ev_swb1, ev_swb3, ev_swbi, ev_fin3, ev_fin0, ev_fini, ev_iv, ev_ic, ev_b1, ev_b2, ev_b3, ev_b4, ev_b5, ev_b6, ev_or12, ev_lp, ev_lc, ev_lb0, ev_lb1, ev_lb2, ev_lb3, ev_lbi, ev_lu, ev_ass]
        rw [e]
        exact WF.mk ⟨rfl, fr, cl⟩
      · simp only [ev_op, ev_op2, ev_op1, ev_dv, ev_dv2, ev_dv1, ev_un, ev_un1, ev_lit, ev_l0, ev_l1, ev_l2, ev_l3, ev_l4, ev_l5, ev_l6, ev_l7, ev_l8, ev_l9, ev_l10, ev_l11, ev_rf, ev_gi, ev_gi1, ev_gi2, ev_gr, ev_gr1, ev_at0, ev_at, ev_al, ev_al2, ev_al1, ev_an, ev_an1, ev_vs0, ev_vs, ev_vs2, ev_vs1, ev_ca, ev_ca1, ev_cv, ev_cv1, ev_cv2, ev_if, ev_if1, ev_cmp, ev_cmp2, ev_cmp1, ev_not, ev_not1, ev_and, ev_and1, ev_or, ev_or1, ev_e, ev_e1, ev_cif, ev_cif1, ev_qlt, ev_qle, ev_qgt, ev_qge, ev_qeq, ev_qne, ev_skip, ev_brk, ev_cnt, ev_retv, ev_seq, ev_seq0, ev_seq1, ev_seq2, ev_seq3, ev_seqi, ev_sif, ev_sif1, ev_ret, ev_ret1, ev_retz, ev_retzb, ev_retzc, ev_retz1, ev_retc, ev_asg, ev_s0, ev_s1, ev_s2, ev_s3, ev_s4, ev_s5, ev_s6, ev_s7, ev_s8, ev_s9, ev_s10, ev_s11, ev_exp, ev_exp1, ev_pf, ev_pf2, ev_pf1, ev_pz, ev_pz2, ev_pz1, ev_of, ev_of2, ev_of1, ev_st, ev_as, ev_as3, ev_as2, ev_as1, ev_oa, ev_oa3, ev_oa2, ev_oa1, ev_oa0, ev_cp, ev_cp3, ev_cp2, ev_cp1, ev_sw, ev_sw1, ev_swb0, ev_swb1, ev_swb3, ev_swbi, ev_fin3, ev_fin0, ev_fini, ev_iv, ev_ic, ev_b1, ev_b2, ev_b3, ev_b4, ev_b5, ev_b6, ev_or12, ev_lp, ev_lc, ev_lb0, ev_lb1, ev_lb2, ev_lb3, ev_lbi, ev_lu, ev_ass]
        rw [e]
        exact WF.mk ⟨rfl, fr, cl⟩
