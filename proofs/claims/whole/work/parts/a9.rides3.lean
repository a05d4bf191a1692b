/-! ===== the model's ride: one order ===== -/
theorem ride_all {P : Int → Int → Prop} {arr : Int → Int → Int → Int → Option Int} {tk : Int → Int → Int} (hA : ∀ a t D c u, arr a t D c = some u → P c u) : ∀ (l : List Int) (a t D : Int) (g : List (Int × Int)), ride arr tk l a t D = some g → ∀ x ∈ g, P x.1 x.2 := by
  intro l
  induction l with
  | nil => intro a t D g e x hx; injection e with e; rw [← e] at hx; exact absurd hx List.not_mem_nil
  | cons c l ih =>
    intro a t D g e x hx
    rw [ride] at e
    cases e1 : arr a t D c with
    | none => simp only [e1] at e; exact absurd e (by simp)
    | some u =>
      simp only [e1] at e
      cases e2 : ride arr tk l c u (tk t D) with
      | none => simp only [e2] at e; exact absurd e (by simp)
      | some g' =>
        rw [e2] at e
        injection e with e
        rw [← e] at hx
        rcases List.mem_cons.mp hx with rfl | hx
        · exact hA _ _ _ _ _ e1
        · exact ih _ _ _ _ e2 x hx
theorem arrT_P {σ : cvM} {v E : Int} : ∀ a t D c u, arrT σ v E a t D c = some u → u ≤ E ∧ σ 89 (5 * c + 3) ≤ u ∧ u ≤ σ 89 (5 * c + 4) := by
  intro a t D c u e
  unfold arrT at e
  split at e
  · rename_i q
    injection e with e
    rw [← e]
    refine ⟨q.1, ?_, q.2⟩
    unfold cmT
    omega
  · cases e
theorem ride_mem {arr : Int → Int → Int → Int → Option Int} {tk : Int → Int → Int} {l : List Int} {a t D : Int} {g : List (Int × Int)} (e : ride arr tk l a t D = some g) : ∀ x ∈ g, x.1 ∈ l := by
  intro x hx
  rw [← ride_len arr tk l a t D g e]
  exact List.mem_map.mpr ⟨x, hx, rfl⟩
theorem ride_last {τ : cvM} (h : WR τ) {v E : Int} {O : List Int} (hc : ∀ c ∈ O, 0 ≤ c ∧ c < τ 88 1) (hO : 1 ≤ O.length) {a t D : Int} {g : List (Int × Int)} (e : ride (arrT τ v E) (tkT τ v) O a t D = some g) : 0 ≤ lastT g ∧ lastT g ≤ 1439 := by
  have gl : g.length = O.length := by rw [← ride_len _ _ _ _ _ _ _ e, List.length_map]
  obtain ⟨n, hn⟩ : ∃ n, g.length = n + 1 := ⟨g.length - 1, by omega⟩
  rw [lastT_at hn]
  have m : g[n] ∈ g := List.getElem_mem _
  have p := ride_all (P := fun c u => u ≤ E ∧ τ 89 (5 * c + 3) ≤ u ∧ u ≤ τ 89 (5 * c + 4)) arrT_P O a t D g e _ m
  have cc := hc _ (ride_mem e _ m)
  have gc := h.rP _ cc.1 cc.2
  omega
theorem ride_mono {τ : cvM} (h : WR τ) {v E : Int} : ∀ (O : List Int) (a t D : Int) (g : List (Int × Int)), (∀ c ∈ O, 0 ≤ c ∧ c < τ 88 1) → (0 ≤ a ∧ a < 8) → 0 ≤ t → O ≠ [] → ride (arrT τ v E) (tkT τ v) O a t D = some g → t ≤ lastT g := by
  intro O
  induction O with
  | nil => intro a t D g _ _ _ hn; exact absurd rfl hn
  | cons c O ih =>
    intro a t D g hc ha ht _ e
    have c3 := cnt_3 h
    have cc := hc c List.mem_cons_self
    rw [ride] at e
    cases e1 : arrT τ v E a t D c with
    | none => simp only [e1] at e; exact absurd e (by simp)
    | some u =>
      simp only [e1] at e
      have tu : t ≤ u := by
        unfold arrT at e1
        split at e1
        · injection e1 with e1
          have md := dlM_bd h (oand (dlS τ v t) (oxor D (-1))) (n := τ 88 4) (by have := cnt_6 h; omega)
          have cb := cmT_bd h (a := a) (c := c) (t := t + dlM τ (oand (dlS τ v t) (oxor D (-1))) (τ 88 4)) cc ha (by omega)
          omega
        · cases e1
      cases e2 : ride (arrT τ v E) (tkT τ v) O c u (tkT τ v t D) with
      | none => simp only [e2] at e; exact absurd e (by simp)
      | some g' =>
        rw [e2] at e
        injection e with e
        rw [← e]
        cases O with
        | nil =>
          injection e2 with e2
          rw [← e2]
          exact tu
        | cons c' O' =>
          have := ih c u (tkT τ v t D) g' (fun x hx => hc x (List.mem_cons_of_mem _ hx)) (by omega) (by omega) (List.cons_ne_nil _ _) e2
          have gl : g'.length = (c' :: O').length := by rw [← ride_len _ _ _ _ _ _ _ e2, List.length_map]
          cases g' with
          | nil => cases gl
          | cons y g' =>
            show t ≤ lastT ((c, u) :: y :: g')
            have e3 : lastT ((c, u) :: y :: g') = lastT (y :: g') := by
              unfold lastT
              rw [List.getLastD_cons, List.getLastD_cons, List.getLastD_cons]
            rw [e3]
            omega
/-- a bound looked at at the end, or on the way -/
theorem ride_cut {τ : cvM} (h : WR τ) {v E : Int} (hE : 0 ≤ E ∧ E ≤ 5000) : ∀ (O : List Int) (a t D : Int), (∀ c ∈ O, 0 ≤ c ∧ c < τ 88 1) → (0 ≤ a ∧ a < 8) → 0 ≤ t → ride (arrT τ v E) (tkT τ v) O a t D = (ride (arrT τ v 5000) (tkT τ v) O a t D).bind fun g => if lastT g ≤ E then some g else none := by
  intro O
  induction O with
  | nil =>
    intro a t D _ _ _
    show some [] = if lastT [] ≤ E then some [] else none
    exact (if_pos (show lastT [] ≤ E from hE.1)).symm
  | cons c O ih =>
    intro a t D hc ha ht
    have c3 := cnt_3 h
    have cc := hc c List.mem_cons_self
    have md := dlM_bd h (oand (dlS τ v t) (oxor D (-1))) (n := τ 88 4) (by have := cnt_6 h; omega)
    have cb := cmT_bd h (a := a) (c := c) (t := t + dlM τ (oand (dlS τ v t) (oxor D (-1))) (τ 88 4)) cc ha (by omega)
    have aE : ∀ E', arrT τ v E' a t D c = if cmT τ a c (t + dlM τ (oand (dlS τ v t) (oxor D (-1))) (τ 88 4)) ≤ E' ∧ cmT τ a c (t + dlM τ (oand (dlS τ v t) (oxor D (-1))) (τ 88 4)) ≤ τ 89 (5 * c + 4) then some (cmT τ a c (t + dlM τ (oand (dlS τ v t) (oxor D (-1))) (τ 88 4))) else none := fun E' => rfl
    have a1 := aE E
    have a2 := aE 5000
    clear aE
    have gc := h.rP c cc.1 cc.2
    generalize cmT τ a c (t + dlM τ (oand (dlS τ v t) (oxor D (-1))) (τ 88 4)) = u at a1 a2 cb
    by_cases q : u ≤ τ 89 (5 * c + 4)
    · rw [if_pos ⟨by omega, q⟩] at a2
      rw [ride, ride]
      simp only [a2]
      have ih' := ih c u (tkT τ v t D) (fun x hx => hc x (List.mem_cons_of_mem _ hx)) (by omega) (by omega)
      by_cases q2 : u ≤ E
      · rw [if_pos ⟨q2, q⟩] at a1
        simp only [a1]
        rw [ih']
        cases e2 : ride (arrT τ v 5000) (tkT τ v) O c u (tkT τ v t D) with
        | none => rfl
        | some g =>
          have e3 : lastT ((c, u) :: g) ≤ E ↔ lastT g ≤ E := by
            cases O with
            | nil =>
              injection e2 with e2
              rw [← e2]
              exact ⟨fun _ => hE.1, fun _ => q2⟩
            | cons c' O' =>
              have gl : g.length = (c' :: O').length := by rw [← ride_len _ _ _ _ _ _ _ e2, List.length_map]
              cases g with
              | nil => cases gl
              | cons y g' =>
                have e3 : lastT ((c, u) :: y :: g') = lastT (y :: g') := by
                  unfold lastT
                  rw [List.getLastD_cons, List.getLastD_cons, List.getLastD_cons]
                rw [e3]
          show (if lastT g ≤ E then some g else none).map ((c, u) :: ·) = if lastT ((c, u) :: g) ≤ E then some ((c, u) :: g) else none
          by_cases q3 : lastT g ≤ E
          · rw [if_pos q3, if_pos (e3.mpr q3)]
            rfl
          · rw [if_neg q3, if_neg fun y => q3 (e3.mp y)]
            rfl
      · rw [if_neg fun y => q2 y.1] at a1
        simp only [a1]
        cases e2 : ride (arrT τ v 5000) (tkT τ v) O c u (tkT τ v t D) with
        | none => rfl
        | some g =>
          show none = if lastT ((c, u) :: g) ≤ E then some ((c, u) :: g) else none
          have e5 : ride (arrT τ v 5000) (tkT τ v) (c :: O) a t D = some ((c, u) :: g) := by
            rw [ride]
            simp only [a2]
            rw [e2]
            rfl
          have m : u ≤ lastT ((c, u) :: g) := by
            cases O with
            | nil =>
              injection e2 with e2
              rw [← e2]
              exact Int.le_refl _
            | cons c' O' =>
              have m2 := ride_mono h (c' :: O') c u (tkT τ v t D) g (fun x hx => hc x (List.mem_cons_of_mem _ hx)) (by omega) (by omega) (List.cons_ne_nil _ _) e2
              have gl : g.length = (c' :: O').length := by rw [← ride_len _ _ _ _ _ _ _ e2, List.length_map]
              cases g with
              | nil => cases gl
              | cons y g' =>
                have e3 : lastT ((c, u) :: y :: g') = lastT (y :: g') := by
                  unfold lastT
                  rw [List.getLastD_cons, List.getLastD_cons, List.getLastD_cons]
                rw [e3]
                exact m2
          rw [if_neg (by omega)]
    · rw [if_neg fun y => q y.2] at a1 a2
      rw [ride, ride]
      simp only [a1, a2]
      rfl
theorem s12_rides {τ : cvM} (h : WR τ) {v : Int} (hv : 0 ≤ v ∧ v < τ 88 3) {n : Nat} (hn : 1 ≤ n ∧ n ≤ 4) (e11 : τ 87 11 = (n : Int)) {O : List Int} (hO : O.length = n) (h100 : ∀ (j : Nat) (hj : j < O.length), 0 ≤ τ 100 (j : Int) ∧ τ 100 (j : Int) < 8 ∧ τ 99 (τ 100 (j : Int)) = O[j]) (hc : ∀ c ∈ O, 0 ≤ c ∧ c < τ 88 1) (hne : ∀ (j : Nat) (hj : j < O.length), (if j = 0 then τ 94 (4 * v) else O.getD (j - 1) 0) ≠ O[j]) : ∃ w υ, f12_rides [87, v] τ = some (w, υ) ∧ (∀ k i : Int, k ≠ 101 → υ k i = τ k i) ∧ if leaT τ v ≤ τ 89 (5 * τ 94 (4 * v) + 4) then (match ride (arrT τ v (endT τ v)) (tkT τ v) O (τ 94 (4 * v)) (leaT τ v) 0 with
    | none => w = 0
    | some g => w = 1 ∧ ∀ (j : Nat) (hj : j < g.length), υ 101 (j : Int) = g[j].2) else w = 0 := by
  have c3 := cnt_3 h
  have c5 := cnt_5 h
  have gv := h.rV v hv.1 hv.2
  have gh := h.rP _ gv.1 gv.2.1
  have m0 : omul 4 v = 4 * v := n_mul (by omega)
  have m2 : oadd (4 * v) 2 = 4 * v + 2 := n_add (by omega)
  have m3 : oadd (4 * v) 3 = 4 * v + 3 := n_add (by omega)
  have r0 : 0 ≤ 4 * v ∧ 4 * v < 12 := by omega
  have r2 : 0 ≤ 4 * v + 2 ∧ 4 * v + 2 < 12 := by omega
  have r3 : 0 ≤ 4 * v + 3 ∧ 4 * v + 3 < 12 := by omega
  have f1 := s12_from (p := τ 94 (4 * v)) (by omega) τ
  have f2 := s12_till (p := τ 94 (4 * v)) (by omega) τ
  have lea : (if τ 89 (5 * τ 94 (4 * v) + 3) < τ 94 (4 * v + 2) then τ 94 (4 * v + 2) else τ 89 (5 * τ 94 (4 * v) + 3)) = leaT τ v := by
    unfold leaT
    split <;> omega
  by_cases hlv : leaT τ v ≤ τ 89 (5 * τ 94 (4 * v) + 4)
  · simp only [if_pos hlv]
    have q4 : ¬ τ 89 (5 * τ 94 (4 * v) + 4) < leaT τ v := by omega
    have lb : 0 ≤ leaT τ v ∧ leaT τ v ≤ 1439 := by unfold leaT at hlv ⊢; omega
    have eb : 0 ≤ endT τ v ∧ endT τ v ≤ 5000 := by unfold endT; omega
    rw [ride_cut h eb O _ _ _ hc (by omega) lb.1]
    suffices hs : WF (f12_rides [87, v] τ) (fun w υ => (∀ k i : Int, k ≠ 101 → υ k i = τ k i) ∧ match (ride (arrT τ v 5000) (tkT τ v) O (τ 94 (4 * v)) (leaT τ v) 0).bind (fun g => if lastT g ≤ endT τ v then some g else none) with
      | none => w = 0
      | some g => w = 1 ∧ ∀ (j : Nat) (hj : j < g.length), υ 101 (j : Int) = g[j].2) by
      obtain ⟨w, υ, e1, e2, e3⟩ := hs
      exact ⟨w, υ, e1, e2, e3⟩
    have lr := lp_rides h hv hn e11 hO h100 hc (hm := τ 94 (4 * v)) (lea := leaT τ v) (by omega) lb hne (τ 94 (4 * v + 2))
    have rest : ∀ r : cvR, (match ride (arrT τ v 5000) (tkT τ v) O (τ 94 (4 * v)) (leaT τ v) 0 with
      | none => ∃ E υ, r = (3, 0, E, υ) ∧ ∀ k i : Int, k ≠ 101 → υ k i = τ k i
      | some g => ∃ a D x7 x8 υ, r = (0, 0, [some 87, some v, some (τ 94 (4 * v + 2)), some a, some (lastT g), some D, some (n : Int), x7, x8], υ) ∧ (∀ k i : Int, k ≠ 101 → υ k i = τ k i) ∧ ∀ (j : Nat) (hj : j < g.length), υ 101 (j : Int) = g[j].2) → WF (f_fin false (s_seq (some r) (xs_retz (xe_if (xc_cmp qle (xe_op osub (xe_loc 4) (xe_loc 2)) (xe_al (xe_gr 12 6 (xe_loc 0)) (xe_op oadd (xe_op omul (xe_lit 4) (xe_loc 1)) (xe_lit 3)))) (xe_lit 1) (xe_lit 0))))) (fun w υ => (∀ k i : Int, k ≠ 101 → υ k i = τ k i) ∧ match (ride (arrT τ v 5000) (tkT τ v) O (τ 94 (4 * v)) (leaT τ v) 0).bind (fun g => if lastT g ≤ endT τ v then some g else none) with
      | none => w = 0
      | some g => w = 1 ∧ ∀ (j : Nat) (hj : j < g.length), υ 101 (j : Int) = g[j].2) := by
      intro r hr
      cases e : ride (arrT τ v 5000) (tkT τ v) O (τ 94 (4 * v)) (leaT τ v) 0 with
      | none =>
        rw [e] at hr
        obtain ⟨E, υ, rfl, f⟩ := hr
        simp only [ev_op, ev_op2, ev_op1, ev_dv, ev_dv2, ev_dv1, ev_un, ev_un1, ev_lit, ev_l0, ev_l1, ev_l2, ev_l3, ev_l4, ev_l5, ev_l6, ev_l7, ev_l8, ev_l9, ev_l10, ev_l11, ev_rf, ev_gi, ev_gi1, ev_gi2, ev_gr, ev_gr1, ev_at0, ev_at, ev_al, ev_al2, ev_al1, ev_an, ev_an1, ev_vs0, ev_vs, ev_vs2, ev_vs1, ev_ca, ev_ca1, ev_cv, ev_cv1, ev_cv2, ev_if, ev_if1, ev_cmp, ev_cmp2, ev_cmp1, ev_not, ev_not1, ev_and, ev_and1, ev_or, ev_or1, ev_e, ev_e1, ev_cif, ev_cif1, ev_qlt, ev_qle, ev_qgt, ev_qge, ev_qeq, ev_qne, ev_skip, ev_brk, ev_cnt, ev_retv, ev_seq, ev_seq0, ev_seq1, ev_seq2, ev_seq3, ev_seqi, ev_sif, ev_sif1, ev_ret, ev_ret1, ev_retz, ev_retzb, ev_retzc, ev_retz1, ev_retc, ev_asg, ev_s0, ev_s1, ev_s2, ev_s3, ev_s4, ev_s5, ev_s6, ev_s7, ev_s8, ev_s9, ev_s10, ev_s11, ev_exp, ev_exp1, ev_pf, ev_pf2, ev_pf1, ev_pz, ev_pz2, ev_pz1, ev_of, ev_of2, ev_of1, ev_st, ev_as, ev_as3, ev_as2, ev_as1, ev_oa, ev_oa3, ev_oa2, ev_oa1, ev_oa0, ev_cp, ev_cp3, ev_cp2, ev_cp1, ev_sw, ev_sw1, ev_swb0, ev_swb1, ev_swb3, ev_swbi, ev_fin3, ev_fin0, ev_fini, ev_iv, ev_ic, ev_b1, ev_b2, ev_b3, ev_b4, ev_b5, ev_b6, ev_or12, ev_lp, ev_lc, ev_lb0, ev_lb1, ev_lb2, ev_lb3, ev_lbi, ev_lu, ev_ass]
        exact WF.mk ⟨f, rfl⟩
      | some g =>
        rw [e] at hr
        obtain ⟨a, D, x7, x8, υ, rfl, f, g1⟩ := hr
        have lt := ride_last h hc (by omega) e
        have a1 : osub (lastT g) (τ 94 (4 * v + 2)) = lastT g - τ 94 (4 * v + 2) := n_sub (by omega)
        have f3 := f 94 (4 * v + 3) (by decide)
        by_cases q : lastT g ≤ endT τ v
        · have q2 : lastT g - τ 94 (4 * v + 2) ≤ τ 94 (4 * v + 3) := by unfold endT at q; omega
          simp only [ev_op, ev_op2, ev_op1, ev_dv, ev_dv2, ev_dv1, ev_un, ev_un1, ev_lit, ev_l0, ev_l1, ev_l2, ev_l3, ev_l4, ev_l5, ev_l6, ev_l7, ev_l8, ev_l9, ev_l10, ev_l11, ev_rf, ev_gi, ev_gi1, ev_gi2, ev_gr, ev_gr1, ev_at0, ev_at, ev_al, ev_al2, ev_al1, ev_an, ev_an1, ev_vs0, ev_vs, ev_vs2, ev_vs1, ev_ca, ev_ca1, ev_cv, ev_cv1, ev_cv2, ev_if, ev_if1, ev_cmp, ev_cmp2, ev_cmp1, ev_not, ev_not1, ev_and, ev_and1, ev_or, ev_or1, ev_e, ev_e1, ev_cif, ev_cif1, ev_qlt, ev_qle, ev_qgt, ev_qge, ev_qeq, ev_qne, ev_skip, ev_brk, ev_cnt, ev_retv, ev_seq, ev_seq0, ev_seq1, ev_seq2, ev_seq3, ev_seqi, ev_sif, ev_sif1, ev_ret, ev_ret1, ev_retz, ev_retzb, ev_retzc, ev_retz1, ev_retc, ev_asg, ev_s0, ev_s1, ev_s2, ev_s3, ev_s4, ev_s5, ev_s6, ev_s7, ev_s8, ev_s9, ev_s10, ev_s11, ev_exp, ev_exp1, ev_pf, ev_pf2, ev_pf1, ev_pz, ev_pz2, ev_pz1, ev_of, ev_of2, ev_of1, ev_st, ev_as, ev_as3, ev_as2, ev_as1, ev_oa, ev_oa3, ev_oa2, ev_oa1, ev_oa0, ev_cp, ev_cp3, ev_cp2, ev_cp1, ev_sw, ev_sw1, ev_swb0, ev_swb1, ev_swb3, ev_swbi, ev_fin3, ev_fin0, ev_fini, ev_iv, ev_ic, ev_b1, ev_b2, ev_b3, ev_b4, ev_b5, ev_b6, ev_or12, ev_lp, ev_lc, ev_lb0, ev_lb1, ev_lb2, ev_lb3, ev_lbi, ev_lu, ev_ass, Int.reduceAdd, Int.reduceSub, Int.reduceMul, Int.reduceNeg, Int.reduceLT, Int.reduceLE, Int.reduceGT, Int.reduceGE, Int.reduceEq, Int.reduceNe, Int.reduceDiv, Int.reduceMod, Int.reduceToNat, Nat.reduceAdd, Nat.reduceMul, Nat.reduceSub, Nat.reduceLT, Nat.reduceEqDiff, Int.reduceNatCast', reduceIte, ite_true, ite_false, if_true, if_false, decide_eq_true_eq, decide_true, decide_false, decide_not, Bool.not_eq_true', decide_eq_false_iff_not, Bool.not_not, Bool.and_eq_true, Bool.or_eq_true, Bool.not_true, Bool.not_false, not_true_eq_false, not_false_eq_true, true_and, and_true, false_and, and_false, true_or, or_true, false_or, or_false, Bool.true_and, Bool.and_true, Bool.false_and, Bool.and_false, Bool.true_or, Bool.or_true, Bool.or_false, Bool.false_or, Bool.not_eq_false', Bool.true_eq_false, Bool.false_eq_true, eq_self, Classical.not_not, ite_not, ne_eq, Option.some.injEq, Prod.mk.injEq, L_87, L_94, m0, m3, r3, a1, f3, q2]
          refine WF.mk ⟨f, ?_⟩
          show match (if lastT g ≤ endT τ v then some g else none) with
            | none => (1 : Int) = 0
            | some g => (1 : Int) = 1 ∧ ∀ (j : Nat) (hj : j < g.length), υ 101 (j : Int) = g[j].2
          rw [if_pos q]
          exact ⟨rfl, g1⟩
        · have q2 : ¬ lastT g - τ 94 (4 * v + 2) ≤ τ 94 (4 * v + 3) := by unfold endT at q; omega
          simp only [ev_op, ev_op2, ev_op1, ev_dv, ev_dv2, ev_dv1, ev_un, ev_un1, ev_lit, ev_l0, ev_l1, ev_l2, ev_l3, ev_l4, ev_l5, ev_l6, ev_l7, ev_l8, ev_l9, ev_l10, ev_l11, ev_rf, ev_gi, ev_gi1, ev_gi2, ev_gr, ev_gr1, ev_at0, ev_at, ev_al, ev_al2, ev_al1, ev_an, ev_an1, ev_vs0, ev_vs, ev_vs2, ev_vs1, ev_ca, ev_ca1, ev_cv, ev_cv1, ev_cv2, ev_if, ev_if1, ev_cmp, ev_cmp2, ev_cmp1, ev_not, ev_not1, ev_and, ev_and1, ev_or, ev_or1, ev_e, ev_e1, ev_cif, ev_cif1, ev_qlt, ev_qle, ev_qgt, ev_qge, ev_qeq, ev_qne, ev_skip, ev_brk, ev_cnt, ev_retv, ev_seq, ev_seq0, ev_seq1, ev_seq2, ev_seq3, ev_seqi, ev_sif, ev_sif1, ev_ret, ev_ret1, ev_retz, ev_retzb, ev_retzc, ev_retz1, ev_retc, ev_asg, ev_s0, ev_s1, ev_s2, ev_s3, ev_s4, ev_s5, ev_s6, ev_s7, ev_s8, ev_s9, ev_s10, ev_s11, ev_exp, ev_exp1, ev_pf, ev_pf2, ev_pf1, ev_pz, ev_pz2, ev_pz1, ev_of, ev_of2, ev_of1, ev_st, ev_as, ev_as3, ev_as2, ev_as1, ev_oa, ev_oa3, ev_oa2, ev_oa1, ev_oa0, ev_cp, ev_cp3, ev_cp2, ev_cp1, ev_sw, ev_sw1, ev_swb0, ev_swb1, ev_swb3, ev_swbi, ev_fin3, ev_fin0, ev_fini, ev_iv, ev_ic, ev_b1, ev_b2, ev_b3, ev_b4, ev_b5, ev_b6, ev_or12, ev_lp, ev_lc, ev_lb0, ev_lb1, ev_lb2, ev_lb3, ev_lbi, ev_lu, ev_ass, Int.reduceAdd, Int.reduceSub, Int.reduceMul, Int.reduceNeg, Int.reduceLT, Int.reduceLE, Int.reduceGT, Int.reduceGE, Int.reduceEq, Int.reduceNe, Int.reduceDiv, Int.reduceMod, Int.reduceToNat, Nat.reduceAdd, Nat.reduceMul, Nat.reduceSub, Nat.reduceLT, Nat.reduceEqDiff, Int.reduceNatCast', reduceIte, ite_true, ite_false, if_true, if_false, decide_eq_true_eq, decide_true, decide_false, decide_not, Bool.not_eq_true', decide_eq_false_iff_not, Bool.not_not, Bool.and_eq_true, Bool.or_eq_true, Bool.not_true, Bool.not_false, not_true_eq_false, not_false_eq_true, true_and, and_true, false_and, and_false, true_or, or_true, false_or, or_false, Bool.true_and, Bool.and_true, Bool.false_and, Bool.and_false, Bool.true_or, Bool.or_true, Bool.or_false, Bool.false_or, Bool.not_eq_false', Bool.true_eq_false, Bool.false_eq_true, eq_self, Classical.not_not, ite_not, ne_eq, Option.some.injEq, Prod.mk.injEq, L_87, L_94, m0, m3, r3, a1, f3, q2]
          refine WF.mk ⟨f, ?_⟩
          show match (if lastT g ≤ endT τ v then some g else none) with
            | none => (0 : Int) = 0
            | some g => (0 : Int) = 1 ∧ ∀ (j : Nat) (hj : j < g.length), υ 101 (j : Int) = g[j].2
          rw [if_neg q]
    by_cases qq : τ 89 (5 * τ 94 (4 * v) + 3) < τ 94 (4 * v + 2)
    · rw [if_pos qq] at lea
      rw [← lea] at q4 lr rest ⊢
      simp only [u12_rides, b12_rides, ev_op, ev_op2, ev_op1, ev_dv, ev_dv2, ev_dv1, ev_un, ev_un1, ev_lit, ev_l0, ev_l1, ev_l2, ev_l3, ev_l4, ev_l5, ev_l6, ev_l7, ev_l8, ev_l9, ev_l10, ev_l11, ev_rf, ev_gi, ev_gi1, ev_gi2, ev_gr, ev_gr1, ev_at0, ev_at, ev_al, ev_al2, ev_al1, ev_an, ev_an1, ev_vs0, ev_vs, ev_vs2, ev_vs1, ev_ca, ev_ca1, ev_cv, ev_cv1, ev_cv2, ev_if, ev_if1, ev_cmp, ev_cmp2, ev_cmp1, ev_not, ev_not1, ev_and, ev_and1, ev_or, ev_or1, ev_e, ev_e1, ev_cif, ev_cif1, ev_qlt, ev_qle, ev_qgt, ev_qge, ev_qeq, ev_qne, ev_skip, ev_brk, ev_cnt, ev_retv, ev_seq, ev_seq0, ev_seq1, ev_seq2, ev_seq3, ev_seqi, ev_sif, ev_sif1, ev_ret, ev_ret1, ev_retz, ev_retzb, ev_retzc, ev_retz1, ev_retc, ev_asg, ev_s0, ev_s1, ev_s2, ev_s3, ev_s4, ev_s5, ev_s6, ev_s7, ev_s8, ev_s9, ev_s10, ev_s11, ev_exp, ev_exp1, ev_pf, ev_pf2, ev_pf1, ev_pz, ev_pz2, ev_pz1, ev_of, ev_of2, ev_of1, ev_st, ev_as, ev_as3, ev_as2, ev_as1, ev_oa, ev_oa3, ev_oa2, ev_oa1, ev_oa0, ev_cp, ev_cp3, ev_cp2, ev_cp1, ev_sw, ev_sw1, ev_swb0, ev_swb1, ev_swb3, ev_swbi, ev_fin3, ev_fin0, ev_fini, ev_iv, ev_ic, ev_b1, ev_b2, ev_b3, ev_b4, ev_b5, ev_b6, ev_or12, ev_lp, ev_lc, ev_lb0, ev_lb1, ev_lb2, ev_lb3, ev_lbi, ev_lu, ev_ass, Int.reduceAdd, Int.reduceSub, Int.reduceMul, Int.reduceNeg, Int.reduceLT, Int.reduceLE, Int.reduceGT, Int.reduceGE, Int.reduceEq, Int.reduceNe, Int.reduceDiv, Int.reduceMod, Int.reduceToNat, Nat.reduceAdd, Nat.reduceMul, Nat.reduceSub, Nat.reduceLT, Nat.reduceEqDiff, Int.reduceNatCast', reduceIte, ite_true, ite_false, if_true, if_false, decide_eq_true_eq, decide_true, decide_false, decide_not, Bool.not_eq_true', decide_eq_false_iff_not, Bool.not_not, Bool.and_eq_true, Bool.or_eq_true, Bool.not_true, Bool.not_false, not_true_eq_false, not_false_eq_true, true_and, and_true, false_and, and_false, true_or, or_true, false_or, or_false, Bool.true_and, Bool.and_true, Bool.false_and, Bool.and_false, Bool.true_or, Bool.or_true, Bool.or_false, Bool.false_or, Bool.not_eq_false', Bool.true_eq_false, Bool.false_eq_true, eq_self, Classical.not_not, ite_not, ne_eq, Option.some.injEq, Prod.mk.injEq, L_87, L_94, m0, m2, r0, r2, f1, f2, qq, q4]
      exact wf_lp _ lr rest
    · rw [if_neg qq] at lea
      rw [← lea] at q4 lr rest ⊢
      simp only [u12_rides, b12_rides, ev_op, ev_op2, ev_op1, ev_dv, ev_dv2, ev_dv1, ev_un, ev_un1, ev_lit, ev_l0, ev_l1, ev_l2, ev_l3, ev_l4, ev_l5, ev_l6, ev_l7, ev_l8, ev_l9, ev_l10, ev_l11, ev_rf, ev_gi, ev_gi1, ev_gi2, ev_gr, ev_gr1, ev_at0, ev_at, ev_al, ev_al2, ev_al1, ev_an, ev_an1, ev_vs0, ev_vs, ev_vs2, ev_vs1, ev_ca, ev_ca1, ev_cv, ev_cv1, ev_cv2, ev_if, ev_if1, ev_cmp, ev_cmp2, ev_cmp1, ev_not, ev_not1, ev_and, ev_and1, ev_or, ev_or1, ev_e, ev_e1, ev_cif, ev_cif1, ev_qlt, ev_qle, ev_qgt, ev_qge, ev_qeq, ev_qne, ev_skip, ev_brk, ev_cnt, ev_retv, ev_seq, ev_seq0, ev_seq1, ev_seq2, ev_seq3, ev_seqi, ev_sif, ev_sif1, ev_ret, ev_ret1, ev_retz, ev_retzb, ev_retzc, ev_retz1, ev_retc, ev_asg, ev_s0, ev_s1, ev_s2, ev_s3, ev_s4, ev_s5, ev_s6, ev_s7, ev_s8, ev_s9, ev_s10, ev_s11, ev_exp, ev_exp1, ev_pf, ev_pf2, ev_pf1, ev_pz, ev_pz2, ev_pz1, ev_of, ev_of2, ev_of1, ev_st, ev_as, ev_as3, ev_as2, ev_as1, ev_oa, ev_oa3, ev_oa2, ev_oa1, ev_oa0, ev_cp, ev_cp3, ev_cp2, ev_cp1, ev_sw, ev_sw1, ev_swb0, ev_swb1, ev_swb3, ev_swbi, ev_fin3, ev_fin0, ev_fini, ev_iv, ev_ic, ev_b1, ev_b2, ev_b3, ev_b4, ev_b5, ev_b6, ev_or12, ev_lp, ev_lc, ev_lb0, ev_lb1, ev_lb2, ev_lb3, ev_lbi, ev_lu, ev_ass, Int.reduceAdd, Int.reduceSub, Int.reduceMul, Int.reduceNeg, Int.reduceLT, Int.reduceLE, Int.reduceGT, Int.reduceGE, Int.reduceEq, Int.reduceNe, Int.reduceDiv, Int.reduceMod, Int.reduceToNat, Nat.reduceAdd, Nat.reduceMul, Nat.reduceSub, Nat.reduceLT, Nat.reduceEqDiff, Int.reduceNatCast', reduceIte, ite_true, ite_false, if_true, if_false, decide_eq_true_eq, decide_true, decide_false, decide_not, Bool.not_eq_true', decide_eq_false_iff_not, Bool.not_not, Bool.and_eq_true, Bool.or_eq_true, Bool.not_true, Bool.not_false, not_true_eq_false, not_false_eq_true, true_and, and_true, false_and, and_false, true_or, or_true, false_or, or_false, Bool.true_and, Bool.and_true, Bool.false_and, Bool.and_false, Bool.true_or, Bool.or_true, Bool.or_false, Bool.false_or, Bool.not_eq_false', Bool.true_eq_false, Bool.false_eq_true, eq_self, Classical.not_not, ite_not, ne_eq, Option.some.injEq, Prod.mk.injEq, L_87, L_94, m0, m2, r0, r2, f1, f2, qq, q4]
      exact wf_lp _ lr rest
  · simp only [if_neg hlv]
    have q4 : τ 89 (5 * τ 94 (4 * v) + 4) < leaT τ v := by omega
    refine ⟨0, τ, ?_, fun _ _ _ => rfl, rfl⟩
    by_cases qq : τ 89 (5 * τ 94 (4 * v) + 3) < τ 94 (4 * v + 2)
    · rw [if_pos qq] at lea
      rw [← lea] at q4
      simp only [u12_rides, b12_rides, ev_op, ev_op2, ev_op1, ev_dv, ev_dv2, ev_dv1, ev_un, ev_un1, ev_lit, ev_l0, ev_l1, ev_l2, ev_l3, ev_l4, ev_l5, ev_l6, ev_l7, ev_l8, ev_l9, ev_l10, ev_l11, ev_rf, ev_gi, ev_gi1, ev_gi2, ev_gr, ev_gr1, ev_at0, ev_at, ev_al, ev_al2, ev_al1, ev_an, ev_an1, ev_vs0, ev_vs, ev_vs2, ev_vs1, ev_ca, ev_ca1, ev_cv, ev_cv1, ev_cv2, ev_if, ev_if1, ev_cmp, ev_cmp2, ev_cmp1, ev_not, ev_not1, ev_and, ev_and1, ev_or, ev_or1, ev_e, ev_e1, ev_cif, ev_cif1, ev_qlt, ev_qle, ev_qgt, ev_qge, ev_qeq, ev_qne, ev_skip, ev_brk, ev_cnt, ev_retv, ev_seq, ev_seq0, ev_seq1, ev_seq2, ev_seq3, ev_seqi, ev_sif, ev_sif1, ev_ret, ev_ret1, ev_retz, ev_retzb, ev_retzc, ev_retz1, ev_retc, ev_asg, ev_s0, ev_s1, ev_s2, ev_s3, ev_s4, ev_s5, ev_s6, ev_s7, ev_s8, ev_s9, ev_s10, ev_s11, ev_exp, ev_exp1, ev_pf, ev_pf2, ev_pf1, ev_pz, ev_pz2, ev_pz1, ev_of, ev_of2, ev_of1, ev_st, ev_as, ev_as3, ev_as2, ev_as1, ev_oa, ev_oa3, ev_oa2, ev_oa1, ev_oa0, ev_cp, ev_cp3, ev_cp2, ev_cp1, ev_sw, ev_sw1, ev_swb0, ev_swb1, ev_swb3, ev_swbi, ev_fin3, ev_fin0, ev_fini, ev_iv, ev_ic, ev_b1, ev_b2, ev_b3, ev_b4, ev_b5, ev_b6, ev_or12, ev_lp, ev_lc, ev_lb0, ev_lb1, ev_lb2, ev_lb3, ev_lbi, ev_lu, ev_ass, Int.reduceAdd, Int.reduceSub, Int.reduceMul, Int.reduceNeg, Int.reduceLT, Int.reduceLE, Int.reduceGT, Int.reduceGE, Int.reduceEq, Int.reduceNe, Int.reduceDiv, Int.reduceMod, Int.reduceToNat, Nat.reduceAdd, Nat.reduceMul, Nat.reduceSub, Nat.reduceLT, Nat.reduceEqDiff, Int.reduceNatCast', reduceIte, ite_true, ite_false, if_true, if_false, decide_eq_true_eq, decide_true, decide_false, decide_not, Bool.not_eq_true', decide_eq_false_iff_not, Bool.not_not, Bool.and_eq_true, Bool.or_eq_true, Bool.not_true, Bool.not_false, not_true_eq_false, not_false_eq_true, true_and, and_true, false_and, and_false, true_or, or_true, false_or, or_false, Bool.true_and, Bool.and_true, Bool.false_and, Bool.and_false, Bool.true_or, Bool.or_true, Bool.or_false, Bool.false_or, Bool.not_eq_false', Bool.true_eq_false, Bool.false_eq_true, eq_self, Classical.not_not, ite_not, ne_eq, Option.some.injEq, Prod.mk.injEq, L_87, L_94, m0, m2, r0, r2, f1, f2, qq, q4]
    · rw [if_neg qq] at lea
      rw [← lea] at q4
      simp only [u12_rides, b12_rides, ev_op, ev_op2, ev_op1, ev_dv, ev_dv2, ev_dv1, ev_un, ev_un1, ev_lit, ev_l0, ev_l1, ev_l2, ev_l3, ev_l4, ev_l5, ev_l6, ev_l7, ev_l8, ev_l9, ev_l10, ev_l11, ev_rf, ev_gi, ev_gi1, ev_gi2, ev_gr, ev_gr1, ev_at0, ev_at, ev_al, ev_al2, ev_al1, ev_an, ev_an1, ev_vs0, ev_vs, ev_vs2, ev_vs1, ev_ca, ev_ca1, ev_cv, ev_cv1, ev_cv2, ev_if, ev_if1, ev_cmp, ev_cmp2, ev_cmp1, ev_not, ev_not1, ev_and, ev_and1, ev_or, ev_or1, ev_e, ev_e1, ev_cif, ev_cif1, ev_qlt, ev_qle, ev_qgt, ev_qge, ev_qeq, ev_qne, ev_skip, ev_brk, ev_cnt, ev_retv, ev_seq, ev_seq0, ev_seq1, ev_seq2, ev_seq3, ev_seqi, ev_sif, ev_sif1, ev_ret, ev_ret1, ev_retz, ev_retzb, ev_retzc, ev_retz1, ev_retc, ev_asg, ev_s0, ev_s1, ev_s2, ev_s3, ev_s4, ev_s5, ev_s6, ev_s7, ev_s8, ev_s9, ev_s10, ev_s11, ev_exp, ev_exp1, ev_pf, ev_pf2, ev_pf1, ev_pz, ev_pz2, ev_pz1, ev_of, ev_of2, ev_of1, ev_st, ev_as, ev_as3, ev_as2, ev_as1, ev_oa, ev_oa3, ev_oa2, ev_oa1, ev_oa0, ev_cp, ev_cp3, ev_cp2, ev_cp1, ev_sw, ev_sw1, ev_swb0, ev_swb1, ev_swb3, ev_swbi, ev_fin3, ev_fin0, ev_fini, ev_iv, ev_ic, ev_b1, ev_b2, ev_b3, ev_b4, ev_b5, ev_b6, ev_or12, ev_lp, ev_lc, ev_lb0, ev_lb1, ev_lb2, ev_lb3, ev_lbi, ev_lu, ev_ass, Int.reduceAdd, Int.reduceSub, Int.reduceMul, Int.reduceNeg, Int.reduceLT, Int.reduceLE, Int.reduceGT, Int.reduceGE, Int.reduceEq, Int.reduceNe, Int.reduceDiv, Int.reduceMod, Int.reduceToNat, Nat.reduceAdd, Nat.reduceMul, Nat.reduceSub, Nat.reduceLT, Nat.reduceEqDiff, Int.reduceNatCast', reduceIte, ite_true, ite_false, if_true, if_false, decide_eq_true_eq, decide_true, decide_false, decide_not, Bool.not_eq_true', decide_eq_false_iff_not, Bool.not_not, Bool.and_eq_true, Bool.or_eq_true, Bool.not_true, Bool.not_false, not_true_eq_false, not_false_eq_true, true_and, and_true, false_and, and_false, true_or, or_true, false_or, or_false, Bool.true_and, Bool.and_true, Bool.false_and, Bool.and_false, Bool.true_or, Bool.or_true, Bool.or_false, Bool.false_or, Bool.not_eq_false', Bool.true_eq_false, Bool.false_eq_true, eq_self, Classical.not_not, ite_not, ne_eq, Option.some.injEq, Prod.mk.injEq, L_87, L_94, m0, m2, r0, r2, f1, f2, qq, q4]
