/-! ===== the model's search over all orders ===== -/
theorem sl_lt (P : Int → Bool) (n : Nat) : (sl P (n : Int)).Pairwise (· < ·) := by
  induction n with
  | zero => exact List.Pairwise.nil
  | succ n ih =>
    have s := sl_s P (n := (n : Int)) (by omega)
    rw [show ((n + 1 : Nat) : Int) = (n : Int) + 1 by omega, s, List.pairwise_append]
    refine ⟨ih, ?_, fun a ha b hb => ?_⟩
    · split
      · exact List.pairwise_singleton _ _
      · exact List.Pairwise.nil
    · have := (sl_mem.mp ha).2.1
      split at hb
      · rw [List.mem_singleton] at hb
        omega
      · cases hb
theorem sl_more (P : Int → Bool) {n m : Int} (hn : 0 ≤ n) (h : n ≤ m) (hp : ∀ i : Int, n ≤ i → i < m → P i = false) : sl P m = sl P n := by
  obtain ⟨k, rfl⟩ : ∃ k : Nat, m = n + (k : Int) := ⟨(m - n).toNat, by omega⟩
  clear h
  induction k with
  | zero => rw [show n + ((0 : Nat) : Int) = n by omega]
  | succ k ih =>
    rw [show n + ((k + 1 : Nat) : Int) = n + (k : Int) + 1 by omega, sl_s _ (by omega), hp _ (by omega) (by omega), if_neg (by decide), List.append_nil]
    exact ih fun i i0 i1 => hp i i0 (by omega)
theorem coP_lt {σ : cvM} (h : WR σ) {x c : Int} (hc : coP σ x (σ 88 2) c = true) : 0 ≤ c ∧ c < σ 88 1 ∧ σ 89 (5 * c) = 1 := by
  obtain ⟨y, y0, y1, y2⟩ := anyI_t.mp hc
  have y2 := Bool.and_eq_true_iff.mp y2
  have := of_decide_eq_true y2.2
  have g := h.rQ y y0 y1
  subst this
  omega
def coL (σ : cvM) (x : Int) : List Int := sl (coP σ x (σ 88 2)) (σ 88 1)
theorem coL_8 {σ : cvM} (h : WR σ) (x : Int) : sl (coP σ x (σ 88 2)) 8 = coL σ x := by
  have c3 := cnt_3 h
  refine sl_more _ c3.2.1 (by omega) fun i i0 i1 => ?_
  cases e : coP σ x (σ 88 2) i
  · rfl
  · have := coP_lt h e
    omega
theorem coL_R {σ : cvM} (h : WR σ) (x : Int) : sl (tb (coS σ x (σ 88 2))) 8 = coL σ x := by
  rw [← coL_8 h]
  refine sl_ext fun i i0 i1 => ?_
  unfold coS
  rw [tb_bI _ _ i0, decide_eq_true i1, Bool.true_and]
theorem coL_n {σ : cvM} (h : WR σ) (x : Int) : pcI (coS σ x (σ 88 2)) = ((coL σ x).length : Int) := by
  rw [← coL_8 h]
  exact pcI_bI _ (by decide)
theorem coL_mem {σ : cvM} {x c : Int} (hc : c ∈ coL σ x) : coP σ x (σ 88 2) c = true := (sl_mem.mp hc).2.2
theorem coL_lt {σ : cvM} (h : WR σ) (x : Int) : (coL σ x).Pairwise (· < ·) := by
  have c3 := cnt_3 h
  have := sl_lt (coP σ x (σ 88 2)) (σ 88 1).toNat
  rw [Int.toNat_of_nonneg c3.2.1] at this
  exact this
theorem lateL_nn (σ : cvM) (l : List Int) (c u : Int) : 0 ≤ lateL σ l c u := by
  unfold lateL
  have key : ∀ (l : List Int) (a : Int), 0 ≤ a → 0 ≤ l.foldl (fun a q => a + lateP σ c u q) a := by
    intro l
    induction l with
    | nil => intro a ha; exact ha
    | cons q l ih =>
      intro a ha
      rw [List.foldl_cons]
      refine ih _ ?_
      have : 0 ≤ lateP σ c u q := by
        unfold lateP
        split <;> omega
      omega
  exact key l 0 (Int.le_refl 0)
/-- one order: what is kept behind it -/
def stR (σ : cvM) (v x : Int) (b : Option Cd) (O : List Int) : Option Cd := if leaT σ v ≤ σ 89 (5 * σ 94 (4 * v) + 4) then (match ride (arrT σ v (endT σ v)) (tkT σ v) (O.map fun i => (coL σ x).getD i.toNat 0) (σ 94 (4 * v)) (leaT σ v) 0 with
  | none => b
  | some g => better b (g, lates (lateL σ (sl (tb x) (σ 88 2))) g)) else b
theorem bestT_st {σ : cvM} (h : WR σ) {v x : Int} (hn : 1 ≤ (coL σ x).length ∧ (coL σ x).length ≤ 4) : bestT σ v x = (PLx (coL σ x).length).foldl (stR σ v x) none := by
  have e1 := coL_n h x
  have e2 := coL_R h x
  have cl := bI_lt (coP σ x (σ 88 2)) 8
  have cl : 0 ≤ coS σ x (σ 88 2) := cl.1
  unfold bestT
  rw [e1, Int.toNat_natCast]
  by_cases q : leaT σ v ≤ σ 89 (5 * σ 94 (4 * v) + 4)
  · rw [if_pos ⟨by omega, q⟩, dfs_alls _ _ _ (lateL_nn σ _), alls_perms _ _ _ _ _ _ _ _ _ _ cl, e2]
    have e3 : coL σ x = ((List.range (coL σ x).length).map fun i : Nat => (i : Int)).map fun i => (coL σ x).getD i.toNat 0 := by
      refine List.ext_getElem (by rw [List.length_map, List.length_map, List.length_range]) fun i h1 h2 => ?_
      rw [List.getElem_map, List.getElem_map, List.getElem_range, Int.toNat_natCast, List.getD_eq_getElem?_getD, List.getElem?_eq_getElem h1]
      rfl
    have e4 : perms (coL σ x).length (coL σ x) = (PLx (coL σ x).length).map (List.map fun i => (coL σ x).getD i.toNat 0) := by
      rw [PLx_p _ hn, ← perms_map, ← e3]
    rw [e4, List.filterMap_map, List.foldl_filterMap]
    refine congrArg (fun f => List.foldl f none (PLx (coL σ x).length)) ?_
    funext b O
    unfold stR
    rw [if_pos q]
    simp only [Function.comp_apply]
    cases ride (arrT σ v (endT σ v)) (tkT σ v) (O.map fun i => (coL σ x).getD i.toNat 0) (σ 94 (4 * v)) (leaT σ v) 0 with
    | none => rfl
    | some g =>
      show better b ([] ++ g, 0 + lates (lateL σ (sl (tb x) (σ 88 2))) g) = better b (g, lates (lateL σ (sl (tb x) (σ 88 2))) g)
      rw [List.nil_append, Int.zero_add]
  · rw [if_neg fun y => q y.2]
    generalize PLx (coL σ x).length = l
    have key : ∀ (l : List (List Int)), l.foldl (stR σ v x) none = none := by
      intro l
      induction l with
      | nil => rfl
      | cons O l ih =>
        rw [List.foldl_cons]
        have : stR σ v x none O = none := by
          unfold stR
          rw [if_neg q]
        rw [this, ih]
    exact (key l).symm
/-- what the model's search may change -/
def frR (σ τ : cvM) : Prop := ∀ k i : Int, ¬ ((k = 87 ∧ (i = 11 ∨ i = 17)) ∨ (99 ≤ k ∧ k ≤ 103)) → τ k i = σ k i
theorem frR.WR {σ τ : cvM} (h : frR σ τ) (g : WR σ) : WR τ := g.congr2 fun k i hr => h k i (by omega)
theorem frR.k {σ τ : cvM} (h : frR σ τ) (k : Int) (hk : ¬ (k = 87 ∨ (99 ≤ k ∧ k ≤ 103))) : τ k = σ k := funext fun i => h k i (by omega)
theorem frR.tr {σ τ υ : cvM} (h : frR σ τ) (g : frR τ υ) : frR σ υ := fun k i p => (g k i p).trans (h k i p)
theorem frR.E {σ τ : cvM} (h : frR σ τ) : EqP σ τ := fun k i hk => h k i (by unfold pub at hk; omega)
theorem bestQ.congr {n : Nat} {b : Option Cd} {τ υ : cvM} (h : bestQ n b τ) (e1 : υ 87 17 = τ 87 17) (e2 : ∀ i, υ 99 i = τ 99 i) (e3 : ∀ i, υ 102 i = τ 102 i) (e4 : ∀ i, υ 103 i = τ 103 i) : bestQ n b υ := by
  cases b with
  | none =>
    have h : τ 87 17 = -1 := h
    show υ 87 17 = -1
    rw [e1, h]
  | some d =>
    obtain ⟨h1, h2, h3, h4⟩ := h
    refine ⟨h1, by rw [e1]; exact h2, h3, fun j hj => ?_⟩
    rw [e3, e2, e4]
    exact h4 j hj
/-- the state between two orders -/
def midR (σ : cvM) (x : Int) (n : Nat) (b : Option Cd) (υ : cvM) : Prop := frR σ υ ∧ υ 87 11 = (n : Int) ∧ (∀ j : Nat, j < n → υ 99 (j : Int) = (coL σ x).getD j 0) ∧ bestQ n b υ
theorem s12_try {σ : cvM} (h : WR σ) {v x : Int} (hv : 0 ≤ v ∧ v < σ 88 3) (hx : 0 ≤ x ∧ x < 4096) {n : Nat} (hn : 1 ≤ n ∧ n ≤ 4) (hL : (coL σ x).length = n) {b : Option Cd} {υ : cvM} (hm : midR σ x n b υ) {O : List Int} (hO : O ∈ PLx n) (h100 : ∀ j : Nat, j < n → υ 100 (j : Int) = O.getD j 0) : ∃ w υ1, f12_rides [87, v] υ = some (w, υ1) ∧ ((w = 0 ∧ midR σ x n (stR σ v x b O) υ1) ∨ (w = 1 ∧ ∃ L υ2, f12_lateOf [87, x, 100, 101] υ1 = some (L, υ1) ∧ f12_note [87, L] υ1 = some (0, υ2) ∧ midR σ x n (stR σ v x b O) υ2 ∧ ∀ i, υ2 100 i = υ1 100 i)) ∧ ∀ i, υ1 100 i = υ 100 i := by
  obtain ⟨fr, e11, e99, hb⟩ := hm
  have w := fr.WR h
  have c3 := cnt_3 h
  have c4 := cnt_4 h
  have f88 := fr.k 88 (by decide)
  have f89 := fr.k 89 (by decide)
  have f94 := fr.k 94 (by decide)
  obtain ⟨oL, oB, oN⟩ := PLx_l n hn O hO
  have gv := h.rV v hv.1 hv.2
  have cm : ∀ i ∈ O, ∃ (k : Nat) (hk : k < (coL σ x).length), i = (k : Int) ∧ (coL σ x).getD i.toNat 0 = (coL σ x)[k] := fun i hi => by
    have := oB i hi
    refine ⟨i.toNat, by omega, by omega, ?_⟩
    rw [List.getD_eq_getElem?_getD, List.getElem?_eq_getElem (by omega)]
    rfl
  have ml : (O.map fun i => (coL σ x).getD i.toNat 0).length = n := by rw [List.length_map, oL]
  have mm : ∀ c ∈ O.map fun i => (coL σ x).getD i.toNat 0, c ∈ coL σ x := fun c hc => by
    obtain ⟨i, hi, rfl⟩ := List.mem_map.mp hc
    obtain ⟨k, hk, _, e⟩ := cm i hi
    show (coL σ x).getD i.toNat 0 ∈ _
    rw [e]
    exact List.getElem_mem _
  have cin : ∀ c ∈ coL σ x, 0 ≤ c ∧ c < σ 88 1 ∧ σ 89 (5 * c) = 1 := fun c hc => coP_lt h (coL_mem hc)
  have nd : (O.map fun i => (coL σ x).getD i.toNat 0).Nodup := by
    refine List.pairwise_map.mpr (List.Pairwise.imp_of_mem (fun {a b} ha hb hab => ?_) oN)
    obtain ⟨k1, hk1, e1, g1⟩ := cm a ha
    obtain ⟨k2, hk2, e2, g2⟩ := cm b hb
    rw [g1, g2]
    have pw := List.pairwise_iff_getElem.mp (coL_lt h x)
    have : k1 ≠ k2 := fun e => hab (by rw [e1, e2, e])
    rcases Nat.lt_or_gt_of_ne this with z | z
    · have := pw k1 k2 hk1 hk2 z
      omega
    · have := pw k2 k1 hk2 hk1 z
      omega
  have m100 : ∀ (j : Nat) (hj : j < (O.map fun i => (coL σ x).getD i.toNat 0).length), 0 ≤ υ 100 (j : Int) ∧ υ 100 (j : Int) < 8 ∧ υ 99 (υ 100 (j : Int)) = (O.map fun i => (coL σ x).getD i.toNat 0)[j] := fun j hj => by
    have hj2 : j < O.length := by omega
    have e := h100 j (by omega)
    rw [List.getD_eq_getElem?_getD, List.getElem?_eq_getElem hj2] at e
    have e : υ 100 (j : Int) = O[j] := e
    have ob := oB O[j] (List.getElem_mem _)
    refine ⟨by omega, by omega, ?_⟩
    have e2 := e99 O[j].toNat (by omega)
    rw [Int.toNat_of_nonneg ob.1] at e2
    rw [e, e2, List.getElem_map]
  have rr := s12_rides w (v := v) (by rw [f88]; exact hv) hn e11 (O := O.map fun i => (coL σ x).getD i.toNat 0) ml m100 (fun c hc => by rw [f88]; have := cin c (mm c hc); omega) (fun j hj => by
    rw [f94]
    by_cases z : j = 0
    · rw [if_pos z]
      have := cin _ (mm _ (List.getElem_mem hj))
      intro e
      rw [← e] at this
      exact gv.2.2.1 this.2.2
    · rw [if_neg z, List.getD_eq_getElem?_getD, List.getElem?_eq_getElem (show j - 1 < _ by omega)]
      exact List.pairwise_iff_getElem.mp nd (j - 1) j (by omega) hj (by omega))
  obtain ⟨w0, υ1, r1, r2, r3⟩ := rr
  have re := rideEq (σ := σ) (τ := υ) (fun k hk => fr.k k (by omega)) v (endT σ v) []
  have le : leaT υ v = leaT σ v := by unfold leaT; rw [f94, f89]
  have ee : endT υ v = endT σ v := by unfold endT; rw [f94]
  rw [le, ee, re.1, re.2.1, f94, f89] at r3
  have fr1 : frR σ υ1 := fun k i hk => by rw [r2 k i (by omega), fr k i hk]
  have mid1 : midR σ x n b υ1 := ⟨fr1, by rw [r2 87 11 (by decide), e11], fun j hj => by rw [r2 99 _ (by decide)]; exact e99 j hj, hb.congr (r2 87 17 (by decide)) (fun i => r2 99 i (by decide)) (fun i => r2 102 i (by decide)) (fun i => r2 103 i (by decide))⟩
  refine ⟨w0, υ1, r1, ?_, fun i => r2 100 i (by decide)⟩
  unfold stR
  by_cases q : leaT σ v ≤ σ 89 (5 * σ 94 (4 * v) + 4)
  · rw [if_pos q] at r3 ⊢
    cases e : ride (arrT σ v (endT σ v)) (tkT σ v) (O.map fun i => (coL σ x).getD i.toNat 0) (σ 94 (4 * v)) (leaT σ v) 0 with
    | none =>
      rw [e] at r3
      exact Or.inl ⟨r3, mid1⟩
    | some g =>
      rw [e] at r3
      obtain ⟨r3, r4⟩ := r3
      have gm := ride_len _ _ _ _ _ _ _ e
      have gl : g.length = n := by rw [← ml, ← gm, List.length_map]
      have ho : ∀ (j : Nat) (hj : j < g.length), 0 ≤ υ1 100 (j : Int) ∧ υ1 100 (j : Int) < 8 ∧ υ1 99 (υ1 100 (j : Int)) = g[j].1 ∧ υ1 101 (j : Int) = g[j].2 := fun j hj => by
        have a := m100 j (by omega)
        rw [r2 100 _ (by decide), r2 99 _ (by decide)]
        refine ⟨a.1, a.2.1, ?_, r4 j hj⟩
        rw [a.2.2]
        have : (O.map fun i => (coL σ x).getD i.toNat 0)[j]'(by omega) = (g.map (·.1))[j]'(by rw [List.length_map]; exact hj) := by
          congr 1
          exact gm.symm
        rw [this, List.getElem_map]
      have gb : ∀ y ∈ g, -1 ≤ y.2 ∧ y.2 ≤ 5000 := fun y hy => by
        have p := ride_all (P := fun c u => u ≤ endT σ v ∧ σ 89 (5 * c + 3) ≤ u ∧ u ≤ σ 89 (5 * c + 4)) arrT_P _ _ _ _ g e _ hy
        have cc := cin _ (mm _ (ride_mem e _ hy))
        have gc := h.rP _ cc.1 cc.2.1
        omega
      have w1 := fr1.WR h
      have lo := s12_lateOf w1 hx L_100 L_101 hn.2 (by rw [r2 87 11 (by decide), e11]) gl gb ho
      have ls : lateS υ1 g x (υ1 88 2) = lates (lateL σ (sl (tb x) (σ 88 2))) g := by
        have k := lates_S (σ := σ) (x := x) (g := g) (by rw [gm]; exact nd) (σ 88 2).toNat (fun p p0 p1 pt => by
          rw [gm]
          rw [Int.toNat_of_nonneg c4.2.1] at p1
          have gq := h.rQ p p0 p1
          have cp : coP σ x (σ 88 2) (σ 92 (7 * p + 2)) = true := by
            refine anyI_t.mpr ⟨p, p0, p1, ?_⟩
            rw [pt, decide_eq_true rfl]
            rfl
          have ci : σ 92 (7 * p + 2) ∈ coL σ x := sl_mem.mpr ⟨by omega, by omega, cp⟩
          obtain ⟨k, hk, ek⟩ := List.getElem_of_mem ci
          have := PLx_f n hn O hO k (by omega)
          refine List.mem_map.mpr ⟨(k : Int), this, ?_⟩
          rw [Int.toNat_natCast, List.getD_eq_getElem?_getD, List.getElem?_eq_getElem hk]
          exact ek)
        rw [Int.toNat_of_nonneg c4.2.1] at k
        rw [k]
        unfold lateS
        rw [fr1.k 88 (by decide), fr1.k 92 (by decide)]
      rw [ls] at lo
      have nt := s12_note (τ := υ1) hn (by rw [r2 87 11 (by decide), e11]) mid1.2.2.2 gl ho (L := lates (lateL σ (sl (tb x) (σ 88 2))) g) (by
        rw [← ls]
        exact (lateS_bd w1 gb x (n := υ1 88 2) (by have := cnt_4 w1; omega)).1)
      obtain ⟨υ2, n1, n2, n3⟩ := nt
      refine Or.inr ⟨r3, _, υ2, lo, n1, ⟨fun k i hk => by rw [n2 k i (by omega), fr1 k i hk], by rw [n2 87 11 (by decide), r2 87 11 (by decide), e11], fun j hj => by rw [n2 99 _ (by omega), r2 99 _ (by decide)]; exact e99 j hj, n3⟩, fun i => n2 100 i (by omega)⟩
  · rw [if_neg q] at r3 ⊢
    exact Or.inl ⟨r3, mid1⟩
theorem s12_routes {σ : cvM} (h : WR σ) {v x : Int} (hv : 0 ≤ v ∧ v < σ 88 3) (hx : 0 ≤ x ∧ x < 4096) : ∃ υ, f12_routes [87, v, x] σ = some (if (bestT σ v x).isSome = true then 1 else 0, υ) ∧ frR σ υ ∧ υ 87 11 = ((coL σ x).length : Int) ∧ (∀ j : Nat, j < (coL σ x).length → υ 99 (j : Int) = (coL σ x).getD j 0) ∧ ∀ d, bestT σ v x = some d → bestQ (coL σ x).length (some d) υ := by
  have c3 := cnt_3 h
  obtain ⟨w, ga⟩ := s12_gather h hx
  have ga : f12_gather [87, x] σ = some (w, mgM σ (coL σ x)) := ga
  have e11 : mgM σ (coL σ x) 87 11 = ((coL σ x).length : Int) := upd_at _ _ _ _
  have e99 : ∀ j : Nat, j < (coL σ x).length → mgM σ (coL σ x) 99 (j : Int) = (coL σ x).getD j 0 := fun j hj => by
    unfold mgM
    rw [upd_ne _ (by decide), aM_at _ _ (by omega), Int.toNat_natCast]
  have fr0 : frR σ (mgM σ (coL σ x)) := fun k i hk => mgM_o _ _ (by omega)
  have bn := coL_n h x
  generalize hn : (coL σ x).length = n at e11 e99 bn ⊢
  by_cases q0 : n = 0
  · subst q0
    have bt : bestT σ v x = none := by
      unfold bestT
      rw [if_neg fun y => by omega]
    rw [bt]
    refine ⟨_, ?_, fr0, e11, e99, fun d hd => by cases hd⟩
    have e11 : mgM σ (coL σ x) 87 11 = 0 := e11
    simp only [u12_routes, b12_routes, ev_op, ev_op2, ev_op1, ev_dv, ev_dv2, ev_dv1, ev_un, ev_un1, ev_lit, ev_l0, ev_l1, ev_l2, ev_l3, ev_l4, ev_l5, ev_l6, ev_l7, ev_l8, ev_l9, ev_l10, ev_l11, ev_rf, ev_gi, ev_gi1, ev_gi2, ev_gr, ev_gr1, ev_at0, ev_at, ev_al, ev_al2, ev_al1, ev_an, ev_an1, ev_vs0, ev_vs, ev_vs2, ev_vs1, ev_ca, ev_ca1, ev_cv, ev_cv1, ev_cv2, ev_if, ev_if1, ev_cmp, ev_cmp2, ev_cmp1, ev_not, ev_not1, ev_and, ev_and1, ev_or, ev_or1, ev_e, ev_e1, ev_cif, ev_cif1, ev_qlt, ev_qle, ev_qgt, ev_qge, ev_qeq, ev_qne, ev_skip, ev_brk, ev_cnt, ev_retv, ev_seq, ev_seq0, ev_seq1, ev_seq2, ev_seq3, ev_seqi, ev_sif, ev_sif1, ev_ret, ev_ret1, ev_retz, ev_retzb, ev_retzc, ev_retz1, ev_retc, ev_asg, ev_s0, ev_s1, ev_s2, ev_s3, ev_s4, ev_s5, ev_s6, ev_s7, ev_s8, ev_s9, ev_s10, ev_s11, ev_exp, ev_exp1, ev_pf, ev_pf2, ev_pf1, ev_pz, ev_pz2, ev_pz1, ev_of, ev_of2, ev_of1, ev_st, ev_as, ev_as3, ev_as2, ev_as1, ev_oa, ev_oa3, ev_oa2, ev_oa1, ev_oa0, ev_cp, ev_cp3, ev_cp2, ev_cp1, ev_sw, ev_sw1, ev_swb0, ev_swb1, ev_swb3, ev_swbi, ev_fin3, ev_fin0, ev_fini, ev_iv, ev_ic, ev_b1, ev_b2, ev_b3, ev_b4, ev_b5, ev_b6, ev_or12, ev_lp, ev_lc, ev_lb0, ev_lb1, ev_lb2, ev_lb3, ev_lbi, ev_lu, ev_ass, Int.reduceAdd, Int.reduceSub, Int.reduceMul, Int.reduceNeg, Int.reduceLT, Int.reduceLE, Int.reduceGT, Int.reduceGE, Int.reduceEq, Int.reduceNe, Int.reduceDiv, Int.reduceMod, Int.reduceToNat, Nat.reduceAdd, Nat.reduceMul, Nat.reduceSub, Nat.reduceLT, Nat.reduceEqDiff, Int.reduceNatCast', reduceIte, ite_true, ite_false, if_true, if_false, decide_eq_true_eq, decide_true, decide_false, decide_not, Bool.not_eq_true', decide_eq_false_iff_not, Bool.not_not, Bool.and_eq_true, Bool.or_eq_true, Bool.not_true, Bool.not_false, not_true_eq_false, not_false_eq_true, true_and, and_true, false_and, and_false, true_or, or_true, false_or, or_false, Bool.true_and, Bool.and_true, Bool.false_and, Bool.and_false, Bool.true_or, Bool.or_true, Bool.or_false, Bool.false_or, Bool.not_eq_false', Bool.true_eq_false, Bool.false_eq_true, eq_self, Classical.not_not, ite_not, ne_eq, Option.some.injEq, Prod.mk.injEq, L_87, ga, e11, Option.isSome]
  by_cases q4 : 4 < n
  · have bt : bestT σ v x = none := by
      unfold bestT
      rw [if_neg fun y => by omega]
    rw [bt]
    refine ⟨_, ?_, fr0, e11, e99, fun d hd => by cases hd⟩
    have z1 : ¬ (n : Int) = 0 := by omega
    have z2 : 4 < (n : Int) := by omega
    simp only [u12_routes, b12_routes, ev_op, ev_op2, ev_op1, ev_dv, ev_dv2, ev_dv1, ev_un, ev_un1, ev_lit, ev_l0, ev_l1, ev_l2, ev_l3, ev_l4, ev_l5, ev_l6, ev_l7, ev_l8, ev_l9, ev_l10, ev_l11, ev_rf, ev_gi, ev_gi1, ev_gi2, ev_gr, ev_gr1, ev_at0, ev_at, ev_al, ev_al2, ev_al1, ev_an, ev_an1, ev_vs0, ev_vs, ev_vs2, ev_vs1, ev_ca, ev_ca1, ev_cv, ev_cv1, ev_cv2, ev_if, ev_if1, ev_cmp, ev_cmp2, ev_cmp1, ev_not, ev_not1, ev_and, ev_and1, ev_or, ev_or1, ev_e, ev_e1, ev_cif, ev_cif1, ev_qlt, ev_qle, ev_qgt, ev_qge, ev_qeq, ev_qne, ev_skip, ev_brk, ev_cnt, ev_retv, ev_seq, ev_seq0, ev_seq1, ev_seq2, ev_seq3, ev_seqi, ev_sif, ev_sif1, ev_ret, ev_ret1, ev_retz, ev_retzb, ev_retzc, ev_retz1, ev_retc, ev_asg, ev_s0, ev_s1, ev_s2, ev_s3, ev_s4, ev_s5, ev_s6, ev_s7, ev_s8, ev_s9, ev_s10, ev_s11, ev_exp, ev_exp1, ev_pf, ev_pf2, ev_pf1, ev_pz, ev_pz2, ev_pz1, ev_of, ev_of2, ev_of1, ev_st, ev_as, ev_as3, ev_as2, ev_as1, ev_oa, ev_oa3, ev_oa2, ev_oa1, ev_oa0, ev_cp, ev_cp3, ev_cp2, ev_cp1, ev_sw, ev_sw1, ev_swb0, ev_swb1, ev_swb3, ev_swbi, ev_fin3, ev_fin0, ev_fini, ev_iv, ev_ic, ev_b1, ev_b2, ev_b3, ev_b4, ev_b5, ev_b6, ev_or12, ev_lp, ev_lc, ev_lb0, ev_lb1, ev_lb2, ev_lb3, ev_lbi, ev_lu, ev_ass, Int.reduceAdd, Int.reduceSub, Int.reduceMul, Int.reduceNeg, Int.reduceLT, Int.reduceLE, Int.reduceGT, Int.reduceGE, Int.reduceEq, Int.reduceNe, Int.reduceDiv, Int.reduceMod, Int.reduceToNat, Nat.reduceAdd, Nat.reduceMul, Nat.reduceSub, Nat.reduceLT, Nat.reduceEqDiff, Int.reduceNatCast', reduceIte, ite_true, ite_false, if_true, if_false, decide_eq_true_eq, decide_true, decide_false, decide_not, Bool.not_eq_true', decide_eq_false_iff_not, Bool.not_not, Bool.and_eq_true, Bool.or_eq_true, Bool.not_true, Bool.not_false, not_true_eq_false, not_false_eq_true, true_and, and_true, false_and, and_false, true_or, or_true, false_or, or_false, Bool.true_and, Bool.and_true, Bool.false_and, Bool.and_false, Bool.true_or, Bool.or_true, Bool.or_false, Bool.false_or, Bool.not_eq_false', Bool.true_eq_false, Bool.false_eq_true, eq_self, Classical.not_not, ite_not, ne_eq, Option.some.injEq, Prod.mk.injEq, L_87, ga, e11, z1, z2, Option.isSome]
  have z1 : ¬ (n : Int) = 0 := by omega
  have z2 : ¬ 4 < (n : Int) := by omega
  have hn4 : 1 ≤ n ∧ n ≤ 4 := by omega
  have bt := bestT_st h (v := v) (x := x) (by omega)
  rw [hn] at bt
  obtain ⟨p0, p1⟩ := PLx_0 n hn4
  suffices hs : WF (f12_routes [87, v, x] σ) (fun w υ => w = (if (bestT σ v x).isSome = true then 1 else 0) ∧ midR σ x n (bestT σ v x) υ) by
    obtain ⟨w, υ, e1, rfl, e2, e3, e4, e5⟩ := hs
    exact ⟨υ, e1, e2, e3, e4, fun d hd => by rw [hd] at e5; exact e5⟩
  simp only [u12_routes, b12_routes, ev_op, ev_op2, ev_op1, ev_dv, ev_dv2, ev_dv1, ev_un, ev_un1, ev_lit, ev_l0, ev_l1, ev_l2, ev_l3, ev_l4, ev_l5, ev_l6, ev_l7, ev_l8, ev_l9, ev_l10, ev_l11, ev_rf, ev_gi, ev_gi1, ev_gi2, ev_gr, ev_gr1, ev_at0, ev_at, ev_al, ev_al2, ev_al1, ev_an, ev_an1, ev_vs0, ev_vs, ev_vs2, ev_vs1, ev_ca, ev_ca1, ev_cv, ev_cv1, ev_cv2, ev_if, ev_if1, ev_cmp, ev_cmp2, ev_cmp1, ev_not, ev_not1, ev_and, ev_and1, ev_or, ev_or1, ev_e, ev_e1, ev_cif, ev_cif1, ev_qlt, ev_qle, ev_qgt, ev_qge, ev_qeq, ev_qne, ev_skip, ev_brk, ev_cnt, ev_retv, ev_seq, ev_seq0, ev_seq1, ev_seq2, ev_seq3, ev_seqi, ev_sif, ev_sif1, ev_ret, ev_ret1, ev_retz, ev_retzb, ev_retzc, ev_retz1, ev_retc, ev_asg, ev_s0, ev_s1, ev_s2, ev_s3, ev_s4, ev_s5, ev_s6, ev_s7, ev_s8, ev_s9, ev_s10, ev_s11, ev_exp, ev_exp1, ev_pf, ev_pf2, ev_pf1, ev_pz, ev_pz2, ev_pz1, ev_of, ev_of2, ev_of1, ev_st, ev_as, ev_as3, ev_as2, ev_as1, ev_oa, ev_oa3, ev_oa2, ev_oa1, ev_oa0, ev_cp, ev_cp3, ev_cp2, ev_cp1, ev_sw, ev_sw1, ev_swb0, ev_swb1, ev_swb3, ev_swbi, ev_fin3, ev_fin0, ev_fini, ev_iv, ev_ic, ev_b1, ev_b2, ev_b3, ev_b4, ev_b5, ev_b6, ev_or12, ev_lp, ev_lc, ev_lb0, ev_lb1, ev_lb2, ev_lb3, ev_lbi, ev_lu, ev_ass, Int.reduceAdd, Int.reduceSub, Int.reduceMul, Int.reduceNeg, Int.reduceLT, Int.reduceLE, Int.reduceGT, Int.reduceGE, Int.reduceEq, Int.reduceNe, Int.reduceDiv, Int.reduceMod, Int.reduceToNat, Nat.reduceAdd, Nat.reduceMul, Nat.reduceSub, Nat.reduceLT, Nat.reduceEqDiff, Int.reduceNatCast', reduceIte, ite_true, ite_false, if_true, if_false, decide_eq_true_eq, decide_true, decide_false, decide_not, Bool.not_eq_true', decide_eq_false_iff_not, Bool.not_not, Bool.and_eq_true, Bool.or_eq_true, Bool.not_true, Bool.not_false, not_true_eq_false, not_false_eq_true, true_and, and_true, false_and, and_false, true_or, or_true, false_or, or_false, Bool.true_and, Bool.and_true, Bool.false_and, Bool.and_false, Bool.true_or, Bool.or_true, Bool.or_false, Bool.false_or, Bool.not_eq_false', Bool.true_eq_false, Bool.false_eq_true, eq_self, Classical.not_not, ite_not, ne_eq, Option.some.injEq, Prod.mk.injEq, L_87, ga, e11, z1, z2]
  refine wf_lp (fun r => ∃ υ, r = (0, 0, [some 87, some v, some x, some (n : Int)], υ) ∧ (∀ k i : Int, k ≠ 100 → υ k i = mgM σ (coL σ x) k i) ∧ ∀ j : Nat, j < n → υ 100 (j : Int) = (j : Int)) (wq_I (fun i E υ => E = [some 87, some v, some x, some i] ∧ (∀ k j : Int, k ≠ 100 → υ k j = mgM σ (coL σ x) k j) ∧ ∀ j : Int, 0 ≤ j → j < i → υ 100 j = j) 0 (n : Int) (by omega) ⟨rfl, fun _ _ _ => rfl, fun j j0 j1 => by omega⟩ ?_ ?_) ?_
  · rintro i E υ i0 i1 ⟨rfl, f, g⟩
    have r4 : 0 ≤ i ∧ i < 4 := by omega
    have g11 : υ 87 11 = (n : Int) := by rw [f 87 11 (by decide), e11]
    have n1 := n_add (show -2147483648 ≤ i + 1 ∧ i + 1 < 2147483648 by omega)
    simp only [ev_op, ev_op2, ev_op1, ev_dv, ev_dv2, ev_dv1, ev_un, ev_un1, ev_lit, ev_l0, ev_l1, ev_l2, ev_l3, ev_l4, ev_l5, ev_l6, ev_l7, ev_l8, ev_l9, ev_l10, ev_l11, ev_rf, ev_gi, ev_gi1, ev_gi2, ev_gr, ev_gr1, ev_at0, ev_at, ev_al, ev_al2, ev_al1, ev_an, ev_an1, ev_vs0, ev_vs, ev_vs2, ev_vs1, ev_ca, ev_ca1, ev_cv, ev_cv1, ev_cv2, ev_if, ev_if1, ev_cmp, ev_cmp2, ev_cmp1, ev_not, ev_not1, ev_and, ev_and1, ev_or, ev_or1, ev_e, ev_e1, ev_cif, ev_cif1, ev_qlt, ev_qle, ev_qgt, ev_qge, ev_qeq, ev_qne, ev_skip, ev_brk, ev_cnt, ev_retv, ev_seq, ev_seq0, ev_seq1, ev_seq2, ev_seq3, ev_seqi, ev_sif, ev_sif1, ev_ret, ev_ret1, ev_retz, ev_retzb, ev_retzc, ev_retz1, ev_retc, ev_asg, ev_s0, ev_s1, ev_s2, ev_s3, ev_s4, ev_s5, ev_s6, ev_s7, ev_s8, ev_s9, ev_s10, ev_s11, ev_exp, ev_exp1, ev_pf, ev_pf2, ev_pf1, ev_pz, ev_pz2, ev_pz1, ev_of, ev_of2, ev_of1, ev_st, ev_as, ev_as3, ev_as2, ev_as1, ev_oa, ev_oa3, ev_oa2, ev_oa1, ev_oa0, ev_cp, ev_cp3, ev_cp2, ev_cp1, ev_sw, ev_sw1, ev_swb0, ev_swb1, ev_swb3, ev_swbi, ev_fin3, ev_fin0, ev_fini, ev_iv, ev_ic, ev_b1, ev_b2, ev_b3, ev_b4, ev_b5, ev_b6, ev_or12, ev_lp, ev_lc, ev_lb0, ev_lb1, ev_lb2, ev_lb3, ev_lbi, ev_lu, ev_ass, Int.reduceAdd, Int.reduceSub, Int.reduceMul, Int.reduceNeg, Int.reduceLT, Int.reduceLE, Int.reduceGT, Int.reduceGE, Int.reduceEq, Int.reduceNe, Int.reduceDiv, Int.reduceMod, Int.reduceToNat, Nat.reduceAdd, Nat.reduceMul, Nat.reduceSub, Nat.reduceLT, Nat.reduceEqDiff, Int.reduceNatCast', reduceIte, ite_true, ite_false, if_true, if_false, decide_eq_true_eq, decide_true, decide_false, decide_not, Bool.not_eq_true', decide_eq_false_iff_not, Bool.not_not, Bool.and_eq_true, Bool.or_eq_true, Bool.not_true, Bool.not_false, not_true_eq_false, not_false_eq_true, true_and, and_true, false_and, and_false, true_or, or_true, false_or, or_false, Bool.true_and, Bool.and_true, Bool.false_and, Bool.and_false, Bool.true_or, Bool.or_true, Bool.or_false, Bool.false_or, Bool.not_eq_false', Bool.true_eq_false, Bool.false_eq_true, eq_self, Classical.not_not, ite_not, ne_eq, Option.some.injEq, Prod.mk.injEq, L_87, L_100, g11, i1, r4, n1]
    refine RS.go ⟨rfl, fun k j hk => by rw [upd_ne _ hk, f k j hk], fun j j0 j1 => ?_⟩
    by_cases z : j = i
    · rw [z, upd_at]
    · rw [upd_ni z]
      exact g j j0 (by omega)
  · rintro E υ ⟨rfl, f, g⟩
    have q : ¬ (n : Int) < (n : Int) := by omega
    have g11 : υ 87 11 = (n : Int) := by rw [f 87 11 (by decide), e11]
    simp only [ev_op, ev_op2, ev_op1, ev_dv, ev_dv2, ev_dv1, ev_un, ev_un1, ev_lit, ev_l0, ev_l1, ev_l2, ev_l3, ev_l4, ev_l5, ev_l6, ev_l7, ev_l8, ev_l9, ev_l10, ev_l11, ev_rf, ev_gi, ev_gi1, ev_gi2, ev_gr, ev_gr1, ev_at0, ev_at, ev_al, ev_al2, ev_al1, ev_an, ev_an1, ev_vs0, ev_vs, ev_vs2, ev_vs1, ev_ca, ev_ca1, ev_cv, ev_cv1, ev_cv2, ev_if, ev_if1, ev_cmp, ev_cmp2, ev_cmp1, ev_not, ev_not1, ev_and, ev_and1, ev_or, ev_or1, ev_e, ev_e1, ev_cif, ev_cif1, ev_qlt, ev_qle, ev_qgt, ev_qge, ev_qeq, ev_qne, ev_skip, ev_brk, ev_cnt, ev_retv, ev_seq, ev_seq0, ev_seq1, ev_seq2, ev_seq3, ev_seqi, ev_sif, ev_sif1, ev_ret, ev_ret1, ev_retz, ev_retzb, ev_retzc, ev_retz1, ev_retc, ev_asg, ev_s0, ev_s1, ev_s2, ev_s3, ev_s4, ev_s5, ev_s6, ev_s7, ev_s8, ev_s9, ev_s10, ev_s11, ev_exp, ev_exp1, ev_pf, ev_pf2, ev_pf1, ev_pz, ev_pz2, ev_pz1, ev_of, ev_of2, ev_of1, ev_st, ev_as, ev_as3, ev_as2, ev_as1, ev_oa, ev_oa3, ev_oa2, ev_oa1, ev_oa0, ev_cp, ev_cp3, ev_cp2, ev_cp1, ev_sw, ev_sw1, ev_swb0, ev_swb1, ev_swb3, ev_swbi, ev_fin3, ev_fin0, ev_fini, ev_iv, ev_ic, ev_b1, ev_b2, ev_b3, ev_b4, ev_b5, ev_b6, ev_or12, ev_lp, ev_lc, ev_lb0, ev_lb1, ev_lb2, ev_lb3, ev_lbi, ev_lu, ev_ass, Int.reduceAdd, Int.reduceSub, Int.reduceMul, Int.reduceNeg, Int.reduceLT, Int.reduceLE, Int.reduceGT, Int.reduceGE, Int.reduceEq, Int.reduceNe, Int.reduceDiv, Int.reduceMod, Int.reduceToNat, Nat.reduceAdd, Nat.reduceMul, Nat.reduceSub, Nat.reduceLT, Nat.reduceEqDiff, Int.reduceNatCast', reduceIte, ite_true, ite_false, if_true, if_false, decide_eq_true_eq, decide_true, decide_false, decide_not, Bool.not_eq_true', decide_eq_false_iff_not, Bool.not_not, Bool.and_eq_true, Bool.or_eq_true, Bool.not_true, Bool.not_false, not_true_eq_false, not_false_eq_true, true_and, and_true, false_and, and_false, true_or, or_true, false_or, or_false, Bool.true_and, Bool.and_true, Bool.false_and, Bool.and_false, Bool.true_or, Bool.or_true, Bool.or_false, Bool.false_or, Bool.not_eq_false', Bool.true_eq_false, Bool.false_eq_true, eq_self, Classical.not_not, ite_not, ne_eq, Option.some.injEq, Prod.mk.injEq, L_87, g11, q]
    exact RS.done ⟨υ, rfl, f, fun j hj => g (j : Int) (by omega) (by omega)⟩
  rintro r ⟨υ, rfl, f, g⟩
  have mid0 : midR σ x n none (updM υ 87 17 (-1)) := by
    refine ⟨fun k i hk => ?_, ?_, fun j hj => ?_, upd_at _ _ _ _⟩
    · rw [show updM υ 87 17 (-1) k i = υ k i from if_neg (by omega), f k i (by omega), fr0 k i hk]
    · rw [upd_ni (by decide), f 87 11 (by decide), e11]
    · rw [upd_ne _ (by decide), f 99 _ (by decide)]
      exact e99 j hj
  have t0 : ∀ j : Nat, j < n → updM υ 87 17 (-1) 100 (j : Int) = ((PLx n).getD 0 []).getD j 0 := fun j hj => by
    rw [upd_ne _ (by decide), g j hj, p1 j hj]
  simp only [ev_op, ev_op2, ev_op1, ev_dv, ev_dv2, ev_dv1, ev_un, ev_un1, ev_lit, ev_l0, ev_l1, ev_l2, ev_l3, ev_l4, ev_l5, ev_l6, ev_l7, ev_l8, ev_l9, ev_l10, ev_l11, ev_rf, ev_gi, ev_gi1, ev_gi2, ev_gr, ev_gr1, ev_at0, ev_at, ev_al, ev_al2, ev_al1, ev_an, ev_an1, ev_vs0, ev_vs, ev_vs2, ev_vs1, ev_ca, ev_ca1, ev_cv, ev_cv1, ev_cv2, ev_if, ev_if1, ev_cmp, ev_cmp2, ev_cmp1, ev_not, ev_not1, ev_and, ev_and1, ev_or, ev_or1, ev_e, ev_e1, ev_cif, ev_cif1, ev_qlt, ev_qle, ev_qgt, ev_qge, ev_qeq, ev_qne, ev_skip, ev_brk, ev_cnt, ev_retv, ev_seq, ev_seq0, ev_seq1, ev_seq2, ev_seq3, ev_seqi, ev_sif, ev_sif1, ev_ret, ev_ret1, ev_retz, ev_retzb, ev_retzc, ev_retz1, ev_retc, ev_asg, ev_s0, ev_s1, ev_s2, ev_s3, ev_s4, ev_s5, ev_s6, ev_s7, ev_s8, ev_s9, ev_s10, ev_s11, ev_exp, ev_exp1, ev_pf, ev_pf2, ev_pf1, ev_pz, ev_pz2, ev_pz1, ev_of, ev_of2, ev_of1, ev_st, ev_as, ev_as3, ev_as2, ev_as1, ev_oa, ev_oa3, ev_oa2, ev_oa1, ev_oa0, ev_cp, ev_cp3, ev_cp2, ev_cp1, ev_sw, ev_sw1, ev_swb0, ev_swb1, ev_swb3, ev_swbi, ev_fin3, ev_fin0, ev_fini, ev_iv, ev_ic, ev_b1, ev_b2, ev_b3, ev_b4, ev_b5, ev_b6, ev_or12, ev_lp, ev_lc, ev_lb0, ev_lb1, ev_lb2, ev_lb3, ev_lbi, ev_lu, ev_ass, Int.reduceAdd, Int.reduceSub, Int.reduceMul, Int.reduceNeg, Int.reduceLT, Int.reduceLE, Int.reduceGT, Int.reduceGE, Int.reduceEq, Int.reduceNe, Int.reduceDiv, Int.reduceMod, Int.reduceToNat, Nat.reduceAdd, Nat.reduceMul, Nat.reduceSub, Nat.reduceLT, Nat.reduceEqDiff, Int.reduceNatCast', reduceIte, ite_true, ite_false, if_true, if_false, decide_eq_true_eq, decide_true, decide_false, decide_not, Bool.not_eq_true', decide_eq_false_iff_not, Bool.not_not, Bool.and_eq_true, Bool.or_eq_true, Bool.not_true, Bool.not_false, not_true_eq_false, not_false_eq_true, true_and, and_true, false_and, and_false, true_or, or_true, false_or, or_false, Bool.true_and, Bool.and_true, Bool.false_and, Bool.and_false, Bool.true_or, Bool.or_true, Bool.or_false, Bool.false_or, Bool.not_eq_false', Bool.true_eq_false, Bool.false_eq_true, eq_self, Classical.not_not, ite_not, ne_eq, Option.some.injEq, Prod.mk.injEq, L_87]
  generalize updM υ 87 17 (-1) = υ0 at mid0 t0 ⊢
  clear g f e99 e11 fr0 ga υ
  have Np : (0 : Int) < ((PLx n).length : Int) := by omega
  refine wf_lp (fun r => ∃ E υ, r = (0, 0, [some 87, some v, some x, E], υ) ∧ midR σ x n (bestT σ v x) υ) (wq_I (fun i E υ => E = [some 87, some v, some x, some (if i < ((PLx n).length : Int) then 1 else 0)] ∧ midR σ x n (((PLx n).take i.toNat).foldl (stR σ v x) none) υ ∧ (i < ((PLx n).length : Int) → ∀ j : Nat, j < n → υ 100 (j : Int) = ((PLx n).getD i.toNat []).getD j 0)) 0 ((PLx n).length : Int) (by omega) ⟨by rw [if_pos Np], mid0, fun _ => t0⟩ ?_ ?_) ?_
  · rintro i E υ i0 i1 ⟨rfl, mi, t⟩
    have t := t i1
    have hi : i.toNat < (PLx n).length := by omega
    rw [if_pos i1]
    have om : (PLx n).getD i.toNat [] ∈ PLx n := by
      rw [List.getD_eq_getElem?_getD, List.getElem?_eq_getElem hi]
      exact List.getElem_mem _
    have og : (PLx n)[i.toNat] = (PLx n).getD i.toNat [] := by
      rw [List.getD_eq_getElem?_getD, List.getElem?_eq_getElem hi]
      rfl
    have nb : (((PLx n).take (i + 1).toNat).foldl (stR σ v x) none) = stR σ v x (((PLx n).take i.toNat).foldl (stR σ v x) none) ((PLx n).getD i.toNat []) := by
      rw [show (i + 1).toNat = i.toNat + 1 by omega, List.take_succ_eq_append_getElem hi, List.foldl_append, og]
      rfl
    rw [nb]
    obtain ⟨w0, υ1, a1, a2, a3⟩ := s12_try h hv hx hn4 hn mi om t
    have fin : ∀ υ2, midR σ x n (stR σ v x (((PLx n).take i.toNat).foldl (stR σ v x) none) ((PLx n).getD i.toNat [])) υ2 → (∀ j : Nat, j < n → υ2 100 (j : Int) = ((PLx n).getD i.toNat []).getD j 0) → ∃ υ3, f12_nextOrder [87] υ2 = some (if i + 1 < ((PLx n).length : Int) then 1 else 0, υ3) ∧ midR σ x n (stR σ v x (((PLx n).take i.toNat).foldl (stR σ v x) none) ((PLx n).getD i.toNat [])) υ3 ∧ (i + 1 < ((PLx n).length : Int) → ∀ j : Nat, j < n → υ3 100 (j : Int) = ((PLx n).getD (i + 1).toNat []).getD j 0) := fun υ2 m2 t2 => by
      obtain ⟨υ3, b1, b2, b3⟩ := s12_next hn4 m2.2.1 i.toNat hi t2
      have ei : (i.toNat + 1 < (PLx n).length) = (i + 1 < ((PLx n).length : Int)) := propext (by omega)
      refine ⟨υ3, ?_, ⟨fun k j hk => by rw [b2 k j (by omega), m2.1 k j hk], by rw [b2 87 11 (by decide), m2.2.1], fun j hj => by rw [b2 99 _ (by decide)]; exact m2.2.2.1 j hj, m2.2.2.2.congr (b2 87 17 (by decide)) (fun i => b2 99 i (by decide)) (fun i => b2 102 i (by decide)) (fun i => b2 103 i (by decide))⟩, fun hl j hj => ?_⟩
      · rw [b1]
        by_cases z : i + 1 < ((PLx n).length : Int)
        · rw [if_pos z, if_pos (by omega)]
        · rw [if_neg z, if_neg (by omega)]
      · rw [b3 (by omega) j hj, show (i + 1).toNat = i.toNat + 1 by omega]
    rcases a2 with ⟨rfl, m1⟩ | ⟨rfl, L, υ2, c1, c2, c3, c4⟩
    · obtain ⟨υ3, d1, d2, d3⟩ := fin υ1 m1 fun j hj => by rw [a3]; exact t j hj
      simp only [ev_op, ev_op2, ev_op1, ev_dv, ev_dv2, ev_dv1, ev_un, ev_un1, ev_lit, ev_l0, ev_l1, ev_l2, ev_l3, ev_l4, ev_l5, ev_l6, ev_l7, ev_l8, ev_l9, ev_l10, ev_l11, ev_rf, ev_gi, ev_gi1, ev_gi2, ev_gr, ev_gr1, ev_at0, ev_at, ev_al, ev_al2, ev_al1, ev_an, ev_an1, ev_vs0, ev_vs, ev_vs2, ev_vs1, ev_ca, ev_ca1, ev_cv, ev_cv1, ev_cv2, ev_if, ev_if1, ev_cmp, ev_cmp2, ev_cmp1, ev_not, ev_not1, ev_and, ev_and1, ev_or, ev_or1, ev_e, ev_e1, ev_cif, ev_cif1, ev_qlt, ev_qle, ev_qgt, ev_qge, ev_qeq, ev_qne, ev_skip, ev_brk, ev_cnt, ev_retv, ev_seq, ev_seq0, ev_seq1, ev_seq2, ev_seq3, ev_seqi, ev_sif, ev_sif1, ev_ret, ev_ret1, ev_retz, ev_retzb, ev_retzc, ev_retz1, ev_retc, ev_asg, ev_s0, ev_s1, ev_s2, ev_s3, ev_s4, ev_s5, ev_s6, ev_s7, ev_s8, ev_s9, ev_s10, ev_s11, ev_exp, ev_exp1, ev_pf, ev_pf2, ev_pf1, ev_pz, ev_pz2, ev_pz1, ev_of, ev_of2, ev_of1, ev_st, ev_as, ev_as3, ev_as2, ev_as1, ev_oa, ev_oa3, ev_oa2, ev_oa1, ev_oa0, ev_cp, ev_cp3, ev_cp2, ev_cp1, ev_sw, ev_sw1, ev_swb0, ev_swb1, ev_swb3, ev_swbi, ev_fin3, ev_fin0, ev_fini, ev_iv, ev_ic, ev_b1, ev_b2, ev_b3, ev_b4, ev_b5, ev_b6, ev_or12, ev_lp, ev_lc, ev_lb0, ev_lb1, ev_lb2, ev_lb3, ev_lbi, ev_lu, ev_ass, Int.reduceAdd, Int.reduceSub, Int.reduceMul, Int.reduceNeg, Int.reduceLT, Int.reduceLE, Int.reduceGT, Int.reduceGE, Int.reduceEq, Int.reduceNe, Int.reduceDiv, Int.reduceMod, Int.reduceToNat, Nat.reduceAdd, Nat.reduceMul, Nat.reduceSub, Nat.reduceLT, Nat.reduceEqDiff, Int.reduceNatCast', reduceIte, ite_true, ite_false, if_true, if_false, decide_eq_true_eq, decide_true, decide_false, decide_not, Bool.not_eq_true', decide_eq_false_iff_not, Bool.not_not, Bool.and_eq_true, Bool.or_eq_true, Bool.not_true, Bool.not_false, not_true_eq_false, not_false_eq_true, true_and, and_true, false_and, and_false, true_or, or_true, false_or, or_false, Bool.true_and, Bool.and_true, Bool.false_and, Bool.and_false, Bool.true_or, Bool.or_true, Bool.or_false, Bool.false_or, Bool.not_eq_false', Bool.true_eq_false, Bool.false_eq_true, eq_self, Classical.not_not, ite_not, ne_eq, Option.some.injEq, Prod.mk.injEq, L_87, L_100, L_101, a1, d1]
      exact RS.go ⟨rfl, d2, d3⟩
    · obtain ⟨υ3, d1, d2, d3⟩ := fin υ2 c3 fun j hj => by rw [c4, a3]; exact t j hj
      simp only [ev_op, ev_op2, ev_op1, ev_dv, ev_dv2, ev_dv1, ev_un, ev_un1, ev_lit, ev_l0, ev_l1, ev_l2, ev_l3, ev_l4, ev_l5, ev_l6, ev_l7, ev_l8, ev_l9, ev_l10, ev_l11, ev_rf, ev_gi, ev_gi1, ev_gi2, ev_gr, ev_gr1, ev_at0, ev_at, ev_al, ev_al2, ev_al1, ev_an, ev_an1, ev_vs0, ev_vs, ev_vs2, ev_vs1, ev_ca, ev_ca1, ev_cv, ev_cv1, ev_cv2, ev_if, ev_if1, ev_cmp, ev_cmp2, ev_cmp1, ev_not, ev_not1, ev_and, ev_and1, ev_or, ev_or1, ev_e, ev_e1, ev_cif, ev_cif1, ev_qlt, ev_qle, ev_qgt, ev_qge, ev_qeq, ev_qne, ev_skip, ev_brk, ev_cnt, ev_retv, ev_seq, ev_seq0, ev_seq1, ev_seq2, ev_seq3, ev_seqi, ev_sif, ev_sif1, ev_ret, ev_ret1, ev_retz, ev_retzb, ev_retzc, ev_retz1, ev_retc, ev_asg, ev_s0, ev_s1, ev_s2, ev_s3, ev_s4, ev_s5, ev_s6, ev_s7, ev_s8, ev_s9, ev_s10, ev_s11, ev_exp, ev_exp1, ev_pf, ev_pf2, ev_pf1, ev_pz, ev_pz2, ev_pz1, ev_of, ev_of2, ev_of1, ev_st, ev_as, ev_as3, ev_as2, ev_as1, ev_oa, ev_oa3, ev_oa2, ev_oa1, ev_oa0, ev_cp, ev_cp3, ev_cp2, ev_cp1, ev_sw, ev_sw1, ev_swb0, ev_swb1, ev_swb3, ev_swbi, ev_fin3, ev_fin0, ev_fini, ev_iv, ev_ic, ev_b1, ev_b2, ev_b3, ev_b4, ev_b5, ev_b6, ev_or12, ev_lp, ev_lc, ev_lb0, ev_lb1, ev_lb2, ev_lb3, ev_lbi, ev_lu, ev_ass, Int.reduceAdd, Int.reduceSub, Int.reduceMul, Int.reduceNeg, Int.reduceLT, Int.reduceLE, Int.reduceGT, Int.reduceGE, Int.reduceEq, Int.reduceNe, Int.reduceDiv, Int.reduceMod, Int.reduceToNat, Nat.reduceAdd, Nat.reduceMul, Nat.reduceSub, Nat.reduceLT, Nat.reduceEqDiff, Int.reduceNatCast', reduceIte, ite_true, ite_false, if_true, if_false, decide_eq_true_eq, decide_true, decide_false, decide_not, Bool.not_eq_true', decide_eq_false_iff_not, Bool.not_not, Bool.and_eq_true, Bool.or_eq_true, Bool.not_true, Bool.not_false, not_true_eq_false, not_false_eq_true, true_and, and_true, false_and, and_false, true_or, or_true, false_or, or_false, Bool.true_and, Bool.and_true, Bool.false_and, Bool.and_false, Bool.true_or, Bool.or_true, Bool.or_false, Bool.false_or, Bool.not_eq_false', Bool.true_eq_false, Bool.false_eq_true, eq_self, Classical.not_not, ite_not, ne_eq, Option.some.injEq, Prod.mk.injEq, L_87, L_100, L_101, a1, c1, c2, d1]
      exact RS.go ⟨rfl, d2, d3⟩
  · rintro E υ ⟨rfl, mi, _⟩
    rw [if_neg (show ¬ ((PLx n).length : Int) < ((PLx n).length : Int) by omega)]
    rw [Int.toNat_natCast, List.take_length, ← bt] at mi
    simp only [ev_op, ev_op2, ev_op1, ev_dv, ev_dv2, ev_dv1, ev_un, ev_un1, ev_lit, ev_l0, ev_l1, ev_l2, ev_l3, ev_l4, ev_l5, ev_l6, ev_l7, ev_l8, ev_l9, ev_l10, ev_l11, ev_rf, ev_gi, ev_gi1, ev_gi2, ev_gr, ev_gr1, ev_at0, ev_at, ev_al, ev_al2, ev_al1, ev_an, ev_an1, ev_vs0, ev_vs, ev_vs2, ev_vs1, ev_ca, ev_ca1, ev_cv, ev_cv1, ev_cv2, ev_if, ev_if1, ev_cmp, ev_cmp2, ev_cmp1, ev_not, ev_not1, ev_and, ev_and1, ev_or, ev_or1, ev_e, ev_e1, ev_cif, ev_cif1, ev_qlt, ev_qle, ev_qgt, ev_qge, ev_qeq, ev_qne, ev_skip, ev_brk, ev_cnt, ev_retv, ev_seq, ev_seq0, ev_seq1, ev_seq2, ev_seq3, ev_seqi, ev_sif, ev_sif1, ev_ret, ev_ret1, ev_retz, ev_retzb, ev_retzc, ev_retz1, ev_retc, ev_asg, ev_s0, ev_s1, ev_s2, ev_s3, ev_s4, ev_s5, ev_s6, ev_s7, ev_s8, ev_s9, ev_s10, ev_s11, ev_exp, ev_exp1, ev_pf, ev_pf2, ev_pf1, ev_pz, ev_pz2, ev_pz1, ev_of, ev_of2, ev_of1, ev_st, ev_as, ev_as3, ev_as2, ev_as1, ev_oa, ev_oa3, ev_oa2, ev_oa1, ev_oa0, ev_cp, ev_cp3, ev_cp2, ev_cp1, ev_sw, ev_sw1, ev_swb0, ev_swb1, ev_swb3, ev_swbi, ev_fin3, ev_fin0, ev_fini, ev_iv, ev_ic, ev_b1, ev_b2, ev_b3, ev_b4, ev_b5, ev_b6, ev_or12, ev_lp, ev_lc, ev_lb0, ev_lb1, ev_lb2, ev_lb3, ev_lbi, ev_lu, ev_ass, Int.reduceAdd, Int.reduceSub, Int.reduceMul, Int.reduceNeg, Int.reduceLT, Int.reduceLE, Int.reduceGT, Int.reduceGE, Int.reduceEq, Int.reduceNe, Int.reduceDiv, Int.reduceMod, Int.reduceToNat, Nat.reduceAdd, Nat.reduceMul, Nat.reduceSub, Nat.reduceLT, Nat.reduceEqDiff, Int.reduceNatCast', reduceIte, ite_true, ite_false, if_true, if_false, decide_eq_true_eq, decide_true, decide_false, decide_not, Bool.not_eq_true', decide_eq_false_iff_not, Bool.not_not, Bool.and_eq_true, Bool.or_eq_true, Bool.not_true, Bool.not_false, not_true_eq_false, not_false_eq_true, true_and, and_true, false_and, and_false, true_or, or_true, false_or, or_false, Bool.true_and, Bool.and_true, Bool.false_and, Bool.and_false, Bool.true_or, Bool.or_true, Bool.or_false, Bool.false_or, Bool.not_eq_false', Bool.true_eq_false, Bool.false_eq_true, eq_self, Classical.not_not, ite_not, ne_eq, Option.some.injEq, Prod.mk.injEq, L_87]
    exact RS.done ⟨_, υ, rfl, mi⟩
  · rintro r ⟨E, υ, rfl, mi⟩
    cases e : bestT σ v x with
    | none =>
      rw [e] at mi
      have z : υ 87 17 = -1 := mi.2.2.2
      simp only [ev_op, ev_op2, ev_op1, ev_dv, ev_dv2, ev_dv1, ev_un, ev_un1, ev_lit, ev_l0, ev_l1, ev_l2, ev_l3, ev_l4, ev_l5, ev_l6, ev_l7, ev_l8, ev_l9, ev_l10, ev_l11, ev_rf, ev_gi, ev_gi1, ev_gi2, ev_gr, ev_gr1, ev_at0, ev_at, ev_al, ev_al2, ev_al1, ev_an, ev_an1, ev_vs0, ev_vs, ev_vs2, ev_vs1, ev_ca, ev_ca1, ev_cv, ev_cv1, ev_cv2, ev_if, ev_if1, ev_cmp, ev_cmp2, ev_cmp1, ev_not, ev_not1, ev_and, ev_and1, ev_or, ev_or1, ev_e, ev_e1, ev_cif, ev_cif1, ev_qlt, ev_qle, ev_qgt, ev_qge, ev_qeq, ev_qne, ev_skip, ev_brk, ev_cnt, ev_retv, ev_seq, ev_seq0, ev_seq1, ev_seq2, ev_seq3, ev_seqi, ev_sif, ev_sif1, ev_ret, ev_ret1, ev_retz, ev_retzb, ev_retzc, ev_retz1, ev_retc, ev_asg, ev_s0, ev_s1, ev_s2, ev_s3, ev_s4, ev_s5, ev_s6, ev_s7, ev_s8, ev_s9, ev_s10, ev_s11, ev_exp, ev_exp1, ev_pf, ev_pf2, ev_pf1, ev_pz, ev_pz2, ev_pz1, ev_of, ev_of2, ev_of1, ev_st, ev_as, ev_as3, ev_as2, ev_as1, ev_oa, ev_oa3, ev_oa2, ev_oa1, ev_oa0, ev_cp, ev_cp3, ev_cp2, ev_cp1, ev_sw, ev_sw1, ev_swb0, ev_swb1, ev_swb3, ev_swbi, ev_fin3, ev_fin0, ev_fini, ev_iv, ev_ic, ev_b1, ev_b2, ev_b3, ev_b4, ev_b5, ev_b6, ev_or12, ev_lp, ev_lc, ev_lb0, ev_lb1, ev_lb2, ev_lb3, ev_lbi, ev_lu, ev_ass, Int.reduceAdd, Int.reduceSub, Int.reduceMul, Int.reduceNeg, Int.reduceLT, Int.reduceLE, Int.reduceGT, Int.reduceGE, Int.reduceEq, Int.reduceNe, Int.reduceDiv, Int.reduceMod, Int.reduceToNat, Nat.reduceAdd, Nat.reduceMul, Nat.reduceSub, Nat.reduceLT, Nat.reduceEqDiff, Int.reduceNatCast', reduceIte, ite_true, ite_false, if_true, if_false, decide_eq_true_eq, decide_true, decide_false, decide_not, Bool.not_eq_true', decide_eq_false_iff_not, Bool.not_not, Bool.and_eq_true, Bool.or_eq_true, Bool.not_true, Bool.not_false, not_true_eq_false, not_false_eq_true, true_and, and_true, false_and, and_false, true_or, or_true, false_or, or_false, Bool.true_and, Bool.and_true, Bool.false_and, Bool.and_false, Bool.true_or, Bool.or_true, Bool.or_false, Bool.false_or, Bool.not_eq_false', Bool.true_eq_false, Bool.false_eq_true, eq_self, Classical.not_not, ite_not, ne_eq, Option.some.injEq, Prod.mk.injEq, L_87, z, Option.isSome]
      exact WF.mk ⟨rfl, mi⟩
    | some d =>
      rw [e] at mi
      have z : υ 87 17 = d.2 := mi.2.2.2.2.1
      have z2 : 0 ≤ d.2 := mi.2.2.2.1
      simp only [ev_op, ev_op2, ev_op1, ev_dv, ev_dv2, ev_dv1, ev_un, ev_un1, ev_lit, ev_l0, ev_l1, ev_l2, ev_l3, ev_l4, ev_l5, ev_l6, ev_l7, ev_l8, ev_l9, ev_l10, ev_l11, ev_rf, ev_gi, ev_gi1, ev_gi2, ev_gr, ev_gr1, ev_at0, ev_at, ev_al, ev_al2, ev_al1, ev_an, ev_an1, ev_vs0, ev_vs, ev_vs2, ev_vs1, ev_ca, ev_ca1, ev_cv, ev_cv1, ev_cv2, ev_if, ev_if1, ev_cmp, ev_cmp2, ev_cmp1, ev_not, ev_not1, ev_and, ev_and1, ev_or, ev_or1, ev_e, ev_e1, ev_cif, ev_cif1, ev_qlt, ev_qle, ev_qgt, ev_qge, ev_qeq, ev_qne, ev_skip, ev_brk, ev_cnt, ev_retv, ev_seq, ev_seq0, ev_seq1, ev_seq2, ev_seq3, ev_seqi, ev_sif, ev_sif1, ev_ret, ev_ret1, ev_retz, ev_retzb, ev_retzc, ev_retz1, ev_retc, ev_asg, ev_s0, ev_s1, ev_s2, ev_s3, ev_s4, ev_s5, ev_s6, ev_s7, ev_s8, ev_s9, ev_s10, ev_s11, ev_exp, ev_exp1, ev_pf, ev_pf2, ev_pf1, ev_pz, ev_pz2, ev_pz1, ev_of, ev_of2, ev_of1, ev_st, ev_as, ev_as3, ev_as2, ev_as1, ev_oa, ev_oa3, ev_oa2, ev_oa1, ev_oa0, ev_cp, ev_cp3, ev_cp2, ev_cp1, ev_sw, ev_sw1, ev_swb0, ev_swb1, ev_swb3, ev_swbi, ev_fin3, ev_fin0, ev_fini, ev_iv, ev_ic, ev_b1, ev_b2, ev_b3, ev_b4, ev_b5, ev_b6, ev_or12, ev_lp, ev_lc, ev_lb0, ev_lb1, ev_lb2, ev_lb3, ev_lbi, ev_lu, ev_ass, Int.reduceAdd, Int.reduceSub, Int.reduceMul, Int.reduceNeg, Int.reduceLT, Int.reduceLE, Int.reduceGT, Int.reduceGE, Int.reduceEq, Int.reduceNe, Int.reduceDiv, Int.reduceMod, Int.reduceToNat, Nat.reduceAdd, Nat.reduceMul, Nat.reduceSub, Nat.reduceLT, Nat.reduceEqDiff, Int.reduceNatCast', reduceIte, ite_true, ite_false, if_true, if_false, decide_eq_true_eq, decide_true, decide_false, decide_not, Bool.not_eq_true', decide_eq_false_iff_not, Bool.not_not, Bool.and_eq_true, Bool.or_eq_true, Bool.not_true, Bool.not_false, not_true_eq_false, not_false_eq_true, true_and, and_true, false_and, and_false, true_or, or_true, false_or, or_false, Bool.true_and, Bool.and_true, Bool.false_and, Bool.and_false, Bool.true_or, Bool.or_true, Bool.or_false, Bool.false_or, Bool.not_eq_false', Bool.true_eq_false, Bool.false_eq_true, eq_self, Classical.not_not, ite_not, ne_eq, Option.some.injEq, Prod.mk.injEq, L_87, z, z2, Option.isSome]
      exact WF.mk ⟨rfl, mi⟩
