/-! ===== Math.max, Math.min ===== -/
def omax (x y : Int) : Int := if x < y then y else x
def omin (x y : Int) : Int := if y < x then y else x
theorem k_max {x y : Int} (a : okv 0 x) (b : okv 0 y) : okv 0 (omax x y) := by unfold omax; split; exact b; exact a
theorem k_min {x y : Int} (a : okv 0 x) (b : okv 0 y) : okv 0 (omin x y) := by unfold omin; split; exact b; exact a
theorem wmx_c : Cond.code Lib.Math.max.name Lib.Math.max.code 2 (some .int) ∈ BIG := co_J_max
theorem wmn_c : Cond.code Lib.Math.min.name Lib.Math.min.code 2 (some .int) ∈ BIG := co_J_min
theorem WW_max {X : cvT} {M : cvI} {pc index : Nat} {st : List Value} {E : cvE} {σ : cvM} {x y : Int} (hx : Cx X M) (hl : Cond.methodLink M.2.2.1 index yJ_max ∈ BIG) (hd : decode M.1 pc = .ok (.invokestatic index, 3)) (a : InR x) (b : InR y) (hst : stk st ≤ 8) (hfr : 1 ≤ M.2.2.2.2.1) (hlo : 21 ≤ M.2.2.2.2.2.1)
    (kk : WW X M (pc + 3) (.int (Int32.ofInt (omax x y)) :: st) E σ) : WW X M pc (.int (Int32.ofInt y) :: .int (Int32.ofInt x) :: st) E σ := by
  obtain ⟨p, l, e, R, s, m, args, below, meth, c, D, cA, ad, sd, sv, A, cells, slots, Q⟩ := X
  obtain ⟨h1, h2, h3, h4, h5, h6, h7, h8, h9, h10, h11, h12, h13, h14, h15⟩ := hx
  intro H ls locs hP hI hL hS
  have e1 : (if Int32.ofInt x < Int32.ofInt y then Int32.ofInt y else Int32.ofInt x) = Int32.ofInt (omax x y) := by
    unfold omax
    by_cases h : x < y
    · rw [if_pos h, if_pos ((q_lt a b).mpr h)]
    · rw [if_neg h, if_neg (fun z => h ((q_lt a b).mp z))]
  refine va_mmax h1 h2 (h3.trans hL.1.symm) h4 (h5 _ hl) (h5 _ st_J_max) (h5 _ in_JM) (h5 _ wmx_c) (Nat.le_trans hfr h10) ?_ h12 h13 hd ?_
  · show stk st + 13 ≤ R.locals
    exact Nat.le_trans (by omega) (Nat.le_trans hlo h11)
  · rw [e1]
    exact kk H ls locs hP hI hL hS
theorem WW_min {X : cvT} {M : cvI} {pc index : Nat} {st : List Value} {E : cvE} {σ : cvM} {x y : Int} (hx : Cx X M) (hl : Cond.methodLink M.2.2.1 index yJ_min ∈ BIG) (hd : decode M.1 pc = .ok (.invokestatic index, 3)) (a : InR x) (b : InR y) (hst : stk st ≤ 8) (hfr : 1 ≤ M.2.2.2.2.1) (hlo : 21 ≤ M.2.2.2.2.2.1)
    (kk : WW X M (pc + 3) (.int (Int32.ofInt (omin x y)) :: st) E σ) : WW X M pc (.int (Int32.ofInt y) :: .int (Int32.ofInt x) :: st) E σ := by
  obtain ⟨p, l, e, R, s, m, args, below, meth, c, D, cA, ad, sd, sv, A, cells, slots, Q⟩ := X
  obtain ⟨h1, h2, h3, h4, h5, h6, h7, h8, h9, h10, h11, h12, h13, h14, h15⟩ := hx
  intro H ls locs hP hI hL hS
  have e1 : (if Int32.ofInt y < Int32.ofInt x then Int32.ofInt y else Int32.ofInt x) = Int32.ofInt (omin x y) := by
    unfold omin
    by_cases h : y < x
    · rw [if_pos h, if_pos ((q_lt b a).mpr h)]
    · rw [if_neg h, if_neg (fun z => h ((q_lt b a).mp z))]
  refine va_mmin h1 h2 (h3.trans hL.1.symm) h4 (h5 _ hl) (h5 _ st_J_min) (h5 _ in_JM) (h5 _ wmn_c) (Nat.le_trans hfr h10) ?_ h12 h13 hd ?_
  · show stk st + 13 ≤ R.locals
    exact Nat.le_trans (by omega) (Nat.le_trans hlo h11)
  · rw [e1]
    exact kk H ls locs hP hI hL hS
theorem EI.max {M : cvI} {d pc p1 p2 index : Nat} {a b : cvX} (ha : EI M d pc p1 0 a) (hb : EI M (d + 1) p1 p2 0 b) (hd : decode M.1 p2 = .ok (.invokestatic index, 3)) (hl : Cond.methodLink M.2.2.1 index yJ_max ∈ BIG) (h8 : d ≤ 8) (hfr : 1 ≤ M.2.2.2.2.1) (hlo : 21 ≤ M.2.2.2.2.2.1) : EI M d pc (p2 + 3) 0 (xe_op omax a b) := by
  intro X hx rest E σ v σ' he hs kk
  obtain ⟨⟨x, σ1⟩, e1, he⟩ := bnd he
  obtain ⟨⟨y, σ2⟩, e2, he⟩ := bnd he
  cases he
  refine ha X hx rest E σ x σ1 e1 hs (fun o1 => ?_)
  refine hb X hx _ E σ1 y σ2 e2 (stk0 hs) (fun o2 => ?_)
  exact WW_max hx hl hd o1 o2 (Nat.le_trans hs h8) hfr hlo (kk (k_max o1 o2))
theorem EI.min {M : cvI} {d pc p1 p2 index : Nat} {a b : cvX} (ha : EI M d pc p1 0 a) (hb : EI M (d + 1) p1 p2 0 b) (hd : decode M.1 p2 = .ok (.invokestatic index, 3)) (hl : Cond.methodLink M.2.2.1 index yJ_min ∈ BIG) (h8 : d ≤ 8) (hfr : 1 ≤ M.2.2.2.2.1) (hlo : 21 ≤ M.2.2.2.2.2.1) : EI M d pc (p2 + 3) 0 (xe_op omin a b) := by
  intro X hx rest E σ v σ' he hs kk
  obtain ⟨⟨x, σ1⟩, e1, he⟩ := bnd he
  obtain ⟨⟨y, σ2⟩, e2, he⟩ := bnd he
  cases he
  refine ha X hx rest E σ x σ1 e1 hs (fun o1 => ?_)
  refine hb X hx _ E σ1 y σ2 e2 (stk0 hs) (fun o2 => ?_)
  exact WW_min hx hl hd o1 o2 (Nat.le_trans hs h8) hfr hlo (kk (k_min o1 o2))
