/-! ===== EVALUATION: each combinator waits for its first part (no continuation under a binder) ===== -/
def e_op2 (f : Int → Int → Int) (r : Option (Int × cvM)) (b : cvX) (E : cvE) : Option (Int × cvM) := r.bind fun q => (b E q.2).bind fun z => some (f q.1 z.1, z.2)
def e_op1 (f : Int → Int → Int) (v : Int) (r : Option (Int × cvM)) : Option (Int × cvM) := r.bind fun z => some (f v z.1, z.2)
theorem ev_op (f : Int → Int → Int) (a b : cvX) (E : cvE) (σ : cvM) : xe_op f a b E σ = e_op2 f (a E σ) b E := Eq.trans rfl rfl
theorem ev_op2 (f : Int → Int → Int) (v : Int) (b : cvX) (E : cvE) (σ : cvM) : e_op2 f (some (v, σ)) b E = e_op1 f v (b E σ) := Eq.trans rfl rfl
theorem ev_op1 (f : Int → Int → Int) (v w : Int) (σ : cvM) : e_op1 f v (some (w, σ)) = some (f v w, σ) := Eq.trans rfl rfl
def e_dv2 (f : Int → Int → Int) (r : Option (Int × cvM)) (b : cvX) (E : cvE) : Option (Int × cvM) := r.bind fun q => (b E q.2).bind fun z => if z.1 = 0 then none else some (f q.1 z.1, z.2)
def e_dv1 (f : Int → Int → Int) (v : Int) (r : Option (Int × cvM)) : Option (Int × cvM) := r.bind fun z => if z.1 = 0 then none else some (f v z.1, z.2)
theorem ev_dv (f : Int → Int → Int) (a b : cvX) (E : cvE) (σ : cvM) : xe_dv f a b E σ = e_dv2 f (a E σ) b E := Eq.trans rfl rfl
theorem ev_dv2 (f : Int → Int → Int) (v : Int) (b : cvX) (E : cvE) (σ : cvM) : e_dv2 f (some (v, σ)) b E = e_dv1 f v (b E σ) := Eq.trans rfl rfl
theorem ev_dv1 (f : Int → Int → Int) (v w : Int) (σ : cvM) (h : w ≠ 0) : e_dv1 f v (some (w, σ)) = some (f v w, σ) := if_neg h
def e_un (f : Int → Int) (r : Option (Int × cvM)) : Option (Int × cvM) := r.bind fun q => some (f q.1, q.2)
theorem ev_un (f : Int → Int) (a : cvX) (E : cvE) (σ : cvM) : xe_un f a E σ = e_un f (a E σ) := Eq.trans rfl rfl
theorem ev_un1 (f : Int → Int) (v : Int) (σ : cvM) : e_un f (some (v, σ)) = some (f v, σ) := Eq.trans rfl rfl
theorem ev_lit (n : Int) (E : cvE) (σ : cvM) : xe_lit n E σ = some (n, σ) := Eq.trans rfl rfl
theorem ev_l0 (v : Int) (l : cvE) (σ : cvM) : xe_loc 0 (some v :: l) σ = some (v, σ) := Eq.trans rfl rfl
theorem ev_l1 (x0 : Option Int) (v : Int) (l : cvE) (σ : cvM) : xe_loc 1 (x0 :: some v :: l) σ = some (v, σ) := Eq.trans rfl rfl
theorem ev_l2 (x0 x1 : Option Int) (v : Int) (l : cvE) (σ : cvM) : xe_loc 2 (x0 :: x1 :: some v :: l) σ = some (v, σ) := Eq.trans rfl rfl
theorem ev_l3 (x0 x1 x2 : Option Int) (v : Int) (l : cvE) (σ : cvM) : xe_loc 3 (x0 :: x1 :: x2 :: some v :: l) σ = some (v, σ) := Eq.trans rfl rfl
theorem ev_l4 (x0 x1 x2 x3 : Option Int) (v : Int) (l : cvE) (σ : cvM) : xe_loc 4 (x0 :: x1 :: x2 :: x3 :: some v :: l) σ = some (v, σ) := Eq.trans rfl rfl
theorem ev_l5 (x0 x1 x2 x3 x4 : Option Int) (v : Int) (l : cvE) (σ : cvM) : xe_loc 5 (x0 :: x1 :: x2 :: x3 :: x4 :: some v :: l) σ = some (v, σ) := Eq.trans rfl rfl
theorem ev_l6 (x0 x1 x2 x3 x4 x5 : Option Int) (v : Int) (l : cvE) (σ : cvM) : xe_loc 6 (x0 :: x1 :: x2 :: x3 :: x4 :: x5 :: some v :: l) σ = some (v, σ) := Eq.trans rfl rfl
theorem ev_l7 (x0 x1 x2 x3 x4 x5 x6 : Option Int) (v : Int) (l : cvE) (σ : cvM) : xe_loc 7 (x0 :: x1 :: x2 :: x3 :: x4 :: x5 :: x6 :: some v :: l) σ = some (v, σ) := Eq.trans rfl rfl
theorem ev_l8 (x0 x1 x2 x3 x4 x5 x6 x7 : Option Int) (v : Int) (l : cvE) (σ : cvM) : xe_loc 8 (x0 :: x1 :: x2 :: x3 :: x4 :: x5 :: x6 :: x7 :: some v :: l) σ = some (v, σ) := Eq.trans rfl rfl
theorem ev_l9 (x0 x1 x2 x3 x4 x5 x6 x7 x8 : Option Int) (v : Int) (l : cvE) (σ : cvM) : xe_loc 9 (x0 :: x1 :: x2 :: x3 :: x4 :: x5 :: x6 :: x7 :: x8 :: some v :: l) σ = some (v, σ) := Eq.trans rfl rfl
theorem ev_l10 (x0 x1 x2 x3 x4 x5 x6 x7 x8 x9 : Option Int) (v : Int) (l : cvE) (σ : cvM) : xe_loc 10 (x0 :: x1 :: x2 :: x3 :: x4 :: x5 :: x6 :: x7 :: x8 :: x9 :: some v :: l) σ = some (v, σ) := Eq.trans rfl rfl
theorem ev_l11 (x0 x1 x2 x3 x4 x5 x6 x7 x8 x9 x10 : Option Int) (v : Int) (l : cvE) (σ : cvM) : xe_loc 11 (x0 :: x1 :: x2 :: x3 :: x4 :: x5 :: x6 :: x7 :: x8 :: x9 :: x10 :: some v :: l) σ = some (v, σ) := Eq.trans rfl rfl
def e_rf (r : Option Int) (σ : cvM) : Option (Int × cvM) := r.map fun v => (v, σ)
theorem ev_rf (v : Int) (σ : cvM) : e_rf (some v) σ = some (v, σ) := Eq.trans rfl rfl
def e_gi (c j : Nat) (r : Option (Int × cvM)) : Option (Int × cvM) := r.bind fun r => if isI c j r.1 = true then some (r.2 r.1 j, r.2) else none
def e_gi1 (q : Bool) (j : Nat) (k : Int) (σ : cvM) : Option (Int × cvM) := if q = true then some (σ k j, σ) else none
theorem ev_gi (c j : Nat) (o : cvX) (E : cvE) (σ : cvM) : xe_gi c j o E σ = e_gi c j (o E σ) := Eq.trans rfl rfl
theorem ev_gi1 (c j : Nat) (k : Int) (σ : cvM) : e_gi c j (some (k, σ)) = e_gi1 (isI c j k) j k σ := Eq.trans rfl rfl
theorem ev_gi2 (j : Nat) (k : Int) (σ : cvM) : e_gi1 true j k σ = some (σ k (j : Int), σ) := Eq.trans rfl rfl
def e_gr (c j : Nat) (r : Option (Int × cvM)) : Option (Int × cvM) := r.bind fun r => (refOf c j r.1).map fun v => (v, r.2)
theorem ev_gr (c j : Nat) (o : cvX) (E : cvE) (σ : cvM) : xe_gr c j o E σ = e_gr c j (o E σ) := Eq.trans rfl rfl
theorem ev_gr1 (c j : Nat) (k : Int) (σ : cvM) : e_gr c j (some (k, σ)) = e_rf (refOf c j k) σ := Eq.trans rfl rfl
def e_at (n : Option Int) (k i : Int) (σ : cvM) : Option (Int × cvM) := n.bind fun n => if 0 ≤ i ∧ i < n then some (σ k i, σ) else none
theorem ev_at0 (k i : Int) (σ : cvM) : atA k i σ = e_at (lenOf k) k i σ := Eq.trans rfl rfl
theorem ev_at (n k i : Int) (σ : cvM) (h : 0 ≤ i ∧ i < n) : e_at (some n) k i σ = some (σ k i, σ) := if_pos h
def e_al2 (r : Option (Int × cvM)) (i : cvX) (E : cvE) : Option (Int × cvM) := r.bind fun r => (i E r.2).bind fun q => atA r.1 q.1 q.2
def e_al1 (k : Int) (r : Option (Int × cvM)) : Option (Int × cvM) := r.bind fun q => atA k q.1 q.2
theorem ev_al (a i : cvX) (E : cvE) (σ : cvM) : xe_al a i E σ = e_al2 (a E σ) i E := Eq.trans rfl rfl
theorem ev_al2 (k : Int) (i : cvX) (E : cvE) (σ : cvM) : e_al2 (some (k, σ)) i E = e_al1 k (i E σ) := Eq.trans rfl rfl
theorem ev_al1 (k i : Int) (σ : cvM) : e_al1 k (some (i, σ)) = e_at (lenOf k) k i σ := Eq.trans rfl rfl
def e_an (r : Option (Int × cvM)) : Option (Int × cvM) := r.bind fun r => (lenOf r.1).map fun n => (n, r.2)
theorem ev_an (a : cvX) (E : cvE) (σ : cvM) : xe_an a E σ = e_an (a E σ) := Eq.trans rfl rfl
theorem ev_an1 (k : Int) (σ : cvM) : e_an (some (k, σ)) = e_rf (lenOf k) σ := Eq.trans rfl rfl
def e_vs2 (r : Option (Int × cvM)) (as : List cvX) (E : cvE) : Option (List Int × cvM) := r.bind fun r => (evs as E r.2).bind fun q => some (r.1 :: q.1, q.2)
def e_vs1 (v : Int) (r : Option (List Int × cvM)) : Option (List Int × cvM) := r.bind fun q => some (v :: q.1, q.2)
theorem ev_vs0 (E : cvE) (σ : cvM) : evs [] E σ = some ([], σ) := Eq.trans rfl rfl
theorem ev_vs (a : cvX) (as : List cvX) (E : cvE) (σ : cvM) : evs (a :: as) E σ = e_vs2 (a E σ) as E := Eq.trans rfl rfl
theorem ev_vs2 (v : Int) (as : List cvX) (E : cvE) (σ : cvM) : e_vs2 (some (v, σ)) as E = e_vs1 v (evs as E σ) := Eq.trans rfl rfl
theorem ev_vs1 (v : Int) (vs : List Int) (σ : cvM) : e_vs1 v (some (vs, σ)) = some (v :: vs, σ) := Eq.trans rfl rfl
def e_ca (f : cvF) (r : Option (List Int × cvM)) : Option (Int × cvM) := r.bind fun r => f r.1 r.2
theorem ev_ca (f : cvF) (as : List cvX) (E : cvE) (σ : cvM) : xe_ca f as E σ = e_ca f (evs as E σ) := Eq.trans rfl rfl
theorem ev_ca1 (f : cvF) (vs : List Int) (σ : cvM) : e_ca f (some (vs, σ)) = f vs σ := Eq.trans rfl rfl
def e_cv (c : Nat) (f : cvF) (r : Option (List Int × cvM)) : Option (Int × cvM) := r.bind fun r => if isOb c (r.1.headD 0) = true then f r.1 r.2 else none
def e_cv1 (q : Bool) (f : cvF) (vs : List Int) (σ : cvM) : Option (Int × cvM) := if q = true then f vs σ else none
theorem ev_cv (c : Nat) (f : cvF) (as : List cvX) (E : cvE) (σ : cvM) : xe_cv c f as E σ = e_cv c f (evs as E σ) := Eq.trans rfl rfl
theorem ev_cv1 (c : Nat) (f : cvF) (v : Int) (vs : List Int) (σ : cvM) : e_cv c f (some (v :: vs, σ)) = e_cv1 (isOb c v) f (v :: vs) σ := Eq.trans rfl rfl
theorem ev_cv2 (f : cvF) (vs : List Int) (σ : cvM) : e_cv1 true f vs σ = f vs σ := Eq.trans rfl rfl
def e_if (r : Option (Bool × cvM)) (a b : cvX) (E : cvE) : Option (Int × cvM) := r.bind fun r => if r.1 = true then a E r.2 else b E r.2
theorem ev_if (c : cvC) (a b : cvX) (E : cvE) (σ : cvM) : xe_if c a b E σ = e_if (c E σ) a b E := Eq.trans rfl rfl
theorem ev_if1 (q : Bool) (a b : cvX) (E : cvE) (σ : cvM) : e_if (some (q, σ)) a b E = if q = true then a E σ else b E σ := Eq.trans rfl rfl
def c_cmp2 (f : Int → Int → Bool) (r : Option (Int × cvM)) (b : cvX) (E : cvE) : Option (Bool × cvM) := r.bind fun r => (b E r.2).bind fun q => some (f r.1 q.1, q.2)
def c_cmp1 (f : Int → Int → Bool) (v : Int) (r : Option (Int × cvM)) : Option (Bool × cvM) := r.bind fun q => some (f v q.1, q.2)
theorem ev_cmp (f : Int → Int → Bool) (a b : cvX) (E : cvE) (σ : cvM) : xc_cmp f a b E σ = c_cmp2 f (a E σ) b E := Eq.trans rfl rfl
theorem ev_cmp2 (f : Int → Int → Bool) (v : Int) (b : cvX) (E : cvE) (σ : cvM) : c_cmp2 f (some (v, σ)) b E = c_cmp1 f v (b E σ) := Eq.trans rfl rfl
theorem ev_cmp1 (f : Int → Int → Bool) (v w : Int) (σ : cvM) : c_cmp1 f v (some (w, σ)) = some (f v w, σ) := Eq.trans rfl rfl
def c_not (r : Option (Bool × cvM)) : Option (Bool × cvM) := r.bind fun r => some (!r.1, r.2)
theorem ev_not (c : cvC) (E : cvE) (σ : cvM) : xc_not c E σ = c_not (c E σ) := Eq.trans rfl rfl
theorem ev_not1 (q : Bool) (σ : cvM) : c_not (some (q, σ)) = some (!q, σ) := Eq.trans rfl rfl
def c_and (r : Option (Bool × cvM)) (d : cvC) (E : cvE) : Option (Bool × cvM) := r.bind fun r => if r.1 = true then d E r.2 else some (false, r.2)
theorem ev_and (c d : cvC) (E : cvE) (σ : cvM) : xc_and c d E σ = c_and (c E σ) d E := Eq.trans rfl rfl
theorem ev_and1 (q : Bool) (d : cvC) (E : cvE) (σ : cvM) : c_and (some (q, σ)) d E = if q = true then d E σ else some (false, σ) := Eq.trans rfl rfl
def c_or (r : Option (Bool × cvM)) (d : cvC) (E : cvE) : Option (Bool × cvM) := r.bind fun r => if r.1 = true then some (true, r.2) else d E r.2
theorem ev_or (c d : cvC) (E : cvE) (σ : cvM) : xc_or c d E σ = c_or (c E σ) d E := Eq.trans rfl rfl
theorem ev_or1 (q : Bool) (d : cvC) (E : cvE) (σ : cvM) : c_or (some (q, σ)) d E = if q = true then some (true, σ) else d E σ := Eq.trans rfl rfl
def c_e (r : Option (Int × cvM)) : Option (Bool × cvM) := r.bind fun r => some (!(decide (r.1 = 0)), r.2)
theorem ev_e (a : cvX) (E : cvE) (σ : cvM) : xc_e a E σ = c_e (a E σ) := Eq.trans rfl rfl
theorem ev_e1 (v : Int) (σ : cvM) : c_e (some (v, σ)) = some (!(decide (v = 0)), σ) := Eq.trans rfl rfl
def c_if (r : Option (Bool × cvM)) (d e : cvC) (E : cvE) : Option (Bool × cvM) := r.bind fun r => if r.1 = true then d E r.2 else e E r.2
theorem ev_cif (c d e : cvC) (E : cvE) (σ : cvM) : xc_if c d e E σ = c_if (c E σ) d e E := Eq.trans rfl rfl
theorem ev_cif1 (q : Bool) (d e : cvC) (E : cvE) (σ : cvM) : c_if (some (q, σ)) d e E = if q = true then d E σ else e E σ := Eq.trans rfl rfl
theorem ev_qlt (x y : Int) : qlt x y = decide (x < y) := Eq.trans rfl rfl
theorem ev_qle (x y : Int) : qle x y = decide (x ≤ y) := Eq.trans rfl rfl
theorem ev_qgt (x y : Int) : qgt x y = decide (y < x) := Eq.trans rfl rfl
theorem ev_qge (x y : Int) : qge x y = decide (y ≤ x) := Eq.trans rfl rfl
theorem ev_qeq (x y : Int) : qeq x y = decide (x = y) := Eq.trans rfl rfl
theorem ev_qne (x y : Int) : qne x y = !(decide (x = y)) := Eq.trans rfl rfl
theorem ev_skip (E : cvE) (σ : cvM) : xs_skip E σ = some (0, 0, E, σ) := Eq.trans rfl rfl
theorem ev_brk (E : cvE) (σ : cvM) : xs_brk E σ = some (1, 0, E, σ) := Eq.trans rfl rfl
theorem ev_cnt (E : cvE) (σ : cvM) : xs_cnt E σ = some (2, 0, E, σ) := Eq.trans rfl rfl
theorem ev_retv (E : cvE) (σ : cvM) : xs_retv E σ = some (3, 0, E, σ) := Eq.trans rfl rfl
def s_seq (r : Option cvR) (b : cvS) : Option cvR := r.bind fun r => if r.1 = 0 then b r.2.2.1 r.2.2.2 else some r
theorem ev_seq (a b : cvS) (E : cvE) (σ : cvM) : xs_seq a b E σ = s_seq (a E σ) b := Eq.trans rfl rfl
theorem ev_seq0 (w : Int) (b : cvS) (E : cvE) (σ : cvM) : s_seq (some (0, w, E, σ)) b = b E σ := Eq.trans rfl rfl
theorem ev_seq1 (w : Int) (b : cvS) (E : cvE) (σ : cvM) : s_seq (some (1, w, E, σ)) b = some (1, w, E, σ) := Eq.trans rfl rfl
theorem ev_seq2 (w : Int) (b : cvS) (E : cvE) (σ : cvM) : s_seq (some (2, w, E, σ)) b = some (2, w, E, σ) := Eq.trans rfl rfl
theorem ev_seq3 (w : Int) (b : cvS) (E : cvE) (σ : cvM) : s_seq (some (3, w, E, σ)) b = some (3, w, E, σ) := Eq.trans rfl rfl
theorem ev_seqi (P : Prop) [Decidable P] (x y : Option cvR) (b : cvS) : s_seq (if P then x else y) b = if P then s_seq x b else s_seq y b := by split <;> rfl
def s_if (r : Option (Bool × cvM)) (a b : cvS) (E : cvE) : Option cvR := r.bind fun r => if r.1 = true then a E r.2 else b E r.2
theorem ev_sif (c : cvC) (a b : cvS) (E : cvE) (σ : cvM) : xs_if c a b E σ = s_if (c E σ) a b E := Eq.trans rfl rfl
theorem ev_sif1 (q : Bool) (a b : cvS) (E : cvE) (σ : cvM) : s_if (some (q, σ)) a b E = if q = true then a E σ else b E σ := Eq.trans rfl rfl
def s_ret (r : Option (Int × cvM)) (E : cvE) : Option cvR := r.bind fun r => some (3, r.1, E, r.2)
theorem ev_ret (a : cvX) (E : cvE) (σ : cvM) : xs_ret a E σ = s_ret (a E σ) E := Eq.trans rfl rfl
theorem ev_ret1 (v : Int) (E : cvE) (σ : cvM) : s_ret (some (v, σ)) E = some (3, v, E, σ) := Eq.trans rfl rfl
def s_retz (r : Option (Int × cvM)) (E : cvE) : Option cvR := r.bind fun r => if r.1 = 0 ∨ r.1 = 1 then some (3, r.1, E, r.2) else none
theorem ev_retz (a : cvX) (E : cvE) (σ : cvM) : xs_retz a E σ = s_retz (a E σ) E := Eq.trans rfl rfl
theorem ev_retzb (P : Prop) [Decidable P] (E : cvE) (σ : cvM) : s_retz (some (if P then 1 else 0, σ)) E = some (3, if P then 1 else 0, E, σ) := by by_cases h : P <;> simp [s_retz, h]
theorem ev_retzc (P : Prop) [Decidable P] (E : cvE) (σ : cvM) : s_retz (some (if P then 0 else 1, σ)) E = some (3, if P then 0 else 1, E, σ) := by by_cases h : P <;> simp [s_retz, h]
theorem ev_retz1 (v : Int) (E : cvE) (σ : cvM) (h : v = 0 ∨ v = 1) : s_retz (some (v, σ)) E = some (3, v, E, σ) := if_pos h
theorem ev_retc (a : cvX) (E : cvE) (σ : cvM) : xs_retc a E σ = (a E σ).bind fun r => if 0 ≤ r.1 ∧ r.1 < 128 then some (3, r.1, E, r.2) else none := Eq.trans rfl rfl
def s_asg (k : Nat) (r : Option (Int × cvM)) (E : cvE) : Option cvR := r.bind fun r => some (0, 0, E.set k (some r.1), r.2)
theorem ev_asg (k : Nat) (a : cvX) (E : cvE) (σ : cvM) : xs_asg k a E σ = s_asg k (a E σ) E := Eq.trans rfl rfl
theorem ev_s0 (x0 : Option Int) (v : Int) (l : cvE) (σ : cvM) : s_asg 0 (some (v, σ)) (x0 :: l) = some (0, 0, some v :: l, σ) := Eq.trans rfl rfl
theorem ev_s1 (x0 x1 : Option Int) (v : Int) (l : cvE) (σ : cvM) : s_asg 1 (some (v, σ)) (x0 :: x1 :: l) = some (0, 0, x0 :: some v :: l, σ) := Eq.trans rfl rfl
theorem ev_s2 (x0 x1 x2 : Option Int) (v : Int) (l : cvE) (σ : cvM) : s_asg 2 (some (v, σ)) (x0 :: x1 :: x2 :: l) = some (0, 0, x0 :: x1 :: some v :: l, σ) := Eq.trans rfl rfl
theorem ev_s3 (x0 x1 x2 x3 : Option Int) (v : Int) (l : cvE) (σ : cvM) : s_asg 3 (some (v, σ)) (x0 :: x1 :: x2 :: x3 :: l) = some (0, 0, x0 :: x1 :: x2 :: some v :: l, σ) := Eq.trans rfl rfl
theorem ev_s4 (x0 x1 x2 x3 x4 : Option Int) (v : Int) (l : cvE) (σ : cvM) : s_asg 4 (some (v, σ)) (x0 :: x1 :: x2 :: x3 :: x4 :: l) = some (0, 0, x0 :: x1 :: x2 :: x3 :: some v :: l, σ) := Eq.trans rfl rfl
theorem ev_s5 (x0 x1 x2 x3 x4 x5 : Option Int) (v : Int) (l : cvE) (σ : cvM) : s_asg 5 (some (v, σ)) (x0 :: x1 :: x2 :: x3 :: x4 :: x5 :: l) = some (0, 0, x0 :: x1 :: x2 :: x3 :: x4 :: some v :: l, σ) := Eq.trans rfl rfl
theorem ev_s6 (x0 x1 x2 x3 x4 x5 x6 : Option Int) (v : Int) (l : cvE) (σ : cvM) : s_asg 6 (some (v, σ)) (x0 :: x1 :: x2 :: x3 :: x4 :: x5 :: x6 :: l) = some (0, 0, x0 :: x1 :: x2 :: x3 :: x4 :: x5 :: some v :: l, σ) := Eq.trans rfl rfl
theorem ev_s7 (x0 x1 x2 x3 x4 x5 x6 x7 : Option Int) (v : Int) (l : cvE) (σ : cvM) : s_asg 7 (some (v, σ)) (x0 :: x1 :: x2 :: x3 :: x4 :: x5 :: x6 :: x7 :: l) = some (0, 0, x0 :: x1 :: x2 :: x3 :: x4 :: x5 :: x6 :: some v :: l, σ) := Eq.trans rfl rfl
theorem ev_s8 (x0 x1 x2 x3 x4 x5 x6 x7 x8 : Option Int) (v : Int) (l : cvE) (σ : cvM) : s_asg 8 (some (v, σ)) (x0 :: x1 :: x2 :: x3 :: x4 :: x5 :: x6 :: x7 :: x8 :: l) = some (0, 0, x0 :: x1 :: x2 :: x3 :: x4 :: x5 :: x6 :: x7 :: some v :: l, σ) := Eq.trans rfl rfl
theorem ev_s9 (x0 x1 x2 x3 x4 x5 x6 x7 x8 x9 : Option Int) (v : Int) (l : cvE) (σ : cvM) : s_asg 9 (some (v, σ)) (x0 :: x1 :: x2 :: x3 :: x4 :: x5 :: x6 :: x7 :: x8 :: x9 :: l) = some (0, 0, x0 :: x1 :: x2 :: x3 :: x4 :: x5 :: x6 :: x7 :: x8 :: some v :: l, σ) := Eq.trans rfl rfl
theorem ev_s10 (x0 x1 x2 x3 x4 x5 x6 x7 x8 x9 x10 : Option Int) (v : Int) (l : cvE) (σ : cvM) : s_asg 10 (some (v, σ)) (x0 :: x1 :: x2 :: x3 :: x4 :: x5 :: x6 :: x7 :: x8 :: x9 :: x10 :: l) = some (0, 0, x0 :: x1 :: x2 :: x3 :: x4 :: x5 :: x6 :: x7 :: x8 :: x9 :: some v :: l, σ) := Eq.trans rfl rfl
theorem ev_s11 (x0 x1 x2 x3 x4 x5 x6 x7 x8 x9 x10 x11 : Option Int) (v : Int) (l : cvE) (σ : cvM) : s_asg 11 (some (v, σ)) (x0 :: x1 :: x2 :: x3 :: x4 :: x5 :: x6 :: x7 :: x8 :: x9 :: x10 :: x11 :: l) = some (0, 0, x0 :: x1 :: x2 :: x3 :: x4 :: x5 :: x6 :: x7 :: x8 :: x9 :: x10 :: some v :: l, σ) := Eq.trans rfl rfl
def s_exp (r : Option (Int × cvM)) (E : cvE) : Option cvR := r.bind fun r => some (0, 0, E, r.2)
theorem ev_exp (a : cvX) (E : cvE) (σ : cvM) : xs_exp a E σ = s_exp (a E σ) E := Eq.trans rfl rfl
theorem ev_exp1 (v : Int) (E : cvE) (σ : cvM) : s_exp (some (v, σ)) E = some (0, 0, E, σ) := Eq.trans rfl rfl
def s_pf2 (c j : Nat) (r : Option (Int × cvM)) (a : cvX) (E : cvE) : Option cvR := r.bind fun r => (a E r.2).bind fun q => if isI c j r.1 = true then some (0, 0, E, updM q.2 r.1 j q.1) else none
def s_pf1 (q : Bool) (j : Nat) (k : Int) (r : Option (Int × cvM)) (E : cvE) : Option cvR := r.bind fun z => if q = true then some (0, 0, E, updM z.2 k j z.1) else none
theorem ev_pf (c j : Nat) (o a : cvX) (E : cvE) (σ : cvM) : xs_pf c j o a E σ = s_pf2 c j (o E σ) a E := Eq.trans rfl rfl
theorem ev_pf2 (c j : Nat) (k : Int) (a : cvX) (E : cvE) (σ : cvM) : s_pf2 c j (some (k, σ)) a E = s_pf1 (isI c j k) j k (a E σ) E := Eq.trans rfl rfl
theorem ev_pf1 (j : Nat) (k v : Int) (E : cvE) (σ : cvM) : s_pf1 true j k (some (v, σ)) E = some (0, 0, E, updM σ k (j : Int) v) := Eq.trans rfl rfl
def s_pz2 (c j : Nat) (r : Option (Int × cvM)) (a : cvX) (E : cvE) : Option cvR := r.bind fun r => (a E r.2).bind fun q => if isI c j r.1 = true ∧ (q.1 = 0 ∨ q.1 = 1) then some (0, 0, E, updM q.2 r.1 j q.1) else none
def s_pz1 (q : Bool) (j : Nat) (k : Int) (r : Option (Int × cvM)) (E : cvE) : Option cvR := r.bind fun z => if q = true ∧ (z.1 = 0 ∨ z.1 = 1) then some (0, 0, E, updM z.2 k j z.1) else none
theorem ev_pz (c j : Nat) (o a : cvX) (E : cvE) (σ : cvM) : xs_pz c j o a E σ = s_pz2 c j (o E σ) a E := Eq.trans rfl rfl
theorem ev_pz2 (c j : Nat) (k : Int) (a : cvX) (E : cvE) (σ : cvM) : s_pz2 c j (some (k, σ)) a E = s_pz1 (isI c j k) j k (a E σ) E := Eq.trans rfl rfl
theorem ev_pz1 (j : Nat) (k v : Int) (E : cvE) (σ : cvM) (h : v = 0 ∨ v = 1) : s_pz1 true j k (some (v, σ)) E = some (0, 0, E, updM σ k (j : Int) v) := if_pos ⟨rfl, h⟩
def s_of2 (c j : Nat) (r : Option (Int × cvM)) (f : Int → Int → Int) (a : cvX) (E : cvE) : Option cvR := r.bind fun r => if isI c j r.1 = true then (a E r.2).bind fun q => some (0, 0, E, updM q.2 r.1 j (f (r.2 r.1 j) q.1)) else none
def s_of1 (q : Bool) (j : Nat) (k x : Int) (f : Int → Int → Int) (r : Option (Int × cvM)) (E : cvE) : Option cvR := if q = true then r.bind fun z => some (0, 0, E, updM z.2 k j (f x z.1)) else none
theorem ev_of (c j : Nat) (o : cvX) (f : Int → Int → Int) (a : cvX) (E : cvE) (σ : cvM) : xs_of c j o f a E σ = s_of2 c j (o E σ) f a E := Eq.trans rfl rfl
theorem ev_of2 (c j : Nat) (k : Int) (f : Int → Int → Int) (a : cvX) (E : cvE) (σ : cvM) : s_of2 c j (some (k, σ)) f a E = s_of1 (isI c j k) j k (σ k (j : Int)) f (a E σ) E := Eq.trans rfl rfl
theorem ev_of1 (j : Nat) (k x v : Int) (f : Int → Int → Int) (E : cvE) (σ : cvM) : s_of1 true j k x f (some (v, σ)) E = some (0, 0, E, updM σ k (j : Int) (f x v)) := Eq.trans rfl rfl
def s_st (n : Option Int) (k i v : Int) (E : cvE) (σ : cvM) : Option cvR := n.bind fun n => if 0 ≤ i ∧ i < n then some (0, 0, E, updM σ k i v) else none
theorem ev_st (n k i v : Int) (E : cvE) (σ : cvM) (h : 0 ≤ i ∧ i < n) : s_st (some n) k i v E σ = some (0, 0, E, updM σ k i v) := if_pos h
def s_as3 (r : Option (Int × cvM)) (i e : cvX) (E : cvE) : Option cvR := r.bind fun r => (i E r.2).bind fun q => (e E q.2).bind fun z => stA r.1 q.1 z.1 E z.2
def s_as2 (k : Int) (r : Option (Int × cvM)) (e : cvX) (E : cvE) : Option cvR := r.bind fun q => (e E q.2).bind fun z => stA k q.1 z.1 E z.2
def s_as1 (k i : Int) (r : Option (Int × cvM)) (E : cvE) : Option cvR := r.bind fun z => stA k i z.1 E z.2
theorem ev_as (a i e : cvX) (E : cvE) (σ : cvM) : xs_as a i e E σ = s_as3 (a E σ) i e E := Eq.trans rfl rfl
theorem ev_as3 (k : Int) (i e : cvX) (E : cvE) (σ : cvM) : s_as3 (some (k, σ)) i e E = s_as2 k (i E σ) e E := Eq.trans rfl rfl
theorem ev_as2 (k i : Int) (e : cvX) (E : cvE) (σ : cvM) : s_as2 k (some (i, σ)) e E = s_as1 k i (e E σ) E := Eq.trans rfl rfl
theorem ev_as1 (k i v : Int) (E : cvE) (σ : cvM) : s_as1 k i (some (v, σ)) E = s_st (lenOf k) k i v E σ := Eq.trans rfl rfl
def s_oa3 (r : Option (Int × cvM)) (i : cvX) (f : Int → Int → Int) (e : cvX) (E : cvE) : Option cvR := r.bind fun r => (i E r.2).bind fun q => (atA r.1 q.1 q.2).bind fun w => (e E w.2).bind fun z => stA r.1 q.1 (f w.1 z.1) E z.2
def s_oa2 (k : Int) (r : Option (Int × cvM)) (f : Int → Int → Int) (e : cvX) (E : cvE) : Option cvR := r.bind fun q => (atA k q.1 q.2).bind fun w => (e E w.2).bind fun z => stA k q.1 (f w.1 z.1) E z.2
def s_oa1 (k i : Int) (r : Option (Int × cvM)) (f : Int → Int → Int) (e : cvX) (E : cvE) : Option cvR := r.bind fun w => (e E w.2).bind fun z => stA k i (f w.1 z.1) E z.2
def s_oa0 (k i x : Int) (f : Int → Int → Int) (r : Option (Int × cvM)) (E : cvE) : Option cvR := r.bind fun z => stA k i (f x z.1) E z.2
theorem ev_oa (a i : cvX) (f : Int → Int → Int) (e : cvX) (E : cvE) (σ : cvM) : xs_oa a i f e E σ = s_oa3 (a E σ) i f e E := Eq.trans rfl rfl
theorem ev_oa3 (k : Int) (i : cvX) (f : Int → Int → Int) (e : cvX) (E : cvE) (σ : cvM) : s_oa3 (some (k, σ)) i f e E = s_oa2 k (i E σ) f e E := Eq.trans rfl rfl
theorem ev_oa2 (k i : Int) (f : Int → Int → Int) (e : cvX) (E : cvE) (σ : cvM) : s_oa2 k (some (i, σ)) f e E = s_oa1 k i (e_at (lenOf k) k i σ) f e E := Eq.trans rfl rfl
theorem ev_oa1 (k i x : Int) (f : Int → Int → Int) (e : cvX) (E : cvE) (σ : cvM) : s_oa1 k i (some (x, σ)) f e E = s_oa0 k i x f (e E σ) E := Eq.trans rfl rfl
theorem ev_oa0 (k i x v : Int) (f : Int → Int → Int) (E : cvE) (σ : cvM) : s_oa0 k i x f (some (v, σ)) E = s_st (lenOf k) k i (f x v) E σ := Eq.trans rfl rfl
/-- copies n places of array a into b -/
def cpM (σ : cvM) (a b n : Int) : cvM := fun k i => if k = b ∧ 0 ≤ i ∧ i < n then σ a i else σ k i
def s_cp3 (r : Option (Int × cvM)) (b n : cvX) (E : cvE) : Option cvR := r.bind fun r => (b E r.2).bind fun q => (n E q.2).bind fun z => (lenOf r.1).bind fun l1 => (lenOf q.1).bind fun l2 => if 0 ≤ z.1 ∧ z.1 ≤ l1 ∧ z.1 ≤ l2 then some (0, 0, E, cpM z.2 r.1 q.1 z.1) else none
def s_cp2 (a : Int) (r : Option (Int × cvM)) (n : cvX) (E : cvE) : Option cvR := r.bind fun q => (n E q.2).bind fun z => (lenOf a).bind fun l1 => (lenOf q.1).bind fun l2 => if 0 ≤ z.1 ∧ z.1 ≤ l1 ∧ z.1 ≤ l2 then some (0, 0, E, cpM z.2 a q.1 z.1) else none
def s_cp1 (a b : Int) (l1 l2 : Option Int) (r : Option (Int × cvM)) (E : cvE) : Option cvR := r.bind fun z => l1.bind fun l1 => l2.bind fun l2 => if 0 ≤ z.1 ∧ z.1 ≤ l1 ∧ z.1 ≤ l2 then some (0, 0, E, cpM z.2 a b z.1) else none
theorem ev_cp (a b n : cvX) (E : cvE) (σ : cvM) : xs_cp a b n E σ = s_cp3 (a E σ) b n E := Eq.trans rfl rfl
theorem ev_cp3 (a : Int) (b n : cvX) (E : cvE) (σ : cvM) : s_cp3 (some (a, σ)) b n E = s_cp2 a (b E σ) n E := Eq.trans rfl rfl
theorem ev_cp2 (a b : Int) (n : cvX) (E : cvE) (σ : cvM) : s_cp2 a (some (b, σ)) n E = s_cp1 a b (lenOf a) (lenOf b) (n E σ) E := Eq.trans rfl rfl
theorem ev_cp1 (a b l1 l2 n : Int) (E : cvE) (σ : cvM) (h : 0 ≤ n ∧ n ≤ l1 ∧ n ≤ l2) : s_cp1 a b (some l1) (some l2) (some (n, σ)) E = some (0, 0, E, cpM σ a b n) := if_pos h
def s_swb (r : Option cvR) : Option cvR := r.bind fun q => if q.1 = 1 then some (0, 0, q.2.2.1, q.2.2.2) else some q
def s_sw (r : Option (Int × cvM)) (f : Int → cvS) (E : cvE) : Option cvR := r.bind fun r => s_swb (f r.1 E r.2)
theorem ev_sw (a : cvX) (f : Int → cvS) (E : cvE) (σ : cvM) : xs_sw a f E σ = s_sw (a E σ) f E := Eq.trans rfl rfl
theorem ev_sw1 (v : Int) (f : Int → cvS) (E : cvE) (σ : cvM) : s_sw (some (v, σ)) f E = s_swb (f v E σ) := Eq.trans rfl rfl
theorem ev_swb0 (w : Int) (E : cvE) (σ : cvM) : s_swb (some (0, w, E, σ)) = some (0, w, E, σ) := Eq.trans rfl rfl
theorem ev_swb1 (w : Int) (E : cvE) (σ : cvM) : s_swb (some (1, w, E, σ)) = some (0, 0, E, σ) := Eq.trans rfl rfl
theorem ev_swb3 (w : Int) (E : cvE) (σ : cvM) : s_swb (some (3, w, E, σ)) = some (3, w, E, σ) := Eq.trans rfl rfl
theorem ev_swbi (P : Prop) [Decidable P] (x y : Option cvR) : s_swb (if P then x else y) = if P then s_swb x else s_swb y := by split <;> rfl
def f_fin (vd : Bool) (r : Option cvR) : Option (Int × cvM) := r.bind fun r => if r.1 = 3 then some (r.2.1, r.2.2.2) else if vd = true ∧ r.1 = 0 then some (0, r.2.2.2) else none
theorem ev_fin3 (vd : Bool) (w : Int) (E : cvE) (σ : cvM) : f_fin vd (some (3, w, E, σ)) = some (w, σ) := Eq.trans rfl rfl
theorem ev_fin0 (w : Int) (E : cvE) (σ : cvM) : f_fin true (some (0, w, E, σ)) = some (0, σ) := Eq.trans rfl rfl
theorem ev_fini (vd : Bool) (P : Prop) [Decidable P] (x y : Option cvR) : f_fin vd (if P then x else y) = if P then f_fin vd x else f_fin vd y := by split <;> rfl
theorem ev_iv (P : Prop) [Decidable P] (x y : Int) (σ : cvM) : (if P then some (x, σ) else some (y, σ)) = some (if P then x else y, σ) := by split <;> rfl
theorem ev_ic (P : Prop) [Decidable P] (x y : Bool) (σ : cvM) : (if P then some (x, σ) else some (y, σ)) = some (if P then x else y, σ) := by split <;> rfl
theorem ev_b1 (P : Prop) [Decidable P] : (!(decide ((if P then (1 : Int) else 0) = 0))) = decide P := by by_cases h : P <;> simp [h]
theorem ev_b2 (P : Prop) [Decidable P] (q : Bool) : (if P then q else false) = (decide P && q) := by by_cases h : P <;> simp [h]
theorem ev_b3 (P : Prop) [Decidable P] (q : Bool) : (if P then true else q) = (decide P || q) := by by_cases h : P <;> simp [h]
theorem ev_b4 (P : Prop) [Decidable P] : ((if P then (1 : Int) else 0) = 1) = P := by by_cases h : P <;> simp [h]
theorem ev_b5 (P : Prop) [Decidable P] : ((if P then (1 : Int) else 0) = 0) = ¬ P := by by_cases h : P <;> simp [h]
theorem ev_b6 (P : Prop) [Decidable P] : (!(decide ((if P then (0 : Int) else 1) = 0))) = !(decide P) := by by_cases h : P <;> simp [h]
theorem ev_or12 (n : Int) : (n = n) = True := by simp
