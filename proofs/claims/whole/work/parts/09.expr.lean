/-! ===== JUDGEMENTS: a meaning and the bytes that do it ===== -/
def EI (M : cvI) (d pc pc' κ : Nat) (e : cvX) : Prop := ∀ X, Cx X M → ∀ (rest : List Value) (E : cvE) (σ : cvM) (v : Int) (σ' : cvM), e E σ = some (v, σ') → stk rest ≤ d → (okv κ v → WW X M pc' (conc (xad X) (xsd X) κ v :: rest) E σ') → WW X M pc rest E σ
def AI (M : cvI) (d pc pc' : Nat) (ks : List Nat) (es : List cvX) : Prop := ∀ X, Cx X M → ∀ (rest : List Value) (E : cvE) (σ : cvM) (vs : List Int) (σ' : cvM), evs es E σ = some (vs, σ') → stk rest ≤ d → (okvs ks vs → WW X M pc' ((concs (xad X) (xsd X) ks vs).reverse ++ rest) E σ') → WW X M pc rest E σ
def CI (M : cvI) (d pc pT pF : Nat) (c : cvC) : Prop := ∀ X, Cx X M → ∀ (rest : List Value) (E : cvE) (σ : cvM) (r : Bool) (σ' : cvM), c E σ = some (r, σ') → stk rest ≤ d → (r = true → WW X M pT rest E σ') → (r = false → WW X M pF rest E σ') → WW X M pc rest E σ
def Fl (M : cvI) (p q : Nat) : Prop := ∀ X, Cx X M → ∀ (st : List Value) (E : cvE) (σ : cvM), WW X M q st E σ → WW X M p st E σ
def RT (X : cvT) (M : cvI) (v : Int) (σ : cvM) : Prop :=
  (M.2.2.2.2.2.2.1 = none → ∀ pc E, decode M.1 pc = .ok (.return_, 1) → WW X M pc [] E σ) ∧
  (M.2.2.2.2.2.2.1 = some .int → InR v → ∀ pc E, decode M.1 pc = .ok (.ireturn, 1) → WW X M pc [.int (Int32.ofInt v)] E σ) ∧
  (∀ ty, M.2.2.2.2.2.2.1 = some ty → (ty = .boolean ∨ ty = .byte ∨ ty = .char) → okF ty v → InR v → ∀ pc E, decode M.1 pc = .ok (.ireturn, 1) → WW X M pc [.int (Int32.ofInt v)] E σ) ∧
  (M.2.2.2.2.2.2.1 = some (.object "java/lang/String") → 0 ≤ v → ∀ pc E, decode M.1 pc = .ok (.areturn, 1) → WW X M pc [.ref (xsd X v.toNat)] E σ)
def SI (M : cvI) (pc tN tB tC : Nat) (s : cvS) : Prop := ∀ X, Cx X M → ∀ (E : cvE) (σ : cvM) (o : Nat) (v : Int) (E' : cvE) (σ' : cvM), s E σ = some (o, v, E', σ') → (o = 0 → WW X M tN [] E' σ') → (o = 1 → WW X M tB [] E' σ') → (o = 2 → WW X M tC [] E' σ') → (o = 3 → RT X M v σ') → WW X M pc [] E σ
theorem Fl.rf {M : cvI} {p : Nat} : Fl M p p := fun _ _ _ _ _ h => h
theorem Fl.go {M : cvI} {p q : Nat} (off : Int) (t : Nat) (hd : decode M.1 p = .ok (.goto off, 3)) (ht : (p : Int) + off = (t : Int)) (h : Fl M t q) : Fl M p q := fun X hx st E σ k => WW_goto hx hd ht (h X hx st E σ k)
theorem stk_c (ad sd : Nat → Nat) (κ : Nat) (v : Int) (st : List Value) : stk (conc ad sd κ v :: st) = kcat κ + stk st := by
  unfold stk
  rw [List.map_cons, List.sum_cons, conc_cat]
theorem stk0 {ad sd : Nat → Nat} {v : Int} {st : List Value} {d : Nat} (h : stk st ≤ d) : stk (conc ad sd 0 v :: st) ≤ d + 1 := by rw [stk_c, show kcat 0 = 1 from rfl]; omega
theorem stk1 {ad sd : Nat → Nat} {v : Int} {st : List Value} {d : Nat} (h : stk st ≤ d) : stk (conc ad sd 1 v :: st) ≤ d + 1 := by rw [stk_c, show kcat 1 = 1 from rfl]; omega
theorem stk2 {ad sd : Nat → Nat} {v : Int} {st : List Value} {d : Nat} (h : stk st ≤ d) : stk (conc ad sd 2 v :: st) ≤ d + 2 := by rw [stk_c, show kcat 2 = 2 from rfl]; omega
theorem k_add (x y : Int) : okv 0 (oadd x y) := show InR (wr (x + y)) from wr_in _
theorem k_sub (x y : Int) : okv 0 (osub x y) := show InR (wr (x - y)) from wr_in _
theorem k_mul (x y : Int) : okv 0 (omul x y) := show InR (wr (x * y)) from wr_in _
theorem k_div (x y : Int) : okv 0 (odiv x y) := show InR (wr (dv x y)) from wr_in _
theorem k_rem {x : Int} (y : Int) (h : okv 0 x) : okv 0 (rmd x y) := show InR (rmd x y) from rmd_in h
theorem k_and (x y : Int) : okv 0 (oand x y) := show InR (Int32.toInt _) from i_in _
theorem k_or (x y : Int) : okv 0 (oor x y) := show InR (Int32.toInt _) from i_in _
theorem k_xor (x y : Int) : okv 0 (oxor x y) := show InR (Int32.toInt _) from i_in _
theorem k_shl (x y : Int) : okv 0 (oshl x y) := show InR (Int32.toInt _) from i_in _
theorem k_shr (x y : Int) : okv 0 (oshr x y) := show InR (Int32.toInt _) from i_in _
theorem k_ushr (x y : Int) : okv 0 (oushr x y) := show InR (Int32.toInt _) from i_in _
theorem k_land (x y : Int) : okv 2 (oland x y) := show InL (Int64.toInt _) from l_in _
theorem k_lor (x y : Int) : okv 2 (olor x y) := show InL (Int64.toInt _) from l_in _
theorem k_lshl (x y : Int) : okv 2 (olshl x y) := show InL (Int64.toInt _) from l_in _
theorem k_lshr (x y : Int) : okv 2 (olshr x y) := show InL (Int64.toInt _) from l_in _
theorem k_lushr (x y : Int) : okv 2 (olushr x y) := show InL (Int64.toInt _) from l_in _
theorem k_neg (x : Int) : okv 0 (oneg x) := show InR (wr (-x)) from wr_in _
theorem k_b (x : Int) : okv 0 (ob x) := show InR (ob x) from ob_in x
theorem k_s (x : Int) : okv 0 (os x) := show InR (os x) from os_in x
theorem k_wr (x : Int) : okv 0 (wr x) := show InR (wr x) from wr_in x
theorem k_i2l {x : Int} (h : okv 0 x) : okv 2 (id x) := by
  have h : InR x := h
  show InL x
  have := h.1
  have := h.2
  constructor <;> omega
theorem bnd2 {α β : Type} {a b : α} {c e : β} (h : some (a, c) = some (b, e)) : a = b ∧ c = e := Prod.mk.inj (Option.some.inj h)
theorem bnd {α β : Type} {x : Option α} {f : α → Option β} {b : β} (h : x.bind f = some b) : ∃ a, x = some a ∧ f a = some b := Option.bind_eq_some_iff.mp h
theorem ref_nnB : LAY.all (fun q => match q with
  | .inl (_, fs) => fs.all (fun o => match o with
    | some r => decide (0 ≤ r)
    | none => true)
  | .inr n => decide (n < 4096)) = true := by decide +kernel
theorem ref_nn {ci j : Nat} {k v : Int} (h : refOf ci j k = some v) : okv 1 v := by
  obtain ⟨n, fs, -, hn, hj⟩ := refOf_spec h
  have h1 := List.all_eq_true.mp ref_nnB _ (List.mem_of_getElem? hn)
  have h2 := List.all_eq_true.mp h1 _ (List.mem_of_getElem? hj)
  show 0 ≤ v
  simpa using h2
theorem len_in {k n : Int} (h : lenOf k = some n) : okv 0 n := by
  obtain ⟨q, L, -, rfl, hq⟩ := lenOf_spec h
  have h1 := List.all_eq_true.mp ref_nnB _ (List.mem_of_getElem? hq)
  have h2 : L < 4096 := by simpa using h1
  show InR L
  constructor <;> omega
-- expressions
theorem EI.loc {M : cvI} {d pc i : Nat} (hd : decode M.1 pc = .ok (.iload i, 2)) (hk : M.2.2.2.1.getD i 0 = 0) : EI M d pc (pc + 2) 0 (xe_loc i) := by
  intro X hx rest E σ v σ' he _ kk
  obtain ⟨w, h1, h2⟩ := Option.map_eq_some_iff.mp he
  cases h2
  exact WW_iload hx hd hk h1 kk
theorem EI.locn {M : cvI} {d pc i : Nat} {j : Fin 4} (hd : decode M.1 pc = .ok (.iload_n j, 1)) (hj : (j : Nat) = i) (hk : M.2.2.2.1.getD i 0 = 0) : EI M d pc (pc + 1) 0 (xe_loc i) := by
  intro X hx rest E σ v σ' he _ kk
  obtain ⟨w, h1, h2⟩ := Option.map_eq_some_iff.mp he
  cases h2
  exact WW_iload_n hx hd hj hk h1 kk
theorem EI.ref {M : cvI} {d pc i : Nat} (hd : decode M.1 pc = .ok (.aload i, 2)) (hk : M.2.2.2.1.getD i 0 = 1) : EI M d pc (pc + 2) 1 (xe_loc i) := by
  intro X hx rest E σ v σ' he _ kk
  obtain ⟨w, h1, h2⟩ := Option.map_eq_some_iff.mp he
  cases h2
  exact WW_aload hx hd hk h1 kk
theorem EI.refn {M : cvI} {d pc i : Nat} {j : Fin 4} (hd : decode M.1 pc = .ok (.aload_n j, 1)) (hj : (j : Nat) = i) (hk : M.2.2.2.1.getD i 0 = 1) : EI M d pc (pc + 1) 1 (xe_loc i) := by
  intro X hx rest E σ v σ' he _ kk
  obtain ⟨w, h1, h2⟩ := Option.map_eq_some_iff.mp he
  cases h2
  exact WW_aload_n hx hd hj hk h1 kk
theorem EI.txtn {M : cvI} {d pc i : Nat} {j : Fin 4} (hd : decode M.1 pc = .ok (.aload_n j, 1)) (hj : (j : Nat) = i) (hk : M.2.2.2.1.getD i 0 = 3) : EI M d pc (pc + 1) 3 (xe_loc i) := by
  intro X hx rest E σ v σ' he _ kk
  obtain ⟨w, h1, h2⟩ := Option.map_eq_some_iff.mp he
  cases h2
  exact WW_aload_s hx hd hj hk h1 kk
theorem EI.lngn {M : cvI} {d pc i : Nat} {j : Fin 4} (hd : decode M.1 pc = .ok (.lload_n j, 1)) (hj : (j : Nat) = i) (hk : M.2.2.2.1.getD i 0 = 2) : EI M d pc (pc + 1) 2 (xe_loc i) := by
  intro X hx rest E σ v σ' he _ kk
  obtain ⟨w, h1, h2⟩ := Option.map_eq_some_iff.mp he
  cases h2
  exact WW_lload_n hx hd hj hk h1 kk
theorem EI.ic {M : cvI} {d pc : Nat} {n : Int} (hd : decode M.1 pc = .ok (.iconst n, 1)) (hn : -2147483648 ≤ n ∧ n < 2147483648) : EI M d pc (pc + 1) 0 (xe_lit n) := by
  intro X hx rest E σ v σ' he _ kk
  cases he
  exact WW_iconst hx hd (kk hn)
theorem EI.bi {M : cvI} {d pc : Nat} {n : Int} (hd : decode M.1 pc = .ok (.bipush n, 2)) (hv : (Int8.ofInt n).toInt32 = Int32.ofInt n) (hn : -2147483648 ≤ n ∧ n < 2147483648) : EI M d pc (pc + 2) 0 (xe_lit n) := by
  intro X hx rest E σ v σ' he _ kk
  cases he
  exact WW_bipush hx hd hv (kk hn)
theorem EI.si {M : cvI} {d pc : Nat} {n : Int} (hd : decode M.1 pc = .ok (.sipush n, 3)) (hv : (Int16.ofInt n).toInt32 = Int32.ofInt n) (hn : -2147483648 ≤ n ∧ n < 2147483648) : EI M d pc (pc + 3) 0 (xe_lit n) := by
  intro X hx rest E σ v σ' he _ kk
  cases he
  exact WW_sipush hx hd hv (kk hn)
theorem EI.ld {M : cvI} {d pc : Nat} {n : Int} {i : Nat} (hd : decode M.1 pc = .ok (.ldc i, 2)) (hw : Cond.constant M.2.2.1 i (Int32.ofInt n) ∈ BIG) (hn : -2147483648 ≤ n ∧ n < 2147483648) : EI M d pc (pc + 2) 0 (xe_lit n) := by
  intro X hx rest E σ v σ' he _ kk
  cases he
  exact WW_ldc hx hd hw (kk hn)
theorem EI.lw {M : cvI} {d pc : Nat} {n : Int} {i : Nat} (hd : decode M.1 pc = .ok (.ldc_w i, 3)) (hw : Cond.constant M.2.2.1 i (Int32.ofInt n) ∈ BIG) (hn : -2147483648 ≤ n ∧ n < 2147483648) : EI M d pc (pc + 3) 0 (xe_lit n) := by
  intro X hx rest E σ v σ' he _ kk
  cases he
  exact WW_ldcw hx hd hw (kk hn)
theorem EI.l2 {M : cvI} {d pc : Nat} {n : Int} {i : Nat} (hd : decode M.1 pc = .ok (.ldc2_w i, 3)) (hw : Cond.constantLong M.2.2.1 i (Int64.ofInt n) ∈ BIG) (hn : InL n) : EI M d pc (pc + 3) 2 (xe_lit n) := by
  intro X hx rest E σ v σ' he _ kk
  cases he
  exact WW_ldc2 hx hd hw (kk hn)
theorem EI.iadd {M : cvI} {d pc p1 p2 : Nat} {a b : cvX} (ha : EI M d pc p1 0 a) (hb : EI M (d + 1) p1 p2 0 b) (hd : decode M.1 p2 = .ok (.iadd, 1)) : EI M d pc (p2 + 1) 0 (xe_op oadd a b) := by
  intro X hx rest E σ v σ' he hs kk
  obtain ⟨⟨x, σ1⟩, e1, he⟩ := bnd he
  obtain ⟨⟨y, σ2⟩, e2, he⟩ := bnd he
  cases he
  refine ha X hx rest E σ x σ1 e1 hs (fun o1 => ?_)
  refine hb X hx _ E σ1 y σ2 e2 (stk0 hs) (fun o2 => ?_)
  exact WW_iadd hx hd (kk (k_add _ _))
theorem EI.isub {M : cvI} {d pc p1 p2 : Nat} {a b : cvX} (ha : EI M d pc p1 0 a) (hb : EI M (d + 1) p1 p2 0 b) (hd : decode M.1 p2 = .ok (.isub, 1)) : EI M d pc (p2 + 1) 0 (xe_op osub a b) := by
  intro X hx rest E σ v σ' he hs kk
  obtain ⟨⟨x, σ1⟩, e1, he⟩ := bnd he
  obtain ⟨⟨y, σ2⟩, e2, he⟩ := bnd he
  cases he
  refine ha X hx rest E σ x σ1 e1 hs (fun o1 => ?_)
  refine hb X hx _ E σ1 y σ2 e2 (stk0 hs) (fun o2 => ?_)
  exact WW_isub hx hd (kk (k_sub _ _))
theorem EI.imul {M : cvI} {d pc p1 p2 : Nat} {a b : cvX} (ha : EI M d pc p1 0 a) (hb : EI M (d + 1) p1 p2 0 b) (hd : decode M.1 p2 = .ok (.imul, 1)) : EI M d pc (p2 + 1) 0 (xe_op omul a b) := by
  intro X hx rest E σ v σ' he hs kk
  obtain ⟨⟨x, σ1⟩, e1, he⟩ := bnd he
  obtain ⟨⟨y, σ2⟩, e2, he⟩ := bnd he
  cases he
  refine ha X hx rest E σ x σ1 e1 hs (fun o1 => ?_)
  refine hb X hx _ E σ1 y σ2 e2 (stk0 hs) (fun o2 => ?_)
  exact WW_imul hx hd (kk (k_mul _ _))
theorem EI.iand {M : cvI} {d pc p1 p2 : Nat} {a b : cvX} (ha : EI M d pc p1 0 a) (hb : EI M (d + 1) p1 p2 0 b) (hd : decode M.1 p2 = .ok (.iand, 1)) : EI M d pc (p2 + 1) 0 (xe_op oand a b) := by
  intro X hx rest E σ v σ' he hs kk
  obtain ⟨⟨x, σ1⟩, e1, he⟩ := bnd he
  obtain ⟨⟨y, σ2⟩, e2, he⟩ := bnd he
  cases he
  refine ha X hx rest E σ x σ1 e1 hs (fun o1 => ?_)
  refine hb X hx _ E σ1 y σ2 e2 (stk0 hs) (fun o2 => ?_)
  exact WW_iand hx hd (kk (k_and _ _))
theorem EI.ior {M : cvI} {d pc p1 p2 : Nat} {a b : cvX} (ha : EI M d pc p1 0 a) (hb : EI M (d + 1) p1 p2 0 b) (hd : decode M.1 p2 = .ok (.ior, 1)) : EI M d pc (p2 + 1) 0 (xe_op oor a b) := by
  intro X hx rest E σ v σ' he hs kk
  obtain ⟨⟨x, σ1⟩, e1, he⟩ := bnd he
  obtain ⟨⟨y, σ2⟩, e2, he⟩ := bnd he
  cases he
  refine ha X hx rest E σ x σ1 e1 hs (fun o1 => ?_)
  refine hb X hx _ E σ1 y σ2 e2 (stk0 hs) (fun o2 => ?_)
  exact WW_ior hx hd (kk (k_or _ _))
theorem EI.ixor {M : cvI} {d pc p1 p2 : Nat} {a b : cvX} (ha : EI M d pc p1 0 a) (hb : EI M (d + 1) p1 p2 0 b) (hd : decode M.1 p2 = .ok (.ixor, 1)) : EI M d pc (p2 + 1) 0 (xe_op oxor a b) := by
  intro X hx rest E σ v σ' he hs kk
  obtain ⟨⟨x, σ1⟩, e1, he⟩ := bnd he
  obtain ⟨⟨y, σ2⟩, e2, he⟩ := bnd he
  cases he
  refine ha X hx rest E σ x σ1 e1 hs (fun o1 => ?_)
  refine hb X hx _ E σ1 y σ2 e2 (stk0 hs) (fun o2 => ?_)
  exact WW_ixor hx hd (kk (k_xor _ _))
theorem EI.ishl {M : cvI} {d pc p1 p2 : Nat} {a b : cvX} (ha : EI M d pc p1 0 a) (hb : EI M (d + 1) p1 p2 0 b) (hd : decode M.1 p2 = .ok (.ishl, 1)) : EI M d pc (p2 + 1) 0 (xe_op oshl a b) := by
  intro X hx rest E σ v σ' he hs kk
  obtain ⟨⟨x, σ1⟩, e1, he⟩ := bnd he
  obtain ⟨⟨y, σ2⟩, e2, he⟩ := bnd he
  cases he
  refine ha X hx rest E σ x σ1 e1 hs (fun o1 => ?_)
  refine hb X hx _ E σ1 y σ2 e2 (stk0 hs) (fun o2 => ?_)
  exact WW_ishl hx hd (kk (k_shl _ _))
theorem EI.ishr {M : cvI} {d pc p1 p2 : Nat} {a b : cvX} (ha : EI M d pc p1 0 a) (hb : EI M (d + 1) p1 p2 0 b) (hd : decode M.1 p2 = .ok (.ishr, 1)) : EI M d pc (p2 + 1) 0 (xe_op oshr a b) := by
  intro X hx rest E σ v σ' he hs kk
  obtain ⟨⟨x, σ1⟩, e1, he⟩ := bnd he
  obtain ⟨⟨y, σ2⟩, e2, he⟩ := bnd he
  cases he
  refine ha X hx rest E σ x σ1 e1 hs (fun o1 => ?_)
  refine hb X hx _ E σ1 y σ2 e2 (stk0 hs) (fun o2 => ?_)
  exact WW_ishr hx hd (kk (k_shr _ _))
theorem EI.iushr {M : cvI} {d pc p1 p2 : Nat} {a b : cvX} (ha : EI M d pc p1 0 a) (hb : EI M (d + 1) p1 p2 0 b) (hd : decode M.1 p2 = .ok (.iushr, 1)) : EI M d pc (p2 + 1) 0 (xe_op oushr a b) := by
  intro X hx rest E σ v σ' he hs kk
  obtain ⟨⟨x, σ1⟩, e1, he⟩ := bnd he
  obtain ⟨⟨y, σ2⟩, e2, he⟩ := bnd he
  cases he
  refine ha X hx rest E σ x σ1 e1 hs (fun o1 => ?_)
  refine hb X hx _ E σ1 y σ2 e2 (stk0 hs) (fun o2 => ?_)
  exact WW_iushr hx hd (kk (k_ushr _ _))
theorem EI.land {M : cvI} {d pc p1 p2 : Nat} {a b : cvX} (ha : EI M d pc p1 2 a) (hb : EI M (d + 2) p1 p2 2 b) (hd : decode M.1 p2 = .ok (.land, 1)) : EI M d pc (p2 + 1) 2 (xe_op oland a b) := by
  intro X hx rest E σ v σ' he hs kk
  obtain ⟨⟨x, σ1⟩, e1, he⟩ := bnd he
  obtain ⟨⟨y, σ2⟩, e2, he⟩ := bnd he
  cases he
  refine ha X hx rest E σ x σ1 e1 hs (fun o1 => ?_)
  refine hb X hx _ E σ1 y σ2 e2 (stk2 hs) (fun o2 => ?_)
  exact WW_land hx hd (kk (k_land _ _))
theorem EI.lor {M : cvI} {d pc p1 p2 : Nat} {a b : cvX} (ha : EI M d pc p1 2 a) (hb : EI M (d + 2) p1 p2 2 b) (hd : decode M.1 p2 = .ok (.lor, 1)) : EI M d pc (p2 + 1) 2 (xe_op olor a b) := by
  intro X hx rest E σ v σ' he hs kk
  obtain ⟨⟨x, σ1⟩, e1, he⟩ := bnd he
  obtain ⟨⟨y, σ2⟩, e2, he⟩ := bnd he
  cases he
  refine ha X hx rest E σ x σ1 e1 hs (fun o1 => ?_)
  refine hb X hx _ E σ1 y σ2 e2 (stk2 hs) (fun o2 => ?_)
  exact WW_lor hx hd (kk (k_lor _ _))
theorem EI.lshl {M : cvI} {d pc p1 p2 : Nat} {a b : cvX} (ha : EI M d pc p1 2 a) (hb : EI M (d + 2) p1 p2 0 b) (hd : decode M.1 p2 = .ok (.lshl, 1)) : EI M d pc (p2 + 1) 2 (xe_op olshl a b) := by
  intro X hx rest E σ v σ' he hs kk
  obtain ⟨⟨x, σ1⟩, e1, he⟩ := bnd he
  obtain ⟨⟨y, σ2⟩, e2, he⟩ := bnd he
  cases he
  refine ha X hx rest E σ x σ1 e1 hs (fun o1 => ?_)
  refine hb X hx _ E σ1 y σ2 e2 (stk2 hs) (fun o2 => ?_)
  exact WW_lshl hx hd (kk (k_lshl _ _))
theorem EI.lshr {M : cvI} {d pc p1 p2 : Nat} {a b : cvX} (ha : EI M d pc p1 2 a) (hb : EI M (d + 2) p1 p2 0 b) (hd : decode M.1 p2 = .ok (.lshr, 1)) : EI M d pc (p2 + 1) 2 (xe_op olshr a b) := by
  intro X hx rest E σ v σ' he hs kk
  obtain ⟨⟨x, σ1⟩, e1, he⟩ := bnd he
  obtain ⟨⟨y, σ2⟩, e2, he⟩ := bnd he
  cases he
  refine ha X hx rest E σ x σ1 e1 hs (fun o1 => ?_)
  refine hb X hx _ E σ1 y σ2 e2 (stk2 hs) (fun o2 => ?_)
  exact WW_lshr hx hd (kk (k_lshr _ _))
theorem EI.lushr {M : cvI} {d pc p1 p2 : Nat} {a b : cvX} (ha : EI M d pc p1 2 a) (hb : EI M (d + 2) p1 p2 0 b) (hd : decode M.1 p2 = .ok (.lushr, 1)) : EI M d pc (p2 + 1) 2 (xe_op olushr a b) := by
  intro X hx rest E σ v σ' he hs kk
  obtain ⟨⟨x, σ1⟩, e1, he⟩ := bnd he
  obtain ⟨⟨y, σ2⟩, e2, he⟩ := bnd he
  cases he
  refine ha X hx rest E σ x σ1 e1 hs (fun o1 => ?_)
  refine hb X hx _ E σ1 y σ2 e2 (stk2 hs) (fun o2 => ?_)
  exact WW_lushr hx hd (kk (k_lushr _ _))
theorem EI.idiv {M : cvI} {d pc p1 p2 : Nat} {a b : cvX} (ha : EI M d pc p1 0 a) (hb : EI M (d + 1) p1 p2 0 b) (hd : decode M.1 p2 = .ok (.idiv, 1)) : EI M d pc (p2 + 1) 0 (xe_dv odiv a b) := by
  intro X hx rest E σ v σ' he hs kk
  obtain ⟨⟨x, σ1⟩, e1, he⟩ := bnd he
  obtain ⟨⟨y, σ2⟩, e2, he⟩ := bnd he
  dsimp only at he
  split at he
  · cases he
  · rename_i hy
    obtain ⟨rfl, rfl⟩ := bnd2 he
    refine ha X hx rest E σ x σ1 e1 hs (fun o1 => ?_)
    refine hb X hx _ E σ1 y σ2 e2 (stk0 hs) (fun o2 => ?_)
    exact WW_idiv hx hd o1 o2 hy (kk (k_div _ _))
theorem EI.irem {M : cvI} {d pc p1 p2 : Nat} {a b : cvX} (ha : EI M d pc p1 0 a) (hb : EI M (d + 1) p1 p2 0 b) (hd : decode M.1 p2 = .ok (.irem, 1)) : EI M d pc (p2 + 1) 0 (xe_dv rmd a b) := by
  intro X hx rest E σ v σ' he hs kk
  obtain ⟨⟨x, σ1⟩, e1, he⟩ := bnd he
  obtain ⟨⟨y, σ2⟩, e2, he⟩ := bnd he
  dsimp only at he
  split at he
  · cases he
  · rename_i hy
    obtain ⟨rfl, rfl⟩ := bnd2 he
    refine ha X hx rest E σ x σ1 e1 hs (fun o1 => ?_)
    refine hb X hx _ E σ1 y σ2 e2 (stk0 hs) (fun o2 => ?_)
    exact WW_irem hx hd o1 o2 hy (kk (k_rem _ o1))
theorem EI.ineg {M : cvI} {d pc p1 : Nat} {a : cvX} (ha : EI M d pc p1 0 a) (hd : decode M.1 p1 = .ok (.ineg, 1)) : EI M d pc (p1 + 1) 0 (xe_un oneg a) := by
  intro X hx rest E σ v σ' he hs kk
  obtain ⟨⟨x, σ1⟩, e1, he⟩ := bnd he
  cases he
  refine ha X hx rest E σ x σ1 e1 hs (fun o1 => ?_)
  exact WW_ineg hx hd (kk (k_neg _))
theorem EI.i2b {M : cvI} {d pc p1 : Nat} {a : cvX} (ha : EI M d pc p1 0 a) (hd : decode M.1 p1 = .ok (.i2b, 1)) : EI M d pc (p1 + 1) 0 (xe_un ob a) := by
  intro X hx rest E σ v σ' he hs kk
  obtain ⟨⟨x, σ1⟩, e1, he⟩ := bnd he
  cases he
  refine ha X hx rest E σ x σ1 e1 hs (fun o1 => ?_)
  exact WW_i2b hx hd (kk (k_b _))
theorem EI.i2s {M : cvI} {d pc p1 : Nat} {a : cvX} (ha : EI M d pc p1 0 a) (hd : decode M.1 p1 = .ok (.i2s, 1)) : EI M d pc (p1 + 1) 0 (xe_un os a) := by
  intro X hx rest E σ v σ' he hs kk
  obtain ⟨⟨x, σ1⟩, e1, he⟩ := bnd he
  cases he
  refine ha X hx rest E σ x σ1 e1 hs (fun o1 => ?_)
  exact WW_i2s hx hd (kk (k_s _))
theorem EI.l2i {M : cvI} {d pc p1 : Nat} {a : cvX} (ha : EI M d pc p1 2 a) (hd : decode M.1 p1 = .ok (.l2i, 1)) : EI M d pc (p1 + 1) 0 (xe_un wr a) := by
  intro X hx rest E σ v σ' he hs kk
  obtain ⟨⟨x, σ1⟩, e1, he⟩ := bnd he
  cases he
  refine ha X hx rest E σ x σ1 e1 hs (fun o1 => ?_)
  exact WW_l2i hx hd o1 (kk (k_wr _))
theorem EI.i2l {M : cvI} {d pc p1 : Nat} {a : cvX} (ha : EI M d pc p1 0 a) (hd : decode M.1 p1 = .ok (.i2l, 1)) : EI M d pc (p1 + 1) 2 (xe_un id a) := by
  intro X hx rest E σ v σ' he hs kk
  obtain ⟨⟨x, σ1⟩, e1, he⟩ := bnd he
  cases he
  refine ha X hx rest E σ x σ1 e1 hs (fun o1 => ?_)
  exact WW_i2l hx hd o1 (kk (k_i2l o1))
theorem EI.gi {M : cvI} {d pc p1 ci N j index : Nat} {C : String} {T : u_T} {ty : Nat → FieldType} {a : cvX} (ha : EI M d pc p1 1 a) (hc : CK ci C T N ty) (hj : j < N) (hl : Cond.fieldLink M.2.2.1 index (T j).1 (T j).2.1 (T j).2.2.1 ∈ BIG) (hd : decode M.1 p1 = .ok (.getfield index, 3)) : EI M d pc (p1 + 3) 0 (xe_gi ci j a) := by
  intro X hx rest E σ v σ' he hs kk
  obtain ⟨⟨x, σ1⟩, e1, he⟩ := bnd he
  dsimp only at he
  split at he
  · rename_i hi
    obtain ⟨rfl, rfl⟩ := bnd2 he
    exact ha X hx rest E σ x σ1 e1 hs (fun o1 => WW_getI hx hc hj hl hd hi kk)
  · cases he
theorem EI.gr {M : cvI} {d pc p1 ci N j index : Nat} {C : String} {T : u_T} {ty : Nat → FieldType} {a : cvX} (ha : EI M d pc p1 1 a) (hc : CK ci C T N ty) (hj : j < N) (hl : Cond.fieldLink M.2.2.1 index (T j).1 (T j).2.1 (T j).2.2.1 ∈ BIG) (hd : decode M.1 p1 = .ok (.getfield index, 3)) : EI M d pc (p1 + 3) 1 (xe_gr ci j a) := by
  intro X hx rest E σ v σ' he hs kk
  obtain ⟨⟨x, σ1⟩, e1, he⟩ := bnd he
  obtain ⟨w, hi, he⟩ := Option.map_eq_some_iff.mp he
  obtain ⟨rfl, rfl⟩ := Prod.mk.inj he
  exact ha X hx rest E σ x σ1 e1 hs (fun o1 => WW_getR hx hc hj hl hd hi (kk (ref_nn hi)))
theorem EI.giN {M : cvI} {d pc p1 ci N j index : Nat} {C : String} {T : u_T} {ty : Nat → FieldType} {a : cvX} (ha : EI M d pc p1 1 a) (hc : CK ci C T N ty) (hj : j < N) {host : String} (hl : (M.2.2.1, index, (T j).1, (T j).2.1, (T j).2.2.1, host) ∈ NSF) (hd : decode M.1 p1 = .ok (.getfield index, 3)) : EI M d pc (p1 + 3) 0 (xe_gi ci j a) := by
  intro X hx rest E σ v σ' he hs kk
  obtain ⟨⟨x, σ1⟩, e1, he⟩ := bnd he
  dsimp only at he
  split at he
  · rename_i hi
    obtain ⟨rfl, rfl⟩ := bnd2 he
    exact ha X hx rest E σ x σ1 e1 hs (fun o1 => WW_getIN hx hc hj hl hd hi kk)
  · cases he
theorem EI.grN {M : cvI} {d pc p1 ci N j index : Nat} {C : String} {T : u_T} {ty : Nat → FieldType} {a : cvX} (ha : EI M d pc p1 1 a) (hc : CK ci C T N ty) (hj : j < N) {host : String} (hl : (M.2.2.1, index, (T j).1, (T j).2.1, (T j).2.2.1, host) ∈ NSF) (hd : decode M.1 p1 = .ok (.getfield index, 3)) : EI M d pc (p1 + 3) 1 (xe_gr ci j a) := by
  intro X hx rest E σ v σ' he hs kk
  obtain ⟨⟨x, σ1⟩, e1, he⟩ := bnd he
  obtain ⟨w, hi, he⟩ := Option.map_eq_some_iff.mp he
  obtain ⟨rfl, rfl⟩ := Prod.mk.inj he
  exact ha X hx rest E σ x σ1 e1 hs (fun o1 => WW_getRN hx hc hj hl hd hi (kk (ref_nn hi)))
theorem EI.al {M : cvI} {d pc p1 p2 : Nat} {a i : cvX} (ha : EI M d pc p1 1 a) (hb : EI M (d + 1) p1 p2 0 i) (hd : decode M.1 p2 = .ok (.iaload, 1)) : EI M d pc (p2 + 1) 0 (xe_al a i) := by
  intro X hx rest E σ v σ' he hs kk
  obtain ⟨⟨x, σ1⟩, e1, he⟩ := bnd he
  obtain ⟨⟨y, σ2⟩, e2, he⟩ := bnd he
  obtain ⟨n, e3, he⟩ := bnd he
  dsimp only at he
  split at he
  · rename_i hi
    obtain ⟨rfl, rfl⟩ := bnd2 he
    refine ha X hx rest E σ x σ1 e1 hs (fun o1 => ?_)
    refine hb X hx _ E σ1 y σ2 e2 (stk1 hs) (fun o2 => ?_)
    exact WW_iald hx hd e3 o2 hi kk
  · cases he
theorem EI.an {M : cvI} {d pc p1 : Nat} {a : cvX} (ha : EI M d pc p1 1 a) (hd : decode M.1 p1 = .ok (.arraylength, 1)) : EI M d pc (p1 + 1) 0 (xe_an a) := by
  intro X hx rest E σ v σ' he hs kk
  obtain ⟨⟨x, σ1⟩, e1, he⟩ := bnd he
  obtain ⟨n, e3, he⟩ := Option.map_eq_some_iff.mp he
  obtain ⟨rfl, rfl⟩ := Prod.mk.inj he
  exact ha X hx rest E σ x σ1 e1 hs (fun o1 => WW_alen hx hd e3 (kk (len_in e3)))
