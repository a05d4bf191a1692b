/-! ===== calls ===== -/
def Qm (D : va_G) (cA : ClassId) (ad sd sv : Nat → Nat) (A : Nat → Prop) (σ : cvM) (rk : Nat) (v : Int) : Array Value → State → Outcome → State → Prop := fun _ st oc t =>
  (oc = .returned (if rk = 9 then none else some (conc ad sd rk v)) ∧ (rk = 9 ∨ okv rk v) ∧ Hd D cA ad sd sv A σ t) ∧ va_F A st t
/-- a method's contract: where its meaning answers, it returns, and the answer and the cells are those of its meaning -/
def CM (y : MethodName) (b : ByteArray) (nL : Nat) (ret : Option FieldType) (ks : List Nat) (rk fr lo : Nat) (f : cvF) : Prop :=
  ∀ (l : Launch) (D : va_G) (cA : ClassId) (ad sd sv : Nat → Nat) (A : Nat → Prop) (vs : List Int) (σ σ' : cvM) (v : Int), f vs σ = some (v, σ') → Ap A ad → okvs ks vs →
    Met l y (.code y b nL ret :: BIG) ({ frames := fr, cells := 0, slots := 0, locals := lo }) (va_Pc (concs ad sd ks vs) (Hd D cA ad sd sv A σ)) (Qm D cA ad sd sv A σ' rk v) 0 0 A
theorem hd_blind {D : va_G} {cA : ClassId} {ad sd sv : Nat → Nat} {A : Nat → Prop} {σ : cvM} {av : List Value} : FrameBlind (va_Pc av (Hd D cA ad sd sv A σ)) := by
  intro a U g mk ⟨h0, h1, h2, h3, h4, h5⟩
  exact ⟨h0, h1, va_K.moved (u := U) (U := U.calling g mk a) (Vm.Alike.refl U.vm) h2, h3, h4.same rfl, vk_S.moved (u := U) (U := U.calling g mk a) (Vm.Alike.refl U.vm) h5.1, fun i hi => (h5.2.1 i hi).same rfl, va_Z.moved (u := U) (U := U.calling g mk a) (Vm.Alike.refl U.vm) h5.2.2.1, va_Z.moved (u := U) (U := U.calling g mk a) (Vm.Alike.refl U.vm) h5.2.2.2.1, h5.2.2.2.2⟩
theorem okvs_len : ∀ {ks : List Nat} {vs : List Int}, okvs ks vs → ks.length = vs.length
  | [], [], _ => rfl
  | _ :: _, _ :: _, h => by simp [okvs_len h.2]
  | [], _ :: _, h => h.elim
  | _ :: _, [], h => h.elim
theorem concs_len (ad sd : Nat → Nat) : ∀ {ks : List Nat} {vs : List Int}, okvs ks vs → (concs ad sd ks vs).length = ks.length
  | [], [], _ => rfl
  | _ :: _, _ :: _, h => by simp [concs, concs_len ad sd h.2]
  | [], _ :: _, h => h.elim
  | _ :: _, [], h => h.elim
def stk (st : List Value) : Nat := (st.map fun v => v.category).sum
section RUN
variable {p : Program} {l : Launch} {e : Jvm.Env} {R : Room} {s : State} {m : MethodId} {args : Array Value} {below : List Frame} {meth : Method} {c : Code} {H : Heap} {locs : List Loc} {cells slots : Nat} {Q : State → Prop}
theorem cv_run {pc : Nat} {ls : Array Slot} {rest st0 : List Value} {a : Array Value} {A : Nat → Prop} {D : va_G} {cA : ClassId} {ad sd sv : Nat → Nat} {σ' : cvM} {rk : Nat} {v : Int}
    (hr : va_Run p l e R s m args below meth c H locs cells slots 0 0 (F0 m pc ls st0) rest (Qm D cA ad sd sv A σ' rk v a) A) (hS : va_S A s.heap H locs)
    (kk : ∀ (H1 : Heap) (locs1 : List Loc), va_P D classes (wld cA ad σ') H1 → (∀ k i, InR (σ' k i)) → (rk = 9 ∨ okv rk v) → va_S A s.heap H1 locs1 → W p l e R s m args below meth c H1 locs1 cells slots Q (F0 m (pc + 3) ls ((if rk = 9 then [] else [conc ad sd rk v]) ++ rest))) : W p l e R s m args below meth c H locs cells slots Q (F0 m pc ls st0) := by
  intro T hT X
  obtain ⟨w, st₀, t, T', L, h0, X', hL, e1, e2, ⟨⟨hv, hok, hP, hK, hI, hN, hX⟩, hz, hk⟩, st⟩ := hr T hT X
  have hv := Outcome.returned.inj hv
  subst hv
  rw [h0] at hz hk
  obtain ⟨t2, a1, b1⟩ := kk T'.heap (locs ++ L) (by rw [e1]; exact hP) hI hok
    ⟨Nat.le_trans hS.1 (by rw [e1]; exact hz), fun q h1 h2 => by rw [e1, hk q (Nat.lt_of_lt_of_le h1 hS.1) h2]; exact hS.2.1 q h1 h2, fun q hq => by
      rcases List.mem_append.mp hq with h | h
      · exact hS.2.2 q h
      · exact hL q h⟩ T' rfl X'
  refine ⟨t2, st t2 ?_, b1⟩
  have e3 : (if rk = 9 then none else some (conc ad sd rk v)).toList ++ rest = (if rk = 9 then [] else [conc ad sd rk v]) ++ rest := by
    split <;> rfl
  rw [e3]
  exact a1
end RUN
/-- what is said of a method's name -/
def dsc (y : MethodName) (k : Nat) : Prop := y.cls ≠ "java/lang/invoke/MethodHandle" ∧ y.cls ≠ "java/lang/invoke/VarHandle" ∧ (parseMethodDescriptor y.desc).map (fun d => d.parameters.length) = some k
def wB (y : MethodName) (b : ByteArray) (n : Nat) (r : Option FieldType) : Prop := Cond.initialized y.cls ∈ BIG ∧ Cond.code y b n r ∈ BIG
def wI (y : MethodName) : Prop := Cond.instanceMethod y ∈ BIG ∧ Cond.selects y.cls y y ∈ BIG
def ccR (M : cvI) (nL fr lo : Nat) : Bool := decide (fr + 1 ≤ M.2.2.2.2.1) && decide (8 + (nL + 11) + lo ≤ M.2.2.2.2.2.1)
def rvs (ad sd : Nat → Nat) (rk : Nat) (v : Int) : List Value := if rk = 9 then [] else [conc ad sd rk v]
theorem hd_at {p : Program} {l : Launch} {e : Jvm.Env} {R : Room} {s : State} {m : MethodId} {args : Array Value} {below : List Frame} {meth : Method} {c : Code} {D : va_G} {cA : ClassId} {ad sd sv : Nat → Nat} {A : Nat → Prop} {cells slots : Nat} {Q : State → Prop} {M : cvI} {σ : cvM} {H : Heap} {locs : List Loc}
    (hx : Cx (p, l, e, R, s, m, args, below, meth, c, D, cA, ad, sd, sv, A, cells, slots, Q) M) (hP : va_P D classes (wld cA ad σ) H) (hI : ∀ k i, InR (σ k i)) (hS : va_S A s.heap H locs) {U : State} (hU : U.heap = H) (hW : s.WarmedH U.vm) : Hd D cA ad sd sv A σ U := by
  obtain ⟨h1, h2, h3, h4, h5, h6, h7, h8, h9, h10, h11, h12, h13, h14, h15⟩ := hx
  exact ⟨by rw [hU]; exact hP, va_K.moved hW.alike h6, hI, h8.warm hW, h9.warm hW (fun a h1 h2 => by rw [hU]; exact hS.2.1 a h1 h2)⟩
theorem WW_callS {X : cvT} {M : cvI} {pc : Nat} {st : List Value} {E : cvE} {σ σ' : cvM} {y : MethodName} {b : ByteArray} {nL : Nat} {ret : Option FieldType} {ks : List Nat} {rk fr lo : Nat} {f : cvF} {vs : List Int} {v : Int} {index : Nat}
    (hx : Cx X M) (hM : CM y b nL ret ks rk fr lo f) (hf : f vs σ = some (v, σ')) (hok : okvs ks vs) (hst : stk st ≤ 8) (hd : decode M.1 pc = .ok (.invokestatic index, 3)) (hw : wB y b nL ret) (hl : Cond.methodLink M.2.2.1 index y ∈ BIG) (hs : Cond.static y ∈ BIG) (hy : dsc y ks.length) (hr : ccR M nL fr lo = true)
    (kk : (rk = 9 ∨ okv rk v) → WW X M (pc + 3) (rvs (xad X) (xsd X) rk v ++ st) E σ') : WW X M pc ((concs (xad X) (xsd X) ks vs).reverse ++ st) E σ := by
  obtain ⟨p, l, e, R, s, m, args, below, meth, c, D, cA, ad, sd, sv, A, cells, slots, Q⟩ := X
  have hx' := hx
  obtain ⟨h1, h2, h3, h4, h5, h6, h7, h8, h9, h10, h11, h12, h13, h14, h15⟩ := hx'
  intro H ls locs hP hI hL hS
  simp only [ccR, Bool.and_eq_true, decide_eq_true_eq] at hr
  refine cv_run (va_runS ⟨h1, h2, h3, h4, h5⟩ (hM l D cA ad sd sv A vs σ σ' v hf h7 hok) ⟨callB_of ks.length h5 (big_in hw.2) rfl rfl rfl (h5 _ hw.1) (h5 _ hl) hy ⟨Nat.le_trans hr.1 h10, Nat.le_trans hr.2 h11⟩, h5 _ hs⟩ ⟨hd_blind, fun U hU hW => ⟨rfl, hd_at hx hP hI hS hU hW⟩⟩ rfl (concs_len ad sd hok) hL.1 rfl ?_ hd ⟨h12, h13⟩) hS (fun H1 l1 q1 q2 q3 q4 => kk q3 H1 ls l1 q1 q2 hL q4)
  show 2 * 0 + stk st ≤ 8
  omega
theorem WW_callSN {X : cvT} {M : cvI} {pc : Nat} {st : List Value} {E : cvE} {σ σ' : cvM} {y : MethodName} {b : ByteArray} {nL : Nat} {ret : Option FieldType} {ks : List Nat} {rk fr lo : Nat} {f : cvF} {vs : List Int} {v : Int} {index : Nat} {host : String}
    (hx : Cx X M) (hM : CM y b nL ret ks rk fr lo f) (hf : f vs σ = some (v, σ')) (hok : okvs ks vs) (hst : stk st ≤ 8) (hd : decode M.1 pc = .ok (.invokestatic index, 3)) (hw : wB y b nL ret) (hl : (M.2.2.1, index, y, host) ∈ NSM) (hs : Cond.static y ∈ BIG) (hy : dsc y ks.length) (hr : ccR M nL fr lo = true)
    (kk : (rk = 9 ∨ okv rk v) → WW X M (pc + 3) (rvs (xad X) (xsd X) rk v ++ st) E σ') : WW X M pc ((concs (xad X) (xsd X) ks vs).reverse ++ st) E σ := by
  obtain ⟨p, l, e, R, s, m, args, below, meth, c, D, cA, ad, sd, sv, A, cells, slots, Q⟩ := X
  have hx' := hx
  obtain ⟨h1, h2, h3, h4, h5, h6, h7, h8, h9, h10, h11, h12, h13, h14, h15⟩ := hx'
  intro H ls locs hP hI hL hS
  simp only [ccR, Bool.and_eq_true, decide_eq_true_eq] at hr
  refine cv_run (va_runSN (host := host) ⟨h1, h2, h3, h4, h5⟩ (hM l D cA ad sd sv A vs σ σ' v hf h7 hok) ⟨va_cnB ks.length h5 (big_in hw.2) rfl rfl rfl (h8.2 _ hl) (h5 _ hw.1) hy ⟨Nat.le_trans hr.1 h10, Nat.le_trans hr.2 h11⟩, h5 _ hs, trivial⟩ ⟨hd_blind, fun U hU hW => ⟨rfl, hd_at hx hP hI hS hU hW⟩⟩ rfl (concs_len ad sd hok) hL.1 rfl ?_ hd ⟨h12, h13⟩) hS (fun H1 l1 q1 q2 q3 q4 => kk q3 H1 ls l1 q1 q2 hL q4)
  show 2 * 0 + stk st ≤ 8
  omega
theorem WW_callV {X : cvT} {M : cvI} {pc : Nat} {st : List Value} {E : cvE} {σ σ' : cvM} {y : MethodName} {b : ByteArray} {nL : Nat} {ret : Option FieldType} {ks : List Nat} {rk fr lo : Nat} {f : cvF} {vs : List Int} {v o : Int} {index ci N : Nat} {C : String} {T : u_T} {ty : Nat → FieldType}
    (hx : Cx X M) (hM : CM y b nL ret (1 :: ks) rk fr lo f) (hf : f (o :: vs) σ = some (v, σ')) (hok : okvs ks vs) (hc : CK ci C T N ty) (hcy : y.cls = C) (ho : isOb ci o = true) (hst : stk st ≤ 8) (hd : decode M.1 pc = .ok (.invokevirtual index, 3)) (hw : wB y b nL ret) (hl : Cond.methodLink M.2.2.1 index y ∈ BIG) (hs : wI y) (hy : dsc y ks.length) (hr : ccR M nL fr lo = true)
    (kk : (rk = 9 ∨ okv rk v) → WW X M (pc + 3) (rvs (xad X) (xsd X) rk v ++ st) E σ') : WW X M pc ((concs (xad X) (xsd X) (1 :: ks) (o :: vs)).reverse ++ st) E σ := by
  obtain ⟨p, l, e, R, s, m, args, below, meth, c, D, cA, ad, sd, sv, A, cells, slots, Q⟩ := X
  have hx' := hx
  obtain ⟨h1, h2, h3, h4, h5, h6, h7, h8, h9, h10, h11, h12, h13, h14, h15⟩ := hx'
  intro H ls locs hP hI hL hS
  simp only [ccR, Bool.and_eq_true, decide_eq_true_eq] at hr
  obtain ⟨n, fs, rfl, hn⟩ := isOb_spec ho
  subst hcy
  have hok2 : okvs (1 :: ks) ((n : Int) :: vs) := ⟨Int.natCast_nonneg n, hok⟩
  have hG : GoodIn BIG (wsV M.2.2.1 index y.cls y (.code y b nL ret :: BIG)) := by
    intro w hw2
    unfold wsV at hw2
    rcases List.mem_append.mp hw2 with h | h
    · have : w ∈ BIG := by
        simp only [List.mem_cons, List.not_mem_nil, or_false] at h
        rcases h with rfl | rfl | rfl | rfl
        · exact hl
        · exact hs.1
        · exact hs.2
        · exact hw.1
      exact ⟨this, big_good this⟩
    · exact big_in hw.2 w h
  refine cv_run (va_runV (b := ad n) (C := y.cls) (As := concs ad sd ks vs) ⟨h1, h2, h3, h4, h5⟩ (hM l D cA ad sd sv A _ σ σ' v hf h7 hok2) (cwV ks.length h5 hG rfl rfl rfl ⟨rfl, hy⟩ ⟨Nat.le_trans hr.1 h10, Nat.le_trans hr.2 h11⟩) ⟨hd_blind, va_recv h6 hP hc.1 (wld_at hn), fun U hU hW => ⟨rfl, hd_at hx hP hI hS hU hW⟩⟩ rfl (concs_len ad sd hok) hL.1 ?_ ?_ hd ⟨h12, h13⟩) hS (fun H1 l1 q1 q2 q3 q4 => kk q3 H1 ls l1 q1 q2 hL q4)
  · show (concs ad sd (1 :: ks) ((n : Int) :: vs)).reverse ++ st = _
    simp [concs, conc]
  · show 2 * 0 + stk st ≤ 8
    omega
theorem WW_callVN {X : cvT} {M : cvI} {pc : Nat} {st : List Value} {E : cvE} {σ σ' : cvM} {y : MethodName} {b : ByteArray} {nL : Nat} {ret : Option FieldType} {ks : List Nat} {rk fr lo : Nat} {f : cvF} {vs : List Int} {v o : Int} {index ci N : Nat} {C host : String} {T : u_T} {ty : Nat → FieldType}
    (hx : Cx X M) (hM : CM y b nL ret (1 :: ks) rk fr lo f) (hf : f (o :: vs) σ = some (v, σ')) (hok : okvs ks vs) (hc : CK ci C T N ty) (hcy : y.cls = C) (ho : isOb ci o = true) (hst : stk st ≤ 8) (hd : decode M.1 pc = .ok (.invokevirtual index, 3)) (hw : wB y b nL ret) (hl : (M.2.2.1, index, y, host) ∈ NSM) (hs : wI y) (hy : dsc y ks.length) (hr : ccR M nL fr lo = true)
    (kk : (rk = 9 ∨ okv rk v) → WW X M (pc + 3) (rvs (xad X) (xsd X) rk v ++ st) E σ') : WW X M pc ((concs (xad X) (xsd X) (1 :: ks) (o :: vs)).reverse ++ st) E σ := by
  obtain ⟨p, l, e, R, s, m, args, below, meth, c, D, cA, ad, sd, sv, A, cells, slots, Q⟩ := X
  have hx' := hx
  obtain ⟨h1, h2, h3, h4, h5, h6, h7, h8, h9, h10, h11, h12, h13, h14, h15⟩ := hx'
  intro H ls locs hP hI hL hS
  simp only [ccR, Bool.and_eq_true, decide_eq_true_eq] at hr
  obtain ⟨n, fs, rfl, hn⟩ := isOb_spec ho
  subst hcy
  have hok2 : okvs (1 :: ks) ((n : Int) :: vs) := ⟨Int.natCast_nonneg n, hok⟩
  refine cv_run (va_runVN (host := host) (b := ad n) (C := y.cls) (As := concs ad sd ks vs) ⟨h1, h2, h3, h4, h5⟩ (hM l D cA ad sd sv A _ σ σ' v hf h7 hok2) ⟨va_cnB ks.length h5 (big_in hw.2) rfl rfl rfl (h8.2 _ hl) (h5 _ hw.1) hy ⟨Nat.le_trans hr.1 h10, Nat.le_trans hr.2 h11⟩, h5 _ hs.1, h5 _ hs.2⟩ ⟨hd_blind, va_recv h6 hP hc.1 (wld_at hn), fun U hU hW => ⟨rfl, hd_at hx hP hI hS hU hW⟩⟩ rfl (concs_len ad sd hok) hL.1 ?_ ?_ hd ⟨h12, h13⟩) hS (fun H1 l1 q1 q2 q3 q4 => kk q3 H1 ls l1 q1 q2 hL q4)
  · show (concs ad sd (1 :: ks) ((n : Int) :: vs)).reverse ++ st = _
    simp [concs, conc]
  · show 2 * 0 + stk st ≤ 8
    omega
