/-! ===== CONSTRUCTION: worlds that grow, cells at the heap's end one behind another ===== -/
/-- a value: 0 a number, 1 the object itself, 2 an argument, 3 the cell made j-th, else null -/
abbrev kv : Type := Nat × Int
/-- a cell: an object of a class, an array of ints -/
abbrev kc : Type := (Nat × List kv) ⊕ (Nat × List Int)
def kcv (h0 sz : Nat) (av : List Value) (q : kv) : Value := match q.1 with
  | 0 => .int (Int32.ofInt q.2)
  | 1 => .ref h0
  | 2 => av.getD q.2.toNat .null
  | 3 => .ref (sz + q.2.toNat)
  | _ => .null
def kce (cA : ClassId) (h0 sz : Nat) (av : List Value) (x : kc) : va_E := match x with
  | .inl o => .inr (o.1, o.2.map (kcv h0 sz av))
  | .inr a => .inl (cA, a.1, .inl fun j => Int32.ofInt (a.2.getD j 0))
def kws (cA : ClassId) (h0 sz : Nat) (av : List Value) (C : List kc) : va_W := C.mapIdx fun j x => (sz + j, kce cA h0 sz av x)
def kth (h0 sz : Nat) (av : List Value) (ti : Option Nat) (F : List kv) : va_W := match ti with
  | some ci => [(h0, .inr (ci, F.map (kcv h0 sz av)))]
  | none => []
def ksz (x : kc) : Nat := match x with
  | .inl o => o.2.length
  | .inr a => a.1
def kcs (C : List kc) : Nat := (C.map ksz).sum
abbrev kT : Type := Program × Launch × Jvm.Env × Room × State × MethodId × Array Value × List Frame × Method × Code × va_G × ClassId × Nat × List Value × (Nat → Prop) × (State → Prop)
def LK (h0 sz : Nat) (av : List Value) (nL : Nat) (L : List (Option kv)) (ls : Array Slot) : Prop := ls.size = nL ∧ lv_wf ls ∧ ∀ (k : Nat) (q : kv), L.getD k none = some q → ls[k]? = some (.val (kcv h0 sz av q))
def KW (X : kT) (nL : Nat) (ti : Option Nat) (pc : Nat) (L : List (Option kv)) (st : List kv) (F : List kv) (C : List kc) : Prop := match X with
  | (p, l, e, R, s, m, args, below, meth, c, D, cA, h0, av, A, Q) => ∀ (H : Heap) (ls : Array Slot) (locs : List Loc), va_P D classes (kth h0 s.heap.size av ti F ++ kws cA h0 s.heap.size av C) H → H.size = s.heap.size + C.length → LK h0 s.heap.size av nL L ls → va_S A s.heap H locs → W p l e R s m args below meth c H locs C.length (kcs C) Q (F0 m pc ls (st.map (kcv h0 s.heap.size av)))
def KC (X : kT) (b : ByteArray) (nL : Nat) (own : String) (ti : Option Nat) (fr lo mc ms : Nat) : Prop := match X with
  | (p, _, _, R, s, m, args, _, meth, c, D, cA, h0, _, A, _) => p.tables.exec = Jvm.exec ∧ c.code = b ∧ c.maxLocals = nL ∧ s.vm.findClass own = some m.cls ∧ (∀ w ∈ BIG, w.before args s = true) ∧ va_K D classes [(cA, .int)] s ∧ (∀ q, s.heap.size ≤ q → A q) ∧ NW s ∧ fr ≤ R.frames ∧ lo ≤ R.locals ∧ mc ≤ R.cells ∧ ms ≤ R.slots ∧ (ti = none ∨ (h0 < s.heap.size ∧ A h0 ∧ meth.name = "<init>"))
theorem kws_at {cA : ClassId} {h0 sz : Nat} {av : List Value} {C : List kc} {j : Nat} {x : kc} (h : C[j]? = some x) : (kws cA h0 sz av C)[j]? = some (sz + j, kce cA h0 sz av x) := by
  unfold kws
  rw [List.getElem?_mapIdx, h]
  rfl
theorem kws_lt {cA : ClassId} {h0 sz : Nat} {av : List Value} {C : List kc} {j : Nat} {q : Nat × va_E} (h : (kws cA h0 sz av C)[j]? = some q) : j < C.length ∧ q.1 = sz + j := by
  unfold kws at h
  rw [List.getElem?_mapIdx] at h
  cases hc : C[j]? with
  | none => rw [hc] at h; cases h
  | some x => rw [hc] at h; cases h; exact ⟨(List.getElem?_eq_some_iff.mp hc).1, rfl⟩
theorem kw_D {A : Nat → Prop} {cA : ClassId} {h0 sz : Nat} {av : List Value} {ti : Option Nat} {F : List kv} {C : List kc} (hA : ∀ q, sz ≤ q → A q) (ht : ti = none ∨ (h0 < sz ∧ A h0)) : va_D A (kth h0 sz av ti F ++ kws cA h0 sz av C) := by
  have h2 : va_D A (kws cA h0 sz av C) := by
    refine ⟨fun i j p q hi hj e => ?_, fun k q hk => ?_⟩
    · have a := kws_lt hi
      have b := kws_lt hj
      omega
    · have a := kws_lt hk
      rw [a.2]
      exact hA _ (by omega)
  cases ti with
  | none => exact h2
  | some ci =>
    rcases ht with h | h
    · cases h
    · refine va_D.app ⟨fun i j p q hi hj e => ?_, fun k q hk => ?_⟩ h2 (fun i j p q hi hj => ?_)
      · have a := (List.getElem?_eq_some_iff.mp hi).1
        have b := (List.getElem?_eq_some_iff.mp hj).1
        simp [kth] at a b
        omega
      · have a := List.mem_of_getElem? hk
        simp [kth] at a
        rw [a]
        exact h.2
      · have a := List.mem_of_getElem? hi
        simp [kth] at a
        have b := kws_lt hj
        rw [a, b.2]
        show h0 ≠ _
        omega
theorem KC.D {X : kT} {b : ByteArray} {nL : Nat} {own : String} {ti : Option Nat} {fr lo mc ms : Nat} {p l e R s m args below meth c D cA h0 av A Q} (hX : X = (p, l, e, R, s, m, args, below, meth, c, D, cA, h0, av, A, Q)) (hx : KC X b nL own ti fr lo mc ms) (F : List kv) (C : List kc) : va_D A (kth h0 s.heap.size av ti F ++ kws cA h0 s.heap.size av C) := by
  subst hX
  obtain ⟨h1, h2, h3, h4, h5, h6, h7, h8, h9, h10, h11, h12, h13⟩ := hx
  exact kw_D h7 (h13.elim Or.inl (fun h => Or.inr ⟨h.1, h.2.1⟩))
section KROWS
variable {X : kT} {b : ByteArray} {nL : Nat} {own : String} {ti : Option Nat} {fr lo mc ms pc : Nat} {L : List (Option kv)} {st : List kv} {F : List kv} {C : List kc}
theorem KK.aload (hx : KC X b nL own ti fr lo mc ms) {j : Fin 4} {i t : Nat} {v : Int} (hd : decode b pc = .ok (.aload_n j, 1)) (hj : (j : Nat) = i) (hv : L.getD i none = some (t, v)) (hr : ∀ h0 sz av, X.2.2.2.2.2.2.2.2.2.2.2.2.1 = h0 → X.2.2.2.2.2.2.2.2.2.2.2.2.2.1 = av → ∃ a, kcv h0 sz av (t, v) = .ref a) (k : KW X nL ti (pc + 1) L ((t, v) :: st) F C) : KW X nL ti pc L st F C := by
  obtain ⟨p, l, e, R, s, m, args, below, meth, c, D, cA, h0, av, A, Q⟩ := X
  obtain ⟨h1, h2, h3, h4, h5, h6, h7, h8, h9, h10, h11, h12, h13⟩ := hx
  intro H ls locs hP hz hL hS
  obtain ⟨a, ha⟩ := hr h0 s.heap.size av rfl rfl
  have h := hL.2.2 i _ hv
  have k := k H ls locs hP hz hL hS
  rw [List.map_cons, ha] at k
  rw [ha] at h
  exact lv_aload_n h1 h2 hd hj h k
theorem KK.iload (hx : KC X b nL own ti fr lo mc ms) {j : Fin 4} {i : Nat} {v : Int} (hd : decode b pc = .ok (.iload_n j, 1)) (hj : (j : Nat) = i) (hv : L.getD i none = some (0, v)) (k : KW X nL ti (pc + 1) L ((0, v) :: st) F C) : KW X nL ti pc L st F C := by
  obtain ⟨p, l, e, R, s, m, args, below, meth, c, D, cA, h0, av, A, Q⟩ := X
  obtain ⟨h1, h2, h3, h4, h5, h6, h7, h8, h9, h10, h11, h12, h13⟩ := hx
  intro H ls locs hP hz hL hS
  exact lv_iload_n h1 h2 hd hj (hL.2.2 i _ hv) (k H ls locs hP hz hL hS)
theorem KK.ic (hx : KC X b nL own ti fr lo mc ms) {n : Int} (hd : decode b pc = .ok (.iconst n, 1)) (k : KW X nL ti (pc + 1) L ((0, n) :: st) F C) : KW X nL ti pc L st F C := by
  obtain ⟨p, l, e, R, s, m, args, below, meth, c, D, cA, h0, av, A, Q⟩ := X
  obtain ⟨h1, h2, h3, h4, h5, h6, h7, h8, h9, h10, h11, h12, h13⟩ := hx
  intro H ls locs hP hz hL hS
  exact lv_iconst h1 h2 hd rfl (k H ls locs hP hz hL hS)
theorem KK.bi (hx : KC X b nL own ti fr lo mc ms) {n : Int} (hd : decode b pc = .ok (.bipush n, 2)) (hv : (Int8.ofInt n).toInt32 = Int32.ofInt n) (k : KW X nL ti (pc + 2) L ((0, n) :: st) F C) : KW X nL ti pc L st F C := by
  obtain ⟨p, l, e, R, s, m, args, below, meth, c, D, cA, h0, av, A, Q⟩ := X
  obtain ⟨h1, h2, h3, h4, h5, h6, h7, h8, h9, h10, h11, h12, h13⟩ := hx
  intro H ls locs hP hz hL hS
  exact lv_bipush h1 h2 hd hv (k H ls locs hP hz hL hS)
theorem KK.si (hx : KC X b nL own ti fr lo mc ms) {n : Int} (hd : decode b pc = .ok (.sipush n, 3)) (hv : (Int16.ofInt n).toInt32 = Int32.ofInt n) (k : KW X nL ti (pc + 3) L ((0, n) :: st) F C) : KW X nL ti pc L st F C := by
  obtain ⟨p, l, e, R, s, m, args, below, meth, c, D, cA, h0, av, A, Q⟩ := X
  obtain ⟨h1, h2, h3, h4, h5, h6, h7, h8, h9, h10, h11, h12, h13⟩ := hx
  intro H ls locs hP hz hL hS
  exact lv_sipush h1 h2 hd hv (k H ls locs hP hz hL hS)
theorem kcv_cat (h0 sz : Nat) (av : List Value) {t : Nat} (v : Int) (h : t ≠ 2) : (kcv h0 sz av (t, v)).category = 1 := by
  unfold kcv
  split
  · rfl
  · rfl
  · rename_i q; exact absurd q h
  · rfl
  · rfl
theorem KK.dup (hx : KC X b nL own ti fr lo mc ms) {t : Nat} {v : Int} (hd : decode b pc = .ok (.dup, 1)) (ht : t ≠ 2) (k : KW X nL ti (pc + 1) L ((t, v) :: (t, v) :: st) F C) : KW X nL ti pc L ((t, v) :: st) F C := by
  obtain ⟨p, l, e, R, s, m, args, below, meth, c, D, cA, h0, av, A, Q⟩ := X
  obtain ⟨h1, h2, h3, h4, h5, h6, h7, h8, h9, h10, h11, h12, h13⟩ := hx
  intro H ls locs hP hz hL hS
  exact lv_dup h1 h2 hd (kcv_cat _ _ _ _ ht) (k H ls locs hP hz hL hS)
theorem KK.mul (hx : KC X b nL own ti fr lo mc ms) {x y : Int} (hd : decode b pc = .ok (.imul, 1)) (k : KW X nL ti (pc + 1) L ((0, omul x y) :: st) F C) : KW X nL ti pc L ((0, y) :: (0, x) :: st) F C := by
  obtain ⟨p, l, e, R, s, m, args, below, meth, c, D, cA, h0, av, A, Q⟩ := X
  obtain ⟨h1, h2, h3, h4, h5, h6, h7, h8, h9, h10, h11, h12, h13⟩ := hx
  intro H ls locs hP hz hL hS
  have k := k H ls locs hP hz hL hS
  rw [List.map_cons] at k
  have e1 : kcv h0 s.heap.size av (0, omul x y) = .int (Int32.ofInt x * Int32.ofInt y) := by
    show Value.int (Int32.ofInt (omul x y)) = _
    rw [o_mul]
  rw [e1] at k
  exact lv_imul h1 h2 hd k
theorem KK.obj (hx : KC X b nL own ti fr lo mc ms) {idx : Nat} {v : Int} (hd : decode b pc = .ok (.invokespecial idx, 3)) (hl : Cond.methodLink own idx Lib.objectInit ∈ BIG) (hi : Cond.instanceMethod Lib.objectInit ∈ BIG) (hc : Cond.code Lib.objectInit ⟨#[0xb1]⟩ 1 none ∈ BIG) (hfr : 1 ≤ fr) (hlo : 12 ≤ lo) (k : KW X nL ti (pc + 3) L [] F C) : KW X nL ti pc L [(1, v)] F C := by
  obtain ⟨p, l, e, R, s, m, args, below, meth, c, D, cA, h0, av, A, Q⟩ := X
  obtain ⟨h1, h2, h3, h4, h5, h6, h7, h8, h9, h10, h11, h12, h13⟩ := hx
  intro H ls locs hP hz hL hS
  refine W.objInit (a := h0) (rest := []) h1 h2 h4 (h5 _ hl) (h5 _ hi) (h5 _ hc) rfl (by rw [h3]; exact hL.1) rfl hd (Nat.le_trans hfr h9) ?_ (k H ls locs hP hz hL hS)
  show 2 * 0 + 0 + 12 ≤ R.locals
  omega
theorem kcs_app (C : List kc) (x : kc) : kcs (C ++ [x]) = kcs C + ksz x := by simp [kcs]
theorem kw_app {cA : ClassId} {h0 sz : Nat} {av : List Value} (T : va_W) (C : List kc) (x : kc) : (T ++ kws cA h0 sz av C) ++ [(sz + C.length, kce cA h0 sz av x)] = T ++ kws cA h0 sz av (C ++ [x]) := by
  unfold kws
  rw [List.append_assoc, List.mapIdx_append]
  simp
theorem KK.new (hx : KC X b nL own ti fr lo mc ms) {idx ci N : Nat} {Cn : String} {T : u_T} {ty : Nat → FieldType} (hd : decode b pc = .ok (.new idx, 3)) (hc : CK ci Cn T N ty) (hl : Cond.classLink own idx Cn ∈ BIG) (hi : Cond.instantiable Cn N ∈ BIG) (hn : Cond.initialized Cn ∈ BIG) (fs : List kv) (hN : fs.length = N) (hfs : ∀ h0 sz av, ∀ j, j < N → defaultValue (ty j) = vp_V (fs.map (kcv h0 sz av)) j) (hmc : C.length + 1 ≤ mc) (hms : kcs C + N ≤ ms) (k : KW X nL ti (pc + 3) L ((3, (C.length : Int)) :: st) F (C ++ [.inl (ci, fs)])) : KW X nL ti pc L st F C := by
  have hx' := hx
  obtain ⟨p, l, e, R, s, m, args, below, meth, c, D, cA, h0, av, A, Q⟩ := X
  obtain ⟨h1, h2, h3, h4, h5, h6, h7, h8, h9, h10, h11, h12, h13⟩ := hx'
  intro H ls locs hP hz hL hS
  have hKn := h6.1 ci _ hc.1
  have hD := KC.D rfl hx F C
  refine W.newcK h1 h2 h4 (h5 _ hl) (h5 _ hi) (h5 _ hn) rfl hd (Nat.le_trans hmc h11) (Nat.le_trans hms h12) hKn.2.1 rfl fun H1 kC hkC e1 z1 o1 => ?_
  have hk : ∀ (k : Nat) (x : Nat × va_E), (kth h0 s.heap.size av ti F ++ kws cA h0 s.heap.size av C)[k]? = some x → H1[x.1]? = H[x.1]? := fun k x hx => o1 x.1 ((hP k x hx).lt)
  have k := k H1 ls locs ?_ (by rw [z1, hz, List.length_append]; rfl) hL ⟨Nat.le_trans hS.1 (by omega), fun x g1 g2 => (o1 x (Nat.lt_of_lt_of_le g1 hS.1)).trans (hS.2.1 x g1 g2), hS.2.2⟩
  · have e2 : kcs (C ++ [.inl (ci, fs)]) = kcs C + N := by rw [kcs_app]; show kcs C + fs.length = _; rw [hN]
    have e3 : (C ++ [Sum.inl (ci, fs)]).length = C.length + 1 := by simp
    have e4 : kcv h0 s.heap.size av (3, (C.length : Int)) = .ref H.size := by
      show Value.ref (s.heap.size + ((C.length : Int)).toNat) = _
      rw [hz]
      rfl
    rw [e2, e3, List.map_cons, e4] at k
    exact k
  · rw [← kw_app]
    refine (hP.kept hk).app (fun k x hx => ?_)
    have hz2 : k < 1 := (List.getElem?_eq_some_iff.mp hx).1
    rw [show k = 0 by omega] at hx
    cases hx
    refine ⟨_, hc.1, ?_⟩
    have := (u_born ty h5 hc.2.1 hKn hkC e1 hc.2.2.1).to (hfs h0 s.heap.size av)
    rw [hz] at this
    exact this
theorem KK.newa (hx : KC X b nL own ti fr lo mc ms) {n : Int} {N : Nat} (hd : decode b pc = .ok (.newarray .int, 2)) (hw : Cond.arrayClass .int ∈ BIG) (hn : n = N) (hN : N < 100000) (hmc : C.length + 1 ≤ mc) (hms : kcs C + N ≤ ms) (k : KW X nL ti (pc + 2) L ((3, (C.length : Int)) :: st) F (C ++ [.inr (N, [])])) : KW X nL ti pc L ((0, n) :: st) F C := by
  have hx' := hx
  obtain ⟨p, l, e, R, s, m, args, below, meth, c, D, cA, h0, av, A, Q⟩ := X
  obtain ⟨h1, h2, h3, h4, h5, h6, h7, h8, h9, h10, h11, h12, h13⟩ := hx'
  subst hn
  intro H ls locs hP hz hL hS
  have hin : InR (N : Int) := ⟨by omega, by omega⟩
  refine va_newaK (atype := .int) (n := Int32.ofInt (N : Int)) (N := N) h1 h2 (h5 _ hw) rfl hd rfl (fun z => ?_) (by rw [o_tn hin]; rfl) (by show N * 4 ≤ 536870912; omega) (Nat.le_trans hmc h11) (Nat.le_trans hms h12) rfl fun H1 cA' e1 z1 o1 hAr hNm => ?_
  · have := (q_lt hin (y := 0) ⟨by decide, by decide⟩).mp z
    omega
  · have ecA : cA' = cA := by
      have h := (h6.2 0 _ rfl).2
      exact Option.some.inj (hNm.symm.trans h)
    subst ecA
    have hk : ∀ (k : Nat) (x : Nat × va_E), (kth h0 s.heap.size av ti F ++ kws cA' h0 s.heap.size av C)[k]? = some x → H1[x.1]? = H[x.1]? := fun k x hx => o1 x.1 ((hP k x hx).lt)
    have k := k H1 ls locs ?_ (by rw [z1, hz, List.length_append]; rfl) hL ⟨Nat.le_trans hS.1 (by omega), fun x g1 g2 => (o1 x (Nat.lt_of_lt_of_le g1 hS.1)).trans (hS.2.1 x g1 g2), hS.2.2⟩
    · have e2 : kcs (C ++ [.inr (N, [])]) = kcs C + N := by rw [kcs_app]; rfl
      have e3 : (C ++ [Sum.inr (N, [])]).length = C.length + 1 := by simp
      have e4 : kcv h0 s.heap.size av (3, (C.length : Int)) = .ref H.size := by
        show Value.ref (s.heap.size + ((C.length : Int)).toNat) = _
        rw [hz]
        rfl
      rw [e2, e3, List.map_cons, e4] at k
      exact k
    · rw [← kw_app]
      refine (hP.kept hk).app (fun k x hx => ?_)
      have hz2 : k < 1 := (List.getElem?_eq_some_iff.mp hx).1
      rw [show k = 0 by omega] at hx
      cases hx
      show H1[s.heap.size + C.length]? = some (vp_cell _ _)
      rw [← hz, e1]
      rfl
theorem kth_set {h0 sz : Nat} {av : List Value} {ci : Nat} {F : List kv} {W2 : va_W} {j : Nat} {q : kv} : (kth h0 sz av (some ci) F ++ W2).set 0 (h0, .inr (ci, (F.map (kcv h0 sz av)).set j (kcv h0 sz av q))) = kth h0 sz av (some ci) (F.set j q) ++ W2 := by
  show (h0, _) :: W2 = (h0, _) :: W2
  rw [List.map_set]
theorem KK.pf {ci : Nat} (hx : KC X b nL own (some ci) fr lo mc ms) {idx j N : Nat} {Cn : String} {T : u_T} {ty : Nat → FieldType} {q : kv} {u : Int} (hd : decode b pc = .ok (.putfield idx, 3)) (hc : CK ci Cn T N ty) (hj : j < N) (hl : Cond.fieldLink own idx (T j).1 (T j).2.1 (T j).2.2.1 ∈ BIG) (hfin : (T j).2.2.2 = false) (ho : ∀ h0 sz av, X.2.2.2.2.2.2.2.2.2.2.2.2.2.1 = av → narrow (ty j) (kcv h0 sz av q) = kcv h0 sz av q ∧ fits (ty j) (kcv h0 sz av q) = true) (hF : j < F.length) (k : KW X nL (some ci) (pc + 3) L st (F.set j q) C) : KW X nL (some ci) pc L (q :: (1, u) :: st) F C := by
  have hx' := hx
  obtain ⟨p, l, e, R, s, m, args, below, meth, c, D, cA, h0, av, A, Q⟩ := X
  obtain ⟨h1, h2, h3, h4, h5, h6, h7, h8, h9, h10, h11, h12, h13⟩ := hx'
  intro H ls locs hP hz hL hS
  have ho := ho h0 s.heap.size av rfl
  have hD := KC.D rfl hx F C
  have hap := va_apart (own := own) h5 hc.2.1 ty hc.2.2.1 hc.2.2.2 h6 hc.1
  obtain ⟨r, g0, cell, q1, q2, q3, q4⟩ := hP 0 _ rfl
  have hr : r = (Cn, T, N) := Option.some.inj (g0.symm.trans hc.1)
  subst hr
  obtain ⟨hSl, hfc, kC, hkC, hkind⟩ := h6.1 ci _ hc.1
  obtain ⟨cf, kf, fi, f, hi, hsl⟩ := hSl j hj
  have hlay := h5 _ (hc.2.1 _ (u_in_lay hj))
  unfold u_lay at hlay
  rw [if_neg (by rw [hfin]; decide)] at hlay
  have hst := (u_facts hfc hkC (u_lays h5 hc.2.1 hj) hi).1
  have g6 := u_store hfc hkC hkind hlay hi (hc.2.2.1 j hj) ho.1 ho.2
  refine W.putK h1 h2 (f := f) ⟨h4, h5 _ hl, ⟨_, _, _, hi⟩, hst⟩ (by rw [q2]; exact g6) q1 q3 (by rw [hsl]; exact k2_hasslot (q4 j hj)) rfl rfl hd fun H1 e1 e2 e3 => ?_
  rw [hsl] at e1 ⊢
  have he0 : (kth h0 s.heap.size av (some ci) F ++ kws cA h0 s.heap.size av C)[0]? = some (h0, .inr (ci, F.map (kcv h0 s.heap.size av))) := rfl
  have p1 := hP.set (e := .inr (ci, (F.map (kcv h0 s.heap.size av)).set j (kcv h0 s.heap.size av q))) hD he0 ⟨_, hc.1, t_OB.to (V := updV (vp_V (F.map (kcv h0 s.heap.size av))) j (kcv h0 s.heap.size av q)) ⟨_, e1, q2, q3, t_set q4 hap hj _⟩ (fun i _ => vp_updV_set (by rw [List.length_map]; exact hF) _ i)⟩ e3
  rw [kth_set] at p1
  exact k H1 ls _ p1 (by rw [e2]; exact hz) hL (hS.put e2 e3 (hD.2 0 _ rfl))
theorem KK.pF {ci : Nat} (hx : KC X b nL own (some ci) fr lo mc ms) {idx j N : Nat} {Cn : String} {T : u_T} {ty : Nat → FieldType} {q : kv} {u : Int} (hd : decode b pc = .ok (.putfield idx, 3)) (hc : CK ci Cn T N ty) (hj : j < N) (hl : Cond.fieldLink own idx (T j).1 (T j).2.1 (T j).2.2.1 ∈ BIG) (hfin : (T j).2.2.2 = true) (hdecl : (T j).1 = own) (ho : ∀ h0 sz av, X.2.2.2.2.2.2.2.2.2.2.2.2.2.1 = av → narrow (ty j) (kcv h0 sz av q) = kcv h0 sz av q ∧ fits (ty j) (kcv h0 sz av q) = true) (hF : j < F.length) (k : KW X nL (some ci) (pc + 3) L st (F.set j q) C) : KW X nL (some ci) pc L (q :: (1, u) :: st) F C := by
  have hx' := hx
  obtain ⟨p, l, e, R, s, m, args, below, meth, c, D, cA, h0, av, A, Q⟩ := X
  obtain ⟨h1, h2, h3, h4, h5, h6, h7, h8, h9, h10, h11, h12, h13⟩ := hx'
  have hin : meth.name = "<init>" := by
    rcases h13 with h | h
    · cases h
    · exact h.2.2
  intro H ls locs hP hz hL hS
  have ho := ho h0 s.heap.size av rfl
  have hD := KC.D rfl hx F C
  have hap := va_apart (own := own) h5 hc.2.1 ty hc.2.2.1 hc.2.2.2 h6 hc.1
  obtain ⟨r, g0, cell, q1, q2, q3, q4⟩ := hP 0 _ rfl
  have hr : r = (Cn, T, N) := Option.some.inj (g0.symm.trans hc.1)
  subst hr
  obtain ⟨hSl, hfc, kC, hkC, hkind⟩ := h6.1 ci _ hc.1
  obtain ⟨cf, kf, fi, f, hi, hsl⟩ := hSl j hj
  have hlay := h5 _ (hc.2.1 _ (u_in_lay hj))
  unfold u_lay at hlay
  rw [if_pos hfin] at hlay
  have hst := (u_facts hfc hkC (u_lays h5 hc.2.1 hj) hi).1
  have hcf : m.cls = cf := by
    obtain ⟨_, _, c', _, _, _, -, -, hf', -, -, -, hown2, -⟩ := Cond.laysFinal_spec hlay
    have e1 : c' = cf := by have := hi.symm.trans hf'; simp at this; exact this.1.symm
    rw [hdecl] at hown2
    rw [← e1]; exact Option.some.inj (h4.symm.trans hown2)
  have g6 := u_fits hfc hkC hkind (Or.inr hlay) hi (hc.2.2.1 j hj) ho.1 ho.2
  refine W.putFinK h1 h2 h4 (h5 _ hl) hi hst hcf hin (by rw [q2]; exact g6) q1 q3 (by rw [hsl]; exact k2_hasslot (q4 j hj)) rfl rfl hd fun H1 e1 e2 e3 => ?_
  rw [hsl] at e1 ⊢
  have he0 : (kth h0 s.heap.size av (some ci) F ++ kws cA h0 s.heap.size av C)[0]? = some (h0, .inr (ci, F.map (kcv h0 s.heap.size av))) := rfl
  have p1 := hP.set (e := .inr (ci, (F.map (kcv h0 s.heap.size av)).set j (kcv h0 s.heap.size av q))) hD he0 ⟨_, hc.1, t_OB.to (V := updV (vp_V (F.map (kcv h0 s.heap.size av))) j (kcv h0 s.heap.size av q)) ⟨_, e1, q2, q3, t_set q4 hap hj _⟩ (fun i _ => vp_updV_set (by rw [List.length_map]; exact hF) _ i)⟩ e3
  rw [kth_set] at p1
  exact k H1 ls _ p1 (by rw [e2]; exact hz) hL (hS.put e2 e3 (hD.2 0 _ rfl))
theorem KK.gf {ci : Nat} (hx : KC X b nL own (some ci) fr lo mc ms) {idx j N : Nat} {Cn : String} {T : u_T} {ty : Nat → FieldType} {q : kv} {u : Int} (hd : decode b pc = .ok (.getfield idx, 3)) (hc : CK ci Cn T N ty) (hj : j < N) (hl : Cond.fieldLink own idx (T j).1 (T j).2.1 (T j).2.2.1 ∈ BIG) (hF : F[j]? = some q) (k : KW X nL (some ci) (pc + 3) L (q :: st) F C) : KW X nL (some ci) pc L ((1, u) :: st) F C := by
  obtain ⟨p, l, e, R, s, m, args, below, meth, c, D, cA, h0, av, A, Q⟩ := X
  obtain ⟨h1, h2, h3, h4, h5, h6, h7, h8, h9, h10, h11, h12, h13⟩ := hx
  intro H ls locs hP hz hL hS
  refine va_get (ci := ci) h1 h2 h5 hc.2.1 h4 h6 hP 0 rfl hc.1 j hj (h5 _ hl) (fun _ h => h) (v := kcv h0 s.heap.size av q) ?_ hd (k H ls locs hP hz hL hS)
  rw [List.getElem?_map, hF]
  rfl
/-- a place of a row of ints is written -/
def lset (l : List Int) (i : Nat) (v : Int) : List Int := if i < l.length then l.set i v else l ++ List.replicate (i - l.length) 0 ++ [v]
theorem lset_at (l : List Int) (i : Nat) (v : Int) (j : Nat) : (lset l i v).getD j 0 = if j = i then v else l.getD j 0 := by
  unfold lset
  simp only [List.getD_eq_getElem?_getD]
  split
  · rename_i h
    by_cases hj : j = i
    · subst hj
      rw [if_pos rfl, List.getElem?_set_self h]
      rfl
    · rw [if_neg hj, List.getElem?_set_ne (Ne.symm hj)]
  · rename_i h
    by_cases hj : j = i
    · subst hj
      rw [if_pos rfl, List.getElem?_append_right (by simp; omega)]
      simp
      have : j - (l.length + (j - l.length)) = 0 := by omega
      rw [this]
      rfl
    · rw [if_neg hj]
      rcases Nat.lt_or_ge j l.length with q | q
      · rw [List.append_assoc, List.getElem?_append_left q]
      · rw [List.append_assoc, List.getElem?_append_right q, List.getElem?_eq_none q]
        rcases Nat.lt_or_ge (j - l.length) (i - l.length) with z | z
        · rw [List.getElem?_append_left (by simpa using z), List.getElem?_replicate, if_pos z]
          rfl
        · rw [List.getElem?_eq_none (by simp; omega)]
theorem kws_set {cA : ClassId} {h0 sz : Nat} {av : List Value} {T : va_W} {C : List kc} {j : Nat} {x : kc} (hj : j < C.length) : (T ++ kws cA h0 sz av C).set (T.length + j) (sz + j, kce cA h0 sz av x) = T ++ kws cA h0 sz av (C.set j x) := by
  rw [List.set_append_right _ _ (Nat.le_add_right _ _), Nat.add_sub_cancel_left]
  congr 1
  apply List.ext_getElem?
  intro i
  unfold kws
  by_cases hi : i = j
  · subst hi
    rw [List.getElem?_set_self (by rw [List.length_mapIdx]; exact hj), List.getElem?_mapIdx, List.getElem?_set_self hj]
    rfl
  · rw [List.getElem?_set_ne (Ne.symm hi), List.getElem?_mapIdx, List.getElem?_mapIdx, List.getElem?_set_ne (Ne.symm hi)]
theorem kcs_set {C : List kc} {j n : Nat} {l l' : List Int} (h : C[j]? = some (.inr (n, l))) : kcs (C.set j (.inr (n, l'))) = kcs C := by
  unfold kcs
  congr 1
  apply List.ext_getElem?
  intro i
  rw [List.getElem?_map, List.getElem?_map]
  by_cases hi : i = j
  · subst hi
    rw [List.getElem?_set_self (List.getElem?_eq_some_iff.mp h).1, h]
    rfl
  · rw [List.getElem?_set_ne (Ne.symm hi)]
theorem KK.ast (hx : KC X b nL own ti fr lo mc ms) {j i n : Nat} {l : List Int} {v : Int} (hd : decode b pc = .ok (.iastore, 1)) (hC : C[j]? = some (.inr (n, l))) (hi : i < n) (hn : n < 100000) (k : KW X nL ti (pc + 1) L st F (C.set j (.inr (n, lset l i v)))) : KW X nL ti pc L ((0, v) :: (0, (i : Int)) :: (3, (j : Int)) :: st) F C := by
  have hx' := hx
  obtain ⟨p, l0, e, R, s, m, args, below, meth, c, D, cA, h0, av, A, Q⟩ := X
  obtain ⟨h1, h2, h3, h4, h5, h6, h7, h8, h9, h10, h11, h12, h13⟩ := hx'
  intro H ls locs hP hz hL hS
  have hD := KC.D rfl hx F C
  have hjl := (List.getElem?_eq_some_iff.mp hC).1
  have he : (kth h0 s.heap.size av ti F ++ kws cA h0 s.heap.size av C)[(kth h0 s.heap.size av ti F).length + j]? = some (s.heap.size + j, .inl (cA, n, .inl fun j => Int32.ofInt (l.getD j 0))) := by
    rw [List.getElem?_append_right (Nat.le_add_right _ _), Nat.add_sub_cancel_left]
    exact kws_at hC
  have hin : InR (i : Int) := ⟨by omega, by omega⟩
  have hp := hP _ _ he
  refine W.iast (a := s.heap.size + j) (j := Int32.ofInt (i : Int)) (x := Int32.ofInt v) h1 h2 hp ((h6.2 0 _ rfl).1 n (fun j => .int (Int32.ofInt (l.getD j 0)))) (fun q => by cases q) ?_ rfl rfl hd fun H1 e1 z1 oq => ?_
  · show ¬ (_ ∨ (arrV _ _ _).slots.size ≤ _)
    rw [arrV_size]
    show vp_in (Int32.ofInt (i : Int)) n
    exact o_cl hin (by omega) (by omega)
  · have p1 := hP.set (e := .inl (cA, n, .inl fun q => Int32.ofInt ((lset l i v).getD q 0))) hD he ?_ oq
    · have e5 : (kth h0 s.heap.size av ti F ++ kws cA h0 s.heap.size av C).set ((kth h0 s.heap.size av ti F).length + j) (s.heap.size + j, .inl (cA, n, .inl fun q => Int32.ofInt ((lset l i v).getD q 0))) = kth h0 s.heap.size av ti F ++ kws cA h0 s.heap.size av (C.set j (.inr (n, lset l i v))) := kws_set (x := .inr (n, lset l i v)) hjl
      rw [e5] at p1
      have k := k H1 ls _ p1 (by rw [z1, List.length_set]; exact hz) hL (hS.put (k := (Int32.ofInt (i : Int)).toNatClampNeg) z1 oq (hD.2 _ _ he))
      rw [kcs_set hC, List.length_set] at k
      exact k
    · show H1[s.heap.size + j]? = some (vp_cell _ _)
      rw [e1]
      show some ((arrV cA n fun j => .int (Int32.ofInt (l.getD j 0))).setSlot _ _) = some (arrV cA n fun q => .int (Int32.ofInt ((lset l i v).getD q 0)))
      rw [arrV_store, o_tn hin]
      congr 2
      funext q
      unfold updV
      show (if q = (i : Int).toNat then Value.int (Int32.ofInt v) else _) = _
      rw [lset_at]
      by_cases hq : q = i
      · rw [if_pos (by omega), if_pos hq]
      · rw [if_neg (by omega), if_neg hq]
theorem KK.max (hx : KC X b nL own ti fr lo mc ms) {idx : Nat} {x y : Int} (hd : decode b pc = .ok (.invokestatic idx, 3)) (hl : Cond.methodLink own idx yJ_max ∈ BIG) (a : InR x) (a2 : InR y) (hfr : 1 ≤ fr) (hlo : 21 ≤ lo) (hst : ∀ h0 sz av, (((st.map (kcv h0 sz av)).map fun v => v.category).sum ≤ 8)) (hmc : C.length ≤ mc) (hms : kcs C ≤ ms) (k : KW X nL ti (pc + 3) L ((0, omax x y) :: st) F C) : KW X nL ti pc L ((0, y) :: (0, x) :: st) F C := by
  obtain ⟨p, l, e, R, s, m, args, below, meth, c, D, cA, h0, av, A, Q⟩ := X
  obtain ⟨h1, h2, h3, h4, h5, h6, h7, h8, h9, h10, h11, h12, h13⟩ := hx
  intro H ls locs hP hz hL hS
  have e1 : (if Int32.ofInt x < Int32.ofInt y then Int32.ofInt y else Int32.ofInt x) = Int32.ofInt (omax x y) := by
    unfold omax
    by_cases h : x < y
    · rw [if_pos h, if_pos ((q_lt a a2).mpr h)]
    · rw [if_neg h, if_neg (fun z => h ((q_lt a a2).mp z))]
  refine va_mmax h1 h2 (h3.trans hL.1.symm) h4 (h5 _ hl) (h5 _ st_J_max) (h5 _ in_JM) (h5 _ wmx_c) (Nat.le_trans hfr h9) ?_ (Nat.le_trans hmc h11) (Nat.le_trans hms h12) hd ?_
  · have := hst h0 s.heap.size av
    omega
  · rw [e1]
    exact k H ls locs hP hz hL hS
end KROWS
