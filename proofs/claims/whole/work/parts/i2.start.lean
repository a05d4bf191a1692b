def lw_P (b : Addr) (xs : List Int32) (args : Array Value) (s : State) : Prop := args = #[.ref b] ∧ s.IntsAt b xs ∧ xs.length ≤ 2560 ∧ (Jvm.Cond.and given_1 narrow_1).before args s = true
def lw_Q (_ : Array Value) (s : State) (o : Outcome) (t : State) : Prop := o = .returned (some (.int 1)) ∧ Framed s o t [] 600000 7302250
def lw_Z (below : List Frame) (a : Array Value) (s : State) : State → Prop := fun t => ∃ o, t.status = .running ∧ Ended t below o ∧ lw_Q a s o t
/-- the law's own end, with 1 on the stack, nothing written that was there before, its room as the claim has it -/
theorem lw_ret {p : Program} {l : Launch} {e : Env} {s : State} {m : MethodId} {below : List Frame} {meth : Method} {c : Code} {b : Nat} (hx : p.tables.exec = Jvm.exec) (hb : c.code = code) (hr : meth.sig.returnType = ret) (hlocks : meth.locks = false) {pc : Nat} {H : Heap} {ls : Array Slot} (hdg : decode code pc = .ok (.ireturn, 1)) : W p l e room_1 s m #[Value.ref b] below meth c H [] 600000 7302250 (lw_Z below #[Value.ref b] s) (F0 m pc ls [.int 1]) := by
  intro T hT X
  obtain ⟨fs, hret, hrun, hended, hW, hframe⟩ := X.leave (v := some (.int 1)) (hlocks := hlocks) (fun h => by rw [hr] at h; cases h)
  have hmeth' : T.vm.method? m = some meth := X.method'
  refine ⟨T.setFrames fs, ?_, .returned (some (.int 1)), hrun, hended, rfl, ⟨_, rfl⟩, hW, hframe⟩
  jvm_step X.here [X.here.top, hx, hb, hdg, hmeth', hr, ret, narrow_b1]
  (try refine ⟨rfl, ?_⟩); (try refine ⟨rfl, ?_⟩)
  first | (intro acts; rw [hret _ acts rfl rfl rfl]) | rw [hret _ _ rfl rfl rfl]
  exact Steps.refl _
/-- what holds at the law's entry: the machine, the code, the tables' words (any of lw_tbl by 'hts w (by decide +kernel)'), the script of L ints xs at the cell b, what the Statement gives of the start (any of its parts by flat_of_before) -/
def lw_At (p : Program) (s : State) (m : MethodId) (meth : Method) (c : Code) (b L : Nat) (xs : Nat → Int32) : Prop :=
  p.tables.exec = Jvm.exec ∧ c.code = code ∧ meth.sig.returnType = ret ∧ c.maxLocals = 4 ∧ s.vm.findClass R_law = some m.cls ∧ (∀ w ∈ lw_tbl, w.before #[Value.ref b] s = true) ∧ va_X b L xs s s.heap ∧ b < s.heap.size ∧ meth.locks = false ∧ (Jvm.Cond.and given_1 narrow_1).before #[Value.ref b] s = true
theorem kcs_3 : kcs lC_3 = 7920 := by decide +kernel
theorem one_32 : Int32.ofInt 1 = (1 : Int32) := by decide
theorem start_lr {sz b : Nat} {sd : Nat → Nat} (hsd : sd 13 = b) {ls : Array Slot} (hL : LK 0 sz [Value.ref b] 4 [some (2, 0), some (3, 0), some (3, 87), none] ls) : LR (fun i => sz + PM.getD i 0) sd 4 (sks [3, 1, 1]) [some 13, some 0, some 87, none] ls := by
  refine ⟨hL.1, hL.2.1, fun k v hv => ?_⟩
  match k, hv with
  | 0, hv =>
    cases hv
    refine ⟨?_, show (0 : Int) ≤ 13 by decide⟩
    show ls[0]? = some (.val (.ref (sd 13)))
    rw [hsd]
    exact hL.2.2 0 (2, 0) rfl
  | 1, hv =>
    cases hv
    refine ⟨?_, show (0 : Int) ≤ 0 by decide⟩
    show ls[1]? = some (.val (.ref (sz + PM.getD 0 0)))
    rw [show PM.getD 0 0 = 0 by decide +kernel]
    exact hL.2.2 1 (3, 0) rfl
  | 2, hv =>
    cases hv
    refine ⟨?_, show (0 : Int) ≤ 87 by decide⟩
    show ls[2]? = some (.val (.ref (sz + PM.getD 87 0)))
    rw [show PM.getD 87 0 = 87 by decide +kernel]
    exact hL.2.2 2 (3, 87) rfl
  | 3, hv => cases hv
  | k + 4, hv => cases hv
set_option maxHeartbeats 4000000 in
theorem start_run {p : Program} {l : Launch} {e : Jvm.Env} {s : State} {m : MethodId} {below : List Frame} {meth : Method} {c : Code} {b L : Nat} {xs : Nat → Int32} {D : va_G} {cA : ClassId} {sd sv : Nat → Nat} (hL : L ≤ 2560) (hx : p.tables.exec = Jvm.exec) (hb : c.code = code) (hr : meth.sig.returnType = ret) (hml : c.maxLocals = 4) (hown : s.vm.findClass R_law = some m.cls) (hB : ∀ w ∈ BIG, w.before #[Value.ref b] s = true) (hX : va_X b L xs s s.heap) (hbl : b < s.heap.size) (hlocks : meth.locks = false) (hK : va_K D classes [(cA, .int)] s) (hN : NW s) (hSX : SX sd sv (fun q : Nat => s.heap.size ≤ q) s) (hsd : sd 13 = b) : KW (p, l, e, room_1, s, m, #[Value.ref b], below, meth, c, D, cA, 0, [Value.ref b], fun q => s.heap.size ≤ q, lw_Z below #[Value.ref b] s) 4 none 16 [some (2, 0), some (3, 0), some (3, 87), none] [] [] lC_3 := by
  intro H ls locs hP hz hLs hS
  show W p l e room_1 s m #[Value.ref b] below meth c H locs lC_3.length (kcs lC_3) (lw_Z below #[Value.ref b] s) (F0 m 16 ls [])
  rw [lC_n, kcs_3]
  rw [show kth 0 s.heap.size [Value.ref b] none [] = [] from rfl, List.nil_append] at hP
  obtain ⟨E, τ, hsem⟩ := law_says (n := (L : Int)) (sc := fun j => (xs j.toNat).toInt) ⟨Int.natCast_nonneg L, by omega⟩ (fun j => i_in _) Inv_0
  have hX0 : Cx (p, l, e, room_1, s, m, #[Value.ref b], below, meth, c, D, cA, fun i => s.heap.size + PM.getD i 0, sd, sv, fun q => s.heap.size ≤ q, 131, 7920, lw_Z below #[Value.ref b] s) (mi_law (L : Int) (fun j => (xs j.toNat).toInt)) := by
    refine ⟨hx, hb, hml, hown, hB, hK, first_A _, hN, hSX, Nat.le_of_ble_eq_true rfl, Nat.le_of_ble_eq_true rfl, Nat.le_of_ble_eq_true rfl, Nat.le_of_ble_eq_true rfl, hlocks, hr, L, xs, rfl, hL, by rw [hsd]; exact hX, by rw [hsd]; exact hbl, by rw [hsd]; exact Nat.not_le.mpr hbl, fun j _ => ⟨?_, i_in _⟩⟩
    show xs j = Int32.ofInt (xs (j : Int).toNat).toInt
    rw [Int.toNat_natCast, i_of]
  have hRT : RT (p, l, e, room_1, s, m, #[Value.ref b], below, meth, c, D, cA, fun i => s.heap.size + PM.getD i 0, sd, sv, fun q => s.heap.size ≤ q, 131, 7920, lw_Z below #[Value.ref b] s) (mi_law (L : Int) (fun j => (xs j.toNat).toInt)) 1 τ := by
    refine ⟨fun h => (by cases h), fun h => (by cases h), fun ty h _ _ _ pc E hd => ?_, fun h => (by cases h)⟩
    intro H ls locs hP hI hL hS
    refine va_forget (fun q hq => hS.2.2 q hq) ?_
    refine W.widen (k := 600000) (n := 7302250) (Nat.le_of_ble_eq_true rfl) (Nat.le_of_ble_eq_true rfl) ?_
    rw [one_32]
    exact lw_ret hx hb hr hlocks hd
  have hW := si_law (L : Int) _ _ hX0 [some 13, some 0, some 87, none] sg0 3 1 E τ hsem (fun h => absurd h (by decide)) (fun h => absurd h (by decide)) (fun h => absurd h (by decide)) (fun _ => hRT)
  have hP := first_P hP
  have hLR := start_lr hsd hLs
  exact hW H ls locs hP sg0_in hLR hS
set_option maxHeartbeats 4000000 in
theorem whole_start {p : Program} {e : Env} {s : State} {m : MethodId} {below : List Frame} {meth : Method} {c : Code} (l : Launch) (hflags : l.flags = flags0) {b L : Nat} {xs : Nat → Int32} (hL : L ≤ 2560) (C0 : lw_At p s m meth c b L xs) : W p l e room_1 s m #[Value.ref b] below meth c s.heap [] 0 0 (lw_Z below #[Value.ref b] s) (entryFrame m ([Value.ref b] : List Value).toArray 4) := by
  obtain ⟨hx, hb, hr, hml, hown, hts, hX, hbl, hlocks, hgv⟩ := C0
  have hA0 : ∀ a : Nat, a < s.heap.size → ¬ (fun q : Nat => s.heap.size ≤ q) a := fun a h => Nat.not_le.mpr h
  obtain ⟨sd, sv, hSX, hsd⟩ := SX_of hts hgv hA0
  have hB : ∀ w ∈ BIG, w.before #[Value.ref b] s = true := fun w hw => hts w (List.mem_filter.mp hw).1
  obtain ⟨D, cA, hK⟩ := K_of hB
  have hN := NW_of hts
  have hl := lv_entry ([.ref b]) (n := 4) (Nat.le_of_ble_eq_true rfl)
  rw [lg_entry_eq]
  generalize (lg_sl ([.ref b]) ++ List.replicate (4 - (lg_sl ([.ref b])).length) Slot.unset).toArray = ls at hl ⊢
  have hl : lv_has ls 4 [(0, .ref b)] := hl
  have hx0 : KC (p, l, e, room_1, s, m, #[Value.ref b], below, meth, c, D, cA, 0, [Value.ref b], fun q => s.heap.size ≤ q, lw_Z below #[Value.ref b] s) code 4 R_law none 4 83 131 7920 := ⟨hx, hb, hml, hown, hB, hK, fun _ h => h, hN, Nat.le_of_ble_eq_true rfl, Nat.le_of_ble_eq_true rfl, Nat.le_of_ble_eq_true rfl, Nat.le_of_ble_eq_true rfl, Or.inl rfl⟩
  have hk := start_run (l := l) (e := e) (below := below) hL hx hb hr hml hown hB hX hbl hlocks hK hN hSX hsd
  have h0 := l_start hx0 hk
  exact h0 s.heap ls [] (fun k q h => (by cases h)) rfl ⟨hl.1, hl.2.1, fun k q hq => by
    match k, hq with
    | 0, hq => cases hq; exact hl.2.2 (0, .ref b) List.mem_cons_self
    | 1, hq => cases hq
    | 2, hq => cases hq
    | 3, hq => cases hq
    | k + 4, hq => cases hq⟩ va_S.rf
