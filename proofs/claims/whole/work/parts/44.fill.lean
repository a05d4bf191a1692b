/-! ===== Arrays.fill over one array ===== -/
def FQ (D : va_G) (cA : ClassId) (a sz n : Nat) (v : Int) : Array Value → State → Outcome → State → Prop := fun _ st oc t =>
  (oc = .returned none ∧ t.heap.size = sz ∧ va_P D classes [(a, .inl (cA, n, .inl fun _ => Int32.ofInt v))] t.heap) ∧ va_F (fun q => q = a) st t
theorem df_13 : decode cJ_fill 13 = .ok (.iastore, 1) := by decide +kernel
theorem df_14 : decode cJ_fill 14 = .ok (.iinc 2 1, 3) := by decide +kernel
theorem df_17 : decode cJ_fill 17 = .ok (.goto (-12), 3) := by decide +kernel
theorem fill_met (l : Launch) (D : va_G) (cA : ClassId) (a sz n : Nat) (f : Nat → Int32) (v : Int) (hn : n < 100000) : Met l yJ_fill (.code yJ_fill cJ_fill 4 none :: BIG) ({ frames := 0, cells := 0, slots := 0, locals := 0 }) (va_Pc [.ref a, .int (Int32.ofInt v)] (fun U => U.heap.size = sz ∧ va_P D classes [(a, .inl (cA, n, .inl f))] U.heap ∧ va_K D classes [(cA, .int)] U)) (FQ D cA a sz n v) 0 0 (fun q => q = a) := by
  refine Met.ofW (cc := cJ_fill) (maxL := 4) (ret := none) (by decide +kernel) rfl ?_
  intro p e s m args below meth c s₁ B hml hv
  obtain ⟨rfl, rfl, hP, hK⟩ := hv
  have hx := B.exec
  have hb := B.bytes
  have hl := lv_entry ([.ref a, .int (Int32.ofInt v)]) (n := 4) (Nat.le_of_ble_eq_true rfl)
  rw [lg_entry_eq]
  generalize (lg_sl ([.ref a, .int (Int32.ofInt v)]) ++ List.replicate (4 - (lg_sl ([.ref a, .int (Int32.ofInt v)])).length) Slot.unset).toArray = ls at hl ⊢
  have hl : lv_has ls 4 [(0, .ref a), (1, .int (Int32.ofInt v))] := hl
  have loop : ∀ (r k : Nat), k + r = n → ∀ (H : Heap) (locs : List Loc) (ls : Array Slot), H.size = s.heap.size → va_P D classes [(a, .inl (cA, n, .inl fun j => if j < k then Int32.ofInt v else f j))] H → va_S (fun q => q = a) s.heap H locs → lv_has ls 4 [(3, .int (Int32.ofInt (n : Int))), (2, .int (Int32.ofInt (k : Int))), (0, .ref a), (1, .int (Int32.ofInt v))] → W p l e (headSpec (.code yJ_fill cJ_fill 4 none :: BIG) ({ frames := 0, cells := 0, slots := 0, locals := 0 })).room s m [.ref a, .int (Int32.ofInt v)].toArray below meth c H locs 0 0 (MQ below (FQ D cA a s.heap.size n v) [.ref a, .int (Int32.ofInt v)].toArray s 0 0 (fun q => q = a)) (F0 m 5 ls []) := by
    intro r
    induction r with
    | zero =>
      intro k hk H locs ls hz hP hS hl
      refine lv_iload_n (k := 2) hx hb (by decide +kernel) rfl (lv_at hl 1 rfl) ?_
      refine lv_iload_n (k := 3) hx hb (by decide +kernel) rfl (lv_at hl 0 rfl) ?_
      refine lv_icmp_ge (off := 13) (tgt := 20) hx hb (by decide +kernel) (by decide) (fun _ => ?_) (fun z => absurd ((q_le ⟨by omega, by omega⟩ ⟨by omega, by omega⟩).mpr (by omega)) z)
      refine W.vret hx hb B.returns (fun t ht hW => ⟨⟨rfl, by rw [ht]; exact hz, ?_⟩, hS.F ht⟩) hS.2.2 (by decide +kernel) B.notSynchronized
      rw [ht]
      intro i q hq
      have h1 := hP i
      have hi : i < 1 := (List.getElem?_eq_some_iff.mp hq).1
      rw [show i = 0 by omega] at hq
      cases hq
      have h2 := hP 0 _ rfl
      have e1 : vp_cell cA (n, .inl fun _ => Int32.ofInt v) = vp_cell cA (n, .inl fun j => if j < k then Int32.ofInt v else f j) := by
        rw [vp_cell_i, vp_cell_i]
        unfold arrV
        congr 1
        apply Array.ext_getElem?
        intro j
        simp only [Array.getElem?_ofFn]
        split
        · rename_i hj
          rw [if_pos (by omega)]
        · rfl
      show H[a]? = some (vp_cell _ _)
      rw [e1]
      exact h2
    | succ r ih =>
      intro k hk H locs ls hz hP hS hl
      have hki : InR (k : Int) := ⟨by omega, by omega⟩
      refine lv_iload_n (k := 2) hx hb (by decide +kernel) rfl (lv_at hl 1 rfl) ?_
      refine lv_iload_n (k := 3) hx hb (by decide +kernel) rfl (lv_at hl 0 rfl) ?_
      refine lv_icmp_ge (off := 13) (tgt := 20) hx hb (by decide +kernel) (by decide) (fun z => absurd ((q_le ⟨by omega, by omega⟩ ⟨by omega, by omega⟩).mp z) (by omega)) (fun _ => ?_)
      refine lv_aload_n (k := 0) hx hb (by decide +kernel) rfl (lv_at hl 2 rfl) ?_
      refine lv_iload_n (k := 2) hx hb (by decide +kernel) rfl (lv_at hl 1 rfl) ?_
      refine lv_iload_n (k := 1) hx hb (by decide +kernel) rfl (lv_at hl 3 rfl) ?_
      have hp := hP 0 _ rfl
      refine W.iast (a := a) (j := Int32.ofInt (k : Int)) (x := Int32.ofInt v) hx hb hp ((hK.2 0 _ rfl).1 n (fun j => .int (if j < k then Int32.ofInt v else f j))) (fun q => by cases q) ?_ rfl rfl df_13 fun H1 e1 z1 oq => ?_
      · show ¬ (_ ∨ (arrV _ _ _).slots.size ≤ _)
        rw [arrV_size]
        show vp_in (Int32.ofInt (k : Int)) n
        exact o_cl hki (by omega) (by omega)
      · refine lv_iinc (n := 1) (v := Int32.ofInt ((k + 1 : Nat) : Int)) (lv' := [(2, .int (Int32.ofInt ((k + 1 : Nat) : Int))), (3, .int (Int32.ofInt (n : Int))), (0, .ref a), (1, .int (Int32.ofInt v))]) hx hb df_14 hl (k := 1) rfl (by rw [← Int32.ofInt_add]; rfl) (by decide) rfl (fun ls hl => ?_)
        refine lv_goto (off := -12) (tgt := 5) hx hb df_17 rfl ?_
        refine ih (k + 1) (by omega) H1 _ ls (by rw [z1]; exact hz) ?_ (hS.put (k := (Int32.ofInt (k : Int)).toNatClampNeg) z1 oq rfl) (lv_sub hl [1, 0, 2, 3] rfl)
        intro i q hq
        have hi : i < 1 := (List.getElem?_eq_some_iff.mp hq).1
        rw [show i = 0 by omega] at hq
        cases hq
        show H1[a]? = some (vp_cell _ _)
        rw [e1]
        show some ((arrV cA n fun j => .int (if j < k then Int32.ofInt v else f j)).setSlot _ _) = some (arrV cA n fun j => .int (if j < k + 1 then Int32.ofInt v else f j))
        rw [arrV_store, o_tn hki]
        congr 2
        funext q
        unfold updV
        by_cases hq : q = (k : Int).toNat
        · rw [if_pos hq, if_pos (by omega)]
        · rw [if_neg hq]
          dsimp only
          by_cases hq2 : q < k
          · rw [if_pos hq2, if_pos (by omega)]
          · rw [if_neg hq2, if_neg (by omega)]
  refine lv_iconst (n := 0) (v := 0) hx hb (by decide +kernel) (by decide) ?_
  refine lv_istore_n (k := 2) (lv' := [(2, .int 0), (0, .ref a), (1, .int (Int32.ofInt v))]) hx hb (by decide +kernel) rfl hl (by decide) rfl (fun ls hl => ?_)
  refine lv_aload_n (k := 0) hx hb (by decide +kernel) rfl (lv_at hl 1 rfl) ?_
  refine va_alen hx hb hK hP 0 0 rfl rfl (v := Int32.ofInt (n : Int)) (Int32.ofInt_eq_ofNat (n := n)).symm (by decide +kernel) ?_
  refine lv_istore_n (k := 3) (lv' := [(3, .int (Int32.ofInt (n : Int))), (2, .int 0), (0, .ref a), (1, .int (Int32.ofInt v))]) hx hb (by decide +kernel) rfl hl (by decide) rfl (fun ls hl => ?_)
  refine loop n 0 (by omega) s.heap [] ls rfl ?_ va_S.rf hl
  intro i q hq
  have hi : i < 1 := (List.getElem?_eq_some_iff.mp hq).1
  rw [show i = 0 by omega] at hq
  cases hq
  exact hP 0 _ rfl
theorem KK.fill {X : kT} {b : ByteArray} {nL : Nat} {own : String} {ti : Option Nat} {fr lo mc ms pc : Nat} {L : List (Option kv)} {st : List kv} {F : List kv} {C : List kc} (hx : KC X b nL own ti fr lo mc ms) {idx j n : Nat} {l : List Int} {v : Int} (hd : decode b pc = .ok (.invokestatic idx, 3)) (hl : Cond.methodLink own idx yJ_fill ∈ BIG) (hC : C[j]? = some (.inr (n, l))) (hn : n < 100000) (hst : ∀ h0 sz av, ((st.map (kcv h0 sz av)).map fun v => v.category).sum ≤ 8) (hfr : 1 ≤ fr) (hlo : 23 ≤ lo) (hmc : C.length ≤ mc) (hms : kcs C ≤ ms) (k : KW X nL ti (pc + 3) L st F (C.set j (.inr (n, List.replicate n v)))) : KW X nL ti pc L ((0, v) :: (3, (j : Int)) :: st) F C := by
  have hx' := hx
  obtain ⟨p, l0, e, R, s, m, args, below, meth, c, D, cA, h0, av, A, Q⟩ := X
  obtain ⟨h1, h2, h3, h4, h5, h6, h7, h8, h9, h10, h11, h12, h13⟩ := hx'
  intro H ls locs hP hz hL hS
  have hjl := (List.getElem?_eq_some_iff.mp hC).1
  have hD := KC.D rfl hx F C
  have he : (kth h0 s.heap.size av ti F ++ kws cA h0 s.heap.size av C)[(kth h0 s.heap.size av ti F).length + j]? = some (s.heap.size + j, .inl (cA, n, .inl fun i => Int32.ofInt (l.getD i 0))) := by
    rw [List.getElem?_append_right (Nat.le_add_right _ _), Nat.add_sub_cancel_left]
    exact kws_at hC
  have hrun : va_Run p l0 e R s m args below meth c H locs C.length (kcs C) 0 0 (F0 m pc ls (((0, v) :: (3, (j : Int)) :: st).map (kcv h0 s.heap.size av))) (st.map (kcv h0 s.heap.size av)) (FQ D cA (s.heap.size + j) H.size n v [.ref (s.heap.size + j), .int (Int32.ofInt v)].toArray) (fun q => q = s.heap.size + j) := by
    refine va_runS (n := 2) ⟨h1, h2, h3, h4, h5⟩ (fill_met l0 D cA (s.heap.size + j) H.size n (fun i => Int32.ofInt (l.getD i 0)) v hn) ⟨callB_of 2 h5 (big_in wb_J_fill.2) rfl rfl rfl (h5 _ wb_J_fill.1) (h5 _ hl) ds_J_fill ⟨by show 0 + 1 ≤ R.frames; omega, by show 8 + (4 + 11) + 0 ≤ R.locals; omega⟩, h5 _ st_J_fill⟩
      ⟨fun a U g mk ⟨q0, q1, q2, q3⟩ => ⟨q0, q1, q2, va_K.moved (u := U) (U := U.calling g mk a) (Vm.Alike.refl U.vm) q3⟩, fun U hU hW => ⟨rfl, by rw [hU], ?_, va_K.moved hW.alike h6⟩⟩ rfl rfl hL.1 rfl ?_ hd ⟨by omega, by omega⟩
    · intro k2 q hq
      have hk2 : k2 < 1 := (List.getElem?_eq_some_iff.mp hq).1
      rw [show k2 = 0 by omega] at hq
      cases hq
      rw [hU]
      exact hP _ _ he
    · show 2 * 0 + _ ≤ 8
      have := hst h0 s.heap.size av
      omega
  intro T hT X
  obtain ⟨w, st₀, t, T', L2, q0, X', hL2, e1, e2, ⟨⟨hv, qz, qP⟩, qF⟩, stp⟩ := hrun T hT X
  have hv := Outcome.returned.inj hv
  subst hv
  have qF : H.size ≤ t.heap.size ∧ ∀ q : Nat, q < H.size → ¬ (q = s.heap.size + j) → t.heap[q]? = H[q]? := by
    have qF := qF
    unfold va_F at qF
    rw [q0] at qF
    exact qF
  have oq : ∀ q : Nat, q ≠ s.heap.size + j → T'.heap[q]? = H[q]? := fun q hq => by
    rcases Nat.lt_or_ge q H.size with z | z
    · rw [e1]; exact qF.2 q z hq
    · rw [Array.getElem?_eq_none z, Array.getElem?_eq_none (by rw [e1, qz]; exact z)]
  have p1 := hP.set (e := .inl (cA, n, .inl fun i => Int32.ofInt ((List.replicate n v).getD i 0))) hD he (H1 := T'.heap) ?_ oq
  · have e5 : (kth h0 s.heap.size av ti F ++ kws cA h0 s.heap.size av C).set ((kth h0 s.heap.size av ti F).length + j) (s.heap.size + j, .inl (cA, n, .inl fun q => Int32.ofInt ((List.replicate n v).getD q 0))) = kth h0 s.heap.size av ti F ++ kws cA h0 s.heap.size av (C.set j (.inr (n, List.replicate n v))) := kws_set (x := .inr (n, List.replicate n v)) hjl
    rw [e5] at p1
    have k := k T'.heap ls (locs ++ L2) p1 (by rw [e1, qz, List.length_set]; exact hz) hL ⟨Nat.le_trans hS.1 (by rw [e1, qz]; omega), fun q a1 a2 => by
      rw [oq q (fun z => a2 (h7 q (by omega)))]
      exact hS.2.1 q a1 a2, fun q hq => by
        rcases List.mem_append.mp hq with h | h
        · exact hS.2.2 q h
        · exact h7 _ (by rw [show q.base = s.heap.size + j from hL2 q h]; exact Nat.le_add_right _ _)⟩
    rw [kcs_set hC, List.length_set] at k
    obtain ⟨t2, a1, b1⟩ := k T' rfl X'
    exact ⟨t2, stp t2 a1, b1⟩
  · have h2 := qP 0 _ rfl
    rw [← e1] at h2
    have e6 : vp_cell cA (n, .inl fun i => Int32.ofInt ((List.replicate n v).getD i 0)) = vp_cell cA (n, .inl fun _ => Int32.ofInt v) := by
      rw [vp_cell_i, vp_cell_i]
      unfold arrV
      congr 1
      apply Array.ext_getElem?
      intro i
      simp only [Array.getElem?_ofFn]
      split
      · rename_i hi
        rw [List.getD_eq_getElem?_getD, List.getElem?_replicate, if_pos hi]
        rfl
      · rfl
    show T'.heap[s.heap.size + j]? = some (vp_cell _ _)
    rw [e6]
    exact h2
