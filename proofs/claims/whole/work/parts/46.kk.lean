/-! ===== what the walks of the constructors take ===== -/
theorem ra3 {X : kT} {as : List kv} (hav : okav X.2.2.2.2.2.2.2.2.2.2.2.2.2.1 as) (i : Int) (hm : (2, i) ∈ as) : ∀ (h0 sz : Nat) (av : List Value), X.2.2.2.2.2.2.2.2.2.2.2.2.2.1 = av → ∃ a, kcv h0 sz av (2, i) = .ref a := by
  intro h0 sz av e
  subst e
  rcases hav _ hm with h | h
  · cases h
  · exact h.2
theorem ra2 {X : kT} {as : List kv} (hav : okav X.2.2.2.2.2.2.2.2.2.2.2.2.2.1 as) (i : Int) (hm : (2, i) ∈ as) : ∀ (h0 sz : Nat) (av : List Value), X.2.2.2.2.2.2.2.2.2.2.2.2.1 = h0 → X.2.2.2.2.2.2.2.2.2.2.2.2.2.1 = av → ∃ a, kcv h0 sz av (2, i) = .ref a := fun h0 sz av _ e => ra3 hav i hm h0 sz av e
theorem ho2 {X : kT} {as : List kv} {ty : FieldType} (hav : okav X.2.2.2.2.2.2.2.2.2.2.2.2.2.1 as) (i : Int) (hm : (2, i) ∈ as) (hty : ∀ a, narrow ty (.ref a) = .ref a ∧ fits ty (.ref a) = true) : ∀ (h0 sz : Nat) (av : List Value), X.2.2.2.2.2.2.2.2.2.2.2.2.2.1 = av → narrow ty (kcv h0 sz av (2, i)) = kcv h0 sz av (2, i) ∧ fits ty (kcv h0 sz av (2, i)) = true := by
  intro h0 sz av e
  obtain ⟨a, ha⟩ := ra3 hav i hm h0 sz av e
  rw [ha]
  exact hty a
theorem okl {bs as : List kv} {h0 sz : Nat} {av : List Value} (h : as.all (fun q => q.1 == 0 || (q.1 == 2 && ((bs[q.2.toNat]?.map fun z => z.1) == some 3))) = true) : okav (bs.map (kcv h0 sz av)) as := by
  intro q hq
  have h1 := List.all_eq_true.mp h q hq
  simp only [Bool.or_eq_true, beq_iff_eq, Bool.and_eq_true] at h1
  rcases h1 with h1 | ⟨h1, h2⟩
  · exact Or.inl h1
  · refine Or.inr ⟨h1, ?_⟩
    rw [List.getD_eq_getElem?_getD, List.getElem?_map]
    cases hb : bs[q.2.toNat]? with
    | none => rw [hb] at h2; cases h2
    | some z =>
      rw [hb] at h2
      obtain ⟨t, v⟩ := z
      have h2 : t = 3 := by simpa using h2
      subst h2
      exact ⟨_, rfl⟩
section KMORE
variable {X : kT} {b : ByteArray} {nL : Nat} {own : String} {ti : Option Nat} {fr lo mc ms pc : Nat} {L : List (Option kv)} {st : List kv} {F : List kv} {C : List kc}
theorem KK.goto (hx : KC X b nL own ti fr lo mc ms) {off : Int} {tgt : Nat} (hd : decode b pc = .ok (.goto off, 3)) (ht : (pc : Int) + off = (tgt : Int)) (k : KW X nL ti tgt L st F C) : KW X nL ti pc L st F C := by
  obtain ⟨p, l, e, R, s, m, args, below, meth, c, D, cA, h0, av, A, Q⟩ := X
  obtain ⟨h1, h2, h3, h4, h5, h6, h7, h8, h9, h10, h11, h12, h13⟩ := hx
  intro H ls locs hP hz hL hS
  exact lv_goto h1 h2 hd ht (k H ls locs hP hz hL hS)
theorem KK.ige (hx : KC X b nL own ti fr lo mc ms) {x y off : Int} {tgt : Nat} (hd : decode b pc = .ok (.if_icmp .ge off, 3)) (ht : (pc : Int) + off = (tgt : Int)) (a : InR x) (a2 : InR y) (kt : y ≤ x → KW X nL ti tgt L st F C) (kf : x < y → KW X nL ti (pc + 3) L st F C) : KW X nL ti pc L ((0, y) :: (0, x) :: st) F C := by
  obtain ⟨p, l, e, R, s, m, args, below, meth, c, D, cA, h0, av, A, Q⟩ := X
  obtain ⟨h1, h2, h3, h4, h5, h6, h7, h8, h9, h10, h11, h12, h13⟩ := hx
  intro H ls locs hP hz hL hS
  exact lv_icmp_ge h1 h2 hd ht (fun z => kt ((q_le a2 a).mp z) H ls locs hP hz hL hS) (fun z => kf (Int.not_le.mp (fun z2 => z ((q_le a2 a).mpr z2))) H ls locs hP hz hL hS)
theorem lk_set {h0 sz : Nat} {av : List Value} {q0 : kv} {w : Int} {ls ls' : Array Slot} {o : Option kv} (h : LK h0 sz av 2 [some q0, o] ls) (h' : lv_has ls' 2 ((1, .int (Int32.ofInt w)) :: ([(0, kcv h0 sz av q0)].filter (fun q => !(q.1 == 1) && !(q.1 + 1 == 1 && q.2.category == 2))))) (hc : (kcv h0 sz av q0).category = 1) : LK h0 sz av 2 [some q0, some (0, w)] ls' := by
  refine ⟨h'.1, h'.2.1, fun k q hq => ?_⟩
  match k, hq with
  | 0, hq =>
    have hq : some q0 = some q := hq
    cases hq
    refine h'.2.2 (0, _) (List.mem_cons_of_mem _ (List.mem_filter.mpr ⟨List.mem_cons_self, ?_⟩))
    show (!((0 : Nat) == 1) && !((0 + 1 : Nat) == 1 && ((kcv h0 sz av q0).category == 2))) = true
    rw [hc]
    rfl
  | 1, hq =>
    have hq : some ((0 : Nat), w) = some q := hq
    cases hq
    exact h'.2.2 (1, _) List.mem_cons_self
theorem KK.ist (hx : KC X b 2 own ti fr lo mc ms) {v u : Int} {o : Option kv} (hd : decode b pc = .ok (.istore_n 1, 1)) (k : KW X 2 ti (pc + 1) [some (1, u), some (0, v)] st F C) : KW X 2 ti pc [some (1, u), o] ((0, v) :: st) F C := by
  obtain ⟨p, l, e, R, s, m, args, below, meth, c, D, cA, h0, av, A, Q⟩ := X
  obtain ⟨h1, h2, h3, h4, h5, h6, h7, h8, h9, h10, h11, h12, h13⟩ := hx
  intro H ls locs hP hz hL hS
  have hh : lv_has ls 2 [(0, kcv h0 s.heap.size av (1, u))] := ⟨hL.1, hL.2.1, fun z hz => by rw [List.mem_singleton.mp hz]; exact hL.2.2 0 _ rfl⟩
  exact lv_istore_n (k := 1) h1 h2 hd rfl hh (by decide) rfl (fun ls' h' => k H ls' locs hP hz (lk_set hL h' rfl) hS)
theorem KK.inc (hx : KC X b 2 own ti fr lo mc ms) {v u n : Int} (hd : decode b pc = .ok (.iinc 1 n, 3)) (k : KW X 2 ti (pc + 3) [some (1, u), some (0, v + n)] st F C) : KW X 2 ti pc [some (1, u), some (0, v)] st F C := by
  obtain ⟨p, l, e, R, s, m, args, below, meth, c, D, cA, h0, av, A, Q⟩ := X
  obtain ⟨h1, h2, h3, h4, h5, h6, h7, h8, h9, h10, h11, h12, h13⟩ := hx
  intro H ls locs hP hz hL hS
  have hh : lv_has ls 2 [(1, .int (Int32.ofInt v)), (0, kcv h0 s.heap.size av (1, u))] := ⟨hL.1, hL.2.1, fun z hz => by
    rcases List.mem_cons.mp hz with e | hz
    · rw [e]; exact hL.2.2 1 _ rfl
    · rw [List.mem_singleton.mp hz]; exact hL.2.2 0 _ rfl⟩
  refine lv_iinc (k := 0) (v := Int32.ofInt (v + n)) h1 h2 hd hh rfl (Int32.ofInt_add v n).symm (by decide) rfl (fun ls' h' => k H ls' locs hP hz (lk_set hL ⟨h'.1, h'.2.1, fun z hz => h'.2.2 z ?_⟩ rfl) hS)
  rcases List.mem_cons.mp hz with e | hz
  · exact List.mem_cons.mpr (Or.inl e)
  · obtain ⟨z1, z2⟩ := List.mem_filter.mp hz
    exact List.mem_cons_of_mem _ (List.mem_filter.mpr ⟨List.mem_cons_of_mem _ z1, z2⟩)
end KMORE
theorem lset_rep (k : Nat) : lset (List.replicate k 60) k 60 = List.replicate (k + 1) 60 := by
  unfold lset
  rw [if_neg (by simp), List.length_replicate, Nat.sub_self, List.replicate_zero, List.append_nil, List.replicate_succ']
theorem m_loop {X : kT} {fr lo mc ms rc : Nat} {F : List kv} {C : List kc} (hx : KC X cX12_init 2 RX12 (some 12) fr lo mc ms) (hF : F[2]? = some (3, (rc : Int))) (hC : C[rc]? = some (.inr (64, []))) (k : KW X 2 (some 12) 414 [some (1, 0), some (0, 64)] [] F (C.set rc (.inr (64, List.replicate 64 60)))) : KW X 2 (some 12) 393 [some (1, 0), none] [(0, 0)] F C := by
  refine KK.ist hx (by decide +kernel) ?_
  have loop : ∀ r i : Nat, i + r = 64 → KW X 2 (some 12) 394 [some (1, 0), some (0, (i : Int))] [] F (C.set rc (.inr (64, List.replicate i 60))) := by
    intro r
    induction r with
    | zero =>
      intro i hi
      refine KK.iload hx (j := 1) (i := 1) (by decide +kernel) rfl rfl ?_
      refine KK.bi hx (n := 64) (by decide +kernel) (by decide) ?_
      refine KK.ige hx (off := 17) (tgt := 414) (by decide +kernel) (by decide) ⟨by omega, by omega⟩ ⟨by decide, by decide⟩ (fun _ => ?_) (fun z => absurd z (by omega))
      have e : i = 64 := by omega
      subst e
      exact k
    | succ r ih =>
      intro i hi
      refine KK.iload hx (j := 1) (i := 1) (by decide +kernel) rfl rfl ?_
      refine KK.bi hx (n := 64) (by decide +kernel) (by decide) ?_
      refine KK.ige hx (off := 17) (tgt := 414) (by decide +kernel) (by decide) ⟨by omega, by omega⟩ ⟨by decide, by decide⟩ (fun z => absurd z (by omega)) (fun _ => ?_)
      refine KK.aload hx (j := 0) (i := 0) (by decide +kernel) rfl rfl (fun _ _ _ _ _ => ⟨_, rfl⟩) ?_
      refine KK.gf hx (idx := 16) (j := 2) (q := (3, (rc : Int))) (by decide +kernel) ck12 (by decide) fl_12_16 hF ?_
      refine KK.iload hx (j := 1) (i := 1) (by decide +kernel) rfl rfl ?_
      refine KK.bi hx (n := 60) (by decide +kernel) (by decide) ?_
      refine KK.ast hx (j := rc) (i := i) (n := 64) (l := List.replicate i 60) (v := 60) (by decide +kernel) (List.getElem?_set_self (List.getElem?_eq_some_iff.mp hC).1) (by omega) (by decide) ?_
      rw [List.set_set, lset_rep]
      refine KK.inc hx (n := 1) (by decide +kernel) ?_
      refine KK.goto hx (off := -17) (tgt := 394) (by decide +kernel) (by decide) ?_
      exact ih (i + 1) (by omega)
  have h := loop 64 0 rfl
  have e : C.set rc (.inr (64, List.replicate 0 60)) = C := by
    apply List.ext_getElem?
    intro i
    by_cases hi : i = rc
    · subst hi
      rw [List.getElem?_set_self (List.getElem?_eq_some_iff.mp hC).1, hC]
      rfl
    · rw [List.getElem?_set_ne (Ne.symm hi)]
  rw [e] at h
  exact h
set_option maxRecDepth 20000 in
theorem km_8 (w l : Nat) (hw : w ≤ 40) (hl : l ≤ 40) : KM yX8_init cX8_init 3 1 21 8 [(0, 0), (0, 0), (4, 0), (0, 0)] [(0, (w : Int)), (0, (l : Int))] [(0, (w : Int)), (0, (l : Int)), (3, 0), (0, 0)] [.inr (w * l, [])] := by
  refine KM.of (own := RX8) (by decide +kernel) rfl rfl (show 3 ≤ 3 by decide) ?_
  intro X hx hav hret
  have hwl : w * l ≤ 40 * 40 := Nat.mul_le_mul hw hl
  have ew : omax 0 (w : Int) = (w : Int) := by unfold omax; split <;> omega
  have el : omax 0 (l : Int) = (l : Int) := by unfold omax; split <;> omega
  have hin : ∀ n : Nat, n ≤ 1600 → InR (n : Int) := fun n hn => ⟨by omega, by omega⟩
  have em : omul (w : Int) (l : Int) = ((w * l : Nat) : Int) := by
    rw [Int.natCast_mul]
    unfold omul
    apply wr_id
    rw [← Int.natCast_mul]
    exact hin _ hwl
  refine KK.aload hx (j := 0) (i := 0) (by decide +kernel) rfl rfl (fun _ _ _ _ _ => ⟨_, rfl⟩) ?_
  refine KK.obj hx (idx := 3) (by decide +kernel) ol_8_3 oi_i oi_c (by decide) (by decide) ?_
  refine KK.aload hx (j := 0) (i := 0) (by decide +kernel) rfl rfl (fun _ _ _ _ _ => ⟨_, rfl⟩) ?_
  refine KK.ic hx (n := 0) (by decide +kernel) ?_
  refine KK.iload hx (j := 1) (i := 1) (by decide +kernel) rfl rfl ?_
  refine KK.max hx (idx := 9) (by decide +kernel) ml_8_9 ⟨by decide, by decide⟩ (hin w (by omega)) (by decide) (by decide) (fun _ _ _ => (show 1 + 0 ≤ 8 by decide)) (Nat.zero_le _) (Nat.zero_le _) ?_
  rw [ew]
  refine KK.pF hx (idx := 15) (j := 0) (q := (0, (w : Int))) (by decide +kernel) ck8 (show 0 < 4 by decide) fl_8_15 rfl rfl (fun _ _ _ _ => ⟨rfl, rfl⟩) (show 0 < 4 by decide) ?_
  refine KK.aload hx (j := 0) (i := 0) (by decide +kernel) rfl rfl (fun _ _ _ _ _ => ⟨_, rfl⟩) ?_
  refine KK.ic hx (n := 0) (by decide +kernel) ?_
  refine KK.iload hx (j := 2) (i := 2) (by decide +kernel) rfl rfl ?_
  refine KK.max hx (idx := 9) (by decide +kernel) ml_8_9 ⟨by decide, by decide⟩ (hin l (by omega)) (by decide) (by decide) (fun _ _ _ => (show 1 + 0 ≤ 8 by decide)) (Nat.zero_le _) (Nat.zero_le _) ?_
  rw [el]
  refine KK.pF hx (idx := 21) (j := 1) (q := (0, (l : Int))) (by decide +kernel) ck8 (show 1 < 4 by decide) fl_8_21 rfl rfl (fun _ _ _ _ => ⟨rfl, rfl⟩) (show 1 < 4 by decide) ?_
  refine KK.aload hx (j := 0) (i := 0) (by decide +kernel) rfl rfl (fun _ _ _ _ _ => ⟨_, rfl⟩) ?_
  refine KK.aload hx (j := 0) (i := 0) (by decide +kernel) rfl rfl (fun _ _ _ _ _ => ⟨_, rfl⟩) ?_
  refine KK.gf hx (idx := 15) (j := 0) (q := (0, (w : Int))) (by decide +kernel) ck8 (show 0 < 4 by decide) fl_8_15 rfl ?_
  refine KK.aload hx (j := 0) (i := 0) (by decide +kernel) rfl rfl (fun _ _ _ _ _ => ⟨_, rfl⟩) ?_
  refine KK.gf hx (idx := 21) (j := 1) (q := (0, (l : Int))) (by decide +kernel) ck8 (show 1 < 4 by decide) fl_8_21 rfl ?_
  refine KK.mul hx (by decide +kernel) ?_
  rw [em]
  refine KK.newa hx (N := w * l) (by decide +kernel) wac rfl (by omega) (Nat.le_refl _) (by show 0 + w * l ≤ w * l + 0; omega) ?_
  refine KK.pF hx (idx := 24) (j := 2) (q := (3, 0)) (by decide +kernel) ck8 (show 2 < 4 by decide) fl_8_24 rfl rfl (fun _ _ _ _ => ⟨rfl, rfl⟩) (show 2 < 4 by decide) ?_
  refine KK.aload hx (j := 0) (i := 0) (by decide +kernel) rfl rfl (fun _ _ _ _ _ => ⟨_, rfl⟩) ?_
  refine KK.ic hx (n := 0) (by decide +kernel) ?_
  refine KK.pf hx (idx := 28) (j := 3) (q := (0, 0)) (by decide +kernel) ck8 (show 3 < 4 by decide) fl_8_28 rfl (fun _ _ _ _ => ⟨rfl, rfl⟩) (show 3 < 4 by decide) ?_
  exact hret _ _ (by decide +kernel)
