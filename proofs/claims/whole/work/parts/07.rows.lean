/-! ===== locals ===== -/
def stOK (kds : List Nat) (i nL : Nat) : Bool := kds.getD i 0 == 0 && (i == 0 || kds.getD (i - 1) 0 != 2) && decide (i < nL)
def lvE (ad sd : Nat → Nat) (kds : List Nat) (E : cvE) : List (Nat × Value) := (List.range E.length).filterMap fun k => (E.getD k none).map fun v => (k, conc ad sd (kds.getD k 0) v)
theorem getD_lt {E : cvE} {k : Nat} {v : Int} (h : E.getD k none = some v) : k < E.length := by
  rcases Nat.lt_or_ge k E.length with q | q
  · exact q
  · rw [List.getD_eq_getElem?_getD, List.getElem?_eq_none q] at h; cases h
theorem LR.has {ad sd : Nat → Nat} {nL : Nat} {kds : List Nat} {E : cvE} {ls : Array Slot} (h : LR ad sd nL kds E ls) : lv_has ls nL (lvE ad sd kds E) := by
  refine ⟨h.1, h.2.1, fun q hq => ?_⟩
  obtain ⟨k, -, hk⟩ := List.mem_filterMap.mp hq
  cases hv : E.getD k none with
  | none => rw [hv] at hk; cases hk
  | some v => rw [hv] at hk; cases hk; exact (h.2.2 k v hv).1
theorem LR.set {ad sd : Nat → Nat} {nL : Nat} {kds : List Nat} {E : cvE} {ls ls' : Array Slot} {i : Nat} {v : Int} (h : LR ad sd nL kds E ls) (hk : stOK kds i nL = true) (a : InR v)
    (h' : lv_has ls' nL ((i, Value.int (Int32.ofInt v)) :: (lvE ad sd kds E).filter (fun q => !(q.1 == i) && !(q.1 + 1 == i && q.2.category == 2)))) : LR ad sd nL kds (E.set i (some v)) ls' := by
  simp only [stOK, Bool.and_eq_true, beq_iff_eq, Bool.or_eq_true, bne_iff_ne, ne_eq, decide_eq_true_eq] at hk
  obtain ⟨⟨k0, k1⟩, k2⟩ := hk
  refine ⟨h'.1, h'.2.1, fun k w hw => ?_⟩
  have hl := getD_lt hw
  rw [List.length_set] at hl
  by_cases hki : k = i
  · subst hki
    rw [List.getD_eq_getElem?_getD, List.getElem?_set_self hl] at hw
    cases hw
    rw [k0]
    exact ⟨h'.2.2 _ List.mem_cons_self, a⟩
  · rw [List.getD_eq_getElem?_getD, List.getElem?_set_ne (Ne.symm hki), ← List.getD_eq_getElem?_getD] at hw
    obtain ⟨q1, q2⟩ := h.2.2 k w hw
    refine ⟨h'.2.2 (k, conc ad sd (kds.getD k 0) w) (List.mem_cons_of_mem _ (List.mem_filter.mpr ⟨List.mem_filterMap.mpr ⟨k, List.mem_range.mpr hl, by rw [hw]; rfl⟩, ?_⟩)), q2⟩
    simp only [conc_cat, Bool.and_eq_true, Bool.not_eq_true', beq_eq_false_iff_ne, ne_eq, Bool.and_eq_false_iff]
    refine ⟨hki, ?_⟩
    by_cases hk1 : k + 1 = i
    · right
      rcases k1 with z | z
      · omega
      · have : i - 1 = k := by omega
        rw [this] at z
        unfold kcat
        rw [if_neg z]
        decide
    · exact Or.inl hk1
theorem WW_istore {X : cvT} {M : cvI} {pc : Nat} {st : List Value} {E : cvE} {σ : cvM} {i : Nat} {v : Int} (hx : Cx X M) (hd : decode M.1 pc = .ok (.istore i, 2)) (hk : stOK M.2.2.2.1 i M.2.1 = true) (a : InR v) (k : WW X M (pc + 2) st (E.set i (some v)) σ) : WW X M pc (.int (Int32.ofInt v) :: st) E σ := by
  obtain ⟨p, l, e, R, s, m, args, below, meth, c, D, cA, ad, sd, sv, A, cells, slots, Q⟩ := X
  obtain ⟨h1, h2, h3, h4, h5, h6, h7, h8, h9, h10, h11, h12, h13, h14, h15⟩ := hx
  intro H ls locs hP hI hL hS
  have hn : i < M.2.1 := by simp only [stOK, Bool.and_eq_true, decide_eq_true_eq] at hk; exact hk.2
  exact lv_istore h1 h2 hd hL.has hn rfl (fun ls' h' => k H ls' locs hP hI (hL.set hk a h') hS)
theorem WW_istore_n {X : cvT} {M : cvI} {pc : Nat} {st : List Value} {E : cvE} {σ : cvM} {j : Fin 4} {i : Nat} {v : Int} (hx : Cx X M) (hd : decode M.1 pc = .ok (.istore_n j, 1)) (hj : (j : Nat) = i) (hk : stOK M.2.2.2.1 i M.2.1 = true) (a : InR v) (k : WW X M (pc + 1) st (E.set i (some v)) σ) : WW X M pc (.int (Int32.ofInt v) :: st) E σ := by
  obtain ⟨p, l, e, R, s, m, args, below, meth, c, D, cA, ad, sd, sv, A, cells, slots, Q⟩ := X
  obtain ⟨h1, h2, h3, h4, h5, h6, h7, h8, h9, h10, h11, h12, h13, h14, h15⟩ := hx
  intro H ls locs hP hI hL hS
  have hn : i < M.2.1 := by simp only [stOK, Bool.and_eq_true, decide_eq_true_eq] at hk; exact hk.2
  exact lv_istore_n h1 h2 hd hj hL.has hn rfl (fun ls' h' => k H ls' locs hP hI (hL.set hk a h') hS)
theorem WW_iinc {X : cvT} {M : cvI} {pc : Nat} {st : List Value} {E : cvE} {σ : cvM} {i : Nat} {n v : Int} (hx : Cx X M) (hd : decode M.1 pc = .ok (.iinc i n, 3)) (hk : stOK M.2.2.2.1 i M.2.1 = true) (hv : E.getD i none = some v) (k : WW X M (pc + 3) st (E.set i (some (oadd v n))) σ) : WW X M pc st E σ := by
  obtain ⟨p, l, e, R, s, m, args, below, meth, c, D, cA, ad, sd, sv, A, cells, slots, Q⟩ := X
  obtain ⟨h1, h2, h3, h4, h5, h6, h7, h8, h9, h10, h11, h12, h13, h14, h15⟩ := hx
  intro H ls locs hP hI hL hS
  have hk' := hk
  simp only [stOK, Bool.and_eq_true, decide_eq_true_eq, beq_iff_eq] at hk'
  obtain ⟨⟨k0, -⟩, hn⟩ := hk'
  have q := hL.2.2 i v hv
  rw [k0] at q
  have hh : lv_has ls M.2.1 ((i, .int (Int32.ofInt v)) :: lvE ad sd M.2.2.2.1 E) := ⟨hL.1, hL.2.1, fun z hz => (List.mem_cons.mp hz).elim (fun e => e ▸ q.1) (fun hz => hL.has.2.2 z hz)⟩
  refine lv_iinc (k := 0) h1 h2 hd hh rfl (o_add v n).symm hn rfl (fun ls' h' => k H ls' locs hP hI (hL.set hk (wr_in _) ?_) hS)
  refine ⟨h'.1, h'.2.1, fun z hz => h'.2.2 z ?_⟩
  rcases List.mem_cons.mp hz with hz | hz
  · exact List.mem_cons.mpr (Or.inl hz)
  · refine List.mem_cons.mpr (Or.inr ?_)
    obtain ⟨z1, z2⟩ := List.mem_filter.mp hz
    exact List.mem_filter.mpr ⟨List.mem_cons_of_mem _ z1, z2⟩
/-! ===== objects and arrays ===== -/
def CK (ci : Nat) (C : String) (T : u_T) (N : Nat) (ty : Nat → FieldType) : Prop := classes[ci]? = some (C, T, N) ∧ (∀ w ∈ u_ws C T N, w ∈ BIG) ∧ (∀ k, k < N → parseFieldDescriptor (T k).2.2.1 = some (ty k)) ∧ ∀ a, a < N → ∀ b, b < N → a ≠ b → (T a).2.1 ≠ (T b).2.1
theorem isI_spec {ci j : Nat} {k : Int} (h : isI ci j k = true) : ∃ (n : Nat) (fs : List (Option Int)), k = n ∧ LAY[n]? = some (.inl (ci, fs)) ∧ fs[j]? = some none := by
  unfold isI at h
  split at h
  · rename_i c' fs hl
    obtain ⟨n, e, hn⟩ := lay_nat hl
    simp only [Bool.and_eq_true, decide_eq_true_eq] at h
    obtain ⟨rfl, h2⟩ := h
    exact ⟨n, fs, e, hn, h2⟩
  · cases h
theorem refOf_spec {ci j : Nat} {k v : Int} (h : refOf ci j k = some v) : ∃ (n : Nat) (fs : List (Option Int)), k = n ∧ LAY[n]? = some (.inl (ci, fs)) ∧ fs[j]? = some (some v) := by
  unfold refOf at h
  split at h
  · rename_i c' fs hl
    obtain ⟨n, e, hn⟩ := lay_nat hl
    split at h
    · rename_i hc
      subst hc
      refine ⟨n, fs, e, hn, ?_⟩
      rw [List.getD_eq_getElem?_getD] at h
      cases hj : fs[j]? with
      | none => rw [hj] at h; cases h
      | some w => rw [hj] at h; exact congrArg some h
    · cases h
  · cases h
theorem lenOf_spec {k n : Int} (h : lenOf k = some n) : ∃ (q L : Nat), k = q ∧ n = L ∧ LAY[q]? = some (.inr L) := by
  unfold lenOf at h
  split at h
  · rename_i L hl
    obtain ⟨q, e, hq⟩ := lay_nat hl
    cases h
    exact ⟨q, L, e, rfl, hq⟩
  · cases h
theorem isOb_spec {c : Nat} {k : Int} (h : isOb c k = true) : ∃ (n : Nat) (fs : List (Option Int)), k = n ∧ LAY[n]? = some (.inl (c, fs)) := by
  unfold isOb at h
  split at h
  · rename_i c' fs hl
    obtain ⟨n, e, hn⟩ := lay_nat hl
    simp only [decide_eq_true_eq] at h
    subst h
    exact ⟨n, fs, e, hn⟩
  · cases h
theorem wld_set {cA : ClassId} {ad : Nat → Nat} {σ τ : cvM} {n : Nat} {q : cvL} {w : va_E} (h : LAY[n]? = some q) (hw : w = cellE cA ad (τ n) q) (ho : ∀ k : Nat, k ≠ n → τ k = σ k) : (wld cA ad σ).set n (ad n, w) = wld cA ad τ := by
  apply List.ext_getElem?
  intro i
  by_cases hi : i = n
  · subst hi
    have hl : i < (wld cA ad σ).length := (List.getElem?_eq_some_iff.mp (wld_at (cA := cA) (ad := ad) (σ := σ) h)).1
    rw [List.getElem?_set_self hl, wld_at h, hw]
  · rw [List.getElem?_set_ne (Ne.symm hi)]
    cases hc : LAY[i]? with
    | none => unfold wld; rw [List.getElem?_mapIdx, List.getElem?_mapIdx, hc]; rfl
    | some x => rw [wld_at hc, wld_at hc, ho i hi]
theorem wld_set_o {cA : ClassId} {ad : Nat → Nat} {σ : cvM} {n ci j : Nat} {fs : List (Option Int)} {v : Int} (h : LAY[n]? = some (.inl (ci, fs))) (hj : fs[j]? = some none) :
    (wld cA ad σ).set n (ad n, .inr (ci, (fs.mapIdx fun j o => slotV ad (σ n j) o).set j (.int (Int32.ofInt v)))) = wld cA ad (updM σ n j v) := by
  refine wld_set h ?_ (fun k hk => ?_)
  · show _ = Sum.inr (ci, _)
    congr 2
    apply List.ext_getElem?
    intro i
    by_cases hi : i = j
    · subst hi
      rw [List.getElem?_set_self (by rw [List.length_mapIdx]; exact (List.getElem?_eq_some_iff.mp hj).1), List.getElem?_mapIdx, hj]
      simp [updM, slotV]
    · rw [List.getElem?_set_ne (Ne.symm hi), List.getElem?_mapIdx, List.getElem?_mapIdx]
      cases fs[i]? with
      | none => rfl
      | some o =>
        cases o with
        | some r => rfl
        | none =>
          have : ¬ ((i : Int) = (j : Int)) := by omega
          simp [updM, this, slotV]
  · funext i
    have : ¬ ((k : Int) = (n : Int)) := by omega
    simp [updM, this]
theorem wld_set_a {cA : ClassId} {ad : Nat → Nat} {σ : cvM} {n L : Nat} {i v : Int} (h : LAY[n]? = some (.inr L)) (h0 : 0 ≤ i) :
    (wld cA ad σ).set n (ad n, .inl (cA, L, .inl (upd (fun j => Int32.ofInt (σ n j)) i.toNat (Int32.ofInt v)))) = wld cA ad (updM σ n i v) := by
  refine wld_set h ?_ (fun k hk => ?_)
  · show _ = Sum.inl (cA, L, Sum.inl _)
    congr 3
    congr 1
    funext j
    unfold upd updM
    by_cases hj : j = i.toNat
    · have : (j : Int) = i := by omega
      rw [if_pos hj, if_pos ⟨rfl, this⟩]
    · have : ¬ ((j : Int) = i) := by omega
      rw [if_neg hj, if_neg (fun z => this z.2)]
  · funext i
    have : ¬ ((k : Int) = (n : Int)) := by omega
    simp [updM, this]
theorem updM_in {σ : cvM} {k i v : Int} (h : ∀ a b, InR (σ a b)) (hv : InR v) : ∀ a b, InR (updM σ k i v a b) := by
  intro a b
  unfold updM
  split
  · exact hv
  · exact h a b
theorem WW_getI {X : cvT} {M : cvI} {pc : Nat} {st : List Value} {E : cvE} {σ : cvM} {ci N j index : Nat} {C : String} {T : u_T} {ty : Nat → FieldType} {k : Int} (hx : Cx X M) (hc : CK ci C T N ty) (hj : j < N) (hl : Cond.fieldLink M.2.2.1 index (T j).1 (T j).2.1 (T j).2.2.1 ∈ BIG) (hd : decode M.1 pc = .ok (.getfield index, 3)) (hi : isI ci j k = true)
    (kk : InR (σ k j) → WW X M (pc + 3) (.int (Int32.ofInt (σ k j)) :: st) E σ) : WW X M pc (.ref (xad X k.toNat) :: st) E σ := by
  obtain ⟨p, l, e, R, s, m, args, below, meth, c, D, cA, ad, sd, sv, A, cells, slots, Q⟩ := X
  obtain ⟨h1, h2, h3, h4, h5, h6, h7, h8, h9, h10, h11, h12, h13, h14, h15⟩ := hx
  intro H ls locs hP hI hL hS
  obtain ⟨n, fs, rfl, hn, hf⟩ := isI_spec hi
  refine va_get (ci := ci) h1 h2 h5 hc.2.1 h4 h6 hP n (wld_at hn) hc.1 j hj (h5 _ hl) (fun _ h => h) (v := .int (Int32.ofInt (σ n j))) ?_ hd (kk (hI _ _) H ls locs hP hI hL hS)
  rw [List.getElem?_mapIdx, hf]
  rfl
theorem WW_getIN {X : cvT} {M : cvI} {pc : Nat} {st : List Value} {E : cvE} {σ : cvM} {ci N j index : Nat} {C host : String} {T : u_T} {ty : Nat → FieldType} {k : Int} (hx : Cx X M) (hc : CK ci C T N ty) (hj : j < N) (hl : (M.2.2.1, index, (T j).1, (T j).2.1, (T j).2.2.1, host) ∈ NSF) (hd : decode M.1 pc = .ok (.getfield index, 3)) (hi : isI ci j k = true)
    (kk : InR (σ k j) → WW X M (pc + 3) (.int (Int32.ofInt (σ k j)) :: st) E σ) : WW X M pc (.ref (xad X k.toNat) :: st) E σ := by
  obtain ⟨p, l, e, R, s, m, args, below, meth, c, D, cA, ad, sd, sv, A, cells, slots, Q⟩ := X
  obtain ⟨h1, h2, h3, h4, h5, h6, h7, h8, h9, h10, h11, h12, h13, h14, h15⟩ := hx
  intro H ls locs hP hI hL hS
  obtain ⟨n, fs, rfl, hn, hf⟩ := isI_spec hi
  refine va_getN (ci := ci) h1 h2 h5 hc.2.1 h4 h6 hP n (wld_at hn) hc.1 j hj (va_Nw.use rfl (h8.1 _ hl)) (fun _ h => h) (v := .int (Int32.ofInt (σ n j))) ?_ hd (kk (hI _ _) H ls locs hP hI hL hS)
  rw [List.getElem?_mapIdx, hf]
  rfl
theorem WW_getR {X : cvT} {M : cvI} {pc : Nat} {st : List Value} {E : cvE} {σ : cvM} {ci N j index : Nat} {C : String} {T : u_T} {ty : Nat → FieldType} {k v : Int} (hx : Cx X M) (hc : CK ci C T N ty) (hj : j < N) (hl : Cond.fieldLink M.2.2.1 index (T j).1 (T j).2.1 (T j).2.2.1 ∈ BIG) (hd : decode M.1 pc = .ok (.getfield index, 3)) (hi : refOf ci j k = some v)
    (kk : WW X M (pc + 3) (.ref (xad X v.toNat) :: st) E σ) : WW X M pc (.ref (xad X k.toNat) :: st) E σ := by
  obtain ⟨p, l, e, R, s, m, args, below, meth, c, D, cA, ad, sd, sv, A, cells, slots, Q⟩ := X
  obtain ⟨h1, h2, h3, h4, h5, h6, h7, h8, h9, h10, h11, h12, h13, h14, h15⟩ := hx
  intro H ls locs hP hI hL hS
  obtain ⟨n, fs, rfl, hn, hf⟩ := refOf_spec hi
  refine va_get (ci := ci) h1 h2 h5 hc.2.1 h4 h6 hP n (wld_at hn) hc.1 j hj (h5 _ hl) (fun _ h => h) (v := .ref (ad v.toNat)) ?_ hd (kk H ls locs hP hI hL hS)
  rw [List.getElem?_mapIdx, hf]
  rfl
theorem WW_getRN {X : cvT} {M : cvI} {pc : Nat} {st : List Value} {E : cvE} {σ : cvM} {ci N j index : Nat} {C host : String} {T : u_T} {ty : Nat → FieldType} {k v : Int} (hx : Cx X M) (hc : CK ci C T N ty) (hj : j < N) (hl : (M.2.2.1, index, (T j).1, (T j).2.1, (T j).2.2.1, host) ∈ NSF) (hd : decode M.1 pc = .ok (.getfield index, 3)) (hi : refOf ci j k = some v)
    (kk : WW X M (pc + 3) (.ref (xad X v.toNat) :: st) E σ) : WW X M pc (.ref (xad X k.toNat) :: st) E σ := by
  obtain ⟨p, l, e, R, s, m, args, below, meth, c, D, cA, ad, sd, sv, A, cells, slots, Q⟩ := X
  obtain ⟨h1, h2, h3, h4, h5, h6, h7, h8, h9, h10, h11, h12, h13, h14, h15⟩ := hx
  intro H ls locs hP hI hL hS
  obtain ⟨n, fs, rfl, hn, hf⟩ := refOf_spec hi
  refine va_getN (ci := ci) h1 h2 h5 hc.2.1 h4 h6 hP n (wld_at hn) hc.1 j hj (va_Nw.use rfl (h8.1 _ hl)) (fun _ h => h) (v := .ref (ad v.toNat)) ?_ hd (kk H ls locs hP hI hL hS)
  rw [List.getElem?_mapIdx, hf]
  rfl
/-- which numbers a field of a type takes -/
def okF (ty : FieldType) (v : Int) : Prop := narrow ty (.int (Int32.ofInt v)) = .int (Int32.ofInt v) ∧ fits ty (.int (Int32.ofInt v)) = true
theorem okF_i (v : Int) : okF .int v := ⟨vp_nar_int _, rfl⟩
theorem okF_z {v : Int} (h : v = 0 ∨ v = 1) : okF .boolean v := by
  rcases h with rfl | rfl <;> exact ⟨by decide, by decide⟩
theorem WW_putI {X : cvT} {M : cvI} {pc : Nat} {st : List Value} {E : cvE} {σ : cvM} {ci N j index : Nat} {C : String} {T : u_T} {ty : Nat → FieldType} {k v : Int} (hx : Cx X M) (hc : CK ci C T N ty) (hj : j < N) (hl : Cond.fieldLink M.2.2.1 index (T j).1 (T j).2.1 (T j).2.2.1 ∈ BIG) (hfin : (T j).2.2.2 = false) (hd : decode M.1 pc = .ok (.putfield index, 3)) (hi : isI ci j k = true) (a : InR v) (hty : okF (ty j) v)
    (kk : WW X M (pc + 3) st E (updM σ k j v)) : WW X M pc (.int (Int32.ofInt v) :: .ref (xad X k.toNat) :: st) E σ := by
  obtain ⟨p, l, e, R, s, m, args, below, meth, c, D, cA, ad, sd, sv, A, cells, slots, Q⟩ := X
  obtain ⟨h1, h2, h3, h4, h5, h6, h7, h8, h9, h10, h11, h12, h13, h14, h15⟩ := hx
  intro H ls locs hP hI hL hS
  obtain ⟨n, fs, rfl, hn, hf⟩ := isI_spec hi
  refine va_put (ci := ci) (ty := ty j) h1 h2 h5 hc.2.1 ty hc.2.2.1 hc.2.2.2 h4 h6 hP (h7.D cA σ) hS n (wld_at hn) hc.1 j hj (h5 _ hl) (fun _ h => h) hfin (hc.2.2.1 j hj) hty.1 hty.2 ?_ hd (fun H1 l1 q1 q2 q3 => ?_)
  · rw [List.length_mapIdx]; exact (List.getElem?_eq_some_iff.mp hf).1
  · rw [wld_set_o hn hf] at q1
    exact kk H1 ls l1 q1 (updM_in hI a) hL q3
theorem WW_putIN {X : cvT} {M : cvI} {pc : Nat} {st : List Value} {E : cvE} {σ : cvM} {ci N j index : Nat} {C host : String} {T : u_T} {ty : Nat → FieldType} {k v : Int} (hx : Cx X M) (hc : CK ci C T N ty) (hj : j < N) (hl : (M.2.2.1, index, (T j).1, (T j).2.1, (T j).2.2.1, host) ∈ NSF) (hfin : (T j).2.2.2 = false) (hd : decode M.1 pc = .ok (.putfield index, 3)) (hi : isI ci j k = true) (a : InR v) (hty : okF (ty j) v)
    (kk : WW X M (pc + 3) st E (updM σ k j v)) : WW X M pc (.int (Int32.ofInt v) :: .ref (xad X k.toNat) :: st) E σ := by
  obtain ⟨p, l, e, R, s, m, args, below, meth, c, D, cA, ad, sd, sv, A, cells, slots, Q⟩ := X
  obtain ⟨h1, h2, h3, h4, h5, h6, h7, h8, h9, h10, h11, h12, h13, h14, h15⟩ := hx
  intro H ls locs hP hI hL hS
  obtain ⟨n, fs, rfl, hn, hf⟩ := isI_spec hi
  refine va_putN (ci := ci) (ty := ty j) h1 h2 h5 hc.2.1 ty hc.2.2.1 hc.2.2.2 h4 h6 hP (h7.D cA σ) hS n (wld_at hn) hc.1 j hj (va_Nw.use rfl (h8.1 _ hl)) (fun _ h => h) hfin (hc.2.2.1 j hj) hty.1 hty.2 ?_ hd (fun H1 l1 q1 q2 q3 => ?_)
  · rw [List.length_mapIdx]; exact (List.getElem?_eq_some_iff.mp hf).1
  · rw [wld_set_o hn hf] at q1
    exact kk H1 ls l1 q1 (updM_in hI a) hL q3
theorem WW_iald {X : cvT} {M : cvI} {pc : Nat} {st : List Value} {E : cvE} {σ : cvM} {k i n : Int} (hx : Cx X M) (hd : decode M.1 pc = .ok (.iaload, 1)) (hn : lenOf k = some n) (a : InR i) (hi : 0 ≤ i ∧ i < n)
    (kk : InR (σ k i) → WW X M (pc + 1) (.int (Int32.ofInt (σ k i)) :: st) E σ) : WW X M pc (.int (Int32.ofInt i) :: .ref (xad X k.toNat) :: st) E σ := by
  obtain ⟨p, l, e, R, s, m, args, below, meth, c, D, cA, ad, sd, sv, A, cells, slots, Q⟩ := X
  obtain ⟨h1, h2, h3, h4, h5, h6, h7, h8, h9, h10, h11, h12, h13, h14, h15⟩ := hx
  intro H ls locs hP hI hL hS
  obtain ⟨q, L, rfl, rfl, hq⟩ := lenOf_spec hn
  refine va_iald h1 h2 h6 hP q 0 (wld_at hq) rfl (o_cl a hi.1 hi.2) hd ?_
  have e2 : Int32.ofInt (σ q (((Int32.ofInt i).toNatClampNeg : Nat) : Int)) = Int32.ofInt (σ q i) := by rw [o_tn a, Int.toNat_of_nonneg hi.1]
  show W p l e R s m args below meth c H locs cells slots Q (F0 m (pc + 1) ls (.int (Int32.ofInt (σ q (((Int32.ofInt i).toNatClampNeg : Nat) : Int))) :: st))
  rw [e2]
  exact kk (hI _ _) H ls locs hP hI hL hS
theorem WW_iast {X : cvT} {M : cvI} {pc : Nat} {st : List Value} {E : cvE} {σ : cvM} {k i n v : Int} (hx : Cx X M) (hd : decode M.1 pc = .ok (.iastore, 1)) (hn : lenOf k = some n) (a : InR i) (b : InR v) (hi : 0 ≤ i ∧ i < n)
    (kk : WW X M (pc + 1) st E (updM σ k i v)) : WW X M pc (.int (Int32.ofInt v) :: .int (Int32.ofInt i) :: .ref (xad X k.toNat) :: st) E σ := by
  obtain ⟨p, l, e, R, s, m, args, below, meth, c, D, cA, ad, sd, sv, A, cells, slots, Q⟩ := X
  obtain ⟨h1, h2, h3, h4, h5, h6, h7, h8, h9, h10, h11, h12, h13, h14, h15⟩ := hx
  intro H ls locs hP hI hL hS
  obtain ⟨q, L, rfl, rfl, hq⟩ := lenOf_spec hn
  refine va_iast h1 h2 h6 hP (h7.D cA σ) hS q 0 (wld_at hq) rfl (o_cl a hi.1 hi.2) hd (fun H1 l1 q1 q2 q3 => ?_)
  rw [o_tn a, wld_set_a hq hi.1] at q1
  exact kk H1 ls l1 q1 (updM_in hI b) hL q3
theorem WW_alen {X : cvT} {M : cvI} {pc : Nat} {st : List Value} {E : cvE} {σ : cvM} {k n : Int} (hx : Cx X M) (hd : decode M.1 pc = .ok (.arraylength, 1)) (hn : lenOf k = some n)
    (kk : WW X M (pc + 1) (.int (Int32.ofInt n) :: st) E σ) : WW X M pc (.ref (xad X k.toNat) :: st) E σ := by
  obtain ⟨p, l, e, R, s, m, args, below, meth, c, D, cA, ad, sd, sv, A, cells, slots, Q⟩ := X
  obtain ⟨h1, h2, h3, h4, h5, h6, h7, h8, h9, h10, h11, h12, h13, h14, h15⟩ := hx
  intro H ls locs hP hI hL hS
  obtain ⟨q, L, rfl, rfl, hq⟩ := lenOf_spec hn
  exact va_alen h1 h2 h6 hP q 0 (wld_at hq) rfl (Int32.ofInt_eq_ofNat (n := L)).symm hd (kk H ls locs hP hI hL hS)
