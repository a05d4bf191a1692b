/-! ===== CONSTRUCTORS' CALLS ===== -/
def ksub (j0 n : Nat) (bs : List kv) (q : kv) : kv := match q.1 with
  | 1 => (3, (j0 : Int))
  | 2 => bs.getD q.2.toNat (4, 0)
  | 3 => (3, ((n + q.2.toNat : Nat) : Int))
  | _ => q
def ksubC (j0 n : Nat) (bs : List kv) (x : kc) : kc := match x with
  | .inl o => .inl (o.1, o.2.map (ksub j0 n bs))
  | .inr a => .inr a
def kres (C : List kc) (j0 ci : Nat) (bs : List kv) (F : List kv) (Cc : List kc) : List kc := C.set j0 (.inl (ci, F.map (ksub j0 C.length bs))) ++ Cc.map (ksubC j0 C.length bs)
def KQ (D : va_G) (cA : ClassId) (h0 sz : Nat) (av : List Value) (ci : Nat) (F : List kv) (C : List kc) (A : Nat → Prop) : Array Value → State → Outcome → State → Prop := fun _ st oc t =>
  (oc = .returned none ∧ t.heap.size = sz + C.length ∧ va_P D classes (kth h0 sz av (some ci) F ++ kws cA h0 sz av C) t.heap) ∧ va_F A st t
def okav (av : List Value) (as : List kv) : Prop := ∀ q ∈ as, q.1 = 0 ∨ (q.1 = 2 ∧ ∃ a, av.getD q.2.toNat .null = .ref a)
def KM (y : MethodName) (b : ByteArray) (nL fr lo ci : Nat) (F0 as F : List kv) (C : List kc) : Prop := ∀ (l : Launch) (D : va_G) (cA : ClassId) (h0 sz : Nat) (av : List Value), h0 < sz → okav av as →
  Met l y (.code y b nL none :: BIG) ({ frames := fr, cells := C.length, slots := kcs C, locals := lo }) (va_Pc (.ref h0 :: as.map (kcv h0 sz av)) (fun U => U.heap.size = sz ∧ va_P D classes (kth h0 sz av (some ci) F0) U.heap ∧ va_K D classes [(cA, .int)] U ∧ NW U)) (KQ D cA h0 sz av ci F C (fun q => q = h0 ∨ sz ≤ q)) C.length (kcs C) (fun q => q = h0 ∨ sz ≤ q)
theorem ksub_v {h0 sz0 : Nat} {av : List Value} {j0 n : Nat} {bs : List kv} (q : kv) : kcv (sz0 + j0) (sz0 + n) (bs.map (kcv h0 sz0 av)) q = kcv h0 sz0 av (ksub j0 n bs q) := by
  obtain ⟨t, v⟩ := q
  match t with
  | 0 => rfl
  | 1 => rfl
  | 2 =>
    show (bs.map (kcv h0 sz0 av)).getD v.toNat .null = kcv h0 sz0 av (bs.getD v.toNat (4, 0))
    rw [List.getD_eq_getElem?_getD, List.getD_eq_getElem?_getD, List.getElem?_map]
    cases bs[v.toNat]? <;> rfl
  | 3 =>
    show Value.ref (sz0 + n + v.toNat) = Value.ref (sz0 + (((n + v.toNat : Nat) : Int)).toNat)
    rw [Int.toNat_natCast, Nat.add_assoc]
  | k + 4 => rfl
theorem ksubC_v {cA : ClassId} {h0 sz0 : Nat} {av : List Value} {j0 n : Nat} {bs : List kv} (x : kc) : kce cA (sz0 + j0) (sz0 + n) (bs.map (kcv h0 sz0 av)) x = kce cA h0 sz0 av (ksubC j0 n bs x) := by
  cases x with
  | inr a => rfl
  | inl o =>
    show Sum.inr (o.1, _) = Sum.inr (o.1, _)
    rw [List.map_map]
    congr 2
    exact List.map_congr_left fun q _ => ksub_v q
theorem ksub_z (j0 n : Nat) (bs : List kv) (x : kc) : ksz (ksubC j0 n bs x) = ksz x := by
  cases x with
  | inr a => rfl
  | inl o => show (o.2.map _).length = _; rw [List.length_map]; rfl
theorem kcs_res {C Cc : List kc} {j0 ci : Nat} {bs F F0 : List kv} (hC : C[j0]? = some (.inl (ci, F0))) (hF : F.length = F0.length) : kcs (kres C j0 ci bs F Cc) = kcs C + kcs Cc := by
  unfold kres kcs
  rw [List.map_append, List.sum_append]
  congr 2
  · apply List.ext_getElem?
    intro i
    rw [List.getElem?_map, List.getElem?_map]
    by_cases hi : i = j0
    · subst hi
      rw [List.getElem?_set_self (List.getElem?_eq_some_iff.mp hC).1, hC]
      show some (F.map _).length = some F0.length
      rw [List.length_map, hF]
    · rw [List.getElem?_set_ne (Ne.symm hi)]
  · rw [List.map_map]
    exact List.map_congr_left fun x _ => ksub_z j0 C.length bs x
theorem kres_len (C Cc : List kc) (j0 ci : Nat) (bs F : List kv) : (kres C j0 ci bs F Cc).length = C.length + Cc.length := by simp [kres]
section KCALL
variable {X : kT} {b : ByteArray} {nL : Nat} {own : String} {ti : Option Nat} {fr lo mc ms pc : Nat} {L : List (Option kv)} {st : List kv} {F : List kv} {C : List kc}
theorem KK.call (hx : KC X b nL own ti fr lo mc ms) {idx j0 ci n2 fr2 lo2 : Nat} {y : MethodName} {b2 : ByteArray} {G0 as bs F2 : List kv} {C2 : List kc} (hM : KM y b2 n2 fr2 lo2 ci G0 as F2 C2) (hd : decode b pc = .ok (.invokespecial idx, 3)) (hw : wB y b2 n2 none) (hl : Cond.methodLink own idx y ∈ BIG) (hi : Cond.instanceMethod y ∈ BIG) (hy1 : y.name = "<init>") (hy : dsc y as.length) (hC : C[j0]? = some (.inl (ci, G0))) (hF : F2.length = G0.length)
    (has : ∀ h0 sz av, X.2.2.2.2.2.2.2.2.2.2.2.2.2.1 = av → (as.map (kcv (sz + j0) (sz + C.length) (bs.map (kcv h0 sz av))) = bs.map (kcv h0 sz av)) ∧ okav (bs.map (kcv h0 sz av)) as) (hF0 : ∀ q ∈ G0, q.1 = 0 ∨ q.1 = 4) (hst : ∀ h0 sz av, ((st.map (kcv h0 sz av)).map fun v => v.category).sum ≤ 8) (hfr : fr2 + 1 ≤ fr) (hlo : 8 + (n2 + 11) + lo2 ≤ lo) (hmc : C.length + C2.length ≤ mc) (hms : kcs C + kcs C2 ≤ ms)
    (k : KW X nL ti (pc + 3) L st F (kres C j0 ci bs F2 C2)) : KW X nL ti pc L (bs.reverse ++ (3, (j0 : Int)) :: st) F C := by
  have hx' := hx
  obtain ⟨p, l, e, R, s, m, args, below, meth, c, D, cA, h0, av, A, Q⟩ := X
  obtain ⟨h1, h2, h3, h4, h5, h6, h7, h8, h9, h10, h11, h12, h13⟩ := hx'
  intro H ls locs hP hz hL hS
  obtain ⟨g1, g2⟩ := has h0 s.heap.size av rfl
  have hjl := (List.getElem?_eq_some_iff.mp hC).1
  have hD := KC.D rfl hx F C
  have he : (kth h0 s.heap.size av ti F ++ kws cA h0 s.heap.size av C)[(kth h0 s.heap.size av ti F).length + j0]? = some (s.heap.size + j0, kce cA h0 s.heap.size av (.inl (ci, G0))) := by
    rw [List.getElem?_append_right (Nat.le_add_right _ _), Nat.add_sub_cancel_left]
    exact kws_at hC
  have hp := hP _ _ he
  have e0 : ∀ (a1 a2 a3 a4 : Nat) (v1 v2 : List Value), G0.map (kcv a1 a2 v1) = G0.map (kcv a3 a4 v2) := fun a1 a2 a3 a4 v1 v2 => List.map_congr_left fun q hq => by
    obtain ⟨t, v⟩ := q
    rcases hF0 _ hq with h | h
    · simp only at h; subst h; rfl
    · simp only at h; subst h; rfl
  have hM := hM l D cA (s.heap.size + j0) H.size (bs.map (kcv h0 s.heap.size av)) (by omega) g2
  have hrun : va_Run p l e R s m args below meth c H locs C.length (kcs C) C2.length (kcs C2) (F0 m pc ls ((bs.reverse ++ (3, (j0 : Int)) :: st).map (kcv h0 s.heap.size av))) (st.map (kcv h0 s.heap.size av)) (KQ D cA (s.heap.size + j0) H.size (bs.map (kcv h0 s.heap.size av)) ci F2 C2 (fun q => q = s.heap.size + j0 ∨ H.size ≤ q) (Value.ref (s.heap.size + j0) :: as.map (kcv (s.heap.size + j0) H.size (bs.map (kcv h0 s.heap.size av)))).toArray) (fun q => q = s.heap.size + j0 ∨ H.size ≤ q) := by
    refine va_runI (n := as.length) ⟨h1, h2, h3, h4, h5⟩ hM (cwI as.length h5 (big_in hw.2) rfl rfl rfl (h5 _ hw.1) (h5 _ hl) (h5 _ hi) hy1 hy ⟨Nat.le_trans hfr h9, Nat.le_trans hlo h10⟩)
      ⟨fun a U g mk ⟨q0, q1, q2, q3, q4⟩ => ⟨q0, q1, q2, va_K.moved (u := U) (U := U.calling g mk a) (Vm.Alike.refl U.vm) q3, q4.same rfl⟩, fun U hU hW => ⟨rfl, by rw [hU], ?_, va_K.moved hW.alike h6, h8.warm hW⟩⟩ rfl (List.length_map _) hL.1 ?_ ?_ hd ⟨Nat.le_trans hmc h11, Nat.le_trans hms h12⟩
    · intro k2 q hq
      have hk2 : k2 < 1 := (List.getElem?_eq_some_iff.mp hq).1
      rw [show k2 = 0 by omega] at hq
      cases hq
      rw [hU]
      show va_at D classes (s.heap.size + j0, .inr (ci, G0.map _)) H
      rw [e0 _ _ h0 s.heap.size _ av]
      exact hp
    · show ((bs.reverse ++ (3, (j0 : Int)) :: st).map (kcv h0 s.heap.size av)) = (as.map (kcv (s.heap.size + j0) H.size (bs.map (kcv h0 s.heap.size av)))).reverse ++ .ref (s.heap.size + j0) :: st.map (kcv h0 s.heap.size av)
      rw [hz, g1]
      simp [kcv]
    · show 2 * 0 + _ ≤ 8
      have := hst h0 s.heap.size av
      omega
  intro T hT X
  obtain ⟨w, st₀, t, T', L2, q0, X', hL2, e1, e2, ⟨⟨hv, qz, qP⟩, qF⟩, stp⟩ := hrun T hT X
  have hv := Outcome.returned.inj hv
  subst hv
  have qF : H.size ≤ t.heap.size ∧ ∀ q : Nat, q < H.size → ¬ (q = s.heap.size + j0 ∨ H.size ≤ q) → t.heap[q]? = H[q]? := by
    have qF := qF
    unfold va_F at qF
    rw [q0] at qF
    exact qF
  have keep : ∀ q : Nat, q < H.size → q ≠ s.heap.size + j0 → T'.heap[q]? = H[q]? := fun q a1 a2 => by
    rw [e1]
    exact qF.2 q a1 (fun z => z.elim a2 (fun z => absurd z (by omega)))
  have hPn : va_P D classes (kth h0 s.heap.size av ti F ++ kws cA h0 s.heap.size av (kres C j0 ci bs F2 C2)) T'.heap := by
    intro k2 q hq
    rcases Nat.lt_or_ge k2 (kth h0 s.heap.size av ti F).length with z | z
    · rw [List.getElem?_append_left z] at hq
      have hq2 : (kth h0 s.heap.size av ti F ++ kws cA h0 s.heap.size av C)[k2]? = some q := by rw [List.getElem?_append_left z]; exact hq
      have hlt := (hP k2 q hq2).lt
      refine (hP k2 q hq2).kept (keep q.1 hlt (fun z2 => ?_))
      have := hD.1 k2 _ q _ hq2 he z2
      omega
    · rw [List.getElem?_append_right z] at hq
      have hb := kws_lt hq
      rw [kres_len] at hb
      generalize hk3 : k2 - (kth h0 s.heap.size av ti F).length = k3 at hq hb
      rcases Nat.lt_or_ge k3 C.length with z3 | z3
      · by_cases hj : k3 = j0
        · subst hj
          have hx1 : (kres C k3 ci bs F2 C2)[k3]? = some (.inl (ci, F2.map (ksub k3 C.length bs))) := by
            unfold kres
            rw [List.getElem?_append_left (by rw [List.length_set]; exact z3), List.getElem?_set_self z3]
          rw [kws_at hx1] at hq
          cases hq
          have h := qP 0 _ rfl
          rw [← e1] at h
          have e5 : F2.map (kcv (s.heap.size + k3) H.size (bs.map (kcv h0 s.heap.size av))) = (F2.map (ksub k3 C.length bs)).map (kcv h0 s.heap.size av) := by
            rw [hz, List.map_map]
            exact List.map_congr_left fun q _ => ksub_v q
          show va_at D classes (s.heap.size + k3, .inr (ci, (F2.map (ksub k3 C.length bs)).map (kcv h0 s.heap.size av))) T'.heap
          rw [← e5]
          exact h
        · have hx1 : (kres C j0 ci bs F2 C2)[k3]? = C[k3]? := by
            unfold kres
            rw [List.getElem?_append_left (by rw [List.length_set]; exact z3), List.getElem?_set_ne (Ne.symm hj)]
          have hq2 : (kws cA h0 s.heap.size av C)[k3]? = some q := by
            unfold kws at hq ⊢
            rw [List.getElem?_mapIdx] at hq ⊢
            rw [← hx1]
            exact hq
          have hq3 : (kth h0 s.heap.size av ti F ++ kws cA h0 s.heap.size av C)[k2]? = some q := by rw [List.getElem?_append_right z, hk3]; exact hq2
          refine (hP k2 q hq3).kept (keep q.1 (by omega) (by omega))
      · have hx1 : (kres C j0 ci bs F2 C2)[k3]? = (C2[k3 - C.length]?).map (ksubC j0 C.length bs) := by
          unfold kres
          rw [List.getElem?_append_right (by rw [List.length_set]; exact z3), List.getElem?_map, List.length_set]
        obtain ⟨x, hx2⟩ : ∃ x, C2[k3 - C.length]? = some x := ⟨_, List.getElem?_eq_getElem (by omega)⟩
        rw [hx2] at hx1
        rw [kws_at hx1] at hq
        cases hq
        have h := qP (1 + (k3 - C.length)) (H.size + (k3 - C.length), kce cA (s.heap.size + j0) H.size (bs.map (kcv h0 s.heap.size av)) x) (by
          rw [List.getElem?_append_right (by show 1 ≤ _; omega)]
          show (kws _ _ _ _ C2)[1 + (k3 - C.length) - 1]? = _
          rw [Nat.add_sub_cancel_left]
          exact kws_at hx2)
        rw [← e1, hz, ksubC_v] at h
        have e6 : s.heap.size + C.length + (k3 - C.length) = s.heap.size + k3 := by omega
        rw [e6] at h
        exact h
  have hA2 : ∀ q, (q = s.heap.size + j0 ∨ H.size ≤ q) → A q := fun q z => h7 q (by rcases z with z | z <;> omega)
  have k := k T'.heap ls (locs ++ L2) hPn (by rw [e1, qz, kres_len]; omega) hL ⟨Nat.le_trans hS.1 (by rw [e1, qz]; omega), fun q a1 a2 => by
    rw [keep q (Nat.lt_of_lt_of_le a1 hS.1) (fun z => a2 (hA2 q (Or.inl z)))]
    exact hS.2.1 q a1 a2, fun q hq => by
      rcases List.mem_append.mp hq with h | h
      · exact hS.2.2 q h
      · exact hA2 _ (hL2 q h)⟩
  rw [kres_len, kcs_res hC hF] at k
  obtain ⟨t2, a1, b1⟩ := k T' rfl X'
  exact ⟨t2, stp t2 a1, b1⟩
end KCALL
/-- a constructor's contract out of its walk -/
theorem en_app2 {E : List (Option kv)} {n k : Nat} {v : kv} (h : (E ++ List.replicate n none).getD k none = some v) : E.getD k none = some v := by
  rw [List.getD_eq_getElem?_getD] at h ⊢
  rcases Nat.lt_or_ge k E.length with q | q
  · rw [List.getElem?_append_left q] at h
    exact h
  · rw [List.getElem?_append_right q, List.getElem?_replicate] at h
    split at h <;> cases h
theorem KM.of {y : MethodName} {b : ByteArray} {nL fr lo ci : Nat} {own : String} {G0 as F : List kv} {C : List kc} (hpn : plainName y.cls = true) (hown : y.cls = own) (hn : y.name = "<init>") (hs : as.length + 1 ≤ nL) (body : ∀ X : kT, KC X b nL own (some ci) fr lo C.length (kcs C) → okav X.2.2.2.2.2.2.2.2.2.2.2.2.2.1 as → (∀ pc L, decode b pc = .ok (.return_, 1) → KW X nL (some ci) pc L [] F C) → KW X nL (some ci) 0 (some (1, 0) :: as.map some ++ List.replicate (nL - (as.length + 1)) none) [] G0 []) : KM y b nL fr lo ci G0 as F C := by
  intro l D cA h0 sz av hlt hav
  refine Met.ofW (cc := b) (maxL := nL) (ret := none) hpn rfl ?_
  intro p e s m args below meth c s₁ B hml hv
  obtain ⟨rfl, rfl, hP, hK, hN⟩ := hv
  have hts := atoms_spec (ws := .code y b nL none :: BIG) B.pre
  have hfc : s.vm.findClass own = some m.cls := by rw [← hown]; exact findClass_of_methodNamed B.named
  have hin : meth.name = "<init>" := by rw [← hn]; exact (name_of_methodNamed B.named B.method).1
  have hlen : ∀ (q : List kv), okav av q → (lg_sl (q.map (kcv h0 s.heap.size av))).length = q.length ∧ ∀ i, lv_args i (q.map (kcv h0 s.heap.size av)) = (q.map (kcv h0 s.heap.size av)).mapIdx fun k v => (i + k, v) := by
    intro q
    induction q with
    | nil => intro _; exact ⟨rfl, fun _ => rfl⟩
    | cons a q ih =>
      intro h
      obtain ⟨i1, i2⟩ := ih (fun z hz => h z (List.mem_cons_of_mem _ hz))
      have hc : (kcv h0 s.heap.size av a).category = 1 := by
        obtain ⟨t, v⟩ := a
        rcases h _ List.mem_cons_self with h | ⟨h, x, hx⟩
        · simp only at h; subst h; rfl
        · simp only at h; subst h; simp only at hx; show ((av.getD v.toNat .null)).category = 1; rw [hx]; rfl
      have hc2 : ¬ (kcv h0 s.heap.size av a).category = 2 := by rw [hc]; decide
      refine ⟨?_, fun i => ?_⟩
      · unfold lg_sl at i1 ⊢
        rw [List.map_cons, List.flatMap_cons, List.length_append, i1, if_neg hc2]
        simp
        omega
      · rw [List.map_cons, lv_args, if_neg hc2, i2, List.mapIdx_cons]
        congr 1
        apply List.ext_getElem?
        intro k
        rw [List.getElem?_mapIdx, List.getElem?_mapIdx]
        congr 1
        funext v
        have e9 : i + 1 + k = i + (k + 1) := by omega
        rw [e9]
  have hl := lv_entry (.ref h0 :: as.map (kcv h0 s.heap.size av)) (n := nL) (by
    unfold lg_sl
    rw [List.flatMap_cons, List.length_append]
    have := (hlen as hav).1
    unfold lg_sl at this
    rw [this]
    show 1 + as.length ≤ nL
    omega)
  rw [lg_entry_eq]
  generalize (lg_sl (.ref h0 :: as.map (kcv h0 s.heap.size av)) ++ List.replicate (nL - (lg_sl (.ref h0 :: as.map (kcv h0 s.heap.size av))).length) Slot.unset).toArray = ls at hl ⊢
  have hx : KC (p, l, e, (headSpec (.code y b nL none :: BIG) ({ frames := fr, cells := C.length, slots := kcs C, locals := lo })).room, s, m, (.ref h0 :: as.map (kcv h0 s.heap.size av)).toArray, below, meth, c, D, cA, h0, av, (fun q => q = h0 ∨ s.heap.size ≤ q), MQ below (KQ D cA h0 s.heap.size av ci F C (fun q => q = h0 ∨ s.heap.size ≤ q)) (.ref h0 :: as.map (kcv h0 s.heap.size av)).toArray s C.length (kcs C) (fun q => q = h0 ∨ s.heap.size ≤ q)) b nL own (some ci) fr lo C.length (kcs C) :=
    ⟨B.exec, B.bytes, hml, hfc, fun w hw => hts w (List.mem_cons_of_mem _ hw), hK, fun q hq => Or.inr hq, hN, Nat.le_refl _, Nat.le_refl _, Nat.le_refl _, Nat.le_refl _, Or.inr ⟨hlt, Or.inl rfl, hin⟩⟩
  refine body _ hx hav (fun pc L hd H ls2 locs qP qz qL qS => ?_) s.heap ls [] ?_ (by rfl) ?_ va_S.rf
  · exact W.vret B.exec B.bytes B.returns (fun t ht hW => ⟨⟨rfl, by rw [ht]; exact qz, by rw [ht]; exact qP⟩, qS.F ht⟩) qS.2.2 hd B.notSynchronized
  · show va_P D classes (kth h0 s.heap.size av (some ci) G0 ++ []) s.heap
    rw [List.append_nil]
    exact hP
  · refine ⟨hl.1, hl.2.1, fun k q hq => ?_⟩
    have hq2 : (some (1, (0 : Int)) :: as.map some).getD k none = some q := en_app2 hq
    match k, hq2 with
    | 0, h =>
      have h : some ((1 : Nat), (0 : Int)) = some q := h
      cases h
      exact hl.2.2 (0, .ref h0) List.mem_cons_self
    | k + 1, h =>
      have h : (as.map some).getD k none = some q := h
      rw [List.getD_eq_getElem?_getD, List.getElem?_map] at h
      cases hz : as[k]? with
      | none => rw [hz] at h; cases h
      | some z =>
        rw [hz] at h
        have h : some z = some q := h
        rw [Option.some.inj h] at hz
        refine hl.2.2 (k + 1, kcv h0 s.heap.size av q) (List.mem_cons_of_mem _ ?_)
        show (k + 1, kcv h0 s.heap.size av q) ∈ lv_args 1 (as.map (kcv h0 s.heap.size av))
        rw [(hlen as hav).2 1]
        refine List.mem_of_getElem? (i := k) ?_
        rw [List.getElem?_mapIdx, List.getElem?_map, hz]
        show some (1 + k, _) = _
        rw [Nat.add_comm 1 k]
