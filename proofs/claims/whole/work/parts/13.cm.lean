/-! ===== A METHOD'S CONTRACT OUT OF ITS BODY'S JUDGEMENT ===== -/
def sks : List Nat → List Nat
  | κ :: ks => if κ = 2 then 2 :: 9 :: sks ks else κ :: sks ks
  | [] => []
theorem en_args (ad sd : Nat → Nat) : ∀ (ks : List Nat) (vs : List Int) (i : Nat), okvs ks vs → ∀ (k : Nat) (v : Int), (enI ks vs).getD k none = some v → (i + k, conc ad sd ((sks ks).getD k 0) v) ∈ lv_args i (concs ad sd ks vs) ∧ okv ((sks ks).getD k 0) v
  | [], [], _, _, k, v, h => by simp [enI] at h
  | [], _ :: _, _, h, _, _, _ => h.elim
  | _ :: _, [], _, h, _, _, _ => h.elim
  | κ :: ks, w :: ws, i, ho, k, v, h => by
    unfold concs lv_args
    rw [conc_cat]
    unfold enI at h
    unfold sks
    by_cases hκ : κ = 2
    · rw [if_pos hκ] at h ⊢
      have hc : kcat κ = 2 := by unfold kcat; rw [if_pos hκ]
      rw [if_pos hc]
      match k, h with
      | 0, h =>
        have h : some w = some v := h
        cases h
        subst hκ
        exact ⟨List.mem_cons_self, ho.1⟩
      | 1, h => cases h
      | k + 2, h =>
        have h : (enI ks ws).getD k none = some v := h
        obtain ⟨h1, h2⟩ := en_args ad sd ks ws (i + 2) ho.2 k v h
        refine ⟨List.mem_cons_of_mem _ ?_, h2⟩
        have e : i + 2 + k = i + (k + 2) := by omega
        rw [e] at h1
        exact h1
    · rw [if_neg hκ] at h ⊢
      have hc : ¬ kcat κ = 2 := by unfold kcat; rw [if_neg hκ]; decide
      rw [if_neg hc]
      match k, h with
      | 0, h =>
        have h : some w = some v := h
        cases h
        exact ⟨List.mem_cons_self, ho.1⟩
      | k + 1, h =>
        have h : (enI ks ws).getD k none = some v := h
        obtain ⟨h1, h2⟩ := en_args ad sd ks ws (i + 1) ho.2 k v h
        refine ⟨List.mem_cons_of_mem _ ?_, h2⟩
        have e : i + 1 + k = i + (k + 1) := by omega
        rw [e] at h1
        exact h1
theorem lg_len (ad sd : Nat → Nat) : ∀ (ks : List Nat) (vs : List Int), okvs ks vs → (lg_sl (concs ad sd ks vs)).length = (ks.map kcat).sum
  | [], [], _ => rfl
  | [], _ :: _, h => h.elim
  | _ :: _, [], h => h.elim
  | κ :: ks, v :: vs, h => by
    have ih := lg_len ad sd ks vs h.2
    unfold lg_sl at ih ⊢
    rw [concs, List.flatMap_cons, List.length_append, ih, conc_cat, List.map_cons, List.sum_cons]
    unfold kcat
    split <;> rfl
theorem en_app {E : cvE} {n k : Nat} {v : Int} (h : (E ++ List.replicate n none).getD k none = some v) : E.getD k none = some v := by
  rw [List.getD_eq_getElem?_getD] at h ⊢
  rcases Nat.lt_or_ge k E.length with q | q
  · rw [List.getElem?_append_left q] at h
    exact h
  · rw [List.getElem?_append_right q, List.getElem?_replicate] at h
    split at h <;> cases h
/-- what a method answers: its type, the kind, whether it answers nothing, where its 'return' stands -/
def reOK (b : ByteArray) (ret : Option FieldType) (rk : Nat) (vd : Bool) (pe : Nat) : Prop := (ret = some .int ∧ rk = 0 ∧ vd = false) ∨ ((ret = some .boolean ∨ ret = some .byte ∨ ret = some .char) ∧ rk = 0 ∧ vd = false) ∨ (ret = none ∧ rk = 9 ∧ vd = true ∧ decode b pe = .ok (.return_, 1)) ∨ (ret = some (.object "java/lang/String") ∧ rk = 3 ∧ vd = false)
theorem RT_of {p : Program} {l : Launch} {e : Jvm.Env} {R : Room} {s : State} {m : MethodId} {args : Array Value} {below : List Frame} {meth : Method} {c : Code} {D : va_G} {cA : ClassId} {ad sd sv : Nat → Nat} {A : Nat → Prop} {M : cvI} {σ' : cvM} {rk pe : Nat} {v : Int} {vd : Bool}
    (hx : Cx (p, l, e, R, s, m, args, below, meth, c, D, cA, ad, sd, sv, A, 0, 0, MQ below (Qm D cA ad sd sv A σ' rk v) args s 0 0 A) M) (hr : reOK M.1 M.2.2.2.2.2.2.1 rk vd pe) : RT (p, l, e, R, s, m, args, below, meth, c, D, cA, ad, sd, sv, A, 0, 0, MQ below (Qm D cA ad sd sv A σ' rk v) args s 0 0 A) M v σ' := by
  have hx' := hx
  obtain ⟨h1, h2, h3, h4, h5, h6, h7, h8, h9, h10, h11, h12, h13, h14, h15⟩ := hx'
  refine ⟨fun hM pc E hd => ?_, fun hM ho pc E hd => ?_, fun ty hM hty hf ho pc E hd => ?_, fun hM ho pc E hd => ?_⟩
  · intro H ls locs hP hI hL hS
    have hrk : rk = 9 := by
      rcases hr with h | h | h | h
      · rw [hM] at h; cases h.1
      · rw [hM] at h; rcases h.1 with z | z | z <;> cases z
      · exact h.2.1
      · rw [hM] at h; cases h.1
    exact W.vret h1 h2 (by rw [h15.1]; exact hM) (fun t ht hW => ⟨⟨by rw [if_pos hrk], Or.inl hrk, hd_at hx hP hI hS ht hW⟩, hS.F ht⟩) hS.2.2 hd h14
  · intro H ls locs hP hI hL hS
    have hrk : rk = 0 := by
      rcases hr with h | h | h | h
      · exact h.2.1
      · exact h.2.1
      · rw [hM] at h; cases h.1
      · rw [hM] at h; cases h.1
    exact W.iret h1 h2 (by rw [h15.1]; exact hM) (fun t ht hW => ⟨⟨by rw [hrk]; rfl, Or.inr (by rw [hrk]; exact ho), hd_at hx hP hI hS ht hW⟩, hS.F ht⟩) hS.2.2 hd h14
  · intro H ls locs hP hI hL hS
    have hrk : rk = 0 := by
      rcases hr with h | h | h | h
      · exact h.2.1
      · exact h.2.1
      · rw [hM] at h; cases h.1
      · rw [hM] at h; have := Option.some.inj h.1; subst this; rcases hty with z | z | z <;> cases z
    exact W.zret (ty := ty) h1 h2 (by rw [h15.1]; exact hM) hf.1 (fun t ht hW => ⟨⟨by rw [hrk]; rfl, Or.inr (by rw [hrk]; exact ho), hd_at hx hP hI hS ht hW⟩, hS.F ht⟩) hS.2.2 hd h14
  · intro H ls locs hP hI hL hS
    have hrk : rk = 3 := by
      rcases hr with h | h | h | h
      · rw [hM] at h; cases h.1
      · rw [hM] at h; rcases h.1 with z | z | z <;> cases z
      · rw [hM] at h; cases h.1
      · exact h.2.1
    exact W.aret h1 h2 (by rw [h15.1]; exact hM) (Or.inl ⟨_, rfl⟩) (Or.inr ⟨_, rfl⟩) (fun t ht hW => ⟨⟨by rw [hrk]; rfl, Or.inr (by rw [hrk]; exact ho), hd_at hx hP hI hS ht hW⟩, hS.F ht⟩) hS.2.2 hd h14
theorem CM.of {y : MethodName} {b : ByteArray} {nL : Nat} {own : String} {ret : Option FieldType} {ks : List Nat} {rk fr lo pe : Nat} {vd : Bool} {body : cvS} (hpn : plainName y.cls = true) (hown : y.cls = own) (hs : (ks.map kcat).sum ≤ nL) (hre : reOK b ret rk vd pe) (hSI : SI (b, nL, own, sks ks, fr, lo, ret, fun _ => True) 0 pe 0 0 body) : CM y b nL ret ks rk fr lo (fnOf nL ks vd body) := by
  intro l D cA ad sd sv A vs σ σ' v hf hA hok
  refine Met.ofW (cc := b) (maxL := nL) (ret := ret) hpn rfl ?_
  intro p e s m args below meth c s₁ B hml hv
  obtain ⟨rfl, hP, hK, hI, hN, hX⟩ := hv
  have hts := atoms_spec (ws := .code y b nL ret :: BIG) B.pre
  have hfc : s.vm.findClass own = some m.cls := by rw [← hown]; exact findClass_of_methodNamed B.named
  have hl := lv_entry (concs ad sd ks vs) (n := nL) (by rw [lg_len ad sd ks vs hok]; exact hs)
  rw [lg_entry_eq]
  generalize (lg_sl (concs ad sd ks vs) ++ List.replicate (nL - (lg_sl (concs ad sd ks vs)).length) Slot.unset).toArray = ls at hl ⊢
  have hx : Cx (p, l, e, (headSpec (.code y b nL ret :: BIG) ({ frames := fr, cells := 0, slots := 0, locals := lo })).room, s, m, (concs ad sd ks vs).toArray, below, meth, c, D, cA, ad, sd, sv, A, 0, 0, MQ below (Qm D cA ad sd sv A σ' rk v) (concs ad sd ks vs).toArray s 0 0 A) (b, nL, own, sks ks, fr, lo, ret, fun _ => True) :=
    ⟨B.exec, B.bytes, hml, hfc, fun w hw => hts w (List.mem_cons_of_mem _ hw), hK, hA, hN, hX, Nat.le_refl fr, Nat.le_refl lo, Nat.zero_le _, Nat.zero_le _, B.notSynchronized, B.returns, trivial⟩
  have hrt := RT_of hx hre
  obtain ⟨⟨o, w, E', σ2⟩, e1, hf⟩ := bnd hf
  dsimp only at hf
  have hLR : LR ad sd nL (sks ks) (enI ks vs ++ List.replicate (nL - (enI ks vs).length) none) ls := by
    refine ⟨hl.1, hl.2.1, fun k z hz => ?_⟩
    obtain ⟨g1, g2⟩ := en_args ad sd ks vs 0 hok k z (en_app hz)
    have g3 := hl.2.2 _ g1
    rw [Nat.zero_add] at g3
    exact ⟨g3, g2⟩
  by_cases ho : o = 3
  · rw [if_pos ho] at hf
    obtain ⟨rfl, rfl⟩ := bnd2 hf
    exact hSI _ hx _ σ o w E' σ2 e1 (fun z => by omega) (fun z => by omega) (fun z => by omega) (fun _ => hrt) s.heap ls [] hP hI hLR va_S.rf
  · rw [if_neg ho] at hf
    by_cases h0 : vd = true ∧ o = 0
    · rw [if_pos h0] at hf
      obtain ⟨rfl, rfl⟩ := bnd2 hf
      have hvoid : ret = none ∧ decode b pe = .ok (.return_, 1) := by
        rcases hre with h | h | h | h
        · rw [h0.1] at h; cases h.2.2
        · rw [h0.1] at h; cases h.2.2
        · exact ⟨h.1, h.2.2.2⟩
        · rw [h0.1] at h; cases h.2.2
      exact hSI _ hx _ σ o w E' σ2 e1 (fun _ => hrt.1 hvoid.1 pe E' hvoid.2) (fun z => by omega) (fun z => by omega) (fun z => absurd z ho) s.heap ls [] hP hI hLR va_S.rf
    · rw [if_neg h0] at hf
      cases hf
/-! ===== copies of arrays ===== -/
theorem WW_copy {X : cvT} {M : cvI} {pc index : Nat} {st : List Value} {E : cvE} {σ : cvM} {a b n l1 l2 : Int} (hx : Cx X M) (hl : Cond.methodLink M.2.2.1 index arraycopyName ∈ BIG) (hw : Cond.native arraycopyName ∈ BIG ∧ Cond.static arraycopyName ∈ BIG ∧ Cond.initialized "java/lang/System" ∈ BIG) (hd : decode M.1 pc = .ok (.invokestatic index, 3)) (ha : lenOf a = some l1) (hb : lenOf b = some l2) (ho : InR n) (hn : 0 ≤ n ∧ n ≤ l1 ∧ n ≤ l2) (hfr : 1 ≤ M.2.2.2.2.1) (hlo : stk st + (nativeFrameWords "java/lang/System" "arraycopy" 5 + 11) ≤ M.2.2.2.2.2.1)
    (kk : WW X M (pc + 3) st E (fun k i => if k = b ∧ 0 ≤ i ∧ i < n then σ a i else σ k i)) : WW X M pc (.int (Int32.ofInt n) :: .int (Int32.ofInt 0) :: .ref (xad X b.toNat) :: .int (Int32.ofInt 0) :: .ref (xad X a.toNat) :: st) E σ := by
  obtain ⟨p, l, e, R, s, m, args, below, meth, c, D, cA, ad, sd, sv, A, cells, slots, Q⟩ := X
  obtain ⟨h1, h2, h3, h4, h5, h6, h7, h8, h9, h10, h11, h12, h13, h14, h15⟩ := hx
  intro H ls locs hP hI hL hS
  obtain ⟨q1, L1, rfl, rfl, e1⟩ := lenOf_spec ha
  obtain ⟨q2, L2, rfl, rfl, e2⟩ := lenOf_spec hb
  have z0 : (Int32.ofInt 0).toNatClampNeg = 0 := by decide
  have zn : (Int32.ofInt n).toNatClampNeg = n.toNat := o_tn ho
  refine va_copyi h1 h2 (h3.trans hL.1.symm) h4 (h5 _ hl) (h5 _ hw.1) (h5 _ hw.2.1) (h5 _ hw.2.2) h6 hP (h7.D cA σ) hS q1 q2 0 0 (wld_at e1) (wld_at e2) rfl rfl rfl (by decide) (by decide) (fun z => ?_) ?_ ?_ (fun _ _ => rfl) (Nat.le_trans hfr h10) (Nat.le_trans hlo h11) hd (fun H1 l1 g1 g2 g3 => ?_)
  · have := (q_lt ho (y := 0) ⟨by decide, by decide⟩).mp z
    omega
  · rw [z0, zn]; omega
  · rw [z0, zn]; omega
  · refine kk H1 ls l1 ?_ (fun k i => ?_) hL g3
    · rw [z0, zn] at g1
      have e3 : (wld cA ad σ).set q2 (ad q2, .inl (cA, L2, .inl (va_cpy (fun j => Int32.ofInt (σ q1 j)) (fun j => Int32.ofInt (σ q2 j)) 0 0 n.toNat))) = wld cA ad (fun k i => if k = (q2 : Int) ∧ 0 ≤ i ∧ i < n then σ q1 i else σ k i) := by
        refine wld_set e2 ?_ (fun k hk => ?_)
        · show _ = Sum.inl (cA, L2, Sum.inl _)
          congr 3
          congr 1
          funext j
          unfold va_cpy
          by_cases hj : (j : Int) < n
          · rw [if_pos (by omega)]
            dsimp only
            rw [if_pos ⟨rfl, by omega, hj⟩]
            simp
          · rw [if_neg (by omega)]
            dsimp only
            rw [if_neg (fun z => hj z.2.2)]
        · funext i
          have : ¬ ((k : Int) = (q2 : Int)) := by omega
          simp [this]
      rw [e3] at g1
      exact g1
    · dsimp only
      split
      · exact hI _ _
      · exact hI _ _
theorem SI.cp {M : cvI} {pc p1 p2 p3 index tN tB tC : Nat} {a b n : cvX} (ha : EI M 0 pc p1 1 a) (hz : decode M.1 p1 = .ok (.iconst 0, 1)) (hb : EI M 2 (p1 + 1) p2 1 b) (hz2 : decode M.1 p2 = .ok (.iconst 0, 1)) (hn : EI M 4 (p2 + 1) p3 0 n) (hl : Cond.methodLink M.2.2.1 index arraycopyName ∈ BIG) (hw : Cond.native arraycopyName ∈ BIG ∧ Cond.static arraycopyName ∈ BIG ∧ Cond.initialized "java/lang/System" ∈ BIG) (hd : decode M.1 p3 = .ok (.invokestatic index, 3)) (hfr : 1 ≤ M.2.2.2.2.1) (hlo : nativeFrameWords "java/lang/System" "arraycopy" 5 + 11 ≤ M.2.2.2.2.2.1) (hf : Fl M (p3 + 3) tN) : SI M pc tN tB tC (xs_cp a b n) := by
  intro X hx E σ o v E' σ' h k0 _ _ _
  obtain ⟨⟨x, σ1⟩, e1, h⟩ := bnd h
  obtain ⟨⟨y, σ2⟩, e2, h⟩ := bnd h
  obtain ⟨⟨z, σ3⟩, e3, h⟩ := bnd h
  obtain ⟨l1, e4, h⟩ := bnd h
  obtain ⟨l2, e5, h⟩ := bnd h
  dsimp only at h
  split at h
  · rename_i hin
    obtain ⟨rfl, rfl, rfl, rfl⟩ := bnd4 h
    refine ha X hx [] E σ x σ1 e1 (Nat.zero_le _) (fun o1 => ?_)
    refine WW_iconst hx hz ?_
    refine hb X hx (conc (xad X) (xsd X) 0 0 :: conc (xad X) (xsd X) 1 x :: []) E σ1 y σ2 e2 (stk0 (stk1 (Nat.zero_le _))) (fun o2 => ?_)
    refine WW_iconst hx hz2 ?_
    refine hn X hx (conc (xad X) (xsd X) 0 0 :: conc (xad X) (xsd X) 1 y :: conc (xad X) (xsd X) 0 0 :: conc (xad X) (xsd X) 1 x :: []) E σ2 z σ3 e3 (stk0 (stk1 (stk0 (stk1 (Nat.zero_le _))))) (fun o3 => ?_)
    exact WW_copy hx hl hw hd e4 e5 o3 hin hfr (by show 0 + _ ≤ _; omega) (hf X hx _ _ _ (k0 rfl))
  · cases h
