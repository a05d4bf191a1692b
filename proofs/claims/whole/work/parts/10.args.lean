-- arguments
theorem AI.nil {M : cvI} {d pc : Nat} : AI M d pc pc [] [] := by
  intro X hx rest E σ vs σ' he _ kk
  cases he
  exact kk trivial
theorem AI.cons {M : cvI} {d pc p1 p2 κ : Nat} {ks : List Nat} {a : cvX} {as : List cvX} (ha : EI M d pc p1 κ a) (hb : AI M (d + kcat κ) p1 p2 ks as) : AI M d pc p2 (κ :: ks) (a :: as) := by
  intro X hx rest E σ vs σ' he hs kk
  obtain ⟨⟨x, σ1⟩, e1, he⟩ := bnd he
  obtain ⟨⟨ys, σ2⟩, e2, he⟩ := bnd he
  cases he
  refine ha X hx rest E σ x σ1 e1 hs (fun o1 => ?_)
  refine hb X hx _ E σ1 ys σ2 e2 (by rw [stk_c]; omega) (fun o2 => ?_)
  have := kk ⟨o1, o2⟩
  rw [concs, List.reverse_cons, List.append_assoc] at this
  exact this
theorem EI.caS {M : cvI} {d pc p1 : Nat} {y : MethodName} {b : ByteArray} {nL : Nat} {ret : Option FieldType} {ks : List Nat} {rk fr lo index : Nat} {f : cvF} {as : List cvX} (hM : CM y b nL ret ks rk fr lo f) (ha : AI M d pc p1 ks as) (hst : d ≤ 8) (hd : decode M.1 p1 = .ok (.invokestatic index, 3)) (hw : wB y b nL ret) (hl : Cond.methodLink M.2.2.1 index y ∈ BIG) (hs : Cond.static y ∈ BIG) (hy : dsc y ks.length) (hr : ccR M nL fr lo = true) (hrk : rk ≠ 9) : EI M d pc (p1 + 3) rk (xe_ca f as) := by
  intro X hx rest E σ v σ' he hst2 kk
  obtain ⟨⟨vs, σ1⟩, e1, he⟩ := bnd he
  refine ha X hx _ E σ vs σ1 e1 hst2 (fun o1 => ?_)
  refine WW_callS hx hM he o1 (Nat.le_trans hst2 hst) hd hw hl hs hy hr (fun o2 => ?_)
  have k2 := kk (o2.elim (fun z => absurd z hrk) id); unfold rvs; rw [if_neg hrk]; exact k2
theorem SI.caS {M : cvI} {d pc p1 : Nat} {y : MethodName} {b : ByteArray} {nL : Nat} {ret : Option FieldType} {ks : List Nat} {rk fr lo index : Nat} {f : cvF} {as : List cvX} (hM : CM y b nL ret ks rk fr lo f) (ha : AI M d pc p1 ks as) (hst : d ≤ 8) (hd : decode M.1 p1 = .ok (.invokestatic index, 3)) (hw : wB y b nL ret) (hl : Cond.methodLink M.2.2.1 index y ∈ BIG) (hs : Cond.static y ∈ BIG) (hy : dsc y ks.length) (hr : ccR M nL fr lo = true) {tN tB tC : Nat} (hrk : rk = 9) (hf : Fl M (p1 + 3) tN) (hz : d = 0) : SI M pc tN tB tC (xs_exp (xe_ca f as)) := by
  intro X hx E σ o v E' σ' hes k0 _ _ _
  obtain ⟨⟨w, σ9⟩, he, hes⟩ := bnd hes
  cases hes
  obtain ⟨⟨vs, σ1⟩, e1, he⟩ := bnd he
  refine ha X hx _ E σ vs σ1 e1 (Nat.zero_le _) (fun o1 => ?_)
  refine WW_callS hx hM he o1 (Nat.zero_le _) hd hw hl hs hy hr (fun o2 => ?_)
  unfold rvs; rw [if_pos hrk]; exact hf X hx _ _ _ (k0 rfl)
theorem EI.caSN {M : cvI} {d pc p1 : Nat} {y : MethodName} {b : ByteArray} {nL : Nat} {ret : Option FieldType} {ks : List Nat} {rk fr lo index : Nat} {f : cvF} {as : List cvX} (hM : CM y b nL ret ks rk fr lo f) (ha : AI M d pc p1 ks as) (hst : d ≤ 8) (hd : decode M.1 p1 = .ok (.invokestatic index, 3)) (hw : wB y b nL ret) {host : String} (hl : (M.2.2.1, index, y, host) ∈ NSM) (hs : Cond.static y ∈ BIG) (hy : dsc y ks.length) (hr : ccR M nL fr lo = true) (hrk : rk ≠ 9) : EI M d pc (p1 + 3) rk (xe_ca f as) := by
  intro X hx rest E σ v σ' he hst2 kk
  obtain ⟨⟨vs, σ1⟩, e1, he⟩ := bnd he
  refine ha X hx _ E σ vs σ1 e1 hst2 (fun o1 => ?_)
  refine WW_callSN hx hM he o1 (Nat.le_trans hst2 hst) hd hw hl hs hy hr (fun o2 => ?_)
  have k2 := kk (o2.elim (fun z => absurd z hrk) id); unfold rvs; rw [if_neg hrk]; exact k2
theorem SI.caSN {M : cvI} {d pc p1 : Nat} {y : MethodName} {b : ByteArray} {nL : Nat} {ret : Option FieldType} {ks : List Nat} {rk fr lo index : Nat} {f : cvF} {as : List cvX} (hM : CM y b nL ret ks rk fr lo f) (ha : AI M d pc p1 ks as) (hst : d ≤ 8) (hd : decode M.1 p1 = .ok (.invokestatic index, 3)) (hw : wB y b nL ret) {host : String} (hl : (M.2.2.1, index, y, host) ∈ NSM) (hs : Cond.static y ∈ BIG) (hy : dsc y ks.length) (hr : ccR M nL fr lo = true) {tN tB tC : Nat} (hrk : rk = 9) (hf : Fl M (p1 + 3) tN) (hz : d = 0) : SI M pc tN tB tC (xs_exp (xe_ca f as)) := by
  intro X hx E σ o v E' σ' hes k0 _ _ _
  obtain ⟨⟨w, σ9⟩, he, hes⟩ := bnd hes
  cases hes
  obtain ⟨⟨vs, σ1⟩, e1, he⟩ := bnd he
  refine ha X hx _ E σ vs σ1 e1 (Nat.zero_le _) (fun o1 => ?_)
  refine WW_callSN hx hM he o1 (Nat.zero_le _) hd hw hl hs hy hr (fun o2 => ?_)
  unfold rvs; rw [if_pos hrk]; exact hf X hx _ _ _ (k0 rfl)
theorem EI.caV {M : cvI} {d pc p1 : Nat} {y : MethodName} {b : ByteArray} {nL : Nat} {ret : Option FieldType} {ks : List Nat} {rk fr lo index : Nat} {f : cvF} {as : List cvX} {ci N : Nat} {C : String} {T : u_T} {ty : Nat → FieldType} (hc : CK ci C T N ty) (hcy : y.cls = C) (hM : CM y b nL ret (1 :: ks) rk fr lo f) (ha : AI M d pc p1 (1 :: ks) as) (hst : d ≤ 8) (hd : decode M.1 p1 = .ok (.invokevirtual index, 3)) (hw : wB y b nL ret) (hl : Cond.methodLink M.2.2.1 index y ∈ BIG) (hs : wI y) (hy : dsc y ks.length) (hr : ccR M nL fr lo = true) (hrk : rk ≠ 9) : EI M d pc (p1 + 3) rk (xe_cv ci f as) := by
  intro X hx rest E σ v σ' he hst2 kk
  obtain ⟨⟨vs, σ1⟩, e1, he⟩ := bnd he
  dsimp only at he
  split at he
  · rename_i hi
    refine ha X hx _ E σ vs σ1 e1 hst2 (fun o1 => ?_)
    cases vs with
    | nil => exact o1.elim
    | cons o vs =>
      refine WW_callV hx hM he o1.2 hc hcy hi (Nat.le_trans hst2 hst) hd hw hl hs hy hr (fun o2 => ?_)
      have k2 := kk (o2.elim (fun z => absurd z hrk) id); unfold rvs; rw [if_neg hrk]; exact k2
  · cases he
theorem SI.caV {M : cvI} {d pc p1 : Nat} {y : MethodName} {b : ByteArray} {nL : Nat} {ret : Option FieldType} {ks : List Nat} {rk fr lo index : Nat} {f : cvF} {as : List cvX} {ci N : Nat} {C : String} {T : u_T} {ty : Nat → FieldType} (hc : CK ci C T N ty) (hcy : y.cls = C) (hM : CM y b nL ret (1 :: ks) rk fr lo f) (ha : AI M d pc p1 (1 :: ks) as) (hst : d ≤ 8) (hd : decode M.1 p1 = .ok (.invokevirtual index, 3)) (hw : wB y b nL ret) (hl : Cond.methodLink M.2.2.1 index y ∈ BIG) (hs : wI y) (hy : dsc y ks.length) (hr : ccR M nL fr lo = true) {tN tB tC : Nat} (hrk : rk = 9) (hf : Fl M (p1 + 3) tN) (hz : d = 0) : SI M pc tN tB tC (xs_exp (xe_cv ci f as)) := by
  intro X hx E σ o v E' σ' hes k0 _ _ _
  obtain ⟨⟨w, σ9⟩, he, hes⟩ := bnd hes
  cases hes
  obtain ⟨⟨vs, σ1⟩, e1, he⟩ := bnd he
  dsimp only at he
  split at he
  · rename_i hi
    refine ha X hx _ E σ vs σ1 e1 (Nat.zero_le _) (fun o1 => ?_)
    cases vs with
    | nil => exact o1.elim
    | cons o vs =>
      refine WW_callV hx hM he o1.2 hc hcy hi (Nat.zero_le _) hd hw hl hs hy hr (fun o2 => ?_)
      unfold rvs; rw [if_pos hrk]; exact hf X hx _ _ _ (k0 rfl)
  · cases he
theorem EI.caVN {M : cvI} {d pc p1 : Nat} {y : MethodName} {b : ByteArray} {nL : Nat} {ret : Option FieldType} {ks : List Nat} {rk fr lo index : Nat} {f : cvF} {as : List cvX} {ci N : Nat} {C : String} {T : u_T} {ty : Nat → FieldType} (hc : CK ci C T N ty) (hcy : y.cls = C) (hM : CM y b nL ret (1 :: ks) rk fr lo f) (ha : AI M d pc p1 (1 :: ks) as) (hst : d ≤ 8) (hd : decode M.1 p1 = .ok (.invokevirtual index, 3)) (hw : wB y b nL ret) {host : String} (hl : (M.2.2.1, index, y, host) ∈ NSM) (hs : wI y) (hy : dsc y ks.length) (hr : ccR M nL fr lo = true) (hrk : rk ≠ 9) : EI M d pc (p1 + 3) rk (xe_cv ci f as) := by
  intro X hx rest E σ v σ' he hst2 kk
  obtain ⟨⟨vs, σ1⟩, e1, he⟩ := bnd he
  dsimp only at he
  split at he
  · rename_i hi
    refine ha X hx _ E σ vs σ1 e1 hst2 (fun o1 => ?_)
    cases vs with
    | nil => exact o1.elim
    | cons o vs =>
      refine WW_callVN hx hM he o1.2 hc hcy hi (Nat.le_trans hst2 hst) hd hw hl hs hy hr (fun o2 => ?_)
      have k2 := kk (o2.elim (fun z => absurd z hrk) id); unfold rvs; rw [if_neg hrk]; exact k2
  · cases he
theorem SI.caVN {M : cvI} {d pc p1 : Nat} {y : MethodName} {b : ByteArray} {nL : Nat} {ret : Option FieldType} {ks : List Nat} {rk fr lo index : Nat} {f : cvF} {as : List cvX} {ci N : Nat} {C : String} {T : u_T} {ty : Nat → FieldType} (hc : CK ci C T N ty) (hcy : y.cls = C) (hM : CM y b nL ret (1 :: ks) rk fr lo f) (ha : AI M d pc p1 (1 :: ks) as) (hst : d ≤ 8) (hd : decode M.1 p1 = .ok (.invokevirtual index, 3)) (hw : wB y b nL ret) {host : String} (hl : (M.2.2.1, index, y, host) ∈ NSM) (hs : wI y) (hy : dsc y ks.length) (hr : ccR M nL fr lo = true) {tN tB tC : Nat} (hrk : rk = 9) (hf : Fl M (p1 + 3) tN) (hz : d = 0) : SI M pc tN tB tC (xs_exp (xe_cv ci f as)) := by
  intro X hx E σ o v E' σ' hes k0 _ _ _
  obtain ⟨⟨w, σ9⟩, he, hes⟩ := bnd hes
  cases hes
  obtain ⟨⟨vs, σ1⟩, e1, he⟩ := bnd he
  dsimp only at he
  split at he
  · rename_i hi
    refine ha X hx _ E σ vs σ1 e1 (Nat.zero_le _) (fun o1 => ?_)
    cases vs with
    | nil => exact o1.elim
    | cons o vs =>
      refine WW_callVN hx hM he o1.2 hc hcy hi (Nat.zero_le _) hd hw hl hs hy hr (fun o2 => ?_)
      unfold rvs; rw [if_pos hrk]; exact hf X hx _ _ _ (k0 rfl)
  · cases he
theorem EI.cond {M : cvI} {d pc pa pb p1 p2 pe κ : Nat} {c : cvC} {a b : cvX} (hc : CI M d pc pa pb c) (ha : EI M d pa p1 κ a) (hf : Fl M p1 pe) (hb : EI M d pb p2 κ b) (hf2 : Fl M p2 pe) : EI M d pc pe κ (xe_if c a b) := by
  intro X hx rest E σ v σ' he hs kk
  obtain ⟨⟨r, σ1⟩, e1, he⟩ := bnd he
  dsimp only at he
  refine hc X hx rest E σ r σ1 e1 hs (fun h => ?_) (fun h => ?_)
  · rw [if_pos h] at he
    exact ha X hx rest E σ1 v σ' he hs (fun o1 => hf X hx _ _ _ (kk o1))
  · rw [if_neg (by rw [h]; decide)] at he
    exact hb X hx rest E σ1 v σ' he hs (fun o1 => hf2 X hx _ _ _ (kk o1))
