-- conditions
theorem CI.not {M : cvI} {d pc pT pF : Nat} {c : cvC} (h : CI M d pc pF pT c) : CI M d pc pT pF (xc_not c) := by
  intro X hx rest E σ r σ' he hs kt kf
  obtain ⟨⟨w, σ1⟩, e1, he⟩ := bnd he
  cases he
  exact h X hx rest E σ w σ1 e1 hs (fun z => kf (by rw [z]; rfl)) (fun z => kt (by rw [z]; rfl))
theorem CI.and {M : cvI} {d pc p1 pT pF : Nat} {c e : cvC} (hc : CI M d pc p1 pF c) (he : CI M d p1 pT pF e) : CI M d pc pT pF (xc_and c e) := by
  intro X hx rest E σ r σ' h hs kt kf
  obtain ⟨⟨w, σ1⟩, e1, h⟩ := bnd h
  dsimp only at h
  refine hc X hx rest E σ w σ1 e1 hs (fun z => ?_) (fun z => ?_)
  · rw [if_pos z] at h
    exact he X hx rest E σ1 r σ' h hs kt kf
  · rw [if_neg (by rw [z]; decide)] at h
    cases h
    exact kf rfl
theorem CI.or {M : cvI} {d pc p1 pT pF : Nat} {c e : cvC} (hc : CI M d pc pT p1 c) (he : CI M d p1 pT pF e) : CI M d pc pT pF (xc_or c e) := by
  intro X hx rest E σ r σ' h hs kt kf
  obtain ⟨⟨w, σ1⟩, e1, h⟩ := bnd h
  dsimp only at h
  refine hc X hx rest E σ w σ1 e1 hs (fun z => ?_) (fun z => ?_)
  · rw [if_pos z] at h
    cases h
    exact kt rfl
  · rw [if_neg (by rw [z]; decide)] at h
    exact he X hx rest E σ1 r σ' h hs kt kf
theorem CI.et {M : cvI} {d pc p1 tgt pT pF : Nat} {off : Int} {a : cvX} (ha : EI M d pc p1 0 a) (hd : decode M.1 p1 = .ok (.ifCond .ne off, 3)) (ht : (p1 : Int) + off = (tgt : Int)) (fT : Fl M tgt pT) (fF : Fl M (p1 + 3) pF) : CI M d pc pT pF (xc_e a) := by
  intro X hx rest E σ r σ' h hs kt kf
  obtain ⟨⟨w, σ1⟩, e1, h⟩ := bnd h
  cases h
  refine ha X hx rest E σ w σ1 e1 hs (fun o1 => WW_if_ne hx hd ht o1 (fun z => fT X hx _ _ _ (kt ?_)) (fun z => fF X hx _ _ _ (kf ?_)))
  · simpa [qne] using z
  · simpa [qne] using z
theorem CI.ef {M : cvI} {d pc p1 tgt pT pF : Nat} {off : Int} {a : cvX} (ha : EI M d pc p1 0 a) (hd : decode M.1 p1 = .ok (.ifCond .eq off, 3)) (ht : (p1 : Int) + off = (tgt : Int)) (fF : Fl M tgt pF) (fT : Fl M (p1 + 3) pT) : CI M d pc pT pF (xc_e a) := by
  intro X hx rest E σ r σ' h hs kt kf
  obtain ⟨⟨w, σ1⟩, e1, h⟩ := bnd h
  cases h
  refine ha X hx rest E σ w σ1 e1 hs (fun o1 => WW_if_eq hx hd ht o1 (fun z => fF X hx _ _ _ (kf ?_)) (fun z => fT X hx _ _ _ (kt ?_)))
  · simpa [qeq] using z
  · simpa [qeq] using z
theorem nq_lt (x y : Int) : qge x y = !qlt x y := by unfold qge qlt; by_cases h : x < y <;> simp [h] <;> omega
theorem nq_ge (x y : Int) : qlt x y = !qge x y := by unfold qlt qge; by_cases h : y ≤ x <;> simp [h] <;> omega
theorem nq_gt (x y : Int) : qle x y = !qgt x y := by unfold qle qgt; by_cases h : y < x <;> simp [h] <;> omega
theorem nq_le (x y : Int) : qgt x y = !qle x y := by unfold qgt qle; by_cases h : x ≤ y <;> simp [h] <;> omega
theorem nq_eq (x y : Int) : qne x y = !qeq x y := by unfold qne qeq; by_cases h : x = y <;> simp [h] <;> omega
theorem nq_ne (x y : Int) : qeq x y = !qne x y := by unfold qeq qne; by_cases h : x = y <;> simp [h] <;> omega
theorem CI.lt_t {M : cvI} {d pc p1 p2 tgt pT pF : Nat} {off : Int} {a b : cvX} (ha : EI M d pc p1 0 a) (hb : EI M (d + 1) p1 p2 0 b) (hd : decode M.1 p2 = .ok (.if_icmp .lt off, 3)) (ht : (p2 : Int) + off = (tgt : Int)) (fT : Fl M tgt pT) (fF : Fl M (p2 + 3) pF) : CI M d pc pT pF (xc_cmp qlt a b) := by
  intro X hx rest E σ r σ' h hs kt kf
  obtain ⟨⟨x, σ1⟩, e1, h⟩ := bnd h
  obtain ⟨⟨y, σ2⟩, e2, h⟩ := bnd h
  cases h
  refine ha X hx rest E σ x σ1 e1 hs (fun o1 => ?_)
  refine hb X hx _ E σ1 y σ2 e2 (stk0 hs) (fun o2 => ?_)
  exact WW_icmp_lt hx hd ht o1 o2 (fun z => fT X hx _ _ _ (kt z)) (fun z => fF X hx _ _ _ (kf z))
theorem CI.lt_f {M : cvI} {d pc p1 p2 tgt pT pF : Nat} {off : Int} {a b : cvX} (ha : EI M d pc p1 0 a) (hb : EI M (d + 1) p1 p2 0 b) (hd : decode M.1 p2 = .ok (.if_icmp .lt off, 3)) (ht : (p2 : Int) + off = (tgt : Int)) (fF : Fl M tgt pF) (fT : Fl M (p2 + 3) pT) : CI M d pc pT pF (xc_cmp qge a b) := by
  intro X hx rest E σ r σ' h hs kt kf
  obtain ⟨⟨x, σ1⟩, e1, h⟩ := bnd h
  obtain ⟨⟨y, σ2⟩, e2, h⟩ := bnd h
  cases h
  refine ha X hx rest E σ x σ1 e1 hs (fun o1 => ?_)
  refine hb X hx _ E σ1 y σ2 e2 (stk0 hs) (fun o2 => ?_)
  exact WW_icmp_lt hx hd ht o1 o2 (fun z => fF X hx _ _ _ (kf (by show qge _ _ = false; rw [nq_lt, z]; rfl))) (fun z => fT X hx _ _ _ (kt (by show qge _ _ = true; rw [nq_lt, z]; rfl)))
theorem CI.zlt_t {M : cvI} {d pc p1 tgt pT pF : Nat} {off : Int} {a : cvX} (ha : EI M d pc p1 0 a) (hd : decode M.1 p1 = .ok (.ifCond .lt off, 3)) (ht : (p1 : Int) + off = (tgt : Int)) (fT : Fl M tgt pT) (fF : Fl M (p1 + 3) pF) : CI M d pc pT pF (xc_cmp qlt a (xe_lit 0)) := by
  intro X hx rest E σ r σ' h hs kt kf
  obtain ⟨⟨x, σ1⟩, e1, h⟩ := bnd h
  obtain ⟨⟨y, σ2⟩, e2, h⟩ := bnd h
  cases h
  cases e2
  refine ha X hx rest E σ x σ1 e1 hs (fun o1 => ?_)
  exact WW_if_lt hx hd ht o1 (fun z => fT X hx _ _ _ (kt z)) (fun z => fF X hx _ _ _ (kf z))
theorem CI.zlt_f {M : cvI} {d pc p1 tgt pT pF : Nat} {off : Int} {a : cvX} (ha : EI M d pc p1 0 a) (hd : decode M.1 p1 = .ok (.ifCond .lt off, 3)) (ht : (p1 : Int) + off = (tgt : Int)) (fF : Fl M tgt pF) (fT : Fl M (p1 + 3) pT) : CI M d pc pT pF (xc_cmp qge a (xe_lit 0)) := by
  intro X hx rest E σ r σ' h hs kt kf
  obtain ⟨⟨x, σ1⟩, e1, h⟩ := bnd h
  obtain ⟨⟨y, σ2⟩, e2, h⟩ := bnd h
  cases h
  cases e2
  refine ha X hx rest E σ x σ1 e1 hs (fun o1 => ?_)
  exact WW_if_lt hx hd ht o1 (fun z => fF X hx _ _ _ (kf (by show qge _ _ = false; rw [nq_lt, z]; rfl))) (fun z => fT X hx _ _ _ (kt (by show qge _ _ = true; rw [nq_lt, z]; rfl)))
theorem CI.ge_t {M : cvI} {d pc p1 p2 tgt pT pF : Nat} {off : Int} {a b : cvX} (ha : EI M d pc p1 0 a) (hb : EI M (d + 1) p1 p2 0 b) (hd : decode M.1 p2 = .ok (.if_icmp .ge off, 3)) (ht : (p2 : Int) + off = (tgt : Int)) (fT : Fl M tgt pT) (fF : Fl M (p2 + 3) pF) : CI M d pc pT pF (xc_cmp qge a b) := by
  intro X hx rest E σ r σ' h hs kt kf
  obtain ⟨⟨x, σ1⟩, e1, h⟩ := bnd h
  obtain ⟨⟨y, σ2⟩, e2, h⟩ := bnd h
  cases h
  refine ha X hx rest E σ x σ1 e1 hs (fun o1 => ?_)
  refine hb X hx _ E σ1 y σ2 e2 (stk0 hs) (fun o2 => ?_)
  exact WW_icmp_ge hx hd ht o1 o2 (fun z => fT X hx _ _ _ (kt z)) (fun z => fF X hx _ _ _ (kf z))
theorem CI.ge_f {M : cvI} {d pc p1 p2 tgt pT pF : Nat} {off : Int} {a b : cvX} (ha : EI M d pc p1 0 a) (hb : EI M (d + 1) p1 p2 0 b) (hd : decode M.1 p2 = .ok (.if_icmp .ge off, 3)) (ht : (p2 : Int) + off = (tgt : Int)) (fF : Fl M tgt pF) (fT : Fl M (p2 + 3) pT) : CI M d pc pT pF (xc_cmp qlt a b) := by
  intro X hx rest E σ r σ' h hs kt kf
  obtain ⟨⟨x, σ1⟩, e1, h⟩ := bnd h
  obtain ⟨⟨y, σ2⟩, e2, h⟩ := bnd h
  cases h
  refine ha X hx rest E σ x σ1 e1 hs (fun o1 => ?_)
  refine hb X hx _ E σ1 y σ2 e2 (stk0 hs) (fun o2 => ?_)
  exact WW_icmp_ge hx hd ht o1 o2 (fun z => fF X hx _ _ _ (kf (by show qlt _ _ = false; rw [nq_ge, z]; rfl))) (fun z => fT X hx _ _ _ (kt (by show qlt _ _ = true; rw [nq_ge, z]; rfl)))
theorem CI.zge_t {M : cvI} {d pc p1 tgt pT pF : Nat} {off : Int} {a : cvX} (ha : EI M d pc p1 0 a) (hd : decode M.1 p1 = .ok (.ifCond .ge off, 3)) (ht : (p1 : Int) + off = (tgt : Int)) (fT : Fl M tgt pT) (fF : Fl M (p1 + 3) pF) : CI M d pc pT pF (xc_cmp qge a (xe_lit 0)) := by
  intro X hx rest E σ r σ' h hs kt kf
  obtain ⟨⟨x, σ1⟩, e1, h⟩ := bnd h
  obtain ⟨⟨y, σ2⟩, e2, h⟩ := bnd h
  cases h
  cases e2
  refine ha X hx rest E σ x σ1 e1 hs (fun o1 => ?_)
  exact WW_if_ge hx hd ht o1 (fun z => fT X hx _ _ _ (kt z)) (fun z => fF X hx _ _ _ (kf z))
theorem CI.zge_f {M : cvI} {d pc p1 tgt pT pF : Nat} {off : Int} {a : cvX} (ha : EI M d pc p1 0 a) (hd : decode M.1 p1 = .ok (.ifCond .ge off, 3)) (ht : (p1 : Int) + off = (tgt : Int)) (fF : Fl M tgt pF) (fT : Fl M (p1 + 3) pT) : CI M d pc pT pF (xc_cmp qlt a (xe_lit 0)) := by
  intro X hx rest E σ r σ' h hs kt kf
  obtain ⟨⟨x, σ1⟩, e1, h⟩ := bnd h
  obtain ⟨⟨y, σ2⟩, e2, h⟩ := bnd h
  cases h
  cases e2
  refine ha X hx rest E σ x σ1 e1 hs (fun o1 => ?_)
  exact WW_if_ge hx hd ht o1 (fun z => fF X hx _ _ _ (kf (by show qlt _ _ = false; rw [nq_ge, z]; rfl))) (fun z => fT X hx _ _ _ (kt (by show qlt _ _ = true; rw [nq_ge, z]; rfl)))
theorem CI.gt_t {M : cvI} {d pc p1 p2 tgt pT pF : Nat} {off : Int} {a b : cvX} (ha : EI M d pc p1 0 a) (hb : EI M (d + 1) p1 p2 0 b) (hd : decode M.1 p2 = .ok (.if_icmp .gt off, 3)) (ht : (p2 : Int) + off = (tgt : Int)) (fT : Fl M tgt pT) (fF : Fl M (p2 + 3) pF) : CI M d pc pT pF (xc_cmp qgt a b) := by
  intro X hx rest E σ r σ' h hs kt kf
  obtain ⟨⟨x, σ1⟩, e1, h⟩ := bnd h
  obtain ⟨⟨y, σ2⟩, e2, h⟩ := bnd h
  cases h
  refine ha X hx rest E σ x σ1 e1 hs (fun o1 => ?_)
  refine hb X hx _ E σ1 y σ2 e2 (stk0 hs) (fun o2 => ?_)
  exact WW_icmp_gt hx hd ht o1 o2 (fun z => fT X hx _ _ _ (kt z)) (fun z => fF X hx _ _ _ (kf z))
theorem CI.gt_f {M : cvI} {d pc p1 p2 tgt pT pF : Nat} {off : Int} {a b : cvX} (ha : EI M d pc p1 0 a) (hb : EI M (d + 1) p1 p2 0 b) (hd : decode M.1 p2 = .ok (.if_icmp .gt off, 3)) (ht : (p2 : Int) + off = (tgt : Int)) (fF : Fl M tgt pF) (fT : Fl M (p2 + 3) pT) : CI M d pc pT pF (xc_cmp qle a b) := by
  intro X hx rest E σ r σ' h hs kt kf
  obtain ⟨⟨x, σ1⟩, e1, h⟩ := bnd h
  obtain ⟨⟨y, σ2⟩, e2, h⟩ := bnd h
  cases h
  refine ha X hx rest E σ x σ1 e1 hs (fun o1 => ?_)
  refine hb X hx _ E σ1 y σ2 e2 (stk0 hs) (fun o2 => ?_)
  exact WW_icmp_gt hx hd ht o1 o2 (fun z => fF X hx _ _ _ (kf (by show qle _ _ = false; rw [nq_gt, z]; rfl))) (fun z => fT X hx _ _ _ (kt (by show qle _ _ = true; rw [nq_gt, z]; rfl)))
theorem CI.zgt_t {M : cvI} {d pc p1 tgt pT pF : Nat} {off : Int} {a : cvX} (ha : EI M d pc p1 0 a) (hd : decode M.1 p1 = .ok (.ifCond .gt off, 3)) (ht : (p1 : Int) + off = (tgt : Int)) (fT : Fl M tgt pT) (fF : Fl M (p1 + 3) pF) : CI M d pc pT pF (xc_cmp qgt a (xe_lit 0)) := by
  intro X hx rest E σ r σ' h hs kt kf
  obtain ⟨⟨x, σ1⟩, e1, h⟩ := bnd h
  obtain ⟨⟨y, σ2⟩, e2, h⟩ := bnd h
  cases h
  cases e2
  refine ha X hx rest E σ x σ1 e1 hs (fun o1 => ?_)
  exact WW_if_gt hx hd ht o1 (fun z => fT X hx _ _ _ (kt z)) (fun z => fF X hx _ _ _ (kf z))
theorem CI.zgt_f {M : cvI} {d pc p1 tgt pT pF : Nat} {off : Int} {a : cvX} (ha : EI M d pc p1 0 a) (hd : decode M.1 p1 = .ok (.ifCond .gt off, 3)) (ht : (p1 : Int) + off = (tgt : Int)) (fF : Fl M tgt pF) (fT : Fl M (p1 + 3) pT) : CI M d pc pT pF (xc_cmp qle a (xe_lit 0)) := by
  intro X hx rest E σ r σ' h hs kt kf
  obtain ⟨⟨x, σ1⟩, e1, h⟩ := bnd h
  obtain ⟨⟨y, σ2⟩, e2, h⟩ := bnd h
  cases h
  cases e2
  refine ha X hx rest E σ x σ1 e1 hs (fun o1 => ?_)
  exact WW_if_gt hx hd ht o1 (fun z => fF X hx _ _ _ (kf (by show qle _ _ = false; rw [nq_gt, z]; rfl))) (fun z => fT X hx _ _ _ (kt (by show qle _ _ = true; rw [nq_gt, z]; rfl)))
theorem CI.le_t {M : cvI} {d pc p1 p2 tgt pT pF : Nat} {off : Int} {a b : cvX} (ha : EI M d pc p1 0 a) (hb : EI M (d + 1) p1 p2 0 b) (hd : decode M.1 p2 = .ok (.if_icmp .le off, 3)) (ht : (p2 : Int) + off = (tgt : Int)) (fT : Fl M tgt pT) (fF : Fl M (p2 + 3) pF) : CI M d pc pT pF (xc_cmp qle a b) := by
  intro X hx rest E σ r σ' h hs kt kf
  obtain ⟨⟨x, σ1⟩, e1, h⟩ := bnd h
  obtain ⟨⟨y, σ2⟩, e2, h⟩ := bnd h
  cases h
  refine ha X hx rest E σ x σ1 e1 hs (fun o1 => ?_)
  refine hb X hx _ E σ1 y σ2 e2 (stk0 hs) (fun o2 => ?_)
  exact WW_icmp_le hx hd ht o1 o2 (fun z => fT X hx _ _ _ (kt z)) (fun z => fF X hx _ _ _ (kf z))
theorem CI.le_f {M : cvI} {d pc p1 p2 tgt pT pF : Nat} {off : Int} {a b : cvX} (ha : EI M d pc p1 0 a) (hb : EI M (d + 1) p1 p2 0 b) (hd : decode M.1 p2 = .ok (.if_icmp .le off, 3)) (ht : (p2 : Int) + off = (tgt : Int)) (fF : Fl M tgt pF) (fT : Fl M (p2 + 3) pT) : CI M d pc pT pF (xc_cmp qgt a b) := by
  intro X hx rest E σ r σ' h hs kt kf
  obtain ⟨⟨x, σ1⟩, e1, h⟩ := bnd h
  obtain ⟨⟨y, σ2⟩, e2, h⟩ := bnd h
  cases h
  refine ha X hx rest E σ x σ1 e1 hs (fun o1 => ?_)
  refine hb X hx _ E σ1 y σ2 e2 (stk0 hs) (fun o2 => ?_)
  exact WW_icmp_le hx hd ht o1 o2 (fun z => fF X hx _ _ _ (kf (by show qgt _ _ = false; rw [nq_le, z]; rfl))) (fun z => fT X hx _ _ _ (kt (by show qgt _ _ = true; rw [nq_le, z]; rfl)))
theorem CI.zle_t {M : cvI} {d pc p1 tgt pT pF : Nat} {off : Int} {a : cvX} (ha : EI M d pc p1 0 a) (hd : decode M.1 p1 = .ok (.ifCond .le off, 3)) (ht : (p1 : Int) + off = (tgt : Int)) (fT : Fl M tgt pT) (fF : Fl M (p1 + 3) pF) : CI M d pc pT pF (xc_cmp qle a (xe_lit 0)) := by
  intro X hx rest E σ r σ' h hs kt kf
  obtain ⟨⟨x, σ1⟩, e1, h⟩ := bnd h
  obtain ⟨⟨y, σ2⟩, e2, h⟩ := bnd h
  cases h
  cases e2
  refine ha X hx rest E σ x σ1 e1 hs (fun o1 => ?_)
  exact WW_if_le hx hd ht o1 (fun z => fT X hx _ _ _ (kt z)) (fun z => fF X hx _ _ _ (kf z))
theorem CI.zle_f {M : cvI} {d pc p1 tgt pT pF : Nat} {off : Int} {a : cvX} (ha : EI M d pc p1 0 a) (hd : decode M.1 p1 = .ok (.ifCond .le off, 3)) (ht : (p1 : Int) + off = (tgt : Int)) (fF : Fl M tgt pF) (fT : Fl M (p1 + 3) pT) : CI M d pc pT pF (xc_cmp qgt a (xe_lit 0)) := by
  intro X hx rest E σ r σ' h hs kt kf
  obtain ⟨⟨x, σ1⟩, e1, h⟩ := bnd h
  obtain ⟨⟨y, σ2⟩, e2, h⟩ := bnd h
  cases h
  cases e2
  refine ha X hx rest E σ x σ1 e1 hs (fun o1 => ?_)
  exact WW_if_le hx hd ht o1 (fun z => fF X hx _ _ _ (kf (by show qgt _ _ = false; rw [nq_le, z]; rfl))) (fun z => fT X hx _ _ _ (kt (by show qgt _ _ = true; rw [nq_le, z]; rfl)))
theorem CI.eq_t {M : cvI} {d pc p1 p2 tgt pT pF : Nat} {off : Int} {a b : cvX} (ha : EI M d pc p1 0 a) (hb : EI M (d + 1) p1 p2 0 b) (hd : decode M.1 p2 = .ok (.if_icmp .eq off, 3)) (ht : (p2 : Int) + off = (tgt : Int)) (fT : Fl M tgt pT) (fF : Fl M (p2 + 3) pF) : CI M d pc pT pF (xc_cmp qeq a b) := by
  intro X hx rest E σ r σ' h hs kt kf
  obtain ⟨⟨x, σ1⟩, e1, h⟩ := bnd h
  obtain ⟨⟨y, σ2⟩, e2, h⟩ := bnd h
  cases h
  refine ha X hx rest E σ x σ1 e1 hs (fun o1 => ?_)
  refine hb X hx _ E σ1 y σ2 e2 (stk0 hs) (fun o2 => ?_)
  exact WW_icmp_eq hx hd ht o1 o2 (fun z => fT X hx _ _ _ (kt z)) (fun z => fF X hx _ _ _ (kf z))
theorem CI.eq_f {M : cvI} {d pc p1 p2 tgt pT pF : Nat} {off : Int} {a b : cvX} (ha : EI M d pc p1 0 a) (hb : EI M (d + 1) p1 p2 0 b) (hd : decode M.1 p2 = .ok (.if_icmp .eq off, 3)) (ht : (p2 : Int) + off = (tgt : Int)) (fF : Fl M tgt pF) (fT : Fl M (p2 + 3) pT) : CI M d pc pT pF (xc_cmp qne a b) := by
  intro X hx rest E σ r σ' h hs kt kf
  obtain ⟨⟨x, σ1⟩, e1, h⟩ := bnd h
  obtain ⟨⟨y, σ2⟩, e2, h⟩ := bnd h
  cases h
  refine ha X hx rest E σ x σ1 e1 hs (fun o1 => ?_)
  refine hb X hx _ E σ1 y σ2 e2 (stk0 hs) (fun o2 => ?_)
  exact WW_icmp_eq hx hd ht o1 o2 (fun z => fF X hx _ _ _ (kf (by show qne _ _ = false; rw [nq_eq, z]; rfl))) (fun z => fT X hx _ _ _ (kt (by show qne _ _ = true; rw [nq_eq, z]; rfl)))
theorem CI.zeq_t {M : cvI} {d pc p1 tgt pT pF : Nat} {off : Int} {a : cvX} (ha : EI M d pc p1 0 a) (hd : decode M.1 p1 = .ok (.ifCond .eq off, 3)) (ht : (p1 : Int) + off = (tgt : Int)) (fT : Fl M tgt pT) (fF : Fl M (p1 + 3) pF) : CI M d pc pT pF (xc_cmp qeq a (xe_lit 0)) := by
  intro X hx rest E σ r σ' h hs kt kf
  obtain ⟨⟨x, σ1⟩, e1, h⟩ := bnd h
  obtain ⟨⟨y, σ2⟩, e2, h⟩ := bnd h
  cases h
  cases e2
  refine ha X hx rest E σ x σ1 e1 hs (fun o1 => ?_)
  exact WW_if_eq hx hd ht o1 (fun z => fT X hx _ _ _ (kt z)) (fun z => fF X hx _ _ _ (kf z))
theorem CI.zeq_f {M : cvI} {d pc p1 tgt pT pF : Nat} {off : Int} {a : cvX} (ha : EI M d pc p1 0 a) (hd : decode M.1 p1 = .ok (.ifCond .eq off, 3)) (ht : (p1 : Int) + off = (tgt : Int)) (fF : Fl M tgt pF) (fT : Fl M (p1 + 3) pT) : CI M d pc pT pF (xc_cmp qne a (xe_lit 0)) := by
  intro X hx rest E σ r σ' h hs kt kf
  obtain ⟨⟨x, σ1⟩, e1, h⟩ := bnd h
  obtain ⟨⟨y, σ2⟩, e2, h⟩ := bnd h
  cases h
  cases e2
  refine ha X hx rest E σ x σ1 e1 hs (fun o1 => ?_)
  exact WW_if_eq hx hd ht o1 (fun z => fF X hx _ _ _ (kf (by show qne _ _ = false; rw [nq_eq, z]; rfl))) (fun z => fT X hx _ _ _ (kt (by show qne _ _ = true; rw [nq_eq, z]; rfl)))
theorem CI.ne_t {M : cvI} {d pc p1 p2 tgt pT pF : Nat} {off : Int} {a b : cvX} (ha : EI M d pc p1 0 a) (hb : EI M (d + 1) p1 p2 0 b) (hd : decode M.1 p2 = .ok (.if_icmp .ne off, 3)) (ht : (p2 : Int) + off = (tgt : Int)) (fT : Fl M tgt pT) (fF : Fl M (p2 + 3) pF) : CI M d pc pT pF (xc_cmp qne a b) := by
  intro X hx rest E σ r σ' h hs kt kf
  obtain ⟨⟨x, σ1⟩, e1, h⟩ := bnd h
  obtain ⟨⟨y, σ2⟩, e2, h⟩ := bnd h
  cases h
  refine ha X hx rest E σ x σ1 e1 hs (fun o1 => ?_)
  refine hb X hx _ E σ1 y σ2 e2 (stk0 hs) (fun o2 => ?_)
  exact WW_icmp_ne hx hd ht o1 o2 (fun z => fT X hx _ _ _ (kt z)) (fun z => fF X hx _ _ _ (kf z))
theorem CI.ne_f {M : cvI} {d pc p1 p2 tgt pT pF : Nat} {off : Int} {a b : cvX} (ha : EI M d pc p1 0 a) (hb : EI M (d + 1) p1 p2 0 b) (hd : decode M.1 p2 = .ok (.if_icmp .ne off, 3)) (ht : (p2 : Int) + off = (tgt : Int)) (fF : Fl M tgt pF) (fT : Fl M (p2 + 3) pT) : CI M d pc pT pF (xc_cmp qeq a b) := by
  intro X hx rest E σ r σ' h hs kt kf
  obtain ⟨⟨x, σ1⟩, e1, h⟩ := bnd h
  obtain ⟨⟨y, σ2⟩, e2, h⟩ := bnd h
  cases h
  refine ha X hx rest E σ x σ1 e1 hs (fun o1 => ?_)
  refine hb X hx _ E σ1 y σ2 e2 (stk0 hs) (fun o2 => ?_)
  exact WW_icmp_ne hx hd ht o1 o2 (fun z => fF X hx _ _ _ (kf (by show qeq _ _ = false; rw [nq_ne, z]; rfl))) (fun z => fT X hx _ _ _ (kt (by show qeq _ _ = true; rw [nq_ne, z]; rfl)))
theorem CI.zne_t {M : cvI} {d pc p1 tgt pT pF : Nat} {off : Int} {a : cvX} (ha : EI M d pc p1 0 a) (hd : decode M.1 p1 = .ok (.ifCond .ne off, 3)) (ht : (p1 : Int) + off = (tgt : Int)) (fT : Fl M tgt pT) (fF : Fl M (p1 + 3) pF) : CI M d pc pT pF (xc_cmp qne a (xe_lit 0)) := by
  intro X hx rest E σ r σ' h hs kt kf
  obtain ⟨⟨x, σ1⟩, e1, h⟩ := bnd h
  obtain ⟨⟨y, σ2⟩, e2, h⟩ := bnd h
  cases h
  cases e2
  refine ha X hx rest E σ x σ1 e1 hs (fun o1 => ?_)
  exact WW_if_ne hx hd ht o1 (fun z => fT X hx _ _ _ (kt z)) (fun z => fF X hx _ _ _ (kf z))
theorem CI.zne_f {M : cvI} {d pc p1 tgt pT pF : Nat} {off : Int} {a : cvX} (ha : EI M d pc p1 0 a) (hd : decode M.1 p1 = .ok (.ifCond .ne off, 3)) (ht : (p1 : Int) + off = (tgt : Int)) (fF : Fl M tgt pF) (fT : Fl M (p1 + 3) pT) : CI M d pc pT pF (xc_cmp qeq a (xe_lit 0)) := by
  intro X hx rest E σ r σ' h hs kt kf
  obtain ⟨⟨x, σ1⟩, e1, h⟩ := bnd h
  obtain ⟨⟨y, σ2⟩, e2, h⟩ := bnd h
  cases h
  cases e2
  refine ha X hx rest E σ x σ1 e1 hs (fun o1 => ?_)
  exact WW_if_ne hx hd ht o1 (fun z => fF X hx _ _ _ (kf (by show qeq _ _ = false; rw [nq_ne, z]; rfl))) (fun z => fT X hx _ _ _ (kt (by show qeq _ _ = true; rw [nq_ne, z]; rfl)))
