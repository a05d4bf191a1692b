/-! ===== STATEMENTS ===== -/
theorem bnd4 {α β γ δ : Type} {a a' : α} {b b' : β} {c c' : γ} {d d' : δ} (h : some (a, b, c, d) = some (a', b', c', d')) : a = a' ∧ b = b' ∧ c = c' ∧ d = d' := by
  have h := Option.some.inj h
  have h1 := Prod.mk.inj h
  have h2 := Prod.mk.inj h1.2
  have h3 := Prod.mk.inj h2.2
  exact ⟨h1.1, h2.1, h3.1, h3.2⟩
theorem SI.skip {M : cvI} {pc tN tB tC : Nat} (hf : Fl M pc tN) : SI M pc tN tB tC xs_skip := by
  intro X hx E σ o v E' σ' h k0 _ _ _
  obtain ⟨rfl, rfl, rfl, rfl⟩ := bnd4 h
  exact hf X hx _ _ _ (k0 rfl)
theorem SI.brk {M : cvI} {pc tN tB tC : Nat} (hf : Fl M pc tB) : SI M pc tN tB tC xs_brk := by
  intro X hx E σ o v E' σ' h _ k1 _ _
  obtain ⟨rfl, rfl, rfl, rfl⟩ := bnd4 h
  exact hf X hx _ _ _ (k1 rfl)
theorem SI.cnt {M : cvI} {pc tN tB tC : Nat} (hf : Fl M pc tC) : SI M pc tN tB tC xs_cnt := by
  intro X hx E σ o v E' σ' h _ _ k2 _
  obtain ⟨rfl, rfl, rfl, rfl⟩ := bnd4 h
  exact hf X hx _ _ _ (k2 rfl)
theorem SI.thr {M : cvI} {pc tN tB tC : Nat} : SI M pc tN tB tC xs_thr := by
  intro X hx E σ o v E' σ' h
  cases h
theorem SI.seq {M : cvI} {pc p1 tN tB tC : Nat} {a b : cvS} (ha : SI M pc p1 tB tC a) (hb : SI M p1 tN tB tC b) : SI M pc tN tB tC (xs_seq a b) := by
  intro X hx E σ o v E' σ' h k0 k1 k2 k3
  obtain ⟨⟨o1, v1, E1, σ1⟩, e1, h⟩ := bnd h
  dsimp only at h
  by_cases ho : o1 = 0
  · rw [if_pos ho] at h
    subst ho
    exact ha X hx E σ 0 v1 E1 σ1 e1 (fun _ => hb X hx E1 σ1 o v E' σ' h k0 k1 k2 k3) (fun z => absurd z (by decide)) (fun z => absurd z (by decide)) (fun z => absurd z (by decide))
  · rw [if_neg ho] at h
    obtain ⟨rfl, rfl, rfl, rfl⟩ := bnd4 h
    exact ha X hx E σ o1 v1 E1 σ1 e1 (fun z => absurd z ho) k1 k2 k3
theorem SI.ite {M : cvI} {pc pa pb tN tB tC : Nat} {c : cvC} {a b : cvS} (hc : CI M 0 pc pa pb c) (ha : SI M pa tN tB tC a) (hb : SI M pb tN tB tC b) : SI M pc tN tB tC (xs_if c a b) := by
  intro X hx E σ o v E' σ' h k0 k1 k2 k3
  obtain ⟨⟨r, σ1⟩, e1, h⟩ := bnd h
  dsimp only at h
  refine hc X hx [] E σ r σ1 e1 (Nat.zero_le _) (fun z => ?_) (fun z => ?_)
  · rw [if_pos z] at h
    exact ha X hx E σ1 o v E' σ' h k0 k1 k2 k3
  · rw [if_neg (by rw [z]; decide)] at h
    exact hb X hx E σ1 o v E' σ' h k0 k1 k2 k3
theorem itn_of_lp {S R : Type} {f : S → Option (S ⊕ R)} {s : S} {r : R} (h : lp f s = some r) : ∃ n, itn f n s = some r := by
  unfold lp at h
  by_cases hp : ∃ r n, itn f n s = some r
  · rw [dif_pos hp] at h
    obtain ⟨n, hn⟩ := hp.choose_spec
    exact ⟨n, by rw [hn]; exact h⟩
  · rw [dif_neg hp] at h
    cases h
theorem SI.lp {M : cvI} {pc pb pu tN tB tC : Nat} {c : cvC} {b u : cvS} (hc : CI M 0 pc pb tN c) (hb : SI M pb pu tN pu b) (hu : SI M pu pc pc pc u) : SI M pc tN tB tC (xs_lp c b u) := by
  intro X hx E σ o v E' σ' h k0 _ _ k3
  obtain ⟨n, hn⟩ := itn_of_lp h
  clear h
  induction n generalizing E σ with
  | zero => cases hn
  | succ n ih =>
    obtain ⟨q, e1, h⟩ := bnd hn
    obtain ⟨⟨r, σ1⟩, e2, e1⟩ := bnd e1
    dsimp only at e1 e2
    refine hc X hx [] E σ r σ1 e2 (Nat.zero_le _) (fun z => ?_) (fun z => ?_)
    · rw [if_pos z] at e1
      obtain ⟨⟨o1, v1, E1, σ3⟩, e3, e1⟩ := bnd e1
      dsimp only at e1
      by_cases ho : o1 = 0 ∨ o1 = 2
      · rw [if_pos ho] at e1
        obtain ⟨⟨o2, v2, E2, σ4⟩, e4, e1⟩ := bnd e1
        dsimp only at e1
        by_cases h2 : o2 = 0
        · rw [if_pos h2] at e1
          cases e1
          subst h2
          have next : WW X M pc [] E2 σ4 := ih E2 σ4 h
          have up : WW X M pu [] E1 σ3 := hu X hx E1 σ3 0 v2 E2 σ4 e4 (fun _ => next) (fun _ => next) (fun _ => next) (fun z => absurd z (by decide))
          exact hb X hx E σ1 o1 v1 E1 σ3 e3 (fun _ => up) (fun z => by rcases ho with h | h <;> omega) (fun _ => up) (fun z => by rcases ho with h | h <;> omega)
        · rw [if_neg h2] at e1
          cases e1
      · rw [if_neg ho] at e1
        by_cases h1 : o1 = 1
        · rw [if_pos h1] at e1
          cases e1
          obtain ⟨rfl, rfl, rfl, rfl⟩ := bnd4 h
          exact hb X hx E σ1 o1 v1 _ _ e3 (fun z => by omega) (fun _ => k0 rfl) (fun z => by omega) (fun z => by omega)
        · rw [if_neg h1] at e1
          cases e1
          obtain ⟨rfl, rfl, rfl, rfl⟩ := bnd4 h
          exact hb X hx E σ1 o1 v1 _ _ e3 (fun z => by omega) (fun z => by omega) (fun z => by omega) k3
    · rw [if_neg (by rw [z]; decide)] at e1
      cases e1
      obtain ⟨rfl, rfl, rfl, rfl⟩ := bnd4 h
      exact k0 rfl
theorem SI.ret {M : cvI} {pc p1 tN tB tC : Nat} {a : cvX} (ha : EI M 0 pc p1 0 a) (hd : decode M.1 p1 = .ok (.ireturn, 1)) (hr : M.2.2.2.2.2.2.1 = some .int) : SI M pc tN tB tC (xs_ret a) := by
  intro X hx E σ o v E' σ' h _ _ _ k3
  obtain ⟨⟨x, σ1⟩, e1, h⟩ := bnd h
  obtain ⟨rfl, rfl, rfl, rfl⟩ := bnd4 h
  exact ha X hx [] E σ x σ1 e1 (Nat.zero_le _) (fun o1 => (k3 rfl).2.1 hr o1 p1 E hd)
theorem SI.retz {M : cvI} {pc p1 tN tB tC : Nat} {a : cvX} (ha : EI M 0 pc p1 0 a) (hd : decode M.1 p1 = .ok (.ireturn, 1)) (hr : M.2.2.2.2.2.2.1 = some .boolean) : SI M pc tN tB tC (xs_retz a) := by
  intro X hx E σ o v E' σ' h _ _ _ k3
  obtain ⟨⟨x, σ1⟩, e1, h⟩ := bnd h
  dsimp only at h
  split at h
  · rename_i hz
    obtain ⟨rfl, rfl, rfl, rfl⟩ := bnd4 h
    exact ha X hx [] E σ x σ1 e1 (Nat.zero_le _) (fun o1 => (k3 rfl).2.2.1 .boolean hr (Or.inl rfl) (okF_z hz) (by rcases hz with rfl | rfl <;> constructor <;> omega) p1 E hd)
  · cases h
theorem okF_c : ∀ n : Nat, n < 128 → (narrow .byte (.int (Int32.ofInt n)) = .int (Int32.ofInt n) ∧ fits .byte (.int (Int32.ofInt n)) = true) ∧ narrow .char (.int (Int32.ofInt n)) = .int (Int32.ofInt n) ∧ fits .char (.int (Int32.ofInt n)) = true := by decide +kernel
theorem SI.retc {M : cvI} {pc p1 tN tB tC : Nat} {a : cvX} {ty : FieldType} (ha : EI M 0 pc p1 0 a) (hd : decode M.1 p1 = .ok (.ireturn, 1)) (hr : M.2.2.2.2.2.2.1 = some ty) (hty : ty = .byte ∨ ty = .char) : SI M pc tN tB tC (xs_retc a) := by
  intro X hx E σ o v E' σ' h _ _ _ k3
  obtain ⟨⟨x, σ1⟩, e1, h⟩ := bnd h
  dsimp only at h
  split at h
  · rename_i hz
    obtain ⟨rfl, rfl, rfl, rfl⟩ := bnd4 h
    have hq : okF ty x := by
      obtain ⟨n, rfl⟩ := Int.eq_ofNat_of_zero_le hz.1
      have := okF_c n (by omega)
      rcases hty with rfl | rfl
      · exact this.1
      · exact this.2
    exact ha X hx [] E σ x σ1 e1 (Nat.zero_le _) (fun o1 => (k3 rfl).2.2.1 ty hr (Or.inr hty) hq o1 p1 E hd)
  · cases h
theorem SI.reta {M : cvI} {pc p1 tN tB tC : Nat} {a : cvX} (ha : EI M 0 pc p1 3 a) (hd : decode M.1 p1 = .ok (.areturn, 1)) (hr : M.2.2.2.2.2.2.1 = some (.object "java/lang/String")) : SI M pc tN tB tC (xs_ret a) := by
  intro X hx E σ o v E' σ' h _ _ _ k3
  obtain ⟨⟨x, σ1⟩, e1, h⟩ := bnd h
  obtain ⟨rfl, rfl, rfl, rfl⟩ := bnd4 h
  exact ha X hx [] E σ x σ1 e1 (Nat.zero_le _) (fun o1 => (k3 rfl).2.2.2 hr o1 p1 E hd)
theorem SI.retv {M : cvI} {pc p1 tN tB tC : Nat} (hf : Fl M pc p1) (hd : decode M.1 p1 = .ok (.return_, 1)) (hr : M.2.2.2.2.2.2.1 = none) : SI M pc tN tB tC xs_retv := by
  intro X hx E σ o v E' σ' h _ _ _ k3
  obtain ⟨rfl, rfl, rfl, rfl⟩ := bnd4 h
  exact hf X hx _ _ _ ((k3 rfl).1 hr p1 E hd)
theorem SI.asg {M : cvI} {pc p1 i tN tB tC : Nat} {a : cvX} (ha : EI M 0 pc p1 0 a) (hd : decode M.1 p1 = .ok (.istore i, 2)) (hk : stOK M.2.2.2.1 i M.2.1 = true) (hf : Fl M (p1 + 2) tN) : SI M pc tN tB tC (xs_asg i a) := by
  intro X hx E σ o v E' σ' h k0 _ _ _
  obtain ⟨⟨x, σ1⟩, e1, h⟩ := bnd h
  obtain ⟨rfl, rfl, rfl, rfl⟩ := bnd4 h
  exact ha X hx [] E σ x σ1 e1 (Nat.zero_le _) (fun o1 => WW_istore hx hd hk o1 (hf X hx _ _ _ (k0 rfl)))
theorem SI.asgn {M : cvI} {pc p1 i tN tB tC : Nat} {j : Fin 4} {a : cvX} (ha : EI M 0 pc p1 0 a) (hd : decode M.1 p1 = .ok (.istore_n j, 1)) (hj : (j : Nat) = i) (hk : stOK M.2.2.2.1 i M.2.1 = true) (hf : Fl M (p1 + 1) tN) : SI M pc tN tB tC (xs_asg i a) := by
  intro X hx E σ o v E' σ' h k0 _ _ _
  obtain ⟨⟨x, σ1⟩, e1, h⟩ := bnd h
  obtain ⟨rfl, rfl, rfl, rfl⟩ := bnd4 h
  exact ha X hx [] E σ x σ1 e1 (Nat.zero_le _) (fun o1 => WW_istore_n hx hd hj hk o1 (hf X hx _ _ _ (k0 rfl)))
/-- i += n, as javac spells it -/
theorem SI.inc {M : cvI} {pc i tN tB tC : Nat} {n : Int} (hd : decode M.1 pc = .ok (.iinc i n, 3)) (hk : stOK M.2.2.2.1 i M.2.1 = true) (hf : Fl M (pc + 3) tN) : SI M pc tN tB tC (xs_asg i (xe_op oadd (xe_loc i) (xe_lit n))) := by
  intro X hx E σ o v E' σ' h k0 _ _ _
  obtain ⟨⟨x, σ1⟩, e1, h⟩ := bnd h
  obtain ⟨⟨w, σ2⟩, e2, e1⟩ := bnd e1
  obtain ⟨z, e3, e2⟩ := Option.map_eq_some_iff.mp e2
  cases e2
  cases e1
  obtain ⟨rfl, rfl, rfl, rfl⟩ := bnd4 h
  exact WW_iinc hx hd hk e3 (hf X hx _ _ _ (k0 rfl))
theorem SI.pop {M : cvI} {pc p1 tN tB tC κ : Nat} {a : cvX} (ha : EI M 0 pc p1 κ a) (hκ : kcat κ = 1) (hd : decode M.1 p1 = .ok (.pop, 1)) (hf : Fl M (p1 + 1) tN) : SI M pc tN tB tC (xs_exp a) := by
  intro X hx E σ o v E' σ' h k0 _ _ _
  obtain ⟨⟨x, σ1⟩, e1, h⟩ := bnd h
  obtain ⟨rfl, rfl, rfl, rfl⟩ := bnd4 h
  exact ha X hx [] E σ x σ1 e1 (Nat.zero_le _) (fun o1 => WW_pop hx hd (by rw [conc_cat]; exact hκ) (hf X hx _ _ _ (k0 rfl)))
theorem SI.pf {M : cvI} {pc p1 p2 tN tB tC ci N j index : Nat} {C : String} {T : u_T} {ty : Nat → FieldType} {a e : cvX} (ha : EI M 0 pc p1 1 a) (he : EI M 1 p1 p2 0 e) (hc : CK ci C T N ty) (hj : j < N) (hl : Cond.fieldLink M.2.2.1 index (T j).1 (T j).2.1 (T j).2.2.1 ∈ BIG) (hfin : (T j).2.2.2 = false) (hty : ty j = .int) (hd : decode M.1 p2 = .ok (.putfield index, 3)) (hf : Fl M (p2 + 3) tN) : SI M pc tN tB tC (xs_pf ci j a e) := by
  intro X hx E σ o v E' σ' h k0 _ _ _
  obtain ⟨⟨x, σ1⟩, e1, h⟩ := bnd h
  obtain ⟨⟨y, σ2⟩, e2, h⟩ := bnd h
  dsimp only at h
  split at h
  · rename_i hi
    obtain ⟨rfl, rfl, rfl, rfl⟩ := bnd4 h
    exact ha X hx [] E σ x σ1 e1 (Nat.zero_le _) (fun o1 => he X hx _ E σ1 y σ2 e2 (stk1 (Nat.zero_le _)) (fun o2 => WW_putI hx hc hj hl hfin hd hi o2 (by rw [hty]; exact okF_i y) (hf X hx _ _ _ (k0 rfl))))
  · cases h
theorem SI.pfN {M : cvI} {pc p1 p2 tN tB tC ci N j index : Nat} {C host : String} {T : u_T} {ty : Nat → FieldType} {a e : cvX} (ha : EI M 0 pc p1 1 a) (he : EI M 1 p1 p2 0 e) (hc : CK ci C T N ty) (hj : j < N) (hl : (M.2.2.1, index, (T j).1, (T j).2.1, (T j).2.2.1, host) ∈ NSF) (hfin : (T j).2.2.2 = false) (hty : ty j = .int) (hd : decode M.1 p2 = .ok (.putfield index, 3)) (hf : Fl M (p2 + 3) tN) : SI M pc tN tB tC (xs_pf ci j a e) := by
  intro X hx E σ o v E' σ' h k0 _ _ _
  obtain ⟨⟨x, σ1⟩, e1, h⟩ := bnd h
  obtain ⟨⟨y, σ2⟩, e2, h⟩ := bnd h
  dsimp only at h
  split at h
  · rename_i hi
    obtain ⟨rfl, rfl, rfl, rfl⟩ := bnd4 h
    exact ha X hx [] E σ x σ1 e1 (Nat.zero_le _) (fun o1 => he X hx _ E σ1 y σ2 e2 (stk1 (Nat.zero_le _)) (fun o2 => WW_putIN hx hc hj hl hfin hd hi o2 (by rw [hty]; exact okF_i y) (hf X hx _ _ _ (k0 rfl))))
  · cases h
theorem SI.pz {M : cvI} {pc p1 p2 tN tB tC ci N j index : Nat} {C : String} {T : u_T} {ty : Nat → FieldType} {a e : cvX} (ha : EI M 0 pc p1 1 a) (he : EI M 1 p1 p2 0 e) (hc : CK ci C T N ty) (hj : j < N) (hl : Cond.fieldLink M.2.2.1 index (T j).1 (T j).2.1 (T j).2.2.1 ∈ BIG) (hfin : (T j).2.2.2 = false) (hty : ty j = .boolean) (hd : decode M.1 p2 = .ok (.putfield index, 3)) (hf : Fl M (p2 + 3) tN) : SI M pc tN tB tC (xs_pz ci j a e) := by
  intro X hx E σ o v E' σ' h k0 _ _ _
  obtain ⟨⟨x, σ1⟩, e1, h⟩ := bnd h
  obtain ⟨⟨y, σ2⟩, e2, h⟩ := bnd h
  dsimp only at h
  split at h
  · rename_i hi
    obtain ⟨rfl, rfl, rfl, rfl⟩ := bnd4 h
    exact ha X hx [] E σ x σ1 e1 (Nat.zero_le _) (fun o1 => he X hx _ E σ1 y σ2 e2 (stk1 (Nat.zero_le _)) (fun o2 => WW_putI hx hc hj hl hfin hd hi.1 o2 (by rw [hty]; exact okF_z hi.2) (hf X hx _ _ _ (k0 rfl))))
  · cases h
/-- the instructions that a compound assignment takes -/
def OB (f : Int → Int → Int) : Prop := (f = oadd ∨ f = osub) ∨ (f = oor ∨ f = oxor ∨ f = oand)
def opI (M : cvI) (pc : Nat) (f : Int → Int → Int) : Prop := (f = oadd ∧ decode M.1 pc = .ok (.iadd, 1)) ∨ (f = osub ∧ decode M.1 pc = .ok (.isub, 1)) ∨ (f = oor ∧ decode M.1 pc = .ok (.ior, 1)) ∨ (f = oxor ∧ decode M.1 pc = .ok (.ixor, 1)) ∨ (f = oand ∧ decode M.1 pc = .ok (.iand, 1)) ∨ (f = omul ∧ decode M.1 pc = .ok (.imul, 1))
theorem opI_run {X : cvT} {M : cvI} {pc : Nat} {st : List Value} {E : cvE} {σ : cvM} {f : Int → Int → Int} {x y : Int} (hx : Cx X M) (h : opI M pc f) (k : okv 0 (f x y) → WW X M (pc + 1) (.int (Int32.ofInt (f x y)) :: st) E σ) : WW X M pc (.int (Int32.ofInt y) :: .int (Int32.ofInt x) :: st) E σ := by
  rcases h with ⟨rfl, h⟩ | ⟨rfl, h⟩ | ⟨rfl, h⟩ | ⟨rfl, h⟩ | ⟨rfl, h⟩ | ⟨rfl, h⟩
  · exact WW_iadd hx h (k (k_add _ _))
  · exact WW_isub hx h (k (k_sub _ _))
  · exact WW_ior hx h (k (k_or _ _))
  · exact WW_ixor hx h (k (k_xor _ _))
  · exact WW_iand hx h (k (k_and _ _))
  · exact WW_imul hx h (k (k_mul _ _))
/-- o.j = o.j f e -/
theorem SI.of {M : cvI} {pc p1 p2 tN tB tC ci N j index : Nat} {C : String} {T : u_T} {ty : Nat → FieldType} {a e : cvX} {f : Int → Int → Int} (ha : EI M 0 pc p1 1 a) (hdup : decode M.1 p1 = .ok (.dup, 1)) (hget : decode M.1 (p1 + 1) = .ok (.getfield index, 3)) (he : EI M 2 (p1 + 4) p2 0 e) (ho : opI M p2 f) (hc : CK ci C T N ty) (hj : j < N) (hl : Cond.fieldLink M.2.2.1 index (T j).1 (T j).2.1 (T j).2.2.1 ∈ BIG) (hfin : (T j).2.2.2 = false) (hty : ty j = .int) (hd : decode M.1 (p2 + 1) = .ok (.putfield index, 3)) (hf : Fl M (p2 + 4) tN) : SI M pc tN tB tC (xs_of ci j a f e) := by
  intro X hx E σ o v E' σ' h k0 _ _ _
  obtain ⟨⟨x, σ1⟩, e1, h⟩ := bnd h
  dsimp only at h
  split at h
  · rename_i hi
    obtain ⟨⟨y, σ2⟩, e2, h⟩ := bnd h
    obtain ⟨rfl, rfl, rfl, rfl⟩ := bnd4 h
    refine ha X hx [] E σ x σ1 e1 (Nat.zero_le _) (fun o1 => ?_)
    refine WW_dup hx hdup rfl ?_
    refine WW_getI hx hc hj hl hget hi (fun o2 => ?_)
    refine he X hx (conc (xad X) (xsd X) 0 (σ1 x j) :: conc (xad X) (xsd X) 1 x :: []) E σ1 y σ2 e2 (stk0 (stk1 (Nat.zero_le _))) (fun o3 => ?_)
    refine opI_run hx ho (fun o4 => ?_)
    exact WW_putI hx hc hj hl hfin hd hi o4 (by rw [hty]; exact okF_i _) (hf X hx _ _ _ (k0 rfl))
  · cases h
theorem SI.ofN {M : cvI} {pc p1 p2 tN tB tC ci N j index : Nat} {C host : String} {T : u_T} {ty : Nat → FieldType} {a e : cvX} {f : Int → Int → Int} (ha : EI M 0 pc p1 1 a) (hdup : decode M.1 p1 = .ok (.dup, 1)) (hget : decode M.1 (p1 + 1) = .ok (.getfield index, 3)) (he : EI M 2 (p1 + 4) p2 0 e) (ho : opI M p2 f) (hc : CK ci C T N ty) (hj : j < N) (hl : (M.2.2.1, index, (T j).1, (T j).2.1, (T j).2.2.1, host) ∈ NSF) (hfin : (T j).2.2.2 = false) (hty : ty j = .int) (hd : decode M.1 (p2 + 1) = .ok (.putfield index, 3)) (hf : Fl M (p2 + 4) tN) : SI M pc tN tB tC (xs_of ci j a f e) := by
  intro X hx E σ o v E' σ' h k0 _ _ _
  obtain ⟨⟨x, σ1⟩, e1, h⟩ := bnd h
  dsimp only at h
  split at h
  · rename_i hi
    obtain ⟨⟨y, σ2⟩, e2, h⟩ := bnd h
    obtain ⟨rfl, rfl, rfl, rfl⟩ := bnd4 h
    refine ha X hx [] E σ x σ1 e1 (Nat.zero_le _) (fun o1 => ?_)
    refine WW_dup hx hdup rfl ?_
    refine WW_getIN hx hc hj hl hget hi (fun o2 => ?_)
    refine he X hx (conc (xad X) (xsd X) 0 (σ1 x j) :: conc (xad X) (xsd X) 1 x :: []) E σ1 y σ2 e2 (stk0 (stk1 (Nat.zero_le _))) (fun o3 => ?_)
    refine opI_run hx ho (fun o4 => ?_)
    exact WW_putIN hx hc hj hl hfin hd hi o4 (by rw [hty]; exact okF_i _) (hf X hx _ _ _ (k0 rfl))
  · cases h
theorem SI.as {M : cvI} {pc p1 p2 p3 tN tB tC : Nat} {a i e : cvX} (ha : EI M 0 pc p1 1 a) (hi : EI M 1 p1 p2 0 i) (he : EI M 2 p2 p3 0 e) (hd : decode M.1 p3 = .ok (.iastore, 1)) (hf : Fl M (p3 + 1) tN) : SI M pc tN tB tC (xs_as a i e) := by
  intro X hx E σ o v E' σ' h k0 _ _ _
  obtain ⟨⟨x, σ1⟩, e1, h⟩ := bnd h
  obtain ⟨⟨y, σ2⟩, e2, h⟩ := bnd h
  obtain ⟨⟨z, σ3⟩, e3, h⟩ := bnd h
  obtain ⟨n, e4, h⟩ := bnd h
  dsimp only at h
  split at h
  · rename_i hin
    obtain ⟨rfl, rfl, rfl, rfl⟩ := bnd4 h
    refine ha X hx [] E σ x σ1 e1 (Nat.zero_le _) (fun o1 => ?_)
    refine hi X hx _ E σ1 y σ2 e2 (stk1 (Nat.zero_le _)) (fun o2 => ?_)
    refine he X hx _ E σ2 z σ3 e3 (stk0 (stk1 (Nat.zero_le _))) (fun o3 => ?_)
    exact WW_iast hx hd e4 o2 o3 hin (hf X hx _ _ _ (k0 rfl))
  · cases h
/-- a[i] = a[i] f e -/
theorem SI.oa {M : cvI} {pc p1 p2 p3 tN tB tC : Nat} {a i e : cvX} {f : Int → Int → Int} (ha : EI M 0 pc p1 1 a) (hi : EI M 1 p1 p2 0 i) (hdup : decode M.1 p2 = .ok (.dup2, 1)) (hget : decode M.1 (p2 + 1) = .ok (.iaload, 1)) (he : EI M 3 (p2 + 2) p3 0 e) (ho : opI M p3 f) (hd : decode M.1 (p3 + 1) = .ok (.iastore, 1)) (hf : Fl M (p3 + 2) tN) : SI M pc tN tB tC (xs_oa a i f e) := by
  intro X hx E σ o v E' σ' h k0 _ _ _
  obtain ⟨⟨x, σ1⟩, e1, h⟩ := bnd h
  obtain ⟨⟨y, σ2⟩, e2, h⟩ := bnd h
  obtain ⟨⟨w, σ3⟩, e3, h⟩ := bnd h
  obtain ⟨⟨z, σ4⟩, e4, h⟩ := bnd h
  obtain ⟨n, e5, h⟩ := bnd h
  obtain ⟨n2, e6, e3⟩ := bnd e3
  dsimp only at h e3 e5 e6
  split at h
  · rename_i hin
    obtain ⟨rfl, rfl, rfl, rfl⟩ := bnd4 h
    split at e3
    · rename_i hin2
      obtain ⟨rfl, rfl⟩ := bnd2 e3
      refine ha X hx [] E σ x σ1 e1 (Nat.zero_le _) (fun o1 => ?_)
      refine hi X hx _ E σ1 y σ2 e2 (stk1 (Nat.zero_le _)) (fun o2 => ?_)
      refine WW_dup2 hx hdup rfl rfl ?_
      refine WW_iald hx hget e6 o2 hin2 (fun o3 => ?_)
      refine he X hx (conc (xad X) (xsd X) 0 (σ2 x y) :: conc (xad X) (xsd X) 0 y :: conc (xad X) (xsd X) 1 x :: []) E σ2 z σ4 e4 (stk0 (stk0 (stk1 (Nat.zero_le _)))) (fun o4 => ?_)
      refine opI_run hx ho (fun o5 => ?_)
      exact WW_iast hx hd e5 o2 o5 hin (hf X hx _ _ _ (k0 rfl))
    · cases e3
  · cases h
-- switches
def swA (M : cvI) (p1 tN tC : Nat) : List Int → List cvS → Prop
  | o :: os, b :: bs => (∃ t q : Nat, (p1 : Int) + o = (t : Int) ∧ Fl M t q ∧ SI M q tN tN tC b) ∧ swA M p1 tN tC os bs
  | [], [] => True
  | _, _ => False
theorem swA_at {M : cvI} {p1 tN tC : Nat} : ∀ {os : List Int} {bs : List cvS}, swA M p1 tN tC os bs → ∀ j, j < bs.length → ∃ off, os[j]? = some off ∧ ∀ bd, ∃ t q : Nat, (p1 : Int) + off = (t : Int) ∧ Fl M t q ∧ SI M q tN tN tC (bs.getD j bd)
  | [], [], _, j, hj => absurd hj (Nat.not_lt_zero j)
  | o :: os, b :: bs, h, 0, _ => ⟨o, rfl, fun _ => h.1⟩
  | o :: os, b :: bs, h, j + 1, hj => swA_at h.2 j (Nat.lt_of_succ_lt_succ hj)
  | [], _ :: _, h, _, _ => h.elim
  | _ :: _, [], h, _, _ => h.elim
theorem swA_len {M : cvI} {p1 tN tC : Nat} : ∀ {os : List Int} {bs : List cvS}, swA M p1 tN tC os bs → os.length = bs.length
  | [], [], _ => rfl
  | _ :: _, _ :: _, h => by simp [swA_len h.2]
  | [], _ :: _, h => h.elim
  | _ :: _, [], h => h.elim
theorem sw_out {M : cvI} {tN tB tC q : Nat} {b : cvS} (hb : SI M q tN tN tC b) {X : cvT} (hx : Cx X M) {E : cvE} {σ1 : cvM} {o : Nat} {v : Int} {E' : cvE} {σ' : cvM} (h : ((b E σ1).bind fun q => if q.1 = 1 then some (0, 0, q.2.2.1, q.2.2.2) else some q) = some (o, v, E', σ')) (k0 : o = 0 → WW X M tN [] E' σ') (k1 : o = 1 → WW X M tB [] E' σ') (k2 : o = 2 → WW X M tC [] E' σ') (k3 : o = 3 → RT X M v σ') : WW X M q [] E σ1 := by
  obtain ⟨⟨o1, v1, E1, σ2⟩, e1, h⟩ := bnd h
  dsimp only at h
  by_cases ho : o1 = 1
  · rw [if_pos ho] at h
    obtain ⟨rfl, rfl, rfl, rfl⟩ := bnd4 h
    exact hb X hx E σ1 o1 v1 _ _ e1 (fun z => by omega) (fun _ => k0 rfl) (fun z => by omega) (fun z => by omega)
  · rw [if_neg ho] at h
    obtain ⟨rfl, rfl, rfl, rfl⟩ := bnd4 h
    exact hb X hx E σ1 o1 v1 _ _ e1 k0 (fun z => absurd z ho) k2 k3
theorem WW_tabO {X : cvT} {M : cvI} {pc : Nat} {st : List Value} {E : cvE} {σ : cvM} {v dflt lo hi : Int} {offs : Array Int} {len tgt : Nat} (hx : Cx X M) (hd : decode M.1 pc = .ok (.tableswitch dflt lo hi offs, len)) (a : okv 0 v) (h : v < lo ∨ hi < v) (ht : (pc : Int) + dflt = (tgt : Int)) (k : WW X M tgt st E σ) : WW X M pc (.int (Int32.ofInt v) :: st) E σ := by
  obtain ⟨p, l, e, R, s, m, args, below, meth, c, D, cA, ad, sd, sv, A, cells, slots, Q⟩ := X
  obtain ⟨h1, h2, h3, h4, h5, h6, h7, h8, h9, h10, h11, h12, h13, h14, h15⟩ := hx
  intro H ls locs hP hI hL hS
  exact lv_tableOut h1 h2 hd (by rw [i_rt a]; exact h) ht (k H ls locs hP hI hL hS)
theorem WW_tabI {X : cvT} {M : cvI} {pc : Nat} {st : List Value} {E : cvE} {σ : cvM} {v dflt lo hi off : Int} {offs : Array Int} {len tgt : Nat} (hx : Cx X M) (hd : decode M.1 pc = .ok (.tableswitch dflt lo hi offs, len)) (a : okv 0 v) (h : ¬ v < lo) (h' : ¬ hi < v) (ho : offs[(v - lo).toNat]? = some off) (ht : (pc : Int) + off = (tgt : Int)) (k : WW X M tgt st E σ) : WW X M pc (.int (Int32.ofInt v) :: st) E σ := by
  obtain ⟨p, l, e, R, s, m, args, below, meth, c, D, cA, ad, sd, sv, A, cells, slots, Q⟩ := X
  obtain ⟨h1, h2, h3, h4, h5, h6, h7, h8, h9, h10, h11, h12, h13, h14, h15⟩ := hx
  intro H ls locs hP hI hL hS
  exact lv_tableIn h1 h2 hd (by rw [i_rt a]; exact h) (by rw [i_rt a]; exact h') (by rw [i_rt a]; exact ho) ht (k H ls locs hP hI hL hS)
theorem WW_lkp {X : cvT} {M : cvI} {pc : Nat} {st : List Value} {E : cvE} {σ : cvM} {v dflt off : Int} {ps : Array (Int × Int)} {len tgt : Nat} (hx : Cx X M) (hd : decode M.1 pc = .ok (.lookupswitch dflt ps, len)) (hp : (ps.toList.zip (ps.toList.drop 1)).all (fun (a, next) => a.1 < next.1) = true) (a : okv 0 v) (ho : Op.lookupswitch.offset ps.toList dflt v = off) (ht : (pc : Int) + off = (tgt : Int)) (k : WW X M tgt st E σ) : WW X M pc (.int (Int32.ofInt v) :: st) E σ := by
  obtain ⟨p, l, e, R, s, m, args, below, meth, c, D, cA, ad, sd, sv, A, cells, slots, Q⟩ := X
  obtain ⟨h1, h2, h3, h4, h5, h6, h7, h8, h9, h10, h11, h12, h13, h14, h15⟩ := hx
  intro H ls locs hP hI hL hS
  exact lv_lookup h1 h2 hd hp (by rw [i_rt a]; exact ho) ht (k H ls locs hP hI hL hS)
theorem SI.swt {M : cvI} {pc p1 tN tB tC td qd len : Nat} {a : cvX} {dflt lo hi : Int} {offs : Array Int} {bs : List cvS} {bd : cvS} (ha : EI M 0 pc p1 0 a) (hd : decode M.1 p1 = .ok (.tableswitch dflt lo hi offs, len)) (hb : swA M p1 tN tC offs.toList bs) (hn : hi - lo + 1 = bs.length) (htd : (p1 : Int) + dflt = (td : Int)) (hfd : Fl M td qd) (hbd : SI M qd tN tN tC bd) : SI M pc tN tB tC (xs_sw a (swT lo bs bd)) := by
  intro X hx E σ o v E' σ' h k0 k1 k2 k3
  obtain ⟨⟨x, σ1⟩, e1, h⟩ := bnd h
  dsimp only at h
  refine ha X hx [] E σ x σ1 e1 (Nat.zero_le _) (fun o1 => ?_)
  by_cases hin : lo ≤ x ∧ x ≤ hi
  · obtain ⟨off, e2, h2⟩ := swA_at hb (x - lo).toNat (by omega)
    obtain ⟨t, q, e3, hf, hs⟩ := h2 bd
    refine WW_tabI hx hd o1 (by omega) (by omega) (off := off) (tgt := t) ?_ e3 (hf X hx _ _ _ ?_)
    · rw [← Array.getElem?_toList]; exact e2
    · refine sw_out hs hx ?_ k0 k1 k2 k3
      unfold swT at h
      rw [if_pos hin.1] at h
      exact h
  · refine WW_tabO hx hd o1 (by omega) htd (hfd X hx _ _ _ (sw_out hbd hx ?_ k0 k1 k2 k3))
    unfold swT at h
    by_cases hl : lo ≤ x
    · rw [if_pos hl, List.getD_eq_getElem?_getD, List.getElem?_eq_none (by omega)] at h
      exact h
    · rw [if_neg hl] at h
      exact h
def swB (M : cvI) (p1 tN tC : Nat) : List (Int × Int) → List (Int × cvS) → Prop
  | o :: os, b :: bs => (o.1 = b.1 ∧ ∃ t q : Nat, (p1 : Int) + o.2 = (t : Int) ∧ Fl M t q ∧ SI M q tN tN tC b.2) ∧ swB M p1 tN tC os bs
  | [], [] => True
  | _, _ => False
theorem swB_at {M : cvI} {p1 tN tC : Nat} {dflt : Int} {td qd : Nat} {bd : cvS} (htd : (p1 : Int) + dflt = (td : Int)) (hfd : Fl M td qd) (hbd : SI M qd tN tN tC bd) (x : Int) : ∀ {os : List (Int × Int)} {bs : List (Int × cvS)}, swB M p1 tN tC os bs → ∃ t q : Nat, (p1 : Int) + Op.lookupswitch.offset os dflt x = (t : Int) ∧ Fl M t q ∧ SI M q tN tN tC (swK bs bd x)
  | [], [], _ => ⟨td, qd, by simpa [Op.lookupswitch.offset] using htd, hfd, hbd⟩
  | o :: os, b :: bs, h => by
    obtain ⟨⟨e, t, q, h1, h2, h3⟩, h4⟩ := h
    by_cases hx : x = b.1
    · refine ⟨t, q, ?_, h2, ?_⟩
      · rw [← h1]
        simp [Op.lookupswitch.offset, e, hx]
      · unfold swK
        rw [if_pos hx]
        exact h3
    · obtain ⟨t', q', g1, g2, g3⟩ := swB_at htd hfd hbd x h4
      refine ⟨t', q', ?_, g2, ?_⟩
      · rw [← g1]
        have : ¬ (o.1 = x) := by rw [e]; exact fun z => hx z.symm
        simp [Op.lookupswitch.offset, this]
      · unfold swK
        rw [if_neg hx]
        exact g3
  | [], _ :: _, h => h.elim
  | _ :: _, [], h => h.elim
theorem SI.swk {M : cvI} {pc p1 tN tB tC td qd len : Nat} {a : cvX} {dflt : Int} {ps : Array (Int × Int)} {bs : List (Int × cvS)} {bd : cvS} (ha : EI M 0 pc p1 0 a) (hd : decode M.1 p1 = .ok (.lookupswitch dflt ps, len)) (hp : (ps.toList.zip (ps.toList.drop 1)).all (fun (a, next) => a.1 < next.1) = true) (hb : swB M p1 tN tC ps.toList bs) (htd : (p1 : Int) + dflt = (td : Int)) (hfd : Fl M td qd) (hbd : SI M qd tN tN tC bd) : SI M pc tN tB tC (xs_sw a (swK bs bd)) := by
  intro X hx E σ o v E' σ' h k0 k1 k2 k3
  obtain ⟨⟨x, σ1⟩, e1, h⟩ := bnd h
  dsimp only at h
  refine ha X hx [] E σ x σ1 e1 (Nat.zero_le _) (fun o1 => ?_)
  obtain ⟨t, q, h1, h2, h3⟩ := swB_at htd hfd hbd x hb
  exact WW_lkp hx hd hp o1 rfl h1 (h2 X hx _ _ _ (sw_out h3 hx h k0 k1 k2 k3))
