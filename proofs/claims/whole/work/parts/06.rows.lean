theorem WW_iconst {X : cvT} {M : cvI} {pc : Nat} {st : List Value} {E : cvE} {σ : cvM} (hx : Cx X M) {n : Int} (hd : decode M.1 pc = .ok (.iconst n, 1)) (k : WW X M (pc + 1) (.int (Int32.ofInt n) :: st) E σ) : WW X M pc st E σ := by
  obtain ⟨p, l, e, R, s, m, args, below, meth, c, D, cA, ad, sd, sv, A, cells, slots, Q⟩ := X
  obtain ⟨h1, h2, h3, h4, h5, h6, h7, h8, h9, h10, h11, h12, h13, h14, h15⟩ := hx
  intro H ls locs hP hI hL hS
  exact lv_iconst h1 h2 hd rfl (k H ls locs hP hI hL hS)
theorem WW_bipush {X : cvT} {M : cvI} {pc : Nat} {st : List Value} {E : cvE} {σ : cvM} (hx : Cx X M) {n : Int} (hd : decode M.1 pc = .ok (.bipush n, 2)) (hv : (Int8.ofInt n).toInt32 = Int32.ofInt n) (k : WW X M (pc + 2) (.int (Int32.ofInt n) :: st) E σ) : WW X M pc st E σ := by
  obtain ⟨p, l, e, R, s, m, args, below, meth, c, D, cA, ad, sd, sv, A, cells, slots, Q⟩ := X
  obtain ⟨h1, h2, h3, h4, h5, h6, h7, h8, h9, h10, h11, h12, h13, h14, h15⟩ := hx
  intro H ls locs hP hI hL hS
  exact lv_bipush h1 h2 hd hv (k H ls locs hP hI hL hS)
theorem WW_sipush {X : cvT} {M : cvI} {pc : Nat} {st : List Value} {E : cvE} {σ : cvM} (hx : Cx X M) {n : Int} (hd : decode M.1 pc = .ok (.sipush n, 3)) (hv : (Int16.ofInt n).toInt32 = Int32.ofInt n) (k : WW X M (pc + 3) (.int (Int32.ofInt n) :: st) E σ) : WW X M pc st E σ := by
  obtain ⟨p, l, e, R, s, m, args, below, meth, c, D, cA, ad, sd, sv, A, cells, slots, Q⟩ := X
  obtain ⟨h1, h2, h3, h4, h5, h6, h7, h8, h9, h10, h11, h12, h13, h14, h15⟩ := hx
  intro H ls locs hP hI hL hS
  exact lv_sipush h1 h2 hd hv (k H ls locs hP hI hL hS)
theorem WW_ldc {X : cvT} {M : cvI} {pc : Nat} {st : List Value} {E : cvE} {σ : cvM} (hx : Cx X M) {n : Int} {i : Nat} (hd : decode M.1 pc = .ok (.ldc i, 2)) (hw : Cond.constant M.2.2.1 i (Int32.ofInt n) ∈ BIG) (k : WW X M (pc + 2) (.int (Int32.ofInt n) :: st) E σ) : WW X M pc st E σ := by
  obtain ⟨p, l, e, R, s, m, args, below, meth, c, D, cA, ad, sd, sv, A, cells, slots, Q⟩ := X
  obtain ⟨h1, h2, h3, h4, h5, h6, h7, h8, h9, h10, h11, h12, h13, h14, h15⟩ := hx
  intro H ls locs hP hI hL hS
  exact lv_ldc h1 h2 h4 (h5 _ hw) hd (k H ls locs hP hI hL hS)
theorem WW_ldcw {X : cvT} {M : cvI} {pc : Nat} {st : List Value} {E : cvE} {σ : cvM} (hx : Cx X M) {n : Int} {i : Nat} (hd : decode M.1 pc = .ok (.ldc_w i, 3)) (hw : Cond.constant M.2.2.1 i (Int32.ofInt n) ∈ BIG) (k : WW X M (pc + 3) (.int (Int32.ofInt n) :: st) E σ) : WW X M pc st E σ := by
  obtain ⟨p, l, e, R, s, m, args, below, meth, c, D, cA, ad, sd, sv, A, cells, slots, Q⟩ := X
  obtain ⟨h1, h2, h3, h4, h5, h6, h7, h8, h9, h10, h11, h12, h13, h14, h15⟩ := hx
  intro H ls locs hP hI hL hS
  exact lv_ldcw h1 h2 h4 (h5 _ hw) hd (k H ls locs hP hI hL hS)
theorem WW_ldc2 {X : cvT} {M : cvI} {pc : Nat} {st : List Value} {E : cvE} {σ : cvM} (hx : Cx X M) {n : Int} {i : Nat} (hd : decode M.1 pc = .ok (.ldc2_w i, 3)) (hw : Cond.constantLong M.2.2.1 i (Int64.ofInt n) ∈ BIG) (k : WW X M (pc + 3) (.long (Int64.ofInt n) :: st) E σ) : WW X M pc st E σ := by
  obtain ⟨p, l, e, R, s, m, args, below, meth, c, D, cA, ad, sd, sv, A, cells, slots, Q⟩ := X
  obtain ⟨h1, h2, h3, h4, h5, h6, h7, h8, h9, h10, h11, h12, h13, h14, h15⟩ := hx
  intro H ls locs hP hI hL hS
  exact lv_ldc2 h1 h2 h4 (h5 _ hw) hd (k H ls locs hP hI hL hS)
theorem WW_iload {X : cvT} {M : cvI} {pc : Nat} {st : List Value} {E : cvE} {σ : cvM} (hx : Cx X M) {i : Nat} {v : Int} (hd : decode M.1 pc = .ok (.iload i, 2)) (hk : M.2.2.2.1.getD i 0 = 0) (hv : E.getD i none = some v) (k : okv 0 v → WW X M (pc + 2) (.int (Int32.ofInt v) :: st) E σ) : WW X M pc st E σ := by
  obtain ⟨p, l, e, R, s, m, args, below, meth, c, D, cA, ad, sd, sv, A, cells, slots, Q⟩ := X
  obtain ⟨h1, h2, h3, h4, h5, h6, h7, h8, h9, h10, h11, h12, h13, h14, h15⟩ := hx
  intro H ls locs hP hI hL hS
  have h0 := hL.2.2 i v hv
  rw [hk] at h0
  exact lv_iload h1 h2 hd h0.1 (k h0.2 H ls locs hP hI hL hS)
theorem WW_aload {X : cvT} {M : cvI} {pc : Nat} {st : List Value} {E : cvE} {σ : cvM} (hx : Cx X M) {i : Nat} {v : Int} (hd : decode M.1 pc = .ok (.aload i, 2)) (hk : M.2.2.2.1.getD i 0 = 1) (hv : E.getD i none = some v) (k : okv 1 v → WW X M (pc + 2) (.ref (xad X v.toNat) :: st) E σ) : WW X M pc st E σ := by
  obtain ⟨p, l, e, R, s, m, args, below, meth, c, D, cA, ad, sd, sv, A, cells, slots, Q⟩ := X
  obtain ⟨h1, h2, h3, h4, h5, h6, h7, h8, h9, h10, h11, h12, h13, h14, h15⟩ := hx
  intro H ls locs hP hI hL hS
  have h0 := hL.2.2 i v hv
  rw [hk] at h0
  exact lv_aload h1 h2 hd h0.1 (k h0.2 H ls locs hP hI hL hS)
theorem WW_iload_n {X : cvT} {M : cvI} {pc : Nat} {st : List Value} {E : cvE} {σ : cvM} (hx : Cx X M) {j : Fin 4} {i : Nat} {v : Int} (hd : decode M.1 pc = .ok (.iload_n j, 1)) (hj : (j : Nat) = i) (hk : M.2.2.2.1.getD i 0 = 0) (hv : E.getD i none = some v) (k : okv 0 v → WW X M (pc + 1) (.int (Int32.ofInt v) :: st) E σ) : WW X M pc st E σ := by
  obtain ⟨p, l, e, R, s, m, args, below, meth, c, D, cA, ad, sd, sv, A, cells, slots, Q⟩ := X
  obtain ⟨h1, h2, h3, h4, h5, h6, h7, h8, h9, h10, h11, h12, h13, h14, h15⟩ := hx
  intro H ls locs hP hI hL hS
  have h0 := hL.2.2 i v hv
  rw [hk] at h0
  exact lv_iload_n h1 h2 hd hj h0.1 (k h0.2 H ls locs hP hI hL hS)
theorem WW_aload_n {X : cvT} {M : cvI} {pc : Nat} {st : List Value} {E : cvE} {σ : cvM} (hx : Cx X M) {j : Fin 4} {i : Nat} {v : Int} (hd : decode M.1 pc = .ok (.aload_n j, 1)) (hj : (j : Nat) = i) (hk : M.2.2.2.1.getD i 0 = 1) (hv : E.getD i none = some v) (k : okv 1 v → WW X M (pc + 1) (.ref (xad X v.toNat) :: st) E σ) : WW X M pc st E σ := by
  obtain ⟨p, l, e, R, s, m, args, below, meth, c, D, cA, ad, sd, sv, A, cells, slots, Q⟩ := X
  obtain ⟨h1, h2, h3, h4, h5, h6, h7, h8, h9, h10, h11, h12, h13, h14, h15⟩ := hx
  intro H ls locs hP hI hL hS
  have h0 := hL.2.2 i v hv
  rw [hk] at h0
  exact lv_aload_n h1 h2 hd hj h0.1 (k h0.2 H ls locs hP hI hL hS)
theorem WW_lload_n {X : cvT} {M : cvI} {pc : Nat} {st : List Value} {E : cvE} {σ : cvM} (hx : Cx X M) {j : Fin 4} {i : Nat} {v : Int} (hd : decode M.1 pc = .ok (.lload_n j, 1)) (hj : (j : Nat) = i) (hk : M.2.2.2.1.getD i 0 = 2) (hv : E.getD i none = some v) (k : okv 2 v → WW X M (pc + 1) (.long (Int64.ofInt v) :: st) E σ) : WW X M pc st E σ := by
  obtain ⟨p, l, e, R, s, m, args, below, meth, c, D, cA, ad, sd, sv, A, cells, slots, Q⟩ := X
  obtain ⟨h1, h2, h3, h4, h5, h6, h7, h8, h9, h10, h11, h12, h13, h14, h15⟩ := hx
  intro H ls locs hP hI hL hS
  have h0 := hL.2.2 i v hv
  rw [hk] at h0
  exact lv_lload_n h1 h2 hd hj h0.1 (k h0.2 H ls locs hP hI hL hS)
theorem WW_aload_s {X : cvT} {M : cvI} {pc : Nat} {st : List Value} {E : cvE} {σ : cvM} (hx : Cx X M) {j : Fin 4} {i : Nat} {v : Int} (hd : decode M.1 pc = .ok (.aload_n j, 1)) (hj : (j : Nat) = i) (hk : M.2.2.2.1.getD i 0 = 3) (hv : E.getD i none = some v) (k : okv 3 v → WW X M (pc + 1) (.ref (xsd X v.toNat) :: st) E σ) : WW X M pc st E σ := by
  obtain ⟨p, l, e, R, s, m, args, below, meth, c, D, cA, ad, sd, sv, A, cells, slots, Q⟩ := X
  obtain ⟨h1, h2, h3, h4, h5, h6, h7, h8, h9, h10, h11, h12, h13, h14, h15⟩ := hx
  intro H ls locs hP hI hL hS
  have h0 := hL.2.2 i v hv
  rw [hk] at h0
  exact lv_aload_n h1 h2 hd hj h0.1 (k h0.2 H ls locs hP hI hL hS)
theorem WW_iadd {X : cvT} {M : cvI} {pc : Nat} {st : List Value} {E : cvE} {σ : cvM} (hx : Cx X M) {x y : Int} (hd : decode M.1 pc = .ok (.iadd, 1)) (k : WW X M (pc + 1) (.int (Int32.ofInt (oadd x y)) :: st) E σ) : WW X M pc (.int (Int32.ofInt y) :: .int (Int32.ofInt x) :: st) E σ := by
  obtain ⟨p, l, e, R, s, m, args, below, meth, c, D, cA, ad, sd, sv, A, cells, slots, Q⟩ := X
  obtain ⟨h1, h2, h3, h4, h5, h6, h7, h8, h9, h10, h11, h12, h13, h14, h15⟩ := hx
  intro H ls locs hP hI hL hS
  have k0 := k H ls locs hP hI hL hS
  rw [o_add] at k0
  exact lv_iadd h1 h2 hd k0
theorem WW_isub {X : cvT} {M : cvI} {pc : Nat} {st : List Value} {E : cvE} {σ : cvM} (hx : Cx X M) {x y : Int} (hd : decode M.1 pc = .ok (.isub, 1)) (k : WW X M (pc + 1) (.int (Int32.ofInt (osub x y)) :: st) E σ) : WW X M pc (.int (Int32.ofInt y) :: .int (Int32.ofInt x) :: st) E σ := by
  obtain ⟨p, l, e, R, s, m, args, below, meth, c, D, cA, ad, sd, sv, A, cells, slots, Q⟩ := X
  obtain ⟨h1, h2, h3, h4, h5, h6, h7, h8, h9, h10, h11, h12, h13, h14, h15⟩ := hx
  intro H ls locs hP hI hL hS
  have k0 := k H ls locs hP hI hL hS
  rw [o_sub] at k0
  exact lv_isub h1 h2 hd k0
theorem WW_imul {X : cvT} {M : cvI} {pc : Nat} {st : List Value} {E : cvE} {σ : cvM} (hx : Cx X M) {x y : Int} (hd : decode M.1 pc = .ok (.imul, 1)) (k : WW X M (pc + 1) (.int (Int32.ofInt (omul x y)) :: st) E σ) : WW X M pc (.int (Int32.ofInt y) :: .int (Int32.ofInt x) :: st) E σ := by
  obtain ⟨p, l, e, R, s, m, args, below, meth, c, D, cA, ad, sd, sv, A, cells, slots, Q⟩ := X
  obtain ⟨h1, h2, h3, h4, h5, h6, h7, h8, h9, h10, h11, h12, h13, h14, h15⟩ := hx
  intro H ls locs hP hI hL hS
  have k0 := k H ls locs hP hI hL hS
  rw [o_mul] at k0
  exact lv_imul h1 h2 hd k0
theorem WW_iand {X : cvT} {M : cvI} {pc : Nat} {st : List Value} {E : cvE} {σ : cvM} (hx : Cx X M) {x y : Int} (hd : decode M.1 pc = .ok (.iand, 1)) (k : WW X M (pc + 1) (.int (Int32.ofInt (oand x y)) :: st) E σ) : WW X M pc (.int (Int32.ofInt y) :: .int (Int32.ofInt x) :: st) E σ := by
  obtain ⟨p, l, e, R, s, m, args, below, meth, c, D, cA, ad, sd, sv, A, cells, slots, Q⟩ := X
  obtain ⟨h1, h2, h3, h4, h5, h6, h7, h8, h9, h10, h11, h12, h13, h14, h15⟩ := hx
  intro H ls locs hP hI hL hS
  have k0 := k H ls locs hP hI hL hS
  rw [o_and] at k0
  exact lv_iand h1 h2 hd k0
theorem WW_ior {X : cvT} {M : cvI} {pc : Nat} {st : List Value} {E : cvE} {σ : cvM} (hx : Cx X M) {x y : Int} (hd : decode M.1 pc = .ok (.ior, 1)) (k : WW X M (pc + 1) (.int (Int32.ofInt (oor x y)) :: st) E σ) : WW X M pc (.int (Int32.ofInt y) :: .int (Int32.ofInt x) :: st) E σ := by
  obtain ⟨p, l, e, R, s, m, args, below, meth, c, D, cA, ad, sd, sv, A, cells, slots, Q⟩ := X
  obtain ⟨h1, h2, h3, h4, h5, h6, h7, h8, h9, h10, h11, h12, h13, h14, h15⟩ := hx
  intro H ls locs hP hI hL hS
  have k0 := k H ls locs hP hI hL hS
  rw [o_or] at k0
  exact lv_ior h1 h2 hd k0
theorem WW_ixor {X : cvT} {M : cvI} {pc : Nat} {st : List Value} {E : cvE} {σ : cvM} (hx : Cx X M) {x y : Int} (hd : decode M.1 pc = .ok (.ixor, 1)) (k : WW X M (pc + 1) (.int (Int32.ofInt (oxor x y)) :: st) E σ) : WW X M pc (.int (Int32.ofInt y) :: .int (Int32.ofInt x) :: st) E σ := by
  obtain ⟨p, l, e, R, s, m, args, below, meth, c, D, cA, ad, sd, sv, A, cells, slots, Q⟩ := X
  obtain ⟨h1, h2, h3, h4, h5, h6, h7, h8, h9, h10, h11, h12, h13, h14, h15⟩ := hx
  intro H ls locs hP hI hL hS
  have k0 := k H ls locs hP hI hL hS
  rw [o_xor] at k0
  exact lv_ixor h1 h2 hd k0
theorem WW_ishl {X : cvT} {M : cvI} {pc : Nat} {st : List Value} {E : cvE} {σ : cvM} (hx : Cx X M) {x y : Int} (hd : decode M.1 pc = .ok (.ishl, 1)) (k : WW X M (pc + 1) (.int (Int32.ofInt (oshl x y)) :: st) E σ) : WW X M pc (.int (Int32.ofInt y) :: .int (Int32.ofInt x) :: st) E σ := by
  obtain ⟨p, l, e, R, s, m, args, below, meth, c, D, cA, ad, sd, sv, A, cells, slots, Q⟩ := X
  obtain ⟨h1, h2, h3, h4, h5, h6, h7, h8, h9, h10, h11, h12, h13, h14, h15⟩ := hx
  intro H ls locs hP hI hL hS
  have k0 := k H ls locs hP hI hL hS
  rw [o_shl] at k0
  exact lv_ishl h1 h2 hd k0
theorem WW_ishr {X : cvT} {M : cvI} {pc : Nat} {st : List Value} {E : cvE} {σ : cvM} (hx : Cx X M) {x y : Int} (hd : decode M.1 pc = .ok (.ishr, 1)) (k : WW X M (pc + 1) (.int (Int32.ofInt (oshr x y)) :: st) E σ) : WW X M pc (.int (Int32.ofInt y) :: .int (Int32.ofInt x) :: st) E σ := by
  obtain ⟨p, l, e, R, s, m, args, below, meth, c, D, cA, ad, sd, sv, A, cells, slots, Q⟩ := X
  obtain ⟨h1, h2, h3, h4, h5, h6, h7, h8, h9, h10, h11, h12, h13, h14, h15⟩ := hx
  intro H ls locs hP hI hL hS
  have k0 := k H ls locs hP hI hL hS
  rw [o_shr] at k0
  exact lv_ishr h1 h2 hd k0
theorem WW_iushr {X : cvT} {M : cvI} {pc : Nat} {st : List Value} {E : cvE} {σ : cvM} (hx : Cx X M) {x y : Int} (hd : decode M.1 pc = .ok (.iushr, 1)) (k : WW X M (pc + 1) (.int (Int32.ofInt (oushr x y)) :: st) E σ) : WW X M pc (.int (Int32.ofInt y) :: .int (Int32.ofInt x) :: st) E σ := by
  obtain ⟨p, l, e, R, s, m, args, below, meth, c, D, cA, ad, sd, sv, A, cells, slots, Q⟩ := X
  obtain ⟨h1, h2, h3, h4, h5, h6, h7, h8, h9, h10, h11, h12, h13, h14, h15⟩ := hx
  intro H ls locs hP hI hL hS
  exact lv_iushr h1 h2 hd (o_ushr x y).symm (k H ls locs hP hI hL hS)
theorem WW_idiv {X : cvT} {M : cvI} {pc : Nat} {st : List Value} {E : cvE} {σ : cvM} (hx : Cx X M) {x y : Int} (hd : decode M.1 pc = .ok (.idiv, 1)) (a : InR x) (b : InR y) (hy : ¬ y = 0) (k : WW X M (pc + 1) (.int (Int32.ofInt (odiv x y)) :: st) E σ) : WW X M pc (.int (Int32.ofInt y) :: .int (Int32.ofInt x) :: st) E σ := by
  obtain ⟨p, l, e, R, s, m, args, below, meth, c, D, cA, ad, sd, sv, A, cells, slots, Q⟩ := X
  obtain ⟨h1, h2, h3, h4, h5, h6, h7, h8, h9, h10, h11, h12, h13, h14, h15⟩ := hx
  intro H ls locs hP hI hL hS
  have k0 := k H ls locs hP hI hL hS
  rw [o_div a b] at k0
  exact lv_idiv h1 h2 hd (fun z => hy ((q_eq b ⟨by decide, by decide⟩).mp z)) k0
theorem WW_irem {X : cvT} {M : cvI} {pc : Nat} {st : List Value} {E : cvE} {σ : cvM} (hx : Cx X M) {x y : Int} (hd : decode M.1 pc = .ok (.irem, 1)) (a : InR x) (b : InR y) (hy : ¬ y = 0) (k : WW X M (pc + 1) (.int (Int32.ofInt (rmd x y)) :: st) E σ) : WW X M pc (.int (Int32.ofInt y) :: .int (Int32.ofInt x) :: st) E σ := by
  obtain ⟨p, l, e, R, s, m, args, below, meth, c, D, cA, ad, sd, sv, A, cells, slots, Q⟩ := X
  obtain ⟨h1, h2, h3, h4, h5, h6, h7, h8, h9, h10, h11, h12, h13, h14, h15⟩ := hx
  intro H ls locs hP hI hL hS
  have k0 := k H ls locs hP hI hL hS
  rw [o_rem a b] at k0
  exact lv_irem h1 h2 hd (fun z => hy ((q_eq b ⟨by decide, by decide⟩).mp z)) k0
theorem WW_ineg {X : cvT} {M : cvI} {pc : Nat} {st : List Value} {E : cvE} {σ : cvM} (hx : Cx X M) {x : Int} (hd : decode M.1 pc = .ok (.ineg, 1)) (k : WW X M (pc + 1) (.int (Int32.ofInt (oneg x)) :: st) E σ) : WW X M pc (.int (Int32.ofInt x) :: st) E σ := by
  obtain ⟨p, l, e, R, s, m, args, below, meth, c, D, cA, ad, sd, sv, A, cells, slots, Q⟩ := X
  obtain ⟨h1, h2, h3, h4, h5, h6, h7, h8, h9, h10, h11, h12, h13, h14, h15⟩ := hx
  intro H ls locs hP hI hL hS
  have k0 := k H ls locs hP hI hL hS
  rw [o_neg] at k0
  exact lv_ineg h1 h2 hd k0
theorem WW_i2b {X : cvT} {M : cvI} {pc : Nat} {st : List Value} {E : cvE} {σ : cvM} (hx : Cx X M) {x : Int} (hd : decode M.1 pc = .ok (.i2b, 1)) (k : WW X M (pc + 1) (.int (Int32.ofInt (ob x)) :: st) E σ) : WW X M pc (.int (Int32.ofInt x) :: st) E σ := by
  obtain ⟨p, l, e, R, s, m, args, below, meth, c, D, cA, ad, sd, sv, A, cells, slots, Q⟩ := X
  obtain ⟨h1, h2, h3, h4, h5, h6, h7, h8, h9, h10, h11, h12, h13, h14, h15⟩ := hx
  intro H ls locs hP hI hL hS
  exact lv_i2b h1 h2 hd (o_b x) (k H ls locs hP hI hL hS)
theorem WW_i2s {X : cvT} {M : cvI} {pc : Nat} {st : List Value} {E : cvE} {σ : cvM} (hx : Cx X M) {x : Int} (hd : decode M.1 pc = .ok (.i2s, 1)) (k : WW X M (pc + 1) (.int (Int32.ofInt (os x)) :: st) E σ) : WW X M pc (.int (Int32.ofInt x) :: st) E σ := by
  obtain ⟨p, l, e, R, s, m, args, below, meth, c, D, cA, ad, sd, sv, A, cells, slots, Q⟩ := X
  obtain ⟨h1, h2, h3, h4, h5, h6, h7, h8, h9, h10, h11, h12, h13, h14, h15⟩ := hx
  intro H ls locs hP hI hL hS
  exact lv_i2s h1 h2 hd (o_s x) (k H ls locs hP hI hL hS)
theorem WW_l2i {X : cvT} {M : cvI} {pc : Nat} {st : List Value} {E : cvE} {σ : cvM} (hx : Cx X M) {x : Int} (hd : decode M.1 pc = .ok (.l2i, 1)) (a : InL x) (k : WW X M (pc + 1) (.int (Int32.ofInt (wr x)) :: st) E σ) : WW X M pc (.long (Int64.ofInt x) :: st) E σ := by
  obtain ⟨p, l, e, R, s, m, args, below, meth, c, D, cA, ad, sd, sv, A, cells, slots, Q⟩ := X
  obtain ⟨h1, h2, h3, h4, h5, h6, h7, h8, h9, h10, h11, h12, h13, h14, h15⟩ := hx
  intro H ls locs hP hI hL hS
  exact lv_l2i h1 h2 hd (o_l2i a) (k H ls locs hP hI hL hS)
theorem WW_i2l {X : cvT} {M : cvI} {pc : Nat} {st : List Value} {E : cvE} {σ : cvM} (hx : Cx X M) {x : Int} (hd : decode M.1 pc = .ok (.i2l, 1)) (a : InR x) (k : WW X M (pc + 1) (.long (Int64.ofInt x) :: st) E σ) : WW X M pc (.int (Int32.ofInt x) :: st) E σ := by
  obtain ⟨p, l, e, R, s, m, args, below, meth, c, D, cA, ad, sd, sv, A, cells, slots, Q⟩ := X
  obtain ⟨h1, h2, h3, h4, h5, h6, h7, h8, h9, h10, h11, h12, h13, h14, h15⟩ := hx
  intro H ls locs hP hI hL hS
  exact lv_i2l h1 h2 hd (o_i2l a) (k H ls locs hP hI hL hS)
theorem WW_land {X : cvT} {M : cvI} {pc : Nat} {st : List Value} {E : cvE} {σ : cvM} (hx : Cx X M) {x y : Int} (hd : decode M.1 pc = .ok (.land, 1)) (k : WW X M (pc + 1) (.long (Int64.ofInt (oland x y)) :: st) E σ) : WW X M pc (.long (Int64.ofInt y) :: .long (Int64.ofInt x) :: st) E σ := by
  obtain ⟨p, l, e, R, s, m, args, below, meth, c, D, cA, ad, sd, sv, A, cells, slots, Q⟩ := X
  obtain ⟨h1, h2, h3, h4, h5, h6, h7, h8, h9, h10, h11, h12, h13, h14, h15⟩ := hx
  intro H ls locs hP hI hL hS
  have k0 := k H ls locs hP hI hL hS
  rw [show Int64.ofInt (oland x y) = Int64.ofInt x &&& Int64.ofInt y from l_of _] at k0
  exact lv_land h1 h2 hd k0
theorem WW_lor {X : cvT} {M : cvI} {pc : Nat} {st : List Value} {E : cvE} {σ : cvM} (hx : Cx X M) {x y : Int} (hd : decode M.1 pc = .ok (.lor, 1)) (k : WW X M (pc + 1) (.long (Int64.ofInt (olor x y)) :: st) E σ) : WW X M pc (.long (Int64.ofInt y) :: .long (Int64.ofInt x) :: st) E σ := by
  obtain ⟨p, l, e, R, s, m, args, below, meth, c, D, cA, ad, sd, sv, A, cells, slots, Q⟩ := X
  obtain ⟨h1, h2, h3, h4, h5, h6, h7, h8, h9, h10, h11, h12, h13, h14, h15⟩ := hx
  intro H ls locs hP hI hL hS
  have k0 := k H ls locs hP hI hL hS
  rw [show Int64.ofInt (olor x y) = Int64.ofInt x ||| Int64.ofInt y from l_of _] at k0
  exact lv_lor h1 h2 hd k0
theorem WW_lshl {X : cvT} {M : cvI} {pc : Nat} {st : List Value} {E : cvE} {σ : cvM} (hx : Cx X M) {x y : Int} (hd : decode M.1 pc = .ok (.lshl, 1)) (k : WW X M (pc + 1) (.long (Int64.ofInt (olshl x y)) :: st) E σ) : WW X M pc (.int (Int32.ofInt y) :: .long (Int64.ofInt x) :: st) E σ := by
  obtain ⟨p, l, e, R, s, m, args, below, meth, c, D, cA, ad, sd, sv, A, cells, slots, Q⟩ := X
  obtain ⟨h1, h2, h3, h4, h5, h6, h7, h8, h9, h10, h11, h12, h13, h14, h15⟩ := hx
  intro H ls locs hP hI hL hS
  exact lv_lshl h1 h2 hd (l_of _).symm (k H ls locs hP hI hL hS)
theorem WW_lshr {X : cvT} {M : cvI} {pc : Nat} {st : List Value} {E : cvE} {σ : cvM} (hx : Cx X M) {x y : Int} (hd : decode M.1 pc = .ok (.lshr, 1)) (k : WW X M (pc + 1) (.long (Int64.ofInt (olshr x y)) :: st) E σ) : WW X M pc (.int (Int32.ofInt y) :: .long (Int64.ofInt x) :: st) E σ := by
  obtain ⟨p, l, e, R, s, m, args, below, meth, c, D, cA, ad, sd, sv, A, cells, slots, Q⟩ := X
  obtain ⟨h1, h2, h3, h4, h5, h6, h7, h8, h9, h10, h11, h12, h13, h14, h15⟩ := hx
  intro H ls locs hP hI hL hS
  exact lv_lshr h1 h2 hd (l_of _).symm (k H ls locs hP hI hL hS)
theorem WW_lushr {X : cvT} {M : cvI} {pc : Nat} {st : List Value} {E : cvE} {σ : cvM} (hx : Cx X M) {x y : Int} (hd : decode M.1 pc = .ok (.lushr, 1)) (k : WW X M (pc + 1) (.long (Int64.ofInt (olushr x y)) :: st) E σ) : WW X M pc (.int (Int32.ofInt y) :: .long (Int64.ofInt x) :: st) E σ := by
  obtain ⟨p, l, e, R, s, m, args, below, meth, c, D, cA, ad, sd, sv, A, cells, slots, Q⟩ := X
  obtain ⟨h1, h2, h3, h4, h5, h6, h7, h8, h9, h10, h11, h12, h13, h14, h15⟩ := hx
  intro H ls locs hP hI hL hS
  exact lv_lushr h1 h2 hd (l_of _).symm (k H ls locs hP hI hL hS)
theorem WW_dup {X : cvT} {M : cvI} {pc : Nat} {st : List Value} {E : cvE} {σ : cvM} (hx : Cx X M) {v : Value} (hd : decode M.1 pc = .ok (.dup, 1)) (hc : v.category = 1) (k : WW X M (pc + 1) (v :: v :: st) E σ) : WW X M pc (v :: st) E σ := by
  obtain ⟨p, l, e, R, s, m, args, below, meth, c, D, cA, ad, sd, sv, A, cells, slots, Q⟩ := X
  obtain ⟨h1, h2, h3, h4, h5, h6, h7, h8, h9, h10, h11, h12, h13, h14, h15⟩ := hx
  intro H ls locs hP hI hL hS
  exact lv_dup h1 h2 hd hc (k H ls locs hP hI hL hS)
theorem WW_pop {X : cvT} {M : cvI} {pc : Nat} {st : List Value} {E : cvE} {σ : cvM} (hx : Cx X M) {v : Value} (hd : decode M.1 pc = .ok (.pop, 1)) (hc : v.category = 1) (k : WW X M (pc + 1) st E σ) : WW X M pc (v :: st) E σ := by
  obtain ⟨p, l, e, R, s, m, args, below, meth, c, D, cA, ad, sd, sv, A, cells, slots, Q⟩ := X
  obtain ⟨h1, h2, h3, h4, h5, h6, h7, h8, h9, h10, h11, h12, h13, h14, h15⟩ := hx
  intro H ls locs hP hI hL hS
  exact lv_pop h1 h2 hd hc (k H ls locs hP hI hL hS)
theorem WW_dup2 {X : cvT} {M : cvI} {pc : Nat} {st : List Value} {E : cvE} {σ : cvM} (hx : Cx X M) {v w : Value} (hd : decode M.1 pc = .ok (.dup2, 1)) (hc : v.category = 1) (hc2 : w.category = 1) (k : WW X M (pc + 1) (v :: w :: v :: w :: st) E σ) : WW X M pc (v :: w :: st) E σ := by
  obtain ⟨p, l, e, R, s, m, args, below, meth, c, D, cA, ad, sd, sv, A, cells, slots, Q⟩ := X
  obtain ⟨h1, h2, h3, h4, h5, h6, h7, h8, h9, h10, h11, h12, h13, h14, h15⟩ := hx
  intro H ls locs hP hI hL hS
  exact lv_dup2_11 h1 h2 hd hc hc2 (k H ls locs hP hI hL hS)
theorem WW_goto {X : cvT} {M : cvI} {pc : Nat} {st : List Value} {E : cvE} {σ : cvM} (hx : Cx X M) {off : Int} {tgt : Nat} (hd : decode M.1 pc = .ok (.goto off, 3)) (ht : (pc : Int) + off = (tgt : Int)) (k : WW X M tgt st E σ) : WW X M pc st E σ := by
  obtain ⟨p, l, e, R, s, m, args, below, meth, c, D, cA, ad, sd, sv, A, cells, slots, Q⟩ := X
  obtain ⟨h1, h2, h3, h4, h5, h6, h7, h8, h9, h10, h11, h12, h13, h14, h15⟩ := hx
  intro H ls locs hP hI hL hS
  exact lv_goto h1 h2 hd ht (k H ls locs hP hI hL hS)
theorem WW_icmp_eq {X : cvT} {M : cvI} {pc : Nat} {st : List Value} {E : cvE} {σ : cvM} (hx : Cx X M) {x y : Int} {off : Int} {tgt : Nat} (hd : decode M.1 pc = .ok (.if_icmp .eq off, 3)) (ht : (pc : Int) + off = (tgt : Int)) (a : InR x) (b : InR y) (kt : qeq x y = true → WW X M tgt st E σ) (kf : qeq x y = false → WW X M (pc + 3) st E σ) : WW X M pc (.int (Int32.ofInt y) :: .int (Int32.ofInt x) :: st) E σ := by
  obtain ⟨p, l, e, R, s, m, args, below, meth, c, D, cA, ad, sd, sv, A, cells, slots, Q⟩ := X
  obtain ⟨h1, h2, h3, h4, h5, h6, h7, h8, h9, h10, h11, h12, h13, h14, h15⟩ := hx
  intro H ls locs hP hI hL hS
  have q := q_eq a b
  refine lv_icmp_eq h1 h2 hd ht (fun z => kt ?_ H ls locs hP hI hL hS) (fun z => kf ?_ H ls locs hP hI hL hS)
  · have z2 := q.mp z
    simp [qeq, z2]
  · have z2 := fun z3 => z (q.mpr z3)
    simpa [qeq] using z2
theorem WW_if_eq {X : cvT} {M : cvI} {pc : Nat} {st : List Value} {E : cvE} {σ : cvM} (hx : Cx X M) {x : Int} {off : Int} {tgt : Nat} (hd : decode M.1 pc = .ok (.ifCond .eq off, 3)) (ht : (pc : Int) + off = (tgt : Int)) (a : InR x) (kt : qeq x 0 = true → WW X M tgt st E σ) (kf : qeq x 0 = false → WW X M (pc + 3) st E σ) : WW X M pc (.int (Int32.ofInt x) :: st) E σ := by
  obtain ⟨p, l, e, R, s, m, args, below, meth, c, D, cA, ad, sd, sv, A, cells, slots, Q⟩ := X
  obtain ⟨h1, h2, h3, h4, h5, h6, h7, h8, h9, h10, h11, h12, h13, h14, h15⟩ := hx
  intro H ls locs hP hI hL hS
  have b : InR 0 := ⟨by decide, by decide⟩
  have q := q_eq a b
  refine lv_if_eq h1 h2 hd ht (fun z => kt ?_ H ls locs hP hI hL hS) (fun z => kf ?_ H ls locs hP hI hL hS)
  · have z2 := q.mp z
    simp [qeq, z2]
  · have z2 := fun z3 => z (q.mpr z3)
    simpa [qeq] using z2
theorem WW_icmp_ne {X : cvT} {M : cvI} {pc : Nat} {st : List Value} {E : cvE} {σ : cvM} (hx : Cx X M) {x y : Int} {off : Int} {tgt : Nat} (hd : decode M.1 pc = .ok (.if_icmp .ne off, 3)) (ht : (pc : Int) + off = (tgt : Int)) (a : InR x) (b : InR y) (kt : qne x y = true → WW X M tgt st E σ) (kf : qne x y = false → WW X M (pc + 3) st E σ) : WW X M pc (.int (Int32.ofInt y) :: .int (Int32.ofInt x) :: st) E σ := by
  obtain ⟨p, l, e, R, s, m, args, below, meth, c, D, cA, ad, sd, sv, A, cells, slots, Q⟩ := X
  obtain ⟨h1, h2, h3, h4, h5, h6, h7, h8, h9, h10, h11, h12, h13, h14, h15⟩ := hx
  intro H ls locs hP hI hL hS
  have q := q_eq a b
  refine lv_icmp_ne h1 h2 hd ht (fun z => kt ?_ H ls locs hP hI hL hS) (fun z => kf ?_ H ls locs hP hI hL hS)
  · have z2 := fun z3 => z (q.mpr z3)
    simpa [qne] using z2
  · have z2 := q.mp z
    simp [qne, z2]
theorem WW_if_ne {X : cvT} {M : cvI} {pc : Nat} {st : List Value} {E : cvE} {σ : cvM} (hx : Cx X M) {x : Int} {off : Int} {tgt : Nat} (hd : decode M.1 pc = .ok (.ifCond .ne off, 3)) (ht : (pc : Int) + off = (tgt : Int)) (a : InR x) (kt : qne x 0 = true → WW X M tgt st E σ) (kf : qne x 0 = false → WW X M (pc + 3) st E σ) : WW X M pc (.int (Int32.ofInt x) :: st) E σ := by
  obtain ⟨p, l, e, R, s, m, args, below, meth, c, D, cA, ad, sd, sv, A, cells, slots, Q⟩ := X
  obtain ⟨h1, h2, h3, h4, h5, h6, h7, h8, h9, h10, h11, h12, h13, h14, h15⟩ := hx
  intro H ls locs hP hI hL hS
  have b : InR 0 := ⟨by decide, by decide⟩
  have q := q_eq a b
  refine lv_if_ne h1 h2 hd ht (fun z => kt ?_ H ls locs hP hI hL hS) (fun z => kf ?_ H ls locs hP hI hL hS)
  · have z2 := fun z3 => z (q.mpr z3)
    simpa [qne] using z2
  · have z2 := q.mp z
    simp [qne, z2]
theorem WW_icmp_lt {X : cvT} {M : cvI} {pc : Nat} {st : List Value} {E : cvE} {σ : cvM} (hx : Cx X M) {x y : Int} {off : Int} {tgt : Nat} (hd : decode M.1 pc = .ok (.if_icmp .lt off, 3)) (ht : (pc : Int) + off = (tgt : Int)) (a : InR x) (b : InR y) (kt : qlt x y = true → WW X M tgt st E σ) (kf : qlt x y = false → WW X M (pc + 3) st E σ) : WW X M pc (.int (Int32.ofInt y) :: .int (Int32.ofInt x) :: st) E σ := by
  obtain ⟨p, l, e, R, s, m, args, below, meth, c, D, cA, ad, sd, sv, A, cells, slots, Q⟩ := X
  obtain ⟨h1, h2, h3, h4, h5, h6, h7, h8, h9, h10, h11, h12, h13, h14, h15⟩ := hx
  intro H ls locs hP hI hL hS
  have q := q_lt a b
  refine lv_icmp_lt h1 h2 hd ht (fun z => kt ?_ H ls locs hP hI hL hS) (fun z => kf ?_ H ls locs hP hI hL hS)
  · have z2 := q.mp z
    simp [qlt, z2]
  · have z2 := fun z3 => z (q.mpr z3)
    simpa [qlt] using z2
theorem WW_if_lt {X : cvT} {M : cvI} {pc : Nat} {st : List Value} {E : cvE} {σ : cvM} (hx : Cx X M) {x : Int} {off : Int} {tgt : Nat} (hd : decode M.1 pc = .ok (.ifCond .lt off, 3)) (ht : (pc : Int) + off = (tgt : Int)) (a : InR x) (kt : qlt x 0 = true → WW X M tgt st E σ) (kf : qlt x 0 = false → WW X M (pc + 3) st E σ) : WW X M pc (.int (Int32.ofInt x) :: st) E σ := by
  obtain ⟨p, l, e, R, s, m, args, below, meth, c, D, cA, ad, sd, sv, A, cells, slots, Q⟩ := X
  obtain ⟨h1, h2, h3, h4, h5, h6, h7, h8, h9, h10, h11, h12, h13, h14, h15⟩ := hx
  intro H ls locs hP hI hL hS
  have b : InR 0 := ⟨by decide, by decide⟩
  have q := q_lt a b
  refine lv_if_lt h1 h2 hd ht (fun z => kt ?_ H ls locs hP hI hL hS) (fun z => kf ?_ H ls locs hP hI hL hS)
  · have z2 := q.mp z
    simp [qlt, z2]
  · have z2 := fun z3 => z (q.mpr z3)
    simpa [qlt] using z2
theorem WW_icmp_ge {X : cvT} {M : cvI} {pc : Nat} {st : List Value} {E : cvE} {σ : cvM} (hx : Cx X M) {x y : Int} {off : Int} {tgt : Nat} (hd : decode M.1 pc = .ok (.if_icmp .ge off, 3)) (ht : (pc : Int) + off = (tgt : Int)) (a : InR x) (b : InR y) (kt : qge x y = true → WW X M tgt st E σ) (kf : qge x y = false → WW X M (pc + 3) st E σ) : WW X M pc (.int (Int32.ofInt y) :: .int (Int32.ofInt x) :: st) E σ := by
  obtain ⟨p, l, e, R, s, m, args, below, meth, c, D, cA, ad, sd, sv, A, cells, slots, Q⟩ := X
  obtain ⟨h1, h2, h3, h4, h5, h6, h7, h8, h9, h10, h11, h12, h13, h14, h15⟩ := hx
  intro H ls locs hP hI hL hS
  have q := q_le b a
  refine lv_icmp_ge h1 h2 hd ht (fun z => kt ?_ H ls locs hP hI hL hS) (fun z => kf ?_ H ls locs hP hI hL hS)
  · have z2 := q.mp z
    simp [qge, z2]
  · have z2 := fun z3 => z (q.mpr z3)
    simpa [qge] using z2
theorem WW_if_ge {X : cvT} {M : cvI} {pc : Nat} {st : List Value} {E : cvE} {σ : cvM} (hx : Cx X M) {x : Int} {off : Int} {tgt : Nat} (hd : decode M.1 pc = .ok (.ifCond .ge off, 3)) (ht : (pc : Int) + off = (tgt : Int)) (a : InR x) (kt : qge x 0 = true → WW X M tgt st E σ) (kf : qge x 0 = false → WW X M (pc + 3) st E σ) : WW X M pc (.int (Int32.ofInt x) :: st) E σ := by
  obtain ⟨p, l, e, R, s, m, args, below, meth, c, D, cA, ad, sd, sv, A, cells, slots, Q⟩ := X
  obtain ⟨h1, h2, h3, h4, h5, h6, h7, h8, h9, h10, h11, h12, h13, h14, h15⟩ := hx
  intro H ls locs hP hI hL hS
  have b : InR 0 := ⟨by decide, by decide⟩
  have q := q_le b a
  refine lv_if_ge h1 h2 hd ht (fun z => kt ?_ H ls locs hP hI hL hS) (fun z => kf ?_ H ls locs hP hI hL hS)
  · have z2 := q.mp z
    simp [qge, z2]
  · have z2 := fun z3 => z (q.mpr z3)
    simpa [qge] using z2
theorem WW_icmp_gt {X : cvT} {M : cvI} {pc : Nat} {st : List Value} {E : cvE} {σ : cvM} (hx : Cx X M) {x y : Int} {off : Int} {tgt : Nat} (hd : decode M.1 pc = .ok (.if_icmp .gt off, 3)) (ht : (pc : Int) + off = (tgt : Int)) (a : InR x) (b : InR y) (kt : qgt x y = true → WW X M tgt st E σ) (kf : qgt x y = false → WW X M (pc + 3) st E σ) : WW X M pc (.int (Int32.ofInt y) :: .int (Int32.ofInt x) :: st) E σ := by
  obtain ⟨p, l, e, R, s, m, args, below, meth, c, D, cA, ad, sd, sv, A, cells, slots, Q⟩ := X
  obtain ⟨h1, h2, h3, h4, h5, h6, h7, h8, h9, h10, h11, h12, h13, h14, h15⟩ := hx
  intro H ls locs hP hI hL hS
  have q := q_lt b a
  refine lv_icmp_gt h1 h2 hd ht (fun z => kt ?_ H ls locs hP hI hL hS) (fun z => kf ?_ H ls locs hP hI hL hS)
  · have z2 := q.mp z
    simp [qgt, z2]
  · have z2 := fun z3 => z (q.mpr z3)
    simpa [qgt] using z2
theorem WW_if_gt {X : cvT} {M : cvI} {pc : Nat} {st : List Value} {E : cvE} {σ : cvM} (hx : Cx X M) {x : Int} {off : Int} {tgt : Nat} (hd : decode M.1 pc = .ok (.ifCond .gt off, 3)) (ht : (pc : Int) + off = (tgt : Int)) (a : InR x) (kt : qgt x 0 = true → WW X M tgt st E σ) (kf : qgt x 0 = false → WW X M (pc + 3) st E σ) : WW X M pc (.int (Int32.ofInt x) :: st) E σ := by
  obtain ⟨p, l, e, R, s, m, args, below, meth, c, D, cA, ad, sd, sv, A, cells, slots, Q⟩ := X
  obtain ⟨h1, h2, h3, h4, h5, h6, h7, h8, h9, h10, h11, h12, h13, h14, h15⟩ := hx
  intro H ls locs hP hI hL hS
  have b : InR 0 := ⟨by decide, by decide⟩
  have q := q_lt b a
  refine lv_if_gt h1 h2 hd ht (fun z => kt ?_ H ls locs hP hI hL hS) (fun z => kf ?_ H ls locs hP hI hL hS)
  · have z2 := q.mp z
    simp [qgt, z2]
  · have z2 := fun z3 => z (q.mpr z3)
    simpa [qgt] using z2
theorem WW_icmp_le {X : cvT} {M : cvI} {pc : Nat} {st : List Value} {E : cvE} {σ : cvM} (hx : Cx X M) {x y : Int} {off : Int} {tgt : Nat} (hd : decode M.1 pc = .ok (.if_icmp .le off, 3)) (ht : (pc : Int) + off = (tgt : Int)) (a : InR x) (b : InR y) (kt : qle x y = true → WW X M tgt st E σ) (kf : qle x y = false → WW X M (pc + 3) st E σ) : WW X M pc (.int (Int32.ofInt y) :: .int (Int32.ofInt x) :: st) E σ := by
  obtain ⟨p, l, e, R, s, m, args, below, meth, c, D, cA, ad, sd, sv, A, cells, slots, Q⟩ := X
  obtain ⟨h1, h2, h3, h4, h5, h6, h7, h8, h9, h10, h11, h12, h13, h14, h15⟩ := hx
  intro H ls locs hP hI hL hS
  have q := q_le a b
  refine lv_icmp_le h1 h2 hd ht (fun z => kt ?_ H ls locs hP hI hL hS) (fun z => kf ?_ H ls locs hP hI hL hS)
  · have z2 := q.mp z
    simp [qle, z2]
  · have z2 := fun z3 => z (q.mpr z3)
    simpa [qle] using z2
theorem WW_if_le {X : cvT} {M : cvI} {pc : Nat} {st : List Value} {E : cvE} {σ : cvM} (hx : Cx X M) {x : Int} {off : Int} {tgt : Nat} (hd : decode M.1 pc = .ok (.ifCond .le off, 3)) (ht : (pc : Int) + off = (tgt : Int)) (a : InR x) (kt : qle x 0 = true → WW X M tgt st E σ) (kf : qle x 0 = false → WW X M (pc + 3) st E σ) : WW X M pc (.int (Int32.ofInt x) :: st) E σ := by
  obtain ⟨p, l, e, R, s, m, args, below, meth, c, D, cA, ad, sd, sv, A, cells, slots, Q⟩ := X
  obtain ⟨h1, h2, h3, h4, h5, h6, h7, h8, h9, h10, h11, h12, h13, h14, h15⟩ := hx
  intro H ls locs hP hI hL hS
  have b : InR 0 := ⟨by decide, by decide⟩
  have q := q_le a b
  refine lv_if_le h1 h2 hd ht (fun z => kt ?_ H ls locs hP hI hL hS) (fun z => kf ?_ H ls locs hP hI hL hS)
  · have z2 := q.mp z
    simp [qle, z2]
  · have z2 := fun z3 => z (q.mpr z3)
    simpa [qle] using z2
