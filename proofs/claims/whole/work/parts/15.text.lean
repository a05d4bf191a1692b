/-! ===== TEXTS, THE SCRIPT ===== -/
theorem isTx_of {t : Int} (h : isTx t = true) : 0 ≤ t ∧ t < 13 := by simpa [isTx] using h
theorem isTv_of {t : Int} (h : isTv t = true) : 14 ≤ t ∧ t < 27 := by simpa [isTv] using h
theorem tx_tab : ∀ i : Nat, i < 13 → lenJS.getD i 0 = (txL.getD i []).length ∧ (txL.getD i []).length < 100 ∧ ∀ j : Nat, j < (txL.getD i []).length → (bytJS.getD i []).getD j 0 = Int32.ofInt ((txL.getD i []).getD j 0) ∧ 0 ≤ (txL.getD i []).getD j 0 ∧ (txL.getD i []).getD j 0 < 128 := by decide +kernel
theorem EI.str {M : cvI} {d pc i : Nat} {n : Int} (hd : decode M.1 pc = .ok (.ldc i, 2)) (hn : 0 ≤ n ∧ n < 13) (hi : jsI.getD n.toNat 0 = i) (hM : M.2.2.1 = RX7) : EI M d pc (pc + 2) 3 (xe_lit n) := by
  intro X hx rest E σ v σ' he _ kk
  cases he
  have kk := kk hn.1
  obtain ⟨p, l, e, R, s, m, args, below, meth, c, D, cA, ad, sd, sv, A, cells, slots, Q⟩ := X
  obtain ⟨h1, h2, h3, h4, h5, h6, h7, h8, h9, h10, h11, h12, h13, h14, h15⟩ := hx
  intro H ls locs hP hI hL hS
  have hr := h9.2.1 n.toNat (by omega)
  rw [hi] at hr
  rw [hM] at h4
  exact va_ldcS h1 h2 h4 hr hd (kk H ls locs hP hI hL hS)
theorem EI.cs {M : cvI} {d pc i : Nat} (hd : decode M.1 pc = .ok (.getstatic i, 3)) (hl : Cond.fieldLink M.2.2.1 i "java/lang/String" "COMPACT_STRINGS" "Z" ∈ BIG) : EI M d pc (pc + 3) 0 (xe_lit 1) := by
  intro X hx rest E σ v σ' he _ kk
  cases he
  have kk := kk ⟨by decide, by decide⟩
  obtain ⟨p, l, e, R, s, m, args, below, meth, c, D, cA, ad, sd, sv, A, cells, slots, Q⟩ := X
  obtain ⟨h1, h2, h3, h4, h5, h6, h7, h8, h9, h10, h11, h12, h13, h14, h15⟩ := hx
  intro H ls locs hP hI hL hS
  exact va_gets h1 h2 h9.2.2.1 hS h4 (h5 _ hl) (fun _ h => h) hd (kk H ls locs hP hI hL hS)
theorem EI.fm {M : cvI} {d pc i : Nat} (hd : decode M.1 pc = .ok (.getstatic i, 3)) (hl : Cond.fieldLink M.2.2.1 i "jdk/internal/util/Preconditions" "SIOOBE_FORMATTER" "Ljava/util/function/BiFunction;" ∈ BIG) : EI M d pc (pc + 3) 4 (xe_lit 30) := by
  intro X hx rest E σ v σ' he _ kk
  cases he
  have kk := kk (show (0 : Int) ≤ 30 by decide)
  obtain ⟨p, l, e, R, s, m, args, below, meth, c, D, cA, ad, sd, sv, A, cells, slots, Q⟩ := X
  obtain ⟨h1, h2, h3, h4, h5, h6, h7, h8, h9, h10, h11, h12, h13, h14, h15⟩ := hx
  intro H ls locs hP hI hL hS
  exact va_gets h1 h2 h9.2.2.2.1 hS h4 (h5 _ hl) (fun _ h => h) hd (kk H ls locs hP hI hL hS)
theorem EI.tv {M : cvI} {d pc p1 i : Nat} {a : cvX} (ha : EI M d pc p1 3 a) (hd : decode M.1 p1 = .ok (.getfield i, 3)) (hl : Cond.fieldLink M.2.2.1 i "java/lang/String" "value" "[B" ∈ BIG) : EI M d pc (p1 + 3) 3 (xe_tv a) := by
  intro X hx rest E σ v σ' he hs kk
  obtain ⟨⟨x, σ1⟩, e1, he⟩ := bnd he
  dsimp only at he
  split at he
  · rename_i hi
    obtain ⟨rfl, rfl⟩ := bnd2 he
    have hi := isTx_of hi
    refine ha X hx rest E σ x σ1 e1 hs (fun o1 => ?_)
    have kk := kk (show 0 ≤ 14 + x by omega)
    obtain ⟨p, l, e, R, s, m, args, below, meth, c, D, cA, ad, sd, sv, A, cells, slots, Q⟩ := X
    obtain ⟨h1, h2, h3, h4, h5, h6, h7, h8, h9, h10, h11, h12, h13, h14, h15⟩ := hx
    intro H ls locs hP hI hL hS
    have h := (h9.1.1 x.toNat (by omega)).2.2.1
    refine vk_getf h1 h2 h hS h4 (h5 _ hl) (fun _ h => h) hd ?_
    rw [← h9.2.2.2.2 x.toNat (by omega)]
    have e2 : 14 + x.toNat = (14 + x).toNat := by omega
    rw [e2]
    exact kk H ls locs hP hI hL hS
  · cases he
theorem EI.tz {M : cvI} {d pc p1 i : Nat} {a : cvX} (ha : EI M d pc p1 3 a) (hd : decode M.1 p1 = .ok (.getfield i, 3)) (hl : Cond.fieldLink M.2.2.1 i "java/lang/String" "coder" "B" ∈ BIG) : EI M d pc (p1 + 3) 0 (xe_tz a) := by
  intro X hx rest E σ v σ' he hs kk
  obtain ⟨⟨x, σ1⟩, e1, he⟩ := bnd he
  dsimp only at he
  split at he
  · rename_i hi
    obtain ⟨rfl, rfl⟩ := bnd2 he
    have hi := isTx_of hi
    refine ha X hx rest E σ x σ1 e1 hs (fun o1 => ?_)
    have kk := kk ⟨by decide, by decide⟩
    obtain ⟨p, l, e, R, s, m, args, below, meth, c, D, cA, ad, sd, sv, A, cells, slots, Q⟩ := X
    obtain ⟨h1, h2, h3, h4, h5, h6, h7, h8, h9, h10, h11, h12, h13, h14, h15⟩ := hx
    intro H ls locs hP hI hL hS
    have h := (h9.1.1 x.toNat (by omega)).2.1
    exact vk_getf h1 h2 h hS h4 (h5 _ hl) (fun _ h => h) hd (kk H ls locs hP hI hL hS)
  · cases he
theorem EI.vl {M : cvI} {d pc p1 : Nat} {a : cvX} (ha : EI M d pc p1 3 a) (hd : decode M.1 p1 = .ok (.arraylength, 1)) : EI M d pc (p1 + 1) 0 (xe_vl a) := by
  intro X hx rest E σ v σ' he hs kk
  obtain ⟨⟨x, σ1⟩, e1, he⟩ := bnd he
  dsimp only at he
  split at he
  · rename_i hi
    obtain ⟨rfl, rfl⟩ := bnd2 he
    have hi := isTv_of hi
    have ht := tx_tab (x - 14).toNat (by omega)
    refine ha X hx rest E σ x σ1 e1 hs (fun o1 => ?_)
    have kk := kk (show InR _ by constructor <;> omega)
    obtain ⟨p, l, e, R, s, m, args, below, meth, c, D, cA, ad, sd, sv, A, cells, slots, Q⟩ := X
    obtain ⟨h1, h2, h3, h4, h5, h6, h7, h8, h9, h10, h11, h12, h13, h14, h15⟩ := hx
    intro H ls locs hP hI hL hS
    have h := (h9.1.1 (x - 14).toNat (by omega)).2.2.2
    rw [← h9.2.2.2.2 (x - 14).toNat (by omega)] at h
    have e2 : 14 + (x - 14).toNat = x.toNat := by omega
    rw [e2] at h
    refine va_tlen h1 h2 h hS (v := Int32.ofInt ((txL.getD (x - 14).toNat []).length : Int)) ?_ hd (kk H ls locs hP hI hL hS)
    rw [ht.1]
    exact (Int32.ofInt_eq_ofNat).symm
  · cases he
theorem EI.vb {M : cvI} {d pc p1 p2 : Nat} {a i : cvX} (ha : EI M d pc p1 3 a) (hb : EI M (d + 1) p1 p2 0 i) (hd : decode M.1 p2 = .ok (.baload, 1)) : EI M d pc (p2 + 1) 0 (xe_vb a i) := by
  intro X hx rest E σ v σ' he hs kk
  obtain ⟨⟨x, σ1⟩, e1, he⟩ := bnd he
  obtain ⟨⟨y, σ2⟩, e2, he⟩ := bnd he
  dsimp only at he
  split at he
  · rename_i hi
    obtain ⟨rfl, rfl⟩ := bnd2 he
    obtain ⟨hi, hy0, hy1⟩ := hi
    have hi := isTv_of hi
    have ht := tx_tab (x - 14).toNat (by omega)
    have hc := ht.2.2 y.toNat (by omega)
    refine ha X hx rest E σ x σ1 e1 hs (fun o1 => ?_)
    refine hb X hx _ E σ1 y σ2 e2 (by rw [stk_c, show kcat 3 = 1 from rfl]; omega) (fun o2 => ?_)
    have kk := kk (show InR _ by constructor <;> omega)
    obtain ⟨p, l, e, R, s, m, args, below, meth, c, D, cA, ad, sd, sv, A, cells, slots, Q⟩ := X
    obtain ⟨h1, h2, h3, h4, h5, h6, h7, h8, h9, h10, h11, h12, h13, h14, h15⟩ := hx
    intro H ls locs hP hI hL hS
    have h := (h9.1.1 (x - 14).toNat (by omega)).2.2.2
    rw [← h9.2.2.2.2 (x - 14).toNat (by omega)] at h
    have e3 : 14 + (x - 14).toNat = x.toNat := by omega
    rw [e3] at h
    refine va_tb h1 h2 h hS (v := .int (Int32.ofInt ((txL.getD (x - 14).toNat []).getD y.toNat 0))) (o_cl o2 hy0 (by rw [ht.1]; exact hy1)) ?_ hd (kk H ls locs hP hI hL hS)
    rw [o_tn o2, hc.1]
  · cases he
theorem o_c (x : Int) : ((Int32.ofInt x).toUInt32 % 65536).toInt32 = Int32.ofInt (oc x) := by
  have h := pk_char (Int32.ofInt x)
  rw [h]
  unfold nI oc
  rw [← Int32.ofInt_eq_ofNat]
  congr 1
  have e1 : ((Int32.ofInt x).toBitVec.toNat : Int) = x % 4294967296 := by
    show (((BitVec.ofInt 32 x).toNat : Nat) : Int) = _
    rw [BitVec.toNat_ofInt]
    omega
  omega
theorem EI.i2c {M : cvI} {d pc p1 : Nat} {a : cvX} (ha : EI M d pc p1 0 a) (hd : decode M.1 p1 = .ok (.i2c, 1)) : EI M d pc (p1 + 1) 0 (xe_un oc a) := by
  intro X hx rest E σ v σ' he hs kk
  obtain ⟨⟨x, σ1⟩, e1, he⟩ := bnd he
  cases he
  refine ha X hx rest E σ x σ1 e1 hs (fun o1 => ?_)
  have kk := kk (show InR (oc x) by unfold oc; constructor <;> omega)
  obtain ⟨p, l, e, R, s, m, args, below, meth, c, D, cA, ad, sd, sv, A, cells, slots, Q⟩ := X
  obtain ⟨h1, h2, h3, h4, h5, h6, h7, h8, h9, h10, h11, h12, h13, h14, h15⟩ := hx
  intro H ls locs hP hI hL hS
  exact lv_i2c h1 h2 hd (o_c x) (kk H ls locs hP hI hL hS)
theorem WW_callT {X : cvT} {M : cvI} {pc : Nat} {st : List Value} {E : cvE} {σ σ' : cvM} {y : MethodName} {b : ByteArray} {nL : Nat} {ret : Option FieldType} {ks : List Nat} {rk fr lo : Nat} {f : cvF} {vs : List Int} {v o : Int} {index : Nat}
    (hx : Cx X M) (hM : CM y b nL ret (3 :: ks) rk fr lo f) (hf : f (o :: vs) σ = some (v, σ')) (hok : okvs ks vs) (hcy : y.cls = "java/lang/String") (ho : isTx o = true) (hst : stk st ≤ 8) (hd : decode M.1 pc = .ok (.invokevirtual index, 3)) (hw : wB y b nL ret) (hl : Cond.methodLink M.2.2.1 index y ∈ BIG) (hs : wI y) (hy : dsc y ks.length) (hr : ccR M nL fr lo = true)
    (kk : (rk = 9 ∨ okv rk v) → WW X M (pc + 3) (rvs (xad X) (xsd X) rk v ++ st) E σ') : WW X M pc ((concs (xad X) (xsd X) (3 :: ks) (o :: vs)).reverse ++ st) E σ := by
  obtain ⟨p, l, e, R, s, m, args, below, meth, c, D, cA, ad, sd, sv, A, cells, slots, Q⟩ := X
  have hx' := hx
  obtain ⟨h1, h2, h3, h4, h5, h6, h7, h8, h9, h10, h11, h12, h13, h14, h15⟩ := hx'
  intro H ls locs hP hI hL hS
  simp only [ccR, Bool.and_eq_true, decide_eq_true_eq] at hr
  have ho := isTx_of ho
  have hok2 : okvs (3 :: ks) (o :: vs) := ⟨ho.1, hok⟩
  have hG : GoodIn BIG (wsV M.2.2.1 index y.cls y (.code y b nL ret :: BIG)) := by
    intro w hw2
    unfold wsV at hw2
    rcases List.mem_append.mp hw2 with h | h
    · have : w ∈ BIG := by
        simp only [List.mem_cons, List.not_mem_nil, or_false] at h
        rcases h with rfl | rfl | rfl | rfl
        · exact hl
        · exact hs.1
        · exact hs.2
        · exact hw.1
      exact ⟨this, big_good this⟩
    · exact big_in hw.2 w h
  refine cv_run (va_runV (b := sd o.toNat) (C := y.cls) (As := concs ad sd ks vs) ⟨h1, h2, h3, h4, h5⟩ (hM l D cA ad sd sv A _ σ σ' v hf h7 hok2) (cwV ks.length h5 hG rfl rfl rfl ⟨rfl, hy⟩ ⟨Nat.le_trans hr.1 h10, Nat.le_trans hr.2 h11⟩) ⟨hd_blind, by rw [hcy]; exact vk_recv h9.1 (by omega) hS, fun U hU hW => ⟨rfl, hd_at hx hP hI hS hU hW⟩⟩ rfl (concs_len ad sd hok) hL.1 ?_ ?_ hd ⟨h12, h13⟩) hS (fun H1 l1 q1 q2 q3 q4 => kk q3 H1 ls l1 q1 q2 hL q4)
  · show (concs ad sd (3 :: ks) (o :: vs)).reverse ++ st = _
    simp [concs, conc]
  · show 2 * 0 + stk st ≤ 8
    omega
theorem EI.caT {M : cvI} {d pc p1 : Nat} {y : MethodName} {b : ByteArray} {nL : Nat} {ret : Option FieldType} {ks : List Nat} {rk fr lo index : Nat} {f : cvF} {as : List cvX} (hcy : y.cls = "java/lang/String") (hM : CM y b nL ret (3 :: ks) rk fr lo f) (ha : AI M d pc p1 (3 :: ks) as) (hst : d ≤ 8) (hd : decode M.1 p1 = .ok (.invokevirtual index, 3)) (hw : wB y b nL ret) (hl : Cond.methodLink M.2.2.1 index y ∈ BIG) (hs : wI y) (hy : dsc y ks.length) (hr : ccR M nL fr lo = true) (hrk : rk ≠ 9) : EI M d pc (p1 + 3) rk (xe_ct f as) := by
  intro X hx rest E σ v σ' he hst2 kk
  obtain ⟨⟨vs, σ1⟩, e1, he⟩ := bnd he
  dsimp only at he
  split at he
  · rename_i hi
    refine ha X hx _ E σ vs σ1 e1 hst2 (fun o1 => ?_)
    cases vs with
    | nil => exact o1.elim
    | cons o vs =>
      refine WW_callT hx hM he o1.2 hcy hi (Nat.le_trans hst2 hst) hd hw hl hs hy hr (fun o2 => ?_)
      have k2 := kk (o2.elim (fun z => absurd z hrk) id)
      unfold rvs
      rw [if_neg hrk]
      exact k2
  · cases he
/-- what the law's frame knows of its script -/
def ScX (n : Int) (sc : Int → Int) (X : cvT) : Prop := match X with
  | (_, _, _, _, s, _, _, _, _, _, _, _, _, sd, _, A, _, _, _) => ∃ (L : Nat) (xs : Nat → Int32), n = L ∧ L ≤ 2560 ∧ va_X (sd 13) L xs s s.heap ∧ sd 13 < s.heap.size ∧ ¬ A (sd 13) ∧ ∀ j : Nat, j < L → xs j = Int32.ofInt (sc j) ∧ InR (sc j)
theorem EI.sc {M : cvI} {d pc p2 : Nat} {n : Int} {sc : Int → Int} {i : cvX} {j : Fin 4} (hM : ∀ X, M.2.2.2.2.2.2.2 X → ScX n sc X) (hk : M.2.2.2.1.getD 0 0 = 3) (hl : decode M.1 pc = .ok (.aload_n j, 1)) (hj : (j : Nat) = 0) (hb : EI M (d + 1) (pc + 1) p2 0 i) (hd : decode M.1 p2 = .ok (.iaload, 1)) : EI M d pc (p2 + 1) 0 (xe_sc n sc i) := by
  intro X hx rest E σ v σ' he hs kk
  unfold xe_sc at he
  split at he
  · rename_i h0
    obtain ⟨⟨y, σ2⟩, e2, he⟩ := bnd he
    dsimp only at he
    split at he
    · rename_i hi
      obtain ⟨rfl, rfl⟩ := bnd2 he
      refine WW_aload_s hx hl hj hk h0 (fun _ => ?_)
      refine hb X hx (.ref (xsd X (13 : Int).toNat) :: rest) E σ y σ2 e2 (by show 1 + stk rest ≤ d + 1; omega) (fun o2 => ?_)
      obtain ⟨p, l, e, R, s, m, args, below, meth, c, D, cA, ad, sd, sv, A, cells, slots, Q⟩ := X
      obtain ⟨h1, h2, h3, h4, h5, h6, h7, h8, h9, h10, h11, h12, h13, h14, h15⟩ := hx
      obtain ⟨L, xs, rfl, hL6, hX, hbl, hbA, hv⟩ := hM _ h15.2
      have hv := hv y.toNat (by omega)
      have e3 : ((y.toNat : Nat) : Int) = y := Int.toNat_of_nonneg hi.1
      rw [e3] at hv
      intro H ls locs hP hI hL hS
      refine va_sld h1 h2 hX hbl hbA hS (o_cl o2 hi.1 hi.2) hd ?_
      rw [o_tn o2, hv.1]
      exact kk hv.2 H ls locs hP hI hL hS
    · cases he
  · cases he
theorem EI.sn {M : cvI} {d pc : Nat} {n : Int} {sc : Int → Int} {j : Fin 4} (hM : ∀ X, M.2.2.2.2.2.2.2 X → ScX n sc X) (hk : M.2.2.2.1.getD 0 0 = 3) (hl : decode M.1 pc = .ok (.aload_n j, 1)) (hj : (j : Nat) = 0) (hd : decode M.1 (pc + 1) = .ok (.arraylength, 1)) : EI M d pc (pc + 2) 0 (xe_sn n) := by
  intro X hx rest E σ v σ' he hs kk
  unfold xe_sn at he
  split at he
  · rename_i h0
    obtain ⟨rfl, rfl⟩ := bnd2 he
    refine WW_aload_s hx hl hj hk h0 (fun _ => ?_)
    obtain ⟨p, l, e, R, s, m, args, below, meth, c, D, cA, ad, sd, sv, A, cells, slots, Q⟩ := X
    obtain ⟨h1, h2, h3, h4, h5, h6, h7, h8, h9, h10, h11, h12, h13, h14, h15⟩ := hx
    obtain ⟨L, xs, rfl, hL6, hX, hbl, hbA, hv⟩ := hM _ h15.2
    intro H ls locs hP hI hL hS
    refine va_slen h1 h2 hX hbl hbA hS hd ?_
    have kk := kk (show InR (L : Int) by constructor <;> omega) H ls locs hP hI hL hS
    rw [show Int32.ofNat L = Int32.ofInt (L : Int) from (Int32.ofInt_eq_ofNat).symm]
    exact kk
  · cases he
