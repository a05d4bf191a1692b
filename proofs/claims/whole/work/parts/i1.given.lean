/-! ===== what the start gives of the texts, the tables of the classes ===== -/
set_option maxRecDepth 20000 in
theorem gv_ex : ∀ i : Nat, i < 13 → Cond.exactly (.string RX7 (jsI.getD i 0)) "java/lang/String" ∈ flatC (Jvm.Cond.and given_1 narrow_1) := by decide +kernel
set_option maxRecDepth 20000 in
theorem gv_co : ∀ i : Nat, i < 13 → Cond.eq (.field (.string RX7 (jsI.getD i 0)) "java/lang/String" "coder" "B") (.int 0) ∈ flatC (Jvm.Cond.and given_1 narrow_1) := by decide +kernel
set_option maxRecDepth 20000 in
theorem gv_ar : ∀ i : Nat, i < 13 → Cond.arrayOf (.field (.string RX7 (jsI.getD i 0)) "java/lang/String" "value" "[B") .byte ∈ flatC (Jvm.Cond.and given_1 narrow_1) := by decide +kernel
set_option maxRecDepth 20000 in
theorem gv_le : ∀ i : Nat, i < 13 → Cond.eq (.length (.field (.string RX7 (jsI.getD i 0)) "java/lang/String" "value" "[B")) (.int (Int32.ofNat (lenJS.getD i 0))) ∈ flatC (Jvm.Cond.and given_1 narrow_1) := by decide +kernel
set_option maxRecDepth 20000 in
theorem gv_el : ∀ i : Nat, i < 13 → ∀ j : Nat, j < lenJS.getD i 0 → Cond.eq (.elem (.field (.string RX7 (jsI.getD i 0)) "java/lang/String" "value" "[B") (.int (Int32.ofNat j))) (.int ((bytJS.getD i []).getD j 0)) ∈ flatC (Jvm.Cond.and given_1 narrow_1) := by decide +kernel
set_option maxRecDepth 20000 in
theorem gv_ne : ∀ i : Nat, i < 13 → ∀ j : Nat, j < 13 → i < j → Cond.not (.eq (.string RX7 (jsI.getD i 0)) (.string RX7 (jsI.getD j 0))) ∈ flatC (Jvm.Cond.and given_1 narrow_1) := by decide +kernel
set_option maxRecDepth 20000 in
theorem gv_cs : Cond.eq (.static "java/lang/String" "COMPACT_STRINGS" "Z") (.int 1) ∈ flatC (Jvm.Cond.and given_1 narrow_1) := by decide +kernel
set_option maxRecDepth 20000 in
theorem gv_fm : Cond.isRef (.static "jdk/internal/util/Preconditions" "SIOOBE_FORMATTER" "Ljava/util/function/BiFunction;") ∈ flatC (Jvm.Cond.and given_1 narrow_1) := by decide +kernel
theorem SX_of {s : State} {b : Nat} {A : Nat → Prop} (hts : ∀ w ∈ lw_tbl, w.before #[Value.ref b] s = true) (hgv : (Jvm.Cond.and given_1 narrow_1).before #[Value.ref b] s = true) (hA : ∀ a : Nat, a < s.heap.size → ¬ A a) : ∃ sd sv : Nat → Nat, SX sd sv A s ∧ sd 13 = b := by
  have hs := flat_of_before _ hgv
  obtain ⟨adK, adV, h1, h2⟩ := vk_Sof (args := #[Value.ref b]) (s := s) (N := 13) (tm := fun i => Term.string RX7 (jsI.getD i 0)) (len := lenJS) (byt := bytJS) (A := A) (by decide +kernel) (fun i hi => hs _ (gv_ex i hi)) (fun i hi => hs _ (gv_co i hi)) (fun i hi => hs _ (gv_ar i hi)) (fun i hi => hs _ (gv_le i hi)) (fun i hi j hj => hs _ (gv_el i hi j hj)) (fun i j hi hj hij => (Nat.lt_or_gt_of_ne hij).elim (fun h => Or.inl (hs _ (gv_ne i hi j hj h))) (fun h => Or.inr (hs _ (gv_ne j hj i hi h)))) hA
  have hf : ∃ f t : Nat, va_Z "jdk/internal/util/Preconditions" "SIOOBE_FORMATTER" "Ljava/util/function/BiFunction;" (if f = 0 then .null else .ref t) A s s.heap := by
    rcases va_Zqof (hts _ ls_fm) (hts _ ini_JP) (hs _ gv_fm) hA with h | ⟨t, h⟩
    · exact ⟨0, 0, by rw [if_pos rfl]; exact h⟩
    · exact ⟨1, t, by rw [if_neg (by decide)]; exact h⟩
  obtain ⟨f, t, hf⟩ := hf
  obtain ⟨sd, q1, q2, q3, q4, q5⟩ : ∃ sd : Nat → Nat, (∀ i, i < 13 → sd i = adK i) ∧ sd 13 = b ∧ (∀ i, i < 13 → sd (14 + i) = adV i) ∧ sd 30 = t ∧ sd 31 = f := by
    refine ⟨fun i => if i < 13 then adK i else if i = 13 then b else if i < 27 then adV (i - 14) else if i = 30 then t else f, fun i hi => if_pos hi, rfl, fun i hi => ?_, rfl, rfl⟩
    dsimp only
    rw [if_neg (by omega), if_neg (by omega), if_pos (by omega), Nat.add_sub_cancel_left]
  refine ⟨sd, adV, ⟨⟨fun i hi => by rw [q1 i hi]; exact h1.1 i hi, fun i j hi hj e => h1.2 i j hi hj (by rw [← q1 i hi, ← q1 j hj]; exact e)⟩, fun i hi => by rw [q1 i hi]; exact vk_R.of (hts _ (js_in i hi)) (h2 i hi), va_Zof (hts _ ls_cs) (hts _ ini_JS) (va_eqi (hs _ gv_cs)) hA, ?_, q3⟩, q2⟩
  unfold cvFm
  rw [q4, q5]
  exact hf
theorem K_of {s : State} {args : Array Value} (hB : ∀ w ∈ BIG, w.before args s = true) : ∃ (D : va_G) (cA : ClassId), va_K D classes [(cA, .int)] s := by
  obtain ⟨c0, i0, k0⟩ := u_known (C := RX0) (T := TX0) (N := 3) hB cw0 (hB _ it_0)
  obtain ⟨c1, i1, k1⟩ := u_known (C := RX1) (T := TX1) (N := 4) hB cw1 (hB _ it_1)
  obtain ⟨c2, i2, k2⟩ := u_known (C := RX2) (T := TX2) (N := 2) hB cw2 (hB _ it_2)
  obtain ⟨c3, i3, k3⟩ := u_known (C := RX3) (T := TX3) (N := 2) hB cw3 (hB _ it_3)
  obtain ⟨c4, i4, k4⟩ := u_known (C := RX4) (T := TX4) (N := 12) hB cw4 (hB _ it_4)
  obtain ⟨c5, i5, k5⟩ := u_known (C := RX5) (T := TX5) (N := 9) hB cw5 (hB _ it_5)
  obtain ⟨c6, i6, k6⟩ := u_known (C := RX6) (T := TX6) (N := 10) hB cw6 (hB _ it_6)
  obtain ⟨c7, i7, k7⟩ := u_known (C := RX7) (T := TX7) (N := 7) hB cw7 (hB _ it_7)
  obtain ⟨c8, i8, k8⟩ := u_known (C := RX8) (T := TX8) (N := 4) hB cw8 (hB _ it_8)
  obtain ⟨c9, i9, k9⟩ := u_known (C := RX9) (T := TX9) (N := 12) hB cw9 (hB _ it_9)
  obtain ⟨c10, i10, k10⟩ := u_known (C := RX10) (T := TX10) (N := 13) hB cw10 (hB _ it_10)
  obtain ⟨c11, i11, k11⟩ := u_known (C := RX11) (T := TX11) (N := 12) hB cw11 (hB _ it_11)
  obtain ⟨c12, i12, k12⟩ := u_known (C := RX12) (T := TX12) (N := 64) hB cw12 (hB _ it_12)
  obtain ⟨cA, kA, comp, a1, a2, a3⟩ := Cond.arrayClass_spec (hB _ wac)
  refine ⟨(fun k => match k with
    | 0 => c0 | 1 => c1 | 2 => c2 | 3 => c3 | 4 => c4 | 5 => c5 | 6 => c6 | 7 => c7 | 8 => c8 | 9 => c9 | 10 => c10 | 11 => c11 | _ => c12, fun k => match k with
    | 0 => i0 | 1 => i1 | 2 => i2 | 3 => i3 | 4 => i4 | 5 => i5 | 6 => i6 | 7 => i7 | 8 => i8 | 9 => i9 | 10 => i10 | 11 => i11 | _ => i12), cA, fun k q hq => ?_, fun k q hq => ?_⟩
  · match k, hq with
    | 0, hq => cases hq; exact k0
    | 1, hq => cases hq; exact k1
    | 2, hq => cases hq; exact k2
    | 3, hq => cases hq; exact k3
    | 4, hq => cases hq; exact k4
    | 5, hq => cases hq; exact k5
    | 6, hq => cases hq; exact k6
    | 7, hq => cases hq; exact k7
    | 8, hq => cases hq; exact k8
    | 9, hq => cases hq; exact k9
    | 10, hq => cases hq; exact k10
    | 11, hq => cases hq; exact k11
    | 12, hq => cases hq; exact k12
    | k + 13, hq => exact absurd (List.getElem?_eq_some_iff.mp hq).1 (by show ¬ k + 13 < 13; omega)
  · match k, hq with
    | 0, hq => cases hq; exact ⟨fun n z => ⟨fun k h => (by cases h), kA, a2, comp, a3⟩, a1⟩
    | k + 1, hq => exact absurd (List.getElem?_eq_some_iff.mp hq).1 (by show ¬ k + 1 < 1; omega)
