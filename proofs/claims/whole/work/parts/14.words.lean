theorem tk1 : ∀ w ∈ tables_1_1, w ∈ lw_tbl := by
  intro w h
  unfold lw_tbl tables_1
  simp only [List.mem_append, h, true_or, or_true]
theorem tk2 : ∀ w ∈ tables_1_2, w ∈ lw_tbl := by
  intro w h
  unfold lw_tbl tables_1
  simp only [List.mem_append, h, true_or, or_true]
theorem tk3 : ∀ w ∈ tables_1_3, w ∈ lw_tbl := by
  intro w h
  unfold lw_tbl tables_1
  simp only [List.mem_append, h, true_or, or_true]
theorem tk4 : ∀ w ∈ tables_1_4, w ∈ lw_tbl := by
  intro w h
  unfold lw_tbl tables_1
  simp only [List.mem_append, h, true_or, or_true]
theorem tk5 : ∀ w ∈ tables_1_5, w ∈ lw_tbl := by
  intro w h
  unfold lw_tbl tables_1
  simp only [List.mem_append, h, true_or, or_true]
theorem tk6 : ∀ w ∈ tables_1_6, w ∈ lw_tbl := by
  intro w h
  unfold lw_tbl tables_1
  simp only [List.mem_append, h, true_or, or_true]
theorem tk7 : ∀ w ∈ tables_1_7, w ∈ lw_tbl := by
  intro w h
  unfold lw_tbl tables_1
  simp only [List.mem_append, h, true_or, or_true]
theorem tk8 : ∀ w ∈ tables_1_8, w ∈ lw_tbl := by
  intro w h
  unfold lw_tbl tables_1
  simp only [List.mem_append, h, true_or, or_true]
theorem tk9 : ∀ w ∈ tables_1_9, w ∈ lw_tbl := by
  intro w h
  unfold lw_tbl tables_1
  simp only [List.mem_append, h, true_or, or_true]
theorem pv1 : ∀ q ∈ lw_privs_1, Cond.selects q.1.cls q.1 q.1 ∈ lw_tbl := by
  intro q h
  refine List.mem_append_left _ (List.mem_map.mpr ⟨q, ?_, rfl⟩)
  unfold lw_privs
  simp only [List.mem_append, h, true_or, or_true]
theorem pv2 : ∀ q ∈ lw_privs_2, Cond.selects q.1.cls q.1 q.1 ∈ lw_tbl := by
  intro q h
  refine List.mem_append_left _ (List.mem_map.mpr ⟨q, ?_, rfl⟩)
  unfold lw_privs
  simp only [List.mem_append, h, true_or, or_true]
theorem pv3 : ∀ q ∈ lw_privs_3, Cond.selects q.1.cls q.1 q.1 ∈ lw_tbl := by
  intro q h
  refine List.mem_append_left _ (List.mem_map.mpr ⟨q, ?_, rfl⟩)
  unfold lw_privs
  simp only [List.mem_append, h, true_or, or_true]
theorem pv4 : ∀ q ∈ lw_privs_4, Cond.selects q.1.cls q.1 q.1 ∈ lw_tbl := by
  intro q h
  refine List.mem_append_left _ (List.mem_map.mpr ⟨q, ?_, rfl⟩)
  unfold lw_privs
  simp only [List.mem_append, h, true_or, or_true]
theorem pv5 : ∀ q ∈ lw_privs_5, Cond.selects q.1.cls q.1 q.1 ∈ lw_tbl := by
  intro q h
  refine List.mem_append_left _ (List.mem_map.mpr ⟨q, ?_, rfl⟩)
  unfold lw_privs
  simp only [List.mem_append, h, true_or, or_true]
theorem pv6 : ∀ q ∈ lw_privs_6, Cond.selects q.1.cls q.1 q.1 ∈ lw_tbl := by
  intro q h
  refine List.mem_append_left _ (List.mem_map.mpr ⟨q, ?_, rfl⟩)
  unfold lw_privs
  simp only [List.mem_append, h, true_or, or_true]
theorem pv7 : ∀ q ∈ lw_privs_7, Cond.selects q.1.cls q.1 q.1 ∈ lw_tbl := by
  intro q h
  refine List.mem_append_left _ (List.mem_map.mpr ⟨q, ?_, rfl⟩)
  unfold lw_privs
  simp only [List.mem_append, h, true_or, or_true]
theorem pv8 : ∀ q ∈ lw_privs_8, Cond.selects q.1.cls q.1 q.1 ∈ lw_tbl := by
  intro q h
  refine List.mem_append_left _ (List.mem_map.mpr ⟨q, ?_, rfl⟩)
  unfold lw_privs
  simp only [List.mem_append, h, true_or, or_true]
theorem ccR_of {M : cvI} {nL fr lo : Nat} (h1 : fr + 1 ≤ M.2.2.2.2.1) (h2 : 8 + (nL + 11) + lo ≤ M.2.2.2.2.2.1) : ccR M nL fr lo = true := by unfold ccR; rw [Bool.and_eq_true, decide_eq_true_eq, decide_eq_true_eq]; exact ⟨h1, h2⟩
theorem cw0 : ∀ w ∈ u_ws RX0 TX0 3, w ∈ BIG := by
  intro w hw
  obtain ⟨k, hk, rfl⟩ := List.mem_map.mp hw
  have hk := List.mem_range.mp hk
  match k, hk with
  | 0, _ => exact big_of (tk1 _ (List.mem_of_getElem? (i := 207) (by decide +kernel))) (by decide +kernel)
  | 1, _ => exact big_of (tk1 _ (List.mem_of_getElem? (i := 209) (by decide +kernel))) (by decide +kernel)
  | 2, _ => exact big_of (tk1 _ (List.mem_of_getElem? (i := 211) (by decide +kernel))) (by decide +kernel)
  | k + 3, h => exact absurd h (by omega)
theorem ck0 : CK 0 RX0 TX0 3 tyX0 := ⟨rfl, cw0, tyX0_ok, nmX0⟩
theorem cw1 : ∀ w ∈ u_ws RX1 TX1 4, w ∈ BIG := by
  intro w hw
  obtain ⟨k, hk, rfl⟩ := List.mem_map.mp hw
  have hk := List.mem_range.mp hk
  match k, hk with
  | 0, _ => exact big_of (tk2 _ (List.mem_of_getElem? (i := 16) (by decide +kernel))) (by decide +kernel)
  | 1, _ => exact big_of (tk2 _ (List.mem_of_getElem? (i := 18) (by decide +kernel))) (by decide +kernel)
  | 2, _ => exact big_of (tk2 _ (List.mem_of_getElem? (i := 20) (by decide +kernel))) (by decide +kernel)
  | 3, _ => exact big_of (tk2 _ (List.mem_of_getElem? (i := 22) (by decide +kernel))) (by decide +kernel)
  | k + 4, h => exact absurd h (by omega)
theorem ck1 : CK 1 RX1 TX1 4 tyX1 := ⟨rfl, cw1, tyX1_ok, nmX1⟩
theorem cw2 : ∀ w ∈ u_ws RX2 TX2 2, w ∈ BIG := by
  intro w hw
  obtain ⟨k, hk, rfl⟩ := List.mem_map.mp hw
  have hk := List.mem_range.mp hk
  match k, hk with
  | 0, _ => exact big_of (tk2 _ (List.mem_of_getElem? (i := 33) (by decide +kernel))) (by decide +kernel)
  | 1, _ => exact big_of (tk2 _ (List.mem_of_getElem? (i := 35) (by decide +kernel))) (by decide +kernel)
  | k + 2, h => exact absurd h (by omega)
theorem ck2 : CK 2 RX2 TX2 2 tyX2 := ⟨rfl, cw2, tyX2_ok, nmX2⟩
theorem cw3 : ∀ w ∈ u_ws RX3 TX3 2, w ∈ BIG := by
  intro w hw
  obtain ⟨k, hk, rfl⟩ := List.mem_map.mp hw
  have hk := List.mem_range.mp hk
  match k, hk with
  | 0, _ => exact big_of (tk2 _ (List.mem_of_getElem? (i := 79) (by decide +kernel))) (by decide +kernel)
  | 1, _ => exact big_of (tk2 _ (List.mem_of_getElem? (i := 81) (by decide +kernel))) (by decide +kernel)
  | k + 2, h => exact absurd h (by omega)
theorem ck3 : CK 3 RX3 TX3 2 tyX3 := ⟨rfl, cw3, tyX3_ok, nmX3⟩
theorem cw4 : ∀ w ∈ u_ws RX4 TX4 12, w ∈ BIG := by
  intro w hw
  obtain ⟨k, hk, rfl⟩ := List.mem_map.mp hw
  have hk := List.mem_range.mp hk
  match k, hk with
  | 0, _ => exact big_of (tk2 _ (List.mem_of_getElem? (i := 143) (by decide +kernel))) (by decide +kernel)
  | 1, _ => exact big_of (tk2 _ (List.mem_of_getElem? (i := 145) (by decide +kernel))) (by decide +kernel)
  | 2, _ => exact big_of (tk2 _ (List.mem_of_getElem? (i := 147) (by decide +kernel))) (by decide +kernel)
  | 3, _ => exact big_of (tk2 _ (List.mem_of_getElem? (i := 149) (by decide +kernel))) (by decide +kernel)
  | 4, _ => exact big_of (tk2 _ (List.mem_of_getElem? (i := 151) (by decide +kernel))) (by decide +kernel)
  | 5, _ => exact big_of (tk2 _ (List.mem_of_getElem? (i := 153) (by decide +kernel))) (by decide +kernel)
  | 6, _ => exact big_of (tk2 _ (List.mem_of_getElem? (i := 155) (by decide +kernel))) (by decide +kernel)
  | 7, _ => exact big_of (tk2 _ (List.mem_of_getElem? (i := 157) (by decide +kernel))) (by decide +kernel)
  | 8, _ => exact big_of (tk2 _ (List.mem_of_getElem? (i := 159) (by decide +kernel))) (by decide +kernel)
  | 9, _ => exact big_of (tk2 _ (List.mem_of_getElem? (i := 161) (by decide +kernel))) (by decide +kernel)
  | 10, _ => exact big_of (tk2 _ (List.mem_of_getElem? (i := 163) (by decide +kernel))) (by decide +kernel)
  | 11, _ => exact big_of (tk2 _ (List.mem_of_getElem? (i := 165) (by decide +kernel))) (by decide +kernel)
  | k + 12, h => exact absurd h (by omega)
theorem ck4 : CK 4 RX4 TX4 12 tyX4 := ⟨rfl, cw4, tyX4_ok, nmX4⟩
theorem cw5 : ∀ w ∈ u_ws RX5 TX5 9, w ∈ BIG := by
  intro w hw
  obtain ⟨k, hk, rfl⟩ := List.mem_map.mp hw
  have hk := List.mem_range.mp hk
  match k, hk with
  | 0, _ => exact big_of (tk1 _ (List.mem_of_getElem? (i := 223) (by decide +kernel))) (by decide +kernel)
  | 1, _ => exact big_of (tk1 _ (List.mem_of_getElem? (i := 225) (by decide +kernel))) (by decide +kernel)
  | 2, _ => exact big_of (tk1 _ (List.mem_of_getElem? (i := 227) (by decide +kernel))) (by decide +kernel)
  | 3, _ => exact big_of (tk1 _ (List.mem_of_getElem? (i := 229) (by decide +kernel))) (by decide +kernel)
  | 4, _ => exact big_of (tk1 _ (List.mem_of_getElem? (i := 231) (by decide +kernel))) (by decide +kernel)
  | 5, _ => exact big_of (tk1 _ (List.mem_of_getElem? (i := 233) (by decide +kernel))) (by decide +kernel)
  | 6, _ => exact big_of (tk1 _ (List.mem_of_getElem? (i := 235) (by decide +kernel))) (by decide +kernel)
  | 7, _ => exact big_of (tk1 _ (List.mem_of_getElem? (i := 237) (by decide +kernel))) (by decide +kernel)
  | 8, _ => exact big_of (tk1 _ (List.mem_of_getElem? (i := 239) (by decide +kernel))) (by decide +kernel)
  | k + 9, h => exact absurd h (by omega)
theorem ck5 : CK 5 RX5 TX5 9 tyX5 := ⟨rfl, cw5, tyX5_ok, nmX5⟩
theorem cw6 : ∀ w ∈ u_ws RX6 TX6 10, w ∈ BIG := by
  intro w hw
  obtain ⟨k, hk, rfl⟩ := List.mem_map.mp hw
  have hk := List.mem_range.mp hk
  match k, hk with
  | 0, _ => exact big_of (tk2 _ (List.mem_of_getElem? (i := 100) (by decide +kernel))) (by decide +kernel)
  | 1, _ => exact big_of (tk2 _ (List.mem_of_getElem? (i := 102) (by decide +kernel))) (by decide +kernel)
  | 2, _ => exact big_of (tk2 _ (List.mem_of_getElem? (i := 104) (by decide +kernel))) (by decide +kernel)
  | 3, _ => exact big_of (tk2 _ (List.mem_of_getElem? (i := 106) (by decide +kernel))) (by decide +kernel)
  | 4, _ => exact big_of (tk2 _ (List.mem_of_getElem? (i := 108) (by decide +kernel))) (by decide +kernel)
  | 5, _ => exact big_of (tk2 _ (List.mem_of_getElem? (i := 110) (by decide +kernel))) (by decide +kernel)
  | 6, _ => exact big_of (tk2 _ (List.mem_of_getElem? (i := 112) (by decide +kernel))) (by decide +kernel)
  | 7, _ => exact big_of (tk2 _ (List.mem_of_getElem? (i := 114) (by decide +kernel))) (by decide +kernel)
  | 8, _ => exact big_of (tk2 _ (List.mem_of_getElem? (i := 116) (by decide +kernel))) (by decide +kernel)
  | 9, _ => exact big_of (tk2 _ (List.mem_of_getElem? (i := 118) (by decide +kernel))) (by decide +kernel)
  | k + 10, h => exact absurd h (by omega)
theorem ck6 : CK 6 RX6 TX6 10 tyX6 := ⟨rfl, cw6, tyX6_ok, nmX6⟩
theorem cw7 : ∀ w ∈ u_ws RX7 TX7 7, w ∈ BIG := by
  intro w hw
  obtain ⟨k, hk, rfl⟩ := List.mem_map.mp hw
  have hk := List.mem_range.mp hk
  match k, hk with
  | 0, _ => exact big_of (tk2 _ (List.mem_of_getElem? (i := 55) (by decide +kernel))) (by decide +kernel)
  | 1, _ => exact big_of (tk2 _ (List.mem_of_getElem? (i := 57) (by decide +kernel))) (by decide +kernel)
  | 2, _ => exact big_of (tk2 _ (List.mem_of_getElem? (i := 59) (by decide +kernel))) (by decide +kernel)
  | 3, _ => exact big_of (tk2 _ (List.mem_of_getElem? (i := 61) (by decide +kernel))) (by decide +kernel)
  | 4, _ => exact big_of (tk2 _ (List.mem_of_getElem? (i := 63) (by decide +kernel))) (by decide +kernel)
  | 5, _ => exact big_of (tk2 _ (List.mem_of_getElem? (i := 65) (by decide +kernel))) (by decide +kernel)
  | 6, _ => exact big_of (tk2 _ (List.mem_of_getElem? (i := 67) (by decide +kernel))) (by decide +kernel)
  | k + 7, h => exact absurd h (by omega)
theorem ck7 : CK 7 RX7 TX7 7 tyX7 := ⟨rfl, cw7, tyX7_ok, nmX7⟩
theorem cw8 : ∀ w ∈ u_ws RX8 TX8 4, w ∈ BIG := by
  intro w hw
  obtain ⟨k, hk, rfl⟩ := List.mem_map.mp hw
  have hk := List.mem_range.mp hk
  match k, hk with
  | 0, _ => exact big_of (tk1 _ (List.mem_of_getElem? (i := 57) (by decide +kernel))) (by decide +kernel)
  | 1, _ => exact big_of (tk1 _ (List.mem_of_getElem? (i := 59) (by decide +kernel))) (by decide +kernel)
  | 2, _ => exact big_of (tk1 _ (List.mem_of_getElem? (i := 61) (by decide +kernel))) (by decide +kernel)
  | 3, _ => exact big_of (tk1 _ (List.mem_of_getElem? (i := 63) (by decide +kernel))) (by decide +kernel)
  | k + 4, h => exact absurd h (by omega)
theorem ck8 : CK 8 RX8 TX8 4 tyX8 := ⟨rfl, cw8, tyX8_ok, nmX8⟩
theorem cw9 : ∀ w ∈ u_ws RX9 TX9 12, w ∈ BIG := by
  intro w hw
  obtain ⟨k, hk, rfl⟩ := List.mem_map.mp hw
  have hk := List.mem_range.mp hk
  match k, hk with
  | 0, _ => exact big_of (tk1 _ (List.mem_of_getElem? (i := 163) (by decide +kernel))) (by decide +kernel)
  | 1, _ => exact big_of (tk1 _ (List.mem_of_getElem? (i := 165) (by decide +kernel))) (by decide +kernel)
  | 2, _ => exact big_of (tk1 _ (List.mem_of_getElem? (i := 167) (by decide +kernel))) (by decide +kernel)
  | 3, _ => exact big_of (tk1 _ (List.mem_of_getElem? (i := 169) (by decide +kernel))) (by decide +kernel)
  | 4, _ => exact big_of (tk1 _ (List.mem_of_getElem? (i := 171) (by decide +kernel))) (by decide +kernel)
  | 5, _ => exact big_of (tk1 _ (List.mem_of_getElem? (i := 173) (by decide +kernel))) (by decide +kernel)
  | 6, _ => exact big_of (tk1 _ (List.mem_of_getElem? (i := 175) (by decide +kernel))) (by decide +kernel)
  | 7, _ => exact big_of (tk1 _ (List.mem_of_getElem? (i := 177) (by decide +kernel))) (by decide +kernel)
  | 8, _ => exact big_of (tk1 _ (List.mem_of_getElem? (i := 179) (by decide +kernel))) (by decide +kernel)
  | 9, _ => exact big_of (tk1 _ (List.mem_of_getElem? (i := 181) (by decide +kernel))) (by decide +kernel)
  | 10, _ => exact big_of (tk1 _ (List.mem_of_getElem? (i := 183) (by decide +kernel))) (by decide +kernel)
  | 11, _ => exact big_of (tk1 _ (List.mem_of_getElem? (i := 185) (by decide +kernel))) (by decide +kernel)
  | k + 12, h => exact absurd h (by omega)
theorem ck9 : CK 9 RX9 TX9 12 tyX9 := ⟨rfl, cw9, tyX9_ok, nmX9⟩
theorem cw10 : ∀ w ∈ u_ws RX10 TX10 13, w ∈ BIG := by
  intro w hw
  obtain ⟨k, hk, rfl⟩ := List.mem_map.mp hw
  have hk := List.mem_range.mp hk
  match k, hk with
  | 0, _ => exact big_of (tk1 _ (List.mem_of_getElem? (i := 114) (by decide +kernel))) (by decide +kernel)
  | 1, _ => exact big_of (tk1 _ (List.mem_of_getElem? (i := 116) (by decide +kernel))) (by decide +kernel)
  | 2, _ => exact big_of (tk1 _ (List.mem_of_getElem? (i := 118) (by decide +kernel))) (by decide +kernel)
  | 3, _ => exact big_of (tk1 _ (List.mem_of_getElem? (i := 120) (by decide +kernel))) (by decide +kernel)
  | 4, _ => exact big_of (tk1 _ (List.mem_of_getElem? (i := 122) (by decide +kernel))) (by decide +kernel)
  | 5, _ => exact big_of (tk1 _ (List.mem_of_getElem? (i := 124) (by decide +kernel))) (by decide +kernel)
  | 6, _ => exact big_of (tk1 _ (List.mem_of_getElem? (i := 126) (by decide +kernel))) (by decide +kernel)
  | 7, _ => exact big_of (tk1 _ (List.mem_of_getElem? (i := 128) (by decide +kernel))) (by decide +kernel)
  | 8, _ => exact big_of (tk1 _ (List.mem_of_getElem? (i := 130) (by decide +kernel))) (by decide +kernel)
  | 9, _ => exact big_of (tk1 _ (List.mem_of_getElem? (i := 132) (by decide +kernel))) (by decide +kernel)
  | 10, _ => exact big_of (tk1 _ (List.mem_of_getElem? (i := 134) (by decide +kernel))) (by decide +kernel)
  | 11, _ => exact big_of (tk1 _ (List.mem_of_getElem? (i := 136) (by decide +kernel))) (by decide +kernel)
  | 12, _ => exact big_of (tk1 _ (List.mem_of_getElem? (i := 138) (by decide +kernel))) (by decide +kernel)
  | k + 13, h => exact absurd h (by omega)
theorem ck10 : CK 10 RX10 TX10 13 tyX10 := ⟨rfl, cw10, tyX10_ok, nmX10⟩
theorem cw11 : ∀ w ∈ u_ws RX11 TX11 12, w ∈ BIG := by
  intro w hw
  obtain ⟨k, hk, rfl⟩ := List.mem_map.mp hw
  have hk := List.mem_range.mp hk
  match k, hk with
  | 0, _ => exact big_of (tk2 _ (List.mem_of_getElem? (i := 180) (by decide +kernel))) (by decide +kernel)
  | 1, _ => exact big_of (tk2 _ (List.mem_of_getElem? (i := 182) (by decide +kernel))) (by decide +kernel)
  | 2, _ => exact big_of (tk2 _ (List.mem_of_getElem? (i := 184) (by decide +kernel))) (by decide +kernel)
  | 3, _ => exact big_of (tk2 _ (List.mem_of_getElem? (i := 186) (by decide +kernel))) (by decide +kernel)
  | 4, _ => exact big_of (tk2 _ (List.mem_of_getElem? (i := 188) (by decide +kernel))) (by decide +kernel)
  | 5, _ => exact big_of (tk2 _ (List.mem_of_getElem? (i := 190) (by decide +kernel))) (by decide +kernel)
  | 6, _ => exact big_of (tk2 _ (List.mem_of_getElem? (i := 192) (by decide +kernel))) (by decide +kernel)
  | 7, _ => exact big_of (tk2 _ (List.mem_of_getElem? (i := 194) (by decide +kernel))) (by decide +kernel)
  | 8, _ => exact big_of (tk2 _ (List.mem_of_getElem? (i := 196) (by decide +kernel))) (by decide +kernel)
  | 9, _ => exact big_of (tk2 _ (List.mem_of_getElem? (i := 198) (by decide +kernel))) (by decide +kernel)
  | 10, _ => exact big_of (tk2 _ (List.mem_of_getElem? (i := 200) (by decide +kernel))) (by decide +kernel)
  | 11, _ => exact big_of (tk2 _ (List.mem_of_getElem? (i := 202) (by decide +kernel))) (by decide +kernel)
  | k + 12, h => exact absurd h (by omega)
theorem ck11 : CK 11 RX11 TX11 12 tyX11 := ⟨rfl, cw11, tyX11_ok, nmX11⟩
theorem cw12 : ∀ w ∈ u_ws RX12 TX12 64, w ∈ BIG := by
  intro w hw
  obtain ⟨k, hk, rfl⟩ := List.mem_map.mp hw
  have hk := List.mem_range.mp hk
  match k, hk with
  | 0, _ => exact big_of (tk6 _ (List.mem_of_getElem? (i := 130) (by decide +kernel))) (by decide +kernel)
  | 1, _ => exact big_of (tk6 _ (List.mem_of_getElem? (i := 132) (by decide +kernel))) (by decide +kernel)
  | 2, _ => exact big_of (tk6 _ (List.mem_of_getElem? (i := 134) (by decide +kernel))) (by decide +kernel)
  | 3, _ => exact big_of (tk6 _ (List.mem_of_getElem? (i := 136) (by decide +kernel))) (by decide +kernel)
  | 4, _ => exact big_of (tk6 _ (List.mem_of_getElem? (i := 138) (by decide +kernel))) (by decide +kernel)
  | 5, _ => exact big_of (tk6 _ (List.mem_of_getElem? (i := 140) (by decide +kernel))) (by decide +kernel)
  | 6, _ => exact big_of (tk6 _ (List.mem_of_getElem? (i := 142) (by decide +kernel))) (by decide +kernel)
  | 7, _ => exact big_of (tk6 _ (List.mem_of_getElem? (i := 144) (by decide +kernel))) (by decide +kernel)
  | 8, _ => exact big_of (tk6 _ (List.mem_of_getElem? (i := 146) (by decide +kernel))) (by decide +kernel)
  | 9, _ => exact big_of (tk6 _ (List.mem_of_getElem? (i := 148) (by decide +kernel))) (by decide +kernel)
  | 10, _ => exact big_of (tk6 _ (List.mem_of_getElem? (i := 150) (by decide +kernel))) (by decide +kernel)
  | 11, _ => exact big_of (tk6 _ (List.mem_of_getElem? (i := 152) (by decide +kernel))) (by decide +kernel)
  | 12, _ => exact big_of (tk6 _ (List.mem_of_getElem? (i := 154) (by decide +kernel))) (by decide +kernel)
  | 13, _ => exact big_of (tk6 _ (List.mem_of_getElem? (i := 156) (by decide +kernel))) (by decide +kernel)
  | 14, _ => exact big_of (tk6 _ (List.mem_of_getElem? (i := 158) (by decide +kernel))) (by decide +kernel)
  | 15, _ => exact big_of (tk6 _ (List.mem_of_getElem? (i := 160) (by decide +kernel))) (by decide +kernel)
  | 16, _ => exact big_of (tk6 _ (List.mem_of_getElem? (i := 162) (by decide +kernel))) (by decide +kernel)
  | 17, _ => exact big_of (tk6 _ (List.mem_of_getElem? (i := 164) (by decide +kernel))) (by decide +kernel)
  | 18, _ => exact big_of (tk6 _ (List.mem_of_getElem? (i := 166) (by decide +kernel))) (by decide +kernel)
  | 19, _ => exact big_of (tk6 _ (List.mem_of_getElem? (i := 168) (by decide +kernel))) (by decide +kernel)
  | 20, _ => exact big_of (tk6 _ (List.mem_of_getElem? (i := 170) (by decide +kernel))) (by decide +kernel)
  | 21, _ => exact big_of (tk6 _ (List.mem_of_getElem? (i := 172) (by decide +kernel))) (by decide +kernel)
  | 22, _ => exact big_of (tk6 _ (List.mem_of_getElem? (i := 174) (by decide +kernel))) (by decide +kernel)
  | 23, _ => exact big_of (tk6 _ (List.mem_of_getElem? (i := 176) (by decide +kernel))) (by decide +kernel)
  | 24, _ => exact big_of (tk6 _ (List.mem_of_getElem? (i := 178) (by decide +kernel))) (by decide +kernel)
  | 25, _ => exact big_of (tk6 _ (List.mem_of_getElem? (i := 180) (by decide +kernel))) (by decide +kernel)
  | 26, _ => exact big_of (tk6 _ (List.mem_of_getElem? (i := 182) (by decide +kernel))) (by decide +kernel)
  | 27, _ => exact big_of (tk6 _ (List.mem_of_getElem? (i := 184) (by decide +kernel))) (by decide +kernel)
  | 28, _ => exact big_of (tk6 _ (List.mem_of_getElem? (i := 186) (by decide +kernel))) (by decide +kernel)
  | 29, _ => exact big_of (tk6 _ (List.mem_of_getElem? (i := 188) (by decide +kernel))) (by decide +kernel)
  | 30, _ => exact big_of (tk6 _ (List.mem_of_getElem? (i := 190) (by decide +kernel))) (by decide +kernel)
  | 31, _ => exact big_of (tk6 _ (List.mem_of_getElem? (i := 192) (by decide +kernel))) (by decide +kernel)
  | 32, _ => exact big_of (tk6 _ (List.mem_of_getElem? (i := 194) (by decide +kernel))) (by decide +kernel)
  | 33, _ => exact big_of (tk6 _ (List.mem_of_getElem? (i := 196) (by decide +kernel))) (by decide +kernel)
  | 34, _ => exact big_of (tk6 _ (List.mem_of_getElem? (i := 198) (by decide +kernel))) (by decide +kernel)
  | 35, _ => exact big_of (tk6 _ (List.mem_of_getElem? (i := 200) (by decide +kernel))) (by decide +kernel)
  | 36, _ => exact big_of (tk6 _ (List.mem_of_getElem? (i := 202) (by decide +kernel))) (by decide +kernel)
  | 37, _ => exact big_of (tk6 _ (List.mem_of_getElem? (i := 204) (by decide +kernel))) (by decide +kernel)
  | 38, _ => exact big_of (tk6 _ (List.mem_of_getElem? (i := 206) (by decide +kernel))) (by decide +kernel)
  | 39, _ => exact big_of (tk6 _ (List.mem_of_getElem? (i := 208) (by decide +kernel))) (by decide +kernel)
  | 40, _ => exact big_of (tk6 _ (List.mem_of_getElem? (i := 210) (by decide +kernel))) (by decide +kernel)
  | 41, _ => exact big_of (tk6 _ (List.mem_of_getElem? (i := 212) (by decide +kernel))) (by decide +kernel)
  | 42, _ => exact big_of (tk6 _ (List.mem_of_getElem? (i := 214) (by decide +kernel))) (by decide +kernel)
  | 43, _ => exact big_of (tk6 _ (List.mem_of_getElem? (i := 216) (by decide +kernel))) (by decide +kernel)
  | 44, _ => exact big_of (tk6 _ (List.mem_of_getElem? (i := 218) (by decide +kernel))) (by decide +kernel)
  | 45, _ => exact big_of (tk6 _ (List.mem_of_getElem? (i := 220) (by decide +kernel))) (by decide +kernel)
  | 46, _ => exact big_of (tk6 _ (List.mem_of_getElem? (i := 222) (by decide +kernel))) (by decide +kernel)
  | 47, _ => exact big_of (tk6 _ (List.mem_of_getElem? (i := 224) (by decide +kernel))) (by decide +kernel)
  | 48, _ => exact big_of (tk6 _ (List.mem_of_getElem? (i := 226) (by decide +kernel))) (by decide +kernel)
  | 49, _ => exact big_of (tk6 _ (List.mem_of_getElem? (i := 228) (by decide +kernel))) (by decide +kernel)
  | 50, _ => exact big_of (tk6 _ (List.mem_of_getElem? (i := 230) (by decide +kernel))) (by decide +kernel)
  | 51, _ => exact big_of (tk6 _ (List.mem_of_getElem? (i := 232) (by decide +kernel))) (by decide +kernel)
  | 52, _ => exact big_of (tk6 _ (List.mem_of_getElem? (i := 234) (by decide +kernel))) (by decide +kernel)
  | 53, _ => exact big_of (tk6 _ (List.mem_of_getElem? (i := 236) (by decide +kernel))) (by decide +kernel)
  | 54, _ => exact big_of (tk6 _ (List.mem_of_getElem? (i := 238) (by decide +kernel))) (by decide +kernel)
  | 55, _ => exact big_of (tk7 _ (List.mem_of_getElem? (i := 0) (by decide +kernel))) (by decide +kernel)
  | 56, _ => exact big_of (tk7 _ (List.mem_of_getElem? (i := 2) (by decide +kernel))) (by decide +kernel)
  | 57, _ => exact big_of (tk7 _ (List.mem_of_getElem? (i := 4) (by decide +kernel))) (by decide +kernel)
  | 58, _ => exact big_of (tk7 _ (List.mem_of_getElem? (i := 6) (by decide +kernel))) (by decide +kernel)
  | 59, _ => exact big_of (tk7 _ (List.mem_of_getElem? (i := 8) (by decide +kernel))) (by decide +kernel)
  | 60, _ => exact big_of (tk7 _ (List.mem_of_getElem? (i := 10) (by decide +kernel))) (by decide +kernel)
  | 61, _ => exact big_of (tk7 _ (List.mem_of_getElem? (i := 12) (by decide +kernel))) (by decide +kernel)
  | 62, _ => exact big_of (tk7 _ (List.mem_of_getElem? (i := 14) (by decide +kernel))) (by decide +kernel)
  | 63, _ => exact big_of (tk7 _ (List.mem_of_getElem? (i := 16) (by decide +kernel))) (by decide +kernel)
  | k + 64, h => exact absurd h (by omega)
theorem ck12 : CK 12 RX12 TX12 64 tyX12 := ⟨rfl, cw12, tyX12_ok, nmX12⟩
