theorem ml_8_9 : Cond.methodLink RX8 9 yJ_max ∈ BIG := big_of (tk1 _ (List.mem_of_getElem? (i := 42) (by decide +kernel))) (by decide +kernel)
theorem ol_8_3 : Cond.methodLink RX8 3 Lib.objectInit ∈ BIG := big_of (tk1 _ (List.mem_of_getElem? (i := 41) (by decide +kernel))) (by decide +kernel)
theorem oi_i : Cond.instanceMethod Lib.objectInit ∈ BIG := big_of (tk1 _ (List.mem_of_getElem? (i := 28) (by decide +kernel))) (by decide +kernel)
theorem oi_c : Cond.code Lib.objectInit ⟨#[0xb1]⟩ 1 none ∈ BIG := big_of (tk1 _ (List.mem_of_getElem? (i := 29) (by decide +kernel))) (by decide +kernel)
theorem ol_11_1 : Cond.methodLink RX11 1 Lib.objectInit ∈ BIG := big_of (tk1 _ (List.mem_of_getElem? (i := 27) (by decide +kernel))) (by decide +kernel)
theorem cl_11_7 : Cond.classLink RX11 7 RX10 ∈ BIG := big_of (tk1 _ (List.mem_of_getElem? (i := 30) (by decide +kernel))) (by decide +kernel)
theorem it_10 : Cond.instantiable RX10 13 ∈ BIG := big_of (tk1 _ (List.mem_of_getElem? (i := 31) (by decide +kernel))) (by decide +kernel)
theorem ol_10_3 : Cond.methodLink RX10 3 Lib.objectInit ∈ BIG := big_of (tk1 _ (List.mem_of_getElem? (i := 35) (by decide +kernel))) (by decide +kernel)
theorem cl_10_9 : Cond.classLink RX10 9 RX8 ∈ BIG := big_of (tk1 _ (List.mem_of_getElem? (i := 36) (by decide +kernel))) (by decide +kernel)
theorem it_8 : Cond.instantiable RX8 4 ∈ BIG := big_of (tk1 _ (List.mem_of_getElem? (i := 37) (by decide +kernel))) (by decide +kernel)
theorem kl_10_11 : Cond.methodLink RX10 11 yX8_init ∈ BIG := big_of (tk1 _ (List.mem_of_getElem? (i := 38) (by decide +kernel))) (by decide +kernel)
theorem coi_8 : Cond.code yX8_init cX8_init 3 none ∈ BIG := big_of (tk1 _ (List.mem_of_getElem? (i := 40) (by decide +kernel))) (by decide +kernel)
theorem imi_8 : Cond.instanceMethod yX8_init ∈ BIG := big_of (tk1 _ (List.mem_of_getElem? (i := 39) (by decide +kernel))) (by decide +kernel)
theorem ml_10_51 : Cond.methodLink RX10 51 yJ_fill ∈ BIG := big_of (tk1 _ (List.mem_of_getElem? (i := 67) (by decide +kernel))) (by decide +kernel)
theorem kl_11_9 : Cond.methodLink RX11 9 yX10_init ∈ BIG := big_of (tk1 _ (List.mem_of_getElem? (i := 32) (by decide +kernel))) (by decide +kernel)
theorem coi_10 : Cond.code yX10_init cX10_init 1 none ∈ BIG := big_of (tk1 _ (List.mem_of_getElem? (i := 34) (by decide +kernel))) (by decide +kernel)
theorem imi_10 : Cond.instanceMethod yX10_init ∈ BIG := big_of (tk1 _ (List.mem_of_getElem? (i := 33) (by decide +kernel))) (by decide +kernel)
theorem cl_11_19 : Cond.classLink RX11 19 RX9 ∈ BIG := big_of (tk1 _ (List.mem_of_getElem? (i := 141) (by decide +kernel))) (by decide +kernel)
theorem it_9 : Cond.instantiable RX9 12 ∈ BIG := big_of (tk1 _ (List.mem_of_getElem? (i := 142) (by decide +kernel))) (by decide +kernel)
theorem ol_9_3 : Cond.methodLink RX9 3 Lib.objectInit ∈ BIG := big_of (tk1 _ (List.mem_of_getElem? (i := 146) (by decide +kernel))) (by decide +kernel)
theorem kl_11_21 : Cond.methodLink RX11 21 yX9_init ∈ BIG := big_of (tk1 _ (List.mem_of_getElem? (i := 143) (by decide +kernel))) (by decide +kernel)
theorem coi_9 : Cond.code yX9_init cX9_init 2 none ∈ BIG := big_of (tk1 _ (List.mem_of_getElem? (i := 145) (by decide +kernel))) (by decide +kernel)
theorem imi_9 : Cond.instanceMethod yX9_init ∈ BIG := big_of (tk1 _ (List.mem_of_getElem? (i := 144) (by decide +kernel))) (by decide +kernel)
theorem cl_11_28 : Cond.classLink RX11 28 RX5 ∈ BIG := big_of (tk1 _ (List.mem_of_getElem? (i := 188) (by decide +kernel))) (by decide +kernel)
theorem it_5 : Cond.instantiable RX5 9 ∈ BIG := big_of (tk1 _ (List.mem_of_getElem? (i := 189) (by decide +kernel))) (by decide +kernel)
theorem ol_5_3 : Cond.methodLink RX5 3 Lib.objectInit ∈ BIG := big_of (tk1 _ (List.mem_of_getElem? (i := 193) (by decide +kernel))) (by decide +kernel)
theorem cl_5_9 : Cond.classLink RX5 9 RX0 ∈ BIG := big_of (tk1 _ (List.mem_of_getElem? (i := 194) (by decide +kernel))) (by decide +kernel)
theorem it_0 : Cond.instantiable RX0 3 ∈ BIG := big_of (tk1 _ (List.mem_of_getElem? (i := 195) (by decide +kernel))) (by decide +kernel)
theorem ol_0_3 : Cond.methodLink RX0 3 Lib.objectInit ∈ BIG := big_of (tk1 _ (List.mem_of_getElem? (i := 199) (by decide +kernel))) (by decide +kernel)
theorem kl_5_11 : Cond.methodLink RX5 11 yX0_init ∈ BIG := big_of (tk1 _ (List.mem_of_getElem? (i := 196) (by decide +kernel))) (by decide +kernel)
theorem coi_0 : Cond.code yX0_init cX0_init 1 none ∈ BIG := big_of (tk1 _ (List.mem_of_getElem? (i := 198) (by decide +kernel))) (by decide +kernel)
theorem imi_0 : Cond.instanceMethod yX0_init ∈ BIG := big_of (tk1 _ (List.mem_of_getElem? (i := 197) (by decide +kernel))) (by decide +kernel)
theorem kl_11_30 : Cond.methodLink RX11 30 yX5_init ∈ BIG := big_of (tk1 _ (List.mem_of_getElem? (i := 190) (by decide +kernel))) (by decide +kernel)
theorem coi_5 : Cond.code yX5_init cX5_init 3 none ∈ BIG := big_of (tk1 _ (List.mem_of_getElem? (i := 192) (by decide +kernel))) (by decide +kernel)
theorem imi_5 : Cond.instanceMethod yX5_init ∈ BIG := big_of (tk1 _ (List.mem_of_getElem? (i := 191) (by decide +kernel))) (by decide +kernel)
theorem cl_11_37 : Cond.classLink RX11 37 RX8 ∈ BIG := big_of (tk2 _ (List.mem_of_getElem? (i := 2) (by decide +kernel))) (by decide +kernel)
theorem kl_11_39 : Cond.methodLink RX11 39 yX8_init ∈ BIG := big_of (tk2 _ (List.mem_of_getElem? (i := 3) (by decide +kernel))) (by decide +kernel)
theorem cl_11_46 : Cond.classLink RX11 46 RX1 ∈ BIG := big_of (tk2 _ (List.mem_of_getElem? (i := 4) (by decide +kernel))) (by decide +kernel)
theorem it_1 : Cond.instantiable RX1 4 ∈ BIG := big_of (tk2 _ (List.mem_of_getElem? (i := 5) (by decide +kernel))) (by decide +kernel)
theorem ol_1_3 : Cond.methodLink RX1 3 Lib.objectInit ∈ BIG := big_of (tk2 _ (List.mem_of_getElem? (i := 9) (by decide +kernel))) (by decide +kernel)
theorem cl_1_9 : Cond.classLink RX1 9 RX0 ∈ BIG := big_of (tk2 _ (List.mem_of_getElem? (i := 10) (by decide +kernel))) (by decide +kernel)
theorem kl_1_11 : Cond.methodLink RX1 11 yX0_init ∈ BIG := big_of (tk2 _ (List.mem_of_getElem? (i := 11) (by decide +kernel))) (by decide +kernel)
theorem kl_11_48 : Cond.methodLink RX11 48 yX1_init ∈ BIG := big_of (tk2 _ (List.mem_of_getElem? (i := 6) (by decide +kernel))) (by decide +kernel)
theorem coi_1 : Cond.code yX1_init cX1_init 2 none ∈ BIG := big_of (tk2 _ (List.mem_of_getElem? (i := 8) (by decide +kernel))) (by decide +kernel)
theorem imi_1 : Cond.instanceMethod yX1_init ∈ BIG := big_of (tk2 _ (List.mem_of_getElem? (i := 7) (by decide +kernel))) (by decide +kernel)
theorem cl_11_53 : Cond.classLink RX11 53 RX2 ∈ BIG := big_of (tk2 _ (List.mem_of_getElem? (i := 25) (by decide +kernel))) (by decide +kernel)
theorem it_2 : Cond.instantiable RX2 2 ∈ BIG := big_of (tk2 _ (List.mem_of_getElem? (i := 26) (by decide +kernel))) (by decide +kernel)
theorem ol_2_3 : Cond.methodLink RX2 3 Lib.objectInit ∈ BIG := big_of (tk2 _ (List.mem_of_getElem? (i := 30) (by decide +kernel))) (by decide +kernel)
theorem kl_11_55 : Cond.methodLink RX11 55 yX2_init ∈ BIG := big_of (tk2 _ (List.mem_of_getElem? (i := 27) (by decide +kernel))) (by decide +kernel)
theorem coi_2 : Cond.code yX2_init cX2_init 2 none ∈ BIG := big_of (tk2 _ (List.mem_of_getElem? (i := 29) (by decide +kernel))) (by decide +kernel)
theorem imi_2 : Cond.instanceMethod yX2_init ∈ BIG := big_of (tk2 _ (List.mem_of_getElem? (i := 28) (by decide +kernel))) (by decide +kernel)
theorem cl_11_60 : Cond.classLink RX11 60 RX7 ∈ BIG := big_of (tk2 _ (List.mem_of_getElem? (i := 38) (by decide +kernel))) (by decide +kernel)
theorem it_7 : Cond.instantiable RX7 7 ∈ BIG := big_of (tk2 _ (List.mem_of_getElem? (i := 39) (by decide +kernel))) (by decide +kernel)
theorem ol_7_3 : Cond.methodLink RX7 3 Lib.objectInit ∈ BIG := big_of (tk2 _ (List.mem_of_getElem? (i := 43) (by decide +kernel))) (by decide +kernel)
theorem cl_7_21 : Cond.classLink RX7 21 RX8 ∈ BIG := big_of (tk2 _ (List.mem_of_getElem? (i := 44) (by decide +kernel))) (by decide +kernel)
theorem kl_7_23 : Cond.methodLink RX7 23 yX8_init ∈ BIG := big_of (tk2 _ (List.mem_of_getElem? (i := 45) (by decide +kernel))) (by decide +kernel)
theorem kl_11_62 : Cond.methodLink RX11 62 yX7_init ∈ BIG := big_of (tk2 _ (List.mem_of_getElem? (i := 40) (by decide +kernel))) (by decide +kernel)
theorem coi_7 : Cond.code yX7_init cX7_init 1 none ∈ BIG := big_of (tk2 _ (List.mem_of_getElem? (i := 42) (by decide +kernel))) (by decide +kernel)
theorem imi_7 : Cond.instanceMethod yX7_init ∈ BIG := big_of (tk2 _ (List.mem_of_getElem? (i := 41) (by decide +kernel))) (by decide +kernel)
theorem cl_11_67 : Cond.classLink RX11 67 RX3 ∈ BIG := big_of (tk2 _ (List.mem_of_getElem? (i := 70) (by decide +kernel))) (by decide +kernel)
theorem it_3 : Cond.instantiable RX3 2 ∈ BIG := big_of (tk2 _ (List.mem_of_getElem? (i := 71) (by decide +kernel))) (by decide +kernel)
theorem ol_3_3 : Cond.methodLink RX3 3 Lib.objectInit ∈ BIG := big_of (tk2 _ (List.mem_of_getElem? (i := 75) (by decide +kernel))) (by decide +kernel)
theorem kl_11_69 : Cond.methodLink RX11 69 yX3_init ∈ BIG := big_of (tk2 _ (List.mem_of_getElem? (i := 72) (by decide +kernel))) (by decide +kernel)
theorem coi_3 : Cond.code yX3_init cX3_init 2 none ∈ BIG := big_of (tk2 _ (List.mem_of_getElem? (i := 74) (by decide +kernel))) (by decide +kernel)
theorem imi_3 : Cond.instanceMethod yX3_init ∈ BIG := big_of (tk2 _ (List.mem_of_getElem? (i := 73) (by decide +kernel))) (by decide +kernel)
theorem cl_11_74 : Cond.classLink RX11 74 RX6 ∈ BIG := big_of (tk2 _ (List.mem_of_getElem? (i := 84) (by decide +kernel))) (by decide +kernel)
theorem it_6 : Cond.instantiable RX6 10 ∈ BIG := big_of (tk2 _ (List.mem_of_getElem? (i := 85) (by decide +kernel))) (by decide +kernel)
theorem ol_6_3 : Cond.methodLink RX6 3 Lib.objectInit ∈ BIG := big_of (tk2 _ (List.mem_of_getElem? (i := 89) (by decide +kernel))) (by decide +kernel)
theorem kl_11_76 : Cond.methodLink RX11 76 yX6_init ∈ BIG := big_of (tk2 _ (List.mem_of_getElem? (i := 86) (by decide +kernel))) (by decide +kernel)
theorem coi_6 : Cond.code yX6_init cX6_init 3 none ∈ BIG := big_of (tk2 _ (List.mem_of_getElem? (i := 88) (by decide +kernel))) (by decide +kernel)
theorem imi_6 : Cond.instanceMethod yX6_init ∈ BIG := big_of (tk2 _ (List.mem_of_getElem? (i := 87) (by decide +kernel))) (by decide +kernel)
theorem cl_11_83 : Cond.classLink RX11 83 RX4 ∈ BIG := big_of (tk2 _ (List.mem_of_getElem? (i := 121) (by decide +kernel))) (by decide +kernel)
theorem it_4 : Cond.instantiable RX4 12 ∈ BIG := big_of (tk2 _ (List.mem_of_getElem? (i := 122) (by decide +kernel))) (by decide +kernel)
theorem ol_4_1 : Cond.methodLink RX4 1 Lib.objectInit ∈ BIG := big_of (tk2 _ (List.mem_of_getElem? (i := 126) (by decide +kernel))) (by decide +kernel)
theorem ml_4_35 : Cond.methodLink RX4 35 yJ_fill ∈ BIG := big_of (tk2 _ (List.mem_of_getElem? (i := 127) (by decide +kernel))) (by decide +kernel)
theorem kl_11_85 : Cond.methodLink RX11 85 yX4_init ∈ BIG := big_of (tk2 _ (List.mem_of_getElem? (i := 123) (by decide +kernel))) (by decide +kernel)
theorem coi_4 : Cond.code yX4_init cX4_init 2 none ∈ BIG := big_of (tk2 _ (List.mem_of_getElem? (i := 125) (by decide +kernel))) (by decide +kernel)
theorem imi_4 : Cond.instanceMethod yX4_init ∈ BIG := big_of (tk2 _ (List.mem_of_getElem? (i := 124) (by decide +kernel))) (by decide +kernel)
theorem ol_12_1 : Cond.methodLink RX12 1 Lib.objectInit ∈ BIG := big_of (tk6 _ (List.mem_of_getElem? (i := 65) (by decide +kernel))) (by decide +kernel)
theorem coi_11 : Cond.code yX11_init cX11_init 1 none ∈ BIG := big_of (tk1 _ (List.mem_of_getElem? (i := 26) (by decide +kernel))) (by decide +kernel)
theorem imi_11 : Cond.instanceMethod yX11_init ∈ BIG := big_of (tk1 _ (List.mem_of_getElem? (i := 25) (by decide +kernel))) (by decide +kernel)
theorem coi_12 : Cond.code yX12_init cX12_init 2 none ∈ BIG := big_of (tk6 _ (List.mem_of_getElem? (i := 64) (by decide +kernel))) (by decide +kernel)
theorem imi_12 : Cond.instanceMethod yX12_init ∈ BIG := big_of (tk6 _ (List.mem_of_getElem? (i := 63) (by decide +kernel))) (by decide +kernel)
theorem wac : Cond.arrayClass .int ∈ BIG := big_of (tk1 _ (List.mem_of_getElem? (i := 66) (by decide +kernel))) (by decide +kernel)
theorem wbi_8 : wB yX8_init cX8_init 3 none := ⟨in_8, coi_8⟩
theorem dsi_8 : dsc yX8_init 2 := ⟨by decide +kernel, by decide +kernel, by decide +kernel⟩
theorem wbi_10 : wB yX10_init cX10_init 1 none := ⟨in_10, coi_10⟩
theorem dsi_10 : dsc yX10_init 0 := ⟨by decide +kernel, by decide +kernel, by decide +kernel⟩
theorem wbi_9 : wB yX9_init cX9_init 2 none := ⟨in_9, coi_9⟩
theorem dsi_9 : dsc yX9_init 1 := ⟨by decide +kernel, by decide +kernel, by decide +kernel⟩
theorem wbi_0 : wB yX0_init cX0_init 1 none := ⟨in_0, coi_0⟩
theorem dsi_0 : dsc yX0_init 0 := ⟨by decide +kernel, by decide +kernel, by decide +kernel⟩
theorem wbi_5 : wB yX5_init cX5_init 3 none := ⟨in_5, coi_5⟩
theorem dsi_5 : dsc yX5_init 2 := ⟨by decide +kernel, by decide +kernel, by decide +kernel⟩
theorem wbi_1 : wB yX1_init cX1_init 2 none := ⟨in_1, coi_1⟩
theorem dsi_1 : dsc yX1_init 1 := ⟨by decide +kernel, by decide +kernel, by decide +kernel⟩
theorem wbi_2 : wB yX2_init cX2_init 2 none := ⟨in_2, coi_2⟩
theorem dsi_2 : dsc yX2_init 1 := ⟨by decide +kernel, by decide +kernel, by decide +kernel⟩
theorem wbi_7 : wB yX7_init cX7_init 1 none := ⟨in_7, coi_7⟩
theorem dsi_7 : dsc yX7_init 0 := ⟨by decide +kernel, by decide +kernel, by decide +kernel⟩
theorem wbi_3 : wB yX3_init cX3_init 2 none := ⟨in_3, coi_3⟩
theorem dsi_3 : dsc yX3_init 1 := ⟨by decide +kernel, by decide +kernel, by decide +kernel⟩
theorem wbi_6 : wB yX6_init cX6_init 3 none := ⟨in_6, coi_6⟩
theorem dsi_6 : dsc yX6_init 2 := ⟨by decide +kernel, by decide +kernel, by decide +kernel⟩
theorem wbi_4 : wB yX4_init cX4_init 2 none := ⟨in_4, coi_4⟩
theorem dsi_4 : dsc yX4_init 1 := ⟨by decide +kernel, by decide +kernel, by decide +kernel⟩
theorem wbi_11 : wB yX11_init cX11_init 1 none := ⟨in_11, coi_11⟩
theorem dsi_11 : dsc yX11_init 0 := ⟨by decide +kernel, by decide +kernel, by decide +kernel⟩
theorem wbi_12 : wB yX12_init cX12_init 2 none := ⟨in_12, coi_12⟩
theorem dsi_12 : dsc yX12_init 0 := ⟨by decide +kernel, by decide +kernel, by decide +kernel⟩
theorem hfs0 : ∀ (h0 sz : Nat) (av : List Value), ∀ j, j < 3 → defaultValue (tyX0 j) = vp_V (([(4, 0), (4, 0), (0, 0)] : List kv).map (kcv h0 sz av)) j := by
  intro h0 sz av j hj
  match j, hj with
  | 0, _ => rfl
  | 1, _ => rfl
  | 2, _ => rfl
  | j + 3, h => exact absurd h (by omega)
theorem hfs1 : ∀ (h0 sz : Nat) (av : List Value), ∀ j, j < 4 → defaultValue (tyX1 j) = vp_V (([(4, 0), (4, 0), (4, 0), (0, 0)] : List kv).map (kcv h0 sz av)) j := by
  intro h0 sz av j hj
  match j, hj with
  | 0, _ => rfl
  | 1, _ => rfl
  | 2, _ => rfl
  | 3, _ => rfl
  | j + 4, h => exact absurd h (by omega)
theorem hfs2 : ∀ (h0 sz : Nat) (av : List Value), ∀ j, j < 2 → defaultValue (tyX2 j) = vp_V (([(4, 0), (4, 0)] : List kv).map (kcv h0 sz av)) j := by
  intro h0 sz av j hj
  match j, hj with
  | 0, _ => rfl
  | 1, _ => rfl
  | j + 2, h => exact absurd h (by omega)
theorem hfs3 : ∀ (h0 sz : Nat) (av : List Value), ∀ j, j < 2 → defaultValue (tyX3 j) = vp_V (([(4, 0), (4, 0)] : List kv).map (kcv h0 sz av)) j := by
  intro h0 sz av j hj
  match j, hj with
  | 0, _ => rfl
  | 1, _ => rfl
  | j + 2, h => exact absurd h (by omega)
theorem hfs4 : ∀ (h0 sz : Nat) (av : List Value), ∀ j, j < 12 → defaultValue (tyX4 j) = vp_V (([(4, 0), (4, 0), (4, 0), (4, 0), (4, 0), (4, 0), (4, 0), (4, 0), (0, 0), (0, 0), (0, 0), (0, 0)] : List kv).map (kcv h0 sz av)) j := by
  intro h0 sz av j hj
  match j, hj with
  | 0, _ => rfl
  | 1, _ => rfl
  | 2, _ => rfl
  | 3, _ => rfl
  | 4, _ => rfl
  | 5, _ => rfl
  | 6, _ => rfl
  | 7, _ => rfl
  | 8, _ => rfl
  | 9, _ => rfl
  | 10, _ => rfl
  | 11, _ => rfl
  | j + 12, h => exact absurd h (by omega)
theorem hfs5 : ∀ (h0 sz : Nat) (av : List Value), ∀ j, j < 9 → defaultValue (tyX5 j) = vp_V (([(4, 0), (4, 0), (4, 0), (4, 0), (0, 0), (4, 0), (4, 0), (4, 0), (4, 0)] : List kv).map (kcv h0 sz av)) j := by
  intro h0 sz av j hj
  match j, hj with
  | 0, _ => rfl
  | 1, _ => rfl
  | 2, _ => rfl
  | 3, _ => rfl
  | 4, _ => rfl
  | 5, _ => rfl
  | 6, _ => rfl
  | 7, _ => rfl
  | 8, _ => rfl
  | j + 9, h => exact absurd h (by omega)
theorem hfs6 : ∀ (h0 sz : Nat) (av : List Value), ∀ j, j < 10 → defaultValue (tyX6 j) = vp_V (([(4, 0), (4, 0), (4, 0), (0, 0), (4, 0), (4, 0), (4, 0), (4, 0), (4, 0), (0, 0)] : List kv).map (kcv h0 sz av)) j := by
  intro h0 sz av j hj
  match j, hj with
  | 0, _ => rfl
  | 1, _ => rfl
  | 2, _ => rfl
  | 3, _ => rfl
  | 4, _ => rfl
  | 5, _ => rfl
  | 6, _ => rfl
  | 7, _ => rfl
  | 8, _ => rfl
  | 9, _ => rfl
  | j + 10, h => exact absurd h (by omega)
theorem hfs7 : ∀ (h0 sz : Nat) (av : List Value), ∀ j, j < 7 → defaultValue (tyX7 j) = vp_V (([(4, 0), (0, 0), (4, 0), (4, 0), (0, 0), (0, 0), (4, 0)] : List kv).map (kcv h0 sz av)) j := by
  intro h0 sz av j hj
  match j, hj with
  | 0, _ => rfl
  | 1, _ => rfl
  | 2, _ => rfl
  | 3, _ => rfl
  | 4, _ => rfl
  | 5, _ => rfl
  | 6, _ => rfl
  | j + 7, h => exact absurd h (by omega)
theorem hfs8 : ∀ (h0 sz : Nat) (av : List Value), ∀ j, j < 4 → defaultValue (tyX8 j) = vp_V (([(0, 0), (0, 0), (4, 0), (0, 0)] : List kv).map (kcv h0 sz av)) j := by
  intro h0 sz av j hj
  match j, hj with
  | 0, _ => rfl
  | 1, _ => rfl
  | 2, _ => rfl
  | 3, _ => rfl
  | j + 4, h => exact absurd h (by omega)
theorem hfs9 : ∀ (h0 sz : Nat) (av : List Value), ∀ j, j < 12 → defaultValue (tyX9 j) = vp_V (([(4, 0), (4, 0), (4, 0), (0, 0), (0, 0), (0, 0), (4, 0), (4, 0), (4, 0), (4, 0), (0, 0), (0, 0)] : List kv).map (kcv h0 sz av)) j := by
  intro h0 sz av j hj
  match j, hj with
  | 0, _ => rfl
  | 1, _ => rfl
  | 2, _ => rfl
  | 3, _ => rfl
  | 4, _ => rfl
  | 5, _ => rfl
  | 6, _ => rfl
  | 7, _ => rfl
  | 8, _ => rfl
  | 9, _ => rfl
  | 10, _ => rfl
  | 11, _ => rfl
  | j + 12, h => exact absurd h (by omega)
theorem hfs10 : ∀ (h0 sz : Nat) (av : List Value), ∀ j, j < 13 → defaultValue (tyX10 j) = vp_V (([(4, 0), (4, 0), (4, 0), (4, 0), (4, 0), (4, 0), (4, 0), (4, 0), (4, 0), (4, 0), (4, 0), (0, 0), (0, 0)] : List kv).map (kcv h0 sz av)) j := by
  intro h0 sz av j hj
  match j, hj with
  | 0, _ => rfl
  | 1, _ => rfl
  | 2, _ => rfl
  | 3, _ => rfl
  | 4, _ => rfl
  | 5, _ => rfl
  | 6, _ => rfl
  | 7, _ => rfl
  | 8, _ => rfl
  | 9, _ => rfl
  | 10, _ => rfl
  | 11, _ => rfl
  | 12, _ => rfl
  | j + 13, h => exact absurd h (by omega)
theorem hfs11 : ∀ (h0 sz : Nat) (av : List Value), ∀ j, j < 12 → defaultValue (tyX11 j) = vp_V (([(4, 0), (4, 0), (0, 0), (4, 0), (4, 0), (4, 0), (4, 0), (4, 0), (4, 0), (4, 0), (4, 0), (4, 0)] : List kv).map (kcv h0 sz av)) j := by
  intro h0 sz av j hj
  match j, hj with
  | 0, _ => rfl
  | 1, _ => rfl
  | 2, _ => rfl
  | 3, _ => rfl
  | 4, _ => rfl
  | 5, _ => rfl
  | 6, _ => rfl
  | 7, _ => rfl
  | 8, _ => rfl
  | 9, _ => rfl
  | 10, _ => rfl
  | 11, _ => rfl
  | j + 12, h => exact absurd h (by omega)
theorem hfs12 : ∀ (h0 sz : Nat) (av : List Value), ∀ j, j < 64 → defaultValue (tyX12 j) = vp_V (([(4, 0), (4, 0), (4, 0), (4, 0), (4, 0), (4, 0), (4, 0), (4, 0), (4, 0), (4, 0), (4, 0), (0, 0), (4, 0), (4, 0), (4, 0), (4, 0), (4, 0), (0, 0), (0, 0), (4, 0), (4, 0), (4, 0), (0, 0), (0, 0), (4, 0), (4, 0), (4, 0), (4, 0), (4, 0), (0, 0), (0, 0), (0, 0), (0, 0), (0, 0), (0, 0), (4, 0), (4, 0), (4, 0), (4, 0), (4, 0), (4, 0), (4, 0), (0, 0), (0, 0), (0, 0), (4, 0), (4, 0), (4, 0), (4, 0), (4, 0), (4, 0), (4, 0), (4, 0), (4, 0), (4, 0), (0, 0), (0, 0), (0, 0), (4, 0), (0, 0), (0, 0), (0, 0), (4, 0), (0, 0)] : List kv).map (kcv h0 sz av)) j := by
  intro h0 sz av j hj
  match j, hj with
  | 0, _ => rfl
  | 1, _ => rfl
  | 2, _ => rfl
  | 3, _ => rfl
  | 4, _ => rfl
  | 5, _ => rfl
  | 6, _ => rfl
  | 7, _ => rfl
  | 8, _ => rfl
  | 9, _ => rfl
  | 10, _ => rfl
  | 11, _ => rfl
  | 12, _ => rfl
  | 13, _ => rfl
  | 14, _ => rfl
  | 15, _ => rfl
  | 16, _ => rfl
  | 17, _ => rfl
  | 18, _ => rfl
  | 19, _ => rfl
  | 20, _ => rfl
  | 21, _ => rfl
  | 22, _ => rfl
  | 23, _ => rfl
  | 24, _ => rfl
  | 25, _ => rfl
  | 26, _ => rfl
  | 27, _ => rfl
  | 28, _ => rfl
  | 29, _ => rfl
  | 30, _ => rfl
  | 31, _ => rfl
  | 32, _ => rfl
  | 33, _ => rfl
  | 34, _ => rfl
  | 35, _ => rfl
  | 36, _ => rfl
  | 37, _ => rfl
  | 38, _ => rfl
  | 39, _ => rfl
  | 40, _ => rfl
  | 41, _ => rfl
  | 42, _ => rfl
  | 43, _ => rfl
  | 44, _ => rfl
  | 45, _ => rfl
  | 46, _ => rfl
  | 47, _ => rfl
  | 48, _ => rfl
  | 49, _ => rfl
  | 50, _ => rfl
  | 51, _ => rfl
  | 52, _ => rfl
  | 53, _ => rfl
  | 54, _ => rfl
  | 55, _ => rfl
  | 56, _ => rfl
  | 57, _ => rfl
  | 58, _ => rfl
  | 59, _ => rfl
  | 60, _ => rfl
  | 61, _ => rfl
  | 62, _ => rfl
  | 63, _ => rfl
  | j + 64, h => exact absurd h (by omega)
