theorem in_11 : Cond.initialized RX11 ∈ BIG := big_of (tk1 _ (List.mem_of_getElem? (i := 1) (by decide +kernel))) (by decide +kernel)
theorem co_11_isWithin : Cond.code yX11_isWithin cX11_isWithin 3 (some .boolean) ∈ BIG := big_of (tk2 _ (List.mem_of_getElem? (i := 211) (by decide +kernel))) (by decide +kernel)
theorem wb_11_isWithin : wB yX11_isWithin cX11_isWithin 3 (some .boolean) := ⟨in_11, co_11_isWithin⟩
theorem ds_11_isWithin : dsc yX11_isWithin 3 := ⟨by decide +kernel, by decide +kernel, by decide +kernel⟩
theorem st_11_isWithin : Cond.static yX11_isWithin ∈ BIG := big_of (tk2 _ (List.mem_of_getElem? (i := 210) (by decide +kernel))) (by decide +kernel)
theorem ml_11_94 : Cond.methodLink RX11 94 yX11_isWithin ∈ BIG := big_of (tk2 _ (List.mem_of_getElem? (i := 209) (by decide +kernel))) (by decide +kernel)
theorem fl_11_10 : Cond.fieldLink RX11 10 (TX11 0).1 (TX11 0).2.1 (TX11 0).2.2.1 ∈ BIG := big_of (tk2 _ (List.mem_of_getElem? (i := 168) (by decide +kernel))) (by decide +kernel)
theorem fn_11_98 : (RX11, 98, (TX10 12).1, (TX10 12).2.1, (TX10 12).2.2.1, "CourtVans") ∈ NSF := List.mem_of_getElem? (i := 37) (by decide +kernel)
theorem co_11_minutes : Cond.code yX11_minutes cX11_minutes 2 (some .int) ∈ BIG := big_of (tk2 _ (List.mem_of_getElem? (i := 208) (by decide +kernel))) (by decide +kernel)
theorem wb_11_minutes : wB yX11_minutes cX11_minutes 2 (some .int) := ⟨in_11, co_11_minutes⟩
theorem ds_11_minutes : dsc yX11_minutes 1 := ⟨by decide +kernel, by decide +kernel, by decide +kernel⟩
theorem im_11_minutes : Cond.instanceMethod yX11_minutes ∈ BIG := big_of (tk2 _ (List.mem_of_getElem? (i := 206) (by decide +kernel))) (by decide +kernel)
theorem se_11_minutes : Cond.selects (yX11_minutes).cls yX11_minutes yX11_minutes ∈ BIG := big_of (tk2 _ (List.mem_of_getElem? (i := 207) (by decide +kernel))) (by decide +kernel)
theorem wi_11_minutes : wI yX11_minutes := ⟨im_11_minutes, se_11_minutes⟩
theorem kc_11_102 : Cond.constant RX11 102 (Int32.ofInt 2073599) ∈ BIG := big_of (tk2 _ (List.mem_of_getElem? (i := 216) (by decide +kernel))) (by decide +kernel)
theorem fn_11_103 : (RX11, 103, (TX10 0).1, (TX10 0).2.1, (TX10 0).2.2.1, "CourtVans") ∈ NSF := List.mem_of_getElem? (i := 11) (by decide +kernel)
theorem in_8 : Cond.initialized RX8 ∈ BIG := big_of (tk1 _ (List.mem_of_getElem? (i := 3) (by decide +kernel))) (by decide +kernel)
theorem co_8_add : Cond.code yX8_add cX8_add 7 (some .int) ∈ BIG := big_of (tk2 _ (List.mem_of_getElem? (i := 220) (by decide +kernel))) (by decide +kernel)
theorem wb_8_add : wB yX8_add cX8_add 7 (some .int) := ⟨in_8, co_8_add⟩
theorem ds_8_add : dsc yX8_add 5 := ⟨by decide +kernel, by decide +kernel, by decide +kernel⟩
theorem im_8_add : Cond.instanceMethod yX8_add ∈ BIG := big_of (tk2 _ (List.mem_of_getElem? (i := 218) (by decide +kernel))) (by decide +kernel)
theorem se_8_add : Cond.selects (yX8_add).cls yX8_add yX8_add ∈ BIG := big_of (tk2 _ (List.mem_of_getElem? (i := 219) (by decide +kernel))) (by decide +kernel)
theorem wi_8_add : wI yX8_add := ⟨im_8_add, se_8_add⟩
theorem ml_11_106 : Cond.methodLink RX11 106 yX8_add ∈ BIG := big_of (tk2 _ (List.mem_of_getElem? (i := 217) (by decide +kernel))) (by decide +kernel)
theorem fl_8_28 : Cond.fieldLink RX8 28 (TX8 3).1 (TX8 3).2.1 (TX8 3).2.2.1 ∈ BIG := big_of (tk1 _ (List.mem_of_getElem? (i := 48) (by decide +kernel))) (by decide +kernel)
theorem fl_8_21 : Cond.fieldLink RX8 21 (TX8 1).1 (TX8 1).2.1 (TX8 1).2.2.1 ∈ BIG := big_of (tk1 _ (List.mem_of_getElem? (i := 46) (by decide +kernel))) (by decide +kernel)
theorem co_8_change : Cond.code yX8_change cX8_change 4 none ∈ BIG := big_of (tk2 _ (List.mem_of_getElem? (i := 224) (by decide +kernel))) (by decide +kernel)
theorem wb_8_change : wB yX8_change cX8_change 4 none := ⟨in_8, co_8_change⟩
theorem ds_8_change : dsc yX8_change 3 := ⟨by decide +kernel, by decide +kernel, by decide +kernel⟩
theorem im_8_change : Cond.instanceMethod yX8_change ∈ BIG := big_of (tk2 _ (List.mem_of_getElem? (i := 222) (by decide +kernel))) (by decide +kernel)
theorem se_8_change : Cond.selects (yX8_change).cls yX8_change yX8_change ∈ BIG := big_of (tk2 _ (List.mem_of_getElem? (i := 223) (by decide +kernel))) (by decide +kernel)
theorem wi_8_change : wI yX8_change := ⟨im_8_change, se_8_change⟩
theorem ml_8_31 : Cond.methodLink RX8 31 yX8_change ∈ BIG := big_of (tk2 _ (List.mem_of_getElem? (i := 221) (by decide +kernel))) (by decide +kernel)
theorem fl_8_15 : Cond.fieldLink RX8 15 (TX8 0).1 (TX8 0).2.1 (TX8 0).2.2.1 ∈ BIG := big_of (tk1 _ (List.mem_of_getElem? (i := 45) (by decide +kernel))) (by decide +kernel)
theorem fl_8_24 : Cond.fieldLink RX8 24 (TX8 2).1 (TX8 2).2.1 (TX8 2).2.2.1 ∈ BIG := big_of (tk1 _ (List.mem_of_getElem? (i := 47) (by decide +kernel))) (by decide +kernel)
theorem co_11_place : Cond.code yX11_place cX11_place 8 (some .int) ∈ BIG := big_of (tk2 _ (List.mem_of_getElem? (i := 215) (by decide +kernel))) (by decide +kernel)
theorem wb_11_place : wB yX11_place cX11_place 8 (some .int) := ⟨in_11, co_11_place⟩
theorem ds_11_place : dsc yX11_place 4 := ⟨by decide +kernel, by decide +kernel, by decide +kernel⟩
theorem im_11_place : Cond.instanceMethod yX11_place ∈ BIG := big_of (tk2 _ (List.mem_of_getElem? (i := 213) (by decide +kernel))) (by decide +kernel)
theorem se_11_place : Cond.selects (yX11_place).cls yX11_place yX11_place ∈ BIG := big_of (tk2 _ (List.mem_of_getElem? (i := 214) (by decide +kernel))) (by decide +kernel)
theorem wi_11_place : wI yX11_place := ⟨im_11_place, se_11_place⟩
theorem co_11_arePlaces : Cond.code yX11_arePlaces cX11_arePlaces 3 (some .boolean) ∈ BIG := big_of (tk2 _ (List.mem_of_getElem? (i := 232) (by decide +kernel))) (by decide +kernel)
theorem wb_11_arePlaces : wB yX11_arePlaces cX11_arePlaces 3 (some .boolean) := ⟨in_11, co_11_arePlaces⟩
theorem ds_11_arePlaces : dsc yX11_arePlaces 2 := ⟨by decide +kernel, by decide +kernel, by decide +kernel⟩
theorem im_11_arePlaces : Cond.instanceMethod yX11_arePlaces ∈ BIG := big_of (tk2 _ (List.mem_of_getElem? (i := 231) (by decide +kernel))) (by decide +kernel)
theorem se_11_arePlaces : Cond.selects (yX11_arePlaces).cls yX11_arePlaces yX11_arePlaces ∈ BIG := big_of (pv1 (yX11_arePlaces, 12) (List.mem_of_getElem? (i := 0) (by decide +kernel))) (by decide +kernel)
theorem wi_11_arePlaces : wI yX11_arePlaces := ⟨im_11_arePlaces, se_11_arePlaces⟩
theorem ml_11_110 : Cond.methodLink RX11 110 yX11_arePlaces ∈ BIG := big_of (tk2 _ (List.mem_of_getElem? (i := 229) (by decide +kernel))) (by decide +kernel)
theorem in_10 : Cond.initialized RX10 ∈ BIG := big_of (tk1 _ (List.mem_of_getElem? (i := 2) (by decide +kernel))) (by decide +kernel)
theorem co_10_roadMinutes : Cond.code yX10_roadMinutes cX10_roadMinutes 3 (some .int) ∈ BIG := big_of (tk3 _ (List.mem_of_getElem? (i := 4) (by decide +kernel))) (by decide +kernel)
theorem wb_10_roadMinutes : wB yX10_roadMinutes cX10_roadMinutes 3 (some .int) := ⟨in_10, co_10_roadMinutes⟩
theorem ds_10_roadMinutes : dsc yX10_roadMinutes 2 := ⟨by decide +kernel, by decide +kernel, by decide +kernel⟩
theorem im_10_roadMinutes : Cond.instanceMethod yX10_roadMinutes ∈ BIG := big_of (tk3 _ (List.mem_of_getElem? (i := 2) (by decide +kernel))) (by decide +kernel)
theorem se_10_roadMinutes : Cond.selects (yX10_roadMinutes).cls yX10_roadMinutes yX10_roadMinutes ∈ BIG := big_of (tk3 _ (List.mem_of_getElem? (i := 3) (by decide +kernel))) (by decide +kernel)
theorem wi_10_roadMinutes : wI yX10_roadMinutes := ⟨im_10_roadMinutes, se_10_roadMinutes⟩
theorem ml_11_114 : Cond.methodLink RX11 114 yX10_roadMinutes ∈ BIG := big_of (tk3 _ (List.mem_of_getElem? (i := 1) (by decide +kernel))) (by decide +kernel)
theorem co_10_layRoad : Cond.code yX10_layRoad cX10_layRoad 4 none ∈ BIG := big_of (tk3 _ (List.mem_of_getElem? (i := 9) (by decide +kernel))) (by decide +kernel)
theorem wb_10_layRoad : wB yX10_layRoad cX10_layRoad 4 none := ⟨in_10, co_10_layRoad⟩
theorem ds_10_layRoad : dsc yX10_layRoad 3 := ⟨by decide +kernel, by decide +kernel, by decide +kernel⟩
theorem im_10_layRoad : Cond.instanceMethod yX10_layRoad ∈ BIG := big_of (tk3 _ (List.mem_of_getElem? (i := 7) (by decide +kernel))) (by decide +kernel)
theorem se_10_layRoad : Cond.selects (yX10_layRoad).cls yX10_layRoad yX10_layRoad ∈ BIG := big_of (tk3 _ (List.mem_of_getElem? (i := 8) (by decide +kernel))) (by decide +kernel)
theorem wi_10_layRoad : wI yX10_layRoad := ⟨im_10_layRoad, se_10_layRoad⟩
theorem ml_11_118 : Cond.methodLink RX11 118 yX10_layRoad ∈ BIG := big_of (tk3 _ (List.mem_of_getElem? (i := 6) (by decide +kernel))) (by decide +kernel)
theorem co_11_isPlace : Cond.code yX11_isPlace cX11_isPlace 2 (some .boolean) ∈ BIG := big_of (tk2 _ (List.mem_of_getElem? (i := 236) (by decide +kernel))) (by decide +kernel)
theorem wb_11_isPlace : wB yX11_isPlace cX11_isPlace 2 (some .boolean) := ⟨in_11, co_11_isPlace⟩
theorem ds_11_isPlace : dsc yX11_isPlace 1 := ⟨by decide +kernel, by decide +kernel, by decide +kernel⟩
theorem im_11_isPlace : Cond.instanceMethod yX11_isPlace ∈ BIG := big_of (tk2 _ (List.mem_of_getElem? (i := 235) (by decide +kernel))) (by decide +kernel)
theorem se_11_isPlace : Cond.selects (yX11_isPlace).cls yX11_isPlace yX11_isPlace ∈ BIG := big_of (pv1 (yX11_isPlace, 12) (List.mem_of_getElem? (i := 1) (by decide +kernel))) (by decide +kernel)
theorem wi_11_isPlace : wI yX11_isPlace := ⟨im_11_isPlace, se_11_isPlace⟩
theorem ml_11_250 : Cond.methodLink RX11 250 yX11_isPlace ∈ BIG := big_of (tk2 _ (List.mem_of_getElem? (i := 233) (by decide +kernel))) (by decide +kernel)
theorem co_8_has : Cond.code yX8_has cX8_has 2 (some .boolean) ∈ BIG := big_of (tk3 _ (List.mem_of_getElem? (i := 0) (by decide +kernel))) (by decide +kernel)
theorem wb_8_has : wB yX8_has cX8_has 2 (some .boolean) := ⟨in_8, co_8_has⟩
theorem ds_8_has : dsc yX8_has 1 := ⟨by decide +kernel, by decide +kernel, by decide +kernel⟩
theorem im_8_has : Cond.instanceMethod yX8_has ∈ BIG := big_of (tk2 _ (List.mem_of_getElem? (i := 238) (by decide +kernel))) (by decide +kernel)
theorem se_8_has : Cond.selects (yX8_has).cls yX8_has yX8_has ∈ BIG := big_of (tk2 _ (List.mem_of_getElem? (i := 239) (by decide +kernel))) (by decide +kernel)
theorem wi_8_has : wI yX8_has := ⟨im_8_has, se_8_has⟩
theorem ml_11_223 : Cond.methodLink RX11 223 yX8_has ∈ BIG := big_of (tk2 _ (List.mem_of_getElem? (i := 237) (by decide +kernel))) (by decide +kernel)
theorem fl_10_14 : Cond.fieldLink RX10 14 (TX10 0).1 (TX10 0).2.1 (TX10 0).2.2.1 ∈ BIG := big_of (tk1 _ (List.mem_of_getElem? (i := 70) (by decide +kernel))) (by decide +kernel)
theorem ml_10_72 : Cond.methodLink RX10 72 yX8_has ∈ BIG := big_of (tk3 _ (List.mem_of_getElem? (i := 5) (by decide +kernel))) (by decide +kernel)
theorem fl_10_38 : Cond.fieldLink RX10 38 (TX10 7).1 (TX10 7).2.1 (TX10 7).2.2.1 ∈ BIG := big_of (tk1 _ (List.mem_of_getElem? (i := 102) (by decide +kernel))) (by decide +kernel)
theorem co_11_road : Cond.code yX11_road cX11_road 5 (some .int) ∈ BIG := big_of (tk2 _ (List.mem_of_getElem? (i := 228) (by decide +kernel))) (by decide +kernel)
theorem wb_11_road : wB yX11_road cX11_road 5 (some .int) := ⟨in_11, co_11_road⟩
theorem ds_11_road : dsc yX11_road 3 := ⟨by decide +kernel, by decide +kernel, by decide +kernel⟩
theorem im_11_road : Cond.instanceMethod yX11_road ∈ BIG := big_of (tk2 _ (List.mem_of_getElem? (i := 226) (by decide +kernel))) (by decide +kernel)
theorem se_11_road : Cond.selects (yX11_road).cls yX11_road yX11_road ∈ BIG := big_of (tk2 _ (List.mem_of_getElem? (i := 227) (by decide +kernel))) (by decide +kernel)
theorem wi_11_road : wI yX11_road := ⟨im_11_road, se_11_road⟩
theorem fn_11_122 : (RX11, 122, (TX10 8).1, (TX10 8).2.1, (TX10 8).2.2.1, "CourtVans") ∈ NSF := List.mem_of_getElem? (i := 33) (by decide +kernel)
theorem co_11_traffic : Cond.code yX11_traffic cX11_traffic 4 (some .int) ∈ BIG := big_of (tk3 _ (List.mem_of_getElem? (i := 13) (by decide +kernel))) (by decide +kernel)
theorem wb_11_traffic : wB yX11_traffic cX11_traffic 4 (some .int) := ⟨in_11, co_11_traffic⟩
theorem ds_11_traffic : dsc yX11_traffic 2 := ⟨by decide +kernel, by decide +kernel, by decide +kernel⟩
theorem im_11_traffic : Cond.instanceMethod yX11_traffic ∈ BIG := big_of (tk3 _ (List.mem_of_getElem? (i := 11) (by decide +kernel))) (by decide +kernel)
theorem se_11_traffic : Cond.selects (yX11_traffic).cls yX11_traffic yX11_traffic ∈ BIG := big_of (tk3 _ (List.mem_of_getElem? (i := 12) (by decide +kernel))) (by decide +kernel)
theorem wi_11_traffic : wI yX11_traffic := ⟨im_11_traffic, se_11_traffic⟩
theorem co_11_isMinute : Cond.code yX11_isMinute cX11_isMinute 1 (some .boolean) ∈ BIG := big_of (tk3 _ (List.mem_of_getElem? (i := 20) (by decide +kernel))) (by decide +kernel)
theorem wb_11_isMinute : wB yX11_isMinute cX11_isMinute 1 (some .boolean) := ⟨in_11, co_11_isMinute⟩
theorem ds_11_isMinute : dsc yX11_isMinute 1 := ⟨by decide +kernel, by decide +kernel, by decide +kernel⟩
theorem st_11_isMinute : Cond.static yX11_isMinute ∈ BIG := big_of (tk3 _ (List.mem_of_getElem? (i := 19) (by decide +kernel))) (by decide +kernel)
theorem ml_11_126 : Cond.methodLink RX11 126 yX11_isMinute ∈ BIG := big_of (tk3 _ (List.mem_of_getElem? (i := 18) (by decide +kernel))) (by decide +kernel)
theorem co_10_driveMinutes : Cond.code yX10_driveMinutes cX10_driveMinutes 7 (some .int) ∈ BIG := big_of (tk3 _ (List.mem_of_getElem? (i := 24) (by decide +kernel))) (by decide +kernel)
theorem wb_10_driveMinutes : wB yX10_driveMinutes cX10_driveMinutes 7 (some .int) := ⟨in_10, co_10_driveMinutes⟩
theorem ds_10_driveMinutes : dsc yX10_driveMinutes 3 := ⟨by decide +kernel, by decide +kernel, by decide +kernel⟩
theorem im_10_driveMinutes : Cond.instanceMethod yX10_driveMinutes ∈ BIG := big_of (tk3 _ (List.mem_of_getElem? (i := 22) (by decide +kernel))) (by decide +kernel)
theorem se_10_driveMinutes : Cond.selects (yX10_driveMinutes).cls yX10_driveMinutes yX10_driveMinutes ∈ BIG := big_of (tk3 _ (List.mem_of_getElem? (i := 23) (by decide +kernel))) (by decide +kernel)
theorem wi_10_driveMinutes : wI yX10_driveMinutes := ⟨im_10_driveMinutes, se_10_driveMinutes⟩
theorem ml_11_130 : Cond.methodLink RX11 130 yX10_driveMinutes ∈ BIG := big_of (tk3 _ (List.mem_of_getElem? (i := 21) (by decide +kernel))) (by decide +kernel)
theorem fl_10_42 : Cond.fieldLink RX10 42 (TX10 8).1 (TX10 8).2.1 (TX10 8).2.2.1 ∈ BIG := big_of (tk1 _ (List.mem_of_getElem? (i := 103) (by decide +kernel))) (by decide +kernel)
theorem co_11_drive : Cond.code yX11_drive cX11_drive 4 (some .int) ∈ BIG := big_of (tk3 _ (List.mem_of_getElem? (i := 17) (by decide +kernel))) (by decide +kernel)
theorem wb_11_drive : wB yX11_drive cX11_drive 4 (some .int) := ⟨in_11, co_11_drive⟩
theorem ds_11_drive : dsc yX11_drive 3 := ⟨by decide +kernel, by decide +kernel, by decide +kernel⟩
theorem im_11_drive : Cond.instanceMethod yX11_drive ∈ BIG := big_of (tk3 _ (List.mem_of_getElem? (i := 15) (by decide +kernel))) (by decide +kernel)
theorem se_11_drive : Cond.selects (yX11_drive).cls yX11_drive yX11_drive ∈ BIG := big_of (tk3 _ (List.mem_of_getElem? (i := 16) (by decide +kernel))) (by decide +kernel)
theorem wi_11_drive : wI yX11_drive := ⟨im_11_drive, se_11_drive⟩
theorem co_11_isHome : Cond.code yX11_isHome cX11_isHome 2 (some .boolean) ∈ BIG := big_of (tk3 _ (List.mem_of_getElem? (i := 32) (by decide +kernel))) (by decide +kernel)
theorem wb_11_isHome : wB yX11_isHome cX11_isHome 2 (some .boolean) := ⟨in_11, co_11_isHome⟩
theorem ds_11_isHome : dsc yX11_isHome 1 := ⟨by decide +kernel, by decide +kernel, by decide +kernel⟩
theorem im_11_isHome : Cond.instanceMethod yX11_isHome ∈ BIG := big_of (tk3 _ (List.mem_of_getElem? (i := 31) (by decide +kernel))) (by decide +kernel)
theorem se_11_isHome : Cond.selects (yX11_isHome).cls yX11_isHome yX11_isHome ∈ BIG := big_of (pv1 (yX11_isHome, 12) (List.mem_of_getElem? (i := 2) (by decide +kernel))) (by decide +kernel)
theorem wi_11_isHome : wI yX11_isHome := ⟨im_11_isHome, se_11_isHome⟩
theorem ml_11_134 : Cond.methodLink RX11 134 yX11_isHome ∈ BIG := big_of (tk3 _ (List.mem_of_getElem? (i := 29) (by decide +kernel))) (by decide +kernel)
theorem co_11_isCourt : Cond.code yX11_isCourt cX11_isCourt 2 (some .boolean) ∈ BIG := big_of (tk3 _ (List.mem_of_getElem? (i := 40) (by decide +kernel))) (by decide +kernel)
theorem wb_11_isCourt : wB yX11_isCourt cX11_isCourt 2 (some .boolean) := ⟨in_11, co_11_isCourt⟩
theorem ds_11_isCourt : dsc yX11_isCourt 1 := ⟨by decide +kernel, by decide +kernel, by decide +kernel⟩
theorem im_11_isCourt : Cond.instanceMethod yX11_isCourt ∈ BIG := big_of (tk3 _ (List.mem_of_getElem? (i := 39) (by decide +kernel))) (by decide +kernel)
theorem se_11_isCourt : Cond.selects (yX11_isCourt).cls yX11_isCourt yX11_isCourt ∈ BIG := big_of (pv1 (yX11_isCourt, 12) (List.mem_of_getElem? (i := 3) (by decide +kernel))) (by decide +kernel)
theorem wi_11_isCourt : wI yX11_isCourt := ⟨im_11_isCourt, se_11_isCourt⟩
theorem ml_11_137 : Cond.methodLink RX11 137 yX11_isCourt ∈ BIG := big_of (tk3 _ (List.mem_of_getElem? (i := 37) (by decide +kernel))) (by decide +kernel)
theorem fn_11_140 : (RX11, 140, (TX10 1).1, (TX10 1).2.1, (TX10 1).2.2.1, "CourtVans") ∈ NSF := List.mem_of_getElem? (i := 17) (by decide +kernel)
theorem co_8_cell : Cond.code yX8_cell cX8_cell 4 (some .int) ∈ BIG := big_of (tk3 _ (List.mem_of_getElem? (i := 36) (by decide +kernel))) (by decide +kernel)
theorem wb_8_cell : wB yX8_cell cX8_cell 4 (some .int) := ⟨in_8, co_8_cell⟩
theorem ds_8_cell : dsc yX8_cell 2 := ⟨by decide +kernel, by decide +kernel, by decide +kernel⟩
theorem im_8_cell : Cond.instanceMethod yX8_cell ∈ BIG := big_of (tk3 _ (List.mem_of_getElem? (i := 34) (by decide +kernel))) (by decide +kernel)
theorem se_8_cell : Cond.selects (yX8_cell).cls yX8_cell yX8_cell ∈ BIG := big_of (tk3 _ (List.mem_of_getElem? (i := 35) (by decide +kernel))) (by decide +kernel)
theorem wi_8_cell : wI yX8_cell := ⟨im_8_cell, se_8_cell⟩
theorem ml_11_169 : Cond.methodLink RX11 169 yX8_cell ∈ BIG := big_of (tk3 _ (List.mem_of_getElem? (i := 33) (by decide +kernel))) (by decide +kernel)
theorem co_11_person : Cond.code yX11_person cX11_person 5 (some .int) ∈ BIG := big_of (tk3 _ (List.mem_of_getElem? (i := 28) (by decide +kernel))) (by decide +kernel)
theorem wb_11_person : wB yX11_person cX11_person 5 (some .int) := ⟨in_11, co_11_person⟩
theorem ds_11_person : dsc yX11_person 4 := ⟨by decide +kernel, by decide +kernel, by decide +kernel⟩
theorem im_11_person : Cond.instanceMethod yX11_person ∈ BIG := big_of (tk3 _ (List.mem_of_getElem? (i := 26) (by decide +kernel))) (by decide +kernel)
theorem se_11_person : Cond.selects (yX11_person).cls yX11_person yX11_person ∈ BIG := big_of (tk3 _ (List.mem_of_getElem? (i := 27) (by decide +kernel))) (by decide +kernel)
theorem wi_11_person : wI yX11_person := ⟨im_11_person, se_11_person⟩
theorem fn_11_143 : (RX11, 143, (TX10 9).1, (TX10 9).2.1, (TX10 9).2.2.1, "CourtVans") ∈ NSF := List.mem_of_getElem? (i := 34) (by decide +kernel)
theorem co_10_tie : Cond.code yX10_tie cX10_tie 6 (some .int) ∈ BIG := big_of (tk3 _ (List.mem_of_getElem? (i := 48) (by decide +kernel))) (by decide +kernel)
theorem wb_10_tie : wB yX10_tie cX10_tie 6 (some .int) := ⟨in_10, co_10_tie⟩
theorem ds_10_tie : dsc yX10_tie 4 := ⟨by decide +kernel, by decide +kernel, by decide +kernel⟩
theorem im_10_tie : Cond.instanceMethod yX10_tie ∈ BIG := big_of (tk3 _ (List.mem_of_getElem? (i := 46) (by decide +kernel))) (by decide +kernel)
theorem se_10_tie : Cond.selects (yX10_tie).cls yX10_tie yX10_tie ∈ BIG := big_of (tk3 _ (List.mem_of_getElem? (i := 47) (by decide +kernel))) (by decide +kernel)
theorem wi_10_tie : wI yX10_tie := ⟨im_10_tie, se_10_tie⟩
theorem ml_11_146 : Cond.methodLink RX11 146 yX10_tie ∈ BIG := big_of (tk3 _ (List.mem_of_getElem? (i := 45) (by decide +kernel))) (by decide +kernel)
theorem co_11_bit : Cond.code yX11_bit cX11_bit 2 (some .int) ∈ BIG := big_of (tk3 _ (List.mem_of_getElem? (i := 51) (by decide +kernel))) (by decide +kernel)
theorem wb_11_bit : wB yX11_bit cX11_bit 2 (some .int) := ⟨in_11, co_11_bit⟩
theorem ds_11_bit : dsc yX11_bit 2 := ⟨by decide +kernel, by decide +kernel, by decide +kernel⟩
theorem st_11_bit : Cond.static yX11_bit ∈ BIG := big_of (tk3 _ (List.mem_of_getElem? (i := 50) (by decide +kernel))) (by decide +kernel)
theorem mn_10_76 : (RX10, 76, yX11_bit, "CourtVans") ∈ NSM := List.mem_of_getElem? (i := 0) (by decide +kernel)
theorem co_11_withBit : Cond.code yX11_withBit cX11_withBit 3 (some .int) ∈ BIG := big_of (tk3 _ (List.mem_of_getElem? (i := 54) (by decide +kernel))) (by decide +kernel)
theorem wb_11_withBit : wB yX11_withBit cX11_withBit 3 (some .int) := ⟨in_11, co_11_withBit⟩
theorem ds_11_withBit : dsc yX11_withBit 3 := ⟨by decide +kernel, by decide +kernel, by decide +kernel⟩
theorem st_11_withBit : Cond.static yX11_withBit ∈ BIG := big_of (tk3 _ (List.mem_of_getElem? (i := 53) (by decide +kernel))) (by decide +kernel)
theorem mn_10_80 : (RX10, 80, yX11_withBit, "CourtVans") ∈ NSM := List.mem_of_getElem? (i := 1) (by decide +kernel)
theorem co_11_apart : Cond.code yX11_apart cX11_apart 4 (some .int) ∈ BIG := big_of (tk3 _ (List.mem_of_getElem? (i := 44) (by decide +kernel))) (by decide +kernel)
theorem wb_11_apart : wB yX11_apart cX11_apart 4 (some .int) := ⟨in_11, co_11_apart⟩
theorem ds_11_apart : dsc yX11_apart 3 := ⟨by decide +kernel, by decide +kernel, by decide +kernel⟩
theorem im_11_apart : Cond.instanceMethod yX11_apart ∈ BIG := big_of (tk3 _ (List.mem_of_getElem? (i := 42) (by decide +kernel))) (by decide +kernel)
theorem se_11_apart : Cond.selects (yX11_apart).cls yX11_apart yX11_apart ∈ BIG := big_of (tk3 _ (List.mem_of_getElem? (i := 43) (by decide +kernel))) (by decide +kernel)
theorem wi_11_apart : wI yX11_apart := ⟨im_11_apart, se_11_apart⟩
theorem co_11_isPerson : Cond.code yX11_isPerson cX11_isPerson 2 (some .boolean) ∈ BIG := big_of (tk3 _ (List.mem_of_getElem? (i := 62) (by decide +kernel))) (by decide +kernel)
theorem wb_11_isPerson : wB yX11_isPerson cX11_isPerson 2 (some .boolean) := ⟨in_11, co_11_isPerson⟩
theorem ds_11_isPerson : dsc yX11_isPerson 1 := ⟨by decide +kernel, by decide +kernel, by decide +kernel⟩
theorem im_11_isPerson : Cond.instanceMethod yX11_isPerson ∈ BIG := big_of (tk3 _ (List.mem_of_getElem? (i := 61) (by decide +kernel))) (by decide +kernel)
theorem se_11_isPerson : Cond.selects (yX11_isPerson).cls yX11_isPerson yX11_isPerson ∈ BIG := big_of (pv1 (yX11_isPerson, 12) (List.mem_of_getElem? (i := 4) (by decide +kernel))) (by decide +kernel)
theorem wi_11_isPerson : wI yX11_isPerson := ⟨im_11_isPerson, se_11_isPerson⟩
theorem ml_11_150 : Cond.methodLink RX11 150 yX11_isPerson ∈ BIG := big_of (tk3 _ (List.mem_of_getElem? (i := 59) (by decide +kernel))) (by decide +kernel)
theorem fn_11_153 : (RX11, 153, (TX10 10).1, (TX10 10).2.1, (TX10 10).2.2.1, "CourtVans") ∈ NSF := List.mem_of_getElem? (i := 35) (by decide +kernel)
theorem co_11_bar : Cond.code yX11_bar cX11_bar 4 (some .int) ∈ BIG := big_of (tk3 _ (List.mem_of_getElem? (i := 58) (by decide +kernel))) (by decide +kernel)
theorem wb_11_bar : wB yX11_bar cX11_bar 4 (some .int) := ⟨in_11, co_11_bar⟩
theorem ds_11_bar : dsc yX11_bar 3 := ⟨by decide +kernel, by decide +kernel, by decide +kernel⟩
theorem im_11_bar : Cond.instanceMethod yX11_bar ∈ BIG := big_of (tk3 _ (List.mem_of_getElem? (i := 56) (by decide +kernel))) (by decide +kernel)
theorem se_11_bar : Cond.selects (yX11_bar).cls yX11_bar yX11_bar ∈ BIG := big_of (tk3 _ (List.mem_of_getElem? (i := 57) (by decide +kernel))) (by decide +kernel)
theorem wi_11_bar : wI yX11_bar := ⟨im_11_bar, se_11_bar⟩
theorem co_10_areFoes : Cond.code yX10_areFoes cX10_areFoes 5 (some .boolean) ∈ BIG := big_of (tk3 _ (List.mem_of_getElem? (i := 70) (by decide +kernel))) (by decide +kernel)
theorem wb_10_areFoes : wB yX10_areFoes cX10_areFoes 5 (some .boolean) := ⟨in_10, co_10_areFoes⟩
theorem ds_10_areFoes : dsc yX10_areFoes 2 := ⟨by decide +kernel, by decide +kernel, by decide +kernel⟩
theorem im_10_areFoes : Cond.instanceMethod yX10_areFoes ∈ BIG := big_of (tk3 _ (List.mem_of_getElem? (i := 68) (by decide +kernel))) (by decide +kernel)
theorem se_10_areFoes : Cond.selects (yX10_areFoes).cls yX10_areFoes yX10_areFoes ∈ BIG := big_of (tk3 _ (List.mem_of_getElem? (i := 69) (by decide +kernel))) (by decide +kernel)
theorem wi_10_areFoes : wI yX10_areFoes := ⟨im_10_areFoes, se_10_areFoes⟩
theorem ml_11_156 : Cond.methodLink RX11 156 yX10_areFoes ∈ BIG := big_of (tk3 _ (List.mem_of_getElem? (i := 67) (by decide +kernel))) (by decide +kernel)
theorem fl_10_20 : Cond.fieldLink RX10 20 (TX10 1).1 (TX10 1).2.1 (TX10 1).2.2.1 ∈ BIG := big_of (tk1 _ (List.mem_of_getElem? (i := 76) (by decide +kernel))) (by decide +kernel)
theorem ml_10_84 : Cond.methodLink RX10 84 yX8_cell ∈ BIG := big_of (tk3 _ (List.mem_of_getElem? (i := 71) (by decide +kernel))) (by decide +kernel)
theorem mn_10_87 : (RX10, 87, yX11_isWithin, "CourtVans") ∈ NSM := List.mem_of_getElem? (i := 2) (by decide +kernel)
theorem fl_10_45 : Cond.fieldLink RX10 45 (TX10 9).1 (TX10 9).2.1 (TX10 9).2.2.1 ∈ BIG := big_of (tk1 _ (List.mem_of_getElem? (i := 105) (by decide +kernel))) (by decide +kernel)
theorem fl_10_48 : Cond.fieldLink RX10 48 (TX10 10).1 (TX10 10).2.1 (TX10 10).2.2.1 ∈ BIG := big_of (tk1 _ (List.mem_of_getElem? (i := 107) (by decide +kernel))) (by decide +kernel)
theorem co_11_foes : Cond.code yX11_foes cX11_foes 3 (some .int) ∈ BIG := big_of (tk3 _ (List.mem_of_getElem? (i := 66) (by decide +kernel))) (by decide +kernel)
theorem wb_11_foes : wB yX11_foes cX11_foes 3 (some .int) := ⟨in_11, co_11_foes⟩
theorem ds_11_foes : dsc yX11_foes 2 := ⟨by decide +kernel, by decide +kernel, by decide +kernel⟩
theorem im_11_foes : Cond.instanceMethod yX11_foes ∈ BIG := big_of (tk3 _ (List.mem_of_getElem? (i := 64) (by decide +kernel))) (by decide +kernel)
theorem se_11_foes : Cond.selects (yX11_foes).cls yX11_foes yX11_foes ∈ BIG := big_of (tk3 _ (List.mem_of_getElem? (i := 65) (by decide +kernel))) (by decide +kernel)
theorem wi_11_foes : wI yX11_foes := ⟨im_11_foes, se_11_foes⟩
theorem fn_11_159 : (RX11, 159, (TX10 11).1, (TX10 11).2.1, (TX10 11).2.2.1, "CourtVans") ∈ NSF := List.mem_of_getElem? (i := 36) (by decide +kernel)
theorem ml_11_162 : Cond.methodLink RX11 162 yX11_bit ∈ BIG := big_of (tk3 _ (List.mem_of_getElem? (i := 77) (by decide +kernel))) (by decide +kernel)
theorem ml_11_165 : Cond.methodLink RX11 165 yX11_withBit ∈ BIG := big_of (tk3 _ (List.mem_of_getElem? (i := 78) (by decide +kernel))) (by decide +kernel)
theorem co_11_wire : Cond.code yX11_wire cX11_wire 4 (some .int) ∈ BIG := big_of (tk3 _ (List.mem_of_getElem? (i := 76) (by decide +kernel))) (by decide +kernel)
theorem wb_11_wire : wB yX11_wire cX11_wire 4 (some .int) := ⟨in_11, co_11_wire⟩
theorem ds_11_wire : dsc yX11_wire 2 := ⟨by decide +kernel, by decide +kernel, by decide +kernel⟩
theorem im_11_wire : Cond.instanceMethod yX11_wire ∈ BIG := big_of (tk3 _ (List.mem_of_getElem? (i := 74) (by decide +kernel))) (by decide +kernel)
theorem se_11_wire : Cond.selects (yX11_wire).cls yX11_wire yX11_wire ∈ BIG := big_of (tk3 _ (List.mem_of_getElem? (i := 75) (by decide +kernel))) (by decide +kernel)
theorem wi_11_wire : wI yX11_wire := ⟨im_11_wire, se_11_wire⟩
theorem co_11_of : Cond.code yX11_of cX11_of 3 (some .int) ∈ BIG := big_of (tk3 _ (List.mem_of_getElem? (i := 82) (by decide +kernel))) (by decide +kernel)
theorem wb_11_of : wB yX11_of cX11_of 3 (some .int) := ⟨in_11, co_11_of⟩
theorem ds_11_of : dsc yX11_of 2 := ⟨by decide +kernel, by decide +kernel, by decide +kernel⟩
theorem im_11_of : Cond.instanceMethod yX11_of ∈ BIG := big_of (tk3 _ (List.mem_of_getElem? (i := 80) (by decide +kernel))) (by decide +kernel)
theorem se_11_of : Cond.selects (yX11_of).cls yX11_of yX11_of ∈ BIG := big_of (tk3 _ (List.mem_of_getElem? (i := 81) (by decide +kernel))) (by decide +kernel)
theorem wi_11_of : wI yX11_of := ⟨im_11_of, se_11_of⟩
theorem fn_11_172 : (RX11, 172, (TX10 2).1, (TX10 2).2.1, (TX10 2).2.2.1, "CourtVans") ∈ NSF := List.mem_of_getElem? (i := 23) (by decide +kernel)
theorem co_11_van : Cond.code yX11_van cX11_van 4 (some .int) ∈ BIG := big_of (tk3 _ (List.mem_of_getElem? (i := 86) (by decide +kernel))) (by decide +kernel)
theorem wb_11_van : wB yX11_van cX11_van 4 (some .int) := ⟨in_11, co_11_van⟩
theorem ds_11_van : dsc yX11_van 3 := ⟨by decide +kernel, by decide +kernel, by decide +kernel⟩
theorem im_11_van : Cond.instanceMethod yX11_van ∈ BIG := big_of (tk3 _ (List.mem_of_getElem? (i := 84) (by decide +kernel))) (by decide +kernel)
theorem se_11_van : Cond.selects (yX11_van).cls yX11_van yX11_van ∈ BIG := big_of (tk3 _ (List.mem_of_getElem? (i := 85) (by decide +kernel))) (by decide +kernel)
theorem wi_11_van : wI yX11_van := ⟨im_11_van, se_11_van⟩
theorem co_11_isVan : Cond.code yX11_isVan cX11_isVan 2 (some .boolean) ∈ BIG := big_of (tk3 _ (List.mem_of_getElem? (i := 94) (by decide +kernel))) (by decide +kernel)
theorem wb_11_isVan : wB yX11_isVan cX11_isVan 2 (some .boolean) := ⟨in_11, co_11_isVan⟩
theorem ds_11_isVan : dsc yX11_isVan 1 := ⟨by decide +kernel, by decide +kernel, by decide +kernel⟩
theorem im_11_isVan : Cond.instanceMethod yX11_isVan ∈ BIG := big_of (tk3 _ (List.mem_of_getElem? (i := 93) (by decide +kernel))) (by decide +kernel)
theorem se_11_isVan : Cond.selects (yX11_isVan).cls yX11_isVan yX11_isVan ∈ BIG := big_of (pv1 (yX11_isVan, 12) (List.mem_of_getElem? (i := 5) (by decide +kernel))) (by decide +kernel)
theorem wi_11_isVan : wI yX11_isVan := ⟨im_11_isVan, se_11_isVan⟩
theorem ml_11_175 : Cond.methodLink RX11 175 yX11_isVan ∈ BIG := big_of (tk3 _ (List.mem_of_getElem? (i := 91) (by decide +kernel))) (by decide +kernel)
theorem fn_11_178 : (RX11, 178, (TX10 3).1, (TX10 3).2.1, (TX10 3).2.2.1, "CourtVans") ∈ NSF := List.mem_of_getElem? (i := 26) (by decide +kernel)
theorem co_11_delay : Cond.code yX11_delay cX11_delay 5 (some .int) ∈ BIG := big_of (tk3 _ (List.mem_of_getElem? (i := 90) (by decide +kernel))) (by decide +kernel)
theorem wb_11_delay : wB yX11_delay cX11_delay 5 (some .int) := ⟨in_11, co_11_delay⟩
theorem ds_11_delay : dsc yX11_delay 4 := ⟨by decide +kernel, by decide +kernel, by decide +kernel⟩
theorem im_11_delay : Cond.instanceMethod yX11_delay ∈ BIG := big_of (tk3 _ (List.mem_of_getElem? (i := 88) (by decide +kernel))) (by decide +kernel)
theorem se_11_delay : Cond.selects (yX11_delay).cls yX11_delay yX11_delay ∈ BIG := big_of (tk3 _ (List.mem_of_getElem? (i := 89) (by decide +kernel))) (by decide +kernel)
theorem wi_11_delay : wI yX11_delay := ⟨im_11_delay, se_11_delay⟩
theorem co_11_mayRide : Cond.code yX11_mayRide cX11_mayRide 4 (some .boolean) ∈ BIG := big_of (tk3 _ (List.mem_of_getElem? (i := 102) (by decide +kernel))) (by decide +kernel)
theorem wb_11_mayRide : wB yX11_mayRide cX11_mayRide 4 (some .boolean) := ⟨in_11, co_11_mayRide⟩
theorem ds_11_mayRide : dsc yX11_mayRide 2 := ⟨by decide +kernel, by decide +kernel, by decide +kernel⟩
theorem im_11_mayRide : Cond.instanceMethod yX11_mayRide ∈ BIG := big_of (tk3 _ (List.mem_of_getElem? (i := 101) (by decide +kernel))) (by decide +kernel)
theorem se_11_mayRide : Cond.selects (yX11_mayRide).cls yX11_mayRide yX11_mayRide ∈ BIG := big_of (pv1 (yX11_mayRide, 12) (List.mem_of_getElem? (i := 6) (by decide +kernel))) (by decide +kernel)
theorem wi_11_mayRide : wI yX11_mayRide := ⟨im_11_mayRide, se_11_mayRide⟩
theorem ml_11_181 : Cond.methodLink RX11 181 yX11_mayRide ∈ BIG := big_of (tk3 _ (List.mem_of_getElem? (i := 99) (by decide +kernel))) (by decide +kernel)
theorem fl_11_24 : Cond.fieldLink RX11 24 (TX11 3).1 (TX11 3).2.1 (TX11 3).2.2.1 ∈ BIG := big_of (tk2 _ (List.mem_of_getElem? (i := 171) (by decide +kernel))) (by decide +kernel)
theorem in_9 : Cond.initialized RX9 ∈ BIG := big_of (tk1 _ (List.mem_of_getElem? (i := 6) (by decide +kernel))) (by decide +kernel)
theorem co_9_find : Cond.code yX9_find cX9_find 7 (some .boolean) ∈ BIG := big_of (tk3 _ (List.mem_of_getElem? (i := 114) (by decide +kernel))) (by decide +kernel)
theorem wb_9_find : wB yX9_find cX9_find 7 (some .boolean) := ⟨in_9, co_9_find⟩
theorem ds_9_find : dsc yX9_find 2 := ⟨by decide +kernel, by decide +kernel, by decide +kernel⟩
theorem im_9_find : Cond.instanceMethod yX9_find ∈ BIG := big_of (tk3 _ (List.mem_of_getElem? (i := 112) (by decide +kernel))) (by decide +kernel)
theorem se_9_find : Cond.selects (yX9_find).cls yX9_find yX9_find ∈ BIG := big_of (tk3 _ (List.mem_of_getElem? (i := 113) (by decide +kernel))) (by decide +kernel)
theorem wi_9_find : wI yX9_find := ⟨im_9_find, se_9_find⟩
theorem ml_11_184 : Cond.methodLink RX11 184 yX9_find ∈ BIG := big_of (tk3 _ (List.mem_of_getElem? (i := 111) (by decide +kernel))) (by decide +kernel)
theorem fn_11_187 : (RX11, 187, (TX9 11).1, (TX9 11).2.1, (TX9 11).2.2.1, "CourtVans") ∈ NSF := List.mem_of_getElem? (i := 42) (by decide +kernel)
theorem co_9_lastArrival : Cond.code yX9_lastArrival cX9_lastArrival 1 (some .int) ∈ BIG := big_of (tk3 _ (List.mem_of_getElem? (i := 156) (by decide +kernel))) (by decide +kernel)
theorem wb_9_lastArrival : wB yX9_lastArrival cX9_lastArrival 1 (some .int) := ⟨in_9, co_9_lastArrival⟩
theorem ds_9_lastArrival : dsc yX9_lastArrival 0 := ⟨by decide +kernel, by decide +kernel, by decide +kernel⟩
theorem im_9_lastArrival : Cond.instanceMethod yX9_lastArrival ∈ BIG := big_of (tk3 _ (List.mem_of_getElem? (i := 154) (by decide +kernel))) (by decide +kernel)
theorem se_9_lastArrival : Cond.selects (yX9_lastArrival).cls yX9_lastArrival yX9_lastArrival ∈ BIG := big_of (tk3 _ (List.mem_of_getElem? (i := 155) (by decide +kernel))) (by decide +kernel)
theorem wi_9_lastArrival : wI yX9_lastArrival := ⟨im_9_lastArrival, se_9_lastArrival⟩
theorem ml_11_190 : Cond.methodLink RX11 190 yX9_lastArrival ∈ BIG := big_of (tk3 _ (List.mem_of_getElem? (i := 153) (by decide +kernel))) (by decide +kernel)
theorem fn_11_194 : (RX11, 194, (TX9 10).1, (TX9 10).2.1, (TX9 10).2.2.1, "CourtVans") ∈ NSF := List.mem_of_getElem? (i := 40) (by decide +kernel)
theorem fn_11_197 : (RX11, 197, (TX9 8).1, (TX9 8).2.1, (TX9 8).2.2.1, "CourtVans") ∈ NSF := List.mem_of_getElem? (i := 39) (by decide +kernel)
theorem co_11_arePersons : Cond.code yX11_arePersons cX11_arePersons 2 (some .boolean) ∈ BIG := big_of (tk3 _ (List.mem_of_getElem? (i := 106) (by decide +kernel))) (by decide +kernel)
theorem wb_11_arePersons : wB yX11_arePersons cX11_arePersons 2 (some .boolean) := ⟨in_11, co_11_arePersons⟩
theorem ds_11_arePersons : dsc yX11_arePersons 1 := ⟨by decide +kernel, by decide +kernel, by decide +kernel⟩
theorem im_11_arePersons : Cond.instanceMethod yX11_arePersons ∈ BIG := big_of (tk3 _ (List.mem_of_getElem? (i := 105) (by decide +kernel))) (by decide +kernel)
theorem se_11_arePersons : Cond.selects (yX11_arePersons).cls yX11_arePersons yX11_arePersons ∈ BIG := big_of (pv1 (yX11_arePersons, 12) (List.mem_of_getElem? (i := 7) (by decide +kernel))) (by decide +kernel)
theorem wi_11_arePersons : wI yX11_arePersons := ⟨im_11_arePersons, se_11_arePersons⟩
theorem ml_11_236 : Cond.methodLink RX11 236 yX11_arePersons ∈ BIG := big_of (tk3 _ (List.mem_of_getElem? (i := 103) (by decide +kernel))) (by decide +kernel)
theorem co_10_personsOf : Cond.code yX10_personsOf cX10_personsOf 4 (some .int) ∈ BIG := big_of (tk3 _ (List.mem_of_getElem? (i := 110) (by decide +kernel))) (by decide +kernel)
theorem wb_10_personsOf : wB yX10_personsOf cX10_personsOf 4 (some .int) := ⟨in_10, co_10_personsOf⟩
theorem ds_10_personsOf : dsc yX10_personsOf 1 := ⟨by decide +kernel, by decide +kernel, by decide +kernel⟩
theorem im_10_personsOf : Cond.instanceMethod yX10_personsOf ∈ BIG := big_of (tk3 _ (List.mem_of_getElem? (i := 108) (by decide +kernel))) (by decide +kernel)
theorem se_10_personsOf : Cond.selects (yX10_personsOf).cls yX10_personsOf yX10_personsOf ∈ BIG := big_of (tk3 _ (List.mem_of_getElem? (i := 109) (by decide +kernel))) (by decide +kernel)
theorem wi_10_personsOf : wI yX10_personsOf := ⟨im_10_personsOf, se_10_personsOf⟩
theorem ml_11_369 : Cond.methodLink RX11 369 yX10_personsOf ∈ BIG := big_of (tk3 _ (List.mem_of_getElem? (i := 107) (by decide +kernel))) (by decide +kernel)
theorem fn_11_229 : (RX11, 229, (TX8 3).1, (TX8 3).2.1, (TX8 3).2.2.1, "CourtVans") ∈ NSF := List.mem_of_getElem? (i := 7) (by decide +kernel)
theorem fn_10_91 : (RX10, 91, (TX8 3).1, (TX8 3).2.1, (TX8 3).2.2.1, "CourtVans") ∈ NSF := List.mem_of_getElem? (i := 6) (by decide +kernel)
theorem fl_9_38 : Cond.fieldLink RX9 38 (TX9 4).1 (TX9 4).2.1 (TX9 4).2.2.1 ∈ BIG := big_of (tk1 _ (List.mem_of_getElem? (i := 151) (by decide +kernel))) (by decide +kernel)
theorem fl_9_47 : Cond.fieldLink RX9 47 (TX9 11).1 (TX9 11).2.1 (TX9 11).2.2.1 ∈ BIG := big_of (tk1 _ (List.mem_of_getElem? (i := 160) (by decide +kernel))) (by decide +kernel)
theorem co_9_gather : Cond.code yX9_gather cX9_gather 4 (some .int) ∈ BIG := big_of (tk3 _ (List.mem_of_getElem? (i := 118) (by decide +kernel))) (by decide +kernel)
theorem wb_9_gather : wB yX9_gather cX9_gather 4 (some .int) := ⟨in_9, co_9_gather⟩
theorem ds_9_gather : dsc yX9_gather 1 := ⟨by decide +kernel, by decide +kernel, by decide +kernel⟩
theorem im_9_gather : Cond.instanceMethod yX9_gather ∈ BIG := big_of (tk3 _ (List.mem_of_getElem? (i := 117) (by decide +kernel))) (by decide +kernel)
theorem se_9_gather : Cond.selects (yX9_gather).cls yX9_gather yX9_gather ∈ BIG := big_of (pv1 (yX9_gather, 12) (List.mem_of_getElem? (i := 8) (by decide +kernel))) (by decide +kernel)
theorem wi_9_gather : wI yX9_gather := ⟨im_9_gather, se_9_gather⟩
theorem ml_9_50 : Cond.methodLink RX9 50 yX9_gather ∈ BIG := big_of (tk3 _ (List.mem_of_getElem? (i := 115) (by decide +kernel))) (by decide +kernel)
def yJ_bitCount : MethodName := ⟨"java/lang/Integer", "bitCount", "(I)I"⟩
abbrev cJ_bitCount : ByteArray := prog_15_method_49_code
theorem in_JI : Cond.initialized "java/lang/Integer" ∈ BIG := big_of (tk1 _ (List.mem_of_getElem? (i := 16) (by decide +kernel))) (by decide +kernel)
theorem co_J_bitCount : Cond.code yJ_bitCount cJ_bitCount 1 (some .int) ∈ BIG := big_of (tk3 _ (List.mem_of_getElem? (i := 123) (by decide +kernel))) (by decide +kernel)
theorem wb_J_bitCount : wB yJ_bitCount cJ_bitCount 1 (some .int) := ⟨in_JI, co_J_bitCount⟩
theorem ds_J_bitCount : dsc yJ_bitCount 1 := ⟨by decide +kernel, by decide +kernel, by decide +kernel⟩
theorem st_J_bitCount : Cond.static yJ_bitCount ∈ BIG := big_of (tk3 _ (List.mem_of_getElem? (i := 122) (by decide +kernel))) (by decide +kernel)
theorem ml_9_54 : Cond.methodLink RX9 54 yJ_bitCount ∈ BIG := big_of (tk3 _ (List.mem_of_getElem? (i := 121) (by decide +kernel))) (by decide +kernel)
theorem fl_9_44 : Cond.fieldLink RX9 44 (TX9 10).1 (TX9 10).2.1 (TX9 10).2.2.1 ∈ BIG := big_of (tk1 _ (List.mem_of_getElem? (i := 158) (by decide +kernel))) (by decide +kernel)
theorem fl_9_30 : Cond.fieldLink RX9 30 (TX9 0).1 (TX9 0).2.1 (TX9 0).2.2.1 ∈ BIG := big_of (tk1 _ (List.mem_of_getElem? (i := 147) (by decide +kernel))) (by decide +kernel)
theorem fn_9_59 : (RX9, 59, (TX10 2).1, (TX10 2).2.1, (TX10 2).2.2.1, "CourtVans") ∈ NSF := List.mem_of_getElem? (i := 21) (by decide +kernel)
theorem ml_9_65 : Cond.methodLink RX9 65 yX8_cell ∈ BIG := big_of (tk3 _ (List.mem_of_getElem? (i := 120) (by decide +kernel))) (by decide +kernel)
theorem fl_9_41 : Cond.fieldLink RX9 41 (TX9 5).1 (TX9 5).2.1 (TX9 5).2.2.1 ∈ BIG := big_of (tk1 _ (List.mem_of_getElem? (i := 152) (by decide +kernel))) (by decide +kernel)
theorem fn_9_71 : (RX9, 71, (TX10 0).1, (TX10 0).2.1, (TX10 0).2.2.1, "CourtVans") ∈ NSF := List.mem_of_getElem? (i := 9) (by decide +kernel)
def yJ_max : MethodName := ⟨"java/lang/Math", "max", "(II)I"⟩
abbrev cJ_max : ByteArray := prog_16_method_65_code
theorem in_JM : Cond.initialized "java/lang/Math" ∈ BIG := big_of (tk1 _ (List.mem_of_getElem? (i := 4) (by decide +kernel))) (by decide +kernel)
theorem co_J_max : Cond.code yJ_max cJ_max 2 (some .int) ∈ BIG := big_of (tk1 _ (List.mem_of_getElem? (i := 44) (by decide +kernel))) (by decide +kernel)
theorem wb_J_max : wB yJ_max cJ_max 2 (some .int) := ⟨in_JM, co_J_max⟩
theorem ds_J_max : dsc yJ_max 2 := ⟨by decide +kernel, by decide +kernel, by decide +kernel⟩
theorem st_J_max : Cond.static yJ_max ∈ BIG := big_of (tk1 _ (List.mem_of_getElem? (i := 43) (by decide +kernel))) (by decide +kernel)
theorem ml_9_74 : Cond.methodLink RX9 74 yJ_max ∈ BIG := big_of (tk3 _ (List.mem_of_getElem? (i := 127) (by decide +kernel))) (by decide +kernel)
theorem co_9_goOn : Cond.code yX9_goOn cX9_goOn 12 none ∈ BIG := big_of (tk3 _ (List.mem_of_getElem? (i := 130) (by decide +kernel))) (by decide +kernel)
theorem wb_9_goOn : wB yX9_goOn cX9_goOn 12 none := ⟨in_9, co_9_goOn⟩
theorem ds_9_goOn : dsc yX9_goOn 6 := ⟨by decide +kernel, by decide +kernel, by decide +kernel⟩
theorem st_9_goOn : Cond.static yX9_goOn ∈ BIG := big_of (tk3 _ (List.mem_of_getElem? (i := 129) (by decide +kernel))) (by decide +kernel)
theorem ml_9_79 : Cond.methodLink RX9 79 yX9_goOn ∈ BIG := big_of (tk3 _ (List.mem_of_getElem? (i := 128) (by decide +kernel))) (by decide +kernel)
theorem fl_9_34 : Cond.fieldLink RX9 34 (TX9 3).1 (TX9 3).2.1 (TX9 3).2.2.1 ∈ BIG := big_of (tk1 _ (List.mem_of_getElem? (i := 150) (by decide +kernel))) (by decide +kernel)
theorem fn_9_83 : (RX9, 83, (TX10 1).1, (TX10 1).2.1, (TX10 1).2.2.1, "CourtVans") ∈ NSF := List.mem_of_getElem? (i := 14) (by decide +kernel)
theorem fn_9_86 : (RX9, 86, (TX8 3).1, (TX8 3).2.1, (TX8 3).2.2.1, "CourtVans") ∈ NSF := List.mem_of_getElem? (i := 4) (by decide +kernel)
theorem mn_9_89 : (RX9, 89, yX11_bit, "CourtVans") ∈ NSM := List.mem_of_getElem? (i := 3) (by decide +kernel)
theorem fl_9_9 : Cond.fieldLink RX9 9 (TX9 1).1 (TX9 1).2.1 (TX9 1).2.2.1 ∈ BIG := big_of (tk1 _ (List.mem_of_getElem? (i := 148) (by decide +kernel))) (by decide +kernel)
theorem fl_9_15 : Cond.fieldLink RX9 15 (TX9 2).1 (TX9 2).2.1 (TX9 2).2.2.1 ∈ BIG := big_of (tk1 _ (List.mem_of_getElem? (i := 149) (by decide +kernel))) (by decide +kernel)
theorem kc_JI_265 : Cond.constant "java/lang/Integer" 265 (Int32.ofInt 1431655765) ∈ BIG := big_of (tk3 _ (List.mem_of_getElem? (i := 124) (by decide +kernel))) (by decide +kernel)
theorem kc_JI_266 : Cond.constant "java/lang/Integer" 266 (Int32.ofInt 858993459) ∈ BIG := big_of (tk3 _ (List.mem_of_getElem? (i := 125) (by decide +kernel))) (by decide +kernel)
theorem kc_JI_267 : Cond.constant "java/lang/Integer" 267 (Int32.ofInt 252645135) ∈ BIG := big_of (tk3 _ (List.mem_of_getElem? (i := 126) (by decide +kernel))) (by decide +kernel)
theorem co_9_keepIfBetter : Cond.code yX9_keepIfBetter cX9_keepIfBetter 5 none ∈ BIG := big_of (tk3 _ (List.mem_of_getElem? (i := 134) (by decide +kernel))) (by decide +kernel)
theorem wb_9_keepIfBetter : wB yX9_keepIfBetter cX9_keepIfBetter 5 none := ⟨in_9, co_9_keepIfBetter⟩
theorem ds_9_keepIfBetter : dsc yX9_keepIfBetter 1 := ⟨by decide +kernel, by decide +kernel, by decide +kernel⟩
theorem im_9_keepIfBetter : Cond.instanceMethod yX9_keepIfBetter ∈ BIG := big_of (tk3 _ (List.mem_of_getElem? (i := 133) (by decide +kernel))) (by decide +kernel)
theorem se_9_keepIfBetter : Cond.selects (yX9_keepIfBetter).cls yX9_keepIfBetter yX9_keepIfBetter ∈ BIG := big_of (pv1 (yX9_keepIfBetter, 12) (List.mem_of_getElem? (i := 9) (by decide +kernel))) (by decide +kernel)
theorem wi_9_keepIfBetter : wI yX9_keepIfBetter := ⟨im_9_keepIfBetter, se_9_keepIfBetter⟩
theorem ml_9_92 : Cond.methodLink RX9 92 yX9_keepIfBetter ∈ BIG := big_of (tk3 _ (List.mem_of_getElem? (i := 131) (by decide +kernel))) (by decide +kernel)
theorem co_9_lostBy : Cond.code yX9_lostBy cX9_lostBy 5 (some .int) ∈ BIG := big_of (tk3 _ (List.mem_of_getElem? (i := 138) (by decide +kernel))) (by decide +kernel)
theorem wb_9_lostBy : wB yX9_lostBy cX9_lostBy 5 (some .int) := ⟨in_9, co_9_lostBy⟩
theorem ds_9_lostBy : dsc yX9_lostBy 1 := ⟨by decide +kernel, by decide +kernel, by decide +kernel⟩
theorem im_9_lostBy : Cond.instanceMethod yX9_lostBy ∈ BIG := big_of (tk3 _ (List.mem_of_getElem? (i := 137) (by decide +kernel))) (by decide +kernel)
theorem se_9_lostBy : Cond.selects (yX9_lostBy).cls yX9_lostBy yX9_lostBy ∈ BIG := big_of (pv1 (yX9_lostBy, 12) (List.mem_of_getElem? (i := 10) (by decide +kernel))) (by decide +kernel)
theorem wi_9_lostBy : wI yX9_lostBy := ⟨im_9_lostBy, se_9_lostBy⟩
theorem ml_9_96 : Cond.methodLink RX9 96 yX9_lostBy ∈ BIG := big_of (tk3 _ (List.mem_of_getElem? (i := 135) (by decide +kernel))) (by decide +kernel)
theorem co_9_lostMinutes : Cond.code yX9_lostMinutes cX9_lostMinutes 4 (some .int) ∈ BIG := big_of (tk3 _ (List.mem_of_getElem? (i := 143) (by decide +kernel))) (by decide +kernel)
theorem wb_9_lostMinutes : wB yX9_lostMinutes cX9_lostMinutes 4 (some .int) := ⟨in_9, co_9_lostMinutes⟩
theorem ds_9_lostMinutes : dsc yX9_lostMinutes 1 := ⟨by decide +kernel, by decide +kernel, by decide +kernel⟩
theorem im_9_lostMinutes : Cond.instanceMethod yX9_lostMinutes ∈ BIG := big_of (tk3 _ (List.mem_of_getElem? (i := 142) (by decide +kernel))) (by decide +kernel)
theorem se_9_lostMinutes : Cond.selects (yX9_lostMinutes).cls yX9_lostMinutes yX9_lostMinutes ∈ BIG := big_of (pv1 (yX9_lostMinutes, 12) (List.mem_of_getElem? (i := 11) (by decide +kernel))) (by decide +kernel)
theorem wi_9_lostMinutes : wI yX9_lostMinutes := ⟨im_9_lostMinutes, se_9_lostMinutes⟩
theorem ml_9_99 : Cond.methodLink RX9 99 yX9_lostMinutes ∈ BIG := big_of (tk3 _ (List.mem_of_getElem? (i := 140) (by decide +kernel))) (by decide +kernel)
theorem co_9_reach : Cond.code yX9_reach cX9_reach 6 (some .int) ∈ BIG := big_of (tk3 _ (List.mem_of_getElem? (i := 147) (by decide +kernel))) (by decide +kernel)
theorem wb_9_reach : wB yX9_reach cX9_reach 6 (some .int) := ⟨in_9, co_9_reach⟩
theorem ds_9_reach : dsc yX9_reach 3 := ⟨by decide +kernel, by decide +kernel, by decide +kernel⟩
theorem im_9_reach : Cond.instanceMethod yX9_reach ∈ BIG := big_of (tk3 _ (List.mem_of_getElem? (i := 146) (by decide +kernel))) (by decide +kernel)
theorem se_9_reach : Cond.selects (yX9_reach).cls yX9_reach yX9_reach ∈ BIG := big_of (pv1 (yX9_reach, 12) (List.mem_of_getElem? (i := 12) (by decide +kernel))) (by decide +kernel)
theorem wi_9_reach : wI yX9_reach := ⟨im_9_reach, se_9_reach⟩
theorem ml_9_102 : Cond.methodLink RX9 102 yX9_reach ∈ BIG := big_of (tk3 _ (List.mem_of_getElem? (i := 144) (by decide +kernel))) (by decide +kernel)
theorem co_9_lateAt : Cond.code yX9_lateAt cX9_lateAt 5 (some .int) ∈ BIG := big_of (tk3 _ (List.mem_of_getElem? (i := 152) (by decide +kernel))) (by decide +kernel)
theorem wb_9_lateAt : wB yX9_lateAt cX9_lateAt 5 (some .int) := ⟨in_9, co_9_lateAt⟩
theorem ds_9_lateAt : dsc yX9_lateAt 2 := ⟨by decide +kernel, by decide +kernel, by decide +kernel⟩
theorem im_9_lateAt : Cond.instanceMethod yX9_lateAt ∈ BIG := big_of (tk3 _ (List.mem_of_getElem? (i := 151) (by decide +kernel))) (by decide +kernel)
theorem se_9_lateAt : Cond.selects (yX9_lateAt).cls yX9_lateAt yX9_lateAt ∈ BIG := big_of (pv1 (yX9_lateAt, 12) (List.mem_of_getElem? (i := 13) (by decide +kernel))) (by decide +kernel)
theorem wi_9_lateAt : wI yX9_lateAt := ⟨im_9_lateAt, se_9_lateAt⟩
theorem ml_9_106 : Cond.methodLink RX9 106 yX9_lateAt ∈ BIG := big_of (tk3 _ (List.mem_of_getElem? (i := 149) (by decide +kernel))) (by decide +kernel)
theorem fl_9_18 : Cond.fieldLink RX9 18 (TX9 6).1 (TX9 6).2.1 (TX9 6).2.2.1 ∈ BIG := big_of (tk1 _ (List.mem_of_getElem? (i := 153) (by decide +kernel))) (by decide +kernel)
theorem fl_9_21 : Cond.fieldLink RX9 21 (TX9 7).1 (TX9 7).2.1 (TX9 7).2.2.1 ∈ BIG := big_of (tk1 _ (List.mem_of_getElem? (i := 154) (by decide +kernel))) (by decide +kernel)
theorem mn_9_109 : (RX9, 109, yX11_withBit, "CourtVans") ∈ NSM := List.mem_of_getElem? (i := 4) (by decide +kernel)
theorem fl_9_27 : Cond.fieldLink RX9 27 (TX9 9).1 (TX9 9).2.1 (TX9 9).2.2.1 ∈ BIG := big_of (tk1 _ (List.mem_of_getElem? (i := 157) (by decide +kernel))) (by decide +kernel)
theorem fl_9_24 : Cond.fieldLink RX9 24 (TX9 8).1 (TX9 8).2.1 (TX9 8).2.2.1 ∈ BIG := big_of (tk1 _ (List.mem_of_getElem? (i := 155) (by decide +kernel))) (by decide +kernel)
theorem fn_9_113 : (RX9, 113, (TX10 3).1, (TX10 3).2.1, (TX10 3).2.2.1, "CourtVans") ∈ NSF := List.mem_of_getElem? (i := 25) (by decide +kernel)
theorem ml_9_116 : Cond.methodLink RX9 116 yX10_driveMinutes ∈ BIG := big_of (tk3 _ (List.mem_of_getElem? (i := 148) (by decide +kernel))) (by decide +kernel)
theorem co_11_route : Cond.code yX11_route cX11_route 4 (some .int) ∈ BIG := big_of (tk3 _ (List.mem_of_getElem? (i := 98) (by decide +kernel))) (by decide +kernel)
theorem wb_11_route : wB yX11_route cX11_route 4 (some .int) := ⟨in_11, co_11_route⟩
theorem ds_11_route : dsc yX11_route 3 := ⟨by decide +kernel, by decide +kernel, by decide +kernel⟩
theorem im_11_route : Cond.instanceMethod yX11_route ∈ BIG := big_of (tk3 _ (List.mem_of_getElem? (i := 96) (by decide +kernel))) (by decide +kernel)
theorem se_11_route : Cond.selects (yX11_route).cls yX11_route yX11_route ∈ BIG := big_of (tk3 _ (List.mem_of_getElem? (i := 97) (by decide +kernel))) (by decide +kernel)
theorem wi_11_route : wI yX11_route := ⟨im_11_route, se_11_route⟩
theorem co_9_arrivalOf : Cond.code yX9_arrivalOf cX9_arrivalOf 4 (some .int) ∈ BIG := big_of (tk3 _ (List.mem_of_getElem? (i := 164) (by decide +kernel))) (by decide +kernel)
theorem wb_9_arrivalOf : wB yX9_arrivalOf cX9_arrivalOf 4 (some .int) := ⟨in_9, co_9_arrivalOf⟩
theorem ds_9_arrivalOf : dsc yX9_arrivalOf 1 := ⟨by decide +kernel, by decide +kernel, by decide +kernel⟩
theorem im_9_arrivalOf : Cond.instanceMethod yX9_arrivalOf ∈ BIG := big_of (tk3 _ (List.mem_of_getElem? (i := 162) (by decide +kernel))) (by decide +kernel)
theorem se_9_arrivalOf : Cond.selects (yX9_arrivalOf).cls yX9_arrivalOf yX9_arrivalOf ∈ BIG := big_of (tk3 _ (List.mem_of_getElem? (i := 163) (by decide +kernel))) (by decide +kernel)
theorem wi_9_arrivalOf : wI yX9_arrivalOf := ⟨im_9_arrivalOf, se_9_arrivalOf⟩
theorem ml_11_200 : Cond.methodLink RX11 200 yX9_arrivalOf ∈ BIG := big_of (tk3 _ (List.mem_of_getElem? (i := 161) (by decide +kernel))) (by decide +kernel)
theorem co_11_arrival : Cond.code yX11_arrival cX11_arrival 4 (some .int) ∈ BIG := big_of (tk3 _ (List.mem_of_getElem? (i := 160) (by decide +kernel))) (by decide +kernel)
theorem wb_11_arrival : wB yX11_arrival cX11_arrival 4 (some .int) := ⟨in_11, co_11_arrival⟩
theorem ds_11_arrival : dsc yX11_arrival 3 := ⟨by decide +kernel, by decide +kernel, by decide +kernel⟩
theorem im_11_arrival : Cond.instanceMethod yX11_arrival ∈ BIG := big_of (tk3 _ (List.mem_of_getElem? (i := 158) (by decide +kernel))) (by decide +kernel)
theorem se_11_arrival : Cond.selects (yX11_arrival).cls yX11_arrival yX11_arrival ∈ BIG := big_of (tk3 _ (List.mem_of_getElem? (i := 159) (by decide +kernel))) (by decide +kernel)
theorem wi_11_arrival : wI yX11_arrival := ⟨im_11_arrival, se_11_arrival⟩
theorem co_10_ridersOf : Cond.code yX10_ridersOf cX10_ridersOf 2 (some .int) ∈ BIG := big_of (tk3 _ (List.mem_of_getElem? (i := 172) (by decide +kernel))) (by decide +kernel)
theorem wb_10_ridersOf : wB yX10_ridersOf cX10_ridersOf 2 (some .int) := ⟨in_10, co_10_ridersOf⟩
theorem ds_10_ridersOf : dsc yX10_ridersOf 1 := ⟨by decide +kernel, by decide +kernel, by decide +kernel⟩
theorem im_10_ridersOf : Cond.instanceMethod yX10_ridersOf ∈ BIG := big_of (tk3 _ (List.mem_of_getElem? (i := 170) (by decide +kernel))) (by decide +kernel)
theorem se_10_ridersOf : Cond.selects (yX10_ridersOf).cls yX10_ridersOf yX10_ridersOf ∈ BIG := big_of (tk3 _ (List.mem_of_getElem? (i := 171) (by decide +kernel))) (by decide +kernel)
theorem wi_10_ridersOf : wI yX10_ridersOf := ⟨im_10_ridersOf, se_10_ridersOf⟩
theorem ml_11_204 : Cond.methodLink RX11 204 yX10_ridersOf ∈ BIG := big_of (tk3 _ (List.mem_of_getElem? (i := 169) (by decide +kernel))) (by decide +kernel)
theorem ml_10_94 : Cond.methodLink RX10 94 yX10_personsOf ∈ BIG := big_of (tk3 _ (List.mem_of_getElem? (i := 173) (by decide +kernel))) (by decide +kernel)
theorem fl_10_57 : Cond.fieldLink RX10 57 (TX10 11).1 (TX10 11).2.1 (TX10 11).2.2.1 ∈ BIG := big_of (tk1 _ (List.mem_of_getElem? (i := 109) (by decide +kernel))) (by decide +kernel)
theorem co_11_riders : Cond.code yX11_riders cX11_riders 2 (some .int) ∈ BIG := big_of (tk3 _ (List.mem_of_getElem? (i := 168) (by decide +kernel))) (by decide +kernel)
theorem wb_11_riders : wB yX11_riders cX11_riders 2 (some .int) := ⟨in_11, co_11_riders⟩
theorem ds_11_riders : dsc yX11_riders 1 := ⟨by decide +kernel, by decide +kernel, by decide +kernel⟩
theorem im_11_riders : Cond.instanceMethod yX11_riders ∈ BIG := big_of (tk3 _ (List.mem_of_getElem? (i := 166) (by decide +kernel))) (by decide +kernel)
theorem se_11_riders : Cond.selects (yX11_riders).cls yX11_riders yX11_riders ∈ BIG := big_of (tk3 _ (List.mem_of_getElem? (i := 167) (by decide +kernel))) (by decide +kernel)
theorem wi_11_riders : wI yX11_riders := ⟨im_11_riders, se_11_riders⟩
theorem fl_11_33 : Cond.fieldLink RX11 33 (TX11 4).1 (TX11 4).2.1 (TX11 4).2.2.1 ∈ BIG := big_of (tk2 _ (List.mem_of_getElem? (i := 172) (by decide +kernel))) (by decide +kernel)
theorem in_5 : Cond.initialized RX5 ∈ BIG := big_of (tk1 _ (List.mem_of_getElem? (i := 7) (by decide +kernel))) (by decide +kernel)
theorem co_5_solve : Cond.code yX5_solve cX5_solve 6 (some .int) ∈ BIG := big_of (tk3 _ (List.mem_of_getElem? (i := 181) (by decide +kernel))) (by decide +kernel)
theorem wb_5_solve : wB yX5_solve cX5_solve 6 (some .int) := ⟨in_5, co_5_solve⟩
theorem ds_5_solve : dsc yX5_solve 1 := ⟨by decide +kernel, by decide +kernel, by decide +kernel⟩
theorem im_5_solve : Cond.instanceMethod yX5_solve ∈ BIG := big_of (tk3 _ (List.mem_of_getElem? (i := 179) (by decide +kernel))) (by decide +kernel)
theorem se_5_solve : Cond.selects (yX5_solve).cls yX5_solve yX5_solve ∈ BIG := big_of (tk3 _ (List.mem_of_getElem? (i := 180) (by decide +kernel))) (by decide +kernel)
theorem wi_5_solve : wI yX5_solve := ⟨im_5_solve, se_5_solve⟩
theorem ml_11_207 : Cond.methodLink RX11 207 yX5_solve ∈ BIG := big_of (tk3 _ (List.mem_of_getElem? (i := 178) (by decide +kernel))) (by decide +kernel)
theorem co_5_gather : Cond.code yX5_gather cX5_gather 3 (some .boolean) ∈ BIG := big_of (tk3 _ (List.mem_of_getElem? (i := 185) (by decide +kernel))) (by decide +kernel)
theorem wb_5_gather : wB yX5_gather cX5_gather 3 (some .boolean) := ⟨in_5, co_5_gather⟩
theorem ds_5_gather : dsc yX5_gather 1 := ⟨by decide +kernel, by decide +kernel, by decide +kernel⟩
theorem im_5_gather : Cond.instanceMethod yX5_gather ∈ BIG := big_of (tk3 _ (List.mem_of_getElem? (i := 184) (by decide +kernel))) (by decide +kernel)
theorem se_5_gather : Cond.selects (yX5_gather).cls yX5_gather yX5_gather ∈ BIG := big_of (pv1 (yX5_gather, 9) (List.mem_of_getElem? (i := 14) (by decide +kernel))) (by decide +kernel)
theorem wi_5_gather : wI yX5_gather := ⟨im_5_gather, se_5_gather⟩
theorem ml_5_95 : Cond.methodLink RX5 95 yX5_gather ∈ BIG := big_of (tk3 _ (List.mem_of_getElem? (i := 182) (by decide +kernel))) (by decide +kernel)
theorem fl_5_12 : Cond.fieldLink RX5 12 (TX5 2).1 (TX5 2).2.1 (TX5 2).2.2.1 ∈ BIG := big_of (tk1 _ (List.mem_of_getElem? (i := 216) (by decide +kernel))) (by decide +kernel)
theorem fn_5_97 : (RX5, 97, (TX0 2).1, (TX0 2).2.1, (TX0 2).2.2.1, "CourtVans") ∈ NSF := List.mem_of_getElem? (i := 46) (by decide +kernel)
theorem fl_5_42 : Cond.fieldLink RX5 42 (TX5 4).1 (TX5 4).2.1 (TX5 4).2.2.1 ∈ BIG := big_of (tk1 _ (List.mem_of_getElem? (i := 218) (by decide +kernel))) (by decide +kernel)
theorem co_5_spread : Cond.code yX5_spread cX5_spread 4 none ∈ BIG := big_of (tk3 _ (List.mem_of_getElem? (i := 200) (by decide +kernel))) (by decide +kernel)
theorem wb_5_spread : wB yX5_spread cX5_spread 4 none := ⟨in_5, co_5_spread⟩
theorem ds_5_spread : dsc yX5_spread 1 := ⟨by decide +kernel, by decide +kernel, by decide +kernel⟩
theorem im_5_spread : Cond.instanceMethod yX5_spread ∈ BIG := big_of (tk3 _ (List.mem_of_getElem? (i := 199) (by decide +kernel))) (by decide +kernel)
theorem se_5_spread : Cond.selects (yX5_spread).cls yX5_spread yX5_spread ∈ BIG := big_of (pv1 (yX5_spread, 9) (List.mem_of_getElem? (i := 15) (by decide +kernel))) (by decide +kernel)
theorem wi_5_spread : wI yX5_spread := ⟨im_5_spread, se_5_spread⟩
theorem ml_5_98 : Cond.methodLink RX5 98 yX5_spread ∈ BIG := big_of (tk3 _ (List.mem_of_getElem? (i := 197) (by decide +kernel))) (by decide +kernel)
theorem co_5_sumOfSets : Cond.code yX5_sumOfSets cX5_sumOfSets 4 (some .int) ∈ BIG := big_of (tk3 _ (List.mem_of_getElem? (i := 204) (by decide +kernel))) (by decide +kernel)
theorem wb_5_sumOfSets : wB yX5_sumOfSets cX5_sumOfSets 4 (some .int) := ⟨in_5, co_5_sumOfSets⟩
theorem ds_5_sumOfSets : dsc yX5_sumOfSets 0 := ⟨by decide +kernel, by decide +kernel, by decide +kernel⟩
theorem im_5_sumOfSets : Cond.instanceMethod yX5_sumOfSets ∈ BIG := big_of (tk3 _ (List.mem_of_getElem? (i := 203) (by decide +kernel))) (by decide +kernel)
theorem se_5_sumOfSets : Cond.selects (yX5_sumOfSets).cls yX5_sumOfSets yX5_sumOfSets ∈ BIG := big_of (pv2 (yX5_sumOfSets, 9) (List.mem_of_getElem? (i := 0) (by decide +kernel))) (by decide +kernel)
theorem wi_5_sumOfSets : wI yX5_sumOfSets := ⟨im_5_sumOfSets, se_5_sumOfSets⟩
theorem ml_5_102 : Cond.methodLink RX5 102 yX5_sumOfSets ∈ BIG := big_of (tk3 _ (List.mem_of_getElem? (i := 201) (by decide +kernel))) (by decide +kernel)
theorem fl_5_25 : Cond.fieldLink RX5 25 (TX5 6).1 (TX5 6).2.1 (TX5 6).2.2.1 ∈ BIG := big_of (tk1 _ (List.mem_of_getElem? (i := 220) (by decide +kernel))) (by decide +kernel)
theorem fl_5_28 : Cond.fieldLink RX5 28 (TX5 7).1 (TX5 7).2.1 (TX5 7).2.2.1 ∈ BIG := big_of (tk1 _ (List.mem_of_getElem? (i := 221) (by decide +kernel))) (by decide +kernel)
theorem co_11_copy : Cond.code yX11_copy cX11_copy 2 none ∈ BIG := big_of (tk3 _ (List.mem_of_getElem? (i := 221) (by decide +kernel))) (by decide +kernel)
theorem wb_11_copy : wB yX11_copy cX11_copy 2 none := ⟨in_11, co_11_copy⟩
theorem ds_11_copy : dsc yX11_copy 2 := ⟨by decide +kernel, by decide +kernel, by decide +kernel⟩
theorem st_11_copy : Cond.static yX11_copy ∈ BIG := big_of (tk3 _ (List.mem_of_getElem? (i := 220) (by decide +kernel))) (by decide +kernel)
theorem mn_5_106 : (RX5, 106, yX11_copy, "CourtVans") ∈ NSM := List.mem_of_getElem? (i := 7) (by decide +kernel)
theorem fl_5_34 : Cond.fieldLink RX5 34 (TX5 0).1 (TX5 0).2.1 (TX5 0).2.2.1 ∈ BIG := big_of (tk1 _ (List.mem_of_getElem? (i := 214) (by decide +kernel))) (by decide +kernel)
theorem fn_5_46 : (RX5, 46, (TX10 2).1, (TX10 2).2.1, (TX10 2).2.2.1, "CourtVans") ∈ NSF := List.mem_of_getElem? (i := 20) (by decide +kernel)
theorem fn_5_51 : (RX5, 51, (TX8 3).1, (TX8 3).2.1, (TX8 3).2.2.1, "CourtVans") ∈ NSF := List.mem_of_getElem? (i := 0) (by decide +kernel)
theorem ml_5_56 : Cond.methodLink RX5 56 yX8_cell ∈ BIG := big_of (tk3 _ (List.mem_of_getElem? (i := 186) (by decide +kernel))) (by decide +kernel)
theorem fl_5_18 : Cond.fieldLink RX5 18 (TX5 3).1 (TX5 3).2.1 (TX5 3).2.2.1 ∈ BIG := big_of (tk1 _ (List.mem_of_getElem? (i := 217) (by decide +kernel))) (by decide +kernel)
theorem fl_5_22 : Cond.fieldLink RX5 22 (TX5 5).1 (TX5 5).2.1 (TX5 5).2.2.1 ∈ BIG := big_of (tk1 _ (List.mem_of_getElem? (i := 219) (by decide +kernel))) (by decide +kernel)
def yJ_fill : MethodName := ⟨"java/util/Arrays", "fill", "([II)V"⟩
abbrev cJ_fill : ByteArray := prog_21_method_103_code
theorem in_JA : Cond.initialized "java/util/Arrays" ∈ BIG := big_of (tk1 _ (List.mem_of_getElem? (i := 5) (by decide +kernel))) (by decide +kernel)
theorem co_J_fill : Cond.code yJ_fill cJ_fill 4 none ∈ BIG := big_of (tk1 _ (List.mem_of_getElem? (i := 69) (by decide +kernel))) (by decide +kernel)
theorem wb_J_fill : wB yJ_fill cJ_fill 4 none := ⟨in_JA, co_J_fill⟩
theorem ds_J_fill : dsc yJ_fill 2 := ⟨by decide +kernel, by decide +kernel, by decide +kernel⟩
theorem st_J_fill : Cond.static yJ_fill ∈ BIG := big_of (tk1 _ (List.mem_of_getElem? (i := 68) (by decide +kernel))) (by decide +kernel)
theorem ml_5_60 : Cond.methodLink RX5 60 yJ_fill ∈ BIG := big_of (tk3 _ (List.mem_of_getElem? (i := 187) (by decide +kernel))) (by decide +kernel)
theorem ml_5_66 : Cond.methodLink RX5 66 yX10_ridersOf ∈ BIG := big_of (tk3 _ (List.mem_of_getElem? (i := 188) (by decide +kernel))) (by decide +kernel)
theorem in_0 : Cond.initialized RX0 ∈ BIG := big_of (tk1 _ (List.mem_of_getElem? (i := 8) (by decide +kernel))) (by decide +kernel)
theorem co_0_gather : Cond.code yX0_gather cX0_gather 5 (some .boolean) ∈ BIG := big_of (tk3 _ (List.mem_of_getElem? (i := 192) (by decide +kernel))) (by decide +kernel)
theorem wb_0_gather : wB yX0_gather cX0_gather 5 (some .boolean) := ⟨in_0, co_0_gather⟩
theorem ds_0_gather : dsc yX0_gather 2 := ⟨by decide +kernel, by decide +kernel, by decide +kernel⟩
theorem im_0_gather : Cond.instanceMethod yX0_gather ∈ BIG := big_of (tk3 _ (List.mem_of_getElem? (i := 190) (by decide +kernel))) (by decide +kernel)
theorem se_0_gather : Cond.selects (yX0_gather).cls yX0_gather yX0_gather ∈ BIG := big_of (tk3 _ (List.mem_of_getElem? (i := 191) (by decide +kernel))) (by decide +kernel)
theorem wi_0_gather : wI yX0_gather := ⟨im_0_gather, se_0_gather⟩
theorem ml_5_70 : Cond.methodLink RX5 70 yX0_gather ∈ BIG := big_of (tk3 _ (List.mem_of_getElem? (i := 189) (by decide +kernel))) (by decide +kernel)
theorem fl_0_18 : Cond.fieldLink RX0 18 (TX0 2).1 (TX0 2).2.1 (TX0 2).2.2.1 ∈ BIG := big_of (tk1 _ (List.mem_of_getElem? (i := 204) (by decide +kernel))) (by decide +kernel)
theorem ml_0_22 : Cond.methodLink RX0 22 yJ_bitCount ∈ BIG := big_of (tk3 _ (List.mem_of_getElem? (i := 193) (by decide +kernel))) (by decide +kernel)
theorem mn_0_28 : (RX0, 28, yX11_bit, "CourtVans") ∈ NSM := List.mem_of_getElem? (i := 5) (by decide +kernel)
theorem fl_0_9 : Cond.fieldLink RX0 9 (TX0 0).1 (TX0 0).2.1 (TX0 0).2.2.1 ∈ BIG := big_of (tk1 _ (List.mem_of_getElem? (i := 200) (by decide +kernel))) (by decide +kernel)
theorem fl_0_15 : Cond.fieldLink RX0 15 (TX0 1).1 (TX0 1).2.1 (TX0 1).2.2.1 ∈ BIG := big_of (tk1 _ (List.mem_of_getElem? (i := 202) (by decide +kernel))) (by decide +kernel)
theorem ml_0_32 : Cond.methodLink RX0 32 yX10_areFoes ∈ BIG := big_of (tk3 _ (List.mem_of_getElem? (i := 195) (by decide +kernel))) (by decide +kernel)
theorem mn_0_38 : (RX0, 38, yX11_withBit, "CourtVans") ∈ NSM := List.mem_of_getElem? (i := 6) (by decide +kernel)
theorem co_5_lateOf : Cond.code yX5_lateOf cX5_lateOf 7 (some .int) ∈ BIG := big_of (tk3 _ (List.mem_of_getElem? (i := 208) (by decide +kernel))) (by decide +kernel)
theorem wb_5_lateOf : wB yX5_lateOf cX5_lateOf 7 (some .int) := ⟨in_5, co_5_lateOf⟩
theorem ds_5_lateOf : dsc yX5_lateOf 2 := ⟨by decide +kernel, by decide +kernel, by decide +kernel⟩
theorem im_5_lateOf : Cond.instanceMethod yX5_lateOf ∈ BIG := big_of (tk3 _ (List.mem_of_getElem? (i := 207) (by decide +kernel))) (by decide +kernel)
theorem se_5_lateOf : Cond.selects (yX5_lateOf).cls yX5_lateOf yX5_lateOf ∈ BIG := big_of (pv2 (yX5_lateOf, 9) (List.mem_of_getElem? (i := 1) (by decide +kernel))) (by decide +kernel)
theorem wi_5_lateOf : wI yX5_lateOf := ⟨im_5_lateOf, se_5_lateOf⟩
theorem ml_5_110 : Cond.methodLink RX5 110 yX5_lateOf ∈ BIG := big_of (tk3 _ (List.mem_of_getElem? (i := 205) (by decide +kernel))) (by decide +kernel)
theorem ml_5_74 : Cond.methodLink RX5 74 yJ_bitCount ∈ BIG := big_of (tk3 _ (List.mem_of_getElem? (i := 209) (by decide +kernel))) (by decide +kernel)
theorem co_0_hasFoes : Cond.code yX0_hasFoes cX0_hasFoes 3 (some .boolean) ∈ BIG := big_of (tk3 _ (List.mem_of_getElem? (i := 213) (by decide +kernel))) (by decide +kernel)
theorem wb_0_hasFoes : wB yX0_hasFoes cX0_hasFoes 3 (some .boolean) := ⟨in_0, co_0_hasFoes⟩
theorem ds_0_hasFoes : dsc yX0_hasFoes 1 := ⟨by decide +kernel, by decide +kernel, by decide +kernel⟩
theorem im_0_hasFoes : Cond.instanceMethod yX0_hasFoes ∈ BIG := big_of (tk3 _ (List.mem_of_getElem? (i := 211) (by decide +kernel))) (by decide +kernel)
theorem se_0_hasFoes : Cond.selects (yX0_hasFoes).cls yX0_hasFoes yX0_hasFoes ∈ BIG := big_of (tk3 _ (List.mem_of_getElem? (i := 212) (by decide +kernel))) (by decide +kernel)
theorem wi_0_hasFoes : wI yX0_hasFoes := ⟨im_0_hasFoes, se_0_hasFoes⟩
theorem ml_5_79 : Cond.methodLink RX5 79 yX0_hasFoes ∈ BIG := big_of (tk3 _ (List.mem_of_getElem? (i := 210) (by decide +kernel))) (by decide +kernel)
theorem fl_5_38 : Cond.fieldLink RX5 38 (TX5 1).1 (TX5 1).2.1 (TX5 1).2.2.1 ∈ BIG := big_of (tk1 _ (List.mem_of_getElem? (i := 215) (by decide +kernel))) (by decide +kernel)
theorem co_0_personsIn : Cond.code yX0_personsIn cX0_personsIn 4 (some .int) ∈ BIG := big_of (tk3 _ (List.mem_of_getElem? (i := 217) (by decide +kernel))) (by decide +kernel)
theorem wb_0_personsIn : wB yX0_personsIn cX0_personsIn 4 (some .int) := ⟨in_0, co_0_personsIn⟩
theorem ds_0_personsIn : dsc yX0_personsIn 1 := ⟨by decide +kernel, by decide +kernel, by decide +kernel⟩
theorem im_0_personsIn : Cond.instanceMethod yX0_personsIn ∈ BIG := big_of (tk3 _ (List.mem_of_getElem? (i := 215) (by decide +kernel))) (by decide +kernel)
theorem se_0_personsIn : Cond.selects (yX0_personsIn).cls yX0_personsIn yX0_personsIn ∈ BIG := big_of (tk3 _ (List.mem_of_getElem? (i := 216) (by decide +kernel))) (by decide +kernel)
theorem wi_0_personsIn : wI yX0_personsIn := ⟨im_0_personsIn, se_0_personsIn⟩
theorem ml_5_83 : Cond.methodLink RX5 83 yX0_personsIn ∈ BIG := big_of (tk3 _ (List.mem_of_getElem? (i := 214) (by decide +kernel))) (by decide +kernel)
theorem ml_5_86 : Cond.methodLink RX5 86 yX9_find ∈ BIG := big_of (tk3 _ (List.mem_of_getElem? (i := 218) (by decide +kernel))) (by decide +kernel)
theorem fn_5_92 : (RX5, 92, (TX9 11).1, (TX9 11).2.1, (TX9 11).2.2.1, "CourtVans") ∈ NSF := List.mem_of_getElem? (i := 41) (by decide +kernel)
def yJ_min : MethodName := ⟨"java/lang/Math", "min", "(II)I"⟩
abbrev cJ_min : ByteArray := prog_16_method_69_code
theorem co_J_min : Cond.code yJ_min cJ_min 2 (some .int) ∈ BIG := big_of (tk3 _ (List.mem_of_getElem? (i := 224) (by decide +kernel))) (by decide +kernel)
theorem wb_J_min : wB yJ_min cJ_min 2 (some .int) := ⟨in_JM, co_J_min⟩
theorem ds_J_min : dsc yJ_min 2 := ⟨by decide +kernel, by decide +kernel, by decide +kernel⟩
theorem st_J_min : Cond.static yJ_min ∈ BIG := big_of (tk3 _ (List.mem_of_getElem? (i := 223) (by decide +kernel))) (by decide +kernel)
theorem ml_11_373 : Cond.methodLink RX11 373 yJ_min ∈ BIG := big_of (tk3 _ (List.mem_of_getElem? (i := 222) (by decide +kernel))) (by decide +kernel)
theorem ml_11_378 : Cond.methodLink RX11 378 arraycopyName ∈ BIG := big_of (tk3 _ (List.mem_of_getElem? (i := 225) (by decide +kernel))) (by decide +kernel)
theorem wc_n : Cond.native arraycopyName ∈ BIG := big_of (tk3 _ (List.mem_of_getElem? (i := 227) (by decide +kernel))) (by decide +kernel)
theorem wc_s : Cond.static arraycopyName ∈ BIG := big_of (tk3 _ (List.mem_of_getElem? (i := 226) (by decide +kernel))) (by decide +kernel)
theorem wc_i : Cond.initialized "java/lang/System" ∈ BIG := big_of (tk1 _ (List.mem_of_getElem? (i := 17) (by decide +kernel))) (by decide +kernel)
theorem co_11_plan : Cond.code yX11_plan cX11_plan 2 (some .int) ∈ BIG := big_of (tk3 _ (List.mem_of_getElem? (i := 177) (by decide +kernel))) (by decide +kernel)
theorem wb_11_plan : wB yX11_plan cX11_plan 2 (some .int) := ⟨in_11, co_11_plan⟩
theorem ds_11_plan : dsc yX11_plan 1 := ⟨by decide +kernel, by decide +kernel, by decide +kernel⟩
theorem im_11_plan : Cond.instanceMethod yX11_plan ∈ BIG := big_of (tk3 _ (List.mem_of_getElem? (i := 175) (by decide +kernel))) (by decide +kernel)
theorem se_11_plan : Cond.selects (yX11_plan).cls yX11_plan yX11_plan ∈ BIG := big_of (tk3 _ (List.mem_of_getElem? (i := 176) (by decide +kernel))) (by decide +kernel)
theorem wi_11_plan : wI yX11_plan := ⟨im_11_plan, se_11_plan⟩
theorem co_5_vanWith : Cond.code yX5_vanWith cX5_vanWith 4 (some .int) ∈ BIG := big_of (tk3 _ (List.mem_of_getElem? (i := 235) (by decide +kernel))) (by decide +kernel)
theorem wb_5_vanWith : wB yX5_vanWith cX5_vanWith 4 (some .int) := ⟨in_5, co_5_vanWith⟩
theorem ds_5_vanWith : dsc yX5_vanWith 1 := ⟨by decide +kernel, by decide +kernel, by decide +kernel⟩
theorem im_5_vanWith : Cond.instanceMethod yX5_vanWith ∈ BIG := big_of (tk3 _ (List.mem_of_getElem? (i := 233) (by decide +kernel))) (by decide +kernel)
theorem se_5_vanWith : Cond.selects (yX5_vanWith).cls yX5_vanWith yX5_vanWith ∈ BIG := big_of (tk3 _ (List.mem_of_getElem? (i := 234) (by decide +kernel))) (by decide +kernel)
theorem wi_5_vanWith : wI yX5_vanWith := ⟨im_5_vanWith, se_5_vanWith⟩
theorem ml_11_210 : Cond.methodLink RX11 210 yX5_vanWith ∈ BIG := big_of (tk3 _ (List.mem_of_getElem? (i := 232) (by decide +kernel))) (by decide +kernel)
theorem co_0_indexOf : Cond.code yX0_indexOf cX0_indexOf 3 (some .int) ∈ BIG := big_of (tk3 _ (List.mem_of_getElem? (i := 239) (by decide +kernel))) (by decide +kernel)
theorem wb_0_indexOf : wB yX0_indexOf cX0_indexOf 3 (some .int) := ⟨in_0, co_0_indexOf⟩
theorem ds_0_indexOf : dsc yX0_indexOf 1 := ⟨by decide +kernel, by decide +kernel, by decide +kernel⟩
theorem im_0_indexOf : Cond.instanceMethod yX0_indexOf ∈ BIG := big_of (tk3 _ (List.mem_of_getElem? (i := 237) (by decide +kernel))) (by decide +kernel)
theorem se_0_indexOf : Cond.selects (yX0_indexOf).cls yX0_indexOf yX0_indexOf ∈ BIG := big_of (tk3 _ (List.mem_of_getElem? (i := 238) (by decide +kernel))) (by decide +kernel)
theorem wi_0_indexOf : wI yX0_indexOf := ⟨im_0_indexOf, se_0_indexOf⟩
theorem ml_5_113 : Cond.methodLink RX5 113 yX0_indexOf ∈ BIG := big_of (tk3 _ (List.mem_of_getElem? (i := 236) (by decide +kernel))) (by decide +kernel)
theorem mn_5_116 : (RX5, 116, yX11_bit, "CourtVans") ∈ NSM := List.mem_of_getElem? (i := 8) (by decide +kernel)
theorem co_11_vanOf : Cond.code yX11_vanOf cX11_vanOf 3 (some .int) ∈ BIG := big_of (tk3 _ (List.mem_of_getElem? (i := 231) (by decide +kernel))) (by decide +kernel)
theorem wb_11_vanOf : wB yX11_vanOf cX11_vanOf 3 (some .int) := ⟨in_11, co_11_vanOf⟩
theorem ds_11_vanOf : dsc yX11_vanOf 1 := ⟨by decide +kernel, by decide +kernel, by decide +kernel⟩
theorem im_11_vanOf : Cond.instanceMethod yX11_vanOf ∈ BIG := big_of (tk3 _ (List.mem_of_getElem? (i := 229) (by decide +kernel))) (by decide +kernel)
theorem se_11_vanOf : Cond.selects (yX11_vanOf).cls yX11_vanOf yX11_vanOf ∈ BIG := big_of (tk3 _ (List.mem_of_getElem? (i := 230) (by decide +kernel))) (by decide +kernel)
theorem wi_11_vanOf : wI yX11_vanOf := ⟨im_11_vanOf, se_11_vanOf⟩
theorem co_5_leftOut : Cond.code yX5_leftOut cX5_leftOut 7 (some .int) ∈ BIG := big_of (tk4 _ (List.mem_of_getElem? (i := 8) (by decide +kernel))) (by decide +kernel)
theorem wb_5_leftOut : wB yX5_leftOut cX5_leftOut 7 (some .int) := ⟨in_5, co_5_leftOut⟩
theorem ds_5_leftOut : dsc yX5_leftOut 1 := ⟨by decide +kernel, by decide +kernel, by decide +kernel⟩
theorem im_5_leftOut : Cond.instanceMethod yX5_leftOut ∈ BIG := big_of (tk4 _ (List.mem_of_getElem? (i := 6) (by decide +kernel))) (by decide +kernel)
theorem se_5_leftOut : Cond.selects (yX5_leftOut).cls yX5_leftOut yX5_leftOut ∈ BIG := big_of (tk4 _ (List.mem_of_getElem? (i := 7) (by decide +kernel))) (by decide +kernel)
theorem wi_5_leftOut : wI yX5_leftOut := ⟨im_5_leftOut, se_5_leftOut⟩
theorem ml_11_213 : Cond.methodLink RX11 213 yX5_leftOut ∈ BIG := big_of (tk4 _ (List.mem_of_getElem? (i := 5) (by decide +kernel))) (by decide +kernel)
theorem fl_5_31 : Cond.fieldLink RX5 31 (TX5 8).1 (TX5 8).2.1 (TX5 8).2.2.1 ∈ BIG := big_of (tk1 _ (List.mem_of_getElem? (i := 222) (by decide +kernel))) (by decide +kernel)
theorem co_5_reachWith : Cond.code yX5_reachWith cX5_reachWith 6 none ∈ BIG := big_of (tk4 _ (List.mem_of_getElem? (i := 12) (by decide +kernel))) (by decide +kernel)
theorem wb_5_reachWith : wB yX5_reachWith cX5_reachWith 6 none := ⟨in_5, co_5_reachWith⟩
theorem ds_5_reachWith : dsc yX5_reachWith 2 := ⟨by decide +kernel, by decide +kernel, by decide +kernel⟩
theorem im_5_reachWith : Cond.instanceMethod yX5_reachWith ∈ BIG := big_of (tk4 _ (List.mem_of_getElem? (i := 11) (by decide +kernel))) (by decide +kernel)
theorem se_5_reachWith : Cond.selects (yX5_reachWith).cls yX5_reachWith yX5_reachWith ∈ BIG := big_of (pv2 (yX5_reachWith, 9) (List.mem_of_getElem? (i := 2) (by decide +kernel))) (by decide +kernel)
theorem wi_5_reachWith : wI yX5_reachWith := ⟨im_5_reachWith, se_5_reachWith⟩
theorem ml_5_140 : Cond.methodLink RX5 140 yX5_reachWith ∈ BIG := big_of (tk4 _ (List.mem_of_getElem? (i := 9) (by decide +kernel))) (by decide +kernel)
theorem ml_5_144 : Cond.methodLink RX5 144 yJ_min ∈ BIG := big_of (tk4 _ (List.mem_of_getElem? (i := 13) (by decide +kernel))) (by decide +kernel)
theorem co_11_less : Cond.code yX11_less cX11_less 2 (some .int) ∈ BIG := big_of (tk4 _ (List.mem_of_getElem? (i := 4) (by decide +kernel))) (by decide +kernel)
theorem wb_11_less : wB yX11_less cX11_less 2 (some .int) := ⟨in_11, co_11_less⟩
theorem ds_11_less : dsc yX11_less 1 := ⟨by decide +kernel, by decide +kernel, by decide +kernel⟩
theorem im_11_less : Cond.instanceMethod yX11_less ∈ BIG := big_of (tk4 _ (List.mem_of_getElem? (i := 2) (by decide +kernel))) (by decide +kernel)
theorem se_11_less : Cond.selects (yX11_less).cls yX11_less yX11_less ∈ BIG := big_of (tk4 _ (List.mem_of_getElem? (i := 3) (by decide +kernel))) (by decide +kernel)
theorem wi_11_less : wI yX11_less := ⟨im_11_less, se_11_less⟩
theorem co_5_boundOf : Cond.code yX5_boundOf cX5_boundOf 6 (some .int) ∈ BIG := big_of (tk4 _ (List.mem_of_getElem? (i := 21) (by decide +kernel))) (by decide +kernel)
theorem wb_5_boundOf : wB yX5_boundOf cX5_boundOf 6 (some .int) := ⟨in_5, co_5_boundOf⟩
theorem ds_5_boundOf : dsc yX5_boundOf 1 := ⟨by decide +kernel, by decide +kernel, by decide +kernel⟩
theorem im_5_boundOf : Cond.instanceMethod yX5_boundOf ∈ BIG := big_of (tk4 _ (List.mem_of_getElem? (i := 19) (by decide +kernel))) (by decide +kernel)
theorem se_5_boundOf : Cond.selects (yX5_boundOf).cls yX5_boundOf yX5_boundOf ∈ BIG := big_of (tk4 _ (List.mem_of_getElem? (i := 20) (by decide +kernel))) (by decide +kernel)
theorem wi_5_boundOf : wI yX5_boundOf := ⟨im_5_boundOf, se_5_boundOf⟩
theorem ml_11_216 : Cond.methodLink RX11 216 yX5_boundOf ∈ BIG := big_of (tk4 _ (List.mem_of_getElem? (i := 18) (by decide +kernel))) (by decide +kernel)
theorem fn_5_149 : (RX5, 149, (TX10 1).1, (TX10 1).2.1, (TX10 1).2.2.1, "CourtVans") ∈ NSF := List.mem_of_getElem? (i := 19) (by decide +kernel)
theorem co_5_leastAlone : Cond.code yX5_leastAlone cX5_leastAlone 6 (some .int) ∈ BIG := big_of (tk4 _ (List.mem_of_getElem? (i := 25) (by decide +kernel))) (by decide +kernel)
theorem wb_5_leastAlone : wB yX5_leastAlone cX5_leastAlone 6 (some .int) := ⟨in_5, co_5_leastAlone⟩
theorem ds_5_leastAlone : dsc yX5_leastAlone 2 := ⟨by decide +kernel, by decide +kernel, by decide +kernel⟩
theorem im_5_leastAlone : Cond.instanceMethod yX5_leastAlone ∈ BIG := big_of (tk4 _ (List.mem_of_getElem? (i := 24) (by decide +kernel))) (by decide +kernel)
theorem se_5_leastAlone : Cond.selects (yX5_leastAlone).cls yX5_leastAlone yX5_leastAlone ∈ BIG := big_of (pv2 (yX5_leastAlone, 9) (List.mem_of_getElem? (i := 3) (by decide +kernel))) (by decide +kernel)
theorem wi_5_leastAlone : wI yX5_leastAlone := ⟨im_5_leastAlone, se_5_leastAlone⟩
theorem ml_5_152 : Cond.methodLink RX5 152 yX5_leastAlone ∈ BIG := big_of (tk4 _ (List.mem_of_getElem? (i := 22) (by decide +kernel))) (by decide +kernel)
theorem co_11_bound : Cond.code yX11_bound cX11_bound 2 (some .int) ∈ BIG := big_of (tk4 _ (List.mem_of_getElem? (i := 17) (by decide +kernel))) (by decide +kernel)
theorem wb_11_bound : wB yX11_bound cX11_bound 2 (some .int) := ⟨in_11, co_11_bound⟩
theorem ds_11_bound : dsc yX11_bound 1 := ⟨by decide +kernel, by decide +kernel, by decide +kernel⟩
theorem im_11_bound : Cond.instanceMethod yX11_bound ∈ BIG := big_of (tk4 _ (List.mem_of_getElem? (i := 15) (by decide +kernel))) (by decide +kernel)
theorem se_11_bound : Cond.selects (yX11_bound).cls yX11_bound yX11_bound ∈ BIG := big_of (tk4 _ (List.mem_of_getElem? (i := 16) (by decide +kernel))) (by decide +kernel)
theorem wi_11_bound : wI yX11_bound := ⟨im_11_bound, se_11_bound⟩
theorem fl_11_42 : Cond.fieldLink RX11 42 (TX11 5).1 (TX11 5).2.1 (TX11 5).2.2.1 ∈ BIG := big_of (tk2 _ (List.mem_of_getElem? (i := 173) (by decide +kernel))) (by decide +kernel)
theorem co_5_writeRows : Cond.code yX5_writeRows cX5_writeRows 3 (some .int) ∈ BIG := big_of (tk4 _ (List.mem_of_getElem? (i := 33) (by decide +kernel))) (by decide +kernel)
theorem wb_5_writeRows : wB yX5_writeRows cX5_writeRows 3 (some .int) := ⟨in_5, co_5_writeRows⟩
theorem ds_5_writeRows : dsc yX5_writeRows 1 := ⟨by decide +kernel, by decide +kernel, by decide +kernel⟩
theorem im_5_writeRows : Cond.instanceMethod yX5_writeRows ∈ BIG := big_of (tk4 _ (List.mem_of_getElem? (i := 31) (by decide +kernel))) (by decide +kernel)
theorem se_5_writeRows : Cond.selects (yX5_writeRows).cls yX5_writeRows yX5_writeRows ∈ BIG := big_of (tk4 _ (List.mem_of_getElem? (i := 32) (by decide +kernel))) (by decide +kernel)
theorem wi_5_writeRows : wI yX5_writeRows := ⟨im_5_writeRows, se_5_writeRows⟩
theorem ml_11_219 : Cond.methodLink RX11 219 yX5_writeRows ∈ BIG := big_of (tk4 _ (List.mem_of_getElem? (i := 30) (by decide +kernel))) (by decide +kernel)
theorem fn_5_119 : (RX5, 119, (TX0 0).1, (TX0 0).2.1, (TX0 0).2.2.1, "CourtVans") ∈ NSF := List.mem_of_getElem? (i := 43) (by decide +kernel)
theorem ml_5_122 : Cond.methodLink RX5 122 yX5_vanWith ∈ BIG := big_of (tk4 _ (List.mem_of_getElem? (i := 34) (by decide +kernel))) (by decide +kernel)
theorem ml_5_125 : Cond.methodLink RX5 125 yX8_add ∈ BIG := big_of (tk4 _ (List.mem_of_getElem? (i := 35) (by decide +kernel))) (by decide +kernel)
theorem co_5_writeArrivals : Cond.code yX5_writeArrivals cX5_writeArrivals 4 none ∈ BIG := big_of (tk4 _ (List.mem_of_getElem? (i := 39) (by decide +kernel))) (by decide +kernel)
theorem wb_5_writeArrivals : wB yX5_writeArrivals cX5_writeArrivals 4 none := ⟨in_5, co_5_writeArrivals⟩
theorem ds_5_writeArrivals : dsc yX5_writeArrivals 2 := ⟨by decide +kernel, by decide +kernel, by decide +kernel⟩
theorem im_5_writeArrivals : Cond.instanceMethod yX5_writeArrivals ∈ BIG := big_of (tk4 _ (List.mem_of_getElem? (i := 38) (by decide +kernel))) (by decide +kernel)
theorem se_5_writeArrivals : Cond.selects (yX5_writeArrivals).cls yX5_writeArrivals yX5_writeArrivals ∈ BIG := big_of (pv2 (yX5_writeArrivals, 9) (List.mem_of_getElem? (i := 4) (by decide +kernel))) (by decide +kernel)
theorem wi_5_writeArrivals : wI yX5_writeArrivals := ⟨im_5_writeArrivals, se_5_writeArrivals⟩
theorem ml_5_129 : Cond.methodLink RX5 129 yX5_writeArrivals ∈ BIG := big_of (tk4 _ (List.mem_of_getElem? (i := 36) (by decide +kernel))) (by decide +kernel)
theorem ml_5_133 : Cond.methodLink RX5 133 yX9_arrivalOf ∈ BIG := big_of (tk4 _ (List.mem_of_getElem? (i := 40) (by decide +kernel))) (by decide +kernel)
theorem ml_5_136 : Cond.methodLink RX5 136 yX8_change ∈ BIG := big_of (tk4 _ (List.mem_of_getElem? (i := 41) (by decide +kernel))) (by decide +kernel)
theorem co_11_prove : Cond.code yX11_prove cX11_prove 3 (some .int) ∈ BIG := big_of (tk4 _ (List.mem_of_getElem? (i := 29) (by decide +kernel))) (by decide +kernel)
theorem wb_11_prove : wB yX11_prove cX11_prove 3 (some .int) := ⟨in_11, co_11_prove⟩
theorem ds_11_prove : dsc yX11_prove 1 := ⟨by decide +kernel, by decide +kernel, by decide +kernel⟩
theorem im_11_prove : Cond.instanceMethod yX11_prove ∈ BIG := big_of (tk4 _ (List.mem_of_getElem? (i := 27) (by decide +kernel))) (by decide +kernel)
theorem se_11_prove : Cond.selects (yX11_prove).cls yX11_prove yX11_prove ∈ BIG := big_of (tk4 _ (List.mem_of_getElem? (i := 28) (by decide +kernel))) (by decide +kernel)
theorem wi_11_prove : wI yX11_prove := ⟨im_11_prove, se_11_prove⟩
theorem co_11_row : Cond.code yX11_row cX11_row 3 (some .int) ∈ BIG := big_of (tk4 _ (List.mem_of_getElem? (i := 45) (by decide +kernel))) (by decide +kernel)
theorem wb_11_row : wB yX11_row cX11_row 3 (some .int) := ⟨in_11, co_11_row⟩
theorem ds_11_row : dsc yX11_row 2 := ⟨by decide +kernel, by decide +kernel, by decide +kernel⟩
theorem im_11_row : Cond.instanceMethod yX11_row ∈ BIG := big_of (tk4 _ (List.mem_of_getElem? (i := 43) (by decide +kernel))) (by decide +kernel)
theorem se_11_row : Cond.selects (yX11_row).cls yX11_row yX11_row ∈ BIG := big_of (tk4 _ (List.mem_of_getElem? (i := 44) (by decide +kernel))) (by decide +kernel)
theorem wi_11_row : wI yX11_row := ⟨im_11_row, se_11_row⟩
theorem ml_11_226 : Cond.methodLink RX11 226 yX8_change ∈ BIG := big_of (tk4 _ (List.mem_of_getElem? (i := 50) (by decide +kernel))) (by decide +kernel)
theorem co_11_alterRow : Cond.code yX11_alterRow cX11_alterRow 5 (some .int) ∈ BIG := big_of (tk4 _ (List.mem_of_getElem? (i := 49) (by decide +kernel))) (by decide +kernel)
theorem wb_11_alterRow : wB yX11_alterRow cX11_alterRow 5 (some .int) := ⟨in_11, co_11_alterRow⟩
theorem ds_11_alterRow : dsc yX11_alterRow 3 := ⟨by decide +kernel, by decide +kernel, by decide +kernel⟩
theorem im_11_alterRow : Cond.instanceMethod yX11_alterRow ∈ BIG := big_of (tk4 _ (List.mem_of_getElem? (i := 47) (by decide +kernel))) (by decide +kernel)
theorem se_11_alterRow : Cond.selects (yX11_alterRow).cls yX11_alterRow yX11_alterRow ∈ BIG := big_of (tk4 _ (List.mem_of_getElem? (i := 48) (by decide +kernel))) (by decide +kernel)
theorem wi_11_alterRow : wI yX11_alterRow := ⟨im_11_alterRow, se_11_alterRow⟩
theorem co_11_drop : Cond.code yX11_drop cX11_drop 1 (some .int) ∈ BIG := big_of (tk4 _ (List.mem_of_getElem? (i := 54) (by decide +kernel))) (by decide +kernel)
theorem wb_11_drop : wB yX11_drop cX11_drop 1 (some .int) := ⟨in_11, co_11_drop⟩
theorem ds_11_drop : dsc yX11_drop 0 := ⟨by decide +kernel, by decide +kernel, by decide +kernel⟩
theorem im_11_drop : Cond.instanceMethod yX11_drop ∈ BIG := big_of (tk4 _ (List.mem_of_getElem? (i := 52) (by decide +kernel))) (by decide +kernel)
theorem se_11_drop : Cond.selects (yX11_drop).cls yX11_drop yX11_drop ∈ BIG := big_of (tk4 _ (List.mem_of_getElem? (i := 53) (by decide +kernel))) (by decide +kernel)
theorem wi_11_drop : wI yX11_drop := ⟨im_11_drop, se_11_drop⟩
theorem co_5_judgeRows : Cond.code yX5_judgeRows cX5_judgeRows 8 (some .int) ∈ BIG := big_of (tk4 _ (List.mem_of_getElem? (i := 62) (by decide +kernel))) (by decide +kernel)
theorem wb_5_judgeRows : wB yX5_judgeRows cX5_judgeRows 8 (some .int) := ⟨in_5, co_5_judgeRows⟩
theorem ds_5_judgeRows : dsc yX5_judgeRows 2 := ⟨by decide +kernel, by decide +kernel, by decide +kernel⟩
theorem im_5_judgeRows : Cond.instanceMethod yX5_judgeRows ∈ BIG := big_of (tk4 _ (List.mem_of_getElem? (i := 60) (by decide +kernel))) (by decide +kernel)
theorem se_5_judgeRows : Cond.selects (yX5_judgeRows).cls yX5_judgeRows yX5_judgeRows ∈ BIG := big_of (tk4 _ (List.mem_of_getElem? (i := 61) (by decide +kernel))) (by decide +kernel)
theorem wi_5_judgeRows : wI yX5_judgeRows := ⟨im_5_judgeRows, se_5_judgeRows⟩
theorem ml_11_232 : Cond.methodLink RX11 232 yX5_judgeRows ∈ BIG := big_of (tk4 _ (List.mem_of_getElem? (i := 59) (by decide +kernel))) (by decide +kernel)
theorem co_5_arrivalByRows : Cond.code yX5_arrivalByRows cX5_arrivalByRows 8 (some .int) ∈ BIG := big_of (tk4 _ (List.mem_of_getElem? (i := 66) (by decide +kernel))) (by decide +kernel)
theorem wb_5_arrivalByRows : wB yX5_arrivalByRows cX5_arrivalByRows 8 (some .int) := ⟨in_5, co_5_arrivalByRows⟩
theorem ds_5_arrivalByRows : dsc yX5_arrivalByRows 3 := ⟨by decide +kernel, by decide +kernel, by decide +kernel⟩
theorem im_5_arrivalByRows : Cond.instanceMethod yX5_arrivalByRows ∈ BIG := big_of (tk4 _ (List.mem_of_getElem? (i := 65) (by decide +kernel))) (by decide +kernel)
theorem se_5_arrivalByRows : Cond.selects (yX5_arrivalByRows).cls yX5_arrivalByRows yX5_arrivalByRows ∈ BIG := big_of (pv2 (yX5_arrivalByRows, 9) (List.mem_of_getElem? (i := 5) (by decide +kernel))) (by decide +kernel)
theorem wi_5_arrivalByRows : wI yX5_arrivalByRows := ⟨im_5_arrivalByRows, se_5_arrivalByRows⟩
theorem ml_5_155 : Cond.methodLink RX5 155 yX5_arrivalByRows ∈ BIG := big_of (tk4 _ (List.mem_of_getElem? (i := 63) (by decide +kernel))) (by decide +kernel)
theorem ml_5_159 : Cond.methodLink RX5 159 yJ_max ∈ BIG := big_of (tk4 _ (List.mem_of_getElem? (i := 74) (by decide +kernel))) (by decide +kernel)
theorem ml_5_162 : Cond.methodLink RX5 162 yX8_has ∈ BIG := big_of (tk4 _ (List.mem_of_getElem? (i := 67) (by decide +kernel))) (by decide +kernel)
theorem co_5_inVanByRows : Cond.code yX5_inVanByRows cX5_inVanByRows 9 (some .int) ∈ BIG := big_of (tk4 _ (List.mem_of_getElem? (i := 71) (by decide +kernel))) (by decide +kernel)
theorem wb_5_inVanByRows : wB yX5_inVanByRows cX5_inVanByRows 9 (some .int) := ⟨in_5, co_5_inVanByRows⟩
theorem ds_5_inVanByRows : dsc yX5_inVanByRows 3 := ⟨by decide +kernel, by decide +kernel, by decide +kernel⟩
theorem im_5_inVanByRows : Cond.instanceMethod yX5_inVanByRows ∈ BIG := big_of (tk4 _ (List.mem_of_getElem? (i := 70) (by decide +kernel))) (by decide +kernel)
theorem se_5_inVanByRows : Cond.selects (yX5_inVanByRows).cls yX5_inVanByRows yX5_inVanByRows ∈ BIG := big_of (pv2 (yX5_inVanByRows, 9) (List.mem_of_getElem? (i := 6) (by decide +kernel))) (by decide +kernel)
theorem wi_5_inVanByRows : wI yX5_inVanByRows := ⟨im_5_inVanByRows, se_5_inVanByRows⟩
theorem ml_5_165 : Cond.methodLink RX5 165 yX5_inVanByRows ∈ BIG := big_of (tk4 _ (List.mem_of_getElem? (i := 68) (by decide +kernel))) (by decide +kernel)
theorem ml_5_168 : Cond.methodLink RX5 168 yX10_areFoes ∈ BIG := big_of (tk4 _ (List.mem_of_getElem? (i := 73) (by decide +kernel))) (by decide +kernel)
theorem mn_5_171 : (RX5, 171, yX11_withBit, "CourtVans") ∈ NSM := List.mem_of_getElem? (i := 9) (by decide +kernel)
theorem co_11_judge : Cond.code yX11_judge cX11_judge 2 (some .int) ∈ BIG := big_of (tk4 _ (List.mem_of_getElem? (i := 58) (by decide +kernel))) (by decide +kernel)
theorem wb_11_judge : wB yX11_judge cX11_judge 2 (some .int) := ⟨in_11, co_11_judge⟩
theorem ds_11_judge : dsc yX11_judge 1 := ⟨by decide +kernel, by decide +kernel, by decide +kernel⟩
theorem im_11_judge : Cond.instanceMethod yX11_judge ∈ BIG := big_of (tk4 _ (List.mem_of_getElem? (i := 56) (by decide +kernel))) (by decide +kernel)
theorem se_11_judge : Cond.selects (yX11_judge).cls yX11_judge yX11_judge ∈ BIG := big_of (tk4 _ (List.mem_of_getElem? (i := 57) (by decide +kernel))) (by decide +kernel)
theorem wi_11_judge : wI yX11_judge := ⟨im_11_judge, se_11_judge⟩
theorem ml_11_239 : Cond.methodLink RX11 239 yJ_bitCount ∈ BIG := big_of (tk4 _ (List.mem_of_getElem? (i := 79) (by decide +kernel))) (by decide +kernel)
theorem fl_11_49 : Cond.fieldLink RX11 49 (TX11 6).1 (TX11 6).2.1 (TX11 6).2.2.1 ∈ BIG := big_of (tk2 _ (List.mem_of_getElem? (i := 174) (by decide +kernel))) (by decide +kernel)
theorem in_1 : Cond.initialized RX1 ∈ BIG := big_of (tk1 _ (List.mem_of_getElem? (i := 9) (by decide +kernel))) (by decide +kernel)
theorem co_1_split : Cond.code yX1_split cX1_split 5 (some .int) ∈ BIG := big_of (tk4 _ (List.mem_of_getElem? (i := 83) (by decide +kernel))) (by decide +kernel)
theorem wb_1_split : wB yX1_split cX1_split 5 (some .int) := ⟨in_1, co_1_split⟩
theorem ds_1_split : dsc yX1_split 2 := ⟨by decide +kernel, by decide +kernel, by decide +kernel⟩
theorem im_1_split : Cond.instanceMethod yX1_split ∈ BIG := big_of (tk4 _ (List.mem_of_getElem? (i := 81) (by decide +kernel))) (by decide +kernel)
theorem se_1_split : Cond.selects (yX1_split).cls yX1_split yX1_split ∈ BIG := big_of (tk4 _ (List.mem_of_getElem? (i := 82) (by decide +kernel))) (by decide +kernel)
theorem wi_1_split : wI yX1_split := ⟨im_1_split, se_1_split⟩
theorem ml_11_244 : Cond.methodLink RX11 244 yX1_split ∈ BIG := big_of (tk4 _ (List.mem_of_getElem? (i := 80) (by decide +kernel))) (by decide +kernel)
theorem co_1_partWith : Cond.code yX1_partWith cX1_partWith 4 (some .int) ∈ BIG := big_of (tk4 _ (List.mem_of_getElem? (i := 96) (by decide +kernel))) (by decide +kernel)
theorem wb_1_partWith : wB yX1_partWith cX1_partWith 4 (some .int) := ⟨in_1, co_1_partWith⟩
theorem ds_1_partWith : dsc yX1_partWith 1 := ⟨by decide +kernel, by decide +kernel, by decide +kernel⟩
theorem im_1_partWith : Cond.instanceMethod yX1_partWith ∈ BIG := big_of (tk4 _ (List.mem_of_getElem? (i := 94) (by decide +kernel))) (by decide +kernel)
theorem se_1_partWith : Cond.selects (yX1_partWith).cls yX1_partWith yX1_partWith ∈ BIG := big_of (tk4 _ (List.mem_of_getElem? (i := 95) (by decide +kernel))) (by decide +kernel)
theorem wi_1_partWith : wI yX1_partWith := ⟨im_1_partWith, se_1_partWith⟩
theorem ml_11_247 : Cond.methodLink RX11 247 yX1_partWith ∈ BIG := big_of (tk4 _ (List.mem_of_getElem? (i := 93) (by decide +kernel))) (by decide +kernel)
theorem fl_1_12 : Cond.fieldLink RX1 12 (TX1 1).1 (TX1 1).2.1 (TX1 1).2.2.1 ∈ BIG := big_of (tk2 _ (List.mem_of_getElem? (i := 13) (by decide +kernel))) (by decide +kernel)
theorem fl_1_22 : Cond.fieldLink RX1 22 (TX1 0).1 (TX1 0).2.1 (TX1 0).2.2.1 ∈ BIG := big_of (tk2 _ (List.mem_of_getElem? (i := 12) (by decide +kernel))) (by decide +kernel)
theorem ml_1_30 : Cond.methodLink RX1 30 yX0_gather ∈ BIG := big_of (tk4 _ (List.mem_of_getElem? (i := 84) (by decide +kernel))) (by decide +kernel)
theorem fn_1_34 : (RX1, 34, (TX10 0).1, (TX10 0).2.1, (TX10 0).2.2.1, "CourtVans") ∈ NSF := List.mem_of_getElem? (i := 8) (by decide +kernel)
theorem ml_1_40 : Cond.methodLink RX1 40 yX8_cell ∈ BIG := big_of (tk4 _ (List.mem_of_getElem? (i := 85) (by decide +kernel))) (by decide +kernel)
theorem fl_1_26 : Cond.fieldLink RX1 26 (TX1 3).1 (TX1 3).2.1 (TX1 3).2.2.1 ∈ BIG := big_of (tk2 _ (List.mem_of_getElem? (i := 15) (by decide +kernel))) (by decide +kernel)
theorem ml_1_46 : Cond.methodLink RX1 46 yJ_min ∈ BIG := big_of (tk4 _ (List.mem_of_getElem? (i := 86) (by decide +kernel))) (by decide +kernel)
theorem fl_1_18 : Cond.fieldLink RX1 18 (TX1 2).1 (TX1 2).2.1 (TX1 2).2.2.1 ∈ BIG := big_of (tk2 _ (List.mem_of_getElem? (i := 14) (by decide +kernel))) (by decide +kernel)
theorem ml_1_51 : Cond.methodLink RX1 51 yJ_fill ∈ BIG := big_of (tk4 _ (List.mem_of_getElem? (i := 87) (by decide +kernel))) (by decide +kernel)
theorem co_1_fits : Cond.code yX1_fits cX1_fits 7 (some .boolean) ∈ BIG := big_of (tk4 _ (List.mem_of_getElem? (i := 90) (by decide +kernel))) (by decide +kernel)
theorem wb_1_fits : wB yX1_fits cX1_fits 7 (some .boolean) := ⟨in_1, co_1_fits⟩
theorem ds_1_fits : dsc yX1_fits 4 := ⟨by decide +kernel, by decide +kernel, by decide +kernel⟩
theorem st_1_fits : Cond.static yX1_fits ∈ BIG := big_of (tk4 _ (List.mem_of_getElem? (i := 89) (by decide +kernel))) (by decide +kernel)
theorem ml_1_57 : Cond.methodLink RX1 57 yX1_fits ∈ BIG := big_of (tk4 _ (List.mem_of_getElem? (i := 88) (by decide +kernel))) (by decide +kernel)
theorem fn_1_61 : (RX1, 61, (TX0 2).1, (TX0 2).2.1, (TX0 2).2.2.1, "CourtVans") ∈ NSF := List.mem_of_getElem? (i := 45) (by decide +kernel)
theorem ml_1_64 : Cond.methodLink RX1 64 yJ_bitCount ∈ BIG := big_of (tk4 _ (List.mem_of_getElem? (i := 91) (by decide +kernel))) (by decide +kernel)
theorem fn_1_70 : (RX1, 70, (TX0 1).1, (TX0 1).2.1, (TX0 1).2.2.1, "CourtVans") ∈ NSF := List.mem_of_getElem? (i := 44) (by decide +kernel)
theorem ml_1_73 : Cond.methodLink RX1 73 yJ_max ∈ BIG := big_of (tk4 _ (List.mem_of_getElem? (i := 92) (by decide +kernel))) (by decide +kernel)
theorem ml_1_76 : Cond.methodLink RX1 76 yX0_indexOf ∈ BIG := big_of (tk4 _ (List.mem_of_getElem? (i := 97) (by decide +kernel))) (by decide +kernel)
theorem mn_1_79 : (RX1, 79, yX11_bit, "CourtVans") ∈ NSM := List.mem_of_getElem? (i := 10) (by decide +kernel)
theorem co_11_held : Cond.code yX11_held cX11_held 5 (some .int) ∈ BIG := big_of (tk4 _ (List.mem_of_getElem? (i := 78) (by decide +kernel))) (by decide +kernel)
theorem wb_11_held : wB yX11_held cX11_held 5 (some .int) := ⟨in_11, co_11_held⟩
theorem ds_11_held : dsc yX11_held 3 := ⟨by decide +kernel, by decide +kernel, by decide +kernel⟩
theorem im_11_held : Cond.instanceMethod yX11_held ∈ BIG := big_of (tk4 _ (List.mem_of_getElem? (i := 76) (by decide +kernel))) (by decide +kernel)
theorem se_11_held : Cond.selects (yX11_held).cls yX11_held yX11_held ∈ BIG := big_of (tk4 _ (List.mem_of_getElem? (i := 77) (by decide +kernel))) (by decide +kernel)
theorem wi_11_held : wI yX11_held := ⟨im_11_held, se_11_held⟩
theorem fn_11_253 : (RX11, 253, (TX10 4).1, (TX10 4).2.1, (TX10 4).2.2.1, "CourtVans") ∈ NSF := List.mem_of_getElem? (i := 28) (by decide +kernel)
theorem co_11_enter : Cond.code yX11_enter cX11_enter 5 (some .int) ∈ BIG := big_of (tk4 _ (List.mem_of_getElem? (i := 102) (by decide +kernel))) (by decide +kernel)
theorem wb_11_enter : wB yX11_enter cX11_enter 5 (some .int) := ⟨in_11, co_11_enter⟩
theorem ds_11_enter : dsc yX11_enter 4 := ⟨by decide +kernel, by decide +kernel, by decide +kernel⟩
theorem im_11_enter : Cond.instanceMethod yX11_enter ∈ BIG := big_of (tk4 _ (List.mem_of_getElem? (i := 100) (by decide +kernel))) (by decide +kernel)
theorem se_11_enter : Cond.selects (yX11_enter).cls yX11_enter yX11_enter ∈ BIG := big_of (tk4 _ (List.mem_of_getElem? (i := 101) (by decide +kernel))) (by decide +kernel)
theorem wi_11_enter : wI yX11_enter := ⟨im_11_enter, se_11_enter⟩
theorem fl_11_56 : Cond.fieldLink RX11 56 (TX11 7).1 (TX11 7).2.1 (TX11 7).2.2.1 ∈ BIG := big_of (tk2 _ (List.mem_of_getElem? (i := 175) (by decide +kernel))) (by decide +kernel)
theorem in_2 : Cond.initialized RX2 ∈ BIG := big_of (tk1 _ (List.mem_of_getElem? (i := 10) (by decide +kernel))) (by decide +kernel)
theorem co_2_whereIs : Cond.code yX2_whereIs cX2_whereIs 5 (some .int) ∈ BIG := big_of (tk4 _ (List.mem_of_getElem? (i := 110) (by decide +kernel))) (by decide +kernel)
theorem wb_2_whereIs : wB yX2_whereIs cX2_whereIs 5 (some .int) := ⟨in_2, co_2_whereIs⟩
theorem ds_2_whereIs : dsc yX2_whereIs 3 := ⟨by decide +kernel, by decide +kernel, by decide +kernel⟩
theorem im_2_whereIs : Cond.instanceMethod yX2_whereIs ∈ BIG := big_of (tk4 _ (List.mem_of_getElem? (i := 108) (by decide +kernel))) (by decide +kernel)
theorem se_2_whereIs : Cond.selects (yX2_whereIs).cls yX2_whereIs yX2_whereIs ∈ BIG := big_of (tk4 _ (List.mem_of_getElem? (i := 109) (by decide +kernel))) (by decide +kernel)
theorem wi_2_whereIs : wI yX2_whereIs := ⟨im_2_whereIs, se_2_whereIs⟩
theorem ml_11_256 : Cond.methodLink RX11 256 yX2_whereIs ∈ BIG := big_of (tk4 _ (List.mem_of_getElem? (i := 107) (by decide +kernel))) (by decide +kernel)
theorem co_2_latest : Cond.code yX2_latest cX2_latest 8 (some .int) ∈ BIG := big_of (tk4 _ (List.mem_of_getElem? (i := 114) (by decide +kernel))) (by decide +kernel)
theorem wb_2_latest : wB yX2_latest cX2_latest 8 (some .int) := ⟨in_2, co_2_latest⟩
theorem ds_2_latest : dsc yX2_latest 3 := ⟨by decide +kernel, by decide +kernel, by decide +kernel⟩
theorem im_2_latest : Cond.instanceMethod yX2_latest ∈ BIG := big_of (tk4 _ (List.mem_of_getElem? (i := 113) (by decide +kernel))) (by decide +kernel)
theorem se_2_latest : Cond.selects (yX2_latest).cls yX2_latest yX2_latest ∈ BIG := big_of (pv2 (yX2_latest, 2) (List.mem_of_getElem? (i := 7) (by decide +kernel))) (by decide +kernel)
theorem wi_2_latest : wI yX2_latest := ⟨im_2_latest, se_2_latest⟩
theorem ml_2_39 : Cond.methodLink RX2 39 yX2_latest ∈ BIG := big_of (tk4 _ (List.mem_of_getElem? (i := 111) (by decide +kernel))) (by decide +kernel)
theorem fl_2_15 : Cond.fieldLink RX2 15 (TX2 0).1 (TX2 0).2.1 (TX2 0).2.2.1 ∈ BIG := big_of (tk2 _ (List.mem_of_getElem? (i := 31) (by decide +kernel))) (by decide +kernel)
theorem fn_2_43 : (RX2, 43, (TX10 1).1, (TX10 1).2.1, (TX10 1).2.2.1, "CourtVans") ∈ NSF := List.mem_of_getElem? (i := 16) (by decide +kernel)
theorem ml_2_31 : Cond.methodLink RX2 31 yX8_cell ∈ BIG := big_of (tk4 _ (List.mem_of_getElem? (i := 115) (by decide +kernel))) (by decide +kernel)
theorem fn_2_19 : (RX2, 19, (TX10 4).1, (TX10 4).2.1, (TX10 4).2.2.1, "CourtVans") ∈ NSF := List.mem_of_getElem? (i := 27) (by decide +kernel)
theorem fn_2_25 : (RX2, 25, (TX8 3).1, (TX8 3).2.1, (TX8 3).2.2.1, "CourtVans") ∈ NSF := List.mem_of_getElem? (i := 1) (by decide +kernel)
theorem co_2_isOf : Cond.code yX2_isOf cX2_isOf 4 (some .boolean) ∈ BIG := big_of (tk4 _ (List.mem_of_getElem? (i := 119) (by decide +kernel))) (by decide +kernel)
theorem wb_2_isOf : wB yX2_isOf cX2_isOf 4 (some .boolean) := ⟨in_2, co_2_isOf⟩
theorem ds_2_isOf : dsc yX2_isOf 3 := ⟨by decide +kernel, by decide +kernel, by decide +kernel⟩
theorem im_2_isOf : Cond.instanceMethod yX2_isOf ∈ BIG := big_of (tk4 _ (List.mem_of_getElem? (i := 118) (by decide +kernel))) (by decide +kernel)
theorem se_2_isOf : Cond.selects (yX2_isOf).cls yX2_isOf yX2_isOf ∈ BIG := big_of (pv2 (yX2_isOf, 2) (List.mem_of_getElem? (i := 8) (by decide +kernel))) (by decide +kernel)
theorem wi_2_isOf : wI yX2_isOf := ⟨im_2_isOf, se_2_isOf⟩
theorem ml_2_35 : Cond.methodLink RX2 35 yX2_isOf ∈ BIG := big_of (tk4 _ (List.mem_of_getElem? (i := 116) (by decide +kernel))) (by decide +kernel)
theorem co_11_at : Cond.code yX11_at cX11_at 4 (some .int) ∈ BIG := big_of (tk4 _ (List.mem_of_getElem? (i := 106) (by decide +kernel))) (by decide +kernel)
theorem wb_11_at : wB yX11_at cX11_at 4 (some .int) := ⟨in_11, co_11_at⟩
theorem ds_11_at : dsc yX11_at 3 := ⟨by decide +kernel, by decide +kernel, by decide +kernel⟩
theorem im_11_at : Cond.instanceMethod yX11_at ∈ BIG := big_of (tk4 _ (List.mem_of_getElem? (i := 104) (by decide +kernel))) (by decide +kernel)
theorem se_11_at : Cond.selects (yX11_at).cls yX11_at yX11_at ∈ BIG := big_of (tk4 _ (List.mem_of_getElem? (i := 105) (by decide +kernel))) (by decide +kernel)
theorem wi_11_at : wI yX11_at := ⟨im_11_at, se_11_at⟩
theorem co_2_isSure : Cond.code yX2_isSure cX2_isSure 5 (some .boolean) ∈ BIG := big_of (tk4 _ (List.mem_of_getElem? (i := 127) (by decide +kernel))) (by decide +kernel)
theorem wb_2_isSure : wB yX2_isSure cX2_isSure 5 (some .boolean) := ⟨in_2, co_2_isSure⟩
theorem ds_2_isSure : dsc yX2_isSure 3 := ⟨by decide +kernel, by decide +kernel, by decide +kernel⟩
theorem im_2_isSure : Cond.instanceMethod yX2_isSure ∈ BIG := big_of (tk4 _ (List.mem_of_getElem? (i := 125) (by decide +kernel))) (by decide +kernel)
theorem se_2_isSure : Cond.selects (yX2_isSure).cls yX2_isSure yX2_isSure ∈ BIG := big_of (tk4 _ (List.mem_of_getElem? (i := 126) (by decide +kernel))) (by decide +kernel)
theorem wi_2_isSure : wI yX2_isSure := ⟨im_2_isSure, se_2_isSure⟩
theorem ml_11_259 : Cond.methodLink RX11 259 yX2_isSure ∈ BIG := big_of (tk4 _ (List.mem_of_getElem? (i := 124) (by decide +kernel))) (by decide +kernel)
theorem co_11_counted : Cond.code yX11_counted cX11_counted 7 (some .int) ∈ BIG := big_of (tk4 _ (List.mem_of_getElem? (i := 123) (by decide +kernel))) (by decide +kernel)
theorem wb_11_counted : wB yX11_counted cX11_counted 7 (some .int) := ⟨in_11, co_11_counted⟩
theorem ds_11_counted : dsc yX11_counted 4 := ⟨by decide +kernel, by decide +kernel, by decide +kernel⟩
theorem im_11_counted : Cond.instanceMethod yX11_counted ∈ BIG := big_of (tk4 _ (List.mem_of_getElem? (i := 121) (by decide +kernel))) (by decide +kernel)
theorem se_11_counted : Cond.selects (yX11_counted).cls yX11_counted yX11_counted ∈ BIG := big_of (tk4 _ (List.mem_of_getElem? (i := 122) (by decide +kernel))) (by decide +kernel)
theorem wi_11_counted : wI yX11_counted := ⟨im_11_counted, se_11_counted⟩
theorem co_2_firstAtCourt : Cond.code yX2_firstAtCourt cX2_firstAtCourt 8 (some .int) ∈ BIG := big_of (tk4 _ (List.mem_of_getElem? (i := 135) (by decide +kernel))) (by decide +kernel)
theorem wb_2_firstAtCourt : wB yX2_firstAtCourt cX2_firstAtCourt 8 (some .int) := ⟨in_2, co_2_firstAtCourt⟩
theorem ds_2_firstAtCourt : dsc yX2_firstAtCourt 2 := ⟨by decide +kernel, by decide +kernel, by decide +kernel⟩
theorem im_2_firstAtCourt : Cond.instanceMethod yX2_firstAtCourt ∈ BIG := big_of (tk4 _ (List.mem_of_getElem? (i := 133) (by decide +kernel))) (by decide +kernel)
theorem se_2_firstAtCourt : Cond.selects (yX2_firstAtCourt).cls yX2_firstAtCourt yX2_firstAtCourt ∈ BIG := big_of (tk4 _ (List.mem_of_getElem? (i := 134) (by decide +kernel))) (by decide +kernel)
theorem wi_2_firstAtCourt : wI yX2_firstAtCourt := ⟨im_2_firstAtCourt, se_2_firstAtCourt⟩
theorem ml_11_262 : Cond.methodLink RX11 262 yX2_firstAtCourt ∈ BIG := big_of (tk4 _ (List.mem_of_getElem? (i := 132) (by decide +kernel))) (by decide +kernel)
theorem co_11_came : Cond.code yX11_came cX11_came 3 (some .int) ∈ BIG := big_of (tk4 _ (List.mem_of_getElem? (i := 131) (by decide +kernel))) (by decide +kernel)
theorem wb_11_came : wB yX11_came cX11_came 3 (some .int) := ⟨in_11, co_11_came⟩
theorem ds_11_came : dsc yX11_came 2 := ⟨by decide +kernel, by decide +kernel, by decide +kernel⟩
theorem im_11_came : Cond.instanceMethod yX11_came ∈ BIG := big_of (tk4 _ (List.mem_of_getElem? (i := 129) (by decide +kernel))) (by decide +kernel)
theorem se_11_came : Cond.selects (yX11_came).cls yX11_came yX11_came ∈ BIG := big_of (tk4 _ (List.mem_of_getElem? (i := 130) (by decide +kernel))) (by decide +kernel)
theorem wi_11_came : wI yX11_came := ⟨im_11_came, se_11_came⟩
theorem co_2_hearing : Cond.code yX2_hearing cX2_hearing 8 (some .int) ∈ BIG := big_of (tk4 _ (List.mem_of_getElem? (i := 143) (by decide +kernel))) (by decide +kernel)
theorem wb_2_hearing : wB yX2_hearing cX2_hearing 8 (some .int) := ⟨in_2, co_2_hearing⟩
theorem ds_2_hearing : dsc yX2_hearing 2 := ⟨by decide +kernel, by decide +kernel, by decide +kernel⟩
theorem im_2_hearing : Cond.instanceMethod yX2_hearing ∈ BIG := big_of (tk4 _ (List.mem_of_getElem? (i := 141) (by decide +kernel))) (by decide +kernel)
theorem se_2_hearing : Cond.selects (yX2_hearing).cls yX2_hearing yX2_hearing ∈ BIG := big_of (tk4 _ (List.mem_of_getElem? (i := 142) (by decide +kernel))) (by decide +kernel)
theorem wi_2_hearing : wI yX2_hearing := ⟨im_2_hearing, se_2_hearing⟩
theorem ml_11_265 : Cond.methodLink RX11 265 yX2_hearing ∈ BIG := big_of (tk4 _ (List.mem_of_getElem? (i := 140) (by decide +kernel))) (by decide +kernel)
theorem fl_2_9 : Cond.fieldLink RX2 9 (TX2 1).1 (TX2 1).2.1 (TX2 1).2.2.1 ∈ BIG := big_of (tk2 _ (List.mem_of_getElem? (i := 32) (by decide +kernel))) (by decide +kernel)
theorem ml_2_46 : Cond.methodLink RX2 46 yX2_firstAtCourt ∈ BIG := big_of (tk4 _ (List.mem_of_getElem? (i := 144) (by decide +kernel))) (by decide +kernel)
theorem fn_2_49 : (RX2, 49, (TX10 0).1, (TX10 0).2.1, (TX10 0).2.2.1, "CourtVans") ∈ NSF := List.mem_of_getElem? (i := 12) (by decide +kernel)
theorem ml_2_52 : Cond.methodLink RX2 52 yJ_max ∈ BIG := big_of (tk4 _ (List.mem_of_getElem? (i := 145) (by decide +kernel))) (by decide +kernel)
theorem co_2_nextHeard : Cond.code yX2_nextHeard cX2_nextHeard 5 (some .int) ∈ BIG := big_of (tk4 _ (List.mem_of_getElem? (i := 149) (by decide +kernel))) (by decide +kernel)
theorem wb_2_nextHeard : wB yX2_nextHeard cX2_nextHeard 5 (some .int) := ⟨in_2, co_2_nextHeard⟩
theorem ds_2_nextHeard : dsc yX2_nextHeard 1 := ⟨by decide +kernel, by decide +kernel, by decide +kernel⟩
theorem im_2_nextHeard : Cond.instanceMethod yX2_nextHeard ∈ BIG := big_of (tk4 _ (List.mem_of_getElem? (i := 148) (by decide +kernel))) (by decide +kernel)
theorem se_2_nextHeard : Cond.selects (yX2_nextHeard).cls yX2_nextHeard yX2_nextHeard ∈ BIG := big_of (pv2 (yX2_nextHeard, 2) (List.mem_of_getElem? (i := 9) (by decide +kernel))) (by decide +kernel)
theorem wi_2_nextHeard : wI yX2_nextHeard := ⟨im_2_nextHeard, se_2_nextHeard⟩
theorem ml_2_57 : Cond.methodLink RX2 57 yX2_nextHeard ∈ BIG := big_of (tk4 _ (List.mem_of_getElem? (i := 146) (by decide +kernel))) (by decide +kernel)
theorem co_2_leastWait : Cond.code yX2_leastWait cX2_leastWait 3 (some .int) ∈ BIG := big_of (tk4 _ (List.mem_of_getElem? (i := 153) (by decide +kernel))) (by decide +kernel)
theorem wb_2_leastWait : wB yX2_leastWait cX2_leastWait 3 (some .int) := ⟨in_2, co_2_leastWait⟩
theorem ds_2_leastWait : dsc yX2_leastWait 0 := ⟨by decide +kernel, by decide +kernel, by decide +kernel⟩
theorem im_2_leastWait : Cond.instanceMethod yX2_leastWait ∈ BIG := big_of (tk4 _ (List.mem_of_getElem? (i := 152) (by decide +kernel))) (by decide +kernel)
theorem se_2_leastWait : Cond.selects (yX2_leastWait).cls yX2_leastWait yX2_leastWait ∈ BIG := big_of (pv2 (yX2_leastWait, 2) (List.mem_of_getElem? (i := 10) (by decide +kernel))) (by decide +kernel)
theorem wi_2_leastWait : wI yX2_leastWait := ⟨im_2_leastWait, se_2_leastWait⟩
theorem ml_2_61 : Cond.methodLink RX2 61 yX2_leastWait ∈ BIG := big_of (tk4 _ (List.mem_of_getElem? (i := 150) (by decide +kernel))) (by decide +kernel)
theorem co_11_heard : Cond.code yX11_heard cX11_heard 3 (some .int) ∈ BIG := big_of (tk4 _ (List.mem_of_getElem? (i := 139) (by decide +kernel))) (by decide +kernel)
theorem wb_11_heard : wB yX11_heard cX11_heard 3 (some .int) := ⟨in_11, co_11_heard⟩
theorem ds_11_heard : dsc yX11_heard 2 := ⟨by decide +kernel, by decide +kernel, by decide +kernel⟩
theorem im_11_heard : Cond.instanceMethod yX11_heard ∈ BIG := big_of (tk4 _ (List.mem_of_getElem? (i := 137) (by decide +kernel))) (by decide +kernel)
theorem se_11_heard : Cond.selects (yX11_heard).cls yX11_heard yX11_heard ∈ BIG := big_of (tk4 _ (List.mem_of_getElem? (i := 138) (by decide +kernel))) (by decide +kernel)
theorem wi_11_heard : wI yX11_heard := ⟨im_11_heard, se_11_heard⟩
theorem fl_11_63 : Cond.fieldLink RX11 63 (TX11 8).1 (TX11 8).2.1 (TX11 8).2.2.1 ∈ BIG := big_of (tk2 _ (List.mem_of_getElem? (i := 176) (by decide +kernel))) (by decide +kernel)
theorem in_7 : Cond.initialized RX7 ∈ BIG := big_of (tk1 _ (List.mem_of_getElem? (i := 11) (by decide +kernel))) (by decide +kernel)
theorem co_7_take : Cond.code yX7_take cX7_take 5 (some .int) ∈ BIG := big_of (tk4 _ (List.mem_of_getElem? (i := 161) (by decide +kernel))) (by decide +kernel)
theorem wb_7_take : wB yX7_take cX7_take 5 (some .int) := ⟨in_7, co_7_take⟩
theorem ds_7_take : dsc yX7_take 2 := ⟨by decide +kernel, by decide +kernel, by decide +kernel⟩
theorem im_7_take : Cond.instanceMethod yX7_take ∈ BIG := big_of (tk4 _ (List.mem_of_getElem? (i := 159) (by decide +kernel))) (by decide +kernel)
theorem se_7_take : Cond.selects (yX7_take).cls yX7_take yX7_take ∈ BIG := big_of (tk4 _ (List.mem_of_getElem? (i := 160) (by decide +kernel))) (by decide +kernel)
theorem wi_7_take : wI yX7_take := ⟨im_7_take, se_7_take⟩
theorem ml_11_268 : Cond.methodLink RX11 268 yX7_take ∈ BIG := big_of (tk4 _ (List.mem_of_getElem? (i := 158) (by decide +kernel))) (by decide +kernel)
theorem fl_7_30 : Cond.fieldLink RX7 30 (TX7 1).1 (TX7 1).2.1 (TX7 1).2.2.1 ∈ BIG := big_of (tk2 _ (List.mem_of_getElem? (i := 47) (by decide +kernel))) (by decide +kernel)
theorem fl_7_11 : Cond.fieldLink RX7 11 (TX7 0).1 (TX7 0).2.1 (TX7 0).2.2.1 ∈ BIG := big_of (tk2 _ (List.mem_of_getElem? (i := 46) (by decide +kernel))) (by decide +kernel)
theorem co_11_feed : Cond.code yX11_feed cX11_feed 4 (some .int) ∈ BIG := big_of (tk4 _ (List.mem_of_getElem? (i := 157) (by decide +kernel))) (by decide +kernel)
theorem wb_11_feed : wB yX11_feed cX11_feed 4 (some .int) := ⟨in_11, co_11_feed⟩
theorem ds_11_feed : dsc yX11_feed 2 := ⟨by decide +kernel, by decide +kernel, by decide +kernel⟩
theorem im_11_feed : Cond.instanceMethod yX11_feed ∈ BIG := big_of (tk4 _ (List.mem_of_getElem? (i := 155) (by decide +kernel))) (by decide +kernel)
theorem se_11_feed : Cond.selects (yX11_feed).cls yX11_feed yX11_feed ∈ BIG := big_of (tk4 _ (List.mem_of_getElem? (i := 156) (by decide +kernel))) (by decide +kernel)
theorem wi_11_feed : wI yX11_feed := ⟨im_11_feed, se_11_feed⟩
theorem co_7_parse : Cond.code yX7_parse cX7_parse 3 (some .int) ∈ BIG := big_of (tk4 _ (List.mem_of_getElem? (i := 169) (by decide +kernel))) (by decide +kernel)
theorem wb_7_parse : wB yX7_parse cX7_parse 3 (some .int) := ⟨in_7, co_7_parse⟩
theorem ds_7_parse : dsc yX7_parse 0 := ⟨by decide +kernel, by decide +kernel, by decide +kernel⟩
theorem im_7_parse : Cond.instanceMethod yX7_parse ∈ BIG := big_of (tk4 _ (List.mem_of_getElem? (i := 167) (by decide +kernel))) (by decide +kernel)
theorem se_7_parse : Cond.selects (yX7_parse).cls yX7_parse yX7_parse ∈ BIG := big_of (tk4 _ (List.mem_of_getElem? (i := 168) (by decide +kernel))) (by decide +kernel)
theorem wi_7_parse : wI yX7_parse := ⟨im_7_parse, se_7_parse⟩
theorem ml_11_272 : Cond.methodLink RX11 272 yX7_parse ∈ BIG := big_of (tk4 _ (List.mem_of_getElem? (i := 166) (by decide +kernel))) (by decide +kernel)
theorem fn_11_275 : (RX11, 275, (TX10 6).1, (TX10 6).2.1, (TX10 6).2.2.1, "CourtVans") ∈ NSF := List.mem_of_getElem? (i := 32) (by decide +kernel)
theorem fn_11_278 : (RX11, 278, (TX7 6).1, (TX7 6).2.1, (TX7 6).2.2.1, "CourtVans") ∈ NSF := List.mem_of_getElem? (i := 48) (by decide +kernel)
theorem co_8_become : Cond.code yX8_become cX8_become 2 none ∈ BIG := big_of (tk5 _ (List.mem_of_getElem? (i := 58) (by decide +kernel))) (by decide +kernel)
theorem wb_8_become : wB yX8_become cX8_become 2 none := ⟨in_8, co_8_become⟩
theorem ds_8_become : dsc yX8_become 1 := ⟨by decide +kernel, by decide +kernel, by decide +kernel⟩
theorem im_8_become : Cond.instanceMethod yX8_become ∈ BIG := big_of (tk5 _ (List.mem_of_getElem? (i := 56) (by decide +kernel))) (by decide +kernel)
theorem se_8_become : Cond.selects (yX8_become).cls yX8_become yX8_become ∈ BIG := big_of (tk5 _ (List.mem_of_getElem? (i := 57) (by decide +kernel))) (by decide +kernel)
theorem wi_8_become : wI yX8_become := ⟨im_8_become, se_8_become⟩
theorem ml_11_279 : Cond.methodLink RX11 279 yX8_become ∈ BIG := big_of (tk5 _ (List.mem_of_getElem? (i := 55) (by decide +kernel))) (by decide +kernel)
theorem co_7_split : Cond.code yX7_split cX7_split 4 none ∈ BIG := big_of (tk4 _ (List.mem_of_getElem? (i := 173) (by decide +kernel))) (by decide +kernel)
theorem wb_7_split : wB yX7_split cX7_split 4 none := ⟨in_7, co_7_split⟩
theorem ds_7_split : dsc yX7_split 0 := ⟨by decide +kernel, by decide +kernel, by decide +kernel⟩
theorem im_7_split : Cond.instanceMethod yX7_split ∈ BIG := big_of (tk4 _ (List.mem_of_getElem? (i := 172) (by decide +kernel))) (by decide +kernel)
theorem se_7_split : Cond.selects (yX7_split).cls yX7_split yX7_split ∈ BIG := big_of (pv2 (yX7_split, 7) (List.mem_of_getElem? (i := 11) (by decide +kernel))) (by decide +kernel)
theorem wi_7_split : wI yX7_split := ⟨im_7_split, se_7_split⟩
theorem ml_7_40 : Cond.methodLink RX7 40 yX7_split ∈ BIG := big_of (tk4 _ (List.mem_of_getElem? (i := 170) (by decide +kernel))) (by decide +kernel)
theorem fl_7_26 : Cond.fieldLink RX7 26 (TX7 6).1 (TX7 6).2.1 (TX7 6).2.2.1 ∈ BIG := big_of (tk2 _ (List.mem_of_getElem? (i := 53) (by decide +kernel))) (by decide +kernel)
theorem fn_7_43 : (RX7, 43, (TX8 3).1, (TX8 3).2.1, (TX8 3).2.2.1, "CourtVans") ∈ NSF := List.mem_of_getElem? (i := 3) (by decide +kernel)
theorem fl_7_37 : Cond.fieldLink RX7 37 (TX7 5).1 (TX7 5).2.1 (TX7 5).2.2.1 ∈ BIG := big_of (tk2 _ (List.mem_of_getElem? (i := 52) (by decide +kernel))) (by decide +kernel)
theorem co_7_token : Cond.code yX7_token cX7_token 1 (some .int) ∈ BIG := big_of (tk5 _ (List.mem_of_getElem? (i := 29) (by decide +kernel))) (by decide +kernel)
theorem wb_7_token : wB yX7_token cX7_token 1 (some .int) := ⟨in_7, co_7_token⟩
theorem ds_7_token : dsc yX7_token 0 := ⟨by decide +kernel, by decide +kernel, by decide +kernel⟩
theorem im_7_token : Cond.instanceMethod yX7_token ∈ BIG := big_of (tk5 _ (List.mem_of_getElem? (i := 28) (by decide +kernel))) (by decide +kernel)
theorem se_7_token : Cond.selects (yX7_token).cls yX7_token yX7_token ∈ BIG := big_of (pv3 (yX7_token, 7) (List.mem_of_getElem? (i := 3) (by decide +kernel))) (by decide +kernel)
theorem wi_7_token : wI yX7_token := ⟨im_7_token, se_7_token⟩
theorem ml_7_44 : Cond.methodLink RX7 44 yX7_token ∈ BIG := big_of (tk5 _ (List.mem_of_getElem? (i := 26) (by decide +kernel))) (by decide +kernel)
theorem co_7_readLine : Cond.code yX7_readLine cX7_readLine 3 (some .boolean) ∈ BIG := big_of (tk5 _ (List.mem_of_getElem? (i := 33) (by decide +kernel))) (by decide +kernel)
theorem wb_7_readLine : wB yX7_readLine cX7_readLine 3 (some .boolean) := ⟨in_7, co_7_readLine⟩
theorem ds_7_readLine : dsc yX7_readLine 0 := ⟨by decide +kernel, by decide +kernel, by decide +kernel⟩
theorem im_7_readLine : Cond.instanceMethod yX7_readLine ∈ BIG := big_of (tk5 _ (List.mem_of_getElem? (i := 32) (by decide +kernel))) (by decide +kernel)
theorem se_7_readLine : Cond.selects (yX7_readLine).cls yX7_readLine yX7_readLine ∈ BIG := big_of (pv3 (yX7_readLine, 7) (List.mem_of_getElem? (i := 4) (by decide +kernel))) (by decide +kernel)
theorem wi_7_readLine : wI yX7_readLine := ⟨im_7_readLine, se_7_readLine⟩
theorem ml_7_48 : Cond.methodLink RX7 48 yX7_readLine ∈ BIG := big_of (tk5 _ (List.mem_of_getElem? (i := 30) (by decide +kernel))) (by decide +kernel)
theorem co_7_start : Cond.code yX7_start cX7_start 1 (some .int) ∈ BIG := big_of (tk5 _ (List.mem_of_getElem? (i := 54) (by decide +kernel))) (by decide +kernel)
theorem wb_7_start : wB yX7_start cX7_start 1 (some .int) := ⟨in_7, co_7_start⟩
theorem ds_7_start : dsc yX7_start 0 := ⟨by decide +kernel, by decide +kernel, by decide +kernel⟩
theorem im_7_start : Cond.instanceMethod yX7_start ∈ BIG := big_of (tk5 _ (List.mem_of_getElem? (i := 53) (by decide +kernel))) (by decide +kernel)
theorem se_7_start : Cond.selects (yX7_start).cls yX7_start yX7_start ∈ BIG := big_of (pv3 (yX7_start, 7) (List.mem_of_getElem? (i := 9) (by decide +kernel))) (by decide +kernel)
theorem wi_7_start : wI yX7_start := ⟨im_7_start, se_7_start⟩
theorem ml_7_52 : Cond.methodLink RX7 52 yX7_start ∈ BIG := big_of (tk5 _ (List.mem_of_getElem? (i := 51) (by decide +kernel))) (by decide +kernel)
theorem co_7_endOf : Cond.code yX7_endOf cX7_endOf 4 (some .int) ∈ BIG := big_of (tk4 _ (List.mem_of_getElem? (i := 177) (by decide +kernel))) (by decide +kernel)
theorem wb_7_endOf : wB yX7_endOf cX7_endOf 4 (some .int) := ⟨in_7, co_7_endOf⟩
theorem ds_7_endOf : dsc yX7_endOf 1 := ⟨by decide +kernel, by decide +kernel, by decide +kernel⟩
theorem im_7_endOf : Cond.instanceMethod yX7_endOf ∈ BIG := big_of (tk4 _ (List.mem_of_getElem? (i := 176) (by decide +kernel))) (by decide +kernel)
theorem se_7_endOf : Cond.selects (yX7_endOf).cls yX7_endOf yX7_endOf ∈ BIG := big_of (pv2 (yX7_endOf, 7) (List.mem_of_getElem? (i := 12) (by decide +kernel))) (by decide +kernel)
theorem wi_7_endOf : wI yX7_endOf := ⟨im_7_endOf, se_7_endOf⟩
theorem ml_7_55 : Cond.methodLink RX7 55 yX7_endOf ∈ BIG := big_of (tk4 _ (List.mem_of_getElem? (i := 174) (by decide +kernel))) (by decide +kernel)
theorem co_7_tokenOf : Cond.code yX7_tokenOf cX7_tokenOf 3 (some .int) ∈ BIG := big_of (tk4 _ (List.mem_of_getElem? (i := 185) (by decide +kernel))) (by decide +kernel)
theorem wb_7_tokenOf : wB yX7_tokenOf cX7_tokenOf 3 (some .int) := ⟨in_7, co_7_tokenOf⟩
theorem ds_7_tokenOf : dsc yX7_tokenOf 2 := ⟨by decide +kernel, by decide +kernel, by decide +kernel⟩
theorem im_7_tokenOf : Cond.instanceMethod yX7_tokenOf ∈ BIG := big_of (tk4 _ (List.mem_of_getElem? (i := 184) (by decide +kernel))) (by decide +kernel)
theorem se_7_tokenOf : Cond.selects (yX7_tokenOf).cls yX7_tokenOf yX7_tokenOf ∈ BIG := big_of (pv2 (yX7_tokenOf, 7) (List.mem_of_getElem? (i := 14) (by decide +kernel))) (by decide +kernel)
theorem wi_7_tokenOf : wI yX7_tokenOf := ⟨im_7_tokenOf, se_7_tokenOf⟩
theorem ml_7_59 : Cond.methodLink RX7 59 yX7_tokenOf ∈ BIG := big_of (tk4 _ (List.mem_of_getElem? (i := 182) (by decide +kernel))) (by decide +kernel)
theorem co_7_addToken : Cond.code yX7_addToken cX7_addToken 3 none ∈ BIG := big_of (tk5 _ (List.mem_of_getElem? (i := 25) (by decide +kernel))) (by decide +kernel)
theorem wb_7_addToken : wB yX7_addToken cX7_addToken 3 none := ⟨in_7, co_7_addToken⟩
theorem ds_7_addToken : dsc yX7_addToken 2 := ⟨by decide +kernel, by decide +kernel, by decide +kernel⟩
theorem im_7_addToken : Cond.instanceMethod yX7_addToken ∈ BIG := big_of (tk5 _ (List.mem_of_getElem? (i := 24) (by decide +kernel))) (by decide +kernel)
theorem se_7_addToken : Cond.selects (yX7_addToken).cls yX7_addToken yX7_addToken ∈ BIG := big_of (pv3 (yX7_addToken, 7) (List.mem_of_getElem? (i := 2) (by decide +kernel))) (by decide +kernel)
theorem wi_7_addToken : wI yX7_addToken := ⟨im_7_addToken, se_7_addToken⟩
theorem ml_7_63 : Cond.methodLink RX7 63 yX7_addToken ∈ BIG := big_of (tk5 _ (List.mem_of_getElem? (i := 22) (by decide +kernel))) (by decide +kernel)
theorem fl_7_34 : Cond.fieldLink RX7 34 (TX7 4).1 (TX7 4).2.1 (TX7 4).2.2.1 ∈ BIG := big_of (tk2 _ (List.mem_of_getElem? (i := 51) (by decide +kernel))) (by decide +kernel)
theorem co_7_sortOf : Cond.code yX7_sortOf cX7_sortOf 3 (some .int) ∈ BIG := big_of (tk4 _ (List.mem_of_getElem? (i := 181) (by decide +kernel))) (by decide +kernel)
theorem wb_7_sortOf : wB yX7_sortOf cX7_sortOf 3 (some .int) := ⟨in_7, co_7_sortOf⟩
theorem ds_7_sortOf : dsc yX7_sortOf 1 := ⟨by decide +kernel, by decide +kernel, by decide +kernel⟩
theorem im_7_sortOf : Cond.instanceMethod yX7_sortOf ∈ BIG := big_of (tk4 _ (List.mem_of_getElem? (i := 180) (by decide +kernel))) (by decide +kernel)
theorem se_7_sortOf : Cond.selects (yX7_sortOf).cls yX7_sortOf yX7_sortOf ∈ BIG := big_of (pv2 (yX7_sortOf, 7) (List.mem_of_getElem? (i := 13) (by decide +kernel))) (by decide +kernel)
theorem wi_7_sortOf : wI yX7_sortOf := ⟨im_7_sortOf, se_7_sortOf⟩
theorem ml_7_66 : Cond.methodLink RX7 66 yX7_sortOf ∈ BIG := big_of (tk4 _ (List.mem_of_getElem? (i := 178) (by decide +kernel))) (by decide +kernel)
theorem co_7_numberOf : Cond.code yX7_numberOf cX7_numberOf 5 (some .int) ∈ BIG := big_of (tk4 _ (List.mem_of_getElem? (i := 189) (by decide +kernel))) (by decide +kernel)
theorem wb_7_numberOf : wB yX7_numberOf cX7_numberOf 5 (some .int) := ⟨in_7, co_7_numberOf⟩
theorem ds_7_numberOf : dsc yX7_numberOf 2 := ⟨by decide +kernel, by decide +kernel, by decide +kernel⟩
theorem im_7_numberOf : Cond.instanceMethod yX7_numberOf ∈ BIG := big_of (tk4 _ (List.mem_of_getElem? (i := 188) (by decide +kernel))) (by decide +kernel)
theorem se_7_numberOf : Cond.selects (yX7_numberOf).cls yX7_numberOf yX7_numberOf ∈ BIG := big_of (pv2 (yX7_numberOf, 7) (List.mem_of_getElem? (i := 15) (by decide +kernel))) (by decide +kernel)
theorem wi_7_numberOf : wI yX7_numberOf := ⟨im_7_numberOf, se_7_numberOf⟩
theorem ml_7_69 : Cond.methodLink RX7 69 yX7_numberOf ∈ BIG := big_of (tk4 _ (List.mem_of_getElem? (i := 186) (by decide +kernel))) (by decide +kernel)
theorem co_7_wordOf : Cond.code yX7_wordOf cX7_wordOf 4 (some .int) ∈ BIG := big_of (tk4 _ (List.mem_of_getElem? (i := 193) (by decide +kernel))) (by decide +kernel)
theorem wb_7_wordOf : wB yX7_wordOf cX7_wordOf 4 (some .int) := ⟨in_7, co_7_wordOf⟩
theorem ds_7_wordOf : dsc yX7_wordOf 2 := ⟨by decide +kernel, by decide +kernel, by decide +kernel⟩
theorem im_7_wordOf : Cond.instanceMethod yX7_wordOf ∈ BIG := big_of (tk4 _ (List.mem_of_getElem? (i := 192) (by decide +kernel))) (by decide +kernel)
theorem se_7_wordOf : Cond.selects (yX7_wordOf).cls yX7_wordOf yX7_wordOf ∈ BIG := big_of (pv3 (yX7_wordOf, 7) (List.mem_of_getElem? (i := 0) (by decide +kernel))) (by decide +kernel)
theorem wi_7_wordOf : wI yX7_wordOf := ⟨im_7_wordOf, se_7_wordOf⟩
theorem ml_7_72 : Cond.methodLink RX7 72 yX7_wordOf ∈ BIG := big_of (tk4 _ (List.mem_of_getElem? (i := 190) (by decide +kernel))) (by decide +kernel)
theorem co_7_textOf : Cond.code yX7_textOf cX7_textOf 1 (some (.object "java/lang/String")) ∈ BIG := big_of (tk4 _ (List.mem_of_getElem? (i := 196) (by decide +kernel))) (by decide +kernel)
theorem wb_7_textOf : wB yX7_textOf cX7_textOf 1 (some (.object "java/lang/String")) := ⟨in_7, co_7_textOf⟩
theorem ds_7_textOf : dsc yX7_textOf 1 := ⟨by decide +kernel, by decide +kernel, by decide +kernel⟩
theorem st_7_textOf : Cond.static yX7_textOf ∈ BIG := big_of (tk4 _ (List.mem_of_getElem? (i := 195) (by decide +kernel))) (by decide +kernel)
theorem ml_7_75 : Cond.methodLink RX7 75 yX7_textOf ∈ BIG := big_of (tk4 _ (List.mem_of_getElem? (i := 194) (by decide +kernel))) (by decide +kernel)
theorem co_7_isWord : Cond.code yX7_isWord cX7_isWord 5 (some .boolean) ∈ BIG := big_of (tk4 _ (List.mem_of_getElem? (i := 213) (by decide +kernel))) (by decide +kernel)
theorem wb_7_isWord : wB yX7_isWord cX7_isWord 5 (some .boolean) := ⟨in_7, co_7_isWord⟩
theorem ds_7_isWord : dsc yX7_isWord 3 := ⟨by decide +kernel, by decide +kernel, by decide +kernel⟩
theorem im_7_isWord : Cond.instanceMethod yX7_isWord ∈ BIG := big_of (tk4 _ (List.mem_of_getElem? (i := 212) (by decide +kernel))) (by decide +kernel)
theorem se_7_isWord : Cond.selects (yX7_isWord).cls yX7_isWord yX7_isWord ∈ BIG := big_of (pv3 (yX7_isWord, 7) (List.mem_of_getElem? (i := 1) (by decide +kernel))) (by decide +kernel)
theorem wi_7_isWord : wI yX7_isWord := ⟨im_7_isWord, se_7_isWord⟩
theorem ml_7_79 : Cond.methodLink RX7 79 yX7_isWord ∈ BIG := big_of (tk4 _ (List.mem_of_getElem? (i := 210) (by decide +kernel))) (by decide +kernel)
def yJ_length : MethodName := ⟨"java/lang/String", "length", "()I"⟩
abbrev cJ_length : ByteArray := prog_17_method_54_code
theorem in_JS : Cond.initialized "java/lang/String" ∈ BIG := big_of (tk1 _ (List.mem_of_getElem? (i := 18) (by decide +kernel))) (by decide +kernel)
theorem co_J_length : Cond.code yJ_length cJ_length 1 (some .int) ∈ BIG := big_of (tk4 _ (List.mem_of_getElem? (i := 217) (by decide +kernel))) (by decide +kernel)
theorem wb_J_length : wB yJ_length cJ_length 1 (some .int) := ⟨in_JS, co_J_length⟩
theorem ds_J_length : dsc yJ_length 0 := ⟨by decide +kernel, by decide +kernel, by decide +kernel⟩
theorem im_J_length : Cond.instanceMethod yJ_length ∈ BIG := big_of (tk4 _ (List.mem_of_getElem? (i := 215) (by decide +kernel))) (by decide +kernel)
theorem se_J_length : Cond.selects (yJ_length).cls yJ_length yJ_length ∈ BIG := big_of (tk4 _ (List.mem_of_getElem? (i := 216) (by decide +kernel))) (by decide +kernel)
theorem wi_J_length : wI yJ_length := ⟨im_J_length, se_J_length⟩
theorem ml_7_83 : Cond.methodLink RX7 83 yJ_length ∈ BIG := big_of (tk4 _ (List.mem_of_getElem? (i := 214) (by decide +kernel))) (by decide +kernel)
def yJ_charAt : MethodName := ⟨"java/lang/String", "charAt", "(I)C"⟩
abbrev cJ_charAt : ByteArray := prog_17_method_56_code
theorem co_J_charAt : Cond.code yJ_charAt cJ_charAt 2 (some .char) ∈ BIG := big_of (tk4 _ (List.mem_of_getElem? (i := 227) (by decide +kernel))) (by decide +kernel)
theorem wb_J_charAt : wB yJ_charAt cJ_charAt 2 (some .char) := ⟨in_JS, co_J_charAt⟩
theorem ds_J_charAt : dsc yJ_charAt 1 := ⟨by decide +kernel, by decide +kernel, by decide +kernel⟩
theorem im_J_charAt : Cond.instanceMethod yJ_charAt ∈ BIG := big_of (tk4 _ (List.mem_of_getElem? (i := 225) (by decide +kernel))) (by decide +kernel)
theorem se_J_charAt : Cond.selects (yJ_charAt).cls yJ_charAt yJ_charAt ∈ BIG := big_of (tk4 _ (List.mem_of_getElem? (i := 226) (by decide +kernel))) (by decide +kernel)
theorem wi_J_charAt : wI yJ_charAt := ⟨im_J_charAt, se_J_charAt⟩
theorem ml_7_88 : Cond.methodLink RX7 88 yJ_charAt ∈ BIG := big_of (tk4 _ (List.mem_of_getElem? (i := 224) (by decide +kernel))) (by decide +kernel)
theorem fl_JS_9 : Cond.fieldLink "java/lang/String" 9 "java/lang/String" "value" "[B" ∈ BIG := big_of (tk9 _ (List.mem_of_getElem? (i := 81) (by decide +kernel))) (by decide +kernel)
def yJ_coder : MethodName := ⟨"java/lang/String", "coder", "()B"⟩
abbrev cJ_coder : ByteArray := prog_17_method_152_code
theorem co_J_coder : Cond.code yJ_coder cJ_coder 1 (some .byte) ∈ BIG := big_of (tk4 _ (List.mem_of_getElem? (i := 221) (by decide +kernel))) (by decide +kernel)
theorem wb_J_coder : wB yJ_coder cJ_coder 1 (some .byte) := ⟨in_JS, co_J_coder⟩
theorem ds_J_coder : dsc yJ_coder 0 := ⟨by decide +kernel, by decide +kernel, by decide +kernel⟩
theorem im_J_coder : Cond.instanceMethod yJ_coder ∈ BIG := big_of (tk4 _ (List.mem_of_getElem? (i := 219) (by decide +kernel))) (by decide +kernel)
theorem se_J_coder : Cond.selects (yJ_coder).cls yJ_coder yJ_coder ∈ BIG := big_of (tk4 _ (List.mem_of_getElem? (i := 220) (by decide +kernel))) (by decide +kernel)
theorem wi_J_coder : wI yJ_coder := ⟨im_J_coder, se_J_coder⟩
theorem ml_JS_335 : Cond.methodLink "java/lang/String" 335 yJ_coder ∈ BIG := big_of (tk4 _ (List.mem_of_getElem? (i := 218) (by decide +kernel))) (by decide +kernel)
theorem fl_JS_38 : Cond.fieldLink "java/lang/String" 38 "java/lang/String" "COMPACT_STRINGS" "Z" ∈ BIG := big_of (tk4 _ (List.mem_of_getElem? (i := 222) (by decide +kernel))) (by decide +kernel)
theorem fl_JS_15 : Cond.fieldLink "java/lang/String" 15 "java/lang/String" "coder" "B" ∈ BIG := big_of (tk9 _ (List.mem_of_getElem? (i := 82) (by decide +kernel))) (by decide +kernel)
def yJ_isLatin1 : MethodName := ⟨"java/lang/String", "isLatin1", "()Z"⟩
abbrev cJ_isLatin1 : ByteArray := prog_17_method_154_code
theorem co_J_isLatin1 : Cond.code yJ_isLatin1 cJ_isLatin1 1 (some .boolean) ∈ BIG := big_of (tk4 _ (List.mem_of_getElem? (i := 231) (by decide +kernel))) (by decide +kernel)
theorem wb_J_isLatin1 : wB yJ_isLatin1 cJ_isLatin1 1 (some .boolean) := ⟨in_JS, co_J_isLatin1⟩
theorem ds_J_isLatin1 : dsc yJ_isLatin1 0 := ⟨by decide +kernel, by decide +kernel, by decide +kernel⟩
theorem im_J_isLatin1 : Cond.instanceMethod yJ_isLatin1 ∈ BIG := big_of (tk4 _ (List.mem_of_getElem? (i := 229) (by decide +kernel))) (by decide +kernel)
theorem se_J_isLatin1 : Cond.selects (yJ_isLatin1).cls yJ_isLatin1 yJ_isLatin1 ∈ BIG := big_of (tk4 _ (List.mem_of_getElem? (i := 230) (by decide +kernel))) (by decide +kernel)
theorem wi_J_isLatin1 : wI yJ_isLatin1 := ⟨im_J_isLatin1, se_J_isLatin1⟩
theorem ml_JS_492 : Cond.methodLink "java/lang/String" 492 yJ_isLatin1 ∈ BIG := big_of (tk4 _ (List.mem_of_getElem? (i := 228) (by decide +kernel))) (by decide +kernel)
def yJ_latinAt : MethodName := ⟨"java/lang/StringLatin1", "charAt", "([BI)C"⟩
abbrev cJ_latinAt : ByteArray := prog_18_method_2_code
theorem in_JL : Cond.initialized "java/lang/StringLatin1" ∈ BIG := big_of (tk1 _ (List.mem_of_getElem? (i := 19) (by decide +kernel))) (by decide +kernel)
theorem co_J_latinAt : Cond.code yJ_latinAt cJ_latinAt 2 (some .char) ∈ BIG := big_of (tk4 _ (List.mem_of_getElem? (i := 234) (by decide +kernel))) (by decide +kernel)
theorem wb_J_latinAt : wB yJ_latinAt cJ_latinAt 2 (some .char) := ⟨in_JL, co_J_latinAt⟩
theorem ds_J_latinAt : dsc yJ_latinAt 2 := ⟨by decide +kernel, by decide +kernel, by decide +kernel⟩
theorem st_J_latinAt : Cond.static yJ_latinAt ∈ BIG := big_of (tk4 _ (List.mem_of_getElem? (i := 233) (by decide +kernel))) (by decide +kernel)
theorem ml_JS_495 : Cond.methodLink "java/lang/String" 495 yJ_latinAt ∈ BIG := big_of (tk4 _ (List.mem_of_getElem? (i := 232) (by decide +kernel))) (by decide +kernel)
def yJ_checkIndex : MethodName := ⟨"java/lang/String", "checkIndex", "(II)V"⟩
abbrev cJ_checkIndex : ByteArray := prog_17_method_155_code
theorem co_J_checkIndex : Cond.code yJ_checkIndex cJ_checkIndex 2 none ∈ BIG := big_of (tk4 _ (List.mem_of_getElem? (i := 237) (by decide +kernel))) (by decide +kernel)
theorem wb_J_checkIndex : wB yJ_checkIndex cJ_checkIndex 2 none := ⟨in_JS, co_J_checkIndex⟩
theorem ds_J_checkIndex : dsc yJ_checkIndex 2 := ⟨by decide +kernel, by decide +kernel, by decide +kernel⟩
theorem st_J_checkIndex : Cond.static yJ_checkIndex ∈ BIG := big_of (tk4 _ (List.mem_of_getElem? (i := 236) (by decide +kernel))) (by decide +kernel)
theorem ml_JL_9 : Cond.methodLink "java/lang/StringLatin1" 9 yJ_checkIndex ∈ BIG := big_of (tk4 _ (List.mem_of_getElem? (i := 235) (by decide +kernel))) (by decide +kernel)
theorem fl_JS_1053 : Cond.fieldLink "java/lang/String" 1053 "jdk/internal/util/Preconditions" "SIOOBE_FORMATTER" "Ljava/util/function/BiFunction;" ∈ BIG := big_of (tk4 _ (List.mem_of_getElem? (i := 238) (by decide +kernel))) (by decide +kernel)
def yJ_preCheck : MethodName := ⟨"jdk/internal/util/Preconditions", "checkIndex", "(IILjava/util/function/BiFunction;)I"⟩
abbrev cJ_preCheck : ByteArray := prog_22_method_11_code
theorem in_JP : Cond.initialized "jdk/internal/util/Preconditions" ∈ BIG := big_of (tk1 _ (List.mem_of_getElem? (i := 20) (by decide +kernel))) (by decide +kernel)
theorem co_J_preCheck : Cond.code yJ_preCheck cJ_preCheck 3 (some .int) ∈ BIG := big_of (tk5 _ (List.mem_of_getElem? (i := 2) (by decide +kernel))) (by decide +kernel)
theorem wb_J_preCheck : wB yJ_preCheck cJ_preCheck 3 (some .int) := ⟨in_JP, co_J_preCheck⟩
theorem ds_J_preCheck : dsc yJ_preCheck 3 := ⟨by decide +kernel, by decide +kernel, by decide +kernel⟩
theorem st_J_preCheck : Cond.static yJ_preCheck ∈ BIG := big_of (tk5 _ (List.mem_of_getElem? (i := 1) (by decide +kernel))) (by decide +kernel)
theorem ml_JS_1059 : Cond.methodLink "java/lang/String" 1059 yJ_preCheck ∈ BIG := big_of (tk5 _ (List.mem_of_getElem? (i := 0) (by decide +kernel))) (by decide +kernel)
theorem fl_7_15 : Cond.fieldLink RX7 15 (TX7 2).1 (TX7 2).2.1 (TX7 2).2.2.1 ∈ BIG := big_of (tk2 _ (List.mem_of_getElem? (i := 49) (by decide +kernel))) (by decide +kernel)
theorem fl_7_18 : Cond.fieldLink RX7 18 (TX7 3).1 (TX7 3).2.1 (TX7 3).2.2.1 ∈ BIG := big_of (tk2 _ (List.mem_of_getElem? (i := 50) (by decide +kernel))) (by decide +kernel)
theorem co_7_pass : Cond.code yX7_pass cX7_pass 2 (some .boolean) ∈ BIG := big_of (tk5 _ (List.mem_of_getElem? (i := 37) (by decide +kernel))) (by decide +kernel)
theorem wb_7_pass : wB yX7_pass cX7_pass 2 (some .boolean) := ⟨in_7, co_7_pass⟩
theorem ds_7_pass : dsc yX7_pass 1 := ⟨by decide +kernel, by decide +kernel, by decide +kernel⟩
theorem im_7_pass : Cond.instanceMethod yX7_pass ∈ BIG := big_of (tk5 _ (List.mem_of_getElem? (i := 36) (by decide +kernel))) (by decide +kernel)
theorem se_7_pass : Cond.selects (yX7_pass).cls yX7_pass yX7_pass ∈ BIG := big_of (pv3 (yX7_pass, 7) (List.mem_of_getElem? (i := 5) (by decide +kernel))) (by decide +kernel)
theorem wi_7_pass : wI yX7_pass := ⟨im_7_pass, se_7_pass⟩
theorem ml_7_118 : Cond.methodLink RX7 118 yX7_pass ∈ BIG := big_of (tk5 _ (List.mem_of_getElem? (i := 34) (by decide +kernel))) (by decide +kernel)
theorem co_7_readBy : Cond.code yX7_readBy cX7_readBy 5 (some .boolean) ∈ BIG := big_of (tk5 _ (List.mem_of_getElem? (i := 41) (by decide +kernel))) (by decide +kernel)
theorem wb_7_readBy : wB yX7_readBy cX7_readBy 5 (some .boolean) := ⟨in_7, co_7_readBy⟩
theorem ds_7_readBy : dsc yX7_readBy 0 := ⟨by decide +kernel, by decide +kernel, by decide +kernel⟩
theorem im_7_readBy : Cond.instanceMethod yX7_readBy ∈ BIG := big_of (tk5 _ (List.mem_of_getElem? (i := 40) (by decide +kernel))) (by decide +kernel)
theorem se_7_readBy : Cond.selects (yX7_readBy).cls yX7_readBy yX7_readBy ∈ BIG := big_of (pv3 (yX7_readBy, 7) (List.mem_of_getElem? (i := 6) (by decide +kernel))) (by decide +kernel)
theorem wi_7_readBy : wI yX7_readBy := ⟨im_7_readBy, se_7_readBy⟩
theorem ml_7_122 : Cond.methodLink RX7 122 yX7_readBy ∈ BIG := big_of (tk5 _ (List.mem_of_getElem? (i := 38) (by decide +kernel))) (by decide +kernel)
theorem co_7_passNumber : Cond.code yX7_passNumber cX7_passNumber 3 (some .int) ∈ BIG := big_of (tk5 _ (List.mem_of_getElem? (i := 49) (by decide +kernel))) (by decide +kernel)
theorem wb_7_passNumber : wB yX7_passNumber cX7_passNumber 3 (some .int) := ⟨in_7, co_7_passNumber⟩
theorem ds_7_passNumber : dsc yX7_passNumber 1 := ⟨by decide +kernel, by decide +kernel, by decide +kernel⟩
theorem im_7_passNumber : Cond.instanceMethod yX7_passNumber ∈ BIG := big_of (tk5 _ (List.mem_of_getElem? (i := 48) (by decide +kernel))) (by decide +kernel)
theorem se_7_passNumber : Cond.selects (yX7_passNumber).cls yX7_passNumber yX7_passNumber ∈ BIG := big_of (pv3 (yX7_passNumber, 7) (List.mem_of_getElem? (i := 8) (by decide +kernel))) (by decide +kernel)
theorem wi_7_passNumber : wI yX7_passNumber := ⟨im_7_passNumber, se_7_passNumber⟩
theorem ml_7_125 : Cond.methodLink RX7 125 yX7_passNumber ∈ BIG := big_of (tk5 _ (List.mem_of_getElem? (i := 46) (by decide +kernel))) (by decide +kernel)
theorem ml_7_128 : Cond.methodLink RX7 128 yX8_add ∈ BIG := big_of (tk5 _ (List.mem_of_getElem? (i := 50) (by decide +kernel))) (by decide +kernel)
theorem co_7_readCauses : Cond.code yX7_readCauses cX7_readCauses 4 (some .int) ∈ BIG := big_of (tk5 _ (List.mem_of_getElem? (i := 45) (by decide +kernel))) (by decide +kernel)
theorem wb_7_readCauses : wB yX7_readCauses cX7_readCauses 4 (some .int) := ⟨in_7, co_7_readCauses⟩
theorem ds_7_readCauses : dsc yX7_readCauses 0 := ⟨by decide +kernel, by decide +kernel, by decide +kernel⟩
theorem im_7_readCauses : Cond.instanceMethod yX7_readCauses ∈ BIG := big_of (tk5 _ (List.mem_of_getElem? (i := 44) (by decide +kernel))) (by decide +kernel)
theorem se_7_readCauses : Cond.selects (yX7_readCauses).cls yX7_readCauses yX7_readCauses ∈ BIG := big_of (pv3 (yX7_readCauses, 7) (List.mem_of_getElem? (i := 7) (by decide +kernel))) (by decide +kernel)
theorem wi_7_readCauses : wI yX7_readCauses := ⟨im_7_readCauses, se_7_readCauses⟩
theorem ml_7_132 : Cond.methodLink RX7 132 yX7_readCauses ∈ BIG := big_of (tk5 _ (List.mem_of_getElem? (i := 42) (by decide +kernel))) (by decide +kernel)
theorem ml_8_35 : Cond.methodLink RX8 35 yJ_min ∈ BIG := big_of (tk5 _ (List.mem_of_getElem? (i := 59) (by decide +kernel))) (by decide +kernel)
theorem mn_8_38 : (RX8, 38, yX11_copy, "CourtVans") ∈ NSM := List.mem_of_getElem? (i := 11) (by decide +kernel)
theorem co_11_read : Cond.code yX11_read cX11_read 2 (some .int) ∈ BIG := big_of (tk4 _ (List.mem_of_getElem? (i := 165) (by decide +kernel))) (by decide +kernel)
theorem wb_11_read : wB yX11_read cX11_read 2 (some .int) := ⟨in_11, co_11_read⟩
theorem ds_11_read : dsc yX11_read 0 := ⟨by decide +kernel, by decide +kernel, by decide +kernel⟩
theorem im_11_read : Cond.instanceMethod yX11_read ∈ BIG := big_of (tk4 _ (List.mem_of_getElem? (i := 163) (by decide +kernel))) (by decide +kernel)
theorem se_11_read : Cond.selects (yX11_read).cls yX11_read yX11_read ∈ BIG := big_of (tk4 _ (List.mem_of_getElem? (i := 164) (by decide +kernel))) (by decide +kernel)
theorem wi_11_read : wI yX11_read := ⟨im_11_read, se_11_read⟩
theorem co_11_line : Cond.code yX11_line cX11_line 3 (some .int) ∈ BIG := big_of (tk5 _ (List.mem_of_getElem? (i := 65) (by decide +kernel))) (by decide +kernel)
theorem wb_11_line : wB yX11_line cX11_line 3 (some .int) := ⟨in_11, co_11_line⟩
theorem ds_11_line : dsc yX11_line 2 := ⟨by decide +kernel, by decide +kernel, by decide +kernel⟩
theorem im_11_line : Cond.instanceMethod yX11_line ∈ BIG := big_of (tk5 _ (List.mem_of_getElem? (i := 63) (by decide +kernel))) (by decide +kernel)
theorem se_11_line : Cond.selects (yX11_line).cls yX11_line yX11_line ∈ BIG := big_of (tk5 _ (List.mem_of_getElem? (i := 64) (by decide +kernel))) (by decide +kernel)
theorem wi_11_line : wI yX11_line := ⟨im_11_line, se_11_line⟩
theorem fl_11_70 : Cond.fieldLink RX11 70 (TX11 9).1 (TX11 9).2.1 (TX11 9).2.2.1 ∈ BIG := big_of (tk2 _ (List.mem_of_getElem? (i := 177) (by decide +kernel))) (by decide +kernel)
theorem in_3 : Cond.initialized RX3 ∈ BIG := big_of (tk1 _ (List.mem_of_getElem? (i := 12) (by decide +kernel))) (by decide +kernel)
theorem co_3_share : Cond.code yX3_share cX3_share 9 none ∈ BIG := big_of (tk5 _ (List.mem_of_getElem? (i := 73) (by decide +kernel))) (by decide +kernel)
theorem wb_3_share : wB yX3_share cX3_share 9 none := ⟨in_3, co_3_share⟩
theorem ds_3_share : dsc yX3_share 3 := ⟨by decide +kernel, by decide +kernel, by decide +kernel⟩
theorem im_3_share : Cond.instanceMethod yX3_share ∈ BIG := big_of (tk5 _ (List.mem_of_getElem? (i := 71) (by decide +kernel))) (by decide +kernel)
theorem se_3_share : Cond.selects (yX3_share).cls yX3_share yX3_share ∈ BIG := big_of (tk5 _ (List.mem_of_getElem? (i := 72) (by decide +kernel))) (by decide +kernel)
theorem wi_3_share : wI yX3_share := ⟨im_3_share, se_3_share⟩
theorem ml_11_283 : Cond.methodLink RX11 283 yX3_share ∈ BIG := big_of (tk5 _ (List.mem_of_getElem? (i := 70) (by decide +kernel))) (by decide +kernel)
theorem fn_11_286 : (RX11, 286, (TX3 1).1, (TX3 1).2.1, (TX3 1).2.2.1, "CourtVans") ∈ NSF := List.mem_of_getElem? (i := 49) (by decide +kernel)
theorem fl_3_9 : Cond.fieldLink RX3 9 (TX3 1).1 (TX3 1).2.1 (TX3 1).2.2.1 ∈ BIG := big_of (tk2 _ (List.mem_of_getElem? (i := 77) (by decide +kernel))) (by decide +kernel)
theorem ml_3_19 : Cond.methodLink RX3 19 yJ_fill ∈ BIG := big_of (tk5 _ (List.mem_of_getElem? (i := 74) (by decide +kernel))) (by decide +kernel)
theorem fl_3_15 : Cond.fieldLink RX3 15 (TX3 0).1 (TX3 0).2.1 (TX3 0).2.2.1 ∈ BIG := big_of (tk2 _ (List.mem_of_getElem? (i := 76) (by decide +kernel))) (by decide +kernel)
theorem fn_3_25 : (RX3, 25, (TX10 1).1, (TX10 1).2.1, (TX10 1).2.2.1, "CourtVans") ∈ NSF := List.mem_of_getElem? (i := 13) (by decide +kernel)
theorem ml_3_31 : Cond.methodLink RX3 31 yX8_cell ∈ BIG := big_of (tk5 _ (List.mem_of_getElem? (i := 75) (by decide +kernel))) (by decide +kernel)
theorem ml_3_37 : Cond.methodLink RX3 37 yJ_max ∈ BIG := big_of (tk5 _ (List.mem_of_getElem? (i := 76) (by decide +kernel))) (by decide +kernel)
theorem co_3_latest : Cond.code yX3_latest cX3_latest 3 (some .int) ∈ BIG := big_of (tk5 _ (List.mem_of_getElem? (i := 80) (by decide +kernel))) (by decide +kernel)
theorem wb_3_latest : wB yX3_latest cX3_latest 3 (some .int) := ⟨in_3, co_3_latest⟩
theorem ds_3_latest : dsc yX3_latest 1 := ⟨by decide +kernel, by decide +kernel, by decide +kernel⟩
theorem im_3_latest : Cond.instanceMethod yX3_latest ∈ BIG := big_of (tk5 _ (List.mem_of_getElem? (i := 79) (by decide +kernel))) (by decide +kernel)
theorem se_3_latest : Cond.selects (yX3_latest).cls yX3_latest yX3_latest ∈ BIG := big_of (pv3 (yX3_latest, 2) (List.mem_of_getElem? (i := 10) (by decide +kernel))) (by decide +kernel)
theorem wi_3_latest : wI yX3_latest := ⟨im_3_latest, se_3_latest⟩
theorem ml_3_44 : Cond.methodLink RX3 44 yX3_latest ∈ BIG := big_of (tk5 _ (List.mem_of_getElem? (i := 77) (by decide +kernel))) (by decide +kernel)
theorem fn_3_48 : (RX3, 48, (TX10 3).1, (TX10 3).2.1, (TX10 3).2.2.1, "CourtVans") ∈ NSF := List.mem_of_getElem? (i := 24) (by decide +kernel)
theorem fn_3_51 : (RX3, 51, (TX8 3).1, (TX8 3).2.1, (TX8 3).2.2.1, "CourtVans") ∈ NSF := List.mem_of_getElem? (i := 2) (by decide +kernel)
theorem ml_3_55 : Cond.methodLink RX3 55 yJ_min ∈ BIG := big_of (tk5 _ (List.mem_of_getElem? (i := 81) (by decide +kernel))) (by decide +kernel)
theorem fn_3_58 : (RX3, 58, (TX10 6).1, (TX10 6).2.1, (TX10 6).2.2.1, "CourtVans") ∈ NSF := List.mem_of_getElem? (i := 31) (by decide +kernel)
theorem co_11_part : Cond.code yX11_part cX11_part 5 (some .int) ∈ BIG := big_of (tk5 _ (List.mem_of_getElem? (i := 69) (by decide +kernel))) (by decide +kernel)
theorem wb_11_part : wB yX11_part cX11_part 5 (some .int) := ⟨in_11, co_11_part⟩
theorem ds_11_part : dsc yX11_part 4 := ⟨by decide +kernel, by decide +kernel, by decide +kernel⟩
theorem im_11_part : Cond.instanceMethod yX11_part ∈ BIG := big_of (tk5 _ (List.mem_of_getElem? (i := 67) (by decide +kernel))) (by decide +kernel)
theorem se_11_part : Cond.selects (yX11_part).cls yX11_part yX11_part ∈ BIG := big_of (tk5 _ (List.mem_of_getElem? (i := 68) (by decide +kernel))) (by decide +kernel)
theorem wi_11_part : wI yX11_part := ⟨im_11_part, se_11_part⟩
theorem co_3_sum : Cond.code yX3_sum cX3_sum 3 (some .int) ∈ BIG := big_of (tk5 _ (List.mem_of_getElem? (i := 89) (by decide +kernel))) (by decide +kernel)
theorem wb_3_sum : wB yX3_sum cX3_sum 3 (some .int) := ⟨in_3, co_3_sum⟩
theorem ds_3_sum : dsc yX3_sum 0 := ⟨by decide +kernel, by decide +kernel, by decide +kernel⟩
theorem im_3_sum : Cond.instanceMethod yX3_sum ∈ BIG := big_of (tk5 _ (List.mem_of_getElem? (i := 87) (by decide +kernel))) (by decide +kernel)
theorem se_3_sum : Cond.selects (yX3_sum).cls yX3_sum yX3_sum ∈ BIG := big_of (tk5 _ (List.mem_of_getElem? (i := 88) (by decide +kernel))) (by decide +kernel)
theorem wi_3_sum : wI yX3_sum := ⟨im_3_sum, se_3_sum⟩
theorem ml_11_289 : Cond.methodLink RX11 289 yX3_sum ∈ BIG := big_of (tk5 _ (List.mem_of_getElem? (i := 86) (by decide +kernel))) (by decide +kernel)
theorem co_3_fineFor : Cond.code yX3_fineFor cX3_fineFor 5 (some .int) ∈ BIG := big_of (tk5 _ (List.mem_of_getElem? (i := 93) (by decide +kernel))) (by decide +kernel)
theorem wb_3_fineFor : wB yX3_fineFor cX3_fineFor 5 (some .int) := ⟨in_3, co_3_fineFor⟩
theorem ds_3_fineFor : dsc yX3_fineFor 1 := ⟨by decide +kernel, by decide +kernel, by decide +kernel⟩
theorem im_3_fineFor : Cond.instanceMethod yX3_fineFor ∈ BIG := big_of (tk5 _ (List.mem_of_getElem? (i := 92) (by decide +kernel))) (by decide +kernel)
theorem se_3_fineFor : Cond.selects (yX3_fineFor).cls yX3_fineFor yX3_fineFor ∈ BIG := big_of (pv3 (yX3_fineFor, 2) (List.mem_of_getElem? (i := 11) (by decide +kernel))) (by decide +kernel)
theorem wi_3_fineFor : wI yX3_fineFor := ⟨im_3_fineFor, se_3_fineFor⟩
theorem ml_3_61 : Cond.methodLink RX3 61 yX3_fineFor ∈ BIG := big_of (tk5 _ (List.mem_of_getElem? (i := 90) (by decide +kernel))) (by decide +kernel)
theorem mn_3_64 : (RX3, 64, yX11_bit, "CourtVans") ∈ NSM := List.mem_of_getElem? (i := 12) (by decide +kernel)
theorem co_11_fine : Cond.code yX11_fine cX11_fine 4 (some .int) ∈ BIG := big_of (tk5 _ (List.mem_of_getElem? (i := 85) (by decide +kernel))) (by decide +kernel)
theorem wb_11_fine : wB yX11_fine cX11_fine 4 (some .int) := ⟨in_11, co_11_fine⟩
theorem ds_11_fine : dsc yX11_fine 3 := ⟨by decide +kernel, by decide +kernel, by decide +kernel⟩
theorem im_11_fine : Cond.instanceMethod yX11_fine ∈ BIG := big_of (tk5 _ (List.mem_of_getElem? (i := 83) (by decide +kernel))) (by decide +kernel)
theorem se_11_fine : Cond.selects (yX11_fine).cls yX11_fine yX11_fine ∈ BIG := big_of (tk5 _ (List.mem_of_getElem? (i := 84) (by decide +kernel))) (by decide +kernel)
theorem wi_11_fine : wI yX11_fine := ⟨im_11_fine, se_11_fine⟩
theorem fl_11_79 : Cond.fieldLink RX11 79 (TX11 10).1 (TX11 10).2.1 (TX11 10).2.2.1 ∈ BIG := big_of (tk2 _ (List.mem_of_getElem? (i := 178) (by decide +kernel))) (by decide +kernel)
theorem in_6 : Cond.initialized RX6 ∈ BIG := big_of (tk1 _ (List.mem_of_getElem? (i := 13) (by decide +kernel))) (by decide +kernel)
theorem co_6_settle : Cond.code yX6_settle cX6_settle 5 (some .boolean) ∈ BIG := big_of (tk5 _ (List.mem_of_getElem? (i := 102) (by decide +kernel))) (by decide +kernel)
theorem wb_6_settle : wB yX6_settle cX6_settle 5 (some .boolean) := ⟨in_6, co_6_settle⟩
theorem ds_6_settle : dsc yX6_settle 3 := ⟨by decide +kernel, by decide +kernel, by decide +kernel⟩
theorem im_6_settle : Cond.instanceMethod yX6_settle ∈ BIG := big_of (tk5 _ (List.mem_of_getElem? (i := 100) (by decide +kernel))) (by decide +kernel)
theorem se_6_settle : Cond.selects (yX6_settle).cls yX6_settle yX6_settle ∈ BIG := big_of (tk5 _ (List.mem_of_getElem? (i := 101) (by decide +kernel))) (by decide +kernel)
theorem wi_6_settle : wI yX6_settle := ⟨im_6_settle, se_6_settle⟩
theorem ml_11_292 : Cond.methodLink RX11 292 yX6_settle ∈ BIG := big_of (tk5 _ (List.mem_of_getElem? (i := 99) (by decide +kernel))) (by decide +kernel)
theorem co_6_abroad : Cond.code yX6_abroad cX6_abroad 1 (some .int) ∈ BIG := big_of (tk5 _ (List.mem_of_getElem? (i := 127) (by decide +kernel))) (by decide +kernel)
theorem wb_6_abroad : wB yX6_abroad cX6_abroad 1 (some .int) := ⟨in_6, co_6_abroad⟩
theorem ds_6_abroad : dsc yX6_abroad 0 := ⟨by decide +kernel, by decide +kernel, by decide +kernel⟩
theorem im_6_abroad : Cond.instanceMethod yX6_abroad ∈ BIG := big_of (tk5 _ (List.mem_of_getElem? (i := 125) (by decide +kernel))) (by decide +kernel)
theorem se_6_abroad : Cond.selects (yX6_abroad).cls yX6_abroad yX6_abroad ∈ BIG := big_of (tk5 _ (List.mem_of_getElem? (i := 126) (by decide +kernel))) (by decide +kernel)
theorem wi_6_abroad : wI yX6_abroad := ⟨im_6_abroad, se_6_abroad⟩
theorem ml_11_295 : Cond.methodLink RX11 295 yX6_abroad ∈ BIG := big_of (tk5 _ (List.mem_of_getElem? (i := 124) (by decide +kernel))) (by decide +kernel)
theorem co_6_drives : Cond.code yX6_drives cX6_drives 1 (some .int) ∈ BIG := big_of (tk5 _ (List.mem_of_getElem? (i := 131) (by decide +kernel))) (by decide +kernel)
theorem wb_6_drives : wB yX6_drives cX6_drives 1 (some .int) := ⟨in_6, co_6_drives⟩
theorem ds_6_drives : dsc yX6_drives 0 := ⟨by decide +kernel, by decide +kernel, by decide +kernel⟩
theorem im_6_drives : Cond.instanceMethod yX6_drives ∈ BIG := big_of (tk5 _ (List.mem_of_getElem? (i := 129) (by decide +kernel))) (by decide +kernel)
theorem se_6_drives : Cond.selects (yX6_drives).cls yX6_drives yX6_drives ∈ BIG := big_of (tk5 _ (List.mem_of_getElem? (i := 130) (by decide +kernel))) (by decide +kernel)
theorem wi_6_drives : wI yX6_drives := ⟨im_6_drives, se_6_drives⟩
theorem ml_11_298 : Cond.methodLink RX11 298 yX6_drives ∈ BIG := big_of (tk5 _ (List.mem_of_getElem? (i := 128) (by decide +kernel))) (by decide +kernel)
theorem co_6_placeWith : Cond.code yX6_placeWith cX6_placeWith 3 (some .int) ∈ BIG := big_of (tk5 _ (List.mem_of_getElem? (i := 135) (by decide +kernel))) (by decide +kernel)
theorem wb_6_placeWith : wB yX6_placeWith cX6_placeWith 3 (some .int) := ⟨in_6, co_6_placeWith⟩
theorem ds_6_placeWith : dsc yX6_placeWith 1 := ⟨by decide +kernel, by decide +kernel, by decide +kernel⟩
theorem im_6_placeWith : Cond.instanceMethod yX6_placeWith ∈ BIG := big_of (tk5 _ (List.mem_of_getElem? (i := 133) (by decide +kernel))) (by decide +kernel)
theorem se_6_placeWith : Cond.selects (yX6_placeWith).cls yX6_placeWith yX6_placeWith ∈ BIG := big_of (tk5 _ (List.mem_of_getElem? (i := 134) (by decide +kernel))) (by decide +kernel)
theorem wi_6_placeWith : wI yX6_placeWith := ⟨im_6_placeWith, se_6_placeWith⟩
theorem ml_11_301 : Cond.methodLink RX11 301 yX6_placeWith ∈ BIG := big_of (tk5 _ (List.mem_of_getElem? (i := 132) (by decide +kernel))) (by decide +kernel)
theorem fl_6_38 : Cond.fieldLink RX6 38 (TX6 3).1 (TX6 3).2.1 (TX6 3).2.2.1 ∈ BIG := big_of (tk2 _ (List.mem_of_getElem? (i := 93) (by decide +kernel))) (by decide +kernel)
theorem mn_6_45 : (RX6, 45, yX11_bit, "CourtVans") ∈ NSM := List.mem_of_getElem? (i := 13) (by decide +kernel)
theorem fl_6_9 : Cond.fieldLink RX6 9 (TX6 2).1 (TX6 2).2.1 (TX6 2).2.2.1 ∈ BIG := big_of (tk2 _ (List.mem_of_getElem? (i := 92) (by decide +kernel))) (by decide +kernel)
theorem fl_6_21 : Cond.fieldLink RX6 21 (TX6 6).1 (TX6 6).2.1 (TX6 6).2.2.1 ∈ BIG := big_of (tk2 _ (List.mem_of_getElem? (i := 96) (by decide +kernel))) (by decide +kernel)
theorem co_6_roomAt : Cond.code yX6_roomAt cX6_roomAt 8 (some .int) ∈ BIG := big_of (tk5 _ (List.mem_of_getElem? (i := 107) (by decide +kernel))) (by decide +kernel)
theorem wb_6_roomAt : wB yX6_roomAt cX6_roomAt 8 (some .int) := ⟨in_6, co_6_roomAt⟩
theorem ds_6_roomAt : dsc yX6_roomAt 4 := ⟨by decide +kernel, by decide +kernel, by decide +kernel⟩
theorem im_6_roomAt : Cond.instanceMethod yX6_roomAt ∈ BIG := big_of (tk5 _ (List.mem_of_getElem? (i := 106) (by decide +kernel))) (by decide +kernel)
theorem se_6_roomAt : Cond.selects (yX6_roomAt).cls yX6_roomAt yX6_roomAt ∈ BIG := big_of (pv3 (yX6_roomAt, 10) (List.mem_of_getElem? (i := 12) (by decide +kernel))) (by decide +kernel)
theorem wi_6_roomAt : wI yX6_roomAt := ⟨im_6_roomAt, se_6_roomAt⟩
theorem ml_6_49 : Cond.methodLink RX6 49 yX6_roomAt ∈ BIG := big_of (tk5 _ (List.mem_of_getElem? (i := 104) (by decide +kernel))) (by decide +kernel)
theorem fl_6_18 : Cond.fieldLink RX6 18 (TX6 5).1 (TX6 5).2.1 (TX6 5).2.2.1 ∈ BIG := big_of (tk2 _ (List.mem_of_getElem? (i := 95) (by decide +kernel))) (by decide +kernel)
theorem co_6_weigh : Cond.code yX6_weigh cX6_weigh 8 (some .int) ∈ BIG := big_of (tk5 _ (List.mem_of_getElem? (i := 116) (by decide +kernel))) (by decide +kernel)
theorem wb_6_weigh : wB yX6_weigh cX6_weigh 8 (some .int) := ⟨in_6, co_6_weigh⟩
theorem ds_6_weigh : dsc yX6_weigh 3 := ⟨by decide +kernel, by decide +kernel, by decide +kernel⟩
theorem im_6_weigh : Cond.instanceMethod yX6_weigh ∈ BIG := big_of (tk5 _ (List.mem_of_getElem? (i := 115) (by decide +kernel))) (by decide +kernel)
theorem se_6_weigh : Cond.selects (yX6_weigh).cls yX6_weigh yX6_weigh ∈ BIG := big_of (pv3 (yX6_weigh, 10) (List.mem_of_getElem? (i := 13) (by decide +kernel))) (by decide +kernel)
theorem wi_6_weigh : wI yX6_weigh := ⟨im_6_weigh, se_6_weigh⟩
theorem ml_6_53 : Cond.methodLink RX6 53 yX6_weigh ∈ BIG := big_of (tk5 _ (List.mem_of_getElem? (i := 113) (by decide +kernel))) (by decide +kernel)
theorem fl_6_42 : Cond.fieldLink RX6 42 (TX6 9).1 (TX6 9).2.1 (TX6 9).2.2.1 ∈ BIG := big_of (tk2 _ (List.mem_of_getElem? (i := 99) (by decide +kernel))) (by decide +kernel)
theorem co_6_send : Cond.code yX6_send cX6_send 6 none ∈ BIG := big_of (tk5 _ (List.mem_of_getElem? (i := 122) (by decide +kernel))) (by decide +kernel)
theorem wb_6_send : wB yX6_send cX6_send 6 none := ⟨in_6, co_6_send⟩
theorem ds_6_send : dsc yX6_send 3 := ⟨by decide +kernel, by decide +kernel, by decide +kernel⟩
theorem st_6_send : Cond.static yX6_send ∈ BIG := big_of (tk5 _ (List.mem_of_getElem? (i := 121) (by decide +kernel))) (by decide +kernel)
theorem ml_6_57 : Cond.methodLink RX6 57 yX6_send ∈ BIG := big_of (tk5 _ (List.mem_of_getElem? (i := 120) (by decide +kernel))) (by decide +kernel)
theorem fl_6_30 : Cond.fieldLink RX6 30 (TX6 0).1 (TX6 0).2.1 (TX6 0).2.2.1 ∈ BIG := big_of (tk2 _ (List.mem_of_getElem? (i := 90) (by decide +kernel))) (by decide +kernel)
theorem fn_6_61 : (RX6, 61, (TX10 0).1, (TX10 0).2.1, (TX10 0).2.2.1, "CourtVans") ∈ NSF := List.mem_of_getElem? (i := 10) (by decide +kernel)
theorem ml_6_67 : Cond.methodLink RX6 67 yX8_has ∈ BIG := big_of (tk5 _ (List.mem_of_getElem? (i := 108) (by decide +kernel))) (by decide +kernel)
theorem ml_6_73 : Cond.methodLink RX6 73 yX8_cell ∈ BIG := big_of (tk5 _ (List.mem_of_getElem? (i := 109) (by decide +kernel))) (by decide +kernel)
theorem ml_6_76 : Cond.methodLink RX6 76 yX10_driveMinutes ∈ BIG := big_of (tk5 _ (List.mem_of_getElem? (i := 110) (by decide +kernel))) (by decide +kernel)
theorem mn_6_79 : (RX6, 79, yX11_isWithin, "CourtVans") ∈ NSM := List.mem_of_getElem? (i := 14) (by decide +kernel)
theorem fn_6_83 : (RX6, 83, (TX10 1).1, (TX10 1).2.1, (TX10 1).2.2.1, "CourtVans") ∈ NSF := List.mem_of_getElem? (i := 15) (by decide +kernel)
theorem fn_6_86 : (RX6, 86, (TX8 3).1, (TX8 3).2.1, (TX8 3).2.2.1, "CourtVans") ∈ NSF := List.mem_of_getElem? (i := 5) (by decide +kernel)
theorem fl_6_34 : Cond.fieldLink RX6 34 (TX6 1).1 (TX6 1).2.1 (TX6 1).2.2.1 ∈ BIG := big_of (tk2 _ (List.mem_of_getElem? (i := 91) (by decide +kernel))) (by decide +kernel)
theorem fn_6_87 : (RX6, 87, (TX10 12).1, (TX10 12).2.1, (TX10 12).2.2.1, "CourtVans") ∈ NSF := List.mem_of_getElem? (i := 38) (by decide +kernel)
theorem ml_6_90 : Cond.methodLink RX6 90 yX2_whereIs ∈ BIG := big_of (tk5 _ (List.mem_of_getElem? (i := 112) (by decide +kernel))) (by decide +kernel)
theorem kc_6_95 : Cond.constant RX6 95 (Int32.ofInt 1000000) ∈ BIG := big_of (tk5 _ (List.mem_of_getElem? (i := 117) (by decide +kernel))) (by decide +kernel)
theorem kc_6_96 : Cond.constant RX6 96 (Int32.ofInt 100000) ∈ BIG := big_of (tk5 _ (List.mem_of_getElem? (i := 118) (by decide +kernel))) (by decide +kernel)
theorem fl_6_15 : Cond.fieldLink RX6 15 (TX6 4).1 (TX6 4).2.1 (TX6 4).2.2.1 ∈ BIG := big_of (tk2 _ (List.mem_of_getElem? (i := 94) (by decide +kernel))) (by decide +kernel)
theorem ml_6_97 : Cond.methodLink RX6 97 yJ_min ∈ BIG := big_of (tk5 _ (List.mem_of_getElem? (i := 119) (by decide +kernel))) (by decide +kernel)
theorem fl_6_24 : Cond.fieldLink RX6 24 (TX6 7).1 (TX6 7).2.1 (TX6 7).2.2.1 ∈ BIG := big_of (tk2 _ (List.mem_of_getElem? (i := 97) (by decide +kernel))) (by decide +kernel)
theorem fl_6_27 : Cond.fieldLink RX6 27 (TX6 8).1 (TX6 8).2.1 (TX6 8).2.2.1 ∈ BIG := big_of (tk2 _ (List.mem_of_getElem? (i := 98) (by decide +kernel))) (by decide +kernel)
theorem mn_6_102 : (RX6, 102, yX11_copy, "CourtVans") ∈ NSM := List.mem_of_getElem? (i := 15) (by decide +kernel)
theorem co_11_night : Cond.code yX11_night cX11_night 5 (some .int) ∈ BIG := big_of (tk5 _ (List.mem_of_getElem? (i := 98) (by decide +kernel))) (by decide +kernel)
theorem wb_11_night : wB yX11_night cX11_night 5 (some .int) := ⟨in_11, co_11_night⟩
theorem ds_11_night : dsc yX11_night 4 := ⟨by decide +kernel, by decide +kernel, by decide +kernel⟩
theorem im_11_night : Cond.instanceMethod yX11_night ∈ BIG := big_of (tk5 _ (List.mem_of_getElem? (i := 96) (by decide +kernel))) (by decide +kernel)
theorem se_11_night : Cond.selects (yX11_night).cls yX11_night yX11_night ∈ BIG := big_of (tk5 _ (List.mem_of_getElem? (i := 97) (by decide +kernel))) (by decide +kernel)
theorem wi_11_night : wI yX11_night := ⟨im_11_night, se_11_night⟩
theorem fn_11_304 : (RX11, 304, (TX10 5).1, (TX10 5).2.1, (TX10 5).2.2.1, "CourtVans") ∈ NSF := List.mem_of_getElem? (i := 30) (by decide +kernel)
theorem co_11_thing : Cond.code yX11_thing cX11_thing 3 (some .int) ∈ BIG := big_of (tk5 _ (List.mem_of_getElem? (i := 139) (by decide +kernel))) (by decide +kernel)
theorem wb_11_thing : wB yX11_thing cX11_thing 3 (some .int) := ⟨in_11, co_11_thing⟩
theorem ds_11_thing : dsc yX11_thing 2 := ⟨by decide +kernel, by decide +kernel, by decide +kernel⟩
theorem im_11_thing : Cond.instanceMethod yX11_thing ∈ BIG := big_of (tk5 _ (List.mem_of_getElem? (i := 137) (by decide +kernel))) (by decide +kernel)
theorem se_11_thing : Cond.selects (yX11_thing).cls yX11_thing yX11_thing ∈ BIG := big_of (tk5 _ (List.mem_of_getElem? (i := 138) (by decide +kernel))) (by decide +kernel)
theorem wi_11_thing : wI yX11_thing := ⟨im_11_thing, se_11_thing⟩
theorem co_11_carry : Cond.code yX11_carry cX11_carry 4 (some .int) ∈ BIG := big_of (tk5 _ (List.mem_of_getElem? (i := 143) (by decide +kernel))) (by decide +kernel)
theorem wb_11_carry : wB yX11_carry cX11_carry 4 (some .int) := ⟨in_11, co_11_carry⟩
theorem ds_11_carry : dsc yX11_carry 2 := ⟨by decide +kernel, by decide +kernel, by decide +kernel⟩
theorem im_11_carry : Cond.instanceMethod yX11_carry ∈ BIG := big_of (tk5 _ (List.mem_of_getElem? (i := 141) (by decide +kernel))) (by decide +kernel)
theorem se_11_carry : Cond.selects (yX11_carry).cls yX11_carry yX11_carry ∈ BIG := big_of (tk5 _ (List.mem_of_getElem? (i := 142) (by decide +kernel))) (by decide +kernel)
theorem wi_11_carry : wI yX11_carry := ⟨im_11_carry, se_11_carry⟩
theorem co_10_lackedBy : Cond.code yX10_lackedBy cX10_lackedBy 6 (some .int) ∈ BIG := big_of (tk5 _ (List.mem_of_getElem? (i := 151) (by decide +kernel))) (by decide +kernel)
theorem wb_10_lackedBy : wB yX10_lackedBy cX10_lackedBy 6 (some .int) := ⟨in_10, co_10_lackedBy⟩
theorem ds_10_lackedBy : dsc yX10_lackedBy 2 := ⟨by decide +kernel, by decide +kernel, by decide +kernel⟩
theorem im_10_lackedBy : Cond.instanceMethod yX10_lackedBy ∈ BIG := big_of (tk5 _ (List.mem_of_getElem? (i := 149) (by decide +kernel))) (by decide +kernel)
theorem se_10_lackedBy : Cond.selects (yX10_lackedBy).cls yX10_lackedBy yX10_lackedBy ∈ BIG := big_of (tk5 _ (List.mem_of_getElem? (i := 150) (by decide +kernel))) (by decide +kernel)
theorem wi_10_lackedBy : wI yX10_lackedBy := ⟨im_10_lackedBy, se_10_lackedBy⟩
theorem ml_11_307 : Cond.methodLink RX11 307 yX10_lackedBy ∈ BIG := big_of (tk5 _ (List.mem_of_getElem? (i := 148) (by decide +kernel))) (by decide +kernel)
theorem fl_10_32 : Cond.fieldLink RX10 32 (TX10 5).1 (TX10 5).2.1 (TX10 5).2.2.1 ∈ BIG := big_of (tk1 _ (List.mem_of_getElem? (i := 96) (by decide +kernel))) (by decide +kernel)
theorem co_11_lacks : Cond.code yX11_lacks cX11_lacks 3 (some .int) ∈ BIG := big_of (tk5 _ (List.mem_of_getElem? (i := 147) (by decide +kernel))) (by decide +kernel)
theorem wb_11_lacks : wB yX11_lacks cX11_lacks 3 (some .int) := ⟨in_11, co_11_lacks⟩
theorem ds_11_lacks : dsc yX11_lacks 2 := ⟨by decide +kernel, by decide +kernel, by decide +kernel⟩
theorem im_11_lacks : Cond.instanceMethod yX11_lacks ∈ BIG := big_of (tk5 _ (List.mem_of_getElem? (i := 145) (by decide +kernel))) (by decide +kernel)
theorem se_11_lacks : Cond.selects (yX11_lacks).cls yX11_lacks yX11_lacks ∈ BIG := big_of (tk5 _ (List.mem_of_getElem? (i := 146) (by decide +kernel))) (by decide +kernel)
theorem wi_11_lacks : wI yX11_lacks := ⟨im_11_lacks, se_11_lacks⟩
theorem co_10_placesOf : Cond.code yX10_placesOf cX10_placesOf 5 (some .int) ∈ BIG := big_of (tk5 _ (List.mem_of_getElem? (i := 159) (by decide +kernel))) (by decide +kernel)
theorem wb_10_placesOf : wB yX10_placesOf cX10_placesOf 5 (some .int) := ⟨in_10, co_10_placesOf⟩
theorem ds_10_placesOf : dsc yX10_placesOf 1 := ⟨by decide +kernel, by decide +kernel, by decide +kernel⟩
theorem im_10_placesOf : Cond.instanceMethod yX10_placesOf ∈ BIG := big_of (tk5 _ (List.mem_of_getElem? (i := 157) (by decide +kernel))) (by decide +kernel)
theorem se_10_placesOf : Cond.selects (yX10_placesOf).cls yX10_placesOf yX10_placesOf ∈ BIG := big_of (tk5 _ (List.mem_of_getElem? (i := 158) (by decide +kernel))) (by decide +kernel)
theorem wi_10_placesOf : wI yX10_placesOf := ⟨im_10_placesOf, se_10_placesOf⟩
theorem ml_11_310 : Cond.methodLink RX11 310 yX10_placesOf ∈ BIG := big_of (tk5 _ (List.mem_of_getElem? (i := 156) (by decide +kernel))) (by decide +kernel)
theorem co_11_shortest : Cond.code yX11_shortest cX11_shortest 8 (some .int) ∈ BIG := big_of (tk5 _ (List.mem_of_getElem? (i := 162) (by decide +kernel))) (by decide +kernel)
theorem wb_11_shortest : wB yX11_shortest cX11_shortest 8 (some .int) := ⟨in_11, co_11_shortest⟩
theorem ds_11_shortest : dsc yX11_shortest 5 := ⟨by decide +kernel, by decide +kernel, by decide +kernel⟩
theorem st_11_shortest : Cond.static yX11_shortest ∈ BIG := big_of (tk5 _ (List.mem_of_getElem? (i := 161) (by decide +kernel))) (by decide +kernel)
theorem ml_11_313 : Cond.methodLink RX11 313 yX11_shortest ∈ BIG := big_of (tk5 _ (List.mem_of_getElem? (i := 160) (by decide +kernel))) (by decide +kernel)
theorem kc_11_372 : Cond.constant RX11 372 (Int32.ofInt 1000000) ∈ BIG := big_of (tk5 _ (List.mem_of_getElem? (i := 163) (by decide +kernel))) (by decide +kernel)
theorem co_11_fetch : Cond.code yX11_fetch cX11_fetch 3 (some .int) ∈ BIG := big_of (tk5 _ (List.mem_of_getElem? (i := 155) (by decide +kernel))) (by decide +kernel)
theorem wb_11_fetch : wB yX11_fetch cX11_fetch 3 (some .int) := ⟨in_11, co_11_fetch⟩
theorem ds_11_fetch : dsc yX11_fetch 2 := ⟨by decide +kernel, by decide +kernel, by decide +kernel⟩
theorem im_11_fetch : Cond.instanceMethod yX11_fetch ∈ BIG := big_of (tk5 _ (List.mem_of_getElem? (i := 153) (by decide +kernel))) (by decide +kernel)
theorem se_11_fetch : Cond.selects (yX11_fetch).cls yX11_fetch yX11_fetch ∈ BIG := big_of (tk5 _ (List.mem_of_getElem? (i := 154) (by decide +kernel))) (by decide +kernel)
theorem wi_11_fetch : wI yX11_fetch := ⟨im_11_fetch, se_11_fetch⟩
theorem fl_11_86 : Cond.fieldLink RX11 86 (TX11 11).1 (TX11 11).2.1 (TX11 11).2.2.1 ∈ BIG := big_of (tk2 _ (List.mem_of_getElem? (i := 179) (by decide +kernel))) (by decide +kernel)
theorem in_4 : Cond.initialized RX4 ∈ BIG := big_of (tk1 _ (List.mem_of_getElem? (i := 14) (by decide +kernel))) (by decide +kernel)
theorem co_4_isSheet : Cond.code yX4_isSheet cX4_isSheet 2 (some .boolean) ∈ BIG := big_of (tk5 _ (List.mem_of_getElem? (i := 171) (by decide +kernel))) (by decide +kernel)
theorem wb_4_isSheet : wB yX4_isSheet cX4_isSheet 2 (some .boolean) := ⟨in_4, co_4_isSheet⟩
theorem ds_4_isSheet : dsc yX4_isSheet 1 := ⟨by decide +kernel, by decide +kernel, by decide +kernel⟩
theorem im_4_isSheet : Cond.instanceMethod yX4_isSheet ∈ BIG := big_of (tk5 _ (List.mem_of_getElem? (i := 169) (by decide +kernel))) (by decide +kernel)
theorem se_4_isSheet : Cond.selects (yX4_isSheet).cls yX4_isSheet yX4_isSheet ∈ BIG := big_of (tk5 _ (List.mem_of_getElem? (i := 170) (by decide +kernel))) (by decide +kernel)
theorem wi_4_isSheet : wI yX4_isSheet := ⟨im_4_isSheet, se_4_isSheet⟩
theorem ml_11_317 : Cond.methodLink RX11 317 yX4_isSheet ∈ BIG := big_of (tk5 _ (List.mem_of_getElem? (i := 168) (by decide +kernel))) (by decide +kernel)
theorem co_4_tearSheet : Cond.code yX4_tearSheet cX4_tearSheet 2 (some .int) ∈ BIG := big_of (tk5 _ (List.mem_of_getElem? (i := 175) (by decide +kernel))) (by decide +kernel)
theorem wb_4_tearSheet : wB yX4_tearSheet cX4_tearSheet 2 (some .int) := ⟨in_4, co_4_tearSheet⟩
theorem ds_4_tearSheet : dsc yX4_tearSheet 1 := ⟨by decide +kernel, by decide +kernel, by decide +kernel⟩
theorem im_4_tearSheet : Cond.instanceMethod yX4_tearSheet ∈ BIG := big_of (tk5 _ (List.mem_of_getElem? (i := 173) (by decide +kernel))) (by decide +kernel)
theorem se_4_tearSheet : Cond.selects (yX4_tearSheet).cls yX4_tearSheet yX4_tearSheet ∈ BIG := big_of (tk5 _ (List.mem_of_getElem? (i := 174) (by decide +kernel))) (by decide +kernel)
theorem wi_4_tearSheet : wI yX4_tearSheet := ⟨im_4_tearSheet, se_4_tearSheet⟩
theorem ml_11_320 : Cond.methodLink RX11 320 yX4_tearSheet ∈ BIG := big_of (tk5 _ (List.mem_of_getElem? (i := 172) (by decide +kernel))) (by decide +kernel)
theorem co_4_makeSheet : Cond.code yX4_makeSheet cX4_makeSheet 4 (some .int) ∈ BIG := big_of (tk5 _ (List.mem_of_getElem? (i := 179) (by decide +kernel))) (by decide +kernel)
theorem wb_4_makeSheet : wB yX4_makeSheet cX4_makeSheet 4 (some .int) := ⟨in_4, co_4_makeSheet⟩
theorem ds_4_makeSheet : dsc yX4_makeSheet 3 := ⟨by decide +kernel, by decide +kernel, by decide +kernel⟩
theorem im_4_makeSheet : Cond.instanceMethod yX4_makeSheet ∈ BIG := big_of (tk5 _ (List.mem_of_getElem? (i := 177) (by decide +kernel))) (by decide +kernel)
theorem se_4_makeSheet : Cond.selects (yX4_makeSheet).cls yX4_makeSheet yX4_makeSheet ∈ BIG := big_of (tk5 _ (List.mem_of_getElem? (i := 178) (by decide +kernel))) (by decide +kernel)
theorem wi_4_makeSheet : wI yX4_makeSheet := ⟨im_4_makeSheet, se_4_makeSheet⟩
theorem ml_11_323 : Cond.methodLink RX11 323 yX4_makeSheet ∈ BIG := big_of (tk5 _ (List.mem_of_getElem? (i := 176) (by decide +kernel))) (by decide +kernel)
theorem fl_4_9 : Cond.fieldLink RX4 9 (TX4 1).1 (TX4 1).2.1 (TX4 1).2.2.1 ∈ BIG := big_of (tk2 _ (List.mem_of_getElem? (i := 129) (by decide +kernel))) (by decide +kernel)
theorem fl_4_13 : Cond.fieldLink RX4 13 (TX4 2).1 (TX4 2).2.1 (TX4 2).2.2.1 ∈ BIG := big_of (tk2 _ (List.mem_of_getElem? (i := 131) (by decide +kernel))) (by decide +kernel)
theorem fl_4_16 : Cond.fieldLink RX4 16 (TX4 3).1 (TX4 3).2.1 (TX4 3).2.2.1 ∈ BIG := big_of (tk2 _ (List.mem_of_getElem? (i := 132) (by decide +kernel))) (by decide +kernel)
def yJ_fillr : MethodName := ⟨"java/util/Arrays", "fill", "([IIII)V"⟩
abbrev cJ_fillr : ByteArray := prog_21_method_104_code
theorem co_J_fillr : Cond.code yJ_fillr cJ_fillr 5 none ∈ BIG := big_of (tk5 _ (List.mem_of_getElem? (i := 182) (by decide +kernel))) (by decide +kernel)
theorem wb_J_fillr : wB yJ_fillr cJ_fillr 5 none := ⟨in_JA, co_J_fillr⟩
theorem ds_J_fillr : dsc yJ_fillr 4 := ⟨by decide +kernel, by decide +kernel, by decide +kernel⟩
theorem st_J_fillr : Cond.static yJ_fillr ∈ BIG := big_of (tk5 _ (List.mem_of_getElem? (i := 181) (by decide +kernel))) (by decide +kernel)
theorem ml_4_54 : Cond.methodLink RX4 54 yJ_fillr ∈ BIG := big_of (tk5 _ (List.mem_of_getElem? (i := 180) (by decide +kernel))) (by decide +kernel)
def yJ_rangeCheck : MethodName := ⟨"java/util/Arrays", "rangeCheck", "(III)V"⟩
abbrev cJ_rangeCheck : ByteArray := prog_21_method_30_code
theorem co_J_rangeCheck : Cond.code yJ_rangeCheck cJ_rangeCheck 3 none ∈ BIG := big_of (tk5 _ (List.mem_of_getElem? (i := 185) (by decide +kernel))) (by decide +kernel)
theorem wb_J_rangeCheck : wB yJ_rangeCheck cJ_rangeCheck 3 none := ⟨in_JA, co_J_rangeCheck⟩
theorem ds_J_rangeCheck : dsc yJ_rangeCheck 3 := ⟨by decide +kernel, by decide +kernel, by decide +kernel⟩
theorem st_J_rangeCheck : Cond.static yJ_rangeCheck ∈ BIG := big_of (tk5 _ (List.mem_of_getElem? (i := 184) (by decide +kernel))) (by decide +kernel)
theorem ml_JA_13 : Cond.methodLink "java/util/Arrays" 13 yJ_rangeCheck ∈ BIG := big_of (tk5 _ (List.mem_of_getElem? (i := 183) (by decide +kernel))) (by decide +kernel)
theorem co_11_sheet : Cond.code yX11_sheet cX11_sheet 4 (some .int) ∈ BIG := big_of (tk5 _ (List.mem_of_getElem? (i := 167) (by decide +kernel))) (by decide +kernel)
theorem wb_11_sheet : wB yX11_sheet cX11_sheet 4 (some .int) := ⟨in_11, co_11_sheet⟩
theorem ds_11_sheet : dsc yX11_sheet 3 := ⟨by decide +kernel, by decide +kernel, by decide +kernel⟩
theorem im_11_sheet : Cond.instanceMethod yX11_sheet ∈ BIG := big_of (tk5 _ (List.mem_of_getElem? (i := 165) (by decide +kernel))) (by decide +kernel)
theorem se_11_sheet : Cond.selects (yX11_sheet).cls yX11_sheet yX11_sheet ∈ BIG := big_of (tk5 _ (List.mem_of_getElem? (i := 166) (by decide +kernel))) (by decide +kernel)
theorem wi_11_sheet : wI yX11_sheet := ⟨im_11_sheet, se_11_sheet⟩
theorem fn_11_326 : (RX11, 326, (TX4 1).1, (TX4 1).2.1, (TX4 1).2.2.1, "CourtVans") ∈ NSF := List.mem_of_getElem? (i := 50) (by decide +kernel)
theorem co_4_refusal : Cond.code yX4_refusal cX4_refusal 4 (some .int) ∈ BIG := big_of (tk5 _ (List.mem_of_getElem? (i := 193) (by decide +kernel))) (by decide +kernel)
theorem wb_4_refusal : wB yX4_refusal cX4_refusal 4 (some .int) := ⟨in_4, co_4_refusal⟩
theorem ds_4_refusal : dsc yX4_refusal 3 := ⟨by decide +kernel, by decide +kernel, by decide +kernel⟩
theorem im_4_refusal : Cond.instanceMethod yX4_refusal ∈ BIG := big_of (tk5 _ (List.mem_of_getElem? (i := 191) (by decide +kernel))) (by decide +kernel)
theorem se_4_refusal : Cond.selects (yX4_refusal).cls yX4_refusal yX4_refusal ∈ BIG := big_of (tk5 _ (List.mem_of_getElem? (i := 192) (by decide +kernel))) (by decide +kernel)
theorem wi_4_refusal : wI yX4_refusal := ⟨im_4_refusal, se_4_refusal⟩
theorem ml_11_329 : Cond.methodLink RX11 329 yX4_refusal ∈ BIG := big_of (tk5 _ (List.mem_of_getElem? (i := 190) (by decide +kernel))) (by decide +kernel)
theorem co_4_write : Cond.code yX4_write cX4_write 5 (some .int) ∈ BIG := big_of (tk5 _ (List.mem_of_getElem? (i := 198) (by decide +kernel))) (by decide +kernel)
theorem wb_4_write : wB yX4_write cX4_write 5 (some .int) := ⟨in_4, co_4_write⟩
theorem ds_4_write : dsc yX4_write 3 := ⟨by decide +kernel, by decide +kernel, by decide +kernel⟩
theorem im_4_write : Cond.instanceMethod yX4_write ∈ BIG := big_of (tk5 _ (List.mem_of_getElem? (i := 196) (by decide +kernel))) (by decide +kernel)
theorem se_4_write : Cond.selects (yX4_write).cls yX4_write yX4_write ∈ BIG := big_of (tk5 _ (List.mem_of_getElem? (i := 197) (by decide +kernel))) (by decide +kernel)
theorem wi_4_write : wI yX4_write := ⟨im_4_write, se_4_write⟩
theorem ml_11_332 : Cond.methodLink RX11 332 yX4_write ∈ BIG := big_of (tk5 _ (List.mem_of_getElem? (i := 195) (by decide +kernel))) (by decide +kernel)
theorem mn_4_57 : (RX4, 57, yX11_isWithin, "CourtVans") ∈ NSM := List.mem_of_getElem? (i := 16) (by decide +kernel)
theorem co_11_put : Cond.code yX11_put cX11_put 5 (some .int) ∈ BIG := big_of (tk5 _ (List.mem_of_getElem? (i := 189) (by decide +kernel))) (by decide +kernel)
theorem wb_11_put : wB yX11_put cX11_put 5 (some .int) := ⟨in_11, co_11_put⟩
theorem ds_11_put : dsc yX11_put 3 := ⟨by decide +kernel, by decide +kernel, by decide +kernel⟩
theorem im_11_put : Cond.instanceMethod yX11_put ∈ BIG := big_of (tk5 _ (List.mem_of_getElem? (i := 187) (by decide +kernel))) (by decide +kernel)
theorem se_11_put : Cond.selects (yX11_put).cls yX11_put yX11_put ∈ BIG := big_of (tk5 _ (List.mem_of_getElem? (i := 188) (by decide +kernel))) (by decide +kernel)
theorem wi_11_put : wI yX11_put := ⟨im_11_put, se_11_put⟩
theorem co_4_itemAt : Cond.code yX4_itemAt cX4_itemAt 3 (some .int) ∈ BIG := big_of (tk5 _ (List.mem_of_getElem? (i := 206) (by decide +kernel))) (by decide +kernel)
theorem wb_4_itemAt : wB yX4_itemAt cX4_itemAt 3 (some .int) := ⟨in_4, co_4_itemAt⟩
theorem ds_4_itemAt : dsc yX4_itemAt 2 := ⟨by decide +kernel, by decide +kernel, by decide +kernel⟩
theorem im_4_itemAt : Cond.instanceMethod yX4_itemAt ∈ BIG := big_of (tk5 _ (List.mem_of_getElem? (i := 204) (by decide +kernel))) (by decide +kernel)
theorem se_4_itemAt : Cond.selects (yX4_itemAt).cls yX4_itemAt yX4_itemAt ∈ BIG := big_of (tk5 _ (List.mem_of_getElem? (i := 205) (by decide +kernel))) (by decide +kernel)
theorem wi_4_itemAt : wI yX4_itemAt := ⟨im_4_itemAt, se_4_itemAt⟩
theorem ml_11_335 : Cond.methodLink RX11 335 yX4_itemAt ∈ BIG := big_of (tk5 _ (List.mem_of_getElem? (i := 203) (by decide +kernel))) (by decide +kernel)
theorem co_11_item : Cond.code yX11_item cX11_item 5 (some .int) ∈ BIG := big_of (tk5 _ (List.mem_of_getElem? (i := 202) (by decide +kernel))) (by decide +kernel)
theorem wb_11_item : wB yX11_item cX11_item 5 (some .int) := ⟨in_11, co_11_item⟩
theorem ds_11_item : dsc yX11_item 3 := ⟨by decide +kernel, by decide +kernel, by decide +kernel⟩
theorem im_11_item : Cond.instanceMethod yX11_item ∈ BIG := big_of (tk5 _ (List.mem_of_getElem? (i := 200) (by decide +kernel))) (by decide +kernel)
theorem se_11_item : Cond.selects (yX11_item).cls yX11_item yX11_item ∈ BIG := big_of (tk5 _ (List.mem_of_getElem? (i := 201) (by decide +kernel))) (by decide +kernel)
theorem wi_11_item : wI yX11_item := ⟨im_11_item, se_11_item⟩
theorem ml_11_338 : Cond.methodLink RX11 338 yX11_enter ∈ BIG := big_of (tk5 _ (List.mem_of_getElem? (i := 211) (by decide +kernel))) (by decide +kernel)
theorem co_11_comes : Cond.code yX11_comes cX11_comes 4 (some .int) ∈ BIG := big_of (tk5 _ (List.mem_of_getElem? (i := 210) (by decide +kernel))) (by decide +kernel)
theorem wb_11_comes : wB yX11_comes cX11_comes 4 (some .int) := ⟨in_11, co_11_comes⟩
theorem ds_11_comes : dsc yX11_comes 2 := ⟨by decide +kernel, by decide +kernel, by decide +kernel⟩
theorem im_11_comes : Cond.instanceMethod yX11_comes ∈ BIG := big_of (tk5 _ (List.mem_of_getElem? (i := 208) (by decide +kernel))) (by decide +kernel)
theorem se_11_comes : Cond.selects (yX11_comes).cls yX11_comes yX11_comes ∈ BIG := big_of (tk5 _ (List.mem_of_getElem? (i := 209) (by decide +kernel))) (by decide +kernel)
theorem wi_11_comes : wI yX11_comes := ⟨im_11_comes, se_11_comes⟩
theorem co_4_isShelf : Cond.code yX4_isShelf cX4_isShelf 2 (some .boolean) ∈ BIG := big_of (tk5 _ (List.mem_of_getElem? (i := 219) (by decide +kernel))) (by decide +kernel)
theorem wb_4_isShelf : wB yX4_isShelf cX4_isShelf 2 (some .boolean) := ⟨in_4, co_4_isShelf⟩
theorem ds_4_isShelf : dsc yX4_isShelf 1 := ⟨by decide +kernel, by decide +kernel, by decide +kernel⟩
theorem im_4_isShelf : Cond.instanceMethod yX4_isShelf ∈ BIG := big_of (tk5 _ (List.mem_of_getElem? (i := 217) (by decide +kernel))) (by decide +kernel)
theorem se_4_isShelf : Cond.selects (yX4_isShelf).cls yX4_isShelf yX4_isShelf ∈ BIG := big_of (tk5 _ (List.mem_of_getElem? (i := 218) (by decide +kernel))) (by decide +kernel)
theorem wi_4_isShelf : wI yX4_isShelf := ⟨im_4_isShelf, se_4_isShelf⟩
theorem ml_11_342 : Cond.methodLink RX11 342 yX4_isShelf ∈ BIG := big_of (tk5 _ (List.mem_of_getElem? (i := 216) (by decide +kernel))) (by decide +kernel)
theorem co_4_hold : Cond.code yX4_hold cX4_hold 5 (some .int) ∈ BIG := big_of (tk5 _ (List.mem_of_getElem? (i := 223) (by decide +kernel))) (by decide +kernel)
theorem wb_4_hold : wB yX4_hold cX4_hold 5 (some .int) := ⟨in_4, co_4_hold⟩
theorem ds_4_hold : dsc yX4_hold 4 := ⟨by decide +kernel, by decide +kernel, by decide +kernel⟩
theorem im_4_hold : Cond.instanceMethod yX4_hold ∈ BIG := big_of (tk5 _ (List.mem_of_getElem? (i := 221) (by decide +kernel))) (by decide +kernel)
theorem se_4_hold : Cond.selects (yX4_hold).cls yX4_hold yX4_hold ∈ BIG := big_of (tk5 _ (List.mem_of_getElem? (i := 222) (by decide +kernel))) (by decide +kernel)
theorem wi_4_hold : wI yX4_hold := ⟨im_4_hold, se_4_hold⟩
theorem ml_11_345 : Cond.methodLink RX11 345 yX4_hold ∈ BIG := big_of (tk5 _ (List.mem_of_getElem? (i := 220) (by decide +kernel))) (by decide +kernel)
theorem co_4_holdRow : Cond.code yX4_holdRow cX4_holdRow 3 (some .int) ∈ BIG := big_of (tk5 _ (List.mem_of_getElem? (i := 227) (by decide +kernel))) (by decide +kernel)
theorem wb_4_holdRow : wB yX4_holdRow cX4_holdRow 3 (some .int) := ⟨in_4, co_4_holdRow⟩
theorem ds_4_holdRow : dsc yX4_holdRow 2 := ⟨by decide +kernel, by decide +kernel, by decide +kernel⟩
theorem im_4_holdRow : Cond.instanceMethod yX4_holdRow ∈ BIG := big_of (tk5 _ (List.mem_of_getElem? (i := 225) (by decide +kernel))) (by decide +kernel)
theorem se_4_holdRow : Cond.selects (yX4_holdRow).cls yX4_holdRow yX4_holdRow ∈ BIG := big_of (tk5 _ (List.mem_of_getElem? (i := 226) (by decide +kernel))) (by decide +kernel)
theorem wi_4_holdRow : wI yX4_holdRow := ⟨im_4_holdRow, se_4_holdRow⟩
theorem ml_11_348 : Cond.methodLink RX11 348 yX4_holdRow ∈ BIG := big_of (tk5 _ (List.mem_of_getElem? (i := 224) (by decide +kernel))) (by decide +kernel)
theorem fl_4_19 : Cond.fieldLink RX4 19 (TX4 4).1 (TX4 4).2.1 (TX4 4).2.2.1 ∈ BIG := big_of (tk2 _ (List.mem_of_getElem? (i := 133) (by decide +kernel))) (by decide +kernel)
theorem fl_4_22 : Cond.fieldLink RX4 22 (TX4 5).1 (TX4 5).2.1 (TX4 5).2.2.1 ∈ BIG := big_of (tk2 _ (List.mem_of_getElem? (i := 134) (by decide +kernel))) (by decide +kernel)
theorem fl_4_25 : Cond.fieldLink RX4 25 (TX4 6).1 (TX4 6).2.1 (TX4 6).2.2.1 ∈ BIG := big_of (tk2 _ (List.mem_of_getElem? (i := 135) (by decide +kernel))) (by decide +kernel)
theorem ml_4_63 : Cond.methodLink RX4 63 yX4_hold ∈ BIG := big_of (tk5 _ (List.mem_of_getElem? (i := 228) (by decide +kernel))) (by decide +kernel)
theorem co_11_shelf : Cond.code yX11_shelf cX11_shelf 4 (some .int) ∈ BIG := big_of (tk5 _ (List.mem_of_getElem? (i := 215) (by decide +kernel))) (by decide +kernel)
theorem wb_11_shelf : wB yX11_shelf cX11_shelf 4 (some .int) := ⟨in_11, co_11_shelf⟩
theorem ds_11_shelf : dsc yX11_shelf 3 := ⟨by decide +kernel, by decide +kernel, by decide +kernel⟩
theorem im_11_shelf : Cond.instanceMethod yX11_shelf ∈ BIG := big_of (tk5 _ (List.mem_of_getElem? (i := 213) (by decide +kernel))) (by decide +kernel)
theorem se_11_shelf : Cond.selects (yX11_shelf).cls yX11_shelf yX11_shelf ∈ BIG := big_of (tk5 _ (List.mem_of_getElem? (i := 214) (by decide +kernel))) (by decide +kernel)
theorem wi_11_shelf : wI yX11_shelf := ⟨im_11_shelf, se_11_shelf⟩
theorem co_4_takenAsKind : Cond.code yX4_takenAsKind cX4_takenAsKind 6 (some .int) ∈ BIG := big_of (tk5 _ (List.mem_of_getElem? (i := 236) (by decide +kernel))) (by decide +kernel)
theorem wb_4_takenAsKind : wB yX4_takenAsKind cX4_takenAsKind 6 (some .int) := ⟨in_4, co_4_takenAsKind⟩
theorem ds_4_takenAsKind : dsc yX4_takenAsKind 2 := ⟨by decide +kernel, by decide +kernel, by decide +kernel⟩
theorem im_4_takenAsKind : Cond.instanceMethod yX4_takenAsKind ∈ BIG := big_of (tk5 _ (List.mem_of_getElem? (i := 234) (by decide +kernel))) (by decide +kernel)
theorem se_4_takenAsKind : Cond.selects (yX4_takenAsKind).cls yX4_takenAsKind yX4_takenAsKind ∈ BIG := big_of (tk5 _ (List.mem_of_getElem? (i := 235) (by decide +kernel))) (by decide +kernel)
theorem wi_4_takenAsKind : wI yX4_takenAsKind := ⟨im_4_takenAsKind, se_4_takenAsKind⟩
theorem ml_11_351 : Cond.methodLink RX11 351 yX4_takenAsKind ∈ BIG := big_of (tk5 _ (List.mem_of_getElem? (i := 233) (by decide +kernel))) (by decide +kernel)
theorem co_4_takenAsRow : Cond.code yX4_takenAsRow cX4_takenAsRow 3 (some .int) ∈ BIG := big_of (tk6 _ (List.mem_of_getElem? (i := 9) (by decide +kernel))) (by decide +kernel)
theorem wb_4_takenAsRow : wB yX4_takenAsRow cX4_takenAsRow 3 (some .int) := ⟨in_4, co_4_takenAsRow⟩
theorem ds_4_takenAsRow : dsc yX4_takenAsRow 2 := ⟨by decide +kernel, by decide +kernel, by decide +kernel⟩
theorem im_4_takenAsRow : Cond.instanceMethod yX4_takenAsRow ∈ BIG := big_of (tk6 _ (List.mem_of_getElem? (i := 7) (by decide +kernel))) (by decide +kernel)
theorem se_4_takenAsRow : Cond.selects (yX4_takenAsRow).cls yX4_takenAsRow yX4_takenAsRow ∈ BIG := big_of (tk6 _ (List.mem_of_getElem? (i := 8) (by decide +kernel))) (by decide +kernel)
theorem wi_4_takenAsRow : wI yX4_takenAsRow := ⟨im_4_takenAsRow, se_4_takenAsRow⟩
theorem ml_11_354 : Cond.methodLink RX11 354 yX4_takenAsRow ∈ BIG := big_of (tk6 _ (List.mem_of_getElem? (i := 6) (by decide +kernel))) (by decide +kernel)
theorem co_4_look : Cond.code yX4_look cX4_look 2 none ∈ BIG := big_of (tk6 _ (List.mem_of_getElem? (i := 0) (by decide +kernel))) (by decide +kernel)
theorem wb_4_look : wB yX4_look cX4_look 2 none := ⟨in_4, co_4_look⟩
theorem ds_4_look : dsc yX4_look 1 := ⟨by decide +kernel, by decide +kernel, by decide +kernel⟩
theorem im_4_look : Cond.instanceMethod yX4_look ∈ BIG := big_of (tk5 _ (List.mem_of_getElem? (i := 239) (by decide +kernel))) (by decide +kernel)
theorem se_4_look : Cond.selects (yX4_look).cls yX4_look yX4_look ∈ BIG := big_of (pv3 (yX4_look, 12) (List.mem_of_getElem? (i := 14) (by decide +kernel))) (by decide +kernel)
theorem wi_4_look : wI yX4_look := ⟨im_4_look, se_4_look⟩
theorem ml_4_93 : Cond.methodLink RX4 93 yX4_look ∈ BIG := big_of (tk5 _ (List.mem_of_getElem? (i := 237) (by decide +kernel))) (by decide +kernel)
theorem fl_4_45 : Cond.fieldLink RX4 45 (TX4 9).1 (TX4 9).2.1 (TX4 9).2.2.1 ∈ BIG := big_of (tk2 _ (List.mem_of_getElem? (i := 140) (by decide +kernel))) (by decide +kernel)
theorem fl_4_48 : Cond.fieldLink RX4 48 (TX4 10).1 (TX4 10).2.1 (TX4 10).2.2.1 ∈ BIG := big_of (tk2 _ (List.mem_of_getElem? (i := 141) (by decide +kernel))) (by decide +kernel)
theorem fl_4_31 : Cond.fieldLink RX4 31 (TX4 0).1 (TX4 0).2.1 (TX4 0).2.2.1 ∈ BIG := big_of (tk2 _ (List.mem_of_getElem? (i := 128) (by decide +kernel))) (by decide +kernel)
theorem fn_4_67 : (RX4, 67, (TX10 1).1, (TX10 1).2.1, (TX10 1).2.2.1, "CourtVans") ∈ NSF := List.mem_of_getElem? (i := 18) (by decide +kernel)
theorem ml_4_73 : Cond.methodLink RX4 73 yX8_has ∈ BIG := big_of (tk6 _ (List.mem_of_getElem? (i := 1) (by decide +kernel))) (by decide +kernel)
theorem ml_4_79 : Cond.methodLink RX4 79 yX8_cell ∈ BIG := big_of (tk6 _ (List.mem_of_getElem? (i := 2) (by decide +kernel))) (by decide +kernel)
theorem co_4_kindOf : Cond.code yX4_kindOf cX4_kindOf 1 (some .int) ∈ BIG := big_of (tk6 _ (List.mem_of_getElem? (i := 5) (by decide +kernel))) (by decide +kernel)
theorem wb_4_kindOf : wB yX4_kindOf cX4_kindOf 1 (some .int) := ⟨in_4, co_4_kindOf⟩
theorem ds_4_kindOf : dsc yX4_kindOf 1 := ⟨by decide +kernel, by decide +kernel, by decide +kernel⟩
theorem st_4_kindOf : Cond.static yX4_kindOf ∈ BIG := big_of (tk6 _ (List.mem_of_getElem? (i := 4) (by decide +kernel))) (by decide +kernel)
theorem ml_4_83 : Cond.methodLink RX4 83 yX4_kindOf ∈ BIG := big_of (tk6 _ (List.mem_of_getElem? (i := 3) (by decide +kernel))) (by decide +kernel)
theorem fn_4_87 : (RX4, 87, (TX10 2).1, (TX10 2).2.1, (TX10 2).2.2.1, "CourtVans") ∈ NSF := List.mem_of_getElem? (i := 22) (by decide +kernel)
theorem fn_4_90 : (RX4, 90, (TX10 5).1, (TX10 5).2.1, (TX10 5).2.2.1, "CourtVans") ∈ NSF := List.mem_of_getElem? (i := 29) (by decide +kernel)
theorem fl_4_51 : Cond.fieldLink RX4 51 (TX4 11).1 (TX4 11).2.1 (TX4 11).2.2.1 ∈ BIG := big_of (tk2 _ (List.mem_of_getElem? (i := 142) (by decide +kernel))) (by decide +kernel)
theorem co_11_taken : Cond.code yX11_taken cX11_taken 3 (some .int) ∈ BIG := big_of (tk5 _ (List.mem_of_getElem? (i := 232) (by decide +kernel))) (by decide +kernel)
theorem wb_11_taken : wB yX11_taken cX11_taken 3 (some .int) := ⟨in_11, co_11_taken⟩
theorem ds_11_taken : dsc yX11_taken 2 := ⟨by decide +kernel, by decide +kernel, by decide +kernel⟩
theorem im_11_taken : Cond.instanceMethod yX11_taken ∈ BIG := big_of (tk5 _ (List.mem_of_getElem? (i := 230) (by decide +kernel))) (by decide +kernel)
theorem se_11_taken : Cond.selects (yX11_taken).cls yX11_taken yX11_taken ∈ BIG := big_of (tk5 _ (List.mem_of_getElem? (i := 231) (by decide +kernel))) (by decide +kernel)
theorem wi_11_taken : wI yX11_taken := ⟨im_11_taken, se_11_taken⟩
theorem fn_11_357 : (RX11, 357, (TX4 8).1, (TX4 8).2.1, (TX4 8).2.2.1, "CourtVans") ∈ NSF := List.mem_of_getElem? (i := 52) (by decide +kernel)
theorem co_4_run : Cond.code yX4_run cX4_run 4 (some .int) ∈ BIG := big_of (tk6 _ (List.mem_of_getElem? (i := 17) (by decide +kernel))) (by decide +kernel)
theorem wb_4_run : wB yX4_run cX4_run 4 (some .int) := ⟨in_4, co_4_run⟩
theorem ds_4_run : dsc yX4_run 3 := ⟨by decide +kernel, by decide +kernel, by decide +kernel⟩
theorem im_4_run : Cond.instanceMethod yX4_run ∈ BIG := big_of (tk6 _ (List.mem_of_getElem? (i := 15) (by decide +kernel))) (by decide +kernel)
theorem se_4_run : Cond.selects (yX4_run).cls yX4_run yX4_run ∈ BIG := big_of (tk6 _ (List.mem_of_getElem? (i := 16) (by decide +kernel))) (by decide +kernel)
theorem wi_4_run : wI yX4_run := ⟨im_4_run, se_4_run⟩
theorem ml_11_360 : Cond.methodLink RX11 360 yX4_run ∈ BIG := big_of (tk6 _ (List.mem_of_getElem? (i := 14) (by decide +kernel))) (by decide +kernel)
theorem fl_4_41 : Cond.fieldLink RX4 41 (TX4 8).1 (TX4 8).2.1 (TX4 8).2.2.1 ∈ BIG := big_of (tk2 _ (List.mem_of_getElem? (i := 138) (by decide +kernel))) (by decide +kernel)
theorem co_4_counts : Cond.code yX4_counts cX4_counts 2 (some .int) ∈ BIG := big_of (tk6 _ (List.mem_of_getElem? (i := 21) (by decide +kernel))) (by decide +kernel)
theorem wb_4_counts : wB yX4_counts cX4_counts 2 (some .int) := ⟨in_4, co_4_counts⟩
theorem ds_4_counts : dsc yX4_counts 1 := ⟨by decide +kernel, by decide +kernel, by decide +kernel⟩
theorem im_4_counts : Cond.instanceMethod yX4_counts ∈ BIG := big_of (tk6 _ (List.mem_of_getElem? (i := 20) (by decide +kernel))) (by decide +kernel)
theorem se_4_counts : Cond.selects (yX4_counts).cls yX4_counts yX4_counts ∈ BIG := big_of (pv3 (yX4_counts, 12) (List.mem_of_getElem? (i := 15) (by decide +kernel))) (by decide +kernel)
theorem wi_4_counts : wI yX4_counts := ⟨im_4_counts, se_4_counts⟩
theorem ml_4_97 : Cond.methodLink RX4 97 yX4_counts ∈ BIG := big_of (tk6 _ (List.mem_of_getElem? (i := 18) (by decide +kernel))) (by decide +kernel)
theorem co_4_holds : Cond.code yX4_holds cX4_holds 2 (some .int) ∈ BIG := big_of (tk6 _ (List.mem_of_getElem? (i := 29) (by decide +kernel))) (by decide +kernel)
theorem wb_4_holds : wB yX4_holds cX4_holds 2 (some .int) := ⟨in_4, co_4_holds⟩
theorem ds_4_holds : dsc yX4_holds 1 := ⟨by decide +kernel, by decide +kernel, by decide +kernel⟩
theorem im_4_holds : Cond.instanceMethod yX4_holds ∈ BIG := big_of (tk6 _ (List.mem_of_getElem? (i := 28) (by decide +kernel))) (by decide +kernel)
theorem se_4_holds : Cond.selects (yX4_holds).cls yX4_holds yX4_holds ∈ BIG := big_of (pv4 (yX4_holds, 12) (List.mem_of_getElem? (i := 1) (by decide +kernel))) (by decide +kernel)
theorem wi_4_holds : wI yX4_holds := ⟨im_4_holds, se_4_holds⟩
theorem ml_4_100 : Cond.methodLink RX4 100 yX4_holds ∈ BIG := big_of (tk6 _ (List.mem_of_getElem? (i := 26) (by decide +kernel))) (by decide +kernel)
theorem co_4_owes : Cond.code yX4_owes cX4_owes 4 (some .int) ∈ BIG := big_of (tk6 _ (List.mem_of_getElem? (i := 33) (by decide +kernel))) (by decide +kernel)
theorem wb_4_owes : wB yX4_owes cX4_owes 4 (some .int) := ⟨in_4, co_4_owes⟩
theorem ds_4_owes : dsc yX4_owes 1 := ⟨by decide +kernel, by decide +kernel, by decide +kernel⟩
theorem im_4_owes : Cond.instanceMethod yX4_owes ∈ BIG := big_of (tk6 _ (List.mem_of_getElem? (i := 32) (by decide +kernel))) (by decide +kernel)
theorem se_4_owes : Cond.selects (yX4_owes).cls yX4_owes yX4_owes ∈ BIG := big_of (pv4 (yX4_owes, 12) (List.mem_of_getElem? (i := 2) (by decide +kernel))) (by decide +kernel)
theorem wi_4_owes : wI yX4_owes := ⟨im_4_owes, se_4_owes⟩
theorem ml_4_103 : Cond.methodLink RX4 103 yX4_owes ∈ BIG := big_of (tk6 _ (List.mem_of_getElem? (i := 30) (by decide +kernel))) (by decide +kernel)
theorem co_4_tells : Cond.code yX4_tells cX4_tells 4 (some .int) ∈ BIG := big_of (tk6 _ (List.mem_of_getElem? (i := 37) (by decide +kernel))) (by decide +kernel)
theorem wb_4_tells : wB yX4_tells cX4_tells 4 (some .int) := ⟨in_4, co_4_tells⟩
theorem ds_4_tells : dsc yX4_tells 1 := ⟨by decide +kernel, by decide +kernel, by decide +kernel⟩
theorem im_4_tells : Cond.instanceMethod yX4_tells ∈ BIG := big_of (tk6 _ (List.mem_of_getElem? (i := 36) (by decide +kernel))) (by decide +kernel)
theorem se_4_tells : Cond.selects (yX4_tells).cls yX4_tells yX4_tells ∈ BIG := big_of (pv4 (yX4_tells, 12) (List.mem_of_getElem? (i := 3) (by decide +kernel))) (by decide +kernel)
theorem wi_4_tells : wI yX4_tells := ⟨im_4_tells, se_4_tells⟩
theorem ml_4_106 : Cond.methodLink RX4 106 yX4_tells ∈ BIG := big_of (tk6 _ (List.mem_of_getElem? (i := 34) (by decide +kernel))) (by decide +kernel)
theorem co_4_mark : Cond.code yX4_mark cX4_mark 2 none ∈ BIG := big_of (tk6 _ (List.mem_of_getElem? (i := 25) (by decide +kernel))) (by decide +kernel)
theorem wb_4_mark : wB yX4_mark cX4_mark 2 none := ⟨in_4, co_4_mark⟩
theorem ds_4_mark : dsc yX4_mark 1 := ⟨by decide +kernel, by decide +kernel, by decide +kernel⟩
theorem im_4_mark : Cond.instanceMethod yX4_mark ∈ BIG := big_of (tk6 _ (List.mem_of_getElem? (i := 24) (by decide +kernel))) (by decide +kernel)
theorem se_4_mark : Cond.selects (yX4_mark).cls yX4_mark yX4_mark ∈ BIG := big_of (pv4 (yX4_mark, 12) (List.mem_of_getElem? (i := 0) (by decide +kernel))) (by decide +kernel)
theorem wi_4_mark : wI yX4_mark := ⟨im_4_mark, se_4_mark⟩
theorem ml_4_109 : Cond.methodLink RX4 109 yX4_mark ∈ BIG := big_of (tk6 _ (List.mem_of_getElem? (i := 22) (by decide +kernel))) (by decide +kernel)
theorem fl_4_28 : Cond.fieldLink RX4 28 (TX4 7).1 (TX4 7).2.1 (TX4 7).2.2.1 ∈ BIG := big_of (tk2 _ (List.mem_of_getElem? (i := 136) (by decide +kernel))) (by decide +kernel)
theorem co_11_act : Cond.code yX11_act cX11_act 4 (some .int) ∈ BIG := big_of (tk6 _ (List.mem_of_getElem? (i := 13) (by decide +kernel))) (by decide +kernel)
theorem wb_11_act : wB yX11_act cX11_act 4 (some .int) := ⟨in_11, co_11_act⟩
theorem ds_11_act : dsc yX11_act 3 := ⟨by decide +kernel, by decide +kernel, by decide +kernel⟩
theorem im_11_act : Cond.instanceMethod yX11_act ∈ BIG := big_of (tk6 _ (List.mem_of_getElem? (i := 11) (by decide +kernel))) (by decide +kernel)
theorem se_11_act : Cond.selects (yX11_act).cls yX11_act yX11_act ∈ BIG := big_of (tk6 _ (List.mem_of_getElem? (i := 12) (by decide +kernel))) (by decide +kernel)
theorem wi_11_act : wI yX11_act := ⟨im_11_act, se_11_act⟩
theorem fn_11_363 : (RX11, 363, (TX4 7).1, (TX4 7).2.1, (TX4 7).2.2.1, "CourtVans") ∈ NSF := List.mem_of_getElem? (i := 51) (by decide +kernel)
theorem co_11_trace : Cond.code yX11_trace cX11_trace 2 (some .int) ∈ BIG := big_of (tk6 _ (List.mem_of_getElem? (i := 41) (by decide +kernel))) (by decide +kernel)
theorem wb_11_trace : wB yX11_trace cX11_trace 2 (some .int) := ⟨in_11, co_11_trace⟩
theorem ds_11_trace : dsc yX11_trace 1 := ⟨by decide +kernel, by decide +kernel, by decide +kernel⟩
theorem im_11_trace : Cond.instanceMethod yX11_trace ∈ BIG := big_of (tk6 _ (List.mem_of_getElem? (i := 39) (by decide +kernel))) (by decide +kernel)
theorem se_11_trace : Cond.selects (yX11_trace).cls yX11_trace yX11_trace ∈ BIG := big_of (tk6 _ (List.mem_of_getElem? (i := 40) (by decide +kernel))) (by decide +kernel)
theorem wi_11_trace : wI yX11_trace := ⟨im_11_trace, se_11_trace⟩
theorem fn_11_366 : (RX11, 366, (TX7 1).1, (TX7 1).2.1, (TX7 1).2.2.1, "CourtVans") ∈ NSF := List.mem_of_getElem? (i := 47) (by decide +kernel)
theorem co_11_many : Cond.code yX11_many cX11_many 2 (some .int) ∈ BIG := big_of (tk6 _ (List.mem_of_getElem? (i := 45) (by decide +kernel))) (by decide +kernel)
theorem wb_11_many : wB yX11_many cX11_many 2 (some .int) := ⟨in_11, co_11_many⟩
theorem ds_11_many : dsc yX11_many 1 := ⟨by decide +kernel, by decide +kernel, by decide +kernel⟩
theorem im_11_many : Cond.instanceMethod yX11_many ∈ BIG := big_of (tk6 _ (List.mem_of_getElem? (i := 43) (by decide +kernel))) (by decide +kernel)
theorem se_11_many : Cond.selects (yX11_many).cls yX11_many yX11_many ∈ BIG := big_of (tk6 _ (List.mem_of_getElem? (i := 44) (by decide +kernel))) (by decide +kernel)
theorem wi_11_many : wI yX11_many := ⟨im_11_many, se_11_many⟩
theorem fl_11_16 : Cond.fieldLink RX11 16 (TX11 1).1 (TX11 1).2.1 (TX11 1).2.2.1 ∈ BIG := big_of (tk2 _ (List.mem_of_getElem? (i := 169) (by decide +kernel))) (by decide +kernel)
theorem co_10_become : Cond.code yX10_become cX10_become 2 none ∈ BIG := big_of (tk6 _ (List.mem_of_getElem? (i := 53) (by decide +kernel))) (by decide +kernel)
theorem wb_10_become : wB yX10_become cX10_become 2 none := ⟨in_10, co_10_become⟩
theorem ds_10_become : dsc yX10_become 1 := ⟨by decide +kernel, by decide +kernel, by decide +kernel⟩
theorem im_10_become : Cond.instanceMethod yX10_become ∈ BIG := big_of (tk6 _ (List.mem_of_getElem? (i := 51) (by decide +kernel))) (by decide +kernel)
theorem se_10_become : Cond.selects (yX10_become).cls yX10_become yX10_become ∈ BIG := big_of (tk6 _ (List.mem_of_getElem? (i := 52) (by decide +kernel))) (by decide +kernel)
theorem wi_10_become : wI yX10_become := ⟨im_10_become, se_10_become⟩
theorem ml_11_367 : Cond.methodLink RX11 367 yX10_become ∈ BIG := big_of (tk6 _ (List.mem_of_getElem? (i := 50) (by decide +kernel))) (by decide +kernel)
theorem fl_11_90 : Cond.fieldLink RX11 90 (TX11 2).1 (TX11 2).2.1 (TX11 2).2.2.1 ∈ BIG := big_of (tk2 _ (List.mem_of_getElem? (i := 170) (by decide +kernel))) (by decide +kernel)
theorem ml_10_64 : Cond.methodLink RX10 64 yX8_become ∈ BIG := big_of (tk6 _ (List.mem_of_getElem? (i := 54) (by decide +kernel))) (by decide +kernel)
theorem fl_10_23 : Cond.fieldLink RX10 23 (TX10 2).1 (TX10 2).2.1 (TX10 2).2.2.1 ∈ BIG := big_of (tk1 _ (List.mem_of_getElem? (i := 84) (by decide +kernel))) (by decide +kernel)
theorem fl_10_26 : Cond.fieldLink RX10 26 (TX10 3).1 (TX10 3).2.1 (TX10 3).2.2.1 ∈ BIG := big_of (tk1 _ (List.mem_of_getElem? (i := 89) (by decide +kernel))) (by decide +kernel)
theorem fl_10_29 : Cond.fieldLink RX10 29 (TX10 4).1 (TX10 4).2.1 (TX10 4).2.2.1 ∈ BIG := big_of (tk1 _ (List.mem_of_getElem? (i := 93) (by decide +kernel))) (by decide +kernel)
theorem fl_10_35 : Cond.fieldLink RX10 35 (TX10 6).1 (TX10 6).2.1 (TX10 6).2.2.1 ∈ BIG := big_of (tk1 _ (List.mem_of_getElem? (i := 99) (by decide +kernel))) (by decide +kernel)
theorem mn_10_68 : (RX10, 68, yX11_copy, "CourtVans") ∈ NSM := List.mem_of_getElem? (i := 17) (by decide +kernel)
theorem fl_10_61 : Cond.fieldLink RX10 61 (TX10 12).1 (TX10 12).2.1 (TX10 12).2.2.1 ∈ BIG := big_of (tk1 _ (List.mem_of_getElem? (i := 111) (by decide +kernel))) (by decide +kernel)
theorem co_11_keep : Cond.code yX11_keep cX11_keep 1 (some .int) ∈ BIG := big_of (tk6 _ (List.mem_of_getElem? (i := 49) (by decide +kernel))) (by decide +kernel)
theorem wb_11_keep : wB yX11_keep cX11_keep 1 (some .int) := ⟨in_11, co_11_keep⟩
theorem ds_11_keep : dsc yX11_keep 0 := ⟨by decide +kernel, by decide +kernel, by decide +kernel⟩
theorem im_11_keep : Cond.instanceMethod yX11_keep ∈ BIG := big_of (tk6 _ (List.mem_of_getElem? (i := 47) (by decide +kernel))) (by decide +kernel)
theorem se_11_keep : Cond.selects (yX11_keep).cls yX11_keep yX11_keep ∈ BIG := big_of (tk6 _ (List.mem_of_getElem? (i := 48) (by decide +kernel))) (by decide +kernel)
theorem wi_11_keep : wI yX11_keep := ⟨im_11_keep, se_11_keep⟩
theorem co_11_again : Cond.code yX11_again cX11_again 1 (some .int) ∈ BIG := big_of (tk6 _ (List.mem_of_getElem? (i := 59) (by decide +kernel))) (by decide +kernel)
theorem wb_11_again : wB yX11_again cX11_again 1 (some .int) := ⟨in_11, co_11_again⟩
theorem ds_11_again : dsc yX11_again 0 := ⟨by decide +kernel, by decide +kernel, by decide +kernel⟩
theorem im_11_again : Cond.instanceMethod yX11_again ∈ BIG := big_of (tk6 _ (List.mem_of_getElem? (i := 57) (by decide +kernel))) (by decide +kernel)
theorem se_11_again : Cond.selects (yX11_again).cls yX11_again yX11_again ∈ BIG := big_of (tk6 _ (List.mem_of_getElem? (i := 58) (by decide +kernel))) (by decide +kernel)
theorem wi_11_again : wI yX11_again := ⟨im_11_again, se_11_again⟩
theorem in_12 : Cond.initialized RX12 ∈ BIG := big_of (tk1 _ (List.mem_of_getElem? (i := 15) (by decide +kernel))) (by decide +kernel)
theorem co_12_in : Cond.code yX12_in cX12_in 3 (some .boolean) ∈ BIG := big_of (tk7 _ (List.mem_of_getElem? (i := 25) (by decide +kernel))) (by decide +kernel)
theorem wb_12_in : wB yX12_in cX12_in 3 (some .boolean) := ⟨in_12, co_12_in⟩
theorem ds_12_in : dsc yX12_in 3 := ⟨by decide +kernel, by decide +kernel, by decide +kernel⟩
theorem st_12_in : Cond.static yX12_in ∈ BIG := big_of (tk7 _ (List.mem_of_getElem? (i := 24) (by decide +kernel))) (by decide +kernel)
theorem ml_12_139 : Cond.methodLink RX12 139 yX12_in ∈ BIG := big_of (tk7 _ (List.mem_of_getElem? (i := 23) (by decide +kernel))) (by decide +kernel)
theorem co_12_isMinute : Cond.code yX12_isMinute cX12_isMinute 1 (some .boolean) ∈ BIG := big_of (tk7 _ (List.mem_of_getElem? (i := 52) (by decide +kernel))) (by decide +kernel)
theorem wb_12_isMinute : wB yX12_isMinute cX12_isMinute 1 (some .boolean) := ⟨in_12, co_12_isMinute⟩
theorem ds_12_isMinute : dsc yX12_isMinute 1 := ⟨by decide +kernel, by decide +kernel, by decide +kernel⟩
theorem st_12_isMinute : Cond.static yX12_isMinute ∈ BIG := big_of (tk7 _ (List.mem_of_getElem? (i := 51) (by decide +kernel))) (by decide +kernel)
theorem fl_12_7 : Cond.fieldLink RX12 7 (TX12 0).1 (TX12 0).2.1 (TX12 0).2.2.1 ∈ BIG := big_of (tk6 _ (List.mem_of_getElem? (i := 66) (by decide +kernel))) (by decide +kernel)
theorem co_12_isPlace : Cond.code yX12_isPlace cX12_isPlace 2 (some .boolean) ∈ BIG := big_of (tk7 _ (List.mem_of_getElem? (i := 41) (by decide +kernel))) (by decide +kernel)
theorem wb_12_isPlace : wB yX12_isPlace cX12_isPlace 2 (some .boolean) := ⟨in_12, co_12_isPlace⟩
theorem ds_12_isPlace : dsc yX12_isPlace 1 := ⟨by decide +kernel, by decide +kernel, by decide +kernel⟩
theorem im_12_isPlace : Cond.instanceMethod yX12_isPlace ∈ BIG := big_of (tk7 _ (List.mem_of_getElem? (i := 40) (by decide +kernel))) (by decide +kernel)
theorem se_12_isPlace : Cond.selects (yX12_isPlace).cls yX12_isPlace yX12_isPlace ∈ BIG := big_of (pv4 (yX12_isPlace, 64) (List.mem_of_getElem? (i := 5) (by decide +kernel))) (by decide +kernel)
theorem wi_12_isPlace : wI yX12_isPlace := ⟨im_12_isPlace, se_12_isPlace⟩
theorem ml_12_143 : Cond.methodLink RX12 143 yX12_isPlace ∈ BIG := big_of (tk7 _ (List.mem_of_getElem? (i := 38) (by decide +kernel))) (by decide +kernel)
theorem fl_12_13 : Cond.fieldLink RX12 13 (TX12 1).1 (TX12 1).2.1 (TX12 1).2.2.1 ∈ BIG := big_of (tk6 _ (List.mem_of_getElem? (i := 67) (by decide +kernel))) (by decide +kernel)
theorem co_12_isHome : Cond.code yX12_isHome cX12_isHome 2 (some .boolean) ∈ BIG := big_of (tk7 _ (List.mem_of_getElem? (i := 64) (by decide +kernel))) (by decide +kernel)
theorem wb_12_isHome : wB yX12_isHome cX12_isHome 2 (some .boolean) := ⟨in_12, co_12_isHome⟩
theorem ds_12_isHome : dsc yX12_isHome 1 := ⟨by decide +kernel, by decide +kernel, by decide +kernel⟩
theorem im_12_isHome : Cond.instanceMethod yX12_isHome ∈ BIG := big_of (tk7 _ (List.mem_of_getElem? (i := 63) (by decide +kernel))) (by decide +kernel)
theorem se_12_isHome : Cond.selects (yX12_isHome).cls yX12_isHome yX12_isHome ∈ BIG := big_of (pv4 (yX12_isHome, 64) (List.mem_of_getElem? (i := 7) (by decide +kernel))) (by decide +kernel)
theorem wi_12_isHome : wI yX12_isHome := ⟨im_12_isHome, se_12_isHome⟩
theorem co_12_isCourt : Cond.code yX12_isCourt cX12_isCourt 2 (some .boolean) ∈ BIG := big_of (tk7 _ (List.mem_of_getElem? (i := 68) (by decide +kernel))) (by decide +kernel)
theorem wb_12_isCourt : wB yX12_isCourt cX12_isCourt 2 (some .boolean) := ⟨in_12, co_12_isCourt⟩
theorem ds_12_isCourt : dsc yX12_isCourt 1 := ⟨by decide +kernel, by decide +kernel, by decide +kernel⟩
theorem im_12_isCourt : Cond.instanceMethod yX12_isCourt ∈ BIG := big_of (tk7 _ (List.mem_of_getElem? (i := 67) (by decide +kernel))) (by decide +kernel)
theorem se_12_isCourt : Cond.selects (yX12_isCourt).cls yX12_isCourt yX12_isCourt ∈ BIG := big_of (pv4 (yX12_isCourt, 64) (List.mem_of_getElem? (i := 8) (by decide +kernel))) (by decide +kernel)
theorem wi_12_isCourt : wI yX12_isCourt := ⟨im_12_isCourt, se_12_isCourt⟩
theorem co_12_isPerson : Cond.code yX12_isPerson cX12_isPerson 2 (some .boolean) ∈ BIG := big_of (tk7 _ (List.mem_of_getElem? (i := 84) (by decide +kernel))) (by decide +kernel)
theorem wb_12_isPerson : wB yX12_isPerson cX12_isPerson 2 (some .boolean) := ⟨in_12, co_12_isPerson⟩
theorem ds_12_isPerson : dsc yX12_isPerson 1 := ⟨by decide +kernel, by decide +kernel, by decide +kernel⟩
theorem im_12_isPerson : Cond.instanceMethod yX12_isPerson ∈ BIG := big_of (tk7 _ (List.mem_of_getElem? (i := 83) (by decide +kernel))) (by decide +kernel)
theorem se_12_isPerson : Cond.selects (yX12_isPerson).cls yX12_isPerson yX12_isPerson ∈ BIG := big_of (pv4 (yX12_isPerson, 64) (List.mem_of_getElem? (i := 10) (by decide +kernel))) (by decide +kernel)
theorem wi_12_isPerson : wI yX12_isPerson := ⟨im_12_isPerson, se_12_isPerson⟩
theorem co_12_isVan : Cond.code yX12_isVan cX12_isVan 2 (some .boolean) ∈ BIG := big_of (tk7 _ (List.mem_of_getElem? (i := 116) (by decide +kernel))) (by decide +kernel)
theorem wb_12_isVan : wB yX12_isVan cX12_isVan 2 (some .boolean) := ⟨in_12, co_12_isVan⟩
theorem ds_12_isVan : dsc yX12_isVan 1 := ⟨by decide +kernel, by decide +kernel, by decide +kernel⟩
theorem im_12_isVan : Cond.instanceMethod yX12_isVan ∈ BIG := big_of (tk7 _ (List.mem_of_getElem? (i := 115) (by decide +kernel))) (by decide +kernel)
theorem se_12_isVan : Cond.selects (yX12_isVan).cls yX12_isVan yX12_isVan ∈ BIG := big_of (pv4 (yX12_isVan, 64) (List.mem_of_getElem? (i := 13) (by decide +kernel))) (by decide +kernel)
theorem wi_12_isVan : wI yX12_isVan := ⟨im_12_isVan, se_12_isVan⟩
theorem fl_12_22 : Cond.fieldLink RX12 22 (TX12 4).1 (TX12 4).2.1 (TX12 4).2.2.1 ∈ BIG := big_of (tk6 _ (List.mem_of_getElem? (i := 70) (by decide +kernel))) (by decide +kernel)
theorem co_12_get : Cond.code yX12_get cX12_get 3 (some .int) ∈ BIG := big_of (tk7 _ (List.mem_of_getElem? (i := 88) (by decide +kernel))) (by decide +kernel)
theorem wb_12_get : wB yX12_get cX12_get 3 (some .int) := ⟨in_12, co_12_get⟩
theorem ds_12_get : dsc yX12_get 2 := ⟨by decide +kernel, by decide +kernel, by decide +kernel⟩
theorem im_12_get : Cond.instanceMethod yX12_get ∈ BIG := big_of (tk7 _ (List.mem_of_getElem? (i := 87) (by decide +kernel))) (by decide +kernel)
theorem se_12_get : Cond.selects (yX12_get).cls yX12_get yX12_get ∈ BIG := big_of (pv4 (yX12_get, 64) (List.mem_of_getElem? (i := 11) (by decide +kernel))) (by decide +kernel)
theorem wi_12_get : wI yX12_get := ⟨im_12_get, se_12_get⟩
theorem co_12_from : Cond.code yX12_from cX12_from 2 (some .int) ∈ BIG := big_of (tk7 _ (List.mem_of_getElem? (i := 144) (by decide +kernel))) (by decide +kernel)
theorem wb_12_from : wB yX12_from cX12_from 2 (some .int) := ⟨in_12, co_12_from⟩
theorem ds_12_from : dsc yX12_from 1 := ⟨by decide +kernel, by decide +kernel, by decide +kernel⟩
theorem im_12_from : Cond.instanceMethod yX12_from ∈ BIG := big_of (tk7 _ (List.mem_of_getElem? (i := 143) (by decide +kernel))) (by decide +kernel)
theorem se_12_from : Cond.selects (yX12_from).cls yX12_from yX12_from ∈ BIG := big_of (pv5 (yX12_from, 64) (List.mem_of_getElem? (i := 3) (by decide +kernel))) (by decide +kernel)
theorem wi_12_from : wI yX12_from := ⟨im_12_from, se_12_from⟩
theorem co_12_till : Cond.code yX12_till cX12_till 2 (some .int) ∈ BIG := big_of (tk7 _ (List.mem_of_getElem? (i := 148) (by decide +kernel))) (by decide +kernel)
theorem wb_12_till : wB yX12_till cX12_till 2 (some .int) := ⟨in_12, co_12_till⟩
theorem ds_12_till : dsc yX12_till 1 := ⟨by decide +kernel, by decide +kernel, by decide +kernel⟩
theorem im_12_till : Cond.instanceMethod yX12_till ∈ BIG := big_of (tk7 _ (List.mem_of_getElem? (i := 147) (by decide +kernel))) (by decide +kernel)
theorem se_12_till : Cond.selects (yX12_till).cls yX12_till yX12_till ∈ BIG := big_of (pv5 (yX12_till, 64) (List.mem_of_getElem? (i := 4) (by decide +kernel))) (by decide +kernel)
theorem wi_12_till : wI yX12_till := ⟨im_12_till, se_12_till⟩
theorem co_12_areSome : Cond.code yX12_areSome cX12_areSome 2 (some .boolean) ∈ BIG := big_of (tk7 _ (List.mem_of_getElem? (i := 128) (by decide +kernel))) (by decide +kernel)
theorem wb_12_areSome : wB yX12_areSome cX12_areSome 2 (some .boolean) := ⟨in_12, co_12_areSome⟩
theorem ds_12_areSome : dsc yX12_areSome 1 := ⟨by decide +kernel, by decide +kernel, by decide +kernel⟩
theorem im_12_areSome : Cond.instanceMethod yX12_areSome ∈ BIG := big_of (tk7 _ (List.mem_of_getElem? (i := 127) (by decide +kernel))) (by decide +kernel)
theorem se_12_areSome : Cond.selects (yX12_areSome).cls yX12_areSome yX12_areSome ∈ BIG := big_of (pv4 (yX12_areSome, 64) (List.mem_of_getElem? (i := 15) (by decide +kernel))) (by decide +kernel)
theorem wi_12_areSome : wI yX12_areSome := ⟨im_12_areSome, se_12_areSome⟩
theorem co_12_bits : Cond.code yX12_bits cX12_bits 3 (some .int) ∈ BIG := big_of (tk7 _ (List.mem_of_getElem? (i := 203) (by decide +kernel))) (by decide +kernel)
theorem wb_12_bits : wB yX12_bits cX12_bits 3 (some .int) := ⟨in_12, co_12_bits⟩
theorem ds_12_bits : dsc yX12_bits 1 := ⟨by decide +kernel, by decide +kernel, by decide +kernel⟩
theorem st_12_bits : Cond.static yX12_bits ∈ BIG := big_of (tk7 _ (List.mem_of_getElem? (i := 202) (by decide +kernel))) (by decide +kernel)
theorem co_12_minutes : Cond.code yX12_minutes cX12_minutes 2 (some .int) ∈ BIG := big_of (tk7 _ (List.mem_of_getElem? (i := 22) (by decide +kernel))) (by decide +kernel)
theorem wb_12_minutes : wB yX12_minutes cX12_minutes 2 (some .int) := ⟨in_12, co_12_minutes⟩
theorem ds_12_minutes : dsc yX12_minutes 1 := ⟨by decide +kernel, by decide +kernel, by decide +kernel⟩
theorem im_12_minutes : Cond.instanceMethod yX12_minutes ∈ BIG := big_of (tk7 _ (List.mem_of_getElem? (i := 20) (by decide +kernel))) (by decide +kernel)
theorem se_12_minutes : Cond.selects (yX12_minutes).cls yX12_minutes yX12_minutes ∈ BIG := big_of (tk7 _ (List.mem_of_getElem? (i := 21) (by decide +kernel))) (by decide +kernel)
theorem wi_12_minutes : wI yX12_minutes := ⟨im_12_minutes, se_12_minutes⟩
theorem co_12_place : Cond.code yX12_place cX12_place 6 (some .int) ∈ BIG := big_of (tk7 _ (List.mem_of_getElem? (i := 29) (by decide +kernel))) (by decide +kernel)
theorem wb_12_place : wB yX12_place cX12_place 6 (some .int) := ⟨in_12, co_12_place⟩
theorem ds_12_place : dsc yX12_place 4 := ⟨by decide +kernel, by decide +kernel, by decide +kernel⟩
theorem im_12_place : Cond.instanceMethod yX12_place ∈ BIG := big_of (tk7 _ (List.mem_of_getElem? (i := 27) (by decide +kernel))) (by decide +kernel)
theorem se_12_place : Cond.selects (yX12_place).cls yX12_place yX12_place ∈ BIG := big_of (tk7 _ (List.mem_of_getElem? (i := 28) (by decide +kernel))) (by decide +kernel)
theorem wi_12_place : wI yX12_place := ⟨im_12_place, se_12_place⟩
theorem co_12_areTwo : Cond.code yX12_areTwo cX12_areTwo 3 (some .boolean) ∈ BIG := big_of (tk7 _ (List.mem_of_getElem? (i := 37) (by decide +kernel))) (by decide +kernel)
theorem wb_12_areTwo : wB yX12_areTwo cX12_areTwo 3 (some .boolean) := ⟨in_12, co_12_areTwo⟩
theorem ds_12_areTwo : dsc yX12_areTwo 2 := ⟨by decide +kernel, by decide +kernel, by decide +kernel⟩
theorem im_12_areTwo : Cond.instanceMethod yX12_areTwo ∈ BIG := big_of (tk7 _ (List.mem_of_getElem? (i := 36) (by decide +kernel))) (by decide +kernel)
theorem se_12_areTwo : Cond.selects (yX12_areTwo).cls yX12_areTwo yX12_areTwo ∈ BIG := big_of (pv4 (yX12_areTwo, 64) (List.mem_of_getElem? (i := 4) (by decide +kernel))) (by decide +kernel)
theorem wi_12_areTwo : wI yX12_areTwo := ⟨im_12_areTwo, se_12_areTwo⟩
theorem ml_12_147 : Cond.methodLink RX12 147 yX12_areTwo ∈ BIG := big_of (tk7 _ (List.mem_of_getElem? (i := 34) (by decide +kernel))) (by decide +kernel)
theorem fl_12_16 : Cond.fieldLink RX12 16 (TX12 2).1 (TX12 2).2.1 (TX12 2).2.2.1 ∈ BIG := big_of (tk6 _ (List.mem_of_getElem? (i := 68) (by decide +kernel))) (by decide +kernel)
theorem co_12_road : Cond.code yX12_road cX12_road 5 (some .int) ∈ BIG := big_of (tk7 _ (List.mem_of_getElem? (i := 33) (by decide +kernel))) (by decide +kernel)
theorem wb_12_road : wB yX12_road cX12_road 5 (some .int) := ⟨in_12, co_12_road⟩
theorem ds_12_road : dsc yX12_road 3 := ⟨by decide +kernel, by decide +kernel, by decide +kernel⟩
theorem im_12_road : Cond.instanceMethod yX12_road ∈ BIG := big_of (tk7 _ (List.mem_of_getElem? (i := 31) (by decide +kernel))) (by decide +kernel)
theorem se_12_road : Cond.selects (yX12_road).cls yX12_road yX12_road ∈ BIG := big_of (tk7 _ (List.mem_of_getElem? (i := 32) (by decide +kernel))) (by decide +kernel)
theorem wi_12_road : wI yX12_road := ⟨im_12_road, se_12_road⟩
theorem fl_12_19 : Cond.fieldLink RX12 19 (TX12 3).1 (TX12 3).2.1 (TX12 3).2.2.1 ∈ BIG := big_of (tk6 _ (List.mem_of_getElem? (i := 69) (by decide +kernel))) (by decide +kernel)
theorem co_12_traffic : Cond.code yX12_traffic cX12_traffic 4 (some .int) ∈ BIG := big_of (tk7 _ (List.mem_of_getElem? (i := 45) (by decide +kernel))) (by decide +kernel)
theorem wb_12_traffic : wB yX12_traffic cX12_traffic 4 (some .int) := ⟨in_12, co_12_traffic⟩
theorem ds_12_traffic : dsc yX12_traffic 2 := ⟨by decide +kernel, by decide +kernel, by decide +kernel⟩
theorem im_12_traffic : Cond.instanceMethod yX12_traffic ∈ BIG := big_of (tk7 _ (List.mem_of_getElem? (i := 43) (by decide +kernel))) (by decide +kernel)
theorem se_12_traffic : Cond.selects (yX12_traffic).cls yX12_traffic yX12_traffic ∈ BIG := big_of (tk7 _ (List.mem_of_getElem? (i := 44) (by decide +kernel))) (by decide +kernel)
theorem wi_12_traffic : wI yX12_traffic := ⟨im_12_traffic, se_12_traffic⟩
theorem co_12_driveOf : Cond.code yX12_driveOf cX12_driveOf 5 (some .int) ∈ BIG := big_of (tk7 _ (List.mem_of_getElem? (i := 56) (by decide +kernel))) (by decide +kernel)
theorem wb_12_driveOf : wB yX12_driveOf cX12_driveOf 5 (some .int) := ⟨in_12, co_12_driveOf⟩
theorem ds_12_driveOf : dsc yX12_driveOf 3 := ⟨by decide +kernel, by decide +kernel, by decide +kernel⟩
theorem im_12_driveOf : Cond.instanceMethod yX12_driveOf ∈ BIG := big_of (tk7 _ (List.mem_of_getElem? (i := 55) (by decide +kernel))) (by decide +kernel)
theorem se_12_driveOf : Cond.selects (yX12_driveOf).cls yX12_driveOf yX12_driveOf ∈ BIG := big_of (pv4 (yX12_driveOf, 64) (List.mem_of_getElem? (i := 6) (by decide +kernel))) (by decide +kernel)
theorem wi_12_driveOf : wI yX12_driveOf := ⟨im_12_driveOf, se_12_driveOf⟩
theorem ml_12_151 : Cond.methodLink RX12 151 yX12_isMinute ∈ BIG := big_of (tk7 _ (List.mem_of_getElem? (i := 50) (by decide +kernel))) (by decide +kernel)
theorem ml_12_154 : Cond.methodLink RX12 154 yX12_driveOf ∈ BIG := big_of (tk7 _ (List.mem_of_getElem? (i := 53) (by decide +kernel))) (by decide +kernel)
theorem co_12_drive : Cond.code yX12_drive cX12_drive 4 (some .int) ∈ BIG := big_of (tk7 _ (List.mem_of_getElem? (i := 49) (by decide +kernel))) (by decide +kernel)
theorem wb_12_drive : wB yX12_drive cX12_drive 4 (some .int) := ⟨in_12, co_12_drive⟩
theorem ds_12_drive : dsc yX12_drive 3 := ⟨by decide +kernel, by decide +kernel, by decide +kernel⟩
theorem im_12_drive : Cond.instanceMethod yX12_drive ∈ BIG := big_of (tk7 _ (List.mem_of_getElem? (i := 47) (by decide +kernel))) (by decide +kernel)
theorem se_12_drive : Cond.selects (yX12_drive).cls yX12_drive yX12_drive ∈ BIG := big_of (tk7 _ (List.mem_of_getElem? (i := 48) (by decide +kernel))) (by decide +kernel)
theorem wi_12_drive : wI yX12_drive := ⟨im_12_drive, se_12_drive⟩
theorem ml_12_158 : Cond.methodLink RX12 158 yX12_isHome ∈ BIG := big_of (tk7 _ (List.mem_of_getElem? (i := 61) (by decide +kernel))) (by decide +kernel)
theorem ml_12_161 : Cond.methodLink RX12 161 yX12_isCourt ∈ BIG := big_of (tk7 _ (List.mem_of_getElem? (i := 65) (by decide +kernel))) (by decide +kernel)
theorem co_12_person : Cond.code yX12_person cX12_person 7 (some .int) ∈ BIG := big_of (tk7 _ (List.mem_of_getElem? (i := 60) (by decide +kernel))) (by decide +kernel)
theorem wb_12_person : wB yX12_person cX12_person 7 (some .int) := ⟨in_12, co_12_person⟩
theorem ds_12_person : dsc yX12_person 4 := ⟨by decide +kernel, by decide +kernel, by decide +kernel⟩
theorem im_12_person : Cond.instanceMethod yX12_person ∈ BIG := big_of (tk7 _ (List.mem_of_getElem? (i := 58) (by decide +kernel))) (by decide +kernel)
theorem se_12_person : Cond.selects (yX12_person).cls yX12_person yX12_person ∈ BIG := big_of (tk7 _ (List.mem_of_getElem? (i := 59) (by decide +kernel))) (by decide +kernel)
theorem wi_12_person : wI yX12_person := ⟨im_12_person, se_12_person⟩
theorem fl_12_25 : Cond.fieldLink RX12 25 (TX12 5).1 (TX12 5).2.1 (TX12 5).2.2.1 ∈ BIG := big_of (tk6 _ (List.mem_of_getElem? (i := 71) (by decide +kernel))) (by decide +kernel)
theorem co_12_apart : Cond.code yX12_apart cX12_apart 5 (some .int) ∈ BIG := big_of (tk7 _ (List.mem_of_getElem? (i := 72) (by decide +kernel))) (by decide +kernel)
theorem wb_12_apart : wB yX12_apart cX12_apart 5 (some .int) := ⟨in_12, co_12_apart⟩
theorem ds_12_apart : dsc yX12_apart 3 := ⟨by decide +kernel, by decide +kernel, by decide +kernel⟩
theorem im_12_apart : Cond.instanceMethod yX12_apart ∈ BIG := big_of (tk7 _ (List.mem_of_getElem? (i := 70) (by decide +kernel))) (by decide +kernel)
theorem se_12_apart : Cond.selects (yX12_apart).cls yX12_apart yX12_apart ∈ BIG := big_of (tk7 _ (List.mem_of_getElem? (i := 71) (by decide +kernel))) (by decide +kernel)
theorem wi_12_apart : wI yX12_apart := ⟨im_12_apart, se_12_apart⟩
theorem ml_12_164 : Cond.methodLink RX12 164 yX12_isPerson ∈ BIG := big_of (tk7 _ (List.mem_of_getElem? (i := 81) (by decide +kernel))) (by decide +kernel)
theorem co_12_arePersons : Cond.code yX12_arePersons cX12_arePersons 3 (some .boolean) ∈ BIG := big_of (tk7 _ (List.mem_of_getElem? (i := 80) (by decide +kernel))) (by decide +kernel)
theorem wb_12_arePersons : wB yX12_arePersons cX12_arePersons 3 (some .boolean) := ⟨in_12, co_12_arePersons⟩
theorem ds_12_arePersons : dsc yX12_arePersons 2 := ⟨by decide +kernel, by decide +kernel, by decide +kernel⟩
theorem im_12_arePersons : Cond.instanceMethod yX12_arePersons ∈ BIG := big_of (tk7 _ (List.mem_of_getElem? (i := 79) (by decide +kernel))) (by decide +kernel)
theorem se_12_arePersons : Cond.selects (yX12_arePersons).cls yX12_arePersons yX12_arePersons ∈ BIG := big_of (pv4 (yX12_arePersons, 64) (List.mem_of_getElem? (i := 9) (by decide +kernel))) (by decide +kernel)
theorem wi_12_arePersons : wI yX12_arePersons := ⟨im_12_arePersons, se_12_arePersons⟩
theorem ml_12_167 : Cond.methodLink RX12 167 yX12_arePersons ∈ BIG := big_of (tk7 _ (List.mem_of_getElem? (i := 77) (by decide +kernel))) (by decide +kernel)
theorem ml_12_170 : Cond.methodLink RX12 170 yX12_get ∈ BIG := big_of (tk7 _ (List.mem_of_getElem? (i := 85) (by decide +kernel))) (by decide +kernel)
theorem co_12_bar : Cond.code yX12_bar cX12_bar 5 (some .int) ∈ BIG := big_of (tk7 _ (List.mem_of_getElem? (i := 76) (by decide +kernel))) (by decide +kernel)
theorem wb_12_bar : wB yX12_bar cX12_bar 5 (some .int) := ⟨in_12, co_12_bar⟩
theorem ds_12_bar : dsc yX12_bar 3 := ⟨by decide +kernel, by decide +kernel, by decide +kernel⟩
theorem im_12_bar : Cond.instanceMethod yX12_bar ∈ BIG := big_of (tk7 _ (List.mem_of_getElem? (i := 74) (by decide +kernel))) (by decide +kernel)
theorem se_12_bar : Cond.selects (yX12_bar).cls yX12_bar yX12_bar ∈ BIG := big_of (tk7 _ (List.mem_of_getElem? (i := 75) (by decide +kernel))) (by decide +kernel)
theorem wi_12_bar : wI yX12_bar := ⟨im_12_bar, se_12_bar⟩
theorem co_12_areFoes : Cond.code yX12_areFoes cX12_areFoes 3 (some .boolean) ∈ BIG := big_of (tk7 _ (List.mem_of_getElem? (i := 96) (by decide +kernel))) (by decide +kernel)
theorem wb_12_areFoes : wB yX12_areFoes cX12_areFoes 3 (some .boolean) := ⟨in_12, co_12_areFoes⟩
theorem ds_12_areFoes : dsc yX12_areFoes 2 := ⟨by decide +kernel, by decide +kernel, by decide +kernel⟩
theorem im_12_areFoes : Cond.instanceMethod yX12_areFoes ∈ BIG := big_of (tk7 _ (List.mem_of_getElem? (i := 95) (by decide +kernel))) (by decide +kernel)
theorem se_12_areFoes : Cond.selects (yX12_areFoes).cls yX12_areFoes yX12_areFoes ∈ BIG := big_of (pv4 (yX12_areFoes, 64) (List.mem_of_getElem? (i := 12) (by decide +kernel))) (by decide +kernel)
theorem wi_12_areFoes : wI yX12_areFoes := ⟨im_12_areFoes, se_12_areFoes⟩
theorem ml_12_174 : Cond.methodLink RX12 174 yX12_areFoes ∈ BIG := big_of (tk7 _ (List.mem_of_getElem? (i := 93) (by decide +kernel))) (by decide +kernel)
theorem co_12_foes : Cond.code yX12_foes cX12_foes 3 (some .int) ∈ BIG := big_of (tk7 _ (List.mem_of_getElem? (i := 92) (by decide +kernel))) (by decide +kernel)
theorem wb_12_foes : wB yX12_foes cX12_foes 3 (some .int) := ⟨in_12, co_12_foes⟩
theorem ds_12_foes : dsc yX12_foes 2 := ⟨by decide +kernel, by decide +kernel, by decide +kernel⟩
theorem im_12_foes : Cond.instanceMethod yX12_foes ∈ BIG := big_of (tk7 _ (List.mem_of_getElem? (i := 90) (by decide +kernel))) (by decide +kernel)
theorem se_12_foes : Cond.selects (yX12_foes).cls yX12_foes yX12_foes ∈ BIG := big_of (tk7 _ (List.mem_of_getElem? (i := 91) (by decide +kernel))) (by decide +kernel)
theorem wi_12_foes : wI yX12_foes := ⟨im_12_foes, se_12_foes⟩
theorem co_12_hasFoe : Cond.code yX12_hasFoe cX12_hasFoe 5 (some .boolean) ∈ BIG := big_of (tk7 _ (List.mem_of_getElem? (i := 211) (by decide +kernel))) (by decide +kernel)
theorem wb_12_hasFoe : wB yX12_hasFoe cX12_hasFoe 5 (some .boolean) := ⟨in_12, co_12_hasFoe⟩
theorem ds_12_hasFoe : dsc yX12_hasFoe 2 := ⟨by decide +kernel, by decide +kernel, by decide +kernel⟩
theorem im_12_hasFoe : Cond.instanceMethod yX12_hasFoe ∈ BIG := big_of (tk7 _ (List.mem_of_getElem? (i := 210) (by decide +kernel))) (by decide +kernel)
theorem se_12_hasFoe : Cond.selects (yX12_hasFoe).cls yX12_hasFoe yX12_hasFoe ∈ BIG := big_of (pv6 (yX12_hasFoe, 64) (List.mem_of_getElem? (i := 0) (by decide +kernel))) (by decide +kernel)
theorem wi_12_hasFoe : wI yX12_hasFoe := ⟨im_12_hasFoe, se_12_hasFoe⟩
theorem ml_12_177 : Cond.methodLink RX12 177 yX12_hasFoe ∈ BIG := big_of (tk7 _ (List.mem_of_getElem? (i := 208) (by decide +kernel))) (by decide +kernel)
theorem co_12_areAtPeace : Cond.code yX12_areAtPeace cX12_areAtPeace 4 (some .boolean) ∈ BIG := big_of (tk7 _ (List.mem_of_getElem? (i := 207) (by decide +kernel))) (by decide +kernel)
theorem wb_12_areAtPeace : wB yX12_areAtPeace cX12_areAtPeace 4 (some .boolean) := ⟨in_12, co_12_areAtPeace⟩
theorem ds_12_areAtPeace : dsc yX12_areAtPeace 1 := ⟨by decide +kernel, by decide +kernel, by decide +kernel⟩
theorem im_12_areAtPeace : Cond.instanceMethod yX12_areAtPeace ∈ BIG := big_of (tk7 _ (List.mem_of_getElem? (i := 206) (by decide +kernel))) (by decide +kernel)
theorem se_12_areAtPeace : Cond.selects (yX12_areAtPeace).cls yX12_areAtPeace yX12_areAtPeace ∈ BIG := big_of (pv5 (yX12_areAtPeace, 64) (List.mem_of_getElem? (i := 15) (by decide +kernel))) (by decide +kernel)
theorem wi_12_areAtPeace : wI yX12_areAtPeace := ⟨im_12_areAtPeace, se_12_areAtPeace⟩
theorem co_12_wire : Cond.code yX12_wire cX12_wire 4 (some .int) ∈ BIG := big_of (tk7 _ (List.mem_of_getElem? (i := 100) (by decide +kernel))) (by decide +kernel)
theorem wb_12_wire : wB yX12_wire cX12_wire 4 (some .int) := ⟨in_12, co_12_wire⟩
theorem ds_12_wire : dsc yX12_wire 2 := ⟨by decide +kernel, by decide +kernel, by decide +kernel⟩
theorem im_12_wire : Cond.instanceMethod yX12_wire ∈ BIG := big_of (tk7 _ (List.mem_of_getElem? (i := 98) (by decide +kernel))) (by decide +kernel)
theorem se_12_wire : Cond.selects (yX12_wire).cls yX12_wire yX12_wire ∈ BIG := big_of (tk7 _ (List.mem_of_getElem? (i := 99) (by decide +kernel))) (by decide +kernel)
theorem wi_12_wire : wI yX12_wire := ⟨im_12_wire, se_12_wire⟩
theorem co_12_of : Cond.code yX12_of cX12_of 3 (some .int) ∈ BIG := big_of (tk7 _ (List.mem_of_getElem? (i := 104) (by decide +kernel))) (by decide +kernel)
theorem wb_12_of : wB yX12_of cX12_of 3 (some .int) := ⟨in_12, co_12_of⟩
theorem ds_12_of : dsc yX12_of 2 := ⟨by decide +kernel, by decide +kernel, by decide +kernel⟩
theorem im_12_of : Cond.instanceMethod yX12_of ∈ BIG := big_of (tk7 _ (List.mem_of_getElem? (i := 102) (by decide +kernel))) (by decide +kernel)
theorem se_12_of : Cond.selects (yX12_of).cls yX12_of yX12_of ∈ BIG := big_of (tk7 _ (List.mem_of_getElem? (i := 103) (by decide +kernel))) (by decide +kernel)
theorem wi_12_of : wI yX12_of := ⟨im_12_of, se_12_of⟩
theorem fl_12_28 : Cond.fieldLink RX12 28 (TX12 6).1 (TX12 6).2.1 (TX12 6).2.2.1 ∈ BIG := big_of (tk6 _ (List.mem_of_getElem? (i := 72) (by decide +kernel))) (by decide +kernel)
theorem co_12_van : Cond.code yX12_van cX12_van 5 (some .int) ∈ BIG := big_of (tk7 _ (List.mem_of_getElem? (i := 108) (by decide +kernel))) (by decide +kernel)
theorem wb_12_van : wB yX12_van cX12_van 5 (some .int) := ⟨in_12, co_12_van⟩
theorem ds_12_van : dsc yX12_van 3 := ⟨by decide +kernel, by decide +kernel, by decide +kernel⟩
theorem im_12_van : Cond.instanceMethod yX12_van ∈ BIG := big_of (tk7 _ (List.mem_of_getElem? (i := 106) (by decide +kernel))) (by decide +kernel)
theorem se_12_van : Cond.selects (yX12_van).cls yX12_van yX12_van ∈ BIG := big_of (tk7 _ (List.mem_of_getElem? (i := 107) (by decide +kernel))) (by decide +kernel)
theorem wi_12_van : wI yX12_van := ⟨im_12_van, se_12_van⟩
theorem ml_12_180 : Cond.methodLink RX12 180 yX12_isVan ∈ BIG := big_of (tk7 _ (List.mem_of_getElem? (i := 113) (by decide +kernel))) (by decide +kernel)
theorem fl_12_31 : Cond.fieldLink RX12 31 (TX12 7).1 (TX12 7).2.1 (TX12 7).2.2.1 ∈ BIG := big_of (tk6 _ (List.mem_of_getElem? (i := 73) (by decide +kernel))) (by decide +kernel)
theorem co_12_delay : Cond.code yX12_delay cX12_delay 6 (some .int) ∈ BIG := big_of (tk7 _ (List.mem_of_getElem? (i := 112) (by decide +kernel))) (by decide +kernel)
theorem wb_12_delay : wB yX12_delay cX12_delay 6 (some .int) := ⟨in_12, co_12_delay⟩
theorem ds_12_delay : dsc yX12_delay 4 := ⟨by decide +kernel, by decide +kernel, by decide +kernel⟩
theorem im_12_delay : Cond.instanceMethod yX12_delay ∈ BIG := big_of (tk7 _ (List.mem_of_getElem? (i := 110) (by decide +kernel))) (by decide +kernel)
theorem se_12_delay : Cond.selects (yX12_delay).cls yX12_delay yX12_delay ∈ BIG := big_of (tk7 _ (List.mem_of_getElem? (i := 111) (by decide +kernel))) (by decide +kernel)
theorem wi_12_delay : wI yX12_delay := ⟨im_12_delay, se_12_delay⟩
theorem ml_12_183 : Cond.methodLink RX12 183 yX12_from ∈ BIG := big_of (tk7 _ (List.mem_of_getElem? (i := 141) (by decide +kernel))) (by decide +kernel)
theorem ml_12_187 : Cond.methodLink RX12 187 yX12_till ∈ BIG := big_of (tk7 _ (List.mem_of_getElem? (i := 145) (by decide +kernel))) (by decide +kernel)
theorem fl_12_190 : Cond.fieldLink RX12 190 (TX12 11).1 (TX12 11).2.1 (TX12 11).2.2.1 ∈ BIG := big_of (tk6 _ (List.mem_of_getElem? (i := 77) (by decide +kernel))) (by decide +kernel)
theorem fl_12_43 : Cond.fieldLink RX12 43 (TX12 12).1 (TX12 12).2.1 (TX12 12).2.2.1 ∈ BIG := big_of (tk6 _ (List.mem_of_getElem? (i := 78) (by decide +kernel))) (by decide +kernel)
theorem fl_12_46 : Cond.fieldLink RX12 46 (TX12 13).1 (TX12 13).2.1 (TX12 13).2.2.1 ∈ BIG := big_of (tk6 _ (List.mem_of_getElem? (i := 79) (by decide +kernel))) (by decide +kernel)
theorem fl_12_49 : Cond.fieldLink RX12 49 (TX12 14).1 (TX12 14).2.1 (TX12 14).2.2.1 ∈ BIG := big_of (tk6 _ (List.mem_of_getElem? (i := 80) (by decide +kernel))) (by decide +kernel)
theorem co_12_rides : Cond.code yX12_rides cX12_rides 9 (some .boolean) ∈ BIG := big_of (tk7 _ (List.mem_of_getElem? (i := 140) (by decide +kernel))) (by decide +kernel)
theorem wb_12_rides : wB yX12_rides cX12_rides 9 (some .boolean) := ⟨in_12, co_12_rides⟩
theorem ds_12_rides : dsc yX12_rides 1 := ⟨by decide +kernel, by decide +kernel, by decide +kernel⟩
theorem im_12_rides : Cond.instanceMethod yX12_rides ∈ BIG := big_of (tk7 _ (List.mem_of_getElem? (i := 139) (by decide +kernel))) (by decide +kernel)
theorem se_12_rides : Cond.selects (yX12_rides).cls yX12_rides yX12_rides ∈ BIG := big_of (pv5 (yX12_rides, 64) (List.mem_of_getElem? (i := 2) (by decide +kernel))) (by decide +kernel)
theorem wi_12_rides : wI yX12_rides := ⟨im_12_rides, se_12_rides⟩
theorem co_12_gather : Cond.code yX12_gather cX12_gather 5 none ∈ BIG := big_of (tk7 _ (List.mem_of_getElem? (i := 136) (by decide +kernel))) (by decide +kernel)
theorem wb_12_gather : wB yX12_gather cX12_gather 5 none := ⟨in_12, co_12_gather⟩
theorem ds_12_gather : dsc yX12_gather 1 := ⟨by decide +kernel, by decide +kernel, by decide +kernel⟩
theorem im_12_gather : Cond.instanceMethod yX12_gather ∈ BIG := big_of (tk7 _ (List.mem_of_getElem? (i := 135) (by decide +kernel))) (by decide +kernel)
theorem se_12_gather : Cond.selects (yX12_gather).cls yX12_gather yX12_gather ∈ BIG := big_of (pv5 (yX12_gather, 64) (List.mem_of_getElem? (i := 1) (by decide +kernel))) (by decide +kernel)
theorem wi_12_gather : wI yX12_gather := ⟨im_12_gather, se_12_gather⟩
theorem co_12_lateBy : Cond.code yX12_lateBy cX12_lateBy 3 (some .int) ∈ BIG := big_of (tk7 _ (List.mem_of_getElem? (i := 160) (by decide +kernel))) (by decide +kernel)
theorem wb_12_lateBy : wB yX12_lateBy cX12_lateBy 3 (some .int) := ⟨in_12, co_12_lateBy⟩
theorem ds_12_lateBy : dsc yX12_lateBy 2 := ⟨by decide +kernel, by decide +kernel, by decide +kernel⟩
theorem im_12_lateBy : Cond.instanceMethod yX12_lateBy ∈ BIG := big_of (tk7 _ (List.mem_of_getElem? (i := 159) (by decide +kernel))) (by decide +kernel)
theorem se_12_lateBy : Cond.selects (yX12_lateBy).cls yX12_lateBy yX12_lateBy ∈ BIG := big_of (pv5 (yX12_lateBy, 64) (List.mem_of_getElem? (i := 7) (by decide +kernel))) (by decide +kernel)
theorem wi_12_lateBy : wI yX12_lateBy := ⟨im_12_lateBy, se_12_lateBy⟩
theorem co_12_timeOf : Cond.code yX12_timeOf cX12_timeOf 5 (some .int) ∈ BIG := big_of (tk7 _ (List.mem_of_getElem? (i := 156) (by decide +kernel))) (by decide +kernel)
theorem wb_12_timeOf : wB yX12_timeOf cX12_timeOf 5 (some .int) := ⟨in_12, co_12_timeOf⟩
theorem ds_12_timeOf : dsc yX12_timeOf 3 := ⟨by decide +kernel, by decide +kernel, by decide +kernel⟩
theorem im_12_timeOf : Cond.instanceMethod yX12_timeOf ∈ BIG := big_of (tk7 _ (List.mem_of_getElem? (i := 155) (by decide +kernel))) (by decide +kernel)
theorem se_12_timeOf : Cond.selects (yX12_timeOf).cls yX12_timeOf yX12_timeOf ∈ BIG := big_of (pv5 (yX12_timeOf, 64) (List.mem_of_getElem? (i := 6) (by decide +kernel))) (by decide +kernel)
theorem wi_12_timeOf : wI yX12_timeOf := ⟨im_12_timeOf, se_12_timeOf⟩
theorem ml_12_194 : Cond.methodLink RX12 194 yX12_timeOf ∈ BIG := big_of (tk7 _ (List.mem_of_getElem? (i := 153) (by decide +kernel))) (by decide +kernel)
theorem ml_12_198 : Cond.methodLink RX12 198 yX12_lateBy ∈ BIG := big_of (tk7 _ (List.mem_of_getElem? (i := 157) (by decide +kernel))) (by decide +kernel)
theorem co_12_lateOf : Cond.code yX12_lateOf cX12_lateOf 6 (some .int) ∈ BIG := big_of (tk7 _ (List.mem_of_getElem? (i := 152) (by decide +kernel))) (by decide +kernel)
theorem wb_12_lateOf : wB yX12_lateOf cX12_lateOf 6 (some .int) := ⟨in_12, co_12_lateOf⟩
theorem ds_12_lateOf : dsc yX12_lateOf 3 := ⟨by decide +kernel, by decide +kernel, by decide +kernel⟩
theorem im_12_lateOf : Cond.instanceMethod yX12_lateOf ∈ BIG := big_of (tk7 _ (List.mem_of_getElem? (i := 151) (by decide +kernel))) (by decide +kernel)
theorem se_12_lateOf : Cond.selects (yX12_lateOf).cls yX12_lateOf yX12_lateOf ∈ BIG := big_of (pv5 (yX12_lateOf, 64) (List.mem_of_getElem? (i := 5) (by decide +kernel))) (by decide +kernel)
theorem wi_12_lateOf : wI yX12_lateOf := ⟨im_12_lateOf, se_12_lateOf⟩
theorem co_12_exchange : Cond.code yX12_exchange cX12_exchange 4 none ∈ BIG := big_of (tk7 _ (List.mem_of_getElem? (i := 172) (by decide +kernel))) (by decide +kernel)
theorem wb_12_exchange : wB yX12_exchange cX12_exchange 4 none := ⟨in_12, co_12_exchange⟩
theorem ds_12_exchange : dsc yX12_exchange 2 := ⟨by decide +kernel, by decide +kernel, by decide +kernel⟩
theorem im_12_exchange : Cond.instanceMethod yX12_exchange ∈ BIG := big_of (tk7 _ (List.mem_of_getElem? (i := 171) (by decide +kernel))) (by decide +kernel)
theorem se_12_exchange : Cond.selects (yX12_exchange).cls yX12_exchange yX12_exchange ∈ BIG := big_of (pv5 (yX12_exchange, 64) (List.mem_of_getElem? (i := 10) (by decide +kernel))) (by decide +kernel)
theorem wi_12_exchange : wI yX12_exchange := ⟨im_12_exchange, se_12_exchange⟩
theorem ml_12_201 : Cond.methodLink RX12 201 yX12_exchange ∈ BIG := big_of (tk7 _ (List.mem_of_getElem? (i := 169) (by decide +kernel))) (by decide +kernel)
theorem co_12_nextOrder : Cond.code yX12_nextOrder cX12_nextOrder 5 (some .boolean) ∈ BIG := big_of (tk7 _ (List.mem_of_getElem? (i := 168) (by decide +kernel))) (by decide +kernel)
theorem wb_12_nextOrder : wB yX12_nextOrder cX12_nextOrder 5 (some .boolean) := ⟨in_12, co_12_nextOrder⟩
theorem ds_12_nextOrder : dsc yX12_nextOrder 0 := ⟨by decide +kernel, by decide +kernel, by decide +kernel⟩
theorem im_12_nextOrder : Cond.instanceMethod yX12_nextOrder ∈ BIG := big_of (tk7 _ (List.mem_of_getElem? (i := 167) (by decide +kernel))) (by decide +kernel)
theorem se_12_nextOrder : Cond.selects (yX12_nextOrder).cls yX12_nextOrder yX12_nextOrder ∈ BIG := big_of (pv5 (yX12_nextOrder, 64) (List.mem_of_getElem? (i := 9) (by decide +kernel))) (by decide +kernel)
theorem wi_12_nextOrder : wI yX12_nextOrder := ⟨im_12_nextOrder, se_12_nextOrder⟩
theorem ml_12_205 : Cond.methodLink RX12 205 yX12_gather ∈ BIG := big_of (tk7 _ (List.mem_of_getElem? (i := 133) (by decide +kernel))) (by decide +kernel)
theorem fl_12_209 : Cond.fieldLink RX12 209 (TX12 17).1 (TX12 17).2.1 (TX12 17).2.2.1 ∈ BIG := big_of (tk6 _ (List.mem_of_getElem? (i := 83) (by decide +kernel))) (by decide +kernel)
theorem ml_12_212 : Cond.methodLink RX12 212 yX12_rides ∈ BIG := big_of (tk7 _ (List.mem_of_getElem? (i := 137) (by decide +kernel))) (by decide +kernel)
theorem ml_12_215 : Cond.methodLink RX12 215 yX12_lateOf ∈ BIG := big_of (tk7 _ (List.mem_of_getElem? (i := 149) (by decide +kernel))) (by decide +kernel)
theorem co_12_note : Cond.code yX12_note cX12_note 3 none ∈ BIG := big_of (tk7 _ (List.mem_of_getElem? (i := 164) (by decide +kernel))) (by decide +kernel)
theorem wb_12_note : wB yX12_note cX12_note 3 none := ⟨in_12, co_12_note⟩
theorem ds_12_note : dsc yX12_note 1 := ⟨by decide +kernel, by decide +kernel, by decide +kernel⟩
theorem im_12_note : Cond.instanceMethod yX12_note ∈ BIG := big_of (tk7 _ (List.mem_of_getElem? (i := 163) (by decide +kernel))) (by decide +kernel)
theorem se_12_note : Cond.selects (yX12_note).cls yX12_note yX12_note ∈ BIG := big_of (pv5 (yX12_note, 64) (List.mem_of_getElem? (i := 8) (by decide +kernel))) (by decide +kernel)
theorem wi_12_note : wI yX12_note := ⟨im_12_note, se_12_note⟩
theorem ml_12_218 : Cond.methodLink RX12 218 yX12_note ∈ BIG := big_of (tk7 _ (List.mem_of_getElem? (i := 161) (by decide +kernel))) (by decide +kernel)
theorem ml_12_221 : Cond.methodLink RX12 221 yX12_nextOrder ∈ BIG := big_of (tk7 _ (List.mem_of_getElem? (i := 165) (by decide +kernel))) (by decide +kernel)
theorem fl_12_55 : Cond.fieldLink RX12 55 (TX12 16).1 (TX12 16).2.1 (TX12 16).2.2.1 ∈ BIG := big_of (tk6 _ (List.mem_of_getElem? (i := 82) (by decide +kernel))) (by decide +kernel)
theorem fl_12_52 : Cond.fieldLink RX12 52 (TX12 15).1 (TX12 15).2.1 (TX12 15).2.2.1 ∈ BIG := big_of (tk6 _ (List.mem_of_getElem? (i := 81) (by decide +kernel))) (by decide +kernel)
theorem co_12_routes : Cond.code yX12_routes cX12_routes 4 (some .boolean) ∈ BIG := big_of (tk7 _ (List.mem_of_getElem? (i := 132) (by decide +kernel))) (by decide +kernel)
theorem wb_12_routes : wB yX12_routes cX12_routes 4 (some .boolean) := ⟨in_12, co_12_routes⟩
theorem ds_12_routes : dsc yX12_routes 2 := ⟨by decide +kernel, by decide +kernel, by decide +kernel⟩
theorem im_12_routes : Cond.instanceMethod yX12_routes ∈ BIG := big_of (tk7 _ (List.mem_of_getElem? (i := 131) (by decide +kernel))) (by decide +kernel)
theorem se_12_routes : Cond.selects (yX12_routes).cls yX12_routes yX12_routes ∈ BIG := big_of (pv5 (yX12_routes, 64) (List.mem_of_getElem? (i := 0) (by decide +kernel))) (by decide +kernel)
theorem wi_12_routes : wI yX12_routes := ⟨im_12_routes, se_12_routes⟩
theorem ml_12_225 : Cond.methodLink RX12 225 yX12_areSome ∈ BIG := big_of (tk7 _ (List.mem_of_getElem? (i := 125) (by decide +kernel))) (by decide +kernel)
theorem co_12_canBeIn : Cond.code yX12_canBeIn cX12_canBeIn 5 (some .boolean) ∈ BIG := big_of (tk7 _ (List.mem_of_getElem? (i := 124) (by decide +kernel))) (by decide +kernel)
theorem wb_12_canBeIn : wB yX12_canBeIn cX12_canBeIn 5 (some .boolean) := ⟨in_12, co_12_canBeIn⟩
theorem ds_12_canBeIn : dsc yX12_canBeIn 2 := ⟨by decide +kernel, by decide +kernel, by decide +kernel⟩
theorem im_12_canBeIn : Cond.instanceMethod yX12_canBeIn ∈ BIG := big_of (tk7 _ (List.mem_of_getElem? (i := 123) (by decide +kernel))) (by decide +kernel)
theorem se_12_canBeIn : Cond.selects (yX12_canBeIn).cls yX12_canBeIn yX12_canBeIn ∈ BIG := big_of (pv4 (yX12_canBeIn, 64) (List.mem_of_getElem? (i := 14) (by decide +kernel))) (by decide +kernel)
theorem wi_12_canBeIn : wI yX12_canBeIn := ⟨im_12_canBeIn, se_12_canBeIn⟩
theorem ml_12_228 : Cond.methodLink RX12 228 yX12_canBeIn ∈ BIG := big_of (tk7 _ (List.mem_of_getElem? (i := 121) (by decide +kernel))) (by decide +kernel)
theorem ml_12_231 : Cond.methodLink RX12 231 yX12_routes ∈ BIG := big_of (tk7 _ (List.mem_of_getElem? (i := 129) (by decide +kernel))) (by decide +kernel)
theorem co_12_route : Cond.code yX12_route cX12_route 4 (some .int) ∈ BIG := big_of (tk7 _ (List.mem_of_getElem? (i := 120) (by decide +kernel))) (by decide +kernel)
theorem wb_12_route : wB yX12_route cX12_route 4 (some .int) := ⟨in_12, co_12_route⟩
theorem ds_12_route : dsc yX12_route 3 := ⟨by decide +kernel, by decide +kernel, by decide +kernel⟩
theorem im_12_route : Cond.instanceMethod yX12_route ∈ BIG := big_of (tk7 _ (List.mem_of_getElem? (i := 118) (by decide +kernel))) (by decide +kernel)
theorem se_12_route : Cond.selects (yX12_route).cls yX12_route yX12_route ∈ BIG := big_of (tk7 _ (List.mem_of_getElem? (i := 119) (by decide +kernel))) (by decide +kernel)
theorem wi_12_route : wI yX12_route := ⟨im_12_route, se_12_route⟩
theorem co_12_arrival : Cond.code yX12_arrival cX12_arrival 4 (some .int) ∈ BIG := big_of (tk7 _ (List.mem_of_getElem? (i := 176) (by decide +kernel))) (by decide +kernel)
theorem wb_12_arrival : wB yX12_arrival cX12_arrival 4 (some .int) := ⟨in_12, co_12_arrival⟩
theorem ds_12_arrival : dsc yX12_arrival 3 := ⟨by decide +kernel, by decide +kernel, by decide +kernel⟩
theorem im_12_arrival : Cond.instanceMethod yX12_arrival ∈ BIG := big_of (tk7 _ (List.mem_of_getElem? (i := 174) (by decide +kernel))) (by decide +kernel)
theorem se_12_arrival : Cond.selects (yX12_arrival).cls yX12_arrival yX12_arrival ∈ BIG := big_of (tk7 _ (List.mem_of_getElem? (i := 175) (by decide +kernel))) (by decide +kernel)
theorem wi_12_arrival : wI yX12_arrival := ⟨im_12_arrival, se_12_arrival⟩
theorem fl_12_234 : Cond.fieldLink RX12 234 (TX12 18).1 (TX12 18).2.1 (TX12 18).2.2.1 ∈ BIG := big_of (tk6 _ (List.mem_of_getElem? (i := 84) (by decide +kernel))) (by decide +kernel)
theorem fl_12_58 : Cond.fieldLink RX12 58 (TX12 19).1 (TX12 19).2.1 (TX12 19).2.2.1 ∈ BIG := big_of (tk6 _ (List.mem_of_getElem? (i := 85) (by decide +kernel))) (by decide +kernel)
theorem co_12_ridersOf : Cond.code yX12_ridersOf cX12_ridersOf 4 (some .int) ∈ BIG := big_of (tk7 _ (List.mem_of_getElem? (i := 184) (by decide +kernel))) (by decide +kernel)
theorem wb_12_ridersOf : wB yX12_ridersOf cX12_ridersOf 4 (some .int) := ⟨in_12, co_12_ridersOf⟩
theorem ds_12_ridersOf : dsc yX12_ridersOf 1 := ⟨by decide +kernel, by decide +kernel, by decide +kernel⟩
theorem im_12_ridersOf : Cond.instanceMethod yX12_ridersOf ∈ BIG := big_of (tk7 _ (List.mem_of_getElem? (i := 183) (by decide +kernel))) (by decide +kernel)
theorem se_12_ridersOf : Cond.selects (yX12_ridersOf).cls yX12_ridersOf yX12_ridersOf ∈ BIG := big_of (pv5 (yX12_ridersOf, 64) (List.mem_of_getElem? (i := 11) (by decide +kernel))) (by decide +kernel)
theorem wi_12_ridersOf : wI yX12_ridersOf := ⟨im_12_ridersOf, se_12_ridersOf⟩
theorem ml_12_237 : Cond.methodLink RX12 237 yX12_ridersOf ∈ BIG := big_of (tk7 _ (List.mem_of_getElem? (i := 181) (by decide +kernel))) (by decide +kernel)
theorem co_12_riders : Cond.code yX12_riders cX12_riders 2 (some .int) ∈ BIG := big_of (tk7 _ (List.mem_of_getElem? (i := 180) (by decide +kernel))) (by decide +kernel)
theorem wb_12_riders : wB yX12_riders cX12_riders 2 (some .int) := ⟨in_12, co_12_riders⟩
theorem ds_12_riders : dsc yX12_riders 1 := ⟨by decide +kernel, by decide +kernel, by decide +kernel⟩
theorem im_12_riders : Cond.instanceMethod yX12_riders ∈ BIG := big_of (tk7 _ (List.mem_of_getElem? (i := 178) (by decide +kernel))) (by decide +kernel)
theorem se_12_riders : Cond.selects (yX12_riders).cls yX12_riders yX12_riders ∈ BIG := big_of (tk7 _ (List.mem_of_getElem? (i := 179) (by decide +kernel))) (by decide +kernel)
theorem wi_12_riders : wI yX12_riders := ⟨im_12_riders, se_12_riders⟩
theorem co_12_personsOf : Cond.code yX12_personsOf cX12_personsOf 4 (some .int) ∈ BIG := big_of (tk7 _ (List.mem_of_getElem? (i := 200) (by decide +kernel))) (by decide +kernel)
theorem wb_12_personsOf : wB yX12_personsOf cX12_personsOf 4 (some .int) := ⟨in_12, co_12_personsOf⟩
theorem ds_12_personsOf : dsc yX12_personsOf 1 := ⟨by decide +kernel, by decide +kernel, by decide +kernel⟩
theorem im_12_personsOf : Cond.instanceMethod yX12_personsOf ∈ BIG := big_of (tk7 _ (List.mem_of_getElem? (i := 199) (by decide +kernel))) (by decide +kernel)
theorem se_12_personsOf : Cond.selects (yX12_personsOf).cls yX12_personsOf yX12_personsOf ∈ BIG := big_of (pv5 (yX12_personsOf, 64) (List.mem_of_getElem? (i := 14) (by decide +kernel))) (by decide +kernel)
theorem wi_12_personsOf : wI yX12_personsOf := ⟨im_12_personsOf, se_12_personsOf⟩
theorem ml_12_240 : Cond.methodLink RX12 240 yX12_personsOf ∈ BIG := big_of (tk7 _ (List.mem_of_getElem? (i := 197) (by decide +kernel))) (by decide +kernel)
theorem ml_12_243 : Cond.methodLink RX12 243 yX12_bits ∈ BIG := big_of (tk7 _ (List.mem_of_getElem? (i := 201) (by decide +kernel))) (by decide +kernel)
theorem ml_12_246 : Cond.methodLink RX12 246 yX12_areAtPeace ∈ BIG := big_of (tk7 _ (List.mem_of_getElem? (i := 204) (by decide +kernel))) (by decide +kernel)
theorem fl_12_61 : Cond.fieldLink RX12 61 (TX12 20).1 (TX12 20).2.1 (TX12 20).2.2.1 ∈ BIG := big_of (tk6 _ (List.mem_of_getElem? (i := 86) (by decide +kernel))) (by decide +kernel)
theorem co_12_weigh : Cond.code yX12_weigh cX12_weigh 6 none ∈ BIG := big_of (tk7 _ (List.mem_of_getElem? (i := 196) (by decide +kernel))) (by decide +kernel)
theorem wb_12_weigh : wB yX12_weigh cX12_weigh 6 none := ⟨in_12, co_12_weigh⟩
theorem ds_12_weigh : dsc yX12_weigh 1 := ⟨by decide +kernel, by decide +kernel, by decide +kernel⟩
theorem im_12_weigh : Cond.instanceMethod yX12_weigh ∈ BIG := big_of (tk7 _ (List.mem_of_getElem? (i := 195) (by decide +kernel))) (by decide +kernel)
theorem se_12_weigh : Cond.selects (yX12_weigh).cls yX12_weigh yX12_weigh ∈ BIG := big_of (pv5 (yX12_weigh, 64) (List.mem_of_getElem? (i := 13) (by decide +kernel))) (by decide +kernel)
theorem wi_12_weigh : wI yX12_weigh := ⟨im_12_weigh, se_12_weigh⟩
theorem ml_12_249 : Cond.methodLink RX12 249 yX12_weigh ∈ BIG := big_of (tk7 _ (List.mem_of_getElem? (i := 193) (by decide +kernel))) (by decide +kernel)
theorem co_12_lacksPlan : Cond.code yX12_lacksPlan cX12_lacksPlan 3 (some .int) ∈ BIG := big_of (tk7 _ (List.mem_of_getElem? (i := 192) (by decide +kernel))) (by decide +kernel)
theorem wb_12_lacksPlan : wB yX12_lacksPlan cX12_lacksPlan 3 (some .int) := ⟨in_12, co_12_lacksPlan⟩
theorem ds_12_lacksPlan : dsc yX12_lacksPlan 1 := ⟨by decide +kernel, by decide +kernel, by decide +kernel⟩
theorem im_12_lacksPlan : Cond.instanceMethod yX12_lacksPlan ∈ BIG := big_of (tk7 _ (List.mem_of_getElem? (i := 191) (by decide +kernel))) (by decide +kernel)
theorem se_12_lacksPlan : Cond.selects (yX12_lacksPlan).cls yX12_lacksPlan yX12_lacksPlan ∈ BIG := big_of (pv5 (yX12_lacksPlan, 64) (List.mem_of_getElem? (i := 12) (by decide +kernel))) (by decide +kernel)
theorem wi_12_lacksPlan : wI yX12_lacksPlan := ⟨im_12_lacksPlan, se_12_lacksPlan⟩
theorem fl_12_252 : Cond.fieldLink RX12 252 (TX12 22).1 (TX12 22).2.1 (TX12 22).2.2.1 ∈ BIG := big_of (tk6 _ (List.mem_of_getElem? (i := 88) (by decide +kernel))) (by decide +kernel)
theorem co_12_plansRest : Cond.code yX12_plansRest cX12_plansRest 6 none ∈ BIG := big_of (tk7 _ (List.mem_of_getElem? (i := 219) (by decide +kernel))) (by decide +kernel)
theorem wb_12_plansRest : wB yX12_plansRest cX12_plansRest 6 none := ⟨in_12, co_12_plansRest⟩
theorem ds_12_plansRest : dsc yX12_plansRest 2 := ⟨by decide +kernel, by decide +kernel, by decide +kernel⟩
theorem im_12_plansRest : Cond.instanceMethod yX12_plansRest ∈ BIG := big_of (tk7 _ (List.mem_of_getElem? (i := 218) (by decide +kernel))) (by decide +kernel)
theorem se_12_plansRest : Cond.selects (yX12_plansRest).cls yX12_plansRest yX12_plansRest ∈ BIG := big_of (pv6 (yX12_plansRest, 64) (List.mem_of_getElem? (i := 2) (by decide +kernel))) (by decide +kernel)
theorem wi_12_plansRest : wI yX12_plansRest := ⟨im_12_plansRest, se_12_plansRest⟩
theorem ml_12_255 : Cond.methodLink RX12 255 yX12_plansRest ∈ BIG := big_of (tk7 _ (List.mem_of_getElem? (i := 216) (by decide +kernel))) (by decide +kernel)
theorem co_12_isAhead : Cond.code yX12_isAhead cX12_isAhead 5 (some .boolean) ∈ BIG := big_of (tk7 _ (List.mem_of_getElem? (i := 223) (by decide +kernel))) (by decide +kernel)
theorem wb_12_isAhead : wB yX12_isAhead cX12_isAhead 5 (some .boolean) := ⟨in_12, co_12_isAhead⟩
theorem ds_12_isAhead : dsc yX12_isAhead 2 := ⟨by decide +kernel, by decide +kernel, by decide +kernel⟩
theorem im_12_isAhead : Cond.instanceMethod yX12_isAhead ∈ BIG := big_of (tk7 _ (List.mem_of_getElem? (i := 222) (by decide +kernel))) (by decide +kernel)
theorem se_12_isAhead : Cond.selects (yX12_isAhead).cls yX12_isAhead yX12_isAhead ∈ BIG := big_of (pv6 (yX12_isAhead, 64) (List.mem_of_getElem? (i := 3) (by decide +kernel))) (by decide +kernel)
theorem wi_12_isAhead : wI yX12_isAhead := ⟨im_12_isAhead, se_12_isAhead⟩
theorem ml_12_258 : Cond.methodLink RX12 258 yX12_isAhead ∈ BIG := big_of (tk7 _ (List.mem_of_getElem? (i := 220) (by decide +kernel))) (by decide +kernel)
theorem co_12_noteVans : Cond.code yX12_noteVans cX12_noteVans 4 none ∈ BIG := big_of (tk7 _ (List.mem_of_getElem? (i := 230) (by decide +kernel))) (by decide +kernel)
theorem wb_12_noteVans : wB yX12_noteVans cX12_noteVans 4 none := ⟨in_12, co_12_noteVans⟩
theorem ds_12_noteVans : dsc yX12_noteVans 2 := ⟨by decide +kernel, by decide +kernel, by decide +kernel⟩
theorem im_12_noteVans : Cond.instanceMethod yX12_noteVans ∈ BIG := big_of (tk7 _ (List.mem_of_getElem? (i := 229) (by decide +kernel))) (by decide +kernel)
theorem se_12_noteVans : Cond.selects (yX12_noteVans).cls yX12_noteVans yX12_noteVans ∈ BIG := big_of (pv6 (yX12_noteVans, 64) (List.mem_of_getElem? (i := 4) (by decide +kernel))) (by decide +kernel)
theorem wi_12_noteVans : wI yX12_noteVans := ⟨im_12_noteVans, se_12_noteVans⟩
theorem ml_12_261 : Cond.methodLink RX12 261 yX12_noteVans ∈ BIG := big_of (tk7 _ (List.mem_of_getElem? (i := 227) (by decide +kernel))) (by decide +kernel)
theorem co_12_vanBy : Cond.code yX12_vanBy cX12_vanBy 3 (some .int) ∈ BIG := big_of (tk7 _ (List.mem_of_getElem? (i := 226) (by decide +kernel))) (by decide +kernel)
theorem wb_12_vanBy : wB yX12_vanBy cX12_vanBy 3 (some .int) := ⟨in_12, co_12_vanBy⟩
theorem ds_12_vanBy : dsc yX12_vanBy 3 := ⟨by decide +kernel, by decide +kernel, by decide +kernel⟩
theorem st_12_vanBy : Cond.static yX12_vanBy ∈ BIG := big_of (tk7 _ (List.mem_of_getElem? (i := 225) (by decide +kernel))) (by decide +kernel)
theorem ml_12_264 : Cond.methodLink RX12 264 yX12_vanBy ∈ BIG := big_of (tk7 _ (List.mem_of_getElem? (i := 224) (by decide +kernel))) (by decide +kernel)
theorem fl_12_64 : Cond.fieldLink RX12 64 (TX12 21).1 (TX12 21).2.1 (TX12 21).2.2.1 ∈ BIG := big_of (tk6 _ (List.mem_of_getElem? (i := 87) (by decide +kernel))) (by decide +kernel)
theorem co_12_plans : Cond.code yX12_plans cX12_plans 4 (some .int) ∈ BIG := big_of (tk7 _ (List.mem_of_getElem? (i := 215) (by decide +kernel))) (by decide +kernel)
theorem wb_12_plans : wB yX12_plans cX12_plans 4 (some .int) := ⟨in_12, co_12_plans⟩
theorem ds_12_plans : dsc yX12_plans 1 := ⟨by decide +kernel, by decide +kernel, by decide +kernel⟩
theorem im_12_plans : Cond.instanceMethod yX12_plans ∈ BIG := big_of (tk7 _ (List.mem_of_getElem? (i := 214) (by decide +kernel))) (by decide +kernel)
theorem se_12_plans : Cond.selects (yX12_plans).cls yX12_plans yX12_plans ∈ BIG := big_of (pv6 (yX12_plans, 64) (List.mem_of_getElem? (i := 1) (by decide +kernel))) (by decide +kernel)
theorem wi_12_plans : wI yX12_plans := ⟨im_12_plans, se_12_plans⟩
theorem ml_12_267 : Cond.methodLink RX12 267 yX12_lacksPlan ∈ BIG := big_of (tk7 _ (List.mem_of_getElem? (i := 189) (by decide +kernel))) (by decide +kernel)
theorem ml_12_270 : Cond.methodLink RX12 270 yX12_plans ∈ BIG := big_of (tk7 _ (List.mem_of_getElem? (i := 212) (by decide +kernel))) (by decide +kernel)
theorem co_12_plan : Cond.code yX12_plan cX12_plan 4 (some .int) ∈ BIG := big_of (tk7 _ (List.mem_of_getElem? (i := 188) (by decide +kernel))) (by decide +kernel)
theorem wb_12_plan : wB yX12_plan cX12_plan 4 (some .int) := ⟨in_12, co_12_plan⟩
theorem ds_12_plan : dsc yX12_plan 1 := ⟨by decide +kernel, by decide +kernel, by decide +kernel⟩
theorem im_12_plan : Cond.instanceMethod yX12_plan ∈ BIG := big_of (tk7 _ (List.mem_of_getElem? (i := 186) (by decide +kernel))) (by decide +kernel)
theorem se_12_plan : Cond.selects (yX12_plan).cls yX12_plan yX12_plan ∈ BIG := big_of (tk7 _ (List.mem_of_getElem? (i := 187) (by decide +kernel))) (by decide +kernel)
theorem wi_12_plan : wI yX12_plan := ⟨im_12_plan, se_12_plan⟩
theorem co_12_placedIn : Cond.code yX12_placedIn cX12_placedIn 3 (some .int) ∈ BIG := big_of (tk7 _ (List.mem_of_getElem? (i := 239) (by decide +kernel))) (by decide +kernel)
theorem wb_12_placedIn : wB yX12_placedIn cX12_placedIn 3 (some .int) := ⟨in_12, co_12_placedIn⟩
theorem ds_12_placedIn : dsc yX12_placedIn 1 := ⟨by decide +kernel, by decide +kernel, by decide +kernel⟩
theorem im_12_placedIn : Cond.instanceMethod yX12_placedIn ∈ BIG := big_of (tk7 _ (List.mem_of_getElem? (i := 238) (by decide +kernel))) (by decide +kernel)
theorem se_12_placedIn : Cond.selects (yX12_placedIn).cls yX12_placedIn yX12_placedIn ∈ BIG := big_of (pv6 (yX12_placedIn, 64) (List.mem_of_getElem? (i := 5) (by decide +kernel))) (by decide +kernel)
theorem wi_12_placedIn : wI yX12_placedIn := ⟨im_12_placedIn, se_12_placedIn⟩
theorem ml_12_273 : Cond.methodLink RX12 273 yX12_plan ∈ BIG := big_of (tk7 _ (List.mem_of_getElem? (i := 235) (by decide +kernel))) (by decide +kernel)
theorem ml_12_276 : Cond.methodLink RX12 276 yX12_placedIn ∈ BIG := big_of (tk7 _ (List.mem_of_getElem? (i := 236) (by decide +kernel))) (by decide +kernel)
theorem co_12_vanOf : Cond.code yX12_vanOf cX12_vanOf 3 (some .int) ∈ BIG := big_of (tk7 _ (List.mem_of_getElem? (i := 234) (by decide +kernel))) (by decide +kernel)
theorem wb_12_vanOf : wB yX12_vanOf cX12_vanOf 3 (some .int) := ⟨in_12, co_12_vanOf⟩
theorem ds_12_vanOf : dsc yX12_vanOf 1 := ⟨by decide +kernel, by decide +kernel, by decide +kernel⟩
theorem im_12_vanOf : Cond.instanceMethod yX12_vanOf ∈ BIG := big_of (tk7 _ (List.mem_of_getElem? (i := 232) (by decide +kernel))) (by decide +kernel)
theorem se_12_vanOf : Cond.selects (yX12_vanOf).cls yX12_vanOf yX12_vanOf ∈ BIG := big_of (tk7 _ (List.mem_of_getElem? (i := 233) (by decide +kernel))) (by decide +kernel)
theorem wi_12_vanOf : wI yX12_vanOf := ⟨im_12_vanOf, se_12_vanOf⟩
theorem co_12_less : Cond.code yX12_less cX12_less 6 (some .int) ∈ BIG := big_of (tk8 _ (List.mem_of_getElem? (i := 3) (by decide +kernel))) (by decide +kernel)
theorem wb_12_less : wB yX12_less cX12_less 6 (some .int) := ⟨in_12, co_12_less⟩
theorem ds_12_less : dsc yX12_less 1 := ⟨by decide +kernel, by decide +kernel, by decide +kernel⟩
theorem im_12_less : Cond.instanceMethod yX12_less ∈ BIG := big_of (tk8 _ (List.mem_of_getElem? (i := 1) (by decide +kernel))) (by decide +kernel)
theorem se_12_less : Cond.selects (yX12_less).cls yX12_less yX12_less ∈ BIG := big_of (tk8 _ (List.mem_of_getElem? (i := 2) (by decide +kernel))) (by decide +kernel)
theorem wi_12_less : wI yX12_less := ⟨im_12_less, se_12_less⟩
theorem co_12_alone : Cond.code yX12_alone cX12_alone 5 (some .int) ∈ BIG := big_of (tk8 _ (List.mem_of_getElem? (i := 11) (by decide +kernel))) (by decide +kernel)
theorem wb_12_alone : wB yX12_alone cX12_alone 5 (some .int) := ⟨in_12, co_12_alone⟩
theorem ds_12_alone : dsc yX12_alone 2 := ⟨by decide +kernel, by decide +kernel, by decide +kernel⟩
theorem im_12_alone : Cond.instanceMethod yX12_alone ∈ BIG := big_of (tk8 _ (List.mem_of_getElem? (i := 10) (by decide +kernel))) (by decide +kernel)
theorem se_12_alone : Cond.selects (yX12_alone).cls yX12_alone yX12_alone ∈ BIG := big_of (pv6 (yX12_alone, 64) (List.mem_of_getElem? (i := 6) (by decide +kernel))) (by decide +kernel)
theorem wi_12_alone : wI yX12_alone := ⟨im_12_alone, se_12_alone⟩
theorem ml_12_279 : Cond.methodLink RX12 279 yX12_alone ∈ BIG := big_of (tk8 _ (List.mem_of_getElem? (i := 8) (by decide +kernel))) (by decide +kernel)
theorem co_12_bound : Cond.code yX12_bound cX12_bound 6 (some .int) ∈ BIG := big_of (tk8 _ (List.mem_of_getElem? (i := 7) (by decide +kernel))) (by decide +kernel)
theorem wb_12_bound : wB yX12_bound cX12_bound 6 (some .int) := ⟨in_12, co_12_bound⟩
theorem ds_12_bound : dsc yX12_bound 1 := ⟨by decide +kernel, by decide +kernel, by decide +kernel⟩
theorem im_12_bound : Cond.instanceMethod yX12_bound ∈ BIG := big_of (tk8 _ (List.mem_of_getElem? (i := 5) (by decide +kernel))) (by decide +kernel)
theorem se_12_bound : Cond.selects (yX12_bound).cls yX12_bound yX12_bound ∈ BIG := big_of (tk8 _ (List.mem_of_getElem? (i := 6) (by decide +kernel))) (by decide +kernel)
theorem wi_12_bound : wI yX12_bound := ⟨im_12_bound, se_12_bound⟩
theorem fl_12_282 : Cond.fieldLink RX12 282 (TX12 23).1 (TX12 23).2.1 (TX12 23).2.2.1 ∈ BIG := big_of (tk6 _ (List.mem_of_getElem? (i := 89) (by decide +kernel))) (by decide +kernel)
theorem fl_12_67 : Cond.fieldLink RX12 67 (TX12 24).1 (TX12 24).2.1 (TX12 24).2.2.1 ∈ BIG := big_of (tk6 _ (List.mem_of_getElem? (i := 90) (by decide +kernel))) (by decide +kernel)
theorem co_12_prove : Cond.code yX12_prove cX12_prove 6 (some .int) ∈ BIG := big_of (tk8 _ (List.mem_of_getElem? (i := 15) (by decide +kernel))) (by decide +kernel)
theorem wb_12_prove : wB yX12_prove cX12_prove 6 (some .int) := ⟨in_12, co_12_prove⟩
theorem ds_12_prove : dsc yX12_prove 1 := ⟨by decide +kernel, by decide +kernel, by decide +kernel⟩
theorem im_12_prove : Cond.instanceMethod yX12_prove ∈ BIG := big_of (tk8 _ (List.mem_of_getElem? (i := 13) (by decide +kernel))) (by decide +kernel)
theorem se_12_prove : Cond.selects (yX12_prove).cls yX12_prove yX12_prove ∈ BIG := big_of (tk8 _ (List.mem_of_getElem? (i := 14) (by decide +kernel))) (by decide +kernel)
theorem wi_12_prove : wI yX12_prove := ⟨im_12_prove, se_12_prove⟩
theorem co_12_isRow : Cond.code yX12_isRow cX12_isRow 3 (some .boolean) ∈ BIG := big_of (tk8 _ (List.mem_of_getElem? (i := 23) (by decide +kernel))) (by decide +kernel)
theorem wb_12_isRow : wB yX12_isRow cX12_isRow 3 (some .boolean) := ⟨in_12, co_12_isRow⟩
theorem ds_12_isRow : dsc yX12_isRow 2 := ⟨by decide +kernel, by decide +kernel, by decide +kernel⟩
theorem im_12_isRow : Cond.instanceMethod yX12_isRow ∈ BIG := big_of (tk8 _ (List.mem_of_getElem? (i := 22) (by decide +kernel))) (by decide +kernel)
theorem se_12_isRow : Cond.selects (yX12_isRow).cls yX12_isRow yX12_isRow ∈ BIG := big_of (pv6 (yX12_isRow, 64) (List.mem_of_getElem? (i := 7) (by decide +kernel))) (by decide +kernel)
theorem wi_12_isRow : wI yX12_isRow := ⟨im_12_isRow, se_12_isRow⟩
theorem ml_12_285 : Cond.methodLink RX12 285 yX12_isRow ∈ BIG := big_of (tk8 _ (List.mem_of_getElem? (i := 20) (by decide +kernel))) (by decide +kernel)
theorem co_12_row : Cond.code yX12_row cX12_row 3 (some .int) ∈ BIG := big_of (tk8 _ (List.mem_of_getElem? (i := 19) (by decide +kernel))) (by decide +kernel)
theorem wb_12_row : wB yX12_row cX12_row 3 (some .int) := ⟨in_12, co_12_row⟩
theorem ds_12_row : dsc yX12_row 2 := ⟨by decide +kernel, by decide +kernel, by decide +kernel⟩
theorem im_12_row : Cond.instanceMethod yX12_row ∈ BIG := big_of (tk8 _ (List.mem_of_getElem? (i := 17) (by decide +kernel))) (by decide +kernel)
theorem se_12_row : Cond.selects (yX12_row).cls yX12_row yX12_row ∈ BIG := big_of (tk8 _ (List.mem_of_getElem? (i := 18) (by decide +kernel))) (by decide +kernel)
theorem wi_12_row : wI yX12_row := ⟨im_12_row, se_12_row⟩
theorem co_12_alterRow : Cond.code yX12_alterRow cX12_alterRow 5 (some .int) ∈ BIG := big_of (tk8 _ (List.mem_of_getElem? (i := 27) (by decide +kernel))) (by decide +kernel)
theorem wb_12_alterRow : wB yX12_alterRow cX12_alterRow 5 (some .int) := ⟨in_12, co_12_alterRow⟩
theorem ds_12_alterRow : dsc yX12_alterRow 3 := ⟨by decide +kernel, by decide +kernel, by decide +kernel⟩
theorem im_12_alterRow : Cond.instanceMethod yX12_alterRow ∈ BIG := big_of (tk8 _ (List.mem_of_getElem? (i := 25) (by decide +kernel))) (by decide +kernel)
theorem se_12_alterRow : Cond.selects (yX12_alterRow).cls yX12_alterRow yX12_alterRow ∈ BIG := big_of (tk8 _ (List.mem_of_getElem? (i := 26) (by decide +kernel))) (by decide +kernel)
theorem wi_12_alterRow : wI yX12_alterRow := ⟨im_12_alterRow, se_12_alterRow⟩
theorem co_12_drop : Cond.code yX12_drop cX12_drop 1 (some .int) ∈ BIG := big_of (tk8 _ (List.mem_of_getElem? (i := 31) (by decide +kernel))) (by decide +kernel)
theorem wb_12_drop : wB yX12_drop cX12_drop 1 (some .int) := ⟨in_12, co_12_drop⟩
theorem ds_12_drop : dsc yX12_drop 0 := ⟨by decide +kernel, by decide +kernel, by decide +kernel⟩
theorem im_12_drop : Cond.instanceMethod yX12_drop ∈ BIG := big_of (tk8 _ (List.mem_of_getElem? (i := 29) (by decide +kernel))) (by decide +kernel)
theorem se_12_drop : Cond.selects (yX12_drop).cls yX12_drop yX12_drop ∈ BIG := big_of (tk8 _ (List.mem_of_getElem? (i := 30) (by decide +kernel))) (by decide +kernel)
theorem wi_12_drop : wI yX12_drop := ⟨im_12_drop, se_12_drop⟩
theorem co_12_toldIn : Cond.code yX12_toldIn cX12_toldIn 4 (some .int) ∈ BIG := big_of (tk8 _ (List.mem_of_getElem? (i := 43) (by decide +kernel))) (by decide +kernel)
theorem wb_12_toldIn : wB yX12_toldIn cX12_toldIn 4 (some .int) := ⟨in_12, co_12_toldIn⟩
theorem ds_12_toldIn : dsc yX12_toldIn 1 := ⟨by decide +kernel, by decide +kernel, by decide +kernel⟩
theorem im_12_toldIn : Cond.instanceMethod yX12_toldIn ∈ BIG := big_of (tk8 _ (List.mem_of_getElem? (i := 42) (by decide +kernel))) (by decide +kernel)
theorem se_12_toldIn : Cond.selects (yX12_toldIn).cls yX12_toldIn yX12_toldIn ∈ BIG := big_of (pv6 (yX12_toldIn, 64) (List.mem_of_getElem? (i := 9) (by decide +kernel))) (by decide +kernel)
theorem wi_12_toldIn : wI yX12_toldIn := ⟨im_12_toldIn, se_12_toldIn⟩
theorem ml_12_288 : Cond.methodLink RX12 288 yX12_toldIn ∈ BIG := big_of (tk8 _ (List.mem_of_getElem? (i := 40) (by decide +kernel))) (by decide +kernel)
theorem co_12_isSo : Cond.code yX12_isSo cX12_isSo 5 (some .boolean) ∈ BIG := big_of (tk8 _ (List.mem_of_getElem? (i := 39) (by decide +kernel))) (by decide +kernel)
theorem wb_12_isSo : wB yX12_isSo cX12_isSo 5 (some .boolean) := ⟨in_12, co_12_isSo⟩
theorem ds_12_isSo : dsc yX12_isSo 2 := ⟨by decide +kernel, by decide +kernel, by decide +kernel⟩
theorem im_12_isSo : Cond.instanceMethod yX12_isSo ∈ BIG := big_of (tk8 _ (List.mem_of_getElem? (i := 38) (by decide +kernel))) (by decide +kernel)
theorem se_12_isSo : Cond.selects (yX12_isSo).cls yX12_isSo yX12_isSo ∈ BIG := big_of (pv6 (yX12_isSo, 64) (List.mem_of_getElem? (i := 8) (by decide +kernel))) (by decide +kernel)
theorem wi_12_isSo : wI yX12_isSo := ⟨im_12_isSo, se_12_isSo⟩
theorem ml_12_291 : Cond.methodLink RX12 291 yX12_isSo ∈ BIG := big_of (tk8 _ (List.mem_of_getElem? (i := 36) (by decide +kernel))) (by decide +kernel)
theorem co_12_judge : Cond.code yX12_judge cX12_judge 5 (some .int) ∈ BIG := big_of (tk8 _ (List.mem_of_getElem? (i := 35) (by decide +kernel))) (by decide +kernel)
theorem wb_12_judge : wB yX12_judge cX12_judge 5 (some .int) := ⟨in_12, co_12_judge⟩
theorem ds_12_judge : dsc yX12_judge 1 := ⟨by decide +kernel, by decide +kernel, by decide +kernel⟩
theorem im_12_judge : Cond.instanceMethod yX12_judge ∈ BIG := big_of (tk8 _ (List.mem_of_getElem? (i := 33) (by decide +kernel))) (by decide +kernel)
theorem se_12_judge : Cond.selects (yX12_judge).cls yX12_judge yX12_judge ∈ BIG := big_of (tk8 _ (List.mem_of_getElem? (i := 34) (by decide +kernel))) (by decide +kernel)
theorem wi_12_judge : wI yX12_judge := ⟨im_12_judge, se_12_judge⟩
theorem fl_12_73 : Cond.fieldLink RX12 73 (TX12 26).1 (TX12 26).2.1 (TX12 26).2.2.1 ∈ BIG := big_of (tk6 _ (List.mem_of_getElem? (i := 92) (by decide +kernel))) (by decide +kernel)
theorem co_12_fitsIn : Cond.code yX12_fitsIn cX12_fitsIn 6 (some .boolean) ∈ BIG := big_of (tk8 _ (List.mem_of_getElem? (i := 55) (by decide +kernel))) (by decide +kernel)
theorem wb_12_fitsIn : wB yX12_fitsIn cX12_fitsIn 6 (some .boolean) := ⟨in_12, co_12_fitsIn⟩
theorem ds_12_fitsIn : dsc yX12_fitsIn 2 := ⟨by decide +kernel, by decide +kernel, by decide +kernel⟩
theorem im_12_fitsIn : Cond.instanceMethod yX12_fitsIn ∈ BIG := big_of (tk8 _ (List.mem_of_getElem? (i := 54) (by decide +kernel))) (by decide +kernel)
theorem se_12_fitsIn : Cond.selects (yX12_fitsIn).cls yX12_fitsIn yX12_fitsIn ∈ BIG := big_of (pv6 (yX12_fitsIn, 64) (List.mem_of_getElem? (i := 11) (by decide +kernel))) (by decide +kernel)
theorem wi_12_fitsIn : wI yX12_fitsIn := ⟨im_12_fitsIn, se_12_fitsIn⟩
theorem ml_12_294 : Cond.methodLink RX12 294 yX12_fitsIn ∈ BIG := big_of (tk8 _ (List.mem_of_getElem? (i := 52) (by decide +kernel))) (by decide +kernel)
theorem fl_12_70 : Cond.fieldLink RX12 70 (TX12 25).1 (TX12 25).2.1 (TX12 25).2.2.1 ∈ BIG := big_of (tk6 _ (List.mem_of_getElem? (i := 91) (by decide +kernel))) (by decide +kernel)
theorem co_12_parts : Cond.code yX12_parts cX12_parts 7 (some .boolean) ∈ BIG := big_of (tk8 _ (List.mem_of_getElem? (i := 51) (by decide +kernel))) (by decide +kernel)
theorem wb_12_parts : wB yX12_parts cX12_parts 7 (some .boolean) := ⟨in_12, co_12_parts⟩
theorem ds_12_parts : dsc yX12_parts 3 := ⟨by decide +kernel, by decide +kernel, by decide +kernel⟩
theorem im_12_parts : Cond.instanceMethod yX12_parts ∈ BIG := big_of (tk8 _ (List.mem_of_getElem? (i := 50) (by decide +kernel))) (by decide +kernel)
theorem se_12_parts : Cond.selects (yX12_parts).cls yX12_parts yX12_parts ∈ BIG := big_of (pv6 (yX12_parts, 64) (List.mem_of_getElem? (i := 10) (by decide +kernel))) (by decide +kernel)
theorem wi_12_parts : wI yX12_parts := ⟨im_12_parts, se_12_parts⟩
theorem ml_12_297 : Cond.methodLink RX12 297 yX12_parts ∈ BIG := big_of (tk8 _ (List.mem_of_getElem? (i := 48) (by decide +kernel))) (by decide +kernel)
theorem co_12_held : Cond.code yX12_held cX12_held 8 (some .int) ∈ BIG := big_of (tk8 _ (List.mem_of_getElem? (i := 47) (by decide +kernel))) (by decide +kernel)
theorem wb_12_held : wB yX12_held cX12_held 8 (some .int) := ⟨in_12, co_12_held⟩
theorem ds_12_held : dsc yX12_held 3 := ⟨by decide +kernel, by decide +kernel, by decide +kernel⟩
theorem im_12_held : Cond.instanceMethod yX12_held ∈ BIG := big_of (tk8 _ (List.mem_of_getElem? (i := 45) (by decide +kernel))) (by decide +kernel)
theorem se_12_held : Cond.selects (yX12_held).cls yX12_held yX12_held ∈ BIG := big_of (tk8 _ (List.mem_of_getElem? (i := 46) (by decide +kernel))) (by decide +kernel)
theorem wi_12_held : wI yX12_held := ⟨im_12_held, se_12_held⟩
theorem fl_12_34 : Cond.fieldLink RX12 34 (TX12 8).1 (TX12 8).2.1 (TX12 8).2.2.1 ∈ BIG := big_of (tk6 _ (List.mem_of_getElem? (i := 74) (by decide +kernel))) (by decide +kernel)
theorem co_12_enter : Cond.code yX12_enter cX12_enter 6 (some .int) ∈ BIG := big_of (tk8 _ (List.mem_of_getElem? (i := 59) (by decide +kernel))) (by decide +kernel)
theorem wb_12_enter : wB yX12_enter cX12_enter 6 (some .int) := ⟨in_12, co_12_enter⟩
theorem ds_12_enter : dsc yX12_enter 4 := ⟨by decide +kernel, by decide +kernel, by decide +kernel⟩
theorem im_12_enter : Cond.instanceMethod yX12_enter ∈ BIG := big_of (tk8 _ (List.mem_of_getElem? (i := 57) (by decide +kernel))) (by decide +kernel)
theorem se_12_enter : Cond.selects (yX12_enter).cls yX12_enter yX12_enter ∈ BIG := big_of (tk8 _ (List.mem_of_getElem? (i := 58) (by decide +kernel))) (by decide +kernel)
theorem wi_12_enter : wI yX12_enter := ⟨im_12_enter, se_12_enter⟩
theorem co_12_latest : Cond.code yX12_latest cX12_latest 6 (some .int) ∈ BIG := big_of (tk8 _ (List.mem_of_getElem? (i := 71) (by decide +kernel))) (by decide +kernel)
theorem wb_12_latest : wB yX12_latest cX12_latest 6 (some .int) := ⟨in_12, co_12_latest⟩
theorem ds_12_latest : dsc yX12_latest 3 := ⟨by decide +kernel, by decide +kernel, by decide +kernel⟩
theorem im_12_latest : Cond.instanceMethod yX12_latest ∈ BIG := big_of (tk8 _ (List.mem_of_getElem? (i := 70) (by decide +kernel))) (by decide +kernel)
theorem se_12_latest : Cond.selects (yX12_latest).cls yX12_latest yX12_latest ∈ BIG := big_of (pv6 (yX12_latest, 64) (List.mem_of_getElem? (i := 13) (by decide +kernel))) (by decide +kernel)
theorem wi_12_latest : wI yX12_latest := ⟨im_12_latest, se_12_latest⟩
theorem ml_12_300 : Cond.methodLink RX12 300 yX12_latest ∈ BIG := big_of (tk8 _ (List.mem_of_getElem? (i := 68) (by decide +kernel))) (by decide +kernel)
theorem co_12_isAt : Cond.code yX12_isAt cX12_isAt 5 (some .int) ∈ BIG := big_of (tk8 _ (List.mem_of_getElem? (i := 67) (by decide +kernel))) (by decide +kernel)
theorem wb_12_isAt : wB yX12_isAt cX12_isAt 5 (some .int) := ⟨in_12, co_12_isAt⟩
theorem ds_12_isAt : dsc yX12_isAt 3 := ⟨by decide +kernel, by decide +kernel, by decide +kernel⟩
theorem im_12_isAt : Cond.instanceMethod yX12_isAt ∈ BIG := big_of (tk8 _ (List.mem_of_getElem? (i := 66) (by decide +kernel))) (by decide +kernel)
theorem se_12_isAt : Cond.selects (yX12_isAt).cls yX12_isAt yX12_isAt ∈ BIG := big_of (pv6 (yX12_isAt, 64) (List.mem_of_getElem? (i := 12) (by decide +kernel))) (by decide +kernel)
theorem wi_12_isAt : wI yX12_isAt := ⟨im_12_isAt, se_12_isAt⟩
theorem ml_12_303 : Cond.methodLink RX12 303 yX12_isAt ∈ BIG := big_of (tk8 _ (List.mem_of_getElem? (i := 64) (by decide +kernel))) (by decide +kernel)
theorem co_12_at : Cond.code yX12_at cX12_at 4 (some .int) ∈ BIG := big_of (tk8 _ (List.mem_of_getElem? (i := 63) (by decide +kernel))) (by decide +kernel)
theorem wb_12_at : wB yX12_at cX12_at 4 (some .int) := ⟨in_12, co_12_at⟩
theorem ds_12_at : dsc yX12_at 3 := ⟨by decide +kernel, by decide +kernel, by decide +kernel⟩
theorem im_12_at : Cond.instanceMethod yX12_at ∈ BIG := big_of (tk8 _ (List.mem_of_getElem? (i := 61) (by decide +kernel))) (by decide +kernel)
theorem se_12_at : Cond.selects (yX12_at).cls yX12_at yX12_at ∈ BIG := big_of (tk8 _ (List.mem_of_getElem? (i := 62) (by decide +kernel))) (by decide +kernel)
theorem wi_12_at : wI yX12_at := ⟨im_12_at, se_12_at⟩
theorem co_12_counted : Cond.code yX12_counted cX12_counted 9 (some .int) ∈ BIG := big_of (tk8 _ (List.mem_of_getElem? (i := 75) (by decide +kernel))) (by decide +kernel)
theorem wb_12_counted : wB yX12_counted cX12_counted 9 (some .int) := ⟨in_12, co_12_counted⟩
theorem ds_12_counted : dsc yX12_counted 4 := ⟨by decide +kernel, by decide +kernel, by decide +kernel⟩
theorem im_12_counted : Cond.instanceMethod yX12_counted ∈ BIG := big_of (tk8 _ (List.mem_of_getElem? (i := 73) (by decide +kernel))) (by decide +kernel)
theorem se_12_counted : Cond.selects (yX12_counted).cls yX12_counted yX12_counted ∈ BIG := big_of (tk8 _ (List.mem_of_getElem? (i := 74) (by decide +kernel))) (by decide +kernel)
theorem wi_12_counted : wI yX12_counted := ⟨im_12_counted, se_12_counted⟩
theorem co_12_cameAt : Cond.code yX12_cameAt cX12_cameAt 5 (some .int) ∈ BIG := big_of (tk8 _ (List.mem_of_getElem? (i := 83) (by decide +kernel))) (by decide +kernel)
theorem wb_12_cameAt : wB yX12_cameAt cX12_cameAt 5 (some .int) := ⟨in_12, co_12_cameAt⟩
theorem ds_12_cameAt : dsc yX12_cameAt 2 := ⟨by decide +kernel, by decide +kernel, by decide +kernel⟩
theorem im_12_cameAt : Cond.instanceMethod yX12_cameAt ∈ BIG := big_of (tk8 _ (List.mem_of_getElem? (i := 82) (by decide +kernel))) (by decide +kernel)
theorem se_12_cameAt : Cond.selects (yX12_cameAt).cls yX12_cameAt yX12_cameAt ∈ BIG := big_of (pv6 (yX12_cameAt, 64) (List.mem_of_getElem? (i := 14) (by decide +kernel))) (by decide +kernel)
theorem wi_12_cameAt : wI yX12_cameAt := ⟨im_12_cameAt, se_12_cameAt⟩
theorem ml_12_306 : Cond.methodLink RX12 306 yX12_cameAt ∈ BIG := big_of (tk8 _ (List.mem_of_getElem? (i := 80) (by decide +kernel))) (by decide +kernel)
theorem co_12_came : Cond.code yX12_came cX12_came 4 (some .int) ∈ BIG := big_of (tk8 _ (List.mem_of_getElem? (i := 79) (by decide +kernel))) (by decide +kernel)
theorem wb_12_came : wB yX12_came cX12_came 4 (some .int) := ⟨in_12, co_12_came⟩
theorem ds_12_came : dsc yX12_came 2 := ⟨by decide +kernel, by decide +kernel, by decide +kernel⟩
theorem im_12_came : Cond.instanceMethod yX12_came ∈ BIG := big_of (tk8 _ (List.mem_of_getElem? (i := 77) (by decide +kernel))) (by decide +kernel)
theorem se_12_came : Cond.selects (yX12_came).cls yX12_came yX12_came ∈ BIG := big_of (tk8 _ (List.mem_of_getElem? (i := 78) (by decide +kernel))) (by decide +kernel)
theorem wi_12_came : wI yX12_came := ⟨im_12_came, se_12_came⟩
theorem fl_12_76 : Cond.fieldLink RX12 76 (TX12 27).1 (TX12 27).2.1 (TX12 27).2.2.1 ∈ BIG := big_of (tk6 _ (List.mem_of_getElem? (i := 93) (by decide +kernel))) (by decide +kernel)
theorem kc_12_309 : Cond.constant RX12 309 (Int32.ofInt 100000) ∈ BIG := big_of (tk8 _ (List.mem_of_getElem? (i := 88) (by decide +kernel))) (by decide +kernel)
theorem co_12_heard : Cond.code yX12_heard cX12_heard 8 (some .int) ∈ BIG := big_of (tk8 _ (List.mem_of_getElem? (i := 87) (by decide +kernel))) (by decide +kernel)
theorem wb_12_heard : wB yX12_heard cX12_heard 8 (some .int) := ⟨in_12, co_12_heard⟩
theorem ds_12_heard : dsc yX12_heard 2 := ⟨by decide +kernel, by decide +kernel, by decide +kernel⟩
theorem im_12_heard : Cond.instanceMethod yX12_heard ∈ BIG := big_of (tk8 _ (List.mem_of_getElem? (i := 85) (by decide +kernel))) (by decide +kernel)
theorem se_12_heard : Cond.selects (yX12_heard).cls yX12_heard yX12_heard ∈ BIG := big_of (tk8 _ (List.mem_of_getElem? (i := 86) (by decide +kernel))) (by decide +kernel)
theorem wi_12_heard : wI yX12_heard := ⟨im_12_heard, se_12_heard⟩
theorem fl_12_310 : Cond.fieldLink RX12 310 (TX12 29).1 (TX12 29).2.1 (TX12 29).2.2.1 ∈ BIG := big_of (tk6 _ (List.mem_of_getElem? (i := 95) (by decide +kernel))) (by decide +kernel)
theorem fl_12_79 : Cond.fieldLink RX12 79 (TX12 28).1 (TX12 28).2.1 (TX12 28).2.2.1 ∈ BIG := big_of (tk6 _ (List.mem_of_getElem? (i := 94) (by decide +kernel))) (by decide +kernel)
theorem kl_12_313 : Cond.constantLong RX12 313 (Int64.ofInt 255) ∈ BIG := big_of (tk8 _ (List.mem_of_getElem? (i := 93) (by decide +kernel))) (by decide +kernel)
theorem co_12_feed : Cond.code yX12_feed cX12_feed 5 (some .int) ∈ BIG := big_of (tk8 _ (List.mem_of_getElem? (i := 92) (by decide +kernel))) (by decide +kernel)
theorem wb_12_feed : wB yX12_feed cX12_feed 5 (some .int) := ⟨in_12, co_12_feed⟩
theorem ds_12_feed : dsc yX12_feed 2 := ⟨by decide +kernel, by decide +kernel, by decide +kernel⟩
theorem im_12_feed : Cond.instanceMethod yX12_feed ∈ BIG := big_of (tk8 _ (List.mem_of_getElem? (i := 90) (by decide +kernel))) (by decide +kernel)
theorem se_12_feed : Cond.selects (yX12_feed).cls yX12_feed yX12_feed ∈ BIG := big_of (tk8 _ (List.mem_of_getElem? (i := 91) (by decide +kernel))) (by decide +kernel)
theorem wi_12_feed : wI yX12_feed := ⟨im_12_feed, se_12_feed⟩
theorem co_12_isLetter : Cond.code yX12_isLetter cX12_isLetter 1 (some .boolean) ∈ BIG := big_of (tk8 _ (List.mem_of_getElem? (i := 104) (by decide +kernel))) (by decide +kernel)
theorem wb_12_isLetter : wB yX12_isLetter cX12_isLetter 1 (some .boolean) := ⟨in_12, co_12_isLetter⟩
theorem ds_12_isLetter : dsc yX12_isLetter 1 := ⟨by decide +kernel, by decide +kernel, by decide +kernel⟩
theorem st_12_isLetter : Cond.static yX12_isLetter ∈ BIG := big_of (tk8 _ (List.mem_of_getElem? (i := 103) (by decide +kernel))) (by decide +kernel)
theorem co_12_isDigit : Cond.code yX12_isDigit cX12_isDigit 1 (some .boolean) ∈ BIG := big_of (tk8 _ (List.mem_of_getElem? (i := 107) (by decide +kernel))) (by decide +kernel)
theorem wb_12_isDigit : wB yX12_isDigit cX12_isDigit 1 (some .boolean) := ⟨in_12, co_12_isDigit⟩
theorem ds_12_isDigit : dsc yX12_isDigit 1 := ⟨by decide +kernel, by decide +kernel, by decide +kernel⟩
theorem st_12_isDigit : Cond.static yX12_isDigit ∈ BIG := big_of (tk8 _ (List.mem_of_getElem? (i := 106) (by decide +kernel))) (by decide +kernel)
theorem fl_12_315 : Cond.fieldLink RX12 315 (TX12 32).1 (TX12 32).2.1 (TX12 32).2.2.1 ∈ BIG := big_of (tk6 _ (List.mem_of_getElem? (i := 98) (by decide +kernel))) (by decide +kernel)
theorem ml_12_327 : Cond.methodLink RX12 327 yX12_isLetter ∈ BIG := big_of (tk8 _ (List.mem_of_getElem? (i := 102) (by decide +kernel))) (by decide +kernel)
theorem fl_12_318 : Cond.fieldLink RX12 318 (TX12 31).1 (TX12 31).2.1 (TX12 31).2.2.1 ∈ BIG := big_of (tk6 _ (List.mem_of_getElem? (i := 97) (by decide +kernel))) (by decide +kernel)
theorem fl_12_321 : Cond.fieldLink RX12 321 (TX12 33).1 (TX12 33).2.1 (TX12 33).2.2.1 ∈ BIG := big_of (tk6 _ (List.mem_of_getElem? (i := 99) (by decide +kernel))) (by decide +kernel)
theorem ml_12_330 : Cond.methodLink RX12 330 yX12_isDigit ∈ BIG := big_of (tk8 _ (List.mem_of_getElem? (i := 105) (by decide +kernel))) (by decide +kernel)
theorem fl_12_324 : Cond.fieldLink RX12 324 (TX12 30).1 (TX12 30).2.1 (TX12 30).2.2.1 ∈ BIG := big_of (tk6 _ (List.mem_of_getElem? (i := 96) (by decide +kernel))) (by decide +kernel)
theorem co_12_advance : Cond.code yX12_advance cX12_advance 2 none ∈ BIG := big_of (tk8 _ (List.mem_of_getElem? (i := 101) (by decide +kernel))) (by decide +kernel)
theorem wb_12_advance : wB yX12_advance cX12_advance 2 none := ⟨in_12, co_12_advance⟩
theorem ds_12_advance : dsc yX12_advance 0 := ⟨by decide +kernel, by decide +kernel, by decide +kernel⟩
theorem im_12_advance : Cond.instanceMethod yX12_advance ∈ BIG := big_of (tk8 _ (List.mem_of_getElem? (i := 100) (by decide +kernel))) (by decide +kernel)
theorem se_12_advance : Cond.selects (yX12_advance).cls yX12_advance yX12_advance ∈ BIG := big_of (pv6 (yX12_advance, 64) (List.mem_of_getElem? (i := 15) (by decide +kernel))) (by decide +kernel)
theorem wi_12_advance : wI yX12_advance := ⟨im_12_advance, se_12_advance⟩
theorem fl_12_333 : Cond.fieldLink RX12 333 (TX12 34).1 (TX12 34).2.1 (TX12 34).2.2.1 ∈ BIG := big_of (tk6 _ (List.mem_of_getElem? (i := 100) (by decide +kernel))) (by decide +kernel)
theorem co_12_isGood : Cond.code yX12_isGood cX12_isGood 1 (some .boolean) ∈ BIG := big_of (tk8 _ (List.mem_of_getElem? (i := 111) (by decide +kernel))) (by decide +kernel)
theorem wb_12_isGood : wB yX12_isGood cX12_isGood 1 (some .boolean) := ⟨in_12, co_12_isGood⟩
theorem ds_12_isGood : dsc yX12_isGood 0 := ⟨by decide +kernel, by decide +kernel, by decide +kernel⟩
theorem im_12_isGood : Cond.instanceMethod yX12_isGood ∈ BIG := big_of (tk8 _ (List.mem_of_getElem? (i := 110) (by decide +kernel))) (by decide +kernel)
theorem se_12_isGood : Cond.selects (yX12_isGood).cls yX12_isGood yX12_isGood ∈ BIG := big_of (pv7 (yX12_isGood, 64) (List.mem_of_getElem? (i := 0) (by decide +kernel))) (by decide +kernel)
theorem wi_12_isGood : wI yX12_isGood := ⟨im_12_isGood, se_12_isGood⟩
theorem co_12_wrong : Cond.code yX12_wrong cX12_wrong 1 none ∈ BIG := big_of (tk8 _ (List.mem_of_getElem? (i := 125) (by decide +kernel))) (by decide +kernel)
theorem wb_12_wrong : wB yX12_wrong cX12_wrong 1 none := ⟨in_12, co_12_wrong⟩
theorem ds_12_wrong : dsc yX12_wrong 0 := ⟨by decide +kernel, by decide +kernel, by decide +kernel⟩
theorem im_12_wrong : Cond.instanceMethod yX12_wrong ∈ BIG := big_of (tk8 _ (List.mem_of_getElem? (i := 124) (by decide +kernel))) (by decide +kernel)
theorem se_12_wrong : Cond.selects (yX12_wrong).cls yX12_wrong yX12_wrong ∈ BIG := big_of (pv7 (yX12_wrong, 64) (List.mem_of_getElem? (i := 3) (by decide +kernel))) (by decide +kernel)
theorem wi_12_wrong : wI yX12_wrong := ⟨im_12_wrong, se_12_wrong⟩
theorem ml_12_336 : Cond.methodLink RX12 336 yX12_isGood ∈ BIG := big_of (tk8 _ (List.mem_of_getElem? (i := 108) (by decide +kernel))) (by decide +kernel)
theorem ml_12_339 : Cond.methodLink RX12 339 yX12_advance ∈ BIG := big_of (tk8 _ (List.mem_of_getElem? (i := 98) (by decide +kernel))) (by decide +kernel)
theorem ml_12_342 : Cond.methodLink RX12 342 yX12_wrong ∈ BIG := big_of (tk8 _ (List.mem_of_getElem? (i := 122) (by decide +kernel))) (by decide +kernel)
theorem co_12_wantNumber : Cond.code yX12_wantNumber cX12_wantNumber 3 (some .int) ∈ BIG := big_of (tk8 _ (List.mem_of_getElem? (i := 129) (by decide +kernel))) (by decide +kernel)
theorem wb_12_wantNumber : wB yX12_wantNumber cX12_wantNumber 3 (some .int) := ⟨in_12, co_12_wantNumber⟩
theorem ds_12_wantNumber : dsc yX12_wantNumber 1 := ⟨by decide +kernel, by decide +kernel, by decide +kernel⟩
theorem im_12_wantNumber : Cond.instanceMethod yX12_wantNumber ∈ BIG := big_of (tk8 _ (List.mem_of_getElem? (i := 128) (by decide +kernel))) (by decide +kernel)
theorem se_12_wantNumber : Cond.selects (yX12_wantNumber).cls yX12_wantNumber yX12_wantNumber ∈ BIG := big_of (pv7 (yX12_wantNumber, 64) (List.mem_of_getElem? (i := 4) (by decide +kernel))) (by decide +kernel)
theorem wi_12_wantNumber : wI yX12_wantNumber := ⟨im_12_wantNumber, se_12_wantNumber⟩
theorem co_12_isWord : Cond.code yX12_isWord cX12_isWord 2 (some .boolean) ∈ BIG := big_of (tk8 _ (List.mem_of_getElem? (i := 119) (by decide +kernel))) (by decide +kernel)
theorem wb_12_isWord : wB yX12_isWord cX12_isWord 2 (some .boolean) := ⟨in_12, co_12_isWord⟩
theorem ds_12_isWord : dsc yX12_isWord 1 := ⟨by decide +kernel, by decide +kernel, by decide +kernel⟩
theorem im_12_isWord : Cond.instanceMethod yX12_isWord ∈ BIG := big_of (tk8 _ (List.mem_of_getElem? (i := 118) (by decide +kernel))) (by decide +kernel)
theorem se_12_isWord : Cond.selects (yX12_isWord).cls yX12_isWord yX12_isWord ∈ BIG := big_of (pv7 (yX12_isWord, 64) (List.mem_of_getElem? (i := 2) (by decide +kernel))) (by decide +kernel)
theorem wi_12_isWord : wI yX12_isWord := ⟨im_12_isWord, se_12_isWord⟩
theorem co_12_want : Cond.code yX12_want cX12_want 3 none ∈ BIG := big_of (tk8 _ (List.mem_of_getElem? (i := 146) (by decide +kernel))) (by decide +kernel)
theorem wb_12_want : wB yX12_want cX12_want 3 none := ⟨in_12, co_12_want⟩
theorem ds_12_want : dsc yX12_want 2 := ⟨by decide +kernel, by decide +kernel, by decide +kernel⟩
theorem im_12_want : Cond.instanceMethod yX12_want ∈ BIG := big_of (tk8 _ (List.mem_of_getElem? (i := 145) (by decide +kernel))) (by decide +kernel)
theorem se_12_want : Cond.selects (yX12_want).cls yX12_want yX12_want ∈ BIG := big_of (pv7 (yX12_want, 64) (List.mem_of_getElem? (i := 7) (by decide +kernel))) (by decide +kernel)
theorem wi_12_want : wI yX12_want := ⟨im_12_want, se_12_want⟩
theorem ml_12_345 : Cond.methodLink RX12 345 yX12_isWord ∈ BIG := big_of (tk8 _ (List.mem_of_getElem? (i := 116) (by decide +kernel))) (by decide +kernel)
theorem kc_12_348 : Cond.constant RX12 348 (Int32.ofInt 197814) ∈ BIG := big_of (tk8 _ (List.mem_of_getElem? (i := 138) (by decide +kernel))) (by decide +kernel)
theorem kc_12_349 : Cond.constant RX12 349 (Int32.ofInt 365260) ∈ BIG := big_of (tk8 _ (List.mem_of_getElem? (i := 139) (by decide +kernel))) (by decide +kernel)
theorem kc_12_350 : Cond.constant RX12 350 (Int32.ofInt 1905383) ∈ BIG := big_of (tk8 _ (List.mem_of_getElem? (i := 140) (by decide +kernel))) (by decide +kernel)
theorem kc_12_351 : Cond.constant RX12 351 (Int32.ofInt 286880) ∈ BIG := big_of (tk8 _ (List.mem_of_getElem? (i := 141) (by decide +kernel))) (by decide +kernel)
theorem co_12_causeHere : Cond.code yX12_causeHere cX12_causeHere 1 (some .int) ∈ BIG := big_of (tk8 _ (List.mem_of_getElem? (i := 137) (by decide +kernel))) (by decide +kernel)
theorem wb_12_causeHere : wB yX12_causeHere cX12_causeHere 1 (some .int) := ⟨in_12, co_12_causeHere⟩
theorem ds_12_causeHere : dsc yX12_causeHere 0 := ⟨by decide +kernel, by decide +kernel, by decide +kernel⟩
theorem im_12_causeHere : Cond.instanceMethod yX12_causeHere ∈ BIG := big_of (tk8 _ (List.mem_of_getElem? (i := 136) (by decide +kernel))) (by decide +kernel)
theorem se_12_causeHere : Cond.selects (yX12_causeHere).cls yX12_causeHere yX12_causeHere ∈ BIG := big_of (pv7 (yX12_causeHere, 64) (List.mem_of_getElem? (i := 6) (by decide +kernel))) (by decide +kernel)
theorem wi_12_causeHere : wI yX12_causeHere := ⟨im_12_causeHere, se_12_causeHere⟩
theorem ml_12_352 : Cond.methodLink RX12 352 yX12_causeHere ∈ BIG := big_of (tk8 _ (List.mem_of_getElem? (i := 134) (by decide +kernel))) (by decide +kernel)
theorem co_12_wantCauses : Cond.code yX12_wantCauses cX12_wantCauses 4 (some .int) ∈ BIG := big_of (tk8 _ (List.mem_of_getElem? (i := 133) (by decide +kernel))) (by decide +kernel)
theorem wb_12_wantCauses : wB yX12_wantCauses cX12_wantCauses 4 (some .int) := ⟨in_12, co_12_wantCauses⟩
theorem ds_12_wantCauses : dsc yX12_wantCauses 0 := ⟨by decide +kernel, by decide +kernel, by decide +kernel⟩
theorem im_12_wantCauses : Cond.instanceMethod yX12_wantCauses ∈ BIG := big_of (tk8 _ (List.mem_of_getElem? (i := 132) (by decide +kernel))) (by decide +kernel)
theorem se_12_wantCauses : Cond.selects (yX12_wantCauses).cls yX12_wantCauses yX12_wantCauses ∈ BIG := big_of (pv7 (yX12_wantCauses, 64) (List.mem_of_getElem? (i := 5) (by decide +kernel))) (by decide +kernel)
theorem wi_12_wantCauses : wI yX12_wantCauses := ⟨im_12_wantCauses, se_12_wantCauses⟩
theorem kc_12_356 : Cond.constant RX12 356 (Int32.ofInt 131360) ∈ BIG := big_of (tk8 _ (List.mem_of_getElem? (i := 120) (by decide +kernel))) (by decide +kernel)
theorem kc_12_357 : Cond.constant RX12 357 (Int32.ofInt 267347) ∈ BIG := big_of (tk8 _ (List.mem_of_getElem? (i := 121) (by decide +kernel))) (by decide +kernel)
theorem fl_12_82 : Cond.fieldLink RX12 82 (TX12 35).1 (TX12 35).2.1 (TX12 35).2.2.1 ∈ BIG := big_of (tk6 _ (List.mem_of_getElem? (i := 101) (by decide +kernel))) (by decide +kernel)
theorem ml_12_358 : Cond.methodLink RX12 358 yX12_wantNumber ∈ BIG := big_of (tk8 _ (List.mem_of_getElem? (i := 126) (by decide +kernel))) (by decide +kernel)
theorem ml_12_361 : Cond.methodLink RX12 361 yX12_wantCauses ∈ BIG := big_of (tk8 _ (List.mem_of_getElem? (i := 130) (by decide +kernel))) (by decide +kernel)
theorem kc_12_364 : Cond.constant RX12 364 (Int32.ofInt 311436) ∈ BIG := big_of (tk8 _ (List.mem_of_getElem? (i := 142) (by decide +kernel))) (by decide +kernel)
theorem ml_12_365 : Cond.methodLink RX12 365 yX12_want ∈ BIG := big_of (tk8 _ (List.mem_of_getElem? (i := 143) (by decide +kernel))) (by decide +kernel)
theorem kc_12_368 : Cond.constant RX12 368 (Int32.ofInt 316351) ∈ BIG := big_of (tk8 _ (List.mem_of_getElem? (i := 147) (by decide +kernel))) (by decide +kernel)
theorem kc_12_369 : Cond.constant RX12 369 (Int32.ofInt 99233) ∈ BIG := big_of (tk8 _ (List.mem_of_getElem? (i := 148) (by decide +kernel))) (by decide +kernel)
theorem co_12_wantLine : Cond.code yX12_wantLine cX12_wantLine 4 none ∈ BIG := big_of (tk8 _ (List.mem_of_getElem? (i := 115) (by decide +kernel))) (by decide +kernel)
theorem wb_12_wantLine : wB yX12_wantLine cX12_wantLine 4 none := ⟨in_12, co_12_wantLine⟩
theorem ds_12_wantLine : dsc yX12_wantLine 1 := ⟨by decide +kernel, by decide +kernel, by decide +kernel⟩
theorem im_12_wantLine : Cond.instanceMethod yX12_wantLine ∈ BIG := big_of (tk8 _ (List.mem_of_getElem? (i := 114) (by decide +kernel))) (by decide +kernel)
theorem se_12_wantLine : Cond.selects (yX12_wantLine).cls yX12_wantLine yX12_wantLine ∈ BIG := big_of (pv7 (yX12_wantLine, 64) (List.mem_of_getElem? (i := 1) (by decide +kernel))) (by decide +kernel)
theorem wi_12_wantLine : wI yX12_wantLine := ⟨im_12_wantLine, se_12_wantLine⟩
theorem ml_12_370 : Cond.methodLink RX12 370 yX12_wantLine ∈ BIG := big_of (tk8 _ (List.mem_of_getElem? (i := 112) (by decide +kernel))) (by decide +kernel)
theorem fl_12_40 : Cond.fieldLink RX12 40 (TX12 10).1 (TX12 10).2.1 (TX12 10).2.2.1 ∈ BIG := big_of (tk6 _ (List.mem_of_getElem? (i := 76) (by decide +kernel))) (by decide +kernel)
theorem co_12_read : Cond.code yX12_read cX12_read 3 (some .int) ∈ BIG := big_of (tk8 _ (List.mem_of_getElem? (i := 97) (by decide +kernel))) (by decide +kernel)
theorem wb_12_read : wB yX12_read cX12_read 3 (some .int) := ⟨in_12, co_12_read⟩
theorem ds_12_read : dsc yX12_read 0 := ⟨by decide +kernel, by decide +kernel, by decide +kernel⟩
theorem im_12_read : Cond.instanceMethod yX12_read ∈ BIG := big_of (tk8 _ (List.mem_of_getElem? (i := 95) (by decide +kernel))) (by decide +kernel)
theorem se_12_read : Cond.selects (yX12_read).cls yX12_read yX12_read ∈ BIG := big_of (tk8 _ (List.mem_of_getElem? (i := 96) (by decide +kernel))) (by decide +kernel)
theorem wi_12_read : wI yX12_read := ⟨im_12_read, se_12_read⟩
theorem co_12_line : Cond.code yX12_line cX12_line 3 (some .int) ∈ BIG := big_of (tk8 _ (List.mem_of_getElem? (i := 152) (by decide +kernel))) (by decide +kernel)
theorem wb_12_line : wB yX12_line cX12_line 3 (some .int) := ⟨in_12, co_12_line⟩
theorem ds_12_line : dsc yX12_line 2 := ⟨by decide +kernel, by decide +kernel, by decide +kernel⟩
theorem im_12_line : Cond.instanceMethod yX12_line ∈ BIG := big_of (tk8 _ (List.mem_of_getElem? (i := 150) (by decide +kernel))) (by decide +kernel)
theorem se_12_line : Cond.selects (yX12_line).cls yX12_line yX12_line ∈ BIG := big_of (tk8 _ (List.mem_of_getElem? (i := 151) (by decide +kernel))) (by decide +kernel)
theorem wi_12_line : wI yX12_line := ⟨im_12_line, se_12_line⟩
theorem co_12_latestOf : Cond.code yX12_latestOf cX12_latestOf 4 (some .int) ∈ BIG := big_of (tk8 _ (List.mem_of_getElem? (i := 164) (by decide +kernel))) (by decide +kernel)
theorem wb_12_latestOf : wB yX12_latestOf cX12_latestOf 4 (some .int) := ⟨in_12, co_12_latestOf⟩
theorem ds_12_latestOf : dsc yX12_latestOf 1 := ⟨by decide +kernel, by decide +kernel, by decide +kernel⟩
theorem im_12_latestOf : Cond.instanceMethod yX12_latestOf ∈ BIG := big_of (tk8 _ (List.mem_of_getElem? (i := 163) (by decide +kernel))) (by decide +kernel)
theorem se_12_latestOf : Cond.selects (yX12_latestOf).cls yX12_latestOf yX12_latestOf ∈ BIG := big_of (pv7 (yX12_latestOf, 64) (List.mem_of_getElem? (i := 9) (by decide +kernel))) (by decide +kernel)
theorem wi_12_latestOf : wI yX12_latestOf := ⟨im_12_latestOf, se_12_latestOf⟩
theorem fl_12_88 : Cond.fieldLink RX12 88 (TX12 37).1 (TX12 37).2.1 (TX12 37).2.2.1 ∈ BIG := big_of (tk6 _ (List.mem_of_getElem? (i := 103) (by decide +kernel))) (by decide +kernel)
theorem ml_12_373 : Cond.methodLink RX12 373 yX12_latestOf ∈ BIG := big_of (tk8 _ (List.mem_of_getElem? (i := 161) (by decide +kernel))) (by decide +kernel)
theorem fl_12_85 : Cond.fieldLink RX12 85 (TX12 36).1 (TX12 36).2.1 (TX12 36).2.2.1 ∈ BIG := big_of (tk6 _ (List.mem_of_getElem? (i := 102) (by decide +kernel))) (by decide +kernel)
theorem co_12_findParts : Cond.code yX12_findParts cX12_findParts 9 none ∈ BIG := big_of (tk8 _ (List.mem_of_getElem? (i := 160) (by decide +kernel))) (by decide +kernel)
theorem wb_12_findParts : wB yX12_findParts cX12_findParts 9 none := ⟨in_12, co_12_findParts⟩
theorem ds_12_findParts : dsc yX12_findParts 3 := ⟨by decide +kernel, by decide +kernel, by decide +kernel⟩
theorem im_12_findParts : Cond.instanceMethod yX12_findParts ∈ BIG := big_of (tk8 _ (List.mem_of_getElem? (i := 159) (by decide +kernel))) (by decide +kernel)
theorem se_12_findParts : Cond.selects (yX12_findParts).cls yX12_findParts yX12_findParts ∈ BIG := big_of (pv7 (yX12_findParts, 64) (List.mem_of_getElem? (i := 8) (by decide +kernel))) (by decide +kernel)
theorem wi_12_findParts : wI yX12_findParts := ⟨im_12_findParts, se_12_findParts⟩
theorem ml_12_376 : Cond.methodLink RX12 376 yX12_findParts ∈ BIG := big_of (tk8 _ (List.mem_of_getElem? (i := 157) (by decide +kernel))) (by decide +kernel)
theorem co_12_part : Cond.code yX12_part cX12_part 5 (some .int) ∈ BIG := big_of (tk8 _ (List.mem_of_getElem? (i := 156) (by decide +kernel))) (by decide +kernel)
theorem wb_12_part : wB yX12_part cX12_part 5 (some .int) := ⟨in_12, co_12_part⟩
theorem ds_12_part : dsc yX12_part 4 := ⟨by decide +kernel, by decide +kernel, by decide +kernel⟩
theorem im_12_part : Cond.instanceMethod yX12_part ∈ BIG := big_of (tk8 _ (List.mem_of_getElem? (i := 154) (by decide +kernel))) (by decide +kernel)
theorem se_12_part : Cond.selects (yX12_part).cls yX12_part yX12_part ∈ BIG := big_of (tk8 _ (List.mem_of_getElem? (i := 155) (by decide +kernel))) (by decide +kernel)
theorem wi_12_part : wI yX12_part := ⟨im_12_part, se_12_part⟩
theorem co_12_fineOf : Cond.code yX12_fineOf cX12_fineOf 4 (some .int) ∈ BIG := big_of (tk8 _ (List.mem_of_getElem? (i := 172) (by decide +kernel))) (by decide +kernel)
theorem wb_12_fineOf : wB yX12_fineOf cX12_fineOf 4 (some .int) := ⟨in_12, co_12_fineOf⟩
theorem ds_12_fineOf : dsc yX12_fineOf 1 := ⟨by decide +kernel, by decide +kernel, by decide +kernel⟩
theorem im_12_fineOf : Cond.instanceMethod yX12_fineOf ∈ BIG := big_of (tk8 _ (List.mem_of_getElem? (i := 171) (by decide +kernel))) (by decide +kernel)
theorem se_12_fineOf : Cond.selects (yX12_fineOf).cls yX12_fineOf yX12_fineOf ∈ BIG := big_of (pv7 (yX12_fineOf, 64) (List.mem_of_getElem? (i := 10) (by decide +kernel))) (by decide +kernel)
theorem wi_12_fineOf : wI yX12_fineOf := ⟨im_12_fineOf, se_12_fineOf⟩
theorem ml_12_380 : Cond.methodLink RX12 380 yX12_fineOf ∈ BIG := big_of (tk8 _ (List.mem_of_getElem? (i := 169) (by decide +kernel))) (by decide +kernel)
theorem co_12_fine : Cond.code yX12_fine cX12_fine 6 (some .int) ∈ BIG := big_of (tk8 _ (List.mem_of_getElem? (i := 168) (by decide +kernel))) (by decide +kernel)
theorem wb_12_fine : wB yX12_fine cX12_fine 6 (some .int) := ⟨in_12, co_12_fine⟩
theorem ds_12_fine : dsc yX12_fine 3 := ⟨by decide +kernel, by decide +kernel, by decide +kernel⟩
theorem im_12_fine : Cond.instanceMethod yX12_fine ∈ BIG := big_of (tk8 _ (List.mem_of_getElem? (i := 166) (by decide +kernel))) (by decide +kernel)
theorem se_12_fine : Cond.selects (yX12_fine).cls yX12_fine yX12_fine ∈ BIG := big_of (tk8 _ (List.mem_of_getElem? (i := 167) (by decide +kernel))) (by decide +kernel)
theorem wi_12_fine : wI yX12_fine := ⟨im_12_fine, se_12_fine⟩
theorem fl_12_100 : Cond.fieldLink RX12 100 (TX12 41).1 (TX12 41).2.1 (TX12 41).2.2.1 ∈ BIG := big_of (tk6 _ (List.mem_of_getElem? (i := 107) (by decide +kernel))) (by decide +kernel)
theorem co_12_findSpace : Cond.code yX12_findSpace cX12_findSpace 5 none ∈ BIG := big_of (tk8 _ (List.mem_of_getElem? (i := 184) (by decide +kernel))) (by decide +kernel)
theorem wb_12_findSpace : wB yX12_findSpace cX12_findSpace 5 none := ⟨in_12, co_12_findSpace⟩
theorem ds_12_findSpace : dsc yX12_findSpace 2 := ⟨by decide +kernel, by decide +kernel, by decide +kernel⟩
theorem im_12_findSpace : Cond.instanceMethod yX12_findSpace ∈ BIG := big_of (tk8 _ (List.mem_of_getElem? (i := 183) (by decide +kernel))) (by decide +kernel)
theorem se_12_findSpace : Cond.selects (yX12_findSpace).cls yX12_findSpace yX12_findSpace ∈ BIG := big_of (pv7 (yX12_findSpace, 64) (List.mem_of_getElem? (i := 12) (by decide +kernel))) (by decide +kernel)
theorem wi_12_findSpace : wI yX12_findSpace := ⟨im_12_findSpace, se_12_findSpace⟩
theorem fl_12_109 : Cond.fieldLink RX12 109 (TX12 47).1 (TX12 47).2.1 (TX12 47).2.2.1 ∈ BIG := big_of (tk6 _ (List.mem_of_getElem? (i := 113) (by decide +kernel))) (by decide +kernel)
theorem co_12_findDrives : Cond.code yX12_findDrives cX12_findDrives 5 none ∈ BIG := big_of (tk8 _ (List.mem_of_getElem? (i := 188) (by decide +kernel))) (by decide +kernel)
theorem wb_12_findDrives : wB yX12_findDrives cX12_findDrives 5 none := ⟨in_12, co_12_findDrives⟩
theorem ds_12_findDrives : dsc yX12_findDrives 2 := ⟨by decide +kernel, by decide +kernel, by decide +kernel⟩
theorem im_12_findDrives : Cond.instanceMethod yX12_findDrives ∈ BIG := big_of (tk8 _ (List.mem_of_getElem? (i := 187) (by decide +kernel))) (by decide +kernel)
theorem se_12_findDrives : Cond.selects (yX12_findDrives).cls yX12_findDrives yX12_findDrives ∈ BIG := big_of (pv7 (yX12_findDrives, 64) (List.mem_of_getElem? (i := 13) (by decide +kernel))) (by decide +kernel)
theorem wi_12_findDrives : wI yX12_findDrives := ⟨im_12_findDrives, se_12_findDrives⟩
theorem fl_12_94 : Cond.fieldLink RX12 94 (TX12 39).1 (TX12 39).2.1 (TX12 39).2.2.1 ∈ BIG := big_of (tk6 _ (List.mem_of_getElem? (i := 105) (by decide +kernel))) (by decide +kernel)
theorem fl_12_103 : Cond.fieldLink RX12 103 (TX12 45).1 (TX12 45).2.1 (TX12 45).2.2.1 ∈ BIG := big_of (tk6 _ (List.mem_of_getElem? (i := 111) (by decide +kernel))) (by decide +kernel)
theorem fl_12_91 : Cond.fieldLink RX12 91 (TX12 38).1 (TX12 38).2.1 (TX12 38).2.2.1 ∈ BIG := big_of (tk6 _ (List.mem_of_getElem? (i := 104) (by decide +kernel))) (by decide +kernel)
theorem fl_12_106 : Cond.fieldLink RX12 106 (TX12 46).1 (TX12 46).2.1 (TX12 46).2.2.1 ∈ BIG := big_of (tk6 _ (List.mem_of_getElem? (i := 112) (by decide +kernel))) (by decide +kernel)
theorem fl_12_383 : Cond.fieldLink RX12 383 (TX12 43).1 (TX12 43).2.1 (TX12 43).2.2.1 ∈ BIG := big_of (tk6 _ (List.mem_of_getElem? (i := 109) (by decide +kernel))) (by decide +kernel)
theorem fl_12_386 : Cond.fieldLink RX12 386 (TX12 44).1 (TX12 44).2.1 (TX12 44).2.2.1 ∈ BIG := big_of (tk6 _ (List.mem_of_getElem? (i := 110) (by decide +kernel))) (by decide +kernel)
theorem co_12_isGood_ : Cond.code yX12_isGood_ cX12_isGood_ 5 (some .boolean) ∈ BIG := big_of (tk8 _ (List.mem_of_getElem? (i := 192) (by decide +kernel))) (by decide +kernel)
theorem wb_12_isGood_ : wB yX12_isGood_ cX12_isGood_ 5 (some .boolean) := ⟨in_12, co_12_isGood_⟩
theorem ds_12_isGood_ : dsc yX12_isGood_ 1 := ⟨by decide +kernel, by decide +kernel, by decide +kernel⟩
theorem im_12_isGood_ : Cond.instanceMethod yX12_isGood_ ∈ BIG := big_of (tk8 _ (List.mem_of_getElem? (i := 191) (by decide +kernel))) (by decide +kernel)
theorem se_12_isGood_ : Cond.selects (yX12_isGood_).cls yX12_isGood_ yX12_isGood_ ∈ BIG := big_of (pv7 (yX12_isGood_, 64) (List.mem_of_getElem? (i := 14) (by decide +kernel))) (by decide +kernel)
theorem wi_12_isGood_ : wI yX12_isGood_ := ⟨im_12_isGood_, se_12_isGood_⟩
theorem fl_12_389 : Cond.fieldLink RX12 389 (TX12 42).1 (TX12 42).2.1 (TX12 42).2.2.1 ∈ BIG := big_of (tk6 _ (List.mem_of_getElem? (i := 108) (by decide +kernel))) (by decide +kernel)
theorem ml_12_392 : Cond.methodLink RX12 392 yX12_findSpace ∈ BIG := big_of (tk8 _ (List.mem_of_getElem? (i := 181) (by decide +kernel))) (by decide +kernel)
theorem ml_12_395 : Cond.methodLink RX12 395 yX12_findDrives ∈ BIG := big_of (tk8 _ (List.mem_of_getElem? (i := 185) (by decide +kernel))) (by decide +kernel)
theorem fl_12_97 : Cond.fieldLink RX12 97 (TX12 40).1 (TX12 40).2.1 (TX12 40).2.2.1 ∈ BIG := big_of (tk6 _ (List.mem_of_getElem? (i := 106) (by decide +kernel))) (by decide +kernel)
theorem ml_12_398 : Cond.methodLink RX12 398 yX12_isGood_ ∈ BIG := big_of (tk8 _ (List.mem_of_getElem? (i := 189) (by decide +kernel))) (by decide +kernel)
theorem co_12_nights : Cond.code yX12_nights cX12_nights 7 (some .boolean) ∈ BIG := big_of (tk8 _ (List.mem_of_getElem? (i := 180) (by decide +kernel))) (by decide +kernel)
theorem wb_12_nights : wB yX12_nights cX12_nights 7 (some .boolean) := ⟨in_12, co_12_nights⟩
theorem ds_12_nights : dsc yX12_nights 3 := ⟨by decide +kernel, by decide +kernel, by decide +kernel⟩
theorem im_12_nights : Cond.instanceMethod yX12_nights ∈ BIG := big_of (tk8 _ (List.mem_of_getElem? (i := 179) (by decide +kernel))) (by decide +kernel)
theorem se_12_nights : Cond.selects (yX12_nights).cls yX12_nights yX12_nights ∈ BIG := big_of (pv7 (yX12_nights, 64) (List.mem_of_getElem? (i := 11) (by decide +kernel))) (by decide +kernel)
theorem wi_12_nights : wI yX12_nights := ⟨im_12_nights, se_12_nights⟩
theorem ml_12_400 : Cond.methodLink RX12 400 yX12_nights ∈ BIG := big_of (tk8 _ (List.mem_of_getElem? (i := 177) (by decide +kernel))) (by decide +kernel)
theorem co_12_night : Cond.code yX12_night cX12_night 6 (some .int) ∈ BIG := big_of (tk8 _ (List.mem_of_getElem? (i := 176) (by decide +kernel))) (by decide +kernel)
theorem wb_12_night : wB yX12_night cX12_night 6 (some .int) := ⟨in_12, co_12_night⟩
theorem ds_12_night : dsc yX12_night 4 := ⟨by decide +kernel, by decide +kernel, by decide +kernel⟩
theorem im_12_night : Cond.instanceMethod yX12_night ∈ BIG := big_of (tk8 _ (List.mem_of_getElem? (i := 174) (by decide +kernel))) (by decide +kernel)
theorem se_12_night : Cond.selects (yX12_night).cls yX12_night yX12_night ∈ BIG := big_of (tk8 _ (List.mem_of_getElem? (i := 175) (by decide +kernel))) (by decide +kernel)
theorem wi_12_night : wI yX12_night := ⟨im_12_night, se_12_night⟩
theorem co_12_isWhere : Cond.code yX12_isWhere cX12_isWhere 2 (some .boolean) ∈ BIG := big_of (tk8 _ (List.mem_of_getElem? (i := 200) (by decide +kernel))) (by decide +kernel)
theorem wb_12_isWhere : wB yX12_isWhere cX12_isWhere 2 (some .boolean) := ⟨in_12, co_12_isWhere⟩
theorem ds_12_isWhere : dsc yX12_isWhere 1 := ⟨by decide +kernel, by decide +kernel, by decide +kernel⟩
theorem im_12_isWhere : Cond.instanceMethod yX12_isWhere ∈ BIG := big_of (tk8 _ (List.mem_of_getElem? (i := 199) (by decide +kernel))) (by decide +kernel)
theorem se_12_isWhere : Cond.selects (yX12_isWhere).cls yX12_isWhere yX12_isWhere ∈ BIG := big_of (pv7 (yX12_isWhere, 64) (List.mem_of_getElem? (i := 15) (by decide +kernel))) (by decide +kernel)
theorem wi_12_isWhere : wI yX12_isWhere := ⟨im_12_isWhere, se_12_isWhere⟩
theorem ml_12_403 : Cond.methodLink RX12 403 yX12_isWhere ∈ BIG := big_of (tk8 _ (List.mem_of_getElem? (i := 197) (by decide +kernel))) (by decide +kernel)
theorem fl_12_37 : Cond.fieldLink RX12 37 (TX12 9).1 (TX12 9).2.1 (TX12 9).2.2.1 ∈ BIG := big_of (tk6 _ (List.mem_of_getElem? (i := 75) (by decide +kernel))) (by decide +kernel)
theorem co_12_thing : Cond.code yX12_thing cX12_thing 4 (some .int) ∈ BIG := big_of (tk8 _ (List.mem_of_getElem? (i := 196) (by decide +kernel))) (by decide +kernel)
theorem wb_12_thing : wB yX12_thing cX12_thing 4 (some .int) := ⟨in_12, co_12_thing⟩
theorem ds_12_thing : dsc yX12_thing 2 := ⟨by decide +kernel, by decide +kernel, by decide +kernel⟩
theorem im_12_thing : Cond.instanceMethod yX12_thing ∈ BIG := big_of (tk8 _ (List.mem_of_getElem? (i := 194) (by decide +kernel))) (by decide +kernel)
theorem se_12_thing : Cond.selects (yX12_thing).cls yX12_thing yX12_thing ∈ BIG := big_of (tk8 _ (List.mem_of_getElem? (i := 195) (by decide +kernel))) (by decide +kernel)
theorem wi_12_thing : wI yX12_thing := ⟨im_12_thing, se_12_thing⟩
theorem co_12_carry : Cond.code yX12_carry cX12_carry 4 (some .int) ∈ BIG := big_of (tk8 _ (List.mem_of_getElem? (i := 204) (by decide +kernel))) (by decide +kernel)
theorem wb_12_carry : wB yX12_carry cX12_carry 4 (some .int) := ⟨in_12, co_12_carry⟩
theorem ds_12_carry : dsc yX12_carry 2 := ⟨by decide +kernel, by decide +kernel, by decide +kernel⟩
theorem im_12_carry : Cond.instanceMethod yX12_carry ∈ BIG := big_of (tk8 _ (List.mem_of_getElem? (i := 202) (by decide +kernel))) (by decide +kernel)
theorem se_12_carry : Cond.selects (yX12_carry).cls yX12_carry yX12_carry ∈ BIG := big_of (tk8 _ (List.mem_of_getElem? (i := 203) (by decide +kernel))) (by decide +kernel)
theorem wi_12_carry : wI yX12_carry := ⟨im_12_carry, se_12_carry⟩
theorem co_12_lackedAt : Cond.code yX12_lackedAt cX12_lackedAt 6 (some .int) ∈ BIG := big_of (tk8 _ (List.mem_of_getElem? (i := 212) (by decide +kernel))) (by decide +kernel)
theorem wb_12_lackedAt : wB yX12_lackedAt cX12_lackedAt 6 (some .int) := ⟨in_12, co_12_lackedAt⟩
theorem ds_12_lackedAt : dsc yX12_lackedAt 2 := ⟨by decide +kernel, by decide +kernel, by decide +kernel⟩
theorem im_12_lackedAt : Cond.instanceMethod yX12_lackedAt ∈ BIG := big_of (tk8 _ (List.mem_of_getElem? (i := 211) (by decide +kernel))) (by decide +kernel)
theorem se_12_lackedAt : Cond.selects (yX12_lackedAt).cls yX12_lackedAt yX12_lackedAt ∈ BIG := big_of (pv8 (yX12_lackedAt, 64) (List.mem_of_getElem? (i := 0) (by decide +kernel))) (by decide +kernel)
theorem wi_12_lackedAt : wI yX12_lackedAt := ⟨im_12_lackedAt, se_12_lackedAt⟩
theorem ml_12_406 : Cond.methodLink RX12 406 yX12_lackedAt ∈ BIG := big_of (tk8 _ (List.mem_of_getElem? (i := 209) (by decide +kernel))) (by decide +kernel)
theorem co_12_lacks : Cond.code yX12_lacks cX12_lacks 3 (some .int) ∈ BIG := big_of (tk8 _ (List.mem_of_getElem? (i := 208) (by decide +kernel))) (by decide +kernel)
theorem wb_12_lacks : wB yX12_lacks cX12_lacks 3 (some .int) := ⟨in_12, co_12_lacks⟩
theorem ds_12_lacks : dsc yX12_lacks 2 := ⟨by decide +kernel, by decide +kernel, by decide +kernel⟩
theorem im_12_lacks : Cond.instanceMethod yX12_lacks ∈ BIG := big_of (tk8 _ (List.mem_of_getElem? (i := 206) (by decide +kernel))) (by decide +kernel)
theorem se_12_lacks : Cond.selects (yX12_lacks).cls yX12_lacks yX12_lacks ∈ BIG := big_of (tk8 _ (List.mem_of_getElem? (i := 207) (by decide +kernel))) (by decide +kernel)
theorem wi_12_lacks : wI yX12_lacks := ⟨im_12_lacks, se_12_lacks⟩
theorem fl_12_112 : Cond.fieldLink RX12 112 (TX12 48).1 (TX12 48).2.1 (TX12 48).2.2.1 ∈ BIG := big_of (tk6 _ (List.mem_of_getElem? (i := 114) (by decide +kernel))) (by decide +kernel)
theorem co_12_fetch : Cond.code yX12_fetch cX12_fetch 10 (some .int) ∈ BIG := big_of (tk8 _ (List.mem_of_getElem? (i := 216) (by decide +kernel))) (by decide +kernel)
theorem wb_12_fetch : wB yX12_fetch cX12_fetch 10 (some .int) := ⟨in_12, co_12_fetch⟩
theorem ds_12_fetch : dsc yX12_fetch 2 := ⟨by decide +kernel, by decide +kernel, by decide +kernel⟩
theorem im_12_fetch : Cond.instanceMethod yX12_fetch ∈ BIG := big_of (tk8 _ (List.mem_of_getElem? (i := 214) (by decide +kernel))) (by decide +kernel)
theorem se_12_fetch : Cond.selects (yX12_fetch).cls yX12_fetch yX12_fetch ∈ BIG := big_of (tk8 _ (List.mem_of_getElem? (i := 215) (by decide +kernel))) (by decide +kernel)
theorem wi_12_fetch : wI yX12_fetch := ⟨im_12_fetch, se_12_fetch⟩
theorem co_12_isShelf : Cond.code yX12_isShelf cX12_isShelf 1 (some .boolean) ∈ BIG := big_of (tk8 _ (List.mem_of_getElem? (i := 223) (by decide +kernel))) (by decide +kernel)
theorem wb_12_isShelf : wB yX12_isShelf cX12_isShelf 1 (some .boolean) := ⟨in_12, co_12_isShelf⟩
theorem ds_12_isShelf : dsc yX12_isShelf 1 := ⟨by decide +kernel, by decide +kernel, by decide +kernel⟩
theorem st_12_isShelf : Cond.static yX12_isShelf ∈ BIG := big_of (tk8 _ (List.mem_of_getElem? (i := 222) (by decide +kernel))) (by decide +kernel)
theorem ml_12_409 : Cond.methodLink RX12 409 yX12_isShelf ∈ BIG := big_of (tk8 _ (List.mem_of_getElem? (i := 221) (by decide +kernel))) (by decide +kernel)
theorem fl_12_115 : Cond.fieldLink RX12 115 (TX12 49).1 (TX12 49).2.1 (TX12 49).2.2.1 ∈ BIG := big_of (tk6 _ (List.mem_of_getElem? (i := 115) (by decide +kernel))) (by decide +kernel)
theorem fl_12_118 : Cond.fieldLink RX12 118 (TX12 50).1 (TX12 50).2.1 (TX12 50).2.2.1 ∈ BIG := big_of (tk6 _ (List.mem_of_getElem? (i := 116) (by decide +kernel))) (by decide +kernel)
theorem fl_12_121 : Cond.fieldLink RX12 121 (TX12 51).1 (TX12 51).2.1 (TX12 51).2.2.1 ∈ BIG := big_of (tk6 _ (List.mem_of_getElem? (i := 117) (by decide +kernel))) (by decide +kernel)
theorem co_12_sheet : Cond.code yX12_sheet cX12_sheet 5 (some .int) ∈ BIG := big_of (tk8 _ (List.mem_of_getElem? (i := 220) (by decide +kernel))) (by decide +kernel)
theorem wb_12_sheet : wB yX12_sheet cX12_sheet 5 (some .int) := ⟨in_12, co_12_sheet⟩
theorem ds_12_sheet : dsc yX12_sheet 3 := ⟨by decide +kernel, by decide +kernel, by decide +kernel⟩
theorem im_12_sheet : Cond.instanceMethod yX12_sheet ∈ BIG := big_of (tk8 _ (List.mem_of_getElem? (i := 218) (by decide +kernel))) (by decide +kernel)
theorem se_12_sheet : Cond.selects (yX12_sheet).cls yX12_sheet yX12_sheet ∈ BIG := big_of (tk8 _ (List.mem_of_getElem? (i := 219) (by decide +kernel))) (by decide +kernel)
theorem wi_12_sheet : wI yX12_sheet := ⟨im_12_sheet, se_12_sheet⟩
theorem co_12_put : Cond.code yX12_put cX12_put 4 (some .int) ∈ BIG := big_of (tk8 _ (List.mem_of_getElem? (i := 227) (by decide +kernel))) (by decide +kernel)
theorem wb_12_put : wB yX12_put cX12_put 4 (some .int) := ⟨in_12, co_12_put⟩
theorem ds_12_put : dsc yX12_put 3 := ⟨by decide +kernel, by decide +kernel, by decide +kernel⟩
theorem im_12_put : Cond.instanceMethod yX12_put ∈ BIG := big_of (tk8 _ (List.mem_of_getElem? (i := 225) (by decide +kernel))) (by decide +kernel)
theorem se_12_put : Cond.selects (yX12_put).cls yX12_put yX12_put ∈ BIG := big_of (tk8 _ (List.mem_of_getElem? (i := 226) (by decide +kernel))) (by decide +kernel)
theorem wi_12_put : wI yX12_put := ⟨im_12_put, se_12_put⟩
theorem co_12_lacksSort : Cond.code yX12_lacksSort cX12_lacksSort 3 (some .int) ∈ BIG := big_of (tk8 _ (List.mem_of_getElem? (i := 235) (by decide +kernel))) (by decide +kernel)
theorem wb_12_lacksSort : wB yX12_lacksSort cX12_lacksSort 3 (some .int) := ⟨in_12, co_12_lacksSort⟩
theorem ds_12_lacksSort : dsc yX12_lacksSort 2 := ⟨by decide +kernel, by decide +kernel, by decide +kernel⟩
theorem im_12_lacksSort : Cond.instanceMethod yX12_lacksSort ∈ BIG := big_of (tk8 _ (List.mem_of_getElem? (i := 234) (by decide +kernel))) (by decide +kernel)
theorem se_12_lacksSort : Cond.selects (yX12_lacksSort).cls yX12_lacksSort yX12_lacksSort ∈ BIG := big_of (pv8 (yX12_lacksSort, 64) (List.mem_of_getElem? (i := 1) (by decide +kernel))) (by decide +kernel)
theorem wi_12_lacksSort : wI yX12_lacksSort := ⟨im_12_lacksSort, se_12_lacksSort⟩
theorem ml_12_412 : Cond.methodLink RX12 412 yX12_lacksSort ∈ BIG := big_of (tk8 _ (List.mem_of_getElem? (i := 232) (by decide +kernel))) (by decide +kernel)
theorem co_12_item : Cond.code yX12_item cX12_item 5 (some .int) ∈ BIG := big_of (tk8 _ (List.mem_of_getElem? (i := 231) (by decide +kernel))) (by decide +kernel)
theorem wb_12_item : wB yX12_item cX12_item 5 (some .int) := ⟨in_12, co_12_item⟩
theorem ds_12_item : dsc yX12_item 3 := ⟨by decide +kernel, by decide +kernel, by decide +kernel⟩
theorem im_12_item : Cond.instanceMethod yX12_item ∈ BIG := big_of (tk8 _ (List.mem_of_getElem? (i := 229) (by decide +kernel))) (by decide +kernel)
theorem se_12_item : Cond.selects (yX12_item).cls yX12_item yX12_item ∈ BIG := big_of (tk8 _ (List.mem_of_getElem? (i := 230) (by decide +kernel))) (by decide +kernel)
theorem wi_12_item : wI yX12_item := ⟨im_12_item, se_12_item⟩
theorem ml_12_415 : Cond.methodLink RX12 415 yX12_enter ∈ BIG := big_of (tk9 _ (List.mem_of_getElem? (i := 0) (by decide +kernel))) (by decide +kernel)
theorem co_12_comes : Cond.code yX12_comes cX12_comes 5 (some .int) ∈ BIG := big_of (tk8 _ (List.mem_of_getElem? (i := 239) (by decide +kernel))) (by decide +kernel)
theorem wb_12_comes : wB yX12_comes cX12_comes 5 (some .int) := ⟨in_12, co_12_comes⟩
theorem ds_12_comes : dsc yX12_comes 2 := ⟨by decide +kernel, by decide +kernel, by decide +kernel⟩
theorem im_12_comes : Cond.instanceMethod yX12_comes ∈ BIG := big_of (tk8 _ (List.mem_of_getElem? (i := 237) (by decide +kernel))) (by decide +kernel)
theorem se_12_comes : Cond.selects (yX12_comes).cls yX12_comes yX12_comes ∈ BIG := big_of (tk8 _ (List.mem_of_getElem? (i := 238) (by decide +kernel))) (by decide +kernel)
theorem wi_12_comes : wI yX12_comes := ⟨im_12_comes, se_12_comes⟩
theorem fl_12_124 : Cond.fieldLink RX12 124 (TX12 52).1 (TX12 52).2.1 (TX12 52).2.2.1 ∈ BIG := big_of (tk6 _ (List.mem_of_getElem? (i := 118) (by decide +kernel))) (by decide +kernel)
theorem fl_12_127 : Cond.fieldLink RX12 127 (TX12 53).1 (TX12 53).2.1 (TX12 53).2.2.1 ∈ BIG := big_of (tk6 _ (List.mem_of_getElem? (i := 119) (by decide +kernel))) (by decide +kernel)
theorem fl_12_130 : Cond.fieldLink RX12 130 (TX12 54).1 (TX12 54).2.1 (TX12 54).2.2.1 ∈ BIG := big_of (tk6 _ (List.mem_of_getElem? (i := 120) (by decide +kernel))) (by decide +kernel)
theorem co_12_shelf : Cond.code yX12_shelf cX12_shelf 5 (some .int) ∈ BIG := big_of (tk9 _ (List.mem_of_getElem? (i := 4) (by decide +kernel))) (by decide +kernel)
theorem wb_12_shelf : wB yX12_shelf cX12_shelf 5 (some .int) := ⟨in_12, co_12_shelf⟩
theorem ds_12_shelf : dsc yX12_shelf 3 := ⟨by decide +kernel, by decide +kernel, by decide +kernel⟩
theorem im_12_shelf : Cond.instanceMethod yX12_shelf ∈ BIG := big_of (tk9 _ (List.mem_of_getElem? (i := 2) (by decide +kernel))) (by decide +kernel)
theorem se_12_shelf : Cond.selects (yX12_shelf).cls yX12_shelf yX12_shelf ∈ BIG := big_of (tk9 _ (List.mem_of_getElem? (i := 3) (by decide +kernel))) (by decide +kernel)
theorem wi_12_shelf : wI yX12_shelf := ⟨im_12_shelf, se_12_shelf⟩
theorem co_12_kindOn : Cond.code yX12_kindOn cX12_kindOn 3 (some .int) ∈ BIG := big_of (tk9 _ (List.mem_of_getElem? (i := 12) (by decide +kernel))) (by decide +kernel)
theorem wb_12_kindOn : wB yX12_kindOn cX12_kindOn 3 (some .int) := ⟨in_12, co_12_kindOn⟩
theorem ds_12_kindOn : dsc yX12_kindOn 1 := ⟨by decide +kernel, by decide +kernel, by decide +kernel⟩
theorem im_12_kindOn : Cond.instanceMethod yX12_kindOn ∈ BIG := big_of (tk9 _ (List.mem_of_getElem? (i := 11) (by decide +kernel))) (by decide +kernel)
theorem se_12_kindOn : Cond.selects (yX12_kindOn).cls yX12_kindOn yX12_kindOn ∈ BIG := big_of (pv8 (yX12_kindOn, 64) (List.mem_of_getElem? (i := 2) (by decide +kernel))) (by decide +kernel)
theorem wi_12_kindOn : wI yX12_kindOn := ⟨im_12_kindOn, se_12_kindOn⟩
theorem co_12_isUnder : Cond.code yX12_isUnder cX12_isUnder 2 (some .boolean) ∈ BIG := big_of (tk9 _ (List.mem_of_getElem? (i := 15) (by decide +kernel))) (by decide +kernel)
theorem wb_12_isUnder : wB yX12_isUnder cX12_isUnder 2 (some .boolean) := ⟨in_12, co_12_isUnder⟩
theorem ds_12_isUnder : dsc yX12_isUnder 2 := ⟨by decide +kernel, by decide +kernel, by decide +kernel⟩
theorem st_12_isUnder : Cond.static yX12_isUnder ∈ BIG := big_of (tk9 _ (List.mem_of_getElem? (i := 14) (by decide +kernel))) (by decide +kernel)
theorem ml_12_419 : Cond.methodLink RX12 419 yX12_kindOn ∈ BIG := big_of (tk9 _ (List.mem_of_getElem? (i := 9) (by decide +kernel))) (by decide +kernel)
theorem ml_12_422 : Cond.methodLink RX12 422 yX12_isUnder ∈ BIG := big_of (tk9 _ (List.mem_of_getElem? (i := 13) (by decide +kernel))) (by decide +kernel)
theorem co_12_taken : Cond.code yX12_taken cX12_taken 4 (some .int) ∈ BIG := big_of (tk9 _ (List.mem_of_getElem? (i := 8) (by decide +kernel))) (by decide +kernel)
theorem wb_12_taken : wB yX12_taken cX12_taken 4 (some .int) := ⟨in_12, co_12_taken⟩
theorem ds_12_taken : dsc yX12_taken 2 := ⟨by decide +kernel, by decide +kernel, by decide +kernel⟩
theorem im_12_taken : Cond.instanceMethod yX12_taken ∈ BIG := big_of (tk9 _ (List.mem_of_getElem? (i := 6) (by decide +kernel))) (by decide +kernel)
theorem se_12_taken : Cond.selects (yX12_taken).cls yX12_taken yX12_taken ∈ BIG := big_of (tk9 _ (List.mem_of_getElem? (i := 7) (by decide +kernel))) (by decide +kernel)
theorem wi_12_taken : wI yX12_taken := ⟨im_12_taken, se_12_taken⟩
theorem fl_12_425 : Cond.fieldLink RX12 425 (TX12 59).1 (TX12 59).2.1 (TX12 59).2.2.1 ∈ BIG := big_of (tk6 _ (List.mem_of_getElem? (i := 125) (by decide +kernel))) (by decide +kernel)
theorem fl_12_133 : Cond.fieldLink RX12 133 (TX12 58).1 (TX12 58).2.1 (TX12 58).2.2.1 ∈ BIG := big_of (tk6 _ (List.mem_of_getElem? (i := 124) (by decide +kernel))) (by decide +kernel)
theorem co_12_ran : Cond.code yX12_ran cX12_ran 2 none ∈ BIG := big_of (tk9 _ (List.mem_of_getElem? (i := 31) (by decide +kernel))) (by decide +kernel)
theorem wb_12_ran : wB yX12_ran cX12_ran 2 none := ⟨in_12, co_12_ran⟩
theorem ds_12_ran : dsc yX12_ran 1 := ⟨by decide +kernel, by decide +kernel, by decide +kernel⟩
theorem im_12_ran : Cond.instanceMethod yX12_ran ∈ BIG := big_of (tk9 _ (List.mem_of_getElem? (i := 30) (by decide +kernel))) (by decide +kernel)
theorem se_12_ran : Cond.selects (yX12_ran).cls yX12_ran yX12_ran ∈ BIG := big_of (pv8 (yX12_ran, 64) (List.mem_of_getElem? (i := 5) (by decide +kernel))) (by decide +kernel)
theorem wi_12_ran : wI yX12_ran := ⟨im_12_ran, se_12_ran⟩
theorem ml_12_428 : Cond.methodLink RX12 428 yX12_ran ∈ BIG := big_of (tk9 _ (List.mem_of_getElem? (i := 28) (by decide +kernel))) (by decide +kernel)
theorem fl_12_431 : Cond.fieldLink RX12 431 (TX12 56).1 (TX12 56).2.1 (TX12 56).2.2.1 ∈ BIG := big_of (tk6 _ (List.mem_of_getElem? (i := 122) (by decide +kernel))) (by decide +kernel)
theorem co_12_personCounts : Cond.code yX12_personCounts cX12_personCounts 2 (some .int) ∈ BIG := big_of (tk9 _ (List.mem_of_getElem? (i := 27) (by decide +kernel))) (by decide +kernel)
theorem wb_12_personCounts : wB yX12_personCounts cX12_personCounts 2 (some .int) := ⟨in_12, co_12_personCounts⟩
theorem ds_12_personCounts : dsc yX12_personCounts 1 := ⟨by decide +kernel, by decide +kernel, by decide +kernel⟩
theorem im_12_personCounts : Cond.instanceMethod yX12_personCounts ∈ BIG := big_of (tk9 _ (List.mem_of_getElem? (i := 26) (by decide +kernel))) (by decide +kernel)
theorem se_12_personCounts : Cond.selects (yX12_personCounts).cls yX12_personCounts yX12_personCounts ∈ BIG := big_of (pv8 (yX12_personCounts, 64) (List.mem_of_getElem? (i := 4) (by decide +kernel))) (by decide +kernel)
theorem wi_12_personCounts : wI yX12_personCounts := ⟨im_12_personCounts, se_12_personCounts⟩
theorem fl_12_434 : Cond.fieldLink RX12 434 (TX12 55).1 (TX12 55).2.1 (TX12 55).2.2.1 ∈ BIG := big_of (tk6 _ (List.mem_of_getElem? (i := 121) (by decide +kernel))) (by decide +kernel)
theorem ml_12_437 : Cond.methodLink RX12 437 yX12_personCounts ∈ BIG := big_of (tk9 _ (List.mem_of_getElem? (i := 24) (by decide +kernel))) (by decide +kernel)
theorem co_12_counts : Cond.code yX12_counts cX12_counts 2 (some .int) ∈ BIG := big_of (tk9 _ (List.mem_of_getElem? (i := 23) (by decide +kernel))) (by decide +kernel)
theorem wb_12_counts : wB yX12_counts cX12_counts 2 (some .int) := ⟨in_12, co_12_counts⟩
theorem ds_12_counts : dsc yX12_counts 1 := ⟨by decide +kernel, by decide +kernel, by decide +kernel⟩
theorem im_12_counts : Cond.instanceMethod yX12_counts ∈ BIG := big_of (tk9 _ (List.mem_of_getElem? (i := 22) (by decide +kernel))) (by decide +kernel)
theorem se_12_counts : Cond.selects (yX12_counts).cls yX12_counts yX12_counts ∈ BIG := big_of (pv8 (yX12_counts, 64) (List.mem_of_getElem? (i := 3) (by decide +kernel))) (by decide +kernel)
theorem wi_12_counts : wI yX12_counts := ⟨im_12_counts, se_12_counts⟩
theorem ml_12_440 : Cond.methodLink RX12 440 yX12_counts ∈ BIG := big_of (tk9 _ (List.mem_of_getElem? (i := 20) (by decide +kernel))) (by decide +kernel)
theorem fl_12_443 : Cond.fieldLink RX12 443 (TX12 57).1 (TX12 57).2.1 (TX12 57).2.2.1 ∈ BIG := big_of (tk6 _ (List.mem_of_getElem? (i := 123) (by decide +kernel))) (by decide +kernel)
theorem co_12_oneHolds : Cond.code yX12_oneHolds cX12_oneHolds 2 (some .int) ∈ BIG := big_of (tk9 _ (List.mem_of_getElem? (i := 39) (by decide +kernel))) (by decide +kernel)
theorem wb_12_oneHolds : wB yX12_oneHolds cX12_oneHolds 2 (some .int) := ⟨in_12, co_12_oneHolds⟩
theorem ds_12_oneHolds : dsc yX12_oneHolds 1 := ⟨by decide +kernel, by decide +kernel, by decide +kernel⟩
theorem im_12_oneHolds : Cond.instanceMethod yX12_oneHolds ∈ BIG := big_of (tk9 _ (List.mem_of_getElem? (i := 38) (by decide +kernel))) (by decide +kernel)
theorem se_12_oneHolds : Cond.selects (yX12_oneHolds).cls yX12_oneHolds yX12_oneHolds ∈ BIG := big_of (pv8 (yX12_oneHolds, 64) (List.mem_of_getElem? (i := 7) (by decide +kernel))) (by decide +kernel)
theorem wi_12_oneHolds : wI yX12_oneHolds := ⟨im_12_oneHolds, se_12_oneHolds⟩
theorem ml_12_446 : Cond.methodLink RX12 446 yX12_oneHolds ∈ BIG := big_of (tk9 _ (List.mem_of_getElem? (i := 36) (by decide +kernel))) (by decide +kernel)
theorem co_12_holdsOf : Cond.code yX12_holdsOf cX12_holdsOf 2 (some .int) ∈ BIG := big_of (tk9 _ (List.mem_of_getElem? (i := 35) (by decide +kernel))) (by decide +kernel)
theorem wb_12_holdsOf : wB yX12_holdsOf cX12_holdsOf 2 (some .int) := ⟨in_12, co_12_holdsOf⟩
theorem ds_12_holdsOf : dsc yX12_holdsOf 1 := ⟨by decide +kernel, by decide +kernel, by decide +kernel⟩
theorem im_12_holdsOf : Cond.instanceMethod yX12_holdsOf ∈ BIG := big_of (tk9 _ (List.mem_of_getElem? (i := 34) (by decide +kernel))) (by decide +kernel)
theorem se_12_holdsOf : Cond.selects (yX12_holdsOf).cls yX12_holdsOf yX12_holdsOf ∈ BIG := big_of (pv8 (yX12_holdsOf, 64) (List.mem_of_getElem? (i := 6) (by decide +kernel))) (by decide +kernel)
theorem wi_12_holdsOf : wI yX12_holdsOf := ⟨im_12_holdsOf, se_12_holdsOf⟩
theorem fl_12_449 : Cond.fieldLink RX12 449 (TX12 60).1 (TX12 60).2.1 (TX12 60).2.2.1 ∈ BIG := big_of (tk6 _ (List.mem_of_getElem? (i := 126) (by decide +kernel))) (by decide +kernel)
theorem co_12_oneOwes : Cond.code yX12_oneOwes cX12_oneOwes 2 (some .int) ∈ BIG := big_of (tk9 _ (List.mem_of_getElem? (i := 47) (by decide +kernel))) (by decide +kernel)
theorem wb_12_oneOwes : wB yX12_oneOwes cX12_oneOwes 2 (some .int) := ⟨in_12, co_12_oneOwes⟩
theorem ds_12_oneOwes : dsc yX12_oneOwes 1 := ⟨by decide +kernel, by decide +kernel, by decide +kernel⟩
theorem im_12_oneOwes : Cond.instanceMethod yX12_oneOwes ∈ BIG := big_of (tk9 _ (List.mem_of_getElem? (i := 46) (by decide +kernel))) (by decide +kernel)
theorem se_12_oneOwes : Cond.selects (yX12_oneOwes).cls yX12_oneOwes yX12_oneOwes ∈ BIG := big_of (pv8 (yX12_oneOwes, 64) (List.mem_of_getElem? (i := 9) (by decide +kernel))) (by decide +kernel)
theorem wi_12_oneOwes : wI yX12_oneOwes := ⟨im_12_oneOwes, se_12_oneOwes⟩
theorem ml_12_453 : Cond.methodLink RX12 453 yX12_oneOwes ∈ BIG := big_of (tk9 _ (List.mem_of_getElem? (i := 44) (by decide +kernel))) (by decide +kernel)
theorem co_12_owesOf : Cond.code yX12_owesOf cX12_owesOf 2 (some .int) ∈ BIG := big_of (tk9 _ (List.mem_of_getElem? (i := 43) (by decide +kernel))) (by decide +kernel)
theorem wb_12_owesOf : wB yX12_owesOf cX12_owesOf 2 (some .int) := ⟨in_12, co_12_owesOf⟩
theorem ds_12_owesOf : dsc yX12_owesOf 1 := ⟨by decide +kernel, by decide +kernel, by decide +kernel⟩
theorem im_12_owesOf : Cond.instanceMethod yX12_owesOf ∈ BIG := big_of (tk9 _ (List.mem_of_getElem? (i := 42) (by decide +kernel))) (by decide +kernel)
theorem se_12_owesOf : Cond.selects (yX12_owesOf).cls yX12_owesOf yX12_owesOf ∈ BIG := big_of (pv8 (yX12_owesOf, 64) (List.mem_of_getElem? (i := 8) (by decide +kernel))) (by decide +kernel)
theorem wi_12_owesOf : wI yX12_owesOf := ⟨im_12_owesOf, se_12_owesOf⟩
theorem ml_12_456 : Cond.methodLink RX12 456 yX12_holdsOf ∈ BIG := big_of (tk9 _ (List.mem_of_getElem? (i := 32) (by decide +kernel))) (by decide +kernel)
theorem co_12_oneTells : Cond.code yX12_oneTells cX12_oneTells 3 (some .int) ∈ BIG := big_of (tk9 _ (List.mem_of_getElem? (i := 55) (by decide +kernel))) (by decide +kernel)
theorem wb_12_oneTells : wB yX12_oneTells cX12_oneTells 3 (some .int) := ⟨in_12, co_12_oneTells⟩
theorem ds_12_oneTells : dsc yX12_oneTells 1 := ⟨by decide +kernel, by decide +kernel, by decide +kernel⟩
theorem im_12_oneTells : Cond.instanceMethod yX12_oneTells ∈ BIG := big_of (tk9 _ (List.mem_of_getElem? (i := 54) (by decide +kernel))) (by decide +kernel)
theorem se_12_oneTells : Cond.selects (yX12_oneTells).cls yX12_oneTells yX12_oneTells ∈ BIG := big_of (pv8 (yX12_oneTells, 64) (List.mem_of_getElem? (i := 11) (by decide +kernel))) (by decide +kernel)
theorem wi_12_oneTells : wI yX12_oneTells := ⟨im_12_oneTells, se_12_oneTells⟩
theorem ml_12_459 : Cond.methodLink RX12 459 yX12_oneTells ∈ BIG := big_of (tk9 _ (List.mem_of_getElem? (i := 52) (by decide +kernel))) (by decide +kernel)
theorem co_12_tellsOf : Cond.code yX12_tellsOf cX12_tellsOf 3 (some .int) ∈ BIG := big_of (tk9 _ (List.mem_of_getElem? (i := 51) (by decide +kernel))) (by decide +kernel)
theorem wb_12_tellsOf : wB yX12_tellsOf cX12_tellsOf 3 (some .int) := ⟨in_12, co_12_tellsOf⟩
theorem ds_12_tellsOf : dsc yX12_tellsOf 1 := ⟨by decide +kernel, by decide +kernel, by decide +kernel⟩
theorem im_12_tellsOf : Cond.instanceMethod yX12_tellsOf ∈ BIG := big_of (tk9 _ (List.mem_of_getElem? (i := 50) (by decide +kernel))) (by decide +kernel)
theorem se_12_tellsOf : Cond.selects (yX12_tellsOf).cls yX12_tellsOf yX12_tellsOf ∈ BIG := big_of (pv8 (yX12_tellsOf, 64) (List.mem_of_getElem? (i := 10) (by decide +kernel))) (by decide +kernel)
theorem wi_12_tellsOf : wI yX12_tellsOf := ⟨im_12_tellsOf, se_12_tellsOf⟩
theorem ml_12_462 : Cond.methodLink RX12 462 yX12_owesOf ∈ BIG := big_of (tk9 _ (List.mem_of_getElem? (i := 40) (by decide +kernel))) (by decide +kernel)
theorem ml_12_465 : Cond.methodLink RX12 465 yX12_tellsOf ∈ BIG := big_of (tk9 _ (List.mem_of_getElem? (i := 48) (by decide +kernel))) (by decide +kernel)
theorem co_12_act : Cond.code yX12_act cX12_act 5 (some .int) ∈ BIG := big_of (tk9 _ (List.mem_of_getElem? (i := 19) (by decide +kernel))) (by decide +kernel)
theorem wb_12_act : wB yX12_act cX12_act 5 (some .int) := ⟨in_12, co_12_act⟩
theorem ds_12_act : dsc yX12_act 3 := ⟨by decide +kernel, by decide +kernel, by decide +kernel⟩
theorem im_12_act : Cond.instanceMethod yX12_act ∈ BIG := big_of (tk9 _ (List.mem_of_getElem? (i := 17) (by decide +kernel))) (by decide +kernel)
theorem se_12_act : Cond.selects (yX12_act).cls yX12_act yX12_act ∈ BIG := big_of (tk9 _ (List.mem_of_getElem? (i := 18) (by decide +kernel))) (by decide +kernel)
theorem wi_12_act : wI yX12_act := ⟨im_12_act, se_12_act⟩
theorem co_12_trace : Cond.code yX12_trace cX12_trace 2 (some .int) ∈ BIG := big_of (tk9 _ (List.mem_of_getElem? (i := 59) (by decide +kernel))) (by decide +kernel)
theorem wb_12_trace : wB yX12_trace cX12_trace 2 (some .int) := ⟨in_12, co_12_trace⟩
theorem ds_12_trace : dsc yX12_trace 1 := ⟨by decide +kernel, by decide +kernel, by decide +kernel⟩
theorem im_12_trace : Cond.instanceMethod yX12_trace ∈ BIG := big_of (tk9 _ (List.mem_of_getElem? (i := 57) (by decide +kernel))) (by decide +kernel)
theorem se_12_trace : Cond.selects (yX12_trace).cls yX12_trace yX12_trace ∈ BIG := big_of (tk9 _ (List.mem_of_getElem? (i := 58) (by decide +kernel))) (by decide +kernel)
theorem wi_12_trace : wI yX12_trace := ⟨im_12_trace, se_12_trace⟩
theorem co_12_many : Cond.code yX12_many cX12_many 4 (some .int) ∈ BIG := big_of (tk9 _ (List.mem_of_getElem? (i := 63) (by decide +kernel))) (by decide +kernel)
theorem wb_12_many : wB yX12_many cX12_many 4 (some .int) := ⟨in_12, co_12_many⟩
theorem ds_12_many : dsc yX12_many 1 := ⟨by decide +kernel, by decide +kernel, by decide +kernel⟩
theorem im_12_many : Cond.instanceMethod yX12_many ∈ BIG := big_of (tk9 _ (List.mem_of_getElem? (i := 61) (by decide +kernel))) (by decide +kernel)
theorem se_12_many : Cond.selects (yX12_many).cls yX12_many yX12_many ∈ BIG := big_of (tk9 _ (List.mem_of_getElem? (i := 62) (by decide +kernel))) (by decide +kernel)
theorem wi_12_many : wI yX12_many := ⟨im_12_many, se_12_many⟩
theorem fl_12_136 : Cond.fieldLink RX12 136 (TX12 62).1 (TX12 62).2.1 (TX12 62).2.2.1 ∈ BIG := big_of (tk6 _ (List.mem_of_getElem? (i := 128) (by decide +kernel))) (by decide +kernel)
theorem fl_12_468 : Cond.fieldLink RX12 468 (TX12 63).1 (TX12 63).2.1 (TX12 63).2.2.1 ∈ BIG := big_of (tk6 _ (List.mem_of_getElem? (i := 129) (by decide +kernel))) (by decide +kernel)
theorem co_12_move : Cond.code yX12_move cX12_move 5 none ∈ BIG := big_of (tk9 _ (List.mem_of_getElem? (i := 75) (by decide +kernel))) (by decide +kernel)
theorem wb_12_move : wB yX12_move cX12_move 5 none := ⟨in_12, co_12_move⟩
theorem ds_12_move : dsc yX12_move 3 := ⟨by decide +kernel, by decide +kernel, by decide +kernel⟩
theorem im_12_move : Cond.instanceMethod yX12_move ∈ BIG := big_of (tk9 _ (List.mem_of_getElem? (i := 74) (by decide +kernel))) (by decide +kernel)
theorem se_12_move : Cond.selects (yX12_move).cls yX12_move yX12_move ∈ BIG := big_of (pv8 (yX12_move, 64) (List.mem_of_getElem? (i := 13) (by decide +kernel))) (by decide +kernel)
theorem wi_12_move : wI yX12_move := ⟨im_12_move, se_12_move⟩
theorem ml_12_471 : Cond.methodLink RX12 471 yX12_move ∈ BIG := big_of (tk9 _ (List.mem_of_getElem? (i := 72) (by decide +kernel))) (by decide +kernel)
theorem co_12_moveAll : Cond.code yX12_moveAll cX12_moveAll 2 none ∈ BIG := big_of (tk9 _ (List.mem_of_getElem? (i := 71) (by decide +kernel))) (by decide +kernel)
theorem wb_12_moveAll : wB yX12_moveAll cX12_moveAll 2 none := ⟨in_12, co_12_moveAll⟩
theorem ds_12_moveAll : dsc yX12_moveAll 1 := ⟨by decide +kernel, by decide +kernel, by decide +kernel⟩
theorem im_12_moveAll : Cond.instanceMethod yX12_moveAll ∈ BIG := big_of (tk9 _ (List.mem_of_getElem? (i := 70) (by decide +kernel))) (by decide +kernel)
theorem se_12_moveAll : Cond.selects (yX12_moveAll).cls yX12_moveAll yX12_moveAll ∈ BIG := big_of (pv8 (yX12_moveAll, 64) (List.mem_of_getElem? (i := 12) (by decide +kernel))) (by decide +kernel)
theorem wi_12_moveAll : wI yX12_moveAll := ⟨im_12_moveAll, se_12_moveAll⟩
theorem ml_12_475 : Cond.methodLink RX12 475 yX12_moveAll ∈ BIG := big_of (tk9 _ (List.mem_of_getElem? (i := 68) (by decide +kernel))) (by decide +kernel)
theorem fl_12_479 : Cond.fieldLink RX12 479 (TX12 61).1 (TX12 61).2.1 (TX12 61).2.2.1 ∈ BIG := big_of (tk6 _ (List.mem_of_getElem? (i := 127) (by decide +kernel))) (by decide +kernel)
theorem co_12_keep : Cond.code yX12_keep cX12_keep 1 (some .int) ∈ BIG := big_of (tk9 _ (List.mem_of_getElem? (i := 67) (by decide +kernel))) (by decide +kernel)
theorem wb_12_keep : wB yX12_keep cX12_keep 1 (some .int) := ⟨in_12, co_12_keep⟩
theorem ds_12_keep : dsc yX12_keep 0 := ⟨by decide +kernel, by decide +kernel, by decide +kernel⟩
theorem im_12_keep : Cond.instanceMethod yX12_keep ∈ BIG := big_of (tk9 _ (List.mem_of_getElem? (i := 65) (by decide +kernel))) (by decide +kernel)
theorem se_12_keep : Cond.selects (yX12_keep).cls yX12_keep yX12_keep ∈ BIG := big_of (tk9 _ (List.mem_of_getElem? (i := 66) (by decide +kernel))) (by decide +kernel)
theorem wi_12_keep : wI yX12_keep := ⟨im_12_keep, se_12_keep⟩
theorem co_12_again : Cond.code yX12_again cX12_again 1 (some .int) ∈ BIG := big_of (tk9 _ (List.mem_of_getElem? (i := 79) (by decide +kernel))) (by decide +kernel)
theorem wb_12_again : wB yX12_again cX12_again 1 (some .int) := ⟨in_12, co_12_again⟩
theorem ds_12_again : dsc yX12_again 0 := ⟨by decide +kernel, by decide +kernel, by decide +kernel⟩
theorem im_12_again : Cond.instanceMethod yX12_again ∈ BIG := big_of (tk9 _ (List.mem_of_getElem? (i := 77) (by decide +kernel))) (by decide +kernel)
theorem se_12_again : Cond.selects (yX12_again).cls yX12_again yX12_again ∈ BIG := big_of (tk9 _ (List.mem_of_getElem? (i := 78) (by decide +kernel))) (by decide +kernel)
theorem wi_12_again : wI yX12_again := ⟨im_12_again, se_12_again⟩
