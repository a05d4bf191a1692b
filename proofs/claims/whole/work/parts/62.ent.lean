/-! ===== the graph, by the kernel ===== -/
theorem L_0 : isOb 11 0 = true ∧ refOf 11 0 0 = some 1 ∧ refOf 11 1 0 = some 2 ∧ isI 11 2 0 = true ∧ refOf 11 3 0 = some 39 ∧ refOf 11 4 0 = some 46 ∧ refOf 11 5 0 = some 55 ∧ refOf 11 6 0 = some 57 ∧ refOf 11 7 0 = some 62 ∧ refOf 11 8 0 = some 64 ∧ refOf 11 9 0 = some 70 ∧ refOf 11 10 0 = some 72 ∧ refOf 11 11 0 = some 79 := ⟨by decide +kernel, by decide +kernel, by decide +kernel, by decide +kernel, by decide +kernel, by decide +kernel, by decide +kernel, by decide +kernel, by decide +kernel, by decide +kernel, by decide +kernel, by decide +kernel, by decide +kernel⟩
theorem L_1 : isOb 10 1 = true ∧ refOf 10 0 1 = some 3 ∧ refOf 10 1 1 = some 4 ∧ refOf 10 2 1 = some 5 ∧ refOf 10 3 1 = some 6 ∧ refOf 10 4 1 = some 7 ∧ refOf 10 5 1 = some 8 ∧ refOf 10 6 1 = some 9 ∧ refOf 10 7 1 = some 10 ∧ refOf 10 8 1 = some 11 ∧ refOf 10 9 1 = some 12 ∧ refOf 10 10 1 = some 13 ∧ isI 10 11 1 = true ∧ isI 10 12 1 = true := ⟨by decide +kernel, by decide +kernel, by decide +kernel, by decide +kernel, by decide +kernel, by decide +kernel, by decide +kernel, by decide +kernel, by decide +kernel, by decide +kernel, by decide +kernel, by decide +kernel, by decide +kernel, by decide +kernel⟩
theorem L_2 : isOb 10 2 = true ∧ refOf 10 0 2 = some 14 ∧ refOf 10 1 2 = some 15 ∧ refOf 10 2 2 = some 16 ∧ refOf 10 3 2 = some 17 ∧ refOf 10 4 2 = some 18 ∧ refOf 10 5 2 = some 19 ∧ refOf 10 6 2 = some 20 ∧ refOf 10 7 2 = some 21 ∧ refOf 10 8 2 = some 22 ∧ refOf 10 9 2 = some 23 ∧ refOf 10 10 2 = some 24 ∧ isI 10 11 2 = true ∧ isI 10 12 2 = true := ⟨by decide +kernel, by decide +kernel, by decide +kernel, by decide +kernel, by decide +kernel, by decide +kernel, by decide +kernel, by decide +kernel, by decide +kernel, by decide +kernel, by decide +kernel, by decide +kernel, by decide +kernel, by decide +kernel⟩
theorem L_3 : isOb 8 3 = true ∧ isI 8 0 3 = true ∧ isI 8 1 3 = true ∧ refOf 8 2 3 = some 25 ∧ isI 8 3 3 = true := ⟨by decide +kernel, by decide +kernel, by decide +kernel, by decide +kernel, by decide +kernel⟩
theorem L_4 : isOb 8 4 = true ∧ isI 8 0 4 = true ∧ isI 8 1 4 = true ∧ refOf 8 2 4 = some 26 ∧ isI 8 3 4 = true := ⟨by decide +kernel, by decide +kernel, by decide +kernel, by decide +kernel, by decide +kernel⟩
theorem L_5 : isOb 8 5 = true ∧ isI 8 0 5 = true ∧ isI 8 1 5 = true ∧ refOf 8 2 5 = some 27 ∧ isI 8 3 5 = true := ⟨by decide +kernel, by decide +kernel, by decide +kernel, by decide +kernel, by decide +kernel⟩
theorem L_6 : isOb 8 6 = true ∧ isI 8 0 6 = true ∧ isI 8 1 6 = true ∧ refOf 8 2 6 = some 28 ∧ isI 8 3 6 = true := ⟨by decide +kernel, by decide +kernel, by decide +kernel, by decide +kernel, by decide +kernel⟩
theorem L_7 : isOb 8 7 = true ∧ isI 8 0 7 = true ∧ isI 8 1 7 = true ∧ refOf 8 2 7 = some 29 ∧ isI 8 3 7 = true := ⟨by decide +kernel, by decide +kernel, by decide +kernel, by decide +kernel, by decide +kernel⟩
theorem L_8 : isOb 8 8 = true ∧ isI 8 0 8 = true ∧ isI 8 1 8 = true ∧ refOf 8 2 8 = some 30 ∧ isI 8 3 8 = true := ⟨by decide +kernel, by decide +kernel, by decide +kernel, by decide +kernel, by decide +kernel⟩
theorem L_9 : isOb 8 9 = true ∧ isI 8 0 9 = true ∧ isI 8 1 9 = true ∧ refOf 8 2 9 = some 31 ∧ isI 8 3 9 = true := ⟨by decide +kernel, by decide +kernel, by decide +kernel, by decide +kernel, by decide +kernel⟩
theorem L_10 : lenOf 10 = some 64 := by decide +kernel
theorem L_11 : lenOf 11 = some 24 := by decide +kernel
theorem L_12 : lenOf 12 = some 4 := by decide +kernel
theorem L_13 : lenOf 13 = some 12 := by decide +kernel
theorem L_14 : isOb 8 14 = true ∧ isI 8 0 14 = true ∧ isI 8 1 14 = true ∧ refOf 8 2 14 = some 32 ∧ isI 8 3 14 = true := ⟨by decide +kernel, by decide +kernel, by decide +kernel, by decide +kernel, by decide +kernel⟩
theorem L_15 : isOb 8 15 = true ∧ isI 8 0 15 = true ∧ isI 8 1 15 = true ∧ refOf 8 2 15 = some 33 ∧ isI 8 3 15 = true := ⟨by decide +kernel, by decide +kernel, by decide +kernel, by decide +kernel, by decide +kernel⟩
theorem L_16 : isOb 8 16 = true ∧ isI 8 0 16 = true ∧ isI 8 1 16 = true ∧ refOf 8 2 16 = some 34 ∧ isI 8 3 16 = true := ⟨by decide +kernel, by decide +kernel, by decide +kernel, by decide +kernel, by decide +kernel⟩
theorem L_17 : isOb 8 17 = true ∧ isI 8 0 17 = true ∧ isI 8 1 17 = true ∧ refOf 8 2 17 = some 35 ∧ isI 8 3 17 = true := ⟨by decide +kernel, by decide +kernel, by decide +kernel, by decide +kernel, by decide +kernel⟩
theorem L_18 : isOb 8 18 = true ∧ isI 8 0 18 = true ∧ isI 8 1 18 = true ∧ refOf 8 2 18 = some 36 ∧ isI 8 3 18 = true := ⟨by decide +kernel, by decide +kernel, by decide +kernel, by decide +kernel, by decide +kernel⟩
theorem L_19 : isOb 8 19 = true ∧ isI 8 0 19 = true ∧ isI 8 1 19 = true ∧ refOf 8 2 19 = some 37 ∧ isI 8 3 19 = true := ⟨by decide +kernel, by decide +kernel, by decide +kernel, by decide +kernel, by decide +kernel⟩
theorem L_20 : isOb 8 20 = true ∧ isI 8 0 20 = true ∧ isI 8 1 20 = true ∧ refOf 8 2 20 = some 38 ∧ isI 8 3 20 = true := ⟨by decide +kernel, by decide +kernel, by decide +kernel, by decide +kernel, by decide +kernel⟩
theorem L_21 : lenOf 21 = some 64 := by decide +kernel
theorem L_22 : lenOf 22 = some 24 := by decide +kernel
theorem L_23 : lenOf 23 = some 4 := by decide +kernel
theorem L_24 : lenOf 24 = some 12 := by decide +kernel
theorem L_25 : lenOf 25 = some 40 := by decide +kernel
theorem L_26 : lenOf 26 = some 60 := by decide +kernel
theorem L_27 : lenOf 27 = some 12 := by decide +kernel
theorem L_28 : lenOf 28 = some 32 := by decide +kernel
theorem L_29 : lenOf 29 = some 200 := by decide +kernel
theorem L_30 : lenOf 30 = some 32 := by decide +kernel
theorem L_31 : lenOf 31 = some 40 := by decide +kernel
theorem L_32 : lenOf 32 = some 40 := by decide +kernel
theorem L_33 : lenOf 33 = some 60 := by decide +kernel
theorem L_34 : lenOf 34 = some 12 := by decide +kernel
theorem L_35 : lenOf 35 = some 32 := by decide +kernel
theorem L_36 : lenOf 36 = some 200 := by decide +kernel
theorem L_37 : lenOf 37 = some 32 := by decide +kernel
theorem L_38 : lenOf 38 = some 40 := by decide +kernel
theorem L_39 : isOb 9 39 = true ∧ refOf 9 0 39 = some 1 ∧ refOf 9 1 39 = some 40 ∧ refOf 9 2 39 = some 41 ∧ isI 9 3 39 = true ∧ isI 9 4 39 = true ∧ isI 9 5 39 = true ∧ refOf 9 6 39 = some 42 ∧ refOf 9 7 39 = some 43 ∧ refOf 9 8 39 = some 44 ∧ refOf 9 9 39 = some 45 ∧ isI 9 10 39 = true ∧ isI 9 11 39 = true := ⟨by decide +kernel, by decide +kernel, by decide +kernel, by decide +kernel, by decide +kernel, by decide +kernel, by decide +kernel, by decide +kernel, by decide +kernel, by decide +kernel, by decide +kernel, by decide +kernel, by decide +kernel⟩
theorem L_40 : lenOf 40 = some 12 := by decide +kernel
theorem L_41 : lenOf 41 = some 12 := by decide +kernel
theorem L_42 : lenOf 42 = some 4 := by decide +kernel
theorem L_43 : lenOf 43 = some 4 := by decide +kernel
theorem L_44 : lenOf 44 = some 4 := by decide +kernel
theorem L_45 : lenOf 45 = some 4 := by decide +kernel
theorem L_46 : isOb 5 46 = true ∧ refOf 5 0 46 = some 1 ∧ refOf 5 1 46 = some 39 ∧ refOf 5 2 46 = some 47 ∧ refOf 5 3 46 = some 50 ∧ isI 5 4 46 = true ∧ refOf 5 5 46 = some 51 ∧ refOf 5 6 46 = some 52 ∧ refOf 5 7 46 = some 53 ∧ refOf 5 8 46 = some 54 := ⟨by decide +kernel, by decide +kernel, by decide +kernel, by decide +kernel, by decide +kernel, by decide +kernel, by decide +kernel, by decide +kernel, by decide +kernel, by decide +kernel⟩
theorem L_47 : isOb 0 47 = true ∧ refOf 0 0 47 = some 48 ∧ refOf 0 1 47 = some 49 ∧ isI 0 2 47 = true := ⟨by decide +kernel, by decide +kernel, by decide +kernel, by decide +kernel⟩
theorem L_48 : lenOf 48 = some 8 := by decide +kernel
theorem L_49 : lenOf 49 = some 8 := by decide +kernel
theorem L_50 : lenOf 50 = some 3 := by decide +kernel
theorem L_51 : lenOf 51 = some 768 := by decide +kernel
theorem L_52 : lenOf 52 = some 3 := by decide +kernel
theorem L_53 : lenOf 53 = some 3 := by decide +kernel
theorem L_54 : lenOf 54 = some 256 := by decide +kernel
theorem L_55 : isOb 8 55 = true ∧ isI 8 0 55 = true ∧ isI 8 1 55 = true ∧ refOf 8 2 55 = some 56 ∧ isI 8 3 55 = true := ⟨by decide +kernel, by decide +kernel, by decide +kernel, by decide +kernel, by decide +kernel⟩
theorem L_56 : lenOf 56 = some 24 := by decide +kernel
theorem L_57 : isOb 1 57 = true ∧ refOf 1 0 57 = some 1 ∧ refOf 1 1 57 = some 58 ∧ refOf 1 2 57 = some 61 ∧ isI 1 3 57 = true := ⟨by decide +kernel, by decide +kernel, by decide +kernel, by decide +kernel, by decide +kernel⟩
theorem L_58 : isOb 0 58 = true ∧ refOf 0 0 58 = some 59 ∧ refOf 0 1 58 = some 60 ∧ isI 0 2 58 = true := ⟨by decide +kernel, by decide +kernel, by decide +kernel, by decide +kernel⟩
theorem L_59 : lenOf 59 = some 8 := by decide +kernel
theorem L_60 : lenOf 60 = some 8 := by decide +kernel
theorem L_61 : lenOf 61 = some 8 := by decide +kernel
theorem L_62 : isOb 2 62 = true ∧ refOf 2 0 62 = some 1 ∧ refOf 2 1 62 = some 63 := ⟨by decide +kernel, by decide +kernel, by decide +kernel⟩
theorem L_63 : lenOf 63 = some 12 := by decide +kernel
theorem L_64 : isOb 7 64 = true ∧ refOf 7 0 64 = some 65 ∧ isI 7 1 64 = true ∧ refOf 7 2 64 = some 66 ∧ refOf 7 3 64 = some 67 ∧ isI 7 4 64 = true ∧ isI 7 5 64 = true ∧ refOf 7 6 64 = some 68 := ⟨by decide +kernel, by decide +kernel, by decide +kernel, by decide +kernel, by decide +kernel, by decide +kernel, by decide +kernel, by decide +kernel⟩
theorem L_65 : lenOf 65 = some 200 := by decide +kernel
theorem L_66 : lenOf 66 = some 201 := by decide +kernel
theorem L_67 : lenOf 67 = some 201 := by decide +kernel
theorem L_68 : isOb 8 68 = true ∧ isI 8 0 68 = true ∧ isI 8 1 68 = true ∧ refOf 8 2 68 = some 69 ∧ isI 8 3 68 = true := ⟨by decide +kernel, by decide +kernel, by decide +kernel, by decide +kernel, by decide +kernel⟩
theorem L_69 : lenOf 69 = some 40 := by decide +kernel
theorem L_70 : isOb 3 70 = true ∧ refOf 3 0 70 = some 1 ∧ refOf 3 1 70 = some 71 := ⟨by decide +kernel, by decide +kernel, by decide +kernel⟩
theorem L_71 : lenOf 71 = some 5 := by decide +kernel
theorem L_72 : isOb 6 72 = true ∧ refOf 6 0 72 = some 1 ∧ refOf 6 1 72 = some 62 ∧ refOf 6 2 72 = some 73 ∧ isI 6 3 72 = true ∧ refOf 6 4 72 = some 74 ∧ refOf 6 5 72 = some 75 ∧ refOf 6 6 72 = some 76 ∧ refOf 6 7 72 = some 77 ∧ refOf 6 8 72 = some 78 ∧ isI 6 9 72 = true := ⟨by decide +kernel, by decide +kernel, by decide +kernel, by decide +kernel, by decide +kernel, by decide +kernel, by decide +kernel, by decide +kernel, by decide +kernel, by decide +kernel, by decide +kernel⟩
theorem L_73 : lenOf 73 = some 6 := by decide +kernel
theorem L_74 : lenOf 74 = some 48 := by decide +kernel
theorem L_75 : lenOf 75 = some 7 := by decide +kernel
theorem L_76 : lenOf 76 = some 8 := by decide +kernel
theorem L_77 : lenOf 77 = some 6 := by decide +kernel
theorem L_78 : lenOf 78 = some 6 := by decide +kernel
theorem L_79 : isOb 4 79 = true ∧ refOf 4 0 79 = some 1 ∧ refOf 4 1 79 = some 80 ∧ refOf 4 2 79 = some 81 ∧ refOf 4 3 79 = some 82 ∧ refOf 4 4 79 = some 83 ∧ refOf 4 5 79 = some 84 ∧ refOf 4 6 79 = some 85 ∧ refOf 4 7 79 = some 86 ∧ isI 4 8 79 = true ∧ isI 4 9 79 = true ∧ isI 4 10 79 = true ∧ isI 4 11 79 = true := ⟨by decide +kernel, by decide +kernel, by decide +kernel, by decide +kernel, by decide +kernel, by decide +kernel, by decide +kernel, by decide +kernel, by decide +kernel, by decide +kernel, by decide +kernel, by decide +kernel, by decide +kernel⟩
theorem L_80 : lenOf 80 = some 4 := by decide +kernel
theorem L_81 : lenOf 81 = some 4 := by decide +kernel
theorem L_82 : lenOf 82 = some 160 := by decide +kernel
theorem L_83 : lenOf 83 = some 4 := by decide +kernel
theorem L_84 : lenOf 84 = some 4 := by decide +kernel
theorem L_85 : lenOf 85 = some 4 := by decide +kernel
theorem L_86 : lenOf 86 = some 30 := by decide +kernel
theorem L_87 : isOb 12 87 = true ∧ refOf 12 0 87 = some 88 ∧ refOf 12 1 87 = some 89 ∧ refOf 12 2 87 = some 90 ∧ refOf 12 3 87 = some 91 ∧ refOf 12 4 87 = some 92 ∧ refOf 12 5 87 = some 93 ∧ refOf 12 6 87 = some 94 ∧ refOf 12 7 87 = some 95 ∧ refOf 12 8 87 = some 96 ∧ refOf 12 9 87 = some 97 ∧ refOf 12 10 87 = some 98 ∧ isI 12 11 87 = true ∧ refOf 12 12 87 = some 99 ∧ refOf 12 13 87 = some 100 ∧ refOf 12 14 87 = some 101 ∧ refOf 12 15 87 = some 102 ∧ refOf 12 16 87 = some 103 ∧ isI 12 17 87 = true ∧ isI 12 18 87 = true ∧ refOf 12 19 87 = some 104 ∧ refOf 12 20 87 = some 105 ∧ refOf 12 21 87 = some 106 ∧ isI 12 22 87 = true ∧ isI 12 23 87 = true ∧ refOf 12 24 87 = some 107 ∧ refOf 12 25 87 = some 108 ∧ refOf 12 26 87 = some 109 ∧ refOf 12 27 87 = some 110 ∧ refOf 12 28 87 = some 111 ∧ isI 12 29 87 = true ∧ isI 12 30 87 = true ∧ isI 12 31 87 = true ∧ isI 12 32 87 = true ∧ isI 12 33 87 = true ∧ isI 12 34 87 = true ∧ refOf 12 35 87 = some 112 ∧ refOf 12 36 87 = some 113 ∧ refOf 12 37 87 = some 114 ∧ refOf 12 38 87 = some 115 ∧ refOf 12 39 87 = some 116 ∧ refOf 12 40 87 = some 117 ∧ refOf 12 41 87 = some 118 ∧ isI 12 42 87 = true ∧ isI 12 43 87 = true ∧ isI 12 44 87 = true ∧ refOf 12 45 87 = some 119 ∧ refOf 12 46 87 = some 120 ∧ refOf 12 47 87 = some 121 ∧ refOf 12 48 87 = some 122 ∧ refOf 12 49 87 = some 123 ∧ refOf 12 50 87 = some 124 ∧ refOf 12 51 87 = some 125 ∧ refOf 12 52 87 = some 126 ∧ refOf 12 53 87 = some 127 ∧ refOf 12 54 87 = some 128 ∧ isI 12 55 87 = true ∧ isI 12 56 87 = true ∧ isI 12 57 87 = true ∧ refOf 12 58 87 = some 129 ∧ isI 12 59 87 = true ∧ isI 12 60 87 = true ∧ isI 12 61 87 = true ∧ refOf 12 62 87 = some 130 ∧ isI 12 63 87 = true := ⟨by decide +kernel, by decide +kernel, by decide +kernel, by decide +kernel, by decide +kernel, by decide +kernel, by decide +kernel, by decide +kernel, by decide +kernel, by decide +kernel, by decide +kernel, by decide +kernel, by decide +kernel, by decide +kernel, by decide +kernel, by decide +kernel, by decide +kernel, by decide +kernel, by decide +kernel, by decide +kernel, by decide +kernel, by decide +kernel, by decide +kernel, by decide +kernel, by decide +kernel, by decide +kernel, by decide +kernel, by decide +kernel, by decide +kernel, by decide +kernel, by decide +kernel, by decide +kernel, by decide +kernel, by decide +kernel, by decide +kernel, by decide +kernel, by decide +kernel, by decide +kernel, by decide +kernel, by decide +kernel, by decide +kernel, by decide +kernel, by decide +kernel, by decide +kernel, by decide +kernel, by decide +kernel, by decide +kernel, by decide +kernel, by decide +kernel, by decide +kernel, by decide +kernel, by decide +kernel, by decide +kernel, by decide +kernel, by decide +kernel, by decide +kernel, by decide +kernel, by decide +kernel, by decide +kernel, by decide +kernel, by decide +kernel, by decide +kernel, by decide +kernel, by decide +kernel, by decide +kernel⟩
theorem L_88 : lenOf 88 = some 8 := by decide +kernel
theorem L_89 : lenOf 89 = some 40 := by decide +kernel
theorem L_90 : lenOf 90 = some 64 := by decide +kernel
theorem L_91 : lenOf 91 = some 24 := by decide +kernel
theorem L_92 : lenOf 92 = some 84 := by decide +kernel
theorem L_93 : lenOf 93 = some 4 := by decide +kernel
theorem L_94 : lenOf 94 = some 12 := by decide +kernel
theorem L_95 : lenOf 95 = some 32 := by decide +kernel
theorem L_96 : lenOf 96 = some 200 := by decide +kernel
theorem L_97 : lenOf 97 = some 32 := by decide +kernel
theorem L_98 : lenOf 98 = some 40 := by decide +kernel
theorem L_99 : lenOf 99 = some 8 := by decide +kernel
theorem L_100 : lenOf 100 = some 4 := by decide +kernel
theorem L_101 : lenOf 101 = some 4 := by decide +kernel
theorem L_102 : lenOf 102 = some 4 := by decide +kernel
theorem L_103 : lenOf 103 = some 4 := by decide +kernel
theorem L_104 : lenOf 104 = some 12 := by decide +kernel
theorem L_105 : lenOf 105 = some 768 := by decide +kernel
theorem L_106 : lenOf 106 = some 8 := by decide +kernel
theorem L_107 : lenOf 107 = some 36 := by decide +kernel
theorem L_108 : lenOf 108 = some 12 := by decide +kernel
theorem L_109 : lenOf 109 = some 12 := by decide +kernel
theorem L_110 : lenOf 110 = some 12 := by decide +kernel
theorem L_111 : lenOf 111 = some 200 := by decide +kernel
theorem L_112 : lenOf 112 = some 40 := by decide +kernel
theorem L_113 : lenOf 113 = some 5 := by decide +kernel
theorem L_114 : lenOf 114 = some 8 := by decide +kernel
theorem L_115 : lenOf 115 = some 6 := by decide +kernel
theorem L_116 : lenOf 116 = some 6 := by decide +kernel
theorem L_117 : lenOf 117 = some 6 := by decide +kernel
theorem L_118 : lenOf 118 = some 8 := by decide +kernel
theorem L_119 : lenOf 119 = some 7 := by decide +kernel
theorem L_120 : lenOf 120 = some 7 := by decide +kernel
theorem L_121 : lenOf 121 = some 8 := by decide +kernel
theorem L_122 : lenOf 122 = some 2048 := by decide +kernel
theorem L_123 : lenOf 123 = some 4 := by decide +kernel
theorem L_124 : lenOf 124 = some 4 := by decide +kernel
theorem L_125 : lenOf 125 = some 160 := by decide +kernel
theorem L_126 : lenOf 126 = some 4 := by decide +kernel
theorem L_127 : lenOf 127 = some 4 := by decide +kernel
theorem L_128 : lenOf 128 = some 4 := by decide +kernel
theorem L_129 : lenOf 129 = some 30 := by decide +kernel
theorem L_130 : lenOf 130 = some 580 := by decide +kernel
/-! ===== entries ===== -/
theorem u11_isWithin (a0 a1 a2 : Int) (σ : cvM) : f11_isWithin [a0, a1, a2] σ = f_fin false (b11_isWithin [some a0, some a1, some a2] σ) := Eq.trans rfl rfl
theorem u11_minutes (a0 a1 : Int) (σ : cvM) : f11_minutes [a0, a1] σ = f_fin false (b11_minutes [some a0, some a1] σ) := Eq.trans rfl rfl
theorem u8_change (a0 a1 a2 a3 : Int) (σ : cvM) : f8_change [a0, a1, a2, a3] σ = f_fin true (b8_change [some a0, some a1, some a2, some a3] σ) := Eq.trans rfl rfl
theorem u8_add (a0 a1 a2 a3 a4 a5 : Int) (σ : cvM) : f8_add [a0, a1, a2, a3, a4, a5] σ = f_fin false (b8_add [some a0, some a1, some a2, some a3, some a4, some a5, none] σ) := Eq.trans rfl rfl
theorem u11_place (a0 a1 a2 a3 a4 : Int) (σ : cvM) : f11_place [a0, a1, a2, a3, a4] σ = f_fin false (b11_place [some a0, some a1, some a2, some a3, some a4, none, none, none] σ) := Eq.trans rfl rfl
theorem u8_has (a0 a1 : Int) (σ : cvM) : f8_has [a0, a1] σ = f_fin false (b8_has [some a0, some a1] σ) := Eq.trans rfl rfl
theorem u11_isPlace (a0 a1 : Int) (σ : cvM) : f11_isPlace [a0, a1] σ = f_fin false (b11_isPlace [some a0, some a1] σ) := Eq.trans rfl rfl
theorem u11_arePlaces (a0 a1 a2 : Int) (σ : cvM) : f11_arePlaces [a0, a1, a2] σ = f_fin false (b11_arePlaces [some a0, some a1, some a2] σ) := Eq.trans rfl rfl
theorem u10_roadMinutes (a0 a1 a2 : Int) (σ : cvM) : f10_roadMinutes [a0, a1, a2] σ = f_fin false (b10_roadMinutes [some a0, some a1, some a2] σ) := Eq.trans rfl rfl
theorem u10_layRoad (a0 a1 a2 a3 : Int) (σ : cvM) : f10_layRoad [a0, a1, a2, a3] σ = f_fin true (b10_layRoad [some a0, some a1, some a2, some a3] σ) := Eq.trans rfl rfl
theorem u11_road (a0 a1 a2 a3 : Int) (σ : cvM) : f11_road [a0, a1, a2, a3] σ = f_fin false (b11_road [some a0, some a1, some a2, some a3, none] σ) := Eq.trans rfl rfl
theorem u11_traffic (a0 a1 a2 : Int) (σ : cvM) : f11_traffic [a0, a1, a2] σ = f_fin false (b11_traffic [some a0, some a1, some a2, none] σ) := Eq.trans rfl rfl
theorem u11_isMinute (a0 : Int) (σ : cvM) : f11_isMinute [a0] σ = f_fin false (b11_isMinute [some a0] σ) := Eq.trans rfl rfl
theorem u10_driveMinutes (a0 a1 a2 a3 : Int) (σ : cvM) : f10_driveMinutes [a0, a1, a2, a3] σ = f_fin false (b10_driveMinutes [some a0, some a1, some a2, some a3, none, none, none] σ) := Eq.trans rfl rfl
theorem u11_drive (a0 a1 a2 a3 : Int) (σ : cvM) : f11_drive [a0, a1, a2, a3] σ = f_fin false (b11_drive [some a0, some a1, some a2, some a3] σ) := Eq.trans rfl rfl
theorem u8_cell (a0 a1 a2 : Int) (σ : cvM) : f8_cell [a0, a1, a2] σ = f_fin false (b8_cell [some a0, some a1, some a2, none] σ) := Eq.trans rfl rfl
theorem u11_isHome (a0 a1 : Int) (σ : cvM) : f11_isHome [a0, a1] σ = f_fin false (b11_isHome [some a0, some a1] σ) := Eq.trans rfl rfl
theorem u11_isCourt (a0 a1 : Int) (σ : cvM) : f11_isCourt [a0, a1] σ = f_fin false (b11_isCourt [some a0, some a1] σ) := Eq.trans rfl rfl
theorem u11_person (a0 a1 a2 a3 a4 : Int) (σ : cvM) : f11_person [a0, a1, a2, a3, a4] σ = f_fin false (b11_person [some a0, some a1, some a2, some a3, some a4] σ) := Eq.trans rfl rfl
theorem u11_bit (a0 a1 : Int) (σ : cvM) : f11_bit [a0, a1] σ = f_fin false (b11_bit [some a0, some a1] σ) := Eq.trans rfl rfl
theorem u11_withBit (a0 a1 a2 : Int) (σ : cvM) : f11_withBit [a0, a1, a2] σ = f_fin false (b11_withBit [some a0, some a1, some a2] σ) := Eq.trans rfl rfl
theorem u10_tie (a0 a1 a2 a3 a4 : Int) (σ : cvM) : f10_tie [a0, a1, a2, a3, a4] σ = f_fin false (b10_tie [some a0, some a1, some a2, some a3, some a4, none] σ) := Eq.trans rfl rfl
theorem u11_apart (a0 a1 a2 a3 : Int) (σ : cvM) : f11_apart [a0, a1, a2, a3] σ = f_fin false (b11_apart [some a0, some a1, some a2, some a3] σ) := Eq.trans rfl rfl
theorem u11_isPerson (a0 a1 : Int) (σ : cvM) : f11_isPerson [a0, a1] σ = f_fin false (b11_isPerson [some a0, some a1] σ) := Eq.trans rfl rfl
theorem u11_bar (a0 a1 a2 a3 : Int) (σ : cvM) : f11_bar [a0, a1, a2, a3] σ = f_fin false (b11_bar [some a0, some a1, some a2, some a3] σ) := Eq.trans rfl rfl
theorem u10_areFoes (a0 a1 a2 : Int) (σ : cvM) : f10_areFoes [a0, a1, a2] σ = f_fin false (b10_areFoes [some a0, some a1, some a2, none, none] σ) := Eq.trans rfl rfl
theorem u11_foes (a0 a1 a2 : Int) (σ : cvM) : f11_foes [a0, a1, a2] σ = f_fin false (b11_foes [some a0, some a1, some a2] σ) := Eq.trans rfl rfl
theorem u11_wire (a0 a1 a2 : Int) (σ : cvM) : f11_wire [a0, a1, a2] σ = f_fin false (b11_wire [some a0, some a1, some a2, none] σ) := Eq.trans rfl rfl
theorem u11_of (a0 a1 a2 : Int) (σ : cvM) : f11_of [a0, a1, a2] σ = f_fin false (b11_of [some a0, some a1, some a2] σ) := Eq.trans rfl rfl
theorem u11_van (a0 a1 a2 a3 : Int) (σ : cvM) : f11_van [a0, a1, a2, a3] σ = f_fin false (b11_van [some a0, some a1, some a2, some a3] σ) := Eq.trans rfl rfl
theorem u11_isVan (a0 a1 : Int) (σ : cvM) : f11_isVan [a0, a1] σ = f_fin false (b11_isVan [some a0, some a1] σ) := Eq.trans rfl rfl
theorem u11_delay (a0 a1 a2 a3 a4 : Int) (σ : cvM) : f11_delay [a0, a1, a2, a3, a4] σ = f_fin false (b11_delay [some a0, some a1, some a2, some a3, some a4] σ) := Eq.trans rfl rfl
theorem u11_arePersons (a0 a1 : Int) (σ : cvM) : f11_arePersons [a0, a1] σ = f_fin false (b11_arePersons [some a0, some a1] σ) := Eq.trans rfl rfl
theorem u10_personsOf (a0 a1 : Int) (σ : cvM) : f10_personsOf [a0, a1] σ = f_fin false (b10_personsOf [some a0, some a1, none, none] σ) := Eq.trans rfl rfl
theorem u11_mayRide (a0 a1 a2 : Int) (σ : cvM) : f11_mayRide [a0, a1, a2] σ = f_fin false (b11_mayRide [some a0, some a1, some a2, none] σ) := Eq.trans rfl rfl
theorem u9_gather (a0 a1 : Int) (σ : cvM) : f9_gather [a0, a1] σ = f_fin false (b9_gather [some a0, some a1, none, none] σ) := Eq.trans rfl rfl
theorem uJ_bitCount (a0 : Int) (σ : cvM) : fJ_bitCount [a0] σ = f_fin false (bJ_bitCount [some a0] σ) := Eq.trans rfl rfl
theorem u9_keepIfBetter (a0 a1 : Int) (σ : cvM) : f9_keepIfBetter [a0, a1] σ = f_fin true (b9_keepIfBetter [some a0, some a1, none, none, none] σ) := Eq.trans rfl rfl
theorem u9_lostBy (a0 a1 : Int) (σ : cvM) : f9_lostBy [a0, a1] σ = f_fin false (b9_lostBy [some a0, some a1, none, none, none] σ) := Eq.trans rfl rfl
theorem u9_lostMinutes (a0 a1 : Int) (σ : cvM) : f9_lostMinutes [a0, a1] σ = f_fin false (b9_lostMinutes [some a0, some a1, none, none] σ) := Eq.trans rfl rfl
theorem u9_reach (a0 a1 a2 a3 : Int) (σ : cvM) : f9_reach [a0, a1, a2, a3] σ = f_fin false (b9_reach [some a0, some a1, some a2, some a3, none, none] σ) := Eq.trans rfl rfl
theorem u9_lateAt (a0 a1 a2 : Int) (σ : cvM) : f9_lateAt [a0, a1, a2] σ = f_fin false (b9_lateAt [some a0, some a1, some a2, none, none] σ) := Eq.trans rfl rfl
theorem u9_find (a0 a1 a2 : Int) (σ : cvM) : f9_find [a0, a1, a2] σ = f_fin false (b9_find [some a0, some a1, some a2, none, none, none, none] σ) := Eq.trans rfl rfl
theorem u9_lastArrival (a0 : Int) (σ : cvM) : f9_lastArrival [a0] σ = f_fin false (b9_lastArrival [some a0] σ) := Eq.trans rfl rfl
theorem u11_route (a0 a1 a2 a3 : Int) (σ : cvM) : f11_route [a0, a1, a2, a3] σ = f_fin false (b11_route [some a0, some a1, some a2, some a3] σ) := Eq.trans rfl rfl
theorem u9_arrivalOf (a0 a1 : Int) (σ : cvM) : f9_arrivalOf [a0, a1] σ = f_fin false (b9_arrivalOf [some a0, some a1, none, none] σ) := Eq.trans rfl rfl
theorem u11_arrival (a0 a1 a2 a3 : Int) (σ : cvM) : f11_arrival [a0, a1, a2, a3] σ = f_fin false (b11_arrival [some a0, some a1, some a2, some a3] σ) := Eq.trans rfl rfl
theorem u10_ridersOf (a0 a1 : Int) (σ : cvM) : f10_ridersOf [a0, a1] σ = f_fin false (b10_ridersOf [some a0, some a1] σ) := Eq.trans rfl rfl
theorem u11_riders (a0 a1 : Int) (σ : cvM) : f11_riders [a0, a1] σ = f_fin false (b11_riders [some a0, some a1] σ) := Eq.trans rfl rfl
theorem uJ_fill (a0 a1 : Int) (σ : cvM) : fJ_fill [a0, a1] σ = f_fin true (bJ_fill [some a0, some a1, none, none] σ) := Eq.trans rfl rfl
theorem u0_gather (a0 a1 a2 : Int) (σ : cvM) : f0_gather [a0, a1, a2] σ = f_fin false (b0_gather [some a0, some a1, some a2, none, none] σ) := Eq.trans rfl rfl
theorem u5_gather (a0 a1 : Int) (σ : cvM) : f5_gather [a0, a1] σ = f_fin false (b5_gather [some a0, some a1, none] σ) := Eq.trans rfl rfl
theorem u5_spread (a0 a1 : Int) (σ : cvM) : f5_spread [a0, a1] σ = f_fin true (b5_spread [some a0, some a1, none, none] σ) := Eq.trans rfl rfl
theorem u0_hasFoes (a0 a1 : Int) (σ : cvM) : f0_hasFoes [a0, a1] σ = f_fin false (b0_hasFoes [some a0, some a1, none] σ) := Eq.trans rfl rfl
theorem u0_personsIn (a0 a1 : Int) (σ : cvM) : f0_personsIn [a0, a1] σ = f_fin false (b0_personsIn [some a0, some a1, none, none] σ) := Eq.trans rfl rfl
theorem u5_lateOf (a0 a1 a2 : Int) (σ : cvM) : f5_lateOf [a0, a1, a2] σ = f_fin false (b5_lateOf [some a0, some a1, some a2, none, none, none, none] σ) := Eq.trans rfl rfl
theorem u5_sumOfSets (a0 : Int) (σ : cvM) : f5_sumOfSets [a0] σ = f_fin false (b5_sumOfSets [some a0, none, none, none] σ) := Eq.trans rfl rfl
theorem u11_copy (a0 a1 : Int) (σ : cvM) : f11_copy [a0, a1] σ = f_fin true (b11_copy [some a0, some a1] σ) := Eq.trans rfl rfl
theorem u5_solve (a0 a1 : Int) (σ : cvM) : f5_solve [a0, a1] σ = f_fin false (b5_solve [some a0, some a1, none, none, none, none] σ) := Eq.trans rfl rfl
theorem u11_plan (a0 a1 : Int) (σ : cvM) : f11_plan [a0, a1] σ = f_fin false (b11_plan [some a0, some a1] σ) := Eq.trans rfl rfl
theorem u0_indexOf (a0 a1 : Int) (σ : cvM) : f0_indexOf [a0, a1] σ = f_fin false (b0_indexOf [some a0, some a1, none] σ) := Eq.trans rfl rfl
theorem u5_vanWith (a0 a1 : Int) (σ : cvM) : f5_vanWith [a0, a1] σ = f_fin false (b5_vanWith [some a0, some a1, none, none] σ) := Eq.trans rfl rfl
theorem u11_vanOf (a0 a1 : Int) (σ : cvM) : f11_vanOf [a0, a1] σ = f_fin false (b11_vanOf [some a0, some a1, none] σ) := Eq.trans rfl rfl
theorem u5_reachWith (a0 a1 a2 : Int) (σ : cvM) : f5_reachWith [a0, a1, a2] σ = f_fin true (b5_reachWith [some a0, some a1, some a2, none, none, none] σ) := Eq.trans rfl rfl
theorem u5_leftOut (a0 a1 : Int) (σ : cvM) : f5_leftOut [a0, a1] σ = f_fin false (b5_leftOut [some a0, some a1, none, none, none, none, none] σ) := Eq.trans rfl rfl
theorem u11_less (a0 a1 : Int) (σ : cvM) : f11_less [a0, a1] σ = f_fin false (b11_less [some a0, some a1] σ) := Eq.trans rfl rfl
theorem u5_leastAlone (a0 a1 a2 : Int) (σ : cvM) : f5_leastAlone [a0, a1, a2] σ = f_fin false (b5_leastAlone [some a0, some a1, some a2, none, none, none] σ) := Eq.trans rfl rfl
theorem u5_boundOf (a0 a1 : Int) (σ : cvM) : f5_boundOf [a0, a1] σ = f_fin false (b5_boundOf [some a0, some a1, none, none, none, none] σ) := Eq.trans rfl rfl
theorem u11_bound (a0 a1 : Int) (σ : cvM) : f11_bound [a0, a1] σ = f_fin false (b11_bound [some a0, some a1] σ) := Eq.trans rfl rfl
theorem u5_writeArrivals (a0 a1 a2 : Int) (σ : cvM) : f5_writeArrivals [a0, a1, a2] σ = f_fin true (b5_writeArrivals [some a0, some a1, some a2, none] σ) := Eq.trans rfl rfl
theorem u5_writeRows (a0 a1 : Int) (σ : cvM) : f5_writeRows [a0, a1] σ = f_fin false (b5_writeRows [some a0, some a1, none] σ) := Eq.trans rfl rfl
theorem u11_prove (a0 a1 : Int) (σ : cvM) : f11_prove [a0, a1] σ = f_fin false (b11_prove [some a0, some a1, none] σ) := Eq.trans rfl rfl
theorem u11_row (a0 a1 a2 : Int) (σ : cvM) : f11_row [a0, a1, a2] σ = f_fin false (b11_row [some a0, some a1, some a2] σ) := Eq.trans rfl rfl
theorem u11_alterRow (a0 a1 a2 a3 : Int) (σ : cvM) : f11_alterRow [a0, a1, a2, a3] σ = f_fin false (b11_alterRow [some a0, some a1, some a2, some a3, none] σ) := Eq.trans rfl rfl
theorem u11_drop (a0 : Int) (σ : cvM) : f11_drop [a0] σ = f_fin false (b11_drop [some a0] σ) := Eq.trans rfl rfl
theorem u5_inVanByRows (a0 a1 a2 a3 : Int) (σ : cvM) : f5_inVanByRows [a0, a1, a2, a3] σ = f_fin false (b5_inVanByRows [some a0, some a1, some a2, some a3, none, none, none, none, none] σ) := Eq.trans rfl rfl
theorem u5_arrivalByRows (a0 a1 a2 a3 : Int) (σ : cvM) : f5_arrivalByRows [a0, a1, a2, a3] σ = f_fin false (b5_arrivalByRows [some a0, some a1, some a2, some a3, none, none, none, none] σ) := Eq.trans rfl rfl
theorem u5_judgeRows (a0 a1 a2 : Int) (σ : cvM) : f5_judgeRows [a0, a1, a2] σ = f_fin false (b5_judgeRows [some a0, some a1, some a2, none, none, none, none, none] σ) := Eq.trans rfl rfl
theorem u11_judge (a0 a1 : Int) (σ : cvM) : f11_judge [a0, a1] σ = f_fin false (b11_judge [some a0, some a1] σ) := Eq.trans rfl rfl
theorem u1_split (a0 a1 a2 : Int) (σ : cvM) : f1_split [a0, a1, a2] σ = f_fin false (b1_split [some a0, some a1, some a2, none, none] σ) := Eq.trans rfl rfl
theorem u1_partWith (a0 a1 : Int) (σ : cvM) : f1_partWith [a0, a1] σ = f_fin false (b1_partWith [some a0, some a1, none, none] σ) := Eq.trans rfl rfl
theorem u11_held (a0 a1 a2 a3 : Int) (σ : cvM) : f11_held [a0, a1, a2, a3] σ = f_fin false (b11_held [some a0, some a1, some a2, some a3, none] σ) := Eq.trans rfl rfl
theorem u11_enter (a0 a1 a2 a3 a4 : Int) (σ : cvM) : f11_enter [a0, a1, a2, a3, a4] σ = f_fin false (b11_enter [some a0, some a1, some a2, some a3, some a4] σ) := Eq.trans rfl rfl
theorem u2_isOf (a0 a1 a2 a3 : Int) (σ : cvM) : f2_isOf [a0, a1, a2, a3] σ = f_fin false (b2_isOf [some a0, some a1, some a2, some a3] σ) := Eq.trans rfl rfl
theorem u2_latest (a0 a1 a2 a3 : Int) (σ : cvM) : f2_latest [a0, a1, a2, a3] σ = f_fin false (b2_latest [some a0, some a1, some a2, some a3, none, none, none, none] σ) := Eq.trans rfl rfl
theorem u2_whereIs (a0 a1 a2 a3 : Int) (σ : cvM) : f2_whereIs [a0, a1, a2, a3] σ = f_fin false (b2_whereIs [some a0, some a1, some a2, some a3, none] σ) := Eq.trans rfl rfl
theorem u11_at (a0 a1 a2 a3 : Int) (σ : cvM) : f11_at [a0, a1, a2, a3] σ = f_fin false (b11_at [some a0, some a1, some a2, some a3] σ) := Eq.trans rfl rfl
theorem u2_isSure (a0 a1 a2 a3 : Int) (σ : cvM) : f2_isSure [a0, a1, a2, a3] σ = f_fin false (b2_isSure [some a0, some a1, some a2, some a3, none] σ) := Eq.trans rfl rfl
theorem u11_counted (a0 a1 a2 a3 a4 : Int) (σ : cvM) : f11_counted [a0, a1, a2, a3, a4] σ = f_fin false (b11_counted [some a0, some a1, some a2, some a3, some a4, none, none] σ) := Eq.trans rfl rfl
theorem u2_firstAtCourt (a0 a1 a2 : Int) (σ : cvM) : f2_firstAtCourt [a0, a1, a2] σ = f_fin false (b2_firstAtCourt [some a0, some a1, some a2, none, none, none, none, none] σ) := Eq.trans rfl rfl
theorem u11_came (a0 a1 a2 : Int) (σ : cvM) : f11_came [a0, a1, a2] σ = f_fin false (b11_came [some a0, some a1, some a2] σ) := Eq.trans rfl rfl
theorem u2_nextHeard (a0 a1 : Int) (σ : cvM) : f2_nextHeard [a0, a1] σ = f_fin false (b2_nextHeard [some a0, some a1, none, none, none] σ) := Eq.trans rfl rfl
theorem u2_leastWait (a0 : Int) (σ : cvM) : f2_leastWait [a0] σ = f_fin false (b2_leastWait [some a0, none, none] σ) := Eq.trans rfl rfl
theorem u2_hearing (a0 a1 a2 : Int) (σ : cvM) : f2_hearing [a0, a1, a2] σ = f_fin false (b2_hearing [some a0, some a1, some a2, none, none, none, none, none] σ) := Eq.trans rfl rfl
theorem u11_heard (a0 a1 a2 : Int) (σ : cvM) : f11_heard [a0, a1, a2] σ = f_fin false (b11_heard [some a0, some a1, some a2] σ) := Eq.trans rfl rfl
theorem u7_take (a0 a1 a2 : Int) (σ : cvM) : f7_take [a0, a1, a2] σ = f_fin false (b7_take [some a0, some a1, none, some a2, none] σ) := Eq.trans rfl rfl
theorem u11_feed (a0 a1 a2 : Int) (σ : cvM) : f11_feed [a0, a1, a2] σ = f_fin false (b11_feed [some a0, some a1, none, some a2] σ) := Eq.trans rfl rfl
theorem u7_sortOf (a0 a1 : Int) (σ : cvM) : f7_sortOf [a0, a1] σ = f_fin false (b7_sortOf [some a0, some a1, none] σ) := Eq.trans rfl rfl
theorem u7_endOf (a0 a1 : Int) (σ : cvM) : f7_endOf [a0, a1] σ = f_fin false (b7_endOf [some a0, some a1, none, none] σ) := Eq.trans rfl rfl
theorem u7_numberOf (a0 a1 a2 : Int) (σ : cvM) : f7_numberOf [a0, a1, a2] σ = f_fin false (b7_numberOf [some a0, some a1, some a2, none, none] σ) := Eq.trans rfl rfl
theorem u7_addToken (a0 a1 a2 : Int) (σ : cvM) : f7_addToken [a0, a1, a2] σ = f_fin true (b7_addToken [some a0, some a1, some a2] σ) := Eq.trans rfl rfl
theorem u7_token (a0 : Int) (σ : cvM) : f7_token [a0] σ = f_fin false (b7_token [some a0] σ) := Eq.trans rfl rfl
theorem u7_pass (a0 a1 : Int) (σ : cvM) : f7_pass [a0, a1] σ = f_fin false (b7_pass [some a0, some a1] σ) := Eq.trans rfl rfl
theorem u7_readCauses (a0 : Int) (σ : cvM) : f7_readCauses [a0] σ = f_fin false (b7_readCauses [some a0, none, none, none] σ) := Eq.trans rfl rfl
theorem u7_passNumber (a0 a1 : Int) (σ : cvM) : f7_passNumber [a0, a1] σ = f_fin false (b7_passNumber [some a0, some a1, none] σ) := Eq.trans rfl rfl
theorem u7_readBy (a0 : Int) (σ : cvM) : f7_readBy [a0] σ = f_fin false (b7_readBy [some a0, none, none, none, none] σ) := Eq.trans rfl rfl
theorem u7_readLine (a0 : Int) (σ : cvM) : f7_readLine [a0] σ = f_fin false (b7_readLine [some a0, none, none] σ) := Eq.trans rfl rfl
theorem u7_start (a0 : Int) (σ : cvM) : f7_start [a0] σ = f_fin false (b7_start [some a0] σ) := Eq.trans rfl rfl
theorem u8_become (a0 a1 : Int) (σ : cvM) : f8_become [a0, a1] σ = f_fin true (b8_become [some a0, some a1] σ) := Eq.trans rfl rfl
theorem u11_line (a0 a1 a2 : Int) (σ : cvM) : f11_line [a0, a1, a2] σ = f_fin false (b11_line [some a0, some a1, some a2] σ) := Eq.trans rfl rfl
theorem u3_latest (a0 a1 : Int) (σ : cvM) : f3_latest [a0, a1] σ = f_fin false (b3_latest [some a0, some a1, none] σ) := Eq.trans rfl rfl
theorem u3_share (a0 a1 a2 a3 : Int) (σ : cvM) : f3_share [a0, a1, a2, a3] σ = f_fin true (b3_share [some a0, some a1, some a2, some a3, none, none, none, none, none] σ) := Eq.trans rfl rfl
theorem u11_part (a0 a1 a2 a3 a4 : Int) (σ : cvM) : f11_part [a0, a1, a2, a3, a4] σ = f_fin false (b11_part [some a0, some a1, some a2, some a3, some a4] σ) := Eq.trans rfl rfl
theorem u3_fineFor (a0 a1 : Int) (σ : cvM) : f3_fineFor [a0, a1] σ = f_fin false (b3_fineFor [some a0, some a1, none, none, none] σ) := Eq.trans rfl rfl
theorem u3_sum (a0 : Int) (σ : cvM) : f3_sum [a0] σ = f_fin false (b3_sum [some a0, none, none] σ) := Eq.trans rfl rfl
theorem u11_fine (a0 a1 a2 a3 : Int) (σ : cvM) : f11_fine [a0, a1, a2, a3] σ = f_fin false (b11_fine [some a0, some a1, some a2, some a3] σ) := Eq.trans rfl rfl
theorem u6_roomAt (a0 a1 a2 a3 a4 : Int) (σ : cvM) : f6_roomAt [a0, a1, a2, a3, a4] σ = f_fin false (b6_roomAt [some a0, some a1, some a2, some a3, some a4, none, none, none] σ) := Eq.trans rfl rfl
theorem u6_weigh (a0 a1 a2 a3 : Int) (σ : cvM) : f6_weigh [a0, a1, a2, a3] σ = f_fin false (b6_weigh [some a0, some a1, some a2, some a3, none, none, none, none] σ) := Eq.trans rfl rfl
theorem u6_settle (a0 a1 a2 a3 : Int) (σ : cvM) : f6_settle [a0, a1, a2, a3] σ = f_fin false (b6_settle [some a0, some a1, some a2, some a3, none] σ) := Eq.trans rfl rfl
theorem u6_abroad (a0 : Int) (σ : cvM) : f6_abroad [a0] σ = f_fin false (b6_abroad [some a0] σ) := Eq.trans rfl rfl
theorem u6_drives (a0 : Int) (σ : cvM) : f6_drives [a0] σ = f_fin false (b6_drives [some a0] σ) := Eq.trans rfl rfl
theorem u6_placeWith (a0 a1 : Int) (σ : cvM) : f6_placeWith [a0, a1] σ = f_fin false (b6_placeWith [some a0, some a1, none] σ) := Eq.trans rfl rfl
theorem u11_night (a0 a1 a2 a3 a4 : Int) (σ : cvM) : f11_night [a0, a1, a2, a3, a4] σ = f_fin false (b11_night [some a0, some a1, some a2, some a3, some a4] σ) := Eq.trans rfl rfl
theorem u11_thing (a0 a1 a2 : Int) (σ : cvM) : f11_thing [a0, a1, a2] σ = f_fin false (b11_thing [some a0, some a1, some a2] σ) := Eq.trans rfl rfl
theorem u11_carry (a0 a1 a2 : Int) (σ : cvM) : f11_carry [a0, a1, a2] σ = f_fin false (b11_carry [some a0, some a1, some a2, none] σ) := Eq.trans rfl rfl
theorem u10_lackedBy (a0 a1 a2 : Int) (σ : cvM) : f10_lackedBy [a0, a1, a2] σ = f_fin false (b10_lackedBy [some a0, some a1, some a2, none, none, none] σ) := Eq.trans rfl rfl
theorem u11_lacks (a0 a1 a2 : Int) (σ : cvM) : f11_lacks [a0, a1, a2] σ = f_fin false (b11_lacks [some a0, some a1, some a2] σ) := Eq.trans rfl rfl
theorem u10_placesOf (a0 a1 : Int) (σ : cvM) : f10_placesOf [a0, a1] σ = f_fin false (b10_placesOf [some a0, some a1, none, none, none] σ) := Eq.trans rfl rfl
theorem u11_fetch (a0 a1 a2 : Int) (σ : cvM) : f11_fetch [a0, a1, a2] σ = f_fin false (b11_fetch [some a0, some a1, some a2] σ) := Eq.trans rfl rfl
theorem u4_isSheet (a0 a1 : Int) (σ : cvM) : f4_isSheet [a0, a1] σ = f_fin false (b4_isSheet [some a0, some a1] σ) := Eq.trans rfl rfl
theorem u4_tearSheet (a0 a1 : Int) (σ : cvM) : f4_tearSheet [a0, a1] σ = f_fin false (b4_tearSheet [some a0, some a1] σ) := Eq.trans rfl rfl
theorem uJ_rangeCheck (a0 a1 a2 : Int) (σ : cvM) : fJ_rangeCheck [a0, a1, a2] σ = f_fin true (bJ_rangeCheck [some a0, some a1, some a2] σ) := Eq.trans rfl rfl
theorem uJ_fillr (a0 a1 a2 a3 : Int) (σ : cvM) : fJ_fillr [a0, a1, a2, a3] σ = f_fin true (bJ_fillr [some a0, some a1, some a2, some a3, none] σ) := Eq.trans rfl rfl
theorem u4_makeSheet (a0 a1 a2 a3 : Int) (σ : cvM) : f4_makeSheet [a0, a1, a2, a3] σ = f_fin false (b4_makeSheet [some a0, some a1, some a2, some a3] σ) := Eq.trans rfl rfl
theorem u11_sheet (a0 a1 a2 a3 : Int) (σ : cvM) : f11_sheet [a0, a1, a2, a3] σ = f_fin false (b11_sheet [some a0, some a1, some a2, some a3] σ) := Eq.trans rfl rfl
theorem u4_refusal (a0 a1 a2 a3 : Int) (σ : cvM) : f4_refusal [a0, a1, a2, a3] σ = f_fin false (b4_refusal [some a0, some a1, some a2, some a3] σ) := Eq.trans rfl rfl
theorem u4_write (a0 a1 a2 a3 : Int) (σ : cvM) : f4_write [a0, a1, a2, a3] σ = f_fin false (b4_write [some a0, some a1, some a2, some a3, none] σ) := Eq.trans rfl rfl
theorem u11_put (a0 a1 a2 a3 : Int) (σ : cvM) : f11_put [a0, a1, a2, a3] σ = f_fin false (b11_put [some a0, some a1, some a2, some a3, none] σ) := Eq.trans rfl rfl
theorem u4_itemAt (a0 a1 a2 : Int) (σ : cvM) : f4_itemAt [a0, a1, a2] σ = f_fin false (b4_itemAt [some a0, some a1, some a2] σ) := Eq.trans rfl rfl
theorem u11_item (a0 a1 a2 a3 : Int) (σ : cvM) : f11_item [a0, a1, a2, a3] σ = f_fin false (b11_item [some a0, some a1, some a2, some a3, none] σ) := Eq.trans rfl rfl
theorem u11_comes (a0 a1 a2 : Int) (σ : cvM) : f11_comes [a0, a1, a2] σ = f_fin false (b11_comes [some a0, some a1, some a2, none] σ) := Eq.trans rfl rfl
theorem u4_isShelf (a0 a1 : Int) (σ : cvM) : f4_isShelf [a0, a1] σ = f_fin false (b4_isShelf [some a0, some a1] σ) := Eq.trans rfl rfl
theorem u4_hold (a0 a1 a2 a3 a4 : Int) (σ : cvM) : f4_hold [a0, a1, a2, a3, a4] σ = f_fin false (b4_hold [some a0, some a1, some a2, some a3, some a4] σ) := Eq.trans rfl rfl
theorem u4_holdRow (a0 a1 a2 : Int) (σ : cvM) : f4_holdRow [a0, a1, a2] σ = f_fin false (b4_holdRow [some a0, some a1, some a2] σ) := Eq.trans rfl rfl
theorem u11_shelf (a0 a1 a2 a3 : Int) (σ : cvM) : f11_shelf [a0, a1, a2, a3] σ = f_fin false (b11_shelf [some a0, some a1, some a2, some a3] σ) := Eq.trans rfl rfl
theorem u4_kindOf (a0 : Int) (σ : cvM) : f4_kindOf [a0] σ = f_fin false (b4_kindOf [some a0] σ) := Eq.trans rfl rfl
theorem u4_look (a0 a1 : Int) (σ : cvM) : f4_look [a0, a1] σ = f_fin true (b4_look [some a0, some a1] σ) := Eq.trans rfl rfl
theorem u4_takenAsKind (a0 a1 a2 : Int) (σ : cvM) : f4_takenAsKind [a0, a1, a2] σ = f_fin false (b4_takenAsKind [some a0, some a1, some a2, none, none, none] σ) := Eq.trans rfl rfl
theorem u4_takenAsRow (a0 a1 a2 : Int) (σ : cvM) : f4_takenAsRow [a0, a1, a2] σ = f_fin false (b4_takenAsRow [some a0, some a1, some a2] σ) := Eq.trans rfl rfl
theorem u11_taken (a0 a1 a2 : Int) (σ : cvM) : f11_taken [a0, a1, a2] σ = f_fin false (b11_taken [some a0, some a1, some a2] σ) := Eq.trans rfl rfl
theorem u4_mark (a0 a1 : Int) (σ : cvM) : f4_mark [a0, a1] σ = f_fin true (b4_mark [some a0, some a1] σ) := Eq.trans rfl rfl
theorem u4_counts (a0 a1 : Int) (σ : cvM) : f4_counts [a0, a1] σ = f_fin false (b4_counts [some a0, some a1] σ) := Eq.trans rfl rfl
theorem u4_holds (a0 a1 : Int) (σ : cvM) : f4_holds [a0, a1] σ = f_fin false (b4_holds [some a0, some a1] σ) := Eq.trans rfl rfl
theorem u4_owes (a0 a1 : Int) (σ : cvM) : f4_owes [a0, a1] σ = f_fin false (b4_owes [some a0, some a1, none, none] σ) := Eq.trans rfl rfl
theorem u4_tells (a0 a1 : Int) (σ : cvM) : f4_tells [a0, a1] σ = f_fin false (b4_tells [some a0, some a1, none, none] σ) := Eq.trans rfl rfl
theorem u4_run (a0 a1 a2 a3 : Int) (σ : cvM) : f4_run [a0, a1, a2, a3] σ = f_fin false (b4_run [some a0, some a1, some a2, some a3] σ) := Eq.trans rfl rfl
theorem u11_act (a0 a1 a2 a3 : Int) (σ : cvM) : f11_act [a0, a1, a2, a3] σ = f_fin false (b11_act [some a0, some a1, some a2, some a3] σ) := Eq.trans rfl rfl
theorem u11_trace (a0 a1 : Int) (σ : cvM) : f11_trace [a0, a1] σ = f_fin false (b11_trace [some a0, some a1] σ) := Eq.trans rfl rfl
theorem u11_many (a0 a1 : Int) (σ : cvM) : f11_many [a0, a1] σ = f_fin false (b11_many [some a0, some a1] σ) := Eq.trans rfl rfl
theorem u10_become (a0 a1 : Int) (σ : cvM) : f10_become [a0, a1] σ = f_fin true (b10_become [some a0, some a1] σ) := Eq.trans rfl rfl
theorem u11_keep (a0 : Int) (σ : cvM) : f11_keep [a0] σ = f_fin false (b11_keep [some a0] σ) := Eq.trans rfl rfl
theorem u11_again (a0 : Int) (σ : cvM) : f11_again [a0] σ = f_fin false (b11_again [some a0] σ) := Eq.trans rfl rfl
theorem u12_in (a0 a1 a2 : Int) (σ : cvM) : f12_in [a0, a1, a2] σ = f_fin false (b12_in [some a0, some a1, some a2] σ) := Eq.trans rfl rfl
theorem u12_isMinute (a0 : Int) (σ : cvM) : f12_isMinute [a0] σ = f_fin false (b12_isMinute [some a0] σ) := Eq.trans rfl rfl
theorem u12_isPlace (a0 a1 : Int) (σ : cvM) : f12_isPlace [a0, a1] σ = f_fin false (b12_isPlace [some a0, some a1] σ) := Eq.trans rfl rfl
theorem u12_isHome (a0 a1 : Int) (σ : cvM) : f12_isHome [a0, a1] σ = f_fin false (b12_isHome [some a0, some a1] σ) := Eq.trans rfl rfl
theorem u12_isCourt (a0 a1 : Int) (σ : cvM) : f12_isCourt [a0, a1] σ = f_fin false (b12_isCourt [some a0, some a1] σ) := Eq.trans rfl rfl
theorem u12_isPerson (a0 a1 : Int) (σ : cvM) : f12_isPerson [a0, a1] σ = f_fin false (b12_isPerson [some a0, some a1] σ) := Eq.trans rfl rfl
theorem u12_isVan (a0 a1 : Int) (σ : cvM) : f12_isVan [a0, a1] σ = f_fin false (b12_isVan [some a0, some a1] σ) := Eq.trans rfl rfl
theorem u12_get (a0 a1 a2 : Int) (σ : cvM) : f12_get [a0, a1, a2] σ = f_fin false (b12_get [some a0, some a1, some a2] σ) := Eq.trans rfl rfl
theorem u12_from (a0 a1 : Int) (σ : cvM) : f12_from [a0, a1] σ = f_fin false (b12_from [some a0, some a1] σ) := Eq.trans rfl rfl
theorem u12_till (a0 a1 : Int) (σ : cvM) : f12_till [a0, a1] σ = f_fin false (b12_till [some a0, some a1] σ) := Eq.trans rfl rfl
theorem u12_areSome (a0 a1 : Int) (σ : cvM) : f12_areSome [a0, a1] σ = f_fin false (b12_areSome [some a0, some a1] σ) := Eq.trans rfl rfl
theorem u12_bits (a0 : Int) (σ : cvM) : f12_bits [a0] σ = f_fin false (b12_bits [some a0, none, none] σ) := Eq.trans rfl rfl
theorem u12_minutes (a0 a1 : Int) (σ : cvM) : f12_minutes [a0, a1] σ = f_fin false (b12_minutes [some a0, some a1] σ) := Eq.trans rfl rfl
theorem u12_place (a0 a1 a2 a3 a4 : Int) (σ : cvM) : f12_place [a0, a1, a2, a3, a4] σ = f_fin false (b12_place [some a0, some a1, some a2, some a3, some a4, none] σ) := Eq.trans rfl rfl
theorem u12_areTwo (a0 a1 a2 : Int) (σ : cvM) : f12_areTwo [a0, a1, a2] σ = f_fin false (b12_areTwo [some a0, some a1, some a2] σ) := Eq.trans rfl rfl
theorem u12_road (a0 a1 a2 a3 : Int) (σ : cvM) : f12_road [a0, a1, a2, a3] σ = f_fin false (b12_road [some a0, some a1, some a2, some a3, none] σ) := Eq.trans rfl rfl
theorem u12_traffic (a0 a1 a2 : Int) (σ : cvM) : f12_traffic [a0, a1, a2] σ = f_fin false (b12_traffic [some a0, some a1, some a2, none] σ) := Eq.trans rfl rfl
theorem u12_driveOf (a0 a1 a2 a3 : Int) (σ : cvM) : f12_driveOf [a0, a1, a2, a3] σ = f_fin false (b12_driveOf [some a0, some a1, some a2, some a3, none] σ) := Eq.trans rfl rfl
theorem u12_drive (a0 a1 a2 a3 : Int) (σ : cvM) : f12_drive [a0, a1, a2, a3] σ = f_fin false (b12_drive [some a0, some a1, some a2, some a3] σ) := Eq.trans rfl rfl
theorem u12_person (a0 a1 a2 a3 a4 : Int) (σ : cvM) : f12_person [a0, a1, a2, a3, a4] σ = f_fin false (b12_person [some a0, some a1, some a2, some a3, some a4, none, none] σ) := Eq.trans rfl rfl
theorem u12_apart (a0 a1 a2 a3 : Int) (σ : cvM) : f12_apart [a0, a1, a2, a3] σ = f_fin false (b12_apart [some a0, some a1, some a2, some a3, none] σ) := Eq.trans rfl rfl
theorem u12_arePersons (a0 a1 a2 : Int) (σ : cvM) : f12_arePersons [a0, a1, a2] σ = f_fin false (b12_arePersons [some a0, some a1, some a2] σ) := Eq.trans rfl rfl
theorem u12_bar (a0 a1 a2 a3 : Int) (σ : cvM) : f12_bar [a0, a1, a2, a3] σ = f_fin false (b12_bar [some a0, some a1, some a2, some a3, none] σ) := Eq.trans rfl rfl
theorem u12_areFoes (a0 a1 a2 : Int) (σ : cvM) : f12_areFoes [a0, a1, a2] σ = f_fin false (b12_areFoes [some a0, some a1, some a2] σ) := Eq.trans rfl rfl
theorem u12_foes (a0 a1 a2 : Int) (σ : cvM) : f12_foes [a0, a1, a2] σ = f_fin false (b12_foes [some a0, some a1, some a2] σ) := Eq.trans rfl rfl
theorem u12_hasFoe (a0 a1 a2 : Int) (σ : cvM) : f12_hasFoe [a0, a1, a2] σ = f_fin false (b12_hasFoe [some a0, some a1, some a2, none, none] σ) := Eq.trans rfl rfl
theorem u12_areAtPeace (a0 a1 : Int) (σ : cvM) : f12_areAtPeace [a0, a1] σ = f_fin false (b12_areAtPeace [some a0, some a1, none, none] σ) := Eq.trans rfl rfl
theorem u12_wire (a0 a1 a2 : Int) (σ : cvM) : f12_wire [a0, a1, a2] σ = f_fin false (b12_wire [some a0, some a1, some a2, none] σ) := Eq.trans rfl rfl
theorem u12_of (a0 a1 a2 : Int) (σ : cvM) : f12_of [a0, a1, a2] σ = f_fin false (b12_of [some a0, some a1, some a2] σ) := Eq.trans rfl rfl
theorem u12_van (a0 a1 a2 a3 : Int) (σ : cvM) : f12_van [a0, a1, a2, a3] σ = f_fin false (b12_van [some a0, some a1, some a2, some a3, none] σ) := Eq.trans rfl rfl
theorem u12_delay (a0 a1 a2 a3 a4 : Int) (σ : cvM) : f12_delay [a0, a1, a2, a3, a4] σ = f_fin false (b12_delay [some a0, some a1, some a2, some a3, some a4, none] σ) := Eq.trans rfl rfl
theorem u12_rides (a0 a1 : Int) (σ : cvM) : f12_rides [a0, a1] σ = f_fin false (b12_rides [some a0, some a1, none, none, none, none, none, none, none] σ) := Eq.trans rfl rfl
theorem u12_gather (a0 a1 : Int) (σ : cvM) : f12_gather [a0, a1] σ = f_fin true (b12_gather [some a0, some a1, none, none, none] σ) := Eq.trans rfl rfl
theorem u12_lateBy (a0 a1 a2 : Int) (σ : cvM) : f12_lateBy [a0, a1, a2] σ = f_fin false (b12_lateBy [some a0, some a1, some a2] σ) := Eq.trans rfl rfl
theorem u12_timeOf (a0 a1 a2 a3 : Int) (σ : cvM) : f12_timeOf [a0, a1, a2, a3] σ = f_fin false (b12_timeOf [some a0, some a1, some a2, some a3, none] σ) := Eq.trans rfl rfl
theorem u12_lateOf (a0 a1 a2 a3 : Int) (σ : cvM) : f12_lateOf [a0, a1, a2, a3] σ = f_fin false (b12_lateOf [some a0, some a1, some a2, some a3, none, none] σ) := Eq.trans rfl rfl
theorem u12_exchange (a0 a1 a2 : Int) (σ : cvM) : f12_exchange [a0, a1, a2] σ = f_fin true (b12_exchange [some a0, some a1, some a2, none] σ) := Eq.trans rfl rfl
theorem u12_nextOrder (a0 : Int) (σ : cvM) : f12_nextOrder [a0] σ = f_fin false (b12_nextOrder [some a0, none, none, none, none] σ) := Eq.trans rfl rfl
theorem u12_note (a0 a1 : Int) (σ : cvM) : f12_note [a0, a1] σ = f_fin true (b12_note [some a0, some a1, none] σ) := Eq.trans rfl rfl
theorem u12_routes (a0 a1 a2 : Int) (σ : cvM) : f12_routes [a0, a1, a2] σ = f_fin false (b12_routes [some a0, some a1, some a2, none] σ) := Eq.trans rfl rfl
theorem u12_canBeIn (a0 a1 a2 : Int) (σ : cvM) : f12_canBeIn [a0, a1, a2] σ = f_fin false (b12_canBeIn [some a0, some a1, some a2, none, none] σ) := Eq.trans rfl rfl
theorem u12_route (a0 a1 a2 a3 : Int) (σ : cvM) : f12_route [a0, a1, a2, a3] σ = f_fin false (b12_route [some a0, some a1, some a2, some a3] σ) := Eq.trans rfl rfl
theorem u12_arrival (a0 a1 a2 a3 : Int) (σ : cvM) : f12_arrival [a0, a1, a2, a3] σ = f_fin false (b12_arrival [some a0, some a1, some a2, some a3] σ) := Eq.trans rfl rfl
theorem u12_ridersOf (a0 a1 : Int) (σ : cvM) : f12_ridersOf [a0, a1] σ = f_fin false (b12_ridersOf [some a0, some a1, none, none] σ) := Eq.trans rfl rfl
theorem u12_riders (a0 a1 : Int) (σ : cvM) : f12_riders [a0, a1] σ = f_fin false (b12_riders [some a0, some a1] σ) := Eq.trans rfl rfl
theorem u12_personsOf (a0 a1 : Int) (σ : cvM) : f12_personsOf [a0, a1] σ = f_fin false (b12_personsOf [some a0, some a1, none, none] σ) := Eq.trans rfl rfl
theorem u12_weigh (a0 a1 : Int) (σ : cvM) : f12_weigh [a0, a1] σ = f_fin true (b12_weigh [some a0, some a1, none, none, none, none] σ) := Eq.trans rfl rfl
theorem u12_lacksPlan (a0 a1 : Int) (σ : cvM) : f12_lacksPlan [a0, a1] σ = f_fin false (b12_lacksPlan [some a0, some a1, none] σ) := Eq.trans rfl rfl
theorem u12_vanBy (a0 a1 a2 : Int) (σ : cvM) : f12_vanBy [a0, a1, a2] σ = f_fin false (b12_vanBy [some a0, some a1, some a2] σ) := Eq.trans rfl rfl
theorem u12_isAhead (a0 a1 a2 : Int) (σ : cvM) : f12_isAhead [a0, a1, a2] σ = f_fin false (b12_isAhead [some a0, some a1, some a2, none, none] σ) := Eq.trans rfl rfl
theorem u12_noteVans (a0 a1 a2 : Int) (σ : cvM) : f12_noteVans [a0, a1, a2] σ = f_fin true (b12_noteVans [some a0, some a1, some a2, none] σ) := Eq.trans rfl rfl
theorem u12_plansRest (a0 a1 a2 : Int) (σ : cvM) : f12_plansRest [a0, a1, a2] σ = f_fin true (b12_plansRest [some a0, some a1, some a2, none, none, none] σ) := Eq.trans rfl rfl
theorem u12_plans (a0 a1 : Int) (σ : cvM) : f12_plans [a0, a1] σ = f_fin false (b12_plans [some a0, some a1, none, none] σ) := Eq.trans rfl rfl
theorem u12_plan (a0 a1 : Int) (σ : cvM) : f12_plan [a0, a1] σ = f_fin false (b12_plan [some a0, some a1, none, none] σ) := Eq.trans rfl rfl
theorem u12_placedIn (a0 a1 : Int) (σ : cvM) : f12_placedIn [a0, a1] σ = f_fin false (b12_placedIn [some a0, some a1, none] σ) := Eq.trans rfl rfl
theorem u12_vanOf (a0 a1 : Int) (σ : cvM) : f12_vanOf [a0, a1] σ = f_fin false (b12_vanOf [some a0, some a1, none] σ) := Eq.trans rfl rfl
theorem u12_less (a0 a1 : Int) (σ : cvM) : f12_less [a0, a1] σ = f_fin false (b12_less [some a0, some a1, none, none, none, none] σ) := Eq.trans rfl rfl
theorem u12_alone (a0 a1 a2 : Int) (σ : cvM) : f12_alone [a0, a1, a2] σ = f_fin false (b12_alone [some a0, some a1, some a2, none, none] σ) := Eq.trans rfl rfl
theorem u12_bound (a0 a1 : Int) (σ : cvM) : f12_bound [a0, a1] σ = f_fin false (b12_bound [some a0, some a1, none, none, none, none] σ) := Eq.trans rfl rfl
theorem u12_prove (a0 a1 : Int) (σ : cvM) : f12_prove [a0, a1] σ = f_fin false (b12_prove [some a0, some a1, none, none, none, none] σ) := Eq.trans rfl rfl
theorem u12_isRow (a0 a1 a2 : Int) (σ : cvM) : f12_isRow [a0, a1, a2] σ = f_fin false (b12_isRow [some a0, some a1, some a2] σ) := Eq.trans rfl rfl
theorem u12_row (a0 a1 a2 : Int) (σ : cvM) : f12_row [a0, a1, a2] σ = f_fin false (b12_row [some a0, some a1, some a2] σ) := Eq.trans rfl rfl
theorem u12_alterRow (a0 a1 a2 a3 : Int) (σ : cvM) : f12_alterRow [a0, a1, a2, a3] σ = f_fin false (b12_alterRow [some a0, some a1, some a2, some a3, none] σ) := Eq.trans rfl rfl
theorem u12_drop (a0 : Int) (σ : cvM) : f12_drop [a0] σ = f_fin false (b12_drop [some a0] σ) := Eq.trans rfl rfl
theorem u12_toldIn (a0 a1 : Int) (σ : cvM) : f12_toldIn [a0, a1] σ = f_fin false (b12_toldIn [some a0, some a1, none, none] σ) := Eq.trans rfl rfl
theorem u12_isSo (a0 a1 a2 : Int) (σ : cvM) : f12_isSo [a0, a1, a2] σ = f_fin false (b12_isSo [some a0, some a1, some a2, none, none] σ) := Eq.trans rfl rfl
theorem u12_judge (a0 a1 : Int) (σ : cvM) : f12_judge [a0, a1] σ = f_fin false (b12_judge [some a0, some a1, none, none, none] σ) := Eq.trans rfl rfl
theorem u12_fitsIn (a0 a1 a2 : Int) (σ : cvM) : f12_fitsIn [a0, a1, a2] σ = f_fin false (b12_fitsIn [some a0, some a1, some a2, none, none, none] σ) := Eq.trans rfl rfl
theorem u12_parts (a0 a1 a2 a3 : Int) (σ : cvM) : f12_parts [a0, a1, a2, a3] σ = f_fin false (b12_parts [some a0, some a1, some a2, some a3, none, none, none] σ) := Eq.trans rfl rfl
theorem u12_held (a0 a1 a2 a3 : Int) (σ : cvM) : f12_held [a0, a1, a2, a3] σ = f_fin false (b12_held [some a0, some a1, some a2, some a3, none, none, none, none] σ) := Eq.trans rfl rfl
theorem u12_enter (a0 a1 a2 a3 a4 : Int) (σ : cvM) : f12_enter [a0, a1, a2, a3, a4] σ = f_fin false (b12_enter [some a0, some a1, some a2, some a3, some a4, none] σ) := Eq.trans rfl rfl
theorem u12_latest (a0 a1 a2 a3 : Int) (σ : cvM) : f12_latest [a0, a1, a2, a3] σ = f_fin false (b12_latest [some a0, some a1, some a2, some a3, none, none] σ) := Eq.trans rfl rfl
theorem u12_isAt (a0 a1 a2 a3 : Int) (σ : cvM) : f12_isAt [a0, a1, a2, a3] σ = f_fin false (b12_isAt [some a0, some a1, some a2, some a3, none] σ) := Eq.trans rfl rfl
theorem u12_at (a0 a1 a2 a3 : Int) (σ : cvM) : f12_at [a0, a1, a2, a3] σ = f_fin false (b12_at [some a0, some a1, some a2, some a3] σ) := Eq.trans rfl rfl
theorem u12_counted (a0 a1 a2 a3 a4 : Int) (σ : cvM) : f12_counted [a0, a1, a2, a3, a4] σ = f_fin false (b12_counted [some a0, some a1, some a2, some a3, some a4, none, none, none, none] σ) := Eq.trans rfl rfl
theorem u12_cameAt (a0 a1 a2 : Int) (σ : cvM) : f12_cameAt [a0, a1, a2] σ = f_fin false (b12_cameAt [some a0, some a1, some a2, none, none] σ) := Eq.trans rfl rfl
theorem u12_came (a0 a1 a2 : Int) (σ : cvM) : f12_came [a0, a1, a2] σ = f_fin false (b12_came [some a0, some a1, some a2, none] σ) := Eq.trans rfl rfl
theorem u12_heard (a0 a1 a2 : Int) (σ : cvM) : f12_heard [a0, a1, a2] σ = f_fin false (b12_heard [some a0, some a1, some a2, none, none, none, none, none] σ) := Eq.trans rfl rfl
theorem u12_feed (a0 a1 a2 : Int) (σ : cvM) : f12_feed [a0, a1, a2] σ = f_fin false (b12_feed [some a0, some a1, none, some a2, none] σ) := Eq.trans rfl rfl
theorem u12_isLetter (a0 : Int) (σ : cvM) : f12_isLetter [a0] σ = f_fin false (b12_isLetter [some a0] σ) := Eq.trans rfl rfl
theorem u12_isDigit (a0 : Int) (σ : cvM) : f12_isDigit [a0] σ = f_fin false (b12_isDigit [some a0] σ) := Eq.trans rfl rfl
theorem u12_advance (a0 : Int) (σ : cvM) : f12_advance [a0] σ = f_fin true (b12_advance [some a0, none] σ) := Eq.trans rfl rfl
theorem u12_isGood (a0 : Int) (σ : cvM) : f12_isGood [a0] σ = f_fin false (b12_isGood [some a0] σ) := Eq.trans rfl rfl
theorem u12_wrong (a0 : Int) (σ : cvM) : f12_wrong [a0] σ = f_fin true (b12_wrong [some a0] σ) := Eq.trans rfl rfl
theorem u12_wantNumber (a0 a1 : Int) (σ : cvM) : f12_wantNumber [a0, a1] σ = f_fin false (b12_wantNumber [some a0, some a1, none] σ) := Eq.trans rfl rfl
theorem u12_isWord (a0 a1 : Int) (σ : cvM) : f12_isWord [a0, a1] σ = f_fin false (b12_isWord [some a0, some a1] σ) := Eq.trans rfl rfl
theorem u12_want (a0 a1 a2 : Int) (σ : cvM) : f12_want [a0, a1, a2] σ = f_fin true (b12_want [some a0, some a1, some a2] σ) := Eq.trans rfl rfl
theorem u12_causeHere (a0 : Int) (σ : cvM) : f12_causeHere [a0] σ = f_fin false (b12_causeHere [some a0] σ) := Eq.trans rfl rfl
theorem u12_wantCauses (a0 : Int) (σ : cvM) : f12_wantCauses [a0] σ = f_fin false (b12_wantCauses [some a0, none, none, none] σ) := Eq.trans rfl rfl
theorem u12_wantLine (a0 a1 : Int) (σ : cvM) : f12_wantLine [a0, a1] σ = f_fin true (b12_wantLine [some a0, some a1, none, none] σ) := Eq.trans rfl rfl
theorem u12_read (a0 : Int) (σ : cvM) : f12_read [a0] σ = f_fin false (b12_read [some a0, none, none] σ) := Eq.trans rfl rfl
theorem u12_line (a0 a1 a2 : Int) (σ : cvM) : f12_line [a0, a1, a2] σ = f_fin false (b12_line [some a0, some a1, some a2] σ) := Eq.trans rfl rfl
theorem u12_latestOf (a0 a1 : Int) (σ : cvM) : f12_latestOf [a0, a1] σ = f_fin false (b12_latestOf [some a0, some a1, none, none] σ) := Eq.trans rfl rfl
theorem u12_findParts (a0 a1 a2 a3 : Int) (σ : cvM) : f12_findParts [a0, a1, a2, a3] σ = f_fin true (b12_findParts [some a0, some a1, some a2, some a3, none, none, none, none, none] σ) := Eq.trans rfl rfl
theorem u12_part (a0 a1 a2 a3 a4 : Int) (σ : cvM) : f12_part [a0, a1, a2, a3, a4] σ = f_fin false (b12_part [some a0, some a1, some a2, some a3, some a4] σ) := Eq.trans rfl rfl
theorem u12_fineOf (a0 a1 : Int) (σ : cvM) : f12_fineOf [a0, a1] σ = f_fin false (b12_fineOf [some a0, some a1, none, none] σ) := Eq.trans rfl rfl
theorem u12_fine (a0 a1 a2 a3 : Int) (σ : cvM) : f12_fine [a0, a1, a2, a3] σ = f_fin false (b12_fine [some a0, some a1, some a2, some a3, none, none] σ) := Eq.trans rfl rfl
theorem u12_findSpace (a0 a1 a2 : Int) (σ : cvM) : f12_findSpace [a0, a1, a2] σ = f_fin true (b12_findSpace [some a0, some a1, some a2, none, none] σ) := Eq.trans rfl rfl
theorem u12_findDrives (a0 a1 a2 : Int) (σ : cvM) : f12_findDrives [a0, a1, a2] σ = f_fin true (b12_findDrives [some a0, some a1, some a2, none, none] σ) := Eq.trans rfl rfl
theorem u12_isGood_ (a0 a1 : Int) (σ : cvM) : f12_isGood_ [a0, a1] σ = f_fin false (b12_isGood_ [some a0, some a1, none, none, none] σ) := Eq.trans rfl rfl
theorem u12_nights (a0 a1 a2 a3 : Int) (σ : cvM) : f12_nights [a0, a1, a2, a3] σ = f_fin false (b12_nights [some a0, some a1, some a2, some a3, none, none, none] σ) := Eq.trans rfl rfl
theorem u12_night (a0 a1 a2 a3 a4 : Int) (σ : cvM) : f12_night [a0, a1, a2, a3, a4] σ = f_fin false (b12_night [some a0, some a1, some a2, some a3, some a4, none] σ) := Eq.trans rfl rfl
theorem u12_isWhere (a0 a1 : Int) (σ : cvM) : f12_isWhere [a0, a1] σ = f_fin false (b12_isWhere [some a0, some a1] σ) := Eq.trans rfl rfl
theorem u12_thing (a0 a1 a2 : Int) (σ : cvM) : f12_thing [a0, a1, a2] σ = f_fin false (b12_thing [some a0, some a1, some a2, none] σ) := Eq.trans rfl rfl
theorem u12_carry (a0 a1 a2 : Int) (σ : cvM) : f12_carry [a0, a1, a2] σ = f_fin false (b12_carry [some a0, some a1, some a2, none] σ) := Eq.trans rfl rfl
theorem u12_lackedAt (a0 a1 a2 : Int) (σ : cvM) : f12_lackedAt [a0, a1, a2] σ = f_fin false (b12_lackedAt [some a0, some a1, some a2, none, none, none] σ) := Eq.trans rfl rfl
theorem u12_lacks (a0 a1 a2 : Int) (σ : cvM) : f12_lacks [a0, a1, a2] σ = f_fin false (b12_lacks [some a0, some a1, some a2] σ) := Eq.trans rfl rfl
theorem u12_fetch (a0 a1 a2 : Int) (σ : cvM) : f12_fetch [a0, a1, a2] σ = f_fin false (b12_fetch [some a0, some a1, some a2, none, none, none, none, none, none, none] σ) := Eq.trans rfl rfl
theorem u12_isShelf (a0 : Int) (σ : cvM) : f12_isShelf [a0] σ = f_fin false (b12_isShelf [some a0] σ) := Eq.trans rfl rfl
theorem u12_sheet (a0 a1 a2 a3 : Int) (σ : cvM) : f12_sheet [a0, a1, a2, a3] σ = f_fin false (b12_sheet [some a0, some a1, some a2, some a3, none] σ) := Eq.trans rfl rfl
theorem u12_put (a0 a1 a2 a3 : Int) (σ : cvM) : f12_put [a0, a1, a2, a3] σ = f_fin false (b12_put [some a0, some a1, some a2, some a3] σ) := Eq.trans rfl rfl
theorem u12_lacksSort (a0 a1 a2 : Int) (σ : cvM) : f12_lacksSort [a0, a1, a2] σ = f_fin false (b12_lacksSort [some a0, some a1, some a2] σ) := Eq.trans rfl rfl
theorem u12_item (a0 a1 a2 a3 : Int) (σ : cvM) : f12_item [a0, a1, a2, a3] σ = f_fin false (b12_item [some a0, some a1, some a2, some a3, none] σ) := Eq.trans rfl rfl
theorem u12_comes (a0 a1 a2 : Int) (σ : cvM) : f12_comes [a0, a1, a2] σ = f_fin false (b12_comes [some a0, some a1, some a2, none, none] σ) := Eq.trans rfl rfl
theorem u12_shelf (a0 a1 a2 a3 : Int) (σ : cvM) : f12_shelf [a0, a1, a2, a3] σ = f_fin false (b12_shelf [some a0, some a1, some a2, some a3, none] σ) := Eq.trans rfl rfl
theorem u12_kindOn (a0 a1 : Int) (σ : cvM) : f12_kindOn [a0, a1] σ = f_fin false (b12_kindOn [some a0, some a1, none] σ) := Eq.trans rfl rfl
theorem u12_isUnder (a0 a1 : Int) (σ : cvM) : f12_isUnder [a0, a1] σ = f_fin false (b12_isUnder [some a0, some a1] σ) := Eq.trans rfl rfl
theorem u12_taken (a0 a1 a2 : Int) (σ : cvM) : f12_taken [a0, a1, a2] σ = f_fin false (b12_taken [some a0, some a1, some a2, none] σ) := Eq.trans rfl rfl
theorem u12_ran (a0 a1 : Int) (σ : cvM) : f12_ran [a0, a1] σ = f_fin true (b12_ran [some a0, some a1] σ) := Eq.trans rfl rfl
theorem u12_personCounts (a0 a1 : Int) (σ : cvM) : f12_personCounts [a0, a1] σ = f_fin false (b12_personCounts [some a0, some a1] σ) := Eq.trans rfl rfl
theorem u12_counts (a0 a1 : Int) (σ : cvM) : f12_counts [a0, a1] σ = f_fin false (b12_counts [some a0, some a1] σ) := Eq.trans rfl rfl
theorem u12_oneHolds (a0 a1 : Int) (σ : cvM) : f12_oneHolds [a0, a1] σ = f_fin false (b12_oneHolds [some a0, some a1] σ) := Eq.trans rfl rfl
theorem u12_holdsOf (a0 a1 : Int) (σ : cvM) : f12_holdsOf [a0, a1] σ = f_fin false (b12_holdsOf [some a0, some a1] σ) := Eq.trans rfl rfl
theorem u12_oneOwes (a0 a1 : Int) (σ : cvM) : f12_oneOwes [a0, a1] σ = f_fin false (b12_oneOwes [some a0, some a1] σ) := Eq.trans rfl rfl
theorem u12_owesOf (a0 a1 : Int) (σ : cvM) : f12_owesOf [a0, a1] σ = f_fin false (b12_owesOf [some a0, some a1] σ) := Eq.trans rfl rfl
theorem u12_oneTells (a0 a1 : Int) (σ : cvM) : f12_oneTells [a0, a1] σ = f_fin false (b12_oneTells [some a0, some a1, none] σ) := Eq.trans rfl rfl
theorem u12_tellsOf (a0 a1 : Int) (σ : cvM) : f12_tellsOf [a0, a1] σ = f_fin false (b12_tellsOf [some a0, some a1, none] σ) := Eq.trans rfl rfl
theorem u12_act (a0 a1 a2 a3 : Int) (σ : cvM) : f12_act [a0, a1, a2, a3] σ = f_fin false (b12_act [some a0, some a1, some a2, some a3, none] σ) := Eq.trans rfl rfl
theorem u12_trace (a0 a1 : Int) (σ : cvM) : f12_trace [a0, a1] σ = f_fin false (b12_trace [some a0, some a1] σ) := Eq.trans rfl rfl
theorem u12_many (a0 a1 : Int) (σ : cvM) : f12_many [a0, a1] σ = f_fin false (b12_many [some a0, some a1, none, none] σ) := Eq.trans rfl rfl
theorem u12_move (a0 a1 a2 a3 : Int) (σ : cvM) : f12_move [a0, a1, a2, a3] σ = f_fin true (b12_move [some a0, some a1, some a2, some a3, none] σ) := Eq.trans rfl rfl
theorem u12_moveAll (a0 a1 : Int) (σ : cvM) : f12_moveAll [a0, a1] σ = f_fin true (b12_moveAll [some a0, some a1] σ) := Eq.trans rfl rfl
theorem u12_keep (a0 : Int) (σ : cvM) : f12_keep [a0] σ = f_fin false (b12_keep [some a0] σ) := Eq.trans rfl rfl
theorem u12_again (a0 : Int) (σ : cvM) : f12_again [a0] σ = f_fin false (b12_again [some a0] σ) := Eq.trans rfl rfl
theorem u7_textOf (a0 : Int) (σ : cvM) : f7_textOf [a0] σ = f_fin false (b7_textOf [some a0] σ) := Eq.trans rfl rfl
theorem uJ_coder (a0 : Int) (σ : cvM) : fJ_coder [a0] σ = f_fin false (bJ_coder [some a0] σ) := Eq.trans rfl rfl
theorem uJ_length (a0 : Int) (σ : cvM) : fJ_length [a0] σ = f_fin false (bJ_length [some a0] σ) := Eq.trans rfl rfl
theorem uJ_isLatin1 (a0 : Int) (σ : cvM) : fJ_isLatin1 [a0] σ = f_fin false (bJ_isLatin1 [some a0] σ) := Eq.trans rfl rfl
theorem uJ_preCheck (a0 a1 a2 : Int) (σ : cvM) : fJ_preCheck [a0, a1, a2] σ = f_fin false (bJ_preCheck [some a0, some a1, some a2] σ) := Eq.trans rfl rfl
theorem uJ_checkIndex (a0 a1 : Int) (σ : cvM) : fJ_checkIndex [a0, a1] σ = f_fin true (bJ_checkIndex [some a0, some a1] σ) := Eq.trans rfl rfl
theorem uJ_latinAt (a0 a1 : Int) (σ : cvM) : fJ_latinAt [a0, a1] σ = f_fin false (bJ_latinAt [some a0, some a1] σ) := Eq.trans rfl rfl
theorem uJ_charAt (a0 a1 : Int) (σ : cvM) : fJ_charAt [a0, a1] σ = f_fin false (bJ_charAt [some a0, some a1] σ) := Eq.trans rfl rfl
theorem u7_isWord (a0 a1 a2 a3 : Int) (σ : cvM) : f7_isWord [a0, a1, a2, a3] σ = f_fin false (b7_isWord [some a0, some a1, some a2, some a3, none] σ) := Eq.trans rfl rfl
theorem u7_wordOf (a0 a1 a2 : Int) (σ : cvM) : f7_wordOf [a0, a1, a2] σ = f_fin false (b7_wordOf [some a0, some a1, some a2, none] σ) := Eq.trans rfl rfl
theorem u7_tokenOf (a0 a1 a2 : Int) (σ : cvM) : f7_tokenOf [a0, a1, a2] σ = f_fin false (b7_tokenOf [some a0, some a1, some a2] σ) := Eq.trans rfl rfl
theorem u7_split (a0 : Int) (σ : cvM) : f7_split [a0] σ = f_fin true (b7_split [some a0, none, none, none] σ) := Eq.trans rfl rfl
theorem u7_parse (a0 : Int) (σ : cvM) : f7_parse [a0] σ = f_fin false (b7_parse [some a0, none, none] σ) := Eq.trans rfl rfl
theorem u11_read (a0 : Int) (σ : cvM) : f11_read [a0] σ = f_fin false (b11_read [some a0, none] σ) := Eq.trans rfl rfl
theorem u9_goOn (d : Nat) (a0 a1 a2 a3 a4 a5 : Int) (σ : cvM) : f9_goOn (d + 1) [a0, a1, a2, a3, a4, a5] σ = f_fin true (b9_goOn (f9_goOn d) [some a0, some a1, some a2, some a3, some a4, some a5, none, none, none, none, none, none] σ) := Eq.trans rfl rfl
theorem u1_fits (d : Nat) (a0 a1 a2 a3 : Int) (σ : cvM) : f1_fits (d + 1) [a0, a1, a2, a3] σ = f_fin false (b1_fits (f1_fits d) [some a0, some a1, some a2, some a3, none, none, none] σ) := Eq.trans rfl rfl
theorem u6_send (d : Nat) (a0 a1 a2 : Int) (σ : cvM) : f6_send (d + 1) [a0, a1, a2] σ = f_fin true (b6_send (f6_send d) [some a0, some a1, some a2, none, none, none] σ) := Eq.trans rfl rfl
theorem u11_shortest (d : Nat) (a0 a1 a2 a3 a4 : Int) (σ : cvM) : f11_shortest (d + 1) [a0, a1, a2, a3, a4] σ = f_fin false (b11_shortest (f11_shortest d) [some a0, some a1, some a2, some a3, some a4, none, none, none] σ) := Eq.trans rfl rfl
