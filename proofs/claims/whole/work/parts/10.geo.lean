theorem fT_5_9 : fldT 5 9 = some (5, 0) := by decide +kernel
theorem fT_0_91 : fldT 0 91 = some (5, 0) := by decide +kernel
theorem fT_5_15 : fldT 5 15 = some (5, 1) := by decide +kernel
theorem fT_5_19 : fldT 5 19 = some (5, 2) := by decide +kernel
theorem fT_6_245 : fldT 6 245 = some (5, 2) := by decide +kernel
theorem fT_5_22 : fldT 5 22 = some (5, 3) := by decide +kernel
theorem fT_1_87 : fldT 1 87 = some (5, 3) := by decide +kernel
theorem fT_0_88 : fldT 0 88 = some (5, 3) := by decide +kernel
theorem fT_1_9 : fldT 1 9 = some (1, 0) := by decide +kernel
theorem fT_6_142 : fldT 6 142 = some (1, 0) := by decide +kernel
theorem fT_1_15 : fldT 1 15 = some (1, 1) := by decide +kernel
theorem fT_6_145 : fldT 6 145 = some (1, 1) := by decide +kernel
theorem fT_1_18 : fldT 1 18 = some (1, 2) := by decide +kernel
theorem fT_6_148 : fldT 6 148 = some (1, 2) := by decide +kernel
theorem fT_1_21 : fldT 1 21 = some (1, 3) := by decide +kernel
theorem fT_6_151 : fldT 6 151 = some (1, 3) := by decide +kernel
theorem fT_1_24 : fldT 1 24 = some (1, 4) := by decide +kernel
theorem fT_1_27 : fldT 1 27 = some (1, 5) := by decide +kernel
theorem fT_1_34 : fldT 1 34 = some (1, 6) := by decide +kernel
theorem fT_1_38 : fldT 1 38 = some (1, 7) := by decide +kernel
theorem fT_1_42 : fldT 1 42 = some (1, 8) := by decide +kernel
theorem fT_6_124 : fldT 6 124 = some (1, 8) := by decide +kernel
theorem fT_1_46 : fldT 1 46 = some (1, 9) := by decide +kernel
theorem fT_3_62 : fldT 3 62 = some (1, 9) := by decide +kernel
theorem fT_6_136 : fldT 6 136 = some (1, 9) := by decide +kernel
theorem fT_1_49 : fldT 1 49 = some (1, 10) := by decide +kernel
theorem fT_3_101 : fldT 3 101 = some (1, 10) := by decide +kernel
theorem fT_6_129 : fldT 6 129 = some (1, 10) := by decide +kernel
theorem fT_1_52 : fldT 1 52 = some (1, 11) := by decide +kernel
theorem fT_3_65 : fldT 3 65 = some (1, 11) := by decide +kernel
theorem fT_0_9 : fldT 0 9 = some (0, 0) := by decide +kernel
theorem fT_3_48 : fldT 3 48 = some (0, 0) := by decide +kernel
theorem fT_0_15 : fldT 0 15 = some (0, 1) := by decide +kernel
theorem fT_0_21 : fldT 0 21 = some (0, 2) := by decide +kernel
theorem fT_3_39 : fldT 3 39 = some (0, 2) := by decide +kernel
theorem fT_6_120 : fldT 6 120 = some (0, 2) := by decide +kernel
theorem fT_0_28 : fldT 0 28 = some (0, 3) := by decide +kernel
theorem fT_0_32 : fldT 0 32 = some (0, 4) := by decide +kernel
theorem fT_6_63 : fldT 6 63 = some (0, 4) := by decide +kernel
theorem fT_0_36 : fldT 0 36 = some (0, 5) := by decide +kernel
theorem fT_3_51 : fldT 3 51 = some (0, 5) := by decide +kernel
theorem fT_6_84 : fldT 6 84 = some (0, 5) := by decide +kernel
theorem fT_0_39 : fldT 0 39 = some (0, 6) := by decide +kernel
theorem fT_3_33 : fldT 3 33 = some (0, 6) := by decide +kernel
theorem fT_6_104 : fldT 6 104 = some (0, 6) := by decide +kernel
theorem fT_0_42 : fldT 0 42 = some (0, 7) := by decide +kernel
theorem fT_6_110 : fldT 6 110 = some (0, 7) := by decide +kernel
theorem fT_0_45 : fldT 0 45 = some (0, 8) := by decide +kernel
theorem fT_6_107 : fldT 6 107 = some (0, 8) := by decide +kernel
theorem fT_4_10 : fldT 4 10 = some (4, 0) := by decide +kernel
theorem fT_4_16 : fldT 4 16 = some (4, 1) := by decide +kernel
theorem fT_4_19 : fldT 4 19 = some (4, 2) := by decide +kernel
theorem fT_4_22 : fldT 4 22 = some (4, 3) := by decide +kernel
theorem fT_4_25 : fldT 4 25 = some (4, 4) := by decide +kernel
theorem fT_4_28 : fldT 4 28 = some (4, 5) := by decide +kernel
theorem fT_4_31 : fldT 4 31 = some (4, 6) := by decide +kernel
theorem fT_4_35 : fldT 4 35 = some (4, 7) := by decide +kernel
theorem fT_2_9 : fldT 2 9 = some (2, 0) := by decide +kernel
theorem fT_2_15 : fldT 2 15 = some (2, 1) := by decide +kernel
theorem fT_2_18 : fldT 2 18 = some (2, 2) := by decide +kernel
theorem fT_3_91 : fldT 3 91 = some (2, 2) := by decide +kernel
theorem fT_2_21 : fldT 2 21 = some (2, 3) := by decide +kernel
theorem fT_3_130 : fldT 3 130 = some (2, 3) := by decide +kernel
theorem fT_2_24 : fldT 2 24 = some (2, 4) := by decide +kernel
theorem fT_3_139 : fldT 3 139 = some (2, 4) := by decide +kernel
theorem fT_2_27 : fldT 2 27 = some (2, 5) := by decide +kernel
theorem fT_2_31 : fldT 2 31 = some (2, 6) := by decide +kernel
theorem fT_3_94 : fldT 3 94 = some (2, 6) := by decide +kernel
theorem fT_2_34 : fldT 2 34 = some (2, 7) := by decide +kernel
theorem fT_3_127 : fldT 3 127 = some (2, 7) := by decide +kernel
theorem fT_2_37 : fldT 2 37 = some (2, 8) := by decide +kernel
theorem fT_3_136 : fldT 3 136 = some (2, 8) := by decide +kernel
theorem fT_3_11 : fldT 3 11 = some (3, 0) := by decide +kernel
theorem fT_3_20 : fldT 3 20 = some (3, 1) := by decide +kernel
theorem fT_3_24 : fldT 3 24 = some (3, 2) := by decide +kernel
theorem fT_3_28 : fldT 3 28 = some (3, 3) := by decide +kernel
theorem fT_6_12 : fldT 6 12 = some (6, 0) := by decide +kernel
theorem fT_6_16 : fldT 6 16 = some (6, 1) := by decide +kernel
theorem fT_6_22 : fldT 6 22 = some (6, 2) := by decide +kernel
theorem fT_6_26 : fldT 6 26 = some (6, 3) := by decide +kernel
theorem fT_6_33 : fldT 6 33 = some (6, 4) := by decide +kernel
theorem fT_6_37 : fldT 6 37 = some (6, 5) := by decide +kernel
theorem fT_6_41 : fldT 6 41 = some (6, 6) := by decide +kernel
theorem fT_6_44 : fldT 6 44 = some (6, 7) := by decide +kernel
theorem fT_6_48 : fldT 6 48 = some (6, 8) := by decide +kernel
theorem fT_6_52 : fldT 6 52 = some (6, 9) := by decide +kernel
theorem fT_7_7 : fldT 7 7 = some (7, 0) := by decide +kernel
theorem fT_7_13 : fldT 7 13 = some (7, 1) := by decide +kernel
theorem fT_7_16 : fldT 7 16 = some (7, 2) := by decide +kernel
theorem fT_7_19 : fldT 7 19 = some (7, 3) := by decide +kernel
theorem fT_7_22 : fldT 7 22 = some (7, 4) := by decide +kernel
theorem fT_7_25 : fldT 7 25 = some (7, 5) := by decide +kernel
theorem fT_7_28 : fldT 7 28 = some (7, 6) := by decide +kernel
theorem fT_7_31 : fldT 7 31 = some (7, 7) := by decide +kernel
theorem fT_7_34 : fldT 7 34 = some (7, 8) := by decide +kernel
theorem fT_7_37 : fldT 7 37 = some (7, 9) := by decide +kernel
theorem fT_7_40 : fldT 7 40 = some (7, 10) := by decide +kernel
theorem fT_7_43 : fldT 7 43 = some (7, 11) := by decide +kernel
theorem fT_7_46 : fldT 7 46 = some (7, 12) := by decide +kernel
theorem fT_7_49 : fldT 7 49 = some (7, 13) := by decide +kernel
theorem fT_7_52 : fldT 7 52 = some (7, 14) := by decide +kernel
theorem fT_7_56 : fldT 7 56 = some (7, 15) := by decide +kernel
theorem fT_7_59 : fldT 7 59 = some (7, 16) := by decide +kernel
theorem fT_7_62 : fldT 7 62 = some (7, 17) := by decide +kernel
theorem fT_7_191 : fldT 7 191 = some (7, 18) := by decide +kernel
theorem fT_7_65 : fldT 7 65 = some (7, 19) := by decide +kernel
theorem fT_7_68 : fldT 7 68 = some (7, 20) := by decide +kernel
theorem fT_7_71 : fldT 7 71 = some (7, 21) := by decide +kernel
theorem fT_7_74 : fldT 7 74 = some (7, 22) := by decide +kernel
theorem fT_7_77 : fldT 7 77 = some (7, 23) := by decide +kernel
theorem fT_7_80 : fldT 7 80 = some (7, 24) := by decide +kernel
theorem fT_7_83 : fldT 7 83 = some (7, 25) := by decide +kernel
theorem fT_7_86 : fldT 7 86 = some (7, 26) := by decide +kernel
theorem fT_7_89 : fldT 7 89 = some (7, 27) := by decide +kernel
theorem fT_7_92 : fldT 7 92 = some (7, 28) := by decide +kernel
theorem fT_7_95 : fldT 7 95 = some (7, 29) := by decide +kernel
theorem fT_7_98 : fldT 7 98 = some (7, 30) := by decide +kernel
theorem fT_7_101 : fldT 7 101 = some (7, 31) := by decide +kernel
theorem fT_7_104 : fldT 7 104 = some (7, 32) := by decide +kernel
theorem fT_7_107 : fldT 7 107 = some (7, 33) := by decide +kernel
theorem fT_7_110 : fldT 7 110 = some (7, 34) := by decide +kernel
theorem fT_7_114 : fldT 7 114 = some (7, 35) := by decide +kernel
theorem fT_7_219 : fldT 7 219 = some (7, 36) := by decide +kernel
theorem fT_7_222 : fldT 7 222 = some (7, 37) := by decide +kernel
theorem fT_7_206 : fldT 7 206 = some (7, 38) := by decide +kernel
theorem fT_7_212 : fldT 7 212 = some (7, 39) := by decide +kernel
theorem fT_7_117 : fldT 7 117 = some (7, 40) := by decide +kernel
theorem fT_7_120 : fldT 7 120 = some (7, 41) := by decide +kernel
theorem fT_7_124 : fldT 7 124 = some (7, 42) := by decide +kernel
theorem fT_7_127 : fldT 7 127 = some (7, 43) := by decide +kernel
theorem fT_7_130 : fldT 7 130 = some (7, 44) := by decide +kernel
theorem fT_7_134 : fldT 7 134 = some (7, 45) := by decide +kernel
theorem fT_7_137 : fldT 7 137 = some (7, 46) := by decide +kernel
theorem fT_7_140 : fldT 7 140 = some (7, 47) := by decide +kernel
theorem fT_7_143 : fldT 7 143 = some (7, 48) := by decide +kernel
theorem cT_8_9 : calT 8 9 = some (4, 74) := by decide +kernel
theorem cT_6_3 : calT 6 3 = some (6, 0) := by decide +kernel
theorem cT_6_11 : calT 6 11 = some (4, 0) := by decide +kernel
theorem cT_0_3 : calT 0 3 = some (6, 0) := by decide +kernel
theorem cT_0_20 : calT 0 20 = some (5, 19) := by decide +kernel
theorem cT_1_3 : calT 1 3 = some (6, 0) := by decide +kernel
theorem cT_1_33 : calT 1 33 = some (5, 61) := by decide +kernel
theorem cT_5_3 : calT 5 3 = some (6, 0) := by decide +kernel
theorem cT_0_27 : calT 0 27 = some (5, 61) := by decide +kernel
theorem cT_0_49 : calT 0 49 = some (0, 1) := by decide +kernel
theorem cT_6_21 : calT 6 21 = some (4, 48) := by decide +kernel
theorem cT_3_3 : calT 3 3 = some (6, 0) := by decide +kernel
theorem cT_3_19 : calT 3 19 = some (5, 55) := by decide +kernel
theorem cT_4_3 : calT 4 3 = some (6, 0) := by decide +kernel
theorem cT_3_32 : calT 3 32 = some (5, 35) := by decide +kernel
theorem cT_2_3 : calT 2 3 = some (6, 0) := by decide +kernel
theorem cT_6_32 : calT 6 32 = some (5, 61) := by decide +kernel
theorem cT_8_13 : calT 8 13 = some (0, 75) := by decide +kernel
theorem cT_6_55 : calT 6 55 = some (0, 110) := by decide +kernel
theorem cT_6_59 : calT 6 59 = some (0, 111) := by decide +kernel
theorem cT_6_66 : calT 6 66 = some (0, 1) := by decide +kernel
theorem cT_8_18 : calT 8 18 = some (0, 76) := by decide +kernel
theorem cT_6_70 : calT 6 70 = some (0, 5) := by decide +kernel
theorem cT_6_74 : calT 6 74 = some (2, 119) := by decide +kernel
theorem cT_6_248 : calT 6 248 = some (2, 118) := by decide +kernel
theorem cT_6_77 : calT 6 77 = some (0, 113) := by decide +kernel
theorem cT_6_233 : calT 6 233 = some (0, 7) := by decide +kernel
theorem cT_8_23 : calT 8 23 = some (0, 77) := by decide +kernel
theorem cT_6_81 : calT 6 81 = some (0, 4) := by decide +kernel
theorem cT_0_53 : calT 0 53 = some (0, 5) := by decide +kernel
theorem cT_6_87 : calT 6 87 = some (0, 6) := by decide +kernel
theorem cT_6_90 : calT 6 90 = some (2, 203) := by decide +kernel
theorem cT_6_95 : calT 6 95 = some (0, 8) := by decide +kernel
theorem cT_8_27 : calT 8 27 = some (0, 78) := by decide +kernel
theorem cT_6_98 : calT 6 98 = some (0, 9) := by decide +kernel
theorem cT_8_32 : calT 8 32 = some (0, 79) := by decide +kernel
theorem cT_6_101 : calT 6 101 = some (0, 3) := by decide +kernel
theorem cT_8_37 : calT 8 37 = some (0, 80) := by decide +kernel
theorem cT_8_41 : calT 8 41 = some (0, 81) := by decide +kernel
theorem cT_8_45 : calT 8 45 = some (0, 82) := by decide +kernel
theorem cT_6_113 : calT 6 113 = some (0, 10) := by decide +kernel
theorem cT_0_57 : calT 0 57 = some (0, 4) := by decide +kernel
theorem cT_0_60 : calT 0 60 = some (3, 118) := by decide +kernel
theorem cT_6_116 : calT 6 116 = some (0, 11) := by decide +kernel
theorem cT_8_50 : calT 8 50 = some (0, 83) := by decide +kernel
theorem cT_8_54 : calT 8 54 = some (0, 84) := by decide +kernel
theorem cT_6_132 : calT 6 132 = some (0, 49) := by decide +kernel
theorem cT_3_36 : calT 3 36 = some (0, 56) := by decide +kernel
theorem cT_3_43 : calT 3 43 = some (0, 20) := by decide +kernel
theorem cT_1_55 : calT 1 55 = some (0, 22) := by decide +kernel
theorem cT_3_54 : calT 3 54 = some (0, 36) := by decide +kernel
theorem cT_2_40 : calT 2 40 = some (0, 37) := by decide +kernel
theorem cT_2_44 : calT 2 44 = some (3, 120) := by decide +kernel
theorem cT_2_48 : calT 2 48 = some (0, 38) := by decide +kernel
theorem cT_3_58 : calT 3 58 = some (0, 50) := by decide +kernel
theorem cT_3_69 : calT 3 69 = some (0, 39) := by decide +kernel
theorem cT_2_52 : calT 2 52 = some (0, 40) := by decide +kernel
theorem cT_2_56 : calT 2 56 = some (0, 41) := by decide +kernel
theorem cT_2_60 : calT 2 60 = some (2, 203) := by decide +kernel
theorem cT_3_73 : calT 3 73 = some (0, 42) := by decide +kernel
theorem cT_2_65 : calT 2 65 = some (0, 43) := by decide +kernel
theorem cT_2_69 : calT 2 69 = some (3, 121) := by decide +kernel
theorem cT_3_77 : calT 3 77 = some (0, 44) := by decide +kernel
theorem cT_3_81 : calT 3 81 = some (0, 51) := by decide +kernel
theorem cT_3_97 : calT 3 97 = some (0, 57) := by decide +kernel
theorem cT_4_38 : calT 4 38 = some (2, 60) := by decide +kernel
theorem cT_4_42 : calT 4 42 = some (0, 59) := by decide +kernel
theorem cT_3_104 : calT 3 104 = some (0, 46) := by decide +kernel
theorem cT_2_72 : calT 2 72 = some (3, 119) := by decide +kernel
theorem cT_2_75 : calT 2 75 = some (0, 47) := by decide +kernel
theorem cT_3_108 : calT 3 108 = some (3, 119) := by decide +kernel
theorem cT_3_111 : calT 3 111 = some (0, 52) := by decide +kernel
theorem cT_3_115 : calT 3 115 = some (0, 22) := by decide +kernel
theorem cT_3_119 : calT 3 119 = some (0, 23) := by decide +kernel
theorem cT_1_59 : calT 1 59 = some (0, 21) := by decide +kernel
theorem cT_3_123 : calT 3 123 = some (0, 58) := by decide +kernel
theorem cT_3_84 : calT 3 84 = some (0, 45) := by decide +kernel
theorem cT_3_87 : calT 3 87 = some (0, 53) := by decide +kernel
theorem cT_3_133 : calT 3 133 = some (0, 54) := by decide +kernel
theorem cT_3_142 : calT 3 142 = some (2, 203) := by decide +kernel
theorem cT_8_58 : calT 8 58 = some (0, 85) := by decide +kernel
theorem cT_8_62 : calT 8 62 = some (0, 86) := by decide +kernel
theorem cT_6_139 : calT 6 139 = some (0, 21) := by decide +kernel
theorem cT_8_66 : calT 8 66 = some (0, 87) := by decide +kernel
theorem cT_6_154 : calT 6 154 = some (0, 24) := by decide +kernel
theorem cT_8_70 : calT 8 70 = some (0, 88) := by decide +kernel
theorem cT_6_158 : calT 6 158 = some (0, 25) := by decide +kernel
theorem cT_1_63 : calT 1 63 = some (0, 26) := by decide +kernel
theorem cT_1_67 : calT 1 67 = some (3, 119) := by decide +kernel
theorem cT_1_71 : calT 1 71 = some (3, 121) := by decide +kernel
theorem cT_1_74 : calT 1 74 = some (0, 205) := by decide +kernel
theorem cT_1_78 : calT 1 78 = some (0, 24) := by decide +kernel
theorem cT_8_75 : calT 8 75 = some (0, 89) := by decide +kernel
theorem cT_6_162 : calT 6 162 = some (0, 27) := by decide +kernel
theorem cT_1_81 : calT 1 81 = some (0, 28) := by decide +kernel
theorem cT_6_166 : calT 6 166 = some (0, 29) := by decide +kernel
theorem cT_6_169 : calT 6 169 = some (0, 16) := by decide +kernel
theorem cT_0_74 : calT 0 74 = some (0, 30) := by decide +kernel
theorem cT_1_84 : calT 1 84 = some (0, 62) := by decide +kernel
theorem cT_5_25 : calT 5 25 = some (8, 0) := by decide +kernel
theorem cT_5_31 : calT 5 31 = some (9, 0) := by decide +kernel
theorem cT_1_90 : calT 1 90 = some (0, 31) := by decide +kernel
theorem cT_1_98 : calT 1 98 = some (0, 32) := by decide +kernel
theorem cT_1_104 : calT 1 104 = some (3, 122) := by decide +kernel
theorem cT_6_251 : calT 6 251 = some (10, 0) := by decide +kernel
theorem cT_1_107 : calT 1 107 = some (0, 33) := by decide +kernel
theorem cT_1_111 : calT 1 111 = some (0, 34) := by decide +kernel
theorem cT_1_94 : calT 1 94 = some (0, 64) := by decide +kernel
theorem cT_0_85 : calT 0 85 = some (0, 62) := by decide +kernel
theorem cT_0_95 : calT 0 95 = some (0, 17) := by decide +kernel
theorem cT_0_108 : calT 0 108 = some (0, 6) := by decide +kernel
theorem cT_0_111 : calT 0 111 = some (0, 18) := by decide +kernel
theorem cT_0_115 : calT 0 115 = some (3, 121) := by decide +kernel
theorem cT_0_71 : calT 0 71 = some (3, 119) := by decide +kernel
theorem cT_0_118 : calT 0 118 = some (3, 122) := by decide +kernel
theorem cT_0_99 : calT 0 99 = some (0, 64) := by decide +kernel
theorem cT_0_103 : calT 0 103 = some (0, 71) := by decide +kernel
theorem cT_5_54 : calT 5 54 = some (0, 66) := by decide +kernel
theorem cT_8_79 : calT 8 79 = some (0, 90) := by decide +kernel
theorem cT_8_84 : calT 8 84 = some (0, 91) := by decide +kernel
theorem cT_6_172 : calT 6 172 = some (0, 15) := by decide +kernel
theorem cT_0_78 : calT 0 78 = some (0, 63) := by decide +kernel
theorem cT_5_34 : calT 5 34 = some (0, 62) := by decide +kernel
theorem cT_0_82 : calT 0 82 = some (0, 67) := by decide +kernel
theorem cT_5_38 : calT 5 38 = some (3, 122) := by decide +kernel
theorem cT_6_176 : calT 6 176 = some (0, 68) := by decide +kernel
theorem cT_5_42 : calT 5 42 = some (0, 69) := by decide +kernel
theorem cT_5_46 : calT 5 46 = some (2, 204) := by decide +kernel
theorem cT_8_88 : calT 8 88 = some (0, 92) := by decide +kernel
theorem cT_6_179 : calT 6 179 = some (0, 2) := by decide +kernel
theorem cT_6_182 : calT 6 182 = some (0, 66) := by decide +kernel
theorem cT_8_92 : calT 8 92 = some (0, 93) := by decide +kernel
theorem cT_6_185 : calT 6 185 = some (0, 112) := by decide +kernel
theorem cT_6_189 : calT 6 189 = some (0, 13) := by decide +kernel
theorem cT_0_67 : calT 0 67 = some (0, 2) := by decide +kernel
theorem cT_0_64 : calT 0 64 = some (0, 10) := by decide +kernel
theorem cT_6_193 : calT 6 193 = some (0, 115) := by decide +kernel
theorem cT_8_97 : calT 8 97 = some (0, 94) := by decide +kernel
theorem cT_6_197 : calT 6 197 = some (0, 67) := by decide +kernel
theorem cT_6_200 : calT 6 200 = some (2, 117) := by decide +kernel
theorem cT_8_102 : calT 8 102 = some (0, 95) := by decide +kernel
theorem cT_8_106 : calT 8 106 = some (0, 96) := by decide +kernel
theorem cT_6_204 : calT 6 204 = some (0, 72) := by decide +kernel
theorem cT_5_58 : calT 5 58 = some (0, 73) := by decide +kernel
theorem cT_8_110 : calT 8 110 = some (0, 97) := by decide +kernel
theorem cT_6_207 : calT 6 207 = some (0, 69) := by decide +kernel
theorem cT_8_114 : calT 8 114 = some (0, 98) := by decide +kernel
theorem cT_6_210 : calT 6 210 = some (0, 71) := by decide +kernel
theorem cT_8_118 : calT 8 118 = some (0, 99) := by decide +kernel
theorem cT_6_213 : calT 6 213 = some (0, 116) := by decide +kernel
theorem cT_8_123 : calT 8 123 = some (0, 100) := by decide +kernel
theorem cT_6_217 : calT 6 217 = some (0, 12) := by decide +kernel
theorem cT_8_128 : calT 8 128 = some (0, 101) := by decide +kernel
theorem cT_6_220 : calT 6 220 = some (0, 14) := by decide +kernel
theorem cT_6_223 : calT 6 223 = some (0, 62) := by decide +kernel
theorem cT_6_226 : calT 6 226 = some (0, 65) := by decide +kernel
theorem cT_8_132 : calT 8 132 = some (0, 102) := by decide +kernel
theorem cT_6_229 : calT 6 229 = some (0, 70) := by decide +kernel
theorem cT_8_137 : calT 8 137 = some (0, 103) := by decide +kernel
theorem cT_8_141 : calT 8 141 = some (0, 104) := by decide +kernel
theorem cT_6_236 : calT 6 236 = some (0, 114) := by decide +kernel
theorem cT_8_145 : calT 8 145 = some (0, 105) := by decide +kernel
theorem cT_8_149 : calT 8 149 = some (0, 106) := by decide +kernel
theorem cT_8_153 : calT 8 153 = some (0, 107) := by decide +kernel
theorem cT_6_239 : calT 6 239 = some (7, 0) := by decide +kernel
theorem cT_8_157 : calT 8 157 = some (0, 108) := by decide +kernel
theorem cT_8_161 : calT 8 161 = some (0, 109) := by decide +kernel
theorem cT_8_12 : calT 8 12 = some (4, 123) := by decide +kernel
theorem cT_7_1 : calT 7 1 = some (6, 0) := by decide +kernel
theorem cT_8_17 : calT 8 17 = some (0, 132) := by decide +kernel
theorem cT_7_150 : calT 7 150 = some (2, 126) := by decide +kernel
theorem cT_7_154 : calT 7 154 = some (0, 125) := by decide +kernel
theorem cT_7_146 : calT 7 146 = some (2, 124) := by decide +kernel
theorem cT_8_22 : calT 8 22 = some (0, 135) := by decide +kernel
theorem cT_7_167 : calT 7 167 = some (0, 134) := by decide +kernel
theorem cT_7_163 : calT 7 163 = some (0, 127) := by decide +kernel
theorem cT_7_170 : calT 7 170 = some (2, 128) := by decide +kernel
theorem cT_7_173 : calT 7 173 = some (0, 133) := by decide +kernel
theorem cT_7_160 : calT 7 160 = some (2, 130) := by decide +kernel
theorem cT_8_26 : calT 8 26 = some (0, 136) := by decide +kernel
theorem cT_7_177 : calT 7 177 = some (2, 129) := by decide +kernel
theorem cT_8_31 : calT 8 31 = some (0, 137) := by decide +kernel
theorem cT_8_36 : calT 8 36 = some (0, 139) := by decide +kernel
theorem cT_7_180 : calT 7 180 = some (0, 138) := by decide +kernel
theorem cT_8_40 : calT 8 40 = some (0, 140) := by decide +kernel
theorem cT_7_183 : calT 7 183 = some (2, 131) := by decide +kernel
theorem cT_8_44 : calT 8 44 = some (0, 141) := by decide +kernel
theorem cT_8_49 : calT 8 49 = some (0, 143) := by decide +kernel
theorem cT_7_188 : calT 7 188 = some (2, 142) := by decide +kernel
theorem cT_8_53 : calT 8 53 = some (0, 144) := by decide +kernel
theorem cT_8_57 : calT 8 57 = some (0, 163) := by decide +kernel
theorem cT_7_228 : calT 7 228 = some (0, 145) := by decide +kernel
theorem cT_7_196 : calT 7 196 = some (0, 147) := by decide +kernel
theorem cT_7_225 : calT 7 225 = some (0, 152) := by decide +kernel
theorem cT_7_209 : calT 7 209 = some (0, 150) := by decide +kernel
theorem cT_7_200 : calT 7 200 = some (0, 149) := by decide +kernel
theorem cT_7_203 : calT 7 203 = some (0, 148) := by decide +kernel
theorem cT_7_215 : calT 7 215 = some (0, 151) := by decide +kernel
theorem cT_7_263 : calT 7 263 = some (0, 162) := by decide +kernel
theorem cT_7_254 : calT 7 254 = some (0, 158) := by decide +kernel
theorem cT_7_232 : calT 7 232 = some (0, 157) := by decide +kernel
theorem cT_7_235 : calT 7 235 = some (0, 146) := by decide +kernel
theorem cT_7_257 : calT 7 257 = some (0, 160) := by decide +kernel
theorem cT_7_239 : calT 7 239 = some (0, 153) := by decide +kernel
theorem cT_7_242 : calT 7 242 = some (0, 159) := by decide +kernel
theorem cT_7_245 : calT 7 245 = some (0, 155) := by decide +kernel
theorem cT_7_248 : calT 7 248 = some (0, 156) := by decide +kernel
theorem cT_7_260 : calT 7 260 = some (0, 161) := by decide +kernel
theorem cT_7_251 : calT 7 251 = some (0, 154) := by decide +kernel
theorem cT_8_61 : calT 8 61 = some (0, 164) := by decide +kernel
theorem cT_8_65 : calT 8 65 = some (0, 167) := by decide +kernel
theorem cT_7_266 : calT 7 266 = some (0, 165) := by decide +kernel
theorem cT_7_269 : calT 7 269 = some (0, 166) := by decide +kernel
theorem cT_8_69 : calT 8 69 = some (0, 169) := by decide +kernel
theorem cT_7_272 : calT 7 272 = some (0, 168) := by decide +kernel
theorem cT_8_74 : calT 8 74 = some (0, 170) := by decide +kernel
theorem cT_8_78 : calT 8 78 = some (0, 177) := by decide +kernel
theorem cT_7_282 : calT 7 282 = some (0, 173) := by decide +kernel
theorem cT_7_279 : calT 7 279 = some (0, 172) := by decide +kernel
theorem cT_7_275 : calT 7 275 = some (0, 171) := by decide +kernel
theorem cT_7_285 : calT 7 285 = some (0, 175) := by decide +kernel
theorem cT_7_288 : calT 7 288 = some (0, 176) := by decide +kernel
theorem cT_7_291 : calT 7 291 = some (0, 174) := by decide +kernel
theorem cT_8_83 : calT 8 83 = some (0, 178) := by decide +kernel
theorem cT_8_87 : calT 8 87 = some (0, 182) := by decide +kernel
theorem cT_7_297 : calT 7 297 = some (0, 180) := by decide +kernel
theorem cT_7_300 : calT 7 300 = some (0, 181) := by decide +kernel
theorem cT_7_294 : calT 7 294 = some (0, 179) := by decide +kernel
theorem cT_8_91 : calT 8 91 = some (0, 183) := by decide +kernel
theorem cT_8_96 : calT 8 96 = some (0, 186) := by decide +kernel
theorem cT_7_307 : calT 7 307 = some (0, 185) := by decide +kernel
theorem cT_7_303 : calT 7 303 = some (0, 184) := by decide +kernel
theorem cT_8_101 : calT 8 101 = some (0, 187) := by decide +kernel
theorem cT_8_105 : calT 8 105 = some (0, 188) := by decide +kernel
theorem cT_8_109 : calT 8 109 = some (0, 189) := by decide +kernel
theorem cT_8_113 : calT 8 113 = some (0, 190) := by decide +kernel
theorem cT_8_117 : calT 8 117 = some (0, 191) := by decide +kernel
theorem cT_8_122 : calT 8 122 = some (0, 192) := by decide +kernel
theorem cT_8_127 : calT 8 127 = some (0, 193) := by decide +kernel
theorem cT_8_131 : calT 8 131 = some (0, 194) := by decide +kernel
theorem cT_8_136 : calT 8 136 = some (0, 195) := by decide +kernel
theorem cT_8_140 : calT 8 140 = some (0, 196) := by decide +kernel
theorem cT_8_144 : calT 8 144 = some (0, 197) := by decide +kernel
theorem cT_8_148 : calT 8 148 = some (0, 198) := by decide +kernel
theorem cT_8_152 : calT 8 152 = some (0, 199) := by decide +kernel
theorem cT_8_156 : calT 8 156 = some (0, 200) := by decide +kernel
theorem cT_8_160 : calT 8 160 = some (0, 201) := by decide +kernel
theorem cT_8_164 : calT 8 164 = some (0, 202) := by decide +kernel
def S0L : List (Nat × Nat) := [(0, 6), (0, 0), (1, 40), (1, 24), (0, 1), (1, 1500), (1, 1500), (1, 1500), (1, 1500), (1, 18000), (2, 1500), (0, 5), (2, 64), (0, 5), (2, 64), (0, 0), (1, 40), (1, 24), (0, 1), (1, 1500), (1, 1500), (1, 1500), (1, 1500), (1, 18000), (2, 1500), (0, 5), (2, 64), (0, 5), (2, 64), (0, 3), (4, 13), (0, 4), (1, 34776), (1, 2047), (1, 2047), (1, 2047), (1, 2047), (1, 256), (1, 24), (0, 2), (1, 40), (1, 40), (1, 40), (1, 12), (1, 12), (0, 2), (1, 40), (1, 40), (1, 40), (1, 12), (1, 12), (0, 2), (1, 40), (1, 40), (1, 40), (1, 12), (1, 12), (0, 2), (1, 40), (1, 40), (1, 40), (1, 12), (1, 12), (0, 2), (1, 40), (1, 40), (1, 40), (1, 12), (1, 12), (0, 2), (1, 40), (1, 40), (1, 40), (1, 12), (1, 12), (0, 2), (1, 40), (1, 40), (1, 40), (1, 12), (1, 12), (0, 2), (1, 40), (1, 40), (1, 40), (1, 12), (1, 12), (0, 2), (1, 40), (1, 40), (1, 40), (1, 12), (1, 12), (0, 2), (1, 40), (1, 40), (1, 40), (1, 12), (1, 12), (0, 2), (1, 40), (1, 40), (1, 40), (1, 12), (1, 12), (0, 2), (1, 40), (1, 40), (1, 40), (1, 12), (1, 12), (0, 2), (1, 40), (1, 40), (1, 40), (1, 12), (1, 12), (2, 4096), (0, 5), (2, 64), (1, 5), (1, 10), (0, 7), (1, 2), (1, 80), (1, 2), (1, 2), (1, 2), (1, 2), (1, 48), (1, 10), (1, 2), (1, 2), (1, 2), (1, 3000), (1, 3000), (1, 3000), (1, 3000), (1, 80000), (1, 2), (1, 24), (1, 560), (1, 14), (1, 168), (1, 14), (1, 560), (1, 14), (1, 14), (1, 168), (1, 560), (1, 14), (1, 14), (1, 14), (1, 14), (1, 4200), (1, 4200), (1, 4200), (1, 168000), (1, 1500), (3, 8192), (3, 1500), (3, 2), (3, 4096), (1, 5), (1, 5)]
def R0L : List (List (Option Nat)) := [[some 1, some 15, some 29, some 117, some 118, some 120, some 121], [some 2, some 3, some 4, some 13], [], [], [some 5, some 6, some 7, some 8, some 9, some 10, some 11], [], [], [], [], [], [], [some 12], [], [some 14], [], [some 16, some 17, some 18, some 27], [], [], [some 19, some 20, some 21, some 22, some 23, some 24, some 25], [], [], [], [], [], [], [some 26], [], [some 28], [], [some 30, some 31, some 38], [some 39, some 45, some 51, some 57, some 63, some 69, some 75, some 81, some 87, some 93, some 99, some 105, some 111], [some 32, some 33, some 34, some 35, some 36, some 37], [], [], [], [], [], [], [], [some 40, some 41, some 42, some 43, some 44], [], [], [], [], [], [some 46, some 47, some 48, some 49, some 50], [], [], [], [], [], [some 52, some 53, some 54, some 55, some 56], [], [], [], [], [], [some 58, some 59, some 60, some 61, some 62], [], [], [], [], [], [some 64, some 65, some 66, some 67, some 68], [], [], [], [], [], [some 70, some 71, some 72, some 73, some 74], [], [], [], [], [], [some 76, some 77, some 78, some 79, some 80], [], [], [], [], [], [some 82, some 83, some 84, some 85, some 86], [], [], [], [], [], [some 88, some 89, some 90, some 91, some 92], [], [], [], [], [], [some 94, some 95, some 96, some 97, some 98], [], [], [], [], [], [some 100, some 101, some 102, some 103, some 104], [], [], [], [], [], [some 106, some 107, some 108, some 109, some 110], [], [], [], [], [], [some 112, some 113, some 114, some 115, some 116], [], [], [], [], [], [], [some 119], [], [], [], [some 123, some 124, some 125, some 126, some 127, some 128, some 129, some 130, some 131, some 132, some 133, some 134, some 135, some 136, some 137, some 138, some 139, some 140, none, some 141, some 142, some 143, some 144, some 145, some 146, some 147, some 148, some 149, some 150, some 151, some 152, some 153, some 154, some 155, some 156, some 157, none, none, none, none, some 158, some 159, some 160, some 161, none, some 162, some 163, some 164], [], [], [], [], [], [], [], [], [], [], [], [], [], [], [], [], [], [], [], [], [], [], [], [], [], [], [], [], [], [], [], [], [], [], [], [], [], [], [], [], [], []]
def S0 (Ln : Nat) (c : Nat) : Nat × Nat := if c = scrC then (5, Ln) else if c = patC then (6, 6) else S0L.getD c (9, 0)
def R0 (c k : Nat) : Option Nat := (R0L.getD c []).getD k none
def G0 (Ln : Nat) : GT := (165, 391146, S0 Ln, R0)
theorem sh_0 (Ln : Nat) : shp (G0 Ln) 0 = (0, 6) := rfl
theorem sh_1 (Ln : Nat) : shp (G0 Ln) 1 = (0, 0) := rfl
theorem sh_2 (Ln : Nat) : shp (G0 Ln) 2 = (1, 40) := rfl
theorem sh_3 (Ln : Nat) : shp (G0 Ln) 3 = (1, 24) := rfl
theorem sh_4 (Ln : Nat) : shp (G0 Ln) 4 = (0, 1) := rfl
theorem sh_5 (Ln : Nat) : shp (G0 Ln) 5 = (1, 1500) := rfl
theorem sh_6 (Ln : Nat) : shp (G0 Ln) 6 = (1, 1500) := rfl
theorem sh_7 (Ln : Nat) : shp (G0 Ln) 7 = (1, 1500) := rfl
theorem sh_8 (Ln : Nat) : shp (G0 Ln) 8 = (1, 1500) := rfl
theorem sh_9 (Ln : Nat) : shp (G0 Ln) 9 = (1, 18000) := rfl
theorem sh_10 (Ln : Nat) : shp (G0 Ln) 10 = (2, 1500) := rfl
theorem sh_11 (Ln : Nat) : shp (G0 Ln) 11 = (0, 5) := rfl
theorem sh_12 (Ln : Nat) : shp (G0 Ln) 12 = (2, 64) := rfl
theorem sh_13 (Ln : Nat) : shp (G0 Ln) 13 = (0, 5) := rfl
theorem sh_14 (Ln : Nat) : shp (G0 Ln) 14 = (2, 64) := rfl
theorem sh_15 (Ln : Nat) : shp (G0 Ln) 15 = (0, 0) := rfl
theorem sh_16 (Ln : Nat) : shp (G0 Ln) 16 = (1, 40) := rfl
theorem sh_17 (Ln : Nat) : shp (G0 Ln) 17 = (1, 24) := rfl
theorem sh_18 (Ln : Nat) : shp (G0 Ln) 18 = (0, 1) := rfl
theorem sh_19 (Ln : Nat) : shp (G0 Ln) 19 = (1, 1500) := rfl
theorem sh_20 (Ln : Nat) : shp (G0 Ln) 20 = (1, 1500) := rfl
theorem sh_21 (Ln : Nat) : shp (G0 Ln) 21 = (1, 1500) := rfl
theorem sh_22 (Ln : Nat) : shp (G0 Ln) 22 = (1, 1500) := rfl
theorem sh_23 (Ln : Nat) : shp (G0 Ln) 23 = (1, 18000) := rfl
theorem sh_24 (Ln : Nat) : shp (G0 Ln) 24 = (2, 1500) := rfl
theorem sh_25 (Ln : Nat) : shp (G0 Ln) 25 = (0, 5) := rfl
theorem sh_26 (Ln : Nat) : shp (G0 Ln) 26 = (2, 64) := rfl
theorem sh_27 (Ln : Nat) : shp (G0 Ln) 27 = (0, 5) := rfl
theorem sh_28 (Ln : Nat) : shp (G0 Ln) 28 = (2, 64) := rfl
theorem sh_29 (Ln : Nat) : shp (G0 Ln) 29 = (0, 3) := rfl
theorem sh_30 (Ln : Nat) : shp (G0 Ln) 30 = (4, 13) := rfl
theorem sh_31 (Ln : Nat) : shp (G0 Ln) 31 = (0, 4) := rfl
theorem sh_32 (Ln : Nat) : shp (G0 Ln) 32 = (1, 34776) := rfl
theorem sh_33 (Ln : Nat) : shp (G0 Ln) 33 = (1, 2047) := rfl
theorem sh_34 (Ln : Nat) : shp (G0 Ln) 34 = (1, 2047) := rfl
theorem sh_35 (Ln : Nat) : shp (G0 Ln) 35 = (1, 2047) := rfl
theorem sh_36 (Ln : Nat) : shp (G0 Ln) 36 = (1, 2047) := rfl
theorem sh_37 (Ln : Nat) : shp (G0 Ln) 37 = (1, 256) := rfl
theorem sh_38 (Ln : Nat) : shp (G0 Ln) 38 = (1, 24) := rfl
theorem sh_39 (Ln : Nat) : shp (G0 Ln) 39 = (0, 2) := rfl
theorem sh_40 (Ln : Nat) : shp (G0 Ln) 40 = (1, 40) := rfl
theorem sh_41 (Ln : Nat) : shp (G0 Ln) 41 = (1, 40) := rfl
theorem sh_42 (Ln : Nat) : shp (G0 Ln) 42 = (1, 40) := rfl
theorem sh_43 (Ln : Nat) : shp (G0 Ln) 43 = (1, 12) := rfl
theorem sh_44 (Ln : Nat) : shp (G0 Ln) 44 = (1, 12) := rfl
theorem sh_45 (Ln : Nat) : shp (G0 Ln) 45 = (0, 2) := rfl
theorem sh_46 (Ln : Nat) : shp (G0 Ln) 46 = (1, 40) := rfl
theorem sh_47 (Ln : Nat) : shp (G0 Ln) 47 = (1, 40) := rfl
theorem sh_48 (Ln : Nat) : shp (G0 Ln) 48 = (1, 40) := rfl
theorem sh_49 (Ln : Nat) : shp (G0 Ln) 49 = (1, 12) := rfl
theorem sh_50 (Ln : Nat) : shp (G0 Ln) 50 = (1, 12) := rfl
theorem sh_51 (Ln : Nat) : shp (G0 Ln) 51 = (0, 2) := rfl
theorem sh_52 (Ln : Nat) : shp (G0 Ln) 52 = (1, 40) := rfl
theorem sh_53 (Ln : Nat) : shp (G0 Ln) 53 = (1, 40) := rfl
theorem sh_54 (Ln : Nat) : shp (G0 Ln) 54 = (1, 40) := rfl
theorem sh_55 (Ln : Nat) : shp (G0 Ln) 55 = (1, 12) := rfl
theorem sh_56 (Ln : Nat) : shp (G0 Ln) 56 = (1, 12) := rfl
theorem sh_57 (Ln : Nat) : shp (G0 Ln) 57 = (0, 2) := rfl
theorem sh_58 (Ln : Nat) : shp (G0 Ln) 58 = (1, 40) := rfl
theorem sh_59 (Ln : Nat) : shp (G0 Ln) 59 = (1, 40) := rfl
theorem sh_60 (Ln : Nat) : shp (G0 Ln) 60 = (1, 40) := rfl
theorem sh_61 (Ln : Nat) : shp (G0 Ln) 61 = (1, 12) := rfl
theorem sh_62 (Ln : Nat) : shp (G0 Ln) 62 = (1, 12) := rfl
theorem sh_63 (Ln : Nat) : shp (G0 Ln) 63 = (0, 2) := rfl
theorem sh_64 (Ln : Nat) : shp (G0 Ln) 64 = (1, 40) := rfl
theorem sh_65 (Ln : Nat) : shp (G0 Ln) 65 = (1, 40) := rfl
theorem sh_66 (Ln : Nat) : shp (G0 Ln) 66 = (1, 40) := rfl
theorem sh_67 (Ln : Nat) : shp (G0 Ln) 67 = (1, 12) := rfl
theorem sh_68 (Ln : Nat) : shp (G0 Ln) 68 = (1, 12) := rfl
theorem sh_69 (Ln : Nat) : shp (G0 Ln) 69 = (0, 2) := rfl
theorem sh_70 (Ln : Nat) : shp (G0 Ln) 70 = (1, 40) := rfl
theorem sh_71 (Ln : Nat) : shp (G0 Ln) 71 = (1, 40) := rfl
theorem sh_72 (Ln : Nat) : shp (G0 Ln) 72 = (1, 40) := rfl
theorem sh_73 (Ln : Nat) : shp (G0 Ln) 73 = (1, 12) := rfl
theorem sh_74 (Ln : Nat) : shp (G0 Ln) 74 = (1, 12) := rfl
theorem sh_75 (Ln : Nat) : shp (G0 Ln) 75 = (0, 2) := rfl
theorem sh_76 (Ln : Nat) : shp (G0 Ln) 76 = (1, 40) := rfl
theorem sh_77 (Ln : Nat) : shp (G0 Ln) 77 = (1, 40) := rfl
theorem sh_78 (Ln : Nat) : shp (G0 Ln) 78 = (1, 40) := rfl
theorem sh_79 (Ln : Nat) : shp (G0 Ln) 79 = (1, 12) := rfl
theorem sh_80 (Ln : Nat) : shp (G0 Ln) 80 = (1, 12) := rfl
theorem sh_81 (Ln : Nat) : shp (G0 Ln) 81 = (0, 2) := rfl
theorem sh_82 (Ln : Nat) : shp (G0 Ln) 82 = (1, 40) := rfl
theorem sh_83 (Ln : Nat) : shp (G0 Ln) 83 = (1, 40) := rfl
theorem sh_84 (Ln : Nat) : shp (G0 Ln) 84 = (1, 40) := rfl
theorem sh_85 (Ln : Nat) : shp (G0 Ln) 85 = (1, 12) := rfl
theorem sh_86 (Ln : Nat) : shp (G0 Ln) 86 = (1, 12) := rfl
theorem sh_87 (Ln : Nat) : shp (G0 Ln) 87 = (0, 2) := rfl
theorem sh_88 (Ln : Nat) : shp (G0 Ln) 88 = (1, 40) := rfl
theorem sh_89 (Ln : Nat) : shp (G0 Ln) 89 = (1, 40) := rfl
theorem sh_90 (Ln : Nat) : shp (G0 Ln) 90 = (1, 40) := rfl
theorem sh_91 (Ln : Nat) : shp (G0 Ln) 91 = (1, 12) := rfl
theorem sh_92 (Ln : Nat) : shp (G0 Ln) 92 = (1, 12) := rfl
theorem sh_93 (Ln : Nat) : shp (G0 Ln) 93 = (0, 2) := rfl
theorem sh_94 (Ln : Nat) : shp (G0 Ln) 94 = (1, 40) := rfl
theorem sh_95 (Ln : Nat) : shp (G0 Ln) 95 = (1, 40) := rfl
theorem sh_96 (Ln : Nat) : shp (G0 Ln) 96 = (1, 40) := rfl
theorem sh_97 (Ln : Nat) : shp (G0 Ln) 97 = (1, 12) := rfl
theorem sh_98 (Ln : Nat) : shp (G0 Ln) 98 = (1, 12) := rfl
theorem sh_99 (Ln : Nat) : shp (G0 Ln) 99 = (0, 2) := rfl
theorem sh_100 (Ln : Nat) : shp (G0 Ln) 100 = (1, 40) := rfl
theorem sh_101 (Ln : Nat) : shp (G0 Ln) 101 = (1, 40) := rfl
theorem sh_102 (Ln : Nat) : shp (G0 Ln) 102 = (1, 40) := rfl
theorem sh_103 (Ln : Nat) : shp (G0 Ln) 103 = (1, 12) := rfl
theorem sh_104 (Ln : Nat) : shp (G0 Ln) 104 = (1, 12) := rfl
theorem sh_105 (Ln : Nat) : shp (G0 Ln) 105 = (0, 2) := rfl
theorem sh_106 (Ln : Nat) : shp (G0 Ln) 106 = (1, 40) := rfl
theorem sh_107 (Ln : Nat) : shp (G0 Ln) 107 = (1, 40) := rfl
theorem sh_108 (Ln : Nat) : shp (G0 Ln) 108 = (1, 40) := rfl
theorem sh_109 (Ln : Nat) : shp (G0 Ln) 109 = (1, 12) := rfl
theorem sh_110 (Ln : Nat) : shp (G0 Ln) 110 = (1, 12) := rfl
theorem sh_111 (Ln : Nat) : shp (G0 Ln) 111 = (0, 2) := rfl
theorem sh_112 (Ln : Nat) : shp (G0 Ln) 112 = (1, 40) := rfl
theorem sh_113 (Ln : Nat) : shp (G0 Ln) 113 = (1, 40) := rfl
theorem sh_114 (Ln : Nat) : shp (G0 Ln) 114 = (1, 40) := rfl
theorem sh_115 (Ln : Nat) : shp (G0 Ln) 115 = (1, 12) := rfl
theorem sh_116 (Ln : Nat) : shp (G0 Ln) 116 = (1, 12) := rfl
theorem sh_117 (Ln : Nat) : shp (G0 Ln) 117 = (2, 4096) := rfl
theorem sh_118 (Ln : Nat) : shp (G0 Ln) 118 = (0, 5) := rfl
theorem sh_119 (Ln : Nat) : shp (G0 Ln) 119 = (2, 64) := rfl
theorem sh_120 (Ln : Nat) : shp (G0 Ln) 120 = (1, 5) := rfl
theorem sh_121 (Ln : Nat) : shp (G0 Ln) 121 = (1, 10) := rfl
theorem sh_122 (Ln : Nat) : shp (G0 Ln) 122 = (0, 7) := rfl
theorem sh_123 (Ln : Nat) : shp (G0 Ln) 123 = (1, 2) := rfl
theorem sh_124 (Ln : Nat) : shp (G0 Ln) 124 = (1, 80) := rfl
theorem sh_125 (Ln : Nat) : shp (G0 Ln) 125 = (1, 2) := rfl
theorem sh_126 (Ln : Nat) : shp (G0 Ln) 126 = (1, 2) := rfl
theorem sh_127 (Ln : Nat) : shp (G0 Ln) 127 = (1, 2) := rfl
theorem sh_128 (Ln : Nat) : shp (G0 Ln) 128 = (1, 2) := rfl
theorem sh_129 (Ln : Nat) : shp (G0 Ln) 129 = (1, 48) := rfl
theorem sh_130 (Ln : Nat) : shp (G0 Ln) 130 = (1, 10) := rfl
theorem sh_131 (Ln : Nat) : shp (G0 Ln) 131 = (1, 2) := rfl
theorem sh_132 (Ln : Nat) : shp (G0 Ln) 132 = (1, 2) := rfl
theorem sh_133 (Ln : Nat) : shp (G0 Ln) 133 = (1, 2) := rfl
theorem sh_134 (Ln : Nat) : shp (G0 Ln) 134 = (1, 3000) := rfl
theorem sh_135 (Ln : Nat) : shp (G0 Ln) 135 = (1, 3000) := rfl
theorem sh_136 (Ln : Nat) : shp (G0 Ln) 136 = (1, 3000) := rfl
theorem sh_137 (Ln : Nat) : shp (G0 Ln) 137 = (1, 3000) := rfl
theorem sh_138 (Ln : Nat) : shp (G0 Ln) 138 = (1, 80000) := rfl
theorem sh_139 (Ln : Nat) : shp (G0 Ln) 139 = (1, 2) := rfl
theorem sh_140 (Ln : Nat) : shp (G0 Ln) 140 = (1, 24) := rfl
theorem sh_141 (Ln : Nat) : shp (G0 Ln) 141 = (1, 560) := rfl
theorem sh_142 (Ln : Nat) : shp (G0 Ln) 142 = (1, 14) := rfl
theorem sh_143 (Ln : Nat) : shp (G0 Ln) 143 = (1, 168) := rfl
theorem sh_144 (Ln : Nat) : shp (G0 Ln) 144 = (1, 14) := rfl
theorem sh_145 (Ln : Nat) : shp (G0 Ln) 145 = (1, 560) := rfl
theorem sh_146 (Ln : Nat) : shp (G0 Ln) 146 = (1, 14) := rfl
theorem sh_147 (Ln : Nat) : shp (G0 Ln) 147 = (1, 14) := rfl
theorem sh_148 (Ln : Nat) : shp (G0 Ln) 148 = (1, 168) := rfl
theorem sh_149 (Ln : Nat) : shp (G0 Ln) 149 = (1, 560) := rfl
theorem sh_150 (Ln : Nat) : shp (G0 Ln) 150 = (1, 14) := rfl
theorem sh_151 (Ln : Nat) : shp (G0 Ln) 151 = (1, 14) := rfl
theorem sh_152 (Ln : Nat) : shp (G0 Ln) 152 = (1, 14) := rfl
theorem sh_153 (Ln : Nat) : shp (G0 Ln) 153 = (1, 14) := rfl
theorem sh_154 (Ln : Nat) : shp (G0 Ln) 154 = (1, 4200) := rfl
theorem sh_155 (Ln : Nat) : shp (G0 Ln) 155 = (1, 4200) := rfl
theorem sh_156 (Ln : Nat) : shp (G0 Ln) 156 = (1, 4200) := rfl
theorem sh_157 (Ln : Nat) : shp (G0 Ln) 157 = (1, 168000) := rfl
theorem sh_158 (Ln : Nat) : shp (G0 Ln) 158 = (1, 1500) := rfl
theorem sh_159 (Ln : Nat) : shp (G0 Ln) 159 = (3, 8192) := rfl
theorem sh_160 (Ln : Nat) : shp (G0 Ln) 160 = (3, 1500) := rfl
theorem sh_161 (Ln : Nat) : shp (G0 Ln) 161 = (3, 2) := rfl
theorem sh_162 (Ln : Nat) : shp (G0 Ln) 162 = (3, 4096) := rfl
theorem sh_163 (Ln : Nat) : shp (G0 Ln) 163 = (1, 5) := rfl
theorem sh_164 (Ln : Nat) : shp (G0 Ln) 164 = (1, 5) := rfl
theorem sh_scr (Ln : Nat) : shp (G0 Ln) scrC = (5, Ln) := rfl
theorem sh_pat (Ln : Nat) : shp (G0 Ln) patC = (6, 6) := rfl
theorem rf_0_0 (Ln : Nat) : (G0 Ln).2.2.2 0 0 = some 1 := rfl
theorem rf_0_1 (Ln : Nat) : (G0 Ln).2.2.2 0 1 = some 15 := rfl
theorem rf_0_2 (Ln : Nat) : (G0 Ln).2.2.2 0 2 = some 29 := rfl
theorem rf_0_3 (Ln : Nat) : (G0 Ln).2.2.2 0 3 = some 117 := rfl
theorem rf_0_4 (Ln : Nat) : (G0 Ln).2.2.2 0 4 = some 118 := rfl
theorem rf_0_5 (Ln : Nat) : (G0 Ln).2.2.2 0 5 = some 120 := rfl
theorem rf_0_6 (Ln : Nat) : (G0 Ln).2.2.2 0 6 = some 121 := rfl
theorem rf_1_0 (Ln : Nat) : (G0 Ln).2.2.2 1 0 = some 2 := rfl
theorem rf_1_1 (Ln : Nat) : (G0 Ln).2.2.2 1 1 = some 3 := rfl
theorem rf_1_2 (Ln : Nat) : (G0 Ln).2.2.2 1 2 = some 4 := rfl
theorem rf_1_3 (Ln : Nat) : (G0 Ln).2.2.2 1 3 = some 13 := rfl
theorem rf_4_0 (Ln : Nat) : (G0 Ln).2.2.2 4 0 = some 5 := rfl
theorem rf_4_1 (Ln : Nat) : (G0 Ln).2.2.2 4 1 = some 6 := rfl
theorem rf_4_2 (Ln : Nat) : (G0 Ln).2.2.2 4 2 = some 7 := rfl
theorem rf_4_3 (Ln : Nat) : (G0 Ln).2.2.2 4 3 = some 8 := rfl
theorem rf_4_4 (Ln : Nat) : (G0 Ln).2.2.2 4 4 = some 9 := rfl
theorem rf_4_5 (Ln : Nat) : (G0 Ln).2.2.2 4 5 = some 10 := rfl
theorem rf_4_6 (Ln : Nat) : (G0 Ln).2.2.2 4 6 = some 11 := rfl
theorem rf_11_0 (Ln : Nat) : (G0 Ln).2.2.2 11 0 = some 12 := rfl
theorem rf_13_0 (Ln : Nat) : (G0 Ln).2.2.2 13 0 = some 14 := rfl
theorem rf_15_0 (Ln : Nat) : (G0 Ln).2.2.2 15 0 = some 16 := rfl
theorem rf_15_1 (Ln : Nat) : (G0 Ln).2.2.2 15 1 = some 17 := rfl
theorem rf_15_2 (Ln : Nat) : (G0 Ln).2.2.2 15 2 = some 18 := rfl
theorem rf_15_3 (Ln : Nat) : (G0 Ln).2.2.2 15 3 = some 27 := rfl
theorem rf_18_0 (Ln : Nat) : (G0 Ln).2.2.2 18 0 = some 19 := rfl
theorem rf_18_1 (Ln : Nat) : (G0 Ln).2.2.2 18 1 = some 20 := rfl
theorem rf_18_2 (Ln : Nat) : (G0 Ln).2.2.2 18 2 = some 21 := rfl
theorem rf_18_3 (Ln : Nat) : (G0 Ln).2.2.2 18 3 = some 22 := rfl
theorem rf_18_4 (Ln : Nat) : (G0 Ln).2.2.2 18 4 = some 23 := rfl
theorem rf_18_5 (Ln : Nat) : (G0 Ln).2.2.2 18 5 = some 24 := rfl
theorem rf_18_6 (Ln : Nat) : (G0 Ln).2.2.2 18 6 = some 25 := rfl
theorem rf_25_0 (Ln : Nat) : (G0 Ln).2.2.2 25 0 = some 26 := rfl
theorem rf_27_0 (Ln : Nat) : (G0 Ln).2.2.2 27 0 = some 28 := rfl
theorem rf_29_0 (Ln : Nat) : (G0 Ln).2.2.2 29 0 = some 30 := rfl
theorem rf_29_1 (Ln : Nat) : (G0 Ln).2.2.2 29 1 = some 31 := rfl
theorem rf_29_2 (Ln : Nat) : (G0 Ln).2.2.2 29 2 = some 38 := rfl
theorem rf_30_0 (Ln : Nat) : (G0 Ln).2.2.2 30 0 = some 39 := rfl
theorem rf_30_1 (Ln : Nat) : (G0 Ln).2.2.2 30 1 = some 45 := rfl
theorem rf_30_2 (Ln : Nat) : (G0 Ln).2.2.2 30 2 = some 51 := rfl
theorem rf_30_3 (Ln : Nat) : (G0 Ln).2.2.2 30 3 = some 57 := rfl
theorem rf_30_4 (Ln : Nat) : (G0 Ln).2.2.2 30 4 = some 63 := rfl
theorem rf_30_5 (Ln : Nat) : (G0 Ln).2.2.2 30 5 = some 69 := rfl
theorem rf_30_6 (Ln : Nat) : (G0 Ln).2.2.2 30 6 = some 75 := rfl
theorem rf_30_7 (Ln : Nat) : (G0 Ln).2.2.2 30 7 = some 81 := rfl
theorem rf_30_8 (Ln : Nat) : (G0 Ln).2.2.2 30 8 = some 87 := rfl
theorem rf_30_9 (Ln : Nat) : (G0 Ln).2.2.2 30 9 = some 93 := rfl
theorem rf_30_10 (Ln : Nat) : (G0 Ln).2.2.2 30 10 = some 99 := rfl
theorem rf_30_11 (Ln : Nat) : (G0 Ln).2.2.2 30 11 = some 105 := rfl
theorem rf_30_12 (Ln : Nat) : (G0 Ln).2.2.2 30 12 = some 111 := rfl
theorem rf_31_0 (Ln : Nat) : (G0 Ln).2.2.2 31 0 = some 32 := rfl
theorem rf_31_1 (Ln : Nat) : (G0 Ln).2.2.2 31 1 = some 33 := rfl
theorem rf_31_2 (Ln : Nat) : (G0 Ln).2.2.2 31 2 = some 34 := rfl
theorem rf_31_3 (Ln : Nat) : (G0 Ln).2.2.2 31 3 = some 35 := rfl
theorem rf_31_4 (Ln : Nat) : (G0 Ln).2.2.2 31 4 = some 36 := rfl
theorem rf_31_5 (Ln : Nat) : (G0 Ln).2.2.2 31 5 = some 37 := rfl
theorem rf_39_0 (Ln : Nat) : (G0 Ln).2.2.2 39 0 = some 40 := rfl
theorem rf_39_1 (Ln : Nat) : (G0 Ln).2.2.2 39 1 = some 41 := rfl
theorem rf_39_2 (Ln : Nat) : (G0 Ln).2.2.2 39 2 = some 42 := rfl
theorem rf_39_3 (Ln : Nat) : (G0 Ln).2.2.2 39 3 = some 43 := rfl
theorem rf_39_4 (Ln : Nat) : (G0 Ln).2.2.2 39 4 = some 44 := rfl
theorem rf_45_0 (Ln : Nat) : (G0 Ln).2.2.2 45 0 = some 46 := rfl
theorem rf_45_1 (Ln : Nat) : (G0 Ln).2.2.2 45 1 = some 47 := rfl
theorem rf_45_2 (Ln : Nat) : (G0 Ln).2.2.2 45 2 = some 48 := rfl
theorem rf_45_3 (Ln : Nat) : (G0 Ln).2.2.2 45 3 = some 49 := rfl
theorem rf_45_4 (Ln : Nat) : (G0 Ln).2.2.2 45 4 = some 50 := rfl
theorem rf_51_0 (Ln : Nat) : (G0 Ln).2.2.2 51 0 = some 52 := rfl
theorem rf_51_1 (Ln : Nat) : (G0 Ln).2.2.2 51 1 = some 53 := rfl
theorem rf_51_2 (Ln : Nat) : (G0 Ln).2.2.2 51 2 = some 54 := rfl
theorem rf_51_3 (Ln : Nat) : (G0 Ln).2.2.2 51 3 = some 55 := rfl
theorem rf_51_4 (Ln : Nat) : (G0 Ln).2.2.2 51 4 = some 56 := rfl
theorem rf_57_0 (Ln : Nat) : (G0 Ln).2.2.2 57 0 = some 58 := rfl
theorem rf_57_1 (Ln : Nat) : (G0 Ln).2.2.2 57 1 = some 59 := rfl
theorem rf_57_2 (Ln : Nat) : (G0 Ln).2.2.2 57 2 = some 60 := rfl
theorem rf_57_3 (Ln : Nat) : (G0 Ln).2.2.2 57 3 = some 61 := rfl
theorem rf_57_4 (Ln : Nat) : (G0 Ln).2.2.2 57 4 = some 62 := rfl
theorem rf_63_0 (Ln : Nat) : (G0 Ln).2.2.2 63 0 = some 64 := rfl
theorem rf_63_1 (Ln : Nat) : (G0 Ln).2.2.2 63 1 = some 65 := rfl
theorem rf_63_2 (Ln : Nat) : (G0 Ln).2.2.2 63 2 = some 66 := rfl
theorem rf_63_3 (Ln : Nat) : (G0 Ln).2.2.2 63 3 = some 67 := rfl
theorem rf_63_4 (Ln : Nat) : (G0 Ln).2.2.2 63 4 = some 68 := rfl
theorem rf_69_0 (Ln : Nat) : (G0 Ln).2.2.2 69 0 = some 70 := rfl
theorem rf_69_1 (Ln : Nat) : (G0 Ln).2.2.2 69 1 = some 71 := rfl
theorem rf_69_2 (Ln : Nat) : (G0 Ln).2.2.2 69 2 = some 72 := rfl
theorem rf_69_3 (Ln : Nat) : (G0 Ln).2.2.2 69 3 = some 73 := rfl
theorem rf_69_4 (Ln : Nat) : (G0 Ln).2.2.2 69 4 = some 74 := rfl
theorem rf_75_0 (Ln : Nat) : (G0 Ln).2.2.2 75 0 = some 76 := rfl
theorem rf_75_1 (Ln : Nat) : (G0 Ln).2.2.2 75 1 = some 77 := rfl
theorem rf_75_2 (Ln : Nat) : (G0 Ln).2.2.2 75 2 = some 78 := rfl
theorem rf_75_3 (Ln : Nat) : (G0 Ln).2.2.2 75 3 = some 79 := rfl
theorem rf_75_4 (Ln : Nat) : (G0 Ln).2.2.2 75 4 = some 80 := rfl
theorem rf_81_0 (Ln : Nat) : (G0 Ln).2.2.2 81 0 = some 82 := rfl
theorem rf_81_1 (Ln : Nat) : (G0 Ln).2.2.2 81 1 = some 83 := rfl
theorem rf_81_2 (Ln : Nat) : (G0 Ln).2.2.2 81 2 = some 84 := rfl
theorem rf_81_3 (Ln : Nat) : (G0 Ln).2.2.2 81 3 = some 85 := rfl
theorem rf_81_4 (Ln : Nat) : (G0 Ln).2.2.2 81 4 = some 86 := rfl
theorem rf_87_0 (Ln : Nat) : (G0 Ln).2.2.2 87 0 = some 88 := rfl
theorem rf_87_1 (Ln : Nat) : (G0 Ln).2.2.2 87 1 = some 89 := rfl
theorem rf_87_2 (Ln : Nat) : (G0 Ln).2.2.2 87 2 = some 90 := rfl
theorem rf_87_3 (Ln : Nat) : (G0 Ln).2.2.2 87 3 = some 91 := rfl
theorem rf_87_4 (Ln : Nat) : (G0 Ln).2.2.2 87 4 = some 92 := rfl
theorem rf_93_0 (Ln : Nat) : (G0 Ln).2.2.2 93 0 = some 94 := rfl
theorem rf_93_1 (Ln : Nat) : (G0 Ln).2.2.2 93 1 = some 95 := rfl
theorem rf_93_2 (Ln : Nat) : (G0 Ln).2.2.2 93 2 = some 96 := rfl
theorem rf_93_3 (Ln : Nat) : (G0 Ln).2.2.2 93 3 = some 97 := rfl
theorem rf_93_4 (Ln : Nat) : (G0 Ln).2.2.2 93 4 = some 98 := rfl
theorem rf_99_0 (Ln : Nat) : (G0 Ln).2.2.2 99 0 = some 100 := rfl
theorem rf_99_1 (Ln : Nat) : (G0 Ln).2.2.2 99 1 = some 101 := rfl
theorem rf_99_2 (Ln : Nat) : (G0 Ln).2.2.2 99 2 = some 102 := rfl
theorem rf_99_3 (Ln : Nat) : (G0 Ln).2.2.2 99 3 = some 103 := rfl
theorem rf_99_4 (Ln : Nat) : (G0 Ln).2.2.2 99 4 = some 104 := rfl
theorem rf_105_0 (Ln : Nat) : (G0 Ln).2.2.2 105 0 = some 106 := rfl
theorem rf_105_1 (Ln : Nat) : (G0 Ln).2.2.2 105 1 = some 107 := rfl
theorem rf_105_2 (Ln : Nat) : (G0 Ln).2.2.2 105 2 = some 108 := rfl
theorem rf_105_3 (Ln : Nat) : (G0 Ln).2.2.2 105 3 = some 109 := rfl
theorem rf_105_4 (Ln : Nat) : (G0 Ln).2.2.2 105 4 = some 110 := rfl
theorem rf_111_0 (Ln : Nat) : (G0 Ln).2.2.2 111 0 = some 112 := rfl
theorem rf_111_1 (Ln : Nat) : (G0 Ln).2.2.2 111 1 = some 113 := rfl
theorem rf_111_2 (Ln : Nat) : (G0 Ln).2.2.2 111 2 = some 114 := rfl
theorem rf_111_3 (Ln : Nat) : (G0 Ln).2.2.2 111 3 = some 115 := rfl
theorem rf_111_4 (Ln : Nat) : (G0 Ln).2.2.2 111 4 = some 116 := rfl
theorem rf_118_0 (Ln : Nat) : (G0 Ln).2.2.2 118 0 = some 119 := rfl
theorem rf_122_0 (Ln : Nat) : (G0 Ln).2.2.2 122 0 = some 123 := rfl
theorem rf_122_1 (Ln : Nat) : (G0 Ln).2.2.2 122 1 = some 124 := rfl
theorem rf_122_2 (Ln : Nat) : (G0 Ln).2.2.2 122 2 = some 125 := rfl
theorem rf_122_3 (Ln : Nat) : (G0 Ln).2.2.2 122 3 = some 126 := rfl
theorem rf_122_4 (Ln : Nat) : (G0 Ln).2.2.2 122 4 = some 127 := rfl
theorem rf_122_5 (Ln : Nat) : (G0 Ln).2.2.2 122 5 = some 128 := rfl
theorem rf_122_6 (Ln : Nat) : (G0 Ln).2.2.2 122 6 = some 129 := rfl
theorem rf_122_7 (Ln : Nat) : (G0 Ln).2.2.2 122 7 = some 130 := rfl
theorem rf_122_8 (Ln : Nat) : (G0 Ln).2.2.2 122 8 = some 131 := rfl
theorem rf_122_9 (Ln : Nat) : (G0 Ln).2.2.2 122 9 = some 132 := rfl
theorem rf_122_10 (Ln : Nat) : (G0 Ln).2.2.2 122 10 = some 133 := rfl
theorem rf_122_11 (Ln : Nat) : (G0 Ln).2.2.2 122 11 = some 134 := rfl
theorem rf_122_12 (Ln : Nat) : (G0 Ln).2.2.2 122 12 = some 135 := rfl
theorem rf_122_13 (Ln : Nat) : (G0 Ln).2.2.2 122 13 = some 136 := rfl
theorem rf_122_14 (Ln : Nat) : (G0 Ln).2.2.2 122 14 = some 137 := rfl
theorem rf_122_15 (Ln : Nat) : (G0 Ln).2.2.2 122 15 = some 138 := rfl
theorem rf_122_16 (Ln : Nat) : (G0 Ln).2.2.2 122 16 = some 139 := rfl
theorem rf_122_17 (Ln : Nat) : (G0 Ln).2.2.2 122 17 = some 140 := rfl
theorem rf_122_19 (Ln : Nat) : (G0 Ln).2.2.2 122 19 = some 141 := rfl
theorem rf_122_20 (Ln : Nat) : (G0 Ln).2.2.2 122 20 = some 142 := rfl
theorem rf_122_21 (Ln : Nat) : (G0 Ln).2.2.2 122 21 = some 143 := rfl
theorem rf_122_22 (Ln : Nat) : (G0 Ln).2.2.2 122 22 = some 144 := rfl
theorem rf_122_23 (Ln : Nat) : (G0 Ln).2.2.2 122 23 = some 145 := rfl
theorem rf_122_24 (Ln : Nat) : (G0 Ln).2.2.2 122 24 = some 146 := rfl
theorem rf_122_25 (Ln : Nat) : (G0 Ln).2.2.2 122 25 = some 147 := rfl
theorem rf_122_26 (Ln : Nat) : (G0 Ln).2.2.2 122 26 = some 148 := rfl
theorem rf_122_27 (Ln : Nat) : (G0 Ln).2.2.2 122 27 = some 149 := rfl
theorem rf_122_28 (Ln : Nat) : (G0 Ln).2.2.2 122 28 = some 150 := rfl
theorem rf_122_29 (Ln : Nat) : (G0 Ln).2.2.2 122 29 = some 151 := rfl
theorem rf_122_30 (Ln : Nat) : (G0 Ln).2.2.2 122 30 = some 152 := rfl
theorem rf_122_31 (Ln : Nat) : (G0 Ln).2.2.2 122 31 = some 153 := rfl
theorem rf_122_32 (Ln : Nat) : (G0 Ln).2.2.2 122 32 = some 154 := rfl
theorem rf_122_33 (Ln : Nat) : (G0 Ln).2.2.2 122 33 = some 155 := rfl
theorem rf_122_34 (Ln : Nat) : (G0 Ln).2.2.2 122 34 = some 156 := rfl
theorem rf_122_35 (Ln : Nat) : (G0 Ln).2.2.2 122 35 = some 157 := rfl
theorem rf_122_40 (Ln : Nat) : (G0 Ln).2.2.2 122 40 = some 158 := rfl
theorem rf_122_41 (Ln : Nat) : (G0 Ln).2.2.2 122 41 = some 159 := rfl
theorem rf_122_42 (Ln : Nat) : (G0 Ln).2.2.2 122 42 = some 160 := rfl
theorem rf_122_43 (Ln : Nat) : (G0 Ln).2.2.2 122 43 = some 161 := rfl
theorem rf_122_45 (Ln : Nat) : (G0 Ln).2.2.2 122 45 = some 162 := rfl
theorem rf_122_46 (Ln : Nat) : (G0 Ln).2.2.2 122 46 = some 163 := rfl
theorem rf_122_47 (Ln : Nat) : (G0 Ln).2.2.2 122 47 = some 164 := rfl
theorem psh_s {v : Value} {st : List Value} : psh (some v) st = v :: st := rfl
theorem psh_n {st : List Value} : psh none st = st := rfl
theorem kil_i {x : Int32} : kil (.int x) = .int x := rfl
theorem kil_r {x : Nat} : kil (.ref x) = .ref x := rfl
theorem kil_n : kil nv = nv := rfl
theorem kil_0 : kil .null = .null := rfl
theorem kil_l {x : Int64} : kil (.long x) = nv := rfl
theorem kil_k {x : Value} : kil (kil x) = kil x := by cases x <;> rfl
theorem refV_s {c : Nat} : refV (some c) = .ref c := rfl
theorem refV_n : refV none = .null := rfl
theorem cat_i {x : Int32} : (Value.int x).category = 1 := rfl
theorem cat_r {x : Nat} : (Value.ref x).category = 1 := rfl
theorem iOK_1 {n : Nat} {j : Int32} : iOK (1, n) j ↔ vp_in j n := ⟨fun h => h.2, fun h => ⟨Or.inl rfl, h⟩⟩
theorem iOK_5 {n : Nat} {j : Int32} : iOK (5, n) j ↔ vp_in j n := ⟨fun h => h.2, fun h => ⟨Or.inr rfl, h⟩⟩
theorem jOK_2 {n : Nat} {j : Int32} : jOK (2, n) j ↔ vp_in j n := ⟨fun h => h.2, fun h => ⟨Or.inl rfl, h⟩⟩
theorem jOK_6 {n : Nat} {j : Int32} : jOK (6, n) j ↔ vp_in j n := ⟨fun h => h.2, fun h => ⟨Or.inr rfl, h⟩⟩
theorem wOK_e {t n : Nat} {j : Int32} : wOK (t, n) t j ↔ vp_in j n := ⟨fun h => h.2, fun h => ⟨rfl, h⟩⟩
theorem lOK_1 {n : Nat} : lOK (1, n) ↔ True := ⟨fun _ => trivial, fun _ => ⟨Nat.le_of_ble_eq_true rfl, Nat.le_of_ble_eq_true rfl⟩⟩
theorem lOK_2 {n : Nat} : lOK (2, n) ↔ True := ⟨fun _ => trivial, fun _ => ⟨Nat.le_of_ble_eq_true rfl, Nat.le_of_ble_eq_true rfl⟩⟩
theorem lOK_3 {n : Nat} : lOK (3, n) ↔ True := ⟨fun _ => trivial, fun _ => ⟨Nat.le_of_ble_eq_true rfl, Nat.le_of_ble_eq_true rfl⟩⟩
theorem lOK_4 {n : Nat} : lOK (4, n) ↔ True := ⟨fun _ => trivial, fun _ => ⟨Nat.le_of_ble_eq_true rfl, Nat.le_of_ble_eq_true rfl⟩⟩
theorem lOK_5 {n : Nat} : lOK (5, n) ↔ True := ⟨fun _ => trivial, fun _ => ⟨Nat.le_of_ble_eq_true rfl, Nat.le_of_ble_eq_true rfl⟩⟩
theorem lOK_6 {n : Nat} : lOK (6, n) ↔ True := ⟨fun _ => trivial, fun _ => ⟨Nat.le_of_ble_eq_true rfl, Nat.le_of_ble_eq_true rfl⟩⟩
theorem catS_0 : catS [] ≤ 8 ↔ True := ⟨fun _ => trivial, fun _ => by decide⟩
theorem catS_1 {a : Value} : catS [a] ≤ 8 ↔ True := ⟨fun _ => trivial, fun _ => by cases a <;> simp [catS, Value.category]⟩
theorem catS_2 {a b : Value} : catS [a, b] ≤ 8 ↔ True := ⟨fun _ => trivial, fun _ => by cases a <;> cases b <;> simp [catS, Value.category]⟩
theorem catS_3 {a b c : Value} : catS [a, b, c] ≤ 8 ↔ True := ⟨fun _ => trivial, fun _ => by cases a <;> cases b <;> cases c <;> simp [catS, Value.category]⟩
theorem catS_4 {a b c e : Value} : catS [a, b, c, e] ≤ 8 ↔ True := ⟨fun _ => trivial, fun _ => by cases a <;> cases b <;> cases c <;> cases e <;> simp [catS, Value.category]⟩
