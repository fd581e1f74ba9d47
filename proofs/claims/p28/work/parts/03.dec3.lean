theorem zkX10_init_0 : zqc cX10_init 0 [42, 183, 0, 1, 42, 17, 9, 96, 188, 8, 181, 0, 7, 42, 7, 188, 10, 181, 0, 13, 42, 7, 188, 10, 181, 0, 17, 42, 7, 188, 10, 181, 0, 20] := zq_of 34 (by decide +kernel)
theorem dX10_init_0 : decode cX10_init 0 = .ok (.aload_n 0, 1) := zq_0 zo_42 zkX10_init_0 0 rfl rfl
theorem dX10_init_1 : decode cX10_init 1 = .ok (.invokespecial 1, 3) := zq_2 zo_183 zkX10_init_0 1 rfl rfl 0 1 rfl rfl _ rfl
theorem dX10_init_4 : decode cX10_init 4 = .ok (.aload_n 0, 1) := zq_0 zo_42 zkX10_init_0 4 rfl rfl
theorem dX10_init_5 : decode cX10_init 5 = .ok (.sipush 2400, 3) := zq_2s zo_17 zkX10_init_0 5 rfl rfl 9 96 rfl rfl _ (by decide +kernel)
theorem dX10_init_8 : decode cX10_init 8 = .ok (.newarray .byte, 2) := by decide +kernel
theorem dX10_init_10 : decode cX10_init 10 = .ok (.putfield 7, 3) := zq_2 zo_181 zkX10_init_0 10 rfl rfl 0 7 rfl rfl _ rfl
theorem dX10_init_13 : decode cX10_init 13 = .ok (.aload_n 0, 1) := zq_0 zo_42 zkX10_init_0 13 rfl rfl
theorem dX10_init_14 : decode cX10_init 14 = .ok (.iconst 4, 1) := zq_0 zo_7 zkX10_init_0 14 rfl rfl
theorem dX10_init_15 : decode cX10_init 15 = .ok (.newarray .int, 2) := by decide +kernel
theorem dX10_init_17 : decode cX10_init 17 = .ok (.putfield 13, 3) := zq_2 zo_181 zkX10_init_0 17 rfl rfl 0 13 rfl rfl _ rfl
theorem dX10_init_20 : decode cX10_init 20 = .ok (.aload_n 0, 1) := zq_0 zo_42 zkX10_init_0 20 rfl rfl
theorem dX10_init_21 : decode cX10_init 21 = .ok (.iconst 4, 1) := zq_0 zo_7 zkX10_init_0 21 rfl rfl
theorem dX10_init_22 : decode cX10_init 22 = .ok (.newarray .int, 2) := by decide +kernel
theorem dX10_init_24 : decode cX10_init 24 = .ok (.putfield 17, 3) := zq_2 zo_181 zkX10_init_0 24 rfl rfl 0 17 rfl rfl _ rfl
theorem dX10_init_27 : decode cX10_init 27 = .ok (.aload_n 0, 1) := zq_0 zo_42 zkX10_init_0 27 rfl rfl
theorem dX10_init_28 : decode cX10_init 28 = .ok (.iconst 4, 1) := zq_0 zo_7 zkX10_init_0 28 rfl rfl
theorem dX10_init_29 : decode cX10_init 29 = .ok (.newarray .int, 2) := by decide +kernel
theorem dX10_init_31 : decode cX10_init 31 = .ok (.putfield 20, 3) := zq_2 zo_181 zkX10_init_0 31 rfl rfl 0 20 rfl rfl _ rfl
theorem zkX10_init_32 : zqc cX10_init 32 [0, 20, 42, 16, 12, 188, 10, 181, 0, 23, 42, 17, 3, 216, 188, 10, 181, 0, 26, 42, 17, 1, 8, 188, 10, 181, 0, 29, 42, 17, 0, 168, 188, 10] := zq_of 34 (by decide +kernel)
theorem dX10_init_34 : decode cX10_init 34 = .ok (.aload_n 0, 1) := zq_0 zo_42 zkX10_init_32 2 rfl rfl
theorem dX10_init_35 : decode cX10_init 35 = .ok (.bipush 12, 2) := zq_1s zo_16 zkX10_init_32 3 rfl rfl 12 rfl _ (by decide +kernel)
theorem dX10_init_37 : decode cX10_init 37 = .ok (.newarray .int, 2) := by decide +kernel
theorem dX10_init_39 : decode cX10_init 39 = .ok (.putfield 23, 3) := zq_2 zo_181 zkX10_init_32 7 rfl rfl 0 23 rfl rfl _ rfl
theorem dX10_init_42 : decode cX10_init 42 = .ok (.aload_n 0, 1) := zq_0 zo_42 zkX10_init_32 10 rfl rfl
theorem dX10_init_43 : decode cX10_init 43 = .ok (.sipush 984, 3) := zq_2s zo_17 zkX10_init_32 11 rfl rfl 3 216 rfl rfl _ (by decide +kernel)
theorem dX10_init_46 : decode cX10_init 46 = .ok (.newarray .int, 2) := by decide +kernel
theorem dX10_init_48 : decode cX10_init 48 = .ok (.putfield 26, 3) := zq_2 zo_181 zkX10_init_32 16 rfl rfl 0 26 rfl rfl _ rfl
theorem dX10_init_51 : decode cX10_init 51 = .ok (.aload_n 0, 1) := zq_0 zo_42 zkX10_init_32 19 rfl rfl
theorem dX10_init_52 : decode cX10_init 52 = .ok (.sipush 264, 3) := zq_2s zo_17 zkX10_init_32 20 rfl rfl 1 8 rfl rfl _ (by decide +kernel)
theorem dX10_init_55 : decode cX10_init 55 = .ok (.newarray .int, 2) := by decide +kernel
theorem dX10_init_57 : decode cX10_init 57 = .ok (.putfield 29, 3) := zq_2 zo_181 zkX10_init_32 25 rfl rfl 0 29 rfl rfl _ rfl
theorem dX10_init_60 : decode cX10_init 60 = .ok (.aload_n 0, 1) := zq_0 zo_42 zkX10_init_32 28 rfl rfl
theorem dX10_init_61 : decode cX10_init 61 = .ok (.sipush 168, 3) := zq_2s zo_17 zkX10_init_32 29 rfl rfl 0 168 rfl rfl _ (by decide +kernel)
theorem dX10_init_64 : decode cX10_init 64 = .ok (.newarray .int, 2) := by decide +kernel
theorem zkX10_init_64 : zqc cX10_init 64 [188, 10, 181, 0, 32, 42, 16, 123, 188, 10, 181, 0, 35, 42, 16, 6, 188, 10, 181, 0, 38, 42, 16, 16, 188, 10, 181, 0, 41, 42, 16, 16, 188, 10] := zq_of 34 (by decide +kernel)
theorem dX10_init_66 : decode cX10_init 66 = .ok (.putfield 32, 3) := zq_2 zo_181 zkX10_init_64 2 rfl rfl 0 32 rfl rfl _ rfl
theorem dX10_init_69 : decode cX10_init 69 = .ok (.aload_n 0, 1) := zq_0 zo_42 zkX10_init_64 5 rfl rfl
theorem dX10_init_70 : decode cX10_init 70 = .ok (.bipush 123, 2) := zq_1s zo_16 zkX10_init_64 6 rfl rfl 123 rfl _ (by decide +kernel)
theorem dX10_init_72 : decode cX10_init 72 = .ok (.newarray .int, 2) := by decide +kernel
theorem dX10_init_74 : decode cX10_init 74 = .ok (.putfield 35, 3) := zq_2 zo_181 zkX10_init_64 10 rfl rfl 0 35 rfl rfl _ rfl
theorem dX10_init_77 : decode cX10_init 77 = .ok (.aload_n 0, 1) := zq_0 zo_42 zkX10_init_64 13 rfl rfl
theorem dX10_init_78 : decode cX10_init 78 = .ok (.bipush 6, 2) := zq_1s zo_16 zkX10_init_64 14 rfl rfl 6 rfl _ (by decide +kernel)
theorem dX10_init_80 : decode cX10_init 80 = .ok (.newarray .int, 2) := by decide +kernel
theorem dX10_init_82 : decode cX10_init 82 = .ok (.putfield 38, 3) := zq_2 zo_181 zkX10_init_64 18 rfl rfl 0 38 rfl rfl _ rfl
theorem dX10_init_85 : decode cX10_init 85 = .ok (.aload_n 0, 1) := zq_0 zo_42 zkX10_init_64 21 rfl rfl
theorem dX10_init_86 : decode cX10_init 86 = .ok (.bipush 16, 2) := zq_1s zo_16 zkX10_init_64 22 rfl rfl 16 rfl _ (by decide +kernel)
theorem dX10_init_88 : decode cX10_init 88 = .ok (.newarray .int, 2) := by decide +kernel
theorem dX10_init_90 : decode cX10_init 90 = .ok (.putfield 41, 3) := zq_2 zo_181 zkX10_init_64 26 rfl rfl 0 41 rfl rfl _ rfl
theorem dX10_init_93 : decode cX10_init 93 = .ok (.aload_n 0, 1) := zq_0 zo_42 zkX10_init_64 29 rfl rfl
theorem dX10_init_94 : decode cX10_init 94 = .ok (.bipush 16, 2) := zq_1s zo_16 zkX10_init_64 30 rfl rfl 16 rfl _ (by decide +kernel)
theorem dX10_init_96 : decode cX10_init 96 = .ok (.newarray .int, 2) := by decide +kernel
theorem zkX10_init_96 : zqc cX10_init 96 [188, 10, 181, 0, 44, 42, 16, 16, 188, 10, 181, 0, 47, 42, 16, 16, 188, 10, 181, 0, 50, 42, 16, 16, 188, 10, 181, 0, 53, 42, 16, 16, 188, 10] := zq_of 34 (by decide +kernel)
theorem dX10_init_98 : decode cX10_init 98 = .ok (.putfield 44, 3) := zq_2 zo_181 zkX10_init_96 2 rfl rfl 0 44 rfl rfl _ rfl
theorem dX10_init_101 : decode cX10_init 101 = .ok (.aload_n 0, 1) := zq_0 zo_42 zkX10_init_96 5 rfl rfl
theorem dX10_init_102 : decode cX10_init 102 = .ok (.bipush 16, 2) := zq_1s zo_16 zkX10_init_96 6 rfl rfl 16 rfl _ (by decide +kernel)
theorem dX10_init_104 : decode cX10_init 104 = .ok (.newarray .int, 2) := by decide +kernel
theorem dX10_init_106 : decode cX10_init 106 = .ok (.putfield 47, 3) := zq_2 zo_181 zkX10_init_96 10 rfl rfl 0 47 rfl rfl _ rfl
theorem dX10_init_109 : decode cX10_init 109 = .ok (.aload_n 0, 1) := zq_0 zo_42 zkX10_init_96 13 rfl rfl
theorem dX10_init_110 : decode cX10_init 110 = .ok (.bipush 16, 2) := zq_1s zo_16 zkX10_init_96 14 rfl rfl 16 rfl _ (by decide +kernel)
theorem dX10_init_112 : decode cX10_init 112 = .ok (.newarray .int, 2) := by decide +kernel
theorem dX10_init_114 : decode cX10_init 114 = .ok (.putfield 50, 3) := zq_2 zo_181 zkX10_init_96 18 rfl rfl 0 50 rfl rfl _ rfl
theorem dX10_init_117 : decode cX10_init 117 = .ok (.aload_n 0, 1) := zq_0 zo_42 zkX10_init_96 21 rfl rfl
theorem dX10_init_118 : decode cX10_init 118 = .ok (.bipush 16, 2) := zq_1s zo_16 zkX10_init_96 22 rfl rfl 16 rfl _ (by decide +kernel)
theorem dX10_init_120 : decode cX10_init 120 = .ok (.newarray .int, 2) := by decide +kernel
theorem dX10_init_122 : decode cX10_init 122 = .ok (.putfield 53, 3) := zq_2 zo_181 zkX10_init_96 26 rfl rfl 0 53 rfl rfl _ rfl
theorem dX10_init_125 : decode cX10_init 125 = .ok (.aload_n 0, 1) := zq_0 zo_42 zkX10_init_96 29 rfl rfl
theorem dX10_init_126 : decode cX10_init 126 = .ok (.bipush 16, 2) := zq_1s zo_16 zkX10_init_96 30 rfl rfl 16 rfl _ (by decide +kernel)
theorem dX10_init_128 : decode cX10_init 128 = .ok (.newarray .int, 2) := by decide +kernel
theorem zkX10_init_128 : zqc cX10_init 128 [188, 10, 181, 0, 56, 42, 16, 16, 188, 10, 181, 0, 59, 42, 16, 6, 188, 10, 181, 0, 62, 42, 16, 16, 188, 10, 181, 0, 65, 42, 16, 6, 188, 10] := zq_of 34 (by decide +kernel)
theorem dX10_init_130 : decode cX10_init 130 = .ok (.putfield 56, 3) := zq_2 zo_181 zkX10_init_128 2 rfl rfl 0 56 rfl rfl _ rfl
theorem dX10_init_133 : decode cX10_init 133 = .ok (.aload_n 0, 1) := zq_0 zo_42 zkX10_init_128 5 rfl rfl
theorem dX10_init_134 : decode cX10_init 134 = .ok (.bipush 16, 2) := zq_1s zo_16 zkX10_init_128 6 rfl rfl 16 rfl _ (by decide +kernel)
theorem dX10_init_136 : decode cX10_init 136 = .ok (.newarray .int, 2) := by decide +kernel
theorem dX10_init_138 : decode cX10_init 138 = .ok (.putfield 59, 3) := zq_2 zo_181 zkX10_init_128 10 rfl rfl 0 59 rfl rfl _ rfl
theorem dX10_init_141 : decode cX10_init 141 = .ok (.aload_n 0, 1) := zq_0 zo_42 zkX10_init_128 13 rfl rfl
theorem dX10_init_142 : decode cX10_init 142 = .ok (.bipush 6, 2) := zq_1s zo_16 zkX10_init_128 14 rfl rfl 6 rfl _ (by decide +kernel)
theorem dX10_init_144 : decode cX10_init 144 = .ok (.newarray .int, 2) := by decide +kernel
theorem dX10_init_146 : decode cX10_init 146 = .ok (.putfield 62, 3) := zq_2 zo_181 zkX10_init_128 18 rfl rfl 0 62 rfl rfl _ rfl
theorem dX10_init_149 : decode cX10_init 149 = .ok (.aload_n 0, 1) := zq_0 zo_42 zkX10_init_128 21 rfl rfl
theorem dX10_init_150 : decode cX10_init 150 = .ok (.bipush 16, 2) := zq_1s zo_16 zkX10_init_128 22 rfl rfl 16 rfl _ (by decide +kernel)
theorem dX10_init_152 : decode cX10_init 152 = .ok (.newarray .int, 2) := by decide +kernel
theorem dX10_init_154 : decode cX10_init 154 = .ok (.putfield 65, 3) := zq_2 zo_181 zkX10_init_128 26 rfl rfl 0 65 rfl rfl _ rfl
theorem dX10_init_157 : decode cX10_init 157 = .ok (.aload_n 0, 1) := zq_0 zo_42 zkX10_init_128 29 rfl rfl
theorem dX10_init_158 : decode cX10_init 158 = .ok (.bipush 6, 2) := zq_1s zo_16 zkX10_init_128 30 rfl rfl 6 rfl _ (by decide +kernel)
theorem dX10_init_160 : decode cX10_init 160 = .ok (.newarray .int, 2) := by decide +kernel
theorem zkX10_init_160 : zqc cX10_init 160 [188, 10, 181, 0, 68, 42, 16, 6, 188, 4, 181, 0, 71, 42, 17, 4, 176, 188, 11, 181, 0, 75, 42, 16, 16, 188, 10, 181, 0, 79, 42, 16, 16, 188] := zq_of 34 (by decide +kernel)
theorem dX10_init_162 : decode cX10_init 162 = .ok (.putfield 68, 3) := zq_2 zo_181 zkX10_init_160 2 rfl rfl 0 68 rfl rfl _ rfl
theorem dX10_init_165 : decode cX10_init 165 = .ok (.aload_n 0, 1) := zq_0 zo_42 zkX10_init_160 5 rfl rfl
theorem dX10_init_166 : decode cX10_init 166 = .ok (.bipush 6, 2) := zq_1s zo_16 zkX10_init_160 6 rfl rfl 6 rfl _ (by decide +kernel)
theorem dX10_init_168 : decode cX10_init 168 = .ok (.newarray .boolean, 2) := by decide +kernel
theorem dX10_init_170 : decode cX10_init 170 = .ok (.putfield 71, 3) := zq_2 zo_181 zkX10_init_160 10 rfl rfl 0 71 rfl rfl _ rfl
theorem dX10_init_173 : decode cX10_init 173 = .ok (.aload_n 0, 1) := zq_0 zo_42 zkX10_init_160 13 rfl rfl
theorem dX10_init_174 : decode cX10_init 174 = .ok (.sipush 1200, 3) := zq_2s zo_17 zkX10_init_160 14 rfl rfl 4 176 rfl rfl _ (by decide +kernel)
theorem dX10_init_177 : decode cX10_init 177 = .ok (.newarray .long, 2) := by decide +kernel
theorem dX10_init_179 : decode cX10_init 179 = .ok (.putfield 75, 3) := zq_2 zo_181 zkX10_init_160 19 rfl rfl 0 75 rfl rfl _ rfl
theorem dX10_init_182 : decode cX10_init 182 = .ok (.aload_n 0, 1) := zq_0 zo_42 zkX10_init_160 22 rfl rfl
theorem dX10_init_183 : decode cX10_init 183 = .ok (.bipush 16, 2) := zq_1s zo_16 zkX10_init_160 23 rfl rfl 16 rfl _ (by decide +kernel)
theorem dX10_init_185 : decode cX10_init 185 = .ok (.newarray .int, 2) := by decide +kernel
theorem dX10_init_187 : decode cX10_init 187 = .ok (.putfield 79, 3) := zq_2 zo_181 zkX10_init_160 27 rfl rfl 0 79 rfl rfl _ rfl
theorem dX10_init_190 : decode cX10_init 190 = .ok (.aload_n 0, 1) := zq_0 zo_42 zkX10_init_160 30 rfl rfl
theorem dX10_init_191 : decode cX10_init 191 = .ok (.bipush 16, 2) := zq_1s zo_16 zkX10_init_160 31 rfl rfl 16 rfl _ (by decide +kernel)
theorem dX10_init_193 : decode cX10_init 193 = .ok (.newarray .int, 2) := by decide +kernel
theorem zkX10_init_192 : zqc cX10_init 192 [16, 188, 10, 181, 0, 82, 42, 7, 188, 10, 181, 0, 85, 42, 6, 188, 4, 181, 0, 88, 42, 180, 0, 20, 3, 2, 79, 177] := zq_of 28 (by decide +kernel)
theorem dX10_init_195 : decode cX10_init 195 = .ok (.putfield 82, 3) := zq_2 zo_181 zkX10_init_192 3 rfl rfl 0 82 rfl rfl _ rfl
theorem dX10_init_198 : decode cX10_init 198 = .ok (.aload_n 0, 1) := zq_0 zo_42 zkX10_init_192 6 rfl rfl
theorem dX10_init_199 : decode cX10_init 199 = .ok (.iconst 4, 1) := zq_0 zo_7 zkX10_init_192 7 rfl rfl
theorem dX10_init_200 : decode cX10_init 200 = .ok (.newarray .int, 2) := by decide +kernel
theorem dX10_init_202 : decode cX10_init 202 = .ok (.putfield 85, 3) := zq_2 zo_181 zkX10_init_192 10 rfl rfl 0 85 rfl rfl _ rfl
theorem dX10_init_205 : decode cX10_init 205 = .ok (.aload_n 0, 1) := zq_0 zo_42 zkX10_init_192 13 rfl rfl
theorem dX10_init_206 : decode cX10_init 206 = .ok (.iconst 3, 1) := zq_0 zo_6 zkX10_init_192 14 rfl rfl
theorem dX10_init_207 : decode cX10_init 207 = .ok (.newarray .boolean, 2) := by decide +kernel
theorem dX10_init_209 : decode cX10_init 209 = .ok (.putfield 88, 3) := zq_2 zo_181 zkX10_init_192 17 rfl rfl 0 88 rfl rfl _ rfl
theorem dX10_init_212 : decode cX10_init 212 = .ok (.aload_n 0, 1) := zq_0 zo_42 zkX10_init_192 20 rfl rfl
theorem dX10_init_213 : decode cX10_init 213 = .ok (.getfield 20, 3) := zq_2 zo_180 zkX10_init_192 21 rfl rfl 0 20 rfl rfl _ rfl
theorem dX10_init_216 : decode cX10_init 216 = .ok (.iconst 0, 1) := zq_0 zo_3 zkX10_init_192 24 rfl rfl
theorem dX10_init_217 : decode cX10_init 217 = .ok (.iconst (-1), 1) := zq_0 zo_2 zkX10_init_192 25 rfl rfl
theorem dX10_init_218 : decode cX10_init 218 = .ok (.iastore, 1) := zq_0 zo_79 zkX10_init_192 26 rfl rfl
theorem dX10_init_219 : decode cX10_init 219 = .ok (.return_, 1) := zq_0 zo_177 zkX10_init_192 27 rfl rfl
theorem zkX10_in_0 : zqc cX10_in 0 [26, 27, 161, 0, 12, 26, 28, 163, 0, 7, 4, 167, 0, 4, 3, 172] := zq_of 16 (by decide +kernel)
theorem dX10_in_0 : decode cX10_in 0 = .ok (.iload_n 0, 1) := zq_0 zo_26 zkX10_in_0 0 rfl rfl
theorem dX10_in_1 : decode cX10_in 1 = .ok (.iload_n 1, 1) := zq_0 zo_27 zkX10_in_0 1 rfl rfl
theorem dX10_in_2 : decode cX10_in 2 = .ok (.if_icmp .lt 12, 3) := zq_2s zo_161 zkX10_in_0 2 rfl rfl 0 12 rfl rfl _ (by decide +kernel)
theorem dX10_in_5 : decode cX10_in 5 = .ok (.iload_n 0, 1) := zq_0 zo_26 zkX10_in_0 5 rfl rfl
theorem dX10_in_6 : decode cX10_in 6 = .ok (.iload_n 2, 1) := zq_0 zo_28 zkX10_in_0 6 rfl rfl
theorem dX10_in_7 : decode cX10_in 7 = .ok (.if_icmp .gt 7, 3) := zq_2s zo_163 zkX10_in_0 7 rfl rfl 0 7 rfl rfl _ (by decide +kernel)
theorem dX10_in_10 : decode cX10_in 10 = .ok (.iconst 1, 1) := zq_0 zo_4 zkX10_in_0 10 rfl rfl
theorem dX10_in_11 : decode cX10_in 11 = .ok (.goto 4, 3) := zq_2s zo_167 zkX10_in_0 11 rfl rfl 0 4 rfl rfl _ (by decide +kernel)
theorem dX10_in_14 : decode cX10_in 14 = .ok (.iconst 0, 1) := zq_0 zo_3 zkX10_in_0 14 rfl rfl
theorem dX10_in_15 : decode cX10_in 15 = .ok (.ireturn, 1) := zq_0 zo_172 zkX10_in_0 15 rfl rfl
theorem zkX10_has_0 : zqc cX10_has 0 [26, 27, 122, 4, 126, 4, 160, 0, 7, 4, 167, 0, 4, 3, 172] := zq_of 15 (by decide +kernel)
theorem dX10_has_0 : decode cX10_has 0 = .ok (.iload_n 0, 1) := zq_0 zo_26 zkX10_has_0 0 rfl rfl
theorem dX10_has_1 : decode cX10_has 1 = .ok (.iload_n 1, 1) := zq_0 zo_27 zkX10_has_0 1 rfl rfl
theorem dX10_has_2 : decode cX10_has 2 = .ok (.ishr, 1) := zq_0 zo_122 zkX10_has_0 2 rfl rfl
theorem dX10_has_3 : decode cX10_has 3 = .ok (.iconst 1, 1) := zq_0 zo_4 zkX10_has_0 3 rfl rfl
theorem dX10_has_4 : decode cX10_has 4 = .ok (.iand, 1) := zq_0 zo_126 zkX10_has_0 4 rfl rfl
theorem dX10_has_5 : decode cX10_has 5 = .ok (.iconst 1, 1) := zq_0 zo_4 zkX10_has_0 5 rfl rfl
theorem dX10_has_6 : decode cX10_has 6 = .ok (.if_icmp .ne 7, 3) := zq_2s zo_160 zkX10_has_0 6 rfl rfl 0 7 rfl rfl _ (by decide +kernel)
theorem dX10_has_9 : decode cX10_has 9 = .ok (.iconst 1, 1) := zq_0 zo_4 zkX10_has_0 9 rfl rfl
theorem dX10_has_10 : decode cX10_has 10 = .ok (.goto 4, 3) := zq_2s zo_167 zkX10_has_0 10 rfl rfl 0 4 rfl rfl _ (by decide +kernel)
theorem dX10_has_13 : decode cX10_has 13 = .ok (.iconst 0, 1) := zq_0 zo_3 zkX10_has_0 13 rfl rfl
theorem dX10_has_14 : decode cX10_has 14 = .ok (.ireturn, 1) := zq_0 zo_172 zkX10_has_0 14 rfl rfl
theorem zkX10_ones_0 : zqc cX10_ones 0 [3, 60, 3, 61, 28, 16, 16, 162, 0, 25, 27, 26, 28, 184, 0, 95, 153, 0, 7, 4, 167, 0, 4, 3, 96, 60, 132, 2, 1, 167, 255, 231, 27, 172] := zq_of 34 (by decide +kernel)
theorem dX10_ones_0 : decode cX10_ones 0 = .ok (.iconst 0, 1) := zq_0 zo_3 zkX10_ones_0 0 rfl rfl
theorem dX10_ones_1 : decode cX10_ones 1 = .ok (.istore_n 1, 1) := zq_0 zo_60 zkX10_ones_0 1 rfl rfl
theorem dX10_ones_2 : decode cX10_ones 2 = .ok (.iconst 0, 1) := zq_0 zo_3 zkX10_ones_0 2 rfl rfl
theorem dX10_ones_3 : decode cX10_ones 3 = .ok (.istore_n 2, 1) := zq_0 zo_61 zkX10_ones_0 3 rfl rfl
theorem dX10_ones_4 : decode cX10_ones 4 = .ok (.iload_n 2, 1) := zq_0 zo_28 zkX10_ones_0 4 rfl rfl
theorem dX10_ones_5 : decode cX10_ones 5 = .ok (.bipush 16, 2) := zq_1s zo_16 zkX10_ones_0 5 rfl rfl 16 rfl _ (by decide +kernel)
theorem dX10_ones_7 : decode cX10_ones 7 = .ok (.if_icmp .ge 25, 3) := zq_2s zo_162 zkX10_ones_0 7 rfl rfl 0 25 rfl rfl _ (by decide +kernel)
theorem dX10_ones_10 : decode cX10_ones 10 = .ok (.iload_n 1, 1) := zq_0 zo_27 zkX10_ones_0 10 rfl rfl
theorem dX10_ones_11 : decode cX10_ones 11 = .ok (.iload_n 0, 1) := zq_0 zo_26 zkX10_ones_0 11 rfl rfl
theorem dX10_ones_12 : decode cX10_ones 12 = .ok (.iload_n 2, 1) := zq_0 zo_28 zkX10_ones_0 12 rfl rfl
theorem dX10_ones_13 : decode cX10_ones 13 = .ok (.invokestatic 95, 3) := zq_2 zo_184 zkX10_ones_0 13 rfl rfl 0 95 rfl rfl _ rfl
theorem dX10_ones_16 : decode cX10_ones 16 = .ok (.ifCond .eq 7, 3) := zq_2s zo_153 zkX10_ones_0 16 rfl rfl 0 7 rfl rfl _ (by decide +kernel)
theorem dX10_ones_19 : decode cX10_ones 19 = .ok (.iconst 1, 1) := zq_0 zo_4 zkX10_ones_0 19 rfl rfl
theorem dX10_ones_20 : decode cX10_ones 20 = .ok (.goto 4, 3) := zq_2s zo_167 zkX10_ones_0 20 rfl rfl 0 4 rfl rfl _ (by decide +kernel)
theorem dX10_ones_23 : decode cX10_ones 23 = .ok (.iconst 0, 1) := zq_0 zo_3 zkX10_ones_0 23 rfl rfl
theorem dX10_ones_24 : decode cX10_ones 24 = .ok (.iadd, 1) := zq_0 zo_96 zkX10_ones_0 24 rfl rfl
theorem dX10_ones_25 : decode cX10_ones 25 = .ok (.istore_n 1, 1) := zq_0 zo_60 zkX10_ones_0 25 rfl rfl
theorem dX10_ones_26 : decode cX10_ones 26 = .ok (.iinc 2 1, 3) := zq_ii zo_132 zkX10_ones_0 26 rfl rfl 2 1 rfl rfl _ (by decide +kernel)
theorem dX10_ones_29 : decode cX10_ones 29 = .ok (.goto (-25), 3) := zq_2s zo_167 zkX10_ones_0 29 rfl rfl 255 231 rfl rfl _ (by decide +kernel)
theorem zkX10_ones_32 : zqc cX10_ones 32 [27, 172] := zq_of 2 (by decide +kernel)
theorem dX10_ones_32 : decode cX10_ones 32 = .ok (.iload_n 1, 1) := zq_0 zo_27 zkX10_ones_32 0 rfl rfl
theorem dX10_ones_33 : decode cX10_ones 33 = .ok (.ireturn, 1) := zq_0 zo_172 zkX10_ones_32 1 rfl rfl
theorem zkX10_greater_0 : zqc cX10_greater 0 [26, 27, 164, 0, 7, 26, 167, 0, 4, 27, 172] := zq_of 11 (by decide +kernel)
theorem dX10_greater_0 : decode cX10_greater 0 = .ok (.iload_n 0, 1) := zq_0 zo_26 zkX10_greater_0 0 rfl rfl
theorem dX10_greater_1 : decode cX10_greater 1 = .ok (.iload_n 1, 1) := zq_0 zo_27 zkX10_greater_0 1 rfl rfl
theorem dX10_greater_2 : decode cX10_greater 2 = .ok (.if_icmp .le 7, 3) := zq_2s zo_164 zkX10_greater_0 2 rfl rfl 0 7 rfl rfl _ (by decide +kernel)
theorem dX10_greater_5 : decode cX10_greater 5 = .ok (.iload_n 0, 1) := zq_0 zo_26 zkX10_greater_0 5 rfl rfl
theorem dX10_greater_6 : decode cX10_greater 6 = .ok (.goto 4, 3) := zq_2s zo_167 zkX10_greater_0 6 rfl rfl 0 4 rfl rfl _ (by decide +kernel)
theorem dX10_greater_9 : decode cX10_greater 9 = .ok (.iload_n 1, 1) := zq_0 zo_27 zkX10_greater_0 9 rfl rfl
theorem dX10_greater_10 : decode cX10_greater 10 = .ok (.ireturn, 1) := zq_0 zo_172 zkX10_greater_0 10 rfl rfl
theorem zkX10_copyRow_0 : zqc cX10_copyRow 0 [3, 54, 4, 21, 4, 27, 162, 0, 25, 42, 27, 29, 104, 21, 4, 96, 42, 27, 28, 104, 21, 4, 96, 46, 79, 132, 4, 1, 167, 255, 231, 177] := zq_of 32 (by decide +kernel)
theorem dX10_copyRow_0 : decode cX10_copyRow 0 = .ok (.iconst 0, 1) := zq_0 zo_3 zkX10_copyRow_0 0 rfl rfl
theorem dX10_copyRow_1 : decode cX10_copyRow 1 = .ok (.istore 4, 2) := zq_1 zo_54 zkX10_copyRow_0 1 rfl rfl 4 rfl
theorem dX10_copyRow_3 : decode cX10_copyRow 3 = .ok (.iload 4, 2) := zq_1 zo_21 zkX10_copyRow_0 3 rfl rfl 4 rfl
theorem dX10_copyRow_5 : decode cX10_copyRow 5 = .ok (.iload_n 1, 1) := zq_0 zo_27 zkX10_copyRow_0 5 rfl rfl
theorem dX10_copyRow_6 : decode cX10_copyRow 6 = .ok (.if_icmp .ge 25, 3) := zq_2s zo_162 zkX10_copyRow_0 6 rfl rfl 0 25 rfl rfl _ (by decide +kernel)
theorem dX10_copyRow_9 : decode cX10_copyRow 9 = .ok (.aload_n 0, 1) := zq_0 zo_42 zkX10_copyRow_0 9 rfl rfl
theorem dX10_copyRow_10 : decode cX10_copyRow 10 = .ok (.iload_n 1, 1) := zq_0 zo_27 zkX10_copyRow_0 10 rfl rfl
theorem dX10_copyRow_11 : decode cX10_copyRow 11 = .ok (.iload_n 3, 1) := zq_0 zo_29 zkX10_copyRow_0 11 rfl rfl
theorem dX10_copyRow_12 : decode cX10_copyRow 12 = .ok (.imul, 1) := zq_0 zo_104 zkX10_copyRow_0 12 rfl rfl
theorem dX10_copyRow_13 : decode cX10_copyRow 13 = .ok (.iload 4, 2) := zq_1 zo_21 zkX10_copyRow_0 13 rfl rfl 4 rfl
theorem dX10_copyRow_15 : decode cX10_copyRow 15 = .ok (.iadd, 1) := zq_0 zo_96 zkX10_copyRow_0 15 rfl rfl
theorem dX10_copyRow_16 : decode cX10_copyRow 16 = .ok (.aload_n 0, 1) := zq_0 zo_42 zkX10_copyRow_0 16 rfl rfl
theorem dX10_copyRow_17 : decode cX10_copyRow 17 = .ok (.iload_n 1, 1) := zq_0 zo_27 zkX10_copyRow_0 17 rfl rfl
theorem dX10_copyRow_18 : decode cX10_copyRow 18 = .ok (.iload_n 2, 1) := zq_0 zo_28 zkX10_copyRow_0 18 rfl rfl
theorem dX10_copyRow_19 : decode cX10_copyRow 19 = .ok (.imul, 1) := zq_0 zo_104 zkX10_copyRow_0 19 rfl rfl
theorem dX10_copyRow_20 : decode cX10_copyRow 20 = .ok (.iload 4, 2) := zq_1 zo_21 zkX10_copyRow_0 20 rfl rfl 4 rfl
theorem dX10_copyRow_22 : decode cX10_copyRow 22 = .ok (.iadd, 1) := zq_0 zo_96 zkX10_copyRow_0 22 rfl rfl
theorem dX10_copyRow_23 : decode cX10_copyRow 23 = .ok (.iaload, 1) := zq_0 zo_46 zkX10_copyRow_0 23 rfl rfl
theorem dX10_copyRow_24 : decode cX10_copyRow 24 = .ok (.iastore, 1) := zq_0 zo_79 zkX10_copyRow_0 24 rfl rfl
theorem dX10_copyRow_25 : decode cX10_copyRow 25 = .ok (.iinc 4 1, 3) := zq_ii zo_132 zkX10_copyRow_0 25 rfl rfl 4 1 rfl rfl _ (by decide +kernel)
theorem dX10_copyRow_28 : decode cX10_copyRow 28 = .ok (.goto (-25), 3) := zq_2s zo_167 zkX10_copyRow_0 28 rfl rfl 255 231 rfl rfl _ (by decide +kernel)
theorem dX10_copyRow_31 : decode cX10_copyRow 31 = .ok (.return_, 1) := zq_0 zo_177 zkX10_copyRow_0 31 rfl rfl
theorem zkX10_copyAll_0 : zqc cX10_copyAll 0 [3, 62, 29, 17, 2, 88, 162, 0, 33, 42, 180, 0, 7, 17, 2, 88, 28, 104, 29, 96, 42, 180, 0, 7, 17, 2, 88, 27, 104, 29, 96, 51, 84, 132] := zq_of 34 (by decide +kernel)
theorem dX10_copyAll_0 : decode cX10_copyAll 0 = .ok (.iconst 0, 1) := zq_0 zo_3 zkX10_copyAll_0 0 rfl rfl
theorem dX10_copyAll_1 : decode cX10_copyAll 1 = .ok (.istore_n 3, 1) := zq_0 zo_62 zkX10_copyAll_0 1 rfl rfl
theorem dX10_copyAll_2 : decode cX10_copyAll 2 = .ok (.iload_n 3, 1) := zq_0 zo_29 zkX10_copyAll_0 2 rfl rfl
theorem dX10_copyAll_3 : decode cX10_copyAll 3 = .ok (.sipush 600, 3) := zq_2s zo_17 zkX10_copyAll_0 3 rfl rfl 2 88 rfl rfl _ (by decide +kernel)
theorem dX10_copyAll_6 : decode cX10_copyAll 6 = .ok (.if_icmp .ge 33, 3) := zq_2s zo_162 zkX10_copyAll_0 6 rfl rfl 0 33 rfl rfl _ (by decide +kernel)
theorem dX10_copyAll_9 : decode cX10_copyAll 9 = .ok (.aload_n 0, 1) := zq_0 zo_42 zkX10_copyAll_0 9 rfl rfl
theorem dX10_copyAll_10 : decode cX10_copyAll 10 = .ok (.getfield 7, 3) := zq_2 zo_180 zkX10_copyAll_0 10 rfl rfl 0 7 rfl rfl _ rfl
theorem dX10_copyAll_13 : decode cX10_copyAll 13 = .ok (.sipush 600, 3) := zq_2s zo_17 zkX10_copyAll_0 13 rfl rfl 2 88 rfl rfl _ (by decide +kernel)
theorem dX10_copyAll_16 : decode cX10_copyAll 16 = .ok (.iload_n 2, 1) := zq_0 zo_28 zkX10_copyAll_0 16 rfl rfl
theorem dX10_copyAll_17 : decode cX10_copyAll 17 = .ok (.imul, 1) := zq_0 zo_104 zkX10_copyAll_0 17 rfl rfl
theorem dX10_copyAll_18 : decode cX10_copyAll 18 = .ok (.iload_n 3, 1) := zq_0 zo_29 zkX10_copyAll_0 18 rfl rfl
theorem dX10_copyAll_19 : decode cX10_copyAll 19 = .ok (.iadd, 1) := zq_0 zo_96 zkX10_copyAll_0 19 rfl rfl
theorem dX10_copyAll_20 : decode cX10_copyAll 20 = .ok (.aload_n 0, 1) := zq_0 zo_42 zkX10_copyAll_0 20 rfl rfl
theorem dX10_copyAll_21 : decode cX10_copyAll 21 = .ok (.getfield 7, 3) := zq_2 zo_180 zkX10_copyAll_0 21 rfl rfl 0 7 rfl rfl _ rfl
theorem dX10_copyAll_24 : decode cX10_copyAll 24 = .ok (.sipush 600, 3) := zq_2s zo_17 zkX10_copyAll_0 24 rfl rfl 2 88 rfl rfl _ (by decide +kernel)
theorem dX10_copyAll_27 : decode cX10_copyAll 27 = .ok (.iload_n 1, 1) := zq_0 zo_27 zkX10_copyAll_0 27 rfl rfl
theorem dX10_copyAll_28 : decode cX10_copyAll 28 = .ok (.imul, 1) := zq_0 zo_104 zkX10_copyAll_0 28 rfl rfl
theorem dX10_copyAll_29 : decode cX10_copyAll 29 = .ok (.iload_n 3, 1) := zq_0 zo_29 zkX10_copyAll_0 29 rfl rfl
theorem dX10_copyAll_30 : decode cX10_copyAll 30 = .ok (.iadd, 1) := zq_0 zo_96 zkX10_copyAll_0 30 rfl rfl
theorem dX10_copyAll_31 : decode cX10_copyAll 31 = .ok (.baload, 1) := zq_0 zo_51 zkX10_copyAll_0 31 rfl rfl
theorem zkX10_copyAll_32 : zqc cX10_copyAll 32 [84, 132, 3, 1, 167, 255, 222, 42, 180, 0, 13, 4, 27, 28, 184, 0, 99, 42, 180, 0, 17, 4, 27, 28, 184, 0, 99, 42, 180, 0, 20, 4, 27, 28] := zq_of 34 (by decide +kernel)
theorem dX10_copyAll_32 : decode cX10_copyAll 32 = .ok (.bastore, 1) := zq_0 zo_84 zkX10_copyAll_32 0 rfl rfl
theorem dX10_copyAll_33 : decode cX10_copyAll 33 = .ok (.iinc 3 1, 3) := zq_ii zo_132 zkX10_copyAll_32 1 rfl rfl 3 1 rfl rfl _ (by decide +kernel)
theorem dX10_copyAll_36 : decode cX10_copyAll 36 = .ok (.goto (-34), 3) := zq_2s zo_167 zkX10_copyAll_32 4 rfl rfl 255 222 rfl rfl _ (by decide +kernel)
theorem dX10_copyAll_39 : decode cX10_copyAll 39 = .ok (.aload_n 0, 1) := zq_0 zo_42 zkX10_copyAll_32 7 rfl rfl
theorem dX10_copyAll_40 : decode cX10_copyAll 40 = .ok (.getfield 13, 3) := zq_2 zo_180 zkX10_copyAll_32 8 rfl rfl 0 13 rfl rfl _ rfl
theorem dX10_copyAll_43 : decode cX10_copyAll 43 = .ok (.iconst 1, 1) := zq_0 zo_4 zkX10_copyAll_32 11 rfl rfl
theorem dX10_copyAll_44 : decode cX10_copyAll 44 = .ok (.iload_n 1, 1) := zq_0 zo_27 zkX10_copyAll_32 12 rfl rfl
theorem dX10_copyAll_45 : decode cX10_copyAll 45 = .ok (.iload_n 2, 1) := zq_0 zo_28 zkX10_copyAll_32 13 rfl rfl
theorem dX10_copyAll_46 : decode cX10_copyAll 46 = .ok (.invokestatic 99, 3) := zq_2 zo_184 zkX10_copyAll_32 14 rfl rfl 0 99 rfl rfl _ rfl
theorem dX10_copyAll_49 : decode cX10_copyAll 49 = .ok (.aload_n 0, 1) := zq_0 zo_42 zkX10_copyAll_32 17 rfl rfl
theorem dX10_copyAll_50 : decode cX10_copyAll 50 = .ok (.getfield 17, 3) := zq_2 zo_180 zkX10_copyAll_32 18 rfl rfl 0 17 rfl rfl _ rfl
theorem dX10_copyAll_53 : decode cX10_copyAll 53 = .ok (.iconst 1, 1) := zq_0 zo_4 zkX10_copyAll_32 21 rfl rfl
theorem dX10_copyAll_54 : decode cX10_copyAll 54 = .ok (.iload_n 1, 1) := zq_0 zo_27 zkX10_copyAll_32 22 rfl rfl
theorem dX10_copyAll_55 : decode cX10_copyAll 55 = .ok (.iload_n 2, 1) := zq_0 zo_28 zkX10_copyAll_32 23 rfl rfl
theorem dX10_copyAll_56 : decode cX10_copyAll 56 = .ok (.invokestatic 99, 3) := zq_2 zo_184 zkX10_copyAll_32 24 rfl rfl 0 99 rfl rfl _ rfl
theorem dX10_copyAll_59 : decode cX10_copyAll 59 = .ok (.aload_n 0, 1) := zq_0 zo_42 zkX10_copyAll_32 27 rfl rfl
theorem dX10_copyAll_60 : decode cX10_copyAll 60 = .ok (.getfield 20, 3) := zq_2 zo_180 zkX10_copyAll_32 28 rfl rfl 0 20 rfl rfl _ rfl
theorem dX10_copyAll_63 : decode cX10_copyAll 63 = .ok (.iconst 1, 1) := zq_0 zo_4 zkX10_copyAll_32 31 rfl rfl
theorem zkX10_copyAll_64 : zqc cX10_copyAll 64 [27, 28, 184, 0, 99, 42, 180, 0, 23, 6, 27, 28, 184, 0, 99, 42, 180, 0, 26, 17, 0, 246, 27, 28, 184, 0, 99, 42, 180, 0, 29, 16, 66, 27] := zq_of 34 (by decide +kernel)
theorem dX10_copyAll_64 : decode cX10_copyAll 64 = .ok (.iload_n 1, 1) := zq_0 zo_27 zkX10_copyAll_64 0 rfl rfl
theorem dX10_copyAll_65 : decode cX10_copyAll 65 = .ok (.iload_n 2, 1) := zq_0 zo_28 zkX10_copyAll_64 1 rfl rfl
theorem dX10_copyAll_66 : decode cX10_copyAll 66 = .ok (.invokestatic 99, 3) := zq_2 zo_184 zkX10_copyAll_64 2 rfl rfl 0 99 rfl rfl _ rfl
theorem dX10_copyAll_69 : decode cX10_copyAll 69 = .ok (.aload_n 0, 1) := zq_0 zo_42 zkX10_copyAll_64 5 rfl rfl
theorem dX10_copyAll_70 : decode cX10_copyAll 70 = .ok (.getfield 23, 3) := zq_2 zo_180 zkX10_copyAll_64 6 rfl rfl 0 23 rfl rfl _ rfl
theorem dX10_copyAll_73 : decode cX10_copyAll 73 = .ok (.iconst 3, 1) := zq_0 zo_6 zkX10_copyAll_64 9 rfl rfl
theorem dX10_copyAll_74 : decode cX10_copyAll 74 = .ok (.iload_n 1, 1) := zq_0 zo_27 zkX10_copyAll_64 10 rfl rfl
theorem dX10_copyAll_75 : decode cX10_copyAll 75 = .ok (.iload_n 2, 1) := zq_0 zo_28 zkX10_copyAll_64 11 rfl rfl
theorem dX10_copyAll_76 : decode cX10_copyAll 76 = .ok (.invokestatic 99, 3) := zq_2 zo_184 zkX10_copyAll_64 12 rfl rfl 0 99 rfl rfl _ rfl
theorem dX10_copyAll_79 : decode cX10_copyAll 79 = .ok (.aload_n 0, 1) := zq_0 zo_42 zkX10_copyAll_64 15 rfl rfl
theorem dX10_copyAll_80 : decode cX10_copyAll 80 = .ok (.getfield 26, 3) := zq_2 zo_180 zkX10_copyAll_64 16 rfl rfl 0 26 rfl rfl _ rfl
theorem dX10_copyAll_83 : decode cX10_copyAll 83 = .ok (.sipush 246, 3) := zq_2s zo_17 zkX10_copyAll_64 19 rfl rfl 0 246 rfl rfl _ (by decide +kernel)
theorem dX10_copyAll_86 : decode cX10_copyAll 86 = .ok (.iload_n 1, 1) := zq_0 zo_27 zkX10_copyAll_64 22 rfl rfl
theorem dX10_copyAll_87 : decode cX10_copyAll 87 = .ok (.iload_n 2, 1) := zq_0 zo_28 zkX10_copyAll_64 23 rfl rfl
theorem dX10_copyAll_88 : decode cX10_copyAll 88 = .ok (.invokestatic 99, 3) := zq_2 zo_184 zkX10_copyAll_64 24 rfl rfl 0 99 rfl rfl _ rfl
theorem dX10_copyAll_91 : decode cX10_copyAll 91 = .ok (.aload_n 0, 1) := zq_0 zo_42 zkX10_copyAll_64 27 rfl rfl
theorem dX10_copyAll_92 : decode cX10_copyAll 92 = .ok (.getfield 29, 3) := zq_2 zo_180 zkX10_copyAll_64 28 rfl rfl 0 29 rfl rfl _ rfl
theorem dX10_copyAll_95 : decode cX10_copyAll 95 = .ok (.bipush 66, 2) := zq_1s zo_16 zkX10_copyAll_64 31 rfl rfl 66 rfl _ (by decide +kernel)
theorem zkX10_copyAll_96 : zqc cX10_copyAll 96 [66, 27, 28, 184, 0, 99, 42, 180, 0, 32, 16, 42, 27, 28, 184, 0, 99, 177] := zq_of 18 (by decide +kernel)
theorem dX10_copyAll_97 : decode cX10_copyAll 97 = .ok (.iload_n 1, 1) := zq_0 zo_27 zkX10_copyAll_96 1 rfl rfl
theorem dX10_copyAll_98 : decode cX10_copyAll 98 = .ok (.iload_n 2, 1) := zq_0 zo_28 zkX10_copyAll_96 2 rfl rfl
theorem dX10_copyAll_99 : decode cX10_copyAll 99 = .ok (.invokestatic 99, 3) := zq_2 zo_184 zkX10_copyAll_96 3 rfl rfl 0 99 rfl rfl _ rfl
theorem dX10_copyAll_102 : decode cX10_copyAll 102 = .ok (.aload_n 0, 1) := zq_0 zo_42 zkX10_copyAll_96 6 rfl rfl
theorem dX10_copyAll_103 : decode cX10_copyAll 103 = .ok (.getfield 32, 3) := zq_2 zo_180 zkX10_copyAll_96 7 rfl rfl 0 32 rfl rfl _ rfl
theorem dX10_copyAll_106 : decode cX10_copyAll 106 = .ok (.bipush 42, 2) := zq_1s zo_16 zkX10_copyAll_96 10 rfl rfl 42 rfl _ (by decide +kernel)
theorem dX10_copyAll_108 : decode cX10_copyAll 108 = .ok (.iload_n 1, 1) := zq_0 zo_27 zkX10_copyAll_96 12 rfl rfl
theorem dX10_copyAll_109 : decode cX10_copyAll 109 = .ok (.iload_n 2, 1) := zq_0 zo_28 zkX10_copyAll_96 13 rfl rfl
theorem dX10_copyAll_110 : decode cX10_copyAll 110 = .ok (.invokestatic 99, 3) := zq_2 zo_184 zkX10_copyAll_96 14 rfl rfl 0 99 rfl rfl _ rfl
theorem dX10_copyAll_113 : decode cX10_copyAll 113 = .ok (.return_, 1) := zq_0 zo_177 zkX10_copyAll_96 17 rfl rfl
theorem zkX10_is_0 : zqc cX10_is 0 [28, 3, 42, 180, 0, 23, 27, 46, 4, 100, 184, 0, 103, 172] := zq_of 14 (by decide +kernel)
theorem dX10_is_0 : decode cX10_is 0 = .ok (.iload_n 2, 1) := zq_0 zo_28 zkX10_is_0 0 rfl rfl
theorem dX10_is_1 : decode cX10_is 1 = .ok (.iconst 0, 1) := zq_0 zo_3 zkX10_is_0 1 rfl rfl
theorem dX10_is_2 : decode cX10_is 2 = .ok (.aload_n 0, 1) := zq_0 zo_42 zkX10_is_0 2 rfl rfl
theorem dX10_is_3 : decode cX10_is 3 = .ok (.getfield 23, 3) := zq_2 zo_180 zkX10_is_0 3 rfl rfl 0 23 rfl rfl _ rfl
theorem dX10_is_6 : decode cX10_is 6 = .ok (.iload_n 1, 1) := zq_0 zo_27 zkX10_is_0 6 rfl rfl
theorem dX10_is_7 : decode cX10_is 7 = .ok (.iaload, 1) := zq_0 zo_46 zkX10_is_0 7 rfl rfl
theorem dX10_is_8 : decode cX10_is 8 = .ok (.iconst 1, 1) := zq_0 zo_4 zkX10_is_0 8 rfl rfl
theorem dX10_is_9 : decode cX10_is 9 = .ok (.isub, 1) := zq_0 zo_100 zkX10_is_0 9 rfl rfl
theorem dX10_is_10 : decode cX10_is 10 = .ok (.invokestatic 103, 3) := zq_2 zo_184 zkX10_is_0 10 rfl rfl 0 103 rfl rfl _ rfl
theorem dX10_is_13 : decode cX10_is 13 = .ok (.ireturn, 1) := zq_0 zo_172 zkX10_is_0 13 rfl rfl
theorem zkX10_feed_0 : zqc cX10_feed 0 [42, 3, 181, 0, 91, 42, 180, 0, 13, 3, 46, 16, 20, 96, 17, 2, 88, 164, 0, 5, 2, 172, 42, 27, 182, 0, 107, 42, 28, 182, 0, 107, 42, 29] := zq_of 34 (by decide +kernel)
theorem dX10_feed_0 : decode cX10_feed 0 = .ok (.aload_n 0, 1) := zq_0 zo_42 zkX10_feed_0 0 rfl rfl
theorem dX10_feed_1 : decode cX10_feed 1 = .ok (.iconst 0, 1) := zq_0 zo_3 zkX10_feed_0 1 rfl rfl
theorem dX10_feed_2 : decode cX10_feed 2 = .ok (.putfield 91, 3) := zq_2 zo_181 zkX10_feed_0 2 rfl rfl 0 91 rfl rfl _ rfl
theorem dX10_feed_5 : decode cX10_feed 5 = .ok (.aload_n 0, 1) := zq_0 zo_42 zkX10_feed_0 5 rfl rfl
theorem dX10_feed_6 : decode cX10_feed 6 = .ok (.getfield 13, 3) := zq_2 zo_180 zkX10_feed_0 6 rfl rfl 0 13 rfl rfl _ rfl
theorem dX10_feed_9 : decode cX10_feed 9 = .ok (.iconst 0, 1) := zq_0 zo_3 zkX10_feed_0 9 rfl rfl
theorem dX10_feed_10 : decode cX10_feed 10 = .ok (.iaload, 1) := zq_0 zo_46 zkX10_feed_0 10 rfl rfl
theorem dX10_feed_11 : decode cX10_feed 11 = .ok (.bipush 20, 2) := zq_1s zo_16 zkX10_feed_0 11 rfl rfl 20 rfl _ (by decide +kernel)
theorem dX10_feed_13 : decode cX10_feed 13 = .ok (.iadd, 1) := zq_0 zo_96 zkX10_feed_0 13 rfl rfl
theorem dX10_feed_14 : decode cX10_feed 14 = .ok (.sipush 600, 3) := zq_2s zo_17 zkX10_feed_0 14 rfl rfl 2 88 rfl rfl _ (by decide +kernel)
theorem dX10_feed_17 : decode cX10_feed 17 = .ok (.if_icmp .le 5, 3) := zq_2s zo_164 zkX10_feed_0 17 rfl rfl 0 5 rfl rfl _ (by decide +kernel)
theorem dX10_feed_20 : decode cX10_feed 20 = .ok (.iconst (-1), 1) := zq_0 zo_2 zkX10_feed_0 20 rfl rfl
theorem dX10_feed_21 : decode cX10_feed 21 = .ok (.ireturn, 1) := zq_0 zo_172 zkX10_feed_0 21 rfl rfl
theorem dX10_feed_22 : decode cX10_feed 22 = .ok (.aload_n 0, 1) := zq_0 zo_42 zkX10_feed_0 22 rfl rfl
theorem dX10_feed_23 : decode cX10_feed 23 = .ok (.iload_n 1, 1) := zq_0 zo_27 zkX10_feed_0 23 rfl rfl
theorem dX10_feed_24 : decode cX10_feed 24 = .ok (.invokevirtual 107, 3) := zq_2 zo_182 zkX10_feed_0 24 rfl rfl 0 107 rfl rfl _ rfl
theorem dX10_feed_27 : decode cX10_feed 27 = .ok (.aload_n 0, 1) := zq_0 zo_42 zkX10_feed_0 27 rfl rfl
theorem dX10_feed_28 : decode cX10_feed 28 = .ok (.iload_n 2, 1) := zq_0 zo_28 zkX10_feed_0 28 rfl rfl
theorem dX10_feed_29 : decode cX10_feed 29 = .ok (.invokevirtual 107, 3) := zq_2 zo_182 zkX10_feed_0 29 rfl rfl 0 107 rfl rfl _ rfl
theorem zkX10_feed_32 : zqc cX10_feed 32 [42, 29, 182, 0, 107, 42, 21, 4, 182, 0, 107, 42, 21, 5, 182, 0, 107, 42, 180, 0, 13, 3, 46, 172] := zq_of 24 (by decide +kernel)
theorem dX10_feed_32 : decode cX10_feed 32 = .ok (.aload_n 0, 1) := zq_0 zo_42 zkX10_feed_32 0 rfl rfl
theorem dX10_feed_33 : decode cX10_feed 33 = .ok (.iload_n 3, 1) := zq_0 zo_29 zkX10_feed_32 1 rfl rfl
theorem dX10_feed_34 : decode cX10_feed 34 = .ok (.invokevirtual 107, 3) := zq_2 zo_182 zkX10_feed_32 2 rfl rfl 0 107 rfl rfl _ rfl
theorem dX10_feed_37 : decode cX10_feed 37 = .ok (.aload_n 0, 1) := zq_0 zo_42 zkX10_feed_32 5 rfl rfl
theorem dX10_feed_38 : decode cX10_feed 38 = .ok (.iload 4, 2) := zq_1 zo_21 zkX10_feed_32 6 rfl rfl 4 rfl
theorem dX10_feed_40 : decode cX10_feed 40 = .ok (.invokevirtual 107, 3) := zq_2 zo_182 zkX10_feed_32 8 rfl rfl 0 107 rfl rfl _ rfl
theorem dX10_feed_43 : decode cX10_feed 43 = .ok (.aload_n 0, 1) := zq_0 zo_42 zkX10_feed_32 11 rfl rfl
theorem dX10_feed_44 : decode cX10_feed 44 = .ok (.iload 5, 2) := zq_1 zo_21 zkX10_feed_32 12 rfl rfl 5 rfl
theorem dX10_feed_46 : decode cX10_feed 46 = .ok (.invokevirtual 107, 3) := zq_2 zo_182 zkX10_feed_32 14 rfl rfl 0 107 rfl rfl _ rfl
theorem dX10_feed_49 : decode cX10_feed 49 = .ok (.aload_n 0, 1) := zq_0 zo_42 zkX10_feed_32 17 rfl rfl
theorem dX10_feed_50 : decode cX10_feed 50 = .ok (.getfield 13, 3) := zq_2 zo_180 zkX10_feed_32 18 rfl rfl 0 13 rfl rfl _ rfl
theorem dX10_feed_53 : decode cX10_feed 53 = .ok (.iconst 0, 1) := zq_0 zo_3 zkX10_feed_32 21 rfl rfl
theorem dX10_feed_54 : decode cX10_feed 54 = .ok (.iaload, 1) := zq_0 zo_46 zkX10_feed_32 22 rfl rfl
theorem dX10_feed_55 : decode cX10_feed 55 = .ok (.ireturn, 1) := zq_0 zo_172 zkX10_feed_32 23 rfl rfl
theorem zkX10_four_0 : zqc cX10_four 0 [16, 24, 61, 28, 155, 0, 34, 42, 180, 0, 7, 42, 180, 0, 13, 3, 46, 27, 28, 122, 145, 84, 42, 180, 0, 13, 3, 92, 46, 4, 96, 79, 132, 2] := zq_of 34 (by decide +kernel)
theorem dX10_four_0 : decode cX10_four 0 = .ok (.bipush 24, 2) := zq_1s zo_16 zkX10_four_0 0 rfl rfl 24 rfl _ (by decide +kernel)
theorem dX10_four_2 : decode cX10_four 2 = .ok (.istore_n 2, 1) := zq_0 zo_61 zkX10_four_0 2 rfl rfl
theorem dX10_four_3 : decode cX10_four 3 = .ok (.iload_n 2, 1) := zq_0 zo_28 zkX10_four_0 3 rfl rfl
theorem dX10_four_4 : decode cX10_four 4 = .ok (.ifCond .lt 34, 3) := zq_2s zo_155 zkX10_four_0 4 rfl rfl 0 34 rfl rfl _ (by decide +kernel)
theorem dX10_four_7 : decode cX10_four 7 = .ok (.aload_n 0, 1) := zq_0 zo_42 zkX10_four_0 7 rfl rfl
theorem dX10_four_8 : decode cX10_four 8 = .ok (.getfield 7, 3) := zq_2 zo_180 zkX10_four_0 8 rfl rfl 0 7 rfl rfl _ rfl
theorem dX10_four_11 : decode cX10_four 11 = .ok (.aload_n 0, 1) := zq_0 zo_42 zkX10_four_0 11 rfl rfl
theorem dX10_four_12 : decode cX10_four 12 = .ok (.getfield 13, 3) := zq_2 zo_180 zkX10_four_0 12 rfl rfl 0 13 rfl rfl _ rfl
theorem dX10_four_15 : decode cX10_four 15 = .ok (.iconst 0, 1) := zq_0 zo_3 zkX10_four_0 15 rfl rfl
theorem dX10_four_16 : decode cX10_four 16 = .ok (.iaload, 1) := zq_0 zo_46 zkX10_four_0 16 rfl rfl
theorem dX10_four_17 : decode cX10_four 17 = .ok (.iload_n 1, 1) := zq_0 zo_27 zkX10_four_0 17 rfl rfl
theorem dX10_four_18 : decode cX10_four 18 = .ok (.iload_n 2, 1) := zq_0 zo_28 zkX10_four_0 18 rfl rfl
theorem dX10_four_19 : decode cX10_four 19 = .ok (.ishr, 1) := zq_0 zo_122 zkX10_four_0 19 rfl rfl
theorem dX10_four_20 : decode cX10_four 20 = .ok (.i2b, 1) := zq_0 zo_145 zkX10_four_0 20 rfl rfl
theorem dX10_four_21 : decode cX10_four 21 = .ok (.bastore, 1) := zq_0 zo_84 zkX10_four_0 21 rfl rfl
theorem dX10_four_22 : decode cX10_four 22 = .ok (.aload_n 0, 1) := zq_0 zo_42 zkX10_four_0 22 rfl rfl
theorem dX10_four_23 : decode cX10_four 23 = .ok (.getfield 13, 3) := zq_2 zo_180 zkX10_four_0 23 rfl rfl 0 13 rfl rfl _ rfl
theorem dX10_four_26 : decode cX10_four 26 = .ok (.iconst 0, 1) := zq_0 zo_3 zkX10_four_0 26 rfl rfl
theorem dX10_four_27 : decode cX10_four 27 = .ok (.dup2, 1) := zq_0 zo_92 zkX10_four_0 27 rfl rfl
theorem dX10_four_28 : decode cX10_four 28 = .ok (.iaload, 1) := zq_0 zo_46 zkX10_four_0 28 rfl rfl
theorem dX10_four_29 : decode cX10_four 29 = .ok (.iconst 1, 1) := zq_0 zo_4 zkX10_four_0 29 rfl rfl
theorem dX10_four_30 : decode cX10_four 30 = .ok (.iadd, 1) := zq_0 zo_96 zkX10_four_0 30 rfl rfl
theorem dX10_four_31 : decode cX10_four 31 = .ok (.iastore, 1) := zq_0 zo_79 zkX10_four_0 31 rfl rfl
theorem zkX10_four_32 : zqc cX10_four 32 [132, 2, 248, 167, 255, 224, 177] := zq_of 7 (by decide +kernel)
theorem dX10_four_32 : decode cX10_four 32 = .ok (.iinc 2 (-8), 3) := zq_ii zo_132 zkX10_four_32 0 rfl rfl 2 248 rfl rfl _ (by decide +kernel)
theorem dX10_four_35 : decode cX10_four 35 = .ok (.goto (-32), 3) := zq_2s zo_167 zkX10_four_32 3 rfl rfl 255 224 rfl rfl _ (by decide +kernel)
theorem dX10_four_38 : decode cX10_four 38 = .ok (.return_, 1) := zq_0 zo_177 zkX10_four_32 6 rfl rfl
theorem zkX10_end_0 : zqc cX10_end 0 [42, 3, 181, 0, 91, 27, 3, 42, 180, 0, 13, 3, 46, 184, 0, 103, 154, 0, 5, 2, 172, 42, 180, 0, 13, 3, 27, 79, 27, 172] := zq_of 30 (by decide +kernel)
theorem dX10_end_0 : decode cX10_end 0 = .ok (.aload_n 0, 1) := zq_0 zo_42 zkX10_end_0 0 rfl rfl
theorem dX10_end_1 : decode cX10_end 1 = .ok (.iconst 0, 1) := zq_0 zo_3 zkX10_end_0 1 rfl rfl
theorem dX10_end_2 : decode cX10_end 2 = .ok (.putfield 91, 3) := zq_2 zo_181 zkX10_end_0 2 rfl rfl 0 91 rfl rfl _ rfl
theorem dX10_end_5 : decode cX10_end 5 = .ok (.iload_n 1, 1) := zq_0 zo_27 zkX10_end_0 5 rfl rfl
theorem dX10_end_6 : decode cX10_end 6 = .ok (.iconst 0, 1) := zq_0 zo_3 zkX10_end_0 6 rfl rfl
theorem dX10_end_7 : decode cX10_end 7 = .ok (.aload_n 0, 1) := zq_0 zo_42 zkX10_end_0 7 rfl rfl
theorem dX10_end_8 : decode cX10_end 8 = .ok (.getfield 13, 3) := zq_2 zo_180 zkX10_end_0 8 rfl rfl 0 13 rfl rfl _ rfl
theorem dX10_end_11 : decode cX10_end 11 = .ok (.iconst 0, 1) := zq_0 zo_3 zkX10_end_0 11 rfl rfl
theorem dX10_end_12 : decode cX10_end 12 = .ok (.iaload, 1) := zq_0 zo_46 zkX10_end_0 12 rfl rfl
theorem dX10_end_13 : decode cX10_end 13 = .ok (.invokestatic 103, 3) := zq_2 zo_184 zkX10_end_0 13 rfl rfl 0 103 rfl rfl _ rfl
theorem dX10_end_16 : decode cX10_end 16 = .ok (.ifCond .ne 5, 3) := zq_2s zo_154 zkX10_end_0 16 rfl rfl 0 5 rfl rfl _ (by decide +kernel)
theorem dX10_end_19 : decode cX10_end 19 = .ok (.iconst (-1), 1) := zq_0 zo_2 zkX10_end_0 19 rfl rfl
theorem dX10_end_20 : decode cX10_end 20 = .ok (.ireturn, 1) := zq_0 zo_172 zkX10_end_0 20 rfl rfl
theorem dX10_end_21 : decode cX10_end 21 = .ok (.aload_n 0, 1) := zq_0 zo_42 zkX10_end_0 21 rfl rfl
theorem dX10_end_22 : decode cX10_end 22 = .ok (.getfield 13, 3) := zq_2 zo_180 zkX10_end_0 22 rfl rfl 0 13 rfl rfl _ rfl
theorem dX10_end_25 : decode cX10_end 25 = .ok (.iconst 0, 1) := zq_0 zo_3 zkX10_end_0 25 rfl rfl
theorem dX10_end_26 : decode cX10_end 26 = .ok (.iload_n 1, 1) := zq_0 zo_27 zkX10_end_0 26 rfl rfl
theorem dX10_end_27 : decode cX10_end 27 = .ok (.iastore, 1) := zq_0 zo_79 zkX10_end_0 27 rfl rfl
theorem dX10_end_28 : decode cX10_end 28 = .ok (.iload_n 1, 1) := zq_0 zo_27 zkX10_end_0 28 rfl rfl
theorem dX10_end_29 : decode cX10_end 29 = .ok (.ireturn, 1) := zq_0 zo_172 zkX10_end_0 29 rfl rfl
theorem zkX10_see_0 : zqc cX10_see 0 [42, 180, 0, 111, 42, 180, 0, 114, 162, 0, 19, 42, 180, 0, 7, 42, 180, 0, 111, 51, 17, 0, 255, 126, 167, 0, 4, 2, 172] := zq_of 29 (by decide +kernel)
theorem dX10_see_0 : decode cX10_see 0 = .ok (.aload_n 0, 1) := zq_0 zo_42 zkX10_see_0 0 rfl rfl
theorem dX10_see_1 : decode cX10_see 1 = .ok (.getfield 111, 3) := zq_2 zo_180 zkX10_see_0 1 rfl rfl 0 111 rfl rfl _ rfl
theorem dX10_see_4 : decode cX10_see 4 = .ok (.aload_n 0, 1) := zq_0 zo_42 zkX10_see_0 4 rfl rfl
theorem dX10_see_5 : decode cX10_see 5 = .ok (.getfield 114, 3) := zq_2 zo_180 zkX10_see_0 5 rfl rfl 0 114 rfl rfl _ rfl
theorem dX10_see_8 : decode cX10_see 8 = .ok (.if_icmp .ge 19, 3) := zq_2s zo_162 zkX10_see_0 8 rfl rfl 0 19 rfl rfl _ (by decide +kernel)
theorem dX10_see_11 : decode cX10_see 11 = .ok (.aload_n 0, 1) := zq_0 zo_42 zkX10_see_0 11 rfl rfl
theorem dX10_see_12 : decode cX10_see 12 = .ok (.getfield 7, 3) := zq_2 zo_180 zkX10_see_0 12 rfl rfl 0 7 rfl rfl _ rfl
theorem dX10_see_15 : decode cX10_see 15 = .ok (.aload_n 0, 1) := zq_0 zo_42 zkX10_see_0 15 rfl rfl
theorem dX10_see_16 : decode cX10_see 16 = .ok (.getfield 111, 3) := zq_2 zo_180 zkX10_see_0 16 rfl rfl 0 111 rfl rfl _ rfl
theorem dX10_see_19 : decode cX10_see 19 = .ok (.baload, 1) := zq_0 zo_51 zkX10_see_0 19 rfl rfl
theorem dX10_see_20 : decode cX10_see 20 = .ok (.sipush 255, 3) := zq_2s zo_17 zkX10_see_0 20 rfl rfl 0 255 rfl rfl _ (by decide +kernel)
theorem dX10_see_23 : decode cX10_see 23 = .ok (.iand, 1) := zq_0 zo_126 zkX10_see_0 23 rfl rfl
theorem dX10_see_24 : decode cX10_see 24 = .ok (.goto 4, 3) := zq_2s zo_167 zkX10_see_0 24 rfl rfl 0 4 rfl rfl _ (by decide +kernel)
theorem dX10_see_27 : decode cX10_see 27 = .ok (.iconst (-1), 1) := zq_0 zo_2 zkX10_see_0 27 rfl rfl
theorem dX10_see_28 : decode cX10_see 28 = .ok (.ireturn, 1) := zq_0 zo_172 zkX10_see_0 28 rfl rfl
theorem zkX10_token_0 : zqc cX10_token 0 [42, 182, 0, 117, 16, 10, 159, 0, 12, 42, 182, 0, 117, 16, 32, 160, 0, 16, 42, 89, 180, 0, 111, 4, 96, 181, 0, 111, 167, 255, 228, 42, 42, 180] := zq_of 34 (by decide +kernel)
theorem dX10_token_0 : decode cX10_token 0 = .ok (.aload_n 0, 1) := zq_0 zo_42 zkX10_token_0 0 rfl rfl
theorem dX10_token_1 : decode cX10_token 1 = .ok (.invokevirtual 117, 3) := zq_2 zo_182 zkX10_token_0 1 rfl rfl 0 117 rfl rfl _ rfl
theorem dX10_token_4 : decode cX10_token 4 = .ok (.bipush 10, 2) := zq_1s zo_16 zkX10_token_0 4 rfl rfl 10 rfl _ (by decide +kernel)
theorem dX10_token_6 : decode cX10_token 6 = .ok (.if_icmp .eq 12, 3) := zq_2s zo_159 zkX10_token_0 6 rfl rfl 0 12 rfl rfl _ (by decide +kernel)
theorem dX10_token_9 : decode cX10_token 9 = .ok (.aload_n 0, 1) := zq_0 zo_42 zkX10_token_0 9 rfl rfl
theorem dX10_token_10 : decode cX10_token 10 = .ok (.invokevirtual 117, 3) := zq_2 zo_182 zkX10_token_0 10 rfl rfl 0 117 rfl rfl _ rfl
theorem dX10_token_13 : decode cX10_token 13 = .ok (.bipush 32, 2) := zq_1s zo_16 zkX10_token_0 13 rfl rfl 32 rfl _ (by decide +kernel)
theorem dX10_token_15 : decode cX10_token 15 = .ok (.if_icmp .ne 16, 3) := zq_2s zo_160 zkX10_token_0 15 rfl rfl 0 16 rfl rfl _ (by decide +kernel)
theorem dX10_token_18 : decode cX10_token 18 = .ok (.aload_n 0, 1) := zq_0 zo_42 zkX10_token_0 18 rfl rfl
theorem dX10_token_19 : decode cX10_token 19 = .ok (.dup, 1) := zq_0 zo_89 zkX10_token_0 19 rfl rfl
theorem dX10_token_20 : decode cX10_token 20 = .ok (.getfield 111, 3) := zq_2 zo_180 zkX10_token_0 20 rfl rfl 0 111 rfl rfl _ rfl
theorem dX10_token_23 : decode cX10_token 23 = .ok (.iconst 1, 1) := zq_0 zo_4 zkX10_token_0 23 rfl rfl
theorem dX10_token_24 : decode cX10_token 24 = .ok (.iadd, 1) := zq_0 zo_96 zkX10_token_0 24 rfl rfl
theorem dX10_token_25 : decode cX10_token 25 = .ok (.putfield 111, 3) := zq_2 zo_181 zkX10_token_0 25 rfl rfl 0 111 rfl rfl _ rfl
theorem dX10_token_28 : decode cX10_token 28 = .ok (.goto (-28), 3) := zq_2s zo_167 zkX10_token_0 28 rfl rfl 255 228 rfl rfl _ (by decide +kernel)
theorem dX10_token_31 : decode cX10_token 31 = .ok (.aload_n 0, 1) := zq_0 zo_42 zkX10_token_0 31 rfl rfl
theorem zkX10_token_32 : zqc cX10_token 32 [42, 180, 0, 111, 181, 0, 121, 42, 182, 0, 117, 60, 42, 9, 181, 0, 124, 3, 61, 27, 156, 0, 11, 42, 3, 181, 0, 128, 167, 0, 206, 27, 16, 97] := zq_of 34 (by decide +kernel)
theorem dX10_token_32 : decode cX10_token 32 = .ok (.aload_n 0, 1) := zq_0 zo_42 zkX10_token_32 0 rfl rfl
theorem dX10_token_33 : decode cX10_token 33 = .ok (.getfield 111, 3) := zq_2 zo_180 zkX10_token_32 1 rfl rfl 0 111 rfl rfl _ rfl
theorem dX10_token_36 : decode cX10_token 36 = .ok (.putfield 121, 3) := zq_2 zo_181 zkX10_token_32 4 rfl rfl 0 121 rfl rfl _ rfl
theorem dX10_token_39 : decode cX10_token 39 = .ok (.aload_n 0, 1) := zq_0 zo_42 zkX10_token_32 7 rfl rfl
theorem dX10_token_40 : decode cX10_token 40 = .ok (.invokevirtual 117, 3) := zq_2 zo_182 zkX10_token_32 8 rfl rfl 0 117 rfl rfl _ rfl
theorem dX10_token_43 : decode cX10_token 43 = .ok (.istore_n 1, 1) := zq_0 zo_60 zkX10_token_32 11 rfl rfl
theorem dX10_token_44 : decode cX10_token 44 = .ok (.aload_n 0, 1) := zq_0 zo_42 zkX10_token_32 12 rfl rfl
theorem dX10_token_45 : decode cX10_token 45 = .ok (.lconst 0, 1) := zq_0 zo_9 zkX10_token_32 13 rfl rfl
theorem dX10_token_46 : decode cX10_token 46 = .ok (.putfield 124, 3) := zq_2 zo_181 zkX10_token_32 14 rfl rfl 0 124 rfl rfl _ rfl
theorem dX10_token_49 : decode cX10_token 49 = .ok (.iconst 0, 1) := zq_0 zo_3 zkX10_token_32 17 rfl rfl
theorem dX10_token_50 : decode cX10_token 50 = .ok (.istore_n 2, 1) := zq_0 zo_61 zkX10_token_32 18 rfl rfl
theorem dX10_token_51 : decode cX10_token 51 = .ok (.iload_n 1, 1) := zq_0 zo_27 zkX10_token_32 19 rfl rfl
theorem dX10_token_52 : decode cX10_token 52 = .ok (.ifCond .ge 11, 3) := zq_2s zo_156 zkX10_token_32 20 rfl rfl 0 11 rfl rfl _ (by decide +kernel)
theorem dX10_token_55 : decode cX10_token 55 = .ok (.aload_n 0, 1) := zq_0 zo_42 zkX10_token_32 23 rfl rfl
theorem dX10_token_56 : decode cX10_token 56 = .ok (.iconst 0, 1) := zq_0 zo_3 zkX10_token_32 24 rfl rfl
theorem dX10_token_57 : decode cX10_token 57 = .ok (.putfield 128, 3) := zq_2 zo_181 zkX10_token_32 25 rfl rfl 0 128 rfl rfl _ rfl
theorem dX10_token_60 : decode cX10_token 60 = .ok (.goto 206, 3) := zq_2s zo_167 zkX10_token_32 28 rfl rfl 0 206 rfl rfl _ (by decide +kernel)
theorem dX10_token_63 : decode cX10_token 63 = .ok (.iload_n 1, 1) := zq_0 zo_27 zkX10_token_32 31 rfl rfl
theorem zkX10_token_64 : zqc cX10_token 64 [16, 97, 16, 122, 184, 0, 103, 153, 0, 76, 42, 182, 0, 117, 16, 97, 16, 122, 184, 0, 103, 153, 0, 36, 42, 42, 180, 0, 124, 16, 8, 121, 42, 182] := zq_of 34 (by decide +kernel)
theorem dX10_token_64 : decode cX10_token 64 = .ok (.bipush 97, 2) := zq_1s zo_16 zkX10_token_64 0 rfl rfl 97 rfl _ (by decide +kernel)
theorem dX10_token_66 : decode cX10_token 66 = .ok (.bipush 122, 2) := zq_1s zo_16 zkX10_token_64 2 rfl rfl 122 rfl _ (by decide +kernel)
theorem dX10_token_68 : decode cX10_token 68 = .ok (.invokestatic 103, 3) := zq_2 zo_184 zkX10_token_64 4 rfl rfl 0 103 rfl rfl _ rfl
theorem dX10_token_71 : decode cX10_token 71 = .ok (.ifCond .eq 76, 3) := zq_2s zo_153 zkX10_token_64 7 rfl rfl 0 76 rfl rfl _ (by decide +kernel)
theorem dX10_token_74 : decode cX10_token 74 = .ok (.aload_n 0, 1) := zq_0 zo_42 zkX10_token_64 10 rfl rfl
theorem dX10_token_75 : decode cX10_token 75 = .ok (.invokevirtual 117, 3) := zq_2 zo_182 zkX10_token_64 11 rfl rfl 0 117 rfl rfl _ rfl
theorem dX10_token_78 : decode cX10_token 78 = .ok (.bipush 97, 2) := zq_1s zo_16 zkX10_token_64 14 rfl rfl 97 rfl _ (by decide +kernel)
theorem dX10_token_80 : decode cX10_token 80 = .ok (.bipush 122, 2) := zq_1s zo_16 zkX10_token_64 16 rfl rfl 122 rfl _ (by decide +kernel)
theorem dX10_token_82 : decode cX10_token 82 = .ok (.invokestatic 103, 3) := zq_2 zo_184 zkX10_token_64 18 rfl rfl 0 103 rfl rfl _ rfl
theorem dX10_token_85 : decode cX10_token 85 = .ok (.ifCond .eq 36, 3) := zq_2s zo_153 zkX10_token_64 21 rfl rfl 0 36 rfl rfl _ (by decide +kernel)
theorem dX10_token_88 : decode cX10_token 88 = .ok (.aload_n 0, 1) := zq_0 zo_42 zkX10_token_64 24 rfl rfl
theorem dX10_token_89 : decode cX10_token 89 = .ok (.aload_n 0, 1) := zq_0 zo_42 zkX10_token_64 25 rfl rfl
theorem dX10_token_90 : decode cX10_token 90 = .ok (.getfield 124, 3) := zq_2 zo_180 zkX10_token_64 26 rfl rfl 0 124 rfl rfl _ rfl
theorem dX10_token_93 : decode cX10_token 93 = .ok (.bipush 8, 2) := zq_1s zo_16 zkX10_token_64 29 rfl rfl 8 rfl _ (by decide +kernel)
theorem dX10_token_95 : decode cX10_token 95 = .ok (.lshl, 1) := zq_0 zo_121 zkX10_token_64 31 rfl rfl
theorem zkX10_token_96 : zqc cX10_token 96 [42, 182, 0, 117, 133, 129, 181, 0, 124, 42, 89, 180, 0, 111, 4, 96, 181, 0, 111, 132, 2, 1, 167, 255, 212, 42, 28, 16, 8, 164, 0, 7, 9, 167] := zq_of 34 (by decide +kernel)
theorem dX10_token_96 : decode cX10_token 96 = .ok (.aload_n 0, 1) := zq_0 zo_42 zkX10_token_96 0 rfl rfl
theorem dX10_token_97 : decode cX10_token 97 = .ok (.invokevirtual 117, 3) := zq_2 zo_182 zkX10_token_96 1 rfl rfl 0 117 rfl rfl _ rfl
theorem dX10_token_100 : decode cX10_token 100 = .ok (.i2l, 1) := zq_0 zo_133 zkX10_token_96 4 rfl rfl
theorem dX10_token_101 : decode cX10_token 101 = .ok (.lor, 1) := zq_0 zo_129 zkX10_token_96 5 rfl rfl
theorem dX10_token_102 : decode cX10_token 102 = .ok (.putfield 124, 3) := zq_2 zo_181 zkX10_token_96 6 rfl rfl 0 124 rfl rfl _ rfl
theorem dX10_token_105 : decode cX10_token 105 = .ok (.aload_n 0, 1) := zq_0 zo_42 zkX10_token_96 9 rfl rfl
theorem dX10_token_106 : decode cX10_token 106 = .ok (.dup, 1) := zq_0 zo_89 zkX10_token_96 10 rfl rfl
theorem dX10_token_107 : decode cX10_token 107 = .ok (.getfield 111, 3) := zq_2 zo_180 zkX10_token_96 11 rfl rfl 0 111 rfl rfl _ rfl
theorem dX10_token_110 : decode cX10_token 110 = .ok (.iconst 1, 1) := zq_0 zo_4 zkX10_token_96 14 rfl rfl
theorem dX10_token_111 : decode cX10_token 111 = .ok (.iadd, 1) := zq_0 zo_96 zkX10_token_96 15 rfl rfl
theorem dX10_token_112 : decode cX10_token 112 = .ok (.putfield 111, 3) := zq_2 zo_181 zkX10_token_96 16 rfl rfl 0 111 rfl rfl _ rfl
theorem dX10_token_115 : decode cX10_token 115 = .ok (.iinc 2 1, 3) := zq_ii zo_132 zkX10_token_96 19 rfl rfl 2 1 rfl rfl _ (by decide +kernel)
theorem dX10_token_118 : decode cX10_token 118 = .ok (.goto (-44), 3) := zq_2s zo_167 zkX10_token_96 22 rfl rfl 255 212 rfl rfl _ (by decide +kernel)
theorem dX10_token_121 : decode cX10_token 121 = .ok (.aload_n 0, 1) := zq_0 zo_42 zkX10_token_96 25 rfl rfl
theorem dX10_token_122 : decode cX10_token 122 = .ok (.iload_n 2, 1) := zq_0 zo_28 zkX10_token_96 26 rfl rfl
theorem dX10_token_123 : decode cX10_token 123 = .ok (.bipush 8, 2) := zq_1s zo_16 zkX10_token_96 27 rfl rfl 8 rfl _ (by decide +kernel)
theorem dX10_token_125 : decode cX10_token 125 = .ok (.if_icmp .le 7, 3) := zq_2s zo_164 zkX10_token_96 29 rfl rfl 0 7 rfl rfl _ (by decide +kernel)
theorem zkX10_token_128 : zqc cX10_token 128 [9, 167, 0, 7, 42, 180, 0, 124, 181, 0, 124, 42, 5, 181, 0, 128, 167, 0, 122, 27, 16, 48, 16, 57, 184, 0, 103, 153, 0, 86, 42, 3, 181, 0] := zq_of 34 (by decide +kernel)
theorem dX10_token_128 : decode cX10_token 128 = .ok (.lconst 0, 1) := zq_0 zo_9 zkX10_token_128 0 rfl rfl
theorem dX10_token_129 : decode cX10_token 129 = .ok (.goto 7, 3) := zq_2s zo_167 zkX10_token_128 1 rfl rfl 0 7 rfl rfl _ (by decide +kernel)
theorem dX10_token_132 : decode cX10_token 132 = .ok (.aload_n 0, 1) := zq_0 zo_42 zkX10_token_128 4 rfl rfl
theorem dX10_token_133 : decode cX10_token 133 = .ok (.getfield 124, 3) := zq_2 zo_180 zkX10_token_128 5 rfl rfl 0 124 rfl rfl _ rfl
theorem dX10_token_136 : decode cX10_token 136 = .ok (.putfield 124, 3) := zq_2 zo_181 zkX10_token_128 8 rfl rfl 0 124 rfl rfl _ rfl
theorem dX10_token_139 : decode cX10_token 139 = .ok (.aload_n 0, 1) := zq_0 zo_42 zkX10_token_128 11 rfl rfl
theorem dX10_token_140 : decode cX10_token 140 = .ok (.iconst 2, 1) := zq_0 zo_5 zkX10_token_128 12 rfl rfl
theorem dX10_token_141 : decode cX10_token 141 = .ok (.putfield 128, 3) := zq_2 zo_181 zkX10_token_128 13 rfl rfl 0 128 rfl rfl _ rfl
theorem dX10_token_144 : decode cX10_token 144 = .ok (.goto 122, 3) := zq_2s zo_167 zkX10_token_128 16 rfl rfl 0 122 rfl rfl _ (by decide +kernel)
theorem dX10_token_147 : decode cX10_token 147 = .ok (.iload_n 1, 1) := zq_0 zo_27 zkX10_token_128 19 rfl rfl
theorem dX10_token_148 : decode cX10_token 148 = .ok (.bipush 48, 2) := zq_1s zo_16 zkX10_token_128 20 rfl rfl 48 rfl _ (by decide +kernel)
theorem dX10_token_150 : decode cX10_token 150 = .ok (.bipush 57, 2) := zq_1s zo_16 zkX10_token_128 22 rfl rfl 57 rfl _ (by decide +kernel)
theorem dX10_token_152 : decode cX10_token 152 = .ok (.invokestatic 103, 3) := zq_2 zo_184 zkX10_token_128 24 rfl rfl 0 103 rfl rfl _ rfl
theorem dX10_token_155 : decode cX10_token 155 = .ok (.ifCond .eq 86, 3) := zq_2s zo_153 zkX10_token_128 27 rfl rfl 0 86 rfl rfl _ (by decide +kernel)
theorem dX10_token_158 : decode cX10_token 158 = .ok (.aload_n 0, 1) := zq_0 zo_42 zkX10_token_128 30 rfl rfl
theorem dX10_token_159 : decode cX10_token 159 = .ok (.iconst 0, 1) := zq_0 zo_3 zkX10_token_128 31 rfl rfl
theorem zkX10_token_160 : zqc cX10_token 160 [181, 0, 131, 42, 182, 0, 117, 16, 48, 16, 57, 184, 0, 103, 153, 0, 50, 42, 28, 6, 162, 0, 21, 16, 10, 42, 180, 0, 131, 104, 42, 182, 0, 117] := zq_of 34 (by decide +kernel)
theorem dX10_token_160 : decode cX10_token 160 = .ok (.putfield 131, 3) := zq_2 zo_181 zkX10_token_160 0 rfl rfl 0 131 rfl rfl _ rfl
theorem dX10_token_163 : decode cX10_token 163 = .ok (.aload_n 0, 1) := zq_0 zo_42 zkX10_token_160 3 rfl rfl
theorem dX10_token_164 : decode cX10_token 164 = .ok (.invokevirtual 117, 3) := zq_2 zo_182 zkX10_token_160 4 rfl rfl 0 117 rfl rfl _ rfl
theorem dX10_token_167 : decode cX10_token 167 = .ok (.bipush 48, 2) := zq_1s zo_16 zkX10_token_160 7 rfl rfl 48 rfl _ (by decide +kernel)
theorem dX10_token_169 : decode cX10_token 169 = .ok (.bipush 57, 2) := zq_1s zo_16 zkX10_token_160 9 rfl rfl 57 rfl _ (by decide +kernel)
theorem dX10_token_171 : decode cX10_token 171 = .ok (.invokestatic 103, 3) := zq_2 zo_184 zkX10_token_160 11 rfl rfl 0 103 rfl rfl _ rfl
theorem dX10_token_174 : decode cX10_token 174 = .ok (.ifCond .eq 50, 3) := zq_2s zo_153 zkX10_token_160 14 rfl rfl 0 50 rfl rfl _ (by decide +kernel)
theorem dX10_token_177 : decode cX10_token 177 = .ok (.aload_n 0, 1) := zq_0 zo_42 zkX10_token_160 17 rfl rfl
theorem dX10_token_178 : decode cX10_token 178 = .ok (.iload_n 2, 1) := zq_0 zo_28 zkX10_token_160 18 rfl rfl
theorem dX10_token_179 : decode cX10_token 179 = .ok (.iconst 3, 1) := zq_0 zo_6 zkX10_token_160 19 rfl rfl
theorem dX10_token_180 : decode cX10_token 180 = .ok (.if_icmp .ge 21, 3) := zq_2s zo_162 zkX10_token_160 20 rfl rfl 0 21 rfl rfl _ (by decide +kernel)
theorem dX10_token_183 : decode cX10_token 183 = .ok (.bipush 10, 2) := zq_1s zo_16 zkX10_token_160 23 rfl rfl 10 rfl _ (by decide +kernel)
theorem dX10_token_185 : decode cX10_token 185 = .ok (.aload_n 0, 1) := zq_0 zo_42 zkX10_token_160 25 rfl rfl
theorem dX10_token_186 : decode cX10_token 186 = .ok (.getfield 131, 3) := zq_2 zo_180 zkX10_token_160 26 rfl rfl 0 131 rfl rfl _ rfl
theorem dX10_token_189 : decode cX10_token 189 = .ok (.imul, 1) := zq_0 zo_104 zkX10_token_160 29 rfl rfl
theorem dX10_token_190 : decode cX10_token 190 = .ok (.aload_n 0, 1) := zq_0 zo_42 zkX10_token_160 30 rfl rfl
theorem dX10_token_191 : decode cX10_token 191 = .ok (.invokevirtual 117, 3) := zq_2 zo_182 zkX10_token_160 31 rfl rfl 0 117 rfl rfl _ rfl
theorem zkX10_token_192 : zqc cX10_token 192 [0, 117, 96, 16, 48, 100, 167, 0, 7, 42, 180, 0, 131, 181, 0, 131, 42, 89, 180, 0, 111, 4, 96, 181, 0, 111, 132, 2, 1, 167, 255, 198, 42, 28] := zq_of 34 (by decide +kernel)
theorem dX10_token_194 : decode cX10_token 194 = .ok (.iadd, 1) := zq_0 zo_96 zkX10_token_192 2 rfl rfl
theorem dX10_token_195 : decode cX10_token 195 = .ok (.bipush 48, 2) := zq_1s zo_16 zkX10_token_192 3 rfl rfl 48 rfl _ (by decide +kernel)
theorem dX10_token_197 : decode cX10_token 197 = .ok (.isub, 1) := zq_0 zo_100 zkX10_token_192 5 rfl rfl
theorem dX10_token_198 : decode cX10_token 198 = .ok (.goto 7, 3) := zq_2s zo_167 zkX10_token_192 6 rfl rfl 0 7 rfl rfl _ (by decide +kernel)
theorem dX10_token_201 : decode cX10_token 201 = .ok (.aload_n 0, 1) := zq_0 zo_42 zkX10_token_192 9 rfl rfl
theorem dX10_token_202 : decode cX10_token 202 = .ok (.getfield 131, 3) := zq_2 zo_180 zkX10_token_192 10 rfl rfl 0 131 rfl rfl _ rfl
theorem dX10_token_205 : decode cX10_token 205 = .ok (.putfield 131, 3) := zq_2 zo_181 zkX10_token_192 13 rfl rfl 0 131 rfl rfl _ rfl
theorem dX10_token_208 : decode cX10_token 208 = .ok (.aload_n 0, 1) := zq_0 zo_42 zkX10_token_192 16 rfl rfl
theorem dX10_token_209 : decode cX10_token 209 = .ok (.dup, 1) := zq_0 zo_89 zkX10_token_192 17 rfl rfl
theorem dX10_token_210 : decode cX10_token 210 = .ok (.getfield 111, 3) := zq_2 zo_180 zkX10_token_192 18 rfl rfl 0 111 rfl rfl _ rfl
theorem dX10_token_213 : decode cX10_token 213 = .ok (.iconst 1, 1) := zq_0 zo_4 zkX10_token_192 21 rfl rfl
theorem dX10_token_214 : decode cX10_token 214 = .ok (.iadd, 1) := zq_0 zo_96 zkX10_token_192 22 rfl rfl
theorem dX10_token_215 : decode cX10_token 215 = .ok (.putfield 111, 3) := zq_2 zo_181 zkX10_token_192 23 rfl rfl 0 111 rfl rfl _ rfl
theorem dX10_token_218 : decode cX10_token 218 = .ok (.iinc 2 1, 3) := zq_ii zo_132 zkX10_token_192 26 rfl rfl 2 1 rfl rfl _ (by decide +kernel)
theorem dX10_token_221 : decode cX10_token 221 = .ok (.goto (-58), 3) := zq_2s zo_167 zkX10_token_192 29 rfl rfl 255 198 rfl rfl _ (by decide +kernel)
theorem zkX10_token_224 : zqc cX10_token 224 [42, 28, 6, 164, 0, 7, 4, 167, 0, 4, 6, 181, 0, 128, 167, 0, 28, 42, 89, 180, 0, 111, 4, 96, 181, 0, 111, 42, 27, 16, 59, 160, 0, 7] := zq_of 34 (by decide +kernel)
theorem dX10_token_224 : decode cX10_token 224 = .ok (.aload_n 0, 1) := zq_0 zo_42 zkX10_token_224 0 rfl rfl
theorem dX10_token_225 : decode cX10_token 225 = .ok (.iload_n 2, 1) := zq_0 zo_28 zkX10_token_224 1 rfl rfl
theorem dX10_token_226 : decode cX10_token 226 = .ok (.iconst 3, 1) := zq_0 zo_6 zkX10_token_224 2 rfl rfl
theorem dX10_token_227 : decode cX10_token 227 = .ok (.if_icmp .le 7, 3) := zq_2s zo_164 zkX10_token_224 3 rfl rfl 0 7 rfl rfl _ (by decide +kernel)
theorem dX10_token_230 : decode cX10_token 230 = .ok (.iconst 1, 1) := zq_0 zo_4 zkX10_token_224 6 rfl rfl
theorem dX10_token_231 : decode cX10_token 231 = .ok (.goto 4, 3) := zq_2s zo_167 zkX10_token_224 7 rfl rfl 0 4 rfl rfl _ (by decide +kernel)
theorem dX10_token_234 : decode cX10_token 234 = .ok (.iconst 3, 1) := zq_0 zo_6 zkX10_token_224 10 rfl rfl
theorem dX10_token_235 : decode cX10_token 235 = .ok (.putfield 128, 3) := zq_2 zo_181 zkX10_token_224 11 rfl rfl 0 128 rfl rfl _ rfl
theorem dX10_token_238 : decode cX10_token 238 = .ok (.goto 28, 3) := zq_2s zo_167 zkX10_token_224 14 rfl rfl 0 28 rfl rfl _ (by decide +kernel)
theorem dX10_token_241 : decode cX10_token 241 = .ok (.aload_n 0, 1) := zq_0 zo_42 zkX10_token_224 17 rfl rfl
theorem dX10_token_242 : decode cX10_token 242 = .ok (.dup, 1) := zq_0 zo_89 zkX10_token_224 18 rfl rfl
theorem dX10_token_243 : decode cX10_token 243 = .ok (.getfield 111, 3) := zq_2 zo_180 zkX10_token_224 19 rfl rfl 0 111 rfl rfl _ rfl
theorem dX10_token_246 : decode cX10_token 246 = .ok (.iconst 1, 1) := zq_0 zo_4 zkX10_token_224 22 rfl rfl
theorem dX10_token_247 : decode cX10_token 247 = .ok (.iadd, 1) := zq_0 zo_96 zkX10_token_224 23 rfl rfl
theorem dX10_token_248 : decode cX10_token 248 = .ok (.putfield 111, 3) := zq_2 zo_181 zkX10_token_224 24 rfl rfl 0 111 rfl rfl _ rfl
theorem dX10_token_251 : decode cX10_token 251 = .ok (.aload_n 0, 1) := zq_0 zo_42 zkX10_token_224 27 rfl rfl
theorem dX10_token_252 : decode cX10_token 252 = .ok (.iload_n 1, 1) := zq_0 zo_27 zkX10_token_224 28 rfl rfl
theorem dX10_token_253 : decode cX10_token 253 = .ok (.bipush 59, 2) := zq_1s zo_16 zkX10_token_224 29 rfl rfl 59 rfl _ (by decide +kernel)
theorem dX10_token_255 : decode cX10_token 255 = .ok (.if_icmp .ne 7, 3) := zq_2s zo_160 zkX10_token_224 31 rfl rfl 0 7 rfl rfl _ (by decide +kernel)
theorem zkX10_token_256 : zqc cX10_token 256 [0, 7, 7, 167, 0, 4, 4, 181, 0, 128, 177] := zq_of 11 (by decide +kernel)
theorem dX10_token_258 : decode cX10_token 258 = .ok (.iconst 4, 1) := zq_0 zo_7 zkX10_token_256 2 rfl rfl
theorem dX10_token_259 : decode cX10_token 259 = .ok (.goto 4, 3) := zq_2s zo_167 zkX10_token_256 3 rfl rfl 0 4 rfl rfl _ (by decide +kernel)
theorem dX10_token_262 : decode cX10_token 262 = .ok (.iconst 1, 1) := zq_0 zo_4 zkX10_token_256 6 rfl rfl
theorem dX10_token_263 : decode cX10_token 263 = .ok (.putfield 128, 3) := zq_2 zo_181 zkX10_token_256 7 rfl rfl 0 128 rfl rfl _ rfl
theorem dX10_token_266 : decode cX10_token 266 = .ok (.return_, 1) := zq_0 zo_177 zkX10_token_256 10 rfl rfl
theorem zkX10_fails_0 : zqc cX10_fails 0 [42, 42, 180, 0, 121, 181, 0, 134, 3, 172] := zq_of 10 (by decide +kernel)
theorem dX10_fails_0 : decode cX10_fails 0 = .ok (.aload_n 0, 1) := zq_0 zo_42 zkX10_fails_0 0 rfl rfl
theorem dX10_fails_1 : decode cX10_fails 1 = .ok (.aload_n 0, 1) := zq_0 zo_42 zkX10_fails_0 1 rfl rfl
theorem dX10_fails_2 : decode cX10_fails 2 = .ok (.getfield 121, 3) := zq_2 zo_180 zkX10_fails_0 2 rfl rfl 0 121 rfl rfl _ rfl
theorem dX10_fails_5 : decode cX10_fails 5 = .ok (.putfield 134, 3) := zq_2 zo_181 zkX10_fails_0 5 rfl rfl 0 134 rfl rfl _ rfl
theorem dX10_fails_8 : decode cX10_fails 8 = .ok (.iconst 0, 1) := zq_0 zo_3 zkX10_fails_0 8 rfl rfl
theorem dX10_fails_9 : decode cX10_fails 9 = .ok (.ireturn, 1) := zq_0 zo_172 zkX10_fails_0 9 rfl rfl
theorem zkX10_later_0 : zqc cX10_later 0 [42, 180, 0, 137, 153, 0, 27, 28, 42, 180, 0, 140, 161, 0, 19, 28, 42, 180, 0, 140, 160, 0, 21, 27, 42, 180, 0, 137, 162, 0, 13, 42, 27, 181] := zq_of 34 (by decide +kernel)
theorem dX10_later_0 : decode cX10_later 0 = .ok (.aload_n 0, 1) := zq_0 zo_42 zkX10_later_0 0 rfl rfl
theorem dX10_later_1 : decode cX10_later 1 = .ok (.getfield 137, 3) := zq_2 zo_180 zkX10_later_0 1 rfl rfl 0 137 rfl rfl _ rfl
theorem dX10_later_4 : decode cX10_later 4 = .ok (.ifCond .eq 27, 3) := zq_2s zo_153 zkX10_later_0 4 rfl rfl 0 27 rfl rfl _ (by decide +kernel)
theorem dX10_later_7 : decode cX10_later 7 = .ok (.iload_n 2, 1) := zq_0 zo_28 zkX10_later_0 7 rfl rfl
theorem dX10_later_8 : decode cX10_later 8 = .ok (.aload_n 0, 1) := zq_0 zo_42 zkX10_later_0 8 rfl rfl
theorem dX10_later_9 : decode cX10_later 9 = .ok (.getfield 140, 3) := zq_2 zo_180 zkX10_later_0 9 rfl rfl 0 140 rfl rfl _ rfl
theorem dX10_later_12 : decode cX10_later 12 = .ok (.if_icmp .lt 19, 3) := zq_2s zo_161 zkX10_later_0 12 rfl rfl 0 19 rfl rfl _ (by decide +kernel)
theorem dX10_later_15 : decode cX10_later 15 = .ok (.iload_n 2, 1) := zq_0 zo_28 zkX10_later_0 15 rfl rfl
theorem dX10_later_16 : decode cX10_later 16 = .ok (.aload_n 0, 1) := zq_0 zo_42 zkX10_later_0 16 rfl rfl
theorem dX10_later_17 : decode cX10_later 17 = .ok (.getfield 140, 3) := zq_2 zo_180 zkX10_later_0 17 rfl rfl 0 140 rfl rfl _ rfl
theorem dX10_later_20 : decode cX10_later 20 = .ok (.if_icmp .ne 21, 3) := zq_2s zo_160 zkX10_later_0 20 rfl rfl 0 21 rfl rfl _ (by decide +kernel)
theorem dX10_later_23 : decode cX10_later 23 = .ok (.iload_n 1, 1) := zq_0 zo_27 zkX10_later_0 23 rfl rfl
theorem dX10_later_24 : decode cX10_later 24 = .ok (.aload_n 0, 1) := zq_0 zo_42 zkX10_later_0 24 rfl rfl
theorem dX10_later_25 : decode cX10_later 25 = .ok (.getfield 137, 3) := zq_2 zo_180 zkX10_later_0 25 rfl rfl 0 137 rfl rfl _ rfl
theorem dX10_later_28 : decode cX10_later 28 = .ok (.if_icmp .ge 13, 3) := zq_2s zo_162 zkX10_later_0 28 rfl rfl 0 13 rfl rfl _ (by decide +kernel)
theorem dX10_later_31 : decode cX10_later 31 = .ok (.aload_n 0, 1) := zq_0 zo_42 zkX10_later_0 31 rfl rfl
theorem zkX10_later_32 : zqc cX10_later 32 [27, 181, 0, 137, 42, 28, 181, 0, 140, 177] := zq_of 10 (by decide +kernel)
theorem dX10_later_32 : decode cX10_later 32 = .ok (.iload_n 1, 1) := zq_0 zo_27 zkX10_later_32 0 rfl rfl
theorem dX10_later_33 : decode cX10_later 33 = .ok (.putfield 137, 3) := zq_2 zo_181 zkX10_later_32 1 rfl rfl 0 137 rfl rfl _ rfl
theorem dX10_later_36 : decode cX10_later 36 = .ok (.aload_n 0, 1) := zq_0 zo_42 zkX10_later_32 4 rfl rfl
theorem dX10_later_37 : decode cX10_later 37 = .ok (.iload_n 2, 1) := zq_0 zo_28 zkX10_later_32 5 rfl rfl
theorem dX10_later_38 : decode cX10_later 38 = .ok (.putfield 140, 3) := zq_2 zo_181 zkX10_later_32 6 rfl rfl 0 140 rfl rfl _ rfl
theorem dX10_later_41 : decode cX10_later 41 = .ok (.return_, 1) := zq_0 zo_177 zkX10_later_32 9 rfl rfl
theorem zkX10_take_0 : zqc cX10_take 0 [42, 180, 0, 128, 6, 159, 0, 8, 42, 182, 0, 143, 172, 42, 180, 0, 38, 27, 42, 180, 0, 131, 79, 42, 180, 0, 131, 28, 29, 184, 0, 103, 154, 0] := zq_of 34 (by decide +kernel)
theorem dX10_take_0 : decode cX10_take 0 = .ok (.aload_n 0, 1) := zq_0 zo_42 zkX10_take_0 0 rfl rfl
theorem dX10_take_1 : decode cX10_take 1 = .ok (.getfield 128, 3) := zq_2 zo_180 zkX10_take_0 1 rfl rfl 0 128 rfl rfl _ rfl
theorem dX10_take_4 : decode cX10_take 4 = .ok (.iconst 3, 1) := zq_0 zo_6 zkX10_take_0 4 rfl rfl
theorem dX10_take_5 : decode cX10_take 5 = .ok (.if_icmp .eq 8, 3) := zq_2s zo_159 zkX10_take_0 5 rfl rfl 0 8 rfl rfl _ (by decide +kernel)
theorem dX10_take_8 : decode cX10_take 8 = .ok (.aload_n 0, 1) := zq_0 zo_42 zkX10_take_0 8 rfl rfl
theorem dX10_take_9 : decode cX10_take 9 = .ok (.invokevirtual 143, 3) := zq_2 zo_182 zkX10_take_0 9 rfl rfl 0 143 rfl rfl _ rfl
theorem dX10_take_12 : decode cX10_take 12 = .ok (.ireturn, 1) := zq_0 zo_172 zkX10_take_0 12 rfl rfl
theorem dX10_take_13 : decode cX10_take 13 = .ok (.aload_n 0, 1) := zq_0 zo_42 zkX10_take_0 13 rfl rfl
theorem dX10_take_14 : decode cX10_take 14 = .ok (.getfield 38, 3) := zq_2 zo_180 zkX10_take_0 14 rfl rfl 0 38 rfl rfl _ rfl
theorem dX10_take_17 : decode cX10_take 17 = .ok (.iload_n 1, 1) := zq_0 zo_27 zkX10_take_0 17 rfl rfl
theorem dX10_take_18 : decode cX10_take 18 = .ok (.aload_n 0, 1) := zq_0 zo_42 zkX10_take_0 18 rfl rfl
theorem dX10_take_19 : decode cX10_take 19 = .ok (.getfield 131, 3) := zq_2 zo_180 zkX10_take_0 19 rfl rfl 0 131 rfl rfl _ rfl
theorem dX10_take_22 : decode cX10_take 22 = .ok (.iastore, 1) := zq_0 zo_79 zkX10_take_0 22 rfl rfl
theorem dX10_take_23 : decode cX10_take 23 = .ok (.aload_n 0, 1) := zq_0 zo_42 zkX10_take_0 23 rfl rfl
theorem dX10_take_24 : decode cX10_take 24 = .ok (.getfield 131, 3) := zq_2 zo_180 zkX10_take_0 24 rfl rfl 0 131 rfl rfl _ rfl
theorem dX10_take_27 : decode cX10_take 27 = .ok (.iload_n 2, 1) := zq_0 zo_28 zkX10_take_0 27 rfl rfl
theorem dX10_take_28 : decode cX10_take 28 = .ok (.iload_n 3, 1) := zq_0 zo_29 zkX10_take_0 28 rfl rfl
theorem dX10_take_29 : decode cX10_take 29 = .ok (.invokestatic 103, 3) := zq_2 zo_184 zkX10_take_0 29 rfl rfl 0 103 rfl rfl _ rfl
theorem zkX10_take_32 : zqc cX10_take 32 [154, 0, 12, 42, 5, 42, 180, 0, 121, 182, 0, 147, 42, 182, 0, 151, 4, 172] := zq_of 18 (by decide +kernel)
theorem dX10_take_32 : decode cX10_take 32 = .ok (.ifCond .ne 12, 3) := zq_2s zo_154 zkX10_take_32 0 rfl rfl 0 12 rfl rfl _ (by decide +kernel)
theorem dX10_take_35 : decode cX10_take 35 = .ok (.aload_n 0, 1) := zq_0 zo_42 zkX10_take_32 3 rfl rfl
theorem dX10_take_36 : decode cX10_take 36 = .ok (.iconst 2, 1) := zq_0 zo_5 zkX10_take_32 4 rfl rfl
theorem dX10_take_37 : decode cX10_take 37 = .ok (.aload_n 0, 1) := zq_0 zo_42 zkX10_take_32 5 rfl rfl
theorem dX10_take_38 : decode cX10_take 38 = .ok (.getfield 121, 3) := zq_2 zo_180 zkX10_take_32 6 rfl rfl 0 121 rfl rfl _ rfl
theorem dX10_take_41 : decode cX10_take 41 = .ok (.invokevirtual 147, 3) := zq_2 zo_182 zkX10_take_32 9 rfl rfl 0 147 rfl rfl _ rfl
theorem dX10_take_44 : decode cX10_take 44 = .ok (.aload_n 0, 1) := zq_0 zo_42 zkX10_take_32 12 rfl rfl
theorem dX10_take_45 : decode cX10_take 45 = .ok (.invokevirtual 151, 3) := zq_2 zo_182 zkX10_take_32 13 rfl rfl 0 151 rfl rfl _ rfl
theorem dX10_take_48 : decode cX10_take 48 = .ok (.iconst 1, 1) := zq_0 zo_4 zkX10_take_32 16 rfl rfl
theorem dX10_take_49 : decode cX10_take 49 = .ok (.ireturn, 1) := zq_0 zo_172 zkX10_take_32 17 rfl rfl
theorem zkX10_takePost_0 : zqc cX10_takePost 0 [42, 27, 28, 16, 15, 182, 0, 154, 62, 42, 29, 153, 0, 19, 42, 180, 0, 157, 42, 180, 0, 38, 27, 46, 184, 0, 160, 167, 0, 7, 42, 180, 0, 157] := zq_of 34 (by decide +kernel)
theorem dX10_takePost_0 : decode cX10_takePost 0 = .ok (.aload_n 0, 1) := zq_0 zo_42 zkX10_takePost_0 0 rfl rfl
theorem dX10_takePost_1 : decode cX10_takePost 1 = .ok (.iload_n 1, 1) := zq_0 zo_27 zkX10_takePost_0 1 rfl rfl
theorem dX10_takePost_2 : decode cX10_takePost 2 = .ok (.iload_n 2, 1) := zq_0 zo_28 zkX10_takePost_0 2 rfl rfl
theorem dX10_takePost_3 : decode cX10_takePost 3 = .ok (.bipush 15, 2) := zq_1s zo_16 zkX10_takePost_0 3 rfl rfl 15 rfl _ (by decide +kernel)
theorem dX10_takePost_5 : decode cX10_takePost 5 = .ok (.invokevirtual 154, 3) := zq_2 zo_182 zkX10_takePost_0 5 rfl rfl 0 154 rfl rfl _ rfl
theorem dX10_takePost_8 : decode cX10_takePost 8 = .ok (.istore_n 3, 1) := zq_0 zo_62 zkX10_takePost_0 8 rfl rfl
theorem dX10_takePost_9 : decode cX10_takePost 9 = .ok (.aload_n 0, 1) := zq_0 zo_42 zkX10_takePost_0 9 rfl rfl
theorem dX10_takePost_10 : decode cX10_takePost 10 = .ok (.iload_n 3, 1) := zq_0 zo_29 zkX10_takePost_0 10 rfl rfl
theorem dX10_takePost_11 : decode cX10_takePost 11 = .ok (.ifCond .eq 19, 3) := zq_2s zo_153 zkX10_takePost_0 11 rfl rfl 0 19 rfl rfl _ (by decide +kernel)
theorem dX10_takePost_14 : decode cX10_takePost 14 = .ok (.aload_n 0, 1) := zq_0 zo_42 zkX10_takePost_0 14 rfl rfl
theorem dX10_takePost_15 : decode cX10_takePost 15 = .ok (.getfield 157, 3) := zq_2 zo_180 zkX10_takePost_0 15 rfl rfl 0 157 rfl rfl _ rfl
theorem dX10_takePost_18 : decode cX10_takePost 18 = .ok (.aload_n 0, 1) := zq_0 zo_42 zkX10_takePost_0 18 rfl rfl
theorem dX10_takePost_19 : decode cX10_takePost 19 = .ok (.getfield 38, 3) := zq_2 zo_180 zkX10_takePost_0 19 rfl rfl 0 38 rfl rfl _ rfl
theorem dX10_takePost_22 : decode cX10_takePost 22 = .ok (.iload_n 1, 1) := zq_0 zo_27 zkX10_takePost_0 22 rfl rfl
theorem dX10_takePost_23 : decode cX10_takePost 23 = .ok (.iaload, 1) := zq_0 zo_46 zkX10_takePost_0 23 rfl rfl
theorem dX10_takePost_24 : decode cX10_takePost 24 = .ok (.invokestatic 160, 3) := zq_2 zo_184 zkX10_takePost_0 24 rfl rfl 0 160 rfl rfl _ rfl
theorem dX10_takePost_27 : decode cX10_takePost 27 = .ok (.goto 7, 3) := zq_2s zo_167 zkX10_takePost_0 27 rfl rfl 0 7 rfl rfl _ (by decide +kernel)
theorem dX10_takePost_30 : decode cX10_takePost 30 = .ok (.aload_n 0, 1) := zq_0 zo_42 zkX10_takePost_0 30 rfl rfl
theorem dX10_takePost_31 : decode cX10_takePost 31 = .ok (.getfield 157, 3) := zq_2 zo_180 zkX10_takePost_0 31 rfl rfl 0 157 rfl rfl _ rfl
theorem zkX10_takePost_32 : zqc cX10_takePost 32 [0, 157, 181, 0, 157, 29, 172] := zq_of 7 (by decide +kernel)
theorem dX10_takePost_34 : decode cX10_takePost 34 = .ok (.putfield 157, 3) := zq_2 zo_181 zkX10_takePost_32 2 rfl rfl 0 157 rfl rfl _ rfl
theorem dX10_takePost_37 : decode cX10_takePost 37 = .ok (.iload_n 3, 1) := zq_0 zo_29 zkX10_takePost_32 5 rfl rfl
theorem dX10_takePost_38 : decode cX10_takePost 38 = .ok (.ireturn, 1) := zq_0 zo_172 zkX10_takePost_32 6 rfl rfl
theorem zkX10_full_0 : zqc cX10_full 0 [42, 180, 0, 35, 27, 46, 28, 160, 0, 9, 42, 6, 29, 182, 0, 147, 177] := zq_of 17 (by decide +kernel)
theorem dX10_full_0 : decode cX10_full 0 = .ok (.aload_n 0, 1) := zq_0 zo_42 zkX10_full_0 0 rfl rfl
theorem dX10_full_1 : decode cX10_full 1 = .ok (.getfield 35, 3) := zq_2 zo_180 zkX10_full_0 1 rfl rfl 0 35 rfl rfl _ rfl
theorem dX10_full_4 : decode cX10_full 4 = .ok (.iload_n 1, 1) := zq_0 zo_27 zkX10_full_0 4 rfl rfl
theorem dX10_full_5 : decode cX10_full 5 = .ok (.iaload, 1) := zq_0 zo_46 zkX10_full_0 5 rfl rfl
theorem dX10_full_6 : decode cX10_full 6 = .ok (.iload_n 2, 1) := zq_0 zo_28 zkX10_full_0 6 rfl rfl
theorem dX10_full_7 : decode cX10_full 7 = .ok (.if_icmp .ne 9, 3) := zq_2s zo_160 zkX10_full_0 7 rfl rfl 0 9 rfl rfl _ (by decide +kernel)
theorem dX10_full_10 : decode cX10_full 10 = .ok (.aload_n 0, 1) := zq_0 zo_42 zkX10_full_0 10 rfl rfl
theorem dX10_full_11 : decode cX10_full 11 = .ok (.iconst 3, 1) := zq_0 zo_6 zkX10_full_0 11 rfl rfl
theorem dX10_full_12 : decode cX10_full 12 = .ok (.iload_n 3, 1) := zq_0 zo_29 zkX10_full_0 12 rfl rfl
theorem dX10_full_13 : decode cX10_full 13 = .ok (.invokevirtual 147, 3) := zq_2 zo_182 zkX10_full_0 13 rfl rfl 0 147 rfl rfl _ rfl
theorem dX10_full_16 : decode cX10_full 16 = .ok (.return_, 1) := zq_0 zo_177 zkX10_full_0 16 rfl rfl
theorem zkX10_keep_0 : zqc cX10_keep 0 [42, 180, 0, 35, 27, 46, 54, 6, 21, 6, 21, 4, 160, 0, 4, 177, 3, 54, 7, 21, 7, 21, 5, 162, 0, 30, 42, 180, 0, 35, 28, 29, 21, 6] := zq_of 34 (by decide +kernel)
theorem dX10_keep_0 : decode cX10_keep 0 = .ok (.aload_n 0, 1) := zq_0 zo_42 zkX10_keep_0 0 rfl rfl
theorem dX10_keep_1 : decode cX10_keep 1 = .ok (.getfield 35, 3) := zq_2 zo_180 zkX10_keep_0 1 rfl rfl 0 35 rfl rfl _ rfl
theorem dX10_keep_4 : decode cX10_keep 4 = .ok (.iload_n 1, 1) := zq_0 zo_27 zkX10_keep_0 4 rfl rfl
theorem dX10_keep_5 : decode cX10_keep 5 = .ok (.iaload, 1) := zq_0 zo_46 zkX10_keep_0 5 rfl rfl
theorem dX10_keep_6 : decode cX10_keep 6 = .ok (.istore 6, 2) := zq_1 zo_54 zkX10_keep_0 6 rfl rfl 6 rfl
theorem dX10_keep_8 : decode cX10_keep 8 = .ok (.iload 6, 2) := zq_1 zo_21 zkX10_keep_0 8 rfl rfl 6 rfl
theorem dX10_keep_10 : decode cX10_keep 10 = .ok (.iload 4, 2) := zq_1 zo_21 zkX10_keep_0 10 rfl rfl 4 rfl
theorem dX10_keep_12 : decode cX10_keep 12 = .ok (.if_icmp .ne 4, 3) := zq_2s zo_160 zkX10_keep_0 12 rfl rfl 0 4 rfl rfl _ (by decide +kernel)
theorem dX10_keep_15 : decode cX10_keep 15 = .ok (.return_, 1) := zq_0 zo_177 zkX10_keep_0 15 rfl rfl
theorem dX10_keep_16 : decode cX10_keep 16 = .ok (.iconst 0, 1) := zq_0 zo_3 zkX10_keep_0 16 rfl rfl
theorem dX10_keep_17 : decode cX10_keep 17 = .ok (.istore 7, 2) := zq_1 zo_54 zkX10_keep_0 17 rfl rfl 7 rfl
theorem dX10_keep_19 : decode cX10_keep 19 = .ok (.iload 7, 2) := zq_1 zo_21 zkX10_keep_0 19 rfl rfl 7 rfl
theorem dX10_keep_21 : decode cX10_keep 21 = .ok (.iload 5, 2) := zq_1 zo_21 zkX10_keep_0 21 rfl rfl 5 rfl
theorem dX10_keep_23 : decode cX10_keep 23 = .ok (.if_icmp .ge 30, 3) := zq_2s zo_162 zkX10_keep_0 23 rfl rfl 0 30 rfl rfl _ (by decide +kernel)
theorem dX10_keep_26 : decode cX10_keep 26 = .ok (.aload_n 0, 1) := zq_0 zo_42 zkX10_keep_0 26 rfl rfl
theorem dX10_keep_27 : decode cX10_keep 27 = .ok (.getfield 35, 3) := zq_2 zo_180 zkX10_keep_0 27 rfl rfl 0 35 rfl rfl _ rfl
theorem dX10_keep_30 : decode cX10_keep 30 = .ok (.iload_n 2, 1) := zq_0 zo_28 zkX10_keep_0 30 rfl rfl
theorem dX10_keep_31 : decode cX10_keep 31 = .ok (.iload_n 3, 1) := zq_0 zo_29 zkX10_keep_0 31 rfl rfl
theorem zkX10_keep_32 : zqc cX10_keep 32 [21, 6, 104, 96, 21, 7, 96, 42, 180, 0, 38, 21, 7, 46, 79, 132, 7, 1, 167, 255, 225, 42, 180, 0, 35, 27, 92, 46, 4, 96, 79, 177] := zq_of 32 (by decide +kernel)
theorem dX10_keep_32 : decode cX10_keep 32 = .ok (.iload 6, 2) := zq_1 zo_21 zkX10_keep_32 0 rfl rfl 6 rfl
theorem dX10_keep_34 : decode cX10_keep 34 = .ok (.imul, 1) := zq_0 zo_104 zkX10_keep_32 2 rfl rfl
theorem dX10_keep_35 : decode cX10_keep 35 = .ok (.iadd, 1) := zq_0 zo_96 zkX10_keep_32 3 rfl rfl
theorem dX10_keep_36 : decode cX10_keep 36 = .ok (.iload 7, 2) := zq_1 zo_21 zkX10_keep_32 4 rfl rfl 7 rfl
theorem dX10_keep_38 : decode cX10_keep 38 = .ok (.iadd, 1) := zq_0 zo_96 zkX10_keep_32 6 rfl rfl
theorem dX10_keep_39 : decode cX10_keep 39 = .ok (.aload_n 0, 1) := zq_0 zo_42 zkX10_keep_32 7 rfl rfl
theorem dX10_keep_40 : decode cX10_keep 40 = .ok (.getfield 38, 3) := zq_2 zo_180 zkX10_keep_32 8 rfl rfl 0 38 rfl rfl _ rfl
theorem dX10_keep_43 : decode cX10_keep 43 = .ok (.iload 7, 2) := zq_1 zo_21 zkX10_keep_32 11 rfl rfl 7 rfl
theorem dX10_keep_45 : decode cX10_keep 45 = .ok (.iaload, 1) := zq_0 zo_46 zkX10_keep_32 13 rfl rfl
theorem dX10_keep_46 : decode cX10_keep 46 = .ok (.iastore, 1) := zq_0 zo_79 zkX10_keep_32 14 rfl rfl
theorem dX10_keep_47 : decode cX10_keep 47 = .ok (.iinc 7 1, 3) := zq_ii zo_132 zkX10_keep_32 15 rfl rfl 7 1 rfl rfl _ (by decide +kernel)
theorem dX10_keep_50 : decode cX10_keep 50 = .ok (.goto (-31), 3) := zq_2s zo_167 zkX10_keep_32 18 rfl rfl 255 225 rfl rfl _ (by decide +kernel)
theorem dX10_keep_53 : decode cX10_keep 53 = .ok (.aload_n 0, 1) := zq_0 zo_42 zkX10_keep_32 21 rfl rfl
theorem dX10_keep_54 : decode cX10_keep 54 = .ok (.getfield 35, 3) := zq_2 zo_180 zkX10_keep_32 22 rfl rfl 0 35 rfl rfl _ rfl
theorem dX10_keep_57 : decode cX10_keep 57 = .ok (.iload_n 1, 1) := zq_0 zo_27 zkX10_keep_32 25 rfl rfl
theorem dX10_keep_58 : decode cX10_keep 58 = .ok (.dup2, 1) := zq_0 zo_92 zkX10_keep_32 26 rfl rfl
theorem dX10_keep_59 : decode cX10_keep 59 = .ok (.iaload, 1) := zq_0 zo_46 zkX10_keep_32 27 rfl rfl
theorem dX10_keep_60 : decode cX10_keep 60 = .ok (.iconst 1, 1) := zq_0 zo_4 zkX10_keep_32 28 rfl rfl
theorem dX10_keep_61 : decode cX10_keep 61 = .ok (.iadd, 1) := zq_0 zo_96 zkX10_keep_32 29 rfl rfl
theorem dX10_keep_62 : decode cX10_keep 62 = .ok (.iastore, 1) := zq_0 zo_79 zkX10_keep_32 30 rfl rfl
theorem dX10_keep_63 : decode cX10_keep 63 = .ok (.return_, 1) := zq_0 zo_177 zkX10_keep_32 31 rfl rfl
theorem zkX10_riderLine_0 : zqc cX10_riderLine 0 [42, 3, 3, 182, 0, 164, 153, 0, 64, 42, 4, 42, 180, 0, 38, 3, 46, 4, 96, 182, 0, 164, 153, 0, 48, 42, 5, 4, 16, 60, 182, 0, 154, 153] := zq_of 34 (by decide +kernel)
theorem dX10_riderLine_0 : decode cX10_riderLine 0 = .ok (.aload_n 0, 1) := zq_0 zo_42 zkX10_riderLine_0 0 rfl rfl
theorem dX10_riderLine_1 : decode cX10_riderLine 1 = .ok (.iconst 0, 1) := zq_0 zo_3 zkX10_riderLine_0 1 rfl rfl
theorem dX10_riderLine_2 : decode cX10_riderLine 2 = .ok (.iconst 0, 1) := zq_0 zo_3 zkX10_riderLine_0 2 rfl rfl
theorem dX10_riderLine_3 : decode cX10_riderLine 3 = .ok (.invokevirtual 164, 3) := zq_2 zo_182 zkX10_riderLine_0 3 rfl rfl 0 164 rfl rfl _ rfl
theorem dX10_riderLine_6 : decode cX10_riderLine 6 = .ok (.ifCond .eq 64, 3) := zq_2s zo_153 zkX10_riderLine_0 6 rfl rfl 0 64 rfl rfl _ (by decide +kernel)
theorem dX10_riderLine_9 : decode cX10_riderLine 9 = .ok (.aload_n 0, 1) := zq_0 zo_42 zkX10_riderLine_0 9 rfl rfl
theorem dX10_riderLine_10 : decode cX10_riderLine 10 = .ok (.iconst 1, 1) := zq_0 zo_4 zkX10_riderLine_0 10 rfl rfl
theorem dX10_riderLine_11 : decode cX10_riderLine 11 = .ok (.aload_n 0, 1) := zq_0 zo_42 zkX10_riderLine_0 11 rfl rfl
theorem dX10_riderLine_12 : decode cX10_riderLine 12 = .ok (.getfield 38, 3) := zq_2 zo_180 zkX10_riderLine_0 12 rfl rfl 0 38 rfl rfl _ rfl
theorem dX10_riderLine_15 : decode cX10_riderLine 15 = .ok (.iconst 0, 1) := zq_0 zo_3 zkX10_riderLine_0 15 rfl rfl
theorem dX10_riderLine_16 : decode cX10_riderLine 16 = .ok (.iaload, 1) := zq_0 zo_46 zkX10_riderLine_0 16 rfl rfl
theorem dX10_riderLine_17 : decode cX10_riderLine 17 = .ok (.iconst 1, 1) := zq_0 zo_4 zkX10_riderLine_0 17 rfl rfl
theorem dX10_riderLine_18 : decode cX10_riderLine 18 = .ok (.iadd, 1) := zq_0 zo_96 zkX10_riderLine_0 18 rfl rfl
theorem dX10_riderLine_19 : decode cX10_riderLine 19 = .ok (.invokevirtual 164, 3) := zq_2 zo_182 zkX10_riderLine_0 19 rfl rfl 0 164 rfl rfl _ rfl
theorem dX10_riderLine_22 : decode cX10_riderLine 22 = .ok (.ifCond .eq 48, 3) := zq_2s zo_153 zkX10_riderLine_0 22 rfl rfl 0 48 rfl rfl _ (by decide +kernel)
theorem dX10_riderLine_25 : decode cX10_riderLine 25 = .ok (.aload_n 0, 1) := zq_0 zo_42 zkX10_riderLine_0 25 rfl rfl
theorem dX10_riderLine_26 : decode cX10_riderLine 26 = .ok (.iconst 2, 1) := zq_0 zo_5 zkX10_riderLine_0 26 rfl rfl
theorem dX10_riderLine_27 : decode cX10_riderLine 27 = .ok (.iconst 1, 1) := zq_0 zo_4 zkX10_riderLine_0 27 rfl rfl
theorem dX10_riderLine_28 : decode cX10_riderLine 28 = .ok (.bipush 60, 2) := zq_1s zo_16 zkX10_riderLine_0 28 rfl rfl 60 rfl _ (by decide +kernel)
theorem dX10_riderLine_30 : decode cX10_riderLine 30 = .ok (.invokevirtual 154, 3) := zq_2 zo_182 zkX10_riderLine_0 30 rfl rfl 0 154 rfl rfl _ rfl
theorem zkX10_riderLine_32 : zqc cX10_riderLine 32 [154, 153, 0, 37, 42, 6, 4, 16, 30, 182, 0, 154, 153, 0, 26, 42, 7, 3, 17, 0, 200, 182, 0, 154, 153, 0, 14, 42, 8, 3, 16, 9, 182, 0] := zq_of 34 (by decide +kernel)
theorem dX10_riderLine_33 : decode cX10_riderLine 33 = .ok (.ifCond .eq 37, 3) := zq_2s zo_153 zkX10_riderLine_32 1 rfl rfl 0 37 rfl rfl _ (by decide +kernel)
theorem dX10_riderLine_36 : decode cX10_riderLine 36 = .ok (.aload_n 0, 1) := zq_0 zo_42 zkX10_riderLine_32 4 rfl rfl
theorem dX10_riderLine_37 : decode cX10_riderLine 37 = .ok (.iconst 3, 1) := zq_0 zo_6 zkX10_riderLine_32 5 rfl rfl
theorem dX10_riderLine_38 : decode cX10_riderLine 38 = .ok (.iconst 1, 1) := zq_0 zo_4 zkX10_riderLine_32 6 rfl rfl
theorem dX10_riderLine_39 : decode cX10_riderLine 39 = .ok (.bipush 30, 2) := zq_1s zo_16 zkX10_riderLine_32 7 rfl rfl 30 rfl _ (by decide +kernel)
theorem dX10_riderLine_41 : decode cX10_riderLine 41 = .ok (.invokevirtual 154, 3) := zq_2 zo_182 zkX10_riderLine_32 9 rfl rfl 0 154 rfl rfl _ rfl
theorem dX10_riderLine_44 : decode cX10_riderLine 44 = .ok (.ifCond .eq 26, 3) := zq_2s zo_153 zkX10_riderLine_32 12 rfl rfl 0 26 rfl rfl _ (by decide +kernel)
theorem dX10_riderLine_47 : decode cX10_riderLine 47 = .ok (.aload_n 0, 1) := zq_0 zo_42 zkX10_riderLine_32 15 rfl rfl
theorem dX10_riderLine_48 : decode cX10_riderLine 48 = .ok (.iconst 4, 1) := zq_0 zo_7 zkX10_riderLine_32 16 rfl rfl
theorem dX10_riderLine_49 : decode cX10_riderLine 49 = .ok (.iconst 0, 1) := zq_0 zo_3 zkX10_riderLine_32 17 rfl rfl
theorem dX10_riderLine_50 : decode cX10_riderLine 50 = .ok (.sipush 200, 3) := zq_2s zo_17 zkX10_riderLine_32 18 rfl rfl 0 200 rfl rfl _ (by decide +kernel)
theorem dX10_riderLine_53 : decode cX10_riderLine 53 = .ok (.invokevirtual 154, 3) := zq_2 zo_182 zkX10_riderLine_32 21 rfl rfl 0 154 rfl rfl _ rfl
theorem dX10_riderLine_56 : decode cX10_riderLine 56 = .ok (.ifCond .eq 14, 3) := zq_2s zo_153 zkX10_riderLine_32 24 rfl rfl 0 14 rfl rfl _ (by decide +kernel)
theorem dX10_riderLine_59 : decode cX10_riderLine 59 = .ok (.aload_n 0, 1) := zq_0 zo_42 zkX10_riderLine_32 27 rfl rfl
theorem dX10_riderLine_60 : decode cX10_riderLine 60 = .ok (.iconst 5, 1) := zq_0 zo_8 zkX10_riderLine_32 28 rfl rfl
theorem dX10_riderLine_61 : decode cX10_riderLine 61 = .ok (.iconst 0, 1) := zq_0 zo_3 zkX10_riderLine_32 29 rfl rfl
theorem dX10_riderLine_62 : decode cX10_riderLine 62 = .ok (.bipush 9, 2) := zq_1s zo_16 zkX10_riderLine_32 30 rfl rfl 9 rfl _ (by decide +kernel)
theorem zkX10_riderLine_64 : zqc cX10_riderLine 64 [182, 0, 154, 154, 0, 5, 3, 172, 42, 4, 16, 87, 16, 6, 16, 6, 16, 6, 182, 0, 167, 4, 172] := zq_of 23 (by decide +kernel)
theorem dX10_riderLine_64 : decode cX10_riderLine 64 = .ok (.invokevirtual 154, 3) := zq_2 zo_182 zkX10_riderLine_64 0 rfl rfl 0 154 rfl rfl _ rfl
theorem dX10_riderLine_67 : decode cX10_riderLine 67 = .ok (.ifCond .ne 5, 3) := zq_2s zo_154 zkX10_riderLine_64 3 rfl rfl 0 5 rfl rfl _ (by decide +kernel)
theorem dX10_riderLine_70 : decode cX10_riderLine 70 = .ok (.iconst 0, 1) := zq_0 zo_3 zkX10_riderLine_64 6 rfl rfl
theorem dX10_riderLine_71 : decode cX10_riderLine 71 = .ok (.ireturn, 1) := zq_0 zo_172 zkX10_riderLine_64 7 rfl rfl
theorem dX10_riderLine_72 : decode cX10_riderLine 72 = .ok (.aload_n 0, 1) := zq_0 zo_42 zkX10_riderLine_64 8 rfl rfl
theorem dX10_riderLine_73 : decode cX10_riderLine 73 = .ok (.iconst 1, 1) := zq_0 zo_4 zkX10_riderLine_64 9 rfl rfl
theorem dX10_riderLine_74 : decode cX10_riderLine 74 = .ok (.bipush 87, 2) := zq_1s zo_16 zkX10_riderLine_64 10 rfl rfl 87 rfl _ (by decide +kernel)
theorem dX10_riderLine_76 : decode cX10_riderLine 76 = .ok (.bipush 6, 2) := zq_1s zo_16 zkX10_riderLine_64 12 rfl rfl 6 rfl _ (by decide +kernel)
theorem dX10_riderLine_78 : decode cX10_riderLine 78 = .ok (.bipush 6, 2) := zq_1s zo_16 zkX10_riderLine_64 14 rfl rfl 6 rfl _ (by decide +kernel)
theorem dX10_riderLine_80 : decode cX10_riderLine 80 = .ok (.bipush 6, 2) := zq_1s zo_16 zkX10_riderLine_64 16 rfl rfl 6 rfl _ (by decide +kernel)
theorem dX10_riderLine_82 : decode cX10_riderLine 82 = .ok (.invokevirtual 167, 3) := zq_2 zo_182 zkX10_riderLine_64 18 rfl rfl 0 167 rfl rfl _ rfl
theorem dX10_riderLine_85 : decode cX10_riderLine 85 = .ok (.iconst 1, 1) := zq_0 zo_4 zkX10_riderLine_64 21 rfl rfl
theorem dX10_riderLine_86 : decode cX10_riderLine 86 = .ok (.ireturn, 1) := zq_0 zo_172 zkX10_riderLine_64 22 rfl rfl
theorem zkX10_postLine_0 : zqc cX10_postLine 0 [42, 3, 4, 16, 30, 182, 0, 154, 153, 0, 24, 42, 4, 3, 6, 182, 0, 154, 153, 0, 14, 42, 5, 3, 16, 30, 182, 0, 154, 154, 0, 5, 3, 172] := zq_of 34 (by decide +kernel)
theorem dX10_postLine_0 : decode cX10_postLine 0 = .ok (.aload_n 0, 1) := zq_0 zo_42 zkX10_postLine_0 0 rfl rfl
theorem dX10_postLine_1 : decode cX10_postLine 1 = .ok (.iconst 0, 1) := zq_0 zo_3 zkX10_postLine_0 1 rfl rfl
theorem dX10_postLine_2 : decode cX10_postLine 2 = .ok (.iconst 1, 1) := zq_0 zo_4 zkX10_postLine_0 2 rfl rfl
theorem dX10_postLine_3 : decode cX10_postLine 3 = .ok (.bipush 30, 2) := zq_1s zo_16 zkX10_postLine_0 3 rfl rfl 30 rfl _ (by decide +kernel)
theorem dX10_postLine_5 : decode cX10_postLine 5 = .ok (.invokevirtual 154, 3) := zq_2 zo_182 zkX10_postLine_0 5 rfl rfl 0 154 rfl rfl _ rfl
theorem dX10_postLine_8 : decode cX10_postLine 8 = .ok (.ifCond .eq 24, 3) := zq_2s zo_153 zkX10_postLine_0 8 rfl rfl 0 24 rfl rfl _ (by decide +kernel)
theorem dX10_postLine_11 : decode cX10_postLine 11 = .ok (.aload_n 0, 1) := zq_0 zo_42 zkX10_postLine_0 11 rfl rfl
theorem dX10_postLine_12 : decode cX10_postLine 12 = .ok (.iconst 1, 1) := zq_0 zo_4 zkX10_postLine_0 12 rfl rfl
theorem dX10_postLine_13 : decode cX10_postLine 13 = .ok (.iconst 0, 1) := zq_0 zo_3 zkX10_postLine_0 13 rfl rfl
theorem dX10_postLine_14 : decode cX10_postLine 14 = .ok (.iconst 3, 1) := zq_0 zo_6 zkX10_postLine_0 14 rfl rfl
theorem dX10_postLine_15 : decode cX10_postLine 15 = .ok (.invokevirtual 154, 3) := zq_2 zo_182 zkX10_postLine_0 15 rfl rfl 0 154 rfl rfl _ rfl
theorem dX10_postLine_18 : decode cX10_postLine 18 = .ok (.ifCond .eq 14, 3) := zq_2s zo_153 zkX10_postLine_0 18 rfl rfl 0 14 rfl rfl _ (by decide +kernel)
theorem dX10_postLine_21 : decode cX10_postLine 21 = .ok (.aload_n 0, 1) := zq_0 zo_42 zkX10_postLine_0 21 rfl rfl
theorem dX10_postLine_22 : decode cX10_postLine 22 = .ok (.iconst 2, 1) := zq_0 zo_5 zkX10_postLine_0 22 rfl rfl
theorem dX10_postLine_23 : decode cX10_postLine 23 = .ok (.iconst 0, 1) := zq_0 zo_3 zkX10_postLine_0 23 rfl rfl
theorem dX10_postLine_24 : decode cX10_postLine 24 = .ok (.bipush 30, 2) := zq_1s zo_16 zkX10_postLine_0 24 rfl rfl 30 rfl _ (by decide +kernel)
theorem dX10_postLine_26 : decode cX10_postLine 26 = .ok (.invokevirtual 154, 3) := zq_2 zo_182 zkX10_postLine_0 26 rfl rfl 0 154 rfl rfl _ rfl
theorem dX10_postLine_29 : decode cX10_postLine 29 = .ok (.ifCond .ne 5, 3) := zq_2s zo_154 zkX10_postLine_0 29 rfl rfl 0 5 rfl rfl _ (by decide +kernel)
theorem zkX10_postLine_32 : zqc cX10_postLine 32 [3, 172, 42, 3, 16, 7, 8, 16, 16, 6, 182, 0, 167, 4, 172] := zq_of 15 (by decide +kernel)
theorem dX10_postLine_32 : decode cX10_postLine 32 = .ok (.iconst 0, 1) := zq_0 zo_3 zkX10_postLine_32 0 rfl rfl
theorem dX10_postLine_33 : decode cX10_postLine 33 = .ok (.ireturn, 1) := zq_0 zo_172 zkX10_postLine_32 1 rfl rfl
theorem dX10_postLine_34 : decode cX10_postLine 34 = .ok (.aload_n 0, 1) := zq_0 zo_42 zkX10_postLine_32 2 rfl rfl
theorem dX10_postLine_35 : decode cX10_postLine 35 = .ok (.iconst 0, 1) := zq_0 zo_3 zkX10_postLine_32 3 rfl rfl
theorem dX10_postLine_36 : decode cX10_postLine 36 = .ok (.bipush 7, 2) := zq_1s zo_16 zkX10_postLine_32 4 rfl rfl 7 rfl _ (by decide +kernel)
theorem dX10_postLine_38 : decode cX10_postLine 38 = .ok (.iconst 5, 1) := zq_0 zo_8 zkX10_postLine_32 6 rfl rfl
theorem dX10_postLine_39 : decode cX10_postLine 39 = .ok (.bipush 16, 2) := zq_1s zo_16 zkX10_postLine_32 7 rfl rfl 16 rfl _ (by decide +kernel)
theorem dX10_postLine_41 : decode cX10_postLine 41 = .ok (.iconst 3, 1) := zq_0 zo_6 zkX10_postLine_32 9 rfl rfl
theorem dX10_postLine_42 : decode cX10_postLine 42 = .ok (.invokevirtual 167, 3) := zq_2 zo_182 zkX10_postLine_32 10 rfl rfl 0 167 rfl rfl _ rfl
theorem dX10_postLine_45 : decode cX10_postLine 45 = .ok (.iconst 1, 1) := zq_0 zo_4 zkX10_postLine_32 13 rfl rfl
theorem dX10_postLine_46 : decode cX10_postLine 46 = .ok (.ireturn, 1) := zq_0 zo_172 zkX10_postLine_32 14 rfl rfl
theorem zkX10_ofPost_0 : zqc cX10_ofPost 0 [42, 3, 3, 182, 0, 164, 153, 0, 24, 42, 4, 3, 27, 153, 0, 8, 16, 10, 167, 0, 6, 17, 3, 231, 182, 0, 154, 154, 0, 5, 3, 172, 42, 180] := zq_of 34 (by decide +kernel)
theorem dX10_ofPost_0 : decode cX10_ofPost 0 = .ok (.aload_n 0, 1) := zq_0 zo_42 zkX10_ofPost_0 0 rfl rfl
theorem dX10_ofPost_1 : decode cX10_ofPost 1 = .ok (.iconst 0, 1) := zq_0 zo_3 zkX10_ofPost_0 1 rfl rfl
theorem dX10_ofPost_2 : decode cX10_ofPost 2 = .ok (.iconst 0, 1) := zq_0 zo_3 zkX10_ofPost_0 2 rfl rfl
theorem dX10_ofPost_3 : decode cX10_ofPost 3 = .ok (.invokevirtual 164, 3) := zq_2 zo_182 zkX10_ofPost_0 3 rfl rfl 0 164 rfl rfl _ rfl
theorem dX10_ofPost_6 : decode cX10_ofPost 6 = .ok (.ifCond .eq 24, 3) := zq_2s zo_153 zkX10_ofPost_0 6 rfl rfl 0 24 rfl rfl _ (by decide +kernel)
theorem dX10_ofPost_9 : decode cX10_ofPost 9 = .ok (.aload_n 0, 1) := zq_0 zo_42 zkX10_ofPost_0 9 rfl rfl
theorem dX10_ofPost_10 : decode cX10_ofPost 10 = .ok (.iconst 1, 1) := zq_0 zo_4 zkX10_ofPost_0 10 rfl rfl
theorem dX10_ofPost_11 : decode cX10_ofPost 11 = .ok (.iconst 0, 1) := zq_0 zo_3 zkX10_ofPost_0 11 rfl rfl
theorem dX10_ofPost_12 : decode cX10_ofPost 12 = .ok (.iload_n 1, 1) := zq_0 zo_27 zkX10_ofPost_0 12 rfl rfl
theorem dX10_ofPost_13 : decode cX10_ofPost 13 = .ok (.ifCond .eq 8, 3) := zq_2s zo_153 zkX10_ofPost_0 13 rfl rfl 0 8 rfl rfl _ (by decide +kernel)
theorem dX10_ofPost_16 : decode cX10_ofPost 16 = .ok (.bipush 10, 2) := zq_1s zo_16 zkX10_ofPost_0 16 rfl rfl 10 rfl _ (by decide +kernel)
theorem dX10_ofPost_18 : decode cX10_ofPost 18 = .ok (.goto 6, 3) := zq_2s zo_167 zkX10_ofPost_0 18 rfl rfl 0 6 rfl rfl _ (by decide +kernel)
theorem dX10_ofPost_21 : decode cX10_ofPost 21 = .ok (.sipush 999, 3) := zq_2s zo_17 zkX10_ofPost_0 21 rfl rfl 3 231 rfl rfl _ (by decide +kernel)
theorem dX10_ofPost_24 : decode cX10_ofPost 24 = .ok (.invokevirtual 154, 3) := zq_2 zo_182 zkX10_ofPost_0 24 rfl rfl 0 154 rfl rfl _ rfl
theorem dX10_ofPost_27 : decode cX10_ofPost 27 = .ok (.ifCond .ne 5, 3) := zq_2s zo_154 zkX10_ofPost_0 27 rfl rfl 0 5 rfl rfl _ (by decide +kernel)
theorem dX10_ofPost_30 : decode cX10_ofPost 30 = .ok (.iconst 0, 1) := zq_0 zo_3 zkX10_ofPost_0 30 rfl rfl
theorem dX10_ofPost_31 : decode cX10_ofPost 31 = .ok (.ireturn, 1) := zq_0 zo_172 zkX10_ofPost_0 31 rfl rfl
theorem zkX10_ofPost_32 : zqc cX10_ofPost 32 [42, 180, 0, 38, 3, 46, 16, 16, 162, 0, 44, 27, 153, 0, 23, 42, 180, 0, 41, 42, 180, 0, 38, 3, 46, 42, 180, 0, 38, 4, 46, 79, 167, 0] := zq_of 34 (by decide +kernel)
theorem dX10_ofPost_32 : decode cX10_ofPost 32 = .ok (.aload_n 0, 1) := zq_0 zo_42 zkX10_ofPost_32 0 rfl rfl
theorem dX10_ofPost_33 : decode cX10_ofPost 33 = .ok (.getfield 38, 3) := zq_2 zo_180 zkX10_ofPost_32 1 rfl rfl 0 38 rfl rfl _ rfl
theorem dX10_ofPost_36 : decode cX10_ofPost 36 = .ok (.iconst 0, 1) := zq_0 zo_3 zkX10_ofPost_32 4 rfl rfl
theorem dX10_ofPost_37 : decode cX10_ofPost 37 = .ok (.iaload, 1) := zq_0 zo_46 zkX10_ofPost_32 5 rfl rfl
theorem dX10_ofPost_38 : decode cX10_ofPost 38 = .ok (.bipush 16, 2) := zq_1s zo_16 zkX10_ofPost_32 6 rfl rfl 16 rfl _ (by decide +kernel)
theorem dX10_ofPost_40 : decode cX10_ofPost 40 = .ok (.if_icmp .ge 44, 3) := zq_2s zo_162 zkX10_ofPost_32 8 rfl rfl 0 44 rfl rfl _ (by decide +kernel)
theorem dX10_ofPost_43 : decode cX10_ofPost 43 = .ok (.iload_n 1, 1) := zq_0 zo_27 zkX10_ofPost_32 11 rfl rfl
theorem dX10_ofPost_44 : decode cX10_ofPost 44 = .ok (.ifCond .eq 23, 3) := zq_2s zo_153 zkX10_ofPost_32 12 rfl rfl 0 23 rfl rfl _ (by decide +kernel)
theorem dX10_ofPost_47 : decode cX10_ofPost 47 = .ok (.aload_n 0, 1) := zq_0 zo_42 zkX10_ofPost_32 15 rfl rfl
theorem dX10_ofPost_48 : decode cX10_ofPost 48 = .ok (.getfield 41, 3) := zq_2 zo_180 zkX10_ofPost_32 16 rfl rfl 0 41 rfl rfl _ rfl
theorem dX10_ofPost_51 : decode cX10_ofPost 51 = .ok (.aload_n 0, 1) := zq_0 zo_42 zkX10_ofPost_32 19 rfl rfl
theorem dX10_ofPost_52 : decode cX10_ofPost 52 = .ok (.getfield 38, 3) := zq_2 zo_180 zkX10_ofPost_32 20 rfl rfl 0 38 rfl rfl _ rfl
theorem dX10_ofPost_55 : decode cX10_ofPost 55 = .ok (.iconst 0, 1) := zq_0 zo_3 zkX10_ofPost_32 23 rfl rfl
theorem dX10_ofPost_56 : decode cX10_ofPost 56 = .ok (.iaload, 1) := zq_0 zo_46 zkX10_ofPost_32 24 rfl rfl
theorem dX10_ofPost_57 : decode cX10_ofPost 57 = .ok (.aload_n 0, 1) := zq_0 zo_42 zkX10_ofPost_32 25 rfl rfl
theorem dX10_ofPost_58 : decode cX10_ofPost 58 = .ok (.getfield 38, 3) := zq_2 zo_180 zkX10_ofPost_32 26 rfl rfl 0 38 rfl rfl _ rfl
theorem dX10_ofPost_61 : decode cX10_ofPost 61 = .ok (.iconst 1, 1) := zq_0 zo_4 zkX10_ofPost_32 29 rfl rfl
theorem dX10_ofPost_62 : decode cX10_ofPost 62 = .ok (.iaload, 1) := zq_0 zo_46 zkX10_ofPost_32 30 rfl rfl
theorem dX10_ofPost_63 : decode cX10_ofPost 63 = .ok (.iastore, 1) := zq_0 zo_79 zkX10_ofPost_32 31 rfl rfl
theorem zkX10_ofPost_64 : zqc cX10_ofPost 64 [167, 0, 20, 42, 180, 0, 44, 42, 180, 0, 38, 3, 46, 42, 180, 0, 38, 4, 46, 79, 4, 172] := zq_of 22 (by decide +kernel)
theorem dX10_ofPost_64 : decode cX10_ofPost 64 = .ok (.goto 20, 3) := zq_2s zo_167 zkX10_ofPost_64 0 rfl rfl 0 20 rfl rfl _ (by decide +kernel)
theorem dX10_ofPost_67 : decode cX10_ofPost 67 = .ok (.aload_n 0, 1) := zq_0 zo_42 zkX10_ofPost_64 3 rfl rfl
theorem dX10_ofPost_68 : decode cX10_ofPost 68 = .ok (.getfield 44, 3) := zq_2 zo_180 zkX10_ofPost_64 4 rfl rfl 0 44 rfl rfl _ rfl
theorem dX10_ofPost_71 : decode cX10_ofPost 71 = .ok (.aload_n 0, 1) := zq_0 zo_42 zkX10_ofPost_64 7 rfl rfl
theorem dX10_ofPost_72 : decode cX10_ofPost 72 = .ok (.getfield 38, 3) := zq_2 zo_180 zkX10_ofPost_64 8 rfl rfl 0 38 rfl rfl _ rfl
theorem dX10_ofPost_75 : decode cX10_ofPost 75 = .ok (.iconst 0, 1) := zq_0 zo_3 zkX10_ofPost_64 11 rfl rfl
theorem dX10_ofPost_76 : decode cX10_ofPost 76 = .ok (.iaload, 1) := zq_0 zo_46 zkX10_ofPost_64 12 rfl rfl
theorem dX10_ofPost_77 : decode cX10_ofPost 77 = .ok (.aload_n 0, 1) := zq_0 zo_42 zkX10_ofPost_64 13 rfl rfl
theorem dX10_ofPost_78 : decode cX10_ofPost 78 = .ok (.getfield 38, 3) := zq_2 zo_180 zkX10_ofPost_64 14 rfl rfl 0 38 rfl rfl _ rfl
theorem dX10_ofPost_81 : decode cX10_ofPost 81 = .ok (.iconst 1, 1) := zq_0 zo_4 zkX10_ofPost_64 17 rfl rfl
theorem dX10_ofPost_82 : decode cX10_ofPost 82 = .ok (.iaload, 1) := zq_0 zo_46 zkX10_ofPost_64 18 rfl rfl
theorem dX10_ofPost_83 : decode cX10_ofPost 83 = .ok (.iastore, 1) := zq_0 zo_79 zkX10_ofPost_64 19 rfl rfl
theorem dX10_ofPost_84 : decode cX10_ofPost 84 = .ok (.iconst 1, 1) := zq_0 zo_4 zkX10_ofPost_64 20 rfl rfl
theorem dX10_ofPost_85 : decode cX10_ofPost 85 = .ok (.ireturn, 1) := zq_0 zo_172 zkX10_ofPost_64 21 rfl rfl
theorem zkX10_plainOf_0 : zqc cX10_plainOf 0 [30, 20, 0, 171, 148, 154, 0, 7, 5, 167, 0, 53, 30, 20, 0, 173, 148, 154, 0, 7, 6, 167, 0, 41, 30, 20, 0, 175, 148, 154, 0, 7, 7, 167] := zq_of 34 (by decide +kernel)
theorem dX10_plainOf_0 : decode cX10_plainOf 0 = .ok (.lload_n 0, 1) := zq_0 zo_30 zkX10_plainOf_0 0 rfl rfl
theorem dX10_plainOf_1 : decode cX10_plainOf 1 = .ok (.ldc2_w 171, 3) := zq_2 zo_20 zkX10_plainOf_0 1 rfl rfl 0 171 rfl rfl _ rfl
theorem dX10_plainOf_4 : decode cX10_plainOf 4 = .ok (.lcmp, 1) := zq_0 zo_148 zkX10_plainOf_0 4 rfl rfl
theorem dX10_plainOf_5 : decode cX10_plainOf 5 = .ok (.ifCond .ne 7, 3) := zq_2s zo_154 zkX10_plainOf_0 5 rfl rfl 0 7 rfl rfl _ (by decide +kernel)
theorem dX10_plainOf_8 : decode cX10_plainOf 8 = .ok (.iconst 2, 1) := zq_0 zo_5 zkX10_plainOf_0 8 rfl rfl
theorem dX10_plainOf_9 : decode cX10_plainOf 9 = .ok (.goto 53, 3) := zq_2s zo_167 zkX10_plainOf_0 9 rfl rfl 0 53 rfl rfl _ (by decide +kernel)
theorem dX10_plainOf_12 : decode cX10_plainOf 12 = .ok (.lload_n 0, 1) := zq_0 zo_30 zkX10_plainOf_0 12 rfl rfl
theorem dX10_plainOf_13 : decode cX10_plainOf 13 = .ok (.ldc2_w 173, 3) := zq_2 zo_20 zkX10_plainOf_0 13 rfl rfl 0 173 rfl rfl _ rfl
theorem dX10_plainOf_16 : decode cX10_plainOf 16 = .ok (.lcmp, 1) := zq_0 zo_148 zkX10_plainOf_0 16 rfl rfl
theorem dX10_plainOf_17 : decode cX10_plainOf 17 = .ok (.ifCond .ne 7, 3) := zq_2s zo_154 zkX10_plainOf_0 17 rfl rfl 0 7 rfl rfl _ (by decide +kernel)
theorem dX10_plainOf_20 : decode cX10_plainOf 20 = .ok (.iconst 3, 1) := zq_0 zo_6 zkX10_plainOf_0 20 rfl rfl
theorem dX10_plainOf_21 : decode cX10_plainOf 21 = .ok (.goto 41, 3) := zq_2s zo_167 zkX10_plainOf_0 21 rfl rfl 0 41 rfl rfl _ (by decide +kernel)
theorem dX10_plainOf_24 : decode cX10_plainOf 24 = .ok (.lload_n 0, 1) := zq_0 zo_30 zkX10_plainOf_0 24 rfl rfl
theorem dX10_plainOf_25 : decode cX10_plainOf 25 = .ok (.ldc2_w 175, 3) := zq_2 zo_20 zkX10_plainOf_0 25 rfl rfl 0 175 rfl rfl _ rfl
theorem dX10_plainOf_28 : decode cX10_plainOf 28 = .ok (.lcmp, 1) := zq_0 zo_148 zkX10_plainOf_0 28 rfl rfl
theorem dX10_plainOf_29 : decode cX10_plainOf 29 = .ok (.ifCond .ne 7, 3) := zq_2s zo_154 zkX10_plainOf_0 29 rfl rfl 0 7 rfl rfl _ (by decide +kernel)
theorem zkX10_plainOf_32 : zqc cX10_plainOf 32 [7, 167, 0, 29, 30, 20, 0, 177, 148, 154, 0, 7, 8, 167, 0, 17, 30, 20, 0, 179, 148, 154, 0, 8, 16, 6, 167, 0, 4, 2, 172] := zq_of 31 (by decide +kernel)
theorem dX10_plainOf_32 : decode cX10_plainOf 32 = .ok (.iconst 4, 1) := zq_0 zo_7 zkX10_plainOf_32 0 rfl rfl
theorem dX10_plainOf_33 : decode cX10_plainOf 33 = .ok (.goto 29, 3) := zq_2s zo_167 zkX10_plainOf_32 1 rfl rfl 0 29 rfl rfl _ (by decide +kernel)
theorem dX10_plainOf_36 : decode cX10_plainOf 36 = .ok (.lload_n 0, 1) := zq_0 zo_30 zkX10_plainOf_32 4 rfl rfl
theorem dX10_plainOf_37 : decode cX10_plainOf 37 = .ok (.ldc2_w 177, 3) := zq_2 zo_20 zkX10_plainOf_32 5 rfl rfl 0 177 rfl rfl _ rfl
theorem dX10_plainOf_40 : decode cX10_plainOf 40 = .ok (.lcmp, 1) := zq_0 zo_148 zkX10_plainOf_32 8 rfl rfl
theorem dX10_plainOf_41 : decode cX10_plainOf 41 = .ok (.ifCond .ne 7, 3) := zq_2s zo_154 zkX10_plainOf_32 9 rfl rfl 0 7 rfl rfl _ (by decide +kernel)
theorem dX10_plainOf_44 : decode cX10_plainOf 44 = .ok (.iconst 5, 1) := zq_0 zo_8 zkX10_plainOf_32 12 rfl rfl
theorem dX10_plainOf_45 : decode cX10_plainOf 45 = .ok (.goto 17, 3) := zq_2s zo_167 zkX10_plainOf_32 13 rfl rfl 0 17 rfl rfl _ (by decide +kernel)
theorem dX10_plainOf_48 : decode cX10_plainOf 48 = .ok (.lload_n 0, 1) := zq_0 zo_30 zkX10_plainOf_32 16 rfl rfl
theorem dX10_plainOf_49 : decode cX10_plainOf 49 = .ok (.ldc2_w 179, 3) := zq_2 zo_20 zkX10_plainOf_32 17 rfl rfl 0 179 rfl rfl _ rfl
theorem dX10_plainOf_52 : decode cX10_plainOf 52 = .ok (.lcmp, 1) := zq_0 zo_148 zkX10_plainOf_32 20 rfl rfl
theorem dX10_plainOf_53 : decode cX10_plainOf 53 = .ok (.ifCond .ne 8, 3) := zq_2s zo_154 zkX10_plainOf_32 21 rfl rfl 0 8 rfl rfl _ (by decide +kernel)
theorem dX10_plainOf_56 : decode cX10_plainOf 56 = .ok (.bipush 6, 2) := zq_1s zo_16 zkX10_plainOf_32 24 rfl rfl 6 rfl _ (by decide +kernel)
theorem dX10_plainOf_58 : decode cX10_plainOf 58 = .ok (.goto 4, 3) := zq_2s zo_167 zkX10_plainOf_32 26 rfl rfl 0 4 rfl rfl _ (by decide +kernel)
theorem dX10_plainOf_61 : decode cX10_plainOf 61 = .ok (.iconst (-1), 1) := zq_0 zo_2 zkX10_plainOf_32 29 rfl rfl
theorem dX10_plainOf_62 : decode cX10_plainOf 62 = .ok (.ireturn, 1) := zq_0 zo_172 zkX10_plainOf_32 30 rfl rfl
theorem zkX10_lineLine_0 : zqc cX10_lineLine 0 [31, 184, 0, 181, 54, 4, 21, 4, 2, 160, 0, 40, 31, 20, 0, 185, 148, 153, 0, 32, 31, 20, 0, 187, 148, 153, 0, 24, 31, 20, 0, 189, 148, 153] := zq_of 34 (by decide +kernel)
theorem dX10_lineLine_0 : decode cX10_lineLine 0 = .ok (.lload_n 1, 1) := zq_0 zo_31 zkX10_lineLine_0 0 rfl rfl
theorem dX10_lineLine_1 : decode cX10_lineLine 1 = .ok (.invokestatic 181, 3) := zq_2 zo_184 zkX10_lineLine_0 1 rfl rfl 0 181 rfl rfl _ rfl
theorem dX10_lineLine_4 : decode cX10_lineLine 4 = .ok (.istore 4, 2) := zq_1 zo_54 zkX10_lineLine_0 4 rfl rfl 4 rfl
theorem dX10_lineLine_6 : decode cX10_lineLine 6 = .ok (.iload 4, 2) := zq_1 zo_21 zkX10_lineLine_0 6 rfl rfl 4 rfl
theorem dX10_lineLine_8 : decode cX10_lineLine 8 = .ok (.iconst (-1), 1) := zq_0 zo_2 zkX10_lineLine_0 8 rfl rfl
theorem dX10_lineLine_9 : decode cX10_lineLine 9 = .ok (.if_icmp .ne 40, 3) := zq_2s zo_160 zkX10_lineLine_0 9 rfl rfl 0 40 rfl rfl _ (by decide +kernel)
theorem dX10_lineLine_12 : decode cX10_lineLine 12 = .ok (.lload_n 1, 1) := zq_0 zo_31 zkX10_lineLine_0 12 rfl rfl
theorem dX10_lineLine_13 : decode cX10_lineLine 13 = .ok (.ldc2_w 185, 3) := zq_2 zo_20 zkX10_lineLine_0 13 rfl rfl 0 185 rfl rfl _ rfl
theorem dX10_lineLine_16 : decode cX10_lineLine 16 = .ok (.lcmp, 1) := zq_0 zo_148 zkX10_lineLine_0 16 rfl rfl
theorem dX10_lineLine_17 : decode cX10_lineLine 17 = .ok (.ifCond .eq 32, 3) := zq_2s zo_153 zkX10_lineLine_0 17 rfl rfl 0 32 rfl rfl _ (by decide +kernel)
theorem dX10_lineLine_20 : decode cX10_lineLine 20 = .ok (.lload_n 1, 1) := zq_0 zo_31 zkX10_lineLine_0 20 rfl rfl
theorem dX10_lineLine_21 : decode cX10_lineLine 21 = .ok (.ldc2_w 187, 3) := zq_2 zo_20 zkX10_lineLine_0 21 rfl rfl 0 187 rfl rfl _ rfl
theorem dX10_lineLine_24 : decode cX10_lineLine 24 = .ok (.lcmp, 1) := zq_0 zo_148 zkX10_lineLine_0 24 rfl rfl
theorem dX10_lineLine_25 : decode cX10_lineLine 25 = .ok (.ifCond .eq 24, 3) := zq_2s zo_153 zkX10_lineLine_0 25 rfl rfl 0 24 rfl rfl _ (by decide +kernel)
theorem dX10_lineLine_28 : decode cX10_lineLine 28 = .ok (.lload_n 1, 1) := zq_0 zo_31 zkX10_lineLine_0 28 rfl rfl
theorem dX10_lineLine_29 : decode cX10_lineLine 29 = .ok (.ldc2_w 189, 3) := zq_2 zo_20 zkX10_lineLine_0 29 rfl rfl 0 189 rfl rfl _ rfl
theorem zkX10_lineLine_32 : zqc cX10_lineLine 32 [148, 153, 0, 16, 31, 20, 0, 191, 148, 153, 0, 8, 42, 182, 0, 143, 172, 31, 20, 0, 185, 148, 154, 0, 14, 42, 3, 16, 16, 29, 182, 0, 193, 167] := zq_of 34 (by decide +kernel)
theorem dX10_lineLine_32 : decode cX10_lineLine 32 = .ok (.lcmp, 1) := zq_0 zo_148 zkX10_lineLine_32 0 rfl rfl
theorem dX10_lineLine_33 : decode cX10_lineLine 33 = .ok (.ifCond .eq 16, 3) := zq_2s zo_153 zkX10_lineLine_32 1 rfl rfl 0 16 rfl rfl _ (by decide +kernel)
theorem dX10_lineLine_36 : decode cX10_lineLine 36 = .ok (.lload_n 1, 1) := zq_0 zo_31 zkX10_lineLine_32 4 rfl rfl
theorem dX10_lineLine_37 : decode cX10_lineLine 37 = .ok (.ldc2_w 191, 3) := zq_2 zo_20 zkX10_lineLine_32 5 rfl rfl 0 191 rfl rfl _ rfl
theorem dX10_lineLine_40 : decode cX10_lineLine 40 = .ok (.lcmp, 1) := zq_0 zo_148 zkX10_lineLine_32 8 rfl rfl
theorem dX10_lineLine_41 : decode cX10_lineLine 41 = .ok (.ifCond .eq 8, 3) := zq_2s zo_153 zkX10_lineLine_32 9 rfl rfl 0 8 rfl rfl _ (by decide +kernel)
theorem dX10_lineLine_44 : decode cX10_lineLine 44 = .ok (.aload_n 0, 1) := zq_0 zo_42 zkX10_lineLine_32 12 rfl rfl
theorem dX10_lineLine_45 : decode cX10_lineLine 45 = .ok (.invokevirtual 143, 3) := zq_2 zo_182 zkX10_lineLine_32 13 rfl rfl 0 143 rfl rfl _ rfl
theorem dX10_lineLine_48 : decode cX10_lineLine 48 = .ok (.ireturn, 1) := zq_0 zo_172 zkX10_lineLine_32 16 rfl rfl
theorem dX10_lineLine_49 : decode cX10_lineLine 49 = .ok (.lload_n 1, 1) := zq_0 zo_31 zkX10_lineLine_32 17 rfl rfl
theorem dX10_lineLine_50 : decode cX10_lineLine 50 = .ok (.ldc2_w 185, 3) := zq_2 zo_20 zkX10_lineLine_32 18 rfl rfl 0 185 rfl rfl _ rfl
theorem dX10_lineLine_53 : decode cX10_lineLine 53 = .ok (.lcmp, 1) := zq_0 zo_148 zkX10_lineLine_32 21 rfl rfl
theorem dX10_lineLine_54 : decode cX10_lineLine 54 = .ok (.ifCond .ne 14, 3) := zq_2s zo_154 zkX10_lineLine_32 22 rfl rfl 0 14 rfl rfl _ (by decide +kernel)
theorem dX10_lineLine_57 : decode cX10_lineLine 57 = .ok (.aload_n 0, 1) := zq_0 zo_42 zkX10_lineLine_32 25 rfl rfl
theorem dX10_lineLine_58 : decode cX10_lineLine 58 = .ok (.iconst 0, 1) := zq_0 zo_3 zkX10_lineLine_32 26 rfl rfl
theorem dX10_lineLine_59 : decode cX10_lineLine 59 = .ok (.bipush 16, 2) := zq_1s zo_16 zkX10_lineLine_32 27 rfl rfl 16 rfl _ (by decide +kernel)
theorem dX10_lineLine_61 : decode cX10_lineLine 61 = .ok (.iload_n 3, 1) := zq_0 zo_29 zkX10_lineLine_32 29 rfl rfl
theorem dX10_lineLine_62 : decode cX10_lineLine 62 = .ok (.invokevirtual 193, 3) := zq_2 zo_182 zkX10_lineLine_32 30 rfl rfl 0 193 rfl rfl _ rfl
theorem zkX10_lineLine_64 : zqc cX10_lineLine 64 [193, 167, 0, 19, 31, 20, 0, 187, 148, 154, 0, 11, 42, 4, 16, 6, 29, 182, 0, 193, 42, 182, 0, 151, 21, 4, 2, 160, 0, 51, 31, 20, 0, 185] := zq_of 34 (by decide +kernel)
theorem dX10_lineLine_65 : decode cX10_lineLine 65 = .ok (.goto 19, 3) := zq_2s zo_167 zkX10_lineLine_64 1 rfl rfl 0 19 rfl rfl _ (by decide +kernel)
theorem dX10_lineLine_68 : decode cX10_lineLine 68 = .ok (.lload_n 1, 1) := zq_0 zo_31 zkX10_lineLine_64 4 rfl rfl
theorem dX10_lineLine_69 : decode cX10_lineLine 69 = .ok (.ldc2_w 187, 3) := zq_2 zo_20 zkX10_lineLine_64 5 rfl rfl 0 187 rfl rfl _ rfl
theorem dX10_lineLine_72 : decode cX10_lineLine 72 = .ok (.lcmp, 1) := zq_0 zo_148 zkX10_lineLine_64 8 rfl rfl
theorem dX10_lineLine_73 : decode cX10_lineLine 73 = .ok (.ifCond .ne 11, 3) := zq_2s zo_154 zkX10_lineLine_64 9 rfl rfl 0 11 rfl rfl _ (by decide +kernel)
theorem dX10_lineLine_76 : decode cX10_lineLine 76 = .ok (.aload_n 0, 1) := zq_0 zo_42 zkX10_lineLine_64 12 rfl rfl
theorem dX10_lineLine_77 : decode cX10_lineLine 77 = .ok (.iconst 1, 1) := zq_0 zo_4 zkX10_lineLine_64 13 rfl rfl
theorem dX10_lineLine_78 : decode cX10_lineLine 78 = .ok (.bipush 6, 2) := zq_1s zo_16 zkX10_lineLine_64 14 rfl rfl 6 rfl _ (by decide +kernel)
theorem dX10_lineLine_80 : decode cX10_lineLine 80 = .ok (.iload_n 3, 1) := zq_0 zo_29 zkX10_lineLine_64 16 rfl rfl
theorem dX10_lineLine_81 : decode cX10_lineLine 81 = .ok (.invokevirtual 193, 3) := zq_2 zo_182 zkX10_lineLine_64 17 rfl rfl 0 193 rfl rfl _ rfl
theorem dX10_lineLine_84 : decode cX10_lineLine 84 = .ok (.aload_n 0, 1) := zq_0 zo_42 zkX10_lineLine_64 20 rfl rfl
theorem dX10_lineLine_85 : decode cX10_lineLine 85 = .ok (.invokevirtual 151, 3) := zq_2 zo_182 zkX10_lineLine_64 21 rfl rfl 0 151 rfl rfl _ rfl
theorem dX10_lineLine_88 : decode cX10_lineLine 88 = .ok (.iload 4, 2) := zq_1 zo_21 zkX10_lineLine_64 24 rfl rfl 4 rfl
theorem dX10_lineLine_90 : decode cX10_lineLine 90 = .ok (.iconst (-1), 1) := zq_0 zo_2 zkX10_lineLine_64 26 rfl rfl
theorem dX10_lineLine_91 : decode cX10_lineLine 91 = .ok (.if_icmp .ne 51, 3) := zq_2s zo_160 zkX10_lineLine_64 27 rfl rfl 0 51 rfl rfl _ (by decide +kernel)
theorem dX10_lineLine_94 : decode cX10_lineLine 94 = .ok (.lload_n 1, 1) := zq_0 zo_31 zkX10_lineLine_64 30 rfl rfl
theorem dX10_lineLine_95 : decode cX10_lineLine 95 = .ok (.ldc2_w 185, 3) := zq_2 zo_20 zkX10_lineLine_64 31 rfl rfl 0 185 rfl rfl _ rfl
theorem zkX10_lineLine_96 : zqc cX10_lineLine 96 [0, 185, 148, 154, 0, 10, 42, 182, 0, 197, 167, 0, 35, 31, 20, 0, 187, 148, 154, 0, 10, 42, 182, 0, 200, 167, 0, 20, 42, 31, 20, 0, 191, 148] := zq_of 34 (by decide +kernel)
theorem dX10_lineLine_98 : decode cX10_lineLine 98 = .ok (.lcmp, 1) := zq_0 zo_148 zkX10_lineLine_96 2 rfl rfl
theorem dX10_lineLine_99 : decode cX10_lineLine 99 = .ok (.ifCond .ne 10, 3) := zq_2s zo_154 zkX10_lineLine_96 3 rfl rfl 0 10 rfl rfl _ (by decide +kernel)
theorem dX10_lineLine_102 : decode cX10_lineLine 102 = .ok (.aload_n 0, 1) := zq_0 zo_42 zkX10_lineLine_96 6 rfl rfl
theorem dX10_lineLine_103 : decode cX10_lineLine 103 = .ok (.invokevirtual 197, 3) := zq_2 zo_182 zkX10_lineLine_96 7 rfl rfl 0 197 rfl rfl _ rfl
theorem dX10_lineLine_106 : decode cX10_lineLine 106 = .ok (.goto 35, 3) := zq_2s zo_167 zkX10_lineLine_96 10 rfl rfl 0 35 rfl rfl _ (by decide +kernel)
theorem dX10_lineLine_109 : decode cX10_lineLine 109 = .ok (.lload_n 1, 1) := zq_0 zo_31 zkX10_lineLine_96 13 rfl rfl
theorem dX10_lineLine_110 : decode cX10_lineLine 110 = .ok (.ldc2_w 187, 3) := zq_2 zo_20 zkX10_lineLine_96 14 rfl rfl 0 187 rfl rfl _ rfl
theorem dX10_lineLine_113 : decode cX10_lineLine 113 = .ok (.lcmp, 1) := zq_0 zo_148 zkX10_lineLine_96 17 rfl rfl
theorem dX10_lineLine_114 : decode cX10_lineLine 114 = .ok (.ifCond .ne 10, 3) := zq_2s zo_154 zkX10_lineLine_96 18 rfl rfl 0 10 rfl rfl _ (by decide +kernel)
theorem dX10_lineLine_117 : decode cX10_lineLine 117 = .ok (.aload_n 0, 1) := zq_0 zo_42 zkX10_lineLine_96 21 rfl rfl
theorem dX10_lineLine_118 : decode cX10_lineLine 118 = .ok (.invokevirtual 200, 3) := zq_2 zo_182 zkX10_lineLine_96 22 rfl rfl 0 200 rfl rfl _ rfl
theorem dX10_lineLine_121 : decode cX10_lineLine 121 = .ok (.goto 20, 3) := zq_2s zo_167 zkX10_lineLine_96 25 rfl rfl 0 20 rfl rfl _ (by decide +kernel)
theorem dX10_lineLine_124 : decode cX10_lineLine 124 = .ok (.aload_n 0, 1) := zq_0 zo_42 zkX10_lineLine_96 28 rfl rfl
theorem dX10_lineLine_125 : decode cX10_lineLine 125 = .ok (.lload_n 1, 1) := zq_0 zo_31 zkX10_lineLine_96 29 rfl rfl
theorem dX10_lineLine_126 : decode cX10_lineLine 126 = .ok (.ldc2_w 191, 3) := zq_2 zo_20 zkX10_lineLine_96 30 rfl rfl 0 191 rfl rfl _ rfl
theorem zkX10_lineLine_128 : zqc cX10_lineLine 128 [191, 148, 154, 0, 7, 4, 167, 0, 4, 3, 182, 0, 203, 172, 42, 3, 21, 4, 5, 160, 0, 7, 4, 167, 0, 4, 3, 21, 4, 7, 160, 0, 8, 16] := zq_of 34 (by decide +kernel)
theorem dX10_lineLine_129 : decode cX10_lineLine 129 = .ok (.lcmp, 1) := zq_0 zo_148 zkX10_lineLine_128 1 rfl rfl
theorem dX10_lineLine_130 : decode cX10_lineLine 130 = .ok (.ifCond .ne 7, 3) := zq_2s zo_154 zkX10_lineLine_128 2 rfl rfl 0 7 rfl rfl _ (by decide +kernel)
theorem dX10_lineLine_133 : decode cX10_lineLine 133 = .ok (.iconst 1, 1) := zq_0 zo_4 zkX10_lineLine_128 5 rfl rfl
theorem dX10_lineLine_134 : decode cX10_lineLine 134 = .ok (.goto 4, 3) := zq_2s zo_167 zkX10_lineLine_128 6 rfl rfl 0 4 rfl rfl _ (by decide +kernel)
theorem dX10_lineLine_137 : decode cX10_lineLine 137 = .ok (.iconst 0, 1) := zq_0 zo_3 zkX10_lineLine_128 9 rfl rfl
theorem dX10_lineLine_138 : decode cX10_lineLine 138 = .ok (.invokevirtual 203, 3) := zq_2 zo_182 zkX10_lineLine_128 10 rfl rfl 0 203 rfl rfl _ rfl
theorem dX10_lineLine_141 : decode cX10_lineLine 141 = .ok (.ireturn, 1) := zq_0 zo_172 zkX10_lineLine_128 13 rfl rfl
theorem dX10_lineLine_142 : decode cX10_lineLine 142 = .ok (.aload_n 0, 1) := zq_0 zo_42 zkX10_lineLine_128 14 rfl rfl
theorem dX10_lineLine_143 : decode cX10_lineLine 143 = .ok (.iconst 0, 1) := zq_0 zo_3 zkX10_lineLine_128 15 rfl rfl
theorem dX10_lineLine_144 : decode cX10_lineLine 144 = .ok (.iload 4, 2) := zq_1 zo_21 zkX10_lineLine_128 16 rfl rfl 4 rfl
theorem dX10_lineLine_146 : decode cX10_lineLine 146 = .ok (.iconst 2, 1) := zq_0 zo_5 zkX10_lineLine_128 18 rfl rfl
theorem dX10_lineLine_147 : decode cX10_lineLine 147 = .ok (.if_icmp .ne 7, 3) := zq_2s zo_160 zkX10_lineLine_128 19 rfl rfl 0 7 rfl rfl _ (by decide +kernel)
theorem dX10_lineLine_150 : decode cX10_lineLine 150 = .ok (.iconst 1, 1) := zq_0 zo_4 zkX10_lineLine_128 22 rfl rfl
theorem dX10_lineLine_151 : decode cX10_lineLine 151 = .ok (.goto 4, 3) := zq_2s zo_167 zkX10_lineLine_128 23 rfl rfl 0 4 rfl rfl _ (by decide +kernel)
theorem dX10_lineLine_154 : decode cX10_lineLine 154 = .ok (.iconst 0, 1) := zq_0 zo_3 zkX10_lineLine_128 26 rfl rfl
theorem dX10_lineLine_155 : decode cX10_lineLine 155 = .ok (.iload 4, 2) := zq_1 zo_21 zkX10_lineLine_128 27 rfl rfl 4 rfl
theorem dX10_lineLine_157 : decode cX10_lineLine 157 = .ok (.iconst 4, 1) := zq_0 zo_7 zkX10_lineLine_128 29 rfl rfl
theorem dX10_lineLine_158 : decode cX10_lineLine 158 = .ok (.if_icmp .ne 8, 3) := zq_2s zo_160 zkX10_lineLine_128 30 rfl rfl 0 8 rfl rfl _ (by decide +kernel)
theorem zkX10_lineLine_160 : zqc cX10_lineLine 160 [8, 16, 60, 167, 0, 18, 21, 4, 16, 6, 160, 0, 9, 17, 3, 231, 167, 0, 5, 16, 9, 182, 0, 154, 154, 0, 5, 3, 172, 42, 180, 0, 35, 21] := zq_of 34 (by decide +kernel)
theorem dX10_lineLine_161 : decode cX10_lineLine 161 = .ok (.bipush 60, 2) := zq_1s zo_16 zkX10_lineLine_160 1 rfl rfl 60 rfl _ (by decide +kernel)
theorem dX10_lineLine_163 : decode cX10_lineLine 163 = .ok (.goto 18, 3) := zq_2s zo_167 zkX10_lineLine_160 3 rfl rfl 0 18 rfl rfl _ (by decide +kernel)
theorem dX10_lineLine_166 : decode cX10_lineLine 166 = .ok (.iload 4, 2) := zq_1 zo_21 zkX10_lineLine_160 6 rfl rfl 4 rfl
theorem dX10_lineLine_168 : decode cX10_lineLine 168 = .ok (.bipush 6, 2) := zq_1s zo_16 zkX10_lineLine_160 8 rfl rfl 6 rfl _ (by decide +kernel)
theorem dX10_lineLine_170 : decode cX10_lineLine 170 = .ok (.if_icmp .ne 9, 3) := zq_2s zo_160 zkX10_lineLine_160 10 rfl rfl 0 9 rfl rfl _ (by decide +kernel)
theorem dX10_lineLine_173 : decode cX10_lineLine 173 = .ok (.sipush 999, 3) := zq_2s zo_17 zkX10_lineLine_160 13 rfl rfl 3 231 rfl rfl _ (by decide +kernel)
theorem dX10_lineLine_176 : decode cX10_lineLine 176 = .ok (.goto 5, 3) := zq_2s zo_167 zkX10_lineLine_160 16 rfl rfl 0 5 rfl rfl _ (by decide +kernel)
theorem dX10_lineLine_179 : decode cX10_lineLine 179 = .ok (.bipush 9, 2) := zq_1s zo_16 zkX10_lineLine_160 19 rfl rfl 9 rfl _ (by decide +kernel)
theorem dX10_lineLine_181 : decode cX10_lineLine 181 = .ok (.invokevirtual 154, 3) := zq_2 zo_182 zkX10_lineLine_160 21 rfl rfl 0 154 rfl rfl _ rfl
theorem dX10_lineLine_184 : decode cX10_lineLine 184 = .ok (.ifCond .ne 5, 3) := zq_2s zo_154 zkX10_lineLine_160 24 rfl rfl 0 5 rfl rfl _ (by decide +kernel)
theorem dX10_lineLine_187 : decode cX10_lineLine 187 = .ok (.iconst 0, 1) := zq_0 zo_3 zkX10_lineLine_160 27 rfl rfl
theorem dX10_lineLine_188 : decode cX10_lineLine 188 = .ok (.ireturn, 1) := zq_0 zo_172 zkX10_lineLine_160 28 rfl rfl
theorem dX10_lineLine_189 : decode cX10_lineLine 189 = .ok (.aload_n 0, 1) := zq_0 zo_42 zkX10_lineLine_160 29 rfl rfl
theorem dX10_lineLine_190 : decode cX10_lineLine 190 = .ok (.getfield 35, 3) := zq_2 zo_180 zkX10_lineLine_160 30 rfl rfl 0 35 rfl rfl _ rfl
theorem zkX10_lineLine_192 : zqc cX10_lineLine 192 [35, 21, 4, 42, 180, 0, 38, 3, 46, 79, 4, 172] := zq_of 12 (by decide +kernel)
theorem dX10_lineLine_193 : decode cX10_lineLine 193 = .ok (.iload 4, 2) := zq_1 zo_21 zkX10_lineLine_192 1 rfl rfl 4 rfl
theorem dX10_lineLine_195 : decode cX10_lineLine 195 = .ok (.aload_n 0, 1) := zq_0 zo_42 zkX10_lineLine_192 3 rfl rfl
theorem dX10_lineLine_196 : decode cX10_lineLine 196 = .ok (.getfield 38, 3) := zq_2 zo_180 zkX10_lineLine_192 4 rfl rfl 0 38 rfl rfl _ rfl
theorem dX10_lineLine_199 : decode cX10_lineLine 199 = .ok (.iconst 0, 1) := zq_0 zo_3 zkX10_lineLine_192 7 rfl rfl
theorem dX10_lineLine_200 : decode cX10_lineLine 200 = .ok (.iaload, 1) := zq_0 zo_46 zkX10_lineLine_192 8 rfl rfl
theorem dX10_lineLine_201 : decode cX10_lineLine 201 = .ok (.iastore, 1) := zq_0 zo_79 zkX10_lineLine_192 9 rfl rfl
theorem dX10_lineLine_202 : decode cX10_lineLine 202 = .ok (.iconst 1, 1) := zq_0 zo_4 zkX10_lineLine_192 10 rfl rfl
theorem dX10_lineLine_203 : decode cX10_lineLine 203 = .ok (.ireturn, 1) := zq_0 zo_172 zkX10_lineLine_192 11 rfl rfl
theorem zkX10_planLine_0 : zqc cX10_planLine 0 [31, 20, 0, 207, 148, 153, 0, 8, 42, 182, 0, 143, 172, 42, 3, 16, 16, 29, 182, 0, 193, 42, 182, 0, 151, 42, 3, 3, 16, 15, 182, 0, 154, 153] := zq_of 34 (by decide +kernel)
theorem dX10_planLine_0 : decode cX10_planLine 0 = .ok (.lload_n 1, 1) := zq_0 zo_31 zkX10_planLine_0 0 rfl rfl
theorem dX10_planLine_1 : decode cX10_planLine 1 = .ok (.ldc2_w 207, 3) := zq_2 zo_20 zkX10_planLine_0 1 rfl rfl 0 207 rfl rfl _ rfl
theorem dX10_planLine_4 : decode cX10_planLine 4 = .ok (.lcmp, 1) := zq_0 zo_148 zkX10_planLine_0 4 rfl rfl
theorem dX10_planLine_5 : decode cX10_planLine 5 = .ok (.ifCond .eq 8, 3) := zq_2s zo_153 zkX10_planLine_0 5 rfl rfl 0 8 rfl rfl _ (by decide +kernel)
theorem dX10_planLine_8 : decode cX10_planLine 8 = .ok (.aload_n 0, 1) := zq_0 zo_42 zkX10_planLine_0 8 rfl rfl
theorem dX10_planLine_9 : decode cX10_planLine 9 = .ok (.invokevirtual 143, 3) := zq_2 zo_182 zkX10_planLine_0 9 rfl rfl 0 143 rfl rfl _ rfl
theorem dX10_planLine_12 : decode cX10_planLine 12 = .ok (.ireturn, 1) := zq_0 zo_172 zkX10_planLine_0 12 rfl rfl
theorem dX10_planLine_13 : decode cX10_planLine 13 = .ok (.aload_n 0, 1) := zq_0 zo_42 zkX10_planLine_0 13 rfl rfl
theorem dX10_planLine_14 : decode cX10_planLine 14 = .ok (.iconst 0, 1) := zq_0 zo_3 zkX10_planLine_0 14 rfl rfl
theorem dX10_planLine_15 : decode cX10_planLine 15 = .ok (.bipush 16, 2) := zq_1s zo_16 zkX10_planLine_0 15 rfl rfl 16 rfl _ (by decide +kernel)
theorem dX10_planLine_17 : decode cX10_planLine 17 = .ok (.iload_n 3, 1) := zq_0 zo_29 zkX10_planLine_0 17 rfl rfl
theorem dX10_planLine_18 : decode cX10_planLine 18 = .ok (.invokevirtual 193, 3) := zq_2 zo_182 zkX10_planLine_0 18 rfl rfl 0 193 rfl rfl _ rfl
theorem dX10_planLine_21 : decode cX10_planLine 21 = .ok (.aload_n 0, 1) := zq_0 zo_42 zkX10_planLine_0 21 rfl rfl
theorem dX10_planLine_22 : decode cX10_planLine 22 = .ok (.invokevirtual 151, 3) := zq_2 zo_182 zkX10_planLine_0 22 rfl rfl 0 151 rfl rfl _ rfl
theorem dX10_planLine_25 : decode cX10_planLine 25 = .ok (.aload_n 0, 1) := zq_0 zo_42 zkX10_planLine_0 25 rfl rfl
theorem dX10_planLine_26 : decode cX10_planLine 26 = .ok (.iconst 0, 1) := zq_0 zo_3 zkX10_planLine_0 26 rfl rfl
theorem dX10_planLine_27 : decode cX10_planLine 27 = .ok (.iconst 0, 1) := zq_0 zo_3 zkX10_planLine_0 27 rfl rfl
theorem dX10_planLine_28 : decode cX10_planLine 28 = .ok (.bipush 15, 2) := zq_1s zo_16 zkX10_planLine_0 28 rfl rfl 15 rfl _ (by decide +kernel)
theorem dX10_planLine_30 : decode cX10_planLine 30 = .ok (.invokevirtual 154, 3) := zq_2 zo_182 zkX10_planLine_0 30 rfl rfl 0 154 rfl rfl _ rfl
theorem zkX10_planLine_32 : zqc cX10_planLine 32 [154, 153, 0, 13, 42, 4, 3, 8, 182, 0, 154, 154, 0, 5, 3, 172, 42, 3, 4, 5, 16, 16, 5, 182, 0, 167, 4, 172] := zq_of 28 (by decide +kernel)
theorem dX10_planLine_33 : decode cX10_planLine 33 = .ok (.ifCond .eq 13, 3) := zq_2s zo_153 zkX10_planLine_32 1 rfl rfl 0 13 rfl rfl _ (by decide +kernel)
theorem dX10_planLine_36 : decode cX10_planLine 36 = .ok (.aload_n 0, 1) := zq_0 zo_42 zkX10_planLine_32 4 rfl rfl
theorem dX10_planLine_37 : decode cX10_planLine 37 = .ok (.iconst 1, 1) := zq_0 zo_4 zkX10_planLine_32 5 rfl rfl
theorem dX10_planLine_38 : decode cX10_planLine 38 = .ok (.iconst 0, 1) := zq_0 zo_3 zkX10_planLine_32 6 rfl rfl
theorem dX10_planLine_39 : decode cX10_planLine 39 = .ok (.iconst 5, 1) := zq_0 zo_8 zkX10_planLine_32 7 rfl rfl
theorem dX10_planLine_40 : decode cX10_planLine 40 = .ok (.invokevirtual 154, 3) := zq_2 zo_182 zkX10_planLine_32 8 rfl rfl 0 154 rfl rfl _ rfl
theorem dX10_planLine_43 : decode cX10_planLine 43 = .ok (.ifCond .ne 5, 3) := zq_2s zo_154 zkX10_planLine_32 11 rfl rfl 0 5 rfl rfl _ (by decide +kernel)
theorem dX10_planLine_46 : decode cX10_planLine 46 = .ok (.iconst 0, 1) := zq_0 zo_3 zkX10_planLine_32 14 rfl rfl
theorem dX10_planLine_47 : decode cX10_planLine 47 = .ok (.ireturn, 1) := zq_0 zo_172 zkX10_planLine_32 15 rfl rfl
theorem dX10_planLine_48 : decode cX10_planLine 48 = .ok (.aload_n 0, 1) := zq_0 zo_42 zkX10_planLine_32 16 rfl rfl
theorem dX10_planLine_49 : decode cX10_planLine 49 = .ok (.iconst 0, 1) := zq_0 zo_3 zkX10_planLine_32 17 rfl rfl
theorem dX10_planLine_50 : decode cX10_planLine 50 = .ok (.iconst 1, 1) := zq_0 zo_4 zkX10_planLine_32 18 rfl rfl
theorem dX10_planLine_51 : decode cX10_planLine 51 = .ok (.iconst 2, 1) := zq_0 zo_5 zkX10_planLine_32 19 rfl rfl
theorem dX10_planLine_52 : decode cX10_planLine 52 = .ok (.bipush 16, 2) := zq_1s zo_16 zkX10_planLine_32 20 rfl rfl 16 rfl _ (by decide +kernel)
theorem dX10_planLine_54 : decode cX10_planLine 54 = .ok (.iconst 2, 1) := zq_0 zo_5 zkX10_planLine_32 22 rfl rfl
theorem dX10_planLine_55 : decode cX10_planLine 55 = .ok (.invokevirtual 167, 3) := zq_2 zo_182 zkX10_planLine_32 23 rfl rfl 0 167 rfl rfl _ rfl
theorem dX10_planLine_58 : decode cX10_planLine 58 = .ok (.iconst 1, 1) := zq_0 zo_4 zkX10_planLine_32 26 rfl rfl
theorem dX10_planLine_59 : decode cX10_planLine 59 = .ok (.ireturn, 1) := zq_0 zo_172 zkX10_planLine_32 27 rfl rfl
theorem zkX10_logLine_0 : zqc cX10_logLine 0 [31, 20, 0, 209, 148, 153, 0, 8, 42, 182, 0, 143, 172, 42, 3, 16, 10, 29, 182, 0, 193, 42, 182, 0, 151, 42, 3, 3, 16, 15, 182, 0, 154, 153] := zq_of 34 (by decide +kernel)
theorem dX10_logLine_0 : decode cX10_logLine 0 = .ok (.lload_n 1, 1) := zq_0 zo_31 zkX10_logLine_0 0 rfl rfl
theorem dX10_logLine_1 : decode cX10_logLine 1 = .ok (.ldc2_w 209, 3) := zq_2 zo_20 zkX10_logLine_0 1 rfl rfl 0 209 rfl rfl _ rfl
theorem dX10_logLine_4 : decode cX10_logLine 4 = .ok (.lcmp, 1) := zq_0 zo_148 zkX10_logLine_0 4 rfl rfl
theorem dX10_logLine_5 : decode cX10_logLine 5 = .ok (.ifCond .eq 8, 3) := zq_2s zo_153 zkX10_logLine_0 5 rfl rfl 0 8 rfl rfl _ (by decide +kernel)
theorem dX10_logLine_8 : decode cX10_logLine 8 = .ok (.aload_n 0, 1) := zq_0 zo_42 zkX10_logLine_0 8 rfl rfl
theorem dX10_logLine_9 : decode cX10_logLine 9 = .ok (.invokevirtual 143, 3) := zq_2 zo_182 zkX10_logLine_0 9 rfl rfl 0 143 rfl rfl _ rfl
theorem dX10_logLine_12 : decode cX10_logLine 12 = .ok (.ireturn, 1) := zq_0 zo_172 zkX10_logLine_0 12 rfl rfl
theorem dX10_logLine_13 : decode cX10_logLine 13 = .ok (.aload_n 0, 1) := zq_0 zo_42 zkX10_logLine_0 13 rfl rfl
theorem dX10_logLine_14 : decode cX10_logLine 14 = .ok (.iconst 0, 1) := zq_0 zo_3 zkX10_logLine_0 14 rfl rfl
theorem dX10_logLine_15 : decode cX10_logLine 15 = .ok (.bipush 10, 2) := zq_1s zo_16 zkX10_logLine_0 15 rfl rfl 10 rfl _ (by decide +kernel)
theorem dX10_logLine_17 : decode cX10_logLine 17 = .ok (.iload_n 3, 1) := zq_0 zo_29 zkX10_logLine_0 17 rfl rfl
theorem dX10_logLine_18 : decode cX10_logLine 18 = .ok (.invokevirtual 193, 3) := zq_2 zo_182 zkX10_logLine_0 18 rfl rfl 0 193 rfl rfl _ rfl
theorem dX10_logLine_21 : decode cX10_logLine 21 = .ok (.aload_n 0, 1) := zq_0 zo_42 zkX10_logLine_0 21 rfl rfl
theorem dX10_logLine_22 : decode cX10_logLine 22 = .ok (.invokevirtual 151, 3) := zq_2 zo_182 zkX10_logLine_0 22 rfl rfl 0 151 rfl rfl _ rfl
theorem dX10_logLine_25 : decode cX10_logLine 25 = .ok (.aload_n 0, 1) := zq_0 zo_42 zkX10_logLine_0 25 rfl rfl
theorem dX10_logLine_26 : decode cX10_logLine 26 = .ok (.iconst 0, 1) := zq_0 zo_3 zkX10_logLine_0 26 rfl rfl
theorem dX10_logLine_27 : decode cX10_logLine 27 = .ok (.iconst 0, 1) := zq_0 zo_3 zkX10_logLine_0 27 rfl rfl
theorem dX10_logLine_28 : decode cX10_logLine 28 = .ok (.bipush 15, 2) := zq_1s zo_16 zkX10_logLine_0 28 rfl rfl 15 rfl _ (by decide +kernel)
theorem dX10_logLine_30 : decode cX10_logLine 30 = .ok (.invokevirtual 154, 3) := zq_2 zo_182 zkX10_logLine_0 30 rfl rfl 0 154 rfl rfl _ rfl
theorem zkX10_logLine_32 : zqc cX10_logLine 32 [154, 153, 0, 15, 42, 4, 3, 17, 3, 231, 182, 0, 154, 154, 0, 5, 3, 172, 42, 3, 4, 5, 16, 10, 5, 182, 0, 167, 4, 172] := zq_of 30 (by decide +kernel)
theorem dX10_logLine_33 : decode cX10_logLine 33 = .ok (.ifCond .eq 15, 3) := zq_2s zo_153 zkX10_logLine_32 1 rfl rfl 0 15 rfl rfl _ (by decide +kernel)
theorem dX10_logLine_36 : decode cX10_logLine 36 = .ok (.aload_n 0, 1) := zq_0 zo_42 zkX10_logLine_32 4 rfl rfl
theorem dX10_logLine_37 : decode cX10_logLine 37 = .ok (.iconst 1, 1) := zq_0 zo_4 zkX10_logLine_32 5 rfl rfl
theorem dX10_logLine_38 : decode cX10_logLine 38 = .ok (.iconst 0, 1) := zq_0 zo_3 zkX10_logLine_32 6 rfl rfl
theorem dX10_logLine_39 : decode cX10_logLine 39 = .ok (.sipush 999, 3) := zq_2s zo_17 zkX10_logLine_32 7 rfl rfl 3 231 rfl rfl _ (by decide +kernel)
theorem dX10_logLine_42 : decode cX10_logLine 42 = .ok (.invokevirtual 154, 3) := zq_2 zo_182 zkX10_logLine_32 10 rfl rfl 0 154 rfl rfl _ rfl
theorem dX10_logLine_45 : decode cX10_logLine 45 = .ok (.ifCond .ne 5, 3) := zq_2s zo_154 zkX10_logLine_32 13 rfl rfl 0 5 rfl rfl _ (by decide +kernel)
theorem dX10_logLine_48 : decode cX10_logLine 48 = .ok (.iconst 0, 1) := zq_0 zo_3 zkX10_logLine_32 16 rfl rfl
theorem dX10_logLine_49 : decode cX10_logLine 49 = .ok (.ireturn, 1) := zq_0 zo_172 zkX10_logLine_32 17 rfl rfl
theorem dX10_logLine_50 : decode cX10_logLine 50 = .ok (.aload_n 0, 1) := zq_0 zo_42 zkX10_logLine_32 18 rfl rfl
theorem dX10_logLine_51 : decode cX10_logLine 51 = .ok (.iconst 0, 1) := zq_0 zo_3 zkX10_logLine_32 19 rfl rfl
theorem dX10_logLine_52 : decode cX10_logLine 52 = .ok (.iconst 1, 1) := zq_0 zo_4 zkX10_logLine_32 20 rfl rfl
theorem dX10_logLine_53 : decode cX10_logLine 53 = .ok (.iconst 2, 1) := zq_0 zo_5 zkX10_logLine_32 21 rfl rfl
theorem dX10_logLine_54 : decode cX10_logLine 54 = .ok (.bipush 10, 2) := zq_1s zo_16 zkX10_logLine_32 22 rfl rfl 10 rfl _ (by decide +kernel)
theorem dX10_logLine_56 : decode cX10_logLine 56 = .ok (.iconst 2, 1) := zq_0 zo_5 zkX10_logLine_32 24 rfl rfl
theorem dX10_logLine_57 : decode cX10_logLine 57 = .ok (.invokevirtual 167, 3) := zq_2 zo_182 zkX10_logLine_32 25 rfl rfl 0 167 rfl rfl _ rfl
theorem dX10_logLine_60 : decode cX10_logLine 60 = .ok (.iconst 1, 1) := zq_0 zo_4 zkX10_logLine_32 28 rfl rfl
theorem dX10_logLine_61 : decode cX10_logLine 61 = .ok (.ireturn, 1) := zq_0 zo_172 zkX10_logLine_32 29 rfl rfl
theorem zkX10_textLines_0 : zqc cX10_textLines 0 [4, 61, 28, 153, 0, 98, 42, 180, 0, 128, 153, 0, 91, 42, 180, 0, 121, 62, 42, 180, 0, 128, 5, 160, 0, 10, 42, 180, 0, 124, 167, 0, 4, 9] := zq_of 34 (by decide +kernel)
theorem dX10_textLines_0 : decode cX10_textLines 0 = .ok (.iconst 1, 1) := zq_0 zo_4 zkX10_textLines_0 0 rfl rfl
theorem dX10_textLines_1 : decode cX10_textLines 1 = .ok (.istore_n 2, 1) := zq_0 zo_61 zkX10_textLines_0 1 rfl rfl
theorem dX10_textLines_2 : decode cX10_textLines 2 = .ok (.iload_n 2, 1) := zq_0 zo_28 zkX10_textLines_0 2 rfl rfl
theorem dX10_textLines_3 : decode cX10_textLines 3 = .ok (.ifCond .eq 98, 3) := zq_2s zo_153 zkX10_textLines_0 3 rfl rfl 0 98 rfl rfl _ (by decide +kernel)
theorem dX10_textLines_6 : decode cX10_textLines 6 = .ok (.aload_n 0, 1) := zq_0 zo_42 zkX10_textLines_0 6 rfl rfl
theorem dX10_textLines_7 : decode cX10_textLines 7 = .ok (.getfield 128, 3) := zq_2 zo_180 zkX10_textLines_0 7 rfl rfl 0 128 rfl rfl _ rfl
theorem dX10_textLines_10 : decode cX10_textLines 10 = .ok (.ifCond .eq 91, 3) := zq_2s zo_153 zkX10_textLines_0 10 rfl rfl 0 91 rfl rfl _ (by decide +kernel)
theorem dX10_textLines_13 : decode cX10_textLines 13 = .ok (.aload_n 0, 1) := zq_0 zo_42 zkX10_textLines_0 13 rfl rfl
theorem dX10_textLines_14 : decode cX10_textLines 14 = .ok (.getfield 121, 3) := zq_2 zo_180 zkX10_textLines_0 14 rfl rfl 0 121 rfl rfl _ rfl
theorem dX10_textLines_17 : decode cX10_textLines 17 = .ok (.istore_n 3, 1) := zq_0 zo_62 zkX10_textLines_0 17 rfl rfl
theorem dX10_textLines_18 : decode cX10_textLines 18 = .ok (.aload_n 0, 1) := zq_0 zo_42 zkX10_textLines_0 18 rfl rfl
theorem dX10_textLines_19 : decode cX10_textLines 19 = .ok (.getfield 128, 3) := zq_2 zo_180 zkX10_textLines_0 19 rfl rfl 0 128 rfl rfl _ rfl
theorem dX10_textLines_22 : decode cX10_textLines 22 = .ok (.iconst 2, 1) := zq_0 zo_5 zkX10_textLines_0 22 rfl rfl
theorem dX10_textLines_23 : decode cX10_textLines 23 = .ok (.if_icmp .ne 10, 3) := zq_2s zo_160 zkX10_textLines_0 23 rfl rfl 0 10 rfl rfl _ (by decide +kernel)
theorem dX10_textLines_26 : decode cX10_textLines 26 = .ok (.aload_n 0, 1) := zq_0 zo_42 zkX10_textLines_0 26 rfl rfl
theorem dX10_textLines_27 : decode cX10_textLines 27 = .ok (.getfield 124, 3) := zq_2 zo_180 zkX10_textLines_0 27 rfl rfl 0 124 rfl rfl _ rfl
theorem dX10_textLines_30 : decode cX10_textLines 30 = .ok (.goto 4, 3) := zq_2s zo_167 zkX10_textLines_0 30 rfl rfl 0 4 rfl rfl _ (by decide +kernel)
theorem zkX10_textLines_32 : zqc cX10_textLines 32 [4, 9, 55, 4, 27, 154, 0, 13, 42, 22, 4, 29, 182, 0, 211, 167, 0, 25, 27, 4, 160, 0, 13, 42, 22, 4, 29, 182, 0, 215, 167, 0, 10, 42] := zq_of 34 (by decide +kernel)
theorem dX10_textLines_33 : decode cX10_textLines 33 = .ok (.lconst 0, 1) := zq_0 zo_9 zkX10_textLines_32 1 rfl rfl
theorem dX10_textLines_34 : decode cX10_textLines 34 = .ok (.lstore 4, 2) := zq_1 zo_55 zkX10_textLines_32 2 rfl rfl 4 rfl
theorem dX10_textLines_36 : decode cX10_textLines 36 = .ok (.iload_n 1, 1) := zq_0 zo_27 zkX10_textLines_32 4 rfl rfl
theorem dX10_textLines_37 : decode cX10_textLines 37 = .ok (.ifCond .ne 13, 3) := zq_2s zo_154 zkX10_textLines_32 5 rfl rfl 0 13 rfl rfl _ (by decide +kernel)
theorem dX10_textLines_40 : decode cX10_textLines 40 = .ok (.aload_n 0, 1) := zq_0 zo_42 zkX10_textLines_32 8 rfl rfl
theorem dX10_textLines_41 : decode cX10_textLines 41 = .ok (.lload 4, 2) := zq_1 zo_22 zkX10_textLines_32 9 rfl rfl 4 rfl
theorem dX10_textLines_43 : decode cX10_textLines 43 = .ok (.iload_n 3, 1) := zq_0 zo_29 zkX10_textLines_32 11 rfl rfl
theorem dX10_textLines_44 : decode cX10_textLines 44 = .ok (.invokevirtual 211, 3) := zq_2 zo_182 zkX10_textLines_32 12 rfl rfl 0 211 rfl rfl _ rfl
theorem dX10_textLines_47 : decode cX10_textLines 47 = .ok (.goto 25, 3) := zq_2s zo_167 zkX10_textLines_32 15 rfl rfl 0 25 rfl rfl _ (by decide +kernel)
theorem dX10_textLines_50 : decode cX10_textLines 50 = .ok (.iload_n 1, 1) := zq_0 zo_27 zkX10_textLines_32 18 rfl rfl
theorem dX10_textLines_51 : decode cX10_textLines 51 = .ok (.iconst 1, 1) := zq_0 zo_4 zkX10_textLines_32 19 rfl rfl
theorem dX10_textLines_52 : decode cX10_textLines 52 = .ok (.if_icmp .ne 13, 3) := zq_2s zo_160 zkX10_textLines_32 20 rfl rfl 0 13 rfl rfl _ (by decide +kernel)
theorem dX10_textLines_55 : decode cX10_textLines 55 = .ok (.aload_n 0, 1) := zq_0 zo_42 zkX10_textLines_32 23 rfl rfl
theorem dX10_textLines_56 : decode cX10_textLines 56 = .ok (.lload 4, 2) := zq_1 zo_22 zkX10_textLines_32 24 rfl rfl 4 rfl
theorem dX10_textLines_58 : decode cX10_textLines 58 = .ok (.iload_n 3, 1) := zq_0 zo_29 zkX10_textLines_32 26 rfl rfl
theorem dX10_textLines_59 : decode cX10_textLines 59 = .ok (.invokevirtual 215, 3) := zq_2 zo_182 zkX10_textLines_32 27 rfl rfl 0 215 rfl rfl _ rfl
theorem dX10_textLines_62 : decode cX10_textLines 62 = .ok (.goto 10, 3) := zq_2s zo_167 zkX10_textLines_32 30 rfl rfl 0 10 rfl rfl _ (by decide +kernel)
theorem zkX10_textLines_64 : zqc cX10_textLines 64 [10, 42, 22, 4, 29, 182, 0, 218, 61, 28, 153, 0, 16, 42, 180, 0, 128, 7, 159, 0, 8, 42, 182, 0, 143, 61, 28, 153, 0, 7, 42, 182, 0, 151] := zq_of 34 (by decide +kernel)
theorem dX10_textLines_65 : decode cX10_textLines 65 = .ok (.aload_n 0, 1) := zq_0 zo_42 zkX10_textLines_64 1 rfl rfl
theorem dX10_textLines_66 : decode cX10_textLines 66 = .ok (.lload 4, 2) := zq_1 zo_22 zkX10_textLines_64 2 rfl rfl 4 rfl
theorem dX10_textLines_68 : decode cX10_textLines 68 = .ok (.iload_n 3, 1) := zq_0 zo_29 zkX10_textLines_64 4 rfl rfl
theorem dX10_textLines_69 : decode cX10_textLines 69 = .ok (.invokevirtual 218, 3) := zq_2 zo_182 zkX10_textLines_64 5 rfl rfl 0 218 rfl rfl _ rfl
theorem dX10_textLines_72 : decode cX10_textLines 72 = .ok (.istore_n 2, 1) := zq_0 zo_61 zkX10_textLines_64 8 rfl rfl
theorem dX10_textLines_73 : decode cX10_textLines 73 = .ok (.iload_n 2, 1) := zq_0 zo_28 zkX10_textLines_64 9 rfl rfl
theorem dX10_textLines_74 : decode cX10_textLines 74 = .ok (.ifCond .eq 16, 3) := zq_2s zo_153 zkX10_textLines_64 10 rfl rfl 0 16 rfl rfl _ (by decide +kernel)
theorem dX10_textLines_77 : decode cX10_textLines 77 = .ok (.aload_n 0, 1) := zq_0 zo_42 zkX10_textLines_64 13 rfl rfl
theorem dX10_textLines_78 : decode cX10_textLines 78 = .ok (.getfield 128, 3) := zq_2 zo_180 zkX10_textLines_64 14 rfl rfl 0 128 rfl rfl _ rfl
theorem dX10_textLines_81 : decode cX10_textLines 81 = .ok (.iconst 4, 1) := zq_0 zo_7 zkX10_textLines_64 17 rfl rfl
theorem dX10_textLines_82 : decode cX10_textLines 82 = .ok (.if_icmp .eq 8, 3) := zq_2s zo_159 zkX10_textLines_64 18 rfl rfl 0 8 rfl rfl _ (by decide +kernel)
theorem dX10_textLines_85 : decode cX10_textLines 85 = .ok (.aload_n 0, 1) := zq_0 zo_42 zkX10_textLines_64 21 rfl rfl
theorem dX10_textLines_86 : decode cX10_textLines 86 = .ok (.invokevirtual 143, 3) := zq_2 zo_182 zkX10_textLines_64 22 rfl rfl 0 143 rfl rfl _ rfl
theorem dX10_textLines_89 : decode cX10_textLines 89 = .ok (.istore_n 2, 1) := zq_0 zo_61 zkX10_textLines_64 25 rfl rfl
theorem dX10_textLines_90 : decode cX10_textLines 90 = .ok (.iload_n 2, 1) := zq_0 zo_28 zkX10_textLines_64 26 rfl rfl
theorem dX10_textLines_91 : decode cX10_textLines 91 = .ok (.ifCond .eq 7, 3) := zq_2s zo_153 zkX10_textLines_64 27 rfl rfl 0 7 rfl rfl _ (by decide +kernel)
theorem dX10_textLines_94 : decode cX10_textLines 94 = .ok (.aload_n 0, 1) := zq_0 zo_42 zkX10_textLines_64 30 rfl rfl
theorem dX10_textLines_95 : decode cX10_textLines 95 = .ok (.invokevirtual 151, 3) := zq_2 zo_182 zkX10_textLines_64 31 rfl rfl 0 151 rfl rfl _ rfl
theorem zkX10_textLines_96 : zqc cX10_textLines 96 [0, 151, 167, 255, 160, 28, 172] := zq_of 7 (by decide +kernel)
theorem dX10_textLines_98 : decode cX10_textLines 98 = .ok (.goto (-96), 3) := zq_2s zo_167 zkX10_textLines_96 2 rfl rfl 255 160 rfl rfl _ (by decide +kernel)
theorem dX10_textLines_101 : decode cX10_textLines 101 = .ok (.iload_n 2, 1) := zq_0 zo_28 zkX10_textLines_96 5 rfl rfl
theorem dX10_textLines_102 : decode cX10_textLines 102 = .ok (.ireturn, 1) := zq_0 zo_172 zkX10_textLines_96 6 rfl rfl
theorem zkX10_readText_0 : zqc cX10_readText 0 [3, 61, 28, 16, 123, 162, 0, 16, 42, 180, 0, 35, 28, 3, 79, 132, 2, 1, 167, 255, 240, 3, 61, 28, 16, 16, 162, 0, 23, 42, 180, 0, 41, 28] := zq_of 34 (by decide +kernel)
theorem dX10_readText_0 : decode cX10_readText 0 = .ok (.iconst 0, 1) := zq_0 zo_3 zkX10_readText_0 0 rfl rfl
theorem dX10_readText_1 : decode cX10_readText 1 = .ok (.istore_n 2, 1) := zq_0 zo_61 zkX10_readText_0 1 rfl rfl
theorem dX10_readText_2 : decode cX10_readText 2 = .ok (.iload_n 2, 1) := zq_0 zo_28 zkX10_readText_0 2 rfl rfl
theorem dX10_readText_3 : decode cX10_readText 3 = .ok (.bipush 123, 2) := zq_1s zo_16 zkX10_readText_0 3 rfl rfl 123 rfl _ (by decide +kernel)
theorem dX10_readText_5 : decode cX10_readText 5 = .ok (.if_icmp .ge 16, 3) := zq_2s zo_162 zkX10_readText_0 5 rfl rfl 0 16 rfl rfl _ (by decide +kernel)
theorem dX10_readText_8 : decode cX10_readText 8 = .ok (.aload_n 0, 1) := zq_0 zo_42 zkX10_readText_0 8 rfl rfl
theorem dX10_readText_9 : decode cX10_readText 9 = .ok (.getfield 35, 3) := zq_2 zo_180 zkX10_readText_0 9 rfl rfl 0 35 rfl rfl _ rfl
theorem dX10_readText_12 : decode cX10_readText 12 = .ok (.iload_n 2, 1) := zq_0 zo_28 zkX10_readText_0 12 rfl rfl
theorem dX10_readText_13 : decode cX10_readText 13 = .ok (.iconst 0, 1) := zq_0 zo_3 zkX10_readText_0 13 rfl rfl
theorem dX10_readText_14 : decode cX10_readText 14 = .ok (.iastore, 1) := zq_0 zo_79 zkX10_readText_0 14 rfl rfl
theorem dX10_readText_15 : decode cX10_readText 15 = .ok (.iinc 2 1, 3) := zq_ii zo_132 zkX10_readText_0 15 rfl rfl 2 1 rfl rfl _ (by decide +kernel)
theorem dX10_readText_18 : decode cX10_readText 18 = .ok (.goto (-16), 3) := zq_2s zo_167 zkX10_readText_0 18 rfl rfl 255 240 rfl rfl _ (by decide +kernel)
theorem dX10_readText_21 : decode cX10_readText 21 = .ok (.iconst 0, 1) := zq_0 zo_3 zkX10_readText_0 21 rfl rfl
theorem dX10_readText_22 : decode cX10_readText 22 = .ok (.istore_n 2, 1) := zq_0 zo_61 zkX10_readText_0 22 rfl rfl
theorem dX10_readText_23 : decode cX10_readText 23 = .ok (.iload_n 2, 1) := zq_0 zo_28 zkX10_readText_0 23 rfl rfl
theorem dX10_readText_24 : decode cX10_readText 24 = .ok (.bipush 16, 2) := zq_1s zo_16 zkX10_readText_0 24 rfl rfl 16 rfl _ (by decide +kernel)
theorem dX10_readText_26 : decode cX10_readText 26 = .ok (.if_icmp .ge 23, 3) := zq_2s zo_162 zkX10_readText_0 26 rfl rfl 0 23 rfl rfl _ (by decide +kernel)
theorem dX10_readText_29 : decode cX10_readText 29 = .ok (.aload_n 0, 1) := zq_0 zo_42 zkX10_readText_0 29 rfl rfl
theorem dX10_readText_30 : decode cX10_readText 30 = .ok (.getfield 41, 3) := zq_2 zo_180 zkX10_readText_0 30 rfl rfl 0 41 rfl rfl _ rfl
theorem zkX10_readText_32 : zqc cX10_readText 32 [41, 28, 3, 79, 42, 180, 0, 44, 28, 2, 79, 132, 2, 1, 167, 255, 233, 42, 180, 0, 35, 5, 27, 154, 0, 7, 5, 167, 0, 4, 3, 79, 42, 180] := zq_of 34 (by decide +kernel)
theorem dX10_readText_33 : decode cX10_readText 33 = .ok (.iload_n 2, 1) := zq_0 zo_28 zkX10_readText_32 1 rfl rfl
theorem dX10_readText_34 : decode cX10_readText 34 = .ok (.iconst 0, 1) := zq_0 zo_3 zkX10_readText_32 2 rfl rfl
theorem dX10_readText_35 : decode cX10_readText 35 = .ok (.iastore, 1) := zq_0 zo_79 zkX10_readText_32 3 rfl rfl
theorem dX10_readText_36 : decode cX10_readText 36 = .ok (.aload_n 0, 1) := zq_0 zo_42 zkX10_readText_32 4 rfl rfl
theorem dX10_readText_37 : decode cX10_readText 37 = .ok (.getfield 44, 3) := zq_2 zo_180 zkX10_readText_32 5 rfl rfl 0 44 rfl rfl _ rfl
theorem dX10_readText_40 : decode cX10_readText 40 = .ok (.iload_n 2, 1) := zq_0 zo_28 zkX10_readText_32 8 rfl rfl
theorem dX10_readText_41 : decode cX10_readText 41 = .ok (.iconst (-1), 1) := zq_0 zo_2 zkX10_readText_32 9 rfl rfl
theorem dX10_readText_42 : decode cX10_readText 42 = .ok (.iastore, 1) := zq_0 zo_79 zkX10_readText_32 10 rfl rfl
theorem dX10_readText_43 : decode cX10_readText 43 = .ok (.iinc 2 1, 3) := zq_ii zo_132 zkX10_readText_32 11 rfl rfl 2 1 rfl rfl _ (by decide +kernel)
theorem dX10_readText_46 : decode cX10_readText 46 = .ok (.goto (-23), 3) := zq_2s zo_167 zkX10_readText_32 14 rfl rfl 255 233 rfl rfl _ (by decide +kernel)
theorem dX10_readText_49 : decode cX10_readText 49 = .ok (.aload_n 0, 1) := zq_0 zo_42 zkX10_readText_32 17 rfl rfl
theorem dX10_readText_50 : decode cX10_readText 50 = .ok (.getfield 35, 3) := zq_2 zo_180 zkX10_readText_32 18 rfl rfl 0 35 rfl rfl _ rfl
theorem dX10_readText_53 : decode cX10_readText 53 = .ok (.iconst 2, 1) := zq_0 zo_5 zkX10_readText_32 21 rfl rfl
theorem dX10_readText_54 : decode cX10_readText 54 = .ok (.iload_n 1, 1) := zq_0 zo_27 zkX10_readText_32 22 rfl rfl
theorem dX10_readText_55 : decode cX10_readText 55 = .ok (.ifCond .ne 7, 3) := zq_2s zo_154 zkX10_readText_32 23 rfl rfl 0 7 rfl rfl _ (by decide +kernel)
theorem dX10_readText_58 : decode cX10_readText 58 = .ok (.iconst 2, 1) := zq_0 zo_5 zkX10_readText_32 26 rfl rfl
theorem dX10_readText_59 : decode cX10_readText 59 = .ok (.goto 4, 3) := zq_2s zo_167 zkX10_readText_32 27 rfl rfl 0 4 rfl rfl _ (by decide +kernel)
theorem dX10_readText_62 : decode cX10_readText 62 = .ok (.iconst 0, 1) := zq_0 zo_3 zkX10_readText_32 30 rfl rfl
theorem dX10_readText_63 : decode cX10_readText 63 = .ok (.iastore, 1) := zq_0 zo_79 zkX10_readText_32 31 rfl rfl
theorem zkX10_readText_64 : zqc cX10_readText 64 [42, 180, 0, 35, 16, 6, 27, 154, 0, 7, 2, 167, 0, 4, 3, 79, 42, 2, 181, 0, 157, 42, 3, 181, 0, 111, 42, 3, 181, 0, 137, 42, 182, 0] := zq_of 34 (by decide +kernel)
theorem dX10_readText_64 : decode cX10_readText 64 = .ok (.aload_n 0, 1) := zq_0 zo_42 zkX10_readText_64 0 rfl rfl
theorem dX10_readText_65 : decode cX10_readText 65 = .ok (.getfield 35, 3) := zq_2 zo_180 zkX10_readText_64 1 rfl rfl 0 35 rfl rfl _ rfl
theorem dX10_readText_68 : decode cX10_readText 68 = .ok (.bipush 6, 2) := zq_1s zo_16 zkX10_readText_64 4 rfl rfl 6 rfl _ (by decide +kernel)
theorem dX10_readText_70 : decode cX10_readText 70 = .ok (.iload_n 1, 1) := zq_0 zo_27 zkX10_readText_64 6 rfl rfl
theorem dX10_readText_71 : decode cX10_readText 71 = .ok (.ifCond .ne 7, 3) := zq_2s zo_154 zkX10_readText_64 7 rfl rfl 0 7 rfl rfl _ (by decide +kernel)
theorem dX10_readText_74 : decode cX10_readText 74 = .ok (.iconst (-1), 1) := zq_0 zo_2 zkX10_readText_64 10 rfl rfl
theorem dX10_readText_75 : decode cX10_readText 75 = .ok (.goto 4, 3) := zq_2s zo_167 zkX10_readText_64 11 rfl rfl 0 4 rfl rfl _ (by decide +kernel)
theorem dX10_readText_78 : decode cX10_readText 78 = .ok (.iconst 0, 1) := zq_0 zo_3 zkX10_readText_64 14 rfl rfl
theorem dX10_readText_79 : decode cX10_readText 79 = .ok (.iastore, 1) := zq_0 zo_79 zkX10_readText_64 15 rfl rfl
theorem dX10_readText_80 : decode cX10_readText 80 = .ok (.aload_n 0, 1) := zq_0 zo_42 zkX10_readText_64 16 rfl rfl
theorem dX10_readText_81 : decode cX10_readText 81 = .ok (.iconst (-1), 1) := zq_0 zo_2 zkX10_readText_64 17 rfl rfl
theorem dX10_readText_82 : decode cX10_readText 82 = .ok (.putfield 157, 3) := zq_2 zo_181 zkX10_readText_64 18 rfl rfl 0 157 rfl rfl _ rfl
theorem dX10_readText_85 : decode cX10_readText 85 = .ok (.aload_n 0, 1) := zq_0 zo_42 zkX10_readText_64 21 rfl rfl
theorem dX10_readText_86 : decode cX10_readText 86 = .ok (.iconst 0, 1) := zq_0 zo_3 zkX10_readText_64 22 rfl rfl
theorem dX10_readText_87 : decode cX10_readText 87 = .ok (.putfield 111, 3) := zq_2 zo_181 zkX10_readText_64 23 rfl rfl 0 111 rfl rfl _ rfl
theorem dX10_readText_90 : decode cX10_readText 90 = .ok (.aload_n 0, 1) := zq_0 zo_42 zkX10_readText_64 26 rfl rfl
theorem dX10_readText_91 : decode cX10_readText 91 = .ok (.iconst 0, 1) := zq_0 zo_3 zkX10_readText_64 27 rfl rfl
theorem dX10_readText_92 : decode cX10_readText 92 = .ok (.putfield 137, 3) := zq_2 zo_181 zkX10_readText_64 28 rfl rfl 0 137 rfl rfl _ rfl
theorem dX10_readText_95 : decode cX10_readText 95 = .ok (.aload_n 0, 1) := zq_0 zo_42 zkX10_readText_64 31 rfl rfl
theorem zkX10_readText_96 : zqc cX10_readText 96 [182, 0, 151, 42, 27, 182, 0, 221, 61, 28, 153, 0, 46, 27, 154, 0, 42, 42, 180, 0, 137, 154, 0, 35, 42, 180, 0, 157, 42, 180, 0, 35, 3, 46] := zq_of 34 (by decide +kernel)
theorem dX10_readText_96 : decode cX10_readText 96 = .ok (.invokevirtual 151, 3) := zq_2 zo_182 zkX10_readText_96 0 rfl rfl 0 151 rfl rfl _ rfl
theorem dX10_readText_99 : decode cX10_readText 99 = .ok (.aload_n 0, 1) := zq_0 zo_42 zkX10_readText_96 3 rfl rfl
theorem dX10_readText_100 : decode cX10_readText 100 = .ok (.iload_n 1, 1) := zq_0 zo_27 zkX10_readText_96 4 rfl rfl
theorem dX10_readText_101 : decode cX10_readText 101 = .ok (.invokevirtual 221, 3) := zq_2 zo_182 zkX10_readText_96 5 rfl rfl 0 221 rfl rfl _ rfl
theorem dX10_readText_104 : decode cX10_readText 104 = .ok (.istore_n 2, 1) := zq_0 zo_61 zkX10_readText_96 8 rfl rfl
theorem dX10_readText_105 : decode cX10_readText 105 = .ok (.iload_n 2, 1) := zq_0 zo_28 zkX10_readText_96 9 rfl rfl
theorem dX10_readText_106 : decode cX10_readText 106 = .ok (.ifCond .eq 46, 3) := zq_2s zo_153 zkX10_readText_96 10 rfl rfl 0 46 rfl rfl _ (by decide +kernel)
theorem dX10_readText_109 : decode cX10_readText 109 = .ok (.iload_n 1, 1) := zq_0 zo_27 zkX10_readText_96 13 rfl rfl
theorem dX10_readText_110 : decode cX10_readText 110 = .ok (.ifCond .ne 42, 3) := zq_2s zo_154 zkX10_readText_96 14 rfl rfl 0 42 rfl rfl _ (by decide +kernel)
theorem dX10_readText_113 : decode cX10_readText 113 = .ok (.aload_n 0, 1) := zq_0 zo_42 zkX10_readText_96 17 rfl rfl
theorem dX10_readText_114 : decode cX10_readText 114 = .ok (.getfield 137, 3) := zq_2 zo_180 zkX10_readText_96 18 rfl rfl 0 137 rfl rfl _ rfl
theorem dX10_readText_117 : decode cX10_readText 117 = .ok (.ifCond .ne 35, 3) := zq_2s zo_154 zkX10_readText_96 21 rfl rfl 0 35 rfl rfl _ (by decide +kernel)
theorem dX10_readText_120 : decode cX10_readText 120 = .ok (.aload_n 0, 1) := zq_0 zo_42 zkX10_readText_96 24 rfl rfl
theorem dX10_readText_121 : decode cX10_readText 121 = .ok (.getfield 157, 3) := zq_2 zo_180 zkX10_readText_96 25 rfl rfl 0 157 rfl rfl _ rfl
theorem dX10_readText_124 : decode cX10_readText 124 = .ok (.aload_n 0, 1) := zq_0 zo_42 zkX10_readText_96 28 rfl rfl
theorem dX10_readText_125 : decode cX10_readText 125 = .ok (.getfield 35, 3) := zq_2 zo_180 zkX10_readText_96 29 rfl rfl 0 35 rfl rfl _ rfl
theorem zkX10_readText_128 : zqc cX10_readText 128 [3, 46, 162, 0, 13, 42, 180, 0, 35, 3, 46, 5, 162, 0, 12, 42, 7, 42, 180, 0, 121, 182, 0, 147, 3, 62, 29, 16, 16, 162, 0, 51, 27, 154] := zq_of 34 (by decide +kernel)
theorem dX10_readText_128 : decode cX10_readText 128 = .ok (.iconst 0, 1) := zq_0 zo_3 zkX10_readText_128 0 rfl rfl
theorem dX10_readText_129 : decode cX10_readText 129 = .ok (.iaload, 1) := zq_0 zo_46 zkX10_readText_128 1 rfl rfl
theorem dX10_readText_130 : decode cX10_readText 130 = .ok (.if_icmp .ge 13, 3) := zq_2s zo_162 zkX10_readText_128 2 rfl rfl 0 13 rfl rfl _ (by decide +kernel)
theorem dX10_readText_133 : decode cX10_readText 133 = .ok (.aload_n 0, 1) := zq_0 zo_42 zkX10_readText_128 5 rfl rfl
theorem dX10_readText_134 : decode cX10_readText 134 = .ok (.getfield 35, 3) := zq_2 zo_180 zkX10_readText_128 6 rfl rfl 0 35 rfl rfl _ rfl
theorem dX10_readText_137 : decode cX10_readText 137 = .ok (.iconst 0, 1) := zq_0 zo_3 zkX10_readText_128 9 rfl rfl
theorem dX10_readText_138 : decode cX10_readText 138 = .ok (.iaload, 1) := zq_0 zo_46 zkX10_readText_128 10 rfl rfl
theorem dX10_readText_139 : decode cX10_readText 139 = .ok (.iconst 2, 1) := zq_0 zo_5 zkX10_readText_128 11 rfl rfl
theorem dX10_readText_140 : decode cX10_readText 140 = .ok (.if_icmp .ge 12, 3) := zq_2s zo_162 zkX10_readText_128 12 rfl rfl 0 12 rfl rfl _ (by decide +kernel)
theorem dX10_readText_143 : decode cX10_readText 143 = .ok (.aload_n 0, 1) := zq_0 zo_42 zkX10_readText_128 15 rfl rfl
theorem dX10_readText_144 : decode cX10_readText 144 = .ok (.iconst 4, 1) := zq_0 zo_7 zkX10_readText_128 16 rfl rfl
theorem dX10_readText_145 : decode cX10_readText 145 = .ok (.aload_n 0, 1) := zq_0 zo_42 zkX10_readText_128 17 rfl rfl
theorem dX10_readText_146 : decode cX10_readText 146 = .ok (.getfield 121, 3) := zq_2 zo_180 zkX10_readText_128 18 rfl rfl 0 121 rfl rfl _ rfl
theorem dX10_readText_149 : decode cX10_readText 149 = .ok (.invokevirtual 147, 3) := zq_2 zo_182 zkX10_readText_128 21 rfl rfl 0 147 rfl rfl _ rfl
theorem dX10_readText_152 : decode cX10_readText 152 = .ok (.iconst 0, 1) := zq_0 zo_3 zkX10_readText_128 24 rfl rfl
theorem dX10_readText_153 : decode cX10_readText 153 = .ok (.istore_n 3, 1) := zq_0 zo_62 zkX10_readText_128 25 rfl rfl
theorem dX10_readText_154 : decode cX10_readText 154 = .ok (.iload_n 3, 1) := zq_0 zo_29 zkX10_readText_128 26 rfl rfl
theorem dX10_readText_155 : decode cX10_readText 155 = .ok (.bipush 16, 2) := zq_1s zo_16 zkX10_readText_128 27 rfl rfl 16 rfl _ (by decide +kernel)
theorem dX10_readText_157 : decode cX10_readText 157 = .ok (.if_icmp .ge 51, 3) := zq_2s zo_162 zkX10_readText_128 29 rfl rfl 0 51 rfl rfl _ (by decide +kernel)
theorem zkX10_readText_160 : zqc cX10_readText 160 [27, 154, 0, 47, 42, 180, 0, 35, 16, 7, 8, 29, 104, 96, 6, 96, 42, 180, 0, 41, 29, 46, 79, 42, 180, 0, 35, 16, 7, 8, 29, 104, 96, 7] := zq_of 34 (by decide +kernel)
theorem dX10_readText_160 : decode cX10_readText 160 = .ok (.iload_n 1, 1) := zq_0 zo_27 zkX10_readText_160 0 rfl rfl
theorem dX10_readText_161 : decode cX10_readText 161 = .ok (.ifCond .ne 47, 3) := zq_2s zo_154 zkX10_readText_160 1 rfl rfl 0 47 rfl rfl _ (by decide +kernel)
theorem dX10_readText_164 : decode cX10_readText 164 = .ok (.aload_n 0, 1) := zq_0 zo_42 zkX10_readText_160 4 rfl rfl
theorem dX10_readText_165 : decode cX10_readText 165 = .ok (.getfield 35, 3) := zq_2 zo_180 zkX10_readText_160 5 rfl rfl 0 35 rfl rfl _ rfl
theorem dX10_readText_168 : decode cX10_readText 168 = .ok (.bipush 7, 2) := zq_1s zo_16 zkX10_readText_160 8 rfl rfl 7 rfl _ (by decide +kernel)
theorem dX10_readText_170 : decode cX10_readText 170 = .ok (.iconst 5, 1) := zq_0 zo_8 zkX10_readText_160 10 rfl rfl
theorem dX10_readText_171 : decode cX10_readText 171 = .ok (.iload_n 3, 1) := zq_0 zo_29 zkX10_readText_160 11 rfl rfl
theorem dX10_readText_172 : decode cX10_readText 172 = .ok (.imul, 1) := zq_0 zo_104 zkX10_readText_160 12 rfl rfl
theorem dX10_readText_173 : decode cX10_readText 173 = .ok (.iadd, 1) := zq_0 zo_96 zkX10_readText_160 13 rfl rfl
theorem dX10_readText_174 : decode cX10_readText 174 = .ok (.iconst 3, 1) := zq_0 zo_6 zkX10_readText_160 14 rfl rfl
theorem dX10_readText_175 : decode cX10_readText 175 = .ok (.iadd, 1) := zq_0 zo_96 zkX10_readText_160 15 rfl rfl
theorem dX10_readText_176 : decode cX10_readText 176 = .ok (.aload_n 0, 1) := zq_0 zo_42 zkX10_readText_160 16 rfl rfl
theorem dX10_readText_177 : decode cX10_readText 177 = .ok (.getfield 41, 3) := zq_2 zo_180 zkX10_readText_160 17 rfl rfl 0 41 rfl rfl _ rfl
theorem dX10_readText_180 : decode cX10_readText 180 = .ok (.iload_n 3, 1) := zq_0 zo_29 zkX10_readText_160 20 rfl rfl
theorem dX10_readText_181 : decode cX10_readText 181 = .ok (.iaload, 1) := zq_0 zo_46 zkX10_readText_160 21 rfl rfl
theorem dX10_readText_182 : decode cX10_readText 182 = .ok (.iastore, 1) := zq_0 zo_79 zkX10_readText_160 22 rfl rfl
theorem dX10_readText_183 : decode cX10_readText 183 = .ok (.aload_n 0, 1) := zq_0 zo_42 zkX10_readText_160 23 rfl rfl
theorem dX10_readText_184 : decode cX10_readText 184 = .ok (.getfield 35, 3) := zq_2 zo_180 zkX10_readText_160 24 rfl rfl 0 35 rfl rfl _ rfl
theorem dX10_readText_187 : decode cX10_readText 187 = .ok (.bipush 7, 2) := zq_1s zo_16 zkX10_readText_160 27 rfl rfl 7 rfl _ (by decide +kernel)
theorem dX10_readText_189 : decode cX10_readText 189 = .ok (.iconst 5, 1) := zq_0 zo_8 zkX10_readText_160 29 rfl rfl
theorem dX10_readText_190 : decode cX10_readText 190 = .ok (.iload_n 3, 1) := zq_0 zo_29 zkX10_readText_160 30 rfl rfl
theorem dX10_readText_191 : decode cX10_readText 191 = .ok (.imul, 1) := zq_0 zo_104 zkX10_readText_160 31 rfl rfl
theorem zkX10_readText_192 : zqc cX10_readText 192 [96, 7, 96, 42, 180, 0, 44, 29, 46, 79, 132, 3, 1, 167, 255, 205, 42, 180, 0, 17, 3, 28, 153, 0, 10, 42, 180, 0, 137, 167, 0, 4, 4, 79] := zq_of 34 (by decide +kernel)
theorem dX10_readText_192 : decode cX10_readText 192 = .ok (.iadd, 1) := zq_0 zo_96 zkX10_readText_192 0 rfl rfl
theorem dX10_readText_193 : decode cX10_readText 193 = .ok (.iconst 4, 1) := zq_0 zo_7 zkX10_readText_192 1 rfl rfl
theorem dX10_readText_194 : decode cX10_readText 194 = .ok (.iadd, 1) := zq_0 zo_96 zkX10_readText_192 2 rfl rfl
theorem dX10_readText_195 : decode cX10_readText 195 = .ok (.aload_n 0, 1) := zq_0 zo_42 zkX10_readText_192 3 rfl rfl
theorem dX10_readText_196 : decode cX10_readText 196 = .ok (.getfield 44, 3) := zq_2 zo_180 zkX10_readText_192 4 rfl rfl 0 44 rfl rfl _ rfl
theorem dX10_readText_199 : decode cX10_readText 199 = .ok (.iload_n 3, 1) := zq_0 zo_29 zkX10_readText_192 7 rfl rfl
theorem dX10_readText_200 : decode cX10_readText 200 = .ok (.iaload, 1) := zq_0 zo_46 zkX10_readText_192 8 rfl rfl
theorem dX10_readText_201 : decode cX10_readText 201 = .ok (.iastore, 1) := zq_0 zo_79 zkX10_readText_192 9 rfl rfl
theorem dX10_readText_202 : decode cX10_readText 202 = .ok (.iinc 3 1, 3) := zq_ii zo_132 zkX10_readText_192 10 rfl rfl 3 1 rfl rfl _ (by decide +kernel)
theorem dX10_readText_205 : decode cX10_readText 205 = .ok (.goto (-51), 3) := zq_2s zo_167 zkX10_readText_192 13 rfl rfl 255 205 rfl rfl _ (by decide +kernel)
theorem dX10_readText_208 : decode cX10_readText 208 = .ok (.aload_n 0, 1) := zq_0 zo_42 zkX10_readText_192 16 rfl rfl
theorem dX10_readText_209 : decode cX10_readText 209 = .ok (.getfield 17, 3) := zq_2 zo_180 zkX10_readText_192 17 rfl rfl 0 17 rfl rfl _ rfl
theorem dX10_readText_212 : decode cX10_readText 212 = .ok (.iconst 0, 1) := zq_0 zo_3 zkX10_readText_192 20 rfl rfl
theorem dX10_readText_213 : decode cX10_readText 213 = .ok (.iload_n 2, 1) := zq_0 zo_28 zkX10_readText_192 21 rfl rfl
theorem dX10_readText_214 : decode cX10_readText 214 = .ok (.ifCond .eq 10, 3) := zq_2s zo_153 zkX10_readText_192 22 rfl rfl 0 10 rfl rfl _ (by decide +kernel)
theorem dX10_readText_217 : decode cX10_readText 217 = .ok (.aload_n 0, 1) := zq_0 zo_42 zkX10_readText_192 25 rfl rfl
theorem dX10_readText_218 : decode cX10_readText 218 = .ok (.getfield 137, 3) := zq_2 zo_180 zkX10_readText_192 26 rfl rfl 0 137 rfl rfl _ rfl
theorem dX10_readText_221 : decode cX10_readText 221 = .ok (.goto 4, 3) := zq_2s zo_167 zkX10_readText_192 29 rfl rfl 0 4 rfl rfl _ (by decide +kernel)
theorem zkX10_readText_224 : zqc cX10_readText 224 [4, 79, 42, 180, 0, 20, 3, 28, 154, 0, 10, 42, 180, 0, 134, 167, 0, 18, 42, 180, 0, 137, 158, 0, 10, 42, 180, 0, 140, 167, 0, 4, 2, 79] := zq_of 34 (by decide +kernel)
theorem dX10_readText_224 : decode cX10_readText 224 = .ok (.iconst 1, 1) := zq_0 zo_4 zkX10_readText_224 0 rfl rfl
theorem dX10_readText_225 : decode cX10_readText 225 = .ok (.iastore, 1) := zq_0 zo_79 zkX10_readText_224 1 rfl rfl
theorem dX10_readText_226 : decode cX10_readText 226 = .ok (.aload_n 0, 1) := zq_0 zo_42 zkX10_readText_224 2 rfl rfl
theorem dX10_readText_227 : decode cX10_readText 227 = .ok (.getfield 20, 3) := zq_2 zo_180 zkX10_readText_224 3 rfl rfl 0 20 rfl rfl _ rfl
theorem dX10_readText_230 : decode cX10_readText 230 = .ok (.iconst 0, 1) := zq_0 zo_3 zkX10_readText_224 6 rfl rfl
theorem dX10_readText_231 : decode cX10_readText 231 = .ok (.iload_n 2, 1) := zq_0 zo_28 zkX10_readText_224 7 rfl rfl
theorem dX10_readText_232 : decode cX10_readText 232 = .ok (.ifCond .ne 10, 3) := zq_2s zo_154 zkX10_readText_224 8 rfl rfl 0 10 rfl rfl _ (by decide +kernel)
theorem dX10_readText_235 : decode cX10_readText 235 = .ok (.aload_n 0, 1) := zq_0 zo_42 zkX10_readText_224 11 rfl rfl
theorem dX10_readText_236 : decode cX10_readText 236 = .ok (.getfield 134, 3) := zq_2 zo_180 zkX10_readText_224 12 rfl rfl 0 134 rfl rfl _ rfl
theorem dX10_readText_239 : decode cX10_readText 239 = .ok (.goto 18, 3) := zq_2s zo_167 zkX10_readText_224 15 rfl rfl 0 18 rfl rfl _ (by decide +kernel)
theorem dX10_readText_242 : decode cX10_readText 242 = .ok (.aload_n 0, 1) := zq_0 zo_42 zkX10_readText_224 18 rfl rfl
theorem dX10_readText_243 : decode cX10_readText 243 = .ok (.getfield 137, 3) := zq_2 zo_180 zkX10_readText_224 19 rfl rfl 0 137 rfl rfl _ rfl
theorem dX10_readText_246 : decode cX10_readText 246 = .ok (.ifCond .le 10, 3) := zq_2s zo_158 zkX10_readText_224 22 rfl rfl 0 10 rfl rfl _ (by decide +kernel)
theorem dX10_readText_249 : decode cX10_readText 249 = .ok (.aload_n 0, 1) := zq_0 zo_42 zkX10_readText_224 25 rfl rfl
theorem dX10_readText_250 : decode cX10_readText 250 = .ok (.getfield 140, 3) := zq_2 zo_180 zkX10_readText_224 26 rfl rfl 0 140 rfl rfl _ rfl
theorem dX10_readText_253 : decode cX10_readText 253 = .ok (.goto 4, 3) := zq_2s zo_167 zkX10_readText_224 29 rfl rfl 0 4 rfl rfl _ (by decide +kernel)
theorem zkX10_readText_256 : zqc cX10_readText 256 [2, 79, 42, 180, 0, 17, 3, 46, 154, 0, 7, 4, 167, 0, 4, 3, 172] := zq_of 17 (by decide +kernel)
theorem dX10_readText_256 : decode cX10_readText 256 = .ok (.iconst (-1), 1) := zq_0 zo_2 zkX10_readText_256 0 rfl rfl
theorem dX10_readText_257 : decode cX10_readText 257 = .ok (.iastore, 1) := zq_0 zo_79 zkX10_readText_256 1 rfl rfl
theorem dX10_readText_258 : decode cX10_readText 258 = .ok (.aload_n 0, 1) := zq_0 zo_42 zkX10_readText_256 2 rfl rfl
theorem dX10_readText_259 : decode cX10_readText 259 = .ok (.getfield 17, 3) := zq_2 zo_180 zkX10_readText_256 3 rfl rfl 0 17 rfl rfl _ rfl
theorem dX10_readText_262 : decode cX10_readText 262 = .ok (.iconst 0, 1) := zq_0 zo_3 zkX10_readText_256 6 rfl rfl
theorem dX10_readText_263 : decode cX10_readText 263 = .ok (.iaload, 1) := zq_0 zo_46 zkX10_readText_256 7 rfl rfl
theorem dX10_readText_264 : decode cX10_readText 264 = .ok (.ifCond .ne 7, 3) := zq_2s zo_154 zkX10_readText_256 8 rfl rfl 0 7 rfl rfl _ (by decide +kernel)
theorem dX10_readText_267 : decode cX10_readText 267 = .ok (.iconst 1, 1) := zq_0 zo_4 zkX10_readText_256 11 rfl rfl
theorem dX10_readText_268 : decode cX10_readText 268 = .ok (.goto 4, 3) := zq_2s zo_167 zkX10_readText_256 12 rfl rfl 0 4 rfl rfl _ (by decide +kernel)
theorem dX10_readText_271 : decode cX10_readText 271 = .ok (.iconst 0, 1) := zq_0 zo_3 zkX10_readText_256 15 rfl rfl
theorem dX10_readText_272 : decode cX10_readText 272 = .ok (.ireturn, 1) := zq_0 zo_172 zkX10_readText_256 16 rfl rfl
theorem zkX10_store_0 : zqc cX10_store 0 [3, 54, 4, 21, 4, 28, 162, 0, 24, 43, 28, 29, 104, 21, 4, 96, 42, 180, 0, 35, 21, 4, 46, 79, 132, 4, 1, 167, 255, 232, 177] := zq_of 31 (by decide +kernel)
theorem dX10_store_0 : decode cX10_store 0 = .ok (.iconst 0, 1) := zq_0 zo_3 zkX10_store_0 0 rfl rfl
theorem dX10_store_1 : decode cX10_store 1 = .ok (.istore 4, 2) := zq_1 zo_54 zkX10_store_0 1 rfl rfl 4 rfl
theorem dX10_store_3 : decode cX10_store 3 = .ok (.iload 4, 2) := zq_1 zo_21 zkX10_store_0 3 rfl rfl 4 rfl
theorem dX10_store_5 : decode cX10_store 5 = .ok (.iload_n 2, 1) := zq_0 zo_28 zkX10_store_0 5 rfl rfl
theorem dX10_store_6 : decode cX10_store 6 = .ok (.if_icmp .ge 24, 3) := zq_2s zo_162 zkX10_store_0 6 rfl rfl 0 24 rfl rfl _ (by decide +kernel)
theorem dX10_store_9 : decode cX10_store 9 = .ok (.aload_n 1, 1) := zq_0 zo_43 zkX10_store_0 9 rfl rfl
theorem dX10_store_10 : decode cX10_store 10 = .ok (.iload_n 2, 1) := zq_0 zo_28 zkX10_store_0 10 rfl rfl
theorem dX10_store_11 : decode cX10_store 11 = .ok (.iload_n 3, 1) := zq_0 zo_29 zkX10_store_0 11 rfl rfl
theorem dX10_store_12 : decode cX10_store 12 = .ok (.imul, 1) := zq_0 zo_104 zkX10_store_0 12 rfl rfl
theorem dX10_store_13 : decode cX10_store 13 = .ok (.iload 4, 2) := zq_1 zo_21 zkX10_store_0 13 rfl rfl 4 rfl
theorem dX10_store_15 : decode cX10_store 15 = .ok (.iadd, 1) := zq_0 zo_96 zkX10_store_0 15 rfl rfl
theorem dX10_store_16 : decode cX10_store 16 = .ok (.aload_n 0, 1) := zq_0 zo_42 zkX10_store_0 16 rfl rfl
theorem dX10_store_17 : decode cX10_store 17 = .ok (.getfield 35, 3) := zq_2 zo_180 zkX10_store_0 17 rfl rfl 0 35 rfl rfl _ rfl
theorem dX10_store_20 : decode cX10_store 20 = .ok (.iload 4, 2) := zq_1 zo_21 zkX10_store_0 20 rfl rfl 4 rfl
theorem dX10_store_22 : decode cX10_store 22 = .ok (.iaload, 1) := zq_0 zo_46 zkX10_store_0 22 rfl rfl
theorem dX10_store_23 : decode cX10_store 23 = .ok (.iastore, 1) := zq_0 zo_79 zkX10_store_0 23 rfl rfl
theorem dX10_store_24 : decode cX10_store 24 = .ok (.iinc 4 1, 3) := zq_ii zo_132 zkX10_store_0 24 rfl rfl 4 1 rfl rfl _ (by decide +kernel)
theorem dX10_store_27 : decode cX10_store 27 = .ok (.goto (-24), 3) := zq_2s zo_167 zkX10_store_0 27 rfl rfl 255 232 rfl rfl _ (by decide +kernel)
theorem dX10_store_30 : decode cX10_store 30 = .ok (.return_, 1) := zq_0 zo_177 zkX10_store_0 30 rfl rfl
theorem zkX10_text_0 : zqc cX10_text 0 [42, 3, 181, 0, 91, 42, 42, 180, 0, 13, 3, 46, 181, 0, 114, 42, 180, 0, 13, 3, 3, 79, 42, 180, 0, 17, 3, 3, 79, 42, 180, 0, 20, 3] := zq_of 34 (by decide +kernel)
theorem dX10_text_0 : decode cX10_text 0 = .ok (.aload_n 0, 1) := zq_0 zo_42 zkX10_text_0 0 rfl rfl
theorem dX10_text_1 : decode cX10_text 1 = .ok (.iconst 0, 1) := zq_0 zo_3 zkX10_text_0 1 rfl rfl
theorem dX10_text_2 : decode cX10_text 2 = .ok (.putfield 91, 3) := zq_2 zo_181 zkX10_text_0 2 rfl rfl 0 91 rfl rfl _ rfl
theorem dX10_text_5 : decode cX10_text 5 = .ok (.aload_n 0, 1) := zq_0 zo_42 zkX10_text_0 5 rfl rfl
theorem dX10_text_6 : decode cX10_text 6 = .ok (.aload_n 0, 1) := zq_0 zo_42 zkX10_text_0 6 rfl rfl
theorem dX10_text_7 : decode cX10_text 7 = .ok (.getfield 13, 3) := zq_2 zo_180 zkX10_text_0 7 rfl rfl 0 13 rfl rfl _ rfl
theorem dX10_text_10 : decode cX10_text 10 = .ok (.iconst 0, 1) := zq_0 zo_3 zkX10_text_0 10 rfl rfl
theorem dX10_text_11 : decode cX10_text 11 = .ok (.iaload, 1) := zq_0 zo_46 zkX10_text_0 11 rfl rfl
theorem dX10_text_12 : decode cX10_text 12 = .ok (.putfield 114, 3) := zq_2 zo_181 zkX10_text_0 12 rfl rfl 0 114 rfl rfl _ rfl
theorem dX10_text_15 : decode cX10_text 15 = .ok (.aload_n 0, 1) := zq_0 zo_42 zkX10_text_0 15 rfl rfl
theorem dX10_text_16 : decode cX10_text 16 = .ok (.getfield 13, 3) := zq_2 zo_180 zkX10_text_0 16 rfl rfl 0 13 rfl rfl _ rfl
theorem dX10_text_19 : decode cX10_text 19 = .ok (.iconst 0, 1) := zq_0 zo_3 zkX10_text_0 19 rfl rfl
theorem dX10_text_20 : decode cX10_text 20 = .ok (.iconst 0, 1) := zq_0 zo_3 zkX10_text_0 20 rfl rfl
theorem dX10_text_21 : decode cX10_text 21 = .ok (.iastore, 1) := zq_0 zo_79 zkX10_text_0 21 rfl rfl
theorem dX10_text_22 : decode cX10_text 22 = .ok (.aload_n 0, 1) := zq_0 zo_42 zkX10_text_0 22 rfl rfl
theorem dX10_text_23 : decode cX10_text 23 = .ok (.getfield 17, 3) := zq_2 zo_180 zkX10_text_0 23 rfl rfl 0 17 rfl rfl _ rfl
theorem dX10_text_26 : decode cX10_text 26 = .ok (.iconst 0, 1) := zq_0 zo_3 zkX10_text_0 26 rfl rfl
theorem dX10_text_27 : decode cX10_text 27 = .ok (.iconst 0, 1) := zq_0 zo_3 zkX10_text_0 27 rfl rfl
theorem dX10_text_28 : decode cX10_text 28 = .ok (.iastore, 1) := zq_0 zo_79 zkX10_text_0 28 rfl rfl
theorem dX10_text_29 : decode cX10_text 29 = .ok (.aload_n 0, 1) := zq_0 zo_42 zkX10_text_0 29 rfl rfl
theorem dX10_text_30 : decode cX10_text 30 = .ok (.getfield 20, 3) := zq_2 zo_180 zkX10_text_0 30 rfl rfl 0 20 rfl rfl _ rfl
theorem zkX10_text_32 : zqc cX10_text 32 [20, 3, 2, 79, 27, 3, 5, 184, 0, 103, 153, 0, 30, 28, 2, 160, 0, 16, 42, 180, 0, 23, 27, 46, 5, 160, 0, 18, 167, 0, 12, 42, 27, 28] := zq_of 34 (by decide +kernel)
theorem dX10_text_33 : decode cX10_text 33 = .ok (.iconst 0, 1) := zq_0 zo_3 zkX10_text_32 1 rfl rfl
theorem dX10_text_34 : decode cX10_text 34 = .ok (.iconst (-1), 1) := zq_0 zo_2 zkX10_text_32 2 rfl rfl
theorem dX10_text_35 : decode cX10_text 35 = .ok (.iastore, 1) := zq_0 zo_79 zkX10_text_32 3 rfl rfl
theorem dX10_text_36 : decode cX10_text 36 = .ok (.iload_n 1, 1) := zq_0 zo_27 zkX10_text_32 4 rfl rfl
theorem dX10_text_37 : decode cX10_text 37 = .ok (.iconst 0, 1) := zq_0 zo_3 zkX10_text_32 5 rfl rfl
theorem dX10_text_38 : decode cX10_text 38 = .ok (.iconst 2, 1) := zq_0 zo_5 zkX10_text_32 6 rfl rfl
theorem dX10_text_39 : decode cX10_text 39 = .ok (.invokestatic 103, 3) := zq_2 zo_184 zkX10_text_32 7 rfl rfl 0 103 rfl rfl _ rfl
theorem dX10_text_42 : decode cX10_text 42 = .ok (.ifCond .eq 30, 3) := zq_2s zo_153 zkX10_text_32 10 rfl rfl 0 30 rfl rfl _ (by decide +kernel)
theorem dX10_text_45 : decode cX10_text 45 = .ok (.iload_n 2, 1) := zq_0 zo_28 zkX10_text_32 13 rfl rfl
theorem dX10_text_46 : decode cX10_text 46 = .ok (.iconst (-1), 1) := zq_0 zo_2 zkX10_text_32 14 rfl rfl
theorem dX10_text_47 : decode cX10_text 47 = .ok (.if_icmp .ne 16, 3) := zq_2s zo_160 zkX10_text_32 15 rfl rfl 0 16 rfl rfl _ (by decide +kernel)
theorem dX10_text_50 : decode cX10_text 50 = .ok (.aload_n 0, 1) := zq_0 zo_42 zkX10_text_32 18 rfl rfl
theorem dX10_text_51 : decode cX10_text 51 = .ok (.getfield 23, 3) := zq_2 zo_180 zkX10_text_32 19 rfl rfl 0 23 rfl rfl _ rfl
theorem dX10_text_54 : decode cX10_text 54 = .ok (.iload_n 1, 1) := zq_0 zo_27 zkX10_text_32 22 rfl rfl
theorem dX10_text_55 : decode cX10_text 55 = .ok (.iaload, 1) := zq_0 zo_46 zkX10_text_32 23 rfl rfl
theorem dX10_text_56 : decode cX10_text 56 = .ok (.iconst 2, 1) := zq_0 zo_5 zkX10_text_32 24 rfl rfl
theorem dX10_text_57 : decode cX10_text 57 = .ok (.if_icmp .ne 18, 3) := zq_2s zo_160 zkX10_text_32 25 rfl rfl 0 18 rfl rfl _ (by decide +kernel)
theorem dX10_text_60 : decode cX10_text 60 = .ok (.goto 12, 3) := zq_2s zo_167 zkX10_text_32 28 rfl rfl 0 12 rfl rfl _ (by decide +kernel)
theorem dX10_text_63 : decode cX10_text 63 = .ok (.aload_n 0, 1) := zq_0 zo_42 zkX10_text_32 31 rfl rfl
theorem zkX10_text_64 : zqc cX10_text 64 [27, 28, 182, 0, 225, 154, 0, 6, 16, 254, 172, 42, 27, 182, 0, 228, 154, 0, 5, 2, 172, 28, 2, 160, 0, 12, 42, 180, 0, 23, 27, 46, 167, 0] := zq_of 34 (by decide +kernel)
theorem dX10_text_64 : decode cX10_text 64 = .ok (.iload_n 1, 1) := zq_0 zo_27 zkX10_text_64 0 rfl rfl
theorem dX10_text_65 : decode cX10_text 65 = .ok (.iload_n 2, 1) := zq_0 zo_28 zkX10_text_64 1 rfl rfl
theorem dX10_text_66 : decode cX10_text 66 = .ok (.invokevirtual 225, 3) := zq_2 zo_182 zkX10_text_64 2 rfl rfl 0 225 rfl rfl _ rfl
theorem dX10_text_69 : decode cX10_text 69 = .ok (.ifCond .ne 6, 3) := zq_2s zo_154 zkX10_text_64 5 rfl rfl 0 6 rfl rfl _ (by decide +kernel)
theorem dX10_text_72 : decode cX10_text 72 = .ok (.bipush (-2), 2) := zq_1s zo_16 zkX10_text_64 8 rfl rfl 254 rfl _ (by decide +kernel)
theorem dX10_text_74 : decode cX10_text 74 = .ok (.ireturn, 1) := zq_0 zo_172 zkX10_text_64 10 rfl rfl
theorem dX10_text_75 : decode cX10_text 75 = .ok (.aload_n 0, 1) := zq_0 zo_42 zkX10_text_64 11 rfl rfl
theorem dX10_text_76 : decode cX10_text 76 = .ok (.iload_n 1, 1) := zq_0 zo_27 zkX10_text_64 12 rfl rfl
theorem dX10_text_77 : decode cX10_text 77 = .ok (.invokevirtual 228, 3) := zq_2 zo_182 zkX10_text_64 13 rfl rfl 0 228 rfl rfl _ rfl
theorem dX10_text_80 : decode cX10_text 80 = .ok (.ifCond .ne 5, 3) := zq_2s zo_154 zkX10_text_64 16 rfl rfl 0 5 rfl rfl _ (by decide +kernel)
theorem dX10_text_83 : decode cX10_text 83 = .ok (.iconst (-1), 1) := zq_0 zo_2 zkX10_text_64 19 rfl rfl
theorem dX10_text_84 : decode cX10_text 84 = .ok (.ireturn, 1) := zq_0 zo_172 zkX10_text_64 20 rfl rfl
theorem dX10_text_85 : decode cX10_text 85 = .ok (.iload_n 2, 1) := zq_0 zo_28 zkX10_text_64 21 rfl rfl
theorem dX10_text_86 : decode cX10_text 86 = .ok (.iconst (-1), 1) := zq_0 zo_2 zkX10_text_64 22 rfl rfl
theorem dX10_text_87 : decode cX10_text 87 = .ok (.if_icmp .ne 12, 3) := zq_2s zo_160 zkX10_text_64 23 rfl rfl 0 12 rfl rfl _ (by decide +kernel)
theorem dX10_text_90 : decode cX10_text 90 = .ok (.aload_n 0, 1) := zq_0 zo_42 zkX10_text_64 26 rfl rfl
theorem dX10_text_91 : decode cX10_text 91 = .ok (.getfield 23, 3) := zq_2 zo_180 zkX10_text_64 27 rfl rfl 0 23 rfl rfl _ rfl
theorem dX10_text_94 : decode cX10_text 94 = .ok (.iload_n 1, 1) := zq_0 zo_27 zkX10_text_64 30 rfl rfl
theorem dX10_text_95 : decode cX10_text 95 = .ok (.iaload, 1) := zq_0 zo_46 zkX10_text_64 31 rfl rfl
theorem zkX10_text_96 : zqc cX10_text 96 [167, 0, 4, 28, 62, 42, 180, 0, 23, 27, 92, 46, 28, 2, 160, 0, 7, 4, 167, 0, 4, 3, 96, 79, 27, 154, 0, 17, 42, 42, 180, 0, 26, 16] := zq_of 34 (by decide +kernel)
theorem dX10_text_96 : decode cX10_text 96 = .ok (.goto 4, 3) := zq_2s zo_167 zkX10_text_96 0 rfl rfl 0 4 rfl rfl _ (by decide +kernel)
theorem dX10_text_99 : decode cX10_text 99 = .ok (.iload_n 2, 1) := zq_0 zo_28 zkX10_text_96 3 rfl rfl
theorem dX10_text_100 : decode cX10_text 100 = .ok (.istore_n 3, 1) := zq_0 zo_62 zkX10_text_96 4 rfl rfl
theorem dX10_text_101 : decode cX10_text 101 = .ok (.aload_n 0, 1) := zq_0 zo_42 zkX10_text_96 5 rfl rfl
theorem dX10_text_102 : decode cX10_text 102 = .ok (.getfield 23, 3) := zq_2 zo_180 zkX10_text_96 6 rfl rfl 0 23 rfl rfl _ rfl
theorem dX10_text_105 : decode cX10_text 105 = .ok (.iload_n 1, 1) := zq_0 zo_27 zkX10_text_96 9 rfl rfl
theorem dX10_text_106 : decode cX10_text 106 = .ok (.dup2, 1) := zq_0 zo_92 zkX10_text_96 10 rfl rfl
theorem dX10_text_107 : decode cX10_text 107 = .ok (.iaload, 1) := zq_0 zo_46 zkX10_text_96 11 rfl rfl
theorem dX10_text_108 : decode cX10_text 108 = .ok (.iload_n 2, 1) := zq_0 zo_28 zkX10_text_96 12 rfl rfl
theorem dX10_text_109 : decode cX10_text 109 = .ok (.iconst (-1), 1) := zq_0 zo_2 zkX10_text_96 13 rfl rfl
theorem dX10_text_110 : decode cX10_text 110 = .ok (.if_icmp .ne 7, 3) := zq_2s zo_160 zkX10_text_96 14 rfl rfl 0 7 rfl rfl _ (by decide +kernel)
theorem dX10_text_113 : decode cX10_text 113 = .ok (.iconst 1, 1) := zq_0 zo_4 zkX10_text_96 17 rfl rfl
theorem dX10_text_114 : decode cX10_text 114 = .ok (.goto 4, 3) := zq_2s zo_167 zkX10_text_96 18 rfl rfl 0 4 rfl rfl _ (by decide +kernel)
theorem dX10_text_117 : decode cX10_text 117 = .ok (.iconst 0, 1) := zq_0 zo_3 zkX10_text_96 21 rfl rfl
theorem dX10_text_118 : decode cX10_text 118 = .ok (.iadd, 1) := zq_0 zo_96 zkX10_text_96 22 rfl rfl
theorem dX10_text_119 : decode cX10_text 119 = .ok (.iastore, 1) := zq_0 zo_79 zkX10_text_96 23 rfl rfl
theorem dX10_text_120 : decode cX10_text 120 = .ok (.iload_n 1, 1) := zq_0 zo_27 zkX10_text_96 24 rfl rfl
theorem dX10_text_121 : decode cX10_text 121 = .ok (.ifCond .ne 17, 3) := zq_2s zo_154 zkX10_text_96 25 rfl rfl 0 17 rfl rfl _ (by decide +kernel)
theorem dX10_text_124 : decode cX10_text 124 = .ok (.aload_n 0, 1) := zq_0 zo_42 zkX10_text_96 28 rfl rfl
theorem dX10_text_125 : decode cX10_text 125 = .ok (.aload_n 0, 1) := zq_0 zo_42 zkX10_text_96 29 rfl rfl
theorem dX10_text_126 : decode cX10_text 126 = .ok (.getfield 26, 3) := zq_2 zo_180 zkX10_text_96 30 rfl rfl 0 26 rfl rfl _ rfl
theorem zkX10_text_128 : zqc cX10_text 128 [26, 16, 123, 29, 182, 0, 231, 167, 0, 33, 27, 4, 160, 0, 17, 42, 42, 180, 0, 29, 16, 33, 29, 182, 0, 231, 167, 0, 14, 42, 42, 180, 0, 32] := zq_of 34 (by decide +kernel)
theorem dX10_text_129 : decode cX10_text 129 = .ok (.bipush 123, 2) := zq_1s zo_16 zkX10_text_128 1 rfl rfl 123 rfl _ (by decide +kernel)
theorem dX10_text_131 : decode cX10_text 131 = .ok (.iload_n 3, 1) := zq_0 zo_29 zkX10_text_128 3 rfl rfl
theorem dX10_text_132 : decode cX10_text 132 = .ok (.invokevirtual 231, 3) := zq_2 zo_182 zkX10_text_128 4 rfl rfl 0 231 rfl rfl _ rfl
theorem dX10_text_135 : decode cX10_text 135 = .ok (.goto 33, 3) := zq_2s zo_167 zkX10_text_128 7 rfl rfl 0 33 rfl rfl _ (by decide +kernel)
theorem dX10_text_138 : decode cX10_text 138 = .ok (.iload_n 1, 1) := zq_0 zo_27 zkX10_text_128 10 rfl rfl
theorem dX10_text_139 : decode cX10_text 139 = .ok (.iconst 1, 1) := zq_0 zo_4 zkX10_text_128 11 rfl rfl
theorem dX10_text_140 : decode cX10_text 140 = .ok (.if_icmp .ne 17, 3) := zq_2s zo_160 zkX10_text_128 12 rfl rfl 0 17 rfl rfl _ (by decide +kernel)
theorem dX10_text_143 : decode cX10_text 143 = .ok (.aload_n 0, 1) := zq_0 zo_42 zkX10_text_128 15 rfl rfl
theorem dX10_text_144 : decode cX10_text 144 = .ok (.aload_n 0, 1) := zq_0 zo_42 zkX10_text_128 16 rfl rfl
theorem dX10_text_145 : decode cX10_text 145 = .ok (.getfield 29, 3) := zq_2 zo_180 zkX10_text_128 17 rfl rfl 0 29 rfl rfl _ rfl
theorem dX10_text_148 : decode cX10_text 148 = .ok (.bipush 33, 2) := zq_1s zo_16 zkX10_text_128 20 rfl rfl 33 rfl _ (by decide +kernel)
theorem dX10_text_150 : decode cX10_text 150 = .ok (.iload_n 3, 1) := zq_0 zo_29 zkX10_text_128 22 rfl rfl
theorem dX10_text_151 : decode cX10_text 151 = .ok (.invokevirtual 231, 3) := zq_2 zo_182 zkX10_text_128 23 rfl rfl 0 231 rfl rfl _ rfl
theorem dX10_text_154 : decode cX10_text 154 = .ok (.goto 14, 3) := zq_2s zo_167 zkX10_text_128 26 rfl rfl 0 14 rfl rfl _ (by decide +kernel)
theorem dX10_text_157 : decode cX10_text 157 = .ok (.aload_n 0, 1) := zq_0 zo_42 zkX10_text_128 29 rfl rfl
theorem dX10_text_158 : decode cX10_text 158 = .ok (.aload_n 0, 1) := zq_0 zo_42 zkX10_text_128 30 rfl rfl
theorem dX10_text_159 : decode cX10_text 159 = .ok (.getfield 32, 3) := zq_2 zo_180 zkX10_text_128 31 rfl rfl 0 32 rfl rfl _ rfl
theorem zkX10_text_160 : zqc cX10_text 160 [0, 32, 16, 21, 29, 182, 0, 231, 29, 172] := zq_of 10 (by decide +kernel)
theorem dX10_text_162 : decode cX10_text 162 = .ok (.bipush 21, 2) := zq_1s zo_16 zkX10_text_160 2 rfl rfl 21 rfl _ (by decide +kernel)
theorem dX10_text_164 : decode cX10_text 164 = .ok (.iload_n 3, 1) := zq_0 zo_29 zkX10_text_160 4 rfl rfl
theorem dX10_text_165 : decode cX10_text 165 = .ok (.invokevirtual 231, 3) := zq_2 zo_182 zkX10_text_160 5 rfl rfl 0 231 rfl rfl _ rfl
theorem dX10_text_168 : decode cX10_text 168 = .ok (.iload_n 3, 1) := zq_0 zo_29 zkX10_text_160 8 rfl rfl
theorem dX10_text_169 : decode cX10_text 169 = .ok (.ireturn, 1) := zq_0 zo_172 zkX10_text_160 9 rfl rfl
theorem zkX10_fault_0 : zqc cX10_fault 0 [42, 3, 181, 0, 91, 27, 154, 0, 12, 42, 180, 0, 17, 3, 46, 167, 0, 18, 27, 4, 160, 0, 12, 42, 180, 0, 20, 3, 46, 167, 0, 4, 2, 172] := zq_of 34 (by decide +kernel)
theorem dX10_fault_0 : decode cX10_fault 0 = .ok (.aload_n 0, 1) := zq_0 zo_42 zkX10_fault_0 0 rfl rfl
theorem dX10_fault_1 : decode cX10_fault 1 = .ok (.iconst 0, 1) := zq_0 zo_3 zkX10_fault_0 1 rfl rfl
theorem dX10_fault_2 : decode cX10_fault 2 = .ok (.putfield 91, 3) := zq_2 zo_181 zkX10_fault_0 2 rfl rfl 0 91 rfl rfl _ rfl
theorem dX10_fault_5 : decode cX10_fault 5 = .ok (.iload_n 1, 1) := zq_0 zo_27 zkX10_fault_0 5 rfl rfl
theorem dX10_fault_6 : decode cX10_fault 6 = .ok (.ifCond .ne 12, 3) := zq_2s zo_154 zkX10_fault_0 6 rfl rfl 0 12 rfl rfl _ (by decide +kernel)
theorem dX10_fault_9 : decode cX10_fault 9 = .ok (.aload_n 0, 1) := zq_0 zo_42 zkX10_fault_0 9 rfl rfl
theorem dX10_fault_10 : decode cX10_fault 10 = .ok (.getfield 17, 3) := zq_2 zo_180 zkX10_fault_0 10 rfl rfl 0 17 rfl rfl _ rfl
theorem dX10_fault_13 : decode cX10_fault 13 = .ok (.iconst 0, 1) := zq_0 zo_3 zkX10_fault_0 13 rfl rfl
theorem dX10_fault_14 : decode cX10_fault 14 = .ok (.iaload, 1) := zq_0 zo_46 zkX10_fault_0 14 rfl rfl
theorem dX10_fault_15 : decode cX10_fault 15 = .ok (.goto 18, 3) := zq_2s zo_167 zkX10_fault_0 15 rfl rfl 0 18 rfl rfl _ (by decide +kernel)
theorem dX10_fault_18 : decode cX10_fault 18 = .ok (.iload_n 1, 1) := zq_0 zo_27 zkX10_fault_0 18 rfl rfl
theorem dX10_fault_19 : decode cX10_fault 19 = .ok (.iconst 1, 1) := zq_0 zo_4 zkX10_fault_0 19 rfl rfl
theorem dX10_fault_20 : decode cX10_fault 20 = .ok (.if_icmp .ne 12, 3) := zq_2s zo_160 zkX10_fault_0 20 rfl rfl 0 12 rfl rfl _ (by decide +kernel)
theorem dX10_fault_23 : decode cX10_fault 23 = .ok (.aload_n 0, 1) := zq_0 zo_42 zkX10_fault_0 23 rfl rfl
theorem dX10_fault_24 : decode cX10_fault 24 = .ok (.getfield 20, 3) := zq_2 zo_180 zkX10_fault_0 24 rfl rfl 0 20 rfl rfl _ rfl
theorem dX10_fault_27 : decode cX10_fault 27 = .ok (.iconst 0, 1) := zq_0 zo_3 zkX10_fault_0 27 rfl rfl
theorem dX10_fault_28 : decode cX10_fault 28 = .ok (.iaload, 1) := zq_0 zo_46 zkX10_fault_0 28 rfl rfl
theorem dX10_fault_29 : decode cX10_fault 29 = .ok (.goto 4, 3) := zq_2s zo_167 zkX10_fault_0 29 rfl rfl 0 4 rfl rfl _ (by decide +kernel)
theorem zkX10_fault_32 : zqc cX10_fault 32 [2, 172] := zq_of 2 (by decide +kernel)
theorem dX10_fault_32 : decode cX10_fault 32 = .ok (.iconst (-1), 1) := zq_0 zo_2 zkX10_fault_32 0 rfl rfl
theorem dX10_fault_33 : decode cX10_fault 33 = .ok (.ireturn, 1) := zq_0 zo_172 zkX10_fault_32 1 rfl rfl
theorem zkX10_of_0 : zqc cX10_of 0 [42, 180, 0, 26, 16, 123, 42, 180, 0, 235, 104, 27, 96, 46, 172] := zq_of 15 (by decide +kernel)
theorem dX10_of_0 : decode cX10_of 0 = .ok (.aload_n 0, 1) := zq_0 zo_42 zkX10_of_0 0 rfl rfl
theorem dX10_of_1 : decode cX10_of 1 = .ok (.getfield 26, 3) := zq_2 zo_180 zkX10_of_0 1 rfl rfl 0 26 rfl rfl _ rfl
theorem dX10_of_4 : decode cX10_of 4 = .ok (.bipush 123, 2) := zq_1s zo_16 zkX10_of_0 4 rfl rfl 123 rfl _ (by decide +kernel)
theorem dX10_of_6 : decode cX10_of 6 = .ok (.aload_n 0, 1) := zq_0 zo_42 zkX10_of_0 6 rfl rfl
theorem dX10_of_7 : decode cX10_of 7 = .ok (.getfield 235, 3) := zq_2 zo_180 zkX10_of_0 7 rfl rfl 0 235 rfl rfl _ rfl
theorem dX10_of_10 : decode cX10_of 10 = .ok (.imul, 1) := zq_0 zo_104 zkX10_of_0 10 rfl rfl
theorem dX10_of_11 : decode cX10_of 11 = .ok (.iload_n 1, 1) := zq_0 zo_27 zkX10_of_0 11 rfl rfl
theorem dX10_of_12 : decode cX10_of 12 = .ok (.iadd, 1) := zq_0 zo_96 zkX10_of_0 12 rfl rfl
theorem dX10_of_13 : decode cX10_of 13 = .ok (.iaload, 1) := zq_0 zo_46 zkX10_of_0 13 rfl rfl
theorem dX10_of_14 : decode cX10_of 14 = .ok (.ireturn, 1) := zq_0 zo_172 zkX10_of_0 14 rfl rfl
theorem zkX10_postOf_0 : zqc cX10_postOf 0 [42, 16, 7, 8, 27, 104, 96, 28, 96, 182, 0, 238, 172] := zq_of 13 (by decide +kernel)
theorem dX10_postOf_0 : decode cX10_postOf 0 = .ok (.aload_n 0, 1) := zq_0 zo_42 zkX10_postOf_0 0 rfl rfl
theorem dX10_postOf_1 : decode cX10_postOf 1 = .ok (.bipush 7, 2) := zq_1s zo_16 zkX10_postOf_0 1 rfl rfl 7 rfl _ (by decide +kernel)
theorem dX10_postOf_3 : decode cX10_postOf 3 = .ok (.iconst 5, 1) := zq_0 zo_8 zkX10_postOf_0 3 rfl rfl
theorem dX10_postOf_4 : decode cX10_postOf 4 = .ok (.iload_n 1, 1) := zq_0 zo_27 zkX10_postOf_0 4 rfl rfl
theorem dX10_postOf_5 : decode cX10_postOf 5 = .ok (.imul, 1) := zq_0 zo_104 zkX10_postOf_0 5 rfl rfl
theorem dX10_postOf_6 : decode cX10_postOf 6 = .ok (.iadd, 1) := zq_0 zo_96 zkX10_postOf_0 6 rfl rfl
theorem dX10_postOf_7 : decode cX10_postOf 7 = .ok (.iload_n 2, 1) := zq_0 zo_28 zkX10_postOf_0 7 rfl rfl
theorem dX10_postOf_8 : decode cX10_postOf 8 = .ok (.iadd, 1) := zq_0 zo_96 zkX10_postOf_0 8 rfl rfl
theorem dX10_postOf_9 : decode cX10_postOf 9 = .ok (.invokevirtual 238, 3) := zq_2 zo_182 zkX10_postOf_0 9 rfl rfl 0 238 rfl rfl _ rfl
theorem dX10_postOf_12 : decode cX10_postOf 12 = .ok (.ireturn, 1) := zq_0 zo_172 zkX10_postOf_0 12 rfl rfl
theorem zkX10_riderOf_0 : zqc cX10_riderOf 0 [42, 16, 87, 16, 6, 27, 104, 96, 28, 96, 182, 0, 238, 172] := zq_of 14 (by decide +kernel)
theorem dX10_riderOf_0 : decode cX10_riderOf 0 = .ok (.aload_n 0, 1) := zq_0 zo_42 zkX10_riderOf_0 0 rfl rfl
theorem dX10_riderOf_1 : decode cX10_riderOf 1 = .ok (.bipush 87, 2) := zq_1s zo_16 zkX10_riderOf_0 1 rfl rfl 87 rfl _ (by decide +kernel)
theorem dX10_riderOf_3 : decode cX10_riderOf 3 = .ok (.bipush 6, 2) := zq_1s zo_16 zkX10_riderOf_0 3 rfl rfl 6 rfl _ (by decide +kernel)
theorem dX10_riderOf_5 : decode cX10_riderOf 5 = .ok (.iload_n 1, 1) := zq_0 zo_27 zkX10_riderOf_0 5 rfl rfl
theorem dX10_riderOf_6 : decode cX10_riderOf 6 = .ok (.imul, 1) := zq_0 zo_104 zkX10_riderOf_0 6 rfl rfl
theorem dX10_riderOf_7 : decode cX10_riderOf 7 = .ok (.iadd, 1) := zq_0 zo_96 zkX10_riderOf_0 7 rfl rfl
theorem dX10_riderOf_8 : decode cX10_riderOf 8 = .ok (.iload_n 2, 1) := zq_0 zo_28 zkX10_riderOf_0 8 rfl rfl
theorem dX10_riderOf_9 : decode cX10_riderOf 9 = .ok (.iadd, 1) := zq_0 zo_96 zkX10_riderOf_0 9 rfl rfl
theorem dX10_riderOf_10 : decode cX10_riderOf 10 = .ok (.invokevirtual 238, 3) := zq_2 zo_182 zkX10_riderOf_0 10 rfl rfl 0 238 rfl rfl _ rfl
theorem dX10_riderOf_13 : decode cX10_riderOf 13 = .ok (.ireturn, 1) := zq_0 zo_172 zkX10_riderOf_0 13 rfl rfl
theorem zkX10_poundsIn_0 : zqc cX10_poundsIn 0 [3, 42, 27, 5, 182, 0, 242, 42, 6, 182, 0, 238, 28, 104, 100, 184, 0, 160, 172] := zq_of 19 (by decide +kernel)
theorem dX10_poundsIn_0 : decode cX10_poundsIn 0 = .ok (.iconst 0, 1) := zq_0 zo_3 zkX10_poundsIn_0 0 rfl rfl
theorem dX10_poundsIn_1 : decode cX10_poundsIn 1 = .ok (.aload_n 0, 1) := zq_0 zo_42 zkX10_poundsIn_0 1 rfl rfl
theorem dX10_poundsIn_2 : decode cX10_poundsIn 2 = .ok (.iload_n 1, 1) := zq_0 zo_27 zkX10_poundsIn_0 2 rfl rfl
theorem dX10_poundsIn_3 : decode cX10_poundsIn 3 = .ok (.iconst 2, 1) := zq_0 zo_5 zkX10_poundsIn_0 3 rfl rfl
theorem dX10_poundsIn_4 : decode cX10_poundsIn 4 = .ok (.invokevirtual 242, 3) := zq_2 zo_182 zkX10_poundsIn_0 4 rfl rfl 0 242 rfl rfl _ rfl
theorem dX10_poundsIn_7 : decode cX10_poundsIn 7 = .ok (.aload_n 0, 1) := zq_0 zo_42 zkX10_poundsIn_0 7 rfl rfl
theorem dX10_poundsIn_8 : decode cX10_poundsIn 8 = .ok (.iconst 3, 1) := zq_0 zo_6 zkX10_poundsIn_0 8 rfl rfl
theorem dX10_poundsIn_9 : decode cX10_poundsIn 9 = .ok (.invokevirtual 238, 3) := zq_2 zo_182 zkX10_poundsIn_0 9 rfl rfl 0 238 rfl rfl _ rfl
theorem dX10_poundsIn_12 : decode cX10_poundsIn 12 = .ok (.iload_n 2, 1) := zq_0 zo_28 zkX10_poundsIn_0 12 rfl rfl
theorem dX10_poundsIn_13 : decode cX10_poundsIn 13 = .ok (.imul, 1) := zq_0 zo_104 zkX10_poundsIn_0 13 rfl rfl
theorem dX10_poundsIn_14 : decode cX10_poundsIn 14 = .ok (.isub, 1) := zq_0 zo_100 zkX10_poundsIn_0 14 rfl rfl
theorem dX10_poundsIn_15 : decode cX10_poundsIn 15 = .ok (.invokestatic 160, 3) := zq_2 zo_184 zkX10_poundsIn_0 15 rfl rfl 0 160 rfl rfl _ rfl
theorem dX10_poundsIn_18 : decode cX10_poundsIn 18 = .ok (.ireturn, 1) := zq_0 zo_172 zkX10_poundsIn_0 18 rfl rfl
theorem zkX10_hand_0 : zqc cX10_hand 0 [42, 3, 27, 182, 0, 225, 153, 0, 13, 28, 3, 16, 9, 184, 0, 103, 154, 0, 5, 3, 172, 42, 27, 181, 0, 235, 42, 42, 3, 182, 0, 238, 181, 0] := zq_of 34 (by decide +kernel)
theorem dX10_hand_0 : decode cX10_hand 0 = .ok (.aload_n 0, 1) := zq_0 zo_42 zkX10_hand_0 0 rfl rfl
theorem dX10_hand_1 : decode cX10_hand 1 = .ok (.iconst 0, 1) := zq_0 zo_3 zkX10_hand_0 1 rfl rfl
theorem dX10_hand_2 : decode cX10_hand 2 = .ok (.iload_n 1, 1) := zq_0 zo_27 zkX10_hand_0 2 rfl rfl
theorem dX10_hand_3 : decode cX10_hand 3 = .ok (.invokevirtual 225, 3) := zq_2 zo_182 zkX10_hand_0 3 rfl rfl 0 225 rfl rfl _ rfl
theorem dX10_hand_6 : decode cX10_hand 6 = .ok (.ifCond .eq 13, 3) := zq_2s zo_153 zkX10_hand_0 6 rfl rfl 0 13 rfl rfl _ (by decide +kernel)
theorem dX10_hand_9 : decode cX10_hand 9 = .ok (.iload_n 2, 1) := zq_0 zo_28 zkX10_hand_0 9 rfl rfl
theorem dX10_hand_10 : decode cX10_hand 10 = .ok (.iconst 0, 1) := zq_0 zo_3 zkX10_hand_0 10 rfl rfl
theorem dX10_hand_11 : decode cX10_hand 11 = .ok (.bipush 9, 2) := zq_1s zo_16 zkX10_hand_0 11 rfl rfl 9 rfl _ (by decide +kernel)
theorem dX10_hand_13 : decode cX10_hand 13 = .ok (.invokestatic 103, 3) := zq_2 zo_184 zkX10_hand_0 13 rfl rfl 0 103 rfl rfl _ rfl
theorem dX10_hand_16 : decode cX10_hand 16 = .ok (.ifCond .ne 5, 3) := zq_2s zo_154 zkX10_hand_0 16 rfl rfl 0 5 rfl rfl _ (by decide +kernel)
theorem dX10_hand_19 : decode cX10_hand 19 = .ok (.iconst 0, 1) := zq_0 zo_3 zkX10_hand_0 19 rfl rfl
theorem dX10_hand_20 : decode cX10_hand 20 = .ok (.ireturn, 1) := zq_0 zo_172 zkX10_hand_0 20 rfl rfl
theorem dX10_hand_21 : decode cX10_hand 21 = .ok (.aload_n 0, 1) := zq_0 zo_42 zkX10_hand_0 21 rfl rfl
theorem dX10_hand_22 : decode cX10_hand 22 = .ok (.iload_n 1, 1) := zq_0 zo_27 zkX10_hand_0 22 rfl rfl
theorem dX10_hand_23 : decode cX10_hand 23 = .ok (.putfield 235, 3) := zq_2 zo_181 zkX10_hand_0 23 rfl rfl 0 235 rfl rfl _ rfl
theorem dX10_hand_26 : decode cX10_hand 26 = .ok (.aload_n 0, 1) := zq_0 zo_42 zkX10_hand_0 26 rfl rfl
theorem dX10_hand_27 : decode cX10_hand 27 = .ok (.aload_n 0, 1) := zq_0 zo_42 zkX10_hand_0 27 rfl rfl
theorem dX10_hand_28 : decode cX10_hand 28 = .ok (.iconst 0, 1) := zq_0 zo_3 zkX10_hand_0 28 rfl rfl
theorem dX10_hand_29 : decode cX10_hand 29 = .ok (.invokevirtual 238, 3) := zq_2 zo_182 zkX10_hand_0 29 rfl rfl 0 238 rfl rfl _ rfl
theorem zkX10_hand_32 : zqc cX10_hand 32 [181, 0, 245, 42, 42, 180, 0, 245, 4, 100, 181, 0, 248, 42, 42, 4, 182, 0, 238, 181, 0, 251, 3, 62, 29, 42, 180, 0, 245, 162, 0, 82, 42, 180] := zq_of 34 (by decide +kernel)
theorem dX10_hand_32 : decode cX10_hand 32 = .ok (.putfield 245, 3) := zq_2 zo_181 zkX10_hand_32 0 rfl rfl 0 245 rfl rfl _ rfl
theorem dX10_hand_35 : decode cX10_hand 35 = .ok (.aload_n 0, 1) := zq_0 zo_42 zkX10_hand_32 3 rfl rfl
theorem dX10_hand_36 : decode cX10_hand 36 = .ok (.aload_n 0, 1) := zq_0 zo_42 zkX10_hand_32 4 rfl rfl
theorem dX10_hand_37 : decode cX10_hand 37 = .ok (.getfield 245, 3) := zq_2 zo_180 zkX10_hand_32 5 rfl rfl 0 245 rfl rfl _ rfl
theorem dX10_hand_40 : decode cX10_hand 40 = .ok (.iconst 1, 1) := zq_0 zo_4 zkX10_hand_32 8 rfl rfl
theorem dX10_hand_41 : decode cX10_hand 41 = .ok (.isub, 1) := zq_0 zo_100 zkX10_hand_32 9 rfl rfl
theorem dX10_hand_42 : decode cX10_hand 42 = .ok (.putfield 248, 3) := zq_2 zo_181 zkX10_hand_32 10 rfl rfl 0 248 rfl rfl _ rfl
theorem dX10_hand_45 : decode cX10_hand 45 = .ok (.aload_n 0, 1) := zq_0 zo_42 zkX10_hand_32 13 rfl rfl
theorem dX10_hand_46 : decode cX10_hand 46 = .ok (.aload_n 0, 1) := zq_0 zo_42 zkX10_hand_32 14 rfl rfl
theorem dX10_hand_47 : decode cX10_hand 47 = .ok (.iconst 1, 1) := zq_0 zo_4 zkX10_hand_32 15 rfl rfl
theorem dX10_hand_48 : decode cX10_hand 48 = .ok (.invokevirtual 238, 3) := zq_2 zo_182 zkX10_hand_32 16 rfl rfl 0 238 rfl rfl _ rfl
theorem dX10_hand_51 : decode cX10_hand 51 = .ok (.putfield 251, 3) := zq_2 zo_181 zkX10_hand_32 19 rfl rfl 0 251 rfl rfl _ rfl
theorem dX10_hand_54 : decode cX10_hand 54 = .ok (.iconst 0, 1) := zq_0 zo_3 zkX10_hand_32 22 rfl rfl
theorem dX10_hand_55 : decode cX10_hand 55 = .ok (.istore_n 3, 1) := zq_0 zo_62 zkX10_hand_32 23 rfl rfl
theorem dX10_hand_56 : decode cX10_hand 56 = .ok (.iload_n 3, 1) := zq_0 zo_29 zkX10_hand_32 24 rfl rfl
theorem dX10_hand_57 : decode cX10_hand 57 = .ok (.aload_n 0, 1) := zq_0 zo_42 zkX10_hand_32 25 rfl rfl
theorem dX10_hand_58 : decode cX10_hand 58 = .ok (.getfield 245, 3) := zq_2 zo_180 zkX10_hand_32 26 rfl rfl 0 245 rfl rfl _ rfl
theorem dX10_hand_61 : decode cX10_hand 61 = .ok (.if_icmp .ge 82, 3) := zq_2s zo_162 zkX10_hand_32 29 rfl rfl 0 82 rfl rfl _ (by decide +kernel)
theorem zkX10_hand_64 : zqc cX10_hand 64 [42, 180, 0, 47, 29, 42, 29, 3, 182, 0, 242, 79, 42, 180, 0, 53, 29, 42, 29, 28, 182, 0, 254, 79, 42, 180, 0, 50, 29, 42, 5, 182, 0, 238] := zq_of 34 (by decide +kernel)
theorem dX10_hand_64 : decode cX10_hand 64 = .ok (.aload_n 0, 1) := zq_0 zo_42 zkX10_hand_64 0 rfl rfl
theorem dX10_hand_65 : decode cX10_hand 65 = .ok (.getfield 47, 3) := zq_2 zo_180 zkX10_hand_64 1 rfl rfl 0 47 rfl rfl _ rfl
theorem dX10_hand_68 : decode cX10_hand 68 = .ok (.iload_n 3, 1) := zq_0 zo_29 zkX10_hand_64 4 rfl rfl
theorem dX10_hand_69 : decode cX10_hand 69 = .ok (.aload_n 0, 1) := zq_0 zo_42 zkX10_hand_64 5 rfl rfl
theorem dX10_hand_70 : decode cX10_hand 70 = .ok (.iload_n 3, 1) := zq_0 zo_29 zkX10_hand_64 6 rfl rfl
theorem dX10_hand_71 : decode cX10_hand 71 = .ok (.iconst 0, 1) := zq_0 zo_3 zkX10_hand_64 7 rfl rfl
theorem dX10_hand_72 : decode cX10_hand 72 = .ok (.invokevirtual 242, 3) := zq_2 zo_182 zkX10_hand_64 8 rfl rfl 0 242 rfl rfl _ rfl
theorem dX10_hand_75 : decode cX10_hand 75 = .ok (.iastore, 1) := zq_0 zo_79 zkX10_hand_64 11 rfl rfl
theorem dX10_hand_76 : decode cX10_hand 76 = .ok (.aload_n 0, 1) := zq_0 zo_42 zkX10_hand_64 12 rfl rfl
theorem dX10_hand_77 : decode cX10_hand 77 = .ok (.getfield 53, 3) := zq_2 zo_180 zkX10_hand_64 13 rfl rfl 0 53 rfl rfl _ rfl
theorem dX10_hand_80 : decode cX10_hand 80 = .ok (.iload_n 3, 1) := zq_0 zo_29 zkX10_hand_64 16 rfl rfl
theorem dX10_hand_81 : decode cX10_hand 81 = .ok (.aload_n 0, 1) := zq_0 zo_42 zkX10_hand_64 17 rfl rfl
theorem dX10_hand_82 : decode cX10_hand 82 = .ok (.iload_n 3, 1) := zq_0 zo_29 zkX10_hand_64 18 rfl rfl
theorem dX10_hand_83 : decode cX10_hand 83 = .ok (.iload_n 2, 1) := zq_0 zo_28 zkX10_hand_64 19 rfl rfl
theorem dX10_hand_84 : decode cX10_hand 84 = .ok (.invokevirtual 254, 3) := zq_2 zo_182 zkX10_hand_64 20 rfl rfl 0 254 rfl rfl _ rfl
theorem dX10_hand_87 : decode cX10_hand 87 = .ok (.iastore, 1) := zq_0 zo_79 zkX10_hand_64 23 rfl rfl
theorem dX10_hand_88 : decode cX10_hand 88 = .ok (.aload_n 0, 1) := zq_0 zo_42 zkX10_hand_64 24 rfl rfl
theorem dX10_hand_89 : decode cX10_hand 89 = .ok (.getfield 50, 3) := zq_2 zo_180 zkX10_hand_64 25 rfl rfl 0 50 rfl rfl _ rfl
theorem dX10_hand_92 : decode cX10_hand 92 = .ok (.iload_n 3, 1) := zq_0 zo_29 zkX10_hand_64 28 rfl rfl
theorem dX10_hand_93 : decode cX10_hand 93 = .ok (.aload_n 0, 1) := zq_0 zo_42 zkX10_hand_64 29 rfl rfl
theorem dX10_hand_94 : decode cX10_hand 94 = .ok (.iconst 2, 1) := zq_0 zo_5 zkX10_hand_64 30 rfl rfl
theorem dX10_hand_95 : decode cX10_hand 95 = .ok (.invokevirtual 238, 3) := zq_2 zo_182 zkX10_hand_64 31 rfl rfl 0 238 rfl rfl _ rfl
theorem zkX10_hand_96 : zqc cX10_hand 96 [0, 238, 5, 42, 29, 4, 182, 0, 242, 104, 96, 42, 29, 4, 182, 0, 242, 6, 160, 0, 20, 29, 158, 0, 16, 5, 42, 29, 4, 100, 3, 182, 0, 242] := zq_of 34 (by decide +kernel)
theorem dX10_hand_98 : decode cX10_hand 98 = .ok (.iconst 2, 1) := zq_0 zo_5 zkX10_hand_96 2 rfl rfl
theorem dX10_hand_99 : decode cX10_hand 99 = .ok (.aload_n 0, 1) := zq_0 zo_42 zkX10_hand_96 3 rfl rfl
theorem dX10_hand_100 : decode cX10_hand 100 = .ok (.iload_n 3, 1) := zq_0 zo_29 zkX10_hand_96 4 rfl rfl
theorem dX10_hand_101 : decode cX10_hand 101 = .ok (.iconst 1, 1) := zq_0 zo_4 zkX10_hand_96 5 rfl rfl
theorem dX10_hand_102 : decode cX10_hand 102 = .ok (.invokevirtual 242, 3) := zq_2 zo_182 zkX10_hand_96 6 rfl rfl 0 242 rfl rfl _ rfl
theorem dX10_hand_105 : decode cX10_hand 105 = .ok (.imul, 1) := zq_0 zo_104 zkX10_hand_96 9 rfl rfl
theorem dX10_hand_106 : decode cX10_hand 106 = .ok (.iadd, 1) := zq_0 zo_96 zkX10_hand_96 10 rfl rfl
theorem dX10_hand_107 : decode cX10_hand 107 = .ok (.aload_n 0, 1) := zq_0 zo_42 zkX10_hand_96 11 rfl rfl
theorem dX10_hand_108 : decode cX10_hand 108 = .ok (.iload_n 3, 1) := zq_0 zo_29 zkX10_hand_96 12 rfl rfl
theorem dX10_hand_109 : decode cX10_hand 109 = .ok (.iconst 1, 1) := zq_0 zo_4 zkX10_hand_96 13 rfl rfl
theorem dX10_hand_110 : decode cX10_hand 110 = .ok (.invokevirtual 242, 3) := zq_2 zo_182 zkX10_hand_96 14 rfl rfl 0 242 rfl rfl _ rfl
theorem dX10_hand_113 : decode cX10_hand 113 = .ok (.iconst 3, 1) := zq_0 zo_6 zkX10_hand_96 17 rfl rfl
theorem dX10_hand_114 : decode cX10_hand 114 = .ok (.if_icmp .ne 20, 3) := zq_2s zo_160 zkX10_hand_96 18 rfl rfl 0 20 rfl rfl _ (by decide +kernel)
theorem dX10_hand_117 : decode cX10_hand 117 = .ok (.iload_n 3, 1) := zq_0 zo_29 zkX10_hand_96 21 rfl rfl
theorem dX10_hand_118 : decode cX10_hand 118 = .ok (.ifCond .le 16, 3) := zq_2s zo_158 zkX10_hand_96 22 rfl rfl 0 16 rfl rfl _ (by decide +kernel)
theorem dX10_hand_121 : decode cX10_hand 121 = .ok (.iconst 2, 1) := zq_0 zo_5 zkX10_hand_96 25 rfl rfl
theorem dX10_hand_122 : decode cX10_hand 122 = .ok (.aload_n 0, 1) := zq_0 zo_42 zkX10_hand_96 26 rfl rfl
theorem dX10_hand_123 : decode cX10_hand 123 = .ok (.iload_n 3, 1) := zq_0 zo_29 zkX10_hand_96 27 rfl rfl
theorem dX10_hand_124 : decode cX10_hand 124 = .ok (.iconst 1, 1) := zq_0 zo_4 zkX10_hand_96 28 rfl rfl
theorem dX10_hand_125 : decode cX10_hand 125 = .ok (.isub, 1) := zq_0 zo_100 zkX10_hand_96 29 rfl rfl
theorem dX10_hand_126 : decode cX10_hand 126 = .ok (.iconst 0, 1) := zq_0 zo_3 zkX10_hand_96 30 rfl rfl
theorem dX10_hand_127 : decode cX10_hand 127 = .ok (.invokevirtual 242, 3) := zq_2 zo_182 zkX10_hand_96 31 rfl rfl 0 242 rfl rfl _ rfl
theorem zkX10_hand_128 : zqc cX10_hand 128 [0, 242, 104, 167, 0, 4, 3, 96, 79, 132, 3, 1, 167, 255, 172, 4, 172] := zq_of 17 (by decide +kernel)
theorem dX10_hand_130 : decode cX10_hand 130 = .ok (.imul, 1) := zq_0 zo_104 zkX10_hand_128 2 rfl rfl
theorem dX10_hand_131 : decode cX10_hand 131 = .ok (.goto 4, 3) := zq_2s zo_167 zkX10_hand_128 3 rfl rfl 0 4 rfl rfl _ (by decide +kernel)
theorem dX10_hand_134 : decode cX10_hand 134 = .ok (.iconst 0, 1) := zq_0 zo_3 zkX10_hand_128 6 rfl rfl
theorem dX10_hand_135 : decode cX10_hand 135 = .ok (.iadd, 1) := zq_0 zo_96 zkX10_hand_128 7 rfl rfl
theorem dX10_hand_136 : decode cX10_hand 136 = .ok (.iastore, 1) := zq_0 zo_79 zkX10_hand_128 8 rfl rfl
theorem dX10_hand_137 : decode cX10_hand 137 = .ok (.iinc 3 1, 3) := zq_ii zo_132 zkX10_hand_128 9 rfl rfl 3 1 rfl rfl _ (by decide +kernel)
theorem dX10_hand_140 : decode cX10_hand 140 = .ok (.goto (-84), 3) := zq_2s zo_167 zkX10_hand_128 12 rfl rfl 255 172 rfl rfl _ (by decide +kernel)
theorem dX10_hand_143 : decode cX10_hand 143 = .ok (.iconst 1, 1) := zq_0 zo_4 zkX10_hand_128 15 rfl rfl
theorem dX10_hand_144 : decode cX10_hand 144 = .ok (.ireturn, 1) := zq_0 zo_172 zkX10_hand_128 16 rfl rfl
theorem zkX10_line_0 : zqc cX10_line 0 [42, 3, 181, 0, 91, 42, 27, 3, 182, 1, 1, 154, 0, 6, 16, 254, 172, 28, 16, 7, 160, 0, 47, 3, 62, 3, 54, 4, 21, 4, 42, 180, 0, 245] := zq_of 34 (by decide +kernel)
theorem dX10_line_0 : decode cX10_line 0 = .ok (.aload_n 0, 1) := zq_0 zo_42 zkX10_line_0 0 rfl rfl
theorem dX10_line_1 : decode cX10_line 1 = .ok (.iconst 0, 1) := zq_0 zo_3 zkX10_line_0 1 rfl rfl
theorem dX10_line_2 : decode cX10_line 2 = .ok (.putfield 91, 3) := zq_2 zo_181 zkX10_line_0 2 rfl rfl 0 91 rfl rfl _ rfl
theorem dX10_line_5 : decode cX10_line 5 = .ok (.aload_n 0, 1) := zq_0 zo_42 zkX10_line_0 5 rfl rfl
theorem dX10_line_6 : decode cX10_line 6 = .ok (.iload_n 1, 1) := zq_0 zo_27 zkX10_line_0 6 rfl rfl
theorem dX10_line_7 : decode cX10_line 7 = .ok (.iconst 0, 1) := zq_0 zo_3 zkX10_line_0 7 rfl rfl
theorem dX10_line_8 : decode cX10_line 8 = .ok (.invokevirtual 257, 3) := zq_2 zo_182 zkX10_line_0 8 rfl rfl 1 1 rfl rfl _ rfl
theorem dX10_line_11 : decode cX10_line 11 = .ok (.ifCond .ne 6, 3) := zq_2s zo_154 zkX10_line_0 11 rfl rfl 0 6 rfl rfl _ (by decide +kernel)
theorem dX10_line_14 : decode cX10_line 14 = .ok (.bipush (-2), 2) := zq_1s zo_16 zkX10_line_0 14 rfl rfl 254 rfl _ (by decide +kernel)
theorem dX10_line_16 : decode cX10_line 16 = .ok (.ireturn, 1) := zq_0 zo_172 zkX10_line_0 16 rfl rfl
theorem dX10_line_17 : decode cX10_line 17 = .ok (.iload_n 2, 1) := zq_0 zo_28 zkX10_line_0 17 rfl rfl
theorem dX10_line_18 : decode cX10_line 18 = .ok (.bipush 7, 2) := zq_1s zo_16 zkX10_line_0 18 rfl rfl 7 rfl _ (by decide +kernel)
theorem dX10_line_20 : decode cX10_line 20 = .ok (.if_icmp .ne 47, 3) := zq_2s zo_160 zkX10_line_0 20 rfl rfl 0 47 rfl rfl _ (by decide +kernel)
theorem dX10_line_23 : decode cX10_line 23 = .ok (.iconst 0, 1) := zq_0 zo_3 zkX10_line_0 23 rfl rfl
theorem dX10_line_24 : decode cX10_line 24 = .ok (.istore_n 3, 1) := zq_0 zo_62 zkX10_line_0 24 rfl rfl
theorem dX10_line_25 : decode cX10_line 25 = .ok (.iconst 0, 1) := zq_0 zo_3 zkX10_line_0 25 rfl rfl
theorem dX10_line_26 : decode cX10_line 26 = .ok (.istore 4, 2) := zq_1 zo_54 zkX10_line_0 26 rfl rfl 4 rfl
theorem dX10_line_28 : decode cX10_line 28 = .ok (.iload 4, 2) := zq_1 zo_21 zkX10_line_0 28 rfl rfl 4 rfl
theorem dX10_line_30 : decode cX10_line 30 = .ok (.aload_n 0, 1) := zq_0 zo_42 zkX10_line_0 30 rfl rfl
theorem dX10_line_31 : decode cX10_line 31 = .ok (.getfield 245, 3) := zq_2 zo_180 zkX10_line_0 31 rfl rfl 0 245 rfl rfl _ rfl
theorem zkX10_line_32 : zqc cX10_line 32 [0, 245, 162, 0, 31, 29, 42, 21, 4, 7, 182, 0, 242, 2, 159, 0, 10, 4, 21, 4, 120, 167, 0, 4, 3, 128, 62, 132, 4, 1, 167, 255, 222, 29] := zq_of 34 (by decide +kernel)
theorem dX10_line_34 : decode cX10_line 34 = .ok (.if_icmp .ge 31, 3) := zq_2s zo_162 zkX10_line_32 2 rfl rfl 0 31 rfl rfl _ (by decide +kernel)
theorem dX10_line_37 : decode cX10_line 37 = .ok (.iload_n 3, 1) := zq_0 zo_29 zkX10_line_32 5 rfl rfl
theorem dX10_line_38 : decode cX10_line 38 = .ok (.aload_n 0, 1) := zq_0 zo_42 zkX10_line_32 6 rfl rfl
theorem dX10_line_39 : decode cX10_line 39 = .ok (.iload 4, 2) := zq_1 zo_21 zkX10_line_32 7 rfl rfl 4 rfl
theorem dX10_line_41 : decode cX10_line 41 = .ok (.iconst 4, 1) := zq_0 zo_7 zkX10_line_32 9 rfl rfl
theorem dX10_line_42 : decode cX10_line 42 = .ok (.invokevirtual 242, 3) := zq_2 zo_182 zkX10_line_32 10 rfl rfl 0 242 rfl rfl _ rfl
theorem dX10_line_45 : decode cX10_line 45 = .ok (.iconst (-1), 1) := zq_0 zo_2 zkX10_line_32 13 rfl rfl
theorem dX10_line_46 : decode cX10_line 46 = .ok (.if_icmp .eq 10, 3) := zq_2s zo_159 zkX10_line_32 14 rfl rfl 0 10 rfl rfl _ (by decide +kernel)
theorem dX10_line_49 : decode cX10_line 49 = .ok (.iconst 1, 1) := zq_0 zo_4 zkX10_line_32 17 rfl rfl
theorem dX10_line_50 : decode cX10_line 50 = .ok (.iload 4, 2) := zq_1 zo_21 zkX10_line_32 18 rfl rfl 4 rfl
theorem dX10_line_52 : decode cX10_line 52 = .ok (.ishl, 1) := zq_0 zo_120 zkX10_line_32 20 rfl rfl
theorem dX10_line_53 : decode cX10_line 53 = .ok (.goto 4, 3) := zq_2s zo_167 zkX10_line_32 21 rfl rfl 0 4 rfl rfl _ (by decide +kernel)
theorem dX10_line_56 : decode cX10_line 56 = .ok (.iconst 0, 1) := zq_0 zo_3 zkX10_line_32 24 rfl rfl
theorem dX10_line_57 : decode cX10_line 57 = .ok (.ior, 1) := zq_0 zo_128 zkX10_line_32 25 rfl rfl
theorem dX10_line_58 : decode cX10_line 58 = .ok (.istore_n 3, 1) := zq_0 zo_62 zkX10_line_32 26 rfl rfl
theorem dX10_line_59 : decode cX10_line 59 = .ok (.iinc 4 1, 3) := zq_ii zo_132 zkX10_line_32 27 rfl rfl 4 1 rfl rfl _ (by decide +kernel)
theorem dX10_line_62 : decode cX10_line 62 = .ok (.goto (-34), 3) := zq_2s zo_167 zkX10_line_32 30 rfl rfl 255 222 rfl rfl _ (by decide +kernel)
theorem zkX10_line_64 : zqc cX10_line 64 [222, 29, 172, 28, 3, 16, 6, 184, 0, 103, 153, 0, 11, 42, 28, 182, 0, 238, 167, 0, 5, 16, 254, 172] := zq_of 24 (by decide +kernel)
theorem dX10_line_65 : decode cX10_line 65 = .ok (.iload_n 3, 1) := zq_0 zo_29 zkX10_line_64 1 rfl rfl
theorem dX10_line_66 : decode cX10_line 66 = .ok (.ireturn, 1) := zq_0 zo_172 zkX10_line_64 2 rfl rfl
theorem dX10_line_67 : decode cX10_line 67 = .ok (.iload_n 2, 1) := zq_0 zo_28 zkX10_line_64 3 rfl rfl
theorem dX10_line_68 : decode cX10_line 68 = .ok (.iconst 0, 1) := zq_0 zo_3 zkX10_line_64 4 rfl rfl
theorem dX10_line_69 : decode cX10_line 69 = .ok (.bipush 6, 2) := zq_1s zo_16 zkX10_line_64 5 rfl rfl 6 rfl _ (by decide +kernel)
theorem dX10_line_71 : decode cX10_line 71 = .ok (.invokestatic 103, 3) := zq_2 zo_184 zkX10_line_64 7 rfl rfl 0 103 rfl rfl _ rfl
theorem dX10_line_74 : decode cX10_line 74 = .ok (.ifCond .eq 11, 3) := zq_2s zo_153 zkX10_line_64 10 rfl rfl 0 11 rfl rfl _ (by decide +kernel)
theorem dX10_line_77 : decode cX10_line 77 = .ok (.aload_n 0, 1) := zq_0 zo_42 zkX10_line_64 13 rfl rfl
theorem dX10_line_78 : decode cX10_line 78 = .ok (.iload_n 2, 1) := zq_0 zo_28 zkX10_line_64 14 rfl rfl
theorem dX10_line_79 : decode cX10_line 79 = .ok (.invokevirtual 238, 3) := zq_2 zo_182 zkX10_line_64 15 rfl rfl 0 238 rfl rfl _ rfl
theorem dX10_line_82 : decode cX10_line 82 = .ok (.goto 5, 3) := zq_2s zo_167 zkX10_line_64 18 rfl rfl 0 5 rfl rfl _ (by decide +kernel)
theorem dX10_line_85 : decode cX10_line 85 = .ok (.bipush (-2), 2) := zq_1s zo_16 zkX10_line_64 21 rfl rfl 254 rfl _ (by decide +kernel)
theorem dX10_line_87 : decode cX10_line 87 = .ok (.ireturn, 1) := zq_0 zo_172 zkX10_line_64 23 rfl rfl
theorem zkX10_isPost_0 : zqc cX10_isPost 0 [27, 3, 42, 180, 0, 248, 184, 0, 103, 172] := zq_of 10 (by decide +kernel)
theorem dX10_isPost_0 : decode cX10_isPost 0 = .ok (.iload_n 1, 1) := zq_0 zo_27 zkX10_isPost_0 0 rfl rfl
theorem dX10_isPost_1 : decode cX10_isPost 1 = .ok (.iconst 0, 1) := zq_0 zo_3 zkX10_isPost_0 1 rfl rfl
