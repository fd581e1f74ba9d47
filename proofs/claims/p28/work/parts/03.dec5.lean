theorem dX10_meet_41 : decode cX10_meet 41 = .ok (.getfield 248, 3) := zq_2 zo_180 zkX10_meet_32 9 rfl rfl 0 248 rfl rfl _ rfl
theorem dX10_meet_44 : decode cX10_meet 44 = .ok (.iadd, 1) := zq_0 zo_96 zkX10_meet_32 12 rfl rfl
theorem dX10_meet_45 : decode cX10_meet 45 = .ok (.invokestatic 103, 3) := zq_2 zo_184 zkX10_meet_32 13 rfl rfl 0 103 rfl rfl _ rfl
theorem dX10_meet_48 : decode cX10_meet 48 = .ok (.ifCond .eq 14, 3) := zq_2s zo_153 zkX10_meet_32 16 rfl rfl 0 14 rfl rfl _ (by decide +kernel)
theorem dX10_meet_51 : decode cX10_meet 51 = .ok (.aload_n 0, 1) := zq_0 zo_42 zkX10_meet_32 19 rfl rfl
theorem dX10_meet_52 : decode cX10_meet 52 = .ok (.getfield 56, 3) := zq_2 zo_180 zkX10_meet_32 20 rfl rfl 0 56 rfl rfl _ rfl
theorem dX10_meet_55 : decode cX10_meet 55 = .ok (.iload 5, 2) := zq_1 zo_21 zkX10_meet_32 23 rfl rfl 5 rfl
theorem dX10_meet_57 : decode cX10_meet 57 = .ok (.bipush 100, 2) := zq_1s zo_16 zkX10_meet_32 25 rfl rfl 100 rfl _ (by decide +kernel)
theorem dX10_meet_59 : decode cX10_meet 59 = .ok (.isub, 1) := zq_0 zo_100 zkX10_meet_32 27 rfl rfl
theorem dX10_meet_60 : decode cX10_meet 60 = .ok (.iaload, 1) := zq_0 zo_46 zkX10_meet_32 28 rfl rfl
theorem dX10_meet_61 : decode cX10_meet 61 = .ok (.ireturn, 1) := zq_0 zo_172 zkX10_meet_32 29 rfl rfl
theorem dX10_meet_62 : decode cX10_meet 62 = .ok (.iload 5, 2) := zq_1 zo_21 zkX10_meet_32 30 rfl rfl 5 rfl
theorem zkX10_meet_64 : zqc cX10_meet 64 [17, 0, 200, 17, 0, 200, 42, 180, 0, 248, 96, 184, 0, 103, 153, 0, 15, 42, 180, 0, 79, 21, 5, 17, 0, 200, 100, 46, 172, 3, 54, 6, 3, 54] := zq_of 34 (by decide +kernel)
theorem dX10_meet_64 : decode cX10_meet 64 = .ok (.sipush 200, 3) := zq_2s zo_17 zkX10_meet_64 0 rfl rfl 0 200 rfl rfl _ (by decide +kernel)
theorem dX10_meet_67 : decode cX10_meet 67 = .ok (.sipush 200, 3) := zq_2s zo_17 zkX10_meet_64 3 rfl rfl 0 200 rfl rfl _ (by decide +kernel)
theorem dX10_meet_70 : decode cX10_meet 70 = .ok (.aload_n 0, 1) := zq_0 zo_42 zkX10_meet_64 6 rfl rfl
theorem dX10_meet_71 : decode cX10_meet 71 = .ok (.getfield 248, 3) := zq_2 zo_180 zkX10_meet_64 7 rfl rfl 0 248 rfl rfl _ rfl
theorem dX10_meet_74 : decode cX10_meet 74 = .ok (.iadd, 1) := zq_0 zo_96 zkX10_meet_64 10 rfl rfl
theorem dX10_meet_75 : decode cX10_meet 75 = .ok (.invokestatic 103, 3) := zq_2 zo_184 zkX10_meet_64 11 rfl rfl 0 103 rfl rfl _ rfl
theorem dX10_meet_78 : decode cX10_meet 78 = .ok (.ifCond .eq 15, 3) := zq_2s zo_153 zkX10_meet_64 14 rfl rfl 0 15 rfl rfl _ (by decide +kernel)
theorem dX10_meet_81 : decode cX10_meet 81 = .ok (.aload_n 0, 1) := zq_0 zo_42 zkX10_meet_64 17 rfl rfl
theorem dX10_meet_82 : decode cX10_meet 82 = .ok (.getfield 79, 3) := zq_2 zo_180 zkX10_meet_64 18 rfl rfl 0 79 rfl rfl _ rfl
theorem dX10_meet_85 : decode cX10_meet 85 = .ok (.iload 5, 2) := zq_1 zo_21 zkX10_meet_64 21 rfl rfl 5 rfl
theorem dX10_meet_87 : decode cX10_meet 87 = .ok (.sipush 200, 3) := zq_2s zo_17 zkX10_meet_64 23 rfl rfl 0 200 rfl rfl _ (by decide +kernel)
theorem dX10_meet_90 : decode cX10_meet 90 = .ok (.isub, 1) := zq_0 zo_100 zkX10_meet_64 26 rfl rfl
theorem dX10_meet_91 : decode cX10_meet 91 = .ok (.iaload, 1) := zq_0 zo_46 zkX10_meet_64 27 rfl rfl
theorem dX10_meet_92 : decode cX10_meet 92 = .ok (.ireturn, 1) := zq_0 zo_172 zkX10_meet_64 28 rfl rfl
theorem dX10_meet_93 : decode cX10_meet 93 = .ok (.iconst 0, 1) := zq_0 zo_3 zkX10_meet_64 29 rfl rfl
theorem dX10_meet_94 : decode cX10_meet 94 = .ok (.istore 6, 2) := zq_1 zo_54 zkX10_meet_64 30 rfl rfl 6 rfl
theorem zkX10_meet_96 : zqc cX10_meet 96 [3, 54, 7, 21, 7, 42, 180, 0, 245, 162, 0, 21, 21, 6, 42, 180, 0, 79, 21, 7, 46, 96, 54, 6, 132, 7, 1, 167, 255, 232, 21, 5, 154, 0] := zq_of 34 (by decide +kernel)
theorem dX10_meet_96 : decode cX10_meet 96 = .ok (.iconst 0, 1) := zq_0 zo_3 zkX10_meet_96 0 rfl rfl
theorem dX10_meet_97 : decode cX10_meet 97 = .ok (.istore 7, 2) := zq_1 zo_54 zkX10_meet_96 1 rfl rfl 7 rfl
theorem dX10_meet_99 : decode cX10_meet 99 = .ok (.iload 7, 2) := zq_1 zo_21 zkX10_meet_96 3 rfl rfl 7 rfl
theorem dX10_meet_101 : decode cX10_meet 101 = .ok (.aload_n 0, 1) := zq_0 zo_42 zkX10_meet_96 5 rfl rfl
theorem dX10_meet_102 : decode cX10_meet 102 = .ok (.getfield 245, 3) := zq_2 zo_180 zkX10_meet_96 6 rfl rfl 0 245 rfl rfl _ rfl
theorem dX10_meet_105 : decode cX10_meet 105 = .ok (.if_icmp .ge 21, 3) := zq_2s zo_162 zkX10_meet_96 9 rfl rfl 0 21 rfl rfl _ (by decide +kernel)
theorem dX10_meet_108 : decode cX10_meet 108 = .ok (.iload 6, 2) := zq_1 zo_21 zkX10_meet_96 12 rfl rfl 6 rfl
theorem dX10_meet_110 : decode cX10_meet 110 = .ok (.aload_n 0, 1) := zq_0 zo_42 zkX10_meet_96 14 rfl rfl
theorem dX10_meet_111 : decode cX10_meet 111 = .ok (.getfield 79, 3) := zq_2 zo_180 zkX10_meet_96 15 rfl rfl 0 79 rfl rfl _ rfl
theorem dX10_meet_114 : decode cX10_meet 114 = .ok (.iload 7, 2) := zq_1 zo_21 zkX10_meet_96 18 rfl rfl 7 rfl
theorem dX10_meet_116 : decode cX10_meet 116 = .ok (.iaload, 1) := zq_0 zo_46 zkX10_meet_96 20 rfl rfl
theorem dX10_meet_117 : decode cX10_meet 117 = .ok (.iadd, 1) := zq_0 zo_96 zkX10_meet_96 21 rfl rfl
theorem dX10_meet_118 : decode cX10_meet 118 = .ok (.istore 6, 2) := zq_1 zo_54 zkX10_meet_96 22 rfl rfl 6 rfl
theorem dX10_meet_120 : decode cX10_meet 120 = .ok (.iinc 7 1, 3) := zq_ii zo_132 zkX10_meet_96 24 rfl rfl 7 1 rfl rfl _ (by decide +kernel)
theorem dX10_meet_123 : decode cX10_meet 123 = .ok (.goto (-24), 3) := zq_2s zo_167 zkX10_meet_96 27 rfl rfl 255 232 rfl rfl _ (by decide +kernel)
theorem dX10_meet_126 : decode cX10_meet 126 = .ok (.iload 5, 2) := zq_1 zo_21 zkX10_meet_96 30 rfl rfl 5 rfl
theorem zkX10_meet_128 : zqc cX10_meet 128 [154, 0, 15, 42, 180, 0, 56, 42, 180, 0, 248, 46, 167, 0, 29, 21, 5, 4, 160, 0, 8, 21, 6, 167, 0, 18, 21, 5, 5, 160, 0, 10, 42, 180] := zq_of 34 (by decide +kernel)
theorem dX10_meet_128 : decode cX10_meet 128 = .ok (.ifCond .ne 15, 3) := zq_2s zo_154 zkX10_meet_128 0 rfl rfl 0 15 rfl rfl _ (by decide +kernel)
theorem dX10_meet_131 : decode cX10_meet 131 = .ok (.aload_n 0, 1) := zq_0 zo_42 zkX10_meet_128 3 rfl rfl
theorem dX10_meet_132 : decode cX10_meet 132 = .ok (.getfield 56, 3) := zq_2 zo_180 zkX10_meet_128 4 rfl rfl 0 56 rfl rfl _ rfl
theorem dX10_meet_135 : decode cX10_meet 135 = .ok (.aload_n 0, 1) := zq_0 zo_42 zkX10_meet_128 7 rfl rfl
theorem dX10_meet_136 : decode cX10_meet 136 = .ok (.getfield 248, 3) := zq_2 zo_180 zkX10_meet_128 8 rfl rfl 0 248 rfl rfl _ rfl
theorem dX10_meet_139 : decode cX10_meet 139 = .ok (.iaload, 1) := zq_0 zo_46 zkX10_meet_128 11 rfl rfl
theorem dX10_meet_140 : decode cX10_meet 140 = .ok (.goto 29, 3) := zq_2s zo_167 zkX10_meet_128 12 rfl rfl 0 29 rfl rfl _ (by decide +kernel)
theorem dX10_meet_143 : decode cX10_meet 143 = .ok (.iload 5, 2) := zq_1 zo_21 zkX10_meet_128 15 rfl rfl 5 rfl
theorem dX10_meet_145 : decode cX10_meet 145 = .ok (.iconst 1, 1) := zq_0 zo_4 zkX10_meet_128 17 rfl rfl
theorem dX10_meet_146 : decode cX10_meet 146 = .ok (.if_icmp .ne 8, 3) := zq_2s zo_160 zkX10_meet_128 18 rfl rfl 0 8 rfl rfl _ (by decide +kernel)
theorem dX10_meet_149 : decode cX10_meet 149 = .ok (.iload 6, 2) := zq_1 zo_21 zkX10_meet_128 21 rfl rfl 6 rfl
theorem dX10_meet_151 : decode cX10_meet 151 = .ok (.goto 18, 3) := zq_2s zo_167 zkX10_meet_128 23 rfl rfl 0 18 rfl rfl _ (by decide +kernel)
theorem dX10_meet_154 : decode cX10_meet 154 = .ok (.iload 5, 2) := zq_1 zo_21 zkX10_meet_128 26 rfl rfl 5 rfl
theorem dX10_meet_156 : decode cX10_meet 156 = .ok (.iconst 2, 1) := zq_0 zo_5 zkX10_meet_128 28 rfl rfl
theorem dX10_meet_157 : decode cX10_meet 157 = .ok (.if_icmp .ne 10, 3) := zq_2s zo_160 zkX10_meet_128 29 rfl rfl 0 10 rfl rfl _ (by decide +kernel)
theorem zkX10_meet_160 : zqc cX10_meet 160 [42, 180, 1, 115, 167, 0, 5, 16, 254, 172] := zq_of 10 (by decide +kernel)
theorem dX10_meet_160 : decode cX10_meet 160 = .ok (.aload_n 0, 1) := zq_0 zo_42 zkX10_meet_160 0 rfl rfl
theorem dX10_meet_161 : decode cX10_meet 161 = .ok (.getfield 371, 3) := zq_2 zo_180 zkX10_meet_160 1 rfl rfl 1 115 rfl rfl _ rfl
theorem dX10_meet_164 : decode cX10_meet 164 = .ok (.goto 5, 3) := zq_2s zo_167 zkX10_meet_160 4 rfl rfl 0 5 rfl rfl _ (by decide +kernel)
theorem dX10_meet_167 : decode cX10_meet 167 = .ok (.bipush (-2), 2) := zq_1s zo_16 zkX10_meet_160 7 rfl rfl 254 rfl _ (by decide +kernel)
theorem dX10_meet_169 : decode cX10_meet 169 = .ok (.ireturn, 1) := zq_0 zo_172 zkX10_meet_160 9 rfl rfl
theorem zkX10_pulls_0 : zqc cX10_pulls 0 [42, 180, 0, 29, 16, 33, 42, 180, 1, 124, 104, 46, 172] := zq_of 13 (by decide +kernel)
theorem dX10_pulls_0 : decode cX10_pulls 0 = .ok (.aload_n 0, 1) := zq_0 zo_42 zkX10_pulls_0 0 rfl rfl
theorem dX10_pulls_1 : decode cX10_pulls 1 = .ok (.getfield 29, 3) := zq_2 zo_180 zkX10_pulls_0 1 rfl rfl 0 29 rfl rfl _ rfl
theorem dX10_pulls_4 : decode cX10_pulls 4 = .ok (.bipush 33, 2) := zq_1s zo_16 zkX10_pulls_0 4 rfl rfl 33 rfl _ (by decide +kernel)
theorem dX10_pulls_6 : decode cX10_pulls 6 = .ok (.aload_n 0, 1) := zq_0 zo_42 zkX10_pulls_0 6 rfl rfl
theorem dX10_pulls_7 : decode cX10_pulls 7 = .ok (.getfield 380, 3) := zq_2 zo_180 zkX10_pulls_0 7 rfl rfl 1 124 rfl rfl _ rfl
theorem dX10_pulls_10 : decode cX10_pulls 10 = .ok (.imul, 1) := zq_0 zo_104 zkX10_pulls_0 10 rfl rfl
theorem dX10_pulls_11 : decode cX10_pulls 11 = .ok (.iaload, 1) := zq_0 zo_46 zkX10_pulls_0 11 rfl rfl
theorem dX10_pulls_12 : decode cX10_pulls 12 = .ok (.ireturn, 1) := zq_0 zo_172 zkX10_pulls_0 12 rfl rfl
theorem zkX10_pullOf_0 : zqc cX10_pullOf 0 [42, 180, 0, 29, 16, 33, 42, 180, 1, 124, 104, 4, 96, 5, 27, 104, 96, 28, 96, 46, 172] := zq_of 21 (by decide +kernel)
theorem dX10_pullOf_0 : decode cX10_pullOf 0 = .ok (.aload_n 0, 1) := zq_0 zo_42 zkX10_pullOf_0 0 rfl rfl
theorem dX10_pullOf_1 : decode cX10_pullOf 1 = .ok (.getfield 29, 3) := zq_2 zo_180 zkX10_pullOf_0 1 rfl rfl 0 29 rfl rfl _ rfl
theorem dX10_pullOf_4 : decode cX10_pullOf 4 = .ok (.bipush 33, 2) := zq_1s zo_16 zkX10_pullOf_0 4 rfl rfl 33 rfl _ (by decide +kernel)
theorem dX10_pullOf_6 : decode cX10_pullOf 6 = .ok (.aload_n 0, 1) := zq_0 zo_42 zkX10_pullOf_0 6 rfl rfl
theorem dX10_pullOf_7 : decode cX10_pullOf 7 = .ok (.getfield 380, 3) := zq_2 zo_180 zkX10_pullOf_0 7 rfl rfl 1 124 rfl rfl _ rfl
theorem dX10_pullOf_10 : decode cX10_pullOf 10 = .ok (.imul, 1) := zq_0 zo_104 zkX10_pullOf_0 10 rfl rfl
theorem dX10_pullOf_11 : decode cX10_pullOf 11 = .ok (.iconst 1, 1) := zq_0 zo_4 zkX10_pullOf_0 11 rfl rfl
theorem dX10_pullOf_12 : decode cX10_pullOf 12 = .ok (.iadd, 1) := zq_0 zo_96 zkX10_pullOf_0 12 rfl rfl
theorem dX10_pullOf_13 : decode cX10_pullOf 13 = .ok (.iconst 2, 1) := zq_0 zo_5 zkX10_pullOf_0 13 rfl rfl
theorem dX10_pullOf_14 : decode cX10_pullOf 14 = .ok (.iload_n 1, 1) := zq_0 zo_27 zkX10_pullOf_0 14 rfl rfl
theorem dX10_pullOf_15 : decode cX10_pullOf 15 = .ok (.imul, 1) := zq_0 zo_104 zkX10_pullOf_0 15 rfl rfl
theorem dX10_pullOf_16 : decode cX10_pullOf 16 = .ok (.iadd, 1) := zq_0 zo_96 zkX10_pullOf_0 16 rfl rfl
theorem dX10_pullOf_17 : decode cX10_pullOf 17 = .ok (.iload_n 2, 1) := zq_0 zo_28 zkX10_pullOf_0 17 rfl rfl
theorem dX10_pullOf_18 : decode cX10_pullOf 18 = .ok (.iadd, 1) := zq_0 zo_96 zkX10_pullOf_0 18 rfl rfl
theorem dX10_pullOf_19 : decode cX10_pullOf 19 = .ok (.iaload, 1) := zq_0 zo_46 zkX10_pullOf_0 19 rfl rfl
theorem dX10_pullOf_20 : decode cX10_pullOf 20 = .ok (.ireturn, 1) := zq_0 zo_172 zkX10_pullOf_0 20 rfl rfl
theorem zkX10_hasPlan_0 : zqc cX10_hasPlan 0 [42, 27, 181, 1, 124, 42, 4, 27, 182, 0, 225, 172] := zq_of 12 (by decide +kernel)
theorem dX10_hasPlan_0 : decode cX10_hasPlan 0 = .ok (.aload_n 0, 1) := zq_0 zo_42 zkX10_hasPlan_0 0 rfl rfl
theorem dX10_hasPlan_1 : decode cX10_hasPlan 1 = .ok (.iload_n 1, 1) := zq_0 zo_27 zkX10_hasPlan_0 1 rfl rfl
theorem dX10_hasPlan_2 : decode cX10_hasPlan 2 = .ok (.putfield 380, 3) := zq_2 zo_181 zkX10_hasPlan_0 2 rfl rfl 1 124 rfl rfl _ rfl
theorem dX10_hasPlan_5 : decode cX10_hasPlan 5 = .ok (.aload_n 0, 1) := zq_0 zo_42 zkX10_hasPlan_0 5 rfl rfl
theorem dX10_hasPlan_6 : decode cX10_hasPlan 6 = .ok (.iconst 1, 1) := zq_0 zo_4 zkX10_hasPlan_0 6 rfl rfl
theorem dX10_hasPlan_7 : decode cX10_hasPlan 7 = .ok (.iload_n 1, 1) := zq_0 zo_27 zkX10_hasPlan_0 7 rfl rfl
theorem dX10_hasPlan_8 : decode cX10_hasPlan 8 = .ok (.invokevirtual 225, 3) := zq_2 zo_182 zkX10_hasPlan_0 8 rfl rfl 0 225 rfl rfl _ rfl
theorem dX10_hasPlan_11 : decode cX10_hasPlan 11 = .ok (.ireturn, 1) := zq_0 zo_172 zkX10_hasPlan_0 11 rfl rfl
theorem zkX10_pull_0 : zqc cX10_pull 0 [42, 3, 181, 0, 91, 42, 27, 182, 1, 127, 154, 0, 6, 16, 254, 172, 28, 2, 160, 0, 17, 29, 154, 0, 10, 42, 182, 1, 130, 167, 0, 5, 16, 254] := zq_of 34 (by decide +kernel)
theorem dX10_pull_0 : decode cX10_pull 0 = .ok (.aload_n 0, 1) := zq_0 zo_42 zkX10_pull_0 0 rfl rfl
theorem dX10_pull_1 : decode cX10_pull 1 = .ok (.iconst 0, 1) := zq_0 zo_3 zkX10_pull_0 1 rfl rfl
theorem dX10_pull_2 : decode cX10_pull 2 = .ok (.putfield 91, 3) := zq_2 zo_181 zkX10_pull_0 2 rfl rfl 0 91 rfl rfl _ rfl
theorem dX10_pull_5 : decode cX10_pull 5 = .ok (.aload_n 0, 1) := zq_0 zo_42 zkX10_pull_0 5 rfl rfl
theorem dX10_pull_6 : decode cX10_pull 6 = .ok (.iload_n 1, 1) := zq_0 zo_27 zkX10_pull_0 6 rfl rfl
theorem dX10_pull_7 : decode cX10_pull 7 = .ok (.invokevirtual 383, 3) := zq_2 zo_182 zkX10_pull_0 7 rfl rfl 1 127 rfl rfl _ rfl
theorem dX10_pull_10 : decode cX10_pull 10 = .ok (.ifCond .ne 6, 3) := zq_2s zo_154 zkX10_pull_0 10 rfl rfl 0 6 rfl rfl _ (by decide +kernel)
theorem dX10_pull_13 : decode cX10_pull 13 = .ok (.bipush (-2), 2) := zq_1s zo_16 zkX10_pull_0 13 rfl rfl 254 rfl _ (by decide +kernel)
theorem dX10_pull_15 : decode cX10_pull 15 = .ok (.ireturn, 1) := zq_0 zo_172 zkX10_pull_0 15 rfl rfl
theorem dX10_pull_16 : decode cX10_pull 16 = .ok (.iload_n 2, 1) := zq_0 zo_28 zkX10_pull_0 16 rfl rfl
theorem dX10_pull_17 : decode cX10_pull 17 = .ok (.iconst (-1), 1) := zq_0 zo_2 zkX10_pull_0 17 rfl rfl
theorem dX10_pull_18 : decode cX10_pull 18 = .ok (.if_icmp .ne 17, 3) := zq_2s zo_160 zkX10_pull_0 18 rfl rfl 0 17 rfl rfl _ (by decide +kernel)
theorem dX10_pull_21 : decode cX10_pull 21 = .ok (.iload_n 3, 1) := zq_0 zo_29 zkX10_pull_0 21 rfl rfl
theorem dX10_pull_22 : decode cX10_pull 22 = .ok (.ifCond .ne 10, 3) := zq_2s zo_154 zkX10_pull_0 22 rfl rfl 0 10 rfl rfl _ (by decide +kernel)
theorem dX10_pull_25 : decode cX10_pull 25 = .ok (.aload_n 0, 1) := zq_0 zo_42 zkX10_pull_0 25 rfl rfl
theorem dX10_pull_26 : decode cX10_pull 26 = .ok (.invokevirtual 386, 3) := zq_2 zo_182 zkX10_pull_0 26 rfl rfl 1 130 rfl rfl _ rfl
theorem dX10_pull_29 : decode cX10_pull 29 = .ok (.goto 5, 3) := zq_2s zo_167 zkX10_pull_0 29 rfl rfl 0 5 rfl rfl _ (by decide +kernel)
theorem zkX10_pull_32 : zqc cX10_pull 32 [16, 254, 172, 28, 3, 42, 182, 1, 130, 4, 100, 184, 0, 103, 153, 0, 21, 29, 3, 4, 184, 0, 103, 153, 0, 12, 42, 28, 29, 182, 1, 133, 167, 0] := zq_of 34 (by decide +kernel)
theorem dX10_pull_32 : decode cX10_pull 32 = .ok (.bipush (-2), 2) := zq_1s zo_16 zkX10_pull_32 0 rfl rfl 254 rfl _ (by decide +kernel)
theorem dX10_pull_34 : decode cX10_pull 34 = .ok (.ireturn, 1) := zq_0 zo_172 zkX10_pull_32 2 rfl rfl
theorem dX10_pull_35 : decode cX10_pull 35 = .ok (.iload_n 2, 1) := zq_0 zo_28 zkX10_pull_32 3 rfl rfl
theorem dX10_pull_36 : decode cX10_pull 36 = .ok (.iconst 0, 1) := zq_0 zo_3 zkX10_pull_32 4 rfl rfl
theorem dX10_pull_37 : decode cX10_pull 37 = .ok (.aload_n 0, 1) := zq_0 zo_42 zkX10_pull_32 5 rfl rfl
theorem dX10_pull_38 : decode cX10_pull 38 = .ok (.invokevirtual 386, 3) := zq_2 zo_182 zkX10_pull_32 6 rfl rfl 1 130 rfl rfl _ rfl
theorem dX10_pull_41 : decode cX10_pull 41 = .ok (.iconst 1, 1) := zq_0 zo_4 zkX10_pull_32 9 rfl rfl
theorem dX10_pull_42 : decode cX10_pull 42 = .ok (.isub, 1) := zq_0 zo_100 zkX10_pull_32 10 rfl rfl
theorem dX10_pull_43 : decode cX10_pull 43 = .ok (.invokestatic 103, 3) := zq_2 zo_184 zkX10_pull_32 11 rfl rfl 0 103 rfl rfl _ rfl
theorem dX10_pull_46 : decode cX10_pull 46 = .ok (.ifCond .eq 21, 3) := zq_2s zo_153 zkX10_pull_32 14 rfl rfl 0 21 rfl rfl _ (by decide +kernel)
theorem dX10_pull_49 : decode cX10_pull 49 = .ok (.iload_n 3, 1) := zq_0 zo_29 zkX10_pull_32 17 rfl rfl
theorem dX10_pull_50 : decode cX10_pull 50 = .ok (.iconst 0, 1) := zq_0 zo_3 zkX10_pull_32 18 rfl rfl
theorem dX10_pull_51 : decode cX10_pull 51 = .ok (.iconst 1, 1) := zq_0 zo_4 zkX10_pull_32 19 rfl rfl
theorem dX10_pull_52 : decode cX10_pull 52 = .ok (.invokestatic 103, 3) := zq_2 zo_184 zkX10_pull_32 20 rfl rfl 0 103 rfl rfl _ rfl
theorem dX10_pull_55 : decode cX10_pull 55 = .ok (.ifCond .eq 12, 3) := zq_2s zo_153 zkX10_pull_32 23 rfl rfl 0 12 rfl rfl _ (by decide +kernel)
theorem dX10_pull_58 : decode cX10_pull 58 = .ok (.aload_n 0, 1) := zq_0 zo_42 zkX10_pull_32 26 rfl rfl
theorem dX10_pull_59 : decode cX10_pull 59 = .ok (.iload_n 2, 1) := zq_0 zo_28 zkX10_pull_32 27 rfl rfl
theorem dX10_pull_60 : decode cX10_pull 60 = .ok (.iload_n 3, 1) := zq_0 zo_29 zkX10_pull_32 28 rfl rfl
theorem dX10_pull_61 : decode cX10_pull 61 = .ok (.invokevirtual 389, 3) := zq_2 zo_182 zkX10_pull_32 29 rfl rfl 1 133 rfl rfl _ rfl
theorem zkX10_pull_64 : zqc cX10_pull 64 [167, 0, 5, 16, 254, 172] := zq_of 6 (by decide +kernel)
theorem dX10_pull_64 : decode cX10_pull 64 = .ok (.goto 5, 3) := zq_2s zo_167 zkX10_pull_64 0 rfl rfl 0 5 rfl rfl _ (by decide +kernel)
theorem dX10_pull_67 : decode cX10_pull 67 = .ok (.bipush (-2), 2) := zq_1s zo_16 zkX10_pull_64 3 rfl rfl 254 rfl _ (by decide +kernel)
theorem dX10_pull_69 : decode cX10_pull 69 = .ok (.ireturn, 1) := zq_0 zo_172 zkX10_pull_64 5 rfl rfl
theorem zkX10_canPull_0 : zqc cX10_canPull 0 [42, 27, 3, 182, 1, 133, 61, 42, 27, 4, 182, 1, 133, 62, 28, 42, 180, 0, 248, 162, 0, 19, 27, 158, 0, 17, 28, 42, 27, 4, 100, 3, 182, 1] := zq_of 34 (by decide +kernel)
theorem dX10_canPull_0 : decode cX10_canPull 0 = .ok (.aload_n 0, 1) := zq_0 zo_42 zkX10_canPull_0 0 rfl rfl
theorem dX10_canPull_1 : decode cX10_canPull 1 = .ok (.iload_n 1, 1) := zq_0 zo_27 zkX10_canPull_0 1 rfl rfl
theorem dX10_canPull_2 : decode cX10_canPull 2 = .ok (.iconst 0, 1) := zq_0 zo_3 zkX10_canPull_0 2 rfl rfl
theorem dX10_canPull_3 : decode cX10_canPull 3 = .ok (.invokevirtual 389, 3) := zq_2 zo_182 zkX10_canPull_0 3 rfl rfl 1 133 rfl rfl _ rfl
theorem dX10_canPull_6 : decode cX10_canPull 6 = .ok (.istore_n 2, 1) := zq_0 zo_61 zkX10_canPull_0 6 rfl rfl
theorem dX10_canPull_7 : decode cX10_canPull 7 = .ok (.aload_n 0, 1) := zq_0 zo_42 zkX10_canPull_0 7 rfl rfl
theorem dX10_canPull_8 : decode cX10_canPull 8 = .ok (.iload_n 1, 1) := zq_0 zo_27 zkX10_canPull_0 8 rfl rfl
theorem dX10_canPull_9 : decode cX10_canPull 9 = .ok (.iconst 1, 1) := zq_0 zo_4 zkX10_canPull_0 9 rfl rfl
theorem dX10_canPull_10 : decode cX10_canPull 10 = .ok (.invokevirtual 389, 3) := zq_2 zo_182 zkX10_canPull_0 10 rfl rfl 1 133 rfl rfl _ rfl
theorem dX10_canPull_13 : decode cX10_canPull 13 = .ok (.istore_n 3, 1) := zq_0 zo_62 zkX10_canPull_0 13 rfl rfl
theorem dX10_canPull_14 : decode cX10_canPull 14 = .ok (.iload_n 2, 1) := zq_0 zo_28 zkX10_canPull_0 14 rfl rfl
theorem dX10_canPull_15 : decode cX10_canPull 15 = .ok (.aload_n 0, 1) := zq_0 zo_42 zkX10_canPull_0 15 rfl rfl
theorem dX10_canPull_16 : decode cX10_canPull 16 = .ok (.getfield 248, 3) := zq_2 zo_180 zkX10_canPull_0 16 rfl rfl 0 248 rfl rfl _ rfl
theorem dX10_canPull_19 : decode cX10_canPull 19 = .ok (.if_icmp .ge 19, 3) := zq_2s zo_162 zkX10_canPull_0 19 rfl rfl 0 19 rfl rfl _ (by decide +kernel)
theorem dX10_canPull_22 : decode cX10_canPull 22 = .ok (.iload_n 1, 1) := zq_0 zo_27 zkX10_canPull_0 22 rfl rfl
theorem dX10_canPull_23 : decode cX10_canPull 23 = .ok (.ifCond .le 17, 3) := zq_2s zo_158 zkX10_canPull_0 23 rfl rfl 0 17 rfl rfl _ (by decide +kernel)
theorem dX10_canPull_26 : decode cX10_canPull 26 = .ok (.iload_n 2, 1) := zq_0 zo_28 zkX10_canPull_0 26 rfl rfl
theorem dX10_canPull_27 : decode cX10_canPull 27 = .ok (.aload_n 0, 1) := zq_0 zo_42 zkX10_canPull_0 27 rfl rfl
theorem dX10_canPull_28 : decode cX10_canPull 28 = .ok (.iload_n 1, 1) := zq_0 zo_27 zkX10_canPull_0 28 rfl rfl
theorem dX10_canPull_29 : decode cX10_canPull 29 = .ok (.iconst 1, 1) := zq_0 zo_4 zkX10_canPull_0 29 rfl rfl
theorem dX10_canPull_30 : decode cX10_canPull 30 = .ok (.isub, 1) := zq_0 zo_100 zkX10_canPull_0 30 rfl rfl
theorem dX10_canPull_31 : decode cX10_canPull 31 = .ok (.iconst 0, 1) := zq_0 zo_3 zkX10_canPull_0 31 rfl rfl
theorem zkX10_canPull_32 : zqc cX10_canPull 32 [182, 1, 133, 163, 0, 5, 3, 172, 42, 29, 182, 1, 7, 153, 0, 40, 42, 29, 28, 182, 1, 17, 153, 0, 31, 42, 180, 0, 62, 29, 46, 42, 29, 5] := zq_of 34 (by decide +kernel)
theorem dX10_canPull_32 : decode cX10_canPull 32 = .ok (.invokevirtual 389, 3) := zq_2 zo_182 zkX10_canPull_32 0 rfl rfl 1 133 rfl rfl _ rfl
theorem dX10_canPull_35 : decode cX10_canPull 35 = .ok (.if_icmp .gt 5, 3) := zq_2s zo_163 zkX10_canPull_32 3 rfl rfl 0 5 rfl rfl _ (by decide +kernel)
theorem dX10_canPull_38 : decode cX10_canPull 38 = .ok (.iconst 0, 1) := zq_0 zo_3 zkX10_canPull_32 6 rfl rfl
theorem dX10_canPull_39 : decode cX10_canPull 39 = .ok (.ireturn, 1) := zq_0 zo_172 zkX10_canPull_32 7 rfl rfl
theorem dX10_canPull_40 : decode cX10_canPull 40 = .ok (.aload_n 0, 1) := zq_0 zo_42 zkX10_canPull_32 8 rfl rfl
theorem dX10_canPull_41 : decode cX10_canPull 41 = .ok (.iload_n 3, 1) := zq_0 zo_29 zkX10_canPull_32 9 rfl rfl
theorem dX10_canPull_42 : decode cX10_canPull 42 = .ok (.invokevirtual 263, 3) := zq_2 zo_182 zkX10_canPull_32 10 rfl rfl 1 7 rfl rfl _ rfl
theorem dX10_canPull_45 : decode cX10_canPull 45 = .ok (.ifCond .eq 40, 3) := zq_2s zo_153 zkX10_canPull_32 13 rfl rfl 0 40 rfl rfl _ (by decide +kernel)
theorem dX10_canPull_48 : decode cX10_canPull 48 = .ok (.aload_n 0, 1) := zq_0 zo_42 zkX10_canPull_32 16 rfl rfl
theorem dX10_canPull_49 : decode cX10_canPull 49 = .ok (.iload_n 3, 1) := zq_0 zo_29 zkX10_canPull_32 17 rfl rfl
theorem dX10_canPull_50 : decode cX10_canPull 50 = .ok (.iload_n 2, 1) := zq_0 zo_28 zkX10_canPull_32 18 rfl rfl
theorem dX10_canPull_51 : decode cX10_canPull 51 = .ok (.invokevirtual 273, 3) := zq_2 zo_182 zkX10_canPull_32 19 rfl rfl 1 17 rfl rfl _ rfl
theorem dX10_canPull_54 : decode cX10_canPull 54 = .ok (.ifCond .eq 31, 3) := zq_2s zo_153 zkX10_canPull_32 22 rfl rfl 0 31 rfl rfl _ (by decide +kernel)
theorem dX10_canPull_57 : decode cX10_canPull 57 = .ok (.aload_n 0, 1) := zq_0 zo_42 zkX10_canPull_32 25 rfl rfl
theorem dX10_canPull_58 : decode cX10_canPull 58 = .ok (.getfield 62, 3) := zq_2 zo_180 zkX10_canPull_32 26 rfl rfl 0 62 rfl rfl _ rfl
theorem dX10_canPull_61 : decode cX10_canPull 61 = .ok (.iload_n 3, 1) := zq_0 zo_29 zkX10_canPull_32 29 rfl rfl
theorem dX10_canPull_62 : decode cX10_canPull 62 = .ok (.iaload, 1) := zq_0 zo_46 zkX10_canPull_32 30 rfl rfl
theorem dX10_canPull_63 : decode cX10_canPull 63 = .ok (.aload_n 0, 1) := zq_0 zo_42 zkX10_canPull_32 31 rfl rfl
theorem zkX10_canPull_64 : zqc cX10_canPull 64 [29, 5, 182, 1, 10, 162, 0, 16, 42, 180, 0, 53, 28, 46, 158, 0, 7, 4, 167, 0, 4, 3, 172] := zq_of 23 (by decide +kernel)
theorem dX10_canPull_64 : decode cX10_canPull 64 = .ok (.iload_n 3, 1) := zq_0 zo_29 zkX10_canPull_64 0 rfl rfl
theorem dX10_canPull_65 : decode cX10_canPull 65 = .ok (.iconst 2, 1) := zq_0 zo_5 zkX10_canPull_64 1 rfl rfl
theorem dX10_canPull_66 : decode cX10_canPull 66 = .ok (.invokevirtual 266, 3) := zq_2 zo_182 zkX10_canPull_64 2 rfl rfl 1 10 rfl rfl _ rfl
theorem dX10_canPull_69 : decode cX10_canPull 69 = .ok (.if_icmp .ge 16, 3) := zq_2s zo_162 zkX10_canPull_64 5 rfl rfl 0 16 rfl rfl _ (by decide +kernel)
theorem dX10_canPull_72 : decode cX10_canPull 72 = .ok (.aload_n 0, 1) := zq_0 zo_42 zkX10_canPull_64 8 rfl rfl
theorem dX10_canPull_73 : decode cX10_canPull 73 = .ok (.getfield 53, 3) := zq_2 zo_180 zkX10_canPull_64 9 rfl rfl 0 53 rfl rfl _ rfl
theorem dX10_canPull_76 : decode cX10_canPull 76 = .ok (.iload_n 2, 1) := zq_0 zo_28 zkX10_canPull_64 12 rfl rfl
theorem dX10_canPull_77 : decode cX10_canPull 77 = .ok (.iaload, 1) := zq_0 zo_46 zkX10_canPull_64 13 rfl rfl
theorem dX10_canPull_78 : decode cX10_canPull 78 = .ok (.ifCond .le 7, 3) := zq_2s zo_158 zkX10_canPull_64 14 rfl rfl 0 7 rfl rfl _ (by decide +kernel)
theorem dX10_canPull_81 : decode cX10_canPull 81 = .ok (.iconst 1, 1) := zq_0 zo_4 zkX10_canPull_64 17 rfl rfl
theorem dX10_canPull_82 : decode cX10_canPull 82 = .ok (.goto 4, 3) := zq_2s zo_167 zkX10_canPull_64 18 rfl rfl 0 4 rfl rfl _ (by decide +kernel)
theorem dX10_canPull_85 : decode cX10_canPull 85 = .ok (.iconst 0, 1) := zq_0 zo_3 zkX10_canPull_64 21 rfl rfl
theorem dX10_canPull_86 : decode cX10_canPull 86 = .ok (.ireturn, 1) := zq_0 zo_172 zkX10_canPull_64 22 rfl rfl
theorem zkX10_doPlan_0 : zqc cX10_doPlan 0 [42, 182, 1, 38, 3, 60, 27, 42, 180, 0, 245, 162, 0, 16, 42, 180, 0, 59, 27, 2, 79, 132, 1, 1, 167, 255, 238, 3, 60, 27, 42, 182, 1, 130] := zq_of 34 (by decide +kernel)
theorem dX10_doPlan_0 : decode cX10_doPlan 0 = .ok (.aload_n 0, 1) := zq_0 zo_42 zkX10_doPlan_0 0 rfl rfl
theorem dX10_doPlan_1 : decode cX10_doPlan 1 = .ok (.invokevirtual 294, 3) := zq_2 zo_182 zkX10_doPlan_0 1 rfl rfl 1 38 rfl rfl _ rfl
theorem dX10_doPlan_4 : decode cX10_doPlan 4 = .ok (.iconst 0, 1) := zq_0 zo_3 zkX10_doPlan_0 4 rfl rfl
theorem dX10_doPlan_5 : decode cX10_doPlan 5 = .ok (.istore_n 1, 1) := zq_0 zo_60 zkX10_doPlan_0 5 rfl rfl
theorem dX10_doPlan_6 : decode cX10_doPlan 6 = .ok (.iload_n 1, 1) := zq_0 zo_27 zkX10_doPlan_0 6 rfl rfl
theorem dX10_doPlan_7 : decode cX10_doPlan 7 = .ok (.aload_n 0, 1) := zq_0 zo_42 zkX10_doPlan_0 7 rfl rfl
theorem dX10_doPlan_8 : decode cX10_doPlan 8 = .ok (.getfield 245, 3) := zq_2 zo_180 zkX10_doPlan_0 8 rfl rfl 0 245 rfl rfl _ rfl
theorem dX10_doPlan_11 : decode cX10_doPlan 11 = .ok (.if_icmp .ge 16, 3) := zq_2s zo_162 zkX10_doPlan_0 11 rfl rfl 0 16 rfl rfl _ (by decide +kernel)
theorem dX10_doPlan_14 : decode cX10_doPlan 14 = .ok (.aload_n 0, 1) := zq_0 zo_42 zkX10_doPlan_0 14 rfl rfl
theorem dX10_doPlan_15 : decode cX10_doPlan 15 = .ok (.getfield 59, 3) := zq_2 zo_180 zkX10_doPlan_0 15 rfl rfl 0 59 rfl rfl _ rfl
theorem dX10_doPlan_18 : decode cX10_doPlan 18 = .ok (.iload_n 1, 1) := zq_0 zo_27 zkX10_doPlan_0 18 rfl rfl
theorem dX10_doPlan_19 : decode cX10_doPlan 19 = .ok (.iconst (-1), 1) := zq_0 zo_2 zkX10_doPlan_0 19 rfl rfl
theorem dX10_doPlan_20 : decode cX10_doPlan 20 = .ok (.iastore, 1) := zq_0 zo_79 zkX10_doPlan_0 20 rfl rfl
theorem dX10_doPlan_21 : decode cX10_doPlan 21 = .ok (.iinc 1 1, 3) := zq_ii zo_132 zkX10_doPlan_0 21 rfl rfl 1 1 rfl rfl _ (by decide +kernel)
theorem dX10_doPlan_24 : decode cX10_doPlan 24 = .ok (.goto (-18), 3) := zq_2s zo_167 zkX10_doPlan_0 24 rfl rfl 255 238 rfl rfl _ (by decide +kernel)
theorem dX10_doPlan_27 : decode cX10_doPlan 27 = .ok (.iconst 0, 1) := zq_0 zo_3 zkX10_doPlan_0 27 rfl rfl
theorem dX10_doPlan_28 : decode cX10_doPlan 28 = .ok (.istore_n 1, 1) := zq_0 zo_60 zkX10_doPlan_0 28 rfl rfl
theorem dX10_doPlan_29 : decode cX10_doPlan 29 = .ok (.iload_n 1, 1) := zq_0 zo_27 zkX10_doPlan_0 29 rfl rfl
theorem dX10_doPlan_30 : decode cX10_doPlan 30 = .ok (.aload_n 0, 1) := zq_0 zo_42 zkX10_doPlan_0 30 rfl rfl
theorem dX10_doPlan_31 : decode cX10_doPlan 31 = .ok (.invokevirtual 386, 3) := zq_2 zo_182 zkX10_doPlan_0 31 rfl rfl 1 130 rfl rfl _ rfl
theorem zkX10_doPlan_32 : zqc cX10_doPlan 32 [1, 130, 162, 0, 33, 42, 27, 182, 1, 136, 153, 0, 25, 42, 42, 27, 3, 182, 1, 133, 42, 27, 4, 182, 1, 133, 182, 1, 45, 132, 1, 1, 167, 255] := zq_of 34 (by decide +kernel)
theorem dX10_doPlan_34 : decode cX10_doPlan 34 = .ok (.if_icmp .ge 33, 3) := zq_2s zo_162 zkX10_doPlan_32 2 rfl rfl 0 33 rfl rfl _ (by decide +kernel)
theorem dX10_doPlan_37 : decode cX10_doPlan 37 = .ok (.aload_n 0, 1) := zq_0 zo_42 zkX10_doPlan_32 5 rfl rfl
theorem dX10_doPlan_38 : decode cX10_doPlan 38 = .ok (.iload_n 1, 1) := zq_0 zo_27 zkX10_doPlan_32 6 rfl rfl
theorem dX10_doPlan_39 : decode cX10_doPlan 39 = .ok (.invokevirtual 392, 3) := zq_2 zo_182 zkX10_doPlan_32 7 rfl rfl 1 136 rfl rfl _ rfl
theorem dX10_doPlan_42 : decode cX10_doPlan 42 = .ok (.ifCond .eq 25, 3) := zq_2s zo_153 zkX10_doPlan_32 10 rfl rfl 0 25 rfl rfl _ (by decide +kernel)
theorem dX10_doPlan_45 : decode cX10_doPlan 45 = .ok (.aload_n 0, 1) := zq_0 zo_42 zkX10_doPlan_32 13 rfl rfl
theorem dX10_doPlan_46 : decode cX10_doPlan 46 = .ok (.aload_n 0, 1) := zq_0 zo_42 zkX10_doPlan_32 14 rfl rfl
theorem dX10_doPlan_47 : decode cX10_doPlan 47 = .ok (.iload_n 1, 1) := zq_0 zo_27 zkX10_doPlan_32 15 rfl rfl
theorem dX10_doPlan_48 : decode cX10_doPlan 48 = .ok (.iconst 0, 1) := zq_0 zo_3 zkX10_doPlan_32 16 rfl rfl
theorem dX10_doPlan_49 : decode cX10_doPlan 49 = .ok (.invokevirtual 389, 3) := zq_2 zo_182 zkX10_doPlan_32 17 rfl rfl 1 133 rfl rfl _ rfl
theorem dX10_doPlan_52 : decode cX10_doPlan 52 = .ok (.aload_n 0, 1) := zq_0 zo_42 zkX10_doPlan_32 20 rfl rfl
theorem dX10_doPlan_53 : decode cX10_doPlan 53 = .ok (.iload_n 1, 1) := zq_0 zo_27 zkX10_doPlan_32 21 rfl rfl
theorem dX10_doPlan_54 : decode cX10_doPlan 54 = .ok (.iconst 1, 1) := zq_0 zo_4 zkX10_doPlan_32 22 rfl rfl
theorem dX10_doPlan_55 : decode cX10_doPlan 55 = .ok (.invokevirtual 389, 3) := zq_2 zo_182 zkX10_doPlan_32 23 rfl rfl 1 133 rfl rfl _ rfl
theorem dX10_doPlan_58 : decode cX10_doPlan 58 = .ok (.invokevirtual 301, 3) := zq_2 zo_182 zkX10_doPlan_32 26 rfl rfl 1 45 rfl rfl _ rfl
theorem dX10_doPlan_61 : decode cX10_doPlan 61 = .ok (.iinc 1 1, 3) := zq_ii zo_132 zkX10_doPlan_32 29 rfl rfl 1 1 rfl rfl _ (by decide +kernel)
theorem zkX10_doPlan_64 : zqc cX10_doPlan 64 [167, 255, 221, 42, 182, 1, 48, 27, 172] := zq_of 9 (by decide +kernel)
theorem dX10_doPlan_64 : decode cX10_doPlan 64 = .ok (.goto (-35), 3) := zq_2s zo_167 zkX10_doPlan_64 0 rfl rfl 255 221 rfl rfl _ (by decide +kernel)
theorem dX10_doPlan_67 : decode cX10_doPlan 67 = .ok (.aload_n 0, 1) := zq_0 zo_42 zkX10_doPlan_64 3 rfl rfl
theorem dX10_doPlan_68 : decode cX10_doPlan 68 = .ok (.invokevirtual 304, 3) := zq_2 zo_182 zkX10_doPlan_64 4 rfl rfl 1 48 rfl rfl _ rfl
theorem dX10_doPlan_71 : decode cX10_doPlan 71 = .ok (.iload_n 1, 1) := zq_0 zo_27 zkX10_doPlan_64 7 rfl rfl
theorem dX10_doPlan_72 : decode cX10_doPlan 72 = .ok (.ireturn, 1) := zq_0 zo_172 zkX10_doPlan_64 8 rfl rfl
theorem zkX10_played_0 : zqc cX10_played 0 [42, 3, 181, 0, 91, 42, 28, 182, 1, 127, 153, 0, 12, 42, 27, 29, 182, 1, 1, 154, 0, 6, 16, 254, 172, 42, 182, 1, 139, 54, 5, 21, 4, 17] := zq_of 34 (by decide +kernel)
theorem dX10_played_0 : decode cX10_played 0 = .ok (.aload_n 0, 1) := zq_0 zo_42 zkX10_played_0 0 rfl rfl
theorem dX10_played_1 : decode cX10_played 1 = .ok (.iconst 0, 1) := zq_0 zo_3 zkX10_played_0 1 rfl rfl
theorem dX10_played_2 : decode cX10_played 2 = .ok (.putfield 91, 3) := zq_2 zo_181 zkX10_played_0 2 rfl rfl 0 91 rfl rfl _ rfl
theorem dX10_played_5 : decode cX10_played 5 = .ok (.aload_n 0, 1) := zq_0 zo_42 zkX10_played_0 5 rfl rfl
theorem dX10_played_6 : decode cX10_played 6 = .ok (.iload_n 2, 1) := zq_0 zo_28 zkX10_played_0 6 rfl rfl
theorem dX10_played_7 : decode cX10_played 7 = .ok (.invokevirtual 383, 3) := zq_2 zo_182 zkX10_played_0 7 rfl rfl 1 127 rfl rfl _ rfl
theorem dX10_played_10 : decode cX10_played 10 = .ok (.ifCond .eq 12, 3) := zq_2s zo_153 zkX10_played_0 10 rfl rfl 0 12 rfl rfl _ (by decide +kernel)
theorem dX10_played_13 : decode cX10_played 13 = .ok (.aload_n 0, 1) := zq_0 zo_42 zkX10_played_0 13 rfl rfl
theorem dX10_played_14 : decode cX10_played 14 = .ok (.iload_n 1, 1) := zq_0 zo_27 zkX10_played_0 14 rfl rfl
theorem dX10_played_15 : decode cX10_played 15 = .ok (.iload_n 3, 1) := zq_0 zo_29 zkX10_played_0 15 rfl rfl
theorem dX10_played_16 : decode cX10_played 16 = .ok (.invokevirtual 257, 3) := zq_2 zo_182 zkX10_played_0 16 rfl rfl 1 1 rfl rfl _ rfl
theorem dX10_played_19 : decode cX10_played 19 = .ok (.ifCond .ne 6, 3) := zq_2s zo_154 zkX10_played_0 19 rfl rfl 0 6 rfl rfl _ (by decide +kernel)
theorem dX10_played_22 : decode cX10_played 22 = .ok (.bipush (-2), 2) := zq_1s zo_16 zkX10_played_0 22 rfl rfl 254 rfl _ (by decide +kernel)
theorem dX10_played_24 : decode cX10_played 24 = .ok (.ireturn, 1) := zq_0 zo_172 zkX10_played_0 24 rfl rfl
theorem dX10_played_25 : decode cX10_played 25 = .ok (.aload_n 0, 1) := zq_0 zo_42 zkX10_played_0 25 rfl rfl
theorem dX10_played_26 : decode cX10_played 26 = .ok (.invokevirtual 395, 3) := zq_2 zo_182 zkX10_played_0 26 rfl rfl 1 139 rfl rfl _ rfl
theorem dX10_played_29 : decode cX10_played 29 = .ok (.istore 5, 2) := zq_1 zo_54 zkX10_played_0 29 rfl rfl 5 rfl
theorem dX10_played_31 : decode cX10_played 31 = .ok (.iload 4, 2) := zq_1 zo_21 zkX10_played_0 31 rfl rfl 4 rfl
theorem zkX10_played_32 : zqc cX10_played 32 [4, 17, 0, 200, 17, 0, 199, 42, 180, 0, 251, 96, 184, 0, 103, 153, 0, 15, 42, 180, 0, 68, 21, 4, 17, 0, 200, 100, 46, 172, 21, 4, 170, 0] := zq_of 34 (by decide +kernel)
theorem dX10_played_33 : decode cX10_played 33 = .ok (.sipush 200, 3) := zq_2s zo_17 zkX10_played_32 1 rfl rfl 0 200 rfl rfl _ (by decide +kernel)
theorem dX10_played_36 : decode cX10_played 36 = .ok (.sipush 199, 3) := zq_2s zo_17 zkX10_played_32 4 rfl rfl 0 199 rfl rfl _ (by decide +kernel)
theorem dX10_played_39 : decode cX10_played 39 = .ok (.aload_n 0, 1) := zq_0 zo_42 zkX10_played_32 7 rfl rfl
theorem dX10_played_40 : decode cX10_played 40 = .ok (.getfield 251, 3) := zq_2 zo_180 zkX10_played_32 8 rfl rfl 0 251 rfl rfl _ rfl
theorem dX10_played_43 : decode cX10_played 43 = .ok (.iadd, 1) := zq_0 zo_96 zkX10_played_32 11 rfl rfl
theorem dX10_played_44 : decode cX10_played 44 = .ok (.invokestatic 103, 3) := zq_2 zo_184 zkX10_played_32 12 rfl rfl 0 103 rfl rfl _ rfl
theorem dX10_played_47 : decode cX10_played 47 = .ok (.ifCond .eq 15, 3) := zq_2s zo_153 zkX10_played_32 15 rfl rfl 0 15 rfl rfl _ (by decide +kernel)
theorem dX10_played_50 : decode cX10_played 50 = .ok (.aload_n 0, 1) := zq_0 zo_42 zkX10_played_32 18 rfl rfl
theorem dX10_played_51 : decode cX10_played 51 = .ok (.getfield 68, 3) := zq_2 zo_180 zkX10_played_32 19 rfl rfl 0 68 rfl rfl _ rfl
theorem dX10_played_54 : decode cX10_played 54 = .ok (.iload 4, 2) := zq_1 zo_21 zkX10_played_32 22 rfl rfl 4 rfl
theorem dX10_played_56 : decode cX10_played 56 = .ok (.sipush 200, 3) := zq_2s zo_17 zkX10_played_32 24 rfl rfl 0 200 rfl rfl _ (by decide +kernel)
theorem dX10_played_59 : decode cX10_played 59 = .ok (.isub, 1) := zq_0 zo_100 zkX10_played_32 27 rfl rfl
theorem dX10_played_60 : decode cX10_played 60 = .ok (.iaload, 1) := zq_0 zo_46 zkX10_played_32 28 rfl rfl
theorem dX10_played_61 : decode cX10_played 61 = .ok (.ireturn, 1) := zq_0 zo_172 zkX10_played_32 29 rfl rfl
theorem dX10_played_62 : decode cX10_played 62 = .ok (.iload 4, 2) := zq_1 zo_21 zkX10_played_32 30 rfl rfl 4 rfl
theorem dX10_played_64 : decode cX10_played 64 = .ok (.tableswitch 59 0 4 #[36, 39, 44, 49, 54], 36) := by decide +kernel
theorem zkX10_played_96 : zqc cX10_played 96 [0, 0, 0, 54, 21, 5, 172, 42, 182, 1, 61, 172, 42, 180, 1, 20, 172, 42, 180, 1, 32, 172, 42, 180, 1, 29, 172, 16, 254, 172] := zq_of 30 (by decide +kernel)
theorem dX10_played_100 : decode cX10_played 100 = .ok (.iload 5, 2) := zq_1 zo_21 zkX10_played_96 4 rfl rfl 5 rfl
theorem dX10_played_102 : decode cX10_played 102 = .ok (.ireturn, 1) := zq_0 zo_172 zkX10_played_96 6 rfl rfl
theorem dX10_played_103 : decode cX10_played 103 = .ok (.aload_n 0, 1) := zq_0 zo_42 zkX10_played_96 7 rfl rfl
theorem dX10_played_104 : decode cX10_played 104 = .ok (.invokevirtual 317, 3) := zq_2 zo_182 zkX10_played_96 8 rfl rfl 1 61 rfl rfl _ rfl
theorem dX10_played_107 : decode cX10_played 107 = .ok (.ireturn, 1) := zq_0 zo_172 zkX10_played_96 11 rfl rfl
theorem dX10_played_108 : decode cX10_played 108 = .ok (.aload_n 0, 1) := zq_0 zo_42 zkX10_played_96 12 rfl rfl
theorem dX10_played_109 : decode cX10_played 109 = .ok (.getfield 276, 3) := zq_2 zo_180 zkX10_played_96 13 rfl rfl 1 20 rfl rfl _ rfl
theorem dX10_played_112 : decode cX10_played 112 = .ok (.ireturn, 1) := zq_0 zo_172 zkX10_played_96 16 rfl rfl
theorem dX10_played_113 : decode cX10_played 113 = .ok (.aload_n 0, 1) := zq_0 zo_42 zkX10_played_96 17 rfl rfl
theorem dX10_played_114 : decode cX10_played 114 = .ok (.getfield 288, 3) := zq_2 zo_180 zkX10_played_96 18 rfl rfl 1 32 rfl rfl _ rfl
theorem dX10_played_117 : decode cX10_played 117 = .ok (.ireturn, 1) := zq_0 zo_172 zkX10_played_96 21 rfl rfl
theorem dX10_played_118 : decode cX10_played 118 = .ok (.aload_n 0, 1) := zq_0 zo_42 zkX10_played_96 22 rfl rfl
theorem dX10_played_119 : decode cX10_played 119 = .ok (.getfield 285, 3) := zq_2 zo_180 zkX10_played_96 23 rfl rfl 1 29 rfl rfl _ rfl
theorem dX10_played_122 : decode cX10_played 122 = .ok (.ireturn, 1) := zq_0 zo_172 zkX10_played_96 26 rfl rfl
theorem dX10_played_123 : decode cX10_played 123 = .ok (.bipush (-2), 2) := zq_1s zo_16 zkX10_played_96 27 rfl rfl 254 rfl _ (by decide +kernel)
theorem dX10_played_125 : decode cX10_played 125 = .ok (.ireturn, 1) := zq_0 zo_172 zkX10_played_96 29 rfl rfl
theorem zkX10_print_0 : zqc cX10_print 0 [42, 3, 181, 0, 91, 29, 3, 16, 100, 184, 0, 103, 153, 0, 30, 42, 27, 3, 182, 1, 1, 153, 0, 21, 42, 28, 182, 1, 4, 153, 0, 13, 42, 28] := zq_of 34 (by decide +kernel)
theorem dX10_print_0 : decode cX10_print 0 = .ok (.aload_n 0, 1) := zq_0 zo_42 zkX10_print_0 0 rfl rfl
theorem dX10_print_1 : decode cX10_print 1 = .ok (.iconst 0, 1) := zq_0 zo_3 zkX10_print_0 1 rfl rfl
theorem dX10_print_2 : decode cX10_print 2 = .ok (.putfield 91, 3) := zq_2 zo_181 zkX10_print_0 2 rfl rfl 0 91 rfl rfl _ rfl
theorem dX10_print_5 : decode cX10_print 5 = .ok (.iload_n 3, 1) := zq_0 zo_29 zkX10_print_0 5 rfl rfl
theorem dX10_print_6 : decode cX10_print 6 = .ok (.iconst 0, 1) := zq_0 zo_3 zkX10_print_0 6 rfl rfl
theorem dX10_print_7 : decode cX10_print 7 = .ok (.bipush 100, 2) := zq_1s zo_16 zkX10_print_0 7 rfl rfl 100 rfl _ (by decide +kernel)
theorem dX10_print_9 : decode cX10_print 9 = .ok (.invokestatic 103, 3) := zq_2 zo_184 zkX10_print_0 9 rfl rfl 0 103 rfl rfl _ rfl
theorem dX10_print_12 : decode cX10_print 12 = .ok (.ifCond .eq 30, 3) := zq_2s zo_153 zkX10_print_0 12 rfl rfl 0 30 rfl rfl _ (by decide +kernel)
theorem dX10_print_15 : decode cX10_print 15 = .ok (.aload_n 0, 1) := zq_0 zo_42 zkX10_print_0 15 rfl rfl
theorem dX10_print_16 : decode cX10_print 16 = .ok (.iload_n 1, 1) := zq_0 zo_27 zkX10_print_0 16 rfl rfl
theorem dX10_print_17 : decode cX10_print 17 = .ok (.iconst 0, 1) := zq_0 zo_3 zkX10_print_0 17 rfl rfl
theorem dX10_print_18 : decode cX10_print 18 = .ok (.invokevirtual 257, 3) := zq_2 zo_182 zkX10_print_0 18 rfl rfl 1 1 rfl rfl _ rfl
theorem dX10_print_21 : decode cX10_print 21 = .ok (.ifCond .eq 21, 3) := zq_2s zo_153 zkX10_print_0 21 rfl rfl 0 21 rfl rfl _ (by decide +kernel)
theorem dX10_print_24 : decode cX10_print 24 = .ok (.aload_n 0, 1) := zq_0 zo_42 zkX10_print_0 24 rfl rfl
theorem dX10_print_25 : decode cX10_print 25 = .ok (.iload_n 2, 1) := zq_0 zo_28 zkX10_print_0 25 rfl rfl
theorem dX10_print_26 : decode cX10_print 26 = .ok (.invokevirtual 260, 3) := zq_2 zo_182 zkX10_print_0 26 rfl rfl 1 4 rfl rfl _ rfl
theorem dX10_print_29 : decode cX10_print 29 = .ok (.ifCond .eq 13, 3) := zq_2s zo_153 zkX10_print_0 29 rfl rfl 0 13 rfl rfl _ (by decide +kernel)
theorem zkX10_print_32 : zqc cX10_print 32 [42, 28, 7, 182, 0, 242, 2, 160, 0, 5, 2, 172, 42, 28, 182, 1, 104, 42, 29, 182, 1, 109, 54, 4, 3, 54, 5, 21, 5, 28, 162, 0, 21, 21] := zq_of 34 (by decide +kernel)
theorem dX10_print_32 : decode cX10_print 32 = .ok (.aload_n 0, 1) := zq_0 zo_42 zkX10_print_32 0 rfl rfl
theorem dX10_print_33 : decode cX10_print 33 = .ok (.iload_n 2, 1) := zq_0 zo_28 zkX10_print_32 1 rfl rfl
theorem dX10_print_34 : decode cX10_print 34 = .ok (.iconst 4, 1) := zq_0 zo_7 zkX10_print_32 2 rfl rfl
theorem dX10_print_35 : decode cX10_print 35 = .ok (.invokevirtual 242, 3) := zq_2 zo_182 zkX10_print_32 3 rfl rfl 0 242 rfl rfl _ rfl
theorem dX10_print_38 : decode cX10_print 38 = .ok (.iconst (-1), 1) := zq_0 zo_2 zkX10_print_32 6 rfl rfl
theorem dX10_print_39 : decode cX10_print 39 = .ok (.if_icmp .ne 5, 3) := zq_2s zo_160 zkX10_print_32 7 rfl rfl 0 5 rfl rfl _ (by decide +kernel)
theorem dX10_print_42 : decode cX10_print 42 = .ok (.iconst (-1), 1) := zq_0 zo_2 zkX10_print_32 10 rfl rfl
theorem dX10_print_43 : decode cX10_print 43 = .ok (.ireturn, 1) := zq_0 zo_172 zkX10_print_32 11 rfl rfl
theorem dX10_print_44 : decode cX10_print 44 = .ok (.aload_n 0, 1) := zq_0 zo_42 zkX10_print_32 12 rfl rfl
theorem dX10_print_45 : decode cX10_print 45 = .ok (.iload_n 2, 1) := zq_0 zo_28 zkX10_print_32 13 rfl rfl
theorem dX10_print_46 : decode cX10_print 46 = .ok (.invokevirtual 360, 3) := zq_2 zo_182 zkX10_print_32 14 rfl rfl 1 104 rfl rfl _ rfl
theorem dX10_print_49 : decode cX10_print 49 = .ok (.aload_n 0, 1) := zq_0 zo_42 zkX10_print_32 17 rfl rfl
theorem dX10_print_50 : decode cX10_print 50 = .ok (.iload_n 3, 1) := zq_0 zo_29 zkX10_print_32 18 rfl rfl
theorem dX10_print_51 : decode cX10_print 51 = .ok (.invokevirtual 365, 3) := zq_2 zo_182 zkX10_print_32 19 rfl rfl 1 109 rfl rfl _ rfl
theorem dX10_print_54 : decode cX10_print 54 = .ok (.istore 4, 2) := zq_1 zo_54 zkX10_print_32 22 rfl rfl 4 rfl
theorem dX10_print_56 : decode cX10_print 56 = .ok (.iconst 0, 1) := zq_0 zo_3 zkX10_print_32 24 rfl rfl
theorem dX10_print_57 : decode cX10_print 57 = .ok (.istore 5, 2) := zq_1 zo_54 zkX10_print_32 25 rfl rfl 5 rfl
theorem dX10_print_59 : decode cX10_print 59 = .ok (.iload 5, 2) := zq_1 zo_21 zkX10_print_32 27 rfl rfl 5 rfl
theorem dX10_print_61 : decode cX10_print 61 = .ok (.iload_n 2, 1) := zq_0 zo_28 zkX10_print_32 29 rfl rfl
theorem dX10_print_62 : decode cX10_print 62 = .ok (.if_icmp .ge 21, 3) := zq_2s zo_162 zkX10_print_32 30 rfl rfl 0 21 rfl rfl _ (by decide +kernel)
theorem zkX10_print_64 : zqc cX10_print 64 [21, 21, 4, 42, 180, 0, 47, 21, 5, 46, 96, 54, 4, 132, 5, 1, 167, 255, 235, 21, 4, 172] := zq_of 22 (by decide +kernel)
theorem dX10_print_65 : decode cX10_print 65 = .ok (.iload 4, 2) := zq_1 zo_21 zkX10_print_64 1 rfl rfl 4 rfl
theorem dX10_print_67 : decode cX10_print 67 = .ok (.aload_n 0, 1) := zq_0 zo_42 zkX10_print_64 3 rfl rfl
theorem dX10_print_68 : decode cX10_print 68 = .ok (.getfield 47, 3) := zq_2 zo_180 zkX10_print_64 4 rfl rfl 0 47 rfl rfl _ rfl
theorem dX10_print_71 : decode cX10_print 71 = .ok (.iload 5, 2) := zq_1 zo_21 zkX10_print_64 7 rfl rfl 5 rfl
theorem dX10_print_73 : decode cX10_print 73 = .ok (.iaload, 1) := zq_0 zo_46 zkX10_print_64 9 rfl rfl
theorem dX10_print_74 : decode cX10_print 74 = .ok (.iadd, 1) := zq_0 zo_96 zkX10_print_64 10 rfl rfl
theorem dX10_print_75 : decode cX10_print 75 = .ok (.istore 4, 2) := zq_1 zo_54 zkX10_print_64 11 rfl rfl 4 rfl
theorem dX10_print_77 : decode cX10_print 77 = .ok (.iinc 5 1, 3) := zq_ii zo_132 zkX10_print_64 13 rfl rfl 5 1 rfl rfl _ (by decide +kernel)
theorem dX10_print_80 : decode cX10_print 80 = .ok (.goto (-21), 3) := zq_2s zo_167 zkX10_print_64 16 rfl rfl 255 235 rfl rfl _ (by decide +kernel)
theorem dX10_print_83 : decode cX10_print 83 = .ok (.iload 4, 2) := zq_1 zo_21 zkX10_print_64 19 rfl rfl 4 rfl
theorem dX10_print_85 : decode cX10_print 85 = .ok (.ireturn, 1) := zq_0 zo_172 zkX10_print_64 21 rfl rfl
theorem zkX10_most_0 : zqc cX10_most 0 [42, 3, 181, 0, 91, 42, 27, 29, 182, 1, 1, 154, 0, 5, 2, 172, 2, 54, 5, 3, 54, 6, 3, 54, 7, 21, 7, 7, 162, 0, 77, 42, 21, 7] := zq_of 34 (by decide +kernel)
theorem dX10_most_0 : decode cX10_most 0 = .ok (.aload_n 0, 1) := zq_0 zo_42 zkX10_most_0 0 rfl rfl
theorem dX10_most_1 : decode cX10_most 1 = .ok (.iconst 0, 1) := zq_0 zo_3 zkX10_most_0 1 rfl rfl
theorem dX10_most_2 : decode cX10_most 2 = .ok (.putfield 91, 3) := zq_2 zo_181 zkX10_most_0 2 rfl rfl 0 91 rfl rfl _ rfl
theorem dX10_most_5 : decode cX10_most 5 = .ok (.aload_n 0, 1) := zq_0 zo_42 zkX10_most_0 5 rfl rfl
theorem dX10_most_6 : decode cX10_most 6 = .ok (.iload_n 1, 1) := zq_0 zo_27 zkX10_most_0 6 rfl rfl
theorem dX10_most_7 : decode cX10_most 7 = .ok (.iload_n 3, 1) := zq_0 zo_29 zkX10_most_0 7 rfl rfl
theorem dX10_most_8 : decode cX10_most 8 = .ok (.invokevirtual 257, 3) := zq_2 zo_182 zkX10_most_0 8 rfl rfl 1 1 rfl rfl _ rfl
theorem dX10_most_11 : decode cX10_most 11 = .ok (.ifCond .ne 5, 3) := zq_2s zo_154 zkX10_most_0 11 rfl rfl 0 5 rfl rfl _ (by decide +kernel)
theorem dX10_most_14 : decode cX10_most 14 = .ok (.iconst (-1), 1) := zq_0 zo_2 zkX10_most_0 14 rfl rfl
theorem dX10_most_15 : decode cX10_most 15 = .ok (.ireturn, 1) := zq_0 zo_172 zkX10_most_0 15 rfl rfl
theorem dX10_most_16 : decode cX10_most 16 = .ok (.iconst (-1), 1) := zq_0 zo_2 zkX10_most_0 16 rfl rfl
theorem dX10_most_17 : decode cX10_most 17 = .ok (.istore 5, 2) := zq_1 zo_54 zkX10_most_0 17 rfl rfl 5 rfl
theorem dX10_most_19 : decode cX10_most 19 = .ok (.iconst 0, 1) := zq_0 zo_3 zkX10_most_0 19 rfl rfl
theorem dX10_most_20 : decode cX10_most 20 = .ok (.istore 6, 2) := zq_1 zo_54 zkX10_most_0 20 rfl rfl 6 rfl
theorem dX10_most_22 : decode cX10_most 22 = .ok (.iconst 0, 1) := zq_0 zo_3 zkX10_most_0 22 rfl rfl
theorem dX10_most_23 : decode cX10_most 23 = .ok (.istore 7, 2) := zq_1 zo_54 zkX10_most_0 23 rfl rfl 7 rfl
theorem dX10_most_25 : decode cX10_most 25 = .ok (.iload 7, 2) := zq_1 zo_21 zkX10_most_0 25 rfl rfl 7 rfl
theorem dX10_most_27 : decode cX10_most 27 = .ok (.iconst 4, 1) := zq_0 zo_7 zkX10_most_0 27 rfl rfl
theorem dX10_most_28 : decode cX10_most 28 = .ok (.if_icmp .ge 77, 3) := zq_2s zo_162 zkX10_most_0 28 rfl rfl 0 77 rfl rfl _ (by decide +kernel)
theorem dX10_most_31 : decode cX10_most 31 = .ok (.aload_n 0, 1) := zq_0 zo_42 zkX10_most_0 31 rfl rfl
theorem zkX10_most_32 : zqc cX10_most 32 [21, 7, 28, 42, 182, 1, 51, 182, 1, 54, 21, 4, 153, 0, 11, 42, 180, 1, 20, 116, 167, 0, 7, 42, 182, 1, 61, 54, 8, 21, 5, 2, 159, 0] := zq_of 34 (by decide +kernel)
theorem dX10_most_32 : decode cX10_most 32 = .ok (.iload 7, 2) := zq_1 zo_21 zkX10_most_32 0 rfl rfl 7 rfl
theorem dX10_most_34 : decode cX10_most 34 = .ok (.iload_n 2, 1) := zq_0 zo_28 zkX10_most_32 2 rfl rfl
theorem dX10_most_35 : decode cX10_most 35 = .ok (.aload_n 0, 1) := zq_0 zo_42 zkX10_most_32 3 rfl rfl
theorem dX10_most_36 : decode cX10_most 36 = .ok (.invokevirtual 307, 3) := zq_2 zo_182 zkX10_most_32 4 rfl rfl 1 51 rfl rfl _ rfl
theorem dX10_most_39 : decode cX10_most 39 = .ok (.invokevirtual 310, 3) := zq_2 zo_182 zkX10_most_32 7 rfl rfl 1 54 rfl rfl _ rfl
theorem dX10_most_42 : decode cX10_most 42 = .ok (.iload 4, 2) := zq_1 zo_21 zkX10_most_32 10 rfl rfl 4 rfl
theorem dX10_most_44 : decode cX10_most 44 = .ok (.ifCond .eq 11, 3) := zq_2s zo_153 zkX10_most_32 12 rfl rfl 0 11 rfl rfl _ (by decide +kernel)
theorem dX10_most_47 : decode cX10_most 47 = .ok (.aload_n 0, 1) := zq_0 zo_42 zkX10_most_32 15 rfl rfl
theorem dX10_most_48 : decode cX10_most 48 = .ok (.getfield 276, 3) := zq_2 zo_180 zkX10_most_32 16 rfl rfl 1 20 rfl rfl _ rfl
theorem dX10_most_51 : decode cX10_most 51 = .ok (.ineg, 1) := zq_0 zo_116 zkX10_most_32 19 rfl rfl
theorem dX10_most_52 : decode cX10_most 52 = .ok (.goto 7, 3) := zq_2s zo_167 zkX10_most_32 20 rfl rfl 0 7 rfl rfl _ (by decide +kernel)
theorem dX10_most_55 : decode cX10_most 55 = .ok (.aload_n 0, 1) := zq_0 zo_42 zkX10_most_32 23 rfl rfl
theorem dX10_most_56 : decode cX10_most 56 = .ok (.invokevirtual 317, 3) := zq_2 zo_182 zkX10_most_32 24 rfl rfl 1 61 rfl rfl _ rfl
theorem dX10_most_59 : decode cX10_most 59 = .ok (.istore 8, 2) := zq_1 zo_54 zkX10_most_32 27 rfl rfl 8 rfl
theorem dX10_most_61 : decode cX10_most 61 = .ok (.iload 5, 2) := zq_1 zo_21 zkX10_most_32 29 rfl rfl 5 rfl
theorem dX10_most_63 : decode cX10_most 63 = .ok (.iconst (-1), 1) := zq_0 zo_2 zkX10_most_32 31 rfl rfl
theorem zkX10_most_64 : zqc cX10_most 64 [159, 0, 10, 21, 8, 21, 6, 164, 0, 8, 21, 7, 167, 0, 5, 21, 5, 54, 5, 21, 5, 21, 7, 160, 0, 8, 21, 8, 167, 0, 5, 21, 6, 54] := zq_of 34 (by decide +kernel)
theorem dX10_most_64 : decode cX10_most 64 = .ok (.if_icmp .eq 10, 3) := zq_2s zo_159 zkX10_most_64 0 rfl rfl 0 10 rfl rfl _ (by decide +kernel)
theorem dX10_most_67 : decode cX10_most 67 = .ok (.iload 8, 2) := zq_1 zo_21 zkX10_most_64 3 rfl rfl 8 rfl
theorem dX10_most_69 : decode cX10_most 69 = .ok (.iload 6, 2) := zq_1 zo_21 zkX10_most_64 5 rfl rfl 6 rfl
theorem dX10_most_71 : decode cX10_most 71 = .ok (.if_icmp .le 8, 3) := zq_2s zo_164 zkX10_most_64 7 rfl rfl 0 8 rfl rfl _ (by decide +kernel)
theorem dX10_most_74 : decode cX10_most 74 = .ok (.iload 7, 2) := zq_1 zo_21 zkX10_most_64 10 rfl rfl 7 rfl
theorem dX10_most_76 : decode cX10_most 76 = .ok (.goto 5, 3) := zq_2s zo_167 zkX10_most_64 12 rfl rfl 0 5 rfl rfl _ (by decide +kernel)
theorem dX10_most_79 : decode cX10_most 79 = .ok (.iload 5, 2) := zq_1 zo_21 zkX10_most_64 15 rfl rfl 5 rfl
theorem dX10_most_81 : decode cX10_most 81 = .ok (.istore 5, 2) := zq_1 zo_54 zkX10_most_64 17 rfl rfl 5 rfl
theorem dX10_most_83 : decode cX10_most 83 = .ok (.iload 5, 2) := zq_1 zo_21 zkX10_most_64 19 rfl rfl 5 rfl
theorem dX10_most_85 : decode cX10_most 85 = .ok (.iload 7, 2) := zq_1 zo_21 zkX10_most_64 21 rfl rfl 7 rfl
theorem dX10_most_87 : decode cX10_most 87 = .ok (.if_icmp .ne 8, 3) := zq_2s zo_160 zkX10_most_64 23 rfl rfl 0 8 rfl rfl _ (by decide +kernel)
theorem dX10_most_90 : decode cX10_most 90 = .ok (.iload 8, 2) := zq_1 zo_21 zkX10_most_64 26 rfl rfl 8 rfl
theorem dX10_most_92 : decode cX10_most 92 = .ok (.goto 5, 3) := zq_2s zo_167 zkX10_most_64 28 rfl rfl 0 5 rfl rfl _ (by decide +kernel)
theorem dX10_most_95 : decode cX10_most 95 = .ok (.iload 6, 2) := zq_1 zo_21 zkX10_most_64 31 rfl rfl 6 rfl
theorem zkX10_most_96 : zqc cX10_most 96 [6, 54, 6, 132, 7, 1, 167, 255, 179, 21, 5, 172] := zq_of 12 (by decide +kernel)
theorem dX10_most_97 : decode cX10_most 97 = .ok (.istore 6, 2) := zq_1 zo_54 zkX10_most_96 1 rfl rfl 6 rfl
theorem dX10_most_99 : decode cX10_most 99 = .ok (.iinc 7 1, 3) := zq_ii zo_132 zkX10_most_96 3 rfl rfl 7 1 rfl rfl _ (by decide +kernel)
theorem dX10_most_102 : decode cX10_most 102 = .ok (.goto (-77), 3) := zq_2s zo_167 zkX10_most_96 6 rfl rfl 255 179 rfl rfl _ (by decide +kernel)
theorem dX10_most_105 : decode cX10_most 105 = .ok (.iload 5, 2) := zq_1 zo_21 zkX10_most_96 9 rfl rfl 5 rfl
theorem dX10_most_107 : decode cX10_most 107 = .ok (.ireturn, 1) := zq_0 zo_172 zkX10_most_96 11 rfl rfl
theorem zkX10_weeks_0 : zqc cX10_weeks 0 [42, 3, 181, 0, 91, 28, 3, 6, 184, 0, 103, 153, 0, 12, 42, 3, 27, 182, 0, 225, 154, 0, 5, 2, 172, 3, 54, 5, 2, 54, 6, 3, 54, 7] := zq_of 34 (by decide +kernel)
theorem dX10_weeks_0 : decode cX10_weeks 0 = .ok (.aload_n 0, 1) := zq_0 zo_42 zkX10_weeks_0 0 rfl rfl
theorem dX10_weeks_1 : decode cX10_weeks 1 = .ok (.iconst 0, 1) := zq_0 zo_3 zkX10_weeks_0 1 rfl rfl
theorem dX10_weeks_2 : decode cX10_weeks 2 = .ok (.putfield 91, 3) := zq_2 zo_181 zkX10_weeks_0 2 rfl rfl 0 91 rfl rfl _ rfl
theorem dX10_weeks_5 : decode cX10_weeks 5 = .ok (.iload_n 2, 1) := zq_0 zo_28 zkX10_weeks_0 5 rfl rfl
theorem dX10_weeks_6 : decode cX10_weeks 6 = .ok (.iconst 0, 1) := zq_0 zo_3 zkX10_weeks_0 6 rfl rfl
theorem dX10_weeks_7 : decode cX10_weeks 7 = .ok (.iconst 3, 1) := zq_0 zo_6 zkX10_weeks_0 7 rfl rfl
theorem dX10_weeks_8 : decode cX10_weeks 8 = .ok (.invokestatic 103, 3) := zq_2 zo_184 zkX10_weeks_0 8 rfl rfl 0 103 rfl rfl _ rfl
theorem dX10_weeks_11 : decode cX10_weeks 11 = .ok (.ifCond .eq 12, 3) := zq_2s zo_153 zkX10_weeks_0 11 rfl rfl 0 12 rfl rfl _ (by decide +kernel)
theorem dX10_weeks_14 : decode cX10_weeks 14 = .ok (.aload_n 0, 1) := zq_0 zo_42 zkX10_weeks_0 14 rfl rfl
theorem dX10_weeks_15 : decode cX10_weeks 15 = .ok (.iconst 0, 1) := zq_0 zo_3 zkX10_weeks_0 15 rfl rfl
theorem dX10_weeks_16 : decode cX10_weeks 16 = .ok (.iload_n 1, 1) := zq_0 zo_27 zkX10_weeks_0 16 rfl rfl
theorem dX10_weeks_17 : decode cX10_weeks 17 = .ok (.invokevirtual 225, 3) := zq_2 zo_182 zkX10_weeks_0 17 rfl rfl 0 225 rfl rfl _ rfl
theorem dX10_weeks_20 : decode cX10_weeks 20 = .ok (.ifCond .ne 5, 3) := zq_2s zo_154 zkX10_weeks_0 20 rfl rfl 0 5 rfl rfl _ (by decide +kernel)
theorem dX10_weeks_23 : decode cX10_weeks 23 = .ok (.iconst (-1), 1) := zq_0 zo_2 zkX10_weeks_0 23 rfl rfl
theorem dX10_weeks_24 : decode cX10_weeks 24 = .ok (.ireturn, 1) := zq_0 zo_172 zkX10_weeks_0 24 rfl rfl
theorem dX10_weeks_25 : decode cX10_weeks 25 = .ok (.iconst 0, 1) := zq_0 zo_3 zkX10_weeks_0 25 rfl rfl
theorem dX10_weeks_26 : decode cX10_weeks 26 = .ok (.istore 5, 2) := zq_1 zo_54 zkX10_weeks_0 26 rfl rfl 5 rfl
theorem dX10_weeks_28 : decode cX10_weeks 28 = .ok (.iconst (-1), 1) := zq_0 zo_2 zkX10_weeks_0 28 rfl rfl
theorem dX10_weeks_29 : decode cX10_weeks 29 = .ok (.istore 6, 2) := zq_1 zo_54 zkX10_weeks_0 29 rfl rfl 6 rfl
theorem dX10_weeks_31 : decode cX10_weeks 31 = .ok (.iconst 0, 1) := zq_0 zo_3 zkX10_weeks_0 31 rfl rfl
theorem zkX10_weeks_32 : zqc cX10_weeks 32 [54, 7, 3, 54, 8, 21, 8, 16, 10, 162, 0, 58, 42, 27, 28, 29, 21, 8, 182, 1, 57, 54, 9, 42, 182, 1, 61, 54, 10, 21, 7, 21, 10, 96] := zq_of 34 (by decide +kernel)
theorem dX10_weeks_32 : decode cX10_weeks 32 = .ok (.istore 7, 2) := zq_1 zo_54 zkX10_weeks_32 0 rfl rfl 7 rfl
theorem dX10_weeks_34 : decode cX10_weeks 34 = .ok (.iconst 0, 1) := zq_0 zo_3 zkX10_weeks_32 2 rfl rfl
theorem dX10_weeks_35 : decode cX10_weeks 35 = .ok (.istore 8, 2) := zq_1 zo_54 zkX10_weeks_32 3 rfl rfl 8 rfl
theorem dX10_weeks_37 : decode cX10_weeks 37 = .ok (.iload 8, 2) := zq_1 zo_21 zkX10_weeks_32 5 rfl rfl 8 rfl
theorem dX10_weeks_39 : decode cX10_weeks 39 = .ok (.bipush 10, 2) := zq_1s zo_16 zkX10_weeks_32 7 rfl rfl 10 rfl _ (by decide +kernel)
theorem dX10_weeks_41 : decode cX10_weeks 41 = .ok (.if_icmp .ge 58, 3) := zq_2s zo_162 zkX10_weeks_32 9 rfl rfl 0 58 rfl rfl _ (by decide +kernel)
theorem dX10_weeks_44 : decode cX10_weeks 44 = .ok (.aload_n 0, 1) := zq_0 zo_42 zkX10_weeks_32 12 rfl rfl
theorem dX10_weeks_45 : decode cX10_weeks 45 = .ok (.iload_n 1, 1) := zq_0 zo_27 zkX10_weeks_32 13 rfl rfl
theorem dX10_weeks_46 : decode cX10_weeks 46 = .ok (.iload_n 2, 1) := zq_0 zo_28 zkX10_weeks_32 14 rfl rfl
theorem dX10_weeks_47 : decode cX10_weeks 47 = .ok (.iload_n 3, 1) := zq_0 zo_29 zkX10_weeks_32 15 rfl rfl
theorem dX10_weeks_48 : decode cX10_weeks 48 = .ok (.iload 8, 2) := zq_1 zo_21 zkX10_weeks_32 16 rfl rfl 8 rfl
theorem dX10_weeks_50 : decode cX10_weeks 50 = .ok (.invokevirtual 313, 3) := zq_2 zo_182 zkX10_weeks_32 18 rfl rfl 1 57 rfl rfl _ rfl
theorem dX10_weeks_53 : decode cX10_weeks 53 = .ok (.istore 9, 2) := zq_1 zo_54 zkX10_weeks_32 21 rfl rfl 9 rfl
theorem dX10_weeks_55 : decode cX10_weeks 55 = .ok (.aload_n 0, 1) := zq_0 zo_42 zkX10_weeks_32 23 rfl rfl
theorem dX10_weeks_56 : decode cX10_weeks 56 = .ok (.invokevirtual 317, 3) := zq_2 zo_182 zkX10_weeks_32 24 rfl rfl 1 61 rfl rfl _ rfl
theorem dX10_weeks_59 : decode cX10_weeks 59 = .ok (.istore 10, 2) := zq_1 zo_54 zkX10_weeks_32 27 rfl rfl 10 rfl
theorem dX10_weeks_61 : decode cX10_weeks 61 = .ok (.iload 7, 2) := zq_1 zo_21 zkX10_weeks_32 29 rfl rfl 7 rfl
theorem dX10_weeks_63 : decode cX10_weeks 63 = .ok (.iload 10, 2) := zq_1 zo_21 zkX10_weeks_32 31 rfl rfl 10 rfl
theorem zkX10_weeks_64 : zqc cX10_weeks 64 [10, 96, 54, 7, 21, 10, 21, 6, 164, 0, 8, 21, 8, 167, 0, 5, 21, 5, 54, 5, 21, 6, 21, 10, 184, 0, 160, 54, 6, 132, 8, 1, 167, 255] := zq_of 34 (by decide +kernel)
theorem dX10_weeks_65 : decode cX10_weeks 65 = .ok (.iadd, 1) := zq_0 zo_96 zkX10_weeks_64 1 rfl rfl
theorem dX10_weeks_66 : decode cX10_weeks 66 = .ok (.istore 7, 2) := zq_1 zo_54 zkX10_weeks_64 2 rfl rfl 7 rfl
theorem dX10_weeks_68 : decode cX10_weeks 68 = .ok (.iload 10, 2) := zq_1 zo_21 zkX10_weeks_64 4 rfl rfl 10 rfl
theorem dX10_weeks_70 : decode cX10_weeks 70 = .ok (.iload 6, 2) := zq_1 zo_21 zkX10_weeks_64 6 rfl rfl 6 rfl
theorem dX10_weeks_72 : decode cX10_weeks 72 = .ok (.if_icmp .le 8, 3) := zq_2s zo_164 zkX10_weeks_64 8 rfl rfl 0 8 rfl rfl _ (by decide +kernel)
theorem dX10_weeks_75 : decode cX10_weeks 75 = .ok (.iload 8, 2) := zq_1 zo_21 zkX10_weeks_64 11 rfl rfl 8 rfl
theorem dX10_weeks_77 : decode cX10_weeks 77 = .ok (.goto 5, 3) := zq_2s zo_167 zkX10_weeks_64 13 rfl rfl 0 5 rfl rfl _ (by decide +kernel)
theorem dX10_weeks_80 : decode cX10_weeks 80 = .ok (.iload 5, 2) := zq_1 zo_21 zkX10_weeks_64 16 rfl rfl 5 rfl
theorem dX10_weeks_82 : decode cX10_weeks 82 = .ok (.istore 5, 2) := zq_1 zo_54 zkX10_weeks_64 18 rfl rfl 5 rfl
theorem dX10_weeks_84 : decode cX10_weeks 84 = .ok (.iload 6, 2) := zq_1 zo_21 zkX10_weeks_64 20 rfl rfl 6 rfl
theorem dX10_weeks_86 : decode cX10_weeks 86 = .ok (.iload 10, 2) := zq_1 zo_21 zkX10_weeks_64 22 rfl rfl 10 rfl
theorem dX10_weeks_88 : decode cX10_weeks 88 = .ok (.invokestatic 160, 3) := zq_2 zo_184 zkX10_weeks_64 24 rfl rfl 0 160 rfl rfl _ rfl
theorem dX10_weeks_91 : decode cX10_weeks 91 = .ok (.istore 6, 2) := zq_1 zo_54 zkX10_weeks_64 27 rfl rfl 6 rfl
theorem dX10_weeks_93 : decode cX10_weeks 93 = .ok (.iinc 8 1, 3) := zq_ii zo_132 zkX10_weeks_64 29 rfl rfl 8 1 rfl rfl _ (by decide +kernel)
theorem zkX10_weeks_96 : zqc cX10_weeks 96 [167, 255, 197, 21, 4, 153, 0, 8, 21, 7, 167, 0, 5, 21, 5, 172] := zq_of 16 (by decide +kernel)
theorem dX10_weeks_96 : decode cX10_weeks 96 = .ok (.goto (-59), 3) := zq_2s zo_167 zkX10_weeks_96 0 rfl rfl 255 197 rfl rfl _ (by decide +kernel)
theorem dX10_weeks_99 : decode cX10_weeks 99 = .ok (.iload 4, 2) := zq_1 zo_21 zkX10_weeks_96 3 rfl rfl 4 rfl
theorem dX10_weeks_101 : decode cX10_weeks 101 = .ok (.ifCond .eq 8, 3) := zq_2s zo_153 zkX10_weeks_96 5 rfl rfl 0 8 rfl rfl _ (by decide +kernel)
theorem dX10_weeks_104 : decode cX10_weeks 104 = .ok (.iload 7, 2) := zq_1 zo_21 zkX10_weeks_96 8 rfl rfl 7 rfl
theorem dX10_weeks_106 : decode cX10_weeks 106 = .ok (.goto 5, 3) := zq_2s zo_167 zkX10_weeks_96 10 rfl rfl 0 5 rfl rfl _ (by decide +kernel)
theorem dX10_weeks_109 : decode cX10_weeks 109 = .ok (.iload 5, 2) := zq_1 zo_21 zkX10_weeks_96 13 rfl rfl 5 rfl
theorem dX10_weeks_111 : decode cX10_weeks 111 = .ok (.ireturn, 1) := zq_0 zo_172 zkX10_weeks_96 15 rfl rfl
theorem zkX10_isCalm_0 : zqc cX10_isCalm 0 [42, 3, 3, 27, 182, 1, 54, 28, 2, 160, 0, 19, 42, 180, 1, 35, 2, 160, 0, 7, 4, 167, 0, 20, 3, 167, 0, 16, 42, 180, 1, 20, 28, 163] := zq_of 34 (by decide +kernel)
theorem dX10_isCalm_0 : decode cX10_isCalm 0 = .ok (.aload_n 0, 1) := zq_0 zo_42 zkX10_isCalm_0 0 rfl rfl
theorem dX10_isCalm_1 : decode cX10_isCalm 1 = .ok (.iconst 0, 1) := zq_0 zo_3 zkX10_isCalm_0 1 rfl rfl
theorem dX10_isCalm_2 : decode cX10_isCalm 2 = .ok (.iconst 0, 1) := zq_0 zo_3 zkX10_isCalm_0 2 rfl rfl
theorem dX10_isCalm_3 : decode cX10_isCalm 3 = .ok (.iload_n 1, 1) := zq_0 zo_27 zkX10_isCalm_0 3 rfl rfl
theorem dX10_isCalm_4 : decode cX10_isCalm 4 = .ok (.invokevirtual 310, 3) := zq_2 zo_182 zkX10_isCalm_0 4 rfl rfl 1 54 rfl rfl _ rfl
theorem dX10_isCalm_7 : decode cX10_isCalm 7 = .ok (.iload_n 2, 1) := zq_0 zo_28 zkX10_isCalm_0 7 rfl rfl
theorem dX10_isCalm_8 : decode cX10_isCalm 8 = .ok (.iconst (-1), 1) := zq_0 zo_2 zkX10_isCalm_0 8 rfl rfl
theorem dX10_isCalm_9 : decode cX10_isCalm 9 = .ok (.if_icmp .ne 19, 3) := zq_2s zo_160 zkX10_isCalm_0 9 rfl rfl 0 19 rfl rfl _ (by decide +kernel)
theorem dX10_isCalm_12 : decode cX10_isCalm 12 = .ok (.aload_n 0, 1) := zq_0 zo_42 zkX10_isCalm_0 12 rfl rfl
theorem dX10_isCalm_13 : decode cX10_isCalm 13 = .ok (.getfield 291, 3) := zq_2 zo_180 zkX10_isCalm_0 13 rfl rfl 1 35 rfl rfl _ rfl
theorem dX10_isCalm_16 : decode cX10_isCalm 16 = .ok (.iconst (-1), 1) := zq_0 zo_2 zkX10_isCalm_0 16 rfl rfl
theorem dX10_isCalm_17 : decode cX10_isCalm 17 = .ok (.if_icmp .ne 7, 3) := zq_2s zo_160 zkX10_isCalm_0 17 rfl rfl 0 7 rfl rfl _ (by decide +kernel)
theorem dX10_isCalm_20 : decode cX10_isCalm 20 = .ok (.iconst 1, 1) := zq_0 zo_4 zkX10_isCalm_0 20 rfl rfl
theorem dX10_isCalm_21 : decode cX10_isCalm 21 = .ok (.goto 20, 3) := zq_2s zo_167 zkX10_isCalm_0 21 rfl rfl 0 20 rfl rfl _ (by decide +kernel)
theorem dX10_isCalm_24 : decode cX10_isCalm 24 = .ok (.iconst 0, 1) := zq_0 zo_3 zkX10_isCalm_0 24 rfl rfl
theorem dX10_isCalm_25 : decode cX10_isCalm 25 = .ok (.goto 16, 3) := zq_2s zo_167 zkX10_isCalm_0 25 rfl rfl 0 16 rfl rfl _ (by decide +kernel)
theorem dX10_isCalm_28 : decode cX10_isCalm 28 = .ok (.aload_n 0, 1) := zq_0 zo_42 zkX10_isCalm_0 28 rfl rfl
theorem dX10_isCalm_29 : decode cX10_isCalm 29 = .ok (.getfield 276, 3) := zq_2 zo_180 zkX10_isCalm_0 29 rfl rfl 1 20 rfl rfl _ rfl
theorem zkX10_isCalm_32 : zqc cX10_isCalm 32 [28, 163, 0, 7, 4, 167, 0, 4, 3, 172] := zq_of 10 (by decide +kernel)
theorem dX10_isCalm_32 : decode cX10_isCalm 32 = .ok (.iload_n 2, 1) := zq_0 zo_28 zkX10_isCalm_32 0 rfl rfl
theorem dX10_isCalm_33 : decode cX10_isCalm 33 = .ok (.if_icmp .gt 7, 3) := zq_2s zo_163 zkX10_isCalm_32 1 rfl rfl 0 7 rfl rfl _ (by decide +kernel)
theorem dX10_isCalm_36 : decode cX10_isCalm 36 = .ok (.iconst 1, 1) := zq_0 zo_4 zkX10_isCalm_32 4 rfl rfl
theorem dX10_isCalm_37 : decode cX10_isCalm 37 = .ok (.goto 4, 3) := zq_2s zo_167 zkX10_isCalm_32 5 rfl rfl 0 4 rfl rfl _ (by decide +kernel)
theorem dX10_isCalm_40 : decode cX10_isCalm 40 = .ok (.iconst 0, 1) := zq_0 zo_3 zkX10_isCalm_32 8 rfl rfl
theorem dX10_isCalm_41 : decode cX10_isCalm 41 = .ok (.ireturn, 1) := zq_0 zo_172 zkX10_isCalm_32 9 rfl rfl
theorem zkX10_calm_0 : zqc cX10_calm 0 [42, 3, 181, 0, 91, 29, 2, 17, 3, 231, 184, 0, 103, 153, 0, 12, 42, 27, 28, 182, 1, 1, 154, 0, 5, 2, 172, 3, 54, 4, 21, 4, 42, 180] := zq_of 34 (by decide +kernel)
theorem dX10_calm_0 : decode cX10_calm 0 = .ok (.aload_n 0, 1) := zq_0 zo_42 zkX10_calm_0 0 rfl rfl
theorem dX10_calm_1 : decode cX10_calm 1 = .ok (.iconst 0, 1) := zq_0 zo_3 zkX10_calm_0 1 rfl rfl
theorem dX10_calm_2 : decode cX10_calm 2 = .ok (.putfield 91, 3) := zq_2 zo_181 zkX10_calm_0 2 rfl rfl 0 91 rfl rfl _ rfl
theorem dX10_calm_5 : decode cX10_calm 5 = .ok (.iload_n 3, 1) := zq_0 zo_29 zkX10_calm_0 5 rfl rfl
theorem dX10_calm_6 : decode cX10_calm 6 = .ok (.iconst (-1), 1) := zq_0 zo_2 zkX10_calm_0 6 rfl rfl
theorem dX10_calm_7 : decode cX10_calm 7 = .ok (.sipush 999, 3) := zq_2s zo_17 zkX10_calm_0 7 rfl rfl 3 231 rfl rfl _ (by decide +kernel)
theorem dX10_calm_10 : decode cX10_calm 10 = .ok (.invokestatic 103, 3) := zq_2 zo_184 zkX10_calm_0 10 rfl rfl 0 103 rfl rfl _ rfl
theorem dX10_calm_13 : decode cX10_calm 13 = .ok (.ifCond .eq 12, 3) := zq_2s zo_153 zkX10_calm_0 13 rfl rfl 0 12 rfl rfl _ (by decide +kernel)
theorem dX10_calm_16 : decode cX10_calm 16 = .ok (.aload_n 0, 1) := zq_0 zo_42 zkX10_calm_0 16 rfl rfl
theorem dX10_calm_17 : decode cX10_calm 17 = .ok (.iload_n 1, 1) := zq_0 zo_27 zkX10_calm_0 17 rfl rfl
theorem dX10_calm_18 : decode cX10_calm 18 = .ok (.iload_n 2, 1) := zq_0 zo_28 zkX10_calm_0 18 rfl rfl
theorem dX10_calm_19 : decode cX10_calm 19 = .ok (.invokevirtual 257, 3) := zq_2 zo_182 zkX10_calm_0 19 rfl rfl 1 1 rfl rfl _ rfl
theorem dX10_calm_22 : decode cX10_calm 22 = .ok (.ifCond .ne 5, 3) := zq_2s zo_154 zkX10_calm_0 22 rfl rfl 0 5 rfl rfl _ (by decide +kernel)
theorem dX10_calm_25 : decode cX10_calm 25 = .ok (.iconst (-1), 1) := zq_0 zo_2 zkX10_calm_0 25 rfl rfl
theorem dX10_calm_26 : decode cX10_calm 26 = .ok (.ireturn, 1) := zq_0 zo_172 zkX10_calm_0 26 rfl rfl
theorem dX10_calm_27 : decode cX10_calm 27 = .ok (.iconst 0, 1) := zq_0 zo_3 zkX10_calm_0 27 rfl rfl
theorem dX10_calm_28 : decode cX10_calm 28 = .ok (.istore 4, 2) := zq_1 zo_54 zkX10_calm_0 28 rfl rfl 4 rfl
theorem dX10_calm_30 : decode cX10_calm 30 = .ok (.iload 4, 2) := zq_1 zo_21 zkX10_calm_0 30 rfl rfl 4 rfl
theorem zkX10_calm_32 : zqc cX10_calm 32 [42, 180, 0, 251, 163, 0, 57, 3, 54, 5, 21, 5, 42, 182, 1, 51, 163, 0, 39, 21, 5, 184, 1, 67, 21, 4, 160, 0, 23, 42, 42, 182, 1, 51] := zq_of 34 (by decide +kernel)
theorem dX10_calm_32 : decode cX10_calm 32 = .ok (.aload_n 0, 1) := zq_0 zo_42 zkX10_calm_32 0 rfl rfl
theorem dX10_calm_33 : decode cX10_calm 33 = .ok (.getfield 251, 3) := zq_2 zo_180 zkX10_calm_32 1 rfl rfl 0 251 rfl rfl _ rfl
theorem dX10_calm_36 : decode cX10_calm 36 = .ok (.if_icmp .gt 57, 3) := zq_2s zo_163 zkX10_calm_32 4 rfl rfl 0 57 rfl rfl _ (by decide +kernel)
theorem dX10_calm_39 : decode cX10_calm 39 = .ok (.iconst 0, 1) := zq_0 zo_3 zkX10_calm_32 7 rfl rfl
theorem dX10_calm_40 : decode cX10_calm 40 = .ok (.istore 5, 2) := zq_1 zo_54 zkX10_calm_32 8 rfl rfl 5 rfl
theorem dX10_calm_42 : decode cX10_calm 42 = .ok (.iload 5, 2) := zq_1 zo_21 zkX10_calm_32 10 rfl rfl 5 rfl
theorem dX10_calm_44 : decode cX10_calm 44 = .ok (.aload_n 0, 1) := zq_0 zo_42 zkX10_calm_32 12 rfl rfl
theorem dX10_calm_45 : decode cX10_calm 45 = .ok (.invokevirtual 307, 3) := zq_2 zo_182 zkX10_calm_32 13 rfl rfl 1 51 rfl rfl _ rfl
theorem dX10_calm_48 : decode cX10_calm 48 = .ok (.if_icmp .gt 39, 3) := zq_2s zo_163 zkX10_calm_32 16 rfl rfl 0 39 rfl rfl _ (by decide +kernel)
theorem dX10_calm_51 : decode cX10_calm 51 = .ok (.iload 5, 2) := zq_1 zo_21 zkX10_calm_32 19 rfl rfl 5 rfl
theorem dX10_calm_53 : decode cX10_calm 53 = .ok (.invokestatic 323, 3) := zq_2 zo_184 zkX10_calm_32 21 rfl rfl 1 67 rfl rfl _ rfl
theorem dX10_calm_56 : decode cX10_calm 56 = .ok (.iload 4, 2) := zq_1 zo_21 zkX10_calm_32 24 rfl rfl 4 rfl
theorem dX10_calm_58 : decode cX10_calm 58 = .ok (.if_icmp .ne 23, 3) := zq_2s zo_160 zkX10_calm_32 26 rfl rfl 0 23 rfl rfl _ (by decide +kernel)
theorem dX10_calm_61 : decode cX10_calm 61 = .ok (.aload_n 0, 1) := zq_0 zo_42 zkX10_calm_32 29 rfl rfl
theorem dX10_calm_62 : decode cX10_calm 62 = .ok (.aload_n 0, 1) := zq_0 zo_42 zkX10_calm_32 30 rfl rfl
theorem dX10_calm_63 : decode cX10_calm 63 = .ok (.invokevirtual 307, 3) := zq_2 zo_182 zkX10_calm_32 31 rfl rfl 1 51 rfl rfl _ rfl
theorem zkX10_calm_64 : zqc cX10_calm 64 [1, 51, 21, 5, 2, 130, 126, 29, 182, 1, 142, 153, 0, 6, 21, 5, 172, 132, 5, 1, 167, 255, 214, 132, 4, 1, 167, 255, 196, 2, 172] := zq_of 31 (by decide +kernel)
theorem dX10_calm_66 : decode cX10_calm 66 = .ok (.iload 5, 2) := zq_1 zo_21 zkX10_calm_64 2 rfl rfl 5 rfl
theorem dX10_calm_68 : decode cX10_calm 68 = .ok (.iconst (-1), 1) := zq_0 zo_2 zkX10_calm_64 4 rfl rfl
theorem dX10_calm_69 : decode cX10_calm 69 = .ok (.ixor, 1) := zq_0 zo_130 zkX10_calm_64 5 rfl rfl
theorem dX10_calm_70 : decode cX10_calm 70 = .ok (.iand, 1) := zq_0 zo_126 zkX10_calm_64 6 rfl rfl
theorem dX10_calm_71 : decode cX10_calm 71 = .ok (.iload_n 3, 1) := zq_0 zo_29 zkX10_calm_64 7 rfl rfl
theorem dX10_calm_72 : decode cX10_calm 72 = .ok (.invokevirtual 398, 3) := zq_2 zo_182 zkX10_calm_64 8 rfl rfl 1 142 rfl rfl _ rfl
theorem dX10_calm_75 : decode cX10_calm 75 = .ok (.ifCond .eq 6, 3) := zq_2s zo_153 zkX10_calm_64 11 rfl rfl 0 6 rfl rfl _ (by decide +kernel)
theorem dX10_calm_78 : decode cX10_calm 78 = .ok (.iload 5, 2) := zq_1 zo_21 zkX10_calm_64 14 rfl rfl 5 rfl
theorem dX10_calm_80 : decode cX10_calm 80 = .ok (.ireturn, 1) := zq_0 zo_172 zkX10_calm_64 16 rfl rfl
theorem dX10_calm_81 : decode cX10_calm 81 = .ok (.iinc 5 1, 3) := zq_ii zo_132 zkX10_calm_64 17 rfl rfl 5 1 rfl rfl _ (by decide +kernel)
theorem dX10_calm_84 : decode cX10_calm 84 = .ok (.goto (-42), 3) := zq_2s zo_167 zkX10_calm_64 20 rfl rfl 255 214 rfl rfl _ (by decide +kernel)
theorem dX10_calm_87 : decode cX10_calm 87 = .ok (.iinc 4 1, 3) := zq_ii zo_132 zkX10_calm_64 23 rfl rfl 4 1 rfl rfl _ (by decide +kernel)
theorem dX10_calm_90 : decode cX10_calm 90 = .ok (.goto (-60), 3) := zq_2s zo_167 zkX10_calm_64 26 rfl rfl 255 196 rfl rfl _ (by decide +kernel)
theorem dX10_calm_93 : decode cX10_calm 93 = .ok (.iconst (-1), 1) := zq_0 zo_2 zkX10_calm_64 29 rfl rfl
theorem dX10_calm_94 : decode cX10_calm 94 = .ok (.ireturn, 1) := zq_0 zo_172 zkX10_calm_64 30 rfl rfl
theorem zkX10_richest_0 : zqc cX10_richest 0 [2, 60, 3, 61, 3, 62, 29, 42, 180, 0, 251, 162, 0, 36, 42, 180, 0, 68, 29, 46, 28, 164, 0, 7, 29, 167, 0, 4, 27, 60, 28, 42, 180, 0] := zq_of 34 (by decide +kernel)
theorem dX10_richest_0 : decode cX10_richest 0 = .ok (.iconst (-1), 1) := zq_0 zo_2 zkX10_richest_0 0 rfl rfl
theorem dX10_richest_1 : decode cX10_richest 1 = .ok (.istore_n 1, 1) := zq_0 zo_60 zkX10_richest_0 1 rfl rfl
theorem dX10_richest_2 : decode cX10_richest 2 = .ok (.iconst 0, 1) := zq_0 zo_3 zkX10_richest_0 2 rfl rfl
theorem dX10_richest_3 : decode cX10_richest 3 = .ok (.istore_n 2, 1) := zq_0 zo_61 zkX10_richest_0 3 rfl rfl
theorem dX10_richest_4 : decode cX10_richest 4 = .ok (.iconst 0, 1) := zq_0 zo_3 zkX10_richest_0 4 rfl rfl
theorem dX10_richest_5 : decode cX10_richest 5 = .ok (.istore_n 3, 1) := zq_0 zo_62 zkX10_richest_0 5 rfl rfl
theorem dX10_richest_6 : decode cX10_richest 6 = .ok (.iload_n 3, 1) := zq_0 zo_29 zkX10_richest_0 6 rfl rfl
theorem dX10_richest_7 : decode cX10_richest 7 = .ok (.aload_n 0, 1) := zq_0 zo_42 zkX10_richest_0 7 rfl rfl
theorem dX10_richest_8 : decode cX10_richest 8 = .ok (.getfield 251, 3) := zq_2 zo_180 zkX10_richest_0 8 rfl rfl 0 251 rfl rfl _ rfl
theorem dX10_richest_11 : decode cX10_richest 11 = .ok (.if_icmp .ge 36, 3) := zq_2s zo_162 zkX10_richest_0 11 rfl rfl 0 36 rfl rfl _ (by decide +kernel)
theorem dX10_richest_14 : decode cX10_richest 14 = .ok (.aload_n 0, 1) := zq_0 zo_42 zkX10_richest_0 14 rfl rfl
theorem dX10_richest_15 : decode cX10_richest 15 = .ok (.getfield 68, 3) := zq_2 zo_180 zkX10_richest_0 15 rfl rfl 0 68 rfl rfl _ rfl
theorem dX10_richest_18 : decode cX10_richest 18 = .ok (.iload_n 3, 1) := zq_0 zo_29 zkX10_richest_0 18 rfl rfl
theorem dX10_richest_19 : decode cX10_richest 19 = .ok (.iaload, 1) := zq_0 zo_46 zkX10_richest_0 19 rfl rfl
theorem dX10_richest_20 : decode cX10_richest 20 = .ok (.iload_n 2, 1) := zq_0 zo_28 zkX10_richest_0 20 rfl rfl
theorem dX10_richest_21 : decode cX10_richest 21 = .ok (.if_icmp .le 7, 3) := zq_2s zo_164 zkX10_richest_0 21 rfl rfl 0 7 rfl rfl _ (by decide +kernel)
theorem dX10_richest_24 : decode cX10_richest 24 = .ok (.iload_n 3, 1) := zq_0 zo_29 zkX10_richest_0 24 rfl rfl
theorem dX10_richest_25 : decode cX10_richest 25 = .ok (.goto 4, 3) := zq_2s zo_167 zkX10_richest_0 25 rfl rfl 0 4 rfl rfl _ (by decide +kernel)
theorem dX10_richest_28 : decode cX10_richest 28 = .ok (.iload_n 1, 1) := zq_0 zo_27 zkX10_richest_0 28 rfl rfl
theorem dX10_richest_29 : decode cX10_richest 29 = .ok (.istore_n 1, 1) := zq_0 zo_60 zkX10_richest_0 29 rfl rfl
theorem dX10_richest_30 : decode cX10_richest 30 = .ok (.iload_n 2, 1) := zq_0 zo_28 zkX10_richest_0 30 rfl rfl
theorem dX10_richest_31 : decode cX10_richest 31 = .ok (.aload_n 0, 1) := zq_0 zo_42 zkX10_richest_0 31 rfl rfl
theorem zkX10_richest_32 : zqc cX10_richest 32 [180, 0, 68, 29, 46, 184, 0, 160, 61, 132, 3, 1, 167, 255, 218, 27, 172] := zq_of 17 (by decide +kernel)
theorem dX10_richest_32 : decode cX10_richest 32 = .ok (.getfield 68, 3) := zq_2 zo_180 zkX10_richest_32 0 rfl rfl 0 68 rfl rfl _ rfl
theorem dX10_richest_35 : decode cX10_richest 35 = .ok (.iload_n 3, 1) := zq_0 zo_29 zkX10_richest_32 3 rfl rfl
theorem dX10_richest_36 : decode cX10_richest 36 = .ok (.iaload, 1) := zq_0 zo_46 zkX10_richest_32 4 rfl rfl
theorem dX10_richest_37 : decode cX10_richest 37 = .ok (.invokestatic 160, 3) := zq_2 zo_184 zkX10_richest_32 5 rfl rfl 0 160 rfl rfl _ rfl
theorem dX10_richest_40 : decode cX10_richest 40 = .ok (.istore_n 2, 1) := zq_0 zo_61 zkX10_richest_32 8 rfl rfl
theorem dX10_richest_41 : decode cX10_richest 41 = .ok (.iinc 3 1, 3) := zq_ii zo_132 zkX10_richest_32 9 rfl rfl 3 1 rfl rfl _ (by decide +kernel)
theorem dX10_richest_44 : decode cX10_richest 44 = .ok (.goto (-38), 3) := zq_2s zo_167 zkX10_richest_32 12 rfl rfl 255 218 rfl rfl _ (by decide +kernel)
theorem dX10_richest_47 : decode cX10_richest 47 = .ok (.iload_n 1, 1) := zq_0 zo_27 zkX10_richest_32 15 rfl rfl
theorem dX10_richest_48 : decode cX10_richest 48 = .ok (.ireturn, 1) := zq_0 zo_172 zkX10_richest_32 16 rfl rfl
theorem zkX10_spare_0 : zqc cX10_spare 0 [2, 62, 42, 180, 1, 20, 54, 4, 3, 54, 5, 21, 5, 42, 180, 0, 248, 162, 0, 81, 42, 180, 0, 53, 21, 5, 46, 54, 6, 42, 180, 0, 53, 21] := zq_of 34 (by decide +kernel)
theorem dX10_spare_0 : decode cX10_spare 0 = .ok (.iconst (-1), 1) := zq_0 zo_2 zkX10_spare_0 0 rfl rfl
theorem dX10_spare_1 : decode cX10_spare 1 = .ok (.istore_n 3, 1) := zq_0 zo_62 zkX10_spare_0 1 rfl rfl
theorem dX10_spare_2 : decode cX10_spare 2 = .ok (.aload_n 0, 1) := zq_0 zo_42 zkX10_spare_0 2 rfl rfl
theorem dX10_spare_3 : decode cX10_spare 3 = .ok (.getfield 276, 3) := zq_2 zo_180 zkX10_spare_0 3 rfl rfl 1 20 rfl rfl _ rfl
theorem dX10_spare_6 : decode cX10_spare 6 = .ok (.istore 4, 2) := zq_1 zo_54 zkX10_spare_0 6 rfl rfl 4 rfl
theorem dX10_spare_8 : decode cX10_spare 8 = .ok (.iconst 0, 1) := zq_0 zo_3 zkX10_spare_0 8 rfl rfl
theorem dX10_spare_9 : decode cX10_spare 9 = .ok (.istore 5, 2) := zq_1 zo_54 zkX10_spare_0 9 rfl rfl 5 rfl
theorem dX10_spare_11 : decode cX10_spare 11 = .ok (.iload 5, 2) := zq_1 zo_21 zkX10_spare_0 11 rfl rfl 5 rfl
theorem dX10_spare_13 : decode cX10_spare 13 = .ok (.aload_n 0, 1) := zq_0 zo_42 zkX10_spare_0 13 rfl rfl
theorem dX10_spare_14 : decode cX10_spare 14 = .ok (.getfield 248, 3) := zq_2 zo_180 zkX10_spare_0 14 rfl rfl 0 248 rfl rfl _ rfl
theorem dX10_spare_17 : decode cX10_spare 17 = .ok (.if_icmp .ge 81, 3) := zq_2s zo_162 zkX10_spare_0 17 rfl rfl 0 81 rfl rfl _ (by decide +kernel)
theorem dX10_spare_20 : decode cX10_spare 20 = .ok (.aload_n 0, 1) := zq_0 zo_42 zkX10_spare_0 20 rfl rfl
theorem dX10_spare_21 : decode cX10_spare 21 = .ok (.getfield 53, 3) := zq_2 zo_180 zkX10_spare_0 21 rfl rfl 0 53 rfl rfl _ rfl
theorem dX10_spare_24 : decode cX10_spare 24 = .ok (.iload 5, 2) := zq_1 zo_21 zkX10_spare_0 24 rfl rfl 5 rfl
theorem dX10_spare_26 : decode cX10_spare 26 = .ok (.iaload, 1) := zq_0 zo_46 zkX10_spare_0 26 rfl rfl
theorem dX10_spare_27 : decode cX10_spare 27 = .ok (.istore 6, 2) := zq_1 zo_54 zkX10_spare_0 27 rfl rfl 6 rfl
theorem dX10_spare_29 : decode cX10_spare 29 = .ok (.aload_n 0, 1) := zq_0 zo_42 zkX10_spare_0 29 rfl rfl
theorem dX10_spare_30 : decode cX10_spare 30 = .ok (.getfield 53, 3) := zq_2 zo_180 zkX10_spare_0 30 rfl rfl 0 53 rfl rfl _ rfl
theorem zkX10_spare_32 : zqc cX10_spare 32 [53, 21, 5, 3, 79, 42, 27, 28, 42, 182, 1, 51, 182, 1, 54, 42, 180, 0, 53, 21, 5, 21, 6, 79, 42, 180, 1, 20, 21, 4, 162, 0, 8, 21] := zq_of 34 (by decide +kernel)
theorem dX10_spare_33 : decode cX10_spare 33 = .ok (.iload 5, 2) := zq_1 zo_21 zkX10_spare_32 1 rfl rfl 5 rfl
theorem dX10_spare_35 : decode cX10_spare 35 = .ok (.iconst 0, 1) := zq_0 zo_3 zkX10_spare_32 3 rfl rfl
theorem dX10_spare_36 : decode cX10_spare 36 = .ok (.iastore, 1) := zq_0 zo_79 zkX10_spare_32 4 rfl rfl
theorem dX10_spare_37 : decode cX10_spare 37 = .ok (.aload_n 0, 1) := zq_0 zo_42 zkX10_spare_32 5 rfl rfl
theorem dX10_spare_38 : decode cX10_spare 38 = .ok (.iload_n 1, 1) := zq_0 zo_27 zkX10_spare_32 6 rfl rfl
theorem dX10_spare_39 : decode cX10_spare 39 = .ok (.iload_n 2, 1) := zq_0 zo_28 zkX10_spare_32 7 rfl rfl
theorem dX10_spare_40 : decode cX10_spare 40 = .ok (.aload_n 0, 1) := zq_0 zo_42 zkX10_spare_32 8 rfl rfl
theorem dX10_spare_41 : decode cX10_spare 41 = .ok (.invokevirtual 307, 3) := zq_2 zo_182 zkX10_spare_32 9 rfl rfl 1 51 rfl rfl _ rfl
theorem dX10_spare_44 : decode cX10_spare 44 = .ok (.invokevirtual 310, 3) := zq_2 zo_182 zkX10_spare_32 12 rfl rfl 1 54 rfl rfl _ rfl
theorem dX10_spare_47 : decode cX10_spare 47 = .ok (.aload_n 0, 1) := zq_0 zo_42 zkX10_spare_32 15 rfl rfl
theorem dX10_spare_48 : decode cX10_spare 48 = .ok (.getfield 53, 3) := zq_2 zo_180 zkX10_spare_32 16 rfl rfl 0 53 rfl rfl _ rfl
theorem dX10_spare_51 : decode cX10_spare 51 = .ok (.iload 5, 2) := zq_1 zo_21 zkX10_spare_32 19 rfl rfl 5 rfl
theorem dX10_spare_53 : decode cX10_spare 53 = .ok (.iload 6, 2) := zq_1 zo_21 zkX10_spare_32 21 rfl rfl 6 rfl
theorem dX10_spare_55 : decode cX10_spare 55 = .ok (.iastore, 1) := zq_0 zo_79 zkX10_spare_32 23 rfl rfl
theorem dX10_spare_56 : decode cX10_spare 56 = .ok (.aload_n 0, 1) := zq_0 zo_42 zkX10_spare_32 24 rfl rfl
theorem dX10_spare_57 : decode cX10_spare 57 = .ok (.getfield 276, 3) := zq_2 zo_180 zkX10_spare_32 25 rfl rfl 1 20 rfl rfl _ rfl
theorem dX10_spare_60 : decode cX10_spare 60 = .ok (.iload 4, 2) := zq_1 zo_21 zkX10_spare_32 28 rfl rfl 4 rfl
theorem dX10_spare_62 : decode cX10_spare 62 = .ok (.if_icmp .ge 8, 3) := zq_2s zo_162 zkX10_spare_32 30 rfl rfl 0 8 rfl rfl _ (by decide +kernel)
theorem zkX10_spare_64 : zqc cX10_spare 64 [8, 21, 5, 167, 0, 4, 29, 62, 42, 180, 1, 20, 21, 4, 162, 0, 10, 42, 180, 1, 20, 167, 0, 5, 21, 4, 54, 4, 132, 5, 1, 167, 255, 172] := zq_of 34 (by decide +kernel)
theorem dX10_spare_65 : decode cX10_spare 65 = .ok (.iload 5, 2) := zq_1 zo_21 zkX10_spare_64 1 rfl rfl 5 rfl
theorem dX10_spare_67 : decode cX10_spare 67 = .ok (.goto 4, 3) := zq_2s zo_167 zkX10_spare_64 3 rfl rfl 0 4 rfl rfl _ (by decide +kernel)
theorem dX10_spare_70 : decode cX10_spare 70 = .ok (.iload_n 3, 1) := zq_0 zo_29 zkX10_spare_64 6 rfl rfl
theorem dX10_spare_71 : decode cX10_spare 71 = .ok (.istore_n 3, 1) := zq_0 zo_62 zkX10_spare_64 7 rfl rfl
theorem dX10_spare_72 : decode cX10_spare 72 = .ok (.aload_n 0, 1) := zq_0 zo_42 zkX10_spare_64 8 rfl rfl
theorem dX10_spare_73 : decode cX10_spare 73 = .ok (.getfield 276, 3) := zq_2 zo_180 zkX10_spare_64 9 rfl rfl 1 20 rfl rfl _ rfl
theorem dX10_spare_76 : decode cX10_spare 76 = .ok (.iload 4, 2) := zq_1 zo_21 zkX10_spare_64 12 rfl rfl 4 rfl
theorem dX10_spare_78 : decode cX10_spare 78 = .ok (.if_icmp .ge 10, 3) := zq_2s zo_162 zkX10_spare_64 14 rfl rfl 0 10 rfl rfl _ (by decide +kernel)
theorem dX10_spare_81 : decode cX10_spare 81 = .ok (.aload_n 0, 1) := zq_0 zo_42 zkX10_spare_64 17 rfl rfl
theorem dX10_spare_82 : decode cX10_spare 82 = .ok (.getfield 276, 3) := zq_2 zo_180 zkX10_spare_64 18 rfl rfl 1 20 rfl rfl _ rfl
theorem dX10_spare_85 : decode cX10_spare 85 = .ok (.goto 5, 3) := zq_2s zo_167 zkX10_spare_64 21 rfl rfl 0 5 rfl rfl _ (by decide +kernel)
theorem dX10_spare_88 : decode cX10_spare 88 = .ok (.iload 4, 2) := zq_1 zo_21 zkX10_spare_64 24 rfl rfl 4 rfl
theorem dX10_spare_90 : decode cX10_spare 90 = .ok (.istore 4, 2) := zq_1 zo_54 zkX10_spare_64 26 rfl rfl 4 rfl
theorem dX10_spare_92 : decode cX10_spare 92 = .ok (.iinc 5 1, 3) := zq_ii zo_132 zkX10_spare_64 28 rfl rfl 5 1 rfl rfl _ (by decide +kernel)
theorem dX10_spare_95 : decode cX10_spare 95 = .ok (.goto (-84), 3) := zq_2s zo_167 zkX10_spare_64 31 rfl rfl 255 172 rfl rfl _ (by decide +kernel)
theorem zkX10_spare_96 : zqc cX10_spare 96 [255, 172, 29, 172] := zq_of 4 (by decide +kernel)
theorem dX10_spare_98 : decode cX10_spare 98 = .ok (.iload_n 3, 1) := zq_0 zo_29 zkX10_spare_96 2 rfl rfl
theorem dX10_spare_99 : decode cX10_spare 99 = .ok (.ireturn, 1) := zq_0 zo_172 zkX10_spare_96 3 rfl rfl
theorem zkX10_rich_0 : zqc cX10_rich 0 [42, 3, 181, 0, 91, 42, 27, 28, 29, 21, 4, 182, 1, 57, 154, 0, 5, 2, 172, 21, 5, 153, 0, 12, 42, 28, 29, 182, 1, 145, 167, 0, 7, 42] := zq_of 34 (by decide +kernel)
theorem dX10_rich_0 : decode cX10_rich 0 = .ok (.aload_n 0, 1) := zq_0 zo_42 zkX10_rich_0 0 rfl rfl
theorem dX10_rich_1 : decode cX10_rich 1 = .ok (.iconst 0, 1) := zq_0 zo_3 zkX10_rich_0 1 rfl rfl
theorem dX10_rich_2 : decode cX10_rich 2 = .ok (.putfield 91, 3) := zq_2 zo_181 zkX10_rich_0 2 rfl rfl 0 91 rfl rfl _ rfl
theorem dX10_rich_5 : decode cX10_rich 5 = .ok (.aload_n 0, 1) := zq_0 zo_42 zkX10_rich_0 5 rfl rfl
theorem dX10_rich_6 : decode cX10_rich 6 = .ok (.iload_n 1, 1) := zq_0 zo_27 zkX10_rich_0 6 rfl rfl
theorem dX10_rich_7 : decode cX10_rich 7 = .ok (.iload_n 2, 1) := zq_0 zo_28 zkX10_rich_0 7 rfl rfl
theorem dX10_rich_8 : decode cX10_rich 8 = .ok (.iload_n 3, 1) := zq_0 zo_29 zkX10_rich_0 8 rfl rfl
theorem dX10_rich_9 : decode cX10_rich 9 = .ok (.iload 4, 2) := zq_1 zo_21 zkX10_rich_0 9 rfl rfl 4 rfl
theorem dX10_rich_11 : decode cX10_rich 11 = .ok (.invokevirtual 313, 3) := zq_2 zo_182 zkX10_rich_0 11 rfl rfl 1 57 rfl rfl _ rfl
theorem dX10_rich_14 : decode cX10_rich 14 = .ok (.ifCond .ne 5, 3) := zq_2s zo_154 zkX10_rich_0 14 rfl rfl 0 5 rfl rfl _ (by decide +kernel)
theorem dX10_rich_17 : decode cX10_rich 17 = .ok (.iconst (-1), 1) := zq_0 zo_2 zkX10_rich_0 17 rfl rfl
theorem dX10_rich_18 : decode cX10_rich 18 = .ok (.ireturn, 1) := zq_0 zo_172 zkX10_rich_0 18 rfl rfl
theorem dX10_rich_19 : decode cX10_rich 19 = .ok (.iload 5, 2) := zq_1 zo_21 zkX10_rich_0 19 rfl rfl 5 rfl
theorem dX10_rich_21 : decode cX10_rich 21 = .ok (.ifCond .eq 12, 3) := zq_2s zo_153 zkX10_rich_0 21 rfl rfl 0 12 rfl rfl _ (by decide +kernel)
theorem dX10_rich_24 : decode cX10_rich 24 = .ok (.aload_n 0, 1) := zq_0 zo_42 zkX10_rich_0 24 rfl rfl
theorem dX10_rich_25 : decode cX10_rich 25 = .ok (.iload_n 2, 1) := zq_0 zo_28 zkX10_rich_0 25 rfl rfl
theorem dX10_rich_26 : decode cX10_rich 26 = .ok (.iload_n 3, 1) := zq_0 zo_29 zkX10_rich_0 26 rfl rfl
theorem dX10_rich_27 : decode cX10_rich 27 = .ok (.invokevirtual 401, 3) := zq_2 zo_182 zkX10_rich_0 27 rfl rfl 1 145 rfl rfl _ rfl
theorem dX10_rich_30 : decode cX10_rich 30 = .ok (.goto 7, 3) := zq_2s zo_167 zkX10_rich_0 30 rfl rfl 0 7 rfl rfl _ (by decide +kernel)
theorem zkX10_rich_32 : zqc cX10_rich 32 [7, 42, 182, 1, 148, 172] := zq_of 6 (by decide +kernel)
theorem dX10_rich_33 : decode cX10_rich 33 = .ok (.aload_n 0, 1) := zq_0 zo_42 zkX10_rich_32 1 rfl rfl
theorem dX10_rich_34 : decode cX10_rich 34 = .ok (.invokevirtual 404, 3) := zq_2 zo_182 zkX10_rich_32 2 rfl rfl 1 148 rfl rfl _ rfl
theorem dX10_rich_37 : decode cX10_rich 37 = .ok (.ireturn, 1) := zq_0 zo_172 zkX10_rich_32 5 rfl rfl
theorem zkX10_lots_0 : zqc cX10_lots 0 [42, 3, 181, 0, 91, 21, 4, 4, 16, 20, 184, 0, 103, 153, 0, 22, 21, 5, 3, 5, 184, 0, 103, 153, 0, 12, 42, 27, 28, 182, 1, 1, 154, 0] := zq_of 34 (by decide +kernel)
theorem dX10_lots_0 : decode cX10_lots 0 = .ok (.aload_n 0, 1) := zq_0 zo_42 zkX10_lots_0 0 rfl rfl
theorem dX10_lots_1 : decode cX10_lots 1 = .ok (.iconst 0, 1) := zq_0 zo_3 zkX10_lots_0 1 rfl rfl
theorem dX10_lots_2 : decode cX10_lots 2 = .ok (.putfield 91, 3) := zq_2 zo_181 zkX10_lots_0 2 rfl rfl 0 91 rfl rfl _ rfl
theorem dX10_lots_5 : decode cX10_lots 5 = .ok (.iload 4, 2) := zq_1 zo_21 zkX10_lots_0 5 rfl rfl 4 rfl
theorem dX10_lots_7 : decode cX10_lots 7 = .ok (.iconst 1, 1) := zq_0 zo_4 zkX10_lots_0 7 rfl rfl
theorem dX10_lots_8 : decode cX10_lots 8 = .ok (.bipush 20, 2) := zq_1s zo_16 zkX10_lots_0 8 rfl rfl 20 rfl _ (by decide +kernel)
theorem dX10_lots_10 : decode cX10_lots 10 = .ok (.invokestatic 103, 3) := zq_2 zo_184 zkX10_lots_0 10 rfl rfl 0 103 rfl rfl _ rfl
theorem dX10_lots_13 : decode cX10_lots 13 = .ok (.ifCond .eq 22, 3) := zq_2s zo_153 zkX10_lots_0 13 rfl rfl 0 22 rfl rfl _ (by decide +kernel)
theorem dX10_lots_16 : decode cX10_lots 16 = .ok (.iload 5, 2) := zq_1 zo_21 zkX10_lots_0 16 rfl rfl 5 rfl
theorem dX10_lots_18 : decode cX10_lots 18 = .ok (.iconst 0, 1) := zq_0 zo_3 zkX10_lots_0 18 rfl rfl
theorem dX10_lots_19 : decode cX10_lots 19 = .ok (.iconst 2, 1) := zq_0 zo_5 zkX10_lots_0 19 rfl rfl
theorem dX10_lots_20 : decode cX10_lots 20 = .ok (.invokestatic 103, 3) := zq_2 zo_184 zkX10_lots_0 20 rfl rfl 0 103 rfl rfl _ rfl
theorem dX10_lots_23 : decode cX10_lots 23 = .ok (.ifCond .eq 12, 3) := zq_2s zo_153 zkX10_lots_0 23 rfl rfl 0 12 rfl rfl _ (by decide +kernel)
theorem dX10_lots_26 : decode cX10_lots 26 = .ok (.aload_n 0, 1) := zq_0 zo_42 zkX10_lots_0 26 rfl rfl
theorem dX10_lots_27 : decode cX10_lots 27 = .ok (.iload_n 1, 1) := zq_0 zo_27 zkX10_lots_0 27 rfl rfl
theorem dX10_lots_28 : decode cX10_lots 28 = .ok (.iload_n 2, 1) := zq_0 zo_28 zkX10_lots_0 28 rfl rfl
theorem dX10_lots_29 : decode cX10_lots 29 = .ok (.invokevirtual 257, 3) := zq_2 zo_182 zkX10_lots_0 29 rfl rfl 1 1 rfl rfl _ rfl
theorem zkX10_lots_32 : zqc cX10_lots 32 [154, 0, 5, 2, 172, 3, 54, 6, 3, 54, 7, 21, 7, 21, 4, 162, 0, 65, 42, 5, 29, 21, 7, 96, 42, 182, 1, 51, 182, 1, 54, 21, 6, 21] := zq_of 34 (by decide +kernel)
theorem dX10_lots_32 : decode cX10_lots 32 = .ok (.ifCond .ne 5, 3) := zq_2s zo_154 zkX10_lots_32 0 rfl rfl 0 5 rfl rfl _ (by decide +kernel)
theorem dX10_lots_35 : decode cX10_lots 35 = .ok (.iconst (-1), 1) := zq_0 zo_2 zkX10_lots_32 3 rfl rfl
theorem dX10_lots_36 : decode cX10_lots 36 = .ok (.ireturn, 1) := zq_0 zo_172 zkX10_lots_32 4 rfl rfl
theorem dX10_lots_37 : decode cX10_lots 37 = .ok (.iconst 0, 1) := zq_0 zo_3 zkX10_lots_32 5 rfl rfl
theorem dX10_lots_38 : decode cX10_lots 38 = .ok (.istore 6, 2) := zq_1 zo_54 zkX10_lots_32 6 rfl rfl 6 rfl
theorem dX10_lots_40 : decode cX10_lots 40 = .ok (.iconst 0, 1) := zq_0 zo_3 zkX10_lots_32 8 rfl rfl
theorem dX10_lots_41 : decode cX10_lots 41 = .ok (.istore 7, 2) := zq_1 zo_54 zkX10_lots_32 9 rfl rfl 7 rfl
theorem dX10_lots_43 : decode cX10_lots 43 = .ok (.iload 7, 2) := zq_1 zo_21 zkX10_lots_32 11 rfl rfl 7 rfl
theorem dX10_lots_45 : decode cX10_lots 45 = .ok (.iload 4, 2) := zq_1 zo_21 zkX10_lots_32 13 rfl rfl 4 rfl
theorem dX10_lots_47 : decode cX10_lots 47 = .ok (.if_icmp .ge 65, 3) := zq_2s zo_162 zkX10_lots_32 15 rfl rfl 0 65 rfl rfl _ (by decide +kernel)
theorem dX10_lots_50 : decode cX10_lots 50 = .ok (.aload_n 0, 1) := zq_0 zo_42 zkX10_lots_32 18 rfl rfl
theorem dX10_lots_51 : decode cX10_lots 51 = .ok (.iconst 2, 1) := zq_0 zo_5 zkX10_lots_32 19 rfl rfl
theorem dX10_lots_52 : decode cX10_lots 52 = .ok (.iload_n 3, 1) := zq_0 zo_29 zkX10_lots_32 20 rfl rfl
theorem dX10_lots_53 : decode cX10_lots 53 = .ok (.iload 7, 2) := zq_1 zo_21 zkX10_lots_32 21 rfl rfl 7 rfl
theorem dX10_lots_55 : decode cX10_lots 55 = .ok (.iadd, 1) := zq_0 zo_96 zkX10_lots_32 23 rfl rfl
theorem dX10_lots_56 : decode cX10_lots 56 = .ok (.aload_n 0, 1) := zq_0 zo_42 zkX10_lots_32 24 rfl rfl
theorem dX10_lots_57 : decode cX10_lots 57 = .ok (.invokevirtual 307, 3) := zq_2 zo_182 zkX10_lots_32 25 rfl rfl 1 51 rfl rfl _ rfl
theorem dX10_lots_60 : decode cX10_lots 60 = .ok (.invokevirtual 310, 3) := zq_2 zo_182 zkX10_lots_32 28 rfl rfl 1 54 rfl rfl _ rfl
theorem dX10_lots_63 : decode cX10_lots 63 = .ok (.iload 6, 2) := zq_1 zo_21 zkX10_lots_32 31 rfl rfl 6 rfl
theorem zkX10_lots_64 : zqc cX10_lots 64 [6, 21, 5, 154, 0, 10, 42, 182, 1, 61, 167, 0, 29, 21, 5, 4, 160, 0, 10, 42, 180, 1, 20, 167, 0, 16, 42, 180, 1, 35, 2, 159, 0, 7] := zq_of 34 (by decide +kernel)
theorem dX10_lots_65 : decode cX10_lots 65 = .ok (.iload 5, 2) := zq_1 zo_21 zkX10_lots_64 1 rfl rfl 5 rfl
theorem dX10_lots_67 : decode cX10_lots 67 = .ok (.ifCond .ne 10, 3) := zq_2s zo_154 zkX10_lots_64 3 rfl rfl 0 10 rfl rfl _ (by decide +kernel)
theorem dX10_lots_70 : decode cX10_lots 70 = .ok (.aload_n 0, 1) := zq_0 zo_42 zkX10_lots_64 6 rfl rfl
theorem dX10_lots_71 : decode cX10_lots 71 = .ok (.invokevirtual 317, 3) := zq_2 zo_182 zkX10_lots_64 7 rfl rfl 1 61 rfl rfl _ rfl
theorem dX10_lots_74 : decode cX10_lots 74 = .ok (.goto 29, 3) := zq_2s zo_167 zkX10_lots_64 10 rfl rfl 0 29 rfl rfl _ (by decide +kernel)
theorem dX10_lots_77 : decode cX10_lots 77 = .ok (.iload 5, 2) := zq_1 zo_21 zkX10_lots_64 13 rfl rfl 5 rfl
theorem dX10_lots_79 : decode cX10_lots 79 = .ok (.iconst 1, 1) := zq_0 zo_4 zkX10_lots_64 15 rfl rfl
theorem dX10_lots_80 : decode cX10_lots 80 = .ok (.if_icmp .ne 10, 3) := zq_2s zo_160 zkX10_lots_64 16 rfl rfl 0 10 rfl rfl _ (by decide +kernel)
theorem dX10_lots_83 : decode cX10_lots 83 = .ok (.aload_n 0, 1) := zq_0 zo_42 zkX10_lots_64 19 rfl rfl
theorem dX10_lots_84 : decode cX10_lots 84 = .ok (.getfield 276, 3) := zq_2 zo_180 zkX10_lots_64 20 rfl rfl 1 20 rfl rfl _ rfl
theorem dX10_lots_87 : decode cX10_lots 87 = .ok (.goto 16, 3) := zq_2s zo_167 zkX10_lots_64 23 rfl rfl 0 16 rfl rfl _ (by decide +kernel)
theorem dX10_lots_90 : decode cX10_lots 90 = .ok (.aload_n 0, 1) := zq_0 zo_42 zkX10_lots_64 26 rfl rfl
theorem dX10_lots_91 : decode cX10_lots 91 = .ok (.getfield 291, 3) := zq_2 zo_180 zkX10_lots_64 27 rfl rfl 1 35 rfl rfl _ rfl
theorem dX10_lots_94 : decode cX10_lots 94 = .ok (.iconst (-1), 1) := zq_0 zo_2 zkX10_lots_64 30 rfl rfl
theorem dX10_lots_95 : decode cX10_lots 95 = .ok (.if_icmp .eq 7, 3) := zq_2s zo_159 zkX10_lots_64 31 rfl rfl 0 7 rfl rfl _ (by decide +kernel)
theorem zkX10_lots_96 : zqc cX10_lots 96 [0, 7, 4, 167, 0, 4, 3, 96, 54, 6, 132, 7, 1, 167, 255, 190, 21, 6, 172] := zq_of 19 (by decide +kernel)
theorem dX10_lots_98 : decode cX10_lots 98 = .ok (.iconst 1, 1) := zq_0 zo_4 zkX10_lots_96 2 rfl rfl
theorem dX10_lots_99 : decode cX10_lots 99 = .ok (.goto 4, 3) := zq_2s zo_167 zkX10_lots_96 3 rfl rfl 0 4 rfl rfl _ (by decide +kernel)
theorem dX10_lots_102 : decode cX10_lots 102 = .ok (.iconst 0, 1) := zq_0 zo_3 zkX10_lots_96 6 rfl rfl
theorem dX10_lots_103 : decode cX10_lots 103 = .ok (.iadd, 1) := zq_0 zo_96 zkX10_lots_96 7 rfl rfl
theorem dX10_lots_104 : decode cX10_lots 104 = .ok (.istore 6, 2) := zq_1 zo_54 zkX10_lots_96 8 rfl rfl 6 rfl
theorem dX10_lots_106 : decode cX10_lots 106 = .ok (.iinc 7 1, 3) := zq_ii zo_132 zkX10_lots_96 10 rfl rfl 7 1 rfl rfl _ (by decide +kernel)
theorem dX10_lots_109 : decode cX10_lots 109 = .ok (.goto (-66), 3) := zq_2s zo_167 zkX10_lots_96 13 rfl rfl 255 190 rfl rfl _ (by decide +kernel)
theorem dX10_lots_112 : decode cX10_lots 112 = .ok (.iload 6, 2) := zq_1 zo_21 zkX10_lots_96 16 rfl rfl 6 rfl
theorem dX10_lots_114 : decode cX10_lots 114 = .ok (.ireturn, 1) := zq_0 zo_172 zkX10_lots_96 18 rfl rfl
theorem zkX10_hasLog_0 : zqc cX10_hasLog 0 [42, 27, 181, 1, 151, 42, 5, 27, 182, 0, 225, 172] := zq_of 12 (by decide +kernel)
theorem dX10_hasLog_0 : decode cX10_hasLog 0 = .ok (.aload_n 0, 1) := zq_0 zo_42 zkX10_hasLog_0 0 rfl rfl
theorem dX10_hasLog_1 : decode cX10_hasLog 1 = .ok (.iload_n 1, 1) := zq_0 zo_27 zkX10_hasLog_0 1 rfl rfl
theorem dX10_hasLog_2 : decode cX10_hasLog 2 = .ok (.putfield 407, 3) := zq_2 zo_181 zkX10_hasLog_0 2 rfl rfl 1 151 rfl rfl _ rfl
theorem dX10_hasLog_5 : decode cX10_hasLog 5 = .ok (.aload_n 0, 1) := zq_0 zo_42 zkX10_hasLog_0 5 rfl rfl
theorem dX10_hasLog_6 : decode cX10_hasLog 6 = .ok (.iconst 2, 1) := zq_0 zo_5 zkX10_hasLog_0 6 rfl rfl
theorem dX10_hasLog_7 : decode cX10_hasLog 7 = .ok (.iload_n 1, 1) := zq_0 zo_27 zkX10_hasLog_0 7 rfl rfl
theorem dX10_hasLog_8 : decode cX10_hasLog 8 = .ok (.invokevirtual 225, 3) := zq_2 zo_182 zkX10_hasLog_0 8 rfl rfl 0 225 rfl rfl _ rfl
theorem dX10_hasLog_11 : decode cX10_hasLog 11 = .ok (.ireturn, 1) := zq_0 zo_172 zkX10_hasLog_0 11 rfl rfl
theorem zkX10_seenOf_0 : zqc cX10_seenOf 0 [42, 180, 0, 32, 16, 21, 42, 180, 1, 151, 104, 4, 96, 5, 27, 104, 96, 28, 96, 46, 172] := zq_of 21 (by decide +kernel)
theorem dX10_seenOf_0 : decode cX10_seenOf 0 = .ok (.aload_n 0, 1) := zq_0 zo_42 zkX10_seenOf_0 0 rfl rfl
theorem dX10_seenOf_1 : decode cX10_seenOf 1 = .ok (.getfield 32, 3) := zq_2 zo_180 zkX10_seenOf_0 1 rfl rfl 0 32 rfl rfl _ rfl
theorem dX10_seenOf_4 : decode cX10_seenOf 4 = .ok (.bipush 21, 2) := zq_1s zo_16 zkX10_seenOf_0 4 rfl rfl 21 rfl _ (by decide +kernel)
theorem dX10_seenOf_6 : decode cX10_seenOf 6 = .ok (.aload_n 0, 1) := zq_0 zo_42 zkX10_seenOf_0 6 rfl rfl
theorem dX10_seenOf_7 : decode cX10_seenOf 7 = .ok (.getfield 407, 3) := zq_2 zo_180 zkX10_seenOf_0 7 rfl rfl 1 151 rfl rfl _ rfl
theorem dX10_seenOf_10 : decode cX10_seenOf 10 = .ok (.imul, 1) := zq_0 zo_104 zkX10_seenOf_0 10 rfl rfl
theorem dX10_seenOf_11 : decode cX10_seenOf 11 = .ok (.iconst 1, 1) := zq_0 zo_4 zkX10_seenOf_0 11 rfl rfl
theorem dX10_seenOf_12 : decode cX10_seenOf 12 = .ok (.iadd, 1) := zq_0 zo_96 zkX10_seenOf_0 12 rfl rfl
theorem dX10_seenOf_13 : decode cX10_seenOf 13 = .ok (.iconst 2, 1) := zq_0 zo_5 zkX10_seenOf_0 13 rfl rfl
theorem dX10_seenOf_14 : decode cX10_seenOf 14 = .ok (.iload_n 1, 1) := zq_0 zo_27 zkX10_seenOf_0 14 rfl rfl
theorem dX10_seenOf_15 : decode cX10_seenOf 15 = .ok (.imul, 1) := zq_0 zo_104 zkX10_seenOf_0 15 rfl rfl
theorem dX10_seenOf_16 : decode cX10_seenOf 16 = .ok (.iadd, 1) := zq_0 zo_96 zkX10_seenOf_0 16 rfl rfl
theorem dX10_seenOf_17 : decode cX10_seenOf 17 = .ok (.iload_n 2, 1) := zq_0 zo_28 zkX10_seenOf_0 17 rfl rfl
theorem dX10_seenOf_18 : decode cX10_seenOf 18 = .ok (.iadd, 1) := zq_0 zo_96 zkX10_seenOf_0 18 rfl rfl
theorem dX10_seenOf_19 : decode cX10_seenOf 19 = .ok (.iaload, 1) := zq_0 zo_46 zkX10_seenOf_0 19 rfl rfl
theorem dX10_seenOf_20 : decode cX10_seenOf 20 = .ok (.ireturn, 1) := zq_0 zo_172 zkX10_seenOf_0 20 rfl rfl
theorem zkX10_seen_0 : zqc cX10_seen 0 [42, 3, 181, 0, 91, 42, 27, 182, 1, 154, 154, 0, 6, 16, 254, 172, 42, 180, 0, 32, 16, 21, 27, 104, 46, 54, 4, 28, 2, 160, 0, 15, 29, 154] := zq_of 34 (by decide +kernel)
theorem dX10_seen_0 : decode cX10_seen 0 = .ok (.aload_n 0, 1) := zq_0 zo_42 zkX10_seen_0 0 rfl rfl
theorem dX10_seen_1 : decode cX10_seen 1 = .ok (.iconst 0, 1) := zq_0 zo_3 zkX10_seen_0 1 rfl rfl
theorem dX10_seen_2 : decode cX10_seen 2 = .ok (.putfield 91, 3) := zq_2 zo_181 zkX10_seen_0 2 rfl rfl 0 91 rfl rfl _ rfl
theorem dX10_seen_5 : decode cX10_seen 5 = .ok (.aload_n 0, 1) := zq_0 zo_42 zkX10_seen_0 5 rfl rfl
theorem dX10_seen_6 : decode cX10_seen 6 = .ok (.iload_n 1, 1) := zq_0 zo_27 zkX10_seen_0 6 rfl rfl
theorem dX10_seen_7 : decode cX10_seen 7 = .ok (.invokevirtual 410, 3) := zq_2 zo_182 zkX10_seen_0 7 rfl rfl 1 154 rfl rfl _ rfl
theorem dX10_seen_10 : decode cX10_seen 10 = .ok (.ifCond .ne 6, 3) := zq_2s zo_154 zkX10_seen_0 10 rfl rfl 0 6 rfl rfl _ (by decide +kernel)
theorem dX10_seen_13 : decode cX10_seen 13 = .ok (.bipush (-2), 2) := zq_1s zo_16 zkX10_seen_0 13 rfl rfl 254 rfl _ (by decide +kernel)
theorem dX10_seen_15 : decode cX10_seen 15 = .ok (.ireturn, 1) := zq_0 zo_172 zkX10_seen_0 15 rfl rfl
theorem dX10_seen_16 : decode cX10_seen 16 = .ok (.aload_n 0, 1) := zq_0 zo_42 zkX10_seen_0 16 rfl rfl
theorem dX10_seen_17 : decode cX10_seen 17 = .ok (.getfield 32, 3) := zq_2 zo_180 zkX10_seen_0 17 rfl rfl 0 32 rfl rfl _ rfl
theorem dX10_seen_20 : decode cX10_seen 20 = .ok (.bipush 21, 2) := zq_1s zo_16 zkX10_seen_0 20 rfl rfl 21 rfl _ (by decide +kernel)
theorem dX10_seen_22 : decode cX10_seen 22 = .ok (.iload_n 1, 1) := zq_0 zo_27 zkX10_seen_0 22 rfl rfl
theorem dX10_seen_23 : decode cX10_seen 23 = .ok (.imul, 1) := zq_0 zo_104 zkX10_seen_0 23 rfl rfl
theorem dX10_seen_24 : decode cX10_seen 24 = .ok (.iaload, 1) := zq_0 zo_46 zkX10_seen_0 24 rfl rfl
theorem dX10_seen_25 : decode cX10_seen 25 = .ok (.istore 4, 2) := zq_1 zo_54 zkX10_seen_0 25 rfl rfl 4 rfl
theorem dX10_seen_27 : decode cX10_seen 27 = .ok (.iload_n 2, 1) := zq_0 zo_28 zkX10_seen_0 27 rfl rfl
theorem dX10_seen_28 : decode cX10_seen 28 = .ok (.iconst (-1), 1) := zq_0 zo_2 zkX10_seen_0 28 rfl rfl
theorem dX10_seen_29 : decode cX10_seen 29 = .ok (.if_icmp .ne 15, 3) := zq_2s zo_160 zkX10_seen_0 29 rfl rfl 0 15 rfl rfl _ (by decide +kernel)
theorem zkX10_seen_32 : zqc cX10_seen 32 [29, 154, 0, 8, 21, 4, 167, 0, 5, 16, 254, 172, 28, 3, 21, 4, 4, 100, 184, 0, 103, 153, 0, 21, 29, 3, 4, 184, 0, 103, 153, 0, 12, 42] := zq_of 34 (by decide +kernel)
theorem dX10_seen_32 : decode cX10_seen 32 = .ok (.iload_n 3, 1) := zq_0 zo_29 zkX10_seen_32 0 rfl rfl
theorem dX10_seen_33 : decode cX10_seen 33 = .ok (.ifCond .ne 8, 3) := zq_2s zo_154 zkX10_seen_32 1 rfl rfl 0 8 rfl rfl _ (by decide +kernel)
theorem dX10_seen_36 : decode cX10_seen 36 = .ok (.iload 4, 2) := zq_1 zo_21 zkX10_seen_32 4 rfl rfl 4 rfl
theorem dX10_seen_38 : decode cX10_seen 38 = .ok (.goto 5, 3) := zq_2s zo_167 zkX10_seen_32 6 rfl rfl 0 5 rfl rfl _ (by decide +kernel)
theorem dX10_seen_41 : decode cX10_seen 41 = .ok (.bipush (-2), 2) := zq_1s zo_16 zkX10_seen_32 9 rfl rfl 254 rfl _ (by decide +kernel)
theorem dX10_seen_43 : decode cX10_seen 43 = .ok (.ireturn, 1) := zq_0 zo_172 zkX10_seen_32 11 rfl rfl
theorem dX10_seen_44 : decode cX10_seen 44 = .ok (.iload_n 2, 1) := zq_0 zo_28 zkX10_seen_32 12 rfl rfl
theorem dX10_seen_45 : decode cX10_seen 45 = .ok (.iconst 0, 1) := zq_0 zo_3 zkX10_seen_32 13 rfl rfl
theorem dX10_seen_46 : decode cX10_seen 46 = .ok (.iload 4, 2) := zq_1 zo_21 zkX10_seen_32 14 rfl rfl 4 rfl
theorem dX10_seen_48 : decode cX10_seen 48 = .ok (.iconst 1, 1) := zq_0 zo_4 zkX10_seen_32 16 rfl rfl
theorem dX10_seen_49 : decode cX10_seen 49 = .ok (.isub, 1) := zq_0 zo_100 zkX10_seen_32 17 rfl rfl
theorem dX10_seen_50 : decode cX10_seen 50 = .ok (.invokestatic 103, 3) := zq_2 zo_184 zkX10_seen_32 18 rfl rfl 0 103 rfl rfl _ rfl
theorem dX10_seen_53 : decode cX10_seen 53 = .ok (.ifCond .eq 21, 3) := zq_2s zo_153 zkX10_seen_32 21 rfl rfl 0 21 rfl rfl _ (by decide +kernel)
theorem dX10_seen_56 : decode cX10_seen 56 = .ok (.iload_n 3, 1) := zq_0 zo_29 zkX10_seen_32 24 rfl rfl
theorem dX10_seen_57 : decode cX10_seen 57 = .ok (.iconst 0, 1) := zq_0 zo_3 zkX10_seen_32 25 rfl rfl
theorem dX10_seen_58 : decode cX10_seen 58 = .ok (.iconst 1, 1) := zq_0 zo_4 zkX10_seen_32 26 rfl rfl
theorem dX10_seen_59 : decode cX10_seen 59 = .ok (.invokestatic 103, 3) := zq_2 zo_184 zkX10_seen_32 27 rfl rfl 0 103 rfl rfl _ rfl
theorem dX10_seen_62 : decode cX10_seen 62 = .ok (.ifCond .eq 12, 3) := zq_2s zo_153 zkX10_seen_32 30 rfl rfl 0 12 rfl rfl _ (by decide +kernel)
theorem zkX10_seen_64 : zqc cX10_seen 64 [12, 42, 28, 29, 182, 1, 157, 167, 0, 5, 16, 254, 172] := zq_of 13 (by decide +kernel)
theorem dX10_seen_65 : decode cX10_seen 65 = .ok (.aload_n 0, 1) := zq_0 zo_42 zkX10_seen_64 1 rfl rfl
theorem dX10_seen_66 : decode cX10_seen 66 = .ok (.iload_n 2, 1) := zq_0 zo_28 zkX10_seen_64 2 rfl rfl
theorem dX10_seen_67 : decode cX10_seen 67 = .ok (.iload_n 3, 1) := zq_0 zo_29 zkX10_seen_64 3 rfl rfl
theorem dX10_seen_68 : decode cX10_seen 68 = .ok (.invokevirtual 413, 3) := zq_2 zo_182 zkX10_seen_64 4 rfl rfl 1 157 rfl rfl _ rfl
theorem dX10_seen_71 : decode cX10_seen 71 = .ok (.goto 5, 3) := zq_2s zo_167 zkX10_seen_64 7 rfl rfl 0 5 rfl rfl _ (by decide +kernel)
theorem dX10_seen_74 : decode cX10_seen 74 = .ok (.bipush (-2), 2) := zq_1s zo_16 zkX10_seen_64 10 rfl rfl 254 rfl _ (by decide +kernel)
theorem dX10_seen_76 : decode cX10_seen 76 = .ok (.ireturn, 1) := zq_0 zo_172 zkX10_seen_64 12 rfl rfl
theorem zkX10_holds_0 : zqc cX10_holds 0 [3, 61, 3, 62, 29, 42, 180, 0, 245, 162, 0, 44, 42, 180, 0, 56, 29, 28, 79, 28, 42, 180, 0, 47, 29, 46, 27, 29, 184, 0, 95, 153, 0, 12] := zq_of 34 (by decide +kernel)
theorem dX10_holds_0 : decode cX10_holds 0 = .ok (.iconst 0, 1) := zq_0 zo_3 zkX10_holds_0 0 rfl rfl
theorem dX10_holds_1 : decode cX10_holds 1 = .ok (.istore_n 2, 1) := zq_0 zo_61 zkX10_holds_0 1 rfl rfl
theorem dX10_holds_2 : decode cX10_holds 2 = .ok (.iconst 0, 1) := zq_0 zo_3 zkX10_holds_0 2 rfl rfl
theorem dX10_holds_3 : decode cX10_holds 3 = .ok (.istore_n 3, 1) := zq_0 zo_62 zkX10_holds_0 3 rfl rfl
theorem dX10_holds_4 : decode cX10_holds 4 = .ok (.iload_n 3, 1) := zq_0 zo_29 zkX10_holds_0 4 rfl rfl
theorem dX10_holds_5 : decode cX10_holds 5 = .ok (.aload_n 0, 1) := zq_0 zo_42 zkX10_holds_0 5 rfl rfl
theorem dX10_holds_6 : decode cX10_holds 6 = .ok (.getfield 245, 3) := zq_2 zo_180 zkX10_holds_0 6 rfl rfl 0 245 rfl rfl _ rfl
theorem dX10_holds_9 : decode cX10_holds 9 = .ok (.if_icmp .ge 44, 3) := zq_2s zo_162 zkX10_holds_0 9 rfl rfl 0 44 rfl rfl _ (by decide +kernel)
theorem dX10_holds_12 : decode cX10_holds 12 = .ok (.aload_n 0, 1) := zq_0 zo_42 zkX10_holds_0 12 rfl rfl
theorem dX10_holds_13 : decode cX10_holds 13 = .ok (.getfield 56, 3) := zq_2 zo_180 zkX10_holds_0 13 rfl rfl 0 56 rfl rfl _ rfl
theorem dX10_holds_16 : decode cX10_holds 16 = .ok (.iload_n 3, 1) := zq_0 zo_29 zkX10_holds_0 16 rfl rfl
theorem dX10_holds_17 : decode cX10_holds 17 = .ok (.iload_n 2, 1) := zq_0 zo_28 zkX10_holds_0 17 rfl rfl
theorem dX10_holds_18 : decode cX10_holds 18 = .ok (.iastore, 1) := zq_0 zo_79 zkX10_holds_0 18 rfl rfl
theorem dX10_holds_19 : decode cX10_holds 19 = .ok (.iload_n 2, 1) := zq_0 zo_28 zkX10_holds_0 19 rfl rfl
theorem dX10_holds_20 : decode cX10_holds 20 = .ok (.aload_n 0, 1) := zq_0 zo_42 zkX10_holds_0 20 rfl rfl
theorem dX10_holds_21 : decode cX10_holds 21 = .ok (.getfield 47, 3) := zq_2 zo_180 zkX10_holds_0 21 rfl rfl 0 47 rfl rfl _ rfl
theorem dX10_holds_24 : decode cX10_holds 24 = .ok (.iload_n 3, 1) := zq_0 zo_29 zkX10_holds_0 24 rfl rfl
theorem dX10_holds_25 : decode cX10_holds 25 = .ok (.iaload, 1) := zq_0 zo_46 zkX10_holds_0 25 rfl rfl
theorem dX10_holds_26 : decode cX10_holds 26 = .ok (.iload_n 1, 1) := zq_0 zo_27 zkX10_holds_0 26 rfl rfl
theorem dX10_holds_27 : decode cX10_holds 27 = .ok (.iload_n 3, 1) := zq_0 zo_29 zkX10_holds_0 27 rfl rfl
theorem dX10_holds_28 : decode cX10_holds 28 = .ok (.invokestatic 95, 3) := zq_2 zo_184 zkX10_holds_0 28 rfl rfl 0 95 rfl rfl _ rfl
theorem dX10_holds_31 : decode cX10_holds 31 = .ok (.ifCond .eq 12, 3) := zq_2s zo_153 zkX10_holds_0 31 rfl rfl 0 12 rfl rfl _ (by decide +kernel)
theorem zkX10_holds_32 : zqc cX10_holds 32 [0, 12, 42, 180, 0, 50, 29, 46, 167, 0, 4, 3, 96, 96, 61, 132, 3, 1, 167, 255, 210, 3, 62, 29, 42, 180, 0, 32, 16, 21, 42, 180, 1, 151] := zq_of 34 (by decide +kernel)
theorem dX10_holds_34 : decode cX10_holds 34 = .ok (.aload_n 0, 1) := zq_0 zo_42 zkX10_holds_32 2 rfl rfl
theorem dX10_holds_35 : decode cX10_holds 35 = .ok (.getfield 50, 3) := zq_2 zo_180 zkX10_holds_32 3 rfl rfl 0 50 rfl rfl _ rfl
theorem dX10_holds_38 : decode cX10_holds 38 = .ok (.iload_n 3, 1) := zq_0 zo_29 zkX10_holds_32 6 rfl rfl
theorem dX10_holds_39 : decode cX10_holds 39 = .ok (.iaload, 1) := zq_0 zo_46 zkX10_holds_32 7 rfl rfl
theorem dX10_holds_40 : decode cX10_holds 40 = .ok (.goto 4, 3) := zq_2s zo_167 zkX10_holds_32 8 rfl rfl 0 4 rfl rfl _ (by decide +kernel)
theorem dX10_holds_43 : decode cX10_holds 43 = .ok (.iconst 0, 1) := zq_0 zo_3 zkX10_holds_32 11 rfl rfl
theorem dX10_holds_44 : decode cX10_holds 44 = .ok (.iadd, 1) := zq_0 zo_96 zkX10_holds_32 12 rfl rfl
theorem dX10_holds_45 : decode cX10_holds 45 = .ok (.iadd, 1) := zq_0 zo_96 zkX10_holds_32 13 rfl rfl
theorem dX10_holds_46 : decode cX10_holds 46 = .ok (.istore_n 2, 1) := zq_0 zo_61 zkX10_holds_32 14 rfl rfl
theorem dX10_holds_47 : decode cX10_holds 47 = .ok (.iinc 3 1, 3) := zq_ii zo_132 zkX10_holds_32 15 rfl rfl 3 1 rfl rfl _ (by decide +kernel)
theorem dX10_holds_50 : decode cX10_holds 50 = .ok (.goto (-46), 3) := zq_2s zo_167 zkX10_holds_32 18 rfl rfl 255 210 rfl rfl _ (by decide +kernel)
theorem dX10_holds_53 : decode cX10_holds 53 = .ok (.iconst 0, 1) := zq_0 zo_3 zkX10_holds_32 21 rfl rfl
theorem dX10_holds_54 : decode cX10_holds 54 = .ok (.istore_n 3, 1) := zq_0 zo_62 zkX10_holds_32 22 rfl rfl
theorem dX10_holds_55 : decode cX10_holds 55 = .ok (.iload_n 3, 1) := zq_0 zo_29 zkX10_holds_32 23 rfl rfl
theorem dX10_holds_56 : decode cX10_holds 56 = .ok (.aload_n 0, 1) := zq_0 zo_42 zkX10_holds_32 24 rfl rfl
theorem dX10_holds_57 : decode cX10_holds 57 = .ok (.getfield 32, 3) := zq_2 zo_180 zkX10_holds_32 25 rfl rfl 0 32 rfl rfl _ rfl
theorem dX10_holds_60 : decode cX10_holds 60 = .ok (.bipush 21, 2) := zq_1s zo_16 zkX10_holds_32 28 rfl rfl 21 rfl _ (by decide +kernel)
theorem dX10_holds_62 : decode cX10_holds 62 = .ok (.aload_n 0, 1) := zq_0 zo_42 zkX10_holds_32 30 rfl rfl
theorem dX10_holds_63 : decode cX10_holds 63 = .ok (.getfield 407, 3) := zq_2 zo_180 zkX10_holds_32 31 rfl rfl 1 151 rfl rfl _ rfl
theorem zkX10_holds_64 : zqc cX10_holds 64 [1, 151, 104, 46, 162, 0, 44, 42, 42, 29, 3, 182, 1, 157, 182, 1, 4, 153, 0, 23, 42, 180, 0, 56, 42, 29, 3, 182, 1, 157, 46, 42, 29, 4] := zq_of 34 (by decide +kernel)
theorem dX10_holds_66 : decode cX10_holds 66 = .ok (.imul, 1) := zq_0 zo_104 zkX10_holds_64 2 rfl rfl
theorem dX10_holds_67 : decode cX10_holds 67 = .ok (.iaload, 1) := zq_0 zo_46 zkX10_holds_64 3 rfl rfl
theorem dX10_holds_68 : decode cX10_holds 68 = .ok (.if_icmp .ge 44, 3) := zq_2s zo_162 zkX10_holds_64 4 rfl rfl 0 44 rfl rfl _ (by decide +kernel)
theorem dX10_holds_71 : decode cX10_holds 71 = .ok (.aload_n 0, 1) := zq_0 zo_42 zkX10_holds_64 7 rfl rfl
theorem dX10_holds_72 : decode cX10_holds 72 = .ok (.aload_n 0, 1) := zq_0 zo_42 zkX10_holds_64 8 rfl rfl
theorem dX10_holds_73 : decode cX10_holds 73 = .ok (.iload_n 3, 1) := zq_0 zo_29 zkX10_holds_64 9 rfl rfl
theorem dX10_holds_74 : decode cX10_holds 74 = .ok (.iconst 0, 1) := zq_0 zo_3 zkX10_holds_64 10 rfl rfl
theorem dX10_holds_75 : decode cX10_holds 75 = .ok (.invokevirtual 413, 3) := zq_2 zo_182 zkX10_holds_64 11 rfl rfl 1 157 rfl rfl _ rfl
theorem dX10_holds_78 : decode cX10_holds 78 = .ok (.invokevirtual 260, 3) := zq_2 zo_182 zkX10_holds_64 14 rfl rfl 1 4 rfl rfl _ rfl
theorem dX10_holds_81 : decode cX10_holds 81 = .ok (.ifCond .eq 23, 3) := zq_2s zo_153 zkX10_holds_64 17 rfl rfl 0 23 rfl rfl _ (by decide +kernel)
theorem dX10_holds_84 : decode cX10_holds 84 = .ok (.aload_n 0, 1) := zq_0 zo_42 zkX10_holds_64 20 rfl rfl
theorem dX10_holds_85 : decode cX10_holds 85 = .ok (.getfield 56, 3) := zq_2 zo_180 zkX10_holds_64 21 rfl rfl 0 56 rfl rfl _ rfl
theorem dX10_holds_88 : decode cX10_holds 88 = .ok (.aload_n 0, 1) := zq_0 zo_42 zkX10_holds_64 24 rfl rfl
theorem dX10_holds_89 : decode cX10_holds 89 = .ok (.iload_n 3, 1) := zq_0 zo_29 zkX10_holds_64 25 rfl rfl
theorem dX10_holds_90 : decode cX10_holds 90 = .ok (.iconst 0, 1) := zq_0 zo_3 zkX10_holds_64 26 rfl rfl
theorem dX10_holds_91 : decode cX10_holds 91 = .ok (.invokevirtual 413, 3) := zq_2 zo_182 zkX10_holds_64 27 rfl rfl 1 157 rfl rfl _ rfl
theorem dX10_holds_94 : decode cX10_holds 94 = .ok (.iaload, 1) := zq_0 zo_46 zkX10_holds_64 30 rfl rfl
theorem dX10_holds_95 : decode cX10_holds 95 = .ok (.aload_n 0, 1) := zq_0 zo_42 zkX10_holds_64 31 rfl rfl
theorem zkX10_holds_96 : zqc cX10_holds 96 [29, 4, 182, 1, 157, 159, 0, 5, 3, 172, 132, 3, 1, 167, 255, 202, 4, 172] := zq_of 18 (by decide +kernel)
theorem dX10_holds_96 : decode cX10_holds 96 = .ok (.iload_n 3, 1) := zq_0 zo_29 zkX10_holds_96 0 rfl rfl
theorem dX10_holds_97 : decode cX10_holds 97 = .ok (.iconst 1, 1) := zq_0 zo_4 zkX10_holds_96 1 rfl rfl
theorem dX10_holds_98 : decode cX10_holds 98 = .ok (.invokevirtual 413, 3) := zq_2 zo_182 zkX10_holds_96 2 rfl rfl 1 157 rfl rfl _ rfl
theorem dX10_holds_101 : decode cX10_holds 101 = .ok (.if_icmp .eq 5, 3) := zq_2s zo_159 zkX10_holds_96 5 rfl rfl 0 5 rfl rfl _ (by decide +kernel)
theorem dX10_holds_104 : decode cX10_holds 104 = .ok (.iconst 0, 1) := zq_0 zo_3 zkX10_holds_96 8 rfl rfl
theorem dX10_holds_105 : decode cX10_holds 105 = .ok (.ireturn, 1) := zq_0 zo_172 zkX10_holds_96 9 rfl rfl
theorem dX10_holds_106 : decode cX10_holds 106 = .ok (.iinc 3 1, 3) := zq_ii zo_132 zkX10_holds_96 10 rfl rfl 3 1 rfl rfl _ (by decide +kernel)
theorem dX10_holds_109 : decode cX10_holds 109 = .ok (.goto (-54), 3) := zq_2s zo_167 zkX10_holds_96 13 rfl rfl 255 202 rfl rfl _ (by decide +kernel)
theorem dX10_holds_112 : decode cX10_holds 112 = .ok (.iconst 1, 1) := zq_0 zo_4 zkX10_holds_96 16 rfl rfl
theorem dX10_holds_113 : decode cX10_holds 113 = .ok (.ireturn, 1) := zq_0 zo_172 zkX10_holds_96 17 rfl rfl
theorem zkX10_hold_0 : zqc cX10_hold 0 [42, 3, 181, 0, 91, 42, 28, 182, 1, 154, 153, 0, 21, 42, 27, 3, 182, 1, 1, 153, 0, 12, 29, 3, 6, 184, 0, 103, 154, 0, 6, 16, 254, 172] := zq_of 34 (by decide +kernel)
theorem dX10_hold_0 : decode cX10_hold 0 = .ok (.aload_n 0, 1) := zq_0 zo_42 zkX10_hold_0 0 rfl rfl
theorem dX10_hold_1 : decode cX10_hold 1 = .ok (.iconst 0, 1) := zq_0 zo_3 zkX10_hold_0 1 rfl rfl
theorem dX10_hold_2 : decode cX10_hold 2 = .ok (.putfield 91, 3) := zq_2 zo_181 zkX10_hold_0 2 rfl rfl 0 91 rfl rfl _ rfl
theorem dX10_hold_5 : decode cX10_hold 5 = .ok (.aload_n 0, 1) := zq_0 zo_42 zkX10_hold_0 5 rfl rfl
theorem dX10_hold_6 : decode cX10_hold 6 = .ok (.iload_n 2, 1) := zq_0 zo_28 zkX10_hold_0 6 rfl rfl
theorem dX10_hold_7 : decode cX10_hold 7 = .ok (.invokevirtual 410, 3) := zq_2 zo_182 zkX10_hold_0 7 rfl rfl 1 154 rfl rfl _ rfl
theorem dX10_hold_10 : decode cX10_hold 10 = .ok (.ifCond .eq 21, 3) := zq_2s zo_153 zkX10_hold_0 10 rfl rfl 0 21 rfl rfl _ (by decide +kernel)
theorem dX10_hold_13 : decode cX10_hold 13 = .ok (.aload_n 0, 1) := zq_0 zo_42 zkX10_hold_0 13 rfl rfl
theorem dX10_hold_14 : decode cX10_hold 14 = .ok (.iload_n 1, 1) := zq_0 zo_27 zkX10_hold_0 14 rfl rfl
theorem dX10_hold_15 : decode cX10_hold 15 = .ok (.iconst 0, 1) := zq_0 zo_3 zkX10_hold_0 15 rfl rfl
theorem dX10_hold_16 : decode cX10_hold 16 = .ok (.invokevirtual 257, 3) := zq_2 zo_182 zkX10_hold_0 16 rfl rfl 1 1 rfl rfl _ rfl
theorem dX10_hold_19 : decode cX10_hold 19 = .ok (.ifCond .eq 12, 3) := zq_2s zo_153 zkX10_hold_0 19 rfl rfl 0 12 rfl rfl _ (by decide +kernel)
theorem dX10_hold_22 : decode cX10_hold 22 = .ok (.iload_n 3, 1) := zq_0 zo_29 zkX10_hold_0 22 rfl rfl
theorem dX10_hold_23 : decode cX10_hold 23 = .ok (.iconst 0, 1) := zq_0 zo_3 zkX10_hold_0 23 rfl rfl
theorem dX10_hold_24 : decode cX10_hold 24 = .ok (.iconst 3, 1) := zq_0 zo_6 zkX10_hold_0 24 rfl rfl
theorem dX10_hold_25 : decode cX10_hold 25 = .ok (.invokestatic 103, 3) := zq_2 zo_184 zkX10_hold_0 25 rfl rfl 0 103 rfl rfl _ rfl
theorem dX10_hold_28 : decode cX10_hold 28 = .ok (.ifCond .ne 6, 3) := zq_2s zo_154 zkX10_hold_0 28 rfl rfl 0 6 rfl rfl _ (by decide +kernel)
theorem dX10_hold_31 : decode cX10_hold 31 = .ok (.bipush (-2), 2) := zq_1s zo_16 zkX10_hold_0 31 rfl rfl 254 rfl _ (by decide +kernel)
theorem zkX10_hold_32 : zqc cX10_hold 32 [254, 172, 3, 54, 4, 2, 54, 5, 4, 42, 180, 0, 248, 120, 4, 100, 54, 6, 3, 54, 7, 3, 54, 8, 21, 8, 4, 42, 180, 0, 248, 120, 162, 0] := zq_of 34 (by decide +kernel)
theorem dX10_hold_33 : decode cX10_hold 33 = .ok (.ireturn, 1) := zq_0 zo_172 zkX10_hold_32 1 rfl rfl
theorem dX10_hold_34 : decode cX10_hold 34 = .ok (.iconst 0, 1) := zq_0 zo_3 zkX10_hold_32 2 rfl rfl
theorem dX10_hold_35 : decode cX10_hold 35 = .ok (.istore 4, 2) := zq_1 zo_54 zkX10_hold_32 3 rfl rfl 4 rfl
theorem dX10_hold_37 : decode cX10_hold 37 = .ok (.iconst (-1), 1) := zq_0 zo_2 zkX10_hold_32 5 rfl rfl
theorem dX10_hold_38 : decode cX10_hold 38 = .ok (.istore 5, 2) := zq_1 zo_54 zkX10_hold_32 6 rfl rfl 5 rfl
theorem dX10_hold_40 : decode cX10_hold 40 = .ok (.iconst 1, 1) := zq_0 zo_4 zkX10_hold_32 8 rfl rfl
theorem dX10_hold_41 : decode cX10_hold 41 = .ok (.aload_n 0, 1) := zq_0 zo_42 zkX10_hold_32 9 rfl rfl
theorem dX10_hold_42 : decode cX10_hold 42 = .ok (.getfield 248, 3) := zq_2 zo_180 zkX10_hold_32 10 rfl rfl 0 248 rfl rfl _ rfl
theorem dX10_hold_45 : decode cX10_hold 45 = .ok (.ishl, 1) := zq_0 zo_120 zkX10_hold_32 13 rfl rfl
theorem dX10_hold_46 : decode cX10_hold 46 = .ok (.iconst 1, 1) := zq_0 zo_4 zkX10_hold_32 14 rfl rfl
theorem dX10_hold_47 : decode cX10_hold 47 = .ok (.isub, 1) := zq_0 zo_100 zkX10_hold_32 15 rfl rfl
theorem dX10_hold_48 : decode cX10_hold 48 = .ok (.istore 6, 2) := zq_1 zo_54 zkX10_hold_32 16 rfl rfl 6 rfl
theorem dX10_hold_50 : decode cX10_hold 50 = .ok (.iconst 0, 1) := zq_0 zo_3 zkX10_hold_32 18 rfl rfl
theorem dX10_hold_51 : decode cX10_hold 51 = .ok (.istore 7, 2) := zq_1 zo_54 zkX10_hold_32 19 rfl rfl 7 rfl
theorem dX10_hold_53 : decode cX10_hold 53 = .ok (.iconst 0, 1) := zq_0 zo_3 zkX10_hold_32 21 rfl rfl
theorem dX10_hold_54 : decode cX10_hold 54 = .ok (.istore 8, 2) := zq_1 zo_54 zkX10_hold_32 22 rfl rfl 8 rfl
theorem dX10_hold_56 : decode cX10_hold 56 = .ok (.iload 8, 2) := zq_1 zo_21 zkX10_hold_32 24 rfl rfl 8 rfl
theorem dX10_hold_58 : decode cX10_hold 58 = .ok (.iconst 1, 1) := zq_0 zo_4 zkX10_hold_32 26 rfl rfl
theorem dX10_hold_59 : decode cX10_hold 59 = .ok (.aload_n 0, 1) := zq_0 zo_42 zkX10_hold_32 27 rfl rfl
theorem dX10_hold_60 : decode cX10_hold 60 = .ok (.getfield 248, 3) := zq_2 zo_180 zkX10_hold_32 28 rfl rfl 0 248 rfl rfl _ rfl
theorem dX10_hold_63 : decode cX10_hold 63 = .ok (.ishl, 1) := zq_0 zo_120 zkX10_hold_32 31 rfl rfl
theorem zkX10_hold_64 : zqc cX10_hold 64 [162, 0, 50, 42, 21, 8, 182, 1, 160, 153, 0, 35, 21, 5, 2, 160, 0, 8, 21, 8, 167, 0, 5, 21, 5, 54, 5, 132, 4, 1, 21, 6, 21, 8] := zq_of 34 (by decide +kernel)
theorem dX10_hold_64 : decode cX10_hold 64 = .ok (.if_icmp .ge 50, 3) := zq_2s zo_162 zkX10_hold_64 0 rfl rfl 0 50 rfl rfl _ (by decide +kernel)
theorem dX10_hold_67 : decode cX10_hold 67 = .ok (.aload_n 0, 1) := zq_0 zo_42 zkX10_hold_64 3 rfl rfl
theorem dX10_hold_68 : decode cX10_hold 68 = .ok (.iload 8, 2) := zq_1 zo_21 zkX10_hold_64 4 rfl rfl 8 rfl
theorem dX10_hold_70 : decode cX10_hold 70 = .ok (.invokevirtual 416, 3) := zq_2 zo_182 zkX10_hold_64 6 rfl rfl 1 160 rfl rfl _ rfl
theorem dX10_hold_73 : decode cX10_hold 73 = .ok (.ifCond .eq 35, 3) := zq_2s zo_153 zkX10_hold_64 9 rfl rfl 0 35 rfl rfl _ (by decide +kernel)
theorem dX10_hold_76 : decode cX10_hold 76 = .ok (.iload 5, 2) := zq_1 zo_21 zkX10_hold_64 12 rfl rfl 5 rfl
theorem dX10_hold_78 : decode cX10_hold 78 = .ok (.iconst (-1), 1) := zq_0 zo_2 zkX10_hold_64 14 rfl rfl
theorem dX10_hold_79 : decode cX10_hold 79 = .ok (.if_icmp .ne 8, 3) := zq_2s zo_160 zkX10_hold_64 15 rfl rfl 0 8 rfl rfl _ (by decide +kernel)
theorem dX10_hold_82 : decode cX10_hold 82 = .ok (.iload 8, 2) := zq_1 zo_21 zkX10_hold_64 18 rfl rfl 8 rfl
theorem dX10_hold_84 : decode cX10_hold 84 = .ok (.goto 5, 3) := zq_2s zo_167 zkX10_hold_64 20 rfl rfl 0 5 rfl rfl _ (by decide +kernel)
theorem dX10_hold_87 : decode cX10_hold 87 = .ok (.iload 5, 2) := zq_1 zo_21 zkX10_hold_64 23 rfl rfl 5 rfl
theorem dX10_hold_89 : decode cX10_hold 89 = .ok (.istore 5, 2) := zq_1 zo_54 zkX10_hold_64 25 rfl rfl 5 rfl
theorem dX10_hold_91 : decode cX10_hold 91 = .ok (.iinc 4 1, 3) := zq_ii zo_132 zkX10_hold_64 27 rfl rfl 4 1 rfl rfl _ (by decide +kernel)
theorem dX10_hold_94 : decode cX10_hold 94 = .ok (.iload 6, 2) := zq_1 zo_21 zkX10_hold_64 30 rfl rfl 6 rfl
theorem zkX10_hold_96 : zqc cX10_hold 96 [21, 8, 126, 54, 6, 21, 7, 21, 8, 128, 54, 7, 132, 8, 1, 167, 255, 201, 29, 154, 0, 8, 21, 4, 167, 0, 34, 29, 4, 160, 0, 17, 21, 4] := zq_of 34 (by decide +kernel)
theorem dX10_hold_96 : decode cX10_hold 96 = .ok (.iload 8, 2) := zq_1 zo_21 zkX10_hold_96 0 rfl rfl 8 rfl
theorem dX10_hold_98 : decode cX10_hold 98 = .ok (.iand, 1) := zq_0 zo_126 zkX10_hold_96 2 rfl rfl
theorem dX10_hold_99 : decode cX10_hold 99 = .ok (.istore 6, 2) := zq_1 zo_54 zkX10_hold_96 3 rfl rfl 6 rfl
theorem dX10_hold_101 : decode cX10_hold 101 = .ok (.iload 7, 2) := zq_1 zo_21 zkX10_hold_96 5 rfl rfl 7 rfl
theorem dX10_hold_103 : decode cX10_hold 103 = .ok (.iload 8, 2) := zq_1 zo_21 zkX10_hold_96 7 rfl rfl 8 rfl
theorem dX10_hold_105 : decode cX10_hold 105 = .ok (.ior, 1) := zq_0 zo_128 zkX10_hold_96 9 rfl rfl
theorem dX10_hold_106 : decode cX10_hold 106 = .ok (.istore 7, 2) := zq_1 zo_54 zkX10_hold_96 10 rfl rfl 7 rfl
theorem dX10_hold_108 : decode cX10_hold 108 = .ok (.iinc 8 1, 3) := zq_ii zo_132 zkX10_hold_96 12 rfl rfl 8 1 rfl rfl _ (by decide +kernel)
theorem dX10_hold_111 : decode cX10_hold 111 = .ok (.goto (-55), 3) := zq_2s zo_167 zkX10_hold_96 15 rfl rfl 255 201 rfl rfl _ (by decide +kernel)
theorem dX10_hold_114 : decode cX10_hold 114 = .ok (.iload_n 3, 1) := zq_0 zo_29 zkX10_hold_96 18 rfl rfl
theorem dX10_hold_115 : decode cX10_hold 115 = .ok (.ifCond .ne 8, 3) := zq_2s zo_154 zkX10_hold_96 19 rfl rfl 0 8 rfl rfl _ (by decide +kernel)
theorem dX10_hold_118 : decode cX10_hold 118 = .ok (.iload 4, 2) := zq_1 zo_21 zkX10_hold_96 22 rfl rfl 4 rfl
theorem dX10_hold_120 : decode cX10_hold 120 = .ok (.goto 34, 3) := zq_2s zo_167 zkX10_hold_96 24 rfl rfl 0 34 rfl rfl _ (by decide +kernel)
theorem dX10_hold_123 : decode cX10_hold 123 = .ok (.iload_n 3, 1) := zq_0 zo_29 zkX10_hold_96 27 rfl rfl
theorem dX10_hold_124 : decode cX10_hold 124 = .ok (.iconst 1, 1) := zq_0 zo_4 zkX10_hold_96 28 rfl rfl
theorem dX10_hold_125 : decode cX10_hold 125 = .ok (.if_icmp .ne 17, 3) := zq_2s zo_160 zkX10_hold_96 29 rfl rfl 0 17 rfl rfl _ (by decide +kernel)
theorem zkX10_hold_128 : zqc cX10_hold 128 [21, 4, 154, 0, 7, 2, 167, 0, 20, 21, 6, 167, 0, 15, 29, 5, 160, 0, 8, 21, 7, 167, 0, 5, 21, 5, 172] := zq_of 27 (by decide +kernel)
theorem dX10_hold_128 : decode cX10_hold 128 = .ok (.iload 4, 2) := zq_1 zo_21 zkX10_hold_128 0 rfl rfl 4 rfl
theorem dX10_hold_130 : decode cX10_hold 130 = .ok (.ifCond .ne 7, 3) := zq_2s zo_154 zkX10_hold_128 2 rfl rfl 0 7 rfl rfl _ (by decide +kernel)
theorem dX10_hold_133 : decode cX10_hold 133 = .ok (.iconst (-1), 1) := zq_0 zo_2 zkX10_hold_128 5 rfl rfl
theorem dX10_hold_134 : decode cX10_hold 134 = .ok (.goto 20, 3) := zq_2s zo_167 zkX10_hold_128 6 rfl rfl 0 20 rfl rfl _ (by decide +kernel)
theorem dX10_hold_137 : decode cX10_hold 137 = .ok (.iload 6, 2) := zq_1 zo_21 zkX10_hold_128 9 rfl rfl 6 rfl
theorem dX10_hold_139 : decode cX10_hold 139 = .ok (.goto 15, 3) := zq_2s zo_167 zkX10_hold_128 11 rfl rfl 0 15 rfl rfl _ (by decide +kernel)
theorem dX10_hold_142 : decode cX10_hold 142 = .ok (.iload_n 3, 1) := zq_0 zo_29 zkX10_hold_128 14 rfl rfl
theorem dX10_hold_143 : decode cX10_hold 143 = .ok (.iconst 2, 1) := zq_0 zo_5 zkX10_hold_128 15 rfl rfl
theorem dX10_hold_144 : decode cX10_hold 144 = .ok (.if_icmp .ne 8, 3) := zq_2s zo_160 zkX10_hold_128 16 rfl rfl 0 8 rfl rfl _ (by decide +kernel)
theorem dX10_hold_147 : decode cX10_hold 147 = .ok (.iload 7, 2) := zq_1 zo_21 zkX10_hold_128 19 rfl rfl 7 rfl
theorem dX10_hold_149 : decode cX10_hold 149 = .ok (.goto 5, 3) := zq_2s zo_167 zkX10_hold_128 21 rfl rfl 0 5 rfl rfl _ (by decide +kernel)
theorem dX10_hold_152 : decode cX10_hold 152 = .ok (.iload 5, 2) := zq_1 zo_21 zkX10_hold_128 24 rfl rfl 5 rfl
theorem dX10_hold_154 : decode cX10_hold 154 = .ok (.ireturn, 1) := zq_0 zo_172 zkX10_hold_128 26 rfl rfl
theorem zkX10_allWaits_0 : zqc cX10_allWaits 0 [3, 60, 3, 61, 28, 42, 180, 0, 245, 162, 0, 18, 27, 42, 180, 0, 79, 28, 46, 96, 60, 132, 2, 1, 167, 255, 236, 27, 172] := zq_of 29 (by decide +kernel)
theorem dX10_allWaits_0 : decode cX10_allWaits 0 = .ok (.iconst 0, 1) := zq_0 zo_3 zkX10_allWaits_0 0 rfl rfl
theorem dX10_allWaits_1 : decode cX10_allWaits 1 = .ok (.istore_n 1, 1) := zq_0 zo_60 zkX10_allWaits_0 1 rfl rfl
theorem dX10_allWaits_2 : decode cX10_allWaits 2 = .ok (.iconst 0, 1) := zq_0 zo_3 zkX10_allWaits_0 2 rfl rfl
theorem dX10_allWaits_3 : decode cX10_allWaits 3 = .ok (.istore_n 2, 1) := zq_0 zo_61 zkX10_allWaits_0 3 rfl rfl
theorem dX10_allWaits_4 : decode cX10_allWaits 4 = .ok (.iload_n 2, 1) := zq_0 zo_28 zkX10_allWaits_0 4 rfl rfl
theorem dX10_allWaits_5 : decode cX10_allWaits 5 = .ok (.aload_n 0, 1) := zq_0 zo_42 zkX10_allWaits_0 5 rfl rfl
theorem dX10_allWaits_6 : decode cX10_allWaits 6 = .ok (.getfield 245, 3) := zq_2 zo_180 zkX10_allWaits_0 6 rfl rfl 0 245 rfl rfl _ rfl
theorem dX10_allWaits_9 : decode cX10_allWaits 9 = .ok (.if_icmp .ge 18, 3) := zq_2s zo_162 zkX10_allWaits_0 9 rfl rfl 0 18 rfl rfl _ (by decide +kernel)
theorem dX10_allWaits_12 : decode cX10_allWaits 12 = .ok (.iload_n 1, 1) := zq_0 zo_27 zkX10_allWaits_0 12 rfl rfl
theorem dX10_allWaits_13 : decode cX10_allWaits 13 = .ok (.aload_n 0, 1) := zq_0 zo_42 zkX10_allWaits_0 13 rfl rfl
theorem dX10_allWaits_14 : decode cX10_allWaits 14 = .ok (.getfield 79, 3) := zq_2 zo_180 zkX10_allWaits_0 14 rfl rfl 0 79 rfl rfl _ rfl
theorem dX10_allWaits_17 : decode cX10_allWaits 17 = .ok (.iload_n 2, 1) := zq_0 zo_28 zkX10_allWaits_0 17 rfl rfl
theorem dX10_allWaits_18 : decode cX10_allWaits 18 = .ok (.iaload, 1) := zq_0 zo_46 zkX10_allWaits_0 18 rfl rfl
theorem dX10_allWaits_19 : decode cX10_allWaits 19 = .ok (.iadd, 1) := zq_0 zo_96 zkX10_allWaits_0 19 rfl rfl
theorem dX10_allWaits_20 : decode cX10_allWaits 20 = .ok (.istore_n 1, 1) := zq_0 zo_60 zkX10_allWaits_0 20 rfl rfl
theorem dX10_allWaits_21 : decode cX10_allWaits 21 = .ok (.iinc 2 1, 3) := zq_ii zo_132 zkX10_allWaits_0 21 rfl rfl 2 1 rfl rfl _ (by decide +kernel)
theorem dX10_allWaits_24 : decode cX10_allWaits 24 = .ok (.goto (-20), 3) := zq_2s zo_167 zkX10_allWaits_0 24 rfl rfl 255 236 rfl rfl _ (by decide +kernel)
theorem dX10_allWaits_27 : decode cX10_allWaits 27 = .ok (.iload_n 1, 1) := zq_0 zo_27 zkX10_allWaits_0 27 rfl rfl
theorem dX10_allWaits_28 : decode cX10_allWaits 28 = .ok (.ireturn, 1) := zq_0 zo_172 zkX10_allWaits_0 28 rfl rfl
theorem zkX10_risk_0 : zqc cX10_risk 0 [42, 3, 181, 0, 91, 28, 3, 4, 184, 0, 103, 153, 0, 22, 42, 27, 3, 182, 1, 1, 153, 0, 13, 42, 16, 6, 182, 0, 238, 2, 160, 0, 5, 2] := zq_of 34 (by decide +kernel)
theorem dX10_risk_0 : decode cX10_risk 0 = .ok (.aload_n 0, 1) := zq_0 zo_42 zkX10_risk_0 0 rfl rfl
theorem dX10_risk_1 : decode cX10_risk 1 = .ok (.iconst 0, 1) := zq_0 zo_3 zkX10_risk_0 1 rfl rfl
theorem dX10_risk_2 : decode cX10_risk 2 = .ok (.putfield 91, 3) := zq_2 zo_181 zkX10_risk_0 2 rfl rfl 0 91 rfl rfl _ rfl
theorem dX10_risk_5 : decode cX10_risk 5 = .ok (.iload_n 2, 1) := zq_0 zo_28 zkX10_risk_0 5 rfl rfl
theorem dX10_risk_6 : decode cX10_risk 6 = .ok (.iconst 0, 1) := zq_0 zo_3 zkX10_risk_0 6 rfl rfl
theorem dX10_risk_7 : decode cX10_risk 7 = .ok (.iconst 1, 1) := zq_0 zo_4 zkX10_risk_0 7 rfl rfl
theorem dX10_risk_8 : decode cX10_risk 8 = .ok (.invokestatic 103, 3) := zq_2 zo_184 zkX10_risk_0 8 rfl rfl 0 103 rfl rfl _ rfl
theorem dX10_risk_11 : decode cX10_risk 11 = .ok (.ifCond .eq 22, 3) := zq_2s zo_153 zkX10_risk_0 11 rfl rfl 0 22 rfl rfl _ (by decide +kernel)
theorem dX10_risk_14 : decode cX10_risk 14 = .ok (.aload_n 0, 1) := zq_0 zo_42 zkX10_risk_0 14 rfl rfl
theorem dX10_risk_15 : decode cX10_risk 15 = .ok (.iload_n 1, 1) := zq_0 zo_27 zkX10_risk_0 15 rfl rfl
theorem dX10_risk_16 : decode cX10_risk 16 = .ok (.iconst 0, 1) := zq_0 zo_3 zkX10_risk_0 16 rfl rfl
theorem dX10_risk_17 : decode cX10_risk 17 = .ok (.invokevirtual 257, 3) := zq_2 zo_182 zkX10_risk_0 17 rfl rfl 1 1 rfl rfl _ rfl
theorem dX10_risk_20 : decode cX10_risk 20 = .ok (.ifCond .eq 13, 3) := zq_2s zo_153 zkX10_risk_0 20 rfl rfl 0 13 rfl rfl _ (by decide +kernel)
theorem dX10_risk_23 : decode cX10_risk 23 = .ok (.aload_n 0, 1) := zq_0 zo_42 zkX10_risk_0 23 rfl rfl
theorem dX10_risk_24 : decode cX10_risk 24 = .ok (.bipush 6, 2) := zq_1s zo_16 zkX10_risk_0 24 rfl rfl 6 rfl _ (by decide +kernel)
theorem dX10_risk_26 : decode cX10_risk 26 = .ok (.invokevirtual 238, 3) := zq_2 zo_182 zkX10_risk_0 26 rfl rfl 0 238 rfl rfl _ rfl
theorem dX10_risk_29 : decode cX10_risk 29 = .ok (.iconst (-1), 1) := zq_0 zo_2 zkX10_risk_0 29 rfl rfl
theorem dX10_risk_30 : decode cX10_risk 30 = .ok (.if_icmp .ne 5, 3) := zq_2s zo_160 zkX10_risk_0 30 rfl rfl 0 5 rfl rfl _ (by decide +kernel)
theorem zkX10_risk_32 : zqc cX10_risk 32 [5, 2, 172, 3, 62, 29, 42, 180, 0, 245, 162, 0, 16, 42, 180, 0, 59, 29, 2, 79, 132, 3, 1, 167, 255, 238, 42, 182, 1, 121, 42, 182, 1, 163] := zq_of 34 (by decide +kernel)
theorem dX10_risk_33 : decode cX10_risk 33 = .ok (.iconst (-1), 1) := zq_0 zo_2 zkX10_risk_32 1 rfl rfl
theorem dX10_risk_34 : decode cX10_risk 34 = .ok (.ireturn, 1) := zq_0 zo_172 zkX10_risk_32 2 rfl rfl
theorem dX10_risk_35 : decode cX10_risk 35 = .ok (.iconst 0, 1) := zq_0 zo_3 zkX10_risk_32 3 rfl rfl
theorem dX10_risk_36 : decode cX10_risk 36 = .ok (.istore_n 3, 1) := zq_0 zo_62 zkX10_risk_32 4 rfl rfl
theorem dX10_risk_37 : decode cX10_risk 37 = .ok (.iload_n 3, 1) := zq_0 zo_29 zkX10_risk_32 5 rfl rfl
theorem dX10_risk_38 : decode cX10_risk 38 = .ok (.aload_n 0, 1) := zq_0 zo_42 zkX10_risk_32 6 rfl rfl
theorem dX10_risk_39 : decode cX10_risk 39 = .ok (.getfield 245, 3) := zq_2 zo_180 zkX10_risk_32 7 rfl rfl 0 245 rfl rfl _ rfl
theorem dX10_risk_42 : decode cX10_risk 42 = .ok (.if_icmp .ge 16, 3) := zq_2s zo_162 zkX10_risk_32 10 rfl rfl 0 16 rfl rfl _ (by decide +kernel)
theorem dX10_risk_45 : decode cX10_risk 45 = .ok (.aload_n 0, 1) := zq_0 zo_42 zkX10_risk_32 13 rfl rfl
theorem dX10_risk_46 : decode cX10_risk 46 = .ok (.getfield 59, 3) := zq_2 zo_180 zkX10_risk_32 14 rfl rfl 0 59 rfl rfl _ rfl
theorem dX10_risk_49 : decode cX10_risk 49 = .ok (.iload_n 3, 1) := zq_0 zo_29 zkX10_risk_32 17 rfl rfl
theorem dX10_risk_50 : decode cX10_risk 50 = .ok (.iconst (-1), 1) := zq_0 zo_2 zkX10_risk_32 18 rfl rfl
theorem dX10_risk_51 : decode cX10_risk 51 = .ok (.iastore, 1) := zq_0 zo_79 zkX10_risk_32 19 rfl rfl
theorem dX10_risk_52 : decode cX10_risk 52 = .ok (.iinc 3 1, 3) := zq_ii zo_132 zkX10_risk_32 20 rfl rfl 3 1 rfl rfl _ (by decide +kernel)
theorem dX10_risk_55 : decode cX10_risk 55 = .ok (.goto (-18), 3) := zq_2s zo_167 zkX10_risk_32 23 rfl rfl 255 238 rfl rfl _ (by decide +kernel)
theorem dX10_risk_58 : decode cX10_risk 58 = .ok (.aload_n 0, 1) := zq_0 zo_42 zkX10_risk_32 26 rfl rfl
theorem dX10_risk_59 : decode cX10_risk 59 = .ok (.invokevirtual 377, 3) := zq_2 zo_182 zkX10_risk_32 27 rfl rfl 1 121 rfl rfl _ rfl
theorem dX10_risk_62 : decode cX10_risk 62 = .ok (.aload_n 0, 1) := zq_0 zo_42 zkX10_risk_32 30 rfl rfl
theorem dX10_risk_63 : decode cX10_risk 63 = .ok (.invokevirtual 419, 3) := zq_2 zo_182 zkX10_risk_32 31 rfl rfl 1 163 rfl rfl _ rfl
theorem zkX10_risk_64 : zqc cX10_risk 64 [1, 163, 62, 3, 54, 4, 3, 54, 5, 21, 5, 42, 180, 0, 248, 162, 0, 82, 42, 180, 0, 59, 21, 5, 3, 79, 42, 182, 1, 121, 42, 180, 0, 59] := zq_of 34 (by decide +kernel)
theorem dX10_risk_66 : decode cX10_risk 66 = .ok (.istore_n 3, 1) := zq_0 zo_62 zkX10_risk_64 2 rfl rfl
theorem dX10_risk_67 : decode cX10_risk 67 = .ok (.iconst 0, 1) := zq_0 zo_3 zkX10_risk_64 3 rfl rfl
theorem dX10_risk_68 : decode cX10_risk 68 = .ok (.istore 4, 2) := zq_1 zo_54 zkX10_risk_64 4 rfl rfl 4 rfl
theorem dX10_risk_70 : decode cX10_risk 70 = .ok (.iconst 0, 1) := zq_0 zo_3 zkX10_risk_64 6 rfl rfl
theorem dX10_risk_71 : decode cX10_risk 71 = .ok (.istore 5, 2) := zq_1 zo_54 zkX10_risk_64 7 rfl rfl 5 rfl
theorem dX10_risk_73 : decode cX10_risk 73 = .ok (.iload 5, 2) := zq_1 zo_21 zkX10_risk_64 9 rfl rfl 5 rfl
theorem dX10_risk_75 : decode cX10_risk 75 = .ok (.aload_n 0, 1) := zq_0 zo_42 zkX10_risk_64 11 rfl rfl
theorem dX10_risk_76 : decode cX10_risk 76 = .ok (.getfield 248, 3) := zq_2 zo_180 zkX10_risk_64 12 rfl rfl 0 248 rfl rfl _ rfl
theorem dX10_risk_79 : decode cX10_risk 79 = .ok (.if_icmp .ge 82, 3) := zq_2s zo_162 zkX10_risk_64 15 rfl rfl 0 82 rfl rfl _ (by decide +kernel)
theorem dX10_risk_82 : decode cX10_risk 82 = .ok (.aload_n 0, 1) := zq_0 zo_42 zkX10_risk_64 18 rfl rfl
theorem dX10_risk_83 : decode cX10_risk 83 = .ok (.getfield 59, 3) := zq_2 zo_180 zkX10_risk_64 19 rfl rfl 0 59 rfl rfl _ rfl
theorem dX10_risk_86 : decode cX10_risk 86 = .ok (.iload 5, 2) := zq_1 zo_21 zkX10_risk_64 22 rfl rfl 5 rfl
theorem dX10_risk_88 : decode cX10_risk 88 = .ok (.iconst 0, 1) := zq_0 zo_3 zkX10_risk_64 24 rfl rfl
theorem dX10_risk_89 : decode cX10_risk 89 = .ok (.iastore, 1) := zq_0 zo_79 zkX10_risk_64 25 rfl rfl
theorem dX10_risk_90 : decode cX10_risk 90 = .ok (.aload_n 0, 1) := zq_0 zo_42 zkX10_risk_64 26 rfl rfl
theorem dX10_risk_91 : decode cX10_risk 91 = .ok (.invokevirtual 377, 3) := zq_2 zo_182 zkX10_risk_64 27 rfl rfl 1 121 rfl rfl _ rfl
theorem dX10_risk_94 : decode cX10_risk 94 = .ok (.aload_n 0, 1) := zq_0 zo_42 zkX10_risk_64 30 rfl rfl
theorem dX10_risk_95 : decode cX10_risk 95 = .ok (.getfield 59, 3) := zq_2 zo_180 zkX10_risk_64 31 rfl rfl 0 59 rfl rfl _ rfl
theorem zkX10_risk_96 : zqc cX10_risk 96 [0, 59, 21, 5, 2, 79, 28, 154, 0, 19, 42, 180, 1, 115, 2, 159, 0, 7, 4, 167, 0, 20, 3, 167, 0, 16, 42, 182, 1, 163, 29, 164, 0, 7] := zq_of 34 (by decide +kernel)
theorem dX10_risk_98 : decode cX10_risk 98 = .ok (.iload 5, 2) := zq_1 zo_21 zkX10_risk_96 2 rfl rfl 5 rfl
theorem dX10_risk_100 : decode cX10_risk 100 = .ok (.iconst (-1), 1) := zq_0 zo_2 zkX10_risk_96 4 rfl rfl
theorem dX10_risk_101 : decode cX10_risk 101 = .ok (.iastore, 1) := zq_0 zo_79 zkX10_risk_96 5 rfl rfl
theorem dX10_risk_102 : decode cX10_risk 102 = .ok (.iload_n 2, 1) := zq_0 zo_28 zkX10_risk_96 6 rfl rfl
theorem dX10_risk_103 : decode cX10_risk 103 = .ok (.ifCond .ne 19, 3) := zq_2s zo_154 zkX10_risk_96 7 rfl rfl 0 19 rfl rfl _ (by decide +kernel)
theorem dX10_risk_106 : decode cX10_risk 106 = .ok (.aload_n 0, 1) := zq_0 zo_42 zkX10_risk_96 10 rfl rfl
theorem dX10_risk_107 : decode cX10_risk 107 = .ok (.getfield 371, 3) := zq_2 zo_180 zkX10_risk_96 11 rfl rfl 1 115 rfl rfl _ rfl
theorem dX10_risk_110 : decode cX10_risk 110 = .ok (.iconst (-1), 1) := zq_0 zo_2 zkX10_risk_96 14 rfl rfl
theorem dX10_risk_111 : decode cX10_risk 111 = .ok (.if_icmp .eq 7, 3) := zq_2s zo_159 zkX10_risk_96 15 rfl rfl 0 7 rfl rfl _ (by decide +kernel)
theorem dX10_risk_114 : decode cX10_risk 114 = .ok (.iconst 1, 1) := zq_0 zo_4 zkX10_risk_96 18 rfl rfl
theorem dX10_risk_115 : decode cX10_risk 115 = .ok (.goto 20, 3) := zq_2s zo_167 zkX10_risk_96 19 rfl rfl 0 20 rfl rfl _ (by decide +kernel)
theorem dX10_risk_118 : decode cX10_risk 118 = .ok (.iconst 0, 1) := zq_0 zo_3 zkX10_risk_96 22 rfl rfl
theorem dX10_risk_119 : decode cX10_risk 119 = .ok (.goto 16, 3) := zq_2s zo_167 zkX10_risk_96 23 rfl rfl 0 16 rfl rfl _ (by decide +kernel)
theorem dX10_risk_122 : decode cX10_risk 122 = .ok (.aload_n 0, 1) := zq_0 zo_42 zkX10_risk_96 26 rfl rfl
theorem dX10_risk_123 : decode cX10_risk 123 = .ok (.invokevirtual 419, 3) := zq_2 zo_182 zkX10_risk_96 27 rfl rfl 1 163 rfl rfl _ rfl
theorem dX10_risk_126 : decode cX10_risk 126 = .ok (.iload_n 3, 1) := zq_0 zo_29 zkX10_risk_96 30 rfl rfl
theorem dX10_risk_127 : decode cX10_risk 127 = .ok (.if_icmp .le 7, 3) := zq_2s zo_164 zkX10_risk_96 31 rfl rfl 0 7 rfl rfl _ (by decide +kernel)
theorem zkX10_risk_128 : zqc cX10_risk 128 [0, 7, 4, 167, 0, 4, 3, 54, 6, 21, 4, 21, 6, 153, 0, 10, 4, 21, 5, 120, 167, 0, 4, 3, 128, 54, 4, 132, 5, 1, 167, 255, 171, 21] := zq_of 34 (by decide +kernel)
theorem dX10_risk_130 : decode cX10_risk 130 = .ok (.iconst 1, 1) := zq_0 zo_4 zkX10_risk_128 2 rfl rfl
theorem dX10_risk_131 : decode cX10_risk 131 = .ok (.goto 4, 3) := zq_2s zo_167 zkX10_risk_128 3 rfl rfl 0 4 rfl rfl _ (by decide +kernel)
theorem dX10_risk_134 : decode cX10_risk 134 = .ok (.iconst 0, 1) := zq_0 zo_3 zkX10_risk_128 6 rfl rfl
theorem dX10_risk_135 : decode cX10_risk 135 = .ok (.istore 6, 2) := zq_1 zo_54 zkX10_risk_128 7 rfl rfl 6 rfl
theorem dX10_risk_137 : decode cX10_risk 137 = .ok (.iload 4, 2) := zq_1 zo_21 zkX10_risk_128 9 rfl rfl 4 rfl
theorem dX10_risk_139 : decode cX10_risk 139 = .ok (.iload 6, 2) := zq_1 zo_21 zkX10_risk_128 11 rfl rfl 6 rfl
theorem dX10_risk_141 : decode cX10_risk 141 = .ok (.ifCond .eq 10, 3) := zq_2s zo_153 zkX10_risk_128 13 rfl rfl 0 10 rfl rfl _ (by decide +kernel)
theorem dX10_risk_144 : decode cX10_risk 144 = .ok (.iconst 1, 1) := zq_0 zo_4 zkX10_risk_128 16 rfl rfl
theorem dX10_risk_145 : decode cX10_risk 145 = .ok (.iload 5, 2) := zq_1 zo_21 zkX10_risk_128 17 rfl rfl 5 rfl
theorem dX10_risk_147 : decode cX10_risk 147 = .ok (.ishl, 1) := zq_0 zo_120 zkX10_risk_128 19 rfl rfl
theorem dX10_risk_148 : decode cX10_risk 148 = .ok (.goto 4, 3) := zq_2s zo_167 zkX10_risk_128 20 rfl rfl 0 4 rfl rfl _ (by decide +kernel)
theorem dX10_risk_151 : decode cX10_risk 151 = .ok (.iconst 0, 1) := zq_0 zo_3 zkX10_risk_128 23 rfl rfl
theorem dX10_risk_152 : decode cX10_risk 152 = .ok (.ior, 1) := zq_0 zo_128 zkX10_risk_128 24 rfl rfl
theorem dX10_risk_153 : decode cX10_risk 153 = .ok (.istore 4, 2) := zq_1 zo_54 zkX10_risk_128 25 rfl rfl 4 rfl
theorem dX10_risk_155 : decode cX10_risk 155 = .ok (.iinc 5 1, 3) := zq_ii zo_132 zkX10_risk_128 27 rfl rfl 5 1 rfl rfl _ (by decide +kernel)
theorem dX10_risk_158 : decode cX10_risk 158 = .ok (.goto (-85), 3) := zq_2s zo_167 zkX10_risk_128 30 rfl rfl 255 171 rfl rfl _ (by decide +kernel)
theorem zkX10_risk_160 : zqc cX10_risk 160 [171, 21, 4, 172] := zq_of 4 (by decide +kernel)
theorem dX10_risk_161 : decode cX10_risk 161 = .ok (.iload 4, 2) := zq_1 zo_21 zkX10_risk_160 1 rfl rfl 4 rfl
theorem dX10_risk_163 : decode cX10_risk 163 = .ok (.ireturn, 1) := zq_0 zo_172 zkX10_risk_160 3 rfl rfl
theorem zkX10_lawFor_0 : zqc cX10_lawFor 0 [3, 62, 19, 1, 88, 54, 4, 3, 54, 5, 21, 5, 7, 162, 0, 50, 42, 21, 5, 28, 42, 182, 1, 51, 182, 1, 54, 42, 27, 182, 1, 79, 54, 6] := zq_of 34 (by decide +kernel)
theorem dX10_lawFor_0 : decode cX10_lawFor 0 = .ok (.iconst 0, 1) := zq_0 zo_3 zkX10_lawFor_0 0 rfl rfl
theorem dX10_lawFor_1 : decode cX10_lawFor 1 = .ok (.istore_n 3, 1) := zq_0 zo_62 zkX10_lawFor_0 1 rfl rfl
theorem dX10_lawFor_2 : decode cX10_lawFor 2 = .ok (.ldc_w 344, 3) := zq_2 zo_19 zkX10_lawFor_0 2 rfl rfl 1 88 rfl rfl _ rfl
theorem dX10_lawFor_5 : decode cX10_lawFor 5 = .ok (.istore 4, 2) := zq_1 zo_54 zkX10_lawFor_0 5 rfl rfl 4 rfl
theorem dX10_lawFor_7 : decode cX10_lawFor 7 = .ok (.iconst 0, 1) := zq_0 zo_3 zkX10_lawFor_0 7 rfl rfl
theorem dX10_lawFor_8 : decode cX10_lawFor 8 = .ok (.istore 5, 2) := zq_1 zo_54 zkX10_lawFor_0 8 rfl rfl 5 rfl
theorem dX10_lawFor_10 : decode cX10_lawFor 10 = .ok (.iload 5, 2) := zq_1 zo_21 zkX10_lawFor_0 10 rfl rfl 5 rfl
theorem dX10_lawFor_12 : decode cX10_lawFor 12 = .ok (.iconst 4, 1) := zq_0 zo_7 zkX10_lawFor_0 12 rfl rfl
theorem dX10_lawFor_13 : decode cX10_lawFor 13 = .ok (.if_icmp .ge 50, 3) := zq_2s zo_162 zkX10_lawFor_0 13 rfl rfl 0 50 rfl rfl _ (by decide +kernel)
theorem dX10_lawFor_16 : decode cX10_lawFor 16 = .ok (.aload_n 0, 1) := zq_0 zo_42 zkX10_lawFor_0 16 rfl rfl
theorem dX10_lawFor_17 : decode cX10_lawFor 17 = .ok (.iload 5, 2) := zq_1 zo_21 zkX10_lawFor_0 17 rfl rfl 5 rfl
theorem dX10_lawFor_19 : decode cX10_lawFor 19 = .ok (.iload_n 2, 1) := zq_0 zo_28 zkX10_lawFor_0 19 rfl rfl
theorem dX10_lawFor_20 : decode cX10_lawFor 20 = .ok (.aload_n 0, 1) := zq_0 zo_42 zkX10_lawFor_0 20 rfl rfl
theorem dX10_lawFor_21 : decode cX10_lawFor 21 = .ok (.invokevirtual 307, 3) := zq_2 zo_182 zkX10_lawFor_0 21 rfl rfl 1 51 rfl rfl _ rfl
theorem dX10_lawFor_24 : decode cX10_lawFor 24 = .ok (.invokevirtual 310, 3) := zq_2 zo_182 zkX10_lawFor_0 24 rfl rfl 1 54 rfl rfl _ rfl
theorem dX10_lawFor_27 : decode cX10_lawFor 27 = .ok (.aload_n 0, 1) := zq_0 zo_42 zkX10_lawFor_0 27 rfl rfl
theorem dX10_lawFor_28 : decode cX10_lawFor 28 = .ok (.iload_n 1, 1) := zq_0 zo_27 zkX10_lawFor_0 28 rfl rfl
theorem dX10_lawFor_29 : decode cX10_lawFor 29 = .ok (.invokevirtual 335, 3) := zq_2 zo_182 zkX10_lawFor_0 29 rfl rfl 1 79 rfl rfl _ rfl
theorem zkX10_lawFor_32 : zqc cX10_lawFor 32 [54, 6, 21, 6, 21, 4, 164, 0, 8, 21, 5, 167, 0, 4, 29, 62, 21, 4, 21, 6, 184, 0, 160, 54, 4, 132, 5, 1, 167, 255, 206, 29, 172] := zq_of 33 (by decide +kernel)
theorem dX10_lawFor_32 : decode cX10_lawFor 32 = .ok (.istore 6, 2) := zq_1 zo_54 zkX10_lawFor_32 0 rfl rfl 6 rfl
theorem dX10_lawFor_34 : decode cX10_lawFor 34 = .ok (.iload 6, 2) := zq_1 zo_21 zkX10_lawFor_32 2 rfl rfl 6 rfl
theorem dX10_lawFor_36 : decode cX10_lawFor 36 = .ok (.iload 4, 2) := zq_1 zo_21 zkX10_lawFor_32 4 rfl rfl 4 rfl
theorem dX10_lawFor_38 : decode cX10_lawFor 38 = .ok (.if_icmp .le 8, 3) := zq_2s zo_164 zkX10_lawFor_32 6 rfl rfl 0 8 rfl rfl _ (by decide +kernel)
theorem dX10_lawFor_41 : decode cX10_lawFor 41 = .ok (.iload 5, 2) := zq_1 zo_21 zkX10_lawFor_32 9 rfl rfl 5 rfl
theorem dX10_lawFor_43 : decode cX10_lawFor 43 = .ok (.goto 4, 3) := zq_2s zo_167 zkX10_lawFor_32 11 rfl rfl 0 4 rfl rfl _ (by decide +kernel)
theorem dX10_lawFor_46 : decode cX10_lawFor 46 = .ok (.iload_n 3, 1) := zq_0 zo_29 zkX10_lawFor_32 14 rfl rfl
theorem dX10_lawFor_47 : decode cX10_lawFor 47 = .ok (.istore_n 3, 1) := zq_0 zo_62 zkX10_lawFor_32 15 rfl rfl
theorem dX10_lawFor_48 : decode cX10_lawFor 48 = .ok (.iload 4, 2) := zq_1 zo_21 zkX10_lawFor_32 16 rfl rfl 4 rfl
theorem dX10_lawFor_50 : decode cX10_lawFor 50 = .ok (.iload 6, 2) := zq_1 zo_21 zkX10_lawFor_32 18 rfl rfl 6 rfl
theorem dX10_lawFor_52 : decode cX10_lawFor 52 = .ok (.invokestatic 160, 3) := zq_2 zo_184 zkX10_lawFor_32 20 rfl rfl 0 160 rfl rfl _ rfl
theorem dX10_lawFor_55 : decode cX10_lawFor 55 = .ok (.istore 4, 2) := zq_1 zo_54 zkX10_lawFor_32 23 rfl rfl 4 rfl
theorem dX10_lawFor_57 : decode cX10_lawFor 57 = .ok (.iinc 5 1, 3) := zq_ii zo_132 zkX10_lawFor_32 25 rfl rfl 5 1 rfl rfl _ (by decide +kernel)
theorem dX10_lawFor_60 : decode cX10_lawFor 60 = .ok (.goto (-50), 3) := zq_2s zo_167 zkX10_lawFor_32 28 rfl rfl 255 206 rfl rfl _ (by decide +kernel)
theorem dX10_lawFor_63 : decode cX10_lawFor 63 = .ok (.iload_n 3, 1) := zq_0 zo_29 zkX10_lawFor_32 31 rfl rfl
theorem zkX10_lawFor_64 : zqc cX10_lawFor 64 [172] := zq_of 1 (by decide +kernel)
theorem dX10_lawFor_64 : decode cX10_lawFor 64 = .ok (.ireturn, 1) := zq_0 zo_172 zkX10_lawFor_64 0 rfl rfl
theorem zkX10_vote_0 : zqc cX10_vote 0 [42, 3, 181, 0, 91, 42, 27, 29, 182, 1, 1, 153, 0, 10, 42, 180, 0, 251, 154, 0, 5, 2, 172, 3, 54, 5, 21, 5, 7, 162, 0, 17, 42, 180] := zq_of 34 (by decide +kernel)
theorem dX10_vote_0 : decode cX10_vote 0 = .ok (.aload_n 0, 1) := zq_0 zo_42 zkX10_vote_0 0 rfl rfl
theorem dX10_vote_1 : decode cX10_vote 1 = .ok (.iconst 0, 1) := zq_0 zo_3 zkX10_vote_0 1 rfl rfl
theorem dX10_vote_2 : decode cX10_vote 2 = .ok (.putfield 91, 3) := zq_2 zo_181 zkX10_vote_0 2 rfl rfl 0 91 rfl rfl _ rfl
theorem dX10_vote_5 : decode cX10_vote 5 = .ok (.aload_n 0, 1) := zq_0 zo_42 zkX10_vote_0 5 rfl rfl
theorem dX10_vote_6 : decode cX10_vote 6 = .ok (.iload_n 1, 1) := zq_0 zo_27 zkX10_vote_0 6 rfl rfl
theorem dX10_vote_7 : decode cX10_vote 7 = .ok (.iload_n 3, 1) := zq_0 zo_29 zkX10_vote_0 7 rfl rfl
theorem dX10_vote_8 : decode cX10_vote 8 = .ok (.invokevirtual 257, 3) := zq_2 zo_182 zkX10_vote_0 8 rfl rfl 1 1 rfl rfl _ rfl
theorem dX10_vote_11 : decode cX10_vote 11 = .ok (.ifCond .eq 10, 3) := zq_2s zo_153 zkX10_vote_0 11 rfl rfl 0 10 rfl rfl _ (by decide +kernel)
theorem dX10_vote_14 : decode cX10_vote 14 = .ok (.aload_n 0, 1) := zq_0 zo_42 zkX10_vote_0 14 rfl rfl
theorem dX10_vote_15 : decode cX10_vote 15 = .ok (.getfield 251, 3) := zq_2 zo_180 zkX10_vote_0 15 rfl rfl 0 251 rfl rfl _ rfl
theorem dX10_vote_18 : decode cX10_vote 18 = .ok (.ifCond .ne 5, 3) := zq_2s zo_154 zkX10_vote_0 18 rfl rfl 0 5 rfl rfl _ (by decide +kernel)
theorem dX10_vote_21 : decode cX10_vote 21 = .ok (.iconst (-1), 1) := zq_0 zo_2 zkX10_vote_0 21 rfl rfl
theorem dX10_vote_22 : decode cX10_vote 22 = .ok (.ireturn, 1) := zq_0 zo_172 zkX10_vote_0 22 rfl rfl
theorem dX10_vote_23 : decode cX10_vote 23 = .ok (.iconst 0, 1) := zq_0 zo_3 zkX10_vote_0 23 rfl rfl
theorem dX10_vote_24 : decode cX10_vote 24 = .ok (.istore 5, 2) := zq_1 zo_54 zkX10_vote_0 24 rfl rfl 5 rfl
theorem dX10_vote_26 : decode cX10_vote 26 = .ok (.iload 5, 2) := zq_1 zo_21 zkX10_vote_0 26 rfl rfl 5 rfl
theorem dX10_vote_28 : decode cX10_vote 28 = .ok (.iconst 4, 1) := zq_0 zo_7 zkX10_vote_0 28 rfl rfl
theorem dX10_vote_29 : decode cX10_vote 29 = .ok (.if_icmp .ge 17, 3) := zq_2s zo_162 zkX10_vote_0 29 rfl rfl 0 17 rfl rfl _ (by decide +kernel)
theorem zkX10_vote_32 : zqc cX10_vote 32 [42, 180, 0, 85, 21, 5, 3, 79, 132, 5, 1, 167, 255, 239, 3, 54, 5, 21, 5, 42, 180, 0, 251, 162, 0, 25, 42, 180, 0, 85, 42, 21, 5, 28] := zq_of 34 (by decide +kernel)
theorem dX10_vote_32 : decode cX10_vote 32 = .ok (.aload_n 0, 1) := zq_0 zo_42 zkX10_vote_32 0 rfl rfl
theorem dX10_vote_33 : decode cX10_vote 33 = .ok (.getfield 85, 3) := zq_2 zo_180 zkX10_vote_32 1 rfl rfl 0 85 rfl rfl _ rfl
theorem dX10_vote_36 : decode cX10_vote 36 = .ok (.iload 5, 2) := zq_1 zo_21 zkX10_vote_32 4 rfl rfl 5 rfl
theorem dX10_vote_38 : decode cX10_vote 38 = .ok (.iconst 0, 1) := zq_0 zo_3 zkX10_vote_32 6 rfl rfl
theorem dX10_vote_39 : decode cX10_vote 39 = .ok (.iastore, 1) := zq_0 zo_79 zkX10_vote_32 7 rfl rfl
theorem dX10_vote_40 : decode cX10_vote 40 = .ok (.iinc 5 1, 3) := zq_ii zo_132 zkX10_vote_32 8 rfl rfl 5 1 rfl rfl _ (by decide +kernel)
theorem dX10_vote_43 : decode cX10_vote 43 = .ok (.goto (-17), 3) := zq_2s zo_167 zkX10_vote_32 11 rfl rfl 255 239 rfl rfl _ (by decide +kernel)
theorem dX10_vote_46 : decode cX10_vote 46 = .ok (.iconst 0, 1) := zq_0 zo_3 zkX10_vote_32 14 rfl rfl
theorem dX10_vote_47 : decode cX10_vote 47 = .ok (.istore 5, 2) := zq_1 zo_54 zkX10_vote_32 15 rfl rfl 5 rfl
theorem dX10_vote_49 : decode cX10_vote 49 = .ok (.iload 5, 2) := zq_1 zo_21 zkX10_vote_32 17 rfl rfl 5 rfl
theorem dX10_vote_51 : decode cX10_vote 51 = .ok (.aload_n 0, 1) := zq_0 zo_42 zkX10_vote_32 19 rfl rfl
theorem dX10_vote_52 : decode cX10_vote 52 = .ok (.getfield 251, 3) := zq_2 zo_180 zkX10_vote_32 20 rfl rfl 0 251 rfl rfl _ rfl
theorem dX10_vote_55 : decode cX10_vote 55 = .ok (.if_icmp .ge 25, 3) := zq_2s zo_162 zkX10_vote_32 23 rfl rfl 0 25 rfl rfl _ (by decide +kernel)
theorem dX10_vote_58 : decode cX10_vote 58 = .ok (.aload_n 0, 1) := zq_0 zo_42 zkX10_vote_32 26 rfl rfl
theorem dX10_vote_59 : decode cX10_vote 59 = .ok (.getfield 85, 3) := zq_2 zo_180 zkX10_vote_32 27 rfl rfl 0 85 rfl rfl _ rfl
theorem dX10_vote_62 : decode cX10_vote 62 = .ok (.aload_n 0, 1) := zq_0 zo_42 zkX10_vote_32 30 rfl rfl
theorem dX10_vote_63 : decode cX10_vote 63 = .ok (.iload 5, 2) := zq_1 zo_21 zkX10_vote_32 31 rfl rfl 5 rfl
theorem zkX10_vote_64 : zqc cX10_vote 64 [5, 28, 182, 1, 166, 92, 46, 4, 96, 79, 132, 5, 1, 167, 255, 228, 3, 54, 5, 4, 54, 6, 21, 6, 7, 162, 0, 35, 42, 180, 0, 85, 21, 6] := zq_of 34 (by decide +kernel)
theorem dX10_vote_65 : decode cX10_vote 65 = .ok (.iload_n 2, 1) := zq_0 zo_28 zkX10_vote_64 1 rfl rfl
theorem dX10_vote_66 : decode cX10_vote 66 = .ok (.invokevirtual 422, 3) := zq_2 zo_182 zkX10_vote_64 2 rfl rfl 1 166 rfl rfl _ rfl
theorem dX10_vote_69 : decode cX10_vote 69 = .ok (.dup2, 1) := zq_0 zo_92 zkX10_vote_64 5 rfl rfl
theorem dX10_vote_70 : decode cX10_vote 70 = .ok (.iaload, 1) := zq_0 zo_46 zkX10_vote_64 6 rfl rfl
theorem dX10_vote_71 : decode cX10_vote 71 = .ok (.iconst 1, 1) := zq_0 zo_4 zkX10_vote_64 7 rfl rfl
theorem dX10_vote_72 : decode cX10_vote 72 = .ok (.iadd, 1) := zq_0 zo_96 zkX10_vote_64 8 rfl rfl
theorem dX10_vote_73 : decode cX10_vote 73 = .ok (.iastore, 1) := zq_0 zo_79 zkX10_vote_64 9 rfl rfl
theorem dX10_vote_74 : decode cX10_vote 74 = .ok (.iinc 5 1, 3) := zq_ii zo_132 zkX10_vote_64 10 rfl rfl 5 1 rfl rfl _ (by decide +kernel)
theorem dX10_vote_77 : decode cX10_vote 77 = .ok (.goto (-28), 3) := zq_2s zo_167 zkX10_vote_64 13 rfl rfl 255 228 rfl rfl _ (by decide +kernel)
theorem dX10_vote_80 : decode cX10_vote 80 = .ok (.iconst 0, 1) := zq_0 zo_3 zkX10_vote_64 16 rfl rfl
theorem dX10_vote_81 : decode cX10_vote 81 = .ok (.istore 5, 2) := zq_1 zo_54 zkX10_vote_64 17 rfl rfl 5 rfl
theorem dX10_vote_83 : decode cX10_vote 83 = .ok (.iconst 1, 1) := zq_0 zo_4 zkX10_vote_64 19 rfl rfl
theorem dX10_vote_84 : decode cX10_vote 84 = .ok (.istore 6, 2) := zq_1 zo_54 zkX10_vote_64 20 rfl rfl 6 rfl
theorem dX10_vote_86 : decode cX10_vote 86 = .ok (.iload 6, 2) := zq_1 zo_21 zkX10_vote_64 22 rfl rfl 6 rfl
theorem dX10_vote_88 : decode cX10_vote 88 = .ok (.iconst 4, 1) := zq_0 zo_7 zkX10_vote_64 24 rfl rfl
theorem dX10_vote_89 : decode cX10_vote 89 = .ok (.if_icmp .ge 35, 3) := zq_2s zo_162 zkX10_vote_64 25 rfl rfl 0 35 rfl rfl _ (by decide +kernel)
theorem dX10_vote_92 : decode cX10_vote 92 = .ok (.aload_n 0, 1) := zq_0 zo_42 zkX10_vote_64 28 rfl rfl
theorem dX10_vote_93 : decode cX10_vote 93 = .ok (.getfield 85, 3) := zq_2 zo_180 zkX10_vote_64 29 rfl rfl 0 85 rfl rfl _ rfl
theorem zkX10_vote_96 : zqc cX10_vote 96 [21, 6, 46, 42, 180, 0, 85, 21, 5, 46, 164, 0, 8, 21, 6, 167, 0, 5, 21, 5, 54, 5, 132, 6, 1, 167, 255, 221, 21, 4, 153, 0, 13, 42] := zq_of 34 (by decide +kernel)
theorem dX10_vote_96 : decode cX10_vote 96 = .ok (.iload 6, 2) := zq_1 zo_21 zkX10_vote_96 0 rfl rfl 6 rfl
theorem dX10_vote_98 : decode cX10_vote 98 = .ok (.iaload, 1) := zq_0 zo_46 zkX10_vote_96 2 rfl rfl
theorem dX10_vote_99 : decode cX10_vote 99 = .ok (.aload_n 0, 1) := zq_0 zo_42 zkX10_vote_96 3 rfl rfl
theorem dX10_vote_100 : decode cX10_vote 100 = .ok (.getfield 85, 3) := zq_2 zo_180 zkX10_vote_96 4 rfl rfl 0 85 rfl rfl _ rfl
theorem dX10_vote_103 : decode cX10_vote 103 = .ok (.iload 5, 2) := zq_1 zo_21 zkX10_vote_96 7 rfl rfl 5 rfl
theorem dX10_vote_105 : decode cX10_vote 105 = .ok (.iaload, 1) := zq_0 zo_46 zkX10_vote_96 9 rfl rfl
theorem dX10_vote_106 : decode cX10_vote 106 = .ok (.if_icmp .le 8, 3) := zq_2s zo_164 zkX10_vote_96 10 rfl rfl 0 8 rfl rfl _ (by decide +kernel)
theorem dX10_vote_109 : decode cX10_vote 109 = .ok (.iload 6, 2) := zq_1 zo_21 zkX10_vote_96 13 rfl rfl 6 rfl
theorem dX10_vote_111 : decode cX10_vote 111 = .ok (.goto 5, 3) := zq_2s zo_167 zkX10_vote_96 15 rfl rfl 0 5 rfl rfl _ (by decide +kernel)
theorem dX10_vote_114 : decode cX10_vote 114 = .ok (.iload 5, 2) := zq_1 zo_21 zkX10_vote_96 18 rfl rfl 5 rfl
theorem dX10_vote_116 : decode cX10_vote 116 = .ok (.istore 5, 2) := zq_1 zo_54 zkX10_vote_96 20 rfl rfl 5 rfl
theorem dX10_vote_118 : decode cX10_vote 118 = .ok (.iinc 6 1, 3) := zq_ii zo_132 zkX10_vote_96 22 rfl rfl 6 1 rfl rfl _ (by decide +kernel)
theorem dX10_vote_121 : decode cX10_vote 121 = .ok (.goto (-35), 3) := zq_2s zo_167 zkX10_vote_96 25 rfl rfl 255 221 rfl rfl _ (by decide +kernel)
theorem dX10_vote_124 : decode cX10_vote 124 = .ok (.iload 4, 2) := zq_1 zo_21 zkX10_vote_96 28 rfl rfl 4 rfl
theorem dX10_vote_126 : decode cX10_vote 126 = .ok (.ifCond .eq 13, 3) := zq_2s zo_153 zkX10_vote_96 30 rfl rfl 0 13 rfl rfl _ (by decide +kernel)
theorem zkX10_vote_128 : zqc cX10_vote 128 [13, 42, 180, 0, 85, 21, 5, 46, 167, 0, 5, 21, 5, 172] := zq_of 14 (by decide +kernel)
theorem dX10_vote_129 : decode cX10_vote 129 = .ok (.aload_n 0, 1) := zq_0 zo_42 zkX10_vote_128 1 rfl rfl
theorem dX10_vote_130 : decode cX10_vote 130 = .ok (.getfield 85, 3) := zq_2 zo_180 zkX10_vote_128 2 rfl rfl 0 85 rfl rfl _ rfl
theorem dX10_vote_133 : decode cX10_vote 133 = .ok (.iload 5, 2) := zq_1 zo_21 zkX10_vote_128 5 rfl rfl 5 rfl
theorem dX10_vote_135 : decode cX10_vote 135 = .ok (.iaload, 1) := zq_0 zo_46 zkX10_vote_128 7 rfl rfl
theorem dX10_vote_136 : decode cX10_vote 136 = .ok (.goto 5, 3) := zq_2s zo_167 zkX10_vote_128 8 rfl rfl 0 5 rfl rfl _ (by decide +kernel)
theorem dX10_vote_139 : decode cX10_vote 139 = .ok (.iload 5, 2) := zq_1 zo_21 zkX10_vote_128 11 rfl rfl 5 rfl
theorem dX10_vote_141 : decode cX10_vote 141 = .ok (.ireturn, 1) := zq_0 zo_172 zkX10_vote_128 13 rfl rfl
theorem zkX10_left_0 : zqc cX10_left 0 [42, 3, 181, 0, 91, 42, 27, 28, 29, 21, 4, 182, 1, 57, 153, 0, 18, 21, 5, 2, 159, 0, 15, 42, 21, 5, 182, 1, 4, 154, 0, 6, 16, 254] := zq_of 34 (by decide +kernel)
theorem dX10_left_0 : decode cX10_left 0 = .ok (.aload_n 0, 1) := zq_0 zo_42 zkX10_left_0 0 rfl rfl
theorem dX10_left_1 : decode cX10_left 1 = .ok (.iconst 0, 1) := zq_0 zo_3 zkX10_left_0 1 rfl rfl
theorem dX10_left_2 : decode cX10_left 2 = .ok (.putfield 91, 3) := zq_2 zo_181 zkX10_left_0 2 rfl rfl 0 91 rfl rfl _ rfl
theorem dX10_left_5 : decode cX10_left 5 = .ok (.aload_n 0, 1) := zq_0 zo_42 zkX10_left_0 5 rfl rfl
theorem dX10_left_6 : decode cX10_left 6 = .ok (.iload_n 1, 1) := zq_0 zo_27 zkX10_left_0 6 rfl rfl
theorem dX10_left_7 : decode cX10_left 7 = .ok (.iload_n 2, 1) := zq_0 zo_28 zkX10_left_0 7 rfl rfl
theorem dX10_left_8 : decode cX10_left 8 = .ok (.iload_n 3, 1) := zq_0 zo_29 zkX10_left_0 8 rfl rfl
theorem dX10_left_9 : decode cX10_left 9 = .ok (.iload 4, 2) := zq_1 zo_21 zkX10_left_0 9 rfl rfl 4 rfl
theorem dX10_left_11 : decode cX10_left 11 = .ok (.invokevirtual 313, 3) := zq_2 zo_182 zkX10_left_0 11 rfl rfl 1 57 rfl rfl _ rfl
theorem dX10_left_14 : decode cX10_left 14 = .ok (.ifCond .eq 18, 3) := zq_2s zo_153 zkX10_left_0 14 rfl rfl 0 18 rfl rfl _ (by decide +kernel)
theorem dX10_left_17 : decode cX10_left 17 = .ok (.iload 5, 2) := zq_1 zo_21 zkX10_left_0 17 rfl rfl 5 rfl
theorem dX10_left_19 : decode cX10_left 19 = .ok (.iconst (-1), 1) := zq_0 zo_2 zkX10_left_0 19 rfl rfl
theorem dX10_left_20 : decode cX10_left 20 = .ok (.if_icmp .eq 15, 3) := zq_2s zo_159 zkX10_left_0 20 rfl rfl 0 15 rfl rfl _ (by decide +kernel)
theorem dX10_left_23 : decode cX10_left 23 = .ok (.aload_n 0, 1) := zq_0 zo_42 zkX10_left_0 23 rfl rfl
theorem dX10_left_24 : decode cX10_left 24 = .ok (.iload 5, 2) := zq_1 zo_21 zkX10_left_0 24 rfl rfl 5 rfl
theorem dX10_left_26 : decode cX10_left 26 = .ok (.invokevirtual 260, 3) := zq_2 zo_182 zkX10_left_0 26 rfl rfl 1 4 rfl rfl _ rfl
theorem dX10_left_29 : decode cX10_left 29 = .ok (.ifCond .ne 6, 3) := zq_2s zo_154 zkX10_left_0 29 rfl rfl 0 6 rfl rfl _ (by decide +kernel)
theorem zkX10_left_32 : zqc cX10_left 32 [16, 254, 172, 3, 54, 6, 3, 54, 7, 21, 7, 42, 180, 0, 245, 162, 0, 46, 21, 6, 21, 5, 2, 159, 0, 10, 21, 5, 21, 7, 160, 0, 21, 42] := zq_of 34 (by decide +kernel)
theorem dX10_left_32 : decode cX10_left 32 = .ok (.bipush (-2), 2) := zq_1s zo_16 zkX10_left_32 0 rfl rfl 254 rfl _ (by decide +kernel)
theorem dX10_left_34 : decode cX10_left 34 = .ok (.ireturn, 1) := zq_0 zo_172 zkX10_left_32 2 rfl rfl
theorem dX10_left_35 : decode cX10_left 35 = .ok (.iconst 0, 1) := zq_0 zo_3 zkX10_left_32 3 rfl rfl
theorem dX10_left_36 : decode cX10_left 36 = .ok (.istore 6, 2) := zq_1 zo_54 zkX10_left_32 4 rfl rfl 6 rfl
theorem dX10_left_38 : decode cX10_left 38 = .ok (.iconst 0, 1) := zq_0 zo_3 zkX10_left_32 6 rfl rfl
theorem dX10_left_39 : decode cX10_left 39 = .ok (.istore 7, 2) := zq_1 zo_54 zkX10_left_32 7 rfl rfl 7 rfl
theorem dX10_left_41 : decode cX10_left 41 = .ok (.iload 7, 2) := zq_1 zo_21 zkX10_left_32 9 rfl rfl 7 rfl
theorem dX10_left_43 : decode cX10_left 43 = .ok (.aload_n 0, 1) := zq_0 zo_42 zkX10_left_32 11 rfl rfl
theorem dX10_left_44 : decode cX10_left 44 = .ok (.getfield 245, 3) := zq_2 zo_180 zkX10_left_32 12 rfl rfl 0 245 rfl rfl _ rfl
theorem dX10_left_47 : decode cX10_left 47 = .ok (.if_icmp .ge 46, 3) := zq_2s zo_162 zkX10_left_32 15 rfl rfl 0 46 rfl rfl _ (by decide +kernel)
theorem dX10_left_50 : decode cX10_left 50 = .ok (.iload 6, 2) := zq_1 zo_21 zkX10_left_32 18 rfl rfl 6 rfl
theorem dX10_left_52 : decode cX10_left 52 = .ok (.iload 5, 2) := zq_1 zo_21 zkX10_left_32 20 rfl rfl 5 rfl
theorem dX10_left_54 : decode cX10_left 54 = .ok (.iconst (-1), 1) := zq_0 zo_2 zkX10_left_32 22 rfl rfl
theorem dX10_left_55 : decode cX10_left 55 = .ok (.if_icmp .eq 10, 3) := zq_2s zo_159 zkX10_left_32 23 rfl rfl 0 10 rfl rfl _ (by decide +kernel)
theorem dX10_left_58 : decode cX10_left 58 = .ok (.iload 5, 2) := zq_1 zo_21 zkX10_left_32 26 rfl rfl 5 rfl
theorem dX10_left_60 : decode cX10_left 60 = .ok (.iload 7, 2) := zq_1 zo_21 zkX10_left_32 28 rfl rfl 7 rfl
theorem dX10_left_62 : decode cX10_left 62 = .ok (.if_icmp .ne 21, 3) := zq_2s zo_160 zkX10_left_32 30 rfl rfl 0 21 rfl rfl _ (by decide +kernel)
theorem zkX10_left_64 : zqc cX10_left 64 [21, 42, 180, 0, 53, 21, 7, 46, 42, 180, 0, 65, 21, 7, 46, 100, 167, 0, 4, 3, 96, 54, 6, 132, 7, 1, 167, 255, 207, 21, 6, 172] := zq_of 32 (by decide +kernel)
theorem dX10_left_65 : decode cX10_left 65 = .ok (.aload_n 0, 1) := zq_0 zo_42 zkX10_left_64 1 rfl rfl
theorem dX10_left_66 : decode cX10_left 66 = .ok (.getfield 53, 3) := zq_2 zo_180 zkX10_left_64 2 rfl rfl 0 53 rfl rfl _ rfl
theorem dX10_left_69 : decode cX10_left 69 = .ok (.iload 7, 2) := zq_1 zo_21 zkX10_left_64 5 rfl rfl 7 rfl
theorem dX10_left_71 : decode cX10_left 71 = .ok (.iaload, 1) := zq_0 zo_46 zkX10_left_64 7 rfl rfl
theorem dX10_left_72 : decode cX10_left 72 = .ok (.aload_n 0, 1) := zq_0 zo_42 zkX10_left_64 8 rfl rfl
theorem dX10_left_73 : decode cX10_left 73 = .ok (.getfield 65, 3) := zq_2 zo_180 zkX10_left_64 9 rfl rfl 0 65 rfl rfl _ rfl
theorem dX10_left_76 : decode cX10_left 76 = .ok (.iload 7, 2) := zq_1 zo_21 zkX10_left_64 12 rfl rfl 7 rfl
theorem dX10_left_78 : decode cX10_left 78 = .ok (.iaload, 1) := zq_0 zo_46 zkX10_left_64 14 rfl rfl
theorem dX10_left_79 : decode cX10_left 79 = .ok (.isub, 1) := zq_0 zo_100 zkX10_left_64 15 rfl rfl
theorem dX10_left_80 : decode cX10_left 80 = .ok (.goto 4, 3) := zq_2s zo_167 zkX10_left_64 16 rfl rfl 0 4 rfl rfl _ (by decide +kernel)
theorem dX10_left_83 : decode cX10_left 83 = .ok (.iconst 0, 1) := zq_0 zo_3 zkX10_left_64 19 rfl rfl
theorem dX10_left_84 : decode cX10_left 84 = .ok (.iadd, 1) := zq_0 zo_96 zkX10_left_64 20 rfl rfl
theorem dX10_left_85 : decode cX10_left 85 = .ok (.istore 6, 2) := zq_1 zo_54 zkX10_left_64 21 rfl rfl 6 rfl
theorem dX10_left_87 : decode cX10_left 87 = .ok (.iinc 7 1, 3) := zq_ii zo_132 zkX10_left_64 23 rfl rfl 7 1 rfl rfl _ (by decide +kernel)
theorem dX10_left_90 : decode cX10_left 90 = .ok (.goto (-49), 3) := zq_2s zo_167 zkX10_left_64 26 rfl rfl 255 207 rfl rfl _ (by decide +kernel)
theorem dX10_left_93 : decode cX10_left 93 = .ok (.iload 6, 2) := zq_1 zo_21 zkX10_left_64 29 rfl rfl 6 rfl
theorem dX10_left_95 : decode cX10_left 95 = .ok (.ireturn, 1) := zq_0 zo_172 zkX10_left_64 31 rfl rfl
theorem zkX10_bid_0 : zqc cX10_bid 0 [42, 3, 181, 0, 91, 21, 4, 3, 5, 184, 0, 103, 153, 0, 20, 42, 27, 28, 182, 1, 1, 153, 0, 11, 42, 29, 182, 1, 7, 154, 0, 5, 2, 172] := zq_of 34 (by decide +kernel)
theorem dX10_bid_0 : decode cX10_bid 0 = .ok (.aload_n 0, 1) := zq_0 zo_42 zkX10_bid_0 0 rfl rfl
theorem dX10_bid_1 : decode cX10_bid 1 = .ok (.iconst 0, 1) := zq_0 zo_3 zkX10_bid_0 1 rfl rfl
theorem dX10_bid_2 : decode cX10_bid 2 = .ok (.putfield 91, 3) := zq_2 zo_181 zkX10_bid_0 2 rfl rfl 0 91 rfl rfl _ rfl
theorem dX10_bid_5 : decode cX10_bid 5 = .ok (.iload 4, 2) := zq_1 zo_21 zkX10_bid_0 5 rfl rfl 4 rfl
theorem dX10_bid_7 : decode cX10_bid 7 = .ok (.iconst 0, 1) := zq_0 zo_3 zkX10_bid_0 7 rfl rfl
theorem dX10_bid_8 : decode cX10_bid 8 = .ok (.iconst 2, 1) := zq_0 zo_5 zkX10_bid_0 8 rfl rfl
theorem dX10_bid_9 : decode cX10_bid 9 = .ok (.invokestatic 103, 3) := zq_2 zo_184 zkX10_bid_0 9 rfl rfl 0 103 rfl rfl _ rfl
theorem dX10_bid_12 : decode cX10_bid 12 = .ok (.ifCond .eq 20, 3) := zq_2s zo_153 zkX10_bid_0 12 rfl rfl 0 20 rfl rfl _ (by decide +kernel)
theorem dX10_bid_15 : decode cX10_bid 15 = .ok (.aload_n 0, 1) := zq_0 zo_42 zkX10_bid_0 15 rfl rfl
theorem dX10_bid_16 : decode cX10_bid 16 = .ok (.iload_n 1, 1) := zq_0 zo_27 zkX10_bid_0 16 rfl rfl
theorem dX10_bid_17 : decode cX10_bid 17 = .ok (.iload_n 2, 1) := zq_0 zo_28 zkX10_bid_0 17 rfl rfl
theorem dX10_bid_18 : decode cX10_bid 18 = .ok (.invokevirtual 257, 3) := zq_2 zo_182 zkX10_bid_0 18 rfl rfl 1 1 rfl rfl _ rfl
theorem dX10_bid_21 : decode cX10_bid 21 = .ok (.ifCond .eq 11, 3) := zq_2s zo_153 zkX10_bid_0 21 rfl rfl 0 11 rfl rfl _ (by decide +kernel)
theorem dX10_bid_24 : decode cX10_bid 24 = .ok (.aload_n 0, 1) := zq_0 zo_42 zkX10_bid_0 24 rfl rfl
theorem dX10_bid_25 : decode cX10_bid 25 = .ok (.iload_n 3, 1) := zq_0 zo_29 zkX10_bid_0 25 rfl rfl
theorem dX10_bid_26 : decode cX10_bid 26 = .ok (.invokevirtual 263, 3) := zq_2 zo_182 zkX10_bid_0 26 rfl rfl 1 7 rfl rfl _ rfl
theorem dX10_bid_29 : decode cX10_bid 29 = .ok (.ifCond .ne 5, 3) := zq_2s zo_154 zkX10_bid_0 29 rfl rfl 0 5 rfl rfl _ (by decide +kernel)
theorem zkX10_bid_32 : zqc cX10_bid 32 [2, 172, 16, 123, 27, 104, 16, 87, 96, 16, 6, 29, 104, 96, 21, 4, 154, 0, 7, 8, 167, 0, 14, 21, 4, 4, 160, 0, 7, 5, 167, 0, 4, 7] := zq_of 34 (by decide +kernel)
theorem dX10_bid_32 : decode cX10_bid 32 = .ok (.iconst (-1), 1) := zq_0 zo_2 zkX10_bid_32 0 rfl rfl
theorem dX10_bid_33 : decode cX10_bid 33 = .ok (.ireturn, 1) := zq_0 zo_172 zkX10_bid_32 1 rfl rfl
theorem dX10_bid_34 : decode cX10_bid 34 = .ok (.bipush 123, 2) := zq_1s zo_16 zkX10_bid_32 2 rfl rfl 123 rfl _ (by decide +kernel)
theorem dX10_bid_36 : decode cX10_bid 36 = .ok (.iload_n 1, 1) := zq_0 zo_27 zkX10_bid_32 4 rfl rfl
theorem dX10_bid_37 : decode cX10_bid 37 = .ok (.imul, 1) := zq_0 zo_104 zkX10_bid_32 5 rfl rfl
theorem dX10_bid_38 : decode cX10_bid 38 = .ok (.bipush 87, 2) := zq_1s zo_16 zkX10_bid_32 6 rfl rfl 87 rfl _ (by decide +kernel)
theorem dX10_bid_40 : decode cX10_bid 40 = .ok (.iadd, 1) := zq_0 zo_96 zkX10_bid_32 8 rfl rfl
theorem dX10_bid_41 : decode cX10_bid 41 = .ok (.bipush 6, 2) := zq_1s zo_16 zkX10_bid_32 9 rfl rfl 6 rfl _ (by decide +kernel)
theorem dX10_bid_43 : decode cX10_bid 43 = .ok (.iload_n 3, 1) := zq_0 zo_29 zkX10_bid_32 11 rfl rfl
theorem dX10_bid_44 : decode cX10_bid 44 = .ok (.imul, 1) := zq_0 zo_104 zkX10_bid_32 12 rfl rfl
theorem dX10_bid_45 : decode cX10_bid 45 = .ok (.iadd, 1) := zq_0 zo_96 zkX10_bid_32 13 rfl rfl
theorem dX10_bid_46 : decode cX10_bid 46 = .ok (.iload 4, 2) := zq_1 zo_21 zkX10_bid_32 14 rfl rfl 4 rfl
theorem dX10_bid_48 : decode cX10_bid 48 = .ok (.ifCond .ne 7, 3) := zq_2s zo_154 zkX10_bid_32 16 rfl rfl 0 7 rfl rfl _ (by decide +kernel)
theorem dX10_bid_51 : decode cX10_bid 51 = .ok (.iconst 5, 1) := zq_0 zo_8 zkX10_bid_32 19 rfl rfl
theorem dX10_bid_52 : decode cX10_bid 52 = .ok (.goto 14, 3) := zq_2s zo_167 zkX10_bid_32 20 rfl rfl 0 14 rfl rfl _ (by decide +kernel)
theorem dX10_bid_55 : decode cX10_bid 55 = .ok (.iload 4, 2) := zq_1 zo_21 zkX10_bid_32 23 rfl rfl 4 rfl
theorem dX10_bid_57 : decode cX10_bid 57 = .ok (.iconst 1, 1) := zq_0 zo_4 zkX10_bid_32 25 rfl rfl
theorem dX10_bid_58 : decode cX10_bid 58 = .ok (.if_icmp .ne 7, 3) := zq_2s zo_160 zkX10_bid_32 26 rfl rfl 0 7 rfl rfl _ (by decide +kernel)
theorem dX10_bid_61 : decode cX10_bid 61 = .ok (.iconst 2, 1) := zq_0 zo_5 zkX10_bid_32 29 rfl rfl
theorem dX10_bid_62 : decode cX10_bid 62 = .ok (.goto 4, 3) := zq_2s zo_167 zkX10_bid_32 30 rfl rfl 0 4 rfl rfl _ (by decide +kernel)
theorem zkX10_bid_64 : zqc cX10_bid 64 [4, 7, 96, 54, 5, 42, 180, 0, 26, 21, 5, 46, 54, 6, 2, 54, 7, 2, 54, 8, 21, 4, 4, 160, 0, 7, 4, 167, 0, 4, 3, 54, 9, 21] := zq_of 34 (by decide +kernel)
theorem dX10_bid_65 : decode cX10_bid 65 = .ok (.iconst 4, 1) := zq_0 zo_7 zkX10_bid_64 1 rfl rfl
theorem dX10_bid_66 : decode cX10_bid 66 = .ok (.iadd, 1) := zq_0 zo_96 zkX10_bid_64 2 rfl rfl
theorem dX10_bid_67 : decode cX10_bid 67 = .ok (.istore 5, 2) := zq_1 zo_54 zkX10_bid_64 3 rfl rfl 5 rfl
theorem dX10_bid_69 : decode cX10_bid 69 = .ok (.aload_n 0, 1) := zq_0 zo_42 zkX10_bid_64 5 rfl rfl
theorem dX10_bid_70 : decode cX10_bid 70 = .ok (.getfield 26, 3) := zq_2 zo_180 zkX10_bid_64 6 rfl rfl 0 26 rfl rfl _ rfl
theorem dX10_bid_73 : decode cX10_bid 73 = .ok (.iload 5, 2) := zq_1 zo_21 zkX10_bid_64 9 rfl rfl 5 rfl
theorem dX10_bid_75 : decode cX10_bid 75 = .ok (.iaload, 1) := zq_0 zo_46 zkX10_bid_64 11 rfl rfl
theorem dX10_bid_76 : decode cX10_bid 76 = .ok (.istore 6, 2) := zq_1 zo_54 zkX10_bid_64 12 rfl rfl 6 rfl
theorem dX10_bid_78 : decode cX10_bid 78 = .ok (.iconst (-1), 1) := zq_0 zo_2 zkX10_bid_64 14 rfl rfl
theorem dX10_bid_79 : decode cX10_bid 79 = .ok (.istore 7, 2) := zq_1 zo_54 zkX10_bid_64 15 rfl rfl 7 rfl
theorem dX10_bid_81 : decode cX10_bid 81 = .ok (.iconst (-1), 1) := zq_0 zo_2 zkX10_bid_64 17 rfl rfl
theorem dX10_bid_82 : decode cX10_bid 82 = .ok (.istore 8, 2) := zq_1 zo_54 zkX10_bid_64 18 rfl rfl 8 rfl
theorem dX10_bid_84 : decode cX10_bid 84 = .ok (.iload 4, 2) := zq_1 zo_21 zkX10_bid_64 20 rfl rfl 4 rfl
theorem dX10_bid_86 : decode cX10_bid 86 = .ok (.iconst 1, 1) := zq_0 zo_4 zkX10_bid_64 22 rfl rfl
theorem dX10_bid_87 : decode cX10_bid 87 = .ok (.if_icmp .ne 7, 3) := zq_2s zo_160 zkX10_bid_64 23 rfl rfl 0 7 rfl rfl _ (by decide +kernel)
theorem dX10_bid_90 : decode cX10_bid 90 = .ok (.iconst 1, 1) := zq_0 zo_4 zkX10_bid_64 26 rfl rfl
theorem dX10_bid_91 : decode cX10_bid 91 = .ok (.goto 4, 3) := zq_2s zo_167 zkX10_bid_64 27 rfl rfl 0 4 rfl rfl _ (by decide +kernel)
theorem dX10_bid_94 : decode cX10_bid 94 = .ok (.iconst 0, 1) := zq_0 zo_3 zkX10_bid_64 30 rfl rfl
theorem dX10_bid_95 : decode cX10_bid 95 = .ok (.istore 9, 2) := zq_1 zo_54 zkX10_bid_64 31 rfl rfl 9 rfl
theorem zkX10_bid_96 : zqc cX10_bid 96 [9, 21, 9, 21, 4, 154, 0, 8, 16, 9, 167, 0, 17, 21, 4, 4, 160, 0, 8, 16, 60, 167, 0, 6, 17, 0, 200, 163, 0, 70, 42, 180, 0, 26] := zq_of 34 (by decide +kernel)
theorem dX10_bid_97 : decode cX10_bid 97 = .ok (.iload 9, 2) := zq_1 zo_21 zkX10_bid_96 1 rfl rfl 9 rfl
theorem dX10_bid_99 : decode cX10_bid 99 = .ok (.iload 4, 2) := zq_1 zo_21 zkX10_bid_96 3 rfl rfl 4 rfl
theorem dX10_bid_101 : decode cX10_bid 101 = .ok (.ifCond .ne 8, 3) := zq_2s zo_154 zkX10_bid_96 5 rfl rfl 0 8 rfl rfl _ (by decide +kernel)
theorem dX10_bid_104 : decode cX10_bid 104 = .ok (.bipush 9, 2) := zq_1s zo_16 zkX10_bid_96 8 rfl rfl 9 rfl _ (by decide +kernel)
theorem dX10_bid_106 : decode cX10_bid 106 = .ok (.goto 17, 3) := zq_2s zo_167 zkX10_bid_96 10 rfl rfl 0 17 rfl rfl _ (by decide +kernel)
theorem dX10_bid_109 : decode cX10_bid 109 = .ok (.iload 4, 2) := zq_1 zo_21 zkX10_bid_96 13 rfl rfl 4 rfl
theorem dX10_bid_111 : decode cX10_bid 111 = .ok (.iconst 1, 1) := zq_0 zo_4 zkX10_bid_96 15 rfl rfl
theorem dX10_bid_112 : decode cX10_bid 112 = .ok (.if_icmp .ne 8, 3) := zq_2s zo_160 zkX10_bid_96 16 rfl rfl 0 8 rfl rfl _ (by decide +kernel)
theorem dX10_bid_115 : decode cX10_bid 115 = .ok (.bipush 60, 2) := zq_1s zo_16 zkX10_bid_96 19 rfl rfl 60 rfl _ (by decide +kernel)
theorem dX10_bid_117 : decode cX10_bid 117 = .ok (.goto 6, 3) := zq_2s zo_167 zkX10_bid_96 21 rfl rfl 0 6 rfl rfl _ (by decide +kernel)
theorem dX10_bid_120 : decode cX10_bid 120 = .ok (.sipush 200, 3) := zq_2s zo_17 zkX10_bid_96 24 rfl rfl 0 200 rfl rfl _ (by decide +kernel)
theorem dX10_bid_123 : decode cX10_bid 123 = .ok (.if_icmp .gt 70, 3) := zq_2s zo_163 zkX10_bid_96 27 rfl rfl 0 70 rfl rfl _ (by decide +kernel)
theorem dX10_bid_126 : decode cX10_bid 126 = .ok (.aload_n 0, 1) := zq_0 zo_42 zkX10_bid_96 30 rfl rfl
theorem dX10_bid_127 : decode cX10_bid 127 = .ok (.getfield 26, 3) := zq_2 zo_180 zkX10_bid_96 31 rfl rfl 0 26 rfl rfl _ rfl
theorem zkX10_bid_128 : zqc cX10_bid 128 [0, 26, 21, 5, 21, 9, 79, 42, 21, 4, 154, 0, 7, 6, 167, 0, 4, 3, 3, 42, 182, 1, 51, 182, 1, 54, 42, 180, 0, 68, 29, 46, 21, 8] := zq_of 34 (by decide +kernel)
theorem dX10_bid_130 : decode cX10_bid 130 = .ok (.iload 5, 2) := zq_1 zo_21 zkX10_bid_128 2 rfl rfl 5 rfl
theorem dX10_bid_132 : decode cX10_bid 132 = .ok (.iload 9, 2) := zq_1 zo_21 zkX10_bid_128 4 rfl rfl 9 rfl
theorem dX10_bid_134 : decode cX10_bid 134 = .ok (.iastore, 1) := zq_0 zo_79 zkX10_bid_128 6 rfl rfl
theorem dX10_bid_135 : decode cX10_bid 135 = .ok (.aload_n 0, 1) := zq_0 zo_42 zkX10_bid_128 7 rfl rfl
theorem dX10_bid_136 : decode cX10_bid 136 = .ok (.iload 4, 2) := zq_1 zo_21 zkX10_bid_128 8 rfl rfl 4 rfl
theorem dX10_bid_138 : decode cX10_bid 138 = .ok (.ifCond .ne 7, 3) := zq_2s zo_154 zkX10_bid_128 10 rfl rfl 0 7 rfl rfl _ (by decide +kernel)
theorem dX10_bid_141 : decode cX10_bid 141 = .ok (.iconst 3, 1) := zq_0 zo_6 zkX10_bid_128 13 rfl rfl
theorem dX10_bid_142 : decode cX10_bid 142 = .ok (.goto 4, 3) := zq_2s zo_167 zkX10_bid_128 14 rfl rfl 0 4 rfl rfl _ (by decide +kernel)
theorem dX10_bid_145 : decode cX10_bid 145 = .ok (.iconst 0, 1) := zq_0 zo_3 zkX10_bid_128 17 rfl rfl
theorem dX10_bid_146 : decode cX10_bid 146 = .ok (.iconst 0, 1) := zq_0 zo_3 zkX10_bid_128 18 rfl rfl
theorem dX10_bid_147 : decode cX10_bid 147 = .ok (.aload_n 0, 1) := zq_0 zo_42 zkX10_bid_128 19 rfl rfl
theorem dX10_bid_148 : decode cX10_bid 148 = .ok (.invokevirtual 307, 3) := zq_2 zo_182 zkX10_bid_128 20 rfl rfl 1 51 rfl rfl _ rfl
theorem dX10_bid_151 : decode cX10_bid 151 = .ok (.invokevirtual 310, 3) := zq_2 zo_182 zkX10_bid_128 23 rfl rfl 1 54 rfl rfl _ rfl
theorem dX10_bid_154 : decode cX10_bid 154 = .ok (.aload_n 0, 1) := zq_0 zo_42 zkX10_bid_128 26 rfl rfl
theorem dX10_bid_155 : decode cX10_bid 155 = .ok (.getfield 68, 3) := zq_2 zo_180 zkX10_bid_128 27 rfl rfl 0 68 rfl rfl _ rfl
theorem dX10_bid_158 : decode cX10_bid 158 = .ok (.iload_n 3, 1) := zq_0 zo_29 zkX10_bid_128 30 rfl rfl
theorem dX10_bid_159 : decode cX10_bid 159 = .ok (.iaload, 1) := zq_0 zo_46 zkX10_bid_128 31 rfl rfl
theorem zkX10_bid_160 : zqc cX10_bid 160 [21, 8, 164, 0, 8, 21, 9, 167, 0, 5, 21, 7, 54, 7, 21, 8, 42, 180, 0, 68, 29, 46, 184, 0, 160, 54, 8, 132, 9, 1, 167, 255, 163, 42] := zq_of 34 (by decide +kernel)
theorem dX10_bid_160 : decode cX10_bid 160 = .ok (.iload 8, 2) := zq_1 zo_21 zkX10_bid_160 0 rfl rfl 8 rfl
theorem dX10_bid_162 : decode cX10_bid 162 = .ok (.if_icmp .le 8, 3) := zq_2s zo_164 zkX10_bid_160 2 rfl rfl 0 8 rfl rfl _ (by decide +kernel)
theorem dX10_bid_165 : decode cX10_bid 165 = .ok (.iload 9, 2) := zq_1 zo_21 zkX10_bid_160 5 rfl rfl 9 rfl
theorem dX10_bid_167 : decode cX10_bid 167 = .ok (.goto 5, 3) := zq_2s zo_167 zkX10_bid_160 7 rfl rfl 0 5 rfl rfl _ (by decide +kernel)
theorem dX10_bid_170 : decode cX10_bid 170 = .ok (.iload 7, 2) := zq_1 zo_21 zkX10_bid_160 10 rfl rfl 7 rfl
theorem dX10_bid_172 : decode cX10_bid 172 = .ok (.istore 7, 2) := zq_1 zo_54 zkX10_bid_160 12 rfl rfl 7 rfl
theorem dX10_bid_174 : decode cX10_bid 174 = .ok (.iload 8, 2) := zq_1 zo_21 zkX10_bid_160 14 rfl rfl 8 rfl
theorem dX10_bid_176 : decode cX10_bid 176 = .ok (.aload_n 0, 1) := zq_0 zo_42 zkX10_bid_160 16 rfl rfl
theorem dX10_bid_177 : decode cX10_bid 177 = .ok (.getfield 68, 3) := zq_2 zo_180 zkX10_bid_160 17 rfl rfl 0 68 rfl rfl _ rfl
theorem dX10_bid_180 : decode cX10_bid 180 = .ok (.iload_n 3, 1) := zq_0 zo_29 zkX10_bid_160 20 rfl rfl
theorem dX10_bid_181 : decode cX10_bid 181 = .ok (.iaload, 1) := zq_0 zo_46 zkX10_bid_160 21 rfl rfl
theorem dX10_bid_182 : decode cX10_bid 182 = .ok (.invokestatic 160, 3) := zq_2 zo_184 zkX10_bid_160 22 rfl rfl 0 160 rfl rfl _ rfl
theorem dX10_bid_185 : decode cX10_bid 185 = .ok (.istore 8, 2) := zq_1 zo_54 zkX10_bid_160 25 rfl rfl 8 rfl
theorem dX10_bid_187 : decode cX10_bid 187 = .ok (.iinc 9 1, 3) := zq_ii zo_132 zkX10_bid_160 27 rfl rfl 9 1 rfl rfl _ (by decide +kernel)
theorem dX10_bid_190 : decode cX10_bid 190 = .ok (.goto (-93), 3) := zq_2s zo_167 zkX10_bid_160 30 rfl rfl 255 163 rfl rfl _ (by decide +kernel)
theorem zkX10_bid_192 : zqc cX10_bid 192 [163, 42, 180, 0, 26, 21, 5, 21, 6, 79, 21, 7, 172] := zq_of 13 (by decide +kernel)
theorem dX10_bid_193 : decode cX10_bid 193 = .ok (.aload_n 0, 1) := zq_0 zo_42 zkX10_bid_192 1 rfl rfl
theorem dX10_bid_194 : decode cX10_bid 194 = .ok (.getfield 26, 3) := zq_2 zo_180 zkX10_bid_192 2 rfl rfl 0 26 rfl rfl _ rfl
theorem dX10_bid_197 : decode cX10_bid 197 = .ok (.iload 5, 2) := zq_1 zo_21 zkX10_bid_192 5 rfl rfl 5 rfl
theorem dX10_bid_199 : decode cX10_bid 199 = .ok (.iload 6, 2) := zq_1 zo_21 zkX10_bid_192 7 rfl rfl 6 rfl
theorem dX10_bid_201 : decode cX10_bid 201 = .ok (.iastore, 1) := zq_0 zo_79 zkX10_bid_192 9 rfl rfl
theorem dX10_bid_202 : decode cX10_bid 202 = .ok (.iload 7, 2) := zq_1 zo_21 zkX10_bid_192 10 rfl rfl 7 rfl
theorem dX10_bid_204 : decode cX10_bid 204 = .ok (.ireturn, 1) := zq_0 zo_172 zkX10_bid_192 12 rfl rfl
theorem zkX10_count_0 : zqc cX10_count 0 [42, 3, 181, 0, 91, 27, 3, 5, 184, 0, 103, 153, 0, 12, 42, 180, 0, 23, 27, 46, 167, 0, 5, 16, 254, 172] := zq_of 26 (by decide +kernel)
theorem dX10_count_0 : decode cX10_count 0 = .ok (.aload_n 0, 1) := zq_0 zo_42 zkX10_count_0 0 rfl rfl
theorem dX10_count_1 : decode cX10_count 1 = .ok (.iconst 0, 1) := zq_0 zo_3 zkX10_count_0 1 rfl rfl
theorem dX10_count_2 : decode cX10_count 2 = .ok (.putfield 91, 3) := zq_2 zo_181 zkX10_count_0 2 rfl rfl 0 91 rfl rfl _ rfl
theorem dX10_count_5 : decode cX10_count 5 = .ok (.iload_n 1, 1) := zq_0 zo_27 zkX10_count_0 5 rfl rfl
theorem dX10_count_6 : decode cX10_count 6 = .ok (.iconst 0, 1) := zq_0 zo_3 zkX10_count_0 6 rfl rfl
theorem dX10_count_7 : decode cX10_count 7 = .ok (.iconst 2, 1) := zq_0 zo_5 zkX10_count_0 7 rfl rfl
theorem dX10_count_8 : decode cX10_count 8 = .ok (.invokestatic 103, 3) := zq_2 zo_184 zkX10_count_0 8 rfl rfl 0 103 rfl rfl _ rfl
theorem dX10_count_11 : decode cX10_count 11 = .ok (.ifCond .eq 12, 3) := zq_2s zo_153 zkX10_count_0 11 rfl rfl 0 12 rfl rfl _ (by decide +kernel)
theorem dX10_count_14 : decode cX10_count 14 = .ok (.aload_n 0, 1) := zq_0 zo_42 zkX10_count_0 14 rfl rfl
theorem dX10_count_15 : decode cX10_count 15 = .ok (.getfield 23, 3) := zq_2 zo_180 zkX10_count_0 15 rfl rfl 0 23 rfl rfl _ rfl
theorem dX10_count_18 : decode cX10_count 18 = .ok (.iload_n 1, 1) := zq_0 zo_27 zkX10_count_0 18 rfl rfl
theorem dX10_count_19 : decode cX10_count 19 = .ok (.iaload, 1) := zq_0 zo_46 zkX10_count_0 19 rfl rfl
theorem dX10_count_20 : decode cX10_count 20 = .ok (.goto 5, 3) := zq_2s zo_167 zkX10_count_0 20 rfl rfl 0 5 rfl rfl _ (by decide +kernel)
theorem dX10_count_23 : decode cX10_count 23 = .ok (.bipush (-2), 2) := zq_1s zo_16 zkX10_count_0 23 rfl rfl 254 rfl _ (by decide +kernel)
theorem dX10_count_25 : decode cX10_count 25 = .ok (.ireturn, 1) := zq_0 zo_172 zkX10_count_0 25 rfl rfl
theorem zkX10_image_0 : zqc cX10_image 0 [42, 3, 181, 0, 91, 27, 3, 5, 184, 0, 103, 154, 0, 5, 3, 172, 42, 3, 27, 4, 96, 182, 1, 169, 42, 180, 0, 88, 27, 4, 84, 4, 172] := zq_of 33 (by decide +kernel)
theorem dX10_image_0 : decode cX10_image 0 = .ok (.aload_n 0, 1) := zq_0 zo_42 zkX10_image_0 0 rfl rfl
theorem dX10_image_1 : decode cX10_image 1 = .ok (.iconst 0, 1) := zq_0 zo_3 zkX10_image_0 1 rfl rfl
theorem dX10_image_2 : decode cX10_image 2 = .ok (.putfield 91, 3) := zq_2 zo_181 zkX10_image_0 2 rfl rfl 0 91 rfl rfl _ rfl
theorem dX10_image_5 : decode cX10_image 5 = .ok (.iload_n 1, 1) := zq_0 zo_27 zkX10_image_0 5 rfl rfl
theorem dX10_image_6 : decode cX10_image 6 = .ok (.iconst 0, 1) := zq_0 zo_3 zkX10_image_0 6 rfl rfl
theorem dX10_image_7 : decode cX10_image 7 = .ok (.iconst 2, 1) := zq_0 zo_5 zkX10_image_0 7 rfl rfl
theorem dX10_image_8 : decode cX10_image 8 = .ok (.invokestatic 103, 3) := zq_2 zo_184 zkX10_image_0 8 rfl rfl 0 103 rfl rfl _ rfl
theorem dX10_image_11 : decode cX10_image 11 = .ok (.ifCond .ne 5, 3) := zq_2s zo_154 zkX10_image_0 11 rfl rfl 0 5 rfl rfl _ (by decide +kernel)
theorem dX10_image_14 : decode cX10_image 14 = .ok (.iconst 0, 1) := zq_0 zo_3 zkX10_image_0 14 rfl rfl
theorem dX10_image_15 : decode cX10_image 15 = .ok (.ireturn, 1) := zq_0 zo_172 zkX10_image_0 15 rfl rfl
theorem dX10_image_16 : decode cX10_image 16 = .ok (.aload_n 0, 1) := zq_0 zo_42 zkX10_image_0 16 rfl rfl
theorem dX10_image_17 : decode cX10_image 17 = .ok (.iconst 0, 1) := zq_0 zo_3 zkX10_image_0 17 rfl rfl
theorem dX10_image_18 : decode cX10_image 18 = .ok (.iload_n 1, 1) := zq_0 zo_27 zkX10_image_0 18 rfl rfl
theorem dX10_image_19 : decode cX10_image 19 = .ok (.iconst 1, 1) := zq_0 zo_4 zkX10_image_0 19 rfl rfl
theorem dX10_image_20 : decode cX10_image 20 = .ok (.iadd, 1) := zq_0 zo_96 zkX10_image_0 20 rfl rfl
theorem dX10_image_21 : decode cX10_image 21 = .ok (.invokevirtual 425, 3) := zq_2 zo_182 zkX10_image_0 21 rfl rfl 1 169 rfl rfl _ rfl
theorem dX10_image_24 : decode cX10_image 24 = .ok (.aload_n 0, 1) := zq_0 zo_42 zkX10_image_0 24 rfl rfl
theorem dX10_image_25 : decode cX10_image 25 = .ok (.getfield 88, 3) := zq_2 zo_180 zkX10_image_0 25 rfl rfl 0 88 rfl rfl _ rfl
theorem dX10_image_28 : decode cX10_image 28 = .ok (.iload_n 1, 1) := zq_0 zo_27 zkX10_image_0 28 rfl rfl
theorem dX10_image_29 : decode cX10_image 29 = .ok (.iconst 1, 1) := zq_0 zo_4 zkX10_image_0 29 rfl rfl
theorem dX10_image_30 : decode cX10_image 30 = .ok (.bastore, 1) := zq_0 zo_84 zkX10_image_0 30 rfl rfl
theorem dX10_image_31 : decode cX10_image 31 = .ok (.iconst 1, 1) := zq_0 zo_4 zkX10_image_0 31 rfl rfl
theorem zkX10_image_32 : zqc cX10_image 32 [172] := zq_of 1 (by decide +kernel)
theorem dX10_image_32 : decode cX10_image 32 = .ok (.ireturn, 1) := zq_0 zo_172 zkX10_image_32 0 rfl rfl
theorem zkX10_again_0 : zqc cX10_again 0 [42, 3, 181, 0, 91, 27, 3, 5, 184, 0, 103, 153, 0, 12, 42, 180, 0, 88, 27, 51, 154, 0, 5, 3, 172, 42, 27, 4, 96, 3, 182, 1, 169, 4] := zq_of 34 (by decide +kernel)
theorem dX10_again_0 : decode cX10_again 0 = .ok (.aload_n 0, 1) := zq_0 zo_42 zkX10_again_0 0 rfl rfl
theorem dX10_again_1 : decode cX10_again 1 = .ok (.iconst 0, 1) := zq_0 zo_3 zkX10_again_0 1 rfl rfl
theorem dX10_again_2 : decode cX10_again 2 = .ok (.putfield 91, 3) := zq_2 zo_181 zkX10_again_0 2 rfl rfl 0 91 rfl rfl _ rfl
theorem dX10_again_5 : decode cX10_again 5 = .ok (.iload_n 1, 1) := zq_0 zo_27 zkX10_again_0 5 rfl rfl
theorem dX10_again_6 : decode cX10_again 6 = .ok (.iconst 0, 1) := zq_0 zo_3 zkX10_again_0 6 rfl rfl
theorem dX10_again_7 : decode cX10_again 7 = .ok (.iconst 2, 1) := zq_0 zo_5 zkX10_again_0 7 rfl rfl
theorem dX10_again_8 : decode cX10_again 8 = .ok (.invokestatic 103, 3) := zq_2 zo_184 zkX10_again_0 8 rfl rfl 0 103 rfl rfl _ rfl
theorem dX10_again_11 : decode cX10_again 11 = .ok (.ifCond .eq 12, 3) := zq_2s zo_153 zkX10_again_0 11 rfl rfl 0 12 rfl rfl _ (by decide +kernel)
theorem dX10_again_14 : decode cX10_again 14 = .ok (.aload_n 0, 1) := zq_0 zo_42 zkX10_again_0 14 rfl rfl
theorem dX10_again_15 : decode cX10_again 15 = .ok (.getfield 88, 3) := zq_2 zo_180 zkX10_again_0 15 rfl rfl 0 88 rfl rfl _ rfl
theorem dX10_again_18 : decode cX10_again 18 = .ok (.iload_n 1, 1) := zq_0 zo_27 zkX10_again_0 18 rfl rfl
theorem dX10_again_19 : decode cX10_again 19 = .ok (.baload, 1) := zq_0 zo_51 zkX10_again_0 19 rfl rfl
theorem dX10_again_20 : decode cX10_again 20 = .ok (.ifCond .ne 5, 3) := zq_2s zo_154 zkX10_again_0 20 rfl rfl 0 5 rfl rfl _ (by decide +kernel)
theorem dX10_again_23 : decode cX10_again 23 = .ok (.iconst 0, 1) := zq_0 zo_3 zkX10_again_0 23 rfl rfl
theorem dX10_again_24 : decode cX10_again 24 = .ok (.ireturn, 1) := zq_0 zo_172 zkX10_again_0 24 rfl rfl
theorem dX10_again_25 : decode cX10_again 25 = .ok (.aload_n 0, 1) := zq_0 zo_42 zkX10_again_0 25 rfl rfl
theorem dX10_again_26 : decode cX10_again 26 = .ok (.iload_n 1, 1) := zq_0 zo_27 zkX10_again_0 26 rfl rfl
theorem dX10_again_27 : decode cX10_again 27 = .ok (.iconst 1, 1) := zq_0 zo_4 zkX10_again_0 27 rfl rfl
theorem dX10_again_28 : decode cX10_again 28 = .ok (.iadd, 1) := zq_0 zo_96 zkX10_again_0 28 rfl rfl
theorem dX10_again_29 : decode cX10_again 29 = .ok (.iconst 0, 1) := zq_0 zo_3 zkX10_again_0 29 rfl rfl
theorem dX10_again_30 : decode cX10_again 30 = .ok (.invokevirtual 425, 3) := zq_2 zo_182 zkX10_again_0 30 rfl rfl 1 169 rfl rfl _ rfl
theorem zkX10_again_32 : zqc cX10_again 32 [169, 4, 172] := zq_of 3 (by decide +kernel)
theorem dX10_again_33 : decode cX10_again 33 = .ok (.iconst 1, 1) := zq_0 zo_4 zkX10_again_32 1 rfl rfl
theorem dX10_again_34 : decode cX10_again 34 = .ok (.ireturn, 1) := zq_0 zo_172 zkX10_again_32 2 rfl rfl
