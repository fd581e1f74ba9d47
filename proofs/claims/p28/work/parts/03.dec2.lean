theorem zkX9_init_0 : zqc cX9_init 0 [42, 183, 0, 3, 42, 187, 0, 9, 89, 183, 0, 11, 181, 0, 12, 42, 6, 189, 0, 9, 89, 3, 187, 0, 9, 89, 183, 0, 11, 83, 89, 4, 187, 0] := zq_of 34 (by decide +kernel)
theorem dX9_init_0 : decode cX9_init 0 = .ok (.aload_n 0, 1) := zq_0 zo_42 zkX9_init_0 0 rfl rfl
theorem dX9_init_1 : decode cX9_init 1 = .ok (.invokespecial 3, 3) := zq_2 zo_183 zkX9_init_0 1 rfl rfl 0 3 rfl rfl _ rfl
theorem dX9_init_4 : decode cX9_init 4 = .ok (.aload_n 0, 1) := zq_0 zo_42 zkX9_init_0 4 rfl rfl
theorem dX9_init_5 : decode cX9_init 5 = .ok (.new 9, 3) := zq_2 zo_187 zkX9_init_0 5 rfl rfl 0 9 rfl rfl _ rfl
theorem dX9_init_8 : decode cX9_init 8 = .ok (.dup, 1) := zq_0 zo_89 zkX9_init_0 8 rfl rfl
theorem dX9_init_9 : decode cX9_init 9 = .ok (.invokespecial 11, 3) := zq_2 zo_183 zkX9_init_0 9 rfl rfl 0 11 rfl rfl _ rfl
theorem dX9_init_12 : decode cX9_init 12 = .ok (.putfield 12, 3) := zq_2 zo_181 zkX9_init_0 12 rfl rfl 0 12 rfl rfl _ rfl
theorem dX9_init_15 : decode cX9_init 15 = .ok (.aload_n 0, 1) := zq_0 zo_42 zkX9_init_0 15 rfl rfl
theorem dX9_init_16 : decode cX9_init 16 = .ok (.iconst 3, 1) := zq_0 zo_6 zkX9_init_0 16 rfl rfl
theorem dX9_init_17 : decode cX9_init 17 = .ok (.anewarray 9, 3) := zq_2 zo_189 zkX9_init_0 17 rfl rfl 0 9 rfl rfl _ rfl
theorem dX9_init_20 : decode cX9_init 20 = .ok (.dup, 1) := zq_0 zo_89 zkX9_init_0 20 rfl rfl
theorem dX9_init_21 : decode cX9_init 21 = .ok (.iconst 0, 1) := zq_0 zo_3 zkX9_init_0 21 rfl rfl
theorem dX9_init_22 : decode cX9_init 22 = .ok (.new 9, 3) := zq_2 zo_187 zkX9_init_0 22 rfl rfl 0 9 rfl rfl _ rfl
theorem dX9_init_25 : decode cX9_init 25 = .ok (.dup, 1) := zq_0 zo_89 zkX9_init_0 25 rfl rfl
theorem dX9_init_26 : decode cX9_init 26 = .ok (.invokespecial 11, 3) := zq_2 zo_183 zkX9_init_0 26 rfl rfl 0 11 rfl rfl _ rfl
theorem dX9_init_29 : decode cX9_init 29 = .ok (.aastore, 1) := zq_0 zo_83 zkX9_init_0 29 rfl rfl
theorem dX9_init_30 : decode cX9_init 30 = .ok (.dup, 1) := zq_0 zo_89 zkX9_init_0 30 rfl rfl
theorem dX9_init_31 : decode cX9_init 31 = .ok (.iconst 1, 1) := zq_0 zo_4 zkX9_init_0 31 rfl rfl
theorem zkX9_init_32 : zqc cX9_init 32 [187, 0, 9, 89, 183, 0, 11, 83, 89, 5, 187, 0, 9, 89, 183, 0, 11, 83, 181, 0, 16, 42, 6, 188, 4, 181, 0, 20, 42, 187, 0, 24, 89, 183] := zq_of 34 (by decide +kernel)
theorem dX9_init_32 : decode cX9_init 32 = .ok (.new 9, 3) := zq_2 zo_187 zkX9_init_32 0 rfl rfl 0 9 rfl rfl _ rfl
theorem dX9_init_35 : decode cX9_init 35 = .ok (.dup, 1) := zq_0 zo_89 zkX9_init_32 3 rfl rfl
theorem dX9_init_36 : decode cX9_init 36 = .ok (.invokespecial 11, 3) := zq_2 zo_183 zkX9_init_32 4 rfl rfl 0 11 rfl rfl _ rfl
theorem dX9_init_39 : decode cX9_init 39 = .ok (.aastore, 1) := zq_0 zo_83 zkX9_init_32 7 rfl rfl
theorem dX9_init_40 : decode cX9_init 40 = .ok (.dup, 1) := zq_0 zo_89 zkX9_init_32 8 rfl rfl
theorem dX9_init_41 : decode cX9_init 41 = .ok (.iconst 2, 1) := zq_0 zo_5 zkX9_init_32 9 rfl rfl
theorem dX9_init_42 : decode cX9_init 42 = .ok (.new 9, 3) := zq_2 zo_187 zkX9_init_32 10 rfl rfl 0 9 rfl rfl _ rfl
theorem dX9_init_45 : decode cX9_init 45 = .ok (.dup, 1) := zq_0 zo_89 zkX9_init_32 13 rfl rfl
theorem dX9_init_46 : decode cX9_init 46 = .ok (.invokespecial 11, 3) := zq_2 zo_183 zkX9_init_32 14 rfl rfl 0 11 rfl rfl _ rfl
theorem dX9_init_49 : decode cX9_init 49 = .ok (.aastore, 1) := zq_0 zo_83 zkX9_init_32 17 rfl rfl
theorem dX9_init_50 : decode cX9_init 50 = .ok (.putfield 16, 3) := zq_2 zo_181 zkX9_init_32 18 rfl rfl 0 16 rfl rfl _ rfl
theorem dX9_init_53 : decode cX9_init 53 = .ok (.aload_n 0, 1) := zq_0 zo_42 zkX9_init_32 21 rfl rfl
theorem dX9_init_54 : decode cX9_init 54 = .ok (.iconst 3, 1) := zq_0 zo_6 zkX9_init_32 22 rfl rfl
theorem dX9_init_55 : decode cX9_init 55 = .ok (.newarray .boolean, 2) := by decide +kernel
theorem dX9_init_57 : decode cX9_init 57 = .ok (.putfield 20, 3) := zq_2 zo_181 zkX9_init_32 25 rfl rfl 0 20 rfl rfl _ rfl
theorem dX9_init_60 : decode cX9_init 60 = .ok (.aload_n 0, 1) := zq_0 zo_42 zkX9_init_32 28 rfl rfl
theorem dX9_init_61 : decode cX9_init 61 = .ok (.new 24, 3) := zq_2 zo_187 zkX9_init_32 29 rfl rfl 0 24 rfl rfl _ rfl
theorem zkX9_init_64 : zqc cX9_init 64 [89, 183, 0, 26, 181, 0, 27, 42, 187, 0, 31, 89, 183, 0, 33, 181, 0, 34, 42, 187, 0, 38, 89, 183, 0, 40, 181, 0, 41, 42, 187, 0, 45, 89] := zq_of 34 (by decide +kernel)
theorem dX9_init_64 : decode cX9_init 64 = .ok (.dup, 1) := zq_0 zo_89 zkX9_init_64 0 rfl rfl
theorem dX9_init_65 : decode cX9_init 65 = .ok (.invokespecial 26, 3) := zq_2 zo_183 zkX9_init_64 1 rfl rfl 0 26 rfl rfl _ rfl
theorem dX9_init_68 : decode cX9_init 68 = .ok (.putfield 27, 3) := zq_2 zo_181 zkX9_init_64 4 rfl rfl 0 27 rfl rfl _ rfl
theorem dX9_init_71 : decode cX9_init 71 = .ok (.aload_n 0, 1) := zq_0 zo_42 zkX9_init_64 7 rfl rfl
theorem dX9_init_72 : decode cX9_init 72 = .ok (.new 31, 3) := zq_2 zo_187 zkX9_init_64 8 rfl rfl 0 31 rfl rfl _ rfl
theorem dX9_init_75 : decode cX9_init 75 = .ok (.dup, 1) := zq_0 zo_89 zkX9_init_64 11 rfl rfl
theorem dX9_init_76 : decode cX9_init 76 = .ok (.invokespecial 33, 3) := zq_2 zo_183 zkX9_init_64 12 rfl rfl 0 33 rfl rfl _ rfl
theorem dX9_init_79 : decode cX9_init 79 = .ok (.putfield 34, 3) := zq_2 zo_181 zkX9_init_64 15 rfl rfl 0 34 rfl rfl _ rfl
theorem dX9_init_82 : decode cX9_init 82 = .ok (.aload_n 0, 1) := zq_0 zo_42 zkX9_init_64 18 rfl rfl
theorem dX9_init_83 : decode cX9_init 83 = .ok (.new 38, 3) := zq_2 zo_187 zkX9_init_64 19 rfl rfl 0 38 rfl rfl _ rfl
theorem dX9_init_86 : decode cX9_init 86 = .ok (.dup, 1) := zq_0 zo_89 zkX9_init_64 22 rfl rfl
theorem dX9_init_87 : decode cX9_init 87 = .ok (.invokespecial 40, 3) := zq_2 zo_183 zkX9_init_64 23 rfl rfl 0 40 rfl rfl _ rfl
theorem dX9_init_90 : decode cX9_init 90 = .ok (.putfield 41, 3) := zq_2 zo_181 zkX9_init_64 26 rfl rfl 0 41 rfl rfl _ rfl
theorem dX9_init_93 : decode cX9_init 93 = .ok (.aload_n 0, 1) := zq_0 zo_42 zkX9_init_64 29 rfl rfl
theorem dX9_init_94 : decode cX9_init 94 = .ok (.new 45, 3) := zq_2 zo_187 zkX9_init_64 30 rfl rfl 0 45 rfl rfl _ rfl
theorem zkX9_init_96 : zqc cX9_init 96 [45, 89, 183, 0, 47, 181, 0, 48, 42, 187, 0, 52, 89, 183, 0, 54, 181, 0, 55, 42, 187, 0, 59, 89, 183, 0, 61, 181, 0, 62, 42, 187, 0, 66] := zq_of 34 (by decide +kernel)
theorem dX9_init_97 : decode cX9_init 97 = .ok (.dup, 1) := zq_0 zo_89 zkX9_init_96 1 rfl rfl
theorem dX9_init_98 : decode cX9_init 98 = .ok (.invokespecial 47, 3) := zq_2 zo_183 zkX9_init_96 2 rfl rfl 0 47 rfl rfl _ rfl
theorem dX9_init_101 : decode cX9_init 101 = .ok (.putfield 48, 3) := zq_2 zo_181 zkX9_init_96 5 rfl rfl 0 48 rfl rfl _ rfl
theorem dX9_init_104 : decode cX9_init 104 = .ok (.aload_n 0, 1) := zq_0 zo_42 zkX9_init_96 8 rfl rfl
theorem dX9_init_105 : decode cX9_init 105 = .ok (.new 52, 3) := zq_2 zo_187 zkX9_init_96 9 rfl rfl 0 52 rfl rfl _ rfl
theorem dX9_init_108 : decode cX9_init 108 = .ok (.dup, 1) := zq_0 zo_89 zkX9_init_96 12 rfl rfl
theorem dX9_init_109 : decode cX9_init 109 = .ok (.invokespecial 54, 3) := zq_2 zo_183 zkX9_init_96 13 rfl rfl 0 54 rfl rfl _ rfl
theorem dX9_init_112 : decode cX9_init 112 = .ok (.putfield 55, 3) := zq_2 zo_181 zkX9_init_96 16 rfl rfl 0 55 rfl rfl _ rfl
theorem dX9_init_115 : decode cX9_init 115 = .ok (.aload_n 0, 1) := zq_0 zo_42 zkX9_init_96 19 rfl rfl
theorem dX9_init_116 : decode cX9_init 116 = .ok (.new 59, 3) := zq_2 zo_187 zkX9_init_96 20 rfl rfl 0 59 rfl rfl _ rfl
theorem dX9_init_119 : decode cX9_init 119 = .ok (.dup, 1) := zq_0 zo_89 zkX9_init_96 23 rfl rfl
theorem dX9_init_120 : decode cX9_init 120 = .ok (.invokespecial 61, 3) := zq_2 zo_183 zkX9_init_96 24 rfl rfl 0 61 rfl rfl _ rfl
theorem dX9_init_123 : decode cX9_init 123 = .ok (.putfield 62, 3) := zq_2 zo_181 zkX9_init_96 27 rfl rfl 0 62 rfl rfl _ rfl
theorem dX9_init_126 : decode cX9_init 126 = .ok (.aload_n 0, 1) := zq_0 zo_42 zkX9_init_96 30 rfl rfl
theorem dX9_init_127 : decode cX9_init 127 = .ok (.new 66, 3) := zq_2 zo_187 zkX9_init_96 31 rfl rfl 0 66 rfl rfl _ rfl
theorem zkX9_init_128 : zqc cX9_init 128 [0, 66, 89, 183, 0, 68, 181, 0, 69, 42, 17, 1, 128, 188, 10, 181, 0, 73, 177] := zq_of 19 (by decide +kernel)
theorem dX9_init_130 : decode cX9_init 130 = .ok (.dup, 1) := zq_0 zo_89 zkX9_init_128 2 rfl rfl
theorem dX9_init_131 : decode cX9_init 131 = .ok (.invokespecial 68, 3) := zq_2 zo_183 zkX9_init_128 3 rfl rfl 0 68 rfl rfl _ rfl
theorem dX9_init_134 : decode cX9_init 134 = .ok (.putfield 69, 3) := zq_2 zo_181 zkX9_init_128 6 rfl rfl 0 69 rfl rfl _ rfl
theorem dX9_init_137 : decode cX9_init 137 = .ok (.aload_n 0, 1) := zq_0 zo_42 zkX9_init_128 9 rfl rfl
theorem dX9_init_138 : decode cX9_init 138 = .ok (.sipush 384, 3) := zq_2s zo_17 zkX9_init_128 10 rfl rfl 1 128 rfl rfl _ (by decide +kernel)
theorem dX9_init_141 : decode cX9_init 141 = .ok (.newarray .int, 2) := by decide +kernel
theorem dX9_init_143 : decode cX9_init 143 = .ok (.putfield 73, 3) := zq_2 zo_181 zkX9_init_128 15 rfl rfl 0 73 rfl rfl _ rfl
theorem dX9_init_146 : decode cX9_init 146 = .ok (.return_, 1) := zq_0 zo_177 zkX9_init_128 18 rfl rfl
theorem zkX9_feed_0 : zqc cX9_feed 0 [42, 180, 0, 12, 180, 0, 77, 16, 20, 96, 17, 2, 88, 164, 0, 5, 2, 172, 42, 180, 0, 12, 27, 182, 0, 81, 42, 180, 0, 12, 28, 182, 0, 81] := zq_of 34 (by decide +kernel)
theorem dX9_feed_0 : decode cX9_feed 0 = .ok (.aload_n 0, 1) := zq_0 zo_42 zkX9_feed_0 0 rfl rfl
theorem dX9_feed_1 : decode cX9_feed 1 = .ok (.getfield 12, 3) := zq_2 zo_180 zkX9_feed_0 1 rfl rfl 0 12 rfl rfl _ rfl
theorem dX9_feed_4 : decode cX9_feed 4 = .ok (.getfield 77, 3) := zq_2 zo_180 zkX9_feed_0 4 rfl rfl 0 77 rfl rfl _ rfl
theorem dX9_feed_7 : decode cX9_feed 7 = .ok (.bipush 20, 2) := zq_1s zo_16 zkX9_feed_0 7 rfl rfl 20 rfl _ (by decide +kernel)
theorem dX9_feed_9 : decode cX9_feed 9 = .ok (.iadd, 1) := zq_0 zo_96 zkX9_feed_0 9 rfl rfl
theorem dX9_feed_10 : decode cX9_feed 10 = .ok (.sipush 600, 3) := zq_2s zo_17 zkX9_feed_0 10 rfl rfl 2 88 rfl rfl _ (by decide +kernel)
theorem dX9_feed_13 : decode cX9_feed 13 = .ok (.if_icmp .le 5, 3) := zq_2s zo_164 zkX9_feed_0 13 rfl rfl 0 5 rfl rfl _ (by decide +kernel)
theorem dX9_feed_16 : decode cX9_feed 16 = .ok (.iconst (-1), 1) := zq_0 zo_2 zkX9_feed_0 16 rfl rfl
theorem dX9_feed_17 : decode cX9_feed 17 = .ok (.ireturn, 1) := zq_0 zo_172 zkX9_feed_0 17 rfl rfl
theorem dX9_feed_18 : decode cX9_feed 18 = .ok (.aload_n 0, 1) := zq_0 zo_42 zkX9_feed_0 18 rfl rfl
theorem dX9_feed_19 : decode cX9_feed 19 = .ok (.getfield 12, 3) := zq_2 zo_180 zkX9_feed_0 19 rfl rfl 0 12 rfl rfl _ rfl
theorem dX9_feed_22 : decode cX9_feed 22 = .ok (.iload_n 1, 1) := zq_0 zo_27 zkX9_feed_0 22 rfl rfl
theorem dX9_feed_23 : decode cX9_feed 23 = .ok (.invokevirtual 81, 3) := zq_2 zo_182 zkX9_feed_0 23 rfl rfl 0 81 rfl rfl _ rfl
theorem dX9_feed_26 : decode cX9_feed 26 = .ok (.aload_n 0, 1) := zq_0 zo_42 zkX9_feed_0 26 rfl rfl
theorem dX9_feed_27 : decode cX9_feed 27 = .ok (.getfield 12, 3) := zq_2 zo_180 zkX9_feed_0 27 rfl rfl 0 12 rfl rfl _ rfl
theorem dX9_feed_30 : decode cX9_feed 30 = .ok (.iload_n 2, 1) := zq_0 zo_28 zkX9_feed_0 30 rfl rfl
theorem dX9_feed_31 : decode cX9_feed 31 = .ok (.invokevirtual 81, 3) := zq_2 zo_182 zkX9_feed_0 31 rfl rfl 0 81 rfl rfl _ rfl
theorem zkX9_feed_32 : zqc cX9_feed 32 [0, 81, 42, 180, 0, 12, 29, 182, 0, 81, 42, 180, 0, 12, 21, 4, 182, 0, 81, 42, 180, 0, 12, 21, 5, 182, 0, 81, 42, 180, 0, 12, 180, 0] := zq_of 34 (by decide +kernel)
theorem dX9_feed_34 : decode cX9_feed 34 = .ok (.aload_n 0, 1) := zq_0 zo_42 zkX9_feed_32 2 rfl rfl
theorem dX9_feed_35 : decode cX9_feed 35 = .ok (.getfield 12, 3) := zq_2 zo_180 zkX9_feed_32 3 rfl rfl 0 12 rfl rfl _ rfl
theorem dX9_feed_38 : decode cX9_feed 38 = .ok (.iload_n 3, 1) := zq_0 zo_29 zkX9_feed_32 6 rfl rfl
theorem dX9_feed_39 : decode cX9_feed 39 = .ok (.invokevirtual 81, 3) := zq_2 zo_182 zkX9_feed_32 7 rfl rfl 0 81 rfl rfl _ rfl
theorem dX9_feed_42 : decode cX9_feed 42 = .ok (.aload_n 0, 1) := zq_0 zo_42 zkX9_feed_32 10 rfl rfl
theorem dX9_feed_43 : decode cX9_feed 43 = .ok (.getfield 12, 3) := zq_2 zo_180 zkX9_feed_32 11 rfl rfl 0 12 rfl rfl _ rfl
theorem dX9_feed_46 : decode cX9_feed 46 = .ok (.iload 4, 2) := zq_1 zo_21 zkX9_feed_32 14 rfl rfl 4 rfl
theorem dX9_feed_48 : decode cX9_feed 48 = .ok (.invokevirtual 81, 3) := zq_2 zo_182 zkX9_feed_32 16 rfl rfl 0 81 rfl rfl _ rfl
theorem dX9_feed_51 : decode cX9_feed 51 = .ok (.aload_n 0, 1) := zq_0 zo_42 zkX9_feed_32 19 rfl rfl
theorem dX9_feed_52 : decode cX9_feed 52 = .ok (.getfield 12, 3) := zq_2 zo_180 zkX9_feed_32 20 rfl rfl 0 12 rfl rfl _ rfl
theorem dX9_feed_55 : decode cX9_feed 55 = .ok (.iload 5, 2) := zq_1 zo_21 zkX9_feed_32 23 rfl rfl 5 rfl
theorem dX9_feed_57 : decode cX9_feed 57 = .ok (.invokevirtual 81, 3) := zq_2 zo_182 zkX9_feed_32 25 rfl rfl 0 81 rfl rfl _ rfl
theorem dX9_feed_60 : decode cX9_feed 60 = .ok (.aload_n 0, 1) := zq_0 zo_42 zkX9_feed_32 28 rfl rfl
theorem dX9_feed_61 : decode cX9_feed 61 = .ok (.getfield 12, 3) := zq_2 zo_180 zkX9_feed_32 29 rfl rfl 0 12 rfl rfl _ rfl
theorem zkX9_feed_64 : zqc cX9_feed 64 [180, 0, 77, 172] := zq_of 4 (by decide +kernel)
theorem dX9_feed_64 : decode cX9_feed 64 = .ok (.getfield 77, 3) := zq_2 zo_180 zkX9_feed_64 0 rfl rfl 0 77 rfl rfl _ rfl
theorem dX9_feed_67 : decode cX9_feed 67 = .ok (.ireturn, 1) := zq_0 zo_172 zkX9_feed_64 3 rfl rfl
theorem zkX9_end_0 : zqc cX9_end 0 [27, 155, 0, 14, 27, 42, 180, 0, 12, 180, 0, 77, 164, 0, 5, 2, 172, 42, 180, 0, 12, 27, 181, 0, 77, 27, 172] := zq_of 27 (by decide +kernel)
theorem dX9_end_0 : decode cX9_end 0 = .ok (.iload_n 1, 1) := zq_0 zo_27 zkX9_end_0 0 rfl rfl
theorem dX9_end_1 : decode cX9_end 1 = .ok (.ifCond .lt 14, 3) := zq_2s zo_155 zkX9_end_0 1 rfl rfl 0 14 rfl rfl _ (by decide +kernel)
theorem dX9_end_4 : decode cX9_end 4 = .ok (.iload_n 1, 1) := zq_0 zo_27 zkX9_end_0 4 rfl rfl
theorem dX9_end_5 : decode cX9_end 5 = .ok (.aload_n 0, 1) := zq_0 zo_42 zkX9_end_0 5 rfl rfl
theorem dX9_end_6 : decode cX9_end 6 = .ok (.getfield 12, 3) := zq_2 zo_180 zkX9_end_0 6 rfl rfl 0 12 rfl rfl _ rfl
theorem dX9_end_9 : decode cX9_end 9 = .ok (.getfield 77, 3) := zq_2 zo_180 zkX9_end_0 9 rfl rfl 0 77 rfl rfl _ rfl
theorem dX9_end_12 : decode cX9_end 12 = .ok (.if_icmp .le 5, 3) := zq_2s zo_164 zkX9_end_0 12 rfl rfl 0 5 rfl rfl _ (by decide +kernel)
theorem dX9_end_15 : decode cX9_end 15 = .ok (.iconst (-1), 1) := zq_0 zo_2 zkX9_end_0 15 rfl rfl
theorem dX9_end_16 : decode cX9_end 16 = .ok (.ireturn, 1) := zq_0 zo_172 zkX9_end_0 16 rfl rfl
theorem dX9_end_17 : decode cX9_end 17 = .ok (.aload_n 0, 1) := zq_0 zo_42 zkX9_end_0 17 rfl rfl
theorem dX9_end_18 : decode cX9_end 18 = .ok (.getfield 12, 3) := zq_2 zo_180 zkX9_end_0 18 rfl rfl 0 12 rfl rfl _ rfl
theorem dX9_end_21 : decode cX9_end 21 = .ok (.iload_n 1, 1) := zq_0 zo_27 zkX9_end_0 21 rfl rfl
theorem dX9_end_22 : decode cX9_end 22 = .ok (.putfield 77, 3) := zq_2 zo_181 zkX9_end_0 22 rfl rfl 0 77 rfl rfl _ rfl
theorem dX9_end_25 : decode cX9_end 25 = .ok (.iload_n 1, 1) := zq_0 zo_27 zkX9_end_0 25 rfl rfl
theorem dX9_end_26 : decode cX9_end 26 = .ok (.ireturn, 1) := zq_0 zo_172 zkX9_end_0 26 rfl rfl
theorem zkX9_text_0 : zqc cX9_text 0 [42, 180, 0, 12, 180, 0, 77, 62, 42, 27, 28, 182, 0, 85, 54, 4, 42, 180, 0, 12, 3, 181, 0, 77, 42, 180, 0, 12, 3, 181, 0, 89, 42, 180] := zq_of 34 (by decide +kernel)
theorem dX9_text_0 : decode cX9_text 0 = .ok (.aload_n 0, 1) := zq_0 zo_42 zkX9_text_0 0 rfl rfl
theorem dX9_text_1 : decode cX9_text 1 = .ok (.getfield 12, 3) := zq_2 zo_180 zkX9_text_0 1 rfl rfl 0 12 rfl rfl _ rfl
theorem dX9_text_4 : decode cX9_text 4 = .ok (.getfield 77, 3) := zq_2 zo_180 zkX9_text_0 4 rfl rfl 0 77 rfl rfl _ rfl
theorem dX9_text_7 : decode cX9_text 7 = .ok (.istore_n 3, 1) := zq_0 zo_62 zkX9_text_0 7 rfl rfl
theorem dX9_text_8 : decode cX9_text 8 = .ok (.aload_n 0, 1) := zq_0 zo_42 zkX9_text_0 8 rfl rfl
theorem dX9_text_9 : decode cX9_text 9 = .ok (.iload_n 1, 1) := zq_0 zo_27 zkX9_text_0 9 rfl rfl
theorem dX9_text_10 : decode cX9_text 10 = .ok (.iload_n 2, 1) := zq_0 zo_28 zkX9_text_0 10 rfl rfl
theorem dX9_text_11 : decode cX9_text 11 = .ok (.invokevirtual 85, 3) := zq_2 zo_182 zkX9_text_0 11 rfl rfl 0 85 rfl rfl _ rfl
theorem dX9_text_14 : decode cX9_text 14 = .ok (.istore 4, 2) := zq_1 zo_54 zkX9_text_0 14 rfl rfl 4 rfl
theorem dX9_text_16 : decode cX9_text 16 = .ok (.aload_n 0, 1) := zq_0 zo_42 zkX9_text_0 16 rfl rfl
theorem dX9_text_17 : decode cX9_text 17 = .ok (.getfield 12, 3) := zq_2 zo_180 zkX9_text_0 17 rfl rfl 0 12 rfl rfl _ rfl
theorem dX9_text_20 : decode cX9_text 20 = .ok (.iconst 0, 1) := zq_0 zo_3 zkX9_text_0 20 rfl rfl
theorem dX9_text_21 : decode cX9_text 21 = .ok (.putfield 77, 3) := zq_2 zo_181 zkX9_text_0 21 rfl rfl 0 77 rfl rfl _ rfl
theorem dX9_text_24 : decode cX9_text 24 = .ok (.aload_n 0, 1) := zq_0 zo_42 zkX9_text_0 24 rfl rfl
theorem dX9_text_25 : decode cX9_text 25 = .ok (.getfield 12, 3) := zq_2 zo_180 zkX9_text_0 25 rfl rfl 0 12 rfl rfl _ rfl
theorem dX9_text_28 : decode cX9_text 28 = .ok (.iconst 0, 1) := zq_0 zo_3 zkX9_text_0 28 rfl rfl
theorem dX9_text_29 : decode cX9_text 29 = .ok (.putfield 89, 3) := zq_2 zo_181 zkX9_text_0 29 rfl rfl 0 89 rfl rfl _ rfl
theorem zkX9_text_32 : zqc cX9_text 32 [42, 180, 0, 12, 2, 181, 0, 92, 21, 4, 16, 254, 160, 0, 6, 16, 254, 172, 42, 180, 0, 27, 42, 180, 0, 12, 180, 0, 95, 29, 27, 182, 0, 99] := zq_of 34 (by decide +kernel)
theorem dX9_text_32 : decode cX9_text 32 = .ok (.aload_n 0, 1) := zq_0 zo_42 zkX9_text_32 0 rfl rfl
theorem dX9_text_33 : decode cX9_text 33 = .ok (.getfield 12, 3) := zq_2 zo_180 zkX9_text_32 1 rfl rfl 0 12 rfl rfl _ rfl
theorem dX9_text_36 : decode cX9_text 36 = .ok (.iconst (-1), 1) := zq_0 zo_2 zkX9_text_32 4 rfl rfl
theorem dX9_text_37 : decode cX9_text 37 = .ok (.putfield 92, 3) := zq_2 zo_181 zkX9_text_32 5 rfl rfl 0 92 rfl rfl _ rfl
theorem dX9_text_40 : decode cX9_text 40 = .ok (.iload 4, 2) := zq_1 zo_21 zkX9_text_32 8 rfl rfl 4 rfl
theorem dX9_text_42 : decode cX9_text 42 = .ok (.bipush (-2), 2) := zq_1s zo_16 zkX9_text_32 10 rfl rfl 254 rfl _ (by decide +kernel)
theorem dX9_text_44 : decode cX9_text 44 = .ok (.if_icmp .ne 6, 3) := zq_2s zo_160 zkX9_text_32 12 rfl rfl 0 6 rfl rfl _ (by decide +kernel)
theorem dX9_text_47 : decode cX9_text 47 = .ok (.bipush (-2), 2) := zq_1s zo_16 zkX9_text_32 15 rfl rfl 254 rfl _ (by decide +kernel)
theorem dX9_text_49 : decode cX9_text 49 = .ok (.ireturn, 1) := zq_0 zo_172 zkX9_text_32 17 rfl rfl
theorem dX9_text_50 : decode cX9_text 50 = .ok (.aload_n 0, 1) := zq_0 zo_42 zkX9_text_32 18 rfl rfl
theorem dX9_text_51 : decode cX9_text 51 = .ok (.getfield 27, 3) := zq_2 zo_180 zkX9_text_32 19 rfl rfl 0 27 rfl rfl _ rfl
theorem dX9_text_54 : decode cX9_text 54 = .ok (.aload_n 0, 1) := zq_0 zo_42 zkX9_text_32 22 rfl rfl
theorem dX9_text_55 : decode cX9_text 55 = .ok (.getfield 12, 3) := zq_2 zo_180 zkX9_text_32 23 rfl rfl 0 12 rfl rfl _ rfl
theorem dX9_text_58 : decode cX9_text 58 = .ok (.getfield 95, 3) := zq_2 zo_180 zkX9_text_32 26 rfl rfl 0 95 rfl rfl _ rfl
theorem dX9_text_61 : decode cX9_text 61 = .ok (.iload_n 3, 1) := zq_0 zo_29 zkX9_text_32 29 rfl rfl
theorem dX9_text_62 : decode cX9_text 62 = .ok (.iload_n 1, 1) := zq_0 zo_27 zkX9_text_32 30 rfl rfl
theorem dX9_text_63 : decode cX9_text 63 = .ok (.invokevirtual 99, 3) := zq_2 zo_182 zkX9_text_32 31 rfl rfl 0 99 rfl rfl _ rfl
theorem zkX9_text_64 : zqc cX9_text 64 [0, 99, 42, 180, 0, 12, 42, 180, 0, 27, 180, 0, 103, 181, 0, 89, 42, 180, 0, 12, 42, 180, 0, 27, 180, 0, 104, 181, 0, 92, 42, 180, 0, 27] := zq_of 34 (by decide +kernel)
theorem dX9_text_66 : decode cX9_text 66 = .ok (.aload_n 0, 1) := zq_0 zo_42 zkX9_text_64 2 rfl rfl
theorem dX9_text_67 : decode cX9_text 67 = .ok (.getfield 12, 3) := zq_2 zo_180 zkX9_text_64 3 rfl rfl 0 12 rfl rfl _ rfl
theorem dX9_text_70 : decode cX9_text 70 = .ok (.aload_n 0, 1) := zq_0 zo_42 zkX9_text_64 6 rfl rfl
theorem dX9_text_71 : decode cX9_text 71 = .ok (.getfield 27, 3) := zq_2 zo_180 zkX9_text_64 7 rfl rfl 0 27 rfl rfl _ rfl
theorem dX9_text_74 : decode cX9_text 74 = .ok (.getfield 103, 3) := zq_2 zo_180 zkX9_text_64 10 rfl rfl 0 103 rfl rfl _ rfl
theorem dX9_text_77 : decode cX9_text 77 = .ok (.putfield 89, 3) := zq_2 zo_181 zkX9_text_64 13 rfl rfl 0 89 rfl rfl _ rfl
theorem dX9_text_80 : decode cX9_text 80 = .ok (.aload_n 0, 1) := zq_0 zo_42 zkX9_text_64 16 rfl rfl
theorem dX9_text_81 : decode cX9_text 81 = .ok (.getfield 12, 3) := zq_2 zo_180 zkX9_text_64 17 rfl rfl 0 12 rfl rfl _ rfl
theorem dX9_text_84 : decode cX9_text 84 = .ok (.aload_n 0, 1) := zq_0 zo_42 zkX9_text_64 20 rfl rfl
theorem dX9_text_85 : decode cX9_text 85 = .ok (.getfield 27, 3) := zq_2 zo_180 zkX9_text_64 21 rfl rfl 0 27 rfl rfl _ rfl
theorem dX9_text_88 : decode cX9_text 88 = .ok (.getfield 104, 3) := zq_2 zo_180 zkX9_text_64 24 rfl rfl 0 104 rfl rfl _ rfl
theorem dX9_text_91 : decode cX9_text 91 = .ok (.putfield 92, 3) := zq_2 zo_181 zkX9_text_64 27 rfl rfl 0 92 rfl rfl _ rfl
theorem dX9_text_94 : decode cX9_text 94 = .ok (.aload_n 0, 1) := zq_0 zo_42 zkX9_text_64 30 rfl rfl
theorem dX9_text_95 : decode cX9_text 95 = .ok (.getfield 27, 3) := zq_2 zo_180 zkX9_text_64 31 rfl rfl 0 27 rfl rfl _ rfl
theorem zkX9_text_96 : zqc cX9_text 96 [0, 27, 180, 0, 103, 153, 0, 5, 2, 172, 42, 180, 0, 12, 27, 21, 4, 42, 180, 0, 27, 182, 0, 105, 21, 4, 172] := zq_of 27 (by decide +kernel)
theorem dX9_text_98 : decode cX9_text 98 = .ok (.getfield 103, 3) := zq_2 zo_180 zkX9_text_96 2 rfl rfl 0 103 rfl rfl _ rfl
theorem dX9_text_101 : decode cX9_text 101 = .ok (.ifCond .eq 5, 3) := zq_2s zo_153 zkX9_text_96 5 rfl rfl 0 5 rfl rfl _ (by decide +kernel)
theorem dX9_text_104 : decode cX9_text 104 = .ok (.iconst (-1), 1) := zq_0 zo_2 zkX9_text_96 8 rfl rfl
theorem dX9_text_105 : decode cX9_text 105 = .ok (.ireturn, 1) := zq_0 zo_172 zkX9_text_96 9 rfl rfl
theorem dX9_text_106 : decode cX9_text 106 = .ok (.aload_n 0, 1) := zq_0 zo_42 zkX9_text_96 10 rfl rfl
theorem dX9_text_107 : decode cX9_text 107 = .ok (.getfield 12, 3) := zq_2 zo_180 zkX9_text_96 11 rfl rfl 0 12 rfl rfl _ rfl
theorem dX9_text_110 : decode cX9_text 110 = .ok (.iload_n 1, 1) := zq_0 zo_27 zkX9_text_96 14 rfl rfl
theorem dX9_text_111 : decode cX9_text 111 = .ok (.iload 4, 2) := zq_1 zo_21 zkX9_text_96 15 rfl rfl 4 rfl
theorem dX9_text_113 : decode cX9_text 113 = .ok (.aload_n 0, 1) := zq_0 zo_42 zkX9_text_96 17 rfl rfl
theorem dX9_text_114 : decode cX9_text 114 = .ok (.getfield 27, 3) := zq_2 zo_180 zkX9_text_96 18 rfl rfl 0 27 rfl rfl _ rfl
theorem dX9_text_117 : decode cX9_text 117 = .ok (.invokevirtual 105, 3) := zq_2 zo_182 zkX9_text_96 21 rfl rfl 0 105 rfl rfl _ rfl
theorem dX9_text_120 : decode cX9_text 120 = .ok (.iload 4, 2) := zq_1 zo_21 zkX9_text_96 24 rfl rfl 4 rfl
theorem dX9_text_122 : decode cX9_text 122 = .ok (.ireturn, 1) := zq_0 zo_172 zkX9_text_96 26 rfl rfl
theorem zkX9_fault_0 : zqc cX9_fault 0 [27, 154, 0, 11, 42, 180, 0, 12, 180, 0, 89, 172, 27, 4, 160, 0, 13, 42, 180, 0, 12, 180, 0, 92, 167, 0, 4, 2, 172] := zq_of 29 (by decide +kernel)
theorem dX9_fault_0 : decode cX9_fault 0 = .ok (.iload_n 1, 1) := zq_0 zo_27 zkX9_fault_0 0 rfl rfl
theorem dX9_fault_1 : decode cX9_fault 1 = .ok (.ifCond .ne 11, 3) := zq_2s zo_154 zkX9_fault_0 1 rfl rfl 0 11 rfl rfl _ (by decide +kernel)
theorem dX9_fault_4 : decode cX9_fault 4 = .ok (.aload_n 0, 1) := zq_0 zo_42 zkX9_fault_0 4 rfl rfl
theorem dX9_fault_5 : decode cX9_fault 5 = .ok (.getfield 12, 3) := zq_2 zo_180 zkX9_fault_0 5 rfl rfl 0 12 rfl rfl _ rfl
theorem dX9_fault_8 : decode cX9_fault 8 = .ok (.getfield 89, 3) := zq_2 zo_180 zkX9_fault_0 8 rfl rfl 0 89 rfl rfl _ rfl
theorem dX9_fault_11 : decode cX9_fault 11 = .ok (.ireturn, 1) := zq_0 zo_172 zkX9_fault_0 11 rfl rfl
theorem dX9_fault_12 : decode cX9_fault 12 = .ok (.iload_n 1, 1) := zq_0 zo_27 zkX9_fault_0 12 rfl rfl
theorem dX9_fault_13 : decode cX9_fault 13 = .ok (.iconst 1, 1) := zq_0 zo_4 zkX9_fault_0 13 rfl rfl
theorem dX9_fault_14 : decode cX9_fault 14 = .ok (.if_icmp .ne 13, 3) := zq_2s zo_160 zkX9_fault_0 14 rfl rfl 0 13 rfl rfl _ (by decide +kernel)
theorem dX9_fault_17 : decode cX9_fault 17 = .ok (.aload_n 0, 1) := zq_0 zo_42 zkX9_fault_0 17 rfl rfl
theorem dX9_fault_18 : decode cX9_fault 18 = .ok (.getfield 12, 3) := zq_2 zo_180 zkX9_fault_0 18 rfl rfl 0 12 rfl rfl _ rfl
theorem dX9_fault_21 : decode cX9_fault 21 = .ok (.getfield 92, 3) := zq_2 zo_180 zkX9_fault_0 21 rfl rfl 0 92 rfl rfl _ rfl
theorem dX9_fault_24 : decode cX9_fault 24 = .ok (.goto 4, 3) := zq_2s zo_167 zkX9_fault_0 24 rfl rfl 0 4 rfl rfl _ (by decide +kernel)
theorem dX9_fault_27 : decode cX9_fault 27 = .ok (.iconst (-1), 1) := zq_0 zo_2 zkX9_fault_0 27 rfl rfl
theorem dX9_fault_28 : decode cX9_fault 28 = .ok (.ireturn, 1) := zq_0 zo_172 zkX9_fault_0 28 rfl rfl
theorem zkX9_count_0 : zqc cX9_count 0 [27, 184, 0, 109, 153, 0, 14, 42, 180, 0, 12, 27, 182, 0, 113, 167, 0, 5, 16, 254, 172] := zq_of 21 (by decide +kernel)
theorem dX9_count_0 : decode cX9_count 0 = .ok (.iload_n 1, 1) := zq_0 zo_27 zkX9_count_0 0 rfl rfl
theorem dX9_count_1 : decode cX9_count 1 = .ok (.invokestatic 109, 3) := zq_2 zo_184 zkX9_count_0 1 rfl rfl 0 109 rfl rfl _ rfl
theorem dX9_count_4 : decode cX9_count 4 = .ok (.ifCond .eq 14, 3) := zq_2s zo_153 zkX9_count_0 4 rfl rfl 0 14 rfl rfl _ (by decide +kernel)
theorem dX9_count_7 : decode cX9_count 7 = .ok (.aload_n 0, 1) := zq_0 zo_42 zkX9_count_0 7 rfl rfl
theorem dX9_count_8 : decode cX9_count 8 = .ok (.getfield 12, 3) := zq_2 zo_180 zkX9_count_0 8 rfl rfl 0 12 rfl rfl _ rfl
theorem dX9_count_11 : decode cX9_count 11 = .ok (.iload_n 1, 1) := zq_0 zo_27 zkX9_count_0 11 rfl rfl
theorem dX9_count_12 : decode cX9_count 12 = .ok (.invokevirtual 113, 3) := zq_2 zo_182 zkX9_count_0 12 rfl rfl 0 113 rfl rfl _ rfl
theorem dX9_count_15 : decode cX9_count 15 = .ok (.goto 5, 3) := zq_2s zo_167 zkX9_count_0 15 rfl rfl 0 5 rfl rfl _ (by decide +kernel)
theorem dX9_count_18 : decode cX9_count 18 = .ok (.bipush (-2), 2) := zq_1s zo_16 zkX9_count_0 18 rfl rfl 254 rfl _ (by decide +kernel)
theorem dX9_count_20 : decode cX9_count 20 = .ok (.ireturn, 1) := zq_0 zo_172 zkX9_count_0 20 rfl rfl
theorem zkX9_image_0 : zqc cX9_image 0 [27, 155, 0, 8, 27, 6, 161, 0, 5, 3, 172, 42, 180, 0, 16, 27, 50, 42, 180, 0, 12, 182, 0, 117, 42, 180, 0, 20, 27, 4, 84, 4, 172] := zq_of 33 (by decide +kernel)
theorem dX9_image_0 : decode cX9_image 0 = .ok (.iload_n 1, 1) := zq_0 zo_27 zkX9_image_0 0 rfl rfl
theorem dX9_image_1 : decode cX9_image 1 = .ok (.ifCond .lt 8, 3) := zq_2s zo_155 zkX9_image_0 1 rfl rfl 0 8 rfl rfl _ (by decide +kernel)
theorem dX9_image_4 : decode cX9_image 4 = .ok (.iload_n 1, 1) := zq_0 zo_27 zkX9_image_0 4 rfl rfl
theorem dX9_image_5 : decode cX9_image 5 = .ok (.iconst 3, 1) := zq_0 zo_6 zkX9_image_0 5 rfl rfl
theorem dX9_image_6 : decode cX9_image 6 = .ok (.if_icmp .lt 5, 3) := zq_2s zo_161 zkX9_image_0 6 rfl rfl 0 5 rfl rfl _ (by decide +kernel)
theorem dX9_image_9 : decode cX9_image 9 = .ok (.iconst 0, 1) := zq_0 zo_3 zkX9_image_0 9 rfl rfl
theorem dX9_image_10 : decode cX9_image 10 = .ok (.ireturn, 1) := zq_0 zo_172 zkX9_image_0 10 rfl rfl
theorem dX9_image_11 : decode cX9_image 11 = .ok (.aload_n 0, 1) := zq_0 zo_42 zkX9_image_0 11 rfl rfl
theorem dX9_image_12 : decode cX9_image 12 = .ok (.getfield 16, 3) := zq_2 zo_180 zkX9_image_0 12 rfl rfl 0 16 rfl rfl _ rfl
theorem dX9_image_15 : decode cX9_image 15 = .ok (.iload_n 1, 1) := zq_0 zo_27 zkX9_image_0 15 rfl rfl
theorem dX9_image_16 : decode cX9_image 16 = .ok (.aaload, 1) := zq_0 zo_50 zkX9_image_0 16 rfl rfl
theorem dX9_image_17 : decode cX9_image 17 = .ok (.aload_n 0, 1) := zq_0 zo_42 zkX9_image_0 17 rfl rfl
theorem dX9_image_18 : decode cX9_image 18 = .ok (.getfield 12, 3) := zq_2 zo_180 zkX9_image_0 18 rfl rfl 0 12 rfl rfl _ rfl
theorem dX9_image_21 : decode cX9_image 21 = .ok (.invokevirtual 117, 3) := zq_2 zo_182 zkX9_image_0 21 rfl rfl 0 117 rfl rfl _ rfl
theorem dX9_image_24 : decode cX9_image 24 = .ok (.aload_n 0, 1) := zq_0 zo_42 zkX9_image_0 24 rfl rfl
theorem dX9_image_25 : decode cX9_image 25 = .ok (.getfield 20, 3) := zq_2 zo_180 zkX9_image_0 25 rfl rfl 0 20 rfl rfl _ rfl
theorem dX9_image_28 : decode cX9_image 28 = .ok (.iload_n 1, 1) := zq_0 zo_27 zkX9_image_0 28 rfl rfl
theorem dX9_image_29 : decode cX9_image 29 = .ok (.iconst 1, 1) := zq_0 zo_4 zkX9_image_0 29 rfl rfl
theorem dX9_image_30 : decode cX9_image 30 = .ok (.bastore, 1) := zq_0 zo_84 zkX9_image_0 30 rfl rfl
theorem dX9_image_31 : decode cX9_image 31 = .ok (.iconst 1, 1) := zq_0 zo_4 zkX9_image_0 31 rfl rfl
theorem zkX9_image_32 : zqc cX9_image 32 [172] := zq_of 1 (by decide +kernel)
theorem dX9_image_32 : decode cX9_image 32 = .ok (.ireturn, 1) := zq_0 zo_172 zkX9_image_32 0 rfl rfl
theorem zkX9_again_0 : zqc cX9_again 0 [27, 155, 0, 17, 27, 6, 162, 0, 12, 42, 180, 0, 20, 27, 51, 154, 0, 5, 3, 172, 42, 180, 0, 12, 42, 180, 0, 16, 27, 50, 182, 0, 117, 4] := zq_of 34 (by decide +kernel)
theorem dX9_again_0 : decode cX9_again 0 = .ok (.iload_n 1, 1) := zq_0 zo_27 zkX9_again_0 0 rfl rfl
theorem dX9_again_1 : decode cX9_again 1 = .ok (.ifCond .lt 17, 3) := zq_2s zo_155 zkX9_again_0 1 rfl rfl 0 17 rfl rfl _ (by decide +kernel)
theorem dX9_again_4 : decode cX9_again 4 = .ok (.iload_n 1, 1) := zq_0 zo_27 zkX9_again_0 4 rfl rfl
theorem dX9_again_5 : decode cX9_again 5 = .ok (.iconst 3, 1) := zq_0 zo_6 zkX9_again_0 5 rfl rfl
theorem dX9_again_6 : decode cX9_again 6 = .ok (.if_icmp .ge 12, 3) := zq_2s zo_162 zkX9_again_0 6 rfl rfl 0 12 rfl rfl _ (by decide +kernel)
theorem dX9_again_9 : decode cX9_again 9 = .ok (.aload_n 0, 1) := zq_0 zo_42 zkX9_again_0 9 rfl rfl
theorem dX9_again_10 : decode cX9_again 10 = .ok (.getfield 20, 3) := zq_2 zo_180 zkX9_again_0 10 rfl rfl 0 20 rfl rfl _ rfl
theorem dX9_again_13 : decode cX9_again 13 = .ok (.iload_n 1, 1) := zq_0 zo_27 zkX9_again_0 13 rfl rfl
theorem dX9_again_14 : decode cX9_again 14 = .ok (.baload, 1) := zq_0 zo_51 zkX9_again_0 14 rfl rfl
theorem dX9_again_15 : decode cX9_again 15 = .ok (.ifCond .ne 5, 3) := zq_2s zo_154 zkX9_again_0 15 rfl rfl 0 5 rfl rfl _ (by decide +kernel)
theorem dX9_again_18 : decode cX9_again 18 = .ok (.iconst 0, 1) := zq_0 zo_3 zkX9_again_0 18 rfl rfl
theorem dX9_again_19 : decode cX9_again 19 = .ok (.ireturn, 1) := zq_0 zo_172 zkX9_again_0 19 rfl rfl
theorem dX9_again_20 : decode cX9_again 20 = .ok (.aload_n 0, 1) := zq_0 zo_42 zkX9_again_0 20 rfl rfl
theorem dX9_again_21 : decode cX9_again 21 = .ok (.getfield 12, 3) := zq_2 zo_180 zkX9_again_0 21 rfl rfl 0 12 rfl rfl _ rfl
theorem dX9_again_24 : decode cX9_again 24 = .ok (.aload_n 0, 1) := zq_0 zo_42 zkX9_again_0 24 rfl rfl
theorem dX9_again_25 : decode cX9_again 25 = .ok (.getfield 16, 3) := zq_2 zo_180 zkX9_again_0 25 rfl rfl 0 16 rfl rfl _ rfl
theorem dX9_again_28 : decode cX9_again 28 = .ok (.iload_n 1, 1) := zq_0 zo_27 zkX9_again_0 28 rfl rfl
theorem dX9_again_29 : decode cX9_again 29 = .ok (.aaload, 1) := zq_0 zo_50 zkX9_again_0 29 rfl rfl
theorem dX9_again_30 : decode cX9_again 30 = .ok (.invokevirtual 117, 3) := zq_2 zo_182 zkX9_again_0 30 rfl rfl 0 117 rfl rfl _ rfl
theorem zkX9_again_32 : zqc cX9_again 32 [117, 4, 172] := zq_of 3 (by decide +kernel)
theorem dX9_again_33 : decode cX9_again 33 = .ok (.iconst 1, 1) := zq_0 zo_4 zkX9_again_32 1 rfl rfl
theorem dX9_again_34 : decode cX9_again 34 = .ok (.ireturn, 1) := zq_0 zo_172 zkX9_again_32 2 rfl rfl
theorem zkX9_line_0 : zqc cX9_line 0 [42, 180, 0, 12, 27, 182, 0, 121, 78, 45, 199, 0, 6, 16, 254, 172, 28, 170, 0, 0, 0, 0, 0, 87, 0, 0, 0, 0, 0, 0, 0, 7, 0, 0] := zq_of 34 (by decide +kernel)
theorem dX9_line_0 : decode cX9_line 0 = .ok (.aload_n 0, 1) := zq_0 zo_42 zkX9_line_0 0 rfl rfl
theorem dX9_line_1 : decode cX9_line 1 = .ok (.getfield 12, 3) := zq_2 zo_180 zkX9_line_0 1 rfl rfl 0 12 rfl rfl _ rfl
theorem dX9_line_4 : decode cX9_line 4 = .ok (.iload_n 1, 1) := zq_0 zo_27 zkX9_line_0 4 rfl rfl
theorem dX9_line_5 : decode cX9_line 5 = .ok (.invokevirtual 121, 3) := zq_2 zo_182 zkX9_line_0 5 rfl rfl 0 121 rfl rfl _ rfl
theorem dX9_line_8 : decode cX9_line 8 = .ok (.astore_n 3, 1) := zq_0 zo_78 zkX9_line_0 8 rfl rfl
theorem dX9_line_9 : decode cX9_line 9 = .ok (.aload_n 3, 1) := zq_0 zo_45 zkX9_line_0 9 rfl rfl
theorem dX9_line_10 : decode cX9_line 10 = .ok (.ifnonnull 6, 3) := zq_2s zo_199 zkX9_line_0 10 rfl rfl 0 6 rfl rfl _ (by decide +kernel)
theorem dX9_line_13 : decode cX9_line 13 = .ok (.bipush (-2), 2) := zq_1s zo_16 zkX9_line_0 13 rfl rfl 254 rfl _ (by decide +kernel)
theorem dX9_line_15 : decode cX9_line 15 = .ok (.ireturn, 1) := zq_0 zo_172 zkX9_line_0 15 rfl rfl
theorem dX9_line_16 : decode cX9_line 16 = .ok (.iload_n 2, 1) := zq_0 zo_28 zkX9_line_0 16 rfl rfl
theorem dX9_line_17 : decode cX9_line 17 = .ok (.tableswitch 87 0 7 #[47, 52, 57, 62, 67, 72, 77, 82], 47) := by decide +kernel
theorem zkX9_line_64 : zqc cX9_line 64 [45, 180, 0, 125, 172, 45, 180, 0, 128, 172, 45, 180, 0, 131, 172, 45, 180, 0, 134, 172, 45, 180, 0, 137, 172, 45, 180, 0, 140, 172, 45, 180, 0, 143] := zq_of 34 (by decide +kernel)
theorem dX9_line_64 : decode cX9_line 64 = .ok (.aload_n 3, 1) := zq_0 zo_45 zkX9_line_64 0 rfl rfl
theorem dX9_line_65 : decode cX9_line 65 = .ok (.getfield 125, 3) := zq_2 zo_180 zkX9_line_64 1 rfl rfl 0 125 rfl rfl _ rfl
theorem dX9_line_68 : decode cX9_line 68 = .ok (.ireturn, 1) := zq_0 zo_172 zkX9_line_64 4 rfl rfl
theorem dX9_line_69 : decode cX9_line 69 = .ok (.aload_n 3, 1) := zq_0 zo_45 zkX9_line_64 5 rfl rfl
theorem dX9_line_70 : decode cX9_line 70 = .ok (.getfield 128, 3) := zq_2 zo_180 zkX9_line_64 6 rfl rfl 0 128 rfl rfl _ rfl
theorem dX9_line_73 : decode cX9_line 73 = .ok (.ireturn, 1) := zq_0 zo_172 zkX9_line_64 9 rfl rfl
theorem dX9_line_74 : decode cX9_line 74 = .ok (.aload_n 3, 1) := zq_0 zo_45 zkX9_line_64 10 rfl rfl
theorem dX9_line_75 : decode cX9_line 75 = .ok (.getfield 131, 3) := zq_2 zo_180 zkX9_line_64 11 rfl rfl 0 131 rfl rfl _ rfl
theorem dX9_line_78 : decode cX9_line 78 = .ok (.ireturn, 1) := zq_0 zo_172 zkX9_line_64 14 rfl rfl
theorem dX9_line_79 : decode cX9_line 79 = .ok (.aload_n 3, 1) := zq_0 zo_45 zkX9_line_64 15 rfl rfl
theorem dX9_line_80 : decode cX9_line 80 = .ok (.getfield 134, 3) := zq_2 zo_180 zkX9_line_64 16 rfl rfl 0 134 rfl rfl _ rfl
theorem dX9_line_83 : decode cX9_line 83 = .ok (.ireturn, 1) := zq_0 zo_172 zkX9_line_64 19 rfl rfl
theorem dX9_line_84 : decode cX9_line 84 = .ok (.aload_n 3, 1) := zq_0 zo_45 zkX9_line_64 20 rfl rfl
theorem dX9_line_85 : decode cX9_line 85 = .ok (.getfield 137, 3) := zq_2 zo_180 zkX9_line_64 21 rfl rfl 0 137 rfl rfl _ rfl
theorem dX9_line_88 : decode cX9_line 88 = .ok (.ireturn, 1) := zq_0 zo_172 zkX9_line_64 24 rfl rfl
theorem dX9_line_89 : decode cX9_line 89 = .ok (.aload_n 3, 1) := zq_0 zo_45 zkX9_line_64 25 rfl rfl
theorem dX9_line_90 : decode cX9_line 90 = .ok (.getfield 140, 3) := zq_2 zo_180 zkX9_line_64 26 rfl rfl 0 140 rfl rfl _ rfl
theorem dX9_line_93 : decode cX9_line 93 = .ok (.ireturn, 1) := zq_0 zo_172 zkX9_line_64 29 rfl rfl
theorem dX9_line_94 : decode cX9_line 94 = .ok (.aload_n 3, 1) := zq_0 zo_45 zkX9_line_64 30 rfl rfl
theorem dX9_line_95 : decode cX9_line 95 = .ok (.getfield 143, 3) := zq_2 zo_180 zkX9_line_64 31 rfl rfl 0 143 rfl rfl _ rfl
theorem zkX9_line_96 : zqc cX9_line 96 [0, 143, 172, 45, 182, 0, 146, 172, 16, 254, 172] := zq_of 11 (by decide +kernel)
theorem dX9_line_98 : decode cX9_line 98 = .ok (.ireturn, 1) := zq_0 zo_172 zkX9_line_96 2 rfl rfl
theorem dX9_line_99 : decode cX9_line 99 = .ok (.aload_n 3, 1) := zq_0 zo_45 zkX9_line_96 3 rfl rfl
theorem dX9_line_100 : decode cX9_line 100 = .ok (.invokevirtual 146, 3) := zq_2 zo_182 zkX9_line_96 4 rfl rfl 0 146 rfl rfl _ rfl
theorem dX9_line_103 : decode cX9_line 103 = .ok (.ireturn, 1) := zq_0 zo_172 zkX9_line_96 7 rfl rfl
theorem dX9_line_104 : decode cX9_line 104 = .ok (.bipush (-2), 2) := zq_1s zo_16 zkX9_line_96 8 rfl rfl 254 rfl _ (by decide +kernel)
theorem dX9_line_106 : decode cX9_line 106 = .ok (.ireturn, 1) := zq_0 zo_172 zkX9_line_96 10 rfl rfl
theorem zkX9_post_0 : zqc cX9_post 0 [42, 180, 0, 12, 27, 182, 0, 121, 58, 4, 25, 4, 198, 0, 12, 25, 4, 28, 182, 0, 150, 154, 0, 6, 16, 254, 172, 29, 16, 10, 161, 0, 20, 29] := zq_of 34 (by decide +kernel)
theorem dX9_post_0 : decode cX9_post 0 = .ok (.aload_n 0, 1) := zq_0 zo_42 zkX9_post_0 0 rfl rfl
theorem dX9_post_1 : decode cX9_post 1 = .ok (.getfield 12, 3) := zq_2 zo_180 zkX9_post_0 1 rfl rfl 0 12 rfl rfl _ rfl
theorem dX9_post_4 : decode cX9_post 4 = .ok (.iload_n 1, 1) := zq_0 zo_27 zkX9_post_0 4 rfl rfl
theorem dX9_post_5 : decode cX9_post 5 = .ok (.invokevirtual 121, 3) := zq_2 zo_182 zkX9_post_0 5 rfl rfl 0 121 rfl rfl _ rfl
theorem dX9_post_8 : decode cX9_post 8 = .ok (.astore 4, 2) := zq_1 zo_58 zkX9_post_0 8 rfl rfl 4 rfl
theorem dX9_post_10 : decode cX9_post 10 = .ok (.aload 4, 2) := zq_1 zo_25 zkX9_post_0 10 rfl rfl 4 rfl
theorem dX9_post_12 : decode cX9_post 12 = .ok (.ifnull 12, 3) := zq_2s zo_198 zkX9_post_0 12 rfl rfl 0 12 rfl rfl _ (by decide +kernel)
theorem dX9_post_15 : decode cX9_post 15 = .ok (.aload 4, 2) := zq_1 zo_25 zkX9_post_0 15 rfl rfl 4 rfl
theorem dX9_post_17 : decode cX9_post 17 = .ok (.iload_n 2, 1) := zq_0 zo_28 zkX9_post_0 17 rfl rfl
theorem dX9_post_18 : decode cX9_post 18 = .ok (.invokevirtual 150, 3) := zq_2 zo_182 zkX9_post_0 18 rfl rfl 0 150 rfl rfl _ rfl
theorem dX9_post_21 : decode cX9_post 21 = .ok (.ifCond .ne 6, 3) := zq_2s zo_154 zkX9_post_0 21 rfl rfl 0 6 rfl rfl _ (by decide +kernel)
theorem dX9_post_24 : decode cX9_post 24 = .ok (.bipush (-2), 2) := zq_1s zo_16 zkX9_post_0 24 rfl rfl 254 rfl _ (by decide +kernel)
theorem dX9_post_26 : decode cX9_post 26 = .ok (.ireturn, 1) := zq_0 zo_172 zkX9_post_0 26 rfl rfl
theorem dX9_post_27 : decode cX9_post 27 = .ok (.iload_n 3, 1) := zq_0 zo_29 zkX9_post_0 27 rfl rfl
theorem dX9_post_28 : decode cX9_post 28 = .ok (.bipush 10, 2) := zq_1s zo_16 zkX9_post_0 28 rfl rfl 10 rfl _ (by decide +kernel)
theorem dX9_post_30 : decode cX9_post 30 = .ok (.if_icmp .lt 20, 3) := zq_2s zo_161 zkX9_post_0 30 rfl rfl 0 20 rfl rfl _ (by decide +kernel)
theorem zkX9_post_32 : zqc cX9_post 32 [20, 29, 16, 20, 162, 0, 14, 25, 4, 28, 29, 16, 10, 100, 182, 0, 153, 172, 29, 170, 0, 0, 0, 99, 0, 0, 0, 0, 0, 0, 0, 5, 0, 0] := zq_of 34 (by decide +kernel)
theorem dX9_post_33 : decode cX9_post 33 = .ok (.iload_n 3, 1) := zq_0 zo_29 zkX9_post_32 1 rfl rfl
theorem dX9_post_34 : decode cX9_post 34 = .ok (.bipush 20, 2) := zq_1s zo_16 zkX9_post_32 2 rfl rfl 20 rfl _ (by decide +kernel)
theorem dX9_post_36 : decode cX9_post 36 = .ok (.if_icmp .ge 14, 3) := zq_2s zo_162 zkX9_post_32 4 rfl rfl 0 14 rfl rfl _ (by decide +kernel)
theorem dX9_post_39 : decode cX9_post 39 = .ok (.aload 4, 2) := zq_1 zo_25 zkX9_post_32 7 rfl rfl 4 rfl
theorem dX9_post_41 : decode cX9_post 41 = .ok (.iload_n 2, 1) := zq_0 zo_28 zkX9_post_32 9 rfl rfl
theorem dX9_post_42 : decode cX9_post 42 = .ok (.iload_n 3, 1) := zq_0 zo_29 zkX9_post_32 10 rfl rfl
theorem dX9_post_43 : decode cX9_post 43 = .ok (.bipush 10, 2) := zq_1s zo_16 zkX9_post_32 11 rfl rfl 10 rfl _ (by decide +kernel)
theorem dX9_post_45 : decode cX9_post 45 = .ok (.isub, 1) := zq_0 zo_100 zkX9_post_32 13 rfl rfl
theorem dX9_post_46 : decode cX9_post 46 = .ok (.invokevirtual 153, 3) := zq_2 zo_182 zkX9_post_32 14 rfl rfl 0 153 rfl rfl _ rfl
theorem dX9_post_49 : decode cX9_post 49 = .ok (.ireturn, 1) := zq_0 zo_172 zkX9_post_32 17 rfl rfl
theorem dX9_post_50 : decode cX9_post 50 = .ok (.iload_n 3, 1) := zq_0 zo_29 zkX9_post_32 18 rfl rfl
theorem dX9_post_51 : decode cX9_post 51 = .ok (.tableswitch 99 0 5 #[37, 45, 53, 61, 69, 77], 37) := by decide +kernel
theorem zkX9_post_64 : zqc cX9_post 64 [0, 0, 0, 37, 0, 0, 0, 45, 0, 0, 0, 53, 0, 0, 0, 61, 0, 0, 0, 69, 0, 0, 0, 77, 25, 4, 180, 0, 156, 28, 46, 172, 25, 4] := zq_of 34 (by decide +kernel)
theorem dX9_post_88 : decode cX9_post 88 = .ok (.aload 4, 2) := zq_1 zo_25 zkX9_post_64 24 rfl rfl 4 rfl
theorem dX9_post_90 : decode cX9_post 90 = .ok (.getfield 156, 3) := zq_2 zo_180 zkX9_post_64 26 rfl rfl 0 156 rfl rfl _ rfl
theorem dX9_post_93 : decode cX9_post 93 = .ok (.iload_n 2, 1) := zq_0 zo_28 zkX9_post_64 29 rfl rfl
theorem dX9_post_94 : decode cX9_post 94 = .ok (.iaload, 1) := zq_0 zo_46 zkX9_post_64 30 rfl rfl
theorem dX9_post_95 : decode cX9_post 95 = .ok (.ireturn, 1) := zq_0 zo_172 zkX9_post_64 31 rfl rfl
theorem zkX9_post_96 : zqc cX9_post 96 [25, 4, 180, 0, 159, 28, 46, 172, 25, 4, 180, 0, 162, 28, 46, 172, 25, 4, 180, 0, 165, 28, 46, 172, 25, 4, 180, 0, 168, 28, 46, 172, 28, 25] := zq_of 34 (by decide +kernel)
theorem dX9_post_96 : decode cX9_post 96 = .ok (.aload 4, 2) := zq_1 zo_25 zkX9_post_96 0 rfl rfl 4 rfl
theorem dX9_post_98 : decode cX9_post 98 = .ok (.getfield 159, 3) := zq_2 zo_180 zkX9_post_96 2 rfl rfl 0 159 rfl rfl _ rfl
theorem dX9_post_101 : decode cX9_post 101 = .ok (.iload_n 2, 1) := zq_0 zo_28 zkX9_post_96 5 rfl rfl
theorem dX9_post_102 : decode cX9_post 102 = .ok (.iaload, 1) := zq_0 zo_46 zkX9_post_96 6 rfl rfl
theorem dX9_post_103 : decode cX9_post 103 = .ok (.ireturn, 1) := zq_0 zo_172 zkX9_post_96 7 rfl rfl
theorem dX9_post_104 : decode cX9_post 104 = .ok (.aload 4, 2) := zq_1 zo_25 zkX9_post_96 8 rfl rfl 4 rfl
theorem dX9_post_106 : decode cX9_post 106 = .ok (.getfield 162, 3) := zq_2 zo_180 zkX9_post_96 10 rfl rfl 0 162 rfl rfl _ rfl
theorem dX9_post_109 : decode cX9_post 109 = .ok (.iload_n 2, 1) := zq_0 zo_28 zkX9_post_96 13 rfl rfl
theorem dX9_post_110 : decode cX9_post 110 = .ok (.iaload, 1) := zq_0 zo_46 zkX9_post_96 14 rfl rfl
theorem dX9_post_111 : decode cX9_post 111 = .ok (.ireturn, 1) := zq_0 zo_172 zkX9_post_96 15 rfl rfl
theorem dX9_post_112 : decode cX9_post 112 = .ok (.aload 4, 2) := zq_1 zo_25 zkX9_post_96 16 rfl rfl 4 rfl
theorem dX9_post_114 : decode cX9_post 114 = .ok (.getfield 165, 3) := zq_2 zo_180 zkX9_post_96 18 rfl rfl 0 165 rfl rfl _ rfl
theorem dX9_post_117 : decode cX9_post 117 = .ok (.iload_n 2, 1) := zq_0 zo_28 zkX9_post_96 21 rfl rfl
theorem dX9_post_118 : decode cX9_post 118 = .ok (.iaload, 1) := zq_0 zo_46 zkX9_post_96 22 rfl rfl
theorem dX9_post_119 : decode cX9_post 119 = .ok (.ireturn, 1) := zq_0 zo_172 zkX9_post_96 23 rfl rfl
theorem dX9_post_120 : decode cX9_post 120 = .ok (.aload 4, 2) := zq_1 zo_25 zkX9_post_96 24 rfl rfl 4 rfl
theorem dX9_post_122 : decode cX9_post 122 = .ok (.getfield 168, 3) := zq_2 zo_180 zkX9_post_96 26 rfl rfl 0 168 rfl rfl _ rfl
theorem dX9_post_125 : decode cX9_post 125 = .ok (.iload_n 2, 1) := zq_0 zo_28 zkX9_post_96 29 rfl rfl
theorem dX9_post_126 : decode cX9_post 126 = .ok (.iaload, 1) := zq_0 zo_46 zkX9_post_96 30 rfl rfl
theorem dX9_post_127 : decode cX9_post 127 = .ok (.ireturn, 1) := zq_0 zo_172 zkX9_post_96 31 rfl rfl
theorem zkX9_post_128 : zqc cX9_post 128 [28, 25, 4, 180, 0, 125, 4, 100, 160, 0, 7, 2, 167, 0, 9, 25, 4, 28, 182, 0, 171, 172, 16, 254, 172] := zq_of 25 (by decide +kernel)
theorem dX9_post_128 : decode cX9_post 128 = .ok (.iload_n 2, 1) := zq_0 zo_28 zkX9_post_128 0 rfl rfl
theorem dX9_post_129 : decode cX9_post 129 = .ok (.aload 4, 2) := zq_1 zo_25 zkX9_post_128 1 rfl rfl 4 rfl
theorem dX9_post_131 : decode cX9_post 131 = .ok (.getfield 125, 3) := zq_2 zo_180 zkX9_post_128 3 rfl rfl 0 125 rfl rfl _ rfl
theorem dX9_post_134 : decode cX9_post 134 = .ok (.iconst 1, 1) := zq_0 zo_4 zkX9_post_128 6 rfl rfl
theorem dX9_post_135 : decode cX9_post 135 = .ok (.isub, 1) := zq_0 zo_100 zkX9_post_128 7 rfl rfl
theorem dX9_post_136 : decode cX9_post 136 = .ok (.if_icmp .ne 7, 3) := zq_2s zo_160 zkX9_post_128 8 rfl rfl 0 7 rfl rfl _ (by decide +kernel)
theorem dX9_post_139 : decode cX9_post 139 = .ok (.iconst (-1), 1) := zq_0 zo_2 zkX9_post_128 11 rfl rfl
theorem dX9_post_140 : decode cX9_post 140 = .ok (.goto 9, 3) := zq_2s zo_167 zkX9_post_128 12 rfl rfl 0 9 rfl rfl _ (by decide +kernel)
theorem dX9_post_143 : decode cX9_post 143 = .ok (.aload 4, 2) := zq_1 zo_25 zkX9_post_128 15 rfl rfl 4 rfl
theorem dX9_post_145 : decode cX9_post 145 = .ok (.iload_n 2, 1) := zq_0 zo_28 zkX9_post_128 17 rfl rfl
theorem dX9_post_146 : decode cX9_post 146 = .ok (.invokevirtual 171, 3) := zq_2 zo_182 zkX9_post_128 18 rfl rfl 0 171 rfl rfl _ rfl
theorem dX9_post_149 : decode cX9_post 149 = .ok (.ireturn, 1) := zq_0 zo_172 zkX9_post_128 21 rfl rfl
theorem dX9_post_150 : decode cX9_post 150 = .ok (.bipush (-2), 2) := zq_1s zo_16 zkX9_post_128 22 rfl rfl 254 rfl _ (by decide +kernel)
theorem dX9_post_152 : decode cX9_post 152 = .ok (.ireturn, 1) := zq_0 zo_172 zkX9_post_128 24 rfl rfl
theorem zkX9_rider_0 : zqc cX9_rider 0 [42, 180, 0, 12, 27, 182, 0, 121, 58, 4, 25, 4, 198, 0, 12, 25, 4, 28, 182, 0, 174, 154, 0, 5, 2, 172, 29, 170, 0, 0, 0, 85, 0, 0] := zq_of 34 (by decide +kernel)
theorem dX9_rider_0 : decode cX9_rider 0 = .ok (.aload_n 0, 1) := zq_0 zo_42 zkX9_rider_0 0 rfl rfl
theorem dX9_rider_1 : decode cX9_rider 1 = .ok (.getfield 12, 3) := zq_2 zo_180 zkX9_rider_0 1 rfl rfl 0 12 rfl rfl _ rfl
theorem dX9_rider_4 : decode cX9_rider 4 = .ok (.iload_n 1, 1) := zq_0 zo_27 zkX9_rider_0 4 rfl rfl
theorem dX9_rider_5 : decode cX9_rider 5 = .ok (.invokevirtual 121, 3) := zq_2 zo_182 zkX9_rider_0 5 rfl rfl 0 121 rfl rfl _ rfl
theorem dX9_rider_8 : decode cX9_rider 8 = .ok (.astore 4, 2) := zq_1 zo_58 zkX9_rider_0 8 rfl rfl 4 rfl
theorem dX9_rider_10 : decode cX9_rider 10 = .ok (.aload 4, 2) := zq_1 zo_25 zkX9_rider_0 10 rfl rfl 4 rfl
theorem dX9_rider_12 : decode cX9_rider 12 = .ok (.ifnull 12, 3) := zq_2s zo_198 zkX9_rider_0 12 rfl rfl 0 12 rfl rfl _ (by decide +kernel)
theorem dX9_rider_15 : decode cX9_rider 15 = .ok (.aload 4, 2) := zq_1 zo_25 zkX9_rider_0 15 rfl rfl 4 rfl
theorem dX9_rider_17 : decode cX9_rider 17 = .ok (.iload_n 2, 1) := zq_0 zo_28 zkX9_rider_0 17 rfl rfl
theorem dX9_rider_18 : decode cX9_rider 18 = .ok (.invokevirtual 174, 3) := zq_2 zo_182 zkX9_rider_0 18 rfl rfl 0 174 rfl rfl _ rfl
theorem dX9_rider_21 : decode cX9_rider 21 = .ok (.ifCond .ne 5, 3) := zq_2s zo_154 zkX9_rider_0 21 rfl rfl 0 5 rfl rfl _ (by decide +kernel)
theorem dX9_rider_24 : decode cX9_rider 24 = .ok (.iconst (-1), 1) := zq_0 zo_2 zkX9_rider_0 24 rfl rfl
theorem dX9_rider_25 : decode cX9_rider 25 = .ok (.ireturn, 1) := zq_0 zo_172 zkX9_rider_0 25 rfl rfl
theorem dX9_rider_26 : decode cX9_rider 26 = .ok (.iload_n 3, 1) := zq_0 zo_29 zkX9_rider_0 26 rfl rfl
theorem dX9_rider_27 : decode cX9_rider 27 = .ok (.tableswitch 85 0 5 #[37, 45, 53, 61, 69, 77], 37) := by decide +kernel
theorem zkX9_rider_64 : zqc cX9_rider 64 [25, 4, 180, 0, 177, 28, 46, 172, 25, 4, 180, 0, 180, 28, 46, 172, 25, 4, 180, 0, 183, 28, 46, 172, 25, 4, 180, 0, 186, 28, 46, 172, 25, 4] := zq_of 34 (by decide +kernel)
theorem dX9_rider_64 : decode cX9_rider 64 = .ok (.aload 4, 2) := zq_1 zo_25 zkX9_rider_64 0 rfl rfl 4 rfl
theorem dX9_rider_66 : decode cX9_rider 66 = .ok (.getfield 177, 3) := zq_2 zo_180 zkX9_rider_64 2 rfl rfl 0 177 rfl rfl _ rfl
theorem dX9_rider_69 : decode cX9_rider 69 = .ok (.iload_n 2, 1) := zq_0 zo_28 zkX9_rider_64 5 rfl rfl
theorem dX9_rider_70 : decode cX9_rider 70 = .ok (.iaload, 1) := zq_0 zo_46 zkX9_rider_64 6 rfl rfl
theorem dX9_rider_71 : decode cX9_rider 71 = .ok (.ireturn, 1) := zq_0 zo_172 zkX9_rider_64 7 rfl rfl
theorem dX9_rider_72 : decode cX9_rider 72 = .ok (.aload 4, 2) := zq_1 zo_25 zkX9_rider_64 8 rfl rfl 4 rfl
theorem dX9_rider_74 : decode cX9_rider 74 = .ok (.getfield 180, 3) := zq_2 zo_180 zkX9_rider_64 10 rfl rfl 0 180 rfl rfl _ rfl
theorem dX9_rider_77 : decode cX9_rider 77 = .ok (.iload_n 2, 1) := zq_0 zo_28 zkX9_rider_64 13 rfl rfl
theorem dX9_rider_78 : decode cX9_rider 78 = .ok (.iaload, 1) := zq_0 zo_46 zkX9_rider_64 14 rfl rfl
theorem dX9_rider_79 : decode cX9_rider 79 = .ok (.ireturn, 1) := zq_0 zo_172 zkX9_rider_64 15 rfl rfl
theorem dX9_rider_80 : decode cX9_rider 80 = .ok (.aload 4, 2) := zq_1 zo_25 zkX9_rider_64 16 rfl rfl 4 rfl
theorem dX9_rider_82 : decode cX9_rider 82 = .ok (.getfield 183, 3) := zq_2 zo_180 zkX9_rider_64 18 rfl rfl 0 183 rfl rfl _ rfl
theorem dX9_rider_85 : decode cX9_rider 85 = .ok (.iload_n 2, 1) := zq_0 zo_28 zkX9_rider_64 21 rfl rfl
theorem dX9_rider_86 : decode cX9_rider 86 = .ok (.iaload, 1) := zq_0 zo_46 zkX9_rider_64 22 rfl rfl
theorem dX9_rider_87 : decode cX9_rider 87 = .ok (.ireturn, 1) := zq_0 zo_172 zkX9_rider_64 23 rfl rfl
theorem dX9_rider_88 : decode cX9_rider 88 = .ok (.aload 4, 2) := zq_1 zo_25 zkX9_rider_64 24 rfl rfl 4 rfl
theorem dX9_rider_90 : decode cX9_rider 90 = .ok (.getfield 186, 3) := zq_2 zo_180 zkX9_rider_64 26 rfl rfl 0 186 rfl rfl _ rfl
theorem dX9_rider_93 : decode cX9_rider 93 = .ok (.iload_n 2, 1) := zq_0 zo_28 zkX9_rider_64 29 rfl rfl
theorem dX9_rider_94 : decode cX9_rider 94 = .ok (.iaload, 1) := zq_0 zo_46 zkX9_rider_64 30 rfl rfl
theorem dX9_rider_95 : decode cX9_rider 95 = .ok (.ireturn, 1) := zq_0 zo_172 zkX9_rider_64 31 rfl rfl
theorem zkX9_rider_96 : zqc cX9_rider 96 [25, 4, 180, 0, 189, 28, 46, 172, 25, 4, 180, 0, 192, 28, 46, 172, 2, 172] := zq_of 18 (by decide +kernel)
theorem dX9_rider_96 : decode cX9_rider 96 = .ok (.aload 4, 2) := zq_1 zo_25 zkX9_rider_96 0 rfl rfl 4 rfl
theorem dX9_rider_98 : decode cX9_rider 98 = .ok (.getfield 189, 3) := zq_2 zo_180 zkX9_rider_96 2 rfl rfl 0 189 rfl rfl _ rfl
theorem dX9_rider_101 : decode cX9_rider 101 = .ok (.iload_n 2, 1) := zq_0 zo_28 zkX9_rider_96 5 rfl rfl
theorem dX9_rider_102 : decode cX9_rider 102 = .ok (.iaload, 1) := zq_0 zo_46 zkX9_rider_96 6 rfl rfl
theorem dX9_rider_103 : decode cX9_rider 103 = .ok (.ireturn, 1) := zq_0 zo_172 zkX9_rider_96 7 rfl rfl
theorem dX9_rider_104 : decode cX9_rider 104 = .ok (.aload 4, 2) := zq_1 zo_25 zkX9_rider_96 8 rfl rfl 4 rfl
theorem dX9_rider_106 : decode cX9_rider 106 = .ok (.getfield 192, 3) := zq_2 zo_180 zkX9_rider_96 10 rfl rfl 0 192 rfl rfl _ rfl
theorem dX9_rider_109 : decode cX9_rider 109 = .ok (.iload_n 2, 1) := zq_0 zo_28 zkX9_rider_96 13 rfl rfl
theorem dX9_rider_110 : decode cX9_rider 110 = .ok (.iaload, 1) := zq_0 zo_46 zkX9_rider_96 14 rfl rfl
theorem dX9_rider_111 : decode cX9_rider 111 = .ok (.ireturn, 1) := zq_0 zo_172 zkX9_rider_96 15 rfl rfl
theorem dX9_rider_112 : decode cX9_rider 112 = .ok (.iconst (-1), 1) := zq_0 zo_2 zkX9_rider_96 16 rfl rfl
theorem dX9_rider_113 : decode cX9_rider 113 = .ok (.ireturn, 1) := zq_0 zo_172 zkX9_rider_96 17 rfl rfl
theorem zkX9_pull_0 : zqc cX9_pull 0 [42, 180, 0, 12, 27, 182, 0, 195, 28, 29, 184, 0, 199, 172] := zq_of 14 (by decide +kernel)
theorem dX9_pull_0 : decode cX9_pull 0 = .ok (.aload_n 0, 1) := zq_0 zo_42 zkX9_pull_0 0 rfl rfl
theorem dX9_pull_1 : decode cX9_pull 1 = .ok (.getfield 12, 3) := zq_2 zo_180 zkX9_pull_0 1 rfl rfl 0 12 rfl rfl _ rfl
theorem dX9_pull_4 : decode cX9_pull 4 = .ok (.iload_n 1, 1) := zq_0 zo_27 zkX9_pull_0 4 rfl rfl
theorem dX9_pull_5 : decode cX9_pull 5 = .ok (.invokevirtual 195, 3) := zq_2 zo_182 zkX9_pull_0 5 rfl rfl 0 195 rfl rfl _ rfl
theorem dX9_pull_8 : decode cX9_pull 8 = .ok (.iload_n 2, 1) := zq_0 zo_28 zkX9_pull_0 8 rfl rfl
theorem dX9_pull_9 : decode cX9_pull 9 = .ok (.iload_n 3, 1) := zq_0 zo_29 zkX9_pull_0 9 rfl rfl
theorem dX9_pull_10 : decode cX9_pull 10 = .ok (.invokestatic 199, 3) := zq_2 zo_184 zkX9_pull_0 10 rfl rfl 0 199 rfl rfl _ rfl
theorem dX9_pull_13 : decode cX9_pull 13 = .ok (.ireturn, 1) := zq_0 zo_172 zkX9_pull_0 13 rfl rfl
theorem zkX9_seen_0 : zqc cX9_seen 0 [42, 180, 0, 12, 27, 182, 0, 203, 28, 29, 184, 0, 199, 172] := zq_of 14 (by decide +kernel)
theorem dX9_seen_0 : decode cX9_seen 0 = .ok (.aload_n 0, 1) := zq_0 zo_42 zkX9_seen_0 0 rfl rfl
theorem dX9_seen_1 : decode cX9_seen 1 = .ok (.getfield 12, 3) := zq_2 zo_180 zkX9_seen_0 1 rfl rfl 0 12 rfl rfl _ rfl
theorem dX9_seen_4 : decode cX9_seen 4 = .ok (.iload_n 1, 1) := zq_0 zo_27 zkX9_seen_0 4 rfl rfl
theorem dX9_seen_5 : decode cX9_seen 5 = .ok (.invokevirtual 203, 3) := zq_2 zo_182 zkX9_seen_0 5 rfl rfl 0 203 rfl rfl _ rfl
theorem dX9_seen_8 : decode cX9_seen 8 = .ok (.iload_n 2, 1) := zq_0 zo_28 zkX9_seen_0 8 rfl rfl
theorem dX9_seen_9 : decode cX9_seen 9 = .ok (.iload_n 3, 1) := zq_0 zo_29 zkX9_seen_0 9 rfl rfl
theorem dX9_seen_10 : decode cX9_seen 10 = .ok (.invokestatic 199, 3) := zq_2 zo_184 zkX9_seen_0 10 rfl rfl 0 199 rfl rfl _ rfl
theorem dX9_seen_13 : decode cX9_seen 13 = .ok (.ireturn, 1) := zq_0 zo_172 zkX9_seen_0 13 rfl rfl
theorem zkX9_run_0 : zqc cX9_run 0 [42, 27, 28, 29, 21, 4, 182, 0, 206, 58, 6, 25, 6, 199, 0, 6, 16, 254, 172, 21, 5, 16, 100, 161, 0, 31, 21, 5, 16, 100, 25, 6, 180, 0] := zq_of 34 (by decide +kernel)
theorem dX9_run_0 : decode cX9_run 0 = .ok (.aload_n 0, 1) := zq_0 zo_42 zkX9_run_0 0 rfl rfl
theorem dX9_run_1 : decode cX9_run 1 = .ok (.iload_n 1, 1) := zq_0 zo_27 zkX9_run_0 1 rfl rfl
theorem dX9_run_2 : decode cX9_run 2 = .ok (.iload_n 2, 1) := zq_0 zo_28 zkX9_run_0 2 rfl rfl
theorem dX9_run_3 : decode cX9_run 3 = .ok (.iload_n 3, 1) := zq_0 zo_29 zkX9_run_0 3 rfl rfl
theorem dX9_run_4 : decode cX9_run 4 = .ok (.iload 4, 2) := zq_1 zo_21 zkX9_run_0 4 rfl rfl 4 rfl
theorem dX9_run_6 : decode cX9_run 6 = .ok (.invokevirtual 206, 3) := zq_2 zo_182 zkX9_run_0 6 rfl rfl 0 206 rfl rfl _ rfl
theorem dX9_run_9 : decode cX9_run 9 = .ok (.astore 6, 2) := zq_1 zo_58 zkX9_run_0 9 rfl rfl 6 rfl
theorem dX9_run_11 : decode cX9_run 11 = .ok (.aload 6, 2) := zq_1 zo_25 zkX9_run_0 11 rfl rfl 6 rfl
theorem dX9_run_13 : decode cX9_run 13 = .ok (.ifnonnull 6, 3) := zq_2s zo_199 zkX9_run_0 13 rfl rfl 0 6 rfl rfl _ (by decide +kernel)
theorem dX9_run_16 : decode cX9_run 16 = .ok (.bipush (-2), 2) := zq_1s zo_16 zkX9_run_0 16 rfl rfl 254 rfl _ (by decide +kernel)
theorem dX9_run_18 : decode cX9_run 18 = .ok (.ireturn, 1) := zq_0 zo_172 zkX9_run_0 18 rfl rfl
theorem dX9_run_19 : decode cX9_run 19 = .ok (.iload 5, 2) := zq_1 zo_21 zkX9_run_0 19 rfl rfl 5 rfl
theorem dX9_run_21 : decode cX9_run 21 = .ok (.bipush 100, 2) := zq_1s zo_16 zkX9_run_0 21 rfl rfl 100 rfl _ (by decide +kernel)
theorem dX9_run_23 : decode cX9_run 23 = .ok (.if_icmp .lt 31, 3) := zq_2s zo_161 zkX9_run_0 23 rfl rfl 0 31 rfl rfl _ (by decide +kernel)
theorem dX9_run_26 : decode cX9_run 26 = .ok (.iload 5, 2) := zq_1 zo_21 zkX9_run_0 26 rfl rfl 5 rfl
theorem dX9_run_28 : decode cX9_run 28 = .ok (.bipush 100, 2) := zq_1s zo_16 zkX9_run_0 28 rfl rfl 100 rfl _ (by decide +kernel)
theorem dX9_run_30 : decode cX9_run 30 = .ok (.aload 6, 2) := zq_1 zo_25 zkX9_run_0 30 rfl rfl 6 rfl
theorem zkX9_run_32 : zqc cX9_run 32 [180, 0, 125, 96, 162, 0, 18, 42, 180, 0, 34, 25, 6, 21, 5, 16, 100, 100, 182, 0, 210, 172, 21, 5, 17, 0, 200, 161, 0, 32, 21, 5, 17, 0] := zq_of 34 (by decide +kernel)
theorem dX9_run_32 : decode cX9_run 32 = .ok (.getfield 125, 3) := zq_2 zo_180 zkX9_run_32 0 rfl rfl 0 125 rfl rfl _ rfl
theorem dX9_run_35 : decode cX9_run 35 = .ok (.iadd, 1) := zq_0 zo_96 zkX9_run_32 3 rfl rfl
theorem dX9_run_36 : decode cX9_run 36 = .ok (.if_icmp .ge 18, 3) := zq_2s zo_162 zkX9_run_32 4 rfl rfl 0 18 rfl rfl _ (by decide +kernel)
theorem dX9_run_39 : decode cX9_run 39 = .ok (.aload_n 0, 1) := zq_0 zo_42 zkX9_run_32 7 rfl rfl
theorem dX9_run_40 : decode cX9_run 40 = .ok (.getfield 34, 3) := zq_2 zo_180 zkX9_run_32 8 rfl rfl 0 34 rfl rfl _ rfl
theorem dX9_run_43 : decode cX9_run 43 = .ok (.aload 6, 2) := zq_1 zo_25 zkX9_run_32 11 rfl rfl 6 rfl
theorem dX9_run_45 : decode cX9_run 45 = .ok (.iload 5, 2) := zq_1 zo_21 zkX9_run_32 13 rfl rfl 5 rfl
theorem dX9_run_47 : decode cX9_run 47 = .ok (.bipush 100, 2) := zq_1s zo_16 zkX9_run_32 15 rfl rfl 100 rfl _ (by decide +kernel)
theorem dX9_run_49 : decode cX9_run 49 = .ok (.isub, 1) := zq_0 zo_100 zkX9_run_32 17 rfl rfl
theorem dX9_run_50 : decode cX9_run 50 = .ok (.invokevirtual 210, 3) := zq_2 zo_182 zkX9_run_32 18 rfl rfl 0 210 rfl rfl _ rfl
theorem dX9_run_53 : decode cX9_run 53 = .ok (.ireturn, 1) := zq_0 zo_172 zkX9_run_32 21 rfl rfl
theorem dX9_run_54 : decode cX9_run 54 = .ok (.iload 5, 2) := zq_1 zo_21 zkX9_run_32 22 rfl rfl 5 rfl
theorem dX9_run_56 : decode cX9_run 56 = .ok (.sipush 200, 3) := zq_2s zo_17 zkX9_run_32 24 rfl rfl 0 200 rfl rfl _ (by decide +kernel)
theorem dX9_run_59 : decode cX9_run 59 = .ok (.if_icmp .lt 32, 3) := zq_2s zo_161 zkX9_run_32 27 rfl rfl 0 32 rfl rfl _ (by decide +kernel)
theorem dX9_run_62 : decode cX9_run 62 = .ok (.iload 5, 2) := zq_1 zo_21 zkX9_run_32 30 rfl rfl 5 rfl
theorem zkX9_run_64 : zqc cX9_run 64 [17, 0, 200, 25, 6, 180, 0, 128, 96, 162, 0, 18, 42, 180, 0, 34, 180, 0, 214, 21, 5, 17, 0, 200, 100, 46, 172, 21, 5, 170, 0, 0, 0, 0] := zq_of 34 (by decide +kernel)
theorem dX9_run_64 : decode cX9_run 64 = .ok (.sipush 200, 3) := zq_2s zo_17 zkX9_run_64 0 rfl rfl 0 200 rfl rfl _ (by decide +kernel)
theorem dX9_run_67 : decode cX9_run 67 = .ok (.aload 6, 2) := zq_1 zo_25 zkX9_run_64 3 rfl rfl 6 rfl
theorem dX9_run_69 : decode cX9_run 69 = .ok (.getfield 128, 3) := zq_2 zo_180 zkX9_run_64 5 rfl rfl 0 128 rfl rfl _ rfl
theorem dX9_run_72 : decode cX9_run 72 = .ok (.iadd, 1) := zq_0 zo_96 zkX9_run_64 8 rfl rfl
theorem dX9_run_73 : decode cX9_run 73 = .ok (.if_icmp .ge 18, 3) := zq_2s zo_162 zkX9_run_64 9 rfl rfl 0 18 rfl rfl _ (by decide +kernel)
theorem dX9_run_76 : decode cX9_run 76 = .ok (.aload_n 0, 1) := zq_0 zo_42 zkX9_run_64 12 rfl rfl
theorem dX9_run_77 : decode cX9_run 77 = .ok (.getfield 34, 3) := zq_2 zo_180 zkX9_run_64 13 rfl rfl 0 34 rfl rfl _ rfl
theorem dX9_run_80 : decode cX9_run 80 = .ok (.getfield 214, 3) := zq_2 zo_180 zkX9_run_64 16 rfl rfl 0 214 rfl rfl _ rfl
theorem dX9_run_83 : decode cX9_run 83 = .ok (.iload 5, 2) := zq_1 zo_21 zkX9_run_64 19 rfl rfl 5 rfl
theorem dX9_run_85 : decode cX9_run 85 = .ok (.sipush 200, 3) := zq_2s zo_17 zkX9_run_64 21 rfl rfl 0 200 rfl rfl _ (by decide +kernel)
theorem dX9_run_88 : decode cX9_run 88 = .ok (.isub, 1) := zq_0 zo_100 zkX9_run_64 24 rfl rfl
theorem dX9_run_89 : decode cX9_run 89 = .ok (.iaload, 1) := zq_0 zo_46 zkX9_run_64 25 rfl rfl
theorem dX9_run_90 : decode cX9_run 90 = .ok (.ireturn, 1) := zq_0 zo_172 zkX9_run_64 26 rfl rfl
theorem dX9_run_91 : decode cX9_run 91 = .ok (.iload 5, 2) := zq_1 zo_21 zkX9_run_64 27 rfl rfl 5 rfl
theorem dX9_run_93 : decode cX9_run 93 = .ok (.tableswitch 122 0 7 #[47, 64, 72, 80, 88, 96, 106, 114], 47) := by decide +kernel
theorem zkX9_run_128 : zqc cX9_run 128 [0, 0, 0, 96, 0, 0, 0, 106, 0, 0, 0, 114, 42, 180, 0, 34, 25, 6, 25, 6, 180, 0, 125, 4, 100, 182, 0, 210, 172, 42, 180, 0, 34, 180] := zq_of 34 (by decide +kernel)
theorem dX9_run_140 : decode cX9_run 140 = .ok (.aload_n 0, 1) := zq_0 zo_42 zkX9_run_128 12 rfl rfl
theorem dX9_run_141 : decode cX9_run 141 = .ok (.getfield 34, 3) := zq_2 zo_180 zkX9_run_128 13 rfl rfl 0 34 rfl rfl _ rfl
theorem dX9_run_144 : decode cX9_run 144 = .ok (.aload 6, 2) := zq_1 zo_25 zkX9_run_128 16 rfl rfl 6 rfl
theorem dX9_run_146 : decode cX9_run 146 = .ok (.aload 6, 2) := zq_1 zo_25 zkX9_run_128 18 rfl rfl 6 rfl
theorem dX9_run_148 : decode cX9_run 148 = .ok (.getfield 125, 3) := zq_2 zo_180 zkX9_run_128 20 rfl rfl 0 125 rfl rfl _ rfl
theorem dX9_run_151 : decode cX9_run 151 = .ok (.iconst 1, 1) := zq_0 zo_4 zkX9_run_128 23 rfl rfl
theorem dX9_run_152 : decode cX9_run 152 = .ok (.isub, 1) := zq_0 zo_100 zkX9_run_128 24 rfl rfl
theorem dX9_run_153 : decode cX9_run 153 = .ok (.invokevirtual 210, 3) := zq_2 zo_182 zkX9_run_128 25 rfl rfl 0 210 rfl rfl _ rfl
theorem dX9_run_156 : decode cX9_run 156 = .ok (.ireturn, 1) := zq_0 zo_172 zkX9_run_128 28 rfl rfl
theorem dX9_run_157 : decode cX9_run 157 = .ok (.aload_n 0, 1) := zq_0 zo_42 zkX9_run_128 29 rfl rfl
theorem dX9_run_158 : decode cX9_run 158 = .ok (.getfield 34, 3) := zq_2 zo_180 zkX9_run_128 30 rfl rfl 0 34 rfl rfl _ rfl
theorem zkX9_run_160 : zqc cX9_run 160 [34, 180, 0, 217, 172, 42, 180, 0, 34, 180, 0, 220, 172, 42, 180, 0, 34, 180, 0, 223, 172, 42, 180, 0, 34, 180, 0, 226, 172, 42, 180, 0, 34, 25] := zq_of 34 (by decide +kernel)
theorem dX9_run_161 : decode cX9_run 161 = .ok (.getfield 217, 3) := zq_2 zo_180 zkX9_run_160 1 rfl rfl 0 217 rfl rfl _ rfl
theorem dX9_run_164 : decode cX9_run 164 = .ok (.ireturn, 1) := zq_0 zo_172 zkX9_run_160 4 rfl rfl
theorem dX9_run_165 : decode cX9_run 165 = .ok (.aload_n 0, 1) := zq_0 zo_42 zkX9_run_160 5 rfl rfl
theorem dX9_run_166 : decode cX9_run 166 = .ok (.getfield 34, 3) := zq_2 zo_180 zkX9_run_160 6 rfl rfl 0 34 rfl rfl _ rfl
theorem dX9_run_169 : decode cX9_run 169 = .ok (.getfield 220, 3) := zq_2 zo_180 zkX9_run_160 9 rfl rfl 0 220 rfl rfl _ rfl
theorem dX9_run_172 : decode cX9_run 172 = .ok (.ireturn, 1) := zq_0 zo_172 zkX9_run_160 12 rfl rfl
theorem dX9_run_173 : decode cX9_run 173 = .ok (.aload_n 0, 1) := zq_0 zo_42 zkX9_run_160 13 rfl rfl
theorem dX9_run_174 : decode cX9_run 174 = .ok (.getfield 34, 3) := zq_2 zo_180 zkX9_run_160 14 rfl rfl 0 34 rfl rfl _ rfl
theorem dX9_run_177 : decode cX9_run 177 = .ok (.getfield 223, 3) := zq_2 zo_180 zkX9_run_160 17 rfl rfl 0 223 rfl rfl _ rfl
theorem dX9_run_180 : decode cX9_run 180 = .ok (.ireturn, 1) := zq_0 zo_172 zkX9_run_160 20 rfl rfl
theorem dX9_run_181 : decode cX9_run 181 = .ok (.aload_n 0, 1) := zq_0 zo_42 zkX9_run_160 21 rfl rfl
theorem dX9_run_182 : decode cX9_run 182 = .ok (.getfield 34, 3) := zq_2 zo_180 zkX9_run_160 22 rfl rfl 0 34 rfl rfl _ rfl
theorem dX9_run_185 : decode cX9_run 185 = .ok (.getfield 226, 3) := zq_2 zo_180 zkX9_run_160 25 rfl rfl 0 226 rfl rfl _ rfl
theorem dX9_run_188 : decode cX9_run 188 = .ok (.ireturn, 1) := zq_0 zo_172 zkX9_run_160 28 rfl rfl
theorem dX9_run_189 : decode cX9_run 189 = .ok (.aload_n 0, 1) := zq_0 zo_42 zkX9_run_160 29 rfl rfl
theorem dX9_run_190 : decode cX9_run 190 = .ok (.getfield 34, 3) := zq_2 zo_180 zkX9_run_160 30 rfl rfl 0 34 rfl rfl _ rfl
theorem zkX9_run_192 : zqc cX9_run 192 [34, 25, 6, 182, 0, 229, 172, 42, 180, 0, 34, 180, 0, 233, 172, 42, 180, 0, 34, 180, 0, 236, 172, 16, 254, 172] := zq_of 26 (by decide +kernel)
theorem dX9_run_193 : decode cX9_run 193 = .ok (.aload 6, 2) := zq_1 zo_25 zkX9_run_192 1 rfl rfl 6 rfl
theorem dX9_run_195 : decode cX9_run 195 = .ok (.invokevirtual 229, 3) := zq_2 zo_182 zkX9_run_192 3 rfl rfl 0 229 rfl rfl _ rfl
theorem dX9_run_198 : decode cX9_run 198 = .ok (.ireturn, 1) := zq_0 zo_172 zkX9_run_192 6 rfl rfl
theorem dX9_run_199 : decode cX9_run 199 = .ok (.aload_n 0, 1) := zq_0 zo_42 zkX9_run_192 7 rfl rfl
theorem dX9_run_200 : decode cX9_run 200 = .ok (.getfield 34, 3) := zq_2 zo_180 zkX9_run_192 8 rfl rfl 0 34 rfl rfl _ rfl
theorem dX9_run_203 : decode cX9_run 203 = .ok (.getfield 233, 3) := zq_2 zo_180 zkX9_run_192 11 rfl rfl 0 233 rfl rfl _ rfl
theorem dX9_run_206 : decode cX9_run 206 = .ok (.ireturn, 1) := zq_0 zo_172 zkX9_run_192 14 rfl rfl
theorem dX9_run_207 : decode cX9_run 207 = .ok (.aload_n 0, 1) := zq_0 zo_42 zkX9_run_192 15 rfl rfl
theorem dX9_run_208 : decode cX9_run 208 = .ok (.getfield 34, 3) := zq_2 zo_180 zkX9_run_192 16 rfl rfl 0 34 rfl rfl _ rfl
theorem dX9_run_211 : decode cX9_run 211 = .ok (.getfield 236, 3) := zq_2 zo_180 zkX9_run_192 19 rfl rfl 0 236 rfl rfl _ rfl
theorem dX9_run_214 : decode cX9_run 214 = .ok (.ireturn, 1) := zq_0 zo_172 zkX9_run_192 22 rfl rfl
theorem dX9_run_215 : decode cX9_run 215 = .ok (.bipush (-2), 2) := zq_1s zo_16 zkX9_run_192 23 rfl rfl 254 rfl _ (by decide +kernel)
theorem dX9_run_217 : decode cX9_run 217 = .ok (.ireturn, 1) := zq_0 zo_172 zkX9_run_192 25 rfl rfl
theorem zkX9_who_0 : zqc cX9_who 0 [42, 27, 28, 29, 21, 4, 182, 0, 206, 58, 6, 25, 6, 198, 0, 13, 25, 6, 21, 5, 182, 0, 150, 154, 0, 8, 16, 254, 167, 0, 13, 42, 180, 0] := zq_of 34 (by decide +kernel)
theorem dX9_who_0 : decode cX9_who 0 = .ok (.aload_n 0, 1) := zq_0 zo_42 zkX9_who_0 0 rfl rfl
theorem dX9_who_1 : decode cX9_who 1 = .ok (.iload_n 1, 1) := zq_0 zo_27 zkX9_who_0 1 rfl rfl
theorem dX9_who_2 : decode cX9_who 2 = .ok (.iload_n 2, 1) := zq_0 zo_28 zkX9_who_0 2 rfl rfl
theorem dX9_who_3 : decode cX9_who 3 = .ok (.iload_n 3, 1) := zq_0 zo_29 zkX9_who_0 3 rfl rfl
theorem dX9_who_4 : decode cX9_who 4 = .ok (.iload 4, 2) := zq_1 zo_21 zkX9_who_0 4 rfl rfl 4 rfl
theorem dX9_who_6 : decode cX9_who 6 = .ok (.invokevirtual 206, 3) := zq_2 zo_182 zkX9_who_0 6 rfl rfl 0 206 rfl rfl _ rfl
theorem dX9_who_9 : decode cX9_who 9 = .ok (.astore 6, 2) := zq_1 zo_58 zkX9_who_0 9 rfl rfl 6 rfl
theorem dX9_who_11 : decode cX9_who 11 = .ok (.aload 6, 2) := zq_1 zo_25 zkX9_who_0 11 rfl rfl 6 rfl
theorem dX9_who_13 : decode cX9_who 13 = .ok (.ifnull 13, 3) := zq_2s zo_198 zkX9_who_0 13 rfl rfl 0 13 rfl rfl _ (by decide +kernel)
theorem dX9_who_16 : decode cX9_who 16 = .ok (.aload 6, 2) := zq_1 zo_25 zkX9_who_0 16 rfl rfl 6 rfl
theorem dX9_who_18 : decode cX9_who 18 = .ok (.iload 5, 2) := zq_1 zo_21 zkX9_who_0 18 rfl rfl 5 rfl
theorem dX9_who_20 : decode cX9_who 20 = .ok (.invokevirtual 150, 3) := zq_2 zo_182 zkX9_who_0 20 rfl rfl 0 150 rfl rfl _ rfl
theorem dX9_who_23 : decode cX9_who 23 = .ok (.ifCond .ne 8, 3) := zq_2s zo_154 zkX9_who_0 23 rfl rfl 0 8 rfl rfl _ (by decide +kernel)
theorem dX9_who_26 : decode cX9_who 26 = .ok (.bipush (-2), 2) := zq_1s zo_16 zkX9_who_0 26 rfl rfl 254 rfl _ (by decide +kernel)
theorem dX9_who_28 : decode cX9_who 28 = .ok (.goto 13, 3) := zq_2s zo_167 zkX9_who_0 28 rfl rfl 0 13 rfl rfl _ (by decide +kernel)
theorem dX9_who_31 : decode cX9_who 31 = .ok (.aload_n 0, 1) := zq_0 zo_42 zkX9_who_0 31 rfl rfl
theorem zkX9_who_32 : zqc cX9_who 32 [180, 0, 34, 180, 0, 239, 21, 5, 46, 172] := zq_of 10 (by decide +kernel)
theorem dX9_who_32 : decode cX9_who 32 = .ok (.getfield 34, 3) := zq_2 zo_180 zkX9_who_32 0 rfl rfl 0 34 rfl rfl _ rfl
theorem dX9_who_35 : decode cX9_who 35 = .ok (.getfield 239, 3) := zq_2 zo_180 zkX9_who_32 3 rfl rfl 0 239 rfl rfl _ rfl
theorem dX9_who_38 : decode cX9_who 38 = .ok (.iload 5, 2) := zq_1 zo_21 zkX9_who_32 6 rfl rfl 5 rfl
theorem dX9_who_40 : decode cX9_who 40 = .ok (.iaload, 1) := zq_0 zo_46 zkX9_who_32 8 rfl rfl
theorem dX9_who_41 : decode cX9_who 41 = .ok (.ireturn, 1) := zq_0 zo_172 zkX9_who_32 9 rfl rfl
theorem zkX9_late_0 : zqc cX9_late 0 [42, 27, 28, 29, 21, 4, 182, 0, 206, 58, 6, 25, 6, 198, 0, 13, 25, 6, 21, 5, 182, 0, 242, 154, 0, 5, 2, 172, 42, 180, 0, 34, 25, 6] := zq_of 34 (by decide +kernel)
theorem dX9_late_0 : decode cX9_late 0 = .ok (.aload_n 0, 1) := zq_0 zo_42 zkX9_late_0 0 rfl rfl
theorem dX9_late_1 : decode cX9_late 1 = .ok (.iload_n 1, 1) := zq_0 zo_27 zkX9_late_0 1 rfl rfl
theorem dX9_late_2 : decode cX9_late 2 = .ok (.iload_n 2, 1) := zq_0 zo_28 zkX9_late_0 2 rfl rfl
theorem dX9_late_3 : decode cX9_late 3 = .ok (.iload_n 3, 1) := zq_0 zo_29 zkX9_late_0 3 rfl rfl
theorem dX9_late_4 : decode cX9_late 4 = .ok (.iload 4, 2) := zq_1 zo_21 zkX9_late_0 4 rfl rfl 4 rfl
theorem dX9_late_6 : decode cX9_late 6 = .ok (.invokevirtual 206, 3) := zq_2 zo_182 zkX9_late_0 6 rfl rfl 0 206 rfl rfl _ rfl
theorem dX9_late_9 : decode cX9_late 9 = .ok (.astore 6, 2) := zq_1 zo_58 zkX9_late_0 9 rfl rfl 6 rfl
theorem dX9_late_11 : decode cX9_late 11 = .ok (.aload 6, 2) := zq_1 zo_25 zkX9_late_0 11 rfl rfl 6 rfl
theorem dX9_late_13 : decode cX9_late 13 = .ok (.ifnull 13, 3) := zq_2s zo_198 zkX9_late_0 13 rfl rfl 0 13 rfl rfl _ (by decide +kernel)
theorem dX9_late_16 : decode cX9_late 16 = .ok (.aload 6, 2) := zq_1 zo_25 zkX9_late_0 16 rfl rfl 6 rfl
theorem dX9_late_18 : decode cX9_late 18 = .ok (.iload 5, 2) := zq_1 zo_21 zkX9_late_0 18 rfl rfl 5 rfl
theorem dX9_late_20 : decode cX9_late 20 = .ok (.invokevirtual 242, 3) := zq_2 zo_182 zkX9_late_0 20 rfl rfl 0 242 rfl rfl _ rfl
theorem dX9_late_23 : decode cX9_late 23 = .ok (.ifCond .ne 5, 3) := zq_2s zo_154 zkX9_late_0 23 rfl rfl 0 5 rfl rfl _ (by decide +kernel)
theorem dX9_late_26 : decode cX9_late 26 = .ok (.iconst (-1), 1) := zq_0 zo_2 zkX9_late_0 26 rfl rfl
theorem dX9_late_27 : decode cX9_late 27 = .ok (.ireturn, 1) := zq_0 zo_172 zkX9_late_0 27 rfl rfl
theorem dX9_late_28 : decode cX9_late 28 = .ok (.aload_n 0, 1) := zq_0 zo_42 zkX9_late_0 28 rfl rfl
theorem dX9_late_29 : decode cX9_late 29 = .ok (.getfield 34, 3) := zq_2 zo_180 zkX9_late_0 29 rfl rfl 0 34 rfl rfl _ rfl
theorem zkX9_late_32 : zqc cX9_late 32 [25, 6, 21, 5, 182, 0, 245, 172] := zq_of 8 (by decide +kernel)
theorem dX9_late_32 : decode cX9_late 32 = .ok (.aload 6, 2) := zq_1 zo_25 zkX9_late_32 0 rfl rfl 6 rfl
theorem dX9_late_34 : decode cX9_late 34 = .ok (.iload 5, 2) := zq_1 zo_21 zkX9_late_32 2 rfl rfl 5 rfl
theorem dX9_late_36 : decode cX9_late 36 = .ok (.invokevirtual 245, 3) := zq_2 zo_182 zkX9_late_32 4 rfl rfl 0 245 rfl rfl _ rfl
theorem dX9_late_39 : decode cX9_late 39 = .ok (.ireturn, 1) := zq_0 zo_172 zkX9_late_32 7 rfl rfl
theorem zkX9_left_0 : zqc cX9_left 0 [42, 27, 28, 29, 21, 4, 182, 0, 206, 58, 6, 25, 6, 199, 0, 6, 16, 254, 172, 21, 5, 2, 160, 0, 13, 42, 180, 0, 34, 25, 6, 182, 0, 248] := zq_of 34 (by decide +kernel)
theorem dX9_left_0 : decode cX9_left 0 = .ok (.aload_n 0, 1) := zq_0 zo_42 zkX9_left_0 0 rfl rfl
theorem dX9_left_1 : decode cX9_left 1 = .ok (.iload_n 1, 1) := zq_0 zo_27 zkX9_left_0 1 rfl rfl
theorem dX9_left_2 : decode cX9_left 2 = .ok (.iload_n 2, 1) := zq_0 zo_28 zkX9_left_0 2 rfl rfl
theorem dX9_left_3 : decode cX9_left 3 = .ok (.iload_n 3, 1) := zq_0 zo_29 zkX9_left_0 3 rfl rfl
theorem dX9_left_4 : decode cX9_left 4 = .ok (.iload 4, 2) := zq_1 zo_21 zkX9_left_0 4 rfl rfl 4 rfl
theorem dX9_left_6 : decode cX9_left 6 = .ok (.invokevirtual 206, 3) := zq_2 zo_182 zkX9_left_0 6 rfl rfl 0 206 rfl rfl _ rfl
theorem dX9_left_9 : decode cX9_left 9 = .ok (.astore 6, 2) := zq_1 zo_58 zkX9_left_0 9 rfl rfl 6 rfl
theorem dX9_left_11 : decode cX9_left 11 = .ok (.aload 6, 2) := zq_1 zo_25 zkX9_left_0 11 rfl rfl 6 rfl
theorem dX9_left_13 : decode cX9_left 13 = .ok (.ifnonnull 6, 3) := zq_2s zo_199 zkX9_left_0 13 rfl rfl 0 6 rfl rfl _ (by decide +kernel)
theorem dX9_left_16 : decode cX9_left 16 = .ok (.bipush (-2), 2) := zq_1s zo_16 zkX9_left_0 16 rfl rfl 254 rfl _ (by decide +kernel)
theorem dX9_left_18 : decode cX9_left 18 = .ok (.ireturn, 1) := zq_0 zo_172 zkX9_left_0 18 rfl rfl
theorem dX9_left_19 : decode cX9_left 19 = .ok (.iload 5, 2) := zq_1 zo_21 zkX9_left_0 19 rfl rfl 5 rfl
theorem dX9_left_21 : decode cX9_left 21 = .ok (.iconst (-1), 1) := zq_0 zo_2 zkX9_left_0 21 rfl rfl
theorem dX9_left_22 : decode cX9_left 22 = .ok (.if_icmp .ne 13, 3) := zq_2s zo_160 zkX9_left_0 22 rfl rfl 0 13 rfl rfl _ (by decide +kernel)
theorem dX9_left_25 : decode cX9_left 25 = .ok (.aload_n 0, 1) := zq_0 zo_42 zkX9_left_0 25 rfl rfl
theorem dX9_left_26 : decode cX9_left 26 = .ok (.getfield 34, 3) := zq_2 zo_180 zkX9_left_0 26 rfl rfl 0 34 rfl rfl _ rfl
theorem dX9_left_29 : decode cX9_left 29 = .ok (.aload 6, 2) := zq_1 zo_25 zkX9_left_0 29 rfl rfl 6 rfl
theorem dX9_left_31 : decode cX9_left 31 = .ok (.invokevirtual 248, 3) := zq_2 zo_182 zkX9_left_0 31 rfl rfl 0 248 rfl rfl _ rfl
theorem zkX9_left_32 : zqc cX9_left 32 [0, 248, 172, 25, 6, 21, 5, 182, 0, 150, 153, 0, 16, 42, 180, 0, 34, 180, 0, 251, 21, 5, 46, 167, 0, 5, 16, 254, 172] := zq_of 29 (by decide +kernel)
theorem dX9_left_34 : decode cX9_left 34 = .ok (.ireturn, 1) := zq_0 zo_172 zkX9_left_32 2 rfl rfl
theorem dX9_left_35 : decode cX9_left 35 = .ok (.aload 6, 2) := zq_1 zo_25 zkX9_left_32 3 rfl rfl 6 rfl
theorem dX9_left_37 : decode cX9_left 37 = .ok (.iload 5, 2) := zq_1 zo_21 zkX9_left_32 5 rfl rfl 5 rfl
theorem dX9_left_39 : decode cX9_left 39 = .ok (.invokevirtual 150, 3) := zq_2 zo_182 zkX9_left_32 7 rfl rfl 0 150 rfl rfl _ rfl
theorem dX9_left_42 : decode cX9_left 42 = .ok (.ifCond .eq 16, 3) := zq_2s zo_153 zkX9_left_32 10 rfl rfl 0 16 rfl rfl _ (by decide +kernel)
theorem dX9_left_45 : decode cX9_left 45 = .ok (.aload_n 0, 1) := zq_0 zo_42 zkX9_left_32 13 rfl rfl
theorem dX9_left_46 : decode cX9_left 46 = .ok (.getfield 34, 3) := zq_2 zo_180 zkX9_left_32 14 rfl rfl 0 34 rfl rfl _ rfl
theorem dX9_left_49 : decode cX9_left 49 = .ok (.getfield 251, 3) := zq_2 zo_180 zkX9_left_32 17 rfl rfl 0 251 rfl rfl _ rfl
theorem dX9_left_52 : decode cX9_left 52 = .ok (.iload 5, 2) := zq_1 zo_21 zkX9_left_32 20 rfl rfl 5 rfl
theorem dX9_left_54 : decode cX9_left 54 = .ok (.iaload, 1) := zq_0 zo_46 zkX9_left_32 22 rfl rfl
theorem dX9_left_55 : decode cX9_left 55 = .ok (.goto 5, 3) := zq_2s zo_167 zkX9_left_32 23 rfl rfl 0 5 rfl rfl _ (by decide +kernel)
theorem dX9_left_58 : decode cX9_left 58 = .ok (.bipush (-2), 2) := zq_1s zo_16 zkX9_left_32 26 rfl rfl 254 rfl _ (by decide +kernel)
theorem dX9_left_60 : decode cX9_left 60 = .ok (.ireturn, 1) := zq_0 zo_172 zkX9_left_32 28 rfl rfl
theorem zkX9_played_0 : zqc cX9_played 0 [42, 180, 0, 12, 27, 182, 0, 121, 58, 5, 42, 180, 0, 12, 28, 182, 0, 195, 58, 6, 25, 5, 198, 0, 15, 25, 6, 198, 0, 10, 29, 184, 0, 254] := zq_of 34 (by decide +kernel)
theorem dX9_played_0 : decode cX9_played 0 = .ok (.aload_n 0, 1) := zq_0 zo_42 zkX9_played_0 0 rfl rfl
theorem dX9_played_1 : decode cX9_played 1 = .ok (.getfield 12, 3) := zq_2 zo_180 zkX9_played_0 1 rfl rfl 0 12 rfl rfl _ rfl
theorem dX9_played_4 : decode cX9_played 4 = .ok (.iload_n 1, 1) := zq_0 zo_27 zkX9_played_0 4 rfl rfl
theorem dX9_played_5 : decode cX9_played 5 = .ok (.invokevirtual 121, 3) := zq_2 zo_182 zkX9_played_0 5 rfl rfl 0 121 rfl rfl _ rfl
theorem dX9_played_8 : decode cX9_played 8 = .ok (.astore 5, 2) := zq_1 zo_58 zkX9_played_0 8 rfl rfl 5 rfl
theorem dX9_played_10 : decode cX9_played 10 = .ok (.aload_n 0, 1) := zq_0 zo_42 zkX9_played_0 10 rfl rfl
theorem dX9_played_11 : decode cX9_played 11 = .ok (.getfield 12, 3) := zq_2 zo_180 zkX9_played_0 11 rfl rfl 0 12 rfl rfl _ rfl
theorem dX9_played_14 : decode cX9_played 14 = .ok (.iload_n 2, 1) := zq_0 zo_28 zkX9_played_0 14 rfl rfl
theorem dX9_played_15 : decode cX9_played 15 = .ok (.invokevirtual 195, 3) := zq_2 zo_182 zkX9_played_0 15 rfl rfl 0 195 rfl rfl _ rfl
theorem dX9_played_18 : decode cX9_played 18 = .ok (.astore 6, 2) := zq_1 zo_58 zkX9_played_0 18 rfl rfl 6 rfl
theorem dX9_played_20 : decode cX9_played 20 = .ok (.aload 5, 2) := zq_1 zo_25 zkX9_played_0 20 rfl rfl 5 rfl
theorem dX9_played_22 : decode cX9_played 22 = .ok (.ifnull 15, 3) := zq_2s zo_198 zkX9_played_0 22 rfl rfl 0 15 rfl rfl _ (by decide +kernel)
theorem dX9_played_25 : decode cX9_played 25 = .ok (.aload 6, 2) := zq_1 zo_25 zkX9_played_0 25 rfl rfl 6 rfl
theorem dX9_played_27 : decode cX9_played 27 = .ok (.ifnull 10, 3) := zq_2s zo_198 zkX9_played_0 27 rfl rfl 0 10 rfl rfl _ (by decide +kernel)
theorem dX9_played_30 : decode cX9_played 30 = .ok (.iload_n 3, 1) := zq_0 zo_29 zkX9_played_0 30 rfl rfl
theorem dX9_played_31 : decode cX9_played 31 = .ok (.invokestatic 254, 3) := zq_2 zo_184 zkX9_played_0 31 rfl rfl 0 254 rfl rfl _ rfl
theorem zkX9_played_32 : zqc cX9_played 32 [0, 254, 154, 0, 6, 16, 254, 172, 42, 180, 0, 34, 25, 5, 25, 6, 29, 182, 1, 1, 54, 7, 21, 4, 17, 0, 200, 161, 0, 32, 21, 4, 17, 0] := zq_of 34 (by decide +kernel)
theorem dX9_played_34 : decode cX9_played 34 = .ok (.ifCond .ne 6, 3) := zq_2s zo_154 zkX9_played_32 2 rfl rfl 0 6 rfl rfl _ (by decide +kernel)
theorem dX9_played_37 : decode cX9_played 37 = .ok (.bipush (-2), 2) := zq_1s zo_16 zkX9_played_32 5 rfl rfl 254 rfl _ (by decide +kernel)
theorem dX9_played_39 : decode cX9_played 39 = .ok (.ireturn, 1) := zq_0 zo_172 zkX9_played_32 7 rfl rfl
theorem dX9_played_40 : decode cX9_played 40 = .ok (.aload_n 0, 1) := zq_0 zo_42 zkX9_played_32 8 rfl rfl
theorem dX9_played_41 : decode cX9_played 41 = .ok (.getfield 34, 3) := zq_2 zo_180 zkX9_played_32 9 rfl rfl 0 34 rfl rfl _ rfl
theorem dX9_played_44 : decode cX9_played 44 = .ok (.aload 5, 2) := zq_1 zo_25 zkX9_played_32 12 rfl rfl 5 rfl
theorem dX9_played_46 : decode cX9_played 46 = .ok (.aload 6, 2) := zq_1 zo_25 zkX9_played_32 14 rfl rfl 6 rfl
theorem dX9_played_48 : decode cX9_played 48 = .ok (.iload_n 3, 1) := zq_0 zo_29 zkX9_played_32 16 rfl rfl
theorem dX9_played_49 : decode cX9_played 49 = .ok (.invokevirtual 257, 3) := zq_2 zo_182 zkX9_played_32 17 rfl rfl 1 1 rfl rfl _ rfl
theorem dX9_played_52 : decode cX9_played 52 = .ok (.istore 7, 2) := zq_1 zo_54 zkX9_played_32 20 rfl rfl 7 rfl
theorem dX9_played_54 : decode cX9_played 54 = .ok (.iload 4, 2) := zq_1 zo_21 zkX9_played_32 22 rfl rfl 4 rfl
theorem dX9_played_56 : decode cX9_played 56 = .ok (.sipush 200, 3) := zq_2s zo_17 zkX9_played_32 24 rfl rfl 0 200 rfl rfl _ (by decide +kernel)
theorem dX9_played_59 : decode cX9_played 59 = .ok (.if_icmp .lt 32, 3) := zq_2s zo_161 zkX9_played_32 27 rfl rfl 0 32 rfl rfl _ (by decide +kernel)
theorem dX9_played_62 : decode cX9_played 62 = .ok (.iload 4, 2) := zq_1 zo_21 zkX9_played_32 30 rfl rfl 4 rfl
theorem zkX9_played_64 : zqc cX9_played 64 [17, 0, 200, 25, 5, 180, 0, 128, 96, 162, 0, 18, 42, 180, 0, 34, 180, 0, 214, 21, 4, 17, 0, 200, 100, 46, 172, 21, 4, 170, 0, 0, 0, 0] := zq_of 34 (by decide +kernel)
theorem dX9_played_64 : decode cX9_played 64 = .ok (.sipush 200, 3) := zq_2s zo_17 zkX9_played_64 0 rfl rfl 0 200 rfl rfl _ (by decide +kernel)
theorem dX9_played_67 : decode cX9_played 67 = .ok (.aload 5, 2) := zq_1 zo_25 zkX9_played_64 3 rfl rfl 5 rfl
theorem dX9_played_69 : decode cX9_played 69 = .ok (.getfield 128, 3) := zq_2 zo_180 zkX9_played_64 5 rfl rfl 0 128 rfl rfl _ rfl
theorem dX9_played_72 : decode cX9_played 72 = .ok (.iadd, 1) := zq_0 zo_96 zkX9_played_64 8 rfl rfl
theorem dX9_played_73 : decode cX9_played 73 = .ok (.if_icmp .ge 18, 3) := zq_2s zo_162 zkX9_played_64 9 rfl rfl 0 18 rfl rfl _ (by decide +kernel)
theorem dX9_played_76 : decode cX9_played 76 = .ok (.aload_n 0, 1) := zq_0 zo_42 zkX9_played_64 12 rfl rfl
theorem dX9_played_77 : decode cX9_played 77 = .ok (.getfield 34, 3) := zq_2 zo_180 zkX9_played_64 13 rfl rfl 0 34 rfl rfl _ rfl
theorem dX9_played_80 : decode cX9_played 80 = .ok (.getfield 214, 3) := zq_2 zo_180 zkX9_played_64 16 rfl rfl 0 214 rfl rfl _ rfl
theorem dX9_played_83 : decode cX9_played 83 = .ok (.iload 4, 2) := zq_1 zo_21 zkX9_played_64 19 rfl rfl 4 rfl
theorem dX9_played_85 : decode cX9_played 85 = .ok (.sipush 200, 3) := zq_2s zo_17 zkX9_played_64 21 rfl rfl 0 200 rfl rfl _ (by decide +kernel)
theorem dX9_played_88 : decode cX9_played 88 = .ok (.isub, 1) := zq_0 zo_100 zkX9_played_64 24 rfl rfl
theorem dX9_played_89 : decode cX9_played 89 = .ok (.iaload, 1) := zq_0 zo_46 zkX9_played_64 25 rfl rfl
theorem dX9_played_90 : decode cX9_played 90 = .ok (.ireturn, 1) := zq_0 zo_172 zkX9_played_64 26 rfl rfl
theorem dX9_played_91 : decode cX9_played 91 = .ok (.iload 4, 2) := zq_1 zo_21 zkX9_played_64 27 rfl rfl 4 rfl
theorem dX9_played_93 : decode cX9_played 93 = .ok (.tableswitch 72 0 4 #[35, 38, 46, 54, 64], 35) := by decide +kernel
theorem zkX9_played_128 : zqc cX9_played 128 [21, 7, 172, 42, 180, 0, 34, 180, 0, 217, 172, 42, 180, 0, 34, 180, 0, 223, 172, 42, 180, 0, 34, 25, 5, 182, 0, 229, 172, 42, 180, 0, 34, 180] := zq_of 34 (by decide +kernel)
theorem dX9_played_128 : decode cX9_played 128 = .ok (.iload 7, 2) := zq_1 zo_21 zkX9_played_128 0 rfl rfl 7 rfl
theorem dX9_played_130 : decode cX9_played 130 = .ok (.ireturn, 1) := zq_0 zo_172 zkX9_played_128 2 rfl rfl
theorem dX9_played_131 : decode cX9_played 131 = .ok (.aload_n 0, 1) := zq_0 zo_42 zkX9_played_128 3 rfl rfl
theorem dX9_played_132 : decode cX9_played 132 = .ok (.getfield 34, 3) := zq_2 zo_180 zkX9_played_128 4 rfl rfl 0 34 rfl rfl _ rfl
theorem dX9_played_135 : decode cX9_played 135 = .ok (.getfield 217, 3) := zq_2 zo_180 zkX9_played_128 7 rfl rfl 0 217 rfl rfl _ rfl
theorem dX9_played_138 : decode cX9_played 138 = .ok (.ireturn, 1) := zq_0 zo_172 zkX9_played_128 10 rfl rfl
theorem dX9_played_139 : decode cX9_played 139 = .ok (.aload_n 0, 1) := zq_0 zo_42 zkX9_played_128 11 rfl rfl
theorem dX9_played_140 : decode cX9_played 140 = .ok (.getfield 34, 3) := zq_2 zo_180 zkX9_played_128 12 rfl rfl 0 34 rfl rfl _ rfl
theorem dX9_played_143 : decode cX9_played 143 = .ok (.getfield 223, 3) := zq_2 zo_180 zkX9_played_128 15 rfl rfl 0 223 rfl rfl _ rfl
theorem dX9_played_146 : decode cX9_played 146 = .ok (.ireturn, 1) := zq_0 zo_172 zkX9_played_128 18 rfl rfl
theorem dX9_played_147 : decode cX9_played 147 = .ok (.aload_n 0, 1) := zq_0 zo_42 zkX9_played_128 19 rfl rfl
theorem dX9_played_148 : decode cX9_played 148 = .ok (.getfield 34, 3) := zq_2 zo_180 zkX9_played_128 20 rfl rfl 0 34 rfl rfl _ rfl
theorem dX9_played_151 : decode cX9_played 151 = .ok (.aload 5, 2) := zq_1 zo_25 zkX9_played_128 23 rfl rfl 5 rfl
theorem dX9_played_153 : decode cX9_played 153 = .ok (.invokevirtual 229, 3) := zq_2 zo_182 zkX9_played_128 25 rfl rfl 0 229 rfl rfl _ rfl
theorem dX9_played_156 : decode cX9_played 156 = .ok (.ireturn, 1) := zq_0 zo_172 zkX9_played_128 28 rfl rfl
theorem dX9_played_157 : decode cX9_played 157 = .ok (.aload_n 0, 1) := zq_0 zo_42 zkX9_played_128 29 rfl rfl
theorem dX9_played_158 : decode cX9_played 158 = .ok (.getfield 34, 3) := zq_2 zo_180 zkX9_played_128 30 rfl rfl 0 34 rfl rfl _ rfl
theorem zkX9_played_160 : zqc cX9_played 160 [34, 180, 0, 226, 172, 16, 254, 172] := zq_of 8 (by decide +kernel)
theorem dX9_played_161 : decode cX9_played 161 = .ok (.getfield 226, 3) := zq_2 zo_180 zkX9_played_160 1 rfl rfl 0 226 rfl rfl _ rfl
theorem dX9_played_164 : decode cX9_played 164 = .ok (.ireturn, 1) := zq_0 zo_172 zkX9_played_160 4 rfl rfl
theorem dX9_played_165 : decode cX9_played 165 = .ok (.bipush (-2), 2) := zq_1s zo_16 zkX9_played_160 5 rfl rfl 254 rfl _ (by decide +kernel)
theorem dX9_played_167 : decode cX9_played 167 = .ok (.ireturn, 1) := zq_0 zo_172 zkX9_played_160 7 rfl rfl
theorem zkX9_most_0 : zqc cX9_most 0 [42, 180, 0, 12, 27, 182, 0, 121, 58, 5, 25, 5, 198, 0, 10, 29, 184, 0, 254, 154, 0, 5, 2, 172, 2, 54, 6, 3, 54, 7, 3, 54, 8, 21] := zq_of 34 (by decide +kernel)
theorem dX9_most_0 : decode cX9_most 0 = .ok (.aload_n 0, 1) := zq_0 zo_42 zkX9_most_0 0 rfl rfl
theorem dX9_most_1 : decode cX9_most 1 = .ok (.getfield 12, 3) := zq_2 zo_180 zkX9_most_0 1 rfl rfl 0 12 rfl rfl _ rfl
theorem dX9_most_4 : decode cX9_most 4 = .ok (.iload_n 1, 1) := zq_0 zo_27 zkX9_most_0 4 rfl rfl
theorem dX9_most_5 : decode cX9_most 5 = .ok (.invokevirtual 121, 3) := zq_2 zo_182 zkX9_most_0 5 rfl rfl 0 121 rfl rfl _ rfl
theorem dX9_most_8 : decode cX9_most 8 = .ok (.astore 5, 2) := zq_1 zo_58 zkX9_most_0 8 rfl rfl 5 rfl
theorem dX9_most_10 : decode cX9_most 10 = .ok (.aload 5, 2) := zq_1 zo_25 zkX9_most_0 10 rfl rfl 5 rfl
theorem dX9_most_12 : decode cX9_most 12 = .ok (.ifnull 10, 3) := zq_2s zo_198 zkX9_most_0 12 rfl rfl 0 10 rfl rfl _ (by decide +kernel)
theorem dX9_most_15 : decode cX9_most 15 = .ok (.iload_n 3, 1) := zq_0 zo_29 zkX9_most_0 15 rfl rfl
theorem dX9_most_16 : decode cX9_most 16 = .ok (.invokestatic 254, 3) := zq_2 zo_184 zkX9_most_0 16 rfl rfl 0 254 rfl rfl _ rfl
theorem dX9_most_19 : decode cX9_most 19 = .ok (.ifCond .ne 5, 3) := zq_2s zo_154 zkX9_most_0 19 rfl rfl 0 5 rfl rfl _ (by decide +kernel)
theorem dX9_most_22 : decode cX9_most 22 = .ok (.iconst (-1), 1) := zq_0 zo_2 zkX9_most_0 22 rfl rfl
theorem dX9_most_23 : decode cX9_most 23 = .ok (.ireturn, 1) := zq_0 zo_172 zkX9_most_0 23 rfl rfl
theorem dX9_most_24 : decode cX9_most 24 = .ok (.iconst (-1), 1) := zq_0 zo_2 zkX9_most_0 24 rfl rfl
theorem dX9_most_25 : decode cX9_most 25 = .ok (.istore 6, 2) := zq_1 zo_54 zkX9_most_0 25 rfl rfl 6 rfl
theorem dX9_most_27 : decode cX9_most 27 = .ok (.iconst 0, 1) := zq_0 zo_3 zkX9_most_0 27 rfl rfl
theorem dX9_most_28 : decode cX9_most 28 = .ok (.istore 7, 2) := zq_1 zo_54 zkX9_most_0 28 rfl rfl 7 rfl
theorem dX9_most_30 : decode cX9_most 30 = .ok (.iconst 0, 1) := zq_0 zo_3 zkX9_most_0 30 rfl rfl
theorem dX9_most_31 : decode cX9_most 31 = .ok (.istore 8, 2) := zq_1 zo_54 zkX9_most_0 31 rfl rfl 8 rfl
theorem zkX9_most_32 : zqc cX9_most 32 [8, 21, 8, 7, 162, 0, 69, 42, 180, 0, 34, 25, 5, 21, 8, 28, 29, 2, 182, 1, 5, 21, 4, 153, 0, 14, 42, 180, 0, 34, 180, 0, 223, 116] := zq_of 34 (by decide +kernel)
theorem dX9_most_33 : decode cX9_most 33 = .ok (.iload 8, 2) := zq_1 zo_21 zkX9_most_32 1 rfl rfl 8 rfl
theorem dX9_most_35 : decode cX9_most 35 = .ok (.iconst 4, 1) := zq_0 zo_7 zkX9_most_32 3 rfl rfl
theorem dX9_most_36 : decode cX9_most 36 = .ok (.if_icmp .ge 69, 3) := zq_2s zo_162 zkX9_most_32 4 rfl rfl 0 69 rfl rfl _ (by decide +kernel)
theorem dX9_most_39 : decode cX9_most 39 = .ok (.aload_n 0, 1) := zq_0 zo_42 zkX9_most_32 7 rfl rfl
theorem dX9_most_40 : decode cX9_most 40 = .ok (.getfield 34, 3) := zq_2 zo_180 zkX9_most_32 8 rfl rfl 0 34 rfl rfl _ rfl
theorem dX9_most_43 : decode cX9_most 43 = .ok (.aload 5, 2) := zq_1 zo_25 zkX9_most_32 11 rfl rfl 5 rfl
theorem dX9_most_45 : decode cX9_most 45 = .ok (.iload 8, 2) := zq_1 zo_21 zkX9_most_32 13 rfl rfl 8 rfl
theorem dX9_most_47 : decode cX9_most 47 = .ok (.iload_n 2, 1) := zq_0 zo_28 zkX9_most_32 15 rfl rfl
theorem dX9_most_48 : decode cX9_most 48 = .ok (.iload_n 3, 1) := zq_0 zo_29 zkX9_most_32 16 rfl rfl
theorem dX9_most_49 : decode cX9_most 49 = .ok (.iconst (-1), 1) := zq_0 zo_2 zkX9_most_32 17 rfl rfl
theorem dX9_most_50 : decode cX9_most 50 = .ok (.invokevirtual 261, 3) := zq_2 zo_182 zkX9_most_32 18 rfl rfl 1 5 rfl rfl _ rfl
theorem dX9_most_53 : decode cX9_most 53 = .ok (.iload 4, 2) := zq_1 zo_21 zkX9_most_32 21 rfl rfl 4 rfl
theorem dX9_most_55 : decode cX9_most 55 = .ok (.ifCond .eq 14, 3) := zq_2s zo_153 zkX9_most_32 23 rfl rfl 0 14 rfl rfl _ (by decide +kernel)
theorem dX9_most_58 : decode cX9_most 58 = .ok (.aload_n 0, 1) := zq_0 zo_42 zkX9_most_32 26 rfl rfl
theorem dX9_most_59 : decode cX9_most 59 = .ok (.getfield 34, 3) := zq_2 zo_180 zkX9_most_32 27 rfl rfl 0 34 rfl rfl _ rfl
theorem dX9_most_62 : decode cX9_most 62 = .ok (.getfield 223, 3) := zq_2 zo_180 zkX9_most_32 30 rfl rfl 0 223 rfl rfl _ rfl
theorem zkX9_most_64 : zqc cX9_most 64 [223, 116, 167, 0, 10, 42, 180, 0, 34, 180, 0, 217, 54, 9, 21, 6, 2, 159, 0, 10, 21, 9, 21, 7, 164, 0, 11, 21, 8, 54, 6, 21, 9, 54] := zq_of 34 (by decide +kernel)
theorem dX9_most_65 : decode cX9_most 65 = .ok (.ineg, 1) := zq_0 zo_116 zkX9_most_64 1 rfl rfl
theorem dX9_most_66 : decode cX9_most 66 = .ok (.goto 10, 3) := zq_2s zo_167 zkX9_most_64 2 rfl rfl 0 10 rfl rfl _ (by decide +kernel)
theorem dX9_most_69 : decode cX9_most 69 = .ok (.aload_n 0, 1) := zq_0 zo_42 zkX9_most_64 5 rfl rfl
theorem dX9_most_70 : decode cX9_most 70 = .ok (.getfield 34, 3) := zq_2 zo_180 zkX9_most_64 6 rfl rfl 0 34 rfl rfl _ rfl
theorem dX9_most_73 : decode cX9_most 73 = .ok (.getfield 217, 3) := zq_2 zo_180 zkX9_most_64 9 rfl rfl 0 217 rfl rfl _ rfl
theorem dX9_most_76 : decode cX9_most 76 = .ok (.istore 9, 2) := zq_1 zo_54 zkX9_most_64 12 rfl rfl 9 rfl
theorem dX9_most_78 : decode cX9_most 78 = .ok (.iload 6, 2) := zq_1 zo_21 zkX9_most_64 14 rfl rfl 6 rfl
theorem dX9_most_80 : decode cX9_most 80 = .ok (.iconst (-1), 1) := zq_0 zo_2 zkX9_most_64 16 rfl rfl
theorem dX9_most_81 : decode cX9_most 81 = .ok (.if_icmp .eq 10, 3) := zq_2s zo_159 zkX9_most_64 17 rfl rfl 0 10 rfl rfl _ (by decide +kernel)
theorem dX9_most_84 : decode cX9_most 84 = .ok (.iload 9, 2) := zq_1 zo_21 zkX9_most_64 20 rfl rfl 9 rfl
theorem dX9_most_86 : decode cX9_most 86 = .ok (.iload 7, 2) := zq_1 zo_21 zkX9_most_64 22 rfl rfl 7 rfl
theorem dX9_most_88 : decode cX9_most 88 = .ok (.if_icmp .le 11, 3) := zq_2s zo_164 zkX9_most_64 24 rfl rfl 0 11 rfl rfl _ (by decide +kernel)
theorem dX9_most_91 : decode cX9_most 91 = .ok (.iload 8, 2) := zq_1 zo_21 zkX9_most_64 27 rfl rfl 8 rfl
theorem dX9_most_93 : decode cX9_most 93 = .ok (.istore 6, 2) := zq_1 zo_54 zkX9_most_64 29 rfl rfl 6 rfl
theorem dX9_most_95 : decode cX9_most 95 = .ok (.iload 9, 2) := zq_1 zo_21 zkX9_most_64 31 rfl rfl 9 rfl
theorem zkX9_most_96 : zqc cX9_most 96 [9, 54, 7, 132, 8, 1, 167, 255, 187, 21, 6, 172] := zq_of 12 (by decide +kernel)
theorem dX9_most_97 : decode cX9_most 97 = .ok (.istore 7, 2) := zq_1 zo_54 zkX9_most_96 1 rfl rfl 7 rfl
theorem dX9_most_99 : decode cX9_most 99 = .ok (.iinc 8 1, 3) := zq_ii zo_132 zkX9_most_96 3 rfl rfl 8 1 rfl rfl _ (by decide +kernel)
theorem dX9_most_102 : decode cX9_most 102 = .ok (.goto (-69), 3) := zq_2s zo_167 zkX9_most_96 6 rfl rfl 255 187 rfl rfl _ (by decide +kernel)
theorem dX9_most_105 : decode cX9_most 105 = .ok (.iload 6, 2) := zq_1 zo_21 zkX9_most_96 9 rfl rfl 6 rfl
theorem dX9_most_107 : decode cX9_most 107 = .ok (.ireturn, 1) := zq_0 zo_172 zkX9_most_96 11 rfl rfl
theorem zkX9_weeks_0 : zqc cX9_weeks 0 [42, 180, 0, 12, 27, 182, 0, 121, 58, 5, 25, 5, 198, 0, 12, 28, 155, 0, 8, 28, 7, 161, 0, 5, 2, 172, 3, 54, 6, 2, 54, 7, 3, 54] := zq_of 34 (by decide +kernel)
theorem dX9_weeks_0 : decode cX9_weeks 0 = .ok (.aload_n 0, 1) := zq_0 zo_42 zkX9_weeks_0 0 rfl rfl
theorem dX9_weeks_1 : decode cX9_weeks 1 = .ok (.getfield 12, 3) := zq_2 zo_180 zkX9_weeks_0 1 rfl rfl 0 12 rfl rfl _ rfl
theorem dX9_weeks_4 : decode cX9_weeks 4 = .ok (.iload_n 1, 1) := zq_0 zo_27 zkX9_weeks_0 4 rfl rfl
theorem dX9_weeks_5 : decode cX9_weeks 5 = .ok (.invokevirtual 121, 3) := zq_2 zo_182 zkX9_weeks_0 5 rfl rfl 0 121 rfl rfl _ rfl
theorem dX9_weeks_8 : decode cX9_weeks 8 = .ok (.astore 5, 2) := zq_1 zo_58 zkX9_weeks_0 8 rfl rfl 5 rfl
theorem dX9_weeks_10 : decode cX9_weeks 10 = .ok (.aload 5, 2) := zq_1 zo_25 zkX9_weeks_0 10 rfl rfl 5 rfl
theorem dX9_weeks_12 : decode cX9_weeks 12 = .ok (.ifnull 12, 3) := zq_2s zo_198 zkX9_weeks_0 12 rfl rfl 0 12 rfl rfl _ (by decide +kernel)
theorem dX9_weeks_15 : decode cX9_weeks 15 = .ok (.iload_n 2, 1) := zq_0 zo_28 zkX9_weeks_0 15 rfl rfl
theorem dX9_weeks_16 : decode cX9_weeks 16 = .ok (.ifCond .lt 8, 3) := zq_2s zo_155 zkX9_weeks_0 16 rfl rfl 0 8 rfl rfl _ (by decide +kernel)
theorem dX9_weeks_19 : decode cX9_weeks 19 = .ok (.iload_n 2, 1) := zq_0 zo_28 zkX9_weeks_0 19 rfl rfl
theorem dX9_weeks_20 : decode cX9_weeks 20 = .ok (.iconst 4, 1) := zq_0 zo_7 zkX9_weeks_0 20 rfl rfl
theorem dX9_weeks_21 : decode cX9_weeks 21 = .ok (.if_icmp .lt 5, 3) := zq_2s zo_161 zkX9_weeks_0 21 rfl rfl 0 5 rfl rfl _ (by decide +kernel)
theorem dX9_weeks_24 : decode cX9_weeks 24 = .ok (.iconst (-1), 1) := zq_0 zo_2 zkX9_weeks_0 24 rfl rfl
theorem dX9_weeks_25 : decode cX9_weeks 25 = .ok (.ireturn, 1) := zq_0 zo_172 zkX9_weeks_0 25 rfl rfl
theorem dX9_weeks_26 : decode cX9_weeks 26 = .ok (.iconst 0, 1) := zq_0 zo_3 zkX9_weeks_0 26 rfl rfl
theorem dX9_weeks_27 : decode cX9_weeks 27 = .ok (.istore 6, 2) := zq_1 zo_54 zkX9_weeks_0 27 rfl rfl 6 rfl
theorem dX9_weeks_29 : decode cX9_weeks 29 = .ok (.iconst (-1), 1) := zq_0 zo_2 zkX9_weeks_0 29 rfl rfl
theorem dX9_weeks_30 : decode cX9_weeks 30 = .ok (.istore 7, 2) := zq_1 zo_54 zkX9_weeks_0 30 rfl rfl 7 rfl
theorem zkX9_weeks_32 : zqc cX9_weeks 32 [3, 54, 8, 3, 54, 9, 21, 9, 16, 10, 162, 0, 60, 42, 180, 0, 34, 25, 5, 28, 29, 21, 9, 2, 182, 1, 5, 21, 8, 42, 180, 0, 34, 180] := zq_of 34 (by decide +kernel)
theorem dX9_weeks_32 : decode cX9_weeks 32 = .ok (.iconst 0, 1) := zq_0 zo_3 zkX9_weeks_32 0 rfl rfl
theorem dX9_weeks_33 : decode cX9_weeks 33 = .ok (.istore 8, 2) := zq_1 zo_54 zkX9_weeks_32 1 rfl rfl 8 rfl
theorem dX9_weeks_35 : decode cX9_weeks 35 = .ok (.iconst 0, 1) := zq_0 zo_3 zkX9_weeks_32 3 rfl rfl
theorem dX9_weeks_36 : decode cX9_weeks 36 = .ok (.istore 9, 2) := zq_1 zo_54 zkX9_weeks_32 4 rfl rfl 9 rfl
theorem dX9_weeks_38 : decode cX9_weeks 38 = .ok (.iload 9, 2) := zq_1 zo_21 zkX9_weeks_32 6 rfl rfl 9 rfl
theorem dX9_weeks_40 : decode cX9_weeks 40 = .ok (.bipush 10, 2) := zq_1s zo_16 zkX9_weeks_32 8 rfl rfl 10 rfl _ (by decide +kernel)
theorem dX9_weeks_42 : decode cX9_weeks 42 = .ok (.if_icmp .ge 60, 3) := zq_2s zo_162 zkX9_weeks_32 10 rfl rfl 0 60 rfl rfl _ (by decide +kernel)
theorem dX9_weeks_45 : decode cX9_weeks 45 = .ok (.aload_n 0, 1) := zq_0 zo_42 zkX9_weeks_32 13 rfl rfl
theorem dX9_weeks_46 : decode cX9_weeks 46 = .ok (.getfield 34, 3) := zq_2 zo_180 zkX9_weeks_32 14 rfl rfl 0 34 rfl rfl _ rfl
theorem dX9_weeks_49 : decode cX9_weeks 49 = .ok (.aload 5, 2) := zq_1 zo_25 zkX9_weeks_32 17 rfl rfl 5 rfl
theorem dX9_weeks_51 : decode cX9_weeks 51 = .ok (.iload_n 2, 1) := zq_0 zo_28 zkX9_weeks_32 19 rfl rfl
theorem dX9_weeks_52 : decode cX9_weeks 52 = .ok (.iload_n 3, 1) := zq_0 zo_29 zkX9_weeks_32 20 rfl rfl
theorem dX9_weeks_53 : decode cX9_weeks 53 = .ok (.iload 9, 2) := zq_1 zo_21 zkX9_weeks_32 21 rfl rfl 9 rfl
theorem dX9_weeks_55 : decode cX9_weeks 55 = .ok (.iconst (-1), 1) := zq_0 zo_2 zkX9_weeks_32 23 rfl rfl
theorem dX9_weeks_56 : decode cX9_weeks 56 = .ok (.invokevirtual 261, 3) := zq_2 zo_182 zkX9_weeks_32 24 rfl rfl 1 5 rfl rfl _ rfl
theorem dX9_weeks_59 : decode cX9_weeks 59 = .ok (.iload 8, 2) := zq_1 zo_21 zkX9_weeks_32 27 rfl rfl 8 rfl
theorem dX9_weeks_61 : decode cX9_weeks 61 = .ok (.aload_n 0, 1) := zq_0 zo_42 zkX9_weeks_32 29 rfl rfl
theorem dX9_weeks_62 : decode cX9_weeks 62 = .ok (.getfield 34, 3) := zq_2 zo_180 zkX9_weeks_32 30 rfl rfl 0 34 rfl rfl _ rfl
theorem zkX9_weeks_64 : zqc cX9_weeks 64 [34, 180, 0, 217, 96, 54, 8, 42, 180, 0, 34, 180, 0, 217, 21, 7, 164, 0, 16, 21, 9, 54, 6, 42, 180, 0, 34, 180, 0, 217, 54, 7, 132, 9] := zq_of 34 (by decide +kernel)
theorem dX9_weeks_65 : decode cX9_weeks 65 = .ok (.getfield 217, 3) := zq_2 zo_180 zkX9_weeks_64 1 rfl rfl 0 217 rfl rfl _ rfl
theorem dX9_weeks_68 : decode cX9_weeks 68 = .ok (.iadd, 1) := zq_0 zo_96 zkX9_weeks_64 4 rfl rfl
theorem dX9_weeks_69 : decode cX9_weeks 69 = .ok (.istore 8, 2) := zq_1 zo_54 zkX9_weeks_64 5 rfl rfl 8 rfl
theorem dX9_weeks_71 : decode cX9_weeks 71 = .ok (.aload_n 0, 1) := zq_0 zo_42 zkX9_weeks_64 7 rfl rfl
theorem dX9_weeks_72 : decode cX9_weeks 72 = .ok (.getfield 34, 3) := zq_2 zo_180 zkX9_weeks_64 8 rfl rfl 0 34 rfl rfl _ rfl
theorem dX9_weeks_75 : decode cX9_weeks 75 = .ok (.getfield 217, 3) := zq_2 zo_180 zkX9_weeks_64 11 rfl rfl 0 217 rfl rfl _ rfl
theorem dX9_weeks_78 : decode cX9_weeks 78 = .ok (.iload 7, 2) := zq_1 zo_21 zkX9_weeks_64 14 rfl rfl 7 rfl
theorem dX9_weeks_80 : decode cX9_weeks 80 = .ok (.if_icmp .le 16, 3) := zq_2s zo_164 zkX9_weeks_64 16 rfl rfl 0 16 rfl rfl _ (by decide +kernel)
theorem dX9_weeks_83 : decode cX9_weeks 83 = .ok (.iload 9, 2) := zq_1 zo_21 zkX9_weeks_64 19 rfl rfl 9 rfl
theorem dX9_weeks_85 : decode cX9_weeks 85 = .ok (.istore 6, 2) := zq_1 zo_54 zkX9_weeks_64 21 rfl rfl 6 rfl
theorem dX9_weeks_87 : decode cX9_weeks 87 = .ok (.aload_n 0, 1) := zq_0 zo_42 zkX9_weeks_64 23 rfl rfl
theorem dX9_weeks_88 : decode cX9_weeks 88 = .ok (.getfield 34, 3) := zq_2 zo_180 zkX9_weeks_64 24 rfl rfl 0 34 rfl rfl _ rfl
theorem dX9_weeks_91 : decode cX9_weeks 91 = .ok (.getfield 217, 3) := zq_2 zo_180 zkX9_weeks_64 27 rfl rfl 0 217 rfl rfl _ rfl
theorem dX9_weeks_94 : decode cX9_weeks 94 = .ok (.istore 7, 2) := zq_1 zo_54 zkX9_weeks_64 30 rfl rfl 7 rfl
theorem zkX9_weeks_96 : zqc cX9_weeks 96 [132, 9, 1, 167, 255, 195, 21, 4, 153, 0, 8, 21, 8, 167, 0, 5, 21, 6, 172] := zq_of 19 (by decide +kernel)
theorem dX9_weeks_96 : decode cX9_weeks 96 = .ok (.iinc 9 1, 3) := zq_ii zo_132 zkX9_weeks_96 0 rfl rfl 9 1 rfl rfl _ (by decide +kernel)
theorem dX9_weeks_99 : decode cX9_weeks 99 = .ok (.goto (-61), 3) := zq_2s zo_167 zkX9_weeks_96 3 rfl rfl 255 195 rfl rfl _ (by decide +kernel)
theorem dX9_weeks_102 : decode cX9_weeks 102 = .ok (.iload 4, 2) := zq_1 zo_21 zkX9_weeks_96 6 rfl rfl 4 rfl
theorem dX9_weeks_104 : decode cX9_weeks 104 = .ok (.ifCond .eq 8, 3) := zq_2s zo_153 zkX9_weeks_96 8 rfl rfl 0 8 rfl rfl _ (by decide +kernel)
theorem dX9_weeks_107 : decode cX9_weeks 107 = .ok (.iload 8, 2) := zq_1 zo_21 zkX9_weeks_96 11 rfl rfl 8 rfl
theorem dX9_weeks_109 : decode cX9_weeks 109 = .ok (.goto 5, 3) := zq_2s zo_167 zkX9_weeks_96 13 rfl rfl 0 5 rfl rfl _ (by decide +kernel)
theorem dX9_weeks_112 : decode cX9_weeks 112 = .ok (.iload 6, 2) := zq_1 zo_21 zkX9_weeks_96 16 rfl rfl 6 rfl
theorem dX9_weeks_114 : decode cX9_weeks 114 = .ok (.ireturn, 1) := zq_0 zo_172 zkX9_weeks_96 18 rfl rfl
theorem zkX9_lots_0 : zqc cX9_lots 0 [42, 180, 0, 12, 27, 182, 0, 121, 58, 6, 25, 6, 198, 0, 34, 28, 184, 0, 254, 153, 0, 27, 21, 4, 4, 161, 0, 21, 21, 4, 16, 20, 163, 0] := zq_of 34 (by decide +kernel)
theorem dX9_lots_0 : decode cX9_lots 0 = .ok (.aload_n 0, 1) := zq_0 zo_42 zkX9_lots_0 0 rfl rfl
theorem dX9_lots_1 : decode cX9_lots 1 = .ok (.getfield 12, 3) := zq_2 zo_180 zkX9_lots_0 1 rfl rfl 0 12 rfl rfl _ rfl
theorem dX9_lots_4 : decode cX9_lots 4 = .ok (.iload_n 1, 1) := zq_0 zo_27 zkX9_lots_0 4 rfl rfl
theorem dX9_lots_5 : decode cX9_lots 5 = .ok (.invokevirtual 121, 3) := zq_2 zo_182 zkX9_lots_0 5 rfl rfl 0 121 rfl rfl _ rfl
theorem dX9_lots_8 : decode cX9_lots 8 = .ok (.astore 6, 2) := zq_1 zo_58 zkX9_lots_0 8 rfl rfl 6 rfl
theorem dX9_lots_10 : decode cX9_lots 10 = .ok (.aload 6, 2) := zq_1 zo_25 zkX9_lots_0 10 rfl rfl 6 rfl
theorem dX9_lots_12 : decode cX9_lots 12 = .ok (.ifnull 34, 3) := zq_2s zo_198 zkX9_lots_0 12 rfl rfl 0 34 rfl rfl _ (by decide +kernel)
theorem dX9_lots_15 : decode cX9_lots 15 = .ok (.iload_n 2, 1) := zq_0 zo_28 zkX9_lots_0 15 rfl rfl
theorem dX9_lots_16 : decode cX9_lots 16 = .ok (.invokestatic 254, 3) := zq_2 zo_184 zkX9_lots_0 16 rfl rfl 0 254 rfl rfl _ rfl
theorem dX9_lots_19 : decode cX9_lots 19 = .ok (.ifCond .eq 27, 3) := zq_2s zo_153 zkX9_lots_0 19 rfl rfl 0 27 rfl rfl _ (by decide +kernel)
theorem dX9_lots_22 : decode cX9_lots 22 = .ok (.iload 4, 2) := zq_1 zo_21 zkX9_lots_0 22 rfl rfl 4 rfl
theorem dX9_lots_24 : decode cX9_lots 24 = .ok (.iconst 1, 1) := zq_0 zo_4 zkX9_lots_0 24 rfl rfl
theorem dX9_lots_25 : decode cX9_lots 25 = .ok (.if_icmp .lt 21, 3) := zq_2s zo_161 zkX9_lots_0 25 rfl rfl 0 21 rfl rfl _ (by decide +kernel)
theorem dX9_lots_28 : decode cX9_lots 28 = .ok (.iload 4, 2) := zq_1 zo_21 zkX9_lots_0 28 rfl rfl 4 rfl
theorem dX9_lots_30 : decode cX9_lots 30 = .ok (.bipush 20, 2) := zq_1s zo_16 zkX9_lots_0 30 rfl rfl 20 rfl _ (by decide +kernel)
theorem zkX9_lots_32 : zqc cX9_lots 32 [163, 0, 14, 21, 5, 155, 0, 9, 21, 5, 5, 164, 0, 5, 2, 172, 3, 54, 7, 3, 54, 8, 3, 54, 9, 3, 54, 10, 21, 10, 21, 4, 162, 0] := zq_of 34 (by decide +kernel)
theorem dX9_lots_32 : decode cX9_lots 32 = .ok (.if_icmp .gt 14, 3) := zq_2s zo_163 zkX9_lots_32 0 rfl rfl 0 14 rfl rfl _ (by decide +kernel)
theorem dX9_lots_35 : decode cX9_lots 35 = .ok (.iload 5, 2) := zq_1 zo_21 zkX9_lots_32 3 rfl rfl 5 rfl
theorem dX9_lots_37 : decode cX9_lots 37 = .ok (.ifCond .lt 9, 3) := zq_2s zo_155 zkX9_lots_32 5 rfl rfl 0 9 rfl rfl _ (by decide +kernel)
theorem dX9_lots_40 : decode cX9_lots 40 = .ok (.iload 5, 2) := zq_1 zo_21 zkX9_lots_32 8 rfl rfl 5 rfl
theorem dX9_lots_42 : decode cX9_lots 42 = .ok (.iconst 2, 1) := zq_0 zo_5 zkX9_lots_32 10 rfl rfl
theorem dX9_lots_43 : decode cX9_lots 43 = .ok (.if_icmp .le 5, 3) := zq_2s zo_164 zkX9_lots_32 11 rfl rfl 0 5 rfl rfl _ (by decide +kernel)
theorem dX9_lots_46 : decode cX9_lots 46 = .ok (.iconst (-1), 1) := zq_0 zo_2 zkX9_lots_32 14 rfl rfl
theorem dX9_lots_47 : decode cX9_lots 47 = .ok (.ireturn, 1) := zq_0 zo_172 zkX9_lots_32 15 rfl rfl
theorem dX9_lots_48 : decode cX9_lots 48 = .ok (.iconst 0, 1) := zq_0 zo_3 zkX9_lots_32 16 rfl rfl
theorem dX9_lots_49 : decode cX9_lots 49 = .ok (.istore 7, 2) := zq_1 zo_54 zkX9_lots_32 17 rfl rfl 7 rfl
theorem dX9_lots_51 : decode cX9_lots 51 = .ok (.iconst 0, 1) := zq_0 zo_3 zkX9_lots_32 19 rfl rfl
theorem dX9_lots_52 : decode cX9_lots 52 = .ok (.istore 8, 2) := zq_1 zo_54 zkX9_lots_32 20 rfl rfl 8 rfl
theorem dX9_lots_54 : decode cX9_lots 54 = .ok (.iconst 0, 1) := zq_0 zo_3 zkX9_lots_32 22 rfl rfl
theorem dX9_lots_55 : decode cX9_lots 55 = .ok (.istore 9, 2) := zq_1 zo_54 zkX9_lots_32 23 rfl rfl 9 rfl
theorem dX9_lots_57 : decode cX9_lots 57 = .ok (.iconst 0, 1) := zq_0 zo_3 zkX9_lots_32 25 rfl rfl
theorem dX9_lots_58 : decode cX9_lots 58 = .ok (.istore 10, 2) := zq_1 zo_54 zkX9_lots_32 26 rfl rfl 10 rfl
theorem dX9_lots_60 : decode cX9_lots 60 = .ok (.iload 10, 2) := zq_1 zo_21 zkX9_lots_32 28 rfl rfl 10 rfl
theorem dX9_lots_62 : decode cX9_lots 62 = .ok (.iload 4, 2) := zq_1 zo_21 zkX9_lots_32 30 rfl rfl 4 rfl
theorem zkX9_lots_64 : zqc cX9_lots 64 [162, 0, 70, 42, 180, 0, 34, 25, 6, 5, 29, 21, 10, 96, 28, 2, 182, 1, 5, 21, 7, 42, 180, 0, 34, 180, 0, 217, 96, 54, 7, 21, 8, 42] := zq_of 34 (by decide +kernel)
theorem dX9_lots_64 : decode cX9_lots 64 = .ok (.if_icmp .ge 70, 3) := zq_2s zo_162 zkX9_lots_64 0 rfl rfl 0 70 rfl rfl _ (by decide +kernel)
theorem dX9_lots_67 : decode cX9_lots 67 = .ok (.aload_n 0, 1) := zq_0 zo_42 zkX9_lots_64 3 rfl rfl
theorem dX9_lots_68 : decode cX9_lots 68 = .ok (.getfield 34, 3) := zq_2 zo_180 zkX9_lots_64 4 rfl rfl 0 34 rfl rfl _ rfl
theorem dX9_lots_71 : decode cX9_lots 71 = .ok (.aload 6, 2) := zq_1 zo_25 zkX9_lots_64 7 rfl rfl 6 rfl
theorem dX9_lots_73 : decode cX9_lots 73 = .ok (.iconst 2, 1) := zq_0 zo_5 zkX9_lots_64 9 rfl rfl
theorem dX9_lots_74 : decode cX9_lots 74 = .ok (.iload_n 3, 1) := zq_0 zo_29 zkX9_lots_64 10 rfl rfl
theorem dX9_lots_75 : decode cX9_lots 75 = .ok (.iload 10, 2) := zq_1 zo_21 zkX9_lots_64 11 rfl rfl 10 rfl
theorem dX9_lots_77 : decode cX9_lots 77 = .ok (.iadd, 1) := zq_0 zo_96 zkX9_lots_64 13 rfl rfl
theorem dX9_lots_78 : decode cX9_lots 78 = .ok (.iload_n 2, 1) := zq_0 zo_28 zkX9_lots_64 14 rfl rfl
theorem dX9_lots_79 : decode cX9_lots 79 = .ok (.iconst (-1), 1) := zq_0 zo_2 zkX9_lots_64 15 rfl rfl
theorem dX9_lots_80 : decode cX9_lots 80 = .ok (.invokevirtual 261, 3) := zq_2 zo_182 zkX9_lots_64 16 rfl rfl 1 5 rfl rfl _ rfl
theorem dX9_lots_83 : decode cX9_lots 83 = .ok (.iload 7, 2) := zq_1 zo_21 zkX9_lots_64 19 rfl rfl 7 rfl
theorem dX9_lots_85 : decode cX9_lots 85 = .ok (.aload_n 0, 1) := zq_0 zo_42 zkX9_lots_64 21 rfl rfl
theorem dX9_lots_86 : decode cX9_lots 86 = .ok (.getfield 34, 3) := zq_2 zo_180 zkX9_lots_64 22 rfl rfl 0 34 rfl rfl _ rfl
theorem dX9_lots_89 : decode cX9_lots 89 = .ok (.getfield 217, 3) := zq_2 zo_180 zkX9_lots_64 25 rfl rfl 0 217 rfl rfl _ rfl
theorem dX9_lots_92 : decode cX9_lots 92 = .ok (.iadd, 1) := zq_0 zo_96 zkX9_lots_64 28 rfl rfl
theorem dX9_lots_93 : decode cX9_lots 93 = .ok (.istore 7, 2) := zq_1 zo_54 zkX9_lots_64 29 rfl rfl 7 rfl
theorem dX9_lots_95 : decode cX9_lots 95 = .ok (.iload 8, 2) := zq_1 zo_21 zkX9_lots_64 31 rfl rfl 8 rfl
theorem zkX9_lots_96 : zqc cX9_lots 96 [8, 42, 180, 0, 34, 180, 0, 223, 96, 54, 8, 21, 9, 42, 180, 0, 34, 180, 0, 233, 2, 160, 0, 7, 3, 167, 0, 4, 4, 96, 54, 9, 132, 10] := zq_of 34 (by decide +kernel)
theorem dX9_lots_97 : decode cX9_lots 97 = .ok (.aload_n 0, 1) := zq_0 zo_42 zkX9_lots_96 1 rfl rfl
theorem dX9_lots_98 : decode cX9_lots 98 = .ok (.getfield 34, 3) := zq_2 zo_180 zkX9_lots_96 2 rfl rfl 0 34 rfl rfl _ rfl
theorem dX9_lots_101 : decode cX9_lots 101 = .ok (.getfield 223, 3) := zq_2 zo_180 zkX9_lots_96 5 rfl rfl 0 223 rfl rfl _ rfl
theorem dX9_lots_104 : decode cX9_lots 104 = .ok (.iadd, 1) := zq_0 zo_96 zkX9_lots_96 8 rfl rfl
theorem dX9_lots_105 : decode cX9_lots 105 = .ok (.istore 8, 2) := zq_1 zo_54 zkX9_lots_96 9 rfl rfl 8 rfl
theorem dX9_lots_107 : decode cX9_lots 107 = .ok (.iload 9, 2) := zq_1 zo_21 zkX9_lots_96 11 rfl rfl 9 rfl
theorem dX9_lots_109 : decode cX9_lots 109 = .ok (.aload_n 0, 1) := zq_0 zo_42 zkX9_lots_96 13 rfl rfl
theorem dX9_lots_110 : decode cX9_lots 110 = .ok (.getfield 34, 3) := zq_2 zo_180 zkX9_lots_96 14 rfl rfl 0 34 rfl rfl _ rfl
theorem dX9_lots_113 : decode cX9_lots 113 = .ok (.getfield 233, 3) := zq_2 zo_180 zkX9_lots_96 17 rfl rfl 0 233 rfl rfl _ rfl
theorem dX9_lots_116 : decode cX9_lots 116 = .ok (.iconst (-1), 1) := zq_0 zo_2 zkX9_lots_96 20 rfl rfl
theorem dX9_lots_117 : decode cX9_lots 117 = .ok (.if_icmp .ne 7, 3) := zq_2s zo_160 zkX9_lots_96 21 rfl rfl 0 7 rfl rfl _ (by decide +kernel)
theorem dX9_lots_120 : decode cX9_lots 120 = .ok (.iconst 0, 1) := zq_0 zo_3 zkX9_lots_96 24 rfl rfl
theorem dX9_lots_121 : decode cX9_lots 121 = .ok (.goto 4, 3) := zq_2s zo_167 zkX9_lots_96 25 rfl rfl 0 4 rfl rfl _ (by decide +kernel)
theorem dX9_lots_124 : decode cX9_lots 124 = .ok (.iconst 1, 1) := zq_0 zo_4 zkX9_lots_96 28 rfl rfl
theorem dX9_lots_125 : decode cX9_lots 125 = .ok (.iadd, 1) := zq_0 zo_96 zkX9_lots_96 29 rfl rfl
theorem dX9_lots_126 : decode cX9_lots 126 = .ok (.istore 9, 2) := zq_1 zo_54 zkX9_lots_96 30 rfl rfl 9 rfl
theorem zkX9_lots_128 : zqc cX9_lots 128 [132, 10, 1, 167, 255, 185, 21, 5, 154, 0, 6, 21, 7, 172, 21, 5, 4, 160, 0, 8, 21, 8, 167, 0, 5, 21, 9, 172] := zq_of 28 (by decide +kernel)
theorem dX9_lots_128 : decode cX9_lots 128 = .ok (.iinc 10 1, 3) := zq_ii zo_132 zkX9_lots_128 0 rfl rfl 10 1 rfl rfl _ (by decide +kernel)
theorem dX9_lots_131 : decode cX9_lots 131 = .ok (.goto (-71), 3) := zq_2s zo_167 zkX9_lots_128 3 rfl rfl 255 185 rfl rfl _ (by decide +kernel)
theorem dX9_lots_134 : decode cX9_lots 134 = .ok (.iload 5, 2) := zq_1 zo_21 zkX9_lots_128 6 rfl rfl 5 rfl
theorem dX9_lots_136 : decode cX9_lots 136 = .ok (.ifCond .ne 6, 3) := zq_2s zo_154 zkX9_lots_128 8 rfl rfl 0 6 rfl rfl _ (by decide +kernel)
theorem dX9_lots_139 : decode cX9_lots 139 = .ok (.iload 7, 2) := zq_1 zo_21 zkX9_lots_128 11 rfl rfl 7 rfl
theorem dX9_lots_141 : decode cX9_lots 141 = .ok (.ireturn, 1) := zq_0 zo_172 zkX9_lots_128 13 rfl rfl
theorem dX9_lots_142 : decode cX9_lots 142 = .ok (.iload 5, 2) := zq_1 zo_21 zkX9_lots_128 14 rfl rfl 5 rfl
theorem dX9_lots_144 : decode cX9_lots 144 = .ok (.iconst 1, 1) := zq_0 zo_4 zkX9_lots_128 16 rfl rfl
theorem dX9_lots_145 : decode cX9_lots 145 = .ok (.if_icmp .ne 8, 3) := zq_2s zo_160 zkX9_lots_128 17 rfl rfl 0 8 rfl rfl _ (by decide +kernel)
theorem dX9_lots_148 : decode cX9_lots 148 = .ok (.iload 8, 2) := zq_1 zo_21 zkX9_lots_128 20 rfl rfl 8 rfl
theorem dX9_lots_150 : decode cX9_lots 150 = .ok (.goto 5, 3) := zq_2s zo_167 zkX9_lots_128 22 rfl rfl 0 5 rfl rfl _ (by decide +kernel)
theorem dX9_lots_153 : decode cX9_lots 153 = .ok (.iload 9, 2) := zq_1 zo_21 zkX9_lots_128 25 rfl rfl 9 rfl
theorem dX9_lots_155 : decode cX9_lots 155 = .ok (.ireturn, 1) := zq_0 zo_172 zkX9_lots_128 27 rfl rfl
theorem zkX9_rest_0 : zqc cX9_rest 0 [42, 180, 0, 12, 27, 182, 0, 121, 58, 4, 25, 4, 198, 0, 15, 28, 184, 0, 254, 153, 0, 8, 29, 2, 162, 0, 6, 16, 254, 172, 42, 25, 4, 28] := zq_of 34 (by decide +kernel)
theorem dX9_rest_0 : decode cX9_rest 0 = .ok (.aload_n 0, 1) := zq_0 zo_42 zkX9_rest_0 0 rfl rfl
theorem dX9_rest_1 : decode cX9_rest 1 = .ok (.getfield 12, 3) := zq_2 zo_180 zkX9_rest_0 1 rfl rfl 0 12 rfl rfl _ rfl
theorem dX9_rest_4 : decode cX9_rest 4 = .ok (.iload_n 1, 1) := zq_0 zo_27 zkX9_rest_0 4 rfl rfl
theorem dX9_rest_5 : decode cX9_rest 5 = .ok (.invokevirtual 121, 3) := zq_2 zo_182 zkX9_rest_0 5 rfl rfl 0 121 rfl rfl _ rfl
theorem dX9_rest_8 : decode cX9_rest 8 = .ok (.astore 4, 2) := zq_1 zo_58 zkX9_rest_0 8 rfl rfl 4 rfl
theorem dX9_rest_10 : decode cX9_rest 10 = .ok (.aload 4, 2) := zq_1 zo_25 zkX9_rest_0 10 rfl rfl 4 rfl
theorem dX9_rest_12 : decode cX9_rest 12 = .ok (.ifnull 15, 3) := zq_2s zo_198 zkX9_rest_0 12 rfl rfl 0 15 rfl rfl _ (by decide +kernel)
theorem dX9_rest_15 : decode cX9_rest 15 = .ok (.iload_n 2, 1) := zq_0 zo_28 zkX9_rest_0 15 rfl rfl
theorem dX9_rest_16 : decode cX9_rest 16 = .ok (.invokestatic 254, 3) := zq_2 zo_184 zkX9_rest_0 16 rfl rfl 0 254 rfl rfl _ rfl
theorem dX9_rest_19 : decode cX9_rest 19 = .ok (.ifCond .eq 8, 3) := zq_2s zo_153 zkX9_rest_0 19 rfl rfl 0 8 rfl rfl _ (by decide +kernel)
theorem dX9_rest_22 : decode cX9_rest 22 = .ok (.iload_n 3, 1) := zq_0 zo_29 zkX9_rest_0 22 rfl rfl
theorem dX9_rest_23 : decode cX9_rest 23 = .ok (.iconst (-1), 1) := zq_0 zo_2 zkX9_rest_0 23 rfl rfl
theorem dX9_rest_24 : decode cX9_rest 24 = .ok (.if_icmp .ge 6, 3) := zq_2s zo_162 zkX9_rest_0 24 rfl rfl 0 6 rfl rfl _ (by decide +kernel)
theorem dX9_rest_27 : decode cX9_rest 27 = .ok (.bipush (-2), 2) := zq_1s zo_16 zkX9_rest_0 27 rfl rfl 254 rfl _ (by decide +kernel)
theorem dX9_rest_29 : decode cX9_rest 29 = .ok (.ireturn, 1) := zq_0 zo_172 zkX9_rest_0 29 rfl rfl
theorem dX9_rest_30 : decode cX9_rest 30 = .ok (.aload_n 0, 1) := zq_0 zo_42 zkX9_rest_0 30 rfl rfl
theorem dX9_rest_31 : decode cX9_rest 31 = .ok (.aload 4, 2) := zq_1 zo_25 zkX9_rest_0 31 rfl rfl 4 rfl
theorem zkX9_rest_32 : zqc cX9_rest 32 [4, 28, 182, 1, 9, 3, 54, 5, 3, 54, 6, 21, 6, 25, 4, 182, 1, 13, 162, 0, 32, 42, 25, 4, 21, 6, 182, 1, 16, 153, 0, 15, 21, 5] := zq_of 34 (by decide +kernel)
theorem dX9_rest_33 : decode cX9_rest 33 = .ok (.iload_n 2, 1) := zq_0 zo_28 zkX9_rest_32 1 rfl rfl
theorem dX9_rest_34 : decode cX9_rest 34 = .ok (.invokevirtual 265, 3) := zq_2 zo_182 zkX9_rest_32 2 rfl rfl 1 9 rfl rfl _ rfl
theorem dX9_rest_37 : decode cX9_rest 37 = .ok (.iconst 0, 1) := zq_0 zo_3 zkX9_rest_32 5 rfl rfl
theorem dX9_rest_38 : decode cX9_rest 38 = .ok (.istore 5, 2) := zq_1 zo_54 zkX9_rest_32 6 rfl rfl 5 rfl
theorem dX9_rest_40 : decode cX9_rest 40 = .ok (.iconst 0, 1) := zq_0 zo_3 zkX9_rest_32 8 rfl rfl
theorem dX9_rest_41 : decode cX9_rest 41 = .ok (.istore 6, 2) := zq_1 zo_54 zkX9_rest_32 9 rfl rfl 6 rfl
theorem dX9_rest_43 : decode cX9_rest 43 = .ok (.iload 6, 2) := zq_1 zo_21 zkX9_rest_32 11 rfl rfl 6 rfl
theorem dX9_rest_45 : decode cX9_rest 45 = .ok (.aload 4, 2) := zq_1 zo_25 zkX9_rest_32 13 rfl rfl 4 rfl
theorem dX9_rest_47 : decode cX9_rest 47 = .ok (.invokevirtual 269, 3) := zq_2 zo_182 zkX9_rest_32 15 rfl rfl 1 13 rfl rfl _ rfl
theorem dX9_rest_50 : decode cX9_rest 50 = .ok (.if_icmp .ge 32, 3) := zq_2s zo_162 zkX9_rest_32 18 rfl rfl 0 32 rfl rfl _ (by decide +kernel)
theorem dX9_rest_53 : decode cX9_rest 53 = .ok (.aload_n 0, 1) := zq_0 zo_42 zkX9_rest_32 21 rfl rfl
theorem dX9_rest_54 : decode cX9_rest 54 = .ok (.aload 4, 2) := zq_1 zo_25 zkX9_rest_32 22 rfl rfl 4 rfl
theorem dX9_rest_56 : decode cX9_rest 56 = .ok (.iload 6, 2) := zq_1 zo_21 zkX9_rest_32 24 rfl rfl 6 rfl
theorem dX9_rest_58 : decode cX9_rest 58 = .ok (.invokevirtual 272, 3) := zq_2 zo_182 zkX9_rest_32 26 rfl rfl 1 16 rfl rfl _ rfl
theorem dX9_rest_61 : decode cX9_rest 61 = .ok (.ifCond .eq 15, 3) := zq_2s zo_153 zkX9_rest_32 29 rfl rfl 0 15 rfl rfl _ (by decide +kernel)
theorem zkX9_rest_64 : zqc cX9_rest 64 [21, 5, 29, 160, 0, 6, 21, 6, 172, 132, 5, 1, 132, 6, 1, 167, 255, 220, 29, 2, 160, 0, 8, 21, 5, 167, 0, 5, 16, 254, 172] := zq_of 31 (by decide +kernel)
theorem dX9_rest_64 : decode cX9_rest 64 = .ok (.iload 5, 2) := zq_1 zo_21 zkX9_rest_64 0 rfl rfl 5 rfl
theorem dX9_rest_66 : decode cX9_rest 66 = .ok (.iload_n 3, 1) := zq_0 zo_29 zkX9_rest_64 2 rfl rfl
theorem dX9_rest_67 : decode cX9_rest 67 = .ok (.if_icmp .ne 6, 3) := zq_2s zo_160 zkX9_rest_64 3 rfl rfl 0 6 rfl rfl _ (by decide +kernel)
theorem dX9_rest_70 : decode cX9_rest 70 = .ok (.iload 6, 2) := zq_1 zo_21 zkX9_rest_64 6 rfl rfl 6 rfl
theorem dX9_rest_72 : decode cX9_rest 72 = .ok (.ireturn, 1) := zq_0 zo_172 zkX9_rest_64 8 rfl rfl
theorem dX9_rest_73 : decode cX9_rest 73 = .ok (.iinc 5 1, 3) := zq_ii zo_132 zkX9_rest_64 9 rfl rfl 5 1 rfl rfl _ (by decide +kernel)
theorem dX9_rest_76 : decode cX9_rest 76 = .ok (.iinc 6 1, 3) := zq_ii zo_132 zkX9_rest_64 12 rfl rfl 6 1 rfl rfl _ (by decide +kernel)
theorem dX9_rest_79 : decode cX9_rest 79 = .ok (.goto (-36), 3) := zq_2s zo_167 zkX9_rest_64 15 rfl rfl 255 220 rfl rfl _ (by decide +kernel)
theorem dX9_rest_82 : decode cX9_rest 82 = .ok (.iload_n 3, 1) := zq_0 zo_29 zkX9_rest_64 18 rfl rfl
theorem dX9_rest_83 : decode cX9_rest 83 = .ok (.iconst (-1), 1) := zq_0 zo_2 zkX9_rest_64 19 rfl rfl
theorem dX9_rest_84 : decode cX9_rest 84 = .ok (.if_icmp .ne 8, 3) := zq_2s zo_160 zkX9_rest_64 20 rfl rfl 0 8 rfl rfl _ (by decide +kernel)
theorem dX9_rest_87 : decode cX9_rest 87 = .ok (.iload 5, 2) := zq_1 zo_21 zkX9_rest_64 23 rfl rfl 5 rfl
theorem dX9_rest_89 : decode cX9_rest 89 = .ok (.goto 5, 3) := zq_2s zo_167 zkX9_rest_64 25 rfl rfl 0 5 rfl rfl _ (by decide +kernel)
theorem dX9_rest_92 : decode cX9_rest 92 = .ok (.bipush (-2), 2) := zq_1s zo_16 zkX9_rest_64 28 rfl rfl 254 rfl _ (by decide +kernel)
theorem dX9_rest_94 : decode cX9_rest 94 = .ok (.ireturn, 1) := zq_0 zo_172 zkX9_rest_64 30 rfl rfl
theorem zkX9_gain_0 : zqc cX9_gain 0 [42, 180, 0, 12, 27, 182, 0, 121, 58, 5, 25, 5, 198, 0, 20, 28, 184, 0, 254, 153, 0, 13, 25, 5, 21, 4, 182, 0, 174, 154, 0, 7, 19, 1] := zq_of 34 (by decide +kernel)
theorem dX9_gain_0 : decode cX9_gain 0 = .ok (.aload_n 0, 1) := zq_0 zo_42 zkX9_gain_0 0 rfl rfl
theorem dX9_gain_1 : decode cX9_gain 1 = .ok (.getfield 12, 3) := zq_2 zo_180 zkX9_gain_0 1 rfl rfl 0 12 rfl rfl _ rfl
theorem dX9_gain_4 : decode cX9_gain 4 = .ok (.iload_n 1, 1) := zq_0 zo_27 zkX9_gain_0 4 rfl rfl
theorem dX9_gain_5 : decode cX9_gain 5 = .ok (.invokevirtual 121, 3) := zq_2 zo_182 zkX9_gain_0 5 rfl rfl 0 121 rfl rfl _ rfl
theorem dX9_gain_8 : decode cX9_gain 8 = .ok (.astore 5, 2) := zq_1 zo_58 zkX9_gain_0 8 rfl rfl 5 rfl
theorem dX9_gain_10 : decode cX9_gain 10 = .ok (.aload 5, 2) := zq_1 zo_25 zkX9_gain_0 10 rfl rfl 5 rfl
theorem dX9_gain_12 : decode cX9_gain 12 = .ok (.ifnull 20, 3) := zq_2s zo_198 zkX9_gain_0 12 rfl rfl 0 20 rfl rfl _ (by decide +kernel)
theorem dX9_gain_15 : decode cX9_gain 15 = .ok (.iload_n 2, 1) := zq_0 zo_28 zkX9_gain_0 15 rfl rfl
theorem dX9_gain_16 : decode cX9_gain 16 = .ok (.invokestatic 254, 3) := zq_2 zo_184 zkX9_gain_0 16 rfl rfl 0 254 rfl rfl _ rfl
theorem dX9_gain_19 : decode cX9_gain 19 = .ok (.ifCond .eq 13, 3) := zq_2s zo_153 zkX9_gain_0 19 rfl rfl 0 13 rfl rfl _ (by decide +kernel)
theorem dX9_gain_22 : decode cX9_gain 22 = .ok (.aload 5, 2) := zq_1 zo_25 zkX9_gain_0 22 rfl rfl 5 rfl
theorem dX9_gain_24 : decode cX9_gain 24 = .ok (.iload 4, 2) := zq_1 zo_21 zkX9_gain_0 24 rfl rfl 4 rfl
theorem dX9_gain_26 : decode cX9_gain 26 = .ok (.invokevirtual 174, 3) := zq_2 zo_182 zkX9_gain_0 26 rfl rfl 0 174 rfl rfl _ rfl
theorem dX9_gain_29 : decode cX9_gain 29 = .ok (.ifCond .ne 7, 3) := zq_2s zo_154 zkX9_gain_0 29 rfl rfl 0 7 rfl rfl _ (by decide +kernel)
theorem zkX9_gain_32 : zqc cX9_gain 32 [19, 1, 20, 172, 29, 155, 0, 12, 29, 25, 5, 182, 1, 13, 161, 0, 7, 19, 1, 20, 172, 42, 180, 0, 34, 25, 5, 3, 3, 28, 29, 182, 1, 5] := zq_of 34 (by decide +kernel)
theorem dX9_gain_32 : decode cX9_gain 32 = .ok (.ldc_w 276, 3) := zq_2 zo_19 zkX9_gain_32 0 rfl rfl 1 20 rfl rfl _ rfl
theorem dX9_gain_35 : decode cX9_gain 35 = .ok (.ireturn, 1) := zq_0 zo_172 zkX9_gain_32 3 rfl rfl
theorem dX9_gain_36 : decode cX9_gain 36 = .ok (.iload_n 3, 1) := zq_0 zo_29 zkX9_gain_32 4 rfl rfl
theorem dX9_gain_37 : decode cX9_gain 37 = .ok (.ifCond .lt 12, 3) := zq_2s zo_155 zkX9_gain_32 5 rfl rfl 0 12 rfl rfl _ (by decide +kernel)
theorem dX9_gain_40 : decode cX9_gain 40 = .ok (.iload_n 3, 1) := zq_0 zo_29 zkX9_gain_32 8 rfl rfl
theorem dX9_gain_41 : decode cX9_gain 41 = .ok (.aload 5, 2) := zq_1 zo_25 zkX9_gain_32 9 rfl rfl 5 rfl
theorem dX9_gain_43 : decode cX9_gain 43 = .ok (.invokevirtual 269, 3) := zq_2 zo_182 zkX9_gain_32 11 rfl rfl 1 13 rfl rfl _ rfl
theorem dX9_gain_46 : decode cX9_gain 46 = .ok (.if_icmp .lt 7, 3) := zq_2s zo_161 zkX9_gain_32 14 rfl rfl 0 7 rfl rfl _ (by decide +kernel)
theorem dX9_gain_49 : decode cX9_gain 49 = .ok (.ldc_w 276, 3) := zq_2 zo_19 zkX9_gain_32 17 rfl rfl 1 20 rfl rfl _ rfl
theorem dX9_gain_52 : decode cX9_gain 52 = .ok (.ireturn, 1) := zq_0 zo_172 zkX9_gain_32 20 rfl rfl
theorem dX9_gain_53 : decode cX9_gain 53 = .ok (.aload_n 0, 1) := zq_0 zo_42 zkX9_gain_32 21 rfl rfl
theorem dX9_gain_54 : decode cX9_gain 54 = .ok (.getfield 34, 3) := zq_2 zo_180 zkX9_gain_32 22 rfl rfl 0 34 rfl rfl _ rfl
theorem dX9_gain_57 : decode cX9_gain 57 = .ok (.aload 5, 2) := zq_1 zo_25 zkX9_gain_32 25 rfl rfl 5 rfl
theorem dX9_gain_59 : decode cX9_gain 59 = .ok (.iconst 0, 1) := zq_0 zo_3 zkX9_gain_32 27 rfl rfl
theorem dX9_gain_60 : decode cX9_gain 60 = .ok (.iconst 0, 1) := zq_0 zo_3 zkX9_gain_32 28 rfl rfl
theorem dX9_gain_61 : decode cX9_gain 61 = .ok (.iload_n 2, 1) := zq_0 zo_28 zkX9_gain_32 29 rfl rfl
theorem dX9_gain_62 : decode cX9_gain 62 = .ok (.iload_n 3, 1) := zq_0 zo_29 zkX9_gain_32 30 rfl rfl
theorem dX9_gain_63 : decode cX9_gain 63 = .ok (.invokevirtual 261, 3) := zq_2 zo_182 zkX9_gain_32 31 rfl rfl 1 5 rfl rfl _ rfl
theorem zkX9_gain_64 : zqc cX9_gain 64 [1, 5, 42, 180, 0, 34, 25, 5, 21, 4, 182, 1, 21, 172] := zq_of 14 (by decide +kernel)
theorem dX9_gain_66 : decode cX9_gain 66 = .ok (.aload_n 0, 1) := zq_0 zo_42 zkX9_gain_64 2 rfl rfl
theorem dX9_gain_67 : decode cX9_gain 67 = .ok (.getfield 34, 3) := zq_2 zo_180 zkX9_gain_64 3 rfl rfl 0 34 rfl rfl _ rfl
theorem dX9_gain_70 : decode cX9_gain 70 = .ok (.aload 5, 2) := zq_1 zo_25 zkX9_gain_64 6 rfl rfl 5 rfl
theorem dX9_gain_72 : decode cX9_gain 72 = .ok (.iload 4, 2) := zq_1 zo_21 zkX9_gain_64 8 rfl rfl 4 rfl
theorem dX9_gain_74 : decode cX9_gain 74 = .ok (.invokevirtual 277, 3) := zq_2 zo_182 zkX9_gain_64 10 rfl rfl 1 21 rfl rfl _ rfl
theorem dX9_gain_77 : decode cX9_gain 77 = .ok (.ireturn, 1) := zq_0 zo_172 zkX9_gain_64 13 rfl rfl
theorem zkX9_calm_0 : zqc cX9_calm 0 [42, 180, 0, 12, 27, 182, 0, 121, 58, 4, 25, 4, 198, 0, 22, 28, 184, 0, 254, 153, 0, 15, 29, 2, 161, 0, 10, 29, 17, 3, 231, 164, 0, 5] := zq_of 34 (by decide +kernel)
theorem dX9_calm_0 : decode cX9_calm 0 = .ok (.aload_n 0, 1) := zq_0 zo_42 zkX9_calm_0 0 rfl rfl
theorem dX9_calm_1 : decode cX9_calm 1 = .ok (.getfield 12, 3) := zq_2 zo_180 zkX9_calm_0 1 rfl rfl 0 12 rfl rfl _ rfl
theorem dX9_calm_4 : decode cX9_calm 4 = .ok (.iload_n 1, 1) := zq_0 zo_27 zkX9_calm_0 4 rfl rfl
theorem dX9_calm_5 : decode cX9_calm 5 = .ok (.invokevirtual 121, 3) := zq_2 zo_182 zkX9_calm_0 5 rfl rfl 0 121 rfl rfl _ rfl
theorem dX9_calm_8 : decode cX9_calm 8 = .ok (.astore 4, 2) := zq_1 zo_58 zkX9_calm_0 8 rfl rfl 4 rfl
theorem dX9_calm_10 : decode cX9_calm 10 = .ok (.aload 4, 2) := zq_1 zo_25 zkX9_calm_0 10 rfl rfl 4 rfl
theorem dX9_calm_12 : decode cX9_calm 12 = .ok (.ifnull 22, 3) := zq_2s zo_198 zkX9_calm_0 12 rfl rfl 0 22 rfl rfl _ (by decide +kernel)
theorem dX9_calm_15 : decode cX9_calm 15 = .ok (.iload_n 2, 1) := zq_0 zo_28 zkX9_calm_0 15 rfl rfl
theorem dX9_calm_16 : decode cX9_calm 16 = .ok (.invokestatic 254, 3) := zq_2 zo_184 zkX9_calm_0 16 rfl rfl 0 254 rfl rfl _ rfl
theorem dX9_calm_19 : decode cX9_calm 19 = .ok (.ifCond .eq 15, 3) := zq_2s zo_153 zkX9_calm_0 19 rfl rfl 0 15 rfl rfl _ (by decide +kernel)
theorem dX9_calm_22 : decode cX9_calm 22 = .ok (.iload_n 3, 1) := zq_0 zo_29 zkX9_calm_0 22 rfl rfl
theorem dX9_calm_23 : decode cX9_calm 23 = .ok (.iconst (-1), 1) := zq_0 zo_2 zkX9_calm_0 23 rfl rfl
theorem dX9_calm_24 : decode cX9_calm 24 = .ok (.if_icmp .lt 10, 3) := zq_2s zo_161 zkX9_calm_0 24 rfl rfl 0 10 rfl rfl _ (by decide +kernel)
theorem dX9_calm_27 : decode cX9_calm 27 = .ok (.iload_n 3, 1) := zq_0 zo_29 zkX9_calm_0 27 rfl rfl
theorem dX9_calm_28 : decode cX9_calm 28 = .ok (.sipush 999, 3) := zq_2s zo_17 zkX9_calm_0 28 rfl rfl 3 231 rfl rfl _ (by decide +kernel)
theorem dX9_calm_31 : decode cX9_calm 31 = .ok (.if_icmp .le 5, 3) := zq_2s zo_164 zkX9_calm_0 31 rfl rfl 0 5 rfl rfl _ (by decide +kernel)
theorem zkX9_calm_32 : zqc cX9_calm 32 [0, 5, 2, 172, 25, 4, 180, 0, 128, 4, 96, 54, 5, 2, 54, 6, 3, 54, 7, 21, 7, 25, 4, 182, 1, 13, 162, 0, 43, 21, 7, 184, 1, 24] := zq_of 34 (by decide +kernel)
theorem dX9_calm_34 : decode cX9_calm 34 = .ok (.iconst (-1), 1) := zq_0 zo_2 zkX9_calm_32 2 rfl rfl
theorem dX9_calm_35 : decode cX9_calm 35 = .ok (.ireturn, 1) := zq_0 zo_172 zkX9_calm_32 3 rfl rfl
theorem dX9_calm_36 : decode cX9_calm 36 = .ok (.aload 4, 2) := zq_1 zo_25 zkX9_calm_32 4 rfl rfl 4 rfl
theorem dX9_calm_38 : decode cX9_calm 38 = .ok (.getfield 128, 3) := zq_2 zo_180 zkX9_calm_32 6 rfl rfl 0 128 rfl rfl _ rfl
theorem dX9_calm_41 : decode cX9_calm 41 = .ok (.iconst 1, 1) := zq_0 zo_4 zkX9_calm_32 9 rfl rfl
theorem dX9_calm_42 : decode cX9_calm 42 = .ok (.iadd, 1) := zq_0 zo_96 zkX9_calm_32 10 rfl rfl
theorem dX9_calm_43 : decode cX9_calm 43 = .ok (.istore 5, 2) := zq_1 zo_54 zkX9_calm_32 11 rfl rfl 5 rfl
theorem dX9_calm_45 : decode cX9_calm 45 = .ok (.iconst (-1), 1) := zq_0 zo_2 zkX9_calm_32 13 rfl rfl
theorem dX9_calm_46 : decode cX9_calm 46 = .ok (.istore 6, 2) := zq_1 zo_54 zkX9_calm_32 14 rfl rfl 6 rfl
theorem dX9_calm_48 : decode cX9_calm 48 = .ok (.iconst 0, 1) := zq_0 zo_3 zkX9_calm_32 16 rfl rfl
theorem dX9_calm_49 : decode cX9_calm 49 = .ok (.istore 7, 2) := zq_1 zo_54 zkX9_calm_32 17 rfl rfl 7 rfl
theorem dX9_calm_51 : decode cX9_calm 51 = .ok (.iload 7, 2) := zq_1 zo_21 zkX9_calm_32 19 rfl rfl 7 rfl
theorem dX9_calm_53 : decode cX9_calm 53 = .ok (.aload 4, 2) := zq_1 zo_25 zkX9_calm_32 21 rfl rfl 4 rfl
theorem dX9_calm_55 : decode cX9_calm 55 = .ok (.invokevirtual 269, 3) := zq_2 zo_182 zkX9_calm_32 23 rfl rfl 1 13 rfl rfl _ rfl
theorem dX9_calm_58 : decode cX9_calm 58 = .ok (.if_icmp .ge 43, 3) := zq_2s zo_162 zkX9_calm_32 26 rfl rfl 0 43 rfl rfl _ (by decide +kernel)
theorem dX9_calm_61 : decode cX9_calm 61 = .ok (.iload 7, 2) := zq_1 zo_21 zkX9_calm_32 29 rfl rfl 7 rfl
theorem dX9_calm_63 : decode cX9_calm 63 = .ok (.invokestatic 280, 3) := zq_2 zo_184 zkX9_calm_32 31 rfl rfl 1 24 rfl rfl _ rfl
theorem zkX9_calm_64 : zqc cX9_calm 64 [1, 24, 21, 5, 162, 0, 27, 42, 25, 4, 28, 29, 21, 7, 182, 1, 29, 153, 0, 14, 21, 7, 184, 1, 24, 54, 5, 21, 7, 54, 6, 132, 7, 1] := zq_of 34 (by decide +kernel)
theorem dX9_calm_66 : decode cX9_calm 66 = .ok (.iload 5, 2) := zq_1 zo_21 zkX9_calm_64 2 rfl rfl 5 rfl
theorem dX9_calm_68 : decode cX9_calm 68 = .ok (.if_icmp .ge 27, 3) := zq_2s zo_162 zkX9_calm_64 4 rfl rfl 0 27 rfl rfl _ (by decide +kernel)
theorem dX9_calm_71 : decode cX9_calm 71 = .ok (.aload_n 0, 1) := zq_0 zo_42 zkX9_calm_64 7 rfl rfl
theorem dX9_calm_72 : decode cX9_calm 72 = .ok (.aload 4, 2) := zq_1 zo_25 zkX9_calm_64 8 rfl rfl 4 rfl
theorem dX9_calm_74 : decode cX9_calm 74 = .ok (.iload_n 2, 1) := zq_0 zo_28 zkX9_calm_64 10 rfl rfl
theorem dX9_calm_75 : decode cX9_calm 75 = .ok (.iload_n 3, 1) := zq_0 zo_29 zkX9_calm_64 11 rfl rfl
theorem dX9_calm_76 : decode cX9_calm 76 = .ok (.iload 7, 2) := zq_1 zo_21 zkX9_calm_64 12 rfl rfl 7 rfl
theorem dX9_calm_78 : decode cX9_calm 78 = .ok (.invokevirtual 285, 3) := zq_2 zo_182 zkX9_calm_64 14 rfl rfl 1 29 rfl rfl _ rfl
theorem dX9_calm_81 : decode cX9_calm 81 = .ok (.ifCond .eq 14, 3) := zq_2s zo_153 zkX9_calm_64 17 rfl rfl 0 14 rfl rfl _ (by decide +kernel)
theorem dX9_calm_84 : decode cX9_calm 84 = .ok (.iload 7, 2) := zq_1 zo_21 zkX9_calm_64 20 rfl rfl 7 rfl
theorem dX9_calm_86 : decode cX9_calm 86 = .ok (.invokestatic 280, 3) := zq_2 zo_184 zkX9_calm_64 22 rfl rfl 1 24 rfl rfl _ rfl
theorem dX9_calm_89 : decode cX9_calm 89 = .ok (.istore 5, 2) := zq_1 zo_54 zkX9_calm_64 25 rfl rfl 5 rfl
theorem dX9_calm_91 : decode cX9_calm 91 = .ok (.iload 7, 2) := zq_1 zo_21 zkX9_calm_64 27 rfl rfl 7 rfl
theorem dX9_calm_93 : decode cX9_calm 93 = .ok (.istore 6, 2) := zq_1 zo_54 zkX9_calm_64 29 rfl rfl 6 rfl
theorem dX9_calm_95 : decode cX9_calm 95 = .ok (.iinc 7 1, 3) := zq_ii zo_132 zkX9_calm_64 31 rfl rfl 7 1 rfl rfl _ (by decide +kernel)
theorem zkX9_calm_96 : zqc cX9_calm 96 [7, 1, 167, 255, 209, 21, 6, 172] := zq_of 8 (by decide +kernel)
theorem dX9_calm_98 : decode cX9_calm 98 = .ok (.goto (-47), 3) := zq_2s zo_167 zkX9_calm_96 2 rfl rfl 255 209 rfl rfl _ (by decide +kernel)
theorem dX9_calm_101 : decode cX9_calm 101 = .ok (.iload 6, 2) := zq_1 zo_21 zkX9_calm_96 5 rfl rfl 6 rfl
theorem dX9_calm_103 : decode cX9_calm 103 = .ok (.ireturn, 1) := zq_0 zo_172 zkX9_calm_96 7 rfl rfl
theorem zkX9_rich_0 : zqc cX9_rich 0 [42, 27, 28, 29, 21, 4, 182, 0, 206, 58, 6, 25, 6, 199, 0, 5, 2, 172, 21, 5, 153, 0, 16, 42, 25, 6, 28, 29, 21, 4, 182, 1, 33, 167] := zq_of 34 (by decide +kernel)
theorem dX9_rich_0 : decode cX9_rich 0 = .ok (.aload_n 0, 1) := zq_0 zo_42 zkX9_rich_0 0 rfl rfl
theorem dX9_rich_1 : decode cX9_rich 1 = .ok (.iload_n 1, 1) := zq_0 zo_27 zkX9_rich_0 1 rfl rfl
theorem dX9_rich_2 : decode cX9_rich 2 = .ok (.iload_n 2, 1) := zq_0 zo_28 zkX9_rich_0 2 rfl rfl
theorem dX9_rich_3 : decode cX9_rich 3 = .ok (.iload_n 3, 1) := zq_0 zo_29 zkX9_rich_0 3 rfl rfl
theorem dX9_rich_4 : decode cX9_rich 4 = .ok (.iload 4, 2) := zq_1 zo_21 zkX9_rich_0 4 rfl rfl 4 rfl
theorem dX9_rich_6 : decode cX9_rich 6 = .ok (.invokevirtual 206, 3) := zq_2 zo_182 zkX9_rich_0 6 rfl rfl 0 206 rfl rfl _ rfl
theorem dX9_rich_9 : decode cX9_rich 9 = .ok (.astore 6, 2) := zq_1 zo_58 zkX9_rich_0 9 rfl rfl 6 rfl
theorem dX9_rich_11 : decode cX9_rich 11 = .ok (.aload 6, 2) := zq_1 zo_25 zkX9_rich_0 11 rfl rfl 6 rfl
theorem dX9_rich_13 : decode cX9_rich 13 = .ok (.ifnonnull 5, 3) := zq_2s zo_199 zkX9_rich_0 13 rfl rfl 0 5 rfl rfl _ (by decide +kernel)
theorem dX9_rich_16 : decode cX9_rich 16 = .ok (.iconst (-1), 1) := zq_0 zo_2 zkX9_rich_0 16 rfl rfl
theorem dX9_rich_17 : decode cX9_rich 17 = .ok (.ireturn, 1) := zq_0 zo_172 zkX9_rich_0 17 rfl rfl
theorem dX9_rich_18 : decode cX9_rich 18 = .ok (.iload 5, 2) := zq_1 zo_21 zkX9_rich_0 18 rfl rfl 5 rfl
theorem dX9_rich_20 : decode cX9_rich 20 = .ok (.ifCond .eq 16, 3) := zq_2s zo_153 zkX9_rich_0 20 rfl rfl 0 16 rfl rfl _ (by decide +kernel)
theorem dX9_rich_23 : decode cX9_rich 23 = .ok (.aload_n 0, 1) := zq_0 zo_42 zkX9_rich_0 23 rfl rfl
theorem dX9_rich_24 : decode cX9_rich 24 = .ok (.aload 6, 2) := zq_1 zo_25 zkX9_rich_0 24 rfl rfl 6 rfl
theorem dX9_rich_26 : decode cX9_rich 26 = .ok (.iload_n 2, 1) := zq_0 zo_28 zkX9_rich_0 26 rfl rfl
theorem dX9_rich_27 : decode cX9_rich 27 = .ok (.iload_n 3, 1) := zq_0 zo_29 zkX9_rich_0 27 rfl rfl
theorem dX9_rich_28 : decode cX9_rich 28 = .ok (.iload 4, 2) := zq_1 zo_21 zkX9_rich_0 28 rfl rfl 4 rfl
theorem dX9_rich_30 : decode cX9_rich 30 = .ok (.invokevirtual 289, 3) := zq_2 zo_182 zkX9_rich_0 30 rfl rfl 1 33 rfl rfl _ rfl
theorem zkX9_rich_32 : zqc cX9_rich 32 [33, 167, 0, 12, 42, 180, 0, 34, 25, 6, 182, 1, 37, 172] := zq_of 14 (by decide +kernel)
theorem dX9_rich_33 : decode cX9_rich 33 = .ok (.goto 12, 3) := zq_2s zo_167 zkX9_rich_32 1 rfl rfl 0 12 rfl rfl _ (by decide +kernel)
theorem dX9_rich_36 : decode cX9_rich 36 = .ok (.aload_n 0, 1) := zq_0 zo_42 zkX9_rich_32 4 rfl rfl
theorem dX9_rich_37 : decode cX9_rich 37 = .ok (.getfield 34, 3) := zq_2 zo_180 zkX9_rich_32 5 rfl rfl 0 34 rfl rfl _ rfl
theorem dX9_rich_40 : decode cX9_rich 40 = .ok (.aload 6, 2) := zq_1 zo_25 zkX9_rich_32 8 rfl rfl 6 rfl
theorem dX9_rich_42 : decode cX9_rich 42 = .ok (.invokevirtual 293, 3) := zq_2 zo_182 zkX9_rich_32 10 rfl rfl 1 37 rfl rfl _ rfl
theorem dX9_rich_45 : decode cX9_rich 45 = .ok (.ireturn, 1) := zq_0 zo_172 zkX9_rich_32 13 rfl rfl
theorem zkX9_vote_0 : zqc cX9_vote 0 [42, 180, 0, 12, 27, 182, 0, 121, 58, 5, 25, 5, 198, 0, 18, 25, 5, 180, 0, 128, 153, 0, 10, 29, 184, 0, 254, 154, 0, 5, 2, 172, 42, 25] := zq_of 34 (by decide +kernel)
theorem dX9_vote_0 : decode cX9_vote 0 = .ok (.aload_n 0, 1) := zq_0 zo_42 zkX9_vote_0 0 rfl rfl
theorem dX9_vote_1 : decode cX9_vote 1 = .ok (.getfield 12, 3) := zq_2 zo_180 zkX9_vote_0 1 rfl rfl 0 12 rfl rfl _ rfl
theorem dX9_vote_4 : decode cX9_vote 4 = .ok (.iload_n 1, 1) := zq_0 zo_27 zkX9_vote_0 4 rfl rfl
theorem dX9_vote_5 : decode cX9_vote 5 = .ok (.invokevirtual 121, 3) := zq_2 zo_182 zkX9_vote_0 5 rfl rfl 0 121 rfl rfl _ rfl
theorem dX9_vote_8 : decode cX9_vote 8 = .ok (.astore 5, 2) := zq_1 zo_58 zkX9_vote_0 8 rfl rfl 5 rfl
theorem dX9_vote_10 : decode cX9_vote 10 = .ok (.aload 5, 2) := zq_1 zo_25 zkX9_vote_0 10 rfl rfl 5 rfl
theorem dX9_vote_12 : decode cX9_vote 12 = .ok (.ifnull 18, 3) := zq_2s zo_198 zkX9_vote_0 12 rfl rfl 0 18 rfl rfl _ (by decide +kernel)
theorem dX9_vote_15 : decode cX9_vote 15 = .ok (.aload 5, 2) := zq_1 zo_25 zkX9_vote_0 15 rfl rfl 5 rfl
theorem dX9_vote_17 : decode cX9_vote 17 = .ok (.getfield 128, 3) := zq_2 zo_180 zkX9_vote_0 17 rfl rfl 0 128 rfl rfl _ rfl
theorem dX9_vote_20 : decode cX9_vote 20 = .ok (.ifCond .eq 10, 3) := zq_2s zo_153 zkX9_vote_0 20 rfl rfl 0 10 rfl rfl _ (by decide +kernel)
theorem dX9_vote_23 : decode cX9_vote 23 = .ok (.iload_n 3, 1) := zq_0 zo_29 zkX9_vote_0 23 rfl rfl
theorem dX9_vote_24 : decode cX9_vote 24 = .ok (.invokestatic 254, 3) := zq_2 zo_184 zkX9_vote_0 24 rfl rfl 0 254 rfl rfl _ rfl
theorem dX9_vote_27 : decode cX9_vote 27 = .ok (.ifCond .ne 5, 3) := zq_2s zo_154 zkX9_vote_0 27 rfl rfl 0 5 rfl rfl _ (by decide +kernel)
theorem dX9_vote_30 : decode cX9_vote 30 = .ok (.iconst (-1), 1) := zq_0 zo_2 zkX9_vote_0 30 rfl rfl
theorem dX9_vote_31 : decode cX9_vote 31 = .ok (.ireturn, 1) := zq_0 zo_172 zkX9_vote_0 31 rfl rfl
theorem zkX9_vote_32 : zqc cX9_vote 32 [42, 25, 5, 28, 29, 182, 1, 40, 3, 54, 6, 2, 54, 7, 3, 54, 8, 21, 8, 7, 162, 0, 34, 42, 25, 5, 21, 8, 182, 1, 44, 54, 9, 21] := zq_of 34 (by decide +kernel)
theorem dX9_vote_32 : decode cX9_vote 32 = .ok (.aload_n 0, 1) := zq_0 zo_42 zkX9_vote_32 0 rfl rfl
theorem dX9_vote_33 : decode cX9_vote 33 = .ok (.aload 5, 2) := zq_1 zo_25 zkX9_vote_32 1 rfl rfl 5 rfl
theorem dX9_vote_35 : decode cX9_vote 35 = .ok (.iload_n 2, 1) := zq_0 zo_28 zkX9_vote_32 3 rfl rfl
theorem dX9_vote_36 : decode cX9_vote 36 = .ok (.iload_n 3, 1) := zq_0 zo_29 zkX9_vote_32 4 rfl rfl
theorem dX9_vote_37 : decode cX9_vote 37 = .ok (.invokevirtual 296, 3) := zq_2 zo_182 zkX9_vote_32 5 rfl rfl 1 40 rfl rfl _ rfl
theorem dX9_vote_40 : decode cX9_vote 40 = .ok (.iconst 0, 1) := zq_0 zo_3 zkX9_vote_32 8 rfl rfl
theorem dX9_vote_41 : decode cX9_vote 41 = .ok (.istore 6, 2) := zq_1 zo_54 zkX9_vote_32 9 rfl rfl 6 rfl
theorem dX9_vote_43 : decode cX9_vote 43 = .ok (.iconst (-1), 1) := zq_0 zo_2 zkX9_vote_32 11 rfl rfl
theorem dX9_vote_44 : decode cX9_vote 44 = .ok (.istore 7, 2) := zq_1 zo_54 zkX9_vote_32 12 rfl rfl 7 rfl
theorem dX9_vote_46 : decode cX9_vote 46 = .ok (.iconst 0, 1) := zq_0 zo_3 zkX9_vote_32 14 rfl rfl
theorem dX9_vote_47 : decode cX9_vote 47 = .ok (.istore 8, 2) := zq_1 zo_54 zkX9_vote_32 15 rfl rfl 8 rfl
theorem dX9_vote_49 : decode cX9_vote 49 = .ok (.iload 8, 2) := zq_1 zo_21 zkX9_vote_32 17 rfl rfl 8 rfl
theorem dX9_vote_51 : decode cX9_vote 51 = .ok (.iconst 4, 1) := zq_0 zo_7 zkX9_vote_32 19 rfl rfl
theorem dX9_vote_52 : decode cX9_vote 52 = .ok (.if_icmp .ge 34, 3) := zq_2s zo_162 zkX9_vote_32 20 rfl rfl 0 34 rfl rfl _ (by decide +kernel)
theorem dX9_vote_55 : decode cX9_vote 55 = .ok (.aload_n 0, 1) := zq_0 zo_42 zkX9_vote_32 23 rfl rfl
theorem dX9_vote_56 : decode cX9_vote 56 = .ok (.aload 5, 2) := zq_1 zo_25 zkX9_vote_32 24 rfl rfl 5 rfl
theorem dX9_vote_58 : decode cX9_vote 58 = .ok (.iload 8, 2) := zq_1 zo_21 zkX9_vote_32 26 rfl rfl 8 rfl
theorem dX9_vote_60 : decode cX9_vote 60 = .ok (.invokevirtual 300, 3) := zq_2 zo_182 zkX9_vote_32 28 rfl rfl 1 44 rfl rfl _ rfl
theorem dX9_vote_63 : decode cX9_vote 63 = .ok (.istore 9, 2) := zq_1 zo_54 zkX9_vote_32 31 rfl rfl 9 rfl
theorem zkX9_vote_64 : zqc cX9_vote 64 [9, 21, 9, 21, 7, 164, 0, 11, 21, 8, 54, 6, 21, 9, 54, 7, 132, 8, 1, 167, 255, 222, 21, 4, 153, 0, 8, 21, 7, 167, 0, 5, 21, 6] := zq_of 34 (by decide +kernel)
theorem dX9_vote_65 : decode cX9_vote 65 = .ok (.iload 9, 2) := zq_1 zo_21 zkX9_vote_64 1 rfl rfl 9 rfl
theorem dX9_vote_67 : decode cX9_vote 67 = .ok (.iload 7, 2) := zq_1 zo_21 zkX9_vote_64 3 rfl rfl 7 rfl
theorem dX9_vote_69 : decode cX9_vote 69 = .ok (.if_icmp .le 11, 3) := zq_2s zo_164 zkX9_vote_64 5 rfl rfl 0 11 rfl rfl _ (by decide +kernel)
theorem dX9_vote_72 : decode cX9_vote 72 = .ok (.iload 8, 2) := zq_1 zo_21 zkX9_vote_64 8 rfl rfl 8 rfl
theorem dX9_vote_74 : decode cX9_vote 74 = .ok (.istore 6, 2) := zq_1 zo_54 zkX9_vote_64 10 rfl rfl 6 rfl
theorem dX9_vote_76 : decode cX9_vote 76 = .ok (.iload 9, 2) := zq_1 zo_21 zkX9_vote_64 12 rfl rfl 9 rfl
theorem dX9_vote_78 : decode cX9_vote 78 = .ok (.istore 7, 2) := zq_1 zo_54 zkX9_vote_64 14 rfl rfl 7 rfl
theorem dX9_vote_80 : decode cX9_vote 80 = .ok (.iinc 8 1, 3) := zq_ii zo_132 zkX9_vote_64 16 rfl rfl 8 1 rfl rfl _ (by decide +kernel)
theorem dX9_vote_83 : decode cX9_vote 83 = .ok (.goto (-34), 3) := zq_2s zo_167 zkX9_vote_64 19 rfl rfl 255 222 rfl rfl _ (by decide +kernel)
theorem dX9_vote_86 : decode cX9_vote 86 = .ok (.iload 4, 2) := zq_1 zo_21 zkX9_vote_64 22 rfl rfl 4 rfl
theorem dX9_vote_88 : decode cX9_vote 88 = .ok (.ifCond .eq 8, 3) := zq_2s zo_153 zkX9_vote_64 24 rfl rfl 0 8 rfl rfl _ (by decide +kernel)
theorem dX9_vote_91 : decode cX9_vote 91 = .ok (.iload 7, 2) := zq_1 zo_21 zkX9_vote_64 27 rfl rfl 7 rfl
theorem dX9_vote_93 : decode cX9_vote 93 = .ok (.goto 5, 3) := zq_2s zo_167 zkX9_vote_64 29 rfl rfl 0 5 rfl rfl _ (by decide +kernel)
theorem zkX9_vote_96 : zqc cX9_vote 96 [21, 6, 172] := zq_of 3 (by decide +kernel)
theorem dX9_vote_96 : decode cX9_vote 96 = .ok (.iload 6, 2) := zq_1 zo_21 zkX9_vote_96 0 rfl rfl 6 rfl
theorem dX9_vote_98 : decode cX9_vote 98 = .ok (.ireturn, 1) := zq_0 zo_172 zkX9_vote_96 2 rfl rfl
theorem zkX9_bid_0 : zqc cX9_bid 0 [42, 180, 0, 12, 27, 182, 0, 121, 58, 5, 25, 5, 198, 0, 19, 28, 184, 0, 254, 153, 0, 12, 25, 5, 29, 182, 0, 174, 154, 0, 5, 2, 172, 42] := zq_of 34 (by decide +kernel)
theorem dX9_bid_0 : decode cX9_bid 0 = .ok (.aload_n 0, 1) := zq_0 zo_42 zkX9_bid_0 0 rfl rfl
theorem dX9_bid_1 : decode cX9_bid 1 = .ok (.getfield 12, 3) := zq_2 zo_180 zkX9_bid_0 1 rfl rfl 0 12 rfl rfl _ rfl
theorem dX9_bid_4 : decode cX9_bid 4 = .ok (.iload_n 1, 1) := zq_0 zo_27 zkX9_bid_0 4 rfl rfl
theorem dX9_bid_5 : decode cX9_bid 5 = .ok (.invokevirtual 121, 3) := zq_2 zo_182 zkX9_bid_0 5 rfl rfl 0 121 rfl rfl _ rfl
theorem dX9_bid_8 : decode cX9_bid 8 = .ok (.astore 5, 2) := zq_1 zo_58 zkX9_bid_0 8 rfl rfl 5 rfl
theorem dX9_bid_10 : decode cX9_bid 10 = .ok (.aload 5, 2) := zq_1 zo_25 zkX9_bid_0 10 rfl rfl 5 rfl
theorem dX9_bid_12 : decode cX9_bid 12 = .ok (.ifnull 19, 3) := zq_2s zo_198 zkX9_bid_0 12 rfl rfl 0 19 rfl rfl _ (by decide +kernel)
theorem dX9_bid_15 : decode cX9_bid 15 = .ok (.iload_n 2, 1) := zq_0 zo_28 zkX9_bid_0 15 rfl rfl
theorem dX9_bid_16 : decode cX9_bid 16 = .ok (.invokestatic 254, 3) := zq_2 zo_184 zkX9_bid_0 16 rfl rfl 0 254 rfl rfl _ rfl
theorem dX9_bid_19 : decode cX9_bid 19 = .ok (.ifCond .eq 12, 3) := zq_2s zo_153 zkX9_bid_0 19 rfl rfl 0 12 rfl rfl _ (by decide +kernel)
theorem dX9_bid_22 : decode cX9_bid 22 = .ok (.aload 5, 2) := zq_1 zo_25 zkX9_bid_0 22 rfl rfl 5 rfl
theorem dX9_bid_24 : decode cX9_bid 24 = .ok (.iload_n 3, 1) := zq_0 zo_29 zkX9_bid_0 24 rfl rfl
theorem dX9_bid_25 : decode cX9_bid 25 = .ok (.invokevirtual 174, 3) := zq_2 zo_182 zkX9_bid_0 25 rfl rfl 0 174 rfl rfl _ rfl
theorem dX9_bid_28 : decode cX9_bid 28 = .ok (.ifCond .ne 5, 3) := zq_2s zo_154 zkX9_bid_0 28 rfl rfl 0 5 rfl rfl _ (by decide +kernel)
theorem dX9_bid_31 : decode cX9_bid 31 = .ok (.iconst (-1), 1) := zq_0 zo_2 zkX9_bid_0 31 rfl rfl
theorem zkX9_bid_32 : zqc cX9_bid 32 [172, 42, 180, 0, 69, 25, 5, 182, 1, 47, 21, 4, 170, 0, 0, 0, 0, 0, 0, 83, 0, 0, 0, 0, 0, 0, 0, 2, 0, 0, 0, 28, 0, 0] := zq_of 34 (by decide +kernel)
theorem dX9_bid_32 : decode cX9_bid 32 = .ok (.ireturn, 1) := zq_0 zo_172 zkX9_bid_32 0 rfl rfl
theorem dX9_bid_33 : decode cX9_bid 33 = .ok (.aload_n 0, 1) := zq_0 zo_42 zkX9_bid_32 1 rfl rfl
theorem dX9_bid_34 : decode cX9_bid 34 = .ok (.getfield 69, 3) := zq_2 zo_180 zkX9_bid_32 2 rfl rfl 0 69 rfl rfl _ rfl
theorem dX9_bid_37 : decode cX9_bid 37 = .ok (.aload 5, 2) := zq_1 zo_25 zkX9_bid_32 5 rfl rfl 5 rfl
theorem dX9_bid_39 : decode cX9_bid 39 = .ok (.invokevirtual 303, 3) := zq_2 zo_182 zkX9_bid_32 7 rfl rfl 1 47 rfl rfl _ rfl
theorem dX9_bid_42 : decode cX9_bid 42 = .ok (.iload 4, 2) := zq_1 zo_21 zkX9_bid_32 10 rfl rfl 4 rfl
theorem dX9_bid_44 : decode cX9_bid 44 = .ok (.tableswitch 83 0 2 #[28, 46, 64], 28) := by decide +kernel
theorem zkX9_bid_64 : zqc cX9_bid 64 [0, 0, 0, 46, 0, 0, 0, 64, 42, 28, 29, 6, 42, 180, 0, 69, 180, 0, 192, 3, 16, 9, 182, 1, 50, 172, 42, 28, 29, 3, 42, 180, 0, 69] := zq_of 34 (by decide +kernel)
theorem dX9_bid_72 : decode cX9_bid 72 = .ok (.aload_n 0, 1) := zq_0 zo_42 zkX9_bid_64 8 rfl rfl
theorem dX9_bid_73 : decode cX9_bid 73 = .ok (.iload_n 2, 1) := zq_0 zo_28 zkX9_bid_64 9 rfl rfl
theorem dX9_bid_74 : decode cX9_bid 74 = .ok (.iload_n 3, 1) := zq_0 zo_29 zkX9_bid_64 10 rfl rfl
theorem dX9_bid_75 : decode cX9_bid 75 = .ok (.iconst 3, 1) := zq_0 zo_6 zkX9_bid_64 11 rfl rfl
theorem dX9_bid_76 : decode cX9_bid 76 = .ok (.aload_n 0, 1) := zq_0 zo_42 zkX9_bid_64 12 rfl rfl
theorem dX9_bid_77 : decode cX9_bid 77 = .ok (.getfield 69, 3) := zq_2 zo_180 zkX9_bid_64 13 rfl rfl 0 69 rfl rfl _ rfl
theorem dX9_bid_80 : decode cX9_bid 80 = .ok (.getfield 192, 3) := zq_2 zo_180 zkX9_bid_64 16 rfl rfl 0 192 rfl rfl _ rfl
theorem dX9_bid_83 : decode cX9_bid 83 = .ok (.iconst 0, 1) := zq_0 zo_3 zkX9_bid_64 19 rfl rfl
theorem dX9_bid_84 : decode cX9_bid 84 = .ok (.bipush 9, 2) := zq_1s zo_16 zkX9_bid_64 20 rfl rfl 9 rfl _ (by decide +kernel)
theorem dX9_bid_86 : decode cX9_bid 86 = .ok (.invokevirtual 306, 3) := zq_2 zo_182 zkX9_bid_64 22 rfl rfl 1 50 rfl rfl _ rfl
theorem dX9_bid_89 : decode cX9_bid 89 = .ok (.ireturn, 1) := zq_0 zo_172 zkX9_bid_64 25 rfl rfl
theorem dX9_bid_90 : decode cX9_bid 90 = .ok (.aload_n 0, 1) := zq_0 zo_42 zkX9_bid_64 26 rfl rfl
theorem dX9_bid_91 : decode cX9_bid 91 = .ok (.iload_n 2, 1) := zq_0 zo_28 zkX9_bid_64 27 rfl rfl
theorem dX9_bid_92 : decode cX9_bid 92 = .ok (.iload_n 3, 1) := zq_0 zo_29 zkX9_bid_64 28 rfl rfl
theorem dX9_bid_93 : decode cX9_bid 93 = .ok (.iconst 0, 1) := zq_0 zo_3 zkX9_bid_64 29 rfl rfl
theorem dX9_bid_94 : decode cX9_bid 94 = .ok (.aload_n 0, 1) := zq_0 zo_42 zkX9_bid_64 30 rfl rfl
theorem dX9_bid_95 : decode cX9_bid 95 = .ok (.getfield 69, 3) := zq_2 zo_180 zkX9_bid_64 31 rfl rfl 0 69 rfl rfl _ rfl
theorem zkX9_bid_96 : zqc cX9_bid 96 [0, 69, 180, 0, 183, 4, 16, 60, 182, 1, 50, 172, 42, 28, 29, 3, 42, 180, 0, 69, 180, 0, 189, 3, 17, 0, 200, 182, 1, 50, 172, 2, 172] := zq_of 33 (by decide +kernel)
theorem dX9_bid_98 : decode cX9_bid 98 = .ok (.getfield 183, 3) := zq_2 zo_180 zkX9_bid_96 2 rfl rfl 0 183 rfl rfl _ rfl
theorem dX9_bid_101 : decode cX9_bid 101 = .ok (.iconst 1, 1) := zq_0 zo_4 zkX9_bid_96 5 rfl rfl
theorem dX9_bid_102 : decode cX9_bid 102 = .ok (.bipush 60, 2) := zq_1s zo_16 zkX9_bid_96 6 rfl rfl 60 rfl _ (by decide +kernel)
theorem dX9_bid_104 : decode cX9_bid 104 = .ok (.invokevirtual 306, 3) := zq_2 zo_182 zkX9_bid_96 8 rfl rfl 1 50 rfl rfl _ rfl
theorem dX9_bid_107 : decode cX9_bid 107 = .ok (.ireturn, 1) := zq_0 zo_172 zkX9_bid_96 11 rfl rfl
theorem dX9_bid_108 : decode cX9_bid 108 = .ok (.aload_n 0, 1) := zq_0 zo_42 zkX9_bid_96 12 rfl rfl
theorem dX9_bid_109 : decode cX9_bid 109 = .ok (.iload_n 2, 1) := zq_0 zo_28 zkX9_bid_96 13 rfl rfl
theorem dX9_bid_110 : decode cX9_bid 110 = .ok (.iload_n 3, 1) := zq_0 zo_29 zkX9_bid_96 14 rfl rfl
theorem dX9_bid_111 : decode cX9_bid 111 = .ok (.iconst 0, 1) := zq_0 zo_3 zkX9_bid_96 15 rfl rfl
theorem dX9_bid_112 : decode cX9_bid 112 = .ok (.aload_n 0, 1) := zq_0 zo_42 zkX9_bid_96 16 rfl rfl
theorem dX9_bid_113 : decode cX9_bid 113 = .ok (.getfield 69, 3) := zq_2 zo_180 zkX9_bid_96 17 rfl rfl 0 69 rfl rfl _ rfl
theorem dX9_bid_116 : decode cX9_bid 116 = .ok (.getfield 189, 3) := zq_2 zo_180 zkX9_bid_96 20 rfl rfl 0 189 rfl rfl _ rfl
theorem dX9_bid_119 : decode cX9_bid 119 = .ok (.iconst 0, 1) := zq_0 zo_3 zkX9_bid_96 23 rfl rfl
theorem dX9_bid_120 : decode cX9_bid 120 = .ok (.sipush 200, 3) := zq_2s zo_17 zkX9_bid_96 24 rfl rfl 0 200 rfl rfl _ (by decide +kernel)
theorem dX9_bid_123 : decode cX9_bid 123 = .ok (.invokevirtual 306, 3) := zq_2 zo_182 zkX9_bid_96 27 rfl rfl 1 50 rfl rfl _ rfl
theorem dX9_bid_126 : decode cX9_bid 126 = .ok (.ireturn, 1) := zq_0 zo_172 zkX9_bid_96 30 rfl rfl
theorem dX9_bid_127 : decode cX9_bid 127 = .ok (.iconst (-1), 1) := zq_0 zo_2 zkX9_bid_96 31 rfl rfl
theorem zkX9_bid_128 : zqc cX9_bid 128 [172] := zq_of 1 (by decide +kernel)
theorem dX9_bid_128 : decode cX9_bid 128 = .ok (.ireturn, 1) := zq_0 zo_172 zkX9_bid_128 0 rfl rfl
theorem zkX9_purse_0 : zqc cX9_purse 0 [42, 180, 0, 12, 27, 182, 0, 121, 58, 5, 25, 5, 198, 0, 21, 28, 184, 0, 254, 153, 0, 14, 29, 155, 0, 10, 29, 17, 3, 231, 164, 0, 5, 2] := zq_of 34 (by decide +kernel)
theorem dX9_purse_0 : decode cX9_purse 0 = .ok (.aload_n 0, 1) := zq_0 zo_42 zkX9_purse_0 0 rfl rfl
theorem dX9_purse_1 : decode cX9_purse 1 = .ok (.getfield 12, 3) := zq_2 zo_180 zkX9_purse_0 1 rfl rfl 0 12 rfl rfl _ rfl
theorem dX9_purse_4 : decode cX9_purse 4 = .ok (.iload_n 1, 1) := zq_0 zo_27 zkX9_purse_0 4 rfl rfl
theorem dX9_purse_5 : decode cX9_purse 5 = .ok (.invokevirtual 121, 3) := zq_2 zo_182 zkX9_purse_0 5 rfl rfl 0 121 rfl rfl _ rfl
theorem dX9_purse_8 : decode cX9_purse 8 = .ok (.astore 5, 2) := zq_1 zo_58 zkX9_purse_0 8 rfl rfl 5 rfl
theorem dX9_purse_10 : decode cX9_purse 10 = .ok (.aload 5, 2) := zq_1 zo_25 zkX9_purse_0 10 rfl rfl 5 rfl
theorem dX9_purse_12 : decode cX9_purse 12 = .ok (.ifnull 21, 3) := zq_2s zo_198 zkX9_purse_0 12 rfl rfl 0 21 rfl rfl _ (by decide +kernel)
theorem dX9_purse_15 : decode cX9_purse 15 = .ok (.iload_n 2, 1) := zq_0 zo_28 zkX9_purse_0 15 rfl rfl
theorem dX9_purse_16 : decode cX9_purse 16 = .ok (.invokestatic 254, 3) := zq_2 zo_184 zkX9_purse_0 16 rfl rfl 0 254 rfl rfl _ rfl
theorem dX9_purse_19 : decode cX9_purse 19 = .ok (.ifCond .eq 14, 3) := zq_2s zo_153 zkX9_purse_0 19 rfl rfl 0 14 rfl rfl _ (by decide +kernel)
theorem dX9_purse_22 : decode cX9_purse 22 = .ok (.iload_n 3, 1) := zq_0 zo_29 zkX9_purse_0 22 rfl rfl
theorem dX9_purse_23 : decode cX9_purse 23 = .ok (.ifCond .lt 10, 3) := zq_2s zo_155 zkX9_purse_0 23 rfl rfl 0 10 rfl rfl _ (by decide +kernel)
theorem dX9_purse_26 : decode cX9_purse 26 = .ok (.iload_n 3, 1) := zq_0 zo_29 zkX9_purse_0 26 rfl rfl
theorem dX9_purse_27 : decode cX9_purse 27 = .ok (.sipush 999, 3) := zq_2s zo_17 zkX9_purse_0 27 rfl rfl 3 231 rfl rfl _ (by decide +kernel)
theorem dX9_purse_30 : decode cX9_purse 30 = .ok (.if_icmp .le 5, 3) := zq_2s zo_164 zkX9_purse_0 30 rfl rfl 0 5 rfl rfl _ (by decide +kernel)
theorem zkX9_purse_32 : zqc cX9_purse 32 [5, 2, 172, 21, 4, 155, 0, 9, 21, 4, 5, 164, 0, 5, 2, 172, 42, 180, 0, 62, 25, 5, 28, 29, 182, 1, 54, 42, 180, 0, 62, 29, 182, 1] := zq_of 34 (by decide +kernel)
theorem dX9_purse_33 : decode cX9_purse 33 = .ok (.iconst (-1), 1) := zq_0 zo_2 zkX9_purse_32 1 rfl rfl
theorem dX9_purse_34 : decode cX9_purse 34 = .ok (.ireturn, 1) := zq_0 zo_172 zkX9_purse_32 2 rfl rfl
theorem dX9_purse_35 : decode cX9_purse 35 = .ok (.iload 4, 2) := zq_1 zo_21 zkX9_purse_32 3 rfl rfl 4 rfl
theorem dX9_purse_37 : decode cX9_purse 37 = .ok (.ifCond .lt 9, 3) := zq_2s zo_155 zkX9_purse_32 5 rfl rfl 0 9 rfl rfl _ (by decide +kernel)
theorem dX9_purse_40 : decode cX9_purse 40 = .ok (.iload 4, 2) := zq_1 zo_21 zkX9_purse_32 8 rfl rfl 4 rfl
theorem dX9_purse_42 : decode cX9_purse 42 = .ok (.iconst 2, 1) := zq_0 zo_5 zkX9_purse_32 10 rfl rfl
theorem dX9_purse_43 : decode cX9_purse 43 = .ok (.if_icmp .le 5, 3) := zq_2s zo_164 zkX9_purse_32 11 rfl rfl 0 5 rfl rfl _ (by decide +kernel)
theorem dX9_purse_46 : decode cX9_purse 46 = .ok (.iconst (-1), 1) := zq_0 zo_2 zkX9_purse_32 14 rfl rfl
theorem dX9_purse_47 : decode cX9_purse 47 = .ok (.ireturn, 1) := zq_0 zo_172 zkX9_purse_32 15 rfl rfl
theorem dX9_purse_48 : decode cX9_purse 48 = .ok (.aload_n 0, 1) := zq_0 zo_42 zkX9_purse_32 16 rfl rfl
theorem dX9_purse_49 : decode cX9_purse 49 = .ok (.getfield 62, 3) := zq_2 zo_180 zkX9_purse_32 17 rfl rfl 0 62 rfl rfl _ rfl
theorem dX9_purse_52 : decode cX9_purse 52 = .ok (.aload 5, 2) := zq_1 zo_25 zkX9_purse_32 20 rfl rfl 5 rfl
theorem dX9_purse_54 : decode cX9_purse 54 = .ok (.iload_n 2, 1) := zq_0 zo_28 zkX9_purse_32 22 rfl rfl
theorem dX9_purse_55 : decode cX9_purse 55 = .ok (.iload_n 3, 1) := zq_0 zo_29 zkX9_purse_32 23 rfl rfl
theorem dX9_purse_56 : decode cX9_purse 56 = .ok (.invokevirtual 310, 3) := zq_2 zo_182 zkX9_purse_32 24 rfl rfl 1 54 rfl rfl _ rfl
theorem dX9_purse_59 : decode cX9_purse 59 = .ok (.aload_n 0, 1) := zq_0 zo_42 zkX9_purse_32 27 rfl rfl
theorem dX9_purse_60 : decode cX9_purse 60 = .ok (.getfield 62, 3) := zq_2 zo_180 zkX9_purse_32 28 rfl rfl 0 62 rfl rfl _ rfl
theorem dX9_purse_63 : decode cX9_purse 63 = .ok (.iload_n 3, 1) := zq_0 zo_29 zkX9_purse_32 31 rfl rfl
theorem zkX9_purse_64 : zqc cX9_purse 64 [182, 1, 57, 54, 6, 21, 4, 154, 0, 14, 42, 180, 0, 62, 180, 1, 60, 21, 6, 46, 172, 21, 4, 4, 160, 0, 16, 42, 180, 0, 62, 180, 1, 61] := zq_of 34 (by decide +kernel)
theorem dX9_purse_64 : decode cX9_purse 64 = .ok (.invokevirtual 313, 3) := zq_2 zo_182 zkX9_purse_64 0 rfl rfl 1 57 rfl rfl _ rfl
theorem dX9_purse_67 : decode cX9_purse 67 = .ok (.istore 6, 2) := zq_1 zo_54 zkX9_purse_64 3 rfl rfl 6 rfl
theorem dX9_purse_69 : decode cX9_purse 69 = .ok (.iload 4, 2) := zq_1 zo_21 zkX9_purse_64 5 rfl rfl 4 rfl
theorem dX9_purse_71 : decode cX9_purse 71 = .ok (.ifCond .ne 14, 3) := zq_2s zo_154 zkX9_purse_64 7 rfl rfl 0 14 rfl rfl _ (by decide +kernel)
theorem dX9_purse_74 : decode cX9_purse 74 = .ok (.aload_n 0, 1) := zq_0 zo_42 zkX9_purse_64 10 rfl rfl
theorem dX9_purse_75 : decode cX9_purse 75 = .ok (.getfield 62, 3) := zq_2 zo_180 zkX9_purse_64 11 rfl rfl 0 62 rfl rfl _ rfl
theorem dX9_purse_78 : decode cX9_purse 78 = .ok (.getfield 316, 3) := zq_2 zo_180 zkX9_purse_64 14 rfl rfl 1 60 rfl rfl _ rfl
theorem dX9_purse_81 : decode cX9_purse 81 = .ok (.iload 6, 2) := zq_1 zo_21 zkX9_purse_64 17 rfl rfl 6 rfl
theorem dX9_purse_83 : decode cX9_purse 83 = .ok (.iaload, 1) := zq_0 zo_46 zkX9_purse_64 19 rfl rfl
theorem dX9_purse_84 : decode cX9_purse 84 = .ok (.ireturn, 1) := zq_0 zo_172 zkX9_purse_64 20 rfl rfl
theorem dX9_purse_85 : decode cX9_purse 85 = .ok (.iload 4, 2) := zq_1 zo_21 zkX9_purse_64 21 rfl rfl 4 rfl
theorem dX9_purse_87 : decode cX9_purse 87 = .ok (.iconst 1, 1) := zq_0 zo_4 zkX9_purse_64 23 rfl rfl
theorem dX9_purse_88 : decode cX9_purse 88 = .ok (.if_icmp .ne 16, 3) := zq_2s zo_160 zkX9_purse_64 24 rfl rfl 0 16 rfl rfl _ (by decide +kernel)
theorem dX9_purse_91 : decode cX9_purse 91 = .ok (.aload_n 0, 1) := zq_0 zo_42 zkX9_purse_64 27 rfl rfl
theorem dX9_purse_92 : decode cX9_purse 92 = .ok (.getfield 62, 3) := zq_2 zo_180 zkX9_purse_64 28 rfl rfl 0 62 rfl rfl _ rfl
theorem dX9_purse_95 : decode cX9_purse 95 = .ok (.getfield 317, 3) := zq_2 zo_180 zkX9_purse_64 31 rfl rfl 1 61 rfl rfl _ rfl
theorem zkX9_purse_96 : zqc cX9_purse 96 [1, 61, 21, 6, 46, 167, 0, 5, 21, 6, 172] := zq_of 11 (by decide +kernel)
theorem dX9_purse_98 : decode cX9_purse 98 = .ok (.iload 6, 2) := zq_1 zo_21 zkX9_purse_96 2 rfl rfl 6 rfl
theorem dX9_purse_100 : decode cX9_purse 100 = .ok (.iaload, 1) := zq_0 zo_46 zkX9_purse_96 4 rfl rfl
theorem dX9_purse_101 : decode cX9_purse 101 = .ok (.goto 5, 3) := zq_2s zo_167 zkX9_purse_96 5 rfl rfl 0 5 rfl rfl _ (by decide +kernel)
theorem dX9_purse_104 : decode cX9_purse 104 = .ok (.iload 6, 2) := zq_1 zo_21 zkX9_purse_96 8 rfl rfl 6 rfl
theorem dX9_purse_106 : decode cX9_purse 106 = .ok (.ireturn, 1) := zq_0 zo_172 zkX9_purse_96 10 rfl rfl
theorem zkX9_shells_0 : zqc cX9_shells 0 [42, 180, 0, 12, 27, 182, 0, 121, 58, 6, 25, 6, 198, 0, 21, 28, 184, 0, 254, 153, 0, 14, 21, 5, 155, 0, 9, 21, 5, 5, 164, 0, 5, 2] := zq_of 34 (by decide +kernel)
theorem dX9_shells_0 : decode cX9_shells 0 = .ok (.aload_n 0, 1) := zq_0 zo_42 zkX9_shells_0 0 rfl rfl
theorem dX9_shells_1 : decode cX9_shells 1 = .ok (.getfield 12, 3) := zq_2 zo_180 zkX9_shells_0 1 rfl rfl 0 12 rfl rfl _ rfl
theorem dX9_shells_4 : decode cX9_shells 4 = .ok (.iload_n 1, 1) := zq_0 zo_27 zkX9_shells_0 4 rfl rfl
theorem dX9_shells_5 : decode cX9_shells 5 = .ok (.invokevirtual 121, 3) := zq_2 zo_182 zkX9_shells_0 5 rfl rfl 0 121 rfl rfl _ rfl
theorem dX9_shells_8 : decode cX9_shells 8 = .ok (.astore 6, 2) := zq_1 zo_58 zkX9_shells_0 8 rfl rfl 6 rfl
theorem dX9_shells_10 : decode cX9_shells 10 = .ok (.aload 6, 2) := zq_1 zo_25 zkX9_shells_0 10 rfl rfl 6 rfl
theorem dX9_shells_12 : decode cX9_shells 12 = .ok (.ifnull 21, 3) := zq_2s zo_198 zkX9_shells_0 12 rfl rfl 0 21 rfl rfl _ (by decide +kernel)
theorem dX9_shells_15 : decode cX9_shells 15 = .ok (.iload_n 2, 1) := zq_0 zo_28 zkX9_shells_0 15 rfl rfl
theorem dX9_shells_16 : decode cX9_shells 16 = .ok (.invokestatic 254, 3) := zq_2 zo_184 zkX9_shells_0 16 rfl rfl 0 254 rfl rfl _ rfl
theorem dX9_shells_19 : decode cX9_shells 19 = .ok (.ifCond .eq 14, 3) := zq_2s zo_153 zkX9_shells_0 19 rfl rfl 0 14 rfl rfl _ (by decide +kernel)
theorem dX9_shells_22 : decode cX9_shells 22 = .ok (.iload 5, 2) := zq_1 zo_21 zkX9_shells_0 22 rfl rfl 5 rfl
theorem dX9_shells_24 : decode cX9_shells 24 = .ok (.ifCond .lt 9, 3) := zq_2s zo_155 zkX9_shells_0 24 rfl rfl 0 9 rfl rfl _ (by decide +kernel)
theorem dX9_shells_27 : decode cX9_shells 27 = .ok (.iload 5, 2) := zq_1 zo_21 zkX9_shells_0 27 rfl rfl 5 rfl
theorem dX9_shells_29 : decode cX9_shells 29 = .ok (.iconst 2, 1) := zq_0 zo_5 zkX9_shells_0 29 rfl rfl
theorem dX9_shells_30 : decode cX9_shells 30 = .ok (.if_icmp .le 5, 3) := zq_2s zo_164 zkX9_shells_0 30 rfl rfl 0 5 rfl rfl _ (by decide +kernel)
theorem zkX9_shells_32 : zqc cX9_shells 32 [5, 2, 172, 42, 180, 0, 55, 182, 1, 63, 3, 54, 7, 21, 7, 25, 6, 180, 0, 125, 4, 100, 162, 0, 42, 25, 6, 21, 7, 28, 182, 0, 153, 54] := zq_of 34 (by decide +kernel)
theorem dX9_shells_33 : decode cX9_shells 33 = .ok (.iconst (-1), 1) := zq_0 zo_2 zkX9_shells_32 1 rfl rfl
theorem dX9_shells_34 : decode cX9_shells 34 = .ok (.ireturn, 1) := zq_0 zo_172 zkX9_shells_32 2 rfl rfl
theorem dX9_shells_35 : decode cX9_shells 35 = .ok (.aload_n 0, 1) := zq_0 zo_42 zkX9_shells_32 3 rfl rfl
theorem dX9_shells_36 : decode cX9_shells 36 = .ok (.getfield 55, 3) := zq_2 zo_180 zkX9_shells_32 4 rfl rfl 0 55 rfl rfl _ rfl
theorem dX9_shells_39 : decode cX9_shells 39 = .ok (.invokevirtual 319, 3) := zq_2 zo_182 zkX9_shells_32 7 rfl rfl 1 63 rfl rfl _ rfl
theorem dX9_shells_42 : decode cX9_shells 42 = .ok (.iconst 0, 1) := zq_0 zo_3 zkX9_shells_32 10 rfl rfl
theorem dX9_shells_43 : decode cX9_shells 43 = .ok (.istore 7, 2) := zq_1 zo_54 zkX9_shells_32 11 rfl rfl 7 rfl
theorem dX9_shells_45 : decode cX9_shells 45 = .ok (.iload 7, 2) := zq_1 zo_21 zkX9_shells_32 13 rfl rfl 7 rfl
theorem dX9_shells_47 : decode cX9_shells 47 = .ok (.aload 6, 2) := zq_1 zo_25 zkX9_shells_32 15 rfl rfl 6 rfl
theorem dX9_shells_49 : decode cX9_shells 49 = .ok (.getfield 125, 3) := zq_2 zo_180 zkX9_shells_32 17 rfl rfl 0 125 rfl rfl _ rfl
theorem dX9_shells_52 : decode cX9_shells 52 = .ok (.iconst 1, 1) := zq_0 zo_4 zkX9_shells_32 20 rfl rfl
theorem dX9_shells_53 : decode cX9_shells 53 = .ok (.isub, 1) := zq_0 zo_100 zkX9_shells_32 21 rfl rfl
theorem dX9_shells_54 : decode cX9_shells 54 = .ok (.if_icmp .ge 42, 3) := zq_2s zo_162 zkX9_shells_32 22 rfl rfl 0 42 rfl rfl _ (by decide +kernel)
theorem dX9_shells_57 : decode cX9_shells 57 = .ok (.aload 6, 2) := zq_1 zo_25 zkX9_shells_32 25 rfl rfl 6 rfl
theorem dX9_shells_59 : decode cX9_shells 59 = .ok (.iload 7, 2) := zq_1 zo_21 zkX9_shells_32 27 rfl rfl 7 rfl
theorem dX9_shells_61 : decode cX9_shells 61 = .ok (.iload_n 2, 1) := zq_0 zo_28 zkX9_shells_32 29 rfl rfl
theorem dX9_shells_62 : decode cX9_shells 62 = .ok (.invokevirtual 153, 3) := zq_2 zo_182 zkX9_shells_32 30 rfl rfl 0 153 rfl rfl _ rfl
theorem zkX9_shells_64 : zqc cX9_shells 64 [153, 54, 8, 21, 8, 158, 0, 21, 42, 180, 0, 55, 21, 7, 21, 8, 25, 6, 21, 7, 182, 0, 171, 182, 1, 66, 132, 7, 1, 167, 255, 208, 42, 180] := zq_of 34 (by decide +kernel)
theorem dX9_shells_65 : decode cX9_shells 65 = .ok (.istore 8, 2) := zq_1 zo_54 zkX9_shells_64 1 rfl rfl 8 rfl
theorem dX9_shells_67 : decode cX9_shells 67 = .ok (.iload 8, 2) := zq_1 zo_21 zkX9_shells_64 3 rfl rfl 8 rfl
theorem dX9_shells_69 : decode cX9_shells 69 = .ok (.ifCond .le 21, 3) := zq_2s zo_158 zkX9_shells_64 5 rfl rfl 0 21 rfl rfl _ (by decide +kernel)
theorem dX9_shells_72 : decode cX9_shells 72 = .ok (.aload_n 0, 1) := zq_0 zo_42 zkX9_shells_64 8 rfl rfl
theorem dX9_shells_73 : decode cX9_shells 73 = .ok (.getfield 55, 3) := zq_2 zo_180 zkX9_shells_64 9 rfl rfl 0 55 rfl rfl _ rfl
theorem dX9_shells_76 : decode cX9_shells 76 = .ok (.iload 7, 2) := zq_1 zo_21 zkX9_shells_64 12 rfl rfl 7 rfl
theorem dX9_shells_78 : decode cX9_shells 78 = .ok (.iload 8, 2) := zq_1 zo_21 zkX9_shells_64 14 rfl rfl 8 rfl
theorem dX9_shells_80 : decode cX9_shells 80 = .ok (.aload 6, 2) := zq_1 zo_25 zkX9_shells_64 16 rfl rfl 6 rfl
theorem dX9_shells_82 : decode cX9_shells 82 = .ok (.iload 7, 2) := zq_1 zo_21 zkX9_shells_64 18 rfl rfl 7 rfl
theorem dX9_shells_84 : decode cX9_shells 84 = .ok (.invokevirtual 171, 3) := zq_2 zo_182 zkX9_shells_64 20 rfl rfl 0 171 rfl rfl _ rfl
theorem dX9_shells_87 : decode cX9_shells 87 = .ok (.invokevirtual 322, 3) := zq_2 zo_182 zkX9_shells_64 23 rfl rfl 1 66 rfl rfl _ rfl
theorem dX9_shells_90 : decode cX9_shells 90 = .ok (.iinc 7 1, 3) := zq_ii zo_132 zkX9_shells_64 26 rfl rfl 7 1 rfl rfl _ (by decide +kernel)
theorem dX9_shells_93 : decode cX9_shells 93 = .ok (.goto (-48), 3) := zq_2s zo_167 zkX9_shells_64 29 rfl rfl 255 208 rfl rfl _ (by decide +kernel)
theorem zkX9_shells_96 : zqc cX9_shells 96 [42, 180, 0, 55, 29, 21, 4, 182, 1, 70, 21, 5, 154, 0, 11, 42, 180, 0, 55, 180, 1, 74, 172, 21, 5, 4, 160, 0, 13, 42, 180, 0, 55, 182] := zq_of 34 (by decide +kernel)
theorem dX9_shells_96 : decode cX9_shells 96 = .ok (.aload_n 0, 1) := zq_0 zo_42 zkX9_shells_96 0 rfl rfl
theorem dX9_shells_97 : decode cX9_shells 97 = .ok (.getfield 55, 3) := zq_2 zo_180 zkX9_shells_96 1 rfl rfl 0 55 rfl rfl _ rfl
theorem dX9_shells_100 : decode cX9_shells 100 = .ok (.iload_n 3, 1) := zq_0 zo_29 zkX9_shells_96 4 rfl rfl
theorem dX9_shells_101 : decode cX9_shells 101 = .ok (.iload 4, 2) := zq_1 zo_21 zkX9_shells_96 5 rfl rfl 4 rfl
theorem dX9_shells_103 : decode cX9_shells 103 = .ok (.invokevirtual 326, 3) := zq_2 zo_182 zkX9_shells_96 7 rfl rfl 1 70 rfl rfl _ rfl
theorem dX9_shells_106 : decode cX9_shells 106 = .ok (.iload 5, 2) := zq_1 zo_21 zkX9_shells_96 10 rfl rfl 5 rfl
theorem dX9_shells_108 : decode cX9_shells 108 = .ok (.ifCond .ne 11, 3) := zq_2s zo_154 zkX9_shells_96 12 rfl rfl 0 11 rfl rfl _ (by decide +kernel)
theorem dX9_shells_111 : decode cX9_shells 111 = .ok (.aload_n 0, 1) := zq_0 zo_42 zkX9_shells_96 15 rfl rfl
theorem dX9_shells_112 : decode cX9_shells 112 = .ok (.getfield 55, 3) := zq_2 zo_180 zkX9_shells_96 16 rfl rfl 0 55 rfl rfl _ rfl
theorem dX9_shells_115 : decode cX9_shells 115 = .ok (.getfield 330, 3) := zq_2 zo_180 zkX9_shells_96 19 rfl rfl 1 74 rfl rfl _ rfl
theorem dX9_shells_118 : decode cX9_shells 118 = .ok (.ireturn, 1) := zq_0 zo_172 zkX9_shells_96 22 rfl rfl
theorem dX9_shells_119 : decode cX9_shells 119 = .ok (.iload 5, 2) := zq_1 zo_21 zkX9_shells_96 23 rfl rfl 5 rfl
theorem dX9_shells_121 : decode cX9_shells 121 = .ok (.iconst 1, 1) := zq_0 zo_4 zkX9_shells_96 25 rfl rfl
theorem dX9_shells_122 : decode cX9_shells 122 = .ok (.if_icmp .ne 13, 3) := zq_2s zo_160 zkX9_shells_96 26 rfl rfl 0 13 rfl rfl _ (by decide +kernel)
theorem dX9_shells_125 : decode cX9_shells 125 = .ok (.aload_n 0, 1) := zq_0 zo_42 zkX9_shells_96 29 rfl rfl
theorem dX9_shells_126 : decode cX9_shells 126 = .ok (.getfield 55, 3) := zq_2 zo_180 zkX9_shells_96 30 rfl rfl 0 55 rfl rfl _ rfl
theorem zkX9_shells_128 : zqc cX9_shells 128 [55, 182, 1, 77, 167, 0, 10, 42, 180, 0, 55, 180, 1, 80, 172] := zq_of 15 (by decide +kernel)
theorem dX9_shells_129 : decode cX9_shells 129 = .ok (.invokevirtual 333, 3) := zq_2 zo_182 zkX9_shells_128 1 rfl rfl 1 77 rfl rfl _ rfl
theorem dX9_shells_132 : decode cX9_shells 132 = .ok (.goto 10, 3) := zq_2s zo_167 zkX9_shells_128 4 rfl rfl 0 10 rfl rfl _ (by decide +kernel)
theorem dX9_shells_135 : decode cX9_shells 135 = .ok (.aload_n 0, 1) := zq_0 zo_42 zkX9_shells_128 7 rfl rfl
theorem dX9_shells_136 : decode cX9_shells 136 = .ok (.getfield 55, 3) := zq_2 zo_180 zkX9_shells_128 8 rfl rfl 0 55 rfl rfl _ rfl
theorem dX9_shells_139 : decode cX9_shells 139 = .ok (.getfield 336, 3) := zq_2 zo_180 zkX9_shells_128 11 rfl rfl 1 80 rfl rfl _ rfl
theorem dX9_shells_142 : decode cX9_shells 142 = .ok (.ireturn, 1) := zq_0 zo_172 zkX9_shells_128 14 rfl rfl
theorem zkX9_hold_0 : zqc cX9_hold 0 [42, 180, 0, 12, 27, 182, 0, 121, 58, 4, 42, 180, 0, 12, 28, 182, 0, 203, 58, 5, 25, 4, 198, 0, 17, 25, 5, 198, 0, 12, 29, 155, 0, 8] := zq_of 34 (by decide +kernel)
theorem dX9_hold_0 : decode cX9_hold 0 = .ok (.aload_n 0, 1) := zq_0 zo_42 zkX9_hold_0 0 rfl rfl
theorem dX9_hold_1 : decode cX9_hold 1 = .ok (.getfield 12, 3) := zq_2 zo_180 zkX9_hold_0 1 rfl rfl 0 12 rfl rfl _ rfl
theorem dX9_hold_4 : decode cX9_hold 4 = .ok (.iload_n 1, 1) := zq_0 zo_27 zkX9_hold_0 4 rfl rfl
theorem dX9_hold_5 : decode cX9_hold 5 = .ok (.invokevirtual 121, 3) := zq_2 zo_182 zkX9_hold_0 5 rfl rfl 0 121 rfl rfl _ rfl
theorem dX9_hold_8 : decode cX9_hold 8 = .ok (.astore 4, 2) := zq_1 zo_58 zkX9_hold_0 8 rfl rfl 4 rfl
theorem dX9_hold_10 : decode cX9_hold 10 = .ok (.aload_n 0, 1) := zq_0 zo_42 zkX9_hold_0 10 rfl rfl
theorem dX9_hold_11 : decode cX9_hold 11 = .ok (.getfield 12, 3) := zq_2 zo_180 zkX9_hold_0 11 rfl rfl 0 12 rfl rfl _ rfl
theorem dX9_hold_14 : decode cX9_hold 14 = .ok (.iload_n 2, 1) := zq_0 zo_28 zkX9_hold_0 14 rfl rfl
theorem dX9_hold_15 : decode cX9_hold 15 = .ok (.invokevirtual 203, 3) := zq_2 zo_182 zkX9_hold_0 15 rfl rfl 0 203 rfl rfl _ rfl
theorem dX9_hold_18 : decode cX9_hold 18 = .ok (.astore 5, 2) := zq_1 zo_58 zkX9_hold_0 18 rfl rfl 5 rfl
theorem dX9_hold_20 : decode cX9_hold 20 = .ok (.aload 4, 2) := zq_1 zo_25 zkX9_hold_0 20 rfl rfl 4 rfl
theorem dX9_hold_22 : decode cX9_hold 22 = .ok (.ifnull 17, 3) := zq_2s zo_198 zkX9_hold_0 22 rfl rfl 0 17 rfl rfl _ (by decide +kernel)
theorem dX9_hold_25 : decode cX9_hold 25 = .ok (.aload 5, 2) := zq_1 zo_25 zkX9_hold_0 25 rfl rfl 5 rfl
theorem dX9_hold_27 : decode cX9_hold 27 = .ok (.ifnull 12, 3) := zq_2s zo_198 zkX9_hold_0 27 rfl rfl 0 12 rfl rfl _ (by decide +kernel)
theorem dX9_hold_30 : decode cX9_hold 30 = .ok (.iload_n 3, 1) := zq_0 zo_29 zkX9_hold_0 30 rfl rfl
theorem dX9_hold_31 : decode cX9_hold 31 = .ok (.ifCond .lt 8, 3) := zq_2s zo_155 zkX9_hold_0 31 rfl rfl 0 8 rfl rfl _ (by decide +kernel)
theorem zkX9_hold_32 : zqc cX9_hold 32 [0, 8, 29, 6, 164, 0, 6, 16, 254, 172, 42, 180, 0, 55, 25, 4, 25, 5, 182, 1, 83, 29, 170, 0, 0, 0, 0, 50, 0, 0, 0, 0, 0, 0] := zq_of 34 (by decide +kernel)
theorem dX9_hold_34 : decode cX9_hold 34 = .ok (.iload_n 3, 1) := zq_0 zo_29 zkX9_hold_32 2 rfl rfl
theorem dX9_hold_35 : decode cX9_hold 35 = .ok (.iconst 3, 1) := zq_0 zo_6 zkX9_hold_32 3 rfl rfl
theorem dX9_hold_36 : decode cX9_hold 36 = .ok (.if_icmp .le 6, 3) := zq_2s zo_164 zkX9_hold_32 4 rfl rfl 0 6 rfl rfl _ (by decide +kernel)
theorem dX9_hold_39 : decode cX9_hold 39 = .ok (.bipush (-2), 2) := zq_1s zo_16 zkX9_hold_32 7 rfl rfl 254 rfl _ (by decide +kernel)
theorem dX9_hold_41 : decode cX9_hold 41 = .ok (.ireturn, 1) := zq_0 zo_172 zkX9_hold_32 9 rfl rfl
theorem dX9_hold_42 : decode cX9_hold 42 = .ok (.aload_n 0, 1) := zq_0 zo_42 zkX9_hold_32 10 rfl rfl
theorem dX9_hold_43 : decode cX9_hold 43 = .ok (.getfield 55, 3) := zq_2 zo_180 zkX9_hold_32 11 rfl rfl 0 55 rfl rfl _ rfl
theorem dX9_hold_46 : decode cX9_hold 46 = .ok (.aload 4, 2) := zq_1 zo_25 zkX9_hold_32 14 rfl rfl 4 rfl
theorem dX9_hold_48 : decode cX9_hold 48 = .ok (.aload 5, 2) := zq_1 zo_25 zkX9_hold_32 16 rfl rfl 5 rfl
theorem dX9_hold_50 : decode cX9_hold 50 = .ok (.invokevirtual 339, 3) := zq_2 zo_182 zkX9_hold_32 18 rfl rfl 1 83 rfl rfl _ rfl
theorem dX9_hold_53 : decode cX9_hold 53 = .ok (.iload_n 3, 1) := zq_0 zo_29 zkX9_hold_32 21 rfl rfl
theorem dX9_hold_54 : decode cX9_hold 54 = .ok (.tableswitch 50 0 2 #[26, 34, 42], 26) := by decide +kernel
theorem zkX9_hold_64 : zqc cX9_hold 64 [0, 0, 0, 2, 0, 0, 0, 26, 0, 0, 0, 34, 0, 0, 0, 42, 42, 180, 0, 55, 180, 1, 74, 172, 42, 180, 0, 55, 182, 1, 77, 172, 42, 180] := zq_of 34 (by decide +kernel)
theorem dX9_hold_80 : decode cX9_hold 80 = .ok (.aload_n 0, 1) := zq_0 zo_42 zkX9_hold_64 16 rfl rfl
theorem dX9_hold_81 : decode cX9_hold 81 = .ok (.getfield 55, 3) := zq_2 zo_180 zkX9_hold_64 17 rfl rfl 0 55 rfl rfl _ rfl
theorem dX9_hold_84 : decode cX9_hold 84 = .ok (.getfield 330, 3) := zq_2 zo_180 zkX9_hold_64 20 rfl rfl 1 74 rfl rfl _ rfl
theorem dX9_hold_87 : decode cX9_hold 87 = .ok (.ireturn, 1) := zq_0 zo_172 zkX9_hold_64 23 rfl rfl
theorem dX9_hold_88 : decode cX9_hold 88 = .ok (.aload_n 0, 1) := zq_0 zo_42 zkX9_hold_64 24 rfl rfl
theorem dX9_hold_89 : decode cX9_hold 89 = .ok (.getfield 55, 3) := zq_2 zo_180 zkX9_hold_64 25 rfl rfl 0 55 rfl rfl _ rfl
theorem dX9_hold_92 : decode cX9_hold 92 = .ok (.invokevirtual 333, 3) := zq_2 zo_182 zkX9_hold_64 28 rfl rfl 1 77 rfl rfl _ rfl
theorem dX9_hold_95 : decode cX9_hold 95 = .ok (.ireturn, 1) := zq_0 zo_172 zkX9_hold_64 31 rfl rfl
theorem zkX9_hold_96 : zqc cX9_hold 96 [42, 180, 0, 55, 180, 1, 80, 172, 42, 180, 0, 55, 180, 1, 74, 154, 0, 7, 2, 167, 0, 10, 42, 180, 0, 55, 180, 1, 87, 172] := zq_of 30 (by decide +kernel)
theorem dX9_hold_96 : decode cX9_hold 96 = .ok (.aload_n 0, 1) := zq_0 zo_42 zkX9_hold_96 0 rfl rfl
theorem dX9_hold_97 : decode cX9_hold 97 = .ok (.getfield 55, 3) := zq_2 zo_180 zkX9_hold_96 1 rfl rfl 0 55 rfl rfl _ rfl
theorem dX9_hold_100 : decode cX9_hold 100 = .ok (.getfield 336, 3) := zq_2 zo_180 zkX9_hold_96 4 rfl rfl 1 80 rfl rfl _ rfl
theorem dX9_hold_103 : decode cX9_hold 103 = .ok (.ireturn, 1) := zq_0 zo_172 zkX9_hold_96 7 rfl rfl
theorem dX9_hold_104 : decode cX9_hold 104 = .ok (.aload_n 0, 1) := zq_0 zo_42 zkX9_hold_96 8 rfl rfl
theorem dX9_hold_105 : decode cX9_hold 105 = .ok (.getfield 55, 3) := zq_2 zo_180 zkX9_hold_96 9 rfl rfl 0 55 rfl rfl _ rfl
theorem dX9_hold_108 : decode cX9_hold 108 = .ok (.getfield 330, 3) := zq_2 zo_180 zkX9_hold_96 12 rfl rfl 1 74 rfl rfl _ rfl
theorem dX9_hold_111 : decode cX9_hold 111 = .ok (.ifCond .ne 7, 3) := zq_2s zo_154 zkX9_hold_96 15 rfl rfl 0 7 rfl rfl _ (by decide +kernel)
theorem dX9_hold_114 : decode cX9_hold 114 = .ok (.iconst (-1), 1) := zq_0 zo_2 zkX9_hold_96 18 rfl rfl
theorem dX9_hold_115 : decode cX9_hold 115 = .ok (.goto 10, 3) := zq_2s zo_167 zkX9_hold_96 19 rfl rfl 0 10 rfl rfl _ (by decide +kernel)
theorem dX9_hold_118 : decode cX9_hold 118 = .ok (.aload_n 0, 1) := zq_0 zo_42 zkX9_hold_96 22 rfl rfl
theorem dX9_hold_119 : decode cX9_hold 119 = .ok (.getfield 55, 3) := zq_2 zo_180 zkX9_hold_96 23 rfl rfl 0 55 rfl rfl _ rfl
theorem dX9_hold_122 : decode cX9_hold 122 = .ok (.getfield 343, 3) := zq_2 zo_180 zkX9_hold_96 26 rfl rfl 1 87 rfl rfl _ rfl
theorem dX9_hold_125 : decode cX9_hold 125 = .ok (.ireturn, 1) := zq_0 zo_172 zkX9_hold_96 29 rfl rfl
theorem zkX9_chance_0 : zqc cX9_chance 0 [42, 180, 0, 12, 27, 182, 0, 121, 58, 4, 25, 4, 198, 0, 15, 28, 2, 161, 0, 10, 28, 17, 3, 231, 164, 0, 7, 20, 1, 90, 173, 28, 2, 160] := zq_of 34 (by decide +kernel)
theorem dX9_chance_0 : decode cX9_chance 0 = .ok (.aload_n 0, 1) := zq_0 zo_42 zkX9_chance_0 0 rfl rfl
theorem dX9_chance_1 : decode cX9_chance 1 = .ok (.getfield 12, 3) := zq_2 zo_180 zkX9_chance_0 1 rfl rfl 0 12 rfl rfl _ rfl
theorem dX9_chance_4 : decode cX9_chance 4 = .ok (.iload_n 1, 1) := zq_0 zo_27 zkX9_chance_0 4 rfl rfl
theorem dX9_chance_5 : decode cX9_chance 5 = .ok (.invokevirtual 121, 3) := zq_2 zo_182 zkX9_chance_0 5 rfl rfl 0 121 rfl rfl _ rfl
theorem dX9_chance_8 : decode cX9_chance 8 = .ok (.astore 4, 2) := zq_1 zo_58 zkX9_chance_0 8 rfl rfl 4 rfl
theorem dX9_chance_10 : decode cX9_chance 10 = .ok (.aload 4, 2) := zq_1 zo_25 zkX9_chance_0 10 rfl rfl 4 rfl
theorem dX9_chance_12 : decode cX9_chance 12 = .ok (.ifnull 15, 3) := zq_2s zo_198 zkX9_chance_0 12 rfl rfl 0 15 rfl rfl _ (by decide +kernel)
theorem dX9_chance_15 : decode cX9_chance 15 = .ok (.iload_n 2, 1) := zq_0 zo_28 zkX9_chance_0 15 rfl rfl
theorem dX9_chance_16 : decode cX9_chance 16 = .ok (.iconst (-1), 1) := zq_0 zo_2 zkX9_chance_0 16 rfl rfl
theorem dX9_chance_17 : decode cX9_chance 17 = .ok (.if_icmp .lt 10, 3) := zq_2s zo_161 zkX9_chance_0 17 rfl rfl 0 10 rfl rfl _ (by decide +kernel)
theorem dX9_chance_20 : decode cX9_chance 20 = .ok (.iload_n 2, 1) := zq_0 zo_28 zkX9_chance_0 20 rfl rfl
theorem dX9_chance_21 : decode cX9_chance 21 = .ok (.sipush 999, 3) := zq_2s zo_17 zkX9_chance_0 21 rfl rfl 3 231 rfl rfl _ (by decide +kernel)
theorem dX9_chance_24 : decode cX9_chance 24 = .ok (.if_icmp .le 7, 3) := zq_2s zo_164 zkX9_chance_0 24 rfl rfl 0 7 rfl rfl _ (by decide +kernel)
theorem dX9_chance_27 : decode cX9_chance 27 = .ok (.ldc2_w 346, 3) := zq_2 zo_20 zkX9_chance_0 27 rfl rfl 1 90 rfl rfl _ rfl
theorem dX9_chance_30 : decode cX9_chance 30 = .ok (.lreturn, 1) := zq_0 zo_173 zkX9_chance_0 30 rfl rfl
theorem dX9_chance_31 : decode cX9_chance 31 = .ok (.iload_n 2, 1) := zq_0 zo_28 zkX9_chance_0 31 rfl rfl
theorem zkX9_chance_32 : zqc cX9_chance 32 [2, 160, 0, 16, 25, 4, 184, 1, 92, 20, 1, 96, 29, 184, 1, 98, 173, 42, 180, 0, 48, 25, 4, 25, 4, 180, 0, 125, 4, 100, 182, 1, 102, 42] := zq_of 34 (by decide +kernel)
theorem dX9_chance_32 : decode cX9_chance 32 = .ok (.iconst (-1), 1) := zq_0 zo_2 zkX9_chance_32 0 rfl rfl
theorem dX9_chance_33 : decode cX9_chance 33 = .ok (.if_icmp .ne 16, 3) := zq_2s zo_160 zkX9_chance_32 1 rfl rfl 0 16 rfl rfl _ (by decide +kernel)
theorem dX9_chance_36 : decode cX9_chance 36 = .ok (.aload 4, 2) := zq_1 zo_25 zkX9_chance_32 4 rfl rfl 4 rfl
theorem dX9_chance_38 : decode cX9_chance 38 = .ok (.invokestatic 348, 3) := zq_2 zo_184 zkX9_chance_32 6 rfl rfl 1 92 rfl rfl _ rfl
theorem dX9_chance_41 : decode cX9_chance 41 = .ok (.ldc2_w 352, 3) := zq_2 zo_20 zkX9_chance_32 9 rfl rfl 1 96 rfl rfl _ rfl
theorem dX9_chance_44 : decode cX9_chance 44 = .ok (.iload_n 3, 1) := zq_0 zo_29 zkX9_chance_32 12 rfl rfl
theorem dX9_chance_45 : decode cX9_chance 45 = .ok (.invokestatic 354, 3) := zq_2 zo_184 zkX9_chance_32 13 rfl rfl 1 98 rfl rfl _ rfl
theorem dX9_chance_48 : decode cX9_chance 48 = .ok (.lreturn, 1) := zq_0 zo_173 zkX9_chance_32 16 rfl rfl
theorem dX9_chance_49 : decode cX9_chance 49 = .ok (.aload_n 0, 1) := zq_0 zo_42 zkX9_chance_32 17 rfl rfl
theorem dX9_chance_50 : decode cX9_chance 50 = .ok (.getfield 48, 3) := zq_2 zo_180 zkX9_chance_32 18 rfl rfl 0 48 rfl rfl _ rfl
theorem dX9_chance_53 : decode cX9_chance 53 = .ok (.aload 4, 2) := zq_1 zo_25 zkX9_chance_32 21 rfl rfl 4 rfl
theorem dX9_chance_55 : decode cX9_chance 55 = .ok (.aload 4, 2) := zq_1 zo_25 zkX9_chance_32 23 rfl rfl 4 rfl
theorem dX9_chance_57 : decode cX9_chance 57 = .ok (.getfield 125, 3) := zq_2 zo_180 zkX9_chance_32 25 rfl rfl 0 125 rfl rfl _ rfl
theorem dX9_chance_60 : decode cX9_chance 60 = .ok (.iconst 1, 1) := zq_0 zo_4 zkX9_chance_32 28 rfl rfl
theorem dX9_chance_61 : decode cX9_chance 61 = .ok (.isub, 1) := zq_0 zo_100 zkX9_chance_32 29 rfl rfl
theorem dX9_chance_62 : decode cX9_chance 62 = .ok (.invokevirtual 358, 3) := zq_2 zo_182 zkX9_chance_32 30 rfl rfl 1 102 rfl rfl _ rfl
theorem zkX9_chance_64 : zqc cX9_chance 64 [102, 42, 180, 0, 48, 28, 182, 1, 105, 42, 180, 0, 48, 180, 1, 109, 29, 184, 1, 98, 173] := zq_of 21 (by decide +kernel)
theorem dX9_chance_65 : decode cX9_chance 65 = .ok (.aload_n 0, 1) := zq_0 zo_42 zkX9_chance_64 1 rfl rfl
theorem dX9_chance_66 : decode cX9_chance 66 = .ok (.getfield 48, 3) := zq_2 zo_180 zkX9_chance_64 2 rfl rfl 0 48 rfl rfl _ rfl
theorem dX9_chance_69 : decode cX9_chance 69 = .ok (.iload_n 2, 1) := zq_0 zo_28 zkX9_chance_64 5 rfl rfl
theorem dX9_chance_70 : decode cX9_chance 70 = .ok (.invokevirtual 361, 3) := zq_2 zo_182 zkX9_chance_64 6 rfl rfl 1 105 rfl rfl _ rfl
theorem dX9_chance_73 : decode cX9_chance 73 = .ok (.aload_n 0, 1) := zq_0 zo_42 zkX9_chance_64 9 rfl rfl
theorem dX9_chance_74 : decode cX9_chance 74 = .ok (.getfield 48, 3) := zq_2 zo_180 zkX9_chance_64 10 rfl rfl 0 48 rfl rfl _ rfl
theorem dX9_chance_77 : decode cX9_chance 77 = .ok (.getfield 365, 3) := zq_2 zo_180 zkX9_chance_64 13 rfl rfl 1 109 rfl rfl _ rfl
theorem dX9_chance_80 : decode cX9_chance 80 = .ok (.iload_n 3, 1) := zq_0 zo_29 zkX9_chance_64 16 rfl rfl
theorem dX9_chance_81 : decode cX9_chance 81 = .ok (.invokestatic 354, 3) := zq_2 zo_184 zkX9_chance_64 17 rfl rfl 1 98 rfl rfl _ rfl
theorem dX9_chance_84 : decode cX9_chance 84 = .ok (.lreturn, 1) := zq_0 zo_173 zkX9_chance_64 20 rfl rfl
theorem zkX9_slack_0 : zqc cX9_slack 0 [42, 180, 0, 12, 27, 182, 0, 121, 78, 45, 198, 0, 10, 28, 184, 1, 113, 154, 0, 5, 2, 172, 42, 180, 0, 48, 45, 45, 180, 0, 125, 4, 100, 182] := zq_of 34 (by decide +kernel)
theorem dX9_slack_0 : decode cX9_slack 0 = .ok (.aload_n 0, 1) := zq_0 zo_42 zkX9_slack_0 0 rfl rfl
theorem dX9_slack_1 : decode cX9_slack 1 = .ok (.getfield 12, 3) := zq_2 zo_180 zkX9_slack_0 1 rfl rfl 0 12 rfl rfl _ rfl
theorem dX9_slack_4 : decode cX9_slack 4 = .ok (.iload_n 1, 1) := zq_0 zo_27 zkX9_slack_0 4 rfl rfl
theorem dX9_slack_5 : decode cX9_slack 5 = .ok (.invokevirtual 121, 3) := zq_2 zo_182 zkX9_slack_0 5 rfl rfl 0 121 rfl rfl _ rfl
theorem dX9_slack_8 : decode cX9_slack 8 = .ok (.astore_n 3, 1) := zq_0 zo_78 zkX9_slack_0 8 rfl rfl
theorem dX9_slack_9 : decode cX9_slack 9 = .ok (.aload_n 3, 1) := zq_0 zo_45 zkX9_slack_0 9 rfl rfl
theorem dX9_slack_10 : decode cX9_slack 10 = .ok (.ifnull 10, 3) := zq_2s zo_198 zkX9_slack_0 10 rfl rfl 0 10 rfl rfl _ (by decide +kernel)
theorem dX9_slack_13 : decode cX9_slack 13 = .ok (.iload_n 2, 1) := zq_0 zo_28 zkX9_slack_0 13 rfl rfl
theorem dX9_slack_14 : decode cX9_slack 14 = .ok (.invokestatic 369, 3) := zq_2 zo_184 zkX9_slack_0 14 rfl rfl 1 113 rfl rfl _ rfl
theorem dX9_slack_17 : decode cX9_slack 17 = .ok (.ifCond .ne 5, 3) := zq_2s zo_154 zkX9_slack_0 17 rfl rfl 0 5 rfl rfl _ (by decide +kernel)
theorem dX9_slack_20 : decode cX9_slack 20 = .ok (.iconst (-1), 1) := zq_0 zo_2 zkX9_slack_0 20 rfl rfl
theorem dX9_slack_21 : decode cX9_slack 21 = .ok (.ireturn, 1) := zq_0 zo_172 zkX9_slack_0 21 rfl rfl
theorem dX9_slack_22 : decode cX9_slack 22 = .ok (.aload_n 0, 1) := zq_0 zo_42 zkX9_slack_0 22 rfl rfl
theorem dX9_slack_23 : decode cX9_slack 23 = .ok (.getfield 48, 3) := zq_2 zo_180 zkX9_slack_0 23 rfl rfl 0 48 rfl rfl _ rfl
theorem dX9_slack_26 : decode cX9_slack 26 = .ok (.aload_n 3, 1) := zq_0 zo_45 zkX9_slack_0 26 rfl rfl
theorem dX9_slack_27 : decode cX9_slack 27 = .ok (.aload_n 3, 1) := zq_0 zo_45 zkX9_slack_0 27 rfl rfl
theorem dX9_slack_28 : decode cX9_slack 28 = .ok (.getfield 125, 3) := zq_2 zo_180 zkX9_slack_0 28 rfl rfl 0 125 rfl rfl _ rfl
theorem dX9_slack_31 : decode cX9_slack 31 = .ok (.iconst 1, 1) := zq_0 zo_4 zkX9_slack_0 31 rfl rfl
theorem zkX9_slack_32 : zqc cX9_slack 32 [100, 182, 1, 102, 42, 180, 0, 48, 28, 182, 1, 116, 172] := zq_of 13 (by decide +kernel)
theorem dX9_slack_32 : decode cX9_slack 32 = .ok (.isub, 1) := zq_0 zo_100 zkX9_slack_32 0 rfl rfl
theorem dX9_slack_33 : decode cX9_slack 33 = .ok (.invokevirtual 358, 3) := zq_2 zo_182 zkX9_slack_32 1 rfl rfl 1 102 rfl rfl _ rfl
theorem dX9_slack_36 : decode cX9_slack 36 = .ok (.aload_n 0, 1) := zq_0 zo_42 zkX9_slack_32 4 rfl rfl
theorem dX9_slack_37 : decode cX9_slack 37 = .ok (.getfield 48, 3) := zq_2 zo_180 zkX9_slack_32 5 rfl rfl 0 48 rfl rfl _ rfl
theorem dX9_slack_40 : decode cX9_slack 40 = .ok (.iload_n 2, 1) := zq_0 zo_28 zkX9_slack_32 8 rfl rfl
theorem dX9_slack_41 : decode cX9_slack 41 = .ok (.invokevirtual 372, 3) := zq_2 zo_182 zkX9_slack_32 9 rfl rfl 1 116 rfl rfl _ rfl
theorem dX9_slack_44 : decode cX9_slack 44 = .ok (.ireturn, 1) := zq_0 zo_172 zkX9_slack_32 12 rfl rfl
theorem zkX9_print_0 : zqc cX9_print 0 [42, 180, 0, 12, 27, 182, 0, 121, 58, 4, 25, 4, 198, 0, 19, 25, 4, 28, 182, 0, 242, 153, 0, 10, 29, 184, 1, 113, 154, 0, 5, 2, 172, 29] := zq_of 34 (by decide +kernel)
theorem dX9_print_0 : decode cX9_print 0 = .ok (.aload_n 0, 1) := zq_0 zo_42 zkX9_print_0 0 rfl rfl
theorem dX9_print_1 : decode cX9_print 1 = .ok (.getfield 12, 3) := zq_2 zo_180 zkX9_print_0 1 rfl rfl 0 12 rfl rfl _ rfl
theorem dX9_print_4 : decode cX9_print 4 = .ok (.iload_n 1, 1) := zq_0 zo_27 zkX9_print_0 4 rfl rfl
theorem dX9_print_5 : decode cX9_print 5 = .ok (.invokevirtual 121, 3) := zq_2 zo_182 zkX9_print_0 5 rfl rfl 0 121 rfl rfl _ rfl
theorem dX9_print_8 : decode cX9_print 8 = .ok (.astore 4, 2) := zq_1 zo_58 zkX9_print_0 8 rfl rfl 4 rfl
theorem dX9_print_10 : decode cX9_print 10 = .ok (.aload 4, 2) := zq_1 zo_25 zkX9_print_0 10 rfl rfl 4 rfl
theorem dX9_print_12 : decode cX9_print 12 = .ok (.ifnull 19, 3) := zq_2s zo_198 zkX9_print_0 12 rfl rfl 0 19 rfl rfl _ (by decide +kernel)
theorem dX9_print_15 : decode cX9_print 15 = .ok (.aload 4, 2) := zq_1 zo_25 zkX9_print_0 15 rfl rfl 4 rfl
theorem dX9_print_17 : decode cX9_print 17 = .ok (.iload_n 2, 1) := zq_0 zo_28 zkX9_print_0 17 rfl rfl
theorem dX9_print_18 : decode cX9_print 18 = .ok (.invokevirtual 242, 3) := zq_2 zo_182 zkX9_print_0 18 rfl rfl 0 242 rfl rfl _ rfl
theorem dX9_print_21 : decode cX9_print 21 = .ok (.ifCond .eq 10, 3) := zq_2s zo_153 zkX9_print_0 21 rfl rfl 0 10 rfl rfl _ (by decide +kernel)
theorem dX9_print_24 : decode cX9_print 24 = .ok (.iload_n 3, 1) := zq_0 zo_29 zkX9_print_0 24 rfl rfl
theorem dX9_print_25 : decode cX9_print 25 = .ok (.invokestatic 369, 3) := zq_2 zo_184 zkX9_print_0 25 rfl rfl 1 113 rfl rfl _ rfl
theorem dX9_print_28 : decode cX9_print 28 = .ok (.ifCond .ne 5, 3) := zq_2s zo_154 zkX9_print_0 28 rfl rfl 0 5 rfl rfl _ (by decide +kernel)
theorem dX9_print_31 : decode cX9_print 31 = .ok (.iconst (-1), 1) := zq_0 zo_2 zkX9_print_0 31 rfl rfl
theorem zkX9_print_32 : zqc cX9_print 32 [172, 29, 154, 0, 5, 3, 172, 42, 180, 0, 48, 25, 4, 28, 182, 1, 102, 25, 4, 28, 182, 1, 119, 42, 180, 0, 48, 29, 182, 1, 116, 96, 172] := zq_of 33 (by decide +kernel)
theorem dX9_print_32 : decode cX9_print 32 = .ok (.ireturn, 1) := zq_0 zo_172 zkX9_print_32 0 rfl rfl
theorem dX9_print_33 : decode cX9_print 33 = .ok (.iload_n 3, 1) := zq_0 zo_29 zkX9_print_32 1 rfl rfl
theorem dX9_print_34 : decode cX9_print 34 = .ok (.ifCond .ne 5, 3) := zq_2s zo_154 zkX9_print_32 2 rfl rfl 0 5 rfl rfl _ (by decide +kernel)
theorem dX9_print_37 : decode cX9_print 37 = .ok (.iconst 0, 1) := zq_0 zo_3 zkX9_print_32 5 rfl rfl
theorem dX9_print_38 : decode cX9_print 38 = .ok (.ireturn, 1) := zq_0 zo_172 zkX9_print_32 6 rfl rfl
theorem dX9_print_39 : decode cX9_print 39 = .ok (.aload_n 0, 1) := zq_0 zo_42 zkX9_print_32 7 rfl rfl
theorem dX9_print_40 : decode cX9_print 40 = .ok (.getfield 48, 3) := zq_2 zo_180 zkX9_print_32 8 rfl rfl 0 48 rfl rfl _ rfl
theorem dX9_print_43 : decode cX9_print 43 = .ok (.aload 4, 2) := zq_1 zo_25 zkX9_print_32 11 rfl rfl 4 rfl
theorem dX9_print_45 : decode cX9_print 45 = .ok (.iload_n 2, 1) := zq_0 zo_28 zkX9_print_32 13 rfl rfl
theorem dX9_print_46 : decode cX9_print 46 = .ok (.invokevirtual 358, 3) := zq_2 zo_182 zkX9_print_32 14 rfl rfl 1 102 rfl rfl _ rfl
theorem dX9_print_49 : decode cX9_print 49 = .ok (.aload 4, 2) := zq_1 zo_25 zkX9_print_32 17 rfl rfl 4 rfl
theorem dX9_print_51 : decode cX9_print 51 = .ok (.iload_n 2, 1) := zq_0 zo_28 zkX9_print_32 19 rfl rfl
theorem dX9_print_52 : decode cX9_print 52 = .ok (.invokevirtual 375, 3) := zq_2 zo_182 zkX9_print_32 20 rfl rfl 1 119 rfl rfl _ rfl
theorem dX9_print_55 : decode cX9_print 55 = .ok (.aload_n 0, 1) := zq_0 zo_42 zkX9_print_32 23 rfl rfl
theorem dX9_print_56 : decode cX9_print 56 = .ok (.getfield 48, 3) := zq_2 zo_180 zkX9_print_32 24 rfl rfl 0 48 rfl rfl _ rfl
theorem dX9_print_59 : decode cX9_print 59 = .ok (.iload_n 3, 1) := zq_0 zo_29 zkX9_print_32 27 rfl rfl
theorem dX9_print_60 : decode cX9_print 60 = .ok (.invokevirtual 372, 3) := zq_2 zo_182 zkX9_print_32 28 rfl rfl 1 116 rfl rfl _ rfl
theorem dX9_print_63 : decode cX9_print 63 = .ok (.iadd, 1) := zq_0 zo_96 zkX9_print_32 31 rfl rfl
theorem zkX9_print_64 : zqc cX9_print 64 [172] := zq_of 1 (by decide +kernel)
theorem dX9_print_64 : decode cX9_print 64 = .ok (.ireturn, 1) := zq_0 zo_172 zkX9_print_64 0 rfl rfl
theorem zkX9_meet_0 : zqc cX9_meet 0 [42, 27, 28, 29, 21, 4, 182, 0, 206, 58, 6, 25, 6, 198, 0, 12, 25, 6, 180, 0, 143, 2, 160, 0, 6, 16, 254, 172, 42, 180, 0, 41, 25, 6] := zq_of 34 (by decide +kernel)
theorem dX9_meet_0 : decode cX9_meet 0 = .ok (.aload_n 0, 1) := zq_0 zo_42 zkX9_meet_0 0 rfl rfl
theorem dX9_meet_1 : decode cX9_meet 1 = .ok (.iload_n 1, 1) := zq_0 zo_27 zkX9_meet_0 1 rfl rfl
theorem dX9_meet_2 : decode cX9_meet 2 = .ok (.iload_n 2, 1) := zq_0 zo_28 zkX9_meet_0 2 rfl rfl
theorem dX9_meet_3 : decode cX9_meet 3 = .ok (.iload_n 3, 1) := zq_0 zo_29 zkX9_meet_0 3 rfl rfl
theorem dX9_meet_4 : decode cX9_meet 4 = .ok (.iload 4, 2) := zq_1 zo_21 zkX9_meet_0 4 rfl rfl 4 rfl
theorem dX9_meet_6 : decode cX9_meet 6 = .ok (.invokevirtual 206, 3) := zq_2 zo_182 zkX9_meet_0 6 rfl rfl 0 206 rfl rfl _ rfl
theorem dX9_meet_9 : decode cX9_meet 9 = .ok (.astore 6, 2) := zq_1 zo_58 zkX9_meet_0 9 rfl rfl 6 rfl
theorem dX9_meet_11 : decode cX9_meet 11 = .ok (.aload 6, 2) := zq_1 zo_25 zkX9_meet_0 11 rfl rfl 6 rfl
theorem dX9_meet_13 : decode cX9_meet 13 = .ok (.ifnull 12, 3) := zq_2s zo_198 zkX9_meet_0 13 rfl rfl 0 12 rfl rfl _ (by decide +kernel)
theorem dX9_meet_16 : decode cX9_meet 16 = .ok (.aload 6, 2) := zq_1 zo_25 zkX9_meet_0 16 rfl rfl 6 rfl
theorem dX9_meet_18 : decode cX9_meet 18 = .ok (.getfield 143, 3) := zq_2 zo_180 zkX9_meet_0 18 rfl rfl 0 143 rfl rfl _ rfl
theorem dX9_meet_21 : decode cX9_meet 21 = .ok (.iconst (-1), 1) := zq_0 zo_2 zkX9_meet_0 21 rfl rfl
theorem dX9_meet_22 : decode cX9_meet 22 = .ok (.if_icmp .ne 6, 3) := zq_2s zo_160 zkX9_meet_0 22 rfl rfl 0 6 rfl rfl _ (by decide +kernel)
theorem dX9_meet_25 : decode cX9_meet 25 = .ok (.bipush (-2), 2) := zq_1s zo_16 zkX9_meet_0 25 rfl rfl 254 rfl _ (by decide +kernel)
theorem dX9_meet_27 : decode cX9_meet 27 = .ok (.ireturn, 1) := zq_0 zo_172 zkX9_meet_0 27 rfl rfl
theorem dX9_meet_28 : decode cX9_meet 28 = .ok (.aload_n 0, 1) := zq_0 zo_42 zkX9_meet_0 28 rfl rfl
theorem dX9_meet_29 : decode cX9_meet 29 = .ok (.getfield 41, 3) := zq_2 zo_180 zkX9_meet_0 29 rfl rfl 0 41 rfl rfl _ rfl
theorem zkX9_meet_32 : zqc cX9_meet 32 [25, 6, 42, 180, 0, 34, 180, 0, 236, 182, 1, 122, 21, 5, 16, 100, 161, 0, 30, 21, 5, 16, 100, 25, 6, 180, 0, 125, 96, 162, 0, 17, 42, 180] := zq_of 34 (by decide +kernel)
theorem dX9_meet_32 : decode cX9_meet 32 = .ok (.aload 6, 2) := zq_1 zo_25 zkX9_meet_32 0 rfl rfl 6 rfl
theorem dX9_meet_34 : decode cX9_meet 34 = .ok (.aload_n 0, 1) := zq_0 zo_42 zkX9_meet_32 2 rfl rfl
theorem dX9_meet_35 : decode cX9_meet 35 = .ok (.getfield 34, 3) := zq_2 zo_180 zkX9_meet_32 3 rfl rfl 0 34 rfl rfl _ rfl
theorem dX9_meet_38 : decode cX9_meet 38 = .ok (.getfield 236, 3) := zq_2 zo_180 zkX9_meet_32 6 rfl rfl 0 236 rfl rfl _ rfl
theorem dX9_meet_41 : decode cX9_meet 41 = .ok (.invokevirtual 378, 3) := zq_2 zo_182 zkX9_meet_32 9 rfl rfl 1 122 rfl rfl _ rfl
theorem dX9_meet_44 : decode cX9_meet 44 = .ok (.iload 5, 2) := zq_1 zo_21 zkX9_meet_32 12 rfl rfl 5 rfl
theorem dX9_meet_46 : decode cX9_meet 46 = .ok (.bipush 100, 2) := zq_1s zo_16 zkX9_meet_32 14 rfl rfl 100 rfl _ (by decide +kernel)
theorem dX9_meet_48 : decode cX9_meet 48 = .ok (.if_icmp .lt 30, 3) := zq_2s zo_161 zkX9_meet_32 16 rfl rfl 0 30 rfl rfl _ (by decide +kernel)
theorem dX9_meet_51 : decode cX9_meet 51 = .ok (.iload 5, 2) := zq_1 zo_21 zkX9_meet_32 19 rfl rfl 5 rfl
theorem dX9_meet_53 : decode cX9_meet 53 = .ok (.bipush 100, 2) := zq_1s zo_16 zkX9_meet_32 21 rfl rfl 100 rfl _ (by decide +kernel)
theorem dX9_meet_55 : decode cX9_meet 55 = .ok (.aload 6, 2) := zq_1 zo_25 zkX9_meet_32 23 rfl rfl 6 rfl
theorem dX9_meet_57 : decode cX9_meet 57 = .ok (.getfield 125, 3) := zq_2 zo_180 zkX9_meet_32 25 rfl rfl 0 125 rfl rfl _ rfl
theorem dX9_meet_60 : decode cX9_meet 60 = .ok (.iadd, 1) := zq_0 zo_96 zkX9_meet_32 28 rfl rfl
theorem dX9_meet_61 : decode cX9_meet 61 = .ok (.if_icmp .ge 17, 3) := zq_2s zo_162 zkX9_meet_32 29 rfl rfl 0 17 rfl rfl _ (by decide +kernel)
theorem zkX9_meet_64 : zqc cX9_meet 64 [42, 180, 0, 41, 180, 1, 125, 21, 5, 16, 100, 100, 46, 172, 21, 5, 17, 0, 200, 161, 0, 32, 21, 5, 17, 0, 200, 25, 6, 180, 0, 125, 96, 162] := zq_of 34 (by decide +kernel)
theorem dX9_meet_64 : decode cX9_meet 64 = .ok (.aload_n 0, 1) := zq_0 zo_42 zkX9_meet_64 0 rfl rfl
theorem dX9_meet_65 : decode cX9_meet 65 = .ok (.getfield 41, 3) := zq_2 zo_180 zkX9_meet_64 1 rfl rfl 0 41 rfl rfl _ rfl
theorem dX9_meet_68 : decode cX9_meet 68 = .ok (.getfield 381, 3) := zq_2 zo_180 zkX9_meet_64 4 rfl rfl 1 125 rfl rfl _ rfl
theorem dX9_meet_71 : decode cX9_meet 71 = .ok (.iload 5, 2) := zq_1 zo_21 zkX9_meet_64 7 rfl rfl 5 rfl
theorem dX9_meet_73 : decode cX9_meet 73 = .ok (.bipush 100, 2) := zq_1s zo_16 zkX9_meet_64 9 rfl rfl 100 rfl _ (by decide +kernel)
theorem dX9_meet_75 : decode cX9_meet 75 = .ok (.isub, 1) := zq_0 zo_100 zkX9_meet_64 11 rfl rfl
theorem dX9_meet_76 : decode cX9_meet 76 = .ok (.iaload, 1) := zq_0 zo_46 zkX9_meet_64 12 rfl rfl
theorem dX9_meet_77 : decode cX9_meet 77 = .ok (.ireturn, 1) := zq_0 zo_172 zkX9_meet_64 13 rfl rfl
theorem dX9_meet_78 : decode cX9_meet 78 = .ok (.iload 5, 2) := zq_1 zo_21 zkX9_meet_64 14 rfl rfl 5 rfl
theorem dX9_meet_80 : decode cX9_meet 80 = .ok (.sipush 200, 3) := zq_2s zo_17 zkX9_meet_64 16 rfl rfl 0 200 rfl rfl _ (by decide +kernel)
theorem dX9_meet_83 : decode cX9_meet 83 = .ok (.if_icmp .lt 32, 3) := zq_2s zo_161 zkX9_meet_64 19 rfl rfl 0 32 rfl rfl _ (by decide +kernel)
theorem dX9_meet_86 : decode cX9_meet 86 = .ok (.iload 5, 2) := zq_1 zo_21 zkX9_meet_64 22 rfl rfl 5 rfl
theorem dX9_meet_88 : decode cX9_meet 88 = .ok (.sipush 200, 3) := zq_2s zo_17 zkX9_meet_64 24 rfl rfl 0 200 rfl rfl _ (by decide +kernel)
theorem dX9_meet_91 : decode cX9_meet 91 = .ok (.aload 6, 2) := zq_1 zo_25 zkX9_meet_64 27 rfl rfl 6 rfl
theorem dX9_meet_93 : decode cX9_meet 93 = .ok (.getfield 125, 3) := zq_2 zo_180 zkX9_meet_64 29 rfl rfl 0 125 rfl rfl _ rfl
theorem zkX9_meet_96 : zqc cX9_meet 96 [96, 162, 0, 18, 42, 180, 0, 41, 180, 1, 128, 21, 5, 17, 0, 200, 100, 46, 172, 21, 5, 170, 0, 0, 0, 0, 0, 59, 0, 0, 0, 0, 0, 0] := zq_of 34 (by decide +kernel)
theorem dX9_meet_96 : decode cX9_meet 96 = .ok (.iadd, 1) := zq_0 zo_96 zkX9_meet_96 0 rfl rfl
theorem dX9_meet_97 : decode cX9_meet 97 = .ok (.if_icmp .ge 18, 3) := zq_2s zo_162 zkX9_meet_96 1 rfl rfl 0 18 rfl rfl _ (by decide +kernel)
theorem dX9_meet_100 : decode cX9_meet 100 = .ok (.aload_n 0, 1) := zq_0 zo_42 zkX9_meet_96 4 rfl rfl
theorem dX9_meet_101 : decode cX9_meet 101 = .ok (.getfield 41, 3) := zq_2 zo_180 zkX9_meet_96 5 rfl rfl 0 41 rfl rfl _ rfl
theorem dX9_meet_104 : decode cX9_meet 104 = .ok (.getfield 384, 3) := zq_2 zo_180 zkX9_meet_96 8 rfl rfl 1 128 rfl rfl _ rfl
theorem dX9_meet_107 : decode cX9_meet 107 = .ok (.iload 5, 2) := zq_1 zo_21 zkX9_meet_96 11 rfl rfl 5 rfl
theorem dX9_meet_109 : decode cX9_meet 109 = .ok (.sipush 200, 3) := zq_2s zo_17 zkX9_meet_96 13 rfl rfl 0 200 rfl rfl _ (by decide +kernel)
theorem dX9_meet_112 : decode cX9_meet 112 = .ok (.isub, 1) := zq_0 zo_100 zkX9_meet_96 16 rfl rfl
theorem dX9_meet_113 : decode cX9_meet 113 = .ok (.iaload, 1) := zq_0 zo_46 zkX9_meet_96 17 rfl rfl
theorem dX9_meet_114 : decode cX9_meet 114 = .ok (.ireturn, 1) := zq_0 zo_172 zkX9_meet_96 18 rfl rfl
theorem dX9_meet_115 : decode cX9_meet 115 = .ok (.iload 5, 2) := zq_1 zo_21 zkX9_meet_96 19 rfl rfl 5 rfl
theorem dX9_meet_117 : decode cX9_meet 117 = .ok (.tableswitch 59 0 2 #[27, 43, 51], 27) := by decide +kernel
theorem zkX9_meet_128 : zqc cX9_meet 128 [0, 0, 0, 2, 0, 0, 0, 27, 0, 0, 0, 43, 0, 0, 0, 51, 42, 180, 0, 41, 180, 1, 125, 25, 6, 180, 0, 125, 4, 100, 46, 172, 42, 180] := zq_of 34 (by decide +kernel)
theorem dX9_meet_144 : decode cX9_meet 144 = .ok (.aload_n 0, 1) := zq_0 zo_42 zkX9_meet_128 16 rfl rfl
theorem dX9_meet_145 : decode cX9_meet 145 = .ok (.getfield 41, 3) := zq_2 zo_180 zkX9_meet_128 17 rfl rfl 0 41 rfl rfl _ rfl
theorem dX9_meet_148 : decode cX9_meet 148 = .ok (.getfield 381, 3) := zq_2 zo_180 zkX9_meet_128 20 rfl rfl 1 125 rfl rfl _ rfl
theorem dX9_meet_151 : decode cX9_meet 151 = .ok (.aload 6, 2) := zq_1 zo_25 zkX9_meet_128 23 rfl rfl 6 rfl
theorem dX9_meet_153 : decode cX9_meet 153 = .ok (.getfield 125, 3) := zq_2 zo_180 zkX9_meet_128 25 rfl rfl 0 125 rfl rfl _ rfl
theorem dX9_meet_156 : decode cX9_meet 156 = .ok (.iconst 1, 1) := zq_0 zo_4 zkX9_meet_128 28 rfl rfl
theorem dX9_meet_157 : decode cX9_meet 157 = .ok (.isub, 1) := zq_0 zo_100 zkX9_meet_128 29 rfl rfl
theorem dX9_meet_158 : decode cX9_meet 158 = .ok (.iaload, 1) := zq_0 zo_46 zkX9_meet_128 30 rfl rfl
theorem dX9_meet_159 : decode cX9_meet 159 = .ok (.ireturn, 1) := zq_0 zo_172 zkX9_meet_128 31 rfl rfl
theorem zkX9_meet_160 : zqc cX9_meet 160 [42, 180, 0, 41, 180, 1, 131, 172, 42, 180, 0, 41, 180, 1, 134, 172, 16, 254, 172] := zq_of 19 (by decide +kernel)
theorem dX9_meet_160 : decode cX9_meet 160 = .ok (.aload_n 0, 1) := zq_0 zo_42 zkX9_meet_160 0 rfl rfl
theorem dX9_meet_161 : decode cX9_meet 161 = .ok (.getfield 41, 3) := zq_2 zo_180 zkX9_meet_160 1 rfl rfl 0 41 rfl rfl _ rfl
theorem dX9_meet_164 : decode cX9_meet 164 = .ok (.getfield 387, 3) := zq_2 zo_180 zkX9_meet_160 4 rfl rfl 1 131 rfl rfl _ rfl
theorem dX9_meet_167 : decode cX9_meet 167 = .ok (.ireturn, 1) := zq_0 zo_172 zkX9_meet_160 7 rfl rfl
theorem dX9_meet_168 : decode cX9_meet 168 = .ok (.aload_n 0, 1) := zq_0 zo_42 zkX9_meet_160 8 rfl rfl
theorem dX9_meet_169 : decode cX9_meet 169 = .ok (.getfield 41, 3) := zq_2 zo_180 zkX9_meet_160 9 rfl rfl 0 41 rfl rfl _ rfl
theorem dX9_meet_172 : decode cX9_meet 172 = .ok (.getfield 390, 3) := zq_2 zo_180 zkX9_meet_160 12 rfl rfl 1 134 rfl rfl _ rfl
theorem dX9_meet_175 : decode cX9_meet 175 = .ok (.ireturn, 1) := zq_0 zo_172 zkX9_meet_160 15 rfl rfl
theorem dX9_meet_176 : decode cX9_meet 176 = .ok (.bipush (-2), 2) := zq_1s zo_16 zkX9_meet_160 16 rfl rfl 254 rfl _ (by decide +kernel)
theorem dX9_meet_178 : decode cX9_meet 178 = .ok (.ireturn, 1) := zq_0 zo_172 zkX9_meet_160 18 rfl rfl
theorem zkX9_risk_0 : zqc cX9_risk 0 [42, 180, 0, 12, 27, 182, 0, 121, 78, 45, 198, 0, 20, 45, 180, 0, 143, 2, 159, 0, 12, 28, 155, 0, 8, 28, 4, 164, 0, 5, 2, 172, 42, 180] := zq_of 34 (by decide +kernel)
theorem dX9_risk_0 : decode cX9_risk 0 = .ok (.aload_n 0, 1) := zq_0 zo_42 zkX9_risk_0 0 rfl rfl
theorem dX9_risk_1 : decode cX9_risk 1 = .ok (.getfield 12, 3) := zq_2 zo_180 zkX9_risk_0 1 rfl rfl 0 12 rfl rfl _ rfl
theorem dX9_risk_4 : decode cX9_risk 4 = .ok (.iload_n 1, 1) := zq_0 zo_27 zkX9_risk_0 4 rfl rfl
theorem dX9_risk_5 : decode cX9_risk 5 = .ok (.invokevirtual 121, 3) := zq_2 zo_182 zkX9_risk_0 5 rfl rfl 0 121 rfl rfl _ rfl
theorem dX9_risk_8 : decode cX9_risk 8 = .ok (.astore_n 3, 1) := zq_0 zo_78 zkX9_risk_0 8 rfl rfl
theorem dX9_risk_9 : decode cX9_risk 9 = .ok (.aload_n 3, 1) := zq_0 zo_45 zkX9_risk_0 9 rfl rfl
theorem dX9_risk_10 : decode cX9_risk 10 = .ok (.ifnull 20, 3) := zq_2s zo_198 zkX9_risk_0 10 rfl rfl 0 20 rfl rfl _ (by decide +kernel)
theorem dX9_risk_13 : decode cX9_risk 13 = .ok (.aload_n 3, 1) := zq_0 zo_45 zkX9_risk_0 13 rfl rfl
theorem dX9_risk_14 : decode cX9_risk 14 = .ok (.getfield 143, 3) := zq_2 zo_180 zkX9_risk_0 14 rfl rfl 0 143 rfl rfl _ rfl
theorem dX9_risk_17 : decode cX9_risk 17 = .ok (.iconst (-1), 1) := zq_0 zo_2 zkX9_risk_0 17 rfl rfl
theorem dX9_risk_18 : decode cX9_risk 18 = .ok (.if_icmp .eq 12, 3) := zq_2s zo_159 zkX9_risk_0 18 rfl rfl 0 12 rfl rfl _ (by decide +kernel)
theorem dX9_risk_21 : decode cX9_risk 21 = .ok (.iload_n 2, 1) := zq_0 zo_28 zkX9_risk_0 21 rfl rfl
theorem dX9_risk_22 : decode cX9_risk 22 = .ok (.ifCond .lt 8, 3) := zq_2s zo_155 zkX9_risk_0 22 rfl rfl 0 8 rfl rfl _ (by decide +kernel)
theorem dX9_risk_25 : decode cX9_risk 25 = .ok (.iload_n 2, 1) := zq_0 zo_28 zkX9_risk_0 25 rfl rfl
theorem dX9_risk_26 : decode cX9_risk 26 = .ok (.iconst 1, 1) := zq_0 zo_4 zkX9_risk_0 26 rfl rfl
theorem dX9_risk_27 : decode cX9_risk 27 = .ok (.if_icmp .le 5, 3) := zq_2s zo_164 zkX9_risk_0 27 rfl rfl 0 5 rfl rfl _ (by decide +kernel)
theorem dX9_risk_30 : decode cX9_risk 30 = .ok (.iconst (-1), 1) := zq_0 zo_2 zkX9_risk_0 30 rfl rfl
theorem dX9_risk_31 : decode cX9_risk 31 = .ok (.ireturn, 1) := zq_0 zo_172 zkX9_risk_0 31 rfl rfl
theorem zkX9_risk_32 : zqc cX9_risk 32 [42, 180, 0, 41, 45, 3, 182, 1, 122, 42, 180, 0, 41, 180, 1, 131, 54, 4, 3, 54, 5, 3, 54, 6, 3, 54, 7, 21, 7, 45, 180, 0, 125, 4] := zq_of 34 (by decide +kernel)
theorem dX9_risk_32 : decode cX9_risk 32 = .ok (.aload_n 0, 1) := zq_0 zo_42 zkX9_risk_32 0 rfl rfl
theorem dX9_risk_33 : decode cX9_risk 33 = .ok (.getfield 41, 3) := zq_2 zo_180 zkX9_risk_32 1 rfl rfl 0 41 rfl rfl _ rfl
theorem dX9_risk_36 : decode cX9_risk 36 = .ok (.aload_n 3, 1) := zq_0 zo_45 zkX9_risk_32 4 rfl rfl
theorem dX9_risk_37 : decode cX9_risk 37 = .ok (.iconst 0, 1) := zq_0 zo_3 zkX9_risk_32 5 rfl rfl
theorem dX9_risk_38 : decode cX9_risk 38 = .ok (.invokevirtual 378, 3) := zq_2 zo_182 zkX9_risk_32 6 rfl rfl 1 122 rfl rfl _ rfl
theorem dX9_risk_41 : decode cX9_risk 41 = .ok (.aload_n 0, 1) := zq_0 zo_42 zkX9_risk_32 9 rfl rfl
theorem dX9_risk_42 : decode cX9_risk 42 = .ok (.getfield 41, 3) := zq_2 zo_180 zkX9_risk_32 10 rfl rfl 0 41 rfl rfl _ rfl
theorem dX9_risk_45 : decode cX9_risk 45 = .ok (.getfield 387, 3) := zq_2 zo_180 zkX9_risk_32 13 rfl rfl 1 131 rfl rfl _ rfl
theorem dX9_risk_48 : decode cX9_risk 48 = .ok (.istore 4, 2) := zq_1 zo_54 zkX9_risk_32 16 rfl rfl 4 rfl
theorem dX9_risk_50 : decode cX9_risk 50 = .ok (.iconst 0, 1) := zq_0 zo_3 zkX9_risk_32 18 rfl rfl
theorem dX9_risk_51 : decode cX9_risk 51 = .ok (.istore 5, 2) := zq_1 zo_54 zkX9_risk_32 19 rfl rfl 5 rfl
theorem dX9_risk_53 : decode cX9_risk 53 = .ok (.iconst 0, 1) := zq_0 zo_3 zkX9_risk_32 21 rfl rfl
theorem dX9_risk_54 : decode cX9_risk 54 = .ok (.istore 6, 2) := zq_1 zo_54 zkX9_risk_32 22 rfl rfl 6 rfl
theorem dX9_risk_56 : decode cX9_risk 56 = .ok (.iconst 0, 1) := zq_0 zo_3 zkX9_risk_32 24 rfl rfl
theorem dX9_risk_57 : decode cX9_risk 57 = .ok (.istore 7, 2) := zq_1 zo_54 zkX9_risk_32 25 rfl rfl 7 rfl
theorem dX9_risk_59 : decode cX9_risk 59 = .ok (.iload 7, 2) := zq_1 zo_21 zkX9_risk_32 27 rfl rfl 7 rfl
theorem dX9_risk_61 : decode cX9_risk 61 = .ok (.aload_n 3, 1) := zq_0 zo_45 zkX9_risk_32 29 rfl rfl
theorem dX9_risk_62 : decode cX9_risk 62 = .ok (.getfield 125, 3) := zq_2 zo_180 zkX9_risk_32 30 rfl rfl 0 125 rfl rfl _ rfl
theorem zkX9_risk_64 : zqc cX9_risk 64 [125, 4, 100, 162, 0, 70, 42, 180, 0, 41, 45, 4, 21, 7, 120, 182, 1, 122, 21, 5, 42, 180, 0, 41, 180, 1, 134, 2, 160, 0, 7, 3, 167, 0] := zq_of 34 (by decide +kernel)
theorem dX9_risk_65 : decode cX9_risk 65 = .ok (.iconst 1, 1) := zq_0 zo_4 zkX9_risk_64 1 rfl rfl
theorem dX9_risk_66 : decode cX9_risk 66 = .ok (.isub, 1) := zq_0 zo_100 zkX9_risk_64 2 rfl rfl
theorem dX9_risk_67 : decode cX9_risk 67 = .ok (.if_icmp .ge 70, 3) := zq_2s zo_162 zkX9_risk_64 3 rfl rfl 0 70 rfl rfl _ (by decide +kernel)
theorem dX9_risk_70 : decode cX9_risk 70 = .ok (.aload_n 0, 1) := zq_0 zo_42 zkX9_risk_64 6 rfl rfl
theorem dX9_risk_71 : decode cX9_risk 71 = .ok (.getfield 41, 3) := zq_2 zo_180 zkX9_risk_64 7 rfl rfl 0 41 rfl rfl _ rfl
theorem dX9_risk_74 : decode cX9_risk 74 = .ok (.aload_n 3, 1) := zq_0 zo_45 zkX9_risk_64 10 rfl rfl
theorem dX9_risk_75 : decode cX9_risk 75 = .ok (.iconst 1, 1) := zq_0 zo_4 zkX9_risk_64 11 rfl rfl
theorem dX9_risk_76 : decode cX9_risk 76 = .ok (.iload 7, 2) := zq_1 zo_21 zkX9_risk_64 12 rfl rfl 7 rfl
theorem dX9_risk_78 : decode cX9_risk 78 = .ok (.ishl, 1) := zq_0 zo_120 zkX9_risk_64 14 rfl rfl
theorem dX9_risk_79 : decode cX9_risk 79 = .ok (.invokevirtual 378, 3) := zq_2 zo_182 zkX9_risk_64 15 rfl rfl 1 122 rfl rfl _ rfl
theorem dX9_risk_82 : decode cX9_risk 82 = .ok (.iload 5, 2) := zq_1 zo_21 zkX9_risk_64 18 rfl rfl 5 rfl
theorem dX9_risk_84 : decode cX9_risk 84 = .ok (.aload_n 0, 1) := zq_0 zo_42 zkX9_risk_64 20 rfl rfl
theorem dX9_risk_85 : decode cX9_risk 85 = .ok (.getfield 41, 3) := zq_2 zo_180 zkX9_risk_64 21 rfl rfl 0 41 rfl rfl _ rfl
theorem dX9_risk_88 : decode cX9_risk 88 = .ok (.getfield 390, 3) := zq_2 zo_180 zkX9_risk_64 24 rfl rfl 1 134 rfl rfl _ rfl
theorem dX9_risk_91 : decode cX9_risk 91 = .ok (.iconst (-1), 1) := zq_0 zo_2 zkX9_risk_64 27 rfl rfl
theorem dX9_risk_92 : decode cX9_risk 92 = .ok (.if_icmp .ne 7, 3) := zq_2s zo_160 zkX9_risk_64 28 rfl rfl 0 7 rfl rfl _ (by decide +kernel)
theorem dX9_risk_95 : decode cX9_risk 95 = .ok (.iconst 0, 1) := zq_0 zo_3 zkX9_risk_64 31 rfl rfl
theorem zkX9_risk_96 : zqc cX9_risk 96 [167, 0, 7, 4, 21, 7, 120, 128, 54, 5, 21, 6, 42, 180, 0, 41, 180, 1, 131, 21, 4, 164, 0, 10, 4, 21, 7, 120, 167, 0, 4, 3, 128, 54] := zq_of 34 (by decide +kernel)
theorem dX9_risk_96 : decode cX9_risk 96 = .ok (.goto 7, 3) := zq_2s zo_167 zkX9_risk_96 0 rfl rfl 0 7 rfl rfl _ (by decide +kernel)
theorem dX9_risk_99 : decode cX9_risk 99 = .ok (.iconst 1, 1) := zq_0 zo_4 zkX9_risk_96 3 rfl rfl
theorem dX9_risk_100 : decode cX9_risk 100 = .ok (.iload 7, 2) := zq_1 zo_21 zkX9_risk_96 4 rfl rfl 7 rfl
theorem dX9_risk_102 : decode cX9_risk 102 = .ok (.ishl, 1) := zq_0 zo_120 zkX9_risk_96 6 rfl rfl
theorem dX9_risk_103 : decode cX9_risk 103 = .ok (.ior, 1) := zq_0 zo_128 zkX9_risk_96 7 rfl rfl
theorem dX9_risk_104 : decode cX9_risk 104 = .ok (.istore 5, 2) := zq_1 zo_54 zkX9_risk_96 8 rfl rfl 5 rfl
theorem dX9_risk_106 : decode cX9_risk 106 = .ok (.iload 6, 2) := zq_1 zo_21 zkX9_risk_96 10 rfl rfl 6 rfl
theorem dX9_risk_108 : decode cX9_risk 108 = .ok (.aload_n 0, 1) := zq_0 zo_42 zkX9_risk_96 12 rfl rfl
theorem dX9_risk_109 : decode cX9_risk 109 = .ok (.getfield 41, 3) := zq_2 zo_180 zkX9_risk_96 13 rfl rfl 0 41 rfl rfl _ rfl
theorem dX9_risk_112 : decode cX9_risk 112 = .ok (.getfield 387, 3) := zq_2 zo_180 zkX9_risk_96 16 rfl rfl 1 131 rfl rfl _ rfl
theorem dX9_risk_115 : decode cX9_risk 115 = .ok (.iload 4, 2) := zq_1 zo_21 zkX9_risk_96 19 rfl rfl 4 rfl
theorem dX9_risk_117 : decode cX9_risk 117 = .ok (.if_icmp .le 10, 3) := zq_2s zo_164 zkX9_risk_96 21 rfl rfl 0 10 rfl rfl _ (by decide +kernel)
theorem dX9_risk_120 : decode cX9_risk 120 = .ok (.iconst 1, 1) := zq_0 zo_4 zkX9_risk_96 24 rfl rfl
theorem dX9_risk_121 : decode cX9_risk 121 = .ok (.iload 7, 2) := zq_1 zo_21 zkX9_risk_96 25 rfl rfl 7 rfl
theorem dX9_risk_123 : decode cX9_risk 123 = .ok (.ishl, 1) := zq_0 zo_120 zkX9_risk_96 27 rfl rfl
theorem dX9_risk_124 : decode cX9_risk 124 = .ok (.goto 4, 3) := zq_2s zo_167 zkX9_risk_96 28 rfl rfl 0 4 rfl rfl _ (by decide +kernel)
theorem dX9_risk_127 : decode cX9_risk 127 = .ok (.iconst 0, 1) := zq_0 zo_3 zkX9_risk_96 31 rfl rfl
theorem zkX9_risk_128 : zqc cX9_risk 128 [128, 54, 6, 132, 7, 1, 167, 255, 181, 28, 154, 0, 8, 21, 5, 167, 0, 5, 21, 6, 172] := zq_of 21 (by decide +kernel)
theorem dX9_risk_128 : decode cX9_risk 128 = .ok (.ior, 1) := zq_0 zo_128 zkX9_risk_128 0 rfl rfl
theorem dX9_risk_129 : decode cX9_risk 129 = .ok (.istore 6, 2) := zq_1 zo_54 zkX9_risk_128 1 rfl rfl 6 rfl
theorem dX9_risk_131 : decode cX9_risk 131 = .ok (.iinc 7 1, 3) := zq_ii zo_132 zkX9_risk_128 3 rfl rfl 7 1 rfl rfl _ (by decide +kernel)
theorem dX9_risk_134 : decode cX9_risk 134 = .ok (.goto (-75), 3) := zq_2s zo_167 zkX9_risk_128 6 rfl rfl 255 181 rfl rfl _ (by decide +kernel)
theorem dX9_risk_137 : decode cX9_risk 137 = .ok (.iload_n 2, 1) := zq_0 zo_28 zkX9_risk_128 9 rfl rfl
theorem dX9_risk_138 : decode cX9_risk 138 = .ok (.ifCond .ne 8, 3) := zq_2s zo_154 zkX9_risk_128 10 rfl rfl 0 8 rfl rfl _ (by decide +kernel)
theorem dX9_risk_141 : decode cX9_risk 141 = .ok (.iload 5, 2) := zq_1 zo_21 zkX9_risk_128 13 rfl rfl 5 rfl
theorem dX9_risk_143 : decode cX9_risk 143 = .ok (.goto 5, 3) := zq_2s zo_167 zkX9_risk_128 15 rfl rfl 0 5 rfl rfl _ (by decide +kernel)
theorem dX9_risk_146 : decode cX9_risk 146 = .ok (.iload 6, 2) := zq_1 zo_21 zkX9_risk_128 18 rfl rfl 6 rfl
theorem dX9_risk_148 : decode cX9_risk 148 = .ok (.ireturn, 1) := zq_0 zo_172 zkX9_risk_128 20 rfl rfl
theorem zkX9_isSort_0 : zqc cX9_isSort 0 [26, 155, 0, 12, 26, 5, 163, 0, 7, 4, 167, 0, 4, 3, 172] := zq_of 15 (by decide +kernel)
theorem dX9_isSort_0 : decode cX9_isSort 0 = .ok (.iload_n 0, 1) := zq_0 zo_26 zkX9_isSort_0 0 rfl rfl
theorem dX9_isSort_1 : decode cX9_isSort 1 = .ok (.ifCond .lt 12, 3) := zq_2s zo_155 zkX9_isSort_0 1 rfl rfl 0 12 rfl rfl _ (by decide +kernel)
theorem dX9_isSort_4 : decode cX9_isSort 4 = .ok (.iload_n 0, 1) := zq_0 zo_26 zkX9_isSort_0 4 rfl rfl
theorem dX9_isSort_5 : decode cX9_isSort 5 = .ok (.iconst 2, 1) := zq_0 zo_5 zkX9_isSort_0 5 rfl rfl
theorem dX9_isSort_6 : decode cX9_isSort 6 = .ok (.if_icmp .gt 7, 3) := zq_2s zo_163 zkX9_isSort_0 6 rfl rfl 0 7 rfl rfl _ (by decide +kernel)
theorem dX9_isSort_9 : decode cX9_isSort 9 = .ok (.iconst 1, 1) := zq_0 zo_4 zkX9_isSort_0 9 rfl rfl
theorem dX9_isSort_10 : decode cX9_isSort 10 = .ok (.goto 4, 3) := zq_2s zo_167 zkX9_isSort_0 10 rfl rfl 0 4 rfl rfl _ (by decide +kernel)
theorem dX9_isSort_13 : decode cX9_isSort 13 = .ok (.iconst 0, 1) := zq_0 zo_3 zkX9_isSort_0 13 rfl rfl
theorem dX9_isSort_14 : decode cX9_isSort 14 = .ok (.ireturn, 1) := zq_0 zo_172 zkX9_isSort_0 14 rfl rfl
theorem zkX9_isWeek_0 : zqc cX9_isWeek 0 [26, 155, 0, 13, 26, 16, 10, 162, 0, 7, 4, 167, 0, 4, 3, 172] := zq_of 16 (by decide +kernel)
theorem dX9_isWeek_0 : decode cX9_isWeek 0 = .ok (.iload_n 0, 1) := zq_0 zo_26 zkX9_isWeek_0 0 rfl rfl
theorem dX9_isWeek_1 : decode cX9_isWeek 1 = .ok (.ifCond .lt 13, 3) := zq_2s zo_155 zkX9_isWeek_0 1 rfl rfl 0 13 rfl rfl _ (by decide +kernel)
theorem dX9_isWeek_4 : decode cX9_isWeek 4 = .ok (.iload_n 0, 1) := zq_0 zo_26 zkX9_isWeek_0 4 rfl rfl
theorem dX9_isWeek_5 : decode cX9_isWeek 5 = .ok (.bipush 10, 2) := zq_1s zo_16 zkX9_isWeek_0 5 rfl rfl 10 rfl _ (by decide +kernel)
theorem dX9_isWeek_7 : decode cX9_isWeek 7 = .ok (.if_icmp .ge 7, 3) := zq_2s zo_162 zkX9_isWeek_0 7 rfl rfl 0 7 rfl rfl _ (by decide +kernel)
theorem dX9_isWeek_10 : decode cX9_isWeek 10 = .ok (.iconst 1, 1) := zq_0 zo_4 zkX9_isWeek_0 10 rfl rfl
theorem dX9_isWeek_11 : decode cX9_isWeek 11 = .ok (.goto 4, 3) := zq_2s zo_167 zkX9_isWeek_0 11 rfl rfl 0 4 rfl rfl _ (by decide +kernel)
theorem dX9_isWeek_14 : decode cX9_isWeek 14 = .ok (.iconst 0, 1) := zq_0 zo_3 zkX9_isWeek_0 14 rfl rfl
theorem dX9_isWeek_15 : decode cX9_isWeek 15 = .ok (.ireturn, 1) := zq_0 zo_172 zkX9_isWeek_0 15 rfl rfl
theorem zkX9_isHundredths_0 : zqc cX9_isHundredths 0 [26, 155, 0, 13, 26, 16, 100, 163, 0, 7, 4, 167, 0, 4, 3, 172] := zq_of 16 (by decide +kernel)
theorem dX9_isHundredths_0 : decode cX9_isHundredths 0 = .ok (.iload_n 0, 1) := zq_0 zo_26 zkX9_isHundredths_0 0 rfl rfl
theorem dX9_isHundredths_1 : decode cX9_isHundredths 1 = .ok (.ifCond .lt 13, 3) := zq_2s zo_155 zkX9_isHundredths_0 1 rfl rfl 0 13 rfl rfl _ (by decide +kernel)
theorem dX9_isHundredths_4 : decode cX9_isHundredths 4 = .ok (.iload_n 0, 1) := zq_0 zo_26 zkX9_isHundredths_0 4 rfl rfl
theorem dX9_isHundredths_5 : decode cX9_isHundredths 5 = .ok (.bipush 100, 2) := zq_1s zo_16 zkX9_isHundredths_0 5 rfl rfl 100 rfl _ (by decide +kernel)
theorem dX9_isHundredths_7 : decode cX9_isHundredths 7 = .ok (.if_icmp .gt 7, 3) := zq_2s zo_163 zkX9_isHundredths_0 7 rfl rfl 0 7 rfl rfl _ (by decide +kernel)
theorem dX9_isHundredths_10 : decode cX9_isHundredths 10 = .ok (.iconst 1, 1) := zq_0 zo_4 zkX9_isHundredths_0 10 rfl rfl
theorem dX9_isHundredths_11 : decode cX9_isHundredths 11 = .ok (.goto 4, 3) := zq_2s zo_167 zkX9_isHundredths_0 11 rfl rfl 0 4 rfl rfl _ (by decide +kernel)
theorem dX9_isHundredths_14 : decode cX9_isHundredths 14 = .ok (.iconst 0, 1) := zq_0 zo_3 zkX9_isHundredths_0 14 rfl rfl
theorem dX9_isHundredths_15 : decode cX9_isHundredths 15 = .ok (.ireturn, 1) := zq_0 zo_172 zkX9_isHundredths_0 15 rfl rfl
theorem zkX9_placeFor_0 : zqc cX9_placeFor 0 [27, 184, 0, 109, 154, 0, 6, 16, 254, 172, 42, 180, 0, 12, 27, 182, 0, 113, 62, 28, 2, 160, 0, 15, 29, 5, 162, 0, 7, 29, 167, 0, 5, 16] := zq_of 34 (by decide +kernel)
theorem dX9_placeFor_0 : decode cX9_placeFor 0 = .ok (.iload_n 1, 1) := zq_0 zo_27 zkX9_placeFor_0 0 rfl rfl
theorem dX9_placeFor_1 : decode cX9_placeFor 1 = .ok (.invokestatic 109, 3) := zq_2 zo_184 zkX9_placeFor_0 1 rfl rfl 0 109 rfl rfl _ rfl
theorem dX9_placeFor_4 : decode cX9_placeFor 4 = .ok (.ifCond .ne 6, 3) := zq_2s zo_154 zkX9_placeFor_0 4 rfl rfl 0 6 rfl rfl _ (by decide +kernel)
theorem dX9_placeFor_7 : decode cX9_placeFor 7 = .ok (.bipush (-2), 2) := zq_1s zo_16 zkX9_placeFor_0 7 rfl rfl 254 rfl _ (by decide +kernel)
theorem dX9_placeFor_9 : decode cX9_placeFor 9 = .ok (.ireturn, 1) := zq_0 zo_172 zkX9_placeFor_0 9 rfl rfl
theorem dX9_placeFor_10 : decode cX9_placeFor 10 = .ok (.aload_n 0, 1) := zq_0 zo_42 zkX9_placeFor_0 10 rfl rfl
theorem dX9_placeFor_11 : decode cX9_placeFor 11 = .ok (.getfield 12, 3) := zq_2 zo_180 zkX9_placeFor_0 11 rfl rfl 0 12 rfl rfl _ rfl
theorem dX9_placeFor_14 : decode cX9_placeFor 14 = .ok (.iload_n 1, 1) := zq_0 zo_27 zkX9_placeFor_0 14 rfl rfl
theorem dX9_placeFor_15 : decode cX9_placeFor 15 = .ok (.invokevirtual 113, 3) := zq_2 zo_182 zkX9_placeFor_0 15 rfl rfl 0 113 rfl rfl _ rfl
theorem dX9_placeFor_18 : decode cX9_placeFor 18 = .ok (.istore_n 3, 1) := zq_0 zo_62 zkX9_placeFor_0 18 rfl rfl
theorem dX9_placeFor_19 : decode cX9_placeFor 19 = .ok (.iload_n 2, 1) := zq_0 zo_28 zkX9_placeFor_0 19 rfl rfl
theorem dX9_placeFor_20 : decode cX9_placeFor 20 = .ok (.iconst (-1), 1) := zq_0 zo_2 zkX9_placeFor_0 20 rfl rfl
theorem dX9_placeFor_21 : decode cX9_placeFor 21 = .ok (.if_icmp .ne 15, 3) := zq_2s zo_160 zkX9_placeFor_0 21 rfl rfl 0 15 rfl rfl _ (by decide +kernel)
theorem dX9_placeFor_24 : decode cX9_placeFor 24 = .ok (.iload_n 3, 1) := zq_0 zo_29 zkX9_placeFor_0 24 rfl rfl
theorem dX9_placeFor_25 : decode cX9_placeFor 25 = .ok (.iconst 2, 1) := zq_0 zo_5 zkX9_placeFor_0 25 rfl rfl
theorem dX9_placeFor_26 : decode cX9_placeFor 26 = .ok (.if_icmp .ge 7, 3) := zq_2s zo_162 zkX9_placeFor_0 26 rfl rfl 0 7 rfl rfl _ (by decide +kernel)
theorem dX9_placeFor_29 : decode cX9_placeFor 29 = .ok (.iload_n 3, 1) := zq_0 zo_29 zkX9_placeFor_0 29 rfl rfl
theorem dX9_placeFor_30 : decode cX9_placeFor 30 = .ok (.goto 5, 3) := zq_2s zo_167 zkX9_placeFor_0 30 rfl rfl 0 5 rfl rfl _ (by decide +kernel)
theorem zkX9_placeFor_32 : zqc cX9_placeFor 32 [5, 16, 254, 172, 28, 155, 0, 12, 28, 29, 162, 0, 7, 28, 167, 0, 5, 16, 254, 172] := zq_of 20 (by decide +kernel)
theorem dX9_placeFor_33 : decode cX9_placeFor 33 = .ok (.bipush (-2), 2) := zq_1s zo_16 zkX9_placeFor_32 1 rfl rfl 254 rfl _ (by decide +kernel)
theorem dX9_placeFor_35 : decode cX9_placeFor 35 = .ok (.ireturn, 1) := zq_0 zo_172 zkX9_placeFor_32 3 rfl rfl
theorem dX9_placeFor_36 : decode cX9_placeFor 36 = .ok (.iload_n 2, 1) := zq_0 zo_28 zkX9_placeFor_32 4 rfl rfl
theorem dX9_placeFor_37 : decode cX9_placeFor 37 = .ok (.ifCond .lt 12, 3) := zq_2s zo_155 zkX9_placeFor_32 5 rfl rfl 0 12 rfl rfl _ (by decide +kernel)
theorem dX9_placeFor_40 : decode cX9_placeFor 40 = .ok (.iload_n 2, 1) := zq_0 zo_28 zkX9_placeFor_32 8 rfl rfl
theorem dX9_placeFor_41 : decode cX9_placeFor 41 = .ok (.iload_n 3, 1) := zq_0 zo_29 zkX9_placeFor_32 9 rfl rfl
theorem dX9_placeFor_42 : decode cX9_placeFor 42 = .ok (.if_icmp .ge 7, 3) := zq_2s zo_162 zkX9_placeFor_32 10 rfl rfl 0 7 rfl rfl _ (by decide +kernel)
theorem dX9_placeFor_45 : decode cX9_placeFor 45 = .ok (.iload_n 2, 1) := zq_0 zo_28 zkX9_placeFor_32 13 rfl rfl
theorem dX9_placeFor_46 : decode cX9_placeFor 46 = .ok (.goto 5, 3) := zq_2s zo_167 zkX9_placeFor_32 14 rfl rfl 0 5 rfl rfl _ (by decide +kernel)
theorem dX9_placeFor_49 : decode cX9_placeFor 49 = .ok (.bipush (-2), 2) := zq_1s zo_16 zkX9_placeFor_32 17 rfl rfl 254 rfl _ (by decide +kernel)
theorem dX9_placeFor_51 : decode cX9_placeFor 51 = .ok (.ireturn, 1) := zq_0 zo_172 zkX9_placeFor_32 19 rfl rfl
theorem zkX9_pairAnswer_0 : zqc cX9_pairAnswer 0 [42, 199, 0, 6, 16, 254, 172, 27, 2, 160, 0, 17, 28, 154, 0, 10, 42, 180, 1, 137, 167, 0, 5, 16, 254, 172, 27, 155, 0, 20, 27, 42, 180, 1] := zq_of 34 (by decide +kernel)
theorem dX9_pairAnswer_0 : decode cX9_pairAnswer 0 = .ok (.aload_n 0, 1) := zq_0 zo_42 zkX9_pairAnswer_0 0 rfl rfl
theorem dX9_pairAnswer_1 : decode cX9_pairAnswer 1 = .ok (.ifnonnull 6, 3) := zq_2s zo_199 zkX9_pairAnswer_0 1 rfl rfl 0 6 rfl rfl _ (by decide +kernel)
theorem dX9_pairAnswer_4 : decode cX9_pairAnswer 4 = .ok (.bipush (-2), 2) := zq_1s zo_16 zkX9_pairAnswer_0 4 rfl rfl 254 rfl _ (by decide +kernel)
theorem dX9_pairAnswer_6 : decode cX9_pairAnswer 6 = .ok (.ireturn, 1) := zq_0 zo_172 zkX9_pairAnswer_0 6 rfl rfl
theorem dX9_pairAnswer_7 : decode cX9_pairAnswer 7 = .ok (.iload_n 1, 1) := zq_0 zo_27 zkX9_pairAnswer_0 7 rfl rfl
theorem dX9_pairAnswer_8 : decode cX9_pairAnswer 8 = .ok (.iconst (-1), 1) := zq_0 zo_2 zkX9_pairAnswer_0 8 rfl rfl
theorem dX9_pairAnswer_9 : decode cX9_pairAnswer 9 = .ok (.if_icmp .ne 17, 3) := zq_2s zo_160 zkX9_pairAnswer_0 9 rfl rfl 0 17 rfl rfl _ (by decide +kernel)
theorem dX9_pairAnswer_12 : decode cX9_pairAnswer 12 = .ok (.iload_n 2, 1) := zq_0 zo_28 zkX9_pairAnswer_0 12 rfl rfl
theorem dX9_pairAnswer_13 : decode cX9_pairAnswer 13 = .ok (.ifCond .ne 10, 3) := zq_2s zo_154 zkX9_pairAnswer_0 13 rfl rfl 0 10 rfl rfl _ (by decide +kernel)
theorem dX9_pairAnswer_16 : decode cX9_pairAnswer 16 = .ok (.aload_n 0, 1) := zq_0 zo_42 zkX9_pairAnswer_0 16 rfl rfl
theorem dX9_pairAnswer_17 : decode cX9_pairAnswer 17 = .ok (.getfield 393, 3) := zq_2 zo_180 zkX9_pairAnswer_0 17 rfl rfl 1 137 rfl rfl _ rfl
theorem dX9_pairAnswer_20 : decode cX9_pairAnswer 20 = .ok (.goto 5, 3) := zq_2s zo_167 zkX9_pairAnswer_0 20 rfl rfl 0 5 rfl rfl _ (by decide +kernel)
theorem dX9_pairAnswer_23 : decode cX9_pairAnswer 23 = .ok (.bipush (-2), 2) := zq_1s zo_16 zkX9_pairAnswer_0 23 rfl rfl 254 rfl _ (by decide +kernel)
theorem dX9_pairAnswer_25 : decode cX9_pairAnswer 25 = .ok (.ireturn, 1) := zq_0 zo_172 zkX9_pairAnswer_0 25 rfl rfl
theorem dX9_pairAnswer_26 : decode cX9_pairAnswer 26 = .ok (.iload_n 1, 1) := zq_0 zo_27 zkX9_pairAnswer_0 26 rfl rfl
theorem dX9_pairAnswer_27 : decode cX9_pairAnswer 27 = .ok (.ifCond .lt 20, 3) := zq_2s zo_155 zkX9_pairAnswer_0 27 rfl rfl 0 20 rfl rfl _ (by decide +kernel)
theorem dX9_pairAnswer_30 : decode cX9_pairAnswer 30 = .ok (.iload_n 1, 1) := zq_0 zo_27 zkX9_pairAnswer_0 30 rfl rfl
theorem dX9_pairAnswer_31 : decode cX9_pairAnswer 31 = .ok (.aload_n 0, 1) := zq_0 zo_42 zkX9_pairAnswer_0 31 rfl rfl
theorem zkX9_pairAnswer_32 : zqc cX9_pairAnswer 32 [180, 1, 137, 162, 0, 12, 28, 155, 0, 8, 28, 4, 164, 0, 6, 16, 254, 172, 28, 154, 0, 12, 42, 180, 1, 142, 27, 46, 167, 0, 9, 42, 180, 1] := zq_of 34 (by decide +kernel)
theorem dX9_pairAnswer_32 : decode cX9_pairAnswer 32 = .ok (.getfield 393, 3) := zq_2 zo_180 zkX9_pairAnswer_32 0 rfl rfl 1 137 rfl rfl _ rfl
theorem dX9_pairAnswer_35 : decode cX9_pairAnswer 35 = .ok (.if_icmp .ge 12, 3) := zq_2s zo_162 zkX9_pairAnswer_32 3 rfl rfl 0 12 rfl rfl _ (by decide +kernel)
theorem dX9_pairAnswer_38 : decode cX9_pairAnswer 38 = .ok (.iload_n 2, 1) := zq_0 zo_28 zkX9_pairAnswer_32 6 rfl rfl
theorem dX9_pairAnswer_39 : decode cX9_pairAnswer 39 = .ok (.ifCond .lt 8, 3) := zq_2s zo_155 zkX9_pairAnswer_32 7 rfl rfl 0 8 rfl rfl _ (by decide +kernel)
theorem dX9_pairAnswer_42 : decode cX9_pairAnswer 42 = .ok (.iload_n 2, 1) := zq_0 zo_28 zkX9_pairAnswer_32 10 rfl rfl
theorem dX9_pairAnswer_43 : decode cX9_pairAnswer 43 = .ok (.iconst 1, 1) := zq_0 zo_4 zkX9_pairAnswer_32 11 rfl rfl
theorem dX9_pairAnswer_44 : decode cX9_pairAnswer 44 = .ok (.if_icmp .le 6, 3) := zq_2s zo_164 zkX9_pairAnswer_32 12 rfl rfl 0 6 rfl rfl _ (by decide +kernel)
theorem dX9_pairAnswer_47 : decode cX9_pairAnswer 47 = .ok (.bipush (-2), 2) := zq_1s zo_16 zkX9_pairAnswer_32 15 rfl rfl 254 rfl _ (by decide +kernel)
theorem dX9_pairAnswer_49 : decode cX9_pairAnswer 49 = .ok (.ireturn, 1) := zq_0 zo_172 zkX9_pairAnswer_32 17 rfl rfl
theorem dX9_pairAnswer_50 : decode cX9_pairAnswer 50 = .ok (.iload_n 2, 1) := zq_0 zo_28 zkX9_pairAnswer_32 18 rfl rfl
theorem dX9_pairAnswer_51 : decode cX9_pairAnswer 51 = .ok (.ifCond .ne 12, 3) := zq_2s zo_154 zkX9_pairAnswer_32 19 rfl rfl 0 12 rfl rfl _ (by decide +kernel)
theorem dX9_pairAnswer_54 : decode cX9_pairAnswer 54 = .ok (.aload_n 0, 1) := zq_0 zo_42 zkX9_pairAnswer_32 22 rfl rfl
theorem dX9_pairAnswer_55 : decode cX9_pairAnswer 55 = .ok (.getfield 398, 3) := zq_2 zo_180 zkX9_pairAnswer_32 23 rfl rfl 1 142 rfl rfl _ rfl
theorem dX9_pairAnswer_58 : decode cX9_pairAnswer 58 = .ok (.iload_n 1, 1) := zq_0 zo_27 zkX9_pairAnswer_32 26 rfl rfl
theorem dX9_pairAnswer_59 : decode cX9_pairAnswer 59 = .ok (.iaload, 1) := zq_0 zo_46 zkX9_pairAnswer_32 27 rfl rfl
theorem dX9_pairAnswer_60 : decode cX9_pairAnswer 60 = .ok (.goto 9, 3) := zq_2s zo_167 zkX9_pairAnswer_32 28 rfl rfl 0 9 rfl rfl _ (by decide +kernel)
theorem dX9_pairAnswer_63 : decode cX9_pairAnswer 63 = .ok (.aload_n 0, 1) := zq_0 zo_42 zkX9_pairAnswer_32 31 rfl rfl
theorem zkX9_pairAnswer_64 : zqc cX9_pairAnswer 64 [180, 1, 144, 27, 46, 172] := zq_of 6 (by decide +kernel)
theorem dX9_pairAnswer_64 : decode cX9_pairAnswer 64 = .ok (.getfield 400, 3) := zq_2 zo_180 zkX9_pairAnswer_64 0 rfl rfl 1 144 rfl rfl _ rfl
theorem dX9_pairAnswer_67 : decode cX9_pairAnswer 67 = .ok (.iload_n 1, 1) := zq_0 zo_27 zkX9_pairAnswer_64 3 rfl rfl
theorem dX9_pairAnswer_68 : decode cX9_pairAnswer 68 = .ok (.iaload, 1) := zq_0 zo_46 zkX9_pairAnswer_64 4 rfl rfl
theorem dX9_pairAnswer_69 : decode cX9_pairAnswer 69 = .ok (.ireturn, 1) := zq_0 zo_172 zkX9_pairAnswer_64 5 rfl rfl
theorem zkX9_ridden_0 : zqc cX9_ridden 0 [42, 180, 0, 12, 27, 182, 0, 121, 58, 5, 25, 5, 198, 0, 21, 28, 2, 161, 0, 16, 28, 7, 162, 0, 11, 21, 4, 184, 0, 254, 154, 0, 5, 1] := zq_of 34 (by decide +kernel)
theorem dX9_ridden_0 : decode cX9_ridden 0 = .ok (.aload_n 0, 1) := zq_0 zo_42 zkX9_ridden_0 0 rfl rfl
theorem dX9_ridden_1 : decode cX9_ridden 1 = .ok (.getfield 12, 3) := zq_2 zo_180 zkX9_ridden_0 1 rfl rfl 0 12 rfl rfl _ rfl
theorem dX9_ridden_4 : decode cX9_ridden 4 = .ok (.iload_n 1, 1) := zq_0 zo_27 zkX9_ridden_0 4 rfl rfl
theorem dX9_ridden_5 : decode cX9_ridden 5 = .ok (.invokevirtual 121, 3) := zq_2 zo_182 zkX9_ridden_0 5 rfl rfl 0 121 rfl rfl _ rfl
theorem dX9_ridden_8 : decode cX9_ridden 8 = .ok (.astore 5, 2) := zq_1 zo_58 zkX9_ridden_0 8 rfl rfl 5 rfl
theorem dX9_ridden_10 : decode cX9_ridden 10 = .ok (.aload 5, 2) := zq_1 zo_25 zkX9_ridden_0 10 rfl rfl 5 rfl
theorem dX9_ridden_12 : decode cX9_ridden 12 = .ok (.ifnull 21, 3) := zq_2s zo_198 zkX9_ridden_0 12 rfl rfl 0 21 rfl rfl _ (by decide +kernel)
theorem dX9_ridden_15 : decode cX9_ridden 15 = .ok (.iload_n 2, 1) := zq_0 zo_28 zkX9_ridden_0 15 rfl rfl
theorem dX9_ridden_16 : decode cX9_ridden 16 = .ok (.iconst (-1), 1) := zq_0 zo_2 zkX9_ridden_0 16 rfl rfl
theorem dX9_ridden_17 : decode cX9_ridden 17 = .ok (.if_icmp .lt 16, 3) := zq_2s zo_161 zkX9_ridden_0 17 rfl rfl 0 16 rfl rfl _ (by decide +kernel)
theorem dX9_ridden_20 : decode cX9_ridden 20 = .ok (.iload_n 2, 1) := zq_0 zo_28 zkX9_ridden_0 20 rfl rfl
theorem dX9_ridden_21 : decode cX9_ridden 21 = .ok (.iconst 4, 1) := zq_0 zo_7 zkX9_ridden_0 21 rfl rfl
theorem dX9_ridden_22 : decode cX9_ridden 22 = .ok (.if_icmp .ge 11, 3) := zq_2s zo_162 zkX9_ridden_0 22 rfl rfl 0 11 rfl rfl _ (by decide +kernel)
theorem dX9_ridden_25 : decode cX9_ridden 25 = .ok (.iload 4, 2) := zq_1 zo_21 zkX9_ridden_0 25 rfl rfl 4 rfl
theorem dX9_ridden_27 : decode cX9_ridden 27 = .ok (.invokestatic 254, 3) := zq_2 zo_184 zkX9_ridden_0 27 rfl rfl 0 254 rfl rfl _ rfl
theorem dX9_ridden_30 : decode cX9_ridden 30 = .ok (.ifCond .ne 5, 3) := zq_2s zo_154 zkX9_ridden_0 30 rfl rfl 0 5 rfl rfl _ (by decide +kernel)
theorem zkX9_ridden_32 : zqc cX9_ridden 32 [5, 1, 176, 42, 180, 0, 34, 25, 5, 28, 29, 21, 4, 2, 182, 1, 5, 25, 5, 176] := zq_of 20 (by decide +kernel)
theorem dX9_ridden_33 : decode cX9_ridden 33 = .ok (.aconst_null, 1) := zq_0 zo_1 zkX9_ridden_32 1 rfl rfl
theorem dX9_ridden_34 : decode cX9_ridden 34 = .ok (.areturn, 1) := zq_0 zo_176 zkX9_ridden_32 2 rfl rfl
theorem dX9_ridden_35 : decode cX9_ridden 35 = .ok (.aload_n 0, 1) := zq_0 zo_42 zkX9_ridden_32 3 rfl rfl
theorem dX9_ridden_36 : decode cX9_ridden 36 = .ok (.getfield 34, 3) := zq_2 zo_180 zkX9_ridden_32 4 rfl rfl 0 34 rfl rfl _ rfl
theorem dX9_ridden_39 : decode cX9_ridden 39 = .ok (.aload 5, 2) := zq_1 zo_25 zkX9_ridden_32 7 rfl rfl 5 rfl
theorem dX9_ridden_41 : decode cX9_ridden 41 = .ok (.iload_n 2, 1) := zq_0 zo_28 zkX9_ridden_32 9 rfl rfl
theorem dX9_ridden_42 : decode cX9_ridden 42 = .ok (.iload_n 3, 1) := zq_0 zo_29 zkX9_ridden_32 10 rfl rfl
theorem dX9_ridden_43 : decode cX9_ridden 43 = .ok (.iload 4, 2) := zq_1 zo_21 zkX9_ridden_32 11 rfl rfl 4 rfl
theorem dX9_ridden_45 : decode cX9_ridden 45 = .ok (.iconst (-1), 1) := zq_0 zo_2 zkX9_ridden_32 13 rfl rfl
theorem dX9_ridden_46 : decode cX9_ridden 46 = .ok (.invokevirtual 261, 3) := zq_2 zo_182 zkX9_ridden_32 14 rfl rfl 1 5 rfl rfl _ rfl
theorem dX9_ridden_49 : decode cX9_ridden 49 = .ok (.aload 5, 2) := zq_1 zo_25 zkX9_ridden_32 17 rfl rfl 5 rfl
theorem dX9_ridden_51 : decode cX9_ridden 51 = .ok (.areturn, 1) := zq_0 zo_176 zkX9_ridden_32 19 rfl rfl
theorem zkX9_fillGains_0 : zqc cX9_fillGains 0 [3, 62, 29, 43, 182, 1, 13, 162, 0, 27, 42, 180, 0, 34, 43, 3, 3, 28, 29, 182, 1, 5, 42, 43, 29, 182, 1, 147, 132, 3, 1, 167, 255, 227] := zq_of 34 (by decide +kernel)
theorem dX9_fillGains_0 : decode cX9_fillGains 0 = .ok (.iconst 0, 1) := zq_0 zo_3 zkX9_fillGains_0 0 rfl rfl
theorem dX9_fillGains_1 : decode cX9_fillGains 1 = .ok (.istore_n 3, 1) := zq_0 zo_62 zkX9_fillGains_0 1 rfl rfl
theorem dX9_fillGains_2 : decode cX9_fillGains 2 = .ok (.iload_n 3, 1) := zq_0 zo_29 zkX9_fillGains_0 2 rfl rfl
theorem dX9_fillGains_3 : decode cX9_fillGains 3 = .ok (.aload_n 1, 1) := zq_0 zo_43 zkX9_fillGains_0 3 rfl rfl
theorem dX9_fillGains_4 : decode cX9_fillGains 4 = .ok (.invokevirtual 269, 3) := zq_2 zo_182 zkX9_fillGains_0 4 rfl rfl 1 13 rfl rfl _ rfl
theorem dX9_fillGains_7 : decode cX9_fillGains 7 = .ok (.if_icmp .ge 27, 3) := zq_2s zo_162 zkX9_fillGains_0 7 rfl rfl 0 27 rfl rfl _ (by decide +kernel)
theorem dX9_fillGains_10 : decode cX9_fillGains 10 = .ok (.aload_n 0, 1) := zq_0 zo_42 zkX9_fillGains_0 10 rfl rfl
theorem dX9_fillGains_11 : decode cX9_fillGains 11 = .ok (.getfield 34, 3) := zq_2 zo_180 zkX9_fillGains_0 11 rfl rfl 0 34 rfl rfl _ rfl
theorem dX9_fillGains_14 : decode cX9_fillGains 14 = .ok (.aload_n 1, 1) := zq_0 zo_43 zkX9_fillGains_0 14 rfl rfl
theorem dX9_fillGains_15 : decode cX9_fillGains 15 = .ok (.iconst 0, 1) := zq_0 zo_3 zkX9_fillGains_0 15 rfl rfl
theorem dX9_fillGains_16 : decode cX9_fillGains 16 = .ok (.iconst 0, 1) := zq_0 zo_3 zkX9_fillGains_0 16 rfl rfl
theorem dX9_fillGains_17 : decode cX9_fillGains 17 = .ok (.iload_n 2, 1) := zq_0 zo_28 zkX9_fillGains_0 17 rfl rfl
theorem dX9_fillGains_18 : decode cX9_fillGains 18 = .ok (.iload_n 3, 1) := zq_0 zo_29 zkX9_fillGains_0 18 rfl rfl
theorem dX9_fillGains_19 : decode cX9_fillGains 19 = .ok (.invokevirtual 261, 3) := zq_2 zo_182 zkX9_fillGains_0 19 rfl rfl 1 5 rfl rfl _ rfl
theorem dX9_fillGains_22 : decode cX9_fillGains 22 = .ok (.aload_n 0, 1) := zq_0 zo_42 zkX9_fillGains_0 22 rfl rfl
theorem dX9_fillGains_23 : decode cX9_fillGains 23 = .ok (.aload_n 1, 1) := zq_0 zo_43 zkX9_fillGains_0 23 rfl rfl
theorem dX9_fillGains_24 : decode cX9_fillGains 24 = .ok (.iload_n 3, 1) := zq_0 zo_29 zkX9_fillGains_0 24 rfl rfl
theorem dX9_fillGains_25 : decode cX9_fillGains 25 = .ok (.invokevirtual 403, 3) := zq_2 zo_182 zkX9_fillGains_0 25 rfl rfl 1 147 rfl rfl _ rfl
theorem dX9_fillGains_28 : decode cX9_fillGains 28 = .ok (.iinc 3 1, 3) := zq_ii zo_132 zkX9_fillGains_0 28 rfl rfl 3 1 rfl rfl _ (by decide +kernel)
theorem dX9_fillGains_31 : decode cX9_fillGains 31 = .ok (.goto (-29), 3) := zq_2s zo_167 zkX9_fillGains_0 31 rfl rfl 255 227 rfl rfl _ (by decide +kernel)
theorem zkX9_fillGains_32 : zqc cX9_fillGains 32 [255, 227, 177] := zq_of 3 (by decide +kernel)
theorem dX9_fillGains_34 : decode cX9_fillGains 34 = .ok (.return_, 1) := zq_0 zo_177 zkX9_fillGains_32 2 rfl rfl
theorem zkX9_fillGainsByLaw_0 : zqc cX9_fillGainsByLaw 0 [3, 54, 4, 21, 4, 7, 162, 0, 29, 42, 180, 0, 34, 43, 21, 4, 28, 29, 2, 182, 1, 5, 42, 43, 21, 4, 182, 1, 147, 132, 4, 1, 167, 255] := zq_of 34 (by decide +kernel)
theorem dX9_fillGainsByLaw_0 : decode cX9_fillGainsByLaw 0 = .ok (.iconst 0, 1) := zq_0 zo_3 zkX9_fillGainsByLaw_0 0 rfl rfl
theorem dX9_fillGainsByLaw_1 : decode cX9_fillGainsByLaw 1 = .ok (.istore 4, 2) := zq_1 zo_54 zkX9_fillGainsByLaw_0 1 rfl rfl 4 rfl
theorem dX9_fillGainsByLaw_3 : decode cX9_fillGainsByLaw 3 = .ok (.iload 4, 2) := zq_1 zo_21 zkX9_fillGainsByLaw_0 3 rfl rfl 4 rfl
theorem dX9_fillGainsByLaw_5 : decode cX9_fillGainsByLaw 5 = .ok (.iconst 4, 1) := zq_0 zo_7 zkX9_fillGainsByLaw_0 5 rfl rfl
theorem dX9_fillGainsByLaw_6 : decode cX9_fillGainsByLaw 6 = .ok (.if_icmp .ge 29, 3) := zq_2s zo_162 zkX9_fillGainsByLaw_0 6 rfl rfl 0 29 rfl rfl _ (by decide +kernel)
theorem dX9_fillGainsByLaw_9 : decode cX9_fillGainsByLaw 9 = .ok (.aload_n 0, 1) := zq_0 zo_42 zkX9_fillGainsByLaw_0 9 rfl rfl
theorem dX9_fillGainsByLaw_10 : decode cX9_fillGainsByLaw 10 = .ok (.getfield 34, 3) := zq_2 zo_180 zkX9_fillGainsByLaw_0 10 rfl rfl 0 34 rfl rfl _ rfl
theorem dX9_fillGainsByLaw_13 : decode cX9_fillGainsByLaw 13 = .ok (.aload_n 1, 1) := zq_0 zo_43 zkX9_fillGainsByLaw_0 13 rfl rfl
theorem dX9_fillGainsByLaw_14 : decode cX9_fillGainsByLaw 14 = .ok (.iload 4, 2) := zq_1 zo_21 zkX9_fillGainsByLaw_0 14 rfl rfl 4 rfl
theorem dX9_fillGainsByLaw_16 : decode cX9_fillGainsByLaw 16 = .ok (.iload_n 2, 1) := zq_0 zo_28 zkX9_fillGainsByLaw_0 16 rfl rfl
theorem dX9_fillGainsByLaw_17 : decode cX9_fillGainsByLaw 17 = .ok (.iload_n 3, 1) := zq_0 zo_29 zkX9_fillGainsByLaw_0 17 rfl rfl
theorem dX9_fillGainsByLaw_18 : decode cX9_fillGainsByLaw 18 = .ok (.iconst (-1), 1) := zq_0 zo_2 zkX9_fillGainsByLaw_0 18 rfl rfl
theorem dX9_fillGainsByLaw_19 : decode cX9_fillGainsByLaw 19 = .ok (.invokevirtual 261, 3) := zq_2 zo_182 zkX9_fillGainsByLaw_0 19 rfl rfl 1 5 rfl rfl _ rfl
theorem dX9_fillGainsByLaw_22 : decode cX9_fillGainsByLaw 22 = .ok (.aload_n 0, 1) := zq_0 zo_42 zkX9_fillGainsByLaw_0 22 rfl rfl
theorem dX9_fillGainsByLaw_23 : decode cX9_fillGainsByLaw 23 = .ok (.aload_n 1, 1) := zq_0 zo_43 zkX9_fillGainsByLaw_0 23 rfl rfl
theorem dX9_fillGainsByLaw_24 : decode cX9_fillGainsByLaw 24 = .ok (.iload 4, 2) := zq_1 zo_21 zkX9_fillGainsByLaw_0 24 rfl rfl 4 rfl
theorem dX9_fillGainsByLaw_26 : decode cX9_fillGainsByLaw 26 = .ok (.invokevirtual 403, 3) := zq_2 zo_182 zkX9_fillGainsByLaw_0 26 rfl rfl 1 147 rfl rfl _ rfl
theorem dX9_fillGainsByLaw_29 : decode cX9_fillGainsByLaw 29 = .ok (.iinc 4 1, 3) := zq_ii zo_132 zkX9_fillGainsByLaw_0 29 rfl rfl 4 1 rfl rfl _ (by decide +kernel)
theorem zkX9_fillGainsByLaw_32 : zqc cX9_fillGainsByLaw 32 [167, 255, 227, 177] := zq_of 4 (by decide +kernel)
theorem dX9_fillGainsByLaw_32 : decode cX9_fillGainsByLaw 32 = .ok (.goto (-29), 3) := zq_2s zo_167 zkX9_fillGainsByLaw_32 0 rfl rfl 255 227 rfl rfl _ (by decide +kernel)
theorem dX9_fillGainsByLaw_35 : decode cX9_fillGainsByLaw 35 = .ok (.return_, 1) := zq_0 zo_177 zkX9_fillGainsByLaw_32 3 rfl rfl
theorem zkX9_keepGains_0 : zqc cX9_keepGains 0 [3, 62, 29, 43, 180, 0, 128, 162, 0, 29, 42, 180, 0, 73, 28, 16, 6, 104, 29, 96, 42, 180, 0, 34, 43, 29, 182, 1, 21, 79, 132, 3, 1, 167] := zq_of 34 (by decide +kernel)
theorem dX9_keepGains_0 : decode cX9_keepGains 0 = .ok (.iconst 0, 1) := zq_0 zo_3 zkX9_keepGains_0 0 rfl rfl
theorem dX9_keepGains_1 : decode cX9_keepGains 1 = .ok (.istore_n 3, 1) := zq_0 zo_62 zkX9_keepGains_0 1 rfl rfl
theorem dX9_keepGains_2 : decode cX9_keepGains 2 = .ok (.iload_n 3, 1) := zq_0 zo_29 zkX9_keepGains_0 2 rfl rfl
theorem dX9_keepGains_3 : decode cX9_keepGains 3 = .ok (.aload_n 1, 1) := zq_0 zo_43 zkX9_keepGains_0 3 rfl rfl
theorem dX9_keepGains_4 : decode cX9_keepGains 4 = .ok (.getfield 128, 3) := zq_2 zo_180 zkX9_keepGains_0 4 rfl rfl 0 128 rfl rfl _ rfl
theorem dX9_keepGains_7 : decode cX9_keepGains 7 = .ok (.if_icmp .ge 29, 3) := zq_2s zo_162 zkX9_keepGains_0 7 rfl rfl 0 29 rfl rfl _ (by decide +kernel)
theorem dX9_keepGains_10 : decode cX9_keepGains 10 = .ok (.aload_n 0, 1) := zq_0 zo_42 zkX9_keepGains_0 10 rfl rfl
theorem dX9_keepGains_11 : decode cX9_keepGains 11 = .ok (.getfield 73, 3) := zq_2 zo_180 zkX9_keepGains_0 11 rfl rfl 0 73 rfl rfl _ rfl
theorem dX9_keepGains_14 : decode cX9_keepGains 14 = .ok (.iload_n 2, 1) := zq_0 zo_28 zkX9_keepGains_0 14 rfl rfl
theorem dX9_keepGains_15 : decode cX9_keepGains 15 = .ok (.bipush 6, 2) := zq_1s zo_16 zkX9_keepGains_0 15 rfl rfl 6 rfl _ (by decide +kernel)
theorem dX9_keepGains_17 : decode cX9_keepGains 17 = .ok (.imul, 1) := zq_0 zo_104 zkX9_keepGains_0 17 rfl rfl
theorem dX9_keepGains_18 : decode cX9_keepGains 18 = .ok (.iload_n 3, 1) := zq_0 zo_29 zkX9_keepGains_0 18 rfl rfl
theorem dX9_keepGains_19 : decode cX9_keepGains 19 = .ok (.iadd, 1) := zq_0 zo_96 zkX9_keepGains_0 19 rfl rfl
theorem dX9_keepGains_20 : decode cX9_keepGains 20 = .ok (.aload_n 0, 1) := zq_0 zo_42 zkX9_keepGains_0 20 rfl rfl
theorem dX9_keepGains_21 : decode cX9_keepGains 21 = .ok (.getfield 34, 3) := zq_2 zo_180 zkX9_keepGains_0 21 rfl rfl 0 34 rfl rfl _ rfl
theorem dX9_keepGains_24 : decode cX9_keepGains 24 = .ok (.aload_n 1, 1) := zq_0 zo_43 zkX9_keepGains_0 24 rfl rfl
theorem dX9_keepGains_25 : decode cX9_keepGains 25 = .ok (.iload_n 3, 1) := zq_0 zo_29 zkX9_keepGains_0 25 rfl rfl
theorem dX9_keepGains_26 : decode cX9_keepGains 26 = .ok (.invokevirtual 277, 3) := zq_2 zo_182 zkX9_keepGains_0 26 rfl rfl 1 21 rfl rfl _ rfl
theorem dX9_keepGains_29 : decode cX9_keepGains 29 = .ok (.iastore, 1) := zq_0 zo_79 zkX9_keepGains_0 29 rfl rfl
theorem dX9_keepGains_30 : decode cX9_keepGains 30 = .ok (.iinc 3 1, 3) := zq_ii zo_132 zkX9_keepGains_0 30 rfl rfl 3 1 rfl rfl _ (by decide +kernel)
theorem zkX9_keepGains_32 : zqc cX9_keepGains 32 [1, 167, 255, 225, 177] := zq_of 5 (by decide +kernel)
theorem dX9_keepGains_33 : decode cX9_keepGains 33 = .ok (.goto (-31), 3) := zq_2s zo_167 zkX9_keepGains_32 1 rfl rfl 255 225 rfl rfl _ (by decide +kernel)
theorem dX9_keepGains_36 : decode cX9_keepGains 36 = .ok (.return_, 1) := zq_0 zo_177 zkX9_keepGains_32 4 rfl rfl
theorem zkX9_isAtRest_0 : zqc cX9_isAtRest 0 [3, 62, 29, 43, 180, 0, 128, 162, 0, 44, 28, 4, 29, 120, 130, 54, 4, 42, 180, 0, 73, 21, 4, 16, 6, 104, 29, 96, 46, 42, 180, 0, 73, 28] := zq_of 34 (by decide +kernel)
theorem dX9_isAtRest_0 : decode cX9_isAtRest 0 = .ok (.iconst 0, 1) := zq_0 zo_3 zkX9_isAtRest_0 0 rfl rfl
theorem dX9_isAtRest_1 : decode cX9_isAtRest 1 = .ok (.istore_n 3, 1) := zq_0 zo_62 zkX9_isAtRest_0 1 rfl rfl
theorem dX9_isAtRest_2 : decode cX9_isAtRest 2 = .ok (.iload_n 3, 1) := zq_0 zo_29 zkX9_isAtRest_0 2 rfl rfl
theorem dX9_isAtRest_3 : decode cX9_isAtRest 3 = .ok (.aload_n 1, 1) := zq_0 zo_43 zkX9_isAtRest_0 3 rfl rfl
theorem dX9_isAtRest_4 : decode cX9_isAtRest 4 = .ok (.getfield 128, 3) := zq_2 zo_180 zkX9_isAtRest_0 4 rfl rfl 0 128 rfl rfl _ rfl
theorem dX9_isAtRest_7 : decode cX9_isAtRest 7 = .ok (.if_icmp .ge 44, 3) := zq_2s zo_162 zkX9_isAtRest_0 7 rfl rfl 0 44 rfl rfl _ (by decide +kernel)
theorem dX9_isAtRest_10 : decode cX9_isAtRest 10 = .ok (.iload_n 2, 1) := zq_0 zo_28 zkX9_isAtRest_0 10 rfl rfl
theorem dX9_isAtRest_11 : decode cX9_isAtRest 11 = .ok (.iconst 1, 1) := zq_0 zo_4 zkX9_isAtRest_0 11 rfl rfl
theorem dX9_isAtRest_12 : decode cX9_isAtRest 12 = .ok (.iload_n 3, 1) := zq_0 zo_29 zkX9_isAtRest_0 12 rfl rfl
theorem dX9_isAtRest_13 : decode cX9_isAtRest 13 = .ok (.ishl, 1) := zq_0 zo_120 zkX9_isAtRest_0 13 rfl rfl
theorem dX9_isAtRest_14 : decode cX9_isAtRest 14 = .ok (.ixor, 1) := zq_0 zo_130 zkX9_isAtRest_0 14 rfl rfl
theorem dX9_isAtRest_15 : decode cX9_isAtRest 15 = .ok (.istore 4, 2) := zq_1 zo_54 zkX9_isAtRest_0 15 rfl rfl 4 rfl
theorem dX9_isAtRest_17 : decode cX9_isAtRest 17 = .ok (.aload_n 0, 1) := zq_0 zo_42 zkX9_isAtRest_0 17 rfl rfl
theorem dX9_isAtRest_18 : decode cX9_isAtRest 18 = .ok (.getfield 73, 3) := zq_2 zo_180 zkX9_isAtRest_0 18 rfl rfl 0 73 rfl rfl _ rfl
theorem dX9_isAtRest_21 : decode cX9_isAtRest 21 = .ok (.iload 4, 2) := zq_1 zo_21 zkX9_isAtRest_0 21 rfl rfl 4 rfl
theorem dX9_isAtRest_23 : decode cX9_isAtRest 23 = .ok (.bipush 6, 2) := zq_1s zo_16 zkX9_isAtRest_0 23 rfl rfl 6 rfl _ (by decide +kernel)
theorem dX9_isAtRest_25 : decode cX9_isAtRest 25 = .ok (.imul, 1) := zq_0 zo_104 zkX9_isAtRest_0 25 rfl rfl
theorem dX9_isAtRest_26 : decode cX9_isAtRest 26 = .ok (.iload_n 3, 1) := zq_0 zo_29 zkX9_isAtRest_0 26 rfl rfl
theorem dX9_isAtRest_27 : decode cX9_isAtRest 27 = .ok (.iadd, 1) := zq_0 zo_96 zkX9_isAtRest_0 27 rfl rfl
theorem dX9_isAtRest_28 : decode cX9_isAtRest 28 = .ok (.iaload, 1) := zq_0 zo_46 zkX9_isAtRest_0 28 rfl rfl
theorem dX9_isAtRest_29 : decode cX9_isAtRest 29 = .ok (.aload_n 0, 1) := zq_0 zo_42 zkX9_isAtRest_0 29 rfl rfl
theorem dX9_isAtRest_30 : decode cX9_isAtRest 30 = .ok (.getfield 73, 3) := zq_2 zo_180 zkX9_isAtRest_0 30 rfl rfl 0 73 rfl rfl _ rfl
theorem zkX9_isAtRest_32 : zqc cX9_isAtRest 32 [73, 28, 16, 6, 104, 29, 96, 46, 164, 0, 5, 3, 172, 132, 3, 1, 167, 255, 210, 4, 172] := zq_of 21 (by decide +kernel)
theorem dX9_isAtRest_33 : decode cX9_isAtRest 33 = .ok (.iload_n 2, 1) := zq_0 zo_28 zkX9_isAtRest_32 1 rfl rfl
theorem dX9_isAtRest_34 : decode cX9_isAtRest 34 = .ok (.bipush 6, 2) := zq_1s zo_16 zkX9_isAtRest_32 2 rfl rfl 6 rfl _ (by decide +kernel)
theorem dX9_isAtRest_36 : decode cX9_isAtRest 36 = .ok (.imul, 1) := zq_0 zo_104 zkX9_isAtRest_32 4 rfl rfl
theorem dX9_isAtRest_37 : decode cX9_isAtRest 37 = .ok (.iload_n 3, 1) := zq_0 zo_29 zkX9_isAtRest_32 5 rfl rfl
theorem dX9_isAtRest_38 : decode cX9_isAtRest 38 = .ok (.iadd, 1) := zq_0 zo_96 zkX9_isAtRest_32 6 rfl rfl
theorem dX9_isAtRest_39 : decode cX9_isAtRest 39 = .ok (.iaload, 1) := zq_0 zo_46 zkX9_isAtRest_32 7 rfl rfl
theorem dX9_isAtRest_40 : decode cX9_isAtRest 40 = .ok (.if_icmp .le 5, 3) := zq_2s zo_164 zkX9_isAtRest_32 8 rfl rfl 0 5 rfl rfl _ (by decide +kernel)
theorem dX9_isAtRest_43 : decode cX9_isAtRest 43 = .ok (.iconst 0, 1) := zq_0 zo_3 zkX9_isAtRest_32 11 rfl rfl
theorem dX9_isAtRest_44 : decode cX9_isAtRest 44 = .ok (.ireturn, 1) := zq_0 zo_172 zkX9_isAtRest_32 12 rfl rfl
theorem dX9_isAtRest_45 : decode cX9_isAtRest 45 = .ok (.iinc 3 1, 3) := zq_ii zo_132 zkX9_isAtRest_32 13 rfl rfl 3 1 rfl rfl _ (by decide +kernel)
theorem dX9_isAtRest_48 : decode cX9_isAtRest 48 = .ok (.goto (-46), 3) := zq_2s zo_167 zkX9_isAtRest_32 16 rfl rfl 255 210 rfl rfl _ (by decide +kernel)
theorem dX9_isAtRest_51 : decode cX9_isAtRest 51 = .ok (.iconst 1, 1) := zq_0 zo_4 zkX9_isAtRest_32 19 rfl rfl
theorem dX9_isAtRest_52 : decode cX9_isAtRest 52 = .ok (.ireturn, 1) := zq_0 zo_172 zkX9_isAtRest_32 20 rfl rfl
theorem zkX9_votesFor_0 : zqc cX9_votesFor 0 [3, 62, 3, 54, 4, 21, 4, 43, 180, 0, 128, 162, 0, 27, 29, 42, 21, 4, 182, 1, 150, 28, 160, 0, 7, 4, 167, 0, 4, 3, 96, 62, 132, 4] := zq_of 34 (by decide +kernel)
theorem dX9_votesFor_0 : decode cX9_votesFor 0 = .ok (.iconst 0, 1) := zq_0 zo_3 zkX9_votesFor_0 0 rfl rfl
theorem dX9_votesFor_1 : decode cX9_votesFor 1 = .ok (.istore_n 3, 1) := zq_0 zo_62 zkX9_votesFor_0 1 rfl rfl
theorem dX9_votesFor_2 : decode cX9_votesFor 2 = .ok (.iconst 0, 1) := zq_0 zo_3 zkX9_votesFor_0 2 rfl rfl
theorem dX9_votesFor_3 : decode cX9_votesFor 3 = .ok (.istore 4, 2) := zq_1 zo_54 zkX9_votesFor_0 3 rfl rfl 4 rfl
theorem dX9_votesFor_5 : decode cX9_votesFor 5 = .ok (.iload 4, 2) := zq_1 zo_21 zkX9_votesFor_0 5 rfl rfl 4 rfl
theorem dX9_votesFor_7 : decode cX9_votesFor 7 = .ok (.aload_n 1, 1) := zq_0 zo_43 zkX9_votesFor_0 7 rfl rfl
theorem dX9_votesFor_8 : decode cX9_votesFor 8 = .ok (.getfield 128, 3) := zq_2 zo_180 zkX9_votesFor_0 8 rfl rfl 0 128 rfl rfl _ rfl
theorem dX9_votesFor_11 : decode cX9_votesFor 11 = .ok (.if_icmp .ge 27, 3) := zq_2s zo_162 zkX9_votesFor_0 11 rfl rfl 0 27 rfl rfl _ (by decide +kernel)
theorem dX9_votesFor_14 : decode cX9_votesFor 14 = .ok (.iload_n 3, 1) := zq_0 zo_29 zkX9_votesFor_0 14 rfl rfl
theorem dX9_votesFor_15 : decode cX9_votesFor 15 = .ok (.aload_n 0, 1) := zq_0 zo_42 zkX9_votesFor_0 15 rfl rfl
theorem dX9_votesFor_16 : decode cX9_votesFor 16 = .ok (.iload 4, 2) := zq_1 zo_21 zkX9_votesFor_0 16 rfl rfl 4 rfl
theorem dX9_votesFor_18 : decode cX9_votesFor 18 = .ok (.invokevirtual 406, 3) := zq_2 zo_182 zkX9_votesFor_0 18 rfl rfl 1 150 rfl rfl _ rfl
theorem dX9_votesFor_21 : decode cX9_votesFor 21 = .ok (.iload_n 2, 1) := zq_0 zo_28 zkX9_votesFor_0 21 rfl rfl
theorem dX9_votesFor_22 : decode cX9_votesFor 22 = .ok (.if_icmp .ne 7, 3) := zq_2s zo_160 zkX9_votesFor_0 22 rfl rfl 0 7 rfl rfl _ (by decide +kernel)
theorem dX9_votesFor_25 : decode cX9_votesFor 25 = .ok (.iconst 1, 1) := zq_0 zo_4 zkX9_votesFor_0 25 rfl rfl
theorem dX9_votesFor_26 : decode cX9_votesFor 26 = .ok (.goto 4, 3) := zq_2s zo_167 zkX9_votesFor_0 26 rfl rfl 0 4 rfl rfl _ (by decide +kernel)
theorem dX9_votesFor_29 : decode cX9_votesFor 29 = .ok (.iconst 0, 1) := zq_0 zo_3 zkX9_votesFor_0 29 rfl rfl
theorem dX9_votesFor_30 : decode cX9_votesFor 30 = .ok (.iadd, 1) := zq_0 zo_96 zkX9_votesFor_0 30 rfl rfl
theorem dX9_votesFor_31 : decode cX9_votesFor 31 = .ok (.istore_n 3, 1) := zq_0 zo_62 zkX9_votesFor_0 31 rfl rfl
theorem zkX9_votesFor_32 : zqc cX9_votesFor 32 [132, 4, 1, 167, 255, 226, 29, 172] := zq_of 8 (by decide +kernel)
theorem dX9_votesFor_32 : decode cX9_votesFor 32 = .ok (.iinc 4 1, 3) := zq_ii zo_132 zkX9_votesFor_32 0 rfl rfl 4 1 rfl rfl _ (by decide +kernel)
theorem dX9_votesFor_35 : decode cX9_votesFor 35 = .ok (.goto (-30), 3) := zq_2s zo_167 zkX9_votesFor_32 3 rfl rfl 255 226 rfl rfl _ (by decide +kernel)
theorem dX9_votesFor_38 : decode cX9_votesFor 38 = .ok (.iload_n 3, 1) := zq_0 zo_29 zkX9_votesFor_32 6 rfl rfl
theorem dX9_votesFor_39 : decode cX9_votesFor 39 = .ok (.ireturn, 1) := zq_0 zo_172 zkX9_votesFor_32 7 rfl rfl
theorem zkX9_lawOf_0 : zqc cX9_lawOf 0 [3, 61, 4, 62, 29, 7, 162, 0, 36, 42, 180, 0, 73, 29, 16, 6, 104, 27, 96, 46, 42, 180, 0, 73, 28, 16, 6, 104, 27, 96, 46, 164, 0, 5] := zq_of 34 (by decide +kernel)
theorem dX9_lawOf_0 : decode cX9_lawOf 0 = .ok (.iconst 0, 1) := zq_0 zo_3 zkX9_lawOf_0 0 rfl rfl
theorem dX9_lawOf_1 : decode cX9_lawOf 1 = .ok (.istore_n 2, 1) := zq_0 zo_61 zkX9_lawOf_0 1 rfl rfl
theorem dX9_lawOf_2 : decode cX9_lawOf 2 = .ok (.iconst 1, 1) := zq_0 zo_4 zkX9_lawOf_0 2 rfl rfl
theorem dX9_lawOf_3 : decode cX9_lawOf 3 = .ok (.istore_n 3, 1) := zq_0 zo_62 zkX9_lawOf_0 3 rfl rfl
theorem dX9_lawOf_4 : decode cX9_lawOf 4 = .ok (.iload_n 3, 1) := zq_0 zo_29 zkX9_lawOf_0 4 rfl rfl
theorem dX9_lawOf_5 : decode cX9_lawOf 5 = .ok (.iconst 4, 1) := zq_0 zo_7 zkX9_lawOf_0 5 rfl rfl
theorem dX9_lawOf_6 : decode cX9_lawOf 6 = .ok (.if_icmp .ge 36, 3) := zq_2s zo_162 zkX9_lawOf_0 6 rfl rfl 0 36 rfl rfl _ (by decide +kernel)
theorem dX9_lawOf_9 : decode cX9_lawOf 9 = .ok (.aload_n 0, 1) := zq_0 zo_42 zkX9_lawOf_0 9 rfl rfl
theorem dX9_lawOf_10 : decode cX9_lawOf 10 = .ok (.getfield 73, 3) := zq_2 zo_180 zkX9_lawOf_0 10 rfl rfl 0 73 rfl rfl _ rfl
theorem dX9_lawOf_13 : decode cX9_lawOf 13 = .ok (.iload_n 3, 1) := zq_0 zo_29 zkX9_lawOf_0 13 rfl rfl
theorem dX9_lawOf_14 : decode cX9_lawOf 14 = .ok (.bipush 6, 2) := zq_1s zo_16 zkX9_lawOf_0 14 rfl rfl 6 rfl _ (by decide +kernel)
theorem dX9_lawOf_16 : decode cX9_lawOf 16 = .ok (.imul, 1) := zq_0 zo_104 zkX9_lawOf_0 16 rfl rfl
theorem dX9_lawOf_17 : decode cX9_lawOf 17 = .ok (.iload_n 1, 1) := zq_0 zo_27 zkX9_lawOf_0 17 rfl rfl
theorem dX9_lawOf_18 : decode cX9_lawOf 18 = .ok (.iadd, 1) := zq_0 zo_96 zkX9_lawOf_0 18 rfl rfl
theorem dX9_lawOf_19 : decode cX9_lawOf 19 = .ok (.iaload, 1) := zq_0 zo_46 zkX9_lawOf_0 19 rfl rfl
theorem dX9_lawOf_20 : decode cX9_lawOf 20 = .ok (.aload_n 0, 1) := zq_0 zo_42 zkX9_lawOf_0 20 rfl rfl
theorem dX9_lawOf_21 : decode cX9_lawOf 21 = .ok (.getfield 73, 3) := zq_2 zo_180 zkX9_lawOf_0 21 rfl rfl 0 73 rfl rfl _ rfl
theorem dX9_lawOf_24 : decode cX9_lawOf 24 = .ok (.iload_n 2, 1) := zq_0 zo_28 zkX9_lawOf_0 24 rfl rfl
theorem dX9_lawOf_25 : decode cX9_lawOf 25 = .ok (.bipush 6, 2) := zq_1s zo_16 zkX9_lawOf_0 25 rfl rfl 6 rfl _ (by decide +kernel)
theorem dX9_lawOf_27 : decode cX9_lawOf 27 = .ok (.imul, 1) := zq_0 zo_104 zkX9_lawOf_0 27 rfl rfl
theorem dX9_lawOf_28 : decode cX9_lawOf 28 = .ok (.iload_n 1, 1) := zq_0 zo_27 zkX9_lawOf_0 28 rfl rfl
theorem dX9_lawOf_29 : decode cX9_lawOf 29 = .ok (.iadd, 1) := zq_0 zo_96 zkX9_lawOf_0 29 rfl rfl
theorem dX9_lawOf_30 : decode cX9_lawOf 30 = .ok (.iaload, 1) := zq_0 zo_46 zkX9_lawOf_0 30 rfl rfl
theorem dX9_lawOf_31 : decode cX9_lawOf 31 = .ok (.if_icmp .le 5, 3) := zq_2s zo_164 zkX9_lawOf_0 31 rfl rfl 0 5 rfl rfl _ (by decide +kernel)
theorem zkX9_lawOf_32 : zqc cX9_lawOf 32 [0, 5, 29, 61, 132, 3, 1, 167, 255, 221, 28, 172] := zq_of 12 (by decide +kernel)
theorem dX9_lawOf_34 : decode cX9_lawOf 34 = .ok (.iload_n 3, 1) := zq_0 zo_29 zkX9_lawOf_32 2 rfl rfl
theorem dX9_lawOf_35 : decode cX9_lawOf 35 = .ok (.istore_n 2, 1) := zq_0 zo_61 zkX9_lawOf_32 3 rfl rfl
theorem dX9_lawOf_36 : decode cX9_lawOf 36 = .ok (.iinc 3 1, 3) := zq_ii zo_132 zkX9_lawOf_32 4 rfl rfl 3 1 rfl rfl _ (by decide +kernel)
theorem dX9_lawOf_39 : decode cX9_lawOf 39 = .ok (.goto (-35), 3) := zq_2s zo_167 zkX9_lawOf_32 7 rfl rfl 255 221 rfl rfl _ (by decide +kernel)
theorem dX9_lawOf_42 : decode cX9_lawOf 42 = .ok (.iload_n 2, 1) := zq_0 zo_28 zkX9_lawOf_32 10 rfl rfl
theorem dX9_lawOf_43 : decode cX9_lawOf 43 = .ok (.ireturn, 1) := zq_0 zo_172 zkX9_lawOf_32 11 rfl rfl
theorem zkX9_isCalm_0 : zqc cX9_isCalm 0 [42, 180, 0, 34, 43, 3, 3, 28, 21, 4, 2, 130, 182, 1, 5, 29, 2, 160, 0, 22, 42, 180, 0, 34, 180, 0, 233, 2, 160, 0, 7, 4, 167, 0] := zq_of 34 (by decide +kernel)
theorem dX9_isCalm_0 : decode cX9_isCalm 0 = .ok (.aload_n 0, 1) := zq_0 zo_42 zkX9_isCalm_0 0 rfl rfl
theorem dX9_isCalm_1 : decode cX9_isCalm 1 = .ok (.getfield 34, 3) := zq_2 zo_180 zkX9_isCalm_0 1 rfl rfl 0 34 rfl rfl _ rfl
theorem dX9_isCalm_4 : decode cX9_isCalm 4 = .ok (.aload_n 1, 1) := zq_0 zo_43 zkX9_isCalm_0 4 rfl rfl
theorem dX9_isCalm_5 : decode cX9_isCalm 5 = .ok (.iconst 0, 1) := zq_0 zo_3 zkX9_isCalm_0 5 rfl rfl
theorem dX9_isCalm_6 : decode cX9_isCalm 6 = .ok (.iconst 0, 1) := zq_0 zo_3 zkX9_isCalm_0 6 rfl rfl
theorem dX9_isCalm_7 : decode cX9_isCalm 7 = .ok (.iload_n 2, 1) := zq_0 zo_28 zkX9_isCalm_0 7 rfl rfl
theorem dX9_isCalm_8 : decode cX9_isCalm 8 = .ok (.iload 4, 2) := zq_1 zo_21 zkX9_isCalm_0 8 rfl rfl 4 rfl
theorem dX9_isCalm_10 : decode cX9_isCalm 10 = .ok (.iconst (-1), 1) := zq_0 zo_2 zkX9_isCalm_0 10 rfl rfl
theorem dX9_isCalm_11 : decode cX9_isCalm 11 = .ok (.ixor, 1) := zq_0 zo_130 zkX9_isCalm_0 11 rfl rfl
theorem dX9_isCalm_12 : decode cX9_isCalm 12 = .ok (.invokevirtual 261, 3) := zq_2 zo_182 zkX9_isCalm_0 12 rfl rfl 1 5 rfl rfl _ rfl
theorem dX9_isCalm_15 : decode cX9_isCalm 15 = .ok (.iload_n 3, 1) := zq_0 zo_29 zkX9_isCalm_0 15 rfl rfl
theorem dX9_isCalm_16 : decode cX9_isCalm 16 = .ok (.iconst (-1), 1) := zq_0 zo_2 zkX9_isCalm_0 16 rfl rfl
theorem dX9_isCalm_17 : decode cX9_isCalm 17 = .ok (.if_icmp .ne 22, 3) := zq_2s zo_160 zkX9_isCalm_0 17 rfl rfl 0 22 rfl rfl _ (by decide +kernel)
theorem dX9_isCalm_20 : decode cX9_isCalm 20 = .ok (.aload_n 0, 1) := zq_0 zo_42 zkX9_isCalm_0 20 rfl rfl
theorem dX9_isCalm_21 : decode cX9_isCalm 21 = .ok (.getfield 34, 3) := zq_2 zo_180 zkX9_isCalm_0 21 rfl rfl 0 34 rfl rfl _ rfl
theorem dX9_isCalm_24 : decode cX9_isCalm 24 = .ok (.getfield 233, 3) := zq_2 zo_180 zkX9_isCalm_0 24 rfl rfl 0 233 rfl rfl _ rfl
theorem dX9_isCalm_27 : decode cX9_isCalm 27 = .ok (.iconst (-1), 1) := zq_0 zo_2 zkX9_isCalm_0 27 rfl rfl
theorem dX9_isCalm_28 : decode cX9_isCalm 28 = .ok (.if_icmp .ne 7, 3) := zq_2s zo_160 zkX9_isCalm_0 28 rfl rfl 0 7 rfl rfl _ (by decide +kernel)
theorem dX9_isCalm_31 : decode cX9_isCalm 31 = .ok (.iconst 1, 1) := zq_0 zo_4 zkX9_isCalm_0 31 rfl rfl
theorem zkX9_isCalm_32 : zqc cX9_isCalm 32 [167, 0, 23, 3, 167, 0, 19, 42, 180, 0, 34, 180, 0, 223, 29, 163, 0, 7, 4, 167, 0, 4, 3, 172] := zq_of 24 (by decide +kernel)
theorem dX9_isCalm_32 : decode cX9_isCalm 32 = .ok (.goto 23, 3) := zq_2s zo_167 zkX9_isCalm_32 0 rfl rfl 0 23 rfl rfl _ (by decide +kernel)
theorem dX9_isCalm_35 : decode cX9_isCalm 35 = .ok (.iconst 0, 1) := zq_0 zo_3 zkX9_isCalm_32 3 rfl rfl
theorem dX9_isCalm_36 : decode cX9_isCalm 36 = .ok (.goto 19, 3) := zq_2s zo_167 zkX9_isCalm_32 4 rfl rfl 0 19 rfl rfl _ (by decide +kernel)
theorem dX9_isCalm_39 : decode cX9_isCalm 39 = .ok (.aload_n 0, 1) := zq_0 zo_42 zkX9_isCalm_32 7 rfl rfl
theorem dX9_isCalm_40 : decode cX9_isCalm 40 = .ok (.getfield 34, 3) := zq_2 zo_180 zkX9_isCalm_32 8 rfl rfl 0 34 rfl rfl _ rfl
theorem dX9_isCalm_43 : decode cX9_isCalm 43 = .ok (.getfield 223, 3) := zq_2 zo_180 zkX9_isCalm_32 11 rfl rfl 0 223 rfl rfl _ rfl
theorem dX9_isCalm_46 : decode cX9_isCalm 46 = .ok (.iload_n 3, 1) := zq_0 zo_29 zkX9_isCalm_32 14 rfl rfl
theorem dX9_isCalm_47 : decode cX9_isCalm 47 = .ok (.if_icmp .gt 7, 3) := zq_2s zo_163 zkX9_isCalm_32 15 rfl rfl 0 7 rfl rfl _ (by decide +kernel)
theorem dX9_isCalm_50 : decode cX9_isCalm 50 = .ok (.iconst 1, 1) := zq_0 zo_4 zkX9_isCalm_32 18 rfl rfl
theorem dX9_isCalm_51 : decode cX9_isCalm 51 = .ok (.goto 4, 3) := zq_2s zo_167 zkX9_isCalm_32 19 rfl rfl 0 4 rfl rfl _ (by decide +kernel)
theorem dX9_isCalm_54 : decode cX9_isCalm 54 = .ok (.iconst 0, 1) := zq_0 zo_3 zkX9_isCalm_32 22 rfl rfl
theorem dX9_isCalm_55 : decode cX9_isCalm 55 = .ok (.ireturn, 1) := zq_0 zo_172 zkX9_isCalm_32 23 rfl rfl
theorem zkX9_sparePost_0 : zqc cX9_sparePost 0 [2, 54, 5, 42, 180, 0, 34, 180, 0, 223, 54, 6, 42, 180, 0, 69, 43, 182, 1, 47, 3, 54, 7, 21, 7, 43, 180, 0, 125, 162, 0, 78, 42, 180] := zq_of 34 (by decide +kernel)
theorem dX9_sparePost_0 : decode cX9_sparePost 0 = .ok (.iconst (-1), 1) := zq_0 zo_2 zkX9_sparePost_0 0 rfl rfl
theorem dX9_sparePost_1 : decode cX9_sparePost 1 = .ok (.istore 5, 2) := zq_1 zo_54 zkX9_sparePost_0 1 rfl rfl 5 rfl
theorem dX9_sparePost_3 : decode cX9_sparePost 3 = .ok (.aload_n 0, 1) := zq_0 zo_42 zkX9_sparePost_0 3 rfl rfl
theorem dX9_sparePost_4 : decode cX9_sparePost 4 = .ok (.getfield 34, 3) := zq_2 zo_180 zkX9_sparePost_0 4 rfl rfl 0 34 rfl rfl _ rfl
theorem dX9_sparePost_7 : decode cX9_sparePost 7 = .ok (.getfield 223, 3) := zq_2 zo_180 zkX9_sparePost_0 7 rfl rfl 0 223 rfl rfl _ rfl
theorem dX9_sparePost_10 : decode cX9_sparePost 10 = .ok (.istore 6, 2) := zq_1 zo_54 zkX9_sparePost_0 10 rfl rfl 6 rfl
theorem dX9_sparePost_12 : decode cX9_sparePost 12 = .ok (.aload_n 0, 1) := zq_0 zo_42 zkX9_sparePost_0 12 rfl rfl
theorem dX9_sparePost_13 : decode cX9_sparePost 13 = .ok (.getfield 69, 3) := zq_2 zo_180 zkX9_sparePost_0 13 rfl rfl 0 69 rfl rfl _ rfl
theorem dX9_sparePost_16 : decode cX9_sparePost 16 = .ok (.aload_n 1, 1) := zq_0 zo_43 zkX9_sparePost_0 16 rfl rfl
theorem dX9_sparePost_17 : decode cX9_sparePost 17 = .ok (.invokevirtual 303, 3) := zq_2 zo_182 zkX9_sparePost_0 17 rfl rfl 1 47 rfl rfl _ rfl
theorem dX9_sparePost_20 : decode cX9_sparePost 20 = .ok (.iconst 0, 1) := zq_0 zo_3 zkX9_sparePost_0 20 rfl rfl
theorem dX9_sparePost_21 : decode cX9_sparePost 21 = .ok (.istore 7, 2) := zq_1 zo_54 zkX9_sparePost_0 21 rfl rfl 7 rfl
theorem dX9_sparePost_23 : decode cX9_sparePost 23 = .ok (.iload 7, 2) := zq_1 zo_21 zkX9_sparePost_0 23 rfl rfl 7 rfl
theorem dX9_sparePost_25 : decode cX9_sparePost 25 = .ok (.aload_n 1, 1) := zq_0 zo_43 zkX9_sparePost_0 25 rfl rfl
theorem dX9_sparePost_26 : decode cX9_sparePost 26 = .ok (.getfield 125, 3) := zq_2 zo_180 zkX9_sparePost_0 26 rfl rfl 0 125 rfl rfl _ rfl
theorem dX9_sparePost_29 : decode cX9_sparePost 29 = .ok (.if_icmp .ge 78, 3) := zq_2s zo_162 zkX9_sparePost_0 29 rfl rfl 0 78 rfl rfl _ (by decide +kernel)
theorem zkX9_sparePost_32 : zqc cX9_sparePost 32 [42, 180, 0, 69, 180, 0, 162, 21, 7, 3, 79, 42, 180, 0, 34, 42, 180, 0, 69, 28, 29, 21, 4, 2, 182, 1, 5, 42, 180, 0, 69, 180, 0, 162] := zq_of 34 (by decide +kernel)
theorem dX9_sparePost_32 : decode cX9_sparePost 32 = .ok (.aload_n 0, 1) := zq_0 zo_42 zkX9_sparePost_32 0 rfl rfl
theorem dX9_sparePost_33 : decode cX9_sparePost 33 = .ok (.getfield 69, 3) := zq_2 zo_180 zkX9_sparePost_32 1 rfl rfl 0 69 rfl rfl _ rfl
theorem dX9_sparePost_36 : decode cX9_sparePost 36 = .ok (.getfield 162, 3) := zq_2 zo_180 zkX9_sparePost_32 4 rfl rfl 0 162 rfl rfl _ rfl
theorem dX9_sparePost_39 : decode cX9_sparePost 39 = .ok (.iload 7, 2) := zq_1 zo_21 zkX9_sparePost_32 7 rfl rfl 7 rfl
theorem dX9_sparePost_41 : decode cX9_sparePost 41 = .ok (.iconst 0, 1) := zq_0 zo_3 zkX9_sparePost_32 9 rfl rfl
theorem dX9_sparePost_42 : decode cX9_sparePost 42 = .ok (.iastore, 1) := zq_0 zo_79 zkX9_sparePost_32 10 rfl rfl
theorem dX9_sparePost_43 : decode cX9_sparePost 43 = .ok (.aload_n 0, 1) := zq_0 zo_42 zkX9_sparePost_32 11 rfl rfl
theorem dX9_sparePost_44 : decode cX9_sparePost 44 = .ok (.getfield 34, 3) := zq_2 zo_180 zkX9_sparePost_32 12 rfl rfl 0 34 rfl rfl _ rfl
theorem dX9_sparePost_47 : decode cX9_sparePost 47 = .ok (.aload_n 0, 1) := zq_0 zo_42 zkX9_sparePost_32 15 rfl rfl
theorem dX9_sparePost_48 : decode cX9_sparePost 48 = .ok (.getfield 69, 3) := zq_2 zo_180 zkX9_sparePost_32 16 rfl rfl 0 69 rfl rfl _ rfl
theorem dX9_sparePost_51 : decode cX9_sparePost 51 = .ok (.iload_n 2, 1) := zq_0 zo_28 zkX9_sparePost_32 19 rfl rfl
theorem dX9_sparePost_52 : decode cX9_sparePost 52 = .ok (.iload_n 3, 1) := zq_0 zo_29 zkX9_sparePost_32 20 rfl rfl
theorem dX9_sparePost_53 : decode cX9_sparePost 53 = .ok (.iload 4, 2) := zq_1 zo_21 zkX9_sparePost_32 21 rfl rfl 4 rfl
theorem dX9_sparePost_55 : decode cX9_sparePost 55 = .ok (.iconst (-1), 1) := zq_0 zo_2 zkX9_sparePost_32 23 rfl rfl
theorem dX9_sparePost_56 : decode cX9_sparePost 56 = .ok (.invokevirtual 261, 3) := zq_2 zo_182 zkX9_sparePost_32 24 rfl rfl 1 5 rfl rfl _ rfl
theorem dX9_sparePost_59 : decode cX9_sparePost 59 = .ok (.aload_n 0, 1) := zq_0 zo_42 zkX9_sparePost_32 27 rfl rfl
theorem dX9_sparePost_60 : decode cX9_sparePost 60 = .ok (.getfield 69, 3) := zq_2 zo_180 zkX9_sparePost_32 28 rfl rfl 0 69 rfl rfl _ rfl
theorem dX9_sparePost_63 : decode cX9_sparePost 63 = .ok (.getfield 162, 3) := zq_2 zo_180 zkX9_sparePost_32 31 rfl rfl 0 162 rfl rfl _ rfl
theorem zkX9_sparePost_64 : zqc cX9_sparePost 64 [0, 162, 21, 7, 43, 180, 0, 162, 21, 7, 46, 79, 42, 180, 0, 34, 180, 0, 223, 21, 6, 162, 0, 16, 21, 7, 54, 5, 42, 180, 0, 34, 180, 0] := zq_of 34 (by decide +kernel)
theorem dX9_sparePost_66 : decode cX9_sparePost 66 = .ok (.iload 7, 2) := zq_1 zo_21 zkX9_sparePost_64 2 rfl rfl 7 rfl
theorem dX9_sparePost_68 : decode cX9_sparePost 68 = .ok (.aload_n 1, 1) := zq_0 zo_43 zkX9_sparePost_64 4 rfl rfl
theorem dX9_sparePost_69 : decode cX9_sparePost 69 = .ok (.getfield 162, 3) := zq_2 zo_180 zkX9_sparePost_64 5 rfl rfl 0 162 rfl rfl _ rfl
theorem dX9_sparePost_72 : decode cX9_sparePost 72 = .ok (.iload 7, 2) := zq_1 zo_21 zkX9_sparePost_64 8 rfl rfl 7 rfl
theorem dX9_sparePost_74 : decode cX9_sparePost 74 = .ok (.iaload, 1) := zq_0 zo_46 zkX9_sparePost_64 10 rfl rfl
theorem dX9_sparePost_75 : decode cX9_sparePost 75 = .ok (.iastore, 1) := zq_0 zo_79 zkX9_sparePost_64 11 rfl rfl
theorem dX9_sparePost_76 : decode cX9_sparePost 76 = .ok (.aload_n 0, 1) := zq_0 zo_42 zkX9_sparePost_64 12 rfl rfl
theorem dX9_sparePost_77 : decode cX9_sparePost 77 = .ok (.getfield 34, 3) := zq_2 zo_180 zkX9_sparePost_64 13 rfl rfl 0 34 rfl rfl _ rfl
theorem dX9_sparePost_80 : decode cX9_sparePost 80 = .ok (.getfield 223, 3) := zq_2 zo_180 zkX9_sparePost_64 16 rfl rfl 0 223 rfl rfl _ rfl
theorem dX9_sparePost_83 : decode cX9_sparePost 83 = .ok (.iload 6, 2) := zq_1 zo_21 zkX9_sparePost_64 19 rfl rfl 6 rfl
theorem dX9_sparePost_85 : decode cX9_sparePost 85 = .ok (.if_icmp .ge 16, 3) := zq_2s zo_162 zkX9_sparePost_64 21 rfl rfl 0 16 rfl rfl _ (by decide +kernel)
theorem dX9_sparePost_88 : decode cX9_sparePost 88 = .ok (.iload 7, 2) := zq_1 zo_21 zkX9_sparePost_64 24 rfl rfl 7 rfl
theorem dX9_sparePost_90 : decode cX9_sparePost 90 = .ok (.istore 5, 2) := zq_1 zo_54 zkX9_sparePost_64 26 rfl rfl 5 rfl
theorem dX9_sparePost_92 : decode cX9_sparePost 92 = .ok (.aload_n 0, 1) := zq_0 zo_42 zkX9_sparePost_64 28 rfl rfl
theorem dX9_sparePost_93 : decode cX9_sparePost 93 = .ok (.getfield 34, 3) := zq_2 zo_180 zkX9_sparePost_64 29 rfl rfl 0 34 rfl rfl _ rfl
theorem zkX9_sparePost_96 : zqc cX9_sparePost 96 [180, 0, 223, 54, 6, 132, 7, 1, 167, 255, 175, 21, 5, 172] := zq_of 14 (by decide +kernel)
theorem dX9_sparePost_96 : decode cX9_sparePost 96 = .ok (.getfield 223, 3) := zq_2 zo_180 zkX9_sparePost_96 0 rfl rfl 0 223 rfl rfl _ rfl
theorem dX9_sparePost_99 : decode cX9_sparePost 99 = .ok (.istore 6, 2) := zq_1 zo_54 zkX9_sparePost_96 3 rfl rfl 6 rfl
theorem dX9_sparePost_101 : decode cX9_sparePost 101 = .ok (.iinc 7 1, 3) := zq_ii zo_132 zkX9_sparePost_96 5 rfl rfl 7 1 rfl rfl _ (by decide +kernel)
theorem dX9_sparePost_104 : decode cX9_sparePost 104 = .ok (.goto (-81), 3) := zq_2s zo_167 zkX9_sparePost_96 8 rfl rfl 255 175 rfl rfl _ (by decide +kernel)
theorem dX9_sparePost_107 : decode cX9_sparePost 107 = .ok (.iload 5, 2) := zq_1 zo_21 zkX9_sparePost_96 11 rfl rfl 5 rfl
theorem dX9_sparePost_109 : decode cX9_sparePost 109 = .ok (.ireturn, 1) := zq_0 zo_172 zkX9_sparePost_96 13 rfl rfl
theorem zkX9_bestChoice_0 : zqc cX9_bestChoice 0 [21, 5, 54, 7, 2, 54, 8, 21, 5, 54, 9, 21, 9, 21, 6, 163, 0, 59, 25, 4, 28, 21, 9, 79, 42, 180, 0, 34, 42, 180, 0, 69, 29, 3] := zq_of 34 (by decide +kernel)
theorem dX9_bestChoice_0 : decode cX9_bestChoice 0 = .ok (.iload 5, 2) := zq_1 zo_21 zkX9_bestChoice_0 0 rfl rfl 5 rfl
theorem dX9_bestChoice_2 : decode cX9_bestChoice 2 = .ok (.istore 7, 2) := zq_1 zo_54 zkX9_bestChoice_0 2 rfl rfl 7 rfl
theorem dX9_bestChoice_4 : decode cX9_bestChoice 4 = .ok (.iconst (-1), 1) := zq_0 zo_2 zkX9_bestChoice_0 4 rfl rfl
theorem dX9_bestChoice_5 : decode cX9_bestChoice 5 = .ok (.istore 8, 2) := zq_1 zo_54 zkX9_bestChoice_0 5 rfl rfl 8 rfl
theorem dX9_bestChoice_7 : decode cX9_bestChoice 7 = .ok (.iload 5, 2) := zq_1 zo_21 zkX9_bestChoice_0 7 rfl rfl 5 rfl
theorem dX9_bestChoice_9 : decode cX9_bestChoice 9 = .ok (.istore 9, 2) := zq_1 zo_54 zkX9_bestChoice_0 9 rfl rfl 9 rfl
theorem dX9_bestChoice_11 : decode cX9_bestChoice 11 = .ok (.iload 9, 2) := zq_1 zo_21 zkX9_bestChoice_0 11 rfl rfl 9 rfl
theorem dX9_bestChoice_13 : decode cX9_bestChoice 13 = .ok (.iload 6, 2) := zq_1 zo_21 zkX9_bestChoice_0 13 rfl rfl 6 rfl
theorem dX9_bestChoice_15 : decode cX9_bestChoice 15 = .ok (.if_icmp .gt 59, 3) := zq_2s zo_163 zkX9_bestChoice_0 15 rfl rfl 0 59 rfl rfl _ (by decide +kernel)
theorem dX9_bestChoice_18 : decode cX9_bestChoice 18 = .ok (.aload 4, 2) := zq_1 zo_25 zkX9_bestChoice_0 18 rfl rfl 4 rfl
theorem dX9_bestChoice_20 : decode cX9_bestChoice 20 = .ok (.iload_n 2, 1) := zq_0 zo_28 zkX9_bestChoice_0 20 rfl rfl
theorem dX9_bestChoice_21 : decode cX9_bestChoice 21 = .ok (.iload 9, 2) := zq_1 zo_21 zkX9_bestChoice_0 21 rfl rfl 9 rfl
theorem dX9_bestChoice_23 : decode cX9_bestChoice 23 = .ok (.iastore, 1) := zq_0 zo_79 zkX9_bestChoice_0 23 rfl rfl
theorem dX9_bestChoice_24 : decode cX9_bestChoice 24 = .ok (.aload_n 0, 1) := zq_0 zo_42 zkX9_bestChoice_0 24 rfl rfl
theorem dX9_bestChoice_25 : decode cX9_bestChoice 25 = .ok (.getfield 34, 3) := zq_2 zo_180 zkX9_bestChoice_0 25 rfl rfl 0 34 rfl rfl _ rfl
theorem dX9_bestChoice_28 : decode cX9_bestChoice 28 = .ok (.aload_n 0, 1) := zq_0 zo_42 zkX9_bestChoice_0 28 rfl rfl
theorem dX9_bestChoice_29 : decode cX9_bestChoice 29 = .ok (.getfield 69, 3) := zq_2 zo_180 zkX9_bestChoice_0 29 rfl rfl 0 69 rfl rfl _ rfl
theorem zkX9_bestChoice_32 : zqc cX9_bestChoice 32 [29, 3, 27, 2, 182, 1, 5, 42, 180, 0, 34, 180, 0, 214, 28, 46, 21, 8, 164, 0, 18, 21, 9, 54, 7, 42, 180, 0, 34, 180, 0, 214, 28, 46] := zq_of 34 (by decide +kernel)
theorem dX9_bestChoice_32 : decode cX9_bestChoice 32 = .ok (.iload_n 3, 1) := zq_0 zo_29 zkX9_bestChoice_32 0 rfl rfl
theorem dX9_bestChoice_33 : decode cX9_bestChoice 33 = .ok (.iconst 0, 1) := zq_0 zo_3 zkX9_bestChoice_32 1 rfl rfl
theorem dX9_bestChoice_34 : decode cX9_bestChoice 34 = .ok (.iload_n 1, 1) := zq_0 zo_27 zkX9_bestChoice_32 2 rfl rfl
theorem dX9_bestChoice_35 : decode cX9_bestChoice 35 = .ok (.iconst (-1), 1) := zq_0 zo_2 zkX9_bestChoice_32 3 rfl rfl
theorem dX9_bestChoice_36 : decode cX9_bestChoice 36 = .ok (.invokevirtual 261, 3) := zq_2 zo_182 zkX9_bestChoice_32 4 rfl rfl 1 5 rfl rfl _ rfl
theorem dX9_bestChoice_39 : decode cX9_bestChoice 39 = .ok (.aload_n 0, 1) := zq_0 zo_42 zkX9_bestChoice_32 7 rfl rfl
theorem dX9_bestChoice_40 : decode cX9_bestChoice 40 = .ok (.getfield 34, 3) := zq_2 zo_180 zkX9_bestChoice_32 8 rfl rfl 0 34 rfl rfl _ rfl
theorem dX9_bestChoice_43 : decode cX9_bestChoice 43 = .ok (.getfield 214, 3) := zq_2 zo_180 zkX9_bestChoice_32 11 rfl rfl 0 214 rfl rfl _ rfl
theorem dX9_bestChoice_46 : decode cX9_bestChoice 46 = .ok (.iload_n 2, 1) := zq_0 zo_28 zkX9_bestChoice_32 14 rfl rfl
theorem dX9_bestChoice_47 : decode cX9_bestChoice 47 = .ok (.iaload, 1) := zq_0 zo_46 zkX9_bestChoice_32 15 rfl rfl
theorem dX9_bestChoice_48 : decode cX9_bestChoice 48 = .ok (.iload 8, 2) := zq_1 zo_21 zkX9_bestChoice_32 16 rfl rfl 8 rfl
theorem dX9_bestChoice_50 : decode cX9_bestChoice 50 = .ok (.if_icmp .le 18, 3) := zq_2s zo_164 zkX9_bestChoice_32 18 rfl rfl 0 18 rfl rfl _ (by decide +kernel)
theorem dX9_bestChoice_53 : decode cX9_bestChoice 53 = .ok (.iload 9, 2) := zq_1 zo_21 zkX9_bestChoice_32 21 rfl rfl 9 rfl
theorem dX9_bestChoice_55 : decode cX9_bestChoice 55 = .ok (.istore 7, 2) := zq_1 zo_54 zkX9_bestChoice_32 23 rfl rfl 7 rfl
theorem dX9_bestChoice_57 : decode cX9_bestChoice 57 = .ok (.aload_n 0, 1) := zq_0 zo_42 zkX9_bestChoice_32 25 rfl rfl
theorem dX9_bestChoice_58 : decode cX9_bestChoice 58 = .ok (.getfield 34, 3) := zq_2 zo_180 zkX9_bestChoice_32 26 rfl rfl 0 34 rfl rfl _ rfl
theorem dX9_bestChoice_61 : decode cX9_bestChoice 61 = .ok (.getfield 214, 3) := zq_2 zo_180 zkX9_bestChoice_32 29 rfl rfl 0 214 rfl rfl _ rfl
theorem zkX9_bestChoice_64 : zqc cX9_bestChoice 64 [28, 46, 54, 8, 132, 9, 1, 167, 255, 196, 21, 7, 172] := zq_of 13 (by decide +kernel)
theorem dX9_bestChoice_64 : decode cX9_bestChoice 64 = .ok (.iload_n 2, 1) := zq_0 zo_28 zkX9_bestChoice_64 0 rfl rfl
theorem dX9_bestChoice_65 : decode cX9_bestChoice 65 = .ok (.iaload, 1) := zq_0 zo_46 zkX9_bestChoice_64 1 rfl rfl
theorem dX9_bestChoice_66 : decode cX9_bestChoice 66 = .ok (.istore 8, 2) := zq_1 zo_54 zkX9_bestChoice_64 2 rfl rfl 8 rfl
theorem dX9_bestChoice_68 : decode cX9_bestChoice 68 = .ok (.iinc 9 1, 3) := zq_ii zo_132 zkX9_bestChoice_64 4 rfl rfl 9 1 rfl rfl _ (by decide +kernel)
theorem dX9_bestChoice_71 : decode cX9_bestChoice 71 = .ok (.goto (-60), 3) := zq_2s zo_167 zkX9_bestChoice_64 7 rfl rfl 255 196 rfl rfl _ (by decide +kernel)
theorem dX9_bestChoice_74 : decode cX9_bestChoice 74 = .ok (.iload 7, 2) := zq_1 zo_21 zkX9_bestChoice_64 10 rfl rfl 7 rfl
theorem dX9_bestChoice_76 : decode cX9_bestChoice 76 = .ok (.ireturn, 1) := zq_0 zo_172 zkX9_bestChoice_64 12 rfl rfl
theorem zkX9_tenfoldMean_0 : zqc cX9_tenfoldMean 0 [9, 64, 3, 62, 29, 42, 180, 0, 125, 4, 100, 162, 0, 26, 31, 42, 180, 0, 165, 29, 46, 133, 42, 29, 182, 0, 171, 133, 105, 97, 64, 132, 3, 1] := zq_of 34 (by decide +kernel)
theorem dX9_tenfoldMean_0 : decode cX9_tenfoldMean 0 = .ok (.lconst 0, 1) := zq_0 zo_9 zkX9_tenfoldMean_0 0 rfl rfl
theorem dX9_tenfoldMean_1 : decode cX9_tenfoldMean 1 = .ok (.lstore_n 1, 1) := zq_0 zo_64 zkX9_tenfoldMean_0 1 rfl rfl
theorem dX9_tenfoldMean_2 : decode cX9_tenfoldMean 2 = .ok (.iconst 0, 1) := zq_0 zo_3 zkX9_tenfoldMean_0 2 rfl rfl
theorem dX9_tenfoldMean_3 : decode cX9_tenfoldMean 3 = .ok (.istore_n 3, 1) := zq_0 zo_62 zkX9_tenfoldMean_0 3 rfl rfl
theorem dX9_tenfoldMean_4 : decode cX9_tenfoldMean 4 = .ok (.iload_n 3, 1) := zq_0 zo_29 zkX9_tenfoldMean_0 4 rfl rfl
theorem dX9_tenfoldMean_5 : decode cX9_tenfoldMean 5 = .ok (.aload_n 0, 1) := zq_0 zo_42 zkX9_tenfoldMean_0 5 rfl rfl
theorem dX9_tenfoldMean_6 : decode cX9_tenfoldMean 6 = .ok (.getfield 125, 3) := zq_2 zo_180 zkX9_tenfoldMean_0 6 rfl rfl 0 125 rfl rfl _ rfl
theorem dX9_tenfoldMean_9 : decode cX9_tenfoldMean 9 = .ok (.iconst 1, 1) := zq_0 zo_4 zkX9_tenfoldMean_0 9 rfl rfl
theorem dX9_tenfoldMean_10 : decode cX9_tenfoldMean 10 = .ok (.isub, 1) := zq_0 zo_100 zkX9_tenfoldMean_0 10 rfl rfl
theorem dX9_tenfoldMean_11 : decode cX9_tenfoldMean 11 = .ok (.if_icmp .ge 26, 3) := zq_2s zo_162 zkX9_tenfoldMean_0 11 rfl rfl 0 26 rfl rfl _ (by decide +kernel)
theorem dX9_tenfoldMean_14 : decode cX9_tenfoldMean 14 = .ok (.lload_n 1, 1) := zq_0 zo_31 zkX9_tenfoldMean_0 14 rfl rfl
theorem dX9_tenfoldMean_15 : decode cX9_tenfoldMean 15 = .ok (.aload_n 0, 1) := zq_0 zo_42 zkX9_tenfoldMean_0 15 rfl rfl
theorem dX9_tenfoldMean_16 : decode cX9_tenfoldMean 16 = .ok (.getfield 165, 3) := zq_2 zo_180 zkX9_tenfoldMean_0 16 rfl rfl 0 165 rfl rfl _ rfl
theorem dX9_tenfoldMean_19 : decode cX9_tenfoldMean 19 = .ok (.iload_n 3, 1) := zq_0 zo_29 zkX9_tenfoldMean_0 19 rfl rfl
theorem dX9_tenfoldMean_20 : decode cX9_tenfoldMean 20 = .ok (.iaload, 1) := zq_0 zo_46 zkX9_tenfoldMean_0 20 rfl rfl
theorem dX9_tenfoldMean_21 : decode cX9_tenfoldMean 21 = .ok (.i2l, 1) := zq_0 zo_133 zkX9_tenfoldMean_0 21 rfl rfl
theorem dX9_tenfoldMean_22 : decode cX9_tenfoldMean 22 = .ok (.aload_n 0, 1) := zq_0 zo_42 zkX9_tenfoldMean_0 22 rfl rfl
theorem dX9_tenfoldMean_23 : decode cX9_tenfoldMean 23 = .ok (.iload_n 3, 1) := zq_0 zo_29 zkX9_tenfoldMean_0 23 rfl rfl
theorem dX9_tenfoldMean_24 : decode cX9_tenfoldMean 24 = .ok (.invokevirtual 171, 3) := zq_2 zo_182 zkX9_tenfoldMean_0 24 rfl rfl 0 171 rfl rfl _ rfl
theorem dX9_tenfoldMean_27 : decode cX9_tenfoldMean 27 = .ok (.i2l, 1) := zq_0 zo_133 zkX9_tenfoldMean_0 27 rfl rfl
theorem dX9_tenfoldMean_28 : decode cX9_tenfoldMean 28 = .ok (.lmul, 1) := zq_0 zo_105 zkX9_tenfoldMean_0 28 rfl rfl
theorem dX9_tenfoldMean_29 : decode cX9_tenfoldMean 29 = .ok (.ladd, 1) := zq_0 zo_97 zkX9_tenfoldMean_0 29 rfl rfl
theorem dX9_tenfoldMean_30 : decode cX9_tenfoldMean 30 = .ok (.lstore_n 1, 1) := zq_0 zo_64 zkX9_tenfoldMean_0 30 rfl rfl
theorem dX9_tenfoldMean_31 : decode cX9_tenfoldMean 31 = .ok (.iinc 3 1, 3) := zq_ii zo_132 zkX9_tenfoldMean_0 31 rfl rfl 3 1 rfl rfl _ (by decide +kernel)
theorem zkX9_tenfoldMean_32 : zqc cX9_tenfoldMean 32 [3, 1, 167, 255, 226, 31, 173] := zq_of 7 (by decide +kernel)
theorem dX9_tenfoldMean_34 : decode cX9_tenfoldMean 34 = .ok (.goto (-30), 3) := zq_2s zo_167 zkX9_tenfoldMean_32 2 rfl rfl 255 226 rfl rfl _ (by decide +kernel)
theorem dX9_tenfoldMean_37 : decode cX9_tenfoldMean 37 = .ok (.lload_n 1, 1) := zq_0 zo_31 zkX9_tenfoldMean_32 5 rfl rfl
theorem dX9_tenfoldMean_38 : decode cX9_tenfoldMean 38 = .ok (.lreturn, 1) := zq_0 zo_173 zkX9_tenfoldMean_32 6 rfl rfl
theorem zkX9_leastTerm_0 : zqc cX9_leastTerm 0 [30, 32, 184, 1, 153, 55, 5, 21, 4, 153, 0, 7, 32, 167, 0, 4, 30, 55, 7, 22, 5, 9, 148, 154, 0, 8, 22, 7, 167, 0, 8, 22, 7, 22] := zq_of 34 (by decide +kernel)
theorem dX9_leastTerm_0 : decode cX9_leastTerm 0 = .ok (.lload_n 0, 1) := zq_0 zo_30 zkX9_leastTerm_0 0 rfl rfl
theorem dX9_leastTerm_1 : decode cX9_leastTerm 1 = .ok (.lload_n 2, 1) := zq_0 zo_32 zkX9_leastTerm_0 1 rfl rfl
theorem dX9_leastTerm_2 : decode cX9_leastTerm 2 = .ok (.invokestatic 409, 3) := zq_2 zo_184 zkX9_leastTerm_0 2 rfl rfl 1 153 rfl rfl _ rfl
theorem dX9_leastTerm_5 : decode cX9_leastTerm 5 = .ok (.lstore 5, 2) := zq_1 zo_55 zkX9_leastTerm_0 5 rfl rfl 5 rfl
theorem dX9_leastTerm_7 : decode cX9_leastTerm 7 = .ok (.iload 4, 2) := zq_1 zo_21 zkX9_leastTerm_0 7 rfl rfl 4 rfl
theorem dX9_leastTerm_9 : decode cX9_leastTerm 9 = .ok (.ifCond .eq 7, 3) := zq_2s zo_153 zkX9_leastTerm_0 9 rfl rfl 0 7 rfl rfl _ (by decide +kernel)
theorem dX9_leastTerm_12 : decode cX9_leastTerm 12 = .ok (.lload_n 2, 1) := zq_0 zo_32 zkX9_leastTerm_0 12 rfl rfl
theorem dX9_leastTerm_13 : decode cX9_leastTerm 13 = .ok (.goto 4, 3) := zq_2s zo_167 zkX9_leastTerm_0 13 rfl rfl 0 4 rfl rfl _ (by decide +kernel)
theorem dX9_leastTerm_16 : decode cX9_leastTerm 16 = .ok (.lload_n 0, 1) := zq_0 zo_30 zkX9_leastTerm_0 16 rfl rfl
theorem dX9_leastTerm_17 : decode cX9_leastTerm 17 = .ok (.lstore 7, 2) := zq_1 zo_55 zkX9_leastTerm_0 17 rfl rfl 7 rfl
theorem dX9_leastTerm_19 : decode cX9_leastTerm 19 = .ok (.lload 5, 2) := zq_1 zo_22 zkX9_leastTerm_0 19 rfl rfl 5 rfl
theorem dX9_leastTerm_21 : decode cX9_leastTerm 21 = .ok (.lconst 0, 1) := zq_0 zo_9 zkX9_leastTerm_0 21 rfl rfl
theorem dX9_leastTerm_22 : decode cX9_leastTerm 22 = .ok (.lcmp, 1) := zq_0 zo_148 zkX9_leastTerm_0 22 rfl rfl
theorem dX9_leastTerm_23 : decode cX9_leastTerm 23 = .ok (.ifCond .ne 8, 3) := zq_2s zo_154 zkX9_leastTerm_0 23 rfl rfl 0 8 rfl rfl _ (by decide +kernel)
theorem dX9_leastTerm_26 : decode cX9_leastTerm 26 = .ok (.lload 7, 2) := zq_1 zo_22 zkX9_leastTerm_0 26 rfl rfl 7 rfl
theorem dX9_leastTerm_28 : decode cX9_leastTerm 28 = .ok (.goto 8, 3) := zq_2s zo_167 zkX9_leastTerm_0 28 rfl rfl 0 8 rfl rfl _ (by decide +kernel)
theorem dX9_leastTerm_31 : decode cX9_leastTerm 31 = .ok (.lload 7, 2) := zq_1 zo_22 zkX9_leastTerm_0 31 rfl rfl 7 rfl
theorem zkX9_leastTerm_32 : zqc cX9_leastTerm 32 [7, 22, 5, 109, 173] := zq_of 5 (by decide +kernel)
theorem dX9_leastTerm_33 : decode cX9_leastTerm 33 = .ok (.lload 5, 2) := zq_1 zo_22 zkX9_leastTerm_32 1 rfl rfl 5 rfl
theorem dX9_leastTerm_35 : decode cX9_leastTerm 35 = .ok (.ldiv, 1) := zq_0 zo_109 zkX9_leastTerm_32 3 rfl rfl
theorem dX9_leastTerm_36 : decode cX9_leastTerm 36 = .ok (.lreturn, 1) := zq_0 zo_173 zkX9_leastTerm_32 4 rfl rfl
theorem zkX9_commonDivisor_0 : zqc cX9_commonDivisor 0 [30, 55, 4, 32, 55, 6, 3, 54, 8, 21, 8, 16, 100, 162, 0, 31, 22, 6, 9, 148, 153, 0, 24, 22, 4, 22, 6, 113, 55, 9, 22, 6, 55, 4] := zq_of 34 (by decide +kernel)
theorem dX9_commonDivisor_0 : decode cX9_commonDivisor 0 = .ok (.lload_n 0, 1) := zq_0 zo_30 zkX9_commonDivisor_0 0 rfl rfl
theorem dX9_commonDivisor_1 : decode cX9_commonDivisor 1 = .ok (.lstore 4, 2) := zq_1 zo_55 zkX9_commonDivisor_0 1 rfl rfl 4 rfl
theorem dX9_commonDivisor_3 : decode cX9_commonDivisor 3 = .ok (.lload_n 2, 1) := zq_0 zo_32 zkX9_commonDivisor_0 3 rfl rfl
theorem dX9_commonDivisor_4 : decode cX9_commonDivisor 4 = .ok (.lstore 6, 2) := zq_1 zo_55 zkX9_commonDivisor_0 4 rfl rfl 6 rfl
theorem dX9_commonDivisor_6 : decode cX9_commonDivisor 6 = .ok (.iconst 0, 1) := zq_0 zo_3 zkX9_commonDivisor_0 6 rfl rfl
theorem dX9_commonDivisor_7 : decode cX9_commonDivisor 7 = .ok (.istore 8, 2) := zq_1 zo_54 zkX9_commonDivisor_0 7 rfl rfl 8 rfl
theorem dX9_commonDivisor_9 : decode cX9_commonDivisor 9 = .ok (.iload 8, 2) := zq_1 zo_21 zkX9_commonDivisor_0 9 rfl rfl 8 rfl
theorem dX9_commonDivisor_11 : decode cX9_commonDivisor 11 = .ok (.bipush 100, 2) := zq_1s zo_16 zkX9_commonDivisor_0 11 rfl rfl 100 rfl _ (by decide +kernel)
theorem dX9_commonDivisor_13 : decode cX9_commonDivisor 13 = .ok (.if_icmp .ge 31, 3) := zq_2s zo_162 zkX9_commonDivisor_0 13 rfl rfl 0 31 rfl rfl _ (by decide +kernel)
theorem dX9_commonDivisor_16 : decode cX9_commonDivisor 16 = .ok (.lload 6, 2) := zq_1 zo_22 zkX9_commonDivisor_0 16 rfl rfl 6 rfl
theorem dX9_commonDivisor_18 : decode cX9_commonDivisor 18 = .ok (.lconst 0, 1) := zq_0 zo_9 zkX9_commonDivisor_0 18 rfl rfl
theorem dX9_commonDivisor_19 : decode cX9_commonDivisor 19 = .ok (.lcmp, 1) := zq_0 zo_148 zkX9_commonDivisor_0 19 rfl rfl
theorem dX9_commonDivisor_20 : decode cX9_commonDivisor 20 = .ok (.ifCond .eq 24, 3) := zq_2s zo_153 zkX9_commonDivisor_0 20 rfl rfl 0 24 rfl rfl _ (by decide +kernel)
theorem dX9_commonDivisor_23 : decode cX9_commonDivisor 23 = .ok (.lload 4, 2) := zq_1 zo_22 zkX9_commonDivisor_0 23 rfl rfl 4 rfl
theorem dX9_commonDivisor_25 : decode cX9_commonDivisor 25 = .ok (.lload 6, 2) := zq_1 zo_22 zkX9_commonDivisor_0 25 rfl rfl 6 rfl
theorem dX9_commonDivisor_27 : decode cX9_commonDivisor 27 = .ok (.lrem, 1) := zq_0 zo_113 zkX9_commonDivisor_0 27 rfl rfl
theorem dX9_commonDivisor_28 : decode cX9_commonDivisor 28 = .ok (.lstore 9, 2) := zq_1 zo_55 zkX9_commonDivisor_0 28 rfl rfl 9 rfl
theorem dX9_commonDivisor_30 : decode cX9_commonDivisor 30 = .ok (.lload 6, 2) := zq_1 zo_22 zkX9_commonDivisor_0 30 rfl rfl 6 rfl
theorem zkX9_commonDivisor_32 : zqc cX9_commonDivisor 32 [55, 4, 22, 9, 55, 6, 132, 8, 1, 167, 255, 224, 22, 4, 173] := zq_of 15 (by decide +kernel)
theorem dX9_commonDivisor_32 : decode cX9_commonDivisor 32 = .ok (.lstore 4, 2) := zq_1 zo_55 zkX9_commonDivisor_32 0 rfl rfl 4 rfl
theorem dX9_commonDivisor_34 : decode cX9_commonDivisor 34 = .ok (.lload 9, 2) := zq_1 zo_22 zkX9_commonDivisor_32 2 rfl rfl 9 rfl
theorem dX9_commonDivisor_36 : decode cX9_commonDivisor 36 = .ok (.lstore 6, 2) := zq_1 zo_55 zkX9_commonDivisor_32 4 rfl rfl 6 rfl
theorem dX9_commonDivisor_38 : decode cX9_commonDivisor 38 = .ok (.iinc 8 1, 3) := zq_ii zo_132 zkX9_commonDivisor_32 6 rfl rfl 8 1 rfl rfl _ (by decide +kernel)
theorem dX9_commonDivisor_41 : decode cX9_commonDivisor 41 = .ok (.goto (-32), 3) := zq_2s zo_167 zkX9_commonDivisor_32 9 rfl rfl 255 224 rfl rfl _ (by decide +kernel)
theorem dX9_commonDivisor_44 : decode cX9_commonDivisor 44 = .ok (.lload 4, 2) := zq_1 zo_22 zkX9_commonDivisor_32 12 rfl rfl 4 rfl
theorem dX9_commonDivisor_46 : decode cX9_commonDivisor 46 = .ok (.lreturn, 1) := zq_0 zo_173 zkX9_commonDivisor_32 14 rfl rfl
