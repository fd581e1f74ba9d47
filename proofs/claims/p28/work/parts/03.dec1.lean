theorem zkX5_init_0 : zqc cX5_init 0 [42, 183, 0, 3, 42, 16, 16, 188, 10, 181, 0, 9, 42, 16, 16, 188, 10, 181, 0, 15, 42, 16, 6, 188, 10, 181, 0, 18, 42, 16, 6, 188, 10, 181] := zq_of 34 (by decide +kernel)
theorem dX5_init_0 : decode cX5_init 0 = .ok (.aload_n 0, 1) := zq_0 zo_42 zkX5_init_0 0 rfl rfl
theorem dX5_init_1 : decode cX5_init 1 = .ok (.invokespecial 3, 3) := zq_2 zo_183 zkX5_init_0 1 rfl rfl 0 3 rfl rfl _ rfl
theorem dX5_init_4 : decode cX5_init 4 = .ok (.aload_n 0, 1) := zq_0 zo_42 zkX5_init_0 4 rfl rfl
theorem dX5_init_5 : decode cX5_init 5 = .ok (.bipush 16, 2) := zq_1s zo_16 zkX5_init_0 5 rfl rfl 16 rfl _ (by decide +kernel)
theorem dX5_init_7 : decode cX5_init 7 = .ok (.newarray .int, 2) := by decide +kernel
theorem dX5_init_9 : decode cX5_init 9 = .ok (.putfield 9, 3) := zq_2 zo_181 zkX5_init_0 9 rfl rfl 0 9 rfl rfl _ rfl
theorem dX5_init_12 : decode cX5_init 12 = .ok (.aload_n 0, 1) := zq_0 zo_42 zkX5_init_0 12 rfl rfl
theorem dX5_init_13 : decode cX5_init 13 = .ok (.bipush 16, 2) := zq_1s zo_16 zkX5_init_0 13 rfl rfl 16 rfl _ (by decide +kernel)
theorem dX5_init_15 : decode cX5_init 15 = .ok (.newarray .int, 2) := by decide +kernel
theorem dX5_init_17 : decode cX5_init 17 = .ok (.putfield 15, 3) := zq_2 zo_181 zkX5_init_0 17 rfl rfl 0 15 rfl rfl _ rfl
theorem dX5_init_20 : decode cX5_init 20 = .ok (.aload_n 0, 1) := zq_0 zo_42 zkX5_init_0 20 rfl rfl
theorem dX5_init_21 : decode cX5_init 21 = .ok (.bipush 6, 2) := zq_1s zo_16 zkX5_init_0 21 rfl rfl 6 rfl _ (by decide +kernel)
theorem dX5_init_23 : decode cX5_init 23 = .ok (.newarray .int, 2) := by decide +kernel
theorem dX5_init_25 : decode cX5_init 25 = .ok (.putfield 18, 3) := zq_2 zo_181 zkX5_init_0 25 rfl rfl 0 18 rfl rfl _ rfl
theorem dX5_init_28 : decode cX5_init 28 = .ok (.aload_n 0, 1) := zq_0 zo_42 zkX5_init_0 28 rfl rfl
theorem dX5_init_29 : decode cX5_init 29 = .ok (.bipush 6, 2) := zq_1s zo_16 zkX5_init_0 29 rfl rfl 6 rfl _ (by decide +kernel)
theorem dX5_init_31 : decode cX5_init 31 = .ok (.newarray .int, 2) := by decide +kernel
theorem zkX5_init_32 : zqc cX5_init 32 [10, 181, 0, 21, 177] := zq_of 5 (by decide +kernel)
theorem dX5_init_33 : decode cX5_init 33 = .ok (.putfield 21, 3) := zq_2 zo_181 zkX5_init_32 1 rfl rfl 0 21 rfl rfl _ rfl
theorem dX5_init_36 : decode cX5_init 36 = .ok (.return_, 1) := zq_0 zo_177 zkX5_init_32 4 rfl rfl
theorem zkX5_byLaw_0 : zqc cX5_byLaw 0 [42, 43, 21, 4, 182, 0, 24, 42, 29, 181, 0, 28, 28, 2, 160, 0, 4, 177, 3, 54, 6, 21, 6, 43, 180, 0, 32, 4, 100, 162, 0, 42, 42, 43] := zq_of 34 (by decide +kernel)
theorem dX5_byLaw_0 : decode cX5_byLaw 0 = .ok (.aload_n 0, 1) := zq_0 zo_42 zkX5_byLaw_0 0 rfl rfl
theorem dX5_byLaw_1 : decode cX5_byLaw 1 = .ok (.aload_n 1, 1) := zq_0 zo_43 zkX5_byLaw_0 1 rfl rfl
theorem dX5_byLaw_2 : decode cX5_byLaw 2 = .ok (.iload 4, 2) := zq_1 zo_21 zkX5_byLaw_0 2 rfl rfl 4 rfl
theorem dX5_byLaw_4 : decode cX5_byLaw 4 = .ok (.invokevirtual 24, 3) := zq_2 zo_182 zkX5_byLaw_0 4 rfl rfl 0 24 rfl rfl _ rfl
theorem dX5_byLaw_7 : decode cX5_byLaw 7 = .ok (.aload_n 0, 1) := zq_0 zo_42 zkX5_byLaw_0 7 rfl rfl
theorem dX5_byLaw_8 : decode cX5_byLaw 8 = .ok (.iload_n 3, 1) := zq_0 zo_29 zkX5_byLaw_0 8 rfl rfl
theorem dX5_byLaw_9 : decode cX5_byLaw 9 = .ok (.putfield 28, 3) := zq_2 zo_181 zkX5_byLaw_0 9 rfl rfl 0 28 rfl rfl _ rfl
theorem dX5_byLaw_12 : decode cX5_byLaw 12 = .ok (.iload_n 2, 1) := zq_0 zo_28 zkX5_byLaw_0 12 rfl rfl
theorem dX5_byLaw_13 : decode cX5_byLaw 13 = .ok (.iconst (-1), 1) := zq_0 zo_2 zkX5_byLaw_0 13 rfl rfl
theorem dX5_byLaw_14 : decode cX5_byLaw 14 = .ok (.if_icmp .ne 4, 3) := zq_2s zo_160 zkX5_byLaw_0 14 rfl rfl 0 4 rfl rfl _ (by decide +kernel)
theorem dX5_byLaw_17 : decode cX5_byLaw 17 = .ok (.return_, 1) := zq_0 zo_177 zkX5_byLaw_0 17 rfl rfl
theorem dX5_byLaw_18 : decode cX5_byLaw 18 = .ok (.iconst 0, 1) := zq_0 zo_3 zkX5_byLaw_0 18 rfl rfl
theorem dX5_byLaw_19 : decode cX5_byLaw 19 = .ok (.istore 6, 2) := zq_1 zo_54 zkX5_byLaw_0 19 rfl rfl 6 rfl
theorem dX5_byLaw_21 : decode cX5_byLaw 21 = .ok (.iload 6, 2) := zq_1 zo_21 zkX5_byLaw_0 21 rfl rfl 6 rfl
theorem dX5_byLaw_23 : decode cX5_byLaw 23 = .ok (.aload_n 1, 1) := zq_0 zo_43 zkX5_byLaw_0 23 rfl rfl
theorem dX5_byLaw_24 : decode cX5_byLaw 24 = .ok (.getfield 32, 3) := zq_2 zo_180 zkX5_byLaw_0 24 rfl rfl 0 32 rfl rfl _ rfl
theorem dX5_byLaw_27 : decode cX5_byLaw 27 = .ok (.iconst 1, 1) := zq_0 zo_4 zkX5_byLaw_0 27 rfl rfl
theorem dX5_byLaw_28 : decode cX5_byLaw 28 = .ok (.isub, 1) := zq_0 zo_100 zkX5_byLaw_0 28 rfl rfl
theorem dX5_byLaw_29 : decode cX5_byLaw 29 = .ok (.if_icmp .ge 42, 3) := zq_2s zo_162 zkX5_byLaw_0 29 rfl rfl 0 42 rfl rfl _ (by decide +kernel)
theorem zkX5_byLaw_32 : zqc cX5_byLaw 32 [42, 43, 28, 42, 43, 21, 6, 182, 0, 37, 21, 5, 126, 182, 0, 41, 54, 7, 21, 7, 2, 159, 0, 12, 42, 43, 21, 6, 21, 7, 182, 0, 45, 132] := zq_of 34 (by decide +kernel)
theorem dX5_byLaw_32 : decode cX5_byLaw 32 = .ok (.aload_n 0, 1) := zq_0 zo_42 zkX5_byLaw_32 0 rfl rfl
theorem dX5_byLaw_33 : decode cX5_byLaw 33 = .ok (.aload_n 1, 1) := zq_0 zo_43 zkX5_byLaw_32 1 rfl rfl
theorem dX5_byLaw_34 : decode cX5_byLaw 34 = .ok (.iload_n 2, 1) := zq_0 zo_28 zkX5_byLaw_32 2 rfl rfl
theorem dX5_byLaw_35 : decode cX5_byLaw 35 = .ok (.aload_n 0, 1) := zq_0 zo_42 zkX5_byLaw_32 3 rfl rfl
theorem dX5_byLaw_36 : decode cX5_byLaw 36 = .ok (.aload_n 1, 1) := zq_0 zo_43 zkX5_byLaw_32 4 rfl rfl
theorem dX5_byLaw_37 : decode cX5_byLaw 37 = .ok (.iload 6, 2) := zq_1 zo_21 zkX5_byLaw_32 5 rfl rfl 6 rfl
theorem dX5_byLaw_39 : decode cX5_byLaw 39 = .ok (.invokevirtual 37, 3) := zq_2 zo_182 zkX5_byLaw_32 7 rfl rfl 0 37 rfl rfl _ rfl
theorem dX5_byLaw_42 : decode cX5_byLaw 42 = .ok (.iload 5, 2) := zq_1 zo_21 zkX5_byLaw_32 10 rfl rfl 5 rfl
theorem dX5_byLaw_44 : decode cX5_byLaw 44 = .ok (.iand, 1) := zq_0 zo_126 zkX5_byLaw_32 12 rfl rfl
theorem dX5_byLaw_45 : decode cX5_byLaw 45 = .ok (.invokevirtual 41, 3) := zq_2 zo_182 zkX5_byLaw_32 13 rfl rfl 0 41 rfl rfl _ rfl
theorem dX5_byLaw_48 : decode cX5_byLaw 48 = .ok (.istore 7, 2) := zq_1 zo_54 zkX5_byLaw_32 16 rfl rfl 7 rfl
theorem dX5_byLaw_50 : decode cX5_byLaw 50 = .ok (.iload 7, 2) := zq_1 zo_21 zkX5_byLaw_32 18 rfl rfl 7 rfl
theorem dX5_byLaw_52 : decode cX5_byLaw 52 = .ok (.iconst (-1), 1) := zq_0 zo_2 zkX5_byLaw_32 20 rfl rfl
theorem dX5_byLaw_53 : decode cX5_byLaw 53 = .ok (.if_icmp .eq 12, 3) := zq_2s zo_159 zkX5_byLaw_32 21 rfl rfl 0 12 rfl rfl _ (by decide +kernel)
theorem dX5_byLaw_56 : decode cX5_byLaw 56 = .ok (.aload_n 0, 1) := zq_0 zo_42 zkX5_byLaw_32 24 rfl rfl
theorem dX5_byLaw_57 : decode cX5_byLaw 57 = .ok (.aload_n 1, 1) := zq_0 zo_43 zkX5_byLaw_32 25 rfl rfl
theorem dX5_byLaw_58 : decode cX5_byLaw 58 = .ok (.iload 6, 2) := zq_1 zo_21 zkX5_byLaw_32 26 rfl rfl 6 rfl
theorem dX5_byLaw_60 : decode cX5_byLaw 60 = .ok (.iload 7, 2) := zq_1 zo_21 zkX5_byLaw_32 28 rfl rfl 7 rfl
theorem dX5_byLaw_62 : decode cX5_byLaw 62 = .ok (.invokevirtual 45, 3) := zq_2 zo_182 zkX5_byLaw_32 30 rfl rfl 0 45 rfl rfl _ rfl
theorem zkX5_byLaw_64 : zqc cX5_byLaw 64 [45, 132, 6, 1, 167, 255, 209, 177] := zq_of 8 (by decide +kernel)
theorem dX5_byLaw_65 : decode cX5_byLaw 65 = .ok (.iinc 6 1, 3) := zq_ii zo_132 zkX5_byLaw_64 1 rfl rfl 6 1 rfl rfl _ (by decide +kernel)
theorem dX5_byLaw_68 : decode cX5_byLaw 68 = .ok (.goto (-47), 3) := zq_2s zo_167 zkX5_byLaw_64 4 rfl rfl 255 209 rfl rfl _ (by decide +kernel)
theorem dX5_byLaw_71 : decode cX5_byLaw 71 = .ok (.return_, 1) := zq_0 zo_177 zkX5_byLaw_64 7 rfl rfl
theorem zkX5_byPlan_0 : zqc cX5_byPlan 0 [42, 43, 29, 182, 0, 24, 2, 54, 4, 3, 54, 5, 21, 5, 44, 180, 0, 49, 162, 0, 62, 44, 180, 0, 54, 21, 5, 46, 54, 6, 44, 180, 0, 57] := zq_of 34 (by decide +kernel)
theorem dX5_byPlan_0 : decode cX5_byPlan 0 = .ok (.aload_n 0, 1) := zq_0 zo_42 zkX5_byPlan_0 0 rfl rfl
theorem dX5_byPlan_1 : decode cX5_byPlan 1 = .ok (.aload_n 1, 1) := zq_0 zo_43 zkX5_byPlan_0 1 rfl rfl
theorem dX5_byPlan_2 : decode cX5_byPlan 2 = .ok (.iload_n 3, 1) := zq_0 zo_29 zkX5_byPlan_0 2 rfl rfl
theorem dX5_byPlan_3 : decode cX5_byPlan 3 = .ok (.invokevirtual 24, 3) := zq_2 zo_182 zkX5_byPlan_0 3 rfl rfl 0 24 rfl rfl _ rfl
theorem dX5_byPlan_6 : decode cX5_byPlan 6 = .ok (.iconst (-1), 1) := zq_0 zo_2 zkX5_byPlan_0 6 rfl rfl
theorem dX5_byPlan_7 : decode cX5_byPlan 7 = .ok (.istore 4, 2) := zq_1 zo_54 zkX5_byPlan_0 7 rfl rfl 4 rfl
theorem dX5_byPlan_9 : decode cX5_byPlan 9 = .ok (.iconst 0, 1) := zq_0 zo_3 zkX5_byPlan_0 9 rfl rfl
theorem dX5_byPlan_10 : decode cX5_byPlan 10 = .ok (.istore 5, 2) := zq_1 zo_54 zkX5_byPlan_0 10 rfl rfl 5 rfl
theorem dX5_byPlan_12 : decode cX5_byPlan 12 = .ok (.iload 5, 2) := zq_1 zo_21 zkX5_byPlan_0 12 rfl rfl 5 rfl
theorem dX5_byPlan_14 : decode cX5_byPlan 14 = .ok (.aload_n 2, 1) := zq_0 zo_44 zkX5_byPlan_0 14 rfl rfl
theorem dX5_byPlan_15 : decode cX5_byPlan 15 = .ok (.getfield 49, 3) := zq_2 zo_180 zkX5_byPlan_0 15 rfl rfl 0 49 rfl rfl _ rfl
theorem dX5_byPlan_18 : decode cX5_byPlan 18 = .ok (.if_icmp .ge 62, 3) := zq_2s zo_162 zkX5_byPlan_0 18 rfl rfl 0 62 rfl rfl _ (by decide +kernel)
theorem dX5_byPlan_21 : decode cX5_byPlan 21 = .ok (.aload_n 2, 1) := zq_0 zo_44 zkX5_byPlan_0 21 rfl rfl
theorem dX5_byPlan_22 : decode cX5_byPlan 22 = .ok (.getfield 54, 3) := zq_2 zo_180 zkX5_byPlan_0 22 rfl rfl 0 54 rfl rfl _ rfl
theorem dX5_byPlan_25 : decode cX5_byPlan 25 = .ok (.iload 5, 2) := zq_1 zo_21 zkX5_byPlan_0 25 rfl rfl 5 rfl
theorem dX5_byPlan_27 : decode cX5_byPlan 27 = .ok (.iaload, 1) := zq_0 zo_46 zkX5_byPlan_0 27 rfl rfl
theorem dX5_byPlan_28 : decode cX5_byPlan 28 = .ok (.istore 6, 2) := zq_1 zo_54 zkX5_byPlan_0 28 rfl rfl 6 rfl
theorem dX5_byPlan_30 : decode cX5_byPlan 30 = .ok (.aload_n 2, 1) := zq_0 zo_44 zkX5_byPlan_0 30 rfl rfl
theorem dX5_byPlan_31 : decode cX5_byPlan 31 = .ok (.getfield 57, 3) := zq_2 zo_180 zkX5_byPlan_0 31 rfl rfl 0 57 rfl rfl _ rfl
theorem zkX5_byPlan_32 : zqc cX5_byPlan 32 [0, 57, 21, 5, 46, 54, 7, 21, 6, 21, 4, 164, 0, 15, 42, 43, 21, 6, 21, 7, 182, 0, 60, 154, 0, 6, 21, 5, 172, 42, 43, 21, 6, 21] := zq_of 34 (by decide +kernel)
theorem dX5_byPlan_34 : decode cX5_byPlan 34 = .ok (.iload 5, 2) := zq_1 zo_21 zkX5_byPlan_32 2 rfl rfl 5 rfl
theorem dX5_byPlan_36 : decode cX5_byPlan 36 = .ok (.iaload, 1) := zq_0 zo_46 zkX5_byPlan_32 4 rfl rfl
theorem dX5_byPlan_37 : decode cX5_byPlan 37 = .ok (.istore 7, 2) := zq_1 zo_54 zkX5_byPlan_32 5 rfl rfl 7 rfl
theorem dX5_byPlan_39 : decode cX5_byPlan 39 = .ok (.iload 6, 2) := zq_1 zo_21 zkX5_byPlan_32 7 rfl rfl 6 rfl
theorem dX5_byPlan_41 : decode cX5_byPlan 41 = .ok (.iload 4, 2) := zq_1 zo_21 zkX5_byPlan_32 9 rfl rfl 4 rfl
theorem dX5_byPlan_43 : decode cX5_byPlan 43 = .ok (.if_icmp .le 15, 3) := zq_2s zo_164 zkX5_byPlan_32 11 rfl rfl 0 15 rfl rfl _ (by decide +kernel)
theorem dX5_byPlan_46 : decode cX5_byPlan 46 = .ok (.aload_n 0, 1) := zq_0 zo_42 zkX5_byPlan_32 14 rfl rfl
theorem dX5_byPlan_47 : decode cX5_byPlan 47 = .ok (.aload_n 1, 1) := zq_0 zo_43 zkX5_byPlan_32 15 rfl rfl
theorem dX5_byPlan_48 : decode cX5_byPlan 48 = .ok (.iload 6, 2) := zq_1 zo_21 zkX5_byPlan_32 16 rfl rfl 6 rfl
theorem dX5_byPlan_50 : decode cX5_byPlan 50 = .ok (.iload 7, 2) := zq_1 zo_21 zkX5_byPlan_32 18 rfl rfl 7 rfl
theorem dX5_byPlan_52 : decode cX5_byPlan 52 = .ok (.invokevirtual 60, 3) := zq_2 zo_182 zkX5_byPlan_32 20 rfl rfl 0 60 rfl rfl _ rfl
theorem dX5_byPlan_55 : decode cX5_byPlan 55 = .ok (.ifCond .ne 6, 3) := zq_2s zo_154 zkX5_byPlan_32 23 rfl rfl 0 6 rfl rfl _ (by decide +kernel)
theorem dX5_byPlan_58 : decode cX5_byPlan 58 = .ok (.iload 5, 2) := zq_1 zo_21 zkX5_byPlan_32 26 rfl rfl 5 rfl
theorem dX5_byPlan_60 : decode cX5_byPlan 60 = .ok (.ireturn, 1) := zq_0 zo_172 zkX5_byPlan_32 28 rfl rfl
theorem dX5_byPlan_61 : decode cX5_byPlan 61 = .ok (.aload_n 0, 1) := zq_0 zo_42 zkX5_byPlan_32 29 rfl rfl
theorem dX5_byPlan_62 : decode cX5_byPlan 62 = .ok (.aload_n 1, 1) := zq_0 zo_43 zkX5_byPlan_32 30 rfl rfl
theorem dX5_byPlan_63 : decode cX5_byPlan 63 = .ok (.iload 6, 2) := zq_1 zo_21 zkX5_byPlan_32 31 rfl rfl 6 rfl
theorem zkX5_byPlan_64 : zqc cX5_byPlan 64 [6, 21, 7, 182, 0, 45, 21, 6, 54, 4, 132, 5, 1, 167, 255, 191, 44, 180, 0, 49, 172] := zq_of 21 (by decide +kernel)
theorem dX5_byPlan_65 : decode cX5_byPlan 65 = .ok (.iload 7, 2) := zq_1 zo_21 zkX5_byPlan_64 1 rfl rfl 7 rfl
theorem dX5_byPlan_67 : decode cX5_byPlan 67 = .ok (.invokevirtual 45, 3) := zq_2 zo_182 zkX5_byPlan_64 3 rfl rfl 0 45 rfl rfl _ rfl
theorem dX5_byPlan_70 : decode cX5_byPlan 70 = .ok (.iload 6, 2) := zq_1 zo_21 zkX5_byPlan_64 6 rfl rfl 6 rfl
theorem dX5_byPlan_72 : decode cX5_byPlan 72 = .ok (.istore 4, 2) := zq_1 zo_54 zkX5_byPlan_64 8 rfl rfl 4 rfl
theorem dX5_byPlan_74 : decode cX5_byPlan 74 = .ok (.iinc 5 1, 3) := zq_ii zo_132 zkX5_byPlan_64 10 rfl rfl 5 1 rfl rfl _ (by decide +kernel)
theorem dX5_byPlan_77 : decode cX5_byPlan 77 = .ok (.goto (-65), 3) := zq_2s zo_167 zkX5_byPlan_64 13 rfl rfl 255 191 rfl rfl _ (by decide +kernel)
theorem dX5_byPlan_80 : decode cX5_byPlan 80 = .ok (.aload_n 2, 1) := zq_0 zo_44 zkX5_byPlan_64 16 rfl rfl
theorem dX5_byPlan_81 : decode cX5_byPlan 81 = .ok (.getfield 49, 3) := zq_2 zo_180 zkX5_byPlan_64 17 rfl rfl 0 49 rfl rfl _ rfl
theorem dX5_byPlan_84 : decode cX5_byPlan 84 = .ok (.ireturn, 1) := zq_0 zo_172 zkX5_byPlan_64 20 rfl rfl
theorem zkX5_begin_0 : zqc cX5_begin 0 [3, 62, 29, 43, 180, 0, 32, 162, 0, 28, 42, 180, 0, 9, 29, 2, 79, 42, 180, 0, 15, 29, 43, 29, 28, 182, 0, 64, 79, 132, 3, 1, 167, 255] := zq_of 34 (by decide +kernel)
theorem dX5_begin_0 : decode cX5_begin 0 = .ok (.iconst 0, 1) := zq_0 zo_3 zkX5_begin_0 0 rfl rfl
theorem dX5_begin_1 : decode cX5_begin 1 = .ok (.istore_n 3, 1) := zq_0 zo_62 zkX5_begin_0 1 rfl rfl
theorem dX5_begin_2 : decode cX5_begin 2 = .ok (.iload_n 3, 1) := zq_0 zo_29 zkX5_begin_0 2 rfl rfl
theorem dX5_begin_3 : decode cX5_begin 3 = .ok (.aload_n 1, 1) := zq_0 zo_43 zkX5_begin_0 3 rfl rfl
theorem dX5_begin_4 : decode cX5_begin 4 = .ok (.getfield 32, 3) := zq_2 zo_180 zkX5_begin_0 4 rfl rfl 0 32 rfl rfl _ rfl
theorem dX5_begin_7 : decode cX5_begin 7 = .ok (.if_icmp .ge 28, 3) := zq_2s zo_162 zkX5_begin_0 7 rfl rfl 0 28 rfl rfl _ (by decide +kernel)
theorem dX5_begin_10 : decode cX5_begin 10 = .ok (.aload_n 0, 1) := zq_0 zo_42 zkX5_begin_0 10 rfl rfl
theorem dX5_begin_11 : decode cX5_begin 11 = .ok (.getfield 9, 3) := zq_2 zo_180 zkX5_begin_0 11 rfl rfl 0 9 rfl rfl _ rfl
theorem dX5_begin_14 : decode cX5_begin 14 = .ok (.iload_n 3, 1) := zq_0 zo_29 zkX5_begin_0 14 rfl rfl
theorem dX5_begin_15 : decode cX5_begin 15 = .ok (.iconst (-1), 1) := zq_0 zo_2 zkX5_begin_0 15 rfl rfl
theorem dX5_begin_16 : decode cX5_begin 16 = .ok (.iastore, 1) := zq_0 zo_79 zkX5_begin_0 16 rfl rfl
theorem dX5_begin_17 : decode cX5_begin 17 = .ok (.aload_n 0, 1) := zq_0 zo_42 zkX5_begin_0 17 rfl rfl
theorem dX5_begin_18 : decode cX5_begin 18 = .ok (.getfield 15, 3) := zq_2 zo_180 zkX5_begin_0 18 rfl rfl 0 15 rfl rfl _ rfl
theorem dX5_begin_21 : decode cX5_begin 21 = .ok (.iload_n 3, 1) := zq_0 zo_29 zkX5_begin_0 21 rfl rfl
theorem dX5_begin_22 : decode cX5_begin 22 = .ok (.aload_n 1, 1) := zq_0 zo_43 zkX5_begin_0 22 rfl rfl
theorem dX5_begin_23 : decode cX5_begin 23 = .ok (.iload_n 3, 1) := zq_0 zo_29 zkX5_begin_0 23 rfl rfl
theorem dX5_begin_24 : decode cX5_begin 24 = .ok (.iload_n 2, 1) := zq_0 zo_28 zkX5_begin_0 24 rfl rfl
theorem dX5_begin_25 : decode cX5_begin 25 = .ok (.invokevirtual 64, 3) := zq_2 zo_182 zkX5_begin_0 25 rfl rfl 0 64 rfl rfl _ rfl
theorem dX5_begin_28 : decode cX5_begin 28 = .ok (.iastore, 1) := zq_0 zo_79 zkX5_begin_0 28 rfl rfl
theorem dX5_begin_29 : decode cX5_begin 29 = .ok (.iinc 3 1, 3) := zq_ii zo_132 zkX5_begin_0 29 rfl rfl 3 1 rfl rfl _ (by decide +kernel)
theorem zkX5_begin_32 : zqc cX5_begin 32 [167, 255, 226, 3, 62, 29, 43, 180, 0, 68, 162, 0, 28, 42, 180, 0, 21, 29, 43, 180, 0, 71, 29, 46, 79, 42, 180, 0, 18, 29, 3, 79, 132, 3] := zq_of 34 (by decide +kernel)
theorem dX5_begin_32 : decode cX5_begin 32 = .ok (.goto (-30), 3) := zq_2s zo_167 zkX5_begin_32 0 rfl rfl 255 226 rfl rfl _ (by decide +kernel)
theorem dX5_begin_35 : decode cX5_begin 35 = .ok (.iconst 0, 1) := zq_0 zo_3 zkX5_begin_32 3 rfl rfl
theorem dX5_begin_36 : decode cX5_begin 36 = .ok (.istore_n 3, 1) := zq_0 zo_62 zkX5_begin_32 4 rfl rfl
theorem dX5_begin_37 : decode cX5_begin 37 = .ok (.iload_n 3, 1) := zq_0 zo_29 zkX5_begin_32 5 rfl rfl
theorem dX5_begin_38 : decode cX5_begin 38 = .ok (.aload_n 1, 1) := zq_0 zo_43 zkX5_begin_32 6 rfl rfl
theorem dX5_begin_39 : decode cX5_begin 39 = .ok (.getfield 68, 3) := zq_2 zo_180 zkX5_begin_32 7 rfl rfl 0 68 rfl rfl _ rfl
theorem dX5_begin_42 : decode cX5_begin 42 = .ok (.if_icmp .ge 28, 3) := zq_2s zo_162 zkX5_begin_32 10 rfl rfl 0 28 rfl rfl _ (by decide +kernel)
theorem dX5_begin_45 : decode cX5_begin 45 = .ok (.aload_n 0, 1) := zq_0 zo_42 zkX5_begin_32 13 rfl rfl
theorem dX5_begin_46 : decode cX5_begin 46 = .ok (.getfield 21, 3) := zq_2 zo_180 zkX5_begin_32 14 rfl rfl 0 21 rfl rfl _ rfl
theorem dX5_begin_49 : decode cX5_begin 49 = .ok (.iload_n 3, 1) := zq_0 zo_29 zkX5_begin_32 17 rfl rfl
theorem dX5_begin_50 : decode cX5_begin 50 = .ok (.aload_n 1, 1) := zq_0 zo_43 zkX5_begin_32 18 rfl rfl
theorem dX5_begin_51 : decode cX5_begin 51 = .ok (.getfield 71, 3) := zq_2 zo_180 zkX5_begin_32 19 rfl rfl 0 71 rfl rfl _ rfl
theorem dX5_begin_54 : decode cX5_begin 54 = .ok (.iload_n 3, 1) := zq_0 zo_29 zkX5_begin_32 22 rfl rfl
theorem dX5_begin_55 : decode cX5_begin 55 = .ok (.iaload, 1) := zq_0 zo_46 zkX5_begin_32 23 rfl rfl
theorem dX5_begin_56 : decode cX5_begin 56 = .ok (.iastore, 1) := zq_0 zo_79 zkX5_begin_32 24 rfl rfl
theorem dX5_begin_57 : decode cX5_begin 57 = .ok (.aload_n 0, 1) := zq_0 zo_42 zkX5_begin_32 25 rfl rfl
theorem dX5_begin_58 : decode cX5_begin 58 = .ok (.getfield 18, 3) := zq_2 zo_180 zkX5_begin_32 26 rfl rfl 0 18 rfl rfl _ rfl
theorem dX5_begin_61 : decode cX5_begin 61 = .ok (.iload_n 3, 1) := zq_0 zo_29 zkX5_begin_32 29 rfl rfl
theorem dX5_begin_62 : decode cX5_begin 62 = .ok (.iconst 0, 1) := zq_0 zo_3 zkX5_begin_32 30 rfl rfl
theorem dX5_begin_63 : decode cX5_begin 63 = .ok (.iastore, 1) := zq_0 zo_79 zkX5_begin_32 31 rfl rfl
theorem zkX5_begin_64 : zqc cX5_begin 64 [132, 3, 1, 167, 255, 226, 42, 3, 181, 0, 74, 42, 3, 181, 0, 77, 42, 3, 181, 0, 80, 42, 3, 181, 0, 83, 42, 3, 181, 0, 86, 42, 3, 181] := zq_of 34 (by decide +kernel)
theorem dX5_begin_64 : decode cX5_begin 64 = .ok (.iinc 3 1, 3) := zq_ii zo_132 zkX5_begin_64 0 rfl rfl 3 1 rfl rfl _ (by decide +kernel)
theorem dX5_begin_67 : decode cX5_begin 67 = .ok (.goto (-30), 3) := zq_2s zo_167 zkX5_begin_64 3 rfl rfl 255 226 rfl rfl _ (by decide +kernel)
theorem dX5_begin_70 : decode cX5_begin 70 = .ok (.aload_n 0, 1) := zq_0 zo_42 zkX5_begin_64 6 rfl rfl
theorem dX5_begin_71 : decode cX5_begin 71 = .ok (.iconst 0, 1) := zq_0 zo_3 zkX5_begin_64 7 rfl rfl
theorem dX5_begin_72 : decode cX5_begin 72 = .ok (.putfield 74, 3) := zq_2 zo_181 zkX5_begin_64 8 rfl rfl 0 74 rfl rfl _ rfl
theorem dX5_begin_75 : decode cX5_begin 75 = .ok (.aload_n 0, 1) := zq_0 zo_42 zkX5_begin_64 11 rfl rfl
theorem dX5_begin_76 : decode cX5_begin 76 = .ok (.iconst 0, 1) := zq_0 zo_3 zkX5_begin_64 12 rfl rfl
theorem dX5_begin_77 : decode cX5_begin 77 = .ok (.putfield 77, 3) := zq_2 zo_181 zkX5_begin_64 13 rfl rfl 0 77 rfl rfl _ rfl
theorem dX5_begin_80 : decode cX5_begin 80 = .ok (.aload_n 0, 1) := zq_0 zo_42 zkX5_begin_64 16 rfl rfl
theorem dX5_begin_81 : decode cX5_begin 81 = .ok (.iconst 0, 1) := zq_0 zo_3 zkX5_begin_64 17 rfl rfl
theorem dX5_begin_82 : decode cX5_begin 82 = .ok (.putfield 80, 3) := zq_2 zo_181 zkX5_begin_64 18 rfl rfl 0 80 rfl rfl _ rfl
theorem dX5_begin_85 : decode cX5_begin 85 = .ok (.aload_n 0, 1) := zq_0 zo_42 zkX5_begin_64 21 rfl rfl
theorem dX5_begin_86 : decode cX5_begin 86 = .ok (.iconst 0, 1) := zq_0 zo_3 zkX5_begin_64 22 rfl rfl
theorem dX5_begin_87 : decode cX5_begin 87 = .ok (.putfield 83, 3) := zq_2 zo_181 zkX5_begin_64 23 rfl rfl 0 83 rfl rfl _ rfl
theorem dX5_begin_90 : decode cX5_begin 90 = .ok (.aload_n 0, 1) := zq_0 zo_42 zkX5_begin_64 26 rfl rfl
theorem dX5_begin_91 : decode cX5_begin 91 = .ok (.iconst 0, 1) := zq_0 zo_3 zkX5_begin_64 27 rfl rfl
theorem dX5_begin_92 : decode cX5_begin 92 = .ok (.putfield 86, 3) := zq_2 zo_181 zkX5_begin_64 28 rfl rfl 0 86 rfl rfl _ rfl
theorem dX5_begin_95 : decode cX5_begin 95 = .ok (.aload_n 0, 1) := zq_0 zo_42 zkX5_begin_64 31 rfl rfl
theorem zkX5_begin_96 : zqc cX5_begin 96 [3, 181, 0, 89, 42, 2, 181, 0, 92, 177] := zq_of 10 (by decide +kernel)
theorem dX5_begin_96 : decode cX5_begin 96 = .ok (.iconst 0, 1) := zq_0 zo_3 zkX5_begin_96 0 rfl rfl
theorem dX5_begin_97 : decode cX5_begin 97 = .ok (.putfield 89, 3) := zq_2 zo_181 zkX5_begin_96 1 rfl rfl 0 89 rfl rfl _ rfl
theorem dX5_begin_100 : decode cX5_begin 100 = .ok (.aload_n 0, 1) := zq_0 zo_42 zkX5_begin_96 4 rfl rfl
theorem dX5_begin_101 : decode cX5_begin 101 = .ok (.iconst (-1), 1) := zq_0 zo_2 zkX5_begin_96 5 rfl rfl
theorem dX5_begin_102 : decode cX5_begin 102 = .ok (.putfield 92, 3) := zq_2 zo_181 zkX5_begin_96 6 rfl rfl 0 92 rfl rfl _ rfl
theorem dX5_begin_105 : decode cX5_begin 105 = .ok (.return_, 1) := zq_0 zo_177 zkX5_begin_96 9 rfl rfl
theorem zkX5_canPull_0 : zqc cX5_canPull 0 [28, 155, 0, 52, 28, 43, 180, 0, 32, 4, 100, 162, 0, 42, 43, 29, 182, 0, 95, 153, 0, 34, 43, 29, 28, 182, 0, 99, 153, 0, 25, 42, 180, 0] := zq_of 34 (by decide +kernel)
theorem dX5_canPull_0 : decode cX5_canPull 0 = .ok (.iload_n 2, 1) := zq_0 zo_28 zkX5_canPull_0 0 rfl rfl
theorem dX5_canPull_1 : decode cX5_canPull 1 = .ok (.ifCond .lt 52, 3) := zq_2s zo_155 zkX5_canPull_0 1 rfl rfl 0 52 rfl rfl _ (by decide +kernel)
theorem dX5_canPull_4 : decode cX5_canPull 4 = .ok (.iload_n 2, 1) := zq_0 zo_28 zkX5_canPull_0 4 rfl rfl
theorem dX5_canPull_5 : decode cX5_canPull 5 = .ok (.aload_n 1, 1) := zq_0 zo_43 zkX5_canPull_0 5 rfl rfl
theorem dX5_canPull_6 : decode cX5_canPull 6 = .ok (.getfield 32, 3) := zq_2 zo_180 zkX5_canPull_0 6 rfl rfl 0 32 rfl rfl _ rfl
theorem dX5_canPull_9 : decode cX5_canPull 9 = .ok (.iconst 1, 1) := zq_0 zo_4 zkX5_canPull_0 9 rfl rfl
theorem dX5_canPull_10 : decode cX5_canPull 10 = .ok (.isub, 1) := zq_0 zo_100 zkX5_canPull_0 10 rfl rfl
theorem dX5_canPull_11 : decode cX5_canPull 11 = .ok (.if_icmp .ge 42, 3) := zq_2s zo_162 zkX5_canPull_0 11 rfl rfl 0 42 rfl rfl _ (by decide +kernel)
theorem dX5_canPull_14 : decode cX5_canPull 14 = .ok (.aload_n 1, 1) := zq_0 zo_43 zkX5_canPull_0 14 rfl rfl
theorem dX5_canPull_15 : decode cX5_canPull 15 = .ok (.iload_n 3, 1) := zq_0 zo_29 zkX5_canPull_0 15 rfl rfl
theorem dX5_canPull_16 : decode cX5_canPull 16 = .ok (.invokevirtual 95, 3) := zq_2 zo_182 zkX5_canPull_0 16 rfl rfl 0 95 rfl rfl _ rfl
theorem dX5_canPull_19 : decode cX5_canPull 19 = .ok (.ifCond .eq 34, 3) := zq_2s zo_153 zkX5_canPull_0 19 rfl rfl 0 34 rfl rfl _ (by decide +kernel)
theorem dX5_canPull_22 : decode cX5_canPull 22 = .ok (.aload_n 1, 1) := zq_0 zo_43 zkX5_canPull_0 22 rfl rfl
theorem dX5_canPull_23 : decode cX5_canPull 23 = .ok (.iload_n 3, 1) := zq_0 zo_29 zkX5_canPull_0 23 rfl rfl
theorem dX5_canPull_24 : decode cX5_canPull 24 = .ok (.iload_n 2, 1) := zq_0 zo_28 zkX5_canPull_0 24 rfl rfl
theorem dX5_canPull_25 : decode cX5_canPull 25 = .ok (.invokevirtual 99, 3) := zq_2 zo_182 zkX5_canPull_0 25 rfl rfl 0 99 rfl rfl _ rfl
theorem dX5_canPull_28 : decode cX5_canPull 28 = .ok (.ifCond .eq 25, 3) := zq_2s zo_153 zkX5_canPull_0 28 rfl rfl 0 25 rfl rfl _ (by decide +kernel)
theorem dX5_canPull_31 : decode cX5_canPull 31 = .ok (.aload_n 0, 1) := zq_0 zo_42 zkX5_canPull_0 31 rfl rfl
theorem zkX5_canPull_32 : zqc cX5_canPull 32 [180, 0, 21, 29, 46, 158, 0, 16, 42, 180, 0, 15, 28, 46, 158, 0, 7, 4, 167, 0, 4, 3, 172] := zq_of 23 (by decide +kernel)
theorem dX5_canPull_32 : decode cX5_canPull 32 = .ok (.getfield 21, 3) := zq_2 zo_180 zkX5_canPull_32 0 rfl rfl 0 21 rfl rfl _ rfl
theorem dX5_canPull_35 : decode cX5_canPull 35 = .ok (.iload_n 3, 1) := zq_0 zo_29 zkX5_canPull_32 3 rfl rfl
theorem dX5_canPull_36 : decode cX5_canPull 36 = .ok (.iaload, 1) := zq_0 zo_46 zkX5_canPull_32 4 rfl rfl
theorem dX5_canPull_37 : decode cX5_canPull 37 = .ok (.ifCond .le 16, 3) := zq_2s zo_158 zkX5_canPull_32 5 rfl rfl 0 16 rfl rfl _ (by decide +kernel)
theorem dX5_canPull_40 : decode cX5_canPull 40 = .ok (.aload_n 0, 1) := zq_0 zo_42 zkX5_canPull_32 8 rfl rfl
theorem dX5_canPull_41 : decode cX5_canPull 41 = .ok (.getfield 15, 3) := zq_2 zo_180 zkX5_canPull_32 9 rfl rfl 0 15 rfl rfl _ rfl
theorem dX5_canPull_44 : decode cX5_canPull 44 = .ok (.iload_n 2, 1) := zq_0 zo_28 zkX5_canPull_32 12 rfl rfl
theorem dX5_canPull_45 : decode cX5_canPull 45 = .ok (.iaload, 1) := zq_0 zo_46 zkX5_canPull_32 13 rfl rfl
theorem dX5_canPull_46 : decode cX5_canPull 46 = .ok (.ifCond .le 7, 3) := zq_2s zo_158 zkX5_canPull_32 14 rfl rfl 0 7 rfl rfl _ (by decide +kernel)
theorem dX5_canPull_49 : decode cX5_canPull 49 = .ok (.iconst 1, 1) := zq_0 zo_4 zkX5_canPull_32 17 rfl rfl
theorem dX5_canPull_50 : decode cX5_canPull 50 = .ok (.goto 4, 3) := zq_2s zo_167 zkX5_canPull_32 18 rfl rfl 0 4 rfl rfl _ (by decide +kernel)
theorem dX5_canPull_53 : decode cX5_canPull 53 = .ok (.iconst 0, 1) := zq_0 zo_3 zkX5_canPull_32 21 rfl rfl
theorem dX5_canPull_54 : decode cX5_canPull 54 = .ok (.ireturn, 1) := zq_0 zo_172 zkX5_canPull_32 22 rfl rfl
theorem zkX5_wantingAt_0 : zqc cX5_wantingAt 0 [42, 180, 0, 83, 43, 28, 182, 0, 103, 96, 62, 3, 54, 4, 3, 54, 5, 21, 5, 43, 180, 0, 68, 162, 0, 56, 42, 43, 28, 21, 5, 182, 0, 60] := zq_of 34 (by decide +kernel)
theorem dX5_wantingAt_0 : decode cX5_wantingAt 0 = .ok (.aload_n 0, 1) := zq_0 zo_42 zkX5_wantingAt_0 0 rfl rfl
theorem dX5_wantingAt_1 : decode cX5_wantingAt 1 = .ok (.getfield 83, 3) := zq_2 zo_180 zkX5_wantingAt_0 1 rfl rfl 0 83 rfl rfl _ rfl
theorem dX5_wantingAt_4 : decode cX5_wantingAt 4 = .ok (.aload_n 1, 1) := zq_0 zo_43 zkX5_wantingAt_0 4 rfl rfl
theorem dX5_wantingAt_5 : decode cX5_wantingAt 5 = .ok (.iload_n 2, 1) := zq_0 zo_28 zkX5_wantingAt_0 5 rfl rfl
theorem dX5_wantingAt_6 : decode cX5_wantingAt 6 = .ok (.invokevirtual 103, 3) := zq_2 zo_182 zkX5_wantingAt_0 6 rfl rfl 0 103 rfl rfl _ rfl
theorem dX5_wantingAt_9 : decode cX5_wantingAt 9 = .ok (.iadd, 1) := zq_0 zo_96 zkX5_wantingAt_0 9 rfl rfl
theorem dX5_wantingAt_10 : decode cX5_wantingAt 10 = .ok (.istore_n 3, 1) := zq_0 zo_62 zkX5_wantingAt_0 10 rfl rfl
theorem dX5_wantingAt_11 : decode cX5_wantingAt 11 = .ok (.iconst 0, 1) := zq_0 zo_3 zkX5_wantingAt_0 11 rfl rfl
theorem dX5_wantingAt_12 : decode cX5_wantingAt 12 = .ok (.istore 4, 2) := zq_1 zo_54 zkX5_wantingAt_0 12 rfl rfl 4 rfl
theorem dX5_wantingAt_14 : decode cX5_wantingAt 14 = .ok (.iconst 0, 1) := zq_0 zo_3 zkX5_wantingAt_0 14 rfl rfl
theorem dX5_wantingAt_15 : decode cX5_wantingAt 15 = .ok (.istore 5, 2) := zq_1 zo_54 zkX5_wantingAt_0 15 rfl rfl 5 rfl
theorem dX5_wantingAt_17 : decode cX5_wantingAt 17 = .ok (.iload 5, 2) := zq_1 zo_21 zkX5_wantingAt_0 17 rfl rfl 5 rfl
theorem dX5_wantingAt_19 : decode cX5_wantingAt 19 = .ok (.aload_n 1, 1) := zq_0 zo_43 zkX5_wantingAt_0 19 rfl rfl
theorem dX5_wantingAt_20 : decode cX5_wantingAt 20 = .ok (.getfield 68, 3) := zq_2 zo_180 zkX5_wantingAt_0 20 rfl rfl 0 68 rfl rfl _ rfl
theorem dX5_wantingAt_23 : decode cX5_wantingAt 23 = .ok (.if_icmp .ge 56, 3) := zq_2s zo_162 zkX5_wantingAt_0 23 rfl rfl 0 56 rfl rfl _ (by decide +kernel)
theorem dX5_wantingAt_26 : decode cX5_wantingAt 26 = .ok (.aload_n 0, 1) := zq_0 zo_42 zkX5_wantingAt_0 26 rfl rfl
theorem dX5_wantingAt_27 : decode cX5_wantingAt 27 = .ok (.aload_n 1, 1) := zq_0 zo_43 zkX5_wantingAt_0 27 rfl rfl
theorem dX5_wantingAt_28 : decode cX5_wantingAt 28 = .ok (.iload_n 2, 1) := zq_0 zo_28 zkX5_wantingAt_0 28 rfl rfl
theorem dX5_wantingAt_29 : decode cX5_wantingAt 29 = .ok (.iload 5, 2) := zq_1 zo_21 zkX5_wantingAt_0 29 rfl rfl 5 rfl
theorem dX5_wantingAt_31 : decode cX5_wantingAt 31 = .ok (.invokevirtual 60, 3) := zq_2 zo_182 zkX5_wantingAt_0 31 rfl rfl 0 60 rfl rfl _ rfl
theorem zkX5_wantingAt_32 : zqc cX5_wantingAt 32 [0, 60, 153, 0, 39, 43, 180, 0, 107, 21, 5, 46, 42, 180, 0, 15, 28, 46, 163, 0, 23, 43, 180, 0, 110, 21, 5, 46, 29, 161, 0, 12, 21, 4] := zq_of 34 (by decide +kernel)
theorem dX5_wantingAt_34 : decode cX5_wantingAt 34 = .ok (.ifCond .eq 39, 3) := zq_2s zo_153 zkX5_wantingAt_32 2 rfl rfl 0 39 rfl rfl _ (by decide +kernel)
theorem dX5_wantingAt_37 : decode cX5_wantingAt 37 = .ok (.aload_n 1, 1) := zq_0 zo_43 zkX5_wantingAt_32 5 rfl rfl
theorem dX5_wantingAt_38 : decode cX5_wantingAt 38 = .ok (.getfield 107, 3) := zq_2 zo_180 zkX5_wantingAt_32 6 rfl rfl 0 107 rfl rfl _ rfl
theorem dX5_wantingAt_41 : decode cX5_wantingAt 41 = .ok (.iload 5, 2) := zq_1 zo_21 zkX5_wantingAt_32 9 rfl rfl 5 rfl
theorem dX5_wantingAt_43 : decode cX5_wantingAt 43 = .ok (.iaload, 1) := zq_0 zo_46 zkX5_wantingAt_32 11 rfl rfl
theorem dX5_wantingAt_44 : decode cX5_wantingAt 44 = .ok (.aload_n 0, 1) := zq_0 zo_42 zkX5_wantingAt_32 12 rfl rfl
theorem dX5_wantingAt_45 : decode cX5_wantingAt 45 = .ok (.getfield 15, 3) := zq_2 zo_180 zkX5_wantingAt_32 13 rfl rfl 0 15 rfl rfl _ rfl
theorem dX5_wantingAt_48 : decode cX5_wantingAt 48 = .ok (.iload_n 2, 1) := zq_0 zo_28 zkX5_wantingAt_32 16 rfl rfl
theorem dX5_wantingAt_49 : decode cX5_wantingAt 49 = .ok (.iaload, 1) := zq_0 zo_46 zkX5_wantingAt_32 17 rfl rfl
theorem dX5_wantingAt_50 : decode cX5_wantingAt 50 = .ok (.if_icmp .gt 23, 3) := zq_2s zo_163 zkX5_wantingAt_32 18 rfl rfl 0 23 rfl rfl _ (by decide +kernel)
theorem dX5_wantingAt_53 : decode cX5_wantingAt 53 = .ok (.aload_n 1, 1) := zq_0 zo_43 zkX5_wantingAt_32 21 rfl rfl
theorem dX5_wantingAt_54 : decode cX5_wantingAt 54 = .ok (.getfield 110, 3) := zq_2 zo_180 zkX5_wantingAt_32 22 rfl rfl 0 110 rfl rfl _ rfl
theorem dX5_wantingAt_57 : decode cX5_wantingAt 57 = .ok (.iload 5, 2) := zq_1 zo_21 zkX5_wantingAt_32 25 rfl rfl 5 rfl
theorem dX5_wantingAt_59 : decode cX5_wantingAt 59 = .ok (.iaload, 1) := zq_0 zo_46 zkX5_wantingAt_32 27 rfl rfl
theorem dX5_wantingAt_60 : decode cX5_wantingAt 60 = .ok (.iload_n 3, 1) := zq_0 zo_29 zkX5_wantingAt_32 28 rfl rfl
theorem dX5_wantingAt_61 : decode cX5_wantingAt 61 = .ok (.if_icmp .lt 12, 3) := zq_2s zo_161 zkX5_wantingAt_32 29 rfl rfl 0 12 rfl rfl _ (by decide +kernel)
theorem zkX5_wantingAt_64 : zqc cX5_wantingAt 64 [21, 4, 4, 21, 5, 120, 128, 54, 4, 132, 5, 1, 167, 255, 197, 21, 4, 172] := zq_of 18 (by decide +kernel)
theorem dX5_wantingAt_64 : decode cX5_wantingAt 64 = .ok (.iload 4, 2) := zq_1 zo_21 zkX5_wantingAt_64 0 rfl rfl 4 rfl
theorem dX5_wantingAt_66 : decode cX5_wantingAt 66 = .ok (.iconst 1, 1) := zq_0 zo_4 zkX5_wantingAt_64 2 rfl rfl
theorem dX5_wantingAt_67 : decode cX5_wantingAt 67 = .ok (.iload 5, 2) := zq_1 zo_21 zkX5_wantingAt_64 3 rfl rfl 5 rfl
theorem dX5_wantingAt_69 : decode cX5_wantingAt 69 = .ok (.ishl, 1) := zq_0 zo_120 zkX5_wantingAt_64 5 rfl rfl
theorem dX5_wantingAt_70 : decode cX5_wantingAt 70 = .ok (.ior, 1) := zq_0 zo_128 zkX5_wantingAt_64 6 rfl rfl
theorem dX5_wantingAt_71 : decode cX5_wantingAt 71 = .ok (.istore 4, 2) := zq_1 zo_54 zkX5_wantingAt_64 7 rfl rfl 4 rfl
theorem dX5_wantingAt_73 : decode cX5_wantingAt 73 = .ok (.iinc 5 1, 3) := zq_ii zo_132 zkX5_wantingAt_64 9 rfl rfl 5 1 rfl rfl _ (by decide +kernel)
theorem dX5_wantingAt_76 : decode cX5_wantingAt 76 = .ok (.goto (-59), 3) := zq_2s zo_167 zkX5_wantingAt_64 12 rfl rfl 255 197 rfl rfl _ (by decide +kernel)
theorem dX5_wantingAt_79 : decode cX5_wantingAt 79 = .ok (.iload 4, 2) := zq_1 zo_21 zkX5_wantingAt_64 15 rfl rfl 4 rfl
theorem dX5_wantingAt_81 : decode cX5_wantingAt 81 = .ok (.ireturn, 1) := zq_0 zo_172 zkX5_wantingAt_64 17 rfl rfl
theorem zkX5_chosen_0 : zqc cX5_chosen 0 [29, 154, 0, 5, 2, 172, 28, 170, 0, 0, 0, 65, 0, 0, 0, 0, 0, 0, 0, 3, 0, 0, 0, 29, 0, 0, 0, 34, 0, 0, 0, 46, 0, 0] := zq_of 34 (by decide +kernel)
theorem dX5_chosen_0 : decode cX5_chosen 0 = .ok (.iload_n 3, 1) := zq_0 zo_29 zkX5_chosen_0 0 rfl rfl
theorem dX5_chosen_1 : decode cX5_chosen 1 = .ok (.ifCond .ne 5, 3) := zq_2s zo_154 zkX5_chosen_0 1 rfl rfl 0 5 rfl rfl _ (by decide +kernel)
theorem dX5_chosen_4 : decode cX5_chosen 4 = .ok (.iconst (-1), 1) := zq_0 zo_2 zkX5_chosen_0 4 rfl rfl
theorem dX5_chosen_5 : decode cX5_chosen 5 = .ok (.ireturn, 1) := zq_0 zo_172 zkX5_chosen_0 5 rfl rfl
theorem dX5_chosen_6 : decode cX5_chosen 6 = .ok (.iload_n 2, 1) := zq_0 zo_28 zkX5_chosen_0 6 rfl rfl
theorem dX5_chosen_7 : decode cX5_chosen 7 = .ok (.tableswitch 65 0 3 #[29, 34, 46, 59], 29) := by decide +kernel
theorem zkX5_chosen_32 : zqc cX5_chosen 32 [0, 0, 0, 59, 29, 184, 0, 113, 172, 29, 42, 180, 0, 74, 2, 130, 126, 184, 0, 113, 172, 29, 42, 29, 184, 0, 116, 182, 0, 121, 184, 0, 124, 172] := zq_of 34 (by decide +kernel)
theorem dX5_chosen_36 : decode cX5_chosen 36 = .ok (.iload_n 3, 1) := zq_0 zo_29 zkX5_chosen_32 4 rfl rfl
theorem dX5_chosen_37 : decode cX5_chosen 37 = .ok (.invokestatic 113, 3) := zq_2 zo_184 zkX5_chosen_32 5 rfl rfl 0 113 rfl rfl _ rfl
theorem dX5_chosen_40 : decode cX5_chosen 40 = .ok (.ireturn, 1) := zq_0 zo_172 zkX5_chosen_32 8 rfl rfl
theorem dX5_chosen_41 : decode cX5_chosen 41 = .ok (.iload_n 3, 1) := zq_0 zo_29 zkX5_chosen_32 9 rfl rfl
theorem dX5_chosen_42 : decode cX5_chosen 42 = .ok (.aload_n 0, 1) := zq_0 zo_42 zkX5_chosen_32 10 rfl rfl
theorem dX5_chosen_43 : decode cX5_chosen 43 = .ok (.getfield 74, 3) := zq_2 zo_180 zkX5_chosen_32 11 rfl rfl 0 74 rfl rfl _ rfl
theorem dX5_chosen_46 : decode cX5_chosen 46 = .ok (.iconst (-1), 1) := zq_0 zo_2 zkX5_chosen_32 14 rfl rfl
theorem dX5_chosen_47 : decode cX5_chosen 47 = .ok (.ixor, 1) := zq_0 zo_130 zkX5_chosen_32 15 rfl rfl
theorem dX5_chosen_48 : decode cX5_chosen 48 = .ok (.iand, 1) := zq_0 zo_126 zkX5_chosen_32 16 rfl rfl
theorem dX5_chosen_49 : decode cX5_chosen 49 = .ok (.invokestatic 113, 3) := zq_2 zo_184 zkX5_chosen_32 17 rfl rfl 0 113 rfl rfl _ rfl
theorem dX5_chosen_52 : decode cX5_chosen 52 = .ok (.ireturn, 1) := zq_0 zo_172 zkX5_chosen_32 20 rfl rfl
theorem dX5_chosen_53 : decode cX5_chosen 53 = .ok (.iload_n 3, 1) := zq_0 zo_29 zkX5_chosen_32 21 rfl rfl
theorem dX5_chosen_54 : decode cX5_chosen 54 = .ok (.aload_n 0, 1) := zq_0 zo_42 zkX5_chosen_32 22 rfl rfl
theorem dX5_chosen_55 : decode cX5_chosen 55 = .ok (.iload_n 3, 1) := zq_0 zo_29 zkX5_chosen_32 23 rfl rfl
theorem dX5_chosen_56 : decode cX5_chosen 56 = .ok (.invokestatic 116, 3) := zq_2 zo_184 zkX5_chosen_32 24 rfl rfl 0 116 rfl rfl _ rfl
theorem dX5_chosen_59 : decode cX5_chosen 59 = .ok (.invokevirtual 121, 3) := zq_2 zo_182 zkX5_chosen_32 27 rfl rfl 0 121 rfl rfl _ rfl
theorem dX5_chosen_62 : decode cX5_chosen 62 = .ok (.invokestatic 124, 3) := zq_2 zo_184 zkX5_chosen_32 30 rfl rfl 0 124 rfl rfl _ rfl
theorem zkX5_chosen_64 : zqc cX5_chosen 64 [124, 172, 43, 29, 184, 0, 127, 172, 2, 172] := zq_of 10 (by decide +kernel)
theorem dX5_chosen_65 : decode cX5_chosen 65 = .ok (.ireturn, 1) := zq_0 zo_172 zkX5_chosen_64 1 rfl rfl
theorem dX5_chosen_66 : decode cX5_chosen 66 = .ok (.aload_n 1, 1) := zq_0 zo_43 zkX5_chosen_64 2 rfl rfl
theorem dX5_chosen_67 : decode cX5_chosen 67 = .ok (.iload_n 3, 1) := zq_0 zo_29 zkX5_chosen_64 3 rfl rfl
theorem dX5_chosen_68 : decode cX5_chosen 68 = .ok (.invokestatic 127, 3) := zq_2 zo_184 zkX5_chosen_64 4 rfl rfl 0 127 rfl rfl _ rfl
theorem dX5_chosen_71 : decode cX5_chosen 71 = .ok (.ireturn, 1) := zq_0 zo_172 zkX5_chosen_64 7 rfl rfl
theorem dX5_chosen_72 : decode cX5_chosen 72 = .ok (.iconst (-1), 1) := zq_0 zo_2 zkX5_chosen_64 8 rfl rfl
theorem dX5_chosen_73 : decode cX5_chosen 73 = .ok (.ireturn, 1) := zq_0 zo_172 zkX5_chosen_64 9 rfl rfl
theorem zkX5_leastOf_0 : zqc cX5_leastOf 0 [26, 3, 184, 0, 124, 172] := zq_of 6 (by decide +kernel)
theorem dX5_leastOf_0 : decode cX5_leastOf 0 = .ok (.iload_n 0, 1) := zq_0 zo_26 zkX5_leastOf_0 0 rfl rfl
theorem dX5_leastOf_1 : decode cX5_leastOf 1 = .ok (.iconst 0, 1) := zq_0 zo_3 zkX5_leastOf_0 1 rfl rfl
theorem dX5_leastOf_2 : decode cX5_leastOf 2 = .ok (.invokestatic 124, 3) := zq_2 zo_184 zkX5_leastOf_0 2 rfl rfl 0 124 rfl rfl _ rfl
theorem dX5_leastOf_5 : decode cX5_leastOf 5 = .ok (.ireturn, 1) := zq_0 zo_172 zkX5_leastOf_0 5 rfl rfl
theorem zkX5_nthOf_0 : zqc cX5_nthOf 0 [3, 61, 3, 62, 29, 16, 6, 162, 0, 27, 26, 29, 122, 4, 126, 153, 0, 13, 28, 27, 160, 0, 5, 29, 172, 132, 2, 1, 132, 3, 1, 167, 255, 229] := zq_of 34 (by decide +kernel)
theorem dX5_nthOf_0 : decode cX5_nthOf 0 = .ok (.iconst 0, 1) := zq_0 zo_3 zkX5_nthOf_0 0 rfl rfl
theorem dX5_nthOf_1 : decode cX5_nthOf 1 = .ok (.istore_n 2, 1) := zq_0 zo_61 zkX5_nthOf_0 1 rfl rfl
theorem dX5_nthOf_2 : decode cX5_nthOf 2 = .ok (.iconst 0, 1) := zq_0 zo_3 zkX5_nthOf_0 2 rfl rfl
theorem dX5_nthOf_3 : decode cX5_nthOf 3 = .ok (.istore_n 3, 1) := zq_0 zo_62 zkX5_nthOf_0 3 rfl rfl
theorem dX5_nthOf_4 : decode cX5_nthOf 4 = .ok (.iload_n 3, 1) := zq_0 zo_29 zkX5_nthOf_0 4 rfl rfl
theorem dX5_nthOf_5 : decode cX5_nthOf 5 = .ok (.bipush 6, 2) := zq_1s zo_16 zkX5_nthOf_0 5 rfl rfl 6 rfl _ (by decide +kernel)
theorem dX5_nthOf_7 : decode cX5_nthOf 7 = .ok (.if_icmp .ge 27, 3) := zq_2s zo_162 zkX5_nthOf_0 7 rfl rfl 0 27 rfl rfl _ (by decide +kernel)
theorem dX5_nthOf_10 : decode cX5_nthOf 10 = .ok (.iload_n 0, 1) := zq_0 zo_26 zkX5_nthOf_0 10 rfl rfl
theorem dX5_nthOf_11 : decode cX5_nthOf 11 = .ok (.iload_n 3, 1) := zq_0 zo_29 zkX5_nthOf_0 11 rfl rfl
theorem dX5_nthOf_12 : decode cX5_nthOf 12 = .ok (.ishr, 1) := zq_0 zo_122 zkX5_nthOf_0 12 rfl rfl
theorem dX5_nthOf_13 : decode cX5_nthOf 13 = .ok (.iconst 1, 1) := zq_0 zo_4 zkX5_nthOf_0 13 rfl rfl
theorem dX5_nthOf_14 : decode cX5_nthOf 14 = .ok (.iand, 1) := zq_0 zo_126 zkX5_nthOf_0 14 rfl rfl
theorem dX5_nthOf_15 : decode cX5_nthOf 15 = .ok (.ifCond .eq 13, 3) := zq_2s zo_153 zkX5_nthOf_0 15 rfl rfl 0 13 rfl rfl _ (by decide +kernel)
theorem dX5_nthOf_18 : decode cX5_nthOf 18 = .ok (.iload_n 2, 1) := zq_0 zo_28 zkX5_nthOf_0 18 rfl rfl
theorem dX5_nthOf_19 : decode cX5_nthOf 19 = .ok (.iload_n 1, 1) := zq_0 zo_27 zkX5_nthOf_0 19 rfl rfl
theorem dX5_nthOf_20 : decode cX5_nthOf 20 = .ok (.if_icmp .ne 5, 3) := zq_2s zo_160 zkX5_nthOf_0 20 rfl rfl 0 5 rfl rfl _ (by decide +kernel)
theorem dX5_nthOf_23 : decode cX5_nthOf 23 = .ok (.iload_n 3, 1) := zq_0 zo_29 zkX5_nthOf_0 23 rfl rfl
theorem dX5_nthOf_24 : decode cX5_nthOf 24 = .ok (.ireturn, 1) := zq_0 zo_172 zkX5_nthOf_0 24 rfl rfl
theorem dX5_nthOf_25 : decode cX5_nthOf 25 = .ok (.iinc 2 1, 3) := zq_ii zo_132 zkX5_nthOf_0 25 rfl rfl 2 1 rfl rfl _ (by decide +kernel)
theorem dX5_nthOf_28 : decode cX5_nthOf 28 = .ok (.iinc 3 1, 3) := zq_ii zo_132 zkX5_nthOf_0 28 rfl rfl 3 1 rfl rfl _ (by decide +kernel)
theorem dX5_nthOf_31 : decode cX5_nthOf 31 = .ok (.goto (-27), 3) := zq_2s zo_167 zkX5_nthOf_0 31 rfl rfl 255 229 rfl rfl _ (by decide +kernel)
theorem zkX5_nthOf_32 : zqc cX5_nthOf 32 [255, 229, 2, 172] := zq_of 4 (by decide +kernel)
theorem dX5_nthOf_34 : decode cX5_nthOf 34 = .ok (.iconst (-1), 1) := zq_0 zo_2 zkX5_nthOf_32 2 rfl rfl
theorem dX5_nthOf_35 : decode cX5_nthOf 35 = .ok (.ireturn, 1) := zq_0 zo_172 zkX5_nthOf_32 3 rfl rfl
theorem zkX5_highestFare_0 : zqc cX5_highestFare 0 [2, 61, 3, 62, 29, 42, 180, 0, 68, 162, 0, 51, 27, 29, 122, 4, 126, 153, 0, 7, 4, 167, 0, 4, 3, 54, 4, 21, 4, 153, 0, 25, 28, 2] := zq_of 34 (by decide +kernel)
theorem dX5_highestFare_0 : decode cX5_highestFare 0 = .ok (.iconst (-1), 1) := zq_0 zo_2 zkX5_highestFare_0 0 rfl rfl
theorem dX5_highestFare_1 : decode cX5_highestFare 1 = .ok (.istore_n 2, 1) := zq_0 zo_61 zkX5_highestFare_0 1 rfl rfl
theorem dX5_highestFare_2 : decode cX5_highestFare 2 = .ok (.iconst 0, 1) := zq_0 zo_3 zkX5_highestFare_0 2 rfl rfl
theorem dX5_highestFare_3 : decode cX5_highestFare 3 = .ok (.istore_n 3, 1) := zq_0 zo_62 zkX5_highestFare_0 3 rfl rfl
theorem dX5_highestFare_4 : decode cX5_highestFare 4 = .ok (.iload_n 3, 1) := zq_0 zo_29 zkX5_highestFare_0 4 rfl rfl
theorem dX5_highestFare_5 : decode cX5_highestFare 5 = .ok (.aload_n 0, 1) := zq_0 zo_42 zkX5_highestFare_0 5 rfl rfl
theorem dX5_highestFare_6 : decode cX5_highestFare 6 = .ok (.getfield 68, 3) := zq_2 zo_180 zkX5_highestFare_0 6 rfl rfl 0 68 rfl rfl _ rfl
theorem dX5_highestFare_9 : decode cX5_highestFare 9 = .ok (.if_icmp .ge 51, 3) := zq_2s zo_162 zkX5_highestFare_0 9 rfl rfl 0 51 rfl rfl _ (by decide +kernel)
theorem dX5_highestFare_12 : decode cX5_highestFare 12 = .ok (.iload_n 1, 1) := zq_0 zo_27 zkX5_highestFare_0 12 rfl rfl
theorem dX5_highestFare_13 : decode cX5_highestFare 13 = .ok (.iload_n 3, 1) := zq_0 zo_29 zkX5_highestFare_0 13 rfl rfl
theorem dX5_highestFare_14 : decode cX5_highestFare 14 = .ok (.ishr, 1) := zq_0 zo_122 zkX5_highestFare_0 14 rfl rfl
theorem dX5_highestFare_15 : decode cX5_highestFare 15 = .ok (.iconst 1, 1) := zq_0 zo_4 zkX5_highestFare_0 15 rfl rfl
theorem dX5_highestFare_16 : decode cX5_highestFare 16 = .ok (.iand, 1) := zq_0 zo_126 zkX5_highestFare_0 16 rfl rfl
theorem dX5_highestFare_17 : decode cX5_highestFare 17 = .ok (.ifCond .eq 7, 3) := zq_2s zo_153 zkX5_highestFare_0 17 rfl rfl 0 7 rfl rfl _ (by decide +kernel)
theorem dX5_highestFare_20 : decode cX5_highestFare 20 = .ok (.iconst 1, 1) := zq_0 zo_4 zkX5_highestFare_0 20 rfl rfl
theorem dX5_highestFare_21 : decode cX5_highestFare 21 = .ok (.goto 4, 3) := zq_2s zo_167 zkX5_highestFare_0 21 rfl rfl 0 4 rfl rfl _ (by decide +kernel)
theorem dX5_highestFare_24 : decode cX5_highestFare 24 = .ok (.iconst 0, 1) := zq_0 zo_3 zkX5_highestFare_0 24 rfl rfl
theorem dX5_highestFare_25 : decode cX5_highestFare 25 = .ok (.istore 4, 2) := zq_1 zo_54 zkX5_highestFare_0 25 rfl rfl 4 rfl
theorem dX5_highestFare_27 : decode cX5_highestFare 27 = .ok (.iload 4, 2) := zq_1 zo_21 zkX5_highestFare_0 27 rfl rfl 4 rfl
theorem dX5_highestFare_29 : decode cX5_highestFare 29 = .ok (.ifCond .eq 25, 3) := zq_2s zo_153 zkX5_highestFare_0 29 rfl rfl 0 25 rfl rfl _ (by decide +kernel)
theorem zkX5_highestFare_32 : zqc cX5_highestFare 32 [28, 2, 159, 0, 18, 42, 180, 0, 130, 29, 46, 42, 180, 0, 130, 28, 46, 164, 0, 5, 29, 61, 132, 3, 1, 167, 255, 203, 28, 172] := zq_of 30 (by decide +kernel)
theorem dX5_highestFare_32 : decode cX5_highestFare 32 = .ok (.iload_n 2, 1) := zq_0 zo_28 zkX5_highestFare_32 0 rfl rfl
theorem dX5_highestFare_33 : decode cX5_highestFare 33 = .ok (.iconst (-1), 1) := zq_0 zo_2 zkX5_highestFare_32 1 rfl rfl
theorem dX5_highestFare_34 : decode cX5_highestFare 34 = .ok (.if_icmp .eq 18, 3) := zq_2s zo_159 zkX5_highestFare_32 2 rfl rfl 0 18 rfl rfl _ (by decide +kernel)
theorem dX5_highestFare_37 : decode cX5_highestFare 37 = .ok (.aload_n 0, 1) := zq_0 zo_42 zkX5_highestFare_32 5 rfl rfl
theorem dX5_highestFare_38 : decode cX5_highestFare 38 = .ok (.getfield 130, 3) := zq_2 zo_180 zkX5_highestFare_32 6 rfl rfl 0 130 rfl rfl _ rfl
theorem dX5_highestFare_41 : decode cX5_highestFare 41 = .ok (.iload_n 3, 1) := zq_0 zo_29 zkX5_highestFare_32 9 rfl rfl
theorem dX5_highestFare_42 : decode cX5_highestFare 42 = .ok (.iaload, 1) := zq_0 zo_46 zkX5_highestFare_32 10 rfl rfl
theorem dX5_highestFare_43 : decode cX5_highestFare 43 = .ok (.aload_n 0, 1) := zq_0 zo_42 zkX5_highestFare_32 11 rfl rfl
theorem dX5_highestFare_44 : decode cX5_highestFare 44 = .ok (.getfield 130, 3) := zq_2 zo_180 zkX5_highestFare_32 12 rfl rfl 0 130 rfl rfl _ rfl
theorem dX5_highestFare_47 : decode cX5_highestFare 47 = .ok (.iload_n 2, 1) := zq_0 zo_28 zkX5_highestFare_32 15 rfl rfl
theorem dX5_highestFare_48 : decode cX5_highestFare 48 = .ok (.iaload, 1) := zq_0 zo_46 zkX5_highestFare_32 16 rfl rfl
theorem dX5_highestFare_49 : decode cX5_highestFare 49 = .ok (.if_icmp .le 5, 3) := zq_2s zo_164 zkX5_highestFare_32 17 rfl rfl 0 5 rfl rfl _ (by decide +kernel)
theorem dX5_highestFare_52 : decode cX5_highestFare 52 = .ok (.iload_n 3, 1) := zq_0 zo_29 zkX5_highestFare_32 20 rfl rfl
theorem dX5_highestFare_53 : decode cX5_highestFare 53 = .ok (.istore_n 2, 1) := zq_0 zo_61 zkX5_highestFare_32 21 rfl rfl
theorem dX5_highestFare_54 : decode cX5_highestFare 54 = .ok (.iinc 3 1, 3) := zq_ii zo_132 zkX5_highestFare_32 22 rfl rfl 3 1 rfl rfl _ (by decide +kernel)
theorem dX5_highestFare_57 : decode cX5_highestFare 57 = .ok (.goto (-53), 3) := zq_2s zo_167 zkX5_highestFare_32 25 rfl rfl 255 203 rfl rfl _ (by decide +kernel)
theorem dX5_highestFare_60 : decode cX5_highestFare 60 = .ok (.iload_n 2, 1) := zq_0 zo_28 zkX5_highestFare_32 28 rfl rfl
theorem dX5_highestFare_61 : decode cX5_highestFare 61 = .ok (.ireturn, 1) := zq_0 zo_172 zkX5_highestFare_32 29 rfl rfl
theorem zkX5_drawBelow_0 : zqc cX5_drawBelow 0 [42, 42, 180, 0, 28, 18, 133, 104, 17, 48, 57, 96, 181, 0, 28, 27, 157, 0, 7, 3, 167, 0, 12, 42, 180, 0, 28, 16, 16, 124, 27, 112, 172] := zq_of 33 (by decide +kernel)
theorem dX5_drawBelow_0 : decode cX5_drawBelow 0 = .ok (.aload_n 0, 1) := zq_0 zo_42 zkX5_drawBelow_0 0 rfl rfl
theorem dX5_drawBelow_1 : decode cX5_drawBelow 1 = .ok (.aload_n 0, 1) := zq_0 zo_42 zkX5_drawBelow_0 1 rfl rfl
theorem dX5_drawBelow_2 : decode cX5_drawBelow 2 = .ok (.getfield 28, 3) := zq_2 zo_180 zkX5_drawBelow_0 2 rfl rfl 0 28 rfl rfl _ rfl
theorem dX5_drawBelow_5 : decode cX5_drawBelow 5 = .ok (.ldc 133, 2) := zq_1 zo_18 zkX5_drawBelow_0 5 rfl rfl 133 rfl
theorem dX5_drawBelow_7 : decode cX5_drawBelow 7 = .ok (.imul, 1) := zq_0 zo_104 zkX5_drawBelow_0 7 rfl rfl
theorem dX5_drawBelow_8 : decode cX5_drawBelow 8 = .ok (.sipush 12345, 3) := zq_2s zo_17 zkX5_drawBelow_0 8 rfl rfl 48 57 rfl rfl _ (by decide +kernel)
theorem dX5_drawBelow_11 : decode cX5_drawBelow 11 = .ok (.iadd, 1) := zq_0 zo_96 zkX5_drawBelow_0 11 rfl rfl
theorem dX5_drawBelow_12 : decode cX5_drawBelow 12 = .ok (.putfield 28, 3) := zq_2 zo_181 zkX5_drawBelow_0 12 rfl rfl 0 28 rfl rfl _ rfl
theorem dX5_drawBelow_15 : decode cX5_drawBelow 15 = .ok (.iload_n 1, 1) := zq_0 zo_27 zkX5_drawBelow_0 15 rfl rfl
theorem dX5_drawBelow_16 : decode cX5_drawBelow 16 = .ok (.ifCond .gt 7, 3) := zq_2s zo_157 zkX5_drawBelow_0 16 rfl rfl 0 7 rfl rfl _ (by decide +kernel)
theorem dX5_drawBelow_19 : decode cX5_drawBelow 19 = .ok (.iconst 0, 1) := zq_0 zo_3 zkX5_drawBelow_0 19 rfl rfl
theorem dX5_drawBelow_20 : decode cX5_drawBelow 20 = .ok (.goto 12, 3) := zq_2s zo_167 zkX5_drawBelow_0 20 rfl rfl 0 12 rfl rfl _ (by decide +kernel)
theorem dX5_drawBelow_23 : decode cX5_drawBelow 23 = .ok (.aload_n 0, 1) := zq_0 zo_42 zkX5_drawBelow_0 23 rfl rfl
theorem dX5_drawBelow_24 : decode cX5_drawBelow 24 = .ok (.getfield 28, 3) := zq_2 zo_180 zkX5_drawBelow_0 24 rfl rfl 0 28 rfl rfl _ rfl
theorem dX5_drawBelow_27 : decode cX5_drawBelow 27 = .ok (.bipush 16, 2) := zq_1s zo_16 zkX5_drawBelow_0 27 rfl rfl 16 rfl _ (by decide +kernel)
theorem dX5_drawBelow_29 : decode cX5_drawBelow 29 = .ok (.iushr, 1) := zq_0 zo_124 zkX5_drawBelow_0 29 rfl rfl
theorem dX5_drawBelow_30 : decode cX5_drawBelow 30 = .ok (.iload_n 1, 1) := zq_0 zo_27 zkX5_drawBelow_0 30 rfl rfl
theorem dX5_drawBelow_31 : decode cX5_drawBelow 31 = .ok (.irem, 1) := zq_0 zo_112 zkX5_drawBelow_0 31 rfl rfl
theorem zkX5_drawBelow_32 : zqc cX5_drawBelow 32 [172] := zq_of 1 (by decide +kernel)
theorem dX5_drawBelow_32 : decode cX5_drawBelow 32 = .ok (.ireturn, 1) := zq_0 zo_172 zkX5_drawBelow_32 0 rfl rfl
theorem zkX5_stopAt_0 : zqc cX5_stopAt 0 [42, 180, 0, 15, 28, 46, 42, 180, 0, 21, 29, 46, 184, 0, 134, 54, 4, 21, 4, 6, 108, 54, 5, 42, 180, 0, 15, 28, 92, 46, 21, 4, 100, 79] := zq_of 34 (by decide +kernel)
theorem dX5_stopAt_0 : decode cX5_stopAt 0 = .ok (.aload_n 0, 1) := zq_0 zo_42 zkX5_stopAt_0 0 rfl rfl
theorem dX5_stopAt_1 : decode cX5_stopAt 1 = .ok (.getfield 15, 3) := zq_2 zo_180 zkX5_stopAt_0 1 rfl rfl 0 15 rfl rfl _ rfl
theorem dX5_stopAt_4 : decode cX5_stopAt 4 = .ok (.iload_n 2, 1) := zq_0 zo_28 zkX5_stopAt_0 4 rfl rfl
theorem dX5_stopAt_5 : decode cX5_stopAt 5 = .ok (.iaload, 1) := zq_0 zo_46 zkX5_stopAt_0 5 rfl rfl
theorem dX5_stopAt_6 : decode cX5_stopAt 6 = .ok (.aload_n 0, 1) := zq_0 zo_42 zkX5_stopAt_0 6 rfl rfl
theorem dX5_stopAt_7 : decode cX5_stopAt 7 = .ok (.getfield 21, 3) := zq_2 zo_180 zkX5_stopAt_0 7 rfl rfl 0 21 rfl rfl _ rfl
theorem dX5_stopAt_10 : decode cX5_stopAt 10 = .ok (.iload_n 3, 1) := zq_0 zo_29 zkX5_stopAt_0 10 rfl rfl
theorem dX5_stopAt_11 : decode cX5_stopAt 11 = .ok (.iaload, 1) := zq_0 zo_46 zkX5_stopAt_0 11 rfl rfl
theorem dX5_stopAt_12 : decode cX5_stopAt 12 = .ok (.invokestatic 134, 3) := zq_2 zo_184 zkX5_stopAt_0 12 rfl rfl 0 134 rfl rfl _ rfl
theorem dX5_stopAt_15 : decode cX5_stopAt 15 = .ok (.istore 4, 2) := zq_1 zo_54 zkX5_stopAt_0 15 rfl rfl 4 rfl
theorem dX5_stopAt_17 : decode cX5_stopAt 17 = .ok (.iload 4, 2) := zq_1 zo_21 zkX5_stopAt_0 17 rfl rfl 4 rfl
theorem dX5_stopAt_19 : decode cX5_stopAt 19 = .ok (.iconst 3, 1) := zq_0 zo_6 zkX5_stopAt_0 19 rfl rfl
theorem dX5_stopAt_20 : decode cX5_stopAt 20 = .ok (.idiv, 1) := zq_0 zo_108 zkX5_stopAt_0 20 rfl rfl
theorem dX5_stopAt_21 : decode cX5_stopAt 21 = .ok (.istore 5, 2) := zq_1 zo_54 zkX5_stopAt_0 21 rfl rfl 5 rfl
theorem dX5_stopAt_23 : decode cX5_stopAt 23 = .ok (.aload_n 0, 1) := zq_0 zo_42 zkX5_stopAt_0 23 rfl rfl
theorem dX5_stopAt_24 : decode cX5_stopAt 24 = .ok (.getfield 15, 3) := zq_2 zo_180 zkX5_stopAt_0 24 rfl rfl 0 15 rfl rfl _ rfl
theorem dX5_stopAt_27 : decode cX5_stopAt 27 = .ok (.iload_n 2, 1) := zq_0 zo_28 zkX5_stopAt_0 27 rfl rfl
theorem dX5_stopAt_28 : decode cX5_stopAt 28 = .ok (.dup2, 1) := zq_0 zo_92 zkX5_stopAt_0 28 rfl rfl
theorem dX5_stopAt_29 : decode cX5_stopAt 29 = .ok (.iaload, 1) := zq_0 zo_46 zkX5_stopAt_0 29 rfl rfl
theorem dX5_stopAt_30 : decode cX5_stopAt 30 = .ok (.iload 4, 2) := zq_1 zo_21 zkX5_stopAt_0 30 rfl rfl 4 rfl
theorem zkX5_stopAt_32 : zqc cX5_stopAt 32 [100, 79, 42, 180, 0, 21, 29, 92, 46, 21, 4, 100, 79, 42, 180, 0, 18, 29, 92, 46, 21, 4, 21, 5, 100, 96, 79, 42, 89, 180, 0, 86, 21, 4] := zq_of 34 (by decide +kernel)
theorem dX5_stopAt_32 : decode cX5_stopAt 32 = .ok (.isub, 1) := zq_0 zo_100 zkX5_stopAt_32 0 rfl rfl
theorem dX5_stopAt_33 : decode cX5_stopAt 33 = .ok (.iastore, 1) := zq_0 zo_79 zkX5_stopAt_32 1 rfl rfl
theorem dX5_stopAt_34 : decode cX5_stopAt 34 = .ok (.aload_n 0, 1) := zq_0 zo_42 zkX5_stopAt_32 2 rfl rfl
theorem dX5_stopAt_35 : decode cX5_stopAt 35 = .ok (.getfield 21, 3) := zq_2 zo_180 zkX5_stopAt_32 3 rfl rfl 0 21 rfl rfl _ rfl
theorem dX5_stopAt_38 : decode cX5_stopAt 38 = .ok (.iload_n 3, 1) := zq_0 zo_29 zkX5_stopAt_32 6 rfl rfl
theorem dX5_stopAt_39 : decode cX5_stopAt 39 = .ok (.dup2, 1) := zq_0 zo_92 zkX5_stopAt_32 7 rfl rfl
theorem dX5_stopAt_40 : decode cX5_stopAt 40 = .ok (.iaload, 1) := zq_0 zo_46 zkX5_stopAt_32 8 rfl rfl
theorem dX5_stopAt_41 : decode cX5_stopAt 41 = .ok (.iload 4, 2) := zq_1 zo_21 zkX5_stopAt_32 9 rfl rfl 4 rfl
theorem dX5_stopAt_43 : decode cX5_stopAt 43 = .ok (.isub, 1) := zq_0 zo_100 zkX5_stopAt_32 11 rfl rfl
theorem dX5_stopAt_44 : decode cX5_stopAt 44 = .ok (.iastore, 1) := zq_0 zo_79 zkX5_stopAt_32 12 rfl rfl
theorem dX5_stopAt_45 : decode cX5_stopAt 45 = .ok (.aload_n 0, 1) := zq_0 zo_42 zkX5_stopAt_32 13 rfl rfl
theorem dX5_stopAt_46 : decode cX5_stopAt 46 = .ok (.getfield 18, 3) := zq_2 zo_180 zkX5_stopAt_32 14 rfl rfl 0 18 rfl rfl _ rfl
theorem dX5_stopAt_49 : decode cX5_stopAt 49 = .ok (.iload_n 3, 1) := zq_0 zo_29 zkX5_stopAt_32 17 rfl rfl
theorem dX5_stopAt_50 : decode cX5_stopAt 50 = .ok (.dup2, 1) := zq_0 zo_92 zkX5_stopAt_32 18 rfl rfl
theorem dX5_stopAt_51 : decode cX5_stopAt 51 = .ok (.iaload, 1) := zq_0 zo_46 zkX5_stopAt_32 19 rfl rfl
theorem dX5_stopAt_52 : decode cX5_stopAt 52 = .ok (.iload 4, 2) := zq_1 zo_21 zkX5_stopAt_32 20 rfl rfl 4 rfl
theorem dX5_stopAt_54 : decode cX5_stopAt 54 = .ok (.iload 5, 2) := zq_1 zo_21 zkX5_stopAt_32 22 rfl rfl 5 rfl
theorem dX5_stopAt_56 : decode cX5_stopAt 56 = .ok (.isub, 1) := zq_0 zo_100 zkX5_stopAt_32 24 rfl rfl
theorem dX5_stopAt_57 : decode cX5_stopAt 57 = .ok (.iadd, 1) := zq_0 zo_96 zkX5_stopAt_32 25 rfl rfl
theorem dX5_stopAt_58 : decode cX5_stopAt 58 = .ok (.iastore, 1) := zq_0 zo_79 zkX5_stopAt_32 26 rfl rfl
theorem dX5_stopAt_59 : decode cX5_stopAt 59 = .ok (.aload_n 0, 1) := zq_0 zo_42 zkX5_stopAt_32 27 rfl rfl
theorem dX5_stopAt_60 : decode cX5_stopAt 60 = .ok (.dup, 1) := zq_0 zo_89 zkX5_stopAt_32 28 rfl rfl
theorem dX5_stopAt_61 : decode cX5_stopAt 61 = .ok (.getfield 86, 3) := zq_2 zo_180 zkX5_stopAt_32 29 rfl rfl 0 86 rfl rfl _ rfl
theorem zkX5_stopAt_64 : zqc cX5_stopAt 64 [21, 4, 96, 181, 0, 86, 42, 89, 180, 0, 89, 21, 5, 96, 181, 0, 89, 42, 89, 180, 0, 83, 43, 28, 182, 0, 103, 96, 181, 0, 83, 42, 180, 0] := zq_of 34 (by decide +kernel)
theorem dX5_stopAt_64 : decode cX5_stopAt 64 = .ok (.iload 4, 2) := zq_1 zo_21 zkX5_stopAt_64 0 rfl rfl 4 rfl
theorem dX5_stopAt_66 : decode cX5_stopAt 66 = .ok (.iadd, 1) := zq_0 zo_96 zkX5_stopAt_64 2 rfl rfl
theorem dX5_stopAt_67 : decode cX5_stopAt 67 = .ok (.putfield 86, 3) := zq_2 zo_181 zkX5_stopAt_64 3 rfl rfl 0 86 rfl rfl _ rfl
theorem dX5_stopAt_70 : decode cX5_stopAt 70 = .ok (.aload_n 0, 1) := zq_0 zo_42 zkX5_stopAt_64 6 rfl rfl
theorem dX5_stopAt_71 : decode cX5_stopAt 71 = .ok (.dup, 1) := zq_0 zo_89 zkX5_stopAt_64 7 rfl rfl
theorem dX5_stopAt_72 : decode cX5_stopAt 72 = .ok (.getfield 89, 3) := zq_2 zo_180 zkX5_stopAt_64 8 rfl rfl 0 89 rfl rfl _ rfl
theorem dX5_stopAt_75 : decode cX5_stopAt 75 = .ok (.iload 5, 2) := zq_1 zo_21 zkX5_stopAt_64 11 rfl rfl 5 rfl
theorem dX5_stopAt_77 : decode cX5_stopAt 77 = .ok (.iadd, 1) := zq_0 zo_96 zkX5_stopAt_64 13 rfl rfl
theorem dX5_stopAt_78 : decode cX5_stopAt 78 = .ok (.putfield 89, 3) := zq_2 zo_181 zkX5_stopAt_64 14 rfl rfl 0 89 rfl rfl _ rfl
theorem dX5_stopAt_81 : decode cX5_stopAt 81 = .ok (.aload_n 0, 1) := zq_0 zo_42 zkX5_stopAt_64 17 rfl rfl
theorem dX5_stopAt_82 : decode cX5_stopAt 82 = .ok (.dup, 1) := zq_0 zo_89 zkX5_stopAt_64 18 rfl rfl
theorem dX5_stopAt_83 : decode cX5_stopAt 83 = .ok (.getfield 83, 3) := zq_2 zo_180 zkX5_stopAt_64 19 rfl rfl 0 83 rfl rfl _ rfl
theorem dX5_stopAt_86 : decode cX5_stopAt 86 = .ok (.aload_n 1, 1) := zq_0 zo_43 zkX5_stopAt_64 22 rfl rfl
theorem dX5_stopAt_87 : decode cX5_stopAt 87 = .ok (.iload_n 2, 1) := zq_0 zo_28 zkX5_stopAt_64 23 rfl rfl
theorem dX5_stopAt_88 : decode cX5_stopAt 88 = .ok (.invokevirtual 103, 3) := zq_2 zo_182 zkX5_stopAt_64 24 rfl rfl 0 103 rfl rfl _ rfl
theorem dX5_stopAt_91 : decode cX5_stopAt 91 = .ok (.iadd, 1) := zq_0 zo_96 zkX5_stopAt_64 27 rfl rfl
theorem dX5_stopAt_92 : decode cX5_stopAt 92 = .ok (.putfield 83, 3) := zq_2 zo_181 zkX5_stopAt_64 28 rfl rfl 0 83 rfl rfl _ rfl
theorem dX5_stopAt_95 : decode cX5_stopAt 95 = .ok (.aload_n 0, 1) := zq_0 zo_42 zkX5_stopAt_64 31 rfl rfl
theorem zkX5_stopAt_96 : zqc cX5_stopAt 96 [180, 0, 9, 28, 29, 79, 42, 89, 180, 0, 74, 4, 29, 120, 128, 181, 0, 74, 42, 89, 180, 0, 77, 4, 28, 120, 128, 181, 0, 77, 42, 89, 180, 0] := zq_of 34 (by decide +kernel)
theorem dX5_stopAt_96 : decode cX5_stopAt 96 = .ok (.getfield 9, 3) := zq_2 zo_180 zkX5_stopAt_96 0 rfl rfl 0 9 rfl rfl _ rfl
theorem dX5_stopAt_99 : decode cX5_stopAt 99 = .ok (.iload_n 2, 1) := zq_0 zo_28 zkX5_stopAt_96 3 rfl rfl
theorem dX5_stopAt_100 : decode cX5_stopAt 100 = .ok (.iload_n 3, 1) := zq_0 zo_29 zkX5_stopAt_96 4 rfl rfl
theorem dX5_stopAt_101 : decode cX5_stopAt 101 = .ok (.iastore, 1) := zq_0 zo_79 zkX5_stopAt_96 5 rfl rfl
theorem dX5_stopAt_102 : decode cX5_stopAt 102 = .ok (.aload_n 0, 1) := zq_0 zo_42 zkX5_stopAt_96 6 rfl rfl
theorem dX5_stopAt_103 : decode cX5_stopAt 103 = .ok (.dup, 1) := zq_0 zo_89 zkX5_stopAt_96 7 rfl rfl
theorem dX5_stopAt_104 : decode cX5_stopAt 104 = .ok (.getfield 74, 3) := zq_2 zo_180 zkX5_stopAt_96 8 rfl rfl 0 74 rfl rfl _ rfl
theorem dX5_stopAt_107 : decode cX5_stopAt 107 = .ok (.iconst 1, 1) := zq_0 zo_4 zkX5_stopAt_96 11 rfl rfl
theorem dX5_stopAt_108 : decode cX5_stopAt 108 = .ok (.iload_n 3, 1) := zq_0 zo_29 zkX5_stopAt_96 12 rfl rfl
theorem dX5_stopAt_109 : decode cX5_stopAt 109 = .ok (.ishl, 1) := zq_0 zo_120 zkX5_stopAt_96 13 rfl rfl
theorem dX5_stopAt_110 : decode cX5_stopAt 110 = .ok (.ior, 1) := zq_0 zo_128 zkX5_stopAt_96 14 rfl rfl
theorem dX5_stopAt_111 : decode cX5_stopAt 111 = .ok (.putfield 74, 3) := zq_2 zo_181 zkX5_stopAt_96 15 rfl rfl 0 74 rfl rfl _ rfl
theorem dX5_stopAt_114 : decode cX5_stopAt 114 = .ok (.aload_n 0, 1) := zq_0 zo_42 zkX5_stopAt_96 18 rfl rfl
theorem dX5_stopAt_115 : decode cX5_stopAt 115 = .ok (.dup, 1) := zq_0 zo_89 zkX5_stopAt_96 19 rfl rfl
theorem dX5_stopAt_116 : decode cX5_stopAt 116 = .ok (.getfield 77, 3) := zq_2 zo_180 zkX5_stopAt_96 20 rfl rfl 0 77 rfl rfl _ rfl
theorem dX5_stopAt_119 : decode cX5_stopAt 119 = .ok (.iconst 1, 1) := zq_0 zo_4 zkX5_stopAt_96 23 rfl rfl
theorem dX5_stopAt_120 : decode cX5_stopAt 120 = .ok (.iload_n 2, 1) := zq_0 zo_28 zkX5_stopAt_96 24 rfl rfl
theorem dX5_stopAt_121 : decode cX5_stopAt 121 = .ok (.ishl, 1) := zq_0 zo_120 zkX5_stopAt_96 25 rfl rfl
theorem dX5_stopAt_122 : decode cX5_stopAt 122 = .ok (.ior, 1) := zq_0 zo_128 zkX5_stopAt_96 26 rfl rfl
theorem dX5_stopAt_123 : decode cX5_stopAt 123 = .ok (.putfield 77, 3) := zq_2 zo_181 zkX5_stopAt_96 27 rfl rfl 0 77 rfl rfl _ rfl
theorem dX5_stopAt_126 : decode cX5_stopAt 126 = .ok (.aload_n 0, 1) := zq_0 zo_42 zkX5_stopAt_96 30 rfl rfl
theorem dX5_stopAt_127 : decode cX5_stopAt 127 = .ok (.dup, 1) := zq_0 zo_89 zkX5_stopAt_96 31 rfl rfl
theorem zkX5_stopAt_128 : zqc cX5_stopAt 128 [180, 0, 80, 4, 96, 181, 0, 80, 42, 180, 0, 80, 43, 180, 0, 139, 160, 0, 8, 42, 28, 181, 0, 92, 177] := zq_of 25 (by decide +kernel)
theorem dX5_stopAt_128 : decode cX5_stopAt 128 = .ok (.getfield 80, 3) := zq_2 zo_180 zkX5_stopAt_128 0 rfl rfl 0 80 rfl rfl _ rfl
theorem dX5_stopAt_131 : decode cX5_stopAt 131 = .ok (.iconst 1, 1) := zq_0 zo_4 zkX5_stopAt_128 3 rfl rfl
theorem dX5_stopAt_132 : decode cX5_stopAt 132 = .ok (.iadd, 1) := zq_0 zo_96 zkX5_stopAt_128 4 rfl rfl
theorem dX5_stopAt_133 : decode cX5_stopAt 133 = .ok (.putfield 80, 3) := zq_2 zo_181 zkX5_stopAt_128 5 rfl rfl 0 80 rfl rfl _ rfl
theorem dX5_stopAt_136 : decode cX5_stopAt 136 = .ok (.aload_n 0, 1) := zq_0 zo_42 zkX5_stopAt_128 8 rfl rfl
theorem dX5_stopAt_137 : decode cX5_stopAt 137 = .ok (.getfield 80, 3) := zq_2 zo_180 zkX5_stopAt_128 9 rfl rfl 0 80 rfl rfl _ rfl
theorem dX5_stopAt_140 : decode cX5_stopAt 140 = .ok (.aload_n 1, 1) := zq_0 zo_43 zkX5_stopAt_128 12 rfl rfl
theorem dX5_stopAt_141 : decode cX5_stopAt 141 = .ok (.getfield 139, 3) := zq_2 zo_180 zkX5_stopAt_128 13 rfl rfl 0 139 rfl rfl _ rfl
theorem dX5_stopAt_144 : decode cX5_stopAt 144 = .ok (.if_icmp .ne 8, 3) := zq_2s zo_160 zkX5_stopAt_128 16 rfl rfl 0 8 rfl rfl _ (by decide +kernel)
theorem dX5_stopAt_147 : decode cX5_stopAt 147 = .ok (.aload_n 0, 1) := zq_0 zo_42 zkX5_stopAt_128 19 rfl rfl
theorem dX5_stopAt_148 : decode cX5_stopAt 148 = .ok (.iload_n 2, 1) := zq_0 zo_28 zkX5_stopAt_128 20 rfl rfl
theorem dX5_stopAt_149 : decode cX5_stopAt 149 = .ok (.putfield 92, 3) := zq_2 zo_181 zkX5_stopAt_128 21 rfl rfl 0 92 rfl rfl _ rfl
theorem dX5_stopAt_152 : decode cX5_stopAt 152 = .ok (.return_, 1) := zq_0 zo_177 zkX5_stopAt_128 24 rfl rfl
theorem zkX5_arrival_0 : zqc cX5_arrival 0 [43, 28, 182, 0, 142, 43, 28, 42, 180, 0, 77, 182, 0, 145, 96, 172] := zq_of 16 (by decide +kernel)
theorem dX5_arrival_0 : decode cX5_arrival 0 = .ok (.aload_n 1, 1) := zq_0 zo_43 zkX5_arrival_0 0 rfl rfl
theorem dX5_arrival_1 : decode cX5_arrival 1 = .ok (.iload_n 2, 1) := zq_0 zo_28 zkX5_arrival_0 1 rfl rfl
theorem dX5_arrival_2 : decode cX5_arrival 2 = .ok (.invokevirtual 142, 3) := zq_2 zo_182 zkX5_arrival_0 2 rfl rfl 0 142 rfl rfl _ rfl
theorem dX5_arrival_5 : decode cX5_arrival 5 = .ok (.aload_n 1, 1) := zq_0 zo_43 zkX5_arrival_0 5 rfl rfl
theorem dX5_arrival_6 : decode cX5_arrival 6 = .ok (.iload_n 2, 1) := zq_0 zo_28 zkX5_arrival_0 6 rfl rfl
theorem dX5_arrival_7 : decode cX5_arrival 7 = .ok (.aload_n 0, 1) := zq_0 zo_42 zkX5_arrival_0 7 rfl rfl
theorem dX5_arrival_8 : decode cX5_arrival 8 = .ok (.getfield 77, 3) := zq_2 zo_180 zkX5_arrival_0 8 rfl rfl 0 77 rfl rfl _ rfl
theorem dX5_arrival_11 : decode cX5_arrival 11 = .ok (.invokevirtual 145, 3) := zq_2 zo_182 zkX5_arrival_0 11 rfl rfl 0 145 rfl rfl _ rfl
theorem dX5_arrival_14 : decode cX5_arrival 14 = .ok (.iadd, 1) := zq_0 zo_96 zkX5_arrival_0 14 rfl rfl
theorem dX5_arrival_15 : decode cX5_arrival 15 = .ok (.ireturn, 1) := zq_0 zo_172 zkX5_arrival_0 15 rfl rfl
theorem zkX5_lateAt_0 : zqc cX5_lateAt 0 [3, 42, 43, 28, 182, 0, 148, 43, 180, 0, 151, 28, 46, 100, 184, 0, 154, 172] := zq_of 18 (by decide +kernel)
theorem dX5_lateAt_0 : decode cX5_lateAt 0 = .ok (.iconst 0, 1) := zq_0 zo_3 zkX5_lateAt_0 0 rfl rfl
theorem dX5_lateAt_1 : decode cX5_lateAt 1 = .ok (.aload_n 0, 1) := zq_0 zo_42 zkX5_lateAt_0 1 rfl rfl
theorem dX5_lateAt_2 : decode cX5_lateAt 2 = .ok (.aload_n 1, 1) := zq_0 zo_43 zkX5_lateAt_0 2 rfl rfl
theorem dX5_lateAt_3 : decode cX5_lateAt 3 = .ok (.iload_n 2, 1) := zq_0 zo_28 zkX5_lateAt_0 3 rfl rfl
theorem dX5_lateAt_4 : decode cX5_lateAt 4 = .ok (.invokevirtual 148, 3) := zq_2 zo_182 zkX5_lateAt_0 4 rfl rfl 0 148 rfl rfl _ rfl
theorem dX5_lateAt_7 : decode cX5_lateAt 7 = .ok (.aload_n 1, 1) := zq_0 zo_43 zkX5_lateAt_0 7 rfl rfl
theorem dX5_lateAt_8 : decode cX5_lateAt 8 = .ok (.getfield 151, 3) := zq_2 zo_180 zkX5_lateAt_0 8 rfl rfl 0 151 rfl rfl _ rfl
theorem dX5_lateAt_11 : decode cX5_lateAt 11 = .ok (.iload_n 2, 1) := zq_0 zo_28 zkX5_lateAt_0 11 rfl rfl
theorem dX5_lateAt_12 : decode cX5_lateAt 12 = .ok (.iaload, 1) := zq_0 zo_46 zkX5_lateAt_0 12 rfl rfl
theorem dX5_lateAt_13 : decode cX5_lateAt 13 = .ok (.isub, 1) := zq_0 zo_100 zkX5_lateAt_0 13 rfl rfl
theorem dX5_lateAt_14 : decode cX5_lateAt 14 = .ok (.invokestatic 154, 3) := zq_2 zo_184 zkX5_lateAt_0 14 rfl rfl 0 154 rfl rfl _ rfl
theorem dX5_lateAt_17 : decode cX5_lateAt 17 = .ok (.ireturn, 1) := zq_0 zo_172 zkX5_lateAt_0 17 rfl rfl
theorem zkX5_fines_0 : zqc cX5_fines 0 [3, 61, 3, 62, 29, 43, 180, 0, 32, 162, 0, 35, 43, 29, 182, 0, 157, 153, 0, 21, 28, 3, 42, 43, 29, 182, 0, 160, 43, 180, 0, 163, 100, 184] := zq_of 34 (by decide +kernel)
theorem dX5_fines_0 : decode cX5_fines 0 = .ok (.iconst 0, 1) := zq_0 zo_3 zkX5_fines_0 0 rfl rfl
theorem dX5_fines_1 : decode cX5_fines 1 = .ok (.istore_n 2, 1) := zq_0 zo_61 zkX5_fines_0 1 rfl rfl
theorem dX5_fines_2 : decode cX5_fines 2 = .ok (.iconst 0, 1) := zq_0 zo_3 zkX5_fines_0 2 rfl rfl
theorem dX5_fines_3 : decode cX5_fines 3 = .ok (.istore_n 3, 1) := zq_0 zo_62 zkX5_fines_0 3 rfl rfl
theorem dX5_fines_4 : decode cX5_fines 4 = .ok (.iload_n 3, 1) := zq_0 zo_29 zkX5_fines_0 4 rfl rfl
theorem dX5_fines_5 : decode cX5_fines 5 = .ok (.aload_n 1, 1) := zq_0 zo_43 zkX5_fines_0 5 rfl rfl
theorem dX5_fines_6 : decode cX5_fines 6 = .ok (.getfield 32, 3) := zq_2 zo_180 zkX5_fines_0 6 rfl rfl 0 32 rfl rfl _ rfl
theorem dX5_fines_9 : decode cX5_fines 9 = .ok (.if_icmp .ge 35, 3) := zq_2s zo_162 zkX5_fines_0 9 rfl rfl 0 35 rfl rfl _ (by decide +kernel)
theorem dX5_fines_12 : decode cX5_fines 12 = .ok (.aload_n 1, 1) := zq_0 zo_43 zkX5_fines_0 12 rfl rfl
theorem dX5_fines_13 : decode cX5_fines 13 = .ok (.iload_n 3, 1) := zq_0 zo_29 zkX5_fines_0 13 rfl rfl
theorem dX5_fines_14 : decode cX5_fines 14 = .ok (.invokevirtual 157, 3) := zq_2 zo_182 zkX5_fines_0 14 rfl rfl 0 157 rfl rfl _ rfl
theorem dX5_fines_17 : decode cX5_fines 17 = .ok (.ifCond .eq 21, 3) := zq_2s zo_153 zkX5_fines_0 17 rfl rfl 0 21 rfl rfl _ (by decide +kernel)
theorem dX5_fines_20 : decode cX5_fines 20 = .ok (.iload_n 2, 1) := zq_0 zo_28 zkX5_fines_0 20 rfl rfl
theorem dX5_fines_21 : decode cX5_fines 21 = .ok (.iconst 0, 1) := zq_0 zo_3 zkX5_fines_0 21 rfl rfl
theorem dX5_fines_22 : decode cX5_fines 22 = .ok (.aload_n 0, 1) := zq_0 zo_42 zkX5_fines_0 22 rfl rfl
theorem dX5_fines_23 : decode cX5_fines 23 = .ok (.aload_n 1, 1) := zq_0 zo_43 zkX5_fines_0 23 rfl rfl
theorem dX5_fines_24 : decode cX5_fines 24 = .ok (.iload_n 3, 1) := zq_0 zo_29 zkX5_fines_0 24 rfl rfl
theorem dX5_fines_25 : decode cX5_fines 25 = .ok (.invokevirtual 160, 3) := zq_2 zo_182 zkX5_fines_0 25 rfl rfl 0 160 rfl rfl _ rfl
theorem dX5_fines_28 : decode cX5_fines 28 = .ok (.aload_n 1, 1) := zq_0 zo_43 zkX5_fines_0 28 rfl rfl
theorem dX5_fines_29 : decode cX5_fines 29 = .ok (.getfield 163, 3) := zq_2 zo_180 zkX5_fines_0 29 rfl rfl 0 163 rfl rfl _ rfl
theorem zkX5_fines_32 : zqc cX5_fines 32 [100, 184, 0, 154, 96, 61, 132, 3, 1, 167, 255, 219, 28, 172] := zq_of 14 (by decide +kernel)
theorem dX5_fines_32 : decode cX5_fines 32 = .ok (.isub, 1) := zq_0 zo_100 zkX5_fines_32 0 rfl rfl
theorem dX5_fines_33 : decode cX5_fines 33 = .ok (.invokestatic 154, 3) := zq_2 zo_184 zkX5_fines_32 1 rfl rfl 0 154 rfl rfl _ rfl
theorem dX5_fines_36 : decode cX5_fines 36 = .ok (.iadd, 1) := zq_0 zo_96 zkX5_fines_32 4 rfl rfl
theorem dX5_fines_37 : decode cX5_fines 37 = .ok (.istore_n 2, 1) := zq_0 zo_61 zkX5_fines_32 5 rfl rfl
theorem dX5_fines_38 : decode cX5_fines 38 = .ok (.iinc 3 1, 3) := zq_ii zo_132 zkX5_fines_32 6 rfl rfl 3 1 rfl rfl _ (by decide +kernel)
theorem dX5_fines_41 : decode cX5_fines 41 = .ok (.goto (-37), 3) := zq_2s zo_167 zkX5_fines_32 9 rfl rfl 255 219 rfl rfl _ (by decide +kernel)
theorem dX5_fines_44 : decode cX5_fines 44 = .ok (.iload_n 2, 1) := zq_0 zo_28 zkX5_fines_32 12 rfl rfl
theorem dX5_fines_45 : decode cX5_fines 45 = .ok (.ireturn, 1) := zq_0 zo_172 zkX5_fines_32 13 rfl rfl
theorem zkX5_gainOf_0 : zqc cX5_gainOf 0 [16, 10, 42, 180, 0, 18, 28, 46, 104, 43, 43, 180, 0, 166, 28, 46, 42, 180, 0, 77, 182, 0, 145, 100, 172] := zq_of 25 (by decide +kernel)
theorem dX5_gainOf_0 : decode cX5_gainOf 0 = .ok (.bipush 10, 2) := zq_1s zo_16 zkX5_gainOf_0 0 rfl rfl 10 rfl _ (by decide +kernel)
theorem dX5_gainOf_2 : decode cX5_gainOf 2 = .ok (.aload_n 0, 1) := zq_0 zo_42 zkX5_gainOf_0 2 rfl rfl
theorem dX5_gainOf_3 : decode cX5_gainOf 3 = .ok (.getfield 18, 3) := zq_2 zo_180 zkX5_gainOf_0 3 rfl rfl 0 18 rfl rfl _ rfl
theorem dX5_gainOf_6 : decode cX5_gainOf 6 = .ok (.iload_n 2, 1) := zq_0 zo_28 zkX5_gainOf_0 6 rfl rfl
theorem dX5_gainOf_7 : decode cX5_gainOf 7 = .ok (.iaload, 1) := zq_0 zo_46 zkX5_gainOf_0 7 rfl rfl
theorem dX5_gainOf_8 : decode cX5_gainOf 8 = .ok (.imul, 1) := zq_0 zo_104 zkX5_gainOf_0 8 rfl rfl
theorem dX5_gainOf_9 : decode cX5_gainOf 9 = .ok (.aload_n 1, 1) := zq_0 zo_43 zkX5_gainOf_0 9 rfl rfl
theorem dX5_gainOf_10 : decode cX5_gainOf 10 = .ok (.aload_n 1, 1) := zq_0 zo_43 zkX5_gainOf_0 10 rfl rfl
theorem dX5_gainOf_11 : decode cX5_gainOf 11 = .ok (.getfield 166, 3) := zq_2 zo_180 zkX5_gainOf_0 11 rfl rfl 0 166 rfl rfl _ rfl
theorem dX5_gainOf_14 : decode cX5_gainOf 14 = .ok (.iload_n 2, 1) := zq_0 zo_28 zkX5_gainOf_0 14 rfl rfl
theorem dX5_gainOf_15 : decode cX5_gainOf 15 = .ok (.iaload, 1) := zq_0 zo_46 zkX5_gainOf_0 15 rfl rfl
theorem dX5_gainOf_16 : decode cX5_gainOf 16 = .ok (.aload_n 0, 1) := zq_0 zo_42 zkX5_gainOf_0 16 rfl rfl
theorem dX5_gainOf_17 : decode cX5_gainOf 17 = .ok (.getfield 77, 3) := zq_2 zo_180 zkX5_gainOf_0 17 rfl rfl 0 77 rfl rfl _ rfl
theorem dX5_gainOf_20 : decode cX5_gainOf 20 = .ok (.invokevirtual 145, 3) := zq_2 zo_182 zkX5_gainOf_0 20 rfl rfl 0 145 rfl rfl _ rfl
theorem dX5_gainOf_23 : decode cX5_gainOf 23 = .ok (.isub, 1) := zq_0 zo_100 zkX5_gainOf_0 23 rfl rfl
theorem dX5_gainOf_24 : decode cX5_gainOf 24 = .ok (.ireturn, 1) := zq_0 zo_172 zkX5_gainOf_0 24 rfl rfl
theorem zkX5_richest_0 : zqc cX5_richest 0 [2, 61, 3, 62, 3, 54, 4, 21, 4, 43, 180, 0, 68, 162, 0, 31, 42, 180, 0, 18, 21, 4, 46, 29, 164, 0, 14, 21, 4, 61, 42, 180, 0, 18] := zq_of 34 (by decide +kernel)
theorem dX5_richest_0 : decode cX5_richest 0 = .ok (.iconst (-1), 1) := zq_0 zo_2 zkX5_richest_0 0 rfl rfl
theorem dX5_richest_1 : decode cX5_richest 1 = .ok (.istore_n 2, 1) := zq_0 zo_61 zkX5_richest_0 1 rfl rfl
theorem dX5_richest_2 : decode cX5_richest 2 = .ok (.iconst 0, 1) := zq_0 zo_3 zkX5_richest_0 2 rfl rfl
theorem dX5_richest_3 : decode cX5_richest 3 = .ok (.istore_n 3, 1) := zq_0 zo_62 zkX5_richest_0 3 rfl rfl
theorem dX5_richest_4 : decode cX5_richest 4 = .ok (.iconst 0, 1) := zq_0 zo_3 zkX5_richest_0 4 rfl rfl
theorem dX5_richest_5 : decode cX5_richest 5 = .ok (.istore 4, 2) := zq_1 zo_54 zkX5_richest_0 5 rfl rfl 4 rfl
theorem dX5_richest_7 : decode cX5_richest 7 = .ok (.iload 4, 2) := zq_1 zo_21 zkX5_richest_0 7 rfl rfl 4 rfl
theorem dX5_richest_9 : decode cX5_richest 9 = .ok (.aload_n 1, 1) := zq_0 zo_43 zkX5_richest_0 9 rfl rfl
theorem dX5_richest_10 : decode cX5_richest 10 = .ok (.getfield 68, 3) := zq_2 zo_180 zkX5_richest_0 10 rfl rfl 0 68 rfl rfl _ rfl
theorem dX5_richest_13 : decode cX5_richest 13 = .ok (.if_icmp .ge 31, 3) := zq_2s zo_162 zkX5_richest_0 13 rfl rfl 0 31 rfl rfl _ (by decide +kernel)
theorem dX5_richest_16 : decode cX5_richest 16 = .ok (.aload_n 0, 1) := zq_0 zo_42 zkX5_richest_0 16 rfl rfl
theorem dX5_richest_17 : decode cX5_richest 17 = .ok (.getfield 18, 3) := zq_2 zo_180 zkX5_richest_0 17 rfl rfl 0 18 rfl rfl _ rfl
theorem dX5_richest_20 : decode cX5_richest 20 = .ok (.iload 4, 2) := zq_1 zo_21 zkX5_richest_0 20 rfl rfl 4 rfl
theorem dX5_richest_22 : decode cX5_richest 22 = .ok (.iaload, 1) := zq_0 zo_46 zkX5_richest_0 22 rfl rfl
theorem dX5_richest_23 : decode cX5_richest 23 = .ok (.iload_n 3, 1) := zq_0 zo_29 zkX5_richest_0 23 rfl rfl
theorem dX5_richest_24 : decode cX5_richest 24 = .ok (.if_icmp .le 14, 3) := zq_2s zo_164 zkX5_richest_0 24 rfl rfl 0 14 rfl rfl _ (by decide +kernel)
theorem dX5_richest_27 : decode cX5_richest 27 = .ok (.iload 4, 2) := zq_1 zo_21 zkX5_richest_0 27 rfl rfl 4 rfl
theorem dX5_richest_29 : decode cX5_richest 29 = .ok (.istore_n 2, 1) := zq_0 zo_61 zkX5_richest_0 29 rfl rfl
theorem dX5_richest_30 : decode cX5_richest 30 = .ok (.aload_n 0, 1) := zq_0 zo_42 zkX5_richest_0 30 rfl rfl
theorem dX5_richest_31 : decode cX5_richest 31 = .ok (.getfield 18, 3) := zq_2 zo_180 zkX5_richest_0 31 rfl rfl 0 18 rfl rfl _ rfl
theorem zkX5_richest_32 : zqc cX5_richest 32 [0, 18, 21, 4, 46, 62, 132, 4, 1, 167, 255, 222, 28, 172] := zq_of 14 (by decide +kernel)
theorem dX5_richest_34 : decode cX5_richest 34 = .ok (.iload 4, 2) := zq_1 zo_21 zkX5_richest_32 2 rfl rfl 4 rfl
theorem dX5_richest_36 : decode cX5_richest 36 = .ok (.iaload, 1) := zq_0 zo_46 zkX5_richest_32 4 rfl rfl
theorem dX5_richest_37 : decode cX5_richest 37 = .ok (.istore_n 3, 1) := zq_0 zo_62 zkX5_richest_32 5 rfl rfl
theorem dX5_richest_38 : decode cX5_richest 38 = .ok (.iinc 4 1, 3) := zq_ii zo_132 zkX5_richest_32 6 rfl rfl 4 1 rfl rfl _ (by decide +kernel)
theorem dX5_richest_41 : decode cX5_richest 41 = .ok (.goto (-34), 3) := zq_2s zo_167 zkX5_richest_32 9 rfl rfl 255 222 rfl rfl _ (by decide +kernel)
theorem dX5_richest_44 : decode cX5_richest 44 = .ok (.iload_n 2, 1) := zq_0 zo_28 zkX5_richest_32 12 rfl rfl
theorem dX5_richest_45 : decode cX5_richest 45 = .ok (.ireturn, 1) := zq_0 zo_172 zkX5_richest_32 13 rfl rfl
theorem zkX5_remainsInAll_0 : zqc cX5_remainsInAll 0 [3, 61, 3, 62, 29, 43, 180, 0, 32, 162, 0, 18, 28, 42, 180, 0, 15, 29, 46, 96, 61, 132, 3, 1, 167, 255, 236, 28, 172] := zq_of 29 (by decide +kernel)
theorem dX5_remainsInAll_0 : decode cX5_remainsInAll 0 = .ok (.iconst 0, 1) := zq_0 zo_3 zkX5_remainsInAll_0 0 rfl rfl
theorem dX5_remainsInAll_1 : decode cX5_remainsInAll 1 = .ok (.istore_n 2, 1) := zq_0 zo_61 zkX5_remainsInAll_0 1 rfl rfl
theorem dX5_remainsInAll_2 : decode cX5_remainsInAll 2 = .ok (.iconst 0, 1) := zq_0 zo_3 zkX5_remainsInAll_0 2 rfl rfl
theorem dX5_remainsInAll_3 : decode cX5_remainsInAll 3 = .ok (.istore_n 3, 1) := zq_0 zo_62 zkX5_remainsInAll_0 3 rfl rfl
theorem dX5_remainsInAll_4 : decode cX5_remainsInAll 4 = .ok (.iload_n 3, 1) := zq_0 zo_29 zkX5_remainsInAll_0 4 rfl rfl
theorem dX5_remainsInAll_5 : decode cX5_remainsInAll 5 = .ok (.aload_n 1, 1) := zq_0 zo_43 zkX5_remainsInAll_0 5 rfl rfl
theorem dX5_remainsInAll_6 : decode cX5_remainsInAll 6 = .ok (.getfield 32, 3) := zq_2 zo_180 zkX5_remainsInAll_0 6 rfl rfl 0 32 rfl rfl _ rfl
theorem dX5_remainsInAll_9 : decode cX5_remainsInAll 9 = .ok (.if_icmp .ge 18, 3) := zq_2s zo_162 zkX5_remainsInAll_0 9 rfl rfl 0 18 rfl rfl _ (by decide +kernel)
theorem dX5_remainsInAll_12 : decode cX5_remainsInAll 12 = .ok (.iload_n 2, 1) := zq_0 zo_28 zkX5_remainsInAll_0 12 rfl rfl
theorem dX5_remainsInAll_13 : decode cX5_remainsInAll 13 = .ok (.aload_n 0, 1) := zq_0 zo_42 zkX5_remainsInAll_0 13 rfl rfl
theorem dX5_remainsInAll_14 : decode cX5_remainsInAll 14 = .ok (.getfield 15, 3) := zq_2 zo_180 zkX5_remainsInAll_0 14 rfl rfl 0 15 rfl rfl _ rfl
theorem dX5_remainsInAll_17 : decode cX5_remainsInAll 17 = .ok (.iload_n 3, 1) := zq_0 zo_29 zkX5_remainsInAll_0 17 rfl rfl
theorem dX5_remainsInAll_18 : decode cX5_remainsInAll 18 = .ok (.iaload, 1) := zq_0 zo_46 zkX5_remainsInAll_0 18 rfl rfl
theorem dX5_remainsInAll_19 : decode cX5_remainsInAll 19 = .ok (.iadd, 1) := zq_0 zo_96 zkX5_remainsInAll_0 19 rfl rfl
theorem dX5_remainsInAll_20 : decode cX5_remainsInAll 20 = .ok (.istore_n 2, 1) := zq_0 zo_61 zkX5_remainsInAll_0 20 rfl rfl
theorem dX5_remainsInAll_21 : decode cX5_remainsInAll 21 = .ok (.iinc 3 1, 3) := zq_ii zo_132 zkX5_remainsInAll_0 21 rfl rfl 3 1 rfl rfl _ (by decide +kernel)
theorem dX5_remainsInAll_24 : decode cX5_remainsInAll 24 = .ok (.goto (-20), 3) := zq_2s zo_167 zkX5_remainsInAll_0 24 rfl rfl 255 236 rfl rfl _ (by decide +kernel)
theorem dX5_remainsInAll_27 : decode cX5_remainsInAll 27 = .ok (.iload_n 2, 1) := zq_0 zo_28 zkX5_remainsInAll_0 27 rfl rfl
theorem dX5_remainsInAll_28 : decode cX5_remainsInAll 28 = .ok (.ireturn, 1) := zq_0 zo_172 zkX5_remainsInAll_0 28 rfl rfl
theorem zkX6_init_0 : zqc cX6_init 0 [42, 183, 0, 3, 42, 16, 16, 188, 10, 181, 0, 9, 42, 16, 16, 188, 10, 181, 0, 15, 42, 16, 16, 188, 10, 181, 0, 18, 42, 16, 17, 188, 10, 181] := zq_of 34 (by decide +kernel)
theorem dX6_init_0 : decode cX6_init 0 = .ok (.aload_n 0, 1) := zq_0 zo_42 zkX6_init_0 0 rfl rfl
theorem dX6_init_1 : decode cX6_init 1 = .ok (.invokespecial 3, 3) := zq_2 zo_183 zkX6_init_0 1 rfl rfl 0 3 rfl rfl _ rfl
theorem dX6_init_4 : decode cX6_init 4 = .ok (.aload_n 0, 1) := zq_0 zo_42 zkX6_init_0 4 rfl rfl
theorem dX6_init_5 : decode cX6_init 5 = .ok (.bipush 16, 2) := zq_1s zo_16 zkX6_init_0 5 rfl rfl 16 rfl _ (by decide +kernel)
theorem dX6_init_7 : decode cX6_init 7 = .ok (.newarray .int, 2) := by decide +kernel
theorem dX6_init_9 : decode cX6_init 9 = .ok (.putfield 9, 3) := zq_2 zo_181 zkX6_init_0 9 rfl rfl 0 9 rfl rfl _ rfl
theorem dX6_init_12 : decode cX6_init 12 = .ok (.aload_n 0, 1) := zq_0 zo_42 zkX6_init_0 12 rfl rfl
theorem dX6_init_13 : decode cX6_init 13 = .ok (.bipush 16, 2) := zq_1s zo_16 zkX6_init_0 13 rfl rfl 16 rfl _ (by decide +kernel)
theorem dX6_init_15 : decode cX6_init 15 = .ok (.newarray .int, 2) := by decide +kernel
theorem dX6_init_17 : decode cX6_init 17 = .ok (.putfield 15, 3) := zq_2 zo_181 zkX6_init_0 17 rfl rfl 0 15 rfl rfl _ rfl
theorem dX6_init_20 : decode cX6_init 20 = .ok (.aload_n 0, 1) := zq_0 zo_42 zkX6_init_0 20 rfl rfl
theorem dX6_init_21 : decode cX6_init 21 = .ok (.bipush 16, 2) := zq_1s zo_16 zkX6_init_0 21 rfl rfl 16 rfl _ (by decide +kernel)
theorem dX6_init_23 : decode cX6_init 23 = .ok (.newarray .int, 2) := by decide +kernel
theorem dX6_init_25 : decode cX6_init 25 = .ok (.putfield 18, 3) := zq_2 zo_181 zkX6_init_0 25 rfl rfl 0 18 rfl rfl _ rfl
theorem dX6_init_28 : decode cX6_init 28 = .ok (.aload_n 0, 1) := zq_0 zo_42 zkX6_init_0 28 rfl rfl
theorem dX6_init_29 : decode cX6_init 29 = .ok (.bipush 17, 2) := zq_1s zo_16 zkX6_init_0 29 rfl rfl 17 rfl _ (by decide +kernel)
theorem dX6_init_31 : decode cX6_init 31 = .ok (.newarray .int, 2) := by decide +kernel
theorem zkX6_init_32 : zqc cX6_init 32 [10, 181, 0, 21, 42, 16, 17, 188, 10, 181, 0, 24, 42, 16, 16, 188, 10, 181, 0, 27, 177] := zq_of 21 (by decide +kernel)
theorem dX6_init_33 : decode cX6_init 33 = .ok (.putfield 21, 3) := zq_2 zo_181 zkX6_init_32 1 rfl rfl 0 21 rfl rfl _ rfl
theorem dX6_init_36 : decode cX6_init 36 = .ok (.aload_n 0, 1) := zq_0 zo_42 zkX6_init_32 4 rfl rfl
theorem dX6_init_37 : decode cX6_init 37 = .ok (.bipush 17, 2) := zq_1s zo_16 zkX6_init_32 5 rfl rfl 17 rfl _ (by decide +kernel)
theorem dX6_init_39 : decode cX6_init 39 = .ok (.newarray .int, 2) := by decide +kernel
theorem dX6_init_41 : decode cX6_init 41 = .ok (.putfield 24, 3) := zq_2 zo_181 zkX6_init_32 9 rfl rfl 0 24 rfl rfl _ rfl
theorem dX6_init_44 : decode cX6_init 44 = .ok (.aload_n 0, 1) := zq_0 zo_42 zkX6_init_32 12 rfl rfl
theorem dX6_init_45 : decode cX6_init 45 = .ok (.bipush 16, 2) := zq_1s zo_16 zkX6_init_32 13 rfl rfl 16 rfl _ (by decide +kernel)
theorem dX6_init_47 : decode cX6_init 47 = .ok (.newarray .int, 2) := by decide +kernel
theorem dX6_init_49 : decode cX6_init 49 = .ok (.putfield 27, 3) := zq_2 zo_181 zkX6_init_32 17 rfl rfl 0 27 rfl rfl _ rfl
theorem dX6_init_52 : decode cX6_init 52 = .ok (.return_, 1) := zq_0 zo_177 zkX6_init_32 20 rfl rfl
theorem zkX6_clear_0 : zqc cX6_clear 0 [42, 3, 181, 0, 30, 177] := zq_of 6 (by decide +kernel)
theorem dX6_clear_0 : decode cX6_clear 0 = .ok (.aload_n 0, 1) := zq_0 zo_42 zkX6_clear_0 0 rfl rfl
theorem dX6_clear_1 : decode cX6_clear 1 = .ok (.iconst 0, 1) := zq_0 zo_3 zkX6_clear_0 1 rfl rfl
theorem dX6_clear_2 : decode cX6_clear 2 = .ok (.putfield 30, 3) := zq_2 zo_181 zkX6_clear_0 2 rfl rfl 0 30 rfl rfl _ rfl
theorem dX6_clear_5 : decode cX6_clear 5 = .ok (.return_, 1) := zq_0 zo_177 zkX6_clear_0 5 rfl rfl
theorem zkX6_add_0 : zqc cX6_add 0 [42, 180, 0, 30, 16, 16, 162, 0, 45, 42, 180, 0, 9, 42, 180, 0, 30, 4, 27, 120, 79, 42, 180, 0, 15, 42, 180, 0, 30, 28, 79, 42, 180, 0] := zq_of 34 (by decide +kernel)
theorem dX6_add_0 : decode cX6_add 0 = .ok (.aload_n 0, 1) := zq_0 zo_42 zkX6_add_0 0 rfl rfl
theorem dX6_add_1 : decode cX6_add 1 = .ok (.getfield 30, 3) := zq_2 zo_180 zkX6_add_0 1 rfl rfl 0 30 rfl rfl _ rfl
theorem dX6_add_4 : decode cX6_add 4 = .ok (.bipush 16, 2) := zq_1s zo_16 zkX6_add_0 4 rfl rfl 16 rfl _ (by decide +kernel)
theorem dX6_add_6 : decode cX6_add 6 = .ok (.if_icmp .ge 45, 3) := zq_2s zo_162 zkX6_add_0 6 rfl rfl 0 45 rfl rfl _ (by decide +kernel)
theorem dX6_add_9 : decode cX6_add 9 = .ok (.aload_n 0, 1) := zq_0 zo_42 zkX6_add_0 9 rfl rfl
theorem dX6_add_10 : decode cX6_add 10 = .ok (.getfield 9, 3) := zq_2 zo_180 zkX6_add_0 10 rfl rfl 0 9 rfl rfl _ rfl
theorem dX6_add_13 : decode cX6_add 13 = .ok (.aload_n 0, 1) := zq_0 zo_42 zkX6_add_0 13 rfl rfl
theorem dX6_add_14 : decode cX6_add 14 = .ok (.getfield 30, 3) := zq_2 zo_180 zkX6_add_0 14 rfl rfl 0 30 rfl rfl _ rfl
theorem dX6_add_17 : decode cX6_add 17 = .ok (.iconst 1, 1) := zq_0 zo_4 zkX6_add_0 17 rfl rfl
theorem dX6_add_18 : decode cX6_add 18 = .ok (.iload_n 1, 1) := zq_0 zo_27 zkX6_add_0 18 rfl rfl
theorem dX6_add_19 : decode cX6_add 19 = .ok (.ishl, 1) := zq_0 zo_120 zkX6_add_0 19 rfl rfl
theorem dX6_add_20 : decode cX6_add 20 = .ok (.iastore, 1) := zq_0 zo_79 zkX6_add_0 20 rfl rfl
theorem dX6_add_21 : decode cX6_add 21 = .ok (.aload_n 0, 1) := zq_0 zo_42 zkX6_add_0 21 rfl rfl
theorem dX6_add_22 : decode cX6_add 22 = .ok (.getfield 15, 3) := zq_2 zo_180 zkX6_add_0 22 rfl rfl 0 15 rfl rfl _ rfl
theorem dX6_add_25 : decode cX6_add 25 = .ok (.aload_n 0, 1) := zq_0 zo_42 zkX6_add_0 25 rfl rfl
theorem dX6_add_26 : decode cX6_add 26 = .ok (.getfield 30, 3) := zq_2 zo_180 zkX6_add_0 26 rfl rfl 0 30 rfl rfl _ rfl
theorem dX6_add_29 : decode cX6_add 29 = .ok (.iload_n 2, 1) := zq_0 zo_28 zkX6_add_0 29 rfl rfl
theorem dX6_add_30 : decode cX6_add 30 = .ok (.iastore, 1) := zq_0 zo_79 zkX6_add_0 30 rfl rfl
theorem dX6_add_31 : decode cX6_add 31 = .ok (.aload_n 0, 1) := zq_0 zo_42 zkX6_add_0 31 rfl rfl
theorem zkX6_add_32 : zqc cX6_add 32 [180, 0, 18, 42, 180, 0, 30, 29, 79, 42, 89, 180, 0, 30, 4, 96, 181, 0, 30, 177] := zq_of 20 (by decide +kernel)
theorem dX6_add_32 : decode cX6_add 32 = .ok (.getfield 18, 3) := zq_2 zo_180 zkX6_add_32 0 rfl rfl 0 18 rfl rfl _ rfl
theorem dX6_add_35 : decode cX6_add 35 = .ok (.aload_n 0, 1) := zq_0 zo_42 zkX6_add_32 3 rfl rfl
theorem dX6_add_36 : decode cX6_add 36 = .ok (.getfield 30, 3) := zq_2 zo_180 zkX6_add_32 4 rfl rfl 0 30 rfl rfl _ rfl
theorem dX6_add_39 : decode cX6_add 39 = .ok (.iload_n 3, 1) := zq_0 zo_29 zkX6_add_32 7 rfl rfl
theorem dX6_add_40 : decode cX6_add 40 = .ok (.iastore, 1) := zq_0 zo_79 zkX6_add_32 8 rfl rfl
theorem dX6_add_41 : decode cX6_add 41 = .ok (.aload_n 0, 1) := zq_0 zo_42 zkX6_add_32 9 rfl rfl
theorem dX6_add_42 : decode cX6_add 42 = .ok (.dup, 1) := zq_0 zo_89 zkX6_add_32 10 rfl rfl
theorem dX6_add_43 : decode cX6_add 43 = .ok (.getfield 30, 3) := zq_2 zo_180 zkX6_add_32 11 rfl rfl 0 30 rfl rfl _ rfl
theorem dX6_add_46 : decode cX6_add 46 = .ok (.iconst 1, 1) := zq_0 zo_4 zkX6_add_32 14 rfl rfl
theorem dX6_add_47 : decode cX6_add 47 = .ok (.iadd, 1) := zq_0 zo_96 zkX6_add_32 15 rfl rfl
theorem dX6_add_48 : decode cX6_add 48 = .ok (.putfield 30, 3) := zq_2 zo_181 zkX6_add_32 16 rfl rfl 0 30 rfl rfl _ rfl
theorem dX6_add_51 : decode cX6_add 51 = .ok (.return_, 1) := zq_0 zo_177 zkX6_add_32 19 rfl rfl
theorem zkX6_surePosts_0 : zqc cX6_surePosts 0 [42, 180, 0, 34, 154, 0, 7, 2, 167, 0, 7, 42, 180, 0, 37, 172] := zq_of 16 (by decide +kernel)
theorem dX6_surePosts_0 : decode cX6_surePosts 0 = .ok (.aload_n 0, 1) := zq_0 zo_42 zkX6_surePosts_0 0 rfl rfl
theorem dX6_surePosts_1 : decode cX6_surePosts 1 = .ok (.getfield 34, 3) := zq_2 zo_180 zkX6_surePosts_0 1 rfl rfl 0 34 rfl rfl _ rfl
theorem dX6_surePosts_4 : decode cX6_surePosts 4 = .ok (.ifCond .ne 7, 3) := zq_2s zo_154 zkX6_surePosts_0 4 rfl rfl 0 7 rfl rfl _ (by decide +kernel)
theorem dX6_surePosts_7 : decode cX6_surePosts 7 = .ok (.iconst (-1), 1) := zq_0 zo_2 zkX6_surePosts_0 7 rfl rfl
theorem dX6_surePosts_8 : decode cX6_surePosts 8 = .ok (.goto 7, 3) := zq_2s zo_167 zkX6_surePosts_0 8 rfl rfl 0 7 rfl rfl _ (by decide +kernel)
theorem dX6_surePosts_11 : decode cX6_surePosts 11 = .ok (.aload_n 0, 1) := zq_0 zo_42 zkX6_surePosts_0 11 rfl rfl
theorem dX6_surePosts_12 : decode cX6_surePosts 12 = .ok (.getfield 37, 3) := zq_2 zo_180 zkX6_surePosts_0 12 rfl rfl 0 37 rfl rfl _ rfl
theorem dX6_surePosts_15 : decode cX6_surePosts 15 = .ok (.ireturn, 1) := zq_0 zo_172 zkX6_surePosts_0 15 rfl rfl
theorem zkX6_find_0 : zqc cX6_find 0 [42, 3, 181, 0, 34, 42, 2, 181, 0, 37, 42, 3, 181, 0, 40, 42, 3, 181, 0, 43, 42, 180, 0, 21, 42, 180, 0, 30, 3, 79, 42, 180, 0, 24] := zq_of 34 (by decide +kernel)
theorem dX6_find_0 : decode cX6_find 0 = .ok (.aload_n 0, 1) := zq_0 zo_42 zkX6_find_0 0 rfl rfl
theorem dX6_find_1 : decode cX6_find 1 = .ok (.iconst 0, 1) := zq_0 zo_3 zkX6_find_0 1 rfl rfl
theorem dX6_find_2 : decode cX6_find 2 = .ok (.putfield 34, 3) := zq_2 zo_181 zkX6_find_0 2 rfl rfl 0 34 rfl rfl _ rfl
theorem dX6_find_5 : decode cX6_find 5 = .ok (.aload_n 0, 1) := zq_0 zo_42 zkX6_find_0 5 rfl rfl
theorem dX6_find_6 : decode cX6_find 6 = .ok (.iconst (-1), 1) := zq_0 zo_2 zkX6_find_0 6 rfl rfl
theorem dX6_find_7 : decode cX6_find 7 = .ok (.putfield 37, 3) := zq_2 zo_181 zkX6_find_0 7 rfl rfl 0 37 rfl rfl _ rfl
theorem dX6_find_10 : decode cX6_find 10 = .ok (.aload_n 0, 1) := zq_0 zo_42 zkX6_find_0 10 rfl rfl
theorem dX6_find_11 : decode cX6_find 11 = .ok (.iconst 0, 1) := zq_0 zo_3 zkX6_find_0 11 rfl rfl
theorem dX6_find_12 : decode cX6_find 12 = .ok (.putfield 40, 3) := zq_2 zo_181 zkX6_find_0 12 rfl rfl 0 40 rfl rfl _ rfl
theorem dX6_find_15 : decode cX6_find 15 = .ok (.aload_n 0, 1) := zq_0 zo_42 zkX6_find_0 15 rfl rfl
theorem dX6_find_16 : decode cX6_find 16 = .ok (.iconst 0, 1) := zq_0 zo_3 zkX6_find_0 16 rfl rfl
theorem dX6_find_17 : decode cX6_find 17 = .ok (.putfield 43, 3) := zq_2 zo_181 zkX6_find_0 17 rfl rfl 0 43 rfl rfl _ rfl
theorem dX6_find_20 : decode cX6_find 20 = .ok (.aload_n 0, 1) := zq_0 zo_42 zkX6_find_0 20 rfl rfl
theorem dX6_find_21 : decode cX6_find 21 = .ok (.getfield 21, 3) := zq_2 zo_180 zkX6_find_0 21 rfl rfl 0 21 rfl rfl _ rfl
theorem dX6_find_24 : decode cX6_find 24 = .ok (.aload_n 0, 1) := zq_0 zo_42 zkX6_find_0 24 rfl rfl
theorem dX6_find_25 : decode cX6_find 25 = .ok (.getfield 30, 3) := zq_2 zo_180 zkX6_find_0 25 rfl rfl 0 30 rfl rfl _ rfl
theorem dX6_find_28 : decode cX6_find 28 = .ok (.iconst 0, 1) := zq_0 zo_3 zkX6_find_0 28 rfl rfl
theorem dX6_find_29 : decode cX6_find 29 = .ok (.iastore, 1) := zq_0 zo_79 zkX6_find_0 29 rfl rfl
theorem dX6_find_30 : decode cX6_find 30 = .ok (.aload_n 0, 1) := zq_0 zo_42 zkX6_find_0 30 rfl rfl
theorem dX6_find_31 : decode cX6_find 31 = .ok (.getfield 24, 3) := zq_2 zo_180 zkX6_find_0 31 rfl rfl 0 24 rfl rfl _ rfl
theorem zkX6_find_32 : zqc cX6_find 32 [0, 24, 42, 180, 0, 30, 3, 79, 42, 180, 0, 30, 4, 100, 62, 29, 155, 0, 51, 42, 180, 0, 21, 29, 42, 180, 0, 21, 29, 4, 96, 46, 42, 180] := zq_of 34 (by decide +kernel)
theorem dX6_find_34 : decode cX6_find 34 = .ok (.aload_n 0, 1) := zq_0 zo_42 zkX6_find_32 2 rfl rfl
theorem dX6_find_35 : decode cX6_find 35 = .ok (.getfield 30, 3) := zq_2 zo_180 zkX6_find_32 3 rfl rfl 0 30 rfl rfl _ rfl
theorem dX6_find_38 : decode cX6_find 38 = .ok (.iconst 0, 1) := zq_0 zo_3 zkX6_find_32 6 rfl rfl
theorem dX6_find_39 : decode cX6_find 39 = .ok (.iastore, 1) := zq_0 zo_79 zkX6_find_32 7 rfl rfl
theorem dX6_find_40 : decode cX6_find 40 = .ok (.aload_n 0, 1) := zq_0 zo_42 zkX6_find_32 8 rfl rfl
theorem dX6_find_41 : decode cX6_find 41 = .ok (.getfield 30, 3) := zq_2 zo_180 zkX6_find_32 9 rfl rfl 0 30 rfl rfl _ rfl
theorem dX6_find_44 : decode cX6_find 44 = .ok (.iconst 1, 1) := zq_0 zo_4 zkX6_find_32 12 rfl rfl
theorem dX6_find_45 : decode cX6_find 45 = .ok (.isub, 1) := zq_0 zo_100 zkX6_find_32 13 rfl rfl
theorem dX6_find_46 : decode cX6_find 46 = .ok (.istore_n 3, 1) := zq_0 zo_62 zkX6_find_32 14 rfl rfl
theorem dX6_find_47 : decode cX6_find 47 = .ok (.iload_n 3, 1) := zq_0 zo_29 zkX6_find_32 15 rfl rfl
theorem dX6_find_48 : decode cX6_find 48 = .ok (.ifCond .lt 51, 3) := zq_2s zo_155 zkX6_find_32 16 rfl rfl 0 51 rfl rfl _ (by decide +kernel)
theorem dX6_find_51 : decode cX6_find 51 = .ok (.aload_n 0, 1) := zq_0 zo_42 zkX6_find_32 19 rfl rfl
theorem dX6_find_52 : decode cX6_find 52 = .ok (.getfield 21, 3) := zq_2 zo_180 zkX6_find_32 20 rfl rfl 0 21 rfl rfl _ rfl
theorem dX6_find_55 : decode cX6_find 55 = .ok (.iload_n 3, 1) := zq_0 zo_29 zkX6_find_32 23 rfl rfl
theorem dX6_find_56 : decode cX6_find 56 = .ok (.aload_n 0, 1) := zq_0 zo_42 zkX6_find_32 24 rfl rfl
theorem dX6_find_57 : decode cX6_find 57 = .ok (.getfield 21, 3) := zq_2 zo_180 zkX6_find_32 25 rfl rfl 0 21 rfl rfl _ rfl
theorem dX6_find_60 : decode cX6_find 60 = .ok (.iload_n 3, 1) := zq_0 zo_29 zkX6_find_32 28 rfl rfl
theorem dX6_find_61 : decode cX6_find 61 = .ok (.iconst 1, 1) := zq_0 zo_4 zkX6_find_32 29 rfl rfl
theorem dX6_find_62 : decode cX6_find 62 = .ok (.iadd, 1) := zq_0 zo_96 zkX6_find_32 30 rfl rfl
theorem dX6_find_63 : decode cX6_find 63 = .ok (.iaload, 1) := zq_0 zo_46 zkX6_find_32 31 rfl rfl
theorem zkX6_find_64 : zqc cX6_find 64 [42, 180, 0, 15, 29, 46, 96, 79, 42, 180, 0, 24, 29, 42, 180, 0, 24, 29, 4, 96, 46, 42, 180, 0, 18, 29, 46, 96, 79, 132, 3, 255, 167, 255] := zq_of 34 (by decide +kernel)
theorem dX6_find_64 : decode cX6_find 64 = .ok (.aload_n 0, 1) := zq_0 zo_42 zkX6_find_64 0 rfl rfl
theorem dX6_find_65 : decode cX6_find 65 = .ok (.getfield 15, 3) := zq_2 zo_180 zkX6_find_64 1 rfl rfl 0 15 rfl rfl _ rfl
theorem dX6_find_68 : decode cX6_find 68 = .ok (.iload_n 3, 1) := zq_0 zo_29 zkX6_find_64 4 rfl rfl
theorem dX6_find_69 : decode cX6_find 69 = .ok (.iaload, 1) := zq_0 zo_46 zkX6_find_64 5 rfl rfl
theorem dX6_find_70 : decode cX6_find 70 = .ok (.iadd, 1) := zq_0 zo_96 zkX6_find_64 6 rfl rfl
theorem dX6_find_71 : decode cX6_find 71 = .ok (.iastore, 1) := zq_0 zo_79 zkX6_find_64 7 rfl rfl
theorem dX6_find_72 : decode cX6_find 72 = .ok (.aload_n 0, 1) := zq_0 zo_42 zkX6_find_64 8 rfl rfl
theorem dX6_find_73 : decode cX6_find 73 = .ok (.getfield 24, 3) := zq_2 zo_180 zkX6_find_64 9 rfl rfl 0 24 rfl rfl _ rfl
theorem dX6_find_76 : decode cX6_find 76 = .ok (.iload_n 3, 1) := zq_0 zo_29 zkX6_find_64 12 rfl rfl
theorem dX6_find_77 : decode cX6_find 77 = .ok (.aload_n 0, 1) := zq_0 zo_42 zkX6_find_64 13 rfl rfl
theorem dX6_find_78 : decode cX6_find 78 = .ok (.getfield 24, 3) := zq_2 zo_180 zkX6_find_64 14 rfl rfl 0 24 rfl rfl _ rfl
theorem dX6_find_81 : decode cX6_find 81 = .ok (.iload_n 3, 1) := zq_0 zo_29 zkX6_find_64 17 rfl rfl
theorem dX6_find_82 : decode cX6_find 82 = .ok (.iconst 1, 1) := zq_0 zo_4 zkX6_find_64 18 rfl rfl
theorem dX6_find_83 : decode cX6_find 83 = .ok (.iadd, 1) := zq_0 zo_96 zkX6_find_64 19 rfl rfl
theorem dX6_find_84 : decode cX6_find 84 = .ok (.iaload, 1) := zq_0 zo_46 zkX6_find_64 20 rfl rfl
theorem dX6_find_85 : decode cX6_find 85 = .ok (.aload_n 0, 1) := zq_0 zo_42 zkX6_find_64 21 rfl rfl
theorem dX6_find_86 : decode cX6_find 86 = .ok (.getfield 18, 3) := zq_2 zo_180 zkX6_find_64 22 rfl rfl 0 18 rfl rfl _ rfl
theorem dX6_find_89 : decode cX6_find 89 = .ok (.iload_n 3, 1) := zq_0 zo_29 zkX6_find_64 25 rfl rfl
theorem dX6_find_90 : decode cX6_find 90 = .ok (.iaload, 1) := zq_0 zo_46 zkX6_find_64 26 rfl rfl
theorem dX6_find_91 : decode cX6_find 91 = .ok (.iadd, 1) := zq_0 zo_96 zkX6_find_64 27 rfl rfl
theorem dX6_find_92 : decode cX6_find 92 = .ok (.iastore, 1) := zq_0 zo_79 zkX6_find_64 28 rfl rfl
theorem dX6_find_93 : decode cX6_find 93 = .ok (.iinc 3 (-1), 3) := zq_ii zo_132 zkX6_find_64 29 rfl rfl 3 255 rfl rfl _ (by decide +kernel)
theorem zkX6_find_96 : zqc cX6_find 96 [167, 255, 207, 42, 3, 27, 28, 3, 184, 0, 46, 177] := zq_of 12 (by decide +kernel)
theorem dX6_find_96 : decode cX6_find 96 = .ok (.goto (-49), 3) := zq_2s zo_167 zkX6_find_96 0 rfl rfl 255 207 rfl rfl _ (by decide +kernel)
theorem dX6_find_99 : decode cX6_find 99 = .ok (.aload_n 0, 1) := zq_0 zo_42 zkX6_find_96 3 rfl rfl
theorem dX6_find_100 : decode cX6_find 100 = .ok (.iconst 0, 1) := zq_0 zo_3 zkX6_find_96 4 rfl rfl
theorem dX6_find_101 : decode cX6_find 101 = .ok (.iload_n 1, 1) := zq_0 zo_27 zkX6_find_96 5 rfl rfl
theorem dX6_find_102 : decode cX6_find 102 = .ok (.iload_n 2, 1) := zq_0 zo_28 zkX6_find_96 6 rfl rfl
theorem dX6_find_103 : decode cX6_find 103 = .ok (.iconst 0, 1) := zq_0 zo_3 zkX6_find_96 7 rfl rfl
theorem dX6_find_104 : decode cX6_find 104 = .ok (.invokestatic 46, 3) := zq_2 zo_184 zkX6_find_96 8 rfl rfl 0 46 rfl rfl _ rfl
theorem dX6_find_107 : decode cX6_find 107 = .ok (.return_, 1) := zq_0 zo_177 zkX6_find_96 11 rfl rfl
theorem zkX6_search_0 : zqc cX6_search 0 [27, 42, 180, 0, 30, 163, 0, 17, 27, 16, 16, 163, 0, 11, 28, 155, 0, 7, 29, 156, 0, 4, 177, 28, 42, 180, 0, 21, 27, 46, 163, 0, 13, 29] := zq_of 34 (by decide +kernel)
theorem dX6_search_0 : decode cX6_search 0 = .ok (.iload_n 1, 1) := zq_0 zo_27 zkX6_search_0 0 rfl rfl
theorem dX6_search_1 : decode cX6_search 1 = .ok (.aload_n 0, 1) := zq_0 zo_42 zkX6_search_0 1 rfl rfl
theorem dX6_search_2 : decode cX6_search 2 = .ok (.getfield 30, 3) := zq_2 zo_180 zkX6_search_0 2 rfl rfl 0 30 rfl rfl _ rfl
theorem dX6_search_5 : decode cX6_search 5 = .ok (.if_icmp .gt 17, 3) := zq_2s zo_163 zkX6_search_0 5 rfl rfl 0 17 rfl rfl _ (by decide +kernel)
theorem dX6_search_8 : decode cX6_search 8 = .ok (.iload_n 1, 1) := zq_0 zo_27 zkX6_search_0 8 rfl rfl
theorem dX6_search_9 : decode cX6_search 9 = .ok (.bipush 16, 2) := zq_1s zo_16 zkX6_search_0 9 rfl rfl 16 rfl _ (by decide +kernel)
theorem dX6_search_11 : decode cX6_search 11 = .ok (.if_icmp .gt 11, 3) := zq_2s zo_163 zkX6_search_0 11 rfl rfl 0 11 rfl rfl _ (by decide +kernel)
theorem dX6_search_14 : decode cX6_search 14 = .ok (.iload_n 2, 1) := zq_0 zo_28 zkX6_search_0 14 rfl rfl
theorem dX6_search_15 : decode cX6_search 15 = .ok (.ifCond .lt 7, 3) := zq_2s zo_155 zkX6_search_0 15 rfl rfl 0 7 rfl rfl _ (by decide +kernel)
theorem dX6_search_18 : decode cX6_search 18 = .ok (.iload_n 3, 1) := zq_0 zo_29 zkX6_search_0 18 rfl rfl
theorem dX6_search_19 : decode cX6_search 19 = .ok (.ifCond .ge 4, 3) := zq_2s zo_156 zkX6_search_0 19 rfl rfl 0 4 rfl rfl _ (by decide +kernel)
theorem dX6_search_22 : decode cX6_search 22 = .ok (.return_, 1) := zq_0 zo_177 zkX6_search_0 22 rfl rfl
theorem dX6_search_23 : decode cX6_search 23 = .ok (.iload_n 2, 1) := zq_0 zo_28 zkX6_search_0 23 rfl rfl
theorem dX6_search_24 : decode cX6_search 24 = .ok (.aload_n 0, 1) := zq_0 zo_42 zkX6_search_0 24 rfl rfl
theorem dX6_search_25 : decode cX6_search 25 = .ok (.getfield 21, 3) := zq_2 zo_180 zkX6_search_0 25 rfl rfl 0 21 rfl rfl _ rfl
theorem dX6_search_28 : decode cX6_search 28 = .ok (.iload_n 1, 1) := zq_0 zo_27 zkX6_search_0 28 rfl rfl
theorem dX6_search_29 : decode cX6_search 29 = .ok (.iaload, 1) := zq_0 zo_46 zkX6_search_0 29 rfl rfl
theorem dX6_search_30 : decode cX6_search 30 = .ok (.if_icmp .gt 13, 3) := zq_2s zo_163 zkX6_search_0 30 rfl rfl 0 13 rfl rfl _ (by decide +kernel)
theorem zkX6_search_32 : zqc cX6_search 32 [13, 29, 42, 180, 0, 24, 27, 46, 164, 0, 4, 177, 27, 42, 180, 0, 30, 160, 0, 10, 42, 21, 4, 182, 0, 50, 177, 42, 27, 4, 96, 28, 29, 21] := zq_of 34 (by decide +kernel)
theorem dX6_search_33 : decode cX6_search 33 = .ok (.iload_n 3, 1) := zq_0 zo_29 zkX6_search_32 1 rfl rfl
theorem dX6_search_34 : decode cX6_search 34 = .ok (.aload_n 0, 1) := zq_0 zo_42 zkX6_search_32 2 rfl rfl
theorem dX6_search_35 : decode cX6_search 35 = .ok (.getfield 24, 3) := zq_2 zo_180 zkX6_search_32 3 rfl rfl 0 24 rfl rfl _ rfl
theorem dX6_search_38 : decode cX6_search 38 = .ok (.iload_n 1, 1) := zq_0 zo_27 zkX6_search_32 6 rfl rfl
theorem dX6_search_39 : decode cX6_search 39 = .ok (.iaload, 1) := zq_0 zo_46 zkX6_search_32 7 rfl rfl
theorem dX6_search_40 : decode cX6_search 40 = .ok (.if_icmp .le 4, 3) := zq_2s zo_164 zkX6_search_32 8 rfl rfl 0 4 rfl rfl _ (by decide +kernel)
theorem dX6_search_43 : decode cX6_search 43 = .ok (.return_, 1) := zq_0 zo_177 zkX6_search_32 11 rfl rfl
theorem dX6_search_44 : decode cX6_search 44 = .ok (.iload_n 1, 1) := zq_0 zo_27 zkX6_search_32 12 rfl rfl
theorem dX6_search_45 : decode cX6_search 45 = .ok (.aload_n 0, 1) := zq_0 zo_42 zkX6_search_32 13 rfl rfl
theorem dX6_search_46 : decode cX6_search 46 = .ok (.getfield 30, 3) := zq_2 zo_180 zkX6_search_32 14 rfl rfl 0 30 rfl rfl _ rfl
theorem dX6_search_49 : decode cX6_search 49 = .ok (.if_icmp .ne 10, 3) := zq_2s zo_160 zkX6_search_32 17 rfl rfl 0 10 rfl rfl _ (by decide +kernel)
theorem dX6_search_52 : decode cX6_search 52 = .ok (.aload_n 0, 1) := zq_0 zo_42 zkX6_search_32 20 rfl rfl
theorem dX6_search_53 : decode cX6_search 53 = .ok (.iload 4, 2) := zq_1 zo_21 zkX6_search_32 21 rfl rfl 4 rfl
theorem dX6_search_55 : decode cX6_search 55 = .ok (.invokevirtual 50, 3) := zq_2 zo_182 zkX6_search_32 23 rfl rfl 0 50 rfl rfl _ rfl
theorem dX6_search_58 : decode cX6_search 58 = .ok (.return_, 1) := zq_0 zo_177 zkX6_search_32 26 rfl rfl
theorem dX6_search_59 : decode cX6_search 59 = .ok (.aload_n 0, 1) := zq_0 zo_42 zkX6_search_32 27 rfl rfl
theorem dX6_search_60 : decode cX6_search 60 = .ok (.iload_n 1, 1) := zq_0 zo_27 zkX6_search_32 28 rfl rfl
theorem dX6_search_61 : decode cX6_search 61 = .ok (.iconst 1, 1) := zq_0 zo_4 zkX6_search_32 29 rfl rfl
theorem dX6_search_62 : decode cX6_search 62 = .ok (.iadd, 1) := zq_0 zo_96 zkX6_search_32 30 rfl rfl
theorem dX6_search_63 : decode cX6_search 63 = .ok (.iload_n 2, 1) := zq_0 zo_28 zkX6_search_32 31 rfl rfl
theorem zkX6_search_64 : zqc cX6_search 64 [29, 21, 4, 184, 0, 46, 42, 27, 4, 96, 28, 42, 180, 0, 15, 27, 46, 100, 29, 42, 180, 0, 18, 27, 46, 100, 21, 4, 42, 180, 0, 9, 27, 46] := zq_of 34 (by decide +kernel)
theorem dX6_search_64 : decode cX6_search 64 = .ok (.iload_n 3, 1) := zq_0 zo_29 zkX6_search_64 0 rfl rfl
theorem dX6_search_65 : decode cX6_search 65 = .ok (.iload 4, 2) := zq_1 zo_21 zkX6_search_64 1 rfl rfl 4 rfl
theorem dX6_search_67 : decode cX6_search 67 = .ok (.invokestatic 46, 3) := zq_2 zo_184 zkX6_search_64 3 rfl rfl 0 46 rfl rfl _ rfl
theorem dX6_search_70 : decode cX6_search 70 = .ok (.aload_n 0, 1) := zq_0 zo_42 zkX6_search_64 6 rfl rfl
theorem dX6_search_71 : decode cX6_search 71 = .ok (.iload_n 1, 1) := zq_0 zo_27 zkX6_search_64 7 rfl rfl
theorem dX6_search_72 : decode cX6_search 72 = .ok (.iconst 1, 1) := zq_0 zo_4 zkX6_search_64 8 rfl rfl
theorem dX6_search_73 : decode cX6_search 73 = .ok (.iadd, 1) := zq_0 zo_96 zkX6_search_64 9 rfl rfl
theorem dX6_search_74 : decode cX6_search 74 = .ok (.iload_n 2, 1) := zq_0 zo_28 zkX6_search_64 10 rfl rfl
theorem dX6_search_75 : decode cX6_search 75 = .ok (.aload_n 0, 1) := zq_0 zo_42 zkX6_search_64 11 rfl rfl
theorem dX6_search_76 : decode cX6_search 76 = .ok (.getfield 15, 3) := zq_2 zo_180 zkX6_search_64 12 rfl rfl 0 15 rfl rfl _ rfl
theorem dX6_search_79 : decode cX6_search 79 = .ok (.iload_n 1, 1) := zq_0 zo_27 zkX6_search_64 15 rfl rfl
theorem dX6_search_80 : decode cX6_search 80 = .ok (.iaload, 1) := zq_0 zo_46 zkX6_search_64 16 rfl rfl
theorem dX6_search_81 : decode cX6_search 81 = .ok (.isub, 1) := zq_0 zo_100 zkX6_search_64 17 rfl rfl
theorem dX6_search_82 : decode cX6_search 82 = .ok (.iload_n 3, 1) := zq_0 zo_29 zkX6_search_64 18 rfl rfl
theorem dX6_search_83 : decode cX6_search 83 = .ok (.aload_n 0, 1) := zq_0 zo_42 zkX6_search_64 19 rfl rfl
theorem dX6_search_84 : decode cX6_search 84 = .ok (.getfield 18, 3) := zq_2 zo_180 zkX6_search_64 20 rfl rfl 0 18 rfl rfl _ rfl
theorem dX6_search_87 : decode cX6_search 87 = .ok (.iload_n 1, 1) := zq_0 zo_27 zkX6_search_64 23 rfl rfl
theorem dX6_search_88 : decode cX6_search 88 = .ok (.iaload, 1) := zq_0 zo_46 zkX6_search_64 24 rfl rfl
theorem dX6_search_89 : decode cX6_search 89 = .ok (.isub, 1) := zq_0 zo_100 zkX6_search_64 25 rfl rfl
theorem dX6_search_90 : decode cX6_search 90 = .ok (.iload 4, 2) := zq_1 zo_21 zkX6_search_64 26 rfl rfl 4 rfl
theorem dX6_search_92 : decode cX6_search 92 = .ok (.aload_n 0, 1) := zq_0 zo_42 zkX6_search_64 28 rfl rfl
theorem dX6_search_93 : decode cX6_search 93 = .ok (.getfield 9, 3) := zq_2 zo_180 zkX6_search_64 29 rfl rfl 0 9 rfl rfl _ rfl
theorem zkX6_search_96 : zqc cX6_search 96 [27, 46, 128, 184, 0, 46, 177] := zq_of 7 (by decide +kernel)
theorem dX6_search_96 : decode cX6_search 96 = .ok (.iload_n 1, 1) := zq_0 zo_27 zkX6_search_96 0 rfl rfl
theorem dX6_search_97 : decode cX6_search 97 = .ok (.iaload, 1) := zq_0 zo_46 zkX6_search_96 1 rfl rfl
theorem dX6_search_98 : decode cX6_search 98 = .ok (.ior, 1) := zq_0 zo_128 zkX6_search_96 2 rfl rfl
theorem dX6_search_99 : decode cX6_search 99 = .ok (.invokestatic 46, 3) := zq_2 zo_184 zkX6_search_96 3 rfl rfl 0 46 rfl rfl _ rfl
theorem dX6_search_102 : decode cX6_search 102 = .ok (.return_, 1) := zq_0 zo_177 zkX6_search_96 6 rfl rfl
theorem zkX6_keep_0 : zqc cX6_keep 0 [42, 89, 180, 0, 34, 4, 96, 181, 0, 34, 42, 89, 180, 0, 37, 27, 126, 181, 0, 37, 42, 89, 180, 0, 40, 27, 128, 181, 0, 40, 42, 42, 180, 0] := zq_of 34 (by decide +kernel)
theorem dX6_keep_0 : decode cX6_keep 0 = .ok (.aload_n 0, 1) := zq_0 zo_42 zkX6_keep_0 0 rfl rfl
theorem dX6_keep_1 : decode cX6_keep 1 = .ok (.dup, 1) := zq_0 zo_89 zkX6_keep_0 1 rfl rfl
theorem dX6_keep_2 : decode cX6_keep 2 = .ok (.getfield 34, 3) := zq_2 zo_180 zkX6_keep_0 2 rfl rfl 0 34 rfl rfl _ rfl
theorem dX6_keep_5 : decode cX6_keep 5 = .ok (.iconst 1, 1) := zq_0 zo_4 zkX6_keep_0 5 rfl rfl
theorem dX6_keep_6 : decode cX6_keep 6 = .ok (.iadd, 1) := zq_0 zo_96 zkX6_keep_0 6 rfl rfl
theorem dX6_keep_7 : decode cX6_keep 7 = .ok (.putfield 34, 3) := zq_2 zo_181 zkX6_keep_0 7 rfl rfl 0 34 rfl rfl _ rfl
theorem dX6_keep_10 : decode cX6_keep 10 = .ok (.aload_n 0, 1) := zq_0 zo_42 zkX6_keep_0 10 rfl rfl
theorem dX6_keep_11 : decode cX6_keep 11 = .ok (.dup, 1) := zq_0 zo_89 zkX6_keep_0 11 rfl rfl
theorem dX6_keep_12 : decode cX6_keep 12 = .ok (.getfield 37, 3) := zq_2 zo_180 zkX6_keep_0 12 rfl rfl 0 37 rfl rfl _ rfl
theorem dX6_keep_15 : decode cX6_keep 15 = .ok (.iload_n 1, 1) := zq_0 zo_27 zkX6_keep_0 15 rfl rfl
theorem dX6_keep_16 : decode cX6_keep 16 = .ok (.iand, 1) := zq_0 zo_126 zkX6_keep_0 16 rfl rfl
theorem dX6_keep_17 : decode cX6_keep 17 = .ok (.putfield 37, 3) := zq_2 zo_181 zkX6_keep_0 17 rfl rfl 0 37 rfl rfl _ rfl
theorem dX6_keep_20 : decode cX6_keep 20 = .ok (.aload_n 0, 1) := zq_0 zo_42 zkX6_keep_0 20 rfl rfl
theorem dX6_keep_21 : decode cX6_keep 21 = .ok (.dup, 1) := zq_0 zo_89 zkX6_keep_0 21 rfl rfl
theorem dX6_keep_22 : decode cX6_keep 22 = .ok (.getfield 40, 3) := zq_2 zo_180 zkX6_keep_0 22 rfl rfl 0 40 rfl rfl _ rfl
theorem dX6_keep_25 : decode cX6_keep 25 = .ok (.iload_n 1, 1) := zq_0 zo_27 zkX6_keep_0 25 rfl rfl
theorem dX6_keep_26 : decode cX6_keep 26 = .ok (.ior, 1) := zq_0 zo_128 zkX6_keep_0 26 rfl rfl
theorem dX6_keep_27 : decode cX6_keep 27 = .ok (.putfield 40, 3) := zq_2 zo_181 zkX6_keep_0 27 rfl rfl 0 40 rfl rfl _ rfl
theorem dX6_keep_30 : decode cX6_keep 30 = .ok (.aload_n 0, 1) := zq_0 zo_42 zkX6_keep_0 30 rfl rfl
theorem dX6_keep_31 : decode cX6_keep 31 = .ok (.aload_n 0, 1) := zq_0 zo_42 zkX6_keep_0 31 rfl rfl
theorem zkX6_keep_32 : zqc cX6_keep 32 [180, 0, 34, 4, 160, 0, 7, 27, 167, 0, 11, 42, 180, 0, 43, 27, 184, 0, 54, 181, 0, 43, 177] := zq_of 23 (by decide +kernel)
theorem dX6_keep_32 : decode cX6_keep 32 = .ok (.getfield 34, 3) := zq_2 zo_180 zkX6_keep_32 0 rfl rfl 0 34 rfl rfl _ rfl
theorem dX6_keep_35 : decode cX6_keep 35 = .ok (.iconst 1, 1) := zq_0 zo_4 zkX6_keep_32 3 rfl rfl
theorem dX6_keep_36 : decode cX6_keep 36 = .ok (.if_icmp .ne 7, 3) := zq_2s zo_160 zkX6_keep_32 4 rfl rfl 0 7 rfl rfl _ (by decide +kernel)
theorem dX6_keep_39 : decode cX6_keep 39 = .ok (.iload_n 1, 1) := zq_0 zo_27 zkX6_keep_32 7 rfl rfl
theorem dX6_keep_40 : decode cX6_keep 40 = .ok (.goto 11, 3) := zq_2s zo_167 zkX6_keep_32 8 rfl rfl 0 11 rfl rfl _ (by decide +kernel)
theorem dX6_keep_43 : decode cX6_keep 43 = .ok (.aload_n 0, 1) := zq_0 zo_42 zkX6_keep_32 11 rfl rfl
theorem dX6_keep_44 : decode cX6_keep 44 = .ok (.getfield 43, 3) := zq_2 zo_180 zkX6_keep_32 12 rfl rfl 0 43 rfl rfl _ rfl
theorem dX6_keep_47 : decode cX6_keep 47 = .ok (.iload_n 1, 1) := zq_0 zo_27 zkX6_keep_32 15 rfl rfl
theorem dX6_keep_48 : decode cX6_keep 48 = .ok (.invokestatic 54, 3) := zq_2 zo_184 zkX6_keep_32 16 rfl rfl 0 54 rfl rfl _ rfl
theorem dX6_keep_51 : decode cX6_keep 51 = .ok (.putfield 43, 3) := zq_2 zo_181 zkX6_keep_32 19 rfl rfl 0 43 rfl rfl _ rfl
theorem dX6_keep_54 : decode cX6_keep 54 = .ok (.return_, 1) := zq_0 zo_177 zkX6_keep_32 22 rfl rfl
theorem zkX6_findHolding_0 : zqc cX6_findHolding 0 [42, 43, 44, 182, 0, 60, 153, 0, 7, 4, 167, 0, 4, 3, 62, 3, 54, 4, 3, 54, 5, 3, 54, 6, 3, 54, 7, 42, 182, 0, 64, 3, 54, 8] := zq_of 34 (by decide +kernel)
theorem dX6_findHolding_0 : decode cX6_findHolding 0 = .ok (.aload_n 0, 1) := zq_0 zo_42 zkX6_findHolding_0 0 rfl rfl
theorem dX6_findHolding_1 : decode cX6_findHolding 1 = .ok (.aload_n 1, 1) := zq_0 zo_43 zkX6_findHolding_0 1 rfl rfl
theorem dX6_findHolding_2 : decode cX6_findHolding 2 = .ok (.aload_n 2, 1) := zq_0 zo_44 zkX6_findHolding_0 2 rfl rfl
theorem dX6_findHolding_3 : decode cX6_findHolding 3 = .ok (.invokevirtual 60, 3) := zq_2 zo_182 zkX6_findHolding_0 3 rfl rfl 0 60 rfl rfl _ rfl
theorem dX6_findHolding_6 : decode cX6_findHolding 6 = .ok (.ifCond .eq 7, 3) := zq_2s zo_153 zkX6_findHolding_0 6 rfl rfl 0 7 rfl rfl _ (by decide +kernel)
theorem dX6_findHolding_9 : decode cX6_findHolding 9 = .ok (.iconst 1, 1) := zq_0 zo_4 zkX6_findHolding_0 9 rfl rfl
theorem dX6_findHolding_10 : decode cX6_findHolding 10 = .ok (.goto 4, 3) := zq_2s zo_167 zkX6_findHolding_0 10 rfl rfl 0 4 rfl rfl _ (by decide +kernel)
theorem dX6_findHolding_13 : decode cX6_findHolding 13 = .ok (.iconst 0, 1) := zq_0 zo_3 zkX6_findHolding_0 13 rfl rfl
theorem dX6_findHolding_14 : decode cX6_findHolding 14 = .ok (.istore_n 3, 1) := zq_0 zo_62 zkX6_findHolding_0 14 rfl rfl
theorem dX6_findHolding_15 : decode cX6_findHolding 15 = .ok (.iconst 0, 1) := zq_0 zo_3 zkX6_findHolding_0 15 rfl rfl
theorem dX6_findHolding_16 : decode cX6_findHolding 16 = .ok (.istore 4, 2) := zq_1 zo_54 zkX6_findHolding_0 16 rfl rfl 4 rfl
theorem dX6_findHolding_18 : decode cX6_findHolding 18 = .ok (.iconst 0, 1) := zq_0 zo_3 zkX6_findHolding_0 18 rfl rfl
theorem dX6_findHolding_19 : decode cX6_findHolding 19 = .ok (.istore 5, 2) := zq_1 zo_54 zkX6_findHolding_0 19 rfl rfl 5 rfl
theorem dX6_findHolding_21 : decode cX6_findHolding 21 = .ok (.iconst 0, 1) := zq_0 zo_3 zkX6_findHolding_0 21 rfl rfl
theorem dX6_findHolding_22 : decode cX6_findHolding 22 = .ok (.istore 6, 2) := zq_1 zo_54 zkX6_findHolding_0 22 rfl rfl 6 rfl
theorem dX6_findHolding_24 : decode cX6_findHolding 24 = .ok (.iconst 0, 1) := zq_0 zo_3 zkX6_findHolding_0 24 rfl rfl
theorem dX6_findHolding_25 : decode cX6_findHolding 25 = .ok (.istore 7, 2) := zq_1 zo_54 zkX6_findHolding_0 25 rfl rfl 7 rfl
theorem dX6_findHolding_27 : decode cX6_findHolding 27 = .ok (.aload_n 0, 1) := zq_0 zo_42 zkX6_findHolding_0 27 rfl rfl
theorem dX6_findHolding_28 : decode cX6_findHolding 28 = .ok (.invokevirtual 64, 3) := zq_2 zo_182 zkX6_findHolding_0 28 rfl rfl 0 64 rfl rfl _ rfl
theorem dX6_findHolding_31 : decode cX6_findHolding 31 = .ok (.iconst 0, 1) := zq_0 zo_3 zkX6_findHolding_0 31 rfl rfl
theorem zkX6_findHolding_32 : zqc cX6_findHolding 32 [54, 8, 21, 8, 43, 180, 0, 67, 162, 0, 124, 29, 158, 0, 120, 42, 180, 0, 27, 21, 8, 46, 2, 159, 0, 79, 42, 3, 42, 180, 0, 27, 21, 8] := zq_of 34 (by decide +kernel)
theorem dX6_findHolding_32 : decode cX6_findHolding 32 = .ok (.istore 8, 2) := zq_1 zo_54 zkX6_findHolding_32 0 rfl rfl 8 rfl
theorem dX6_findHolding_34 : decode cX6_findHolding 34 = .ok (.iload 8, 2) := zq_1 zo_21 zkX6_findHolding_32 2 rfl rfl 8 rfl
theorem dX6_findHolding_36 : decode cX6_findHolding 36 = .ok (.aload_n 1, 1) := zq_0 zo_43 zkX6_findHolding_32 4 rfl rfl
theorem dX6_findHolding_37 : decode cX6_findHolding 37 = .ok (.getfield 67, 3) := zq_2 zo_180 zkX6_findHolding_32 5 rfl rfl 0 67 rfl rfl _ rfl
theorem dX6_findHolding_40 : decode cX6_findHolding 40 = .ok (.if_icmp .ge 124, 3) := zq_2s zo_162 zkX6_findHolding_32 8 rfl rfl 0 124 rfl rfl _ (by decide +kernel)
theorem dX6_findHolding_43 : decode cX6_findHolding 43 = .ok (.iload_n 3, 1) := zq_0 zo_29 zkX6_findHolding_32 11 rfl rfl
theorem dX6_findHolding_44 : decode cX6_findHolding 44 = .ok (.ifCond .le 120, 3) := zq_2s zo_158 zkX6_findHolding_32 12 rfl rfl 0 120 rfl rfl _ (by decide +kernel)
theorem dX6_findHolding_47 : decode cX6_findHolding 47 = .ok (.aload_n 0, 1) := zq_0 zo_42 zkX6_findHolding_32 15 rfl rfl
theorem dX6_findHolding_48 : decode cX6_findHolding 48 = .ok (.getfield 27, 3) := zq_2 zo_180 zkX6_findHolding_32 16 rfl rfl 0 27 rfl rfl _ rfl
theorem dX6_findHolding_51 : decode cX6_findHolding 51 = .ok (.iload 8, 2) := zq_1 zo_21 zkX6_findHolding_32 19 rfl rfl 8 rfl
theorem dX6_findHolding_53 : decode cX6_findHolding 53 = .ok (.iaload, 1) := zq_0 zo_46 zkX6_findHolding_32 21 rfl rfl
theorem dX6_findHolding_54 : decode cX6_findHolding 54 = .ok (.iconst (-1), 1) := zq_0 zo_2 zkX6_findHolding_32 22 rfl rfl
theorem dX6_findHolding_55 : decode cX6_findHolding 55 = .ok (.if_icmp .eq 79, 3) := zq_2s zo_159 zkX6_findHolding_32 23 rfl rfl 0 79 rfl rfl _ (by decide +kernel)
theorem dX6_findHolding_58 : decode cX6_findHolding 58 = .ok (.aload_n 0, 1) := zq_0 zo_42 zkX6_findHolding_32 26 rfl rfl
theorem dX6_findHolding_59 : decode cX6_findHolding 59 = .ok (.iconst 0, 1) := zq_0 zo_3 zkX6_findHolding_32 27 rfl rfl
theorem dX6_findHolding_60 : decode cX6_findHolding 60 = .ok (.aload_n 0, 1) := zq_0 zo_42 zkX6_findHolding_32 28 rfl rfl
theorem dX6_findHolding_61 : decode cX6_findHolding 61 = .ok (.getfield 27, 3) := zq_2 zo_180 zkX6_findHolding_32 29 rfl rfl 0 27 rfl rfl _ rfl
theorem zkX6_findHolding_64 : zqc cX6_findHolding 64 [21, 8, 46, 43, 21, 8, 182, 0, 72, 100, 21, 7, 100, 182, 0, 76, 29, 42, 180, 0, 34, 104, 62, 21, 4, 42, 180, 0, 37, 128, 54, 4, 21, 5] := zq_of 34 (by decide +kernel)
theorem dX6_findHolding_64 : decode cX6_findHolding 64 = .ok (.iload 8, 2) := zq_1 zo_21 zkX6_findHolding_64 0 rfl rfl 8 rfl
theorem dX6_findHolding_66 : decode cX6_findHolding 66 = .ok (.iaload, 1) := zq_0 zo_46 zkX6_findHolding_64 2 rfl rfl
theorem dX6_findHolding_67 : decode cX6_findHolding 67 = .ok (.aload_n 1, 1) := zq_0 zo_43 zkX6_findHolding_64 3 rfl rfl
theorem dX6_findHolding_68 : decode cX6_findHolding 68 = .ok (.iload 8, 2) := zq_1 zo_21 zkX6_findHolding_64 4 rfl rfl 8 rfl
theorem dX6_findHolding_70 : decode cX6_findHolding 70 = .ok (.invokevirtual 72, 3) := zq_2 zo_182 zkX6_findHolding_64 6 rfl rfl 0 72 rfl rfl _ rfl
theorem dX6_findHolding_73 : decode cX6_findHolding 73 = .ok (.isub, 1) := zq_0 zo_100 zkX6_findHolding_64 9 rfl rfl
theorem dX6_findHolding_74 : decode cX6_findHolding 74 = .ok (.iload 7, 2) := zq_1 zo_21 zkX6_findHolding_64 10 rfl rfl 7 rfl
theorem dX6_findHolding_76 : decode cX6_findHolding 76 = .ok (.isub, 1) := zq_0 zo_100 zkX6_findHolding_64 12 rfl rfl
theorem dX6_findHolding_77 : decode cX6_findHolding 77 = .ok (.invokevirtual 76, 3) := zq_2 zo_182 zkX6_findHolding_64 13 rfl rfl 0 76 rfl rfl _ rfl
theorem dX6_findHolding_80 : decode cX6_findHolding 80 = .ok (.iload_n 3, 1) := zq_0 zo_29 zkX6_findHolding_64 16 rfl rfl
theorem dX6_findHolding_81 : decode cX6_findHolding 81 = .ok (.aload_n 0, 1) := zq_0 zo_42 zkX6_findHolding_64 17 rfl rfl
theorem dX6_findHolding_82 : decode cX6_findHolding 82 = .ok (.getfield 34, 3) := zq_2 zo_180 zkX6_findHolding_64 18 rfl rfl 0 34 rfl rfl _ rfl
theorem dX6_findHolding_85 : decode cX6_findHolding 85 = .ok (.imul, 1) := zq_0 zo_104 zkX6_findHolding_64 21 rfl rfl
theorem dX6_findHolding_86 : decode cX6_findHolding 86 = .ok (.istore_n 3, 1) := zq_0 zo_62 zkX6_findHolding_64 22 rfl rfl
theorem dX6_findHolding_87 : decode cX6_findHolding 87 = .ok (.iload 4, 2) := zq_1 zo_21 zkX6_findHolding_64 23 rfl rfl 4 rfl
theorem dX6_findHolding_89 : decode cX6_findHolding 89 = .ok (.aload_n 0, 1) := zq_0 zo_42 zkX6_findHolding_64 25 rfl rfl
theorem dX6_findHolding_90 : decode cX6_findHolding 90 = .ok (.getfield 37, 3) := zq_2 zo_180 zkX6_findHolding_64 26 rfl rfl 0 37 rfl rfl _ rfl
theorem dX6_findHolding_93 : decode cX6_findHolding 93 = .ok (.ior, 1) := zq_0 zo_128 zkX6_findHolding_64 29 rfl rfl
theorem dX6_findHolding_94 : decode cX6_findHolding 94 = .ok (.istore 4, 2) := zq_1 zo_54 zkX6_findHolding_64 30 rfl rfl 4 rfl
theorem zkX6_findHolding_96 : zqc cX6_findHolding 96 [21, 5, 42, 180, 0, 40, 128, 54, 5, 21, 6, 42, 180, 0, 43, 128, 54, 6, 42, 180, 0, 27, 21, 8, 46, 43, 21, 8, 182, 0, 72, 100, 54, 7] := zq_of 34 (by decide +kernel)
theorem dX6_findHolding_96 : decode cX6_findHolding 96 = .ok (.iload 5, 2) := zq_1 zo_21 zkX6_findHolding_96 0 rfl rfl 5 rfl
theorem dX6_findHolding_98 : decode cX6_findHolding 98 = .ok (.aload_n 0, 1) := zq_0 zo_42 zkX6_findHolding_96 2 rfl rfl
theorem dX6_findHolding_99 : decode cX6_findHolding 99 = .ok (.getfield 40, 3) := zq_2 zo_180 zkX6_findHolding_96 3 rfl rfl 0 40 rfl rfl _ rfl
theorem dX6_findHolding_102 : decode cX6_findHolding 102 = .ok (.ior, 1) := zq_0 zo_128 zkX6_findHolding_96 6 rfl rfl
theorem dX6_findHolding_103 : decode cX6_findHolding 103 = .ok (.istore 5, 2) := zq_1 zo_54 zkX6_findHolding_96 7 rfl rfl 5 rfl
theorem dX6_findHolding_105 : decode cX6_findHolding 105 = .ok (.iload 6, 2) := zq_1 zo_21 zkX6_findHolding_96 9 rfl rfl 6 rfl
theorem dX6_findHolding_107 : decode cX6_findHolding 107 = .ok (.aload_n 0, 1) := zq_0 zo_42 zkX6_findHolding_96 11 rfl rfl
theorem dX6_findHolding_108 : decode cX6_findHolding 108 = .ok (.getfield 43, 3) := zq_2 zo_180 zkX6_findHolding_96 12 rfl rfl 0 43 rfl rfl _ rfl
theorem dX6_findHolding_111 : decode cX6_findHolding 111 = .ok (.ior, 1) := zq_0 zo_128 zkX6_findHolding_96 15 rfl rfl
theorem dX6_findHolding_112 : decode cX6_findHolding 112 = .ok (.istore 6, 2) := zq_1 zo_54 zkX6_findHolding_96 16 rfl rfl 6 rfl
theorem dX6_findHolding_114 : decode cX6_findHolding 114 = .ok (.aload_n 0, 1) := zq_0 zo_42 zkX6_findHolding_96 18 rfl rfl
theorem dX6_findHolding_115 : decode cX6_findHolding 115 = .ok (.getfield 27, 3) := zq_2 zo_180 zkX6_findHolding_96 19 rfl rfl 0 27 rfl rfl _ rfl
theorem dX6_findHolding_118 : decode cX6_findHolding 118 = .ok (.iload 8, 2) := zq_1 zo_21 zkX6_findHolding_96 22 rfl rfl 8 rfl
theorem dX6_findHolding_120 : decode cX6_findHolding 120 = .ok (.iaload, 1) := zq_0 zo_46 zkX6_findHolding_96 24 rfl rfl
theorem dX6_findHolding_121 : decode cX6_findHolding 121 = .ok (.aload_n 1, 1) := zq_0 zo_43 zkX6_findHolding_96 25 rfl rfl
theorem dX6_findHolding_122 : decode cX6_findHolding 122 = .ok (.iload 8, 2) := zq_1 zo_21 zkX6_findHolding_96 26 rfl rfl 8 rfl
theorem dX6_findHolding_124 : decode cX6_findHolding 124 = .ok (.invokevirtual 72, 3) := zq_2 zo_182 zkX6_findHolding_96 28 rfl rfl 0 72 rfl rfl _ rfl
theorem dX6_findHolding_127 : decode cX6_findHolding 127 = .ok (.isub, 1) := zq_0 zo_100 zkX6_findHolding_96 31 rfl rfl
theorem zkX6_findHolding_128 : zqc cX6_findHolding 128 [54, 7, 42, 182, 0, 64, 21, 8, 43, 180, 0, 67, 4, 100, 162, 0, 16, 42, 21, 8, 3, 43, 21, 8, 182, 0, 80, 182, 0, 83, 132, 8, 1, 167] := zq_of 34 (by decide +kernel)
theorem dX6_findHolding_128 : decode cX6_findHolding 128 = .ok (.istore 7, 2) := zq_1 zo_54 zkX6_findHolding_128 0 rfl rfl 7 rfl
theorem dX6_findHolding_130 : decode cX6_findHolding 130 = .ok (.aload_n 0, 1) := zq_0 zo_42 zkX6_findHolding_128 2 rfl rfl
theorem dX6_findHolding_131 : decode cX6_findHolding 131 = .ok (.invokevirtual 64, 3) := zq_2 zo_182 zkX6_findHolding_128 3 rfl rfl 0 64 rfl rfl _ rfl
theorem dX6_findHolding_134 : decode cX6_findHolding 134 = .ok (.iload 8, 2) := zq_1 zo_21 zkX6_findHolding_128 6 rfl rfl 8 rfl
theorem dX6_findHolding_136 : decode cX6_findHolding 136 = .ok (.aload_n 1, 1) := zq_0 zo_43 zkX6_findHolding_128 8 rfl rfl
theorem dX6_findHolding_137 : decode cX6_findHolding 137 = .ok (.getfield 67, 3) := zq_2 zo_180 zkX6_findHolding_128 9 rfl rfl 0 67 rfl rfl _ rfl
theorem dX6_findHolding_140 : decode cX6_findHolding 140 = .ok (.iconst 1, 1) := zq_0 zo_4 zkX6_findHolding_128 12 rfl rfl
theorem dX6_findHolding_141 : decode cX6_findHolding 141 = .ok (.isub, 1) := zq_0 zo_100 zkX6_findHolding_128 13 rfl rfl
theorem dX6_findHolding_142 : decode cX6_findHolding 142 = .ok (.if_icmp .ge 16, 3) := zq_2s zo_162 zkX6_findHolding_128 14 rfl rfl 0 16 rfl rfl _ (by decide +kernel)
theorem dX6_findHolding_145 : decode cX6_findHolding 145 = .ok (.aload_n 0, 1) := zq_0 zo_42 zkX6_findHolding_128 17 rfl rfl
theorem dX6_findHolding_146 : decode cX6_findHolding 146 = .ok (.iload 8, 2) := zq_1 zo_21 zkX6_findHolding_128 18 rfl rfl 8 rfl
theorem dX6_findHolding_148 : decode cX6_findHolding 148 = .ok (.iconst 0, 1) := zq_0 zo_3 zkX6_findHolding_128 20 rfl rfl
theorem dX6_findHolding_149 : decode cX6_findHolding 149 = .ok (.aload_n 1, 1) := zq_0 zo_43 zkX6_findHolding_128 21 rfl rfl
theorem dX6_findHolding_150 : decode cX6_findHolding 150 = .ok (.iload 8, 2) := zq_1 zo_21 zkX6_findHolding_128 22 rfl rfl 8 rfl
theorem dX6_findHolding_152 : decode cX6_findHolding 152 = .ok (.invokevirtual 80, 3) := zq_2 zo_182 zkX6_findHolding_128 24 rfl rfl 0 80 rfl rfl _ rfl
theorem dX6_findHolding_155 : decode cX6_findHolding 155 = .ok (.invokevirtual 83, 3) := zq_2 zo_182 zkX6_findHolding_128 27 rfl rfl 0 83 rfl rfl _ rfl
theorem dX6_findHolding_158 : decode cX6_findHolding 158 = .ok (.iinc 8 1, 3) := zq_ii zo_132 zkX6_findHolding_128 30 rfl rfl 8 1 rfl rfl _ (by decide +kernel)
theorem zkX6_findHolding_160 : zqc cX6_findHolding 160 [1, 167, 255, 129, 42, 29, 42, 180, 0, 30, 120, 181, 0, 34, 42, 21, 4, 181, 0, 37, 42, 29, 154, 0, 7, 3, 167, 0, 10, 21, 5, 42, 182, 0] := zq_of 34 (by decide +kernel)
theorem dX6_findHolding_161 : decode cX6_findHolding 161 = .ok (.goto (-127), 3) := zq_2s zo_167 zkX6_findHolding_160 1 rfl rfl 255 129 rfl rfl _ (by decide +kernel)
theorem dX6_findHolding_164 : decode cX6_findHolding 164 = .ok (.aload_n 0, 1) := zq_0 zo_42 zkX6_findHolding_160 4 rfl rfl
theorem dX6_findHolding_165 : decode cX6_findHolding 165 = .ok (.iload_n 3, 1) := zq_0 zo_29 zkX6_findHolding_160 5 rfl rfl
theorem dX6_findHolding_166 : decode cX6_findHolding 166 = .ok (.aload_n 0, 1) := zq_0 zo_42 zkX6_findHolding_160 6 rfl rfl
theorem dX6_findHolding_167 : decode cX6_findHolding 167 = .ok (.getfield 30, 3) := zq_2 zo_180 zkX6_findHolding_160 7 rfl rfl 0 30 rfl rfl _ rfl
theorem dX6_findHolding_170 : decode cX6_findHolding 170 = .ok (.ishl, 1) := zq_0 zo_120 zkX6_findHolding_160 10 rfl rfl
theorem dX6_findHolding_171 : decode cX6_findHolding 171 = .ok (.putfield 34, 3) := zq_2 zo_181 zkX6_findHolding_160 11 rfl rfl 0 34 rfl rfl _ rfl
theorem dX6_findHolding_174 : decode cX6_findHolding 174 = .ok (.aload_n 0, 1) := zq_0 zo_42 zkX6_findHolding_160 14 rfl rfl
theorem dX6_findHolding_175 : decode cX6_findHolding 175 = .ok (.iload 4, 2) := zq_1 zo_21 zkX6_findHolding_160 15 rfl rfl 4 rfl
theorem dX6_findHolding_177 : decode cX6_findHolding 177 = .ok (.putfield 37, 3) := zq_2 zo_181 zkX6_findHolding_160 17 rfl rfl 0 37 rfl rfl _ rfl
theorem dX6_findHolding_180 : decode cX6_findHolding 180 = .ok (.aload_n 0, 1) := zq_0 zo_42 zkX6_findHolding_160 20 rfl rfl
theorem dX6_findHolding_181 : decode cX6_findHolding 181 = .ok (.iload_n 3, 1) := zq_0 zo_29 zkX6_findHolding_160 21 rfl rfl
theorem dX6_findHolding_182 : decode cX6_findHolding 182 = .ok (.ifCond .ne 7, 3) := zq_2s zo_154 zkX6_findHolding_160 22 rfl rfl 0 7 rfl rfl _ (by decide +kernel)
theorem dX6_findHolding_185 : decode cX6_findHolding 185 = .ok (.iconst 0, 1) := zq_0 zo_3 zkX6_findHolding_160 25 rfl rfl
theorem dX6_findHolding_186 : decode cX6_findHolding 186 = .ok (.goto 10, 3) := zq_2s zo_167 zkX6_findHolding_160 26 rfl rfl 0 10 rfl rfl _ (by decide +kernel)
theorem dX6_findHolding_189 : decode cX6_findHolding 189 = .ok (.iload 5, 2) := zq_1 zo_21 zkX6_findHolding_160 29 rfl rfl 5 rfl
theorem dX6_findHolding_191 : decode cX6_findHolding 191 = .ok (.aload_n 0, 1) := zq_0 zo_42 zkX6_findHolding_160 31 rfl rfl
theorem zkX6_findHolding_192 : zqc cX6_findHolding 192 [182, 0, 87, 128, 181, 0, 40, 42, 21, 6, 181, 0, 43, 177] := zq_of 14 (by decide +kernel)
theorem dX6_findHolding_192 : decode cX6_findHolding 192 = .ok (.invokevirtual 87, 3) := zq_2 zo_182 zkX6_findHolding_192 0 rfl rfl 0 87 rfl rfl _ rfl
theorem dX6_findHolding_195 : decode cX6_findHolding 195 = .ok (.ior, 1) := zq_0 zo_128 zkX6_findHolding_192 3 rfl rfl
theorem dX6_findHolding_196 : decode cX6_findHolding 196 = .ok (.putfield 40, 3) := zq_2 zo_181 zkX6_findHolding_192 4 rfl rfl 0 40 rfl rfl _ rfl
theorem dX6_findHolding_199 : decode cX6_findHolding 199 = .ok (.aload_n 0, 1) := zq_0 zo_42 zkX6_findHolding_192 7 rfl rfl
theorem dX6_findHolding_200 : decode cX6_findHolding 200 = .ok (.iload 6, 2) := zq_1 zo_21 zkX6_findHolding_192 8 rfl rfl 6 rfl
theorem dX6_findHolding_202 : decode cX6_findHolding 202 = .ok (.putfield 43, 3) := zq_2 zo_181 zkX6_findHolding_192 10 rfl rfl 0 43 rfl rfl _ rfl
theorem dX6_findHolding_205 : decode cX6_findHolding 205 = .ok (.return_, 1) := zq_0 zo_177 zkX6_findHolding_192 13 rfl rfl
theorem zkX6_allBits_0 : zqc cX6_allBits 0 [3, 60, 3, 61, 28, 42, 180, 0, 30, 162, 0, 18, 27, 42, 180, 0, 9, 28, 46, 128, 60, 132, 2, 1, 167, 255, 236, 27, 172] := zq_of 29 (by decide +kernel)
theorem dX6_allBits_0 : decode cX6_allBits 0 = .ok (.iconst 0, 1) := zq_0 zo_3 zkX6_allBits_0 0 rfl rfl
theorem dX6_allBits_1 : decode cX6_allBits 1 = .ok (.istore_n 1, 1) := zq_0 zo_60 zkX6_allBits_0 1 rfl rfl
theorem dX6_allBits_2 : decode cX6_allBits 2 = .ok (.iconst 0, 1) := zq_0 zo_3 zkX6_allBits_0 2 rfl rfl
theorem dX6_allBits_3 : decode cX6_allBits 3 = .ok (.istore_n 2, 1) := zq_0 zo_61 zkX6_allBits_0 3 rfl rfl
theorem dX6_allBits_4 : decode cX6_allBits 4 = .ok (.iload_n 2, 1) := zq_0 zo_28 zkX6_allBits_0 4 rfl rfl
theorem dX6_allBits_5 : decode cX6_allBits 5 = .ok (.aload_n 0, 1) := zq_0 zo_42 zkX6_allBits_0 5 rfl rfl
theorem dX6_allBits_6 : decode cX6_allBits 6 = .ok (.getfield 30, 3) := zq_2 zo_180 zkX6_allBits_0 6 rfl rfl 0 30 rfl rfl _ rfl
theorem dX6_allBits_9 : decode cX6_allBits 9 = .ok (.if_icmp .ge 18, 3) := zq_2s zo_162 zkX6_allBits_0 9 rfl rfl 0 18 rfl rfl _ (by decide +kernel)
theorem dX6_allBits_12 : decode cX6_allBits 12 = .ok (.iload_n 1, 1) := zq_0 zo_27 zkX6_allBits_0 12 rfl rfl
theorem dX6_allBits_13 : decode cX6_allBits 13 = .ok (.aload_n 0, 1) := zq_0 zo_42 zkX6_allBits_0 13 rfl rfl
theorem dX6_allBits_14 : decode cX6_allBits 14 = .ok (.getfield 9, 3) := zq_2 zo_180 zkX6_allBits_0 14 rfl rfl 0 9 rfl rfl _ rfl
theorem dX6_allBits_17 : decode cX6_allBits 17 = .ok (.iload_n 2, 1) := zq_0 zo_28 zkX6_allBits_0 17 rfl rfl
theorem dX6_allBits_18 : decode cX6_allBits 18 = .ok (.iaload, 1) := zq_0 zo_46 zkX6_allBits_0 18 rfl rfl
theorem dX6_allBits_19 : decode cX6_allBits 19 = .ok (.ior, 1) := zq_0 zo_128 zkX6_allBits_0 19 rfl rfl
theorem dX6_allBits_20 : decode cX6_allBits 20 = .ok (.istore_n 1, 1) := zq_0 zo_60 zkX6_allBits_0 20 rfl rfl
theorem dX6_allBits_21 : decode cX6_allBits 21 = .ok (.iinc 2 1, 3) := zq_ii zo_132 zkX6_allBits_0 21 rfl rfl 2 1 rfl rfl _ (by decide +kernel)
theorem dX6_allBits_24 : decode cX6_allBits 24 = .ok (.goto (-20), 3) := zq_2s zo_167 zkX6_allBits_0 24 rfl rfl 255 236 rfl rfl _ (by decide +kernel)
theorem dX6_allBits_27 : decode cX6_allBits 27 = .ok (.iload_n 1, 1) := zq_0 zo_27 zkX6_allBits_0 27 rfl rfl
theorem dX6_allBits_28 : decode cX6_allBits 28 = .ok (.ireturn, 1) := zq_0 zo_172 zkX6_allBits_0 28 rfl rfl
theorem zkX6_fillDues_0 : zqc cX6_fillDues 0 [3, 62, 29, 16, 16, 162, 0, 16, 42, 180, 0, 27, 29, 2, 79, 132, 3, 1, 167, 255, 240, 3, 62, 29, 44, 180, 0, 91, 162, 0, 70, 44, 180, 0] := zq_of 34 (by decide +kernel)
theorem dX6_fillDues_0 : decode cX6_fillDues 0 = .ok (.iconst 0, 1) := zq_0 zo_3 zkX6_fillDues_0 0 rfl rfl
theorem dX6_fillDues_1 : decode cX6_fillDues 1 = .ok (.istore_n 3, 1) := zq_0 zo_62 zkX6_fillDues_0 1 rfl rfl
theorem dX6_fillDues_2 : decode cX6_fillDues 2 = .ok (.iload_n 3, 1) := zq_0 zo_29 zkX6_fillDues_0 2 rfl rfl
theorem dX6_fillDues_3 : decode cX6_fillDues 3 = .ok (.bipush 16, 2) := zq_1s zo_16 zkX6_fillDues_0 3 rfl rfl 16 rfl _ (by decide +kernel)
theorem dX6_fillDues_5 : decode cX6_fillDues 5 = .ok (.if_icmp .ge 16, 3) := zq_2s zo_162 zkX6_fillDues_0 5 rfl rfl 0 16 rfl rfl _ (by decide +kernel)
theorem dX6_fillDues_8 : decode cX6_fillDues 8 = .ok (.aload_n 0, 1) := zq_0 zo_42 zkX6_fillDues_0 8 rfl rfl
theorem dX6_fillDues_9 : decode cX6_fillDues 9 = .ok (.getfield 27, 3) := zq_2 zo_180 zkX6_fillDues_0 9 rfl rfl 0 27 rfl rfl _ rfl
theorem dX6_fillDues_12 : decode cX6_fillDues 12 = .ok (.iload_n 3, 1) := zq_0 zo_29 zkX6_fillDues_0 12 rfl rfl
theorem dX6_fillDues_13 : decode cX6_fillDues 13 = .ok (.iconst (-1), 1) := zq_0 zo_2 zkX6_fillDues_0 13 rfl rfl
theorem dX6_fillDues_14 : decode cX6_fillDues 14 = .ok (.iastore, 1) := zq_0 zo_79 zkX6_fillDues_0 14 rfl rfl
theorem dX6_fillDues_15 : decode cX6_fillDues 15 = .ok (.iinc 3 1, 3) := zq_ii zo_132 zkX6_fillDues_0 15 rfl rfl 3 1 rfl rfl _ (by decide +kernel)
theorem dX6_fillDues_18 : decode cX6_fillDues 18 = .ok (.goto (-16), 3) := zq_2s zo_167 zkX6_fillDues_0 18 rfl rfl 255 240 rfl rfl _ (by decide +kernel)
theorem dX6_fillDues_21 : decode cX6_fillDues 21 = .ok (.iconst 0, 1) := zq_0 zo_3 zkX6_fillDues_0 21 rfl rfl
theorem dX6_fillDues_22 : decode cX6_fillDues 22 = .ok (.istore_n 3, 1) := zq_0 zo_62 zkX6_fillDues_0 22 rfl rfl
theorem dX6_fillDues_23 : decode cX6_fillDues 23 = .ok (.iload_n 3, 1) := zq_0 zo_29 zkX6_fillDues_0 23 rfl rfl
theorem dX6_fillDues_24 : decode cX6_fillDues 24 = .ok (.aload_n 2, 1) := zq_0 zo_44 zkX6_fillDues_0 24 rfl rfl
theorem dX6_fillDues_25 : decode cX6_fillDues 25 = .ok (.getfield 91, 3) := zq_2 zo_180 zkX6_fillDues_0 25 rfl rfl 0 91 rfl rfl _ rfl
theorem dX6_fillDues_28 : decode cX6_fillDues 28 = .ok (.if_icmp .ge 70, 3) := zq_2s zo_162 zkX6_fillDues_0 28 rfl rfl 0 70 rfl rfl _ (by decide +kernel)
theorem dX6_fillDues_31 : decode cX6_fillDues 31 = .ok (.aload_n 2, 1) := zq_0 zo_44 zkX6_fillDues_0 31 rfl rfl
theorem zkX6_fillDues_32 : zqc cX6_fillDues 32 [180, 0, 94, 29, 46, 54, 4, 43, 21, 4, 182, 0, 96, 154, 0, 5, 3, 172, 42, 180, 0, 27, 21, 4, 46, 2, 159, 0, 21, 42, 180, 0, 27, 21] := zq_of 34 (by decide +kernel)
theorem dX6_fillDues_32 : decode cX6_fillDues 32 = .ok (.getfield 94, 3) := zq_2 zo_180 zkX6_fillDues_32 0 rfl rfl 0 94 rfl rfl _ rfl
theorem dX6_fillDues_35 : decode cX6_fillDues 35 = .ok (.iload_n 3, 1) := zq_0 zo_29 zkX6_fillDues_32 3 rfl rfl
theorem dX6_fillDues_36 : decode cX6_fillDues 36 = .ok (.iaload, 1) := zq_0 zo_46 zkX6_fillDues_32 4 rfl rfl
theorem dX6_fillDues_37 : decode cX6_fillDues 37 = .ok (.istore 4, 2) := zq_1 zo_54 zkX6_fillDues_32 5 rfl rfl 4 rfl
theorem dX6_fillDues_39 : decode cX6_fillDues 39 = .ok (.aload_n 1, 1) := zq_0 zo_43 zkX6_fillDues_32 7 rfl rfl
theorem dX6_fillDues_40 : decode cX6_fillDues 40 = .ok (.iload 4, 2) := zq_1 zo_21 zkX6_fillDues_32 8 rfl rfl 4 rfl
theorem dX6_fillDues_42 : decode cX6_fillDues 42 = .ok (.invokevirtual 96, 3) := zq_2 zo_182 zkX6_fillDues_32 10 rfl rfl 0 96 rfl rfl _ rfl
theorem dX6_fillDues_45 : decode cX6_fillDues 45 = .ok (.ifCond .ne 5, 3) := zq_2s zo_154 zkX6_fillDues_32 13 rfl rfl 0 5 rfl rfl _ (by decide +kernel)
theorem dX6_fillDues_48 : decode cX6_fillDues 48 = .ok (.iconst 0, 1) := zq_0 zo_3 zkX6_fillDues_32 16 rfl rfl
theorem dX6_fillDues_49 : decode cX6_fillDues 49 = .ok (.ireturn, 1) := zq_0 zo_172 zkX6_fillDues_32 17 rfl rfl
theorem dX6_fillDues_50 : decode cX6_fillDues 50 = .ok (.aload_n 0, 1) := zq_0 zo_42 zkX6_fillDues_32 18 rfl rfl
theorem dX6_fillDues_51 : decode cX6_fillDues 51 = .ok (.getfield 27, 3) := zq_2 zo_180 zkX6_fillDues_32 19 rfl rfl 0 27 rfl rfl _ rfl
theorem dX6_fillDues_54 : decode cX6_fillDues 54 = .ok (.iload 4, 2) := zq_1 zo_21 zkX6_fillDues_32 22 rfl rfl 4 rfl
theorem dX6_fillDues_56 : decode cX6_fillDues 56 = .ok (.iaload, 1) := zq_0 zo_46 zkX6_fillDues_32 24 rfl rfl
theorem dX6_fillDues_57 : decode cX6_fillDues 57 = .ok (.iconst (-1), 1) := zq_0 zo_2 zkX6_fillDues_32 25 rfl rfl
theorem dX6_fillDues_58 : decode cX6_fillDues 58 = .ok (.if_icmp .eq 21, 3) := zq_2s zo_159 zkX6_fillDues_32 26 rfl rfl 0 21 rfl rfl _ (by decide +kernel)
theorem dX6_fillDues_61 : decode cX6_fillDues 61 = .ok (.aload_n 0, 1) := zq_0 zo_42 zkX6_fillDues_32 29 rfl rfl
theorem dX6_fillDues_62 : decode cX6_fillDues 62 = .ok (.getfield 27, 3) := zq_2 zo_180 zkX6_fillDues_32 30 rfl rfl 0 27 rfl rfl _ rfl
theorem zkX6_fillDues_64 : zqc cX6_fillDues 64 [27, 21, 4, 46, 44, 180, 0, 100, 29, 46, 159, 0, 5, 3, 172, 42, 180, 0, 27, 21, 4, 44, 180, 0, 100, 29, 46, 79, 132, 3, 1, 167, 255, 184] := zq_of 34 (by decide +kernel)
theorem dX6_fillDues_65 : decode cX6_fillDues 65 = .ok (.iload 4, 2) := zq_1 zo_21 zkX6_fillDues_64 1 rfl rfl 4 rfl
theorem dX6_fillDues_67 : decode cX6_fillDues 67 = .ok (.iaload, 1) := zq_0 zo_46 zkX6_fillDues_64 3 rfl rfl
theorem dX6_fillDues_68 : decode cX6_fillDues 68 = .ok (.aload_n 2, 1) := zq_0 zo_44 zkX6_fillDues_64 4 rfl rfl
theorem dX6_fillDues_69 : decode cX6_fillDues 69 = .ok (.getfield 100, 3) := zq_2 zo_180 zkX6_fillDues_64 5 rfl rfl 0 100 rfl rfl _ rfl
theorem dX6_fillDues_72 : decode cX6_fillDues 72 = .ok (.iload_n 3, 1) := zq_0 zo_29 zkX6_fillDues_64 8 rfl rfl
theorem dX6_fillDues_73 : decode cX6_fillDues 73 = .ok (.iaload, 1) := zq_0 zo_46 zkX6_fillDues_64 9 rfl rfl
theorem dX6_fillDues_74 : decode cX6_fillDues 74 = .ok (.if_icmp .eq 5, 3) := zq_2s zo_159 zkX6_fillDues_64 10 rfl rfl 0 5 rfl rfl _ (by decide +kernel)
theorem dX6_fillDues_77 : decode cX6_fillDues 77 = .ok (.iconst 0, 1) := zq_0 zo_3 zkX6_fillDues_64 13 rfl rfl
theorem dX6_fillDues_78 : decode cX6_fillDues 78 = .ok (.ireturn, 1) := zq_0 zo_172 zkX6_fillDues_64 14 rfl rfl
theorem dX6_fillDues_79 : decode cX6_fillDues 79 = .ok (.aload_n 0, 1) := zq_0 zo_42 zkX6_fillDues_64 15 rfl rfl
theorem dX6_fillDues_80 : decode cX6_fillDues 80 = .ok (.getfield 27, 3) := zq_2 zo_180 zkX6_fillDues_64 16 rfl rfl 0 27 rfl rfl _ rfl
theorem dX6_fillDues_83 : decode cX6_fillDues 83 = .ok (.iload 4, 2) := zq_1 zo_21 zkX6_fillDues_64 19 rfl rfl 4 rfl
theorem dX6_fillDues_85 : decode cX6_fillDues 85 = .ok (.aload_n 2, 1) := zq_0 zo_44 zkX6_fillDues_64 21 rfl rfl
theorem dX6_fillDues_86 : decode cX6_fillDues 86 = .ok (.getfield 100, 3) := zq_2 zo_180 zkX6_fillDues_64 22 rfl rfl 0 100 rfl rfl _ rfl
theorem dX6_fillDues_89 : decode cX6_fillDues 89 = .ok (.iload_n 3, 1) := zq_0 zo_29 zkX6_fillDues_64 25 rfl rfl
theorem dX6_fillDues_90 : decode cX6_fillDues 90 = .ok (.iaload, 1) := zq_0 zo_46 zkX6_fillDues_64 26 rfl rfl
theorem dX6_fillDues_91 : decode cX6_fillDues 91 = .ok (.iastore, 1) := zq_0 zo_79 zkX6_fillDues_64 27 rfl rfl
theorem dX6_fillDues_92 : decode cX6_fillDues 92 = .ok (.iinc 3 1, 3) := zq_ii zo_132 zkX6_fillDues_64 28 rfl rfl 3 1 rfl rfl _ (by decide +kernel)
theorem dX6_fillDues_95 : decode cX6_fillDues 95 = .ok (.goto (-72), 3) := zq_2s zo_167 zkX6_fillDues_64 31 rfl rfl 255 184 rfl rfl _ (by decide +kernel)
theorem zkX6_fillDues_96 : zqc cX6_fillDues 96 [255, 184, 4, 172] := zq_of 4 (by decide +kernel)
theorem dX6_fillDues_98 : decode cX6_fillDues 98 = .ok (.iconst 1, 1) := zq_0 zo_4 zkX6_fillDues_96 2 rfl rfl
theorem dX6_fillDues_99 : decode cX6_fillDues 99 = .ok (.ireturn, 1) := zq_0 zo_172 zkX6_fillDues_96 3 rfl rfl
theorem zkX7_init_0 : zqc cX7_init 0 [42, 183, 0, 3, 42, 17, 4, 102, 188, 11, 181, 0, 9, 177] := zq_of 14 (by decide +kernel)
theorem dX7_init_0 : decode cX7_init 0 = .ok (.aload_n 0, 1) := zq_0 zo_42 zkX7_init_0 0 rfl rfl
theorem dX7_init_1 : decode cX7_init 1 = .ok (.invokespecial 3, 3) := zq_2 zo_183 zkX7_init_0 1 rfl rfl 0 3 rfl rfl _ rfl
theorem dX7_init_4 : decode cX7_init 4 = .ok (.aload_n 0, 1) := zq_0 zo_42 zkX7_init_0 4 rfl rfl
theorem dX7_init_5 : decode cX7_init 5 = .ok (.sipush 1126, 3) := zq_2s zo_17 zkX7_init_0 5 rfl rfl 4 102 rfl rfl _ (by decide +kernel)
theorem dX7_init_8 : decode cX7_init 8 = .ok (.newarray .long, 2) := by decide +kernel
theorem dX7_init_10 : decode cX7_init 10 = .ok (.putfield 9, 3) := zq_2 zo_181 zkX7_init_0 10 rfl rfl 0 9 rfl rfl _ rfl
theorem dX7_init_13 : decode cX7_init 13 = .ok (.return_, 1) := zq_0 zo_177 zkX7_init_0 13 rfl rfl
theorem zkX7_overPosts_0 : zqc cX7_overPosts 0 [42, 3, 181, 0, 15, 42, 10, 181, 0, 19, 42, 180, 0, 9, 3, 10, 80, 3, 62, 29, 28, 162, 0, 30, 29, 16, 15, 162, 0, 24, 42, 43, 29, 182] := zq_of 34 (by decide +kernel)
theorem dX7_overPosts_0 : decode cX7_overPosts 0 = .ok (.aload_n 0, 1) := zq_0 zo_42 zkX7_overPosts_0 0 rfl rfl
theorem dX7_overPosts_1 : decode cX7_overPosts 1 = .ok (.iconst 0, 1) := zq_0 zo_3 zkX7_overPosts_0 1 rfl rfl
theorem dX7_overPosts_2 : decode cX7_overPosts 2 = .ok (.putfield 15, 3) := zq_2 zo_181 zkX7_overPosts_0 2 rfl rfl 0 15 rfl rfl _ rfl
theorem dX7_overPosts_5 : decode cX7_overPosts 5 = .ok (.aload_n 0, 1) := zq_0 zo_42 zkX7_overPosts_0 5 rfl rfl
theorem dX7_overPosts_6 : decode cX7_overPosts 6 = .ok (.lconst 1, 1) := zq_0 zo_10 zkX7_overPosts_0 6 rfl rfl
theorem dX7_overPosts_7 : decode cX7_overPosts 7 = .ok (.putfield 19, 3) := zq_2 zo_181 zkX7_overPosts_0 7 rfl rfl 0 19 rfl rfl _ rfl
theorem dX7_overPosts_10 : decode cX7_overPosts 10 = .ok (.aload_n 0, 1) := zq_0 zo_42 zkX7_overPosts_0 10 rfl rfl
theorem dX7_overPosts_11 : decode cX7_overPosts 11 = .ok (.getfield 9, 3) := zq_2 zo_180 zkX7_overPosts_0 11 rfl rfl 0 9 rfl rfl _ rfl
theorem dX7_overPosts_14 : decode cX7_overPosts 14 = .ok (.iconst 0, 1) := zq_0 zo_3 zkX7_overPosts_0 14 rfl rfl
theorem dX7_overPosts_15 : decode cX7_overPosts 15 = .ok (.lconst 1, 1) := zq_0 zo_10 zkX7_overPosts_0 15 rfl rfl
theorem dX7_overPosts_16 : decode cX7_overPosts 16 = .ok (.lastore, 1) := zq_0 zo_80 zkX7_overPosts_0 16 rfl rfl
theorem dX7_overPosts_17 : decode cX7_overPosts 17 = .ok (.iconst 0, 1) := zq_0 zo_3 zkX7_overPosts_0 17 rfl rfl
theorem dX7_overPosts_18 : decode cX7_overPosts 18 = .ok (.istore_n 3, 1) := zq_0 zo_62 zkX7_overPosts_0 18 rfl rfl
theorem dX7_overPosts_19 : decode cX7_overPosts 19 = .ok (.iload_n 3, 1) := zq_0 zo_29 zkX7_overPosts_0 19 rfl rfl
theorem dX7_overPosts_20 : decode cX7_overPosts 20 = .ok (.iload_n 2, 1) := zq_0 zo_28 zkX7_overPosts_0 20 rfl rfl
theorem dX7_overPosts_21 : decode cX7_overPosts 21 = .ok (.if_icmp .ge 30, 3) := zq_2s zo_162 zkX7_overPosts_0 21 rfl rfl 0 30 rfl rfl _ (by decide +kernel)
theorem dX7_overPosts_24 : decode cX7_overPosts 24 = .ok (.iload_n 3, 1) := zq_0 zo_29 zkX7_overPosts_0 24 rfl rfl
theorem dX7_overPosts_25 : decode cX7_overPosts 25 = .ok (.bipush 15, 2) := zq_1s zo_16 zkX7_overPosts_0 25 rfl rfl 15 rfl _ (by decide +kernel)
theorem dX7_overPosts_27 : decode cX7_overPosts 27 = .ok (.if_icmp .ge 24, 3) := zq_2s zo_162 zkX7_overPosts_0 27 rfl rfl 0 24 rfl rfl _ (by decide +kernel)
theorem dX7_overPosts_30 : decode cX7_overPosts 30 = .ok (.aload_n 0, 1) := zq_0 zo_42 zkX7_overPosts_0 30 rfl rfl
theorem dX7_overPosts_31 : decode cX7_overPosts 31 = .ok (.aload_n 1, 1) := zq_0 zo_43 zkX7_overPosts_0 31 rfl rfl
theorem zkX7_overPosts_32 : zqc cX7_overPosts 32 [29, 182, 0, 23, 43, 180, 0, 29, 29, 46, 182, 0, 33, 132, 3, 1, 167, 255, 227, 177] := zq_of 20 (by decide +kernel)
theorem dX7_overPosts_32 : decode cX7_overPosts 32 = .ok (.iload_n 3, 1) := zq_0 zo_29 zkX7_overPosts_32 0 rfl rfl
theorem dX7_overPosts_33 : decode cX7_overPosts 33 = .ok (.invokevirtual 23, 3) := zq_2 zo_182 zkX7_overPosts_32 1 rfl rfl 0 23 rfl rfl _ rfl
theorem dX7_overPosts_36 : decode cX7_overPosts 36 = .ok (.aload_n 1, 1) := zq_0 zo_43 zkX7_overPosts_32 4 rfl rfl
theorem dX7_overPosts_37 : decode cX7_overPosts 37 = .ok (.getfield 29, 3) := zq_2 zo_180 zkX7_overPosts_32 5 rfl rfl 0 29 rfl rfl _ rfl
theorem dX7_overPosts_40 : decode cX7_overPosts 40 = .ok (.iload_n 3, 1) := zq_0 zo_29 zkX7_overPosts_32 8 rfl rfl
theorem dX7_overPosts_41 : decode cX7_overPosts 41 = .ok (.iaload, 1) := zq_0 zo_46 zkX7_overPosts_32 9 rfl rfl
theorem dX7_overPosts_42 : decode cX7_overPosts 42 = .ok (.invokevirtual 33, 3) := zq_2 zo_182 zkX7_overPosts_32 10 rfl rfl 0 33 rfl rfl _ rfl
theorem dX7_overPosts_45 : decode cX7_overPosts 45 = .ok (.iinc 3 1, 3) := zq_ii zo_132 zkX7_overPosts_32 13 rfl rfl 3 1 rfl rfl _ (by decide +kernel)
theorem dX7_overPosts_48 : decode cX7_overPosts 48 = .ok (.goto (-29), 3) := zq_2s zo_167 zkX7_overPosts_32 16 rfl rfl 255 227 rfl rfl _ (by decide +kernel)
theorem dX7_overPosts_51 : decode cX7_overPosts 51 = .ok (.return_, 1) := zq_0 zo_177 zkX7_overPosts_32 19 rfl rfl
theorem zkX7_addStop_0 : zqc cX7_addStop 0 [42, 180, 0, 15, 27, 96, 17, 4, 101, 184, 0, 37, 62, 42, 180, 0, 15, 4, 96, 54, 4, 21, 4, 29, 163, 0, 17, 42, 180, 0, 9, 21, 4, 9] := zq_of 34 (by decide +kernel)
theorem dX7_addStop_0 : decode cX7_addStop 0 = .ok (.aload_n 0, 1) := zq_0 zo_42 zkX7_addStop_0 0 rfl rfl
theorem dX7_addStop_1 : decode cX7_addStop 1 = .ok (.getfield 15, 3) := zq_2 zo_180 zkX7_addStop_0 1 rfl rfl 0 15 rfl rfl _ rfl
theorem dX7_addStop_4 : decode cX7_addStop 4 = .ok (.iload_n 1, 1) := zq_0 zo_27 zkX7_addStop_0 4 rfl rfl
theorem dX7_addStop_5 : decode cX7_addStop 5 = .ok (.iadd, 1) := zq_0 zo_96 zkX7_addStop_0 5 rfl rfl
theorem dX7_addStop_6 : decode cX7_addStop 6 = .ok (.sipush 1125, 3) := zq_2s zo_17 zkX7_addStop_0 6 rfl rfl 4 101 rfl rfl _ (by decide +kernel)
theorem dX7_addStop_9 : decode cX7_addStop 9 = .ok (.invokestatic 37, 3) := zq_2 zo_184 zkX7_addStop_0 9 rfl rfl 0 37 rfl rfl _ rfl
theorem dX7_addStop_12 : decode cX7_addStop 12 = .ok (.istore_n 3, 1) := zq_0 zo_62 zkX7_addStop_0 12 rfl rfl
theorem dX7_addStop_13 : decode cX7_addStop 13 = .ok (.aload_n 0, 1) := zq_0 zo_42 zkX7_addStop_0 13 rfl rfl
theorem dX7_addStop_14 : decode cX7_addStop 14 = .ok (.getfield 15, 3) := zq_2 zo_180 zkX7_addStop_0 14 rfl rfl 0 15 rfl rfl _ rfl
theorem dX7_addStop_17 : decode cX7_addStop 17 = .ok (.iconst 1, 1) := zq_0 zo_4 zkX7_addStop_0 17 rfl rfl
theorem dX7_addStop_18 : decode cX7_addStop 18 = .ok (.iadd, 1) := zq_0 zo_96 zkX7_addStop_0 18 rfl rfl
theorem dX7_addStop_19 : decode cX7_addStop 19 = .ok (.istore 4, 2) := zq_1 zo_54 zkX7_addStop_0 19 rfl rfl 4 rfl
theorem dX7_addStop_21 : decode cX7_addStop 21 = .ok (.iload 4, 2) := zq_1 zo_21 zkX7_addStop_0 21 rfl rfl 4 rfl
theorem dX7_addStop_23 : decode cX7_addStop 23 = .ok (.iload_n 3, 1) := zq_0 zo_29 zkX7_addStop_0 23 rfl rfl
theorem dX7_addStop_24 : decode cX7_addStop 24 = .ok (.if_icmp .gt 17, 3) := zq_2s zo_163 zkX7_addStop_0 24 rfl rfl 0 17 rfl rfl _ (by decide +kernel)
theorem dX7_addStop_27 : decode cX7_addStop 27 = .ok (.aload_n 0, 1) := zq_0 zo_42 zkX7_addStop_0 27 rfl rfl
theorem dX7_addStop_28 : decode cX7_addStop 28 = .ok (.getfield 9, 3) := zq_2 zo_180 zkX7_addStop_0 28 rfl rfl 0 9 rfl rfl _ rfl
theorem dX7_addStop_31 : decode cX7_addStop 31 = .ok (.iload 4, 2) := zq_1 zo_21 zkX7_addStop_0 31 rfl rfl 4 rfl
theorem zkX7_addStop_32 : zqc cX7_addStop 32 [4, 9, 80, 132, 4, 1, 167, 255, 239, 29, 54, 4, 21, 4, 155, 0, 56, 21, 4, 27, 161, 0, 18, 42, 180, 0, 9, 21, 4, 27, 100, 47, 28, 133] := zq_of 34 (by decide +kernel)
theorem dX7_addStop_33 : decode cX7_addStop 33 = .ok (.lconst 0, 1) := zq_0 zo_9 zkX7_addStop_32 1 rfl rfl
theorem dX7_addStop_34 : decode cX7_addStop 34 = .ok (.lastore, 1) := zq_0 zo_80 zkX7_addStop_32 2 rfl rfl
theorem dX7_addStop_35 : decode cX7_addStop 35 = .ok (.iinc 4 1, 3) := zq_ii zo_132 zkX7_addStop_32 3 rfl rfl 4 1 rfl rfl _ (by decide +kernel)
theorem dX7_addStop_38 : decode cX7_addStop 38 = .ok (.goto (-17), 3) := zq_2s zo_167 zkX7_addStop_32 6 rfl rfl 255 239 rfl rfl _ (by decide +kernel)
theorem dX7_addStop_41 : decode cX7_addStop 41 = .ok (.iload_n 3, 1) := zq_0 zo_29 zkX7_addStop_32 9 rfl rfl
theorem dX7_addStop_42 : decode cX7_addStop 42 = .ok (.istore 4, 2) := zq_1 zo_54 zkX7_addStop_32 10 rfl rfl 4 rfl
theorem dX7_addStop_44 : decode cX7_addStop 44 = .ok (.iload 4, 2) := zq_1 zo_21 zkX7_addStop_32 12 rfl rfl 4 rfl
theorem dX7_addStop_46 : decode cX7_addStop 46 = .ok (.ifCond .lt 56, 3) := zq_2s zo_155 zkX7_addStop_32 14 rfl rfl 0 56 rfl rfl _ (by decide +kernel)
theorem dX7_addStop_49 : decode cX7_addStop 49 = .ok (.iload 4, 2) := zq_1 zo_21 zkX7_addStop_32 17 rfl rfl 4 rfl
theorem dX7_addStop_51 : decode cX7_addStop 51 = .ok (.iload_n 1, 1) := zq_0 zo_27 zkX7_addStop_32 19 rfl rfl
theorem dX7_addStop_52 : decode cX7_addStop 52 = .ok (.if_icmp .lt 18, 3) := zq_2s zo_161 zkX7_addStop_32 20 rfl rfl 0 18 rfl rfl _ (by decide +kernel)
theorem dX7_addStop_55 : decode cX7_addStop 55 = .ok (.aload_n 0, 1) := zq_0 zo_42 zkX7_addStop_32 23 rfl rfl
theorem dX7_addStop_56 : decode cX7_addStop 56 = .ok (.getfield 9, 3) := zq_2 zo_180 zkX7_addStop_32 24 rfl rfl 0 9 rfl rfl _ rfl
theorem dX7_addStop_59 : decode cX7_addStop 59 = .ok (.iload 4, 2) := zq_1 zo_21 zkX7_addStop_32 27 rfl rfl 4 rfl
theorem dX7_addStop_61 : decode cX7_addStop 61 = .ok (.iload_n 1, 1) := zq_0 zo_27 zkX7_addStop_32 29 rfl rfl
theorem dX7_addStop_62 : decode cX7_addStop 62 = .ok (.isub, 1) := zq_0 zo_100 zkX7_addStop_32 30 rfl rfl
theorem dX7_addStop_63 : decode cX7_addStop 63 = .ok (.laload, 1) := zq_0 zo_47 zkX7_addStop_32 31 rfl rfl
theorem zkX7_addStop_64 : zqc cX7_addStop 64 [28, 133, 105, 167, 0, 4, 9, 55, 5, 42, 180, 0, 9, 21, 4, 42, 180, 0, 9, 21, 4, 47, 16, 10, 28, 100, 133, 105, 22, 5, 97, 80, 132, 4] := zq_of 34 (by decide +kernel)
theorem dX7_addStop_64 : decode cX7_addStop 64 = .ok (.iload_n 2, 1) := zq_0 zo_28 zkX7_addStop_64 0 rfl rfl
theorem dX7_addStop_65 : decode cX7_addStop 65 = .ok (.i2l, 1) := zq_0 zo_133 zkX7_addStop_64 1 rfl rfl
theorem dX7_addStop_66 : decode cX7_addStop 66 = .ok (.lmul, 1) := zq_0 zo_105 zkX7_addStop_64 2 rfl rfl
theorem dX7_addStop_67 : decode cX7_addStop 67 = .ok (.goto 4, 3) := zq_2s zo_167 zkX7_addStop_64 3 rfl rfl 0 4 rfl rfl _ (by decide +kernel)
theorem dX7_addStop_70 : decode cX7_addStop 70 = .ok (.lconst 0, 1) := zq_0 zo_9 zkX7_addStop_64 6 rfl rfl
theorem dX7_addStop_71 : decode cX7_addStop 71 = .ok (.lstore 5, 2) := zq_1 zo_55 zkX7_addStop_64 7 rfl rfl 5 rfl
theorem dX7_addStop_73 : decode cX7_addStop 73 = .ok (.aload_n 0, 1) := zq_0 zo_42 zkX7_addStop_64 9 rfl rfl
theorem dX7_addStop_74 : decode cX7_addStop 74 = .ok (.getfield 9, 3) := zq_2 zo_180 zkX7_addStop_64 10 rfl rfl 0 9 rfl rfl _ rfl
theorem dX7_addStop_77 : decode cX7_addStop 77 = .ok (.iload 4, 2) := zq_1 zo_21 zkX7_addStop_64 13 rfl rfl 4 rfl
theorem dX7_addStop_79 : decode cX7_addStop 79 = .ok (.aload_n 0, 1) := zq_0 zo_42 zkX7_addStop_64 15 rfl rfl
theorem dX7_addStop_80 : decode cX7_addStop 80 = .ok (.getfield 9, 3) := zq_2 zo_180 zkX7_addStop_64 16 rfl rfl 0 9 rfl rfl _ rfl
theorem dX7_addStop_83 : decode cX7_addStop 83 = .ok (.iload 4, 2) := zq_1 zo_21 zkX7_addStop_64 19 rfl rfl 4 rfl
theorem dX7_addStop_85 : decode cX7_addStop 85 = .ok (.laload, 1) := zq_0 zo_47 zkX7_addStop_64 21 rfl rfl
theorem dX7_addStop_86 : decode cX7_addStop 86 = .ok (.bipush 10, 2) := zq_1s zo_16 zkX7_addStop_64 22 rfl rfl 10 rfl _ (by decide +kernel)
theorem dX7_addStop_88 : decode cX7_addStop 88 = .ok (.iload_n 2, 1) := zq_0 zo_28 zkX7_addStop_64 24 rfl rfl
theorem dX7_addStop_89 : decode cX7_addStop 89 = .ok (.isub, 1) := zq_0 zo_100 zkX7_addStop_64 25 rfl rfl
theorem dX7_addStop_90 : decode cX7_addStop 90 = .ok (.i2l, 1) := zq_0 zo_133 zkX7_addStop_64 26 rfl rfl
theorem dX7_addStop_91 : decode cX7_addStop 91 = .ok (.lmul, 1) := zq_0 zo_105 zkX7_addStop_64 27 rfl rfl
theorem dX7_addStop_92 : decode cX7_addStop 92 = .ok (.lload 5, 2) := zq_1 zo_22 zkX7_addStop_64 28 rfl rfl 5 rfl
theorem dX7_addStop_94 : decode cX7_addStop 94 = .ok (.ladd, 1) := zq_0 zo_97 zkX7_addStop_64 30 rfl rfl
theorem dX7_addStop_95 : decode cX7_addStop 95 = .ok (.lastore, 1) := zq_0 zo_80 zkX7_addStop_64 31 rfl rfl
theorem zkX7_addStop_96 : zqc cX7_addStop 96 [132, 4, 255, 167, 255, 201, 42, 29, 181, 0, 15, 42, 89, 180, 0, 19, 20, 0, 43, 105, 181, 0, 19, 177] := zq_of 24 (by decide +kernel)
theorem dX7_addStop_96 : decode cX7_addStop 96 = .ok (.iinc 4 (-1), 3) := zq_ii zo_132 zkX7_addStop_96 0 rfl rfl 4 255 rfl rfl _ (by decide +kernel)
theorem dX7_addStop_99 : decode cX7_addStop 99 = .ok (.goto (-55), 3) := zq_2s zo_167 zkX7_addStop_96 3 rfl rfl 255 201 rfl rfl _ (by decide +kernel)
theorem dX7_addStop_102 : decode cX7_addStop 102 = .ok (.aload_n 0, 1) := zq_0 zo_42 zkX7_addStop_96 6 rfl rfl
theorem dX7_addStop_103 : decode cX7_addStop 103 = .ok (.iload_n 3, 1) := zq_0 zo_29 zkX7_addStop_96 7 rfl rfl
theorem dX7_addStop_104 : decode cX7_addStop 104 = .ok (.putfield 15, 3) := zq_2 zo_181 zkX7_addStop_96 8 rfl rfl 0 15 rfl rfl _ rfl
theorem dX7_addStop_107 : decode cX7_addStop 107 = .ok (.aload_n 0, 1) := zq_0 zo_42 zkX7_addStop_96 11 rfl rfl
theorem dX7_addStop_108 : decode cX7_addStop 108 = .ok (.dup, 1) := zq_0 zo_89 zkX7_addStop_96 12 rfl rfl
theorem dX7_addStop_109 : decode cX7_addStop 109 = .ok (.getfield 19, 3) := zq_2 zo_180 zkX7_addStop_96 13 rfl rfl 0 19 rfl rfl _ rfl
theorem dX7_addStop_112 : decode cX7_addStop 112 = .ok (.ldc2_w 43, 3) := zq_2 zo_20 zkX7_addStop_96 16 rfl rfl 0 43 rfl rfl _ rfl
theorem dX7_addStop_115 : decode cX7_addStop 115 = .ok (.lmul, 1) := zq_0 zo_105 zkX7_addStop_96 19 rfl rfl
theorem dX7_addStop_116 : decode cX7_addStop 116 = .ok (.putfield 19, 3) := zq_2 zo_181 zkX7_addStop_96 20 rfl rfl 0 19 rfl rfl _ rfl
theorem dX7_addStop_119 : decode cX7_addStop 119 = .ok (.return_, 1) := zq_0 zo_177 zkX7_addStop_96 23 rfl rfl
theorem zkX7_weightUpTo_0 : zqc cX7_weightUpTo 0 [9, 65, 3, 54, 4, 21, 4, 42, 180, 0, 15, 163, 0, 25, 21, 4, 27, 163, 0, 19, 32, 42, 180, 0, 9, 21, 4, 47, 97, 65, 132, 4, 1, 167] := zq_of 34 (by decide +kernel)
theorem dX7_weightUpTo_0 : decode cX7_weightUpTo 0 = .ok (.lconst 0, 1) := zq_0 zo_9 zkX7_weightUpTo_0 0 rfl rfl
theorem dX7_weightUpTo_1 : decode cX7_weightUpTo 1 = .ok (.lstore_n 2, 1) := zq_0 zo_65 zkX7_weightUpTo_0 1 rfl rfl
theorem dX7_weightUpTo_2 : decode cX7_weightUpTo 2 = .ok (.iconst 0, 1) := zq_0 zo_3 zkX7_weightUpTo_0 2 rfl rfl
theorem dX7_weightUpTo_3 : decode cX7_weightUpTo 3 = .ok (.istore 4, 2) := zq_1 zo_54 zkX7_weightUpTo_0 3 rfl rfl 4 rfl
theorem dX7_weightUpTo_5 : decode cX7_weightUpTo 5 = .ok (.iload 4, 2) := zq_1 zo_21 zkX7_weightUpTo_0 5 rfl rfl 4 rfl
theorem dX7_weightUpTo_7 : decode cX7_weightUpTo 7 = .ok (.aload_n 0, 1) := zq_0 zo_42 zkX7_weightUpTo_0 7 rfl rfl
theorem dX7_weightUpTo_8 : decode cX7_weightUpTo 8 = .ok (.getfield 15, 3) := zq_2 zo_180 zkX7_weightUpTo_0 8 rfl rfl 0 15 rfl rfl _ rfl
theorem dX7_weightUpTo_11 : decode cX7_weightUpTo 11 = .ok (.if_icmp .gt 25, 3) := zq_2s zo_163 zkX7_weightUpTo_0 11 rfl rfl 0 25 rfl rfl _ (by decide +kernel)
theorem dX7_weightUpTo_14 : decode cX7_weightUpTo 14 = .ok (.iload 4, 2) := zq_1 zo_21 zkX7_weightUpTo_0 14 rfl rfl 4 rfl
theorem dX7_weightUpTo_16 : decode cX7_weightUpTo 16 = .ok (.iload_n 1, 1) := zq_0 zo_27 zkX7_weightUpTo_0 16 rfl rfl
theorem dX7_weightUpTo_17 : decode cX7_weightUpTo 17 = .ok (.if_icmp .gt 19, 3) := zq_2s zo_163 zkX7_weightUpTo_0 17 rfl rfl 0 19 rfl rfl _ (by decide +kernel)
theorem dX7_weightUpTo_20 : decode cX7_weightUpTo 20 = .ok (.lload_n 2, 1) := zq_0 zo_32 zkX7_weightUpTo_0 20 rfl rfl
theorem dX7_weightUpTo_21 : decode cX7_weightUpTo 21 = .ok (.aload_n 0, 1) := zq_0 zo_42 zkX7_weightUpTo_0 21 rfl rfl
theorem dX7_weightUpTo_22 : decode cX7_weightUpTo 22 = .ok (.getfield 9, 3) := zq_2 zo_180 zkX7_weightUpTo_0 22 rfl rfl 0 9 rfl rfl _ rfl
theorem dX7_weightUpTo_25 : decode cX7_weightUpTo 25 = .ok (.iload 4, 2) := zq_1 zo_21 zkX7_weightUpTo_0 25 rfl rfl 4 rfl
theorem dX7_weightUpTo_27 : decode cX7_weightUpTo 27 = .ok (.laload, 1) := zq_0 zo_47 zkX7_weightUpTo_0 27 rfl rfl
theorem dX7_weightUpTo_28 : decode cX7_weightUpTo 28 = .ok (.ladd, 1) := zq_0 zo_97 zkX7_weightUpTo_0 28 rfl rfl
theorem dX7_weightUpTo_29 : decode cX7_weightUpTo 29 = .ok (.lstore_n 2, 1) := zq_0 zo_65 zkX7_weightUpTo_0 29 rfl rfl
theorem dX7_weightUpTo_30 : decode cX7_weightUpTo 30 = .ok (.iinc 4 1, 3) := zq_ii zo_132 zkX7_weightUpTo_0 30 rfl rfl 4 1 rfl rfl _ (by decide +kernel)
theorem zkX7_weightUpTo_32 : zqc cX7_weightUpTo 32 [1, 167, 255, 228, 32, 173] := zq_of 6 (by decide +kernel)
theorem dX7_weightUpTo_33 : decode cX7_weightUpTo 33 = .ok (.goto (-28), 3) := zq_2s zo_167 zkX7_weightUpTo_32 1 rfl rfl 255 228 rfl rfl _ (by decide +kernel)
theorem dX7_weightUpTo_36 : decode cX7_weightUpTo 36 = .ok (.lload_n 2, 1) := zq_0 zo_32 zkX7_weightUpTo_32 4 rfl rfl
theorem dX7_weightUpTo_37 : decode cX7_weightUpTo 37 = .ok (.lreturn, 1) := zq_0 zo_173 zkX7_weightUpTo_32 5 rfl rfl
theorem zkX7_leastCosts_0 : zqc cX7_leastCosts 0 [9, 65, 3, 54, 4, 21, 4, 42, 180, 0, 15, 162, 0, 38, 32, 42, 180, 0, 9, 21, 4, 47, 97, 65, 32, 20, 0, 45, 105, 42, 180, 0, 19, 27] := zq_of 34 (by decide +kernel)
theorem dX7_leastCosts_0 : decode cX7_leastCosts 0 = .ok (.lconst 0, 1) := zq_0 zo_9 zkX7_leastCosts_0 0 rfl rfl
theorem dX7_leastCosts_1 : decode cX7_leastCosts 1 = .ok (.lstore_n 2, 1) := zq_0 zo_65 zkX7_leastCosts_0 1 rfl rfl
theorem dX7_leastCosts_2 : decode cX7_leastCosts 2 = .ok (.iconst 0, 1) := zq_0 zo_3 zkX7_leastCosts_0 2 rfl rfl
theorem dX7_leastCosts_3 : decode cX7_leastCosts 3 = .ok (.istore 4, 2) := zq_1 zo_54 zkX7_leastCosts_0 3 rfl rfl 4 rfl
theorem dX7_leastCosts_5 : decode cX7_leastCosts 5 = .ok (.iload 4, 2) := zq_1 zo_21 zkX7_leastCosts_0 5 rfl rfl 4 rfl
theorem dX7_leastCosts_7 : decode cX7_leastCosts 7 = .ok (.aload_n 0, 1) := zq_0 zo_42 zkX7_leastCosts_0 7 rfl rfl
theorem dX7_leastCosts_8 : decode cX7_leastCosts 8 = .ok (.getfield 15, 3) := zq_2 zo_180 zkX7_leastCosts_0 8 rfl rfl 0 15 rfl rfl _ rfl
theorem dX7_leastCosts_11 : decode cX7_leastCosts 11 = .ok (.if_icmp .ge 38, 3) := zq_2s zo_162 zkX7_leastCosts_0 11 rfl rfl 0 38 rfl rfl _ (by decide +kernel)
theorem dX7_leastCosts_14 : decode cX7_leastCosts 14 = .ok (.lload_n 2, 1) := zq_0 zo_32 zkX7_leastCosts_0 14 rfl rfl
theorem dX7_leastCosts_15 : decode cX7_leastCosts 15 = .ok (.aload_n 0, 1) := zq_0 zo_42 zkX7_leastCosts_0 15 rfl rfl
theorem dX7_leastCosts_16 : decode cX7_leastCosts 16 = .ok (.getfield 9, 3) := zq_2 zo_180 zkX7_leastCosts_0 16 rfl rfl 0 9 rfl rfl _ rfl
theorem dX7_leastCosts_19 : decode cX7_leastCosts 19 = .ok (.iload 4, 2) := zq_1 zo_21 zkX7_leastCosts_0 19 rfl rfl 4 rfl
theorem dX7_leastCosts_21 : decode cX7_leastCosts 21 = .ok (.laload, 1) := zq_0 zo_47 zkX7_leastCosts_0 21 rfl rfl
theorem dX7_leastCosts_22 : decode cX7_leastCosts 22 = .ok (.ladd, 1) := zq_0 zo_97 zkX7_leastCosts_0 22 rfl rfl
theorem dX7_leastCosts_23 : decode cX7_leastCosts 23 = .ok (.lstore_n 2, 1) := zq_0 zo_65 zkX7_leastCosts_0 23 rfl rfl
theorem dX7_leastCosts_24 : decode cX7_leastCosts 24 = .ok (.lload_n 2, 1) := zq_0 zo_32 zkX7_leastCosts_0 24 rfl rfl
theorem dX7_leastCosts_25 : decode cX7_leastCosts 25 = .ok (.ldc2_w 45, 3) := zq_2 zo_20 zkX7_leastCosts_0 25 rfl rfl 0 45 rfl rfl _ rfl
theorem dX7_leastCosts_28 : decode cX7_leastCosts 28 = .ok (.lmul, 1) := zq_0 zo_105 zkX7_leastCosts_0 28 rfl rfl
theorem dX7_leastCosts_29 : decode cX7_leastCosts 29 = .ok (.aload_n 0, 1) := zq_0 zo_42 zkX7_leastCosts_0 29 rfl rfl
theorem dX7_leastCosts_30 : decode cX7_leastCosts 30 = .ok (.getfield 19, 3) := zq_2 zo_180 zkX7_leastCosts_0 30 rfl rfl 0 19 rfl rfl _ rfl
theorem zkX7_leastCosts_32 : zqc cX7_leastCosts 32 [19, 27, 133, 105, 148, 155, 0, 6, 21, 4, 172, 132, 4, 1, 167, 255, 215, 42, 180, 0, 15, 172] := zq_of 22 (by decide +kernel)
theorem dX7_leastCosts_33 : decode cX7_leastCosts 33 = .ok (.iload_n 1, 1) := zq_0 zo_27 zkX7_leastCosts_32 1 rfl rfl
theorem dX7_leastCosts_34 : decode cX7_leastCosts 34 = .ok (.i2l, 1) := zq_0 zo_133 zkX7_leastCosts_32 2 rfl rfl
theorem dX7_leastCosts_35 : decode cX7_leastCosts 35 = .ok (.lmul, 1) := zq_0 zo_105 zkX7_leastCosts_32 3 rfl rfl
theorem dX7_leastCosts_36 : decode cX7_leastCosts 36 = .ok (.lcmp, 1) := zq_0 zo_148 zkX7_leastCosts_32 4 rfl rfl
theorem dX7_leastCosts_37 : decode cX7_leastCosts 37 = .ok (.ifCond .lt 6, 3) := zq_2s zo_155 zkX7_leastCosts_32 5 rfl rfl 0 6 rfl rfl _ (by decide +kernel)
theorem dX7_leastCosts_40 : decode cX7_leastCosts 40 = .ok (.iload 4, 2) := zq_1 zo_21 zkX7_leastCosts_32 8 rfl rfl 4 rfl
theorem dX7_leastCosts_42 : decode cX7_leastCosts 42 = .ok (.ireturn, 1) := zq_0 zo_172 zkX7_leastCosts_32 10 rfl rfl
theorem dX7_leastCosts_43 : decode cX7_leastCosts 43 = .ok (.iinc 4 1, 3) := zq_ii zo_132 zkX7_leastCosts_32 11 rfl rfl 4 1 rfl rfl _ (by decide +kernel)
theorem dX7_leastCosts_46 : decode cX7_leastCosts 46 = .ok (.goto (-41), 3) := zq_2s zo_167 zkX7_leastCosts_32 14 rfl rfl 255 215 rfl rfl _ (by decide +kernel)
theorem dX7_leastCosts_49 : decode cX7_leastCosts 49 = .ok (.aload_n 0, 1) := zq_0 zo_42 zkX7_leastCosts_32 17 rfl rfl
theorem dX7_leastCosts_50 : decode cX7_leastCosts 50 = .ok (.getfield 15, 3) := zq_2 zo_180 zkX7_leastCosts_32 18 rfl rfl 0 15 rfl rfl _ rfl
theorem dX7_leastCosts_53 : decode cX7_leastCosts 53 = .ok (.ireturn, 1) := zq_0 zo_172 zkX7_leastCosts_32 21 rfl rfl
theorem zkX8_init_0 : zqc cX8_init 0 [42, 183, 0, 3, 42, 17, 2, 88, 188, 8, 181, 0, 9, 42, 5, 189, 0, 15, 89, 3, 187, 0, 15, 89, 183, 0, 17, 83, 89, 4, 187, 0, 15, 89] := zq_of 34 (by decide +kernel)
theorem dX8_init_0 : decode cX8_init 0 = .ok (.aload_n 0, 1) := zq_0 zo_42 zkX8_init_0 0 rfl rfl
theorem dX8_init_1 : decode cX8_init 1 = .ok (.invokespecial 3, 3) := zq_2 zo_183 zkX8_init_0 1 rfl rfl 0 3 rfl rfl _ rfl
theorem dX8_init_4 : decode cX8_init 4 = .ok (.aload_n 0, 1) := zq_0 zo_42 zkX8_init_0 4 rfl rfl
theorem dX8_init_5 : decode cX8_init 5 = .ok (.sipush 600, 3) := zq_2s zo_17 zkX8_init_0 5 rfl rfl 2 88 rfl rfl _ (by decide +kernel)
theorem dX8_init_8 : decode cX8_init 8 = .ok (.newarray .byte, 2) := by decide +kernel
theorem dX8_init_10 : decode cX8_init 10 = .ok (.putfield 9, 3) := zq_2 zo_181 zkX8_init_0 10 rfl rfl 0 9 rfl rfl _ rfl
theorem dX8_init_13 : decode cX8_init 13 = .ok (.aload_n 0, 1) := zq_0 zo_42 zkX8_init_0 13 rfl rfl
theorem dX8_init_14 : decode cX8_init 14 = .ok (.iconst 2, 1) := zq_0 zo_5 zkX8_init_0 14 rfl rfl
theorem dX8_init_15 : decode cX8_init 15 = .ok (.anewarray 15, 3) := zq_2 zo_189 zkX8_init_0 15 rfl rfl 0 15 rfl rfl _ rfl
theorem dX8_init_18 : decode cX8_init 18 = .ok (.dup, 1) := zq_0 zo_89 zkX8_init_0 18 rfl rfl
theorem dX8_init_19 : decode cX8_init 19 = .ok (.iconst 0, 1) := zq_0 zo_3 zkX8_init_0 19 rfl rfl
theorem dX8_init_20 : decode cX8_init 20 = .ok (.new 15, 3) := zq_2 zo_187 zkX8_init_0 20 rfl rfl 0 15 rfl rfl _ rfl
theorem dX8_init_23 : decode cX8_init 23 = .ok (.dup, 1) := zq_0 zo_89 zkX8_init_0 23 rfl rfl
theorem dX8_init_24 : decode cX8_init 24 = .ok (.invokespecial 17, 3) := zq_2 zo_183 zkX8_init_0 24 rfl rfl 0 17 rfl rfl _ rfl
theorem dX8_init_27 : decode cX8_init 27 = .ok (.aastore, 1) := zq_0 zo_83 zkX8_init_0 27 rfl rfl
theorem dX8_init_28 : decode cX8_init 28 = .ok (.dup, 1) := zq_0 zo_89 zkX8_init_0 28 rfl rfl
theorem dX8_init_29 : decode cX8_init 29 = .ok (.iconst 1, 1) := zq_0 zo_4 zkX8_init_0 29 rfl rfl
theorem dX8_init_30 : decode cX8_init 30 = .ok (.new 15, 3) := zq_2 zo_187 zkX8_init_0 30 rfl rfl 0 15 rfl rfl _ rfl
theorem zkX8_init_32 : zqc cX8_init 32 [15, 89, 183, 0, 17, 83, 181, 0, 18, 42, 5, 189, 0, 22, 89, 3, 187, 0, 22, 89, 183, 0, 24, 83, 89, 4, 187, 0, 22, 89, 183, 0, 24, 83] := zq_of 34 (by decide +kernel)
theorem dX8_init_33 : decode cX8_init 33 = .ok (.dup, 1) := zq_0 zo_89 zkX8_init_32 1 rfl rfl
theorem dX8_init_34 : decode cX8_init 34 = .ok (.invokespecial 17, 3) := zq_2 zo_183 zkX8_init_32 2 rfl rfl 0 17 rfl rfl _ rfl
theorem dX8_init_37 : decode cX8_init 37 = .ok (.aastore, 1) := zq_0 zo_83 zkX8_init_32 5 rfl rfl
theorem dX8_init_38 : decode cX8_init 38 = .ok (.putfield 18, 3) := zq_2 zo_181 zkX8_init_32 6 rfl rfl 0 18 rfl rfl _ rfl
theorem dX8_init_41 : decode cX8_init 41 = .ok (.aload_n 0, 1) := zq_0 zo_42 zkX8_init_32 9 rfl rfl
theorem dX8_init_42 : decode cX8_init 42 = .ok (.iconst 2, 1) := zq_0 zo_5 zkX8_init_32 10 rfl rfl
theorem dX8_init_43 : decode cX8_init 43 = .ok (.anewarray 22, 3) := zq_2 zo_189 zkX8_init_32 11 rfl rfl 0 22 rfl rfl _ rfl
theorem dX8_init_46 : decode cX8_init 46 = .ok (.dup, 1) := zq_0 zo_89 zkX8_init_32 14 rfl rfl
theorem dX8_init_47 : decode cX8_init 47 = .ok (.iconst 0, 1) := zq_0 zo_3 zkX8_init_32 15 rfl rfl
theorem dX8_init_48 : decode cX8_init 48 = .ok (.new 22, 3) := zq_2 zo_187 zkX8_init_32 16 rfl rfl 0 22 rfl rfl _ rfl
theorem dX8_init_51 : decode cX8_init 51 = .ok (.dup, 1) := zq_0 zo_89 zkX8_init_32 19 rfl rfl
theorem dX8_init_52 : decode cX8_init 52 = .ok (.invokespecial 24, 3) := zq_2 zo_183 zkX8_init_32 20 rfl rfl 0 24 rfl rfl _ rfl
theorem dX8_init_55 : decode cX8_init 55 = .ok (.aastore, 1) := zq_0 zo_83 zkX8_init_32 23 rfl rfl
theorem dX8_init_56 : decode cX8_init 56 = .ok (.dup, 1) := zq_0 zo_89 zkX8_init_32 24 rfl rfl
theorem dX8_init_57 : decode cX8_init 57 = .ok (.iconst 1, 1) := zq_0 zo_4 zkX8_init_32 25 rfl rfl
theorem dX8_init_58 : decode cX8_init 58 = .ok (.new 22, 3) := zq_2 zo_187 zkX8_init_32 26 rfl rfl 0 22 rfl rfl _ rfl
theorem dX8_init_61 : decode cX8_init 61 = .ok (.dup, 1) := zq_0 zo_89 zkX8_init_32 29 rfl rfl
theorem dX8_init_62 : decode cX8_init 62 = .ok (.invokespecial 24, 3) := zq_2 zo_183 zkX8_init_32 30 rfl rfl 0 24 rfl rfl _ rfl
theorem zkX8_init_64 : zqc cX8_init 64 [24, 83, 181, 0, 25, 42, 5, 189, 0, 22, 89, 3, 187, 0, 22, 89, 183, 0, 24, 83, 89, 4, 187, 0, 22, 89, 183, 0, 24, 83, 181, 0, 29, 42] := zq_of 34 (by decide +kernel)
theorem dX8_init_65 : decode cX8_init 65 = .ok (.aastore, 1) := zq_0 zo_83 zkX8_init_64 1 rfl rfl
theorem dX8_init_66 : decode cX8_init 66 = .ok (.putfield 25, 3) := zq_2 zo_181 zkX8_init_64 2 rfl rfl 0 25 rfl rfl _ rfl
theorem dX8_init_69 : decode cX8_init 69 = .ok (.aload_n 0, 1) := zq_0 zo_42 zkX8_init_64 5 rfl rfl
theorem dX8_init_70 : decode cX8_init 70 = .ok (.iconst 2, 1) := zq_0 zo_5 zkX8_init_64 6 rfl rfl
theorem dX8_init_71 : decode cX8_init 71 = .ok (.anewarray 22, 3) := zq_2 zo_189 zkX8_init_64 7 rfl rfl 0 22 rfl rfl _ rfl
theorem dX8_init_74 : decode cX8_init 74 = .ok (.dup, 1) := zq_0 zo_89 zkX8_init_64 10 rfl rfl
theorem dX8_init_75 : decode cX8_init 75 = .ok (.iconst 0, 1) := zq_0 zo_3 zkX8_init_64 11 rfl rfl
theorem dX8_init_76 : decode cX8_init 76 = .ok (.new 22, 3) := zq_2 zo_187 zkX8_init_64 12 rfl rfl 0 22 rfl rfl _ rfl
theorem dX8_init_79 : decode cX8_init 79 = .ok (.dup, 1) := zq_0 zo_89 zkX8_init_64 15 rfl rfl
theorem dX8_init_80 : decode cX8_init 80 = .ok (.invokespecial 24, 3) := zq_2 zo_183 zkX8_init_64 16 rfl rfl 0 24 rfl rfl _ rfl
theorem dX8_init_83 : decode cX8_init 83 = .ok (.aastore, 1) := zq_0 zo_83 zkX8_init_64 19 rfl rfl
theorem dX8_init_84 : decode cX8_init 84 = .ok (.dup, 1) := zq_0 zo_89 zkX8_init_64 20 rfl rfl
theorem dX8_init_85 : decode cX8_init 85 = .ok (.iconst 1, 1) := zq_0 zo_4 zkX8_init_64 21 rfl rfl
theorem dX8_init_86 : decode cX8_init 86 = .ok (.new 22, 3) := zq_2 zo_187 zkX8_init_64 22 rfl rfl 0 22 rfl rfl _ rfl
theorem dX8_init_89 : decode cX8_init 89 = .ok (.dup, 1) := zq_0 zo_89 zkX8_init_64 25 rfl rfl
theorem dX8_init_90 : decode cX8_init 90 = .ok (.invokespecial 24, 3) := zq_2 zo_183 zkX8_init_64 26 rfl rfl 0 24 rfl rfl _ rfl
theorem dX8_init_93 : decode cX8_init 93 = .ok (.aastore, 1) := zq_0 zo_83 zkX8_init_64 29 rfl rfl
theorem dX8_init_94 : decode cX8_init 94 = .ok (.putfield 29, 3) := zq_2 zo_181 zkX8_init_64 30 rfl rfl 0 29 rfl rfl _ rfl
theorem zkX8_init_96 : zqc cX8_init 96 [29, 42, 6, 188, 10, 181, 0, 32, 42, 2, 181, 0, 36, 177] := zq_of 14 (by decide +kernel)
theorem dX8_init_97 : decode cX8_init 97 = .ok (.aload_n 0, 1) := zq_0 zo_42 zkX8_init_96 1 rfl rfl
theorem dX8_init_98 : decode cX8_init 98 = .ok (.iconst 3, 1) := zq_0 zo_6 zkX8_init_96 2 rfl rfl
theorem dX8_init_99 : decode cX8_init 99 = .ok (.newarray .int, 2) := by decide +kernel
theorem dX8_init_101 : decode cX8_init 101 = .ok (.putfield 32, 3) := zq_2 zo_181 zkX8_init_96 5 rfl rfl 0 32 rfl rfl _ rfl
theorem dX8_init_104 : decode cX8_init 104 = .ok (.aload_n 0, 1) := zq_0 zo_42 zkX8_init_96 8 rfl rfl
theorem dX8_init_105 : decode cX8_init 105 = .ok (.iconst (-1), 1) := zq_0 zo_2 zkX8_init_96 9 rfl rfl
theorem dX8_init_106 : decode cX8_init 106 = .ok (.putfield 36, 3) := zq_2 zo_181 zkX8_init_96 10 rfl rfl 0 36 rfl rfl _ rfl
theorem dX8_init_109 : decode cX8_init 109 = .ok (.return_, 1) := zq_0 zo_177 zkX8_init_96 13 rfl rfl
theorem zkX8_copyFrom_0 : zqc cX8_copyFrom 0 [43, 180, 0, 9, 3, 42, 180, 0, 9, 3, 17, 2, 88, 184, 0, 40, 3, 61, 28, 5, 162, 0, 54, 42, 180, 0, 18, 28, 50, 43, 180, 0, 18, 28] := zq_of 34 (by decide +kernel)
theorem dX8_copyFrom_0 : decode cX8_copyFrom 0 = .ok (.aload_n 1, 1) := zq_0 zo_43 zkX8_copyFrom_0 0 rfl rfl
theorem dX8_copyFrom_1 : decode cX8_copyFrom 1 = .ok (.getfield 9, 3) := zq_2 zo_180 zkX8_copyFrom_0 1 rfl rfl 0 9 rfl rfl _ rfl
theorem dX8_copyFrom_4 : decode cX8_copyFrom 4 = .ok (.iconst 0, 1) := zq_0 zo_3 zkX8_copyFrom_0 4 rfl rfl
theorem dX8_copyFrom_5 : decode cX8_copyFrom 5 = .ok (.aload_n 0, 1) := zq_0 zo_42 zkX8_copyFrom_0 5 rfl rfl
theorem dX8_copyFrom_6 : decode cX8_copyFrom 6 = .ok (.getfield 9, 3) := zq_2 zo_180 zkX8_copyFrom_0 6 rfl rfl 0 9 rfl rfl _ rfl
theorem dX8_copyFrom_9 : decode cX8_copyFrom 9 = .ok (.iconst 0, 1) := zq_0 zo_3 zkX8_copyFrom_0 9 rfl rfl
theorem dX8_copyFrom_10 : decode cX8_copyFrom 10 = .ok (.sipush 600, 3) := zq_2s zo_17 zkX8_copyFrom_0 10 rfl rfl 2 88 rfl rfl _ (by decide +kernel)
theorem dX8_copyFrom_13 : decode cX8_copyFrom 13 = .ok (.invokestatic 40, 3) := zq_2 zo_184 zkX8_copyFrom_0 13 rfl rfl 0 40 rfl rfl _ rfl
theorem dX8_copyFrom_16 : decode cX8_copyFrom 16 = .ok (.iconst 0, 1) := zq_0 zo_3 zkX8_copyFrom_0 16 rfl rfl
theorem dX8_copyFrom_17 : decode cX8_copyFrom 17 = .ok (.istore_n 2, 1) := zq_0 zo_61 zkX8_copyFrom_0 17 rfl rfl
theorem dX8_copyFrom_18 : decode cX8_copyFrom 18 = .ok (.iload_n 2, 1) := zq_0 zo_28 zkX8_copyFrom_0 18 rfl rfl
theorem dX8_copyFrom_19 : decode cX8_copyFrom 19 = .ok (.iconst 2, 1) := zq_0 zo_5 zkX8_copyFrom_0 19 rfl rfl
theorem dX8_copyFrom_20 : decode cX8_copyFrom 20 = .ok (.if_icmp .ge 54, 3) := zq_2s zo_162 zkX8_copyFrom_0 20 rfl rfl 0 54 rfl rfl _ (by decide +kernel)
theorem dX8_copyFrom_23 : decode cX8_copyFrom 23 = .ok (.aload_n 0, 1) := zq_0 zo_42 zkX8_copyFrom_0 23 rfl rfl
theorem dX8_copyFrom_24 : decode cX8_copyFrom 24 = .ok (.getfield 18, 3) := zq_2 zo_180 zkX8_copyFrom_0 24 rfl rfl 0 18 rfl rfl _ rfl
theorem dX8_copyFrom_27 : decode cX8_copyFrom 27 = .ok (.iload_n 2, 1) := zq_0 zo_28 zkX8_copyFrom_0 27 rfl rfl
theorem dX8_copyFrom_28 : decode cX8_copyFrom 28 = .ok (.aaload, 1) := zq_0 zo_50 zkX8_copyFrom_0 28 rfl rfl
theorem dX8_copyFrom_29 : decode cX8_copyFrom 29 = .ok (.aload_n 1, 1) := zq_0 zo_43 zkX8_copyFrom_0 29 rfl rfl
theorem dX8_copyFrom_30 : decode cX8_copyFrom 30 = .ok (.getfield 18, 3) := zq_2 zo_180 zkX8_copyFrom_0 30 rfl rfl 0 18 rfl rfl _ rfl
theorem zkX8_copyFrom_32 : zqc cX8_copyFrom 32 [18, 28, 50, 182, 0, 46, 42, 180, 0, 25, 28, 50, 43, 180, 0, 25, 28, 50, 182, 0, 50, 42, 180, 0, 29, 28, 50, 43, 180, 0, 29, 28, 50, 182] := zq_of 34 (by decide +kernel)
theorem dX8_copyFrom_33 : decode cX8_copyFrom 33 = .ok (.iload_n 2, 1) := zq_0 zo_28 zkX8_copyFrom_32 1 rfl rfl
theorem dX8_copyFrom_34 : decode cX8_copyFrom 34 = .ok (.aaload, 1) := zq_0 zo_50 zkX8_copyFrom_32 2 rfl rfl
theorem dX8_copyFrom_35 : decode cX8_copyFrom 35 = .ok (.invokevirtual 46, 3) := zq_2 zo_182 zkX8_copyFrom_32 3 rfl rfl 0 46 rfl rfl _ rfl
theorem dX8_copyFrom_38 : decode cX8_copyFrom 38 = .ok (.aload_n 0, 1) := zq_0 zo_42 zkX8_copyFrom_32 6 rfl rfl
theorem dX8_copyFrom_39 : decode cX8_copyFrom 39 = .ok (.getfield 25, 3) := zq_2 zo_180 zkX8_copyFrom_32 7 rfl rfl 0 25 rfl rfl _ rfl
theorem dX8_copyFrom_42 : decode cX8_copyFrom 42 = .ok (.iload_n 2, 1) := zq_0 zo_28 zkX8_copyFrom_32 10 rfl rfl
theorem dX8_copyFrom_43 : decode cX8_copyFrom 43 = .ok (.aaload, 1) := zq_0 zo_50 zkX8_copyFrom_32 11 rfl rfl
theorem dX8_copyFrom_44 : decode cX8_copyFrom 44 = .ok (.aload_n 1, 1) := zq_0 zo_43 zkX8_copyFrom_32 12 rfl rfl
theorem dX8_copyFrom_45 : decode cX8_copyFrom 45 = .ok (.getfield 25, 3) := zq_2 zo_180 zkX8_copyFrom_32 13 rfl rfl 0 25 rfl rfl _ rfl
theorem dX8_copyFrom_48 : decode cX8_copyFrom 48 = .ok (.iload_n 2, 1) := zq_0 zo_28 zkX8_copyFrom_32 16 rfl rfl
theorem dX8_copyFrom_49 : decode cX8_copyFrom 49 = .ok (.aaload, 1) := zq_0 zo_50 zkX8_copyFrom_32 17 rfl rfl
theorem dX8_copyFrom_50 : decode cX8_copyFrom 50 = .ok (.invokevirtual 50, 3) := zq_2 zo_182 zkX8_copyFrom_32 18 rfl rfl 0 50 rfl rfl _ rfl
theorem dX8_copyFrom_53 : decode cX8_copyFrom 53 = .ok (.aload_n 0, 1) := zq_0 zo_42 zkX8_copyFrom_32 21 rfl rfl
theorem dX8_copyFrom_54 : decode cX8_copyFrom 54 = .ok (.getfield 29, 3) := zq_2 zo_180 zkX8_copyFrom_32 22 rfl rfl 0 29 rfl rfl _ rfl
theorem dX8_copyFrom_57 : decode cX8_copyFrom 57 = .ok (.iload_n 2, 1) := zq_0 zo_28 zkX8_copyFrom_32 25 rfl rfl
theorem dX8_copyFrom_58 : decode cX8_copyFrom 58 = .ok (.aaload, 1) := zq_0 zo_50 zkX8_copyFrom_32 26 rfl rfl
theorem dX8_copyFrom_59 : decode cX8_copyFrom 59 = .ok (.aload_n 1, 1) := zq_0 zo_43 zkX8_copyFrom_32 27 rfl rfl
theorem dX8_copyFrom_60 : decode cX8_copyFrom 60 = .ok (.getfield 29, 3) := zq_2 zo_180 zkX8_copyFrom_32 28 rfl rfl 0 29 rfl rfl _ rfl
theorem dX8_copyFrom_63 : decode cX8_copyFrom 63 = .ok (.iload_n 2, 1) := zq_0 zo_28 zkX8_copyFrom_32 31 rfl rfl
theorem zkX8_copyFrom_64 : zqc cX8_copyFrom 64 [50, 182, 0, 50, 132, 2, 1, 167, 255, 203, 43, 180, 0, 32, 3, 42, 180, 0, 32, 3, 6, 184, 0, 40, 42, 43, 180, 0, 53, 181, 0, 53, 42, 43] := zq_of 34 (by decide +kernel)
theorem dX8_copyFrom_64 : decode cX8_copyFrom 64 = .ok (.aaload, 1) := zq_0 zo_50 zkX8_copyFrom_64 0 rfl rfl
theorem dX8_copyFrom_65 : decode cX8_copyFrom 65 = .ok (.invokevirtual 50, 3) := zq_2 zo_182 zkX8_copyFrom_64 1 rfl rfl 0 50 rfl rfl _ rfl
theorem dX8_copyFrom_68 : decode cX8_copyFrom 68 = .ok (.iinc 2 1, 3) := zq_ii zo_132 zkX8_copyFrom_64 4 rfl rfl 2 1 rfl rfl _ (by decide +kernel)
theorem dX8_copyFrom_71 : decode cX8_copyFrom 71 = .ok (.goto (-53), 3) := zq_2s zo_167 zkX8_copyFrom_64 7 rfl rfl 255 203 rfl rfl _ (by decide +kernel)
theorem dX8_copyFrom_74 : decode cX8_copyFrom 74 = .ok (.aload_n 1, 1) := zq_0 zo_43 zkX8_copyFrom_64 10 rfl rfl
theorem dX8_copyFrom_75 : decode cX8_copyFrom 75 = .ok (.getfield 32, 3) := zq_2 zo_180 zkX8_copyFrom_64 11 rfl rfl 0 32 rfl rfl _ rfl
theorem dX8_copyFrom_78 : decode cX8_copyFrom 78 = .ok (.iconst 0, 1) := zq_0 zo_3 zkX8_copyFrom_64 14 rfl rfl
theorem dX8_copyFrom_79 : decode cX8_copyFrom 79 = .ok (.aload_n 0, 1) := zq_0 zo_42 zkX8_copyFrom_64 15 rfl rfl
theorem dX8_copyFrom_80 : decode cX8_copyFrom 80 = .ok (.getfield 32, 3) := zq_2 zo_180 zkX8_copyFrom_64 16 rfl rfl 0 32 rfl rfl _ rfl
theorem dX8_copyFrom_83 : decode cX8_copyFrom 83 = .ok (.iconst 0, 1) := zq_0 zo_3 zkX8_copyFrom_64 19 rfl rfl
theorem dX8_copyFrom_84 : decode cX8_copyFrom 84 = .ok (.iconst 3, 1) := zq_0 zo_6 zkX8_copyFrom_64 20 rfl rfl
theorem dX8_copyFrom_85 : decode cX8_copyFrom 85 = .ok (.invokestatic 40, 3) := zq_2 zo_184 zkX8_copyFrom_64 21 rfl rfl 0 40 rfl rfl _ rfl
theorem dX8_copyFrom_88 : decode cX8_copyFrom 88 = .ok (.aload_n 0, 1) := zq_0 zo_42 zkX8_copyFrom_64 24 rfl rfl
theorem dX8_copyFrom_89 : decode cX8_copyFrom 89 = .ok (.aload_n 1, 1) := zq_0 zo_43 zkX8_copyFrom_64 25 rfl rfl
theorem dX8_copyFrom_90 : decode cX8_copyFrom 90 = .ok (.getfield 53, 3) := zq_2 zo_180 zkX8_copyFrom_64 26 rfl rfl 0 53 rfl rfl _ rfl
theorem dX8_copyFrom_93 : decode cX8_copyFrom 93 = .ok (.putfield 53, 3) := zq_2 zo_181 zkX8_copyFrom_64 29 rfl rfl 0 53 rfl rfl _ rfl
theorem zkX8_copyFrom_96 : zqc cX8_copyFrom 96 [42, 43, 180, 0, 56, 181, 0, 56, 42, 43, 180, 0, 36, 181, 0, 36, 177] := zq_of 17 (by decide +kernel)
theorem dX8_copyFrom_96 : decode cX8_copyFrom 96 = .ok (.aload_n 0, 1) := zq_0 zo_42 zkX8_copyFrom_96 0 rfl rfl
theorem dX8_copyFrom_97 : decode cX8_copyFrom 97 = .ok (.aload_n 1, 1) := zq_0 zo_43 zkX8_copyFrom_96 1 rfl rfl
theorem dX8_copyFrom_98 : decode cX8_copyFrom 98 = .ok (.getfield 56, 3) := zq_2 zo_180 zkX8_copyFrom_96 2 rfl rfl 0 56 rfl rfl _ rfl
theorem dX8_copyFrom_101 : decode cX8_copyFrom 101 = .ok (.putfield 56, 3) := zq_2 zo_181 zkX8_copyFrom_96 5 rfl rfl 0 56 rfl rfl _ rfl
theorem dX8_copyFrom_104 : decode cX8_copyFrom 104 = .ok (.aload_n 0, 1) := zq_0 zo_42 zkX8_copyFrom_96 8 rfl rfl
theorem dX8_copyFrom_105 : decode cX8_copyFrom 105 = .ok (.aload_n 1, 1) := zq_0 zo_43 zkX8_copyFrom_96 9 rfl rfl
theorem dX8_copyFrom_106 : decode cX8_copyFrom 106 = .ok (.getfield 36, 3) := zq_2 zo_180 zkX8_copyFrom_96 10 rfl rfl 0 36 rfl rfl _ rfl
theorem dX8_copyFrom_109 : decode cX8_copyFrom 109 = .ok (.putfield 36, 3) := zq_2 zo_181 zkX8_copyFrom_96 13 rfl rfl 0 36 rfl rfl _ rfl
theorem dX8_copyFrom_112 : decode cX8_copyFrom 112 = .ok (.return_, 1) := zq_0 zo_177 zkX8_copyFrom_96 16 rfl rfl
theorem zkX8_append_0 : zqc cX8_append 0 [16, 24, 61, 28, 155, 0, 42, 42, 180, 0, 53, 17, 2, 88, 162, 0, 32, 42, 180, 0, 9, 42, 180, 0, 53, 27, 28, 124, 145, 84, 42, 89, 180, 0] := zq_of 34 (by decide +kernel)
theorem dX8_append_0 : decode cX8_append 0 = .ok (.bipush 24, 2) := zq_1s zo_16 zkX8_append_0 0 rfl rfl 24 rfl _ (by decide +kernel)
theorem dX8_append_2 : decode cX8_append 2 = .ok (.istore_n 2, 1) := zq_0 zo_61 zkX8_append_0 2 rfl rfl
theorem dX8_append_3 : decode cX8_append 3 = .ok (.iload_n 2, 1) := zq_0 zo_28 zkX8_append_0 3 rfl rfl
theorem dX8_append_4 : decode cX8_append 4 = .ok (.ifCond .lt 42, 3) := zq_2s zo_155 zkX8_append_0 4 rfl rfl 0 42 rfl rfl _ (by decide +kernel)
theorem dX8_append_7 : decode cX8_append 7 = .ok (.aload_n 0, 1) := zq_0 zo_42 zkX8_append_0 7 rfl rfl
theorem dX8_append_8 : decode cX8_append 8 = .ok (.getfield 53, 3) := zq_2 zo_180 zkX8_append_0 8 rfl rfl 0 53 rfl rfl _ rfl
theorem dX8_append_11 : decode cX8_append 11 = .ok (.sipush 600, 3) := zq_2s zo_17 zkX8_append_0 11 rfl rfl 2 88 rfl rfl _ (by decide +kernel)
theorem dX8_append_14 : decode cX8_append 14 = .ok (.if_icmp .ge 32, 3) := zq_2s zo_162 zkX8_append_0 14 rfl rfl 0 32 rfl rfl _ (by decide +kernel)
theorem dX8_append_17 : decode cX8_append 17 = .ok (.aload_n 0, 1) := zq_0 zo_42 zkX8_append_0 17 rfl rfl
theorem dX8_append_18 : decode cX8_append 18 = .ok (.getfield 9, 3) := zq_2 zo_180 zkX8_append_0 18 rfl rfl 0 9 rfl rfl _ rfl
theorem dX8_append_21 : decode cX8_append 21 = .ok (.aload_n 0, 1) := zq_0 zo_42 zkX8_append_0 21 rfl rfl
theorem dX8_append_22 : decode cX8_append 22 = .ok (.getfield 53, 3) := zq_2 zo_180 zkX8_append_0 22 rfl rfl 0 53 rfl rfl _ rfl
theorem dX8_append_25 : decode cX8_append 25 = .ok (.iload_n 1, 1) := zq_0 zo_27 zkX8_append_0 25 rfl rfl
theorem dX8_append_26 : decode cX8_append 26 = .ok (.iload_n 2, 1) := zq_0 zo_28 zkX8_append_0 26 rfl rfl
theorem dX8_append_27 : decode cX8_append 27 = .ok (.iushr, 1) := zq_0 zo_124 zkX8_append_0 27 rfl rfl
theorem dX8_append_28 : decode cX8_append 28 = .ok (.i2b, 1) := zq_0 zo_145 zkX8_append_0 28 rfl rfl
theorem dX8_append_29 : decode cX8_append 29 = .ok (.bastore, 1) := zq_0 zo_84 zkX8_append_0 29 rfl rfl
theorem dX8_append_30 : decode cX8_append 30 = .ok (.aload_n 0, 1) := zq_0 zo_42 zkX8_append_0 30 rfl rfl
theorem dX8_append_31 : decode cX8_append 31 = .ok (.dup, 1) := zq_0 zo_89 zkX8_append_0 31 rfl rfl
theorem zkX8_append_32 : zqc cX8_append 32 [180, 0, 53, 4, 96, 181, 0, 53, 132, 2, 248, 167, 255, 216, 177] := zq_of 15 (by decide +kernel)
theorem dX8_append_32 : decode cX8_append 32 = .ok (.getfield 53, 3) := zq_2 zo_180 zkX8_append_32 0 rfl rfl 0 53 rfl rfl _ rfl
theorem dX8_append_35 : decode cX8_append 35 = .ok (.iconst 1, 1) := zq_0 zo_4 zkX8_append_32 3 rfl rfl
theorem dX8_append_36 : decode cX8_append 36 = .ok (.iadd, 1) := zq_0 zo_96 zkX8_append_32 4 rfl rfl
theorem dX8_append_37 : decode cX8_append 37 = .ok (.putfield 53, 3) := zq_2 zo_181 zkX8_append_32 5 rfl rfl 0 53 rfl rfl _ rfl
theorem dX8_append_40 : decode cX8_append 40 = .ok (.iinc 2 (-8), 3) := zq_ii zo_132 zkX8_append_32 8 rfl rfl 2 248 rfl rfl _ (by decide +kernel)
theorem dX8_append_43 : decode cX8_append 43 = .ok (.goto (-40), 3) := zq_2s zo_167 zkX8_append_32 11 rfl rfl 255 216 rfl rfl _ (by decide +kernel)
theorem dX8_append_46 : decode cX8_append 46 = .ok (.return_, 1) := zq_0 zo_177 zkX8_append_32 14 rfl rfl
theorem zkX8_howMany_0 : zqc cX8_howMany 0 [27, 184, 0, 59, 153, 0, 12, 42, 180, 0, 32, 27, 46, 167, 0, 4, 3, 172] := zq_of 18 (by decide +kernel)
theorem dX8_howMany_0 : decode cX8_howMany 0 = .ok (.iload_n 1, 1) := zq_0 zo_27 zkX8_howMany_0 0 rfl rfl
theorem dX8_howMany_1 : decode cX8_howMany 1 = .ok (.invokestatic 59, 3) := zq_2 zo_184 zkX8_howMany_0 1 rfl rfl 0 59 rfl rfl _ rfl
theorem dX8_howMany_4 : decode cX8_howMany 4 = .ok (.ifCond .eq 12, 3) := zq_2s zo_153 zkX8_howMany_0 4 rfl rfl 0 12 rfl rfl _ (by decide +kernel)
theorem dX8_howMany_7 : decode cX8_howMany 7 = .ok (.aload_n 0, 1) := zq_0 zo_42 zkX8_howMany_0 7 rfl rfl
theorem dX8_howMany_8 : decode cX8_howMany 8 = .ok (.getfield 32, 3) := zq_2 zo_180 zkX8_howMany_0 8 rfl rfl 0 32 rfl rfl _ rfl
theorem dX8_howMany_11 : decode cX8_howMany 11 = .ok (.iload_n 1, 1) := zq_0 zo_27 zkX8_howMany_0 11 rfl rfl
theorem dX8_howMany_12 : decode cX8_howMany 12 = .ok (.iaload, 1) := zq_0 zo_46 zkX8_howMany_0 12 rfl rfl
theorem dX8_howMany_13 : decode cX8_howMany 13 = .ok (.goto 4, 3) := zq_2s zo_167 zkX8_howMany_0 13 rfl rfl 0 4 rfl rfl _ (by decide +kernel)
theorem dX8_howMany_16 : decode cX8_howMany 16 = .ok (.iconst 0, 1) := zq_0 zo_3 zkX8_howMany_0 16 rfl rfl
theorem dX8_howMany_17 : decode cX8_howMany 17 = .ok (.ireturn, 1) := zq_0 zo_172 zkX8_howMany_0 17 rfl rfl
theorem zkX8_has_0 : zqc cX8_has 0 [28, 155, 0, 22, 28, 42, 180, 0, 32, 27, 46, 162, 0, 12, 28, 5, 162, 0, 7, 4, 167, 0, 4, 3, 172] := zq_of 25 (by decide +kernel)
theorem dX8_has_0 : decode cX8_has 0 = .ok (.iload_n 2, 1) := zq_0 zo_28 zkX8_has_0 0 rfl rfl
theorem dX8_has_1 : decode cX8_has 1 = .ok (.ifCond .lt 22, 3) := zq_2s zo_155 zkX8_has_0 1 rfl rfl 0 22 rfl rfl _ (by decide +kernel)
theorem dX8_has_4 : decode cX8_has 4 = .ok (.iload_n 2, 1) := zq_0 zo_28 zkX8_has_0 4 rfl rfl
theorem dX8_has_5 : decode cX8_has 5 = .ok (.aload_n 0, 1) := zq_0 zo_42 zkX8_has_0 5 rfl rfl
theorem dX8_has_6 : decode cX8_has 6 = .ok (.getfield 32, 3) := zq_2 zo_180 zkX8_has_0 6 rfl rfl 0 32 rfl rfl _ rfl
theorem dX8_has_9 : decode cX8_has 9 = .ok (.iload_n 1, 1) := zq_0 zo_27 zkX8_has_0 9 rfl rfl
theorem dX8_has_10 : decode cX8_has 10 = .ok (.iaload, 1) := zq_0 zo_46 zkX8_has_0 10 rfl rfl
theorem dX8_has_11 : decode cX8_has 11 = .ok (.if_icmp .ge 12, 3) := zq_2s zo_162 zkX8_has_0 11 rfl rfl 0 12 rfl rfl _ (by decide +kernel)
theorem dX8_has_14 : decode cX8_has 14 = .ok (.iload_n 2, 1) := zq_0 zo_28 zkX8_has_0 14 rfl rfl
theorem dX8_has_15 : decode cX8_has 15 = .ok (.iconst 2, 1) := zq_0 zo_5 zkX8_has_0 15 rfl rfl
theorem dX8_has_16 : decode cX8_has 16 = .ok (.if_icmp .ge 7, 3) := zq_2s zo_162 zkX8_has_0 16 rfl rfl 0 7 rfl rfl _ (by decide +kernel)
theorem dX8_has_19 : decode cX8_has 19 = .ok (.iconst 1, 1) := zq_0 zo_4 zkX8_has_0 19 rfl rfl
theorem dX8_has_20 : decode cX8_has 20 = .ok (.goto 4, 3) := zq_2s zo_167 zkX8_has_0 20 rfl rfl 0 4 rfl rfl _ (by decide +kernel)
theorem dX8_has_23 : decode cX8_has 23 = .ok (.iconst 0, 1) := zq_0 zo_3 zkX8_has_0 23 rfl rfl
theorem dX8_has_24 : decode cX8_has 24 = .ok (.ireturn, 1) := zq_0 zo_172 zkX8_has_0 24 rfl rfl
theorem zkX8_lineAt_0 : zqc cX8_lineAt 0 [42, 3, 27, 182, 0, 63, 153, 0, 12, 42, 180, 0, 18, 27, 50, 167, 0, 4, 1, 176] := zq_of 20 (by decide +kernel)
theorem dX8_lineAt_0 : decode cX8_lineAt 0 = .ok (.aload_n 0, 1) := zq_0 zo_42 zkX8_lineAt_0 0 rfl rfl
theorem dX8_lineAt_1 : decode cX8_lineAt 1 = .ok (.iconst 0, 1) := zq_0 zo_3 zkX8_lineAt_0 1 rfl rfl
theorem dX8_lineAt_2 : decode cX8_lineAt 2 = .ok (.iload_n 1, 1) := zq_0 zo_27 zkX8_lineAt_0 2 rfl rfl
theorem dX8_lineAt_3 : decode cX8_lineAt 3 = .ok (.invokevirtual 63, 3) := zq_2 zo_182 zkX8_lineAt_0 3 rfl rfl 0 63 rfl rfl _ rfl
theorem dX8_lineAt_6 : decode cX8_lineAt 6 = .ok (.ifCond .eq 12, 3) := zq_2s zo_153 zkX8_lineAt_0 6 rfl rfl 0 12 rfl rfl _ (by decide +kernel)
theorem dX8_lineAt_9 : decode cX8_lineAt 9 = .ok (.aload_n 0, 1) := zq_0 zo_42 zkX8_lineAt_0 9 rfl rfl
theorem dX8_lineAt_10 : decode cX8_lineAt 10 = .ok (.getfield 18, 3) := zq_2 zo_180 zkX8_lineAt_0 10 rfl rfl 0 18 rfl rfl _ rfl
theorem dX8_lineAt_13 : decode cX8_lineAt 13 = .ok (.iload_n 1, 1) := zq_0 zo_27 zkX8_lineAt_0 13 rfl rfl
theorem dX8_lineAt_14 : decode cX8_lineAt 14 = .ok (.aaload, 1) := zq_0 zo_50 zkX8_lineAt_0 14 rfl rfl
theorem dX8_lineAt_15 : decode cX8_lineAt 15 = .ok (.goto 4, 3) := zq_2s zo_167 zkX8_lineAt_0 15 rfl rfl 0 4 rfl rfl _ (by decide +kernel)
theorem dX8_lineAt_18 : decode cX8_lineAt 18 = .ok (.aconst_null, 1) := zq_0 zo_1 zkX8_lineAt_0 18 rfl rfl
theorem dX8_lineAt_19 : decode cX8_lineAt 19 = .ok (.areturn, 1) := zq_0 zo_176 zkX8_lineAt_0 19 rfl rfl
theorem zkX8_planAt_0 : zqc cX8_planAt 0 [42, 4, 27, 182, 0, 63, 153, 0, 12, 42, 180, 0, 25, 27, 50, 167, 0, 4, 1, 176] := zq_of 20 (by decide +kernel)
theorem dX8_planAt_0 : decode cX8_planAt 0 = .ok (.aload_n 0, 1) := zq_0 zo_42 zkX8_planAt_0 0 rfl rfl
theorem dX8_planAt_1 : decode cX8_planAt 1 = .ok (.iconst 1, 1) := zq_0 zo_4 zkX8_planAt_0 1 rfl rfl
theorem dX8_planAt_2 : decode cX8_planAt 2 = .ok (.iload_n 1, 1) := zq_0 zo_27 zkX8_planAt_0 2 rfl rfl
theorem dX8_planAt_3 : decode cX8_planAt 3 = .ok (.invokevirtual 63, 3) := zq_2 zo_182 zkX8_planAt_0 3 rfl rfl 0 63 rfl rfl _ rfl
theorem dX8_planAt_6 : decode cX8_planAt 6 = .ok (.ifCond .eq 12, 3) := zq_2s zo_153 zkX8_planAt_0 6 rfl rfl 0 12 rfl rfl _ (by decide +kernel)
theorem dX8_planAt_9 : decode cX8_planAt 9 = .ok (.aload_n 0, 1) := zq_0 zo_42 zkX8_planAt_0 9 rfl rfl
theorem dX8_planAt_10 : decode cX8_planAt 10 = .ok (.getfield 25, 3) := zq_2 zo_180 zkX8_planAt_0 10 rfl rfl 0 25 rfl rfl _ rfl
theorem dX8_planAt_13 : decode cX8_planAt 13 = .ok (.iload_n 1, 1) := zq_0 zo_27 zkX8_planAt_0 13 rfl rfl
theorem dX8_planAt_14 : decode cX8_planAt 14 = .ok (.aaload, 1) := zq_0 zo_50 zkX8_planAt_0 14 rfl rfl
theorem dX8_planAt_15 : decode cX8_planAt 15 = .ok (.goto 4, 3) := zq_2s zo_167 zkX8_planAt_0 15 rfl rfl 0 4 rfl rfl _ (by decide +kernel)
theorem dX8_planAt_18 : decode cX8_planAt 18 = .ok (.aconst_null, 1) := zq_0 zo_1 zkX8_planAt_0 18 rfl rfl
theorem dX8_planAt_19 : decode cX8_planAt 19 = .ok (.areturn, 1) := zq_0 zo_176 zkX8_planAt_0 19 rfl rfl
theorem zkX8_logAt_0 : zqc cX8_logAt 0 [42, 5, 27, 182, 0, 63, 153, 0, 12, 42, 180, 0, 29, 27, 50, 167, 0, 4, 1, 176] := zq_of 20 (by decide +kernel)
theorem dX8_logAt_0 : decode cX8_logAt 0 = .ok (.aload_n 0, 1) := zq_0 zo_42 zkX8_logAt_0 0 rfl rfl
theorem dX8_logAt_1 : decode cX8_logAt 1 = .ok (.iconst 2, 1) := zq_0 zo_5 zkX8_logAt_0 1 rfl rfl
theorem dX8_logAt_2 : decode cX8_logAt 2 = .ok (.iload_n 1, 1) := zq_0 zo_27 zkX8_logAt_0 2 rfl rfl
theorem dX8_logAt_3 : decode cX8_logAt 3 = .ok (.invokevirtual 63, 3) := zq_2 zo_182 zkX8_logAt_0 3 rfl rfl 0 63 rfl rfl _ rfl
theorem dX8_logAt_6 : decode cX8_logAt 6 = .ok (.ifCond .eq 12, 3) := zq_2s zo_153 zkX8_logAt_0 6 rfl rfl 0 12 rfl rfl _ (by decide +kernel)
theorem dX8_logAt_9 : decode cX8_logAt 9 = .ok (.aload_n 0, 1) := zq_0 zo_42 zkX8_logAt_0 9 rfl rfl
theorem dX8_logAt_10 : decode cX8_logAt 10 = .ok (.getfield 29, 3) := zq_2 zo_180 zkX8_logAt_0 10 rfl rfl 0 29 rfl rfl _ rfl
theorem dX8_logAt_13 : decode cX8_logAt 13 = .ok (.iload_n 1, 1) := zq_0 zo_27 zkX8_logAt_0 13 rfl rfl
theorem dX8_logAt_14 : decode cX8_logAt 14 = .ok (.aaload, 1) := zq_0 zo_50 zkX8_logAt_0 14 rfl rfl
theorem dX8_logAt_15 : decode cX8_logAt 15 = .ok (.goto 4, 3) := zq_2s zo_167 zkX8_logAt_0 15 rfl rfl 0 4 rfl rfl _ (by decide +kernel)
theorem dX8_logAt_18 : decode cX8_logAt 18 = .ok (.aconst_null, 1) := zq_0 zo_1 zkX8_logAt_0 18 rfl rfl
theorem dX8_logAt_19 : decode cX8_logAt 19 = .ok (.areturn, 1) := zq_0 zo_176 zkX8_logAt_0 19 rfl rfl
theorem zkX8_put_0 : zqc cX8_put 0 [27, 184, 0, 59, 153, 0, 12, 28, 155, 0, 8, 28, 5, 161, 0, 4, 177, 27, 154, 0, 19, 42, 180, 0, 18, 28, 50, 45, 180, 0, 67, 182, 0, 46] := zq_of 34 (by decide +kernel)
theorem dX8_put_0 : decode cX8_put 0 = .ok (.iload_n 1, 1) := zq_0 zo_27 zkX8_put_0 0 rfl rfl
theorem dX8_put_1 : decode cX8_put 1 = .ok (.invokestatic 59, 3) := zq_2 zo_184 zkX8_put_0 1 rfl rfl 0 59 rfl rfl _ rfl
theorem dX8_put_4 : decode cX8_put 4 = .ok (.ifCond .eq 12, 3) := zq_2s zo_153 zkX8_put_0 4 rfl rfl 0 12 rfl rfl _ (by decide +kernel)
theorem dX8_put_7 : decode cX8_put 7 = .ok (.iload_n 2, 1) := zq_0 zo_28 zkX8_put_0 7 rfl rfl
theorem dX8_put_8 : decode cX8_put 8 = .ok (.ifCond .lt 8, 3) := zq_2s zo_155 zkX8_put_0 8 rfl rfl 0 8 rfl rfl _ (by decide +kernel)
theorem dX8_put_11 : decode cX8_put 11 = .ok (.iload_n 2, 1) := zq_0 zo_28 zkX8_put_0 11 rfl rfl
theorem dX8_put_12 : decode cX8_put 12 = .ok (.iconst 2, 1) := zq_0 zo_5 zkX8_put_0 12 rfl rfl
theorem dX8_put_13 : decode cX8_put 13 = .ok (.if_icmp .lt 4, 3) := zq_2s zo_161 zkX8_put_0 13 rfl rfl 0 4 rfl rfl _ (by decide +kernel)
theorem dX8_put_16 : decode cX8_put 16 = .ok (.return_, 1) := zq_0 zo_177 zkX8_put_0 16 rfl rfl
theorem dX8_put_17 : decode cX8_put 17 = .ok (.iload_n 1, 1) := zq_0 zo_27 zkX8_put_0 17 rfl rfl
theorem dX8_put_18 : decode cX8_put 18 = .ok (.ifCond .ne 19, 3) := zq_2s zo_154 zkX8_put_0 18 rfl rfl 0 19 rfl rfl _ (by decide +kernel)
theorem dX8_put_21 : decode cX8_put 21 = .ok (.aload_n 0, 1) := zq_0 zo_42 zkX8_put_0 21 rfl rfl
theorem dX8_put_22 : decode cX8_put 22 = .ok (.getfield 18, 3) := zq_2 zo_180 zkX8_put_0 22 rfl rfl 0 18 rfl rfl _ rfl
theorem dX8_put_25 : decode cX8_put 25 = .ok (.iload_n 2, 1) := zq_0 zo_28 zkX8_put_0 25 rfl rfl
theorem dX8_put_26 : decode cX8_put 26 = .ok (.aaload, 1) := zq_0 zo_50 zkX8_put_0 26 rfl rfl
theorem dX8_put_27 : decode cX8_put 27 = .ok (.aload_n 3, 1) := zq_0 zo_45 zkX8_put_0 27 rfl rfl
theorem dX8_put_28 : decode cX8_put 28 = .ok (.getfield 67, 3) := zq_2 zo_180 zkX8_put_0 28 rfl rfl 0 67 rfl rfl _ rfl
theorem dX8_put_31 : decode cX8_put 31 = .ok (.invokevirtual 46, 3) := zq_2 zo_182 zkX8_put_0 31 rfl rfl 0 46 rfl rfl _ rfl
theorem zkX8_put_32 : zqc cX8_put 32 [0, 46, 167, 0, 37, 27, 4, 160, 0, 19, 42, 180, 0, 25, 28, 50, 45, 180, 0, 73, 182, 0, 50, 167, 0, 16, 42, 180, 0, 29, 28, 50, 45, 180] := zq_of 34 (by decide +kernel)
theorem dX8_put_34 : decode cX8_put 34 = .ok (.goto 37, 3) := zq_2s zo_167 zkX8_put_32 2 rfl rfl 0 37 rfl rfl _ (by decide +kernel)
theorem dX8_put_37 : decode cX8_put 37 = .ok (.iload_n 1, 1) := zq_0 zo_27 zkX8_put_32 5 rfl rfl
theorem dX8_put_38 : decode cX8_put 38 = .ok (.iconst 1, 1) := zq_0 zo_4 zkX8_put_32 6 rfl rfl
theorem dX8_put_39 : decode cX8_put 39 = .ok (.if_icmp .ne 19, 3) := zq_2s zo_160 zkX8_put_32 7 rfl rfl 0 19 rfl rfl _ (by decide +kernel)
theorem dX8_put_42 : decode cX8_put 42 = .ok (.aload_n 0, 1) := zq_0 zo_42 zkX8_put_32 10 rfl rfl
theorem dX8_put_43 : decode cX8_put 43 = .ok (.getfield 25, 3) := zq_2 zo_180 zkX8_put_32 11 rfl rfl 0 25 rfl rfl _ rfl
theorem dX8_put_46 : decode cX8_put 46 = .ok (.iload_n 2, 1) := zq_0 zo_28 zkX8_put_32 14 rfl rfl
theorem dX8_put_47 : decode cX8_put 47 = .ok (.aaload, 1) := zq_0 zo_50 zkX8_put_32 15 rfl rfl
theorem dX8_put_48 : decode cX8_put 48 = .ok (.aload_n 3, 1) := zq_0 zo_45 zkX8_put_32 16 rfl rfl
theorem dX8_put_49 : decode cX8_put 49 = .ok (.getfield 73, 3) := zq_2 zo_180 zkX8_put_32 17 rfl rfl 0 73 rfl rfl _ rfl
theorem dX8_put_52 : decode cX8_put 52 = .ok (.invokevirtual 50, 3) := zq_2 zo_182 zkX8_put_32 20 rfl rfl 0 50 rfl rfl _ rfl
theorem dX8_put_55 : decode cX8_put 55 = .ok (.goto 16, 3) := zq_2s zo_167 zkX8_put_32 23 rfl rfl 0 16 rfl rfl _ (by decide +kernel)
theorem dX8_put_58 : decode cX8_put 58 = .ok (.aload_n 0, 1) := zq_0 zo_42 zkX8_put_32 26 rfl rfl
theorem dX8_put_59 : decode cX8_put 59 = .ok (.getfield 29, 3) := zq_2 zo_180 zkX8_put_32 27 rfl rfl 0 29 rfl rfl _ rfl
theorem dX8_put_62 : decode cX8_put 62 = .ok (.iload_n 2, 1) := zq_0 zo_28 zkX8_put_32 30 rfl rfl
theorem dX8_put_63 : decode cX8_put 63 = .ok (.aaload, 1) := zq_0 zo_50 zkX8_put_32 31 rfl rfl
theorem zkX8_put_64 : zqc cX8_put 64 [45, 180, 0, 73, 182, 0, 50, 42, 180, 0, 32, 27, 42, 180, 0, 32, 27, 46, 28, 4, 96, 184, 0, 77, 79, 177] := zq_of 26 (by decide +kernel)
theorem dX8_put_64 : decode cX8_put 64 = .ok (.aload_n 3, 1) := zq_0 zo_45 zkX8_put_64 0 rfl rfl
theorem dX8_put_65 : decode cX8_put 65 = .ok (.getfield 73, 3) := zq_2 zo_180 zkX8_put_64 1 rfl rfl 0 73 rfl rfl _ rfl
theorem dX8_put_68 : decode cX8_put 68 = .ok (.invokevirtual 50, 3) := zq_2 zo_182 zkX8_put_64 4 rfl rfl 0 50 rfl rfl _ rfl
theorem dX8_put_71 : decode cX8_put 71 = .ok (.aload_n 0, 1) := zq_0 zo_42 zkX8_put_64 7 rfl rfl
theorem dX8_put_72 : decode cX8_put 72 = .ok (.getfield 32, 3) := zq_2 zo_180 zkX8_put_64 8 rfl rfl 0 32 rfl rfl _ rfl
theorem dX8_put_75 : decode cX8_put 75 = .ok (.iload_n 1, 1) := zq_0 zo_27 zkX8_put_64 11 rfl rfl
theorem dX8_put_76 : decode cX8_put 76 = .ok (.aload_n 0, 1) := zq_0 zo_42 zkX8_put_64 12 rfl rfl
theorem dX8_put_77 : decode cX8_put 77 = .ok (.getfield 32, 3) := zq_2 zo_180 zkX8_put_64 13 rfl rfl 0 32 rfl rfl _ rfl
theorem dX8_put_80 : decode cX8_put 80 = .ok (.iload_n 1, 1) := zq_0 zo_27 zkX8_put_64 16 rfl rfl
theorem dX8_put_81 : decode cX8_put 81 = .ok (.iaload, 1) := zq_0 zo_46 zkX8_put_64 17 rfl rfl
theorem dX8_put_82 : decode cX8_put 82 = .ok (.iload_n 2, 1) := zq_0 zo_28 zkX8_put_64 18 rfl rfl
theorem dX8_put_83 : decode cX8_put 83 = .ok (.iconst 1, 1) := zq_0 zo_4 zkX8_put_64 19 rfl rfl
theorem dX8_put_84 : decode cX8_put 84 = .ok (.iadd, 1) := zq_0 zo_96 zkX8_put_64 20 rfl rfl
theorem dX8_put_85 : decode cX8_put 85 = .ok (.invokestatic 77, 3) := zq_2 zo_184 zkX8_put_64 21 rfl rfl 0 77 rfl rfl _ rfl
theorem dX8_put_88 : decode cX8_put 88 = .ok (.iastore, 1) := zq_0 zo_79 zkX8_put_64 24 rfl rfl
theorem dX8_put_89 : decode cX8_put 89 = .ok (.return_, 1) := zq_0 zo_177 zkX8_put_64 25 rfl rfl
theorem zkJ6_bitCount_0f7a4_0 : zqc cJ6_bitCount_0f7a4 0 [26, 26, 4, 124, 19, 1, 9, 126, 100, 59, 26, 19, 1, 10, 126, 26, 5, 124, 19, 1, 10, 126, 96, 59, 26, 26, 7, 124, 96, 19, 1, 11, 126, 59] := zq_of 34 (by decide +kernel)
theorem dJ6_bitCount_0f7a4_0 : decode cJ6_bitCount_0f7a4 0 = .ok (.iload_n 0, 1) := zq_0 zo_26 zkJ6_bitCount_0f7a4_0 0 rfl rfl
theorem dJ6_bitCount_0f7a4_1 : decode cJ6_bitCount_0f7a4 1 = .ok (.iload_n 0, 1) := zq_0 zo_26 zkJ6_bitCount_0f7a4_0 1 rfl rfl
theorem dJ6_bitCount_0f7a4_2 : decode cJ6_bitCount_0f7a4 2 = .ok (.iconst 1, 1) := zq_0 zo_4 zkJ6_bitCount_0f7a4_0 2 rfl rfl
theorem dJ6_bitCount_0f7a4_3 : decode cJ6_bitCount_0f7a4 3 = .ok (.iushr, 1) := zq_0 zo_124 zkJ6_bitCount_0f7a4_0 3 rfl rfl
theorem dJ6_bitCount_0f7a4_4 : decode cJ6_bitCount_0f7a4 4 = .ok (.ldc_w 265, 3) := zq_2 zo_19 zkJ6_bitCount_0f7a4_0 4 rfl rfl 1 9 rfl rfl _ rfl
theorem dJ6_bitCount_0f7a4_7 : decode cJ6_bitCount_0f7a4 7 = .ok (.iand, 1) := zq_0 zo_126 zkJ6_bitCount_0f7a4_0 7 rfl rfl
theorem dJ6_bitCount_0f7a4_8 : decode cJ6_bitCount_0f7a4 8 = .ok (.isub, 1) := zq_0 zo_100 zkJ6_bitCount_0f7a4_0 8 rfl rfl
theorem dJ6_bitCount_0f7a4_9 : decode cJ6_bitCount_0f7a4 9 = .ok (.istore_n 0, 1) := zq_0 zo_59 zkJ6_bitCount_0f7a4_0 9 rfl rfl
theorem dJ6_bitCount_0f7a4_10 : decode cJ6_bitCount_0f7a4 10 = .ok (.iload_n 0, 1) := zq_0 zo_26 zkJ6_bitCount_0f7a4_0 10 rfl rfl
theorem dJ6_bitCount_0f7a4_11 : decode cJ6_bitCount_0f7a4 11 = .ok (.ldc_w 266, 3) := zq_2 zo_19 zkJ6_bitCount_0f7a4_0 11 rfl rfl 1 10 rfl rfl _ rfl
theorem dJ6_bitCount_0f7a4_14 : decode cJ6_bitCount_0f7a4 14 = .ok (.iand, 1) := zq_0 zo_126 zkJ6_bitCount_0f7a4_0 14 rfl rfl
theorem dJ6_bitCount_0f7a4_15 : decode cJ6_bitCount_0f7a4 15 = .ok (.iload_n 0, 1) := zq_0 zo_26 zkJ6_bitCount_0f7a4_0 15 rfl rfl
theorem dJ6_bitCount_0f7a4_16 : decode cJ6_bitCount_0f7a4 16 = .ok (.iconst 2, 1) := zq_0 zo_5 zkJ6_bitCount_0f7a4_0 16 rfl rfl
theorem dJ6_bitCount_0f7a4_17 : decode cJ6_bitCount_0f7a4 17 = .ok (.iushr, 1) := zq_0 zo_124 zkJ6_bitCount_0f7a4_0 17 rfl rfl
theorem dJ6_bitCount_0f7a4_18 : decode cJ6_bitCount_0f7a4 18 = .ok (.ldc_w 266, 3) := zq_2 zo_19 zkJ6_bitCount_0f7a4_0 18 rfl rfl 1 10 rfl rfl _ rfl
theorem dJ6_bitCount_0f7a4_21 : decode cJ6_bitCount_0f7a4 21 = .ok (.iand, 1) := zq_0 zo_126 zkJ6_bitCount_0f7a4_0 21 rfl rfl
theorem dJ6_bitCount_0f7a4_22 : decode cJ6_bitCount_0f7a4 22 = .ok (.iadd, 1) := zq_0 zo_96 zkJ6_bitCount_0f7a4_0 22 rfl rfl
theorem dJ6_bitCount_0f7a4_23 : decode cJ6_bitCount_0f7a4 23 = .ok (.istore_n 0, 1) := zq_0 zo_59 zkJ6_bitCount_0f7a4_0 23 rfl rfl
theorem dJ6_bitCount_0f7a4_24 : decode cJ6_bitCount_0f7a4 24 = .ok (.iload_n 0, 1) := zq_0 zo_26 zkJ6_bitCount_0f7a4_0 24 rfl rfl
theorem dJ6_bitCount_0f7a4_25 : decode cJ6_bitCount_0f7a4 25 = .ok (.iload_n 0, 1) := zq_0 zo_26 zkJ6_bitCount_0f7a4_0 25 rfl rfl
theorem dJ6_bitCount_0f7a4_26 : decode cJ6_bitCount_0f7a4 26 = .ok (.iconst 4, 1) := zq_0 zo_7 zkJ6_bitCount_0f7a4_0 26 rfl rfl
theorem dJ6_bitCount_0f7a4_27 : decode cJ6_bitCount_0f7a4 27 = .ok (.iushr, 1) := zq_0 zo_124 zkJ6_bitCount_0f7a4_0 27 rfl rfl
theorem dJ6_bitCount_0f7a4_28 : decode cJ6_bitCount_0f7a4 28 = .ok (.iadd, 1) := zq_0 zo_96 zkJ6_bitCount_0f7a4_0 28 rfl rfl
theorem dJ6_bitCount_0f7a4_29 : decode cJ6_bitCount_0f7a4 29 = .ok (.ldc_w 267, 3) := zq_2 zo_19 zkJ6_bitCount_0f7a4_0 29 rfl rfl 1 11 rfl rfl _ rfl
theorem zkJ6_bitCount_0f7a4_32 : zqc cJ6_bitCount_0f7a4 32 [126, 59, 26, 26, 16, 8, 124, 96, 59, 26, 26, 16, 16, 124, 96, 59, 26, 16, 63, 126, 172] := zq_of 21 (by decide +kernel)
theorem dJ6_bitCount_0f7a4_32 : decode cJ6_bitCount_0f7a4 32 = .ok (.iand, 1) := zq_0 zo_126 zkJ6_bitCount_0f7a4_32 0 rfl rfl
theorem dJ6_bitCount_0f7a4_33 : decode cJ6_bitCount_0f7a4 33 = .ok (.istore_n 0, 1) := zq_0 zo_59 zkJ6_bitCount_0f7a4_32 1 rfl rfl
theorem dJ6_bitCount_0f7a4_34 : decode cJ6_bitCount_0f7a4 34 = .ok (.iload_n 0, 1) := zq_0 zo_26 zkJ6_bitCount_0f7a4_32 2 rfl rfl
theorem dJ6_bitCount_0f7a4_35 : decode cJ6_bitCount_0f7a4 35 = .ok (.iload_n 0, 1) := zq_0 zo_26 zkJ6_bitCount_0f7a4_32 3 rfl rfl
theorem dJ6_bitCount_0f7a4_36 : decode cJ6_bitCount_0f7a4 36 = .ok (.bipush 8, 2) := zq_1s zo_16 zkJ6_bitCount_0f7a4_32 4 rfl rfl 8 rfl _ (by decide +kernel)
theorem dJ6_bitCount_0f7a4_38 : decode cJ6_bitCount_0f7a4 38 = .ok (.iushr, 1) := zq_0 zo_124 zkJ6_bitCount_0f7a4_32 6 rfl rfl
theorem dJ6_bitCount_0f7a4_39 : decode cJ6_bitCount_0f7a4 39 = .ok (.iadd, 1) := zq_0 zo_96 zkJ6_bitCount_0f7a4_32 7 rfl rfl
theorem dJ6_bitCount_0f7a4_40 : decode cJ6_bitCount_0f7a4 40 = .ok (.istore_n 0, 1) := zq_0 zo_59 zkJ6_bitCount_0f7a4_32 8 rfl rfl
theorem dJ6_bitCount_0f7a4_41 : decode cJ6_bitCount_0f7a4 41 = .ok (.iload_n 0, 1) := zq_0 zo_26 zkJ6_bitCount_0f7a4_32 9 rfl rfl
theorem dJ6_bitCount_0f7a4_42 : decode cJ6_bitCount_0f7a4 42 = .ok (.iload_n 0, 1) := zq_0 zo_26 zkJ6_bitCount_0f7a4_32 10 rfl rfl
theorem dJ6_bitCount_0f7a4_43 : decode cJ6_bitCount_0f7a4 43 = .ok (.bipush 16, 2) := zq_1s zo_16 zkJ6_bitCount_0f7a4_32 11 rfl rfl 16 rfl _ (by decide +kernel)
theorem dJ6_bitCount_0f7a4_45 : decode cJ6_bitCount_0f7a4 45 = .ok (.iushr, 1) := zq_0 zo_124 zkJ6_bitCount_0f7a4_32 13 rfl rfl
theorem dJ6_bitCount_0f7a4_46 : decode cJ6_bitCount_0f7a4 46 = .ok (.iadd, 1) := zq_0 zo_96 zkJ6_bitCount_0f7a4_32 14 rfl rfl
theorem dJ6_bitCount_0f7a4_47 : decode cJ6_bitCount_0f7a4 47 = .ok (.istore_n 0, 1) := zq_0 zo_59 zkJ6_bitCount_0f7a4_32 15 rfl rfl
theorem dJ6_bitCount_0f7a4_48 : decode cJ6_bitCount_0f7a4 48 = .ok (.iload_n 0, 1) := zq_0 zo_26 zkJ6_bitCount_0f7a4_32 16 rfl rfl
theorem dJ6_bitCount_0f7a4_49 : decode cJ6_bitCount_0f7a4 49 = .ok (.bipush 63, 2) := zq_1s zo_16 zkJ6_bitCount_0f7a4_32 17 rfl rfl 63 rfl _ (by decide +kernel)
theorem dJ6_bitCount_0f7a4_51 : decode cJ6_bitCount_0f7a4 51 = .ok (.iand, 1) := zq_0 zo_126 zkJ6_bitCount_0f7a4_32 19 rfl rfl
theorem dJ6_bitCount_0f7a4_52 : decode cJ6_bitCount_0f7a4 52 = .ok (.ireturn, 1) := zq_0 zo_172 zkJ6_bitCount_0f7a4_32 20 rfl rfl
theorem zkJ9_max_7cf53_0 : zqc cJ9_max_7cf53 0 [26, 27, 161, 0, 7, 26, 167, 0, 4, 27, 172] := zq_of 11 (by decide +kernel)
theorem dJ9_max_7cf53_0 : decode cJ9_max_7cf53 0 = .ok (.iload_n 0, 1) := zq_0 zo_26 zkJ9_max_7cf53_0 0 rfl rfl
theorem dJ9_max_7cf53_1 : decode cJ9_max_7cf53 1 = .ok (.iload_n 1, 1) := zq_0 zo_27 zkJ9_max_7cf53_0 1 rfl rfl
theorem dJ9_max_7cf53_2 : decode cJ9_max_7cf53 2 = .ok (.if_icmp .lt 7, 3) := zq_2s zo_161 zkJ9_max_7cf53_0 2 rfl rfl 0 7 rfl rfl _ (by decide +kernel)
theorem dJ9_max_7cf53_5 : decode cJ9_max_7cf53 5 = .ok (.iload_n 0, 1) := zq_0 zo_26 zkJ9_max_7cf53_0 5 rfl rfl
theorem dJ9_max_7cf53_6 : decode cJ9_max_7cf53 6 = .ok (.goto 4, 3) := zq_2s zo_167 zkJ9_max_7cf53_0 6 rfl rfl 0 4 rfl rfl _ (by decide +kernel)
theorem dJ9_max_7cf53_9 : decode cJ9_max_7cf53 9 = .ok (.iload_n 1, 1) := zq_0 zo_27 zkJ9_max_7cf53_0 9 rfl rfl
theorem dJ9_max_7cf53_10 : decode cJ9_max_7cf53 10 = .ok (.ireturn, 1) := zq_0 zo_172 zkJ9_max_7cf53_0 10 rfl rfl
theorem zkJ9_min_7cf53_0 : zqc cJ9_min_7cf53 0 [26, 27, 163, 0, 7, 26, 167, 0, 4, 27, 172] := zq_of 11 (by decide +kernel)
theorem dJ9_min_7cf53_0 : decode cJ9_min_7cf53 0 = .ok (.iload_n 0, 1) := zq_0 zo_26 zkJ9_min_7cf53_0 0 rfl rfl
theorem dJ9_min_7cf53_1 : decode cJ9_min_7cf53 1 = .ok (.iload_n 1, 1) := zq_0 zo_27 zkJ9_min_7cf53_0 1 rfl rfl
theorem dJ9_min_7cf53_2 : decode cJ9_min_7cf53 2 = .ok (.if_icmp .gt 7, 3) := zq_2s zo_163 zkJ9_min_7cf53_0 2 rfl rfl 0 7 rfl rfl _ (by decide +kernel)
theorem dJ9_min_7cf53_5 : decode cJ9_min_7cf53 5 = .ok (.iload_n 0, 1) := zq_0 zo_26 zkJ9_min_7cf53_0 5 rfl rfl
theorem dJ9_min_7cf53_6 : decode cJ9_min_7cf53 6 = .ok (.goto 4, 3) := zq_2s zo_167 zkJ9_min_7cf53_0 6 rfl rfl 0 4 rfl rfl _ (by decide +kernel)
theorem dJ9_min_7cf53_9 : decode cJ9_min_7cf53 9 = .ok (.iload_n 1, 1) := zq_0 zo_27 zkJ9_min_7cf53_0 9 rfl rfl
theorem dJ9_min_7cf53_10 : decode cJ9_min_7cf53 10 = .ok (.ireturn, 1) := zq_0 zo_172 zkJ9_min_7cf53_0 10 rfl rfl
theorem zkJ0_length_8abf5_0 : zqc cJ0_length_8abf5 0 [42, 180, 0, 9, 190, 42, 182, 1, 79, 122, 172] := zq_of 11 (by decide +kernel)
theorem dJ0_length_8abf5_0 : decode cJ0_length_8abf5 0 = .ok (.aload_n 0, 1) := zq_0 zo_42 zkJ0_length_8abf5_0 0 rfl rfl
theorem dJ0_length_8abf5_1 : decode cJ0_length_8abf5 1 = .ok (.getfield 9, 3) := zq_2 zo_180 zkJ0_length_8abf5_0 1 rfl rfl 0 9 rfl rfl _ rfl
theorem dJ0_length_8abf5_4 : decode cJ0_length_8abf5 4 = .ok (.arraylength, 1) := zq_0 zo_190 zkJ0_length_8abf5_0 4 rfl rfl
theorem dJ0_length_8abf5_5 : decode cJ0_length_8abf5 5 = .ok (.aload_n 0, 1) := zq_0 zo_42 zkJ0_length_8abf5_0 5 rfl rfl
theorem dJ0_length_8abf5_6 : decode cJ0_length_8abf5 6 = .ok (.invokevirtual 335, 3) := zq_2 zo_182 zkJ0_length_8abf5_0 6 rfl rfl 1 79 rfl rfl _ rfl
theorem dJ0_length_8abf5_9 : decode cJ0_length_8abf5 9 = .ok (.ishr, 1) := zq_0 zo_122 zkJ0_length_8abf5_0 9 rfl rfl
theorem dJ0_length_8abf5_10 : decode cJ0_length_8abf5 10 = .ok (.ireturn, 1) := zq_0 zo_172 zkJ0_length_8abf5_0 10 rfl rfl
theorem zkJ0_charAt_5068e_0 : zqc cJ0_charAt_5068e 0 [42, 182, 1, 236, 153, 0, 12, 42, 180, 0, 9, 27, 184, 1, 239, 172, 42, 180, 0, 9, 27, 184, 1, 242, 172] := zq_of 25 (by decide +kernel)
theorem dJ0_charAt_5068e_0 : decode cJ0_charAt_5068e 0 = .ok (.aload_n 0, 1) := zq_0 zo_42 zkJ0_charAt_5068e_0 0 rfl rfl
theorem dJ0_charAt_5068e_1 : decode cJ0_charAt_5068e 1 = .ok (.invokevirtual 492, 3) := zq_2 zo_182 zkJ0_charAt_5068e_0 1 rfl rfl 1 236 rfl rfl _ rfl
theorem dJ0_charAt_5068e_4 : decode cJ0_charAt_5068e 4 = .ok (.ifCond .eq 12, 3) := zq_2s zo_153 zkJ0_charAt_5068e_0 4 rfl rfl 0 12 rfl rfl _ (by decide +kernel)
theorem dJ0_charAt_5068e_7 : decode cJ0_charAt_5068e 7 = .ok (.aload_n 0, 1) := zq_0 zo_42 zkJ0_charAt_5068e_0 7 rfl rfl
theorem dJ0_charAt_5068e_8 : decode cJ0_charAt_5068e 8 = .ok (.getfield 9, 3) := zq_2 zo_180 zkJ0_charAt_5068e_0 8 rfl rfl 0 9 rfl rfl _ rfl
theorem dJ0_charAt_5068e_11 : decode cJ0_charAt_5068e 11 = .ok (.iload_n 1, 1) := zq_0 zo_27 zkJ0_charAt_5068e_0 11 rfl rfl
theorem dJ0_charAt_5068e_12 : decode cJ0_charAt_5068e 12 = .ok (.invokestatic 495, 3) := zq_2 zo_184 zkJ0_charAt_5068e_0 12 rfl rfl 1 239 rfl rfl _ rfl
theorem dJ0_charAt_5068e_15 : decode cJ0_charAt_5068e 15 = .ok (.ireturn, 1) := zq_0 zo_172 zkJ0_charAt_5068e_0 15 rfl rfl
theorem dJ0_charAt_5068e_16 : decode cJ0_charAt_5068e 16 = .ok (.aload_n 0, 1) := zq_0 zo_42 zkJ0_charAt_5068e_0 16 rfl rfl
theorem dJ0_charAt_5068e_17 : decode cJ0_charAt_5068e 17 = .ok (.getfield 9, 3) := zq_2 zo_180 zkJ0_charAt_5068e_0 17 rfl rfl 0 9 rfl rfl _ rfl
theorem dJ0_charAt_5068e_20 : decode cJ0_charAt_5068e 20 = .ok (.iload_n 1, 1) := zq_0 zo_27 zkJ0_charAt_5068e_0 20 rfl rfl
theorem dJ0_charAt_5068e_21 : decode cJ0_charAt_5068e 21 = .ok (.invokestatic 498, 3) := zq_2 zo_184 zkJ0_charAt_5068e_0 21 rfl rfl 1 242 rfl rfl _ rfl
theorem dJ0_charAt_5068e_24 : decode cJ0_charAt_5068e 24 = .ok (.ireturn, 1) := zq_0 zo_172 zkJ0_charAt_5068e_0 24 rfl rfl
theorem zkJ0_coder_7d493_0 : zqc cJ0_coder_7d493 0 [178, 0, 38, 153, 0, 10, 42, 180, 0, 15, 167, 0, 4, 4, 172] := zq_of 15 (by decide +kernel)
theorem dJ0_coder_7d493_0 : decode cJ0_coder_7d493 0 = .ok (.getstatic 38, 3) := zq_2 zo_178 zkJ0_coder_7d493_0 0 rfl rfl 0 38 rfl rfl _ rfl
theorem dJ0_coder_7d493_3 : decode cJ0_coder_7d493 3 = .ok (.ifCond .eq 10, 3) := zq_2s zo_153 zkJ0_coder_7d493_0 3 rfl rfl 0 10 rfl rfl _ (by decide +kernel)
theorem dJ0_coder_7d493_6 : decode cJ0_coder_7d493 6 = .ok (.aload_n 0, 1) := zq_0 zo_42 zkJ0_coder_7d493_0 6 rfl rfl
theorem dJ0_coder_7d493_7 : decode cJ0_coder_7d493 7 = .ok (.getfield 15, 3) := zq_2 zo_180 zkJ0_coder_7d493_0 7 rfl rfl 0 15 rfl rfl _ rfl
theorem dJ0_coder_7d493_10 : decode cJ0_coder_7d493 10 = .ok (.goto 4, 3) := zq_2s zo_167 zkJ0_coder_7d493_0 10 rfl rfl 0 4 rfl rfl _ (by decide +kernel)
theorem dJ0_coder_7d493_13 : decode cJ0_coder_7d493 13 = .ok (.iconst 1, 1) := zq_0 zo_4 zkJ0_coder_7d493_0 13 rfl rfl
theorem dJ0_coder_7d493_14 : decode cJ0_coder_7d493 14 = .ok (.ireturn, 1) := zq_0 zo_172 zkJ0_coder_7d493_0 14 rfl rfl
theorem zkJ0_isLatin1_aae02_0 : zqc cJ0_isLatin1_aae02 0 [178, 0, 38, 153, 0, 14, 42, 180, 0, 15, 154, 0, 7, 4, 167, 0, 4, 3, 172] := zq_of 19 (by decide +kernel)
theorem dJ0_isLatin1_aae02_0 : decode cJ0_isLatin1_aae02 0 = .ok (.getstatic 38, 3) := zq_2 zo_178 zkJ0_isLatin1_aae02_0 0 rfl rfl 0 38 rfl rfl _ rfl
theorem dJ0_isLatin1_aae02_3 : decode cJ0_isLatin1_aae02 3 = .ok (.ifCond .eq 14, 3) := zq_2s zo_153 zkJ0_isLatin1_aae02_0 3 rfl rfl 0 14 rfl rfl _ (by decide +kernel)
theorem dJ0_isLatin1_aae02_6 : decode cJ0_isLatin1_aae02 6 = .ok (.aload_n 0, 1) := zq_0 zo_42 zkJ0_isLatin1_aae02_0 6 rfl rfl
theorem dJ0_isLatin1_aae02_7 : decode cJ0_isLatin1_aae02 7 = .ok (.getfield 15, 3) := zq_2 zo_180 zkJ0_isLatin1_aae02_0 7 rfl rfl 0 15 rfl rfl _ rfl
theorem dJ0_isLatin1_aae02_10 : decode cJ0_isLatin1_aae02 10 = .ok (.ifCond .ne 7, 3) := zq_2s zo_154 zkJ0_isLatin1_aae02_0 10 rfl rfl 0 7 rfl rfl _ (by decide +kernel)
theorem dJ0_isLatin1_aae02_13 : decode cJ0_isLatin1_aae02 13 = .ok (.iconst 1, 1) := zq_0 zo_4 zkJ0_isLatin1_aae02_0 13 rfl rfl
theorem dJ0_isLatin1_aae02_14 : decode cJ0_isLatin1_aae02 14 = .ok (.goto 4, 3) := zq_2s zo_167 zkJ0_isLatin1_aae02_0 14 rfl rfl 0 4 rfl rfl _ (by decide +kernel)
theorem dJ0_isLatin1_aae02_17 : decode cJ0_isLatin1_aae02 17 = .ok (.iconst 0, 1) := zq_0 zo_3 zkJ0_isLatin1_aae02_0 17 rfl rfl
theorem dJ0_isLatin1_aae02_18 : decode cJ0_isLatin1_aae02 18 = .ok (.ireturn, 1) := zq_0 zo_172 zkJ0_isLatin1_aae02_0 18 rfl rfl
theorem zkJ0_checkIndex_df160_0 : zqc cJ0_checkIndex_df160 0 [26, 27, 178, 4, 29, 184, 4, 35, 87, 177] := zq_of 10 (by decide +kernel)
theorem dJ0_checkIndex_df160_0 : decode cJ0_checkIndex_df160 0 = .ok (.iload_n 0, 1) := zq_0 zo_26 zkJ0_checkIndex_df160_0 0 rfl rfl
theorem dJ0_checkIndex_df160_1 : decode cJ0_checkIndex_df160 1 = .ok (.iload_n 1, 1) := zq_0 zo_27 zkJ0_checkIndex_df160_0 1 rfl rfl
theorem dJ0_checkIndex_df160_2 : decode cJ0_checkIndex_df160 2 = .ok (.getstatic 1053, 3) := zq_2 zo_178 zkJ0_checkIndex_df160_0 2 rfl rfl 4 29 rfl rfl _ rfl
theorem dJ0_checkIndex_df160_5 : decode cJ0_checkIndex_df160 5 = .ok (.invokestatic 1059, 3) := zq_2 zo_184 zkJ0_checkIndex_df160_0 5 rfl rfl 4 35 rfl rfl _ rfl
theorem dJ0_checkIndex_df160_8 : decode cJ0_checkIndex_df160 8 = .ok (.pop, 1) := zq_0 zo_87 zkJ0_checkIndex_df160_0 8 rfl rfl
theorem dJ0_checkIndex_df160_9 : decode cJ0_checkIndex_df160 9 = .ok (.return_, 1) := zq_0 zo_177 zkJ0_checkIndex_df160_0 9 rfl rfl
theorem zkJ1_charAt_3b067_0 : zqc cJ1_charAt_3b067 0 [27, 42, 190, 184, 0, 9, 42, 27, 51, 17, 0, 255, 126, 146, 172] := zq_of 15 (by decide +kernel)
theorem dJ1_charAt_3b067_0 : decode cJ1_charAt_3b067 0 = .ok (.iload_n 1, 1) := zq_0 zo_27 zkJ1_charAt_3b067_0 0 rfl rfl
theorem dJ1_charAt_3b067_1 : decode cJ1_charAt_3b067 1 = .ok (.aload_n 0, 1) := zq_0 zo_42 zkJ1_charAt_3b067_0 1 rfl rfl
theorem dJ1_charAt_3b067_2 : decode cJ1_charAt_3b067 2 = .ok (.arraylength, 1) := zq_0 zo_190 zkJ1_charAt_3b067_0 2 rfl rfl
theorem dJ1_charAt_3b067_3 : decode cJ1_charAt_3b067 3 = .ok (.invokestatic 9, 3) := zq_2 zo_184 zkJ1_charAt_3b067_0 3 rfl rfl 0 9 rfl rfl _ rfl
theorem dJ1_charAt_3b067_6 : decode cJ1_charAt_3b067 6 = .ok (.aload_n 0, 1) := zq_0 zo_42 zkJ1_charAt_3b067_0 6 rfl rfl
theorem dJ1_charAt_3b067_7 : decode cJ1_charAt_3b067 7 = .ok (.iload_n 1, 1) := zq_0 zo_27 zkJ1_charAt_3b067_0 7 rfl rfl
theorem dJ1_charAt_3b067_8 : decode cJ1_charAt_3b067 8 = .ok (.baload, 1) := zq_0 zo_51 zkJ1_charAt_3b067_0 8 rfl rfl
theorem dJ1_charAt_3b067_9 : decode cJ1_charAt_3b067 9 = .ok (.sipush 255, 3) := zq_2s zo_17 zkJ1_charAt_3b067_0 9 rfl rfl 0 255 rfl rfl _ (by decide +kernel)
theorem dJ1_charAt_3b067_12 : decode cJ1_charAt_3b067 12 = .ok (.iand, 1) := zq_0 zo_126 zkJ1_charAt_3b067_0 12 rfl rfl
theorem dJ1_charAt_3b067_13 : decode cJ1_charAt_3b067 13 = .ok (.i2c, 1) := zq_0 zo_146 zkJ1_charAt_3b067_0 13 rfl rfl
theorem dJ1_charAt_3b067_14 : decode cJ1_charAt_3b067 14 = .ok (.ireturn, 1) := zq_0 zo_172 zkJ1_charAt_3b067_0 14 rfl rfl
theorem zkJ2_getChar_3b067_0 : zqc cJ2_getChar_3b067 0 [178, 0, 44, 154, 0, 25, 27, 155, 0, 11, 27, 42, 184, 0, 48, 161, 0, 13, 187, 0, 52, 89, 18, 54, 183, 0, 56, 191, 27, 4, 120, 60, 42, 27] := zq_of 34 (by decide +kernel)
theorem dJ2_getChar_3b067_0 : decode cJ2_getChar_3b067 0 = .ok (.getstatic 44, 3) := zq_2 zo_178 zkJ2_getChar_3b067_0 0 rfl rfl 0 44 rfl rfl _ rfl
theorem dJ2_getChar_3b067_3 : decode cJ2_getChar_3b067 3 = .ok (.ifCond .ne 25, 3) := zq_2s zo_154 zkJ2_getChar_3b067_0 3 rfl rfl 0 25 rfl rfl _ (by decide +kernel)
theorem dJ2_getChar_3b067_6 : decode cJ2_getChar_3b067 6 = .ok (.iload_n 1, 1) := zq_0 zo_27 zkJ2_getChar_3b067_0 6 rfl rfl
theorem dJ2_getChar_3b067_7 : decode cJ2_getChar_3b067 7 = .ok (.ifCond .lt 11, 3) := zq_2s zo_155 zkJ2_getChar_3b067_0 7 rfl rfl 0 11 rfl rfl _ (by decide +kernel)
theorem dJ2_getChar_3b067_10 : decode cJ2_getChar_3b067 10 = .ok (.iload_n 1, 1) := zq_0 zo_27 zkJ2_getChar_3b067_0 10 rfl rfl
theorem dJ2_getChar_3b067_11 : decode cJ2_getChar_3b067 11 = .ok (.aload_n 0, 1) := zq_0 zo_42 zkJ2_getChar_3b067_0 11 rfl rfl
theorem dJ2_getChar_3b067_12 : decode cJ2_getChar_3b067 12 = .ok (.invokestatic 48, 3) := zq_2 zo_184 zkJ2_getChar_3b067_0 12 rfl rfl 0 48 rfl rfl _ rfl
theorem dJ2_getChar_3b067_15 : decode cJ2_getChar_3b067 15 = .ok (.if_icmp .lt 13, 3) := zq_2s zo_161 zkJ2_getChar_3b067_0 15 rfl rfl 0 13 rfl rfl _ (by decide +kernel)
theorem dJ2_getChar_3b067_18 : decode cJ2_getChar_3b067 18 = .ok (.new 52, 3) := zq_2 zo_187 zkJ2_getChar_3b067_0 18 rfl rfl 0 52 rfl rfl _ rfl
theorem dJ2_getChar_3b067_21 : decode cJ2_getChar_3b067 21 = .ok (.dup, 1) := zq_0 zo_89 zkJ2_getChar_3b067_0 21 rfl rfl
theorem dJ2_getChar_3b067_22 : decode cJ2_getChar_3b067 22 = .ok (.ldc 54, 2) := zq_1 zo_18 zkJ2_getChar_3b067_0 22 rfl rfl 54 rfl
theorem dJ2_getChar_3b067_24 : decode cJ2_getChar_3b067 24 = .ok (.invokespecial 56, 3) := zq_2 zo_183 zkJ2_getChar_3b067_0 24 rfl rfl 0 56 rfl rfl _ rfl
theorem dJ2_getChar_3b067_27 : decode cJ2_getChar_3b067 27 = .ok (.athrow, 1) := zq_0 zo_191 zkJ2_getChar_3b067_0 27 rfl rfl
theorem dJ2_getChar_3b067_28 : decode cJ2_getChar_3b067 28 = .ok (.iload_n 1, 1) := zq_0 zo_27 zkJ2_getChar_3b067_0 28 rfl rfl
theorem dJ2_getChar_3b067_29 : decode cJ2_getChar_3b067 29 = .ok (.iconst 1, 1) := zq_0 zo_4 zkJ2_getChar_3b067_0 29 rfl rfl
theorem dJ2_getChar_3b067_30 : decode cJ2_getChar_3b067 30 = .ok (.ishl, 1) := zq_0 zo_120 zkJ2_getChar_3b067_0 30 rfl rfl
theorem dJ2_getChar_3b067_31 : decode cJ2_getChar_3b067 31 = .ok (.istore_n 1, 1) := zq_0 zo_60 zkJ2_getChar_3b067_0 31 rfl rfl
theorem zkJ2_getChar_3b067_32 : zqc cJ2_getChar_3b067 32 [42, 27, 132, 1, 1, 51, 17, 0, 255, 126, 178, 0, 59, 120, 42, 27, 51, 17, 0, 255, 126, 178, 0, 63, 120, 128, 146, 172] := zq_of 28 (by decide +kernel)
theorem dJ2_getChar_3b067_32 : decode cJ2_getChar_3b067 32 = .ok (.aload_n 0, 1) := zq_0 zo_42 zkJ2_getChar_3b067_32 0 rfl rfl
theorem dJ2_getChar_3b067_33 : decode cJ2_getChar_3b067 33 = .ok (.iload_n 1, 1) := zq_0 zo_27 zkJ2_getChar_3b067_32 1 rfl rfl
theorem dJ2_getChar_3b067_34 : decode cJ2_getChar_3b067 34 = .ok (.iinc 1 1, 3) := zq_ii zo_132 zkJ2_getChar_3b067_32 2 rfl rfl 1 1 rfl rfl _ (by decide +kernel)
theorem dJ2_getChar_3b067_37 : decode cJ2_getChar_3b067 37 = .ok (.baload, 1) := zq_0 zo_51 zkJ2_getChar_3b067_32 5 rfl rfl
theorem dJ2_getChar_3b067_38 : decode cJ2_getChar_3b067 38 = .ok (.sipush 255, 3) := zq_2s zo_17 zkJ2_getChar_3b067_32 6 rfl rfl 0 255 rfl rfl _ (by decide +kernel)
theorem dJ2_getChar_3b067_41 : decode cJ2_getChar_3b067 41 = .ok (.iand, 1) := zq_0 zo_126 zkJ2_getChar_3b067_32 9 rfl rfl
theorem dJ2_getChar_3b067_42 : decode cJ2_getChar_3b067 42 = .ok (.getstatic 59, 3) := zq_2 zo_178 zkJ2_getChar_3b067_32 10 rfl rfl 0 59 rfl rfl _ rfl
theorem dJ2_getChar_3b067_45 : decode cJ2_getChar_3b067 45 = .ok (.ishl, 1) := zq_0 zo_120 zkJ2_getChar_3b067_32 13 rfl rfl
theorem dJ2_getChar_3b067_46 : decode cJ2_getChar_3b067 46 = .ok (.aload_n 0, 1) := zq_0 zo_42 zkJ2_getChar_3b067_32 14 rfl rfl
theorem dJ2_getChar_3b067_47 : decode cJ2_getChar_3b067 47 = .ok (.iload_n 1, 1) := zq_0 zo_27 zkJ2_getChar_3b067_32 15 rfl rfl
theorem dJ2_getChar_3b067_48 : decode cJ2_getChar_3b067 48 = .ok (.baload, 1) := zq_0 zo_51 zkJ2_getChar_3b067_32 16 rfl rfl
theorem dJ2_getChar_3b067_49 : decode cJ2_getChar_3b067 49 = .ok (.sipush 255, 3) := zq_2s zo_17 zkJ2_getChar_3b067_32 17 rfl rfl 0 255 rfl rfl _ (by decide +kernel)
theorem dJ2_getChar_3b067_52 : decode cJ2_getChar_3b067 52 = .ok (.iand, 1) := zq_0 zo_126 zkJ2_getChar_3b067_32 20 rfl rfl
theorem dJ2_getChar_3b067_53 : decode cJ2_getChar_3b067 53 = .ok (.getstatic 63, 3) := zq_2 zo_178 zkJ2_getChar_3b067_32 21 rfl rfl 0 63 rfl rfl _ rfl
theorem dJ2_getChar_3b067_56 : decode cJ2_getChar_3b067 56 = .ok (.ishl, 1) := zq_0 zo_120 zkJ2_getChar_3b067_32 24 rfl rfl
theorem dJ2_getChar_3b067_57 : decode cJ2_getChar_3b067 57 = .ok (.ior, 1) := zq_0 zo_128 zkJ2_getChar_3b067_32 25 rfl rfl
theorem dJ2_getChar_3b067_58 : decode cJ2_getChar_3b067 58 = .ok (.i2c, 1) := zq_0 zo_146 zkJ2_getChar_3b067_32 26 rfl rfl
theorem dJ2_getChar_3b067_59 : decode cJ2_getChar_3b067 59 = .ok (.ireturn, 1) := zq_0 zo_172 zkJ2_getChar_3b067_32 27 rfl rfl
theorem zkJ2_length_9d52b_0 : zqc cJ2_length_9d52b 0 [42, 190, 4, 122, 172] := zq_of 5 (by decide +kernel)
theorem dJ2_length_9d52b_0 : decode cJ2_length_9d52b 0 = .ok (.aload_n 0, 1) := zq_0 zo_42 zkJ2_length_9d52b_0 0 rfl rfl
theorem dJ2_length_9d52b_1 : decode cJ2_length_9d52b 1 = .ok (.arraylength, 1) := zq_0 zo_190 zkJ2_length_9d52b_0 1 rfl rfl
theorem dJ2_length_9d52b_2 : decode cJ2_length_9d52b 2 = .ok (.iconst 1, 1) := zq_0 zo_4 zkJ2_length_9d52b_0 2 rfl rfl
theorem dJ2_length_9d52b_3 : decode cJ2_length_9d52b 3 = .ok (.ishr, 1) := zq_0 zo_122 zkJ2_length_9d52b_0 3 rfl rfl
theorem dJ2_length_9d52b_4 : decode cJ2_length_9d52b 4 = .ok (.ireturn, 1) := zq_0 zo_172 zkJ2_length_9d52b_0 4 rfl rfl
theorem zkJ2_charAt_3b067_0 : zqc cJ2_charAt_3b067 0 [27, 42, 184, 0, 67, 42, 27, 184, 0, 71, 172] := zq_of 11 (by decide +kernel)
theorem dJ2_charAt_3b067_0 : decode cJ2_charAt_3b067 0 = .ok (.iload_n 1, 1) := zq_0 zo_27 zkJ2_charAt_3b067_0 0 rfl rfl
theorem dJ2_charAt_3b067_1 : decode cJ2_charAt_3b067 1 = .ok (.aload_n 0, 1) := zq_0 zo_42 zkJ2_charAt_3b067_0 1 rfl rfl
theorem dJ2_charAt_3b067_2 : decode cJ2_charAt_3b067 2 = .ok (.invokestatic 67, 3) := zq_2 zo_184 zkJ2_charAt_3b067_0 2 rfl rfl 0 67 rfl rfl _ rfl
theorem dJ2_charAt_3b067_5 : decode cJ2_charAt_3b067 5 = .ok (.aload_n 0, 1) := zq_0 zo_42 zkJ2_charAt_3b067_0 5 rfl rfl
theorem dJ2_charAt_3b067_6 : decode cJ2_charAt_3b067 6 = .ok (.iload_n 1, 1) := zq_0 zo_27 zkJ2_charAt_3b067_0 6 rfl rfl
theorem dJ2_charAt_3b067_7 : decode cJ2_charAt_3b067 7 = .ok (.invokestatic 71, 3) := zq_2 zo_184 zkJ2_charAt_3b067_0 7 rfl rfl 0 71 rfl rfl _ rfl
theorem dJ2_charAt_3b067_10 : decode cJ2_charAt_3b067 10 = .ok (.ireturn, 1) := zq_0 zo_172 zkJ2_charAt_3b067_0 10 rfl rfl
theorem zkJ2_checkIndex_2214a_0 : zqc cJ2_checkIndex_2214a 0 [26, 43, 184, 0, 48, 184, 1, 158, 177] := zq_of 9 (by decide +kernel)
theorem dJ2_checkIndex_2214a_0 : decode cJ2_checkIndex_2214a 0 = .ok (.iload_n 0, 1) := zq_0 zo_26 zkJ2_checkIndex_2214a_0 0 rfl rfl
theorem dJ2_checkIndex_2214a_1 : decode cJ2_checkIndex_2214a 1 = .ok (.aload_n 1, 1) := zq_0 zo_43 zkJ2_checkIndex_2214a_0 1 rfl rfl
theorem dJ2_checkIndex_2214a_2 : decode cJ2_checkIndex_2214a 2 = .ok (.invokestatic 48, 3) := zq_2 zo_184 zkJ2_checkIndex_2214a_0 2 rfl rfl 0 48 rfl rfl _ rfl
theorem dJ2_checkIndex_2214a_5 : decode cJ2_checkIndex_2214a 5 = .ok (.invokestatic 414, 3) := zq_2 zo_184 zkJ2_checkIndex_2214a_0 5 rfl rfl 1 158 rfl rfl _ rfl
theorem dJ2_checkIndex_2214a_8 : decode cJ2_checkIndex_2214a 8 = .ok (.return_, 1) := zq_0 zo_177 zkJ2_checkIndex_2214a_0 8 rfl rfl
theorem zkJ3_checkIndex_8e157_0 : zqc cJ3_checkIndex_8e157 0 [26, 155, 0, 8, 26, 27, 161, 0, 10, 44, 26, 27, 184, 0, 95, 191, 26, 172] := zq_of 18 (by decide +kernel)
theorem dJ3_checkIndex_8e157_0 : decode cJ3_checkIndex_8e157 0 = .ok (.iload_n 0, 1) := zq_0 zo_26 zkJ3_checkIndex_8e157_0 0 rfl rfl
theorem dJ3_checkIndex_8e157_1 : decode cJ3_checkIndex_8e157 1 = .ok (.ifCond .lt 8, 3) := zq_2s zo_155 zkJ3_checkIndex_8e157_0 1 rfl rfl 0 8 rfl rfl _ (by decide +kernel)
theorem dJ3_checkIndex_8e157_4 : decode cJ3_checkIndex_8e157 4 = .ok (.iload_n 0, 1) := zq_0 zo_26 zkJ3_checkIndex_8e157_0 4 rfl rfl
theorem dJ3_checkIndex_8e157_5 : decode cJ3_checkIndex_8e157 5 = .ok (.iload_n 1, 1) := zq_0 zo_27 zkJ3_checkIndex_8e157_0 5 rfl rfl
theorem dJ3_checkIndex_8e157_6 : decode cJ3_checkIndex_8e157 6 = .ok (.if_icmp .lt 10, 3) := zq_2s zo_161 zkJ3_checkIndex_8e157_0 6 rfl rfl 0 10 rfl rfl _ (by decide +kernel)
theorem dJ3_checkIndex_8e157_9 : decode cJ3_checkIndex_8e157 9 = .ok (.aload_n 2, 1) := zq_0 zo_44 zkJ3_checkIndex_8e157_0 9 rfl rfl
theorem dJ3_checkIndex_8e157_10 : decode cJ3_checkIndex_8e157 10 = .ok (.iload_n 0, 1) := zq_0 zo_26 zkJ3_checkIndex_8e157_0 10 rfl rfl
theorem dJ3_checkIndex_8e157_11 : decode cJ3_checkIndex_8e157 11 = .ok (.iload_n 1, 1) := zq_0 zo_27 zkJ3_checkIndex_8e157_0 11 rfl rfl
theorem dJ3_checkIndex_8e157_12 : decode cJ3_checkIndex_8e157 12 = .ok (.invokestatic 95, 3) := zq_2 zo_184 zkJ3_checkIndex_8e157_0 12 rfl rfl 0 95 rfl rfl _ rfl
theorem dJ3_checkIndex_8e157_15 : decode cJ3_checkIndex_8e157 15 = .ok (.athrow, 1) := zq_0 zo_191 zkJ3_checkIndex_8e157_0 15 rfl rfl
theorem dJ3_checkIndex_8e157_16 : decode cJ3_checkIndex_8e157 16 = .ok (.iload_n 0, 1) := zq_0 zo_26 zkJ3_checkIndex_8e157_0 16 rfl rfl
theorem dJ3_checkIndex_8e157_17 : decode cJ3_checkIndex_8e157 17 = .ok (.ireturn, 1) := zq_0 zo_172 zkJ3_checkIndex_8e157_0 17 rfl rfl
